def R_law : String := "EndowBookLaw"
def lw_P (b : Addr) (xs : List Int32) (args : Array Value) (s : State) : Prop := args = #[.ref b] ∧ s.IntsAt b xs ∧ xs.length ≤ 260 ∧ (Jvm.Cond.and given_1 narrow_1).before args s = true
def lw_Q (_ : Array Value) (s : State) (o : Outcome) (t : State) : Prop := o = .returned (some (.int 1)) ∧ Framed s o t [] 600000 7302250
def lw_Z (below : List Frame) (a : Array Value) (s : State) : State → Prop := fun t => ∃ o, t.status = .running ∧ Ended t below o ∧ lw_Q a s o t
/-- the law's own end, with 1 on the stack, nothing written that was there before, its room as the claim has it -/
theorem lw_ret {p : Program} {l : Launch} {e : Env} {s : State} {m : MethodId} {below : List Frame} {meth : Method} {c : Code} {b : Nat} (hx : p.tables.exec = Jvm.exec) (hb : c.code = code) (hr : meth.sig.returnType = ret) (hlocks : meth.locks = false) {pc : Nat} {H : Heap} {ls : Array Slot} (hdg : decode code pc = .ok (.ireturn, 1)) : W p l e room_1 s m #[Value.ref b] below meth c H [] 600000 7302250 (lw_Z below #[Value.ref b] s) (F0 m pc ls [.int 1]) := by
  intro T hT X
  obtain ⟨fs, hret, hrun, hended, hW, hframe⟩ := X.leave (v := some (.int 1)) (hlocks := hlocks) (fun h => by rw [hr] at h; cases h)
  have hmeth' : T.vm.method? m = some meth := X.method'
  refine ⟨T.setFrames fs, ?_, .returned (some (.int 1)), hrun, hended, rfl, ⟨_, rfl⟩, hW, hframe⟩
  jvm_step X.here [X.here.top, hx, hb, hdg, hmeth', hr, ret, narrow_b1]
  (try refine ⟨rfl, ?_⟩); (try refine ⟨rfl, ?_⟩)
  first | (intro acts; rw [hret _ acts rfl rfl rfl]) | rw [hret _ _ rfl rfl rfl]
  exact Steps.refl _
/-- what holds at the law's entry: the machine, the code, the tables' words (any of lw_tbl by 'hts w (by decide +kernel)'), the script of L ints xs at the cell b, what the Statement gives of the start (any of its parts by flat_of_before) -/
def lw_At (p : Program) (s : State) (m : MethodId) (meth : Method) (c : Code) (b L : Nat) (xs : Nat → Int32) : Prop :=
  p.tables.exec = Jvm.exec ∧ c.code = code ∧ meth.sig.returnType = ret ∧ c.maxLocals = 11 ∧ s.vm.findClass R_law = some m.cls ∧ (∀ w ∈ lw_tbl, w.before #[Value.ref b] s = true) ∧ va_X b L xs s s.heap ∧ b < s.heap.size ∧ meth.locks = false ∧ (Jvm.Cond.and given_1 narrow_1).before #[Value.ref b] s = true
def am_PR : Cond := Jvm.Cond.and given_1 narrow_1
def am_tm (i : Nat) : Term := .string (am_SO i) (am_SLT.getD i (0, "")).1
set_option maxRecDepth 20000 in
theorem am_ex : ∀ i : Nat, i < 29 → Cond.exactly (am_tm i) "java/lang/String" ∈ flatC am_PR
  | 0, _ => List.mem_of_getElem? (i := 343) rfl
  | 1, _ => List.mem_of_getElem? (i := 352) rfl
  | 2, _ => List.mem_of_getElem? (i := 357) rfl
  | 3, _ => List.mem_of_getElem? (i := 365) rfl
  | 4, _ => List.mem_of_getElem? (i := 374) rfl
  | 5, _ => List.mem_of_getElem? (i := 379) rfl
  | 6, _ => List.mem_of_getElem? (i := 386) rfl
  | 7, _ => List.mem_of_getElem? (i := 394) rfl
  | 8, _ => List.mem_of_getElem? (i := 404) rfl
  | 9, _ => List.mem_of_getElem? (i := 411) rfl
  | 10, _ => List.mem_of_getElem? (i := 420) rfl
  | 11, _ => List.mem_of_getElem? (i := 428) rfl
  | 12, _ => List.mem_of_getElem? (i := 437) rfl
  | 13, _ => List.mem_of_getElem? (i := 447) rfl
  | 14, _ => List.mem_of_getElem? (i := 215) rfl
  | 15, _ => List.mem_of_getElem? (i := 223) rfl
  | 16, _ => List.mem_of_getElem? (i := 229) rfl
  | 17, _ => List.mem_of_getElem? (i := 243) rfl
  | 18, _ => List.mem_of_getElem? (i := 247) rfl
  | 19, _ => List.mem_of_getElem? (i := 253) rfl
  | 20, _ => List.mem_of_getElem? (i := 262) rfl
  | 21, _ => List.mem_of_getElem? (i := 271) rfl
  | 22, _ => List.mem_of_getElem? (i := 281) rfl
  | 23, _ => List.mem_of_getElem? (i := 295) rfl
  | 24, _ => List.mem_of_getElem? (i := 303) rfl
  | 25, _ => List.mem_of_getElem? (i := 311) rfl
  | 26, _ => List.mem_of_getElem? (i := 323) rfl
  | 27, _ => List.mem_of_getElem? (i := 334) rfl
  | 28, _ => List.mem_of_getElem? (i := 454) rfl
  | i + 29, h => absurd h (by omega)
set_option maxRecDepth 20000 in
theorem am_co : ∀ i : Nat, i < 29 → Cond.eq (.field (am_tm i) "java/lang/String" "coder" "B") (.int 0) ∈ flatC am_PR
  | 0, _ => List.mem_of_getElem? (i := 344) rfl
  | 1, _ => List.mem_of_getElem? (i := 353) rfl
  | 2, _ => List.mem_of_getElem? (i := 358) rfl
  | 3, _ => List.mem_of_getElem? (i := 366) rfl
  | 4, _ => List.mem_of_getElem? (i := 375) rfl
  | 5, _ => List.mem_of_getElem? (i := 380) rfl
  | 6, _ => List.mem_of_getElem? (i := 387) rfl
  | 7, _ => List.mem_of_getElem? (i := 395) rfl
  | 8, _ => List.mem_of_getElem? (i := 405) rfl
  | 9, _ => List.mem_of_getElem? (i := 412) rfl
  | 10, _ => List.mem_of_getElem? (i := 421) rfl
  | 11, _ => List.mem_of_getElem? (i := 429) rfl
  | 12, _ => List.mem_of_getElem? (i := 438) rfl
  | 13, _ => List.mem_of_getElem? (i := 448) rfl
  | 14, _ => List.mem_of_getElem? (i := 216) rfl
  | 15, _ => List.mem_of_getElem? (i := 224) rfl
  | 16, _ => List.mem_of_getElem? (i := 230) rfl
  | 17, _ => List.mem_of_getElem? (i := 244) rfl
  | 18, _ => List.mem_of_getElem? (i := 248) rfl
  | 19, _ => List.mem_of_getElem? (i := 254) rfl
  | 20, _ => List.mem_of_getElem? (i := 263) rfl
  | 21, _ => List.mem_of_getElem? (i := 272) rfl
  | 22, _ => List.mem_of_getElem? (i := 282) rfl
  | 23, _ => List.mem_of_getElem? (i := 296) rfl
  | 24, _ => List.mem_of_getElem? (i := 304) rfl
  | 25, _ => List.mem_of_getElem? (i := 312) rfl
  | 26, _ => List.mem_of_getElem? (i := 324) rfl
  | 27, _ => List.mem_of_getElem? (i := 335) rfl
  | 28, _ => List.mem_of_getElem? (i := 455) rfl
  | i + 29, h => absurd h (by omega)
set_option maxRecDepth 20000 in
theorem am_av : ∀ i : Nat, i < 29 → Cond.arrayOf (.field (am_tm i) "java/lang/String" "value" "[B") .byte ∈ flatC am_PR
  | 0, _ => List.mem_of_getElem? (i := 345) rfl
  | 1, _ => List.mem_of_getElem? (i := 354) rfl
  | 2, _ => List.mem_of_getElem? (i := 359) rfl
  | 3, _ => List.mem_of_getElem? (i := 367) rfl
  | 4, _ => List.mem_of_getElem? (i := 376) rfl
  | 5, _ => List.mem_of_getElem? (i := 381) rfl
  | 6, _ => List.mem_of_getElem? (i := 388) rfl
  | 7, _ => List.mem_of_getElem? (i := 396) rfl
  | 8, _ => List.mem_of_getElem? (i := 406) rfl
  | 9, _ => List.mem_of_getElem? (i := 413) rfl
  | 10, _ => List.mem_of_getElem? (i := 422) rfl
  | 11, _ => List.mem_of_getElem? (i := 430) rfl
  | 12, _ => List.mem_of_getElem? (i := 439) rfl
  | 13, _ => List.mem_of_getElem? (i := 449) rfl
  | 14, _ => List.mem_of_getElem? (i := 217) rfl
  | 15, _ => List.mem_of_getElem? (i := 225) rfl
  | 16, _ => List.mem_of_getElem? (i := 231) rfl
  | 17, _ => List.mem_of_getElem? (i := 245) rfl
  | 18, _ => List.mem_of_getElem? (i := 249) rfl
  | 19, _ => List.mem_of_getElem? (i := 255) rfl
  | 20, _ => List.mem_of_getElem? (i := 264) rfl
  | 21, _ => List.mem_of_getElem? (i := 273) rfl
  | 22, _ => List.mem_of_getElem? (i := 283) rfl
  | 23, _ => List.mem_of_getElem? (i := 297) rfl
  | 24, _ => List.mem_of_getElem? (i := 305) rfl
  | 25, _ => List.mem_of_getElem? (i := 313) rfl
  | 26, _ => List.mem_of_getElem? (i := 325) rfl
  | 27, _ => List.mem_of_getElem? (i := 336) rfl
  | 28, _ => List.mem_of_getElem? (i := 456) rfl
  | i + 29, h => absurd h (by omega)
set_option maxRecDepth 20000 in
theorem am_ln : ∀ i : Nat, i < 29 → Cond.eq (.length (.field (am_tm i) "java/lang/String" "value" "[B")) (.int (Int32.ofNat (am_lns.getD i 0))) ∈ flatC am_PR
  | 0, _ => List.mem_of_getElem? (i := 346) rfl
  | 1, _ => List.mem_of_getElem? (i := 355) rfl
  | 2, _ => List.mem_of_getElem? (i := 360) rfl
  | 3, _ => List.mem_of_getElem? (i := 368) rfl
  | 4, _ => List.mem_of_getElem? (i := 377) rfl
  | 5, _ => List.mem_of_getElem? (i := 382) rfl
  | 6, _ => List.mem_of_getElem? (i := 389) rfl
  | 7, _ => List.mem_of_getElem? (i := 397) rfl
  | 8, _ => List.mem_of_getElem? (i := 407) rfl
  | 9, _ => List.mem_of_getElem? (i := 414) rfl
  | 10, _ => List.mem_of_getElem? (i := 423) rfl
  | 11, _ => List.mem_of_getElem? (i := 431) rfl
  | 12, _ => List.mem_of_getElem? (i := 440) rfl
  | 13, _ => List.mem_of_getElem? (i := 450) rfl
  | 14, _ => List.mem_of_getElem? (i := 218) rfl
  | 15, _ => List.mem_of_getElem? (i := 226) rfl
  | 16, _ => List.mem_of_getElem? (i := 232) rfl
  | 17, _ => List.mem_of_getElem? (i := 246) rfl
  | 18, _ => List.mem_of_getElem? (i := 250) rfl
  | 19, _ => List.mem_of_getElem? (i := 256) rfl
  | 20, _ => List.mem_of_getElem? (i := 265) rfl
  | 21, _ => List.mem_of_getElem? (i := 274) rfl
  | 22, _ => List.mem_of_getElem? (i := 284) rfl
  | 23, _ => List.mem_of_getElem? (i := 298) rfl
  | 24, _ => List.mem_of_getElem? (i := 306) rfl
  | 25, _ => List.mem_of_getElem? (i := 314) rfl
  | 26, _ => List.mem_of_getElem? (i := 326) rfl
  | 27, _ => List.mem_of_getElem? (i := 337) rfl
  | 28, _ => List.mem_of_getElem? (i := 457) rfl
  | i + 29, h => absurd h (by omega)
set_option maxRecDepth 20000 in
theorem am_el0 : ∀ j : Nat, j < 4 → Cond.eq (.elem (.field (am_tm 0) "java/lang/String" "value" "[B") (.int (Int32.ofNat j))) (.int ((am_byt.getD 0 []).getD j 0)) ∈ flatC am_PR
  | 0, _ => List.mem_of_getElem? (i := 347) rfl
  | 1, _ => List.mem_of_getElem? (i := 348) rfl
  | 2, _ => List.mem_of_getElem? (i := 349) rfl
  | 3, _ => List.mem_of_getElem? (i := 350) rfl
  | j + 4, h => absurd h (by omega)
set_option maxRecDepth 20000 in
theorem am_el1 : ∀ j : Nat, j < 1 → Cond.eq (.elem (.field (am_tm 1) "java/lang/String" "value" "[B") (.int (Int32.ofNat j))) (.int ((am_byt.getD 1 []).getD j 0)) ∈ flatC am_PR
  | 0, _ => List.mem_of_getElem? (i := 356) rfl
  | j + 1, h => absurd h (by omega)
set_option maxRecDepth 20000 in
theorem am_el2 : ∀ j : Nat, j < 4 → Cond.eq (.elem (.field (am_tm 2) "java/lang/String" "value" "[B") (.int (Int32.ofNat j))) (.int ((am_byt.getD 2 []).getD j 0)) ∈ flatC am_PR
  | 0, _ => List.mem_of_getElem? (i := 361) rfl
  | 1, _ => List.mem_of_getElem? (i := 362) rfl
  | 2, _ => List.mem_of_getElem? (i := 363) rfl
  | 3, _ => List.mem_of_getElem? (i := 364) rfl
  | j + 4, h => absurd h (by omega)
set_option maxRecDepth 20000 in
theorem am_el3 : ∀ j : Nat, j < 5 → Cond.eq (.elem (.field (am_tm 3) "java/lang/String" "value" "[B") (.int (Int32.ofNat j))) (.int ((am_byt.getD 3 []).getD j 0)) ∈ flatC am_PR
  | 0, _ => List.mem_of_getElem? (i := 369) rfl
  | 1, _ => List.mem_of_getElem? (i := 370) rfl
  | 2, _ => List.mem_of_getElem? (i := 371) rfl
  | 3, _ => List.mem_of_getElem? (i := 372) rfl
  | 4, _ => List.mem_of_getElem? (i := 373) rfl
  | j + 5, h => absurd h (by omega)
set_option maxRecDepth 20000 in
theorem am_el4 : ∀ j : Nat, j < 1 → Cond.eq (.elem (.field (am_tm 4) "java/lang/String" "value" "[B") (.int (Int32.ofNat j))) (.int ((am_byt.getD 4 []).getD j 0)) ∈ flatC am_PR
  | 0, _ => List.mem_of_getElem? (i := 378) rfl
  | j + 1, h => absurd h (by omega)
set_option maxRecDepth 20000 in
theorem am_el5 : ∀ j : Nat, j < 3 → Cond.eq (.elem (.field (am_tm 5) "java/lang/String" "value" "[B") (.int (Int32.ofNat j))) (.int ((am_byt.getD 5 []).getD j 0)) ∈ flatC am_PR
  | 0, _ => List.mem_of_getElem? (i := 383) rfl
  | 1, _ => List.mem_of_getElem? (i := 384) rfl
  | 2, _ => List.mem_of_getElem? (i := 385) rfl
  | j + 3, h => absurd h (by omega)
set_option maxRecDepth 20000 in
theorem am_el6 : ∀ j : Nat, j < 4 → Cond.eq (.elem (.field (am_tm 6) "java/lang/String" "value" "[B") (.int (Int32.ofNat j))) (.int ((am_byt.getD 6 []).getD j 0)) ∈ flatC am_PR
  | 0, _ => List.mem_of_getElem? (i := 390) rfl
  | 1, _ => List.mem_of_getElem? (i := 391) rfl
  | 2, _ => List.mem_of_getElem? (i := 392) rfl
  | 3, _ => List.mem_of_getElem? (i := 393) rfl
  | j + 4, h => absurd h (by omega)
set_option maxRecDepth 20000 in
theorem am_el7 : ∀ j : Nat, j < 5 → Cond.eq (.elem (.field (am_tm 7) "java/lang/String" "value" "[B") (.int (Int32.ofNat j))) (.int ((am_byt.getD 7 []).getD j 0)) ∈ flatC am_PR
  | 0, _ => List.mem_of_getElem? (i := 398) rfl
  | 1, _ => List.mem_of_getElem? (i := 399) rfl
  | 2, _ => List.mem_of_getElem? (i := 400) rfl
  | 3, _ => List.mem_of_getElem? (i := 401) rfl
  | 4, _ => List.mem_of_getElem? (i := 402) rfl
  | j + 5, h => absurd h (by omega)
set_option maxRecDepth 20000 in
theorem am_el8 : ∀ j : Nat, j < 2 → Cond.eq (.elem (.field (am_tm 8) "java/lang/String" "value" "[B") (.int (Int32.ofNat j))) (.int ((am_byt.getD 8 []).getD j 0)) ∈ flatC am_PR
  | 0, _ => List.mem_of_getElem? (i := 408) rfl
  | 1, _ => List.mem_of_getElem? (i := 409) rfl
  | j + 2, h => absurd h (by omega)
set_option maxRecDepth 20000 in
theorem am_el9 : ∀ j : Nat, j < 5 → Cond.eq (.elem (.field (am_tm 9) "java/lang/String" "value" "[B") (.int (Int32.ofNat j))) (.int ((am_byt.getD 9 []).getD j 0)) ∈ flatC am_PR
  | 0, _ => List.mem_of_getElem? (i := 415) rfl
  | 1, _ => List.mem_of_getElem? (i := 416) rfl
  | 2, _ => List.mem_of_getElem? (i := 417) rfl
  | 3, _ => List.mem_of_getElem? (i := 418) rfl
  | 4, _ => List.mem_of_getElem? (i := 419) rfl
  | j + 5, h => absurd h (by omega)
set_option maxRecDepth 20000 in
theorem am_el10 : ∀ j : Nat, j < 4 → Cond.eq (.elem (.field (am_tm 10) "java/lang/String" "value" "[B") (.int (Int32.ofNat j))) (.int ((am_byt.getD 10 []).getD j 0)) ∈ flatC am_PR
  | 0, _ => List.mem_of_getElem? (i := 424) rfl
  | 1, _ => List.mem_of_getElem? (i := 425) rfl
  | 2, _ => List.mem_of_getElem? (i := 426) rfl
  | 3, _ => List.mem_of_getElem? (i := 427) rfl
  | j + 4, h => absurd h (by omega)
set_option maxRecDepth 20000 in
theorem am_el11 : ∀ j : Nat, j < 4 → Cond.eq (.elem (.field (am_tm 11) "java/lang/String" "value" "[B") (.int (Int32.ofNat j))) (.int ((am_byt.getD 11 []).getD j 0)) ∈ flatC am_PR
  | 0, _ => List.mem_of_getElem? (i := 432) rfl
  | 1, _ => List.mem_of_getElem? (i := 433) rfl
  | 2, _ => List.mem_of_getElem? (i := 434) rfl
  | 3, _ => List.mem_of_getElem? (i := 435) rfl
  | j + 4, h => absurd h (by omega)
set_option maxRecDepth 20000 in
theorem am_el12 : ∀ j : Nat, j < 5 → Cond.eq (.elem (.field (am_tm 12) "java/lang/String" "value" "[B") (.int (Int32.ofNat j))) (.int ((am_byt.getD 12 []).getD j 0)) ∈ flatC am_PR
  | 0, _ => List.mem_of_getElem? (i := 441) rfl
  | 1, _ => List.mem_of_getElem? (i := 442) rfl
  | 2, _ => List.mem_of_getElem? (i := 443) rfl
  | 3, _ => List.mem_of_getElem? (i := 444) rfl
  | 4, _ => List.mem_of_getElem? (i := 445) rfl
  | j + 5, h => absurd h (by omega)
set_option maxRecDepth 20000 in
theorem am_el13 : ∀ j : Nat, j < 2 → Cond.eq (.elem (.field (am_tm 13) "java/lang/String" "value" "[B") (.int (Int32.ofNat j))) (.int ((am_byt.getD 13 []).getD j 0)) ∈ flatC am_PR
  | 0, _ => List.mem_of_getElem? (i := 451) rfl
  | 1, _ => List.mem_of_getElem? (i := 452) rfl
  | j + 2, h => absurd h (by omega)
set_option maxRecDepth 20000 in
theorem am_el14 : ∀ j : Nat, j < 4 → Cond.eq (.elem (.field (am_tm 14) "java/lang/String" "value" "[B") (.int (Int32.ofNat j))) (.int ((am_byt.getD 14 []).getD j 0)) ∈ flatC am_PR
  | 0, _ => List.mem_of_getElem? (i := 219) rfl
  | 1, _ => List.mem_of_getElem? (i := 220) rfl
  | 2, _ => List.mem_of_getElem? (i := 221) rfl
  | 3, _ => List.mem_of_getElem? (i := 222) rfl
  | j + 4, h => absurd h (by omega)
set_option maxRecDepth 20000 in
theorem am_el15 : ∀ j : Nat, j < 2 → Cond.eq (.elem (.field (am_tm 15) "java/lang/String" "value" "[B") (.int (Int32.ofNat j))) (.int ((am_byt.getD 15 []).getD j 0)) ∈ flatC am_PR
  | 0, _ => List.mem_of_getElem? (i := 227) rfl
  | 1, _ => List.mem_of_getElem? (i := 228) rfl
  | j + 2, h => absurd h (by omega)
set_option maxRecDepth 20000 in
theorem am_el16 : ∀ j : Nat, j < 10 → Cond.eq (.elem (.field (am_tm 16) "java/lang/String" "value" "[B") (.int (Int32.ofNat j))) (.int ((am_byt.getD 16 []).getD j 0)) ∈ flatC am_PR
  | 0, _ => List.mem_of_getElem? (i := 233) rfl
  | 1, _ => List.mem_of_getElem? (i := 234) rfl
  | 2, _ => List.mem_of_getElem? (i := 235) rfl
  | 3, _ => List.mem_of_getElem? (i := 236) rfl
  | 4, _ => List.mem_of_getElem? (i := 237) rfl
  | 5, _ => List.mem_of_getElem? (i := 238) rfl
  | 6, _ => List.mem_of_getElem? (i := 239) rfl
  | 7, _ => List.mem_of_getElem? (i := 240) rfl
  | 8, _ => List.mem_of_getElem? (i := 241) rfl
  | 9, _ => List.mem_of_getElem? (i := 242) rfl
  | j + 10, h => absurd h (by omega)
set_option maxRecDepth 20000 in
theorem am_el17 : ∀ j : Nat, j < 0 → Cond.eq (.elem (.field (am_tm 17) "java/lang/String" "value" "[B") (.int (Int32.ofNat j))) (.int ((am_byt.getD 17 []).getD j 0)) ∈ flatC am_PR
  | j + 0, h => absurd h (by omega)
set_option maxRecDepth 20000 in
theorem am_el18 : ∀ j : Nat, j < 2 → Cond.eq (.elem (.field (am_tm 18) "java/lang/String" "value" "[B") (.int (Int32.ofNat j))) (.int ((am_byt.getD 18 []).getD j 0)) ∈ flatC am_PR
  | 0, _ => List.mem_of_getElem? (i := 251) rfl
  | 1, _ => List.mem_of_getElem? (i := 252) rfl
  | j + 2, h => absurd h (by omega)
set_option maxRecDepth 20000 in
theorem am_el19 : ∀ j : Nat, j < 5 → Cond.eq (.elem (.field (am_tm 19) "java/lang/String" "value" "[B") (.int (Int32.ofNat j))) (.int ((am_byt.getD 19 []).getD j 0)) ∈ flatC am_PR
  | 0, _ => List.mem_of_getElem? (i := 257) rfl
  | 1, _ => List.mem_of_getElem? (i := 258) rfl
  | 2, _ => List.mem_of_getElem? (i := 259) rfl
  | 3, _ => List.mem_of_getElem? (i := 260) rfl
  | 4, _ => List.mem_of_getElem? (i := 261) rfl
  | j + 5, h => absurd h (by omega)
set_option maxRecDepth 20000 in
theorem am_el20 : ∀ j : Nat, j < 5 → Cond.eq (.elem (.field (am_tm 20) "java/lang/String" "value" "[B") (.int (Int32.ofNat j))) (.int ((am_byt.getD 20 []).getD j 0)) ∈ flatC am_PR
  | 0, _ => List.mem_of_getElem? (i := 266) rfl
  | 1, _ => List.mem_of_getElem? (i := 267) rfl
  | 2, _ => List.mem_of_getElem? (i := 268) rfl
  | 3, _ => List.mem_of_getElem? (i := 269) rfl
  | 4, _ => List.mem_of_getElem? (i := 270) rfl
  | j + 5, h => absurd h (by omega)
set_option maxRecDepth 20000 in
theorem am_el21 : ∀ j : Nat, j < 6 → Cond.eq (.elem (.field (am_tm 21) "java/lang/String" "value" "[B") (.int (Int32.ofNat j))) (.int ((am_byt.getD 21 []).getD j 0)) ∈ flatC am_PR
  | 0, _ => List.mem_of_getElem? (i := 275) rfl
  | 1, _ => List.mem_of_getElem? (i := 276) rfl
  | 2, _ => List.mem_of_getElem? (i := 277) rfl
  | 3, _ => List.mem_of_getElem? (i := 278) rfl
  | 4, _ => List.mem_of_getElem? (i := 279) rfl
  | 5, _ => List.mem_of_getElem? (i := 280) rfl
  | j + 6, h => absurd h (by omega)
set_option maxRecDepth 20000 in
theorem am_el22 : ∀ j : Nat, j < 10 → Cond.eq (.elem (.field (am_tm 22) "java/lang/String" "value" "[B") (.int (Int32.ofNat j))) (.int ((am_byt.getD 22 []).getD j 0)) ∈ flatC am_PR
  | 0, _ => List.mem_of_getElem? (i := 285) rfl
  | 1, _ => List.mem_of_getElem? (i := 286) rfl
  | 2, _ => List.mem_of_getElem? (i := 287) rfl
  | 3, _ => List.mem_of_getElem? (i := 288) rfl
  | 4, _ => List.mem_of_getElem? (i := 289) rfl
  | 5, _ => List.mem_of_getElem? (i := 290) rfl
  | 6, _ => List.mem_of_getElem? (i := 291) rfl
  | 7, _ => List.mem_of_getElem? (i := 292) rfl
  | 8, _ => List.mem_of_getElem? (i := 293) rfl
  | 9, _ => List.mem_of_getElem? (i := 294) rfl
  | j + 10, h => absurd h (by omega)
set_option maxRecDepth 20000 in
theorem am_el23 : ∀ j : Nat, j < 4 → Cond.eq (.elem (.field (am_tm 23) "java/lang/String" "value" "[B") (.int (Int32.ofNat j))) (.int ((am_byt.getD 23 []).getD j 0)) ∈ flatC am_PR
  | 0, _ => List.mem_of_getElem? (i := 299) rfl
  | 1, _ => List.mem_of_getElem? (i := 300) rfl
  | 2, _ => List.mem_of_getElem? (i := 301) rfl
  | 3, _ => List.mem_of_getElem? (i := 302) rfl
  | j + 4, h => absurd h (by omega)
set_option maxRecDepth 20000 in
theorem am_el24 : ∀ j : Nat, j < 4 → Cond.eq (.elem (.field (am_tm 24) "java/lang/String" "value" "[B") (.int (Int32.ofNat j))) (.int ((am_byt.getD 24 []).getD j 0)) ∈ flatC am_PR
  | 0, _ => List.mem_of_getElem? (i := 307) rfl
  | 1, _ => List.mem_of_getElem? (i := 308) rfl
  | 2, _ => List.mem_of_getElem? (i := 309) rfl
  | 3, _ => List.mem_of_getElem? (i := 310) rfl
  | j + 4, h => absurd h (by omega)
set_option maxRecDepth 20000 in
theorem am_el25 : ∀ j : Nat, j < 8 → Cond.eq (.elem (.field (am_tm 25) "java/lang/String" "value" "[B") (.int (Int32.ofNat j))) (.int ((am_byt.getD 25 []).getD j 0)) ∈ flatC am_PR
  | 0, _ => List.mem_of_getElem? (i := 315) rfl
  | 1, _ => List.mem_of_getElem? (i := 316) rfl
  | 2, _ => List.mem_of_getElem? (i := 317) rfl
  | 3, _ => List.mem_of_getElem? (i := 318) rfl
  | 4, _ => List.mem_of_getElem? (i := 319) rfl
  | 5, _ => List.mem_of_getElem? (i := 320) rfl
  | 6, _ => List.mem_of_getElem? (i := 321) rfl
  | 7, _ => List.mem_of_getElem? (i := 322) rfl
  | j + 8, h => absurd h (by omega)
set_option maxRecDepth 20000 in
theorem am_el26 : ∀ j : Nat, j < 7 → Cond.eq (.elem (.field (am_tm 26) "java/lang/String" "value" "[B") (.int (Int32.ofNat j))) (.int ((am_byt.getD 26 []).getD j 0)) ∈ flatC am_PR
  | 0, _ => List.mem_of_getElem? (i := 327) rfl
  | 1, _ => List.mem_of_getElem? (i := 328) rfl
  | 2, _ => List.mem_of_getElem? (i := 329) rfl
  | 3, _ => List.mem_of_getElem? (i := 330) rfl
  | 4, _ => List.mem_of_getElem? (i := 331) rfl
  | 5, _ => List.mem_of_getElem? (i := 332) rfl
  | 6, _ => List.mem_of_getElem? (i := 333) rfl
  | j + 7, h => absurd h (by omega)
set_option maxRecDepth 20000 in
theorem am_el27 : ∀ j : Nat, j < 5 → Cond.eq (.elem (.field (am_tm 27) "java/lang/String" "value" "[B") (.int (Int32.ofNat j))) (.int ((am_byt.getD 27 []).getD j 0)) ∈ flatC am_PR
  | 0, _ => List.mem_of_getElem? (i := 338) rfl
  | 1, _ => List.mem_of_getElem? (i := 339) rfl
  | 2, _ => List.mem_of_getElem? (i := 340) rfl
  | 3, _ => List.mem_of_getElem? (i := 341) rfl
  | 4, _ => List.mem_of_getElem? (i := 342) rfl
  | j + 5, h => absurd h (by omega)
set_option maxRecDepth 20000 in
theorem am_el28 : ∀ j : Nat, j < 23 → Cond.eq (.elem (.field (am_tm 28) "java/lang/String" "value" "[B") (.int (Int32.ofNat j))) (.int ((am_byt.getD 28 []).getD j 0)) ∈ flatC am_PR
  | 0, _ => List.mem_of_getElem? (i := 458) rfl
  | 1, _ => List.mem_of_getElem? (i := 459) rfl
  | 2, _ => List.mem_of_getElem? (i := 460) rfl
  | 3, _ => List.mem_of_getElem? (i := 461) rfl
  | 4, _ => List.mem_of_getElem? (i := 462) rfl
  | 5, _ => List.mem_of_getElem? (i := 463) rfl
  | 6, _ => List.mem_of_getElem? (i := 464) rfl
  | 7, _ => List.mem_of_getElem? (i := 465) rfl
  | 8, _ => List.mem_of_getElem? (i := 466) rfl
  | 9, _ => List.mem_of_getElem? (i := 467) rfl
  | 10, _ => List.mem_of_getElem? (i := 468) rfl
  | 11, _ => List.mem_of_getElem? (i := 469) rfl
  | 12, _ => List.mem_of_getElem? (i := 470) rfl
  | 13, _ => List.mem_of_getElem? (i := 471) rfl
  | 14, _ => List.mem_of_getElem? (i := 472) rfl
  | 15, _ => List.mem_of_getElem? (i := 473) rfl
  | 16, _ => List.mem_of_getElem? (i := 474) rfl
  | 17, _ => List.mem_of_getElem? (i := 475) rfl
  | 18, _ => List.mem_of_getElem? (i := 476) rfl
  | 19, _ => List.mem_of_getElem? (i := 477) rfl
  | 20, _ => List.mem_of_getElem? (i := 478) rfl
  | 21, _ => List.mem_of_getElem? (i := 479) rfl
  | 22, _ => List.mem_of_getElem? (i := 480) rfl
  | j + 23, h => absurd h (by omega)
theorem am_el : ∀ i : Nat, i < 29 → ∀ j : Nat, j < am_lns.getD i 0 → Cond.eq (.elem (.field (am_tm i) "java/lang/String" "value" "[B") (.int (Int32.ofNat j))) (.int ((am_byt.getD i []).getD j 0)) ∈ flatC am_PR
  | 0, _, j, hj => am_el0 j hj
  | 1, _, j, hj => am_el1 j hj
  | 2, _, j, hj => am_el2 j hj
  | 3, _, j, hj => am_el3 j hj
  | 4, _, j, hj => am_el4 j hj
  | 5, _, j, hj => am_el5 j hj
  | 6, _, j, hj => am_el6 j hj
  | 7, _, j, hj => am_el7 j hj
  | 8, _, j, hj => am_el8 j hj
  | 9, _, j, hj => am_el9 j hj
  | 10, _, j, hj => am_el10 j hj
  | 11, _, j, hj => am_el11 j hj
  | 12, _, j, hj => am_el12 j hj
  | 13, _, j, hj => am_el13 j hj
  | 14, _, j, hj => am_el14 j hj
  | 15, _, j, hj => am_el15 j hj
  | 16, _, j, hj => am_el16 j hj
  | 17, _, j, hj => am_el17 j hj
  | 18, _, j, hj => am_el18 j hj
  | 19, _, j, hj => am_el19 j hj
  | 20, _, j, hj => am_el20 j hj
  | 21, _, j, hj => am_el21 j hj
  | 22, _, j, hj => am_el22 j hj
  | 23, _, j, hj => am_el23 j hj
  | 24, _, j, hj => am_el24 j hj
  | 25, _, j, hj => am_el25 j hj
  | 26, _, j, hj => am_el26 j hj
  | 27, _, j, hj => am_el27 j hj
  | 28, _, j, hj => am_el28 j hj
  | i + 29, h, _, _ => absurd h (by omega)
set_option maxRecDepth 20000 in
theorem am_ddgO : ∀ j : Nat, j < 100 → Cond.eq (.elem (.static "java/lang/Integer" "DigitOnes" "[B") (.int (Int32.ofNat j))) (.int (dgO j)) ∈ flatC am_PR
  | 0, _ => List.mem_of_getElem? (i := 12) rfl
  | 1, _ => List.mem_of_getElem? (i := 13) rfl
  | 2, _ => List.mem_of_getElem? (i := 14) rfl
  | 3, _ => List.mem_of_getElem? (i := 15) rfl
  | 4, _ => List.mem_of_getElem? (i := 16) rfl
  | 5, _ => List.mem_of_getElem? (i := 17) rfl
  | 6, _ => List.mem_of_getElem? (i := 18) rfl
  | 7, _ => List.mem_of_getElem? (i := 19) rfl
  | 8, _ => List.mem_of_getElem? (i := 20) rfl
  | 9, _ => List.mem_of_getElem? (i := 21) rfl
  | 10, _ => List.mem_of_getElem? (i := 22) rfl
  | 11, _ => List.mem_of_getElem? (i := 23) rfl
  | 12, _ => List.mem_of_getElem? (i := 24) rfl
  | 13, _ => List.mem_of_getElem? (i := 25) rfl
  | 14, _ => List.mem_of_getElem? (i := 26) rfl
  | 15, _ => List.mem_of_getElem? (i := 27) rfl
  | 16, _ => List.mem_of_getElem? (i := 28) rfl
  | 17, _ => List.mem_of_getElem? (i := 29) rfl
  | 18, _ => List.mem_of_getElem? (i := 30) rfl
  | 19, _ => List.mem_of_getElem? (i := 31) rfl
  | 20, _ => List.mem_of_getElem? (i := 32) rfl
  | 21, _ => List.mem_of_getElem? (i := 33) rfl
  | 22, _ => List.mem_of_getElem? (i := 34) rfl
  | 23, _ => List.mem_of_getElem? (i := 35) rfl
  | 24, _ => List.mem_of_getElem? (i := 36) rfl
  | 25, _ => List.mem_of_getElem? (i := 37) rfl
  | 26, _ => List.mem_of_getElem? (i := 38) rfl
  | 27, _ => List.mem_of_getElem? (i := 39) rfl
  | 28, _ => List.mem_of_getElem? (i := 40) rfl
  | 29, _ => List.mem_of_getElem? (i := 41) rfl
  | 30, _ => List.mem_of_getElem? (i := 42) rfl
  | 31, _ => List.mem_of_getElem? (i := 43) rfl
  | 32, _ => List.mem_of_getElem? (i := 44) rfl
  | 33, _ => List.mem_of_getElem? (i := 45) rfl
  | 34, _ => List.mem_of_getElem? (i := 46) rfl
  | 35, _ => List.mem_of_getElem? (i := 47) rfl
  | 36, _ => List.mem_of_getElem? (i := 48) rfl
  | 37, _ => List.mem_of_getElem? (i := 49) rfl
  | 38, _ => List.mem_of_getElem? (i := 50) rfl
  | 39, _ => List.mem_of_getElem? (i := 51) rfl
  | 40, _ => List.mem_of_getElem? (i := 52) rfl
  | 41, _ => List.mem_of_getElem? (i := 53) rfl
  | 42, _ => List.mem_of_getElem? (i := 54) rfl
  | 43, _ => List.mem_of_getElem? (i := 55) rfl
  | 44, _ => List.mem_of_getElem? (i := 56) rfl
  | 45, _ => List.mem_of_getElem? (i := 57) rfl
  | 46, _ => List.mem_of_getElem? (i := 58) rfl
  | 47, _ => List.mem_of_getElem? (i := 59) rfl
  | 48, _ => List.mem_of_getElem? (i := 60) rfl
  | 49, _ => List.mem_of_getElem? (i := 61) rfl
  | 50, _ => List.mem_of_getElem? (i := 62) rfl
  | 51, _ => List.mem_of_getElem? (i := 63) rfl
  | 52, _ => List.mem_of_getElem? (i := 64) rfl
  | 53, _ => List.mem_of_getElem? (i := 65) rfl
  | 54, _ => List.mem_of_getElem? (i := 66) rfl
  | 55, _ => List.mem_of_getElem? (i := 67) rfl
  | 56, _ => List.mem_of_getElem? (i := 68) rfl
  | 57, _ => List.mem_of_getElem? (i := 69) rfl
  | 58, _ => List.mem_of_getElem? (i := 70) rfl
  | 59, _ => List.mem_of_getElem? (i := 71) rfl
  | 60, _ => List.mem_of_getElem? (i := 72) rfl
  | 61, _ => List.mem_of_getElem? (i := 73) rfl
  | 62, _ => List.mem_of_getElem? (i := 74) rfl
  | 63, _ => List.mem_of_getElem? (i := 75) rfl
  | 64, _ => List.mem_of_getElem? (i := 76) rfl
  | 65, _ => List.mem_of_getElem? (i := 77) rfl
  | 66, _ => List.mem_of_getElem? (i := 78) rfl
  | 67, _ => List.mem_of_getElem? (i := 79) rfl
  | 68, _ => List.mem_of_getElem? (i := 80) rfl
  | 69, _ => List.mem_of_getElem? (i := 81) rfl
  | 70, _ => List.mem_of_getElem? (i := 82) rfl
  | 71, _ => List.mem_of_getElem? (i := 83) rfl
  | 72, _ => List.mem_of_getElem? (i := 84) rfl
  | 73, _ => List.mem_of_getElem? (i := 85) rfl
  | 74, _ => List.mem_of_getElem? (i := 86) rfl
  | 75, _ => List.mem_of_getElem? (i := 87) rfl
  | 76, _ => List.mem_of_getElem? (i := 88) rfl
  | 77, _ => List.mem_of_getElem? (i := 89) rfl
  | 78, _ => List.mem_of_getElem? (i := 90) rfl
  | 79, _ => List.mem_of_getElem? (i := 91) rfl
  | 80, _ => List.mem_of_getElem? (i := 92) rfl
  | 81, _ => List.mem_of_getElem? (i := 93) rfl
  | 82, _ => List.mem_of_getElem? (i := 94) rfl
  | 83, _ => List.mem_of_getElem? (i := 95) rfl
  | 84, _ => List.mem_of_getElem? (i := 96) rfl
  | 85, _ => List.mem_of_getElem? (i := 97) rfl
  | 86, _ => List.mem_of_getElem? (i := 98) rfl
  | 87, _ => List.mem_of_getElem? (i := 99) rfl
  | 88, _ => List.mem_of_getElem? (i := 100) rfl
  | 89, _ => List.mem_of_getElem? (i := 101) rfl
  | 90, _ => List.mem_of_getElem? (i := 102) rfl
  | 91, _ => List.mem_of_getElem? (i := 103) rfl
  | 92, _ => List.mem_of_getElem? (i := 104) rfl
  | 93, _ => List.mem_of_getElem? (i := 105) rfl
  | 94, _ => List.mem_of_getElem? (i := 106) rfl
  | 95, _ => List.mem_of_getElem? (i := 107) rfl
  | 96, _ => List.mem_of_getElem? (i := 108) rfl
  | 97, _ => List.mem_of_getElem? (i := 109) rfl
  | 98, _ => List.mem_of_getElem? (i := 110) rfl
  | 99, _ => List.mem_of_getElem? (i := 111) rfl
  | j + 100, h => absurd h (by omega)
set_option maxRecDepth 20000 in
theorem am_ddgT : ∀ j : Nat, j < 100 → Cond.eq (.elem (.static "java/lang/Integer" "DigitTens" "[B") (.int (Int32.ofNat j))) (.int (dgT j)) ∈ flatC am_PR
  | 0, _ => List.mem_of_getElem? (i := 115) rfl
  | 1, _ => List.mem_of_getElem? (i := 116) rfl
  | 2, _ => List.mem_of_getElem? (i := 117) rfl
  | 3, _ => List.mem_of_getElem? (i := 118) rfl
  | 4, _ => List.mem_of_getElem? (i := 119) rfl
  | 5, _ => List.mem_of_getElem? (i := 120) rfl
  | 6, _ => List.mem_of_getElem? (i := 121) rfl
  | 7, _ => List.mem_of_getElem? (i := 122) rfl
  | 8, _ => List.mem_of_getElem? (i := 123) rfl
  | 9, _ => List.mem_of_getElem? (i := 124) rfl
  | 10, _ => List.mem_of_getElem? (i := 125) rfl
  | 11, _ => List.mem_of_getElem? (i := 126) rfl
  | 12, _ => List.mem_of_getElem? (i := 127) rfl
  | 13, _ => List.mem_of_getElem? (i := 128) rfl
  | 14, _ => List.mem_of_getElem? (i := 129) rfl
  | 15, _ => List.mem_of_getElem? (i := 130) rfl
  | 16, _ => List.mem_of_getElem? (i := 131) rfl
  | 17, _ => List.mem_of_getElem? (i := 132) rfl
  | 18, _ => List.mem_of_getElem? (i := 133) rfl
  | 19, _ => List.mem_of_getElem? (i := 134) rfl
  | 20, _ => List.mem_of_getElem? (i := 135) rfl
  | 21, _ => List.mem_of_getElem? (i := 136) rfl
  | 22, _ => List.mem_of_getElem? (i := 137) rfl
  | 23, _ => List.mem_of_getElem? (i := 138) rfl
  | 24, _ => List.mem_of_getElem? (i := 139) rfl
  | 25, _ => List.mem_of_getElem? (i := 140) rfl
  | 26, _ => List.mem_of_getElem? (i := 141) rfl
  | 27, _ => List.mem_of_getElem? (i := 142) rfl
  | 28, _ => List.mem_of_getElem? (i := 143) rfl
  | 29, _ => List.mem_of_getElem? (i := 144) rfl
  | 30, _ => List.mem_of_getElem? (i := 145) rfl
  | 31, _ => List.mem_of_getElem? (i := 146) rfl
  | 32, _ => List.mem_of_getElem? (i := 147) rfl
  | 33, _ => List.mem_of_getElem? (i := 148) rfl
  | 34, _ => List.mem_of_getElem? (i := 149) rfl
  | 35, _ => List.mem_of_getElem? (i := 150) rfl
  | 36, _ => List.mem_of_getElem? (i := 151) rfl
  | 37, _ => List.mem_of_getElem? (i := 152) rfl
  | 38, _ => List.mem_of_getElem? (i := 153) rfl
  | 39, _ => List.mem_of_getElem? (i := 154) rfl
  | 40, _ => List.mem_of_getElem? (i := 155) rfl
  | 41, _ => List.mem_of_getElem? (i := 156) rfl
  | 42, _ => List.mem_of_getElem? (i := 157) rfl
  | 43, _ => List.mem_of_getElem? (i := 158) rfl
  | 44, _ => List.mem_of_getElem? (i := 159) rfl
  | 45, _ => List.mem_of_getElem? (i := 160) rfl
  | 46, _ => List.mem_of_getElem? (i := 161) rfl
  | 47, _ => List.mem_of_getElem? (i := 162) rfl
  | 48, _ => List.mem_of_getElem? (i := 163) rfl
  | 49, _ => List.mem_of_getElem? (i := 164) rfl
  | 50, _ => List.mem_of_getElem? (i := 165) rfl
  | 51, _ => List.mem_of_getElem? (i := 166) rfl
  | 52, _ => List.mem_of_getElem? (i := 167) rfl
  | 53, _ => List.mem_of_getElem? (i := 168) rfl
  | 54, _ => List.mem_of_getElem? (i := 169) rfl
  | 55, _ => List.mem_of_getElem? (i := 170) rfl
  | 56, _ => List.mem_of_getElem? (i := 171) rfl
  | 57, _ => List.mem_of_getElem? (i := 172) rfl
  | 58, _ => List.mem_of_getElem? (i := 173) rfl
  | 59, _ => List.mem_of_getElem? (i := 174) rfl
  | 60, _ => List.mem_of_getElem? (i := 175) rfl
  | 61, _ => List.mem_of_getElem? (i := 176) rfl
  | 62, _ => List.mem_of_getElem? (i := 177) rfl
  | 63, _ => List.mem_of_getElem? (i := 178) rfl
  | 64, _ => List.mem_of_getElem? (i := 179) rfl
  | 65, _ => List.mem_of_getElem? (i := 180) rfl
  | 66, _ => List.mem_of_getElem? (i := 181) rfl
  | 67, _ => List.mem_of_getElem? (i := 182) rfl
  | 68, _ => List.mem_of_getElem? (i := 183) rfl
  | 69, _ => List.mem_of_getElem? (i := 184) rfl
  | 70, _ => List.mem_of_getElem? (i := 185) rfl
  | 71, _ => List.mem_of_getElem? (i := 186) rfl
  | 72, _ => List.mem_of_getElem? (i := 187) rfl
  | 73, _ => List.mem_of_getElem? (i := 188) rfl
  | 74, _ => List.mem_of_getElem? (i := 189) rfl
  | 75, _ => List.mem_of_getElem? (i := 190) rfl
  | 76, _ => List.mem_of_getElem? (i := 191) rfl
  | 77, _ => List.mem_of_getElem? (i := 192) rfl
  | 78, _ => List.mem_of_getElem? (i := 193) rfl
  | 79, _ => List.mem_of_getElem? (i := 194) rfl
  | 80, _ => List.mem_of_getElem? (i := 195) rfl
  | 81, _ => List.mem_of_getElem? (i := 196) rfl
  | 82, _ => List.mem_of_getElem? (i := 197) rfl
  | 83, _ => List.mem_of_getElem? (i := 198) rfl
  | 84, _ => List.mem_of_getElem? (i := 199) rfl
  | 85, _ => List.mem_of_getElem? (i := 200) rfl
  | 86, _ => List.mem_of_getElem? (i := 201) rfl
  | 87, _ => List.mem_of_getElem? (i := 202) rfl
  | 88, _ => List.mem_of_getElem? (i := 203) rfl
  | 89, _ => List.mem_of_getElem? (i := 204) rfl
  | 90, _ => List.mem_of_getElem? (i := 205) rfl
  | 91, _ => List.mem_of_getElem? (i := 206) rfl
  | 92, _ => List.mem_of_getElem? (i := 207) rfl
  | 93, _ => List.mem_of_getElem? (i := 208) rfl
  | 94, _ => List.mem_of_getElem? (i := 209) rfl
  | 95, _ => List.mem_of_getElem? (i := 210) rfl
  | 96, _ => List.mem_of_getElem? (i := 211) rfl
  | 97, _ => List.mem_of_getElem? (i := 212) rfl
  | 98, _ => List.mem_of_getElem? (i := 213) rfl
  | 99, _ => List.mem_of_getElem? (i := 214) rfl
  | j + 100, h => absurd h (by omega)
set_option maxRecDepth 20000 in
theorem am_sr : ∀ (i n : Nat) (tx : String), am_SLT[i]? = some (n, tx) → Cond.stringRef (am_SO i) n tx ∈ lw_tbl
  | 0, _, _, h => by cases h; exact List.mem_of_getElem? (i := 854) (by decide +kernel)
  | 1, _, _, h => by cases h; exact List.mem_of_getElem? (i := 865) (by decide +kernel)
  | 2, _, _, h => by cases h; exact List.mem_of_getElem? (i := 874) (by decide +kernel)
  | 3, _, _, h => by cases h; exact List.mem_of_getElem? (i := 879) (by decide +kernel)
  | 4, _, _, h => by cases h; exact List.mem_of_getElem? (i := 880) (by decide +kernel)
  | 5, _, _, h => by cases h; exact List.mem_of_getElem? (i := 881) (by decide +kernel)
  | 6, _, _, h => by cases h; exact List.mem_of_getElem? (i := 882) (by decide +kernel)
  | 7, _, _, h => by cases h; exact List.mem_of_getElem? (i := 887) (by decide +kernel)
  | 8, _, _, h => by cases h; exact List.mem_of_getElem? (i := 892) (by decide +kernel)
  | 9, _, _, h => by cases h; exact List.mem_of_getElem? (i := 893) (by decide +kernel)
  | 10, _, _, h => by cases h; exact List.mem_of_getElem? (i := 894) (by decide +kernel)
  | 11, _, _, h => by cases h; exact List.mem_of_getElem? (i := 899) (by decide +kernel)
  | 12, _, _, h => by cases h; exact List.mem_of_getElem? (i := 904) (by decide +kernel)
  | 13, _, _, h => by cases h; exact List.mem_of_getElem? (i := 905) (by decide +kernel)
  | 14, _, _, h => by cases h; exact List.mem_of_getElem? (i := 565) (by decide +kernel)
  | 15, _, _, h => by cases h; exact List.mem_of_getElem? (i := 709) (by decide +kernel)
  | 16, _, _, h => by cases h; exact List.mem_of_getElem? (i := 710) (by decide +kernel)
  | 17, _, _, h => by cases h; exact List.mem_of_getElem? (i := 771) (by decide +kernel)
  | 18, _, _, h => by cases h; exact List.mem_of_getElem? (i := 772) (by decide +kernel)
  | 19, _, _, h => by cases h; exact List.mem_of_getElem? (i := 773) (by decide +kernel)
  | 20, _, _, h => by cases h; exact List.mem_of_getElem? (i := 775) (by decide +kernel)
  | 21, _, _, h => by cases h; exact List.mem_of_getElem? (i := 776) (by decide +kernel)
  | 22, _, _, h => by cases h; exact List.mem_of_getElem? (i := 778) (by decide +kernel)
  | 23, _, _, h => by cases h; exact List.mem_of_getElem? (i := 780) (by decide +kernel)
  | 24, _, _, h => by cases h; exact List.mem_of_getElem? (i := 781) (by decide +kernel)
  | 25, _, _, h => by cases h; exact List.mem_of_getElem? (i := 782) (by decide +kernel)
  | 26, _, _, h => by cases h; exact List.mem_of_getElem? (i := 783) (by decide +kernel)
  | 27, _, _, h => by cases h; exact List.mem_of_getElem? (i := 784) (by decide +kernel)
  | 28, _, _, h => by cases h; exact List.mem_of_getElem? (i := 914) (by decide +kernel)
  | i + 29, _, _, h => by simp [am_SLT] at h
theorem am_start {args : Array Value} {s : State} (hts : ∀ w ∈ lw_tbl, w.before args s = true) (hgv : am_PR.before args s = true) : ∃ ad : Nat → Nat, ST ad (fun q => s.heap.size ≤ q) s s.heap := by
  have hs := flat_of_before _ hgv
  have hA9 : ∀ a : Nat, a < s.heap.size → ¬ (s.heap.size ≤ a) := fun q h9 => Nat.not_le.mpr h9
  have h0 : ∀ i : Nat, ∃ q : Nat × Nat, i < 29 → (am_tm i).eval args s none [] s = some (.ref q.1) ∧ va_O "java/lang/String" q.1 (fun q => s.heap.size ≤ q) s s.heap ∧ va_OF "java/lang/String" "coder" "B" (.int 0) q.1 (fun q => s.heap.size ≤ q) s s.heap ∧ va_OF "java/lang/String" "value" "[B" (.ref q.2) q.1 (fun q => s.heap.size ≤ q) s s.heap ∧ va_T .byte q.2 (am_lns.getD i 0) (fun j => .int ((am_byt.getD i []).getD j 0)) (fun q => s.heap.size ≤ q) s s.heap := by
    intro i
    by_cases hi : i < 29
    · obtain ⟨a, c, cA, kA, q1, q2, q3, q4, q5, q6, -⟩ := Cond.exactly_spec (args := args) (first := s) (o := none) (s := s) (idx := []) (t := am_tm i) (cls := "java/lang/String") (hs _ (am_ex i hi))
      obtain ⟨t, ht, hT⟩ := va_Tof (f := fun j => .int ((am_byt.getD i []).getD j 0)) (A := fun q => s.heap.size ≤ q) (Nat.lt_trans (sl_ok i hi).1 (by decide)) (hs _ (am_av i hi)) (va_eqt (hs _ (am_ln i hi))) (fun j hj => va_eqt (hs _ (am_el i hi j hj))) hA9
      exact ⟨(a, t), fun _ => ⟨q1, ⟨cA, q3, q5, by rw [q6]; exact q2, hA9 a (Array.getElem?_eq_some_iff.mp q3).1⟩, vk_OFof q1 (va_eqt (hs _ (am_co i hi))) hA9, vk_OFof q1 ht hA9, hT⟩⟩
    · exact ⟨(0, 0), fun h => absurd h hi⟩
  obtain ⟨ad, had⟩ := Classical.axiomOfChoice h0
  refine ⟨fun i => (ad i).1, ⟨fun i => (ad i).2, fun i hi => (had i hi).2, trivial⟩, fun i n tx hi => ?_, va_Zof (hts _ (List.mem_of_getElem? (i := 543) (by decide +kernel))) (hts _ (List.mem_of_getElem? (i := 36) (by decide +kernel))) (va_eqt (hs _ (List.mem_of_getElem? (i := 4) rfl))) hA9, va_Zqof (hts _ (List.mem_of_getElem? (i := 628) (by decide +kernel))) (hts _ (List.mem_of_getElem? (i := 42) (by decide +kernel))) (hs _ (List.mem_of_getElem? (i := 5) rfl)) hA9, (by obtain ⟨t, ht, hT⟩ := va_Tof (f := fun j => .int (dgO j)) (A := fun q => s.heap.size ≤ q) (by decide) (hs _ (List.mem_of_getElem? (i := 10) rfl)) (va_eqt (hs _ (List.mem_of_getElem? (i := 11) rfl))) (fun j hj => va_eqt (hs _ (am_ddgO j hj))) hA9; exact ⟨t, va_Zof (hts _ (List.mem_of_getElem? (i := 698) (by decide +kernel))) (hts _ (List.mem_of_getElem? (i := 44) (by decide +kernel))) ht hA9, hT⟩), (by obtain ⟨t, ht, hT⟩ := va_Tof (f := fun j => .int (dgT j)) (A := fun q => s.heap.size ≤ q) (by decide) (hs _ (List.mem_of_getElem? (i := 113) rfl)) (va_eqt (hs _ (List.mem_of_getElem? (i := 114) rfl))) (fun j hj => va_eqt (hs _ (am_ddgT j hj))) hA9; exact ⟨t, va_Zof (hts _ (List.mem_of_getElem? (i := 700) (by decide +kernel))) (hts _ (List.mem_of_getElem? (i := 44) (by decide +kernel))) ht hA9, hT⟩)⟩
  have hi14 : i < 29 := (List.getElem?_eq_some_iff.mp hi).1
  have he := (had i hi14).1
  have e1 : am_tm i = .string (am_SO i) n := by unfold am_tm; rw [List.getD_eq_getElem?_getD, hi]; rfl
  rw [e1] at he
  exact vk_R.of (hts _ (am_sr i n tx hi)) he
theorem am_ns {args : Array Value} {s : State} (hts : ∀ w ∈ lw_tbl, w.before args s = true) : NS s :=
  ⟨fun p o n j pl hp => va_Nw.of rfl (hts _ (am_mlN hp)), va_AO.of (hts _ (List.mem_of_getElem? (i := 334) (by decide +kernel))), va_Nw.of rfl (hts _ (List.mem_of_getElem? (i := 604) (by decide +kernel)))⟩
def LAWRUN : Prop := ∀ sc : List Int, sc.length ≤ 260 → (∀ z ∈ sc, inI z) → R 169 (0, L0 169 [vR 0], [], [eA .int sc], 0, 0) (fun r _ => r = some (vI 1))
set_option maxHeartbeats 4000000 in
/-- the law, from its entry, out of the abstract machine's run of it -/
theorem whole_start_of (LAW : LAWRUN) {p : Program} {e : Env} {s : State} {m : MethodId} {below : List Frame} {meth : Method} {c : Code} (l : Launch) (hflags : l.flags = flags0) {b L : Nat} {xs : Nat → Int32} (hL : L ≤ 260) (C0 : lw_At p s m meth c b L xs) : W p l e room_1 s m #[Value.ref b] below meth c s.heap [] 0 0 (lw_Z below #[Value.ref b] s) (entryFrame m ([Value.ref b] : List Value).toArray 11) := by
  obtain ⟨hx, hb, hr, hml, hown, hts, hX, hbl, hlocks, hgv⟩ := C0
  have hts2 : ∀ w ∈ lw_tbl ++ WGx, w.before #[Value.ref b] s = true := fun w hw => by
    rcases List.mem_append.mp hw with h | h
    · exact hts w h
    · rcases List.mem_cons.mp h with rfl | h
      · exact sel_priv (n := 4) (hts _ (List.mem_of_getElem? (i := 534) (by decide +kernel))) (hts _ (List.mem_of_getElem? (i := 578) (by decide +kernel))) (hts _ (List.mem_of_getElem? (i := 579) (by decide +kernel))) (hts _ (List.mem_of_getElem? (i := 929) (by decide +kernel)))
      rcases List.mem_cons.mp h with rfl | h
      · exact sel_priv (n := 4) (hts _ (List.mem_of_getElem? (i := 534) (by decide +kernel))) (hts _ (List.mem_of_getElem? (i := 582) (by decide +kernel))) (hts _ (List.mem_of_getElem? (i := 583) (by decide +kernel))) (hts _ (List.mem_of_getElem? (i := 930) (by decide +kernel)))
      rcases List.mem_cons.mp h with rfl | h
      · exact sel_priv (n := 4) (hts _ (List.mem_of_getElem? (i := 534) (by decide +kernel))) (hts _ (List.mem_of_getElem? (i := 651) (by decide +kernel))) (hts _ (List.mem_of_getElem? (i := 652) (by decide +kernel))) (hts _ (List.mem_of_getElem? (i := 931) (by decide +kernel)))
      rcases List.mem_cons.mp h with rfl | h
      · exact sel_priv (n := 4) (hts _ (List.mem_of_getElem? (i := 534) (by decide +kernel))) (hts _ (List.mem_of_getElem? (i := 655) (by decide +kernel))) (hts _ (List.mem_of_getElem? (i := 656) (by decide +kernel))) (hts _ (List.mem_of_getElem? (i := 932) (by decide +kernel)))
      cases h
  obtain ⟨c0, iS0, hKn0⟩ := u_known (C := RX0) (T := TX0) (N := 9) (n := 9) hts2 (fun w hw => (List.mem_filter.mp (uwX0 w hw)).1) (hts2 (.instantiable RX0 9) (List.mem_filter.mp isX0).1)
  obtain ⟨c1, iS1, hKn1⟩ := u_known (C := RX1) (T := TX1) (N := 10) (n := 10) hts2 (fun w hw => (List.mem_filter.mp (uwX1 w hw)).1) (hts2 (.instantiable RX1 10) (List.mem_filter.mp isX1).1)
  obtain ⟨c2, iS2, hKn2⟩ := u_known (C := RX2) (T := TX2) (N := 6) (n := 6) hts2 (fun w hw => (List.mem_filter.mp (uwX2 w hw)).1) (hts2 (.instantiable RX2 6) (List.mem_filter.mp isX2).1)
  obtain ⟨c3, iS3, hKn3⟩ := u_known (C := RX3) (T := TX3) (N := 6) (n := 6) hts2 (fun w hw => (List.mem_filter.mp (uwX3 w hw)).1) (hts2 (.instantiable RX3 6) (List.mem_filter.mp isX3).1)
  obtain ⟨c4, iS4, hKn4⟩ := u_known (C := RX4) (T := TX4) (N := 4) (n := 4) hts2 (fun w hw => (List.mem_filter.mp (uwX4 w hw)).1) (hts2 (.instantiable RX4 4) (List.mem_filter.mp isX4).1)
  obtain ⟨c5, iS5, hKn5⟩ := u_known (C := RX5) (T := TX5) (N := 5) (n := 5) hts2 (fun w hw => (List.mem_filter.mp (uwX5 w hw)).1) (hts2 (.instantiable RX5 5) (List.mem_filter.mp isX5).1)
  obtain ⟨c6, iS6, hKn6⟩ := u_known (C := RX6) (T := TX6) (N := 13) (n := 13) hts2 (fun w hw => (List.mem_filter.mp (uwX6 w hw)).1) (hts2 (.instantiable RX6 13) (List.mem_filter.mp isX6).1)
  obtain ⟨c7, iS7, hKn7⟩ := u_known (C := RJ0) (T := TJ0) (N := 4) (n := 4) hts2 (fun w hw => (List.mem_filter.mp (uwJ0 w hw)).1) (hts2 (.instantiable RJ0 4) (List.mem_filter.mp isJ0).1)
  obtain ⟨c8, iS8, hKn8⟩ := u_known (C := RJ4) (T := TJ4) (N := 4) (n := 4) hts2 (fun w hw => (List.mem_filter.mp (uwJ4 w hw)).1) (hts2 (.instantiable RJ4 4) (List.mem_filter.mp isJ4).1)
  obtain ⟨dC, dI, hKc⟩ : ∃ (dC : Nat → ClassId) (dI : Nat → Nat → Nat), ∀ (k : Nat) (q : vw_C), vwCl[k]? = some q → u_Kn s q.1 q.2.1 q.2.2 (dC k) (dI k) := by
    refine ⟨fun k => match k with | 0 => c0 | 1 => c1 | 2 => c2 | 3 => c3 | 4 => c4 | 5 => c5 | 6 => c6 | 7 => c7 | _ => c8, fun k => match k with | 0 => iS0 | 1 => iS1 | 2 => iS2 | 3 => iS3 | 4 => iS4 | 5 => iS5 | 6 => iS6 | 7 => iS7 | _ => iS8, ?_⟩
    intro k q hq
    match k, hq with
    | 0, hq => cases hq; exact hKn0
    | 1, hq => cases hq; exact hKn1
    | 2, hq => cases hq; exact hKn2
    | 3, hq => cases hq; exact hKn3
    | 4, hq => cases hq; exact hKn4
    | 5, hq => cases hq; exact hKn5
    | 6, hq => cases hq; exact hKn6
    | 7, hq => cases hq; exact hKn7
    | 8, hq => cases hq; exact hKn8
    | k + 9, hq => simp [vwCl] at hq
  obtain ⟨ad, hST⟩ := am_start hts hgv
  have hNS := am_ns hts
  have hslen : ((List.range L).map (fun j => (xs j).toInt)).length = L := by simp
  have hrun := @LAW ((List.range L).map (fun j => (xs j).toInt)) (by rw [hslen]; exact hL) (fun z hz => by
    obtain ⟨j, -, rfl⟩ := List.mem_map.mp hz
    have := am_rng (xs j)
    exact ⟨by omega, by omega⟩)
  generalize hsc : (List.range L).map (fun j => (xs j).toInt) = sc at hrun hslen
  have hxs : ∀ j, j < sc.length → (xs j).toInt = sc.getD j 0 := by
    intro j hj
    rw [← hsc, List.getD_eq_getElem?_getD, List.getElem?_map, List.getElem?_range (by omega)]
    rfl
  have T : CT p room_1 s m #[Value.ref b] meth c 169 ad b sc (fun q => s.heap.size ≤ q) := ⟨⟨hx, hb, hml, hown, fun w hw => hts2 w (List.mem_filter.mp hw).1, fun h => absurd h (by decide)⟩, ⟨by decide, by decide, Nat.le_of_ble_eq_true rfl, Nat.le_of_ble_eq_true rfl⟩, ⟨fun q h => h, Nat.not_le.mpr hbl, hbl, ⟨xs, by rw [hslen]; exact hX, hxs⟩, hST, hNS⟩⟩
  rw [lg_entry_eq]
  refine hrun.1 (D := (dC, dI)) (ρ0 := rho b []) T ?_ [] [] s.heap [] _ [] (Nat.zero_le _) (Nat.zero_le _) ⟨⟨hKc, fun k q h => by simp at h⟩, fun k q h => by simp at h, ⟨fun i j p q h => by simp at h, fun k q h => by simp at h⟩, va_S.rf, ⟨[], rfl, rfl, fun i q e h => by simp at h⟩⟩ (LR.entry (j := 169) (vs := [.ref b]) (as := [vR 0]) ⟨rfl, trivial⟩ (fun a ha => by cases ha with | head => rfl | tail _ h => cases h) (by decide)) trivial (List.prefix_rfl)
  rintro r G' rfl ws tys H locs cs sl pc ls y hc hs I hρ hRT hO
  rcases y with _ | v
  · exact absurd hO id
  · obtain ⟨z, rfl, hz⟩ := VR_I (z := 1) hO
    obtain rfl : z = 1 := Int32.toInt_inj.mp (by rw [hz]; rfl)
    refine va_forget (fun q hq => I.2.2.2.1.2.2 q hq) ?_
    refine W.widen (k := 600000) (n := 7302250) (Nat.le_trans hc (Nat.le_of_ble_eq_true rfl)) (Nat.le_trans hs (Nat.le_of_ble_eq_true rfl)) ?_
    exact lw_ret hx hb hr hlocks hRT.1
