def R_law : String := "EndowBookLaw"
def lw_P (b : Addr) (xs : List Int32) (args : Array Value) (s : State) : Prop := args = #[.ref b] ∧ s.IntsAt b xs ∧ xs.length ≤ 2560 ∧ (Jvm.Cond.and given_1 narrow_1).before args s = true
def lw_Q (_ : Array Value) (s : State) (o : Outcome) (t : State) : Prop := o = .returned (some (.int 1)) ∧ Framed s o t [] 600000 7302250
def lw_Z (below : List Frame) (a : Array Value) (s : State) : State → Prop := fun t => ∃ o, t.status = .running ∧ Ended t below o ∧ lw_Q a s o t
/-- the law's own end, with 1 on the stack, nothing written that was there before, its room as the claim has it -/
theorem lw_ret {p : Program} {l : Launch} {e : Env} {s : State} {m : MethodId} {below : List Frame} {meth : Method} {c : Code} {b : Nat} (hx : p.tables.exec = Jvm.exec) (hb : c.code = code) (hr : meth.sig.returnType = ret) (hlocks : meth.locks = false) {pc : Nat} {H : Heap} {ls : Array Slot} (hdg : decode code pc = .ok (.ireturn, 1)) : W p l e room_1 s m #[Value.ref b] below meth c H [] 600000 7302250 (lw_Z below #[Value.ref b] s) (F0 m pc ls [.int 1]) := by
  intro T hT X
  obtain ⟨fs, hret, hrun, hended, hW, hframe⟩ := X.leave (v := some (.int 1)) (hlocks := hlocks) (fun h => by rw [hr] at h; cases h)
  have hmeth' : T.vm.method? m = some meth := X.method'
  refine ⟨T.setFrames fs, ?_, .returned (some (.int 1)), hrun, hended, rfl, ⟨_, rfl⟩, hW, hframe⟩
  jvm_step X.here [X.here.top, hx, hb, hdg, hmeth', hr, ret, narrow_b1]
  (try refine ⟨rfl, ?_⟩); (try refine ⟨rfl, ?_⟩)
  first | (intro acts; rw [hret _ acts rfl rfl rfl]) | rw [hret _ _ rfl rfl rfl]
  exact Steps.refl _
/-- what holds at the law's entry: the machine, the code, the tables' words (any of lw_tbl by 'hts w (by decide +kernel)'), the script of L ints xs at the cell b, what the Statement gives of the start (any of its parts by flat_of_before) -/
def lw_At (p : Program) (s : State) (m : MethodId) (meth : Method) (c : Code) (b L : Nat) (xs : Nat → Int32) : Prop :=
  p.tables.exec = Jvm.exec ∧ c.code = code ∧ meth.sig.returnType = ret ∧ c.maxLocals = 4 ∧ s.vm.findClass R_law = some m.cls ∧ (∀ w ∈ lw_tbl, w.before #[Value.ref b] s = true) ∧ va_X b L xs s s.heap ∧ b < s.heap.size ∧ meth.locks = false ∧ (Jvm.Cond.and given_1 narrow_1).before #[Value.ref b] s = true
def am_PR : Cond := Jvm.Cond.and given_1 narrow_1
def am_tm (i : Nat) : Term := .string RX4 (am_SLT.getD i (0, "")).1
set_option maxRecDepth 20000 in
theorem am_ex : ∀ i : Nat, i < 14 → Cond.exactly (am_tm i) "java/lang/String" ∈ flatC am_PR
  | 0, _ => List.mem_of_getElem? (i := 9) rfl
  | 1, _ => List.mem_of_getElem? (i := 17) rfl
  | 2, _ => List.mem_of_getElem? (i := 23) rfl
  | 3, _ => List.mem_of_getElem? (i := 33) rfl
  | 4, _ => List.mem_of_getElem? (i := 45) rfl
  | 5, _ => List.mem_of_getElem? (i := 54) rfl
  | 6, _ => List.mem_of_getElem? (i := 66) rfl
  | 7, _ => List.mem_of_getElem? (i := 80) rfl
  | 8, _ => List.mem_of_getElem? (i := 96) rfl
  | 9, _ => List.mem_of_getElem? (i := 110) rfl
  | 10, _ => List.mem_of_getElem? (i := 128) rfl
  | 11, _ => List.mem_of_getElem? (i := 146) rfl
  | 12, _ => List.mem_of_getElem? (i := 165) rfl
  | 13, _ => List.mem_of_getElem? (i := 186) rfl
  | i + 14, h => absurd h (by omega)
set_option maxRecDepth 20000 in
theorem am_co : ∀ i : Nat, i < 14 → Cond.eq (.field (am_tm i) "java/lang/String" "coder" "B") (.int 0) ∈ flatC am_PR
  | 0, _ => List.mem_of_getElem? (i := 10) rfl
  | 1, _ => List.mem_of_getElem? (i := 18) rfl
  | 2, _ => List.mem_of_getElem? (i := 24) rfl
  | 3, _ => List.mem_of_getElem? (i := 34) rfl
  | 4, _ => List.mem_of_getElem? (i := 46) rfl
  | 5, _ => List.mem_of_getElem? (i := 55) rfl
  | 6, _ => List.mem_of_getElem? (i := 67) rfl
  | 7, _ => List.mem_of_getElem? (i := 81) rfl
  | 8, _ => List.mem_of_getElem? (i := 97) rfl
  | 9, _ => List.mem_of_getElem? (i := 111) rfl
  | 10, _ => List.mem_of_getElem? (i := 129) rfl
  | 11, _ => List.mem_of_getElem? (i := 147) rfl
  | 12, _ => List.mem_of_getElem? (i := 166) rfl
  | 13, _ => List.mem_of_getElem? (i := 187) rfl
  | i + 14, h => absurd h (by omega)
set_option maxRecDepth 20000 in
theorem am_av : ∀ i : Nat, i < 14 → Cond.arrayOf (.field (am_tm i) "java/lang/String" "value" "[B") .byte ∈ flatC am_PR
  | 0, _ => List.mem_of_getElem? (i := 11) rfl
  | 1, _ => List.mem_of_getElem? (i := 19) rfl
  | 2, _ => List.mem_of_getElem? (i := 25) rfl
  | 3, _ => List.mem_of_getElem? (i := 35) rfl
  | 4, _ => List.mem_of_getElem? (i := 47) rfl
  | 5, _ => List.mem_of_getElem? (i := 56) rfl
  | 6, _ => List.mem_of_getElem? (i := 68) rfl
  | 7, _ => List.mem_of_getElem? (i := 82) rfl
  | 8, _ => List.mem_of_getElem? (i := 98) rfl
  | 9, _ => List.mem_of_getElem? (i := 112) rfl
  | 10, _ => List.mem_of_getElem? (i := 130) rfl
  | 11, _ => List.mem_of_getElem? (i := 148) rfl
  | 12, _ => List.mem_of_getElem? (i := 167) rfl
  | 13, _ => List.mem_of_getElem? (i := 188) rfl
  | i + 14, h => absurd h (by omega)
set_option maxRecDepth 20000 in
theorem am_ln : ∀ i : Nat, i < 14 → Cond.eq (.length (.field (am_tm i) "java/lang/String" "value" "[B")) (.int (Int32.ofNat (am_lns.getD i 0))) ∈ flatC am_PR
  | 0, _ => List.mem_of_getElem? (i := 12) rfl
  | 1, _ => List.mem_of_getElem? (i := 20) rfl
  | 2, _ => List.mem_of_getElem? (i := 26) rfl
  | 3, _ => List.mem_of_getElem? (i := 36) rfl
  | 4, _ => List.mem_of_getElem? (i := 48) rfl
  | 5, _ => List.mem_of_getElem? (i := 57) rfl
  | 6, _ => List.mem_of_getElem? (i := 69) rfl
  | 7, _ => List.mem_of_getElem? (i := 83) rfl
  | 8, _ => List.mem_of_getElem? (i := 99) rfl
  | 9, _ => List.mem_of_getElem? (i := 113) rfl
  | 10, _ => List.mem_of_getElem? (i := 131) rfl
  | 11, _ => List.mem_of_getElem? (i := 149) rfl
  | 12, _ => List.mem_of_getElem? (i := 168) rfl
  | 13, _ => List.mem_of_getElem? (i := 189) rfl
  | i + 14, h => absurd h (by omega)
set_option maxRecDepth 20000 in
theorem am_el0 : ∀ j : Nat, j < 4 → Cond.eq (.elem (.field (am_tm 0) "java/lang/String" "value" "[B") (.int (Int32.ofNat j))) (.int ((am_byt.getD 0 []).getD j 0)) ∈ flatC am_PR
  | 0, _ => List.mem_of_getElem? (i := 13) rfl
  | 1, _ => List.mem_of_getElem? (i := 14) rfl
  | 2, _ => List.mem_of_getElem? (i := 15) rfl
  | 3, _ => List.mem_of_getElem? (i := 16) rfl
  | j + 4, h => absurd h (by omega)
set_option maxRecDepth 20000 in
theorem am_el1 : ∀ j : Nat, j < 1 → Cond.eq (.elem (.field (am_tm 1) "java/lang/String" "value" "[B") (.int (Int32.ofNat j))) (.int ((am_byt.getD 1 []).getD j 0)) ∈ flatC am_PR
  | 0, _ => List.mem_of_getElem? (i := 21) rfl
  | j + 1, h => absurd h (by omega)
set_option maxRecDepth 20000 in
theorem am_el2 : ∀ j : Nat, j < 4 → Cond.eq (.elem (.field (am_tm 2) "java/lang/String" "value" "[B") (.int (Int32.ofNat j))) (.int ((am_byt.getD 2 []).getD j 0)) ∈ flatC am_PR
  | 0, _ => List.mem_of_getElem? (i := 27) rfl
  | 1, _ => List.mem_of_getElem? (i := 28) rfl
  | 2, _ => List.mem_of_getElem? (i := 29) rfl
  | 3, _ => List.mem_of_getElem? (i := 30) rfl
  | j + 4, h => absurd h (by omega)
set_option maxRecDepth 20000 in
theorem am_el3 : ∀ j : Nat, j < 5 → Cond.eq (.elem (.field (am_tm 3) "java/lang/String" "value" "[B") (.int (Int32.ofNat j))) (.int ((am_byt.getD 3 []).getD j 0)) ∈ flatC am_PR
  | 0, _ => List.mem_of_getElem? (i := 37) rfl
  | 1, _ => List.mem_of_getElem? (i := 38) rfl
  | 2, _ => List.mem_of_getElem? (i := 39) rfl
  | 3, _ => List.mem_of_getElem? (i := 40) rfl
  | 4, _ => List.mem_of_getElem? (i := 41) rfl
  | j + 5, h => absurd h (by omega)
set_option maxRecDepth 20000 in
theorem am_el4 : ∀ j : Nat, j < 1 → Cond.eq (.elem (.field (am_tm 4) "java/lang/String" "value" "[B") (.int (Int32.ofNat j))) (.int ((am_byt.getD 4 []).getD j 0)) ∈ flatC am_PR
  | 0, _ => List.mem_of_getElem? (i := 49) rfl
  | j + 1, h => absurd h (by omega)
set_option maxRecDepth 20000 in
theorem am_el5 : ∀ j : Nat, j < 3 → Cond.eq (.elem (.field (am_tm 5) "java/lang/String" "value" "[B") (.int (Int32.ofNat j))) (.int ((am_byt.getD 5 []).getD j 0)) ∈ flatC am_PR
  | 0, _ => List.mem_of_getElem? (i := 58) rfl
  | 1, _ => List.mem_of_getElem? (i := 59) rfl
  | 2, _ => List.mem_of_getElem? (i := 60) rfl
  | j + 3, h => absurd h (by omega)
set_option maxRecDepth 20000 in
theorem am_el6 : ∀ j : Nat, j < 4 → Cond.eq (.elem (.field (am_tm 6) "java/lang/String" "value" "[B") (.int (Int32.ofNat j))) (.int ((am_byt.getD 6 []).getD j 0)) ∈ flatC am_PR
  | 0, _ => List.mem_of_getElem? (i := 70) rfl
  | 1, _ => List.mem_of_getElem? (i := 71) rfl
  | 2, _ => List.mem_of_getElem? (i := 72) rfl
  | 3, _ => List.mem_of_getElem? (i := 73) rfl
  | j + 4, h => absurd h (by omega)
set_option maxRecDepth 20000 in
theorem am_el7 : ∀ j : Nat, j < 5 → Cond.eq (.elem (.field (am_tm 7) "java/lang/String" "value" "[B") (.int (Int32.ofNat j))) (.int ((am_byt.getD 7 []).getD j 0)) ∈ flatC am_PR
  | 0, _ => List.mem_of_getElem? (i := 84) rfl
  | 1, _ => List.mem_of_getElem? (i := 85) rfl
  | 2, _ => List.mem_of_getElem? (i := 86) rfl
  | 3, _ => List.mem_of_getElem? (i := 87) rfl
  | 4, _ => List.mem_of_getElem? (i := 88) rfl
  | j + 5, h => absurd h (by omega)
set_option maxRecDepth 20000 in
theorem am_el8 : ∀ j : Nat, j < 2 → Cond.eq (.elem (.field (am_tm 8) "java/lang/String" "value" "[B") (.int (Int32.ofNat j))) (.int ((am_byt.getD 8 []).getD j 0)) ∈ flatC am_PR
  | 0, _ => List.mem_of_getElem? (i := 100) rfl
  | 1, _ => List.mem_of_getElem? (i := 101) rfl
  | j + 2, h => absurd h (by omega)
set_option maxRecDepth 20000 in
theorem am_el9 : ∀ j : Nat, j < 5 → Cond.eq (.elem (.field (am_tm 9) "java/lang/String" "value" "[B") (.int (Int32.ofNat j))) (.int ((am_byt.getD 9 []).getD j 0)) ∈ flatC am_PR
  | 0, _ => List.mem_of_getElem? (i := 114) rfl
  | 1, _ => List.mem_of_getElem? (i := 115) rfl
  | 2, _ => List.mem_of_getElem? (i := 116) rfl
  | 3, _ => List.mem_of_getElem? (i := 117) rfl
  | 4, _ => List.mem_of_getElem? (i := 118) rfl
  | j + 5, h => absurd h (by omega)
set_option maxRecDepth 20000 in
theorem am_el10 : ∀ j : Nat, j < 4 → Cond.eq (.elem (.field (am_tm 10) "java/lang/String" "value" "[B") (.int (Int32.ofNat j))) (.int ((am_byt.getD 10 []).getD j 0)) ∈ flatC am_PR
  | 0, _ => List.mem_of_getElem? (i := 132) rfl
  | 1, _ => List.mem_of_getElem? (i := 133) rfl
  | 2, _ => List.mem_of_getElem? (i := 134) rfl
  | 3, _ => List.mem_of_getElem? (i := 135) rfl
  | j + 4, h => absurd h (by omega)
set_option maxRecDepth 20000 in
theorem am_el11 : ∀ j : Nat, j < 4 → Cond.eq (.elem (.field (am_tm 11) "java/lang/String" "value" "[B") (.int (Int32.ofNat j))) (.int ((am_byt.getD 11 []).getD j 0)) ∈ flatC am_PR
  | 0, _ => List.mem_of_getElem? (i := 150) rfl
  | 1, _ => List.mem_of_getElem? (i := 151) rfl
  | 2, _ => List.mem_of_getElem? (i := 152) rfl
  | 3, _ => List.mem_of_getElem? (i := 153) rfl
  | j + 4, h => absurd h (by omega)
set_option maxRecDepth 20000 in
theorem am_el12 : ∀ j : Nat, j < 5 → Cond.eq (.elem (.field (am_tm 12) "java/lang/String" "value" "[B") (.int (Int32.ofNat j))) (.int ((am_byt.getD 12 []).getD j 0)) ∈ flatC am_PR
  | 0, _ => List.mem_of_getElem? (i := 169) rfl
  | 1, _ => List.mem_of_getElem? (i := 170) rfl
  | 2, _ => List.mem_of_getElem? (i := 171) rfl
  | 3, _ => List.mem_of_getElem? (i := 172) rfl
  | 4, _ => List.mem_of_getElem? (i := 173) rfl
  | j + 5, h => absurd h (by omega)
set_option maxRecDepth 20000 in
theorem am_el13 : ∀ j : Nat, j < 2 → Cond.eq (.elem (.field (am_tm 13) "java/lang/String" "value" "[B") (.int (Int32.ofNat j))) (.int ((am_byt.getD 13 []).getD j 0)) ∈ flatC am_PR
  | 0, _ => List.mem_of_getElem? (i := 190) rfl
  | 1, _ => List.mem_of_getElem? (i := 191) rfl
  | j + 2, h => absurd h (by omega)
theorem am_el : ∀ i : Nat, i < 14 → ∀ j : Nat, j < am_lns.getD i 0 → Cond.eq (.elem (.field (am_tm i) "java/lang/String" "value" "[B") (.int (Int32.ofNat j))) (.int ((am_byt.getD i []).getD j 0)) ∈ flatC am_PR
  | 0, _, j, hj => am_el0 j hj
  | 1, _, j, hj => am_el1 j hj
  | 2, _, j, hj => am_el2 j hj
  | 3, _, j, hj => am_el3 j hj
  | 4, _, j, hj => am_el4 j hj
  | 5, _, j, hj => am_el5 j hj
  | 6, _, j, hj => am_el6 j hj
  | 7, _, j, hj => am_el7 j hj
  | 8, _, j, hj => am_el8 j hj
  | 9, _, j, hj => am_el9 j hj
  | 10, _, j, hj => am_el10 j hj
  | 11, _, j, hj => am_el11 j hj
  | 12, _, j, hj => am_el12 j hj
  | 13, _, j, hj => am_el13 j hj
  | i + 14, h, _, _ => absurd h (by omega)
set_option maxRecDepth 20000 in
theorem am_ne : ∀ i j : Nat, i < 14 → j < 14 → i ≠ j → Cond.not (Cond.eq (am_tm i) (am_tm j)) ∈ flatC am_PR ∨ Cond.not (Cond.eq (am_tm j) (am_tm i)) ∈ flatC am_PR
  | 0, 0, _, _, h => absurd rfl h
  | 0, 1, _, _, _ => Or.inl (List.mem_of_getElem? (i := 22) rfl)
  | 0, 2, _, _, _ => Or.inl (List.mem_of_getElem? (i := 31) rfl)
  | 0, 3, _, _, _ => Or.inl (List.mem_of_getElem? (i := 42) rfl)
  | 0, 4, _, _, _ => Or.inl (List.mem_of_getElem? (i := 50) rfl)
  | 0, 5, _, _, _ => Or.inl (List.mem_of_getElem? (i := 61) rfl)
  | 0, 6, _, _, _ => Or.inl (List.mem_of_getElem? (i := 74) rfl)
  | 0, 7, _, _, _ => Or.inl (List.mem_of_getElem? (i := 89) rfl)
  | 0, 8, _, _, _ => Or.inl (List.mem_of_getElem? (i := 102) rfl)
  | 0, 9, _, _, _ => Or.inl (List.mem_of_getElem? (i := 119) rfl)
  | 0, 10, _, _, _ => Or.inl (List.mem_of_getElem? (i := 136) rfl)
  | 0, 11, _, _, _ => Or.inl (List.mem_of_getElem? (i := 154) rfl)
  | 0, 12, _, _, _ => Or.inl (List.mem_of_getElem? (i := 174) rfl)
  | 0, 13, _, _, _ => Or.inl (List.mem_of_getElem? (i := 192) rfl)
  | 1, 0, _, _, _ => Or.inr (List.mem_of_getElem? (i := 22) rfl)
  | 1, 1, _, _, h => absurd rfl h
  | 1, 2, _, _, _ => Or.inl (List.mem_of_getElem? (i := 32) rfl)
  | 1, 3, _, _, _ => Or.inl (List.mem_of_getElem? (i := 43) rfl)
  | 1, 4, _, _, _ => Or.inl (List.mem_of_getElem? (i := 51) rfl)
  | 1, 5, _, _, _ => Or.inl (List.mem_of_getElem? (i := 62) rfl)
  | 1, 6, _, _, _ => Or.inl (List.mem_of_getElem? (i := 75) rfl)
  | 1, 7, _, _, _ => Or.inl (List.mem_of_getElem? (i := 90) rfl)
  | 1, 8, _, _, _ => Or.inl (List.mem_of_getElem? (i := 103) rfl)
  | 1, 9, _, _, _ => Or.inl (List.mem_of_getElem? (i := 120) rfl)
  | 1, 10, _, _, _ => Or.inl (List.mem_of_getElem? (i := 137) rfl)
  | 1, 11, _, _, _ => Or.inl (List.mem_of_getElem? (i := 155) rfl)
  | 1, 12, _, _, _ => Or.inl (List.mem_of_getElem? (i := 175) rfl)
  | 1, 13, _, _, _ => Or.inl (List.mem_of_getElem? (i := 193) rfl)
  | 2, 0, _, _, _ => Or.inr (List.mem_of_getElem? (i := 31) rfl)
  | 2, 1, _, _, _ => Or.inr (List.mem_of_getElem? (i := 32) rfl)
  | 2, 2, _, _, h => absurd rfl h
  | 2, 3, _, _, _ => Or.inl (List.mem_of_getElem? (i := 44) rfl)
  | 2, 4, _, _, _ => Or.inl (List.mem_of_getElem? (i := 52) rfl)
  | 2, 5, _, _, _ => Or.inl (List.mem_of_getElem? (i := 63) rfl)
  | 2, 6, _, _, _ => Or.inl (List.mem_of_getElem? (i := 76) rfl)
  | 2, 7, _, _, _ => Or.inl (List.mem_of_getElem? (i := 91) rfl)
  | 2, 8, _, _, _ => Or.inl (List.mem_of_getElem? (i := 104) rfl)
  | 2, 9, _, _, _ => Or.inl (List.mem_of_getElem? (i := 121) rfl)
  | 2, 10, _, _, _ => Or.inl (List.mem_of_getElem? (i := 138) rfl)
  | 2, 11, _, _, _ => Or.inl (List.mem_of_getElem? (i := 156) rfl)
  | 2, 12, _, _, _ => Or.inl (List.mem_of_getElem? (i := 176) rfl)
  | 2, 13, _, _, _ => Or.inl (List.mem_of_getElem? (i := 194) rfl)
  | 3, 0, _, _, _ => Or.inr (List.mem_of_getElem? (i := 42) rfl)
  | 3, 1, _, _, _ => Or.inr (List.mem_of_getElem? (i := 43) rfl)
  | 3, 2, _, _, _ => Or.inr (List.mem_of_getElem? (i := 44) rfl)
  | 3, 3, _, _, h => absurd rfl h
  | 3, 4, _, _, _ => Or.inl (List.mem_of_getElem? (i := 53) rfl)
  | 3, 5, _, _, _ => Or.inl (List.mem_of_getElem? (i := 64) rfl)
  | 3, 6, _, _, _ => Or.inl (List.mem_of_getElem? (i := 77) rfl)
  | 3, 7, _, _, _ => Or.inl (List.mem_of_getElem? (i := 92) rfl)
  | 3, 8, _, _, _ => Or.inl (List.mem_of_getElem? (i := 105) rfl)
  | 3, 9, _, _, _ => Or.inl (List.mem_of_getElem? (i := 122) rfl)
  | 3, 10, _, _, _ => Or.inl (List.mem_of_getElem? (i := 139) rfl)
  | 3, 11, _, _, _ => Or.inl (List.mem_of_getElem? (i := 157) rfl)
  | 3, 12, _, _, _ => Or.inl (List.mem_of_getElem? (i := 177) rfl)
  | 3, 13, _, _, _ => Or.inl (List.mem_of_getElem? (i := 195) rfl)
  | 4, 0, _, _, _ => Or.inr (List.mem_of_getElem? (i := 50) rfl)
  | 4, 1, _, _, _ => Or.inr (List.mem_of_getElem? (i := 51) rfl)
  | 4, 2, _, _, _ => Or.inr (List.mem_of_getElem? (i := 52) rfl)
  | 4, 3, _, _, _ => Or.inr (List.mem_of_getElem? (i := 53) rfl)
  | 4, 4, _, _, h => absurd rfl h
  | 4, 5, _, _, _ => Or.inl (List.mem_of_getElem? (i := 65) rfl)
  | 4, 6, _, _, _ => Or.inl (List.mem_of_getElem? (i := 78) rfl)
  | 4, 7, _, _, _ => Or.inl (List.mem_of_getElem? (i := 93) rfl)
  | 4, 8, _, _, _ => Or.inl (List.mem_of_getElem? (i := 106) rfl)
  | 4, 9, _, _, _ => Or.inl (List.mem_of_getElem? (i := 123) rfl)
  | 4, 10, _, _, _ => Or.inl (List.mem_of_getElem? (i := 140) rfl)
  | 4, 11, _, _, _ => Or.inl (List.mem_of_getElem? (i := 158) rfl)
  | 4, 12, _, _, _ => Or.inl (List.mem_of_getElem? (i := 178) rfl)
  | 4, 13, _, _, _ => Or.inl (List.mem_of_getElem? (i := 196) rfl)
  | 5, 0, _, _, _ => Or.inr (List.mem_of_getElem? (i := 61) rfl)
  | 5, 1, _, _, _ => Or.inr (List.mem_of_getElem? (i := 62) rfl)
  | 5, 2, _, _, _ => Or.inr (List.mem_of_getElem? (i := 63) rfl)
  | 5, 3, _, _, _ => Or.inr (List.mem_of_getElem? (i := 64) rfl)
  | 5, 4, _, _, _ => Or.inr (List.mem_of_getElem? (i := 65) rfl)
  | 5, 5, _, _, h => absurd rfl h
  | 5, 6, _, _, _ => Or.inl (List.mem_of_getElem? (i := 79) rfl)
  | 5, 7, _, _, _ => Or.inl (List.mem_of_getElem? (i := 94) rfl)
  | 5, 8, _, _, _ => Or.inl (List.mem_of_getElem? (i := 107) rfl)
  | 5, 9, _, _, _ => Or.inl (List.mem_of_getElem? (i := 124) rfl)
  | 5, 10, _, _, _ => Or.inl (List.mem_of_getElem? (i := 141) rfl)
  | 5, 11, _, _, _ => Or.inl (List.mem_of_getElem? (i := 159) rfl)
  | 5, 12, _, _, _ => Or.inl (List.mem_of_getElem? (i := 179) rfl)
  | 5, 13, _, _, _ => Or.inl (List.mem_of_getElem? (i := 197) rfl)
  | 6, 0, _, _, _ => Or.inr (List.mem_of_getElem? (i := 74) rfl)
  | 6, 1, _, _, _ => Or.inr (List.mem_of_getElem? (i := 75) rfl)
  | 6, 2, _, _, _ => Or.inr (List.mem_of_getElem? (i := 76) rfl)
  | 6, 3, _, _, _ => Or.inr (List.mem_of_getElem? (i := 77) rfl)
  | 6, 4, _, _, _ => Or.inr (List.mem_of_getElem? (i := 78) rfl)
  | 6, 5, _, _, _ => Or.inr (List.mem_of_getElem? (i := 79) rfl)
  | 6, 6, _, _, h => absurd rfl h
  | 6, 7, _, _, _ => Or.inl (List.mem_of_getElem? (i := 95) rfl)
  | 6, 8, _, _, _ => Or.inl (List.mem_of_getElem? (i := 108) rfl)
  | 6, 9, _, _, _ => Or.inl (List.mem_of_getElem? (i := 125) rfl)
  | 6, 10, _, _, _ => Or.inl (List.mem_of_getElem? (i := 142) rfl)
  | 6, 11, _, _, _ => Or.inl (List.mem_of_getElem? (i := 160) rfl)
  | 6, 12, _, _, _ => Or.inl (List.mem_of_getElem? (i := 180) rfl)
  | 6, 13, _, _, _ => Or.inl (List.mem_of_getElem? (i := 198) rfl)
  | 7, 0, _, _, _ => Or.inr (List.mem_of_getElem? (i := 89) rfl)
  | 7, 1, _, _, _ => Or.inr (List.mem_of_getElem? (i := 90) rfl)
  | 7, 2, _, _, _ => Or.inr (List.mem_of_getElem? (i := 91) rfl)
  | 7, 3, _, _, _ => Or.inr (List.mem_of_getElem? (i := 92) rfl)
  | 7, 4, _, _, _ => Or.inr (List.mem_of_getElem? (i := 93) rfl)
  | 7, 5, _, _, _ => Or.inr (List.mem_of_getElem? (i := 94) rfl)
  | 7, 6, _, _, _ => Or.inr (List.mem_of_getElem? (i := 95) rfl)
  | 7, 7, _, _, h => absurd rfl h
  | 7, 8, _, _, _ => Or.inl (List.mem_of_getElem? (i := 109) rfl)
  | 7, 9, _, _, _ => Or.inl (List.mem_of_getElem? (i := 126) rfl)
  | 7, 10, _, _, _ => Or.inl (List.mem_of_getElem? (i := 143) rfl)
  | 7, 11, _, _, _ => Or.inl (List.mem_of_getElem? (i := 161) rfl)
  | 7, 12, _, _, _ => Or.inl (List.mem_of_getElem? (i := 181) rfl)
  | 7, 13, _, _, _ => Or.inl (List.mem_of_getElem? (i := 199) rfl)
  | 8, 0, _, _, _ => Or.inr (List.mem_of_getElem? (i := 102) rfl)
  | 8, 1, _, _, _ => Or.inr (List.mem_of_getElem? (i := 103) rfl)
  | 8, 2, _, _, _ => Or.inr (List.mem_of_getElem? (i := 104) rfl)
  | 8, 3, _, _, _ => Or.inr (List.mem_of_getElem? (i := 105) rfl)
  | 8, 4, _, _, _ => Or.inr (List.mem_of_getElem? (i := 106) rfl)
  | 8, 5, _, _, _ => Or.inr (List.mem_of_getElem? (i := 107) rfl)
  | 8, 6, _, _, _ => Or.inr (List.mem_of_getElem? (i := 108) rfl)
  | 8, 7, _, _, _ => Or.inr (List.mem_of_getElem? (i := 109) rfl)
  | 8, 8, _, _, h => absurd rfl h
  | 8, 9, _, _, _ => Or.inl (List.mem_of_getElem? (i := 127) rfl)
  | 8, 10, _, _, _ => Or.inl (List.mem_of_getElem? (i := 144) rfl)
  | 8, 11, _, _, _ => Or.inl (List.mem_of_getElem? (i := 162) rfl)
  | 8, 12, _, _, _ => Or.inl (List.mem_of_getElem? (i := 182) rfl)
  | 8, 13, _, _, _ => Or.inl (List.mem_of_getElem? (i := 200) rfl)
  | 9, 0, _, _, _ => Or.inr (List.mem_of_getElem? (i := 119) rfl)
  | 9, 1, _, _, _ => Or.inr (List.mem_of_getElem? (i := 120) rfl)
  | 9, 2, _, _, _ => Or.inr (List.mem_of_getElem? (i := 121) rfl)
  | 9, 3, _, _, _ => Or.inr (List.mem_of_getElem? (i := 122) rfl)
  | 9, 4, _, _, _ => Or.inr (List.mem_of_getElem? (i := 123) rfl)
  | 9, 5, _, _, _ => Or.inr (List.mem_of_getElem? (i := 124) rfl)
  | 9, 6, _, _, _ => Or.inr (List.mem_of_getElem? (i := 125) rfl)
  | 9, 7, _, _, _ => Or.inr (List.mem_of_getElem? (i := 126) rfl)
  | 9, 8, _, _, _ => Or.inr (List.mem_of_getElem? (i := 127) rfl)
  | 9, 9, _, _, h => absurd rfl h
  | 9, 10, _, _, _ => Or.inl (List.mem_of_getElem? (i := 145) rfl)
  | 9, 11, _, _, _ => Or.inl (List.mem_of_getElem? (i := 163) rfl)
  | 9, 12, _, _, _ => Or.inl (List.mem_of_getElem? (i := 183) rfl)
  | 9, 13, _, _, _ => Or.inl (List.mem_of_getElem? (i := 201) rfl)
  | 10, 0, _, _, _ => Or.inr (List.mem_of_getElem? (i := 136) rfl)
  | 10, 1, _, _, _ => Or.inr (List.mem_of_getElem? (i := 137) rfl)
  | 10, 2, _, _, _ => Or.inr (List.mem_of_getElem? (i := 138) rfl)
  | 10, 3, _, _, _ => Or.inr (List.mem_of_getElem? (i := 139) rfl)
  | 10, 4, _, _, _ => Or.inr (List.mem_of_getElem? (i := 140) rfl)
  | 10, 5, _, _, _ => Or.inr (List.mem_of_getElem? (i := 141) rfl)
  | 10, 6, _, _, _ => Or.inr (List.mem_of_getElem? (i := 142) rfl)
  | 10, 7, _, _, _ => Or.inr (List.mem_of_getElem? (i := 143) rfl)
  | 10, 8, _, _, _ => Or.inr (List.mem_of_getElem? (i := 144) rfl)
  | 10, 9, _, _, _ => Or.inr (List.mem_of_getElem? (i := 145) rfl)
  | 10, 10, _, _, h => absurd rfl h
  | 10, 11, _, _, _ => Or.inl (List.mem_of_getElem? (i := 164) rfl)
  | 10, 12, _, _, _ => Or.inl (List.mem_of_getElem? (i := 184) rfl)
  | 10, 13, _, _, _ => Or.inl (List.mem_of_getElem? (i := 202) rfl)
  | 11, 0, _, _, _ => Or.inr (List.mem_of_getElem? (i := 154) rfl)
  | 11, 1, _, _, _ => Or.inr (List.mem_of_getElem? (i := 155) rfl)
  | 11, 2, _, _, _ => Or.inr (List.mem_of_getElem? (i := 156) rfl)
  | 11, 3, _, _, _ => Or.inr (List.mem_of_getElem? (i := 157) rfl)
  | 11, 4, _, _, _ => Or.inr (List.mem_of_getElem? (i := 158) rfl)
  | 11, 5, _, _, _ => Or.inr (List.mem_of_getElem? (i := 159) rfl)
  | 11, 6, _, _, _ => Or.inr (List.mem_of_getElem? (i := 160) rfl)
  | 11, 7, _, _, _ => Or.inr (List.mem_of_getElem? (i := 161) rfl)
  | 11, 8, _, _, _ => Or.inr (List.mem_of_getElem? (i := 162) rfl)
  | 11, 9, _, _, _ => Or.inr (List.mem_of_getElem? (i := 163) rfl)
  | 11, 10, _, _, _ => Or.inr (List.mem_of_getElem? (i := 164) rfl)
  | 11, 11, _, _, h => absurd rfl h
  | 11, 12, _, _, _ => Or.inl (List.mem_of_getElem? (i := 185) rfl)
  | 11, 13, _, _, _ => Or.inl (List.mem_of_getElem? (i := 203) rfl)
  | 12, 0, _, _, _ => Or.inr (List.mem_of_getElem? (i := 174) rfl)
  | 12, 1, _, _, _ => Or.inr (List.mem_of_getElem? (i := 175) rfl)
  | 12, 2, _, _, _ => Or.inr (List.mem_of_getElem? (i := 176) rfl)
  | 12, 3, _, _, _ => Or.inr (List.mem_of_getElem? (i := 177) rfl)
  | 12, 4, _, _, _ => Or.inr (List.mem_of_getElem? (i := 178) rfl)
  | 12, 5, _, _, _ => Or.inr (List.mem_of_getElem? (i := 179) rfl)
  | 12, 6, _, _, _ => Or.inr (List.mem_of_getElem? (i := 180) rfl)
  | 12, 7, _, _, _ => Or.inr (List.mem_of_getElem? (i := 181) rfl)
  | 12, 8, _, _, _ => Or.inr (List.mem_of_getElem? (i := 182) rfl)
  | 12, 9, _, _, _ => Or.inr (List.mem_of_getElem? (i := 183) rfl)
  | 12, 10, _, _, _ => Or.inr (List.mem_of_getElem? (i := 184) rfl)
  | 12, 11, _, _, _ => Or.inr (List.mem_of_getElem? (i := 185) rfl)
  | 12, 12, _, _, h => absurd rfl h
  | 12, 13, _, _, _ => Or.inl (List.mem_of_getElem? (i := 204) rfl)
  | 13, 0, _, _, _ => Or.inr (List.mem_of_getElem? (i := 192) rfl)
  | 13, 1, _, _, _ => Or.inr (List.mem_of_getElem? (i := 193) rfl)
  | 13, 2, _, _, _ => Or.inr (List.mem_of_getElem? (i := 194) rfl)
  | 13, 3, _, _, _ => Or.inr (List.mem_of_getElem? (i := 195) rfl)
  | 13, 4, _, _, _ => Or.inr (List.mem_of_getElem? (i := 196) rfl)
  | 13, 5, _, _, _ => Or.inr (List.mem_of_getElem? (i := 197) rfl)
  | 13, 6, _, _, _ => Or.inr (List.mem_of_getElem? (i := 198) rfl)
  | 13, 7, _, _, _ => Or.inr (List.mem_of_getElem? (i := 199) rfl)
  | 13, 8, _, _, _ => Or.inr (List.mem_of_getElem? (i := 200) rfl)
  | 13, 9, _, _, _ => Or.inr (List.mem_of_getElem? (i := 201) rfl)
  | 13, 10, _, _, _ => Or.inr (List.mem_of_getElem? (i := 202) rfl)
  | 13, 11, _, _, _ => Or.inr (List.mem_of_getElem? (i := 203) rfl)
  | 13, 12, _, _, _ => Or.inr (List.mem_of_getElem? (i := 204) rfl)
  | 13, 13, _, _, h => absurd rfl h
  | i + 14, _, h, _, _ => absurd h (by omega)
  | _, j + 14, _, h, _ => absurd h (by omega)
set_option maxRecDepth 20000 in
theorem am_sr : ∀ (i n : Nat) (tx : String), am_SLT[i]? = some (n, tx) → Cond.stringRef RX4 n tx ∈ lw_tbl
  | 0, _, _, h => by cases h; exact List.mem_of_getElem? (i := 484) (by decide +kernel)
  | 1, _, _, h => by cases h; exact List.mem_of_getElem? (i := 541) (by decide +kernel)
  | 2, _, _, h => by cases h; exact List.mem_of_getElem? (i := 550) (by decide +kernel)
  | 3, _, _, h => by cases h; exact List.mem_of_getElem? (i := 555) (by decide +kernel)
  | 4, _, _, h => by cases h; exact List.mem_of_getElem? (i := 556) (by decide +kernel)
  | 5, _, _, h => by cases h; exact List.mem_of_getElem? (i := 557) (by decide +kernel)
  | 6, _, _, h => by cases h; exact List.mem_of_getElem? (i := 558) (by decide +kernel)
  | 7, _, _, h => by cases h; exact List.mem_of_getElem? (i := 563) (by decide +kernel)
  | 8, _, _, h => by cases h; exact List.mem_of_getElem? (i := 568) (by decide +kernel)
  | 9, _, _, h => by cases h; exact List.mem_of_getElem? (i := 569) (by decide +kernel)
  | 10, _, _, h => by cases h; exact List.mem_of_getElem? (i := 570) (by decide +kernel)
  | 11, _, _, h => by cases h; exact List.mem_of_getElem? (i := 575) (by decide +kernel)
  | 12, _, _, h => by cases h; exact List.mem_of_getElem? (i := 580) (by decide +kernel)
  | 13, _, _, h => by cases h; exact List.mem_of_getElem? (i := 581) (by decide +kernel)
  | i + 14, _, _, h => by simp [am_SLT] at h
theorem am_start {args : Array Value} {s : State} (hts : ∀ w ∈ lw_tbl, w.before args s = true) (hgv : am_PR.before args s = true) : ∃ ad : Nat → Nat, ST ad (fun q => s.heap.size ≤ q) s s.heap := by
  have hs := flat_of_before _ hgv
  obtain ⟨ad, adV, hS, hev⟩ := vk_Sof (args := args) (s := s) (A := fun q => s.heap.size ≤ q) (tm := am_tm) (len := am_lns) (byt := am_byt) (N := 14) (fun i hi => Nat.lt_trans (sl_ok i hi).1 (by decide)) (fun i hi => hs _ (am_ex i hi)) (fun i hi => hs _ (am_co i hi)) (fun i hi => hs _ (am_av i hi)) (fun i hi => hs _ (am_ln i hi)) (fun i hi j hj => hs _ (am_el i hi j hj))
    (fun i j hi hj hij => (am_ne i j hi hj hij).elim (fun h => Or.inl (hs _ h)) (fun h => Or.inr (hs _ h))) (fun q h9 => Nat.not_le.mpr h9)
  refine ⟨ad, ⟨adV, hS⟩, fun i n tx hi => ?_, va_Zof (hts _ (List.mem_of_getElem? (i := 498) (by decide +kernel))) (hts _ (List.mem_of_getElem? (i := 66) (by decide +kernel))) (va_eqt (hs _ (List.mem_of_getElem? (i := 4) rfl))) (fun q h9 => Nat.not_le.mpr h9), va_Zqof (hts _ (List.mem_of_getElem? (i := 514) (by decide +kernel))) (hts _ (List.mem_of_getElem? (i := 68) (by decide +kernel))) (hs _ (List.mem_of_getElem? (i := 5) rfl)) (fun q h9 => Nat.not_le.mpr h9)⟩
  have hi14 : i < 14 := (List.getElem?_eq_some_iff.mp hi).1
  have he := hev i hi14
  have e1 : am_tm i = .string RX4 n := by unfold am_tm; rw [List.getD_eq_getElem?_getD, hi]; rfl
  rw [e1] at he
  exact vk_R.of (hts _ (am_sr i n tx hi)) he
theorem am_ns {args : Array Value} {s : State} (hts : ∀ w ∈ lw_tbl, w.before args s = true) : NS s :=
  ⟨fun p o n j pl hp => va_Nw.of rfl (hts _ (am_mlN hp)), va_AO.of (hts _ (List.mem_of_getElem? (i := 182) (by decide +kernel)))⟩
def LAWRUN : Prop := ∀ sc : List Int, sc.length ≤ 2560 → (∀ z ∈ sc, inI z) → ∃ (n : Nat) (G' : AG), run n 169 (0, L0 169 [vR 0], [], [eA .int sc], 0, 0) (some (vI 1)) G'
set_option maxHeartbeats 4000000 in
/-- the law, from its entry, out of the abstract machine's run of it -/
theorem whole_start_of (LAW : LAWRUN) {p : Program} {e : Env} {s : State} {m : MethodId} {below : List Frame} {meth : Method} {c : Code} (l : Launch) (hflags : l.flags = flags0) {b L : Nat} {xs : Nat → Int32} (hL : L ≤ 2560) (C0 : lw_At p s m meth c b L xs) : W p l e room_1 s m #[Value.ref b] below meth c s.heap [] 0 0 (lw_Z below #[Value.ref b] s) (entryFrame m ([Value.ref b] : List Value).toArray 4) := by
  obtain ⟨hx, hb, hr, hml, hown, hts, hX, hbl, hlocks, hgv⟩ := C0
  obtain ⟨c0, iS0, hKn0⟩ := u_known (C := RX0) (T := TX0) (N := 9) (n := 9) hts (fun w hw => (List.mem_filter.mp (uwX0 w hw)).1) (hts (.instantiable RX0 9) (List.mem_filter.mp isX0).1)
  obtain ⟨c1, iS1, hKn1⟩ := u_known (C := RX1) (T := TX1) (N := 10) (n := 10) hts (fun w hw => (List.mem_filter.mp (uwX1 w hw)).1) (hts (.instantiable RX1 10) (List.mem_filter.mp isX1).1)
  obtain ⟨c2, iS2, hKn2⟩ := u_known (C := RX2) (T := TX2) (N := 6) (n := 6) hts (fun w hw => (List.mem_filter.mp (uwX2 w hw)).1) (hts (.instantiable RX2 6) (List.mem_filter.mp isX2).1)
  obtain ⟨c3, iS3, hKn3⟩ := u_known (C := RX3) (T := TX3) (N := 6) (n := 6) hts (fun w hw => (List.mem_filter.mp (uwX3 w hw)).1) (hts (.instantiable RX3 6) (List.mem_filter.mp isX3).1)
  obtain ⟨c4, iS4, hKn4⟩ := u_known (C := RX4) (T := TX4) (N := 4) (n := 4) hts (fun w hw => (List.mem_filter.mp (uwX4 w hw)).1) (hts (.instantiable RX4 4) (List.mem_filter.mp isX4).1)
  obtain ⟨c5, iS5, hKn5⟩ := u_known (C := RX5) (T := TX5) (N := 5) (n := 5) hts (fun w hw => (List.mem_filter.mp (uwX5 w hw)).1) (hts (.instantiable RX5 5) (List.mem_filter.mp isX5).1)
  obtain ⟨c6, iS6, hKn6⟩ := u_known (C := RX6) (T := TX6) (N := 13) (n := 13) hts (fun w hw => (List.mem_filter.mp (uwX6 w hw)).1) (hts (.instantiable RX6 13) (List.mem_filter.mp isX6).1)
  obtain ⟨c7, iS7, hKn7⟩ := u_known (C := RX7) (T := TX7) (N := 40) (n := 40) hts (fun w hw => (List.mem_filter.mp (uwX7 w hw)).1) (hts (.instantiable RX7 40) (List.mem_filter.mp isX7).1)
  obtain ⟨dC, dI, hKc⟩ : ∃ (dC : Nat → ClassId) (dI : Nat → Nat → Nat), ∀ (k : Nat) (q : vw_C), vwCl[k]? = some q → u_Kn s q.1 q.2.1 q.2.2 (dC k) (dI k) := by
    refine ⟨fun k => match k with | 0 => c0 | 1 => c1 | 2 => c2 | 3 => c3 | 4 => c4 | 5 => c5 | 6 => c6 | _ => c7, fun k => match k with | 0 => iS0 | 1 => iS1 | 2 => iS2 | 3 => iS3 | 4 => iS4 | 5 => iS5 | 6 => iS6 | _ => iS7, ?_⟩
    intro k q hq
    match k, hq with
    | 0, hq => cases hq; exact hKn0
    | 1, hq => cases hq; exact hKn1
    | 2, hq => cases hq; exact hKn2
    | 3, hq => cases hq; exact hKn3
    | 4, hq => cases hq; exact hKn4
    | 5, hq => cases hq; exact hKn5
    | 6, hq => cases hq; exact hKn6
    | 7, hq => cases hq; exact hKn7
    | k + 8, hq => simp [vwCl] at hq
  obtain ⟨ad, hST⟩ := am_start hts hgv
  have hNS := am_ns hts
  have hslen : ((List.range L).map (fun j => (xs j).toInt)).length = L := by simp
  obtain ⟨n, G', hrun⟩ := LAW ((List.range L).map (fun j => (xs j).toInt)) (by rw [hslen]; exact hL) (fun z hz => by
    obtain ⟨j, -, rfl⟩ := List.mem_map.mp hz
    have := am_rng (xs j)
    exact ⟨by omega, by omega⟩)
  generalize hsc : (List.range L).map (fun j => (xs j).toInt) = sc at hrun hslen
  have hxs : ∀ j, j < sc.length → (xs j).toInt = sc.getD j 0 := by
    intro j hj
    rw [← hsc, List.getD_eq_getElem?_getD, List.getElem?_map, List.getElem?_range (by omega)]
    rfl
  have T : CT p room_1 s m #[Value.ref b] meth c 169 ad b sc (fun q => s.heap.size ≤ q) := ⟨⟨hx, hb, hml, hown, fun w hw => hts w (List.mem_filter.mp hw).1, fun h => absurd h (by decide)⟩, ⟨by decide, by decide, Nat.le_of_ble_eq_true rfl, Nat.le_of_ble_eq_true rfl⟩, ⟨fun q h => h, Nat.not_le.mpr hbl, hbl, ⟨xs, by rw [hslen]; exact hX, hxs⟩, hST, hNS⟩⟩
  rw [lg_entry_eq]
  refine run_ok n 169 _ _ _ hrun (D := (dC, dI)) (ρ0 := rho b []) T ?_ [] [] s.heap [] _ [] (Nat.zero_le _) (Nat.zero_le _) ⟨⟨hKc, fun k q h => by simp at h⟩, fun k q h => by simp at h, ⟨fun i j p q h => by simp at h, fun k q h => by simp at h⟩, va_S.rf, ⟨[], rfl, rfl, fun i q e h => by simp at h⟩⟩ (LR.entry (j := 169) (vs := [.ref b]) (as := [vR 0]) ⟨rfl, trivial⟩ (fun a ha => by cases ha with | head => rfl | tail _ h => cases h) (by decide)) trivial (List.prefix_rfl)
  intro ws tys H locs cs sl pc ls y hc hs I hρ hRT hO
  rcases y with _ | v
  · exact absurd hO id
  · obtain ⟨z, rfl, hz⟩ := VR_I (z := 1) hO
    obtain rfl : z = 1 := Int32.toInt_inj.mp (by rw [hz]; rfl)
    refine va_forget (fun q hq => I.2.2.2.1.2.2 q hq) ?_
    refine W.widen (k := 600000) (n := 7302250) (Nat.le_trans hc (Nat.le_of_ble_eq_true rfl)) (Nat.le_trans hs (Nat.le_of_ble_eq_true rfl)) ?_
    exact lw_ret hx hb hr hlocks hRT.1
