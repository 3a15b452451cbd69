/-! a text that lies there and stays; members that read alone -/
def SV (a v n : Nat) (f : Nat → Int32) (A : Nat → Prop) (U : State) (H : Heap) : Prop := va_O "java/lang/String" a A U H ∧ va_OF "java/lang/String" "coder" "B" (.int 0) a A U H ∧ va_OF "java/lang/String" "value" "[B" (.ref v) a A U H ∧ va_T .byte v n (fun j => .int (f j)) A U H
theorem SV.moved {a v n : Nat} {f : Nat → Int32} {A : Nat → Prop} {u U : State} {H : Heap} (hvm : u.vm.Alike U.vm) (h : SV a v n f A u H) : SV a v n f A U H := ⟨va_O.moved hvm h.1, va_OF.moved hvm h.2.1, va_OF.moved hvm h.2.2.1, va_T.moved hvm h.2.2.2⟩
theorem SV.kept {a v n : Nat} {f : Nat → Int32} {A : Nat → Prop} {U : State} {H H1 : Heap} (h : SV a v n f A U H) (hq : ∀ a : Nat, a < H.size → ¬ A a → H1[a]? = H[a]?) : SV a v n f A U H1 := ⟨h.1.kept hq, h.2.1.kept hq, h.2.2.1.kept hq, h.2.2.2.kept hq⟩
theorem SV.narrow {a v n : Nat} {f : Nat → Int32} {A B : Nat → Prop} {U : State} {H : Heap} (h : SV a v n f A U H) (hAB : ∀ q, B q → A q) : SV a v n f B U H := ⟨h.1.narrow hAB, h.2.1.narrow hAB, h.2.2.1.narrow hAB, h.2.2.2.narrow hAB⟩
theorem SV.same {a v n : Nat} {f : Nat → Int32} {A : Nat → Prop} {u U : State} {H : Heap} (hv : U.vm = u.vm) (h : SV a v n f A u H) : SV a v n f A U H := h.moved (by rw [hv]; exact Vm.Alike.refl u.vm)
theorem SV.recv {a v n : Nat} {f : Nat → Int32} {A : Nat → Prop} {s : State} {H : Heap} {locs : List Loc} (h : SV a v n f A s s.heap) (hS : va_S A s.heap H locs) : ∃ cell : Cell, H[a]? = some cell ∧ cell.vm.isStatics = false ∧ s.vm.findClass RJ0 = some cell.cls := by
  obtain ⟨cell, h1, h2, h3, -⟩ := h.1.kept hS.2.1
  exact ⟨cell, h1, h2, h3⟩
def QcVal (x : Option Value) : Array Value → State → Outcome → State → Prop := fun _ st o t => o = .returned x ∧ t.heap = st.heap
theorem W_callQ {p : Program} {l : Launch} {e : Env} {R : Room} {s : State} {m : MethodId} {args : Array Value} {below : List Frame} {meth : Method} {c : Code} {H : Heap} {locs : List Loc} {cells slots : Nat} {Q : State → Prop} {g : JFrame} {rest : List Value} {a : Array Value} {x : Option Value}
    (hr : CallRun p l e R s m args below meth c H locs cells slots 0 0 g rest (QcVal x a) (fun _ => False)) (kk : W p l e R s m args below meth c H locs cells slots Q { g with pc := g.pc + 3, stack := x.toList ++ rest }) : W p l e R s m args below meth c H locs cells slots Q g := by
  intro T hT X
  obtain ⟨v, st₀, t, T', L, h0, X', hL, e1, ⟨hv, hh⟩, st⟩ := hr T hT X
  cases hv
  obtain ⟨t2, a1, b1⟩ := kk T' (by rw [e1, hh, h0]) (Stand.forget X' (fun q h => (hL q h).elim))
  exact ⟨t2, st t2 a1, b1⟩
/-- starts: of a member that reads a world, that reads a text, that reads both -/
def PcR (D : va_G) (ad : Nat → Nat) (ws : va_W) (tys : List (ClassId × FieldType)) (vs : List Value) : Array Value → State → Prop := va_Pc vs (fun U => ST ad (fun _ => False) U U.heap ∧ va_P D vwCl ws U.heap ∧ va_K D vwCl tys U)
theorem PcR.blind {D : va_G} {ad : Nat → Nat} {ws : va_W} {tys : List (ClassId × FieldType)} {vs : List Value} : FrameBlind (PcR D ad ws tys vs) := fun a U g mk h => ⟨h.1, ST.same (u := U) rfl h.2.1, h.2.2.1, va_K.moved (u := U) (Vm.Alike.refl U.vm) h.2.2.2⟩
def PcV (ad : Nat → Nat) (a v n : Nat) (f : Nat → Int32) (vs : List Value) : Array Value → State → Prop := va_Pc vs (fun U => ST ad (fun _ => False) U U.heap ∧ SV a v n f (fun _ => False) U U.heap)
theorem PcV.blind {ad : Nat → Nat} {a v n : Nat} {f : Nat → Int32} {vs : List Value} : FrameBlind (PcV ad a v n f vs) := fun a U g mk h => ⟨h.1, ST.same (u := U) rfl h.2.1, SV.same (u := U) rfl h.2.2⟩
def PcRV (D : va_G) (ad : Nat → Nat) (ws : va_W) (tys : List (ClassId × FieldType)) (a v n : Nat) (f : Nat → Int32) (vs : List Value) : Array Value → State → Prop := va_Pc vs (fun U => ST ad (fun _ => False) U U.heap ∧ SV a v n f (fun _ => False) U U.heap ∧ va_P D vwCl ws U.heap ∧ va_K D vwCl tys U)
theorem PcRV.blind {D : va_G} {ad : Nat → Nat} {ws : va_W} {tys : List (ClassId × FieldType)} {a v n : Nat} {f : Nat → Int32} {vs : List Value} : FrameBlind (PcRV D ad ws tys a v n f vs) := fun a U g mk h => ⟨h.1, ST.same (u := U) rfl h.2.1, SV.same (u := U) rfl h.2.2.1, h.2.2.2.1, va_K.moved (u := U) (Vm.Alike.refl U.vm) h.2.2.2.2⟩
def Fa : Nat → Prop := fun _ => False
theorem ST.none {ad : Nat → Nat} {A : Nat → Prop} {s : State} {H : Heap} {locs : List Loc} (h : ST ad A s s.heap) (hS : va_S A s.heap H locs) {U : State} (hU : U.heap = H) (hW : s.WarmedH U.vm) : ST ad (fun _ => False) U U.heap := by
  rw [hU]
  exact ((h.kept hS.2.1).narrow (fun _ h => h.elim)).warm hW
theorem SV.none {a v n : Nat} {f : Nat → Int32} {A : Nat → Prop} {s : State} {H : Heap} {locs : List Loc} (h : SV a v n f A s s.heap) (hS : va_S A s.heap H locs) {U : State} (hU : U.heap = H) (hW : s.WarmedH U.vm) : SV a v n f (fun _ => False) U U.heap := by
  rw [hU]
  exact ((h.kept hS.2.1).narrow (fun _ h => h.elim)).moved hW.alike
theorem jpR {D : va_G} {ad : Nat → Nat} {ws : va_W} {tys : List (ClassId × FieldType)} {A : Nat → Prop} {s : State} {H : Heap} {locs : List Loc} (hT : ST ad A s s.heap) (hS : va_S A s.heap H locs) (hP : va_P D vwCl ws H) (hK : va_K D vwCl tys s) (vs : List Value) (U : State) (hU : U.heap = H) (hW : s.WarmedH U.vm) : PcR D ad ws tys vs vs.toArray U := ⟨rfl, hT.none hS hU hW, by rw [hU]; exact hP, va_K.moved hW.alike hK⟩
theorem jpV {ad : Nat → Nat} {a v n : Nat} {f : Nat → Int32} {A : Nat → Prop} {s : State} {H : Heap} {locs : List Loc} (hT : ST ad A s s.heap) (hV : SV a v n f A s s.heap) (hS : va_S A s.heap H locs) (vs : List Value) (U : State) (hU : U.heap = H) (hW : s.WarmedH U.vm) : PcV ad a v n f vs vs.toArray U := ⟨rfl, hT.none hS hU hW, hV.none hS hU hW⟩
theorem jpRV {D : va_G} {ad : Nat → Nat} {ws : va_W} {tys : List (ClassId × FieldType)} {a v n : Nat} {f : Nat → Int32} {A : Nat → Prop} {s : State} {H : Heap} {locs : List Loc} (hT : ST ad A s s.heap) (hV : SV a v n f A s s.heap) (hS : va_S A s.heap H locs) (hP : va_P D vwCl ws H) (hK : va_K D vwCl tys s) (vs : List Value) (U : State) (hU : U.heap = H) (hW : s.WarmedH U.vm) : PcRV D ad ws tys a v n f vs vs.toArray U := ⟨rfl, hT.none hS hU hW, hV.none hS hU hW, by rw [hU]; exact hP, va_K.moved hW.alike hK⟩
theorem bd_recv {D : va_G} {ws : va_W} {tys : List (ClassId × FieldType)} {s : State} {H : Heap} {i b : Nat} {fs : List Value} (hK : va_K D vwCl tys s) (hP : va_P D vwCl ws H) (h : ws[i]? = some (b, .inr (8, fs))) : ∃ cell : Cell, H[b]? = some cell ∧ cell.vm.isStatics = false ∧ s.vm.findClass RJ4 = some cell.cls := va_recv hK hP (q := (RJ4, TJ4, 4)) rfl h
/-- words and room of a call through a builder's superclass -/
theorem cu_of {R : Room} {s : State} {args : Array Value} {own C owner : String} {index : Nat} {x y : MethodName} {b0 bytes : ByteArray} {m0 maxL : Nat} {r0 ret : Option FieldType} {rm : Room} {mc ms n : Nat} (hts : ∀ w ∈ WG, w.before args s = true) (hc : Cond.code y bytes maxL ret ∈ WG) (hini : Cond.initialized y.cls ∈ WG) (hl : Cond.methodLink own index x ∈ WG) (hsm : Cond.sameMethod x.cls owner x.name x.desc ∈ WG) (hd1 : Cond.instanceMethod ⟨owner, x.name, x.desc⟩ ∈ WG) (hd2 : Cond.code ⟨owner, x.name, x.desc⟩ b0 m0 r0 ∈ WG) (hsel : Cond.selects C x y ∈ WG) (hi : Cond.instanceMethod y ∈ WG)
    (hy : owner ≠ "java/lang/invoke/MethodHandle" ∧ owner ≠ "java/lang/invoke/VarHandle") (hp : (parseMethodDescriptor x.desc).map (fun d => d.parameters.length) = some n) (h1 : rm.cells = mc) (h2 : rm.slots = ms) (hf : rm.frames + 1 ≤ R.frames) (hlo : 8 + (maxL + 11) + rm.locals ≤ R.locals) :
    va_CU R s args own C owner index x y bytes maxL ret (Cond.code y bytes maxL ret :: WG) rm mc ms n := by
  refine ⟨⟨h1, h2, hf, hlo, pay_in (big := WG) hts (fun w hw => ?_), List.mem_cons_self⟩, hts _ hc, hts _ hini, hy, fun sig h => ?_, hts _ hl, hts _ hsm, va_Decl.of (hts _ hd1) (hts _ hd2), hts _ hsel, hts _ hi⟩
  · rcases List.mem_cons.mp hw with rfl | hw
    · exact ⟨hc, WG_good hc⟩
    · exact ⟨hw, WG_good hw⟩
  · rw [h] at hp
    exact (Option.some.inj hp).symm
theorem cs_of {R : Room} {s : State} {args : Array Value} {own : String} {index : Nat} {y : MethodName} {bytes : ByteArray} {maxL : Nat} {ret : Option FieldType} {rm : Room} {mc ms n : Nat} (hts : ∀ w ∈ WG, w.before args s = true) (hc : Cond.code y bytes maxL ret ∈ WG) (hini : Cond.initialized y.cls ∈ WG) (hl : Cond.methodLink own index y ∈ WG) (hsm : Cond.sameMethod y.cls y.cls y.name y.desc ∈ WG) (hsup : Cond.superclass own y.cls ∈ WG) (hi : Cond.instanceMethod y ∈ WG)
    (hno : y.name ≠ "<init>") (hp : (parseMethodDescriptor y.desc).map (fun d => d.parameters.length) = some n) (h1 : rm.cells = mc) (h2 : rm.slots = ms) (hf : rm.frames + 1 ≤ R.frames) (hlo : 8 + (maxL + 11) + rm.locals ≤ R.locals) :
    va_CS R s args own index y bytes maxL ret (Cond.code y bytes maxL ret :: WG) rm mc ms n := by
  refine ⟨⟨h1, h2, hf, hlo, pay_in (big := WG) hts (fun w hw => ?_), List.mem_cons_self⟩, hts _ hl, hts _ hsm, hts _ hsup, hts _ hi, hts _ hini, hts _ hc, hno, fun sig h => ?_⟩
  · rcases List.mem_cons.mp hw with rfl | hw
    · exact ⟨hc, WG_good hc⟩
    · exact ⟨hw, WG_good hw⟩
  · rw [h] at hp
    exact (Option.some.inj hp).symm
def NC (m q : Nat) : Nat := m + (if q - m < m + 2 then m + 2 else q - m)
def dgn (x : Nat) : Nat := if x < 10 then 1 else if x < 100 then 2 else 3
theorem dJ5_isLatin1_aae02_0 : decode cJ5_isLatin1_aae02 0 = .ok (.getstatic 18, 3) := by decide +kernel
theorem dJ5_isLatin1_aae02_3 : decode cJ5_isLatin1_aae02 3 = .ok (.ifCond .eq 14, 3) := by decide +kernel
theorem dJ5_isLatin1_aae02_6 : decode cJ5_isLatin1_aae02 6 = .ok (.aload_n 0, 1) := by decide +kernel
theorem dJ5_isLatin1_aae02_7 : decode cJ5_isLatin1_aae02 7 = .ok (.getfield 22, 3) := by decide +kernel
theorem dJ5_isLatin1_aae02_10 : decode cJ5_isLatin1_aae02 10 = .ok (.ifCond .ne 7, 3) := by decide +kernel
theorem dJ5_isLatin1_aae02_13 : decode cJ5_isLatin1_aae02 13 = .ok (.iconst 1, 1) := by decide +kernel
theorem dJ5_isLatin1_aae02_14 : decode cJ5_isLatin1_aae02 14 = .ok (.goto 4, 3) := by decide +kernel
theorem dJ5_isLatin1_aae02_18 : decode cJ5_isLatin1_aae02 18 = .ok (.ireturn, 1) := by decide +kernel
theorem dJ5_length_8abf5_0 : decode cJ5_length_8abf5 0 = .ok (.aload_n 0, 1) := by decide +kernel
theorem dJ5_length_8abf5_1 : decode cJ5_length_8abf5 1 = .ok (.getfield 79, 3) := by decide +kernel
theorem dJ5_length_8abf5_4 : decode cJ5_length_8abf5 4 = .ok (.ireturn, 1) := by decide +kernel
theorem dJ5_getValue_6d5f1_0 : decode cJ5_getValue_6d5f1 0 = .ok (.aload_n 0, 1) := by decide +kernel
theorem dJ5_getValue_6d5f1_1 : decode cJ5_getValue_6d5f1 1 = .ok (.getfield 15, 3) := by decide +kernel
theorem dJ5_getValue_6d5f1_4 : decode cJ5_getValue_6d5f1 4 = .ok (.areturn, 1) := by decide +kernel
theorem dJ4_length_8abf5_0 : decode cJ4_length_8abf5 0 = .ok (.aload_n 0, 1) := by decide +kernel
theorem dJ4_length_8abf5_1 : decode cJ4_length_8abf5 1 = .ok (.invokespecial 343, 3) := by decide +kernel
theorem dJ4_length_8abf5_4 : decode cJ4_length_8abf5 4 = .ok (.ireturn, 1) := by decide +kernel
theorem dJ8_newLength_cabcc_0 : decode cJ8_newLength_cabcc 0 = .ok (.iload_n 0, 1) := by decide +kernel
theorem dJ8_newLength_cabcc_1 : decode cJ8_newLength_cabcc 1 = .ok (.iload_n 1, 1) := by decide +kernel
theorem dJ8_newLength_cabcc_2 : decode cJ8_newLength_cabcc 2 = .ok (.iload_n 2, 1) := by decide +kernel
theorem dJ8_newLength_cabcc_3 : decode cJ8_newLength_cabcc 3 = .ok (.invokestatic 194, 3) := by decide +kernel
theorem dJ8_newLength_cabcc_6 : decode cJ8_newLength_cabcc 6 = .ok (.iadd, 1) := by decide +kernel
theorem dJ8_newLength_cabcc_7 : decode cJ8_newLength_cabcc 7 = .ok (.istore_n 3, 1) := by decide +kernel
theorem dJ8_newLength_cabcc_8 : decode cJ8_newLength_cabcc 8 = .ok (.iconst 0, 1) := by decide +kernel
theorem dJ8_newLength_cabcc_9 : decode cJ8_newLength_cabcc 9 = .ok (.iload_n 3, 1) := by decide +kernel
theorem dJ8_newLength_cabcc_10 : decode cJ8_newLength_cabcc 10 = .ok (.if_icmp .ge 11, 3) := by decide +kernel
theorem dJ8_newLength_cabcc_13 : decode cJ8_newLength_cabcc 13 = .ok (.iload_n 3, 1) := by decide +kernel
theorem dJ8_newLength_cabcc_14 : decode cJ8_newLength_cabcc 14 = .ok (.ldc 200, 2) := by decide +kernel
theorem dJ8_newLength_cabcc_16 : decode cJ8_newLength_cabcc 16 = .ok (.if_icmp .gt 5, 3) := by decide +kernel
theorem dJ8_newLength_cabcc_19 : decode cJ8_newLength_cabcc 19 = .ok (.iload_n 3, 1) := by decide +kernel
theorem dJ8_newLength_cabcc_20 : decode cJ8_newLength_cabcc 20 = .ok (.ireturn, 1) := by decide +kernel
theorem dJ5_newCapacity_0f7a4_0 : decode cJ5_newCapacity_0f7a4 0 = .ok (.aload_n 0, 1) := by decide +kernel
theorem dJ5_newCapacity_0f7a4_1 : decode cJ5_newCapacity_0f7a4 1 = .ok (.getfield 15, 3) := by decide +kernel
theorem dJ5_newCapacity_0f7a4_4 : decode cJ5_newCapacity_0f7a4 4 = .ok (.arraylength, 1) := by decide +kernel
theorem dJ5_newCapacity_0f7a4_5 : decode cJ5_newCapacity_0f7a4 5 = .ok (.istore_n 2, 1) := by decide +kernel
theorem dJ5_newCapacity_0f7a4_6 : decode cJ5_newCapacity_0f7a4 6 = .ok (.iload_n 1, 1) := by decide +kernel
theorem dJ5_newCapacity_0f7a4_7 : decode cJ5_newCapacity_0f7a4 7 = .ok (.aload_n 0, 1) := by decide +kernel
theorem dJ5_newCapacity_0f7a4_8 : decode cJ5_newCapacity_0f7a4 8 = .ok (.getfield 22, 3) := by decide +kernel
theorem dJ5_newCapacity_0f7a4_11 : decode cJ5_newCapacity_0f7a4 11 = .ok (.ishl, 1) := by decide +kernel
theorem dJ5_newCapacity_0f7a4_12 : decode cJ5_newCapacity_0f7a4 12 = .ok (.istore_n 3, 1) := by decide +kernel
theorem dJ5_newCapacity_0f7a4_13 : decode cJ5_newCapacity_0f7a4 13 = .ok (.iload_n 3, 1) := by decide +kernel
theorem dJ5_newCapacity_0f7a4_14 : decode cJ5_newCapacity_0f7a4 14 = .ok (.iload_n 2, 1) := by decide +kernel
theorem dJ5_newCapacity_0f7a4_15 : decode cJ5_newCapacity_0f7a4 15 = .ok (.isub, 1) := by decide +kernel
theorem dJ5_newCapacity_0f7a4_16 : decode cJ5_newCapacity_0f7a4 16 = .ok (.istore 4, 2) := by decide +kernel
theorem dJ5_newCapacity_0f7a4_18 : decode cJ5_newCapacity_0f7a4 18 = .ok (.iload_n 2, 1) := by decide +kernel
theorem dJ5_newCapacity_0f7a4_19 : decode cJ5_newCapacity_0f7a4 19 = .ok (.iload 4, 2) := by decide +kernel
theorem dJ5_newCapacity_0f7a4_21 : decode cJ5_newCapacity_0f7a4 21 = .ok (.iload_n 2, 1) := by decide +kernel
theorem dJ5_newCapacity_0f7a4_22 : decode cJ5_newCapacity_0f7a4 22 = .ok (.iconst 2, 1) := by decide +kernel
theorem dJ5_newCapacity_0f7a4_23 : decode cJ5_newCapacity_0f7a4 23 = .ok (.aload_n 0, 1) := by decide +kernel
theorem dJ5_newCapacity_0f7a4_24 : decode cJ5_newCapacity_0f7a4 24 = .ok (.getfield 22, 3) := by decide +kernel
theorem dJ5_newCapacity_0f7a4_27 : decode cJ5_newCapacity_0f7a4 27 = .ok (.ishl, 1) := by decide +kernel
theorem dJ5_newCapacity_0f7a4_28 : decode cJ5_newCapacity_0f7a4 28 = .ok (.iadd, 1) := by decide +kernel
theorem dJ5_newCapacity_0f7a4_29 : decode cJ5_newCapacity_0f7a4 29 = .ok (.invokestatic 114, 3) := by decide +kernel
theorem dJ5_newCapacity_0f7a4_32 : decode cJ5_newCapacity_0f7a4 32 = .ok (.istore 5, 2) := by decide +kernel
theorem dJ5_newCapacity_0f7a4_34 : decode cJ5_newCapacity_0f7a4 34 = .ok (.iload 5, 2) := by decide +kernel
theorem dJ5_newCapacity_0f7a4_36 : decode cJ5_newCapacity_0f7a4 36 = .ok (.ldc 39, 2) := by decide +kernel
theorem dJ5_newCapacity_0f7a4_38 : decode cJ5_newCapacity_0f7a4 38 = .ok (.if_icmp .ne 13, 3) := by decide +kernel
theorem dJ5_newCapacity_0f7a4_51 : decode cJ5_newCapacity_0f7a4 51 = .ok (.iload 5, 2) := by decide +kernel
theorem dJ5_newCapacity_0f7a4_53 : decode cJ5_newCapacity_0f7a4 53 = .ok (.aload_n 0, 1) := by decide +kernel
theorem dJ5_newCapacity_0f7a4_54 : decode cJ5_newCapacity_0f7a4 54 = .ok (.getfield 22, 3) := by decide +kernel
theorem dJ5_newCapacity_0f7a4_57 : decode cJ5_newCapacity_0f7a4 57 = .ok (.ishr, 1) := by decide +kernel
theorem dJ5_newCapacity_0f7a4_58 : decode cJ5_newCapacity_0f7a4 58 = .ok (.ireturn, 1) := by decide +kernel
theorem dJ5_inflateIfNeededFor_a7421_0 : decode cJ5_inflateIfNeededFor_a7421 0 = .ok (.getstatic 18, 3) := by decide +kernel
theorem dJ5_inflateIfNeededFor_a7421_3 : decode cJ5_inflateIfNeededFor_a7421 3 = .ok (.ifCond .eq 18, 3) := by decide +kernel
theorem dJ5_inflateIfNeededFor_a7421_6 : decode cJ5_inflateIfNeededFor_a7421 6 = .ok (.aload_n 0, 1) := by decide +kernel
theorem dJ5_inflateIfNeededFor_a7421_7 : decode cJ5_inflateIfNeededFor_a7421 7 = .ok (.getfield 22, 3) := by decide +kernel
theorem dJ5_inflateIfNeededFor_a7421_10 : decode cJ5_inflateIfNeededFor_a7421 10 = .ok (.aload_n 1, 1) := by decide +kernel
theorem dJ5_inflateIfNeededFor_a7421_11 : decode cJ5_inflateIfNeededFor_a7421 11 = .ok (.invokevirtual 40, 3) := by decide +kernel
theorem dJ5_inflateIfNeededFor_a7421_14 : decode cJ5_inflateIfNeededFor_a7421 14 = .ok (.if_icmp .eq 7, 3) := by decide +kernel
theorem dJ5_inflateIfNeededFor_a7421_21 : decode cJ5_inflateIfNeededFor_a7421 21 = .ok (.return_, 1) := by decide +kernel
theorem dJ1_canEncode_fc78d_0 : decode cJ1_canEncode_fc78d 0 = .ok (.iload_n 0, 1) := by decide +kernel
theorem dJ1_canEncode_fc78d_1 : decode cJ1_canEncode_fc78d 1 = .ok (.sipush 255, 3) := by decide +kernel
theorem dJ1_canEncode_fc78d_4 : decode cJ1_canEncode_fc78d 4 = .ok (.if_icmp .gt 7, 3) := by decide +kernel
theorem dJ1_canEncode_fc78d_7 : decode cJ1_canEncode_fc78d 7 = .ok (.iconst 1, 1) := by decide +kernel
theorem dJ1_canEncode_fc78d_8 : decode cJ1_canEncode_fc78d 8 = .ok (.goto 4, 3) := by decide +kernel
theorem dJ1_canEncode_fc78d_12 : decode cJ1_canEncode_fc78d 12 = .ok (.ireturn, 1) := by decide +kernel
theorem jw0 : Cond.fieldLink RJ5 18 "java/lang/String" "COMPACT_STRINGS" "Z" ∈ WG := WG_of 542 (by decide +kernel) rfl
theorem jw1 : Cond.fieldLink RJ5 22 "java/lang/AbstractStringBuilder" "coder" "B" ∈ WG := WG_of 552 (by decide +kernel) rfl
theorem jw2 : Cond.fieldLink RJ5 79 "java/lang/AbstractStringBuilder" "count" "I" ∈ WG := WG_of 554 (by decide +kernel) rfl
theorem jw3 : Cond.fieldLink RJ5 15 "java/lang/AbstractStringBuilder" "value" "[B" ∈ WG := WG_of 551 (by decide +kernel) rfl
set_option maxRecDepth 20000 in
theorem jw4 : Cond.code yJ5_length_8abf5 cJ5_length_8abf5 1 (some .int) ∈ WG := WG_of 736 rfl rfl
theorem jw5 : Cond.initialized RJ5 ∈ WG := WG_of 34 (by decide +kernel) rfl
theorem jw6 : Cond.methodLink RJ4 343 yJ5_length_8abf5 ∈ WG := WG_of 735 (by decide +kernel) rfl
theorem jw7 : Cond.sameMethod "java/lang/AbstractStringBuilder" "java/lang/AbstractStringBuilder" "length" "()I" ∈ WG := WG_of 731 (by decide +kernel) rfl
theorem jw8 : Cond.superclass "java/lang/StringBuilder" "java/lang/AbstractStringBuilder" ∈ WG := WG_of 563 (by decide +kernel) rfl
theorem jw9 : Cond.instanceMethod yJ5_length_8abf5 ∈ WG := WG_of 730 (by decide +kernel) rfl
theorem jw10 : Cond.methodLink RJ8 194 Lib.Math.max.name ∈ WG := WG_of 588 (by decide +kernel) rfl
theorem jw11 : Cond.static Lib.Math.max.name ∈ WG := WG_of 589 (by decide +kernel) rfl
theorem jw12 : Cond.initialized "java/lang/Math" ∈ WG := WG_of 39 (by decide +kernel) rfl
set_option maxRecDepth 20000 in
theorem jw13 : Cond.code Lib.Math.max.name Lib.Math.max.code 2 (some .int) ∈ WG := WG_of 590 rfl rfl
theorem jw14 : Cond.constant RJ8 200 2147483639 ∈ WG := WG_of 591 (by decide +kernel) rfl
set_option maxRecDepth 20000 in
theorem jw15 : Cond.code yJ8_newLength_cabcc cJ8_newLength_cabcc 4 (some .int) ∈ WG := WG_of 587 rfl rfl
theorem jw16 : Cond.initialized RJ8 ∈ WG := WG_of 38 (by decide +kernel) rfl
theorem jw17 : Cond.methodLink RJ5 114 yJ8_newLength_cabcc ∈ WG := WG_of 585 (by decide +kernel) rfl
theorem jw18 : Cond.static yJ8_newLength_cabcc ∈ WG := WG_of 586 (by decide +kernel) rfl
theorem jw19 : Cond.constant RJ5 39 2147483647 ∈ WG := WG_of 595 (by decide +kernel) rfl
theorem jw20 : Cond.fieldLink RJ0 38 "java/lang/String" "COMPACT_STRINGS" "Z" ∈ WG := WG_of 649 (by decide +kernel) rfl
theorem jw21 : Cond.fieldLink RJ0 15 "java/lang/String" "coder" "B" ∈ WG := WG_of 761 (by decide +kernel) rfl
theorem jw22 : Cond.fieldLink RJ0 9 "java/lang/String" "value" "[B" ∈ WG := WG_of 760 (by decide +kernel) rfl
set_option maxRecDepth 20000 in
theorem jw23 : Cond.code yJ0_coder_7d493 cJ0_coder_7d493 1 (some .byte) ∈ WG := WG_of 648 rfl rfl
theorem jw24 : Cond.initialized RJ0 ∈ WG := WG_of 36 (by decide +kernel) rfl
theorem jw25 : Cond.methodLink RJ0 335 yJ0_coder_7d493 ∈ WG := WG_of 645 (by decide +kernel) rfl
theorem jw26 : Cond.instanceMethod yJ0_coder_7d493 ∈ WG := WG_of 646 (by decide +kernel) rfl
theorem jw27 : Cond.selects RJ0 yJ0_coder_7d493 yJ0_coder_7d493 ∈ WG := WG_of 647 (by decide +kernel) rfl
set_option maxRecDepth 20000 in
theorem jw28 : Cond.code yJ0_checkIndex_df160 cJ0_checkIndex_df160 2 none ∈ WG := WG_of 803 rfl rfl
theorem jw29 : Cond.methodLink RJ1 9 yJ0_checkIndex_df160 ∈ WG := WG_of 822 (by decide +kernel) rfl
theorem jw30 : Cond.static yJ0_checkIndex_df160 ∈ WG := WG_of 802 (by decide +kernel) rfl
set_option maxRecDepth 20000 in
theorem jw31 : Cond.code yJ0_isLatin1_aae02 cJ0_isLatin1_aae02 1 (some .boolean) ∈ WG := WG_of 818 rfl rfl
theorem jw32 : Cond.methodLink RJ0 492 yJ0_isLatin1_aae02 ∈ WG := WG_of 815 (by decide +kernel) rfl
theorem jw33 : Cond.instanceMethod yJ0_isLatin1_aae02 ∈ WG := WG_of 816 (by decide +kernel) rfl
theorem jw34 : Cond.selects RJ0 yJ0_isLatin1_aae02 yJ0_isLatin1_aae02 ∈ WG := WG_of 817 (by decide +kernel) rfl
set_option maxRecDepth 20000 in
theorem jw35 : Cond.code yJ1_charAt_3b067 cJ1_charAt_3b067 2 (some .char) ∈ WG := WG_of 821 rfl rfl
theorem jw36 : Cond.initialized RJ1 ∈ WG := WG_of 43 (by decide +kernel) rfl
theorem jw37 : Cond.methodLink RJ0 495 yJ1_charAt_3b067 ∈ WG := WG_of 819 (by decide +kernel) rfl
theorem jw38 : Cond.static yJ1_charAt_3b067 ∈ WG := WG_of 820 (by decide +kernel) rfl
theorem jw39 : Cond.methodLink RJ5 40 yJ0_coder_7d493 ∈ WG := WG_of 658 (by decide +kernel) rfl
set_option maxRecDepth 20000 in
theorem jb_isLatin1 (l : Launch) (D : va_G) (ad : Nat → Nat) {ws : va_W} {tys : List (ClassId × FieldType)} {b v : Nat} {c : Int32} (hB : ws[0]? = some (b, .inr (8, [.ref v, .int 0, .int 0, .int c]))) : Met l yJ5_isLatin1_aae02 (Cond.code yJ5_isLatin1_aae02 cJ5_isLatin1_aae02 1 (some .boolean) :: WG) (k2_rm 0 0) (PcR D ad ws tys [.ref b]) (QcVal (some (.int 1))) 0 0 (fun _ => False) := by
  refine Met.ofW (cc := cJ5_isLatin1_aae02) (maxL := 1) (ret := (some .boolean)) (by decide +kernel) rfl ?_
  intro p e s m args below meth c0 s₁ B0 hml hv
  obtain ⟨rfl, hT, hP, hK⟩ := hv
  have hx := B0.exec
  have hb := B0.bytes
  have hr := B0.returns
  have hts0 := atoms_spec (ws := Cond.code yJ5_isLatin1_aae02 cJ5_isLatin1_aae02 1 (some .boolean) :: WG) B0.pre
  have hts : ∀ w ∈ WG, w.before ([.ref b] : List Value).toArray s = true := fun w hw => hts0 w (List.mem_cons_of_mem _ hw)
  have hown : s.vm.findClass RJ5 = some m.cls := findClass_of_methodNamed B0.named
  have hlocks := B0.notSynchronized
  have hl := lv_entry ([.ref b]) (n := 1) (Nat.le_of_ble_eq_true rfl)
  rw [lg_entry_eq]
  generalize (lg_sl ([.ref b]) ++ List.replicate (1 - (lg_sl ([.ref b])).length) Slot.unset).toArray = ls at hl ⊢
  have hl : lv_has ls 1 [(0, .ref b)] := hl
  have hS : va_S (fun _ => False) s.heap s.heap [] := va_S.rf
  refine va_gets hx hb hT.2.2.1 hS hown (hts _ jw0) (fun _ h => h) dJ5_isLatin1_aae02_0 ?_
  refine lv_if_eq (tgt := 17) hx hb dJ5_isLatin1_aae02_3 (by first | decide | rfl) (fun q9 => absurd q9 (by decide)) (fun _ => ?_)
  refine lv_aload_n hx hb dJ5_isLatin1_aae02_6 rfl (lv_at hl 0 rfl) ?_
  refine va_get (C := RJ4) (T := TJ4) (N := 4) hx hb hts uwJ4 hown hK hP 0 hB rfl 1 (by decide) (hts _ jw1) (fun _ h => h) rfl dJ5_isLatin1_aae02_7 ?_
  refine lv_if_ne (tgt := 17) hx hb dJ5_isLatin1_aae02_10 (by first | decide | rfl) (fun q9 => absurd q9 (fun z => z rfl)) (fun _ => ?_)
  refine lv_iconst (v := 1) hx hb dJ5_isLatin1_aae02_13 (by decide) ?_
  refine lv_goto (tgt := 18) hx hb dJ5_isLatin1_aae02_14 (by first | decide | rfl) ?_
  exact W.zret (ty := .boolean) hx hb hr rfl (fun t ht hW => ⟨rfl, ht⟩) hS.2.2 dJ5_isLatin1_aae02_18

set_option maxRecDepth 20000 in
theorem jb_len5 (l : Launch) (D : va_G) (ad : Nat → Nat) {ws : va_W} {tys : List (ClassId × FieldType)} {b v : Nat} {c : Int32} (hB : ws[0]? = some (b, .inr (8, [.ref v, .int 0, .int 0, .int c]))) : Met l yJ5_length_8abf5 (Cond.code yJ5_length_8abf5 cJ5_length_8abf5 1 (some .int) :: WG) (k2_rm 0 0) (PcR D ad ws tys [.ref b]) (QcVal (some (.int c))) 0 0 (fun _ => False) := by
  refine Met.ofW (cc := cJ5_length_8abf5) (maxL := 1) (ret := (some .int)) (by decide +kernel) rfl ?_
  intro p e s m args below meth c0 s₁ B0 hml hv
  obtain ⟨rfl, hT, hP, hK⟩ := hv
  have hx := B0.exec
  have hb := B0.bytes
  have hr := B0.returns
  have hts0 := atoms_spec (ws := Cond.code yJ5_length_8abf5 cJ5_length_8abf5 1 (some .int) :: WG) B0.pre
  have hts : ∀ w ∈ WG, w.before ([.ref b] : List Value).toArray s = true := fun w hw => hts0 w (List.mem_cons_of_mem _ hw)
  have hown : s.vm.findClass RJ5 = some m.cls := findClass_of_methodNamed B0.named
  have hlocks := B0.notSynchronized
  have hl := lv_entry ([.ref b]) (n := 1) (Nat.le_of_ble_eq_true rfl)
  rw [lg_entry_eq]
  generalize (lg_sl ([.ref b]) ++ List.replicate (1 - (lg_sl ([.ref b])).length) Slot.unset).toArray = ls at hl ⊢
  have hl : lv_has ls 1 [(0, .ref b)] := hl
  have hS : va_S (fun _ => False) s.heap s.heap [] := va_S.rf
  refine lv_aload_n hx hb dJ5_length_8abf5_0 rfl (lv_at hl 0 rfl) ?_
  refine va_get (C := RJ4) (T := TJ4) (N := 4) hx hb hts uwJ4 hown hK hP 0 hB rfl 3 (by decide) (hts _ jw2) (fun _ h => h) rfl dJ5_length_8abf5_1 ?_
  exact W.iret hx hb hr (fun t ht hW => ⟨rfl, ht⟩) hS.2.2 dJ5_length_8abf5_4

set_option maxRecDepth 20000 in
theorem jb_value (l : Launch) (D : va_G) (ad : Nat → Nat) {ws : va_W} {tys : List (ClassId × FieldType)} {b v : Nat} {c : Int32} (hB : ws[0]? = some (b, .inr (8, [.ref v, .int 0, .int 0, .int c]))) : Met l yJ5_getValue_6d5f1 (Cond.code yJ5_getValue_6d5f1 cJ5_getValue_6d5f1 1 (some (.array .byte)) :: WG) (k2_rm 0 0) (PcR D ad ws tys [.ref b]) (QcVal (some (.ref v))) 0 0 (fun _ => False) := by
  refine Met.ofW (cc := cJ5_getValue_6d5f1) (maxL := 1) (ret := (some (.array .byte))) (by decide +kernel) rfl ?_
  intro p e s m args below meth c0 s₁ B0 hml hv
  obtain ⟨rfl, hT, hP, hK⟩ := hv
  have hx := B0.exec
  have hb := B0.bytes
  have hr := B0.returns
  have hts0 := atoms_spec (ws := Cond.code yJ5_getValue_6d5f1 cJ5_getValue_6d5f1 1 (some (.array .byte)) :: WG) B0.pre
  have hts : ∀ w ∈ WG, w.before ([.ref b] : List Value).toArray s = true := fun w hw => hts0 w (List.mem_cons_of_mem _ hw)
  have hown : s.vm.findClass RJ5 = some m.cls := findClass_of_methodNamed B0.named
  have hlocks := B0.notSynchronized
  have hl := lv_entry ([.ref b]) (n := 1) (Nat.le_of_ble_eq_true rfl)
  rw [lg_entry_eq]
  generalize (lg_sl ([.ref b]) ++ List.replicate (1 - (lg_sl ([.ref b])).length) Slot.unset).toArray = ls at hl ⊢
  have hl : lv_has ls 1 [(0, .ref b)] := hl
  have hS : va_S (fun _ => False) s.heap s.heap [] := va_S.rf
  refine lv_aload_n hx hb dJ5_getValue_6d5f1_0 rfl (lv_at hl 0 rfl) ?_
  refine va_get (C := RJ4) (T := TJ4) (N := 4) hx hb hts uwJ4 hown hK hP 0 hB rfl 0 (by decide) (hts _ jw3) (fun _ h => h) rfl dJ5_getValue_6d5f1_1 ?_
  exact W.aret hx hb hr (by first | exact Or.inl ⟨_, rfl⟩ | exact Or.inr ⟨_, rfl⟩) (Or.inr ⟨_, rfl⟩) (fun t ht hW => ⟨rfl, ht⟩) hS.2.2 dJ5_getValue_6d5f1_4

set_option maxRecDepth 20000 in
theorem jb_len4 (l : Launch) (D : va_G) (ad : Nat → Nat) {ws : va_W} {tys : List (ClassId × FieldType)} {b v : Nat} {c : Int32} (hB : ws[0]? = some (b, .inr (8, [.ref v, .int 0, .int 0, .int c]))) : Met l yJ4_length_8abf5 (Cond.code yJ4_length_8abf5 cJ4_length_8abf5 1 (some .int) :: WG) (k2_rm 1 20) (PcR D ad ws tys [.ref b]) (QcVal (some (.int c))) 0 0 (fun _ => False) := by
  refine Met.ofW (cc := cJ4_length_8abf5) (maxL := 1) (ret := (some .int)) (by decide +kernel) rfl ?_
  intro p e s m args below meth c0 s₁ B0 hml hv
  obtain ⟨rfl, hT, hP, hK⟩ := hv
  have hx := B0.exec
  have hb := B0.bytes
  have hr := B0.returns
  have hts0 := atoms_spec (ws := Cond.code yJ4_length_8abf5 cJ4_length_8abf5 1 (some .int) :: WG) B0.pre
  have hts : ∀ w ∈ WG, w.before ([.ref b] : List Value).toArray s = true := fun w hw => hts0 w (List.mem_cons_of_mem _ hw)
  have hown : s.vm.findClass RJ4 = some m.cls := findClass_of_methodNamed B0.named
  have hlocks := B0.notSynchronized
  have hl := lv_entry ([.ref b]) (n := 1) (Nat.le_of_ble_eq_true rfl)
  rw [lg_entry_eq]
  generalize (lg_sl ([.ref b]) ++ List.replicate (1 - (lg_sl ([.ref b])).length) Slot.unset).toArray = ls at hl ⊢
  have hl : lv_has ls 1 [(0, .ref b)] := hl
  have hS : va_S (fun _ => False) s.heap s.heap [] := va_S.rf
  refine lv_aload_n hx hb dJ4_length_8abf5_0 rfl (lv_at hl 0 rfl) ?_
  refine W_callQ (va_runSU (C := RJ4) (As := []) (rest := []) (b := b) (Ts := WG) (own := RJ4) (hK.1 8 _ rfl).2 ⟨hx, hb, hml, hown, hts⟩ (jb_len5 l D ad hB) (cs_of (n := 0) hts jw4 jw5 jw6 jw7 jw8 jw9 (by decide +kernel) (by decide +kernel) rfl rfl (Nat.le_of_ble_eq_true rfl) (Nat.le_of_ble_eq_true rfl)) ⟨PcR.blind, bd_recv hK hP hB, fun U hU hW => jpR hT hS hP hK _ U hU hW⟩ rfl rfl hl.1 rfl (lv_room (Nat.le_of_ble_eq_true rfl)) dJ4_length_8abf5_1 ⟨Nat.zero_le _, Nat.zero_le _⟩).run ?_
  exact W.iret hx hb hr (fun t ht hW => ⟨rfl, ht⟩) hS.2.2 dJ4_length_8abf5_4

set_option maxRecDepth 20000 in
theorem jn_newLength (l : Launch) (D : va_G) (ad : Nat → Nat) {ws : va_W} {tys : List (ClassId × FieldType)} {cp q : Nat} (hq : cp < q ∧ q ≤ 300) : Met l yJ8_newLength_cabcc (Cond.code yJ8_newLength_cabcc cJ8_newLength_cabcc 4 (some .int) :: WG) (k2_rm 1 20) (PcR D ad ws tys [.int (nI cp), .int (nI (q - cp)), .int (nI (cp + 2))]) (QcVal (some (.int (nI (NC cp q))))) 0 0 (fun _ => False) := by
  refine Met.ofW (cc := cJ8_newLength_cabcc) (maxL := 4) (ret := (some .int)) (by decide +kernel) rfl ?_
  intro p e s m args below meth c0 s₁ B0 hml hv
  obtain ⟨rfl, hT, hP, hK⟩ := hv
  have hx := B0.exec
  have hb := B0.bytes
  have hr := B0.returns
  have hts0 := atoms_spec (ws := Cond.code yJ8_newLength_cabcc cJ8_newLength_cabcc 4 (some .int) :: WG) B0.pre
  have hts : ∀ w ∈ WG, w.before ([.int (nI cp), .int (nI (q - cp)), .int (nI (cp + 2))] : List Value).toArray s = true := fun w hw => hts0 w (List.mem_cons_of_mem _ hw)
  have hown : s.vm.findClass RJ8 = some m.cls := findClass_of_methodNamed B0.named
  have hlocks := B0.notSynchronized
  have hl := lv_entry ([.int (nI cp), .int (nI (q - cp)), .int (nI (cp + 2))]) (n := 4) (Nat.le_of_ble_eq_true rfl)
  rw [lg_entry_eq]
  generalize (lg_sl ([.int (nI cp), .int (nI (q - cp)), .int (nI (cp + 2))]) ++ List.replicate (4 - (lg_sl ([.int (nI cp), .int (nI (q - cp)), .int (nI (cp + 2))])).length) Slot.unset).toArray = ls at hl ⊢
  have hl : lv_has ls 4 [(0, .int (nI cp)), (1, .int (nI (q - cp))), (2, .int (nI (cp + 2)))] := hl
  have hS : va_S (fun _ => False) s.heap s.heap [] := va_S.rf
  refine lv_iload_n hx hb dJ8_newLength_cabcc_0 rfl (lv_at hl 0 rfl) ?_
  refine lv_iload_n hx hb dJ8_newLength_cabcc_1 rfl (lv_at hl 1 rfl) ?_
  refine lv_iload_n hx hb dJ8_newLength_cabcc_2 rfl (lv_at hl 2 rfl) ?_
  refine va_mmax hx hb (by rw [hml]; exact hl.1.symm) hown (hts _ jw10) (hts _ jw11) (hts _ jw12) (hts _ jw13) (Nat.le_of_ble_eq_true rfl) (Nat.le_of_ble_eq_true rfl) (Nat.zero_le _) (Nat.zero_le _) dJ8_newLength_cabcc_3 ?_
  have e1 : (if nI (q - cp) < nI (cp + 2) then nI (cp + 2) else nI (q - cp)) = nI (if q - cp < cp + 2 then cp + 2 else q - cp) := by
    by_cases z : q - cp < cp + 2
    · rw [if_pos z, if_pos (nI_lt z (by omega))]
    · rw [if_neg z, if_neg (nI_nlt (by omega) (by omega))]
  rw [e1]
  refine lv_iadd hx hb dJ8_newLength_cabcc_6 ?_
  rw [nI_add, show cp + (if q - cp < cp + 2 then cp + 2 else q - cp) = NC cp q from rfl]
  have hn1 : 0 < NC cp q ∧ NC cp q ≤ 1000 := by
    unfold NC
    split <;> omega
  refine lv_istore_n hx hb dJ8_newLength_cabcc_7 rfl hl (by decide) rfl (fun ls hl => ?_)
  refine lv_iconst (v := 0) hx hb dJ8_newLength_cabcc_8 (by decide) ?_
  refine lv_iload_n hx hb dJ8_newLength_cabcc_9 rfl (lv_at hl 0 rfl) ?_
  refine lv_icmp_ge (tgt := 21) hx hb dJ8_newLength_cabcc_10 (by first | decide | rfl) (fun q9 => absurd q9 (nI_nle hn1.1 (by omega))) (fun _ => ?_)
  refine lv_iload_n hx hb dJ8_newLength_cabcc_13 rfl (lv_at hl 0 rfl) ?_
  refine lv_ldc (v := 2147483639) hx hb hown (hts _ jw14) dJ8_newLength_cabcc_14 ?_
  refine lv_icmp_gt (tgt := 21) hx hb dJ8_newLength_cabcc_16 (by first | decide | rfl) (fun q9 => absurd q9 (by rw [show (2147483639 : Int32) = nI 2147483639 from rfl]; exact nI_nlt (by omega) (by decide))) (fun _ => ?_)
  refine lv_iload_n hx hb dJ8_newLength_cabcc_19 rfl (lv_at hl 0 rfl) ?_
  exact W.iret hx hb hr (fun t ht hW => ⟨rfl, ht⟩) hS.2.2 dJ8_newLength_cabcc_20

set_option maxRecDepth 20000 in
theorem jb_newCap (l : Launch) (D : va_G) (ad : Nat → Nat) {ws : va_W} {tys : List (ClassId × FieldType)} {b v cp : Nat} {c : Int32} {cB : ClassId} {g : Nat → Int32} (hB : ws[0]? = some (b, .inr (8, [.ref v, .int 0, .int 0, .int c]))) (hA : ws[1]? = some (v, .inl (cB, cp, .inl g))) (ht : tys[0]? = some (cB, .byte)) {q : Nat} (hq : cp < q ∧ q ≤ 300) : Met l yJ5_newCapacity_0f7a4 (Cond.code yJ5_newCapacity_0f7a4 cJ5_newCapacity_0f7a4 6 (some .int) :: WG) (k2_rm 2 60) (PcR D ad ws tys [.ref b, .int (nI q)]) (QcVal (some (.int (nI (NC cp q))))) 0 0 (fun _ => False) := by
  refine Met.ofW (cc := cJ5_newCapacity_0f7a4) (maxL := 6) (ret := (some .int)) (by decide +kernel) rfl ?_
  intro p e s m args below meth c0 s₁ B0 hml hv
  obtain ⟨rfl, hT, hP, hK⟩ := hv
  have hx := B0.exec
  have hb := B0.bytes
  have hr := B0.returns
  have hts0 := atoms_spec (ws := Cond.code yJ5_newCapacity_0f7a4 cJ5_newCapacity_0f7a4 6 (some .int) :: WG) B0.pre
  have hts : ∀ w ∈ WG, w.before ([.ref b, .int (nI q)] : List Value).toArray s = true := fun w hw => hts0 w (List.mem_cons_of_mem _ hw)
  have hown : s.vm.findClass RJ5 = some m.cls := findClass_of_methodNamed B0.named
  have hlocks := B0.notSynchronized
  have hl := lv_entry ([.ref b, .int (nI q)]) (n := 6) (Nat.le_of_ble_eq_true rfl)
  rw [lg_entry_eq]
  generalize (lg_sl ([.ref b, .int (nI q)]) ++ List.replicate (6 - (lg_sl ([.ref b, .int (nI q)])).length) Slot.unset).toArray = ls at hl ⊢
  have hl : lv_has ls 6 [(0, .ref b), (1, .int (nI q))] := hl
  have hS : va_S (fun _ => False) s.heap s.heap [] := va_S.rf
  refine lv_aload_n hx hb dJ5_newCapacity_0f7a4_0 rfl (lv_at hl 0 rfl) ?_
  refine va_get (C := RJ4) (T := TJ4) (N := 4) hx hb hts uwJ4 hown hK hP 0 hB rfl 0 (by decide) (hts _ jw3) (fun _ h => h) rfl dJ5_newCapacity_0f7a4_1 ?_
  refine va_alen hx hb hK hP 1 0 hA ht (v := nI cp) rfl dJ5_newCapacity_0f7a4_4 ?_
  refine lv_istore_n hx hb dJ5_newCapacity_0f7a4_5 rfl hl (by decide) rfl (fun ls hl => ?_)
  refine lv_iload_n hx hb dJ5_newCapacity_0f7a4_6 rfl (lv_at hl 2 rfl) ?_
  refine lv_aload_n hx hb dJ5_newCapacity_0f7a4_7 rfl (lv_at hl 1 rfl) ?_
  refine va_get (C := RJ4) (T := TJ4) (N := 4) hx hb hts uwJ4 hown hK hP 0 hB rfl 1 (by decide) (hts _ jw1) (fun _ h => h) rfl dJ5_newCapacity_0f7a4_8 ?_
  refine lv_ishl hx hb dJ5_newCapacity_0f7a4_11 ?_
  rw [sb_shl0]
  refine lv_istore_n hx hb dJ5_newCapacity_0f7a4_12 rfl hl (by decide) rfl (fun ls hl => ?_)
  refine lv_iload_n hx hb dJ5_newCapacity_0f7a4_13 rfl (lv_at hl 0 rfl) ?_
  refine lv_iload_n hx hb dJ5_newCapacity_0f7a4_14 rfl (lv_at hl 1 rfl) ?_
  refine lv_isub hx hb dJ5_newCapacity_0f7a4_15 ?_
  rw [pk_sub (by omega : cp ≤ q)]
  refine lv_istore hx hb dJ5_newCapacity_0f7a4_16 hl (by decide) rfl (fun ls hl => ?_)
  refine lv_iload_n hx hb dJ5_newCapacity_0f7a4_18 rfl (lv_at hl 2 rfl) ?_
  refine lv_iload hx hb dJ5_newCapacity_0f7a4_19 (lv_at hl 0 rfl) ?_
  refine lv_iload_n hx hb dJ5_newCapacity_0f7a4_21 rfl (lv_at hl 2 rfl) ?_
  refine lv_iconst (v := 2) hx hb dJ5_newCapacity_0f7a4_22 (by decide) ?_
  refine lv_aload_n hx hb dJ5_newCapacity_0f7a4_23 rfl (lv_at hl 3 rfl) ?_
  refine va_get (C := RJ4) (T := TJ4) (N := 4) hx hb hts uwJ4 hown hK hP 0 hB rfl 1 (by decide) (hts _ jw1) (fun _ h => h) rfl dJ5_newCapacity_0f7a4_24 ?_
  refine lv_ishl hx hb dJ5_newCapacity_0f7a4_27 ?_
  rw [sb_shl0, show (2 : Int32) = nI 2 from rfl]
  refine lv_iadd hx hb dJ5_newCapacity_0f7a4_28 ?_
  rw [nI_add]
  refine W_callQ (W.runS (As := [.int (nI cp), .int (nI (q - cp)), .int (nI (cp + 2))]) (rest := []) (Ts := WG) (own := RJ5) ⟨hx, hb, hml, hown, hts⟩ (jn_newLength l D ad (ws := ws) (tys := tys) hq) ⟨cb_of (n := 3) hts jw15 jw16 (hts _ jw17) (by decide +kernel) (by decide +kernel) rfl rfl (Nat.le_of_ble_eq_true rfl) (Nat.le_of_ble_eq_true rfl), hts _ jw18⟩ ⟨PcR.blind, fun U hU hW => jpR hT hS hP hK _ U hU hW⟩ rfl rfl hl.1 rfl (lv_room (Nat.le_of_ble_eq_true rfl)) dJ5_newCapacity_0f7a4_29 ⟨Nat.zero_le _, Nat.zero_le _⟩) ?_
  refine lv_istore hx hb dJ5_newCapacity_0f7a4_32 hl (by decide) rfl (fun ls hl => ?_)
  refine lv_iload hx hb dJ5_newCapacity_0f7a4_34 (lv_at hl 0 rfl) ?_
  refine lv_ldc (v := 2147483647) hx hb hown (hts _ jw19) dJ5_newCapacity_0f7a4_36 ?_
  have hn1 : NC cp q ≤ 1000 := by
    unfold NC
    split <;> omega
  refine lv_icmp_ne (tgt := 51) hx hb dJ5_newCapacity_0f7a4_38 (by first | decide | rfl) (fun _ => ?_) (fun q9 => by first | exact absurd q9 (fun z => by have := (nI_eq (by omega) (by decide)).mp (show nI (NC cp q) = nI 2147483647 from z); omega) | exact absurd (fun z => by have := (nI_eq (by omega) (by decide)).mp (show nI (NC cp q) = nI 2147483647 from z); omega) q9)
  refine lv_iload hx hb dJ5_newCapacity_0f7a4_51 (lv_at hl 0 rfl) ?_
  refine lv_aload_n hx hb dJ5_newCapacity_0f7a4_53 rfl (lv_at hl 4 rfl) ?_
  refine va_get (C := RJ4) (T := TJ4) (N := 4) hx hb hts uwJ4 hown hK hP 0 hB rfl 1 (by decide) (hts _ jw1) (fun _ h => h) rfl dJ5_newCapacity_0f7a4_54 ?_
  refine lv_ishr hx hb dJ5_newCapacity_0f7a4_57 ?_
  rw [sb_shr0]
  exact W.iret hx hb hr (fun t ht hW => ⟨rfl, ht⟩) hS.2.2 dJ5_newCapacity_0f7a4_58

set_option maxRecDepth 20000 in
theorem jv_coder (l : Launch) (ad : Nat → Nat) {a v n : Nat} {f : Nat → Int32} : Met l yJ0_coder_7d493 (Cond.code yJ0_coder_7d493 cJ0_coder_7d493 1 (some .byte) :: WG) (k2_rm 0 0) (PcV ad a v n f [.ref a]) (QcVal (some (.int 0))) 0 0 (fun _ => False) := by
  refine Met.ofW (cc := cJ0_coder_7d493) (maxL := 1) (ret := (some .byte)) (by decide +kernel) rfl ?_
  intro p e s m args below meth c0 s₁ B0 hml hv
  obtain ⟨rfl, hT, hV⟩ := hv
  have hx := B0.exec
  have hb := B0.bytes
  have hr := B0.returns
  have hts0 := atoms_spec (ws := Cond.code yJ0_coder_7d493 cJ0_coder_7d493 1 (some .byte) :: WG) B0.pre
  have hts : ∀ w ∈ WG, w.before ([.ref a] : List Value).toArray s = true := fun w hw => hts0 w (List.mem_cons_of_mem _ hw)
  have hown : s.vm.findClass RJ0 = some m.cls := findClass_of_methodNamed B0.named
  have hlocks := B0.notSynchronized
  have hl := lv_entry ([.ref a]) (n := 1) (Nat.le_of_ble_eq_true rfl)
  rw [lg_entry_eq]
  generalize (lg_sl ([.ref a]) ++ List.replicate (1 - (lg_sl ([.ref a])).length) Slot.unset).toArray = ls at hl ⊢
  have hl : lv_has ls 1 [(0, .ref a)] := hl
  have hS : va_S (fun _ => False) s.heap s.heap [] := va_S.rf
  refine va_gets hx hb hT.2.2.1 hS hown (hts _ jw20) (fun _ h => h) dJ0_coder_7d493_0 ?_
  refine lv_if_eq (tgt := 13) hx hb dJ0_coder_7d493_3 (by first | decide | rfl) (fun q9 => absurd q9 (by decide)) (fun _ => ?_)
  refine lv_aload_n hx hb dJ0_coder_7d493_6 rfl (lv_at hl 0 rfl) ?_
  refine vk_getf hx hb hV.2.1 hS hown (hts _ jw21) (fun _ h => h) dJ0_coder_7d493_7 ?_
  refine lv_goto (tgt := 14) hx hb dJ0_coder_7d493_10 (by first | decide | rfl) ?_
  exact W.zret (ty := .byte) hx hb hr rfl (fun t ht hW => ⟨rfl, ht⟩) hS.2.2 dJ0_coder_7d493_14

set_option maxRecDepth 20000 in
theorem jv_isLatin1 (l : Launch) (ad : Nat → Nat) {a v n : Nat} {f : Nat → Int32} : Met l yJ0_isLatin1_aae02 (Cond.code yJ0_isLatin1_aae02 cJ0_isLatin1_aae02 1 (some .boolean) :: WG) (k2_rm 0 0) (PcV ad a v n f [.ref a]) (QcVal (some (.int 1))) 0 0 (fun _ => False) := by
  refine Met.ofW (cc := cJ0_isLatin1_aae02) (maxL := 1) (ret := (some .boolean)) (by decide +kernel) rfl ?_
  intro p e s m args below meth c0 s₁ B0 hml hv
  obtain ⟨rfl, hT, hV⟩ := hv
  have hx := B0.exec
  have hb := B0.bytes
  have hr := B0.returns
  have hts0 := atoms_spec (ws := Cond.code yJ0_isLatin1_aae02 cJ0_isLatin1_aae02 1 (some .boolean) :: WG) B0.pre
  have hts : ∀ w ∈ WG, w.before ([.ref a] : List Value).toArray s = true := fun w hw => hts0 w (List.mem_cons_of_mem _ hw)
  have hown : s.vm.findClass RJ0 = some m.cls := findClass_of_methodNamed B0.named
  have hlocks := B0.notSynchronized
  have hl := lv_entry ([.ref a]) (n := 1) (Nat.le_of_ble_eq_true rfl)
  rw [lg_entry_eq]
  generalize (lg_sl ([.ref a]) ++ List.replicate (1 - (lg_sl ([.ref a])).length) Slot.unset).toArray = ls at hl ⊢
  have hl : lv_has ls 1 [(0, .ref a)] := hl
  have hS : va_S (fun _ => False) s.heap s.heap [] := va_S.rf
  refine va_gets hx hb hT.2.2.1 hS hown (hts _ jw20) (fun _ h => h) dJ0_isLatin1_aae02_0 ?_
  refine lv_if_eq (tgt := 17) hx hb dJ0_isLatin1_aae02_3 (by first | decide | rfl) (fun q9 => absurd q9 (by decide)) (fun _ => ?_)
  refine lv_aload_n hx hb dJ0_isLatin1_aae02_6 rfl (lv_at hl 0 rfl) ?_
  refine vk_getf hx hb hV.2.1 hS hown (hts _ jw21) (fun _ h => h) dJ0_isLatin1_aae02_7 ?_
  refine lv_if_ne (tgt := 17) hx hb dJ0_isLatin1_aae02_10 (by first | decide | rfl) (fun q9 => absurd q9 (fun z => z rfl)) (fun _ => ?_)
  refine lv_iconst (v := 1) hx hb dJ0_isLatin1_aae02_13 (by decide) ?_
  refine lv_goto (tgt := 18) hx hb dJ0_isLatin1_aae02_14 (by first | decide | rfl) ?_
  exact W.zret (ty := .boolean) hx hb hr rfl (fun t ht hW => ⟨rfl, ht⟩) hS.2.2 dJ0_isLatin1_aae02_18

set_option maxRecDepth 20000 in
theorem jv_length (l : Launch) (ad : Nat → Nat) {a v n : Nat} {f : Nat → Int32} : Met l yJ0_length_8abf5 (Cond.code yJ0_length_8abf5 cJ0_length_8abf5 1 (some .int) :: WG) (k2_rm 1 20) (PcV ad a v n f [.ref a]) (QcVal (some (.int (nI n)))) 0 0 (fun _ => False) := by
  refine Met.ofW (cc := cJ0_length_8abf5) (maxL := 1) (ret := (some .int)) (by decide +kernel) rfl ?_
  intro p e s m args below meth c0 s₁ B0 hml hv
  obtain ⟨rfl, hT, hV⟩ := hv
  have hx := B0.exec
  have hb := B0.bytes
  have hr := B0.returns
  have hts0 := atoms_spec (ws := Cond.code yJ0_length_8abf5 cJ0_length_8abf5 1 (some .int) :: WG) B0.pre
  have hts : ∀ w ∈ WG, w.before ([.ref a] : List Value).toArray s = true := fun w hw => hts0 w (List.mem_cons_of_mem _ hw)
  have hown : s.vm.findClass RJ0 = some m.cls := findClass_of_methodNamed B0.named
  have hlocks := B0.notSynchronized
  have hl := lv_entry ([.ref a]) (n := 1) (Nat.le_of_ble_eq_true rfl)
  rw [lg_entry_eq]
  generalize (lg_sl ([.ref a]) ++ List.replicate (1 - (lg_sl ([.ref a])).length) Slot.unset).toArray = ls at hl ⊢
  have hl : lv_has ls 1 [(0, .ref a)] := hl
  have hS : va_S (fun _ => False) s.heap s.heap [] := va_S.rf
  refine lv_aload_n hx hb dJ0_length_8abf5_0 rfl (lv_at hl 0 rfl) ?_
  refine vk_getf hx hb hV.2.2.1 hS hown (hts _ jw22) (fun _ h => h) dJ0_length_8abf5_1 ?_
  refine va_tlen hx hb hV.2.2.2 hS (v := nI n) rfl dJ0_length_8abf5_4 ?_
  refine lv_aload_n hx hb dJ0_length_8abf5_5 rfl (lv_at hl 0 rfl) ?_
  refine W_callQ (W.runV (As := []) (rest := [.int (nI n)]) (b := a) (Ts := WG) (own := RJ0) (C := RJ0) ⟨hx, hb, hml, hown, hts⟩ (jv_coder l ad (a := a) (v := v) (n := n) (f := f)) ⟨cb_of (n := 0) hts jw23 jw24 (hts _ jw25) (by decide +kernel) (by decide +kernel) rfl rfl (Nat.le_of_ble_eq_true rfl) (Nat.le_of_ble_eq_true rfl), hts _ jw26, hts _ jw27⟩ ⟨PcV.blind, hV.recv hS, fun U hU hW => jpV hT hV hS _ U hU hW⟩ rfl rfl hl.1 rfl (lv_room (Nat.le_of_ble_eq_true rfl)) dJ0_length_8abf5_6 ⟨Nat.zero_le _, Nat.zero_le _⟩) ?_
  refine lv_ishr hx hb dJ0_length_8abf5_9 ?_
  rw [sb_shr0]
  exact W.iret hx hb hr (fun t ht hW => ⟨rfl, ht⟩) hS.2.2 dJ0_length_8abf5_10

set_option maxRecDepth 20000 in
theorem jv_lch (l : Launch) (ad : Nat → Nat) {a v n : Nat} {f : Nat → Int32} {k : Nat} (hk : k < n ∧ n ≤ 1000) : Met l yJ1_charAt_3b067 (Cond.code yJ1_charAt_3b067 cJ1_charAt_3b067 2 (some .char) :: WG) (k2_rm 2 60) (PcV ad a v n f [.ref v, .int (nI k)]) (QcVal (some (.int (f k &&& 255)))) 0 0 (fun _ => False) := by
  refine Met.ofW (cc := cJ1_charAt_3b067) (maxL := 2) (ret := (some .char)) (by decide +kernel) rfl ?_
  intro p e s m args below meth c0 s₁ B0 hml hv
  obtain ⟨rfl, hT, hV⟩ := hv
  have hx := B0.exec
  have hb := B0.bytes
  have hr := B0.returns
  have hts0 := atoms_spec (ws := Cond.code yJ1_charAt_3b067 cJ1_charAt_3b067 2 (some .char) :: WG) B0.pre
  have hts : ∀ w ∈ WG, w.before ([.ref v, .int (nI k)] : List Value).toArray s = true := fun w hw => hts0 w (List.mem_cons_of_mem _ hw)
  have hown : s.vm.findClass RJ1 = some m.cls := findClass_of_methodNamed B0.named
  have hlocks := B0.notSynchronized
  have hl := lv_entry ([.ref v, .int (nI k)]) (n := 2) (Nat.le_of_ble_eq_true rfl)
  rw [lg_entry_eq]
  generalize (lg_sl ([.ref v, .int (nI k)]) ++ List.replicate (2 - (lg_sl ([.ref v, .int (nI k)])).length) Slot.unset).toArray = ls at hl ⊢
  have hl : lv_has ls 2 [(0, .ref v), (1, .int (nI k))] := hl
  have hS : va_S (fun _ => False) s.heap s.heap [] := va_S.rf
  refine lv_iload_n hx hb dJ1_charAt_3b067_0 rfl (lv_at hl 1 rfl) ?_
  refine lv_aload_n hx hb dJ1_charAt_3b067_1 rfl (lv_at hl 0 rfl) ?_
  refine va_tlen hx hb hV.2.2.2 hS (v := nI n) rfl dJ1_charAt_3b067_2 ?_
  refine W_callV0 (W.runS (As := [.int (nI k), .int (nI n)]) (rest := []) (Ts := WG) (own := RJ1) ⟨hx, hb, hml, hown, hts⟩ (c_sck l ad (nI_pos (by omega)) (nI_lt hk.1 (by omega))) ⟨cb_of (n := 2) hts jw28 jw24 (hts _ jw29) (by decide +kernel) (by decide +kernel) rfl rfl (Nat.le_of_ble_eq_true rfl) (Nat.le_of_ble_eq_true rfl), hts _ jw30⟩ ⟨PcS.blind, fun U hU hW => ⟨rfl, hT.none hS hU hW⟩⟩ rfl rfl hl.1 rfl (lv_room (Nat.le_of_ble_eq_true rfl)) dJ1_charAt_3b067_3 ⟨Nat.zero_le _, Nat.zero_le _⟩) ?_
  refine lv_aload_n hx hb dJ1_charAt_3b067_6 rfl (lv_at hl 0 rfl) ?_
  refine lv_iload_n hx hb dJ1_charAt_3b067_7 rfl (lv_at hl 1 rfl) ?_
  refine va_tb hx hb hV.2.2.2 hS (vp_in_nI hk.1 (by omega)) (v := .int (f k)) (by rw [nI_clamp (by omega)]) dJ1_charAt_3b067_8 ?_
  refine lv_sipush (v := 255) hx hb dJ1_charAt_3b067_9 (by decide) ?_
  refine lv_iand hx hb dJ1_charAt_3b067_12 ?_
  refine lv_i2c hx hb dJ1_charAt_3b067_13 (sc_c2 (f k)) ?_
  exact W.zret (ty := .char) hx hb hr (sc_nar (f k)) (fun t ht hW => ⟨rfl, ht⟩) hS.2.2 dJ1_charAt_3b067_14

set_option maxRecDepth 20000 in
theorem jv_charAt (l : Launch) (ad : Nat → Nat) {a v n : Nat} {f : Nat → Int32} {k : Nat} (hk : k < n ∧ n ≤ 1000) : Met l yJ0_charAt_5068e (Cond.code yJ0_charAt_5068e cJ0_charAt_5068e 2 (some .char) :: WG) (k2_rm 3 90) (PcV ad a v n f [.ref a, .int (nI k)]) (QcVal (some (.int (f k &&& 255)))) 0 0 (fun _ => False) := by
  refine Met.ofW (cc := cJ0_charAt_5068e) (maxL := 2) (ret := (some .char)) (by decide +kernel) rfl ?_
  intro p e s m args below meth c0 s₁ B0 hml hv
  obtain ⟨rfl, hT, hV⟩ := hv
  have hx := B0.exec
  have hb := B0.bytes
  have hr := B0.returns
  have hts0 := atoms_spec (ws := Cond.code yJ0_charAt_5068e cJ0_charAt_5068e 2 (some .char) :: WG) B0.pre
  have hts : ∀ w ∈ WG, w.before ([.ref a, .int (nI k)] : List Value).toArray s = true := fun w hw => hts0 w (List.mem_cons_of_mem _ hw)
  have hown : s.vm.findClass RJ0 = some m.cls := findClass_of_methodNamed B0.named
  have hlocks := B0.notSynchronized
  have hl := lv_entry ([.ref a, .int (nI k)]) (n := 2) (Nat.le_of_ble_eq_true rfl)
  rw [lg_entry_eq]
  generalize (lg_sl ([.ref a, .int (nI k)]) ++ List.replicate (2 - (lg_sl ([.ref a, .int (nI k)])).length) Slot.unset).toArray = ls at hl ⊢
  have hl : lv_has ls 2 [(0, .ref a), (1, .int (nI k))] := hl
  have hS : va_S (fun _ => False) s.heap s.heap [] := va_S.rf
  refine lv_aload_n hx hb dJ0_charAt_5068e_0 rfl (lv_at hl 0 rfl) ?_
  refine W_callQ (W.runV (As := []) (rest := []) (b := a) (Ts := WG) (own := RJ0) (C := RJ0) ⟨hx, hb, hml, hown, hts⟩ (jv_isLatin1 l ad (a := a) (v := v) (n := n) (f := f)) ⟨cb_of (n := 0) hts jw31 jw24 (hts _ jw32) (by decide +kernel) (by decide +kernel) rfl rfl (Nat.le_of_ble_eq_true rfl) (Nat.le_of_ble_eq_true rfl), hts _ jw33, hts _ jw34⟩ ⟨PcV.blind, hV.recv hS, fun U hU hW => jpV hT hV hS _ U hU hW⟩ rfl rfl hl.1 rfl (lv_room (Nat.le_of_ble_eq_true rfl)) dJ0_charAt_5068e_1 ⟨Nat.zero_le _, Nat.zero_le _⟩) ?_
  refine lv_if_eq (tgt := 16) hx hb dJ0_charAt_5068e_4 (by first | decide | rfl) (fun q9 => absurd q9 (by decide)) (fun _ => ?_)
  refine lv_aload_n hx hb dJ0_charAt_5068e_7 rfl (lv_at hl 0 rfl) ?_
  refine vk_getf hx hb hV.2.2.1 hS hown (hts _ jw22) (fun _ h => h) dJ0_charAt_5068e_8 ?_
  refine lv_iload_n hx hb dJ0_charAt_5068e_11 rfl (lv_at hl 1 rfl) ?_
  refine W_callQ (W.runS (As := [.ref v, .int (nI k)]) (rest := []) (Ts := WG) (own := RJ0) ⟨hx, hb, hml, hown, hts⟩ (jv_lch l ad (a := a) (v := v) (n := n) (f := f) hk) ⟨cb_of (n := 2) hts jw35 jw36 (hts _ jw37) (by decide +kernel) (by decide +kernel) rfl rfl (Nat.le_of_ble_eq_true rfl) (Nat.le_of_ble_eq_true rfl), hts _ jw38⟩ ⟨PcV.blind, fun U hU hW => jpV hT hV hS _ U hU hW⟩ rfl rfl hl.1 rfl (lv_room (Nat.le_of_ble_eq_true rfl)) dJ0_charAt_5068e_12 ⟨Nat.zero_le _, Nat.zero_le _⟩) ?_
  exact W.zret (ty := .char) hx hb hr (sc_nar (f k)) (fun t ht hW => ⟨rfl, ht⟩) hS.2.2 dJ0_charAt_5068e_15

set_option maxRecDepth 20000 in
theorem jb_infl (l : Launch) (D : va_G) (ad : Nat → Nat) {a w n : Nat} {f : Nat → Int32} {ws : va_W} {tys : List (ClassId × FieldType)} {b v : Nat} {c : Int32} (hB : ws[0]? = some (b, .inr (8, [.ref v, .int 0, .int 0, .int c]))) : Met l yJ5_inflateIfNeededFor_a7421 (Cond.code yJ5_inflateIfNeededFor_a7421 cJ5_inflateIfNeededFor_a7421 2 none :: WG) (k2_rm 1 20) (PcRV D ad ws tys a w n f [.ref b, .ref a]) (QcVal none) 0 0 (fun _ => False) := by
  refine Met.ofW (cc := cJ5_inflateIfNeededFor_a7421) (maxL := 2) (ret := none) (by decide +kernel) rfl ?_
  intro p e s m args below meth c0 s₁ B0 hml hv
  obtain ⟨rfl, hT, hV, hP, hK⟩ := hv
  have hx := B0.exec
  have hb := B0.bytes
  have hr := B0.returns
  have hts0 := atoms_spec (ws := Cond.code yJ5_inflateIfNeededFor_a7421 cJ5_inflateIfNeededFor_a7421 2 none :: WG) B0.pre
  have hts : ∀ w ∈ WG, w.before ([.ref b, .ref a] : List Value).toArray s = true := fun w hw => hts0 w (List.mem_cons_of_mem _ hw)
  have hown : s.vm.findClass RJ5 = some m.cls := findClass_of_methodNamed B0.named
  have hlocks := B0.notSynchronized
  have hl := lv_entry ([.ref b, .ref a]) (n := 2) (Nat.le_of_ble_eq_true rfl)
  rw [lg_entry_eq]
  generalize (lg_sl ([.ref b, .ref a]) ++ List.replicate (2 - (lg_sl ([.ref b, .ref a])).length) Slot.unset).toArray = ls at hl ⊢
  have hl : lv_has ls 2 [(0, .ref b), (1, .ref a)] := hl
  have hS : va_S (fun _ => False) s.heap s.heap [] := va_S.rf
  refine va_gets hx hb hT.2.2.1 hS hown (hts _ jw0) (fun _ h => h) dJ5_inflateIfNeededFor_a7421_0 ?_
  refine lv_if_eq (tgt := 21) hx hb dJ5_inflateIfNeededFor_a7421_3 (by first | decide | rfl) (fun q9 => absurd q9 (by decide)) (fun _ => ?_)
  refine lv_aload_n hx hb dJ5_inflateIfNeededFor_a7421_6 rfl (lv_at hl 0 rfl) ?_
  refine va_get (C := RJ4) (T := TJ4) (N := 4) hx hb hts uwJ4 hown hK hP 0 hB rfl 1 (by decide) (hts _ jw1) (fun _ h => h) rfl dJ5_inflateIfNeededFor_a7421_7 ?_
  refine lv_aload_n hx hb dJ5_inflateIfNeededFor_a7421_10 rfl (lv_at hl 1 rfl) ?_
  refine W_callQ (W.runV (As := []) (rest := [.int 0]) (b := a) (Ts := WG) (own := RJ5) (C := RJ0) ⟨hx, hb, hml, hown, hts⟩ (jv_coder l ad (a := a) (v := w) (n := n) (f := f)) ⟨cb_of (n := 0) hts jw23 jw24 (hts _ jw39) (by decide +kernel) (by decide +kernel) rfl rfl (Nat.le_of_ble_eq_true rfl) (Nat.le_of_ble_eq_true rfl), hts _ jw26, hts _ jw27⟩ ⟨PcV.blind, hV.recv hS, fun U hU hW => jpV hT hV hS _ U hU hW⟩ rfl rfl hl.1 rfl (lv_room (Nat.le_of_ble_eq_true rfl)) dJ5_inflateIfNeededFor_a7421_11 ⟨Nat.zero_le _, Nat.zero_le _⟩) ?_
  refine lv_icmp_eq (tgt := 21) hx hb dJ5_inflateIfNeededFor_a7421_14 (by first | decide | rfl) (fun _ => ?_) (fun q9 => by first | exact absurd q9 (rfl) | exact absurd (rfl) q9)
  exact W.vret hx hb hr (fun t ht hW => ⟨rfl, ht⟩) hS.2.2 dJ5_inflateIfNeededFor_a7421_21

set_option maxRecDepth 20000 in
theorem jn_canEncode (l : Launch) (D : va_G) (ad : Nat → Nat) {ws : va_W} {tys : List (ClassId × FieldType)} {x : Nat} (hx0 : x ≤ 255) : Met l yJ1_canEncode_fc78d (Cond.code yJ1_canEncode_fc78d cJ1_canEncode_fc78d 1 (some .boolean) :: WG) (k2_rm 0 0) (PcR D ad ws tys [.int (nI x)]) (QcVal (some (.int 1))) 0 0 (fun _ => False) := by
  refine Met.ofW (cc := cJ1_canEncode_fc78d) (maxL := 1) (ret := (some .boolean)) (by decide +kernel) rfl ?_
  intro p e s m args below meth c0 s₁ B0 hml hv
  obtain ⟨rfl, hT, hP, hK⟩ := hv
  have hx := B0.exec
  have hb := B0.bytes
  have hr := B0.returns
  have hts0 := atoms_spec (ws := Cond.code yJ1_canEncode_fc78d cJ1_canEncode_fc78d 1 (some .boolean) :: WG) B0.pre
  have hts : ∀ w ∈ WG, w.before ([.int (nI x)] : List Value).toArray s = true := fun w hw => hts0 w (List.mem_cons_of_mem _ hw)
  have hown : s.vm.findClass RJ1 = some m.cls := findClass_of_methodNamed B0.named
  have hlocks := B0.notSynchronized
  have hl := lv_entry ([.int (nI x)]) (n := 1) (Nat.le_of_ble_eq_true rfl)
  rw [lg_entry_eq]
  generalize (lg_sl ([.int (nI x)]) ++ List.replicate (1 - (lg_sl ([.int (nI x)])).length) Slot.unset).toArray = ls at hl ⊢
  have hl : lv_has ls 1 [(0, .int (nI x))] := hl
  have hS : va_S (fun _ => False) s.heap s.heap [] := va_S.rf
  refine lv_iload_n hx hb dJ1_canEncode_fc78d_0 rfl (lv_at hl 0 rfl) ?_
  refine lv_sipush (v := nI 255) hx hb dJ1_canEncode_fc78d_1 (by decide) ?_
  refine lv_icmp_gt (tgt := 11) hx hb dJ1_canEncode_fc78d_4 (by first | decide | rfl) (fun q9 => absurd q9 (nI_nlt (by omega) (by omega))) (fun _ => ?_)
  refine lv_iconst (v := 1) hx hb dJ1_canEncode_fc78d_7 (by decide) ?_
  refine lv_goto (tgt := 12) hx hb dJ1_canEncode_fc78d_8 (by first | decide | rfl) ?_
  exact W.zret (ty := .boolean) hx hb hr rfl (fun t ht hW => ⟨rfl, ht⟩) hS.2.2 dJ1_canEncode_fc78d_12

