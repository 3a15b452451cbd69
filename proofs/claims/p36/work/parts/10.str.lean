theorem dJ0_length_8abf5_0 : decode cJ0_length_8abf5 0 = .ok (.aload_n 0, 1) := by decide +kernel
theorem dJ0_length_8abf5_1 : decode cJ0_length_8abf5 1 = .ok (.getfield 9, 3) := by decide +kernel
theorem dJ0_length_8abf5_4 : decode cJ0_length_8abf5 4 = .ok (.arraylength, 1) := by decide +kernel
theorem dJ0_length_8abf5_5 : decode cJ0_length_8abf5 5 = .ok (.aload_n 0, 1) := by decide +kernel
theorem dJ0_length_8abf5_6 : decode cJ0_length_8abf5 6 = .ok (.invokevirtual 335, 3) := by decide +kernel
theorem dJ0_length_8abf5_9 : decode cJ0_length_8abf5 9 = .ok (.ishr, 1) := by decide +kernel
theorem dJ0_length_8abf5_10 : decode cJ0_length_8abf5 10 = .ok (.ireturn, 1) := by decide +kernel
theorem dJ0_charAt_5068e_0 : decode cJ0_charAt_5068e 0 = .ok (.aload_n 0, 1) := by decide +kernel
theorem dJ0_charAt_5068e_1 : decode cJ0_charAt_5068e 1 = .ok (.invokevirtual 492, 3) := by decide +kernel
theorem dJ0_charAt_5068e_4 : decode cJ0_charAt_5068e 4 = .ok (.ifCond .eq 12, 3) := by decide +kernel
theorem dJ0_charAt_5068e_7 : decode cJ0_charAt_5068e 7 = .ok (.aload_n 0, 1) := by decide +kernel
theorem dJ0_charAt_5068e_8 : decode cJ0_charAt_5068e 8 = .ok (.getfield 9, 3) := by decide +kernel
theorem dJ0_charAt_5068e_11 : decode cJ0_charAt_5068e 11 = .ok (.iload_n 1, 1) := by decide +kernel
theorem dJ0_charAt_5068e_12 : decode cJ0_charAt_5068e 12 = .ok (.invokestatic 495, 3) := by decide +kernel
theorem dJ0_charAt_5068e_15 : decode cJ0_charAt_5068e 15 = .ok (.ireturn, 1) := by decide +kernel
theorem dJ0_charAt_5068e_16 : decode cJ0_charAt_5068e 16 = .ok (.aload_n 0, 1) := by decide +kernel
theorem dJ0_charAt_5068e_17 : decode cJ0_charAt_5068e 17 = .ok (.getfield 9, 3) := by decide +kernel
theorem dJ0_charAt_5068e_20 : decode cJ0_charAt_5068e 20 = .ok (.iload_n 1, 1) := by decide +kernel
theorem dJ0_charAt_5068e_21 : decode cJ0_charAt_5068e 21 = .ok (.invokestatic 498, 3) := by decide +kernel
theorem dJ0_charAt_5068e_24 : decode cJ0_charAt_5068e 24 = .ok (.ireturn, 1) := by decide +kernel
theorem dJ0_coder_7d493_0 : decode cJ0_coder_7d493 0 = .ok (.getstatic 38, 3) := by decide +kernel
theorem dJ0_coder_7d493_3 : decode cJ0_coder_7d493 3 = .ok (.ifCond .eq 10, 3) := by decide +kernel
theorem dJ0_coder_7d493_6 : decode cJ0_coder_7d493 6 = .ok (.aload_n 0, 1) := by decide +kernel
theorem dJ0_coder_7d493_7 : decode cJ0_coder_7d493 7 = .ok (.getfield 15, 3) := by decide +kernel
theorem dJ0_coder_7d493_10 : decode cJ0_coder_7d493 10 = .ok (.goto 4, 3) := by decide +kernel
theorem dJ0_coder_7d493_13 : decode cJ0_coder_7d493 13 = .ok (.iconst 1, 1) := by decide +kernel
theorem dJ0_coder_7d493_14 : decode cJ0_coder_7d493 14 = .ok (.ireturn, 1) := by decide +kernel
theorem dJ0_isLatin1_aae02_0 : decode cJ0_isLatin1_aae02 0 = .ok (.getstatic 38, 3) := by decide +kernel
theorem dJ0_isLatin1_aae02_3 : decode cJ0_isLatin1_aae02 3 = .ok (.ifCond .eq 14, 3) := by decide +kernel
theorem dJ0_isLatin1_aae02_6 : decode cJ0_isLatin1_aae02 6 = .ok (.aload_n 0, 1) := by decide +kernel
theorem dJ0_isLatin1_aae02_7 : decode cJ0_isLatin1_aae02 7 = .ok (.getfield 15, 3) := by decide +kernel
theorem dJ0_isLatin1_aae02_10 : decode cJ0_isLatin1_aae02 10 = .ok (.ifCond .ne 7, 3) := by decide +kernel
theorem dJ0_isLatin1_aae02_13 : decode cJ0_isLatin1_aae02 13 = .ok (.iconst 1, 1) := by decide +kernel
theorem dJ0_isLatin1_aae02_14 : decode cJ0_isLatin1_aae02 14 = .ok (.goto 4, 3) := by decide +kernel
theorem dJ0_isLatin1_aae02_17 : decode cJ0_isLatin1_aae02 17 = .ok (.iconst 0, 1) := by decide +kernel
theorem dJ0_isLatin1_aae02_18 : decode cJ0_isLatin1_aae02 18 = .ok (.ireturn, 1) := by decide +kernel
theorem dJ0_checkIndex_df160_0 : decode cJ0_checkIndex_df160 0 = .ok (.iload_n 0, 1) := by decide +kernel
theorem dJ0_checkIndex_df160_1 : decode cJ0_checkIndex_df160 1 = .ok (.iload_n 1, 1) := by decide +kernel
theorem dJ0_checkIndex_df160_2 : decode cJ0_checkIndex_df160 2 = .ok (.getstatic 1053, 3) := by decide +kernel
theorem dJ0_checkIndex_df160_5 : decode cJ0_checkIndex_df160 5 = .ok (.invokestatic 1059, 3) := by decide +kernel
theorem dJ0_checkIndex_df160_8 : decode cJ0_checkIndex_df160 8 = .ok (.pop, 1) := by decide +kernel
theorem dJ0_checkIndex_df160_9 : decode cJ0_checkIndex_df160 9 = .ok (.return_, 1) := by decide +kernel
theorem dJ1_charAt_3b067_0 : decode cJ1_charAt_3b067 0 = .ok (.iload_n 1, 1) := by decide +kernel
theorem dJ1_charAt_3b067_1 : decode cJ1_charAt_3b067 1 = .ok (.aload_n 0, 1) := by decide +kernel
theorem dJ1_charAt_3b067_2 : decode cJ1_charAt_3b067 2 = .ok (.arraylength, 1) := by decide +kernel
theorem dJ1_charAt_3b067_3 : decode cJ1_charAt_3b067 3 = .ok (.invokestatic 9, 3) := by decide +kernel
theorem dJ1_charAt_3b067_6 : decode cJ1_charAt_3b067 6 = .ok (.aload_n 0, 1) := by decide +kernel
theorem dJ1_charAt_3b067_7 : decode cJ1_charAt_3b067 7 = .ok (.iload_n 1, 1) := by decide +kernel
theorem dJ1_charAt_3b067_8 : decode cJ1_charAt_3b067 8 = .ok (.baload, 1) := by decide +kernel
theorem dJ1_charAt_3b067_9 : decode cJ1_charAt_3b067 9 = .ok (.sipush 255, 3) := by decide +kernel
theorem dJ1_charAt_3b067_12 : decode cJ1_charAt_3b067 12 = .ok (.iand, 1) := by decide +kernel
theorem dJ1_charAt_3b067_13 : decode cJ1_charAt_3b067 13 = .ok (.i2c, 1) := by decide +kernel
theorem dJ1_charAt_3b067_14 : decode cJ1_charAt_3b067 14 = .ok (.ireturn, 1) := by decide +kernel
theorem dJ3_checkIndex_8e157_0 : decode cJ3_checkIndex_8e157 0 = .ok (.iload_n 0, 1) := by decide +kernel
theorem dJ3_checkIndex_8e157_1 : decode cJ3_checkIndex_8e157 1 = .ok (.ifCond .lt 8, 3) := by decide +kernel
theorem dJ3_checkIndex_8e157_4 : decode cJ3_checkIndex_8e157 4 = .ok (.iload_n 0, 1) := by decide +kernel
theorem dJ3_checkIndex_8e157_5 : decode cJ3_checkIndex_8e157 5 = .ok (.iload_n 1, 1) := by decide +kernel
theorem dJ3_checkIndex_8e157_6 : decode cJ3_checkIndex_8e157 6 = .ok (.if_icmp .lt 10, 3) := by decide +kernel
theorem dJ3_checkIndex_8e157_9 : decode cJ3_checkIndex_8e157 9 = .ok (.aload_n 2, 1) := by decide +kernel
theorem dJ3_checkIndex_8e157_10 : decode cJ3_checkIndex_8e157 10 = .ok (.iload_n 0, 1) := by decide +kernel
theorem dJ3_checkIndex_8e157_11 : decode cJ3_checkIndex_8e157 11 = .ok (.iload_n 1, 1) := by decide +kernel
theorem dJ3_checkIndex_8e157_12 : decode cJ3_checkIndex_8e157 12 = .ok (.invokestatic 95, 3) := by decide +kernel
theorem dJ3_checkIndex_8e157_15 : decode cJ3_checkIndex_8e157 15 = .ok (.athrow, 1) := by decide +kernel
theorem dJ3_checkIndex_8e157_16 : decode cJ3_checkIndex_8e157 16 = .ok (.iload_n 0, 1) := by decide +kernel
theorem dJ3_checkIndex_8e157_17 : decode cJ3_checkIndex_8e157 17 = .ok (.ireturn, 1) := by decide +kernel
set_option maxRecDepth 20000 in
theorem sw_coder_c : Cond.code yJ0_coder_7d493 cJ0_coder_7d493 1 (some .byte) ∈ WG := WG_of 648 rfl rfl
theorem sw_coder_k : Cond.instanceMethod yJ0_coder_7d493 ∈ WG := WG_of 646 (by decide +kernel) rfl
theorem sw_coder_s : Cond.selects RJ0 yJ0_coder_7d493 yJ0_coder_7d493 ∈ WG := WG_of 647 (by decide +kernel) rfl
set_option maxRecDepth 20000 in
theorem sw_isLatin1_c : Cond.code yJ0_isLatin1_aae02 cJ0_isLatin1_aae02 1 (some .boolean) ∈ WG := WG_of 818 rfl rfl
theorem sw_isLatin1_k : Cond.instanceMethod yJ0_isLatin1_aae02 ∈ WG := WG_of 816 (by decide +kernel) rfl
theorem sw_isLatin1_s : Cond.selects RJ0 yJ0_isLatin1_aae02 yJ0_isLatin1_aae02 ∈ WG := WG_of 817 (by decide +kernel) rfl
set_option maxRecDepth 20000 in
theorem sw_length_c : Cond.code yJ0_length_8abf5 cJ0_length_8abf5 1 (some .int) ∈ WG := WG_of 644 rfl rfl
theorem sw_length_k : Cond.instanceMethod yJ0_length_8abf5 ∈ WG := WG_of 642 (by decide +kernel) rfl
theorem sw_length_s : Cond.selects RJ0 yJ0_length_8abf5 yJ0_length_8abf5 ∈ WG := WG_of 643 (by decide +kernel) rfl
set_option maxRecDepth 20000 in
theorem sw_charAt_c : Cond.code yJ0_charAt_5068e cJ0_charAt_5068e 2 (some .char) ∈ WG := WG_of 814 rfl rfl
theorem sw_charAt_k : Cond.instanceMethod yJ0_charAt_5068e ∈ WG := WG_of 812 (by decide +kernel) rfl
theorem sw_charAt_s : Cond.selects RJ0 yJ0_charAt_5068e yJ0_charAt_5068e ∈ WG := WG_of 813 (by decide +kernel) rfl
set_option maxRecDepth 20000 in
theorem sw_sck_c : Cond.code yJ0_checkIndex_df160 cJ0_checkIndex_df160 2 none ∈ WG := WG_of 803 rfl rfl
theorem sw_sck_k : Cond.static yJ0_checkIndex_df160 ∈ WG := WG_of 802 (by decide +kernel) rfl
set_option maxRecDepth 20000 in
theorem sw_lch_c : Cond.code yJ1_charAt_3b067 cJ1_charAt_3b067 2 (some .char) ∈ WG := WG_of 821 rfl rfl
theorem sw_lch_k : Cond.static yJ1_charAt_3b067 ∈ WG := WG_of 820 (by decide +kernel) rfl
set_option maxRecDepth 20000 in
theorem sw_pck_c : Cond.code yJ3_checkIndex_8e157 cJ3_checkIndex_8e157 3 (some .int) ∈ WG := WG_of 806 rfl rfl
theorem sw_pck_k : Cond.static yJ3_checkIndex_8e157 ∈ WG := WG_of 805 (by decide +kernel) rfl
theorem sw_iS : Cond.initialized RJ0 ∈ WG := WG_of 36 (by decide +kernel) rfl
theorem sw_iL : Cond.initialized RJ1 ∈ WG := WG_of 43 (by decide +kernel) rfl
theorem sw_iP : Cond.initialized RJ3 ∈ WG := WG_of 42 (by decide +kernel) rfl
theorem sl_coder : Cond.methodLink RJ0 335 yJ0_coder_7d493 ∈ WG := WG_of 645 (by decide +kernel) rfl
theorem sl_isLatin1 : Cond.methodLink RJ0 492 yJ0_isLatin1_aae02 ∈ WG := WG_of 815 (by decide +kernel) rfl
theorem sl_lch : Cond.methodLink RJ0 495 yJ1_charAt_3b067 ∈ WG := WG_of 819 (by decide +kernel) rfl
theorem sl_sck : Cond.methodLink RJ1 9 yJ0_checkIndex_df160 ∈ WG := WG_of 822 (by decide +kernel) rfl
theorem sl_pck : Cond.methodLink RJ0 1059 yJ3_checkIndex_8e157 ∈ WG := WG_of 804 (by decide +kernel) rfl
theorem sf_value : Cond.fieldLink RJ0 9 "java/lang/String" "value" "[B" ∈ WG := WG_of 760 (by decide +kernel) rfl
theorem sf_coder : Cond.fieldLink RJ0 15 "java/lang/String" "coder" "B" ∈ WG := WG_of 761 (by decide +kernel) rfl
theorem sf_compact : Cond.fieldLink RJ0 38 "java/lang/String" "COMPACT_STRINGS" "Z" ∈ WG := WG_of 649 (by decide +kernel) rfl
theorem sf_sio : Cond.fieldLink RJ0 1053 "jdk/internal/util/Preconditions" "SIOOBE_FORMATTER" "Ljava/util/function/BiFunction;" ∈ WG := WG_of 627 (by decide +kernel) rfl
theorem vk_1.moved {adK adV : Nat → Nat} {A : Nat → Prop} {u U : State} {H : Heap} (hvm : u.vm.Alike U.vm) (h : vk_1 adK adV A u H) : vk_1 adK adV A U H :=
  ⟨fun i hi => ⟨va_O.moved hvm (h.1 i hi).1, va_OF.moved hvm (h.1 i hi).2.1, va_OF.moved hvm (h.1 i hi).2.2.1, va_T.moved hvm (h.1 i hi).2.2.2⟩, h.2⟩
theorem vk_1.kept {adK adV : Nat → Nat} {A : Nat → Prop} {U : State} {H H1 : Heap} (h : vk_1 adK adV A U H) (hq : ∀ a : Nat, a < H.size → ¬ A a → H1[a]? = H[a]?) : vk_1 adK adV A U H1 :=
  ⟨fun i hi => ⟨(h.1 i hi).1.kept hq, (h.1 i hi).2.1.kept hq, (h.1 i hi).2.2.1.kept hq, (h.1 i hi).2.2.2.kept hq⟩, h.2⟩
theorem vk_1.narrow {adK adV : Nat → Nat} {A B : Nat → Prop} {U : State} {H : Heap} (h : vk_1 adK adV A U H) (hAB : ∀ q, B q → A q) : vk_1 adK adV B U H :=
  ⟨fun i hi => ⟨(h.1 i hi).1.narrow hAB, (h.1 i hi).2.1.narrow hAB, (h.1 i hi).2.2.1.narrow hAB, (h.1 i hi).2.2.2.narrow hAB⟩, h.2⟩
theorem vk_D.moved {n : String} {f : Nat → Int32} {A : Nat → Prop} {u U : State} {H : Heap} (hvm : u.vm.Alike U.vm) (h : vk_D n f A u H) : vk_D n f A U H := by
  obtain ⟨t, h1, h2⟩ := h
  exact ⟨t, va_Z.moved hvm h1, va_T.moved hvm h2⟩
theorem vk_D.kept {n : String} {f : Nat → Int32} {A : Nat → Prop} {U : State} {H H1 : Heap} (h : vk_D n f A U H) (hq : ∀ a : Nat, a < H.size → ¬ A a → H1[a]? = H[a]?) : vk_D n f A U H1 := by
  obtain ⟨t, h1, h2⟩ := h
  exact ⟨t, h1.kept hq, h2.kept hq⟩
theorem vk_D.narrow {n : String} {f : Nat → Int32} {A B : Nat → Prop} {U : State} {H : Heap} (h : vk_D n f A U H) (hAB : ∀ q, B q → A q) : vk_D n f B U H := by
  obtain ⟨t, h1, h2⟩ := h
  exact ⟨t, h1.narrow hAB, h2.narrow hAB⟩
theorem vk_recv1 {s : State} {H : Heap} {locs : List Loc} {A : Nat → Prop} {adK adV : Nat → Nat} {i : Nat} (hE : vk_1 adK adV A s s.heap) (hi : i < 29) (hS : va_S A s.heap H locs) : ∃ cell : Cell, H[adK i]? = some cell ∧ cell.vm.isStatics = false ∧ s.vm.findClass "java/lang/String" = some cell.cls := by
  obtain ⟨cell, h1, h2, h3, -⟩ := (hE.1 i hi).1.kept hS.2.1
  exact ⟨cell, h1, h2, h3⟩
theorem ST.warm {ad : Nat → Nat} {A : Nat → Prop} {s U : State} {H : Heap} (hW : s.WarmedH U.vm) (h : ST ad A s H) : ST ad A U H :=
  ⟨by obtain ⟨v, hv⟩ := h.1; exact ⟨v, vk_1.moved hW.alike hv⟩, fun i n tx hi => vk_R.warm hW (h.2.1 i n tx hi), va_Z.moved hW.alike h.2.2.1, va_Zq.moved hW.alike h.2.2.2.1, vk_D.moved hW.alike h.2.2.2.2.1, vk_D.moved hW.alike h.2.2.2.2.2⟩
theorem ST.same {ad : Nat → Nat} {A : Nat → Prop} {u U : State} {H : Heap} (hv : U.vm = u.vm) (h : ST ad A u H) : ST ad A U H := by
  have ha : u.vm.Alike U.vm := by rw [hv]; exact Vm.Alike.refl u.vm
  exact ⟨by obtain ⟨v, hv⟩ := h.1; exact ⟨v, vk_1.moved ha hv⟩, fun i n tx hi => vk_R.same hv (h.2.1 i n tx hi), va_Z.moved ha h.2.2.1, va_Zq.moved ha h.2.2.2.1, vk_D.moved ha h.2.2.2.2.1, vk_D.moved ha h.2.2.2.2.2⟩
theorem ST.kept {ad : Nat → Nat} {A : Nat → Prop} {U : State} {H H1 : Heap} (h : ST ad A U H) (hq : ∀ a : Nat, a < H.size → ¬ A a → H1[a]? = H[a]?) : ST ad A U H1 :=
  ⟨by obtain ⟨v, hv⟩ := h.1; exact ⟨v, vk_1.kept hv hq⟩, h.2.1, va_Z.kept h.2.2.1 hq, va_Zq.kept h.2.2.2.1 hq, vk_D.kept h.2.2.2.2.1 hq, vk_D.kept h.2.2.2.2.2 hq⟩
theorem ST.narrow {ad : Nat → Nat} {A B : Nat → Prop} {U : State} {H : Heap} (h : ST ad A U H) (hAB : ∀ q, B q → A q) : ST ad B U H :=
  ⟨by obtain ⟨v, hv⟩ := h.1; exact ⟨v, vk_1.narrow hv hAB⟩, h.2.1, va_Z.narrow h.2.2.1 hAB, va_Zq.narrow h.2.2.2.1 hAB, vk_D.narrow h.2.2.2.2.1 hAB, vk_D.narrow h.2.2.2.2.2 hAB⟩
theorem NS.warm {s U : State} (hW : s.WarmedH U.vm) (h : NS s) : NS U := ⟨fun p o n j pl hp => va_Nw.warmM hW (h.1 p o n j pl hp), va_AO.moved hW.alike h.2.1, va_Nw.warmC hW h.2.2⟩
theorem NS.same {u U : State} (hv : U.vm = u.vm) (h : NS u) : NS U := ⟨fun p o n j pl hp => va_Nw.same rfl hv.symm (h.1 p o n j pl hp), va_AO.moved (by rw [hv]; exact Vm.Alike.refl u.vm) h.2.1, va_Nw.same rfl hv.symm h.2.2⟩
/-- a call's words and room -/
theorem cb_of {R : Room} {s : State} {args : Array Value} {own : String} {index : Nat} {y : MethodName} {b : ByteArray} {ml : Nat} {ret : Option FieldType} {rm : Room} {mc ms n : Nat} (hts : ∀ w ∈ WG, w.before args s = true) (hc : Cond.code y b ml ret ∈ WG) (hini : Cond.initialized y.cls ∈ WG) (hl : (Cond.methodLink own index y).before args s = true)
    (hy : y.cls ≠ "java/lang/invoke/MethodHandle" ∧ y.cls ≠ "java/lang/invoke/VarHandle") (hp : (parseMethodDescriptor y.desc).map (fun d => d.parameters.length) = some n) (h1 : rm.cells = mc) (h2 : rm.slots = ms) (hf : rm.frames + 1 ≤ R.frames) (hlo : 8 + (ml + 11) + rm.locals ≤ R.locals) :
    CallB R s args own index y b ml ret (Cond.code y b ml ret :: WG) rm mc ms n := by
  refine ⟨h1, h2, hf, hlo, pay_in (big := WG) hts (fun w hw => ?_), List.mem_cons_self, hts _ hc, hts _ hini, hy, fun sig h => ?_, hl⟩
  · rcases List.mem_cons.mp hw with rfl | hw
    · exact ⟨hc, WG_good hc⟩
    · exact ⟨hw, WG_good hw⟩
  · rw [h] at hp
    exact (Option.some.inj hp).symm
def PcS (ad : Nat → Nat) (vs : List Value) : Array Value → State → Prop := va_Pc vs (fun U => ST ad (fun _ => False) U U.heap)
theorem PcS.blind {ad : Nat → Nat} {vs : List Value} : FrameBlind (PcS ad vs) := fun a U g mk h => ⟨h.1, ST.same (u := U) rfl h.2⟩
def QcV0 : Array Value → State → Outcome → State → Prop := fun _ st o t => o = .returned none ∧ t.heap = st.heap
theorem W_callV0 {p : Program} {l : Launch} {e : Env} {R : Room} {s : State} {m : MethodId} {args : Array Value} {below : List Frame} {meth : Method} {c : Code} {H : Heap} {locs : List Loc} {cells slots : Nat} {Q : State → Prop} {g : JFrame} {rest : List Value} {a : Array Value}
    (hr : CallRun p l e R s m args below meth c H locs cells slots 0 0 g rest (QcV0 a) (fun _ => False)) (kk : W p l e R s m args below meth c H locs cells slots Q { g with pc := g.pc + 3, stack := rest }) : W p l e R s m args below meth c H locs cells slots Q g := by
  intro T hT X
  obtain ⟨v, st₀, t, T', L, h0, X', hL, e1, ⟨hv, hh⟩, st⟩ := hr T hT X
  cases hv
  obtain ⟨t2, a1, b1⟩ := kk T' (by rw [e1, hh, h0]) (Stand.forget X' (fun q h => (hL q h).elim))
  exact ⟨t2, st t2 a1, b1⟩
set_option maxRecDepth 20000 in
theorem c_coder (l : Launch) (ad : Nat → Nat) {n : Nat} (hn : n < 29) : Met l yJ0_coder_7d493 (Cond.code yJ0_coder_7d493 cJ0_coder_7d493 1 (some .byte) :: WG) (k2_rm 0 0) (PcS ad [.ref (ad n)]) (QcRead 0) 0 0 (fun _ => False) := by
  refine Met.ofW (cc := cJ0_coder_7d493) (maxL := 1) (ret := (some .byte)) (by decide +kernel) rfl ?_
  intro p e s m args below meth c s₁ B hml hv
  obtain ⟨rfl, hT⟩ := hv
  have hx := B.exec
  have hb := B.bytes
  have hr := B.returns
  have hts0 := atoms_spec (ws := Cond.code yJ0_coder_7d493 cJ0_coder_7d493 1 (some .byte) :: WG) B.pre
  have hts : ∀ w ∈ WG, w.before ([.ref (ad n)] : List Value).toArray s = true := fun w hw => hts0 w (List.mem_cons_of_mem _ hw)
  have hown : s.vm.findClass RJ0 = some m.cls := findClass_of_methodNamed B.named
  have hlocks := B.notSynchronized
  have hS : va_S (fun _ => False) s.heap s.heap [] := va_S.rf
  have hl := lv_entry ([.ref (ad n)]) (n := 1) (Nat.le_of_ble_eq_true rfl)
  rw [lg_entry_eq]
  generalize (lg_sl ([.ref (ad n)]) ++ List.replicate (1 - (lg_sl ([.ref (ad n)])).length) Slot.unset).toArray = ls at hl ⊢
  have hl : lv_has ls 1 [(0, .ref (ad n))] := hl
  obtain ⟨⟨adV, hE⟩, -, hZ, -⟩ := hT
  refine va_gets hx hb hZ hS hown (hts _ sf_compact) (fun _ h => h) dJ0_coder_7d493_0 ?_
  refine lv_if_eq (tgt := 13) hx hb dJ0_coder_7d493_3 (by decide) (fun c => absurd c (by decide)) (fun _ => ?_)
  refine lv_aload_n hx hb dJ0_coder_7d493_6 rfl (lv_at hl 0 rfl) ?_
  refine vk_getf hx hb (hE.1 n hn).2.1 hS hown (hts _ sf_coder) (fun _ h => h) dJ0_coder_7d493_7 ?_
  refine lv_goto (tgt := 14) hx hb dJ0_coder_7d493_10 (by decide) ?_
  exact W.zret (ty := .byte) (v := 0) hx hb hr rfl (fun t ht hW => ⟨rfl, ht⟩) hS.2.2 dJ0_coder_7d493_14
set_option maxRecDepth 20000 in
theorem c_isLatin1 (l : Launch) (ad : Nat → Nat) {n : Nat} (hn : n < 29) : Met l yJ0_isLatin1_aae02 (Cond.code yJ0_isLatin1_aae02 cJ0_isLatin1_aae02 1 (some .boolean) :: WG) (k2_rm 0 0) (PcS ad [.ref (ad n)]) (QcRead 1) 0 0 (fun _ => False) := by
  refine Met.ofW (cc := cJ0_isLatin1_aae02) (maxL := 1) (ret := (some .boolean)) (by decide +kernel) rfl ?_
  intro p e s m args below meth c s₁ B hml hv
  obtain ⟨rfl, hT⟩ := hv
  have hx := B.exec
  have hb := B.bytes
  have hr := B.returns
  have hts0 := atoms_spec (ws := Cond.code yJ0_isLatin1_aae02 cJ0_isLatin1_aae02 1 (some .boolean) :: WG) B.pre
  have hts : ∀ w ∈ WG, w.before ([.ref (ad n)] : List Value).toArray s = true := fun w hw => hts0 w (List.mem_cons_of_mem _ hw)
  have hown : s.vm.findClass RJ0 = some m.cls := findClass_of_methodNamed B.named
  have hlocks := B.notSynchronized
  have hS : va_S (fun _ => False) s.heap s.heap [] := va_S.rf
  have hl := lv_entry ([.ref (ad n)]) (n := 1) (Nat.le_of_ble_eq_true rfl)
  rw [lg_entry_eq]
  generalize (lg_sl ([.ref (ad n)]) ++ List.replicate (1 - (lg_sl ([.ref (ad n)])).length) Slot.unset).toArray = ls at hl ⊢
  have hl : lv_has ls 1 [(0, .ref (ad n))] := hl
  obtain ⟨⟨adV, hE⟩, -, hZ, -⟩ := hT
  refine va_gets hx hb hZ hS hown (hts _ sf_compact) (fun _ h => h) dJ0_isLatin1_aae02_0 ?_
  refine lv_if_eq (tgt := 17) hx hb dJ0_isLatin1_aae02_3 (by decide) (fun c => absurd c (by decide)) (fun _ => ?_)
  refine lv_aload_n hx hb dJ0_isLatin1_aae02_6 rfl (lv_at hl 0 rfl) ?_
  refine vk_getf hx hb (hE.1 n hn).2.1 hS hown (hts _ sf_coder) (fun _ h => h) dJ0_isLatin1_aae02_7 ?_
  refine lv_if_ne (tgt := 17) hx hb dJ0_isLatin1_aae02_10 (by decide) (fun c => absurd rfl c) (fun _ => ?_)
  refine lv_iconst (v := 1) hx hb dJ0_isLatin1_aae02_13 (by decide) ?_
  refine lv_goto (tgt := 18) hx hb dJ0_isLatin1_aae02_14 (by decide) ?_
  exact W.zret (ty := .boolean) (v := 1) hx hb hr rfl (fun t ht hW => ⟨rfl, ht⟩) hS.2.2 dJ0_isLatin1_aae02_18
theorem sl_ok : ∀ n, n < 29 → (am_lns.getD n 0 < 1000 ∧ ((am_lns.getD n 0 : Nat) : Int) = slen n) := by decide +kernel
theorem sl_ch : ∀ n, n < 29 → ∀ j, j < am_lns.getD n 0 → ((((am_byt.getD n []).getD j 0 &&& 255).toUInt32 % 65536).toInt32.toInt = schr n j ∧ narrow .char (.int (((am_byt.getD n []).getD j 0 &&& 255).toUInt32 % 65536).toInt32) = .int (((am_byt.getD n []).getD j 0 &&& 255).toUInt32 % 65536).toInt32) := by decide +kernel
theorem vk_cell {ad : Nat → Nat} {s : State} {n : Nat} (hn : n < 29) (h : ST ad (fun _ => False) s s.heap) : ∃ cell : Cell, s.heap[ad n]? = some cell ∧ cell.vm.isStatics = false ∧ s.vm.findClass RJ0 = some cell.cls := by
  obtain ⟨⟨adV, hE⟩, -⟩ := h
  exact vk_recv1 hE hn (va_S.rf (H0 := s.heap))
set_option maxRecDepth 20000 in
theorem c_length (l : Launch) (ad : Nat → Nat) {n : Nat} (hn : n < 29) : Met l yJ0_length_8abf5 (Cond.code yJ0_length_8abf5 cJ0_length_8abf5 1 (some .int) :: WG) (k2_rm 1 20) (PcS ad [.ref (ad n)]) (QcRead (nI (am_lns.getD n 0))) 0 0 (fun _ => False) := by
  refine Met.ofW (cc := cJ0_length_8abf5) (maxL := 1) (ret := (some .int)) (by decide +kernel) rfl ?_
  intro p e s m args below meth c s₁ B hml hv
  obtain ⟨rfl, hT⟩ := hv
  have hx := B.exec
  have hb := B.bytes
  have hr := B.returns
  have hts0 := atoms_spec (ws := Cond.code yJ0_length_8abf5 cJ0_length_8abf5 1 (some .int) :: WG) B.pre
  have hts : ∀ w ∈ WG, w.before ([.ref (ad n)] : List Value).toArray s = true := fun w hw => hts0 w (List.mem_cons_of_mem _ hw)
  have hown : s.vm.findClass RJ0 = some m.cls := findClass_of_methodNamed B.named
  have hlocks := B.notSynchronized
  have hS : va_S (fun _ => False) s.heap s.heap [] := va_S.rf
  have hl := lv_entry ([.ref (ad n)]) (n := 1) (Nat.le_of_ble_eq_true rfl)
  rw [lg_entry_eq]
  generalize (lg_sl ([.ref (ad n)]) ++ List.replicate (1 - (lg_sl ([.ref (ad n)])).length) Slot.unset).toArray = ls at hl ⊢
  have hl : lv_has ls 1 [(0, .ref (ad n))] := hl
  obtain ⟨⟨adV, hE⟩, -⟩ := id hT
  refine lv_aload_n hx hb dJ0_length_8abf5_0 rfl (lv_at hl 0 rfl) ?_
  refine vk_getf hx hb (hE.1 n hn).2.2.1 hS hown (hts _ sf_value) (fun _ h => h) dJ0_length_8abf5_1 ?_
  refine va_tlen hx hb (hE.1 n hn).2.2.2 hS (v := nI (am_lns.getD n 0)) rfl dJ0_length_8abf5_4 ?_
  refine lv_aload_n hx hb dJ0_length_8abf5_5 rfl (lv_at hl 0 rfl) ?_
  refine W.callR (W.runV (As := []) (rest := [.int (nI (am_lns.getD n 0))]) (Ts := WG) (own := RJ0) (C := RJ0) ⟨hx, hb, hml, hown, hts⟩ (c_coder l ad hn) ⟨cb_of (n := 0) hts sw_coder_c sw_iS (hts _ sl_coder) (by decide +kernel) (by decide +kernel) rfl rfl (Nat.le_of_ble_eq_true rfl) (Nat.le_of_ble_eq_true rfl), hts _ sw_coder_k, hts _ sw_coder_s⟩ ⟨PcS.blind, vk_cell hn hT, fun U hU hW => ⟨rfl, by show ST ad (fun _ => False) U U.heap; rw [hU]; exact hT.warm hW⟩⟩ rfl rfl hl.1 rfl (lv_room (Nat.le_of_ble_eq_true rfl)) dJ0_length_8abf5_6 ⟨Nat.zero_le _, Nat.zero_le _⟩) ?_
  refine lv_ishr hx hb dJ0_length_8abf5_9 ?_
  have e1 : nI (am_lns.getD n 0) >>> ((0 : Int32) &&& 31) = nI (am_lns.getD n 0) := sc_shr0 (Nat.lt_trans (sl_ok n hn).1 (by decide))
  rw [e1]
  exact W.iret hx hb hr (fun t ht hW => ⟨rfl, ht⟩) hS.2.2 dJ0_length_8abf5_10
set_option maxRecDepth 20000 in
theorem c_pck (l : Launch) (ad : Nat → Nat) {i j : Int32} (h0 : ¬ i < 0) (h1 : i < j) (v : Value) (hv : v.category = 1) : Met l yJ3_checkIndex_8e157 (Cond.code yJ3_checkIndex_8e157 cJ3_checkIndex_8e157 3 (some .int) :: WG) (k2_rm 0 0) (PcS ad [.int i, .int j, v]) (QcRead i) 0 0 (fun _ => False) := by
  refine Met.ofW (cc := cJ3_checkIndex_8e157) (maxL := 3) (ret := (some .int)) (by decide +kernel) rfl ?_
  intro p e s m args below meth c s₁ B hml hv9
  obtain ⟨rfl, hT⟩ := hv9
  have hx := B.exec
  have hb := B.bytes
  have hr := B.returns
  have hts0 := atoms_spec (ws := Cond.code yJ3_checkIndex_8e157 cJ3_checkIndex_8e157 3 (some .int) :: WG) B.pre
  have hts : ∀ w ∈ WG, w.before ([.int i, .int j, v] : List Value).toArray s = true := fun w hw => hts0 w (List.mem_cons_of_mem _ hw)
  have hown : s.vm.findClass RJ3 = some m.cls := findClass_of_methodNamed B.named
  have hlocks := B.notSynchronized
  have hS : va_S (fun _ => False) s.heap s.heap [] := va_S.rf
  have hl := lv_entry ([.int i, .int j, v]) (n := 3) (by rw [am_lgsl _ (by intro w hw; simp at hw; rcases hw with rfl | rfl | rfl <;> first | rfl | exact hv)]; exact Nat.le_refl 3)
  rw [lg_entry_eq]
  generalize (lg_sl ([.int i, .int j, v]) ++ List.replicate (3 - (lg_sl ([.int i, .int j, v])).length) Slot.unset).toArray = ls at hl ⊢
  have hl : lv_has ls 3 [(0, .int i), (1, .int j), (2, v)] := by simpa [lv_args, Value.category] using hl
  refine lv_iload_n hx hb dJ3_checkIndex_8e157_0 rfl (lv_at hl 0 rfl) ?_
  refine lv_if_lt (tgt := 9) hx hb dJ3_checkIndex_8e157_1 (by decide) (fun q => absurd q h0) (fun _ => ?_)
  refine lv_iload_n hx hb dJ3_checkIndex_8e157_4 rfl (lv_at hl 0 rfl) ?_
  refine lv_iload_n hx hb dJ3_checkIndex_8e157_5 rfl (lv_at hl 1 rfl) ?_
  refine lv_icmp_lt (tgt := 16) hx hb dJ3_checkIndex_8e157_6 (by decide) (fun _ => ?_) (fun q => absurd h1 q)
  refine lv_iload_n hx hb dJ3_checkIndex_8e157_16 rfl (lv_at hl 0 rfl) ?_
  exact W.iret hx hb hr (fun t ht hW => ⟨rfl, ht⟩) hS.2.2 dJ3_checkIndex_8e157_17
set_option maxRecDepth 20000 in
theorem c_sck (l : Launch) (ad : Nat → Nat) {i j : Int32} (h0 : ¬ i < 0) (h1 : i < j) : Met l yJ0_checkIndex_df160 (Cond.code yJ0_checkIndex_df160 cJ0_checkIndex_df160 2 none :: WG) (k2_rm 1 22) (PcS ad [.int i, .int j]) QcV0 0 0 (fun _ => False) := by
  refine Met.ofW (cc := cJ0_checkIndex_df160) (maxL := 2) (ret := none) (by decide +kernel) rfl ?_
  intro p e s m args below meth c s₁ B hml hv
  obtain ⟨rfl, hT⟩ := hv
  have hx := B.exec
  have hb := B.bytes
  have hr := B.returns
  have hts0 := atoms_spec (ws := Cond.code yJ0_checkIndex_df160 cJ0_checkIndex_df160 2 none :: WG) B.pre
  have hts : ∀ w ∈ WG, w.before ([.int i, .int j] : List Value).toArray s = true := fun w hw => hts0 w (List.mem_cons_of_mem _ hw)
  have hown : s.vm.findClass RJ0 = some m.cls := findClass_of_methodNamed B.named
  have hlocks := B.notSynchronized
  have hS : va_S (fun _ => False) s.heap s.heap [] := va_S.rf
  have hl := lv_entry ([.int i, .int j]) (n := 2) (Nat.le_of_ble_eq_true rfl)
  rw [lg_entry_eq]
  generalize (lg_sl ([.int i, .int j]) ++ List.replicate (2 - (lg_sl ([.int i, .int j])).length) Slot.unset).toArray = ls at hl ⊢
  have hl : lv_has ls 2 [(0, .int i), (1, .int j)] := hl
  refine lv_iload_n hx hb dJ0_checkIndex_df160_0 rfl (lv_at hl 0 rfl) ?_
  refine lv_iload_n hx hb dJ0_checkIndex_df160_1 rfl (lv_at hl 1 rfl) ?_
  rcases hT.2.2.2.1 with hZ | ⟨t0, hZ⟩
  · refine va_gets hx hb hZ hS hown (hts _ sf_sio) (fun _ h => h) dJ0_checkIndex_df160_2 ?_
    refine W.callR (W.runS (As := [.int i, .int j, .null]) (rest := []) (Ts := WG) (own := RJ0) ⟨hx, hb, hml, hown, hts⟩ (c_pck l ad h0 h1 .null rfl) ⟨cb_of (n := 3) hts sw_pck_c sw_iP (hts _ sl_pck) (by decide +kernel) (by decide +kernel) rfl rfl (Nat.le_of_ble_eq_true rfl) (Nat.le_of_ble_eq_true rfl), hts _ sw_pck_k⟩ ⟨PcS.blind, fun U hU hW => ⟨rfl, by show ST ad (fun _ => False) U U.heap; rw [hU]; exact hT.warm hW⟩⟩ rfl rfl hl.1 rfl (lv_room (Nat.le_of_ble_eq_true rfl)) dJ0_checkIndex_df160_5 ⟨Nat.zero_le _, Nat.zero_le _⟩) ?_
    refine lv_pop hx hb dJ0_checkIndex_df160_8 rfl ?_
    exact W.vret hx hb hr (fun t ht hW => ⟨rfl, ht⟩) hS.2.2 dJ0_checkIndex_df160_9
  · refine va_gets hx hb hZ hS hown (hts _ sf_sio) (fun _ h => h) dJ0_checkIndex_df160_2 ?_
    refine W.callR (W.runS (As := [.int i, .int j, (.ref t0)]) (rest := []) (Ts := WG) (own := RJ0) ⟨hx, hb, hml, hown, hts⟩ (c_pck l ad h0 h1 (.ref t0) rfl) ⟨cb_of (n := 3) hts sw_pck_c sw_iP (hts _ sl_pck) (by decide +kernel) (by decide +kernel) rfl rfl (Nat.le_of_ble_eq_true rfl) (Nat.le_of_ble_eq_true rfl), hts _ sw_pck_k⟩ ⟨PcS.blind, fun U hU hW => ⟨rfl, by show ST ad (fun _ => False) U U.heap; rw [hU]; exact hT.warm hW⟩⟩ rfl rfl hl.1 rfl (lv_room (Nat.le_of_ble_eq_true rfl)) dJ0_checkIndex_df160_5 ⟨Nat.zero_le _, Nat.zero_le _⟩) ?_
    refine lv_pop hx hb dJ0_checkIndex_df160_8 rfl ?_
    exact W.vret hx hb hr (fun t ht hW => ⟨rfl, ht⟩) hS.2.2 dJ0_checkIndex_df160_9
def PcT (ad : Nat → Nat) (t N : Nat) (f : Nat → Value) (vs : List Value) : Array Value → State → Prop := va_Pc vs (fun U => ST ad (fun _ => False) U U.heap ∧ va_T .byte t N f (fun _ => False) U U.heap)
theorem PcT.blind {ad : Nat → Nat} {t N : Nat} {f : Nat → Value} {vs : List Value} : FrameBlind (PcT ad t N f vs) := fun a U g mk h => ⟨h.1, ST.same (u := U) rfl h.2.1, va_T.moved (u := U) (Vm.Alike.refl U.vm) h.2.2⟩
set_option maxRecDepth 20000 in
theorem c_lch (l : Launch) (ad : Nat → Nat) {n k : Nat} (hn : n < 29) (hk : k < am_lns.getD n 0) (t : Nat) : Met l yJ1_charAt_3b067 (Cond.code yJ1_charAt_3b067 cJ1_charAt_3b067 2 (some .char) :: WG) (k2_rm 2 43) (PcT ad t (am_lns.getD n 0) (fun j => .int ((am_byt.getD n []).getD j 0)) [.ref t, .int (nI k)]) (QcRead (((am_byt.getD n []).getD k 0 &&& 255).toUInt32 % 65536).toInt32) 0 0 (fun _ => False) := by
  refine Met.ofW (cc := cJ1_charAt_3b067) (maxL := 2) (ret := (some .char)) (by decide +kernel) rfl ?_
  intro p e s m args below meth c s₁ B hml hv
  obtain ⟨rfl, hT, hTb⟩ := hv
  have hx := B.exec
  have hb := B.bytes
  have hr := B.returns
  have hts0 := atoms_spec (ws := Cond.code yJ1_charAt_3b067 cJ1_charAt_3b067 2 (some .char) :: WG) B.pre
  have hts : ∀ w ∈ WG, w.before ([.ref t, .int (nI k)] : List Value).toArray s = true := fun w hw => hts0 w (List.mem_cons_of_mem _ hw)
  have hown : s.vm.findClass RJ1 = some m.cls := findClass_of_methodNamed B.named
  have hlocks := B.notSynchronized
  have hS : va_S (fun _ => False) s.heap s.heap [] := va_S.rf
  have hl := lv_entry ([.ref t, .int (nI k)]) (n := 2) (Nat.le_of_ble_eq_true rfl)
  rw [lg_entry_eq]
  generalize (lg_sl ([.ref t, .int (nI k)]) ++ List.replicate (2 - (lg_sl ([.ref t, .int (nI k)])).length) Slot.unset).toArray = ls at hl ⊢
  have hl : lv_has ls 2 [(0, .ref t), (1, .int (nI k))] := hl
  have hlen := (sl_ok n hn).1
  refine lv_iload_n hx hb dJ1_charAt_3b067_0 rfl (lv_at hl 1 rfl) ?_
  refine lv_aload_n hx hb dJ1_charAt_3b067_1 rfl (lv_at hl 0 rfl) ?_
  refine va_tlen hx hb hTb hS (v := nI (am_lns.getD n 0)) rfl dJ1_charAt_3b067_2 ?_
  refine W_callV0 (W.runS (As := [.int (nI k), .int (nI (am_lns.getD n 0))]) (rest := []) (Ts := WG) (own := RJ1) ⟨hx, hb, hml, hown, hts⟩ (c_sck l ad (nI_pos (by omega)) (nI_lt hk (by omega))) ⟨cb_of (n := 2) hts sw_sck_c sw_iS (hts _ sl_sck) (by decide +kernel) (by decide +kernel) rfl rfl (Nat.le_of_ble_eq_true rfl) (Nat.le_of_ble_eq_true rfl), hts _ sw_sck_k⟩ ⟨PcS.blind, fun U hU hW => ⟨rfl, by show ST ad (fun _ => False) U U.heap; rw [hU]; exact hT.warm hW⟩⟩ rfl rfl hl.1 rfl (lv_room (Nat.le_of_ble_eq_true rfl)) dJ1_charAt_3b067_3 ⟨Nat.zero_le _, Nat.zero_le _⟩) ?_
  refine lv_aload_n hx hb dJ1_charAt_3b067_6 rfl (lv_at hl 0 rfl) ?_
  refine lv_iload_n hx hb dJ1_charAt_3b067_7 rfl (lv_at hl 1 rfl) ?_
  refine va_tb hx hb hTb hS (vp_in_nI hk (by omega)) (v := .int ((am_byt.getD n []).getD k 0)) (by rw [nI_clamp (by omega)]) dJ1_charAt_3b067_8 ?_
  refine lv_sipush (v := 255) hx hb dJ1_charAt_3b067_9 (by decide) ?_
  refine lv_iand hx hb dJ1_charAt_3b067_12 ?_
  refine lv_i2c hx hb dJ1_charAt_3b067_13 rfl ?_
  exact W.zret (ty := .char) hx hb hr (sl_ch n hn k hk).2 (fun t ht hW => ⟨rfl, ht⟩) hS.2.2 dJ1_charAt_3b067_14
set_option maxRecDepth 20000 in
theorem c_charAt (l : Launch) (ad : Nat → Nat) {n k : Nat} (hn : n < 29) (hk : k < am_lns.getD n 0) : Met l yJ0_charAt_5068e (Cond.code yJ0_charAt_5068e cJ0_charAt_5068e 2 (some .char) :: WG) (k2_rm 3 64) (PcS ad [.ref (ad n), .int (nI k)]) (QcRead (((am_byt.getD n []).getD k 0 &&& 255).toUInt32 % 65536).toInt32) 0 0 (fun _ => False) := by
  refine Met.ofW (cc := cJ0_charAt_5068e) (maxL := 2) (ret := (some .char)) (by decide +kernel) rfl ?_
  intro p e s m args below meth c s₁ B hml hv
  obtain ⟨rfl, hT⟩ := hv
  have hx := B.exec
  have hb := B.bytes
  have hr := B.returns
  have hts0 := atoms_spec (ws := Cond.code yJ0_charAt_5068e cJ0_charAt_5068e 2 (some .char) :: WG) B.pre
  have hts : ∀ w ∈ WG, w.before ([.ref (ad n), .int (nI k)] : List Value).toArray s = true := fun w hw => hts0 w (List.mem_cons_of_mem _ hw)
  have hown : s.vm.findClass RJ0 = some m.cls := findClass_of_methodNamed B.named
  have hlocks := B.notSynchronized
  have hS : va_S (fun _ => False) s.heap s.heap [] := va_S.rf
  have hl := lv_entry ([.ref (ad n), .int (nI k)]) (n := 2) (Nat.le_of_ble_eq_true rfl)
  rw [lg_entry_eq]
  generalize (lg_sl ([.ref (ad n), .int (nI k)]) ++ List.replicate (2 - (lg_sl ([.ref (ad n), .int (nI k)])).length) Slot.unset).toArray = ls at hl ⊢
  have hl : lv_has ls 2 [(0, .ref (ad n)), (1, .int (nI k))] := hl
  obtain ⟨⟨adV, hE⟩, -⟩ := id hT
  refine lv_aload_n hx hb dJ0_charAt_5068e_0 rfl (lv_at hl 0 rfl) ?_
  refine W.callR (W.runV (As := []) (rest := []) (Ts := WG) (own := RJ0) (C := RJ0) ⟨hx, hb, hml, hown, hts⟩ (c_isLatin1 l ad hn) ⟨cb_of (n := 0) hts sw_isLatin1_c sw_iS (hts _ sl_isLatin1) (by decide +kernel) (by decide +kernel) rfl rfl (Nat.le_of_ble_eq_true rfl) (Nat.le_of_ble_eq_true rfl), hts _ sw_isLatin1_k, hts _ sw_isLatin1_s⟩ ⟨PcS.blind, vk_cell hn hT, fun U hU hW => ⟨rfl, by show ST ad (fun _ => False) U U.heap; rw [hU]; exact hT.warm hW⟩⟩ rfl rfl hl.1 rfl (lv_room (Nat.le_of_ble_eq_true rfl)) dJ0_charAt_5068e_1 ⟨Nat.zero_le _, Nat.zero_le _⟩) ?_
  refine lv_if_eq (tgt := 16) hx hb dJ0_charAt_5068e_4 rfl (fun c => absurd c (by decide)) (fun _ => ?_)
  refine lv_aload_n hx hb dJ0_charAt_5068e_7 rfl (lv_at hl 0 rfl) ?_
  refine vk_getf hx hb (hE.1 n hn).2.2.1 hS hown (hts _ sf_value) (fun _ h => h) dJ0_charAt_5068e_8 ?_
  refine lv_iload_n hx hb dJ0_charAt_5068e_11 rfl (lv_at hl 1 rfl) ?_
  refine W.callR (W.runS (As := [.ref (adV n), .int (nI k)]) (rest := []) (Ts := WG) (own := RJ0) ⟨hx, hb, hml, hown, hts⟩ (c_lch l ad hn hk (adV n)) ⟨cb_of (n := 2) hts sw_lch_c sw_iL (hts _ sl_lch) (by decide +kernel) (by decide +kernel) rfl rfl (Nat.le_of_ble_eq_true rfl) (Nat.le_of_ble_eq_true rfl), hts _ sw_lch_k⟩ ⟨PcT.blind, fun U hU hW => ⟨rfl, by rw [hU]; exact hT.warm hW, by rw [hU]; exact va_T.moved hW.alike (hE.1 n hn).2.2.2⟩⟩ rfl rfl hl.1 rfl (lv_room (Nat.le_of_ble_eq_true rfl)) dJ0_charAt_5068e_12 ⟨Nat.zero_le _, Nat.zero_le _⟩) ?_
  exact W.zret (ty := .char) hx hb hr (sl_ch n hn k hk).2 (fun t ht hW => ⟨rfl, ht⟩) hS.2.2 dJ0_charAt_5068e_15
