theorem mnl {c cp : Nat} (h : c ≤ cp) (hb : cp ≤ 300) : (if nI c < nI cp then nI c else nI cp) = nI c := by
  by_cases z : c < cp
  · rw [if_pos (nI_lt z (by omega))]
  · rw [if_neg (nI_nlt (by omega) (by omega)), show cp = c by omega]
/-- a text of a world, as a text that lies there -/
theorem SV.of {D : va_G} {ws : va_W} {tys : List (ClassId × FieldType)} {s : State} {H : Heap} {A : Nat → Prop} {t v n i j k : Nat} {g : Nat → Int32} {cA : ClassId} {h z : Value} {args : Array Value} (hts : ∀ w ∈ WG, w.before args s = true) (hK : va_K D vwCl tys s) (hP : va_P D vwCl ws H) (h1 : ws[i]? = some (t, .inr (7, [.ref v, .int 0, h, z]))) (h2 : ws[j]? = some (v, .inl (cA, n, .inl g))) (h3 : tys[k]? = some (cA, .byte)) (ha : ¬ A t) (hb : ¬ A v) : SV t v n g A s H := by
  obtain ⟨r, e1, cell, q1, q2, q3, q4⟩ := hP i _ h1
  have hr : r = (RJ0, TJ0, 4) := Option.some.inj (e1.symm.trans rfl)
  subst hr
  obtain ⟨hS, hfc, kC, hkC, hkind⟩ := hK.1 7 _ rfl
  have F : ∀ k, k < 4 → va_OF (TJ0 k).1 (TJ0 k).2.1 (TJ0 k).2.2.1 (vp_V [.ref v, .int 0, h, z] k) t A s H := fun k hk => by
    obtain ⟨cf, kf, fi, f, hi, hsl⟩ := hS k hk
    exact ⟨cf, kf, fi, f, cell, hi, (u_facts hfc hkC (u_lays hts uwJ0 hk) hi).1, q1, (by rw [q3]; exact fun h => by cases h), by rw [hsl]; exact q4 k hk, ha⟩
  obtain ⟨c2, w1, w2, w3⟩ := va_recv hK hP (q := (RJ0, TJ0, 4)) rfl h1
  exact ⟨⟨c2, w1, w2, w3, ha⟩, F 1 (by decide), F 0 (by decide), _, hP j _ h2, (hK.2 k _ h3).1 n (fun j => .int (g j)), (fun q => by cases q), (Nat.le_of_eq (by rw [vp_cell_i, arrV_size])), (by rw [vp_cell_i, arrV_size]), (fun j hj => by rw [vp_cell_i]; exact arrV_read _ _ hj), hb⟩
/-- a text of a world: its object and its letters -/
abbrev SVX (t v c : Nat) (g : Nat → Int32) (cA : ClassId) : va_W := [(t, .inr (7, [.ref v, .int 0, .int 0, .int 0])), (v, .inl (cA, c, .inl g))]
def TQ (r : Nat → Option Value) (c : Nat) : Option Value → va_W → List (ClassId × FieldType) → Prop := fun x ws' tys' => ∃ (t v : Nat) (g : Nat → Int32) (cA : ClassId), x = r t ∧ ws' = SVX t v c g cA ∧ tys' = [(cA, .byte)] ∧ FITB g
theorem cl_fit {cA : ClassId} {n : Nat} {g : Nat → Int32} (hg : FITB g) (i : Nat) (v : Value) (h : (vp_cell cA (n, .inl g)).slots[i]? = some v) : fits .byte v = true := by
  rw [vp_cell_i] at h
  by_cases z : i < n
  · rw [arrV_read _ _ z] at h
    cases h
    exact hg i
  · rw [Array.getElem?_eq_none (by rw [arrV_size]; omega)] at h
    cases h
theorem dJ7_checkLength_df160_0 : decode cJ7_checkLength_df160 0 = .ok (.iload_n 1, 1) := by decide +kernel
theorem dJ7_checkLength_df160_1 : decode cJ7_checkLength_df160 1 = .ok (.iload_n 0, 1) := by decide +kernel
theorem dJ7_checkLength_df160_2 : decode cJ7_checkLength_df160 2 = .ok (.if_icmp .ge 35, 3) := by decide +kernel
theorem dJ7_checkLength_df160_37 : decode cJ7_checkLength_df160 37 = .ok (.return_, 1) := by decide +kernel
theorem dJ7_copyOfRangeByte_39247_0 : decode cJ7_copyOfRangeByte_39247 0 = .ok (.iload_n 1, 1) := by decide +kernel
theorem dJ7_copyOfRangeByte_39247_1 : decode cJ7_copyOfRangeByte_39247 1 = .ok (.iload_n 2, 1) := by decide +kernel
theorem dJ7_copyOfRangeByte_39247_2 : decode cJ7_copyOfRangeByte_39247 2 = .ok (.invokestatic 343, 3) := by decide +kernel
theorem dJ7_copyOfRangeByte_39247_5 : decode cJ7_copyOfRangeByte_39247 5 = .ok (.iload_n 2, 1) := by decide +kernel
theorem dJ7_copyOfRangeByte_39247_6 : decode cJ7_copyOfRangeByte_39247 6 = .ok (.iload_n 1, 1) := by decide +kernel
theorem dJ7_copyOfRangeByte_39247_7 : decode cJ7_copyOfRangeByte_39247 7 = .ok (.isub, 1) := by decide +kernel
theorem dJ7_copyOfRangeByte_39247_8 : decode cJ7_copyOfRangeByte_39247 8 = .ok (.istore_n 3, 1) := by decide +kernel
theorem dJ7_copyOfRangeByte_39247_9 : decode cJ7_copyOfRangeByte_39247 9 = .ok (.iload_n 3, 1) := by decide +kernel
theorem dJ7_copyOfRangeByte_39247_10 : decode cJ7_copyOfRangeByte_39247 10 = .ok (.newarray .byte, 2) := by decide +kernel
theorem dJ7_copyOfRangeByte_39247_12 : decode cJ7_copyOfRangeByte_39247 12 = .ok (.astore 4, 2) := by decide +kernel
theorem dJ7_copyOfRangeByte_39247_14 : decode cJ7_copyOfRangeByte_39247 14 = .ok (.aload_n 0, 1) := by decide +kernel
theorem dJ7_copyOfRangeByte_39247_15 : decode cJ7_copyOfRangeByte_39247 15 = .ok (.iload_n 1, 1) := by decide +kernel
theorem dJ7_copyOfRangeByte_39247_16 : decode cJ7_copyOfRangeByte_39247 16 = .ok (.aload 4, 2) := by decide +kernel
theorem dJ7_copyOfRangeByte_39247_18 : decode cJ7_copyOfRangeByte_39247 18 = .ok (.iconst 0, 1) := by decide +kernel
theorem dJ7_copyOfRangeByte_39247_19 : decode cJ7_copyOfRangeByte_39247 19 = .ok (.aload_n 0, 1) := by decide +kernel
theorem dJ7_copyOfRangeByte_39247_20 : decode cJ7_copyOfRangeByte_39247 20 = .ok (.arraylength, 1) := by decide +kernel
theorem dJ7_copyOfRangeByte_39247_21 : decode cJ7_copyOfRangeByte_39247 21 = .ok (.iload_n 1, 1) := by decide +kernel
theorem dJ7_copyOfRangeByte_39247_22 : decode cJ7_copyOfRangeByte_39247 22 = .ok (.isub, 1) := by decide +kernel
theorem dJ7_copyOfRangeByte_39247_23 : decode cJ7_copyOfRangeByte_39247 23 = .ok (.iload_n 3, 1) := by decide +kernel
theorem dJ7_copyOfRangeByte_39247_24 : decode cJ7_copyOfRangeByte_39247 24 = .ok (.invokestatic 304, 3) := by decide +kernel
theorem dJ7_copyOfRangeByte_39247_27 : decode cJ7_copyOfRangeByte_39247 27 = .ok (.invokestatic 150, 3) := by decide +kernel
theorem dJ7_copyOfRangeByte_39247_30 : decode cJ7_copyOfRangeByte_39247 30 = .ok (.aload 4, 2) := by decide +kernel
theorem dJ7_copyOfRangeByte_39247_32 : decode cJ7_copyOfRangeByte_39247 32 = .ok (.areturn, 1) := by decide +kernel
theorem dJ7_copyOfRange_39247_0 : decode cJ7_copyOfRange_39247 0 = .ok (.iload_n 1, 1) := by decide +kernel
theorem dJ7_copyOfRange_39247_1 : decode cJ7_copyOfRange_39247 1 = .ok (.ifCond .ne 9, 3) := by decide +kernel
theorem dJ7_copyOfRange_39247_4 : decode cJ7_copyOfRange_39247 4 = .ok (.iload_n 2, 1) := by decide +kernel
theorem dJ7_copyOfRange_39247_5 : decode cJ7_copyOfRange_39247 5 = .ok (.aload_n 0, 1) := by decide +kernel
theorem dJ7_copyOfRange_39247_6 : decode cJ7_copyOfRange_39247 6 = .ok (.arraylength, 1) := by decide +kernel
theorem dJ7_copyOfRange_39247_7 : decode cJ7_copyOfRange_39247 7 = .ok (.if_icmp .eq 10, 3) := by decide +kernel
theorem dJ7_copyOfRange_39247_17 : decode cJ7_copyOfRange_39247 17 = .ok (.aload_n 0, 1) := by decide +kernel
theorem dJ7_copyOfRange_39247_18 : decode cJ7_copyOfRange_39247 18 = .ok (.invokevirtual 310, 3) := by decide +kernel
theorem dJ7_copyOfRange_39247_21 : decode cJ7_copyOfRange_39247 21 = .ok (.checkcast 311, 3) := by decide +kernel
theorem dJ7_copyOfRange_39247_24 : decode cJ7_copyOfRange_39247 24 = .ok (.areturn, 1) := by decide +kernel
theorem dJ7_copyOfRange_39247_10 : decode cJ7_copyOfRange_39247 10 = .ok (.aload_n 0, 1) := by decide +kernel
theorem dJ7_copyOfRange_39247_11 : decode cJ7_copyOfRange_39247 11 = .ok (.iload_n 1, 1) := by decide +kernel
theorem dJ7_copyOfRange_39247_12 : decode cJ7_copyOfRange_39247 12 = .ok (.iload_n 2, 1) := by decide +kernel
theorem dJ7_copyOfRange_39247_13 : decode cJ7_copyOfRange_39247 13 = .ok (.invokestatic 339, 3) := by decide +kernel
theorem dJ7_copyOfRange_39247_16 : decode cJ7_copyOfRange_39247 16 = .ok (.areturn, 1) := by decide +kernel
theorem dJ0_init_db425_0 : decode cJ0_init_db425 0 = .ok (.aload_n 0, 1) := by decide +kernel
theorem dJ0_init_db425_1 : decode cJ0_init_db425 1 = .ok (.invokespecial 1, 3) := by decide +kernel
theorem dJ0_init_db425_4 : decode cJ0_init_db425 4 = .ok (.aload_n 1, 1) := by decide +kernel
theorem dJ0_init_db425_5 : decode cJ0_init_db425 5 = .ok (.invokevirtual 552, 3) := by decide +kernel
theorem dJ0_init_db425_8 : decode cJ0_init_db425 8 = .ok (.astore_n 3, 1) := by decide +kernel
theorem dJ0_init_db425_9 : decode cJ0_init_db425 9 = .ok (.aload_n 1, 1) := by decide +kernel
theorem dJ0_init_db425_10 : decode cJ0_init_db425 10 = .ok (.invokevirtual 549, 3) := by decide +kernel
theorem dJ0_init_db425_13 : decode cJ0_init_db425 13 = .ok (.istore 4, 2) := by decide +kernel
theorem dJ0_init_db425_15 : decode cJ0_init_db425 15 = .ok (.aload_n 1, 1) := by decide +kernel
theorem dJ0_init_db425_16 : decode cJ0_init_db425 16 = .ok (.invokevirtual 1047, 3) := by decide +kernel
theorem dJ0_init_db425_19 : decode cJ0_init_db425 19 = .ok (.ifCond .eq 22, 3) := by decide +kernel
theorem dJ0_init_db425_22 : decode cJ0_init_db425 22 = .ok (.aload_n 0, 1) := by decide +kernel
theorem dJ0_init_db425_23 : decode cJ0_init_db425 23 = .ok (.iconst 0, 1) := by decide +kernel
theorem dJ0_init_db425_24 : decode cJ0_init_db425 24 = .ok (.putfield 15, 3) := by decide +kernel
theorem dJ0_init_db425_27 : decode cJ0_init_db425 27 = .ok (.aload_n 0, 1) := by decide +kernel
theorem dJ0_init_db425_28 : decode cJ0_init_db425 28 = .ok (.aload_n 3, 1) := by decide +kernel
theorem dJ0_init_db425_29 : decode cJ0_init_db425 29 = .ok (.iconst 0, 1) := by decide +kernel
theorem dJ0_init_db425_30 : decode cJ0_init_db425 30 = .ok (.iload 4, 2) := by decide +kernel
theorem dJ0_init_db425_32 : decode cJ0_init_db425 32 = .ok (.invokestatic 54, 3) := by decide +kernel
theorem dJ0_init_db425_35 : decode cJ0_init_db425 35 = .ok (.putfield 9, 3) := by decide +kernel
theorem dJ0_init_db425_38 : decode cJ0_init_db425 38 = .ok (.goto 59, 3) := by decide +kernel
theorem dJ0_init_db425_97 : decode cJ0_init_db425 97 = .ok (.return_, 1) := by decide +kernel
theorem dJ0_init_81219_0 : decode cJ0_init_81219 0 = .ok (.aload_n 0, 1) := by decide +kernel
theorem dJ0_init_81219_1 : decode cJ0_init_81219 1 = .ok (.aload_n 1, 1) := by decide +kernel
theorem dJ0_init_81219_2 : decode cJ0_init_81219 2 = .ok (.aconst_null, 1) := by decide +kernel
theorem dJ0_init_81219_3 : decode cJ0_init_81219 3 = .ok (.invokespecial 489, 3) := by decide +kernel
theorem dJ0_init_81219_6 : decode cJ0_init_81219 6 = .ok (.return_, 1) := by decide +kernel
theorem dJ4_toString_0e30d_0 : decode cJ4_toString_0e30d 0 = .ok (.new 18, 3) := by decide +kernel
theorem dJ4_toString_0e30d_3 : decode cJ4_toString_0e30d 3 = .ok (.dup, 1) := by decide +kernel
theorem dJ4_toString_0e30d_4 : decode cJ4_toString_0e30d 4 = .ok (.aload_n 0, 1) := by decide +kernel
theorem dJ4_toString_0e30d_5 : decode cJ4_toString_0e30d 5 = .ok (.invokespecial 137, 3) := by decide +kernel
theorem dJ4_toString_0e30d_8 : decode cJ4_toString_0e30d 8 = .ok (.areturn, 1) := by decide +kernel
set_option maxRecDepth 20000 in
theorem jw108 : Cond.code yJ7_checkLength_df160 cJ7_checkLength_df160 2 none ∈ WG := WG_of 746 rfl rfl
theorem jw109 : Cond.methodLink RJ7 343 yJ7_checkLength_df160 ∈ WG := WG_of 744 (by decide +kernel) rfl
theorem jw110 : Cond.static yJ7_checkLength_df160 ∈ WG := WG_of 745 (by decide +kernel) rfl
theorem jw111 : Cond.methodLink RJ7 310 ⟨"[B", "clone", "()Ljava/lang/Object;"⟩ ∈ WG := WG_of 599 (by decide +kernel) rfl
theorem jw112 : Cond.sameMethod "[B" "java/lang/Object" "clone" "()Ljava/lang/Object;" ∈ WG := WG_of 600 (by decide +kernel) rfl
theorem jw113 : Cond.native ⟨"java/lang/Object", "clone", "()Ljava/lang/Object;"⟩ ∈ WG := WG_of 601 (by decide +kernel) rfl
theorem jw114 : Cond.instanceMethod ⟨"java/lang/Object", "clone", "()Ljava/lang/Object;"⟩ ∈ WG := WG_of 602 (by decide +kernel) rfl
theorem jw115 : Cond.selects "[B" ⟨"[B", "clone", "()Ljava/lang/Object;"⟩ ⟨"java/lang/Object", "clone", "()Ljava/lang/Object;"⟩ ∈ WG := WG_of 603 (by decide +kernel) rfl
theorem jw116 : Cond.classLink RJ7 311 "[B" ∈ WG := WG_of 605 (by decide +kernel) rfl
set_option maxRecDepth 20000 in
theorem jw117 : Cond.code yJ7_copyOfRangeByte_39247 cJ7_copyOfRangeByte_39247 5 (some (.array .byte)) ∈ WG := WG_of 743 rfl rfl
theorem jw118 : Cond.methodLink RJ7 339 yJ7_copyOfRangeByte_39247 ∈ WG := WG_of 741 (by decide +kernel) rfl
theorem jw119 : Cond.static yJ7_copyOfRangeByte_39247 ∈ WG := WG_of 742 (by decide +kernel) rfl
theorem jw120 : Cond.methodLink RJ0 1 ⟨"java/lang/Object", "<init>", "()V"⟩ ∈ WG := WG_of 723 (by decide +kernel) rfl
theorem jw121 : Cond.selects RJ4 yJ5_getValue_6d5f1 yJ5_getValue_6d5f1 ∈ WG := WG_of 727 (by decide +kernel) rfl
set_option maxRecDepth 20000 in
theorem jw122 : Cond.code yJ5_getValue_6d5f1 cJ5_getValue_6d5f1 1 (some (.array .byte)) ∈ WG := WG_of 728 rfl rfl
theorem jw123 : Cond.methodLink RJ0 552 yJ5_getValue_6d5f1 ∈ WG := WG_of 724 (by decide +kernel) rfl
theorem jw124 : Cond.sameMethod "java/lang/AbstractStringBuilder" "java/lang/AbstractStringBuilder" "getValue" "()[B" ∈ WG := WG_of 726 (by decide +kernel) rfl
theorem jw125 : Cond.instanceMethod yJ5_getValue_6d5f1 ∈ WG := WG_of 725 (by decide +kernel) rfl
theorem jw126 : Cond.selects RJ4 yJ5_length_8abf5 yJ4_length_8abf5 ∈ WG := WG_of 732 (by decide +kernel) rfl
set_option maxRecDepth 20000 in
theorem jw127 : Cond.code yJ4_length_8abf5 cJ4_length_8abf5 1 (some .int) ∈ WG := WG_of 734 rfl rfl
theorem jw128 : Cond.initialized RJ4 ∈ WG := WG_of 35 (by decide +kernel) rfl
theorem jw129 : Cond.methodLink RJ0 549 yJ5_length_8abf5 ∈ WG := WG_of 729 (by decide +kernel) rfl
theorem jw130 : Cond.instanceMethod yJ4_length_8abf5 ∈ WG := WG_of 733 (by decide +kernel) rfl
theorem jw131 : Cond.methodLink RJ0 1047 yJ5_isLatin1_aae02 ∈ WG := WG_of 737 (by decide +kernel) rfl
set_option maxRecDepth 20000 in
theorem jw132 : Cond.code yJ7_copyOfRange_39247 cJ7_copyOfRange_39247 3 (some (.array .byte)) ∈ WG := WG_of 740 rfl rfl
theorem jw133 : Cond.methodLink RJ0 54 yJ7_copyOfRange_39247 ∈ WG := WG_of 738 (by decide +kernel) rfl
theorem jw134 : Cond.static yJ7_copyOfRange_39247 ∈ WG := WG_of 739 (by decide +kernel) rfl
set_option maxRecDepth 20000 in
theorem jw135 : Cond.code yJ0_init_db425 cJ0_init_db425 5 none ∈ WG := WG_of 722 rfl rfl
theorem jw136 : Cond.methodLink RJ0 489 yJ0_init_db425 ∈ WG := WG_of 720 (by decide +kernel) rfl
theorem jw137 : Cond.instanceMethod yJ0_init_db425 ∈ WG := WG_of 721 (by decide +kernel) rfl
theorem jw138 : Cond.classLink RJ4 18 RJ0 ∈ WG := WG_of 715 (by decide +kernel) rfl
set_option maxRecDepth 20000 in
theorem jw139 : Cond.code yJ0_init_81219 cJ0_init_81219 2 none ∈ WG := WG_of 719 rfl rfl
theorem jw140 : Cond.methodLink RJ4 137 yJ0_init_81219 ∈ WG := WG_of 717 (by decide +kernel) rfl
theorem jw141 : Cond.instanceMethod yJ0_init_81219 ∈ WG := WG_of 718 (by decide +kernel) rfl
set_option maxRecDepth 20000 in
theorem jc_ckl (l : Launch) (D : va_G) (ad : Nat → Nat) {ws : va_W} {tys : List (ClassId × FieldType)} {c : Nat} (hc : c ≤ 300) : Met l yJ7_checkLength_df160 (Cond.code yJ7_checkLength_df160 cJ7_checkLength_df160 2 none :: WG) (k2_rm 0 0) (PcR D ad ws tys [.int (nI 0), .int (nI c)]) (QcVal none) 0 0 (fun _ => False) := by
  refine Met.ofW (cc := cJ7_checkLength_df160) (maxL := 2) (ret := none) (by decide +kernel) rfl ?_
  intro p e s m args below meth c0 s₁ B0 hml hv
  obtain ⟨rfl, hT, hP, hK⟩ := hv
  have hx := B0.exec
  have hb := B0.bytes
  have hr := B0.returns
  have hts0 := atoms_spec (ws := Cond.code yJ7_checkLength_df160 cJ7_checkLength_df160 2 none :: WG) B0.pre
  have hts : ∀ w ∈ WG, w.before ([.int (nI 0), .int (nI c)] : List Value).toArray s = true := fun w hw => hts0 w (List.mem_cons_of_mem _ hw)
  have hown : s.vm.findClass RJ7 = some m.cls := findClass_of_methodNamed B0.named
  have hlocks := B0.notSynchronized
  have hl := lv_entry ([.int (nI 0), .int (nI c)]) (n := 2) (Nat.le_of_ble_eq_true rfl)
  rw [lg_entry_eq]
  generalize (lg_sl ([.int (nI 0), .int (nI c)]) ++ List.replicate (2 - (lg_sl ([.int (nI 0), .int (nI c)])).length) Slot.unset).toArray = ls at hl ⊢
  have hl : lv_has ls 2 [(0, .int (nI 0)), (1, .int (nI c))] := hl
  have hS : va_S (fun _ => False) s.heap s.heap [] := va_S.rf
  refine lv_iload_n hx hb dJ7_checkLength_df160_0 rfl (lv_at hl 1 rfl) ?_
  refine lv_iload_n hx hb dJ7_checkLength_df160_1 rfl (lv_at hl 0 rfl) ?_
  refine lv_icmp_ge (tgt := 37) hx hb dJ7_checkLength_df160_2 (by first | decide | rfl) (fun _ => ?_) (fun q9 => by first | exact absurd q9 (nI_pos' (by omega)) | exact absurd (nI_pos' (by omega)) q9)
  exact W.vret hx hb hr (fun t ht hW => ⟨rfl, ht⟩) hS.2.2 dJ7_checkLength_df160_37

set_option maxRecDepth 20000 in
theorem jc_crb (l : Launch) (D : va_G) (ad : Nat → Nat) {v cp c : Nat} {g : Nat → Int32} {cB : ClassId} {sz : Nat} (hc : c ≤ cp ∧ cp ≤ 300) (hg : FITB g) : Met l yJ7_copyOfRangeByte_39247 (Cond.code yJ7_copyOfRangeByte_39247 cJ7_copyOfRangeByte_39247 5 (some (.array .byte)) :: WG) { frames := 1, cells := 1, slots := 300, locals := 60 } (PcW D ad [(v, .inl (cB, cp, .inl g))] [(cB, .byte)] sz [.ref v, .int (nI 0), .int (nI c)]) (QcW D ([(v, .inl (cB, cp, .inl g))]) sz (fun x ws' tys' => ∃ (v' : Nat) (g' : Nat → Int32) (cA : ClassId), x = some (.ref v') ∧ ws' = [(v, .inl (cB, cp, .inl g))] ++ [(v', .inl (cA, c, .inl g'))] ∧ tys' = [(cB, .byte)] ++ [(cA, .byte)] ∧ FITB g')) 1 300 (va_A ([(v, .inl (cB, cp, .inl g))]) sz) := by
  refine Met.ofW (cc := cJ7_copyOfRangeByte_39247) (maxL := 5) (ret := (some (.array .byte))) (by decide +kernel) rfl ?_
  intro p e s m args below meth c0 s₁ B0 hml hv
  obtain ⟨rfl, hz, hP, hK, hD0, hT, hC⟩ := hv
  have hx := B0.exec
  have hb := B0.bytes
  have hr := B0.returns
  have hts0 := atoms_spec (ws := Cond.code yJ7_copyOfRangeByte_39247 cJ7_copyOfRangeByte_39247 5 (some (.array .byte)) :: WG) B0.pre
  have hts : ∀ w ∈ WG, w.before ([.ref v, .int (nI 0), .int (nI c)] : List Value).toArray s = true := fun w hw => hts0 w (List.mem_cons_of_mem _ hw)
  have hown : s.vm.findClass RJ7 = some m.cls := findClass_of_methodNamed B0.named
  have hlocks := B0.notSynchronized
  have hl := lv_entry ([.ref v, .int (nI 0), .int (nI c)]) (n := 5) (Nat.le_of_ble_eq_true rfl)
  rw [lg_entry_eq]
  generalize (lg_sl ([.ref v, .int (nI 0), .int (nI c)]) ++ List.replicate (5 - (lg_sl ([.ref v, .int (nI 0), .int (nI c)])).length) Slot.unset).toArray = ls at hl ⊢
  have hl : lv_has ls 5 [(0, .ref v), (1, .int (nI 0)), (2, .int (nI c))] := hl
  subst hz
  have hD := hD0.self (sz := s.heap.size)
  have hA : ∀ q, s.heap.size ≤ q → va_A ([(v, .inl (cB, cp, .inl g))]) s.heap.size q := fun q h => Or.inr h
  have hS : va_S (va_A ([(v, .inl (cB, cp, .inl g))]) s.heap.size) s.heap s.heap [] := va_S.rf
  refine lv_iload_n hx hb dJ7_copyOfRangeByte_39247_0 rfl (lv_at hl 1 rfl) ?_
  refine lv_iload_n hx hb dJ7_copyOfRangeByte_39247_1 rfl (lv_at hl 2 rfl) ?_
  refine W_callQ (va_runS (As := [.int (nI 0), .int (nI c)]) (rest := []) (Ts := WG) (own := RJ7) ⟨hx, hb, hml, hown, hts⟩ (jc_ckl l D ad (ws := [(v, .inl (cB, cp, .inl g))]) (tys := [(cB, .byte)]) (c := c) (by omega)) ⟨cb_of (n := 2) hts jw108 jw48 (hts _ jw109) (by decide +kernel) (by decide +kernel) rfl rfl (Nat.le_of_ble_eq_true rfl) (Nat.le_of_ble_eq_true rfl), hts _ jw110⟩ ⟨PcR.blind, fun U hU hW => jpR hT hS hP hK _ U hU hW⟩ rfl rfl hl.1 rfl (lv_room (Nat.le_of_ble_eq_true rfl)) dJ7_copyOfRangeByte_39247_2 ⟨Nat.le_trans (m := 1) (by first | omega | (dsimp only; omega)) (Nat.le_of_ble_eq_true rfl), Nat.le_trans (m := 300) (by first | omega | (dsimp only; omega)) (Nat.le_of_ble_eq_true rfl)⟩).run ?_
  refine lv_iload_n hx hb dJ7_copyOfRangeByte_39247_5 rfl (lv_at hl 2 rfl) ?_
  refine lv_iload_n hx hb dJ7_copyOfRangeByte_39247_6 rfl (lv_at hl 1 rfl) ?_
  refine lv_isub hx hb dJ7_copyOfRangeByte_39247_7 ?_
  rw [pk_sub (Nat.zero_le c), Nat.sub_zero]
  refine lv_istore_n hx hb dJ7_copyOfRangeByte_39247_8 rfl hl (by decide) rfl (fun ls hl => ?_)
  refine lv_iload_n hx hb dJ7_copyOfRangeByte_39247_9 rfl (lv_at hl 0 rfl) ?_
  refine va_newa (atype := .byte) (ty := .byte) (a0 := (c, .inl (fun _ => 0))) hx hb (hts _ am_ar.2.2.2) rfl hK hP hD hS hA (fun cA => rfl) (nI_pos (by omega)) (nI_clamp (by omega)) (Nat.le_trans (Nat.mul_le_mul (show c ≤ 300 by omega) (show componentBytes .byte ≤ 8 from by decide)) (by decide)) (Nat.le_trans (m := 1) (by first | omega | (dsimp only; omega)) (Nat.le_of_ble_eq_true rfl)) (Nat.le_trans (m := 300) (by first | omega | (dsimp only; omega)) (Nat.le_of_ble_eq_true rfl)) dJ7_copyOfRangeByte_39247_10 (fun q0 cA H1 hK hP hD hS => ?_)
  refine lv_astore hx hb dJ7_copyOfRangeByte_39247_12 hl (by decide) rfl (fun ls hl => ?_)
  refine lv_aload_n hx hb dJ7_copyOfRangeByte_39247_14 rfl (lv_at hl 2 rfl) ?_
  refine lv_iload_n hx hb dJ7_copyOfRangeByte_39247_15 rfl (lv_at hl 3 rfl) ?_
  refine lv_aload hx hb dJ7_copyOfRangeByte_39247_16 (lv_at hl 0 rfl) ?_
  refine lv_iconst (v := nI 0) hx hb dJ7_copyOfRangeByte_39247_18 (by decide) ?_
  refine lv_aload_n hx hb dJ7_copyOfRangeByte_39247_19 rfl (lv_at hl 2 rfl) ?_
  refine va_alen hx hb hK hP 0 0 rfl rfl (v := nI cp) rfl dJ7_copyOfRangeByte_39247_20 ?_
  refine lv_iload_n hx hb dJ7_copyOfRangeByte_39247_21 rfl (lv_at hl 3 rfl) ?_
  refine lv_isub hx hb dJ7_copyOfRangeByte_39247_22 ?_
  rw [pk_sub (Nat.zero_le cp), Nat.sub_zero]
  refine lv_iload_n hx hb dJ7_copyOfRangeByte_39247_23 rfl (lv_at hl 1 rfl) ?_
  refine va_mmin hx hb (by rw [hml]; exact hl.1.symm) hown (hts _ jw40) (hts _ am_mn.1) (hts _ am_mn.2.1) (hts _ am_mn.2.2) (Nat.le_of_ble_eq_true rfl) (Nat.le_of_ble_eq_true rfl) (Nat.le_trans (m := 1) (by first | omega | (dsimp only; omega)) (Nat.le_of_ble_eq_true rfl)) (Nat.le_trans (m := 300) (by first | omega | (dsimp only; omega)) (Nat.le_of_ble_eq_true rfl)) dJ7_copyOfRangeByte_39247_24 ?_
  first | rw [mnl hc.1 hc.2] | rw [if_neg (nI_nlt hc.1 (by omega))]
  refine va_copyi hx hb (by rw [hml]; exact hl.1.symm) hown (hts _ jw41) (hts _ am_ac.2.2) (hts _ am_ac.1) (hts _ am_ac.2.1) hK hP hD hS 0 1 0 1 rfl rfl rfl rfl rfl (by decide) (by decide) (nI_pos (by omega)) (by (first | rw [z0c] | rw [z0d]); rw [nI_clamp (by omega)]; omega) (by (first | rw [z0c] | rw [z0d]); rw [nI_clamp (by omega)]; omega) (fun i _ => hg _) (Nat.le_of_ble_eq_true rfl) (Nat.le_of_ble_eq_true rfl) dJ7_copyOfRangeByte_39247_27 (fun H1 locs1 hP hD hS => ?_)
  refine lv_aload hx hb dJ7_copyOfRangeByte_39247_30 (lv_at hl 0 rfl) ?_
  refine W.widen (k := 1) (n := 300) (by first | omega | (dsimp only; omega)) (by first | omega | (dsimp only; omega)) ?_
  exact W.aret hx hb hr (by first | exact Or.inl ⟨_, rfl⟩ | exact Or.inr ⟨_, rfl⟩) (Or.inr ⟨_, rfl⟩) (fun t9 ht hW => ⟨⟨(some (.ref q0)), _, _, rfl, ⟨q0, va_cpy g (fun _ => 0) (nI 0).toNatClampNeg (nI 0).toNatClampNeg (nI c).toNatClampNeg, cA, rfl, rfl, rfl, FITB_cpy hg FITB_0⟩, by rw [ht]; exact hP.sub [0, 1] rfl, va_K.moved hW.alike hK, hD.sub [0, 1] rfl rfl⟩, hS.F ht⟩) hS.2.2 dJ7_copyOfRangeByte_39247_32

set_option maxRecDepth 20000 in
theorem jc_cr (l : Launch) (D : va_G) (ad : Nat → Nat) {v cp c : Nat} {g : Nat → Int32} {cB : ClassId} {sz : Nat} (hc : c ≤ cp ∧ cp ≤ 300) (hg : FITB g) : Met l yJ7_copyOfRange_39247 (Cond.code yJ7_copyOfRange_39247 cJ7_copyOfRange_39247 3 (some (.array .byte)) :: WG) { frames := 2, cells := 1, slots := 300, locals := 110 } (PcW D ad [(v, .inl (cB, cp, .inl g))] [(cB, .byte)] sz [.ref v, .int (nI 0), .int (nI c)]) (QcW D ([(v, .inl (cB, cp, .inl g))]) sz (fun x ws' tys' => ∃ (v' : Nat) (g' : Nat → Int32) (cA : ClassId), x = some (.ref v') ∧ ws' = [(v, .inl (cB, cp, .inl g))] ++ [(v', .inl (cA, c, .inl g'))] ∧ tys' = [(cB, .byte)] ++ [(cA, .byte)] ∧ FITB g')) 1 300 (va_A ([(v, .inl (cB, cp, .inl g))]) sz) := by
  refine Met.ofW (cc := cJ7_copyOfRange_39247) (maxL := 3) (ret := (some (.array .byte))) (by decide +kernel) rfl ?_
  intro p e s m args below meth c0 s₁ B0 hml hv
  obtain ⟨rfl, hz, hP, hK, hD0, hT, hC⟩ := hv
  have hx := B0.exec
  have hb := B0.bytes
  have hr := B0.returns
  have hts0 := atoms_spec (ws := Cond.code yJ7_copyOfRange_39247 cJ7_copyOfRange_39247 3 (some (.array .byte)) :: WG) B0.pre
  have hts : ∀ w ∈ WG, w.before ([.ref v, .int (nI 0), .int (nI c)] : List Value).toArray s = true := fun w hw => hts0 w (List.mem_cons_of_mem _ hw)
  have hown : s.vm.findClass RJ7 = some m.cls := findClass_of_methodNamed B0.named
  have hlocks := B0.notSynchronized
  have hl := lv_entry ([.ref v, .int (nI 0), .int (nI c)]) (n := 3) (Nat.le_of_ble_eq_true rfl)
  rw [lg_entry_eq]
  generalize (lg_sl ([.ref v, .int (nI 0), .int (nI c)]) ++ List.replicate (3 - (lg_sl ([.ref v, .int (nI 0), .int (nI c)])).length) Slot.unset).toArray = ls at hl ⊢
  have hl : lv_has ls 3 [(0, .ref v), (1, .int (nI 0)), (2, .int (nI c))] := hl
  subst hz
  have hD := hD0.self (sz := s.heap.size)
  have hA : ∀ q, s.heap.size ≤ q → va_A ([(v, .inl (cB, cp, .inl g))]) s.heap.size q := fun q h => Or.inr h
  have hS : va_S (va_A ([(v, .inl (cB, cp, .inl g))]) s.heap.size) s.heap s.heap [] := va_S.rf
  refine lv_iload_n hx hb dJ7_copyOfRange_39247_0 rfl (lv_at hl 1 rfl) ?_
  refine lv_if_ne (tgt := 10) hx hb dJ7_copyOfRange_39247_1 (by first | decide | rfl) (fun q9 => absurd q9 (fun z => z rfl)) (fun _ => ?_)
  refine lv_iload_n hx hb dJ7_copyOfRange_39247_4 rfl (lv_at hl 2 rfl) ?_
  refine lv_aload_n hx hb dJ7_copyOfRange_39247_5 rfl (lv_at hl 0 rfl) ?_
  refine va_alen hx hb hK hP 0 0 rfl rfl (v := nI cp) rfl dJ7_copyOfRange_39247_6 ?_
  by_cases hz : cp = c
  · refine lv_icmp_eq (tgt := 17) hx hb dJ7_copyOfRange_39247_7 (by first | decide | rfl) (fun _ => ?_) (fun q9 => by first | exact absurd q9 ((congrArg nI hz.symm : nI c = nI cp)) | exact absurd ((congrArg nI hz.symm : nI c = nI cp)) q9)
    refine lv_aload_n hx hb dJ7_copyOfRange_39247_17 rfl (lv_at hl 0 rfl) ?_
    refine va_clone (ad := "[B") hx hb (by rw [hml]; exact hl.1.symm) hown (hts _ jw111) (hts _ jw112) (hts _ jw113) (hts _ jw114) (hts _ jw115) hC hK hP hD hS hA 0 0 rfl rfl (hK.2 0 _ rfl).2 (cl_fit hg) (Nat.le_of_ble_eq_true rfl) (Nat.le_of_ble_eq_true rfl) (Nat.le_trans (m := 1) (by first | omega | (dsimp only; omega)) (Nat.le_of_ble_eq_true rfl)) (Nat.le_trans (m := 300) (by first | omega | (dsimp only; omega)) (Nat.le_of_ble_eq_true rfl)) dJ7_copyOfRange_39247_18 (fun q0 H1 hK hP hD hS => ?_)
    refine va_castA (nm := "[B") hx hb hown (hts _ jw116) hP 1 rfl (hK.2 0 _ rfl).2 dJ7_copyOfRange_39247_21 ?_
    refine W.widen (k := 1) (n := 300) (by first | omega | (dsimp only; omega)) (by first | omega | (dsimp only; omega)) ?_
    exact W.aret hx hb hr (by first | exact Or.inl ⟨_, rfl⟩ | exact Or.inr ⟨_, rfl⟩) (Or.inr ⟨_, rfl⟩) (fun t9 ht hW => ⟨⟨(some (.ref q0)), _, _, rfl, ⟨q0, g, cB, rfl, by rw [← hz], rfl, hg⟩, by rw [ht]; exact hP.sub [0, 1] rfl, va_K.moved hW.alike hK, hD.sub [0, 1] rfl rfl⟩, hS.F ht⟩) hS.2.2 dJ7_copyOfRange_39247_24
  · refine lv_icmp_eq (tgt := 17) hx hb dJ7_copyOfRange_39247_7 (by first | decide | rfl) (fun q9 => absurd q9 (fun z => hz ((nI_eq (by omega) (by omega)).mp z.symm))) (fun _ => ?_)
    refine lv_aload_n hx hb dJ7_copyOfRange_39247_10 rfl (lv_at hl 0 rfl) ?_
    refine lv_iload_n hx hb dJ7_copyOfRange_39247_11 rfl (lv_at hl 1 rfl) ?_
    refine lv_iload_n hx hb dJ7_copyOfRange_39247_12 rfl (lv_at hl 2 rfl) ?_
    refine j_call (ws := [(v, .inl (cB, cp, .inl g))]) (pl := []) (va_runS (As := [.ref v, .int (nI 0), .int (nI c)]) (rest := []) (Ts := WG) (own := RJ7) ⟨hx, hb, hml, hown, hts⟩ (jc_crb l D ad (cB := cB) hc hg) ⟨cb_of (n := 3) hts jw117 jw48 (hts _ jw118) (by decide +kernel) (by decide +kernel) rfl rfl (Nat.le_of_ble_eq_true rfl) (Nat.le_of_ble_eq_true rfl), hts _ jw119⟩ ⟨PcW.blind, fun U hU hW => jpW (ws := [(v, .inl (cB, cp, .inl g))]) (pl := []) hT hC hS hA hP hD hK _ U hU hW⟩ rfl rfl hl.1 rfl (lv_room (Nat.le_of_ble_eq_true rfl)) dJ7_copyOfRange_39247_13 ⟨Nat.le_trans (m := 1) (by first | omega | (dsimp only; omega)) (Nat.le_of_ble_eq_true rfl), Nat.le_trans (m := 300) (by first | omega | (dsimp only; omega)) (Nat.le_of_ble_eq_true rfl)⟩) hP hD hS hA (fun x9 ws9 tys9 H1 locs1 hφ hP hD hK hS => ?_)
    obtain ⟨v1, g1, cA, rfl, rfl, rfl, hg1⟩ := hφ
    refine W.widen (k := 1) (n := 300) (by first | omega | (dsimp only; omega)) (by first | omega | (dsimp only; omega)) ?_
    exact W.aret hx hb hr (by first | exact Or.inl ⟨_, rfl⟩ | exact Or.inr ⟨_, rfl⟩) (Or.inr ⟨_, rfl⟩) (fun t9 ht hW => ⟨⟨(some (.ref v1)), _, _, rfl, ⟨v1, g1, cA, rfl, rfl, rfl, hg1⟩, by rw [ht]; exact hP.sub [0, 1] rfl, va_K.moved hW.alike hK, hD.sub [0, 1] rfl rfl⟩, hS.F ht⟩) hS.2.2 dJ7_copyOfRange_39247_16

set_option maxRecDepth 20000 in
theorem jt_init2 (l : Launch) (D : va_G) (ad : Nat → Nat) {b v c cp t : Nat} {g : Nat → Int32} {cB : ClassId} {sz : Nat} (hc : c ≤ cp ∧ cp ≤ 300) (hg : FITB g) : Met l yJ0_init_db425 (Cond.code yJ0_init_db425 cJ0_init_db425 5 none :: WG) { frames := 3, cells := 1, slots := 300, locals := 160 } (PcW D ad [(b, .inr (8, [.ref v, .int 0, .int 0, .int (nI c)])), (v, .inl (cB, cp, .inl g)), (t, .inr (7, [.null, .int 0, .int 0, .int 0]))] [(cB, .byte)] sz [.ref t, .ref b, .null]) (QcW D ([(b, .inr (8, [.ref v, .int 0, .int 0, .int (nI c)])), (v, .inl (cB, cp, .inl g)), (t, .inr (7, [.null, .int 0, .int 0, .int 0]))]) sz (fun x ws' tys' => x = none ∧ ∃ (v' : Nat) (g' : Nat → Int32) (cA : ClassId), ws' = SVX t v' c g' cA ∧ tys' = [(cA, .byte)] ∧ FITB g')) 1 300 (va_A ([(b, .inr (8, [.ref v, .int 0, .int 0, .int (nI c)])), (v, .inl (cB, cp, .inl g)), (t, .inr (7, [.null, .int 0, .int 0, .int 0]))]) sz) := by
  refine Met.ofW (cc := cJ0_init_db425) (maxL := 5) (ret := none) (by decide +kernel) rfl ?_
  intro p e s m args below meth c0 s₁ B0 hml hv
  obtain ⟨rfl, hz, hP, hK, hD0, hT, hC⟩ := hv
  have hx := B0.exec
  have hb := B0.bytes
  have hr := B0.returns
  have hts0 := atoms_spec (ws := Cond.code yJ0_init_db425 cJ0_init_db425 5 none :: WG) B0.pre
  have hts : ∀ w ∈ WG, w.before ([.ref t, .ref b, .null] : List Value).toArray s = true := fun w hw => hts0 w (List.mem_cons_of_mem _ hw)
  have hown : s.vm.findClass RJ0 = some m.cls := findClass_of_methodNamed B0.named
  have hlocks := B0.notSynchronized
  have hl := lv_entry ([.ref t, .ref b, .null]) (n := 5) (Nat.le_of_ble_eq_true rfl)
  rw [lg_entry_eq]
  generalize (lg_sl ([.ref t, .ref b, .null]) ++ List.replicate (5 - (lg_sl ([.ref t, .ref b, .null])).length) Slot.unset).toArray = ls at hl ⊢
  have hl : lv_has ls 5 [(0, .ref t), (1, .ref b), (2, .null)] := hl
  subst hz
  have hD := hD0.self (sz := s.heap.size)
  have hA : ∀ q, s.heap.size ≤ q → va_A ([(b, .inr (8, [.ref v, .int 0, .int 0, .int (nI c)])), (v, .inl (cB, cp, .inl g)), (t, .inr (7, [.null, .int 0, .int 0, .int 0]))]) s.heap.size q := fun q h => Or.inr h
  have hS : va_S (va_A ([(b, .inr (8, [.ref v, .int 0, .int 0, .int (nI c)])), (v, .inl (cB, cp, .inl g)), (t, .inr (7, [.null, .int 0, .int 0, .int 0]))]) s.heap.size) s.heap s.heap [] := va_S.rf
  refine lv_aload_n hx hb dJ0_init_db425_0 rfl (lv_at hl 0 rfl) ?_
  refine W.objInit (g := F0 m 1 ls [.ref t]) hx hb hown (hts _ jw120) (hts _ am_oi.1) (hts _ am_oi.2) rfl (by rw [hml]; exact hl.1) rfl dJ0_init_db425_1 (Nat.le_of_ble_eq_true rfl) (Nat.le_of_ble_eq_true rfl) ?_
  refine lv_aload_n hx hb dJ0_init_db425_4 rfl (lv_at hl 1 rfl) ?_
  refine W_callQ (va_runU (As := []) (rest := []) (b := b) (Ts := WG) (own := RJ0) (C := RJ4) ⟨hx, hb, hml, hown, hts⟩ (jb_value l D ad (ws := [(b, .inr (8, [.ref v, .int 0, .int 0, .int (nI c)])), (v, .inl (cB, cp, .inl g)), (t, .inr (7, [.null, .int 0, .int 0, .int 0]))]) (tys := [(cB, .byte)]) rfl) (cu_of (owner := RJ5) (n := 0) hts jw122 jw5 jw123 jw124 jw125 jw122 jw121 jw125 (by decide +kernel) (by decide +kernel) rfl rfl (Nat.le_of_ble_eq_true rfl) (Nat.le_of_ble_eq_true rfl)) ⟨PcR.blind, bd_recv (i := 0) hK hP rfl, fun U hU hW => jpR hT hS hP hK _ U hU hW⟩ rfl rfl hl.1 rfl (lv_room (Nat.le_of_ble_eq_true rfl)) dJ0_init_db425_5 ⟨Nat.le_trans (m := 1) (by first | omega | (dsimp only; omega)) (Nat.le_of_ble_eq_true rfl), Nat.le_trans (m := 300) (by first | omega | (dsimp only; omega)) (Nat.le_of_ble_eq_true rfl)⟩).run ?_
  refine lv_astore_n hx hb dJ0_init_db425_8 rfl hl (by decide) rfl (fun ls hl => ?_)
  refine lv_aload_n hx hb dJ0_init_db425_9 rfl (lv_at hl 2 rfl) ?_
  refine W_callQ (va_runU (As := []) (rest := []) (b := b) (Ts := WG) (own := RJ0) (C := RJ4) ⟨hx, hb, hml, hown, hts⟩ (jb_len4 l D ad (ws := [(b, .inr (8, [.ref v, .int 0, .int 0, .int (nI c)])), (v, .inl (cB, cp, .inl g)), (t, .inr (7, [.null, .int 0, .int 0, .int 0]))]) (tys := [(cB, .byte)]) rfl) (cu_of (owner := RJ5) (n := 0) hts jw127 jw128 jw129 jw7 jw9 jw4 jw126 jw130 (by decide +kernel) (by decide +kernel) rfl rfl (Nat.le_of_ble_eq_true rfl) (Nat.le_of_ble_eq_true rfl)) ⟨PcR.blind, bd_recv (i := 0) hK hP rfl, fun U hU hW => jpR hT hS hP hK _ U hU hW⟩ rfl rfl hl.1 rfl (lv_room (Nat.le_of_ble_eq_true rfl)) dJ0_init_db425_10 ⟨Nat.le_trans (m := 1) (by first | omega | (dsimp only; omega)) (Nat.le_of_ble_eq_true rfl), Nat.le_trans (m := 300) (by first | omega | (dsimp only; omega)) (Nat.le_of_ble_eq_true rfl)⟩).run ?_
  refine lv_istore hx hb dJ0_init_db425_13 hl (by decide) rfl (fun ls hl => ?_)
  refine lv_aload_n hx hb dJ0_init_db425_15 rfl (lv_at hl 3 rfl) ?_
  refine W_callQ (va_runU (As := []) (rest := []) (b := b) (Ts := WG) (own := RJ0) (C := RJ4) ⟨hx, hb, hml, hown, hts⟩ (jb_isLatin1 l D ad (ws := [(b, .inr (8, [.ref v, .int 0, .int 0, .int (nI c)])), (v, .inl (cB, cp, .inl g)), (t, .inr (7, [.null, .int 0, .int 0, .int 0]))]) (tys := [(cB, .byte)]) rfl) (cu_of (owner := RJ5) (n := 0) hts jw86 jw5 jw131 jw88 jw89 jw86 jw85 jw89 (by decide +kernel) (by decide +kernel) rfl rfl (Nat.le_of_ble_eq_true rfl) (Nat.le_of_ble_eq_true rfl)) ⟨PcR.blind, bd_recv (i := 0) hK hP rfl, fun U hU hW => jpR hT hS hP hK _ U hU hW⟩ rfl rfl hl.1 rfl (lv_room (Nat.le_of_ble_eq_true rfl)) dJ0_init_db425_16 ⟨Nat.le_trans (m := 1) (by first | omega | (dsimp only; omega)) (Nat.le_of_ble_eq_true rfl), Nat.le_trans (m := 300) (by first | omega | (dsimp only; omega)) (Nat.le_of_ble_eq_true rfl)⟩).run ?_
  refine lv_if_eq (tgt := 41) hx hb dJ0_init_db425_19 (by first | decide | rfl) (fun q9 => absurd q9 (by decide)) (fun _ => ?_)
  refine lv_aload_n hx hb dJ0_init_db425_22 rfl (lv_at hl 2 rfl) ?_
  refine lv_iconst (v := nI 0) hx hb dJ0_init_db425_23 (by decide) ?_
  refine va_putF (C := RJ0) (T := TJ0) (N := 4) hx hb hts uwJ0 tyJ0 tyJ0_ok nmJ0 hown hK hP hD hS 2 rfl rfl 1 (by decide) (hts _ jw21) (fun _ h => h) rfl (by rw [(name_of_methodNamed B0.named B0.method).1]; rfl) rfl (ty := tyJ0 1) (tyJ0_ok 1 (by decide)) rfl rfl (by show 1 < 4; decide) dJ0_init_db425_24 (fun H1 locs1 hP hD hS => ?_)
  refine lv_aload_n hx hb dJ0_init_db425_27 rfl (lv_at hl 2 rfl) ?_
  refine lv_aload_n hx hb dJ0_init_db425_28 rfl (lv_at hl 1 rfl) ?_
  refine lv_iconst (v := nI 0) hx hb dJ0_init_db425_29 (by decide) ?_
  refine lv_iload hx hb dJ0_init_db425_30 (lv_at hl 0 rfl) ?_
  replace hP : va_P D vwCl ([(v, .inl (cB, cp, .inl g)), (b, .inr (8, [.ref v, .int 0, .int 0, .int (nI c)])), (t, .inr (7, [.null, .int 0, .int 0, .int 0]))]) _ := hP.sub [1, 0, 2] rfl
  replace hD : va_D _ ([(v, .inl (cB, cp, .inl g)), (b, .inr (8, [.ref v, .int 0, .int 0, .int (nI c)])), (t, .inr (7, [.null, .int 0, .int 0, .int 0]))]) := hD.sub [1, 0, 2] rfl rfl
  refine j_call (ws := [(v, .inl (cB, cp, .inl g))]) (pl := [(b, .inr (8, [.ref v, .int 0, .int 0, .int (nI c)])), (t, .inr (7, [.null, .int 0, .int 0, .int 0]))]) (va_runS (As := [.ref v, .int (nI 0), .int (nI c)]) (rest := [.ref t]) (Ts := WG) (own := RJ0) ⟨hx, hb, hml, hown, hts⟩ (jc_cr l D ad (cB := cB) hc hg) ⟨cb_of (n := 3) hts jw132 jw48 (hts _ jw133) (by decide +kernel) (by decide +kernel) rfl rfl (Nat.le_of_ble_eq_true rfl) (Nat.le_of_ble_eq_true rfl), hts _ jw134⟩ ⟨PcW.blind, fun U hU hW => jpW (ws := [(v, .inl (cB, cp, .inl g))]) (pl := [(b, .inr (8, [.ref v, .int 0, .int 0, .int (nI c)])), (t, .inr (7, [.null, .int 0, .int 0, .int 0]))]) hT hC hS hA hP hD hK _ U hU hW⟩ rfl rfl hl.1 rfl (lv_room (Nat.le_of_ble_eq_true rfl)) dJ0_init_db425_32 ⟨Nat.le_trans (m := 1) (by first | omega | (dsimp only; omega)) (Nat.le_of_ble_eq_true rfl), Nat.le_trans (m := 300) (by first | omega | (dsimp only; omega)) (Nat.le_of_ble_eq_true rfl)⟩) hP hD hS hA (fun x9 ws9 tys9 H1 locs1 hφ hP hD hK hS => ?_)
  obtain ⟨v1, g1, cA, rfl, rfl, rfl, hg1⟩ := hφ
  refine va_putF (C := RJ0) (T := TJ0) (N := 4) hx hb hts uwJ0 tyJ0 tyJ0_ok nmJ0 hown hK hP hD hS 3 rfl rfl 0 (by decide) (hts _ jw22) (fun _ h => h) rfl (by rw [(name_of_methodNamed B0.named B0.method).1]; rfl) rfl (ty := tyJ0 0) (tyJ0_ok 0 (by decide)) rfl rfl (by show 0 < 4; decide) dJ0_init_db425_35 (fun H1 locs1 hP hD hS => ?_)
  refine lv_goto (tgt := 97) hx hb dJ0_init_db425_38 (by first | decide | rfl) ?_
  refine W.widen (k := 1) (n := 300) (by first | omega | (dsimp only; omega)) (by first | omega | (dsimp only; omega)) ?_
  exact W.vret hx hb hr (fun t9 ht hW => ⟨⟨none, _, _, rfl, ⟨rfl, v1, g1, cA, rfl, rfl, hg1⟩, by rw [ht]; exact hP.sub [3, 1] rfl, va_K.moved hW.alike (hK.sub [1] rfl), hD.sub [3, 1] rfl rfl⟩, hS.F ht⟩) hS.2.2 dJ0_init_db425_97

set_option maxRecDepth 20000 in
theorem jt_init1 (l : Launch) (D : va_G) (ad : Nat → Nat) {b v c cp t : Nat} {g : Nat → Int32} {cB : ClassId} {sz : Nat} (hc : c ≤ cp ∧ cp ≤ 300) (hg : FITB g) : Met l yJ0_init_81219 (Cond.code yJ0_init_81219 cJ0_init_81219 2 none :: WG) { frames := 4, cells := 1, slots := 300, locals := 200 } (PcW D ad [(b, .inr (8, [.ref v, .int 0, .int 0, .int (nI c)])), (v, .inl (cB, cp, .inl g)), (t, .inr (7, [.null, .int 0, .int 0, .int 0]))] [(cB, .byte)] sz [.ref t, .ref b]) (QcW D ([(b, .inr (8, [.ref v, .int 0, .int 0, .int (nI c)])), (v, .inl (cB, cp, .inl g)), (t, .inr (7, [.null, .int 0, .int 0, .int 0]))]) sz (fun x ws' tys' => x = none ∧ ∃ (v' : Nat) (g' : Nat → Int32) (cA : ClassId), ws' = SVX t v' c g' cA ∧ tys' = [(cA, .byte)] ∧ FITB g')) 1 300 (va_A ([(b, .inr (8, [.ref v, .int 0, .int 0, .int (nI c)])), (v, .inl (cB, cp, .inl g)), (t, .inr (7, [.null, .int 0, .int 0, .int 0]))]) sz) := by
  refine Met.ofW (cc := cJ0_init_81219) (maxL := 2) (ret := none) (by decide +kernel) rfl ?_
  intro p e s m args below meth c0 s₁ B0 hml hv
  obtain ⟨rfl, hz, hP, hK, hD0, hT, hC⟩ := hv
  have hx := B0.exec
  have hb := B0.bytes
  have hr := B0.returns
  have hts0 := atoms_spec (ws := Cond.code yJ0_init_81219 cJ0_init_81219 2 none :: WG) B0.pre
  have hts : ∀ w ∈ WG, w.before ([.ref t, .ref b] : List Value).toArray s = true := fun w hw => hts0 w (List.mem_cons_of_mem _ hw)
  have hown : s.vm.findClass RJ0 = some m.cls := findClass_of_methodNamed B0.named
  have hlocks := B0.notSynchronized
  have hl := lv_entry ([.ref t, .ref b]) (n := 2) (Nat.le_of_ble_eq_true rfl)
  rw [lg_entry_eq]
  generalize (lg_sl ([.ref t, .ref b]) ++ List.replicate (2 - (lg_sl ([.ref t, .ref b])).length) Slot.unset).toArray = ls at hl ⊢
  have hl : lv_has ls 2 [(0, .ref t), (1, .ref b)] := hl
  subst hz
  have hD := hD0.self (sz := s.heap.size)
  have hA : ∀ q, s.heap.size ≤ q → va_A ([(b, .inr (8, [.ref v, .int 0, .int 0, .int (nI c)])), (v, .inl (cB, cp, .inl g)), (t, .inr (7, [.null, .int 0, .int 0, .int 0]))]) s.heap.size q := fun q h => Or.inr h
  have hS : va_S (va_A ([(b, .inr (8, [.ref v, .int 0, .int 0, .int (nI c)])), (v, .inl (cB, cp, .inl g)), (t, .inr (7, [.null, .int 0, .int 0, .int 0]))]) s.heap.size) s.heap s.heap [] := va_S.rf
  refine lv_aload_n hx hb dJ0_init_81219_0 rfl (lv_at hl 0 rfl) ?_
  refine lv_aload_n hx hb dJ0_init_81219_1 rfl (lv_at hl 1 rfl) ?_
  refine lv_null hx hb dJ0_init_81219_2 ?_
  refine j_call (ws := [(b, .inr (8, [.ref v, .int 0, .int 0, .int (nI c)])), (v, .inl (cB, cp, .inl g)), (t, .inr (7, [.null, .int 0, .int 0, .int 0]))]) (pl := []) (va_runI (As := [.ref b, .null]) (rest := []) (b := t) (Ts := WG) (own := RJ0) ⟨hx, hb, hml, hown, hts⟩ (jt_init2 l D ad hc hg) ⟨cb_of (n := 2) hts jw135 jw24 (hts _ jw136) (by decide +kernel) (by decide +kernel) rfl rfl (Nat.le_of_ble_eq_true rfl) (Nat.le_of_ble_eq_true rfl), rfl, hts _ jw137⟩ ⟨PcW.blind, fun U hU hW => jpW (ws := [(b, .inr (8, [.ref v, .int 0, .int 0, .int (nI c)])), (v, .inl (cB, cp, .inl g)), (t, .inr (7, [.null, .int 0, .int 0, .int 0]))]) (pl := []) hT hC hS hA hP hD hK _ U hU hW⟩ rfl rfl hl.1 rfl (lv_room (Nat.le_of_ble_eq_true rfl)) dJ0_init_81219_3 ⟨Nat.le_trans (m := 1) (by first | omega | (dsimp only; omega)) (Nat.le_of_ble_eq_true rfl), Nat.le_trans (m := 300) (by first | omega | (dsimp only; omega)) (Nat.le_of_ble_eq_true rfl)⟩) hP hD hS hA (fun x9 ws9 tys9 H1 locs1 hφ hP hD hK hS => ?_)
  obtain ⟨rfl, v1, g1, cA, rfl, rfl, hg1⟩ := hφ
  refine W.widen (k := 1) (n := 300) (by first | omega | (dsimp only; omega)) (by first | omega | (dsimp only; omega)) ?_
  exact W.vret hx hb hr (fun t9 ht hW => ⟨⟨none, _, _, rfl, ⟨rfl, v1, g1, cA, rfl, rfl, hg1⟩, by rw [ht]; exact hP.sub [0, 1] rfl, va_K.moved hW.alike hK, hD.sub [0, 1] rfl rfl⟩, hS.F ht⟩) hS.2.2 dJ0_init_81219_6

set_option maxRecDepth 20000 in
theorem js_toS (l : Launch) (D : va_G) (ad : Nat → Nat) {b v c cp : Nat} {g : Nat → Int32} {cB : ClassId} {sz : Nat} (hc : c ≤ cp ∧ cp ≤ 300) (hg : FITB g) : Met l yJ4_toString_0e30d (Cond.code yJ4_toString_0e30d cJ4_toString_0e30d 1 (some (.object "java/lang/String")) :: WG) { frames := 5, cells := 2, slots := 304, locals := 240 } (PcW D ad (SBX b v c cp g cB) [(cB, .byte)] sz [.ref b]) (QcW D (SBX b v c cp g cB) sz (TQ (fun t => some (.ref t)) c)) 2 304 (va_A (SBX b v c cp g cB) sz) := by
  refine Met.ofW (cc := cJ4_toString_0e30d) (maxL := 1) (ret := (some (.object "java/lang/String"))) (by decide +kernel) rfl ?_
  intro p e s m args below meth c0 s₁ B0 hml hv
  obtain ⟨rfl, hz, hP, hK, hD0, hT, hC⟩ := hv
  have hx := B0.exec
  have hb := B0.bytes
  have hr := B0.returns
  have hts0 := atoms_spec (ws := Cond.code yJ4_toString_0e30d cJ4_toString_0e30d 1 (some (.object "java/lang/String")) :: WG) B0.pre
  have hts : ∀ w ∈ WG, w.before ([.ref b] : List Value).toArray s = true := fun w hw => hts0 w (List.mem_cons_of_mem _ hw)
  have hown : s.vm.findClass RJ4 = some m.cls := findClass_of_methodNamed B0.named
  have hlocks := B0.notSynchronized
  have hl := lv_entry ([.ref b]) (n := 1) (Nat.le_of_ble_eq_true rfl)
  rw [lg_entry_eq]
  generalize (lg_sl ([.ref b]) ++ List.replicate (1 - (lg_sl ([.ref b])).length) Slot.unset).toArray = ls at hl ⊢
  have hl : lv_has ls 1 [(0, .ref b)] := hl
  subst hz
  have hD := hD0.self (sz := s.heap.size)
  have hA : ∀ q, s.heap.size ≤ q → va_A (SBX b v c cp g cB) s.heap.size q := fun q h => Or.inr h
  have hS : va_S (va_A (SBX b v c cp g cB) s.heap.size) s.heap s.heap [] := va_S.rf
  refine va_new (C := RJ0) (T := TJ0) (N := 4) (ci := 7) hx hb hts uwJ0 tyJ0 tyJ0_ok hown (hts _ jw138) (hts _ isJ0) (hts _ inJ0) hK hP hD hS hA rfl (fs := [.null, .int 0, .int 0, .int 0]) dvJ0 (Nat.le_trans (m := 2) (by first | omega | (dsimp only; omega)) (Nat.le_of_ble_eq_true rfl)) (Nat.le_trans (m := 304) (by first | omega | (dsimp only; omega)) (Nat.le_of_ble_eq_true rfl)) dJ4_toString_0e30d_0 (fun t H1 hP hD hS => ?_)
  refine lv_dup hx hb dJ4_toString_0e30d_3 rfl ?_
  refine lv_aload_n hx hb dJ4_toString_0e30d_4 rfl (lv_at hl 0 rfl) ?_
  replace hP : va_P D vwCl ([(b, .inr (8, [.ref v, .int 0, .int 0, .int (nI c)])), (v, .inl (cB, cp, .inl g)), (t, .inr (7, [.null, .int 0, .int 0, .int 0]))]) _ := hP
  replace hD : va_D _ ([(b, .inr (8, [.ref v, .int 0, .int 0, .int (nI c)])), (v, .inl (cB, cp, .inl g)), (t, .inr (7, [.null, .int 0, .int 0, .int 0]))]) := hD
  refine j_call (ws := [(b, .inr (8, [.ref v, .int 0, .int 0, .int (nI c)])), (v, .inl (cB, cp, .inl g)), (t, .inr (7, [.null, .int 0, .int 0, .int 0]))]) (pl := []) (va_runI (As := [.ref b]) (rest := [.ref t]) (b := t) (Ts := WG) (own := RJ4) ⟨hx, hb, hml, hown, hts⟩ (jt_init1 l D ad hc hg) ⟨cb_of (n := 1) hts jw139 jw24 (hts _ jw140) (by decide +kernel) (by decide +kernel) rfl rfl (Nat.le_of_ble_eq_true rfl) (Nat.le_of_ble_eq_true rfl), rfl, hts _ jw141⟩ ⟨PcW.blind, fun U hU hW => jpW (ws := [(b, .inr (8, [.ref v, .int 0, .int 0, .int (nI c)])), (v, .inl (cB, cp, .inl g)), (t, .inr (7, [.null, .int 0, .int 0, .int 0]))]) (pl := []) hT hC hS hA hP hD hK _ U hU hW⟩ rfl rfl hl.1 rfl (lv_room (Nat.le_of_ble_eq_true rfl)) dJ4_toString_0e30d_5 ⟨Nat.le_trans (m := 2) (by first | omega | (dsimp only; omega)) (Nat.le_of_ble_eq_true rfl), Nat.le_trans (m := 304) (by first | omega | (dsimp only; omega)) (Nat.le_of_ble_eq_true rfl)⟩) hP hD hS hA (fun x9 ws9 tys9 H1 locs1 hφ hP hD hK hS => ?_)
  obtain ⟨rfl, v1, g1, cA, rfl, rfl, hg1⟩ := hφ
  refine W.widen (k := 2) (n := 304) (by first | omega | (dsimp only; omega)) (by first | omega | (dsimp only; omega)) ?_
  exact W.aret hx hb hr (by first | exact Or.inl ⟨_, rfl⟩ | exact Or.inr ⟨_, rfl⟩) (Or.inr ⟨_, rfl⟩) (fun t9 ht hW => ⟨⟨(some (.ref t)), _, _, rfl, ⟨t, v1, g1, cA, rfl, rfl, rfl, hg1⟩, by rw [ht]; exact hP.sub [0, 1] rfl, va_K.moved hW.alike hK, hD.sub [0, 1] rfl rfl⟩, hS.F ht⟩) hS.2.2 dJ4_toString_0e30d_8

