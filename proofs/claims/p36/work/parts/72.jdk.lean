theorem nI_dle {q m : Nat} (h : q ≤ m) (hm : m ≤ 300) : nI q - nI m ≤ 0 := by
  apply Int32.le_iff_toInt_le.mpr
  rw [Int32.toInt_sub, nI_toInt (by omega), nI_toInt (by omega), show (0 : Int32).toInt = 0 from rfl, Int.bmod_eq_of_le (by omega) (by omega)]
  omega
theorem NC_b {cp q : Nat} (h : cp < q) (hq : q ≤ 149) : cp < NC cp q ∧ NC cp q ≤ 300 ∧ q ≤ NC cp q := by
  unfold NC
  split <;> omega
theorem dJ5_ensureCapacityInternal_d00df_0 : decode cJ5_ensureCapacityInternal_d00df 0 = .ok (.aload_n 0, 1) := by decide +kernel
theorem dJ5_ensureCapacityInternal_d00df_1 : decode cJ5_ensureCapacityInternal_d00df 1 = .ok (.getfield 15, 3) := by decide +kernel
theorem dJ5_ensureCapacityInternal_d00df_4 : decode cJ5_ensureCapacityInternal_d00df 4 = .ok (.arraylength, 1) := by decide +kernel
theorem dJ5_ensureCapacityInternal_d00df_5 : decode cJ5_ensureCapacityInternal_d00df 5 = .ok (.aload_n 0, 1) := by decide +kernel
theorem dJ5_ensureCapacityInternal_d00df_6 : decode cJ5_ensureCapacityInternal_d00df 6 = .ok (.getfield 22, 3) := by decide +kernel
theorem dJ5_ensureCapacityInternal_d00df_9 : decode cJ5_ensureCapacityInternal_d00df 9 = .ok (.ishr, 1) := by decide +kernel
theorem dJ5_ensureCapacityInternal_d00df_10 : decode cJ5_ensureCapacityInternal_d00df 10 = .ok (.istore_n 2, 1) := by decide +kernel
theorem dJ5_ensureCapacityInternal_d00df_11 : decode cJ5_ensureCapacityInternal_d00df 11 = .ok (.iload_n 1, 1) := by decide +kernel
theorem dJ5_ensureCapacityInternal_d00df_12 : decode cJ5_ensureCapacityInternal_d00df 12 = .ok (.iload_n 2, 1) := by decide +kernel
theorem dJ5_ensureCapacityInternal_d00df_13 : decode cJ5_ensureCapacityInternal_d00df 13 = .ok (.isub, 1) := by decide +kernel
theorem dJ5_ensureCapacityInternal_d00df_14 : decode cJ5_ensureCapacityInternal_d00df 14 = .ok (.ifCond .le 24, 3) := by decide +kernel
theorem dJ5_ensureCapacityInternal_d00df_38 : decode cJ5_ensureCapacityInternal_d00df 38 = .ok (.return_, 1) := by decide +kernel
theorem dJ5_ensureCapacityInternal_d00df_17 : decode cJ5_ensureCapacityInternal_d00df 17 = .ok (.aload_n 0, 1) := by decide +kernel
theorem dJ5_ensureCapacityInternal_d00df_18 : decode cJ5_ensureCapacityInternal_d00df 18 = .ok (.aload_n 0, 1) := by decide +kernel
theorem dJ5_ensureCapacityInternal_d00df_19 : decode cJ5_ensureCapacityInternal_d00df 19 = .ok (.getfield 15, 3) := by decide +kernel
theorem dJ5_ensureCapacityInternal_d00df_22 : decode cJ5_ensureCapacityInternal_d00df 22 = .ok (.aload_n 0, 1) := by decide +kernel
theorem dJ5_ensureCapacityInternal_d00df_23 : decode cJ5_ensureCapacityInternal_d00df 23 = .ok (.iload_n 1, 1) := by decide +kernel
theorem dJ5_ensureCapacityInternal_d00df_24 : decode cJ5_ensureCapacityInternal_d00df 24 = .ok (.invokevirtual 104, 3) := by decide +kernel
theorem dJ5_ensureCapacityInternal_d00df_27 : decode cJ5_ensureCapacityInternal_d00df 27 = .ok (.aload_n 0, 1) := by decide +kernel
theorem dJ5_ensureCapacityInternal_d00df_28 : decode cJ5_ensureCapacityInternal_d00df 28 = .ok (.getfield 22, 3) := by decide +kernel
theorem dJ5_ensureCapacityInternal_d00df_31 : decode cJ5_ensureCapacityInternal_d00df 31 = .ok (.ishl, 1) := by decide +kernel
theorem dJ5_ensureCapacityInternal_d00df_32 : decode cJ5_ensureCapacityInternal_d00df 32 = .ok (.invokestatic 108, 3) := by decide +kernel
theorem dJ5_ensureCapacityInternal_d00df_35 : decode cJ5_ensureCapacityInternal_d00df 35 = .ok (.putfield 15, 3) := by decide +kernel
theorem dJ0_getBytes_840e7_0 : decode cJ0_getBytes_840e7 0 = .ok (.aload_n 0, 1) := by decide +kernel
theorem dJ0_getBytes_840e7_1 : decode cJ0_getBytes_840e7 1 = .ok (.invokevirtual 335, 3) := by decide +kernel
theorem dJ0_getBytes_840e7_4 : decode cJ0_getBytes_840e7 4 = .ok (.iload_n 3, 1) := by decide +kernel
theorem dJ0_getBytes_840e7_5 : decode cJ0_getBytes_840e7 5 = .ok (.if_icmp .ne 23, 3) := by decide +kernel
theorem dJ0_getBytes_840e7_8 : decode cJ0_getBytes_840e7 8 = .ok (.aload_n 0, 1) := by decide +kernel
theorem dJ0_getBytes_840e7_9 : decode cJ0_getBytes_840e7 9 = .ok (.getfield 9, 3) := by decide +kernel
theorem dJ0_getBytes_840e7_12 : decode cJ0_getBytes_840e7 12 = .ok (.iconst 0, 1) := by decide +kernel
theorem dJ0_getBytes_840e7_13 : decode cJ0_getBytes_840e7 13 = .ok (.aload_n 1, 1) := by decide +kernel
theorem dJ0_getBytes_840e7_14 : decode cJ0_getBytes_840e7 14 = .ok (.iload_n 2, 1) := by decide +kernel
theorem dJ0_getBytes_840e7_15 : decode cJ0_getBytes_840e7 15 = .ok (.iload_n 3, 1) := by decide +kernel
theorem dJ0_getBytes_840e7_16 : decode cJ0_getBytes_840e7 16 = .ok (.ishl, 1) := by decide +kernel
theorem dJ0_getBytes_840e7_17 : decode cJ0_getBytes_840e7 17 = .ok (.aload_n 0, 1) := by decide +kernel
theorem dJ0_getBytes_840e7_18 : decode cJ0_getBytes_840e7 18 = .ok (.getfield 9, 3) := by decide +kernel
theorem dJ0_getBytes_840e7_21 : decode cJ0_getBytes_840e7 21 = .ok (.arraylength, 1) := by decide +kernel
theorem dJ0_getBytes_840e7_22 : decode cJ0_getBytes_840e7 22 = .ok (.invokestatic 212, 3) := by decide +kernel
theorem dJ0_getBytes_840e7_25 : decode cJ0_getBytes_840e7 25 = .ok (.goto 18, 3) := by decide +kernel
theorem dJ0_getBytes_840e7_43 : decode cJ0_getBytes_840e7 43 = .ok (.return_, 1) := by decide +kernel
theorem dJ5_putStringAt_47b60_0 : decode cJ5_putStringAt_47b60 0 = .ok (.aload_n 0, 1) := by decide +kernel
theorem dJ5_putStringAt_47b60_1 : decode cJ5_putStringAt_47b60 1 = .ok (.aload_n 2, 1) := by decide +kernel
theorem dJ5_putStringAt_47b60_2 : decode cJ5_putStringAt_47b60 2 = .ok (.invokevirtual 397, 3) := by decide +kernel
theorem dJ5_putStringAt_47b60_5 : decode cJ5_putStringAt_47b60 5 = .ok (.aload_n 2, 1) := by decide +kernel
theorem dJ5_putStringAt_47b60_6 : decode cJ5_putStringAt_47b60 6 = .ok (.aload_n 0, 1) := by decide +kernel
theorem dJ5_putStringAt_47b60_7 : decode cJ5_putStringAt_47b60 7 = .ok (.getfield 15, 3) := by decide +kernel
theorem dJ5_putStringAt_47b60_10 : decode cJ5_putStringAt_47b60 10 = .ok (.iload_n 1, 1) := by decide +kernel
theorem dJ5_putStringAt_47b60_11 : decode cJ5_putStringAt_47b60 11 = .ok (.aload_n 0, 1) := by decide +kernel
theorem dJ5_putStringAt_47b60_12 : decode cJ5_putStringAt_47b60 12 = .ok (.getfield 22, 3) := by decide +kernel
theorem dJ5_putStringAt_47b60_15 : decode cJ5_putStringAt_47b60 15 = .ok (.invokevirtual 399, 3) := by decide +kernel
theorem dJ5_putStringAt_47b60_18 : decode cJ5_putStringAt_47b60 18 = .ok (.return_, 1) := by decide +kernel
theorem dJ5_append_cf1ce_0 : decode cJ5_append_cf1ce 0 = .ok (.aload_n 1, 1) := by decide +kernel
theorem dJ5_append_cf1ce_1 : decode cJ5_append_cf1ce 1 = .ok (.ifnonnull 8, 3) := by decide +kernel
theorem dJ5_append_cf1ce_9 : decode cJ5_append_cf1ce 9 = .ok (.aload_n 1, 1) := by decide +kernel
theorem dJ5_append_cf1ce_10 : decode cJ5_append_cf1ce 10 = .ok (.invokevirtual 32, 3) := by decide +kernel
theorem dJ5_append_cf1ce_13 : decode cJ5_append_cf1ce 13 = .ok (.istore_n 2, 1) := by decide +kernel
theorem dJ5_append_cf1ce_14 : decode cJ5_append_cf1ce 14 = .ok (.aload_n 0, 1) := by decide +kernel
theorem dJ5_append_cf1ce_15 : decode cJ5_append_cf1ce 15 = .ok (.aload_n 0, 1) := by decide +kernel
theorem dJ5_append_cf1ce_16 : decode cJ5_append_cf1ce 16 = .ok (.getfield 79, 3) := by decide +kernel
theorem dJ5_append_cf1ce_19 : decode cJ5_append_cf1ce 19 = .ok (.iload_n 2, 1) := by decide +kernel
theorem dJ5_append_cf1ce_20 : decode cJ5_append_cf1ce 20 = .ok (.iadd, 1) := by decide +kernel
theorem dJ5_append_cf1ce_21 : decode cJ5_append_cf1ce 21 = .ok (.invokevirtual 100, 3) := by decide +kernel
theorem dJ5_append_cf1ce_24 : decode cJ5_append_cf1ce 24 = .ok (.aload_n 0, 1) := by decide +kernel
theorem dJ5_append_cf1ce_25 : decode cJ5_append_cf1ce 25 = .ok (.aload_n 0, 1) := by decide +kernel
theorem dJ5_append_cf1ce_26 : decode cJ5_append_cf1ce 26 = .ok (.getfield 79, 3) := by decide +kernel
theorem dJ5_append_cf1ce_29 : decode cJ5_append_cf1ce 29 = .ok (.aload_n 1, 1) := by decide +kernel
theorem dJ5_append_cf1ce_30 : decode cJ5_append_cf1ce 30 = .ok (.invokevirtual 208, 3) := by decide +kernel
theorem dJ5_append_cf1ce_33 : decode cJ5_append_cf1ce 33 = .ok (.aload_n 0, 1) := by decide +kernel
theorem dJ5_append_cf1ce_34 : decode cJ5_append_cf1ce 34 = .ok (.dup, 1) := by decide +kernel
theorem dJ5_append_cf1ce_35 : decode cJ5_append_cf1ce 35 = .ok (.getfield 79, 3) := by decide +kernel
theorem dJ5_append_cf1ce_38 : decode cJ5_append_cf1ce 38 = .ok (.iload_n 2, 1) := by decide +kernel
theorem dJ5_append_cf1ce_39 : decode cJ5_append_cf1ce 39 = .ok (.iadd, 1) := by decide +kernel
theorem dJ5_append_cf1ce_40 : decode cJ5_append_cf1ce 40 = .ok (.putfield 79, 3) := by decide +kernel
theorem dJ5_append_cf1ce_43 : decode cJ5_append_cf1ce 43 = .ok (.aload_n 0, 1) := by decide +kernel
theorem dJ5_append_cf1ce_44 : decode cJ5_append_cf1ce 44 = .ok (.areturn, 1) := by decide +kernel
theorem dJ4_append_15ec4_0 : decode cJ4_append_15ec4 0 = .ok (.aload_n 0, 1) := by decide +kernel
theorem dJ4_append_15ec4_1 : decode cJ4_append_15ec4 1 = .ok (.aload_n 1, 1) := by decide +kernel
theorem dJ4_append_15ec4_2 : decode cJ4_append_15ec4 2 = .ok (.invokespecial 29, 3) := by decide +kernel
theorem dJ4_append_15ec4_5 : decode cJ4_append_15ec4 5 = .ok (.pop, 1) := by decide +kernel
theorem dJ4_append_15ec4_6 : decode cJ4_append_15ec4 6 = .ok (.aload_n 0, 1) := by decide +kernel
theorem dJ4_append_15ec4_7 : decode cJ4_append_15ec4 7 = .ok (.areturn, 1) := by decide +kernel
theorem sx1 : Cond.selects RJ4 yJ5_newCapacity_0f7a4 yJ5_newCapacity_0f7a4 ∈ WG := WG_x 1 rfl rfl
set_option maxRecDepth 20000 in
theorem jw43 : Cond.code yJ5_newCapacity_0f7a4 cJ5_newCapacity_0f7a4 6 (some .int) ∈ WG := WG_of 584 rfl rfl
theorem jw44 : Cond.methodLink RJ5 104 yJ5_newCapacity_0f7a4 ∈ WG := WG_of 581 (by decide +kernel) rfl
theorem jw45 : Cond.sameMethod "java/lang/AbstractStringBuilder" "java/lang/AbstractStringBuilder" "newCapacity" "(I)I" ∈ WG := WG_of 930 (by decide +kernel) rfl
theorem jw46 : Cond.instanceMethod yJ5_newCapacity_0f7a4 ∈ WG := WG_of 583 (by decide +kernel) rfl
set_option maxRecDepth 20000 in
theorem jw47 : Cond.code yJ7_copyOf_9075b cJ7_copyOf_9075b 3 (some (.array .byte)) ∈ WG := WG_of 598 rfl rfl
theorem jw48 : Cond.initialized RJ7 ∈ WG := WG_of 40 (by decide +kernel) rfl
theorem jw49 : Cond.methodLink RJ5 108 yJ7_copyOf_9075b ∈ WG := WG_of 596 (by decide +kernel) rfl
theorem jw50 : Cond.static yJ7_copyOf_9075b ∈ WG := WG_of 597 (by decide +kernel) rfl
theorem jw51 : Cond.methodLink RJ0 212 arraycopyName ∈ WG := WG_of 682 (by decide +kernel) rfl
theorem sx3 : Cond.selects RJ4 yJ5_inflateIfNeededFor_a7421 yJ5_inflateIfNeededFor_a7421 ∈ WG := WG_x 3 rfl rfl
set_option maxRecDepth 20000 in
theorem jw53 : Cond.code yJ5_inflateIfNeededFor_a7421 cJ5_inflateIfNeededFor_a7421 2 none ∈ WG := WG_of 657 rfl rfl
theorem jw54 : Cond.methodLink RJ5 397 yJ5_inflateIfNeededFor_a7421 ∈ WG := WG_of 654 (by decide +kernel) rfl
theorem jw55 : Cond.sameMethod "java/lang/AbstractStringBuilder" "java/lang/AbstractStringBuilder" "inflateIfNeededFor" "(Ljava/lang/String;)V" ∈ WG := WG_of 932 (by decide +kernel) rfl
theorem jw56 : Cond.instanceMethod yJ5_inflateIfNeededFor_a7421 ∈ WG := WG_of 656 (by decide +kernel) rfl
set_option maxRecDepth 20000 in
theorem jw57 : Cond.code yJ0_getBytes_840e7 cJ0_getBytes_840e7 4 none ∈ WG := WG_of 681 rfl rfl
theorem jw58 : Cond.methodLink RJ5 399 yJ0_getBytes_840e7 ∈ WG := WG_of 678 (by decide +kernel) rfl
theorem jw59 : Cond.instanceMethod yJ0_getBytes_840e7 ∈ WG := WG_of 679 (by decide +kernel) rfl
theorem jw60 : Cond.selects RJ0 yJ0_getBytes_840e7 yJ0_getBytes_840e7 ∈ WG := WG_of 680 (by decide +kernel) rfl
set_option maxRecDepth 20000 in
theorem jw61 : Cond.code yJ0_length_8abf5 cJ0_length_8abf5 1 (some .int) ∈ WG := WG_of 644 rfl rfl
theorem jw62 : Cond.methodLink RJ5 32 yJ0_length_8abf5 ∈ WG := WG_of 641 (by decide +kernel) rfl
theorem jw63 : Cond.instanceMethod yJ0_length_8abf5 ∈ WG := WG_of 642 (by decide +kernel) rfl
theorem jw64 : Cond.selects RJ0 yJ0_length_8abf5 yJ0_length_8abf5 ∈ WG := WG_of 643 (by decide +kernel) rfl
theorem sx0 : Cond.selects RJ4 yJ5_ensureCapacityInternal_d00df yJ5_ensureCapacityInternal_d00df ∈ WG := WG_x 0 rfl rfl
set_option maxRecDepth 20000 in
theorem jw66 : Cond.code yJ5_ensureCapacityInternal_d00df cJ5_ensureCapacityInternal_d00df 3 none ∈ WG := WG_of 580 rfl rfl
theorem jw67 : Cond.methodLink RJ5 100 yJ5_ensureCapacityInternal_d00df ∈ WG := WG_of 577 (by decide +kernel) rfl
theorem jw68 : Cond.sameMethod "java/lang/AbstractStringBuilder" "java/lang/AbstractStringBuilder" "ensureCapacityInternal" "(I)V" ∈ WG := WG_of 929 (by decide +kernel) rfl
theorem jw69 : Cond.instanceMethod yJ5_ensureCapacityInternal_d00df ∈ WG := WG_of 579 (by decide +kernel) rfl
theorem sx2 : Cond.selects RJ4 yJ5_putStringAt_47b60 yJ5_putStringAt_47b60 ∈ WG := WG_x 2 rfl rfl
set_option maxRecDepth 20000 in
theorem jw71 : Cond.code yJ5_putStringAt_47b60 cJ5_putStringAt_47b60 3 none ∈ WG := WG_of 653 rfl rfl
theorem jw72 : Cond.methodLink RJ5 208 yJ5_putStringAt_47b60 ∈ WG := WG_of 650 (by decide +kernel) rfl
theorem jw73 : Cond.sameMethod "java/lang/AbstractStringBuilder" "java/lang/AbstractStringBuilder" "putStringAt" "(ILjava/lang/String;)V" ∈ WG := WG_of 931 (by decide +kernel) rfl
theorem jw74 : Cond.instanceMethod yJ5_putStringAt_47b60 ∈ WG := WG_of 652 (by decide +kernel) rfl
set_option maxRecDepth 20000 in
theorem jw75 : Cond.code yJ5_append_cf1ce cJ5_append_cf1ce 3 (some (.object "java/lang/AbstractStringBuilder")) ∈ WG := WG_of 572 rfl rfl
theorem jw76 : Cond.methodLink RJ4 29 yJ5_append_cf1ce ∈ WG := WG_of 570 (by decide +kernel) rfl
theorem jw77 : Cond.sameMethod "java/lang/AbstractStringBuilder" "java/lang/AbstractStringBuilder" "append" "(Ljava/lang/String;)Ljava/lang/AbstractStringBuilder;" ∈ WG := WG_of 927 (by decide +kernel) rfl
theorem jw78 : Cond.instanceMethod yJ5_append_cf1ce ∈ WG := WG_of 571 (by decide +kernel) rfl
set_option maxRecDepth 20000 in
theorem jb_ens (l : Launch) (D : va_G) (ad : Nat → Nat) {b v c cp : Nat} {g : Nat → Int32} {cB : ClassId} {sz : Nat} {q : Nat} (hq : q ≤ 149) (hc : c ≤ cp ∧ cp ≤ 300) (hg : FITB g) : Met l yJ5_ensureCapacityInternal_d00df (Cond.code yJ5_ensureCapacityInternal_d00df cJ5_ensureCapacityInternal_d00df 3 none :: WG) { frames := 3, cells := 1, slots := 300, locals := 110 } (PcW D ad (SBX b v c cp g cB) [(cB, .byte)] sz [.ref b, .int (nI q)]) (QcW D (SBX b v c cp g cB) sz (BQ none b c q)) 1 300 (va_A (SBX b v c cp g cB) sz) := by
  refine Met.ofW (cc := cJ5_ensureCapacityInternal_d00df) (maxL := 3) (ret := none) (by decide +kernel) rfl ?_
  intro p e s m args below meth c0 s₁ B0 hml hv
  obtain ⟨rfl, hz, hP, hK, hD0, hT, hC⟩ := hv
  have hx := B0.exec
  have hb := B0.bytes
  have hr := B0.returns
  have hts0 := atoms_spec (ws := Cond.code yJ5_ensureCapacityInternal_d00df cJ5_ensureCapacityInternal_d00df 3 none :: WG) B0.pre
  have hts : ∀ w ∈ WG, w.before ([.ref b, .int (nI q)] : List Value).toArray s = true := fun w hw => hts0 w (List.mem_cons_of_mem _ hw)
  have hown : s.vm.findClass RJ5 = some m.cls := findClass_of_methodNamed B0.named
  have hlocks := B0.notSynchronized
  have hl := lv_entry ([.ref b, .int (nI q)]) (n := 3) (Nat.le_of_ble_eq_true rfl)
  rw [lg_entry_eq]
  generalize (lg_sl ([.ref b, .int (nI q)]) ++ List.replicate (3 - (lg_sl ([.ref b, .int (nI q)])).length) Slot.unset).toArray = ls at hl ⊢
  have hl : lv_has ls 3 [(0, .ref b), (1, .int (nI q))] := hl
  subst hz
  have hD := hD0.self (sz := s.heap.size)
  have hA : ∀ q, s.heap.size ≤ q → va_A (SBX b v c cp g cB) s.heap.size q := fun q h => Or.inr h
  have hS : va_S (va_A (SBX b v c cp g cB) s.heap.size) s.heap s.heap [] := va_S.rf
  refine lv_aload_n hx hb dJ5_ensureCapacityInternal_d00df_0 rfl (lv_at hl 0 rfl) ?_
  refine va_get (C := RJ4) (T := TJ4) (N := 4) hx hb hts uwJ4 hown hK hP 0 rfl rfl 0 (by decide) (hts _ jw3) (fun _ h => h) rfl dJ5_ensureCapacityInternal_d00df_1 ?_
  refine va_alen hx hb hK hP 1 0 rfl rfl (v := nI cp) rfl dJ5_ensureCapacityInternal_d00df_4 ?_
  refine lv_aload_n hx hb dJ5_ensureCapacityInternal_d00df_5 rfl (lv_at hl 0 rfl) ?_
  refine va_get (C := RJ4) (T := TJ4) (N := 4) hx hb hts uwJ4 hown hK hP 0 rfl rfl 1 (by decide) (hts _ jw1) (fun _ h => h) rfl dJ5_ensureCapacityInternal_d00df_6 ?_
  refine lv_ishr hx hb dJ5_ensureCapacityInternal_d00df_9 ?_
  rw [sb_shr0]
  refine lv_istore_n hx hb dJ5_ensureCapacityInternal_d00df_10 rfl hl (by decide) rfl (fun ls hl => ?_)
  refine lv_iload_n hx hb dJ5_ensureCapacityInternal_d00df_11 rfl (lv_at hl 2 rfl) ?_
  refine lv_iload_n hx hb dJ5_ensureCapacityInternal_d00df_12 rfl (lv_at hl 0 rfl) ?_
  refine lv_isub hx hb dJ5_ensureCapacityInternal_d00df_13 ?_
  by_cases hz : q ≤ cp
  · refine lv_if_le (tgt := 38) hx hb dJ5_ensureCapacityInternal_d00df_14 (by first | decide | rfl) (fun _ => ?_) (fun q9 => by first | exact absurd q9 (nI_dle hz (by omega)) | exact absurd (nI_dle hz (by omega)) q9)
    refine W.widen (k := 1) (n := 300) (by first | omega | (dsimp only; omega)) (by first | omega | (dsimp only; omega)) ?_
    exact W.vret hx hb hr (fun t ht hW => ⟨⟨none, _, _, rfl, ⟨rfl, v, cp, g, cB, rfl, rfl, hz, hc.1, hc.2, hg⟩, by rw [ht]; exact hP.sub [0, 1] rfl, va_K.moved hW.alike hK, hD.sub [0, 1] rfl rfl⟩, hS.F ht⟩) hS.2.2 dJ5_ensureCapacityInternal_d00df_38
  · have hn := NC_b (by omega : cp < q) hq
    rw [pk_sub (by omega : cp ≤ q)]
    refine lv_if_le (tgt := 38) hx hb dJ5_ensureCapacityInternal_d00df_14 (by first | decide | rfl) (fun q9 => absurd q9 (fun z => absurd z (nI_nle (by omega) (by omega)))) (fun _ => ?_)
    refine lv_aload_n hx hb dJ5_ensureCapacityInternal_d00df_17 rfl (lv_at hl 1 rfl) ?_
    refine lv_aload_n hx hb dJ5_ensureCapacityInternal_d00df_18 rfl (lv_at hl 1 rfl) ?_
    refine va_get (C := RJ4) (T := TJ4) (N := 4) hx hb hts uwJ4 hown hK hP 0 rfl rfl 0 (by decide) (hts _ jw3) (fun _ h => h) rfl dJ5_ensureCapacityInternal_d00df_19 ?_
    refine lv_aload_n hx hb dJ5_ensureCapacityInternal_d00df_22 rfl (lv_at hl 1 rfl) ?_
    refine lv_iload_n hx hb dJ5_ensureCapacityInternal_d00df_23 rfl (lv_at hl 2 rfl) ?_
    refine W_callQ (va_runU (As := [.int (nI q)]) (rest := [.ref v, .ref b]) (b := b) (Ts := WG) (own := RJ5) (C := RJ4) ⟨hx, hb, hml, hown, hts⟩ (jb_newCap l D ad (ws := SBX b v c cp g cB) (tys := [(cB, .byte)]) (cp := cp) rfl rfl rfl ⟨by omega, by omega⟩) (cu_of (owner := RJ5) (n := 1) hts jw43 jw5 jw44 jw45 jw46 jw43 sx1 jw46 (by decide +kernel) (by decide +kernel) rfl rfl (Nat.le_of_ble_eq_true rfl) (Nat.le_of_ble_eq_true rfl)) ⟨PcR.blind, bd_recv (i := 0) hK hP rfl, fun U hU hW => jpR hT hS hP hK _ U hU hW⟩ rfl rfl hl.1 rfl (lv_room (Nat.le_of_ble_eq_true rfl)) dJ5_ensureCapacityInternal_d00df_24 ⟨Nat.le_trans (m := 1) (by first | omega | (dsimp only; omega)) (Nat.le_of_ble_eq_true rfl), Nat.le_trans (m := 300) (by first | omega | (dsimp only; omega)) (Nat.le_of_ble_eq_true rfl)⟩).run ?_
    refine lv_aload_n hx hb dJ5_ensureCapacityInternal_d00df_27 rfl (lv_at hl 1 rfl) ?_
    refine va_get (C := RJ4) (T := TJ4) (N := 4) hx hb hts uwJ4 hown hK hP 0 rfl rfl 1 (by decide) (hts _ jw1) (fun _ h => h) rfl dJ5_ensureCapacityInternal_d00df_28 ?_
    refine lv_ishl hx hb dJ5_ensureCapacityInternal_d00df_31 ?_
    rw [sb_shl0]
    replace hP : va_P D vwCl ([(v, .inl (cB, cp, .inl g)), (b, .inr (8, [.ref v, .int 0, .int 0, .int (nI c)]))]) _ := hP.sub [1, 0] rfl
    replace hD : va_D _ ([(v, .inl (cB, cp, .inl g)), (b, .inr (8, [.ref v, .int 0, .int 0, .int (nI c)]))]) := hD.sub [1, 0] rfl rfl
    refine j_call (ws := [(v, .inl (cB, cp, .inl g))]) (pl := [(b, .inr (8, [.ref v, .int 0, .int 0, .int (nI c)]))]) (va_runS (As := [.ref v, .int (nI (NC cp q))]) (rest := [.ref b]) (Ts := WG) (own := RJ5) ⟨hx, hb, hml, hown, hts⟩ (jc_copyOf l D ad (cB := cB) ⟨hn.1, hn.2.1⟩ hg) ⟨cb_of (n := 2) hts jw47 jw48 (hts _ jw49) (by decide +kernel) (by decide +kernel) rfl rfl (Nat.le_of_ble_eq_true rfl) (Nat.le_of_ble_eq_true rfl), hts _ jw50⟩ ⟨PcW.blind, fun U hU hW => jpW (ws := [(v, .inl (cB, cp, .inl g))]) (pl := [(b, .inr (8, [.ref v, .int 0, .int 0, .int (nI c)]))]) hT hC hS hA hP hD hK _ U hU hW⟩ rfl rfl hl.1 rfl (lv_room (Nat.le_of_ble_eq_true rfl)) dJ5_ensureCapacityInternal_d00df_32 ⟨Nat.le_trans (m := 1) (by first | omega | (dsimp only; omega)) (Nat.le_of_ble_eq_true rfl), Nat.le_trans (m := 300) (by first | omega | (dsimp only; omega)) (Nat.le_of_ble_eq_true rfl)⟩) hP hD hS hA (fun x9 ws9 tys9 H1 locs1 hφ hP hD hK hS => ?_)
    obtain ⟨v1, g1, cA, rfl, rfl, rfl, hg1⟩ := hφ
    refine va_put (C := RJ4) (T := TJ4) (N := 4) hx hb hts uwJ4 tyJ4 tyJ4_ok nmJ4 hown hK hP hD hS 2 rfl rfl 0 (by decide) (hts _ jw3) (fun _ h => h) rfl (ty := tyJ4 0) (tyJ4_ok 0 (by decide)) rfl rfl (by show 0 < 4; decide) dJ5_ensureCapacityInternal_d00df_35 (fun H1 locs1 hP hD hS => ?_)
    refine W.widen (k := 1) (n := 300) (by first | omega | (dsimp only; omega)) (by first | omega | (dsimp only; omega)) ?_
    exact W.vret hx hb hr (fun t ht hW => ⟨⟨none, _, _, rfl, ⟨rfl, v1, NC cp q, g1, cA, rfl, rfl, hn.2.2, by omega, hn.2.1, hg1⟩, by rw [ht]; exact hP.sub [2, 1] rfl, va_K.moved hW.alike (hK.sub [1] rfl), hD.sub [2, 1] rfl rfl⟩, hS.F ht⟩) hS.2.2 dJ5_ensureCapacityInternal_d00df_38

set_option maxRecDepth 20000 in
theorem jv_getBytes (l : Launch) (D : va_G) (ad : Nat → Nat) {a w n : Nat} {f : Nat → Int32} {v cp : Nat} {g : Nat → Int32} {cB : ClassId} {sz k : Nat} (hk : k + n ≤ cp ∧ cp ≤ 300) (hf : FITB f) (hg : FITB g) : Met l yJ0_getBytes_840e7 (Cond.code yJ0_getBytes_840e7 cJ0_getBytes_840e7 4 none :: WG) { frames := 1, cells := 0, slots := 0, locals := 60 } (PcWV D ad [(v, .inl (cB, cp, .inl g))] [(cB, .byte)] sz a w n f [.ref a, .ref v, .int (nI k), .int 0]) (QcW D ([(v, .inl (cB, cp, .inl g))]) sz (fun x ws' tys' => x = none ∧ ∃ g' : Nat → Int32, ws' = [(v, .inl (cB, cp, .inl g'))] ∧ tys' = [(cB, .byte)] ∧ FITB g')) 0 0 (va_A ([(v, .inl (cB, cp, .inl g))]) sz) := by
  refine Met.ofW (cc := cJ0_getBytes_840e7) (maxL := 4) (ret := none) (by decide +kernel) rfl ?_
  intro p e s m args below meth c0 s₁ B0 hml hv
  obtain ⟨rfl, hz, hP, hK, hD0, hT, hC, hV⟩ := hv
  have hx := B0.exec
  have hb := B0.bytes
  have hr := B0.returns
  have hts0 := atoms_spec (ws := Cond.code yJ0_getBytes_840e7 cJ0_getBytes_840e7 4 none :: WG) B0.pre
  have hts : ∀ w ∈ WG, w.before ([.ref a, .ref v, .int (nI k), .int 0] : List Value).toArray s = true := fun w hw => hts0 w (List.mem_cons_of_mem _ hw)
  have hown : s.vm.findClass RJ0 = some m.cls := findClass_of_methodNamed B0.named
  have hlocks := B0.notSynchronized
  have hl := lv_entry ([.ref a, .ref v, .int (nI k), .int 0]) (n := 4) (Nat.le_of_ble_eq_true rfl)
  rw [lg_entry_eq]
  generalize (lg_sl ([.ref a, .ref v, .int (nI k), .int 0]) ++ List.replicate (4 - (lg_sl ([.ref a, .ref v, .int (nI k), .int 0])).length) Slot.unset).toArray = ls at hl ⊢
  have hl : lv_has ls 4 [(0, .ref a), (1, .ref v), (2, .int (nI k)), (3, .int 0)] := hl
  subst hz
  have hD := hD0.self (sz := s.heap.size)
  have hA : ∀ q, s.heap.size ≤ q → va_A ([(v, .inl (cB, cp, .inl g))]) s.heap.size q := fun q h => Or.inr h
  have hS : va_S (va_A ([(v, .inl (cB, cp, .inl g))]) s.heap.size) s.heap s.heap [] := va_S.rf
  refine lv_aload_n hx hb dJ0_getBytes_840e7_0 rfl (lv_at hl 0 rfl) ?_
  refine W_callQ (va_runV (As := []) (rest := []) (b := a) (Ts := WG) (own := RJ0) (C := RJ0) ⟨hx, hb, hml, hown, hts⟩ (jv_coder l ad (a := a) (v := w) (n := n) (f := f)) ⟨cb_of (n := 0) hts jw23 jw24 (hts _ jw25) (by decide +kernel) (by decide +kernel) rfl rfl (Nat.le_of_ble_eq_true rfl) (Nat.le_of_ble_eq_true rfl), hts _ jw26, hts _ jw27⟩ ⟨PcV.blind, hV.recv hS, fun U hU hW => jpV hT hV hS _ U hU hW⟩ rfl rfl hl.1 rfl (lv_room (Nat.le_of_ble_eq_true rfl)) dJ0_getBytes_840e7_1 ⟨Nat.le_trans (m := 0) (by first | omega | (dsimp only; omega)) (Nat.le_of_ble_eq_true rfl), Nat.le_trans (m := 0) (by first | omega | (dsimp only; omega)) (Nat.le_of_ble_eq_true rfl)⟩).run ?_
  refine lv_iload_n hx hb dJ0_getBytes_840e7_4 rfl (lv_at hl 3 rfl) ?_
  refine lv_icmp_ne (tgt := 28) hx hb dJ0_getBytes_840e7_5 (by first | decide | rfl) (fun q9 => absurd q9 (fun z => z rfl)) (fun _ => ?_)
  refine lv_aload_n hx hb dJ0_getBytes_840e7_8 rfl (lv_at hl 0 rfl) ?_
  refine vk_getf hx hb hV.2.2.1 hS hown (hts _ jw22) (fun _ h => h) dJ0_getBytes_840e7_9 ?_
  refine lv_iconst (v := 0) hx hb dJ0_getBytes_840e7_12 (by decide) ?_
  refine lv_aload_n hx hb dJ0_getBytes_840e7_13 rfl (lv_at hl 1 rfl) ?_
  refine lv_iload_n hx hb dJ0_getBytes_840e7_14 rfl (lv_at hl 2 rfl) ?_
  refine lv_iload_n hx hb dJ0_getBytes_840e7_15 rfl (lv_at hl 3 rfl) ?_
  refine lv_ishl hx hb dJ0_getBytes_840e7_16 ?_
  rw [sb_shl0]
  refine lv_aload_n hx hb dJ0_getBytes_840e7_17 rfl (lv_at hl 0 rfl) ?_
  refine vk_getf hx hb hV.2.2.1 hS hown (hts _ jw22) (fun _ h => h) dJ0_getBytes_840e7_18 ?_
  refine va_tlen hx hb hV.2.2.2 hS (v := nI n) rfl dJ0_getBytes_840e7_21 ?_
  refine vk_copyt hx hb (by rw [hml]; exact hl.1.symm) hown (hts _ jw51) (hts _ am_ac.2.2) (hts _ am_ac.1) (hts _ am_ac.2.1) hK hP hD hS hV.2.2.2 0 0 rfl rfl (by decide) (nI_pos (by omega)) (nI_pos (by omega)) (by rw [z0c, nI_clamp (by omega)]; omega) (by rw [nI_clamp (by omega), nI_clamp (by omega)]; omega) (fun i _ => hf _) (Nat.le_of_ble_eq_true rfl) (Nat.le_of_ble_eq_true rfl) dJ0_getBytes_840e7_22 (fun H1 locs1 hP hD hS => ?_)
  refine lv_goto (tgt := 43) hx hb dJ0_getBytes_840e7_25 (by first | decide | rfl) ?_
  refine W.widen (k := 0) (n := 0) (by first | omega | (dsimp only; omega)) (by first | omega | (dsimp only; omega)) ?_
  exact W.vret hx hb hr (fun t ht hW => ⟨⟨none, _, _, rfl, ⟨rfl, _, rfl, rfl, FITB_cpy hf hg⟩, by rw [ht]; exact hP.sub [0] rfl, va_K.moved hW.alike hK, hD.sub [0] rfl rfl⟩, hS.F ht⟩) hS.2.2 dJ0_getBytes_840e7_43

set_option maxRecDepth 20000 in
theorem jb_put (l : Launch) (D : va_G) (ad : Nat → Nat) {a w n : Nat} {f : Nat → Int32} {b v c cp : Nat} {g : Nat → Int32} {cB : ClassId} {sz : Nat} {k : Nat} (hk : k + n ≤ cp ∧ cp ≤ 300) (hc : c ≤ cp) (hf : FITB f) (hg : FITB g) : Met l yJ5_putStringAt_47b60 (Cond.code yJ5_putStringAt_47b60 cJ5_putStringAt_47b60 3 none :: WG) { frames := 2, cells := 0, slots := 0, locals := 110 } (PcWV D ad (SBX b v c cp g cB) [(cB, .byte)] sz a w n f [.ref b, .int (nI k), .ref a]) (QcW D (SBX b v c cp g cB) sz (BQ none b c (k + n))) 0 0 (va_A (SBX b v c cp g cB) sz) := by
  refine Met.ofW (cc := cJ5_putStringAt_47b60) (maxL := 3) (ret := none) (by decide +kernel) rfl ?_
  intro p e s m args below meth c0 s₁ B0 hml hv
  obtain ⟨rfl, hz, hP, hK, hD0, hT, hC, hV⟩ := hv
  have hx := B0.exec
  have hb := B0.bytes
  have hr := B0.returns
  have hts0 := atoms_spec (ws := Cond.code yJ5_putStringAt_47b60 cJ5_putStringAt_47b60 3 none :: WG) B0.pre
  have hts : ∀ w ∈ WG, w.before ([.ref b, .int (nI k), .ref a] : List Value).toArray s = true := fun w hw => hts0 w (List.mem_cons_of_mem _ hw)
  have hown : s.vm.findClass RJ5 = some m.cls := findClass_of_methodNamed B0.named
  have hlocks := B0.notSynchronized
  have hl := lv_entry ([.ref b, .int (nI k), .ref a]) (n := 3) (Nat.le_of_ble_eq_true rfl)
  rw [lg_entry_eq]
  generalize (lg_sl ([.ref b, .int (nI k), .ref a]) ++ List.replicate (3 - (lg_sl ([.ref b, .int (nI k), .ref a])).length) Slot.unset).toArray = ls at hl ⊢
  have hl : lv_has ls 3 [(0, .ref b), (1, .int (nI k)), (2, .ref a)] := hl
  subst hz
  have hD := hD0.self (sz := s.heap.size)
  have hA : ∀ q, s.heap.size ≤ q → va_A (SBX b v c cp g cB) s.heap.size q := fun q h => Or.inr h
  have hS : va_S (va_A (SBX b v c cp g cB) s.heap.size) s.heap s.heap [] := va_S.rf
  refine lv_aload_n hx hb dJ5_putStringAt_47b60_0 rfl (lv_at hl 0 rfl) ?_
  refine lv_aload_n hx hb dJ5_putStringAt_47b60_1 rfl (lv_at hl 2 rfl) ?_
  refine W_callQ (va_runU (As := [.ref a]) (rest := []) (b := b) (Ts := WG) (own := RJ5) (C := RJ4) ⟨hx, hb, hml, hown, hts⟩ (jb_infl l D ad (ws := SBX b v c cp g cB) (tys := [(cB, .byte)]) (a := a) (w := w) (n := n) (f := f) rfl) (cu_of (owner := RJ5) (n := 1) hts jw53 jw5 jw54 jw55 jw56 jw53 sx3 jw56 (by decide +kernel) (by decide +kernel) rfl rfl (Nat.le_of_ble_eq_true rfl) (Nat.le_of_ble_eq_true rfl)) ⟨PcRV.blind, bd_recv (i := 0) hK hP rfl, fun U hU hW => jpRV hT hV hS hP hK _ U hU hW⟩ rfl rfl hl.1 rfl (lv_room (Nat.le_of_ble_eq_true rfl)) dJ5_putStringAt_47b60_2 ⟨Nat.le_trans (m := 0) (by first | omega | (dsimp only; omega)) (Nat.le_of_ble_eq_true rfl), Nat.le_trans (m := 0) (by first | omega | (dsimp only; omega)) (Nat.le_of_ble_eq_true rfl)⟩).run ?_
  refine lv_aload_n hx hb dJ5_putStringAt_47b60_5 rfl (lv_at hl 2 rfl) ?_
  refine lv_aload_n hx hb dJ5_putStringAt_47b60_6 rfl (lv_at hl 0 rfl) ?_
  refine va_get (C := RJ4) (T := TJ4) (N := 4) hx hb hts uwJ4 hown hK hP 0 rfl rfl 0 (by decide) (hts _ jw3) (fun _ h => h) rfl dJ5_putStringAt_47b60_7 ?_
  refine lv_iload_n hx hb dJ5_putStringAt_47b60_10 rfl (lv_at hl 1 rfl) ?_
  refine lv_aload_n hx hb dJ5_putStringAt_47b60_11 rfl (lv_at hl 0 rfl) ?_
  refine va_get (C := RJ4) (T := TJ4) (N := 4) hx hb hts uwJ4 hown hK hP 0 rfl rfl 1 (by decide) (hts _ jw1) (fun _ h => h) rfl dJ5_putStringAt_47b60_12 ?_
  replace hP : va_P D vwCl ([(v, .inl (cB, cp, .inl g)), (b, .inr (8, [.ref v, .int 0, .int 0, .int (nI c)]))]) _ := hP.sub [1, 0] rfl
  replace hD : va_D _ ([(v, .inl (cB, cp, .inl g)), (b, .inr (8, [.ref v, .int 0, .int 0, .int (nI c)]))]) := hD.sub [1, 0] rfl rfl
  refine j_call (ws := [(v, .inl (cB, cp, .inl g))]) (pl := [(b, .inr (8, [.ref v, .int 0, .int 0, .int (nI c)]))]) (va_runV (As := [.ref v, .int (nI k), .int 0]) (rest := []) (b := a) (Ts := WG) (own := RJ5) (C := RJ0) ⟨hx, hb, hml, hown, hts⟩ (jv_getBytes l D ad (cB := cB) (cp := cp) hk hf hg) ⟨cb_of (n := 3) hts jw57 jw24 (hts _ jw58) (by decide +kernel) (by decide +kernel) rfl rfl (Nat.le_of_ble_eq_true rfl) (Nat.le_of_ble_eq_true rfl), hts _ jw59, hts _ jw60⟩ ⟨PcWV.blind, hV.recv hS, fun U hU hW => jpWV (ws := [(v, .inl (cB, cp, .inl g))]) (pl := [(b, .inr (8, [.ref v, .int 0, .int 0, .int (nI c)]))]) hT hC (SV.in (ws := [(v, .inl (cB, cp, .inl g))]) (pl := [(b, .inr (8, [.ref v, .int 0, .int 0, .int (nI c)]))]) hV hS hA hD) hS hA hP hD hK _ U hU hW⟩ rfl rfl hl.1 rfl (lv_room (Nat.le_of_ble_eq_true rfl)) dJ5_putStringAt_47b60_15 ⟨Nat.le_trans (m := 0) (by first | omega | (dsimp only; omega)) (Nat.le_of_ble_eq_true rfl), Nat.le_trans (m := 0) (by first | omega | (dsimp only; omega)) (Nat.le_of_ble_eq_true rfl)⟩) hP hD hS hA (fun x9 ws9 tys9 H1 locs1 hφ hP hD hK hS => ?_)
  obtain ⟨rfl, g1, rfl, rfl, hg1⟩ := hφ
  refine W.widen (k := 0) (n := 0) (by first | omega | (dsimp only; omega)) (by first | omega | (dsimp only; omega)) ?_
  exact W.vret hx hb hr (fun t ht hW => ⟨⟨none, _, _, rfl, ⟨rfl, v, cp, g1, cB, rfl, rfl, hk.1, by omega, hk.2, hg1⟩, by rw [ht]; exact hP.sub [1, 0] rfl, va_K.moved hW.alike hK, hD.sub [1, 0] rfl rfl⟩, hS.F ht⟩) hS.2.2 dJ5_putStringAt_47b60_18

set_option maxRecDepth 20000 in
theorem jb_appS (l : Launch) (D : va_G) (ad : Nat → Nat) {a w n : Nat} {f : Nat → Int32} {b v c cp : Nat} {g : Nat → Int32} {cB : ClassId} {sz : Nat} (hq : c + n ≤ 149) (hc : c ≤ cp ∧ cp ≤ 300) (hf : FITB f) (hg : FITB g) : Met l yJ5_append_cf1ce (Cond.code yJ5_append_cf1ce cJ5_append_cf1ce 3 (some (.object "java/lang/AbstractStringBuilder")) :: WG) { frames := 4, cells := 1, slots := 300, locals := 160 } (PcWV D ad (SBX b v c cp g cB) [(cB, .byte)] sz a w n f [.ref b, .ref a]) (QcW D (SBX b v c cp g cB) sz (BQ (some (.ref b)) b (c + n) (c + n))) 1 300 (va_A (SBX b v c cp g cB) sz) := by
  refine Met.ofW (cc := cJ5_append_cf1ce) (maxL := 3) (ret := (some (.object "java/lang/AbstractStringBuilder"))) (by decide +kernel) rfl ?_
  intro p e s m args below meth c0 s₁ B0 hml hv
  obtain ⟨rfl, hz, hP, hK, hD0, hT, hC, hV⟩ := hv
  have hx := B0.exec
  have hb := B0.bytes
  have hr := B0.returns
  have hts0 := atoms_spec (ws := Cond.code yJ5_append_cf1ce cJ5_append_cf1ce 3 (some (.object "java/lang/AbstractStringBuilder")) :: WG) B0.pre
  have hts : ∀ w ∈ WG, w.before ([.ref b, .ref a] : List Value).toArray s = true := fun w hw => hts0 w (List.mem_cons_of_mem _ hw)
  have hown : s.vm.findClass RJ5 = some m.cls := findClass_of_methodNamed B0.named
  have hlocks := B0.notSynchronized
  have hl := lv_entry ([.ref b, .ref a]) (n := 3) (Nat.le_of_ble_eq_true rfl)
  rw [lg_entry_eq]
  generalize (lg_sl ([.ref b, .ref a]) ++ List.replicate (3 - (lg_sl ([.ref b, .ref a])).length) Slot.unset).toArray = ls at hl ⊢
  have hl : lv_has ls 3 [(0, .ref b), (1, .ref a)] := hl
  subst hz
  have hD := hD0.self (sz := s.heap.size)
  have hA : ∀ q, s.heap.size ≤ q → va_A (SBX b v c cp g cB) s.heap.size q := fun q h => Or.inr h
  have hS : va_S (va_A (SBX b v c cp g cB) s.heap.size) s.heap s.heap [] := va_S.rf
  refine lv_aload_n hx hb dJ5_append_cf1ce_0 rfl (lv_at hl 1 rfl) ?_
  refine lv_ifnonnull (tgt := 9) hx hb dJ5_append_cf1ce_1 (by first | decide | rfl) ?_
  refine lv_aload_n hx hb dJ5_append_cf1ce_9 rfl (lv_at hl 1 rfl) ?_
  refine W_callQ (va_runV (As := []) (rest := []) (b := a) (Ts := WG) (own := RJ5) (C := RJ0) ⟨hx, hb, hml, hown, hts⟩ (jv_length l ad (a := a) (v := w) (n := n) (f := f)) ⟨cb_of (n := 0) hts jw61 jw24 (hts _ jw62) (by decide +kernel) (by decide +kernel) rfl rfl (Nat.le_of_ble_eq_true rfl) (Nat.le_of_ble_eq_true rfl), hts _ jw63, hts _ jw64⟩ ⟨PcV.blind, hV.recv hS, fun U hU hW => jpV hT hV hS _ U hU hW⟩ rfl rfl hl.1 rfl (lv_room (Nat.le_of_ble_eq_true rfl)) dJ5_append_cf1ce_10 ⟨Nat.le_trans (m := 1) (by first | omega | (dsimp only; omega)) (Nat.le_of_ble_eq_true rfl), Nat.le_trans (m := 300) (by first | omega | (dsimp only; omega)) (Nat.le_of_ble_eq_true rfl)⟩).run ?_
  refine lv_istore_n hx hb dJ5_append_cf1ce_13 rfl hl (by decide) rfl (fun ls hl => ?_)
  refine lv_aload_n hx hb dJ5_append_cf1ce_14 rfl (lv_at hl 1 rfl) ?_
  refine lv_aload_n hx hb dJ5_append_cf1ce_15 rfl (lv_at hl 1 rfl) ?_
  refine va_get (C := RJ4) (T := TJ4) (N := 4) hx hb hts uwJ4 hown hK hP 0 rfl rfl 3 (by decide) (hts _ jw2) (fun _ h => h) rfl dJ5_append_cf1ce_16 ?_
  refine lv_iload_n hx hb dJ5_append_cf1ce_19 rfl (lv_at hl 0 rfl) ?_
  refine lv_iadd hx hb dJ5_append_cf1ce_20 ?_
  rw [nI_add]
  refine j_call (ws := SBX b v c cp g cB) (pl := []) (va_runU (As := [.int (nI (c + n))]) (rest := []) (b := b) (Ts := WG) (own := RJ5) (C := RJ4) ⟨hx, hb, hml, hown, hts⟩ (jb_ens l D ad (q := c + n) hq hc hg) (cu_of (owner := RJ5) (n := 1) hts jw66 jw5 jw67 jw68 jw69 jw66 sx0 jw69 (by decide +kernel) (by decide +kernel) rfl rfl (Nat.le_of_ble_eq_true rfl) (Nat.le_of_ble_eq_true rfl)) ⟨PcW.blind, bd_recv (i := 0) hK hP rfl, fun U hU hW => jpW (ws := SBX b v c cp g cB) (pl := []) hT hC hS hA hP hD hK _ U hU hW⟩ rfl rfl hl.1 rfl (lv_room (Nat.le_of_ble_eq_true rfl)) dJ5_append_cf1ce_21 ⟨Nat.le_trans (m := 1) (by first | omega | (dsimp only; omega)) (Nat.le_of_ble_eq_true rfl), Nat.le_trans (m := 300) (by first | omega | (dsimp only; omega)) (Nat.le_of_ble_eq_true rfl)⟩) hP hD hS hA (fun x9 ws9 tys9 H1 locs1 hφ hP hD hK hS => ?_)
  obtain ⟨rfl, v1, cp1, g1, cB1, rfl, rfl, hq1, hc1, hm1, hg1⟩ := hφ
  refine lv_aload_n hx hb dJ5_append_cf1ce_24 rfl (lv_at hl 1 rfl) ?_
  refine lv_aload_n hx hb dJ5_append_cf1ce_25 rfl (lv_at hl 1 rfl) ?_
  refine va_get (C := RJ4) (T := TJ4) (N := 4) hx hb hts uwJ4 hown hK hP 0 rfl rfl 3 (by decide) (hts _ jw2) (fun _ h => h) rfl dJ5_append_cf1ce_26 ?_
  refine lv_aload_n hx hb dJ5_append_cf1ce_29 rfl (lv_at hl 2 rfl) ?_
  refine j_call (ws := SBX b v1 c cp1 g1 cB1) (pl := []) (va_runU (As := [.int (nI c), .ref a]) (rest := []) (b := b) (Ts := WG) (own := RJ5) (C := RJ4) ⟨hx, hb, hml, hown, hts⟩ (jb_put l D ad (k := c) (n := n) ⟨hq1, hm1⟩ hc1 hf hg1) (cu_of (owner := RJ5) (n := 2) hts jw71 jw5 jw72 jw73 jw74 jw71 sx2 jw74 (by decide +kernel) (by decide +kernel) rfl rfl (Nat.le_of_ble_eq_true rfl) (Nat.le_of_ble_eq_true rfl)) ⟨PcWV.blind, bd_recv (i := 0) hK hP rfl, fun U hU hW => jpWV (ws := SBX b v1 c cp1 g1 cB1) (pl := []) hT hC (SV.in (ws := SBX b v1 c cp1 g1 cB1) (pl := []) hV hS hA hD) hS hA hP hD hK _ U hU hW⟩ rfl rfl hl.1 rfl (lv_room (Nat.le_of_ble_eq_true rfl)) dJ5_append_cf1ce_30 ⟨Nat.le_trans (m := 1) (by first | omega | (dsimp only; omega)) (Nat.le_of_ble_eq_true rfl), Nat.le_trans (m := 300) (by first | omega | (dsimp only; omega)) (Nat.le_of_ble_eq_true rfl)⟩) hP hD hS hA (fun x9 ws9 tys9 H1 locs1 hφ hP hD hK hS => ?_)
  obtain ⟨rfl, v2, cp2, g2, cB2, rfl, rfl, hq2, hc2, hm2, hg2⟩ := hφ
  refine lv_aload_n hx hb dJ5_append_cf1ce_33 rfl (lv_at hl 1 rfl) ?_
  refine lv_dup hx hb dJ5_append_cf1ce_34 rfl ?_
  refine va_get (C := RJ4) (T := TJ4) (N := 4) hx hb hts uwJ4 hown hK hP 0 rfl rfl 3 (by decide) (hts _ jw2) (fun _ h => h) rfl dJ5_append_cf1ce_35 ?_
  refine lv_iload_n hx hb dJ5_append_cf1ce_38 rfl (lv_at hl 0 rfl) ?_
  refine lv_iadd hx hb dJ5_append_cf1ce_39 ?_
  rw [nI_add]
  refine va_put (C := RJ4) (T := TJ4) (N := 4) hx hb hts uwJ4 tyJ4 tyJ4_ok nmJ4 hown hK hP hD hS 0 rfl rfl 3 (by decide) (hts _ jw2) (fun _ h => h) rfl (ty := tyJ4 3) (tyJ4_ok 3 (by decide)) rfl rfl (by show 3 < 4; decide) dJ5_append_cf1ce_40 (fun H1 locs1 hP hD hS => ?_)
  refine lv_aload_n hx hb dJ5_append_cf1ce_43 rfl (lv_at hl 1 rfl) ?_
  refine W.widen (k := 1) (n := 300) (by first | omega | (dsimp only; omega)) (by first | omega | (dsimp only; omega)) ?_
  exact W.aret hx hb hr (by first | exact Or.inl ⟨_, rfl⟩ | exact Or.inr ⟨_, rfl⟩) (Or.inr ⟨_, rfl⟩) (fun t ht hW => ⟨⟨(some (.ref b)), _, _, rfl, ⟨rfl, v2, cp2, g2, cB2, rfl, rfl, hq2, hq2, hm2, hg2⟩, by rw [ht]; exact hP.sub [0, 1] rfl, va_K.moved hW.alike hK, hD.sub [0, 1] rfl rfl⟩, hS.F ht⟩) hS.2.2 dJ5_append_cf1ce_44

set_option maxRecDepth 20000 in
theorem js_appS (l : Launch) (D : va_G) (ad : Nat → Nat) {a w n : Nat} {f : Nat → Int32} {b v c cp : Nat} {g : Nat → Int32} {cB : ClassId} {sz : Nat} (hq : c + n ≤ 149) (hc : c ≤ cp ∧ cp ≤ 300) (hf : FITB f) (hg : FITB g) : Met l yJ4_append_15ec4 (Cond.code yJ4_append_15ec4 cJ4_append_15ec4 2 (some (.object "java/lang/StringBuilder")) :: WG) { frames := 5, cells := 1, slots := 300, locals := 190 } (PcWV D ad (SBX b v c cp g cB) [(cB, .byte)] sz a w n f [.ref b, .ref a]) (QcW D (SBX b v c cp g cB) sz (BQ (some (.ref b)) b (c + n) (c + n))) 1 300 (va_A (SBX b v c cp g cB) sz) := by
  refine Met.ofW (cc := cJ4_append_15ec4) (maxL := 2) (ret := (some (.object "java/lang/StringBuilder"))) (by decide +kernel) rfl ?_
  intro p e s m args below meth c0 s₁ B0 hml hv
  obtain ⟨rfl, hz, hP, hK, hD0, hT, hC, hV⟩ := hv
  have hx := B0.exec
  have hb := B0.bytes
  have hr := B0.returns
  have hts0 := atoms_spec (ws := Cond.code yJ4_append_15ec4 cJ4_append_15ec4 2 (some (.object "java/lang/StringBuilder")) :: WG) B0.pre
  have hts : ∀ w ∈ WG, w.before ([.ref b, .ref a] : List Value).toArray s = true := fun w hw => hts0 w (List.mem_cons_of_mem _ hw)
  have hown : s.vm.findClass RJ4 = some m.cls := findClass_of_methodNamed B0.named
  have hlocks := B0.notSynchronized
  have hl := lv_entry ([.ref b, .ref a]) (n := 2) (Nat.le_of_ble_eq_true rfl)
  rw [lg_entry_eq]
  generalize (lg_sl ([.ref b, .ref a]) ++ List.replicate (2 - (lg_sl ([.ref b, .ref a])).length) Slot.unset).toArray = ls at hl ⊢
  have hl : lv_has ls 2 [(0, .ref b), (1, .ref a)] := hl
  subst hz
  have hD := hD0.self (sz := s.heap.size)
  have hA : ∀ q, s.heap.size ≤ q → va_A (SBX b v c cp g cB) s.heap.size q := fun q h => Or.inr h
  have hS : va_S (va_A (SBX b v c cp g cB) s.heap.size) s.heap s.heap [] := va_S.rf
  refine lv_aload_n hx hb dJ4_append_15ec4_0 rfl (lv_at hl 0 rfl) ?_
  refine lv_aload_n hx hb dJ4_append_15ec4_1 rfl (lv_at hl 1 rfl) ?_
  refine j_call (ws := SBX b v c cp g cB) (pl := []) (va_runSU (C := RJ4) (As := [.ref a]) (rest := []) (b := b) (Ts := WG) (own := RJ4) (hK.1 8 _ rfl).2 ⟨hx, hb, hml, hown, hts⟩ (jb_appS l D ad hq hc hf hg) (cs_of (n := 1) hts jw75 jw5 jw76 jw77 jw8 jw78 (by decide +kernel) (by decide +kernel) rfl rfl (Nat.le_of_ble_eq_true rfl) (Nat.le_of_ble_eq_true rfl)) ⟨PcWV.blind, bd_recv (i := 0) hK hP rfl, fun U hU hW => jpWV (ws := SBX b v c cp g cB) (pl := []) hT hC (SV.in (ws := SBX b v c cp g cB) (pl := []) hV hS hA hD) hS hA hP hD hK _ U hU hW⟩ rfl rfl hl.1 rfl (lv_room (Nat.le_of_ble_eq_true rfl)) dJ4_append_15ec4_2 ⟨Nat.le_trans (m := 1) (by first | omega | (dsimp only; omega)) (Nat.le_of_ble_eq_true rfl), Nat.le_trans (m := 300) (by first | omega | (dsimp only; omega)) (Nat.le_of_ble_eq_true rfl)⟩) hP hD hS hA (fun x9 ws9 tys9 H1 locs1 hφ hP hD hK hS => ?_)
  obtain ⟨rfl, v2, cp2, g2, cB2, rfl, rfl, hq2, hc2, hm2, hg2⟩ := hφ
  refine lv_pop hx hb dJ4_append_15ec4_5 rfl ?_
  refine lv_aload_n hx hb dJ4_append_15ec4_6 rfl (lv_at hl 0 rfl) ?_
  refine W.widen (k := 1) (n := 300) (by first | omega | (dsimp only; omega)) (by first | omega | (dsimp only; omega)) ?_
  exact W.aret hx hb hr (by first | exact Or.inl ⟨_, rfl⟩ | exact Or.inr ⟨_, rfl⟩) (Or.inr ⟨_, rfl⟩) (fun t ht hW => ⟨⟨(some (.ref b)), _, _, rfl, ⟨rfl, v2, cp2, g2, cB2, rfl, rfl, hq2, hc2, hm2, hg2⟩, by rw [ht]; exact hP.sub [0, 1] rfl, va_K.moved hW.alike hK, hD.sub [0, 1] rfl rfl⟩, hS.F ht⟩) hS.2.2 dJ4_append_15ec4_7

