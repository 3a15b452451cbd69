theorem ngT {a : Nat} (h : a ≤ 100000) : (-(nI a)).toInt = -(a : Int) := by
  rw [Int32.toInt_neg, nI_toInt (by omega), Int.bmod_eq_of_le (by omega) (by omega)]
theorem ngle {a b : Nat} (h : b ≤ a) (ha : a ≤ 100000) : -(nI a) ≤ -(nI b) := by
  apply Int32.le_iff_toInt_le.mpr
  rw [ngT ha, ngT (by omega)]
  omega
theorem ngnle {a b : Nat} (h : a < b) (hb : b ≤ 100000) : ¬ -(nI a) ≤ -(nI b) := by
  intro z
  have z2 := Int32.le_iff_toInt_le.mp z
  rw [ngT hb, ngT (by omega)] at z2
  omega
theorem nglt {a b : Nat} (h : b < a) (ha : a ≤ 100000) : -(nI a) < -(nI b) := by
  apply Int32.lt_iff_toInt_lt.mpr
  rw [ngT ha, ngT (by omega)]
  omega
theorem ngnlt {a b : Nat} (h : a ≤ b) (hb : b ≤ 100000) : ¬ -(nI a) > -(nI b) → True := fun _ => trivial
theorem ngnl {a b : Nat} (h : a ≤ b) (hb : b ≤ 100000) : ¬ -(nI b) > -(nI a) := by
  intro z
  have z2 := Int32.lt_iff_toInt_lt.mp z
  rw [ngT hb, ngT (by omega)] at z2
  omega
theorem nI_dec {k : Nat} (h : 1 ≤ k) (hk : k ≤ 1000) : nI k + Int32.ofInt (-1) = nI (k - 1) := by
  apply Int32.toInt_inj.mp
  rw [Int32.toInt_add, nI_toInt (by omega), nI_toInt (by omega), show (Int32.ofInt (-1)).toInt = -1 from by decide, Int.bmod_eq_of_le (by omega) (by omega)]
  omega
theorem gc1 {x : Nat} (h : x < 1000) : -(nI x) / nI 100 = -(nI (x / 100)) := by
  have h2 : ∀ x : Nat, x < 1000 → -(nI x) / nI 100 = -(nI (x / 100)) := by decide +kernel
  exact h2 x h
theorem gc2 {x : Nat} (h : x < 1000) : -(nI (x / 100)) * nI 100 - -(nI x) = nI (x % 100) := by
  have h2 : ∀ x : Nat, x < 1000 → -(nI (x / 100)) * nI 100 - -(nI x) = nI (x % 100) := by decide +kernel
  exact h2 x h
theorem dg1 {x : Nat} (h : x < 10) : dgn x = 1 := if_pos h
theorem dg2 {x : Nat} (h : 10 ≤ x ∧ x < 100) : dgn x = 2 := by
  unfold dgn
  rw [if_neg (by omega), if_pos h.2]
theorem dg3 {x : Nat} (h : 100 ≤ x) : dgn x = 3 := by
  unfold dgn
  rw [if_neg (by omega), if_neg (by omega)]
theorem dJ6_stringSize_0f7a4_0 : decode cJ6_stringSize_0f7a4 0 = .ok (.iconst 1, 1) := by decide +kernel
theorem dJ6_stringSize_0f7a4_1 : decode cJ6_stringSize_0f7a4 1 = .ok (.istore_n 1, 1) := by decide +kernel
theorem dJ6_stringSize_0f7a4_2 : decode cJ6_stringSize_0f7a4 2 = .ok (.iload_n 0, 1) := by decide +kernel
theorem dJ6_stringSize_0f7a4_3 : decode cJ6_stringSize_0f7a4 3 = .ok (.ifCond .lt 8, 3) := by decide +kernel
theorem dJ6_stringSize_0f7a4_6 : decode cJ6_stringSize_0f7a4 6 = .ok (.iconst 0, 1) := by decide +kernel
theorem dJ6_stringSize_0f7a4_7 : decode cJ6_stringSize_0f7a4 7 = .ok (.istore_n 1, 1) := by decide +kernel
theorem dJ6_stringSize_0f7a4_8 : decode cJ6_stringSize_0f7a4 8 = .ok (.iload_n 0, 1) := by decide +kernel
theorem dJ6_stringSize_0f7a4_9 : decode cJ6_stringSize_0f7a4 9 = .ok (.ineg, 1) := by decide +kernel
theorem dJ6_stringSize_0f7a4_10 : decode cJ6_stringSize_0f7a4 10 = .ok (.istore_n 0, 1) := by decide +kernel
theorem dJ6_stringSize_0f7a4_11 : decode cJ6_stringSize_0f7a4 11 = .ok (.bipush (-10), 2) := by decide +kernel
theorem dJ6_stringSize_0f7a4_13 : decode cJ6_stringSize_0f7a4 13 = .ok (.istore_n 2, 1) := by decide +kernel
theorem dJ6_stringSize_0f7a4_14 : decode cJ6_stringSize_0f7a4 14 = .ok (.iconst 1, 1) := by decide +kernel
theorem dJ6_stringSize_0f7a4_15 : decode cJ6_stringSize_0f7a4 15 = .ok (.istore_n 3, 1) := by decide +kernel
theorem dJ6_stringSize_0f7a4_16 : decode cJ6_stringSize_0f7a4 16 = .ok (.iload_n 3, 1) := by decide +kernel
theorem dJ6_stringSize_0f7a4_17 : decode cJ6_stringSize_0f7a4 17 = .ok (.bipush 10, 2) := by decide +kernel
theorem dJ6_stringSize_0f7a4_19 : decode cJ6_stringSize_0f7a4 19 = .ok (.if_icmp .ge 23, 3) := by decide +kernel
theorem dJ6_stringSize_0f7a4_22 : decode cJ6_stringSize_0f7a4 22 = .ok (.iload_n 0, 1) := by decide +kernel
theorem dJ6_stringSize_0f7a4_23 : decode cJ6_stringSize_0f7a4 23 = .ok (.iload_n 2, 1) := by decide +kernel
theorem dJ6_stringSize_0f7a4_24 : decode cJ6_stringSize_0f7a4 24 = .ok (.if_icmp .le 7, 3) := by decide +kernel
theorem dJ6_stringSize_0f7a4_27 : decode cJ6_stringSize_0f7a4 27 = .ok (.iload_n 3, 1) := by decide +kernel
theorem dJ6_stringSize_0f7a4_28 : decode cJ6_stringSize_0f7a4 28 = .ok (.iload_n 1, 1) := by decide +kernel
theorem dJ6_stringSize_0f7a4_29 : decode cJ6_stringSize_0f7a4 29 = .ok (.iadd, 1) := by decide +kernel
theorem dJ6_stringSize_0f7a4_30 : decode cJ6_stringSize_0f7a4 30 = .ok (.ireturn, 1) := by decide +kernel
theorem dJ6_stringSize_0f7a4_31 : decode cJ6_stringSize_0f7a4 31 = .ok (.bipush 10, 2) := by decide +kernel
theorem dJ6_stringSize_0f7a4_33 : decode cJ6_stringSize_0f7a4 33 = .ok (.iload_n 2, 1) := by decide +kernel
theorem dJ6_stringSize_0f7a4_34 : decode cJ6_stringSize_0f7a4 34 = .ok (.imul, 1) := by decide +kernel
theorem dJ6_stringSize_0f7a4_35 : decode cJ6_stringSize_0f7a4 35 = .ok (.istore_n 2, 1) := by decide +kernel
theorem dJ6_stringSize_0f7a4_36 : decode cJ6_stringSize_0f7a4 36 = .ok (.iinc 3 1, 3) := by decide +kernel
theorem dJ6_stringSize_0f7a4_39 : decode cJ6_stringSize_0f7a4 39 = .ok (.goto (-23), 3) := by decide +kernel
theorem dJ6_getChars_ba4f3_0 : decode cJ6_getChars_ba4f3 0 = .ok (.iload_n 1, 1) := by decide +kernel
theorem dJ6_getChars_ba4f3_1 : decode cJ6_getChars_ba4f3 1 = .ok (.istore 5, 2) := by decide +kernel
theorem dJ6_getChars_ba4f3_3 : decode cJ6_getChars_ba4f3 3 = .ok (.iload_n 0, 1) := by decide +kernel
theorem dJ6_getChars_ba4f3_4 : decode cJ6_getChars_ba4f3 4 = .ok (.ifCond .ge 7, 3) := by decide +kernel
theorem dJ6_getChars_ba4f3_11 : decode cJ6_getChars_ba4f3 11 = .ok (.iconst 0, 1) := by decide +kernel
theorem dJ6_getChars_ba4f3_12 : decode cJ6_getChars_ba4f3 12 = .ok (.istore 6, 2) := by decide +kernel
theorem dJ6_getChars_ba4f3_14 : decode cJ6_getChars_ba4f3 14 = .ok (.iload 6, 2) := by decide +kernel
theorem dJ6_getChars_ba4f3_16 : decode cJ6_getChars_ba4f3 16 = .ok (.ifCond .ne 6, 3) := by decide +kernel
theorem dJ6_getChars_ba4f3_19 : decode cJ6_getChars_ba4f3 19 = .ok (.iload_n 0, 1) := by decide +kernel
theorem dJ6_getChars_ba4f3_20 : decode cJ6_getChars_ba4f3 20 = .ok (.ineg, 1) := by decide +kernel
theorem dJ6_getChars_ba4f3_21 : decode cJ6_getChars_ba4f3 21 = .ok (.istore_n 0, 1) := by decide +kernel
theorem dJ6_getChars_ba4f3_22 : decode cJ6_getChars_ba4f3 22 = .ok (.iload_n 0, 1) := by decide +kernel
theorem dJ6_getChars_ba4f3_23 : decode cJ6_getChars_ba4f3 23 = .ok (.bipush (-100), 2) := by decide +kernel
theorem dJ6_getChars_ba4f3_25 : decode cJ6_getChars_ba4f3 25 = .ok (.if_icmp .gt 47, 3) := by decide +kernel
theorem dJ6_getChars_ba4f3_72 : decode cJ6_getChars_ba4f3 72 = .ok (.aload_n 2, 1) := by decide +kernel
theorem dJ6_getChars_ba4f3_73 : decode cJ6_getChars_ba4f3 73 = .ok (.iinc 5 (-1), 3) := by decide +kernel
theorem dJ6_getChars_ba4f3_76 : decode cJ6_getChars_ba4f3 76 = .ok (.iload 5, 2) := by decide +kernel
theorem dJ6_getChars_ba4f3_78 : decode cJ6_getChars_ba4f3 78 = .ok (.getstatic 83, 3) := by decide +kernel
theorem dJ6_getChars_ba4f3_81 : decode cJ6_getChars_ba4f3 81 = .ok (.iload_n 0, 1) := by decide +kernel
theorem dJ6_getChars_ba4f3_82 : decode cJ6_getChars_ba4f3 82 = .ok (.ineg, 1) := by decide +kernel
theorem dJ6_getChars_ba4f3_83 : decode cJ6_getChars_ba4f3 83 = .ok (.baload, 1) := by decide +kernel
theorem dJ6_getChars_ba4f3_84 : decode cJ6_getChars_ba4f3 84 = .ok (.bastore, 1) := by decide +kernel
theorem dJ6_getChars_ba4f3_85 : decode cJ6_getChars_ba4f3 85 = .ok (.iload_n 0, 1) := by decide +kernel
theorem dJ6_getChars_ba4f3_86 : decode cJ6_getChars_ba4f3 86 = .ok (.bipush (-9), 2) := by decide +kernel
theorem dJ6_getChars_ba4f3_88 : decode cJ6_getChars_ba4f3 88 = .ok (.if_icmp .ge 16, 3) := by decide +kernel
theorem dJ6_getChars_ba4f3_104 : decode cJ6_getChars_ba4f3 104 = .ok (.iload 6, 2) := by decide +kernel
theorem dJ6_getChars_ba4f3_106 : decode cJ6_getChars_ba4f3 106 = .ok (.ifCond .eq 12, 3) := by decide +kernel
theorem dJ6_getChars_ba4f3_118 : decode cJ6_getChars_ba4f3 118 = .ok (.iload 5, 2) := by decide +kernel
theorem dJ6_getChars_ba4f3_120 : decode cJ6_getChars_ba4f3 120 = .ok (.ireturn, 1) := by decide +kernel
theorem dJ6_getChars_ba4f3_91 : decode cJ6_getChars_ba4f3 91 = .ok (.aload_n 2, 1) := by decide +kernel
theorem dJ6_getChars_ba4f3_92 : decode cJ6_getChars_ba4f3 92 = .ok (.iinc 5 (-1), 3) := by decide +kernel
theorem dJ6_getChars_ba4f3_95 : decode cJ6_getChars_ba4f3 95 = .ok (.iload 5, 2) := by decide +kernel
theorem dJ6_getChars_ba4f3_97 : decode cJ6_getChars_ba4f3 97 = .ok (.getstatic 87, 3) := by decide +kernel
theorem dJ6_getChars_ba4f3_100 : decode cJ6_getChars_ba4f3 100 = .ok (.iload_n 0, 1) := by decide +kernel
theorem dJ6_getChars_ba4f3_101 : decode cJ6_getChars_ba4f3 101 = .ok (.ineg, 1) := by decide +kernel
theorem dJ6_getChars_ba4f3_102 : decode cJ6_getChars_ba4f3 102 = .ok (.baload, 1) := by decide +kernel
theorem dJ6_getChars_ba4f3_103 : decode cJ6_getChars_ba4f3 103 = .ok (.bastore, 1) := by decide +kernel
theorem dJ6_getChars_ba4f3_28 : decode cJ6_getChars_ba4f3 28 = .ok (.iload_n 0, 1) := by decide +kernel
theorem dJ6_getChars_ba4f3_29 : decode cJ6_getChars_ba4f3 29 = .ok (.bipush 100, 2) := by decide +kernel
theorem dJ6_getChars_ba4f3_31 : decode cJ6_getChars_ba4f3 31 = .ok (.idiv, 1) := by decide +kernel
theorem dJ6_getChars_ba4f3_32 : decode cJ6_getChars_ba4f3 32 = .ok (.istore_n 3, 1) := by decide +kernel
theorem dJ6_getChars_ba4f3_33 : decode cJ6_getChars_ba4f3 33 = .ok (.iload_n 3, 1) := by decide +kernel
theorem dJ6_getChars_ba4f3_34 : decode cJ6_getChars_ba4f3 34 = .ok (.bipush 100, 2) := by decide +kernel
theorem dJ6_getChars_ba4f3_36 : decode cJ6_getChars_ba4f3 36 = .ok (.imul, 1) := by decide +kernel
theorem dJ6_getChars_ba4f3_37 : decode cJ6_getChars_ba4f3 37 = .ok (.iload_n 0, 1) := by decide +kernel
theorem dJ6_getChars_ba4f3_38 : decode cJ6_getChars_ba4f3 38 = .ok (.isub, 1) := by decide +kernel
theorem dJ6_getChars_ba4f3_39 : decode cJ6_getChars_ba4f3 39 = .ok (.istore 4, 2) := by decide +kernel
theorem dJ6_getChars_ba4f3_41 : decode cJ6_getChars_ba4f3 41 = .ok (.iload_n 3, 1) := by decide +kernel
theorem dJ6_getChars_ba4f3_42 : decode cJ6_getChars_ba4f3 42 = .ok (.istore_n 0, 1) := by decide +kernel
theorem dJ6_getChars_ba4f3_43 : decode cJ6_getChars_ba4f3 43 = .ok (.aload_n 2, 1) := by decide +kernel
theorem dJ6_getChars_ba4f3_44 : decode cJ6_getChars_ba4f3 44 = .ok (.iinc 5 (-1), 3) := by decide +kernel
theorem dJ6_getChars_ba4f3_47 : decode cJ6_getChars_ba4f3 47 = .ok (.iload 5, 2) := by decide +kernel
theorem dJ6_getChars_ba4f3_49 : decode cJ6_getChars_ba4f3 49 = .ok (.getstatic 83, 3) := by decide +kernel
theorem dJ6_getChars_ba4f3_52 : decode cJ6_getChars_ba4f3 52 = .ok (.iload 4, 2) := by decide +kernel
theorem dJ6_getChars_ba4f3_54 : decode cJ6_getChars_ba4f3 54 = .ok (.baload, 1) := by decide +kernel
theorem dJ6_getChars_ba4f3_55 : decode cJ6_getChars_ba4f3 55 = .ok (.bastore, 1) := by decide +kernel
theorem dJ6_getChars_ba4f3_56 : decode cJ6_getChars_ba4f3 56 = .ok (.aload_n 2, 1) := by decide +kernel
theorem dJ6_getChars_ba4f3_57 : decode cJ6_getChars_ba4f3 57 = .ok (.iinc 5 (-1), 3) := by decide +kernel
theorem dJ6_getChars_ba4f3_60 : decode cJ6_getChars_ba4f3 60 = .ok (.iload 5, 2) := by decide +kernel
theorem dJ6_getChars_ba4f3_62 : decode cJ6_getChars_ba4f3 62 = .ok (.getstatic 87, 3) := by decide +kernel
theorem dJ6_getChars_ba4f3_65 : decode cJ6_getChars_ba4f3 65 = .ok (.iload 4, 2) := by decide +kernel
theorem dJ6_getChars_ba4f3_67 : decode cJ6_getChars_ba4f3 67 = .ok (.baload, 1) := by decide +kernel
theorem dJ6_getChars_ba4f3_68 : decode cJ6_getChars_ba4f3 68 = .ok (.bastore, 1) := by decide +kernel
theorem dJ6_getChars_ba4f3_69 : decode cJ6_getChars_ba4f3 69 = .ok (.goto (-47), 3) := by decide +kernel
theorem dJ5_append_c97b9_0 : decode cJ5_append_c97b9 0 = .ok (.aload_n 0, 1) := by decide +kernel
theorem dJ5_append_c97b9_1 : decode cJ5_append_c97b9 1 = .ok (.getfield 79, 3) := by decide +kernel
theorem dJ5_append_c97b9_4 : decode cJ5_append_c97b9 4 = .ok (.istore_n 2, 1) := by decide +kernel
theorem dJ5_append_c97b9_5 : decode cJ5_append_c97b9 5 = .ok (.iload_n 2, 1) := by decide +kernel
theorem dJ5_append_c97b9_6 : decode cJ5_append_c97b9 6 = .ok (.iload_n 1, 1) := by decide +kernel
theorem dJ5_append_c97b9_7 : decode cJ5_append_c97b9 7 = .ok (.invokestatic 245, 3) := by decide +kernel
theorem dJ5_append_c97b9_10 : decode cJ5_append_c97b9 10 = .ok (.iadd, 1) := by decide +kernel
theorem dJ5_append_c97b9_11 : decode cJ5_append_c97b9 11 = .ok (.istore_n 3, 1) := by decide +kernel
theorem dJ5_append_c97b9_12 : decode cJ5_append_c97b9 12 = .ok (.aload_n 0, 1) := by decide +kernel
theorem dJ5_append_c97b9_13 : decode cJ5_append_c97b9 13 = .ok (.iload_n 3, 1) := by decide +kernel
theorem dJ5_append_c97b9_14 : decode cJ5_append_c97b9 14 = .ok (.invokevirtual 100, 3) := by decide +kernel
theorem dJ5_append_c97b9_17 : decode cJ5_append_c97b9 17 = .ok (.aload_n 0, 1) := by decide +kernel
theorem dJ5_append_c97b9_18 : decode cJ5_append_c97b9 18 = .ok (.invokevirtual 83, 3) := by decide +kernel
theorem dJ5_append_c97b9_21 : decode cJ5_append_c97b9 21 = .ok (.ifCond .eq 16, 3) := by decide +kernel
theorem dJ5_append_c97b9_24 : decode cJ5_append_c97b9 24 = .ok (.iload_n 1, 1) := by decide +kernel
theorem dJ5_append_c97b9_25 : decode cJ5_append_c97b9 25 = .ok (.iload_n 3, 1) := by decide +kernel
theorem dJ5_append_c97b9_26 : decode cJ5_append_c97b9 26 = .ok (.aload_n 0, 1) := by decide +kernel
theorem dJ5_append_c97b9_27 : decode cJ5_append_c97b9 27 = .ok (.getfield 15, 3) := by decide +kernel
theorem dJ5_append_c97b9_30 : decode cJ5_append_c97b9 30 = .ok (.invokestatic 248, 3) := by decide +kernel
theorem dJ5_append_c97b9_33 : decode cJ5_append_c97b9 33 = .ok (.pop, 1) := by decide +kernel
theorem dJ5_append_c97b9_34 : decode cJ5_append_c97b9 34 = .ok (.goto 14, 3) := by decide +kernel
theorem dJ5_append_c97b9_48 : decode cJ5_append_c97b9 48 = .ok (.aload_n 0, 1) := by decide +kernel
theorem dJ5_append_c97b9_49 : decode cJ5_append_c97b9 49 = .ok (.iload_n 3, 1) := by decide +kernel
theorem dJ5_append_c97b9_50 : decode cJ5_append_c97b9 50 = .ok (.putfield 79, 3) := by decide +kernel
theorem dJ5_append_c97b9_53 : decode cJ5_append_c97b9 53 = .ok (.aload_n 0, 1) := by decide +kernel
theorem dJ5_append_c97b9_54 : decode cJ5_append_c97b9 54 = .ok (.areturn, 1) := by decide +kernel
theorem dJ4_append_bf812_0 : decode cJ4_append_bf812 0 = .ok (.aload_n 0, 1) := by decide +kernel
theorem dJ4_append_bf812_1 : decode cJ4_append_bf812 1 = .ok (.iload_n 1, 1) := by decide +kernel
theorem dJ4_append_bf812_2 : decode cJ4_append_bf812 2 = .ok (.invokespecial 53, 3) := by decide +kernel
theorem dJ4_append_bf812_5 : decode cJ4_append_bf812 5 = .ok (.pop, 1) := by decide +kernel
theorem dJ4_append_bf812_6 : decode cJ4_append_bf812 6 = .ok (.aload_n 0, 1) := by decide +kernel
theorem dJ4_append_bf812_7 : decode cJ4_append_bf812 7 = .ok (.areturn, 1) := by decide +kernel
theorem dJ5_append_3fe6f_0 : decode cJ5_append_3fe6f 0 = .ok (.aload_n 0, 1) := by decide +kernel
theorem dJ5_append_3fe6f_1 : decode cJ5_append_3fe6f 1 = .ok (.aload_n 0, 1) := by decide +kernel
theorem dJ5_append_3fe6f_2 : decode cJ5_append_3fe6f 2 = .ok (.getfield 79, 3) := by decide +kernel
theorem dJ5_append_3fe6f_5 : decode cJ5_append_3fe6f 5 = .ok (.iconst 1, 1) := by decide +kernel
theorem dJ5_append_3fe6f_6 : decode cJ5_append_3fe6f 6 = .ok (.iadd, 1) := by decide +kernel
theorem dJ5_append_3fe6f_7 : decode cJ5_append_3fe6f 7 = .ok (.invokevirtual 100, 3) := by decide +kernel
theorem dJ5_append_3fe6f_10 : decode cJ5_append_3fe6f 10 = .ok (.aload_n 0, 1) := by decide +kernel
theorem dJ5_append_3fe6f_11 : decode cJ5_append_3fe6f 11 = .ok (.invokevirtual 83, 3) := by decide +kernel
theorem dJ5_append_3fe6f_14 : decode cJ5_append_3fe6f 14 = .ok (.ifCond .eq 31, 3) := by decide +kernel
theorem dJ5_append_3fe6f_17 : decode cJ5_append_3fe6f 17 = .ok (.iload_n 1, 1) := by decide +kernel
theorem dJ5_append_3fe6f_18 : decode cJ5_append_3fe6f 18 = .ok (.invokestatic 191, 3) := by decide +kernel
theorem dJ5_append_3fe6f_21 : decode cJ5_append_3fe6f 21 = .ok (.ifCond .eq 24, 3) := by decide +kernel
theorem dJ5_append_3fe6f_24 : decode cJ5_append_3fe6f 24 = .ok (.aload_n 0, 1) := by decide +kernel
theorem dJ5_append_3fe6f_25 : decode cJ5_append_3fe6f 25 = .ok (.getfield 15, 3) := by decide +kernel
theorem dJ5_append_3fe6f_28 : decode cJ5_append_3fe6f 28 = .ok (.aload_n 0, 1) := by decide +kernel
theorem dJ5_append_3fe6f_29 : decode cJ5_append_3fe6f 29 = .ok (.dup, 1) := by decide +kernel
theorem dJ5_append_3fe6f_30 : decode cJ5_append_3fe6f 30 = .ok (.getfield 79, 3) := by decide +kernel
theorem dJ5_append_3fe6f_33 : decode cJ5_append_3fe6f 33 = .ok (.dup_x1, 1) := by decide +kernel
theorem dJ5_append_3fe6f_34 : decode cJ5_append_3fe6f 34 = .ok (.iconst 1, 1) := by decide +kernel
theorem dJ5_append_3fe6f_35 : decode cJ5_append_3fe6f 35 = .ok (.iadd, 1) := by decide +kernel
theorem dJ5_append_3fe6f_36 : decode cJ5_append_3fe6f 36 = .ok (.putfield 79, 3) := by decide +kernel
theorem dJ5_append_3fe6f_39 : decode cJ5_append_3fe6f 39 = .ok (.iload_n 1, 1) := by decide +kernel
theorem dJ5_append_3fe6f_40 : decode cJ5_append_3fe6f 40 = .ok (.i2b, 1) := by decide +kernel
theorem dJ5_append_3fe6f_41 : decode cJ5_append_3fe6f 41 = .ok (.bastore, 1) := by decide +kernel
theorem dJ5_append_3fe6f_42 : decode cJ5_append_3fe6f 42 = .ok (.goto 33, 3) := by decide +kernel
theorem dJ5_append_3fe6f_75 : decode cJ5_append_3fe6f 75 = .ok (.aload_n 0, 1) := by decide +kernel
theorem dJ5_append_3fe6f_76 : decode cJ5_append_3fe6f 76 = .ok (.areturn, 1) := by decide +kernel
theorem dJ4_append_cf468_0 : decode cJ4_append_cf468 0 = .ok (.aload_n 0, 1) := by decide +kernel
theorem dJ4_append_cf468_1 : decode cJ4_append_cf468 1 = .ok (.iload_n 1, 1) := by decide +kernel
theorem dJ4_append_cf468_2 : decode cJ4_append_cf468 2 = .ok (.invokespecial 50, 3) := by decide +kernel
theorem dJ4_append_cf468_5 : decode cJ4_append_cf468 5 = .ok (.pop, 1) := by decide +kernel
theorem dJ4_append_cf468_6 : decode cJ4_append_cf468 6 = .ok (.aload_n 0, 1) := by decide +kernel
theorem dJ4_append_cf468_7 : decode cJ4_append_cf468 7 = .ok (.areturn, 1) := by decide +kernel
theorem dJ5_init_d00df_0 : decode cJ5_init_d00df 0 = .ok (.aload_n 0, 1) := by decide +kernel
theorem dJ5_init_d00df_1 : decode cJ5_init_d00df 1 = .ok (.invokespecial 3, 3) := by decide +kernel
theorem dJ5_init_d00df_4 : decode cJ5_init_d00df 4 = .ok (.getstatic 18, 3) := by decide +kernel
theorem dJ5_init_d00df_7 : decode cJ5_init_d00df 7 = .ok (.ifCond .eq 18, 3) := by decide +kernel
theorem dJ5_init_d00df_10 : decode cJ5_init_d00df 10 = .ok (.aload_n 0, 1) := by decide +kernel
theorem dJ5_init_d00df_11 : decode cJ5_init_d00df 11 = .ok (.iload_n 1, 1) := by decide +kernel
theorem dJ5_init_d00df_12 : decode cJ5_init_d00df 12 = .ok (.newarray .byte, 2) := by decide +kernel
theorem dJ5_init_d00df_14 : decode cJ5_init_d00df 14 = .ok (.putfield 15, 3) := by decide +kernel
theorem dJ5_init_d00df_17 : decode cJ5_init_d00df 17 = .ok (.aload_n 0, 1) := by decide +kernel
theorem dJ5_init_d00df_18 : decode cJ5_init_d00df 18 = .ok (.iconst 0, 1) := by decide +kernel
theorem dJ5_init_d00df_19 : decode cJ5_init_d00df 19 = .ok (.putfield 22, 3) := by decide +kernel
theorem dJ5_init_d00df_22 : decode cJ5_init_d00df 22 = .ok (.goto 16, 3) := by decide +kernel
theorem dJ5_init_d00df_38 : decode cJ5_init_d00df 38 = .ok (.return_, 1) := by decide +kernel
theorem dJ4_init_da8c8_0 : decode cJ4_init_da8c8 0 = .ok (.aload_n 0, 1) := by decide +kernel
theorem dJ4_init_da8c8_1 : decode cJ4_init_da8c8 1 = .ok (.bipush 16, 2) := by decide +kernel
theorem dJ4_init_da8c8_3 : decode cJ4_init_da8c8 3 = .ok (.invokespecial 1, 3) := by decide +kernel
theorem dJ4_init_da8c8_6 : decode cJ4_init_da8c8 6 = .ok (.return_, 1) := by decide +kernel
theorem jw79 : Cond.fieldLink RJ6 83 "java/lang/Integer" "DigitOnes" "[B" ∈ WG := WG_of 697 (by decide +kernel) rfl
theorem jw80 : Cond.fieldLink RJ6 87 "java/lang/Integer" "DigitTens" "[B" ∈ WG := WG_of 699 (by decide +kernel) rfl
set_option maxRecDepth 20000 in
theorem jw81 : Cond.code yJ6_stringSize_0f7a4 cJ6_stringSize_0f7a4 4 (some .int) ∈ WG := WG_of 693 rfl rfl
theorem jw82 : Cond.initialized RJ6 ∈ WG := WG_of 44 (by decide +kernel) rfl
theorem jw83 : Cond.methodLink RJ5 245 yJ6_stringSize_0f7a4 ∈ WG := WG_of 691 (by decide +kernel) rfl
theorem jw84 : Cond.static yJ6_stringSize_0f7a4 ∈ WG := WG_of 692 (by decide +kernel) rfl
theorem jw85 : Cond.selects RJ4 yJ5_isLatin1_aae02 yJ5_isLatin1_aae02 ∈ WG := WG_of 613 (by decide +kernel) rfl
set_option maxRecDepth 20000 in
theorem jw86 : Cond.code yJ5_isLatin1_aae02 cJ5_isLatin1_aae02 1 (some .boolean) ∈ WG := WG_of 614 rfl rfl
theorem jw87 : Cond.methodLink RJ5 83 yJ5_isLatin1_aae02 ∈ WG := WG_of 610 (by decide +kernel) rfl
theorem jw88 : Cond.sameMethod "java/lang/AbstractStringBuilder" "java/lang/AbstractStringBuilder" "isLatin1" "()Z" ∈ WG := WG_of 612 (by decide +kernel) rfl
theorem jw89 : Cond.instanceMethod yJ5_isLatin1_aae02 ∈ WG := WG_of 611 (by decide +kernel) rfl
set_option maxRecDepth 20000 in
theorem jw90 : Cond.code yJ6_getChars_ba4f3 cJ6_getChars_ba4f3 7 (some .int) ∈ WG := WG_of 696 rfl rfl
theorem jw91 : Cond.methodLink RJ5 248 yJ6_getChars_ba4f3 ∈ WG := WG_of 694 (by decide +kernel) rfl
theorem jw92 : Cond.static yJ6_getChars_ba4f3 ∈ WG := WG_of 695 (by decide +kernel) rfl
set_option maxRecDepth 20000 in
theorem jw93 : Cond.code yJ5_append_c97b9 cJ5_append_c97b9 4 (some (.object "java/lang/AbstractStringBuilder")) ∈ WG := WG_of 690 rfl rfl
theorem jw94 : Cond.methodLink RJ4 53 yJ5_append_c97b9 ∈ WG := WG_of 688 (by decide +kernel) rfl
theorem jw95 : Cond.sameMethod "java/lang/AbstractStringBuilder" "java/lang/AbstractStringBuilder" "append" "(I)Ljava/lang/AbstractStringBuilder;" ∈ WG := WG_of 934 (by decide +kernel) rfl
theorem jw96 : Cond.instanceMethod yJ5_append_c97b9 ∈ WG := WG_of 689 (by decide +kernel) rfl
set_option maxRecDepth 20000 in
theorem jw97 : Cond.code yJ1_canEncode_fc78d cJ1_canEncode_fc78d 1 (some .boolean) ∈ WG := WG_of 794 rfl rfl
theorem jw98 : Cond.methodLink RJ5 191 yJ1_canEncode_fc78d ∈ WG := WG_of 792 (by decide +kernel) rfl
theorem jw99 : Cond.static yJ1_canEncode_fc78d ∈ WG := WG_of 793 (by decide +kernel) rfl
set_option maxRecDepth 20000 in
theorem jw100 : Cond.code yJ5_append_3fe6f cJ5_append_3fe6f 2 (some (.object "java/lang/AbstractStringBuilder")) ∈ WG := WG_of 791 rfl rfl
theorem jw101 : Cond.methodLink RJ4 50 yJ5_append_3fe6f ∈ WG := WG_of 789 (by decide +kernel) rfl
theorem jw102 : Cond.sameMethod "java/lang/AbstractStringBuilder" "java/lang/AbstractStringBuilder" "append" "(C)Ljava/lang/AbstractStringBuilder;" ∈ WG := WG_of 935 (by decide +kernel) rfl
theorem jw103 : Cond.instanceMethod yJ5_append_3fe6f ∈ WG := WG_of 790 (by decide +kernel) rfl
theorem jw104 : Cond.methodLink RJ5 3 ⟨"java/lang/Object", "<init>", "()V"⟩ ∈ WG := WG_of 541 (by decide +kernel) rfl
set_option maxRecDepth 20000 in
theorem jw105 : Cond.code yJ5_init_d00df cJ5_init_d00df 2 none ∈ WG := WG_of 540 rfl rfl
theorem jw106 : Cond.methodLink RJ4 1 yJ5_init_d00df ∈ WG := WG_of 538 (by decide +kernel) rfl
theorem jw107 : Cond.instanceMethod yJ5_init_d00df ∈ WG := WG_of 539 (by decide +kernel) rfl
set_option maxRecDepth 20000 in
theorem jn_size (l : Launch) (D : va_G) (ad : Nat → Nat) {ws : va_W} {tys : List (ClassId × FieldType)} {x : Nat} (hx0 : x < 1000) : Met l yJ6_stringSize_0f7a4 (Cond.code yJ6_stringSize_0f7a4 cJ6_stringSize_0f7a4 4 (some .int) :: WG) (k2_rm 0 0) (PcR D ad ws tys [.int (nI x)]) (QcVal (some (.int (nI (dgn x))))) 0 0 (fun _ => False) := by
  refine Met.ofW (cc := cJ6_stringSize_0f7a4) (maxL := 4) (ret := (some .int)) (by decide +kernel) rfl ?_
  intro p e s m args below meth c0 s₁ B0 hml hv
  obtain ⟨rfl, hT, hP, hK⟩ := hv
  have hx := B0.exec
  have hb := B0.bytes
  have hr := B0.returns
  have hts0 := atoms_spec (ws := Cond.code yJ6_stringSize_0f7a4 cJ6_stringSize_0f7a4 4 (some .int) :: WG) B0.pre
  have hts : ∀ w ∈ WG, w.before ([.int (nI x)] : List Value).toArray s = true := fun w hw => hts0 w (List.mem_cons_of_mem _ hw)
  have hown : s.vm.findClass RJ6 = some m.cls := findClass_of_methodNamed B0.named
  have hlocks := B0.notSynchronized
  have hl := lv_entry ([.int (nI x)]) (n := 4) (Nat.le_of_ble_eq_true rfl)
  rw [lg_entry_eq]
  generalize (lg_sl ([.int (nI x)]) ++ List.replicate (4 - (lg_sl ([.int (nI x)])).length) Slot.unset).toArray = ls at hl ⊢
  have hl : lv_has ls 4 [(0, .int (nI x))] := hl
  have hS : va_S (fun _ => False) s.heap s.heap [] := va_S.rf
  refine lv_iconst (v := nI 1) hx hb dJ6_stringSize_0f7a4_0 (by decide) ?_
  refine lv_istore_n hx hb dJ6_stringSize_0f7a4_1 rfl hl (by decide) rfl (fun ls hl => ?_)
  refine lv_iload_n hx hb dJ6_stringSize_0f7a4_2 rfl (lv_at hl 1 rfl) ?_
  refine lv_if_lt (tgt := 11) hx hb dJ6_stringSize_0f7a4_3 (by first | decide | rfl) (fun q9 => absurd q9 (nI_pos (by omega))) (fun _ => ?_)
  refine lv_iconst (v := nI 0) hx hb dJ6_stringSize_0f7a4_6 (by decide) ?_
  refine lv_istore_n hx hb dJ6_stringSize_0f7a4_7 rfl hl (by decide) rfl (fun ls hl => ?_)
  refine lv_iload_n hx hb dJ6_stringSize_0f7a4_8 rfl (lv_at hl 1 rfl) ?_
  refine lv_ineg hx hb dJ6_stringSize_0f7a4_9 ?_
  refine lv_istore_n hx hb dJ6_stringSize_0f7a4_10 rfl hl (by decide) rfl (fun ls hl => ?_)
  refine lv_bipush (v := -(nI 10)) hx hb dJ6_stringSize_0f7a4_11 (by decide) ?_
  refine lv_istore_n hx hb dJ6_stringSize_0f7a4_13 rfl hl (by decide) rfl (fun ls hl => ?_)
  refine lv_iconst (v := nI 1) hx hb dJ6_stringSize_0f7a4_14 (by decide) ?_
  refine lv_istore_n hx hb dJ6_stringSize_0f7a4_15 rfl hl (by decide) rfl (fun ls hl => ?_)
  rcases (by omega : (x < 10) ∨ (10 ≤ x ∧ x < 100) ∨ (100 ≤ x)) with hz | hz | hz
  · rw [dg1 (by omega)]
    refine lv_iload_n hx hb dJ6_stringSize_0f7a4_16 rfl (lv_at hl 0 rfl) ?_
    refine lv_bipush (v := nI 10) hx hb dJ6_stringSize_0f7a4_17 (by decide) ?_
    refine lv_icmp_ge (tgt := 42) hx hb dJ6_stringSize_0f7a4_19 (by first | decide | rfl) (fun q9 => absurd q9 (by decide)) (fun _ => ?_)
    refine lv_iload_n hx hb dJ6_stringSize_0f7a4_22 rfl (lv_at hl 2 rfl) ?_
    refine lv_iload_n hx hb dJ6_stringSize_0f7a4_23 rfl (lv_at hl 1 rfl) ?_
    refine lv_icmp_le (tgt := 31) hx hb dJ6_stringSize_0f7a4_24 (by first | decide | rfl) (fun q9 => absurd q9 (ngnle (by omega) (by omega))) (fun _ => ?_)
    refine lv_iload_n hx hb dJ6_stringSize_0f7a4_27 rfl (lv_at hl 0 rfl) ?_
    refine lv_iload_n hx hb dJ6_stringSize_0f7a4_28 rfl (lv_at hl 3 rfl) ?_
    refine lv_iadd hx hb dJ6_stringSize_0f7a4_29 ?_
    rw [nI_add]
    exact W.iret hx hb hr (fun t ht hW => ⟨rfl, ht⟩) hS.2.2 dJ6_stringSize_0f7a4_30
  · rw [dg2 (by omega)]
    refine lv_iload_n hx hb dJ6_stringSize_0f7a4_16 rfl (lv_at hl 0 rfl) ?_
    refine lv_bipush (v := nI 10) hx hb dJ6_stringSize_0f7a4_17 (by decide) ?_
    refine lv_icmp_ge (tgt := 42) hx hb dJ6_stringSize_0f7a4_19 (by first | decide | rfl) (fun q9 => absurd q9 (by decide)) (fun _ => ?_)
    refine lv_iload_n hx hb dJ6_stringSize_0f7a4_22 rfl (lv_at hl 2 rfl) ?_
    refine lv_iload_n hx hb dJ6_stringSize_0f7a4_23 rfl (lv_at hl 1 rfl) ?_
    refine lv_icmp_le (tgt := 31) hx hb dJ6_stringSize_0f7a4_24 (by first | decide | rfl) (fun _ => ?_) (fun q9 => by first | exact absurd q9 (ngle (by omega) (by omega)) | exact absurd (ngle (by omega) (by omega)) q9)
    refine lv_bipush (v := nI 10) hx hb dJ6_stringSize_0f7a4_31 (by decide) ?_
    refine lv_iload_n hx hb dJ6_stringSize_0f7a4_33 rfl (lv_at hl 1 rfl) ?_
    refine lv_imul hx hb dJ6_stringSize_0f7a4_34 ?_
    rw [show nI 10 * -(nI 10) = -(nI 100) from by decide]
    refine lv_istore_n hx hb dJ6_stringSize_0f7a4_35 rfl hl (by decide) rfl (fun ls hl => ?_)
    refine lv_iinc (k := 1) (v := nI 2) hx hb dJ6_stringSize_0f7a4_36 hl rfl (by decide) (by decide) rfl (fun ls hl => ?_)
    refine lv_goto (tgt := 16) hx hb dJ6_stringSize_0f7a4_39 (by first | decide | rfl) ?_
    refine lv_iload_n hx hb dJ6_stringSize_0f7a4_16 rfl (lv_at hl 0 rfl) ?_
    refine lv_bipush (v := nI 10) hx hb dJ6_stringSize_0f7a4_17 (by decide) ?_
    refine lv_icmp_ge (tgt := 42) hx hb dJ6_stringSize_0f7a4_19 (by first | decide | rfl) (fun q9 => absurd q9 (by decide)) (fun _ => ?_)
    refine lv_iload_n hx hb dJ6_stringSize_0f7a4_22 rfl (lv_at hl 2 rfl) ?_
    refine lv_iload_n hx hb dJ6_stringSize_0f7a4_23 rfl (lv_at hl 1 rfl) ?_
    refine lv_icmp_le (tgt := 31) hx hb dJ6_stringSize_0f7a4_24 (by first | decide | rfl) (fun q9 => absurd q9 (ngnle (by omega) (by omega))) (fun _ => ?_)
    refine lv_iload_n hx hb dJ6_stringSize_0f7a4_27 rfl (lv_at hl 0 rfl) ?_
    refine lv_iload_n hx hb dJ6_stringSize_0f7a4_28 rfl (lv_at hl 3 rfl) ?_
    refine lv_iadd hx hb dJ6_stringSize_0f7a4_29 ?_
    rw [nI_add]
    exact W.iret hx hb hr (fun t ht hW => ⟨rfl, ht⟩) hS.2.2 dJ6_stringSize_0f7a4_30
  · rw [dg3 (by omega)]
    refine lv_iload_n hx hb dJ6_stringSize_0f7a4_16 rfl (lv_at hl 0 rfl) ?_
    refine lv_bipush (v := nI 10) hx hb dJ6_stringSize_0f7a4_17 (by decide) ?_
    refine lv_icmp_ge (tgt := 42) hx hb dJ6_stringSize_0f7a4_19 (by first | decide | rfl) (fun q9 => absurd q9 (by decide)) (fun _ => ?_)
    refine lv_iload_n hx hb dJ6_stringSize_0f7a4_22 rfl (lv_at hl 2 rfl) ?_
    refine lv_iload_n hx hb dJ6_stringSize_0f7a4_23 rfl (lv_at hl 1 rfl) ?_
    refine lv_icmp_le (tgt := 31) hx hb dJ6_stringSize_0f7a4_24 (by first | decide | rfl) (fun _ => ?_) (fun q9 => by first | exact absurd q9 (ngle (by omega) (by omega)) | exact absurd (ngle (by omega) (by omega)) q9)
    refine lv_bipush (v := nI 10) hx hb dJ6_stringSize_0f7a4_31 (by decide) ?_
    refine lv_iload_n hx hb dJ6_stringSize_0f7a4_33 rfl (lv_at hl 1 rfl) ?_
    refine lv_imul hx hb dJ6_stringSize_0f7a4_34 ?_
    rw [show nI 10 * -(nI 10) = -(nI 100) from by decide]
    refine lv_istore_n hx hb dJ6_stringSize_0f7a4_35 rfl hl (by decide) rfl (fun ls hl => ?_)
    refine lv_iinc (k := 1) (v := nI 2) hx hb dJ6_stringSize_0f7a4_36 hl rfl (by decide) (by decide) rfl (fun ls hl => ?_)
    refine lv_goto (tgt := 16) hx hb dJ6_stringSize_0f7a4_39 (by first | decide | rfl) ?_
    refine lv_iload_n hx hb dJ6_stringSize_0f7a4_16 rfl (lv_at hl 0 rfl) ?_
    refine lv_bipush (v := nI 10) hx hb dJ6_stringSize_0f7a4_17 (by decide) ?_
    refine lv_icmp_ge (tgt := 42) hx hb dJ6_stringSize_0f7a4_19 (by first | decide | rfl) (fun q9 => absurd q9 (by decide)) (fun _ => ?_)
    refine lv_iload_n hx hb dJ6_stringSize_0f7a4_22 rfl (lv_at hl 2 rfl) ?_
    refine lv_iload_n hx hb dJ6_stringSize_0f7a4_23 rfl (lv_at hl 1 rfl) ?_
    refine lv_icmp_le (tgt := 31) hx hb dJ6_stringSize_0f7a4_24 (by first | decide | rfl) (fun _ => ?_) (fun q9 => by first | exact absurd q9 (ngle (by omega) (by omega)) | exact absurd (ngle (by omega) (by omega)) q9)
    refine lv_bipush (v := nI 10) hx hb dJ6_stringSize_0f7a4_31 (by decide) ?_
    refine lv_iload_n hx hb dJ6_stringSize_0f7a4_33 rfl (lv_at hl 1 rfl) ?_
    refine lv_imul hx hb dJ6_stringSize_0f7a4_34 ?_
    rw [show nI 10 * -(nI 100) = -(nI 1000) from by decide]
    refine lv_istore_n hx hb dJ6_stringSize_0f7a4_35 rfl hl (by decide) rfl (fun ls hl => ?_)
    refine lv_iinc (k := 1) (v := nI 3) hx hb dJ6_stringSize_0f7a4_36 hl rfl (by decide) (by decide) rfl (fun ls hl => ?_)
    refine lv_goto (tgt := 16) hx hb dJ6_stringSize_0f7a4_39 (by first | decide | rfl) ?_
    refine lv_iload_n hx hb dJ6_stringSize_0f7a4_16 rfl (lv_at hl 0 rfl) ?_
    refine lv_bipush (v := nI 10) hx hb dJ6_stringSize_0f7a4_17 (by decide) ?_
    refine lv_icmp_ge (tgt := 42) hx hb dJ6_stringSize_0f7a4_19 (by first | decide | rfl) (fun q9 => absurd q9 (by decide)) (fun _ => ?_)
    refine lv_iload_n hx hb dJ6_stringSize_0f7a4_22 rfl (lv_at hl 2 rfl) ?_
    refine lv_iload_n hx hb dJ6_stringSize_0f7a4_23 rfl (lv_at hl 1 rfl) ?_
    refine lv_icmp_le (tgt := 31) hx hb dJ6_stringSize_0f7a4_24 (by first | decide | rfl) (fun q9 => absurd q9 (ngnle (by omega) (by omega))) (fun _ => ?_)
    refine lv_iload_n hx hb dJ6_stringSize_0f7a4_27 rfl (lv_at hl 0 rfl) ?_
    refine lv_iload_n hx hb dJ6_stringSize_0f7a4_28 rfl (lv_at hl 3 rfl) ?_
    refine lv_iadd hx hb dJ6_stringSize_0f7a4_29 ?_
    rw [nI_add]
    exact W.iret hx hb hr (fun t ht hW => ⟨rfl, ht⟩) hS.2.2 dJ6_stringSize_0f7a4_30

set_option maxRecDepth 20000 in
theorem jn_getChars (l : Launch) (D : va_G) (ad : Nat → Nat) {v cp : Nat} {g : Nat → Int32} {cB : ClassId} {sz x k : Nat} (hk : x < 1000 ∧ dgn x ≤ k ∧ k ≤ cp ∧ cp ≤ 300) (hg : FITB g) : Met l yJ6_getChars_ba4f3 (Cond.code yJ6_getChars_ba4f3 cJ6_getChars_ba4f3 7 (some .int) :: WG) { frames := 1, cells := 0, slots := 0, locals := 60 } (PcW D ad [(v, .inl (cB, cp, .inl g))] [(cB, .byte)] sz [.int (nI x), .int (nI k), .ref v]) (QcW D ([(v, .inl (cB, cp, .inl g))]) sz (fun x ws' tys' => ∃ z : Int32, x = some (.int z) ∧ ∃ g' : Nat → Int32, ws' = [(v, .inl (cB, cp, .inl g'))] ∧ tys' = [(cB, .byte)] ∧ FITB g')) 0 0 (va_A ([(v, .inl (cB, cp, .inl g))]) sz) := by
  refine Met.ofW (cc := cJ6_getChars_ba4f3) (maxL := 7) (ret := (some .int)) (by decide +kernel) rfl ?_
  intro p e s m args below meth c0 s₁ B0 hml hv
  obtain ⟨rfl, hz, hP, hK, hD0, hT, hC⟩ := hv
  have hx := B0.exec
  have hb := B0.bytes
  have hr := B0.returns
  have hts0 := atoms_spec (ws := Cond.code yJ6_getChars_ba4f3 cJ6_getChars_ba4f3 7 (some .int) :: WG) B0.pre
  have hts : ∀ w ∈ WG, w.before ([.int (nI x), .int (nI k), .ref v] : List Value).toArray s = true := fun w hw => hts0 w (List.mem_cons_of_mem _ hw)
  have hown : s.vm.findClass RJ6 = some m.cls := findClass_of_methodNamed B0.named
  have hlocks := B0.notSynchronized
  have hl := lv_entry ([.int (nI x), .int (nI k), .ref v]) (n := 7) (Nat.le_of_ble_eq_true rfl)
  rw [lg_entry_eq]
  generalize (lg_sl ([.int (nI x), .int (nI k), .ref v]) ++ List.replicate (7 - (lg_sl ([.int (nI x), .int (nI k), .ref v])).length) Slot.unset).toArray = ls at hl ⊢
  have hl : lv_has ls 7 [(0, .int (nI x)), (1, .int (nI k)), (2, .ref v)] := hl
  subst hz
  have hD := hD0.self (sz := s.heap.size)
  have hA : ∀ q, s.heap.size ≤ q → va_A ([(v, .inl (cB, cp, .inl g))]) s.heap.size q := fun q h => Or.inr h
  have hS : va_S (va_A ([(v, .inl (cB, cp, .inl g))]) s.heap.size) s.heap s.heap [] := va_S.rf
  refine lv_iload_n hx hb dJ6_getChars_ba4f3_0 rfl (lv_at hl 1 rfl) ?_
  refine lv_istore hx hb dJ6_getChars_ba4f3_1 hl (by decide) rfl (fun ls hl => ?_)
  refine lv_iload_n hx hb dJ6_getChars_ba4f3_3 rfl (lv_at hl 1 rfl) ?_
  refine lv_if_ge (tgt := 11) hx hb dJ6_getChars_ba4f3_4 (by first | decide | rfl) (fun _ => ?_) (fun q9 => by first | exact absurd q9 (nI_pos' (by omega)) | exact absurd (nI_pos' (by omega)) q9)
  refine lv_iconst (v := nI 0) hx hb dJ6_getChars_ba4f3_11 (by decide) ?_
  refine lv_istore hx hb dJ6_getChars_ba4f3_12 hl (by decide) rfl (fun ls hl => ?_)
  refine lv_iload hx hb dJ6_getChars_ba4f3_14 (lv_at hl 0 rfl) ?_
  refine lv_if_ne (tgt := 22) hx hb dJ6_getChars_ba4f3_16 (by first | decide | rfl) (fun q9 => absurd q9 (fun z => z rfl)) (fun _ => ?_)
  refine lv_iload_n hx hb dJ6_getChars_ba4f3_19 rfl (lv_at hl 2 rfl) ?_
  refine lv_ineg hx hb dJ6_getChars_ba4f3_20 ?_
  refine lv_istore_n hx hb dJ6_getChars_ba4f3_21 rfl hl (by decide) rfl (fun ls hl => ?_)
  rcases (by omega : (x < 100) ∨ (100 ≤ x)) with hz | hz
  · have hdg : (x ≤ 9 → dgn x = 1) ∧ (¬ x ≤ 9 → dgn x = 2) := ⟨fun h => dg1 (by omega), fun h => dg2 (by omega)⟩
    have hdg1 : 1 ≤ dgn x := by by_cases h : x ≤ 9 <;> simp [h] at hdg <;> omega
    refine lv_iload_n hx hb dJ6_getChars_ba4f3_22 rfl (lv_at hl 0 rfl) ?_
    refine lv_bipush (v := -(nI 100)) hx hb dJ6_getChars_ba4f3_23 (by decide) ?_
    refine lv_icmp_gt (tgt := 72) hx hb dJ6_getChars_ba4f3_25 (by first | decide | rfl) (fun _ => ?_) (fun q9 => by first | exact absurd q9 (nglt (show x < 100 by omega) (by decide)) | exact absurd (nglt (show x < 100 by omega) (by decide)) q9)
    refine lv_aload_n hx hb dJ6_getChars_ba4f3_72 rfl (lv_at hl 4 rfl) ?_
    refine lv_iinc (k := 2) (v := nI (k - 1)) hx hb dJ6_getChars_ba4f3_73 hl rfl (nI_dec (by omega) (by omega)) (by decide) rfl (fun ls hl => ?_)
    refine lv_iload hx hb dJ6_getChars_ba4f3_76 (lv_at hl 0 rfl) ?_
    obtain ⟨td, hz1, hz2⟩ := hT.2.2.2.2.1
    refine va_gets hx hb hz1 hS hown (hts _ jw79) (fun _ h => h) dJ6_getChars_ba4f3_78 ?_
    refine lv_iload_n hx hb dJ6_getChars_ba4f3_81 rfl (lv_at hl 1 rfl) ?_
    refine lv_ineg hx hb dJ6_getChars_ba4f3_82 ?_
    rw [Int32.neg_neg]
    refine va_tb hx hb hz2 hS (vp_in_nI (show x < 100 by omega) (by decide)) (v := .int (dgO (x))) (by rw [nI_clamp (by omega)]) dJ6_getChars_ba4f3_83 ?_
    refine va_bast hx hb hK hP hD hS 0 0 rfl rfl (vp_in_nI (show k - 1 < cp by omega) (by omega)) dJ6_getChars_ba4f3_84 (fun H1 locs1 hP hD hS => ?_)
    generalize hgn : upd _ _ _ = gn at hP hD
    replace hg : FITB gn := by rw [← hgn]; exact FITB_upd hg
    clear hgn
    replace hP : va_P D vwCl [(v, .inl (cB, cp, .inl gn))] _ := hP
    replace hD : va_D _ [(v, .inl (cB, cp, .inl gn))] := hD
    refine lv_iload_n hx hb dJ6_getChars_ba4f3_85 rfl (lv_at hl 1 rfl) ?_
    refine lv_bipush (v := -(nI 9)) hx hb dJ6_getChars_ba4f3_86 (by decide) ?_
    by_cases hy : x ≤ 9
    · refine lv_icmp_ge (tgt := 104) hx hb dJ6_getChars_ba4f3_88 (by first | decide | rfl) (fun _ => ?_) (fun q9 => by first | exact absurd q9 (ngle (by omega) (by decide)) | exact absurd (ngle (by omega) (by decide)) q9)
      refine lv_iload hx hb dJ6_getChars_ba4f3_104 (lv_at hl 2 rfl) ?_
      refine lv_if_eq (tgt := 118) hx hb dJ6_getChars_ba4f3_106 (by first | decide | rfl) (fun _ => ?_) (fun q9 => by first | exact absurd q9 (rfl) | exact absurd (rfl) q9)
      refine lv_iload hx hb dJ6_getChars_ba4f3_118 (lv_at hl 0 rfl) ?_
      refine W.widen (k := 0) (n := 0) (by first | omega | (dsimp only; omega)) (by first | omega | (dsimp only; omega)) ?_
      exact W.iret hx hb hr (fun t ht hW => ⟨⟨(some (.int _)), _, _, rfl, ⟨_, rfl, _, rfl, rfl, hg⟩, by rw [ht]; exact hP.sub [0] rfl, va_K.moved hW.alike hK, hD.sub [0] rfl rfl⟩, hS.F ht⟩) hS.2.2 dJ6_getChars_ba4f3_120
    · refine lv_icmp_ge (tgt := 104) hx hb dJ6_getChars_ba4f3_88 (by first | decide | rfl) (fun q9 => absurd q9 (ngnle (by omega) (by omega))) (fun _ => ?_)
      refine lv_aload_n hx hb dJ6_getChars_ba4f3_91 rfl (lv_at hl 4 rfl) ?_
      refine lv_iinc (k := 0) (v := nI (k - 1 - 1)) hx hb dJ6_getChars_ba4f3_92 hl rfl (nI_dec (by omega) (by omega)) (by decide) rfl (fun ls hl => ?_)
      refine lv_iload hx hb dJ6_getChars_ba4f3_95 (lv_at hl 0 rfl) ?_
      obtain ⟨td, hz1, hz2⟩ := hT.2.2.2.2.2
      refine va_gets hx hb hz1 hS hown (hts _ jw80) (fun _ h => h) dJ6_getChars_ba4f3_97 ?_
      refine lv_iload_n hx hb dJ6_getChars_ba4f3_100 rfl (lv_at hl 1 rfl) ?_
      refine lv_ineg hx hb dJ6_getChars_ba4f3_101 ?_
      rw [Int32.neg_neg]
      refine va_tb hx hb hz2 hS (vp_in_nI (show x < 100 by omega) (by decide)) (v := .int (dgT (x))) (by rw [nI_clamp (by omega)]) dJ6_getChars_ba4f3_102 ?_
      refine va_bast hx hb hK hP hD hS 0 0 rfl rfl (vp_in_nI (show k - 1 - 1 < cp by omega) (by omega)) dJ6_getChars_ba4f3_103 (fun H1 locs1 hP hD hS => ?_)
      generalize hgn : upd _ _ _ = gn at hP hD
      replace hg : FITB gn := by rw [← hgn]; exact FITB_upd hg
      clear hgn
      replace hP : va_P D vwCl [(v, .inl (cB, cp, .inl gn))] _ := hP
      replace hD : va_D _ [(v, .inl (cB, cp, .inl gn))] := hD
      refine lv_iload hx hb dJ6_getChars_ba4f3_104 (lv_at hl 2 rfl) ?_
      refine lv_if_eq (tgt := 118) hx hb dJ6_getChars_ba4f3_106 (by first | decide | rfl) (fun _ => ?_) (fun q9 => by first | exact absurd q9 (rfl) | exact absurd (rfl) q9)
      refine lv_iload hx hb dJ6_getChars_ba4f3_118 (lv_at hl 0 rfl) ?_
      refine W.widen (k := 0) (n := 0) (by first | omega | (dsimp only; omega)) (by first | omega | (dsimp only; omega)) ?_
      exact W.iret hx hb hr (fun t ht hW => ⟨⟨(some (.int _)), _, _, rfl, ⟨_, rfl, _, rfl, rfl, hg⟩, by rw [ht]; exact hP.sub [0] rfl, va_K.moved hW.alike hK, hD.sub [0] rfl rfl⟩, hS.F ht⟩) hS.2.2 dJ6_getChars_ba4f3_120
  · have hdg := dg3 hz
    refine lv_iload_n hx hb dJ6_getChars_ba4f3_22 rfl (lv_at hl 0 rfl) ?_
    refine lv_bipush (v := -(nI 100)) hx hb dJ6_getChars_ba4f3_23 (by decide) ?_
    refine lv_icmp_gt (tgt := 72) hx hb dJ6_getChars_ba4f3_25 (by first | decide | rfl) (fun q9 => absurd q9 (ngnl (by omega) (by omega))) (fun _ => ?_)
    refine lv_iload_n hx hb dJ6_getChars_ba4f3_28 rfl (lv_at hl 0 rfl) ?_
    refine lv_bipush (v := nI 100) hx hb dJ6_getChars_ba4f3_29 (by decide) ?_
    refine lv_idiv hx hb dJ6_getChars_ba4f3_31 (by decide) ?_
    rw [gc1 hk.1]
    refine lv_istore_n hx hb dJ6_getChars_ba4f3_32 rfl hl (by decide) rfl (fun ls hl => ?_)
    refine lv_iload_n hx hb dJ6_getChars_ba4f3_33 rfl (lv_at hl 0 rfl) ?_
    refine lv_bipush (v := nI 100) hx hb dJ6_getChars_ba4f3_34 (by decide) ?_
    refine lv_imul hx hb dJ6_getChars_ba4f3_36 ?_
    refine lv_iload_n hx hb dJ6_getChars_ba4f3_37 rfl (lv_at hl 1 rfl) ?_
    refine lv_isub hx hb dJ6_getChars_ba4f3_38 ?_
    rw [gc2 hk.1]
    refine lv_istore hx hb dJ6_getChars_ba4f3_39 hl (by decide) rfl (fun ls hl => ?_)
    refine lv_iload_n hx hb dJ6_getChars_ba4f3_41 rfl (lv_at hl 1 rfl) ?_
    refine lv_istore_n hx hb dJ6_getChars_ba4f3_42 rfl hl (by decide) rfl (fun ls hl => ?_)
    refine lv_aload_n hx hb dJ6_getChars_ba4f3_43 rfl (lv_at hl 6 rfl) ?_
    refine lv_iinc (k := 4) (v := nI (k - 1)) hx hb dJ6_getChars_ba4f3_44 hl rfl (nI_dec (by omega) (by omega)) (by decide) rfl (fun ls hl => ?_)
    refine lv_iload hx hb dJ6_getChars_ba4f3_47 (lv_at hl 0 rfl) ?_
    obtain ⟨td, hz1, hz2⟩ := hT.2.2.2.2.1
    refine va_gets hx hb hz1 hS hown (hts _ jw79) (fun _ h => h) dJ6_getChars_ba4f3_49 ?_
    refine lv_iload hx hb dJ6_getChars_ba4f3_52 (lv_at hl 2 rfl) ?_
    refine va_tb hx hb hz2 hS (vp_in_nI (show x % 100 < 100 by omega) (by decide)) (v := .int (dgO (x % 100))) (by rw [nI_clamp (by omega)]) dJ6_getChars_ba4f3_54 ?_
    refine va_bast hx hb hK hP hD hS 0 0 rfl rfl (vp_in_nI (show k - 1 < cp by omega) (by omega)) dJ6_getChars_ba4f3_55 (fun H1 locs1 hP hD hS => ?_)
    generalize hgn : upd _ _ _ = gn at hP hD
    replace hg : FITB gn := by rw [← hgn]; exact FITB_upd hg
    clear hgn
    replace hP : va_P D vwCl [(v, .inl (cB, cp, .inl gn))] _ := hP
    replace hD : va_D _ [(v, .inl (cB, cp, .inl gn))] := hD
    refine lv_aload_n hx hb dJ6_getChars_ba4f3_56 rfl (lv_at hl 6 rfl) ?_
    refine lv_iinc (k := 0) (v := nI (k - 1 - 1)) hx hb dJ6_getChars_ba4f3_57 hl rfl (nI_dec (by omega) (by omega)) (by decide) rfl (fun ls hl => ?_)
    refine lv_iload hx hb dJ6_getChars_ba4f3_60 (lv_at hl 0 rfl) ?_
    obtain ⟨td, hz1, hz2⟩ := hT.2.2.2.2.2
    refine va_gets hx hb hz1 hS hown (hts _ jw80) (fun _ h => h) dJ6_getChars_ba4f3_62 ?_
    refine lv_iload hx hb dJ6_getChars_ba4f3_65 (lv_at hl 2 rfl) ?_
    refine va_tb hx hb hz2 hS (vp_in_nI (show x % 100 < 100 by omega) (by decide)) (v := .int (dgT (x % 100))) (by rw [nI_clamp (by omega)]) dJ6_getChars_ba4f3_67 ?_
    refine va_bast hx hb hK hP hD hS 0 0 rfl rfl (vp_in_nI (show k - 1 - 1 < cp by omega) (by omega)) dJ6_getChars_ba4f3_68 (fun H1 locs1 hP hD hS => ?_)
    generalize hgn : upd _ _ _ = gn at hP hD
    replace hg : FITB gn := by rw [← hgn]; exact FITB_upd hg
    clear hgn
    replace hP : va_P D vwCl [(v, .inl (cB, cp, .inl gn))] _ := hP
    replace hD : va_D _ [(v, .inl (cB, cp, .inl gn))] := hD
    refine lv_goto (tgt := 22) hx hb dJ6_getChars_ba4f3_69 (by first | decide | rfl) ?_
    refine lv_iload_n hx hb dJ6_getChars_ba4f3_22 rfl (lv_at hl 1 rfl) ?_
    refine lv_bipush (v := -(nI 100)) hx hb dJ6_getChars_ba4f3_23 (by decide) ?_
    refine lv_icmp_gt (tgt := 72) hx hb dJ6_getChars_ba4f3_25 (by first | decide | rfl) (fun _ => ?_) (fun q9 => by first | exact absurd q9 (nglt (show (x / 100) < 100 by omega) (by decide)) | exact absurd (nglt (show (x / 100) < 100 by omega) (by decide)) q9)
    refine lv_aload_n hx hb dJ6_getChars_ba4f3_72 rfl (lv_at hl 6 rfl) ?_
    refine lv_iinc (k := 0) (v := nI (k - 1 - 1 - 1)) hx hb dJ6_getChars_ba4f3_73 hl rfl (nI_dec (by omega) (by omega)) (by decide) rfl (fun ls hl => ?_)
    refine lv_iload hx hb dJ6_getChars_ba4f3_76 (lv_at hl 0 rfl) ?_
    obtain ⟨td, hz1, hz2⟩ := hT.2.2.2.2.1
    refine va_gets hx hb hz1 hS hown (hts _ jw79) (fun _ h => h) dJ6_getChars_ba4f3_78 ?_
    refine lv_iload_n hx hb dJ6_getChars_ba4f3_81 rfl (lv_at hl 1 rfl) ?_
    refine lv_ineg hx hb dJ6_getChars_ba4f3_82 ?_
    rw [Int32.neg_neg]
    refine va_tb hx hb hz2 hS (vp_in_nI (show (x / 100) < 100 by omega) (by decide)) (v := .int (dgO ((x / 100)))) (by rw [nI_clamp (by omega)]) dJ6_getChars_ba4f3_83 ?_
    refine va_bast hx hb hK hP hD hS 0 0 rfl rfl (vp_in_nI (show k - 1 - 1 - 1 < cp by omega) (by omega)) dJ6_getChars_ba4f3_84 (fun H1 locs1 hP hD hS => ?_)
    generalize hgn : upd _ _ _ = gn at hP hD
    replace hg : FITB gn := by rw [← hgn]; exact FITB_upd hg
    clear hgn
    replace hP : va_P D vwCl [(v, .inl (cB, cp, .inl gn))] _ := hP
    replace hD : va_D _ [(v, .inl (cB, cp, .inl gn))] := hD
    refine lv_iload_n hx hb dJ6_getChars_ba4f3_85 rfl (lv_at hl 1 rfl) ?_
    refine lv_bipush (v := -(nI 9)) hx hb dJ6_getChars_ba4f3_86 (by decide) ?_
    by_cases hy : (x / 100) ≤ 9
    · refine lv_icmp_ge (tgt := 104) hx hb dJ6_getChars_ba4f3_88 (by first | decide | rfl) (fun _ => ?_) (fun q9 => by first | exact absurd q9 (ngle (by omega) (by decide)) | exact absurd (ngle (by omega) (by decide)) q9)
      refine lv_iload hx hb dJ6_getChars_ba4f3_104 (lv_at hl 4 rfl) ?_
      refine lv_if_eq (tgt := 118) hx hb dJ6_getChars_ba4f3_106 (by first | decide | rfl) (fun _ => ?_) (fun q9 => by first | exact absurd q9 (rfl) | exact absurd (rfl) q9)
      refine lv_iload hx hb dJ6_getChars_ba4f3_118 (lv_at hl 0 rfl) ?_
      refine W.widen (k := 0) (n := 0) (by first | omega | (dsimp only; omega)) (by first | omega | (dsimp only; omega)) ?_
      exact W.iret hx hb hr (fun t ht hW => ⟨⟨(some (.int _)), _, _, rfl, ⟨_, rfl, _, rfl, rfl, hg⟩, by rw [ht]; exact hP.sub [0] rfl, va_K.moved hW.alike hK, hD.sub [0] rfl rfl⟩, hS.F ht⟩) hS.2.2 dJ6_getChars_ba4f3_120
    · refine lv_icmp_ge (tgt := 104) hx hb dJ6_getChars_ba4f3_88 (by first | decide | rfl) (fun q9 => absurd q9 (ngnle (by omega) (by omega))) (fun _ => ?_)
      refine lv_aload_n hx hb dJ6_getChars_ba4f3_91 rfl (lv_at hl 6 rfl) ?_
      refine lv_iinc (k := 0) (v := nI (k - 1 - 1 - 1 - 1)) hx hb dJ6_getChars_ba4f3_92 hl rfl (nI_dec (by omega) (by omega)) (by decide) rfl (fun ls hl => ?_)
      refine lv_iload hx hb dJ6_getChars_ba4f3_95 (lv_at hl 0 rfl) ?_
      obtain ⟨td, hz1, hz2⟩ := hT.2.2.2.2.2
      refine va_gets hx hb hz1 hS hown (hts _ jw80) (fun _ h => h) dJ6_getChars_ba4f3_97 ?_
      refine lv_iload_n hx hb dJ6_getChars_ba4f3_100 rfl (lv_at hl 1 rfl) ?_
      refine lv_ineg hx hb dJ6_getChars_ba4f3_101 ?_
      rw [Int32.neg_neg]
      refine va_tb hx hb hz2 hS (vp_in_nI (show (x / 100) < 100 by omega) (by decide)) (v := .int (dgT ((x / 100)))) (by rw [nI_clamp (by omega)]) dJ6_getChars_ba4f3_102 ?_
      refine va_bast hx hb hK hP hD hS 0 0 rfl rfl (vp_in_nI (show k - 1 - 1 - 1 - 1 < cp by omega) (by omega)) dJ6_getChars_ba4f3_103 (fun H1 locs1 hP hD hS => ?_)
      generalize hgn : upd _ _ _ = gn at hP hD
      replace hg : FITB gn := by rw [← hgn]; exact FITB_upd hg
      clear hgn
      replace hP : va_P D vwCl [(v, .inl (cB, cp, .inl gn))] _ := hP
      replace hD : va_D _ [(v, .inl (cB, cp, .inl gn))] := hD
      refine lv_iload hx hb dJ6_getChars_ba4f3_104 (lv_at hl 4 rfl) ?_
      refine lv_if_eq (tgt := 118) hx hb dJ6_getChars_ba4f3_106 (by first | decide | rfl) (fun _ => ?_) (fun q9 => by first | exact absurd q9 (rfl) | exact absurd (rfl) q9)
      refine lv_iload hx hb dJ6_getChars_ba4f3_118 (lv_at hl 0 rfl) ?_
      refine W.widen (k := 0) (n := 0) (by first | omega | (dsimp only; omega)) (by first | omega | (dsimp only; omega)) ?_
      exact W.iret hx hb hr (fun t ht hW => ⟨⟨(some (.int _)), _, _, rfl, ⟨_, rfl, _, rfl, rfl, hg⟩, by rw [ht]; exact hP.sub [0] rfl, va_K.moved hW.alike hK, hD.sub [0] rfl rfl⟩, hS.F ht⟩) hS.2.2 dJ6_getChars_ba4f3_120

set_option maxRecDepth 20000 in
theorem jb_appI (l : Launch) (D : va_G) (ad : Nat → Nat) {b v c cp : Nat} {g : Nat → Int32} {cB : ClassId} {sz : Nat} {x : Nat} (hx0 : x < 1000) (hq : c + 3 ≤ 149) (hc : c ≤ cp ∧ cp ≤ 300) (hg : FITB g) : Met l yJ5_append_c97b9 (Cond.code yJ5_append_c97b9 cJ5_append_c97b9 4 (some (.object "java/lang/AbstractStringBuilder")) :: WG) { frames := 4, cells := 1, slots := 300, locals := 160 } (PcW D ad (SBX b v c cp g cB) [(cB, .byte)] sz [.ref b, .int (nI x)]) (QcW D (SBX b v c cp g cB) sz (BQ (some (.ref b)) b (c + dgn x) (c + dgn x))) 1 300 (va_A (SBX b v c cp g cB) sz) := by
  refine Met.ofW (cc := cJ5_append_c97b9) (maxL := 4) (ret := (some (.object "java/lang/AbstractStringBuilder"))) (by decide +kernel) rfl ?_
  intro p e s m args below meth c0 s₁ B0 hml hv
  obtain ⟨rfl, hz, hP, hK, hD0, hT, hC⟩ := hv
  have hx := B0.exec
  have hb := B0.bytes
  have hr := B0.returns
  have hts0 := atoms_spec (ws := Cond.code yJ5_append_c97b9 cJ5_append_c97b9 4 (some (.object "java/lang/AbstractStringBuilder")) :: WG) B0.pre
  have hts : ∀ w ∈ WG, w.before ([.ref b, .int (nI x)] : List Value).toArray s = true := fun w hw => hts0 w (List.mem_cons_of_mem _ hw)
  have hown : s.vm.findClass RJ5 = some m.cls := findClass_of_methodNamed B0.named
  have hlocks := B0.notSynchronized
  have hl := lv_entry ([.ref b, .int (nI x)]) (n := 4) (Nat.le_of_ble_eq_true rfl)
  rw [lg_entry_eq]
  generalize (lg_sl ([.ref b, .int (nI x)]) ++ List.replicate (4 - (lg_sl ([.ref b, .int (nI x)])).length) Slot.unset).toArray = ls at hl ⊢
  have hl : lv_has ls 4 [(0, .ref b), (1, .int (nI x))] := hl
  subst hz
  have hD := hD0.self (sz := s.heap.size)
  have hA : ∀ q, s.heap.size ≤ q → va_A (SBX b v c cp g cB) s.heap.size q := fun q h => Or.inr h
  have hS : va_S (va_A (SBX b v c cp g cB) s.heap.size) s.heap s.heap [] := va_S.rf
  refine lv_aload_n hx hb dJ5_append_c97b9_0 rfl (lv_at hl 0 rfl) ?_
  refine va_get (C := RJ4) (T := TJ4) (N := 4) hx hb hts uwJ4 hown hK hP 0 rfl rfl 3 (by decide) (hts _ jw2) (fun _ h => h) rfl dJ5_append_c97b9_1 ?_
  refine lv_istore_n hx hb dJ5_append_c97b9_4 rfl hl (by decide) rfl (fun ls hl => ?_)
  refine lv_iload_n hx hb dJ5_append_c97b9_5 rfl (lv_at hl 0 rfl) ?_
  refine lv_iload_n hx hb dJ5_append_c97b9_6 rfl (lv_at hl 2 rfl) ?_
  refine W_callQ (va_runS (As := [.int (nI x)]) (rest := [.int (nI c)]) (Ts := WG) (own := RJ5) ⟨hx, hb, hml, hown, hts⟩ (jn_size l D ad (ws := SBX b v c cp g cB) (tys := [(cB, .byte)]) hx0) ⟨cb_of (n := 1) hts jw81 jw82 (hts _ jw83) (by decide +kernel) (by decide +kernel) rfl rfl (Nat.le_of_ble_eq_true rfl) (Nat.le_of_ble_eq_true rfl), hts _ jw84⟩ ⟨PcR.blind, fun U hU hW => jpR hT hS hP hK _ U hU hW⟩ rfl rfl hl.1 rfl (lv_room (Nat.le_of_ble_eq_true rfl)) dJ5_append_c97b9_7 ⟨Nat.le_trans (m := 1) (by first | omega | (dsimp only; omega)) (Nat.le_of_ble_eq_true rfl), Nat.le_trans (m := 300) (by first | omega | (dsimp only; omega)) (Nat.le_of_ble_eq_true rfl)⟩).run ?_
  refine lv_iadd hx hb dJ5_append_c97b9_10 ?_
  rw [nI_add]
  have hdg : dgn x ≤ 3 := by
    unfold dgn
    split
    · omega
    · split <;> omega
  refine lv_istore_n hx hb dJ5_append_c97b9_11 rfl hl (by decide) rfl (fun ls hl => ?_)
  refine lv_aload_n hx hb dJ5_append_c97b9_12 rfl (lv_at hl 2 rfl) ?_
  refine lv_iload_n hx hb dJ5_append_c97b9_13 rfl (lv_at hl 0 rfl) ?_
  refine j_call (ws := SBX b v c cp g cB) (pl := []) (va_runU (As := [.int (nI (c + dgn x))]) (rest := []) (b := b) (Ts := WG) (own := RJ5) (C := RJ4) ⟨hx, hb, hml, hown, hts⟩ (jb_ens l D ad (q := c + dgn x) (by omega) hc hg) (cu_of (owner := RJ5) (n := 1) hts jw66 jw5 jw67 jw68 jw69 jw66 sx0 jw69 (by decide +kernel) (by decide +kernel) rfl rfl (Nat.le_of_ble_eq_true rfl) (Nat.le_of_ble_eq_true rfl)) ⟨PcW.blind, bd_recv (i := 0) hK hP rfl, fun U hU hW => jpW (ws := SBX b v c cp g cB) (pl := []) hT hC hS hA hP hD hK _ U hU hW⟩ rfl rfl hl.1 rfl (lv_room (Nat.le_of_ble_eq_true rfl)) dJ5_append_c97b9_14 ⟨Nat.le_trans (m := 1) (by first | omega | (dsimp only; omega)) (Nat.le_of_ble_eq_true rfl), Nat.le_trans (m := 300) (by first | omega | (dsimp only; omega)) (Nat.le_of_ble_eq_true rfl)⟩) hP hD hS hA (fun x9 ws9 tys9 H1 locs1 hφ hP hD hK hS => ?_)
  obtain ⟨rfl, v1, cp1, g1, cB1, rfl, rfl, hq1, hc1, hm1, hg1⟩ := hφ
  refine lv_aload_n hx hb dJ5_append_c97b9_17 rfl (lv_at hl 2 rfl) ?_
  refine W_callQ (va_runU (As := []) (rest := []) (b := b) (Ts := WG) (own := RJ5) (C := RJ4) ⟨hx, hb, hml, hown, hts⟩ (jb_isLatin1 l D ad (ws := SBX b v1 c cp1 g1 cB1) (tys := [(cB1, .byte)]) rfl) (cu_of (owner := RJ5) (n := 0) hts jw86 jw5 jw87 jw88 jw89 jw86 jw85 jw89 (by decide +kernel) (by decide +kernel) rfl rfl (Nat.le_of_ble_eq_true rfl) (Nat.le_of_ble_eq_true rfl)) ⟨PcR.blind, bd_recv (i := 0) hK hP rfl, fun U hU hW => jpR hT hS hP hK _ U hU hW⟩ rfl rfl hl.1 rfl (lv_room (Nat.le_of_ble_eq_true rfl)) dJ5_append_c97b9_18 ⟨Nat.le_trans (m := 1) (by first | omega | (dsimp only; omega)) (Nat.le_of_ble_eq_true rfl), Nat.le_trans (m := 300) (by first | omega | (dsimp only; omega)) (Nat.le_of_ble_eq_true rfl)⟩).run ?_
  refine lv_if_eq (tgt := 37) hx hb dJ5_append_c97b9_21 (by first | decide | rfl) (fun q9 => absurd q9 (by decide)) (fun _ => ?_)
  refine lv_iload_n hx hb dJ5_append_c97b9_24 rfl (lv_at hl 3 rfl) ?_
  refine lv_iload_n hx hb dJ5_append_c97b9_25 rfl (lv_at hl 0 rfl) ?_
  refine lv_aload_n hx hb dJ5_append_c97b9_26 rfl (lv_at hl 2 rfl) ?_
  refine va_get (C := RJ4) (T := TJ4) (N := 4) hx hb hts uwJ4 hown hK hP 0 rfl rfl 0 (by decide) (hts _ jw3) (fun _ h => h) rfl dJ5_append_c97b9_27 ?_
  replace hP : va_P D vwCl ([(v1, .inl (cB1, cp1, .inl g1)), (b, .inr (8, [.ref v1, .int 0, .int 0, .int (nI c)]))]) _ := hP.sub [1, 0] rfl
  replace hD : va_D _ ([(v1, .inl (cB1, cp1, .inl g1)), (b, .inr (8, [.ref v1, .int 0, .int 0, .int (nI c)]))]) := hD.sub [1, 0] rfl rfl
  refine j_call (ws := [(v1, .inl (cB1, cp1, .inl g1))]) (pl := [(b, .inr (8, [.ref v1, .int 0, .int 0, .int (nI c)]))]) (va_runS (As := [.int (nI x), .int (nI (c + dgn x)), .ref v1]) (rest := []) (Ts := WG) (own := RJ5) ⟨hx, hb, hml, hown, hts⟩ (jn_getChars l D ad (cB := cB1) (k := c + dgn x) ⟨hx0, by omega, hq1, hm1⟩ hg1) ⟨cb_of (n := 3) hts jw90 jw82 (hts _ jw91) (by decide +kernel) (by decide +kernel) rfl rfl (Nat.le_of_ble_eq_true rfl) (Nat.le_of_ble_eq_true rfl), hts _ jw92⟩ ⟨PcW.blind, fun U hU hW => jpW (ws := [(v1, .inl (cB1, cp1, .inl g1))]) (pl := [(b, .inr (8, [.ref v1, .int 0, .int 0, .int (nI c)]))]) hT hC hS hA hP hD hK _ U hU hW⟩ rfl rfl hl.1 rfl (lv_room (Nat.le_of_ble_eq_true rfl)) dJ5_append_c97b9_30 ⟨Nat.le_trans (m := 1) (by first | omega | (dsimp only; omega)) (Nat.le_of_ble_eq_true rfl), Nat.le_trans (m := 300) (by first | omega | (dsimp only; omega)) (Nat.le_of_ble_eq_true rfl)⟩) hP hD hS hA (fun x9 ws9 tys9 H1 locs1 hφ hP hD hK hS => ?_)
  obtain ⟨z, rfl, g2, rfl, rfl, hg2⟩ := hφ
  refine lv_pop hx hb dJ5_append_c97b9_33 rfl ?_
  refine lv_goto (tgt := 48) hx hb dJ5_append_c97b9_34 (by first | decide | rfl) ?_
  refine lv_aload_n hx hb dJ5_append_c97b9_48 rfl (lv_at hl 2 rfl) ?_
  refine lv_iload_n hx hb dJ5_append_c97b9_49 rfl (lv_at hl 0 rfl) ?_
  refine va_put (C := RJ4) (T := TJ4) (N := 4) hx hb hts uwJ4 tyJ4 tyJ4_ok nmJ4 hown hK hP hD hS 1 rfl rfl 3 (by decide) (hts _ jw2) (fun _ h => h) rfl (ty := tyJ4 3) (tyJ4_ok 3 (by decide)) rfl rfl (by show 3 < 4; decide) dJ5_append_c97b9_50 (fun H1 locs1 hP hD hS => ?_)
  refine lv_aload_n hx hb dJ5_append_c97b9_53 rfl (lv_at hl 2 rfl) ?_
  refine W.widen (k := 1) (n := 300) (by first | omega | (dsimp only; omega)) (by first | omega | (dsimp only; omega)) ?_
  exact W.aret hx hb hr (by first | exact Or.inl ⟨_, rfl⟩ | exact Or.inr ⟨_, rfl⟩) (Or.inr ⟨_, rfl⟩) (fun t ht hW => ⟨⟨(some (.ref b)), _, _, rfl, ⟨rfl, v1, cp1, g2, cB1, rfl, rfl, hq1, hq1, hm1, hg2⟩, by rw [ht]; exact hP.sub [1, 0] rfl, va_K.moved hW.alike hK, hD.sub [1, 0] rfl rfl⟩, hS.F ht⟩) hS.2.2 dJ5_append_c97b9_54

set_option maxRecDepth 20000 in
theorem js_appI (l : Launch) (D : va_G) (ad : Nat → Nat) {b v c cp : Nat} {g : Nat → Int32} {cB : ClassId} {sz : Nat} {x : Nat} (hx0 : x < 1000) (hq : c + 3 ≤ 149) (hc : c ≤ cp ∧ cp ≤ 300) (hg : FITB g) : Met l yJ4_append_bf812 (Cond.code yJ4_append_bf812 cJ4_append_bf812 2 (some (.object "java/lang/StringBuilder")) :: WG) { frames := 5, cells := 1, slots := 300, locals := 190 } (PcW D ad (SBX b v c cp g cB) [(cB, .byte)] sz [.ref b, .int (nI x)]) (QcW D (SBX b v c cp g cB) sz (BQ (some (.ref b)) b (c + dgn x) (c + dgn x))) 1 300 (va_A (SBX b v c cp g cB) sz) := by
  refine Met.ofW (cc := cJ4_append_bf812) (maxL := 2) (ret := (some (.object "java/lang/StringBuilder"))) (by decide +kernel) rfl ?_
  intro p e s m args below meth c0 s₁ B0 hml hv
  obtain ⟨rfl, hz, hP, hK, hD0, hT, hC⟩ := hv
  have hx := B0.exec
  have hb := B0.bytes
  have hr := B0.returns
  have hts0 := atoms_spec (ws := Cond.code yJ4_append_bf812 cJ4_append_bf812 2 (some (.object "java/lang/StringBuilder")) :: WG) B0.pre
  have hts : ∀ w ∈ WG, w.before ([.ref b, .int (nI x)] : List Value).toArray s = true := fun w hw => hts0 w (List.mem_cons_of_mem _ hw)
  have hown : s.vm.findClass RJ4 = some m.cls := findClass_of_methodNamed B0.named
  have hlocks := B0.notSynchronized
  have hl := lv_entry ([.ref b, .int (nI x)]) (n := 2) (Nat.le_of_ble_eq_true rfl)
  rw [lg_entry_eq]
  generalize (lg_sl ([.ref b, .int (nI x)]) ++ List.replicate (2 - (lg_sl ([.ref b, .int (nI x)])).length) Slot.unset).toArray = ls at hl ⊢
  have hl : lv_has ls 2 [(0, .ref b), (1, .int (nI x))] := hl
  subst hz
  have hD := hD0.self (sz := s.heap.size)
  have hA : ∀ q, s.heap.size ≤ q → va_A (SBX b v c cp g cB) s.heap.size q := fun q h => Or.inr h
  have hS : va_S (va_A (SBX b v c cp g cB) s.heap.size) s.heap s.heap [] := va_S.rf
  refine lv_aload_n hx hb dJ4_append_bf812_0 rfl (lv_at hl 0 rfl) ?_
  refine lv_iload_n hx hb dJ4_append_bf812_1 rfl (lv_at hl 1 rfl) ?_
  refine j_call (ws := SBX b v c cp g cB) (pl := []) (va_runSU (C := RJ4) (As := [.int (nI x)]) (rest := []) (b := b) (Ts := WG) (own := RJ4) (hK.1 8 _ rfl).2 ⟨hx, hb, hml, hown, hts⟩ (jb_appI l D ad hx0 hq hc hg) (cs_of (n := 1) hts jw93 jw5 jw94 jw95 jw8 jw96 (by decide +kernel) (by decide +kernel) rfl rfl (Nat.le_of_ble_eq_true rfl) (Nat.le_of_ble_eq_true rfl)) ⟨PcW.blind, bd_recv (i := 0) hK hP rfl, fun U hU hW => jpW (ws := SBX b v c cp g cB) (pl := []) hT hC hS hA hP hD hK _ U hU hW⟩ rfl rfl hl.1 rfl (lv_room (Nat.le_of_ble_eq_true rfl)) dJ4_append_bf812_2 ⟨Nat.le_trans (m := 1) (by first | omega | (dsimp only; omega)) (Nat.le_of_ble_eq_true rfl), Nat.le_trans (m := 300) (by first | omega | (dsimp only; omega)) (Nat.le_of_ble_eq_true rfl)⟩) hP hD hS hA (fun x9 ws9 tys9 H1 locs1 hφ hP hD hK hS => ?_)
  obtain ⟨rfl, v2, cp2, g2, cB2, rfl, rfl, hq2, hc2, hm2, hg2⟩ := hφ
  refine lv_pop hx hb dJ4_append_bf812_5 rfl ?_
  refine lv_aload_n hx hb dJ4_append_bf812_6 rfl (lv_at hl 0 rfl) ?_
  refine W.widen (k := 1) (n := 300) (by first | omega | (dsimp only; omega)) (by first | omega | (dsimp only; omega)) ?_
  exact W.aret hx hb hr (by first | exact Or.inl ⟨_, rfl⟩ | exact Or.inr ⟨_, rfl⟩) (Or.inr ⟨_, rfl⟩) (fun t ht hW => ⟨⟨(some (.ref b)), _, _, rfl, ⟨rfl, v2, cp2, g2, cB2, rfl, rfl, hq2, hc2, hm2, hg2⟩, by rw [ht]; exact hP.sub [0, 1] rfl, va_K.moved hW.alike hK, hD.sub [0, 1] rfl rfl⟩, hS.F ht⟩) hS.2.2 dJ4_append_bf812_7

set_option maxRecDepth 20000 in
theorem jb_appC (l : Launch) (D : va_G) (ad : Nat → Nat) {b v c cp : Nat} {g : Nat → Int32} {cB : ClassId} {sz : Nat} {x : Nat} (hx0 : x ≤ 255) (hq : c + 1 ≤ 149) (hc : c ≤ cp ∧ cp ≤ 300) (hg : FITB g) : Met l yJ5_append_3fe6f (Cond.code yJ5_append_3fe6f cJ5_append_3fe6f 2 (some (.object "java/lang/AbstractStringBuilder")) :: WG) { frames := 4, cells := 1, slots := 300, locals := 160 } (PcW D ad (SBX b v c cp g cB) [(cB, .byte)] sz [.ref b, .int (nI x)]) (QcW D (SBX b v c cp g cB) sz (BQ (some (.ref b)) b (c + 1) (c + 1))) 1 300 (va_A (SBX b v c cp g cB) sz) := by
  refine Met.ofW (cc := cJ5_append_3fe6f) (maxL := 2) (ret := (some (.object "java/lang/AbstractStringBuilder"))) (by decide +kernel) rfl ?_
  intro p e s m args below meth c0 s₁ B0 hml hv
  obtain ⟨rfl, hz, hP, hK, hD0, hT, hC⟩ := hv
  have hx := B0.exec
  have hb := B0.bytes
  have hr := B0.returns
  have hts0 := atoms_spec (ws := Cond.code yJ5_append_3fe6f cJ5_append_3fe6f 2 (some (.object "java/lang/AbstractStringBuilder")) :: WG) B0.pre
  have hts : ∀ w ∈ WG, w.before ([.ref b, .int (nI x)] : List Value).toArray s = true := fun w hw => hts0 w (List.mem_cons_of_mem _ hw)
  have hown : s.vm.findClass RJ5 = some m.cls := findClass_of_methodNamed B0.named
  have hlocks := B0.notSynchronized
  have hl := lv_entry ([.ref b, .int (nI x)]) (n := 2) (Nat.le_of_ble_eq_true rfl)
  rw [lg_entry_eq]
  generalize (lg_sl ([.ref b, .int (nI x)]) ++ List.replicate (2 - (lg_sl ([.ref b, .int (nI x)])).length) Slot.unset).toArray = ls at hl ⊢
  have hl : lv_has ls 2 [(0, .ref b), (1, .int (nI x))] := hl
  subst hz
  have hD := hD0.self (sz := s.heap.size)
  have hA : ∀ q, s.heap.size ≤ q → va_A (SBX b v c cp g cB) s.heap.size q := fun q h => Or.inr h
  have hS : va_S (va_A (SBX b v c cp g cB) s.heap.size) s.heap s.heap [] := va_S.rf
  refine lv_aload_n hx hb dJ5_append_3fe6f_0 rfl (lv_at hl 0 rfl) ?_
  refine lv_aload_n hx hb dJ5_append_3fe6f_1 rfl (lv_at hl 0 rfl) ?_
  refine va_get (C := RJ4) (T := TJ4) (N := 4) hx hb hts uwJ4 hown hK hP 0 rfl rfl 3 (by decide) (hts _ jw2) (fun _ h => h) rfl dJ5_append_3fe6f_2 ?_
  refine lv_iconst (v := nI 1) hx hb dJ5_append_3fe6f_5 (by decide) ?_
  refine lv_iadd hx hb dJ5_append_3fe6f_6 ?_
  rw [nI_add]
  refine j_call (ws := SBX b v c cp g cB) (pl := []) (va_runU (As := [.int (nI (c + 1))]) (rest := []) (b := b) (Ts := WG) (own := RJ5) (C := RJ4) ⟨hx, hb, hml, hown, hts⟩ (jb_ens l D ad (q := c + 1) hq hc hg) (cu_of (owner := RJ5) (n := 1) hts jw66 jw5 jw67 jw68 jw69 jw66 sx0 jw69 (by decide +kernel) (by decide +kernel) rfl rfl (Nat.le_of_ble_eq_true rfl) (Nat.le_of_ble_eq_true rfl)) ⟨PcW.blind, bd_recv (i := 0) hK hP rfl, fun U hU hW => jpW (ws := SBX b v c cp g cB) (pl := []) hT hC hS hA hP hD hK _ U hU hW⟩ rfl rfl hl.1 rfl (lv_room (Nat.le_of_ble_eq_true rfl)) dJ5_append_3fe6f_7 ⟨Nat.le_trans (m := 1) (by first | omega | (dsimp only; omega)) (Nat.le_of_ble_eq_true rfl), Nat.le_trans (m := 300) (by first | omega | (dsimp only; omega)) (Nat.le_of_ble_eq_true rfl)⟩) hP hD hS hA (fun x9 ws9 tys9 H1 locs1 hφ hP hD hK hS => ?_)
  obtain ⟨rfl, v1, cp1, g1, cB1, rfl, rfl, hq1, hc1, hm1, hg1⟩ := hφ
  refine lv_aload_n hx hb dJ5_append_3fe6f_10 rfl (lv_at hl 0 rfl) ?_
  refine W_callQ (va_runU (As := []) (rest := []) (b := b) (Ts := WG) (own := RJ5) (C := RJ4) ⟨hx, hb, hml, hown, hts⟩ (jb_isLatin1 l D ad (ws := SBX b v1 c cp1 g1 cB1) (tys := [(cB1, .byte)]) rfl) (cu_of (owner := RJ5) (n := 0) hts jw86 jw5 jw87 jw88 jw89 jw86 jw85 jw89 (by decide +kernel) (by decide +kernel) rfl rfl (Nat.le_of_ble_eq_true rfl) (Nat.le_of_ble_eq_true rfl)) ⟨PcR.blind, bd_recv (i := 0) hK hP rfl, fun U hU hW => jpR hT hS hP hK _ U hU hW⟩ rfl rfl hl.1 rfl (lv_room (Nat.le_of_ble_eq_true rfl)) dJ5_append_3fe6f_11 ⟨Nat.le_trans (m := 1) (by first | omega | (dsimp only; omega)) (Nat.le_of_ble_eq_true rfl), Nat.le_trans (m := 300) (by first | omega | (dsimp only; omega)) (Nat.le_of_ble_eq_true rfl)⟩).run ?_
  refine lv_if_eq (tgt := 45) hx hb dJ5_append_3fe6f_14 (by first | decide | rfl) (fun q9 => absurd q9 (by decide)) (fun _ => ?_)
  refine lv_iload_n hx hb dJ5_append_3fe6f_17 rfl (lv_at hl 1 rfl) ?_
  refine W_callQ (va_runS (As := [.int (nI x)]) (rest := []) (Ts := WG) (own := RJ5) ⟨hx, hb, hml, hown, hts⟩ (jn_canEncode l D ad (ws := SBX b v1 c cp1 g1 cB1) (tys := [(cB1, .byte)]) hx0) ⟨cb_of (n := 1) hts jw97 jw36 (hts _ jw98) (by decide +kernel) (by decide +kernel) rfl rfl (Nat.le_of_ble_eq_true rfl) (Nat.le_of_ble_eq_true rfl), hts _ jw99⟩ ⟨PcR.blind, fun U hU hW => jpR hT hS hP hK _ U hU hW⟩ rfl rfl hl.1 rfl (lv_room (Nat.le_of_ble_eq_true rfl)) dJ5_append_3fe6f_18 ⟨Nat.le_trans (m := 1) (by first | omega | (dsimp only; omega)) (Nat.le_of_ble_eq_true rfl), Nat.le_trans (m := 300) (by first | omega | (dsimp only; omega)) (Nat.le_of_ble_eq_true rfl)⟩).run ?_
  refine lv_if_eq (tgt := 45) hx hb dJ5_append_3fe6f_21 (by first | decide | rfl) (fun q9 => absurd q9 (by decide)) (fun _ => ?_)
  refine lv_aload_n hx hb dJ5_append_3fe6f_24 rfl (lv_at hl 0 rfl) ?_
  refine va_get (C := RJ4) (T := TJ4) (N := 4) hx hb hts uwJ4 hown hK hP 0 rfl rfl 0 (by decide) (hts _ jw3) (fun _ h => h) rfl dJ5_append_3fe6f_25 ?_
  refine lv_aload_n hx hb dJ5_append_3fe6f_28 rfl (lv_at hl 0 rfl) ?_
  refine lv_dup hx hb dJ5_append_3fe6f_29 rfl ?_
  refine va_get (C := RJ4) (T := TJ4) (N := 4) hx hb hts uwJ4 hown hK hP 0 rfl rfl 3 (by decide) (hts _ jw2) (fun _ h => h) rfl dJ5_append_3fe6f_30 ?_
  refine lv_dup_x1 hx hb dJ5_append_3fe6f_33 rfl rfl ?_
  refine lv_iconst (v := nI 1) hx hb dJ5_append_3fe6f_34 (by decide) ?_
  refine lv_iadd hx hb dJ5_append_3fe6f_35 ?_
  rw [nI_add]
  refine va_put (C := RJ4) (T := TJ4) (N := 4) hx hb hts uwJ4 tyJ4 tyJ4_ok nmJ4 hown hK hP hD hS 0 rfl rfl 3 (by decide) (hts _ jw2) (fun _ h => h) rfl (ty := tyJ4 3) (tyJ4_ok 3 (by decide)) rfl rfl (by show 3 < 4; decide) dJ5_append_3fe6f_36 (fun H1 locs1 hP hD hS => ?_)
  refine lv_iload_n hx hb dJ5_append_3fe6f_39 rfl (lv_at hl 1 rfl) ?_
  refine lv_i2b hx hb dJ5_append_3fe6f_40 rfl ?_
  refine va_bast hx hb hK hP hD hS 1 0 rfl rfl (vp_in_nI (show c < cp1 by omega) (by omega)) dJ5_append_3fe6f_41 (fun H1 locs1 hP hD hS => ?_)
  refine lv_goto (tgt := 75) hx hb dJ5_append_3fe6f_42 (by first | decide | rfl) ?_
  refine lv_aload_n hx hb dJ5_append_3fe6f_75 rfl (lv_at hl 0 rfl) ?_
  refine W.widen (k := 1) (n := 300) (by first | omega | (dsimp only; omega)) (by first | omega | (dsimp only; omega)) ?_
  exact W.aret hx hb hr (by first | exact Or.inl ⟨_, rfl⟩ | exact Or.inr ⟨_, rfl⟩) (Or.inr ⟨_, rfl⟩) (fun t ht hW => ⟨⟨(some (.ref b)), _, _, rfl, ⟨rfl, v1, cp1, _, cB1, rfl, rfl, hq1, hq1, hm1, FITB_upd hg1⟩, by rw [ht]; exact hP.sub [0, 1] rfl, va_K.moved hW.alike hK, hD.sub [0, 1] rfl rfl⟩, hS.F ht⟩) hS.2.2 dJ5_append_3fe6f_76

set_option maxRecDepth 20000 in
theorem js_appC (l : Launch) (D : va_G) (ad : Nat → Nat) {b v c cp : Nat} {g : Nat → Int32} {cB : ClassId} {sz : Nat} {x : Nat} (hx0 : x ≤ 255) (hq : c + 1 ≤ 149) (hc : c ≤ cp ∧ cp ≤ 300) (hg : FITB g) : Met l yJ4_append_cf468 (Cond.code yJ4_append_cf468 cJ4_append_cf468 2 (some (.object "java/lang/StringBuilder")) :: WG) { frames := 5, cells := 1, slots := 300, locals := 190 } (PcW D ad (SBX b v c cp g cB) [(cB, .byte)] sz [.ref b, .int (nI x)]) (QcW D (SBX b v c cp g cB) sz (BQ (some (.ref b)) b (c + 1) (c + 1))) 1 300 (va_A (SBX b v c cp g cB) sz) := by
  refine Met.ofW (cc := cJ4_append_cf468) (maxL := 2) (ret := (some (.object "java/lang/StringBuilder"))) (by decide +kernel) rfl ?_
  intro p e s m args below meth c0 s₁ B0 hml hv
  obtain ⟨rfl, hz, hP, hK, hD0, hT, hC⟩ := hv
  have hx := B0.exec
  have hb := B0.bytes
  have hr := B0.returns
  have hts0 := atoms_spec (ws := Cond.code yJ4_append_cf468 cJ4_append_cf468 2 (some (.object "java/lang/StringBuilder")) :: WG) B0.pre
  have hts : ∀ w ∈ WG, w.before ([.ref b, .int (nI x)] : List Value).toArray s = true := fun w hw => hts0 w (List.mem_cons_of_mem _ hw)
  have hown : s.vm.findClass RJ4 = some m.cls := findClass_of_methodNamed B0.named
  have hlocks := B0.notSynchronized
  have hl := lv_entry ([.ref b, .int (nI x)]) (n := 2) (Nat.le_of_ble_eq_true rfl)
  rw [lg_entry_eq]
  generalize (lg_sl ([.ref b, .int (nI x)]) ++ List.replicate (2 - (lg_sl ([.ref b, .int (nI x)])).length) Slot.unset).toArray = ls at hl ⊢
  have hl : lv_has ls 2 [(0, .ref b), (1, .int (nI x))] := hl
  subst hz
  have hD := hD0.self (sz := s.heap.size)
  have hA : ∀ q, s.heap.size ≤ q → va_A (SBX b v c cp g cB) s.heap.size q := fun q h => Or.inr h
  have hS : va_S (va_A (SBX b v c cp g cB) s.heap.size) s.heap s.heap [] := va_S.rf
  refine lv_aload_n hx hb dJ4_append_cf468_0 rfl (lv_at hl 0 rfl) ?_
  refine lv_iload_n hx hb dJ4_append_cf468_1 rfl (lv_at hl 1 rfl) ?_
  refine j_call (ws := SBX b v c cp g cB) (pl := []) (va_runSU (C := RJ4) (As := [.int (nI x)]) (rest := []) (b := b) (Ts := WG) (own := RJ4) (hK.1 8 _ rfl).2 ⟨hx, hb, hml, hown, hts⟩ (jb_appC l D ad hx0 hq hc hg) (cs_of (n := 1) hts jw100 jw5 jw101 jw102 jw8 jw103 (by decide +kernel) (by decide +kernel) rfl rfl (Nat.le_of_ble_eq_true rfl) (Nat.le_of_ble_eq_true rfl)) ⟨PcW.blind, bd_recv (i := 0) hK hP rfl, fun U hU hW => jpW (ws := SBX b v c cp g cB) (pl := []) hT hC hS hA hP hD hK _ U hU hW⟩ rfl rfl hl.1 rfl (lv_room (Nat.le_of_ble_eq_true rfl)) dJ4_append_cf468_2 ⟨Nat.le_trans (m := 1) (by first | omega | (dsimp only; omega)) (Nat.le_of_ble_eq_true rfl), Nat.le_trans (m := 300) (by first | omega | (dsimp only; omega)) (Nat.le_of_ble_eq_true rfl)⟩) hP hD hS hA (fun x9 ws9 tys9 H1 locs1 hφ hP hD hK hS => ?_)
  obtain ⟨rfl, v2, cp2, g2, cB2, rfl, rfl, hq2, hc2, hm2, hg2⟩ := hφ
  refine lv_pop hx hb dJ4_append_cf468_5 rfl ?_
  refine lv_aload_n hx hb dJ4_append_cf468_6 rfl (lv_at hl 0 rfl) ?_
  refine W.widen (k := 1) (n := 300) (by first | omega | (dsimp only; omega)) (by first | omega | (dsimp only; omega)) ?_
  exact W.aret hx hb hr (by first | exact Or.inl ⟨_, rfl⟩ | exact Or.inr ⟨_, rfl⟩) (Or.inr ⟨_, rfl⟩) (fun t ht hW => ⟨⟨(some (.ref b)), _, _, rfl, ⟨rfl, v2, cp2, g2, cB2, rfl, rfl, hq2, hc2, hm2, hg2⟩, by rw [ht]; exact hP.sub [0, 1] rfl, va_K.moved hW.alike hK, hD.sub [0, 1] rfl rfl⟩, hS.F ht⟩) hS.2.2 dJ4_append_cf468_7

set_option maxRecDepth 20000 in
theorem jb_init (l : Launch) (D : va_G) (ad : Nat → Nat) {b sz : Nat} : Met l yJ5_init_d00df (Cond.code yJ5_init_d00df cJ5_init_d00df 2 none :: WG) { frames := 1, cells := 1, slots := 300, locals := 60 } (PcW D ad [(b, .inr (8, [.null, .int 0, .int 0, .int 0]))] [] sz [.ref b, .int (nI 16)]) (QcW D ([(b, .inr (8, [.null, .int 0, .int 0, .int 0]))]) sz (BQ none b 0 0)) 1 300 (va_A ([(b, .inr (8, [.null, .int 0, .int 0, .int 0]))]) sz) := by
  refine Met.ofW (cc := cJ5_init_d00df) (maxL := 2) (ret := none) (by decide +kernel) rfl ?_
  intro p e s m args below meth c0 s₁ B0 hml hv
  obtain ⟨rfl, hz, hP, hK, hD0, hT, hC⟩ := hv
  have hx := B0.exec
  have hb := B0.bytes
  have hr := B0.returns
  have hts0 := atoms_spec (ws := Cond.code yJ5_init_d00df cJ5_init_d00df 2 none :: WG) B0.pre
  have hts : ∀ w ∈ WG, w.before ([.ref b, .int (nI 16)] : List Value).toArray s = true := fun w hw => hts0 w (List.mem_cons_of_mem _ hw)
  have hown : s.vm.findClass RJ5 = some m.cls := findClass_of_methodNamed B0.named
  have hlocks := B0.notSynchronized
  have hl := lv_entry ([.ref b, .int (nI 16)]) (n := 2) (Nat.le_of_ble_eq_true rfl)
  rw [lg_entry_eq]
  generalize (lg_sl ([.ref b, .int (nI 16)]) ++ List.replicate (2 - (lg_sl ([.ref b, .int (nI 16)])).length) Slot.unset).toArray = ls at hl ⊢
  have hl : lv_has ls 2 [(0, .ref b), (1, .int (nI 16))] := hl
  subst hz
  have hD := hD0.self (sz := s.heap.size)
  have hA : ∀ q, s.heap.size ≤ q → va_A ([(b, .inr (8, [.null, .int 0, .int 0, .int 0]))]) s.heap.size q := fun q h => Or.inr h
  have hS : va_S (va_A ([(b, .inr (8, [.null, .int 0, .int 0, .int 0]))]) s.heap.size) s.heap s.heap [] := va_S.rf
  refine lv_aload_n hx hb dJ5_init_d00df_0 rfl (lv_at hl 0 rfl) ?_
  refine W.objInit (g := F0 m 1 ls [.ref b]) hx hb hown (hts _ jw104) (hts _ am_oi.1) (hts _ am_oi.2) rfl (by rw [hml]; exact hl.1) rfl dJ5_init_d00df_1 (Nat.le_of_ble_eq_true rfl) (Nat.le_of_ble_eq_true rfl) ?_
  refine va_gets hx hb hT.2.2.1 hS hown (hts _ jw0) (fun _ h => h) dJ5_init_d00df_4 ?_
  refine lv_if_eq (tgt := 25) hx hb dJ5_init_d00df_7 (by first | decide | rfl) (fun q9 => absurd q9 (by decide)) (fun _ => ?_)
  refine lv_aload_n hx hb dJ5_init_d00df_10 rfl (lv_at hl 0 rfl) ?_
  refine lv_iload_n hx hb dJ5_init_d00df_11 rfl (lv_at hl 1 rfl) ?_
  refine va_newa (atype := .byte) (ty := .byte) (a0 := (16, .inl (fun _ => 0))) hx hb (hts _ am_ar.2.2.2) rfl hK hP hD hS hA (fun cA => rfl) (nI_pos (by omega)) (nI_clamp (by omega)) (Nat.le_trans (Nat.mul_le_mul (show 16 ≤ 300 by omega) (show componentBytes .byte ≤ 8 from by decide)) (by decide)) (Nat.le_trans (m := 1) (by first | omega | (dsimp only; omega)) (Nat.le_of_ble_eq_true rfl)) (Nat.le_trans (m := 300) (by first | omega | (dsimp only; omega)) (Nat.le_of_ble_eq_true rfl)) dJ5_init_d00df_12 (fun q0 cA H1 hK hP hD hS => ?_)
  refine va_put (C := RJ4) (T := TJ4) (N := 4) hx hb hts uwJ4 tyJ4 tyJ4_ok nmJ4 hown hK hP hD hS 0 rfl rfl 0 (by decide) (hts _ jw3) (fun _ h => h) rfl (ty := tyJ4 0) (tyJ4_ok 0 (by decide)) rfl rfl (by show 0 < 4; decide) dJ5_init_d00df_14 (fun H1 locs1 hP hD hS => ?_)
  refine lv_aload_n hx hb dJ5_init_d00df_17 rfl (lv_at hl 0 rfl) ?_
  refine lv_iconst (v := nI 0) hx hb dJ5_init_d00df_18 (by decide) ?_
  refine va_put (C := RJ4) (T := TJ4) (N := 4) hx hb hts uwJ4 tyJ4 tyJ4_ok nmJ4 hown hK hP hD hS 0 rfl rfl 1 (by decide) (hts _ jw1) (fun _ h => h) rfl (ty := tyJ4 1) (tyJ4_ok 1 (by decide)) rfl rfl (by show 1 < 4; decide) dJ5_init_d00df_19 (fun H1 locs1 hP hD hS => ?_)
  refine lv_goto (tgt := 38) hx hb dJ5_init_d00df_22 (by first | decide | rfl) ?_
  refine W.widen (k := 1) (n := 300) (by first | omega | (dsimp only; omega)) (by first | omega | (dsimp only; omega)) ?_
  exact W.vret hx hb hr (fun t ht hW => ⟨⟨none, _, _, rfl, ⟨rfl, q0, 16, _, cA, rfl, rfl, Nat.zero_le _, Nat.zero_le _, by decide, FITB_0⟩, by rw [ht]; exact hP.sub [0, 1] rfl, va_K.moved hW.alike hK, hD.sub [0, 1] rfl rfl⟩, hS.F ht⟩) hS.2.2 dJ5_init_d00df_38

set_option maxRecDepth 20000 in
theorem js_init (l : Launch) (D : va_G) (ad : Nat → Nat) {b sz : Nat} : Met l yJ4_init_da8c8 (Cond.code yJ4_init_da8c8 cJ4_init_da8c8 1 none :: WG) { frames := 2, cells := 1, slots := 300, locals := 100 } (PcW D ad [(b, .inr (8, [.null, .int 0, .int 0, .int 0]))] [] sz [.ref b]) (QcW D ([(b, .inr (8, [.null, .int 0, .int 0, .int 0]))]) sz (BQ none b 0 0)) 1 300 (va_A ([(b, .inr (8, [.null, .int 0, .int 0, .int 0]))]) sz) := by
  refine Met.ofW (cc := cJ4_init_da8c8) (maxL := 1) (ret := none) (by decide +kernel) rfl ?_
  intro p e s m args below meth c0 s₁ B0 hml hv
  obtain ⟨rfl, hz, hP, hK, hD0, hT, hC⟩ := hv
  have hx := B0.exec
  have hb := B0.bytes
  have hr := B0.returns
  have hts0 := atoms_spec (ws := Cond.code yJ4_init_da8c8 cJ4_init_da8c8 1 none :: WG) B0.pre
  have hts : ∀ w ∈ WG, w.before ([.ref b] : List Value).toArray s = true := fun w hw => hts0 w (List.mem_cons_of_mem _ hw)
  have hown : s.vm.findClass RJ4 = some m.cls := findClass_of_methodNamed B0.named
  have hlocks := B0.notSynchronized
  have hl := lv_entry ([.ref b]) (n := 1) (Nat.le_of_ble_eq_true rfl)
  rw [lg_entry_eq]
  generalize (lg_sl ([.ref b]) ++ List.replicate (1 - (lg_sl ([.ref b])).length) Slot.unset).toArray = ls at hl ⊢
  have hl : lv_has ls 1 [(0, .ref b)] := hl
  subst hz
  have hD := hD0.self (sz := s.heap.size)
  have hA : ∀ q, s.heap.size ≤ q → va_A ([(b, .inr (8, [.null, .int 0, .int 0, .int 0]))]) s.heap.size q := fun q h => Or.inr h
  have hS : va_S (va_A ([(b, .inr (8, [.null, .int 0, .int 0, .int 0]))]) s.heap.size) s.heap s.heap [] := va_S.rf
  refine lv_aload_n hx hb dJ4_init_da8c8_0 rfl (lv_at hl 0 rfl) ?_
  refine lv_bipush (v := nI 16) hx hb dJ4_init_da8c8_1 (by decide) ?_
  refine j_call (ws := [(b, .inr (8, [.null, .int 0, .int 0, .int 0]))]) (pl := []) (va_runI (As := [.int (nI 16)]) (rest := []) (b := b) (Ts := WG) (own := RJ4) ⟨hx, hb, hml, hown, hts⟩ (jb_init l D ad) ⟨cb_of (n := 1) hts jw105 jw5 (hts _ jw106) (by decide +kernel) (by decide +kernel) rfl rfl (Nat.le_of_ble_eq_true rfl) (Nat.le_of_ble_eq_true rfl), rfl, hts _ jw107⟩ ⟨PcW.blind, fun U hU hW => jpW (ws := [(b, .inr (8, [.null, .int 0, .int 0, .int 0]))]) (pl := []) hT hC hS hA hP hD hK _ U hU hW⟩ rfl rfl hl.1 rfl (lv_room (Nat.le_of_ble_eq_true rfl)) dJ4_init_da8c8_3 ⟨Nat.le_trans (m := 1) (by first | omega | (dsimp only; omega)) (Nat.le_of_ble_eq_true rfl), Nat.le_trans (m := 300) (by first | omega | (dsimp only; omega)) (Nat.le_of_ble_eq_true rfl)⟩) hP hD hS hA (fun x9 ws9 tys9 H1 locs1 hφ hP hD hK hS => ?_)
  obtain ⟨rfl, v2, cp2, g2, cB2, rfl, rfl, hq2, hc2, hm2, hg2⟩ := hφ
  refine W.widen (k := 1) (n := 300) (by first | omega | (dsimp only; omega)) (by first | omega | (dsimp only; omega)) ?_
  exact W.vret hx hb hr (fun t ht hW => ⟨⟨none, _, _, rfl, ⟨rfl, v2, cp2, g2, cB2, rfl, rfl, hq2, hc2, hm2, hg2⟩, by rw [ht]; exact hP.sub [0, 1] rfl, va_K.moved hW.alike hK, hD.sub [0, 1] rfl rfl⟩, hS.F ht⟩) hS.2.2 dJ4_init_da8c8_6

