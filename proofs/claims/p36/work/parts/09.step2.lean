theorem am_dfl (ad : Nat → Nat) (ρ : List Nat) (ci : Nat) (h : ci < 9) : SR ad ρ (dflV ci) (dfl ci) := by
  match ci, h with
  | 0, _ | 1, _ | 2, _ | 3, _ | 4, _ | 5, _ | 6, _ | 7, _ | 8, _ => repeat' first | exact trivial | exact rfl | constructor
theorem ok_getfield {p : Program} {l : Launch} {e0 : Env} {R : Room} {s : State} {m : MethodId} {args : Array Value} {below : List Frame} {meth : Method} {c : Code} {Q : State → Prop} {D : va_G} {ad : Nat → Nat} {b0 : Nat} {sc : List Int} {A : Nat → Prop} {k : Nat} {ρ0 : List Nat}
    (T : CT p R s m args meth c k ad b0 sc A) {n : Nat} {a b q1 q2 : Nat} {pc : Nat} {L : List (Option AV)} {st : List AV} {G : AG} {cs sl : Nat} {P : Option Prop} {f' : AF}
    (h : s1 k (.getfield n, a, b, q1, q2) (pc, L, st, G, cs, sl) = some (P, f')) (hP : cj P True)
    (hd : decode (mB k) pc = .ok (.getfield n, am_len pc (.getfield n))) (hn : am_lnk (mO k) pc (.getfield n, a, b, q1, q2) = true)
    (kk : OK p l e0 R s m args below meth c Q D ad b0 sc A k ρ0 f') : OK p l e0 R s m args below meth c Q D ad b0 sc A k ρ0 (pc, L, st, G, cs, sl) := by
  unfold s1 at h
  dsimp only at h
  split at h
  · rename_i x st'
    split at h
    · rename_i ci fs hg
      split at h
      · rename_i hbq
        split at h
        · rename_i v hv
          cases h
          intro ws tys H locs ls sst hc hs I hL hS hρ
          obtain ⟨⟨hx, hb, hml, hown, hts, hin⟩, hR, F⟩ := T
          dsimp only at hc hs I hL hS ⊢
          obtain ⟨hK, hPp, hD, hSs, hG⟩ := I
          obtain ⟨ra, sst, rfl, hra, hZ⟩ := SR_R hS
          have hca := Nat.beq_eq.mp hbq
          subst hca
          rw [nth_eq] at hv
          obtain ⟨vs, hws, hfs⟩ := GR_obj hG hg hra
          obtain ⟨w, hw, hwv⟩ := hfs.nth hv
          have hl := hn
          simp only [am_lnk] at hl
          split at hl
          · rename_i o n' a' b' q' pl hF
            simp only [Bool.and_eq_true, Nat.beq_eq] at hl
            obtain ⟨⟨⟨⟨e1, e2⟩, e3⟩, e4⟩, e5⟩ := hl
            replace e3 := e3.symm
            replace e4 := e4.symm
            subst e1; subst e2; subst e3; subst e4; subst e5
            obtain ⟨C, TT, N, hC, hjN, hW, hfk, hTC⟩ := am_fld hF
            obtain ⟨huw, hini, hinst, hN, hCn, ty0, hty, hnm, hdef⟩ := am_cls hC
            exact va_get (D := D) (C := C) (T := TT) (N := N) hx hb hts huw hown hK hPp x hws hC b hjN (hts _ hW) (fun _ h9 => by rw [← h9]) hw hd (kk ws tys H locs ls _ hc hs ⟨hK, hPp, hD, hSs, hG⟩ hL ⟨hwv, hZ⟩ hρ)
          · cases hl
        · cases h
      · cases h
    · cases h
  · cases h

theorem ok_putfield {p : Program} {l : Launch} {e0 : Env} {R : Room} {s : State} {m : MethodId} {args : Array Value} {below : List Frame} {meth : Method} {c : Code} {Q : State → Prop} {D : va_G} {ad : Nat → Nat} {b0 : Nat} {sc : List Int} {A : Nat → Prop} {k : Nat} {ρ0 : List Nat}
    (T : CT p R s m args meth c k ad b0 sc A) {n : Nat} {a b q1 q2 : Nat} {pc : Nat} {L : List (Option AV)} {st : List AV} {G : AG} {cs sl : Nat} {P : Option Prop} {f' : AF}
    (h : s1 k (.putfield n, a, b, q1, q2) (pc, L, st, G, cs, sl) = some (P, f')) (hP : cj P True)
    (hd : decode (mB k) pc = .ok (.putfield n, am_len pc (.putfield n))) (hn : am_lnk (mO k) pc (.putfield n, a, b, q1, q2) = true)
    (kk : OK p l e0 R s m args below meth c Q D ad b0 sc A k ρ0 f') : OK p l e0 R s m args below meth c Q D ad b0 sc A k ρ0 (pc, L, st, G, cs, sl) := by
  unfold s1 at h
  dsimp only at h
  split at h
  · rename_i z x st'
    split at h
    · rename_i ci fs hg
      split at h
      · rename_i hbq
        simp only [Bool.and_eq_true, Nat.beq_eq, Nat.blt_eq] at hbq
        obtain ⟨hca, hbl⟩ := hbq
        subst hca
        split at h
        · cases h
          intro ws tys H locs ls sst hc hs I hL hS hρ
          obtain ⟨⟨hx, hb, hml, hown, hts, hin⟩, hR, F⟩ := T
          dsimp only at hc hs I hL hS ⊢
          obtain ⟨hK, hPp, hD, hSs, hG⟩ := I
          obtain ⟨zz, sst, rfl, hzz, hY⟩ := SR_I hS
          obtain ⟨ra, sst, rfl, hra, hZ⟩ := SR_R hY
          obtain ⟨vs, hws, hfs⟩ := GR_obj hG hg hra
          have hl := hn
          simp only [am_lnk] at hl
          split at hl
          · rename_i o n' a' b' q' pl hF
            simp only [Bool.and_eq_true, Nat.beq_eq] at hl
            obtain ⟨⟨⟨⟨e1, e2⟩, e3⟩, e4⟩, e5⟩ := hl
            replace e3 := e3.symm
            replace e4 := e4.symm
            subst e1; subst e2; subst e3; subst e4; subst e5
            obtain ⟨C, TT, N, hC, hjN, hW, hfk, hTC⟩ := am_fld hF
            obtain ⟨huw, hini, hinst, hN, hCn, ty0, hty, hnm, hdef⟩ := am_cls hC
            obtain ⟨hfin, hpty⟩ : (TT b).2.2.2 = false ∧ parseFieldDescriptor (TT b).2.2.1 = some .int := by
              rcases hq : parseFieldDescriptor (TT b).2.2.1 with _ | t
              · rw [hq] at hfk; simp [am_fk] at hfk
              · rw [hq] at hfk
                cases t <;> simp [am_fk] at hfk
                exact ⟨hfk, rfl⟩
            refine va_put (D := D) (C := C) (T := TT) (N := N) hx hb hts huw ty0 hty hnm hown hK hPp hD hSs x hws hC b hjN (hts _ hW) (fun _ h9 => by rw [← h9]) hfin (ty := .int) (v := .int zz) hpty rfl rfl (by rw [hfs.len]; exact hbl) hd (fun H1 locs1 hP1 hD1 hS1 => ?_)
            have hr := rho_set (b := b0) (q := .inr (ci, vs.set b (.int zz))) hws
            exact kk _ tys H1 locs1 ls _ hc hs ⟨hK, hP1, hD1, hS1, GR_set hG hws ⟨rfl, by rw [upl_eq]; exact hfs.set b (v := .int zz) (a := vI z) hzz⟩⟩ (by rw [hr]; exact hL) (by rw [hr]; exact hZ) (by rw [hr]; exact hρ)
          · cases hl
        · cases h
          intro ws tys H locs ls sst hc hs I hL hS hρ
          obtain ⟨⟨hx, hb, hml, hown, hts, hin⟩, hR, F⟩ := T
          dsimp only at hc hs I hL hS ⊢
          obtain ⟨hK, hPp, hD, hSs, hG⟩ := I
          obtain ⟨zz, sst, rfl, hzz, hY⟩ := SR_I hS
          obtain ⟨ra, sst, rfl, hra, hZ⟩ := SR_R hY
          obtain ⟨vs, hws, hfs⟩ := GR_obj hG hg hra
          have hl := hn
          simp only [am_lnk] at hl
          split at hl
          · rename_i o n' a' b' q' pl hF
            simp only [Bool.and_eq_true, Nat.beq_eq] at hl
            obtain ⟨⟨⟨⟨e1, e2⟩, e3⟩, e4⟩, e5⟩ := hl
            replace e3 := e3.symm
            replace e4 := e4.symm
            subst e1; subst e2; subst e3; subst e4; subst e5
            obtain ⟨C, TT, N, hC, hjN, hW, hfk, hTC⟩ := am_fld hF
            obtain ⟨huw, hini, hinst, hN, hCn, ty0, hty, hnm, hdef⟩ := am_cls hC
            obtain ⟨hfin, hpty⟩ : (TT b).2.2.2 = false ∧ parseFieldDescriptor (TT b).2.2.1 = some .boolean := by
              rcases hq : parseFieldDescriptor (TT b).2.2.1 with _ | t
              · rw [hq] at hfk; simp [am_fk] at hfk
              · rw [hq] at hfk
                cases t <;> simp [am_fk] at hfk
                exact ⟨hfk, rfl⟩
            refine va_put (D := D) (C := C) (T := TT) (N := N) hx hb hts huw ty0 hty hnm hown hK hPp hD hSs x hws hC b hjN (hts _ hW) (fun _ h9 => by rw [← h9]) hfin (ty := .boolean) (v := .int zz) hpty (am_nar hzz hP.1).2.1 (am_nar hzz hP.1).2.2 (by rw [hfs.len]; exact hbl) hd (fun H1 locs1 hP1 hD1 hS1 => ?_)
            have hr := rho_set (b := b0) (q := .inr (ci, vs.set b (.int zz))) hws
            exact kk _ tys H1 locs1 ls _ hc hs ⟨hK, hP1, hD1, hS1, GR_set hG hws ⟨rfl, by rw [upl_eq]; exact hfs.set b (v := .int zz) (a := vI z) hzz⟩⟩ (by rw [hr]; exact hL) (by rw [hr]; exact hZ) (by rw [hr]; exact hρ)
          · cases hl
        · cases h
      · cases h
    · cases h
  · rename_i y x st'
    split at h
    · rename_i ci fs hg
      split at h
      · rename_i hbq
        simp only [Bool.and_eq_true, Nat.beq_eq, Nat.blt_eq] at hbq
        obtain ⟨⟨⟨hca, hbl⟩, hmi⟩, hmo⟩ := hbq
        subst hca
        split at h
        · cases h
          intro ws tys H locs ls sst hc hs I hL hS hρ
          obtain ⟨⟨hx, hb, hml, hown, hts, hin⟩, hR, F⟩ := T
          dsimp only at hc hs I hL hS ⊢
          obtain ⟨hK, hPp, hD, hSs, hG⟩ := I
          obtain ⟨yy, sst, rfl, hyy, hY⟩ := SR_R hS
          obtain ⟨ra, sst, rfl, hra, hZ⟩ := SR_R hY
          obtain ⟨vs, hws, hfs⟩ := GR_obj hG hg hra
          have hl := hn
          simp only [am_lnk] at hl
          split at hl
          · rename_i o n' a' b' q' pl hF
            simp only [Bool.and_eq_true, Nat.beq_eq] at hl
            obtain ⟨⟨⟨⟨e1, e2⟩, e3⟩, e4⟩, e5⟩ := hl
            replace e3 := e3.symm
            replace e4 := e4.symm
            subst e1; subst e2; subst e3; subst e4; subst e5
            obtain ⟨C, TT, N, hC, hjN, hW, hfk, hTC⟩ := am_fld hF
            obtain ⟨huw, hini, hinst, hN, hCn, ty0, hty, hnm, hdef⟩ := am_cls hC
            rcases hq : parseFieldDescriptor (TT b).2.2.1 with _ | t
            · rw [hq] at hfk; simp [am_fk] at hfk
            · rw [hq] at hfk
              cases t with
              | object nm =>
                have hfin : (TT b).2.2.2 = true := by simpa [am_fk] using hfk
                refine va_putF (D := D) (C := C) (T := TT) (N := N) hx hb hts huw ty0 hty hnm hown hK hPp hD hSs x hws hC b hjN (hts _ hW) (fun _ h9 => by rw [← h9]) hfin (hin hmi) (by rw [hTC, hmo]; exact hCn) (ty := .object nm) (v := .ref yy) hq rfl rfl (by rw [hfs.len]; exact hbl) hd (fun H1 locs1 hP1 hD1 hS1 => ?_)
                have hr := rho_set (b := b0) (q := .inr (ci, vs.set b (.ref yy))) hws
                exact kk _ tys H1 locs1 ls _ hc hs ⟨hK, hP1, hD1, hS1, GR_set hG hws ⟨rfl, by rw [upl_eq]; exact hfs.set b (v := .ref yy) (a := vR y) hyy⟩⟩ (by rw [hr]; exact hL) (by rw [hr]; exact hZ) (by rw [hr]; exact hρ)
              | array nm =>
                have hfin : (TT b).2.2.2 = true := by simpa [am_fk] using hfk
                refine va_putF (D := D) (C := C) (T := TT) (N := N) hx hb hts huw ty0 hty hnm hown hK hPp hD hSs x hws hC b hjN (hts _ hW) (fun _ h9 => by rw [← h9]) hfin (hin hmi) (by rw [hTC, hmo]; exact hCn) (ty := .array nm) (v := .ref yy) hq rfl rfl (by rw [hfs.len]; exact hbl) hd (fun H1 locs1 hP1 hD1 hS1 => ?_)
                have hr := rho_set (b := b0) (q := .inr (ci, vs.set b (.ref yy))) hws
                exact kk _ tys H1 locs1 ls _ hc hs ⟨hK, hP1, hD1, hS1, GR_set hG hws ⟨rfl, by rw [upl_eq]; exact hfs.set b (v := .ref yy) (a := vR y) hyy⟩⟩ (by rw [hr]; exact hL) (by rw [hr]; exact hZ) (by rw [hr]; exact hρ)
              | _ => simp [am_fk] at hfk
          · cases hl
        · cases h
      · cases h
    · cases h
  · cases h

theorem ok_iaload {p : Program} {l : Launch} {e0 : Env} {R : Room} {s : State} {m : MethodId} {args : Array Value} {below : List Frame} {meth : Method} {c : Code} {Q : State → Prop} {D : va_G} {ad : Nat → Nat} {b0 : Nat} {sc : List Int} {A : Nat → Prop} {k : Nat} {ρ0 : List Nat}
    (T : CT p R s m args meth c k ad b0 sc A) {a b q1 q2 : Nat} {pc : Nat} {L : List (Option AV)} {st : List AV} {G : AG} {cs sl : Nat} {P : Option Prop} {f' : AF}
    (h : s1 k (.iaload, a, b, q1, q2) (pc, L, st, G, cs, sl) = some (P, f')) (hP : cj P True)
    (hd : decode (mB k) pc = .ok (.iaload, am_len pc (.iaload))) (hn : am_lnk (mO k) pc (.iaload, a, b, q1, q2) = true)
    (kk : OK p l e0 R s m args below meth c Q D ad b0 sc A k ρ0 f') : OK p l e0 R s m args below meth c Q D ad b0 sc A k ρ0 (pc, L, st, G, cs, sl) := by
  unfold s1 at h
  dsimp only at h
  split at h
  · rename_i i x st'
    split at h
    · rename_i l hg
      cases h
      intro ws tys H locs ls sst hc hs I hL hS hρ
      obtain ⟨⟨hx, hb, hml, hown, hts, hin⟩, hR, F⟩ := T
      dsimp only at hc hs I hL hS ⊢
      obtain ⟨hK, hPp, hD, hSs, hG⟩ := I
      obtain ⟨ii, sst, rfl, hii, hY⟩ := SR_I hS
      obtain ⟨ra, sst, rfl, hra, hZ⟩ := SR_R hY
      obtain ⟨h0, h1⟩ := hP.1
      rcases x with _ | x
      · obtain ⟨hA, hbA, hbl, ⟨xs, hX, hxs⟩, hST, hNS⟩ := F
        obtain ⟨Gt, hGt, hGl, hGe⟩ := id hG
        have e0 : ra = b0 := by simpa [rho] using hra.symm
        subst e0
        have el : l = sc := by
          rw [hGt] at hg
          simp [nth] at hg
          exact hg.symm
        subst el
        exact va_sld hx hb hX hbl hbA hSs (am_in hii h0 h1) hd (kk ws tys H locs ls _ hc hs ⟨hK, hPp, hD, hSs, hG⟩ hL ⟨show (xs ii.toNatClampNeg).toInt = rd l i from by rw [am_clamp, hii]; exact hxs _ (by omega), hZ⟩ hρ)
      · obtain ⟨cA, f, hws, ⟨t0, ht⟩, hf⟩ := GR_int hG hg hra (Or.inl rfl)
        exact va_iald hx hb hK hPp x t0 hws ht (am_in hii h0 h1) hd (kk ws tys H locs ls _ hc hs ⟨hK, hPp, hD, hSs, hG⟩ hL ⟨am_rd hf hii h0 h1, hZ⟩ hρ)
    · cases h
  · cases h

theorem ok_baload {p : Program} {l : Launch} {e0 : Env} {R : Room} {s : State} {m : MethodId} {args : Array Value} {below : List Frame} {meth : Method} {c : Code} {Q : State → Prop} {D : va_G} {ad : Nat → Nat} {b0 : Nat} {sc : List Int} {A : Nat → Prop} {k : Nat} {ρ0 : List Nat}
    (T : CT p R s m args meth c k ad b0 sc A) {a b q1 q2 : Nat} {pc : Nat} {L : List (Option AV)} {st : List AV} {G : AG} {cs sl : Nat} {P : Option Prop} {f' : AF}
    (h : s1 k (.baload, a, b, q1, q2) (pc, L, st, G, cs, sl) = some (P, f')) (hP : cj P True)
    (hd : decode (mB k) pc = .ok (.baload, am_len pc (.baload))) (hn : am_lnk (mO k) pc (.baload, a, b, q1, q2) = true)
    (kk : OK p l e0 R s m args below meth c Q D ad b0 sc A k ρ0 f') : OK p l e0 R s m args below meth c Q D ad b0 sc A k ρ0 (pc, L, st, G, cs, sl) := by
  unfold s1 at h
  dsimp only at h
  split at h
  · rename_i i x st'
    split at h
    · rename_i l hg
      cases h
      intro ws tys H locs ls sst hc hs I hL hS hρ
      obtain ⟨⟨hx, hb, hml, hown, hts, hin⟩, hR, F⟩ := T
      dsimp only at hc hs I hL hS ⊢
      obtain ⟨hK, hPp, hD, hSs, hG⟩ := I
      obtain ⟨ii, sst, rfl, hii, hY⟩ := SR_I hS
      obtain ⟨ra, sst, rfl, hra, hZ⟩ := SR_R hY
      obtain ⟨h0, h1⟩ := hP.1
      obtain ⟨cA, f, hws, ⟨t0, ht⟩, hf⟩ := GR_int hG hg hra (Or.inr rfl)
      exact va_zald hx hb hK hPp x t0 hws ht (am_in hii h0 h1) hd (kk ws tys H locs ls _ hc hs ⟨hK, hPp, hD, hSs, hG⟩ hL ⟨am_rd hf hii h0 h1, hZ⟩ hρ)
    · cases h
  · cases h

theorem ok_laload {p : Program} {l : Launch} {e0 : Env} {R : Room} {s : State} {m : MethodId} {args : Array Value} {below : List Frame} {meth : Method} {c : Code} {Q : State → Prop} {D : va_G} {ad : Nat → Nat} {b0 : Nat} {sc : List Int} {A : Nat → Prop} {k : Nat} {ρ0 : List Nat}
    (T : CT p R s m args meth c k ad b0 sc A) {a b q1 q2 : Nat} {pc : Nat} {L : List (Option AV)} {st : List AV} {G : AG} {cs sl : Nat} {P : Option Prop} {f' : AF}
    (h : s1 k (.laload, a, b, q1, q2) (pc, L, st, G, cs, sl) = some (P, f')) (hP : cj P True)
    (hd : decode (mB k) pc = .ok (.laload, am_len pc (.laload))) (hn : am_lnk (mO k) pc (.laload, a, b, q1, q2) = true)
    (kk : OK p l e0 R s m args below meth c Q D ad b0 sc A k ρ0 f') : OK p l e0 R s m args below meth c Q D ad b0 sc A k ρ0 (pc, L, st, G, cs, sl) := by
  unfold s1 at h
  dsimp only at h
  split at h
  · rename_i i x st'
    split at h
    · rename_i l hg
      cases h
      intro ws tys H locs ls sst hc hs I hL hS hρ
      obtain ⟨⟨hx, hb, hml, hown, hts, hin⟩, hR, F⟩ := T
      dsimp only at hc hs I hL hS ⊢
      obtain ⟨hK, hPp, hD, hSs, hG⟩ := I
      obtain ⟨ii, sst, rfl, hii, hY⟩ := SR_I hS
      obtain ⟨ra, sst, rfl, hra, hZ⟩ := SR_R hY
      obtain ⟨h0, h1⟩ := hP.1
      obtain ⟨cA, f, hws, ⟨t0, ht⟩, hf⟩ := GR_long hG hg hra
      exact va_lald hx hb hK hPp x t0 hws ht (am_in hii h0 h1) hd (kk ws tys H locs ls _ hc hs ⟨hK, hPp, hD, hSs, hG⟩ hL ⟨am_rdL hf hii h0 h1, hZ⟩ hρ)
    · cases h
  · cases h

theorem ok_aaload {p : Program} {l : Launch} {e0 : Env} {R : Room} {s : State} {m : MethodId} {args : Array Value} {below : List Frame} {meth : Method} {c : Code} {Q : State → Prop} {D : va_G} {ad : Nat → Nat} {b0 : Nat} {sc : List Int} {A : Nat → Prop} {k : Nat} {ρ0 : List Nat}
    (T : CT p R s m args meth c k ad b0 sc A) {a b q1 q2 : Nat} {pc : Nat} {L : List (Option AV)} {st : List AV} {G : AG} {cs sl : Nat} {P : Option Prop} {f' : AF}
    (h : s1 k (.aaload, a, b, q1, q2) (pc, L, st, G, cs, sl) = some (P, f')) (hP : cj P True)
    (hd : decode (mB k) pc = .ok (.aaload, am_len pc (.aaload))) (hn : am_lnk (mO k) pc (.aaload, a, b, q1, q2) = true)
    (kk : OK p l e0 R s m args below meth c Q D ad b0 sc A k ρ0 f') : OK p l e0 R s m args below meth c Q D ad b0 sc A k ρ0 (pc, L, st, G, cs, sl) := by
  unfold s1 at h
  dsimp only at h
  split at h
  · rename_i i x st'
    split at h
    · rename_i l hg
      cases h
      intro ws tys H locs ls sst hc hs I hL hS hρ
      obtain ⟨⟨hx, hb, hml, hown, hts, hin⟩, hR, F⟩ := T
      dsimp only at hc hs I hL hS ⊢
      obtain ⟨hK, hPp, hD, hSs, hG⟩ := I
      obtain ⟨ii, sst, rfl, hii, hY⟩ := SR_I hS
      obtain ⟨ra, sst, rfl, hra, hZ⟩ := SR_R hY
      obtain ⟨h0, h1⟩ := hP.1
      obtain ⟨cA, f, hws, ⟨t0, ht⟩, hf⟩ := GR_ref hG hg hra
      have hq := hf i.toNat (by omega)
      refine va_aldq hx hb hK hPp x t0 hws ht (am_in hii h0 h1) hd (kk ws tys H locs ls _ hc hs ⟨hK, hPp, hD, hSs, hG⟩ hL ⟨?_, hZ⟩ hρ)
      rw [am_clamp, hii]
      generalize f i.toNat = u at hq ⊢
      generalize l.getD i.toNat none = w at hq ⊢
      rcases u with _ | u <;> rcases w with _ | w <;> first | exact trivial | exact absurd hq id | exact hq
    · cases h
  · cases h

theorem ok_iastore {p : Program} {l : Launch} {e0 : Env} {R : Room} {s : State} {m : MethodId} {args : Array Value} {below : List Frame} {meth : Method} {c : Code} {Q : State → Prop} {D : va_G} {ad : Nat → Nat} {b0 : Nat} {sc : List Int} {A : Nat → Prop} {k : Nat} {ρ0 : List Nat}
    (T : CT p R s m args meth c k ad b0 sc A) {a b q1 q2 : Nat} {pc : Nat} {L : List (Option AV)} {st : List AV} {G : AG} {cs sl : Nat} {P : Option Prop} {f' : AF}
    (h : s1 k (.iastore, a, b, q1, q2) (pc, L, st, G, cs, sl) = some (P, f')) (hP : cj P True)
    (hd : decode (mB k) pc = .ok (.iastore, am_len pc (.iastore))) (hn : am_lnk (mO k) pc (.iastore, a, b, q1, q2) = true)
    (kk : OK p l e0 R s m args below meth c Q D ad b0 sc A k ρ0 f') : OK p l e0 R s m args below meth c Q D ad b0 sc A k ρ0 (pc, L, st, G, cs, sl) := by
  unfold s1 at h
  dsimp only at h
  split at h
  · rename_i v i x st'
    split at h
    · rename_i l hg
      cases h
      intro ws tys H locs ls sst hc hs I hL hS hρ
      obtain ⟨⟨hx, hb, hml, hown, hts, hin⟩, hR, F⟩ := T
      dsimp only at hc hs I hL hS ⊢
      obtain ⟨hK, hPp, hD, hSs, hG⟩ := I
      obtain ⟨vv, sst, rfl, hvv, hX⟩ := SR_I hS
      obtain ⟨ii, sst, rfl, hii, hY⟩ := SR_I hX
      obtain ⟨ra, sst, rfl, hra, hZ⟩ := SR_R hY
      obtain ⟨h0, h1⟩ := hP.1
      obtain ⟨cA, f, hws, ⟨t0, ht⟩, hf⟩ := GR_int hG hg hra (Or.inl rfl)
      refine va_iast hx hb hK hPp hD hSs x t0 hws ht (am_in hii h0 h1) hd (fun H1 locs1 hP1 hD1 hS1 => ?_)
      have hr := rho_set (b := b0) (q := .inl (cA, l.length, .inl (upd f ii.toNatClampNeg vv))) hws
      exact kk _ tys H1 locs1 ls _ hc hs ⟨hK, hP1, hD1, hS1, GR_set hG hws ⟨Or.inl rfl, List.mem_of_getElem? ht, by simp [wr], by have := am_upd hf hii hvv; simpa [wr] using this⟩⟩ (by rw [hr]; exact hL) (by rw [hr]; exact hZ) (by rw [hr]; exact hρ)
    · cases h
  · cases h

theorem ok_bastore {p : Program} {l : Launch} {e0 : Env} {R : Room} {s : State} {m : MethodId} {args : Array Value} {below : List Frame} {meth : Method} {c : Code} {Q : State → Prop} {D : va_G} {ad : Nat → Nat} {b0 : Nat} {sc : List Int} {A : Nat → Prop} {k : Nat} {ρ0 : List Nat}
    (T : CT p R s m args meth c k ad b0 sc A) {a b q1 q2 : Nat} {pc : Nat} {L : List (Option AV)} {st : List AV} {G : AG} {cs sl : Nat} {P : Option Prop} {f' : AF}
    (h : s1 k (.bastore, a, b, q1, q2) (pc, L, st, G, cs, sl) = some (P, f')) (hP : cj P True)
    (hd : decode (mB k) pc = .ok (.bastore, am_len pc (.bastore))) (hn : am_lnk (mO k) pc (.bastore, a, b, q1, q2) = true)
    (kk : OK p l e0 R s m args below meth c Q D ad b0 sc A k ρ0 f') : OK p l e0 R s m args below meth c Q D ad b0 sc A k ρ0 (pc, L, st, G, cs, sl) := by
  unfold s1 at h
  dsimp only at h
  split at h
  · rename_i v i x st'
    split at h
    · rename_i l hg
      cases h
      intro ws tys H locs ls sst hc hs I hL hS hρ
      obtain ⟨⟨hx, hb, hml, hown, hts, hin⟩, hR, F⟩ := T
      dsimp only at hc hs I hL hS ⊢
      obtain ⟨hK, hPp, hD, hSs, hG⟩ := I
      obtain ⟨vv, sst, rfl, hvv, hX⟩ := SR_I hS
      obtain ⟨ii, sst, rfl, hii, hY⟩ := SR_I hX
      obtain ⟨ra, sst, rfl, hra, hZ⟩ := SR_R hY
      obtain ⟨h0, h1⟩ := hP.1.1
      obtain ⟨cA, f, hws, ⟨t0, ht⟩, hf⟩ := GR_int hG hg hra (Or.inr rfl)
      refine va_zast hx hb hK hPp hD hSs x t0 hws ht (am_in hii h0 h1) hd (fun H1 locs1 hP1 hD1 hS1 => ?_)
      rw [(am_nar hvv hP.1.2).1] at hP1 hD1
      have hr := rho_set (b := b0) (q := .inl (cA, l.length, .inl (upd f ii.toNatClampNeg vv))) hws
      exact kk _ tys H1 locs1 ls _ hc hs ⟨hK, hP1, hD1, hS1, GR_set hG hws ⟨Or.inr rfl, List.mem_of_getElem? ht, by simp [wr], by have := am_upd hf hii hvv; simpa [wr] using this⟩⟩ (by rw [hr]; exact hL) (by rw [hr]; exact hZ) (by rw [hr]; exact hρ)
    · cases h
  · cases h

theorem ok_lastore {p : Program} {l : Launch} {e0 : Env} {R : Room} {s : State} {m : MethodId} {args : Array Value} {below : List Frame} {meth : Method} {c : Code} {Q : State → Prop} {D : va_G} {ad : Nat → Nat} {b0 : Nat} {sc : List Int} {A : Nat → Prop} {k : Nat} {ρ0 : List Nat}
    (T : CT p R s m args meth c k ad b0 sc A) {a b q1 q2 : Nat} {pc : Nat} {L : List (Option AV)} {st : List AV} {G : AG} {cs sl : Nat} {P : Option Prop} {f' : AF}
    (h : s1 k (.lastore, a, b, q1, q2) (pc, L, st, G, cs, sl) = some (P, f')) (hP : cj P True)
    (hd : decode (mB k) pc = .ok (.lastore, am_len pc (.lastore))) (hn : am_lnk (mO k) pc (.lastore, a, b, q1, q2) = true)
    (kk : OK p l e0 R s m args below meth c Q D ad b0 sc A k ρ0 f') : OK p l e0 R s m args below meth c Q D ad b0 sc A k ρ0 (pc, L, st, G, cs, sl) := by
  unfold s1 at h
  dsimp only at h
  split at h
  · rename_i v i x st'
    split at h
    · rename_i l hg
      cases h
      intro ws tys H locs ls sst hc hs I hL hS hρ
      obtain ⟨⟨hx, hb, hml, hown, hts, hin⟩, hR, F⟩ := T
      dsimp only at hc hs I hL hS ⊢
      obtain ⟨hK, hPp, hD, hSs, hG⟩ := I
      obtain ⟨vv, sst, rfl, hvv, hX⟩ := SR_J hS
      obtain ⟨ii, sst, rfl, hii, hY⟩ := SR_I hX
      obtain ⟨ra, sst, rfl, hra, hZ⟩ := SR_R hY
      obtain ⟨h0, h1⟩ := hP.1
      obtain ⟨cA, f, hws, ⟨t0, ht⟩, hf⟩ := GR_long hG hg hra
      refine va_last hx hb hK hPp hD hSs x t0 hws ht (am_in hii h0 h1) hd (fun H1 locs1 hP1 hD1 hS1 => ?_)
      have hr := rho_set (b := b0) (q := .inl (cA, l.length, .inr (.inl (vp_updL f ii.toNatClampNeg vv)))) hws
      exact kk _ tys H1 locs1 ls _ hc hs ⟨hK, hP1, hD1, hS1, GR_set hG hws ⟨rfl, List.mem_of_getElem? ht, by simp [wr], by have := am_updL hf hii hvv; simpa [wr] using this⟩⟩ (by rw [hr]; exact hL) (by rw [hr]; exact hZ) (by rw [hr]; exact hρ)
    · cases h
  · cases h

theorem ok_aastore {p : Program} {l : Launch} {e0 : Env} {R : Room} {s : State} {m : MethodId} {args : Array Value} {below : List Frame} {meth : Method} {c : Code} {Q : State → Prop} {D : va_G} {ad : Nat → Nat} {b0 : Nat} {sc : List Int} {A : Nat → Prop} {k : Nat} {ρ0 : List Nat}
    (T : CT p R s m args meth c k ad b0 sc A) {a b q1 q2 : Nat} {pc : Nat} {L : List (Option AV)} {st : List AV} {G : AG} {cs sl : Nat} {P : Option Prop} {f' : AF}
    (h : s1 k (.aastore, a, b, q1, q2) (pc, L, st, G, cs, sl) = some (P, f')) (hP : cj P True)
    (hd : decode (mB k) pc = .ok (.aastore, am_len pc (.aastore))) (hn : am_lnk (mO k) pc (.aastore, a, b, q1, q2) = true)
    (kk : OK p l e0 R s m args below meth c Q D ad b0 sc A k ρ0 f') : OK p l e0 R s m args below meth c Q D ad b0 sc A k ρ0 (pc, L, st, G, cs, sl) := by
  unfold s1 at h
  dsimp only at h
  split at h
  · rename_i y i x st'
    split at h
    · rename_i l fs hg hg2
      cases h
      intro ws tys H locs ls sst hc hs I hL hS hρ
      obtain ⟨⟨hx, hb, hml, hown, hts, hin⟩, hR, F⟩ := T
      dsimp only at hc hs I hL hS ⊢
      obtain ⟨hK, hPp, hD, hSs, hG⟩ := I
      obtain ⟨vv, sst, rfl, hvv, hX⟩ := SR_R hS
      obtain ⟨ii, sst, rfl, hii, hY⟩ := SR_I hX
      obtain ⟨ra, sst, rfl, hra, hZ⟩ := SR_R hY
      obtain ⟨h0, h1⟩ := hP.1
      obtain ⟨cA, f, hws, ⟨t0, ht⟩, hf⟩ := GR_ref hG hg hra
      obtain ⟨vs, hws2, hfs⟩ := GR_obj hG hg2 hvv
      refine va_astq (r := (RX0, TX0, 9)) hx hb hK hPp hD hSs x t0 y 0 hws ht hws2 rfl (am_in hii h0 h1) hd (fun H1 locs1 hP1 hD1 hS1 => ?_)
      have hr := rho_set (b := b0) (q := .inl (cA, l.length, .inr (.inr (.inr (.inr (va_up f ii.toNatClampNeg (some vv))))))) hws
      refine kk _ tys H1 locs1 ls _ hc hs ⟨hK, hP1, hD1, hS1, GR_set hG hws ⟨List.mem_of_getElem? ht, by simp, fun j hj => ?_⟩⟩ (by rw [hr]; exact hL) (by rw [hr]; exact hZ) (by rw [hr]; exact hρ)
      unfold va_up
      rw [am_clamp, hii, List.getD_eq_getElem?_getD, List.getElem?_set]
      by_cases e : j = i.toNat
      · subst e
        rw [if_pos rfl, if_pos rfl, if_pos (by omega)]
        exact hvv
      · rw [if_neg e, if_neg (Ne.symm e), ← List.getD_eq_getElem?_getD]
        exact hf j hj
    · cases h
  · cases h

theorem ok_arraylength {p : Program} {l : Launch} {e0 : Env} {R : Room} {s : State} {m : MethodId} {args : Array Value} {below : List Frame} {meth : Method} {c : Code} {Q : State → Prop} {D : va_G} {ad : Nat → Nat} {b0 : Nat} {sc : List Int} {A : Nat → Prop} {k : Nat} {ρ0 : List Nat}
    (T : CT p R s m args meth c k ad b0 sc A) {a b q1 q2 : Nat} {pc : Nat} {L : List (Option AV)} {st : List AV} {G : AG} {cs sl : Nat} {P : Option Prop} {f' : AF}
    (h : s1 k (.arraylength, a, b, q1, q2) (pc, L, st, G, cs, sl) = some (P, f')) (hP : cj P True)
    (hd : decode (mB k) pc = .ok (.arraylength, am_len pc (.arraylength))) (hn : am_lnk (mO k) pc (.arraylength, a, b, q1, q2) = true)
    (kk : OK p l e0 R s m args below meth c Q D ad b0 sc A k ρ0 f') : OK p l e0 R s m args below meth c Q D ad b0 sc A k ρ0 (pc, L, st, G, cs, sl) := by
  unfold s1 at h
  dsimp only at h
  split at h
  · rename_i st'
    split at h
    · rename_i l hg
      cases h
      intro ws tys H locs ls sst hc hs I hL hS hρ
      obtain ⟨⟨hx, hb, hml, hown, hts, hin⟩, hR, F⟩ := T
      dsimp only at hc hs I hL hS ⊢
      obtain ⟨hK, hPp, hD, hSs, hG⟩ := I
      obtain ⟨ra, sst, rfl, hra, hZ⟩ := SR_R hS
      obtain ⟨hA, hbA, hbl, ⟨xs, hX, hxs⟩, hST, hNS⟩ := F
      obtain ⟨Gt, hGt, hGl, hGe⟩ := id hG
      have e0 : ra = b0 := by simpa [rho] using hra.symm
      subst e0
      have el : l = sc := by
        rw [hGt] at hg
        simp [nth] at hg
        exact hg.symm
      subst el
      have hlen := hP.1
      exact va_slen hx hb hX hbl hbA hSs hd (kk ws tys H locs ls _ hc hs ⟨hK, hPp, hD, hSs, hG⟩ hL ⟨nI_toInt (Nat.lt_of_le_of_lt hlen (by decide)), hZ⟩ hρ)
    · cases h
  · cases h

theorem ok_newint {p : Program} {l : Launch} {e0 : Env} {R : Room} {s : State} {m : MethodId} {args : Array Value} {below : List Frame} {meth : Method} {c : Code} {Q : State → Prop} {D : va_G} {ad : Nat → Nat} {b0 : Nat} {sc : List Int} {A : Nat → Prop} {k : Nat} {ρ0 : List Nat}
    (T : CT p R s m args meth c k ad b0 sc A) {a b q1 q2 : Nat} {pc : Nat} {L : List (Option AV)} {st : List AV} {G : AG} {cs sl : Nat} {P : Option Prop} {f' : AF}
    (h : s1 k (.newarray .int, a, b, q1, q2) (pc, L, st, G, cs, sl) = some (P, f')) (hP : cj P True)
    (hd : decode (mB k) pc = .ok (.newarray .int, am_len pc (.newarray .int))) (hn : am_lnk (mO k) pc (.newarray .int, a, b, q1, q2) = true)
    (kk : OK p l e0 R s m args below meth c Q D ad b0 sc A k ρ0 f') : OK p l e0 R s m args below meth c Q D ad b0 sc A k ρ0 (pc, L, st, G, cs, sl) := by
  unfold s1 at h
  dsimp only at h
  split at h
  · rename_i n st'
    cases h
    intro ws tys H locs ls sst hc hs I hL hS hρ
    obtain ⟨⟨hx, hb, hml, hown, hts, hin⟩, hR, F⟩ := T
    dsimp only at hc hs I hL hS ⊢
    obtain ⟨hK, hPp, hD, hSs, hG⟩ := I
    obtain ⟨nn, sst, rfl, hnn, hZ⟩ := SR_I hS
    obtain ⟨⟨h0, h1⟩, h2, h3⟩ := hP.1
    have hN : nn.toNatClampNeg = n.toNat := by rw [am_clamp, hnn]
    have hneg : ¬ nn < 0 := by rw [Int32.lt_iff_toInt_lt]; show ¬ nn.toInt < 0; omega
    have hby : n.toNat * componentBytes .int ≤ 536870912 := Nat.le_trans (Nat.mul_le_mul (show n.toNat ≤ 1000 by omega) (show componentBytes .int ≤ 8 from by decide)) (by decide)
    refine va_newa (atype := .int) (ty := .int) (a0 := (n.toNat, .inl (fun _ => 0))) hx hb (hts _ am_ar.1) rfl hK hPp hD hSs F.1 (fun cA => rfl) hneg hN hby (Nat.le_trans h2 hR.2.2.1) (Nat.le_trans h3 hR.2.2.2) hd (fun qa cA H1 hK1 hP1 hD1 hS1 => ?_)
    exact kk _ _ H1 locs ls _ h2 h3 ⟨hK1, hP1, hD1, hS1, GR_push hG (fun x hx9 => List.mem_append_left _ hx9) ⟨Or.inl rfl, List.mem_append_right _ List.mem_cons_self, by simp, fun j hj => by simp [List.getD_eq_getElem?_getD, List.getElem?_replicate, hj]⟩⟩ (hL.mono rho_push) ⟨GR_len hG qa _, hZ.mono rho_push⟩ (hρ.trans rho_push)
  · cases h

theorem ok_newbool {p : Program} {l : Launch} {e0 : Env} {R : Room} {s : State} {m : MethodId} {args : Array Value} {below : List Frame} {meth : Method} {c : Code} {Q : State → Prop} {D : va_G} {ad : Nat → Nat} {b0 : Nat} {sc : List Int} {A : Nat → Prop} {k : Nat} {ρ0 : List Nat}
    (T : CT p R s m args meth c k ad b0 sc A) {a b q1 q2 : Nat} {pc : Nat} {L : List (Option AV)} {st : List AV} {G : AG} {cs sl : Nat} {P : Option Prop} {f' : AF}
    (h : s1 k (.newarray .boolean, a, b, q1, q2) (pc, L, st, G, cs, sl) = some (P, f')) (hP : cj P True)
    (hd : decode (mB k) pc = .ok (.newarray .boolean, am_len pc (.newarray .boolean))) (hn : am_lnk (mO k) pc (.newarray .boolean, a, b, q1, q2) = true)
    (kk : OK p l e0 R s m args below meth c Q D ad b0 sc A k ρ0 f') : OK p l e0 R s m args below meth c Q D ad b0 sc A k ρ0 (pc, L, st, G, cs, sl) := by
  unfold s1 at h
  dsimp only at h
  split at h
  · rename_i n st'
    cases h
    intro ws tys H locs ls sst hc hs I hL hS hρ
    obtain ⟨⟨hx, hb, hml, hown, hts, hin⟩, hR, F⟩ := T
    dsimp only at hc hs I hL hS ⊢
    obtain ⟨hK, hPp, hD, hSs, hG⟩ := I
    obtain ⟨nn, sst, rfl, hnn, hZ⟩ := SR_I hS
    obtain ⟨⟨h0, h1⟩, h2, h3⟩ := hP.1
    have hN : nn.toNatClampNeg = n.toNat := by rw [am_clamp, hnn]
    have hneg : ¬ nn < 0 := by rw [Int32.lt_iff_toInt_lt]; show ¬ nn.toInt < 0; omega
    have hby : n.toNat * componentBytes .boolean ≤ 536870912 := Nat.le_trans (Nat.mul_le_mul (show n.toNat ≤ 1000 by omega) (show componentBytes .boolean ≤ 8 from by decide)) (by decide)
    refine va_newa (atype := .boolean) (ty := .boolean) (a0 := (n.toNat, .inl (fun _ => 0))) hx hb (hts _ am_ar.2.1) rfl hK hPp hD hSs F.1 (fun cA => rfl) hneg hN hby (Nat.le_trans h2 hR.2.2.1) (Nat.le_trans h3 hR.2.2.2) hd (fun qa cA H1 hK1 hP1 hD1 hS1 => ?_)
    exact kk _ _ H1 locs ls _ h2 h3 ⟨hK1, hP1, hD1, hS1, GR_push hG (fun x hx9 => List.mem_append_left _ hx9) ⟨Or.inr rfl, List.mem_append_right _ List.mem_cons_self, by simp, fun j hj => by simp [List.getD_eq_getElem?_getD, List.getElem?_replicate, hj]⟩⟩ (hL.mono rho_push) ⟨GR_len hG qa _, hZ.mono rho_push⟩ (hρ.trans rho_push)
  · cases h

theorem ok_newlong {p : Program} {l : Launch} {e0 : Env} {R : Room} {s : State} {m : MethodId} {args : Array Value} {below : List Frame} {meth : Method} {c : Code} {Q : State → Prop} {D : va_G} {ad : Nat → Nat} {b0 : Nat} {sc : List Int} {A : Nat → Prop} {k : Nat} {ρ0 : List Nat}
    (T : CT p R s m args meth c k ad b0 sc A) {a b q1 q2 : Nat} {pc : Nat} {L : List (Option AV)} {st : List AV} {G : AG} {cs sl : Nat} {P : Option Prop} {f' : AF}
    (h : s1 k (.newarray .long, a, b, q1, q2) (pc, L, st, G, cs, sl) = some (P, f')) (hP : cj P True)
    (hd : decode (mB k) pc = .ok (.newarray .long, am_len pc (.newarray .long))) (hn : am_lnk (mO k) pc (.newarray .long, a, b, q1, q2) = true)
    (kk : OK p l e0 R s m args below meth c Q D ad b0 sc A k ρ0 f') : OK p l e0 R s m args below meth c Q D ad b0 sc A k ρ0 (pc, L, st, G, cs, sl) := by
  unfold s1 at h
  dsimp only at h
  split at h
  · rename_i n st'
    cases h
    intro ws tys H locs ls sst hc hs I hL hS hρ
    obtain ⟨⟨hx, hb, hml, hown, hts, hin⟩, hR, F⟩ := T
    dsimp only at hc hs I hL hS ⊢
    obtain ⟨hK, hPp, hD, hSs, hG⟩ := I
    obtain ⟨nn, sst, rfl, hnn, hZ⟩ := SR_I hS
    obtain ⟨⟨h0, h1⟩, h2, h3⟩ := hP.1
    have hN : nn.toNatClampNeg = n.toNat := by rw [am_clamp, hnn]
    have hneg : ¬ nn < 0 := by rw [Int32.lt_iff_toInt_lt]; show ¬ nn.toInt < 0; omega
    have hby : n.toNat * componentBytes .long ≤ 536870912 := Nat.le_trans (Nat.mul_le_mul (show n.toNat ≤ 1000 by omega) (show componentBytes .long ≤ 8 from by decide)) (by decide)
    refine va_newa (atype := .long) (ty := .long) (a0 := (n.toNat, .inr (.inl (fun _ => 0)))) hx hb (hts _ am_ar.2.2.1) rfl hK hPp hD hSs F.1 (fun cA => rfl) hneg hN hby (Nat.le_trans h2 hR.2.2.1) (Nat.le_trans h3 hR.2.2.2) hd (fun qa cA H1 hK1 hP1 hD1 hS1 => ?_)
    exact kk _ _ H1 locs ls _ h2 h3 ⟨hK1, hP1, hD1, hS1, GR_push hG (fun x hx9 => List.mem_append_left _ hx9) ⟨rfl, List.mem_append_right _ List.mem_cons_self, by simp, fun j hj => by simp [List.getD_eq_getElem?_getD, List.getElem?_replicate, hj]⟩⟩ (hL.mono rho_push) ⟨GR_len hG qa _, hZ.mono rho_push⟩ (hρ.trans rho_push)
  · cases h

theorem ok_anewarray {p : Program} {l : Launch} {e0 : Env} {R : Room} {s : State} {m : MethodId} {args : Array Value} {below : List Frame} {meth : Method} {c : Code} {Q : State → Prop} {D : va_G} {ad : Nat → Nat} {b0 : Nat} {sc : List Int} {A : Nat → Prop} {k : Nat} {ρ0 : List Nat}
    (T : CT p R s m args meth c k ad b0 sc A) {n0 : Nat} {a b q1 q2 : Nat} {pc : Nat} {L : List (Option AV)} {st : List AV} {G : AG} {cs sl : Nat} {P : Option Prop} {f' : AF}
    (h : s1 k (.anewarray n0, a, b, q1, q2) (pc, L, st, G, cs, sl) = some (P, f')) (hP : cj P True)
    (hd : decode (mB k) pc = .ok (.anewarray n0, am_len pc (.anewarray n0))) (hn : am_lnk (mO k) pc (.anewarray n0, a, b, q1, q2) = true)
    (kk : OK p l e0 R s m args below meth c Q D ad b0 sc A k ρ0 f') : OK p l e0 R s m args below meth c Q D ad b0 sc A k ρ0 (pc, L, st, G, cs, sl) := by
  unfold s1 at h
  dsimp only at h
  split at h
  · rename_i n st'
    cases h
    intro ws tys H locs ls sst hc hs I hL hS hρ
    obtain ⟨⟨hx, hb, hml, hown, hts, hin⟩, hR, F⟩ := T
    dsimp only at hc hs I hL hS ⊢
    obtain ⟨hK, hPp, hD, hSs, hG⟩ := I
    obtain ⟨nn, sst, rfl, hnn, hZ⟩ := SR_I hS
    obtain ⟨⟨h0, h1⟩, h2, h3⟩ := hP.1
    have hN : nn.toNatClampNeg = n.toNat := by rw [am_clamp, hnn]
    have hneg : ¬ nn < 0 := by rw [Int32.lt_iff_toInt_lt]; show ¬ nn.toInt < 0; omega
    have hl := hn
    simp only [am_lnk] at hl
    split at hl
    · rename_i o n' a' pl hF
      simp only [Bool.and_eq_true, Nat.beq_eq] at hl
      obtain ⟨⟨⟨e1, e2⟩, e3⟩, e4⟩ := hl
      subst e1; subst e2; subst e3; subst e4
      obtain ⟨-, hW⟩ := am_cl hF
      have hby : n.toNat * 4 ≤ 536870912 := by
        have : n.toNat ≤ 1000 := by omega
        omega
      refine va_newq (C := RX0) hx hb hown (hts _ hW) F.2.2.2.2.2.2.1 hK hPp hD hSs F.1 hneg hN hby (Nat.le_trans h2 hR.2.2.1) (Nat.le_trans h3 hR.2.2.2) hd (fun qa cA H1 hK1 hP1 hD1 hS1 => ?_)
      exact kk _ _ H1 locs ls _ h2 h3 ⟨hK1, hP1, hD1, hS1, GR_push hG (fun x hx9 => List.mem_append_left _ hx9) ⟨List.mem_append_right _ List.mem_cons_self, by simp, fun j hj => by simp [List.getD_eq_getElem?_getD, List.getElem?_replicate, hj]; exact trivial⟩⟩ (hL.mono rho_push) ⟨GR_len hG qa _, hZ.mono rho_push⟩ (hρ.trans rho_push)
    · cases hl
  · cases h

theorem ok_new {p : Program} {l : Launch} {e0 : Env} {R : Room} {s : State} {m : MethodId} {args : Array Value} {below : List Frame} {meth : Method} {c : Code} {Q : State → Prop} {D : va_G} {ad : Nat → Nat} {b0 : Nat} {sc : List Int} {A : Nat → Prop} {k : Nat} {ρ0 : List Nat}
    (T : CT p R s m args meth c k ad b0 sc A) {n0 : Nat} {a b q1 q2 : Nat} {pc : Nat} {L : List (Option AV)} {st : List AV} {G : AG} {cs sl : Nat} {P : Option Prop} {f' : AF}
    (h : s1 k (.new n0, a, b, q1, q2) (pc, L, st, G, cs, sl) = some (P, f')) (hP : cj P True)
    (hd : decode (mB k) pc = .ok (.new n0, am_len pc (.new n0))) (hn : am_lnk (mO k) pc (.new n0, a, b, q1, q2) = true)
    (kk : OK p l e0 R s m args below meth c Q D ad b0 sc A k ρ0 f') : OK p l e0 R s m args below meth c Q D ad b0 sc A k ρ0 (pc, L, st, G, cs, sl) := by
  unfold s1 at h
  dsimp only at h
  cases h
  intro ws tys H locs ls sst hc hs I hL hS hρ
  obtain ⟨⟨hx, hb, hml, hown, hts, hin⟩, hR, F⟩ := T
  dsimp only at hc hs I hL hS ⊢
  obtain ⟨hK, hPp, hD, hSs, hG⟩ := I
  obtain ⟨h2, h3⟩ := hP.1
  have hl := hn
  simp only [am_lnk] at hl
  split at hl
  · rename_i o n' a' pl hF
    simp only [Bool.and_eq_true, Nat.beq_eq] at hl
    obtain ⟨⟨e1, e2⟩, e3⟩ := hl
    subst e1; subst e2; subst e3
    obtain ⟨h8, hW⟩ := am_cl hF
    obtain ⟨⟨C, TT, N⟩, hC⟩ := am_C7 _ h8
    obtain ⟨huw, hini, hinst, hNl, hCn, ty0, hty, hnm, hdef⟩ := am_cls hC
    dsimp only at huw hini hinst hNl hCn hty hnm hdef
    rw [← hCn] at hW
    rw [← hNl] at h3 kk
    refine va_new (fs := dflV _) hx hb hts huw ty0 hty hown (hts _ hW) (hts _ hinst) (hts _ hini) hK hPp hD hSs F.1 hC hdef (Nat.le_trans h2 hR.2.2.1) (Nat.le_trans h3 hR.2.2.2) hd (fun qa H1 hP1 hD1 hS1 => ?_)
    exact kk _ tys H1 locs ls _ h2 h3 ⟨hK, hP1, hD1, hS1, GR_push hG (fun x hx9 => hx9) ⟨rfl, am_dfl _ _ _ h8⟩⟩ (hL.mono rho_push) ⟨GR_len hG qa _, hS.mono rho_push⟩ (hρ.trans rho_push)
  · cases hl

theorem ok_ldc {p : Program} {l : Launch} {e0 : Env} {R : Room} {s : State} {m : MethodId} {args : Array Value} {below : List Frame} {meth : Method} {c : Code} {Q : State → Prop} {D : va_G} {ad : Nat → Nat} {b0 : Nat} {sc : List Int} {A : Nat → Prop} {k : Nat} {ρ0 : List Nat}
    (T : CT p R s m args meth c k ad b0 sc A) {n0 : Nat} {a b q1 q2 : Nat} {pc : Nat} {L : List (Option AV)} {st : List AV} {G : AG} {cs sl : Nat} {P : Option Prop} {f' : AF}
    (h : s1 k (.ldc n0, a, b, q1, q2) (pc, L, st, G, cs, sl) = some (P, f')) (hP : cj P True)
    (hd : decode (mB k) pc = .ok (.ldc n0, am_len pc (.ldc n0))) (hn : am_lnk (mO k) pc (.ldc n0, a, b, q1, q2) = true)
    (kk : OK p l e0 R s m args below meth c Q D ad b0 sc A k ρ0 f') : OK p l e0 R s m args below meth c Q D ad b0 sc A k ρ0 (pc, L, st, G, cs, sl) := by
  unfold s1 at h
  dsimp only at h
  cases h
  intro ws tys H locs ls sst hc hs I hL hS hρ
  obtain ⟨⟨hx, hb, hml, hown, hts, hin⟩, hR, F⟩ := T
  dsimp only at hc hs I hL hS ⊢
  simp only [am_lnk] at hn
  split at hn
  · rename_i n' tx hF
    simp only [Bool.and_eq_true, Nat.beq_eq] at hn
    obtain ⟨e1, e2⟩ := hn
    subst e1
    have h14 : a < 29 := (List.getElem?_eq_some_iff.mp hF).1
    have hso : am_R (mO k) = am_SO a := by
      unfold am_SO
      cases q : Nat.blt a 14 with
      | true =>
        rw [q] at e2
        rw [Nat.eq_of_beq_eq_true e2]
        rfl
      | false =>
        rw [q] at e2
        rw [Nat.eq_of_beq_eq_true e2]
        rfl
    rw [hso] at hown
    exact va_ldcS (own := am_SO a) hx hb hown (F.2.2.2.2.1.2.1 a n' tx hF) hd (kk ws tys H locs ls _ hc hs I hL ⟨⟨h14, rfl⟩, hS⟩ hρ)
  · cases hn

theorem ok_special {p : Program} {l : Launch} {e0 : Env} {R : Room} {s : State} {m : MethodId} {args : Array Value} {below : List Frame} {meth : Method} {c : Code} {Q : State → Prop} {D : va_G} {ad : Nat → Nat} {b0 : Nat} {sc : List Int} {A : Nat → Prop} {k : Nat} {ρ0 : List Nat}
    (T : CT p R s m args meth c k ad b0 sc A) {n0 : Nat} {a b q1 q2 : Nat} {pc : Nat} {L : List (Option AV)} {st : List AV} {G : AG} {cs sl : Nat} {P : Option Prop} {f' : AF}
    (h : s1 k (.invokespecial n0, a, b, q1, q2) (pc, L, st, G, cs, sl) = some (P, f')) (hP : cj P True)
    (hd : decode (mB k) pc = .ok (.invokespecial n0, am_len pc (.invokespecial n0))) (hn : am_lnk (mO k) pc (.invokespecial n0, a, b, q1, q2) = true)
    (kk : OK p l e0 R s m args below meth c Q D ad b0 sc A k ρ0 f') : OK p l e0 R s m args below meth c Q D ad b0 sc A k ρ0 (pc, L, st, G, cs, sl) := by
  unfold s1 at h
  dsimp only at h
  split at h
  · skip
    split at h
    · rename_i x st'
      split at h
      · rename_i hroom
        cases h
        intro ws tys H locs ls sst hc hs I hL hS hρ
        obtain ⟨⟨hx, hb, hml, hown, hts, hin⟩, hR, F⟩ := T
        dsimp only at hc hs I hL hS ⊢
        obtain ⟨ra, sst, rfl, hra, hZ⟩ := SR_R hS
        simp only [Bool.and_eq_true, Nat.ble_eq] at hroom
        have hl := hn
        simp only [am_lnk] at hl
        split at hl
        · rename_i o n' a' b' pl hF
          simp only [Bool.and_eq_true, Nat.beq_eq] at hl
          obtain ⟨⟨⟨⟨e1, e2⟩, e3⟩, e4⟩, -⟩ := hl
          subst e1; subst e2; subst e3; subst e4
          have hW := am_ml hF (by decide)
          exact W.objInit (g := F0 m pc ls (.ref ra :: sst)) hx hb hown (hts _ hW) (hts _ am_oi.1) (hts _ am_oi.2) rfl (by rw [hml]; exact hL.1) rfl hd (Nat.le_trans hroom.1 hR.1) (by rw [hZ.cats]; exact Nat.le_trans (by show 2 * 0 + _ + 12 ≤ _; omega) (Nat.le_trans hroom.2 hR.2.1)) (kk ws tys H locs ls _ hc hs I hL hZ hρ)
        · cases hl
      · cases h
    · cases h
  · cases h

theorem ok_static {p : Program} {l : Launch} {e0 : Env} {R : Room} {s : State} {m : MethodId} {args : Array Value} {below : List Frame} {meth : Method} {c : Code} {Q : State → Prop} {D : va_G} {ad : Nat → Nat} {b0 : Nat} {sc : List Int} {A : Nat → Prop} {k : Nat} {ρ0 : List Nat}
    (T : CT p R s m args meth c k ad b0 sc A) {n0 : Nat} {a b q1 q2 : Nat} {pc : Nat} {L : List (Option AV)} {st : List AV} {G : AG} {cs sl : Nat} {P : Option Prop} {f' : AF}
    (h : s1 k (.invokestatic n0, a, b, q1, q2) (pc, L, st, G, cs, sl) = some (P, f')) (hP : cj P True)
    (hd : decode (mB k) pc = .ok (.invokestatic n0, am_len pc (.invokestatic n0))) (hn : am_lnk (mO k) pc (.invokestatic n0, a, b, q1, q2) = true)
    (kk : OK p l e0 R s m args below meth c Q D ad b0 sc A k ρ0 f') : OK p l e0 R s m args below meth c Q D ad b0 sc A k ρ0 (pc, L, st, G, cs, sl) := by
  unfold s1 at h
  dsimp only at h
  split at h
  · split at h
    · rename_i y x st'
      split at h
      · rename_i hroom
        cases h
        intro ws tys H locs ls sst hc hs I hL hS hρ
        obtain ⟨⟨hx, hb, hml, hown, hts, hin⟩, hR, F⟩ := T
        dsimp only at hc hs I hL hS ⊢
        obtain ⟨yy, sst, rfl, hyy, hY⟩ := SR_I hS
        obtain ⟨xx, sst, rfl, hxx, hZ⟩ := SR_I hY
        simp only [Bool.and_eq_true, Nat.ble_eq] at hroom
        have hl := hn
        simp only [am_lnk] at hl
        split at hl
        · rename_i o n' a' b' pl hF
          simp only [Bool.and_eq_true, Nat.beq_eq] at hl
          obtain ⟨⟨⟨⟨e1, e2⟩, e3⟩, e4⟩, -⟩ := hl
          subst e1; subst e2; subst e3; subst e4
          have hW := am_ml hF (by decide)
          refine va_mmin hx hb (by rw [hml]; exact hL.1.symm) hown (hts _ hW) (hts _ am_mn.1) (hts _ am_mn.2.1) (hts _ am_mn.2.2) (Nat.le_trans hroom.1 hR.1) (by rw [hZ.cats]; exact Nat.le_trans hroom.2 hR.2.1) (Nat.le_trans hc hR.2.2.1) (Nat.le_trans hs hR.2.2.2) hd (kk ws tys H locs ls _ hc hs I hL ⟨?_, hZ⟩ hρ)
          show (if yy < xx then yy else xx).toInt = mnI x y
          subst hyy; subst hxx
          unfold mnI
          by_cases q : yy < xx
          · rw [if_pos q, if_pos (Int32.lt_iff_toInt_lt.mp q)]
          · rw [if_neg q, if_neg (fun z => q (Int32.lt_iff_toInt_lt.mpr z))]
        · cases hl
      · cases h
    · cases h
  · split at h
    · rename_i n dp x sp y st'
      split at h
      · rename_i hroom
        split at h
        · rename_i l1 l2 hg1 hg2
          cases h
          intro ws tys H locs ls sst hc hs I hL hS hρ
          obtain ⟨⟨hx, hb, hml, hown, hts, hin⟩, hR, F⟩ := T
          dsimp only at hc hs I hL hS ⊢
          obtain ⟨hK, hPp, hD, hSs, hG⟩ := I
          obtain ⟨nn, sst, rfl, hnn, hV⟩ := SR_I hS
          obtain ⟨dd, sst, rfl, hdd, hW0⟩ := SR_I hV
          obtain ⟨ra, sst, rfl, hra, hX⟩ := SR_R hW0
          obtain ⟨ss, sst, rfl, hss, hY⟩ := SR_I hX
          obtain ⟨rb, sst, rfl, hrb, hZ⟩ := SR_R hY
          simp only [Bool.and_eq_true, Nat.ble_eq] at hroom
          obtain ⟨h0, h1, h2, h3, h4⟩ := hP.1
          obtain ⟨c0, f, hw0, ⟨t0, ht0⟩, hf⟩ := GR_int hG hg1 hrb (Or.inl rfl)
          obtain ⟨c1, g, hw1, ⟨t1, ht1⟩, hg⟩ := GR_int hG hg2 hra (Or.inl rfl)
          have hneg : ∀ (u : Int32) (z : Int), u.toInt = z → 0 ≤ z → ¬ u < 0 := fun u z e e0 => by rw [Int32.lt_iff_toInt_lt]; show ¬ u.toInt < 0; omega
          have hl := hn
          simp only [am_lnk] at hl
          split at hl
          · rename_i o n' a' b' pl hF
            simp only [Bool.and_eq_true, Nat.beq_eq] at hl
            obtain ⟨⟨⟨⟨e1, e2⟩, e3⟩, e4⟩, -⟩ := hl
            subst e1; subst e2; subst e3; subst e4
            have hW := am_ml hF (by decide)
            refine va_copyi hx hb (by rw [hml]; exact hL.1.symm) hown (hts _ hW) (hts _ am_ac.2.2) (hts _ am_ac.1) (hts _ am_ac.2.1) hK hPp hD hSs y x t0 t1 hw0 hw1 ht0 ht1 rfl (hneg _ _ hss h1) (hneg _ _ hdd h2) (hneg _ _ hnn h0) (by rw [am_clamp, am_clamp, hss, hnn]; omega) (by rw [am_clamp, am_clamp, hdd, hnn]; omega) (fun i _ => rfl) (Nat.le_trans hroom.1 hR.1) (by rw [hZ.cats]; exact Nat.le_trans (Nat.add_le_add_left (by decide) _) (Nat.le_trans hroom.2 hR.2.1)) hd (fun H1 locs1 hP1 hD1 hS1 => ?_)
            have hr := rho_set (b := b0) (q := .inl (c1, l2.length, .inl (va_cpy f g ss.toNatClampNeg dd.toNatClampNeg nn.toNatClampNeg))) hw1
            refine kk _ tys H1 locs1 ls _ hc hs ⟨hK, hP1, hD1, hS1, GR_set hG hw1 ⟨Or.inl rfl, List.mem_of_getElem? ht1, by simp [cpI], fun j hj => ?_⟩⟩ (by rw [hr]; exact hL) (by rw [hr]; exact hZ) (by rw [hr]; exact hρ)
            unfold va_cpy cpI
            rw [am_clamp, am_clamp, am_clamp, hss, hdd, hnn, List.getD_eq_getElem?_getD, List.getElem?_map, List.getElem?_range hj]
            show _ = if _ then _ else _
            by_cases q : dp.toNat ≤ j ∧ j < dp.toNat + n.toNat
            · rw [if_pos q, if_pos q]
              exact hf _ (by omega)
            · rw [if_neg q, if_neg q]
              exact hg _ hj
          · cases hl
        · cases h
      · cases h
    · cases h
  · cases h
