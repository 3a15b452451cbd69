theorem am_br {C c X Y : Prop} (h : (C ∧ X) ∨ (¬ C ∧ Y)) (e : c ↔ C) : (c → X) ∧ (¬ c → Y) := by
  rcases h with ⟨h1, h2⟩ | ⟨h1, h2⟩
  · exact ⟨fun _ => h2, fun q => absurd (e.mpr h1) q⟩
  · exact ⟨fun q => absurd (e.mp q) h1, fun _ => h2⟩
theorem am_eq0 (x : Int32) : x = 0 ↔ x.toInt = 0 := Int32.toInt_inj.symm
theorem am_mO8 : ∀ j, mP j = true → mSt j = false → mO j < 9 := by
  intro j hj hs
  have h : mL2.all (fun x => mSt x || Nat.blt (mO x) 9) = true := by decide +kernel
  have := List.all_eq_true.mp h j (am_mem j hj)
  rw [hs] at this
  exact Nat.blt_eq.mp this
theorem am_par {d : Option MethodDescriptor} {N : Nat} (h : d.map (fun d => d.parameters.length + 1) = some (N + 1)) : d.map (fun d => d.parameters.length) = some N := by
  cases d with
  | none => cases h
  | some d =>
    have h2 : d.parameters.length + 1 = N + 1 := Option.some.inj h
    show some d.parameters.length = some N
    rw [show d.parameters.length = N by omega]
theorem cn_of {R : Room} {s : State} {args : Array Value} {own host : String} {index : Nat} {y : MethodName} {b : ByteArray} {ml : Nat} {ret : Option FieldType} {rm : Room} {mc ms n : Nat} (hts : ∀ w ∈ WG, w.before args s = true) (hc : Cond.code y b ml ret ∈ WG) (hini : Cond.initialized y.cls ∈ WG) (hl : va_Nw (.methodLinkNest own index y host) s)
    (hy : y.cls ≠ "java/lang/invoke/MethodHandle" ∧ y.cls ≠ "java/lang/invoke/VarHandle") (hp : (parseMethodDescriptor y.desc).map (fun d => d.parameters.length) = some n) (h1 : rm.cells = mc) (h2 : rm.slots = ms) (hf : rm.frames + 1 ≤ R.frames) (hlo : 8 + (ml + 11) + rm.locals ≤ R.locals) :
    va_CN R s args own index y host b ml ret (Cond.code y b ml ret :: WG) rm mc ms n := by
  refine ⟨⟨h1, h2, hf, hlo, pay_in (big := WG) hts (fun w hw => ?_), List.mem_cons_self⟩, hts _ hc, hts _ hini, hy, fun sig h => ?_, va_Nw.use rfl hl⟩
  · rcases List.mem_cons.mp hw with rfl | hw
    · exact ⟨hc, WG_good hc⟩
    · exact ⟨hw, WG_good hw⟩
  · rw [h] at hp
    exact (Option.some.inj hp).symm
/-- a callee's start, out of its caller's world -/
theorem pc_ok {s : State} {D : va_G} {ad : Nat → Nat} {b : Nat} {sc : List Int} {A : Nat → Prop} {H : Heap} {locs : List Loc} {ws : va_W} {tys : List (ClassId × FieldType)} {G : AG} (I : IN D ad b sc A s H locs ws tys G) (F : FX ad b sc A s) (vs : List Value) (U : State) (hU : U.heap = H) (hW : s.WarmedH U.vm) : PcK D ad b sc ws tys vs H.size vs.toArray U := by
  obtain ⟨hK, hP, hD, hS, hG⟩ := I
  obtain ⟨hA, hbA, hbl, ⟨xs, hX, hxs⟩, hST, hNS⟩ := F
  have hsub : ∀ q, va_A ws H.size q → A q := by
    intro q hq
    rcases hq with ⟨i, e, he⟩ | hq
    · exact hD.2 i _ he
    · exact hA q (Nat.le_trans hS.1 hq)
  refine ⟨rfl, by rw [hU], by rw [hU]; exact hP, va_K.moved hW.alike hK, hD.weaken (fun _ _ _ _ => trivial), fun q => hbA (hsub _ q), Nat.lt_of_lt_of_le hbl hS.1, ⟨xs, ?_, hxs⟩, ?_, NS.warm hW hNS⟩
  · rw [hU]
    exact va_X.moved hW.alike (hX.kept (hS.2.1 b hbl hbA))
  · rw [hU]
    exact ((hST.kept hS.2.1).narrow hsub).warm hW
theorem OR_SR {ad : Nat → Nat} {ρ : List Nat} {x : Option Value} {r : Option AV} (h : OR ad ρ x r) : SR ad ρ x.toList r.toList := by
  rcases x with _ | v <;> rcases r with _ | a
  · exact trivial
  · exact absurd h id
  · exact absurd h id
  · exact ⟨h, trivial⟩
/-- one instruction of an abstract frame, and what is to be shown behind it -/
def stp (k : Nat) (f : AF) (φ : Option AV → AG → Prop) : Prop :=
  match mCode k f.1 with
  | none => False
  | some e =>
    match s1 k e f with
    | some (P, f') => cj P (R k f' φ)
    | none =>
      match f with
      | (pc, L, st, G, cs, sl) =>
      match e with
      | (i, a, j, p, na) =>
      match i with
      | .ifCond c off => (match st with
        | .inr (.inl x) :: st => (cmpP c x 0 ∧ R k (tgt pc off, L, st, G, cs, sl) φ) ∨ (¬ cmpP c x 0 ∧ R k (pc + 3, L, st, G, cs, sl) φ)
        | _ => False)
      | .if_icmp c off => (match st with
        | .inr (.inl y) :: .inr (.inl x) :: st => (cmpP c x y ∧ R k (tgt pc off, L, st, G, cs, sl) φ) ∨ (¬ cmpP c x y ∧ R k (pc + 3, L, st, G, cs, sl) φ)
        | _ => False)
      | .tableswitch d lo hi offs => (match st with
        | .inr (.inl x) :: st => ((x < lo ∨ hi < x) ∧ R k (tgt pc d, L, st, G, cs, sl) φ) ∨ (∃ o : Int, (lo ≤ x ∧ x ≤ hi) ∧ offs.toList[(x - lo).toNat]? = some o ∧ R k (tgt pc o, L, st, G, cs, sl) φ)
        | _ => False)
      | .ireturn => (match st with
        | .inr (.inl z) :: [] => (match mR k with
          | some .int => φ (some (vI z)) G
          | some .boolean => (z = 0 ∨ z = 1) ∧ φ (some (vI z)) G
          | _ => False)
        | _ => False)
      | .lreturn => (match st with
        | .inr (.inr (.inl z)) :: [] => (match mR k with
          | some .long => φ (some (vJ z)) G
          | _ => False)
        | _ => False)
      | .areturn => (match st with
        | .inl o :: [] => (match mR k with
          | some (.object _) => φ (some (.inl o)) G
          | _ => False)
        | _ => False)
      | .return_ => (match st with
        | [] => (match mR k with
          | none => φ none G
          | _ => False)
        | _ => False)
      | .invokevirtual _ => callOK k e f = true ∧ ∃ ψ : Option AV → AG → Prop, R j (0, L0 j (st.take na).reverse, [], G, 0, 0) ψ ∧ ∀ (r1 : Option AV) (G1 : AG), ψ r1 G1 → R k (pc + 3, L, r1.toList ++ st.drop na, G1, cs + mC j, sl + mS j) φ
      | .invokestatic _ => callOK k e f = true ∧ ∃ ψ : Option AV → AG → Prop, R j (0, L0 j (st.take na).reverse, [], G, 0, 0) ψ ∧ ∀ (r1 : Option AV) (G1 : AG), ψ r1 G1 → R k (pc + 3, L, r1.toList ++ st.drop na, G1, cs + mC j, sl + mS j) φ
      | .invokespecial _ => callOK k e f = true ∧ ∃ ψ : Option AV → AG → Prop, R j (0, L0 j (st.take na).reverse, [], G, 0, 0) ψ ∧ ∀ (r1 : Option AV) (G1 : AG), ψ r1 G1 → R k (pc + 3, L, r1.toList ++ st.drop na, G1, cs + mC j, sl + mS j) φ
      | _ => False
set_option maxHeartbeats 4000000 in
theorem step_ok {k : Nat} {f : AF} {φ : Option AV → AG → Prop} (h : stp k f φ) : R k f φ := by
  refine ⟨?_, trivial⟩
  intro p l e0 R9 s m args below meth c Q D ad b0 sc A ρ0 T hend
  obtain ⟨pc, L, st, G, cs, sl⟩ := f
  unfold stp at h
  dsimp only at h
  split at h
  · exact h.elim
  · rename_i e hcode
    obtain ⟨i, a, j, p0, na⟩ := e
    obtain ⟨hd, hn⟩ := am_dec hcode
    split at h
    · rename_i P f' hs1
      obtain ⟨hP, hr⟩ := cj_split h
      exact s1_ok T hs1 hP hd hn (hr.1 T hend)
    · rename_i hs1
      clear hs1
      dsimp only at h
      intro ws tys H locs ls sst hc hs I hL hS hρ
      dsimp only at hc hs I hL hS ⊢
      cases i with
      | ifCond cnd off =>
        dsimp only at h
        split at h
        · rename_i x st'
          obtain ⟨x', sst, rfl, hxx, hZ⟩ := SR_I hS
          subst hxx
          have go : ∀ t, R k (t, L, st', G, cs, sl) φ → W p l e0 R9 s m args below meth c H locs cs sl Q (F0 m t ls sst) := fun t hr => hr.1 T hend ws tys H locs ls sst hc hs I hL hZ hρ
          have ht := am_tgt hn
          have hx := T.1.1
          have hb := T.1.2.1
          cases cnd with
          | eq => exact lv_if_eq hx hb hd ht (fun q => go _ ((am_br h (am_eq0 x')).1 q)) (fun q => go _ ((am_br h (am_eq0 x')).2 q))
          | ne => exact lv_if_ne hx hb hd ht (fun q => go _ ((am_br h (not_congr (am_eq0 x'))).1 q)) (fun q => go _ ((am_br h (not_congr (am_eq0 x'))).2 (fun z => z q)))
          | lt => exact lv_if_lt hx hb hd ht (fun q => go _ ((am_br h (Int32.lt_iff_toInt_lt (x := x') (y := 0))).1 q)) (fun q => go _ ((am_br h (Int32.lt_iff_toInt_lt (x := x') (y := 0))).2 q))
          | ge => exact lv_if_ge hx hb hd ht (fun q => go _ ((am_br h (Int32.le_iff_toInt_le (x := 0) (y := x'))).1 q)) (fun q => go _ ((am_br h (Int32.le_iff_toInt_le (x := 0) (y := x'))).2 q))
          | gt => exact lv_if_gt hx hb hd ht (fun q => go _ ((am_br h (Int32.lt_iff_toInt_lt (x := 0) (y := x'))).1 q)) (fun q => go _ ((am_br h (Int32.lt_iff_toInt_lt (x := 0) (y := x'))).2 q))
          | le => exact lv_if_le hx hb hd ht (fun q => go _ ((am_br h (Int32.le_iff_toInt_le (x := x') (y := 0))).1 q)) (fun q => go _ ((am_br h (Int32.le_iff_toInt_le (x := x') (y := 0))).2 q))
        · exact h.elim
      | if_icmp cnd off =>
        dsimp only at h
        split at h
        · rename_i y x st'
          obtain ⟨y', sst, rfl, hyy, hY⟩ := SR_I hS
          obtain ⟨x', sst, rfl, hxx, hZ⟩ := SR_I hY
          subst hxx; subst hyy
          have go : ∀ t, R k (t, L, st', G, cs, sl) φ → W p l e0 R9 s m args below meth c H locs cs sl Q (F0 m t ls sst) := fun t hr => hr.1 T hend ws tys H locs ls sst hc hs I hL hZ hρ
          have ht := am_tgt hn
          have hx := T.1.1
          have hb := T.1.2.1
          cases cnd with
          | eq => exact lv_icmp_eq hx hb hd ht (fun q => go _ ((am_br h (Int32.toInt_inj (x := x') (y := y')).symm).1 q)) (fun q => go _ ((am_br h (Int32.toInt_inj (x := x') (y := y')).symm).2 q))
          | ne => exact lv_icmp_ne hx hb hd ht (fun q => go _ ((am_br h (not_congr (Int32.toInt_inj (x := x') (y := y')).symm)).1 q)) (fun q => go _ ((am_br h (not_congr (Int32.toInt_inj (x := x') (y := y')).symm)).2 (fun z => z q)))
          | lt => exact lv_icmp_lt hx hb hd ht (fun q => go _ ((am_br h (Int32.lt_iff_toInt_lt (x := x') (y := y'))).1 q)) (fun q => go _ ((am_br h (Int32.lt_iff_toInt_lt (x := x') (y := y'))).2 q))
          | ge => exact lv_icmp_ge hx hb hd ht (fun q => go _ ((am_br h (Int32.le_iff_toInt_le (x := y') (y := x'))).1 q)) (fun q => go _ ((am_br h (Int32.le_iff_toInt_le (x := y') (y := x'))).2 q))
          | gt => exact lv_icmp_gt hx hb hd ht (fun q => go _ ((am_br h (Int32.lt_iff_toInt_lt (x := y') (y := x'))).1 q)) (fun q => go _ ((am_br h (Int32.lt_iff_toInt_lt (x := y') (y := x'))).2 q))
          | le => exact lv_icmp_le hx hb hd ht (fun q => go _ ((am_br h (Int32.le_iff_toInt_le (x := x') (y := y'))).1 q)) (fun q => go _ ((am_br h (Int32.le_iff_toInt_le (x := x') (y := y'))).2 q))
        · exact h.elim
      | tableswitch d lo hi offs =>
        dsimp only at h
        split at h
        · rename_i x st'
          obtain ⟨x', sst, rfl, hxx, hZ⟩ := SR_I hS
          subst hxx
          have go : ∀ t, R k (t, L, st', G, cs, sl) φ → W p l e0 R9 s m args below meth c H locs cs sl Q (F0 m t ls sst) := fun t hr => hr.1 T hend ws tys H locs ls sst hc hs I hL hZ hρ
          have hx := T.1.1
          have hb := T.1.2.1
          simp only [am_lnk, Bool.and_eq_true] at hn
          obtain ⟨⟨hn1, hn2⟩, -⟩ := hn
          rcases h with ⟨h1, h2⟩ | ⟨o, ⟨h1, h2⟩, h3, h4⟩
          · exact lv_tableOut hx hb hd h1 (am_tgt hn1) (go _ h2)
          · refine lv_tableIn hx hb hd (by omega) (by omega) (by rw [← Array.getElem?_toList]; exact h3) (am_tgt ?_) (go _ h4)
            exact List.all_eq_true.mp hn2 o (List.mem_of_getElem? h3)
        · exact h.elim
      | ireturn =>
        dsimp only at h
        split at h
        · rename_i z
          obtain ⟨x', sst, rfl, hxx, hZ⟩ := SR_I hS
          obtain rfl := SR_nil hZ
          split at h
          · rename_i hmr
            exact hend _ _ h ws tys H locs cs sl pc ls (some (.int x')) hc hs I hρ ⟨hd, .int, hmr, rfl⟩ hxx
          · rename_i hmr
            obtain ⟨hz, h⟩ := h
            exact hend _ _ h ws tys H locs cs sl pc ls (some (.int x')) hc hs I hρ ⟨hd, .boolean, hmr, (am_nar hxx hz).2.1⟩ hxx
          · exact h.elim
        · exact h.elim
      | lreturn =>
        dsimp only at h
        split at h
        · rename_i z
          obtain ⟨x', sst, rfl, hxx, hZ⟩ := SR_J hS
          obtain rfl := SR_nil hZ
          split at h
          · rename_i hmr
            exact hend _ _ h ws tys H locs cs sl pc ls (some (.long x')) hc hs I hρ ⟨hd, hmr⟩ hxx
          · exact h.elim
        · exact h.elim
      | areturn =>
        dsimp only at h
        split at h
        · rename_i oo
          split at h
          · rename_i nm hmr
            rcases oo with _ | y
            · obtain ⟨sst, rfl, hZ⟩ := SR_N hS
              obtain rfl := SR_nil hZ
              exact hend _ _ h ws tys H locs cs sl pc ls (some .null) hc hs I hρ ⟨hd, nm, hmr⟩ trivial
            · obtain ⟨yy, sst, rfl, hyy, hZ⟩ := SR_R hS
              obtain rfl := SR_nil hZ
              exact hend _ _ h ws tys H locs cs sl pc ls (some (.ref yy)) hc hs I hρ ⟨hd, nm, hmr⟩ hyy
          · exact h.elim
        · exact h.elim
      | return_ =>
        dsimp only at h
        split at h
        · obtain rfl := SR_nil hS
          split at h
          · rename_i hmr
            exact hend _ _ h ws tys H locs cs sl pc ls none hc hs I hρ ⟨hd, hmr⟩ trivial
          · exact h.elim
        · exact h.elim
      | invokevirtual n0 =>
        obtain ⟨hok, ψ, hr1, hr2⟩ := h
        simp only [callOK, Bool.and_eq_true, Nat.ble_eq, Nat.beq_eq] at hok
        obtain ⟨⟨⟨⟨⟨⟨⟨⟨⟨c1, c2⟩, c3⟩, c4⟩, c5⟩, c6⟩, c7⟩, c8⟩, c9⟩, c10⟩ := hok
        have hT := T
        obtain ⟨⟨hx, hb, hml, hown, hts, hin⟩, hR, F⟩ := T
        have hSd := (hS.split na).2
        have hSa := ((hS.split na).1).rev
        have h1 : ∀ v ∈ (st.take na).reverse, acat v = 1 := fun v hv => aone_cat c5 v (List.mem_reverse.mp hv)
        have hlen : (st.take na).reverse.length ≤ mL j := by rw [List.length_reverse, c4]; exact c7
        have hsst : sst = (sst.take na).reverse.reverse ++ sst.drop na := by rw [List.reverse_reverse, List.take_append_drop]
        have hal : ((sst.take na).reverse).length = na := by rw [hSa.len, List.length_reverse, c4]
        simp only [am_lnk] at hn
        split at hn
        · rename_i oX nX aX bX plX hF
          simp only [Bool.and_eq_true, Nat.beq_eq] at hn
          obtain ⟨⟨⟨⟨e1, e2⟩, e3⟩, e4⟩, e9⟩ := hn
          replace e3 := e3.symm
          replace e4 := e4.symm
          subst e1; subst e2; subst e3; subst e4
          have hko := List.all_eq_true.mp am_kAll _ (List.mem_of_getElem? hF)
          split at c10
          · simp only [am_kOK, Bool.and_eq_true, Nat.blt_eq, Bool.not_eq_true'] at hko
            obtain ⟨⟨hj, hst⟩, hii⟩ := hko
            obtain ⟨hcls, hpl, hne, hini, hpar, -, hins, -, hsel⟩ := am_m hj
            split at c10
            · rename_i xq as' has
              split at c10
              · rename_i ci fs hg
                have hci := Nat.beq_eq.mp c10
                rw [has] at hSa
                obtain ⟨ra, As, hvs, hra, hAs⟩ := SR_R hSa
                obtain ⟨vs, hws, hfs⟩ := GR_obj I.2.2.2.2 hg hra
                have hM := met_of (l := l) (φ := ψ) hj hr1 (D := D) (ad := ad) (b := b0) (sc := sc) (ws := ws) (tys := tys) (vs := (sst.take na).reverse) ((hS.split na).1.rev) h1 hlen I.2.2.2.2 H.size
                obtain ⟨⟨C, TT, N⟩, hC⟩ := am_C7 (mO j) (am_mO8 _ hj hst)
                have hrecv := va_recv I.1 I.2.1 hC (by rw [← hci]; exact hws)
                have hCn : C = am_R (mO j) := (am_cls hC).2.2.2.2.1
                rw [hst] at hpar
                rw [hvs] at hM hsst hal
                have hAl : mNA j = As.length + 1 := by rw [← c6, ← hal]; rfl
                have hW := am_ml hF (by decide)
                refine am_call (va_runV (As := As) (rest := sst.drop na) (b := ra) (C := (mY j).cls) (Ts := WG) ⟨hx, hb, hml, hown, hts⟩ hM ⟨cb_of (n := As.length) hts (am_code hj) hini (hts _ hW) hne (am_par (by rw [← hAl]; exact hpar)) rfl rfl (Nat.le_trans c1 hR.1) (Nat.le_trans (by show 8 + (mL j + 11) + mLo j ≤ _; omega) hR.2.1), hts _ (hins hst), hts _ (hsel hst hii)⟩ ⟨PcK.blind, ?_, fun U hU hWW => pc_ok I F _ U hU hWW⟩ rfl rfl hL.1 (by rw [List.reverse_cons, List.append_assoc] at hsst; exact hsst) (lv_room (by rw [hSd.cats]; exact c3)) hd ⟨Nat.le_trans c8 hR.2.2.1, Nat.le_trans c9 hR.2.2.2⟩) I F.1 (fun xv ws' tys' H1 locs1 r1 G1 hψ I' hρ' hO => ?_)
                · rw [hcls, ← hCn]
                  exact hrecv
                · exact (hr2 r1 G1 hψ).1 hT hend ws' tys' H1 locs1 ls _ c8 c9 I' (hL.mono hρ') ((OR_SR hO).app (hSd.mono hρ')) (hρ.trans hρ')
              · cases c10
            · cases c10
          · exact absurd e9 (by decide)
          · exact absurd e9 (by decide)
          · exact absurd e9 (by decide)
          · cases c10
        · cases hn
      | invokestatic n0 =>
        obtain ⟨hok, ψ, hr1, hr2⟩ := h
        simp only [callOK, Bool.and_eq_true, Nat.ble_eq, Nat.beq_eq] at hok
        obtain ⟨⟨⟨⟨⟨⟨⟨⟨⟨c1, c2⟩, c3⟩, c4⟩, c5⟩, c6⟩, c7⟩, c8⟩, c9⟩, c10⟩ := hok
        have hT := T
        obtain ⟨⟨hx, hb, hml, hown, hts, hin⟩, hR, F⟩ := T
        have hSd := (hS.split na).2
        have hSa := ((hS.split na).1).rev
        have h1 : ∀ v ∈ (st.take na).reverse, acat v = 1 := fun v hv => aone_cat c5 v (List.mem_reverse.mp hv)
        have hlen : (st.take na).reverse.length ≤ mL j := by rw [List.length_reverse, c4]; exact c7
        have hsst : sst = (sst.take na).reverse.reverse ++ sst.drop na := by rw [List.reverse_reverse, List.take_append_drop]
        have hal : ((sst.take na).reverse).length = na := by rw [hSa.len, List.length_reverse, c4]
        simp only [am_lnk] at hn
        split at hn
        · rename_i oX nX aX bX plX hF
          simp only [Bool.and_eq_true, Nat.beq_eq] at hn
          obtain ⟨⟨⟨⟨e1, e2⟩, e3⟩, e4⟩, e9⟩ := hn
          replace e3 := e3.symm
          replace e4 := e4.symm
          subst e1; subst e2; subst e3; subst e4
          have hko := List.all_eq_true.mp am_kAll _ (List.mem_of_getElem? hF)
          split at c10
          · exact absurd e9 (by decide)
          · simp only [am_kOK, Bool.and_eq_true, Nat.blt_eq, Bool.not_eq_true'] at hko
            obtain ⟨hj, hst⟩ := hko
            obtain ⟨hcls, hpl, hne, hini, hpar, hstt, -⟩ := am_m hj
            have hM := met_of (l := l) (φ := ψ) hj hr1 (D := D) (ad := ad) (b := b0) (sc := sc) (ws := ws) (tys := tys) (vs := (sst.take na).reverse) ((hS.split na).1.rev) h1 hlen I.2.2.2.2 H.size
            rw [hst] at hpar
            have hAl : mNA j = ((sst.take na).reverse).length := c6.symm.trans hal.symm
            have hW := am_ml hF (by decide)
            refine am_call (va_runS (As := (sst.take na).reverse) (rest := sst.drop na) (Ts := WG) ⟨hx, hb, hml, hown, hts⟩ hM ⟨cb_of (n := ((sst.take na).reverse).length) hts (am_code hj) hini (hts _ hW) hne (am_par (by rw [← hAl]; exact hpar)) rfl rfl (Nat.le_trans c1 hR.1) (Nat.le_trans (by show 8 + (mL j + 11) + mLo j ≤ _; omega) hR.2.1), hts _ (hstt hst)⟩ ⟨PcK.blind, fun U hU hWW => pc_ok I F _ U hU hWW⟩ rfl rfl hL.1 hsst (lv_room (by rw [hSd.cats]; exact c3)) hd ⟨Nat.le_trans c8 hR.2.2.1, Nat.le_trans c9 hR.2.2.2⟩) I F.1 (fun xv ws' tys' H1 locs1 r1 G1 hψ I' hρ' hO => ?_)
            exact (hr2 r1 G1 hψ).1 hT hend ws' tys' H1 locs1 ls _ c8 c9 I' (hL.mono hρ') ((OR_SR hO).app (hSd.mono hρ')) (hρ.trans hρ')
          · exact absurd e9 (by decide)
          · exact absurd e9 (by decide)
          · cases c10
        · cases hn
      | invokespecial n0 =>
        obtain ⟨hok, ψ, hr1, hr2⟩ := h
        simp only [callOK, Bool.and_eq_true, Nat.ble_eq, Nat.beq_eq] at hok
        obtain ⟨⟨⟨⟨⟨⟨⟨⟨⟨c1, c2⟩, c3⟩, c4⟩, c5⟩, c6⟩, c7⟩, c8⟩, c9⟩, c10⟩ := hok
        have hT := T
        obtain ⟨⟨hx, hb, hml, hown, hts, hin⟩, hR, F⟩ := T
        have hSd := (hS.split na).2
        have hSa := ((hS.split na).1).rev
        have h1 : ∀ v ∈ (st.take na).reverse, acat v = 1 := fun v hv => aone_cat c5 v (List.mem_reverse.mp hv)
        have hlen : (st.take na).reverse.length ≤ mL j := by rw [List.length_reverse, c4]; exact c7
        have hsst : sst = (sst.take na).reverse.reverse ++ sst.drop na := by rw [List.reverse_reverse, List.take_append_drop]
        have hal : ((sst.take na).reverse).length = na := by rw [hSa.len, List.length_reverse, c4]
        simp only [am_lnk] at hn
        split at hn
        · rename_i oX nX aX bX plX hF
          simp only [Bool.and_eq_true, Nat.beq_eq] at hn
          obtain ⟨⟨⟨⟨e1, e2⟩, e3⟩, e4⟩, e9⟩ := hn
          replace e3 := e3.symm
          replace e4 := e4.symm
          subst e1; subst e2; subst e3; subst e4
          have hko := List.all_eq_true.mp am_kAll _ (List.mem_of_getElem? hF)
          split at c10
          · exact absurd e9 (by decide)
          · exact absurd e9 (by decide)
          · simp only [am_kOK, Bool.and_eq_true, Nat.blt_eq, Bool.not_eq_true'] at hko
            obtain ⟨⟨hj, hst⟩, hii⟩ := hko
            obtain ⟨hcls, hpl, hne, hini, hpar, -, hins, hret, -⟩ := am_m hj
            obtain ⟨hnam, hret⟩ := hret hst hii
            split at c10
            · rename_i xq as' has
              rw [has] at hSa
              obtain ⟨ra, As, hvs, hra, hAs⟩ := SR_R hSa
              have hM := met_of (l := l) (φ := ψ) hj hr1 (D := D) (ad := ad) (b := b0) (sc := sc) (ws := ws) (tys := tys) (vs := (sst.take na).reverse) ((hS.split na).1.rev) h1 hlen I.2.2.2.2 H.size
              rw [hst] at hpar
              rw [hvs] at hM hsst hal
              rw [hret] at hM
              have hAl : mNA j = As.length + 1 := by rw [← c6, ← hal]; rfl
              have hcode := am_code hj
              rw [hret] at hcode
              refine am_call (va_runIN (As := As) (rest := sst.drop na) (b := ra) (Ts := WG) ⟨hx, hb, hml, hown, hts⟩ hM ⟨cn_of (n := As.length) hts hcode hini (F.2.2.2.2.2.1 _ _ _ _ _ hF) hne (am_par (by rw [← hAl]; exact hpar)) rfl rfl (Nat.le_trans c1 hR.1) (Nat.le_trans (by show 8 + (mL j + 11) + mLo j ≤ _; omega) hR.2.1), hnam, hts _ (hins hst)⟩ ⟨PcK.blind, fun U hU hWW => pc_ok I F _ U hU hWW⟩ rfl rfl hL.1 (by rw [List.reverse_cons, List.append_assoc] at hsst; exact hsst) (lv_room (by rw [hSd.cats]; exact c3)) hd ⟨Nat.le_trans c8 hR.2.2.1, Nat.le_trans c9 hR.2.2.2⟩) I F.1 (fun xv ws' tys' H1 locs1 r1 G1 hψ I' hρ' hO => ?_)
              exact (hr2 r1 G1 hψ).1 hT hend ws' tys' H1 locs1 ls _ c8 c9 I' (hL.mono hρ') ((OR_SR hO).app (hSd.mono hρ')) (hρ.trans hρ')
            · cases c10
          · simp only [am_kOK, Bool.and_eq_true, Nat.blt_eq, Bool.not_eq_true'] at hko
            obtain ⟨⟨hj, hst⟩, hii⟩ := hko
            obtain ⟨hcls, hpl, hne, hini, hpar, -, hins, hret, -⟩ := am_m hj
            obtain ⟨hnam, hret⟩ := hret hst hii
            split at c10
            · rename_i xq as' has
              rw [has] at hSa
              obtain ⟨ra, As, hvs, hra, hAs⟩ := SR_R hSa
              have hM := met_of (l := l) (φ := ψ) hj hr1 (D := D) (ad := ad) (b := b0) (sc := sc) (ws := ws) (tys := tys) (vs := (sst.take na).reverse) ((hS.split na).1.rev) h1 hlen I.2.2.2.2 H.size
              rw [hst] at hpar
              rw [hvs] at hM hsst hal
              rw [hret] at hM
              have hAl : mNA j = As.length + 1 := by rw [← c6, ← hal]; rfl
              have hcode := am_code hj
              rw [hret] at hcode
              refine am_call (va_runI (As := As) (rest := sst.drop na) (b := ra) (Ts := WG) ⟨hx, hb, hml, hown, hts⟩ hM ⟨cb_of (n := As.length) hts hcode hini (hts _ (am_ml hF (by decide))) hne (am_par (by rw [← hAl]; exact hpar)) rfl rfl (Nat.le_trans c1 hR.1) (Nat.le_trans (by show 8 + (mL j + 11) + mLo j ≤ _; omega) hR.2.1), hnam, hts _ (hins hst)⟩ ⟨PcK.blind, fun U hU hWW => pc_ok I F _ U hU hWW⟩ rfl rfl hL.1 (by rw [List.reverse_cons, List.append_assoc] at hsst; exact hsst) (lv_room (by rw [hSd.cats]; exact c3)) hd ⟨Nat.le_trans c8 hR.2.2.1, Nat.le_trans c9 hR.2.2.2⟩) I F.1 (fun xv ws' tys' H1 locs1 r1 G1 hψ I' hρ' hO => ?_)
              exact (hr2 r1 G1 hψ).1 hT hend ws' tys' H1 locs1 ls _ c8 c9 I' (hL.mono hρ') ((OR_SR hO).app (hSd.mono hρ')) (hρ.trans hρ')
            · cases c10
          · cases c10
        · cases hn
      | _ => exact h.elim
