def PcX9 (D : va_G) (ad : Nat → Nat) (b : Nat) (sc : List Int) (ws : va_W) (tys : List (ClassId × FieldType)) (sz a w n : Nat) (f : Nat → Int32) (vs : List Value) : Array Value → State → Prop :=
  va_Pc vs (fun U => U.heap.size = sz ∧ va_P D vwCl ws U.heap ∧ va_K D vwCl tys U ∧ va_D (fun _ => True) ws ∧ ¬ va_A ws sz b ∧ b < sz ∧ (∃ xs : Nat → Int32, va_X b sc.length xs U U.heap ∧ ∀ j, j < sc.length → (xs j).toInt = sc.getD j 0) ∧ ST ad (va_A ws sz) U U.heap ∧ NS U ∧ SV a w n f (va_A ws sz) U U.heap)
theorem PcX9.blind {D : va_G} {ad : Nat → Nat} {b : Nat} {sc : List Int} {ws : va_W} {tys : List (ClassId × FieldType)} {sz a w n : Nat} {f : Nat → Int32} {vs : List Value} : FrameBlind (PcX9 D ad b sc ws tys sz a w n f vs) := by
  intro q U g mk h
  obtain ⟨h0, h1, h2, h3, h4, h5, h6, ⟨xs, h7, h8⟩, h9, h10, h11⟩ := h
  exact ⟨h0, h1, h2, va_K.moved (u := U) (Vm.Alike.refl U.vm) h3, h4, h5, h6, ⟨xs, va_X.moved (u := U) (Vm.Alike.refl U.vm) h7, h8⟩, ST.same (u := U) rfl h9, NS.same (u := U) rfl h10, SV.same (u := U) rfl h11⟩
theorem pc_okT {s : State} {D : va_G} {ad : Nat → Nat} {b : Nat} {sc : List Int} {A : Nat → Prop} {H : Heap} {locs : List Loc} {ws : va_W} {tys : List (ClassId × FieldType)} {G : AG} {a w n : Nat} {f : Nat → Int32} (I : IN D ad b sc A s H locs ws tys G) (F : FX ad b sc A s) (hV : SV a w n f (va_A ws H.size) s H) (vs : List Value) (U : State) (hU : U.heap = H) (hW : s.WarmedH U.vm) : PcX9 D ad b sc ws tys H.size a w n f vs vs.toArray U := by
  obtain ⟨h0, h1, h2, h3, h4, h5, h6, h7, h8, h9⟩ := pc_ok I F vs U hU hW
  exact ⟨h0, h1, h2, h3, h4, h5, h6, h7, h8, h9, by rw [hU]; exact hV.moved hW.alike⟩
theorem dL_text_2 : decode cL_text 2 = .ok (.iload_n 2, 1) := by decide +kernel
theorem dL_text_3 : decode cL_text 3 = .ok (.aload_n 1, 1) := by decide +kernel
theorem dL_text_4 : decode cL_text 4 = .ok (.invokevirtual 7, 3) := by decide +kernel
theorem dL_text_7 : decode cL_text 7 = .ok (.if_icmp .ge 20, 3) := by decide +kernel
theorem dL_text_27 : decode cL_text 27 = .ok (.return_, 1) := by decide +kernel
theorem dL_text_10 : decode cL_text 10 = .ok (.aload_n 0, 1) := by decide +kernel
theorem dL_text_11 : decode cL_text 11 = .ok (.aload_n 1, 1) := by decide +kernel
theorem dL_text_12 : decode cL_text 12 = .ok (.iload_n 2, 1) := by decide +kernel
theorem dL_text_13 : decode cL_text 13 = .ok (.invokevirtual 13, 3) := by decide +kernel
theorem dL_text_16 : decode cL_text 16 = .ok (.iconst 1, 1) := by decide +kernel
theorem dL_text_17 : decode cL_text 17 = .ok (.invokevirtual 17, 3) := by decide +kernel
theorem dL_text_20 : decode cL_text 20 = .ok (.pop, 1) := by decide +kernel
theorem dL_text_21 : decode cL_text 21 = .ok (.iinc 2 1, 3) := by decide +kernel
theorem dL_text_24 : decode cL_text 24 = .ok (.goto (-22), 3) := by decide +kernel
theorem dL_text_0 : decode cL_text 0 = .ok (.iconst 0, 1) := by decide +kernel
theorem dL_text_1 : decode cL_text 1 = .ok (.istore_n 2, 1) := by decide +kernel
theorem jw165 : Cond.methodLink RL 7 yJ0_length_8abf5 ∈ WG := WG_of 810 (by decide +kernel) rfl
set_option maxRecDepth 20000 in
theorem jw166 : Cond.code yJ0_charAt_5068e cJ0_charAt_5068e 2 (some .char) ∈ WG := WG_of 814 rfl rfl
theorem jw167 : Cond.methodLink RL 13 yJ0_charAt_5068e ∈ WG := WG_of 811 (by decide +kernel) rfl
theorem jw168 : Cond.instanceMethod yJ0_charAt_5068e ∈ WG := WG_of 812 (by decide +kernel) rfl
theorem jw169 : Cond.selects RJ0 yJ0_charAt_5068e yJ0_charAt_5068e ∈ WG := WG_of 813 (by decide +kernel) rfl
theorem jw170 : Cond.methodLink RL 17 yX6_feed ∈ WG := WG_of 826 (by decide +kernel) rfl
set_option maxRecDepth 20000 in
theorem jl_text (l : Launch) (D : va_G) (ad : Nat → Nat) {b : Nat} {sc : List Int} {ws : va_W} {tys : List (ClassId × FieldType)} {sz x0 xa a w n : Nat} {f : Nat → Int32} {G : AG} (J : Nat → AG → Prop) (hxa : (rho b ws)[x0 + 1]? = some xa) (hn : n ≤ 300) (hG0 : GR ad b sc tys ws G) (hJ0 : J 0 G) (hob : ∀ k G, J k G → ∃ fs, nth G (x0 + 1) = some (.inl (6, fs))) (hstep : ∀ k, k < n → ∀ G, J k G → R 70 (0, L0 70 [vR (x0 + 1), vI (f k &&& 255).toInt, vI 1], [], G, 0, 0) (fun r G' => (∃ z, r = some (vI z)) ∧ J (k + 1) G')) : Met l yL_text (Cond.code yL_text cL_text 3 none :: WG) { frames := 4, cells := 0, slots := 0, locals := 130 } (PcX9 D ad b sc ws tys sz a w n f [.ref xa, .ref a]) (QcK D ad b sc ws sz (fun r G' => r = none ∧ J n G')) 0 0 (va_A ws sz) := by
  refine Met.ofW (cc := cL_text) (maxL := 3) (ret := none) (by decide +kernel) rfl ?_
  intro p e s m args below meth c0 s₁ B0 hml hv
  obtain ⟨rfl, hsz, hP0, hK0, hD0, hbA, hbl, hX, hT, hNS, hV⟩ := hv
  have hx := B0.exec
  have hb := B0.bytes
  have hr := B0.returns
  have hts0 := atoms_spec (ws := Cond.code yL_text cL_text 3 none :: WG) B0.pre
  have hts : ∀ w ∈ WG, w.before ([.ref xa, .ref a] : List Value).toArray s = true := fun w hw => hts0 w (List.mem_cons_of_mem _ hw)
  have hown : s.vm.findClass RL = some m.cls := findClass_of_methodNamed B0.named
  have hlocks := B0.notSynchronized
  have hl := lv_entry ([.ref xa, .ref a]) (n := 3) (Nat.le_of_ble_eq_true rfl)
  rw [lg_entry_eq]
  generalize (lg_sl ([.ref xa, .ref a]) ++ List.replicate (3 - (lg_sl ([.ref xa, .ref a])).length) Slot.unset).toArray = ls at hl ⊢
  have hl : lv_has ls 3 [(0, .ref xa), (1, .ref a)] := hl
  subst hsz
  have hD1 := hD0.self (sz := s.heap.size)
  have F : FX ad b sc (va_A ws s.heap.size) s := ⟨fun q h => Or.inr h, hbA, hbl, hX, hT, hNS⟩
  have I0 : IN D ad b sc (va_A ws s.heap.size) s s.heap [] ws tys G := ⟨hK0, hP0, hD1, va_S.rf, hG0⟩
  refine wx_intro (fun Q hQe => ?_)
  have key : ∀ (j k : Nat), k + j = n → ∀ (ws' : va_W) (tys' : List (ClassId × FieldType)) (H : Heap) (locs : List Loc) (G' : AG) (ls : Array Slot), IN D ad b sc (va_A ws s.heap.size) s H locs ws' tys' G' → rho b ws <+: rho b ws' → J k G' → lv_has ls 3 [(2, .int (nI k)), (0, .ref xa), (1, .ref a)] → W p l e ((headSpec (Cond.code yL_text cL_text 3 none :: WG) { frames := 4, cells := 0, slots := 0, locals := 130 }).room) s m (([.ref xa, .ref a] : List Value).toArray) below meth c0 H locs 0 0 Q (F0 m 2 ls []) := by
    intro j
    induction j with
    | zero =>
      intro k hkn ws' tys' H locs G' ls I hρ hJ hl
      obtain ⟨hK, hP, hD, hS, hG⟩ := I
      replace hkn : k = n := hkn
      refine lv_iload_n hx hb dL_text_2 rfl (lv_at hl 0 rfl) ?_
      refine lv_aload_n hx hb dL_text_3 rfl (lv_at hl 2 rfl) ?_
      refine W_callQ (va_runV (As := []) (rest := [.int (nI k)]) (b := a) (Ts := WG) (own := RL) (C := RJ0) ⟨hx, hb, hml, hown, hts⟩ (jv_length l ad (a := a) (v := w) (n := n) (f := f)) ⟨cb_of (n := 0) hts jw61 jw24 (hts _ jw165) (by decide +kernel) (by decide +kernel) rfl rfl (Nat.le_of_ble_eq_true rfl) (Nat.le_of_ble_eq_true rfl), hts _ jw63, hts _ jw64⟩ ⟨PcV.blind, hV.recv hS, fun U hU hW => jpV hT hV hS _ U hU hW⟩ rfl rfl hl.1 rfl (lv_room (Nat.le_of_ble_eq_true rfl)) dL_text_4 ⟨Nat.le_trans (m := 0) (by first | omega | (dsimp only; omega)) (Nat.le_of_ble_eq_true rfl), Nat.le_trans (m := 0) (by first | omega | (dsimp only; omega)) (Nat.le_of_ble_eq_true rfl)⟩).run ?_
      refine lv_icmp_ge (tgt := 27) hx hb dL_text_7 (by first | decide | rfl) (fun _ => ?_) (fun q9 => by first | exact absurd q9 ((by rw [hkn]; exact Int32.le_refl _)) | exact absurd ((by rw [hkn]; exact Int32.le_refl _)) q9)
      subst hQe
      exact W.vret hx hb hr (fun t9 ht hW => ⟨⟨none, ws', tys', none, G', ⟨rfl, hkn ▸ hJ⟩, rfl, by rw [ht]; exact hP, va_K.moved hW.alike hK, hD, hρ, hG, trivial⟩, hS.F ht⟩) hS.2.2 dL_text_27
    | succ j ih =>
      intro k hkn ws' tys' H locs G' ls I hρ hJ hl
      obtain ⟨hK, hP, hD, hS, hG⟩ := I
      have hk : k < n := by omega
      refine lv_iload_n hx hb dL_text_2 rfl (lv_at hl 0 rfl) ?_
      refine lv_aload_n hx hb dL_text_3 rfl (lv_at hl 2 rfl) ?_
      refine W_callQ (va_runV (As := []) (rest := [.int (nI k)]) (b := a) (Ts := WG) (own := RL) (C := RJ0) ⟨hx, hb, hml, hown, hts⟩ (jv_length l ad (a := a) (v := w) (n := n) (f := f)) ⟨cb_of (n := 0) hts jw61 jw24 (hts _ jw165) (by decide +kernel) (by decide +kernel) rfl rfl (Nat.le_of_ble_eq_true rfl) (Nat.le_of_ble_eq_true rfl), hts _ jw63, hts _ jw64⟩ ⟨PcV.blind, hV.recv hS, fun U hU hW => jpV hT hV hS _ U hU hW⟩ rfl rfl hl.1 rfl (lv_room (Nat.le_of_ble_eq_true rfl)) dL_text_4 ⟨Nat.le_trans (m := 0) (by first | omega | (dsimp only; omega)) (Nat.le_of_ble_eq_true rfl), Nat.le_trans (m := 0) (by first | omega | (dsimp only; omega)) (Nat.le_of_ble_eq_true rfl)⟩).run ?_
      refine lv_icmp_ge (tgt := 27) hx hb dL_text_7 (by first | decide | rfl) (fun q9 => absurd q9 ((Int32.not_le.mpr (nI_lt hk (by omega))))) (fun _ => ?_)
      refine lv_aload_n hx hb dL_text_10 rfl (lv_at hl 1 rfl) ?_
      refine lv_aload_n hx hb dL_text_11 rfl (lv_at hl 2 rfl) ?_
      refine lv_iload_n hx hb dL_text_12 rfl (lv_at hl 0 rfl) ?_
      refine W_callQ (va_runV (As := [.int (nI k)]) (rest := [.ref xa]) (b := a) (Ts := WG) (own := RL) (C := RJ0) ⟨hx, hb, hml, hown, hts⟩ (jv_charAt l ad (a := a) (v := w) (n := n) (f := f) ⟨hk, by omega⟩) ⟨cb_of (n := 1) hts jw166 jw24 (hts _ jw167) (by decide +kernel) (by decide +kernel) rfl rfl (Nat.le_of_ble_eq_true rfl) (Nat.le_of_ble_eq_true rfl), hts _ jw168, hts _ jw169⟩ ⟨PcV.blind, hV.recv hS, fun U hU hW => jpV hT hV hS _ U hU hW⟩ rfl rfl hl.1 rfl (lv_room (Nat.le_of_ble_eq_true rfl)) dL_text_13 ⟨Nat.le_trans (m := 0) (by first | omega | (dsimp only; omega)) (Nat.le_of_ble_eq_true rfl), Nat.le_trans (m := 0) (by first | omega | (dsimp only; omega)) (Nat.le_of_ble_eq_true rfl)⟩).run ?_
      refine lv_iconst (v := nI 1) hx hb dL_text_16 (by decide) ?_
      have hxa' := VR.mono (ad := ad) (v := .ref xa) (a := vR (x0 + 1)) hxa hρ
      obtain ⟨fs, hob'⟩ := hob k G' hJ
      obtain ⟨vs, hws, hfs⟩ := GR_obj hG hob' hxa'
      obtain ⟨hcls, hpl, hne, hini, hpar, -, hins, -, hsel⟩ := am_m (j := 70) rfl
      have hM := met_of (l := l) (j := 70) rfl (hstep k hk G' hJ) (D := D) (ad := ad) (b := b) (sc := sc) (ws := ws') (tys := tys') (vs := [.ref xa, .int (f k &&& 255), .int (nI 1)]) ⟨hxa', rfl, (rfl : (nI 1).toInt = 1), trivial⟩ (by intro v hv; simp only [List.mem_cons, List.not_mem_nil, or_false] at hv; rcases hv with rfl | rfl | rfl <;> rfl) (Nat.le_of_ble_eq_true rfl) hG H.size
      have I1 : IN D ad b sc (va_A ws s.heap.size) s H locs ws' tys' G' := ⟨hK, hP, hD, hS, hG⟩
      refine am_call (va_runV (As := [.int (f k &&& 255), .int (nI 1)]) (rest := []) (b := xa) (C := (mY 70).cls) (Ts := WG) (own := RL) ⟨hx, hb, hml, hown, hts⟩ hM ⟨cb_of (n := 2) hts (am_code rfl) hini (hts _ jw170) hne (by decide +kernel) rfl rfl (Nat.le_of_ble_eq_true rfl) (Nat.le_of_ble_eq_true rfl), hts _ (hins rfl), hts _ (hsel rfl rfl)⟩ ⟨PcK.blind, (by rw [hcls]; exact va_recv (ci := 6) (q := (RX6, TX6, 13)) hK hP rfl hws), fun U hU hWW => pc_ok I1 F _ U hU hWW⟩ rfl rfl hl.1 rfl (lv_room (Nat.le_of_ble_eq_true rfl)) dL_text_17 ⟨(Nat.le_of_ble_eq_true rfl), (Nat.le_of_ble_eq_true rfl)⟩) I1 F.1 (fun xv ws2 tys2 H2 locs2 r1 G1 hψ I' hρ' hO => ?_)
      obtain ⟨⟨zr, rfl⟩, hJ2⟩ := hψ
      obtain ⟨xr, rfl⟩ : ∃ xr : Int32, xv = some (.int xr) := by
        cases xv with
        | none => exact hO.elim
        | some v => cases v with
          | int z => exact ⟨z, rfl⟩
          | null => exact hO.elim
          | ref _ => exact hO.elim
          | long _ => exact hO.elim
          | float _ => exact hO.elim
          | double _ => exact hO.elim
          | _ => exact hO.elim
      refine lv_pop hx hb dL_text_20 rfl ?_
      refine lv_iinc (k := 0) (v := nI (k + 1)) hx hb dL_text_21 hl rfl (by rw [← nI_add]; rfl) (by decide) rfl (fun ls hl => ?_)
      refine lv_goto (tgt := 2) hx hb dL_text_24 (by first | decide | rfl) ?_
      exact ih (k + 1) (by omega) ws2 tys2 H2 locs2 G1 ls I' (hρ.trans hρ') hJ2 hl
  refine lv_iconst (v := nI 0) hx hb dL_text_0 (by decide) ?_
  refine lv_istore_n hx hb dL_text_1 rfl hl (by decide) rfl (fun ls hl => ?_)
  exact key n 0 (Nat.zero_add n) ws tys s.heap [] G ls I0 List.prefix_rfl hJ0 hl

