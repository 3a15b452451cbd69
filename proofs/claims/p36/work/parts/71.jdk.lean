def FITB (g : Nat → Int32) : Prop := ∀ j, fits .byte (.int (g j)) = true
theorem FITB_cpy {f g : Nat → Int32} {a b c : Nat} (hf : FITB f) (hg : FITB g) : FITB (va_cpy f g a b c) := by
  intro j
  unfold va_cpy
  split
  · exact hf _
  · exact hg _
theorem FITB_0 : FITB (fun _ => 0) := fun _ => by
  show fits .byte (.int 0) = true
  decide
theorem FITB_upd {g : Nat → Int32} {k : Nat} {x : Int32} (hg : FITB g) : FITB (upd g k (vp_nar .byte x)) := by
  intro j
  unfold upd
  split
  · exact pk_fb x
  · exact hg j
def PcW (D : va_G) (ad : Nat → Nat) (ws : va_W) (tys : List (ClassId × FieldType)) (sz : Nat) (vs : List Value) : Array Value → State → Prop := va_Pc vs (fun U => U.heap.size = sz ∧ va_P D vwCl ws U.heap ∧ va_K D vwCl tys U ∧ va_D (fun _ => True) ws ∧ ST ad (va_A ws sz) U U.heap ∧ va_Nw (.castable "[B" "java/lang/Cloneable") U)
theorem PcW.blind {D : va_G} {ad : Nat → Nat} {ws : va_W} {tys : List (ClassId × FieldType)} {sz : Nat} {vs : List Value} : FrameBlind (PcW D ad ws tys sz vs) := fun a U g mk h => ⟨h.1, h.2.1, h.2.2.1, va_K.moved (u := U) (Vm.Alike.refl U.vm) h.2.2.2.1, h.2.2.2.2.1, ST.same (u := U) rfl h.2.2.2.2.2.1, va_Nw.same (u := U) rfl rfl h.2.2.2.2.2.2⟩
def PcWV (D : va_G) (ad : Nat → Nat) (ws : va_W) (tys : List (ClassId × FieldType)) (sz a w n : Nat) (f : Nat → Int32) (vs : List Value) : Array Value → State → Prop := va_Pc vs (fun U => U.heap.size = sz ∧ va_P D vwCl ws U.heap ∧ va_K D vwCl tys U ∧ va_D (fun _ => True) ws ∧ ST ad (va_A ws sz) U U.heap ∧ va_Nw (.castable "[B" "java/lang/Cloneable") U ∧ SV a w n f (va_A ws sz) U U.heap)
theorem PcWV.blind {D : va_G} {ad : Nat → Nat} {ws : va_W} {tys : List (ClassId × FieldType)} {sz a w n : Nat} {f : Nat → Int32} {vs : List Value} : FrameBlind (PcWV D ad ws tys sz a w n f vs) := fun b U g mk h => ⟨h.1, h.2.1, h.2.2.1, va_K.moved (u := U) (Vm.Alike.refl U.vm) h.2.2.2.1, h.2.2.2.2.1, ST.same (u := U) rfl h.2.2.2.2.2.1, va_Nw.same (u := U) rfl rfl h.2.2.2.2.2.2.1, SV.same (u := U) rfl h.2.2.2.2.2.2.2⟩
def QcW (D : va_G) (ws : va_W) (sz : Nat) (φ : Option Value → va_W → List (ClassId × FieldType) → Prop) : Array Value → State → Outcome → State → Prop := fun _ st o t =>
  (∃ (x : Option Value) (ws' : va_W) (tys' : List (ClassId × FieldType)), o = .returned x ∧ φ x ws' tys' ∧ va_P D vwCl ws' t.heap ∧ va_K D vwCl tys' t ∧ va_D (va_A ws sz) ws') ∧ va_F (va_A ws sz) st t
theorem ws_range (ws : va_W) : (List.range ws.length).map (fun i => ws[i]?) = ws.map some := by
  refine List.ext_getElem (by simp) (fun i h1 h2 => ?_)
  simp at h1
  simp [h1]
theorem wsA {A : Nat → Prop} {ws pl : va_W} {H0 H : Heap} {locs : List Loc} (hD : va_D A (ws ++ pl)) (hS : va_S A H0 H locs) (hA : ∀ q, H0.size ≤ q → A q) : ∀ q, va_A ws H.size q → A q := by
  intro q hq
  rcases hq with ⟨i, e, he⟩ | hq
  · exact hD.2 i (q, e) (by rw [List.getElem?_append_left (List.getElem?_eq_some_iff.mp he).1]; exact he)
  · exact hA q (Nat.le_trans hS.1 hq)
theorem j_call {p : Program} {l : Launch} {e : Env} {R : Room} {s : State} {m : MethodId} {args : Array Value} {below : List Frame} {meth : Method} {c : Code} {Q : State → Prop} {D : va_G} {A : Nat → Prop} {H : Heap} {locs : List Loc} {cells slots mc ms pc : Nat} {ls : Array Slot} {st0 rest : List Value} {ws pl : va_W} {φ : Option Value → va_W → List (ClassId × FieldType) → Prop} {a : Array Value}
    (hr : va_Run p l e R s m args below meth c H locs cells slots mc ms (F0 m pc ls st0) rest (QcW D ws H.size φ a) (va_A ws H.size)) (hP : va_P D vwCl (ws ++ pl) H) (hD : va_D A (ws ++ pl)) (hS : va_S A s.heap H locs) (hA : ∀ q, s.heap.size ≤ q → A q)
    (kk : ∀ (x : Option Value) (ws' : va_W) (tys' : List (ClassId × FieldType)) (H1 : Heap) (locs1 : List Loc), φ x ws' tys' → va_P D vwCl (ws' ++ pl) H1 → va_D A (ws' ++ pl) → va_K D vwCl tys' s → va_S A s.heap H1 locs1 → W p l e R s m args below meth c H1 locs1 (cells + mc) (slots + ms) Q (F0 m (pc + 3) ls (x.toList ++ rest))) :
    W p l e R s m args below meth c H locs cells slots Q (F0 m pc ls st0) := by
  have hsub := wsA hD hS hA
  intro T hT X
  obtain ⟨v, st₀, t, T', L, h0, X', hL, e1, e2, ⟨⟨x, ws', tys', hv, hφ, hP1, hK1, hD1⟩, hz, hk⟩, st⟩ := hr T hT X
  cases hv
  rw [h0] at hz hk
  have hal : s.vm.Alike t.vm := by rw [← e2]; exact X'.warmed.alike
  obtain ⟨hP2, hD2⟩ := va_joinQ (X := ws) (cx := ws) (wr := []) (w1 := ws') (pl := pl) hP hD (List.range ws.length) [] (ws_range ws) rfl rfl (fun i hi => absurd hi List.not_mem_nil) hk hsub hP1 hD1
  obtain ⟨t2, a1, b1⟩ := kk v ws' tys' T'.heap (locs ++ L) hφ (by rw [e1]; exact hP2) hD2 (va_K.moved hal.symm hK1) ⟨Nat.le_trans hS.1 (by rw [e1]; exact hz), fun q h1 h2 => by
      rw [e1, hk q (Nat.lt_of_lt_of_le h1 hS.1) (fun z => h2 (hsub q z))]
      exact hS.2.1 q h1 h2, fun q hq => by
      rcases List.mem_append.mp hq with h | h
      · exact hS.2.2 q h
      · exact hsub _ (hL q h)⟩ T' rfl X'
  exact ⟨t2, st t2 a1, b1⟩
theorem jpW {D : va_G} {ad : Nat → Nat} {ws pl : va_W} {tys : List (ClassId × FieldType)} {A : Nat → Prop} {s : State} {H : Heap} {locs : List Loc} (hT : ST ad A s s.heap) (hC : va_Nw (.castable "[B" "java/lang/Cloneable") s) (hS : va_S A s.heap H locs) (hA : ∀ q, s.heap.size ≤ q → A q) (hP : va_P D vwCl (ws ++ pl) H) (hD : va_D A (ws ++ pl)) (hK : va_K D vwCl tys s) (vs : List Value) (U : State) (hU : U.heap = H) (hW : s.WarmedH U.vm) : PcW D ad ws tys H.size vs vs.toArray U := by
  have hw : ∀ {k : Nat} {q : Nat × va_E}, ws[k]? = some q → (ws ++ pl)[k]? = some q := fun {k} {q} hk => by rw [List.getElem?_append_left (List.getElem?_eq_some_iff.mp hk).1]; exact hk
  have hd : va_D A ws := ⟨fun i j x y h1 h2 h3 => hD.1 i j x y (hw h1) (hw h2) h3, fun k q h => hD.2 k q (hw h)⟩
  refine ⟨rfl, by rw [hU], by rw [hU]; exact fun k q hk => hP k q (by rw [List.getElem?_append_left (List.getElem?_eq_some_iff.mp hk).1]; exact hk), va_K.moved hW.alike hK, hd.weaken (fun _ _ _ _ => trivial), ?_, va_Nw.warmC hW hC⟩
  rw [hU]
  exact ((hT.kept hS.2.1).narrow (wsA hD hS hA)).warm hW
theorem jpWV {D : va_G} {ad : Nat → Nat} {ws pl : va_W} {tys : List (ClassId × FieldType)} {A : Nat → Prop} {s : State} {H : Heap} {locs : List Loc} {a w n : Nat} {f : Nat → Int32} (hT : ST ad A s s.heap) (hC : va_Nw (.castable "[B" "java/lang/Cloneable") s) (hV : SV a w n f (va_A ws H.size) s H) (hS : va_S A s.heap H locs) (hA : ∀ q, s.heap.size ≤ q → A q) (hP : va_P D vwCl (ws ++ pl) H) (hD : va_D A (ws ++ pl)) (hK : va_K D vwCl tys s) (vs : List Value) (U : State) (hU : U.heap = H) (hW : s.WarmedH U.vm) : PcWV D ad ws tys H.size a w n f vs vs.toArray U := by
  obtain ⟨h1, h2, h3, h4, h5, h6, h7⟩ := jpW hT hC hS hA hP hD hK vs U hU hW
  exact ⟨h1, h2, h3, h4, h5, h6, h7, by rw [hU]; exact hV.moved hW.alike⟩
theorem SV.in {a v n : Nat} {f : Nat → Int32} {A : Nat → Prop} {s : State} {H : Heap} {locs : List Loc} {ws pl : va_W} (h : SV a v n f A s s.heap) (hS : va_S A s.heap H locs) (hA : ∀ q, s.heap.size ≤ q → A q) (hD : va_D A (ws ++ pl)) : SV a v n f (va_A ws H.size) s H := (h.kept hS.2.1).narrow (wsA hD hS hA)
/-- a builder's world -/
abbrev SBX (b v c m : Nat) (g : Nat → Int32) (cB : ClassId) : va_W := [(b, .inr (8, [.ref v, .int 0, .int 0, .int (nI c)])), (v, .inl (cB, m, .inl g))]
/-- how a builder is left: with c letters, room for q at least -/
def BQ (r : Option Value) (b c q : Nat) : Option Value → va_W → List (ClassId × FieldType) → Prop := fun x ws' tys' => x = r ∧ ∃ (v m : Nat) (g : Nat → Int32) (cB : ClassId), ws' = SBX b v c m g cB ∧ tys' = [(cB, .byte)] ∧ q ≤ m ∧ c ≤ m ∧ m ≤ 300 ∧ FITB g
theorem z0c : (0 : Int32).toNatClampNeg = 0 := by decide
theorem z0d : (nI 0).toNatClampNeg = 0 := by decide
theorem dJ7_copyOf_9075b_0 : decode cJ7_copyOf_9075b 0 = .ok (.iload_n 1, 1) := by decide +kernel
theorem dJ7_copyOf_9075b_1 : decode cJ7_copyOf_9075b 1 = .ok (.aload_n 0, 1) := by decide +kernel
theorem dJ7_copyOf_9075b_2 : decode cJ7_copyOf_9075b 2 = .ok (.arraylength, 1) := by decide +kernel
theorem dJ7_copyOf_9075b_3 : decode cJ7_copyOf_9075b 3 = .ok (.if_icmp .ne 11, 3) := by decide +kernel
theorem dJ7_copyOf_9075b_14 : decode cJ7_copyOf_9075b 14 = .ok (.iload_n 1, 1) := by decide +kernel
theorem dJ7_copyOf_9075b_15 : decode cJ7_copyOf_9075b 15 = .ok (.newarray .byte, 2) := by decide +kernel
theorem dJ7_copyOf_9075b_17 : decode cJ7_copyOf_9075b 17 = .ok (.astore_n 2, 1) := by decide +kernel
theorem dJ7_copyOf_9075b_18 : decode cJ7_copyOf_9075b 18 = .ok (.aload_n 0, 1) := by decide +kernel
theorem dJ7_copyOf_9075b_19 : decode cJ7_copyOf_9075b 19 = .ok (.iconst 0, 1) := by decide +kernel
theorem dJ7_copyOf_9075b_20 : decode cJ7_copyOf_9075b 20 = .ok (.aload_n 2, 1) := by decide +kernel
theorem dJ7_copyOf_9075b_21 : decode cJ7_copyOf_9075b 21 = .ok (.iconst 0, 1) := by decide +kernel
theorem dJ7_copyOf_9075b_22 : decode cJ7_copyOf_9075b 22 = .ok (.aload_n 0, 1) := by decide +kernel
theorem dJ7_copyOf_9075b_23 : decode cJ7_copyOf_9075b 23 = .ok (.arraylength, 1) := by decide +kernel
theorem dJ7_copyOf_9075b_24 : decode cJ7_copyOf_9075b 24 = .ok (.iload_n 1, 1) := by decide +kernel
theorem dJ7_copyOf_9075b_25 : decode cJ7_copyOf_9075b 25 = .ok (.invokestatic 304, 3) := by decide +kernel
theorem dJ7_copyOf_9075b_28 : decode cJ7_copyOf_9075b 28 = .ok (.invokestatic 150, 3) := by decide +kernel
theorem dJ7_copyOf_9075b_31 : decode cJ7_copyOf_9075b 31 = .ok (.aload_n 2, 1) := by decide +kernel
theorem dJ7_copyOf_9075b_32 : decode cJ7_copyOf_9075b 32 = .ok (.areturn, 1) := by decide +kernel
theorem jw40 : Cond.methodLink RJ7 304 Lib.Math.min.name ∈ WG := WG_of 606 (by decide +kernel) rfl
theorem jw41 : Cond.methodLink RJ7 150 arraycopyName ∈ WG := WG_of 607 (by decide +kernel) rfl
set_option maxRecDepth 20000 in
theorem jc_copyOf (l : Launch) (D : va_G) (ad : Nat → Nat) {v cp : Nat} {g : Nat → Int32} {cB : ClassId} {sz : Nat} {q : Nat} (hq : cp < q ∧ q ≤ 300) (hg : FITB g) : Met l yJ7_copyOf_9075b (Cond.code yJ7_copyOf_9075b cJ7_copyOf_9075b 3 (some (.array .byte)) :: WG) { frames := 1, cells := 1, slots := 300, locals := 60 } (PcW D ad [(v, .inl (cB, cp, .inl g))] [(cB, .byte)] sz [.ref v, .int (nI q)]) (QcW D ([(v, .inl (cB, cp, .inl g))]) sz (fun x ws' tys' => ∃ (v' : Nat) (g' : Nat → Int32) (cA : ClassId), x = some (.ref v') ∧ ws' = [(v, .inl (cB, cp, .inl g))] ++ [(v', .inl (cA, q, .inl g'))] ∧ tys' = [(cB, .byte)] ++ [(cA, .byte)] ∧ FITB g')) 1 300 (va_A ([(v, .inl (cB, cp, .inl g))]) sz) := by
  refine Met.ofW (cc := cJ7_copyOf_9075b) (maxL := 3) (ret := (some (.array .byte))) (by decide +kernel) rfl ?_
  intro p e s m args below meth c0 s₁ B0 hml hv
  obtain ⟨rfl, hz, hP, hK, hD0, hT, hC⟩ := hv
  have hx := B0.exec
  have hb := B0.bytes
  have hr := B0.returns
  have hts0 := atoms_spec (ws := Cond.code yJ7_copyOf_9075b cJ7_copyOf_9075b 3 (some (.array .byte)) :: WG) B0.pre
  have hts : ∀ w ∈ WG, w.before ([.ref v, .int (nI q)] : List Value).toArray s = true := fun w hw => hts0 w (List.mem_cons_of_mem _ hw)
  have hown : s.vm.findClass RJ7 = some m.cls := findClass_of_methodNamed B0.named
  have hlocks := B0.notSynchronized
  have hl := lv_entry ([.ref v, .int (nI q)]) (n := 3) (Nat.le_of_ble_eq_true rfl)
  rw [lg_entry_eq]
  generalize (lg_sl ([.ref v, .int (nI q)]) ++ List.replicate (3 - (lg_sl ([.ref v, .int (nI q)])).length) Slot.unset).toArray = ls at hl ⊢
  have hl : lv_has ls 3 [(0, .ref v), (1, .int (nI q))] := hl
  subst hz
  have hD := hD0.self (sz := s.heap.size)
  have hA : ∀ q, s.heap.size ≤ q → va_A ([(v, .inl (cB, cp, .inl g))]) s.heap.size q := fun q h => Or.inr h
  have hS : va_S (va_A ([(v, .inl (cB, cp, .inl g))]) s.heap.size) s.heap s.heap [] := va_S.rf
  refine lv_iload_n hx hb dJ7_copyOf_9075b_0 rfl (lv_at hl 1 rfl) ?_
  refine lv_aload_n hx hb dJ7_copyOf_9075b_1 rfl (lv_at hl 0 rfl) ?_
  refine va_alen hx hb hK hP 0 0 rfl rfl (v := nI cp) rfl dJ7_copyOf_9075b_2 ?_
  refine lv_icmp_ne (tgt := 14) hx hb dJ7_copyOf_9075b_3 (by first | decide | rfl) (fun _ => ?_) (fun q9 => by first | exact absurd q9 (fun z => by have := (nI_eq (by omega) (by omega)).mp (show nI q = nI cp from z); omega) | exact absurd (fun z => by have := (nI_eq (by omega) (by omega)).mp (show nI q = nI cp from z); omega) q9)
  refine lv_iload_n hx hb dJ7_copyOf_9075b_14 rfl (lv_at hl 1 rfl) ?_
  refine va_newa (atype := .byte) (ty := .byte) (a0 := (q, .inl (fun _ => 0))) hx hb (hts _ am_ar.2.2.2) rfl hK hP hD hS hA (fun cA => rfl) (nI_pos (by omega)) (nI_clamp (by omega)) (Nat.le_trans (Nat.mul_le_mul (show q ≤ 300 by omega) (show componentBytes .byte ≤ 8 from by decide)) (by decide)) (Nat.le_trans (m := 1) (by first | omega | (dsimp only; omega)) (Nat.le_of_ble_eq_true rfl)) (Nat.le_trans (m := 300) (by first | omega | (dsimp only; omega)) (Nat.le_of_ble_eq_true rfl)) dJ7_copyOf_9075b_15 (fun q0 cA H1 hK hP hD hS => ?_)
  refine lv_astore_n hx hb dJ7_copyOf_9075b_17 rfl hl (by decide) rfl (fun ls hl => ?_)
  refine lv_aload_n hx hb dJ7_copyOf_9075b_18 rfl (lv_at hl 1 rfl) ?_
  refine lv_iconst (v := 0) hx hb dJ7_copyOf_9075b_19 (by decide) ?_
  refine lv_aload_n hx hb dJ7_copyOf_9075b_20 rfl (lv_at hl 0 rfl) ?_
  refine lv_iconst (v := 0) hx hb dJ7_copyOf_9075b_21 (by decide) ?_
  refine lv_aload_n hx hb dJ7_copyOf_9075b_22 rfl (lv_at hl 1 rfl) ?_
  refine va_alen hx hb hK hP 0 0 rfl rfl (v := nI cp) rfl dJ7_copyOf_9075b_23 ?_
  refine lv_iload_n hx hb dJ7_copyOf_9075b_24 rfl (lv_at hl 2 rfl) ?_
  refine va_mmin hx hb (by rw [hml]; exact hl.1.symm) hown (hts _ jw40) (hts _ am_mn.1) (hts _ am_mn.2.1) (hts _ am_mn.2.2) (Nat.le_of_ble_eq_true rfl) (Nat.le_of_ble_eq_true rfl) (Nat.le_trans (m := 1) (by first | omega | (dsimp only; omega)) (Nat.le_of_ble_eq_true rfl)) (Nat.le_trans (m := 300) (by first | omega | (dsimp only; omega)) (Nat.le_of_ble_eq_true rfl)) dJ7_copyOf_9075b_25 ?_
  rw [if_neg (nI_nlt (by omega) (by omega))]
  refine va_copyi hx hb (by rw [hml]; exact hl.1.symm) hown (hts _ jw41) (hts _ am_ac.2.2) (hts _ am_ac.1) (hts _ am_ac.2.1) hK hP hD hS 0 1 0 1 rfl rfl rfl rfl rfl (by decide) (by decide) (nI_pos (by omega)) (by (first | rw [z0c] | rw [z0d]); rw [nI_clamp (by omega)]; omega) (by (first | rw [z0c] | rw [z0d]); rw [nI_clamp (by omega)]; omega) (fun i _ => hg _) (Nat.le_of_ble_eq_true rfl) (Nat.le_of_ble_eq_true rfl) dJ7_copyOf_9075b_28 (fun H1 locs1 hP hD hS => ?_)
  refine lv_aload_n hx hb dJ7_copyOf_9075b_31 rfl (lv_at hl 0 rfl) ?_
  refine W.widen (k := 1) (n := 300) (by first | omega | (dsimp only; omega)) (by first | omega | (dsimp only; omega)) ?_
  exact W.aret hx hb hr (by first | exact Or.inl ⟨_, rfl⟩ | exact Or.inr ⟨_, rfl⟩) (Or.inr ⟨_, rfl⟩) (fun t ht hW => ⟨⟨_, _, _, rfl, ⟨q0, va_cpy g (fun _ => 0) (0 : Int32).toNatClampNeg (0 : Int32).toNatClampNeg (nI cp).toNatClampNeg, cA, rfl, rfl, rfl, FITB_cpy hg FITB_0⟩, by rw [ht]; exact hP, va_K.moved hW.alike hK, hD⟩, hS.F ht⟩) hS.2.2 dJ7_copyOf_9075b_32

