theorem dL_build_241 : decode cL_build 241 = .ok (.invokestatic 99, 3) := by decide +kernel
theorem dL_build_244 : decode cL_build 244 = .ok (.invokestatic 103, 3) := by decide +kernel
theorem dL_build_262 : decode cL_build 262 = .ok (.invokestatic 103, 3) := by decide +kernel
set_option maxRecDepth 20000 in
theorem jt_c : Cond.code yL_text cL_text 3 none ∈ WG := WG_of 809 rfl rfl
theorem jt_i : Cond.initialized RL ∈ WG := WG_of 26 (by decide +kernel) rfl
theorem jt_l : Cond.methodLink RL 103 yL_text ∈ WG := WG_of 807 (by decide +kernel) rfl
theorem jt_s : Cond.static yL_text ∈ WG := WG_of 808 (by decide +kernel) rfl
set_option maxRecDepth 20000 in
theorem jd_c : Cond.code yL_words cL_words 3 (some (.object "java/lang/String")) ∈ WG := WG_of 532 rfl rfl
theorem jd_i : Cond.initialized RL ∈ WG := WG_of 26 (by decide +kernel) rfl
theorem jd_l : Cond.methodLink RL 99 yL_words ∈ WG := WG_of 530 (by decide +kernel) rfl
theorem jd_s : Cond.static yL_words ∈ WG := WG_of 531 (by decide +kernel) rfl
def lt_ch : List Int := [108, 105, 110, 101, 32, 49, 50, 32, 112, 48, 32, 115, 116, 101, 109, 59, 32, 114, 101, 115, 116, 32, 98]
theorem lt_eq : ∀ k, k < 23 → ((am_byt.getD 28 []).getD k 0 &&& 255).toInt = lt_ch.getD k 0 := by decide +kernel
theorem ch_255 (x : Int32) : 0 ≤ (x &&& 255).toInt ∧ (x &&& 255).toInt ≤ 255 := by
  rw [pk_and x 8 (m := 255) rfl, nI_toInt (by omega)]
  omega
/-! the law's words and text, as steps of the abstract machine -/
theorem am_subA {A : Nat → Prop} {s : State} {H : Heap} {locs : List Loc} {ws : va_W} (hD : va_D A ws) (hS : va_S A s.heap H locs) (hA : ∀ q, s.heap.size ≤ q → A q) : ∀ q, va_A ws H.size q → A q := by
  intro q hq
  rcases hq with ⟨i, e, he⟩ | hq
  · exact hD.2 i _ he
  · exact hA q (Nat.le_trans hS.1 hq)
/-- text(x, t), t a text that lies there -/
theorem am_text {p : Program} {l : Launch} {e0 : Env} {R' : Room} {s : State} {m : MethodId} {args : Array Value} {below : List Frame} {meth : Method} {c : Code} {Q : State → Prop} {D : va_G} {ad : Nat → Nat} {b0 : Nat} {sc : List Int} {A : Nat → Prop} {ρ0 : List Nat} {pc cs sl a w n : Nat} {f : Nat → Int32} {L : List (Option AV)} {G : AG} {post : Option AV → AG → Prop} {H : Heap} {locs : List Loc} {ws : va_W} {tys : List (ClassId × FieldType)} {ls : Array Slot} {xa : Nat}
    (T : CT p R' s m args meth c 171 ad b0 sc A) (hend : ∀ (r : Option AV) (G' : AG), post r G' → ENDS p l e0 R' s m args below meth c Q D ad b0 sc A 171 ρ0 r G') (J : Nat → AG → Prop) (hn : n ≤ 300) (hJ0 : J 0 G) (hob : ∀ k G, J k G → ∃ fs, nth G 1 = some (.inl (6, fs)))
    (hstep : ∀ k, k < n → ∀ G, J k G → R 70 (0, L0 70 [vR 1, vI (f k &&& 255).toInt, vI 1], [], G, 0, 0) (fun r G' => (∃ z, r = some (vI z)) ∧ J (k + 1) G'))
    (hk : ∀ G', J n G' → R 171 (pc + 3, L, [], G', cs, sl) post)
    (hd : decode cL_build pc = .ok (.invokestatic 103, 3)) (hc : cs ≤ mC 171) (hs : sl ≤ mS 171) (I : IN D ad b0 sc A s H locs ws tys G) (hL : LR ad (rho b0 ws) (lgK 171) (mL 171) ls L) (hρ : ρ0 <+: rho b0 ws) (hxa : (rho b0 ws)[1]? = some xa) (hV : SV a w n f (va_A ws H.size) s H) :
    W p l e0 R' s m args below meth c H locs cs sl Q (F0 m pc ls [.ref a, .ref xa]) := by
  have hT := T
  obtain ⟨⟨hx, hb, hml, hown, hts, hin⟩, hR, F⟩ := T
  refine am_call (va_runS (As := [.ref xa, .ref a]) (rest := []) (Ts := WG) (own := RL) ⟨hx, hb, hml, hown, hts⟩ (jl_text l D ad (x0 := 0) J hxa hn I.2.2.2.2 hJ0 hob hstep) ⟨cb_of (n := 2) hts jt_c jt_i (hts _ jt_l) (by decide +kernel) (by decide +kernel) rfl rfl (Nat.le_trans (Nat.le_of_ble_eq_true rfl : 5 ≤ mF 171) hR.1) (Nat.le_trans (Nat.le_of_ble_eq_true rfl : 152 ≤ mLo 171) hR.2.1), hts _ jt_s⟩ ⟨PcX9.blind, fun U hU hW => pc_okT I F hV _ U hU hW⟩ rfl rfl hL.1 rfl (lv_room (Nat.le_of_ble_eq_true rfl)) hd ⟨Nat.le_trans hc hR.2.2.1, Nat.le_trans hs hR.2.2.2⟩) I F.1 (fun xv ws' tys' H1 locs1 r1 G1 hψ I' hρ' hO => ?_)
  obtain ⟨rfl, hJ⟩ := hψ
  cases xv with
  | some v => exact hO.elim
  | none => exact (hk G1 hJ).1 hT hend ws' tys' H1 locs1 ls _ hc hs I' (hL.mono hρ') trivial (hρ.trans hρ')
/-- text(x, words(z, n)) -/
theorem R_wt {L : List (Option AV)} {z n : Int} {G : AG} {cs sl : Nat} {post : Option AV → AG → Prop} (hn : 2 ≤ n ∧ n ≤ 7) (hc : cs + 200 ≤ mC 171) (hs : sl + 20000 ≤ mS 171) (J : Nat → AG → Prop) (hJ0 : J 0 G) (hob : ∀ k G, J k G → ∃ fs, nth G 1 = some (.inl (6, fs)))
    (hstep : ∀ (k : Nat) (ch : Int) (G : AG), k < 120 → 0 ≤ ch → ch ≤ 255 → J k G → R 70 (0, L0 70 [vR 1, vI ch, vI 1], [], G, 0, 0) (fun r G' => (∃ z, r = some (vI z)) ∧ J (k + 1) G'))
    (hk : ∀ (k : Nat) (G' : AG), k ≤ 120 → J k G' → R 171 (247, L, [], G', cs + 200, sl + 20000) post) : R 171 (241, L, [vI n, vI z, vR 1], G, cs, sl) post := by
  refine ⟨fun {p} {l} {e0} {R'} {s} {m} {args} {below} {meth} {c} {Q} {D} {ad} {b0} {sc} {A} {ρ0} T hend => ?_, trivial⟩
  intro ws tys H locs ls sst hc0 hs0 I hL hS hρ
  dsimp only at hc0 hs0 I hL hS ⊢
  obtain ⟨n', v1, rfl, hn', hS⟩ := SR_I hS
  obtain ⟨z', v2, rfl, hz', hS⟩ := SR_I hS
  obtain ⟨xa, v3, rfl, hxa, hS⟩ := SR_R hS
  cases SR_nil hS
  have hTT := T
  obtain ⟨⟨hx, hb, hml, hown, hts, hin⟩, hR, F⟩ := T
  have hnn : n' = nI n.toNat := (am_nIof (by omega)).1.trans (by rw [hn'])
  subst hnn
  obtain ⟨hK, hP, hD, hS, hG⟩ := I
  have hA := F.1
  have hT : ST ad A s s.heap := F.2.2.2.2.1
  have hC : va_Nw (.castable "[B" "java/lang/Cloneable") s := F.2.2.2.2.2.2.2
  refine j_call (ws := []) (pl := ws) (va_runS (As := [.int z', .int (nI n.toNat)]) (rest := [.ref xa]) (Ts := WG) (own := RL) ⟨hx, hb, hml, hown, hts⟩ (jl_words l D ad (nn := n.toNat) ⟨by omega, by omega⟩) ⟨cb_of (n := 2) hts jd_c jd_i (hts _ jd_l) (by decide +kernel) (by decide +kernel) rfl rfl (Nat.le_trans (Nat.le_of_ble_eq_true rfl : 8 ≤ mF 171) hR.1) (Nat.le_trans (Nat.le_of_ble_eq_true rfl : 284 ≤ mLo 171) hR.2.1), hts _ jd_s⟩ ⟨PcW.blind, fun U hU hW => jpW (ws := []) (pl := ws) hT hC hS hA hP hD (hK.sub [] rfl) _ U hU hW⟩ rfl rfl hL.1 rfl (lv_room (Nat.le_of_ble_eq_true rfl)) dL_build_241 ⟨Nat.le_trans hc hR.2.2.1, Nat.le_trans hs hR.2.2.2⟩) hP hD hS hA (fun x9 ws9 tys9 H1 locs1 hφ hP1 hD1 hK1 hS1 => ?_)
  obtain ⟨cc, hcc, t, v, g, cA, rfl, rfl, rfl, hg⟩ := hφ
  have hP2 : va_P D vwCl ws H1 := hP1.by (fun i => i + 2) (fun i q hq => hq)
  have hD2 : va_D A ws := hD1.by (fun i => i + 2) (fun i q hq => hq) (fun i j _ _ h => by omega)
  have I2 : IN D ad b0 sc A s H1 locs1 ws tys G := ⟨hK, hP2, hD2, hS1, hG⟩
  have hn9 : ∀ (i : Nat) (a : Nat) (e : va_E), i < 2 → (SVX t v cc g cA ++ ws)[i]? = some (a, e) → ¬ va_A ws H1.size a := fun i a e hi h q => by
    rcases q with ⟨k, e2, hk⟩ | q
    · have z := hD1.1 (k + 2) i (a, e2) (a, e) hk h rfl
      omega
    · have z : a < H1.size := (hP1 _ _ h).lt
      omega
  have hV : SV t v cc g (va_A ws H1.size) s H1 := SV.of hts hK1 hP1 (i := 0) (j := 1) (k := 0) rfl rfl rfl (hn9 0 _ _ (by decide) rfl) (hn9 1 _ _ (by decide) rfl)
  exact am_text hTT hend J (Nat.le_trans hcc (by decide)) hJ0 hob (fun k hk G hJ => hstep k _ G (Nat.lt_of_lt_of_le hk hcc) (ch_255 (g k)).1 (ch_255 (g k)).2 hJ) (fun G' => hk cc G' hcc) dL_build_244 hc hs I2 hL hρ hxa hV
/-- text(x, the law's own text) -/
theorem R_ct {L : List (Option AV)} {G : AG} {cs sl : Nat} {post : Option AV → AG → Prop} (hc : cs ≤ mC 171) (hs : sl ≤ mS 171) (J : Nat → AG → Prop) (hJ0 : J 0 G) (hob : ∀ k G, J k G → ∃ fs, nth G 1 = some (.inl (6, fs)))
    (hstep : ∀ k, k < 23 → ∀ G, J k G → R 70 (0, L0 70 [vR 1, vI (lt_ch.getD k 0), vI 1], [], G, 0, 0) (fun r G' => (∃ z, r = some (vI z)) ∧ J (k + 1) G'))
    (hk : ∀ G', J 23 G' → R 171 (265, L, [], G', cs, sl) post) : R 171 (262, L, [vS 28, vR 1], G, cs, sl) post := by
  refine ⟨fun {p} {l} {e0} {R'} {s} {m} {args} {below} {meth} {c} {Q} {D} {ad} {b0} {sc} {A} {ρ0} T hend => ?_, trivial⟩
  intro ws tys H locs ls sst hc0 hs0 I hL hS hρ
  dsimp only at hc0 hs0 I hL hS ⊢
  obtain ⟨v1, rfl, h28, hS⟩ := SR_S hS
  obtain ⟨xa, v3, rfl, hxa, hS⟩ := SR_R hS
  cases SR_nil hS
  have F := T.2.2
  obtain ⟨adV, hE⟩ := F.2.2.2.2.1.1
  have hV0 : SV (ad 28) (adV 28) 23 (fun j => (am_byt.getD 28 []).getD j 0) A s s.heap := hE.1 28 (by decide)
  have hV : SV (ad 28) (adV 28) 23 (fun j => (am_byt.getD 28 []).getD j 0) (va_A ws H.size) s H := (hV0.kept I.2.2.2.1.2.1).narrow (am_subA I.2.2.1 I.2.2.2.1 F.1)
  exact am_text T hend J (by decide) hJ0 hob (fun k hk G hJ => by rw [lt_eq k hk]; exact hstep k hk G hJ) hk dL_build_262 hc hs I hL hρ hxa hV
