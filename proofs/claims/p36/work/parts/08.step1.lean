theorem LR.noJ {ad : Nat → Nat} {ρ : List Nat} {lg : Bool} {nL : Nat} {ls : Array Slot} {L : List (Option AV)} (h : LR ad ρ lg nL ls L) {i : Nat} {a : AV} (hi : nth L i = some (some a)) (ha : acat a = 1) : isJ (nth L (i - 1)) = false := by
  cases q : isJ (nth L (i - 1)) with
  | false => rfl
  | true =>
    exfalso
    have hq : ∃ z : Int, nth L (i - 1) = some (some (vJ z)) := by
      generalize nth L (i - 1) = o at q
      rcases o with _ | _ | c | c | c | c <;> first | exact ⟨c, rfl⟩ | exact absurd q (by simp [isJ])
    obtain ⟨z, hz⟩ := hq
    cases i with
    | zero =>
      rw [show 0 - 1 = 0 from rfl, hi] at hz
      cases hz
      cases ha
    | succ j =>
      rw [Nat.add_sub_cancel, nth_eq] at hz
      rw [nth_eq] at hi
      obtain ⟨-, v, h1, h2⟩ := h.2.2.2 j _ hz
      obtain ⟨-, w, h3, -⟩ := h.2.2.2 (j + 1) _ hi
      have h4 := h.2.1.1 j v h1 (VR_cat h2)
      rw [h4] at h3
      cases h3
theorem am_and31 {y : Int32} (h0 : 0 ≤ y.toInt) (h1 : y.toInt < 32) : y &&& 31 = y := by
  obtain ⟨e, -⟩ := am_nIof h0
  have hn : y.toInt.toNat < 32 := by omega
  generalize y.toInt.toNat = n at e hn
  subst e
  have : ∀ n, n < 32 → nI n &&& 31 = nI n := by decide +kernel
  exact this n hn
theorem am_lcmp (x y : Int64) : (lg_cmp x y).toInt = if y.toInt < x.toInt then 1 else if x.toInt = y.toInt then 0 else -1 := by
  unfold lg_cmp
  by_cases h1 : y < x
  · rw [if_pos h1, if_pos (Int64.lt_iff_toInt_lt.mp h1)]; rfl
  · rw [if_neg h1, if_neg (fun q => h1 (Int64.lt_iff_toInt_lt.mpr q))]
    by_cases h2 : x = y
    · rw [if_pos h2, if_pos (by rw [h2])]; rfl
    · rw [if_neg h2, if_neg (fun q => h2 (Int64.toInt_inj.mp q))]; rfl
theorem ok_iconst {p : Program} {l : Launch} {e0 : Env} {R : Room} {s : State} {m : MethodId} {args : Array Value} {below : List Frame} {meth : Method} {c : Code} {Q : State → Prop} {D : va_G} {ad : Nat → Nat} {b0 : Nat} {sc : List Int} {A : Nat → Prop} {k : Nat} {ρ0 : List Nat}
    (T : CT p R s m args meth c k ad b0 sc A) {n : Int} {a b q1 q2 : Nat} {pc : Nat} {L : List (Option AV)} {st : List AV} {G : AG} {cs sl : Nat} {P : Option Prop} {f' : AF}
    (h : s1 k (.iconst n, a, b, q1, q2) (pc, L, st, G, cs, sl) = some (P, f')) (hP : cj P True)
    (hd : decode (mB k) pc = .ok (.iconst n, am_len pc (.iconst n))) (hn : am_lnk (mO k) pc (.iconst n, a, b, q1, q2) = true)
    (kk : OK p l e0 R s m args below meth c Q D ad b0 sc A k ρ0 f') : OK p l e0 R s m args below meth c Q D ad b0 sc A k ρ0 (pc, L, st, G, cs, sl) := by
  unfold s1 at h
  dsimp only at h
  cases h
  intro ws tys H locs ls sst hc hs I hL hS hρ
  obtain ⟨⟨hx, hb, hml, hown, hts, hin⟩, hR, F⟩ := T
  dsimp only at hc hs I hL hS ⊢
  exact lv_iconst hx hb hd rfl (kk ws tys H locs ls _ hc hs I hL ⟨am_o32 hn, hS⟩ hρ)

theorem ok_bipush {p : Program} {l : Launch} {e0 : Env} {R : Room} {s : State} {m : MethodId} {args : Array Value} {below : List Frame} {meth : Method} {c : Code} {Q : State → Prop} {D : va_G} {ad : Nat → Nat} {b0 : Nat} {sc : List Int} {A : Nat → Prop} {k : Nat} {ρ0 : List Nat}
    (T : CT p R s m args meth c k ad b0 sc A) {n : Int} {a b q1 q2 : Nat} {pc : Nat} {L : List (Option AV)} {st : List AV} {G : AG} {cs sl : Nat} {P : Option Prop} {f' : AF}
    (h : s1 k (.bipush n, a, b, q1, q2) (pc, L, st, G, cs, sl) = some (P, f')) (hP : cj P True)
    (hd : decode (mB k) pc = .ok (.bipush n, am_len pc (.bipush n))) (hn : am_lnk (mO k) pc (.bipush n, a, b, q1, q2) = true)
    (kk : OK p l e0 R s m args below meth c Q D ad b0 sc A k ρ0 f') : OK p l e0 R s m args below meth c Q D ad b0 sc A k ρ0 (pc, L, st, G, cs, sl) := by
  unfold s1 at h
  dsimp only at h
  cases h
  intro ws tys H locs ls sst hc hs I hL hS hρ
  obtain ⟨⟨hx, hb, hml, hown, hts, hin⟩, hR, F⟩ := T
  dsimp only at hc hs I hL hS ⊢
  exact lv_bipush hx hb hd rfl (kk ws tys H locs ls _ hc hs I hL ⟨am_o8 (of_decide_eq_true hn), hS⟩ hρ)

theorem ok_sipush {p : Program} {l : Launch} {e0 : Env} {R : Room} {s : State} {m : MethodId} {args : Array Value} {below : List Frame} {meth : Method} {c : Code} {Q : State → Prop} {D : va_G} {ad : Nat → Nat} {b0 : Nat} {sc : List Int} {A : Nat → Prop} {k : Nat} {ρ0 : List Nat}
    (T : CT p R s m args meth c k ad b0 sc A) {n : Int} {a b q1 q2 : Nat} {pc : Nat} {L : List (Option AV)} {st : List AV} {G : AG} {cs sl : Nat} {P : Option Prop} {f' : AF}
    (h : s1 k (.sipush n, a, b, q1, q2) (pc, L, st, G, cs, sl) = some (P, f')) (hP : cj P True)
    (hd : decode (mB k) pc = .ok (.sipush n, am_len pc (.sipush n))) (hn : am_lnk (mO k) pc (.sipush n, a, b, q1, q2) = true)
    (kk : OK p l e0 R s m args below meth c Q D ad b0 sc A k ρ0 f') : OK p l e0 R s m args below meth c Q D ad b0 sc A k ρ0 (pc, L, st, G, cs, sl) := by
  unfold s1 at h
  dsimp only at h
  cases h
  intro ws tys H locs ls sst hc hs I hL hS hρ
  obtain ⟨⟨hx, hb, hml, hown, hts, hin⟩, hR, F⟩ := T
  dsimp only at hc hs I hL hS ⊢
  exact lv_sipush hx hb hd rfl (kk ws tys H locs ls _ hc hs I hL ⟨am_o16 hn, hS⟩ hρ)

theorem ok_lconst {p : Program} {l : Launch} {e0 : Env} {R : Room} {s : State} {m : MethodId} {args : Array Value} {below : List Frame} {meth : Method} {c : Code} {Q : State → Prop} {D : va_G} {ad : Nat → Nat} {b0 : Nat} {sc : List Int} {A : Nat → Prop} {k : Nat} {ρ0 : List Nat}
    (T : CT p R s m args meth c k ad b0 sc A) {n : Fin 2} {a b q1 q2 : Nat} {pc : Nat} {L : List (Option AV)} {st : List AV} {G : AG} {cs sl : Nat} {P : Option Prop} {f' : AF}
    (h : s1 k (.lconst n, a, b, q1, q2) (pc, L, st, G, cs, sl) = some (P, f')) (hP : cj P True)
    (hd : decode (mB k) pc = .ok (.lconst n, am_len pc (.lconst n))) (hn : am_lnk (mO k) pc (.lconst n, a, b, q1, q2) = true)
    (kk : OK p l e0 R s m args below meth c Q D ad b0 sc A k ρ0 f') : OK p l e0 R s m args below meth c Q D ad b0 sc A k ρ0 (pc, L, st, G, cs, sl) := by
  unfold s1 at h
  dsimp only at h
  cases h
  intro ws tys H locs ls sst hc hs I hL hS hρ
  obtain ⟨⟨hx, hb, hml, hown, hts, hin⟩, hR, F⟩ := T
  dsimp only at hc hs I hL hS ⊢
  exact lv_lconst hx hb hd rfl (kk ws tys H locs ls _ hc hs I hL ⟨(show (Int64.ofNat (n : Nat)).toInt = ((n.val : Nat) : Int) from by rcases n with ⟨n, hn0⟩; match n, hn0 with | 0, _ => rfl | 1, _ => rfl), hS⟩ hρ)

theorem ok_aconst_null {p : Program} {l : Launch} {e0 : Env} {R : Room} {s : State} {m : MethodId} {args : Array Value} {below : List Frame} {meth : Method} {c : Code} {Q : State → Prop} {D : va_G} {ad : Nat → Nat} {b0 : Nat} {sc : List Int} {A : Nat → Prop} {k : Nat} {ρ0 : List Nat}
    (T : CT p R s m args meth c k ad b0 sc A) {a b q1 q2 : Nat} {pc : Nat} {L : List (Option AV)} {st : List AV} {G : AG} {cs sl : Nat} {P : Option Prop} {f' : AF}
    (h : s1 k (.aconst_null, a, b, q1, q2) (pc, L, st, G, cs, sl) = some (P, f')) (hP : cj P True)
    (hd : decode (mB k) pc = .ok (.aconst_null, am_len pc (.aconst_null))) (hn : am_lnk (mO k) pc (.aconst_null, a, b, q1, q2) = true)
    (kk : OK p l e0 R s m args below meth c Q D ad b0 sc A k ρ0 f') : OK p l e0 R s m args below meth c Q D ad b0 sc A k ρ0 (pc, L, st, G, cs, sl) := by
  unfold s1 at h
  dsimp only at h
  cases h
  intro ws tys H locs ls sst hc hs I hL hS hρ
  obtain ⟨⟨hx, hb, hml, hown, hts, hin⟩, hR, F⟩ := T
  dsimp only at hc hs I hL hS ⊢
  exact lv_null hx hb hd (kk ws tys H locs ls _ hc hs I hL ⟨trivial, hS⟩ hρ)

theorem ok_goto {p : Program} {l : Launch} {e0 : Env} {R : Room} {s : State} {m : MethodId} {args : Array Value} {below : List Frame} {meth : Method} {c : Code} {Q : State → Prop} {D : va_G} {ad : Nat → Nat} {b0 : Nat} {sc : List Int} {A : Nat → Prop} {k : Nat} {ρ0 : List Nat}
    (T : CT p R s m args meth c k ad b0 sc A) {off : Int} {a b q1 q2 : Nat} {pc : Nat} {L : List (Option AV)} {st : List AV} {G : AG} {cs sl : Nat} {P : Option Prop} {f' : AF}
    (h : s1 k (.goto off, a, b, q1, q2) (pc, L, st, G, cs, sl) = some (P, f')) (hP : cj P True)
    (hd : decode (mB k) pc = .ok (.goto off, am_len pc (.goto off))) (hn : am_lnk (mO k) pc (.goto off, a, b, q1, q2) = true)
    (kk : OK p l e0 R s m args below meth c Q D ad b0 sc A k ρ0 f') : OK p l e0 R s m args below meth c Q D ad b0 sc A k ρ0 (pc, L, st, G, cs, sl) := by
  unfold s1 at h
  dsimp only at h
  cases h
  intro ws tys H locs ls sst hc hs I hL hS hρ
  obtain ⟨⟨hx, hb, hml, hown, hts, hin⟩, hR, F⟩ := T
  dsimp only at hc hs I hL hS ⊢
  exact lv_goto hx hb hd (am_tgt hn) (kk ws tys H locs ls _ hc hs I hL hS hρ)

theorem ok_iadd {p : Program} {l : Launch} {e0 : Env} {R : Room} {s : State} {m : MethodId} {args : Array Value} {below : List Frame} {meth : Method} {c : Code} {Q : State → Prop} {D : va_G} {ad : Nat → Nat} {b0 : Nat} {sc : List Int} {A : Nat → Prop} {k : Nat} {ρ0 : List Nat}
    (T : CT p R s m args meth c k ad b0 sc A) {a b q1 q2 : Nat} {pc : Nat} {L : List (Option AV)} {st : List AV} {G : AG} {cs sl : Nat} {P : Option Prop} {f' : AF}
    (h : s1 k (.iadd, a, b, q1, q2) (pc, L, st, G, cs, sl) = some (P, f')) (hP : cj P True)
    (hd : decode (mB k) pc = .ok (.iadd, am_len pc (.iadd))) (hn : am_lnk (mO k) pc (.iadd, a, b, q1, q2) = true)
    (kk : OK p l e0 R s m args below meth c Q D ad b0 sc A k ρ0 f') : OK p l e0 R s m args below meth c Q D ad b0 sc A k ρ0 (pc, L, st, G, cs, sl) := by
  unfold s1 at h
  dsimp only at h
  split at h
  · rename_i y x st'
    cases h
    intro ws tys H locs ls sst hc hs I hL hS hρ
    obtain ⟨⟨hx, hb, hml, hown, hts, hin⟩, hR, F⟩ := T
    dsimp only at hc hs I hL hS ⊢
    obtain ⟨y', sst, rfl, hy, hY⟩ := SR_I hS
    obtain ⟨x', sst, rfl, hxx, hZ⟩ := SR_I hY
    subst hy; subst hxx
    exact lv_iadd hx hb hd (kk ws tys H locs ls _ hc hs I hL ⟨am_add hP.1, hZ⟩ hρ)
  · cases h

theorem ok_isub {p : Program} {l : Launch} {e0 : Env} {R : Room} {s : State} {m : MethodId} {args : Array Value} {below : List Frame} {meth : Method} {c : Code} {Q : State → Prop} {D : va_G} {ad : Nat → Nat} {b0 : Nat} {sc : List Int} {A : Nat → Prop} {k : Nat} {ρ0 : List Nat}
    (T : CT p R s m args meth c k ad b0 sc A) {a b q1 q2 : Nat} {pc : Nat} {L : List (Option AV)} {st : List AV} {G : AG} {cs sl : Nat} {P : Option Prop} {f' : AF}
    (h : s1 k (.isub, a, b, q1, q2) (pc, L, st, G, cs, sl) = some (P, f')) (hP : cj P True)
    (hd : decode (mB k) pc = .ok (.isub, am_len pc (.isub))) (hn : am_lnk (mO k) pc (.isub, a, b, q1, q2) = true)
    (kk : OK p l e0 R s m args below meth c Q D ad b0 sc A k ρ0 f') : OK p l e0 R s m args below meth c Q D ad b0 sc A k ρ0 (pc, L, st, G, cs, sl) := by
  unfold s1 at h
  dsimp only at h
  split at h
  · rename_i y x st'
    cases h
    intro ws tys H locs ls sst hc hs I hL hS hρ
    obtain ⟨⟨hx, hb, hml, hown, hts, hin⟩, hR, F⟩ := T
    dsimp only at hc hs I hL hS ⊢
    obtain ⟨y', sst, rfl, hy, hY⟩ := SR_I hS
    obtain ⟨x', sst, rfl, hxx, hZ⟩ := SR_I hY
    subst hy; subst hxx
    exact lv_isub hx hb hd (kk ws tys H locs ls _ hc hs I hL ⟨am_sub hP.1, hZ⟩ hρ)
  · cases h

theorem ok_imul {p : Program} {l : Launch} {e0 : Env} {R : Room} {s : State} {m : MethodId} {args : Array Value} {below : List Frame} {meth : Method} {c : Code} {Q : State → Prop} {D : va_G} {ad : Nat → Nat} {b0 : Nat} {sc : List Int} {A : Nat → Prop} {k : Nat} {ρ0 : List Nat}
    (T : CT p R s m args meth c k ad b0 sc A) {a b q1 q2 : Nat} {pc : Nat} {L : List (Option AV)} {st : List AV} {G : AG} {cs sl : Nat} {P : Option Prop} {f' : AF}
    (h : s1 k (.imul, a, b, q1, q2) (pc, L, st, G, cs, sl) = some (P, f')) (hP : cj P True)
    (hd : decode (mB k) pc = .ok (.imul, am_len pc (.imul))) (hn : am_lnk (mO k) pc (.imul, a, b, q1, q2) = true)
    (kk : OK p l e0 R s m args below meth c Q D ad b0 sc A k ρ0 f') : OK p l e0 R s m args below meth c Q D ad b0 sc A k ρ0 (pc, L, st, G, cs, sl) := by
  unfold s1 at h
  dsimp only at h
  split at h
  · rename_i y x st'
    cases h
    intro ws tys H locs ls sst hc hs I hL hS hρ
    obtain ⟨⟨hx, hb, hml, hown, hts, hin⟩, hR, F⟩ := T
    dsimp only at hc hs I hL hS ⊢
    obtain ⟨y', sst, rfl, hy, hY⟩ := SR_I hS
    obtain ⟨x', sst, rfl, hxx, hZ⟩ := SR_I hY
    subst hy; subst hxx
    exact lv_imul hx hb hd (kk ws tys H locs ls _ hc hs I hL ⟨am_mul hP.1, hZ⟩ hρ)
  · cases h

theorem ok_idiv {p : Program} {l : Launch} {e0 : Env} {R : Room} {s : State} {m : MethodId} {args : Array Value} {below : List Frame} {meth : Method} {c : Code} {Q : State → Prop} {D : va_G} {ad : Nat → Nat} {b0 : Nat} {sc : List Int} {A : Nat → Prop} {k : Nat} {ρ0 : List Nat}
    (T : CT p R s m args meth c k ad b0 sc A) {a b q1 q2 : Nat} {pc : Nat} {L : List (Option AV)} {st : List AV} {G : AG} {cs sl : Nat} {P : Option Prop} {f' : AF}
    (h : s1 k (.idiv, a, b, q1, q2) (pc, L, st, G, cs, sl) = some (P, f')) (hP : cj P True)
    (hd : decode (mB k) pc = .ok (.idiv, am_len pc (.idiv))) (hn : am_lnk (mO k) pc (.idiv, a, b, q1, q2) = true)
    (kk : OK p l e0 R s m args below meth c Q D ad b0 sc A k ρ0 f') : OK p l e0 R s m args below meth c Q D ad b0 sc A k ρ0 (pc, L, st, G, cs, sl) := by
  unfold s1 at h
  dsimp only at h
  split at h
  · rename_i y x st'
    cases h
    intro ws tys H locs ls sst hc hs I hL hS hρ
    obtain ⟨⟨hx, hb, hml, hown, hts, hin⟩, hR, F⟩ := T
    dsimp only at hc hs I hL hS ⊢
    obtain ⟨y', sst, rfl, hy, hY⟩ := SR_I hS
    obtain ⟨x', sst, rfl, hxx, hZ⟩ := SR_I hY
    subst hy; subst hxx
    exact lv_idiv hx hb hd (am_ne0 hP.1.2) (kk ws tys H locs ls _ hc hs I hL ⟨am_div hP.1.1 hP.1.2, hZ⟩ hρ)
  · cases h

theorem ok_irem {p : Program} {l : Launch} {e0 : Env} {R : Room} {s : State} {m : MethodId} {args : Array Value} {below : List Frame} {meth : Method} {c : Code} {Q : State → Prop} {D : va_G} {ad : Nat → Nat} {b0 : Nat} {sc : List Int} {A : Nat → Prop} {k : Nat} {ρ0 : List Nat}
    (T : CT p R s m args meth c k ad b0 sc A) {a b q1 q2 : Nat} {pc : Nat} {L : List (Option AV)} {st : List AV} {G : AG} {cs sl : Nat} {P : Option Prop} {f' : AF}
    (h : s1 k (.irem, a, b, q1, q2) (pc, L, st, G, cs, sl) = some (P, f')) (hP : cj P True)
    (hd : decode (mB k) pc = .ok (.irem, am_len pc (.irem))) (hn : am_lnk (mO k) pc (.irem, a, b, q1, q2) = true)
    (kk : OK p l e0 R s m args below meth c Q D ad b0 sc A k ρ0 f') : OK p l e0 R s m args below meth c Q D ad b0 sc A k ρ0 (pc, L, st, G, cs, sl) := by
  unfold s1 at h
  dsimp only at h
  split at h
  · rename_i y x st'
    cases h
    intro ws tys H locs ls sst hc hs I hL hS hρ
    obtain ⟨⟨hx, hb, hml, hown, hts, hin⟩, hR, F⟩ := T
    dsimp only at hc hs I hL hS ⊢
    obtain ⟨y', sst, rfl, hy, hY⟩ := SR_I hS
    obtain ⟨x', sst, rfl, hxx, hZ⟩ := SR_I hY
    subst hy; subst hxx
    exact lv_irem hx hb hd (am_ne0 hP.1.2) (kk ws tys H locs ls _ hc hs I hL ⟨am_rem hP.1.1 hP.1.2, hZ⟩ hρ)
  · cases h

theorem ok_iand {p : Program} {l : Launch} {e0 : Env} {R : Room} {s : State} {m : MethodId} {args : Array Value} {below : List Frame} {meth : Method} {c : Code} {Q : State → Prop} {D : va_G} {ad : Nat → Nat} {b0 : Nat} {sc : List Int} {A : Nat → Prop} {k : Nat} {ρ0 : List Nat}
    (T : CT p R s m args meth c k ad b0 sc A) {a b q1 q2 : Nat} {pc : Nat} {L : List (Option AV)} {st : List AV} {G : AG} {cs sl : Nat} {P : Option Prop} {f' : AF}
    (h : s1 k (.iand, a, b, q1, q2) (pc, L, st, G, cs, sl) = some (P, f')) (hP : cj P True)
    (hd : decode (mB k) pc = .ok (.iand, am_len pc (.iand))) (hn : am_lnk (mO k) pc (.iand, a, b, q1, q2) = true)
    (kk : OK p l e0 R s m args below meth c Q D ad b0 sc A k ρ0 f') : OK p l e0 R s m args below meth c Q D ad b0 sc A k ρ0 (pc, L, st, G, cs, sl) := by
  unfold s1 at h
  dsimp only at h
  split at h
  · split at h
    · rename_i y x st'
      cases h
      intro ws tys H locs ls sst hc hs I hL hS hρ
      obtain ⟨⟨hx, hb, hml, hown, hts, hin⟩, hR, F⟩ := T
      dsimp only at hc hs I hL hS ⊢
      obtain ⟨y', sst, rfl, hy, hY⟩ := SR_I hS
      obtain ⟨x', sst, rfl, hxx, hZ⟩ := SR_I hY
      subst hy; subst hxx
      exact lv_iand hx hb hd (kk ws tys H locs ls _ hc hs I hL ⟨am_bnd x' y', hZ⟩ hρ)
    · cases h
  · split at h
    · rename_i y x st'
      cases h
      intro ws tys H locs ls sst hc hs I hL hS hρ
      obtain ⟨⟨hx, hb, hml, hown, hts, hin⟩, hR, F⟩ := T
      dsimp only at hc hs I hL hS ⊢
      obtain ⟨y', sst, rfl, hy, hY⟩ := SR_I hS
      obtain ⟨x', sst, rfl, hxx, hZ⟩ := SR_I hY
      subst hy; subst hxx
      exact lv_iand hx hb hd (kk ws tys H locs ls _ hc hs I hL ⟨am_and hP.1, hZ⟩ hρ)
    · cases h

theorem ok_ior {p : Program} {l : Launch} {e0 : Env} {R : Room} {s : State} {m : MethodId} {args : Array Value} {below : List Frame} {meth : Method} {c : Code} {Q : State → Prop} {D : va_G} {ad : Nat → Nat} {b0 : Nat} {sc : List Int} {A : Nat → Prop} {k : Nat} {ρ0 : List Nat}
    (T : CT p R s m args meth c k ad b0 sc A) {a b q1 q2 : Nat} {pc : Nat} {L : List (Option AV)} {st : List AV} {G : AG} {cs sl : Nat} {P : Option Prop} {f' : AF}
    (h : s1 k (.ior, a, b, q1, q2) (pc, L, st, G, cs, sl) = some (P, f')) (hP : cj P True)
    (hd : decode (mB k) pc = .ok (.ior, am_len pc (.ior))) (hn : am_lnk (mO k) pc (.ior, a, b, q1, q2) = true)
    (kk : OK p l e0 R s m args below meth c Q D ad b0 sc A k ρ0 f') : OK p l e0 R s m args below meth c Q D ad b0 sc A k ρ0 (pc, L, st, G, cs, sl) := by
  unfold s1 at h
  dsimp only at h
  split at h
  · rename_i y x st'
    cases h
    intro ws tys H locs ls sst hc hs I hL hS hρ
    obtain ⟨⟨hx, hb, hml, hown, hts, hin⟩, hR, F⟩ := T
    dsimp only at hc hs I hL hS ⊢
    obtain ⟨y', sst, rfl, hy, hY⟩ := SR_I hS
    obtain ⟨x', sst, rfl, hxx, hZ⟩ := SR_I hY
    subst hy; subst hxx
    exact lv_ior hx hb hd (kk ws tys H locs ls _ hc hs I hL ⟨am_or hP.1.1 hP.1.2, hZ⟩ hρ)
  · cases h

theorem ok_ishl {p : Program} {l : Launch} {e0 : Env} {R : Room} {s : State} {m : MethodId} {args : Array Value} {below : List Frame} {meth : Method} {c : Code} {Q : State → Prop} {D : va_G} {ad : Nat → Nat} {b0 : Nat} {sc : List Int} {A : Nat → Prop} {k : Nat} {ρ0 : List Nat}
    (T : CT p R s m args meth c k ad b0 sc A) {a b q1 q2 : Nat} {pc : Nat} {L : List (Option AV)} {st : List AV} {G : AG} {cs sl : Nat} {P : Option Prop} {f' : AF}
    (h : s1 k (.ishl, a, b, q1, q2) (pc, L, st, G, cs, sl) = some (P, f')) (hP : cj P True)
    (hd : decode (mB k) pc = .ok (.ishl, am_len pc (.ishl))) (hn : am_lnk (mO k) pc (.ishl, a, b, q1, q2) = true)
    (kk : OK p l e0 R s m args below meth c Q D ad b0 sc A k ρ0 f') : OK p l e0 R s m args below meth c Q D ad b0 sc A k ρ0 (pc, L, st, G, cs, sl) := by
  unfold s1 at h
  dsimp only at h
  split at h
  · rename_i y x st'
    cases h
    intro ws tys H locs ls sst hc hs I hL hS hρ
    obtain ⟨⟨hx, hb, hml, hown, hts, hin⟩, hR, F⟩ := T
    dsimp only at hc hs I hL hS ⊢
    obtain ⟨y', sst, rfl, hy, hY⟩ := SR_I hS
    obtain ⟨x', sst, rfl, hxx, hZ⟩ := SR_I hY
    subst hy; subst hxx
    exact lv_ishl hx hb hd (kk ws tys H locs ls _ hc hs I hL ⟨(by show (x' <<< (y' &&& 31)).toInt = _; rw [am_and31 hP.1.1 (by have := hP.1.2.1; omega)]; exact am_shl hP.1.1 hP.1.2.1 hP.1.2.2.1 hP.1.2.2.2), hZ⟩ hρ)
  · cases h

theorem ok_ishr {p : Program} {l : Launch} {e0 : Env} {R : Room} {s : State} {m : MethodId} {args : Array Value} {below : List Frame} {meth : Method} {c : Code} {Q : State → Prop} {D : va_G} {ad : Nat → Nat} {b0 : Nat} {sc : List Int} {A : Nat → Prop} {k : Nat} {ρ0 : List Nat}
    (T : CT p R s m args meth c k ad b0 sc A) {a b q1 q2 : Nat} {pc : Nat} {L : List (Option AV)} {st : List AV} {G : AG} {cs sl : Nat} {P : Option Prop} {f' : AF}
    (h : s1 k (.ishr, a, b, q1, q2) (pc, L, st, G, cs, sl) = some (P, f')) (hP : cj P True)
    (hd : decode (mB k) pc = .ok (.ishr, am_len pc (.ishr))) (hn : am_lnk (mO k) pc (.ishr, a, b, q1, q2) = true)
    (kk : OK p l e0 R s m args below meth c Q D ad b0 sc A k ρ0 f') : OK p l e0 R s m args below meth c Q D ad b0 sc A k ρ0 (pc, L, st, G, cs, sl) := by
  unfold s1 at h
  dsimp only at h
  split at h
  · rename_i y x st'
    cases h
    intro ws tys H locs ls sst hc hs I hL hS hρ
    obtain ⟨⟨hx, hb, hml, hown, hts, hin⟩, hR, F⟩ := T
    dsimp only at hc hs I hL hS ⊢
    obtain ⟨y', sst, rfl, hy, hY⟩ := SR_I hS
    obtain ⟨x', sst, rfl, hxx, hZ⟩ := SR_I hY
    subst hy; subst hxx
    exact lv_ishr hx hb hd (kk ws tys H locs ls _ hc hs I hL ⟨(by show (x' >>> (y' &&& 31)).toInt = _; rw [am_and31 hP.1.1 hP.1.2]; exact am_shr hP.1.1 hP.1.2), hZ⟩ hρ)
  · cases h

theorem ok_ladd {p : Program} {l : Launch} {e0 : Env} {R : Room} {s : State} {m : MethodId} {args : Array Value} {below : List Frame} {meth : Method} {c : Code} {Q : State → Prop} {D : va_G} {ad : Nat → Nat} {b0 : Nat} {sc : List Int} {A : Nat → Prop} {k : Nat} {ρ0 : List Nat}
    (T : CT p R s m args meth c k ad b0 sc A) {a b q1 q2 : Nat} {pc : Nat} {L : List (Option AV)} {st : List AV} {G : AG} {cs sl : Nat} {P : Option Prop} {f' : AF}
    (h : s1 k (.ladd, a, b, q1, q2) (pc, L, st, G, cs, sl) = some (P, f')) (hP : cj P True)
    (hd : decode (mB k) pc = .ok (.ladd, am_len pc (.ladd))) (hn : am_lnk (mO k) pc (.ladd, a, b, q1, q2) = true)
    (kk : OK p l e0 R s m args below meth c Q D ad b0 sc A k ρ0 f') : OK p l e0 R s m args below meth c Q D ad b0 sc A k ρ0 (pc, L, st, G, cs, sl) := by
  unfold s1 at h
  dsimp only at h
  split at h
  · rename_i y x st'
    cases h
    intro ws tys H locs ls sst hc hs I hL hS hρ
    obtain ⟨⟨hx, hb, hml, hown, hts, hin⟩, hR, F⟩ := T
    dsimp only at hc hs I hL hS ⊢
    obtain ⟨y', sst, rfl, hy, hY⟩ := SR_J hS
    obtain ⟨x', sst, rfl, hxx, hZ⟩ := SR_J hY
    subst hy; subst hxx
    exact lv_ladd hx hb hd (kk ws tys H locs ls _ hc hs I hL ⟨am_addL hP.1, hZ⟩ hρ)
  · cases h

theorem ok_lmul {p : Program} {l : Launch} {e0 : Env} {R : Room} {s : State} {m : MethodId} {args : Array Value} {below : List Frame} {meth : Method} {c : Code} {Q : State → Prop} {D : va_G} {ad : Nat → Nat} {b0 : Nat} {sc : List Int} {A : Nat → Prop} {k : Nat} {ρ0 : List Nat}
    (T : CT p R s m args meth c k ad b0 sc A) {a b q1 q2 : Nat} {pc : Nat} {L : List (Option AV)} {st : List AV} {G : AG} {cs sl : Nat} {P : Option Prop} {f' : AF}
    (h : s1 k (.lmul, a, b, q1, q2) (pc, L, st, G, cs, sl) = some (P, f')) (hP : cj P True)
    (hd : decode (mB k) pc = .ok (.lmul, am_len pc (.lmul))) (hn : am_lnk (mO k) pc (.lmul, a, b, q1, q2) = true)
    (kk : OK p l e0 R s m args below meth c Q D ad b0 sc A k ρ0 f') : OK p l e0 R s m args below meth c Q D ad b0 sc A k ρ0 (pc, L, st, G, cs, sl) := by
  unfold s1 at h
  dsimp only at h
  split at h
  · rename_i y x st'
    cases h
    intro ws tys H locs ls sst hc hs I hL hS hρ
    obtain ⟨⟨hx, hb, hml, hown, hts, hin⟩, hR, F⟩ := T
    dsimp only at hc hs I hL hS ⊢
    obtain ⟨y', sst, rfl, hy, hY⟩ := SR_J hS
    obtain ⟨x', sst, rfl, hxx, hZ⟩ := SR_J hY
    subst hy; subst hxx
    exact lv_lmul hx hb hd (kk ws tys H locs ls _ hc hs I hL ⟨am_mulL hP.1, hZ⟩ hρ)
  · cases h

theorem ok_ldiv {p : Program} {l : Launch} {e0 : Env} {R : Room} {s : State} {m : MethodId} {args : Array Value} {below : List Frame} {meth : Method} {c : Code} {Q : State → Prop} {D : va_G} {ad : Nat → Nat} {b0 : Nat} {sc : List Int} {A : Nat → Prop} {k : Nat} {ρ0 : List Nat}
    (T : CT p R s m args meth c k ad b0 sc A) {a b q1 q2 : Nat} {pc : Nat} {L : List (Option AV)} {st : List AV} {G : AG} {cs sl : Nat} {P : Option Prop} {f' : AF}
    (h : s1 k (.ldiv, a, b, q1, q2) (pc, L, st, G, cs, sl) = some (P, f')) (hP : cj P True)
    (hd : decode (mB k) pc = .ok (.ldiv, am_len pc (.ldiv))) (hn : am_lnk (mO k) pc (.ldiv, a, b, q1, q2) = true)
    (kk : OK p l e0 R s m args below meth c Q D ad b0 sc A k ρ0 f') : OK p l e0 R s m args below meth c Q D ad b0 sc A k ρ0 (pc, L, st, G, cs, sl) := by
  unfold s1 at h
  dsimp only at h
  split at h
  · rename_i y x st'
    cases h
    intro ws tys H locs ls sst hc hs I hL hS hρ
    obtain ⟨⟨hx, hb, hml, hown, hts, hin⟩, hR, F⟩ := T
    dsimp only at hc hs I hL hS ⊢
    obtain ⟨y', sst, rfl, hy, hY⟩ := SR_J hS
    obtain ⟨x', sst, rfl, hxx, hZ⟩ := SR_J hY
    subst hy; subst hxx
    exact lv_ldiv hx hb hd (am_ne0L hP.1.2) (kk ws tys H locs ls _ hc hs I hL ⟨am_divL hP.1.1 hP.1.2, hZ⟩ hρ)
  · cases h

theorem ok_lcmp {p : Program} {l : Launch} {e0 : Env} {R : Room} {s : State} {m : MethodId} {args : Array Value} {below : List Frame} {meth : Method} {c : Code} {Q : State → Prop} {D : va_G} {ad : Nat → Nat} {b0 : Nat} {sc : List Int} {A : Nat → Prop} {k : Nat} {ρ0 : List Nat}
    (T : CT p R s m args meth c k ad b0 sc A) {a b q1 q2 : Nat} {pc : Nat} {L : List (Option AV)} {st : List AV} {G : AG} {cs sl : Nat} {P : Option Prop} {f' : AF}
    (h : s1 k (.lcmp, a, b, q1, q2) (pc, L, st, G, cs, sl) = some (P, f')) (hP : cj P True)
    (hd : decode (mB k) pc = .ok (.lcmp, am_len pc (.lcmp))) (hn : am_lnk (mO k) pc (.lcmp, a, b, q1, q2) = true)
    (kk : OK p l e0 R s m args below meth c Q D ad b0 sc A k ρ0 f') : OK p l e0 R s m args below meth c Q D ad b0 sc A k ρ0 (pc, L, st, G, cs, sl) := by
  unfold s1 at h
  dsimp only at h
  split at h
  · rename_i y x st'
    cases h
    intro ws tys H locs ls sst hc hs I hL hS hρ
    obtain ⟨⟨hx, hb, hml, hown, hts, hin⟩, hR, F⟩ := T
    dsimp only at hc hs I hL hS ⊢
    obtain ⟨y', sst, rfl, hy, hY⟩ := SR_J hS
    obtain ⟨x', sst, rfl, hxx, hZ⟩ := SR_J hY
    subst hy; subst hxx
    exact W.lcmp hx hb hd (kk ws tys H locs ls _ hc hs I hL ⟨am_lcmp x' y', hZ⟩ hρ)
  · cases h

theorem ok_ineg {p : Program} {l : Launch} {e0 : Env} {R : Room} {s : State} {m : MethodId} {args : Array Value} {below : List Frame} {meth : Method} {c : Code} {Q : State → Prop} {D : va_G} {ad : Nat → Nat} {b0 : Nat} {sc : List Int} {A : Nat → Prop} {k : Nat} {ρ0 : List Nat}
    (T : CT p R s m args meth c k ad b0 sc A) {a b q1 q2 : Nat} {pc : Nat} {L : List (Option AV)} {st : List AV} {G : AG} {cs sl : Nat} {P : Option Prop} {f' : AF}
    (h : s1 k (.ineg, a, b, q1, q2) (pc, L, st, G, cs, sl) = some (P, f')) (hP : cj P True)
    (hd : decode (mB k) pc = .ok (.ineg, am_len pc (.ineg))) (hn : am_lnk (mO k) pc (.ineg, a, b, q1, q2) = true)
    (kk : OK p l e0 R s m args below meth c Q D ad b0 sc A k ρ0 f') : OK p l e0 R s m args below meth c Q D ad b0 sc A k ρ0 (pc, L, st, G, cs, sl) := by
  unfold s1 at h
  dsimp only at h
  split at h
  · rename_i x st'
    cases h
    intro ws tys H locs ls sst hc hs I hL hS hρ
    obtain ⟨⟨hx, hb, hml, hown, hts, hin⟩, hR, F⟩ := T
    dsimp only at hc hs I hL hS ⊢
    obtain ⟨x', sst, rfl, hxx, hZ⟩ := SR_I hS
    subst hxx
    exact lv_ineg hx hb hd (kk ws tys H locs ls _ hc hs I hL ⟨am_neg hP.1, hZ⟩ hρ)
  · cases h

theorem ok_i2l {p : Program} {l : Launch} {e0 : Env} {R : Room} {s : State} {m : MethodId} {args : Array Value} {below : List Frame} {meth : Method} {c : Code} {Q : State → Prop} {D : va_G} {ad : Nat → Nat} {b0 : Nat} {sc : List Int} {A : Nat → Prop} {k : Nat} {ρ0 : List Nat}
    (T : CT p R s m args meth c k ad b0 sc A) {a b q1 q2 : Nat} {pc : Nat} {L : List (Option AV)} {st : List AV} {G : AG} {cs sl : Nat} {P : Option Prop} {f' : AF}
    (h : s1 k (.i2l, a, b, q1, q2) (pc, L, st, G, cs, sl) = some (P, f')) (hP : cj P True)
    (hd : decode (mB k) pc = .ok (.i2l, am_len pc (.i2l))) (hn : am_lnk (mO k) pc (.i2l, a, b, q1, q2) = true)
    (kk : OK p l e0 R s m args below meth c Q D ad b0 sc A k ρ0 f') : OK p l e0 R s m args below meth c Q D ad b0 sc A k ρ0 (pc, L, st, G, cs, sl) := by
  unfold s1 at h
  dsimp only at h
  split at h
  · rename_i x st'
    cases h
    intro ws tys H locs ls sst hc hs I hL hS hρ
    obtain ⟨⟨hx, hb, hml, hown, hts, hin⟩, hR, F⟩ := T
    dsimp only at hc hs I hL hS ⊢
    obtain ⟨x', sst, rfl, hxx, hZ⟩ := SR_I hS
    subst hxx
    exact lv_i2l hx hb hd rfl (kk ws tys H locs ls _ hc hs I hL ⟨Int32.toInt_toInt64 x', hZ⟩ hρ)
  · cases h

theorem ok_l2i {p : Program} {l : Launch} {e0 : Env} {R : Room} {s : State} {m : MethodId} {args : Array Value} {below : List Frame} {meth : Method} {c : Code} {Q : State → Prop} {D : va_G} {ad : Nat → Nat} {b0 : Nat} {sc : List Int} {A : Nat → Prop} {k : Nat} {ρ0 : List Nat}
    (T : CT p R s m args meth c k ad b0 sc A) {a b q1 q2 : Nat} {pc : Nat} {L : List (Option AV)} {st : List AV} {G : AG} {cs sl : Nat} {P : Option Prop} {f' : AF}
    (h : s1 k (.l2i, a, b, q1, q2) (pc, L, st, G, cs, sl) = some (P, f')) (hP : cj P True)
    (hd : decode (mB k) pc = .ok (.l2i, am_len pc (.l2i))) (hn : am_lnk (mO k) pc (.l2i, a, b, q1, q2) = true)
    (kk : OK p l e0 R s m args below meth c Q D ad b0 sc A k ρ0 f') : OK p l e0 R s m args below meth c Q D ad b0 sc A k ρ0 (pc, L, st, G, cs, sl) := by
  unfold s1 at h
  dsimp only at h
  split at h
  · rename_i x st'
    cases h
    intro ws tys H locs ls sst hc hs I hL hS hρ
    obtain ⟨⟨hx, hb, hml, hown, hts, hin⟩, hR, F⟩ := T
    dsimp only at hc hs I hL hS ⊢
    obtain ⟨x', sst, rfl, hxx, hZ⟩ := SR_J hS
    subst hxx
    exact lv_l2i hx hb hd rfl (kk ws tys H locs ls _ hc hs I hL ⟨(by show x'.toInt32.toInt = _; rw [Int64.toInt_toInt32, am_bm hP.1]), hZ⟩ hρ)
  · cases h

theorem ok_iload {p : Program} {l : Launch} {e0 : Env} {R : Room} {s : State} {m : MethodId} {args : Array Value} {below : List Frame} {meth : Method} {c : Code} {Q : State → Prop} {D : va_G} {ad : Nat → Nat} {b0 : Nat} {sc : List Int} {A : Nat → Prop} {k : Nat} {ρ0 : List Nat}
    (T : CT p R s m args meth c k ad b0 sc A) {n : Nat} {a b q1 q2 : Nat} {pc : Nat} {L : List (Option AV)} {st : List AV} {G : AG} {cs sl : Nat} {P : Option Prop} {f' : AF}
    (h : s1 k (.iload n, a, b, q1, q2) (pc, L, st, G, cs, sl) = some (P, f')) (hP : cj P True)
    (hd : decode (mB k) pc = .ok (.iload n, am_len pc (.iload n))) (hn : am_lnk (mO k) pc (.iload n, a, b, q1, q2) = true)
    (kk : OK p l e0 R s m args below meth c Q D ad b0 sc A k ρ0 f') : OK p l e0 R s m args below meth c Q D ad b0 sc A k ρ0 (pc, L, st, G, cs, sl) := by
  unfold s1 at h
  dsimp only at h
  split at h
  · rename_i z hz
    cases h
    intro ws tys H locs ls sst hc hs I hL hS hρ
    obtain ⟨⟨hx, hb, hml, hown, hts, hin⟩, hR, F⟩ := T
    dsimp only at hc hs I hL hS ⊢
    rw [nth_eq] at hz
    obtain ⟨-, v, h1, h2⟩ := hL.2.2.2 _ _ hz
    obtain ⟨x, rfl, hxx⟩ := VR_I h2
    exact lv_iload hx hb hd h1 (kk ws tys H locs ls _ hc hs I hL ⟨hxx, hS⟩ hρ)
  · cases h

theorem ok_iload_n {p : Program} {l : Launch} {e0 : Env} {R : Room} {s : State} {m : MethodId} {args : Array Value} {below : List Frame} {meth : Method} {c : Code} {Q : State → Prop} {D : va_G} {ad : Nat → Nat} {b0 : Nat} {sc : List Int} {A : Nat → Prop} {k : Nat} {ρ0 : List Nat}
    (T : CT p R s m args meth c k ad b0 sc A) {n : Fin 4} {a b q1 q2 : Nat} {pc : Nat} {L : List (Option AV)} {st : List AV} {G : AG} {cs sl : Nat} {P : Option Prop} {f' : AF}
    (h : s1 k (.iload_n n, a, b, q1, q2) (pc, L, st, G, cs, sl) = some (P, f')) (hP : cj P True)
    (hd : decode (mB k) pc = .ok (.iload_n n, am_len pc (.iload_n n))) (hn : am_lnk (mO k) pc (.iload_n n, a, b, q1, q2) = true)
    (kk : OK p l e0 R s m args below meth c Q D ad b0 sc A k ρ0 f') : OK p l e0 R s m args below meth c Q D ad b0 sc A k ρ0 (pc, L, st, G, cs, sl) := by
  unfold s1 at h
  dsimp only at h
  split at h
  · rename_i z hz
    cases h
    intro ws tys H locs ls sst hc hs I hL hS hρ
    obtain ⟨⟨hx, hb, hml, hown, hts, hin⟩, hR, F⟩ := T
    dsimp only at hc hs I hL hS ⊢
    rw [nth_eq] at hz
    obtain ⟨-, v, h1, h2⟩ := hL.2.2.2 _ _ hz
    obtain ⟨x, rfl, hxx⟩ := VR_I h2
    exact lv_iload_n hx hb hd rfl h1 (kk ws tys H locs ls _ hc hs I hL ⟨hxx, hS⟩ hρ)
  · cases h

theorem ok_aload {p : Program} {l : Launch} {e0 : Env} {R : Room} {s : State} {m : MethodId} {args : Array Value} {below : List Frame} {meth : Method} {c : Code} {Q : State → Prop} {D : va_G} {ad : Nat → Nat} {b0 : Nat} {sc : List Int} {A : Nat → Prop} {k : Nat} {ρ0 : List Nat}
    (T : CT p R s m args meth c k ad b0 sc A) {n : Nat} {a b q1 q2 : Nat} {pc : Nat} {L : List (Option AV)} {st : List AV} {G : AG} {cs sl : Nat} {P : Option Prop} {f' : AF}
    (h : s1 k (.aload n, a, b, q1, q2) (pc, L, st, G, cs, sl) = some (P, f')) (hP : cj P True)
    (hd : decode (mB k) pc = .ok (.aload n, am_len pc (.aload n))) (hn : am_lnk (mO k) pc (.aload n, a, b, q1, q2) = true)
    (kk : OK p l e0 R s m args below meth c Q D ad b0 sc A k ρ0 f') : OK p l e0 R s m args below meth c Q D ad b0 sc A k ρ0 (pc, L, st, G, cs, sl) := by
  unfold s1 at h
  dsimp only at h
  split at h
  · rename_i o hz
    cases h
    intro ws tys H locs ls sst hc hs I hL hS hρ
    obtain ⟨⟨hx, hb, hml, hown, hts, hin⟩, hR, F⟩ := T
    dsimp only at hc hs I hL hS ⊢
    rw [nth_eq] at hz
    obtain ⟨-, v, h1, h2⟩ := hL.2.2.2 _ _ hz
    rcases o with _ | x
    · obtain rfl := VR_N h2
      exact lv_aloadN hx hb hd h1 (kk ws tys H locs ls _ hc hs I hL ⟨trivial, hS⟩ hρ)
    · obtain ⟨y, rfl, hy⟩ := VR_R h2
      exact lv_aload hx hb hd h1 (kk ws tys H locs ls _ hc hs I hL ⟨hy, hS⟩ hρ)
  · rename_i j hz
    cases h
    intro ws tys H locs ls sst hc hs I hL hS hρ
    obtain ⟨⟨hx, hb, hml, hown, hts, hin⟩, hR, F⟩ := T
    dsimp only at hc hs I hL hS ⊢
    rw [nth_eq] at hz
    obtain ⟨-, v, h1, h2⟩ := hL.2.2.2 _ _ hz
    obtain ⟨rfl, hj⟩ := VR_S h2
    exact lv_aload hx hb hd h1 (kk ws tys H locs ls _ hc hs I hL ⟨⟨hj, rfl⟩, hS⟩ hρ)
  · cases h

theorem ok_aload_n {p : Program} {l : Launch} {e0 : Env} {R : Room} {s : State} {m : MethodId} {args : Array Value} {below : List Frame} {meth : Method} {c : Code} {Q : State → Prop} {D : va_G} {ad : Nat → Nat} {b0 : Nat} {sc : List Int} {A : Nat → Prop} {k : Nat} {ρ0 : List Nat}
    (T : CT p R s m args meth c k ad b0 sc A) {n : Fin 4} {a b q1 q2 : Nat} {pc : Nat} {L : List (Option AV)} {st : List AV} {G : AG} {cs sl : Nat} {P : Option Prop} {f' : AF}
    (h : s1 k (.aload_n n, a, b, q1, q2) (pc, L, st, G, cs, sl) = some (P, f')) (hP : cj P True)
    (hd : decode (mB k) pc = .ok (.aload_n n, am_len pc (.aload_n n))) (hn : am_lnk (mO k) pc (.aload_n n, a, b, q1, q2) = true)
    (kk : OK p l e0 R s m args below meth c Q D ad b0 sc A k ρ0 f') : OK p l e0 R s m args below meth c Q D ad b0 sc A k ρ0 (pc, L, st, G, cs, sl) := by
  unfold s1 at h
  dsimp only at h
  split at h
  · rename_i o hz
    cases h
    intro ws tys H locs ls sst hc hs I hL hS hρ
    obtain ⟨⟨hx, hb, hml, hown, hts, hin⟩, hR, F⟩ := T
    dsimp only at hc hs I hL hS ⊢
    rw [nth_eq] at hz
    obtain ⟨-, v, h1, h2⟩ := hL.2.2.2 _ _ hz
    rcases o with _ | x
    · obtain rfl := VR_N h2
      exact lv_aload_nN hx hb hd rfl h1 (kk ws tys H locs ls _ hc hs I hL ⟨trivial, hS⟩ hρ)
    · obtain ⟨y, rfl, hy⟩ := VR_R h2
      exact lv_aload_n hx hb hd rfl h1 (kk ws tys H locs ls _ hc hs I hL ⟨hy, hS⟩ hρ)
  · rename_i j hz
    cases h
    intro ws tys H locs ls sst hc hs I hL hS hρ
    obtain ⟨⟨hx, hb, hml, hown, hts, hin⟩, hR, F⟩ := T
    dsimp only at hc hs I hL hS ⊢
    rw [nth_eq] at hz
    obtain ⟨-, v, h1, h2⟩ := hL.2.2.2 _ _ hz
    obtain ⟨rfl, hj⟩ := VR_S h2
    exact lv_aload_n hx hb hd rfl h1 (kk ws tys H locs ls _ hc hs I hL ⟨⟨hj, rfl⟩, hS⟩ hρ)
  · cases h

theorem ok_istore {p : Program} {l : Launch} {e0 : Env} {R : Room} {s : State} {m : MethodId} {args : Array Value} {below : List Frame} {meth : Method} {c : Code} {Q : State → Prop} {D : va_G} {ad : Nat → Nat} {b0 : Nat} {sc : List Int} {A : Nat → Prop} {k : Nat} {ρ0 : List Nat}
    (T : CT p R s m args meth c k ad b0 sc A) {n : Nat} {a b q1 q2 : Nat} {pc : Nat} {L : List (Option AV)} {st : List AV} {G : AG} {cs sl : Nat} {P : Option Prop} {f' : AF}
    (h : s1 k (.istore n, a, b, q1, q2) (pc, L, st, G, cs, sl) = some (P, f')) (hP : cj P True)
    (hd : decode (mB k) pc = .ok (.istore n, am_len pc (.istore n))) (hn : am_lnk (mO k) pc (.istore n, a, b, q1, q2) = true)
    (kk : OK p l e0 R s m args below meth c Q D ad b0 sc A k ρ0 f') : OK p l e0 R s m args below meth c Q D ad b0 sc A k ρ0 (pc, L, st, G, cs, sl) := by
  unfold s1 at h
  dsimp only at h
  split at h
  · rename_i z st' o hz
    split at h
    · cases h
    · rename_i hjj
      cases h
      intro ws tys H locs ls sst hc hs I hL hS hρ
      obtain ⟨⟨hx, hb, hml, hown, hts, hin⟩, hR, F⟩ := T
      dsimp only at hc hs I hL hS ⊢
      obtain ⟨x, sst, rfl, hxx, hS⟩ := SR_I hS
      exact lv_istore hx hb hd hL.has (hL.lt hz) rfl (fun ls' hl' => kk ws tys H locs ls' _ hc hs I (by rw [upl_eq]; exact hL.put (v := .int x) (a := vI z) hxx rfl hjj hl') hS hρ)
  · cases h

theorem ok_istore_n {p : Program} {l : Launch} {e0 : Env} {R : Room} {s : State} {m : MethodId} {args : Array Value} {below : List Frame} {meth : Method} {c : Code} {Q : State → Prop} {D : va_G} {ad : Nat → Nat} {b0 : Nat} {sc : List Int} {A : Nat → Prop} {k : Nat} {ρ0 : List Nat}
    (T : CT p R s m args meth c k ad b0 sc A) {n : Fin 4} {a b q1 q2 : Nat} {pc : Nat} {L : List (Option AV)} {st : List AV} {G : AG} {cs sl : Nat} {P : Option Prop} {f' : AF}
    (h : s1 k (.istore_n n, a, b, q1, q2) (pc, L, st, G, cs, sl) = some (P, f')) (hP : cj P True)
    (hd : decode (mB k) pc = .ok (.istore_n n, am_len pc (.istore_n n))) (hn : am_lnk (mO k) pc (.istore_n n, a, b, q1, q2) = true)
    (kk : OK p l e0 R s m args below meth c Q D ad b0 sc A k ρ0 f') : OK p l e0 R s m args below meth c Q D ad b0 sc A k ρ0 (pc, L, st, G, cs, sl) := by
  unfold s1 at h
  dsimp only at h
  split at h
  · rename_i z st' o hz
    split at h
    · cases h
    · rename_i hjj
      cases h
      intro ws tys H locs ls sst hc hs I hL hS hρ
      obtain ⟨⟨hx, hb, hml, hown, hts, hin⟩, hR, F⟩ := T
      dsimp only at hc hs I hL hS ⊢
      obtain ⟨x, sst, rfl, hxx, hS⟩ := SR_I hS
      exact lv_istore_n hx hb hd rfl hL.has (hL.lt hz) rfl (fun ls' hl' => kk ws tys H locs ls' _ hc hs I (by rw [upl_eq]; exact hL.put (v := .int x) (a := vI z) hxx rfl hjj hl') hS hρ)
  · cases h

theorem ok_astore {p : Program} {l : Launch} {e0 : Env} {R : Room} {s : State} {m : MethodId} {args : Array Value} {below : List Frame} {meth : Method} {c : Code} {Q : State → Prop} {D : va_G} {ad : Nat → Nat} {b0 : Nat} {sc : List Int} {A : Nat → Prop} {k : Nat} {ρ0 : List Nat}
    (T : CT p R s m args meth c k ad b0 sc A) {n : Nat} {a b q1 q2 : Nat} {pc : Nat} {L : List (Option AV)} {st : List AV} {G : AG} {cs sl : Nat} {P : Option Prop} {f' : AF}
    (h : s1 k (.astore n, a, b, q1, q2) (pc, L, st, G, cs, sl) = some (P, f')) (hP : cj P True)
    (hd : decode (mB k) pc = .ok (.astore n, am_len pc (.astore n))) (hn : am_lnk (mO k) pc (.astore n, a, b, q1, q2) = true)
    (kk : OK p l e0 R s m args below meth c Q D ad b0 sc A k ρ0 f') : OK p l e0 R s m args below meth c Q D ad b0 sc A k ρ0 (pc, L, st, G, cs, sl) := by
  unfold s1 at h
  dsimp only at h
  split at h
  · rename_i o st' _ hz
    split at h
    · cases h
    · rename_i hjj
      cases h
      intro ws tys H locs ls sst hc hs I hL hS hρ
      obtain ⟨⟨hx, hb, hml, hown, hts, hin⟩, hR, F⟩ := T
      dsimp only at hc hs I hL hS ⊢
      rcases o with _ | x
      · obtain ⟨sst, rfl, hZ⟩ := SR_N hS
        exact lv_astoreN hx hb hd hL.has (hL.lt hz) rfl (fun ls' hl' => kk ws tys H locs ls' _ hc hs I (by rw [upl_eq]; exact hL.put (v := .null) (a := vN) trivial rfl hjj hl') hZ hρ)
      · obtain ⟨y, sst, rfl, hy, hZ⟩ := SR_R hS
        exact lv_astore hx hb hd hL.has (hL.lt hz) rfl (fun ls' hl' => kk ws tys H locs ls' _ hc hs I (by rw [upl_eq]; exact hL.put (v := .ref y) (a := vR x) hy rfl hjj hl') hZ hρ)
  · cases h

theorem ok_astore_n {p : Program} {l : Launch} {e0 : Env} {R : Room} {s : State} {m : MethodId} {args : Array Value} {below : List Frame} {meth : Method} {c : Code} {Q : State → Prop} {D : va_G} {ad : Nat → Nat} {b0 : Nat} {sc : List Int} {A : Nat → Prop} {k : Nat} {ρ0 : List Nat}
    (T : CT p R s m args meth c k ad b0 sc A) {n : Fin 4} {a b q1 q2 : Nat} {pc : Nat} {L : List (Option AV)} {st : List AV} {G : AG} {cs sl : Nat} {P : Option Prop} {f' : AF}
    (h : s1 k (.astore_n n, a, b, q1, q2) (pc, L, st, G, cs, sl) = some (P, f')) (hP : cj P True)
    (hd : decode (mB k) pc = .ok (.astore_n n, am_len pc (.astore_n n))) (hn : am_lnk (mO k) pc (.astore_n n, a, b, q1, q2) = true)
    (kk : OK p l e0 R s m args below meth c Q D ad b0 sc A k ρ0 f') : OK p l e0 R s m args below meth c Q D ad b0 sc A k ρ0 (pc, L, st, G, cs, sl) := by
  unfold s1 at h
  dsimp only at h
  split at h
  · rename_i o st' _ hz
    split at h
    · cases h
    · rename_i hjj
      cases h
      intro ws tys H locs ls sst hc hs I hL hS hρ
      obtain ⟨⟨hx, hb, hml, hown, hts, hin⟩, hR, F⟩ := T
      dsimp only at hc hs I hL hS ⊢
      rcases o with _ | x
      · obtain ⟨sst, rfl, hZ⟩ := SR_N hS
        exact lv_astore_nN hx hb hd rfl hL.has (hL.lt hz) rfl (fun ls' hl' => kk ws tys H locs ls' _ hc hs I (by rw [upl_eq]; exact hL.put (v := .null) (a := vN) trivial rfl hjj hl') hZ hρ)
      · obtain ⟨y, sst, rfl, hy, hZ⟩ := SR_R hS
        exact lv_astore_n hx hb hd rfl hL.has (hL.lt hz) rfl (fun ls' hl' => kk ws tys H locs ls' _ hc hs I (by rw [upl_eq]; exact hL.put (v := .ref y) (a := vR x) hy rfl hjj hl') hZ hρ)
  · cases h

theorem ok_iinc {p : Program} {l : Launch} {e0 : Env} {R : Room} {s : State} {m : MethodId} {args : Array Value} {below : List Frame} {meth : Method} {c : Code} {Q : State → Prop} {D : va_G} {ad : Nat → Nat} {b0 : Nat} {sc : List Int} {A : Nat → Prop} {k : Nat} {ρ0 : List Nat}
    (T : CT p R s m args meth c k ad b0 sc A) {n : Nat} {d : Int} {a b q1 q2 : Nat} {pc : Nat} {L : List (Option AV)} {st : List AV} {G : AG} {cs sl : Nat} {P : Option Prop} {f' : AF}
    (h : s1 k (.iinc n d, a, b, q1, q2) (pc, L, st, G, cs, sl) = some (P, f')) (hP : cj P True)
    (hd : decode (mB k) pc = .ok (.iinc n d, am_len pc (.iinc n d))) (hn : am_lnk (mO k) pc (.iinc n d, a, b, q1, q2) = true)
    (kk : OK p l e0 R s m args below meth c Q D ad b0 sc A k ρ0 f') : OK p l e0 R s m args below meth c Q D ad b0 sc A k ρ0 (pc, L, st, G, cs, sl) := by
  unfold s1 at h
  dsimp only at h
  split at h
  · rename_i z hz
    cases h
    intro ws tys H locs ls sst hc hs I hL hS hρ
    obtain ⟨⟨hx, hb, hml, hown, hts, hin⟩, hR, F⟩ := T
    dsimp only at hc hs I hL hS ⊢
    have hz' := hz
    rw [nth_eq] at hz'
    obtain ⟨-, v, h1, h2⟩ := hL.2.2.2 _ _ hz'
    obtain ⟨x, rfl, hxx⟩ := VR_I h2
    subst hxx
    obtain ⟨kx, hk⟩ := List.getElem?_of_mem (lvAll_mem.mpr h1)
    have e1 : (Int32.ofInt d).toInt = d := am_o32 hn
    exact lv_iinc hx hb hd hL.has hk rfl (hL.lt hz) rfl (fun ls' hl' => kk ws tys H locs ls' _ hc hs I (by rw [upl_eq]; exact hL.put (v := .int (x + Int32.ofInt d)) (a := vI (x.toInt + d)) (show (x + Int32.ofInt d).toInt = x.toInt + d by rw [am_add (by rw [e1]; exact hP.1), e1]) rfl (by rw [hL.noJ hz rfl, Bool.and_false]) hl') hS hρ)
  · cases h

theorem ok_lload {p : Program} {l : Launch} {e0 : Env} {R : Room} {s : State} {m : MethodId} {args : Array Value} {below : List Frame} {meth : Method} {c : Code} {Q : State → Prop} {D : va_G} {ad : Nat → Nat} {b0 : Nat} {sc : List Int} {A : Nat → Prop} {k : Nat} {ρ0 : List Nat}
    (T : CT p R s m args meth c k ad b0 sc A) {n : Nat} {a b q1 q2 : Nat} {pc : Nat} {L : List (Option AV)} {st : List AV} {G : AG} {cs sl : Nat} {P : Option Prop} {f' : AF}
    (h : s1 k (.lload n, a, b, q1, q2) (pc, L, st, G, cs, sl) = some (P, f')) (hP : cj P True)
    (hd : decode (mB k) pc = .ok (.lload n, am_len pc (.lload n))) (hn : am_lnk (mO k) pc (.lload n, a, b, q1, q2) = true)
    (kk : OK p l e0 R s m args below meth c Q D ad b0 sc A k ρ0 f') : OK p l e0 R s m args below meth c Q D ad b0 sc A k ρ0 (pc, L, st, G, cs, sl) := by
  unfold s1 at h
  dsimp only at h
  split at h
  · rename_i z hz
    cases h
    intro ws tys H locs ls sst hc hs I hL hS hρ
    obtain ⟨⟨hx, hb, hml, hown, hts, hin⟩, hR, F⟩ := T
    dsimp only at hc hs I hL hS ⊢
    rw [nth_eq] at hz
    obtain ⟨-, v, h1, h2⟩ := hL.2.2.2 _ _ hz
    obtain ⟨x, rfl, hxx⟩ := VR_J h2
    exact lv_lload hx hb hd h1 (kk ws tys H locs ls _ hc hs I hL ⟨hxx, hS⟩ hρ)
  · cases h

theorem ok_lload_n {p : Program} {l : Launch} {e0 : Env} {R : Room} {s : State} {m : MethodId} {args : Array Value} {below : List Frame} {meth : Method} {c : Code} {Q : State → Prop} {D : va_G} {ad : Nat → Nat} {b0 : Nat} {sc : List Int} {A : Nat → Prop} {k : Nat} {ρ0 : List Nat}
    (T : CT p R s m args meth c k ad b0 sc A) {n : Fin 4} {a b q1 q2 : Nat} {pc : Nat} {L : List (Option AV)} {st : List AV} {G : AG} {cs sl : Nat} {P : Option Prop} {f' : AF}
    (h : s1 k (.lload_n n, a, b, q1, q2) (pc, L, st, G, cs, sl) = some (P, f')) (hP : cj P True)
    (hd : decode (mB k) pc = .ok (.lload_n n, am_len pc (.lload_n n))) (hn : am_lnk (mO k) pc (.lload_n n, a, b, q1, q2) = true)
    (kk : OK p l e0 R s m args below meth c Q D ad b0 sc A k ρ0 f') : OK p l e0 R s m args below meth c Q D ad b0 sc A k ρ0 (pc, L, st, G, cs, sl) := by
  unfold s1 at h
  dsimp only at h
  split at h
  · rename_i z hz
    cases h
    intro ws tys H locs ls sst hc hs I hL hS hρ
    obtain ⟨⟨hx, hb, hml, hown, hts, hin⟩, hR, F⟩ := T
    dsimp only at hc hs I hL hS ⊢
    rw [nth_eq] at hz
    obtain ⟨-, v, h1, h2⟩ := hL.2.2.2 _ _ hz
    obtain ⟨x, rfl, hxx⟩ := VR_J h2
    exact lv_lload_n hx hb hd rfl h1 (kk ws tys H locs ls _ hc hs I hL ⟨hxx, hS⟩ hρ)
  · cases h

theorem ok_lstore {p : Program} {l : Launch} {e0 : Env} {R : Room} {s : State} {m : MethodId} {args : Array Value} {below : List Frame} {meth : Method} {c : Code} {Q : State → Prop} {D : va_G} {ad : Nat → Nat} {b0 : Nat} {sc : List Int} {A : Nat → Prop} {k : Nat} {ρ0 : List Nat}
    (T : CT p R s m args meth c k ad b0 sc A) {n : Nat} {a b q1 q2 : Nat} {pc : Nat} {L : List (Option AV)} {st : List AV} {G : AG} {cs sl : Nat} {P : Option Prop} {f' : AF}
    (h : s1 k (.lstore n, a, b, q1, q2) (pc, L, st, G, cs, sl) = some (P, f')) (hP : cj P True)
    (hd : decode (mB k) pc = .ok (.lstore n, am_len pc (.lstore n))) (hn : am_lnk (mO k) pc (.lstore n, a, b, q1, q2) = true)
    (kk : OK p l e0 R s m args below meth c Q D ad b0 sc A k ρ0 f') : OK p l e0 R s m args below meth c Q D ad b0 sc A k ρ0 (pc, L, st, G, cs, sl) := by
  unfold s1 at h
  dsimp only at h
  split at h
  · rename_i z st' o hz
    split at h
    · rename_i hjj
      simp only [Bool.and_eq_true, Bool.not_eq_true'] at hjj
      cases h
      intro ws tys H locs ls sst hc hs I hL hS hρ
      obtain ⟨⟨hx, hb, hml, hown, hts, hin⟩, hR, F⟩ := T
      dsimp only at hc hs I hL hS ⊢
      obtain ⟨x, sst, rfl, hxx, hS⟩ := SR_J hS
      exact lv_lstore hx hb hd hL.has (hL.lt hz) rfl (fun ls' hl' => kk ws tys H locs ls' _ hc hs I (by rw [upl_eq, upl_eq]; exact hL.put2 hjj.1 (v := .long x) (a := vJ z) hxx hjj.2 hl') hS hρ)
    · cases h
  · cases h

theorem ok_lstore_n {p : Program} {l : Launch} {e0 : Env} {R : Room} {s : State} {m : MethodId} {args : Array Value} {below : List Frame} {meth : Method} {c : Code} {Q : State → Prop} {D : va_G} {ad : Nat → Nat} {b0 : Nat} {sc : List Int} {A : Nat → Prop} {k : Nat} {ρ0 : List Nat}
    (T : CT p R s m args meth c k ad b0 sc A) {n : Fin 4} {a b q1 q2 : Nat} {pc : Nat} {L : List (Option AV)} {st : List AV} {G : AG} {cs sl : Nat} {P : Option Prop} {f' : AF}
    (h : s1 k (.lstore_n n, a, b, q1, q2) (pc, L, st, G, cs, sl) = some (P, f')) (hP : cj P True)
    (hd : decode (mB k) pc = .ok (.lstore_n n, am_len pc (.lstore_n n))) (hn : am_lnk (mO k) pc (.lstore_n n, a, b, q1, q2) = true)
    (kk : OK p l e0 R s m args below meth c Q D ad b0 sc A k ρ0 f') : OK p l e0 R s m args below meth c Q D ad b0 sc A k ρ0 (pc, L, st, G, cs, sl) := by
  unfold s1 at h
  dsimp only at h
  split at h
  · rename_i z st' o hz
    split at h
    · rename_i hjj
      simp only [Bool.and_eq_true, Bool.not_eq_true'] at hjj
      cases h
      intro ws tys H locs ls sst hc hs I hL hS hρ
      obtain ⟨⟨hx, hb, hml, hown, hts, hin⟩, hR, F⟩ := T
      dsimp only at hc hs I hL hS ⊢
      obtain ⟨x, sst, rfl, hxx, hS⟩ := SR_J hS
      exact lv_lstore_n hx hb hd rfl hL.has (hL.lt hz) rfl (fun ls' hl' => kk ws tys H locs ls' _ hc hs I (by rw [upl_eq, upl_eq]; exact hL.put2 hjj.1 (v := .long x) (a := vJ z) hxx hjj.2 hl') hS hρ)
    · cases h
  · cases h

theorem ok_dup {p : Program} {l : Launch} {e0 : Env} {R : Room} {s : State} {m : MethodId} {args : Array Value} {below : List Frame} {meth : Method} {c : Code} {Q : State → Prop} {D : va_G} {ad : Nat → Nat} {b0 : Nat} {sc : List Int} {A : Nat → Prop} {k : Nat} {ρ0 : List Nat}
    (T : CT p R s m args meth c k ad b0 sc A) {a b q1 q2 : Nat} {pc : Nat} {L : List (Option AV)} {st : List AV} {G : AG} {cs sl : Nat} {P : Option Prop} {f' : AF}
    (h : s1 k (.dup, a, b, q1, q2) (pc, L, st, G, cs, sl) = some (P, f')) (hP : cj P True)
    (hd : decode (mB k) pc = .ok (.dup, am_len pc (.dup))) (hn : am_lnk (mO k) pc (.dup, a, b, q1, q2) = true)
    (kk : OK p l e0 R s m args below meth c Q D ad b0 sc A k ρ0 f') : OK p l e0 R s m args below meth c Q D ad b0 sc A k ρ0 (pc, L, st, G, cs, sl) := by
  unfold s1 at h
  dsimp only at h
  split at h
  · rename_i o st'
    cases h
    intro ws tys H locs ls sst hc hs I hL hS hρ
    obtain ⟨⟨hx, hb, hml, hown, hts, hin⟩, hR, F⟩ := T
    dsimp only at hc hs I hL hS ⊢
    obtain ⟨v, sst, rfl, h1, hS⟩ := SR_cons hS
    exact lv_dup hx hb hd (by rw [VR_cat h1]; rfl) (kk ws tys H locs ls _ hc hs I hL ⟨h1, h1, hS⟩ hρ)
  · rename_i z st'
    cases h
    intro ws tys H locs ls sst hc hs I hL hS hρ
    obtain ⟨⟨hx, hb, hml, hown, hts, hin⟩, hR, F⟩ := T
    dsimp only at hc hs I hL hS ⊢
    obtain ⟨v, sst, rfl, h1, hS⟩ := SR_cons hS
    exact lv_dup hx hb hd (by rw [VR_cat h1]; rfl) (kk ws tys H locs ls _ hc hs I hL ⟨h1, h1, hS⟩ hρ)
  · cases h

theorem ok_dup2 {p : Program} {l : Launch} {e0 : Env} {R : Room} {s : State} {m : MethodId} {args : Array Value} {below : List Frame} {meth : Method} {c : Code} {Q : State → Prop} {D : va_G} {ad : Nat → Nat} {b0 : Nat} {sc : List Int} {A : Nat → Prop} {k : Nat} {ρ0 : List Nat}
    (T : CT p R s m args meth c k ad b0 sc A) {a b q1 q2 : Nat} {pc : Nat} {L : List (Option AV)} {st : List AV} {G : AG} {cs sl : Nat} {P : Option Prop} {f' : AF}
    (h : s1 k (.dup2, a, b, q1, q2) (pc, L, st, G, cs, sl) = some (P, f')) (hP : cj P True)
    (hd : decode (mB k) pc = .ok (.dup2, am_len pc (.dup2))) (hn : am_lnk (mO k) pc (.dup2, a, b, q1, q2) = true)
    (kk : OK p l e0 R s m args below meth c Q D ad b0 sc A k ρ0 f') : OK p l e0 R s m args below meth c Q D ad b0 sc A k ρ0 (pc, L, st, G, cs, sl) := by
  unfold s1 at h
  dsimp only at h
  split at h
  · rename_i z o st'
    cases h
    intro ws tys H locs ls sst hc hs I hL hS hρ
    obtain ⟨⟨hx, hb, hml, hown, hts, hin⟩, hR, F⟩ := T
    dsimp only at hc hs I hL hS ⊢
    obtain ⟨v, sst, rfl, h1, hS⟩ := SR_cons hS
    obtain ⟨w, sst, rfl, h2, hS⟩ := SR_cons hS
    exact lv_dup2_11 hx hb hd (by rw [VR_cat h1]; rfl) (by rw [VR_cat h2]; rfl) (kk ws tys H locs ls _ hc hs I hL ⟨h1, h2, h1, h2, hS⟩ hρ)
  · cases h

theorem ok_pop {p : Program} {l : Launch} {e0 : Env} {R : Room} {s : State} {m : MethodId} {args : Array Value} {below : List Frame} {meth : Method} {c : Code} {Q : State → Prop} {D : va_G} {ad : Nat → Nat} {b0 : Nat} {sc : List Int} {A : Nat → Prop} {k : Nat} {ρ0 : List Nat}
    (T : CT p R s m args meth c k ad b0 sc A) {a b q1 q2 : Nat} {pc : Nat} {L : List (Option AV)} {st : List AV} {G : AG} {cs sl : Nat} {P : Option Prop} {f' : AF}
    (h : s1 k (.pop, a, b, q1, q2) (pc, L, st, G, cs, sl) = some (P, f')) (hP : cj P True)
    (hd : decode (mB k) pc = .ok (.pop, am_len pc (.pop))) (hn : am_lnk (mO k) pc (.pop, a, b, q1, q2) = true)
    (kk : OK p l e0 R s m args below meth c Q D ad b0 sc A k ρ0 f') : OK p l e0 R s m args below meth c Q D ad b0 sc A k ρ0 (pc, L, st, G, cs, sl) := by
  unfold s1 at h
  dsimp only at h
  split at h
  · rename_i z st'
    cases h
    intro ws tys H locs ls sst hc hs I hL hS hρ
    obtain ⟨⟨hx, hb, hml, hown, hts, hin⟩, hR, F⟩ := T
    dsimp only at hc hs I hL hS ⊢
    obtain ⟨v, sst, rfl, h1, hS⟩ := SR_cons hS
    exact lv_pop hx hb hd (by rw [VR_cat h1]; rfl) (kk ws tys H locs ls _ hc hs I hL hS hρ)
  · rename_i z st'
    cases h
    intro ws tys H locs ls sst hc hs I hL hS hρ
    obtain ⟨⟨hx, hb, hml, hown, hts, hin⟩, hR, F⟩ := T
    dsimp only at hc hs I hL hS ⊢
    obtain ⟨v, sst, rfl, h1, hS⟩ := SR_cons hS
    exact lv_pop hx hb hd (by rw [VR_cat h1]; rfl) (kk ws tys H locs ls _ hc hs I hL hS hρ)
  · cases h

theorem ok_ifnull {p : Program} {l : Launch} {e0 : Env} {R : Room} {s : State} {m : MethodId} {args : Array Value} {below : List Frame} {meth : Method} {c : Code} {Q : State → Prop} {D : va_G} {ad : Nat → Nat} {b0 : Nat} {sc : List Int} {A : Nat → Prop} {k : Nat} {ρ0 : List Nat}
    (T : CT p R s m args meth c k ad b0 sc A) {off : Int} {a b q1 q2 : Nat} {pc : Nat} {L : List (Option AV)} {st : List AV} {G : AG} {cs sl : Nat} {P : Option Prop} {f' : AF}
    (h : s1 k (.ifnull off, a, b, q1, q2) (pc, L, st, G, cs, sl) = some (P, f')) (hP : cj P True)
    (hd : decode (mB k) pc = .ok (.ifnull off, am_len pc (.ifnull off))) (hn : am_lnk (mO k) pc (.ifnull off, a, b, q1, q2) = true)
    (kk : OK p l e0 R s m args below meth c Q D ad b0 sc A k ρ0 f') : OK p l e0 R s m args below meth c Q D ad b0 sc A k ρ0 (pc, L, st, G, cs, sl) := by
  unfold s1 at h
  dsimp only at h
  split at h
  · rename_i st'
    cases h
    intro ws tys H locs ls sst hc hs I hL hS hρ
    obtain ⟨⟨hx, hb, hml, hown, hts, hin⟩, hR, F⟩ := T
    dsimp only at hc hs I hL hS ⊢
    obtain ⟨sst, rfl, hZ⟩ := SR_N hS
    exact lv_ifnullN hx hb hd (am_tgt hn) (kk ws tys H locs ls _ hc hs I hL hZ hρ)
  · rename_i y0 st'
    cases h
    intro ws tys H locs ls sst hc hs I hL hS hρ
    obtain ⟨⟨hx, hb, hml, hown, hts, hin⟩, hR, F⟩ := T
    dsimp only at hc hs I hL hS ⊢
    obtain ⟨y, sst, rfl, hy, hZ⟩ := SR_R hS
    exact lv_ifnull hx hb hd (kk ws tys H locs ls _ hc hs I hL hZ hρ)
  · cases h

theorem ok_ifnonnull {p : Program} {l : Launch} {e0 : Env} {R : Room} {s : State} {m : MethodId} {args : Array Value} {below : List Frame} {meth : Method} {c : Code} {Q : State → Prop} {D : va_G} {ad : Nat → Nat} {b0 : Nat} {sc : List Int} {A : Nat → Prop} {k : Nat} {ρ0 : List Nat}
    (T : CT p R s m args meth c k ad b0 sc A) {off : Int} {a b q1 q2 : Nat} {pc : Nat} {L : List (Option AV)} {st : List AV} {G : AG} {cs sl : Nat} {P : Option Prop} {f' : AF}
    (h : s1 k (.ifnonnull off, a, b, q1, q2) (pc, L, st, G, cs, sl) = some (P, f')) (hP : cj P True)
    (hd : decode (mB k) pc = .ok (.ifnonnull off, am_len pc (.ifnonnull off))) (hn : am_lnk (mO k) pc (.ifnonnull off, a, b, q1, q2) = true)
    (kk : OK p l e0 R s m args below meth c Q D ad b0 sc A k ρ0 f') : OK p l e0 R s m args below meth c Q D ad b0 sc A k ρ0 (pc, L, st, G, cs, sl) := by
  unfold s1 at h
  dsimp only at h
  split at h
  · rename_i st'
    cases h
    intro ws tys H locs ls sst hc hs I hL hS hρ
    obtain ⟨⟨hx, hb, hml, hown, hts, hin⟩, hR, F⟩ := T
    dsimp only at hc hs I hL hS ⊢
    obtain ⟨sst, rfl, hZ⟩ := SR_N hS
    exact lv_ifnonnullN hx hb hd (kk ws tys H locs ls _ hc hs I hL hZ hρ)
  · rename_i y0 st'
    cases h
    intro ws tys H locs ls sst hc hs I hL hS hρ
    obtain ⟨⟨hx, hb, hml, hown, hts, hin⟩, hR, F⟩ := T
    dsimp only at hc hs I hL hS ⊢
    obtain ⟨y, sst, rfl, hy, hZ⟩ := SR_R hS
    exact lv_ifnonnull hx hb hd (am_tgt hn) (kk ws tys H locs ls _ hc hs I hL hZ hρ)
  · cases h
