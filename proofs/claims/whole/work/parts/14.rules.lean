/-! the abstract machine's rules -/
theorem run_up : ∀ (n k : Nat) (f : AF) (r : Option AV) (G' : AG), run n k f r G' → run (n + 1) k f r G' := by
  intro n
  induction n with
  | zero =>
    intro k f r G' h
    exact absurd h id
  | succ n ih =>
    intro k f r G' h
    obtain ⟨pc, L, st, G, cs, sl⟩ := f
    unfold run at h ⊢
    dsimp only at h ⊢
    cases hcode : mCode k pc with
    | none =>
      rw [hcode] at h
      exact h.elim
    | some e =>
      rw [hcode] at h
      dsimp only at h ⊢
      cases hs1 : s1 k e (pc, L, st, G, cs, sl) with
      | some pf =>
        rw [hs1] at h
        obtain ⟨P, f'⟩ := pf
        cases P with
        | none => exact ih _ _ _ _ h
        | some P => exact ⟨h.1, ih _ _ _ _ h.2⟩
      | none =>
        rw [hs1] at h
        obtain ⟨i, a, j, p0, na⟩ := e
        dsimp only at h ⊢
        cases i with
        | ifCond cnd off =>
          dsimp only at h ⊢
          split at h
          · exact h.elim (fun q => Or.inl ⟨q.1, ih _ _ _ _ q.2⟩) (fun q => Or.inr ⟨q.1, ih _ _ _ _ q.2⟩)
          · exact h.elim
        | if_icmp cnd off =>
          dsimp only at h ⊢
          split at h
          · exact h.elim (fun q => Or.inl ⟨q.1, ih _ _ _ _ q.2⟩) (fun q => Or.inr ⟨q.1, ih _ _ _ _ q.2⟩)
          · exact h.elim
        | tableswitch d lo hi offs =>
          dsimp only at h ⊢
          split at h
          · exact h.elim (fun q => Or.inl ⟨q.1, ih _ _ _ _ q.2⟩) (fun ⟨o, q1, q2, q3⟩ => Or.inr ⟨o, q1, q2, ih _ _ _ _ q3⟩)
          · exact h.elim
        | invokevirtual n0 =>
          obtain ⟨h1, r1, G1, h2, h3⟩ := h
          exact ⟨h1, r1, G1, ih _ _ _ _ h2, ih _ _ _ _ h3⟩
        | invokestatic n0 =>
          obtain ⟨h1, r1, G1, h2, h3⟩ := h
          exact ⟨h1, r1, G1, ih _ _ _ _ h2, ih _ _ _ _ h3⟩
        | invokespecial n0 =>
          obtain ⟨h1, r1, G1, h2, h3⟩ := h
          exact ⟨h1, r1, G1, ih _ _ _ _ h2, ih _ _ _ _ h3⟩
        | _ => exact h
theorem run_add {n k : Nat} {f : AF} {r : Option AV} {G' : AG} (h : run n k f r G') : ∀ m, run (n + m) k f r G'
  | 0 => h
  | m + 1 => run_up _ _ _ _ _ (run_add h m)
theorem run_le {n m k : Nat} {f : AF} {r : Option AV} {G' : AG} (h : run n k f r G') (hm : n ≤ m) : run m k f r G' := by
  have := run_add h (m - n)
  rwa [show n + (m - n) = m by omega] at this
/-- some instructions, one after the other: what they want, and the frame behind them -/
def sN (cd : Nat → Option AI) (k : Nat) : Nat → AF → Option (Prop × AF)
  | 0, f => some (True, f)
  | n + 1, f => match cd f.1 with
    | none => none
    | some e => match s1 k e f with
      | none => none
      | some (P, f') => match sN cd k n f' with
        | none => none
        | some (Q, f'') => some (cj P Q, f'')
theorem sN_run {cd : Nat → Option AI} {k : Nat} (hcd : mCode k = cd) : ∀ (j : Nat) (f : AF) (P : Prop) (f' : AF), sN cd k j f = some (P, f') → P → ∀ (n : Nat) (r : Option AV) (G' : AG), run n k f' r G' → run (n + j) k f r G' := by
  intro j
  induction j with
  | zero =>
    intro f P f' h hP n r G' hr
    cases h
    exact hr
  | succ j ih =>
    intro f P f' h hP n r G' hr
    unfold sN at h
    cases hc : cd f.1 with
    | none => rw [hc] at h; cases h
    | some e =>
      rw [hc] at h
      dsimp only at h
      cases hs : s1 k e f with
      | none => rw [hs] at h; cases h
      | some pf =>
        obtain ⟨P1, f1⟩ := pf
        rw [hs] at h
        dsimp only at h
        cases hn : sN cd k j f1 with
        | none => rw [hn] at h; cases h
        | some qf =>
          obtain ⟨Q, f2⟩ := qf
          rw [hn] at h
          cases h
          have h2 := (cj_split hP).2
          have h1 := (cj_split hP).1
          have h3 := ih f1 Q f' hn h2 n r G' hr
          show run (n + j + 1) k f r G'
          unfold run
          rw [hcd, hc]
          dsimp only
          rw [hs]
          cases P1 with
          | none => exact h3
          | some P1 => exact ⟨h1.1, h3⟩
def R (k : Nat) (f : AF) (post : Option AV → AG → Prop) : Prop := ∃ (n : Nat) (r : Option AV) (G' : AG), run n k f r G' ∧ post r G'
theorem R_mono {k : Nat} {f : AF} {post post' : Option AV → AG → Prop} (h : R k f post) (hp : ∀ r G, post r G → post' r G) : R k f post' := by
  obtain ⟨n, r, G', h1, h2⟩ := h
  exact ⟨n, r, G', h1, hp _ _ h2⟩
theorem R_s {k : Nat} {cd : Nat → Option AI} {f f' : AF} {P : Prop} {post : Option AV → AG → Prop} (hcd : mCode k = cd) (j : Nat) (h : sN cd k j f = some (P, f')) (hP : P) (hR : R k f' post) : R k f post := by
  obtain ⟨n, r, G', h1, h2⟩ := hR
  exact ⟨n + j, r, G', sN_run hcd j f P f' h hP n r G' h1, h2⟩
theorem R_if {k : Nat} {cd : Nat → Option AI} {pc t : Nat} {c : ClassFile.Cond} {off : Int} {q : Nat × Nat × Nat × Nat} {L : List (Option AV)} {x : Int} {st : List AV} {G : AG} {cs sl : Nat} {post : Option AV → AG → Prop} (hcd : mCode k = cd) (h : cd pc = some (.ifCond c off, q)) (ht : tgt pc off = t)
    (h1 : cmpP c x 0 → R k (t, L, st, G, cs, sl) post) (h2 : ¬ cmpP c x 0 → R k (pc + 3, L, st, G, cs, sl) post) : R k (pc, L, vI x :: st, G, cs, sl) post := by
  have hs : s1 k (.ifCond c off, q) (pc, L, vI x :: st, G, cs, sl) = none := rfl
  obtain ⟨q1, q2, q3, q4⟩ := q
  subst ht
  rcases Classical.em (cmpP c x 0) with hc | hc
  · obtain ⟨n, r, G', h3, h4⟩ := h1 hc
    refine ⟨n + 1, r, G', ?_, h4⟩
    unfold run
    rw [hcd]
    dsimp only
    rw [h]
    dsimp only
    rw [hs]
    exact Or.inl ⟨hc, h3⟩
  · obtain ⟨n, r, G', h3, h4⟩ := h2 hc
    refine ⟨n + 1, r, G', ?_, h4⟩
    unfold run
    rw [hcd]
    dsimp only
    rw [h]
    dsimp only
    rw [hs]
    exact Or.inr ⟨hc, h3⟩
theorem R_ic {k : Nat} {cd : Nat → Option AI} {pc t : Nat} {c : ClassFile.Cond} {off : Int} {q : Nat × Nat × Nat × Nat} {L : List (Option AV)} {x y : Int} {st : List AV} {G : AG} {cs sl : Nat} {post : Option AV → AG → Prop} (hcd : mCode k = cd) (h : cd pc = some (.if_icmp c off, q)) (ht : tgt pc off = t)
    (h1 : cmpP c x y → R k (t, L, st, G, cs, sl) post) (h2 : ¬ cmpP c x y → R k (pc + 3, L, st, G, cs, sl) post) : R k (pc, L, vI y :: vI x :: st, G, cs, sl) post := by
  have hs : s1 k (.if_icmp c off, q) (pc, L, vI y :: vI x :: st, G, cs, sl) = none := rfl
  obtain ⟨q1, q2, q3, q4⟩ := q
  subst ht
  rcases Classical.em (cmpP c x y) with hc | hc
  · obtain ⟨n, r, G', h3, h4⟩ := h1 hc
    refine ⟨n + 1, r, G', ?_, h4⟩
    unfold run
    rw [hcd]
    dsimp only
    rw [h]
    dsimp only
    rw [hs]
    exact Or.inl ⟨hc, h3⟩
  · obtain ⟨n, r, G', h3, h4⟩ := h2 hc
    refine ⟨n + 1, r, G', ?_, h4⟩
    unfold run
    rw [hcd]
    dsimp only
    rw [h]
    dsimp only
    rw [hs]
    exact Or.inr ⟨hc, h3⟩
theorem R_sw {k : Nat} {cd : Nat → Option AI} {pc t : Nat} {d lo hi : Int} {offs : Array Int} {q : Nat × Nat × Nat × Nat} {L : List (Option AV)} {x : Int} {st : List AV} {G : AG} {cs sl : Nat} {post : Option AV → AG → Prop} (hcd : mCode k = cd) (h : cd pc = some (.tableswitch d lo hi offs, q)) (hlen : hi < lo + offs.toList.length)
    (h1 : ∀ (i : Nat) (o : Int), offs.toList[i]? = some o → x = lo + i → R k (tgt pc o, L, st, G, cs, sl) post) (ht : tgt pc d = t) (h2 : x < lo ∨ hi < x → R k (t, L, st, G, cs, sl) post) : R k (pc, L, vI x :: st, G, cs, sl) post := by
  have hs : s1 k (.tableswitch d lo hi offs, q) (pc, L, vI x :: st, G, cs, sl) = none := rfl
  obtain ⟨q1, q2, q3, q4⟩ := q
  subst ht
  rcases Classical.em (x < lo ∨ hi < x) with hc | hc
  · obtain ⟨n, r, G', h3, h4⟩ := h2 hc
    refine ⟨n + 1, r, G', ?_, h4⟩
    unfold run
    rw [hcd]
    dsimp only
    rw [h]
    dsimp only
    rw [hs]
    exact Or.inl ⟨hc, h3⟩
  · have hb : (x - lo).toNat < offs.toList.length := by omega
    have he := List.getElem?_eq_getElem hb
    obtain ⟨n, r, G', h3, h4⟩ := h1 (x - lo).toNat _ he (by omega)
    refine ⟨n + 1, r, G', ?_, h4⟩
    unfold run
    rw [hcd]
    dsimp only
    rw [h]
    dsimp only
    rw [hs]
    exact Or.inr ⟨_, ⟨by omega, by omega⟩, he, h3⟩
theorem R_reti {k : Nat} {cd : Nat → Option AI} {pc : Nat} {q : Nat × Nat × Nat × Nat} {L : List (Option AV)} {z : Int} {G : AG} {cs sl : Nat} {post : Option AV → AG → Prop} (hcd : mCode k = cd) (h : cd pc = some (.ireturn, q)) (hm : mR k = some .int) (hp : post (some (vI z)) G) : R k (pc, L, [vI z], G, cs, sl) post := by
  obtain ⟨q1, q2, q3, q4⟩ := q
  refine ⟨1, _, _, ?_, hp⟩
  unfold run
  rw [hcd]
  dsimp only
  rw [h]
  show (match mR k with | some .int => _ | some .boolean => _ | _ => _)
  rw [hm]
  exact ⟨rfl, rfl⟩
theorem R_retz {k : Nat} {cd : Nat → Option AI} {pc : Nat} {q : Nat × Nat × Nat × Nat} {L : List (Option AV)} {z : Int} {G : AG} {cs sl : Nat} {post : Option AV → AG → Prop} (hcd : mCode k = cd) (h : cd pc = some (.ireturn, q)) (hm : mR k = some .boolean) (hz : z = 0 ∨ z = 1) (hp : post (some (vI z)) G) : R k (pc, L, [vI z], G, cs, sl) post := by
  obtain ⟨q1, q2, q3, q4⟩ := q
  refine ⟨1, _, _, ?_, hp⟩
  unfold run
  rw [hcd]
  dsimp only
  rw [h]
  show (match mR k with | some .int => _ | some .boolean => _ | _ => _)
  rw [hm]
  exact ⟨hz, rfl, rfl⟩
theorem R_retl {k : Nat} {cd : Nat → Option AI} {pc : Nat} {q : Nat × Nat × Nat × Nat} {L : List (Option AV)} {z : Int} {G : AG} {cs sl : Nat} {post : Option AV → AG → Prop} (hcd : mCode k = cd) (h : cd pc = some (.lreturn, q)) (hm : mR k = some .long) (hp : post (some (vJ z)) G) : R k (pc, L, [vJ z], G, cs, sl) post := by
  obtain ⟨q1, q2, q3, q4⟩ := q
  refine ⟨1, _, _, ?_, hp⟩
  unfold run
  rw [hcd]
  dsimp only
  rw [h]
  show (match mR k with | some .long => _ | _ => _)
  rw [hm]
  exact ⟨rfl, rfl⟩
theorem R_reta {k : Nat} {cd : Nat → Option AI} {pc : Nat} {q : Nat × Nat × Nat × Nat} {L : List (Option AV)} {o : Option Nat} {nm : String} {G : AG} {cs sl : Nat} {post : Option AV → AG → Prop} (hcd : mCode k = cd) (h : cd pc = some (.areturn, q)) (hm : mR k = some (.object nm)) (hp : post (some (.inl o)) G) : R k (pc, L, [.inl o], G, cs, sl) post := by
  obtain ⟨q1, q2, q3, q4⟩ := q
  refine ⟨1, _, _, ?_, hp⟩
  unfold run
  rw [hcd]
  dsimp only
  rw [h]
  show (match mR k with | some (.object _) => _ | _ => _)
  rw [hm]
  exact ⟨rfl, rfl⟩
theorem R_retv {k : Nat} {cd : Nat → Option AI} {pc : Nat} {q : Nat × Nat × Nat × Nat} {L : List (Option AV)} {G : AG} {cs sl : Nat} {post : Option AV → AG → Prop} (hcd : mCode k = cd) (h : cd pc = some (.return_, q)) (hm : mR k = none) (hp : post none G) : R k (pc, L, [], G, cs, sl) post := by
  obtain ⟨q1, q2, q3, q4⟩ := q
  refine ⟨1, _, _, ?_, hp⟩
  unfold run
  rw [hcd]
  dsimp only
  rw [h]
  show (match mR k with | none => _ | _ => _)
  rw [hm]
  exact ⟨rfl, rfl⟩
theorem R_cv {k : Nat} {cd : Nat → Option AI} {pc n0 j p na : Nat} {L : List (Option AV)} {st : List AV} {G : AG} {cs sl : Nat} {post post1 : Option AV → AG → Prop} (hcd : mCode k = cd) (h : cd pc = some (.invokevirtual n0, 0, j, p, na)) (hok : callOK k (.invokevirtual n0, 0, j, p, na) (pc, L, st, G, cs, sl) = true)
    (hc : R j (0, L0 j (st.take na).reverse, [], G, 0, 0) post1) (hk : ∀ r G', post1 r G' → R k (pc + 3, L, r.toList ++ st.drop na, G', cs + mC j, sl + mS j) post) : R k (pc, L, st, G, cs, sl) post := by
  obtain ⟨n, r, G1, h1, h2⟩ := hc
  obtain ⟨n', r', G', h3, h4⟩ := hk r G1 h2
  have hs : s1 k (.invokevirtual n0, 0, j, p, na) (pc, L, st, G, cs, sl) = none := rfl
  refine ⟨n + n' + 1, r', G', ?_, h4⟩
  unfold run
  rw [hcd]
  dsimp only
  rw [h]
  dsimp only
  rw [hs]
  exact ⟨hok, r, G1, run_le h1 (by omega), run_le h3 (by omega)⟩
theorem R_cs {k : Nat} {cd : Nat → Option AI} {pc n0 j p na : Nat} {L : List (Option AV)} {st : List AV} {G : AG} {cs sl : Nat} {post post1 : Option AV → AG → Prop} (hcd : mCode k = cd) (h : cd pc = some (.invokestatic n0, 1, j, p, na)) (hok : callOK k (.invokestatic n0, 1, j, p, na) (pc, L, st, G, cs, sl) = true)
    (hc : R j (0, L0 j (st.take na).reverse, [], G, 0, 0) post1) (hk : ∀ r G', post1 r G' → R k (pc + 3, L, r.toList ++ st.drop na, G', cs + mC j, sl + mS j) post) : R k (pc, L, st, G, cs, sl) post := by
  obtain ⟨n, r, G1, h1, h2⟩ := hc
  obtain ⟨n', r', G', h3, h4⟩ := hk r G1 h2
  have hs : s1 k (.invokestatic n0, 1, j, p, na) (pc, L, st, G, cs, sl) = none := rfl
  refine ⟨n + n' + 1, r', G', ?_, h4⟩
  unfold run
  rw [hcd]
  dsimp only
  rw [h]
  dsimp only
  rw [hs]
  exact ⟨hok, r, G1, run_le h1 (by omega), run_le h3 (by omega)⟩
theorem R_ci {k : Nat} {cd : Nat → Option AI} {pc n0 a j p na : Nat} {L : List (Option AV)} {st : List AV} {G : AG} {cs sl : Nat} {post post1 : Option AV → AG → Prop} (hcd : mCode k = cd) (h : cd pc = some (.invokespecial n0, a, j, p, na)) (hs : s1 k (.invokespecial n0, a, j, p, na) (pc, L, st, G, cs, sl) = none) (hok : callOK k (.invokespecial n0, a, j, p, na) (pc, L, st, G, cs, sl) = true)
    (hc : R j (0, L0 j (st.take na).reverse, [], G, 0, 0) post1) (hk : ∀ r G', post1 r G' → R k (pc + 3, L, r.toList ++ st.drop na, G', cs + mC j, sl + mS j) post) : R k (pc, L, st, G, cs, sl) post := by
  obtain ⟨n, r, G1, h1, h2⟩ := hc
  obtain ⟨n', r', G', h3, h4⟩ := hk r G1 h2
  refine ⟨n + n' + 1, r', G', ?_, h4⟩
  unfold run
  rw [hcd]
  dsimp only
  rw [h]
  dsimp only
  rw [hs]
  exact ⟨hok, r, G1, run_le h1 (by omega), run_le h3 (by omega)⟩
