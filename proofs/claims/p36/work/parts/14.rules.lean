/-! the abstract machine's rules -/
/-- some instructions, one after the other: what they want, and the frame behind them -/
def sN (cd : Nat → Option AI) (k : Nat) : Nat → AF → Option (Prop × AF)
  | 0, f => some (True, f)
  | n + 1, f => match cd f.1 with
    | none => none
    | some e => match s1 k e f with
      | none => none
      | some (P, f') => match sN cd k n f' with
        | none => none
        | some (Q, f'') => some (cj P Q, f'')
theorem R_1 {k : Nat} {cd : Nat → Option AI} {f f' : AF} {e : AI} {P : Option Prop} {post : Option AV → AG → Prop} (hcd : mCode k = cd) (he : cd f.1 = some e) (h : s1 k e f = some (P, f')) (hP : cj P True) (hR : R k f' post) : R k f post := by
  refine @step_ok k f post ?_
  obtain ⟨pc, L, st, G, cs, sl⟩ := f
  unfold stp
  rw [hcd, he]
  dsimp only
  rw [h]
  cases P with
  | none => exact hR
  | some P => exact ⟨hP.1, hR⟩
theorem R_mono {k : Nat} {f : AF} {post post' : Option AV → AG → Prop} (h : R k f post) (hp : ∀ r G, post r G → post' r G) : R k f post' :=
  ⟨fun T hend => h.1 T (fun r G' hr => hend r G' (hp r G' hr)), trivial⟩
theorem R_s0 {k : Nat} {cd : Nat → Option AI} {post : Option AV → AG → Prop} (hcd : mCode k = cd) (j : Nat) : ∀ {f f' : AF} {P : Prop}, sN cd k j f = some (P, f') → P → R k f' post → R k f post := by
  induction j with
  | zero =>
    intro f f' P h hP hR
    cases h
    exact hR
  | succ j ih =>
    intro f f' P h hP hR
    unfold sN at h
    cases hc : cd f.1 with
    | none => rw [hc] at h; cases h
    | some e =>
      rw [hc] at h
      dsimp only at h
      cases hs : s1 k e f with
      | none => rw [hs] at h; cases h
      | some pf =>
        obtain ⟨P1, f1⟩ := pf
        rw [hs] at h
        dsimp only at h
        cases hn : sN cd k j f1 with
        | none => rw [hn] at h; cases h
        | some qf =>
          obtain ⟨Q, f2⟩ := qf
          rw [hn] at h
          cases h
          exact R_1 hcd hc hs (cj_split hP).1 (ih hn (cj_split hP).2 hR)
theorem R_s {k : Nat} {cd : Nat → Option AI} {f f' : AF} {P : Prop} {post : Option AV → AG → Prop} (hcd : mCode k = cd) (j : Nat) (h : sN cd k j f = some (P, f')) (hP : P) (hR : R k f' post) : R k f post := R_s0 hcd j h hP hR
theorem R_if {k : Nat} {cd : Nat → Option AI} {pc t : Nat} {c : ClassFile.Cond} {off : Int} {q : Nat × Nat × Nat × Nat} {L : List (Option AV)} {x : Int} {st : List AV} {G : AG} {cs sl : Nat} {post : Option AV → AG → Prop} (hcd : mCode k = cd) (h : cd pc = some (.ifCond c off, q)) (ht : tgt pc off = t)
    (h1 : cmpP c x 0 → R k (t, L, st, G, cs, sl) post) (h2 : ¬ cmpP c x 0 → R k (pc + 3, L, st, G, cs, sl) post) : R k (pc, L, vI x :: st, G, cs, sl) post := by
  have hs : s1 k (.ifCond c off, q) (pc, L, vI x :: st, G, cs, sl) = none := rfl
  obtain ⟨q1, q2, q3, q4⟩ := q
  subst ht
  refine @step_ok k _ post ?_
  unfold stp
  rw [hcd]
  dsimp only
  rw [h]
  dsimp only
  rw [hs]
  rcases Classical.em (cmpP c x 0) with hc | hc
  · exact Or.inl ⟨hc, h1 hc⟩
  · exact Or.inr ⟨hc, h2 hc⟩
theorem R_ic {k : Nat} {cd : Nat → Option AI} {pc t : Nat} {c : ClassFile.Cond} {off : Int} {q : Nat × Nat × Nat × Nat} {L : List (Option AV)} {x y : Int} {st : List AV} {G : AG} {cs sl : Nat} {post : Option AV → AG → Prop} (hcd : mCode k = cd) (h : cd pc = some (.if_icmp c off, q)) (ht : tgt pc off = t)
    (h1 : cmpP c x y → R k (t, L, st, G, cs, sl) post) (h2 : ¬ cmpP c x y → R k (pc + 3, L, st, G, cs, sl) post) : R k (pc, L, vI y :: vI x :: st, G, cs, sl) post := by
  have hs : s1 k (.if_icmp c off, q) (pc, L, vI y :: vI x :: st, G, cs, sl) = none := rfl
  obtain ⟨q1, q2, q3, q4⟩ := q
  subst ht
  refine @step_ok k _ post ?_
  unfold stp
  rw [hcd]
  dsimp only
  rw [h]
  dsimp only
  rw [hs]
  rcases Classical.em (cmpP c x y) with hc | hc
  · exact Or.inl ⟨hc, h1 hc⟩
  · exact Or.inr ⟨hc, h2 hc⟩
theorem R_sw {k : Nat} {cd : Nat → Option AI} {pc t : Nat} {d lo hi : Int} {offs : Array Int} {q : Nat × Nat × Nat × Nat} {L : List (Option AV)} {x : Int} {st : List AV} {G : AG} {cs sl : Nat} {post : Option AV → AG → Prop} (hcd : mCode k = cd) (h : cd pc = some (.tableswitch d lo hi offs, q)) (hlen : hi < lo + offs.toList.length)
    (h1 : ∀ (i : Nat) (o : Int), offs.toList[i]? = some o → x = lo + i → R k (tgt pc o, L, st, G, cs, sl) post) (ht : tgt pc d = t) (h2 : x < lo ∨ hi < x → R k (t, L, st, G, cs, sl) post) : R k (pc, L, vI x :: st, G, cs, sl) post := by
  have hs : s1 k (.tableswitch d lo hi offs, q) (pc, L, vI x :: st, G, cs, sl) = none := rfl
  obtain ⟨q1, q2, q3, q4⟩ := q
  subst ht
  refine @step_ok k _ post ?_
  unfold stp
  rw [hcd]
  dsimp only
  rw [h]
  dsimp only
  rw [hs]
  rcases Classical.em (x < lo ∨ hi < x) with hc | hc
  · exact Or.inl ⟨hc, h2 hc⟩
  · have hb : (x - lo).toNat < offs.toList.length := by omega
    have he := List.getElem?_eq_getElem hb
    exact Or.inr ⟨_, ⟨by omega, by omega⟩, he, h1 (x - lo).toNat _ he (by omega)⟩
theorem R_reti {k : Nat} {cd : Nat → Option AI} {pc : Nat} {q : Nat × Nat × Nat × Nat} {L : List (Option AV)} {z : Int} {G : AG} {cs sl : Nat} {post : Option AV → AG → Prop} (hcd : mCode k = cd) (h : cd pc = some (.ireturn, q)) (hm : mR k = some .int) (hp : post (some (vI z)) G) : R k (pc, L, [vI z], G, cs, sl) post := by
  obtain ⟨q1, q2, q3, q4⟩ := q
  refine @step_ok k _ post ?_
  unfold stp
  rw [hcd]
  dsimp only
  rw [h]
  show (match mR k with | some .int => _ | some .boolean => _ | _ => _)
  rw [hm]
  exact hp
theorem R_retz {k : Nat} {cd : Nat → Option AI} {pc : Nat} {q : Nat × Nat × Nat × Nat} {L : List (Option AV)} {z : Int} {G : AG} {cs sl : Nat} {post : Option AV → AG → Prop} (hcd : mCode k = cd) (h : cd pc = some (.ireturn, q)) (hm : mR k = some .boolean) (hz : z = 0 ∨ z = 1) (hp : post (some (vI z)) G) : R k (pc, L, [vI z], G, cs, sl) post := by
  obtain ⟨q1, q2, q3, q4⟩ := q
  refine @step_ok k _ post ?_
  unfold stp
  rw [hcd]
  dsimp only
  rw [h]
  show (match mR k with | some .int => _ | some .boolean => _ | _ => _)
  rw [hm]
  exact ⟨hz, hp⟩
theorem R_retl {k : Nat} {cd : Nat → Option AI} {pc : Nat} {q : Nat × Nat × Nat × Nat} {L : List (Option AV)} {z : Int} {G : AG} {cs sl : Nat} {post : Option AV → AG → Prop} (hcd : mCode k = cd) (h : cd pc = some (.lreturn, q)) (hm : mR k = some .long) (hp : post (some (vJ z)) G) : R k (pc, L, [vJ z], G, cs, sl) post := by
  obtain ⟨q1, q2, q3, q4⟩ := q
  refine @step_ok k _ post ?_
  unfold stp
  rw [hcd]
  dsimp only
  rw [h]
  show (match mR k with | some .long => _ | _ => _)
  rw [hm]
  exact hp
theorem R_reta {k : Nat} {cd : Nat → Option AI} {pc : Nat} {q : Nat × Nat × Nat × Nat} {L : List (Option AV)} {o : Option Nat} {nm : String} {G : AG} {cs sl : Nat} {post : Option AV → AG → Prop} (hcd : mCode k = cd) (h : cd pc = some (.areturn, q)) (hm : mR k = some (.object nm)) (hp : post (some (.inl o)) G) : R k (pc, L, [.inl o], G, cs, sl) post := by
  obtain ⟨q1, q2, q3, q4⟩ := q
  refine @step_ok k _ post ?_
  unfold stp
  rw [hcd]
  dsimp only
  rw [h]
  show (match mR k with | some (.object _) => _ | _ => _)
  rw [hm]
  exact hp
theorem R_retv {k : Nat} {cd : Nat → Option AI} {pc : Nat} {q : Nat × Nat × Nat × Nat} {L : List (Option AV)} {G : AG} {cs sl : Nat} {post : Option AV → AG → Prop} (hcd : mCode k = cd) (h : cd pc = some (.return_, q)) (hm : mR k = none) (hp : post none G) : R k (pc, L, [], G, cs, sl) post := by
  obtain ⟨q1, q2, q3, q4⟩ := q
  refine @step_ok k _ post ?_
  unfold stp
  rw [hcd]
  dsimp only
  rw [h]
  show (match mR k with | none => _ | _ => _)
  rw [hm]
  exact hp
theorem R_cv {k : Nat} {cd : Nat → Option AI} {pc n0 j p na : Nat} {L : List (Option AV)} {st : List AV} {G : AG} {cs sl : Nat} {post post1 : Option AV → AG → Prop} (hcd : mCode k = cd) (h : cd pc = some (.invokevirtual n0, 0, j, p, na)) (hok : callOK k (.invokevirtual n0, 0, j, p, na) (pc, L, st, G, cs, sl) = true)
    (hc : R j (0, L0 j (st.take na).reverse, [], G, 0, 0) post1) (hk : ∀ r G', post1 r G' → R k (pc + 3, L, r.toList ++ st.drop na, G', cs + mC j, sl + mS j) post) : R k (pc, L, st, G, cs, sl) post := by
  have hs : s1 k (.invokevirtual n0, 0, j, p, na) (pc, L, st, G, cs, sl) = none := rfl
  refine @step_ok k _ post ?_
  unfold stp
  rw [hcd]
  dsimp only
  rw [h]
  dsimp only
  rw [hs]
  exact ⟨hok, post1, hc, hk⟩
theorem R_cs {k : Nat} {cd : Nat → Option AI} {pc n0 j p na : Nat} {L : List (Option AV)} {st : List AV} {G : AG} {cs sl : Nat} {post post1 : Option AV → AG → Prop} (hcd : mCode k = cd) (h : cd pc = some (.invokestatic n0, 1, j, p, na)) (hok : callOK k (.invokestatic n0, 1, j, p, na) (pc, L, st, G, cs, sl) = true)
    (hc : R j (0, L0 j (st.take na).reverse, [], G, 0, 0) post1) (hk : ∀ r G', post1 r G' → R k (pc + 3, L, r.toList ++ st.drop na, G', cs + mC j, sl + mS j) post) : R k (pc, L, st, G, cs, sl) post := by
  have hs : s1 k (.invokestatic n0, 1, j, p, na) (pc, L, st, G, cs, sl) = none := rfl
  refine @step_ok k _ post ?_
  unfold stp
  rw [hcd]
  dsimp only
  rw [h]
  dsimp only
  rw [hs]
  exact ⟨hok, post1, hc, hk⟩
theorem R_ci {k : Nat} {cd : Nat → Option AI} {pc n0 a j p na : Nat} {L : List (Option AV)} {st : List AV} {G : AG} {cs sl : Nat} {post post1 : Option AV → AG → Prop} (hcd : mCode k = cd) (h : cd pc = some (.invokespecial n0, a, j, p, na)) (hs : s1 k (.invokespecial n0, a, j, p, na) (pc, L, st, G, cs, sl) = none) (hok : callOK k (.invokespecial n0, a, j, p, na) (pc, L, st, G, cs, sl) = true)
    (hc : R j (0, L0 j (st.take na).reverse, [], G, 0, 0) post1) (hk : ∀ r G', post1 r G' → R k (pc + 3, L, r.toList ++ st.drop na, G', cs + mC j, sl + mS j) post) : R k (pc, L, st, G, cs, sl) post := by
  refine @step_ok k _ post ?_
  unfold stp
  rw [hcd]
  dsimp only
  rw [h]
  dsimp only
  rw [hs]
  exact ⟨hok, post1, hc, hk⟩
