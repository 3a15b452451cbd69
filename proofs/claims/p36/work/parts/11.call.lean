theorem ok_virtual {p : Program} {l : Launch} {e0 : Env} {R : Room} {s : State} {m : MethodId} {args : Array Value} {below : List Frame} {meth : Method} {c : Code} {Q : State → Prop} {D : va_G} {ad : Nat → Nat} {b0 : Nat} {sc : List Int} {A : Nat → Prop} {k : Nat} {ρ0 : List Nat}
    (T : CT p R s m args meth c k ad b0 sc A) {n0 : Nat} {a b q1 q2 : Nat} {pc : Nat} {L : List (Option AV)} {st : List AV} {G : AG} {cs sl : Nat} {P : Option Prop} {f' : AF}
    (h : s1 k (.invokevirtual n0, a, b, q1, q2) (pc, L, st, G, cs, sl) = some (P, f')) (hP : cj P True)
    (hd : decode (mB k) pc = .ok (.invokevirtual n0, am_len pc (.invokevirtual n0))) (hn : am_lnk (mO k) pc (.invokevirtual n0, a, b, q1, q2) = true)
    (kk : OK p l e0 R s m args below meth c Q D ad b0 sc A k ρ0 f') : OK p l e0 R s m args below meth c Q D ad b0 sc A k ρ0 (pc, L, st, G, cs, sl) := by
  unfold s1 at h
  dsimp only at h
  split at h
  · split at h
    · rename_i n st'
      split at h
      · rename_i hroom
        cases h
        intro ws tys H locs ls sst hc hs I hL hS hρ
        obtain ⟨⟨hx, hb, hml, hown, hts, hin⟩, hR, F⟩ := T
        dsimp only at hc hs I hL hS ⊢
        obtain ⟨sst, rfl, hn14, hZ⟩ := SR_S hS
        simp only [Bool.and_eq_true, Nat.ble_eq, Nat.blt_eq] at hroom
        obtain ⟨⟨⟨r1, r2⟩, r3⟩, r4⟩ := hroom
        obtain ⟨-, -, -, -, hSs, -⟩ := id I
        have hTH : ST ad (fun _ => False) s H := (F.2.2.2.2.1.kept I.2.2.2.1.2.1).narrow (fun _ h => h.elim)
        have hfr : 2 ≤ R.frames := Nat.le_trans (Nat.le_trans (by decide) r1) hR.1
        have hlo : 40 ≤ R.locals := Nat.le_trans (Nat.le_trans (by decide) r2) hR.2.1
        have hrecv : ∃ cell : Cell, H[ad n]? = some cell ∧ cell.vm.isStatics = false ∧ s.vm.findClass RJ0 = some cell.cls := by
          obtain ⟨⟨adV, hE⟩, -⟩ := F.2.2.2.2.1
          exact vk_recv1 hE hn14 I.2.2.2.1
        have hl := hn
        simp only [am_lnk] at hl
        split at hl
        · rename_i o n' a' b' pl hF
          simp only [Bool.and_eq_true, Nat.beq_eq] at hl
          obtain ⟨⟨⟨⟨e1, e2⟩, e3⟩, e4⟩, -⟩ := hl
          subst e1; subst e2; subst e3; subst e4
          have hW := am_ml hF (by decide)
          exact W.callR (W.runV (As := []) (rest := sst) (b := ad n) (Ts := WG) (C := RJ0) ⟨hx, hb, hml, hown, hts⟩ (c_length l ad hn14) ⟨cb_of (n := 0) hts sw_length_c sw_iS (hts _ hW) (by decide +kernel) (by decide +kernel) rfl rfl hfr hlo, hts _ sw_length_k, hts _ sw_length_s⟩ ⟨PcS.blind, hrecv, fun U hU hW => ⟨rfl, by show ST ad (fun _ => False) U U.heap; rw [hU]; exact hTH.warm hW⟩⟩ rfl rfl hL.1 rfl (lv_room (by rw [hZ.cats]; exact r3)) hd ⟨Nat.le_trans hc hR.2.2.1, Nat.le_trans hs hR.2.2.2⟩) (kk ws tys H locs ls _ hc hs I hL ⟨(nI_toInt (Nat.lt_trans (sl_ok n hn14).1 (by decide))).trans (sl_ok n hn14).2, hZ⟩ hρ)
        · cases hl
      · cases h
    · cases h
  · split at h
    · rename_i i n st'
      split at h
      · rename_i hroom
        cases h
        intro ws tys H locs ls sst hc hs I hL hS hρ
        obtain ⟨⟨hx, hb, hml, hown, hts, hin⟩, hR, F⟩ := T
        dsimp only at hc hs I hL hS ⊢
        obtain ⟨ii, sst, rfl, hii, hY⟩ := SR_I hS
        obtain ⟨sst, rfl, hn14, hZ⟩ := SR_S hY
        simp only [Bool.and_eq_true, Nat.ble_eq, Nat.blt_eq] at hroom
        obtain ⟨⟨⟨r1, r2⟩, r3⟩, r4⟩ := hroom
        obtain ⟨hi0, hi1⟩ := hP.1
        have hTH : ST ad (fun _ => False) s H := (F.2.2.2.2.1.kept I.2.2.2.1.2.1).narrow (fun _ h => h.elim)
        have hfr : 4 ≤ R.frames := Nat.le_trans (Nat.le_trans (by decide) r1) hR.1
        have hlo : 85 ≤ R.locals := Nat.le_trans (Nat.le_trans (by decide) r2) hR.2.1
        have hrecv : ∃ cell : Cell, H[ad n]? = some cell ∧ cell.vm.isStatics = false ∧ s.vm.findClass RJ0 = some cell.cls := by
          obtain ⟨⟨adV, hE⟩, -⟩ := F.2.2.2.2.1
          exact vk_recv1 hE hn14 I.2.2.2.1
        obtain ⟨en, -⟩ := am_nIof (x := ii) (by omega)
        have hk : ii.toInt.toNat < am_lns.getD n 0 := by have := (sl_ok n hn14).2; omega
        have ei : i = ((ii.toInt.toNat : Nat) : Int) := by omega
        have hch := (sl_ch n hn14 _ hk).1
        rw [← ei] at hch
        generalize hkk0 : ii.toInt.toNat = kq at en hk hch
        subst en
        have hl := hn
        simp only [am_lnk] at hl
        split at hl
        · rename_i o n' a' b' pl hF
          simp only [Bool.and_eq_true, Nat.beq_eq] at hl
          obtain ⟨⟨⟨⟨e1, e2⟩, e3⟩, e4⟩, -⟩ := hl
          subst e1; subst e2; subst e3; subst e4
          have hW := am_ml hF (by decide)
          exact W.callR (W.runV (As := [.int (nI kq)]) (rest := sst) (b := ad n) (Ts := WG) (C := RJ0) ⟨hx, hb, hml, hown, hts⟩ (c_charAt l ad hn14 hk) ⟨cb_of (n := 1) hts sw_charAt_c sw_iS (hts _ hW) (by decide +kernel) (by decide +kernel) rfl rfl hfr hlo, hts _ sw_charAt_k, hts _ sw_charAt_s⟩ ⟨PcS.blind, hrecv, fun U hU hW => ⟨rfl, by show ST ad (fun _ => False) U U.heap; rw [hU]; exact hTH.warm hW⟩⟩ rfl rfl hL.1 rfl (lv_room (by rw [hZ.cats]; exact r3)) hd ⟨Nat.le_trans hc hR.2.2.1, Nat.le_trans hs hR.2.2.2⟩) (kk ws tys H locs ls _ hc hs I hL ⟨hch, hZ⟩ hρ)
        · cases hl
      · cases h
    · cases h
  · cases h

theorem s1_ok {p : Program} {l : Launch} {e0 : Env} {R : Room} {s : State} {m : MethodId} {args : Array Value} {below : List Frame} {meth : Method} {c : Code} {Q : State → Prop} {D : va_G} {ad : Nat → Nat} {b0 : Nat} {sc : List Int} {A : Nat → Prop} {k : Nat} {ρ0 : List Nat}
    (T : CT p R s m args meth c k ad b0 sc A) {i : Instr} {a b q1 q2 : Nat} {pc : Nat} {L : List (Option AV)} {st : List AV} {G : AG} {cs sl : Nat} {P : Option Prop} {f' : AF}
    (h : s1 k (i, a, b, q1, q2) (pc, L, st, G, cs, sl) = some (P, f')) (hP : cj P True)
    (hd : decode (mB k) pc = .ok (i, am_len pc i)) (hn : am_lnk (mO k) pc (i, a, b, q1, q2) = true)
    (kk : OK p l e0 R s m args below meth c Q D ad b0 sc A k ρ0 f') : OK p l e0 R s m args below meth c Q D ad b0 sc A k ρ0 (pc, L, st, G, cs, sl) := by
  cases i with
  | iconst n => exact ok_iconst T h hP hd hn kk
  | bipush n => exact ok_bipush T h hP hd hn kk
  | sipush n => exact ok_sipush T h hP hd hn kk
  | lconst n => exact ok_lconst T h hP hd hn kk
  | irem  => exact ok_irem T h hP hd hn kk
  | lload n => exact ok_lload T h hP hd hn kk
  | lload_n n => exact ok_lload_n T h hP hd hn kk
  | lstore n => exact ok_lstore T h hP hd hn kk
  | lstore_n n => exact ok_lstore_n T h hP hd hn kk
  | aconst_null  => exact ok_aconst_null T h hP hd hn kk
  | goto off => exact ok_goto T h hP hd hn kk
  | iadd  => exact ok_iadd T h hP hd hn kk
  | isub  => exact ok_isub T h hP hd hn kk
  | imul  => exact ok_imul T h hP hd hn kk
  | idiv  => exact ok_idiv T h hP hd hn kk
  | iand  => exact ok_iand T h hP hd hn kk
  | ior  => exact ok_ior T h hP hd hn kk
  | ishl  => exact ok_ishl T h hP hd hn kk
  | ishr  => exact ok_ishr T h hP hd hn kk
  | ladd  => exact ok_ladd T h hP hd hn kk
  | lmul  => exact ok_lmul T h hP hd hn kk
  | ldiv  => exact ok_ldiv T h hP hd hn kk
  | lcmp  => exact ok_lcmp T h hP hd hn kk
  | ineg  => exact ok_ineg T h hP hd hn kk
  | i2l  => exact ok_i2l T h hP hd hn kk
  | l2i  => exact ok_l2i T h hP hd hn kk
  | iload n => exact ok_iload T h hP hd hn kk
  | iload_n n => exact ok_iload_n T h hP hd hn kk
  | aload n => exact ok_aload T h hP hd hn kk
  | aload_n n => exact ok_aload_n T h hP hd hn kk
  | istore n => exact ok_istore T h hP hd hn kk
  | istore_n n => exact ok_istore_n T h hP hd hn kk
  | astore n => exact ok_astore T h hP hd hn kk
  | astore_n n => exact ok_astore_n T h hP hd hn kk
  | iinc n d => exact ok_iinc T h hP hd hn kk
  | dup  => exact ok_dup T h hP hd hn kk
  | dup2  => exact ok_dup2 T h hP hd hn kk
  | pop  => exact ok_pop T h hP hd hn kk
  | ifnull off => exact ok_ifnull T h hP hd hn kk
  | ifnonnull off => exact ok_ifnonnull T h hP hd hn kk
  | getfield n => exact ok_getfield T h hP hd hn kk
  | putfield n => exact ok_putfield T h hP hd hn kk
  | iaload  => exact ok_iaload T h hP hd hn kk
  | baload  => exact ok_baload T h hP hd hn kk
  | laload  => exact ok_laload T h hP hd hn kk
  | aaload  => exact ok_aaload T h hP hd hn kk
  | iastore  => exact ok_iastore T h hP hd hn kk
  | bastore  => exact ok_bastore T h hP hd hn kk
  | lastore  => exact ok_lastore T h hP hd hn kk
  | aastore  => exact ok_aastore T h hP hd hn kk
  | arraylength  => exact ok_arraylength T h hP hd hn kk
  | anewarray n => exact ok_anewarray T h hP hd hn kk
  | new n => exact ok_new T h hP hd hn kk
  | ldc n => exact ok_ldc T h hP hd hn kk
  | invokespecial n => exact ok_special T h hP hd hn kk
  | invokestatic n => exact ok_static T h hP hd hn kk
  | invokevirtual n => exact ok_virtual T h hP hd hn kk
  | newarray t => cases t with
    | int => exact ok_newint T h hP hd hn kk
    | boolean => exact ok_newbool T h hP hd hn kk
    | long => exact ok_newlong T h hP hd hn kk
    | _ => (have h0 : (none : Option (Option Prop × AF)) = some (P, f') := h; cases h0)
  | _ => (have h0 : (none : Option (Option Prop × AF)) = some (P, f') := h; cases h0)

theorem cj_split {P : Option Prop} {Q : Prop} (h : cj P Q) : cj P True ∧ Q := by
  cases P with
  | none => exact ⟨trivial, h⟩
  | some P => exact ⟨⟨h.1, trivial⟩, h.2⟩
/-- what a call's kind says of the method called -/
def am_kOK (e : Nat × Nat × Nat × Nat × Nat) : Bool := match e with
  | (_, _, kd, j, _) => match kd with
    | 0 => mP j && !(mSt j) && !(mIn j)
    | 1 => mP j && mSt j
    | 2 => mP j && !(mSt j) && mIn j
    | 3 => mP j && !(mSt j) && mIn j
    | _ => true
set_option maxRecDepth 20000 in
theorem am_kAll : am_MLT.all am_kOK = true := by decide +kernel
/-- what is known of a method -/
theorem am_m {j : Nat} (hj : mP j = true) : (mY j).cls = am_R (mO j) ∧ plainName (mY j).cls = true ∧ ((mY j).cls ≠ "java/lang/invoke/MethodHandle" ∧ (mY j).cls ≠ "java/lang/invoke/VarHandle") ∧ Cond.initialized (mY j).cls ∈ WG ∧ (parseMethodDescriptor (mY j).desc).map (fun d => d.parameters.length + 1) = some (bif mSt j then mNA j + 1 else mNA j) ∧
    (mSt j = true → Cond.static (mY j) ∈ WG) ∧ (mSt j = false → Cond.instanceMethod (mY j) ∈ WG) ∧ (mSt j = false → mIn j = true → (mY j).name = "<init>" ∧ mR j = none) ∧ (mSt j = false → mIn j = false → Cond.selects (mY j).cls (mY j) (mY j) ∈ WG) := by
  have h := am_wAll hj
  unfold am_wOK at h
  split at h
  · rename_i pc pi pk ps _
    simp only [Bool.and_eq_true, decide_eq_true_eq] at h
    obtain ⟨⟨⟨⟨⟨⟨h1, h2⟩, h3⟩, h4⟩, h5⟩, h6⟩, h7⟩ := h
    refine ⟨h2, h3, ⟨h4, h5⟩, WG_of _ h1 rfl, h6, fun e => ?_, fun e => ?_, fun e e2 => ?_, fun e e2 => ?_⟩
    · rw [e] at h7
      exact WG_of pk (of_decide_eq_true h7) rfl
    · rw [e] at h7
      simp only [cond_false, Bool.and_eq_true, decide_eq_true_eq] at h7
      exact WG_of pk h7.1 rfl
    · rw [e, e2] at h7
      simp only [cond_false, cond_true, Bool.and_eq_true, decide_eq_true_eq] at h7
      exact h7.2
    · rw [e, e2] at h7
      simp only [cond_false, Bool.and_eq_true, decide_eq_true_eq] at h7
      exact WG_of ps h7.2 rfl
  · cases h
/-! ends, contracts and calls -/
def OR (ad : Nat → Nat) (ρ : List Nat) : Option Value → Option AV → Prop
  | none, none => True
  | some v, some a => VR ad ρ v a
  | _, _ => False
def RT (k pc : Nat) : Option Value → Prop
  | some (.int z) => decode (mB k) pc = .ok (.ireturn, 1) ∧ ∃ ty : FieldType, mR k = some ty ∧ narrow ty (.int z) = .int z
  | some (.long _) => decode (mB k) pc = .ok (.lreturn, 1) ∧ mR k = some .long
  | some .null => decode (mB k) pc = .ok (.areturn, 1) ∧ ∃ n : String, mR k = some (.object n)
  | some (.ref _) => decode (mB k) pc = .ok (.areturn, 1) ∧ ∃ n : String, mR k = some (.object n)
  | none => decode (mB k) pc = .ok (.return_, 1) ∧ mR k = none
  | _ => False
def ENDS (p : Program) (l : Launch) (e : Env) (R : Room) (s : State) (m : MethodId) (args : Array Value) (below : List Frame) (meth : Method) (c : Code) (Q : State → Prop) (D : va_G) (ad : Nat → Nat) (b : Nat) (sc : List Int) (A : Nat → Prop) (k : Nat) (ρ0 : List Nat) (r : Option AV) (G' : AG) : Prop :=
  ∀ (ws : va_W) (tys : List (ClassId × FieldType)) (H : Heap) (locs : List Loc) (cs sl pc : Nat) (ls : Array Slot) (x : Option Value), cs ≤ mC k → sl ≤ mS k → IN D ad b sc A s H locs ws tys G' → ρ0 <+: rho b ws → RT k pc x → OR ad (rho b ws) x r → W p l e R s m args below meth c H locs cs sl Q (F0 m pc ls x.toList)
def rmK (j : Nat) : Room := { frames := mF j, cells := mC j, slots := mS j, locals := mLo j }
def PcK (D : va_G) (ad : Nat → Nat) (b : Nat) (sc : List Int) (ws : va_W) (tys : List (ClassId × FieldType)) (vs : List Value) (sz : Nat) : Array Value → State → Prop :=
  va_Pc vs (fun U => U.heap.size = sz ∧ va_P D vwCl ws U.heap ∧ va_K D vwCl tys U ∧ va_D (fun _ => True) ws ∧ ¬ va_A ws sz b ∧ b < sz ∧ (∃ xs : Nat → Int32, va_X b sc.length xs U U.heap ∧ ∀ j, j < sc.length → (xs j).toInt = sc.getD j 0) ∧ ST ad (va_A ws sz) U U.heap ∧ NS U)
def QcK (D : va_G) (ad : Nat → Nat) (b : Nat) (sc : List Int) (ws : va_W) (sz : Nat) (φ : Option AV → AG → Prop) : Array Value → State → Outcome → State → Prop := fun _ st o t =>
  (∃ (x : Option Value) (ws' : va_W) (tys' : List (ClassId × FieldType)) (r : Option AV) (G' : AG), φ r G' ∧ o = .returned x ∧ va_P D vwCl ws' t.heap ∧ va_K D vwCl tys' t ∧ va_D (va_A ws sz) ws' ∧ rho b ws <+: rho b ws' ∧ GR ad b sc tys' ws' G' ∧ OR ad (rho b ws') x r) ∧ va_F (va_A ws sz) st t
theorem PcK.blind {D : va_G} {ad : Nat → Nat} {b : Nat} {sc : List Int} {ws : va_W} {tys : List (ClassId × FieldType)} {vs : List Value} {sz : Nat} : FrameBlind (PcK D ad b sc ws tys vs sz) := by
  intro a U g mk h
  obtain ⟨h0, h1, h2, h3, h4, h5, h6, ⟨xs, h7, h8⟩, h9, h10⟩ := h
  exact ⟨h0, h1, h2, va_K.moved (u := U) (Vm.Alike.refl U.vm) h3, h4, h5, h6, ⟨xs, va_X.moved (u := U) (Vm.Alike.refl U.vm) h7, h8⟩, ST.same (u := U) rfl h9, NS.same (u := U) rfl h10⟩
theorem am_inS_all : mL2.all (fun x => !(mIn x && mSt x)) = true := by decide +kernel
theorem am_inS {j : Nat} (hj : mP j = true) (hi : mIn j = true) (hs : mSt j = true) {P : Prop} : P := by
  have := List.all_eq_true.mp am_inS_all j (am_mem j hj)
  rw [hi, hs] at this
  cases this
/-- whatever the machine does from an abstract frame of method k: it comes to an end that φ tells -/
def R0 (k : Nat) (f : AF) (φ : Option AV → AG → Prop) : Prop := ∀ {p : Program} {l : Launch} {e0 : Env} {R : Room} {s : State} {m : MethodId} {args : Array Value} {below : List Frame} {meth : Method} {c : Code} {Q : State → Prop} {D : va_G} {ad : Nat → Nat} {b0 : Nat} {sc : List Int} {A : Nat → Prop} {ρ0 : List Nat}, CT p R s m args meth c k ad b0 sc A → (∀ (r : Option AV) (G' : AG), φ r G' → ENDS p l e0 R s m args below meth c Q D ad b0 sc A k ρ0 r G') → OK p l e0 R s m args below meth c Q D ad b0 sc A k ρ0 f
def R (k : Nat) (f : AF) (φ : Option AV → AG → Prop) : Prop := R0 k f φ ∧ True
theorem met_of {l : Launch} {j : Nat} (hj : mP j = true) {as : List AV} {G : AG} {φ : Option AV → AG → Prop} (ih : R j (0, L0 j as, [], G, 0, 0) φ)
    {D : va_G} {ad : Nat → Nat} {b : Nat} {sc : List Int} {ws : va_W} {tys : List (ClassId × FieldType)} {vs : List Value} (hSR : SR ad (rho b ws) vs as) (h1 : ∀ a ∈ as, acat a = 1) (hn : as.length ≤ mL j) (hG : GR ad b sc tys ws G) (sz : Nat) :
    Met l (mY j) (Cond.code (mY j) (mB j) (mL j) (mR j) :: WG) (rmK j) (PcK D ad b sc ws tys vs sz) (QcK D ad b sc ws sz φ) (mC j) (mS j) (va_A ws sz) := by
  obtain ⟨hcls, hpl, -, -, -, -, -, hini, -⟩ := am_m hj
  refine Met.ofW (cc := mB j) (maxL := mL j) (ret := mR j) hpl rfl ?_
  intro p e s m args below meth c s₁ B hml hv
  obtain ⟨rfl, hsz, hP, hK, hD0, hbA, hbl, hX, hST, hNS⟩ := hv
  have hx := B.exec
  have hb := B.bytes
  have hr := B.returns
  have hts0 := atoms_spec (ws := Cond.code (mY j) (mB j) (mL j) (mR j) :: WG) B.pre
  have hts : ∀ w ∈ WG, w.before vs.toArray s = true := fun w hw => hts0 w (List.mem_cons_of_mem _ hw)
  have hown : s.vm.findClass (mY j).cls = some m.cls := findClass_of_methodNamed B.named
  have hlocks := B.notSynchronized
  have hin : mIn j = true → meth.name = "<init>" := fun hi => by
    have e1 := (name_of_methodNamed B.named B.method).1
    rw [e1]
    cases hs : mSt j with
    | true => exact am_inS hj hi hs
    | false => exact (hini hs hi).1
  subst hsz
  rw [hcls] at hown
  have hD := hD0.self (sz := s.heap.size)
  have T : CT p (rmK j) s m vs.toArray meth c j ad b sc (va_A ws s.heap.size) := ⟨⟨hx, hb, hml, hown, hts, hin⟩, ⟨Nat.le_refl _, Nat.le_refl _, Nat.le_refl _, Nat.le_refl _⟩, ⟨fun q h => Or.inr h, hbA, hbl, hX, hST, hNS⟩⟩
  rw [lg_entry_eq]
  refine ih.1 (ρ0 := rho b ws) T ?_ ws tys s.heap [] _ [] (Nat.zero_le _) (Nat.zero_le _) ⟨hK, hP, hD, va_S.rf, hG⟩ (LR.entry hSR h1 hn) trivial (List.prefix_rfl)
  intro r G' hφ ws' tys' H locs cs sl pc ls x hc hs I hρ hRT hO
  refine W.widen (k := mC j) (n := mS j) hc hs ?_
  obtain ⟨hK1, hP1, hD1, hS1, hG1⟩ := I
  have hq : ∀ t : State, t.heap = H → s.WarmedH t.vm → QcK D ad b sc ws s.heap.size φ vs.toArray s (.returned x) t := fun t ht hW =>
    ⟨⟨x, ws', tys', r, G', hφ, rfl, by rw [ht]; exact hP1, va_K.moved hW.alike hK1, hD1, hρ, hG1, hO⟩, hS1.F ht⟩
  rcases x with _ | v
  · exact W.vret hx hb (hr.trans hRT.2) hq hS1.2.2 hRT.1
  · cases v with
    | int z =>
      obtain ⟨h2, ty, h3, h4⟩ := hRT
      exact W.zret hx hb (hr.trans h3) h4 hq hS1.2.2 h2
    | long z => exact W.lret hx hb (hr.trans hRT.2) hq hS1.2.2 hRT.1
    | null =>
      obtain ⟨h2, n, h3⟩ := hRT
      exact W.aret hx hb (hr.trans h3) (Or.inl ⟨n, rfl⟩) (Or.inl rfl) hq hS1.2.2 h2
    | ref a =>
      obtain ⟨h2, n, h3⟩ := hRT
      exact W.aret hx hb (hr.trans h3) (Or.inl ⟨n, rfl⟩) (Or.inr ⟨a, rfl⟩) hq hS1.2.2 h2
    | _ => exact absurd hRT id
theorem am_call {p : Program} {l : Launch} {e0 : Env} {R : Room} {s : State} {m : MethodId} {args : Array Value} {below : List Frame} {meth : Method} {c : Code} {Q : State → Prop} {D : va_G} {ad : Nat → Nat} {b : Nat} {sc : List Int} {A : Nat → Prop} {H : Heap} {locs : List Loc} {cells slots mc ms pc : Nat} {ls : Array Slot} {st0 rest : List Value} {ws : va_W} {tys : List (ClassId × FieldType)} {G : AG} {φ : Option AV → AG → Prop} {a : Array Value}
    (hr : va_Run p l e0 R s m args below meth c H locs cells slots mc ms (F0 m pc ls st0) rest (QcK D ad b sc ws H.size φ a) (va_A ws H.size)) (I : IN D ad b sc A s H locs ws tys G) (hA : ∀ q, s.heap.size ≤ q → A q)
    (kk : ∀ (x : Option Value) (ws' : va_W) (tys' : List (ClassId × FieldType)) (H1 : Heap) (locs1 : List Loc) (r : Option AV) (G' : AG), φ r G' → IN D ad b sc A s H1 locs1 ws' tys' G' → rho b ws <+: rho b ws' → OR ad (rho b ws') x r → W p l e0 R s m args below meth c H1 locs1 (cells + mc) (slots + ms) Q (F0 m (pc + 3) ls (x.toList ++ rest))) :
    W p l e0 R s m args below meth c H locs cells slots Q (F0 m pc ls st0) := by
  obtain ⟨hK, hP, hD, hS, hG⟩ := I
  have hsub : ∀ q, va_A ws H.size q → A q := by
    intro q hq
    rcases hq with ⟨i, e, he⟩ | hq
    · exact hD.2 i _ he
    · exact hA q (Nat.le_trans hS.1 hq)
  intro T hT X
  obtain ⟨v, st₀, t, T', L, h0, X', hL, e1, e2, ⟨⟨x, ws', tys', r, G', hφ, hv, hP1, hK1, hD1, hρ, hG1, hO⟩, hz, hk⟩, st⟩ := hr T hT X
  cases hv
  rw [h0] at hz hk
  have hal : s.vm.Alike t.vm := by rw [← e2]; exact X'.warmed.alike
  obtain ⟨t2, a1, b1⟩ := kk v ws' tys' T'.heap (locs ++ L) r G' hφ ⟨va_K.moved hal.symm hK1, by rw [e1]; exact hP1, hD1.weaken (fun _ q _ h => hsub q.1 h), ⟨Nat.le_trans hS.1 (by rw [e1]; exact hz), fun q h1 h2 => by
      rw [e1, hk q (Nat.lt_of_lt_of_le h1 hS.1) (fun z => h2 (hsub q z))]
      exact hS.2.1 q h1 h2, fun q hq => by
      rcases List.mem_append.mp hq with h | h
      · exact hS.2.2 q h
      · exact hsub _ (hL q h)⟩, hG1⟩ hρ hO T' rfl X'
  exact ⟨t2, st t2 a1, b1⟩
