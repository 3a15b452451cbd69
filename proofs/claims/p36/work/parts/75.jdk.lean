def TXT (D : va_G) (A : Nat → Prop) (s : State) (pl : va_W) (a w n : Nat) (f : Nat → Int32) : Prop := FITB f ∧ (SV a w n f A s s.heap ∨ ∃ (cA : ClassId) (i j : Nat), pl[i]? = some (a, .inr (7, [.ref w, .int 0, .int 0, .int 0])) ∧ pl[j]? = some (w, .inl (cA, n, .inl f)) ∧ va_K D vwCl [(cA, .byte)] s)
theorem TXT.sv {D : va_G} {A : Nat → Prop} {s : State} {H : Heap} {locs : List Loc} {ws pl : va_W} {a w n : Nat} {f : Nat → Int32} {args : Array Value} (h : TXT D A s pl a w n f) (hts : ∀ w ∈ WG, w.before args s = true) (hS : va_S A s.heap H locs) (hA : ∀ q, s.heap.size ≤ q → A q) (hP : va_P D vwCl (ws ++ pl) H) (hD : va_D A (ws ++ pl)) : SV a w n f (va_A ws H.size) s H := by
  rcases h.2 with h | ⟨cA, i, j, h1, h2, hK⟩
  · exact SV.in h hS hA hD
  · have g : ∀ (i : Nat) (a : Nat) (e : va_E), pl[i]? = some (a, e) → (ws ++ pl)[ws.length + i]? = some (a, e) := fun i a e h => by
      rw [List.getElem?_append_right (Nat.le_add_right _ _), Nat.add_sub_cancel_left]
      exact h
    have k : ∀ (i : Nat) (a : Nat) (e : va_E), pl[i]? = some (a, e) → ¬ va_A ws H.size a := fun i a e h q => by
      rcases q with ⟨k, e2, hk⟩ | q
      · have hl := (List.getElem?_eq_some_iff.mp hk).1
        have z := hD.1 k (ws.length + i) (a, e2) (a, e) (by rw [List.getElem?_append_left hl]; exact hk) (g i a e h) rfl
        omega
      · have z := (hP _ _ (g i a e h)).lt
        have z2 : a < H.size := z
        omega
    exact SV.of hts hK hP (g i _ _ h1) (g j _ _ h2) (k := 0) rfl (k i _ _ h1) (k j _ _ h2)
theorem TXT.app {D : va_G} {A : Nat → Prop} {s : State} {pl : va_W} {a w n : Nat} {f : Nat → Int32} (h : TXT D A s pl a w n f) (x : va_W) : TXT D A s (pl ++ x) a w n f := ⟨h.1, h.2.imp id (fun ⟨cA, i, j, h1, h2, hK⟩ => ⟨cA, i, j, by rw [List.getElem?_append_left (List.getElem?_eq_some_iff.mp h1).1]; exact h1, by rw [List.getElem?_append_left (List.getElem?_eq_some_iff.mp h2).1]; exact h2, hK⟩)⟩
theorem TXT.pre {D : va_G} {A : Nat → Prop} {s : State} {pl : va_W} {a w n : Nat} {f : Nat → Int32} (h : TXT D A s pl a w n f) (x : va_W) : TXT D A s (x ++ pl) a w n f := ⟨h.1, h.2.imp id (fun ⟨cA, i, j, h1, h2, hK⟩ => ⟨cA, x.length + i, x.length + j, by rw [List.getElem?_append_right (Nat.le_add_right _ _), Nat.add_sub_cancel_left]; exact h1, by rw [List.getElem?_append_right (Nat.le_add_right _ _), Nat.add_sub_cancel_left]; exact h2, hK⟩)⟩
theorem TXT.last {D : va_G} {A : Nat → Prop} {s : State} {t v c : Nat} {g : Nat → Int32} {cA : ClassId} (pl : va_W) (hK : va_K D vwCl [(cA, .byte)] s) (hg : FITB g) : TXT D A s (pl ++ SVX t v c g cA) t v c g := TXT.pre ⟨hg, .inr ⟨cA, 0, 1, rfl, rfl, hK⟩⟩ pl
theorem byt_fit : ∀ i, i < 29 → ∀ x ∈ am_byt.getD i [], fits .byte (.int x) = true := by decide +kernel
theorem TXT.const {D : va_G} {A : Nat → Prop} {s : State} {ad : Nat → Nat} (hT : ST ad A s s.heap) (pl : va_W) {i L : Nat} (hi : i < 29) (hL : am_lns.getD i 0 = L) : ∃ (w : Nat) (f : Nat → Int32), TXT D A s pl (ad i) w L f := by
  obtain ⟨adV, h⟩ := hT.1
  refine ⟨adV i, fun j => (am_byt.getD i []).getD j 0, fun j => ?_, .inl ?_⟩
  · have e : (am_byt.getD i []).getD j 0 = ((am_byt.getD i [])[j]?).getD 0 := List.getD_eq_getElem?_getD ..
    show fits .byte (.int ((am_byt.getD i []).getD j 0)) = true
    rw [e]
    cases hj : (am_byt.getD i [])[j]? with
    | none => rw [Option.getD_none]; decide
    | some x => rw [Option.getD_some]; exact byt_fit i hi x (List.mem_of_getElem? hj)
  · rw [← hL]
    exact h.1 i hi
theorem dgn_le (x : Nat) : dgn x ≤ 3 := by
  unfold dgn
  split
  · omega
  · split <;> omega
theorem lv_and2 {p : Program} {l : Launch} {e : Env} {R : Room} {s : State} {m : MethodId} {args : Array Value} {below : List Frame} {meth : Method} {c : Code} {H : Heap} {locs : List Loc} {cells slots pc : Nat} {Q : State → Prop} {cc : ByteArray} {ls : Array Slot} {rest : List Value} (hexec : p.tables.exec = Jvm.exec) (hb : c.code = cc) {z mk : Int32} (k : Nat) (hm : mk.toBitVec.toNat = 2 ^ k - 1) (hdg : decode cc pc = .ok (.iand, 1)) (kk : ∀ x : Nat, x < 2 ^ k → W p l e R s m args below meth c H locs cells slots Q (F0 m (pc + 1) ls (.int (nI x) :: rest))) : W p l e R s m args below meth c H locs cells slots Q (F0 m pc ls (.int mk :: .int z :: rest)) := by
  obtain ⟨j, hj, ej⟩ := pk_andE z k hm
  refine lv_iand hexec hb hdg ?_
  rw [ej]
  exact kk j hj
theorem lv_rem2 {p : Program} {l : Launch} {e : Env} {R : Room} {s : State} {m : MethodId} {args : Array Value} {below : List Frame} {meth : Method} {c : Code} {H : Heap} {locs : List Loc} {cells slots pc : Nat} {Q : State → Prop} {cc : ByteArray} {ls : Array Slot} {rest : List Value} (hexec : p.tables.exec = Jvm.exec) (hb : c.code = cc) {x n : Nat} (hx : x < 1000) (hn : 2 ≤ n ∧ n ≤ 7) (hdg : decode cc pc = .ok (.irem, 1)) (kk : ∀ y : Nat, y < 7 → W p l e R s m args below meth c H locs cells slots Q (F0 m (pc + 1) ls (.int (nI y) :: rest))) : W p l e R s m args below meth c H locs cells slots Q (F0 m pc ls (.int (nI n) :: .int (nI x) :: rest)) := by
  refine lv_irem hexec hb hdg (fun h => ?_) ?_
  · have z := (nI_eq (a := n) (b := 0) (by omega) (by decide)).mp h
    omega
  · rw [pk_rem (by omega) (by omega) (by omega)]
    exact kk _ (Nat.lt_of_lt_of_le (Nat.mod_lt _ (by omega)) hn.2)
theorem i2c_small {x : Nat} (h : x < 8) : ((nI (97 + x)).toUInt32 % 65536).toInt32 = nI (97 + x) := by
  have h2 : ∀ x : Nat, x < 8 → ((nI (97 + x)).toUInt32 % 65536).toInt32 = nI (97 + x) := by decide +kernel
  exact h2 x h
theorem wx_intro {p : Program} {l : Launch} {e : Env} {R : Room} {s : State} {m : MethodId} {args : Array Value} {below : List Frame} {meth : Method} {c : Code} {H : Heap} {locs : List Loc} {cells slots : Nat} {Q : State → Prop} {f : JFrame} (h : ∀ Q' : State → Prop, Q' = Q → W p l e R s m args below meth c H locs cells slots Q' f) : W p l e R s m args below meth c H locs cells slots Q f := h Q rfl
theorem dL_words_289 : decode cL_words 289 = .ok (.invokevirtual 28, 3) := by decide +kernel
theorem dL_words_292 : decode cL_words 292 = .ok (.invokevirtual 39, 3) := by decide +kernel
theorem dL_words_295 : decode cL_words 295 = .ok (.astore_n 2, 1) := by decide +kernel
theorem dL_words_296 : decode cL_words 296 = .ok (.new 23, 3) := by decide +kernel
theorem dL_words_299 : decode cL_words 299 = .ok (.dup, 1) := by decide +kernel
theorem dL_words_300 : decode cL_words 300 = .ok (.invokespecial 25, 3) := by decide +kernel
theorem dL_words_303 : decode cL_words 303 = .ok (.aload_n 2, 1) := by decide +kernel
theorem dL_words_304 : decode cL_words 304 = .ok (.invokevirtual 28, 3) := by decide +kernel
theorem dL_words_307 : decode cL_words 307 = .ok (.ldc 66, 2) := by decide +kernel
theorem dL_words_309 : decode cL_words 309 = .ok (.invokevirtual 28, 3) := by decide +kernel
theorem dL_words_312 : decode cL_words 312 = .ok (.bipush 97, 2) := by decide +kernel
theorem dL_words_314 : decode cL_words 314 = .ok (.iload_n 0, 1) := by decide +kernel
theorem dL_words_315 : decode cL_words 315 = .ok (.bipush 28, 2) := by decide +kernel
theorem dL_words_317 : decode cL_words 317 = .ok (.ishr, 1) := by decide +kernel
theorem dL_words_318 : decode cL_words 318 = .ok (.bipush 7, 2) := by decide +kernel
theorem dL_words_320 : decode cL_words 320 = .ok (.iand, 1) := by decide +kernel
theorem dL_words_321 : decode cL_words 321 = .ok (.iadd, 1) := by decide +kernel
theorem dL_words_322 : decode cL_words 322 = .ok (.i2c, 1) := by decide +kernel
theorem dL_words_323 : decode cL_words 323 = .ok (.invokevirtual 68, 3) := by decide +kernel
theorem dL_words_326 : decode cL_words 326 = .ok (.invokevirtual 39, 3) := by decide +kernel
theorem dL_words_329 : decode cL_words 329 = .ok (.areturn, 1) := by decide +kernel
theorem dL_words_195 : decode cL_words 195 = .ok (.invokevirtual 28, 3) := by decide +kernel
theorem dL_words_198 : decode cL_words 198 = .ok (.ldc 45, 2) := by decide +kernel
theorem dL_words_200 : decode cL_words 200 = .ok (.invokevirtual 28, 3) := by decide +kernel
theorem dL_words_203 : decode cL_words 203 = .ok (.invokevirtual 39, 3) := by decide +kernel
theorem dL_words_206 : decode cL_words 206 = .ok (.astore_n 2, 1) := by decide +kernel
theorem dL_words_207 : decode cL_words 207 = .ok (.new 23, 3) := by decide +kernel
theorem dL_words_210 : decode cL_words 210 = .ok (.dup, 1) := by decide +kernel
theorem dL_words_211 : decode cL_words 211 = .ok (.invokespecial 25, 3) := by decide +kernel
theorem dL_words_214 : decode cL_words 214 = .ok (.aload_n 2, 1) := by decide +kernel
theorem dL_words_215 : decode cL_words 215 = .ok (.invokevirtual 28, 3) := by decide +kernel
theorem dL_words_218 : decode cL_words 218 = .ok (.iload_n 0, 1) := by decide +kernel
theorem dL_words_219 : decode cL_words 219 = .ok (.ldc 57, 2) := by decide +kernel
theorem dL_words_221 : decode cL_words 221 = .ok (.iand, 1) := by decide +kernel
theorem dL_words_222 : decode cL_words 222 = .ok (.ifCond .eq 36, 3) := by decide +kernel
theorem dL_words_258 : decode cL_words 258 = .ok (.new 23, 3) := by decide +kernel
theorem dL_words_261 : decode cL_words 261 = .ok (.dup, 1) := by decide +kernel
theorem dL_words_262 : decode cL_words 262 = .ok (.invokespecial 25, 3) := by decide +kernel
theorem dL_words_265 : decode cL_words 265 = .ok (.ldc 62, 2) := by decide +kernel
theorem dL_words_267 : decode cL_words 267 = .ok (.invokevirtual 28, 3) := by decide +kernel
theorem dL_words_270 : decode cL_words 270 = .ok (.iload_n 0, 1) := by decide +kernel
theorem dL_words_271 : decode cL_words 271 = .ok (.iconst 3, 1) := by decide +kernel
theorem dL_words_272 : decode cL_words 272 = .ok (.ishr, 1) := by decide +kernel
theorem dL_words_273 : decode cL_words 273 = .ok (.bipush 7, 2) := by decide +kernel
theorem dL_words_275 : decode cL_words 275 = .ok (.iand, 1) := by decide +kernel
theorem dL_words_276 : decode cL_words 276 = .ok (.iload_n 1, 1) := by decide +kernel
theorem dL_words_277 : decode cL_words 277 = .ok (.irem, 1) := by decide +kernel
theorem dL_words_278 : decode cL_words 278 = .ok (.invokevirtual 32, 3) := by decide +kernel
theorem dL_words_281 : decode cL_words 281 = .ok (.ldc 64, 2) := by decide +kernel
theorem dL_words_283 : decode cL_words 283 = .ok (.invokevirtual 28, 3) := by decide +kernel
theorem dL_words_286 : decode cL_words 286 = .ok (.invokevirtual 39, 3) := by decide +kernel
theorem dL_words_225 : decode cL_words 225 = .ok (.new 23, 3) := by decide +kernel
theorem dL_words_228 : decode cL_words 228 = .ok (.dup, 1) := by decide +kernel
theorem dL_words_229 : decode cL_words 229 = .ok (.invokespecial 25, 3) := by decide +kernel
theorem dL_words_232 : decode cL_words 232 = .ok (.ldc 58, 2) := by decide +kernel
theorem dL_words_234 : decode cL_words 234 = .ok (.invokevirtual 28, 3) := by decide +kernel
theorem dL_words_237 : decode cL_words 237 = .ok (.iload_n 0, 1) := by decide +kernel
theorem dL_words_238 : decode cL_words 238 = .ok (.iconst 5, 1) := by decide +kernel
theorem dL_words_239 : decode cL_words 239 = .ok (.ishr, 1) := by decide +kernel
theorem dL_words_240 : decode cL_words 240 = .ok (.sipush 511, 3) := by decide +kernel
theorem dL_words_243 : decode cL_words 243 = .ok (.iand, 1) := by decide +kernel
theorem dL_words_244 : decode cL_words 244 = .ok (.invokevirtual 32, 3) := by decide +kernel
theorem dL_words_247 : decode cL_words 247 = .ok (.ldc 60, 2) := by decide +kernel
theorem dL_words_249 : decode cL_words 249 = .ok (.invokevirtual 28, 3) := by decide +kernel
theorem dL_words_252 : decode cL_words 252 = .ok (.invokevirtual 39, 3) := by decide +kernel
theorem dL_words_255 : decode cL_words 255 = .ok (.goto 34, 3) := by decide +kernel
theorem dL_words_156 : decode cL_words 156 = .ok (.invokevirtual 28, 3) := by decide +kernel
theorem dL_words_159 : decode cL_words 159 = .ok (.iload_n 0, 1) := by decide +kernel
theorem dL_words_160 : decode cL_words 160 = .ok (.ldc 54, 2) := by decide +kernel
theorem dL_words_162 : decode cL_words 162 = .ok (.iand, 1) := by decide +kernel
theorem dL_words_163 : decode cL_words 163 = .ok (.ifCond .eq 30, 3) := by decide +kernel
theorem dL_words_193 : decode cL_words 193 = .ok (.ldc 43, 2) := by decide +kernel
theorem dL_words_166 : decode cL_words 166 = .ok (.new 23, 3) := by decide +kernel
theorem dL_words_169 : decode cL_words 169 = .ok (.dup, 1) := by decide +kernel
theorem dL_words_170 : decode cL_words 170 = .ok (.invokespecial 25, 3) := by decide +kernel
theorem dL_words_173 : decode cL_words 173 = .ok (.ldc 55, 2) := by decide +kernel
theorem dL_words_175 : decode cL_words 175 = .ok (.invokevirtual 28, 3) := by decide +kernel
theorem dL_words_178 : decode cL_words 178 = .ok (.iload_n 0, 1) := by decide +kernel
theorem dL_words_179 : decode cL_words 179 = .ok (.bipush 25, 2) := by decide +kernel
theorem dL_words_181 : decode cL_words 181 = .ok (.ishr, 1) := by decide +kernel
theorem dL_words_182 : decode cL_words 182 = .ok (.iconst 3, 1) := by decide +kernel
theorem dL_words_183 : decode cL_words 183 = .ok (.iand, 1) := by decide +kernel
theorem dL_words_184 : decode cL_words 184 = .ok (.invokevirtual 32, 3) := by decide +kernel
theorem dL_words_187 : decode cL_words 187 = .ok (.invokevirtual 39, 3) := by decide +kernel
theorem dL_words_190 : decode cL_words 190 = .ok (.goto 5, 3) := by decide +kernel
theorem dL_words_98 : decode cL_words 98 = .ok (.astore_n 2, 1) := by decide +kernel
theorem dL_words_99 : decode cL_words 99 = .ok (.new 23, 3) := by decide +kernel
theorem dL_words_102 : decode cL_words 102 = .ok (.dup, 1) := by decide +kernel
theorem dL_words_103 : decode cL_words 103 = .ok (.invokespecial 25, 3) := by decide +kernel
theorem dL_words_106 : decode cL_words 106 = .ok (.aload_n 2, 1) := by decide +kernel
theorem dL_words_107 : decode cL_words 107 = .ok (.invokevirtual 28, 3) := by decide +kernel
theorem dL_words_110 : decode cL_words 110 = .ok (.ldc 47, 2) := by decide +kernel
theorem dL_words_112 : decode cL_words 112 = .ok (.invokevirtual 28, 3) := by decide +kernel
theorem dL_words_115 : decode cL_words 115 = .ok (.iload_n 0, 1) := by decide +kernel
theorem dL_words_116 : decode cL_words 116 = .ok (.bipush 17, 2) := by decide +kernel
theorem dL_words_118 : decode cL_words 118 = .ok (.ishr, 1) := by decide +kernel
theorem dL_words_119 : decode cL_words 119 = .ok (.bipush 7, 2) := by decide +kernel
theorem dL_words_121 : decode cL_words 121 = .ok (.iand, 1) := by decide +kernel
theorem dL_words_122 : decode cL_words 122 = .ok (.invokevirtual 32, 3) := by decide +kernel
theorem dL_words_125 : decode cL_words 125 = .ok (.ldc 35, 2) := by decide +kernel
theorem dL_words_127 : decode cL_words 127 = .ok (.invokevirtual 28, 3) := by decide +kernel
theorem dL_words_130 : decode cL_words 130 = .ok (.iload_n 0, 1) := by decide +kernel
theorem dL_words_131 : decode cL_words 131 = .ok (.bipush 20, 2) := by decide +kernel
theorem dL_words_133 : decode cL_words 133 = .ok (.ishr, 1) := by decide +kernel
theorem dL_words_134 : decode cL_words 134 = .ok (.bipush 7, 2) := by decide +kernel
theorem dL_words_136 : decode cL_words 136 = .ok (.iand, 1) := by decide +kernel
theorem dL_words_137 : decode cL_words 137 = .ok (.iload_n 1, 1) := by decide +kernel
theorem dL_words_138 : decode cL_words 138 = .ok (.irem, 1) := by decide +kernel
theorem dL_words_139 : decode cL_words 139 = .ok (.invokevirtual 32, 3) := by decide +kernel
theorem dL_words_142 : decode cL_words 142 = .ok (.iload_n 0, 1) := by decide +kernel
theorem dL_words_143 : decode cL_words 143 = .ok (.ldc 49, 2) := by decide +kernel
theorem dL_words_145 : decode cL_words 145 = .ok (.iand, 1) := by decide +kernel
theorem dL_words_146 : decode cL_words 146 = .ok (.ifCond .eq 8, 3) := by decide +kernel
theorem dL_words_154 : decode cL_words 154 = .ok (.ldc 52, 2) := by decide +kernel
theorem dL_words_149 : decode cL_words 149 = .ok (.ldc 50, 2) := by decide +kernel
theorem dL_words_151 : decode cL_words 151 = .ok (.goto 5, 3) := by decide +kernel
theorem dL_words_82 : decode cL_words 82 = .ok (.invokevirtual 28, 3) := by decide +kernel
theorem dL_words_85 : decode cL_words 85 = .ok (.ldc 45, 2) := by decide +kernel
theorem dL_words_87 : decode cL_words 87 = .ok (.invokevirtual 28, 3) := by decide +kernel
theorem dL_words_90 : decode cL_words 90 = .ok (.invokevirtual 39, 3) := by decide +kernel
theorem dL_words_93 : decode cL_words 93 = .ok (.goto 5, 3) := by decide +kernel
theorem dL_words_0 : decode cL_words 0 = .ok (.iload_n 0, 1) := by decide +kernel
theorem dL_words_1 : decode cL_words 1 = .ok (.iconst 1, 1) := by decide +kernel
theorem dL_words_2 : decode cL_words 2 = .ok (.iand, 1) := by decide +kernel
theorem dL_words_3 : decode cL_words 3 = .ok (.ifCond .eq 93, 3) := by decide +kernel
theorem dL_words_96 : decode cL_words 96 = .ok (.ldc 43, 2) := by decide +kernel
theorem dL_words_6 : decode cL_words 6 = .ok (.new 23, 3) := by decide +kernel
theorem dL_words_9 : decode cL_words 9 = .ok (.dup, 1) := by decide +kernel
theorem dL_words_10 : decode cL_words 10 = .ok (.invokespecial 25, 3) := by decide +kernel
theorem dL_words_13 : decode cL_words 13 = .ok (.ldc 26, 2) := by decide +kernel
theorem dL_words_15 : decode cL_words 15 = .ok (.invokevirtual 28, 3) := by decide +kernel
theorem dL_words_18 : decode cL_words 18 = .ok (.iload_n 0, 1) := by decide +kernel
theorem dL_words_19 : decode cL_words 19 = .ok (.iconst 1, 1) := by decide +kernel
theorem dL_words_20 : decode cL_words 20 = .ok (.ishr, 1) := by decide +kernel
theorem dL_words_21 : decode cL_words 21 = .ok (.bipush 63, 2) := by decide +kernel
theorem dL_words_23 : decode cL_words 23 = .ok (.iand, 1) := by decide +kernel
theorem dL_words_24 : decode cL_words 24 = .ok (.invokevirtual 32, 3) := by decide +kernel
theorem dL_words_27 : decode cL_words 27 = .ok (.ldc 35, 2) := by decide +kernel
theorem dL_words_29 : decode cL_words 29 = .ok (.invokevirtual 28, 3) := by decide +kernel
theorem dL_words_32 : decode cL_words 32 = .ok (.iload_n 0, 1) := by decide +kernel
theorem dL_words_33 : decode cL_words 33 = .ok (.bipush 7, 2) := by decide +kernel
theorem dL_words_35 : decode cL_words 35 = .ok (.ishr, 1) := by decide +kernel
theorem dL_words_36 : decode cL_words 36 = .ok (.bipush 7, 2) := by decide +kernel
theorem dL_words_38 : decode cL_words 38 = .ok (.iand, 1) := by decide +kernel
theorem dL_words_39 : decode cL_words 39 = .ok (.iload_n 1, 1) := by decide +kernel
theorem dL_words_40 : decode cL_words 40 = .ok (.irem, 1) := by decide +kernel
theorem dL_words_41 : decode cL_words 41 = .ok (.invokevirtual 32, 3) := by decide +kernel
theorem dL_words_44 : decode cL_words 44 = .ok (.iload_n 0, 1) := by decide +kernel
theorem dL_words_45 : decode cL_words 45 = .ok (.sipush 1024, 3) := by decide +kernel
theorem dL_words_48 : decode cL_words 48 = .ok (.iand, 1) := by decide +kernel
theorem dL_words_49 : decode cL_words 49 = .ok (.ifCond .eq 31, 3) := by decide +kernel
theorem dL_words_80 : decode cL_words 80 = .ok (.ldc 43, 2) := by decide +kernel
theorem dL_words_52 : decode cL_words 52 = .ok (.new 23, 3) := by decide +kernel
theorem dL_words_55 : decode cL_words 55 = .ok (.dup, 1) := by decide +kernel
theorem dL_words_56 : decode cL_words 56 = .ok (.invokespecial 25, 3) := by decide +kernel
theorem dL_words_59 : decode cL_words 59 = .ok (.ldc 37, 2) := by decide +kernel
theorem dL_words_61 : decode cL_words 61 = .ok (.invokevirtual 28, 3) := by decide +kernel
theorem dL_words_64 : decode cL_words 64 = .ok (.iload_n 0, 1) := by decide +kernel
theorem dL_words_65 : decode cL_words 65 = .ok (.bipush 11, 2) := by decide +kernel
theorem dL_words_67 : decode cL_words 67 = .ok (.ishr, 1) := by decide +kernel
theorem dL_words_68 : decode cL_words 68 = .ok (.bipush 63, 2) := by decide +kernel
theorem dL_words_70 : decode cL_words 70 = .ok (.iand, 1) := by decide +kernel
theorem dL_words_71 : decode cL_words 71 = .ok (.invokevirtual 32, 3) := by decide +kernel
theorem dL_words_74 : decode cL_words 74 = .ok (.invokevirtual 39, 3) := by decide +kernel
theorem dL_words_77 : decode cL_words 77 = .ok (.goto 5, 3) := by decide +kernel
set_option maxRecDepth 20000 in
theorem jw142 : Cond.code yJ4_append_15ec4 cJ4_append_15ec4 2 (some (.object "java/lang/StringBuilder")) ∈ WG := WG_of 569 rfl rfl
theorem jw143 : Cond.methodLink RL 28 yJ4_append_15ec4 ∈ WG := WG_of 566 (by decide +kernel) rfl
theorem jw144 : Cond.instanceMethod yJ4_append_15ec4 ∈ WG := WG_of 567 (by decide +kernel) rfl
theorem jw145 : Cond.selects RJ4 yJ4_append_15ec4 yJ4_append_15ec4 ∈ WG := WG_of 568 (by decide +kernel) rfl
set_option maxRecDepth 20000 in
theorem jw146 : Cond.code yJ4_toString_0e30d cJ4_toString_0e30d 1 (some (.object "java/lang/String")) ∈ WG := WG_of 714 rfl rfl
theorem jw147 : Cond.methodLink RL 39 yJ4_toString_0e30d ∈ WG := WG_of 711 (by decide +kernel) rfl
theorem jw148 : Cond.instanceMethod yJ4_toString_0e30d ∈ WG := WG_of 712 (by decide +kernel) rfl
theorem jw149 : Cond.selects RJ4 yJ4_toString_0e30d yJ4_toString_0e30d ∈ WG := WG_of 713 (by decide +kernel) rfl
theorem jw150 : Cond.classLink RL 23 RJ4 ∈ WG := WG_of 533 (by decide +kernel) rfl
set_option maxRecDepth 20000 in
theorem jw151 : Cond.code yJ4_init_da8c8 cJ4_init_da8c8 1 none ∈ WG := WG_of 537 rfl rfl
theorem jw152 : Cond.methodLink RL 25 yJ4_init_da8c8 ∈ WG := WG_of 535 (by decide +kernel) rfl
theorem jw153 : Cond.instanceMethod yJ4_init_da8c8 ∈ WG := WG_of 536 (by decide +kernel) rfl
set_option maxRecDepth 20000 in
theorem jw154 : Cond.code yJ4_append_cf468 cJ4_append_cf468 2 (some (.object "java/lang/StringBuilder")) ∈ WG := WG_of 788 rfl rfl
theorem jw155 : Cond.methodLink RL 68 yJ4_append_cf468 ∈ WG := WG_of 785 (by decide +kernel) rfl
theorem jw156 : Cond.instanceMethod yJ4_append_cf468 ∈ WG := WG_of 786 (by decide +kernel) rfl
theorem jw157 : Cond.selects RJ4 yJ4_append_cf468 yJ4_append_cf468 ∈ WG := WG_of 787 (by decide +kernel) rfl
theorem jw158 : Cond.constant RL 57 134217728 ∈ WG := WG_of 779 (by decide +kernel) rfl
set_option maxRecDepth 20000 in
theorem jw159 : Cond.code yJ4_append_bf812 cJ4_append_bf812 2 (some (.object "java/lang/StringBuilder")) ∈ WG := WG_of 687 rfl rfl
theorem jw160 : Cond.methodLink RL 32 yJ4_append_bf812 ∈ WG := WG_of 684 (by decide +kernel) rfl
theorem jw161 : Cond.instanceMethod yJ4_append_bf812 ∈ WG := WG_of 685 (by decide +kernel) rfl
theorem jw162 : Cond.selects RJ4 yJ4_append_bf812 yJ4_append_bf812 ∈ WG := WG_of 686 (by decide +kernel) rfl
theorem jw163 : Cond.constant RL 54 16777216 ∈ WG := WG_of 777 (by decide +kernel) rfl
theorem jw164 : Cond.constant RL 49 8388608 ∈ WG := WG_of 774 (by decide +kernel) rfl
set_option maxRecDepth 20000 in
theorem jl_words (l : Launch) (D : va_G) (ad : Nat → Nat) {z : Int32} {nn sz : Nat} (hn : 2 ≤ nn ∧ nn ≤ 7) : Met l yL_words (Cond.code yL_words cL_words 3 (some (.object "java/lang/String")) :: WG) { frames := 7, cells := 200, slots := 20000, locals := 262 } (PcW D ad [] [] sz [.int z, .int (nI nn)]) (QcW D [] sz (fun x ws' tys' => ∃ c : Nat, c ≤ 120 ∧ TQ (fun t => some (.ref t)) c x ws' tys')) 200 20000 (va_A [] sz) := by
  refine Met.ofW (cc := cL_words) (maxL := 3) (ret := (some (.object "java/lang/String"))) (by decide +kernel) rfl ?_
  intro p e s m args below meth c0 s₁ B0 hml hv
  obtain ⟨rfl, hz, hP, hK, hD0, hT, hC⟩ := hv
  have hx := B0.exec
  have hb := B0.bytes
  have hr := B0.returns
  have hts0 := atoms_spec (ws := Cond.code yL_words cL_words 3 (some (.object "java/lang/String")) :: WG) B0.pre
  have hts : ∀ w ∈ WG, w.before ([.int z, .int (nI nn)] : List Value).toArray s = true := fun w hw => hts0 w (List.mem_cons_of_mem _ hw)
  have hown : s.vm.findClass RL = some m.cls := findClass_of_methodNamed B0.named
  have hlocks := B0.notSynchronized
  have hl := lv_entry ([.int z, .int (nI nn)]) (n := 3) (Nat.le_of_ble_eq_true rfl)
  rw [lg_entry_eq]
  generalize (lg_sl ([.int z, .int (nI nn)]) ++ List.replicate (3 - (lg_sl ([.int z, .int (nI nn)])).length) Slot.unset).toArray = ls at hl ⊢
  have hl : lv_has ls 3 [(0, .int z), (1, .int (nI nn))] := hl
  subst hz
  have hD := hD0.self (sz := s.heap.size)
  have hA : ∀ q, s.heap.size ≤ q → va_A ([]) s.heap.size q := fun q h => Or.inr h
  have hS : va_S (va_A ([]) s.heap.size) s.heap s.heap [] := va_S.rf
  have hK0 := hK
  refine wx_intro (fun Q hQe => ?_)
  have K289 : ∀ (H : Heap) (locs : List Loc) (cells slots : Nat) (ls : Array Slot) (pl : va_W) (t0 : Nat) (b1 v1 c1 cp1 : Nat) (g1 : Nat → Int32) (cB1 : ClassId) (a2 w2 n2 : Nat) (f2 : Nat → Int32), cells ≤ 70 → slots ≤ 14000 → lv_has ls 3 [(2, .ref t0), (0, .int z), (1, .int (nI nn))] → va_P D vwCl ((SBX b1 v1 (c1) cp1 g1 cB1 ++ pl)) H → va_D (va_A [] s.heap.size) ((SBX b1 v1 (c1) cp1 g1 cB1 ++ pl)) → va_S (va_A [] s.heap.size) s.heap H locs → c1 ≤ 61 → c1 ≤ cp1 → cp1 ≤ 300 → FITB g1 → va_K D vwCl [(cB1, .byte)] s → n2 ≤ 18 → TXT D (va_A [] s.heap.size) s pl a2 w2 n2 f2 → W p l e ((headSpec (Cond.code yL_words cL_words 3 (some (.object "java/lang/String")) :: WG) { frames := 7, cells := 200, slots := 20000, locals := 262 }).room) s m (([.int z, .int (nI nn)] : List Value).toArray) below meth c0 H locs cells slots Q (F0 m 289 ls [.ref a2, .ref b1]) := by
    intro H locs cells slots ls pl t0 b1 v1 c1 cp1 g1 cB1 a2 w2 n2 f2 hcl hsl hl hP hD hS hb1 hc1 hm1 hg1 hK1 hn2 ht2
    have hK := hK1
    refine j_call (ws := (SBX b1 v1 (c1) cp1 g1 cB1)) (pl := pl) (va_runV (As := [.ref a2]) (rest := []) (b := b1) (Ts := WG) (own := RL) (C := RJ4) ⟨hx, hb, hml, hown, hts⟩ (js_appS l D ad (n := n2) (f := f2) (w := w2) (c := c1) (by omega) ⟨hc1, hm1⟩ ht2.1 hg1) ⟨cb_of (n := 1) hts jw142 jw128 (hts _ jw143) (by decide +kernel) (by decide +kernel) rfl rfl (Nat.le_of_ble_eq_true rfl) (Nat.le_of_ble_eq_true rfl), hts _ jw144, hts _ jw145⟩ ⟨PcWV.blind, bd_recv (i := 0) hK hP rfl, fun U hU hW => jpWV (ws := (SBX b1 v1 (c1) cp1 g1 cB1)) (pl := pl) hT hC (TXT.sv (ws := SBX b1 v1 (c1) cp1 g1 cB1) (pl := pl) ht2 hts hS hA hP hD) hS hA hP hD hK _ U hU hW⟩ rfl rfl hl.1 rfl (lv_room (Nat.le_of_ble_eq_true rfl)) dL_words_289 ⟨Nat.le_trans (m := 200) (by first | omega | (dsimp only; omega)) (Nat.le_of_ble_eq_true rfl), Nat.le_trans (m := 20000) (by first | omega | (dsimp only; omega)) (Nat.le_of_ble_eq_true rfl)⟩) hP hD hS hA (fun x9 ws9 tys9 H1 locs1 hφ hP hD hK hS => ?_)
    obtain ⟨rfl, v3, cp3, g3, cB3, rfl, rfl, hq3, hc3, hm3, hg3⟩ := hφ
    have hK3 := hK
    have hK := hK3
    refine j_call (ws := (SBX b1 v3 (c1 + n2) cp3 g3 cB3)) (pl := pl) (va_runV (As := []) (rest := []) (b := b1) (Ts := WG) (own := RL) (C := RJ4) ⟨hx, hb, hml, hown, hts⟩ (js_toS l D ad (c := c1 + n2) ⟨hc3, hm3⟩ hg3) ⟨cb_of (n := 0) hts jw146 jw128 (hts _ jw147) (by decide +kernel) (by decide +kernel) rfl rfl (Nat.le_of_ble_eq_true rfl) (Nat.le_of_ble_eq_true rfl), hts _ jw148, hts _ jw149⟩ ⟨PcW.blind, bd_recv (i := 0) hK hP rfl, fun U hU hW => jpW (ws := (SBX b1 v3 (c1 + n2) cp3 g3 cB3)) (pl := pl) hT hC hS hA hP hD hK _ U hU hW⟩ rfl rfl hl.1 rfl (lv_room (Nat.le_of_ble_eq_true rfl)) dL_words_292 ⟨Nat.le_trans (m := 200) (by first | omega | (dsimp only; omega)) (Nat.le_of_ble_eq_true rfl), Nat.le_trans (m := 20000) (by first | omega | (dsimp only; omega)) (Nat.le_of_ble_eq_true rfl)⟩) hP hD hS hA (fun x9 ws9 tys9 H1 locs1 hφ hP hD hK hS => ?_)
    obtain ⟨t4, w4, f4, cA4, rfl, rfl, rfl, hg4⟩ := hφ
    replace hP : va_P D vwCl ((pl ++ SVX t4 w4 (c1 + n2) f4 cA4)) _ := va_P.swap (a := []) (b := SVX t4 w4 (c1 + n2) f4 cA4) hP
    replace hD : va_D _ ((pl ++ SVX t4 w4 (c1 + n2) f4 cA4)) := va_D.swap (a := []) (b := SVX t4 w4 (c1 + n2) f4 cA4) hD
    have ht4 : TXT D (va_A [] s.heap.size) s (pl ++ SVX t4 w4 (c1 + n2) f4 cA4) t4 w4 (c1 + n2) f4 := TXT.last pl hK hg4
    refine lv_astore_n hx hb dL_words_295 rfl hl (by decide) rfl (fun ls hl => ?_)
    refine va_new (C := RJ4) (T := TJ4) (N := 4) (ci := 8) hx hb hts uwJ4 tyJ4 tyJ4_ok hown (hts _ jw150) (hts _ isJ4) (hts _ inJ4) hK0 hP hD hS hA rfl (fs := [.null, .int 0, .int 0, .int 0]) dvJ4 (Nat.le_trans (m := 200) (by first | omega | (dsimp only; omega)) (Nat.le_of_ble_eq_true rfl)) (Nat.le_trans (m := 20000) (by first | omega | (dsimp only; omega)) (Nat.le_of_ble_eq_true rfl)) dL_words_296 (fun b5 H1 hP hD hS => ?_)
    replace hP : va_P D vwCl ([(b5, .inr (8, [.null, .int 0, .int 0, .int 0]))] ++ (pl ++ SVX t4 w4 (c1 + n2) f4 cA4)) _ := va_P.swap (a := []) (b := (pl ++ SVX t4 w4 (c1 + n2) f4 cA4)) hP
    replace hD : va_D _ ([(b5, .inr (8, [.null, .int 0, .int 0, .int 0]))] ++ (pl ++ SVX t4 w4 (c1 + n2) f4 cA4)) := va_D.swap (a := []) (b := (pl ++ SVX t4 w4 (c1 + n2) f4 cA4)) hD
    refine lv_dup hx hb dL_words_299 rfl ?_
    have hK := hK0
    refine j_call (ws := [(b5, .inr (8, [.null, .int 0, .int 0, .int 0]))]) (pl := (pl ++ SVX t4 w4 (c1 + n2) f4 cA4)) (va_runI (As := []) (rest := [.ref b5]) (b := b5) (Ts := WG) (own := RL) ⟨hx, hb, hml, hown, hts⟩ (js_init l D ad) ⟨cb_of (n := 0) hts jw151 jw128 (hts _ jw152) (by decide +kernel) (by decide +kernel) rfl rfl (Nat.le_of_ble_eq_true rfl) (Nat.le_of_ble_eq_true rfl), rfl, hts _ jw153⟩ ⟨PcW.blind, fun U hU hW => jpW (ws := [(b5, .inr (8, [.null, .int 0, .int 0, .int 0]))]) (pl := (pl ++ SVX t4 w4 (c1 + n2) f4 cA4)) hT hC hS hA hP hD hK _ U hU hW⟩ rfl rfl hl.1 rfl (lv_room (Nat.le_of_ble_eq_true rfl)) dL_words_300 ⟨Nat.le_trans (m := 200) (by first | omega | (dsimp only; omega)) (Nat.le_of_ble_eq_true rfl), Nat.le_trans (m := 20000) (by first | omega | (dsimp only; omega)) (Nat.le_of_ble_eq_true rfl)⟩) hP hD hS hA (fun x9 ws9 tys9 H1 locs1 hφ hP hD hK hS => ?_)
    obtain ⟨rfl, v5, cp5, g5, cB5, rfl, rfl, hq5, hc5, hm5, hg5⟩ := hφ
    have hK5 := hK
    refine lv_aload_n hx hb dL_words_303 rfl (lv_at hl 0 rfl) ?_
    have hK := hK5
    refine j_call (ws := (SBX b5 v5 (0) cp5 g5 cB5)) (pl := (pl ++ SVX t4 w4 (c1 + n2) f4 cA4)) (va_runV (As := [.ref t4]) (rest := []) (b := b5) (Ts := WG) (own := RL) (C := RJ4) ⟨hx, hb, hml, hown, hts⟩ (js_appS l D ad (n := (c1 + n2)) (f := f4) (w := w4) (c := 0) (by omega) ⟨hc5, hm5⟩ ht4.1 hg5) ⟨cb_of (n := 1) hts jw142 jw128 (hts _ jw143) (by decide +kernel) (by decide +kernel) rfl rfl (Nat.le_of_ble_eq_true rfl) (Nat.le_of_ble_eq_true rfl), hts _ jw144, hts _ jw145⟩ ⟨PcWV.blind, bd_recv (i := 0) hK hP rfl, fun U hU hW => jpWV (ws := (SBX b5 v5 (0) cp5 g5 cB5)) (pl := (pl ++ SVX t4 w4 (c1 + n2) f4 cA4)) hT hC (TXT.sv (ws := SBX b5 v5 (0) cp5 g5 cB5) (pl := (pl ++ SVX t4 w4 (c1 + n2) f4 cA4)) ht4 hts hS hA hP hD) hS hA hP hD hK _ U hU hW⟩ rfl rfl hl.1 rfl (lv_room (Nat.le_of_ble_eq_true rfl)) dL_words_304 ⟨Nat.le_trans (m := 200) (by first | omega | (dsimp only; omega)) (Nat.le_of_ble_eq_true rfl), Nat.le_trans (m := 20000) (by first | omega | (dsimp only; omega)) (Nat.le_of_ble_eq_true rfl)⟩) hP hD hS hA (fun x9 ws9 tys9 H1 locs1 hφ hP hD hK hS => ?_)
    obtain ⟨rfl, v6, cp6, g6, cB6, rfl, rfl, hq6, hc6, hm6, hg6⟩ := hφ
    have hK6 := hK
    refine va_ldcS (own := RL) hx hb hown (show vk_R RL 66 "rest " (ad 27) s from hT.2.1 27 66 "rest " (by decide +kernel)) dL_words_307 ?_
    obtain ⟨w7, f7, ht7⟩ := TXT.const (D := D) hT (pl ++ SVX t4 w4 (c1 + n2) f4 cA4) (i := 27) (L := 5) (by decide) (by decide +kernel)
    have hK := hK6
    refine j_call (ws := (SBX b5 v6 (0 + (c1 + n2)) cp6 g6 cB6)) (pl := (pl ++ SVX t4 w4 (c1 + n2) f4 cA4)) (va_runV (As := [.ref (ad 27)]) (rest := []) (b := b5) (Ts := WG) (own := RL) (C := RJ4) ⟨hx, hb, hml, hown, hts⟩ (js_appS l D ad (n := 5) (f := f7) (w := w7) (c := 0 + (c1 + n2)) (by omega) ⟨hc6, hm6⟩ ht7.1 hg6) ⟨cb_of (n := 1) hts jw142 jw128 (hts _ jw143) (by decide +kernel) (by decide +kernel) rfl rfl (Nat.le_of_ble_eq_true rfl) (Nat.le_of_ble_eq_true rfl), hts _ jw144, hts _ jw145⟩ ⟨PcWV.blind, bd_recv (i := 0) hK hP rfl, fun U hU hW => jpWV (ws := (SBX b5 v6 (0 + (c1 + n2)) cp6 g6 cB6)) (pl := (pl ++ SVX t4 w4 (c1 + n2) f4 cA4)) hT hC (TXT.sv (ws := SBX b5 v6 (0 + (c1 + n2)) cp6 g6 cB6) (pl := (pl ++ SVX t4 w4 (c1 + n2) f4 cA4)) ht7 hts hS hA hP hD) hS hA hP hD hK _ U hU hW⟩ rfl rfl hl.1 rfl (lv_room (Nat.le_of_ble_eq_true rfl)) dL_words_309 ⟨Nat.le_trans (m := 200) (by first | omega | (dsimp only; omega)) (Nat.le_of_ble_eq_true rfl), Nat.le_trans (m := 20000) (by first | omega | (dsimp only; omega)) (Nat.le_of_ble_eq_true rfl)⟩) hP hD hS hA (fun x9 ws9 tys9 H1 locs1 hφ hP hD hK hS => ?_)
    obtain ⟨rfl, v8, cp8, g8, cB8, rfl, rfl, hq8, hc8, hm8, hg8⟩ := hφ
    have hK8 := hK
    refine lv_bipush (v := nI 97) hx hb dL_words_312 (by decide) ?_
    refine lv_iload_n hx hb dL_words_314 rfl (lv_at hl 1 rfl) ?_
    refine lv_bipush (v := nI 28) hx hb dL_words_315 (by decide) ?_
    refine lv_ishr hx hb dL_words_317 ?_
    refine lv_bipush (v := nI 7) hx hb dL_words_318 (by decide) ?_
    refine lv_and2 hx hb 3 (by decide) dL_words_320 (fun x9 hx9 => ?_)
    have hy9 : x9 < 8 := hx9
    refine lv_iadd hx hb dL_words_321 ?_
    rw [nI_add]
    refine lv_i2c hx hb dL_words_322 (i2c_small hy9) ?_
    have hK := hK8
    refine j_call (ws := (SBX b5 v8 (0 + (c1 + n2) + 5) cp8 g8 cB8)) (pl := (pl ++ SVX t4 w4 (c1 + n2) f4 cA4)) (va_runV (As := [.int (nI (97 + x9))]) (rest := []) (b := b5) (Ts := WG) (own := RL) (C := RJ4) ⟨hx, hb, hml, hown, hts⟩ (js_appC l D ad (x := 97 + x9) (c := 0 + (c1 + n2) + 5) (by omega) (by omega) ⟨hc8, hm8⟩ hg8) ⟨cb_of (n := 1) hts jw154 jw128 (hts _ jw155) (by decide +kernel) (by decide +kernel) rfl rfl (Nat.le_of_ble_eq_true rfl) (Nat.le_of_ble_eq_true rfl), hts _ jw156, hts _ jw157⟩ ⟨PcW.blind, bd_recv (i := 0) hK hP rfl, fun U hU hW => jpW (ws := (SBX b5 v8 (0 + (c1 + n2) + 5) cp8 g8 cB8)) (pl := (pl ++ SVX t4 w4 (c1 + n2) f4 cA4)) hT hC hS hA hP hD hK _ U hU hW⟩ rfl rfl hl.1 rfl (lv_room (Nat.le_of_ble_eq_true rfl)) dL_words_323 ⟨Nat.le_trans (m := 200) (by first | omega | (dsimp only; omega)) (Nat.le_of_ble_eq_true rfl), Nat.le_trans (m := 20000) (by first | omega | (dsimp only; omega)) (Nat.le_of_ble_eq_true rfl)⟩) hP hD hS hA (fun x9 ws9 tys9 H1 locs1 hφ hP hD hK hS => ?_)
    obtain ⟨rfl, v10, cp10, g10, cB10, rfl, rfl, hq10, hc10, hm10, hg10⟩ := hφ
    have hK10 := hK
    have hK := hK10
    refine j_call (ws := (SBX b5 v10 (0 + (c1 + n2) + 5 + 1) cp10 g10 cB10)) (pl := (pl ++ SVX t4 w4 (c1 + n2) f4 cA4)) (va_runV (As := []) (rest := []) (b := b5) (Ts := WG) (own := RL) (C := RJ4) ⟨hx, hb, hml, hown, hts⟩ (js_toS l D ad (c := 0 + (c1 + n2) + 5 + 1) ⟨hc10, hm10⟩ hg10) ⟨cb_of (n := 0) hts jw146 jw128 (hts _ jw147) (by decide +kernel) (by decide +kernel) rfl rfl (Nat.le_of_ble_eq_true rfl) (Nat.le_of_ble_eq_true rfl), hts _ jw148, hts _ jw149⟩ ⟨PcW.blind, bd_recv (i := 0) hK hP rfl, fun U hU hW => jpW (ws := (SBX b5 v10 (0 + (c1 + n2) + 5 + 1) cp10 g10 cB10)) (pl := (pl ++ SVX t4 w4 (c1 + n2) f4 cA4)) hT hC hS hA hP hD hK _ U hU hW⟩ rfl rfl hl.1 rfl (lv_room (Nat.le_of_ble_eq_true rfl)) dL_words_326 ⟨Nat.le_trans (m := 200) (by first | omega | (dsimp only; omega)) (Nat.le_of_ble_eq_true rfl), Nat.le_trans (m := 20000) (by first | omega | (dsimp only; omega)) (Nat.le_of_ble_eq_true rfl)⟩) hP hD hS hA (fun x9 ws9 tys9 H1 locs1 hφ hP hD hK hS => ?_)
    obtain ⟨t11, w11, f11, cA11, rfl, rfl, rfl, hg11⟩ := hφ
    replace hP : va_P D vwCl (((pl ++ SVX t4 w4 (c1 + n2) f4 cA4) ++ SVX t11 w11 (0 + (c1 + n2) + 5 + 1) f11 cA11)) _ := va_P.swap (a := []) (b := SVX t11 w11 (0 + (c1 + n2) + 5 + 1) f11 cA11) hP
    replace hD : va_D _ (((pl ++ SVX t4 w4 (c1 + n2) f4 cA4) ++ SVX t11 w11 (0 + (c1 + n2) + 5 + 1) f11 cA11)) := va_D.swap (a := []) (b := SVX t11 w11 (0 + (c1 + n2) + 5 + 1) f11 cA11) hD
    have ht11 : TXT D (va_A [] s.heap.size) s ((pl ++ SVX t4 w4 (c1 + n2) f4 cA4) ++ SVX t11 w11 (0 + (c1 + n2) + 5 + 1) f11 cA11) t11 w11 (0 + (c1 + n2) + 5 + 1) f11 := TXT.last (pl ++ SVX t4 w4 (c1 + n2) f4 cA4) hK hg11
    refine W.widen (k := 200) (n := 20000) (by omega) (by omega) ?_
    subst hQe
    have hP9 : va_P D vwCl (SVX t11 w11 (0 + (c1 + n2) + 5 + 1) f11 cA11) _ := hP.by (fun i => (pl ++ SVX t4 w4 (c1 + n2) f4 cA4).length + i) (fun i q hq => by rw [List.getElem?_append_right (Nat.le_add_right _ _), Nat.add_sub_cancel_left]; exact hq)
    have hD9 : va_D _ (SVX t11 w11 (0 + (c1 + n2) + 5 + 1) f11 cA11) := hD.by (fun i => (pl ++ SVX t4 w4 (c1 + n2) f4 cA4).length + i) (fun i q hq => by rw [List.getElem?_append_right (Nat.le_add_right _ _), Nat.add_sub_cancel_left]; exact hq) (fun i j _ _ h => by omega)
    exact W.aret hx hb hr (by first | exact Or.inl ⟨_, rfl⟩ | exact Or.inr ⟨_, rfl⟩) (Or.inr ⟨_, rfl⟩) (fun t9 ht9 hW9 => ⟨⟨(some (.ref t11)), _, _, rfl, ⟨(0 + (c1 + n2) + 5 + 1), by omega, t11, w11, f11, cA11, rfl, rfl, rfl, ht11.1⟩, by rw [ht9]; exact hP9, va_K.moved hW9.alike hK, hD9⟩, hS.F ht9⟩) hS.2.2 dL_words_329
  have K195 : ∀ (H : Heap) (locs : List Loc) (cells slots : Nat) (ls : Array Slot) (pl : va_W) (t0 : Nat) (b12 v12 c12 cp12 : Nat) (g12 : Nat → Int32) (cB12 : ClassId) (a13 w13 n13 : Nat) (f13 : Nat → Int32), cells ≤ 45 → slots ≤ 9500 → lv_has ls 3 [(2, .ref t0), (0, .int z), (1, .int (nI nn))] → va_P D vwCl ((SBX b12 v12 (c12) cp12 g12 cB12 ++ pl)) H → va_D (va_A [] s.heap.size) ((SBX b12 v12 (c12) cp12 g12 cB12 ++ pl)) → va_S (va_A [] s.heap.size) s.heap H locs → c12 ≤ 46 → c12 ≤ cp12 → cp12 ≤ 300 → FITB g12 → va_K D vwCl [(cB12, .byte)] s → n13 ≤ 13 → TXT D (va_A [] s.heap.size) s pl a13 w13 n13 f13 → W p l e ((headSpec (Cond.code yL_words cL_words 3 (some (.object "java/lang/String")) :: WG) { frames := 7, cells := 200, slots := 20000, locals := 262 }).room) s m (([.int z, .int (nI nn)] : List Value).toArray) below meth c0 H locs cells slots Q (F0 m 195 ls [.ref a13, .ref b12]) := by
    intro H locs cells slots ls pl t0 b12 v12 c12 cp12 g12 cB12 a13 w13 n13 f13 hcl hsl hl hP hD hS hb12 hc12 hm12 hg12 hK12 hn13 ht13
    have hK := hK12
    refine j_call (ws := (SBX b12 v12 (c12) cp12 g12 cB12)) (pl := pl) (va_runV (As := [.ref a13]) (rest := []) (b := b12) (Ts := WG) (own := RL) (C := RJ4) ⟨hx, hb, hml, hown, hts⟩ (js_appS l D ad (n := n13) (f := f13) (w := w13) (c := c12) (by omega) ⟨hc12, hm12⟩ ht13.1 hg12) ⟨cb_of (n := 1) hts jw142 jw128 (hts _ jw143) (by decide +kernel) (by decide +kernel) rfl rfl (Nat.le_of_ble_eq_true rfl) (Nat.le_of_ble_eq_true rfl), hts _ jw144, hts _ jw145⟩ ⟨PcWV.blind, bd_recv (i := 0) hK hP rfl, fun U hU hW => jpWV (ws := (SBX b12 v12 (c12) cp12 g12 cB12)) (pl := pl) hT hC (TXT.sv (ws := SBX b12 v12 (c12) cp12 g12 cB12) (pl := pl) ht13 hts hS hA hP hD) hS hA hP hD hK _ U hU hW⟩ rfl rfl hl.1 rfl (lv_room (Nat.le_of_ble_eq_true rfl)) dL_words_195 ⟨Nat.le_trans (m := 200) (by first | omega | (dsimp only; omega)) (Nat.le_of_ble_eq_true rfl), Nat.le_trans (m := 20000) (by first | omega | (dsimp only; omega)) (Nat.le_of_ble_eq_true rfl)⟩) hP hD hS hA (fun x9 ws9 tys9 H1 locs1 hφ hP hD hK hS => ?_)
    obtain ⟨rfl, v14, cp14, g14, cB14, rfl, rfl, hq14, hc14, hm14, hg14⟩ := hφ
    have hK14 := hK
    refine va_ldcS (own := RL) hx hb hown (show vk_R RL 45 "; " (ad 18) s from hT.2.1 18 45 "; " (by decide +kernel)) dL_words_198 ?_
    obtain ⟨w15, f15, ht15⟩ := TXT.const (D := D) hT pl (i := 18) (L := 2) (by decide) (by decide +kernel)
    have hK := hK14
    refine j_call (ws := (SBX b12 v14 (c12 + n13) cp14 g14 cB14)) (pl := pl) (va_runV (As := [.ref (ad 18)]) (rest := []) (b := b12) (Ts := WG) (own := RL) (C := RJ4) ⟨hx, hb, hml, hown, hts⟩ (js_appS l D ad (n := 2) (f := f15) (w := w15) (c := c12 + n13) (by omega) ⟨hc14, hm14⟩ ht15.1 hg14) ⟨cb_of (n := 1) hts jw142 jw128 (hts _ jw143) (by decide +kernel) (by decide +kernel) rfl rfl (Nat.le_of_ble_eq_true rfl) (Nat.le_of_ble_eq_true rfl), hts _ jw144, hts _ jw145⟩ ⟨PcWV.blind, bd_recv (i := 0) hK hP rfl, fun U hU hW => jpWV (ws := (SBX b12 v14 (c12 + n13) cp14 g14 cB14)) (pl := pl) hT hC (TXT.sv (ws := SBX b12 v14 (c12 + n13) cp14 g14 cB14) (pl := pl) ht15 hts hS hA hP hD) hS hA hP hD hK _ U hU hW⟩ rfl rfl hl.1 rfl (lv_room (Nat.le_of_ble_eq_true rfl)) dL_words_200 ⟨Nat.le_trans (m := 200) (by first | omega | (dsimp only; omega)) (Nat.le_of_ble_eq_true rfl), Nat.le_trans (m := 20000) (by first | omega | (dsimp only; omega)) (Nat.le_of_ble_eq_true rfl)⟩) hP hD hS hA (fun x9 ws9 tys9 H1 locs1 hφ hP hD hK hS => ?_)
    obtain ⟨rfl, v16, cp16, g16, cB16, rfl, rfl, hq16, hc16, hm16, hg16⟩ := hφ
    have hK16 := hK
    have hK := hK16
    refine j_call (ws := (SBX b12 v16 (c12 + n13 + 2) cp16 g16 cB16)) (pl := pl) (va_runV (As := []) (rest := []) (b := b12) (Ts := WG) (own := RL) (C := RJ4) ⟨hx, hb, hml, hown, hts⟩ (js_toS l D ad (c := c12 + n13 + 2) ⟨hc16, hm16⟩ hg16) ⟨cb_of (n := 0) hts jw146 jw128 (hts _ jw147) (by decide +kernel) (by decide +kernel) rfl rfl (Nat.le_of_ble_eq_true rfl) (Nat.le_of_ble_eq_true rfl), hts _ jw148, hts _ jw149⟩ ⟨PcW.blind, bd_recv (i := 0) hK hP rfl, fun U hU hW => jpW (ws := (SBX b12 v16 (c12 + n13 + 2) cp16 g16 cB16)) (pl := pl) hT hC hS hA hP hD hK _ U hU hW⟩ rfl rfl hl.1 rfl (lv_room (Nat.le_of_ble_eq_true rfl)) dL_words_203 ⟨Nat.le_trans (m := 200) (by first | omega | (dsimp only; omega)) (Nat.le_of_ble_eq_true rfl), Nat.le_trans (m := 20000) (by first | omega | (dsimp only; omega)) (Nat.le_of_ble_eq_true rfl)⟩) hP hD hS hA (fun x9 ws9 tys9 H1 locs1 hφ hP hD hK hS => ?_)
    obtain ⟨t17, w17, f17, cA17, rfl, rfl, rfl, hg17⟩ := hφ
    replace hP : va_P D vwCl ((pl ++ SVX t17 w17 (c12 + n13 + 2) f17 cA17)) _ := va_P.swap (a := []) (b := SVX t17 w17 (c12 + n13 + 2) f17 cA17) hP
    replace hD : va_D _ ((pl ++ SVX t17 w17 (c12 + n13 + 2) f17 cA17)) := va_D.swap (a := []) (b := SVX t17 w17 (c12 + n13 + 2) f17 cA17) hD
    have ht17 : TXT D (va_A [] s.heap.size) s (pl ++ SVX t17 w17 (c12 + n13 + 2) f17 cA17) t17 w17 (c12 + n13 + 2) f17 := TXT.last pl hK hg17
    refine lv_astore_n hx hb dL_words_206 rfl hl (by decide) rfl (fun ls hl => ?_)
    refine va_new (C := RJ4) (T := TJ4) (N := 4) (ci := 8) hx hb hts uwJ4 tyJ4 tyJ4_ok hown (hts _ jw150) (hts _ isJ4) (hts _ inJ4) hK0 hP hD hS hA rfl (fs := [.null, .int 0, .int 0, .int 0]) dvJ4 (Nat.le_trans (m := 200) (by first | omega | (dsimp only; omega)) (Nat.le_of_ble_eq_true rfl)) (Nat.le_trans (m := 20000) (by first | omega | (dsimp only; omega)) (Nat.le_of_ble_eq_true rfl)) dL_words_207 (fun b18 H1 hP hD hS => ?_)
    replace hP : va_P D vwCl ([(b18, .inr (8, [.null, .int 0, .int 0, .int 0]))] ++ (pl ++ SVX t17 w17 (c12 + n13 + 2) f17 cA17)) _ := va_P.swap (a := []) (b := (pl ++ SVX t17 w17 (c12 + n13 + 2) f17 cA17)) hP
    replace hD : va_D _ ([(b18, .inr (8, [.null, .int 0, .int 0, .int 0]))] ++ (pl ++ SVX t17 w17 (c12 + n13 + 2) f17 cA17)) := va_D.swap (a := []) (b := (pl ++ SVX t17 w17 (c12 + n13 + 2) f17 cA17)) hD
    refine lv_dup hx hb dL_words_210 rfl ?_
    have hK := hK0
    refine j_call (ws := [(b18, .inr (8, [.null, .int 0, .int 0, .int 0]))]) (pl := (pl ++ SVX t17 w17 (c12 + n13 + 2) f17 cA17)) (va_runI (As := []) (rest := [.ref b18]) (b := b18) (Ts := WG) (own := RL) ⟨hx, hb, hml, hown, hts⟩ (js_init l D ad) ⟨cb_of (n := 0) hts jw151 jw128 (hts _ jw152) (by decide +kernel) (by decide +kernel) rfl rfl (Nat.le_of_ble_eq_true rfl) (Nat.le_of_ble_eq_true rfl), rfl, hts _ jw153⟩ ⟨PcW.blind, fun U hU hW => jpW (ws := [(b18, .inr (8, [.null, .int 0, .int 0, .int 0]))]) (pl := (pl ++ SVX t17 w17 (c12 + n13 + 2) f17 cA17)) hT hC hS hA hP hD hK _ U hU hW⟩ rfl rfl hl.1 rfl (lv_room (Nat.le_of_ble_eq_true rfl)) dL_words_211 ⟨Nat.le_trans (m := 200) (by first | omega | (dsimp only; omega)) (Nat.le_of_ble_eq_true rfl), Nat.le_trans (m := 20000) (by first | omega | (dsimp only; omega)) (Nat.le_of_ble_eq_true rfl)⟩) hP hD hS hA (fun x9 ws9 tys9 H1 locs1 hφ hP hD hK hS => ?_)
    obtain ⟨rfl, v18, cp18, g18, cB18, rfl, rfl, hq18, hc18, hm18, hg18⟩ := hφ
    have hK18 := hK
    refine lv_aload_n hx hb dL_words_214 rfl (lv_at hl 0 rfl) ?_
    have hK := hK18
    refine j_call (ws := (SBX b18 v18 (0) cp18 g18 cB18)) (pl := (pl ++ SVX t17 w17 (c12 + n13 + 2) f17 cA17)) (va_runV (As := [.ref t17]) (rest := []) (b := b18) (Ts := WG) (own := RL) (C := RJ4) ⟨hx, hb, hml, hown, hts⟩ (js_appS l D ad (n := (c12 + n13 + 2)) (f := f17) (w := w17) (c := 0) (by omega) ⟨hc18, hm18⟩ ht17.1 hg18) ⟨cb_of (n := 1) hts jw142 jw128 (hts _ jw143) (by decide +kernel) (by decide +kernel) rfl rfl (Nat.le_of_ble_eq_true rfl) (Nat.le_of_ble_eq_true rfl), hts _ jw144, hts _ jw145⟩ ⟨PcWV.blind, bd_recv (i := 0) hK hP rfl, fun U hU hW => jpWV (ws := (SBX b18 v18 (0) cp18 g18 cB18)) (pl := (pl ++ SVX t17 w17 (c12 + n13 + 2) f17 cA17)) hT hC (TXT.sv (ws := SBX b18 v18 (0) cp18 g18 cB18) (pl := (pl ++ SVX t17 w17 (c12 + n13 + 2) f17 cA17)) ht17 hts hS hA hP hD) hS hA hP hD hK _ U hU hW⟩ rfl rfl hl.1 rfl (lv_room (Nat.le_of_ble_eq_true rfl)) dL_words_215 ⟨Nat.le_trans (m := 200) (by first | omega | (dsimp only; omega)) (Nat.le_of_ble_eq_true rfl), Nat.le_trans (m := 20000) (by first | omega | (dsimp only; omega)) (Nat.le_of_ble_eq_true rfl)⟩) hP hD hS hA (fun x9 ws9 tys9 H1 locs1 hφ hP hD hK hS => ?_)
    obtain ⟨rfl, v19, cp19, g19, cB19, rfl, rfl, hq19, hc19, hm19, hg19⟩ := hφ
    have hK19 := hK
    refine lv_iload_n hx hb dL_words_218 rfl (lv_at hl 1 rfl) ?_
    refine lv_ldc (v := 134217728) hx hb hown (hts _ jw158) dL_words_219 ?_
    refine lv_iand hx hb dL_words_221 ?_
    refine lv_if_eq (tgt := 258) hx hb dL_words_222 (by first | decide | rfl) (fun _ => ?_) (fun _ => ?_)
    · refine va_new (C := RJ4) (T := TJ4) (N := 4) (ci := 8) hx hb hts uwJ4 tyJ4 tyJ4_ok hown (hts _ jw150) (hts _ isJ4) (hts _ inJ4) hK0 hP hD hS hA rfl (fs := [.null, .int 0, .int 0, .int 0]) dvJ4 (Nat.le_trans (m := 200) (by first | omega | (dsimp only; omega)) (Nat.le_of_ble_eq_true rfl)) (Nat.le_trans (m := 20000) (by first | omega | (dsimp only; omega)) (Nat.le_of_ble_eq_true rfl)) dL_words_258 (fun b20 H1 hP hD hS => ?_)
      replace hP : va_P D vwCl ([(b20, .inr (8, [.null, .int 0, .int 0, .int 0]))] ++ (SBX b18 v19 (0 + (c12 + n13 + 2)) cp19 g19 cB19 ++ (pl ++ SVX t17 w17 (c12 + n13 + 2) f17 cA17))) _ := va_P.swap (a := []) (b := (SBX b18 v19 (0 + (c12 + n13 + 2)) cp19 g19 cB19 ++ (pl ++ SVX t17 w17 (c12 + n13 + 2) f17 cA17))) hP
      replace hD : va_D _ ([(b20, .inr (8, [.null, .int 0, .int 0, .int 0]))] ++ (SBX b18 v19 (0 + (c12 + n13 + 2)) cp19 g19 cB19 ++ (pl ++ SVX t17 w17 (c12 + n13 + 2) f17 cA17))) := va_D.swap (a := []) (b := (SBX b18 v19 (0 + (c12 + n13 + 2)) cp19 g19 cB19 ++ (pl ++ SVX t17 w17 (c12 + n13 + 2) f17 cA17))) hD
      refine lv_dup hx hb dL_words_261 rfl ?_
      have hK := hK0
      refine j_call (ws := [(b20, .inr (8, [.null, .int 0, .int 0, .int 0]))]) (pl := (SBX b18 v19 (0 + (c12 + n13 + 2)) cp19 g19 cB19 ++ (pl ++ SVX t17 w17 (c12 + n13 + 2) f17 cA17))) (va_runI (As := []) (rest := [.ref b20, .ref b18]) (b := b20) (Ts := WG) (own := RL) ⟨hx, hb, hml, hown, hts⟩ (js_init l D ad) ⟨cb_of (n := 0) hts jw151 jw128 (hts _ jw152) (by decide +kernel) (by decide +kernel) rfl rfl (Nat.le_of_ble_eq_true rfl) (Nat.le_of_ble_eq_true rfl), rfl, hts _ jw153⟩ ⟨PcW.blind, fun U hU hW => jpW (ws := [(b20, .inr (8, [.null, .int 0, .int 0, .int 0]))]) (pl := (SBX b18 v19 (0 + (c12 + n13 + 2)) cp19 g19 cB19 ++ (pl ++ SVX t17 w17 (c12 + n13 + 2) f17 cA17))) hT hC hS hA hP hD hK _ U hU hW⟩ rfl rfl hl.1 rfl (lv_room (Nat.le_of_ble_eq_true rfl)) dL_words_262 ⟨Nat.le_trans (m := 200) (by first | omega | (dsimp only; omega)) (Nat.le_of_ble_eq_true rfl), Nat.le_trans (m := 20000) (by first | omega | (dsimp only; omega)) (Nat.le_of_ble_eq_true rfl)⟩) hP hD hS hA (fun x9 ws9 tys9 H1 locs1 hφ hP hD hK hS => ?_)
      obtain ⟨rfl, v20, cp20, g20, cB20, rfl, rfl, hq20, hc20, hm20, hg20⟩ := hφ
      have hK20 := hK
      refine va_ldcS (own := RL) hx hb hown (show vk_R RL 62 "line 4 p" (ad 25) s from hT.2.1 25 62 "line 4 p" (by decide +kernel)) dL_words_265 ?_
      obtain ⟨w21, f21, ht21⟩ := TXT.const (D := D) hT (pl ++ SVX t17 w17 (c12 + n13 + 2) f17 cA17) (i := 25) (L := 8) (by decide) (by decide +kernel)
      have hK := hK20
      refine j_call (ws := (SBX b20 v20 (0) cp20 g20 cB20)) (pl := (SBX b18 v19 (0 + (c12 + n13 + 2)) cp19 g19 cB19 ++ (pl ++ SVX t17 w17 (c12 + n13 + 2) f17 cA17))) (va_runV (As := [.ref (ad 25)]) (rest := [.ref b18]) (b := b20) (Ts := WG) (own := RL) (C := RJ4) ⟨hx, hb, hml, hown, hts⟩ (js_appS l D ad (n := 8) (f := f21) (w := w21) (c := 0) (by omega) ⟨hc20, hm20⟩ ht21.1 hg20) ⟨cb_of (n := 1) hts jw142 jw128 (hts _ jw143) (by decide +kernel) (by decide +kernel) rfl rfl (Nat.le_of_ble_eq_true rfl) (Nat.le_of_ble_eq_true rfl), hts _ jw144, hts _ jw145⟩ ⟨PcWV.blind, bd_recv (i := 0) hK hP rfl, fun U hU hW => jpWV (ws := (SBX b20 v20 (0) cp20 g20 cB20)) (pl := (SBX b18 v19 (0 + (c12 + n13 + 2)) cp19 g19 cB19 ++ (pl ++ SVX t17 w17 (c12 + n13 + 2) f17 cA17))) hT hC (TXT.sv (ws := SBX b20 v20 (0) cp20 g20 cB20) (pl := (SBX b18 v19 (0 + (c12 + n13 + 2)) cp19 g19 cB19 ++ (pl ++ SVX t17 w17 (c12 + n13 + 2) f17 cA17))) (TXT.pre ht21 (SBX b18 v19 (0 + (c12 + n13 + 2)) cp19 g19 cB19)) hts hS hA hP hD) hS hA hP hD hK _ U hU hW⟩ rfl rfl hl.1 rfl (lv_room (Nat.le_of_ble_eq_true rfl)) dL_words_267 ⟨Nat.le_trans (m := 200) (by first | omega | (dsimp only; omega)) (Nat.le_of_ble_eq_true rfl), Nat.le_trans (m := 20000) (by first | omega | (dsimp only; omega)) (Nat.le_of_ble_eq_true rfl)⟩) hP hD hS hA (fun x9 ws9 tys9 H1 locs1 hφ hP hD hK hS => ?_)
      obtain ⟨rfl, v22, cp22, g22, cB22, rfl, rfl, hq22, hc22, hm22, hg22⟩ := hφ
      have hK22 := hK
      refine lv_iload_n hx hb dL_words_270 rfl (lv_at hl 1 rfl) ?_
      refine lv_iconst (v := nI 3) hx hb dL_words_271 (by decide) ?_
      refine lv_ishr hx hb dL_words_272 ?_
      refine lv_bipush (v := nI 7) hx hb dL_words_273 (by decide) ?_
      refine lv_and2 hx hb 3 (by decide) dL_words_275 (fun x23 hx23 => ?_)
      have hy23 : x23 < 8 := hx23
      refine lv_iload_n hx hb dL_words_276 rfl (lv_at hl 2 rfl) ?_
      refine lv_rem2 hx hb (x := x23) (by omega) hn dL_words_277 (fun x24 hx24 => ?_)
      have hK := hK22
      have hd25 := dgn_le x24
      refine j_call (ws := (SBX b20 v22 (0 + 8) cp22 g22 cB22)) (pl := (SBX b18 v19 (0 + (c12 + n13 + 2)) cp19 g19 cB19 ++ (pl ++ SVX t17 w17 (c12 + n13 + 2) f17 cA17))) (va_runV (As := [.int (nI x24)]) (rest := [.ref b18]) (b := b20) (Ts := WG) (own := RL) (C := RJ4) ⟨hx, hb, hml, hown, hts⟩ (js_appI l D ad (x := x24) (c := 0 + 8) (by omega) (by omega) ⟨hc22, hm22⟩ hg22) ⟨cb_of (n := 1) hts jw159 jw128 (hts _ jw160) (by decide +kernel) (by decide +kernel) rfl rfl (Nat.le_of_ble_eq_true rfl) (Nat.le_of_ble_eq_true rfl), hts _ jw161, hts _ jw162⟩ ⟨PcW.blind, bd_recv (i := 0) hK hP rfl, fun U hU hW => jpW (ws := (SBX b20 v22 (0 + 8) cp22 g22 cB22)) (pl := (SBX b18 v19 (0 + (c12 + n13 + 2)) cp19 g19 cB19 ++ (pl ++ SVX t17 w17 (c12 + n13 + 2) f17 cA17))) hT hC hS hA hP hD hK _ U hU hW⟩ rfl rfl hl.1 rfl (lv_room (Nat.le_of_ble_eq_true rfl)) dL_words_278 ⟨Nat.le_trans (m := 200) (by first | omega | (dsimp only; omega)) (Nat.le_of_ble_eq_true rfl), Nat.le_trans (m := 20000) (by first | omega | (dsimp only; omega)) (Nat.le_of_ble_eq_true rfl)⟩) hP hD hS hA (fun x9 ws9 tys9 H1 locs1 hφ hP hD hK hS => ?_)
      obtain ⟨rfl, v25, cp25, g25, cB25, rfl, rfl, hq25, hc25, hm25, hg25⟩ := hφ
      have hK25 := hK
      refine va_ldcS (own := RL) hx hb hown (show vk_R RL 64 " stem; " (ad 26) s from hT.2.1 26 64 " stem; " (by decide +kernel)) dL_words_281 ?_
      obtain ⟨w26, f26, ht26⟩ := TXT.const (D := D) hT (pl ++ SVX t17 w17 (c12 + n13 + 2) f17 cA17) (i := 26) (L := 7) (by decide) (by decide +kernel)
      have hK := hK25
      refine j_call (ws := (SBX b20 v25 (0 + 8 + dgn x24) cp25 g25 cB25)) (pl := (SBX b18 v19 (0 + (c12 + n13 + 2)) cp19 g19 cB19 ++ (pl ++ SVX t17 w17 (c12 + n13 + 2) f17 cA17))) (va_runV (As := [.ref (ad 26)]) (rest := [.ref b18]) (b := b20) (Ts := WG) (own := RL) (C := RJ4) ⟨hx, hb, hml, hown, hts⟩ (js_appS l D ad (n := 7) (f := f26) (w := w26) (c := 0 + 8 + dgn x24) (by omega) ⟨hc25, hm25⟩ ht26.1 hg25) ⟨cb_of (n := 1) hts jw142 jw128 (hts _ jw143) (by decide +kernel) (by decide +kernel) rfl rfl (Nat.le_of_ble_eq_true rfl) (Nat.le_of_ble_eq_true rfl), hts _ jw144, hts _ jw145⟩ ⟨PcWV.blind, bd_recv (i := 0) hK hP rfl, fun U hU hW => jpWV (ws := (SBX b20 v25 (0 + 8 + dgn x24) cp25 g25 cB25)) (pl := (SBX b18 v19 (0 + (c12 + n13 + 2)) cp19 g19 cB19 ++ (pl ++ SVX t17 w17 (c12 + n13 + 2) f17 cA17))) hT hC (TXT.sv (ws := SBX b20 v25 (0 + 8 + dgn x24) cp25 g25 cB25) (pl := (SBX b18 v19 (0 + (c12 + n13 + 2)) cp19 g19 cB19 ++ (pl ++ SVX t17 w17 (c12 + n13 + 2) f17 cA17))) (TXT.pre ht26 (SBX b18 v19 (0 + (c12 + n13 + 2)) cp19 g19 cB19)) hts hS hA hP hD) hS hA hP hD hK _ U hU hW⟩ rfl rfl hl.1 rfl (lv_room (Nat.le_of_ble_eq_true rfl)) dL_words_283 ⟨Nat.le_trans (m := 200) (by first | omega | (dsimp only; omega)) (Nat.le_of_ble_eq_true rfl), Nat.le_trans (m := 20000) (by first | omega | (dsimp only; omega)) (Nat.le_of_ble_eq_true rfl)⟩) hP hD hS hA (fun x9 ws9 tys9 H1 locs1 hφ hP hD hK hS => ?_)
      obtain ⟨rfl, v27, cp27, g27, cB27, rfl, rfl, hq27, hc27, hm27, hg27⟩ := hφ
      have hK27 := hK
      have hK := hK27
      refine j_call (ws := (SBX b20 v27 (0 + 8 + dgn x24 + 7) cp27 g27 cB27)) (pl := (SBX b18 v19 (0 + (c12 + n13 + 2)) cp19 g19 cB19 ++ (pl ++ SVX t17 w17 (c12 + n13 + 2) f17 cA17))) (va_runV (As := []) (rest := [.ref b18]) (b := b20) (Ts := WG) (own := RL) (C := RJ4) ⟨hx, hb, hml, hown, hts⟩ (js_toS l D ad (c := 0 + 8 + dgn x24 + 7) ⟨hc27, hm27⟩ hg27) ⟨cb_of (n := 0) hts jw146 jw128 (hts _ jw147) (by decide +kernel) (by decide +kernel) rfl rfl (Nat.le_of_ble_eq_true rfl) (Nat.le_of_ble_eq_true rfl), hts _ jw148, hts _ jw149⟩ ⟨PcW.blind, bd_recv (i := 0) hK hP rfl, fun U hU hW => jpW (ws := (SBX b20 v27 (0 + 8 + dgn x24 + 7) cp27 g27 cB27)) (pl := (SBX b18 v19 (0 + (c12 + n13 + 2)) cp19 g19 cB19 ++ (pl ++ SVX t17 w17 (c12 + n13 + 2) f17 cA17))) hT hC hS hA hP hD hK _ U hU hW⟩ rfl rfl hl.1 rfl (lv_room (Nat.le_of_ble_eq_true rfl)) dL_words_286 ⟨Nat.le_trans (m := 200) (by first | omega | (dsimp only; omega)) (Nat.le_of_ble_eq_true rfl), Nat.le_trans (m := 20000) (by first | omega | (dsimp only; omega)) (Nat.le_of_ble_eq_true rfl)⟩) hP hD hS hA (fun x9 ws9 tys9 H1 locs1 hφ hP hD hK hS => ?_)
      obtain ⟨t28, w28, f28, cA28, rfl, rfl, rfl, hg28⟩ := hφ
      replace hP : va_P D vwCl ((SBX b18 v19 (0 + (c12 + n13 + 2)) cp19 g19 cB19 ++ ((pl ++ SVX t17 w17 (c12 + n13 + 2) f17 cA17) ++ SVX t28 w28 (0 + 8 + dgn x24 + 7) f28 cA28))) _ := va_P.swap (a := []) (b := SVX t28 w28 (0 + 8 + dgn x24 + 7) f28 cA28) hP
      replace hD : va_D _ ((SBX b18 v19 (0 + (c12 + n13 + 2)) cp19 g19 cB19 ++ ((pl ++ SVX t17 w17 (c12 + n13 + 2) f17 cA17) ++ SVX t28 w28 (0 + 8 + dgn x24 + 7) f28 cA28))) := va_D.swap (a := []) (b := SVX t28 w28 (0 + 8 + dgn x24 + 7) f28 cA28) hD
      have ht28 : TXT D (va_A [] s.heap.size) s ((pl ++ SVX t17 w17 (c12 + n13 + 2) f17 cA17) ++ SVX t28 w28 (0 + 8 + dgn x24 + 7) f28 cA28) t28 w28 (0 + 8 + dgn x24 + 7) f28 := TXT.last (pl ++ SVX t17 w17 (c12 + n13 + 2) f17 cA17) hK hg28
      exact K289 _ _ _ _ _ _ _ _ _ _ _ _ _ _ _ _ _ (by omega) (by omega) hl hP hD hS (by omega) hc19 hm19 hg19 hK19 (by omega) ht28
    · refine va_new (C := RJ4) (T := TJ4) (N := 4) (ci := 8) hx hb hts uwJ4 tyJ4 tyJ4_ok hown (hts _ jw150) (hts _ isJ4) (hts _ inJ4) hK0 hP hD hS hA rfl (fs := [.null, .int 0, .int 0, .int 0]) dvJ4 (Nat.le_trans (m := 200) (by first | omega | (dsimp only; omega)) (Nat.le_of_ble_eq_true rfl)) (Nat.le_trans (m := 20000) (by first | omega | (dsimp only; omega)) (Nat.le_of_ble_eq_true rfl)) dL_words_225 (fun b29 H1 hP hD hS => ?_)
      replace hP : va_P D vwCl ([(b29, .inr (8, [.null, .int 0, .int 0, .int 0]))] ++ (SBX b18 v19 (0 + (c12 + n13 + 2)) cp19 g19 cB19 ++ (pl ++ SVX t17 w17 (c12 + n13 + 2) f17 cA17))) _ := va_P.swap (a := []) (b := (SBX b18 v19 (0 + (c12 + n13 + 2)) cp19 g19 cB19 ++ (pl ++ SVX t17 w17 (c12 + n13 + 2) f17 cA17))) hP
      replace hD : va_D _ ([(b29, .inr (8, [.null, .int 0, .int 0, .int 0]))] ++ (SBX b18 v19 (0 + (c12 + n13 + 2)) cp19 g19 cB19 ++ (pl ++ SVX t17 w17 (c12 + n13 + 2) f17 cA17))) := va_D.swap (a := []) (b := (SBX b18 v19 (0 + (c12 + n13 + 2)) cp19 g19 cB19 ++ (pl ++ SVX t17 w17 (c12 + n13 + 2) f17 cA17))) hD
      refine lv_dup hx hb dL_words_228 rfl ?_
      have hK := hK0
      refine j_call (ws := [(b29, .inr (8, [.null, .int 0, .int 0, .int 0]))]) (pl := (SBX b18 v19 (0 + (c12 + n13 + 2)) cp19 g19 cB19 ++ (pl ++ SVX t17 w17 (c12 + n13 + 2) f17 cA17))) (va_runI (As := []) (rest := [.ref b29, .ref b18]) (b := b29) (Ts := WG) (own := RL) ⟨hx, hb, hml, hown, hts⟩ (js_init l D ad) ⟨cb_of (n := 0) hts jw151 jw128 (hts _ jw152) (by decide +kernel) (by decide +kernel) rfl rfl (Nat.le_of_ble_eq_true rfl) (Nat.le_of_ble_eq_true rfl), rfl, hts _ jw153⟩ ⟨PcW.blind, fun U hU hW => jpW (ws := [(b29, .inr (8, [.null, .int 0, .int 0, .int 0]))]) (pl := (SBX b18 v19 (0 + (c12 + n13 + 2)) cp19 g19 cB19 ++ (pl ++ SVX t17 w17 (c12 + n13 + 2) f17 cA17))) hT hC hS hA hP hD hK _ U hU hW⟩ rfl rfl hl.1 rfl (lv_room (Nat.le_of_ble_eq_true rfl)) dL_words_229 ⟨Nat.le_trans (m := 200) (by first | omega | (dsimp only; omega)) (Nat.le_of_ble_eq_true rfl), Nat.le_trans (m := 20000) (by first | omega | (dsimp only; omega)) (Nat.le_of_ble_eq_true rfl)⟩) hP hD hS hA (fun x9 ws9 tys9 H1 locs1 hφ hP hD hK hS => ?_)
      obtain ⟨rfl, v29, cp29, g29, cB29, rfl, rfl, hq29, hc29, hm29, hg29⟩ := hφ
      have hK29 := hK
      refine va_ldcS (own := RL) hx hb hown (show vk_R RL 58 "fix " (ad 23) s from hT.2.1 23 58 "fix " (by decide +kernel)) dL_words_232 ?_
      obtain ⟨w30, f30, ht30⟩ := TXT.const (D := D) hT (pl ++ SVX t17 w17 (c12 + n13 + 2) f17 cA17) (i := 23) (L := 4) (by decide) (by decide +kernel)
      have hK := hK29
      refine j_call (ws := (SBX b29 v29 (0) cp29 g29 cB29)) (pl := (SBX b18 v19 (0 + (c12 + n13 + 2)) cp19 g19 cB19 ++ (pl ++ SVX t17 w17 (c12 + n13 + 2) f17 cA17))) (va_runV (As := [.ref (ad 23)]) (rest := [.ref b18]) (b := b29) (Ts := WG) (own := RL) (C := RJ4) ⟨hx, hb, hml, hown, hts⟩ (js_appS l D ad (n := 4) (f := f30) (w := w30) (c := 0) (by omega) ⟨hc29, hm29⟩ ht30.1 hg29) ⟨cb_of (n := 1) hts jw142 jw128 (hts _ jw143) (by decide +kernel) (by decide +kernel) rfl rfl (Nat.le_of_ble_eq_true rfl) (Nat.le_of_ble_eq_true rfl), hts _ jw144, hts _ jw145⟩ ⟨PcWV.blind, bd_recv (i := 0) hK hP rfl, fun U hU hW => jpWV (ws := (SBX b29 v29 (0) cp29 g29 cB29)) (pl := (SBX b18 v19 (0 + (c12 + n13 + 2)) cp19 g19 cB19 ++ (pl ++ SVX t17 w17 (c12 + n13 + 2) f17 cA17))) hT hC (TXT.sv (ws := SBX b29 v29 (0) cp29 g29 cB29) (pl := (SBX b18 v19 (0 + (c12 + n13 + 2)) cp19 g19 cB19 ++ (pl ++ SVX t17 w17 (c12 + n13 + 2) f17 cA17))) (TXT.pre ht30 (SBX b18 v19 (0 + (c12 + n13 + 2)) cp19 g19 cB19)) hts hS hA hP hD) hS hA hP hD hK _ U hU hW⟩ rfl rfl hl.1 rfl (lv_room (Nat.le_of_ble_eq_true rfl)) dL_words_234 ⟨Nat.le_trans (m := 200) (by first | omega | (dsimp only; omega)) (Nat.le_of_ble_eq_true rfl), Nat.le_trans (m := 20000) (by first | omega | (dsimp only; omega)) (Nat.le_of_ble_eq_true rfl)⟩) hP hD hS hA (fun x9 ws9 tys9 H1 locs1 hφ hP hD hK hS => ?_)
      obtain ⟨rfl, v31, cp31, g31, cB31, rfl, rfl, hq31, hc31, hm31, hg31⟩ := hφ
      have hK31 := hK
      refine lv_iload_n hx hb dL_words_237 rfl (lv_at hl 1 rfl) ?_
      refine lv_iconst (v := nI 5) hx hb dL_words_238 (by decide) ?_
      refine lv_ishr hx hb dL_words_239 ?_
      refine lv_sipush (v := nI 511) hx hb dL_words_240 (by decide) ?_
      refine lv_and2 hx hb 9 (by decide) dL_words_243 (fun x32 hx32 => ?_)
      have hy32 : x32 < 512 := hx32
      have hK := hK31
      have hd33 := dgn_le x32
      refine j_call (ws := (SBX b29 v31 (0 + 4) cp31 g31 cB31)) (pl := (SBX b18 v19 (0 + (c12 + n13 + 2)) cp19 g19 cB19 ++ (pl ++ SVX t17 w17 (c12 + n13 + 2) f17 cA17))) (va_runV (As := [.int (nI x32)]) (rest := [.ref b18]) (b := b29) (Ts := WG) (own := RL) (C := RJ4) ⟨hx, hb, hml, hown, hts⟩ (js_appI l D ad (x := x32) (c := 0 + 4) (by omega) (by omega) ⟨hc31, hm31⟩ hg31) ⟨cb_of (n := 1) hts jw159 jw128 (hts _ jw160) (by decide +kernel) (by decide +kernel) rfl rfl (Nat.le_of_ble_eq_true rfl) (Nat.le_of_ble_eq_true rfl), hts _ jw161, hts _ jw162⟩ ⟨PcW.blind, bd_recv (i := 0) hK hP rfl, fun U hU hW => jpW (ws := (SBX b29 v31 (0 + 4) cp31 g31 cB31)) (pl := (SBX b18 v19 (0 + (c12 + n13 + 2)) cp19 g19 cB19 ++ (pl ++ SVX t17 w17 (c12 + n13 + 2) f17 cA17))) hT hC hS hA hP hD hK _ U hU hW⟩ rfl rfl hl.1 rfl (lv_room (Nat.le_of_ble_eq_true rfl)) dL_words_244 ⟨Nat.le_trans (m := 200) (by first | omega | (dsimp only; omega)) (Nat.le_of_ble_eq_true rfl), Nat.le_trans (m := 20000) (by first | omega | (dsimp only; omega)) (Nat.le_of_ble_eq_true rfl)⟩) hP hD hS hA (fun x9 ws9 tys9 H1 locs1 hφ hP hD hK hS => ?_)
      obtain ⟨rfl, v33, cp33, g33, cB33, rfl, rfl, hq33, hc33, hm33, hg33⟩ := hφ
      have hK33 := hK
      refine va_ldcS (own := RL) hx hb hown (show vk_R RL 60 " c; " (ad 24) s from hT.2.1 24 60 " c; " (by decide +kernel)) dL_words_247 ?_
      obtain ⟨w34, f34, ht34⟩ := TXT.const (D := D) hT (pl ++ SVX t17 w17 (c12 + n13 + 2) f17 cA17) (i := 24) (L := 4) (by decide) (by decide +kernel)
      have hK := hK33
      refine j_call (ws := (SBX b29 v33 (0 + 4 + dgn x32) cp33 g33 cB33)) (pl := (SBX b18 v19 (0 + (c12 + n13 + 2)) cp19 g19 cB19 ++ (pl ++ SVX t17 w17 (c12 + n13 + 2) f17 cA17))) (va_runV (As := [.ref (ad 24)]) (rest := [.ref b18]) (b := b29) (Ts := WG) (own := RL) (C := RJ4) ⟨hx, hb, hml, hown, hts⟩ (js_appS l D ad (n := 4) (f := f34) (w := w34) (c := 0 + 4 + dgn x32) (by omega) ⟨hc33, hm33⟩ ht34.1 hg33) ⟨cb_of (n := 1) hts jw142 jw128 (hts _ jw143) (by decide +kernel) (by decide +kernel) rfl rfl (Nat.le_of_ble_eq_true rfl) (Nat.le_of_ble_eq_true rfl), hts _ jw144, hts _ jw145⟩ ⟨PcWV.blind, bd_recv (i := 0) hK hP rfl, fun U hU hW => jpWV (ws := (SBX b29 v33 (0 + 4 + dgn x32) cp33 g33 cB33)) (pl := (SBX b18 v19 (0 + (c12 + n13 + 2)) cp19 g19 cB19 ++ (pl ++ SVX t17 w17 (c12 + n13 + 2) f17 cA17))) hT hC (TXT.sv (ws := SBX b29 v33 (0 + 4 + dgn x32) cp33 g33 cB33) (pl := (SBX b18 v19 (0 + (c12 + n13 + 2)) cp19 g19 cB19 ++ (pl ++ SVX t17 w17 (c12 + n13 + 2) f17 cA17))) (TXT.pre ht34 (SBX b18 v19 (0 + (c12 + n13 + 2)) cp19 g19 cB19)) hts hS hA hP hD) hS hA hP hD hK _ U hU hW⟩ rfl rfl hl.1 rfl (lv_room (Nat.le_of_ble_eq_true rfl)) dL_words_249 ⟨Nat.le_trans (m := 200) (by first | omega | (dsimp only; omega)) (Nat.le_of_ble_eq_true rfl), Nat.le_trans (m := 20000) (by first | omega | (dsimp only; omega)) (Nat.le_of_ble_eq_true rfl)⟩) hP hD hS hA (fun x9 ws9 tys9 H1 locs1 hφ hP hD hK hS => ?_)
      obtain ⟨rfl, v35, cp35, g35, cB35, rfl, rfl, hq35, hc35, hm35, hg35⟩ := hφ
      have hK35 := hK
      have hK := hK35
      refine j_call (ws := (SBX b29 v35 (0 + 4 + dgn x32 + 4) cp35 g35 cB35)) (pl := (SBX b18 v19 (0 + (c12 + n13 + 2)) cp19 g19 cB19 ++ (pl ++ SVX t17 w17 (c12 + n13 + 2) f17 cA17))) (va_runV (As := []) (rest := [.ref b18]) (b := b29) (Ts := WG) (own := RL) (C := RJ4) ⟨hx, hb, hml, hown, hts⟩ (js_toS l D ad (c := 0 + 4 + dgn x32 + 4) ⟨hc35, hm35⟩ hg35) ⟨cb_of (n := 0) hts jw146 jw128 (hts _ jw147) (by decide +kernel) (by decide +kernel) rfl rfl (Nat.le_of_ble_eq_true rfl) (Nat.le_of_ble_eq_true rfl), hts _ jw148, hts _ jw149⟩ ⟨PcW.blind, bd_recv (i := 0) hK hP rfl, fun U hU hW => jpW (ws := (SBX b29 v35 (0 + 4 + dgn x32 + 4) cp35 g35 cB35)) (pl := (SBX b18 v19 (0 + (c12 + n13 + 2)) cp19 g19 cB19 ++ (pl ++ SVX t17 w17 (c12 + n13 + 2) f17 cA17))) hT hC hS hA hP hD hK _ U hU hW⟩ rfl rfl hl.1 rfl (lv_room (Nat.le_of_ble_eq_true rfl)) dL_words_252 ⟨Nat.le_trans (m := 200) (by first | omega | (dsimp only; omega)) (Nat.le_of_ble_eq_true rfl), Nat.le_trans (m := 20000) (by first | omega | (dsimp only; omega)) (Nat.le_of_ble_eq_true rfl)⟩) hP hD hS hA (fun x9 ws9 tys9 H1 locs1 hφ hP hD hK hS => ?_)
      obtain ⟨t36, w36, f36, cA36, rfl, rfl, rfl, hg36⟩ := hφ
      replace hP : va_P D vwCl ((SBX b18 v19 (0 + (c12 + n13 + 2)) cp19 g19 cB19 ++ ((pl ++ SVX t17 w17 (c12 + n13 + 2) f17 cA17) ++ SVX t36 w36 (0 + 4 + dgn x32 + 4) f36 cA36))) _ := va_P.swap (a := []) (b := SVX t36 w36 (0 + 4 + dgn x32 + 4) f36 cA36) hP
      replace hD : va_D _ ((SBX b18 v19 (0 + (c12 + n13 + 2)) cp19 g19 cB19 ++ ((pl ++ SVX t17 w17 (c12 + n13 + 2) f17 cA17) ++ SVX t36 w36 (0 + 4 + dgn x32 + 4) f36 cA36))) := va_D.swap (a := []) (b := SVX t36 w36 (0 + 4 + dgn x32 + 4) f36 cA36) hD
      have ht36 : TXT D (va_A [] s.heap.size) s ((pl ++ SVX t17 w17 (c12 + n13 + 2) f17 cA17) ++ SVX t36 w36 (0 + 4 + dgn x32 + 4) f36 cA36) t36 w36 (0 + 4 + dgn x32 + 4) f36 := TXT.last (pl ++ SVX t17 w17 (c12 + n13 + 2) f17 cA17) hK hg36
      refine lv_goto (tgt := 289) hx hb dL_words_255 (by first | decide | rfl) ?_
      exact K289 _ _ _ _ _ _ _ _ _ _ _ _ _ _ _ _ _ (by omega) (by omega) hl hP hD hS (by omega) hc19 hm19 hg19 hK19 (by omega) ht36
  have K156 : ∀ (H : Heap) (locs : List Loc) (cells slots : Nat) (ls : Array Slot) (pl : va_W) (t0 : Nat) (b37 v37 c37 cp37 : Nat) (g37 : Nat → Int32) (cB37 : ClassId) (a38 w38 n38 : Nat) (f38 : Nat → Int32), cells ≤ 35 → slots ≤ 7500 → lv_has ls 3 [(2, .ref t0), (0, .int z), (1, .int (nI nn))] → va_P D vwCl ((SBX b37 v37 (c37) cp37 g37 cB37 ++ pl)) H → va_D (va_A [] s.heap.size) ((SBX b37 v37 (c37) cp37 g37 cB37 ++ pl)) → va_S (va_A [] s.heap.size) s.heap H locs → c37 ≤ 40 → c37 ≤ cp37 → cp37 ≤ 300 → FITB g37 → va_K D vwCl [(cB37, .byte)] s → n38 ≤ 6 → TXT D (va_A [] s.heap.size) s pl a38 w38 n38 f38 → W p l e ((headSpec (Cond.code yL_words cL_words 3 (some (.object "java/lang/String")) :: WG) { frames := 7, cells := 200, slots := 20000, locals := 262 }).room) s m (([.int z, .int (nI nn)] : List Value).toArray) below meth c0 H locs cells slots Q (F0 m 156 ls [.ref a38, .ref b37]) := by
    intro H locs cells slots ls pl t0 b37 v37 c37 cp37 g37 cB37 a38 w38 n38 f38 hcl hsl hl hP hD hS hb37 hc37 hm37 hg37 hK37 hn38 ht38
    have hK := hK37
    refine j_call (ws := (SBX b37 v37 (c37) cp37 g37 cB37)) (pl := pl) (va_runV (As := [.ref a38]) (rest := []) (b := b37) (Ts := WG) (own := RL) (C := RJ4) ⟨hx, hb, hml, hown, hts⟩ (js_appS l D ad (n := n38) (f := f38) (w := w38) (c := c37) (by omega) ⟨hc37, hm37⟩ ht38.1 hg37) ⟨cb_of (n := 1) hts jw142 jw128 (hts _ jw143) (by decide +kernel) (by decide +kernel) rfl rfl (Nat.le_of_ble_eq_true rfl) (Nat.le_of_ble_eq_true rfl), hts _ jw144, hts _ jw145⟩ ⟨PcWV.blind, bd_recv (i := 0) hK hP rfl, fun U hU hW => jpWV (ws := (SBX b37 v37 (c37) cp37 g37 cB37)) (pl := pl) hT hC (TXT.sv (ws := SBX b37 v37 (c37) cp37 g37 cB37) (pl := pl) ht38 hts hS hA hP hD) hS hA hP hD hK _ U hU hW⟩ rfl rfl hl.1 rfl (lv_room (Nat.le_of_ble_eq_true rfl)) dL_words_156 ⟨Nat.le_trans (m := 200) (by first | omega | (dsimp only; omega)) (Nat.le_of_ble_eq_true rfl), Nat.le_trans (m := 20000) (by first | omega | (dsimp only; omega)) (Nat.le_of_ble_eq_true rfl)⟩) hP hD hS hA (fun x9 ws9 tys9 H1 locs1 hφ hP hD hK hS => ?_)
    obtain ⟨rfl, v39, cp39, g39, cB39, rfl, rfl, hq39, hc39, hm39, hg39⟩ := hφ
    have hK39 := hK
    refine lv_iload_n hx hb dL_words_159 rfl (lv_at hl 1 rfl) ?_
    refine lv_ldc (v := 16777216) hx hb hown (hts _ jw163) dL_words_160 ?_
    refine lv_iand hx hb dL_words_162 ?_
    refine lv_if_eq (tgt := 193) hx hb dL_words_163 (by first | decide | rfl) (fun _ => ?_) (fun _ => ?_)
    · refine va_ldcS (own := RL) hx hb hown (show vk_R RL 43 "" (ad 17) s from hT.2.1 17 43 "" (by decide +kernel)) dL_words_193 ?_
      obtain ⟨w40, f40, ht40⟩ := TXT.const (D := D) hT pl (i := 17) (L := 0) (by decide) (by decide +kernel)
      exact K195 _ _ _ _ _ _ _ _ _ _ _ _ _ _ _ _ _ (by omega) (by omega) hl hP hD hS (by omega) hc39 hm39 hg39 hK39 (by omega) ht40
    · refine va_new (C := RJ4) (T := TJ4) (N := 4) (ci := 8) hx hb hts uwJ4 tyJ4 tyJ4_ok hown (hts _ jw150) (hts _ isJ4) (hts _ inJ4) hK0 hP hD hS hA rfl (fs := [.null, .int 0, .int 0, .int 0]) dvJ4 (Nat.le_trans (m := 200) (by first | omega | (dsimp only; omega)) (Nat.le_of_ble_eq_true rfl)) (Nat.le_trans (m := 20000) (by first | omega | (dsimp only; omega)) (Nat.le_of_ble_eq_true rfl)) dL_words_166 (fun b41 H1 hP hD hS => ?_)
      replace hP : va_P D vwCl ([(b41, .inr (8, [.null, .int 0, .int 0, .int 0]))] ++ (SBX b37 v39 (c37 + n38) cp39 g39 cB39 ++ pl)) _ := va_P.swap (a := []) (b := (SBX b37 v39 (c37 + n38) cp39 g39 cB39 ++ pl)) hP
      replace hD : va_D _ ([(b41, .inr (8, [.null, .int 0, .int 0, .int 0]))] ++ (SBX b37 v39 (c37 + n38) cp39 g39 cB39 ++ pl)) := va_D.swap (a := []) (b := (SBX b37 v39 (c37 + n38) cp39 g39 cB39 ++ pl)) hD
      refine lv_dup hx hb dL_words_169 rfl ?_
      have hK := hK0
      refine j_call (ws := [(b41, .inr (8, [.null, .int 0, .int 0, .int 0]))]) (pl := (SBX b37 v39 (c37 + n38) cp39 g39 cB39 ++ pl)) (va_runI (As := []) (rest := [.ref b41, .ref b37]) (b := b41) (Ts := WG) (own := RL) ⟨hx, hb, hml, hown, hts⟩ (js_init l D ad) ⟨cb_of (n := 0) hts jw151 jw128 (hts _ jw152) (by decide +kernel) (by decide +kernel) rfl rfl (Nat.le_of_ble_eq_true rfl) (Nat.le_of_ble_eq_true rfl), rfl, hts _ jw153⟩ ⟨PcW.blind, fun U hU hW => jpW (ws := [(b41, .inr (8, [.null, .int 0, .int 0, .int 0]))]) (pl := (SBX b37 v39 (c37 + n38) cp39 g39 cB39 ++ pl)) hT hC hS hA hP hD hK _ U hU hW⟩ rfl rfl hl.1 rfl (lv_room (Nat.le_of_ble_eq_true rfl)) dL_words_170 ⟨Nat.le_trans (m := 200) (by first | omega | (dsimp only; omega)) (Nat.le_of_ble_eq_true rfl), Nat.le_trans (m := 20000) (by first | omega | (dsimp only; omega)) (Nat.le_of_ble_eq_true rfl)⟩) hP hD hS hA (fun x9 ws9 tys9 H1 locs1 hφ hP hD hK hS => ?_)
      obtain ⟨rfl, v41, cp41, g41, cB41, rfl, rfl, hq41, hc41, hm41, hg41⟩ := hφ
      have hK41 := hK
      refine va_ldcS (own := RL) hx hb hown (show vk_R RL 55 " if alive<" (ad 22) s from hT.2.1 22 55 " if alive<" (by decide +kernel)) dL_words_173 ?_
      obtain ⟨w42, f42, ht42⟩ := TXT.const (D := D) hT pl (i := 22) (L := 10) (by decide) (by decide +kernel)
      have hK := hK41
      refine j_call (ws := (SBX b41 v41 (0) cp41 g41 cB41)) (pl := (SBX b37 v39 (c37 + n38) cp39 g39 cB39 ++ pl)) (va_runV (As := [.ref (ad 22)]) (rest := [.ref b37]) (b := b41) (Ts := WG) (own := RL) (C := RJ4) ⟨hx, hb, hml, hown, hts⟩ (js_appS l D ad (n := 10) (f := f42) (w := w42) (c := 0) (by omega) ⟨hc41, hm41⟩ ht42.1 hg41) ⟨cb_of (n := 1) hts jw142 jw128 (hts _ jw143) (by decide +kernel) (by decide +kernel) rfl rfl (Nat.le_of_ble_eq_true rfl) (Nat.le_of_ble_eq_true rfl), hts _ jw144, hts _ jw145⟩ ⟨PcWV.blind, bd_recv (i := 0) hK hP rfl, fun U hU hW => jpWV (ws := (SBX b41 v41 (0) cp41 g41 cB41)) (pl := (SBX b37 v39 (c37 + n38) cp39 g39 cB39 ++ pl)) hT hC (TXT.sv (ws := SBX b41 v41 (0) cp41 g41 cB41) (pl := (SBX b37 v39 (c37 + n38) cp39 g39 cB39 ++ pl)) (TXT.pre ht42 (SBX b37 v39 (c37 + n38) cp39 g39 cB39)) hts hS hA hP hD) hS hA hP hD hK _ U hU hW⟩ rfl rfl hl.1 rfl (lv_room (Nat.le_of_ble_eq_true rfl)) dL_words_175 ⟨Nat.le_trans (m := 200) (by first | omega | (dsimp only; omega)) (Nat.le_of_ble_eq_true rfl), Nat.le_trans (m := 20000) (by first | omega | (dsimp only; omega)) (Nat.le_of_ble_eq_true rfl)⟩) hP hD hS hA (fun x9 ws9 tys9 H1 locs1 hφ hP hD hK hS => ?_)
      obtain ⟨rfl, v43, cp43, g43, cB43, rfl, rfl, hq43, hc43, hm43, hg43⟩ := hφ
      have hK43 := hK
      refine lv_iload_n hx hb dL_words_178 rfl (lv_at hl 1 rfl) ?_
      refine lv_bipush (v := nI 25) hx hb dL_words_179 (by decide) ?_
      refine lv_ishr hx hb dL_words_181 ?_
      refine lv_iconst (v := nI 3) hx hb dL_words_182 (by decide) ?_
      refine lv_and2 hx hb 2 (by decide) dL_words_183 (fun x44 hx44 => ?_)
      have hy44 : x44 < 4 := hx44
      have hK := hK43
      have hd45 := dgn_le x44
      refine j_call (ws := (SBX b41 v43 (0 + 10) cp43 g43 cB43)) (pl := (SBX b37 v39 (c37 + n38) cp39 g39 cB39 ++ pl)) (va_runV (As := [.int (nI x44)]) (rest := [.ref b37]) (b := b41) (Ts := WG) (own := RL) (C := RJ4) ⟨hx, hb, hml, hown, hts⟩ (js_appI l D ad (x := x44) (c := 0 + 10) (by omega) (by omega) ⟨hc43, hm43⟩ hg43) ⟨cb_of (n := 1) hts jw159 jw128 (hts _ jw160) (by decide +kernel) (by decide +kernel) rfl rfl (Nat.le_of_ble_eq_true rfl) (Nat.le_of_ble_eq_true rfl), hts _ jw161, hts _ jw162⟩ ⟨PcW.blind, bd_recv (i := 0) hK hP rfl, fun U hU hW => jpW (ws := (SBX b41 v43 (0 + 10) cp43 g43 cB43)) (pl := (SBX b37 v39 (c37 + n38) cp39 g39 cB39 ++ pl)) hT hC hS hA hP hD hK _ U hU hW⟩ rfl rfl hl.1 rfl (lv_room (Nat.le_of_ble_eq_true rfl)) dL_words_184 ⟨Nat.le_trans (m := 200) (by first | omega | (dsimp only; omega)) (Nat.le_of_ble_eq_true rfl), Nat.le_trans (m := 20000) (by first | omega | (dsimp only; omega)) (Nat.le_of_ble_eq_true rfl)⟩) hP hD hS hA (fun x9 ws9 tys9 H1 locs1 hφ hP hD hK hS => ?_)
      obtain ⟨rfl, v45, cp45, g45, cB45, rfl, rfl, hq45, hc45, hm45, hg45⟩ := hφ
      have hK45 := hK
      have hK := hK45
      refine j_call (ws := (SBX b41 v45 (0 + 10 + dgn x44) cp45 g45 cB45)) (pl := (SBX b37 v39 (c37 + n38) cp39 g39 cB39 ++ pl)) (va_runV (As := []) (rest := [.ref b37]) (b := b41) (Ts := WG) (own := RL) (C := RJ4) ⟨hx, hb, hml, hown, hts⟩ (js_toS l D ad (c := 0 + 10 + dgn x44) ⟨hc45, hm45⟩ hg45) ⟨cb_of (n := 0) hts jw146 jw128 (hts _ jw147) (by decide +kernel) (by decide +kernel) rfl rfl (Nat.le_of_ble_eq_true rfl) (Nat.le_of_ble_eq_true rfl), hts _ jw148, hts _ jw149⟩ ⟨PcW.blind, bd_recv (i := 0) hK hP rfl, fun U hU hW => jpW (ws := (SBX b41 v45 (0 + 10 + dgn x44) cp45 g45 cB45)) (pl := (SBX b37 v39 (c37 + n38) cp39 g39 cB39 ++ pl)) hT hC hS hA hP hD hK _ U hU hW⟩ rfl rfl hl.1 rfl (lv_room (Nat.le_of_ble_eq_true rfl)) dL_words_187 ⟨Nat.le_trans (m := 200) (by first | omega | (dsimp only; omega)) (Nat.le_of_ble_eq_true rfl), Nat.le_trans (m := 20000) (by first | omega | (dsimp only; omega)) (Nat.le_of_ble_eq_true rfl)⟩) hP hD hS hA (fun x9 ws9 tys9 H1 locs1 hφ hP hD hK hS => ?_)
      obtain ⟨t46, w46, f46, cA46, rfl, rfl, rfl, hg46⟩ := hφ
      replace hP : va_P D vwCl ((SBX b37 v39 (c37 + n38) cp39 g39 cB39 ++ (pl ++ SVX t46 w46 (0 + 10 + dgn x44) f46 cA46))) _ := va_P.swap (a := []) (b := SVX t46 w46 (0 + 10 + dgn x44) f46 cA46) hP
      replace hD : va_D _ ((SBX b37 v39 (c37 + n38) cp39 g39 cB39 ++ (pl ++ SVX t46 w46 (0 + 10 + dgn x44) f46 cA46))) := va_D.swap (a := []) (b := SVX t46 w46 (0 + 10 + dgn x44) f46 cA46) hD
      have ht46 : TXT D (va_A [] s.heap.size) s (pl ++ SVX t46 w46 (0 + 10 + dgn x44) f46 cA46) t46 w46 (0 + 10 + dgn x44) f46 := TXT.last pl hK hg46
      refine lv_goto (tgt := 195) hx hb dL_words_190 (by first | decide | rfl) ?_
      exact K195 _ _ _ _ _ _ _ _ _ _ _ _ _ _ _ _ _ (by omega) (by omega) hl hP hD hS (by omega) hc39 hm39 hg39 hK39 (by omega) ht46
  have K98 : ∀ (H : Heap) (locs : List Loc) (cells slots : Nat) (ls : Array Slot) (pl : va_W) (a47 w47 n47 : Nat) (f47 : Nat → Int32), cells ≤ 20 → slots ≤ 5000 → lv_has ls 3 [(0, .int z), (1, .int (nI nn))] → va_P D vwCl (pl) H → va_D (va_A [] s.heap.size) (pl) → va_S (va_A [] s.heap.size) s.heap H locs → n47 ≤ 27 → TXT D (va_A [] s.heap.size) s pl a47 w47 n47 f47 → W p l e ((headSpec (Cond.code yL_words cL_words 3 (some (.object "java/lang/String")) :: WG) { frames := 7, cells := 200, slots := 20000, locals := 262 }).room) s m (([.int z, .int (nI nn)] : List Value).toArray) below meth c0 H locs cells slots Q (F0 m 98 ls [.ref a47]) := by
    intro H locs cells slots ls pl a47 w47 n47 f47 hcl hsl hl hP hD hS hn47 ht47
    refine lv_astore_n hx hb dL_words_98 rfl hl (by decide) rfl (fun ls hl => ?_)
    refine va_new (C := RJ4) (T := TJ4) (N := 4) (ci := 8) hx hb hts uwJ4 tyJ4 tyJ4_ok hown (hts _ jw150) (hts _ isJ4) (hts _ inJ4) hK0 hP hD hS hA rfl (fs := [.null, .int 0, .int 0, .int 0]) dvJ4 (Nat.le_trans (m := 200) (by first | omega | (dsimp only; omega)) (Nat.le_of_ble_eq_true rfl)) (Nat.le_trans (m := 20000) (by first | omega | (dsimp only; omega)) (Nat.le_of_ble_eq_true rfl)) dL_words_99 (fun b48 H1 hP hD hS => ?_)
    replace hP : va_P D vwCl ([(b48, .inr (8, [.null, .int 0, .int 0, .int 0]))] ++ pl) _ := va_P.swap (a := []) (b := pl) hP
    replace hD : va_D _ ([(b48, .inr (8, [.null, .int 0, .int 0, .int 0]))] ++ pl) := va_D.swap (a := []) (b := pl) hD
    refine lv_dup hx hb dL_words_102 rfl ?_
    have hK := hK0
    refine j_call (ws := [(b48, .inr (8, [.null, .int 0, .int 0, .int 0]))]) (pl := pl) (va_runI (As := []) (rest := [.ref b48]) (b := b48) (Ts := WG) (own := RL) ⟨hx, hb, hml, hown, hts⟩ (js_init l D ad) ⟨cb_of (n := 0) hts jw151 jw128 (hts _ jw152) (by decide +kernel) (by decide +kernel) rfl rfl (Nat.le_of_ble_eq_true rfl) (Nat.le_of_ble_eq_true rfl), rfl, hts _ jw153⟩ ⟨PcW.blind, fun U hU hW => jpW (ws := [(b48, .inr (8, [.null, .int 0, .int 0, .int 0]))]) (pl := pl) hT hC hS hA hP hD hK _ U hU hW⟩ rfl rfl hl.1 rfl (lv_room (Nat.le_of_ble_eq_true rfl)) dL_words_103 ⟨Nat.le_trans (m := 200) (by first | omega | (dsimp only; omega)) (Nat.le_of_ble_eq_true rfl), Nat.le_trans (m := 20000) (by first | omega | (dsimp only; omega)) (Nat.le_of_ble_eq_true rfl)⟩) hP hD hS hA (fun x9 ws9 tys9 H1 locs1 hφ hP hD hK hS => ?_)
    obtain ⟨rfl, v48, cp48, g48, cB48, rfl, rfl, hq48, hc48, hm48, hg48⟩ := hφ
    have hK48 := hK
    refine lv_aload_n hx hb dL_words_106 rfl (lv_at hl 0 rfl) ?_
    have hK := hK48
    refine j_call (ws := (SBX b48 v48 (0) cp48 g48 cB48)) (pl := pl) (va_runV (As := [.ref a47]) (rest := []) (b := b48) (Ts := WG) (own := RL) (C := RJ4) ⟨hx, hb, hml, hown, hts⟩ (js_appS l D ad (n := n47) (f := f47) (w := w47) (c := 0) (by omega) ⟨hc48, hm48⟩ ht47.1 hg48) ⟨cb_of (n := 1) hts jw142 jw128 (hts _ jw143) (by decide +kernel) (by decide +kernel) rfl rfl (Nat.le_of_ble_eq_true rfl) (Nat.le_of_ble_eq_true rfl), hts _ jw144, hts _ jw145⟩ ⟨PcWV.blind, bd_recv (i := 0) hK hP rfl, fun U hU hW => jpWV (ws := (SBX b48 v48 (0) cp48 g48 cB48)) (pl := pl) hT hC (TXT.sv (ws := SBX b48 v48 (0) cp48 g48 cB48) (pl := pl) ht47 hts hS hA hP hD) hS hA hP hD hK _ U hU hW⟩ rfl rfl hl.1 rfl (lv_room (Nat.le_of_ble_eq_true rfl)) dL_words_107 ⟨Nat.le_trans (m := 200) (by first | omega | (dsimp only; omega)) (Nat.le_of_ble_eq_true rfl), Nat.le_trans (m := 20000) (by first | omega | (dsimp only; omega)) (Nat.le_of_ble_eq_true rfl)⟩) hP hD hS hA (fun x9 ws9 tys9 H1 locs1 hφ hP hD hK hS => ?_)
    obtain ⟨rfl, v49, cp49, g49, cB49, rfl, rfl, hq49, hc49, hm49, hg49⟩ := hφ
    have hK49 := hK
    refine va_ldcS (own := RL) hx hb hown (show vk_R RL 47 "line " (ad 19) s from hT.2.1 19 47 "line " (by decide +kernel)) dL_words_110 ?_
    obtain ⟨w50, f50, ht50⟩ := TXT.const (D := D) hT pl (i := 19) (L := 5) (by decide) (by decide +kernel)
    have hK := hK49
    refine j_call (ws := (SBX b48 v49 (0 + n47) cp49 g49 cB49)) (pl := pl) (va_runV (As := [.ref (ad 19)]) (rest := []) (b := b48) (Ts := WG) (own := RL) (C := RJ4) ⟨hx, hb, hml, hown, hts⟩ (js_appS l D ad (n := 5) (f := f50) (w := w50) (c := 0 + n47) (by omega) ⟨hc49, hm49⟩ ht50.1 hg49) ⟨cb_of (n := 1) hts jw142 jw128 (hts _ jw143) (by decide +kernel) (by decide +kernel) rfl rfl (Nat.le_of_ble_eq_true rfl) (Nat.le_of_ble_eq_true rfl), hts _ jw144, hts _ jw145⟩ ⟨PcWV.blind, bd_recv (i := 0) hK hP rfl, fun U hU hW => jpWV (ws := (SBX b48 v49 (0 + n47) cp49 g49 cB49)) (pl := pl) hT hC (TXT.sv (ws := SBX b48 v49 (0 + n47) cp49 g49 cB49) (pl := pl) ht50 hts hS hA hP hD) hS hA hP hD hK _ U hU hW⟩ rfl rfl hl.1 rfl (lv_room (Nat.le_of_ble_eq_true rfl)) dL_words_112 ⟨Nat.le_trans (m := 200) (by first | omega | (dsimp only; omega)) (Nat.le_of_ble_eq_true rfl), Nat.le_trans (m := 20000) (by first | omega | (dsimp only; omega)) (Nat.le_of_ble_eq_true rfl)⟩) hP hD hS hA (fun x9 ws9 tys9 H1 locs1 hφ hP hD hK hS => ?_)
    obtain ⟨rfl, v51, cp51, g51, cB51, rfl, rfl, hq51, hc51, hm51, hg51⟩ := hφ
    have hK51 := hK
    refine lv_iload_n hx hb dL_words_115 rfl (lv_at hl 1 rfl) ?_
    refine lv_bipush (v := nI 17) hx hb dL_words_116 (by decide) ?_
    refine lv_ishr hx hb dL_words_118 ?_
    refine lv_bipush (v := nI 7) hx hb dL_words_119 (by decide) ?_
    refine lv_and2 hx hb 3 (by decide) dL_words_121 (fun x52 hx52 => ?_)
    have hy52 : x52 < 8 := hx52
    have hK := hK51
    have hd53 := dgn_le x52
    refine j_call (ws := (SBX b48 v51 (0 + n47 + 5) cp51 g51 cB51)) (pl := pl) (va_runV (As := [.int (nI x52)]) (rest := []) (b := b48) (Ts := WG) (own := RL) (C := RJ4) ⟨hx, hb, hml, hown, hts⟩ (js_appI l D ad (x := x52) (c := 0 + n47 + 5) (by omega) (by omega) ⟨hc51, hm51⟩ hg51) ⟨cb_of (n := 1) hts jw159 jw128 (hts _ jw160) (by decide +kernel) (by decide +kernel) rfl rfl (Nat.le_of_ble_eq_true rfl) (Nat.le_of_ble_eq_true rfl), hts _ jw161, hts _ jw162⟩ ⟨PcW.blind, bd_recv (i := 0) hK hP rfl, fun U hU hW => jpW (ws := (SBX b48 v51 (0 + n47 + 5) cp51 g51 cB51)) (pl := pl) hT hC hS hA hP hD hK _ U hU hW⟩ rfl rfl hl.1 rfl (lv_room (Nat.le_of_ble_eq_true rfl)) dL_words_122 ⟨Nat.le_trans (m := 200) (by first | omega | (dsimp only; omega)) (Nat.le_of_ble_eq_true rfl), Nat.le_trans (m := 20000) (by first | omega | (dsimp only; omega)) (Nat.le_of_ble_eq_true rfl)⟩) hP hD hS hA (fun x9 ws9 tys9 H1 locs1 hφ hP hD hK hS => ?_)
    obtain ⟨rfl, v53, cp53, g53, cB53, rfl, rfl, hq53, hc53, hm53, hg53⟩ := hφ
    have hK53 := hK
    refine va_ldcS (own := RL) hx hb hown (show vk_R RL 35 " p" (ad 15) s from hT.2.1 15 35 " p" (by decide +kernel)) dL_words_125 ?_
    obtain ⟨w54, f54, ht54⟩ := TXT.const (D := D) hT pl (i := 15) (L := 2) (by decide) (by decide +kernel)
    have hK := hK53
    refine j_call (ws := (SBX b48 v53 (0 + n47 + 5 + dgn x52) cp53 g53 cB53)) (pl := pl) (va_runV (As := [.ref (ad 15)]) (rest := []) (b := b48) (Ts := WG) (own := RL) (C := RJ4) ⟨hx, hb, hml, hown, hts⟩ (js_appS l D ad (n := 2) (f := f54) (w := w54) (c := 0 + n47 + 5 + dgn x52) (by omega) ⟨hc53, hm53⟩ ht54.1 hg53) ⟨cb_of (n := 1) hts jw142 jw128 (hts _ jw143) (by decide +kernel) (by decide +kernel) rfl rfl (Nat.le_of_ble_eq_true rfl) (Nat.le_of_ble_eq_true rfl), hts _ jw144, hts _ jw145⟩ ⟨PcWV.blind, bd_recv (i := 0) hK hP rfl, fun U hU hW => jpWV (ws := (SBX b48 v53 (0 + n47 + 5 + dgn x52) cp53 g53 cB53)) (pl := pl) hT hC (TXT.sv (ws := SBX b48 v53 (0 + n47 + 5 + dgn x52) cp53 g53 cB53) (pl := pl) ht54 hts hS hA hP hD) hS hA hP hD hK _ U hU hW⟩ rfl rfl hl.1 rfl (lv_room (Nat.le_of_ble_eq_true rfl)) dL_words_127 ⟨Nat.le_trans (m := 200) (by first | omega | (dsimp only; omega)) (Nat.le_of_ble_eq_true rfl), Nat.le_trans (m := 20000) (by first | omega | (dsimp only; omega)) (Nat.le_of_ble_eq_true rfl)⟩) hP hD hS hA (fun x9 ws9 tys9 H1 locs1 hφ hP hD hK hS => ?_)
    obtain ⟨rfl, v55, cp55, g55, cB55, rfl, rfl, hq55, hc55, hm55, hg55⟩ := hφ
    have hK55 := hK
    refine lv_iload_n hx hb dL_words_130 rfl (lv_at hl 1 rfl) ?_
    refine lv_bipush (v := nI 20) hx hb dL_words_131 (by decide) ?_
    refine lv_ishr hx hb dL_words_133 ?_
    refine lv_bipush (v := nI 7) hx hb dL_words_134 (by decide) ?_
    refine lv_and2 hx hb 3 (by decide) dL_words_136 (fun x56 hx56 => ?_)
    have hy56 : x56 < 8 := hx56
    refine lv_iload_n hx hb dL_words_137 rfl (lv_at hl 2 rfl) ?_
    refine lv_rem2 hx hb (x := x56) (by omega) hn dL_words_138 (fun x57 hx57 => ?_)
    have hK := hK55
    have hd58 := dgn_le x57
    refine j_call (ws := (SBX b48 v55 (0 + n47 + 5 + dgn x52 + 2) cp55 g55 cB55)) (pl := pl) (va_runV (As := [.int (nI x57)]) (rest := []) (b := b48) (Ts := WG) (own := RL) (C := RJ4) ⟨hx, hb, hml, hown, hts⟩ (js_appI l D ad (x := x57) (c := 0 + n47 + 5 + dgn x52 + 2) (by omega) (by omega) ⟨hc55, hm55⟩ hg55) ⟨cb_of (n := 1) hts jw159 jw128 (hts _ jw160) (by decide +kernel) (by decide +kernel) rfl rfl (Nat.le_of_ble_eq_true rfl) (Nat.le_of_ble_eq_true rfl), hts _ jw161, hts _ jw162⟩ ⟨PcW.blind, bd_recv (i := 0) hK hP rfl, fun U hU hW => jpW (ws := (SBX b48 v55 (0 + n47 + 5 + dgn x52 + 2) cp55 g55 cB55)) (pl := pl) hT hC hS hA hP hD hK _ U hU hW⟩ rfl rfl hl.1 rfl (lv_room (Nat.le_of_ble_eq_true rfl)) dL_words_139 ⟨Nat.le_trans (m := 200) (by first | omega | (dsimp only; omega)) (Nat.le_of_ble_eq_true rfl), Nat.le_trans (m := 20000) (by first | omega | (dsimp only; omega)) (Nat.le_of_ble_eq_true rfl)⟩) hP hD hS hA (fun x9 ws9 tys9 H1 locs1 hφ hP hD hK hS => ?_)
    obtain ⟨rfl, v58, cp58, g58, cB58, rfl, rfl, hq58, hc58, hm58, hg58⟩ := hφ
    have hK58 := hK
    refine lv_iload_n hx hb dL_words_142 rfl (lv_at hl 1 rfl) ?_
    refine lv_ldc (v := 8388608) hx hb hown (hts _ jw164) dL_words_143 ?_
    refine lv_iand hx hb dL_words_145 ?_
    refine lv_if_eq (tgt := 154) hx hb dL_words_146 (by first | decide | rfl) (fun _ => ?_) (fun _ => ?_)
    · refine va_ldcS (own := RL) hx hb hown (show vk_R RL 52 " heads" (ad 21) s from hT.2.1 21 52 " heads" (by decide +kernel)) dL_words_154 ?_
      obtain ⟨w59, f59, ht59⟩ := TXT.const (D := D) hT pl (i := 21) (L := 6) (by decide) (by decide +kernel)
      exact K156 _ _ _ _ _ _ _ _ _ _ _ _ _ _ _ _ _ (by omega) (by omega) hl hP hD hS (by omega) hc58 hm58 hg58 hK58 (by omega) ht59
    · refine va_ldcS (own := RL) hx hb hown (show vk_R RL 50 " stem" (ad 20) s from hT.2.1 20 50 " stem" (by decide +kernel)) dL_words_149 ?_
      obtain ⟨w60, f60, ht60⟩ := TXT.const (D := D) hT pl (i := 20) (L := 5) (by decide) (by decide +kernel)
      refine lv_goto (tgt := 156) hx hb dL_words_151 (by first | decide | rfl) ?_
      exact K156 _ _ _ _ _ _ _ _ _ _ _ _ _ _ _ _ _ (by omega) (by omega) hl hP hD hS (by omega) hc58 hm58 hg58 hK58 (by omega) ht60
  have K82 : ∀ (H : Heap) (locs : List Loc) (cells slots : Nat) (ls : Array Slot) (pl : va_W) (b61 v61 c61 cp61 : Nat) (g61 : Nat → Int32) (cB61 : ClassId) (a62 w62 n62 : Nat) (f62 : Nat → Int32), cells ≤ 14 → slots ≤ 3500 → lv_has ls 3 [(0, .int z), (1, .int (nI nn))] → va_P D vwCl ((SBX b61 v61 (c61) cp61 g61 cB61 ++ pl)) H → va_D (va_A [] s.heap.size) ((SBX b61 v61 (c61) cp61 g61 cB61 ++ pl)) → va_S (va_A [] s.heap.size) s.heap H locs → c61 ≤ 12 → c61 ≤ cp61 → cp61 ≤ 300 → FITB g61 → va_K D vwCl [(cB61, .byte)] s → n62 ≤ 13 → TXT D (va_A [] s.heap.size) s pl a62 w62 n62 f62 → W p l e ((headSpec (Cond.code yL_words cL_words 3 (some (.object "java/lang/String")) :: WG) { frames := 7, cells := 200, slots := 20000, locals := 262 }).room) s m (([.int z, .int (nI nn)] : List Value).toArray) below meth c0 H locs cells slots Q (F0 m 82 ls [.ref a62, .ref b61]) := by
    intro H locs cells slots ls pl b61 v61 c61 cp61 g61 cB61 a62 w62 n62 f62 hcl hsl hl hP hD hS hb61 hc61 hm61 hg61 hK61 hn62 ht62
    have hK := hK61
    refine j_call (ws := (SBX b61 v61 (c61) cp61 g61 cB61)) (pl := pl) (va_runV (As := [.ref a62]) (rest := []) (b := b61) (Ts := WG) (own := RL) (C := RJ4) ⟨hx, hb, hml, hown, hts⟩ (js_appS l D ad (n := n62) (f := f62) (w := w62) (c := c61) (by omega) ⟨hc61, hm61⟩ ht62.1 hg61) ⟨cb_of (n := 1) hts jw142 jw128 (hts _ jw143) (by decide +kernel) (by decide +kernel) rfl rfl (Nat.le_of_ble_eq_true rfl) (Nat.le_of_ble_eq_true rfl), hts _ jw144, hts _ jw145⟩ ⟨PcWV.blind, bd_recv (i := 0) hK hP rfl, fun U hU hW => jpWV (ws := (SBX b61 v61 (c61) cp61 g61 cB61)) (pl := pl) hT hC (TXT.sv (ws := SBX b61 v61 (c61) cp61 g61 cB61) (pl := pl) ht62 hts hS hA hP hD) hS hA hP hD hK _ U hU hW⟩ rfl rfl hl.1 rfl (lv_room (Nat.le_of_ble_eq_true rfl)) dL_words_82 ⟨Nat.le_trans (m := 200) (by first | omega | (dsimp only; omega)) (Nat.le_of_ble_eq_true rfl), Nat.le_trans (m := 20000) (by first | omega | (dsimp only; omega)) (Nat.le_of_ble_eq_true rfl)⟩) hP hD hS hA (fun x9 ws9 tys9 H1 locs1 hφ hP hD hK hS => ?_)
    obtain ⟨rfl, v63, cp63, g63, cB63, rfl, rfl, hq63, hc63, hm63, hg63⟩ := hφ
    have hK63 := hK
    refine va_ldcS (own := RL) hx hb hown (show vk_R RL 45 "; " (ad 18) s from hT.2.1 18 45 "; " (by decide +kernel)) dL_words_85 ?_
    obtain ⟨w64, f64, ht64⟩ := TXT.const (D := D) hT pl (i := 18) (L := 2) (by decide) (by decide +kernel)
    have hK := hK63
    refine j_call (ws := (SBX b61 v63 (c61 + n62) cp63 g63 cB63)) (pl := pl) (va_runV (As := [.ref (ad 18)]) (rest := []) (b := b61) (Ts := WG) (own := RL) (C := RJ4) ⟨hx, hb, hml, hown, hts⟩ (js_appS l D ad (n := 2) (f := f64) (w := w64) (c := c61 + n62) (by omega) ⟨hc63, hm63⟩ ht64.1 hg63) ⟨cb_of (n := 1) hts jw142 jw128 (hts _ jw143) (by decide +kernel) (by decide +kernel) rfl rfl (Nat.le_of_ble_eq_true rfl) (Nat.le_of_ble_eq_true rfl), hts _ jw144, hts _ jw145⟩ ⟨PcWV.blind, bd_recv (i := 0) hK hP rfl, fun U hU hW => jpWV (ws := (SBX b61 v63 (c61 + n62) cp63 g63 cB63)) (pl := pl) hT hC (TXT.sv (ws := SBX b61 v63 (c61 + n62) cp63 g63 cB63) (pl := pl) ht64 hts hS hA hP hD) hS hA hP hD hK _ U hU hW⟩ rfl rfl hl.1 rfl (lv_room (Nat.le_of_ble_eq_true rfl)) dL_words_87 ⟨Nat.le_trans (m := 200) (by first | omega | (dsimp only; omega)) (Nat.le_of_ble_eq_true rfl), Nat.le_trans (m := 20000) (by first | omega | (dsimp only; omega)) (Nat.le_of_ble_eq_true rfl)⟩) hP hD hS hA (fun x9 ws9 tys9 H1 locs1 hφ hP hD hK hS => ?_)
    obtain ⟨rfl, v65, cp65, g65, cB65, rfl, rfl, hq65, hc65, hm65, hg65⟩ := hφ
    have hK65 := hK
    have hK := hK65
    refine j_call (ws := (SBX b61 v65 (c61 + n62 + 2) cp65 g65 cB65)) (pl := pl) (va_runV (As := []) (rest := []) (b := b61) (Ts := WG) (own := RL) (C := RJ4) ⟨hx, hb, hml, hown, hts⟩ (js_toS l D ad (c := c61 + n62 + 2) ⟨hc65, hm65⟩ hg65) ⟨cb_of (n := 0) hts jw146 jw128 (hts _ jw147) (by decide +kernel) (by decide +kernel) rfl rfl (Nat.le_of_ble_eq_true rfl) (Nat.le_of_ble_eq_true rfl), hts _ jw148, hts _ jw149⟩ ⟨PcW.blind, bd_recv (i := 0) hK hP rfl, fun U hU hW => jpW (ws := (SBX b61 v65 (c61 + n62 + 2) cp65 g65 cB65)) (pl := pl) hT hC hS hA hP hD hK _ U hU hW⟩ rfl rfl hl.1 rfl (lv_room (Nat.le_of_ble_eq_true rfl)) dL_words_90 ⟨Nat.le_trans (m := 200) (by first | omega | (dsimp only; omega)) (Nat.le_of_ble_eq_true rfl), Nat.le_trans (m := 20000) (by first | omega | (dsimp only; omega)) (Nat.le_of_ble_eq_true rfl)⟩) hP hD hS hA (fun x9 ws9 tys9 H1 locs1 hφ hP hD hK hS => ?_)
    obtain ⟨t66, w66, f66, cA66, rfl, rfl, rfl, hg66⟩ := hφ
    replace hP : va_P D vwCl ((pl ++ SVX t66 w66 (c61 + n62 + 2) f66 cA66)) _ := va_P.swap (a := []) (b := SVX t66 w66 (c61 + n62 + 2) f66 cA66) hP
    replace hD : va_D _ ((pl ++ SVX t66 w66 (c61 + n62 + 2) f66 cA66)) := va_D.swap (a := []) (b := SVX t66 w66 (c61 + n62 + 2) f66 cA66) hD
    have ht66 : TXT D (va_A [] s.heap.size) s (pl ++ SVX t66 w66 (c61 + n62 + 2) f66 cA66) t66 w66 (c61 + n62 + 2) f66 := TXT.last pl hK hg66
    refine lv_goto (tgt := 98) hx hb dL_words_93 (by first | decide | rfl) ?_
    exact K98 _ _ _ _ _ _ _ _ _ _ (by omega) (by omega) hl hP hD hS (by omega) ht66
  refine lv_iload_n hx hb dL_words_0 rfl (lv_at hl 0 rfl) ?_
  refine lv_iconst (v := nI 1) hx hb dL_words_1 (by decide) ?_
  refine lv_iand hx hb dL_words_2 ?_
  refine lv_if_eq (tgt := 96) hx hb dL_words_3 (by first | decide | rfl) (fun _ => ?_) (fun _ => ?_)
  · refine va_ldcS (own := RL) hx hb hown (show vk_R RL 43 "" (ad 17) s from hT.2.1 17 43 "" (by decide +kernel)) dL_words_96 ?_
    obtain ⟨w67, f67, ht67⟩ := TXT.const (D := D) hT [] (i := 17) (L := 0) (by decide) (by decide +kernel)
    exact K98 _ _ _ _ _ _ _ _ _ _ (by omega) (by omega) hl hP hD hS (by omega) ht67
  · refine va_new (C := RJ4) (T := TJ4) (N := 4) (ci := 8) hx hb hts uwJ4 tyJ4 tyJ4_ok hown (hts _ jw150) (hts _ isJ4) (hts _ inJ4) hK0 hP hD hS hA rfl (fs := [.null, .int 0, .int 0, .int 0]) dvJ4 (Nat.le_trans (m := 200) (by first | omega | (dsimp only; omega)) (Nat.le_of_ble_eq_true rfl)) (Nat.le_trans (m := 20000) (by first | omega | (dsimp only; omega)) (Nat.le_of_ble_eq_true rfl)) dL_words_6 (fun b68 H1 hP hD hS => ?_)
    replace hP : va_P D vwCl ([(b68, .inr (8, [.null, .int 0, .int 0, .int 0]))] ++ []) _ := va_P.swap (a := []) (b := []) hP
    replace hD : va_D _ ([(b68, .inr (8, [.null, .int 0, .int 0, .int 0]))] ++ []) := va_D.swap (a := []) (b := []) hD
    refine lv_dup hx hb dL_words_9 rfl ?_
    have hK := hK0
    refine j_call (ws := [(b68, .inr (8, [.null, .int 0, .int 0, .int 0]))]) (pl := []) (va_runI (As := []) (rest := [.ref b68]) (b := b68) (Ts := WG) (own := RL) ⟨hx, hb, hml, hown, hts⟩ (js_init l D ad) ⟨cb_of (n := 0) hts jw151 jw128 (hts _ jw152) (by decide +kernel) (by decide +kernel) rfl rfl (Nat.le_of_ble_eq_true rfl) (Nat.le_of_ble_eq_true rfl), rfl, hts _ jw153⟩ ⟨PcW.blind, fun U hU hW => jpW (ws := [(b68, .inr (8, [.null, .int 0, .int 0, .int 0]))]) (pl := []) hT hC hS hA hP hD hK _ U hU hW⟩ rfl rfl hl.1 rfl (lv_room (Nat.le_of_ble_eq_true rfl)) dL_words_10 ⟨Nat.le_trans (m := 200) (by first | omega | (dsimp only; omega)) (Nat.le_of_ble_eq_true rfl), Nat.le_trans (m := 20000) (by first | omega | (dsimp only; omega)) (Nat.le_of_ble_eq_true rfl)⟩) hP hD hS hA (fun x9 ws9 tys9 H1 locs1 hφ hP hD hK hS => ?_)
    obtain ⟨rfl, v68, cp68, g68, cB68, rfl, rfl, hq68, hc68, hm68, hg68⟩ := hφ
    have hK68 := hK
    refine va_ldcS (own := RL) hx hb hown (show vk_R RL 26 "man " (ad 14) s from hT.2.1 14 26 "man " (by decide +kernel)) dL_words_13 ?_
    obtain ⟨w69, f69, ht69⟩ := TXT.const (D := D) hT [] (i := 14) (L := 4) (by decide) (by decide +kernel)
    have hK := hK68
    refine j_call (ws := (SBX b68 v68 (0) cp68 g68 cB68)) (pl := []) (va_runV (As := [.ref (ad 14)]) (rest := []) (b := b68) (Ts := WG) (own := RL) (C := RJ4) ⟨hx, hb, hml, hown, hts⟩ (js_appS l D ad (n := 4) (f := f69) (w := w69) (c := 0) (by omega) ⟨hc68, hm68⟩ ht69.1 hg68) ⟨cb_of (n := 1) hts jw142 jw128 (hts _ jw143) (by decide +kernel) (by decide +kernel) rfl rfl (Nat.le_of_ble_eq_true rfl) (Nat.le_of_ble_eq_true rfl), hts _ jw144, hts _ jw145⟩ ⟨PcWV.blind, bd_recv (i := 0) hK hP rfl, fun U hU hW => jpWV (ws := (SBX b68 v68 (0) cp68 g68 cB68)) (pl := []) hT hC (TXT.sv (ws := SBX b68 v68 (0) cp68 g68 cB68) (pl := []) ht69 hts hS hA hP hD) hS hA hP hD hK _ U hU hW⟩ rfl rfl hl.1 rfl (lv_room (Nat.le_of_ble_eq_true rfl)) dL_words_15 ⟨Nat.le_trans (m := 200) (by first | omega | (dsimp only; omega)) (Nat.le_of_ble_eq_true rfl), Nat.le_trans (m := 20000) (by first | omega | (dsimp only; omega)) (Nat.le_of_ble_eq_true rfl)⟩) hP hD hS hA (fun x9 ws9 tys9 H1 locs1 hφ hP hD hK hS => ?_)
    obtain ⟨rfl, v70, cp70, g70, cB70, rfl, rfl, hq70, hc70, hm70, hg70⟩ := hφ
    have hK70 := hK
    refine lv_iload_n hx hb dL_words_18 rfl (lv_at hl 0 rfl) ?_
    refine lv_iconst (v := nI 1) hx hb dL_words_19 (by decide) ?_
    refine lv_ishr hx hb dL_words_20 ?_
    refine lv_bipush (v := nI 63) hx hb dL_words_21 (by decide) ?_
    refine lv_and2 hx hb 6 (by decide) dL_words_23 (fun x71 hx71 => ?_)
    have hy71 : x71 < 64 := hx71
    have hK := hK70
    have hd72 := dgn_le x71
    refine j_call (ws := (SBX b68 v70 (0 + 4) cp70 g70 cB70)) (pl := []) (va_runV (As := [.int (nI x71)]) (rest := []) (b := b68) (Ts := WG) (own := RL) (C := RJ4) ⟨hx, hb, hml, hown, hts⟩ (js_appI l D ad (x := x71) (c := 0 + 4) (by omega) (by omega) ⟨hc70, hm70⟩ hg70) ⟨cb_of (n := 1) hts jw159 jw128 (hts _ jw160) (by decide +kernel) (by decide +kernel) rfl rfl (Nat.le_of_ble_eq_true rfl) (Nat.le_of_ble_eq_true rfl), hts _ jw161, hts _ jw162⟩ ⟨PcW.blind, bd_recv (i := 0) hK hP rfl, fun U hU hW => jpW (ws := (SBX b68 v70 (0 + 4) cp70 g70 cB70)) (pl := []) hT hC hS hA hP hD hK _ U hU hW⟩ rfl rfl hl.1 rfl (lv_room (Nat.le_of_ble_eq_true rfl)) dL_words_24 ⟨Nat.le_trans (m := 200) (by first | omega | (dsimp only; omega)) (Nat.le_of_ble_eq_true rfl), Nat.le_trans (m := 20000) (by first | omega | (dsimp only; omega)) (Nat.le_of_ble_eq_true rfl)⟩) hP hD hS hA (fun x9 ws9 tys9 H1 locs1 hφ hP hD hK hS => ?_)
    obtain ⟨rfl, v72, cp72, g72, cB72, rfl, rfl, hq72, hc72, hm72, hg72⟩ := hφ
    have hK72 := hK
    refine va_ldcS (own := RL) hx hb hown (show vk_R RL 35 " p" (ad 15) s from hT.2.1 15 35 " p" (by decide +kernel)) dL_words_27 ?_
    obtain ⟨w73, f73, ht73⟩ := TXT.const (D := D) hT [] (i := 15) (L := 2) (by decide) (by decide +kernel)
    have hK := hK72
    refine j_call (ws := (SBX b68 v72 (0 + 4 + dgn x71) cp72 g72 cB72)) (pl := []) (va_runV (As := [.ref (ad 15)]) (rest := []) (b := b68) (Ts := WG) (own := RL) (C := RJ4) ⟨hx, hb, hml, hown, hts⟩ (js_appS l D ad (n := 2) (f := f73) (w := w73) (c := 0 + 4 + dgn x71) (by omega) ⟨hc72, hm72⟩ ht73.1 hg72) ⟨cb_of (n := 1) hts jw142 jw128 (hts _ jw143) (by decide +kernel) (by decide +kernel) rfl rfl (Nat.le_of_ble_eq_true rfl) (Nat.le_of_ble_eq_true rfl), hts _ jw144, hts _ jw145⟩ ⟨PcWV.blind, bd_recv (i := 0) hK hP rfl, fun U hU hW => jpWV (ws := (SBX b68 v72 (0 + 4 + dgn x71) cp72 g72 cB72)) (pl := []) hT hC (TXT.sv (ws := SBX b68 v72 (0 + 4 + dgn x71) cp72 g72 cB72) (pl := []) ht73 hts hS hA hP hD) hS hA hP hD hK _ U hU hW⟩ rfl rfl hl.1 rfl (lv_room (Nat.le_of_ble_eq_true rfl)) dL_words_29 ⟨Nat.le_trans (m := 200) (by first | omega | (dsimp only; omega)) (Nat.le_of_ble_eq_true rfl), Nat.le_trans (m := 20000) (by first | omega | (dsimp only; omega)) (Nat.le_of_ble_eq_true rfl)⟩) hP hD hS hA (fun x9 ws9 tys9 H1 locs1 hφ hP hD hK hS => ?_)
    obtain ⟨rfl, v74, cp74, g74, cB74, rfl, rfl, hq74, hc74, hm74, hg74⟩ := hφ
    have hK74 := hK
    refine lv_iload_n hx hb dL_words_32 rfl (lv_at hl 0 rfl) ?_
    refine lv_bipush (v := nI 7) hx hb dL_words_33 (by decide) ?_
    refine lv_ishr hx hb dL_words_35 ?_
    refine lv_bipush (v := nI 7) hx hb dL_words_36 (by decide) ?_
    refine lv_and2 hx hb 3 (by decide) dL_words_38 (fun x75 hx75 => ?_)
    have hy75 : x75 < 8 := hx75
    refine lv_iload_n hx hb dL_words_39 rfl (lv_at hl 1 rfl) ?_
    refine lv_rem2 hx hb (x := x75) (by omega) hn dL_words_40 (fun x76 hx76 => ?_)
    have hK := hK74
    have hd77 := dgn_le x76
    refine j_call (ws := (SBX b68 v74 (0 + 4 + dgn x71 + 2) cp74 g74 cB74)) (pl := []) (va_runV (As := [.int (nI x76)]) (rest := []) (b := b68) (Ts := WG) (own := RL) (C := RJ4) ⟨hx, hb, hml, hown, hts⟩ (js_appI l D ad (x := x76) (c := 0 + 4 + dgn x71 + 2) (by omega) (by omega) ⟨hc74, hm74⟩ hg74) ⟨cb_of (n := 1) hts jw159 jw128 (hts _ jw160) (by decide +kernel) (by decide +kernel) rfl rfl (Nat.le_of_ble_eq_true rfl) (Nat.le_of_ble_eq_true rfl), hts _ jw161, hts _ jw162⟩ ⟨PcW.blind, bd_recv (i := 0) hK hP rfl, fun U hU hW => jpW (ws := (SBX b68 v74 (0 + 4 + dgn x71 + 2) cp74 g74 cB74)) (pl := []) hT hC hS hA hP hD hK _ U hU hW⟩ rfl rfl hl.1 rfl (lv_room (Nat.le_of_ble_eq_true rfl)) dL_words_41 ⟨Nat.le_trans (m := 200) (by first | omega | (dsimp only; omega)) (Nat.le_of_ble_eq_true rfl), Nat.le_trans (m := 20000) (by first | omega | (dsimp only; omega)) (Nat.le_of_ble_eq_true rfl)⟩) hP hD hS hA (fun x9 ws9 tys9 H1 locs1 hφ hP hD hK hS => ?_)
    obtain ⟨rfl, v77, cp77, g77, cB77, rfl, rfl, hq77, hc77, hm77, hg77⟩ := hφ
    have hK77 := hK
    refine lv_iload_n hx hb dL_words_44 rfl (lv_at hl 0 rfl) ?_
    refine lv_sipush (v := nI 1024) hx hb dL_words_45 (by decide) ?_
    refine lv_iand hx hb dL_words_48 ?_
    refine lv_if_eq (tgt := 80) hx hb dL_words_49 (by first | decide | rfl) (fun _ => ?_) (fun _ => ?_)
    · refine va_ldcS (own := RL) hx hb hown (show vk_R RL 43 "" (ad 17) s from hT.2.1 17 43 "" (by decide +kernel)) dL_words_80 ?_
      obtain ⟨w78, f78, ht78⟩ := TXT.const (D := D) hT [] (i := 17) (L := 0) (by decide) (by decide +kernel)
      exact K82 _ _ _ _ _ _ _ _ _ _ _ _ _ _ _ _ (by omega) (by omega) hl hP hD hS (by omega) hc77 hm77 hg77 hK77 (by omega) ht78
    · refine va_new (C := RJ4) (T := TJ4) (N := 4) (ci := 8) hx hb hts uwJ4 tyJ4 tyJ4_ok hown (hts _ jw150) (hts _ isJ4) (hts _ inJ4) hK0 hP hD hS hA rfl (fs := [.null, .int 0, .int 0, .int 0]) dvJ4 (Nat.le_trans (m := 200) (by first | omega | (dsimp only; omega)) (Nat.le_of_ble_eq_true rfl)) (Nat.le_trans (m := 20000) (by first | omega | (dsimp only; omega)) (Nat.le_of_ble_eq_true rfl)) dL_words_52 (fun b79 H1 hP hD hS => ?_)
      replace hP : va_P D vwCl ([(b79, .inr (8, [.null, .int 0, .int 0, .int 0]))] ++ (SBX b68 v77 (0 + 4 + dgn x71 + 2 + dgn x76) cp77 g77 cB77 ++ [])) _ := va_P.swap (a := []) (b := (SBX b68 v77 (0 + 4 + dgn x71 + 2 + dgn x76) cp77 g77 cB77 ++ [])) hP
      replace hD : va_D _ ([(b79, .inr (8, [.null, .int 0, .int 0, .int 0]))] ++ (SBX b68 v77 (0 + 4 + dgn x71 + 2 + dgn x76) cp77 g77 cB77 ++ [])) := va_D.swap (a := []) (b := (SBX b68 v77 (0 + 4 + dgn x71 + 2 + dgn x76) cp77 g77 cB77 ++ [])) hD
      refine lv_dup hx hb dL_words_55 rfl ?_
      have hK := hK0
      refine j_call (ws := [(b79, .inr (8, [.null, .int 0, .int 0, .int 0]))]) (pl := (SBX b68 v77 (0 + 4 + dgn x71 + 2 + dgn x76) cp77 g77 cB77 ++ [])) (va_runI (As := []) (rest := [.ref b79, .ref b68]) (b := b79) (Ts := WG) (own := RL) ⟨hx, hb, hml, hown, hts⟩ (js_init l D ad) ⟨cb_of (n := 0) hts jw151 jw128 (hts _ jw152) (by decide +kernel) (by decide +kernel) rfl rfl (Nat.le_of_ble_eq_true rfl) (Nat.le_of_ble_eq_true rfl), rfl, hts _ jw153⟩ ⟨PcW.blind, fun U hU hW => jpW (ws := [(b79, .inr (8, [.null, .int 0, .int 0, .int 0]))]) (pl := (SBX b68 v77 (0 + 4 + dgn x71 + 2 + dgn x76) cp77 g77 cB77 ++ [])) hT hC hS hA hP hD hK _ U hU hW⟩ rfl rfl hl.1 rfl (lv_room (Nat.le_of_ble_eq_true rfl)) dL_words_56 ⟨Nat.le_trans (m := 200) (by first | omega | (dsimp only; omega)) (Nat.le_of_ble_eq_true rfl), Nat.le_trans (m := 20000) (by first | omega | (dsimp only; omega)) (Nat.le_of_ble_eq_true rfl)⟩) hP hD hS hA (fun x9 ws9 tys9 H1 locs1 hφ hP hD hK hS => ?_)
      obtain ⟨rfl, v79, cp79, g79, cB79, rfl, rfl, hq79, hc79, hm79, hg79⟩ := hφ
      have hK79 := hK
      refine va_ldcS (own := RL) hx hb hown (show vk_R RL 37 " if yield>" (ad 16) s from hT.2.1 16 37 " if yield>" (by decide +kernel)) dL_words_59 ?_
      obtain ⟨w80, f80, ht80⟩ := TXT.const (D := D) hT [] (i := 16) (L := 10) (by decide) (by decide +kernel)
      have hK := hK79
      refine j_call (ws := (SBX b79 v79 (0) cp79 g79 cB79)) (pl := (SBX b68 v77 (0 + 4 + dgn x71 + 2 + dgn x76) cp77 g77 cB77 ++ [])) (va_runV (As := [.ref (ad 16)]) (rest := [.ref b68]) (b := b79) (Ts := WG) (own := RL) (C := RJ4) ⟨hx, hb, hml, hown, hts⟩ (js_appS l D ad (n := 10) (f := f80) (w := w80) (c := 0) (by omega) ⟨hc79, hm79⟩ ht80.1 hg79) ⟨cb_of (n := 1) hts jw142 jw128 (hts _ jw143) (by decide +kernel) (by decide +kernel) rfl rfl (Nat.le_of_ble_eq_true rfl) (Nat.le_of_ble_eq_true rfl), hts _ jw144, hts _ jw145⟩ ⟨PcWV.blind, bd_recv (i := 0) hK hP rfl, fun U hU hW => jpWV (ws := (SBX b79 v79 (0) cp79 g79 cB79)) (pl := (SBX b68 v77 (0 + 4 + dgn x71 + 2 + dgn x76) cp77 g77 cB77 ++ [])) hT hC (TXT.sv (ws := SBX b79 v79 (0) cp79 g79 cB79) (pl := (SBX b68 v77 (0 + 4 + dgn x71 + 2 + dgn x76) cp77 g77 cB77 ++ [])) (TXT.pre ht80 (SBX b68 v77 (0 + 4 + dgn x71 + 2 + dgn x76) cp77 g77 cB77)) hts hS hA hP hD) hS hA hP hD hK _ U hU hW⟩ rfl rfl hl.1 rfl (lv_room (Nat.le_of_ble_eq_true rfl)) dL_words_61 ⟨Nat.le_trans (m := 200) (by first | omega | (dsimp only; omega)) (Nat.le_of_ble_eq_true rfl), Nat.le_trans (m := 20000) (by first | omega | (dsimp only; omega)) (Nat.le_of_ble_eq_true rfl)⟩) hP hD hS hA (fun x9 ws9 tys9 H1 locs1 hφ hP hD hK hS => ?_)
      obtain ⟨rfl, v81, cp81, g81, cB81, rfl, rfl, hq81, hc81, hm81, hg81⟩ := hφ
      have hK81 := hK
      refine lv_iload_n hx hb dL_words_64 rfl (lv_at hl 0 rfl) ?_
      refine lv_bipush (v := nI 11) hx hb dL_words_65 (by decide) ?_
      refine lv_ishr hx hb dL_words_67 ?_
      refine lv_bipush (v := nI 63) hx hb dL_words_68 (by decide) ?_
      refine lv_and2 hx hb 6 (by decide) dL_words_70 (fun x82 hx82 => ?_)
      have hy82 : x82 < 64 := hx82
      have hK := hK81
      have hd83 := dgn_le x82
      refine j_call (ws := (SBX b79 v81 (0 + 10) cp81 g81 cB81)) (pl := (SBX b68 v77 (0 + 4 + dgn x71 + 2 + dgn x76) cp77 g77 cB77 ++ [])) (va_runV (As := [.int (nI x82)]) (rest := [.ref b68]) (b := b79) (Ts := WG) (own := RL) (C := RJ4) ⟨hx, hb, hml, hown, hts⟩ (js_appI l D ad (x := x82) (c := 0 + 10) (by omega) (by omega) ⟨hc81, hm81⟩ hg81) ⟨cb_of (n := 1) hts jw159 jw128 (hts _ jw160) (by decide +kernel) (by decide +kernel) rfl rfl (Nat.le_of_ble_eq_true rfl) (Nat.le_of_ble_eq_true rfl), hts _ jw161, hts _ jw162⟩ ⟨PcW.blind, bd_recv (i := 0) hK hP rfl, fun U hU hW => jpW (ws := (SBX b79 v81 (0 + 10) cp81 g81 cB81)) (pl := (SBX b68 v77 (0 + 4 + dgn x71 + 2 + dgn x76) cp77 g77 cB77 ++ [])) hT hC hS hA hP hD hK _ U hU hW⟩ rfl rfl hl.1 rfl (lv_room (Nat.le_of_ble_eq_true rfl)) dL_words_71 ⟨Nat.le_trans (m := 200) (by first | omega | (dsimp only; omega)) (Nat.le_of_ble_eq_true rfl), Nat.le_trans (m := 20000) (by first | omega | (dsimp only; omega)) (Nat.le_of_ble_eq_true rfl)⟩) hP hD hS hA (fun x9 ws9 tys9 H1 locs1 hφ hP hD hK hS => ?_)
      obtain ⟨rfl, v83, cp83, g83, cB83, rfl, rfl, hq83, hc83, hm83, hg83⟩ := hφ
      have hK83 := hK
      have hK := hK83
      refine j_call (ws := (SBX b79 v83 (0 + 10 + dgn x82) cp83 g83 cB83)) (pl := (SBX b68 v77 (0 + 4 + dgn x71 + 2 + dgn x76) cp77 g77 cB77 ++ [])) (va_runV (As := []) (rest := [.ref b68]) (b := b79) (Ts := WG) (own := RL) (C := RJ4) ⟨hx, hb, hml, hown, hts⟩ (js_toS l D ad (c := 0 + 10 + dgn x82) ⟨hc83, hm83⟩ hg83) ⟨cb_of (n := 0) hts jw146 jw128 (hts _ jw147) (by decide +kernel) (by decide +kernel) rfl rfl (Nat.le_of_ble_eq_true rfl) (Nat.le_of_ble_eq_true rfl), hts _ jw148, hts _ jw149⟩ ⟨PcW.blind, bd_recv (i := 0) hK hP rfl, fun U hU hW => jpW (ws := (SBX b79 v83 (0 + 10 + dgn x82) cp83 g83 cB83)) (pl := (SBX b68 v77 (0 + 4 + dgn x71 + 2 + dgn x76) cp77 g77 cB77 ++ [])) hT hC hS hA hP hD hK _ U hU hW⟩ rfl rfl hl.1 rfl (lv_room (Nat.le_of_ble_eq_true rfl)) dL_words_74 ⟨Nat.le_trans (m := 200) (by first | omega | (dsimp only; omega)) (Nat.le_of_ble_eq_true rfl), Nat.le_trans (m := 20000) (by first | omega | (dsimp only; omega)) (Nat.le_of_ble_eq_true rfl)⟩) hP hD hS hA (fun x9 ws9 tys9 H1 locs1 hφ hP hD hK hS => ?_)
      obtain ⟨t84, w84, f84, cA84, rfl, rfl, rfl, hg84⟩ := hφ
      replace hP : va_P D vwCl ((SBX b68 v77 (0 + 4 + dgn x71 + 2 + dgn x76) cp77 g77 cB77 ++ ([] ++ SVX t84 w84 (0 + 10 + dgn x82) f84 cA84))) _ := va_P.swap (a := []) (b := SVX t84 w84 (0 + 10 + dgn x82) f84 cA84) hP
      replace hD : va_D _ ((SBX b68 v77 (0 + 4 + dgn x71 + 2 + dgn x76) cp77 g77 cB77 ++ ([] ++ SVX t84 w84 (0 + 10 + dgn x82) f84 cA84))) := va_D.swap (a := []) (b := SVX t84 w84 (0 + 10 + dgn x82) f84 cA84) hD
      have ht84 : TXT D (va_A [] s.heap.size) s ([] ++ SVX t84 w84 (0 + 10 + dgn x82) f84 cA84) t84 w84 (0 + 10 + dgn x82) f84 := TXT.last [] hK hg84
      refine lv_goto (tgt := 82) hx hb dL_words_77 (by first | decide | rfl) ?_
      exact K82 _ _ _ _ _ _ _ _ _ _ _ _ _ _ _ _ (by omega) (by omega) hl hP hD hS (by omega) hc77 hm77 hg77 hK77 (by omega) ht84

