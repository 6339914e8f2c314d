/-! run: the instructions of the class, one by one, further -/
section PQ
variable {cst : List (List Int32)} {σ b : sg} {Q : Option Value → sg → Prop} {T j r k z : Nat}
theorem Md_hd {h' kk : Nat} {v : Int32} {b' : sg} (hb : b' 61 0 j = b 61 0 j) (hh : h' < 16) (hv : v = nI h') (hc : ∀ s, s < 4 → h'.testBit s = true → ∃ c : Nat, c ≤ j ∧ σ 10 0 s = nI c) (h : Md (mix σ b) j 3 r kk z) : Md (mix (up (up σ 29 j 4 v) 29 j 3 (actF (σ 10 0) h' 4 (nI j))) b') j 3 r kk z := by
  obtain ⟨⟨m0, m2, m12, mh, m1, m61, mu⟩, hr, e10, e11, e13, hz, hkz, hch⟩ := h
  refine ⟨⟨?_, ?_, ?_, ⟨h', hh, ?_, ?_, hc⟩, ?_, ?_, ?_⟩, hr, ?_, ?_, e13, hz, hkz, Eq.mpr (chainOk_congr (σ := mix σ b) (by rfl) (by rfl) (by rfl) j 3 r) hch⟩
  · simp [mix, up]; exact m0
  · simp [mix, up]; exact m2
  · simp [mix, up]; exact m12
  · simp [mix, up]; exact hv
  · simp [mix, up]; rfl
  · simp [mix, up]; exact m1
  · simp [mix, up]; exact hb.trans m61
  · simp [mix, up]; exact mu
  · simp [mix, up]; exact e10
  · simp [mix, up]; exact e11
theorem pc8_q {x y : Nat} (hP : Pre T j r k z 8 x (nI y) σ b) (hy : y ≤ 3) (K : ∀ σ1, Rn T j (mix σ1 (opM b j ((3 * j + r) * 12 + k) 8 x (nI y))) → (∃ r' k' z', Md (mix σ1 (opM b j ((3 * j + r) * 12 + k) 8 x (nI y))) j 3 r' k' z') → fr σ1 σ → Q none σ1) : qa cst 75 40 [(0, .ref (cl 18 0)), (1, .int (nI j)), (2, .ref (cl 29 j)), (3, .ref (cl 13 (3 * j + r))), (4, .int (nI k)), (5, .int (nI x)), (6, .int (nI y))] [.int (nI 8)] σ Q := by
  obtain ⟨hjT, hN, hM, e14, e15, hx, e16⟩ := hP
  obtain ⟨hM0, hr, e10, e11, e13, hz, hkz, hch⟩ := id hM
  have h5 : T ≤ 5 := hN.1.1.1
  have hj5 : j < 5 := by omega
  have hk12 : k < 12 := by omega
  have hn : 3 * j + r < 15 := by omega
  have hx4 : x < 4 := by omega
  have hS : Snd T (mix σ b) := (hN.1.2.2.2.2.1 (hN.1.1.2.2.2.2.2.2.2.2 hN.1.2.2.2.2.2.1)).2.2
  have e70 : ∀ q, q < 4 → b 70 0 (4 * j + q) = σ 30 j q := (hN.2.1.2.1 j hj5).2.2.2.2.2.2.2.1
  have e71 : ∀ q, q < 8 → b 71 0 (8 * j + q) = σ 28 j q := (hN.2.2.2.2.2.1 j hjT).1
  have e69 : ∀ q, q < 12 → b 69 0 ((3 * j + r) * 12 + q) = σ 34 (3 * j + r) q := hN.2.1.2.2 (3 * j + r) hn
  have e46 : ∀ q, q < 12 → b 46 0 ((3 * j + r) * 12 + q) = σ 16 (3 * j + r) q := fun q hq => ((hN.1.2.2.1 (3 * j + r) hn).2 q hq).2.2.1
  have e75 : ∀ q, q < 2 → b 75 0 q = σ 20 0 q := hN.2.2.2.1
  have e64 : b 64 0 j = σ 29 j 4 := (hN.2.1.2.1 j hj5).2.2.2.2.1
  have e10' : σ 29 j 10 = nI r := e10
  have e11' : σ 29 j 11 = nI (k + 1) := e11
  have e65 : b 65 0 j = nI r := (hN.2.1.2.1 j hj5).2.2.2.2.2.1.trans e10
  have e66 : b 66 0 j = nI (k + 1) := (hN.2.1.2.1 j hj5).2.2.2.2.2.2.1.trans e11
  have ny : nN (nI y) = y := nN_n (by omega)
  obtain ⟨h, hh, e4, e3, hce⟩ := hM0.2.2.2.1
  have e4' : σ 29 j 4 = nI h := e4
  obtain ⟨s', c, hs', f1, hc, f2⟩ := ((hS.2 j hjT).2 r hr z k e13 (by omega) hz).2.2.2 (by show σ 14 (3 * j + r) k = 8; rw [e14]; rfl)
  have ys : y = s' := (nI_eq (by omega) (by omega)).mp (e16.symm.trans f1)
  subst ys
  obtain ⟨h', hh', ev, hbt⟩ := bit_or h hh y (by omega)
  have hv : (σ 29 j 4 ||| nI 1 <<< (nI y &&& 31)) = nI h' := by rw [e4']; exact ev
  have hc' : ∀ s, s < 4 → h'.testBit s = true → ∃ c : Nat, c ≤ j ∧ σ 10 0 s = nI c := by
    intro s hs g
    rw [hbt s hs] at g
    by_cases e : s = y
    · subst e; exact ⟨c, hc, f2⟩
    · have g' : h.testBit s = true := by simpa [e] using g
      exact hce s hs g'
  have hcn : ∀ s, s < 4 → h'.testBit s = true → ¬ σ 10 0 s = -1 := by
    intro s hs g
    obtain ⟨c, g1, g2⟩ := hc' s hs g
    rw [g2]; exact m1_ne (by omega)
  simp only [opM, ny, e64] at K
  refine qa_swi (nx := 148) at_75_40 (by decide +kernel) (show _ = some (108) by decide +kernel) rfl ?_
  refine qa_s (pc' := 149) at_75_148 rfl rfl rfl ?_
  refine qa_s (pc' := 150) at_75_149 rfl rfl rfl ?_
  refine qa_s (pc' := 151) at_75_150 rfl rfl rfl ?_
  refine qa_s (pc' := 152) at_75_151 rfl rfl rfl ?_
  refine qa_getI (nx := 155) at_75_152 rfl (by decide) rfl rfl (show _ < 5 by omega) ?_
  refine qa_ic (nx := 156) (v := nI 1) at_75_155 (by decide) rfl ?_
  refine qa_s (pc' := 158) at_75_156 rfl rfl rfl ?_
  refine qa_s (pc' := 159) at_75_158 rfl rfl rfl ?_
  refine qa_s (pc' := 160) at_75_159 rfl rfl rfl ?_
  refine qa_callV (nx := 163) at_75_160 rfl rfl (Nat.le_of_ble_eq_true rfl) rfl rfl rfl (by decide) rfl (by decide) ?_
  show qa _ 79 0 [(0, .ref _), (1, .int _), (2, .ref _), (3, .int _)] [] _ _
  refine c79_q hj5 hh' hv hcn ?_
  show qa _ 75 163 _ [] _ _
  refine qa_goto (nx := 300) at_75_163 rfl ?_
  refine qa_ret at_75_300 rfl ?_
  exact K _ (at_c3 (at_f4 hN)) ⟨_, _, _, Md_hd rfl hh' hv hc' hM⟩ (fr_up (by decide) (fr_up (by decide) fr_refl))
theorem pc9_q {x : Nat} {y : Int32} (hP : Pre T j r k z 9 x y σ b) (K : ∀ σ1, Rn T j (mix σ1 (opM b j ((3 * j + r) * 12 + k) 9 x y)) → (∃ r' k' z', Md (mix σ1 (opM b j ((3 * j + r) * 12 + k) 9 x y)) j 3 r' k' z') → fr σ1 σ → Q none σ1) : qa cst 75 40 [(0, .ref (cl 18 0)), (1, .int (nI j)), (2, .ref (cl 29 j)), (3, .ref (cl 13 (3 * j + r))), (4, .int (nI k)), (5, .int (nI x)), (6, .int y)] [.int (nI 9)] σ Q := by
  obtain ⟨hjT, hN, hM, e14, e15, hx, e16⟩ := hP
  obtain ⟨hM0, hr, e10, e11, e13, hz, hkz, hch⟩ := id hM
  have h5 : T ≤ 5 := hN.1.1.1
  have hj5 : j < 5 := by omega
  have hk12 : k < 12 := by omega
  have hn : 3 * j + r < 15 := by omega
  have hx4 : x < 4 := by omega
  have hS : Snd T (mix σ b) := (hN.1.2.2.2.2.1 (hN.1.1.2.2.2.2.2.2.2.2 hN.1.2.2.2.2.2.1)).2.2
  have e70 : ∀ q, q < 4 → b 70 0 (4 * j + q) = σ 30 j q := (hN.2.1.2.1 j hj5).2.2.2.2.2.2.2.1
  have e71 : ∀ q, q < 8 → b 71 0 (8 * j + q) = σ 28 j q := (hN.2.2.2.2.2.1 j hjT).1
  have e69 : ∀ q, q < 12 → b 69 0 ((3 * j + r) * 12 + q) = σ 34 (3 * j + r) q := hN.2.1.2.2 (3 * j + r) hn
  have e46 : ∀ q, q < 12 → b 46 0 ((3 * j + r) * 12 + q) = σ 16 (3 * j + r) q := fun q hq => ((hN.1.2.2.1 (3 * j + r) hn).2 q hq).2.2.1
  have e75 : ∀ q, q < 2 → b 75 0 q = σ 20 0 q := hN.2.2.2.1
  have e64 : b 64 0 j = σ 29 j 4 := (hN.2.1.2.1 j hj5).2.2.2.2.1
  have e10' : σ 29 j 10 = nI r := e10
  have e11' : σ 29 j 11 = nI (k + 1) := e11
  have e65 : b 65 0 j = nI r := (hN.2.1.2.1 j hj5).2.2.2.2.2.1.trans e10
  have e66 : b 66 0 j = nI (k + 1) := (hN.2.1.2.1 j hj5).2.2.2.2.2.2.1.trans e11
  obtain ⟨h, hh, e4, e3, hce⟩ := hM0.2.2.2.1
  have e4' : σ 29 j 4 = nI h := e4
  obtain ⟨q, hq, f17, f47, f8⟩ := ((hS.2 j hjT).2 r hr z k e13 (by omega) hz).2.2.1 (Or.inr (by show σ 14 (3 * j + r) k = 9; rw [e14]; rfl))
  have f17' : σ 17 (3 * j + r) k = nI q := f17
  have f47' : b 47 0 ((3 * j + r) * 12 + k) = nI ((3 * j + r) * 12 + q) := f47
  have nq : nN (nI ((3 * j + r) * 12 + q)) = (3 * j + r) * 12 + q := nN_n (by omega)
  obtain ⟨y2, c, hy2, f1, hc, f2⟩ := ((hS.2 j hjT).2 r hr z q e13 (by omega) hz).2.2.2 (f8 (by show σ 14 (3 * j + r) k = 9; rw [e14]; rfl))
  have f1' : σ 16 (3 * j + r) q = nI y2 := f1
  obtain ⟨h', hh', ev, hbt⟩ := bit_an h hh y2 hy2
  have hv : (σ 29 j 4 &&& (nI 1 <<< (nI y2 &&& 31) ^^^ -1)) = nI h' := by rw [e4']; exact ev
  have hc' : ∀ s, s < 4 → h'.testBit s = true → ∃ c : Nat, c ≤ j ∧ σ 10 0 s = nI c := fun s hs g => hce s hs (hbt s hs g)
  have hcn : ∀ s, s < 4 → h'.testBit s = true → ¬ σ 10 0 s = -1 := by
    intro s hs g
    obtain ⟨c, g1, g2⟩ := hc' s hs g
    rw [g2]; exact m1_ne (by omega)
  simp only [opM, e64, f47', nq, e46 q (show q < 12 by omega), f1'] at K
  refine qa_swi (nx := 166) at_75_40 (by decide +kernel) (show _ = some (126) by decide +kernel) rfl ?_
  refine qa_s (pc' := 167) at_75_166 rfl rfl rfl ?_
  refine qa_s (pc' := 168) at_75_167 rfl rfl rfl ?_
  refine qa_s (pc' := 169) at_75_168 rfl rfl rfl ?_
  refine qa_s (pc' := 170) at_75_169 rfl rfl rfl ?_
  refine qa_getI (nx := 173) at_75_170 rfl (by decide) rfl rfl (show _ < 5 by omega) ?_
  refine qa_ic (nx := 174) (v := nI 1) at_75_173 (by decide) rfl ?_
  refine qa_s (pc' := 175) at_75_174 rfl rfl rfl ?_
  refine qa_s (pc' := 177) at_75_175 rfl rfl rfl ?_
  refine qa_callV (nx := 180) at_75_177 rfl rfl (Nat.le_of_ble_eq_true rfl) rfl rfl rfl (by decide) rfl (show _ < 15 by omega) ?_
  show qa _ 31 0 [(0, .ref _), (1, .int _)] [] _ _
  refine qa_s (pc' := 1) at_31_0 rfl rfl rfl ?_
  refine qa_getR (nx := 4) at_31_1 rfl (by decide) rfl rfl (show _ < 15 by omega) ?_
  refine qa_s (pc' := 5) at_31_4 rfl rfl rfl ?_
  refine qa_getR (nx := 8) at_31_5 rfl (by decide) rfl rfl (show _ < 15 by omega) ?_
  refine qa_s (pc' := 9) at_31_8 rfl rfl rfl ?_
  refine qa_ialdV (nx := 10) (k := k) (v := nI q) at_31_9 rfl rfl rfl (show _ < 15 by omega) rfl (show k < 12 by omega) (show _ from f17') ?_
  refine qa_ialdV (nx := 11) (k := q) (v := nI y2) at_31_10 rfl rfl rfl (show _ < 15 by omega) rfl (show q < 12 by omega) (show _ from f1') ?_
  refine qa_ret at_31_11 rfl ?_
  show qa _ 75 180 _ [.int _, .int _, .int _, .ref _, .int _, .ref _] _ _
  refine qa_s (pc' := 181) at_75_180 rfl rfl rfl ?_
  refine qa_ic (nx := 182) (v := (-1)) at_75_181 (by decide) rfl ?_
  refine qa_s (pc' := 183) at_75_182 rfl rfl rfl ?_
  refine qa_s (pc' := 184) at_75_183 rfl rfl rfl ?_
  refine qa_callV (nx := 187) at_75_184 rfl rfl (Nat.le_of_ble_eq_true rfl) rfl rfl rfl (by decide) rfl (by decide) ?_
  show qa _ 79 0 [(0, .ref _), (1, .int _), (2, .ref _), (3, .int _)] [] _ _
  refine c79_q hj5 hh' hv hcn ?_
  show qa _ 75 187 _ [] _ _
  refine qa_goto (nx := 300) at_75_187 rfl ?_
  refine qa_ret at_75_300 rfl ?_
  exact K _ (at_c3 (at_f4 hN)) ⟨_, _, _, Md_hd rfl hh' hv hc' hM⟩ (fr_up (by decide) (fr_up (by decide) fr_refl))
theorem pc10_q {x y : Nat} (hP : Pre T j r k z 10 x (nI y) σ b) (hy : y ≤ 2) (K : ∀ σ1, Rn T j (mix σ1 (opM b j ((3 * j + r) * 12 + k) 10 x (nI y))) → (∃ r' k' z', Md (mix σ1 (opM b j ((3 * j + r) * 12 + k) 10 x (nI y))) j 3 r' k' z') → fr σ1 σ → Q none σ1) : qa cst 75 40 [(0, .ref (cl 18 0)), (1, .int (nI j)), (2, .ref (cl 29 j)), (3, .ref (cl 13 (3 * j + r))), (4, .int (nI k)), (5, .int (nI x)), (6, .int (nI y))] [.int (nI 10)] σ Q := by
  obtain ⟨hjT, hN, hM, e14, e15, hx, e16⟩ := hP
  obtain ⟨hM0, hr, e10, e11, e13, hz, hkz, hch⟩ := id hM
  have h5 : T ≤ 5 := hN.1.1.1
  have hj5 : j < 5 := by omega
  have hk12 : k < 12 := by omega
  have hn : 3 * j + r < 15 := by omega
  have hx4 : x < 4 := by omega
  have hS : Snd T (mix σ b) := (hN.1.2.2.2.2.1 (hN.1.1.2.2.2.2.2.2.2.2 hN.1.2.2.2.2.2.1)).2.2
  have e70 : ∀ q, q < 4 → b 70 0 (4 * j + q) = σ 30 j q := (hN.2.1.2.1 j hj5).2.2.2.2.2.2.2.1
  have e71 : ∀ q, q < 8 → b 71 0 (8 * j + q) = σ 28 j q := (hN.2.2.2.2.2.1 j hjT).1
  have e69 : ∀ q, q < 12 → b 69 0 ((3 * j + r) * 12 + q) = σ 34 (3 * j + r) q := hN.2.1.2.2 (3 * j + r) hn
  have e46 : ∀ q, q < 12 → b 46 0 ((3 * j + r) * 12 + q) = σ 16 (3 * j + r) q := fun q hq => ((hN.1.2.2.1 (3 * j + r) hn).2 q hq).2.2.1
  have e75 : ∀ q, q < 2 → b 75 0 q = σ 20 0 q := hN.2.2.2.1
  have e64 : b 64 0 j = σ 29 j 4 := (hN.2.1.2.1 j hj5).2.2.2.2.1
  have e10' : σ 29 j 10 = nI r := e10
  have e11' : σ 29 j 11 = nI (k + 1) := e11
  have e65 : b 65 0 j = nI r := (hN.2.1.2.1 j hj5).2.2.2.2.2.1.trans e10
  have e66 : b 66 0 j = nI (k + 1) := (hN.2.1.2.1 j hj5).2.2.2.2.2.2.1.trans e11
  have ny : nN (nI y) = y := nN_n (by omega)
  obtain ⟨y', w, f1, hry, hy2, f13, hw0, hw⟩ := ((hS.2 j hjT).2 r hr z k e13 (by omega) hz).2.1 (by show σ 14 (3 * j + r) k = 10; rw [e14]; rfl)
  have ys : y = y' := (nI_eq (by omega) (by omega)).mp (e16.symm.trans f1)
  subst ys
  simp only [opM, ny, e65, e66] at K
  refine qa_swi (nx := 283) at_75_40 (by decide +kernel) (show _ = some (243) by decide +kernel) rfl ?_
  refine qa_s (pc' := 284) at_75_283 rfl rfl rfl ?_
  refine qa_s (pc' := 285) at_75_284 rfl rfl rfl ?_
  refine qa_getR (nx := 288) at_75_285 rfl (by decide) rfl rfl (show _ < 15 by omega) ?_
  refine qa_s (pc' := 290) at_75_288 rfl rfl rfl ?_
  refine qa_ialdV (nx := 291) (k := k) (v := nI 10) at_75_290 rfl rfl rfl (show _ < 15 by omega) rfl (show k < 12 by omega) (show _ from e14) ?_
  refine qa_s (pc' := 293) at_75_291 rfl rfl rfl ?_
  refine qa_s (pc' := 295) at_75_293 rfl rfl rfl ?_
  refine qa_s (pc' := 297) at_75_295 rfl rfl rfl ?_
  refine qa_callV (nx := 300) at_75_297 rfl rfl (Nat.le_of_ble_eq_true rfl) rfl rfl rfl (by decide) rfl (show _ < 5 by omega) ?_
  show qa _ 85 0 [(0, .ref _), (1, .int _), (2, .int _), (3, .int _), (4, .int _)] [] _ _
  refine qa_s (pc' := 1) at_85_0 rfl rfl rfl ?_
  refine qa_swi (nx := 161) at_85_1 (by decide +kernel) (show _ = some (160) by decide +kernel) rfl ?_
  refine qa_s (pc' := 162) at_85_161 rfl rfl rfl ?_
  refine qa_s (pc' := 163) at_85_162 rfl rfl rfl ?_
  refine qa_callV (nx := 166) at_85_163 rfl rfl (Nat.le_of_ble_eq_true rfl) rfl rfl rfl (by decide) rfl (show _ < 5 by omega) ?_
  show qa _ 88 0 [(0, .ref _), (1, .int _)] [] _ _
  refine qa_s (pc' := 1) at_88_0 rfl rfl rfl ?_
  refine qa_getR (nx := 4) at_88_1 rfl (by decide) rfl rfl (show _ < 5 by omega) ?_
  refine qa_s (pc' := 5) at_88_4 rfl rfl rfl ?_
  refine qa_s (pc' := 6) at_88_5 rfl rfl rfl ?_
  refine qa_getV (nx := 9) (v := nI r) at_88_6 rfl (by decide) rfl rfl (show _ < 5 by omega) (show _ from e10') ?_
  refine qa_iast (nx := 10) (k := y) at_88_9 rfl rfl rfl (show _ < 5 by omega) rfl (show y < 3 by omega) ?_
  refine qa_s (pc' := 11) at_88_10 rfl rfl rfl ?_
  refine qa_getR (nx := 14) at_88_11 rfl (by decide) rfl rfl (show _ < 5 by omega) ?_
  refine qa_s (pc' := 15) at_88_14 rfl rfl rfl ?_
  refine qa_s (pc' := 16) at_88_15 rfl rfl rfl ?_
  refine qa_getV (nx := 19) (v := nI (k + 1)) at_88_16 rfl (by decide) rfl rfl (show _ < 5 by omega) (show _ from e11') ?_
  refine qa_iast (nx := 20) (k := y) at_88_19 rfl rfl rfl (show _ < 5 by omega) rfl (show y < 3 by omega) ?_
  refine qa_s (pc' := 21) at_88_20 rfl rfl rfl ?_
  refine qa_s (pc' := 22) at_88_21 rfl rfl rfl ?_
  refine qa_put (nx := 25) at_88_22 rfl (by decide) rfl rfl rfl (show _ < 5 by omega) ?_
  refine qa_s (pc' := 26) at_88_25 rfl rfl rfl ?_
  refine qa_ic (nx := 27) (v := nI 0) at_88_26 (by decide) rfl ?_
  refine qa_put (nx := 30) at_88_27 rfl (by decide) rfl rfl rfl (show _ < 5 by omega) ?_
  refine qa_ret at_88_30 rfl ?_
  show qa _ 85 166 _ [] _ _
  refine qa_goto (nx := 169) at_85_166 rfl ?_
  refine qa_ret at_85_169 rfl ?_
  show qa _ 75 300 _ [] _ _
  refine qa_ret at_75_300 rfl ?_
  refine K _ (at_f11 (at_f10 (at_bk (by omega) (at_cl (by omega) hN)))) ⟨y, 0, w, ?_⟩ (fr_up (by decide) (fr_up (by decide) (fr_up (by decide) (fr_up (by decide) fr_refl))))
  obtain ⟨m0, m2, m12, mh, m1, m61, mu⟩ := hM0
  refine ⟨⟨?_, ?_, ?_, hldOk_of (σ := mix σ b) rfl ?_ ?_ mh, ?_, ?_, ?_⟩, by omega, ?_, ?_, f13, hw, by omega, Or.inr ⟨r, k + 1, z, hry, ?_, ?_, e13, hz, hkz, ?_⟩⟩
  · simp [mix, up]; exact m0
  · simp [mix, up]; exact m2
  · simp [mix, up]; exact m12
  · simp [mix, up]
  · simp [mix, up]
  · simp [mix, up]; exact m1
  · simp [mix, up]; exact m61
  · simp [mix, up]; exact mu
  · simp [mix, up]
  · simp [mix, up]
  · simp [mix, up]
  · simp [mix, up]
  · refine chain_upd (σ := mix σ b) (by rfl) _ _ (fun q hq => ?_) (chain_fuel _ 2 _ hch (by omega))
    have g : ¬ q = y := by omega
    exact ⟨by simp [mix, up, g], by simp [mix, up, g]⟩
theorem pc11_q {x y : Nat} (hP : Pre T j r k z 11 x (nI y) σ b) (hy : y ≤ 1) (K : ∀ σ1, Rn T j (mix σ1 (opM b j ((3 * j + r) * 12 + k) 11 x (nI y))) → (∃ r' k' z', Md (mix σ1 (opM b j ((3 * j + r) * 12 + k) 11 x (nI y))) j 3 r' k' z') → fr σ1 σ → Q none σ1) : qa cst 75 40 [(0, .ref (cl 18 0)), (1, .int (nI j)), (2, .ref (cl 29 j)), (3, .ref (cl 13 (3 * j + r))), (4, .int (nI k)), (5, .int (nI x)), (6, .int (nI y))] [.int (nI 11)] σ Q := by
  obtain ⟨hjT, hN, hM, e14, e15, hx, e16⟩ := hP
  obtain ⟨hM0, hr, e10, e11, e13, hz, hkz, hch⟩ := id hM
  have h5 : T ≤ 5 := hN.1.1.1
  have hj5 : j < 5 := by omega
  have hk12 : k < 12 := by omega
  have hn : 3 * j + r < 15 := by omega
  have hx4 : x < 4 := by omega
  have hS : Snd T (mix σ b) := (hN.1.2.2.2.2.1 (hN.1.1.2.2.2.2.2.2.2.2 hN.1.2.2.2.2.2.1)).2.2
  have e70 : ∀ q, q < 4 → b 70 0 (4 * j + q) = σ 30 j q := (hN.2.1.2.1 j hj5).2.2.2.2.2.2.2.1
  have e71 : ∀ q, q < 8 → b 71 0 (8 * j + q) = σ 28 j q := (hN.2.2.2.2.2.1 j hjT).1
  have e69 : ∀ q, q < 12 → b 69 0 ((3 * j + r) * 12 + q) = σ 34 (3 * j + r) q := hN.2.1.2.2 (3 * j + r) hn
  have e46 : ∀ q, q < 12 → b 46 0 ((3 * j + r) * 12 + q) = σ 16 (3 * j + r) q := fun q hq => ((hN.1.2.2.1 (3 * j + r) hn).2 q hq).2.2.1
  have e75 : ∀ q, q < 2 → b 75 0 q = σ 20 0 q := hN.2.2.2.1
  have e64 : b 64 0 j = σ 29 j 4 := (hN.2.1.2.1 j hj5).2.2.2.2.1
  have e10' : σ 29 j 10 = nI r := e10
  have e11' : σ 29 j 11 = nI (k + 1) := e11
  have e65 : b 65 0 j = nI r := (hN.2.1.2.1 j hj5).2.2.2.2.2.1.trans e10
  have e66 : b 66 0 j = nI (k + 1) := (hN.2.1.2.1 j hj5).2.2.2.2.2.2.1.trans e11
  have ny : nN (nI y) = y := nN_n (by omega)
  simp only [opM, ny, e75 y (show y < 2 by omega)] at K
  refine qa_swi (nx := 190) at_75_40 (by decide +kernel) (show _ = some (150) by decide +kernel) rfl ?_
  refine qa_s (pc' := 191) at_75_190 rfl rfl rfl ?_
  refine qa_getR (nx := 194) at_75_191 rfl (by decide) rfl rfl (show _ < 5 by omega) ?_
  refine qa_s (pc' := 196) at_75_194 rfl rfl rfl ?_
  refine qa_s (pc' := 197) at_75_196 rfl rfl rfl ?_
  refine qa_getR (nx := 200) at_75_197 rfl (by decide) rfl rfl (by decide) ?_
  refine qa_s (pc' := 202) at_75_200 rfl rfl rfl ?_
  refine qa_iald (nx := 203) (k := y) at_75_202 rfl rfl rfl (by decide) rfl (show y < 2 by omega) ?_
  refine qa_iast (nx := 204) (k := x) at_75_203 rfl rfl rfl (show _ < 5 by omega) rfl (show x < 4 by omega) ?_
  refine qa_goto (nx := 300) at_75_204 rfl ?_
  refine qa_ret at_75_300 rfl ?_
  exact K _ (at_rg hj5 hx4 hN) ⟨_, _, _, Md_of (mix_of (mk_up (by decide) (mk_rf)) (mk_up (by decide) (mk_rf))) hM⟩ (fr_up (by decide) (fr_refl))
theorem pc12_q {x : Nat} {y : Int32} (hP : Pre T j r k z 12 x y σ b) (K : ∀ σ1, Rn T j (mix σ1 (opM b j ((3 * j + r) * 12 + k) 12 x y)) → (∃ r' k' z', Md (mix σ1 (opM b j ((3 * j + r) * 12 + k) 12 x y)) j 3 r' k' z') → fr σ1 σ → Q none σ1) : qa cst 75 40 [(0, .ref (cl 18 0)), (1, .int (nI j)), (2, .ref (cl 29 j)), (3, .ref (cl 13 (3 * j + r))), (4, .int (nI k)), (5, .int (nI x)), (6, .int y)] [.int (nI 12)] σ Q := by
  obtain ⟨hjT, hN, hM, e14, e15, hx, e16⟩ := hP
  obtain ⟨hM0, hr, e10, e11, e13, hz, hkz, hch⟩ := id hM
  have h5 : T ≤ 5 := hN.1.1.1
  have hj5 : j < 5 := by omega
  have hk12 : k < 12 := by omega
  have hn : 3 * j + r < 15 := by omega
  have hx4 : x < 4 := by omega
  have hS : Snd T (mix σ b) := (hN.1.2.2.2.2.1 (hN.1.1.2.2.2.2.2.2.2.2 hN.1.2.2.2.2.2.1)).2.2
  have e70 : ∀ q, q < 4 → b 70 0 (4 * j + q) = σ 30 j q := (hN.2.1.2.1 j hj5).2.2.2.2.2.2.2.1
  have e71 : ∀ q, q < 8 → b 71 0 (8 * j + q) = σ 28 j q := (hN.2.2.2.2.2.1 j hjT).1
  have e69 : ∀ q, q < 12 → b 69 0 ((3 * j + r) * 12 + q) = σ 34 (3 * j + r) q := hN.2.1.2.2 (3 * j + r) hn
  have e46 : ∀ q, q < 12 → b 46 0 ((3 * j + r) * 12 + q) = σ 16 (3 * j + r) q := fun q hq => ((hN.1.2.2.1 (3 * j + r) hn).2 q hq).2.2.1
  have e75 : ∀ q, q < 2 → b 75 0 q = σ 20 0 q := hN.2.2.2.1
  have e64 : b 64 0 j = σ 29 j 4 := (hN.2.1.2.1 j hj5).2.2.2.2.1
  have e10' : σ 29 j 10 = nI r := e10
  have e11' : σ 29 j 11 = nI (k + 1) := e11
  have e65 : b 65 0 j = nI r := (hN.2.1.2.1 j hj5).2.2.2.2.2.1.trans e10
  have e66 : b 66 0 j = nI (k + 1) := (hN.2.1.2.1 j hj5).2.2.2.2.2.2.1.trans e11
  simp only [opM, e70 x hx4] at K
  refine qa_swi (nx := 207) at_75_40 (by decide +kernel) (show _ = some (167) by decide +kernel) rfl ?_
  refine qa_s (pc' := 208) at_75_207 rfl rfl rfl ?_
  refine qa_getR (nx := 211) at_75_208 rfl (by decide) rfl rfl (by decide) ?_
  refine qa_ic (nx := 212) (v := nI 1) at_75_211 (by decide) rfl ?_
  refine qa_s (pc' := 213) at_75_212 rfl rfl rfl ?_
  refine qa_s (pc' := 214) at_75_213 rfl rfl rfl ?_
  refine qa_getI (nx := 217) at_75_214 rfl (by decide) rfl rfl (by decide) ?_
  refine qa_s (pc' := 218) at_75_217 rfl rfl rfl ?_
  refine qa_getR (nx := 221) at_75_218 rfl (by decide) rfl rfl (show _ < 5 by omega) ?_
  refine qa_s (pc' := 223) at_75_221 rfl rfl rfl ?_
  refine qa_iald (nx := 224) (k := x) at_75_223 rfl rfl rfl (show _ < 5 by omega) rfl (show x < 4 by omega) ?_
  refine qa_callV (nx := 227) at_75_224 rfl rfl (Nat.le_of_ble_eq_true rfl) rfl rfl rfl (by decide) rfl (by decide) ?_
  show qa _ 68 0 [(0, .ref _), (1, .int _), (2, .int _), (3, .int _), (4, .int _)] [] _ _
  refine c68_q ?_
  show qa _ 75 227 _ [] _ _
  refine qa_goto (nx := 300) at_75_227 rfl ?_
  refine qa_ret at_75_300 rfl ?_
  exact K _ (at_jn hN) ⟨_, _, _, Md_of (mix_of (mk_up (by decide) (mk_up (by decide) (mk_up (by decide) (mk_up (by decide) (mk_up (by decide) (mk_rf)))))) (mk_up (by decide) (mk_up (by decide) (mk_up (by decide) (mk_up (by decide) (mk_up (by decide) (mk_rf))))))) hM⟩ entC_fr
theorem pc13_q {x y : Nat} (hP : Pre T j r k z 13 x (nI y) σ b) (hy : y ≤ 1) (K : ∀ σ1, Rn T j (mix σ1 (opM b j ((3 * j + r) * 12 + k) 13 x (nI y))) → (∃ r' k' z', Md (mix σ1 (opM b j ((3 * j + r) * 12 + k) 13 x (nI y))) j 3 r' k' z') → fr σ1 σ → Q none σ1) : qa cst 75 40 [(0, .ref (cl 18 0)), (1, .int (nI j)), (2, .ref (cl 29 j)), (3, .ref (cl 13 (3 * j + r))), (4, .int (nI k)), (5, .int (nI x)), (6, .int (nI y))] [.int (nI 13)] σ Q := by
  obtain ⟨hjT, hN, hM, e14, e15, hx, e16⟩ := hP
  obtain ⟨hM0, hr, e10, e11, e13, hz, hkz, hch⟩ := id hM
  have h5 : T ≤ 5 := hN.1.1.1
  have hj5 : j < 5 := by omega
  have hk12 : k < 12 := by omega
  have hn : 3 * j + r < 15 := by omega
  have hx4 : x < 4 := by omega
  have hS : Snd T (mix σ b) := (hN.1.2.2.2.2.1 (hN.1.1.2.2.2.2.2.2.2.2 hN.1.2.2.2.2.2.1)).2.2
  have e70 : ∀ q, q < 4 → b 70 0 (4 * j + q) = σ 30 j q := (hN.2.1.2.1 j hj5).2.2.2.2.2.2.2.1
  have e71 : ∀ q, q < 8 → b 71 0 (8 * j + q) = σ 28 j q := (hN.2.2.2.2.2.1 j hjT).1
  have e69 : ∀ q, q < 12 → b 69 0 ((3 * j + r) * 12 + q) = σ 34 (3 * j + r) q := hN.2.1.2.2 (3 * j + r) hn
  have e46 : ∀ q, q < 12 → b 46 0 ((3 * j + r) * 12 + q) = σ 16 (3 * j + r) q := fun q hq => ((hN.1.2.2.1 (3 * j + r) hn).2 q hq).2.2.1
  have e75 : ∀ q, q < 2 → b 75 0 q = σ 20 0 q := hN.2.2.2.1
  have e64 : b 64 0 j = σ 29 j 4 := (hN.2.1.2.1 j hj5).2.2.2.2.1
  have e10' : σ 29 j 10 = nI r := e10
  have e11' : σ 29 j 11 = nI (k + 1) := e11
  have e65 : b 65 0 j = nI r := (hN.2.1.2.1 j hj5).2.2.2.2.2.1.trans e10
  have e66 : b 66 0 j = nI (k + 1) := (hN.2.1.2.1 j hj5).2.2.2.2.2.2.1.trans e11
  have ny : nN (nI y) = y := nN_n (by omega)
  obtain ⟨c, hc, g35, g77, g76⟩ := hN.2.2.2.2.1 y (by omega)
  have g35' : σ 35 y 1 = nI c := g35
  have g77' : b 77 0 y = nI c := g77
  have nc : nN (nI c) = c := nN_n (by omega)
  simp only [opM, ny, g77', nc, e70 x hx4] at K
  refine qa_swi (nx := 230) at_75_40 (by decide +kernel) (show _ = some (190) by decide +kernel) rfl ?_
  refine qa_s (pc' := 231) at_75_230 rfl rfl rfl ?_
  refine qa_getR (nx := 234) at_75_231 rfl (by decide) rfl rfl (show _ < 5 by omega) ?_
  refine qa_ic (nx := 235) (v := nI 0) at_75_234 (by decide) rfl ?_
  refine qa_s (pc' := 236) at_75_235 rfl rfl rfl ?_
  refine qa_getR (nx := 239) at_75_236 rfl (by decide) rfl rfl (by decide) ?_
  refine qa_s (pc' := 241) at_75_239 rfl rfl rfl ?_
  refine qa_aald (nx := 242) (k := y) at_75_241 (by decide) rfl rfl (by decide) rfl (show y < 2 by omega) ?_
  refine qa_s (pc' := 243) at_75_242 rfl rfl rfl ?_
  refine qa_getR (nx := 246) at_75_243 rfl (by decide) rfl rfl (show _ < 5 by omega) ?_
  refine qa_s (pc' := 248) at_75_246 rfl rfl rfl ?_
  refine qa_iald (nx := 249) (k := x) at_75_248 rfl rfl rfl (show _ < 5 by omega) rfl (show x < 4 by omega) ?_
  refine qa_callV (nx := 252) at_75_249 rfl rfl (Nat.le_of_ble_eq_true rfl) rfl rfl rfl (by decide) rfl (show _ < 2 by omega) ?_
  show qa _ 81 0 [(0, .ref _), (1, .int _)] [] _ _
  refine c81_q (c := c) (by omega) hc g35' (fun hc3 => ?_) (fun hc3 => ?_)
  · rw [if_neg (fun g => by rw [nI_ltI (by omega) (by omega)] at g; omega)] at K
    show qa _ 75 252 _ [.int _, .int _, .ref _] _ _
    refine qn_if_eq (tg := 259) (nx := 255) at_75_252 rfl rfl (by decide) (fun h75_252 => ?_) (fun h => absurd h (by decide))
    refine qa_ic (nx := 260) (v := nI 0) at_75_259 (by decide) rfl ?_
    refine qa_iast (nx := 261) (k := 0) at_75_260 rfl rfl rfl (show _ < 5 by omega) rfl (show 0 < 4 by omega) ?_
    refine qa_goto (nx := 300) at_75_261 rfl ?_
    refine qa_ret at_75_300 rfl ?_
    first | exact K _ (at_rg (k := 0) hj5 (by decide) hN) ⟨_, _, _, Md_of (mix_of (mk_up (by decide) (mk_rf)) (mk_up (by decide) (mk_rf))) hM⟩ (fr_up (by decide) (fr_refl)) | exact K _ (at_rg (k := 0) hj5 (by decide) (at_put (by omega) hc3 g35' hN)) ⟨_, _, _, Md_of (mix_of (mk_up (by decide) (mk_up (by decide) (mk_up (by decide) (mk_rf)))) (mk_up (by decide) (mk_up (by decide) (mk_up (by decide) (mk_rf))))) hM⟩ (fr_up (by decide) (fr_up (by decide) (fr_up (by decide) (fr_refl))))
  · rw [if_pos ((nI_ltI (by omega) (by omega)).mpr hc3), nI_add] at K
    show qa _ 75 252 _ [.int _, .int _, .ref _] _ _
    refine qn_if_eq (tg := 259) (nx := 255) at_75_252 rfl rfl (by decide) (fun h => absurd h (by decide)) (fun h75_252 => ?_)
    refine qa_ic (nx := 256) (v := nI 1) at_75_255 (by decide) rfl ?_
    refine qa_goto (nx := 260) at_75_256 rfl ?_
    refine qa_iast (nx := 261) (k := 0) at_75_260 rfl rfl rfl (show _ < 5 by omega) rfl (show 0 < 4 by omega) ?_
    refine qa_goto (nx := 300) at_75_261 rfl ?_
    refine qa_ret at_75_300 rfl ?_
    first | exact K _ (at_rg (k := 0) hj5 (by decide) hN) ⟨_, _, _, Md_of (mix_of (mk_up (by decide) (mk_rf)) (mk_up (by decide) (mk_rf))) hM⟩ (fr_up (by decide) (fr_refl)) | exact K _ (at_rg (k := 0) hj5 (by decide) (at_put (by omega) hc3 g35' hN)) ⟨_, _, _, Md_of (mix_of (mk_up (by decide) (mk_up (by decide) (mk_up (by decide) (mk_rf)))) (mk_up (by decide) (mk_up (by decide) (mk_up (by decide) (mk_rf))))) hM⟩ (fr_up (by decide) (fr_up (by decide) (fr_up (by decide) (fr_refl))))
theorem tkC_k {p : Nat → Bool} {y c : Nat} (hc : c ≤ 3) (h1 : p 35 = false) (h2 : p 36 = false) : ∀ a, p a = true → tkC σ y c a = σ a := by
  intro a ha
  obtain rfl | rfl | rfl | rfl : c = 0 ∨ c = 1 ∨ c = 2 ∨ c = 3 := by omega
  · rfl
  · exact up_k (kne ha h1)
  · exact (up_k (kne ha h2)).trans (up_k (kne ha h1))
  · exact (up_k (kne ha h2)).trans ((up_k (kne ha h2)).trans (up_k (kne ha h1)))
theorem tkC_fr {y c : Nat} (hc : c ≤ 3) : fr (tkC σ y c) σ := by
  intro a ha
  obtain rfl | rfl | rfl | rfl : c = 0 ∨ c = 1 ∨ c = 2 ∨ c = 3 := by omega
  · rfl
  · exact up_k (by omega)
  · exact (up_k (by omega)).trans (up_k (by omega))
  · exact (up_k (by omega)).trans ((up_k (by omega)).trans (up_k (by omega)))
theorem pc14_q {x y : Nat} (hP : Pre T j r k z 14 x (nI y) σ b) (hy : y ≤ 1) (K : ∀ σ1, Rn T j (mix σ1 (opM b j ((3 * j + r) * 12 + k) 14 x (nI y))) → (∃ r' k' z', Md (mix σ1 (opM b j ((3 * j + r) * 12 + k) 14 x (nI y))) j 3 r' k' z') → fr σ1 σ → Q none σ1) : qa cst 75 40 [(0, .ref (cl 18 0)), (1, .int (nI j)), (2, .ref (cl 29 j)), (3, .ref (cl 13 (3 * j + r))), (4, .int (nI k)), (5, .int (nI x)), (6, .int (nI y))] [.int (nI 14)] σ Q := by
  obtain ⟨hjT, hN, hM, e14, e15, hx, e16⟩ := hP
  obtain ⟨hM0, hr, e10, e11, e13, hz, hkz, hch⟩ := id hM
  have h5 : T ≤ 5 := hN.1.1.1
  have hj5 : j < 5 := by omega
  have hk12 : k < 12 := by omega
  have hn : 3 * j + r < 15 := by omega
  have hx4 : x < 4 := by omega
  have hS : Snd T (mix σ b) := (hN.1.2.2.2.2.1 (hN.1.1.2.2.2.2.2.2.2.2 hN.1.2.2.2.2.2.1)).2.2
  have e70 : ∀ q, q < 4 → b 70 0 (4 * j + q) = σ 30 j q := (hN.2.1.2.1 j hj5).2.2.2.2.2.2.2.1
  have e71 : ∀ q, q < 8 → b 71 0 (8 * j + q) = σ 28 j q := (hN.2.2.2.2.2.1 j hjT).1
  have e69 : ∀ q, q < 12 → b 69 0 ((3 * j + r) * 12 + q) = σ 34 (3 * j + r) q := hN.2.1.2.2 (3 * j + r) hn
  have e46 : ∀ q, q < 12 → b 46 0 ((3 * j + r) * 12 + q) = σ 16 (3 * j + r) q := fun q hq => ((hN.1.2.2.1 (3 * j + r) hn).2 q hq).2.2.1
  have e75 : ∀ q, q < 2 → b 75 0 q = σ 20 0 q := hN.2.2.2.1
  have e64 : b 64 0 j = σ 29 j 4 := (hN.2.1.2.1 j hj5).2.2.2.2.1
  have e10' : σ 29 j 10 = nI r := e10
  have e11' : σ 29 j 11 = nI (k + 1) := e11
  have e65 : b 65 0 j = nI r := (hN.2.1.2.1 j hj5).2.2.2.2.2.1.trans e10
  have e66 : b 66 0 j = nI (k + 1) := (hN.2.1.2.1 j hj5).2.2.2.2.2.2.1.trans e11
  have ny : nN (nI y) = y := nN_n (by omega)
  obtain ⟨c, hc, g35, g77, g76⟩ := hN.2.2.2.2.1 y (by omega)
  have g35' : σ 35 y 1 = nI c := g35
  have g77' : b 77 0 y = nI c := g77
  have nc : nN (nI c) = c := nN_n (by omega)
  simp only [opM, ny, g77', nc, up_ck (show (70 : Nat) ≠ 76 by decide), up_ck (show (70 : Nat) ≠ 77 by decide)] at K
  refine qa_swi (nx := 264) at_75_40 (by decide +kernel) (show _ = some (224) by decide +kernel) rfl ?_
  refine qa_s (pc' := 265) at_75_264 rfl rfl rfl ?_
  refine qa_getR (nx := 268) at_75_265 rfl (by decide) rfl rfl (by decide) ?_
  refine qa_s (pc' := 270) at_75_268 rfl rfl rfl ?_
  refine qa_aald (nx := 271) (k := y) at_75_270 (by decide) rfl rfl (by decide) rfl (show y < 2 by omega) ?_
  refine qa_s (pc' := 272) at_75_271 rfl rfl rfl ?_
  refine qa_getR (nx := 275) at_75_272 rfl (by decide) rfl rfl (show _ < 5 by omega) ?_
  refine qa_s (pc' := 277) at_75_275 rfl rfl rfl ?_
  refine qa_callS (nx := 280) at_75_277 rfl rfl (Nat.le_of_ble_eq_true rfl) rfl rfl (by decide) rfl ?_
  show qa _ 82 0 [(0, .ref _), (1, .ref _), (2, .int _)] [] _ _
  refine qa_s (pc' := 1) at_82_0 rfl rfl rfl ?_
  refine qa_callV (nx := 4) at_82_1 rfl rfl (Nat.le_of_ble_eq_true rfl) rfl rfl rfl (by decide) rfl (show _ < 2 by omega) ?_
  show qa _ 83 0 [(0, .ref _)] [] _ _
  refine qa_s (pc' := 1) at_83_0 rfl rfl rfl ?_
  refine qa_getV (nx := 4) (v := nI c) at_83_1 rfl (by decide) rfl rfl (show _ < 2 by omega) (show _ from g35') ?_
  refine qn_if_ne (tg := 11) (nx := 7) at_83_4 rfl rfl (by omega) (fun h83_4 => ?_) (fun h83_4 => ?_)
  · rw [if_pos ((nI_0lt (by omega)).mpr h83_4), show b 76 0 (3 * y) = σ 36 y 0 from g76 0 h83_4] at K
    refine qa_ic (nx := 12) (v := nI 0) at_83_11 (by decide) rfl ?_
    refine qa_ret at_83_12 rfl ?_
    show qa _ 82 4 _ [.int _] _ _
    refine qn_if_eq (tg := 14) (nx := 7) at_82_4 rfl rfl (by decide) (fun h82_4 => ?_) (fun h => absurd h (by decide))
    refine qa_s (pc' := 15) at_82_14 rfl rfl rfl ?_
    refine qa_s (pc' := 16) at_82_15 rfl rfl rfl ?_
    refine qa_s (pc' := 17) at_82_16 rfl rfl rfl ?_
    refine qa_callV (nx := 20) at_82_17 rfl rfl (Nat.le_of_ble_eq_true rfl) rfl rfl rfl (by decide) rfl (show _ < 2 by omega) ?_
    show qa _ 84 0 [(0, .ref _)] [] _ _
    refine c84_q (c := c) (by omega) hc (by omega) g35' ?_
    show qa _ 82 20 _ [.int _, .int _, .ref _] _ _
    refine qa_iast (nx := 21) (k := x) at_82_20 rfl rfl rfl (show _ < 5 by omega) rfl (show x < 4 by omega) ?_
    refine qa_s (pc' := 22) at_82_21 rfl rfl rfl ?_
    refine qa_ic (nx := 23) (v := nI 0) at_82_22 (by decide) rfl ?_
    refine qa_ic (nx := 24) (v := nI 1) at_82_23 (by decide) rfl ?_
    refine qa_iast (nx := 25) (k := 0) at_82_24 rfl rfl rfl (show _ < 5 by omega) rfl (show 0 < 4 by omega) ?_
    refine qa_ret at_82_25 rfl ?_
    show qa _ 75 280 _ [] _ _
    refine qa_goto (nx := 300) at_75_280 rfl ?_
    refine qa_ret at_75_300 rfl ?_
    first | exact K _ (at_rg (k := 0) hj5 (by decide) hN) ⟨_, _, _, Md_of (mix_of (mk_up (by decide) (mk_rf)) (mk_up (by decide) (mk_rf))) hM⟩ (fr_up (by decide) (fr_refl)) | exact K _ (at_rg (k := 0) hj5 (by decide) (at_rg hj5 hx4 (at_take (by omega) hc (by omega) g35' hN))) ⟨_, _, _, Md_of (mix_of (mk_up (by decide) (mk_up (by decide) (tkC_k hc (by decide) (by decide)))) (mk_up (by decide) (mk_up (by decide) (mk_up (by decide) (mk_up (by decide) (mk_up (by decide) (mk_rf))))))) hM⟩ (fr_up (by decide) (fr_up (by decide) (tkC_fr hc)))
  · rw [if_neg (fun g => by rw [nI_0lt (by omega)] at g; omega)] at K
    refine qa_ic (nx := 8) (v := nI 1) at_83_7 (by decide) rfl ?_
    refine qa_goto (nx := 12) at_83_8 rfl ?_
    refine qa_ret at_83_12 rfl ?_
    show qa _ 82 4 _ [.int _] _ _
    refine qn_if_eq (tg := 14) (nx := 7) at_82_4 rfl rfl (by decide) (fun h => absurd h (by decide)) (fun h82_4 => ?_)
    refine qa_s (pc' := 8) at_82_7 rfl rfl rfl ?_
    refine qa_ic (nx := 9) (v := nI 0) at_82_8 (by decide) rfl ?_
    refine qa_ic (nx := 10) (v := nI 0) at_82_9 (by decide) rfl ?_
    refine qa_iast (nx := 11) (k := 0) at_82_10 rfl rfl rfl (show _ < 5 by omega) rfl (show 0 < 4 by omega) ?_
    refine qa_goto (nx := 25) at_82_11 rfl ?_
    refine qa_ret at_82_25 rfl ?_
    show qa _ 75 280 _ [] _ _
    refine qa_goto (nx := 300) at_75_280 rfl ?_
    refine qa_ret at_75_300 rfl ?_
    first | exact K _ (at_rg (k := 0) hj5 (by decide) hN) ⟨_, _, _, Md_of (mix_of (mk_up (by decide) (mk_rf)) (mk_up (by decide) (mk_rf))) hM⟩ (fr_up (by decide) (fr_refl)) | exact K _ (at_rg (k := 0) hj5 (by decide) (at_rg hj5 hx4 (at_take (by omega) hc (by omega) g35' hN))) ⟨_, _, _, Md_of (mix_of (mk_up (by decide) (mk_up (by decide) (tkC_k hc (by decide) (by decide)))) (mk_up (by decide) (mk_up (by decide) (mk_up (by decide) (mk_up (by decide) (mk_up (by decide) (mk_rf))))))) hM⟩ (fr_up (by decide) (fr_up (by decide) (tkC_fr hc)))
end PQ
