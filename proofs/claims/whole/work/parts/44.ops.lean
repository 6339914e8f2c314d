/-! run: the instructions of the class, one by one -/
section PQ
variable {cst : List (List Int32)} {σ b : sg} {Q : Option Value → sg → Prop} {T j r k z : Nat}
def Pre (T j r k z o x : Nat) (y : Int32) (σ b : sg) : Prop := j < T ∧ Rn T j (mix σ b) ∧ Md (mix σ b) j 3 r (k + 1) z ∧ σ 14 (3 * j + r) k = nI o ∧ σ 15 (3 * j + r) k = nI x ∧ x ≤ 3 ∧ σ 16 (3 * j + r) k = y
theorem pc0_q {x : Nat} {y : Int32} (hP : Pre T j r k z 0 x y σ b) (K : ∀ σ1, Rn T j (mix σ1 (opM b j ((3 * j + r) * 12 + k) 0 x y)) → (∃ r' k' z', Md (mix σ1 (opM b j ((3 * j + r) * 12 + k) 0 x y)) j 3 r' k' z') → fr σ1 σ → Q none σ1) : qa cst 75 40 [(0, .ref (cl 18 0)), (1, .int (nI j)), (2, .ref (cl 29 j)), (3, .ref (cl 13 (3 * j + r))), (4, .int (nI k)), (5, .int (nI x)), (6, .int y)] [.int (nI 0)] σ Q := by
  obtain ⟨hjT, hN, hM, e14, e15, hx, e16⟩ := hP
  obtain ⟨hM0, hr, e10, e11, e13, hz, hkz, hch⟩ := id hM
  have h5 : T ≤ 5 := hN.1.1.1
  have hj5 : j < 5 := by omega
  have hk12 : k < 12 := by omega
  have hn : 3 * j + r < 15 := by omega
  have hx4 : x < 4 := by omega
  have hS : Snd T (mix σ b) := (hN.1.2.2.2.2.1 (hN.1.1.2.2.2.2.2.2.2.2 hN.1.2.2.2.2.2.1)).2.2
  have e70 : ∀ q, q < 4 → b 70 0 (4 * j + q) = σ 30 j q := (hN.2.1.2.1 j hj5).2.2.2.2.2.2.2.1
  have e71 : ∀ q, q < 8 → b 71 0 (8 * j + q) = σ 28 j q := (hN.2.2.2.2.2.1 j hjT).1
  have e69 : ∀ q, q < 12 → b 69 0 ((3 * j + r) * 12 + q) = σ 34 (3 * j + r) q := hN.2.1.2.2 (3 * j + r) hn
  have e46 : ∀ q, q < 12 → b 46 0 ((3 * j + r) * 12 + q) = σ 16 (3 * j + r) q := fun q hq => ((hN.1.2.2.1 (3 * j + r) hn).2 q hq).2.2.1
  have e75 : ∀ q, q < 2 → b 75 0 q = σ 20 0 q := hN.2.2.2.1
  have e64 : b 64 0 j = σ 29 j 4 := (hN.2.1.2.1 j hj5).2.2.2.2.1
  have e10' : σ 29 j 10 = nI r := e10
  have e11' : σ 29 j 11 = nI (k + 1) := e11
  have e65 : b 65 0 j = nI r := (hN.2.1.2.1 j hj5).2.2.2.2.2.1.trans e10
  have e66 : b 66 0 j = nI (k + 1) := (hN.2.1.2.1 j hj5).2.2.2.2.2.2.1.trans e11
  simp only [opM] at K
  refine qa_swo (nx := 283) at_75_40 (by decide +kernel) rfl ?_
  refine qa_s (pc' := 284) at_75_283 rfl rfl rfl ?_
  refine qa_s (pc' := 285) at_75_284 rfl rfl rfl ?_
  refine qa_getR (nx := 288) at_75_285 rfl (by decide) rfl rfl (show _ < 15 by omega) ?_
  refine qa_s (pc' := 290) at_75_288 rfl rfl rfl ?_
  refine qa_ialdV (nx := 291) (k := k) (v := nI 0) at_75_290 rfl rfl rfl (show _ < 15 by omega) rfl (show k < 12 by omega) (show _ from e14) ?_
  refine qa_s (pc' := 293) at_75_291 rfl rfl rfl ?_
  refine qa_s (pc' := 295) at_75_293 rfl rfl rfl ?_
  refine qa_s (pc' := 297) at_75_295 rfl rfl rfl ?_
  refine qa_callV (nx := 300) at_75_297 rfl rfl (Nat.le_of_ble_eq_true rfl) rfl rfl rfl (by decide) rfl (show _ < 5 by omega) ?_
  show qa _ 85 0 [(0, .ref _), (1, .int _), (2, .int _), (3, .int _), (4, .int _)] [] _ _
  refine qa_s (pc' := 1) at_85_0 rfl rfl rfl ?_
  refine qa_swi (nx := 60) at_85_1 (by decide +kernel) (show _ = some (59) by decide +kernel) rfl ?_
  refine qa_s (pc' := 61) at_85_60 rfl rfl rfl ?_
  refine qa_getR (nx := 64) at_85_61 rfl (by decide) rfl rfl (show _ < 5 by omega) ?_
  refine qa_s (pc' := 65) at_85_64 rfl rfl rfl ?_
  refine qa_s (pc' := 66) at_85_65 rfl rfl rfl ?_
  refine qa_iast (nx := 67) (k := x) at_85_66 rfl rfl rfl (show _ < 5 by omega) rfl (show x < 4 by omega) ?_
  refine qa_goto (nx := 169) at_85_67 rfl ?_
  refine qa_ret at_85_169 rfl ?_
  show qa _ 75 300 _ [] _ _
  refine qa_ret at_75_300 rfl ?_
  exact K _ (at_rg hj5 hx4 hN) ⟨_, _, _, Md_of (mix_of (mk_up (by decide) (mk_rf)) (mk_up (by decide) (mk_rf))) hM⟩ (fr_up (by decide) (fr_refl))
theorem pc1_q {x y : Nat} (hP : Pre T j r k z 1 x (nI y) σ b) (hy : y ≤ 3) (K : ∀ σ1, Rn T j (mix σ1 (opM b j ((3 * j + r) * 12 + k) 1 x (nI y))) → (∃ r' k' z', Md (mix σ1 (opM b j ((3 * j + r) * 12 + k) 1 x (nI y))) j 3 r' k' z') → fr σ1 σ → Q none σ1) : qa cst 75 40 [(0, .ref (cl 18 0)), (1, .int (nI j)), (2, .ref (cl 29 j)), (3, .ref (cl 13 (3 * j + r))), (4, .int (nI k)), (5, .int (nI x)), (6, .int (nI y))] [.int (nI 1)] σ Q := by
  obtain ⟨hjT, hN, hM, e14, e15, hx, e16⟩ := hP
  obtain ⟨hM0, hr, e10, e11, e13, hz, hkz, hch⟩ := id hM
  have h5 : T ≤ 5 := hN.1.1.1
  have hj5 : j < 5 := by omega
  have hk12 : k < 12 := by omega
  have hn : 3 * j + r < 15 := by omega
  have hx4 : x < 4 := by omega
  have hS : Snd T (mix σ b) := (hN.1.2.2.2.2.1 (hN.1.1.2.2.2.2.2.2.2.2 hN.1.2.2.2.2.2.1)).2.2
  have e70 : ∀ q, q < 4 → b 70 0 (4 * j + q) = σ 30 j q := (hN.2.1.2.1 j hj5).2.2.2.2.2.2.2.1
  have e71 : ∀ q, q < 8 → b 71 0 (8 * j + q) = σ 28 j q := (hN.2.2.2.2.2.1 j hjT).1
  have e69 : ∀ q, q < 12 → b 69 0 ((3 * j + r) * 12 + q) = σ 34 (3 * j + r) q := hN.2.1.2.2 (3 * j + r) hn
  have e46 : ∀ q, q < 12 → b 46 0 ((3 * j + r) * 12 + q) = σ 16 (3 * j + r) q := fun q hq => ((hN.1.2.2.1 (3 * j + r) hn).2 q hq).2.2.1
  have e75 : ∀ q, q < 2 → b 75 0 q = σ 20 0 q := hN.2.2.2.1
  have e64 : b 64 0 j = σ 29 j 4 := (hN.2.1.2.1 j hj5).2.2.2.2.1
  have e10' : σ 29 j 10 = nI r := e10
  have e11' : σ 29 j 11 = nI (k + 1) := e11
  have e65 : b 65 0 j = nI r := (hN.2.1.2.1 j hj5).2.2.2.2.2.1.trans e10
  have e66 : b 66 0 j = nI (k + 1) := (hN.2.1.2.1 j hj5).2.2.2.2.2.2.1.trans e11
  have ny : nN (nI y) = y := nN_n (by omega)
  simp only [opM, ny, e70 x hx4, e70 y (show y < 4 by omega)] at K
  refine qa_swo (nx := 283) at_75_40 (by decide +kernel) rfl ?_
  refine qa_s (pc' := 284) at_75_283 rfl rfl rfl ?_
  refine qa_s (pc' := 285) at_75_284 rfl rfl rfl ?_
  refine qa_getR (nx := 288) at_75_285 rfl (by decide) rfl rfl (show _ < 15 by omega) ?_
  refine qa_s (pc' := 290) at_75_288 rfl rfl rfl ?_
  refine qa_ialdV (nx := 291) (k := k) (v := nI 1) at_75_290 rfl rfl rfl (show _ < 15 by omega) rfl (show k < 12 by omega) (show _ from e14) ?_
  refine qa_s (pc' := 293) at_75_291 rfl rfl rfl ?_
  refine qa_s (pc' := 295) at_75_293 rfl rfl rfl ?_
  refine qa_s (pc' := 297) at_75_295 rfl rfl rfl ?_
  refine qa_callV (nx := 300) at_75_297 rfl rfl (Nat.le_of_ble_eq_true rfl) rfl rfl rfl (by decide) rfl (show _ < 5 by omega) ?_
  show qa _ 85 0 [(0, .ref _), (1, .int _), (2, .int _), (3, .int _), (4, .int _)] [] _ _
  refine qa_s (pc' := 1) at_85_0 rfl rfl rfl ?_
  refine qa_swi (nx := 70) at_85_1 (by decide +kernel) (show _ = some (69) by decide +kernel) rfl ?_
  refine qa_s (pc' := 71) at_85_70 rfl rfl rfl ?_
  refine qa_getR (nx := 74) at_85_71 rfl (by decide) rfl rfl (show _ < 5 by omega) ?_
  refine qa_s (pc' := 75) at_85_74 rfl rfl rfl ?_
  refine qa_s (pc' := 76) at_85_75 rfl rfl rfl ?_
  refine qa_iald (nx := 77) (k := x) at_85_76 rfl rfl rfl (show _ < 5 by omega) rfl (show x < 4 by omega) ?_
  refine qa_s (pc' := 78) at_85_77 rfl rfl rfl ?_
  refine qa_getR (nx := 81) at_85_78 rfl (by decide) rfl rfl (show _ < 5 by omega) ?_
  refine qa_s (pc' := 82) at_85_81 rfl rfl rfl ?_
  refine qa_iald (nx := 83) (k := y) at_85_82 rfl rfl rfl (show _ < 5 by omega) rfl (show y < 4 by omega) ?_
  refine qa_s (pc' := 84) at_85_83 rfl rfl rfl ?_
  refine qa_iast (nx := 85) (k := x) at_85_84 rfl rfl rfl (show _ < 5 by omega) rfl (show x < 4 by omega) ?_
  refine qa_goto (nx := 169) at_85_85 rfl ?_
  refine qa_ret at_85_169 rfl ?_
  show qa _ 75 300 _ [] _ _
  refine qa_ret at_75_300 rfl ?_
  exact K _ (at_rg hj5 hx4 hN) ⟨_, _, _, Md_of (mix_of (mk_up (by decide) (mk_rf)) (mk_up (by decide) (mk_rf))) hM⟩ (fr_up (by decide) (fr_refl))
theorem pc2_q {x y : Nat} (hP : Pre T j r k z 2 x (nI y) σ b) (hy : y ≤ 3) (K2 : σ 30 j y = 0 → ∀ σ1, σ1 = up σ 29 j 2 (nI 1) → Q none σ1) (K : ¬ σ 30 j y = 0 → ∀ σ1, Rn T j (mix σ1 (opM b j ((3 * j + r) * 12 + k) 2 x (nI y))) → (∃ r' k' z', Md (mix σ1 (opM b j ((3 * j + r) * 12 + k) 2 x (nI y))) j 3 r' k' z') → fr σ1 σ → Q none σ1) : qa cst 75 40 [(0, .ref (cl 18 0)), (1, .int (nI j)), (2, .ref (cl 29 j)), (3, .ref (cl 13 (3 * j + r))), (4, .int (nI k)), (5, .int (nI x)), (6, .int (nI y))] [.int (nI 2)] σ Q := by
  obtain ⟨hjT, hN, hM, e14, e15, hx, e16⟩ := hP
  obtain ⟨hM0, hr, e10, e11, e13, hz, hkz, hch⟩ := id hM
  have h5 : T ≤ 5 := hN.1.1.1
  have hj5 : j < 5 := by omega
  have hk12 : k < 12 := by omega
  have hn : 3 * j + r < 15 := by omega
  have hx4 : x < 4 := by omega
  have hS : Snd T (mix σ b) := (hN.1.2.2.2.2.1 (hN.1.1.2.2.2.2.2.2.2.2 hN.1.2.2.2.2.2.1)).2.2
  have e70 : ∀ q, q < 4 → b 70 0 (4 * j + q) = σ 30 j q := (hN.2.1.2.1 j hj5).2.2.2.2.2.2.2.1
  have e71 : ∀ q, q < 8 → b 71 0 (8 * j + q) = σ 28 j q := (hN.2.2.2.2.2.1 j hjT).1
  have e69 : ∀ q, q < 12 → b 69 0 ((3 * j + r) * 12 + q) = σ 34 (3 * j + r) q := hN.2.1.2.2 (3 * j + r) hn
  have e46 : ∀ q, q < 12 → b 46 0 ((3 * j + r) * 12 + q) = σ 16 (3 * j + r) q := fun q hq => ((hN.1.2.2.1 (3 * j + r) hn).2 q hq).2.2.1
  have e75 : ∀ q, q < 2 → b 75 0 q = σ 20 0 q := hN.2.2.2.1
  have e64 : b 64 0 j = σ 29 j 4 := (hN.2.1.2.1 j hj5).2.2.2.2.1
  have e10' : σ 29 j 10 = nI r := e10
  have e11' : σ 29 j 11 = nI (k + 1) := e11
  have e65 : b 65 0 j = nI r := (hN.2.1.2.1 j hj5).2.2.2.2.2.1.trans e10
  have e66 : b 66 0 j = nI (k + 1) := (hN.2.1.2.1 j hj5).2.2.2.2.2.2.1.trans e11
  have ny : nN (nI y) = y := nN_n (by omega)
  simp only [opM, ny, e70 x hx4, e70 y (show y < 4 by omega)] at K
  refine qa_swo (nx := 283) at_75_40 (by decide +kernel) rfl ?_
  refine qa_s (pc' := 284) at_75_283 rfl rfl rfl ?_
  refine qa_s (pc' := 285) at_75_284 rfl rfl rfl ?_
  refine qa_getR (nx := 288) at_75_285 rfl (by decide) rfl rfl (show _ < 15 by omega) ?_
  refine qa_s (pc' := 290) at_75_288 rfl rfl rfl ?_
  refine qa_ialdV (nx := 291) (k := k) (v := nI 2) at_75_290 rfl rfl rfl (show _ < 15 by omega) rfl (show k < 12 by omega) (show _ from e14) ?_
  refine qa_s (pc' := 293) at_75_291 rfl rfl rfl ?_
  refine qa_s (pc' := 295) at_75_293 rfl rfl rfl ?_
  refine qa_s (pc' := 297) at_75_295 rfl rfl rfl ?_
  refine qa_callV (nx := 300) at_75_297 rfl rfl (Nat.le_of_ble_eq_true rfl) rfl rfl rfl (by decide) rfl (show _ < 5 by omega) ?_
  show qa _ 85 0 [(0, .ref _), (1, .int _), (2, .int _), (3, .int _), (4, .int _)] [] _ _
  refine qa_s (pc' := 1) at_85_0 rfl rfl rfl ?_
  refine qa_swi (nx := 88) at_85_1 (by decide +kernel) (show _ = some (87) by decide +kernel) rfl ?_
  refine qa_s (pc' := 89) at_85_88 rfl rfl rfl ?_
  refine qa_s (pc' := 90) at_85_89 rfl rfl rfl ?_
  refine qa_s (pc' := 91) at_85_90 rfl rfl rfl ?_
  refine qa_callV (nx := 94) at_85_91 rfl rfl (Nat.le_of_ble_eq_true rfl) rfl rfl rfl (by decide) rfl (show _ < 5 by omega) ?_
  show qa _ 86 0 [(0, .ref _), (1, .int _), (2, .int _)] [] _ _
  refine qa_s (pc' := 1) at_86_0 rfl rfl rfl ?_
  refine qa_getR (nx := 4) at_86_1 rfl (by decide) rfl rfl (show _ < 5 by omega) ?_
  refine qa_s (pc' := 5) at_86_4 rfl rfl rfl ?_
  refine qa_iald (nx := 6) (k := y) at_86_5 rfl rfl rfl (show _ < 5 by omega) rfl (show y < 4 by omega) ?_
  refine qa_if_ne (tg := 17) (nx := 9) at_86_6 rfl rfl (fun h86_6 => ?_) (fun h86_6 => ?_)
  · refine qa_s (pc' := 18) at_86_17 rfl rfl rfl ?_
    refine qa_getR (nx := 21) at_86_18 rfl (by decide) rfl rfl (show _ < 5 by omega) ?_
    refine qa_s (pc' := 22) at_86_21 rfl rfl rfl ?_
    refine qa_s (pc' := 23) at_86_22 rfl rfl rfl ?_
    refine qa_iald (nx := 24) (k := x) at_86_23 rfl rfl rfl (show _ < 5 by omega) rfl (show x < 4 by omega) ?_
    refine qa_s (pc' := 25) at_86_24 rfl rfl rfl ?_
    refine qa_getR (nx := 28) at_86_25 rfl (by decide) rfl rfl (show _ < 5 by omega) ?_
    refine qa_s (pc' := 29) at_86_28 rfl rfl rfl ?_
    refine qa_iald (nx := 30) (k := y) at_86_29 rfl rfl rfl (show _ < 5 by omega) rfl (show y < 4 by omega) ?_
    refine qa_idiv (nx := 31) at_86_30 h86_6 rfl ?_
    refine qa_iast (nx := 32) (k := x) at_86_31 rfl rfl rfl (show _ < 5 by omega) rfl (show x < 4 by omega) ?_
    refine qa_ret at_86_32 rfl ?_
    show qa _ 85 94 _ [] _ _
    refine qa_goto (nx := 169) at_85_94 rfl ?_
    refine qa_ret at_85_169 rfl ?_
    show qa _ 75 300 _ [] _ _
    refine qa_ret at_75_300 rfl ?_
    first | exact K2 h86_6 _ rfl | exact K h86_6 _ (at_rg hj5 hx4 hN) ⟨_, _, _, Md_of (mix_of (mk_up (by decide) (mk_rf)) (mk_up (by decide) (mk_rf))) hM⟩ (fr_up (by decide) (fr_refl))
  · refine qa_s (pc' := 10) at_86_9 rfl rfl rfl ?_
    refine qa_ic (nx := 11) (v := nI 1) at_86_10 (by decide) rfl ?_
    refine qa_put (nx := 14) at_86_11 rfl (by decide) rfl (by decide) rfl (show _ < 5 by omega) ?_
    refine qa_goto (nx := 32) at_86_14 rfl ?_
    refine qa_ret at_86_32 rfl ?_
    show qa _ 85 94 _ [] _ _
    refine qa_goto (nx := 169) at_85_94 rfl ?_
    refine qa_ret at_85_169 rfl ?_
    show qa _ 75 300 _ [] _ _
    refine qa_ret at_75_300 rfl ?_
    first | exact K2 h86_6 _ rfl | exact K h86_6 _ (at_rg hj5 hx4 hN) ⟨_, _, _, Md_of (mix_of (mk_up (by decide) (mk_rf)) (mk_up (by decide) (mk_rf))) hM⟩ (fr_up (by decide) (fr_refl))
theorem pc3_q {x y : Nat} (hP : Pre T j r k z 3 x (nI y) σ b) (hy : y ≤ 7) (K : ∀ σ1, Rn T j (mix σ1 (opM b j ((3 * j + r) * 12 + k) 3 x (nI y))) → (∃ r' k' z', Md (mix σ1 (opM b j ((3 * j + r) * 12 + k) 3 x (nI y))) j 3 r' k' z') → fr σ1 σ → Q none σ1) : qa cst 75 40 [(0, .ref (cl 18 0)), (1, .int (nI j)), (2, .ref (cl 29 j)), (3, .ref (cl 13 (3 * j + r))), (4, .int (nI k)), (5, .int (nI x)), (6, .int (nI y))] [.int (nI 3)] σ Q := by
  obtain ⟨hjT, hN, hM, e14, e15, hx, e16⟩ := hP
  obtain ⟨hM0, hr, e10, e11, e13, hz, hkz, hch⟩ := id hM
  have h5 : T ≤ 5 := hN.1.1.1
  have hj5 : j < 5 := by omega
  have hk12 : k < 12 := by omega
  have hn : 3 * j + r < 15 := by omega
  have hx4 : x < 4 := by omega
  have hS : Snd T (mix σ b) := (hN.1.2.2.2.2.1 (hN.1.1.2.2.2.2.2.2.2.2 hN.1.2.2.2.2.2.1)).2.2
  have e70 : ∀ q, q < 4 → b 70 0 (4 * j + q) = σ 30 j q := (hN.2.1.2.1 j hj5).2.2.2.2.2.2.2.1
  have e71 : ∀ q, q < 8 → b 71 0 (8 * j + q) = σ 28 j q := (hN.2.2.2.2.2.1 j hjT).1
  have e69 : ∀ q, q < 12 → b 69 0 ((3 * j + r) * 12 + q) = σ 34 (3 * j + r) q := hN.2.1.2.2 (3 * j + r) hn
  have e46 : ∀ q, q < 12 → b 46 0 ((3 * j + r) * 12 + q) = σ 16 (3 * j + r) q := fun q hq => ((hN.1.2.2.1 (3 * j + r) hn).2 q hq).2.2.1
  have e75 : ∀ q, q < 2 → b 75 0 q = σ 20 0 q := hN.2.2.2.1
  have e64 : b 64 0 j = σ 29 j 4 := (hN.2.1.2.1 j hj5).2.2.2.2.1
  have e10' : σ 29 j 10 = nI r := e10
  have e11' : σ 29 j 11 = nI (k + 1) := e11
  have e65 : b 65 0 j = nI r := (hN.2.1.2.1 j hj5).2.2.2.2.2.1.trans e10
  have e66 : b 66 0 j = nI (k + 1) := (hN.2.1.2.1 j hj5).2.2.2.2.2.2.1.trans e11
  have ny : nN (nI y) = y := nN_n (by omega)
  simp only [opM, ny, e71 y (show y < 8 by omega)] at K
  refine qa_swi (nx := 104) at_75_40 (by decide +kernel) (show _ = some (64) by decide +kernel) rfl ?_
  refine qa_s (pc' := 105) at_75_104 rfl rfl rfl ?_
  refine qa_getR (nx := 108) at_75_105 rfl (by decide) rfl rfl (show _ < 5 by omega) ?_
  refine qa_s (pc' := 110) at_75_108 rfl rfl rfl ?_
  refine qa_s (pc' := 111) at_75_110 rfl rfl rfl ?_
  refine qa_getR (nx := 114) at_75_111 rfl (by decide) rfl rfl (by decide) ?_
  refine qa_s (pc' := 115) at_75_114 rfl rfl rfl ?_
  refine qa_aald (nx := 116) (k := j) at_75_115 (by decide) rfl rfl (by decide) rfl (show j < 5 by omega) ?_
  refine qa_getR (nx := 119) at_75_116 rfl (by decide) rfl rfl (show _ < 5 by omega) ?_
  refine qa_s (pc' := 121) at_75_119 rfl rfl rfl ?_
  refine qa_iald (nx := 122) (k := y) at_75_121 rfl rfl rfl (show _ < 5 by omega) rfl (show y < 8 by omega) ?_
  refine qa_iast (nx := 123) (k := x) at_75_122 rfl rfl rfl (show _ < 5 by omega) rfl (show x < 4 by omega) ?_
  refine qa_goto (nx := 300) at_75_123 rfl ?_
  refine qa_ret at_75_300 rfl ?_
  exact K _ (at_rg hj5 hx4 hN) ⟨_, _, _, Md_of (mix_of (mk_up (by decide) (mk_rf)) (mk_up (by decide) (mk_rf))) hM⟩ (fr_up (by decide) (fr_refl))
theorem pc4_q {x y : Nat} (hP : Pre T j r k z 4 x (nI y) σ b) (hy : y ≤ 7) (K : ∀ σ1, Rn T j (mix σ1 (opM b j ((3 * j + r) * 12 + k) 4 x (nI y))) → (∃ r' k' z', Md (mix σ1 (opM b j ((3 * j + r) * 12 + k) 4 x (nI y))) j 3 r' k' z') → fr σ1 σ → Q none σ1) : qa cst 75 40 [(0, .ref (cl 18 0)), (1, .int (nI j)), (2, .ref (cl 29 j)), (3, .ref (cl 13 (3 * j + r))), (4, .int (nI k)), (5, .int (nI x)), (6, .int (nI y))] [.int (nI 4)] σ Q := by
  obtain ⟨hjT, hN, hM, e14, e15, hx, e16⟩ := hP
  obtain ⟨hM0, hr, e10, e11, e13, hz, hkz, hch⟩ := id hM
  have h5 : T ≤ 5 := hN.1.1.1
  have hj5 : j < 5 := by omega
  have hk12 : k < 12 := by omega
  have hn : 3 * j + r < 15 := by omega
  have hx4 : x < 4 := by omega
  have hS : Snd T (mix σ b) := (hN.1.2.2.2.2.1 (hN.1.1.2.2.2.2.2.2.2.2 hN.1.2.2.2.2.2.1)).2.2
  have e70 : ∀ q, q < 4 → b 70 0 (4 * j + q) = σ 30 j q := (hN.2.1.2.1 j hj5).2.2.2.2.2.2.2.1
  have e71 : ∀ q, q < 8 → b 71 0 (8 * j + q) = σ 28 j q := (hN.2.2.2.2.2.1 j hjT).1
  have e69 : ∀ q, q < 12 → b 69 0 ((3 * j + r) * 12 + q) = σ 34 (3 * j + r) q := hN.2.1.2.2 (3 * j + r) hn
  have e46 : ∀ q, q < 12 → b 46 0 ((3 * j + r) * 12 + q) = σ 16 (3 * j + r) q := fun q hq => ((hN.1.2.2.1 (3 * j + r) hn).2 q hq).2.2.1
  have e75 : ∀ q, q < 2 → b 75 0 q = σ 20 0 q := hN.2.2.2.1
  have e64 : b 64 0 j = σ 29 j 4 := (hN.2.1.2.1 j hj5).2.2.2.2.1
  have e10' : σ 29 j 10 = nI r := e10
  have e11' : σ 29 j 11 = nI (k + 1) := e11
  have e65 : b 65 0 j = nI r := (hN.2.1.2.1 j hj5).2.2.2.2.2.1.trans e10
  have e66 : b 66 0 j = nI (k + 1) := (hN.2.1.2.1 j hj5).2.2.2.2.2.2.1.trans e11
  have ny : nN (nI y) = y := nN_n (by omega)
  simp only [opM, ny, e70 x hx4] at K
  refine qa_swi (nx := 126) at_75_40 (by decide +kernel) (show _ = some (86) by decide +kernel) rfl ?_
  refine qa_s (pc' := 127) at_75_126 rfl rfl rfl ?_
  refine qa_getR (nx := 130) at_75_127 rfl (by decide) rfl rfl (by decide) ?_
  refine qa_s (pc' := 131) at_75_130 rfl rfl rfl ?_
  refine qa_aald (nx := 132) (k := j) at_75_131 (by decide) rfl rfl (by decide) rfl (show j < 5 by omega) ?_
  refine qa_getR (nx := 135) at_75_132 rfl (by decide) rfl rfl (show _ < 5 by omega) ?_
  refine qa_s (pc' := 137) at_75_135 rfl rfl rfl ?_
  refine qa_s (pc' := 138) at_75_137 rfl rfl rfl ?_
  refine qa_getR (nx := 141) at_75_138 rfl (by decide) rfl rfl (show _ < 5 by omega) ?_
  refine qa_s (pc' := 143) at_75_141 rfl rfl rfl ?_
  refine qa_iald (nx := 144) (k := x) at_75_143 rfl rfl rfl (show _ < 5 by omega) rfl (show x < 4 by omega) ?_
  refine qa_iast (nx := 145) (k := y) at_75_144 rfl rfl rfl (show _ < 5 by omega) rfl (show y < 8 by omega) ?_
  refine qa_goto (nx := 300) at_75_145 rfl ?_
  refine qa_ret at_75_300 rfl ?_
  exact K _ (at_wd hj5 (by omega) hN) ⟨_, _, _, Md_of (mix_of (mk_up (by decide) (mk_rf)) (mk_up (by decide) (mk_rf))) hM⟩ (fr_up (by decide) (fr_refl))
theorem Md_at {k' kk v : Nat} {b' : sg} (hb : b' 61 0 j = b 61 0 j) (hk : kk ≤ z) (h : Md (mix σ b) j 3 r k' z) : Md (mix (up σ 29 j 11 (nI kk)) b') j 3 r kk z := by
  obtain ⟨⟨m0, m2, m12, mh, m1, m61, mu⟩, hr, e10, e11, e13, hz, hkz, hch⟩ := h
  refine ⟨⟨?_, ?_, ?_, hldOk_of (σ := mix σ b) rfl ?_ ?_ mh, ?_, ?_, ?_⟩, hr, ?_, ?_, e13, hz, hk, Eq.mpr (chainOk_congr (σ := mix σ b) (by rfl) (by rfl) (by rfl) j 3 r) hch⟩
  · simp [mix, up]; exact m0
  · simp [mix, up]; exact m2
  · simp [mix, up]; exact m12
  · simp [mix, up]
  · simp [mix, up]
  · simp [mix, up]; exact m1
  · simp [mix, up]; exact hb.trans m61
  · simp [mix, up]; exact mu
  · simp [mix, up]; exact e10
  · simp [mix, up]
theorem pc5_q {x y : Nat} (hP : Pre T j r k z 5 x (nI y) σ b) (hy : y ≤ 11) (K : ∀ σ1, Rn T j (mix σ1 (opM b j ((3 * j + r) * 12 + k) 5 x (nI y))) → (∃ r' k' z', Md (mix σ1 (opM b j ((3 * j + r) * 12 + k) 5 x (nI y))) j 3 r' k' z') → fr σ1 σ → Q none σ1) : qa cst 75 40 [(0, .ref (cl 18 0)), (1, .int (nI j)), (2, .ref (cl 29 j)), (3, .ref (cl 13 (3 * j + r))), (4, .int (nI k)), (5, .int (nI x)), (6, .int (nI y))] [.int (nI 5)] σ Q := by
  obtain ⟨hjT, hN, hM, e14, e15, hx, e16⟩ := hP
  obtain ⟨hM0, hr, e10, e11, e13, hz, hkz, hch⟩ := id hM
  have h5 : T ≤ 5 := hN.1.1.1
  have hj5 : j < 5 := by omega
  have hk12 : k < 12 := by omega
  have hn : 3 * j + r < 15 := by omega
  have hx4 : x < 4 := by omega
  have hS : Snd T (mix σ b) := (hN.1.2.2.2.2.1 (hN.1.1.2.2.2.2.2.2.2.2 hN.1.2.2.2.2.2.1)).2.2
  have e70 : ∀ q, q < 4 → b 70 0 (4 * j + q) = σ 30 j q := (hN.2.1.2.1 j hj5).2.2.2.2.2.2.2.1
  have e71 : ∀ q, q < 8 → b 71 0 (8 * j + q) = σ 28 j q := (hN.2.2.2.2.2.1 j hjT).1
  have e69 : ∀ q, q < 12 → b 69 0 ((3 * j + r) * 12 + q) = σ 34 (3 * j + r) q := hN.2.1.2.2 (3 * j + r) hn
  have e46 : ∀ q, q < 12 → b 46 0 ((3 * j + r) * 12 + q) = σ 16 (3 * j + r) q := fun q hq => ((hN.1.2.2.1 (3 * j + r) hn).2 q hq).2.2.1
  have e75 : ∀ q, q < 2 → b 75 0 q = σ 20 0 q := hN.2.2.2.1
  have e64 : b 64 0 j = σ 29 j 4 := (hN.2.1.2.1 j hj5).2.2.2.2.1
  have e10' : σ 29 j 10 = nI r := e10
  have e11' : σ 29 j 11 = nI (k + 1) := e11
  have e65 : b 65 0 j = nI r := (hN.2.1.2.1 j hj5).2.2.2.2.2.1.trans e10
  have e66 : b 66 0 j = nI (k + 1) := (hN.2.1.2.1 j hj5).2.2.2.2.2.2.1.trans e11
  have ny : nN (nI y) = y := nN_n (by omega)
  have htg : k + 1 + y ≤ z := by
    obtain ⟨y', f1, f2⟩ := ((hS.2 j hjT).2 r hr z k e13 (by omega) hz).1 (by show σ 14 (3 * j + r) k = 5; rw [e14]; rfl)
    have f1' : nI y = nI y' := e16.symm.trans f1
    have := (nI_eq (by omega) (by omega)).mp f1'
    omega
  simp only [opM, ny, e70 x hx4, e66] at K
  refine qa_swi (nx := 283) at_75_40 (by decide +kernel) (show _ = some (243) by decide +kernel) rfl ?_
  refine qa_s (pc' := 284) at_75_283 rfl rfl rfl ?_
  refine qa_s (pc' := 285) at_75_284 rfl rfl rfl ?_
  refine qa_getR (nx := 288) at_75_285 rfl (by decide) rfl rfl (show _ < 15 by omega) ?_
  refine qa_s (pc' := 290) at_75_288 rfl rfl rfl ?_
  refine qa_ialdV (nx := 291) (k := k) (v := nI 5) at_75_290 rfl rfl rfl (show _ < 15 by omega) rfl (show k < 12 by omega) (show _ from e14) ?_
  refine qa_s (pc' := 293) at_75_291 rfl rfl rfl ?_
  refine qa_s (pc' := 295) at_75_293 rfl rfl rfl ?_
  refine qa_s (pc' := 297) at_75_295 rfl rfl rfl ?_
  refine qa_callV (nx := 300) at_75_297 rfl rfl (Nat.le_of_ble_eq_true rfl) rfl rfl rfl (by decide) rfl (show _ < 5 by omega) ?_
  show qa _ 85 0 [(0, .ref _), (1, .int _), (2, .int _), (3, .int _), (4, .int _)] [] _ _
  refine qa_s (pc' := 1) at_85_0 rfl rfl rfl ?_
  refine qa_swi (nx := 97) at_85_1 (by decide +kernel) (show _ = some (96) by decide +kernel) rfl ?_
  refine qa_s (pc' := 98) at_85_97 rfl rfl rfl ?_
  refine qa_s (pc' := 99) at_85_98 rfl rfl rfl ?_
  refine qa_getV (nx := 102) (v := nI (k + 1)) at_85_99 rfl (by decide) rfl rfl (show _ < 5 by omega) (show _ from e11') ?_
  refine qa_s (pc' := 103) at_85_102 rfl rfl rfl ?_
  refine qa_getR (nx := 106) at_85_103 rfl (by decide) rfl rfl (show _ < 5 by omega) ?_
  refine qa_s (pc' := 107) at_85_106 rfl rfl rfl ?_
  refine qa_iald (nx := 108) (k := x) at_85_107 rfl rfl rfl (show _ < 5 by omega) rfl (show x < 4 by omega) ?_
  refine qa_if_ne (tg := 115) (nx := 111) at_85_108 rfl rfl (fun h85_108 => ?_) (fun h85_108 => ?_)
  · rw [if_neg h85_108] at K
    refine qa_ic (nx := 116) (v := nI 0) at_85_115 (by decide) rfl ?_
    refine qa_addN (nx := 117) at_85_116 rfl ?_
    refine qa_put (nx := 120) at_85_117 rfl (by decide) rfl rfl rfl (show _ < 5 by omega) ?_
    refine qa_goto (nx := 169) at_85_120 rfl ?_
    refine qa_ret at_85_169 rfl ?_
    show qa _ 75 300 _ [] _ _
    refine qa_ret at_75_300 rfl ?_
    first
      | (rw [nI_add] at K; exact K _ (at_f11 hN) ⟨_, _, _, Md_at (v := 0) rfl htg hM⟩ (fr_up (by decide) fr_refl))
      | (have e0 := up_id (σ := σ) (a := 29) (i := j) (j := 11); rw [e11'] at e0; rw [show up σ 29 j 11 (nI (k + 1 + 0)) = σ from e0]; exact K σ hN ⟨_, _, _, hM⟩ fr_refl)
  · rw [if_pos h85_108] at K
    refine qa_s (pc' := 112) at_85_111 rfl rfl rfl ?_
    refine qa_goto (nx := 116) at_85_112 rfl ?_
    refine qa_addN (nx := 117) at_85_116 rfl ?_
    refine qa_put (nx := 120) at_85_117 rfl (by decide) rfl rfl rfl (show _ < 5 by omega) ?_
    refine qa_goto (nx := 169) at_85_120 rfl ?_
    refine qa_ret at_85_169 rfl ?_
    show qa _ 75 300 _ [] _ _
    refine qa_ret at_75_300 rfl ?_
    first
      | (rw [nI_add] at K; exact K _ (at_f11 hN) ⟨_, _, _, Md_at (v := 0) rfl htg hM⟩ (fr_up (by decide) fr_refl))
      | (have e0 := up_id (σ := σ) (a := 29) (i := j) (j := 11); rw [e11'] at e0; rw [show up σ 29 j 11 (nI (k + 1 + 0)) = σ from e0]; exact K σ hN ⟨_, _, _, hM⟩ fr_refl)
theorem pc6_q {x y : Nat} (hP : Pre T j r k z 6 x (nI y) σ b) (hy : y ≤ 8) (K : ∀ σ1, Rn T j (mix σ1 (opM b j ((3 * j + r) * 12 + k) 6 x (nI y))) → (∃ r' k' z', Md (mix σ1 (opM b j ((3 * j + r) * 12 + k) 6 x (nI y))) j 3 r' k' z') → fr σ1 σ → Q none σ1) : qa cst 75 40 [(0, .ref (cl 18 0)), (1, .int (nI j)), (2, .ref (cl 29 j)), (3, .ref (cl 13 (3 * j + r))), (4, .int (nI k)), (5, .int (nI x)), (6, .int (nI y))] [.int (nI 6)] σ Q := by
  obtain ⟨hjT, hN, hM, e14, e15, hx, e16⟩ := hP
  obtain ⟨hM0, hr, e10, e11, e13, hz, hkz, hch⟩ := id hM
  have h5 : T ≤ 5 := hN.1.1.1
  have hj5 : j < 5 := by omega
  have hk12 : k < 12 := by omega
  have hn : 3 * j + r < 15 := by omega
  have hx4 : x < 4 := by omega
  have hS : Snd T (mix σ b) := (hN.1.2.2.2.2.1 (hN.1.1.2.2.2.2.2.2.2.2 hN.1.2.2.2.2.2.1)).2.2
  have e70 : ∀ q, q < 4 → b 70 0 (4 * j + q) = σ 30 j q := (hN.2.1.2.1 j hj5).2.2.2.2.2.2.2.1
  have e71 : ∀ q, q < 8 → b 71 0 (8 * j + q) = σ 28 j q := (hN.2.2.2.2.2.1 j hjT).1
  have e69 : ∀ q, q < 12 → b 69 0 ((3 * j + r) * 12 + q) = σ 34 (3 * j + r) q := hN.2.1.2.2 (3 * j + r) hn
  have e46 : ∀ q, q < 12 → b 46 0 ((3 * j + r) * 12 + q) = σ 16 (3 * j + r) q := fun q hq => ((hN.1.2.2.1 (3 * j + r) hn).2 q hq).2.2.1
  have e75 : ∀ q, q < 2 → b 75 0 q = σ 20 0 q := hN.2.2.2.1
  have e64 : b 64 0 j = σ 29 j 4 := (hN.2.1.2.1 j hj5).2.2.2.2.1
  have e10' : σ 29 j 10 = nI r := e10
  have e11' : σ 29 j 11 = nI (k + 1) := e11
  have e65 : b 65 0 j = nI r := (hN.2.1.2.1 j hj5).2.2.2.2.2.1.trans e10
  have e66 : b 66 0 j = nI (k + 1) := (hN.2.1.2.1 j hj5).2.2.2.2.2.2.1.trans e11
  have ny : nN (nI y) = y := nN_n (by omega)
  simp only [opM, ny] at K
  refine qa_swi (nx := 283) at_75_40 (by decide +kernel) (show _ = some (243) by decide +kernel) rfl ?_
  refine qa_s (pc' := 284) at_75_283 rfl rfl rfl ?_
  refine qa_s (pc' := 285) at_75_284 rfl rfl rfl ?_
  refine qa_getR (nx := 288) at_75_285 rfl (by decide) rfl rfl (show _ < 15 by omega) ?_
  refine qa_s (pc' := 290) at_75_288 rfl rfl rfl ?_
  refine qa_ialdV (nx := 291) (k := k) (v := nI 6) at_75_290 rfl rfl rfl (show _ < 15 by omega) rfl (show k < 12 by omega) (show _ from e14) ?_
  refine qa_s (pc' := 293) at_75_291 rfl rfl rfl ?_
  refine qa_s (pc' := 295) at_75_293 rfl rfl rfl ?_
  refine qa_s (pc' := 297) at_75_295 rfl rfl rfl ?_
  refine qa_callV (nx := 300) at_75_297 rfl rfl (Nat.le_of_ble_eq_true rfl) rfl rfl rfl (by decide) rfl (show _ < 5 by omega) ?_
  show qa _ 85 0 [(0, .ref _), (1, .int _), (2, .int _), (3, .int _), (4, .int _)] [] _ _
  refine qa_s (pc' := 1) at_85_0 rfl rfl rfl ?_
  refine qa_swi (nx := 123) at_85_1 (by decide +kernel) (show _ = some (122) by decide +kernel) rfl ?_
  refine qa_s (pc' := 124) at_85_123 rfl rfl rfl ?_
  refine qa_getR (nx := 127) at_85_124 rfl (by decide) rfl rfl (show _ < 5 by omega) ?_
  refine qa_s (pc' := 128) at_85_127 rfl rfl rfl ?_
  refine qa_getV (nx := 131) (v := nI r) at_85_128 rfl (by decide) rfl rfl (show _ < 5 by omega) (show _ from e10') ?_
  refine qa_aald (nx := 132) (k := r) at_85_131 (by decide) rfl rfl (show _ < 5 by omega) rfl (show r < 3 by omega) ?_
  refine qa_s (pc' := 134) at_85_132 rfl rfl rfl ?_
  refine qa_s (pc' := 135) at_85_134 rfl rfl rfl ?_
  refine qa_iast (nx := 136) (k := k) at_85_135 rfl rfl rfl (show _ < 15 by omega) rfl (show k < 12 by omega) ?_
  refine qa_goto (nx := 169) at_85_136 rfl ?_
  refine qa_ret at_85_169 rfl ?_
  show qa _ 75 300 _ [] _ _
  refine qa_ret at_75_300 rfl ?_
  exact K _ (at_rd hn hk12 hN) ⟨_, _, _, Md_of (mix_of (mk_up (by decide) (mk_rf)) (mk_up (by decide) (mk_rf))) hM⟩ (fr_up (by decide) (fr_refl))
theorem pc7_q {x : Nat} {y : Int32} (hP : Pre T j r k z 7 x y σ b) (K : ∀ σ1, Rn T j (mix σ1 (opM b j ((3 * j + r) * 12 + k) 7 x y)) → (∃ r' k' z', Md (mix σ1 (opM b j ((3 * j + r) * 12 + k) 7 x y)) j 3 r' k' z') → fr σ1 σ → Q none σ1) : qa cst 75 40 [(0, .ref (cl 18 0)), (1, .int (nI j)), (2, .ref (cl 29 j)), (3, .ref (cl 13 (3 * j + r))), (4, .int (nI k)), (5, .int (nI x)), (6, .int y)] [.int (nI 7)] σ Q := by
  obtain ⟨hjT, hN, hM, e14, e15, hx, e16⟩ := hP
  obtain ⟨hM0, hr, e10, e11, e13, hz, hkz, hch⟩ := id hM
  have h5 : T ≤ 5 := hN.1.1.1
  have hj5 : j < 5 := by omega
  have hk12 : k < 12 := by omega
  have hn : 3 * j + r < 15 := by omega
  have hx4 : x < 4 := by omega
  have hS : Snd T (mix σ b) := (hN.1.2.2.2.2.1 (hN.1.1.2.2.2.2.2.2.2.2 hN.1.2.2.2.2.2.1)).2.2
  have e70 : ∀ q, q < 4 → b 70 0 (4 * j + q) = σ 30 j q := (hN.2.1.2.1 j hj5).2.2.2.2.2.2.2.1
  have e71 : ∀ q, q < 8 → b 71 0 (8 * j + q) = σ 28 j q := (hN.2.2.2.2.2.1 j hjT).1
  have e69 : ∀ q, q < 12 → b 69 0 ((3 * j + r) * 12 + q) = σ 34 (3 * j + r) q := hN.2.1.2.2 (3 * j + r) hn
  have e46 : ∀ q, q < 12 → b 46 0 ((3 * j + r) * 12 + q) = σ 16 (3 * j + r) q := fun q hq => ((hN.1.2.2.1 (3 * j + r) hn).2 q hq).2.2.1
  have e75 : ∀ q, q < 2 → b 75 0 q = σ 20 0 q := hN.2.2.2.1
  have e64 : b 64 0 j = σ 29 j 4 := (hN.2.1.2.1 j hj5).2.2.2.2.1
  have e10' : σ 29 j 10 = nI r := e10
  have e11' : σ 29 j 11 = nI (k + 1) := e11
  have e65 : b 65 0 j = nI r := (hN.2.1.2.1 j hj5).2.2.2.2.2.1.trans e10
  have e66 : b 66 0 j = nI (k + 1) := (hN.2.1.2.1 j hj5).2.2.2.2.2.2.1.trans e11
  obtain ⟨q, hq, f17, f47, -⟩ := ((hS.2 j hjT).2 r hr z k e13 (by omega) hz).2.2.1 (Or.inl (by show σ 14 (3 * j + r) k = 7; rw [e14]; rfl))
  have f17' : σ 17 (3 * j + r) k = nI q := f17
  have f47' : b 47 0 ((3 * j + r) * 12 + k) = nI ((3 * j + r) * 12 + q) := f47
  have nq : nN (nI ((3 * j + r) * 12 + q)) = (3 * j + r) * 12 + q := nN_n (by omega)
  simp only [opM, f47', nq, e69 q (show q < 12 by omega), e66] at K
  refine qa_swi (nx := 283) at_75_40 (by decide +kernel) (show _ = some (243) by decide +kernel) rfl ?_
  refine qa_s (pc' := 284) at_75_283 rfl rfl rfl ?_
  refine qa_s (pc' := 285) at_75_284 rfl rfl rfl ?_
  refine qa_getR (nx := 288) at_75_285 rfl (by decide) rfl rfl (show _ < 15 by omega) ?_
  refine qa_s (pc' := 290) at_75_288 rfl rfl rfl ?_
  refine qa_ialdV (nx := 291) (k := k) (v := nI 7) at_75_290 rfl rfl rfl (show _ < 15 by omega) rfl (show k < 12 by omega) (show _ from e14) ?_
  refine qa_s (pc' := 293) at_75_291 rfl rfl rfl ?_
  refine qa_s (pc' := 295) at_75_293 rfl rfl rfl ?_
  refine qa_s (pc' := 297) at_75_295 rfl rfl rfl ?_
  refine qa_callV (nx := 300) at_75_297 rfl rfl (Nat.le_of_ble_eq_true rfl) rfl rfl rfl (by decide) rfl (show _ < 5 by omega) ?_
  show qa _ 85 0 [(0, .ref _), (1, .int _), (2, .int _), (3, .int _), (4, .int _)] [] _ _
  refine qa_s (pc' := 1) at_85_0 rfl rfl rfl ?_
  refine qa_swi (nx := 139) at_85_1 (by decide +kernel) (show _ = some (138) by decide +kernel) rfl ?_
  refine qa_s (pc' := 140) at_85_139 rfl rfl rfl ?_
  refine qa_s (pc' := 141) at_85_140 rfl rfl rfl ?_
  refine qa_getR (nx := 144) at_85_141 rfl (by decide) rfl rfl (show _ < 5 by omega) ?_
  refine qa_s (pc' := 145) at_85_144 rfl rfl rfl ?_
  refine qa_getV (nx := 148) (v := nI r) at_85_145 rfl (by decide) rfl rfl (show _ < 5 by omega) (show _ from e10') ?_
  refine qa_aald (nx := 149) (k := r) at_85_148 (by decide) rfl rfl (show _ < 5 by omega) rfl (show r < 3 by omega) ?_
  refine qa_getR (nx := 152) at_85_149 rfl (by decide) rfl rfl (show _ < 15 by omega) ?_
  refine qa_s (pc' := 154) at_85_152 rfl rfl rfl ?_
  refine qa_ialdV (nx := 155) (k := k) (v := nI q) at_85_154 rfl rfl rfl (show _ < 15 by omega) rfl (show k < 12 by omega) (show _ from f17') ?_
  refine qa_callV (nx := 158) at_85_155 rfl rfl (Nat.le_of_ble_eq_true rfl) rfl rfl rfl (by decide) rfl (show _ < 5 by omega) ?_
  show qa _ 87 0 [(0, .ref _), (1, .int _)] [] _ _
  refine qa_s (pc' := 1) at_87_0 rfl rfl rfl ?_
  refine qa_getR (nx := 4) at_87_1 rfl (by decide) rfl rfl (show _ < 5 by omega) ?_
  refine qa_s (pc' := 5) at_87_4 rfl rfl rfl ?_
  refine qa_getV (nx := 8) (v := nI r) at_87_5 rfl (by decide) rfl rfl (show _ < 5 by omega) (show _ from e10') ?_
  refine qa_aald (nx := 9) (k := r) at_87_8 (by decide) rfl rfl (show _ < 5 by omega) rfl (show r < 3 by omega) ?_
  refine qa_s (pc' := 10) at_87_9 rfl rfl rfl ?_
  refine qa_s (pc' := 11) at_87_10 rfl rfl rfl ?_
  refine qa_iald (nx := 12) (k := q) at_87_11 rfl rfl rfl (show _ < 15 by omega) rfl (show q < 12 by omega) ?_
  refine qa_ic (nx := 13) (v := nI 1) at_87_12 (by decide) rfl ?_
  refine qa_s (pc' := 14) at_87_13 rfl rfl rfl ?_
  refine qa_iast (nx := 15) (k := q) at_87_14 rfl rfl rfl (show _ < 15 by omega) rfl (show q < 12 by omega) ?_
  refine qa_s (pc' := 16) at_87_15 rfl rfl rfl ?_
  refine qa_getR (nx := 19) at_87_16 rfl (by decide) rfl rfl (show _ < 5 by omega) ?_
  refine qa_s (pc' := 20) at_87_19 rfl rfl rfl ?_
  refine qa_getV (nx := 23) (v := nI r) at_87_20 rfl (by decide) rfl rfl (show _ < 5 by omega) (show _ from e10') ?_
  refine qa_aald (nx := 24) (k := r) at_87_23 (by decide) rfl rfl (show _ < 5 by omega) rfl (show r < 3 by omega) ?_
  refine qa_s (pc' := 25) at_87_24 rfl rfl rfl ?_
  refine qa_ialdV (nx := 26) (k := q) (v := σ 34 (3 * j + r) q - nI 1) at_87_25 rfl rfl rfl (show _ < 15 by omega) rfl (show q < 12 by omega) (show _ from by simp [up]) ?_
  refine qa_if_le (tg := 36) (nx := 29) at_87_26 rfl rfl (fun h87_26 => ?_) (fun h87_26 => ?_)
  · have hb : ¬ 0 < σ 34 (3 * j + r) q - nI 1 := by simp only [Int32.le_iff_toInt_le, Int32.lt_iff_toInt_lt] at h87_26 ⊢; omega
    rw [if_neg hb] at K
    refine qa_ret at_87_36 rfl ?_
    show qa _ 85 158 _ [] _ _
    refine qa_goto (nx := 169) at_85_158 rfl ?_
    refine qa_ret at_85_169 rfl ?_
    show qa _ 75 300 _ [] _ _
    refine qa_ret at_75_300 rfl ?_
    first
      | exact K _ (at_f11 (at_rd hn (by omega) hN)) ⟨_, _, _, Md_at (σ := up σ 34 (3 * j + r) q (σ 34 (3 * j + r) q - nI 1)) (v := 0) rfl (by omega) (Md_of (mix_of (mk_up (by decide) mk_rf) mk_rf) hM)⟩ (fr_up (by decide) (fr_up (by decide) fr_refl))
      | (have e0 := up_id (σ := up b 69 0 ((3 * j + r) * 12 + q) (σ 34 (3 * j + r) q - nI 1)) (a := 66) (i := 0) (j := j); rw [show up b 69 0 ((3 * j + r) * 12 + q) (σ 34 (3 * j + r) q - nI 1) 66 0 j = nI (k + 1) from e66] at e0; rw [e0] at K; exact K _ (at_rd hn (by omega) hN) ⟨_, _, _, Md_of (mix_of (mk_up (by decide) (mk_rf)) (mk_up (by decide) (mk_rf))) hM⟩ (fr_up (by decide) (fr_refl)))
  · have hb : 0 < σ 34 (3 * j + r) q - nI 1 := by simp only [Int32.le_iff_toInt_le, Int32.lt_iff_toInt_lt] at h87_26 ⊢; omega
    rw [if_pos hb, nI_add, pk_sub (by omega), show k + 1 + ((3 * j + r) * 12 + q) - ((3 * j + r) * 12 + k) = q + 1 by omega] at K
    refine qa_s (pc' := 30) at_87_29 rfl rfl rfl ?_
    refine qa_s (pc' := 31) at_87_30 rfl rfl rfl ?_
    refine qa_ic (nx := 32) (v := nI 1) at_87_31 (by decide) rfl ?_
    refine qa_addN (nx := 33) at_87_32 rfl ?_
    refine qa_put (nx := 36) at_87_33 rfl (by decide) rfl rfl rfl (show _ < 5 by omega) ?_
    refine qa_ret at_87_36 rfl ?_
    show qa _ 85 158 _ [] _ _
    refine qa_goto (nx := 169) at_85_158 rfl ?_
    refine qa_ret at_85_169 rfl ?_
    show qa _ 75 300 _ [] _ _
    refine qa_ret at_75_300 rfl ?_
    first
      | exact K _ (at_f11 (at_rd hn (by omega) hN)) ⟨_, _, _, Md_at (σ := up σ 34 (3 * j + r) q (σ 34 (3 * j + r) q - nI 1)) (v := 0) rfl (by omega) (Md_of (mix_of (mk_up (by decide) mk_rf) mk_rf) hM)⟩ (fr_up (by decide) (fr_up (by decide) fr_refl))
      | (have e0 := up_id (σ := up b 69 0 ((3 * j + r) * 12 + q) (σ 34 (3 * j + r) q - nI 1)) (a := 66) (i := 0) (j := j); rw [show up b 69 0 ((3 * j + r) * 12 + q) (σ 34 (3 * j + r) q - nI 1) 66 0 j = nI (k + 1) from e66] at e0; rw [e0] at K; exact K _ (at_rd hn (by omega) hN) ⟨_, _, _, Md_of (mix_of (mk_up (by decide) (mk_rf)) (mk_up (by decide) (mk_rf))) hM⟩ (fr_up (by decide) (fr_refl)))
end PQ
