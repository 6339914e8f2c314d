/-! halt, input, signal -/
theorem Rel_halt {σ : sg} {T : Nat} (hR : Rel T σ) : Rel T (up (up σ 18 0 0 (nI 0)) 40 0 2 (nI 0)) := by
  obtain ⟨h5, h04, h40, hf, hf', ho, ho', hm, hof⟩ := hR.1
  refine Rel_flags hR (fun a h1 h2 => by rw [up_k h2, up_k h1]) ⟨h5, ?_, ?_, ?_, ?_, Or.inl ?_, ?_, ?_, ?_⟩ (fun h => absurd (show (up (up σ 18 0 0 (nI 0)) 40 0 2 (nI 0)) 18 0 0 = nI 0 from rfl) (by rw [h]; decide))
  · exact h04
  · exact h40
  · exact hf
  · exact hf'
  · rfl
  · rfl
  · exact hm
  · intro h; exact absurd (show nI 0 = 1 from h) (by decide)
theorem Rel_halt0 {σ : sg} {T : Nat} (hR : Rel T σ) (h0 : σ 18 0 0 = 0) : Rel T (up σ 40 0 2 (nI 0)) := by
  obtain ⟨h5, h04, h40, hf, hf', ho, ho', hm, hof⟩ := hR.1
  exact Rel_flags hR (fun a h1 h2 => by rw [up_k h2]) ⟨h5, h04, h40, hf, hf', ho, h0.symm, hm, hof⟩ (fun h => absurd (h0.symm.trans h) (by decide))
theorem RR_io {σ σ' : sg} {T : Nat} (h : RR T σ) (hk : ∀ a, a ≠ 20 → a ≠ 75 → a ≠ 27 → a ≠ 73 → σ' a = σ a) (hp : (∀ p, p < 2 → σ 75 0 p = σ 20 0 p) → ∀ p, p < 2 → σ' 75 0 p = σ' 20 0 p) (h27 : ∀ i, i < T → σ' 27 i 4 = σ 27 i 4 ∧ σ' 27 i 3 = σ 27 i 3) (hw : ∀ i, i < T → (∃ w : Nat, w ≤ 4 ∧ σ 73 0 i = nI w ∧ σ 27 i 5 = nI w ∧ (¬ σ 11 i 3 = -1 → w = 0)) → ∃ w : Nat, w ≤ 4 ∧ σ' 73 0 i = nI w ∧ σ' 27 i 5 = nI w ∧ (¬ σ 11 i 3 = -1 → w = 0)) : RR T σ' := by
  have k18 := hk 18 (by decide) (by decide) (by decide) (by decide)
  have k40 := hk 40 (by decide) (by decide) (by decide) (by decide)
  have k29 := hk 29 (by decide) (by decide) (by decide) (by decide)
  intro hon
  rw [k18] at hon
  obtain ⟨q6, q22, q23, q24, q25, q26, q27, q28, q29, qp, qm, qt, qh⟩ := h hon
  rw [k18, k40, hk 21 (by decide) (by decide) (by decide) (by decide), hk 35 (by decide) (by decide) (by decide) (by decide), hk 77 (by decide) (by decide) (by decide) (by decide), hk 76 (by decide) (by decide) (by decide) (by decide), hk 36 (by decide) (by decide) (by decide) (by decide), hk 71 (by decide) (by decide) (by decide) (by decide), hk 28 (by decide) (by decide) (by decide) (by decide), hk 72 (by decide) (by decide) (by decide) (by decide), hk 74 (by decide) (by decide) (by decide) (by decide), hk 58 (by decide) (by decide) (by decide) (by decide), k29, hk 11 (by decide) (by decide) (by decide) (by decide)]
  refine ⟨q6, q22, q23, q24, q25, q26, q27, q28, q29, hp qp, qm, fun i hi => ?_, qh⟩
  obtain ⟨g1, g2, g3, g4, g5, g6, g7⟩ := qt i hi
  refine ⟨g1, by rw [(h27 i hi).1]; exact g2, by rw [(h27 i hi).2]; exact g3, hw i hi g4, g5, g6, fun h1 => JobOk_congr ?_ ?_ ?_ ?_ ?_ ?_ ?_ (g7 h1)⟩ <;> exact hk _ (by decide) (by decide) (by decide) (by decide)
theorem Rel_io {σ σ' : sg} {T : Nat} (hR : Rel T σ) (hk : ∀ a, a ≠ 20 → a ≠ 75 → a ≠ 27 → a ≠ 73 → σ' a = σ a) (hRR : RR T σ') : Rel T σ' := by
  obtain ⟨hA, hTt, hI, hP, hF, hJ, -⟩ := hR
  refine ⟨?_, RT_congr ?_ ?_ ?_ ?_ hTt, RI_congr ?_ ?_ ?_ ?_ ?_ ?_ ?_ ?_ hI, RP_congr ?_ hP, RF_congr ?_ ?_ ?_ ?_ ?_ ?_ ?_ ?_ ?_ ?_ ?_ ?_ ?_ ?_ ?_ ?_ hF, RJ_congr ?_ ?_ ?_ ?_ ?_ ?_ ?_ ?_ ?_ ?_ ?_ ?_ ?_ ?_ ?_ ?_ ?_ ?_ ?_ ?_ ?_ ?_ ?_ ?_ hJ, hRR⟩
  · unfold RA at *
    rw [hk 0 (by decide) (by decide) (by decide) (by decide), hk 40 (by decide) (by decide) (by decide) (by decide), hk 4 (by decide) (by decide) (by decide) (by decide), hk 18 (by decide) (by decide) (by decide) (by decide), hk 2 (by decide) (by decide) (by decide) (by decide)]
    exact hA
  all_goals exact hk _ (by decide) (by decide) (by decide) (by decide)
theorem Rel_input {σ : sg} {T s : Nat} {v : Int32} (hR : Rel T σ) (hs : s < 2) : Rel T (up (up σ 20 0 s v) 75 0 s v) := by
  have hk : ∀ a, a ≠ 20 → a ≠ 75 → a ≠ 27 → a ≠ 73 → (up (up σ 20 0 s v) 75 0 s v) a = σ a := fun a h1 h2 _ _ => by rw [up_k h2, up_k h1]
  refine Rel_io hR hk (RR_io hR.2.2.2.2.2.2 hk (fun hq p hp => ?_) (fun i hi => ⟨rfl, rfl⟩) (fun i hi h => h))
  have e1 : (up (up σ 20 0 s v) 75 0 s v) 75 0 p = if p = s then v else σ 75 0 p := by simp [up]
  have e2 : (up (up σ 20 0 s v) 75 0 s v) 20 0 p = if p = s then v else σ 20 0 p := by simp [up]
  rw [e1, e2, hq p hp]
theorem Rel_signal {σ : sg} {T i w : Nat} (hR : Rel T σ) (hi : i < T) (hw : w ≤ 4) (hof : σ 11 i 3 = -1) : Rel T (up (up σ 27 i 5 (nI w)) 73 0 i (nI w)) := by
  have hk : ∀ a, a ≠ 20 → a ≠ 75 → a ≠ 27 → a ≠ 73 → (up (up σ 27 i 5 (nI w)) 73 0 i (nI w)) a = σ a := fun a _ _ h1 h2 => by rw [up_k h2, up_k h1]
  refine Rel_io hR hk (RR_io hR.2.2.2.2.2.2 hk (fun hq p hp => hq p hp) (fun j hj => ⟨?_, ?_⟩) (fun j hj h => ?_))
  · simp [up]
  · simp [up]
  · by_cases e : j = i
    · subst e
      exact ⟨w, hw, by simp [up], by simp [up], fun hn => absurd hof hn⟩
    · obtain ⟨w', g1, g2, g3, g4⟩ := h
      exact ⟨w', g1, by rw [← g2]; simp [up, e], by rw [← g3]; simp [up, e], g4⟩
theorem off_ge {x : Int32} (h : x = -1 ∨ ∃ o : Nat, o ≤ 5000 ∧ x = nI o) : 0 ≤ x ↔ ¬ x = -1 := by
  rcases h with rfl | ⟨o, ho, rfl⟩
  · decide
  · have h1 : (nI o).toInt = o := nI_toInt (by omega)
    constructor
    · intro _ e
      rw [e] at h1
      have : ((-1 : Int32)).toInt = -1 := by decide
      omega
    · intro _
      exact nI_pos' (by omega)
section PQ
variable {cst : List (List Int32)} {σ : sg} {T : Nat}
theorem p_halt (hR : Rel T σ) : pair cst 57 127 [] σ := by
  obtain ⟨hA, hTt, hI, hP, hF, hJ, hRR⟩ := id hR
  obtain ⟨h5, h04, h40, hf, hf', ho, ho', hm, hof⟩ := id hA
  show qa cst 57 0 [(0, .ref (cl 0 0))] [] σ _
  refine qa_s (pc' := 1) at_57_0 rfl rfl rfl ?_
  refine qa_getR (nx := 4) at_57_1 rfl (by decide) rfl rfl (by decide) ?_
  refine qa_getI (nx := 7) at_57_4 rfl (by decide) rfl rfl (by decide) ?_
  refine qa_if_ne (tg := 12) (nx := 10) at_57_7 rfl rfl (fun h57_7 => ?_) (fun h57_7 => ?_)
  · refine qa_s (pc' := 13) at_57_12 rfl rfl rfl ?_
    refine qa_getR (nx := 16) at_57_13 rfl (by decide) rfl rfl (by decide) ?_
    refine qa_ic (nx := 17) (v := nI 0) at_57_16 (by decide) rfl ?_
    refine qa_put (nx := 20) at_57_17 rfl (by decide) rfl (by decide) rfl (by decide) ?_
    refine qa_ic (nx := 21) (v := nI 1) at_57_20 (by decide) rfl ?_
    refine qa_ret at_57_21 rfl ?_
    show qa _ 127 0 [(0, .ref _)] [] _ _
    refine qa_s (pc' := 1) at_127_0 rfl rfl rfl ?_
    refine qa_getI (nx := 4) at_127_1 rfl (by decide) rfl rfl (by decide) ?_
    refine qa_s (pc' := 5) at_127_4 rfl rfl rfl ?_
    refine qa_s (pc' := 6) at_127_5 rfl rfl rfl ?_
    refine qa_ic (nx := 7) (v := nI 0) at_127_6 (by decide) rfl ?_
    refine qa_put (nx := 10) at_127_7 rfl (by decide) rfl (by decide) rfl (by decide) ?_
    refine qa_s (pc' := 11) at_127_10 rfl rfl rfl ?_
    refine qa_ret at_127_11 (mj_retZ (show mj_bool (σ 40 0 2) = true by rw [ho', z1 ho h57_7]; rfl)) ?_
    exact ⟨_, rfl, by show some (Value.int (σ 40 0 2)) = _; rw [ho', z1 ho h57_7]; rfl, T, Rel_halt hR⟩
  · refine qa_ic (nx := 11) (v := nI 0) at_57_10 (by decide) rfl ?_
    refine qa_ret at_57_11 rfl ?_
    show qa _ 127 0 [(0, .ref _)] [] _ _
    refine qa_s (pc' := 1) at_127_0 rfl rfl rfl ?_
    refine qa_getI (nx := 4) at_127_1 rfl (by decide) rfl rfl (by decide) ?_
    refine qa_s (pc' := 5) at_127_4 rfl rfl rfl ?_
    refine qa_s (pc' := 6) at_127_5 rfl rfl rfl ?_
    refine qa_ic (nx := 7) (v := nI 0) at_127_6 (by decide) rfl ?_
    refine qa_put (nx := 10) at_127_7 rfl (by decide) rfl (by decide) rfl (by decide) ?_
    refine qa_s (pc' := 11) at_127_10 rfl rfl rfl ?_
    refine qa_ret at_127_11 (mj_retZ (by rw [ho', h57_7]; rfl)) ?_
    exact ⟨_, rfl, by rw [ho', h57_7]; rfl, T, Rel_halt0 hR h57_7⟩
theorem p_input (hR : Rel T σ) (x : Int32) (y : Int32) : pair cst 61 129 [.int x, .int y] σ := by
  obtain ⟨hA, hTt, hI, hP, hF, hJ, hRR⟩ := id hR
  obtain ⟨h5, h04, h40, hf, hf', ho, ho', hm, hof⟩ := id hA
  show qa cst 61 0 [(0, .ref (cl 0 0)), (1, .int x), (2, .int y)] [] σ _
  refine qa_s (pc' := 1) at_61_0 rfl rfl rfl ?_
  refine qa_getR (nx := 4) at_61_1 rfl (by decide) rfl rfl (by decide) ?_
  refine qa_getI (nx := 7) at_61_4 rfl (by decide) rfl rfl (by decide) ?_
  refine qa_if_eq (tg := 18) (nx := 10) at_61_7 rfl rfl (fun h61_7 => ?_) (fun h61_7 => ?_)
  · refine qa_ic (nx := 19) (v := nI 0) at_61_18 (by decide) rfl ?_
    refine qa_ret at_61_19 rfl ?_
    show qa _ 129 0 [(0, .ref _), (1, .int _), (2, .int _)] [] _ _
    have hbad : ¬ σ 40 0 2 = 0 → ¬ bi (nI 0 ≤ x ∧ x ≤ nI 1) = 0 → False := by
      intro a1 a3
      rw [ho'] at a1
      obtain ⟨s, hs, rfl⟩ := iz_of (by decide) (bi_n a3)
      first | exact a1 h61_7 | exact bi_z h61_15 (ix_in (by decide) (by omega))
    refine qa_s (pc' := 1) at_129_0 rfl rfl rfl ?_
    refine qa_getI (nx := 4) at_129_1 rfl (by decide) rfl rfl (by decide) ?_
    refine qa_if_eq (tg := 16) (nx := 7) at_129_4 rfl rfl (fun h129_4 => ?_) (fun h129_4 => ?_)
    · refine qa_ic (nx := 17) (v := nI 0) at_129_16 (by decide) rfl ?_
      refine qa_ret at_129_17 rfl ?_
      exact ⟨_, rfl, rfl, T, hR⟩
    · refine qa_s (pc' := 8) at_129_7 rfl rfl rfl ?_
      refine qa_ic (nx := 9) (v := nI 0) at_129_8 (by decide) rfl ?_
      refine qa_ic (nx := 10) (v := nI 1) at_129_9 (by decide) rfl ?_
      refine qa_callS (nx := 13) at_129_10 rfl rfl (Nat.le_of_ble_eq_true rfl) rfl rfl (by decide) rfl ?_
      show qa _ 101 0 [(0, .int _), (1, .int _), (2, .int _)] [] _ _
      refine c101_q ?_
      show qa _ 129 13 _ [.int _] _ _
      refine qa_if_ne (tg := 18) (nx := 16) at_129_13 rfl rfl (fun h129_13 => ?_) (fun h129_13 => ?_)
      · exact (hbad h129_4 h129_13).elim
      · refine qa_ic (nx := 17) (v := nI 0) at_129_16 (by decide) rfl ?_
        refine qa_ret at_129_17 rfl ?_
        exact ⟨_, rfl, rfl, T, hR⟩
  · refine qa_s (pc' := 11) at_61_10 rfl rfl rfl ?_
    refine qa_ic (nx := 12) (v := nI 2) at_61_11 (by decide) rfl ?_
    refine qa_callS (nx := 15) at_61_12 rfl rfl (Nat.le_of_ble_eq_true rfl) rfl rfl (by decide) rfl ?_
    show qa _ 15 0 [(0, .int _), (1, .int _)] [] _ _
    refine c15_q ?_
    show qa _ 61 15 _ [.int _] _ _
    refine qa_if_ne (tg := 20) (nx := 18) at_61_15 rfl rfl (fun h61_15 => ?_) (fun h61_15 => ?_)
    · obtain ⟨s, hs, rfl⟩ := ix_of (by decide) (bi_n h61_15)
      refine qa_s (pc' := 21) at_61_20 rfl rfl rfl ?_
      refine qa_getR (nx := 24) at_61_21 rfl (by decide) rfl rfl (by decide) ?_
      refine qa_getR (nx := 27) at_61_24 rfl (by decide) rfl rfl (by decide) ?_
      refine qa_s (pc' := 28) at_61_27 rfl rfl rfl ?_
      refine qa_s (pc' := 29) at_61_28 rfl rfl rfl ?_
      refine qa_iast (nx := 30) (k := s) at_61_29 rfl rfl rfl (by decide) rfl (show s < 2 by omega) ?_
      refine qa_ic (nx := 31) (v := nI 1) at_61_30 (by decide) rfl ?_
      refine qa_ret at_61_31 rfl ?_
      show qa _ 129 0 [(0, .ref _), (1, .int _), (2, .int _)] [] _ _
      refine qa_s (pc' := 1) at_129_0 rfl rfl rfl ?_
      refine qa_getI (nx := 4) at_129_1 rfl (by decide) rfl rfl (by decide) ?_
      refine qa_if_eq (tg := 16) (nx := 7) at_129_4 rfl rfl (fun h129_4 => ?_) (fun h129_4 => ?_)
      · exact absurd (show σ 40 0 2 = 0 from h129_4) (by rw [ho']; exact h61_7)
      · refine qa_s (pc' := 8) at_129_7 rfl rfl rfl ?_
        refine qa_ic (nx := 9) (v := nI 0) at_129_8 (by decide) rfl ?_
        refine qa_ic (nx := 10) (v := nI 1) at_129_9 (by decide) rfl ?_
        refine qa_callS (nx := 13) at_129_10 rfl rfl (Nat.le_of_ble_eq_true rfl) rfl rfl (by decide) rfl ?_
        show qa _ 101 0 [(0, .int _), (1, .int _), (2, .int _)] [] _ _
        refine c101_q ?_
        show qa _ 129 13 _ [.int _] _ _
        refine qa_if_ne (tg := 18) (nx := 16) at_129_13 rfl rfl (fun h129_13 => ?_) (fun h129_13 => ?_)
        · refine qa_s (pc' := 19) at_129_18 rfl rfl rfl ?_
          refine qa_getR (nx := 22) at_129_19 rfl (by decide) rfl rfl (by decide) ?_
          refine qa_s (pc' := 23) at_129_22 rfl rfl rfl ?_
          refine qa_s (pc' := 24) at_129_23 rfl rfl rfl ?_
          refine qa_iast (nx := 25) (k := s) at_129_24 rfl rfl rfl (by decide) rfl (show s < 2 by omega) ?_
          refine qa_ic (nx := 26) (v := nI 1) at_129_25 (by decide) rfl ?_
          refine qa_ret at_129_26 rfl ?_
          exact ⟨_, rfl, rfl, T, Rel_input hR hs⟩
        · exact absurd (iz_in (by decide) (by omega)) (bi_z h129_13)
    · refine qa_ic (nx := 19) (v := nI 0) at_61_18 (by decide) rfl ?_
      refine qa_ret at_61_19 rfl ?_
      show qa _ 129 0 [(0, .ref _), (1, .int _), (2, .int _)] [] _ _
      have hbad : ¬ σ 40 0 2 = 0 → ¬ bi (nI 0 ≤ x ∧ x ≤ nI 1) = 0 → False := by
        intro a1 a3
        rw [ho'] at a1
        obtain ⟨s, hs, rfl⟩ := iz_of (by decide) (bi_n a3)
        first | exact a1 h61_7 | exact bi_z h61_15 (ix_in (by decide) (by omega))
      refine qa_s (pc' := 1) at_129_0 rfl rfl rfl ?_
      refine qa_getI (nx := 4) at_129_1 rfl (by decide) rfl rfl (by decide) ?_
      refine qa_if_eq (tg := 16) (nx := 7) at_129_4 rfl rfl (fun h129_4 => ?_) (fun h129_4 => ?_)
      · refine qa_ic (nx := 17) (v := nI 0) at_129_16 (by decide) rfl ?_
        refine qa_ret at_129_17 rfl ?_
        exact ⟨_, rfl, rfl, T, hR⟩
      · refine qa_s (pc' := 8) at_129_7 rfl rfl rfl ?_
        refine qa_ic (nx := 9) (v := nI 0) at_129_8 (by decide) rfl ?_
        refine qa_ic (nx := 10) (v := nI 1) at_129_9 (by decide) rfl ?_
        refine qa_callS (nx := 13) at_129_10 rfl rfl (Nat.le_of_ble_eq_true rfl) rfl rfl (by decide) rfl ?_
        show qa _ 101 0 [(0, .int _), (1, .int _), (2, .int _)] [] _ _
        refine c101_q ?_
        show qa _ 129 13 _ [.int _] _ _
        refine qa_if_ne (tg := 18) (nx := 16) at_129_13 rfl rfl (fun h129_13 => ?_) (fun h129_13 => ?_)
        · exact (hbad h129_4 h129_13).elim
        · refine qa_ic (nx := 17) (v := nI 0) at_129_16 (by decide) rfl ?_
          refine qa_ret at_129_17 rfl ?_
          exact ⟨_, rfl, rfl, T, hR⟩
theorem p_signal (hR : Rel T σ) (x : Int32) : pair cst 58 128 [.int x] σ := by
  obtain ⟨hA, hTt, hI, hP, hF, hJ, hRR⟩ := id hR
  obtain ⟨h5, h04, h40, hf, hf', ho, ho', hm, hof⟩ := id hA
  show qa cst 58 0 [(0, .ref (cl 0 0)), (1, .int x)] [] σ _
  refine qa_s (pc' := 1) at_58_0 rfl rfl rfl ?_
  refine qa_s (pc' := 2) at_58_1 rfl rfl rfl ?_
  refine qa_callV (nx := 5) at_58_2 rfl rfl (Nat.le_of_ble_eq_true rfl) rfl rfl rfl (by decide) rfl (by decide) ?_
  show qa _ 59 0 [(0, .ref _), (1, .int _)] [] _ _
  refine c59_q ?_
  show qa _ 58 5 _ [.int _] _ _
  refine qa_if_eq (tg := 27) (nx := 8) at_58_5 rfl rfl (fun h58_5 => ?_) (fun h58_5 => ?_)
  · refine qa_ic (nx := 28) (v := nI 0) at_58_27 (by decide) rfl ?_
    refine qa_ret at_58_28 rfl ?_
    show qa _ 128 0 [(0, .ref _), (1, .int _)] [] _ _
    refine qa_s (pc' := 1) at_128_0 rfl rfl rfl ?_
    refine qa_getI (nx := 4) at_128_1 rfl (by decide) rfl rfl (by decide) ?_
    refine qa_if_eq (tg := 34) (nx := 7) at_128_4 rfl rfl (fun h128_4 => ?_) (fun h128_4 => ?_)
    · refine qa_ic (nx := 35) (v := nI 0) at_128_34 (by decide) rfl ?_
      refine qa_ret at_128_35 rfl ?_
      exact ⟨_, rfl, rfl, T, hR⟩
    · refine qa_s (pc' := 8) at_128_7 rfl rfl rfl ?_
      refine qa_s (pc' := 9) at_128_8 rfl rfl rfl ?_
      refine qa_callV (nx := 12) at_128_9 rfl rfl (Nat.le_of_ble_eq_true rfl) rfl rfl rfl (by decide) rfl (by decide) ?_
      show qa _ 103 0 [(0, .ref _), (1, .int _)] [] _ _
      refine c103_q ?_
      show qa _ 128 12 _ [.int _] _ _
      refine qa_if_eq (tg := 34) (nx := 15) at_128_12 rfl rfl (fun h128_12 => ?_) (fun h128_12 => ?_)
      · refine qa_ic (nx := 35) (v := nI 0) at_128_34 (by decide) rfl ?_
        refine qa_ret at_128_35 rfl ?_
        exact ⟨_, rfl, rfl, T, hR⟩
      · exact absurd (⟨by rw [← ho']; exact h128_4, by rw [h04, ← h40]; exact bi_n h128_12⟩ : ¬ σ 18 0 0 = 0 ∧ 0 ≤ x ∧ x < σ 0 0 4) (bi_z h58_5)
  · have hp := bi_n h58_5
    rw [h04] at hp
    obtain ⟨i, hi, rfl⟩ := ix_of (by omega) hp.2
    obtain ⟨w, gw, gw2, gw3, gw4⟩ := ((hRR (z1 ho hp.1)).2.2.2.2.2.2.2.2.2.2.2.1 i hi).2.2.2.1
    obtain ⟨g41, g42, g43, gpd, goff⟩ := hTt i hi
    refine qa_s (pc' := 9) at_58_8 rfl rfl rfl ?_
    refine qa_getR (nx := 12) at_58_9 rfl (by decide) rfl rfl (by decide) ?_
    refine qa_getR (nx := 15) at_58_12 rfl (by decide) rfl rfl (by decide) ?_
    refine qa_s (pc' := 16) at_58_15 rfl rfl rfl ?_
    refine qa_aald (nx := 17) (k := i) at_58_16 (by decide) rfl rfl (by decide) rfl (show i < 5 by omega) ?_
    refine qa_callV (nx := 20) at_58_17 rfl rfl (Nat.le_of_ble_eq_true rfl) rfl rfl rfl (by decide) rfl (show _ < 5 by omega) ?_
    show qa _ 60 0 [(0, .ref _)] [] _ _
    refine qa_s (pc' := 1) at_60_0 rfl rfl rfl ?_
    refine qa_getR (nx := 4) at_60_1 rfl (by decide) rfl rfl (show _ < 5 by omega) ?_
    refine qa_callV (nx := 7) at_60_4 rfl rfl (Nat.le_of_ble_eq_true rfl) rfl rfl rfl (by decide) rfl (show _ < 5 by omega) ?_
    show qa _ 56 0 [(0, .ref _)] [] _ _
    refine qa_s (pc' := 1) at_56_0 rfl rfl rfl ?_
    refine qa_getI (nx := 4) at_56_1 rfl (by decide) rfl rfl (show _ < 5 by omega) ?_
    refine qa_ic (nx := 5) (v := (-1)) at_56_4 (by decide) rfl ?_
    refine qa_icmp_eq (tg := 12) (nx := 8) at_56_5 rfl rfl (fun h56_5 => ?_) (fun h56_5 => ?_)
    · refine qa_ic (nx := 13) (v := nI 0) at_56_12 (by decide) rfl ?_
      refine qa_ret at_56_13 rfl ?_
      show qa _ 60 7 _ [.int _] _ _
      refine qn_if_ne (tg := 18) (nx := 10) at_60_7 rfl rfl (by decide) (fun h => absurd h (by decide)) (fun h60_7 => ?_)
      refine qa_s (pc' := 11) at_60_10 rfl rfl rfl ?_
      refine qa_getI (nx := 14) at_60_11 rfl (by decide) rfl rfl (show _ < 5 by omega) ?_
      rw [gw3]
      refine qa_ic (nx := 15) (v := nI 4) at_60_14 (by decide) rfl ?_
      refine qn_icmp_lt (tg := 20) (nx := 18) at_60_15 rfl rfl (by omega) (by omega) (fun h60_15 => ?_) (fun h60_15 => ?_)
      · refine qa_s (pc' := 21) at_60_20 rfl rfl rfl ?_
        refine qa_s (pc' := 22) at_60_21 rfl rfl rfl ?_
        refine qa_getI (nx := 25) at_60_22 rfl (by decide) rfl rfl (show _ < 5 by omega) ?_
        rw [gw3]
        refine qa_ic (nx := 26) (v := nI 1) at_60_25 (by decide) rfl ?_
        refine qa_addN (nx := 27) at_60_26 rfl ?_
        refine qa_put (nx := 30) at_60_27 rfl (by decide) rfl rfl rfl (show _ < 5 by omega) ?_
        refine qa_ic (nx := 31) (v := nI 1) at_60_30 (by decide) rfl ?_
        refine qa_ret at_60_31 rfl ?_
        show qa _ 58 20 _ [.int _] _ _
        refine qn_if_eq (tg := 27) (nx := 23) at_58_20 rfl rfl (by decide) (fun h => absurd h (by decide)) (fun h58_20 => ?_)
        refine qa_ic (nx := 24) (v := nI 1) at_58_23 (by decide) rfl ?_
        refine qa_goto (nx := 28) at_58_24 rfl ?_
        refine qa_ret at_58_28 rfl ?_
        show qa _ 128 0 [(0, .ref _), (1, .int _)] [] _ _
        refine qa_s (pc' := 1) at_128_0 rfl rfl rfl ?_
        refine qa_getI (nx := 4) at_128_1 rfl (by decide) rfl rfl (by decide) ?_
        refine qa_if_eq (tg := 34) (nx := 7) at_128_4 rfl rfl (fun h128_4 => ?_) (fun h128_4 => ?_)
        · exact absurd (ho'.symm.trans h128_4) hp.1
        · refine qa_s (pc' := 8) at_128_7 rfl rfl rfl ?_
          refine qa_s (pc' := 9) at_128_8 rfl rfl rfl ?_
          refine qa_callV (nx := 12) at_128_9 rfl rfl (Nat.le_of_ble_eq_true rfl) rfl rfl rfl (by decide) rfl (by decide) ?_
          show qa _ 103 0 [(0, .ref _), (1, .int _)] [] _ _
          refine c103_q ?_
          show qa _ 128 12 _ [.int _] _ _
          refine qa_if_eq (tg := 34) (nx := 15) at_128_12 rfl rfl (fun h128_12 => ?_) (fun h128_12 => ?_)
          · exact absurd (show 0 ≤ nI i ∧ nI i < σ 40 0 0 by rw [h40]; exact ix_in (by omega) hi) (bi_z h128_12)
          · refine qa_s (pc' := 16) at_128_15 rfl rfl rfl ?_
            refine qa_getR (nx := 19) at_128_16 rfl (by decide) rfl rfl (by decide) ?_
            refine qa_s (pc' := 20) at_128_19 rfl rfl rfl ?_
            refine qa_iald (nx := 21) (k := i) at_128_20 rfl rfl rfl (by decide) rfl (show i < 5 by omega) ?_
            refine qa_if_ge (tg := 34) (nx := 24) at_128_21 rfl rfl (fun h128_21 => ?_) (fun h128_21 => ?_)
            · exact absurd h56_5 ((off_ge goff).mp (by rw [← g43]; exact h128_21))
            · refine qa_s (pc' := 25) at_128_24 rfl rfl rfl ?_
              refine qa_getR (nx := 28) at_128_25 rfl (by decide) rfl rfl (by decide) ?_
              refine qa_s (pc' := 29) at_128_28 rfl rfl rfl ?_
              refine qa_iald (nx := 30) (k := i) at_128_29 rfl rfl rfl (by decide) rfl (show i < 5 by omega) ?_
              rw [show (up σ 27 i 5 (nI (w + 1))) 73 0 i = nI w from gw2]
              refine qa_ic (nx := 31) (v := nI 4) at_128_30 (by decide) rfl ?_
              refine qn_icmp_ne (tg := 36) (nx := 34) at_128_31 rfl rfl (by omega) (by omega) (fun h128_31 => ?_) (fun h128_31 => ?_)
              · refine qa_s (pc' := 37) at_128_36 rfl rfl rfl ?_
                refine qa_getR (nx := 40) at_128_37 rfl (by decide) rfl rfl (by decide) ?_
                refine qa_s (pc' := 41) at_128_40 rfl rfl rfl ?_
                refine qa_s (pc' := 42) at_128_41 rfl rfl rfl ?_
                refine qa_iald (nx := 43) (k := i) at_128_42 rfl rfl rfl (by decide) rfl (show i < 5 by omega) ?_
                rw [show (up σ 27 i 5 (nI (w + 1))) 73 0 i = nI w from gw2]
                refine qa_ic (nx := 44) (v := nI 1) at_128_43 (by decide) rfl ?_
                refine qa_addN (nx := 45) at_128_44 rfl ?_
                refine qa_iast (nx := 46) (k := i) at_128_45 rfl rfl rfl (by decide) rfl (show i < 5 by omega) ?_
                refine qa_ic (nx := 47) (v := nI 1) at_128_46 (by decide) rfl ?_
                refine qa_ret at_128_47 rfl ?_
                exact ⟨_, rfl, rfl, T, Rel_signal hR hi (by omega) h56_5⟩
              · omega
      · refine qa_ic (nx := 19) (v := nI 0) at_60_18 (by decide) rfl ?_
        refine qa_ret at_60_19 rfl ?_
        show qa _ 58 20 _ [.int _] _ _
        refine qn_if_eq (tg := 27) (nx := 23) at_58_20 rfl rfl (by decide) (fun h58_20 => ?_) (fun h => absurd h (by decide))
        refine qa_ic (nx := 28) (v := nI 0) at_58_27 (by decide) rfl ?_
        refine qa_ret at_58_28 rfl ?_
        show qa _ 128 0 [(0, .ref _), (1, .int _)] [] _ _
        refine qa_s (pc' := 1) at_128_0 rfl rfl rfl ?_
        refine qa_getI (nx := 4) at_128_1 rfl (by decide) rfl rfl (by decide) ?_
        refine qa_if_eq (tg := 34) (nx := 7) at_128_4 rfl rfl (fun h128_4 => ?_) (fun h128_4 => ?_)
        · exact absurd (ho'.symm.trans h128_4) hp.1
        · refine qa_s (pc' := 8) at_128_7 rfl rfl rfl ?_
          refine qa_s (pc' := 9) at_128_8 rfl rfl rfl ?_
          refine qa_callV (nx := 12) at_128_9 rfl rfl (Nat.le_of_ble_eq_true rfl) rfl rfl rfl (by decide) rfl (by decide) ?_
          show qa _ 103 0 [(0, .ref _), (1, .int _)] [] _ _
          refine c103_q ?_
          show qa _ 128 12 _ [.int _] _ _
          refine qa_if_eq (tg := 34) (nx := 15) at_128_12 rfl rfl (fun h128_12 => ?_) (fun h128_12 => ?_)
          · exact absurd (show 0 ≤ nI i ∧ nI i < σ 40 0 0 by rw [h40]; exact ix_in (by omega) hi) (bi_z h128_12)
          · refine qa_s (pc' := 16) at_128_15 rfl rfl rfl ?_
            refine qa_getR (nx := 19) at_128_16 rfl (by decide) rfl rfl (by decide) ?_
            refine qa_s (pc' := 20) at_128_19 rfl rfl rfl ?_
            refine qa_iald (nx := 21) (k := i) at_128_20 rfl rfl rfl (by decide) rfl (show i < 5 by omega) ?_
            refine qa_if_ge (tg := 34) (nx := 24) at_128_21 rfl rfl (fun h128_21 => ?_) (fun h128_21 => ?_)
            · exact absurd h56_5 ((off_ge goff).mp (by rw [← g43]; exact h128_21))
            · refine qa_s (pc' := 25) at_128_24 rfl rfl rfl ?_
              refine qa_getR (nx := 28) at_128_25 rfl (by decide) rfl rfl (by decide) ?_
              refine qa_s (pc' := 29) at_128_28 rfl rfl rfl ?_
              refine qa_iald (nx := 30) (k := i) at_128_29 rfl rfl rfl (by decide) rfl (show i < 5 by omega) ?_
              rw [gw2]
              refine qa_ic (nx := 31) (v := nI 4) at_128_30 (by decide) rfl ?_
              refine qn_icmp_ne (tg := 36) (nx := 34) at_128_31 rfl rfl (by omega) (by omega) (fun h128_31 => ?_) (fun h128_31 => ?_)
              · omega
              · refine qa_ic (nx := 35) (v := nI 0) at_128_34 (by decide) rfl ?_
                refine qa_ret at_128_35 rfl ?_
                exact ⟨_, rfl, rfl, T, hR⟩
    · refine qa_ic (nx := 9) (v := nI 1) at_56_8 (by decide) rfl ?_
      refine qa_goto (nx := 13) at_56_9 rfl ?_
      refine qa_ret at_56_13 rfl ?_
      show qa _ 60 7 _ [.int _] _ _
      refine qn_if_ne (tg := 18) (nx := 10) at_60_7 rfl rfl (by decide) (fun h60_7 => ?_) (fun h => absurd h (by decide))
      refine qa_ic (nx := 19) (v := nI 0) at_60_18 (by decide) rfl ?_
      refine qa_ret at_60_19 rfl ?_
      show qa _ 58 20 _ [.int _] _ _
      refine qn_if_eq (tg := 27) (nx := 23) at_58_20 rfl rfl (by decide) (fun h58_20 => ?_) (fun h => absurd h (by decide))
      refine qa_ic (nx := 28) (v := nI 0) at_58_27 (by decide) rfl ?_
      refine qa_ret at_58_28 rfl ?_
      show qa _ 128 0 [(0, .ref _), (1, .int _)] [] _ _
      refine qa_s (pc' := 1) at_128_0 rfl rfl rfl ?_
      refine qa_getI (nx := 4) at_128_1 rfl (by decide) rfl rfl (by decide) ?_
      refine qa_if_eq (tg := 34) (nx := 7) at_128_4 rfl rfl (fun h128_4 => ?_) (fun h128_4 => ?_)
      · exact absurd (ho'.symm.trans h128_4) hp.1
      · refine qa_s (pc' := 8) at_128_7 rfl rfl rfl ?_
        refine qa_s (pc' := 9) at_128_8 rfl rfl rfl ?_
        refine qa_callV (nx := 12) at_128_9 rfl rfl (Nat.le_of_ble_eq_true rfl) rfl rfl rfl (by decide) rfl (by decide) ?_
        show qa _ 103 0 [(0, .ref _), (1, .int _)] [] _ _
        refine c103_q ?_
        show qa _ 128 12 _ [.int _] _ _
        refine qa_if_eq (tg := 34) (nx := 15) at_128_12 rfl rfl (fun h128_12 => ?_) (fun h128_12 => ?_)
        · exact absurd (show 0 ≤ nI i ∧ nI i < σ 40 0 0 by rw [h40]; exact ix_in (by omega) hi) (bi_z h128_12)
        · refine qa_s (pc' := 16) at_128_15 rfl rfl rfl ?_
          refine qa_getR (nx := 19) at_128_16 rfl (by decide) rfl rfl (by decide) ?_
          refine qa_s (pc' := 20) at_128_19 rfl rfl rfl ?_
          refine qa_iald (nx := 21) (k := i) at_128_20 rfl rfl rfl (by decide) rfl (show i < 5 by omega) ?_
          refine qa_if_ge (tg := 34) (nx := 24) at_128_21 rfl rfl (fun h128_21 => ?_) (fun h128_21 => ?_)
          · refine qa_ic (nx := 35) (v := nI 0) at_128_34 (by decide) rfl ?_
            refine qa_ret at_128_35 rfl ?_
            exact ⟨_, rfl, rfl, T, hR⟩
          · exact absurd ((off_ge goff).mpr h56_5) (by rw [← g43]; exact h128_21)
end PQ
