/-! Calls that only read, of both. -/
theorem sw_of {x : Int32} {n : Nat} (hn : n < 2 ^ 31) (h : ¬ (x.toInt < 0 ∨ (n : Int) < x.toInt)) : ∃ j, j ≤ n ∧ x = nI j := by
  have h0 : ¬ x < 0 := by simp only [Int32.lt_iff_toInt_lt, Int32.toInt_zero]; omega
  obtain ⟨j, hj, rfl⟩ := nI_of h0
  rw [nI_toInt hj] at h
  exact ⟨j, by omega, rfl⟩
theorem iz_of {y : Int32} {m : Nat} (hm : m < 2 ^ 31) (h : nI 0 ≤ y ∧ y ≤ nI m) : ∃ s, s ≤ m ∧ y = nI s := by
  have h0 : ¬ y < 0 := by
    have := h.1
    simp only [Int32.le_iff_toInt_le, Int32.lt_iff_toInt_lt, Int32.toInt_zero, nI_toInt (show 0 < 2 ^ 31 by decide)] at *
    omega
  obtain ⟨j, hj, rfl⟩ := nI_of h0
  exact ⟨j, (nI_leI hj hm).mp h.2, rfl⟩
theorem iz_in {s m : Nat} (hm : m < 2 ^ 31) (h : s ≤ m) : nI 0 ≤ nI s ∧ nI s ≤ nI m := ⟨(nI_leI (by decide) (Nat.lt_of_le_of_lt h hm)).mpr (Nat.zero_le _), (nI_leI (Nat.lt_of_le_of_lt h hm) hm).mpr h⟩
section PP
variable {cst : List (List Int32)} {σ : sg} {T : Nat}
theorem p_wcet (hR : Rel T σ) (x : Int32) : pair cst 46 121 [.int x] σ := by
  obtain ⟨hA, hTt, hI, hP, hF, hJ, hRR⟩ := id hR
  obtain ⟨h5, h04, h40, hf, hf', ho, ho', hm, hof⟩ := id hA
  show qa cst 46 0 [(0, .ref (cl 0 0)), (1, .int x)] [] σ _
  refine c46_q h04 h5 (fun h => ?_) (fun i hi e f => ?_)
  · show qa cst 121 0 [(0, .ref (cl 40 0)), (1, .int x)] [] σ _
    refine c121_q h40 h5 (fun h' => ⟨_, rfl, rfl, T, hR⟩) (fun i hi e f => absurd ⟨by rw [← hf']; exact f, by rw [e]; exact ix_in (by omega) hi⟩ h)
  · show qa cst 121 0 [(0, .ref (cl 40 0)), (1, .int x)] [] σ _
    refine c121_q h40 h5 (fun h' => absurd ⟨by rw [hf']; exact f, by rw [e]; exact ix_in (by omega) hi⟩ h') (fun i' hi' e' f' => ?_)
    have hii : i' = i := (nI_eq (by omega) (by omega)).mp (e'.symm.trans e)
    subst hii
    exact ⟨_, rfl, by rw [((hF (z1 hf f)).1 i' hi').1], T, hR⟩
theorem p_blocking (hR : Rel T σ) (x : Int32) : pair cst 49 123 [.int x] σ := by
  obtain ⟨hA, hTt, hI, hP, hF, hJ, hRR⟩ := id hR
  obtain ⟨h5, h04, h40, hf, hf', ho, ho', hm, hof⟩ := id hA
  show qa cst 49 0 [(0, .ref (cl 0 0)), (1, .int x)] [] σ _
  refine c49_q h04 h5 (fun h => ?_) (fun i hi e f => ?_)
  · show qa cst 123 0 [(0, .ref (cl 40 0)), (1, .int x)] [] σ _
    refine c123_q h40 h5 (fun h' => ⟨_, rfl, rfl, T, hR⟩) (fun i hi e f => absurd ⟨by rw [← hf']; exact f, by rw [e]; exact ix_in (by omega) hi⟩ h)
  · show qa cst 123 0 [(0, .ref (cl 40 0)), (1, .int x)] [] σ _
    refine c123_q h40 h5 (fun h' => absurd ⟨by rw [hf']; exact f, by rw [e]; exact ix_in (by omega) hi⟩ h') (fun i' hi' e' f' => ?_)
    have hii : i' = i := (nI_eq (by omega) (by omega)).mp (e'.symm.trans e)
    subst hii
    exact ⟨_, rfl, by rw [((hF (z1 hf f)).1 i' hi').2.1], T, hR⟩
theorem p_response (hR : Rel T σ) (x : Int32) : pair cst 50 124 [.int x] σ := by
  obtain ⟨hA, hTt, hI, hP, hF, hJ, hRR⟩ := id hR
  obtain ⟨h5, h04, h40, hf, hf', ho, ho', hm, hof⟩ := id hA
  show qa cst 50 0 [(0, .ref (cl 0 0)), (1, .int x)] [] σ _
  refine c50_q h04 h5 (fun h => ?_) (fun i hi e f => ?_)
  · show qa cst 124 0 [(0, .ref (cl 40 0)), (1, .int x)] [] σ _
    refine c124_q h40 h5 (fun h' => ⟨_, rfl, rfl, T, hR⟩) (fun i hi e f => absurd ⟨by rw [← hf']; exact f, by rw [e]; exact ix_in (by omega) hi⟩ h)
  · show qa cst 124 0 [(0, .ref (cl 40 0)), (1, .int x)] [] σ _
    refine c124_q h40 h5 (fun h' => absurd ⟨by rw [hf']; exact f, by rw [e]; exact ix_in (by omega) hi⟩ h') (fun i' hi' e' f' => ?_)
    have hii : i' = i := (nI_eq (by omega) (by omega)).mp (e'.symm.trans e)
    subst hii
    exact ⟨_, rfl, by rw [((hF (z1 hf f)).1 i' hi').2.2.1], T, hR⟩
theorem p_worst (hR : Rel T σ) (x : Int32) : pair cst 95 143 [.int x] σ := by
  obtain ⟨hA, hTt, hI, hP, hF, hJ, hRR⟩ := id hR
  obtain ⟨h5, h04, h40, hf, hf', ho, ho', hm, hof⟩ := id hA
  show qa cst 95 0 [(0, .ref (cl 0 0)), (1, .int x)] [] σ _
  refine c95_q h04 h5 (fun h => ?_) (fun i hi e f => ?_)
  · show qa cst 143 0 [(0, .ref (cl 40 0)), (1, .int x)] [] σ _
    refine c143_q h40 h5 (fun h' => ⟨_, rfl, rfl, T, hR⟩) (fun i hi e f => absurd ⟨by rw [← ho']; exact f, by rw [e]; exact ix_in (by omega) hi⟩ h)
  · show qa cst 143 0 [(0, .ref (cl 40 0)), (1, .int x)] [] σ _
    refine c143_q h40 h5 (fun h' => absurd ⟨by rw [ho']; exact f, by rw [e]; exact ix_in (by omega) hi⟩ h') (fun i' hi' e' f' => ?_)
    have hii : i' = i := (nI_eq (by omega) (by omega)).mp (e'.symm.trans e)
    subst hii
    exact ⟨_, rfl, by rw [((hRR (z1 ho f)).2.2.2.2.2.2.2.2.2.2.2.1 i' hi').2.2.1], T, hR⟩
theorem p_place (hR : Rel T σ) : pair cst 45 120 [] σ := by
  obtain ⟨hA, hTt, hI, hP, hF, hJ, hRR⟩ := id hR
  obtain ⟨h5, h04, h40, hf, hf', ho, ho', hm, hof⟩ := id hA
  show qa cst 45 0 [(0, .ref (cl 0 0))] [] σ _
  refine qa_s (pc' := 1) at_45_0 rfl rfl rfl ?_
  refine qa_getR (nx := 4) at_45_1 rfl (by decide) rfl rfl (by decide) ?_
  refine qa_getI (nx := 7) at_45_4 rfl (by decide) rfl rfl (by decide) ?_
  refine qa_ret at_45_7 rfl ?_
  show qa _ 120 0 [(0, .ref _)] [] _ _
  refine qa_s (pc' := 1) at_120_0 rfl rfl rfl ?_
  refine qa_getI (nx := 4) at_120_1 rfl (by decide) rfl rfl (by decide) ?_
  refine qa_ret at_120_4 rfl ?_
  exact ⟨_, rfl, by rw [hm], T, hR⟩
theorem p_section (hR : Rel T σ) (x y : Int32) : pair cst 48 122 [.int x, .int y] σ := by
  obtain ⟨hA, hTt, hI, hP, hF, hJ, hRR⟩ := id hR
  obtain ⟨h5, h04, h40, hf, hf', ho, ho', hm, hof⟩ := id hA
  show qa cst 48 0 [(0, .ref (cl 0 0)), (1, .int x), (2, .int y)] [] σ _
  refine qa_s (pc' := 1) at_48_0 rfl rfl rfl ?_
  refine qa_s (pc' := 2) at_48_1 rfl rfl rfl ?_
  refine qa_callV (nx := 5) at_48_2 rfl rfl (Nat.le_of_ble_eq_true rfl) rfl rfl rfl (by decide) rfl (by decide) ?_
  show qa _ 47 0 [(0, .ref _), (1, .int _)] [] _ _
  refine c47_q ?_
  show qa _ 48 5 _ [.int _] _ _
  refine qa_if_eq (tg := 30) (nx := 8) at_48_5 rfl rfl (fun h48_5 => ?_) (fun h48_5 => ?_)
  · refine qa_ic (nx := 31) (v := (-1)) at_48_30 (by decide) rfl ?_
    refine qa_ret at_48_31 rfl ?_
    show qa _ 122 0 [(0, .ref _), (1, .int _), (2, .int _)] [] _ _
    have hbad : ¬ σ 40 0 1 = 0 → ¬ bi (0 ≤ x ∧ x < σ 40 0 0) = 0 → ¬ bi (nI 0 ≤ y ∧ y ≤ nI 3) = 0 → False := by
      intro a1 a2 a3
      have b2 := bi_n a2; have b3 := bi_n a3
      rw [hf'] at a1; rw [h40] at b2
      obtain ⟨s, hs, rfl⟩ := iz_of (by decide) b3
      first | exact bi_z h48_13 (ix_in (by decide) (by omega)) | exact bi_z h48_5 ⟨a1, by rw [h04]; exact b2⟩
    refine qa_s (pc' := 1) at_122_0 rfl rfl rfl ?_
    refine qa_getI (nx := 4) at_122_1 rfl (by decide) rfl rfl (by decide) ?_
    refine qa_if_eq (tg := 37) (nx := 7) at_122_4 rfl rfl (fun h122_4 => ?_) (fun h122_4 => ?_)
    · refine qa_ic (nx := 38) (v := (-1)) at_122_37 (by decide) rfl ?_
      refine qa_ret at_122_38 rfl ?_
      exact ⟨_, rfl, rfl, T, hR⟩
    · refine qa_s (pc' := 8) at_122_7 rfl rfl rfl ?_
      refine qa_s (pc' := 9) at_122_8 rfl rfl rfl ?_
      refine qa_callV (nx := 12) at_122_9 rfl rfl (Nat.le_of_ble_eq_true rfl) rfl rfl rfl (by decide) rfl (by decide) ?_
      show qa _ 103 0 [(0, .ref _), (1, .int _)] [] _ _
      refine c103_q ?_
      show qa _ 122 12 _ [.int _] _ _
      refine qa_if_eq (tg := 37) (nx := 15) at_122_12 rfl rfl (fun h122_12 => ?_) (fun h122_12 => ?_)
      · refine qa_ic (nx := 38) (v := (-1)) at_122_37 (by decide) rfl ?_
        refine qa_ret at_122_38 rfl ?_
        exact ⟨_, rfl, rfl, T, hR⟩
      · refine qa_s (pc' := 16) at_122_15 rfl rfl rfl ?_
        refine qa_ic (nx := 17) (v := nI 0) at_122_16 (by decide) rfl ?_
        refine qa_ic (nx := 18) (v := nI 3) at_122_17 (by decide) rfl ?_
        refine qa_callS (nx := 21) at_122_18 rfl rfl (Nat.le_of_ble_eq_true rfl) rfl rfl (by decide) rfl ?_
        show qa _ 101 0 [(0, .int _), (1, .int _), (2, .int _)] [] _ _
        refine c101_q ?_
        show qa _ 122 21 _ [.int _] _ _
        refine qa_if_eq (tg := 37) (nx := 24) at_122_21 rfl rfl (fun h122_21 => ?_) (fun h122_21 => ?_)
        · refine qa_ic (nx := 38) (v := (-1)) at_122_37 (by decide) rfl ?_
          refine qa_ret at_122_38 rfl ?_
          exact ⟨_, rfl, rfl, T, hR⟩
        · exact absurd (show False from hbad h122_4 h122_12 h122_21) id
  · have hp := bi_n h48_5
    rw [h04] at hp
    refine qa_s (pc' := 9) at_48_8 rfl rfl rfl ?_
    refine qa_ic (nx := 10) (v := nI 4) at_48_9 (by decide) rfl ?_
    refine qa_callS (nx := 13) at_48_10 rfl rfl (Nat.le_of_ble_eq_true rfl) rfl rfl (by decide) rfl ?_
    show qa _ 15 0 [(0, .int _), (1, .int _)] [] _ _
    refine c15_q ?_
    show qa _ 48 13 _ [.int _] _ _
    refine qa_if_eq (tg := 30) (nx := 16) at_48_13 rfl rfl (fun h48_13 => ?_) (fun h48_13 => ?_)
    · refine qa_ic (nx := 31) (v := (-1)) at_48_30 (by decide) rfl ?_
      refine qa_ret at_48_31 rfl ?_
      show qa _ 122 0 [(0, .ref _), (1, .int _), (2, .int _)] [] _ _
      have hbad : ¬ σ 40 0 1 = 0 → ¬ bi (0 ≤ x ∧ x < σ 40 0 0) = 0 → ¬ bi (nI 0 ≤ y ∧ y ≤ nI 3) = 0 → False := by
        intro a1 a2 a3
        have b2 := bi_n a2; have b3 := bi_n a3
        rw [hf'] at a1; rw [h40] at b2
        obtain ⟨s, hs, rfl⟩ := iz_of (by decide) b3
        first | exact bi_z h48_13 (ix_in (by decide) (by omega)) | exact bi_z h48_5 ⟨a1, by rw [h04]; exact b2⟩
      refine qa_s (pc' := 1) at_122_0 rfl rfl rfl ?_
      refine qa_getI (nx := 4) at_122_1 rfl (by decide) rfl rfl (by decide) ?_
      refine qa_if_eq (tg := 37) (nx := 7) at_122_4 rfl rfl (fun h122_4 => ?_) (fun h122_4 => ?_)
      · refine qa_ic (nx := 38) (v := (-1)) at_122_37 (by decide) rfl ?_
        refine qa_ret at_122_38 rfl ?_
        exact ⟨_, rfl, rfl, T, hR⟩
      · refine qa_s (pc' := 8) at_122_7 rfl rfl rfl ?_
        refine qa_s (pc' := 9) at_122_8 rfl rfl rfl ?_
        refine qa_callV (nx := 12) at_122_9 rfl rfl (Nat.le_of_ble_eq_true rfl) rfl rfl rfl (by decide) rfl (by decide) ?_
        show qa _ 103 0 [(0, .ref _), (1, .int _)] [] _ _
        refine c103_q ?_
        show qa _ 122 12 _ [.int _] _ _
        refine qa_if_eq (tg := 37) (nx := 15) at_122_12 rfl rfl (fun h122_12 => ?_) (fun h122_12 => ?_)
        · refine qa_ic (nx := 38) (v := (-1)) at_122_37 (by decide) rfl ?_
          refine qa_ret at_122_38 rfl ?_
          exact ⟨_, rfl, rfl, T, hR⟩
        · refine qa_s (pc' := 16) at_122_15 rfl rfl rfl ?_
          refine qa_ic (nx := 17) (v := nI 0) at_122_16 (by decide) rfl ?_
          refine qa_ic (nx := 18) (v := nI 3) at_122_17 (by decide) rfl ?_
          refine qa_callS (nx := 21) at_122_18 rfl rfl (Nat.le_of_ble_eq_true rfl) rfl rfl (by decide) rfl ?_
          show qa _ 101 0 [(0, .int _), (1, .int _), (2, .int _)] [] _ _
          refine c101_q ?_
          show qa _ 122 21 _ [.int _] _ _
          refine qa_if_eq (tg := 37) (nx := 24) at_122_21 rfl rfl (fun h122_21 => ?_) (fun h122_21 => ?_)
          · refine qa_ic (nx := 38) (v := (-1)) at_122_37 (by decide) rfl ?_
            refine qa_ret at_122_38 rfl ?_
            exact ⟨_, rfl, rfl, T, hR⟩
          · exact absurd (show False from hbad h122_4 h122_12 h122_21) id
    · have hq := bi_n h48_13
      obtain ⟨i, hi, rfl⟩ := ix_of (by omega) hp.2
      obtain ⟨s, hs, rfl⟩ := ix_of (by decide) hq
      refine qa_s (pc' := 17) at_48_16 rfl rfl rfl ?_
      refine qa_getR (nx := 20) at_48_17 rfl (by decide) rfl rfl (by decide) ?_
      refine qa_getR (nx := 23) at_48_20 rfl (by decide) rfl rfl (by decide) ?_
      refine qa_s (pc' := 24) at_48_23 rfl rfl rfl ?_
      refine qa_aald (nx := 25) (k := i) at_48_24 (by decide) rfl rfl (by decide) rfl (show i < 5 by omega) ?_
      refine qa_s (pc' := 26) at_48_25 rfl rfl rfl ?_
      refine qa_iald (nx := 27) (k := s) at_48_26 rfl rfl rfl (show _ < 5 by omega) rfl (show s < 4 by omega) ?_
      refine qa_goto (nx := 31) at_48_27 rfl ?_
      refine qa_ret at_48_31 rfl ?_
      show qa _ 122 0 [(0, .ref _), (1, .int _), (2, .int _)] [] _ _
      refine qa_s (pc' := 1) at_122_0 rfl rfl rfl ?_
      refine qa_getI (nx := 4) at_122_1 rfl (by decide) rfl rfl (by decide) ?_
      refine qa_if_eq (tg := 37) (nx := 7) at_122_4 rfl rfl (fun h122_4 => ?_) (fun h122_4 => ?_)
      · exact absurd (hf' ▸ h122_4) hp.1
      · refine qa_s (pc' := 8) at_122_7 rfl rfl rfl ?_
        refine qa_s (pc' := 9) at_122_8 rfl rfl rfl ?_
        refine qa_callV (nx := 12) at_122_9 rfl rfl (Nat.le_of_ble_eq_true rfl) rfl rfl rfl (by decide) rfl (by decide) ?_
        show qa _ 103 0 [(0, .ref _), (1, .int _)] [] _ _
        refine c103_q ?_
        show qa _ 122 12 _ [.int _] _ _
        refine qa_if_eq (tg := 37) (nx := 15) at_122_12 rfl rfl (fun h122_12 => ?_) (fun h122_12 => ?_)
        · exact absurd (by rw [h40]; exact ix_in (by omega) hi) (bi_z h122_12)
        · refine qa_s (pc' := 16) at_122_15 rfl rfl rfl ?_
          refine qa_ic (nx := 17) (v := nI 0) at_122_16 (by decide) rfl ?_
          refine qa_ic (nx := 18) (v := nI 3) at_122_17 (by decide) rfl ?_
          refine qa_callS (nx := 21) at_122_18 rfl rfl (Nat.le_of_ble_eq_true rfl) rfl rfl (by decide) rfl ?_
          show qa _ 101 0 [(0, .int _), (1, .int _), (2, .int _)] [] _ _
          refine c101_q ?_
          show qa _ 122 21 _ [.int _] _ _
          refine qa_if_eq (tg := 37) (nx := 24) at_122_21 rfl rfl (fun h122_21 => ?_) (fun h122_21 => ?_)
          · exact absurd (iz_in (by decide) (by omega)) (bi_z h122_21)
          · refine qa_s (pc' := 25) at_122_24 rfl rfl rfl ?_
            refine qa_getR (nx := 28) at_122_25 rfl (by decide) rfl rfl (by decide) ?_
            refine qa_ic (nx := 29) (v := nI 4) at_122_28 (by decide) rfl ?_
            refine qa_s (pc' := 30) at_122_29 rfl rfl rfl ?_
            refine qa_mulN (nx := 31) at_122_30 rfl ?_
            refine qa_s (pc' := 32) at_122_31 rfl rfl rfl ?_
            refine qa_addN (nx := 33) at_122_32 rfl ?_
            refine qa_iald (nx := 34) (k := (4 * i) + s) at_122_33 rfl rfl rfl (by decide) rfl (show (4 * i) + s < 20 by omega) ?_
            refine qa_goto (nx := 38) at_122_34 rfl ?_
            refine qa_ret at_122_38 rfl ?_
            exact ⟨_, rfl, by rw [((hF (z1 hf hp.1)).1 i hi).2.2.2 s hs], T, hR⟩
theorem p_word (hR : Rel T σ) (x y : Int32) : pair cst 96 144 [.int x, .int y] σ := by
  obtain ⟨hA, hTt, hI, hP, hF, hJ, hRR⟩ := id hR
  obtain ⟨h5, h04, h40, hf, hf', ho, ho', hm, hof⟩ := id hA
  show qa cst 96 0 [(0, .ref (cl 0 0)), (1, .int x), (2, .int y)] [] σ _
  refine qa_s (pc' := 1) at_96_0 rfl rfl rfl ?_
  refine qa_s (pc' := 2) at_96_1 rfl rfl rfl ?_
  refine qa_callV (nx := 5) at_96_2 rfl rfl (Nat.le_of_ble_eq_true rfl) rfl rfl rfl (by decide) rfl (by decide) ?_
  show qa _ 59 0 [(0, .ref _), (1, .int _)] [] _ _
  refine c59_q ?_
  show qa _ 96 5 _ [.int _] _ _
  refine qa_if_eq (tg := 34) (nx := 8) at_96_5 rfl rfl (fun h96_5 => ?_) (fun h96_5 => ?_)
  · refine qa_ic (nx := 35) (v := (-1)) at_96_34 (by decide) rfl ?_
    refine qa_ret at_96_35 rfl ?_
    show qa _ 144 0 [(0, .ref _), (1, .int _), (2, .int _)] [] _ _
    have hbad : ¬ σ 40 0 2 = 0 → ¬ bi (0 ≤ x ∧ x < σ 40 0 0) = 0 → ¬ bi (nI 0 ≤ y ∧ y ≤ nI 7) = 0 → False := by
      intro a1 a2 a3
      have b2 := bi_n a2; have b3 := bi_n a3
      rw [ho'] at a1; rw [h40] at b2
      obtain ⟨s, hs, rfl⟩ := iz_of (by decide) b3
      first | exact bi_z h96_14 (ix_in (by decide) (by omega)) | exact bi_z h96_5 ⟨a1, by rw [h04]; exact b2⟩
    refine qa_s (pc' := 1) at_144_0 rfl rfl rfl ?_
    refine qa_getI (nx := 4) at_144_1 rfl (by decide) rfl rfl (by decide) ?_
    refine qa_if_eq (tg := 39) (nx := 7) at_144_4 rfl rfl (fun h144_4 => ?_) (fun h144_4 => ?_)
    · refine qa_ic (nx := 40) (v := (-1)) at_144_39 (by decide) rfl ?_
      refine qa_ret at_144_40 rfl ?_
      exact ⟨_, rfl, rfl, T, hR⟩
    · refine qa_s (pc' := 8) at_144_7 rfl rfl rfl ?_
      refine qa_s (pc' := 9) at_144_8 rfl rfl rfl ?_
      refine qa_callV (nx := 12) at_144_9 rfl rfl (Nat.le_of_ble_eq_true rfl) rfl rfl rfl (by decide) rfl (by decide) ?_
      show qa _ 103 0 [(0, .ref _), (1, .int _)] [] _ _
      refine c103_q ?_
      show qa _ 144 12 _ [.int _] _ _
      refine qa_if_eq (tg := 39) (nx := 15) at_144_12 rfl rfl (fun h144_12 => ?_) (fun h144_12 => ?_)
      · refine qa_ic (nx := 40) (v := (-1)) at_144_39 (by decide) rfl ?_
        refine qa_ret at_144_40 rfl ?_
        exact ⟨_, rfl, rfl, T, hR⟩
      · refine qa_s (pc' := 16) at_144_15 rfl rfl rfl ?_
        refine qa_ic (nx := 17) (v := nI 0) at_144_16 (by decide) rfl ?_
        refine qa_bi (nx := 19) (v := nI 7) at_144_17 (by decide) rfl ?_
        refine qa_callS (nx := 22) at_144_19 rfl rfl (Nat.le_of_ble_eq_true rfl) rfl rfl (by decide) rfl ?_
        show qa _ 101 0 [(0, .int _), (1, .int _), (2, .int _)] [] _ _
        refine c101_q ?_
        show qa _ 144 22 _ [.int _] _ _
        refine qa_if_eq (tg := 39) (nx := 25) at_144_22 rfl rfl (fun h144_22 => ?_) (fun h144_22 => ?_)
        · refine qa_ic (nx := 40) (v := (-1)) at_144_39 (by decide) rfl ?_
          refine qa_ret at_144_40 rfl ?_
          exact ⟨_, rfl, rfl, T, hR⟩
        · exact absurd (show False from hbad h144_4 h144_12 h144_22) id
  · have hp := bi_n h96_5
    rw [h04] at hp
    refine qa_s (pc' := 9) at_96_8 rfl rfl rfl ?_
    refine qa_bi (nx := 11) (v := nI 8) at_96_9 (by decide) rfl ?_
    refine qa_callS (nx := 14) at_96_11 rfl rfl (Nat.le_of_ble_eq_true rfl) rfl rfl (by decide) rfl ?_
    show qa _ 15 0 [(0, .int _), (1, .int _)] [] _ _
    refine c15_q ?_
    show qa _ 96 14 _ [.int _] _ _
    refine qa_if_eq (tg := 34) (nx := 17) at_96_14 rfl rfl (fun h96_14 => ?_) (fun h96_14 => ?_)
    · refine qa_ic (nx := 35) (v := (-1)) at_96_34 (by decide) rfl ?_
      refine qa_ret at_96_35 rfl ?_
      show qa _ 144 0 [(0, .ref _), (1, .int _), (2, .int _)] [] _ _
      have hbad : ¬ σ 40 0 2 = 0 → ¬ bi (0 ≤ x ∧ x < σ 40 0 0) = 0 → ¬ bi (nI 0 ≤ y ∧ y ≤ nI 7) = 0 → False := by
        intro a1 a2 a3
        have b2 := bi_n a2; have b3 := bi_n a3
        rw [ho'] at a1; rw [h40] at b2
        obtain ⟨s, hs, rfl⟩ := iz_of (by decide) b3
        first | exact bi_z h96_14 (ix_in (by decide) (by omega)) | exact bi_z h96_5 ⟨a1, by rw [h04]; exact b2⟩
      refine qa_s (pc' := 1) at_144_0 rfl rfl rfl ?_
      refine qa_getI (nx := 4) at_144_1 rfl (by decide) rfl rfl (by decide) ?_
      refine qa_if_eq (tg := 39) (nx := 7) at_144_4 rfl rfl (fun h144_4 => ?_) (fun h144_4 => ?_)
      · refine qa_ic (nx := 40) (v := (-1)) at_144_39 (by decide) rfl ?_
        refine qa_ret at_144_40 rfl ?_
        exact ⟨_, rfl, rfl, T, hR⟩
      · refine qa_s (pc' := 8) at_144_7 rfl rfl rfl ?_
        refine qa_s (pc' := 9) at_144_8 rfl rfl rfl ?_
        refine qa_callV (nx := 12) at_144_9 rfl rfl (Nat.le_of_ble_eq_true rfl) rfl rfl rfl (by decide) rfl (by decide) ?_
        show qa _ 103 0 [(0, .ref _), (1, .int _)] [] _ _
        refine c103_q ?_
        show qa _ 144 12 _ [.int _] _ _
        refine qa_if_eq (tg := 39) (nx := 15) at_144_12 rfl rfl (fun h144_12 => ?_) (fun h144_12 => ?_)
        · refine qa_ic (nx := 40) (v := (-1)) at_144_39 (by decide) rfl ?_
          refine qa_ret at_144_40 rfl ?_
          exact ⟨_, rfl, rfl, T, hR⟩
        · refine qa_s (pc' := 16) at_144_15 rfl rfl rfl ?_
          refine qa_ic (nx := 17) (v := nI 0) at_144_16 (by decide) rfl ?_
          refine qa_bi (nx := 19) (v := nI 7) at_144_17 (by decide) rfl ?_
          refine qa_callS (nx := 22) at_144_19 rfl rfl (Nat.le_of_ble_eq_true rfl) rfl rfl (by decide) rfl ?_
          show qa _ 101 0 [(0, .int _), (1, .int _), (2, .int _)] [] _ _
          refine c101_q ?_
          show qa _ 144 22 _ [.int _] _ _
          refine qa_if_eq (tg := 39) (nx := 25) at_144_22 rfl rfl (fun h144_22 => ?_) (fun h144_22 => ?_)
          · refine qa_ic (nx := 40) (v := (-1)) at_144_39 (by decide) rfl ?_
            refine qa_ret at_144_40 rfl ?_
            exact ⟨_, rfl, rfl, T, hR⟩
          · exact absurd (show False from hbad h144_4 h144_12 h144_22) id
    · have hq := bi_n h96_14
      obtain ⟨i, hi, rfl⟩ := ix_of (by omega) hp.2
      obtain ⟨s, hs, rfl⟩ := ix_of (by decide) hq
      refine qa_s (pc' := 18) at_96_17 rfl rfl rfl ?_
      refine qa_getR (nx := 21) at_96_18 rfl (by decide) rfl rfl (by decide) ?_
      refine qa_getR (nx := 24) at_96_21 rfl (by decide) rfl rfl (by decide) ?_
      refine qa_s (pc' := 25) at_96_24 rfl rfl rfl ?_
      refine qa_aald (nx := 26) (k := i) at_96_25 (by decide) rfl rfl (by decide) rfl (show i < 5 by omega) ?_
      refine qa_getR (nx := 29) at_96_26 rfl (by decide) rfl rfl (show _ < 5 by omega) ?_
      refine qa_s (pc' := 30) at_96_29 rfl rfl rfl ?_
      refine qa_iald (nx := 31) (k := s) at_96_30 rfl rfl rfl (show _ < 5 by omega) rfl (show s < 8 by omega) ?_
      refine qa_goto (nx := 35) at_96_31 rfl ?_
      refine qa_ret at_96_35 rfl ?_
      show qa _ 144 0 [(0, .ref _), (1, .int _), (2, .int _)] [] _ _
      refine qa_s (pc' := 1) at_144_0 rfl rfl rfl ?_
      refine qa_getI (nx := 4) at_144_1 rfl (by decide) rfl rfl (by decide) ?_
      refine qa_if_eq (tg := 39) (nx := 7) at_144_4 rfl rfl (fun h144_4 => ?_) (fun h144_4 => ?_)
      · exact absurd (ho' ▸ h144_4) hp.1
      · refine qa_s (pc' := 8) at_144_7 rfl rfl rfl ?_
        refine qa_s (pc' := 9) at_144_8 rfl rfl rfl ?_
        refine qa_callV (nx := 12) at_144_9 rfl rfl (Nat.le_of_ble_eq_true rfl) rfl rfl rfl (by decide) rfl (by decide) ?_
        show qa _ 103 0 [(0, .ref _), (1, .int _)] [] _ _
        refine c103_q ?_
        show qa _ 144 12 _ [.int _] _ _
        refine qa_if_eq (tg := 39) (nx := 15) at_144_12 rfl rfl (fun h144_12 => ?_) (fun h144_12 => ?_)
        · exact absurd (by rw [h40]; exact ix_in (by omega) hi) (bi_z h144_12)
        · refine qa_s (pc' := 16) at_144_15 rfl rfl rfl ?_
          refine qa_ic (nx := 17) (v := nI 0) at_144_16 (by decide) rfl ?_
          refine qa_bi (nx := 19) (v := nI 7) at_144_17 (by decide) rfl ?_
          refine qa_callS (nx := 22) at_144_19 rfl rfl (Nat.le_of_ble_eq_true rfl) rfl rfl (by decide) rfl ?_
          show qa _ 101 0 [(0, .int _), (1, .int _), (2, .int _)] [] _ _
          refine c101_q ?_
          show qa _ 144 22 _ [.int _] _ _
          refine qa_if_eq (tg := 39) (nx := 25) at_144_22 rfl rfl (fun h144_22 => ?_) (fun h144_22 => ?_)
          · exact absurd (iz_in (by decide) (by omega)) (bi_z h144_22)
          · refine qa_s (pc' := 26) at_144_25 rfl rfl rfl ?_
            refine qa_getR (nx := 29) at_144_26 rfl (by decide) rfl rfl (by decide) ?_
            refine qa_bi (nx := 31) (v := nI 8) at_144_29 (by decide) rfl ?_
            refine qa_s (pc' := 32) at_144_31 rfl rfl rfl ?_
            refine qa_mulN (nx := 33) at_144_32 rfl ?_
            refine qa_s (pc' := 34) at_144_33 rfl rfl rfl ?_
            refine qa_addN (nx := 35) at_144_34 rfl ?_
            refine qa_iald (nx := 36) (k := (8 * i) + s) at_144_35 rfl rfl rfl (by decide) rfl (show (8 * i) + s < 40 by omega) ?_
            refine qa_goto (nx := 40) at_144_36 rfl ?_
            refine qa_ret at_144_40 rfl ?_
            exact ⟨_, rfl, by rw [((hRR (z1 ho hp.1)).2.2.2.2.2.2.2.2.2.2.2.1 i hi).1 s hs], T, hR⟩
end PP
