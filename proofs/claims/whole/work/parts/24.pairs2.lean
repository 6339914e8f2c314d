/-! ceiling, state, entry; halt, input, signal. -/
section PQ
variable {cst : List (List Int32)} {σ : sg} {T : Nat}
theorem p_ceiling (hR : Rel T σ) (x : Int32) : pair cst 51 125 [.int x] σ := by
  obtain ⟨hA, hTt, hI, hP, hF, hJ, hRR⟩ := id hR
  obtain ⟨h5, h04, h40, hf, hf', ho, ho', hm, hof⟩ := id hA
  show qa cst 51 0 [(0, .ref (cl 0 0)), (1, .int x)] [] σ _
  refine qa_s (pc' := 1) at_51_0 rfl rfl rfl ?_
  refine qa_getR (nx := 4) at_51_1 rfl (by decide) rfl rfl (by decide) ?_
  refine qa_getI (nx := 7) at_51_4 rfl (by decide) rfl rfl (by decide) ?_
  refine qa_if_eq (tg := 30) (nx := 10) at_51_7 rfl rfl (fun h51_7 => ?_) (fun h51_7 => ?_)
  · refine qa_ic (nx := 31) (v := (-1)) at_51_30 (by decide) rfl ?_
    refine qa_ret at_51_31 rfl ?_
    show qa _ 125 0 [(0, .ref _), (1, .int _)] [] _ _
    have hbad : ¬ σ 40 0 1 = 0 → ¬ bi (nI 0 ≤ x ∧ x ≤ nI 3) = 0 → False := by
      intro a1 a3
      rw [hf'] at a1
      obtain ⟨s, hs, rfl⟩ := iz_of (by decide) (bi_n a3)
      first | exact a1 h51_7 | exact bi_z h51_15 (ix_in (by decide) (by omega))
    refine qa_s (pc' := 1) at_125_0 rfl rfl rfl ?_
    refine qa_getI (nx := 4) at_125_1 rfl (by decide) rfl rfl (by decide) ?_
    refine qa_if_eq (tg := 25) (nx := 7) at_125_4 rfl rfl (fun h125_4 => ?_) (fun h125_4 => ?_)
    · refine qa_ic (nx := 26) (v := (-1)) at_125_25 (by decide) rfl ?_
      refine qa_ret at_125_26 rfl ?_
      exact ⟨_, rfl, rfl, T, hR⟩
    · refine qa_s (pc' := 8) at_125_7 rfl rfl rfl ?_
      refine qa_ic (nx := 9) (v := nI 0) at_125_8 (by decide) rfl ?_
      refine qa_ic (nx := 10) (v := nI 3) at_125_9 (by decide) rfl ?_
      refine qa_callS (nx := 13) at_125_10 rfl rfl (Nat.le_of_ble_eq_true rfl) rfl rfl (by decide) rfl ?_
      show qa _ 101 0 [(0, .int _), (1, .int _), (2, .int _)] [] _ _
      refine c101_q ?_
      show qa _ 125 13 _ [.int _] _ _
      refine qa_if_eq (tg := 25) (nx := 16) at_125_13 rfl rfl (fun h125_13 => ?_) (fun h125_13 => ?_)
      · refine qa_ic (nx := 26) (v := (-1)) at_125_25 (by decide) rfl ?_
        refine qa_ret at_125_26 rfl ?_
        exact ⟨_, rfl, rfl, T, hR⟩
      · exact (hbad h125_4 h125_13).elim
  · refine qa_s (pc' := 11) at_51_10 rfl rfl rfl ?_
    refine qa_ic (nx := 12) (v := nI 4) at_51_11 (by decide) rfl ?_
    refine qa_callS (nx := 15) at_51_12 rfl rfl (Nat.le_of_ble_eq_true rfl) rfl rfl (by decide) rfl ?_
    show qa _ 15 0 [(0, .int _), (1, .int _)] [] _ _
    refine c15_q ?_
    show qa _ 51 15 _ [.int _] _ _
    refine qa_if_eq (tg := 30) (nx := 18) at_51_15 rfl rfl (fun h51_15 => ?_) (fun h51_15 => ?_)
    · refine qa_ic (nx := 31) (v := (-1)) at_51_30 (by decide) rfl ?_
      refine qa_ret at_51_31 rfl ?_
      show qa _ 125 0 [(0, .ref _), (1, .int _)] [] _ _
      have hbad : ¬ σ 40 0 1 = 0 → ¬ bi (nI 0 ≤ x ∧ x ≤ nI 3) = 0 → False := by
        intro a1 a3
        rw [hf'] at a1
        obtain ⟨s, hs, rfl⟩ := iz_of (by decide) (bi_n a3)
        first | exact a1 h51_7 | exact bi_z h51_15 (ix_in (by decide) (by omega))
      refine qa_s (pc' := 1) at_125_0 rfl rfl rfl ?_
      refine qa_getI (nx := 4) at_125_1 rfl (by decide) rfl rfl (by decide) ?_
      refine qa_if_eq (tg := 25) (nx := 7) at_125_4 rfl rfl (fun h125_4 => ?_) (fun h125_4 => ?_)
      · refine qa_ic (nx := 26) (v := (-1)) at_125_25 (by decide) rfl ?_
        refine qa_ret at_125_26 rfl ?_
        exact ⟨_, rfl, rfl, T, hR⟩
      · refine qa_s (pc' := 8) at_125_7 rfl rfl rfl ?_
        refine qa_ic (nx := 9) (v := nI 0) at_125_8 (by decide) rfl ?_
        refine qa_ic (nx := 10) (v := nI 3) at_125_9 (by decide) rfl ?_
        refine qa_callS (nx := 13) at_125_10 rfl rfl (Nat.le_of_ble_eq_true rfl) rfl rfl (by decide) rfl ?_
        show qa _ 101 0 [(0, .int _), (1, .int _), (2, .int _)] [] _ _
        refine c101_q ?_
        show qa _ 125 13 _ [.int _] _ _
        refine qa_if_eq (tg := 25) (nx := 16) at_125_13 rfl rfl (fun h125_13 => ?_) (fun h125_13 => ?_)
        · refine qa_ic (nx := 26) (v := (-1)) at_125_25 (by decide) rfl ?_
          refine qa_ret at_125_26 rfl ?_
          exact ⟨_, rfl, rfl, T, hR⟩
        · exact (hbad h125_4 h125_13).elim
    · have hq := bi_n h51_15
      obtain ⟨s, hs, rfl⟩ := ix_of (by decide) hq
      refine qa_s (pc' := 19) at_51_18 rfl rfl rfl ?_
      refine qa_getR (nx := 22) at_51_19 rfl (by decide) rfl rfl (by decide) ?_
      refine qa_getR (nx := 25) at_51_22 rfl (by decide) rfl rfl (by decide) ?_
      refine qa_s (pc' := 26) at_51_25 rfl rfl rfl ?_
      refine qa_iald (nx := 27) (k := s) at_51_26 rfl rfl rfl (by decide) rfl (show s < 4 by omega) ?_
      refine qa_goto (nx := 31) at_51_27 rfl ?_
      refine qa_ret at_51_31 rfl ?_
      show qa _ 125 0 [(0, .ref _), (1, .int _)] [] _ _
      refine qa_s (pc' := 1) at_125_0 rfl rfl rfl ?_
      refine qa_getI (nx := 4) at_125_1 rfl (by decide) rfl rfl (by decide) ?_
      refine qa_if_eq (tg := 25) (nx := 7) at_125_4 rfl rfl (fun h125_4 => ?_) (fun h125_4 => ?_)
      · exact absurd (hf' ▸ h125_4) h51_7
      · refine qa_s (pc' := 8) at_125_7 rfl rfl rfl ?_
        refine qa_ic (nx := 9) (v := nI 0) at_125_8 (by decide) rfl ?_
        refine qa_ic (nx := 10) (v := nI 3) at_125_9 (by decide) rfl ?_
        refine qa_callS (nx := 13) at_125_10 rfl rfl (Nat.le_of_ble_eq_true rfl) rfl rfl (by decide) rfl ?_
        show qa _ 101 0 [(0, .int _), (1, .int _), (2, .int _)] [] _ _
        refine c101_q ?_
        show qa _ 125 13 _ [.int _] _ _
        refine qa_if_eq (tg := 25) (nx := 16) at_125_13 rfl rfl (fun h125_13 => ?_) (fun h125_13 => ?_)
        · exact absurd (iz_in (by decide) (by omega)) (bi_z h125_13)
        · refine qa_s (pc' := 17) at_125_16 rfl rfl rfl ?_
          refine qa_getR (nx := 20) at_125_17 rfl (by decide) rfl rfl (by decide) ?_
          refine qa_s (pc' := 21) at_125_20 rfl rfl rfl ?_
          refine qa_iald (nx := 22) (k := s) at_125_21 rfl rfl rfl (by decide) rfl (show s < 4 by omega) ?_
          refine qa_goto (nx := 26) at_125_22 rfl ?_
          refine qa_ret at_125_26 rfl ?_
          exact ⟨_, rfl, by rw [(hF (z1 hf h51_7)).2.1 s hs], T, hR⟩
theorem p_state (hR : Rel T σ) (x : Int32) : pair cst 91 141 [.int x] σ := by
  obtain ⟨hA, hTt, hI, hP, hF, hJ, hRR⟩ := id hR
  obtain ⟨h5, h04, h40, hf, hf', ho, ho', hm, hof⟩ := id hA
  show qa cst 91 0 [(0, .ref (cl 0 0)), (1, .int x)] [] σ _
  refine qa_s (pc' := 1) at_91_0 rfl rfl rfl ?_
  refine qa_getR (nx := 4) at_91_1 rfl (by decide) rfl rfl (by decide) ?_
  refine qa_getI (nx := 7) at_91_4 rfl (by decide) rfl rfl (by decide) ?_
  refine qa_if_eq (tg := 21) (nx := 10) at_91_7 rfl rfl (fun h91_7 => ?_) (fun h91_7 => ?_)
  · refine qa_ic (nx := 22) (v := (-1)) at_91_21 (by decide) rfl ?_
    refine qa_ret at_91_22 rfl ?_
    show qa _ 141 0 [(0, .ref _), (1, .int _)] [] _ _
    have hbad : ¬ σ 40 0 2 = 0 → ¬ bi (nI 0 ≤ x ∧ x ≤ nI 6) = 0 → False := by
      intro a1 a3
      rw [ho'] at a1
      obtain ⟨s, hs, rfl⟩ := iz_of (by decide) (bi_n a3)
      first | exact a1 h91_7 | (rw [nI_toInt (by omega)] at hsw; omega)
    refine qa_s (pc' := 1) at_141_0 rfl rfl rfl ?_
    refine qa_getI (nx := 4) at_141_1 rfl (by decide) rfl rfl (by decide) ?_
    refine qa_if_eq (tg := 17) (nx := 7) at_141_4 rfl rfl (fun h141_4 => ?_) (fun h141_4 => ?_)
    · refine qa_ic (nx := 18) (v := (-1)) at_141_17 (by decide) rfl ?_
      refine qa_ret at_141_18 rfl ?_
      exact ⟨_, rfl, rfl, T, hR⟩
    · refine qa_s (pc' := 8) at_141_7 rfl rfl rfl ?_
      refine qa_ic (nx := 9) (v := nI 0) at_141_8 (by decide) rfl ?_
      refine qa_bi (nx := 11) (v := nI 6) at_141_9 (by decide) rfl ?_
      refine qa_callS (nx := 14) at_141_11 rfl rfl (Nat.le_of_ble_eq_true rfl) rfl rfl (by decide) rfl ?_
      show qa _ 101 0 [(0, .int _), (1, .int _), (2, .int _)] [] _ _
      refine c101_q ?_
      show qa _ 141 14 _ [.int _] _ _
      refine qa_if_ne (tg := 19) (nx := 17) at_141_14 rfl rfl (fun h141_14 => ?_) (fun h141_14 => ?_)
      · exact (hbad h141_4 h141_14).elim
      · refine qa_ic (nx := 18) (v := (-1)) at_141_17 (by decide) rfl ?_
        refine qa_ret at_141_18 rfl ?_
        exact ⟨_, rfl, rfl, T, hR⟩
  · obtain ⟨q6, q22, q23, q24, q25, q26, q27, q28, q29, qp, qm, qt, qh⟩ := hRR (z1 ho h91_7)
    refine qa_s (pc' := 11) at_91_10 rfl rfl rfl ?_
    refine qa_getR (nx := 14) at_91_11 rfl (by decide) rfl rfl (by decide) ?_
    refine qa_s (pc' := 15) at_91_14 rfl rfl rfl ?_
    refine qa_callV (nx := 18) at_91_15 rfl rfl (Nat.le_of_ble_eq_true rfl) rfl rfl rfl (by decide) rfl (by decide) ?_
    show qa _ 92 0 [(0, .ref _), (1, .int _)] [] _ _
    refine qa_s (pc' := 1) at_92_0 rfl rfl rfl ?_
    by_cases hsw : x.toInt < 0 ∨ 6 < x.toInt
    · refine qa_swo (nx := 82) at_92_1 hsw rfl ?_
      refine qa_ic (nx := 83) (v := (-1)) at_92_82 (by decide) rfl ?_
      refine qa_ret at_92_83 rfl ?_
      show qa _ 91 18 _ [.int _] _ _
      refine qa_goto (nx := 22) at_91_18 rfl ?_
      refine qa_ret at_91_22 rfl ?_
      show qa _ 141 0 [(0, .ref _), (1, .int _)] [] _ _
      have hbad : ¬ σ 40 0 2 = 0 → ¬ bi (nI 0 ≤ x ∧ x ≤ nI 6) = 0 → False := by
        intro a1 a3
        rw [ho'] at a1
        obtain ⟨s, hs, rfl⟩ := iz_of (by decide) (bi_n a3)
        first | exact a1 h91_7 | (rw [nI_toInt (by omega)] at hsw; omega)
      refine qa_s (pc' := 1) at_141_0 rfl rfl rfl ?_
      refine qa_getI (nx := 4) at_141_1 rfl (by decide) rfl rfl (by decide) ?_
      refine qa_if_eq (tg := 17) (nx := 7) at_141_4 rfl rfl (fun h141_4 => ?_) (fun h141_4 => ?_)
      · refine qa_ic (nx := 18) (v := (-1)) at_141_17 (by decide) rfl ?_
        refine qa_ret at_141_18 rfl ?_
        exact ⟨_, rfl, rfl, T, hR⟩
      · refine qa_s (pc' := 8) at_141_7 rfl rfl rfl ?_
        refine qa_ic (nx := 9) (v := nI 0) at_141_8 (by decide) rfl ?_
        refine qa_bi (nx := 11) (v := nI 6) at_141_9 (by decide) rfl ?_
        refine qa_callS (nx := 14) at_141_11 rfl rfl (Nat.le_of_ble_eq_true rfl) rfl rfl (by decide) rfl ?_
        show qa _ 101 0 [(0, .int _), (1, .int _), (2, .int _)] [] _ _
        refine c101_q ?_
        show qa _ 141 14 _ [.int _] _ _
        refine qa_if_ne (tg := 19) (nx := 17) at_141_14 rfl rfl (fun h141_14 => ?_) (fun h141_14 => ?_)
        · exact (hbad h141_4 h141_14).elim
        · refine qa_ic (nx := 18) (v := (-1)) at_141_17 (by decide) rfl ?_
          refine qa_ret at_141_18 rfl ?_
          exact ⟨_, rfl, rfl, T, hR⟩
    · obtain ⟨jsw, hjl, rfl⟩ := sw_of (n := 6) (by decide) (by simpa using hsw)
      have hjc : jsw = 0 ∨ jsw = 1 ∨ jsw = 2 ∨ jsw = 3 ∨ jsw = 4 ∨ jsw = 5 ∨ jsw = 6 := by omega
      rcases hjc with rfl | rfl | rfl | rfl | rfl | rfl | rfl
      · refine qa_swi (nx := 44) at_92_1 (by decide +kernel) (show _ = some (43) by decide +kernel) rfl ?_
        refine qa_s (pc' := 45) at_92_44 rfl rfl rfl ?_
        refine qa_getI (nx := 48) at_92_45 rfl (by decide) rfl rfl (by decide) ?_
        refine qa_ret at_92_48 rfl ?_
        show qa _ 91 18 _ [.int _] _ _
        refine qa_goto (nx := 22) at_91_18 rfl ?_
        refine qa_ret at_91_22 rfl ?_
        show qa _ 141 0 [(0, .ref _), (1, .int _)] [] _ _
        refine qa_s (pc' := 1) at_141_0 rfl rfl rfl ?_
        refine qa_getI (nx := 4) at_141_1 rfl (by decide) rfl rfl (by decide) ?_
        refine qa_if_eq (tg := 17) (nx := 7) at_141_4 rfl rfl (fun h141_4 => ?_) (fun h141_4 => ?_)
        · exact absurd (ho' ▸ h141_4) h91_7
        · refine qa_s (pc' := 8) at_141_7 rfl rfl rfl ?_
          refine qa_ic (nx := 9) (v := nI 0) at_141_8 (by decide) rfl ?_
          refine qa_bi (nx := 11) (v := nI 6) at_141_9 (by decide) rfl ?_
          refine qa_callS (nx := 14) at_141_11 rfl rfl (Nat.le_of_ble_eq_true rfl) rfl rfl (by decide) rfl ?_
          show qa _ 101 0 [(0, .int _), (1, .int _), (2, .int _)] [] _ _
          refine c101_q ?_
          show qa _ 141 14 _ [.int _] _ _
          refine qa_if_ne (tg := 19) (nx := 17) at_141_14 rfl rfl (fun h141_14 => ?_) (fun h141_14 => ?_)
          · refine qa_s (pc' := 20) at_141_19 rfl rfl rfl ?_
            refine qn_if_ne (tg := 30) (nx := 23) at_141_20 rfl rfl (by decide) (fun h => absurd h (by decide)) (fun h141_20 => ?_)
            refine qa_s (pc' := 24) at_141_23 rfl rfl rfl ?_
            refine qa_getI (nx := 27) at_141_24 rfl (by decide) rfl rfl (by decide) ?_
            refine qa_goto (nx := 94) at_141_27 rfl ?_
            refine qa_ret at_141_94 rfl ?_
            exact ⟨_, rfl, by simp only [q22, q23, q25, q26, q27, q28, q29], T, hR⟩
          · exact absurd h141_14 (by decide +kernel)
      · refine qa_swi (nx := 49) at_92_1 (by decide +kernel) (show _ = some (48) by decide +kernel) rfl ?_
        refine qa_s (pc' := 50) at_92_49 rfl rfl rfl ?_
        refine qa_getI (nx := 53) at_92_50 rfl (by decide) rfl rfl (by decide) ?_
        refine qa_ret at_92_53 rfl ?_
        show qa _ 91 18 _ [.int _] _ _
        refine qa_goto (nx := 22) at_91_18 rfl ?_
        refine qa_ret at_91_22 rfl ?_
        show qa _ 141 0 [(0, .ref _), (1, .int _)] [] _ _
        refine qa_s (pc' := 1) at_141_0 rfl rfl rfl ?_
        refine qa_getI (nx := 4) at_141_1 rfl (by decide) rfl rfl (by decide) ?_
        refine qa_if_eq (tg := 17) (nx := 7) at_141_4 rfl rfl (fun h141_4 => ?_) (fun h141_4 => ?_)
        · exact absurd (ho' ▸ h141_4) h91_7
        · refine qa_s (pc' := 8) at_141_7 rfl rfl rfl ?_
          refine qa_ic (nx := 9) (v := nI 0) at_141_8 (by decide) rfl ?_
          refine qa_bi (nx := 11) (v := nI 6) at_141_9 (by decide) rfl ?_
          refine qa_callS (nx := 14) at_141_11 rfl rfl (Nat.le_of_ble_eq_true rfl) rfl rfl (by decide) rfl ?_
          show qa _ 101 0 [(0, .int _), (1, .int _), (2, .int _)] [] _ _
          refine c101_q ?_
          show qa _ 141 14 _ [.int _] _ _
          refine qa_if_ne (tg := 19) (nx := 17) at_141_14 rfl rfl (fun h141_14 => ?_) (fun h141_14 => ?_)
          · refine qa_s (pc' := 20) at_141_19 rfl rfl rfl ?_
            refine qn_if_ne (tg := 30) (nx := 23) at_141_20 rfl rfl (by decide) (fun h141_20 => ?_) (fun h => absurd h (by decide))
            refine qa_s (pc' := 31) at_141_30 rfl rfl rfl ?_
            refine qa_ic (nx := 32) (v := nI 1) at_141_31 (by decide) rfl ?_
            refine qn_icmp_ne (tg := 42) (nx := 35) at_141_32 rfl rfl (by decide) (by decide) (fun h => absurd h (by decide)) (fun h141_32 => ?_)
            refine qa_s (pc' := 36) at_141_35 rfl rfl rfl ?_
            refine qa_getI (nx := 39) at_141_36 rfl (by decide) rfl rfl (by decide) ?_
            refine qa_goto (nx := 94) at_141_39 rfl ?_
            refine qa_ret at_141_94 rfl ?_
            exact ⟨_, rfl, by simp only [q22, q23, q25, q26, q27, q28, q29], T, hR⟩
          · exact absurd h141_14 (by decide +kernel)
      · refine qa_swi (nx := 54) at_92_1 (by decide +kernel) (show _ = some (53) by decide +kernel) rfl ?_
        refine qa_s (pc' := 55) at_92_54 rfl rfl rfl ?_
        refine qa_getI (nx := 58) at_92_55 rfl (by decide) rfl rfl (by decide) ?_
        refine qa_ret at_92_58 rfl ?_
        show qa _ 91 18 _ [.int _] _ _
        refine qa_goto (nx := 22) at_91_18 rfl ?_
        refine qa_ret at_91_22 rfl ?_
        show qa _ 141 0 [(0, .ref _), (1, .int _)] [] _ _
        refine qa_s (pc' := 1) at_141_0 rfl rfl rfl ?_
        refine qa_getI (nx := 4) at_141_1 rfl (by decide) rfl rfl (by decide) ?_
        refine qa_if_eq (tg := 17) (nx := 7) at_141_4 rfl rfl (fun h141_4 => ?_) (fun h141_4 => ?_)
        · exact absurd (ho' ▸ h141_4) h91_7
        · refine qa_s (pc' := 8) at_141_7 rfl rfl rfl ?_
          refine qa_ic (nx := 9) (v := nI 0) at_141_8 (by decide) rfl ?_
          refine qa_bi (nx := 11) (v := nI 6) at_141_9 (by decide) rfl ?_
          refine qa_callS (nx := 14) at_141_11 rfl rfl (Nat.le_of_ble_eq_true rfl) rfl rfl (by decide) rfl ?_
          show qa _ 101 0 [(0, .int _), (1, .int _), (2, .int _)] [] _ _
          refine c101_q ?_
          show qa _ 141 14 _ [.int _] _ _
          refine qa_if_ne (tg := 19) (nx := 17) at_141_14 rfl rfl (fun h141_14 => ?_) (fun h141_14 => ?_)
          · refine qa_s (pc' := 20) at_141_19 rfl rfl rfl ?_
            refine qn_if_ne (tg := 30) (nx := 23) at_141_20 rfl rfl (by decide) (fun h141_20 => ?_) (fun h => absurd h (by decide))
            refine qa_s (pc' := 31) at_141_30 rfl rfl rfl ?_
            refine qa_ic (nx := 32) (v := nI 1) at_141_31 (by decide) rfl ?_
            refine qn_icmp_ne (tg := 42) (nx := 35) at_141_32 rfl rfl (by decide) (by decide) (fun h141_32 => ?_) (fun h => absurd h (by decide))
            refine qa_s (pc' := 43) at_141_42 rfl rfl rfl ?_
            refine qa_ic (nx := 44) (v := nI 2) at_141_43 (by decide) rfl ?_
            refine qn_icmp_ne (tg := 54) (nx := 47) at_141_44 rfl rfl (by decide) (by decide) (fun h => absurd h (by decide)) (fun h141_44 => ?_)
            refine qa_s (pc' := 48) at_141_47 rfl rfl rfl ?_
            refine qa_getI (nx := 51) at_141_48 rfl (by decide) rfl rfl (by decide) ?_
            refine qa_goto (nx := 94) at_141_51 rfl ?_
            refine qa_ret at_141_94 rfl ?_
            exact ⟨_, rfl, by simp only [q22, q23, q25, q26, q27, q28, q29], T, hR⟩
          · exact absurd h141_14 (by decide +kernel)
      · refine qa_swi (nx := 59) at_92_1 (by decide +kernel) (show _ = some (58) by decide +kernel) rfl ?_
        refine qa_s (pc' := 60) at_92_59 rfl rfl rfl ?_
        refine qa_getR (nx := 63) at_92_60 rfl (by decide) rfl rfl (by decide) ?_
        refine qa_getI (nx := 66) at_92_63 rfl (by decide) rfl rfl (by decide) ?_
        refine qa_ret at_92_66 rfl ?_
        show qa _ 91 18 _ [.int _] _ _
        refine qa_goto (nx := 22) at_91_18 rfl ?_
        refine qa_ret at_91_22 rfl ?_
        show qa _ 141 0 [(0, .ref _), (1, .int _)] [] _ _
        refine qa_s (pc' := 1) at_141_0 rfl rfl rfl ?_
        refine qa_getI (nx := 4) at_141_1 rfl (by decide) rfl rfl (by decide) ?_
        refine qa_if_eq (tg := 17) (nx := 7) at_141_4 rfl rfl (fun h141_4 => ?_) (fun h141_4 => ?_)
        · exact absurd (ho' ▸ h141_4) h91_7
        · refine qa_s (pc' := 8) at_141_7 rfl rfl rfl ?_
          refine qa_ic (nx := 9) (v := nI 0) at_141_8 (by decide) rfl ?_
          refine qa_bi (nx := 11) (v := nI 6) at_141_9 (by decide) rfl ?_
          refine qa_callS (nx := 14) at_141_11 rfl rfl (Nat.le_of_ble_eq_true rfl) rfl rfl (by decide) rfl ?_
          show qa _ 101 0 [(0, .int _), (1, .int _), (2, .int _)] [] _ _
          refine c101_q ?_
          show qa _ 141 14 _ [.int _] _ _
          refine qa_if_ne (tg := 19) (nx := 17) at_141_14 rfl rfl (fun h141_14 => ?_) (fun h141_14 => ?_)
          · refine qa_s (pc' := 20) at_141_19 rfl rfl rfl ?_
            refine qn_if_ne (tg := 30) (nx := 23) at_141_20 rfl rfl (by decide) (fun h141_20 => ?_) (fun h => absurd h (by decide))
            refine qa_s (pc' := 31) at_141_30 rfl rfl rfl ?_
            refine qa_ic (nx := 32) (v := nI 1) at_141_31 (by decide) rfl ?_
            refine qn_icmp_ne (tg := 42) (nx := 35) at_141_32 rfl rfl (by decide) (by decide) (fun h141_32 => ?_) (fun h => absurd h (by decide))
            refine qa_s (pc' := 43) at_141_42 rfl rfl rfl ?_
            refine qa_ic (nx := 44) (v := nI 2) at_141_43 (by decide) rfl ?_
            refine qn_icmp_ne (tg := 54) (nx := 47) at_141_44 rfl rfl (by decide) (by decide) (fun h141_44 => ?_) (fun h => absurd h (by decide))
            refine qa_s (pc' := 55) at_141_54 rfl rfl rfl ?_
            refine qa_ic (nx := 56) (v := nI 3) at_141_55 (by decide) rfl ?_
            refine qn_icmp_ne (tg := 66) (nx := 59) at_141_56 rfl rfl (by decide) (by decide) (fun h => absurd h (by decide)) (fun h141_56 => ?_)
            refine qa_s (pc' := 60) at_141_59 rfl rfl rfl ?_
            refine qa_getI (nx := 63) at_141_60 rfl (by decide) rfl rfl (by decide) ?_
            refine qa_goto (nx := 94) at_141_63 rfl ?_
            refine qa_ret at_141_94 rfl ?_
            exact ⟨_, rfl, by simp only [q22, q23, q25, q26, q27, q28, q29], T, hR⟩
          · exact absurd h141_14 (by decide +kernel)
      · refine qa_swi (nx := 67) at_92_1 (by decide +kernel) (show _ = some (66) by decide +kernel) rfl ?_
        refine qa_s (pc' := 68) at_92_67 rfl rfl rfl ?_
        refine qa_getI (nx := 71) at_92_68 rfl (by decide) rfl rfl (by decide) ?_
        refine qa_ret at_92_71 rfl ?_
        show qa _ 91 18 _ [.int _] _ _
        refine qa_goto (nx := 22) at_91_18 rfl ?_
        refine qa_ret at_91_22 rfl ?_
        show qa _ 141 0 [(0, .ref _), (1, .int _)] [] _ _
        refine qa_s (pc' := 1) at_141_0 rfl rfl rfl ?_
        refine qa_getI (nx := 4) at_141_1 rfl (by decide) rfl rfl (by decide) ?_
        refine qa_if_eq (tg := 17) (nx := 7) at_141_4 rfl rfl (fun h141_4 => ?_) (fun h141_4 => ?_)
        · exact absurd (ho' ▸ h141_4) h91_7
        · refine qa_s (pc' := 8) at_141_7 rfl rfl rfl ?_
          refine qa_ic (nx := 9) (v := nI 0) at_141_8 (by decide) rfl ?_
          refine qa_bi (nx := 11) (v := nI 6) at_141_9 (by decide) rfl ?_
          refine qa_callS (nx := 14) at_141_11 rfl rfl (Nat.le_of_ble_eq_true rfl) rfl rfl (by decide) rfl ?_
          show qa _ 101 0 [(0, .int _), (1, .int _), (2, .int _)] [] _ _
          refine c101_q ?_
          show qa _ 141 14 _ [.int _] _ _
          refine qa_if_ne (tg := 19) (nx := 17) at_141_14 rfl rfl (fun h141_14 => ?_) (fun h141_14 => ?_)
          · refine qa_s (pc' := 20) at_141_19 rfl rfl rfl ?_
            refine qn_if_ne (tg := 30) (nx := 23) at_141_20 rfl rfl (by decide) (fun h141_20 => ?_) (fun h => absurd h (by decide))
            refine qa_s (pc' := 31) at_141_30 rfl rfl rfl ?_
            refine qa_ic (nx := 32) (v := nI 1) at_141_31 (by decide) rfl ?_
            refine qn_icmp_ne (tg := 42) (nx := 35) at_141_32 rfl rfl (by decide) (by decide) (fun h141_32 => ?_) (fun h => absurd h (by decide))
            refine qa_s (pc' := 43) at_141_42 rfl rfl rfl ?_
            refine qa_ic (nx := 44) (v := nI 2) at_141_43 (by decide) rfl ?_
            refine qn_icmp_ne (tg := 54) (nx := 47) at_141_44 rfl rfl (by decide) (by decide) (fun h141_44 => ?_) (fun h => absurd h (by decide))
            refine qa_s (pc' := 55) at_141_54 rfl rfl rfl ?_
            refine qa_ic (nx := 56) (v := nI 3) at_141_55 (by decide) rfl ?_
            refine qn_icmp_ne (tg := 66) (nx := 59) at_141_56 rfl rfl (by decide) (by decide) (fun h141_56 => ?_) (fun h => absurd h (by decide))
            refine qa_s (pc' := 67) at_141_66 rfl rfl rfl ?_
            refine qa_ic (nx := 68) (v := nI 4) at_141_67 (by decide) rfl ?_
            refine qn_icmp_ne (tg := 78) (nx := 71) at_141_68 rfl rfl (by decide) (by decide) (fun h => absurd h (by decide)) (fun h141_68 => ?_)
            refine qa_s (pc' := 72) at_141_71 rfl rfl rfl ?_
            refine qa_getI (nx := 75) at_141_72 rfl (by decide) rfl rfl (by decide) ?_
            refine qa_goto (nx := 94) at_141_75 rfl ?_
            refine qa_ret at_141_94 rfl ?_
            exact ⟨_, rfl, by simp only [q22, q23, q25, q26, q27, q28, q29], T, hR⟩
          · exact absurd h141_14 (by decide +kernel)
      · refine qa_swi (nx := 72) at_92_1 (by decide +kernel) (show _ = some (71) by decide +kernel) rfl ?_
        refine qa_s (pc' := 73) at_92_72 rfl rfl rfl ?_
        refine qa_getI (nx := 76) at_92_73 rfl (by decide) rfl rfl (by decide) ?_
        refine qa_ret at_92_76 rfl ?_
        show qa _ 91 18 _ [.int _] _ _
        refine qa_goto (nx := 22) at_91_18 rfl ?_
        refine qa_ret at_91_22 rfl ?_
        show qa _ 141 0 [(0, .ref _), (1, .int _)] [] _ _
        refine qa_s (pc' := 1) at_141_0 rfl rfl rfl ?_
        refine qa_getI (nx := 4) at_141_1 rfl (by decide) rfl rfl (by decide) ?_
        refine qa_if_eq (tg := 17) (nx := 7) at_141_4 rfl rfl (fun h141_4 => ?_) (fun h141_4 => ?_)
        · exact absurd (ho' ▸ h141_4) h91_7
        · refine qa_s (pc' := 8) at_141_7 rfl rfl rfl ?_
          refine qa_ic (nx := 9) (v := nI 0) at_141_8 (by decide) rfl ?_
          refine qa_bi (nx := 11) (v := nI 6) at_141_9 (by decide) rfl ?_
          refine qa_callS (nx := 14) at_141_11 rfl rfl (Nat.le_of_ble_eq_true rfl) rfl rfl (by decide) rfl ?_
          show qa _ 101 0 [(0, .int _), (1, .int _), (2, .int _)] [] _ _
          refine c101_q ?_
          show qa _ 141 14 _ [.int _] _ _
          refine qa_if_ne (tg := 19) (nx := 17) at_141_14 rfl rfl (fun h141_14 => ?_) (fun h141_14 => ?_)
          · refine qa_s (pc' := 20) at_141_19 rfl rfl rfl ?_
            refine qn_if_ne (tg := 30) (nx := 23) at_141_20 rfl rfl (by decide) (fun h141_20 => ?_) (fun h => absurd h (by decide))
            refine qa_s (pc' := 31) at_141_30 rfl rfl rfl ?_
            refine qa_ic (nx := 32) (v := nI 1) at_141_31 (by decide) rfl ?_
            refine qn_icmp_ne (tg := 42) (nx := 35) at_141_32 rfl rfl (by decide) (by decide) (fun h141_32 => ?_) (fun h => absurd h (by decide))
            refine qa_s (pc' := 43) at_141_42 rfl rfl rfl ?_
            refine qa_ic (nx := 44) (v := nI 2) at_141_43 (by decide) rfl ?_
            refine qn_icmp_ne (tg := 54) (nx := 47) at_141_44 rfl rfl (by decide) (by decide) (fun h141_44 => ?_) (fun h => absurd h (by decide))
            refine qa_s (pc' := 55) at_141_54 rfl rfl rfl ?_
            refine qa_ic (nx := 56) (v := nI 3) at_141_55 (by decide) rfl ?_
            refine qn_icmp_ne (tg := 66) (nx := 59) at_141_56 rfl rfl (by decide) (by decide) (fun h141_56 => ?_) (fun h => absurd h (by decide))
            refine qa_s (pc' := 67) at_141_66 rfl rfl rfl ?_
            refine qa_ic (nx := 68) (v := nI 4) at_141_67 (by decide) rfl ?_
            refine qn_icmp_ne (tg := 78) (nx := 71) at_141_68 rfl rfl (by decide) (by decide) (fun h141_68 => ?_) (fun h => absurd h (by decide))
            refine qa_s (pc' := 79) at_141_78 rfl rfl rfl ?_
            refine qa_ic (nx := 80) (v := nI 5) at_141_79 (by decide) rfl ?_
            refine qn_icmp_ne (tg := 90) (nx := 83) at_141_80 rfl rfl (by decide) (by decide) (fun h => absurd h (by decide)) (fun h141_80 => ?_)
            refine qa_s (pc' := 84) at_141_83 rfl rfl rfl ?_
            refine qa_getI (nx := 87) at_141_84 rfl (by decide) rfl rfl (by decide) ?_
            refine qa_goto (nx := 94) at_141_87 rfl ?_
            refine qa_ret at_141_94 rfl ?_
            exact ⟨_, rfl, by simp only [q22, q23, q25, q26, q27, q28, q29], T, hR⟩
          · exact absurd h141_14 (by decide +kernel)
      · refine qa_swi (nx := 77) at_92_1 (by decide +kernel) (show _ = some (76) by decide +kernel) rfl ?_
        refine qa_s (pc' := 78) at_92_77 rfl rfl rfl ?_
        refine qa_getI (nx := 81) at_92_78 rfl (by decide) rfl rfl (by decide) ?_
        refine qa_ret at_92_81 rfl ?_
        show qa _ 91 18 _ [.int _] _ _
        refine qa_goto (nx := 22) at_91_18 rfl ?_
        refine qa_ret at_91_22 rfl ?_
        show qa _ 141 0 [(0, .ref _), (1, .int _)] [] _ _
        refine qa_s (pc' := 1) at_141_0 rfl rfl rfl ?_
        refine qa_getI (nx := 4) at_141_1 rfl (by decide) rfl rfl (by decide) ?_
        refine qa_if_eq (tg := 17) (nx := 7) at_141_4 rfl rfl (fun h141_4 => ?_) (fun h141_4 => ?_)
        · exact absurd (ho' ▸ h141_4) h91_7
        · refine qa_s (pc' := 8) at_141_7 rfl rfl rfl ?_
          refine qa_ic (nx := 9) (v := nI 0) at_141_8 (by decide) rfl ?_
          refine qa_bi (nx := 11) (v := nI 6) at_141_9 (by decide) rfl ?_
          refine qa_callS (nx := 14) at_141_11 rfl rfl (Nat.le_of_ble_eq_true rfl) rfl rfl (by decide) rfl ?_
          show qa _ 101 0 [(0, .int _), (1, .int _), (2, .int _)] [] _ _
          refine c101_q ?_
          show qa _ 141 14 _ [.int _] _ _
          refine qa_if_ne (tg := 19) (nx := 17) at_141_14 rfl rfl (fun h141_14 => ?_) (fun h141_14 => ?_)
          · refine qa_s (pc' := 20) at_141_19 rfl rfl rfl ?_
            refine qn_if_ne (tg := 30) (nx := 23) at_141_20 rfl rfl (by decide) (fun h141_20 => ?_) (fun h => absurd h (by decide))
            refine qa_s (pc' := 31) at_141_30 rfl rfl rfl ?_
            refine qa_ic (nx := 32) (v := nI 1) at_141_31 (by decide) rfl ?_
            refine qn_icmp_ne (tg := 42) (nx := 35) at_141_32 rfl rfl (by decide) (by decide) (fun h141_32 => ?_) (fun h => absurd h (by decide))
            refine qa_s (pc' := 43) at_141_42 rfl rfl rfl ?_
            refine qa_ic (nx := 44) (v := nI 2) at_141_43 (by decide) rfl ?_
            refine qn_icmp_ne (tg := 54) (nx := 47) at_141_44 rfl rfl (by decide) (by decide) (fun h141_44 => ?_) (fun h => absurd h (by decide))
            refine qa_s (pc' := 55) at_141_54 rfl rfl rfl ?_
            refine qa_ic (nx := 56) (v := nI 3) at_141_55 (by decide) rfl ?_
            refine qn_icmp_ne (tg := 66) (nx := 59) at_141_56 rfl rfl (by decide) (by decide) (fun h141_56 => ?_) (fun h => absurd h (by decide))
            refine qa_s (pc' := 67) at_141_66 rfl rfl rfl ?_
            refine qa_ic (nx := 68) (v := nI 4) at_141_67 (by decide) rfl ?_
            refine qn_icmp_ne (tg := 78) (nx := 71) at_141_68 rfl rfl (by decide) (by decide) (fun h141_68 => ?_) (fun h => absurd h (by decide))
            refine qa_s (pc' := 79) at_141_78 rfl rfl rfl ?_
            refine qa_ic (nx := 80) (v := nI 5) at_141_79 (by decide) rfl ?_
            refine qn_icmp_ne (tg := 90) (nx := 83) at_141_80 rfl rfl (by decide) (by decide) (fun h141_80 => ?_) (fun h => absurd h (by decide))
            refine qa_s (pc' := 91) at_141_90 rfl rfl rfl ?_
            refine qa_getI (nx := 94) at_141_91 rfl (by decide) rfl rfl (by decide) ?_
            refine qa_ret at_141_94 rfl ?_
            exact ⟨_, rfl, by simp only [q22, q23, q25, q26, q27, q28, q29], T, hR⟩
          · exact absurd h141_14 (by decide +kernel)
end PQ
