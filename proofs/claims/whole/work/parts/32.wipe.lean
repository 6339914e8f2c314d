/-! wipe -/
section PQ
variable {cst : List (List Int32)} {σ : sg} {Q : Option Value → sg → Prop} {T : Nat}
abbrev wpC (σ : sg) (i : Nat) : sg := up (up (up (up σ 13 (3 * i + 0) 4 (nI 0)) 13 (3 * i + 1) 4 (nI 0)) 13 (3 * i + 2) 4 (nI 0)) 4 0 0 (nI 0)
abbrev wpM (σ : sg) (i : Nat) : sg := up (up (up (up σ 48 0 (3 * i + 0) (nI 0)) 48 0 (3 * i + 1) (nI 0)) 48 0 (3 * i + 2) (nI 0)) 40 0 1 (nI 0)
theorem c18_q {x : Int32} (h04 : σ 0 0 4 = nI T) (h5 : T ≤ 5) (k0 : ¬ (σ 18 0 0 = 0 ∧ (0 ≤ x ∧ x < nI T)) → Q (some (.int (nI 0))) σ) (k1 : ∀ i, σ 18 0 0 = 0 → i < T → x = nI i → Q (some (.int (nI 1))) (wpC σ i)) : qa cst 18 0 [(0, .ref (cl 0 0)), (1, .int x)] [] σ Q := by
  refine qa_s (pc' := 1) at_18_0 rfl rfl rfl ?_
  refine qa_getR (nx := 4) at_18_1 rfl (by decide) rfl rfl (by decide) ?_
  refine qa_getI (nx := 7) at_18_4 rfl (by decide) rfl rfl (by decide) ?_
  refine qa_if_ne (tg := 18) (nx := 10) at_18_7 rfl rfl (fun h18_7 => ?_) (fun h18_7 => ?_)
  · refine qa_ic (nx := 19) (v := nI 0) at_18_18 (by decide) rfl ?_
    refine qa_ret at_18_19 rfl ?_
    exact k0 (fun ⟨g0, g1⟩ => by first | exact h18_7 g0 | exact bi_z h18_15 (by rw [h04]; exact g1))
  · refine qa_s (pc' := 11) at_18_10 rfl rfl rfl ?_
    refine qa_s (pc' := 12) at_18_11 rfl rfl rfl ?_
    refine qa_callV (nx := 15) at_18_12 rfl rfl (Nat.le_of_ble_eq_true rfl) rfl rfl rfl (by decide) rfl (by decide) ?_
    show qa _ 14 0 [(0, .ref _), (1, .int _)] [] _ _
    refine c14_q ?_
    show qa _ 18 15 _ [.int _] _ _
    refine qa_if_ne (tg := 20) (nx := 18) at_18_15 rfl rfl (fun h18_15 => ?_) (fun h18_15 => ?_)
    · have hp := bi_n h18_15
      rw [h04] at hp
      obtain ⟨i, hi, rfl⟩ := ix_of (by omega) hp
      refine qa_s (pc' := 21) at_18_20 rfl rfl rfl ?_
      refine qa_getR (nx := 24) at_18_21 rfl (by decide) rfl rfl (by decide) ?_
      refine qa_s (pc' := 25) at_18_24 rfl rfl rfl ?_
      refine qa_aald (nx := 26) (k := i) at_18_25 (by decide) rfl rfl (by decide) rfl (show i < 5 by omega) ?_
      refine qa_callV (nx := 29) at_18_26 rfl rfl (Nat.le_of_ble_eq_true rfl) rfl rfl rfl (by decide) rfl (show _ < 5 by omega) ?_
      show qa _ 19 0 [(0, .ref _)] [] _ _
      refine qa_ic (nx := 1) (v := nI 0) at_19_0 (by decide) rfl ?_
      refine qa_s (pc' := 2) at_19_1 rfl rfl rfl ?_
      refine qa_s (pc' := 3) at_19_2 rfl rfl rfl ?_
      refine qa_ic (nx := 4) (v := nI 3) at_19_3 (by decide) rfl ?_
      refine qn_icmp_ge (tg := 23) (nx := 7) at_19_4 rfl rfl (by decide) (by decide) (fun h => absurd h (by decide)) (fun h19_4 => ?_)
      refine qa_s (pc' := 8) at_19_7 rfl rfl rfl ?_
      refine qa_getR (nx := 11) at_19_8 rfl (by decide) rfl rfl (show _ < 5 by omega) ?_
      refine qa_s (pc' := 12) at_19_11 rfl rfl rfl ?_
      refine qa_aald (nx := 13) (k := 0) at_19_12 (by decide) rfl rfl (show _ < 5 by omega) rfl (show 0 < 3 by omega) ?_
      refine qa_ic (nx := 14) (v := nI 0) at_19_13 (by decide) rfl ?_
      refine qa_put (nx := 17) at_19_14 rfl (by decide) rfl rfl rfl (show _ < 15 by omega) ?_
      refine qa_incN (nx := 20) (c := 1) at_19_17 (by decide) rfl rfl rfl ?_
      refine qa_goto (nx := 2) at_19_20 rfl ?_
      refine qa_s (pc' := 3) at_19_2 rfl rfl rfl ?_
      refine qa_ic (nx := 4) (v := nI 3) at_19_3 (by decide) rfl ?_
      refine qn_icmp_ge (tg := 23) (nx := 7) at_19_4 rfl rfl (by decide) (by decide) (fun h => absurd h (by decide)) (fun h19_4 => ?_)
      refine qa_s (pc' := 8) at_19_7 rfl rfl rfl ?_
      refine qa_getR (nx := 11) at_19_8 rfl (by decide) rfl rfl (show _ < 5 by omega) ?_
      refine qa_s (pc' := 12) at_19_11 rfl rfl rfl ?_
      refine qa_aald (nx := 13) (k := 1) at_19_12 (by decide) rfl rfl (show _ < 5 by omega) rfl (show 1 < 3 by omega) ?_
      refine qa_ic (nx := 14) (v := nI 0) at_19_13 (by decide) rfl ?_
      refine qa_put (nx := 17) at_19_14 rfl (by decide) rfl rfl rfl (show _ < 15 by omega) ?_
      refine qa_incN (nx := 20) (c := 1) at_19_17 (by decide) rfl rfl rfl ?_
      refine qa_goto (nx := 2) at_19_20 rfl ?_
      refine qa_s (pc' := 3) at_19_2 rfl rfl rfl ?_
      refine qa_ic (nx := 4) (v := nI 3) at_19_3 (by decide) rfl ?_
      refine qn_icmp_ge (tg := 23) (nx := 7) at_19_4 rfl rfl (by decide) (by decide) (fun h => absurd h (by decide)) (fun h19_4 => ?_)
      refine qa_s (pc' := 8) at_19_7 rfl rfl rfl ?_
      refine qa_getR (nx := 11) at_19_8 rfl (by decide) rfl rfl (show _ < 5 by omega) ?_
      refine qa_s (pc' := 12) at_19_11 rfl rfl rfl ?_
      refine qa_aald (nx := 13) (k := 2) at_19_12 (by decide) rfl rfl (show _ < 5 by omega) rfl (show 2 < 3 by omega) ?_
      refine qa_ic (nx := 14) (v := nI 0) at_19_13 (by decide) rfl ?_
      refine qa_put (nx := 17) at_19_14 rfl (by decide) rfl rfl rfl (show _ < 15 by omega) ?_
      refine qa_incN (nx := 20) (c := 1) at_19_17 (by decide) rfl rfl rfl ?_
      refine qa_goto (nx := 2) at_19_20 rfl ?_
      refine qa_s (pc' := 3) at_19_2 rfl rfl rfl ?_
      refine qa_ic (nx := 4) (v := nI 3) at_19_3 (by decide) rfl ?_
      refine qn_icmp_ge (tg := 23) (nx := 7) at_19_4 rfl rfl (by decide) (by decide) (fun h19_4 => ?_) (fun h => absurd h (by decide))
      refine qa_ret at_19_23 rfl ?_
      show qa _ 18 29 _ [] _ _
      refine qa_s (pc' := 30) at_18_29 rfl rfl rfl ?_
      refine qa_getR (nx := 33) at_18_30 rfl (by decide) rfl rfl (by decide) ?_
      refine qa_ic (nx := 34) (v := nI 0) at_18_33 (by decide) rfl ?_
      refine qa_put (nx := 37) at_18_34 rfl (by decide) rfl (by decide) rfl (by decide) ?_
      refine qa_ic (nx := 38) (v := nI 1) at_18_37 (by decide) rfl ?_
      refine qa_ret at_18_38 rfl ?_
      exact k1 i h18_7 hi rfl
    · refine qa_ic (nx := 19) (v := nI 0) at_18_18 (by decide) rfl ?_
      refine qa_ret at_18_19 rfl ?_
      exact k0 (fun ⟨g0, g1⟩ => by first | exact h18_7 g0 | exact bi_z h18_15 (by rw [h04]; exact g1))
theorem c105_q {x : Int32} (h40 : σ 40 0 0 = nI T) (h5 : T ≤ 5) (k0 : ¬ (σ 40 0 2 = 0 ∧ (0 ≤ x ∧ x < nI T)) → Q (some (.int (nI 0))) σ) (k1 : ∀ i, σ 40 0 2 = 0 → i < T → x = nI i → Q (some (.int (nI 1))) (wpM σ i)) : qa cst 105 0 [(0, .ref (cl 40 0)), (1, .int x)] [] σ Q := by
  refine qa_s (pc' := 1) at_105_0 rfl rfl rfl ?_
  refine qa_getI (nx := 4) at_105_1 rfl (by decide) rfl rfl (by decide) ?_
  refine qa_if_ne (tg := 15) (nx := 7) at_105_4 rfl rfl (fun h105_4 => ?_) (fun h105_4 => ?_)
  · refine qa_ic (nx := 16) (v := nI 0) at_105_15 (by decide) rfl ?_
    refine qa_ret at_105_16 rfl ?_
    exact k0 (fun ⟨g0, g1⟩ => by first | exact h105_4 g0 | exact bi_z h105_12 (by rw [h40]; exact g1))
  · refine qa_s (pc' := 8) at_105_7 rfl rfl rfl ?_
    refine qa_s (pc' := 9) at_105_8 rfl rfl rfl ?_
    refine qa_callV (nx := 12) at_105_9 rfl rfl (Nat.le_of_ble_eq_true rfl) rfl rfl rfl (by decide) rfl (by decide) ?_
    show qa _ 103 0 [(0, .ref _), (1, .int _)] [] _ _
    refine c103_q ?_
    show qa _ 105 12 _ [.int _] _ _
    refine qa_if_ne (tg := 17) (nx := 15) at_105_12 rfl rfl (fun h105_12 => ?_) (fun h105_12 => ?_)
    · have hp := bi_n h105_12
      rw [h40] at hp
      obtain ⟨i, hi, rfl⟩ := ix_of (by omega) hp
      refine qa_ic (nx := 18) (v := nI 0) at_105_17 (by decide) rfl ?_
      refine qa_s (pc' := 19) at_105_18 rfl rfl rfl ?_
      refine qa_s (pc' := 20) at_105_19 rfl rfl rfl ?_
      refine qa_ic (nx := 21) (v := nI 3) at_105_20 (by decide) rfl ?_
      refine qn_icmp_ge (tg := 41) (nx := 24) at_105_21 rfl rfl (by decide) (by decide) (fun h => absurd h (by decide)) (fun h105_21 => ?_)
      refine qa_s (pc' := 25) at_105_24 rfl rfl rfl ?_
      refine qa_getR (nx := 28) at_105_25 rfl (by decide) rfl rfl (by decide) ?_
      refine qa_ic (nx := 29) (v := nI 3) at_105_28 (by decide) rfl ?_
      refine qa_s (pc' := 30) at_105_29 rfl rfl rfl ?_
      refine qa_mulN (nx := 31) at_105_30 rfl ?_
      refine qa_s (pc' := 32) at_105_31 rfl rfl rfl ?_
      refine qa_addN (nx := 33) at_105_32 rfl ?_
      refine qa_ic (nx := 34) (v := nI 0) at_105_33 (by decide) rfl ?_
      refine qa_iast (nx := 35) (k := (3 * i) + 0) at_105_34 rfl rfl rfl (by decide) rfl (show (3 * i) + 0 < 15 by omega) ?_
      refine qa_incN (nx := 38) (c := 1) at_105_35 (by decide) rfl rfl rfl ?_
      refine qa_goto (nx := 19) at_105_38 rfl ?_
      refine qa_s (pc' := 20) at_105_19 rfl rfl rfl ?_
      refine qa_ic (nx := 21) (v := nI 3) at_105_20 (by decide) rfl ?_
      refine qn_icmp_ge (tg := 41) (nx := 24) at_105_21 rfl rfl (by decide) (by decide) (fun h => absurd h (by decide)) (fun h105_21 => ?_)
      refine qa_s (pc' := 25) at_105_24 rfl rfl rfl ?_
      refine qa_getR (nx := 28) at_105_25 rfl (by decide) rfl rfl (by decide) ?_
      refine qa_ic (nx := 29) (v := nI 3) at_105_28 (by decide) rfl ?_
      refine qa_s (pc' := 30) at_105_29 rfl rfl rfl ?_
      refine qa_mulN (nx := 31) at_105_30 rfl ?_
      refine qa_s (pc' := 32) at_105_31 rfl rfl rfl ?_
      refine qa_addN (nx := 33) at_105_32 rfl ?_
      refine qa_ic (nx := 34) (v := nI 0) at_105_33 (by decide) rfl ?_
      refine qa_iast (nx := 35) (k := (3 * i) + 1) at_105_34 rfl rfl rfl (by decide) rfl (show (3 * i) + 1 < 15 by omega) ?_
      refine qa_incN (nx := 38) (c := 1) at_105_35 (by decide) rfl rfl rfl ?_
      refine qa_goto (nx := 19) at_105_38 rfl ?_
      refine qa_s (pc' := 20) at_105_19 rfl rfl rfl ?_
      refine qa_ic (nx := 21) (v := nI 3) at_105_20 (by decide) rfl ?_
      refine qn_icmp_ge (tg := 41) (nx := 24) at_105_21 rfl rfl (by decide) (by decide) (fun h => absurd h (by decide)) (fun h105_21 => ?_)
      refine qa_s (pc' := 25) at_105_24 rfl rfl rfl ?_
      refine qa_getR (nx := 28) at_105_25 rfl (by decide) rfl rfl (by decide) ?_
      refine qa_ic (nx := 29) (v := nI 3) at_105_28 (by decide) rfl ?_
      refine qa_s (pc' := 30) at_105_29 rfl rfl rfl ?_
      refine qa_mulN (nx := 31) at_105_30 rfl ?_
      refine qa_s (pc' := 32) at_105_31 rfl rfl rfl ?_
      refine qa_addN (nx := 33) at_105_32 rfl ?_
      refine qa_ic (nx := 34) (v := nI 0) at_105_33 (by decide) rfl ?_
      refine qa_iast (nx := 35) (k := (3 * i) + 2) at_105_34 rfl rfl rfl (by decide) rfl (show (3 * i) + 2 < 15 by omega) ?_
      refine qa_incN (nx := 38) (c := 1) at_105_35 (by decide) rfl rfl rfl ?_
      refine qa_goto (nx := 19) at_105_38 rfl ?_
      refine qa_s (pc' := 20) at_105_19 rfl rfl rfl ?_
      refine qa_ic (nx := 21) (v := nI 3) at_105_20 (by decide) rfl ?_
      refine qn_icmp_ge (tg := 41) (nx := 24) at_105_21 rfl rfl (by decide) (by decide) (fun h105_21 => ?_) (fun h => absurd h (by decide))
      refine qa_s (pc' := 42) at_105_41 rfl rfl rfl ?_
      refine qa_ic (nx := 43) (v := nI 0) at_105_42 (by decide) rfl ?_
      refine qa_put (nx := 46) at_105_43 rfl (by decide) rfl (by decide) rfl (by decide) ?_
      refine qa_ic (nx := 47) (v := nI 1) at_105_46 (by decide) rfl ?_
      refine qa_ret at_105_47 rfl ?_
      exact k1 i h105_4 hi rfl
    · refine qa_ic (nx := 16) (v := nI 0) at_105_15 (by decide) rfl ?_
      refine qa_ret at_105_16 rfl ?_
      exact k0 (fun ⟨g0, g1⟩ => by first | exact h105_4 g0 | exact bi_z h105_12 (by rw [h40]; exact g1))
theorem Rel_wipe {i : Nat} (hR : Rel T σ) (h0 : σ 18 0 0 = 0) (hi : i < T) : Rel T (wpM (wpC σ i) i) := by
  obtain ⟨hA, hTt, hI, hP, hF, hJ, hRR⟩ := hR
  obtain ⟨h5, h04, h40, hf, hf', ho, ho', hm, hof⟩ := hA
  refine ⟨⟨h5, h04, h40, Or.inl rfl, rfl, ho, ho', hm, fun h => absurd (h0.symm.trans h) (by decide)⟩, RT_congr ?_ ?_ ?_ ?_ hTt, ?_, RP_congr ?_ hP, fun h => absurd (show nI 0 = 1 from h) (by decide), RJ_congr ?_ ?_ ?_ ?_ ?_ ?_ ?_ ?_ ?_ ?_ ?_ ?_ ?_ ?_ ?_ ?_ ?_ ?_ ?_ ?_ ?_ ?_ ?_ ?_ hJ, fun h => absurd (h0.symm.trans h) (by decide)⟩
  case refine_5 =>
    intro n hn
    obtain ⟨⟨s, g1, g2, g3⟩, g4⟩ := hI n hn
    refine ⟨?_, fun k hk => g4 k hk⟩
    by_cases e0 : n = 3 * i + 0
    · exact ⟨0, by omega, by simp [up, e0], by simp [up, e0]⟩
    · by_cases e1 : n = 3 * i + 1
      · exact ⟨0, by omega, by simp [up, e1], by simp [up, e1]⟩
      · by_cases e2 : n = 3 * i + 2
        · exact ⟨0, by omega, by simp [up, e2], by simp [up, e2]⟩
        · have e0' : ¬ n = 3 * i := e0
          exact ⟨s, g1, by rw [← g2]; simp [up, e0', e1, e2], by rw [← g3]; simp [up, e0', e1, e2]⟩
  all_goals (simp [up_k])
theorem p_wipe (hR : Rel T σ) (x : Int32) : pair cst 18 105 [.int x] σ := by
  obtain ⟨h5, h04, h40, hf, hf', ho, ho', hm, hof⟩ := hR.1
  show qa cst 18 0 [(0, .ref (cl 0 0)), (1, .int x)] [] σ _
  refine c18_q h04 h5 (fun h => ?_) (fun i a0 a1 a2 => ?_)
  · show qa cst 105 0 [(0, .ref (cl 40 0)), (1, .int x)] [] σ _
    refine c105_q h40 h5 (fun h' => ⟨_, rfl, rfl, T, hR⟩) (fun i b0 b1 b2 => absurd ⟨by rw [← ho']; exact b0, by rw [b2]; exact ix_in (by omega) b1⟩ h)
  · show qa cst 105 0 [(0, .ref (cl 40 0)), (1, .int x)] [] _ _
    refine c105_q (T := T) h40 h5 (fun h' => absurd ⟨by show σ 40 0 2 = 0; rw [ho']; exact a0, by rw [a2]; exact ix_in (by omega) a1⟩ h') (fun i' b0 b1 b2 => ?_)
    have e1 : i = i' := (nI_eq (by omega) (by omega)).mp (a2.symm.trans b2)
    subst e1
    exact ⟨_, rfl, rfl, T, Rel_wipe hR a0 a1⟩
end PQ
