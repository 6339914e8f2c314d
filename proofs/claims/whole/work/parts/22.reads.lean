/-! Questions that only read: the class and the reference. -/
section QQ
variable {cst : List (List Int32)} {σ : sg} {Q : Option Value → sg → Prop} {T : Nat}
theorem c47_q {x : Int32} (k : Q (some (.int (bi (¬ σ 4 0 0 = 0 ∧ (0 ≤ x ∧ x < σ 0 0 4))))) σ) : qa cst 47 0 [(0, .ref (cl 0 0)), (1, .int x)] [] σ Q := by
  refine qa_s (pc' := 1) at_47_0 rfl rfl rfl ?_
  refine qa_getR (nx := 4) at_47_1 rfl (by decide) rfl rfl (by decide) ?_
  refine qa_getI (nx := 7) at_47_4 rfl (by decide) rfl rfl (by decide) ?_
  refine qa_if_eq (tg := 22) (nx := 10) at_47_7 rfl rfl (fun h47_7 => ?_) (fun h47_7 => ?_)
  · refine qa_ic (nx := 23) (v := nI 0) at_47_22 (by decide) rfl ?_
    refine qa_ret at_47_23 rfl ?_
    exact bi_f1 k (by simp_all [bi_0])
  · refine qa_s (pc' := 11) at_47_10 rfl rfl rfl ?_
    refine qa_s (pc' := 12) at_47_11 rfl rfl rfl ?_
    refine qa_callV (nx := 15) at_47_12 rfl rfl (Nat.le_of_ble_eq_true rfl) rfl rfl rfl (by decide) rfl (by decide) ?_
    show qa _ 14 0 [(0, .ref _), (1, .int _)] [] _ _
    refine c14_q ?_
    show qa _ 47 15 _ [.int _] _ _
    refine qa_if_eq (tg := 22) (nx := 18) at_47_15 rfl rfl (fun h47_15 => ?_) (fun h47_15 => ?_)
    · have hz := bi_z h47_15
      refine qa_ic (nx := 23) (v := nI 0) at_47_22 (by decide) rfl ?_
      refine qa_ret at_47_23 rfl ?_
      exact bi_f1 k (by simp_all [bi_0])
    · have hz := bi_n h47_15
      refine qa_ic (nx := 19) (v := nI 1) at_47_18 (by decide) rfl ?_
      refine qa_goto (nx := 23) at_47_19 rfl ?_
      refine qa_ret at_47_23 rfl ?_
      exact bi_t1 k (by simp_all [bi_0])
theorem c59_q {x : Int32} (k : Q (some (.int (bi (¬ σ 18 0 0 = 0 ∧ (0 ≤ x ∧ x < σ 0 0 4))))) σ) : qa cst 59 0 [(0, .ref (cl 0 0)), (1, .int x)] [] σ Q := by
  refine qa_s (pc' := 1) at_59_0 rfl rfl rfl ?_
  refine qa_getR (nx := 4) at_59_1 rfl (by decide) rfl rfl (by decide) ?_
  refine qa_getI (nx := 7) at_59_4 rfl (by decide) rfl rfl (by decide) ?_
  refine qa_if_eq (tg := 22) (nx := 10) at_59_7 rfl rfl (fun h59_7 => ?_) (fun h59_7 => ?_)
  · refine qa_ic (nx := 23) (v := nI 0) at_59_22 (by decide) rfl ?_
    refine qa_ret at_59_23 rfl ?_
    exact bi_f1 k (by simp_all [bi_0])
  · refine qa_s (pc' := 11) at_59_10 rfl rfl rfl ?_
    refine qa_s (pc' := 12) at_59_11 rfl rfl rfl ?_
    refine qa_callV (nx := 15) at_59_12 rfl rfl (Nat.le_of_ble_eq_true rfl) rfl rfl rfl (by decide) rfl (by decide) ?_
    show qa _ 14 0 [(0, .ref _), (1, .int _)] [] _ _
    refine c14_q ?_
    show qa _ 59 15 _ [.int _] _ _
    refine qa_if_eq (tg := 22) (nx := 18) at_59_15 rfl rfl (fun h59_15 => ?_) (fun h59_15 => ?_)
    · have hz := bi_z h59_15
      refine qa_ic (nx := 23) (v := nI 0) at_59_22 (by decide) rfl ?_
      refine qa_ret at_59_23 rfl ?_
      exact bi_f1 k (by simp_all [bi_0])
    · have hz := bi_n h59_15
      refine qa_ic (nx := 19) (v := nI 1) at_59_18 (by decide) rfl ?_
      refine qa_goto (nx := 23) at_59_19 rfl ?_
      refine qa_ret at_59_23 rfl ?_
      exact bi_t1 k (by simp_all [bi_0])
theorem c46_q {x : Int32} (hT : σ 0 0 4 = nI T) (hT5 : T ≤ 5) (k0 : ¬ (¬ σ 4 0 0 = 0 ∧ (0 ≤ x ∧ x < nI T)) → Q (some (.int (-1))) σ) (k1 : ∀ i, i < T → x = nI i → ¬ σ 4 0 0 = 0 → Q (some (.int (σ 5 0 i))) σ) : qa cst 46 0 [(0, .ref (cl 0 0)), (1, .int x)] [] σ Q := by
  refine qa_s (pc' := 1) at_46_0 rfl rfl rfl ?_
  refine qa_s (pc' := 2) at_46_1 rfl rfl rfl ?_
  refine qa_callV (nx := 5) at_46_2 rfl rfl (Nat.le_of_ble_eq_true rfl) rfl rfl rfl (by decide) rfl (by decide) ?_
  show qa _ 47 0 [(0, .ref _), (1, .int _)] [] _ _
  refine c47_q ?_
  show qa _ 46 5 _ [.int _] _ _
  refine qa_if_eq (tg := 20) (nx := 8) at_46_5 rfl rfl (fun h46_5 => ?_) (fun h46_5 => ?_)
  · refine qa_ic (nx := 21) (v := (-1)) at_46_20 (by decide) rfl ?_
    refine qa_ret at_46_21 rfl ?_
    exact k0 (by rw [← hT]; exact bi_z h46_5)
  · have hp := bi_n h46_5
    rw [hT] at hp
    obtain ⟨i, hi, rfl⟩ := ix_of (by omega) hp.2
    refine qa_s (pc' := 9) at_46_8 rfl rfl rfl ?_
    refine qa_getR (nx := 12) at_46_9 rfl (by decide) rfl rfl (by decide) ?_
    refine qa_getR (nx := 15) at_46_12 rfl (by decide) rfl rfl (by decide) ?_
    refine qa_s (pc' := 16) at_46_15 rfl rfl rfl ?_
    refine qa_iald (nx := 17) (k := i) at_46_16 rfl rfl rfl (by decide) rfl (show i < 5 by omega) ?_
    refine qa_goto (nx := 21) at_46_17 rfl ?_
    refine qa_ret at_46_21 rfl ?_
    exact k1 i hi rfl hp.1
theorem c49_q {x : Int32} (hT : σ 0 0 4 = nI T) (hT5 : T ≤ 5) (k0 : ¬ (¬ σ 4 0 0 = 0 ∧ (0 ≤ x ∧ x < nI T)) → Q (some (.int (-1))) σ) (k1 : ∀ i, i < T → x = nI i → ¬ σ 4 0 0 = 0 → Q (some (.int (σ 8 0 i))) σ) : qa cst 49 0 [(0, .ref (cl 0 0)), (1, .int x)] [] σ Q := by
  refine qa_s (pc' := 1) at_49_0 rfl rfl rfl ?_
  refine qa_s (pc' := 2) at_49_1 rfl rfl rfl ?_
  refine qa_callV (nx := 5) at_49_2 rfl rfl (Nat.le_of_ble_eq_true rfl) rfl rfl rfl (by decide) rfl (by decide) ?_
  show qa _ 47 0 [(0, .ref _), (1, .int _)] [] _ _
  refine c47_q ?_
  show qa _ 49 5 _ [.int _] _ _
  refine qa_if_eq (tg := 20) (nx := 8) at_49_5 rfl rfl (fun h49_5 => ?_) (fun h49_5 => ?_)
  · refine qa_ic (nx := 21) (v := (-1)) at_49_20 (by decide) rfl ?_
    refine qa_ret at_49_21 rfl ?_
    exact k0 (by rw [← hT]; exact bi_z h49_5)
  · have hp := bi_n h49_5
    rw [hT] at hp
    obtain ⟨i, hi, rfl⟩ := ix_of (by omega) hp.2
    refine qa_s (pc' := 9) at_49_8 rfl rfl rfl ?_
    refine qa_getR (nx := 12) at_49_9 rfl (by decide) rfl rfl (by decide) ?_
    refine qa_getR (nx := 15) at_49_12 rfl (by decide) rfl rfl (by decide) ?_
    refine qa_s (pc' := 16) at_49_15 rfl rfl rfl ?_
    refine qa_iald (nx := 17) (k := i) at_49_16 rfl rfl rfl (by decide) rfl (show i < 5 by omega) ?_
    refine qa_goto (nx := 21) at_49_17 rfl ?_
    refine qa_ret at_49_21 rfl ?_
    exact k1 i hi rfl hp.1
theorem c50_q {x : Int32} (hT : σ 0 0 4 = nI T) (hT5 : T ≤ 5) (k0 : ¬ (¬ σ 4 0 0 = 0 ∧ (0 ≤ x ∧ x < nI T)) → Q (some (.int (-1))) σ) (k1 : ∀ i, i < T → x = nI i → ¬ σ 4 0 0 = 0 → Q (some (.int (σ 9 0 i))) σ) : qa cst 50 0 [(0, .ref (cl 0 0)), (1, .int x)] [] σ Q := by
  refine qa_s (pc' := 1) at_50_0 rfl rfl rfl ?_
  refine qa_s (pc' := 2) at_50_1 rfl rfl rfl ?_
  refine qa_callV (nx := 5) at_50_2 rfl rfl (Nat.le_of_ble_eq_true rfl) rfl rfl rfl (by decide) rfl (by decide) ?_
  show qa _ 47 0 [(0, .ref _), (1, .int _)] [] _ _
  refine c47_q ?_
  show qa _ 50 5 _ [.int _] _ _
  refine qa_if_eq (tg := 20) (nx := 8) at_50_5 rfl rfl (fun h50_5 => ?_) (fun h50_5 => ?_)
  · refine qa_ic (nx := 21) (v := (-1)) at_50_20 (by decide) rfl ?_
    refine qa_ret at_50_21 rfl ?_
    exact k0 (by rw [← hT]; exact bi_z h50_5)
  · have hp := bi_n h50_5
    rw [hT] at hp
    obtain ⟨i, hi, rfl⟩ := ix_of (by omega) hp.2
    refine qa_s (pc' := 9) at_50_8 rfl rfl rfl ?_
    refine qa_getR (nx := 12) at_50_9 rfl (by decide) rfl rfl (by decide) ?_
    refine qa_getR (nx := 15) at_50_12 rfl (by decide) rfl rfl (by decide) ?_
    refine qa_s (pc' := 16) at_50_15 rfl rfl rfl ?_
    refine qa_iald (nx := 17) (k := i) at_50_16 rfl rfl rfl (by decide) rfl (show i < 5 by omega) ?_
    refine qa_goto (nx := 21) at_50_17 rfl ?_
    refine qa_ret at_50_21 rfl ?_
    exact k1 i hi rfl hp.1
theorem c95_q {x : Int32} (hT : σ 0 0 4 = nI T) (hT5 : T ≤ 5) (k0 : ¬ (¬ σ 18 0 0 = 0 ∧ (0 ≤ x ∧ x < nI T)) → Q (some (.int (-1))) σ) (k1 : ∀ i, i < T → x = nI i → ¬ σ 18 0 0 = 0 → Q (some (.int (σ 27 i 3))) σ) : qa cst 95 0 [(0, .ref (cl 0 0)), (1, .int x)] [] σ Q := by
  refine qa_s (pc' := 1) at_95_0 rfl rfl rfl ?_
  refine qa_s (pc' := 2) at_95_1 rfl rfl rfl ?_
  refine qa_callV (nx := 5) at_95_2 rfl rfl (Nat.le_of_ble_eq_true rfl) rfl rfl rfl (by decide) rfl (by decide) ?_
  show qa _ 59 0 [(0, .ref _), (1, .int _)] [] _ _
  refine c59_q ?_
  show qa _ 95 5 _ [.int _] _ _
  refine qa_if_eq (tg := 23) (nx := 8) at_95_5 rfl rfl (fun h95_5 => ?_) (fun h95_5 => ?_)
  · refine qa_ic (nx := 24) (v := (-1)) at_95_23 (by decide) rfl ?_
    refine qa_ret at_95_24 rfl ?_
    exact k0 (by rw [← hT]; exact bi_z h95_5)
  · have hp := bi_n h95_5
    rw [hT] at hp
    obtain ⟨i, hi, rfl⟩ := ix_of (by omega) hp.2
    refine qa_s (pc' := 9) at_95_8 rfl rfl rfl ?_
    refine qa_getR (nx := 12) at_95_9 rfl (by decide) rfl rfl (by decide) ?_
    refine qa_getR (nx := 15) at_95_12 rfl (by decide) rfl rfl (by decide) ?_
    refine qa_s (pc' := 16) at_95_15 rfl rfl rfl ?_
    refine qa_aald (nx := 17) (k := i) at_95_16 (by decide) rfl rfl (by decide) rfl (show i < 5 by omega) ?_
    refine qa_getI (nx := 20) at_95_17 rfl (by decide) rfl rfl (show _ < 5 by omega) ?_
    refine qa_goto (nx := 24) at_95_20 rfl ?_
    refine qa_ret at_95_24 rfl ?_
    exact k1 i hi rfl hp.1
theorem c121_q {x : Int32} (hM : σ 40 0 0 = nI T) (hT5 : T ≤ 5) (k0 : ¬ (¬ σ 40 0 1 = 0 ∧ (0 ≤ x ∧ x < nI T)) → Q (some (.int (-1))) σ) (k1 : ∀ i, i < T → x = nI i → ¬ σ 40 0 1 = 0 → Q (some (.int (σ 53 0 i))) σ) : qa cst 121 0 [(0, .ref (cl 40 0)), (1, .int x)] [] σ Q := by
  refine qa_s (pc' := 1) at_121_0 rfl rfl rfl ?_
  refine qa_getI (nx := 4) at_121_1 rfl (by decide) rfl rfl (by decide) ?_
  refine qa_if_eq (tg := 24) (nx := 7) at_121_4 rfl rfl (fun h121_4 => ?_) (fun h121_4 => ?_)
  · have hz : ¬ (¬ σ 40 0 1 = 0 ∧ (0 ≤ x ∧ x < nI T)) := fun h => h.1 h121_4
    refine qa_ic (nx := 25) (v := (-1)) at_121_24 (by decide) rfl ?_
    refine qa_ret at_121_25 rfl ?_
    exact k0 (fun h => hz h)
  · refine qa_s (pc' := 8) at_121_7 rfl rfl rfl ?_
    refine qa_s (pc' := 9) at_121_8 rfl rfl rfl ?_
    refine qa_callV (nx := 12) at_121_9 rfl rfl (Nat.le_of_ble_eq_true rfl) rfl rfl rfl (by decide) rfl (by decide) ?_
    show qa _ 103 0 [(0, .ref _), (1, .int _)] [] _ _
    refine c103_q ?_
    show qa _ 121 12 _ [.int _] _ _
    refine qa_if_eq (tg := 24) (nx := 15) at_121_12 rfl rfl (fun h121_12 => ?_) (fun h121_12 => ?_)
    · have hz : ¬ (¬ σ 40 0 1 = 0 ∧ (0 ≤ x ∧ x < nI T)) := fun h => bi_z h121_12 (by rw [hM]; exact h.2)
      refine qa_ic (nx := 25) (v := (-1)) at_121_24 (by decide) rfl ?_
      refine qa_ret at_121_25 rfl ?_
      exact k0 (fun h => hz h)
    · have hp := bi_n h121_12
      rw [hM] at hp
      obtain ⟨i, hi, rfl⟩ := ix_of (by omega) hp
      refine qa_s (pc' := 16) at_121_15 rfl rfl rfl ?_
      refine qa_getR (nx := 19) at_121_16 rfl (by decide) rfl rfl (by decide) ?_
      refine qa_s (pc' := 20) at_121_19 rfl rfl rfl ?_
      refine qa_iald (nx := 21) (k := i) at_121_20 rfl rfl rfl (by decide) rfl (show i < 5 by omega) ?_
      refine qa_goto (nx := 25) at_121_21 rfl ?_
      refine qa_ret at_121_25 rfl ?_
      exact k1 i hi rfl h121_4
theorem c123_q {x : Int32} (hM : σ 40 0 0 = nI T) (hT5 : T ≤ 5) (k0 : ¬ (¬ σ 40 0 1 = 0 ∧ (0 ≤ x ∧ x < nI T)) → Q (some (.int (-1))) σ) (k1 : ∀ i, i < T → x = nI i → ¬ σ 40 0 1 = 0 → Q (some (.int (σ 55 0 i))) σ) : qa cst 123 0 [(0, .ref (cl 40 0)), (1, .int x)] [] σ Q := by
  refine qa_s (pc' := 1) at_123_0 rfl rfl rfl ?_
  refine qa_getI (nx := 4) at_123_1 rfl (by decide) rfl rfl (by decide) ?_
  refine qa_if_eq (tg := 24) (nx := 7) at_123_4 rfl rfl (fun h123_4 => ?_) (fun h123_4 => ?_)
  · have hz : ¬ (¬ σ 40 0 1 = 0 ∧ (0 ≤ x ∧ x < nI T)) := fun h => h.1 h123_4
    refine qa_ic (nx := 25) (v := (-1)) at_123_24 (by decide) rfl ?_
    refine qa_ret at_123_25 rfl ?_
    exact k0 (fun h => hz h)
  · refine qa_s (pc' := 8) at_123_7 rfl rfl rfl ?_
    refine qa_s (pc' := 9) at_123_8 rfl rfl rfl ?_
    refine qa_callV (nx := 12) at_123_9 rfl rfl (Nat.le_of_ble_eq_true rfl) rfl rfl rfl (by decide) rfl (by decide) ?_
    show qa _ 103 0 [(0, .ref _), (1, .int _)] [] _ _
    refine c103_q ?_
    show qa _ 123 12 _ [.int _] _ _
    refine qa_if_eq (tg := 24) (nx := 15) at_123_12 rfl rfl (fun h123_12 => ?_) (fun h123_12 => ?_)
    · have hz : ¬ (¬ σ 40 0 1 = 0 ∧ (0 ≤ x ∧ x < nI T)) := fun h => bi_z h123_12 (by rw [hM]; exact h.2)
      refine qa_ic (nx := 25) (v := (-1)) at_123_24 (by decide) rfl ?_
      refine qa_ret at_123_25 rfl ?_
      exact k0 (fun h => hz h)
    · have hp := bi_n h123_12
      rw [hM] at hp
      obtain ⟨i, hi, rfl⟩ := ix_of (by omega) hp
      refine qa_s (pc' := 16) at_123_15 rfl rfl rfl ?_
      refine qa_getR (nx := 19) at_123_16 rfl (by decide) rfl rfl (by decide) ?_
      refine qa_s (pc' := 20) at_123_19 rfl rfl rfl ?_
      refine qa_iald (nx := 21) (k := i) at_123_20 rfl rfl rfl (by decide) rfl (show i < 5 by omega) ?_
      refine qa_goto (nx := 25) at_123_21 rfl ?_
      refine qa_ret at_123_25 rfl ?_
      exact k1 i hi rfl h123_4
theorem c124_q {x : Int32} (hM : σ 40 0 0 = nI T) (hT5 : T ≤ 5) (k0 : ¬ (¬ σ 40 0 1 = 0 ∧ (0 ≤ x ∧ x < nI T)) → Q (some (.int (-1))) σ) (k1 : ∀ i, i < T → x = nI i → ¬ σ 40 0 1 = 0 → Q (some (.int (σ 56 0 i))) σ) : qa cst 124 0 [(0, .ref (cl 40 0)), (1, .int x)] [] σ Q := by
  refine qa_s (pc' := 1) at_124_0 rfl rfl rfl ?_
  refine qa_getI (nx := 4) at_124_1 rfl (by decide) rfl rfl (by decide) ?_
  refine qa_if_eq (tg := 24) (nx := 7) at_124_4 rfl rfl (fun h124_4 => ?_) (fun h124_4 => ?_)
  · have hz : ¬ (¬ σ 40 0 1 = 0 ∧ (0 ≤ x ∧ x < nI T)) := fun h => h.1 h124_4
    refine qa_ic (nx := 25) (v := (-1)) at_124_24 (by decide) rfl ?_
    refine qa_ret at_124_25 rfl ?_
    exact k0 (fun h => hz h)
  · refine qa_s (pc' := 8) at_124_7 rfl rfl rfl ?_
    refine qa_s (pc' := 9) at_124_8 rfl rfl rfl ?_
    refine qa_callV (nx := 12) at_124_9 rfl rfl (Nat.le_of_ble_eq_true rfl) rfl rfl rfl (by decide) rfl (by decide) ?_
    show qa _ 103 0 [(0, .ref _), (1, .int _)] [] _ _
    refine c103_q ?_
    show qa _ 124 12 _ [.int _] _ _
    refine qa_if_eq (tg := 24) (nx := 15) at_124_12 rfl rfl (fun h124_12 => ?_) (fun h124_12 => ?_)
    · have hz : ¬ (¬ σ 40 0 1 = 0 ∧ (0 ≤ x ∧ x < nI T)) := fun h => bi_z h124_12 (by rw [hM]; exact h.2)
      refine qa_ic (nx := 25) (v := (-1)) at_124_24 (by decide) rfl ?_
      refine qa_ret at_124_25 rfl ?_
      exact k0 (fun h => hz h)
    · have hp := bi_n h124_12
      rw [hM] at hp
      obtain ⟨i, hi, rfl⟩ := ix_of (by omega) hp
      refine qa_s (pc' := 16) at_124_15 rfl rfl rfl ?_
      refine qa_getR (nx := 19) at_124_16 rfl (by decide) rfl rfl (by decide) ?_
      refine qa_s (pc' := 20) at_124_19 rfl rfl rfl ?_
      refine qa_iald (nx := 21) (k := i) at_124_20 rfl rfl rfl (by decide) rfl (show i < 5 by omega) ?_
      refine qa_goto (nx := 25) at_124_21 rfl ?_
      refine qa_ret at_124_25 rfl ?_
      exact k1 i hi rfl h124_4
theorem c143_q {x : Int32} (hM : σ 40 0 0 = nI T) (hT5 : T ≤ 5) (k0 : ¬ (¬ σ 40 0 2 = 0 ∧ (0 ≤ x ∧ x < nI T)) → Q (some (.int (-1))) σ) (k1 : ∀ i, i < T → x = nI i → ¬ σ 40 0 2 = 0 → Q (some (.int (σ 74 0 i))) σ) : qa cst 143 0 [(0, .ref (cl 40 0)), (1, .int x)] [] σ Q := by
  refine qa_s (pc' := 1) at_143_0 rfl rfl rfl ?_
  refine qa_getI (nx := 4) at_143_1 rfl (by decide) rfl rfl (by decide) ?_
  refine qa_if_eq (tg := 24) (nx := 7) at_143_4 rfl rfl (fun h143_4 => ?_) (fun h143_4 => ?_)
  · have hz : ¬ (¬ σ 40 0 2 = 0 ∧ (0 ≤ x ∧ x < nI T)) := fun h => h.1 h143_4
    refine qa_ic (nx := 25) (v := (-1)) at_143_24 (by decide) rfl ?_
    refine qa_ret at_143_25 rfl ?_
    exact k0 (fun h => hz h)
  · refine qa_s (pc' := 8) at_143_7 rfl rfl rfl ?_
    refine qa_s (pc' := 9) at_143_8 rfl rfl rfl ?_
    refine qa_callV (nx := 12) at_143_9 rfl rfl (Nat.le_of_ble_eq_true rfl) rfl rfl rfl (by decide) rfl (by decide) ?_
    show qa _ 103 0 [(0, .ref _), (1, .int _)] [] _ _
    refine c103_q ?_
    show qa _ 143 12 _ [.int _] _ _
    refine qa_if_eq (tg := 24) (nx := 15) at_143_12 rfl rfl (fun h143_12 => ?_) (fun h143_12 => ?_)
    · have hz : ¬ (¬ σ 40 0 2 = 0 ∧ (0 ≤ x ∧ x < nI T)) := fun h => bi_z h143_12 (by rw [hM]; exact h.2)
      refine qa_ic (nx := 25) (v := (-1)) at_143_24 (by decide) rfl ?_
      refine qa_ret at_143_25 rfl ?_
      exact k0 (fun h => hz h)
    · have hp := bi_n h143_12
      rw [hM] at hp
      obtain ⟨i, hi, rfl⟩ := ix_of (by omega) hp
      refine qa_s (pc' := 16) at_143_15 rfl rfl rfl ?_
      refine qa_getR (nx := 19) at_143_16 rfl (by decide) rfl rfl (by decide) ?_
      refine qa_s (pc' := 20) at_143_19 rfl rfl rfl ?_
      refine qa_iald (nx := 21) (k := i) at_143_20 rfl rfl rfl (by decide) rfl (show i < 5 by omega) ?_
      refine qa_goto (nx := 25) at_143_21 rfl ?_
      refine qa_ret at_143_25 rfl ?_
      exact k1 i hi rfl h143_4
end QQ
