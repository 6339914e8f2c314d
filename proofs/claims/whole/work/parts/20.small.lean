/-! Small questions of the class and of the reference, their answers as ifs. -/
def bi (p : Prop) [Decidable p] : Int32 := if p then 1 else 0
theorem bi_bool (p : Prop) [Decidable p] : mj_bool (bi p) = true := by unfold bi; split <;> rfl
theorem bi_0 (p : Prop) [Decidable p] : bi p = 0 ↔ ¬ p := by unfold bi; split <;> simp_all
theorem bi_t {p : Prop} [Decidable p] (h : p) : bi p = nI 1 := if_pos h
theorem bi_f {p : Prop} [Decidable p] (h : ¬ p) : bi p = nI 0 := if_neg h
section SQ
variable {cst : List (List Int32)} {σ : sg} {Q : Option Value → sg → Prop}
theorem bi_t1 {p : Prop} [Decidable p] (k : Q (some (.int (bi p))) σ) (h : p) : Q (some (.int (nI 1))) σ := by rw [← bi_t h]; exact k
theorem bi_f1 {p : Prop} [Decidable p] (k : Q (some (.int (bi p))) σ) (h : ¬ p) : Q (some (.int (nI 0))) σ := by rw [← bi_f h]; exact k
theorem mj_retZ {v : Int32} (hv : mj_bool v = true) : mj_isRet .ireturn (some .boolean) [.int v] = some (some (.int v)) := by simp [mj_isRet, hv]
theorem c11_q {x y z : Int32} (k : Q (some (.int (bi (y ≤ x ∧ x ≤ z)))) σ) : qa cst 11 0 [(0, .int x), (1, .int y), (2, .int z)] [] σ Q := by
  refine qa_s (pc' := 1) at_11_0 rfl rfl rfl ?_
  refine qa_s (pc' := 2) at_11_1 rfl rfl rfl ?_
  refine qa_icmp_lt (tg := 14) (nx := 5) at_11_2 rfl rfl (fun h11_2 => ?_) (fun h11_2 => ?_)
  · refine qa_ic (nx := 15) (v := nI 0) at_11_14 (by decide) rfl ?_
    refine qa_ret at_11_15 rfl ?_
    exact bi_f1 k (by simp only [Int32.le_iff_toInt_le, Int32.lt_iff_toInt_lt, Int32.toInt_zero] at *; omega)
  · refine qa_s (pc' := 6) at_11_5 rfl rfl rfl ?_
    refine qa_s (pc' := 7) at_11_6 rfl rfl rfl ?_
    refine qa_icmp_gt (tg := 14) (nx := 10) at_11_7 rfl rfl (fun h11_7 => ?_) (fun h11_7 => ?_)
    · refine qa_ic (nx := 15) (v := nI 0) at_11_14 (by decide) rfl ?_
      refine qa_ret at_11_15 rfl ?_
      exact bi_f1 k (by simp only [Int32.le_iff_toInt_le, Int32.lt_iff_toInt_lt, Int32.toInt_zero] at *; omega)
    · refine qa_ic (nx := 11) (v := nI 1) at_11_10 (by decide) rfl ?_
      refine qa_goto (nx := 15) at_11_11 rfl ?_
      refine qa_ret at_11_15 rfl ?_
      exact bi_t1 k (by simp only [Int32.le_iff_toInt_le, Int32.lt_iff_toInt_lt, Int32.toInt_zero] at *; omega)
theorem c101_q {x y z : Int32} (k : Q (some (.int (bi (y ≤ x ∧ x ≤ z)))) σ) : qa cst 101 0 [(0, .int x), (1, .int y), (2, .int z)] [] σ Q := by
  refine qa_s (pc' := 1) at_101_0 rfl rfl rfl ?_
  refine qa_s (pc' := 2) at_101_1 rfl rfl rfl ?_
  refine qa_icmp_lt (tg := 14) (nx := 5) at_101_2 rfl rfl (fun h101_2 => ?_) (fun h101_2 => ?_)
  · refine qa_ic (nx := 15) (v := nI 0) at_101_14 (by decide) rfl ?_
    refine qa_ret at_101_15 rfl ?_
    exact bi_f1 k (by simp only [Int32.le_iff_toInt_le, Int32.lt_iff_toInt_lt, Int32.toInt_zero] at *; omega)
  · refine qa_s (pc' := 6) at_101_5 rfl rfl rfl ?_
    refine qa_s (pc' := 7) at_101_6 rfl rfl rfl ?_
    refine qa_icmp_gt (tg := 14) (nx := 10) at_101_7 rfl rfl (fun h101_7 => ?_) (fun h101_7 => ?_)
    · refine qa_ic (nx := 15) (v := nI 0) at_101_14 (by decide) rfl ?_
      refine qa_ret at_101_15 rfl ?_
      exact bi_f1 k (by simp only [Int32.le_iff_toInt_le, Int32.lt_iff_toInt_lt, Int32.toInt_zero] at *; omega)
    · refine qa_ic (nx := 11) (v := nI 1) at_101_10 (by decide) rfl ?_
      refine qa_goto (nx := 15) at_101_11 rfl ?_
      refine qa_ret at_101_15 rfl ?_
      exact bi_t1 k (by simp only [Int32.le_iff_toInt_le, Int32.lt_iff_toInt_lt, Int32.toInt_zero] at *; omega)
theorem c15_q {x y : Int32} (k : Q (some (.int (bi (0 ≤ x ∧ x < y)))) σ) : qa cst 15 0 [(0, .int x), (1, .int y)] [] σ Q := by
  refine qa_s (pc' := 1) at_15_0 rfl rfl rfl ?_
  refine qa_if_lt (tg := 13) (nx := 4) at_15_1 rfl rfl (fun h15_1 => ?_) (fun h15_1 => ?_)
  · refine qa_ic (nx := 14) (v := nI 0) at_15_13 (by decide) rfl ?_
    refine qa_ret at_15_14 rfl ?_
    exact bi_f1 k (by simp only [Int32.le_iff_toInt_le, Int32.lt_iff_toInt_lt, Int32.toInt_zero] at *; omega)
  · refine qa_s (pc' := 5) at_15_4 rfl rfl rfl ?_
    refine qa_s (pc' := 6) at_15_5 rfl rfl rfl ?_
    refine qa_icmp_ge (tg := 13) (nx := 9) at_15_6 rfl rfl (fun h15_6 => ?_) (fun h15_6 => ?_)
    · refine qa_ic (nx := 14) (v := nI 0) at_15_13 (by decide) rfl ?_
      refine qa_ret at_15_14 rfl ?_
      exact bi_f1 k (by simp only [Int32.le_iff_toInt_le, Int32.lt_iff_toInt_lt, Int32.toInt_zero] at *; omega)
    · refine qa_ic (nx := 10) (v := nI 1) at_15_9 (by decide) rfl ?_
      refine qa_goto (nx := 14) at_15_10 rfl ?_
      refine qa_ret at_15_14 rfl ?_
      exact bi_t1 k (by simp only [Int32.le_iff_toInt_le, Int32.lt_iff_toInt_lt, Int32.toInt_zero] at *; omega)
theorem c14_q {x : Int32} (k : Q (some (.int (bi (0 ≤ x ∧ x < σ 0 0 4)))) σ) : qa cst 14 0 [(0, .ref (cl 0 0)), (1, .int x)] [] σ Q := by
  refine qa_s (pc' := 1) at_14_0 rfl rfl rfl ?_
  refine qa_s (pc' := 2) at_14_1 rfl rfl rfl ?_
  refine qa_getI (nx := 5) at_14_2 rfl (by decide) rfl rfl (by decide) ?_
  refine qa_callS (nx := 8) at_14_5 rfl rfl (Nat.le_of_ble_eq_true rfl) rfl rfl (by decide) rfl ?_
  show qa _ 15 0 [(0, .int _), (1, .int _)] [] _ _
  refine c15_q ?_
  show qa _ 14 8 _ [.int _] _ _
  refine qa_ret at_14_8 (mj_retZ (bi_bool _)) ?_
  exact k
theorem c103_q {x : Int32} (k : Q (some (.int (bi (0 ≤ x ∧ x < σ 40 0 0)))) σ) : qa cst 103 0 [(0, .ref (cl 40 0)), (1, .int x)] [] σ Q := by
  refine qa_s (pc' := 1) at_103_0 rfl rfl rfl ?_
  refine qa_if_lt (tg := 16) (nx := 4) at_103_1 rfl rfl (fun h103_1 => ?_) (fun h103_1 => ?_)
  · refine qa_ic (nx := 17) (v := nI 0) at_103_16 (by decide) rfl ?_
    refine qa_ret at_103_17 rfl ?_
    exact bi_f1 k (by simp only [Int32.le_iff_toInt_le, Int32.lt_iff_toInt_lt, Int32.toInt_zero] at *; omega)
  · refine qa_s (pc' := 5) at_103_4 rfl rfl rfl ?_
    refine qa_s (pc' := 6) at_103_5 rfl rfl rfl ?_
    refine qa_getI (nx := 9) at_103_6 rfl (by decide) rfl rfl (by decide) ?_
    refine qa_icmp_ge (tg := 16) (nx := 12) at_103_9 rfl rfl (fun h103_9 => ?_) (fun h103_9 => ?_)
    · refine qa_ic (nx := 17) (v := nI 0) at_103_16 (by decide) rfl ?_
      refine qa_ret at_103_17 rfl ?_
      exact bi_f1 k (by simp only [Int32.le_iff_toInt_le, Int32.lt_iff_toInt_lt, Int32.toInt_zero] at *; omega)
    · refine qa_ic (nx := 13) (v := nI 1) at_103_12 (by decide) rfl ?_
      refine qa_goto (nx := 17) at_103_13 rfl ?_
      refine qa_ret at_103_17 rfl ?_
      exact bi_t1 k (by simp only [Int32.le_iff_toInt_le, Int32.lt_iff_toInt_lt, Int32.toInt_zero] at *; omega)
end SQ
