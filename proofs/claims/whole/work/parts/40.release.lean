/-! run: the releases of the class -/
section PQ
variable {cst : List (List Int32)} {σ b : sg} {Q : Option Value → sg → Prop} {T : Nat}
def entC (σ : sg) (kind i tm v : Int32) : sg := up (up (up (up (up σ 22 0 (jsl (σ 21 0 0)) kind) 23 0 (jsl (σ 21 0 0)) i) 24 0 (jsl (σ 21 0 0)) tm) 25 0 (jsl (σ 21 0 0)) v) 21 0 0 (σ 21 0 0 + nI 1)
theorem entC_fr {x y z w : Int32} : fr (entC σ x y z w) σ := fr_up (by decide) (fr_up (by decide) (fr_up (by decide) (fr_up (by decide) (fr_up (by decide) fr_refl))))
theorem c68_q {x y z w : Int32} (k : Q none (entC σ x y z w)) : qa cst 68 0 [(0, .ref (cl 21 0)), (1, .int x), (2, .int y), (3, .int z), (4, .int w)] [] σ Q := by
  obtain ⟨ej, hj⟩ := jsl_e (σ 21 0 0)
  refine qa_s (pc' := 1) at_68_0 rfl rfl rfl ?_
  refine qa_getI (nx := 4) at_68_1 rfl (by decide) rfl rfl (by decide) ?_
  refine qa_bi (nx := 6) (v := nI 31) at_68_4 (by decide) rfl ?_
  refine qa_s (pc' := 7) at_68_6 rfl rfl rfl ?_
  rw [ej]
  refine qa_s (pc' := 9) at_68_7 rfl rfl rfl ?_
  refine qa_s (pc' := 10) at_68_9 rfl rfl rfl ?_
  refine qa_getR (nx := 13) at_68_10 rfl (by decide) rfl rfl (by decide) ?_
  refine qa_s (pc' := 15) at_68_13 rfl rfl rfl ?_
  refine qa_s (pc' := 16) at_68_15 rfl rfl rfl ?_
  refine qa_iast (nx := 17) (k := jsl (σ 21 0 0)) at_68_16 rfl rfl rfl (by decide) rfl (show jsl (σ 21 0 0) < 32 by omega) ?_
  refine qa_s (pc' := 18) at_68_17 rfl rfl rfl ?_
  refine qa_getR (nx := 21) at_68_18 rfl (by decide) rfl rfl (by decide) ?_
  refine qa_s (pc' := 23) at_68_21 rfl rfl rfl ?_
  refine qa_s (pc' := 24) at_68_23 rfl rfl rfl ?_
  refine qa_iast (nx := 25) (k := jsl (σ 21 0 0)) at_68_24 rfl rfl rfl (by decide) rfl (show jsl (σ 21 0 0) < 32 by omega) ?_
  refine qa_s (pc' := 26) at_68_25 rfl rfl rfl ?_
  refine qa_getR (nx := 29) at_68_26 rfl (by decide) rfl rfl (by decide) ?_
  refine qa_s (pc' := 31) at_68_29 rfl rfl rfl ?_
  refine qa_s (pc' := 32) at_68_31 rfl rfl rfl ?_
  refine qa_iast (nx := 33) (k := jsl (σ 21 0 0)) at_68_32 rfl rfl rfl (by decide) rfl (show jsl (σ 21 0 0) < 32 by omega) ?_
  refine qa_s (pc' := 34) at_68_33 rfl rfl rfl ?_
  refine qa_getR (nx := 37) at_68_34 rfl (by decide) rfl rfl (by decide) ?_
  refine qa_s (pc' := 39) at_68_37 rfl rfl rfl ?_
  refine qa_s (pc' := 41) at_68_39 rfl rfl rfl ?_
  refine qa_iast (nx := 42) (k := jsl (σ 21 0 0)) at_68_41 rfl rfl rfl (by decide) rfl (show jsl (σ 21 0 0) < 32 by omega) ?_
  refine qa_s (pc' := 43) at_68_42 rfl rfl rfl ?_
  refine qa_s (pc' := 44) at_68_43 rfl rfl rfl ?_
  refine qa_getI (nx := 47) at_68_44 rfl (by decide) rfl rfl (by decide) ?_
  refine qa_ic (nx := 48) (v := nI 1) at_68_47 (by decide) rfl ?_
  refine qa_s (pc' := 49) at_68_48 rfl rfl rfl ?_
  refine qa_put (nx := 52) at_68_49 rfl (by decide) rfl rfl rfl (by decide) ?_
  refine qa_ret at_68_52 rfl ?_
  exact k
theorem at_jn {x : Nat} {kd y v : Int32} (h : Rn T x (mix σ b)) : Rn T x (mix (entC σ kd y (σ 18 0 7) v) (entM b kd y v)) := by
  have e1 : b 40 0 29 = σ 21 0 0 := h.2.2.1.2.2.2.2.2.2.2
  have e2 : b 40 0 22 = σ 18 0 7 := h.2.2.1.1
  have hj := (jsl_e (σ 21 0 0)).2
  unfold entC entM
  rw [e1, e2]
  exact at_jm (at_j25 hj (at_j24 hj (at_j23 hj (at_j22 hj h))))
theorem up_id {σ : sg} {a i j : Nat} : up σ a i j (σ a i j) = σ := by
  funext a' i' j'
  unfold up
  split
  · split
    · split
      · subst_vars; rfl
      · rfl
    · rfl
  · rfl
theorem c65_q {i : Nat} {t : Int32} (hi : i < 5) (k : Q (some (.int (bi (σ 27 i 4 ≤ t ∧ (¬ σ 11 i 3 = -1 ∨ 0 < σ 27 i 5))))) σ) : qa cst 65 0 [(0, .ref (cl 27 i)), (1, .int t)] [] σ Q := by
  refine qa_s (pc' := 1) at_65_0 rfl rfl rfl ?_
  refine qa_s (pc' := 2) at_65_1 rfl rfl rfl ?_
  refine qa_getI (nx := 5) at_65_2 rfl (by decide) rfl rfl (show _ < 5 by omega) ?_
  refine qa_icmp_lt (tg := 29) (nx := 8) at_65_5 rfl rfl (fun h65_5 => ?_) (fun h65_5 => ?_)
  · refine qa_ic (nx := 30) (v := nI 0) at_65_29 (by decide) rfl ?_
    refine qa_ret at_65_30 rfl ?_
    exact bi_f1 k (fun ⟨g1, g2⟩ => by first | (exact absurd g1 (by simp only [Int32.le_iff_toInt_le, Int32.lt_iff_toInt_lt] at h65_5 ⊢; omega)) | (exact g2.elim (bi_z h65_15) (fun g => absurd h65_22 (by simp only [Int32.le_iff_toInt_le, Int32.lt_iff_toInt_lt] at g ⊢; omega))))
  · refine qa_s (pc' := 9) at_65_8 rfl rfl rfl ?_
    refine qa_getR (nx := 12) at_65_9 rfl (by decide) rfl rfl (show _ < 5 by omega) ?_
    refine qa_callV (nx := 15) at_65_12 rfl rfl (Nat.le_of_ble_eq_true rfl) rfl rfl rfl (by decide) rfl (show _ < 5 by omega) ?_
    show qa _ 56 0 [(0, .ref _)] [] _ _
    refine c56_q hi ?_
    show qa _ 65 15 _ [.int _] _ _
    refine qa_if_ne (tg := 25) (nx := 18) at_65_15 rfl rfl (fun h65_15 => ?_) (fun h65_15 => ?_)
    · refine qa_ic (nx := 26) (v := nI 1) at_65_25 (by decide) rfl ?_
      refine qa_goto (nx := 30) at_65_26 rfl ?_
      refine qa_ret at_65_30 rfl ?_
      exact bi_t1 k ⟨by simp only [Int32.le_iff_toInt_le, Int32.lt_iff_toInt_lt] at h65_5 ⊢; omega, by first | exact Or.inl (bi_n h65_15) | exact Or.inr (by simp only [Int32.le_iff_toInt_le, Int32.lt_iff_toInt_lt] at h65_22 ⊢; omega)⟩
    · refine qa_s (pc' := 19) at_65_18 rfl rfl rfl ?_
      refine qa_getI (nx := 22) at_65_19 rfl (by decide) rfl rfl (show _ < 5 by omega) ?_
      refine qa_if_le (tg := 29) (nx := 25) at_65_22 rfl rfl (fun h65_22 => ?_) (fun h65_22 => ?_)
      · refine qa_ic (nx := 30) (v := nI 0) at_65_29 (by decide) rfl ?_
        refine qa_ret at_65_30 rfl ?_
        exact bi_f1 k (fun ⟨g1, g2⟩ => by first | (exact absurd g1 (by simp only [Int32.le_iff_toInt_le, Int32.lt_iff_toInt_lt] at h65_5 ⊢; omega)) | (exact g2.elim (bi_z h65_15) (fun g => absurd h65_22 (by simp only [Int32.le_iff_toInt_le, Int32.lt_iff_toInt_lt] at g ⊢; omega))))
      · refine qa_ic (nx := 26) (v := nI 1) at_65_25 (by decide) rfl ?_
        refine qa_goto (nx := 30) at_65_26 rfl ?_
        refine qa_ret at_65_30 rfl ?_
        exact bi_t1 k ⟨by simp only [Int32.le_iff_toInt_le, Int32.lt_iff_toInt_lt] at h65_5 ⊢; omega, by first | exact Or.inl (bi_n h65_15) | exact Or.inr (by simp only [Int32.le_iff_toInt_le, Int32.lt_iff_toInt_lt] at h65_22 ⊢; omega)⟩
theorem c66_q {i : Nat} {t : Int32} (hi : i < 5) (k0 : σ 11 i 3 = -1 → Q none (up (up σ 27 i 4 (t + σ 11 i 1)) 27 i 5 (σ 27 i 5 - nI 1))) (k1 : ¬ σ 11 i 3 = -1 → Q none (up σ 27 i 4 (t + σ 11 i 1))) : qa cst 66 0 [(0, .ref (cl 27 i)), (1, .int t)] [] σ Q := by
  refine qa_s (pc' := 1) at_66_0 rfl rfl rfl ?_
  refine qa_s (pc' := 2) at_66_1 rfl rfl rfl ?_
  refine qa_s (pc' := 3) at_66_2 rfl rfl rfl ?_
  refine qa_getR (nx := 6) at_66_3 rfl (by decide) rfl rfl (show _ < 5 by omega) ?_
  refine qa_getI (nx := 9) at_66_6 rfl (by decide) rfl rfl (show _ < 5 by omega) ?_
  refine qa_s (pc' := 10) at_66_9 rfl rfl rfl ?_
  refine qa_put (nx := 13) at_66_10 rfl (by decide) rfl rfl rfl (show _ < 5 by omega) ?_
  refine qa_s (pc' := 14) at_66_13 rfl rfl rfl ?_
  refine qa_getR (nx := 17) at_66_14 rfl (by decide) rfl rfl (show _ < 5 by omega) ?_
  refine qa_callV (nx := 20) at_66_17 rfl rfl (Nat.le_of_ble_eq_true rfl) rfl rfl rfl (by decide) rfl (show _ < 5 by omega) ?_
  show qa _ 56 0 [(0, .ref _)] [] _ _
  refine c56_q hi ?_
  show qa _ 66 20 _ [.int _] _ _
  refine qa_if_ne (tg := 33) (nx := 23) at_66_20 rfl rfl (fun h66_20 => ?_) (fun h66_20 => ?_)
  · refine qa_ret at_66_33 rfl ?_
    first | exact k1 (bi_n h66_20) | exact k0 (Decidable.not_not.mp (bi_z h66_20))
  · refine qa_s (pc' := 24) at_66_23 rfl rfl rfl ?_
    refine qa_s (pc' := 25) at_66_24 rfl rfl rfl ?_
    refine qa_getV (nx := 28) (v := σ 27 i 5) at_66_25 rfl (by decide) rfl rfl (show _ < 5 by omega) (show _ from by simp [up]) ?_
    refine qa_ic (nx := 29) (v := nI 1) at_66_28 (by decide) rfl ?_
    refine qa_s (pc' := 30) at_66_29 rfl rfl rfl ?_
    refine qa_put (nx := 33) at_66_30 rfl (by decide) rfl rfl rfl (show _ < 5 by omega) ?_
    refine qa_ret at_66_33 rfl ?_
    first | exact k1 (bi_n h66_20) | exact k0 (Decidable.not_not.mp (bi_z h66_20))
def relNC (σ : sg) (i : Nat) (t : Int32) : sg := fl (up (up (up (up (up (up (up (up (up (up (up σ 29 i 0 (nI 1)) 29 i 1 (nI 0)) 29 i 2 (nI 0)) 29 i 3 (nI i)) 29 i 4 (nI 0)) 29 i 5 t) 29 i 6 (nI 0)) 29 i 7 (nI 0)) 29 i 10 (nI 0)) 29 i 11 (nI 0)) 29 i 12 (nI 0)) 30 i 4 (nI 0)
theorem c69_q {i : Nat} {t : Int32} (hi : i < 5) (k : Q none (relNC σ i t)) : qa cst 69 0 [(0, .ref (cl 29 i)), (1, .int (nI i)), (2, .int t)] [] σ Q := by
  refine qa_s (pc' := 1) at_69_0 rfl rfl rfl ?_
  refine qa_ic (nx := 2) (v := nI 1) at_69_1 (by decide) rfl ?_
  refine qa_put (nx := 5) at_69_2 rfl (by decide) rfl (by decide) rfl (show _ < 5 by omega) ?_
  refine qa_s (pc' := 6) at_69_5 rfl rfl rfl ?_
  refine qa_ic (nx := 7) (v := nI 0) at_69_6 (by decide) rfl ?_
  refine qa_put (nx := 10) at_69_7 rfl (by decide) rfl (by decide) rfl (show _ < 5 by omega) ?_
  refine qa_s (pc' := 11) at_69_10 rfl rfl rfl ?_
  refine qa_ic (nx := 12) (v := nI 0) at_69_11 (by decide) rfl ?_
  refine qa_put (nx := 15) at_69_12 rfl (by decide) rfl (by decide) rfl (show _ < 5 by omega) ?_
  refine qa_s (pc' := 16) at_69_15 rfl rfl rfl ?_
  refine qa_s (pc' := 17) at_69_16 rfl rfl rfl ?_
  refine qa_put (nx := 20) at_69_17 rfl (by decide) rfl rfl rfl (show _ < 5 by omega) ?_
  refine qa_s (pc' := 21) at_69_20 rfl rfl rfl ?_
  refine qa_ic (nx := 22) (v := nI 0) at_69_21 (by decide) rfl ?_
  refine qa_put (nx := 25) at_69_22 rfl (by decide) rfl rfl rfl (show _ < 5 by omega) ?_
  refine qa_s (pc' := 26) at_69_25 rfl rfl rfl ?_
  refine qa_s (pc' := 27) at_69_26 rfl rfl rfl ?_
  refine qa_put (nx := 30) at_69_27 rfl (by decide) rfl rfl rfl (show _ < 5 by omega) ?_
  refine qa_s (pc' := 31) at_69_30 rfl rfl rfl ?_
  refine qa_ic (nx := 32) (v := nI 0) at_69_31 (by decide) rfl ?_
  refine qa_put (nx := 35) at_69_32 rfl (by decide) rfl rfl rfl (show _ < 5 by omega) ?_
  refine qa_s (pc' := 36) at_69_35 rfl rfl rfl ?_
  refine qa_ic (nx := 37) (v := nI 0) at_69_36 (by decide) rfl ?_
  refine qa_put (nx := 40) at_69_37 rfl (by decide) rfl rfl rfl (show _ < 5 by omega) ?_
  refine qa_s (pc' := 41) at_69_40 rfl rfl rfl ?_
  refine qa_ic (nx := 42) (v := nI 0) at_69_41 (by decide) rfl ?_
  refine qa_put (nx := 45) at_69_42 rfl (by decide) rfl rfl rfl (show _ < 5 by omega) ?_
  refine qa_s (pc' := 46) at_69_45 rfl rfl rfl ?_
  refine qa_ic (nx := 47) (v := nI 0) at_69_46 (by decide) rfl ?_
  refine qa_put (nx := 50) at_69_47 rfl (by decide) rfl rfl rfl (show _ < 5 by omega) ?_
  refine qa_s (pc' := 51) at_69_50 rfl rfl rfl ?_
  refine qa_ic (nx := 52) (v := nI 0) at_69_51 (by decide) rfl ?_
  refine qa_put (nx := 55) at_69_52 rfl (by decide) rfl rfl rfl (show _ < 5 by omega) ?_
  refine qa_s (pc' := 56) at_69_55 rfl rfl rfl ?_
  refine qa_getR (nx := 59) at_69_56 rfl (by decide) rfl rfl (show _ < 5 by omega) ?_
  refine qa_ic (nx := 60) (v := nI 0) at_69_59 (by decide) rfl ?_
  refine qa_callS (nx := 63) at_69_60 rfl rfl (Nat.le_of_ble_eq_true rfl) rfl rfl (by decide) rfl ?_
  show qa _ 36 0 [(0, .ref _), (1, .int _)] [] _ _
  refine c36_q (by decide) (show _ < _ by exact hi) (fun _ => rfl) (by decide) ?_
  show qa _ 69 63 _ [] _ _
  refine qa_ret at_69_63 rfl ?_
  exact k
theorem c67_q {i : Nat} (hi : i < 5) (k0 : σ 29 i 0 = 0 → Q none (relNC σ i (σ 18 0 7))) (k1 : ¬ σ 29 i 0 = 0 → Q none (entC (up σ 18 0 12 (σ 18 0 12 + nI 1)) (nI 4) (nI i) (σ 18 0 7) (σ 18 0 7 - σ 29 i 5))) : qa cst 67 0 [(0, .ref (cl 18 0)), (1, .int (nI i)), (2, .ref (cl 29 i))] [] σ Q := by
  refine qa_s (pc' := 1) at_67_0 rfl rfl rfl ?_
  refine qa_getI (nx := 4) at_67_1 rfl (by decide) rfl rfl (show _ < 5 by omega) ?_
  refine qa_if_eq (tg := 42) (nx := 7) at_67_4 rfl rfl (fun h67_4 => ?_) (fun h67_4 => ?_)
  · refine qa_s (pc' := 43) at_67_42 rfl rfl rfl ?_
    refine qa_s (pc' := 44) at_67_43 rfl rfl rfl ?_
    refine qa_s (pc' := 45) at_67_44 rfl rfl rfl ?_
    refine qa_getI (nx := 48) at_67_45 rfl (by decide) rfl rfl (by decide) ?_
    refine qa_callV (nx := 51) at_67_48 rfl rfl (Nat.le_of_ble_eq_true rfl) rfl rfl rfl (by decide) rfl (show _ < 5 by omega) ?_
    show qa _ 69 0 [(0, .ref _), (1, .int _), (2, .int _)] [] _ _
    refine c69_q hi ?_
    show qa _ 67 51 _ [] _ _
    refine qa_ret at_67_51 rfl ?_
    first | exact k0 h67_4 | exact k1 h67_4
  · refine qa_s (pc' := 8) at_67_7 rfl rfl rfl ?_
    refine qa_s (pc' := 9) at_67_8 rfl rfl rfl ?_
    refine qa_getI (nx := 12) at_67_9 rfl (by decide) rfl rfl (by decide) ?_
    refine qa_ic (nx := 13) (v := nI 1) at_67_12 (by decide) rfl ?_
    refine qa_s (pc' := 14) at_67_13 rfl rfl rfl ?_
    refine qa_put (nx := 17) at_67_14 rfl (by decide) rfl rfl rfl (by decide) ?_
    refine qa_s (pc' := 18) at_67_17 rfl rfl rfl ?_
    refine qa_getR (nx := 21) at_67_18 rfl (by decide) rfl rfl (by decide) ?_
    refine qa_ic (nx := 22) (v := nI 4) at_67_21 (by decide) rfl ?_
    refine qa_s (pc' := 23) at_67_22 rfl rfl rfl ?_
    refine qa_s (pc' := 24) at_67_23 rfl rfl rfl ?_
    refine qa_getI (nx := 27) at_67_24 rfl (by decide) rfl rfl (by decide) ?_
    refine qa_s (pc' := 28) at_67_27 rfl rfl rfl ?_
    refine qa_getI (nx := 31) at_67_28 rfl (by decide) rfl rfl (by decide) ?_
    refine qa_s (pc' := 32) at_67_31 rfl rfl rfl ?_
    refine qa_getI (nx := 35) at_67_32 rfl (by decide) rfl rfl (show _ < 5 by omega) ?_
    refine qa_s (pc' := 36) at_67_35 rfl rfl rfl ?_
    refine qa_callV (nx := 39) at_67_36 rfl rfl (Nat.le_of_ble_eq_true rfl) rfl rfl rfl (by decide) rfl (by decide) ?_
    show qa _ 68 0 [(0, .ref _), (1, .int _), (2, .int _), (3, .int _), (4, .int _)] [] _ _
    refine c68_q ?_
    show qa _ 67 39 _ [] _ _
    refine qa_goto (nx := 51) at_67_39 rfl ?_
    refine qa_ret at_67_51 rfl ?_
    first | exact k0 h67_4 | exact k1 h67_4
theorem relNC_e {i : Nat} {t : Int32} : relNC σ i t = up (up (up (up (up (up (up (up (up (up (up (up (up (up (up σ 29 i 1 (nI 0)) 29 i 5 t) 29 i 12 (nI 0)) 29 i 6 (nI 0)) 29 i 4 (nI 0)) 29 i 10 (nI 0)) 29 i 11 (nI 0)) 29 i 2 (nI 0)) 29 i 3 (nI i)) 29 i 7 (nI 0)) 29 i 0 (nI 1)) 30 i 0 (nI 0)) 30 i 1 (nI 0)) 30 i 2 (nI 0)) 30 i 3 (nI 0) := by
  unfold relNC
  rw [← fl_s, ← fl_s, ← fl_s, ← fl_s, fl_0]
  have e : ∀ (f g : sg), f = g → up (up (up (up f 30 i 0 (nI 0)) 30 i 1 (nI 0)) 30 i 2 (nI 0)) 30 i 3 (nI 0) = up (up (up (up g 30 i 0 (nI 0)) 30 i 1 (nI 0)) 30 i 2 (nI 0)) 30 i 3 (nI 0) := fun f g h => by rw [h]
  apply e
  funext a' i' j'
  by_cases h1 : a' = 29
  · subst h1
    by_cases h2 : i' = i
    · subst h2
      have hj : j' = 0 ∨ j' = 1 ∨ j' = 2 ∨ j' = 3 ∨ j' = 4 ∨ j' = 5 ∨ j' = 6 ∨ j' = 7 ∨ j' = 10 ∨ j' = 11 ∨ j' = 12 ∨ (j' ≠ 0 ∧ j' ≠ 1 ∧ j' ≠ 2 ∧ j' ≠ 3 ∧ j' ≠ 4 ∧ j' ≠ 5 ∧ j' ≠ 6 ∧ j' ≠ 7 ∧ j' ≠ 10 ∧ j' ≠ 11 ∧ j' ≠ 12) := by omega
      rcases hj with rfl | rfl | rfl | rfl | rfl | rfl | rfl | rfl | rfl | rfl | rfl | ⟨g0, g1, g2, g3, g4, g5, g6, g7, g10, g11, g12⟩
      all_goals first | (simp [up]; done) | simp [up, *]
    · simp [up, h2]
  · simp [up, h1]
theorem relN_e {i : Nat} : relN σ i = up (up (up (up (up (up (up (up (up (up (up (up σ 59 0 i (nI 0)) 60 0 i (σ 40 0 22)) 62 0 i (nI 0)) 63 0 i (nI 0)) 64 0 i (nI 0)) 65 0 i (nI 0)) 66 0 i (nI 0)) 58 0 i (nI 1)) 70 0 (4 * i + 0) (nI 0)) 70 0 (4 * i + 1) (nI 0)) 70 0 (4 * i + 2) (nI 0)) 70 0 (4 * i + 3) (nI 0) := by
  unfold relN
  funext a' i' j'
  by_cases h : a' = 58
  · subst h; simp [up]
  · simp [up, h]
theorem at_rn {i : Nat} (hi : i < 5) (hd : ¬ σ 29 i 0 = 1) (h : Rn T i (mix σ b)) : Rn T i (mix (relNC σ i (σ 18 0 7)) (relN b i)) := by
  have e2 : b 40 0 22 = σ 18 0 7 := h.2.2.1.1
  rw [relNC_e, relN_e, e2]
  exact at_rg hi (by decide) (at_rg hi (by decide) (at_rg hi (by decide) (at_rg hi (by decide) (at_a1 (at_c7 (at_c3 (at_c2 (at_f11 (at_f10 (at_f4 (at_f6 (at_f12 (at_f5 (at_b0 hd h))))))))))))))
theorem cost_pos : ∀ o, o < 15 → nI 0 < mj_COST.getD o 0 := by decide +kernel
theorem actF_0 (c : Nat → Int32) (n : Nat) (a : Int32) : actF c 0 n a = a := by
  induction n with
  | zero => rfl
  | succ n ih => unfold actF; rw [if_neg (fun g => absurd g.1 (by simp)), ih]
theorem rn_job {i : Nat} {t : Int32} (hi : i < T) (h5 : T ≤ 5) (hI : RI (mix σ b)) (hS : Snd T (mix σ b)) : JobOk (mix (relNC σ i t) (relN b i)) i := by
  obtain ⟨z, hz0, hz, ez⟩ := (hS.2 i hi).1
  obtain ⟨o, x, ho, eo, -⟩ := ((hI (3 * i) (by omega)).2 0 (by omega)).2.2.2
  have e10 : mix (relNC σ i t) (relN b i) 10 = mix σ b 10 := rfl
  rw [relNC_e]
  refine ⟨?_, ⟨0, 0, z, o, by decide, ?_, ?_, ez, hz, hz0, Or.inl rfl, eo, ho, 0, ?_, cost_pos o ho⟩, ⟨0, by decide, ?_, ?_, fun s _ h => absurd h (by simp)⟩, Or.inl ?_, fun h => ?_⟩
  · simp [mix, up]; rfl
  · simp [mix, up]
  · simp [mix, up]
  · simp [mix, up]
  · simp [mix, up]
  · rw [actF_0]; simp [mix, up]
  · simp [mix, up]; rfl
  · simp [mix, up] at h; exact absurd h (by decide)
/-- one release -/
theorem release {i : Nat} (hi : i < T) (hR : Rel T (mix σ b)) (h1 : σ 18 0 0 = 1) (hd : dueM b i) {t : Int32} (et : t = σ 18 0 7)
    (k : ∀ σ1, Rel T (mix σ1 (relM b i)) → fr σ1 σ → σ1 18 0 0 = 1 → σ1 18 0 6 = σ 18 0 6 → Q none σ1) : qa cst 66 0 [(0, .ref (cl 27 i)), (1, .int t)] [] σ (fun r0 σ1 => r0 = none ∧ qa cst 67 0 [(0, .ref (cl 18 0)), (1, .int (nI i)), (2, .ref (cl 29 i))] [] σ1 Q) := by
  have h5 : T ≤ 5 := hR.1.1
  have hi5 : i < 5 := by omega
  subst et
  have hN := Rn_of hR h1 i
  obtain ⟨tw, td, tt, ⟨w, hw, w1, w2, w3⟩, t0, tb, tj⟩ := hN.2.2.2.2.2.1 i hi
  have e22 : b 40 0 22 = σ 18 0 7 := hN.2.2.1.1
  have e41 : b 41 0 i = σ 11 i 1 := (hR.2.1 i hi).1
  have e43 : b 43 0 i = σ 11 i 3 := (hR.2.1 i hi).2.2.1
  have eof : σ 11 i 3 = -1 ∨ ∃ o : Nat, o ≤ 5000 ∧ σ 11 i 3 = nI o := (hR.2.1 i hi).2.2.2.2
  have w2' : σ 27 i 5 = nI w := w2
  have w1' : b 73 0 i = nI w := w1
  have hI := hR.2.2.1
  have hS := (hR.2.2.2.2.1 (hR.1.2.2.2.2.2.2.2.2 h1)).2.2
  have fin : ∀ (τ : sg) (w' : Nat) (wv : Int32), (if b 43 0 i < 0 then b 73 0 i - nI 1 else nI 0) = wv → wv = nI w' → τ = up (up σ 27 i 4 (σ 18 0 7 + σ 11 i 1)) 27 i 5 (nI w') → w' ≤ 4 → (¬ σ 11 i 3 = -1 → w' = 0) → qa cst 67 0 [(0, .ref (cl 18 0)), (1, .int (nI i)), (2, .ref (cl 29 i))] [] τ Q := by
    intro τ w' wv ew ew' eτ hw' hw''
    have hN1 : Rn T i (mix τ (rel1 b i wv)) := by
      rw [eτ, ew']
      unfold rel1
      rw [e22, e41]
      exact at_wt hw' hw'' (at_due hN)
    have fτ : fr τ σ := by rw [eτ]; exact fr_up (by decide) (fr_up (by decide) fr_refl)
    have t29 : τ 29 = σ 29 := by rw [eτ, up_k (by decide), up_k (by decide)]
    have t18 : τ 18 = σ 18 := by rw [eτ, up_k (by decide), up_k (by decide)]
    refine c67_q hi5 (fun g => ?_) (fun g => ?_)
    · have g58 : b 58 0 i = 0 := by rw [t29] at g; exact t0.trans g
      refine k _ ?_ ?_ (by rw [show relNC τ i (τ 18 0 7) 18 = τ 18 from by unfold relNC; simp [up_k, fl_k], t18]; exact h1) (by rw [show relNC τ i (τ 18 0 7) 18 = τ 18 from by unfold relNC; simp [up_k, fl_k], t18])
      · rw [relM, if_pos g58, ew]
        refine Rel_of (x := i) (at_rn hi5 (fun f => by rw [g] at f; exact absurd f (by decide)) hN1) (fun _ _ => rn_job hi h5 ?_ ?_)
        · exact hN1.1.2.2.1
        · exact (hN1.1.2.2.2.2.1 (hN1.1.1.2.2.2.2.2.2.2.2 hN1.1.2.2.2.2.2.1)).2.2
      · rw [relNC_e]
        intro a ha
        rw [← fτ a ha]
        repeat rw [up_k (by omega)]
    · have g58 : ¬ b 58 0 i = 0 := by rw [t29] at g; exact fun f => g (t0.symm.trans f)
      have hN2 := Rn_of hR h1 5
      refine k _ ?_ ?_ (by rw [show entC (up τ 18 0 12 (τ 18 0 12 + nI 1)) (nI 4) (nI i) (τ 18 0 7) (τ 18 0 7 - τ 29 i 5) 18 0 0 = τ 18 0 0 from rfl, t18]; exact h1) (by rw [show entC (up τ 18 0 12 (τ 18 0 12 + nI 1)) (nI 4) (nI i) (τ 18 0 7) (τ 18 0 7 - τ 29 i 5) 18 0 6 = τ 18 0 6 from rfl, t18])
      · rw [relM, if_neg g58, ew]
        have hN3 : Rn T 5 (mix τ (rel1 b i wv)) := by
          rw [eτ, ew']
          unfold rel1
          rw [e22, e41]
          exact at_wt hw' hw'' (at_due hN2)
        refine Rel_of (x := 5) ?_ (fun f => absurd f (by omega))
        unfold relL
        have e27 : rel1 b i wv 40 0 27 = τ 18 0 12 := hN3.2.2.1.2.2.2.2.2.1
        have e22' : rel1 b i wv 40 0 22 = τ 18 0 7 := hN3.2.2.1.1
        have e60 : rel1 b i wv 60 0 i = τ 29 i 5 := (hN3.2.1.2.1 i hi5).2.1
        rw [e27, e22', e60]
        exact at_jn (σ := up τ 18 0 12 (τ 18 0 12 + nI 1)) (at_s12 hN3)
      · exact fr_trans entC_fr (fr_up (by decide) fτ)
  refine c66_q hi5 (fun g => ?_) (fun g => ?_)
  · have hb0 : b 43 0 i < 0 := by rw [e43, g]; decide
    have hwp : 0 < w := by
      rcases hd.2 with f | f
      · exact absurd hb0 (by simp only [Int32.le_iff_toInt_le, Int32.lt_iff_toInt_lt] at f ⊢; omega)
      · rw [w1'] at f; exact (nI_0lt (by omega)).mp f
    refine ⟨rfl, fin _ (w - 1) _ (if_pos hb0) (by rw [w1']; exact pk_sub (by omega)) (by rw [w2', pk_sub (show 1 ≤ w by omega)]) (by omega) (fun f => absurd g f)⟩
  · have hb0 : ¬ b 43 0 i < 0 := by
      have := (off_ge eof).mpr g
      rw [e43]
      simp only [Int32.le_iff_toInt_le, Int32.lt_iff_toInt_lt] at this ⊢
      omega
    have w0 := w3 g
    subst w0
    refine ⟨rfl, fin _ 0 _ (if_neg hb0) rfl ?_ (by omega) (fun _ => rfl)⟩
    have e := up_id (σ := up σ 27 i 4 (σ 18 0 7 + σ 11 i 1)) (a := 27) (i := i) (j := 5)
    rw [show up σ 27 i 4 (σ 18 0 7 + σ 11 i 1) 27 i 5 = nI 0 from by rw [up_j (by decide)]; exact w2'] at e
    exact e.symm
theorem c64_l {b σ0 : sg} (h5 : T ≤ 5) (h6 : σ0 18 0 6 = nI T) (k : ∀ σ1, Rel T (mix σ1 (relsM b T)) → fr σ1 σ0 → σ1 18 0 0 = 1 → Q none σ1) : ∀ n i, i + n = T → ∀ σ, Rel T (mix σ (relsM b i)) → fr σ σ0 → σ 18 0 0 = 1 → σ 18 0 6 = nI T → qa cst 64 2 [(0, .ref (cl 18 0)), (1, .int (nI i))] [] σ Q := by
  intro n
  induction n with
  | zero =>
    intro i hi σ hR hf h1 h6
    have e : i = T := by omega
    subst e
    refine qa_s (pc' := 3) at_64_2 rfl rfl rfl ?_
    refine qa_s (pc' := 4) at_64_3 rfl rfl rfl ?_
    refine qa_getV (nx := 7) (v := nI i) at_64_4 rfl (by decide) rfl rfl (by decide) (show _ from h6) ?_
    refine qn_icmp_ge (tg := 59) (nx := 10) at_64_7 rfl rfl (by omega) (by omega) (fun h64_7 => ?_) (fun h64_7 => ?_)
    · refine qa_ret at_64_59 rfl ?_
      exact k _ hR hf h1
    · omega
  | succ n ih =>
    intro i hi σ hR hf h1 h6
    have hiT : i < T := by omega
    have hi5 : i < 5 := by omega
    have hN := Rn_of hR h1 5
    obtain ⟨tw, td, tt, ⟨w, hw, w1, w2, w3⟩, t0, tb, tj⟩ := hN.2.2.2.2.2.1 i hiT
    have e22 : relsM b i 40 0 22 = σ 18 0 7 := hN.2.2.1.1
    have e43 : relsM b i 43 0 i = σ 11 i 3 := (hR.2.1 i hiT).2.2.1
    have eof : σ 11 i 3 = -1 ∨ ∃ o : Nat, o ≤ 5000 ∧ σ 11 i 3 = nI o := (hR.2.1 i hiT).2.2.2.2
    have hdue : (σ 27 i 4 ≤ σ 18 0 7 ∧ (¬ σ 11 i 3 = -1 ∨ 0 < σ 27 i 5)) ↔ dueM (relsM b i) i := by
      unfold dueM
      rw [e22, e43, show relsM b i 72 0 i = σ 27 i 4 from td, show relsM b i 73 0 i = σ 27 i 5 from w1.trans w2.symm, off_ge eof]
    have ih' := ih (i + 1) (by omega)
    refine qa_s (pc' := 3) at_64_2 rfl rfl rfl ?_
    refine qa_s (pc' := 4) at_64_3 rfl rfl rfl ?_
    refine qa_getV (nx := 7) (v := nI T) at_64_4 rfl (by decide) rfl rfl (by decide) (show _ from h6) ?_
    refine qn_icmp_ge (tg := 59) (nx := 10) at_64_7 rfl rfl (by omega) (by omega) (fun h64_7 => ?_) (fun h64_7 => ?_)
    · omega
    · refine qa_s (pc' := 11) at_64_10 rfl rfl rfl ?_
      refine qa_getR (nx := 14) at_64_11 rfl (by decide) rfl rfl (by decide) ?_
      refine qa_s (pc' := 15) at_64_14 rfl rfl rfl ?_
      refine qa_aald (nx := 16) (k := i) at_64_15 (by decide) rfl rfl (by decide) rfl (show i < 5 by omega) ?_
      refine qa_s (pc' := 17) at_64_16 rfl rfl rfl ?_
      refine qa_getI (nx := 20) at_64_17 rfl (by decide) rfl rfl (by decide) ?_
      refine qa_callV (nx := 23) at_64_20 rfl rfl (Nat.le_of_ble_eq_true rfl) rfl rfl rfl (by decide) rfl (show _ < 5 by omega) ?_
      show qa _ 65 0 [(0, .ref _), (1, .int _)] [] _ _
      refine c65_q hi5 ?_
      show qa _ 64 23 _ [.int _] _ _
      refine qa_if_eq (tg := 53) (nx := 26) at_64_23 rfl rfl (fun h64_23 => ?_) (fun h64_23 => ?_)
      · rw [relsM, if_neg (fun g => bi_z h64_23 (hdue.mpr g))] at ih'
        refine qa_incN (nx := 56) (c := 1) at_64_53 (by decide) rfl rfl rfl ?_
        refine qa_goto (nx := 2) at_64_56 rfl ?_
        exact ih' σ hR hf h1 h6
      · have hdu := hdue.mp (bi_n h64_23)
        rw [relsM, if_pos hdu] at ih'
        refine qa_s (pc' := 27) at_64_26 rfl rfl rfl ?_
        refine qa_getR (nx := 30) at_64_27 rfl (by decide) rfl rfl (by decide) ?_
        refine qa_s (pc' := 31) at_64_30 rfl rfl rfl ?_
        refine qa_aald (nx := 32) (k := i) at_64_31 (by decide) rfl rfl (by decide) rfl (show i < 5 by omega) ?_
        refine qa_s (pc' := 33) at_64_32 rfl rfl rfl ?_
        refine qa_getI (nx := 36) at_64_33 rfl (by decide) rfl rfl (by decide) ?_
        refine qa_callV (nx := 39) at_64_36 rfl rfl (Nat.le_of_ble_eq_true rfl) rfl rfl rfl (by decide) rfl (show _ < 5 by omega) ?_
        show qa _ 66 0 [(0, .ref _), (1, .int _)] [] _ _
        have aft : ∀ σ1, Rel T (mix σ1 (relM (relsM b i) i)) → fr σ1 σ → σ1 18 0 0 = 1 → σ1 18 0 6 = σ 18 0 6 → qa cst 64 53 [(0, .ref (cl 18 0)), (1, .int (nI i))] [] σ1 Q := by
          intro σ1 g1 g2 g3 g4
          refine qa_incN (nx := 56) (c := 1) at_64_53 (by decide) rfl rfl rfl ?_
          refine qa_goto (nx := 2) at_64_56 rfl ?_
          exact ih' σ1 g1 (fr_trans g2 hf) g3 (g4.trans h6)
        have hrel := release (cst := cst) (Q := fun r σ1 => qa cst 64 53 [(0, .ref (cl 18 0)), (1, .int (nI i))] (r.toList ++ []) σ1 Q) hiT hR h1 hdu rfl aft
        refine qa_mono hrel (fun r σ1 g => ?_)
        obtain ⟨rfl, g⟩ := g
        show qa _ 64 39 [(0, .ref (cl 18 0)), (1, .int (nI i))] [] _ _
        refine qa_s (pc' := 40) at_64_39 rfl rfl rfl ?_
        refine qa_s (pc' := 41) at_64_40 rfl rfl rfl ?_
        refine qa_s (pc' := 42) at_64_41 rfl rfl rfl ?_
        refine qa_getR (nx := 45) at_64_42 rfl (by decide) rfl rfl (by decide) ?_
        refine qa_s (pc' := 46) at_64_45 rfl rfl rfl ?_
        refine qa_aald (nx := 47) (k := i) at_64_46 (by decide) rfl rfl (by decide) rfl (show i < 5 by omega) ?_
        refine qa_getR (nx := 50) at_64_47 rfl (by decide) rfl rfl (show _ < 5 by omega) ?_
        refine qa_callV (nx := 53) at_64_50 rfl rfl (Nat.le_of_ble_eq_true rfl) rfl rfl rfl (by decide) rfl (by decide) ?_
        show qa _ 67 0 [(0, .ref _), (1, .int _), (2, .ref _)] [] _ _
        exact g
theorem c64_q (hR : Rel T (mix σ b)) (h1 : σ 18 0 0 = 1) (k : ∀ σ1, Rel T (mix σ1 (relsM b T)) → fr σ1 σ → σ1 18 0 0 = 1 → Q none σ1) : qa cst 64 0 [(0, .ref (cl 18 0))] [] σ Q := by
  have h6 : σ 18 0 6 = nI T := (Rn_of hR h1 5).1.2.2.2.2.2.2
  refine qa_ic (nx := 1) (v := nI 0) at_64_0 (by decide) rfl ?_
  refine qa_s (pc' := 2) at_64_1 rfl rfl rfl ?_
  exact c64_l hR.1.1 h6 k T 0 (by omega) σ hR fr_refl h1 h6
end PQ
