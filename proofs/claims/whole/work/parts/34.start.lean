/-! start -/
section PQ
variable {cst : List (List Int32)} {σ : sg} {Q : Option Value → sg → Prop} {T : Nat}
/-- a row filled up to n -/
def fl (σ : sg) (a i n : Nat) (v : Int32) : sg := fun a' i' j' => if a' = a ∧ i' = i ∧ j' < n then v else σ a' i' j'
theorem fl_k {a i n a' : Nat} {v : Int32} (h : a' ≠ a) : fl σ a i n v a' = σ a' := by
  funext i' j'; simp [fl, h]
theorem fl_0 {a i : Nat} {v : Int32} : fl σ a i 0 v = σ := by funext a' i' j'; simp [fl]
theorem fl_s {a i n : Nat} {v : Int32} : up (fl σ a i n v) a i n v = fl σ a i (n + 1) v := by
  funext a' i' j'
  simp only [fl, up]
  by_cases h1 : a' = a
  · by_cases h2 : i' = i
    · by_cases h3 : j' = n
      · simp [h1, h2, h3]
      · have h4 : (j' < n + 1) ↔ (j' < n) := by omega
        simp [h1, h2, h3, h4]
    · simp [h1, h2]
  · simp [h1]
theorem c36_q {a i : Nat} {v : Int32} (ht : kd_tag a = 20) (hi : i < kd_cnt a) (hr : ∀ k, kd_ref a i k = none) (hl : kd_len a < 200) (k : Q none (fl σ a i (kd_len a) v)) : qa cst 36 0 [(0, .ref (cl a i)), (1, .int v)] [] σ Q := by
  have lp : ∀ n s, s + n = kd_len a → qa cst 36 5 [(0, .ref (cl a i)), (1, .int v), (2, .int (nI s)), (3, .int (nI (kd_len a)))] [] (fl σ a i s v) Q := by
    intro n
    induction n with
    | zero =>
      intro s hs
      refine qa_s (pc' := 6) at_36_5 rfl rfl rfl ?_
      refine qa_s (pc' := 7) at_36_6 rfl rfl rfl ?_
      refine qn_icmp_ge (tg := 20) (nx := 10) at_36_7 rfl rfl (by omega) (by omega) (fun h => ?_) (fun h => by omega)
      have e : s = kd_len a := by omega
      subst e
      exact qa_ret at_36_20 rfl k
    | succ n ih =>
      intro s hs
      refine qa_s (pc' := 6) at_36_5 rfl rfl rfl ?_
      refine qa_s (pc' := 7) at_36_6 rfl rfl rfl ?_
      refine qn_icmp_ge (tg := 20) (nx := 10) at_36_7 rfl rfl (by omega) (by omega) (fun h => by omega) (fun h => ?_)
      refine qa_s (pc' := 11) at_36_10 rfl rfl rfl ?_
      refine qa_s (pc' := 12) at_36_11 rfl rfl rfl ?_
      refine qa_s (pc' := 13) at_36_12 rfl rfl rfl ?_
      refine qa_iast (nx := 14) (k := s) at_36_13 ht rfl (hr s) hi rfl (by omega) ?_
      rw [fl_s]
      refine qa_incN (nx := 17) (c := 1) at_36_14 (by decide) rfl rfl rfl ?_
      refine qa_goto (nx := 5) at_36_17 rfl ?_
      exact ih (s + 1) (by omega)
  refine qa_ic (nx := 1) (v := nI 0) at_36_0 (by decide) rfl ?_
  refine qa_s (pc' := 2) at_36_1 rfl rfl rfl ?_
  refine qa_s (pc' := 3) at_36_2 rfl rfl rfl ?_
  refine qa_alen (nx := 4) at_36_3 ⟨by omega, by omega⟩ rfl hi ?_
  refine qa_s (pc' := 5) at_36_4 rfl rfl rfl ?_
  have := lp (kd_len a) 0 (by omega)
  rw [fl_0] at this
  exact this
/-- the posts below n reset -/
def rsC (σ : sg) (n : Nat) : sg := fun a k j => if k < n ∧ ((a = 29 ∧ j = 0) ∨ (a = 28 ∧ j < 8) ∨ (a = 27 ∧ (j = 3 ∨ j = 5))) then nI 0 else if k < n ∧ a = 27 ∧ j = 4 then (if σ 11 k 3 = -1 then nI 0 else σ 11 k 3) else σ a k j
theorem rsC_k {n a : Nat} (h7 : a ≠ 27) (h8 : a ≠ 28) (h9 : a ≠ 29) : rsC σ n a = σ a := by
  funext k j; simp [rsC, h7, h8, h9]
theorem rsC_0 : rsC σ 0 = σ := by funext a k j; simp [rsC]
theorem rsC_s {i : Nat} : up (up (up (fl (up (rsC σ i) 29 i 0 (nI 0)) 28 i 8 (nI 0)) 27 i 3 (nI 0)) 27 i 4 (if σ 11 i 3 = -1 then nI 0 else σ 11 i 3)) 27 i 5 (nI 0) = rsC σ (i + 1) := by
  funext a k j
  by_cases h : k = i
  · subst h
    by_cases h7 : a = 27
    · subst h7
      by_cases j3 : j = 3
      · subst j3; simp [up, fl, rsC]
      · by_cases j4 : j = 4
        · subst j4; simp [up, fl, rsC]
        · by_cases j5 : j = 5
          · subst j5; simp [up, fl, rsC]
          · simp [up, fl, rsC, j3, j4, j5]
    · by_cases h8 : a = 28
      · subst h8
        by_cases j8 : j < 8 <;> simp [up, fl, rsC, j8]
      · by_cases h9 : a = 29
        · subst h9
          by_cases j0 : j = 0 <;> simp [up, fl, rsC, j0]
        · simp [up, fl, rsC, h7, h8, h9]
  · have hk : (k < i + 1) ↔ (k < i) := by omega
    simp [up, fl, rsC, h, hk]
theorem c56_q {i : Nat} (hi : i < 5) (k : Q (some (.int (bi (¬ σ 11 i 3 = -1)))) σ) : qa cst 56 0 [(0, .ref (cl 11 i))] [] σ Q := by
  refine qa_s (pc' := 1) at_56_0 rfl rfl rfl ?_
  refine qa_getI (nx := 4) at_56_1 rfl (by decide) rfl rfl (show _ < 5 by omega) ?_
  refine qa_ic (nx := 5) (v := (-1)) at_56_4 (by decide) rfl ?_
  refine qa_icmp_eq (tg := 12) (nx := 8) at_56_5 rfl rfl (fun h56_5 => ?_) (fun h56_5 => ?_)
  · refine qa_ic (nx := 13) (v := nI 0) at_56_12 (by decide) rfl ?_
    refine qa_ret at_56_13 rfl ?_
    exact bi_f1 k (fun h => h h56_5)
  · refine qa_ic (nx := 9) (v := nI 1) at_56_8 (by decide) rfl ?_
    refine qa_goto (nx := 13) at_56_9 rfl ?_
    refine qa_ret at_56_13 rfl ?_
    exact bi_t1 k h56_5
theorem c55_q {i : Nat} (hi : i < 5) (k : Q none (up (up (up (fl (up σ 29 i 0 (nI 0)) 28 i 8 (nI 0)) 27 i 3 (nI 0)) 27 i 4 (if σ 11 i 3 = -1 then nI 0 else σ 11 i 3)) 27 i 5 (nI 0))) : qa cst 55 0 [(0, .ref (cl 27 i))] [] σ Q := by
  refine qa_s (pc' := 1) at_55_0 rfl rfl rfl ?_
  refine qa_getR (nx := 4) at_55_1 rfl (by decide) rfl rfl (show _ < 5 by omega) ?_
  refine qa_ic (nx := 5) (v := nI 0) at_55_4 (by decide) rfl ?_
  refine qa_put (nx := 8) at_55_5 rfl (by decide) rfl (by decide) rfl (show _ < 5 by omega) ?_
  refine qa_s (pc' := 9) at_55_8 rfl rfl rfl ?_
  refine qa_getR (nx := 12) at_55_9 rfl (by decide) rfl rfl (show _ < 5 by omega) ?_
  refine qa_ic (nx := 13) (v := nI 0) at_55_12 (by decide) rfl ?_
  refine qa_callS (nx := 16) at_55_13 rfl rfl (Nat.le_of_ble_eq_true rfl) rfl rfl (by decide) rfl ?_
  show qa _ 36 0 [(0, .ref _), (1, .int _)] [] _ _
  refine c36_q (by decide) (show _ < _ by exact hi) (fun _ => rfl) (by decide) ?_
  show qa _ 55 16 _ [] _ _
  refine qa_s (pc' := 17) at_55_16 rfl rfl rfl ?_
  refine qa_ic (nx := 18) (v := nI 0) at_55_17 (by decide) rfl ?_
  refine qa_put (nx := 21) at_55_18 rfl (by decide) rfl rfl rfl (show _ < 5 by omega) ?_
  refine qa_s (pc' := 22) at_55_21 rfl rfl rfl ?_
  refine qa_s (pc' := 23) at_55_22 rfl rfl rfl ?_
  refine qa_getR (nx := 26) at_55_23 rfl (by decide) rfl rfl (show _ < 5 by omega) ?_
  refine qa_callV (nx := 29) at_55_26 rfl rfl (Nat.le_of_ble_eq_true rfl) rfl rfl rfl (by decide) rfl (show _ < 5 by omega) ?_
  show qa _ 56 0 [(0, .ref _)] [] _ _
  refine c56_q hi ?_
  show qa _ 55 29 _ [.int _, .ref _] _ _
  refine qa_if_eq (tg := 42) (nx := 32) at_55_29 rfl rfl (fun h55_29 => ?_) (fun h55_29 => ?_)
  · have h55 : σ 11 i 3 = -1 := Decidable.not_not.mp (bi_z h55_29)
    refine qa_ic (nx := 43) (v := nI 0) at_55_42 (by decide) rfl ?_
    refine qa_put (nx := 46) at_55_43 rfl (by decide) rfl rfl rfl (show _ < 5 by omega) ?_
    refine qa_s (pc' := 47) at_55_46 rfl rfl rfl ?_
    refine qa_ic (nx := 48) (v := nI 0) at_55_47 (by decide) rfl ?_
    refine qa_put (nx := 51) at_55_48 rfl (by decide) rfl rfl rfl (show _ < 5 by omega) ?_
    refine qa_ret at_55_51 rfl ?_
    first | (rw [if_neg h55] at k; exact k) | (rw [if_pos h55] at k; exact k)
  · have h55 : ¬ σ 11 i 3 = -1 := bi_n h55_29
    refine qa_s (pc' := 33) at_55_32 rfl rfl rfl ?_
    refine qa_getR (nx := 36) at_55_33 rfl (by decide) rfl rfl (show _ < 5 by omega) ?_
    refine qa_getI (nx := 39) at_55_36 rfl (by decide) rfl rfl (show _ < 5 by omega) ?_
    refine qa_goto (nx := 43) at_55_39 rfl ?_
    refine qa_put (nx := 46) at_55_43 rfl (by decide) rfl rfl rfl (show _ < 5 by omega) ?_
    refine qa_s (pc' := 47) at_55_46 rfl rfl rfl ?_
    refine qa_ic (nx := 48) (v := nI 0) at_55_47 (by decide) rfl ?_
    refine qa_put (nx := 51) at_55_48 rfl (by decide) rfl rfl rfl (show _ < 5 by omega) ?_
    refine qa_ret at_55_51 rfl ?_
    first | (rw [if_neg h55] at k; exact k) | (rw [if_pos h55] at k; exact k)
abbrev bg0 (σ : sg) (T : Nat) : sg := up (up (fl (up (up (up (up (up (up (up (up (up (up σ 18 0 0 (nI 1)) 18 0 6 (nI T)) 18 0 7 (nI 0)) 18 0 8 (-1)) 18 0 9 (-1)) 18 0 10 (nI 0)) 18 0 11 (nI 0)) 18 0 12 (nI 0)) 18 0 13 (nI 0)) 21 0 0 (nI 0)) 20 0 2 (nI 0)) 35 0 1 (nI 0)) 35 1 1 (nI 0)
theorem c53_l (h5 : T ≤ 5) (k : Q none (rsC σ T)) : ∀ n i, i + n = T → qa cst 53 85 [(0, .ref (cl 18 0)), (1, .int (nI T)), (2, .int (nI i))] [] (rsC σ i) Q := by
  intro n
  induction n with
  | zero =>
    intro i hi
    refine qa_s (pc' := 86) at_53_85 rfl rfl rfl ?_
    refine qa_s (pc' := 87) at_53_86 rfl rfl rfl ?_
    refine qn_icmp_ge (tg := 105) (nx := 90) at_53_87 rfl rfl (by omega) (by omega) (fun h53_87 => ?_) (fun h53_87 => ?_)
    · refine qa_ret at_53_105 rfl ?_
      have e : i = T := by omega
      subst e
      exact k
    · omega
  | succ n ih =>
    intro i hi
    have hi5 : i < 5 := by omega
    refine qa_s (pc' := 86) at_53_85 rfl rfl rfl ?_
    refine qa_s (pc' := 87) at_53_86 rfl rfl rfl ?_
    refine qn_icmp_ge (tg := 105) (nx := 90) at_53_87 rfl rfl (by omega) (by omega) (fun h53_87 => ?_) (fun h53_87 => ?_)
    · omega
    · refine qa_s (pc' := 91) at_53_90 rfl rfl rfl ?_
      refine qa_getR (nx := 94) at_53_91 rfl (by decide) rfl rfl (by decide) ?_
      refine qa_s (pc' := 95) at_53_94 rfl rfl rfl ?_
      refine qa_aald (nx := 96) (k := i) at_53_95 (by decide) rfl rfl (by decide) rfl (show i < 5 by omega) ?_
      refine qa_callV (nx := 99) at_53_96 rfl rfl (Nat.le_of_ble_eq_true rfl) rfl rfl rfl (by decide) rfl (show _ < 5 by omega) ?_
      show qa _ 55 0 [(0, .ref _)] [] _ _
      refine c55_q hi5 ?_
      rw [show (rsC σ i 11 : Nat → Nat → Int32) = σ 11 from rsC_k (by decide) (by decide) (by decide), rsC_s]
      show qa _ 53 99 _ [] _ _
      refine qa_incN (nx := 102) (c := 1) at_53_99 (by decide) rfl rfl rfl ?_
      refine qa_goto (nx := 85) at_53_102 rfl ?_
      exact ih (i + 1) (by omega)
theorem c53_q (h5 : T ≤ 5) (k : Q none (rsC (bg0 σ T) T)) : qa cst 53 0 [(0, .ref (cl 18 0)), (1, .int (nI T))] [] σ Q := by
  refine qa_s (pc' := 1) at_53_0 rfl rfl rfl ?_
  refine qa_ic (nx := 2) (v := nI 1) at_53_1 (by decide) rfl ?_
  refine qa_put (nx := 5) at_53_2 rfl (by decide) rfl (by decide) rfl (by decide) ?_
  refine qa_s (pc' := 6) at_53_5 rfl rfl rfl ?_
  refine qa_s (pc' := 7) at_53_6 rfl rfl rfl ?_
  refine qa_put (nx := 10) at_53_7 rfl (by decide) rfl rfl rfl (by decide) ?_
  refine qa_s (pc' := 11) at_53_10 rfl rfl rfl ?_
  refine qa_ic (nx := 12) (v := nI 0) at_53_11 (by decide) rfl ?_
  refine qa_put (nx := 15) at_53_12 rfl (by decide) rfl rfl rfl (by decide) ?_
  refine qa_s (pc' := 16) at_53_15 rfl rfl rfl ?_
  refine qa_ic (nx := 17) (v := (-1)) at_53_16 (by decide) rfl ?_
  refine qa_put (nx := 20) at_53_17 rfl (by decide) rfl rfl rfl (by decide) ?_
  refine qa_s (pc' := 21) at_53_20 rfl rfl rfl ?_
  refine qa_ic (nx := 22) (v := (-1)) at_53_21 (by decide) rfl ?_
  refine qa_put (nx := 25) at_53_22 rfl (by decide) rfl rfl rfl (by decide) ?_
  refine qa_s (pc' := 26) at_53_25 rfl rfl rfl ?_
  refine qa_ic (nx := 27) (v := nI 0) at_53_26 (by decide) rfl ?_
  refine qa_put (nx := 30) at_53_27 rfl (by decide) rfl rfl rfl (by decide) ?_
  refine qa_s (pc' := 31) at_53_30 rfl rfl rfl ?_
  refine qa_ic (nx := 32) (v := nI 0) at_53_31 (by decide) rfl ?_
  refine qa_put (nx := 35) at_53_32 rfl (by decide) rfl rfl rfl (by decide) ?_
  refine qa_s (pc' := 36) at_53_35 rfl rfl rfl ?_
  refine qa_ic (nx := 37) (v := nI 0) at_53_36 (by decide) rfl ?_
  refine qa_put (nx := 40) at_53_37 rfl (by decide) rfl rfl rfl (by decide) ?_
  refine qa_s (pc' := 41) at_53_40 rfl rfl rfl ?_
  refine qa_ic (nx := 42) (v := nI 0) at_53_41 (by decide) rfl ?_
  refine qa_put (nx := 45) at_53_42 rfl (by decide) rfl rfl rfl (by decide) ?_
  refine qa_s (pc' := 46) at_53_45 rfl rfl rfl ?_
  refine qa_getR (nx := 49) at_53_46 rfl (by decide) rfl rfl (by decide) ?_
  refine qa_ic (nx := 50) (v := nI 0) at_53_49 (by decide) rfl ?_
  refine qa_put (nx := 53) at_53_50 rfl (by decide) rfl rfl rfl (by decide) ?_
  refine qa_s (pc' := 54) at_53_53 rfl rfl rfl ?_
  refine qa_getR (nx := 57) at_53_54 rfl (by decide) rfl rfl (by decide) ?_
  refine qa_ic (nx := 58) (v := nI 0) at_53_57 (by decide) rfl ?_
  refine qa_callS (nx := 61) at_53_58 rfl rfl (Nat.le_of_ble_eq_true rfl) rfl rfl (by decide) rfl ?_
  show qa _ 36 0 [(0, .ref _), (1, .int _)] [] _ _
  refine c36_q (by decide) (by decide) (fun _ => rfl) (by decide) ?_
  show qa _ 53 61 _ [] _ _
  refine qa_ic (nx := 62) (v := nI 0) at_53_61 (by decide) rfl ?_
  refine qa_s (pc' := 63) at_53_62 rfl rfl rfl ?_
  refine qa_s (pc' := 64) at_53_63 rfl rfl rfl ?_
  refine qa_ic (nx := 65) (v := nI 2) at_53_64 (by decide) rfl ?_
  refine qn_icmp_ge (tg := 83) (nx := 68) at_53_65 rfl rfl (by decide) (by decide) (fun h => absurd h (by decide)) (fun h53_65 => ?_)
  refine qa_s (pc' := 69) at_53_68 rfl rfl rfl ?_
  refine qa_getR (nx := 72) at_53_69 rfl (by decide) rfl rfl (by decide) ?_
  refine qa_s (pc' := 73) at_53_72 rfl rfl rfl ?_
  refine qa_aald (nx := 74) (k := 0) at_53_73 (by decide) rfl rfl (by decide) rfl (show 0 < 2 by omega) ?_
  refine qa_callV (nx := 77) at_53_74 rfl rfl (Nat.le_of_ble_eq_true rfl) rfl rfl rfl (by decide) rfl (by decide) ?_
  show qa _ 54 0 [(0, .ref _)] [] _ _
  refine qa_s (pc' := 1) at_54_0 rfl rfl rfl ?_
  refine qa_ic (nx := 2) (v := nI 0) at_54_1 (by decide) rfl ?_
  refine qa_put (nx := 5) at_54_2 rfl (by decide) rfl rfl rfl (by decide) ?_
  refine qa_ret at_54_5 rfl ?_
  show qa _ 53 77 _ [] _ _
  refine qa_incN (nx := 80) (c := 1) at_53_77 (by decide) rfl rfl rfl ?_
  refine qa_goto (nx := 63) at_53_80 rfl ?_
  refine qa_s (pc' := 64) at_53_63 rfl rfl rfl ?_
  refine qa_ic (nx := 65) (v := nI 2) at_53_64 (by decide) rfl ?_
  refine qn_icmp_ge (tg := 83) (nx := 68) at_53_65 rfl rfl (by decide) (by decide) (fun h => absurd h (by decide)) (fun h53_65 => ?_)
  refine qa_s (pc' := 69) at_53_68 rfl rfl rfl ?_
  refine qa_getR (nx := 72) at_53_69 rfl (by decide) rfl rfl (by decide) ?_
  refine qa_s (pc' := 73) at_53_72 rfl rfl rfl ?_
  refine qa_aald (nx := 74) (k := 1) at_53_73 (by decide) rfl rfl (by decide) rfl (show 1 < 2 by omega) ?_
  refine qa_callV (nx := 77) at_53_74 rfl rfl (Nat.le_of_ble_eq_true rfl) rfl rfl rfl (by decide) rfl (show _ < 2 by omega) ?_
  show qa _ 54 0 [(0, .ref _)] [] _ _
  refine qa_s (pc' := 1) at_54_0 rfl rfl rfl ?_
  refine qa_ic (nx := 2) (v := nI 0) at_54_1 (by decide) rfl ?_
  refine qa_put (nx := 5) at_54_2 rfl (by decide) rfl rfl rfl (show _ < 2 by omega) ?_
  refine qa_ret at_54_5 rfl ?_
  show qa _ 53 77 _ [] _ _
  refine qa_incN (nx := 80) (c := 1) at_53_77 (by decide) rfl rfl rfl ?_
  refine qa_goto (nx := 63) at_53_80 rfl ?_
  refine qa_s (pc' := 64) at_53_63 rfl rfl rfl ?_
  refine qa_ic (nx := 65) (v := nI 2) at_53_64 (by decide) rfl ?_
  refine qn_icmp_ge (tg := 83) (nx := 68) at_53_65 rfl rfl (by decide) (by decide) (fun h53_65 => ?_) (fun h => absurd h (by decide))
  refine qa_ic (nx := 84) (v := nI 0) at_53_83 (by decide) rfl ?_
  refine qa_s (pc' := 85) at_53_84 rfl rfl rfl ?_
  have hl := c53_l (cst := cst) (σ := bg0 σ T) h5 k T 0 (by omega)
  rw [rsC_0] at hl
  exact hl
theorem c52_q (h04 : σ 0 0 4 = nI T) (h5 : T ≤ 5) (k0 : ¬ (σ 18 0 0 = 0 ∧ ¬ σ 4 0 0 = 0) → Q (some (.int (nI 0))) σ) (k1 : σ 18 0 0 = 0 → ¬ σ 4 0 0 = 0 → Q (some (.int (nI 1))) (rsC (bg0 σ T) T)) : qa cst 52 0 [(0, .ref (cl 0 0))] [] σ Q := by
  refine qa_s (pc' := 1) at_52_0 rfl rfl rfl ?_
  refine qa_getR (nx := 4) at_52_1 rfl (by decide) rfl rfl (by decide) ?_
  refine qa_getI (nx := 7) at_52_4 rfl (by decide) rfl rfl (by decide) ?_
  refine qa_if_ne (tg := 20) (nx := 10) at_52_7 rfl rfl (fun h52_7 => ?_) (fun h52_7 => ?_)
  · refine qa_ic (nx := 21) (v := nI 0) at_52_20 (by decide) rfl ?_
    refine qa_ret at_52_21 rfl ?_
    exact k0 (fun ⟨g0, g1⟩ => by first | exact h52_7 g0 | exact g1 h52_17)
  · refine qa_s (pc' := 11) at_52_10 rfl rfl rfl ?_
    refine qa_getR (nx := 14) at_52_11 rfl (by decide) rfl rfl (by decide) ?_
    refine qa_getI (nx := 17) at_52_14 rfl (by decide) rfl rfl (by decide) ?_
    refine qa_if_ne (tg := 22) (nx := 20) at_52_17 rfl rfl (fun h52_17 => ?_) (fun h52_17 => ?_)
    · refine qa_s (pc' := 23) at_52_22 rfl rfl rfl ?_
      refine qa_getR (nx := 26) at_52_23 rfl (by decide) rfl rfl (by decide) ?_
      refine qa_s (pc' := 27) at_52_26 rfl rfl rfl ?_
      refine qa_getV (nx := 30) (v := nI T) at_52_27 rfl (by decide) rfl rfl (by decide) (show _ from h04) ?_
      refine qa_callV (nx := 33) at_52_30 rfl rfl (Nat.le_of_ble_eq_true rfl) rfl rfl rfl (by decide) rfl (by decide) ?_
      show qa _ 53 0 [(0, .ref _), (1, .int _)] [] _ _
      refine c53_q h5 ?_
      show qa _ 52 33 _ [] _ _
      refine qa_ic (nx := 34) (v := nI 1) at_52_33 (by decide) rfl ?_
      refine qa_ret at_52_34 rfl ?_
      exact k1 h52_7 h52_17
    · refine qa_ic (nx := 21) (v := nI 0) at_52_20 (by decide) rfl ?_
      refine qa_ret at_52_21 rfl ?_
      exact k0 (fun ⟨g0, g1⟩ => by first | exact h52_7 g0 | exact g1 h52_17)
/-- the reference's tasks below n -/
def rsM (σ : sg) (n : Nat) : sg := fun a k j => if k = 0 ∧ j < n ∧ (a = 58 ∨ a = 73 ∨ a = 74) then nI 0 else if k = 0 ∧ j < n ∧ a = 72 then (if σ 43 0 j < 0 then nI 0 else σ 43 0 j) else σ a k j
theorem rsM_k {n a : Nat} (h7 : a ≠ 58) (h8 : a ≠ 72) (h9 : a ≠ 73) (h6 : a ≠ 74) : rsM σ n a = σ a := by
  funext k j; simp [rsM, h7, h8, h9, h6]
theorem rsM_0 : rsM σ 0 = σ := by funext a k j; simp [rsM]
theorem rsM_s {i : Nat} : up (up (up (up (rsM σ i) 58 0 i (nI 0)) 72 0 i (if σ 43 0 i < 0 then nI 0 else σ 43 0 i)) 73 0 i (nI 0)) 74 0 i (nI 0) = rsM σ (i + 1) := by
  funext a k j
  by_cases h : j = i
  · subst h
    by_cases hk : k = 0
    · subst hk
      by_cases h1 : a = 58
      · subst h1; simp [up, rsM]
      · by_cases h2 : a = 72
        · subst h2; simp [up, rsM]
        · by_cases h3 : a = 73
          · subst h3; simp [up, rsM]
          · by_cases h4 : a = 74
            · subst h4; simp [up, rsM]
            · simp [up, rsM, h1, h2, h3, h4]
    · simp [up, rsM, hk]
  · have hk : (j < i + 1) ↔ (j < i) := by omega
    simp [up, rsM, h, hk]
theorem c126_l (k : ∀ v, qa cst 126 120 [(0, .ref (cl 40 0)), (1, .int v)] [] (rsM σ 5) Q) : ∀ n i, i + n = 5 → qa cst 126 63 [(0, .ref (cl 40 0)), (1, .int (nI i))] [] (rsM σ i) Q := by
  intro n
  induction n with
  | zero =>
    intro i hi
    refine qa_s (pc' := 64) at_126_63 rfl rfl rfl ?_
    refine qa_ic (nx := 65) (v := nI 5) at_126_64 (by decide) rfl ?_
    refine qn_icmp_ge (tg := 120) (nx := 68) at_126_65 rfl rfl (by omega) (by omega) (fun h126_65 => ?_) (fun h126_65 => ?_)
    · have e : i = 5 := by omega
      subst e
      exact k _
    · omega
  | succ n ih =>
    intro i hi
    have hi5 : i < 5 := by omega
    have step : ∀ v, v = (if σ 43 0 i < 0 then nI 0 else σ 43 0 i) → qa cst 126 99 [(0, .ref (cl 40 0)), (1, .int (nI i))] [.int v, .int (nI i), .ref (cl 72 0)] (up (rsM σ i) 58 0 i (nI 0)) Q := by
      intro v hv
      subst hv
      refine qa_iast (nx := 100) (k := i) at_126_99 rfl rfl rfl (by decide) rfl (show i < 5 by omega) ?_
      refine qa_s (pc' := 101) at_126_100 rfl rfl rfl ?_
      refine qa_getR (nx := 104) at_126_101 rfl (by decide) rfl rfl (by decide) ?_
      refine qa_s (pc' := 105) at_126_104 rfl rfl rfl ?_
      refine qa_ic (nx := 106) (v := nI 0) at_126_105 (by decide) rfl ?_
      refine qa_iast (nx := 107) (k := i) at_126_106 rfl rfl rfl (by decide) rfl (show i < 5 by omega) ?_
      refine qa_s (pc' := 108) at_126_107 rfl rfl rfl ?_
      refine qa_getR (nx := 111) at_126_108 rfl (by decide) rfl rfl (by decide) ?_
      refine qa_s (pc' := 112) at_126_111 rfl rfl rfl ?_
      refine qa_ic (nx := 113) (v := nI 0) at_126_112 (by decide) rfl ?_
      refine qa_iast (nx := 114) (k := i) at_126_113 rfl rfl rfl (by decide) rfl (show i < 5 by omega) ?_
      refine qa_incN (nx := 117) (c := 1) at_126_114 (by decide) rfl rfl rfl ?_
      refine qa_goto (nx := 63) at_126_117 rfl ?_
      rw [rsM_s]
      exact ih (i + 1) (by omega)
    have e43 : up (rsM σ i) 58 0 i (nI 0) 43 = σ 43 := by rw [up_k (by decide), rsM_k (by decide) (by decide) (by decide) (by decide)]
    refine qa_s (pc' := 64) at_126_63 rfl rfl rfl ?_
    refine qa_ic (nx := 65) (v := nI 5) at_126_64 (by decide) rfl ?_
    refine qn_icmp_ge (tg := 120) (nx := 68) at_126_65 rfl rfl (by omega) (by omega) (fun h126_65 => ?_) (fun h126_65 => ?_)
    · omega
    · refine qa_s (pc' := 69) at_126_68 rfl rfl rfl ?_
      refine qa_getR (nx := 72) at_126_69 rfl (by decide) rfl rfl (by decide) ?_
      refine qa_s (pc' := 73) at_126_72 rfl rfl rfl ?_
      refine qa_ic (nx := 74) (v := nI 0) at_126_73 (by decide) rfl ?_
      refine qa_zast (nx := 75) (k := i) at_126_74 rfl rfl rfl (by decide) (by decide) rfl (show i < 5 by omega) ?_
      refine qa_s (pc' := 76) at_126_75 rfl rfl rfl ?_
      refine qa_getR (nx := 79) at_126_76 rfl (by decide) rfl rfl (by decide) ?_
      refine qa_s (pc' := 80) at_126_79 rfl rfl rfl ?_
      refine qa_s (pc' := 81) at_126_80 rfl rfl rfl ?_
      refine qa_getR (nx := 84) at_126_81 rfl (by decide) rfl rfl (by decide) ?_
      refine qa_s (pc' := 85) at_126_84 rfl rfl rfl ?_
      refine qa_ialdV (nx := 86) (k := i) (v := σ 43 0 i) at_126_85 rfl rfl rfl (by decide) rfl (show i < 5 by omega) (show _ from by rw [e43]) ?_
      refine qa_if_ge (tg := 93) (nx := 89) at_126_86 rfl rfl (fun h126_86 => ?_) (fun h126_86 => ?_)
      · refine qa_s (pc' := 94) at_126_93 rfl rfl rfl ?_
        refine qa_getR (nx := 97) at_126_94 rfl (by decide) rfl rfl (by decide) ?_
        refine qa_s (pc' := 98) at_126_97 rfl rfl rfl ?_
        refine qa_ialdV (nx := 99) (k := i) (v := σ 43 0 i) at_126_98 rfl rfl rfl (by decide) rfl (show i < 5 by omega) (show _ from by rw [e43]) ?_
        first | exact step _ (by rw [if_pos (by simp only [Int32.le_iff_toInt_le, Int32.lt_iff_toInt_lt] at *; omega)]) | exact step _ (by rw [if_neg (by simp only [Int32.le_iff_toInt_le, Int32.lt_iff_toInt_lt] at *; omega)])
      · refine qa_ic (nx := 90) (v := nI 0) at_126_89 (by decide) rfl ?_
        refine qa_goto (nx := 99) at_126_90 rfl ?_
        first | exact step _ (by rw [if_pos (by simp only [Int32.le_iff_toInt_le, Int32.lt_iff_toInt_lt] at *; omega)]) | exact step _ (by rw [if_neg (by simp only [Int32.le_iff_toInt_le, Int32.lt_iff_toInt_lt] at *; omega)])
theorem c126_w (k : ∀ v, qa cst 126 141 [(0, .ref (cl 40 0)), (1, .int v)] [] (fl σ 71 0 40 (nI 0)) Q) : ∀ n i, i + n = 40 → qa cst 126 122 [(0, .ref (cl 40 0)), (1, .int (nI i))] [] (fl σ 71 0 i (nI 0)) Q := by
  intro n
  induction n with
  | zero =>
    intro i hi
    refine qa_s (pc' := 123) at_126_122 rfl rfl rfl ?_
    refine qa_bi (nx := 125) (v := nI 40) at_126_123 (by decide) rfl ?_
    refine qn_icmp_ge (tg := 141) (nx := 128) at_126_125 rfl rfl (by omega) (by omega) (fun h126_125 => ?_) (fun h126_125 => ?_)
    · have e : i = 40 := by omega
      subst e
      exact k _
    · omega
  | succ n ih =>
    intro i hi
    refine qa_s (pc' := 123) at_126_122 rfl rfl rfl ?_
    refine qa_bi (nx := 125) (v := nI 40) at_126_123 (by decide) rfl ?_
    refine qn_icmp_ge (tg := 141) (nx := 128) at_126_125 rfl rfl (by omega) (by omega) (fun h126_125 => ?_) (fun h126_125 => ?_)
    · omega
    · refine qa_s (pc' := 129) at_126_128 rfl rfl rfl ?_
      refine qa_getR (nx := 132) at_126_129 rfl (by decide) rfl rfl (by decide) ?_
      refine qa_s (pc' := 133) at_126_132 rfl rfl rfl ?_
      refine qa_ic (nx := 134) (v := nI 0) at_126_133 (by decide) rfl ?_
      refine qa_iast (nx := 135) (k := i) at_126_134 rfl rfl rfl (by decide) rfl (show i < 40 by omega) ?_
      refine qa_incN (nx := 138) (c := 1) at_126_135 (by decide) rfl rfl rfl ?_
      refine qa_goto (nx := 122) at_126_138 rfl ?_
      rw [fl_s]
      exact ih (i + 1) (by omega)
abbrev bgM (σ : sg) : sg := up (up (up (up (fl (rsM (up (up (up (up (up (up (up (up (up σ 40 0 2 (nI 1)) 40 0 22 (nI 0)) 40 0 23 (-1)) 40 0 24 (-1)) 40 0 25 (nI 0)) 40 0 26 (nI 0)) 40 0 27 (nI 0)) 40 0 28 (nI 0)) 40 0 29 (nI 0)) 5) 71 0 40 (nI 0)) 75 0 0 (nI 0)) 77 0 0 (nI 0)) 75 0 1 (nI 0)) 77 0 1 (nI 0)
theorem c126_q (k0 : ¬ (σ 40 0 2 = 0 ∧ ¬ σ 40 0 1 = 0) → Q (some (.int (nI 0))) σ) (k1 : σ 40 0 2 = 0 → ¬ σ 40 0 1 = 0 → Q (some (.int (nI 1))) (bgM σ)) : qa cst 126 0 [(0, .ref (cl 40 0))] [] σ Q := by
  refine qa_s (pc' := 1) at_126_0 rfl rfl rfl ?_
  refine qa_getI (nx := 4) at_126_1 rfl (by decide) rfl rfl (by decide) ?_
  refine qa_if_ne (tg := 14) (nx := 7) at_126_4 rfl rfl (fun h126_4 => ?_) (fun h126_4 => ?_)
  · refine qa_ic (nx := 15) (v := nI 0) at_126_14 (by decide) rfl ?_
    refine qa_ret at_126_15 rfl ?_
    exact k0 (fun ⟨g0, g1⟩ => by first | exact h126_4 g0 | exact g1 h126_11)
  · refine qa_s (pc' := 8) at_126_7 rfl rfl rfl ?_
    refine qa_getI (nx := 11) at_126_8 rfl (by decide) rfl rfl (by decide) ?_
    refine qa_if_ne (tg := 16) (nx := 14) at_126_11 rfl rfl (fun h126_11 => ?_) (fun h126_11 => ?_)
    · refine qa_s (pc' := 17) at_126_16 rfl rfl rfl ?_
      refine qa_ic (nx := 18) (v := nI 1) at_126_17 (by decide) rfl ?_
      refine qa_put (nx := 21) at_126_18 rfl (by decide) rfl (by decide) rfl (by decide) ?_
      refine qa_s (pc' := 22) at_126_21 rfl rfl rfl ?_
      refine qa_ic (nx := 23) (v := nI 0) at_126_22 (by decide) rfl ?_
      refine qa_put (nx := 26) at_126_23 rfl (by decide) rfl rfl rfl (by decide) ?_
      refine qa_s (pc' := 27) at_126_26 rfl rfl rfl ?_
      refine qa_ic (nx := 28) (v := (-1)) at_126_27 (by decide) rfl ?_
      refine qa_put (nx := 31) at_126_28 rfl (by decide) rfl rfl rfl (by decide) ?_
      refine qa_s (pc' := 32) at_126_31 rfl rfl rfl ?_
      refine qa_ic (nx := 33) (v := (-1)) at_126_32 (by decide) rfl ?_
      refine qa_put (nx := 36) at_126_33 rfl (by decide) rfl rfl rfl (by decide) ?_
      refine qa_s (pc' := 37) at_126_36 rfl rfl rfl ?_
      refine qa_ic (nx := 38) (v := nI 0) at_126_37 (by decide) rfl ?_
      refine qa_put (nx := 41) at_126_38 rfl (by decide) rfl rfl rfl (by decide) ?_
      refine qa_s (pc' := 42) at_126_41 rfl rfl rfl ?_
      refine qa_ic (nx := 43) (v := nI 0) at_126_42 (by decide) rfl ?_
      refine qa_put (nx := 46) at_126_43 rfl (by decide) rfl rfl rfl (by decide) ?_
      refine qa_s (pc' := 47) at_126_46 rfl rfl rfl ?_
      refine qa_ic (nx := 48) (v := nI 0) at_126_47 (by decide) rfl ?_
      refine qa_put (nx := 51) at_126_48 rfl (by decide) rfl rfl rfl (by decide) ?_
      refine qa_s (pc' := 52) at_126_51 rfl rfl rfl ?_
      refine qa_ic (nx := 53) (v := nI 0) at_126_52 (by decide) rfl ?_
      refine qa_put (nx := 56) at_126_53 rfl (by decide) rfl rfl rfl (by decide) ?_
      refine qa_s (pc' := 57) at_126_56 rfl rfl rfl ?_
      refine qa_ic (nx := 58) (v := nI 0) at_126_57 (by decide) rfl ?_
      refine qa_put (nx := 61) at_126_58 rfl (by decide) rfl rfl rfl (by decide) ?_
      refine qa_ic (nx := 62) (v := nI 0) at_126_61 (by decide) rfl ?_
      refine qa_s (pc' := 63) at_126_62 rfl rfl rfl ?_
      rw [← rsM_0 (σ := up _ 40 0 29 _)]
      refine c126_l (fun v => ?_) 5 0 rfl
      refine qa_ic (nx := 121) (v := nI 0) at_126_120 (by decide) rfl ?_
      refine qa_s (pc' := 122) at_126_121 rfl rfl rfl ?_
      rw [← fl_0 (σ := rsM _ _)]
      refine c126_w (fun v => ?_) 40 0 rfl
      refine qa_ic (nx := 142) (v := nI 0) at_126_141 (by decide) rfl ?_
      refine qa_s (pc' := 143) at_126_142 rfl rfl rfl ?_
      refine qa_s (pc' := 144) at_126_143 rfl rfl rfl ?_
      refine qa_ic (nx := 145) (v := nI 2) at_126_144 (by decide) rfl ?_
      refine qn_icmp_ge (tg := 168) (nx := 148) at_126_145 rfl rfl (by decide) (by decide) (fun h => absurd h (by decide)) (fun h126_145 => ?_)
      refine qa_s (pc' := 149) at_126_148 rfl rfl rfl ?_
      refine qa_getR (nx := 152) at_126_149 rfl (by decide) rfl rfl (by decide) ?_
      refine qa_s (pc' := 153) at_126_152 rfl rfl rfl ?_
      refine qa_ic (nx := 154) (v := nI 0) at_126_153 (by decide) rfl ?_
      refine qa_iast (nx := 155) (k := 0) at_126_154 rfl rfl rfl (by decide) rfl (show 0 < 2 by omega) ?_
      refine qa_s (pc' := 156) at_126_155 rfl rfl rfl ?_
      refine qa_getR (nx := 159) at_126_156 rfl (by decide) rfl rfl (by decide) ?_
      refine qa_s (pc' := 160) at_126_159 rfl rfl rfl ?_
      refine qa_ic (nx := 161) (v := nI 0) at_126_160 (by decide) rfl ?_
      refine qa_iast (nx := 162) (k := 0) at_126_161 rfl rfl rfl (by decide) rfl (show 0 < 2 by omega) ?_
      refine qa_incN (nx := 165) (c := 1) at_126_162 (by decide) rfl rfl rfl ?_
      refine qa_goto (nx := 143) at_126_165 rfl ?_
      refine qa_s (pc' := 144) at_126_143 rfl rfl rfl ?_
      refine qa_ic (nx := 145) (v := nI 2) at_126_144 (by decide) rfl ?_
      refine qn_icmp_ge (tg := 168) (nx := 148) at_126_145 rfl rfl (by decide) (by decide) (fun h => absurd h (by decide)) (fun h126_145 => ?_)
      refine qa_s (pc' := 149) at_126_148 rfl rfl rfl ?_
      refine qa_getR (nx := 152) at_126_149 rfl (by decide) rfl rfl (by decide) ?_
      refine qa_s (pc' := 153) at_126_152 rfl rfl rfl ?_
      refine qa_ic (nx := 154) (v := nI 0) at_126_153 (by decide) rfl ?_
      refine qa_iast (nx := 155) (k := 1) at_126_154 rfl rfl rfl (by decide) rfl (show 1 < 2 by omega) ?_
      refine qa_s (pc' := 156) at_126_155 rfl rfl rfl ?_
      refine qa_getR (nx := 159) at_126_156 rfl (by decide) rfl rfl (by decide) ?_
      refine qa_s (pc' := 160) at_126_159 rfl rfl rfl ?_
      refine qa_ic (nx := 161) (v := nI 0) at_126_160 (by decide) rfl ?_
      refine qa_iast (nx := 162) (k := 1) at_126_161 rfl rfl rfl (by decide) rfl (show 1 < 2 by omega) ?_
      refine qa_incN (nx := 165) (c := 1) at_126_162 (by decide) rfl rfl rfl ?_
      refine qa_goto (nx := 143) at_126_165 rfl ?_
      refine qa_s (pc' := 144) at_126_143 rfl rfl rfl ?_
      refine qa_ic (nx := 145) (v := nI 2) at_126_144 (by decide) rfl ?_
      refine qn_icmp_ge (tg := 168) (nx := 148) at_126_145 rfl rfl (by decide) (by decide) (fun h126_145 => ?_) (fun h => absurd h (by decide))
      refine qa_ic (nx := 169) (v := nI 1) at_126_168 (by decide) rfl ?_
      refine qa_ret at_126_169 rfl ?_
      exact k1 h126_4 h126_11
    · refine qa_ic (nx := 15) (v := nI 0) at_126_14 (by decide) rfl ?_
      refine qa_ret at_126_15 rfl ?_
      exact k0 (fun ⟨g0, g1⟩ => by first | exact h126_4 g0 | exact g1 h126_11)
theorem m1_ne {x : Nat} (h : x < 2 ^ 31) : ¬ nI x = -1 := by
  intro e
  have := nI_toInt h
  rw [e] at this
  have h1 : (-1 : Int32).toInt = -1 := by decide
  omega
theorem Rel_start (hR : Rel T σ) (h0 : σ 18 0 0 = 0) (hf1 : ¬ σ 4 0 0 = 0) : Rel T (bgM (rsC (bg0 σ T) T)) := by
  obtain ⟨hA, hTt, hI, hP, hF, hJ, hRR⟩ := hR
  obtain ⟨h5, h04, h40, hf, hf', ho, ho', hm, hof⟩ := hA
  have hkC : ∀ a, a ≠ 18 → a ≠ 20 → a ≠ 21 → a ≠ 35 → a ≠ 27 → a ≠ 28 → a ≠ 29 → rsC (bg0 σ T) T a = σ a := by
    intro a g1 g2 g3 g4 g5 g6 g7
    rw [rsC_k g5 g6 g7]
    simp only [bg0]
    rw [up_k g4, up_k g4, fl_k g2, up_k g3, up_k g1, up_k g1, up_k g1, up_k g1, up_k g1, up_k g1, up_k g1, up_k g1, up_k g1]
  have hkM : ∀ (τ : sg) a, a ≠ 40 → a ≠ 58 → a ≠ 71 → a ≠ 72 → a ≠ 73 → a ≠ 74 → a ≠ 75 → a ≠ 77 → bgM τ a = τ a := by
    intro τ a g1 g2 g3 g4 g5 g6 g7 g8
    simp only [bgM]
    rw [up_k g8, up_k g7, up_k g8, up_k g7, fl_k g3, rsM_k g2 g4 g5 g6, up_k g1, up_k g1, up_k g1, up_k g1, up_k g1, up_k g1, up_k g1, up_k g1, up_k g1]
  have hk : ∀ a, a ≠ 40 → a ≠ 58 → a ≠ 71 → a ≠ 72 → a ≠ 73 → a ≠ 74 → a ≠ 75 → a ≠ 77 → a ≠ 18 → a ≠ 20 → a ≠ 21 → a ≠ 35 → a ≠ 27 → a ≠ 28 → a ≠ 29 → bgM (rsC (bg0 σ T) T) a = σ a := by
    intros
    rw [hkM _ _ ‹_› ‹_› ‹_› ‹_› ‹_› ‹_› ‹_› ‹_›, hkC _ ‹_› ‹_› ‹_› ‹_› ‹_› ‹_› ‹_›]
  have h29 : bgM (rsC (bg0 σ T) T) 29 = rsC (bg0 σ T) T 29 := hkM _ _ (by decide) (by decide) (by decide) (by decide) (by decide) (by decide) (by decide) (by decide)
  have h29' : ∀ i j, j ≠ 0 → bgM (rsC (bg0 σ T) T) 29 i j = σ 29 i j := by
    intro i j hj
    rw [h29]
    simp [rsC, hj, up, fl]
  have h290 : ∀ i, i < T → bgM (rsC (bg0 σ T) T) 29 i 0 = 0 := by
    intro i hi
    rw [h29]
    simp [rsC, hi]
    rfl
  have e11 : bgM (rsC (bg0 σ T) T) 11 = σ 11 := by apply hk <;> decide
  refine ⟨⟨h5, ?_, ?_, ?_, ?_, ?_, ?_, ?_, ?_⟩, RT_congr ?_ ?_ ?_ ?_ hTt, RI_congr ?_ ?_ ?_ ?_ ?_ ?_ ?_ ?_ hI, RP_congr ?_ hP, RF_congr ?_ ?_ ?_ ?_ ?_ ?_ ?_ ?_ ?_ ?_ ?_ ?_ ?_ ?_ ?_ ?_ hF, ?_, ?_⟩
  case refine_38 =>
    obtain ⟨j1, j2, j3⟩ := hJ
    refine ⟨fun j hj => ?_, fun i hi => ?_, fun n hn k hk' => ?_⟩
    · have e := j1 j hj
      rw [hk 78, hk 79, hk 80, hk 81, hk 22, hk 23, hk 24, hk 25] <;> first | exact e | decide
    · have e := j2 i hi
      rw [h29' i 1 (by decide), h29' i 5 (by decide), h29' i 12 (by decide), h29' i 6 (by decide), h29' i 4 (by decide), h29' i 10 (by decide), h29' i 11 (by decide)]
      rw [hk 59, hk 60, hk 62, hk 63, hk 64, hk 65, hk 66, hk 70, hk 30, hk 67, hk 31, hk 68, hk 32] <;> first | exact e | decide
    · have e := j3 n hn k hk'
      rw [hk 69, hk 34] <;> first | exact e | decide
  case refine_39 =>
    intro _
    refine ⟨by simp [bgM, bg0, up, fl, rsC, rsM], by simp [bgM, bg0, up, fl, rsC, rsM], by simp [bgM, bg0, up, fl, rsC, rsM], by simp [bgM, bg0, up, fl, rsC, rsM], by simp [bgM, bg0, up, fl, rsC, rsM], by simp [bgM, bg0, up, fl, rsC, rsM], by simp [bgM, bg0, up, fl, rsC, rsM], by simp [bgM, bg0, up, fl, rsC, rsM], by simp [bgM, bg0, up, fl, rsC, rsM], fun p hp => ?_, fun y hy => ⟨0, by omega, ?_, ?_, fun j hj => absurd hj (by omega)⟩, fun i hi => ⟨fun k hk' => ?_, ?_, ?_, ⟨0, by omega, ?_, ?_, fun _ => rfl⟩, ?_, Or.inl (h290 i hi), fun h => absurd ((h290 i hi).symm.trans h) (by decide)⟩, Or.inl (by simp [bgM, bg0, up, fl, rsC, rsM])⟩
    · obtain rfl | rfl : p = 0 ∨ p = 1 := by omega
      · simp [bgM, bg0, up, fl, rsC, rsM]
      · simp [bgM, bg0, up, fl, rsC, rsM]
    · obtain rfl | rfl : y = 0 ∨ y = 1 := by omega
      · simp [bgM, bg0, up, fl, rsC, rsM]
      · simp [bgM, bg0, up, fl, rsC, rsM]
    · obtain rfl | rfl : y = 0 ∨ y = 1 := by omega
      · simp [bgM, bg0, up, fl, rsC, rsM]
      · simp [bgM, bg0, up, fl, rsC, rsM]
    · have : 8 * i + k < 40 := by omega
      simp [bgM, up, fl, rsC, rsM, hi, hk', this]
    · have h5i : i < 5 := by omega
      have e1 := hTt i hi
      have e2 := e1.2.2.1
      simp only [bgM, up, fl, rsC, rsM, hi, h5i]
      simp
      rw [e2]
      rcases e1.2.2.2.2 with e | ⟨o, ho5, e⟩
      · rw [e]; rfl
      · rw [e, if_neg (nI_pos (by omega)), if_neg (m1_ne (by omega))]
    · have h5i : i < 5 := by omega
      simp [bgM, up, fl, rsC, rsM, hi, h5i]
    · have h5i : i < 5 := by omega
      simp [bgM, up, fl, rsC, rsM, hi, h5i]
    · have h5i : i < 5 := by omega
      simp [bgM, up, fl, rsC, rsM, hi, h5i]
    · have h5i : i < 5 := by omega
      rw [h290 i hi]
      simp [bgM, up, fl, rsC, rsM, hi, h5i]
      rfl
  case refine_1 => rw [hk 0 (by decide) (by decide) (by decide) (by decide) (by decide) (by decide) (by decide) (by decide) (by decide) (by decide) (by decide) (by decide) (by decide) (by decide) (by decide)]; exact h04
  case refine_2 => simp [bgM, bg0, up, fl, rsC, rsM]; exact h40
  case refine_3 => simp [bgM, bg0, up, fl, rsC, rsM]; exact hf
  case refine_4 => simp [bgM, bg0, up, fl, rsC, rsM]; exact hf'
  case refine_5 => exact Or.inr (by simp [bgM, bg0, up, fl, rsC, rsM]; rfl)
  case refine_6 => simp [bgM, bg0, up, fl, rsC, rsM]
  case refine_7 => simp [bgM, bg0, up, fl, rsC, rsM]; exact hm
  case refine_8 => simp [bgM, bg0, up, fl, rsC, rsM]; exact fun _ => z1 hf hf1
  all_goals (apply hk <;> decide)
theorem p_start (hR : Rel T σ) : pair cst 52 126 [] σ := by
  obtain ⟨h5, h04, h40, hf, hf', ho, ho', hm, hof⟩ := hR.1
  show qa cst 52 0 [(0, .ref (cl 0 0))] [] σ _
  refine c52_q h04 h5 (fun h => ?_) (fun a0 a1 => ?_)
  · show qa cst 126 0 [(0, .ref (cl 40 0))] [] σ _
    refine c126_q (fun h' => ⟨_, rfl, rfl, T, hR⟩) (fun b0 b1 => absurd ⟨by rw [← ho']; exact b0, by rw [← hf']; exact b1⟩ h)
  · show qa cst 126 0 [(0, .ref (cl 40 0))] [] _ _
    have e40 : rsC (bg0 σ T) T 40 = σ 40 := by rw [rsC_k (by decide) (by decide) (by decide)]; simp [bg0, up_k, fl_k]
    refine c126_q (fun h' => absurd ⟨by rw [e40, ho']; exact a0, by rw [e40, hf']; exact a1⟩ h') (fun b0 b1 => ⟨_, rfl, rfl, T, Rel_start hR a0 a1⟩)
end PQ
