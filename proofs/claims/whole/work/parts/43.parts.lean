/-! run: the instructions of the class -/
section PQ
variable {cst : List (List Int32)} {σ b : sg} {Q : Option Value → sg → Prop} {T : Nat}
set_option maxRecDepth 100000 in
theorem bit_t : ∀ h, h < 16 → ∀ s, s < 4 → ((nI h &&& nI 1 <<< (nI s &&& 31)) = 0 ↔ h.testBit s = false) := by decide +kernel
set_option maxRecDepth 100000 in
theorem bit_or : ∀ h, h < 16 → ∀ y, y < 4 → ∃ h', h' < 16 ∧ (nI h ||| nI 1 <<< (nI y &&& 31)) = nI h' ∧ ∀ s, s < 4 → h'.testBit s = (h.testBit s || s == y) := by decide +kernel
set_option maxRecDepth 100000 in
theorem bit_an : ∀ h, h < 16 → ∀ y, y < 4 → ∃ h', h' < 16 ∧ (nI h &&& (nI 1 <<< (nI y &&& 31) ^^^ -1)) = nI h' ∧ ∀ s, s < 4 → h'.testBit s = true → h.testBit s = true := by decide +kernel
theorem c80_l {i h : Nat} (hh : h < 16) (hc : ∀ s, s < 4 → h.testBit s = true → ¬ σ 10 0 s = -1) (k : Q (some (.int (actF (σ 10 0) h 4 (nI i)))) σ) : ∀ n s, s + n = 4 → qa cst 80 5 [(0, .ref (cl 4 0)), (1, .int (nI i)), (2, .int (nI h)), (3, .int (actF (σ 10 0) h s (nI i))), (4, .int (nI s))] [] σ Q := by
  intro n
  induction n with
  | zero =>
    intro s hs
    obtain rfl : s = 4 := by omega
    refine qa_s (pc' := 7) at_80_5 rfl rfl rfl ?_
    refine qa_ic (nx := 8) (v := nI 4) at_80_7 (by decide) rfl ?_
    refine qn_icmp_ge (tg := 49) (nx := 11) at_80_8 rfl rfl (by decide) (by decide) (fun h80_8 => ?_) (fun h => absurd h (by decide))
    refine qa_s (pc' := 50) at_80_49 rfl rfl rfl ?_
    refine qa_ret at_80_50 rfl ?_
    exact k
  | succ n ih =>
    intro s hs
    have hs4 : s < 4 := by omega
    have step : ∀ v, actF (σ 10 0) h (s + 1) (nI i) = v → qa cst 80 43 [(0, .ref (cl 4 0)), (1, .int (nI i)), (2, .int (nI h)), (3, .int v), (4, .int (nI s))] [] σ Q := by
      intro v hv
      subst hv
      refine qa_incN (nx := 46) (c := 1) at_80_43 (by decide) rfl rfl rfl ?_
      refine qa_goto (nx := 5) at_80_46 rfl ?_
      exact ih (s + 1) (by omega)
    refine qa_s (pc' := 7) at_80_5 rfl rfl rfl ?_
    refine qa_ic (nx := 8) (v := nI 4) at_80_7 (by decide) rfl ?_
    refine qn_icmp_ge (tg := 49) (nx := 11) at_80_8 rfl rfl (by omega) (by omega) (fun h80_8 => ?_) (fun h80_8 => ?_)
    · omega
    · refine qa_s (pc' := 12) at_80_11 rfl rfl rfl ?_
      refine qa_ic (nx := 13) (v := nI 1) at_80_12 (by decide) rfl ?_
      refine qa_s (pc' := 15) at_80_13 rfl rfl rfl ?_
      refine qa_s (pc' := 16) at_80_15 rfl rfl rfl ?_
      refine qa_s (pc' := 17) at_80_16 rfl rfl rfl ?_
      refine qa_if_eq (tg := 43) (nx := 20) at_80_17 rfl rfl (fun h80_17 => ?_) (fun h80_17 => ?_)
      · have t0 := (bit_t h hh s hs4).mp h80_17
        exact step _ (by simp only [actF]; first | (simp [t0]; done) | (simp [t1]; done))
      · have t1 : h.testBit s = true := by cases g : h.testBit s; exact absurd ((bit_t h hh s hs4).mpr g) h80_17; rfl
        refine qa_s (pc' := 21) at_80_20 rfl rfl rfl ?_
        refine qa_getR (nx := 24) at_80_21 rfl (by decide) rfl rfl (by decide) ?_
        refine qa_s (pc' := 26) at_80_24 rfl rfl rfl ?_
        refine qa_iald (nx := 27) (k := s) at_80_26 rfl rfl rfl (by decide) rfl (show s < 4 by omega) ?_
        refine qa_ic (nx := 28) (v := (-1)) at_80_27 (by decide) rfl ?_
        refine qa_icmp_eq (tg := 43) (nx := 31) at_80_28 rfl rfl (fun h80_28 => ?_) (fun h80_28 => ?_)
        · exact absurd h80_28 (hc s hs4 t1)
        · refine qa_s (pc' := 32) at_80_31 rfl rfl rfl ?_
          refine qa_s (pc' := 33) at_80_32 rfl rfl rfl ?_
          refine qa_getR (nx := 36) at_80_33 rfl (by decide) rfl rfl (by decide) ?_
          refine qa_s (pc' := 38) at_80_36 rfl rfl rfl ?_
          refine qa_iald (nx := 39) (k := s) at_80_38 rfl rfl rfl (by decide) rfl (show s < 4 by omega) ?_
          refine qa_min (nx := 42) at_80_39 rfl rfl ?_
          refine qa_s (pc' := 43) at_80_42 rfl rfl rfl ?_
          exact step _ (by simp only [actF]; first | (simp [t0]; done) | (simp [t1]; done))
theorem c80_q {i h : Nat} (hh : h < 16) (hc : ∀ s, s < 4 → h.testBit s = true → ¬ σ 10 0 s = -1) (k : Q (some (.int (actF (σ 10 0) h 4 (nI i)))) σ) : qa cst 80 0 [(0, .ref (cl 4 0)), (1, .int (nI i)), (2, .int (nI h))] [] σ Q := by
  refine qa_s (pc' := 1) at_80_0 rfl rfl rfl ?_
  refine qa_s (pc' := 2) at_80_1 rfl rfl rfl ?_
  refine qa_ic (nx := 3) (v := nI 0) at_80_2 (by decide) rfl ?_
  refine qa_s (pc' := 5) at_80_3 rfl rfl rfl ?_
  exact c80_l hh hc k 4 0 rfl
theorem c79_q {j h : Nat} {v : Int32} (hj : j < 5) (hh : h < 16) (hv : v = nI h) (hc : ∀ s, s < 4 → h.testBit s = true → ¬ σ 10 0 s = -1) (k : Q none (up (up σ 29 j 4 v) 29 j 3 (actF (σ 10 0) h 4 (nI j)))) : qa cst 79 0 [(0, .ref (cl 18 0)), (1, .int (nI j)), (2, .ref (cl 29 j)), (3, .int v)] [] σ Q := by
  subst hv
  refine qa_s (pc' := 1) at_79_0 rfl rfl rfl ?_
  refine qa_s (pc' := 2) at_79_1 rfl rfl rfl ?_
  refine qa_put (nx := 5) at_79_2 rfl (by decide) rfl rfl rfl (show _ < 5 by omega) ?_
  refine qa_s (pc' := 6) at_79_5 rfl rfl rfl ?_
  refine qa_s (pc' := 7) at_79_6 rfl rfl rfl ?_
  refine qa_getR (nx := 10) at_79_7 rfl (by decide) rfl rfl (by decide) ?_
  refine qa_s (pc' := 11) at_79_10 rfl rfl rfl ?_
  refine qa_s (pc' := 12) at_79_11 rfl rfl rfl ?_
  refine qa_callV (nx := 15) at_79_12 rfl rfl (Nat.le_of_ble_eq_true rfl) rfl rfl rfl (by decide) rfl (by decide) ?_
  show qa _ 80 0 [(0, .ref _), (1, .int _), (2, .int _)] [] _ _
  refine c80_q hh hc ?_
  show qa _ 79 15 _ [.int _, .ref _] _ _
  refine qa_put (nx := 18) at_79_15 rfl (by decide) rfl rfl rfl (show _ < 5 by omega) ?_
  refine qa_ret at_79_18 rfl ?_
  exact k
theorem c81_q {y c : Nat} {v : Int32} (hy : y < 2) (hc : c ≤ 3) (h35 : σ 35 y 1 = nI c) (k0 : c = 3 → Q (some (.int (nI 0))) σ) (k1 : c < 3 → Q (some (.int (nI 1))) (up (up σ 36 y c v) 35 y 1 (nI (c + 1)))) : qa cst 81 0 [(0, .ref (cl 35 y)), (1, .int v)] [] σ Q := by
  refine qa_s (pc' := 1) at_81_0 rfl rfl rfl ?_
  refine qa_getV (nx := 4) (v := nI c) at_81_1 rfl (by decide) rfl rfl (show _ < 2 by omega) (show _ from h35) ?_
  refine qa_ic (nx := 5) (v := nI 3) at_81_4 (by decide) rfl ?_
  refine qn_icmp_lt (tg := 10) (nx := 8) at_81_5 rfl rfl (by omega) (by omega) (fun h81_5 => ?_) (fun h81_5 => ?_)
  · refine qa_s (pc' := 11) at_81_10 rfl rfl rfl ?_
    refine qa_getR (nx := 14) at_81_11 rfl (by decide) rfl rfl (show _ < 2 by omega) ?_
    refine qa_s (pc' := 15) at_81_14 rfl rfl rfl ?_
    refine qa_getV (nx := 18) (v := nI c) at_81_15 rfl (by decide) rfl rfl (show _ < 2 by omega) (show _ from h35) ?_
    refine qa_s (pc' := 19) at_81_18 rfl rfl rfl ?_
    refine qa_iast (nx := 20) (k := c) at_81_19 rfl rfl rfl (show _ < 2 by omega) rfl (show c < 3 by omega) ?_
    refine qa_s (pc' := 21) at_81_20 rfl rfl rfl ?_
    refine qa_s (pc' := 22) at_81_21 rfl rfl rfl ?_
    refine qa_getV (nx := 25) (v := nI c) at_81_22 rfl (by decide) rfl rfl (show _ < 2 by omega) (show _ from h35) ?_
    refine qa_ic (nx := 26) (v := nI 1) at_81_25 (by decide) rfl ?_
    refine qa_addN (nx := 27) at_81_26 rfl ?_
    refine qa_put (nx := 30) at_81_27 rfl (by decide) rfl rfl rfl (show _ < 2 by omega) ?_
    refine qa_ic (nx := 31) (v := nI 1) at_81_30 (by decide) rfl ?_
    refine qa_ret at_81_31 rfl ?_
    exact k1 h81_5
  · refine qa_ic (nx := 9) (v := nI 0) at_81_8 (by decide) rfl ?_
    refine qa_ret at_81_9 rfl ?_
    exact k0 (by omega)
/-- what is taken from a mailbox leaves -/
def tkC (σ : sg) (y c : Nat) : sg := match c with
  | 1 => up σ 35 y 1 (nI 0)
  | 2 => up (up σ 35 y 1 (nI 1)) 36 y 0 (σ 36 y 1)
  | 3 => up (up (up σ 35 y 1 (nI 2)) 36 y 0 (σ 36 y 1)) 36 y 1 (σ 36 y 2)
  | _ => σ
theorem c84_q {y c : Nat} (hy : y < 2) (hc : c ≤ 3) (hc0 : 0 < c) (h35 : σ 35 y 1 = nI c) (k : Q (some (.int (σ 36 y 0))) (tkC σ y c)) : qa cst 84 0 [(0, .ref (cl 35 y))] [] σ Q := by
  have hcc : c = 1 ∨ c = 2 ∨ c = 3 := by omega
  rcases hcc with rfl | rfl | rfl
  · refine qa_s (pc' := 1) at_84_0 rfl rfl rfl ?_
    refine qa_getV (nx := 4) (v := nI 1) at_84_1 rfl (by decide) rfl rfl (show _ < 2 by omega) (show _ from h35) ?_
    refine qn_if_ne (tg := 9) (nx := 7) at_84_4 rfl rfl (by decide) (fun h84_4 => ?_) (fun h => absurd h (by decide))
    refine qa_s (pc' := 10) at_84_9 rfl rfl rfl ?_
    refine qa_getR (nx := 13) at_84_10 rfl (by decide) rfl rfl (show _ < 2 by omega) ?_
    refine qa_ic (nx := 14) (v := nI 0) at_84_13 (by decide) rfl ?_
    refine qa_iald (nx := 15) (k := 0) at_84_14 rfl rfl rfl (show _ < 2 by omega) rfl (show 0 < 3 by omega) ?_
    refine qa_s (pc' := 16) at_84_15 rfl rfl rfl ?_
    refine qa_s (pc' := 17) at_84_16 rfl rfl rfl ?_
    refine qa_s (pc' := 18) at_84_17 rfl rfl rfl ?_
    refine qa_getV (nx := 21) (v := nI 1) at_84_18 rfl (by decide) rfl rfl (show _ < 2 by omega) (show _ from h35) ?_
    refine qa_ic (nx := 22) (v := nI 1) at_84_21 (by decide) rfl ?_
    refine qa_subN (nx := 23) at_84_22 rfl (by omega) ?_
    refine qa_put (nx := 26) at_84_23 rfl (by decide) rfl rfl rfl (show _ < 2 by omega) ?_
    refine qa_ic (nx := 27) (v := nI 0) at_84_26 (by decide) rfl ?_
    refine qa_s (pc' := 28) at_84_27 rfl rfl rfl ?_
    refine qa_s (pc' := 29) at_84_28 rfl rfl rfl ?_
    refine qa_s (pc' := 30) at_84_29 rfl rfl rfl ?_
    refine qa_getV (nx := 33) (v := nI 0) at_84_30 rfl (by decide) rfl rfl (show _ < 2 by omega) (show _ from by simp [up]) ?_
    refine qn_icmp_ge (tg := 56) (nx := 36) at_84_33 rfl rfl (by decide) (by decide) (fun h84_33 => ?_) (fun h => absurd h (by decide))
    refine qa_s (pc' := 57) at_84_56 rfl rfl rfl ?_
    refine qa_ret at_84_57 rfl ?_
    first | exact k | (simp only [tkC] at k; rw [up_j (show (2 : Nat) ≠ 0 by decide)]; exact k)
  · refine qa_s (pc' := 1) at_84_0 rfl rfl rfl ?_
    refine qa_getV (nx := 4) (v := nI 2) at_84_1 rfl (by decide) rfl rfl (show _ < 2 by omega) (show _ from h35) ?_
    refine qn_if_ne (tg := 9) (nx := 7) at_84_4 rfl rfl (by decide) (fun h84_4 => ?_) (fun h => absurd h (by decide))
    refine qa_s (pc' := 10) at_84_9 rfl rfl rfl ?_
    refine qa_getR (nx := 13) at_84_10 rfl (by decide) rfl rfl (show _ < 2 by omega) ?_
    refine qa_ic (nx := 14) (v := nI 0) at_84_13 (by decide) rfl ?_
    refine qa_iald (nx := 15) (k := 0) at_84_14 rfl rfl rfl (show _ < 2 by omega) rfl (show 0 < 3 by omega) ?_
    refine qa_s (pc' := 16) at_84_15 rfl rfl rfl ?_
    refine qa_s (pc' := 17) at_84_16 rfl rfl rfl ?_
    refine qa_s (pc' := 18) at_84_17 rfl rfl rfl ?_
    refine qa_getV (nx := 21) (v := nI 2) at_84_18 rfl (by decide) rfl rfl (show _ < 2 by omega) (show _ from h35) ?_
    refine qa_ic (nx := 22) (v := nI 1) at_84_21 (by decide) rfl ?_
    refine qa_subN (nx := 23) at_84_22 rfl (by omega) ?_
    refine qa_put (nx := 26) at_84_23 rfl (by decide) rfl rfl rfl (show _ < 2 by omega) ?_
    refine qa_ic (nx := 27) (v := nI 0) at_84_26 (by decide) rfl ?_
    refine qa_s (pc' := 28) at_84_27 rfl rfl rfl ?_
    refine qa_s (pc' := 29) at_84_28 rfl rfl rfl ?_
    refine qa_s (pc' := 30) at_84_29 rfl rfl rfl ?_
    refine qa_getV (nx := 33) (v := nI 1) at_84_30 rfl (by decide) rfl rfl (show _ < 2 by omega) (show _ from by simp [up]) ?_
    refine qn_icmp_ge (tg := 56) (nx := 36) at_84_33 rfl rfl (by decide) (by decide) (fun h => absurd h (by decide)) (fun h84_33 => ?_)
    refine qa_s (pc' := 37) at_84_36 rfl rfl rfl ?_
    refine qa_getR (nx := 40) at_84_37 rfl (by decide) rfl rfl (show _ < 2 by omega) ?_
    refine qa_s (pc' := 41) at_84_40 rfl rfl rfl ?_
    refine qa_s (pc' := 42) at_84_41 rfl rfl rfl ?_
    refine qa_getR (nx := 45) at_84_42 rfl (by decide) rfl rfl (show _ < 2 by omega) ?_
    refine qa_s (pc' := 46) at_84_45 rfl rfl rfl ?_
    refine qa_ic (nx := 47) (v := nI 1) at_84_46 (by decide) rfl ?_
    refine qa_addN (nx := 48) at_84_47 rfl ?_
    refine qa_iald (nx := 49) (k := 1) at_84_48 rfl rfl rfl (show _ < 2 by omega) rfl (show 1 < 3 by omega) ?_
    refine qa_iast (nx := 50) (k := 0) at_84_49 rfl rfl rfl (show _ < 2 by omega) rfl (show 0 < 3 by omega) ?_
    refine qa_incN (nx := 53) (c := 1) at_84_50 (by decide) rfl rfl rfl ?_
    refine qa_goto (nx := 28) at_84_53 rfl ?_
    refine qa_s (pc' := 29) at_84_28 rfl rfl rfl ?_
    refine qa_s (pc' := 30) at_84_29 rfl rfl rfl ?_
    refine qa_getV (nx := 33) (v := nI 1) at_84_30 rfl (by decide) rfl rfl (show _ < 2 by omega) (show _ from by simp [up]) ?_
    refine qn_icmp_ge (tg := 56) (nx := 36) at_84_33 rfl rfl (by decide) (by decide) (fun h84_33 => ?_) (fun h => absurd h (by decide))
    refine qa_s (pc' := 57) at_84_56 rfl rfl rfl ?_
    refine qa_ret at_84_57 rfl ?_
    first | exact k | (simp only [tkC] at k; rw [up_j (show (2 : Nat) ≠ 0 by decide)]; exact k)
  · refine qa_s (pc' := 1) at_84_0 rfl rfl rfl ?_
    refine qa_getV (nx := 4) (v := nI 3) at_84_1 rfl (by decide) rfl rfl (show _ < 2 by omega) (show _ from h35) ?_
    refine qn_if_ne (tg := 9) (nx := 7) at_84_4 rfl rfl (by decide) (fun h84_4 => ?_) (fun h => absurd h (by decide))
    refine qa_s (pc' := 10) at_84_9 rfl rfl rfl ?_
    refine qa_getR (nx := 13) at_84_10 rfl (by decide) rfl rfl (show _ < 2 by omega) ?_
    refine qa_ic (nx := 14) (v := nI 0) at_84_13 (by decide) rfl ?_
    refine qa_iald (nx := 15) (k := 0) at_84_14 rfl rfl rfl (show _ < 2 by omega) rfl (show 0 < 3 by omega) ?_
    refine qa_s (pc' := 16) at_84_15 rfl rfl rfl ?_
    refine qa_s (pc' := 17) at_84_16 rfl rfl rfl ?_
    refine qa_s (pc' := 18) at_84_17 rfl rfl rfl ?_
    refine qa_getV (nx := 21) (v := nI 3) at_84_18 rfl (by decide) rfl rfl (show _ < 2 by omega) (show _ from h35) ?_
    refine qa_ic (nx := 22) (v := nI 1) at_84_21 (by decide) rfl ?_
    refine qa_subN (nx := 23) at_84_22 rfl (by omega) ?_
    refine qa_put (nx := 26) at_84_23 rfl (by decide) rfl rfl rfl (show _ < 2 by omega) ?_
    refine qa_ic (nx := 27) (v := nI 0) at_84_26 (by decide) rfl ?_
    refine qa_s (pc' := 28) at_84_27 rfl rfl rfl ?_
    refine qa_s (pc' := 29) at_84_28 rfl rfl rfl ?_
    refine qa_s (pc' := 30) at_84_29 rfl rfl rfl ?_
    refine qa_getV (nx := 33) (v := nI 2) at_84_30 rfl (by decide) rfl rfl (show _ < 2 by omega) (show _ from by simp [up]) ?_
    refine qn_icmp_ge (tg := 56) (nx := 36) at_84_33 rfl rfl (by decide) (by decide) (fun h => absurd h (by decide)) (fun h84_33 => ?_)
    refine qa_s (pc' := 37) at_84_36 rfl rfl rfl ?_
    refine qa_getR (nx := 40) at_84_37 rfl (by decide) rfl rfl (show _ < 2 by omega) ?_
    refine qa_s (pc' := 41) at_84_40 rfl rfl rfl ?_
    refine qa_s (pc' := 42) at_84_41 rfl rfl rfl ?_
    refine qa_getR (nx := 45) at_84_42 rfl (by decide) rfl rfl (show _ < 2 by omega) ?_
    refine qa_s (pc' := 46) at_84_45 rfl rfl rfl ?_
    refine qa_ic (nx := 47) (v := nI 1) at_84_46 (by decide) rfl ?_
    refine qa_addN (nx := 48) at_84_47 rfl ?_
    refine qa_iald (nx := 49) (k := 1) at_84_48 rfl rfl rfl (show _ < 2 by omega) rfl (show 1 < 3 by omega) ?_
    refine qa_iast (nx := 50) (k := 0) at_84_49 rfl rfl rfl (show _ < 2 by omega) rfl (show 0 < 3 by omega) ?_
    refine qa_incN (nx := 53) (c := 1) at_84_50 (by decide) rfl rfl rfl ?_
    refine qa_goto (nx := 28) at_84_53 rfl ?_
    refine qa_s (pc' := 29) at_84_28 rfl rfl rfl ?_
    refine qa_s (pc' := 30) at_84_29 rfl rfl rfl ?_
    refine qa_getV (nx := 33) (v := nI 2) at_84_30 rfl (by decide) rfl rfl (show _ < 2 by omega) (show _ from by simp [up]) ?_
    refine qn_icmp_ge (tg := 56) (nx := 36) at_84_33 rfl rfl (by decide) (by decide) (fun h => absurd h (by decide)) (fun h84_33 => ?_)
    refine qa_s (pc' := 37) at_84_36 rfl rfl rfl ?_
    refine qa_getR (nx := 40) at_84_37 rfl (by decide) rfl rfl (show _ < 2 by omega) ?_
    refine qa_s (pc' := 41) at_84_40 rfl rfl rfl ?_
    refine qa_s (pc' := 42) at_84_41 rfl rfl rfl ?_
    refine qa_getR (nx := 45) at_84_42 rfl (by decide) rfl rfl (show _ < 2 by omega) ?_
    refine qa_s (pc' := 46) at_84_45 rfl rfl rfl ?_
    refine qa_ic (nx := 47) (v := nI 1) at_84_46 (by decide) rfl ?_
    refine qa_addN (nx := 48) at_84_47 rfl ?_
    refine qa_iald (nx := 49) (k := 2) at_84_48 rfl rfl rfl (show _ < 2 by omega) rfl (show 2 < 3 by omega) ?_
    refine qa_iast (nx := 50) (k := 1) at_84_49 rfl rfl rfl (show _ < 2 by omega) rfl (show 1 < 3 by omega) ?_
    refine qa_incN (nx := 53) (c := 1) at_84_50 (by decide) rfl rfl rfl ?_
    refine qa_goto (nx := 28) at_84_53 rfl ?_
    refine qa_s (pc' := 29) at_84_28 rfl rfl rfl ?_
    refine qa_s (pc' := 30) at_84_29 rfl rfl rfl ?_
    refine qa_getV (nx := 33) (v := nI 2) at_84_30 rfl (by decide) rfl rfl (show _ < 2 by omega) (show _ from by simp [up]) ?_
    refine qn_icmp_ge (tg := 56) (nx := 36) at_84_33 rfl rfl (by decide) (by decide) (fun h84_33 => ?_) (fun h => absurd h (by decide))
    refine qa_s (pc' := 57) at_84_56 rfl rfl rfl ?_
    refine qa_ret at_84_57 rfl ?_
    first | exact k | (simp only [tkC] at k; rw [up_j (show (2 : Nat) ≠ 0 by decide)]; exact k)
def mK (a : Nat) : Bool := [10, 13, 29, 31, 32, 61].contains a
theorem Md_of {μ μ' : sg} {j f r k z : Nat} (hk : ∀ a, mK a = true → μ' a = μ a) (h : Md μ j f r k z) : Md μ' j f r k z := by
  unfold Md Md0 hldOk at *
  rw [hk 29 (by decide), hk 13 (by decide), hk 10 (by decide), hk 61 (by decide), chainOk_congr (hk 13 (by decide)) (hk 31 (by decide)) (hk 32 (by decide))]
  exact h
theorem mix_of {σ b σ' b' : sg} {p : Nat → Bool} (h1 : ∀ a, p a = true → σ' a = σ a) (h2 : ∀ a, p a = true → b' a = b a) : ∀ a, p a = true → mix σ' b' a = mix σ b a := by
  intro a ha
  unfold mix
  rw [h1 a ha, h2 a ha]
theorem mk_up {σ τ : sg} {p : Nat → Bool} {c i j : Nat} {v : Int32} (hc : p c = false) (h : ∀ a, p a = true → σ a = τ a) : ∀ a, p a = true → up σ c i j v a = τ a := fun a ha => (up_k (kne ha hc)).trans (h a ha)
theorem mk_rf {σ : sg} {p : Nat → Bool} : ∀ a, p a = true → σ a = σ a := fun _ _ => rfl
theorem Rn_ml {σ' b' : sg} {x : Nat} (h : Rn T x (mix σ b)) (h1 : ∀ a, a ≠ 35 → a ≠ 36 → σ' a = σ a) (h2 : ∀ a, a ≠ 76 → a ≠ 77 → b' a = b a) (hm : MlOk (mix σ' b')) : Rn T x (mix σ' b') := by
  have hk : ∀ a, a ≠ 35 → a ≠ 36 → a ≠ 76 → a ≠ 77 → mix σ' b' a = mix σ b a := by
    intro a g1 g2 g3 g4
    unfold mix
    rw [h1 a g1 g2, h2 a g3 g4]
  obtain ⟨hB, hJ, hS, hP, hM, hT, hH⟩ := h
  refine ⟨Bs_of hB (fun a ha => hk a (knf ha (by decide)) (knf ha (by decide)) (knf ha (by decide)) (knf ha (by decide))) (by rw [hk] <;> decide) (by rw [hk] <;> decide) (fun j _ => by rw [hk] <;> decide), RJ_of (fun a ha => hk a (kne ha (by decide)) (kne ha (by decide)) (kne ha (by decide)) (kne ha (by decide))) hJ, RS_of (by apply hk <;> decide) (by apply hk <;> decide) (by apply hk <;> decide) hS, PoOk_of (by apply hk <;> decide) (by apply hk <;> decide) hP, hm, fun i hi => TkOk_of (fun a ha => hk a (kne ha (by decide)) (kne ha (by decide)) (kne ha (by decide)) (kne ha (by decide))) (hT i hi), HdOk_of (by apply hk <;> decide) (by apply hk <;> decide) hH⟩
theorem at_put {x y c : Nat} {v : Int32} (hy : y < 2) (hc : c < 3) (h35 : σ 35 y 1 = nI c) (h : Rn T x (mix σ b)) : Rn T x (mix (up (up σ 36 y c v) 35 y 1 (nI (c + 1))) (up (up b 76 0 (3 * y + c) v) 77 0 y (nI (c + 1)))) := by
  refine Rn_ml h (fun a g1 g2 => by rw [up_k g1, up_k g2]) (fun a g1 g2 => by rw [up_k g2, up_k g1]) ?_
  intro y' hy'
  obtain ⟨c', hc', f1, f2, f3⟩ := h.2.2.2.2.1 y' hy'
  by_cases g : y' = y
  · subst g
    have ec : c' = c := (nI_eq (by omega) (by omega)).mp (f1.symm.trans h35)
    subst ec
    refine ⟨c' + 1, by omega, by simp [mix, up], by simp [mix, up], fun i hi => ?_⟩
    by_cases g : i = c'
    · subst g; simp [mix, up]
    · have e := f3 i (by omega)
      simp [mix, up, g]
      exact e
  · refine ⟨c', hc', by simp [mix, up, g]; exact f1, by simp [mix, up, g]; exact f2, fun i hi => ?_⟩
    have e := f3 i hi
    have g2 : ¬ 3 * y' + i = 3 * y + c := by omega
    simp [mix, up, g, g2]
    exact e
theorem at_take {x y c : Nat} (hy : y < 2) (hc : c ≤ 3) (hc0 : 0 < c) (h35 : σ 35 y 1 = nI c) (h : Rn T x (mix σ b)) : Rn T x (mix (tkC σ y c) (up (up (up b 76 0 (3 * y) (b 76 0 (3 * y + 1))) 76 0 (3 * y + 1) (b 76 0 (3 * y + 2))) 77 0 y (nI c - nI 1))) := by
  have hcc : c = 1 ∨ c = 2 ∨ c = 3 := by omega
  refine Rn_ml h (fun a g1 g2 => by rcases hcc with rfl | rfl | rfl <;> simp only [tkC] <;> simp [up_k, g1, g2]) (fun a g1 g2 => by rw [up_k g2, up_k g1, up_k g1]) ?_
  intro y' hy'
  obtain ⟨c', hc', f1, f2, f3⟩ := h.2.2.2.2.1 y' hy'
  by_cases g : y' = y
  · subst g
    have ec : c' = c := (nI_eq (by omega) (by omega)).mp (f1.symm.trans h35)
    subst ec
    refine ⟨c' - 1, by omega, ?_, ?_, fun i hi => ?_⟩
    · rcases hcc with rfl | rfl | rfl <;> simp [tkC, mix, up]
    · rw [pk_sub (by omega)]; simp [mix, up]
    · rcases hcc with rfl | rfl | rfl
      · omega
      · obtain rfl : i = 0 := by omega
        have e := f3 1 (by omega)
        simp [tkC, mix, up]
        exact e
      · obtain rfl | rfl : i = 0 ∨ i = 1 := by omega
        · have e := f3 1 (by omega)
          simp [tkC, mix, up]
          exact e
        · have e := f3 2 (by omega)
          simp [tkC, mix, up]
          exact e
  · refine ⟨c', hc', ?_, by simp [mix, up, g]; exact f2, fun i hi => ?_⟩
    · rcases hcc with rfl | rfl | rfl <;> simp [tkC, mix, up, g] <;> exact f1
    · have e := f3 i hi
      have g2 : ¬ 3 * y' + i = 3 * y := by omega
      have g3 : ¬ 3 * y' + i = 3 * y + 1 := by omega
      rcases hcc with rfl | rfl | rfl <;> simp [tkC, mix, up, g, g2, g3] <;> exact e
end PQ
