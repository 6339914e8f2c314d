/-! the fourth call: an image is checked, the class -/
section PQ
variable {cst : List (List Int32)} {σ b : sg} {Q : Option Value → sg → Prop} {T k i r d : Nat} {s : Nat → Nat} {L : Nat → Nat} {P Y : Nat → Nat → Nat} {mk : Nat → Nat} {p : Nat → Nat}
theorem c23_q (hi : i < 5) (hr : r < 3) (hI : ImC L P Y σ) (hm : ∀ y, 1 ≤ y → y ≤ 2 → mk y < 16 ∧ σ 13 (3 * i + y) 5 = nI (mk y))
    (Kb : ∀ k w σ1, k ≤ L (3 * i + r) → (∀ j, j < k → ckA L P Y mk i r j = 0) → why L P Y mk i r k = w → 0 < w → w < 9 → frR (3 * i + r) σ1 σ → σ1 2 0 0 = nI (100 * r + k) → Q (some (.int (nI w))) σ1)
    (Kg : (∀ j, j < L (3 * i + r) → ckA L P Y mk i r j = 0) → ¬ (r = 0 ∧ L (3 * i + r) = 0) → std (P (3 * i + r)) (L (3 * i + r)) = 0 → ∀ σ1, frR (3 * i + r) σ1 σ → σ1 2 0 0 = σ 2 0 0 → mtAll (P (3 * i + r)) (3 * i + r) (L (3 * i + r)) σ1 → Q (some (.int (nI 0))) σ1) : qa cst 23 0 [(0, .ref (cl 2 0)), (1, .ref (cl 12 i)), (2, .int (nI r))] [] σ Q := by
  have hL := (hI (3 * i + r) (by omega)).1
  have e13 := (hI (3 * i + r) (by omega)).2.1
  have hF : frR (3 * i + r) (up (up (up σ 2 0 2 (nI 0)) 2 0 3 (nI 0)) 2 0 4 (nI 0)) σ := ⟨fun a g1 g2 g3 => by rw [up_k g1, up_k g1, up_k g1], fun n' _ => rfl⟩
  refine qa_s (pc' := 1) at_23_0 rfl rfl rfl ?_
  refine qa_s (pc' := 2) at_23_1 rfl rfl rfl ?_
  refine qa_aald (nx := 3) (k := r) at_23_2 (by decide) rfl rfl (show _ < 5 by omega) rfl (show r < 3 by omega) ?_
  refine qa_s (pc' := 4) at_23_3 rfl rfl rfl ?_
  refine qa_s (pc' := 5) at_23_4 rfl rfl rfl ?_
  refine qa_ic (nx := 6) (v := nI 0) at_23_5 (by decide) rfl ?_
  refine qa_put (nx := 9) at_23_6 rfl (by decide) rfl rfl rfl (by decide) ?_
  refine qa_s (pc' := 10) at_23_9 rfl rfl rfl ?_
  refine qa_ic (nx := 11) (v := nI 0) at_23_10 (by decide) rfl ?_
  refine qa_put (nx := 14) at_23_11 rfl (by decide) rfl rfl rfl (by decide) ?_
  refine qa_s (pc' := 15) at_23_14 rfl rfl rfl ?_
  refine qa_ic (nx := 16) (v := nI 0) at_23_15 (by decide) rfl ?_
  refine qa_put (nx := 19) at_23_16 rfl (by decide) rfl rfl rfl (by decide) ?_
  refine qa_s (pc' := 20) at_23_19 rfl rfl rfl ?_
  refine qn_if_ne (tg := 38) (nx := 23) at_23_20 rfl rfl (by omega) (fun h23_20 => ?_) (fun h23_20 => ?_)
  · refine qa_ic (nx := 39) (v := nI 0) at_23_38 (by decide) rfl ?_
    refine qa_s (pc' := 41) at_23_39 rfl rfl rfl ?_
    exact c23_l hi hr (fun g => by omega) hI hm Kb (fun g1 g2 => Kg g1 (fun g => by omega) g2) (L (3 * i + r)) 0 _ (by omega) (fun j hj => absurd hj (Nat.not_lt_zero _)) ⟨rfl, rfl, rfl, fun j hj => absurd hj (Nat.not_lt_zero _)⟩ hF rfl (fun c hc => absurd hc (Nat.not_lt_zero _))
  · refine qa_s (pc' := 24) at_23_23 rfl rfl rfl ?_
    refine qa_getV (nx := 27) (v := nI (L (3 * i + r))) at_23_24 rfl (by decide) rfl rfl (show _ < 15 by omega) (show _ from e13) ?_
    refine qn_if_ne (tg := 38) (nx := 30) at_23_27 rfl rfl (by omega) (fun h23_27 => ?_) (fun h23_27 => ?_)
    · refine qa_ic (nx := 39) (v := nI 0) at_23_38 (by decide) rfl ?_
      refine qa_s (pc' := 41) at_23_39 rfl rfl rfl ?_
      exact c23_l hi hr (fun g => by omega) hI hm Kb (fun g1 g2 => Kg g1 (fun g => by omega) g2) (L (3 * i + r)) 0 _ (by omega) (fun j hj => absurd hj (Nat.not_lt_zero _)) ⟨rfl, rfl, rfl, fun j hj => absurd hj (Nat.not_lt_zero _)⟩ hF rfl (fun c hc => absurd hc (Nat.not_lt_zero _))
    · refine qa_s (pc' := 31) at_23_30 rfl rfl rfl ?_
      refine qa_ic (nx := 32) (v := nI 1) at_23_31 (by decide) rfl ?_
      refine qa_s (pc' := 33) at_23_32 rfl rfl rfl ?_
      refine qa_ic (nx := 34) (v := nI 0) at_23_33 (by decide) rfl ?_
      refine qa_callV (nx := 37) at_23_34 rfl rfl (Nat.le_of_ble_eq_true rfl) rfl rfl rfl (by decide) rfl (by decide) ?_
      show qa _ 24 0 [(0, .ref _), (1, .int _), (2, .int _), (3, .int _)] [] _ _
      refine c24_q ?_
      show qa _ 23 37 _ [.int _] _ _
      refine qa_ret at_23_37 rfl ?_
      exact Kb 0 1 _ (by omega) (fun j hj => absurd hj (Nat.not_lt_zero _)) (by unfold why; rw [if_neg (by omega), if_pos ⟨by omega, by omega⟩]) (by decide) (by decide) ⟨fun a g1 g2 g3 => by rw [up_k g1]; exact hF.1 a g1 g2 g3, hF.2⟩ rfl
/-- the masks of the called -/
def mks (L : Nat → Nat) (P Y : Nat → Nat → Nat) (i y : Nat) : Nat := if y = 1 then M1 L P Y i else M2 L P Y i
/-- routine r of task i is sound -/
def rtOk (L : Nat → Nat) (P Y : Nat → Nat → Nat) (i r : Nat) : Prop := (∀ j, j < L (3 * i + r) → ckA L P Y (mks L P Y i) i r j = 0) ∧ ¬ (r = 0 ∧ L (3 * i + r) = 0) ∧ std (P (3 * i + r)) (L (3 * i + r)) = 0
/-- the first reason against task i: w, in routine r at k -/
def bad (L : Nat → Nat) (P Y : Nat → Nat → Nat) (i r k w : Nat) : Prop := r < 3 ∧ (∀ q, q < r → rtOk L P Y i q) ∧ k ≤ L (3 * i + r) ∧ (∀ j, j < k → ckA L P Y (mks L P Y i) i r j = 0) ∧ why L P Y (mks L P Y i) i r k = w ∧ 0 < w ∧ w < 9
def frI (i : Nat) (σ1 σ : sg) : Prop := (∀ a, a ≠ 2 → a ≠ 3 → a ≠ 13 → a ≠ 17 → σ1 a = σ a) ∧ (∀ n j, j ≠ 5 → σ1 13 n j = σ 13 n j) ∧ ∀ n, (∀ q, q < 3 → n ≠ 3 * i + q) → σ1 17 n = σ 17 n
theorem c21_q (hi : i < 5) (hI : ImC L P Y σ) (Kb : ∀ r k w σ1, bad L P Y i r k w → frI i σ1 σ → σ1 2 0 0 = nI (100 * r + k) → Q (some (.int (nI w))) σ1)
    (Kg : (∀ q, q < 3 → rtOk L P Y i q) → ∀ σ1, frI i σ1 σ → σ1 2 0 0 = σ 2 0 0 → (∀ q, q < 3 → mtAll (P (3 * i + q)) (3 * i + q) (L (3 * i + q)) σ1) → Q (some (.int (nI 0))) σ1) : qa cst 21 0 [(0, .ref (cl 2 0)), (1, .ref (cl 12 i))] [] σ Q := by
  refine qa_s (pc' := 1) at_21_0 rfl rfl rfl ?_
  refine qa_s (pc' := 2) at_21_1 rfl rfl rfl ?_
  refine qa_callV (nx := 5) at_21_2 rfl rfl (Nat.le_of_ble_eq_true rfl) rfl rfl rfl (by decide) rfl (by decide) ?_
  show qa _ 22 0 [(0, .ref _), (1, .ref _)] [] _ _
  refine c22_q hi hI (fun σ0 a1 a2 a3 a4 => ?_)
  have hI0 : ImC L P Y σ0 := ImC_of (σ := σ) (fun n => a2 n 4 (by decide)) (a1 14 (by decide)) (a1 16 (by decide)) hI
  have hm0 : ∀ y, 1 ≤ y → y ≤ 2 → mks L P Y i y < 16 ∧ σ0 13 (3 * i + y) 5 = nI (mks L P Y i y) := by
    intro y g1 g2
    obtain rfl | rfl : y = 1 ∨ y = 2 := by omega
    · exact ⟨M1_16 hi hI, a3⟩
    · exact ⟨M2_16 hi hI, a4⟩
  show qa _ 21 5 _ [] _ _
  refine qa_ic (nx := 6) (v := nI 0) at_21_5 (by decide) rfl ?_
  refine qa_s (pc' := 7) at_21_6 rfl rfl rfl ?_
  refine qa_s (pc' := 8) at_21_7 rfl rfl rfl ?_
  refine qa_ic (nx := 9) (v := nI 3) at_21_8 (by decide) rfl ?_
  refine qn_icmp_ge (tg := 31) (nx := 12) at_21_9 rfl rfl (by decide) (by decide) (fun h => absurd h (by decide)) (fun h21_9 => ?_)
  refine qa_s (pc' := 13) at_21_12 rfl rfl rfl ?_
  refine qa_s (pc' := 14) at_21_13 rfl rfl rfl ?_
  refine qa_s (pc' := 15) at_21_14 rfl rfl rfl ?_
  refine qa_callV (nx := 18) at_21_15 rfl rfl (Nat.le_of_ble_eq_true rfl) rfl rfl rfl (by decide) rfl (by decide) ?_
  show qa _ 23 0 [(0, .ref _), (1, .ref _), (2, .int _)] [] _ _
  refine c23_q (mk := mks L P Y i) (r := 0) hi (by decide) hI0 hm0 (fun k w σ1 b1 b2 b3 b4 b5 b6 b7 => ?_) (fun c1 c2 c3 τ0 d1 d2 d3 => ?_)
  · have hw := b4
    have hw9 := b5
    show qa _ 21 18 _ [.int _] _ _
    refine qa_s (pc' := 19) at_21_18 rfl rfl rfl ?_
    refine qa_s (pc' := 20) at_21_19 rfl rfl rfl ?_
    refine qn_if_eq (tg := 25) (nx := 23) at_21_20 rfl rfl (by omega) (fun h21_20 => ?_) (fun h21_20 => ?_)
    · omega
    · refine qa_s (pc' := 24) at_21_23 rfl rfl rfl ?_
      refine qa_ret at_21_24 rfl ?_
      exact Kb 0 k w σ1 ⟨by decide, (fun q hq => absurd hq (Nat.not_lt_zero _)), b1, b2, b3, b4, b5⟩ ⟨fun a g1 g2 g3 g4 => by rw [b6.1 a g1 g2 g4]; exact a1 a g3, fun n j g => by rw [b6.1 13 (by decide) (by decide) (by decide)]; exact a2 n j g, fun n g => by rw [b6.2 n (g 0 (by decide)), a1 17 (by decide)]⟩ b7
  · have ok0 : rtOk L P Y i 0 := ⟨c1, c2, c3⟩
    have d1_0 := d1
    have d2_0 := d2
    have d3_0 := d3
    have hI1 : ImC L P Y τ0 := ImC_of (σ := σ0) (fun n => by rw [d1.1 13 (by decide) (by decide) (by decide)]) (d1.1 14 (by decide) (by decide) (by decide)) (d1.1 16 (by decide) (by decide) (by decide)) hI0
    have hm1 : ∀ y, 1 ≤ y → y ≤ 2 → mks L P Y i y < 16 ∧ τ0 13 (3 * i + y) 5 = nI (mks L P Y i y) := fun y g1 g2 => by rw [d1.1 13 (by decide) (by decide) (by decide)]; exact hm0 y g1 g2
    show qa _ 21 18 _ [.int _] _ _
    refine qa_s (pc' := 19) at_21_18 rfl rfl rfl ?_
    refine qa_s (pc' := 20) at_21_19 rfl rfl rfl ?_
    refine qn_if_eq (tg := 25) (nx := 23) at_21_20 rfl rfl (by decide) (fun h21_20 => ?_) (fun h => absurd h (by decide))
    refine qa_incN (nx := 28) (c := 1) at_21_25 (by decide) rfl rfl rfl ?_
    refine qa_goto (nx := 7) at_21_28 rfl ?_
    refine qa_s (pc' := 8) at_21_7 rfl rfl rfl ?_
    refine qa_ic (nx := 9) (v := nI 3) at_21_8 (by decide) rfl ?_
    refine qn_icmp_ge (tg := 31) (nx := 12) at_21_9 rfl rfl (by decide) (by decide) (fun h => absurd h (by decide)) (fun h21_9 => ?_)
    refine qa_s (pc' := 13) at_21_12 rfl rfl rfl ?_
    refine qa_s (pc' := 14) at_21_13 rfl rfl rfl ?_
    refine qa_s (pc' := 15) at_21_14 rfl rfl rfl ?_
    refine qa_callV (nx := 18) at_21_15 rfl rfl (Nat.le_of_ble_eq_true rfl) rfl rfl rfl (by decide) rfl (by decide) ?_
    show qa _ 23 0 [(0, .ref _), (1, .ref _), (2, .int _)] [] _ _
    refine c23_q (mk := mks L P Y i) (r := 1) hi (by decide) hI1 hm1 (fun k w σ1 b1 b2 b3 b4 b5 b6 b7 => ?_) (fun c1 c2 c3 τ1 d1 d2 d3 => ?_)
    · have hw := b4
      have hw9 := b5
      show qa _ 21 18 _ [.int _] _ _
      refine qa_s (pc' := 19) at_21_18 rfl rfl rfl ?_
      refine qa_s (pc' := 20) at_21_19 rfl rfl rfl ?_
      refine qn_if_eq (tg := 25) (nx := 23) at_21_20 rfl rfl (by omega) (fun h21_20 => ?_) (fun h21_20 => ?_)
      · omega
      · refine qa_s (pc' := 24) at_21_23 rfl rfl rfl ?_
        refine qa_ret at_21_24 rfl ?_
        exact Kb 1 k w σ1 ⟨by decide, (by intro q hq; (obtain rfl : q = 0 := by omega) <;> first | exact ok0), b1, b2, b3, b4, b5⟩ ⟨fun a g1 g2 g3 g4 => by rw [b6.1 a g1 g2 g4, d1_0.1 a g1 g2 g4]; exact a1 a g3, fun n j g => by rw [b6.1 13 (by decide) (by decide) (by decide), d1_0.1 13 (by decide) (by decide) (by decide)]; exact a2 n j g, fun n g => by rw [b6.2 n (g 1 (by decide)), d1_0.2 n (g 0 (by decide)), a1 17 (by decide)]⟩ b7
    · have ok1 : rtOk L P Y i 1 := ⟨c1, c2, c3⟩
      have d1_1 := d1
      have d2_1 := d2
      have d3_1 := d3
      have hI2 : ImC L P Y τ1 := ImC_of (σ := τ0) (fun n => by rw [d1.1 13 (by decide) (by decide) (by decide)]) (d1.1 14 (by decide) (by decide) (by decide)) (d1.1 16 (by decide) (by decide) (by decide)) hI1
      have hm2 : ∀ y, 1 ≤ y → y ≤ 2 → mks L P Y i y < 16 ∧ τ1 13 (3 * i + y) 5 = nI (mks L P Y i y) := fun y g1 g2 => by rw [d1.1 13 (by decide) (by decide) (by decide)]; exact hm1 y g1 g2
      show qa _ 21 18 _ [.int _] _ _
      refine qa_s (pc' := 19) at_21_18 rfl rfl rfl ?_
      refine qa_s (pc' := 20) at_21_19 rfl rfl rfl ?_
      refine qn_if_eq (tg := 25) (nx := 23) at_21_20 rfl rfl (by decide) (fun h21_20 => ?_) (fun h => absurd h (by decide))
      refine qa_incN (nx := 28) (c := 1) at_21_25 (by decide) rfl rfl rfl ?_
      refine qa_goto (nx := 7) at_21_28 rfl ?_
      refine qa_s (pc' := 8) at_21_7 rfl rfl rfl ?_
      refine qa_ic (nx := 9) (v := nI 3) at_21_8 (by decide) rfl ?_
      refine qn_icmp_ge (tg := 31) (nx := 12) at_21_9 rfl rfl (by decide) (by decide) (fun h => absurd h (by decide)) (fun h21_9 => ?_)
      refine qa_s (pc' := 13) at_21_12 rfl rfl rfl ?_
      refine qa_s (pc' := 14) at_21_13 rfl rfl rfl ?_
      refine qa_s (pc' := 15) at_21_14 rfl rfl rfl ?_
      refine qa_callV (nx := 18) at_21_15 rfl rfl (Nat.le_of_ble_eq_true rfl) rfl rfl rfl (by decide) rfl (by decide) ?_
      show qa _ 23 0 [(0, .ref _), (1, .ref _), (2, .int _)] [] _ _
      refine c23_q (mk := mks L P Y i) (r := 2) hi (by decide) hI2 hm2 (fun k w σ1 b1 b2 b3 b4 b5 b6 b7 => ?_) (fun c1 c2 c3 τ2 d1 d2 d3 => ?_)
      · have hw := b4
        have hw9 := b5
        show qa _ 21 18 _ [.int _] _ _
        refine qa_s (pc' := 19) at_21_18 rfl rfl rfl ?_
        refine qa_s (pc' := 20) at_21_19 rfl rfl rfl ?_
        refine qn_if_eq (tg := 25) (nx := 23) at_21_20 rfl rfl (by omega) (fun h21_20 => ?_) (fun h21_20 => ?_)
        · omega
        · refine qa_s (pc' := 24) at_21_23 rfl rfl rfl ?_
          refine qa_ret at_21_24 rfl ?_
          exact Kb 2 k w σ1 ⟨by decide, (by intro q hq; (obtain rfl | rfl : q = 0 ∨ q = 1 := by omega) <;> first | exact ok0 | exact ok1), b1, b2, b3, b4, b5⟩ ⟨fun a g1 g2 g3 g4 => by rw [b6.1 a g1 g2 g4, d1_1.1 a g1 g2 g4, d1_0.1 a g1 g2 g4]; exact a1 a g3, fun n j g => by rw [b6.1 13 (by decide) (by decide) (by decide), d1_1.1 13 (by decide) (by decide) (by decide), d1_0.1 13 (by decide) (by decide) (by decide)]; exact a2 n j g, fun n g => by rw [b6.2 n (g 2 (by decide)), d1_1.2 n (g 1 (by decide)), d1_0.2 n (g 0 (by decide)), a1 17 (by decide)]⟩ b7
      · have ok2 : rtOk L P Y i 2 := ⟨c1, c2, c3⟩
        have d1_2 := d1
        have d2_2 := d2
        have d3_2 := d3
        have hI3 : ImC L P Y τ2 := ImC_of (σ := τ1) (fun n => by rw [d1.1 13 (by decide) (by decide) (by decide)]) (d1.1 14 (by decide) (by decide) (by decide)) (d1.1 16 (by decide) (by decide) (by decide)) hI2
        have hm3 : ∀ y, 1 ≤ y → y ≤ 2 → mks L P Y i y < 16 ∧ τ2 13 (3 * i + y) 5 = nI (mks L P Y i y) := fun y g1 g2 => by rw [d1.1 13 (by decide) (by decide) (by decide)]; exact hm2 y g1 g2
        show qa _ 21 18 _ [.int _] _ _
        refine qa_s (pc' := 19) at_21_18 rfl rfl rfl ?_
        refine qa_s (pc' := 20) at_21_19 rfl rfl rfl ?_
        refine qn_if_eq (tg := 25) (nx := 23) at_21_20 rfl rfl (by decide) (fun h21_20 => ?_) (fun h => absurd h (by decide))
        refine qa_incN (nx := 28) (c := 1) at_21_25 (by decide) rfl rfl rfl ?_
        refine qa_goto (nx := 7) at_21_28 rfl ?_
        refine qa_s (pc' := 8) at_21_7 rfl rfl rfl ?_
        refine qa_ic (nx := 9) (v := nI 3) at_21_8 (by decide) rfl ?_
        refine qn_icmp_ge (tg := 31) (nx := 12) at_21_9 rfl rfl (by decide) (by decide) (fun h21_9 => ?_) (fun h => absurd h (by decide))
        refine qa_ic (nx := 32) (v := nI 0) at_21_31 (by decide) rfl ?_
        refine qa_ret at_21_32 rfl ?_
        exact Kg (by intro q hq; (obtain rfl | rfl | rfl : q = 0 ∨ q = 1 ∨ q = 2 := by omega) <;> first | exact ok0 | exact ok1 | exact ok2) τ2 ⟨fun a g1 g2 g3 g4 => by rw [d1_2.1 a g1 g2 g4, d1_1.1 a g1 g2 g4, d1_0.1 a g1 g2 g4]; exact a1 a g3, fun n j g => by rw [d1_2.1 13 (by decide) (by decide) (by decide), d1_1.1 13 (by decide) (by decide) (by decide), d1_0.1 13 (by decide) (by decide) (by decide)]; exact a2 n j g, fun n g => by rw [d1_2.2 n (g 2 (by decide)), d1_1.2 n (g 1 (by decide)), d1_0.2 n (g 0 (by decide)), a1 17 (by decide)]⟩ (by rw [d2_2, d2_1, d2_0, a1 2 (by decide)]) (by intro q hq; (obtain rfl | rfl | rfl : q = 0 ∨ q = 1 ∨ q = 2 := by omega) <;> first | exact d3_2 | (intro c hc hpc; have e := d3_1 c hc hpc; rw [d1_2.2 _ (by omega)]; exact e) | (intro c hc hpc; have e := d3_0 c hc hpc; rw [d1_2.2 _ (by omega), d1_1.2 _ (by omega)]; exact e))
end PQ
