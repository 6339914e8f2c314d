/-! the fourth call: the cost of a span, both sides -/
section PQ
variable {cst : List (List Int32)} {ys : List Int32} {σ b : sg} {Q : Option Value → sg → Prop} {T k i r d n f t : Nat} {s : Nat → Nat} {L : Nat → Nat} {P Y : Nat → Nat → Nat} {mk : Nat → Nat} {p tot : Nat → Nat}
/-- a routine is sound, as its costs need it -/
def SD (L : Nat → Nat) (P Y : Nat → Nat → Nat) (i r : Nat) : Prop := SR (P (3 * i + r)) (Y (3 * i + r)) (L (3 * i + r)) ∧ (∀ k, k < L (3 * i + r) → P (3 * i + r) k = 10 → r < Y (3 * i + r) k ∧ Y (3 * i + r) k ≤ 2 ∧ 0 < L (3 * i + Y (3 * i + r) k)) ∧ (∀ k, k < L (3 * i + r) → P (3 * i + r) k = 5 → 1 ≤ Y (3 * i + r) k ∧ k + 1 + Y (3 * i + r) k ≤ L (3 * i + r)) ∧ (∀ k, k < L (3 * i + r) → P (3 * i + r) k < 15) ∧ (∀ k, k < L (3 * i + r) → P (3 * i + r) k = 8 → Y (3 * i + r) k < 4)
theorem SD_of (hi : i < 5) (hr : r < 3) (hI : ImC L P Y σ) (h : rtOk L P Y i r) : SD L P Y i r := by
  have hL := (hI (3 * i + r) (by omega)).1
  have hS := fun k hk => StOk_at (mk := mks L P Y i) (by omega) hI k hk (fun j hj => h.1 j (by omega))
  have hy : ∀ k, k < L (3 * i + r) → P (3 * i + r) k ≠ 0 → okY (P (3 * i + r) k) (Y (3 * i + r) k) := fun k hk g => (((hI (3 * i + r) (by omega)).2.2 k (by omega)).2.2 g).2
  refine ⟨⟨hL, fun k hk g => (imY (hy k hk (by omega))).2.2.1 g, fun k hk => (hS k hk).2.1, fun k hk g => ?_, fun k hk g => ?_, h.2.2⟩, fun k hk g => ?_, fun k hk g => ?_, fun k hk => ((hI (3 * i + r) (by omega)).2.2 k (by omega)).1, fun k hk g => (imY (hy k hk (by omega))).1 g⟩
  · have q := h.1 k hk
    unfold ckA ckR at q
    simp [g] at q
    exact q
  · have q := h.1 k hk
    unfold ckA ckR at q
    simp [g] at q
    exact q
  · have q := h.1 k hk
    unfold ckA ckR at q
    have g2 := (imY (hy k hk (by omega))).2.1 g
    by_cases c : Y (3 * i + r) k ≤ r ∨ L (3 * i + Y (3 * i + r) k) = 0
    · simp [g, c] at q
    · exact ⟨by omega, g2, by omega⟩
  · have q := h.1 k hk
    unfold ckA ckR at q
    have g2 := (imY (hy k hk (by omega))).2.2.2 g
    by_cases c : k + 1 + Y (3 * i + r) k ≤ L (3 * i + r) ∧ jmp (P (3 * i + r)) (Y (3 * i + r) k) (k + 1) 0 = true
    · exact ⟨g2.1, c.1⟩
    · simp only [g] at q
      rw [if_neg (by decide), if_neg (by decide), if_neg (by decide), if_neg (by decide), if_neg (by decide), if_pos trivial, if_neg c] at q
      omega
theorem opn_lt {l : Nat} {y : Nat → Nat} (h : SR p y l) (hk : k < l) (g : p k = 7 ∨ p k = 9) : opn p k < k := by
  have h0 : 0 < std p k := by
    rcases g with g | g
    · exact (h.2.2.2.1 k hk g).1
    · exact (h.2.2.2.2.1 k hk g).1
  exact (sts_lt p k (std p k - 1) (by omega)).1
theorem c38_l (hi : i < 5) (hr : r < 3) (hI : ImC L P Y σ) (hD : SD L P Y i r) (hM : mtAll (P (3 * i + r)) (3 * i + r) (L (3 * i + r)) σ) (hT : ∀ y, r < y → y ≤ 2 → σ 13 (3 * i + y) 6 = nI (tot y)) (hS : Spn (P (3 * i + r)) (Y (3 * i + r)) (L (3 * i + r)) f t) (K : Q (some (.int (nI (sm (P (3 * i + r)) (Y (3 * i + r)) tot f t)))) σ) : ∀ m k v4 v5, v4 = nI (sm (P (3 * i + r)) (Y (3 * i + r)) tot f k) → v5 = nI (tmS (P (3 * i + r)) (Y (3 * i + r)) f k) → k + m = t → f ≤ k → qa (mj_cst ys) 38 9 [(0, .ref (cl 12 i)), (1, .ref (cl 13 (3 * i + r))), (2, .int (nI f)), (3, .int (nI t)), (4, .int v4), (5, .int v5), (6, .int (nI k))] [] σ Q := by
  have hL := hD.1.1
  have htl := hS.2.1
  intro m
  induction m with
  | zero =>
    intro k v4 v5 e4 e5 hk hf
    obtain rfl : k = t := by omega
    subst e4; subst e5
    refine qa_s (pc' := 11) at_38_9 rfl rfl rfl ?_
    refine qa_s (pc' := 12) at_38_11 rfl rfl rfl ?_
    refine qn_icmp_ge (tg := 118) (nx := 15) at_38_12 rfl rfl (by omega) (by omega) (fun h38_12 => ?_) (fun h38_12 => ?_)
    · refine qa_s (pc' := 120) at_38_118 rfl rfl rfl ?_
      refine qa_ret at_38_120 rfl ?_
      exact K
    · omega
  | succ m ih =>
    intro k v4 v5 e4 e5 hk hf
    subst e4; subst e5
    obtain ⟨hP, e14, h16⟩ := (hI (3 * i + r) (by omega)).2.2 k (by omega)
    have htm := Nat.le_trans (hS.2.2 k hf (by omega)).2 gL_64
    have hsm : sm (P (3 * i + r)) (Y (3 * i + r)) tot f (k + 1) = sm (P (3 * i + r)) (Y (3 * i + r)) tot f k + tmS (P (3 * i + r)) (Y (3 * i + r)) f k * ctk (P (3 * i + r)) (Y (3 * i + r)) tot k := by simp only [sm]; rw [if_neg (by omega)]
    have htS : tmS (P (3 * i + r)) (Y (3 * i + r)) f (k + 1) = if P (3 * i + r) k = 6 then tmS (P (3 * i + r)) (Y (3 * i + r)) f k * Y (3 * i + r) k else if P (3 * i + r) k = 7 then tmS (P (3 * i + r)) (Y (3 * i + r)) f k / Y (3 * i + r) (opn (P (3 * i + r)) k) else tmS (P (3 * i + r)) (Y (3 * i + r)) f k := by simp only [tmS]; rw [if_neg (by omega)]
    refine qa_s (pc' := 11) at_38_9 rfl rfl rfl ?_
    refine qa_s (pc' := 12) at_38_11 rfl rfl rfl ?_
    refine qn_icmp_ge (tg := 118) (nx := 15) at_38_12 rfl rfl (by omega) (by omega) (fun h38_12 => ?_) (fun h38_12 => ?_)
    · omega
    · refine qa_s (pc' := 16) at_38_15 rfl rfl rfl ?_
      refine qa_getR (nx := 19) at_38_16 rfl (by decide) rfl rfl (show _ < 15 by omega) ?_
      refine qa_s (pc' := 21) at_38_19 rfl rfl rfl ?_
      refine qa_ialdV (nx := 22) (k := k) (v := nI (P (3 * i + r) k)) at_38_21 rfl rfl rfl (show _ < 15 by omega) rfl (show k < 12 by omega) (show _ from e14) ?_
      refine qa_s (pc' := 24) at_38_22 rfl rfl rfl ?_
      refine qa_s (pc' := 26) at_38_24 rfl rfl rfl ?_
      refine qa_s (pc' := 28) at_38_26 rfl rfl rfl ?_
      refine qa_s (pc' := 31) at_38_28 rfl rfl rfl ?_
      refine qa_s (pc' := 33) at_38_31 rfl rfl rfl ?_
      refine qa_taldC (nx := 34) at_38_33 (by omega) rfl ?_
      refine qa_mulN (nx := 35) at_38_34 rfl ?_
      refine qa_addN (nx := 36) at_38_35 rfl ?_
      refine qa_s (pc' := 38) at_38_36 rfl rfl rfl ?_
      refine qa_s (pc' := 40) at_38_38 rfl rfl rfl ?_
      refine qa_bi (nx := 42) (v := nI 6) at_38_40 (by decide) rfl ?_
      refine qn_icmp_ne (tg := 60) (nx := 45) at_38_42 rfl rfl (by omega) (by omega) (fun h38_42 => ?_) (fun h38_42 => ?_)
      · refine qa_s (pc' := 62) at_38_60 rfl rfl rfl ?_
        refine qa_bi (nx := 64) (v := nI 7) at_38_62 (by decide) rfl ?_
        refine qn_icmp_ne (tg := 85) (nx := 67) at_38_64 rfl rfl (by omega) (by omega) (fun h38_64 => ?_) (fun h38_64 => ?_)
        · refine qa_s (pc' := 87) at_38_85 rfl rfl rfl ?_
          refine qa_bi (nx := 89) (v := nI 10) at_38_87 (by decide) rfl ?_
          refine qn_icmp_ne (tg := 112) (nx := 92) at_38_89 rfl rfl (by omega) (by omega) (fun h38_89 => ?_) (fun h38_89 => ?_)
          · refine qa_incN (nx := 115) (c := 1) at_38_112 (by decide) rfl rfl rfl ?_
            refine qa_goto (nx := 9) at_38_115 rfl ?_
            show qa _ _ _ [(0, .ref (cl 12 i)), (1, .ref (cl 13 (3 * i + r))), (2, .int (nI f)), (3, .int (nI t)), (4, .int (nI ((sm (P (3 * i + r)) (Y (3 * i + r)) tot f k) + ((tmS (P (3 * i + r)) (Y (3 * i + r)) f k) * (prN (P (3 * i + r) k)))))), (5, .int (nI (tmS (P (3 * i + r)) (Y (3 * i + r)) f k))), (6, .int (nI (k + 1))), (7, .int _)] [] _ _
            exact qa_drop (l1 := [(0, .ref (cl 12 i)), (1, .ref (cl 13 (3 * i + r))), (2, .int (nI f)), (3, .int (nI t)), (4, .int (nI ((sm (P (3 * i + r)) (Y (3 * i + r)) tot f k) + ((tmS (P (3 * i + r)) (Y (3 * i + r)) f k) * (prN (P (3 * i + r) k)))))), (5, .int (nI (tmS (P (3 * i + r)) (Y (3 * i + r)) f k))), (6, .int (nI (k + 1)))]) (by intro q hq; simp only [List.mem_cons, List.not_mem_nil, or_false] at hq ⊢; rcases hq with rfl | rfl | rfl | rfl | rfl | rfl | rfl <;> simp) (by simp [mj_nd]) (ih (k + 1) _ _ (by first | (rw [hsm, show ctk (P (3 * i + r)) (Y (3 * i + r)) tot k = prN (P (3 * i + r) k) + tot (Y (3 * i + r) k) from by unfold ctk; rw [if_pos (by omega)], Nat.mul_add, Nat.add_assoc]) | (rw [hsm, show ctk (P (3 * i + r)) (Y (3 * i + r)) tot k = prN (P (3 * i + r) k) from by unfold ctk; rw [if_neg (by omega), Nat.add_zero]])) (by first | rw [htS, if_pos (by omega)] | rw [htS, if_neg (by omega), if_pos (by omega), Nat.max_eq_right (by omega)] | rw [htS, if_neg (by omega), if_neg (by omega)]) (by omega) (by omega))
          · have hcy := hD.2.1 k (by omega) h38_89
            refine qa_s (pc' := 94) at_38_92 rfl rfl rfl ?_
            refine qa_s (pc' := 96) at_38_94 rfl rfl rfl ?_
            refine qa_s (pc' := 97) at_38_96 rfl rfl rfl ?_
            refine qa_s (pc' := 98) at_38_97 rfl rfl rfl ?_
            refine qa_getR (nx := 101) at_38_98 rfl (by decide) rfl rfl (show _ < 15 by omega) ?_
            refine qa_s (pc' := 103) at_38_101 rfl rfl rfl ?_
            refine qa_ialdV (nx := 104) (k := k) (v := nI (Y (3 * i + r) k)) at_38_103 rfl rfl rfl (show _ < 15 by omega) rfl (show k < 12 by omega) (show _ from (h16 (by omega)).1) ?_
            refine qa_aald (nx := 105) (k := Y (3 * i + r) k) at_38_104 (by decide) rfl rfl (show _ < 5 by omega) rfl (show Y (3 * i + r) k < 3 by omega) ?_
            refine qa_getV (nx := 108) (v := nI (tot (Y (3 * i + r) k))) at_38_105 rfl (by decide) rfl rfl (show _ < 15 by omega) (show _ from hT _ hcy.1 hcy.2.1) ?_
            refine qa_mulN (nx := 109) at_38_108 rfl ?_
            refine qa_addN (nx := 110) at_38_109 rfl ?_
            refine qa_s (pc' := 112) at_38_110 rfl rfl rfl ?_
            refine qa_incN (nx := 115) (c := 1) at_38_112 (by decide) rfl rfl rfl ?_
            refine qa_goto (nx := 9) at_38_115 rfl ?_
            show qa _ _ _ [(0, .ref (cl 12 i)), (1, .ref (cl 13 (3 * i + r))), (2, .int (nI f)), (3, .int (nI t)), (4, .int (nI (((sm (P (3 * i + r)) (Y (3 * i + r)) tot f k) + ((tmS (P (3 * i + r)) (Y (3 * i + r)) f k) * (prN (P (3 * i + r) k)))) + ((tmS (P (3 * i + r)) (Y (3 * i + r)) f k) * (tot (Y (3 * i + r) k)))))), (5, .int (nI (tmS (P (3 * i + r)) (Y (3 * i + r)) f k))), (6, .int (nI (k + 1))), (7, .int _)] [] _ _
            exact qa_drop (l1 := [(0, .ref (cl 12 i)), (1, .ref (cl 13 (3 * i + r))), (2, .int (nI f)), (3, .int (nI t)), (4, .int (nI (((sm (P (3 * i + r)) (Y (3 * i + r)) tot f k) + ((tmS (P (3 * i + r)) (Y (3 * i + r)) f k) * (prN (P (3 * i + r) k)))) + ((tmS (P (3 * i + r)) (Y (3 * i + r)) f k) * (tot (Y (3 * i + r) k)))))), (5, .int (nI (tmS (P (3 * i + r)) (Y (3 * i + r)) f k))), (6, .int (nI (k + 1)))]) (by intro q hq; simp only [List.mem_cons, List.not_mem_nil, or_false] at hq ⊢; rcases hq with rfl | rfl | rfl | rfl | rfl | rfl | rfl <;> simp) (by simp [mj_nd]) (ih (k + 1) _ _ (by first | (rw [hsm, show ctk (P (3 * i + r)) (Y (3 * i + r)) tot k = prN (P (3 * i + r) k) + tot (Y (3 * i + r) k) from by unfold ctk; rw [if_pos (by omega)], Nat.mul_add, Nat.add_assoc]) | (rw [hsm, show ctk (P (3 * i + r)) (Y (3 * i + r)) tot k = prN (P (3 * i + r) k) from by unfold ctk; rw [if_neg (by omega), Nat.add_zero]])) (by first | rw [htS, if_pos (by omega)] | rw [htS, if_neg (by omega), if_pos (by omega), Nat.max_eq_right (by omega)] | rw [htS, if_neg (by omega), if_neg (by omega)]) (by omega) (by omega))
        · have hop := opn_lt hD.1 (by omega : k < L (3 * i + r)) (Or.inl h38_64)
          have hmt := (hM k (by omega) (Or.inl h38_64)).1
          have hpo := (hD.1.2.2.2.1 k (by omega) h38_64).2
          have hyo := hD.1.2.1 (opn (P (3 * i + r)) k) (by omega) hpo
          have e16o := (((hI (3 * i + r) (by omega)).2.2 (opn (P (3 * i + r)) k) (by omega)).2.2 (by omega)).1
          refine qa_s (pc' := 69) at_38_67 rfl rfl rfl ?_
          refine qa_ic (nx := 70) (v := nI 1) at_38_69 (by decide) rfl ?_
          refine qa_s (pc' := 71) at_38_70 rfl rfl rfl ?_
          refine qa_s (pc' := 73) at_38_71 rfl rfl rfl ?_
          refine qa_callV (nx := 76) at_38_73 rfl rfl (Nat.le_of_ble_eq_true rfl) rfl rfl rfl (by decide) rfl (show _ < 15 by omega) ?_
          show qa _ 31 0 [(0, .ref _), (1, .int _)] [] _ _
          refine qa_s (pc' := 1) at_31_0 rfl rfl rfl ?_
          refine qa_getR (nx := 4) at_31_1 rfl (by decide) rfl rfl (show _ < 15 by omega) ?_
          refine qa_s (pc' := 5) at_31_4 rfl rfl rfl ?_
          refine qa_getR (nx := 8) at_31_5 rfl (by decide) rfl rfl (show _ < 15 by omega) ?_
          refine qa_s (pc' := 9) at_31_8 rfl rfl rfl ?_
          refine qa_ialdV (nx := 10) (k := k) (v := nI (opn (P (3 * i + r)) k)) at_31_9 rfl rfl rfl (show _ < 15 by omega) rfl (show k < 12 by omega) (show _ from hmt) ?_
          refine qa_ialdV (nx := 11) (k := opn (P (3 * i + r)) k) (v := nI (Y (3 * i + r) (opn (P (3 * i + r)) k))) at_31_10 rfl rfl rfl (show _ < 15 by omega) rfl (show opn (P (3 * i + r)) k < 12 by omega) (show _ from e16o) ?_
          refine qa_ret at_31_11 rfl ?_
          show qa _ 38 76 _ [.int _, .int _, .int _] _ _
          refine qa_maxN (nx := 79) at_38_76 rfl (by decide) (by omega) rfl ?_
          refine qa_divN (nx := 80) at_38_79 (by omega) (by omega) (by omega) rfl ?_
          refine qa_s (pc' := 82) at_38_80 rfl rfl rfl ?_
          refine qa_goto (nx := 112) at_38_82 rfl ?_
          refine qa_incN (nx := 115) (c := 1) at_38_112 (by decide) rfl rfl rfl ?_
          refine qa_goto (nx := 9) at_38_115 rfl ?_
          show qa _ _ _ [(0, .ref (cl 12 i)), (1, .ref (cl 13 (3 * i + r))), (2, .int (nI f)), (3, .int (nI t)), (4, .int (nI ((sm (P (3 * i + r)) (Y (3 * i + r)) tot f k) + ((tmS (P (3 * i + r)) (Y (3 * i + r)) f k) * (prN (P (3 * i + r) k)))))), (5, .int (nI ((tmS (P (3 * i + r)) (Y (3 * i + r)) f k) / (max 1 (Y (3 * i + r) (opn (P (3 * i + r)) k)))))), (6, .int (nI (k + 1))), (7, .int _)] [] _ _
          exact qa_drop (l1 := [(0, .ref (cl 12 i)), (1, .ref (cl 13 (3 * i + r))), (2, .int (nI f)), (3, .int (nI t)), (4, .int (nI ((sm (P (3 * i + r)) (Y (3 * i + r)) tot f k) + ((tmS (P (3 * i + r)) (Y (3 * i + r)) f k) * (prN (P (3 * i + r) k)))))), (5, .int (nI ((tmS (P (3 * i + r)) (Y (3 * i + r)) f k) / (max 1 (Y (3 * i + r) (opn (P (3 * i + r)) k)))))), (6, .int (nI (k + 1)))]) (by intro q hq; simp only [List.mem_cons, List.not_mem_nil, or_false] at hq ⊢; rcases hq with rfl | rfl | rfl | rfl | rfl | rfl | rfl <;> simp) (by simp [mj_nd]) (ih (k + 1) _ _ (by first | (rw [hsm, show ctk (P (3 * i + r)) (Y (3 * i + r)) tot k = prN (P (3 * i + r) k) + tot (Y (3 * i + r) k) from by unfold ctk; rw [if_pos (by omega)], Nat.mul_add, Nat.add_assoc]) | (rw [hsm, show ctk (P (3 * i + r)) (Y (3 * i + r)) tot k = prN (P (3 * i + r) k) from by unfold ctk; rw [if_neg (by omega), Nat.add_zero]])) (by first | rw [htS, if_pos (by omega)] | rw [htS, if_neg (by omega), if_pos (by omega), Nat.max_eq_right (by omega)] | rw [htS, if_neg (by omega), if_neg (by omega)]) (by omega) (by omega))
      · refine qa_s (pc' := 47) at_38_45 rfl rfl rfl ?_
        refine qa_s (pc' := 48) at_38_47 rfl rfl rfl ?_
        refine qa_getR (nx := 51) at_38_48 rfl (by decide) rfl rfl (show _ < 15 by omega) ?_
        refine qa_s (pc' := 53) at_38_51 rfl rfl rfl ?_
        refine qa_ialdV (nx := 54) (k := k) (v := nI (Y (3 * i + r) k)) at_38_53 rfl rfl rfl (show _ < 15 by omega) rfl (show k < 12 by omega) (show _ from (h16 (by omega)).1) ?_
        refine qa_mulN (nx := 55) at_38_54 rfl ?_
        refine qa_s (pc' := 57) at_38_55 rfl rfl rfl ?_
        refine qa_goto (nx := 112) at_38_57 rfl ?_
        refine qa_incN (nx := 115) (c := 1) at_38_112 (by decide) rfl rfl rfl ?_
        refine qa_goto (nx := 9) at_38_115 rfl ?_
        show qa _ _ _ [(0, .ref (cl 12 i)), (1, .ref (cl 13 (3 * i + r))), (2, .int (nI f)), (3, .int (nI t)), (4, .int (nI ((sm (P (3 * i + r)) (Y (3 * i + r)) tot f k) + ((tmS (P (3 * i + r)) (Y (3 * i + r)) f k) * (prN (P (3 * i + r) k)))))), (5, .int (nI ((tmS (P (3 * i + r)) (Y (3 * i + r)) f k) * (Y (3 * i + r) k)))), (6, .int (nI (k + 1))), (7, .int _)] [] _ _
        exact qa_drop (l1 := [(0, .ref (cl 12 i)), (1, .ref (cl 13 (3 * i + r))), (2, .int (nI f)), (3, .int (nI t)), (4, .int (nI ((sm (P (3 * i + r)) (Y (3 * i + r)) tot f k) + ((tmS (P (3 * i + r)) (Y (3 * i + r)) f k) * (prN (P (3 * i + r) k)))))), (5, .int (nI ((tmS (P (3 * i + r)) (Y (3 * i + r)) f k) * (Y (3 * i + r) k)))), (6, .int (nI (k + 1)))]) (by intro q hq; simp only [List.mem_cons, List.not_mem_nil, or_false] at hq ⊢; rcases hq with rfl | rfl | rfl | rfl | rfl | rfl | rfl <;> simp) (by simp [mj_nd]) (ih (k + 1) _ _ (by first | (rw [hsm, show ctk (P (3 * i + r)) (Y (3 * i + r)) tot k = prN (P (3 * i + r) k) + tot (Y (3 * i + r) k) from by unfold ctk; rw [if_pos (by omega)], Nat.mul_add, Nat.add_assoc]) | (rw [hsm, show ctk (P (3 * i + r)) (Y (3 * i + r)) tot k = prN (P (3 * i + r) k) from by unfold ctk; rw [if_neg (by omega), Nat.add_zero]])) (by first | rw [htS, if_pos (by omega)] | rw [htS, if_neg (by omega), if_pos (by omega), Nat.max_eq_right (by omega)] | rw [htS, if_neg (by omega), if_neg (by omega)]) (by omega) (by omega))
theorem c38_q (hi : i < 5) (hr : r < 3) (hI : ImC L P Y σ) (hD : SD L P Y i r) (hM : mtAll (P (3 * i + r)) (3 * i + r) (L (3 * i + r)) σ) (hT : ∀ y, r < y → y ≤ 2 → σ 13 (3 * i + y) 6 = nI (tot y)) (hS : Spn (P (3 * i + r)) (Y (3 * i + r)) (L (3 * i + r)) f t) (K : Q (some (.int (nI (sm (P (3 * i + r)) (Y (3 * i + r)) tot f t)))) σ) : qa (mj_cst ys) 38 0 [(0, .ref (cl 12 i)), (1, .ref (cl 13 (3 * i + r))), (2, .int (nI f)), (3, .int (nI t))] [] σ Q := by
  refine qa_ic (nx := 1) (v := nI 0) at_38_0 (by decide) rfl ?_
  refine qa_s (pc' := 3) at_38_1 rfl rfl rfl ?_
  refine qa_ic (nx := 4) (v := nI 1) at_38_3 (by decide) rfl ?_
  refine qa_s (pc' := 6) at_38_4 rfl rfl rfl ?_
  refine qa_s (pc' := 7) at_38_6 rfl rfl rfl ?_
  refine qa_s (pc' := 9) at_38_7 rfl rfl rfl ?_
  exact c38_l hi hr hI hD hM hT hS K (t - f) f _ _ (by rw [sm_f]) (by rw [tmS_f]) (by have := hS.1; omega) (Nat.le_refl _)
/-- the row far before place k -/
def FI (p y tot : Nat → Nat) (f t k : Nat) (σ : sg) : Prop := σ 51 0 k = nI (sm p y tot f k) ∧ ∀ j, k < j → j ≤ t → σ 51 0 j = -1 ∨ ∃ v : Nat, v ≤ sm p y tot f j ∧ σ 51 0 j = nI v
theorem FI_1 {y : Nat → Nat} (h : FI p y tot f t k σ) : FI p y tot f t (k + 1) (up σ 51 0 (k + 1) (nI (sm p y tot f (k + 1)))) := ⟨up_s, fun j h1 h2 => by rw [up_j (by omega)]; exact h.2 j (by omega) h2⟩
theorem FI_2 {y : Nat → Nat} {g : Nat} {w : Int32} (h : FI p y tot f t k σ) (hg : k < g) (hw : w = nI (sm p y tot f k) ∨ w = σ 51 0 g) : FI p y tot f t k (up σ 51 0 g w) := by
  refine ⟨by rw [up_j (by omega)]; exact h.1, fun j h1 h2 => ?_⟩
  by_cases e : j = g
  · subst e
    rw [up_s]
    rcases hw with hw | hw
    · have hm := sm_mono (p := p) (y := y) (tot := tot) (f := f) (j - k) k
      rw [show k + (j - k) = j by omega] at hm
      exact Or.inr ⟨_, hm, hw⟩
    · rw [hw]; exact h.2 j h1 h2
  · rw [up_j e]; exact h.2 j h1 h2
theorem c116_f (hn : n < 15) (htl : t ≤ 12) (K : ∀ σ1 v, (∀ a, a ≠ 51 → σ1 a = σ a) → (∀ j, f ≤ j → j ≤ t → σ1 51 0 j = -1) → qa cst 116 23 [(0, .ref (cl 40 0)), (1, .int (nI (n * 12))), (2, .int (nI f)), (3, .int (nI t)), (4, .int v)] [] σ1 Q) : ∀ m k σ1, k + m = t + 1 → f ≤ k → (∀ a, a ≠ 51 → σ1 a = σ a) → (∀ j, f ≤ j → j < k → σ1 51 0 j = -1) → qa cst 116 3 [(0, .ref (cl 40 0)), (1, .int (nI (n * 12))), (2, .int (nI f)), (3, .int (nI t)), (4, .int (nI k))] [] σ1 Q := by
  intro m
  induction m with
  | zero =>
    intro k σ1 hk hf h1 h2
    refine qa_s (pc' := 5) at_116_3 rfl rfl rfl ?_
    refine qa_s (pc' := 6) at_116_5 rfl rfl rfl ?_
    refine qn_icmp_gt (tg := 23) (nx := 9) at_116_6 rfl rfl (by omega) (by omega) (fun h116_6 => ?_) (fun h116_6 => ?_)
    · exact K σ1 _ h1 (fun j q1 q2 => h2 j q1 (by omega))
    · omega
  | succ m ih =>
    intro k σ1 hk hf h1 h2
    refine qa_s (pc' := 5) at_116_3 rfl rfl rfl ?_
    refine qa_s (pc' := 6) at_116_5 rfl rfl rfl ?_
    refine qn_icmp_gt (tg := 23) (nx := 9) at_116_6 rfl rfl (by omega) (by omega) (fun h116_6 => ?_) (fun h116_6 => ?_)
    · omega
    · refine qa_s (pc' := 10) at_116_9 rfl rfl rfl ?_
      refine qa_getR (nx := 13) at_116_10 rfl (by decide) rfl rfl (by decide) ?_
      refine qa_s (pc' := 15) at_116_13 rfl rfl rfl ?_
      refine qa_ic (nx := 16) (v := (-1)) at_116_15 (by decide) rfl ?_
      refine qa_iast (nx := 17) (k := k) at_116_16 rfl rfl rfl (by decide) rfl (show k < 13 by omega) ?_
      refine qa_incN (nx := 20) (c := 1) at_116_17 (by decide) rfl rfl rfl ?_
      refine qa_goto (nx := 3) at_116_20 rfl ?_
      exact ih (k + 1) _ (by omega) (by omega) (fun a g => by rw [up_k g]; exact h1 a g) (fun j q1 q2 => by by_cases e : j = k; (subst e; exact up_s); rw [up_j e]; exact h2 j q1 (by omega))
theorem c116_l (hi : i < 5) (hr : r < 3) (hI : ImM L P Y σ) (hD : SD L P Y i r) (hM : mtAllM (P (3 * i + r)) (3 * i + r) (L (3 * i + r)) σ) (hPr : ∀ o, o < 15 → σ 49 0 o = nI (prN o)) (hT : ∀ y, r < y → y ≤ 2 → σ 52 0 y = nI (tot y)) (hS : Spn (P (3 * i + r)) (Y (3 * i + r)) (L (3 * i + r)) f t) (hB : ∀ j, j ≤ t → sm (P (3 * i + r)) (Y (3 * i + r)) tot f j < 2 ^ 30) (K : ∀ σ1, (∀ a, a ≠ 51 → σ1 a = σ a) → Q (some (.int (nI (sm (P (3 * i + r)) (Y (3 * i + r)) tot f t)))) σ1) : ∀ m k σ1 v4, v4 = nI (tmS (P (3 * i + r)) (Y (3 * i + r)) f k) → k + m = t → f ≤ k → (∀ a, a ≠ 51 → σ1 a = σ a) → FI (P (3 * i + r)) (Y (3 * i + r)) tot f t k σ1 → qa cst 116 36 [(0, .ref (cl 40 0)), (1, .int (nI ((3 * i + r) * 12))), (2, .int (nI f)), (3, .int (nI t)), (4, .int v4), (5, .int (nI k))] [] σ1 Q := by
  have hL := hD.1.1
  have htl := hS.2.1
  intro m
  induction m with
  | zero =>
    intro k σ1 v4 e4 hk hf hF hFI
    obtain rfl : k = t := by omega
    subst e4
    refine qa_s (pc' := 38) at_116_36 rfl rfl rfl ?_
    refine qa_s (pc' := 39) at_116_38 rfl rfl rfl ?_
    refine qn_icmp_ge (tg := 262) (nx := 42) at_116_39 rfl rfl (by omega) (by omega) (fun h116_39 => ?_) (fun h116_39 => ?_)
    · refine qa_s (pc' := 263) at_116_262 rfl rfl rfl ?_
      refine qa_getR (nx := 266) at_116_263 rfl (by decide) rfl rfl (by decide) ?_
      refine qa_s (pc' := 267) at_116_266 rfl rfl rfl ?_
      refine qa_ialdV (nx := 268) (k := k) (v := nI (sm (P (3 * i + r)) (Y (3 * i + r)) tot f k)) at_116_267 rfl rfl rfl (by decide) rfl (show k < 13 by omega) (show _ from hFI.1) ?_
      refine qa_ret at_116_268 rfl ?_
      exact K σ1 hF
    · omega
  | succ m ih =>
    intro k σ1 v4 e4 hk hf hF hFI
    subst e4
    obtain ⟨hP, e44', h46'⟩ := (hI (3 * i + r) (by omega)).2.2 k (by omega)
    have e44 : σ1 44 0 ((3 * i + r) * 12 + k) = nI (P (3 * i + r) k) := by rw [hF 44 (by decide)]; exact e44'
    have e46 : P (3 * i + r) k ≠ 0 → σ1 46 0 ((3 * i + r) * 12 + k) = nI (Y (3 * i + r) k) := fun g => by rw [hF 46 (by decide)]; exact (h46' g).1
    have e49 : σ1 49 0 (P (3 * i + r) k) = nI (prN (P (3 * i + r) k)) := by rw [hF 49 (by decide)]; exact hPr _ hP
    have htm := Nat.le_trans (hS.2.2 k hf (by omega)).2 gL_64
    have hb1 := hB (k + 1) (by omega)
    have hb0 := hB k (by omega)
    have hsm : sm (P (3 * i + r)) (Y (3 * i + r)) tot f (k + 1) = sm (P (3 * i + r)) (Y (3 * i + r)) tot f k + tmS (P (3 * i + r)) (Y (3 * i + r)) f k * ctk (P (3 * i + r)) (Y (3 * i + r)) tot k := by simp only [sm]; rw [if_neg (by omega)]
    have htS : tmS (P (3 * i + r)) (Y (3 * i + r)) f (k + 1) = if P (3 * i + r) k = 6 then tmS (P (3 * i + r)) (Y (3 * i + r)) f k * Y (3 * i + r) k else if P (3 * i + r) k = 7 then tmS (P (3 * i + r)) (Y (3 * i + r)) f k / Y (3 * i + r) (opn (P (3 * i + r)) k) else tmS (P (3 * i + r)) (Y (3 * i + r)) f k := by simp only [tmS]; rw [if_neg (by omega)]
    have hfar : nI (sm (P (3 * i + r)) (Y (3 * i + r)) tot f (k + 1)) ≤ σ1 51 0 (k + 1) → σ1 51 0 (k + 1) = nI (sm (P (3 * i + r)) (Y (3 * i + r)) tot f (k + 1)) := by
      intro g
      rcases hFI.2 (k + 1) (by omega) (by omega) with e | ⟨v, hv, e⟩
      · rw [e] at g
        have : (nI 0 : Int32) ≤ -1 := Int32.le_trans (nI_pos' (by omega)) g
        exact absurd this (by decide)
      · rw [e] at g ⊢
        have := (nI_leI (by omega) (by omega)).mp g
        rw [show v = sm (P (3 * i + r)) (Y (3 * i + r)) tot f (k + 1) by omega]
    have hoc : P (3 * i + r) k = 5 ∨ P (3 * i + r) k = 6 ∨ P (3 * i + r) k = 7 ∨ P (3 * i + r) k = 10 ∨ (P (3 * i + r) k ≠ 5 ∧ P (3 * i + r) k ≠ 6 ∧ P (3 * i + r) k ≠ 7 ∧ P (3 * i + r) k ≠ 10) := by omega
    rcases hoc with ho | ho | ho | ho | ho
    · have hE : sm (P (3 * i + r)) (Y (3 * i + r)) tot f k + tmS (P (3 * i + r)) (Y (3 * i + r)) f k * (prN (P (3 * i + r) k) + 0) = sm (P (3 * i + r)) (Y (3 * i + r)) tot f (k + 1) := by rw [hsm]; unfold ctk; rw [if_neg (by omega)]
      have hjy := hD.2.2.1 k (by omega) ho
      refine qa_s (pc' := 38) at_116_36 rfl rfl rfl ?_
      refine qa_s (pc' := 39) at_116_38 rfl rfl rfl ?_
      refine qn_icmp_ge (tg := 262) (nx := 42) at_116_39 rfl rfl (by omega) (by omega) (fun h116_39 => ?_) (fun h116_39 => ?_)
      · omega
      · refine qa_s (pc' := 43) at_116_42 rfl rfl rfl ?_
        refine qa_s (pc' := 45) at_116_43 rfl rfl rfl ?_
        refine qa_addN (nx := 46) at_116_45 rfl ?_
        refine qa_s (pc' := 48) at_116_46 rfl rfl rfl ?_
        refine qa_s (pc' := 49) at_116_48 rfl rfl rfl ?_
        refine qa_getR (nx := 52) at_116_49 rfl (by decide) rfl rfl (by decide) ?_
        refine qa_s (pc' := 54) at_116_52 rfl rfl rfl ?_
        refine qa_ialdV (nx := 55) (k := ((3 * i + r) * 12) + k) (v := nI (P (3 * i + r) k)) at_116_54 rfl rfl rfl (by decide) rfl (show ((3 * i + r) * 12) + k < 180 by omega) (show _ from e44) ?_
        refine qa_s (pc' := 57) at_116_55 rfl rfl rfl ?_
        refine qa_s (pc' := 59) at_116_57 rfl rfl rfl ?_
        refine qa_s (pc' := 60) at_116_59 rfl rfl rfl ?_
        refine qa_getR (nx := 63) at_116_60 rfl (by decide) rfl rfl (by decide) ?_
        refine qa_s (pc' := 65) at_116_63 rfl rfl rfl ?_
        refine qa_ialdV (nx := 66) (k := P (3 * i + r) k) (v := nI (prN (P (3 * i + r) k))) at_116_65 rfl rfl rfl (by decide) rfl (show P (3 * i + r) k < 15 by omega) (show _ from e49) ?_
        refine qa_s (pc' := 68) at_116_66 rfl rfl rfl ?_
        refine qa_bi (nx := 70) (v := nI 10) at_116_68 (by decide) rfl ?_
        refine qn_icmp_ne (tg := 88) (nx := 73) at_116_70 rfl rfl (by omega) (by omega) (fun h116_70 => ?_) (fun h116_70 => ?_)
        · refine qa_ic (nx := 89) (v := nI 0) at_116_88 (by decide) rfl ?_
          refine qa_addN (nx := 90) at_116_89 rfl ?_
          refine qa_mulN (nx := 91) at_116_90 rfl ?_
          refine qa_s (pc' := 93) at_116_91 rfl rfl rfl ?_
          refine qa_s (pc' := 94) at_116_93 rfl rfl rfl ?_
          refine qa_getR (nx := 97) at_116_94 rfl (by decide) rfl rfl (by decide) ?_
          refine qa_s (pc' := 99) at_116_97 rfl rfl rfl ?_
          refine qa_ialdV (nx := 100) (k := k) (v := nI (sm (P (3 * i + r)) (Y (3 * i + r)) tot f k)) at_116_99 rfl rfl rfl (by decide) rfl (show k < 13 by omega) (show _ from hFI.1) ?_
          refine qn_if_ge (tg := 107) (nx := 103) at_116_100 rfl rfl (by omega) ?_
          refine qa_s (pc' := 108) at_116_107 rfl rfl rfl ?_
          refine qa_getR (nx := 111) at_116_108 rfl (by decide) rfl rfl (by decide) ?_
          refine qa_s (pc' := 113) at_116_111 rfl rfl rfl ?_
          refine qa_ialdV (nx := 114) (k := k) (v := nI (sm (P (3 * i + r)) (Y (3 * i + r)) tot f k)) at_116_113 rfl rfl rfl (by decide) rfl (show k < 13 by omega) (show _ from hFI.1) ?_
          refine qa_s (pc' := 116) at_116_114 rfl rfl rfl ?_
          refine qa_addN (nx := 117) at_116_116 rfl ?_
          rw [hE]
          refine qa_s (pc' := 119) at_116_117 rfl rfl rfl ?_
          refine qa_s (pc' := 120) at_116_119 rfl rfl rfl ?_
          refine qa_getR (nx := 123) at_116_120 rfl (by decide) rfl rfl (by decide) ?_
          refine qa_s (pc' := 125) at_116_123 rfl rfl rfl ?_
          refine qa_ic (nx := 126) (v := nI 1) at_116_125 (by decide) rfl ?_
          refine qa_addN (nx := 127) at_116_126 rfl ?_
          refine qa_s (pc' := 129) at_116_127 rfl rfl rfl ?_
          refine qa_s (pc' := 130) at_116_129 rfl rfl rfl ?_
          refine qa_getR (nx := 133) at_116_130 rfl (by decide) rfl rfl (by decide) ?_
          refine qa_s (pc' := 135) at_116_133 rfl rfl rfl ?_
          refine qa_ic (nx := 136) (v := nI 1) at_116_135 (by decide) rfl ?_
          refine qa_addN (nx := 137) at_116_136 rfl ?_
          refine qa_iald (nx := 138) (k := k + 1) at_116_137 rfl rfl rfl (by decide) rfl (show k + 1 < 13 by omega) ?_
          refine qa_icmp_le (tg := 146) (nx := 141) at_116_138 rfl rfl (fun h116_138 => ?_) (fun h116_138 => ?_)
          · refine qa_s (pc' := 147) at_116_146 rfl rfl rfl ?_
            refine qa_getR (nx := 150) at_116_147 rfl (by decide) rfl rfl (by decide) ?_
            refine qa_s (pc' := 152) at_116_150 rfl rfl rfl ?_
            refine qa_ic (nx := 153) (v := nI 1) at_116_152 (by decide) rfl ?_
            refine qa_addN (nx := 154) at_116_153 rfl ?_
            refine qa_ialdV (nx := 155) (k := k + 1) (v := nI (sm (P (3 * i + r)) (Y (3 * i + r)) tot f (k + 1))) at_116_154 rfl rfl rfl (by decide) rfl (show k + 1 < 13 by omega) (show _ from hfar h116_138) ?_
            refine qa_iast (nx := 156) (k := k + 1) at_116_155 rfl rfl rfl (by decide) rfl (show k + 1 < 13 by omega) ?_
            refine qa_s (pc' := 158) at_116_156 rfl rfl rfl ?_
            refine qa_ic (nx := 159) (v := nI 5) at_116_158 (by decide) rfl ?_
            refine qn_icmp_ne (tg := 207) (nx := 162) at_116_159 rfl rfl (by omega) (by omega) (fun h116_159 => ?_) (fun h116_159 => ?_)
            · omega
            · refine qa_s (pc' := 164) at_116_162 rfl rfl rfl ?_
              refine qa_ic (nx := 165) (v := nI 1) at_116_164 (by decide) rfl ?_
              refine qa_addN (nx := 166) at_116_165 rfl ?_
              refine qa_s (pc' := 167) at_116_166 rfl rfl rfl ?_
              refine qa_getR (nx := 170) at_116_167 rfl (by decide) rfl rfl (by decide) ?_
              refine qa_s (pc' := 172) at_116_170 rfl rfl rfl ?_
              refine qa_ialdV (nx := 173) (k := ((3 * i + r) * 12) + k) (v := nI (Y (3 * i + r) k)) at_116_172 rfl rfl rfl (by decide) rfl (show ((3 * i + r) * 12) + k < 180 by omega) (show _ from e46 (by omega)) ?_
              refine qa_addN (nx := 174) at_116_173 rfl ?_
              refine qa_s (pc' := 176) at_116_174 rfl rfl rfl ?_
              refine qa_s (pc' := 177) at_116_176 rfl rfl rfl ?_
              refine qa_getR (nx := 180) at_116_177 rfl (by decide) rfl rfl (by decide) ?_
              refine qa_s (pc' := 182) at_116_180 rfl rfl rfl ?_
              refine qa_s (pc' := 184) at_116_182 rfl rfl rfl ?_
              refine qa_s (pc' := 185) at_116_184 rfl rfl rfl ?_
              refine qa_getR (nx := 188) at_116_185 rfl (by decide) rfl rfl (by decide) ?_
              refine qa_s (pc' := 190) at_116_188 rfl rfl rfl ?_
              refine qa_iald (nx := 191) (k := (k + 1) + (Y (3 * i + r) k)) at_116_190 rfl rfl rfl (by decide) rfl (show (k + 1) + (Y (3 * i + r) k) < 13 by omega) ?_
              refine qa_icmp_le (tg := 199) (nx := 194) at_116_191 rfl rfl (fun h116_191 => ?_) (fun h116_191 => ?_)
              · refine qa_s (pc' := 200) at_116_199 rfl rfl rfl ?_
                refine qa_getR (nx := 203) at_116_200 rfl (by decide) rfl rfl (by decide) ?_
                refine qa_s (pc' := 205) at_116_203 rfl rfl rfl ?_
                refine qa_iald (nx := 206) (k := (k + 1) + (Y (3 * i + r) k)) at_116_205 rfl rfl rfl (by decide) rfl (show (k + 1) + (Y (3 * i + r) k) < 13 by omega) ?_
                refine qa_iast (nx := 207) (k := (k + 1) + (Y (3 * i + r) k)) at_116_206 rfl rfl rfl (by decide) rfl (show (k + 1) + (Y (3 * i + r) k) < 13 by omega) ?_
                refine qa_s (pc' := 209) at_116_207 rfl rfl rfl ?_
                refine qa_bi (nx := 211) (v := nI 6) at_116_209 (by decide) rfl ?_
                refine qn_icmp_ne (tg := 227) (nx := 214) at_116_211 rfl rfl (by omega) (by omega) (fun h116_211 => ?_) (fun h116_211 => ?_)
                · refine qa_s (pc' := 229) at_116_227 rfl rfl rfl ?_
                  refine qa_bi (nx := 231) (v := nI 7) at_116_229 (by decide) rfl ?_
                  refine qn_icmp_ne (tg := 252) (nx := 234) at_116_231 rfl rfl (by omega) (by omega) (fun h116_231 => ?_) (fun h116_231 => ?_)
                  · refine qa_s (pc' := 254) at_116_252 rfl rfl rfl ?_
                    refine qa_s (pc' := 256) at_116_254 rfl rfl rfl ?_
                    refine qa_incN (nx := 259) (c := 1) at_116_256 (by decide) rfl rfl rfl ?_
                    refine qa_goto (nx := 36) at_116_259 rfl ?_
                    show qa _ _ _ [(0, .ref (cl 40 0)), (1, .int (nI ((3 * i + r) * 12))), (2, .int (nI f)), (3, .int (nI t)), (4, .int (nI (tmS (P (3 * i + r)) (Y (3 * i + r)) f k))), (5, .int (nI (k + 1))), (6, .int _), (7, .int _), (8, .int _), (9, .int _), (10, .int _)] [] _ _
                    exact qa_drop (l1 := [(0, .ref (cl 40 0)), (1, .int (nI ((3 * i + r) * 12))), (2, .int (nI f)), (3, .int (nI t)), (4, .int (nI (tmS (P (3 * i + r)) (Y (3 * i + r)) f k))), (5, .int (nI (k + 1)))]) (by intro q hq; simp only [List.mem_cons, List.not_mem_nil, or_false] at hq ⊢; rcases hq with rfl | rfl | rfl | rfl | rfl | rfl <;> simp) (by simp [mj_nd]) (ih (k + 1) _ _ (by rw [htS, if_neg (by omega), if_neg (by omega)]) (by omega) (by omega) (fun a g => by rw [up_k g, up_k g]; exact hF a g) (FI_2 (FI_1 hFI) (by omega) (by first | exact Or.inl rfl | exact Or.inr rfl)))
                  · omega
                · omega
              · refine qa_s (pc' := 196) at_116_194 rfl rfl rfl ?_
                refine qa_goto (nx := 206) at_116_196 rfl ?_
                refine qa_iast (nx := 207) (k := (k + 1) + (Y (3 * i + r) k)) at_116_206 rfl rfl rfl (by decide) rfl (show (k + 1) + (Y (3 * i + r) k) < 13 by omega) ?_
                refine qa_s (pc' := 209) at_116_207 rfl rfl rfl ?_
                refine qa_bi (nx := 211) (v := nI 6) at_116_209 (by decide) rfl ?_
                refine qn_icmp_ne (tg := 227) (nx := 214) at_116_211 rfl rfl (by omega) (by omega) (fun h116_211 => ?_) (fun h116_211 => ?_)
                · refine qa_s (pc' := 229) at_116_227 rfl rfl rfl ?_
                  refine qa_bi (nx := 231) (v := nI 7) at_116_229 (by decide) rfl ?_
                  refine qn_icmp_ne (tg := 252) (nx := 234) at_116_231 rfl rfl (by omega) (by omega) (fun h116_231 => ?_) (fun h116_231 => ?_)
                  · refine qa_s (pc' := 254) at_116_252 rfl rfl rfl ?_
                    refine qa_s (pc' := 256) at_116_254 rfl rfl rfl ?_
                    refine qa_incN (nx := 259) (c := 1) at_116_256 (by decide) rfl rfl rfl ?_
                    refine qa_goto (nx := 36) at_116_259 rfl ?_
                    show qa _ _ _ [(0, .ref (cl 40 0)), (1, .int (nI ((3 * i + r) * 12))), (2, .int (nI f)), (3, .int (nI t)), (4, .int (nI (tmS (P (3 * i + r)) (Y (3 * i + r)) f k))), (5, .int (nI (k + 1))), (6, .int _), (7, .int _), (8, .int _), (9, .int _), (10, .int _)] [] _ _
                    exact qa_drop (l1 := [(0, .ref (cl 40 0)), (1, .int (nI ((3 * i + r) * 12))), (2, .int (nI f)), (3, .int (nI t)), (4, .int (nI (tmS (P (3 * i + r)) (Y (3 * i + r)) f k))), (5, .int (nI (k + 1)))]) (by intro q hq; simp only [List.mem_cons, List.not_mem_nil, or_false] at hq ⊢; rcases hq with rfl | rfl | rfl | rfl | rfl | rfl <;> simp) (by simp [mj_nd]) (ih (k + 1) _ _ (by rw [htS, if_neg (by omega), if_neg (by omega)]) (by omega) (by omega) (fun a g => by rw [up_k g, up_k g]; exact hF a g) (FI_2 (FI_1 hFI) (by omega) (by first | exact Or.inl rfl | exact Or.inr rfl)))
                  · omega
                · omega
          · refine qa_s (pc' := 143) at_116_141 rfl rfl rfl ?_
            refine qa_goto (nx := 155) at_116_143 rfl ?_
            refine qa_iast (nx := 156) (k := k + 1) at_116_155 rfl rfl rfl (by decide) rfl (show k + 1 < 13 by omega) ?_
            refine qa_s (pc' := 158) at_116_156 rfl rfl rfl ?_
            refine qa_ic (nx := 159) (v := nI 5) at_116_158 (by decide) rfl ?_
            refine qn_icmp_ne (tg := 207) (nx := 162) at_116_159 rfl rfl (by omega) (by omega) (fun h116_159 => ?_) (fun h116_159 => ?_)
            · omega
            · refine qa_s (pc' := 164) at_116_162 rfl rfl rfl ?_
              refine qa_ic (nx := 165) (v := nI 1) at_116_164 (by decide) rfl ?_
              refine qa_addN (nx := 166) at_116_165 rfl ?_
              refine qa_s (pc' := 167) at_116_166 rfl rfl rfl ?_
              refine qa_getR (nx := 170) at_116_167 rfl (by decide) rfl rfl (by decide) ?_
              refine qa_s (pc' := 172) at_116_170 rfl rfl rfl ?_
              refine qa_ialdV (nx := 173) (k := ((3 * i + r) * 12) + k) (v := nI (Y (3 * i + r) k)) at_116_172 rfl rfl rfl (by decide) rfl (show ((3 * i + r) * 12) + k < 180 by omega) (show _ from e46 (by omega)) ?_
              refine qa_addN (nx := 174) at_116_173 rfl ?_
              refine qa_s (pc' := 176) at_116_174 rfl rfl rfl ?_
              refine qa_s (pc' := 177) at_116_176 rfl rfl rfl ?_
              refine qa_getR (nx := 180) at_116_177 rfl (by decide) rfl rfl (by decide) ?_
              refine qa_s (pc' := 182) at_116_180 rfl rfl rfl ?_
              refine qa_s (pc' := 184) at_116_182 rfl rfl rfl ?_
              refine qa_s (pc' := 185) at_116_184 rfl rfl rfl ?_
              refine qa_getR (nx := 188) at_116_185 rfl (by decide) rfl rfl (by decide) ?_
              refine qa_s (pc' := 190) at_116_188 rfl rfl rfl ?_
              refine qa_iald (nx := 191) (k := (k + 1) + (Y (3 * i + r) k)) at_116_190 rfl rfl rfl (by decide) rfl (show (k + 1) + (Y (3 * i + r) k) < 13 by omega) ?_
              refine qa_icmp_le (tg := 199) (nx := 194) at_116_191 rfl rfl (fun h116_191 => ?_) (fun h116_191 => ?_)
              · refine qa_s (pc' := 200) at_116_199 rfl rfl rfl ?_
                refine qa_getR (nx := 203) at_116_200 rfl (by decide) rfl rfl (by decide) ?_
                refine qa_s (pc' := 205) at_116_203 rfl rfl rfl ?_
                refine qa_iald (nx := 206) (k := (k + 1) + (Y (3 * i + r) k)) at_116_205 rfl rfl rfl (by decide) rfl (show (k + 1) + (Y (3 * i + r) k) < 13 by omega) ?_
                refine qa_iast (nx := 207) (k := (k + 1) + (Y (3 * i + r) k)) at_116_206 rfl rfl rfl (by decide) rfl (show (k + 1) + (Y (3 * i + r) k) < 13 by omega) ?_
                refine qa_s (pc' := 209) at_116_207 rfl rfl rfl ?_
                refine qa_bi (nx := 211) (v := nI 6) at_116_209 (by decide) rfl ?_
                refine qn_icmp_ne (tg := 227) (nx := 214) at_116_211 rfl rfl (by omega) (by omega) (fun h116_211 => ?_) (fun h116_211 => ?_)
                · refine qa_s (pc' := 229) at_116_227 rfl rfl rfl ?_
                  refine qa_bi (nx := 231) (v := nI 7) at_116_229 (by decide) rfl ?_
                  refine qn_icmp_ne (tg := 252) (nx := 234) at_116_231 rfl rfl (by omega) (by omega) (fun h116_231 => ?_) (fun h116_231 => ?_)
                  · refine qa_s (pc' := 254) at_116_252 rfl rfl rfl ?_
                    refine qa_s (pc' := 256) at_116_254 rfl rfl rfl ?_
                    refine qa_incN (nx := 259) (c := 1) at_116_256 (by decide) rfl rfl rfl ?_
                    refine qa_goto (nx := 36) at_116_259 rfl ?_
                    show qa _ _ _ [(0, .ref (cl 40 0)), (1, .int (nI ((3 * i + r) * 12))), (2, .int (nI f)), (3, .int (nI t)), (4, .int (nI (tmS (P (3 * i + r)) (Y (3 * i + r)) f k))), (5, .int (nI (k + 1))), (6, .int _), (7, .int _), (8, .int _), (9, .int _), (10, .int _)] [] _ _
                    exact qa_drop (l1 := [(0, .ref (cl 40 0)), (1, .int (nI ((3 * i + r) * 12))), (2, .int (nI f)), (3, .int (nI t)), (4, .int (nI (tmS (P (3 * i + r)) (Y (3 * i + r)) f k))), (5, .int (nI (k + 1)))]) (by intro q hq; simp only [List.mem_cons, List.not_mem_nil, or_false] at hq ⊢; rcases hq with rfl | rfl | rfl | rfl | rfl | rfl <;> simp) (by simp [mj_nd]) (ih (k + 1) _ _ (by rw [htS, if_neg (by omega), if_neg (by omega)]) (by omega) (by omega) (fun a g => by rw [up_k g, up_k g]; exact hF a g) (FI_2 (FI_1 hFI) (by omega) (by first | exact Or.inl rfl | exact Or.inr rfl)))
                  · omega
                · omega
              · refine qa_s (pc' := 196) at_116_194 rfl rfl rfl ?_
                refine qa_goto (nx := 206) at_116_196 rfl ?_
                refine qa_iast (nx := 207) (k := (k + 1) + (Y (3 * i + r) k)) at_116_206 rfl rfl rfl (by decide) rfl (show (k + 1) + (Y (3 * i + r) k) < 13 by omega) ?_
                refine qa_s (pc' := 209) at_116_207 rfl rfl rfl ?_
                refine qa_bi (nx := 211) (v := nI 6) at_116_209 (by decide) rfl ?_
                refine qn_icmp_ne (tg := 227) (nx := 214) at_116_211 rfl rfl (by omega) (by omega) (fun h116_211 => ?_) (fun h116_211 => ?_)
                · refine qa_s (pc' := 229) at_116_227 rfl rfl rfl ?_
                  refine qa_bi (nx := 231) (v := nI 7) at_116_229 (by decide) rfl ?_
                  refine qn_icmp_ne (tg := 252) (nx := 234) at_116_231 rfl rfl (by omega) (by omega) (fun h116_231 => ?_) (fun h116_231 => ?_)
                  · refine qa_s (pc' := 254) at_116_252 rfl rfl rfl ?_
                    refine qa_s (pc' := 256) at_116_254 rfl rfl rfl ?_
                    refine qa_incN (nx := 259) (c := 1) at_116_256 (by decide) rfl rfl rfl ?_
                    refine qa_goto (nx := 36) at_116_259 rfl ?_
                    show qa _ _ _ [(0, .ref (cl 40 0)), (1, .int (nI ((3 * i + r) * 12))), (2, .int (nI f)), (3, .int (nI t)), (4, .int (nI (tmS (P (3 * i + r)) (Y (3 * i + r)) f k))), (5, .int (nI (k + 1))), (6, .int _), (7, .int _), (8, .int _), (9, .int _), (10, .int _)] [] _ _
                    exact qa_drop (l1 := [(0, .ref (cl 40 0)), (1, .int (nI ((3 * i + r) * 12))), (2, .int (nI f)), (3, .int (nI t)), (4, .int (nI (tmS (P (3 * i + r)) (Y (3 * i + r)) f k))), (5, .int (nI (k + 1)))]) (by intro q hq; simp only [List.mem_cons, List.not_mem_nil, or_false] at hq ⊢; rcases hq with rfl | rfl | rfl | rfl | rfl | rfl <;> simp) (by simp [mj_nd]) (ih (k + 1) _ _ (by rw [htS, if_neg (by omega), if_neg (by omega)]) (by omega) (by omega) (fun a g => by rw [up_k g, up_k g]; exact hF a g) (FI_2 (FI_1 hFI) (by omega) (by first | exact Or.inl rfl | exact Or.inr rfl)))
                  · omega
                · omega
        · omega
    · have hE : sm (P (3 * i + r)) (Y (3 * i + r)) tot f k + tmS (P (3 * i + r)) (Y (3 * i + r)) f k * (prN (P (3 * i + r) k) + 0) = sm (P (3 * i + r)) (Y (3 * i + r)) tot f (k + 1) := by rw [hsm]; unfold ctk; rw [if_neg (by omega)]
      have hy8 := hD.1.2.1 k (by omega) ho
      refine qa_s (pc' := 38) at_116_36 rfl rfl rfl ?_
      refine qa_s (pc' := 39) at_116_38 rfl rfl rfl ?_
      refine qn_icmp_ge (tg := 262) (nx := 42) at_116_39 rfl rfl (by omega) (by omega) (fun h116_39 => ?_) (fun h116_39 => ?_)
      · omega
      · refine qa_s (pc' := 43) at_116_42 rfl rfl rfl ?_
        refine qa_s (pc' := 45) at_116_43 rfl rfl rfl ?_
        refine qa_addN (nx := 46) at_116_45 rfl ?_
        refine qa_s (pc' := 48) at_116_46 rfl rfl rfl ?_
        refine qa_s (pc' := 49) at_116_48 rfl rfl rfl ?_
        refine qa_getR (nx := 52) at_116_49 rfl (by decide) rfl rfl (by decide) ?_
        refine qa_s (pc' := 54) at_116_52 rfl rfl rfl ?_
        refine qa_ialdV (nx := 55) (k := ((3 * i + r) * 12) + k) (v := nI (P (3 * i + r) k)) at_116_54 rfl rfl rfl (by decide) rfl (show ((3 * i + r) * 12) + k < 180 by omega) (show _ from e44) ?_
        refine qa_s (pc' := 57) at_116_55 rfl rfl rfl ?_
        refine qa_s (pc' := 59) at_116_57 rfl rfl rfl ?_
        refine qa_s (pc' := 60) at_116_59 rfl rfl rfl ?_
        refine qa_getR (nx := 63) at_116_60 rfl (by decide) rfl rfl (by decide) ?_
        refine qa_s (pc' := 65) at_116_63 rfl rfl rfl ?_
        refine qa_ialdV (nx := 66) (k := P (3 * i + r) k) (v := nI (prN (P (3 * i + r) k))) at_116_65 rfl rfl rfl (by decide) rfl (show P (3 * i + r) k < 15 by omega) (show _ from e49) ?_
        refine qa_s (pc' := 68) at_116_66 rfl rfl rfl ?_
        refine qa_bi (nx := 70) (v := nI 10) at_116_68 (by decide) rfl ?_
        refine qn_icmp_ne (tg := 88) (nx := 73) at_116_70 rfl rfl (by omega) (by omega) (fun h116_70 => ?_) (fun h116_70 => ?_)
        · refine qa_ic (nx := 89) (v := nI 0) at_116_88 (by decide) rfl ?_
          refine qa_addN (nx := 90) at_116_89 rfl ?_
          refine qa_mulN (nx := 91) at_116_90 rfl ?_
          refine qa_s (pc' := 93) at_116_91 rfl rfl rfl ?_
          refine qa_s (pc' := 94) at_116_93 rfl rfl rfl ?_
          refine qa_getR (nx := 97) at_116_94 rfl (by decide) rfl rfl (by decide) ?_
          refine qa_s (pc' := 99) at_116_97 rfl rfl rfl ?_
          refine qa_ialdV (nx := 100) (k := k) (v := nI (sm (P (3 * i + r)) (Y (3 * i + r)) tot f k)) at_116_99 rfl rfl rfl (by decide) rfl (show k < 13 by omega) (show _ from hFI.1) ?_
          refine qn_if_ge (tg := 107) (nx := 103) at_116_100 rfl rfl (by omega) ?_
          refine qa_s (pc' := 108) at_116_107 rfl rfl rfl ?_
          refine qa_getR (nx := 111) at_116_108 rfl (by decide) rfl rfl (by decide) ?_
          refine qa_s (pc' := 113) at_116_111 rfl rfl rfl ?_
          refine qa_ialdV (nx := 114) (k := k) (v := nI (sm (P (3 * i + r)) (Y (3 * i + r)) tot f k)) at_116_113 rfl rfl rfl (by decide) rfl (show k < 13 by omega) (show _ from hFI.1) ?_
          refine qa_s (pc' := 116) at_116_114 rfl rfl rfl ?_
          refine qa_addN (nx := 117) at_116_116 rfl ?_
          rw [hE]
          refine qa_s (pc' := 119) at_116_117 rfl rfl rfl ?_
          refine qa_s (pc' := 120) at_116_119 rfl rfl rfl ?_
          refine qa_getR (nx := 123) at_116_120 rfl (by decide) rfl rfl (by decide) ?_
          refine qa_s (pc' := 125) at_116_123 rfl rfl rfl ?_
          refine qa_ic (nx := 126) (v := nI 1) at_116_125 (by decide) rfl ?_
          refine qa_addN (nx := 127) at_116_126 rfl ?_
          refine qa_s (pc' := 129) at_116_127 rfl rfl rfl ?_
          refine qa_s (pc' := 130) at_116_129 rfl rfl rfl ?_
          refine qa_getR (nx := 133) at_116_130 rfl (by decide) rfl rfl (by decide) ?_
          refine qa_s (pc' := 135) at_116_133 rfl rfl rfl ?_
          refine qa_ic (nx := 136) (v := nI 1) at_116_135 (by decide) rfl ?_
          refine qa_addN (nx := 137) at_116_136 rfl ?_
          refine qa_iald (nx := 138) (k := k + 1) at_116_137 rfl rfl rfl (by decide) rfl (show k + 1 < 13 by omega) ?_
          refine qa_icmp_le (tg := 146) (nx := 141) at_116_138 rfl rfl (fun h116_138 => ?_) (fun h116_138 => ?_)
          · refine qa_s (pc' := 147) at_116_146 rfl rfl rfl ?_
            refine qa_getR (nx := 150) at_116_147 rfl (by decide) rfl rfl (by decide) ?_
            refine qa_s (pc' := 152) at_116_150 rfl rfl rfl ?_
            refine qa_ic (nx := 153) (v := nI 1) at_116_152 (by decide) rfl ?_
            refine qa_addN (nx := 154) at_116_153 rfl ?_
            refine qa_ialdV (nx := 155) (k := k + 1) (v := nI (sm (P (3 * i + r)) (Y (3 * i + r)) tot f (k + 1))) at_116_154 rfl rfl rfl (by decide) rfl (show k + 1 < 13 by omega) (show _ from hfar h116_138) ?_
            refine qa_iast (nx := 156) (k := k + 1) at_116_155 rfl rfl rfl (by decide) rfl (show k + 1 < 13 by omega) ?_
            refine qa_s (pc' := 158) at_116_156 rfl rfl rfl ?_
            refine qa_ic (nx := 159) (v := nI 5) at_116_158 (by decide) rfl ?_
            refine qn_icmp_ne (tg := 207) (nx := 162) at_116_159 rfl rfl (by omega) (by omega) (fun h116_159 => ?_) (fun h116_159 => ?_)
            · refine qa_s (pc' := 209) at_116_207 rfl rfl rfl ?_
              refine qa_bi (nx := 211) (v := nI 6) at_116_209 (by decide) rfl ?_
              refine qn_icmp_ne (tg := 227) (nx := 214) at_116_211 rfl rfl (by omega) (by omega) (fun h116_211 => ?_) (fun h116_211 => ?_)
              · omega
              · refine qa_s (pc' := 216) at_116_214 rfl rfl rfl ?_
                refine qa_s (pc' := 217) at_116_216 rfl rfl rfl ?_
                refine qa_getR (nx := 220) at_116_217 rfl (by decide) rfl rfl (by decide) ?_
                refine qa_s (pc' := 222) at_116_220 rfl rfl rfl ?_
                refine qa_ialdV (nx := 223) (k := ((3 * i + r) * 12) + k) (v := nI (Y (3 * i + r) k)) at_116_222 rfl rfl rfl (by decide) rfl (show ((3 * i + r) * 12) + k < 180 by omega) (show _ from e46 (by omega)) ?_
                refine qa_mulN (nx := 224) at_116_223 rfl ?_
                refine qa_goto (nx := 254) at_116_224 rfl ?_
                refine qa_s (pc' := 256) at_116_254 rfl rfl rfl ?_
                refine qa_incN (nx := 259) (c := 1) at_116_256 (by decide) rfl rfl rfl ?_
                refine qa_goto (nx := 36) at_116_259 rfl ?_
                show qa _ _ _ [(0, .ref (cl 40 0)), (1, .int (nI ((3 * i + r) * 12))), (2, .int (nI f)), (3, .int (nI t)), (4, .int (nI ((tmS (P (3 * i + r)) (Y (3 * i + r)) f k) * (Y (3 * i + r) k)))), (5, .int (nI (k + 1))), (6, .int _), (7, .int _), (8, .int _), (9, .int _)] [] _ _
                exact qa_drop (l1 := [(0, .ref (cl 40 0)), (1, .int (nI ((3 * i + r) * 12))), (2, .int (nI f)), (3, .int (nI t)), (4, .int (nI ((tmS (P (3 * i + r)) (Y (3 * i + r)) f k) * (Y (3 * i + r) k)))), (5, .int (nI (k + 1)))]) (by intro q hq; simp only [List.mem_cons, List.not_mem_nil, or_false] at hq ⊢; rcases hq with rfl | rfl | rfl | rfl | rfl | rfl <;> simp) (by simp [mj_nd]) (ih (k + 1) _ _ (by rw [htS, if_pos ho]) (by omega) (by omega) (fun a g => by rw [up_k g]; exact hF a g) (FI_1 hFI))
            · omega
          · refine qa_s (pc' := 143) at_116_141 rfl rfl rfl ?_
            refine qa_goto (nx := 155) at_116_143 rfl ?_
            refine qa_iast (nx := 156) (k := k + 1) at_116_155 rfl rfl rfl (by decide) rfl (show k + 1 < 13 by omega) ?_
            refine qa_s (pc' := 158) at_116_156 rfl rfl rfl ?_
            refine qa_ic (nx := 159) (v := nI 5) at_116_158 (by decide) rfl ?_
            refine qn_icmp_ne (tg := 207) (nx := 162) at_116_159 rfl rfl (by omega) (by omega) (fun h116_159 => ?_) (fun h116_159 => ?_)
            · refine qa_s (pc' := 209) at_116_207 rfl rfl rfl ?_
              refine qa_bi (nx := 211) (v := nI 6) at_116_209 (by decide) rfl ?_
              refine qn_icmp_ne (tg := 227) (nx := 214) at_116_211 rfl rfl (by omega) (by omega) (fun h116_211 => ?_) (fun h116_211 => ?_)
              · omega
              · refine qa_s (pc' := 216) at_116_214 rfl rfl rfl ?_
                refine qa_s (pc' := 217) at_116_216 rfl rfl rfl ?_
                refine qa_getR (nx := 220) at_116_217 rfl (by decide) rfl rfl (by decide) ?_
                refine qa_s (pc' := 222) at_116_220 rfl rfl rfl ?_
                refine qa_ialdV (nx := 223) (k := ((3 * i + r) * 12) + k) (v := nI (Y (3 * i + r) k)) at_116_222 rfl rfl rfl (by decide) rfl (show ((3 * i + r) * 12) + k < 180 by omega) (show _ from e46 (by omega)) ?_
                refine qa_mulN (nx := 224) at_116_223 rfl ?_
                refine qa_goto (nx := 254) at_116_224 rfl ?_
                refine qa_s (pc' := 256) at_116_254 rfl rfl rfl ?_
                refine qa_incN (nx := 259) (c := 1) at_116_256 (by decide) rfl rfl rfl ?_
                refine qa_goto (nx := 36) at_116_259 rfl ?_
                show qa _ _ _ [(0, .ref (cl 40 0)), (1, .int (nI ((3 * i + r) * 12))), (2, .int (nI f)), (3, .int (nI t)), (4, .int (nI ((tmS (P (3 * i + r)) (Y (3 * i + r)) f k) * (Y (3 * i + r) k)))), (5, .int (nI (k + 1))), (6, .int _), (7, .int _), (8, .int _), (9, .int _)] [] _ _
                exact qa_drop (l1 := [(0, .ref (cl 40 0)), (1, .int (nI ((3 * i + r) * 12))), (2, .int (nI f)), (3, .int (nI t)), (4, .int (nI ((tmS (P (3 * i + r)) (Y (3 * i + r)) f k) * (Y (3 * i + r) k)))), (5, .int (nI (k + 1)))]) (by intro q hq; simp only [List.mem_cons, List.not_mem_nil, or_false] at hq ⊢; rcases hq with rfl | rfl | rfl | rfl | rfl | rfl <;> simp) (by simp [mj_nd]) (ih (k + 1) _ _ (by rw [htS, if_pos ho]) (by omega) (by omega) (fun a g => by rw [up_k g]; exact hF a g) (FI_1 hFI))
            · omega
        · omega
    · have hE : sm (P (3 * i + r)) (Y (3 * i + r)) tot f k + tmS (P (3 * i + r)) (Y (3 * i + r)) f k * (prN (P (3 * i + r) k) + 0) = sm (P (3 * i + r)) (Y (3 * i + r)) tot f (k + 1) := by rw [hsm]; unfold ctk; rw [if_neg (by omega)]
      have hop := opn_lt hD.1 (by omega : k < L (3 * i + r)) (Or.inl ho)
      have hmt := (hM k (by omega) (Or.inl ho)).1
      have hpo := (hD.1.2.2.2.1 k (by omega) ho).2
      have hyo := hD.1.2.1 (opn (P (3 * i + r)) k) (by omega) hpo
      have e46o := (((hI (3 * i + r) (by omega)).2.2 (opn (P (3 * i + r)) k) (by omega)).2.2 (by omega)).1
      refine qa_s (pc' := 38) at_116_36 rfl rfl rfl ?_
      refine qa_s (pc' := 39) at_116_38 rfl rfl rfl ?_
      refine qn_icmp_ge (tg := 262) (nx := 42) at_116_39 rfl rfl (by omega) (by omega) (fun h116_39 => ?_) (fun h116_39 => ?_)
      · omega
      · refine qa_s (pc' := 43) at_116_42 rfl rfl rfl ?_
        refine qa_s (pc' := 45) at_116_43 rfl rfl rfl ?_
        refine qa_addN (nx := 46) at_116_45 rfl ?_
        refine qa_s (pc' := 48) at_116_46 rfl rfl rfl ?_
        refine qa_s (pc' := 49) at_116_48 rfl rfl rfl ?_
        refine qa_getR (nx := 52) at_116_49 rfl (by decide) rfl rfl (by decide) ?_
        refine qa_s (pc' := 54) at_116_52 rfl rfl rfl ?_
        refine qa_ialdV (nx := 55) (k := ((3 * i + r) * 12) + k) (v := nI (P (3 * i + r) k)) at_116_54 rfl rfl rfl (by decide) rfl (show ((3 * i + r) * 12) + k < 180 by omega) (show _ from e44) ?_
        refine qa_s (pc' := 57) at_116_55 rfl rfl rfl ?_
        refine qa_s (pc' := 59) at_116_57 rfl rfl rfl ?_
        refine qa_s (pc' := 60) at_116_59 rfl rfl rfl ?_
        refine qa_getR (nx := 63) at_116_60 rfl (by decide) rfl rfl (by decide) ?_
        refine qa_s (pc' := 65) at_116_63 rfl rfl rfl ?_
        refine qa_ialdV (nx := 66) (k := P (3 * i + r) k) (v := nI (prN (P (3 * i + r) k))) at_116_65 rfl rfl rfl (by decide) rfl (show P (3 * i + r) k < 15 by omega) (show _ from e49) ?_
        refine qa_s (pc' := 68) at_116_66 rfl rfl rfl ?_
        refine qa_bi (nx := 70) (v := nI 10) at_116_68 (by decide) rfl ?_
        refine qn_icmp_ne (tg := 88) (nx := 73) at_116_70 rfl rfl (by omega) (by omega) (fun h116_70 => ?_) (fun h116_70 => ?_)
        · refine qa_ic (nx := 89) (v := nI 0) at_116_88 (by decide) rfl ?_
          refine qa_addN (nx := 90) at_116_89 rfl ?_
          refine qa_mulN (nx := 91) at_116_90 rfl ?_
          refine qa_s (pc' := 93) at_116_91 rfl rfl rfl ?_
          refine qa_s (pc' := 94) at_116_93 rfl rfl rfl ?_
          refine qa_getR (nx := 97) at_116_94 rfl (by decide) rfl rfl (by decide) ?_
          refine qa_s (pc' := 99) at_116_97 rfl rfl rfl ?_
          refine qa_ialdV (nx := 100) (k := k) (v := nI (sm (P (3 * i + r)) (Y (3 * i + r)) tot f k)) at_116_99 rfl rfl rfl (by decide) rfl (show k < 13 by omega) (show _ from hFI.1) ?_
          refine qn_if_ge (tg := 107) (nx := 103) at_116_100 rfl rfl (by omega) ?_
          refine qa_s (pc' := 108) at_116_107 rfl rfl rfl ?_
          refine qa_getR (nx := 111) at_116_108 rfl (by decide) rfl rfl (by decide) ?_
          refine qa_s (pc' := 113) at_116_111 rfl rfl rfl ?_
          refine qa_ialdV (nx := 114) (k := k) (v := nI (sm (P (3 * i + r)) (Y (3 * i + r)) tot f k)) at_116_113 rfl rfl rfl (by decide) rfl (show k < 13 by omega) (show _ from hFI.1) ?_
          refine qa_s (pc' := 116) at_116_114 rfl rfl rfl ?_
          refine qa_addN (nx := 117) at_116_116 rfl ?_
          rw [hE]
          refine qa_s (pc' := 119) at_116_117 rfl rfl rfl ?_
          refine qa_s (pc' := 120) at_116_119 rfl rfl rfl ?_
          refine qa_getR (nx := 123) at_116_120 rfl (by decide) rfl rfl (by decide) ?_
          refine qa_s (pc' := 125) at_116_123 rfl rfl rfl ?_
          refine qa_ic (nx := 126) (v := nI 1) at_116_125 (by decide) rfl ?_
          refine qa_addN (nx := 127) at_116_126 rfl ?_
          refine qa_s (pc' := 129) at_116_127 rfl rfl rfl ?_
          refine qa_s (pc' := 130) at_116_129 rfl rfl rfl ?_
          refine qa_getR (nx := 133) at_116_130 rfl (by decide) rfl rfl (by decide) ?_
          refine qa_s (pc' := 135) at_116_133 rfl rfl rfl ?_
          refine qa_ic (nx := 136) (v := nI 1) at_116_135 (by decide) rfl ?_
          refine qa_addN (nx := 137) at_116_136 rfl ?_
          refine qa_iald (nx := 138) (k := k + 1) at_116_137 rfl rfl rfl (by decide) rfl (show k + 1 < 13 by omega) ?_
          refine qa_icmp_le (tg := 146) (nx := 141) at_116_138 rfl rfl (fun h116_138 => ?_) (fun h116_138 => ?_)
          · refine qa_s (pc' := 147) at_116_146 rfl rfl rfl ?_
            refine qa_getR (nx := 150) at_116_147 rfl (by decide) rfl rfl (by decide) ?_
            refine qa_s (pc' := 152) at_116_150 rfl rfl rfl ?_
            refine qa_ic (nx := 153) (v := nI 1) at_116_152 (by decide) rfl ?_
            refine qa_addN (nx := 154) at_116_153 rfl ?_
            refine qa_ialdV (nx := 155) (k := k + 1) (v := nI (sm (P (3 * i + r)) (Y (3 * i + r)) tot f (k + 1))) at_116_154 rfl rfl rfl (by decide) rfl (show k + 1 < 13 by omega) (show _ from hfar h116_138) ?_
            refine qa_iast (nx := 156) (k := k + 1) at_116_155 rfl rfl rfl (by decide) rfl (show k + 1 < 13 by omega) ?_
            refine qa_s (pc' := 158) at_116_156 rfl rfl rfl ?_
            refine qa_ic (nx := 159) (v := nI 5) at_116_158 (by decide) rfl ?_
            refine qn_icmp_ne (tg := 207) (nx := 162) at_116_159 rfl rfl (by omega) (by omega) (fun h116_159 => ?_) (fun h116_159 => ?_)
            · refine qa_s (pc' := 209) at_116_207 rfl rfl rfl ?_
              refine qa_bi (nx := 211) (v := nI 6) at_116_209 (by decide) rfl ?_
              refine qn_icmp_ne (tg := 227) (nx := 214) at_116_211 rfl rfl (by omega) (by omega) (fun h116_211 => ?_) (fun h116_211 => ?_)
              · refine qa_s (pc' := 229) at_116_227 rfl rfl rfl ?_
                refine qa_bi (nx := 231) (v := nI 7) at_116_229 (by decide) rfl ?_
                refine qn_icmp_ne (tg := 252) (nx := 234) at_116_231 rfl rfl (by omega) (by omega) (fun h116_231 => ?_) (fun h116_231 => ?_)
                · omega
                · refine qa_s (pc' := 236) at_116_234 rfl rfl rfl ?_
                  refine qa_s (pc' := 237) at_116_236 rfl rfl rfl ?_
                  refine qa_getR (nx := 240) at_116_237 rfl (by decide) rfl rfl (by decide) ?_
                  refine qa_s (pc' := 241) at_116_240 rfl rfl rfl ?_
                  refine qa_getR (nx := 244) at_116_241 rfl (by decide) rfl rfl (by decide) ?_
                  refine qa_s (pc' := 246) at_116_244 rfl rfl rfl ?_
                  refine qa_ialdV (nx := 247) (k := ((3 * i + r) * 12) + k) (v := nI ((3 * i + r) * 12 + opn (P (3 * i + r)) k)) at_116_246 rfl rfl rfl (by decide) rfl (show ((3 * i + r) * 12) + k < 180 by omega) (show _ from by rw [up_k (by decide), hF 47 (by decide)]; exact hmt) ?_
                  refine qa_ialdV (nx := 248) (k := (3 * i + r) * 12 + opn (P (3 * i + r)) k) (v := nI (Y (3 * i + r) (opn (P (3 * i + r)) k))) at_116_247 rfl rfl rfl (by decide) rfl (show (3 * i + r) * 12 + opn (P (3 * i + r)) k < 180 by omega) (show _ from by rw [up_k (by decide), hF 46 (by decide)]; exact e46o) ?_
                  refine qa_divN (nx := 249) at_116_248 (by omega) (by omega) (by omega) rfl ?_
                  refine qa_goto (nx := 254) at_116_249 rfl ?_
                  refine qa_s (pc' := 256) at_116_254 rfl rfl rfl ?_
                  refine qa_incN (nx := 259) (c := 1) at_116_256 (by decide) rfl rfl rfl ?_
                  refine qa_goto (nx := 36) at_116_259 rfl ?_
                  show qa _ _ _ [(0, .ref (cl 40 0)), (1, .int (nI ((3 * i + r) * 12))), (2, .int (nI f)), (3, .int (nI t)), (4, .int (nI ((tmS (P (3 * i + r)) (Y (3 * i + r)) f k) / (Y (3 * i + r) (opn (P (3 * i + r)) k))))), (5, .int (nI (k + 1))), (6, .int _), (7, .int _), (8, .int _), (9, .int _)] [] _ _
                  exact qa_drop (l1 := [(0, .ref (cl 40 0)), (1, .int (nI ((3 * i + r) * 12))), (2, .int (nI f)), (3, .int (nI t)), (4, .int (nI ((tmS (P (3 * i + r)) (Y (3 * i + r)) f k) / (Y (3 * i + r) (opn (P (3 * i + r)) k))))), (5, .int (nI (k + 1)))]) (by intro q hq; simp only [List.mem_cons, List.not_mem_nil, or_false] at hq ⊢; rcases hq with rfl | rfl | rfl | rfl | rfl | rfl <;> simp) (by simp [mj_nd]) (ih (k + 1) _ _ (by rw [htS, if_neg (by omega), if_pos ho]) (by omega) (by omega) (fun a g => by rw [up_k g]; exact hF a g) (FI_1 hFI))
              · omega
            · omega
          · refine qa_s (pc' := 143) at_116_141 rfl rfl rfl ?_
            refine qa_goto (nx := 155) at_116_143 rfl ?_
            refine qa_iast (nx := 156) (k := k + 1) at_116_155 rfl rfl rfl (by decide) rfl (show k + 1 < 13 by omega) ?_
            refine qa_s (pc' := 158) at_116_156 rfl rfl rfl ?_
            refine qa_ic (nx := 159) (v := nI 5) at_116_158 (by decide) rfl ?_
            refine qn_icmp_ne (tg := 207) (nx := 162) at_116_159 rfl rfl (by omega) (by omega) (fun h116_159 => ?_) (fun h116_159 => ?_)
            · refine qa_s (pc' := 209) at_116_207 rfl rfl rfl ?_
              refine qa_bi (nx := 211) (v := nI 6) at_116_209 (by decide) rfl ?_
              refine qn_icmp_ne (tg := 227) (nx := 214) at_116_211 rfl rfl (by omega) (by omega) (fun h116_211 => ?_) (fun h116_211 => ?_)
              · refine qa_s (pc' := 229) at_116_227 rfl rfl rfl ?_
                refine qa_bi (nx := 231) (v := nI 7) at_116_229 (by decide) rfl ?_
                refine qn_icmp_ne (tg := 252) (nx := 234) at_116_231 rfl rfl (by omega) (by omega) (fun h116_231 => ?_) (fun h116_231 => ?_)
                · omega
                · refine qa_s (pc' := 236) at_116_234 rfl rfl rfl ?_
                  refine qa_s (pc' := 237) at_116_236 rfl rfl rfl ?_
                  refine qa_getR (nx := 240) at_116_237 rfl (by decide) rfl rfl (by decide) ?_
                  refine qa_s (pc' := 241) at_116_240 rfl rfl rfl ?_
                  refine qa_getR (nx := 244) at_116_241 rfl (by decide) rfl rfl (by decide) ?_
                  refine qa_s (pc' := 246) at_116_244 rfl rfl rfl ?_
                  refine qa_ialdV (nx := 247) (k := ((3 * i + r) * 12) + k) (v := nI ((3 * i + r) * 12 + opn (P (3 * i + r)) k)) at_116_246 rfl rfl rfl (by decide) rfl (show ((3 * i + r) * 12) + k < 180 by omega) (show _ from by rw [up_k (by decide), hF 47 (by decide)]; exact hmt) ?_
                  refine qa_ialdV (nx := 248) (k := (3 * i + r) * 12 + opn (P (3 * i + r)) k) (v := nI (Y (3 * i + r) (opn (P (3 * i + r)) k))) at_116_247 rfl rfl rfl (by decide) rfl (show (3 * i + r) * 12 + opn (P (3 * i + r)) k < 180 by omega) (show _ from by rw [up_k (by decide), hF 46 (by decide)]; exact e46o) ?_
                  refine qa_divN (nx := 249) at_116_248 (by omega) (by omega) (by omega) rfl ?_
                  refine qa_goto (nx := 254) at_116_249 rfl ?_
                  refine qa_s (pc' := 256) at_116_254 rfl rfl rfl ?_
                  refine qa_incN (nx := 259) (c := 1) at_116_256 (by decide) rfl rfl rfl ?_
                  refine qa_goto (nx := 36) at_116_259 rfl ?_
                  show qa _ _ _ [(0, .ref (cl 40 0)), (1, .int (nI ((3 * i + r) * 12))), (2, .int (nI f)), (3, .int (nI t)), (4, .int (nI ((tmS (P (3 * i + r)) (Y (3 * i + r)) f k) / (Y (3 * i + r) (opn (P (3 * i + r)) k))))), (5, .int (nI (k + 1))), (6, .int _), (7, .int _), (8, .int _), (9, .int _)] [] _ _
                  exact qa_drop (l1 := [(0, .ref (cl 40 0)), (1, .int (nI ((3 * i + r) * 12))), (2, .int (nI f)), (3, .int (nI t)), (4, .int (nI ((tmS (P (3 * i + r)) (Y (3 * i + r)) f k) / (Y (3 * i + r) (opn (P (3 * i + r)) k))))), (5, .int (nI (k + 1)))]) (by intro q hq; simp only [List.mem_cons, List.not_mem_nil, or_false] at hq ⊢; rcases hq with rfl | rfl | rfl | rfl | rfl | rfl <;> simp) (by simp [mj_nd]) (ih (k + 1) _ _ (by rw [htS, if_neg (by omega), if_pos ho]) (by omega) (by omega) (fun a g => by rw [up_k g]; exact hF a g) (FI_1 hFI))
              · omega
            · omega
        · omega
    · have hcy := hD.2.1 k (by omega) ho
      have hE : sm (P (3 * i + r)) (Y (3 * i + r)) tot f k + tmS (P (3 * i + r)) (Y (3 * i + r)) f k * (prN (P (3 * i + r) k) + tot (Y (3 * i + r) k)) = sm (P (3 * i + r)) (Y (3 * i + r)) tot f (k + 1) := by rw [hsm]; unfold ctk; rw [if_pos ho]
      refine qa_s (pc' := 38) at_116_36 rfl rfl rfl ?_
      refine qa_s (pc' := 39) at_116_38 rfl rfl rfl ?_
      refine qn_icmp_ge (tg := 262) (nx := 42) at_116_39 rfl rfl (by omega) (by omega) (fun h116_39 => ?_) (fun h116_39 => ?_)
      · omega
      · refine qa_s (pc' := 43) at_116_42 rfl rfl rfl ?_
        refine qa_s (pc' := 45) at_116_43 rfl rfl rfl ?_
        refine qa_addN (nx := 46) at_116_45 rfl ?_
        refine qa_s (pc' := 48) at_116_46 rfl rfl rfl ?_
        refine qa_s (pc' := 49) at_116_48 rfl rfl rfl ?_
        refine qa_getR (nx := 52) at_116_49 rfl (by decide) rfl rfl (by decide) ?_
        refine qa_s (pc' := 54) at_116_52 rfl rfl rfl ?_
        refine qa_ialdV (nx := 55) (k := ((3 * i + r) * 12) + k) (v := nI (P (3 * i + r) k)) at_116_54 rfl rfl rfl (by decide) rfl (show ((3 * i + r) * 12) + k < 180 by omega) (show _ from e44) ?_
        refine qa_s (pc' := 57) at_116_55 rfl rfl rfl ?_
        refine qa_s (pc' := 59) at_116_57 rfl rfl rfl ?_
        refine qa_s (pc' := 60) at_116_59 rfl rfl rfl ?_
        refine qa_getR (nx := 63) at_116_60 rfl (by decide) rfl rfl (by decide) ?_
        refine qa_s (pc' := 65) at_116_63 rfl rfl rfl ?_
        refine qa_ialdV (nx := 66) (k := P (3 * i + r) k) (v := nI (prN (P (3 * i + r) k))) at_116_65 rfl rfl rfl (by decide) rfl (show P (3 * i + r) k < 15 by omega) (show _ from e49) ?_
        refine qa_s (pc' := 68) at_116_66 rfl rfl rfl ?_
        refine qa_bi (nx := 70) (v := nI 10) at_116_68 (by decide) rfl ?_
        refine qn_icmp_ne (tg := 88) (nx := 73) at_116_70 rfl rfl (by omega) (by omega) (fun h116_70 => ?_) (fun h116_70 => ?_)
        · omega
        · refine qa_s (pc' := 74) at_116_73 rfl rfl rfl ?_
          refine qa_getR (nx := 77) at_116_74 rfl (by decide) rfl rfl (by decide) ?_
          refine qa_s (pc' := 78) at_116_77 rfl rfl rfl ?_
          refine qa_getR (nx := 81) at_116_78 rfl (by decide) rfl rfl (by decide) ?_
          refine qa_s (pc' := 83) at_116_81 rfl rfl rfl ?_
          refine qa_ialdV (nx := 84) (k := ((3 * i + r) * 12) + k) (v := nI (Y (3 * i + r) k)) at_116_83 rfl rfl rfl (by decide) rfl (show ((3 * i + r) * 12) + k < 180 by omega) (show _ from e46 (by omega)) ?_
          refine qa_ialdV (nx := 85) (k := Y (3 * i + r) k) (v := nI (tot (Y (3 * i + r) k))) at_116_84 rfl rfl rfl (by decide) rfl (show Y (3 * i + r) k < 3 by omega) (show _ from by rw [hF 52 (by decide)]; exact hT _ hcy.1 hcy.2.1) ?_
          refine qa_goto (nx := 89) at_116_85 rfl ?_
          refine qa_addN (nx := 90) at_116_89 rfl ?_
          refine qa_mulN (nx := 91) at_116_90 rfl ?_
          refine qa_s (pc' := 93) at_116_91 rfl rfl rfl ?_
          refine qa_s (pc' := 94) at_116_93 rfl rfl rfl ?_
          refine qa_getR (nx := 97) at_116_94 rfl (by decide) rfl rfl (by decide) ?_
          refine qa_s (pc' := 99) at_116_97 rfl rfl rfl ?_
          refine qa_ialdV (nx := 100) (k := k) (v := nI (sm (P (3 * i + r)) (Y (3 * i + r)) tot f k)) at_116_99 rfl rfl rfl (by decide) rfl (show k < 13 by omega) (show _ from hFI.1) ?_
          refine qn_if_ge (tg := 107) (nx := 103) at_116_100 rfl rfl (by omega) ?_
          refine qa_s (pc' := 108) at_116_107 rfl rfl rfl ?_
          refine qa_getR (nx := 111) at_116_108 rfl (by decide) rfl rfl (by decide) ?_
          refine qa_s (pc' := 113) at_116_111 rfl rfl rfl ?_
          refine qa_ialdV (nx := 114) (k := k) (v := nI (sm (P (3 * i + r)) (Y (3 * i + r)) tot f k)) at_116_113 rfl rfl rfl (by decide) rfl (show k < 13 by omega) (show _ from hFI.1) ?_
          refine qa_s (pc' := 116) at_116_114 rfl rfl rfl ?_
          refine qa_addN (nx := 117) at_116_116 rfl ?_
          rw [hE]
          refine qa_s (pc' := 119) at_116_117 rfl rfl rfl ?_
          refine qa_s (pc' := 120) at_116_119 rfl rfl rfl ?_
          refine qa_getR (nx := 123) at_116_120 rfl (by decide) rfl rfl (by decide) ?_
          refine qa_s (pc' := 125) at_116_123 rfl rfl rfl ?_
          refine qa_ic (nx := 126) (v := nI 1) at_116_125 (by decide) rfl ?_
          refine qa_addN (nx := 127) at_116_126 rfl ?_
          refine qa_s (pc' := 129) at_116_127 rfl rfl rfl ?_
          refine qa_s (pc' := 130) at_116_129 rfl rfl rfl ?_
          refine qa_getR (nx := 133) at_116_130 rfl (by decide) rfl rfl (by decide) ?_
          refine qa_s (pc' := 135) at_116_133 rfl rfl rfl ?_
          refine qa_ic (nx := 136) (v := nI 1) at_116_135 (by decide) rfl ?_
          refine qa_addN (nx := 137) at_116_136 rfl ?_
          refine qa_iald (nx := 138) (k := k + 1) at_116_137 rfl rfl rfl (by decide) rfl (show k + 1 < 13 by omega) ?_
          refine qa_icmp_le (tg := 146) (nx := 141) at_116_138 rfl rfl (fun h116_138 => ?_) (fun h116_138 => ?_)
          · refine qa_s (pc' := 147) at_116_146 rfl rfl rfl ?_
            refine qa_getR (nx := 150) at_116_147 rfl (by decide) rfl rfl (by decide) ?_
            refine qa_s (pc' := 152) at_116_150 rfl rfl rfl ?_
            refine qa_ic (nx := 153) (v := nI 1) at_116_152 (by decide) rfl ?_
            refine qa_addN (nx := 154) at_116_153 rfl ?_
            refine qa_ialdV (nx := 155) (k := k + 1) (v := nI (sm (P (3 * i + r)) (Y (3 * i + r)) tot f (k + 1))) at_116_154 rfl rfl rfl (by decide) rfl (show k + 1 < 13 by omega) (show _ from hfar h116_138) ?_
            refine qa_iast (nx := 156) (k := k + 1) at_116_155 rfl rfl rfl (by decide) rfl (show k + 1 < 13 by omega) ?_
            refine qa_s (pc' := 158) at_116_156 rfl rfl rfl ?_
            refine qa_ic (nx := 159) (v := nI 5) at_116_158 (by decide) rfl ?_
            refine qn_icmp_ne (tg := 207) (nx := 162) at_116_159 rfl rfl (by omega) (by omega) (fun h116_159 => ?_) (fun h116_159 => ?_)
            · refine qa_s (pc' := 209) at_116_207 rfl rfl rfl ?_
              refine qa_bi (nx := 211) (v := nI 6) at_116_209 (by decide) rfl ?_
              refine qn_icmp_ne (tg := 227) (nx := 214) at_116_211 rfl rfl (by omega) (by omega) (fun h116_211 => ?_) (fun h116_211 => ?_)
              · refine qa_s (pc' := 229) at_116_227 rfl rfl rfl ?_
                refine qa_bi (nx := 231) (v := nI 7) at_116_229 (by decide) rfl ?_
                refine qn_icmp_ne (tg := 252) (nx := 234) at_116_231 rfl rfl (by omega) (by omega) (fun h116_231 => ?_) (fun h116_231 => ?_)
                · refine qa_s (pc' := 254) at_116_252 rfl rfl rfl ?_
                  refine qa_s (pc' := 256) at_116_254 rfl rfl rfl ?_
                  refine qa_incN (nx := 259) (c := 1) at_116_256 (by decide) rfl rfl rfl ?_
                  refine qa_goto (nx := 36) at_116_259 rfl ?_
                  show qa _ _ _ [(0, .ref (cl 40 0)), (1, .int (nI ((3 * i + r) * 12))), (2, .int (nI f)), (3, .int (nI t)), (4, .int (nI (tmS (P (3 * i + r)) (Y (3 * i + r)) f k))), (5, .int (nI (k + 1))), (6, .int _), (7, .int _), (8, .int _), (9, .int _)] [] _ _
                  exact qa_drop (l1 := [(0, .ref (cl 40 0)), (1, .int (nI ((3 * i + r) * 12))), (2, .int (nI f)), (3, .int (nI t)), (4, .int (nI (tmS (P (3 * i + r)) (Y (3 * i + r)) f k))), (5, .int (nI (k + 1)))]) (by intro q hq; simp only [List.mem_cons, List.not_mem_nil, or_false] at hq ⊢; rcases hq with rfl | rfl | rfl | rfl | rfl | rfl <;> simp) (by simp [mj_nd]) (ih (k + 1) _ _ (by rw [htS, if_neg (by omega), if_neg (by omega)]) (by omega) (by omega) (fun a g => by rw [up_k g]; exact hF a g) (FI_1 hFI))
                · omega
              · omega
            · omega
          · refine qa_s (pc' := 143) at_116_141 rfl rfl rfl ?_
            refine qa_goto (nx := 155) at_116_143 rfl ?_
            refine qa_iast (nx := 156) (k := k + 1) at_116_155 rfl rfl rfl (by decide) rfl (show k + 1 < 13 by omega) ?_
            refine qa_s (pc' := 158) at_116_156 rfl rfl rfl ?_
            refine qa_ic (nx := 159) (v := nI 5) at_116_158 (by decide) rfl ?_
            refine qn_icmp_ne (tg := 207) (nx := 162) at_116_159 rfl rfl (by omega) (by omega) (fun h116_159 => ?_) (fun h116_159 => ?_)
            · refine qa_s (pc' := 209) at_116_207 rfl rfl rfl ?_
              refine qa_bi (nx := 211) (v := nI 6) at_116_209 (by decide) rfl ?_
              refine qn_icmp_ne (tg := 227) (nx := 214) at_116_211 rfl rfl (by omega) (by omega) (fun h116_211 => ?_) (fun h116_211 => ?_)
              · refine qa_s (pc' := 229) at_116_227 rfl rfl rfl ?_
                refine qa_bi (nx := 231) (v := nI 7) at_116_229 (by decide) rfl ?_
                refine qn_icmp_ne (tg := 252) (nx := 234) at_116_231 rfl rfl (by omega) (by omega) (fun h116_231 => ?_) (fun h116_231 => ?_)
                · refine qa_s (pc' := 254) at_116_252 rfl rfl rfl ?_
                  refine qa_s (pc' := 256) at_116_254 rfl rfl rfl ?_
                  refine qa_incN (nx := 259) (c := 1) at_116_256 (by decide) rfl rfl rfl ?_
                  refine qa_goto (nx := 36) at_116_259 rfl ?_
                  show qa _ _ _ [(0, .ref (cl 40 0)), (1, .int (nI ((3 * i + r) * 12))), (2, .int (nI f)), (3, .int (nI t)), (4, .int (nI (tmS (P (3 * i + r)) (Y (3 * i + r)) f k))), (5, .int (nI (k + 1))), (6, .int _), (7, .int _), (8, .int _), (9, .int _)] [] _ _
                  exact qa_drop (l1 := [(0, .ref (cl 40 0)), (1, .int (nI ((3 * i + r) * 12))), (2, .int (nI f)), (3, .int (nI t)), (4, .int (nI (tmS (P (3 * i + r)) (Y (3 * i + r)) f k))), (5, .int (nI (k + 1)))]) (by intro q hq; simp only [List.mem_cons, List.not_mem_nil, or_false] at hq ⊢; rcases hq with rfl | rfl | rfl | rfl | rfl | rfl <;> simp) (by simp [mj_nd]) (ih (k + 1) _ _ (by rw [htS, if_neg (by omega), if_neg (by omega)]) (by omega) (by omega) (fun a g => by rw [up_k g]; exact hF a g) (FI_1 hFI))
                · omega
              · omega
            · omega
    · have hE : sm (P (3 * i + r)) (Y (3 * i + r)) tot f k + tmS (P (3 * i + r)) (Y (3 * i + r)) f k * (prN (P (3 * i + r) k) + 0) = sm (P (3 * i + r)) (Y (3 * i + r)) tot f (k + 1) := by rw [hsm]; unfold ctk; rw [if_neg (by omega)]
      refine qa_s (pc' := 38) at_116_36 rfl rfl rfl ?_
      refine qa_s (pc' := 39) at_116_38 rfl rfl rfl ?_
      refine qn_icmp_ge (tg := 262) (nx := 42) at_116_39 rfl rfl (by omega) (by omega) (fun h116_39 => ?_) (fun h116_39 => ?_)
      · omega
      · refine qa_s (pc' := 43) at_116_42 rfl rfl rfl ?_
        refine qa_s (pc' := 45) at_116_43 rfl rfl rfl ?_
        refine qa_addN (nx := 46) at_116_45 rfl ?_
        refine qa_s (pc' := 48) at_116_46 rfl rfl rfl ?_
        refine qa_s (pc' := 49) at_116_48 rfl rfl rfl ?_
        refine qa_getR (nx := 52) at_116_49 rfl (by decide) rfl rfl (by decide) ?_
        refine qa_s (pc' := 54) at_116_52 rfl rfl rfl ?_
        refine qa_ialdV (nx := 55) (k := ((3 * i + r) * 12) + k) (v := nI (P (3 * i + r) k)) at_116_54 rfl rfl rfl (by decide) rfl (show ((3 * i + r) * 12) + k < 180 by omega) (show _ from e44) ?_
        refine qa_s (pc' := 57) at_116_55 rfl rfl rfl ?_
        refine qa_s (pc' := 59) at_116_57 rfl rfl rfl ?_
        refine qa_s (pc' := 60) at_116_59 rfl rfl rfl ?_
        refine qa_getR (nx := 63) at_116_60 rfl (by decide) rfl rfl (by decide) ?_
        refine qa_s (pc' := 65) at_116_63 rfl rfl rfl ?_
        refine qa_ialdV (nx := 66) (k := P (3 * i + r) k) (v := nI (prN (P (3 * i + r) k))) at_116_65 rfl rfl rfl (by decide) rfl (show P (3 * i + r) k < 15 by omega) (show _ from e49) ?_
        refine qa_s (pc' := 68) at_116_66 rfl rfl rfl ?_
        refine qa_bi (nx := 70) (v := nI 10) at_116_68 (by decide) rfl ?_
        refine qn_icmp_ne (tg := 88) (nx := 73) at_116_70 rfl rfl (by omega) (by omega) (fun h116_70 => ?_) (fun h116_70 => ?_)
        · refine qa_ic (nx := 89) (v := nI 0) at_116_88 (by decide) rfl ?_
          refine qa_addN (nx := 90) at_116_89 rfl ?_
          refine qa_mulN (nx := 91) at_116_90 rfl ?_
          refine qa_s (pc' := 93) at_116_91 rfl rfl rfl ?_
          refine qa_s (pc' := 94) at_116_93 rfl rfl rfl ?_
          refine qa_getR (nx := 97) at_116_94 rfl (by decide) rfl rfl (by decide) ?_
          refine qa_s (pc' := 99) at_116_97 rfl rfl rfl ?_
          refine qa_ialdV (nx := 100) (k := k) (v := nI (sm (P (3 * i + r)) (Y (3 * i + r)) tot f k)) at_116_99 rfl rfl rfl (by decide) rfl (show k < 13 by omega) (show _ from hFI.1) ?_
          refine qn_if_ge (tg := 107) (nx := 103) at_116_100 rfl rfl (by omega) ?_
          refine qa_s (pc' := 108) at_116_107 rfl rfl rfl ?_
          refine qa_getR (nx := 111) at_116_108 rfl (by decide) rfl rfl (by decide) ?_
          refine qa_s (pc' := 113) at_116_111 rfl rfl rfl ?_
          refine qa_ialdV (nx := 114) (k := k) (v := nI (sm (P (3 * i + r)) (Y (3 * i + r)) tot f k)) at_116_113 rfl rfl rfl (by decide) rfl (show k < 13 by omega) (show _ from hFI.1) ?_
          refine qa_s (pc' := 116) at_116_114 rfl rfl rfl ?_
          refine qa_addN (nx := 117) at_116_116 rfl ?_
          rw [hE]
          refine qa_s (pc' := 119) at_116_117 rfl rfl rfl ?_
          refine qa_s (pc' := 120) at_116_119 rfl rfl rfl ?_
          refine qa_getR (nx := 123) at_116_120 rfl (by decide) rfl rfl (by decide) ?_
          refine qa_s (pc' := 125) at_116_123 rfl rfl rfl ?_
          refine qa_ic (nx := 126) (v := nI 1) at_116_125 (by decide) rfl ?_
          refine qa_addN (nx := 127) at_116_126 rfl ?_
          refine qa_s (pc' := 129) at_116_127 rfl rfl rfl ?_
          refine qa_s (pc' := 130) at_116_129 rfl rfl rfl ?_
          refine qa_getR (nx := 133) at_116_130 rfl (by decide) rfl rfl (by decide) ?_
          refine qa_s (pc' := 135) at_116_133 rfl rfl rfl ?_
          refine qa_ic (nx := 136) (v := nI 1) at_116_135 (by decide) rfl ?_
          refine qa_addN (nx := 137) at_116_136 rfl ?_
          refine qa_iald (nx := 138) (k := k + 1) at_116_137 rfl rfl rfl (by decide) rfl (show k + 1 < 13 by omega) ?_
          refine qa_icmp_le (tg := 146) (nx := 141) at_116_138 rfl rfl (fun h116_138 => ?_) (fun h116_138 => ?_)
          · refine qa_s (pc' := 147) at_116_146 rfl rfl rfl ?_
            refine qa_getR (nx := 150) at_116_147 rfl (by decide) rfl rfl (by decide) ?_
            refine qa_s (pc' := 152) at_116_150 rfl rfl rfl ?_
            refine qa_ic (nx := 153) (v := nI 1) at_116_152 (by decide) rfl ?_
            refine qa_addN (nx := 154) at_116_153 rfl ?_
            refine qa_ialdV (nx := 155) (k := k + 1) (v := nI (sm (P (3 * i + r)) (Y (3 * i + r)) tot f (k + 1))) at_116_154 rfl rfl rfl (by decide) rfl (show k + 1 < 13 by omega) (show _ from hfar h116_138) ?_
            refine qa_iast (nx := 156) (k := k + 1) at_116_155 rfl rfl rfl (by decide) rfl (show k + 1 < 13 by omega) ?_
            refine qa_s (pc' := 158) at_116_156 rfl rfl rfl ?_
            refine qa_ic (nx := 159) (v := nI 5) at_116_158 (by decide) rfl ?_
            refine qn_icmp_ne (tg := 207) (nx := 162) at_116_159 rfl rfl (by omega) (by omega) (fun h116_159 => ?_) (fun h116_159 => ?_)
            · refine qa_s (pc' := 209) at_116_207 rfl rfl rfl ?_
              refine qa_bi (nx := 211) (v := nI 6) at_116_209 (by decide) rfl ?_
              refine qn_icmp_ne (tg := 227) (nx := 214) at_116_211 rfl rfl (by omega) (by omega) (fun h116_211 => ?_) (fun h116_211 => ?_)
              · refine qa_s (pc' := 229) at_116_227 rfl rfl rfl ?_
                refine qa_bi (nx := 231) (v := nI 7) at_116_229 (by decide) rfl ?_
                refine qn_icmp_ne (tg := 252) (nx := 234) at_116_231 rfl rfl (by omega) (by omega) (fun h116_231 => ?_) (fun h116_231 => ?_)
                · refine qa_s (pc' := 254) at_116_252 rfl rfl rfl ?_
                  refine qa_s (pc' := 256) at_116_254 rfl rfl rfl ?_
                  refine qa_incN (nx := 259) (c := 1) at_116_256 (by decide) rfl rfl rfl ?_
                  refine qa_goto (nx := 36) at_116_259 rfl ?_
                  show qa _ _ _ [(0, .ref (cl 40 0)), (1, .int (nI ((3 * i + r) * 12))), (2, .int (nI f)), (3, .int (nI t)), (4, .int (nI (tmS (P (3 * i + r)) (Y (3 * i + r)) f k))), (5, .int (nI (k + 1))), (6, .int _), (7, .int _), (8, .int _), (9, .int _)] [] _ _
                  exact qa_drop (l1 := [(0, .ref (cl 40 0)), (1, .int (nI ((3 * i + r) * 12))), (2, .int (nI f)), (3, .int (nI t)), (4, .int (nI (tmS (P (3 * i + r)) (Y (3 * i + r)) f k))), (5, .int (nI (k + 1)))]) (by intro q hq; simp only [List.mem_cons, List.not_mem_nil, or_false] at hq ⊢; rcases hq with rfl | rfl | rfl | rfl | rfl | rfl <;> simp) (by simp [mj_nd]) (ih (k + 1) _ _ (by rw [htS, if_neg (by omega), if_neg (by omega)]) (by omega) (by omega) (fun a g => by rw [up_k g]; exact hF a g) (FI_1 hFI))
                · omega
              · omega
            · omega
          · refine qa_s (pc' := 143) at_116_141 rfl rfl rfl ?_
            refine qa_goto (nx := 155) at_116_143 rfl ?_
            refine qa_iast (nx := 156) (k := k + 1) at_116_155 rfl rfl rfl (by decide) rfl (show k + 1 < 13 by omega) ?_
            refine qa_s (pc' := 158) at_116_156 rfl rfl rfl ?_
            refine qa_ic (nx := 159) (v := nI 5) at_116_158 (by decide) rfl ?_
            refine qn_icmp_ne (tg := 207) (nx := 162) at_116_159 rfl rfl (by omega) (by omega) (fun h116_159 => ?_) (fun h116_159 => ?_)
            · refine qa_s (pc' := 209) at_116_207 rfl rfl rfl ?_
              refine qa_bi (nx := 211) (v := nI 6) at_116_209 (by decide) rfl ?_
              refine qn_icmp_ne (tg := 227) (nx := 214) at_116_211 rfl rfl (by omega) (by omega) (fun h116_211 => ?_) (fun h116_211 => ?_)
              · refine qa_s (pc' := 229) at_116_227 rfl rfl rfl ?_
                refine qa_bi (nx := 231) (v := nI 7) at_116_229 (by decide) rfl ?_
                refine qn_icmp_ne (tg := 252) (nx := 234) at_116_231 rfl rfl (by omega) (by omega) (fun h116_231 => ?_) (fun h116_231 => ?_)
                · refine qa_s (pc' := 254) at_116_252 rfl rfl rfl ?_
                  refine qa_s (pc' := 256) at_116_254 rfl rfl rfl ?_
                  refine qa_incN (nx := 259) (c := 1) at_116_256 (by decide) rfl rfl rfl ?_
                  refine qa_goto (nx := 36) at_116_259 rfl ?_
                  show qa _ _ _ [(0, .ref (cl 40 0)), (1, .int (nI ((3 * i + r) * 12))), (2, .int (nI f)), (3, .int (nI t)), (4, .int (nI (tmS (P (3 * i + r)) (Y (3 * i + r)) f k))), (5, .int (nI (k + 1))), (6, .int _), (7, .int _), (8, .int _), (9, .int _)] [] _ _
                  exact qa_drop (l1 := [(0, .ref (cl 40 0)), (1, .int (nI ((3 * i + r) * 12))), (2, .int (nI f)), (3, .int (nI t)), (4, .int (nI (tmS (P (3 * i + r)) (Y (3 * i + r)) f k))), (5, .int (nI (k + 1)))]) (by intro q hq; simp only [List.mem_cons, List.not_mem_nil, or_false] at hq ⊢; rcases hq with rfl | rfl | rfl | rfl | rfl | rfl <;> simp) (by simp [mj_nd]) (ih (k + 1) _ _ (by rw [htS, if_neg (by omega), if_neg (by omega)]) (by omega) (by omega) (fun a g => by rw [up_k g]; exact hF a g) (FI_1 hFI))
                · omega
              · omega
            · omega
        · omega
theorem c116_q (hi : i < 5) (hr : r < 3) (hI : ImM L P Y σ) (hD : SD L P Y i r) (hM : mtAllM (P (3 * i + r)) (3 * i + r) (L (3 * i + r)) σ) (hPr : ∀ o, o < 15 → σ 49 0 o = nI (prN o)) (hT : ∀ y, r < y → y ≤ 2 → σ 52 0 y = nI (tot y)) (hS : Spn (P (3 * i + r)) (Y (3 * i + r)) (L (3 * i + r)) f t) (hB : ∀ j, j ≤ t → sm (P (3 * i + r)) (Y (3 * i + r)) tot f j < 2 ^ 30) (K : ∀ σ1, (∀ a, a ≠ 51 → σ1 a = σ a) → Q (some (.int (nI (sm (P (3 * i + r)) (Y (3 * i + r)) tot f t)))) σ1) : qa cst 116 0 [(0, .ref (cl 40 0)), (1, .int (nI ((3 * i + r) * 12))), (2, .int (nI f)), (3, .int (nI t))] [] σ Q := by
  have hL := hD.1.1
  have htl := hS.2.1
  have hft := hS.1
  refine qa_s (pc' := 1) at_116_0 rfl rfl rfl ?_
  refine qa_s (pc' := 3) at_116_1 rfl rfl rfl ?_
  refine c116_f (n := 3 * i + r) (σ := σ) (by omega) (by omega) (fun σ1 v h1 h2 => ?_) (t + 1 - f) f σ (by omega) (Nat.le_refl _) (fun _ _ => rfl) (fun j q1 q2 => by omega)
  refine qa_s (pc' := 24) at_116_23 rfl rfl rfl ?_
  refine qa_getR (nx := 27) at_116_24 rfl (by decide) rfl rfl (by decide) ?_
  refine qa_s (pc' := 28) at_116_27 rfl rfl rfl ?_
  refine qa_ic (nx := 29) (v := nI 0) at_116_28 (by decide) rfl ?_
  refine qa_iast (nx := 30) (k := f) at_116_29 rfl rfl rfl (by decide) rfl (show f < 13 by omega) ?_
  refine qa_ic (nx := 31) (v := nI 1) at_116_30 (by decide) rfl ?_
  refine qa_s (pc' := 33) at_116_31 rfl rfl rfl ?_
  refine qa_s (pc' := 34) at_116_33 rfl rfl rfl ?_
  refine qa_s (pc' := 36) at_116_34 rfl rfl rfl ?_
  exact c116_l hi hr hI hD hM hPr hT hS hB K (t - f) f _ _ (by rw [tmS_f]) (by omega) (Nat.le_refl _) (fun a g => by rw [up_k g]; exact h1 a g) ⟨by rw [up_s, sm_f], fun j q1 q2 => Or.inl (by rw [up_j (by omega)]; exact h2 j (by omega) q2)⟩
end PQ
