/-! the fourth call: the call of the reference -/
section PQ
variable {cst : List (List Int32)} {ys : List Int32} {σ b : sg} {Q : Option Value → sg → Prop} {T k i r d n f t s : Nat} {L : Nat → Nat} {P Y : Nat → Nat → Nat} {per dl : Nat → Nat}
def frM1 (σ1 σ : sg) : Prop := (∀ a, a ≠ 40 → a ≠ 47 → a ≠ 50 → σ1 a = σ a) ∧ ∀ j, j ≠ 14 → j ≠ 3 → σ1 40 0 j = σ 40 0 j
theorem mtAllM_I {σ1 : sg} (hji : n ≠ i) (hr : r < 3) (hD : SD L P Y n r) (h : frM i σ1 σ) (g : mtAllM (P (3 * n + r)) (3 * n + r) (L (3 * n + r)) σ) : mtAllM (P (3 * n + r)) (3 * n + r) (L (3 * n + r)) σ1 := fun c hc hpc => by
  have h1 := opn_lt hD.1 hc hpc
  have h2 := hD.1.1
  obtain ⟨g1, g2⟩ := g c hc hpc
  exact ⟨by rw [h.2.2 _ c (fun q hq e => by omega) (by omega)]; exact g1, by rw [h.2.2 _ (opn (P (3 * n + r)) c) (fun q hq e => by omega) (by omega)]; exact g2⟩
theorem c106_a (hT : T ≤ 5) (hT4 : σ 40 0 0 = nI T) (hI : ImM L P Y σ) (hDo : ∀ j, j < T → (∀ q, q < 3 → rtOk L P Y j q) → ∀ q, q < 3 → SD L P Y j q) (Kb : ∀ i r k w σ1, i < T → (∀ j, j < i → ∀ q, q < 3 → rtOk L P Y j q) → bad L P Y i r k w → frM1 σ1 σ → σ1 40 0 3 = nI (100 * r + k) → Q (some (.int (nI (w + 10 * i)))) σ1) (Kg : (∀ j, j < T → ∀ q, q < 3 → rtOk L P Y j q) → ∀ σ1, frM1 σ1 σ → (∀ j, j < T → ∀ q, q < 3 → mtAllM (P (3 * j + q)) (3 * j + q) (L (3 * j + q)) σ1) → σ1 40 0 3 = σ 40 0 3 → qa cst 106 62 [(0, .ref (cl 40 0))] [] σ1 Q) : ∀ m i σ1, i + m = T → (∀ j, j < i → ∀ q, q < 3 → rtOk L P Y j q) → frM1 σ1 σ → σ1 40 0 3 = σ 40 0 3 → (∀ j, j < i → ∀ q, q < 3 → mtAllM (P (3 * j + q)) (3 * j + q) (L (3 * j + q)) σ1) → qa cst 106 31 [(0, .ref (cl 40 0)), (1, .int (nI i))] [] σ1 Q := by
  intro m
  induction m with
  | zero =>
    intro i σ1 hi hok hF h0 hM
    obtain rfl : i = T := by omega
    have e4 : σ1 40 0 0 = nI i := by rw [hF.2 0 (by decide) (by decide)]; exact hT4
    refine qa_s (pc' := 32) at_106_31 rfl rfl rfl ?_
    refine qa_s (pc' := 33) at_106_32 rfl rfl rfl ?_
    refine qa_getV (nx := 36) (v := nI i) at_106_33 rfl (by decide) rfl rfl (by decide) (show _ from e4) ?_
    refine qn_icmp_ge (tg := 62) (nx := 39) at_106_36 rfl rfl (by omega) (by omega) (fun h106_36 => ?_) (fun h106_36 => ?_)
    · show qa _ _ _ [(0, .ref (cl 40 0)), (1, .int _)] [] _ _
      exact qa_drop (l1 := [(0, .ref (cl 40 0))]) (by intro q hq; simp only [List.mem_cons, List.not_mem_nil, or_false] at hq ⊢; rcases hq with rfl <;> simp) (by simp [mj_nd]) (Kg hok σ1 hF hM h0)
    · omega
  | succ m ih =>
    intro i σ1 hi hok hF h0 hM
    have e4 : σ1 40 0 0 = nI T := by rw [hF.2 0 (by decide) (by decide)]; exact hT4
    have hI1 : ImM L P Y σ1 := ImM_of (σ := σ) (hF.1 48 (by decide) (by decide) (by decide)) (hF.1 44 (by decide) (by decide) (by decide)) (hF.1 46 (by decide) (by decide) (by decide)) hI
    have fr : ∀ σ2, frM i σ2 σ1 → frM1 σ2 σ := fun σ2 f => ⟨fun a q1 q2 q3 => (f.1 a q1 q2 q3).trans (hF.1 a q1 q2 q3), fun j q1 q2 => (f.2.1 j q1 q2).trans (hF.2 j q1 q2)⟩
    refine qa_s (pc' := 32) at_106_31 rfl rfl rfl ?_
    refine qa_s (pc' := 33) at_106_32 rfl rfl rfl ?_
    refine qa_getV (nx := 36) (v := nI T) at_106_33 rfl (by decide) rfl rfl (by decide) (show _ from e4) ?_
    refine qn_icmp_ge (tg := 62) (nx := 39) at_106_36 rfl rfl (by omega) (by omega) (fun h106_36 => ?_) (fun h106_36 => ?_)
    · omega
    · refine qa_s (pc' := 40) at_106_39 rfl rfl rfl ?_
      refine qa_s (pc' := 41) at_106_40 rfl rfl rfl ?_
      refine qa_callV (nx := 44) at_106_41 rfl rfl (Nat.le_of_ble_eq_true rfl) rfl rfl rfl (by decide) rfl (by decide) ?_
      show qa _ 107 0 [(0, .ref _), (1, .int _)] [] _ _
      refine c107_q (by omega) hI1 (fun r k w σ2 b1 b2 b3 => ?_) (fun g1 σ2 g2 g3 g4 => ?_)
      · have hw0 := b1.2.2.2.2.2.1
        have hw9 := b1.2.2.2.2.2.2
        show qa _ 106 44 _ [.int _] _ _
        refine qa_s (pc' := 45) at_106_44 rfl rfl rfl ?_
        refine qa_s (pc' := 46) at_106_45 rfl rfl rfl ?_
        refine qn_if_le (tg := 56) (nx := 49) at_106_46 rfl rfl (by omega) (fun h106_46 => ?_) (fun h106_46 => ?_)
        · refine qa_incN (nx := 59) (c := 1) at_106_56 (by decide) rfl rfl rfl ?_
          refine qa_goto (nx := 31) at_106_59 rfl ?_
          first
            | omega
            | (show qa _ _ _ [(0, .ref (cl 40 0)), (1, .int (nI (i + 1))), (2, .int _)] [] _ _; exact qa_drop (l1 := [(0, .ref (cl 40 0)), (1, .int (nI (i + 1)))]) (by intro q hq; simp only [List.mem_cons, List.not_mem_nil, or_false] at hq ⊢; rcases hq with rfl | rfl <;> simp) (by simp [mj_nd]) (ih (i + 1) σ2 (by omega) (fun j hj q hq => by by_cases e : j = i; (subst e; exact g1 q hq); exact hok j (by omega) q hq) (fr σ2 g2) (g3.trans h0) (fun j hj q hq => by by_cases e : j = i; (subst e; exact g4 q hq); exact mtAllM_I e hq (hDo j (by omega) (hok j (by omega)) q hq) g2 (hM j (by omega) q hq))))
        · refine qa_s (pc' := 50) at_106_49 rfl rfl rfl ?_
          refine qa_bi (nx := 52) (v := nI 10) at_106_50 (by decide) rfl ?_
          refine qa_s (pc' := 53) at_106_52 rfl rfl rfl ?_
          refine qa_mulN (nx := 54) at_106_53 rfl ?_
          refine qa_addN (nx := 55) at_106_54 rfl ?_
          refine qa_ret at_106_55 rfl ?_
          exact Kb i r k w σ2 (by omega) hok b1 (fr σ2 b2) b3
      · show qa _ 106 44 _ [.int _] _ _
        refine qa_s (pc' := 45) at_106_44 rfl rfl rfl ?_
        refine qa_s (pc' := 46) at_106_45 rfl rfl rfl ?_
        refine qn_if_le (tg := 56) (nx := 49) at_106_46 rfl rfl (by decide) (fun h106_46 => ?_) (fun h => absurd h (by decide))
        refine qa_incN (nx := 59) (c := 1) at_106_56 (by decide) rfl rfl rfl ?_
        refine qa_goto (nx := 31) at_106_59 rfl ?_
        first
          | omega
          | (show qa _ _ _ [(0, .ref (cl 40 0)), (1, .int (nI (i + 1))), (2, .int _)] [] _ _; exact qa_drop (l1 := [(0, .ref (cl 40 0)), (1, .int (nI (i + 1)))]) (by intro q hq; simp only [List.mem_cons, List.not_mem_nil, or_false] at hq ⊢; rcases hq with rfl | rfl <;> simp) (by simp [mj_nd]) (ih (i + 1) σ2 (by omega) (fun j hj q hq => by by_cases e : j = i; (subst e; exact g1 q hq); exact hok j (by omega) q hq) (fr σ2 g2) (g3.trans h0) (fun j hj q hq => by by_cases e : j = i; (subst e; exact g4 q hq); exact mtAllM_I e hq (hDo j (by omega) (hok j (by omega)) q hq) g2 (hM j (by omega) q hq))))
def W2 (L : Nat → Nat) (P Y : Nat → Nat → Nat) (i : Nat) (σ1 σ : sg) : Prop := (∀ a, a ≠ 51 → a ≠ 52 → a ≠ 53 → a ≠ 54 → σ1 a = σ a) ∧ ∀ q, q < i → σ1 53 0 q = nI (T0 L P Y q) ∧ ∀ s, s < 4 → σ1 54 0 (4 * q + s) = nI (Sx L P Y q s)
theorem c106_b (hT : T ≤ 5) (hT4 : σ 40 0 0 = nI T) (hI : ImM L P Y σ) (hD : ∀ i, i < T → ∀ r, r < 3 → SD L P Y i r) (hM : ∀ i, i < T → ∀ r, r < 3 → mtAllM (P (3 * i + r)) (3 * i + r) (L (3 * i + r)) σ) (hPr : ∀ o, o < 15 → σ 49 0 o = nI (prN o)) (K : ∀ σ1, W2 L P Y T σ1 σ → qa cst 106 83 [(0, .ref (cl 40 0))] [] σ1 Q) : ∀ m i σ1, i + m = T → W2 L P Y i σ1 σ → qa cst 106 64 [(0, .ref (cl 40 0)), (1, .int (nI i))] [] σ1 Q := by
  intro m
  induction m with
  | zero =>
    intro i σ1 hi h
    obtain rfl : i = T := by omega
    have e4 : σ1 40 0 0 = nI i := by rw [h.1 40 (by decide) (by decide) (by decide) (by decide)]; exact hT4
    refine qa_s (pc' := 65) at_106_64 rfl rfl rfl ?_
    refine qa_s (pc' := 66) at_106_65 rfl rfl rfl ?_
    refine qa_getV (nx := 69) (v := nI i) at_106_66 rfl (by decide) rfl rfl (by decide) (show _ from e4) ?_
    refine qn_icmp_ge (tg := 83) (nx := 72) at_106_69 rfl rfl (by omega) (by omega) (fun h106_69 => ?_) (fun h106_69 => ?_)
    · show qa _ _ _ [(0, .ref (cl 40 0)), (1, .int _)] [] _ _
      exact qa_drop (l1 := [(0, .ref (cl 40 0))]) (by intro q hq; simp only [List.mem_cons, List.not_mem_nil, or_false] at hq ⊢; rcases hq with rfl <;> simp) (by simp [mj_nd]) (K σ1 h)
    · omega
  | succ m ih =>
    intro i σ1 hi h
    have e4 : σ1 40 0 0 = nI T := by rw [h.1 40 (by decide) (by decide) (by decide) (by decide)]; exact hT4
    have hI1 : ImM L P Y σ1 := ImM_of (σ := σ) (h.1 48 (by decide) (by decide) (by decide) (by decide)) (h.1 44 (by decide) (by decide) (by decide) (by decide)) (h.1 46 (by decide) (by decide) (by decide) (by decide)) hI
    refine qa_s (pc' := 65) at_106_64 rfl rfl rfl ?_
    refine qa_s (pc' := 66) at_106_65 rfl rfl rfl ?_
    refine qa_getV (nx := 69) (v := nI T) at_106_66 rfl (by decide) rfl rfl (by decide) (show _ from e4) ?_
    refine qn_icmp_ge (tg := 83) (nx := 72) at_106_69 rfl rfl (by omega) (by omega) (fun h106_69 => ?_) (fun h106_69 => ?_)
    · omega
    · refine qa_s (pc' := 73) at_106_72 rfl rfl rfl ?_
      refine qa_s (pc' := 74) at_106_73 rfl rfl rfl ?_
      refine qa_callV (nx := 77) at_106_74 rfl rfl (Nat.le_of_ble_eq_true rfl) rfl rfl rfl (by decide) rfl (by decide) ?_
      show qa _ 115 0 [(0, .ref _), (1, .int _)] [] _ _
      refine c115_q (by omega) hI1 (hD i (by omega)) (fun r hr c hc hpc => by rw [h.1 47 (by decide) (by decide) (by decide) (by decide)]; exact hM i (by omega) r hr c hc hpc) (fun o ho => by rw [h.1 49 (by decide) (by decide) (by decide) (by decide)]; exact hPr o ho) (fun σ2 a1 a2 a3 a4 a5 => ?_)
      have h' : W2 L P Y (i + 1) σ2 σ := by
        refine ⟨fun a q1 q2 q3 q4 => (a1 a q1 q2 q3 q4).trans (h.1 a q1 q2 q3 q4), fun q hq => ?_⟩
        by_cases e : q = i
        · subst e; exact ⟨a3, a5⟩
        · obtain ⟨v1, v2⟩ := h.2 q (by omega)
          exact ⟨by rw [a2 q e]; exact v1, fun s hs => by rw [a4 _ (by omega)]; exact v2 s hs⟩
      show qa _ 106 77 _ [] _ _
      refine qa_incN (nx := 80) (c := 1) at_106_77 (by decide) rfl rfl rfl ?_
      refine qa_goto (nx := 64) at_106_80 rfl ?_
      exact ih (i + 1) σ2 (by omega) h'
theorem c106_c (hT : T ≤ 5) (hT4 : σ 40 0 0 = nI T) (h54 : ∀ j s, j < T → s < 4 → Sx L P Y j s < 2 ^ 30 ∧ σ 54 0 (4 * j + s) = nI (Sx L P Y j s)) (K : ∀ σ1, (∀ a, a ≠ 57 → σ1 a = σ a) → (∀ s, s < 4 → σ1 57 0 s = Cx L P Y T s) → qa cst 106 107 [(0, .ref (cl 40 0))] [] σ1 Q) : qa cst 106 83 [(0, .ref (cl 40 0))] [] σ Q := by
  refine qa_ic (nx := 84) (v := nI 0) at_106_83 (by decide) rfl ?_
  refine qa_s (pc' := 85) at_106_84 rfl rfl rfl ?_
  refine qa_s (pc' := 86) at_106_85 rfl rfl rfl ?_
  refine qa_ic (nx := 87) (v := nI 4) at_106_86 (by decide) rfl ?_
  refine qn_icmp_ge (tg := 107) (nx := 90) at_106_87 rfl rfl (by decide) (by decide) (fun h => absurd h (by decide)) (fun h106_87 => ?_)
  refine qa_s (pc' := 91) at_106_90 rfl rfl rfl ?_
  refine qa_getR (nx := 94) at_106_91 rfl (by decide) rfl rfl (by decide) ?_
  refine qa_s (pc' := 95) at_106_94 rfl rfl rfl ?_
  refine qa_s (pc' := 96) at_106_95 rfl rfl rfl ?_
  refine qa_s (pc' := 97) at_106_96 rfl rfl rfl ?_
  refine qa_callV (nx := 100) at_106_97 rfl rfl (Nat.le_of_ble_eq_true rfl) rfl rfl rfl (by decide) rfl (by decide) ?_
  show qa _ 117 0 [(0, .ref _), (1, .int _)] [] _ _
  refine c117_q (s := 0) (S := Sx L P Y) (by decide) hT hT4 (fun j hj => h54 j 0 hj (by decide)) ?_
  show qa _ 106 100 _ [.int _, .int _, .ref _] _ _
  refine qa_iast (nx := 101) (k := 0) at_106_100 rfl rfl rfl (by decide) rfl (show 0 < 4 by omega) ?_
  refine qa_incN (nx := 104) (c := 1) at_106_101 (by decide) rfl rfl rfl ?_
  refine qa_goto (nx := 85) at_106_104 rfl ?_
  refine qa_s (pc' := 86) at_106_85 rfl rfl rfl ?_
  refine qa_ic (nx := 87) (v := nI 4) at_106_86 (by decide) rfl ?_
  refine qn_icmp_ge (tg := 107) (nx := 90) at_106_87 rfl rfl (by decide) (by decide) (fun h => absurd h (by decide)) (fun h106_87 => ?_)
  refine qa_s (pc' := 91) at_106_90 rfl rfl rfl ?_
  refine qa_getR (nx := 94) at_106_91 rfl (by decide) rfl rfl (by decide) ?_
  refine qa_s (pc' := 95) at_106_94 rfl rfl rfl ?_
  refine qa_s (pc' := 96) at_106_95 rfl rfl rfl ?_
  refine qa_s (pc' := 97) at_106_96 rfl rfl rfl ?_
  refine qa_callV (nx := 100) at_106_97 rfl rfl (Nat.le_of_ble_eq_true rfl) rfl rfl rfl (by decide) rfl (by decide) ?_
  show qa _ 117 0 [(0, .ref _), (1, .int _)] [] _ _
  refine c117_q (s := 1) (S := Sx L P Y) (by decide) hT hT4 (fun j hj => h54 j 1 hj (by decide)) ?_
  show qa _ 106 100 _ [.int _, .int _, .ref _] _ _
  refine qa_iast (nx := 101) (k := 1) at_106_100 rfl rfl rfl (by decide) rfl (show 1 < 4 by omega) ?_
  refine qa_incN (nx := 104) (c := 1) at_106_101 (by decide) rfl rfl rfl ?_
  refine qa_goto (nx := 85) at_106_104 rfl ?_
  refine qa_s (pc' := 86) at_106_85 rfl rfl rfl ?_
  refine qa_ic (nx := 87) (v := nI 4) at_106_86 (by decide) rfl ?_
  refine qn_icmp_ge (tg := 107) (nx := 90) at_106_87 rfl rfl (by decide) (by decide) (fun h => absurd h (by decide)) (fun h106_87 => ?_)
  refine qa_s (pc' := 91) at_106_90 rfl rfl rfl ?_
  refine qa_getR (nx := 94) at_106_91 rfl (by decide) rfl rfl (by decide) ?_
  refine qa_s (pc' := 95) at_106_94 rfl rfl rfl ?_
  refine qa_s (pc' := 96) at_106_95 rfl rfl rfl ?_
  refine qa_s (pc' := 97) at_106_96 rfl rfl rfl ?_
  refine qa_callV (nx := 100) at_106_97 rfl rfl (Nat.le_of_ble_eq_true rfl) rfl rfl rfl (by decide) rfl (by decide) ?_
  show qa _ 117 0 [(0, .ref _), (1, .int _)] [] _ _
  refine c117_q (s := 2) (S := Sx L P Y) (by decide) hT hT4 (fun j hj => h54 j 2 hj (by decide)) ?_
  show qa _ 106 100 _ [.int _, .int _, .ref _] _ _
  refine qa_iast (nx := 101) (k := 2) at_106_100 rfl rfl rfl (by decide) rfl (show 2 < 4 by omega) ?_
  refine qa_incN (nx := 104) (c := 1) at_106_101 (by decide) rfl rfl rfl ?_
  refine qa_goto (nx := 85) at_106_104 rfl ?_
  refine qa_s (pc' := 86) at_106_85 rfl rfl rfl ?_
  refine qa_ic (nx := 87) (v := nI 4) at_106_86 (by decide) rfl ?_
  refine qn_icmp_ge (tg := 107) (nx := 90) at_106_87 rfl rfl (by decide) (by decide) (fun h => absurd h (by decide)) (fun h106_87 => ?_)
  refine qa_s (pc' := 91) at_106_90 rfl rfl rfl ?_
  refine qa_getR (nx := 94) at_106_91 rfl (by decide) rfl rfl (by decide) ?_
  refine qa_s (pc' := 95) at_106_94 rfl rfl rfl ?_
  refine qa_s (pc' := 96) at_106_95 rfl rfl rfl ?_
  refine qa_s (pc' := 97) at_106_96 rfl rfl rfl ?_
  refine qa_callV (nx := 100) at_106_97 rfl rfl (Nat.le_of_ble_eq_true rfl) rfl rfl rfl (by decide) rfl (by decide) ?_
  show qa _ 117 0 [(0, .ref _), (1, .int _)] [] _ _
  refine c117_q (s := 3) (S := Sx L P Y) (by decide) hT hT4 (fun j hj => h54 j 3 hj (by decide)) ?_
  show qa _ 106 100 _ [.int _, .int _, .ref _] _ _
  refine qa_iast (nx := 101) (k := 3) at_106_100 rfl rfl rfl (by decide) rfl (show 3 < 4 by omega) ?_
  refine qa_incN (nx := 104) (c := 1) at_106_101 (by decide) rfl rfl rfl ?_
  refine qa_goto (nx := 85) at_106_104 rfl ?_
  refine qa_s (pc' := 86) at_106_85 rfl rfl rfl ?_
  refine qa_ic (nx := 87) (v := nI 4) at_106_86 (by decide) rfl ?_
  refine qn_icmp_ge (tg := 107) (nx := 90) at_106_87 rfl rfl (by decide) (by decide) (fun h106_87 => ?_) (fun h => absurd h (by decide))
  show qa _ _ _ [(0, .ref (cl 40 0)), (1, .int _)] [] _ _
  exact qa_drop (l1 := [(0, .ref (cl 40 0))]) (by intro q hq; simp only [List.mem_cons, List.not_mem_nil, or_false] at hq ⊢; rcases hq with rfl <;> simp) (by simp [mj_nd]) (K _ (fun a g => by rw [up_k g, up_k g, up_k g, up_k g]) (fun s hs => by (obtain rfl | rfl | rfl | rfl : s = 0 ∨ s = 1 ∨ s = 2 ∨ s = 3 := by omega) <;> first | exact up_s | (rw [up_j (by decide)]; exact up_s) | (rw [up_j (by decide), up_j (by decide)]; exact up_s) | (rw [up_j (by decide), up_j (by decide), up_j (by decide)]; exact up_s)))
theorem lat_r {F : Nat → Int32} : ∀ i, lat F i = -1 ∨ ∃ c, c < i ∧ lat F i = nI c := by
  intro i
  induction i with
  | zero => exact Or.inl rfl
  | succ i ih =>
    simp only [lat]
    rcases ih with e | ⟨c, hc, e⟩
    · rw [if_pos e]
      by_cases f : F i = -1
      · rw [if_pos f]; exact Or.inr ⟨i, by omega, rfl⟩
      · rw [if_neg f]; exact Or.inl rfl
    · by_cases f : lat F i = -1
      · rw [if_pos f]
        by_cases g : F i = -1
        · rw [if_pos g]; exact Or.inr ⟨i, by omega, rfl⟩
        · rw [if_neg g]; exact Or.inl rfl
      · rw [if_neg f]; exact Or.inr ⟨c, by omega, e⟩
theorem ans_c (hc : k < 5) : ansF (nI k) = nI (8 + 10 * k) := by
  unfold ansF
  rw [if_neg (nI_ne (by omega)), pk_mul, nI_add]
theorem Fr_pos {wc B : Nat → Nat} (hd : dl i ≤ 5000) (h : Fr wc per dl B i ≠ -1) : (0 : Int32) ≤ Fr wc per dl B i := by
  obtain ⟨n, n1, n2, n3, n4⟩ := fx_ne _ _ h
  have e : Fr wc per dl B i = nI n := n4
  rw [e]
  exact nI_pos' (by omega)
def W4 (L : Nat → Nat) (P Y : Nat → Nat → Nat) (per dl : Nat → Nat) (T i : Nat) (σ1 σ : sg) : Prop := (∀ a, a ≠ 55 → a ≠ 56 → σ1 a = σ a) ∧ ∀ q, q < i → σ1 55 0 q = nI (Bx L P Y T q) ∧ σ1 56 0 q = rsp (Fx L P Y per dl T) q
theorem W4_s {v w : Int32} {σ1 : sg} (h : W4 L P Y per dl T i σ1 σ) (hv : v = nI (Bx L P Y T i)) (hw : w = rsp (Fx L P Y per dl T) i) : W4 L P Y per dl T (i + 1) (up (up σ1 55 0 i v) 56 0 i w) σ := by
  refine ⟨fun a q1 q2 => by rw [up_k q2, up_k q1]; exact h.1 a q1 q2, fun q hq => ?_⟩
  by_cases e : q = i
  · subst e
    exact ⟨by rw [up_k (by decide), up_s, hv], by rw [up_s, hw]⟩
  · rw [up_k (by decide), up_j e, up_j e, up_k (by decide)]
    exact h.2 q (by omega)
theorem c106_d (hT : T ≤ 5) (hT4 : σ 40 0 0 = nI T) (hD : ∀ i, i < T → ∀ r, r < 3 → SD L P Y i r) (h53 : ∀ j, j < T → σ 53 0 j = nI (T0 L P Y j) ∧ ∀ s, s < 4 → σ 54 0 (4 * j + s) = nI (Sx L P Y j s)) (h57 : ∀ s, s < 4 → σ 57 0 s = Cx L P Y T s) (h41 : ∀ j, j < T → σ 41 0 j = nI (per j) ∧ 1 ≤ per j ∧ per j ≤ 5000) (hd : ∀ i, i < T → σ 42 0 i = nI (dl i) ∧ 1 ≤ dl i ∧ dl i ≤ 5000) (K : ∀ σ1, W4 L P Y per dl T T σ1 σ → Q (some (.int (ansF (lat (Fx L P Y per dl T) T)))) σ1) : ∀ m i σ1 v1, i + m = T → v1 = ansF (lat (Fx L P Y per dl T) i) → W4 L P Y per dl T i σ1 σ → qa cst 106 116 [(0, .ref (cl 40 0)), (1, .int v1), (2, .int (nI i))] [] σ1 Q := by
  intro m
  induction m with
  | zero =>
    intro i σ1 v1 hi e1 h
    subst e1
    obtain rfl : i = T := by omega
    have e4 : σ1 40 0 0 = nI i := by rw [h.1 40 (by decide) (by decide)]; exact hT4
    refine qa_s (pc' := 117) at_106_116 rfl rfl rfl ?_
    refine qa_s (pc' := 118) at_106_117 rfl rfl rfl ?_
    refine qa_getV (nx := 121) (v := nI i) at_106_118 rfl (by decide) rfl rfl (by decide) (show _ from e4) ?_
    refine qn_icmp_ge (tg := 185) (nx := 124) at_106_121 rfl rfl (by omega) (by omega) (fun h106_121 => ?_) (fun h106_121 => ?_)
    · refine qa_s (pc' := 186) at_106_185 rfl rfl rfl ?_
      refine qa_ret at_106_186 rfl ?_
      exact K σ1 h
    · omega
  | succ m ih =>
    intro i σ1 v1 hi e1 h
    have e4 : σ1 40 0 0 = nI T := by rw [h.1 40 (by decide) (by decide)]; exact hT4
    have hC : ∀ j s, j < T → s < 4 → 0 < Sx L P Y j s → nI 0 ≤ Cx L P Y T s := by
      intro j s hj hs h0
      rcases CEF_r (S := Sx L P Y) (s := s) T hT with ⟨_, z⟩ | ⟨c, hc, z, _, _⟩
      · have := z j hj; omega
      · show nI 0 ≤ CEF (Sx L P Y) s T
        rw [z]
        exact nI_pos' (by omega)
    rcases lat_r (F := (Fx L P Y per dl T)) i with hl | ⟨c, hc, hl⟩
    · have e0 : v1 = nI 0 := by rw [e1, hl]; rfl
      subst e0
      have hok := lat_ok i (by omega) hl
      have ers : rsp (Fx L P Y per dl T) i = Fr (T0 L P Y) per dl (Bx L P Y T) i := by unfold rsp; rw [if_pos hl]; rfl
      refine qa_s (pc' := 117) at_106_116 rfl rfl rfl ?_
      refine qa_s (pc' := 118) at_106_117 rfl rfl rfl ?_
      refine qa_getV (nx := 121) (v := nI T) at_106_118 rfl (by decide) rfl rfl (by decide) (show _ from e4) ?_
      refine qn_icmp_ge (tg := 185) (nx := 124) at_106_121 rfl rfl (by omega) (by omega) (fun h106_121 => ?_) (fun h106_121 => ?_)
      · omega
      · refine qa_s (pc' := 125) at_106_124 rfl rfl rfl ?_
        refine qa_getR (nx := 128) at_106_125 rfl (by decide) rfl rfl (by decide) ?_
        refine qa_s (pc' := 129) at_106_128 rfl rfl rfl ?_
        refine qa_s (pc' := 130) at_106_129 rfl rfl rfl ?_
        refine qa_s (pc' := 131) at_106_130 rfl rfl rfl ?_
        refine qa_callV (nx := 134) at_106_131 rfl rfl (Nat.le_of_ble_eq_true rfl) rfl rfl rfl (by decide) rfl (by decide) ?_
        show qa _ 118 0 [(0, .ref _), (1, .int _)] [] _ _
        refine c118_q (S := Sx L P Y) (C := Cx L P Y T) (by omega) hT e4 (fun j s hj hs => ⟨Sx_b (hD j hj), by rw [h.1 54 (by decide) (by decide)]; exact (h53 j hj).2 s hs⟩) (fun s hs => by rw [h.1 57 (by decide) (by decide)]; exact h57 s hs) hC ?_
        have e4b : up σ1 55 0 i (nI (Bx L P Y T i)) 40 0 0 = nI T := e4
        show qa _ 106 134 _ [.int _, .int _, .ref _] _ _
        refine qa_iast (nx := 135) (k := i) at_106_134 rfl rfl rfl (by decide) rfl (show i < 5 by omega) ?_
        refine qa_s (pc' := 136) at_106_135 rfl rfl rfl ?_
        refine qa_getR (nx := 139) at_106_136 rfl (by decide) rfl rfl (by decide) ?_
        refine qa_s (pc' := 140) at_106_139 rfl rfl rfl ?_
        refine qa_s (pc' := 141) at_106_140 rfl rfl rfl ?_
        refine qn_if_ne (tg := 152) (nx := 144) at_106_141 rfl rfl (by decide) (fun h => absurd h (by decide)) (fun h106_141 => ?_)
        refine qa_s (pc' := 145) at_106_144 rfl rfl rfl ?_
        refine qa_s (pc' := 146) at_106_145 rfl rfl rfl ?_
        refine qa_callV (nx := 149) at_106_146 rfl rfl (Nat.le_of_ble_eq_true rfl) rfl rfl rfl (by decide) rfl (by decide) ?_
        show qa _ 119 0 [(0, .ref _), (1, .int _)] [] _ _
        refine c119_q (T := T) (wc := T0 L P Y) (per := per) (dl := dl) (B := Bx L P Y T) (by omega) hT up_s (fun j hj => by rw [up_k (by decide), h.1 53 (by decide) (by decide)]; exact (h53 j hj).1) (fun j hj => by rw [up_k (by decide), h.1 41 (by decide) (by decide)]; exact h41 j hj) (by rw [up_k (by decide), h.1 42 (by decide) (by decide)]; exact (hd i (by omega)).1) (hd i (by omega)).2.1 (hd i (by omega)).2.2 (Bx_b hD) (T0_b (hD i (by omega))) (fun j hj => Fr_wc (hd j (by omega)).2.2 (hok j hj)) ?_
        show qa _ 106 149 _ [.int _, .int _, .ref _] _ _
        refine qa_goto (nx := 153) at_106_149 rfl ?_
        refine qa_iast (nx := 154) (k := i) at_106_153 rfl rfl rfl (by decide) rfl (show i < 5 by omega) ?_
        refine qa_s (pc' := 155) at_106_154 rfl rfl rfl ?_
        refine qn_if_ne (tg := 177) (nx := 158) at_106_155 rfl rfl (by decide) (fun h => absurd h (by decide)) (fun h106_155 => ?_)
        refine qa_s (pc' := 159) at_106_158 rfl rfl rfl ?_
        refine qa_getR (nx := 162) at_106_159 rfl (by decide) rfl rfl (by decide) ?_
        refine qa_s (pc' := 163) at_106_162 rfl rfl rfl ?_
        refine qa_ialdV (nx := 164) (k := i) (v := Fr (T0 L P Y) per dl (Bx L P Y T) i) at_106_163 rfl rfl rfl (by decide) rfl (show i < 5 by omega) (show _ from up_s) ?_
        refine qa_if_ge (tg := 177) (nx := 167) at_106_164 rfl rfl (fun h106_164 => ?_) (fun h106_164 => ?_)
        · have hne : ¬ Fr (T0 L P Y) per dl (Bx L P Y T) i = -1 := fun e => absurd (e ▸ h106_164) (by decide)
          refine qa_s (pc' := 178) at_106_177 rfl rfl rfl ?_
          refine qa_s (pc' := 179) at_106_178 rfl rfl rfl ?_
          refine qa_incN (nx := 182) (c := 1) at_106_179 (by decide) rfl rfl rfl ?_
          refine qa_goto (nx := 116) at_106_182 rfl ?_
          first
            | exact ih (i + 1) _ _ (by omega) (by simp only [lat]; rw [if_pos hl, if_neg (show ¬ Fx L P Y per dl T i = -1 from hne)]; rfl) (W4_s h rfl ers.symm)
            | exact ih (i + 1) _ _ (by omega) (by simp only [lat]; rw [if_pos hl, if_pos (show Fx L P Y per dl T i = -1 from hne), ans_c (by omega)]) (W4_s h rfl ers.symm)
        · have hne : Fr (T0 L P Y) per dl (Bx L P Y T) i = -1 := by by_cases e : Fr (T0 L P Y) per dl (Bx L P Y T) i = -1; (exact e); exact absurd (Fr_pos (hd i (by omega)).2.2 e) h106_164
          refine qa_bi (nx := 169) (v := nI 8) at_106_167 (by decide) rfl ?_
          refine qa_bi (nx := 171) (v := nI 10) at_106_169 (by decide) rfl ?_
          refine qa_s (pc' := 172) at_106_171 rfl rfl rfl ?_
          refine qa_mulN (nx := 173) at_106_172 rfl ?_
          refine qa_addN (nx := 174) at_106_173 rfl ?_
          refine qa_goto (nx := 178) at_106_174 rfl ?_
          refine qa_s (pc' := 179) at_106_178 rfl rfl rfl ?_
          refine qa_incN (nx := 182) (c := 1) at_106_179 (by decide) rfl rfl rfl ?_
          refine qa_goto (nx := 116) at_106_182 rfl ?_
          first
            | exact ih (i + 1) _ _ (by omega) (by simp only [lat]; rw [if_pos hl, if_neg (show ¬ Fx L P Y per dl T i = -1 from hne)]; rfl) (W4_s h rfl ers.symm)
            | exact ih (i + 1) _ _ (by omega) (by simp only [lat]; rw [if_pos hl, if_pos (show Fx L P Y per dl T i = -1 from hne), ans_c (by omega)]) (W4_s h rfl ers.symm)
    · have e0 : v1 = nI (8 + 10 * c) := by rw [e1, hl]; exact ans_c (by omega)
      have hln : ¬ lat (Fx L P Y per dl T) i = -1 := by rw [hl]; exact nI_ne (by omega)
      have e1' : nI (8 + 10 * c) = ansF (lat (Fx L P Y per dl T) (i + 1)) := by simp only [lat]; rw [if_neg hln, ← e1, e0]
      subst e0
      refine qa_s (pc' := 117) at_106_116 rfl rfl rfl ?_
      refine qa_s (pc' := 118) at_106_117 rfl rfl rfl ?_
      refine qa_getV (nx := 121) (v := nI T) at_106_118 rfl (by decide) rfl rfl (by decide) (show _ from e4) ?_
      refine qn_icmp_ge (tg := 185) (nx := 124) at_106_121 rfl rfl (by omega) (by omega) (fun h106_121 => ?_) (fun h106_121 => ?_)
      · omega
      · refine qa_s (pc' := 125) at_106_124 rfl rfl rfl ?_
        refine qa_getR (nx := 128) at_106_125 rfl (by decide) rfl rfl (by decide) ?_
        refine qa_s (pc' := 129) at_106_128 rfl rfl rfl ?_
        refine qa_s (pc' := 130) at_106_129 rfl rfl rfl ?_
        refine qa_s (pc' := 131) at_106_130 rfl rfl rfl ?_
        refine qa_callV (nx := 134) at_106_131 rfl rfl (Nat.le_of_ble_eq_true rfl) rfl rfl rfl (by decide) rfl (by decide) ?_
        show qa _ 118 0 [(0, .ref _), (1, .int _)] [] _ _
        refine c118_q (S := Sx L P Y) (C := Cx L P Y T) (by omega) hT e4 (fun j s hj hs => ⟨Sx_b (hD j hj), by rw [h.1 54 (by decide) (by decide)]; exact (h53 j hj).2 s hs⟩) (fun s hs => by rw [h.1 57 (by decide) (by decide)]; exact h57 s hs) hC ?_
        have e4b : up σ1 55 0 i (nI (Bx L P Y T i)) 40 0 0 = nI T := e4
        show qa _ 106 134 _ [.int _, .int _, .ref _] _ _
        refine qa_iast (nx := 135) (k := i) at_106_134 rfl rfl rfl (by decide) rfl (show i < 5 by omega) ?_
        refine qa_s (pc' := 136) at_106_135 rfl rfl rfl ?_
        refine qa_getR (nx := 139) at_106_136 rfl (by decide) rfl rfl (by decide) ?_
        refine qa_s (pc' := 140) at_106_139 rfl rfl rfl ?_
        refine qa_s (pc' := 141) at_106_140 rfl rfl rfl ?_
        refine qn_if_ne (tg := 152) (nx := 144) at_106_141 rfl rfl (by omega) (fun h106_141 => ?_) (fun h106_141 => ?_)
        · refine qa_ic (nx := 153) (v := (-1)) at_106_152 (by decide) rfl ?_
          refine qa_iast (nx := 154) (k := i) at_106_153 rfl rfl rfl (by decide) rfl (show i < 5 by omega) ?_
          refine qa_s (pc' := 155) at_106_154 rfl rfl rfl ?_
          refine qn_if_ne (tg := 177) (nx := 158) at_106_155 rfl rfl (by omega) (fun h106_155 => ?_) (fun h106_155 => ?_)
          · refine qa_s (pc' := 178) at_106_177 rfl rfl rfl ?_
            refine qa_s (pc' := 179) at_106_178 rfl rfl rfl ?_
            refine qa_incN (nx := 182) (c := 1) at_106_179 (by decide) rfl rfl rfl ?_
            refine qa_goto (nx := 116) at_106_182 rfl ?_
            exact ih (i + 1) _ _ (by omega) e1' (W4_s h rfl (by unfold rsp; rw [if_neg hln]))
          · omega
        · omega
/-- what the fourth call leaves alone, the reference -/
def frE (σ1 σ : sg) : Prop := (∀ a, a ≠ 40 → a ≠ 47 → a ≠ 50 → a ≠ 51 → a ≠ 52 → a ≠ 53 → a ≠ 54 → a ≠ 55 → a ≠ 56 → a ≠ 57 → σ1 a = σ a) ∧ ∀ j, j ≠ 1 → j ≠ 3 → j ≠ 14 → σ1 40 0 j = σ 40 0 j
theorem c106_q (hT : T ≤ 5) (hT4 : σ 40 0 0 = nI T) (hI : ImM L P Y σ) (hDo : ∀ j, j < T → (∀ q, q < 3 → rtOk L P Y j q) → ∀ q, q < 3 → SD L P Y j q) (hPr : ∀ o, o < 15 → σ 49 0 o = nI (prN o)) (h41 : ∀ j, j < T → σ 41 0 j = nI (per j) ∧ 1 ≤ per j ∧ per j ≤ 5000) (hd : ∀ i, i < T → σ 42 0 i = nI (dl i) ∧ 1 ≤ dl i ∧ dl i ≤ 5000) (Kon : ¬ σ 40 0 2 = 0 → Q (some (.int (-1))) σ) (K9 : σ 40 0 2 = 0 → T = 0 → Q (some (.int (nI 9))) (up (up σ 40 0 3 (-1)) 40 0 1 (nI 0)))
    (Kb : ∀ i r k w σ1, σ 40 0 2 = 0 → i < T → (∀ j, j < i → ∀ q, q < 3 → rtOk L P Y j q) → bad L P Y i r k w → frM1 σ1 (up (up σ 40 0 3 (-1)) 40 0 1 (nI 0)) → σ1 40 0 3 = nI (100 * r + k) → Q (some (.int (nI (w + 10 * i)))) σ1)
    (Kg : σ 40 0 2 = 0 → 0 < T → (∀ j, j < T → ∀ q, q < 3 → rtOk L P Y j q) → ∀ σ1, frE σ1 σ → FigM L P Y per dl T σ1 → (∀ j, j < T → ∀ q, q < 3 → mtAllM (P (3 * j + q)) (3 * j + q) (L (3 * j + q)) σ1) → σ1 40 0 1 = nI 1 → σ1 40 0 3 = -1 → Q (some (.int (ansF (lat (Fx L P Y per dl T) T)))) σ1) : qa cst 106 0 [(0, .ref (cl 40 0))] [] σ Q := by
  refine qa_s (pc' := 1) at_106_0 rfl rfl rfl ?_
  refine qa_getI (nx := 4) at_106_1 rfl (by decide) rfl rfl (by decide) ?_
  refine qa_if_eq (tg := 9) (nx := 7) at_106_4 rfl rfl (fun h106_4 => ?_) (fun h106_4 => ?_)
  · refine qa_s (pc' := 10) at_106_9 rfl rfl rfl ?_
    refine qa_ic (nx := 11) (v := (-1)) at_106_10 (by decide) rfl ?_
    refine qa_put (nx := 14) at_106_11 rfl (by decide) rfl rfl rfl (by decide) ?_
    refine qa_s (pc' := 15) at_106_14 rfl rfl rfl ?_
    refine qa_ic (nx := 16) (v := nI 0) at_106_15 (by decide) rfl ?_
    refine qa_put (nx := 19) at_106_16 rfl (by decide) rfl (by decide) rfl (by decide) ?_
    refine qa_s (pc' := 20) at_106_19 rfl rfl rfl ?_
    refine qa_getV (nx := 23) (v := nI T) at_106_20 rfl (by decide) rfl rfl (by decide) (show _ from hT4) ?_
    refine qn_if_ne (tg := 29) (nx := 26) at_106_23 rfl rfl (by omega) (fun h106_23 => ?_) (fun h106_23 => ?_)
    · refine qa_ic (nx := 30) (v := nI 0) at_106_29 (by decide) rfl ?_
      refine qa_s (pc' := 31) at_106_30 rfl rfl rfl ?_
      have hI0 : ImM L P Y (up (up σ 40 0 3 (-1)) 40 0 1 (nI 0)) := ImM_of (σ := σ) rfl rfl rfl hI
      refine c106_a (σ := up (up σ 40 0 3 (-1)) 40 0 1 (nI 0)) hT hT4 hI0 hDo (fun i r k w σ1 q1 q2 q3 q4 q5 => Kb i r k w σ1 h106_4 q1 q2 q3 q4 q5) (fun hok σ1 f1 f2 f3 => ?_) T 0 _ (by omega) (fun j hj => absurd hj (Nat.not_lt_zero _)) ⟨fun _ _ _ _ => rfl, fun _ _ _ => rfl⟩ rfl (fun j hj => absurd hj (Nat.not_lt_zero _))
      have hD : ∀ i, i < T → ∀ r, r < 3 → SD L P Y i r := fun i hi r hr => hDo i hi (hok i hi) r hr
      have G1 : ∀ a, a ≠ 40 → a ≠ 47 → a ≠ 50 → σ1 a = σ a := fun a q1 q2 q3 => by rw [f1.1 a q1 q2 q3, up_k q1, up_k q1]
      have G1' : ∀ j, j ≠ 1 → j ≠ 3 → j ≠ 14 → σ1 40 0 j = σ 40 0 j := fun j q1 q2 q3 => by rw [f1.2 j q3 q2, up_j q1, up_j q2]
      have e0 : σ1 40 0 0 = nI T := by rw [G1' 0 (by decide) (by decide) (by decide)]; exact hT4
      refine qa_ic (nx := 63) (v := nI 0) at_106_62 (by decide) rfl ?_
      refine qa_s (pc' := 64) at_106_63 rfl rfl rfl ?_
      refine c106_b hT e0 (ImM_of (σ := σ) (G1 48 (by decide) (by decide) (by decide)) (G1 44 (by decide) (by decide) (by decide)) (G1 46 (by decide) (by decide) (by decide)) hI) hD f2 (fun o ho => by rw [G1 49 (by decide) (by decide) (by decide)]; exact hPr o ho) (fun σ2 w2 => ?_) T 0 σ1 (by omega) ⟨fun _ _ _ _ _ => rfl, fun q hq => absurd hq (Nat.not_lt_zero _)⟩
      refine c106_c (L := L) (P := P) (Y := Y) hT (by rw [w2.1 40 (by decide) (by decide) (by decide) (by decide)]; exact e0) (fun j s hj hs => ⟨Nat.lt_of_le_of_lt (Sx_b (hD j hj)) (by decide), (w2.2 j hj).2 s hs⟩) (fun σ3 g1 g2 => ?_)
      refine qa_s (pc' := 108) at_106_107 rfl rfl rfl ?_
      refine qa_ic (nx := 109) (v := nI 1) at_106_108 (by decide) rfl ?_
      refine qa_put (nx := 112) at_106_109 rfl (by decide) rfl (by decide) rfl (by decide) ?_
      refine qa_ic (nx := 113) (v := nI 0) at_106_112 (by decide) rfl ?_
      refine qa_s (pc' := 114) at_106_113 rfl rfl rfl ?_
      refine qa_ic (nx := 115) (v := nI 0) at_106_114 (by decide) rfl ?_
      refine qa_s (pc' := 116) at_106_115 rfl rfl rfl ?_
      have G3 : ∀ a, a ≠ 40 → a ≠ 57 → a ≠ 51 → a ≠ 52 → a ≠ 53 → a ≠ 54 → up σ3 40 0 1 (nI 1) a = σ1 a := fun a q1 q2 q3 q4 q5 q6 => by rw [up_k q1, g1 a q2]; exact w2.1 a q3 q4 q5 q6
      have G4 : ∀ j, j ≠ 1 → up σ3 40 0 1 (nI 1) 40 0 j = σ1 40 0 j := fun j hj => by rw [up_j hj, g1 40 (by decide), w2.1 40 (by decide) (by decide) (by decide) (by decide)]
      have S53 : ∀ j, j < T → up σ3 40 0 1 (nI 1) 53 0 j = nI (T0 L P Y j) ∧ ∀ s, s < 4 → up σ3 40 0 1 (nI 1) 54 0 (4 * j + s) = nI (Sx L P Y j s) := fun j hj => ⟨by rw [up_k (by decide), g1 53 (by decide)]; exact (w2.2 j hj).1, fun s hs => by rw [up_k (by decide), g1 54 (by decide)]; exact (w2.2 j hj).2 s hs⟩
      have S57 : ∀ s, s < 4 → up σ3 40 0 1 (nI 1) 57 0 s = Cx L P Y T s := fun s hs => by rw [up_k (by decide)]; exact g2 s hs
      refine c106_d (per := per) (dl := dl) hT (by rw [G4 0 (by decide)]; exact e0) hD S53 S57 (fun j hj => by rw [G3 41 (by decide) (by decide) (by decide) (by decide) (by decide) (by decide), G1 41 (by decide) (by decide) (by decide)]; exact h41 j hj) (fun j hj => by rw [G3 42 (by decide) (by decide) (by decide) (by decide) (by decide) (by decide), G1 42 (by decide) (by decide) (by decide)]; exact hd j hj) (fun σ4 w4 => ?_) T 0 _ _ (by omega) rfl ⟨fun _ _ _ => rfl, fun q hq => absurd hq (Nat.not_lt_zero _)⟩
      refine Kg h106_4 (by omega) hok σ4 ⟨fun a q1 q2 q3 q4 q5 q6 q7 q8 q9 q10 => ?_, fun j q1 q2 q3 => ?_⟩ ⟨fun i hi => ⟨?_, (w4.2 i hi).1, (w4.2 i hi).2, fun s hs => ?_⟩, fun s hs => ?_⟩ (fun j hj q hq c hc hpc => ?_) ?_ ?_
      · rw [w4.1 a q8 q9, G3 a q1 q10 q4 q5 q6 q7]; exact G1 a q1 q2 q3
      · rw [w4.1 40 (by decide) (by decide), G4 j q1]; exact G1' j q1 q2 q3
      · rw [w4.1 53 (by decide) (by decide)]; exact (S53 i hi).1
      · rw [w4.1 54 (by decide) (by decide)]; exact (S53 i hi).2 s hs
      · rw [w4.1 57 (by decide) (by decide)]; exact S57 s hs
      · rw [w4.1 47 (by decide) (by decide), G3 47 (by decide) (by decide) (by decide) (by decide) (by decide) (by decide)]; exact f2 j hj q hq c hc hpc
      · rw [w4.1 40 (by decide) (by decide)]; exact up_s
      · rw [w4.1 40 (by decide) (by decide), G4 3 (by decide), f3, up_j (by decide)]; exact up_s
    · refine qa_bi (nx := 28) (v := nI 9) at_106_26 (by decide) rfl ?_
      refine qa_ret at_106_28 rfl ?_
      first
        | exact Kon h106_4
        | exact K9 h106_4 (by omega)
  · refine qa_ic (nx := 8) (v := (-1)) at_106_7 (by decide) rfl ?_
    refine qa_ret at_106_8 rfl ?_
    first
      | exact Kon h106_4
      | exact K9 h106_4 (by omega)
end PQ
