/-! the fourth call: a routine is checked, the class -/
section PQ
variable {cst : List (List Int32)} {σ b : sg} {Q : Option Value → sg → Prop} {T k i r d : Nat} {s : Nat → Nat} {L : Nat → Nat} {P Y : Nat → Nat → Nat} {mk : Nat → Nat} {p : Nat → Nat}
theorem c24_q {w : Int32} (K : Q (some (.int w)) (up σ 2 0 0 (nI (100 * r + k)))) : qa cst 24 0 [(0, .ref (cl 2 0)), (1, .int w), (2, .int (nI r)), (3, .int (nI k))] [] σ Q := by
  refine qa_s (pc' := 1) at_24_0 rfl rfl rfl ?_
  refine qa_bi (nx := 3) (v := nI 100) at_24_1 (by decide) rfl ?_
  refine qa_s (pc' := 4) at_24_3 rfl rfl rfl ?_
  refine qa_mulN (nx := 5) at_24_4 rfl ?_
  refine qa_s (pc' := 6) at_24_5 rfl rfl rfl ?_
  refine qa_addN (nx := 7) at_24_6 rfl ?_
  refine qa_put (nx := 10) at_24_7 rfl (by decide) rfl rfl rfl (by decide) ?_
  refine qa_s (pc' := 11) at_24_10 rfl rfl rfl ?_
  refine qa_ret at_24_11 rfl ?_
  exact K
theorem clOk_of (h : ∀ j, j < k → ckA L P Y mk i r j = 0) : clOk (P (3 * i + r)) k := by
  intro c hc hpc
  have g := h c hc
  unfold ckA ckR at g
  rcases hpc with f | f
  · simp [f] at g; exact g.1
  · simp [f] at g; exact g.1
/-- what the check of routine n leaves alone -/
def frR (n : Nat) (σ1 σ : sg) : Prop := (∀ a, a ≠ 2 → a ≠ 3 → a ≠ 17 → σ1 a = σ a) ∧ ∀ n', n' ≠ n → σ1 17 n' = σ 17 n'
/-- the reason at place k of the routine, its end among the places -/
def why (L : Nat → Nat) (P Y : Nat → Nat → Nat) (mk : Nat → Nat) (i r k : Nat) : Nat := if k < L (3 * i + r) then ckA L P Y mk i r k else if r = 0 ∧ L (3 * i + r) = 0 then 1 else if 0 < std (P (3 * i + r)) k then 7 else 0
theorem c23_l {σ0 : sg} (hi : i < 5) (hr : r < 3) (hne : ¬ (r = 0 ∧ L (3 * i + r) = 0)) (hI : ImC L P Y σ0) (hm : ∀ y, 1 ≤ y → y ≤ 2 → mk y < 16 ∧ σ0 13 (3 * i + y) 5 = nI (mk y))
    (Kb : ∀ k w σ1, k ≤ L (3 * i + r) → (∀ j, j < k → ckA L P Y mk i r j = 0) → why L P Y mk i r k = w → 0 < w → w < 9 → frR (3 * i + r) σ1 σ0 → σ1 2 0 0 = nI (100 * r + k) → Q (some (.int (nI w))) σ1)
    (Kg : (∀ j, j < L (3 * i + r) → ckA L P Y mk i r j = 0) → std (P (3 * i + r)) (L (3 * i + r)) = 0 → ∀ σ1, frR (3 * i + r) σ1 σ0 → σ1 2 0 0 = σ0 2 0 0 → mtAll (P (3 * i + r)) (3 * i + r) (L (3 * i + r)) σ1 → Q (some (.int (nI 0))) σ1) :
    ∀ m k σ, k + m = L (3 * i + r) → (∀ j, j < k → ckA L P Y mk i r j = 0) → CO (P (3 * i + r)) (Y (3 * i + r)) (sts (P (3 * i + r)) k) (std (P (3 * i + r)) k) σ → frR (3 * i + r) σ σ0 → σ 2 0 0 = σ0 2 0 0 → mtAll (P (3 * i + r)) (3 * i + r) k σ → qa cst 23 41 [(0, .ref (cl 2 0)), (1, .ref (cl 12 i)), (2, .int (nI r)), (3, .ref (cl 13 (3 * i + r))), (4, .int (nI k))] [] σ Q := by
  have hL := (hI (3 * i + r) (by omega)).1
  intro m
  induction m with
  | zero =>
    intro k σ hk hall hO hF h0 hM
    have e13 : σ 13 (3 * i + r) 4 = nI (L (3 * i + r)) := by rw [hF.1 13 (by decide) (by decide) (by decide)]; exact (hI (3 * i + r) (by omega)).2.1
    have e : k = L (3 * i + r) := by omega
    subst e
    have hsl := std_le (P (3 * i + r)) (L (3 * i + r))
    refine qa_s (pc' := 43) at_23_41 rfl rfl rfl ?_
    refine qa_s (pc' := 44) at_23_43 rfl rfl rfl ?_
    refine qa_getV (nx := 47) (v := nI (L (3 * i + r))) at_23_44 rfl (by decide) rfl rfl (show _ < 15 by omega) (show _ from e13) ?_
    refine qn_icmp_ge (tg := 81) (nx := 50) at_23_47 rfl rfl (by omega) (by omega) (fun h23_47 => ?_) (fun h23_47 => ?_)
    · refine qa_s (pc' := 82) at_23_81 rfl rfl rfl ?_
      refine qa_getV (nx := 85) (v := nI (std (P (3 * i + r)) (L (3 * i + r)))) at_23_82 rfl (by decide) rfl rfl (by decide) (show _ from hO.1) ?_
      refine qn_if_le (tg := 102) (nx := 88) at_23_85 rfl rfl (by omega) (fun h23_85 => ?_) (fun h23_85 => ?_)
      · refine qa_ic (nx := 103) (v := nI 0) at_23_102 (by decide) rfl ?_
        refine qa_ret at_23_103 rfl ?_
        first
          | exact Kg hall (by omega) σ hF h0 hM
          | exact Kb _ 7 _ (Nat.le_refl _) hall (by unfold why; rw [if_neg (by omega), if_neg hne, if_pos (by omega)]) (by decide) (by decide) ⟨fun a g1 g2 g3 => by rw [up_k g1]; exact hF.1 a g1 g2 g3, hF.2⟩ rfl
      · refine qa_s (pc' := 89) at_23_88 rfl rfl rfl ?_
        refine qa_bi (nx := 91) (v := nI 7) at_23_89 (by decide) rfl ?_
        refine qa_s (pc' := 92) at_23_91 rfl rfl rfl ?_
        refine qa_s (pc' := 93) at_23_92 rfl rfl rfl ?_
        refine qa_getV (nx := 96) (v := nI (L (3 * i + r))) at_23_93 rfl (by decide) rfl rfl (show _ < 15 by omega) (show _ from e13) ?_
        refine qa_callV (nx := 99) at_23_96 rfl rfl (Nat.le_of_ble_eq_true rfl) rfl rfl rfl (by decide) rfl (by decide) ?_
        show qa _ 24 0 [(0, .ref _), (1, .int _), (2, .int _), (3, .int _)] [] _ _
        refine c24_q ?_
        show qa _ 23 99 _ [.int _] _ _
        refine qa_goto (nx := 103) at_23_99 rfl ?_
        refine qa_ret at_23_103 rfl ?_
        first
          | exact Kg hall (by omega) σ hF h0 hM
          | exact Kb _ 7 _ (Nat.le_refl _) hall (by unfold why; rw [if_neg (by omega), if_neg hne, if_pos (by omega)]) (by decide) (by decide) ⟨fun a g1 g2 g3 => by rw [up_k g1]; exact hF.1 a g1 g2 g3, hF.2⟩ rfl
    · omega
  | succ m ih =>
    intro k σ hk hall hO hF h0 hM
    have e13 : σ 13 (3 * i + r) 4 = nI (L (3 * i + r)) := by rw [hF.1 13 (by decide) (by decide) (by decide)]; exact (hI (3 * i + r) (by omega)).2.1
    have hIσ : ImC L P Y σ := ImC_of (σ := σ0) (fun n => by rw [hF.1 13 (by decide) (by decide) (by decide)]) (hF.1 14 (by decide) (by decide) (by decide)) (hF.1 16 (by decide) (by decide) (by decide)) hI
    have hSt := StOk_at (mk := mk) (by omega) hI k (by omega) hall
    have hmσ : ∀ y, 1 ≤ y → y ≤ 2 → mk y < 16 ∧ σ 13 (3 * i + y) 5 = nI (mk y) := fun y g1 g2 => by rw [hF.1 13 (by decide) (by decide) (by decide)]; exact hm y g1 g2
    refine qa_s (pc' := 43) at_23_41 rfl rfl rfl ?_
    refine qa_s (pc' := 44) at_23_43 rfl rfl rfl ?_
    refine qa_getV (nx := 47) (v := nI (L (3 * i + r))) at_23_44 rfl (by decide) rfl rfl (show _ < 15 by omega) (show _ from e13) ?_
    refine qn_icmp_ge (tg := 81) (nx := 50) at_23_47 rfl rfl (by omega) (by omega) (fun h23_47 => ?_) (fun h23_47 => ?_)
    · omega
    · refine qa_s (pc' := 51) at_23_50 rfl rfl rfl ?_
      refine qa_s (pc' := 52) at_23_51 rfl rfl rfl ?_
      refine qa_s (pc' := 53) at_23_52 rfl rfl rfl ?_
      refine qa_s (pc' := 55) at_23_53 rfl rfl rfl ?_
      refine qa_callV (nx := 58) at_23_55 rfl rfl (Nat.le_of_ble_eq_true rfl) rfl rfl rfl (by decide) rfl (by decide) ?_
      show qa _ 25 0 [(0, .ref _), (1, .ref _), (2, .int _), (3, .int _)] [] _ _
      refine c25_q (mk := mk) hi hr (by omega) hIσ hO hSt hmσ (fun hR σ1 f1 f2 f3 => ?_) (fun w hR hw0 hw9 => ?_)
      · have hall2 : ∀ j, j < k + 1 → ckA L P Y mk i r j = 0 := fun j hj => by by_cases e : j = k; (subst e; exact hR); exact hall j (by omega)
        have ih2 := ih (k + 1) σ1 (by omega) hall2 f1 ⟨fun a g1 g2 g3 => (f2.1 a g1 g2 g3).trans (hF.1 a g1 g2 g3), fun n' hn' => by unfold mtC at f3; rw [f3]; split; (rw [up_i hn', up_i hn']; exact hF.2 n' hn'); exact hF.2 n' hn'⟩ (f2.2.trans h0) (mtAll_s (clOk_of hall2) hM f3)
        show qa _ 23 58 _ [.int _] _ _
        refine qa_s (pc' := 60) at_23_58 rfl rfl rfl ?_
        refine qa_s (pc' := 62) at_23_60 rfl rfl rfl ?_
        refine qn_if_eq (tg := 75) (nx := 65) at_23_62 rfl rfl (by decide) (fun h23_62 => ?_) (fun h => absurd h (by decide))
        refine qa_incN (nx := 78) (c := 1) at_23_75 (by decide) rfl rfl rfl ?_
        refine qa_goto (nx := 41) at_23_78 rfl ?_
        first
          | (show qa _ _ _ [(0, .ref (cl 2 0)), (1, .ref (cl 12 i)), (2, .int (nI r)), (3, .ref (cl 13 (3 * i + r))), (4, .int (nI (k + 1))), (5, .int _)] [] _ _; exact qa_drop (l1 := [(0, .ref (cl 2 0)), (1, .ref (cl 12 i)), (2, .int (nI r)), (3, .ref (cl 13 (3 * i + r))), (4, .int (nI (k + 1)))]) (by intro q hq; simp only [List.mem_cons, List.not_mem_nil, or_false] at hq ⊢; rcases hq with rfl | rfl | rfl | rfl | rfl <;> simp) (by simp [mj_nd]) (ih2))
          | omega
      · show qa _ 23 58 _ [.int _] _ _
        refine qa_s (pc' := 60) at_23_58 rfl rfl rfl ?_
        refine qa_s (pc' := 62) at_23_60 rfl rfl rfl ?_
        refine qn_if_eq (tg := 75) (nx := 65) at_23_62 rfl rfl (by omega) (fun h23_62 => ?_) (fun h23_62 => ?_)
        · refine qa_incN (nx := 78) (c := 1) at_23_75 (by decide) rfl rfl rfl ?_
          refine qa_goto (nx := 41) at_23_78 rfl ?_
          first
            | (show qa _ _ _ [(0, .ref (cl 2 0)), (1, .ref (cl 12 i)), (2, .int (nI r)), (3, .ref (cl 13 (3 * i + r))), (4, .int (nI (k + 1))), (5, .int _)] [] _ _; exact qa_drop (l1 := [(0, .ref (cl 2 0)), (1, .ref (cl 12 i)), (2, .int (nI r)), (3, .ref (cl 13 (3 * i + r))), (4, .int (nI (k + 1)))]) (by intro q hq; simp only [List.mem_cons, List.not_mem_nil, or_false] at hq ⊢; rcases hq with rfl | rfl | rfl | rfl | rfl <;> simp) (by simp [mj_nd]) (ih2))
            | omega
        · refine qa_s (pc' := 66) at_23_65 rfl rfl rfl ?_
          refine qa_s (pc' := 68) at_23_66 rfl rfl rfl ?_
          refine qa_s (pc' := 69) at_23_68 rfl rfl rfl ?_
          refine qa_s (pc' := 71) at_23_69 rfl rfl rfl ?_
          refine qa_callV (nx := 74) at_23_71 rfl rfl (Nat.le_of_ble_eq_true rfl) rfl rfl rfl (by decide) rfl (by decide) ?_
          show qa _ 24 0 [(0, .ref _), (1, .int _), (2, .int _), (3, .int _)] [] _ _
          refine c24_q ?_
          show qa _ 23 74 _ [.int _] _ _
          refine qa_ret at_23_74 rfl ?_
          exact Kb k w _ (by omega) hall (by unfold why; rw [if_pos (by omega)]; exact hR) hw0 hw9 ⟨fun a g1 g2 g3 => by rw [up_k g1]; exact hF.1 a g1 g2 g3, hF.2⟩ rfl
end PQ
