/-! run: the choice of the class -/
section PQ
variable {cst : List (List Int32)} {σ b : sg} {Q : Option Value → sg → Prop} {T : Nat}
theorem c71_q {i j : Nat} (hi : i < 5) (hj : j < 5) (k : Q (some (.int (bi (σ 29 i 3 < σ 29 j 3 ∨ (σ 29 i 3 = σ 29 j 3 ∧ ¬ σ 29 i 1 = 0 ∧ σ 29 j 1 = 0))))) σ) : qa cst 71 0 [(0, .ref (cl 29 i)), (1, .ref (cl 29 j))] [] σ Q := by
  refine qa_s (pc' := 1) at_71_0 rfl rfl rfl ?_
  refine qa_getI (nx := 4) at_71_1 rfl (by decide) rfl rfl (show _ < 5 by omega) ?_
  refine qa_s (pc' := 5) at_71_4 rfl rfl rfl ?_
  refine qa_getI (nx := 8) at_71_5 rfl (by decide) rfl rfl (show _ < 5 by omega) ?_
  refine qa_icmp_lt (tg := 36) (nx := 11) at_71_8 rfl rfl (fun h71_8 => ?_) (fun h71_8 => ?_)
  · refine qa_ic (nx := 37) (v := nI 1) at_71_36 (by decide) rfl ?_
    refine qa_goto (nx := 41) at_71_37 rfl ?_
    refine qa_ret at_71_41 rfl ?_
    exact bi_t1 k (by first | exact Or.inl h71_8 | exact Or.inr ⟨h71_19, h71_26, h71_33⟩)
  · refine qa_s (pc' := 12) at_71_11 rfl rfl rfl ?_
    refine qa_getI (nx := 15) at_71_12 rfl (by decide) rfl rfl (show _ < 5 by omega) ?_
    refine qa_s (pc' := 16) at_71_15 rfl rfl rfl ?_
    refine qa_getI (nx := 19) at_71_16 rfl (by decide) rfl rfl (show _ < 5 by omega) ?_
    refine qa_icmp_ne (tg := 40) (nx := 22) at_71_19 rfl rfl (fun h71_19 => ?_) (fun h71_19 => ?_)
    · refine qa_ic (nx := 41) (v := nI 0) at_71_40 (by decide) rfl ?_
      refine qa_ret at_71_41 rfl ?_
      exact bi_f1 k (fun g => g.elim (fun g => absurd g h71_8) (fun g => by first | exact absurd g.1 h71_19 | exact g.2.1 h71_26 | exact h71_33 g.2.2))
    · refine qa_s (pc' := 23) at_71_22 rfl rfl rfl ?_
      refine qa_getI (nx := 26) at_71_23 rfl (by decide) rfl rfl (show _ < 5 by omega) ?_
      refine qa_if_eq (tg := 40) (nx := 29) at_71_26 rfl rfl (fun h71_26 => ?_) (fun h71_26 => ?_)
      · refine qa_ic (nx := 41) (v := nI 0) at_71_40 (by decide) rfl ?_
        refine qa_ret at_71_41 rfl ?_
        exact bi_f1 k (fun g => g.elim (fun g => absurd g h71_8) (fun g => by first | exact absurd g.1 h71_19 | exact g.2.1 h71_26 | exact h71_33 g.2.2))
      · refine qa_s (pc' := 30) at_71_29 rfl rfl rfl ?_
        refine qa_getI (nx := 33) at_71_30 rfl (by decide) rfl rfl (show _ < 5 by omega) ?_
        refine qa_if_ne (tg := 40) (nx := 36) at_71_33 rfl rfl (fun h71_33 => ?_) (fun h71_33 => ?_)
        · refine qa_ic (nx := 41) (v := nI 0) at_71_40 (by decide) rfl ?_
          refine qa_ret at_71_41 rfl ?_
          exact bi_f1 k (fun g => g.elim (fun g => absurd g h71_8) (fun g => by first | exact absurd g.1 h71_19 | exact g.2.1 h71_26 | exact h71_33 g.2.2))
        · refine qa_ic (nx := 37) (v := nI 1) at_71_36 (by decide) rfl ?_
          refine qa_goto (nx := 41) at_71_37 rfl ?_
          refine qa_ret at_71_41 rfl ?_
          exact bi_t1 k (by first | exact Or.inl h71_8 | exact Or.inr ⟨h71_19, h71_26, h71_33⟩)
theorem act_eq {i : Nat} (hi : i < T) (hR : Rel T (mix σ b)) (h1 : σ 18 0 0 = 1) (ha : σ 29 i 0 = 1) : σ 29 i 3 = actM b i ∧ ∃ h : Nat, h < 16 ∧ b 64 0 i = nI h := by
  have h5 : T ≤ 5 := hR.1.1
  have hN := Rn_of hR h1 5
  have hF := hR.2.2.2.2.1 (hR.1.2.2.2.2.2.2.2.2 h1)
  obtain ⟨h, hh, e4, e3, -⟩ := ((hN.2.2.2.2.2.1 i hi).2.2.2.2.2.2 (by omega) ha).2.2.1
  have e64 : b 64 0 i = σ 29 i 4 := (hN.2.1.2.1 i (by omega)).2.2.2.2.1
  have e4' : σ 29 i 4 = nI h := e4
  refine ⟨?_, h, hh, e64.trans e4'⟩
  unfold actM
  rw [e64, e4', nN_n (by omega)]
  refine (show σ 29 i 3 = _ from e3).trans ?_
  exact (actF_congr 4 (fun s hs => hF.2.1 s hs)).symm
theorem c70_l (hR : Rel T (mix σ b)) (h1 : σ 18 0 0 = 1) (k : Q (some (.int (oI (chM b T)))) σ) : ∀ n i, i + n = T → qa cst 70 4 [(0, .ref (cl 18 0)), (1, .int (oI (chM b i))), (2, .int (nI i))] [] σ Q := by
  have h5 : T ≤ 5 := hR.1.1
  have hN := Rn_of hR h1 5
  have h6 : σ 18 0 6 = nI T := hN.1.2.2.2.2.2.2
  intro n
  induction n with
  | zero =>
    intro i hi
    have e : i = T := by omega
    subst e
    refine qa_s (pc' := 5) at_70_4 rfl rfl rfl ?_
    refine qa_s (pc' := 6) at_70_5 rfl rfl rfl ?_
    refine qa_getV (nx := 9) (v := nI i) at_70_6 rfl (by decide) rfl rfl (by decide) (show _ from h6) ?_
    refine qn_icmp_ge (tg := 58) (nx := 12) at_70_9 rfl rfl (by omega) (by omega) (fun h70_9 => ?_) (fun h70_9 => ?_)
    · refine qa_s (pc' := 59) at_70_58 rfl rfl rfl ?_
      refine qa_ret at_70_59 rfl ?_
      exact k
    · omega
  | succ n ih =>
    intro i hi
    have hiT : i < T := by omega
    have hi5 : i < 5 := by omega
    obtain ⟨-, -, -, -, t0, tb, -⟩ := hN.2.2.2.2.2.1 i hiT
    have t0' : b 58 0 i = σ 29 i 0 := t0
    have tb' : σ 29 i 0 = 0 ∨ σ 29 i 0 = 1 := tb
    have j1 : b 59 0 i = σ 29 i 1 := (hN.2.1.2.1 i hi5).1
    have ih' := ih (i + 1) (by omega)
    have step : qa cst 70 52 [(0, .ref (cl 18 0)), (1, .int (oI (chM b (i + 1)))), (2, .int (nI i)), (3, .ref (cl 29 i))] [] σ Q := by
      refine qa_incN (nx := 55) (c := 1) at_70_52 (by decide) rfl rfl rfl ?_
      refine qa_goto (nx := 4) at_70_55 rfl ?_
      show qa _ _ _ [(0, .ref (cl 18 0)), (1, .int (oI (chM b (i + 1)))), (2, .int (nI (i + 1))), (3, .ref (cl 29 i))] [] _ _
      exact qa_drop (l1 := [(0, .ref (cl 18 0)), (1, .int (oI (chM b (i + 1)))), (2, .int (nI (i + 1)))]) (by intro q hq; simp only [List.mem_cons, List.not_mem_nil, or_false] at hq ⊢; rcases hq with rfl | rfl | rfl <;> simp) (by simp [mj_nd]) ih'
    cases hc : chM b i with
    | none =>
      have e0 : ¬ σ 29 i 0 = 0 → chM b (i + 1) = some i := fun h => by rw [chM, if_neg (by rw [t0']; exact h), hc]
      have e1 : σ 29 i 0 = 0 → chM b (i + 1) = none := fun h => by rw [chM, if_pos (by rw [t0']; exact h), hc]
      refine qa_s (pc' := 5) at_70_4 rfl rfl rfl ?_
      refine qa_s (pc' := 6) at_70_5 rfl rfl rfl ?_
      refine qa_getV (nx := 9) (v := nI T) at_70_6 rfl (by decide) rfl rfl (by decide) (show _ from h6) ?_
      refine qn_icmp_ge (tg := 58) (nx := 12) at_70_9 rfl rfl (by omega) (by omega) (fun h70_9 => ?_) (fun h70_9 => ?_)
      · omega
      · refine qa_s (pc' := 13) at_70_12 rfl rfl rfl ?_
        refine qa_getR (nx := 16) at_70_13 rfl (by decide) rfl rfl (by decide) ?_
        refine qa_s (pc' := 17) at_70_16 rfl rfl rfl ?_
        refine qa_aald (nx := 18) (k := i) at_70_17 (by decide) rfl rfl (by decide) rfl (show i < 5 by omega) ?_
        refine qa_getR (nx := 21) at_70_18 rfl (by decide) rfl rfl (show _ < 5 by omega) ?_
        refine qa_s (pc' := 22) at_70_21 rfl rfl rfl ?_
        refine qa_s (pc' := 23) at_70_22 rfl rfl rfl ?_
        refine qa_getI (nx := 26) at_70_23 rfl (by decide) rfl rfl (show _ < 5 by omega) ?_
        refine qa_if_eq (tg := 52) (nx := 29) at_70_26 rfl rfl (fun h70_26 => ?_) (fun h70_26 => ?_)
        · rw [e1 h70_26] at step
          exact step
        · rw [e0 h70_26] at step
          refine qa_s (pc' := 30) at_70_29 rfl rfl rfl ?_
          refine qa_ic (nx := 31) (v := (-1)) at_70_30 (by decide) rfl ?_
          refine qa_icmp_eq (tg := 50) (nx := 34) at_70_31 rfl rfl (fun h70_31 => ?_) (fun h70_31 => ?_)
          · refine qa_s (pc' := 51) at_70_50 rfl rfl rfl ?_
            refine qa_s (pc' := 52) at_70_51 rfl rfl rfl ?_
            exact step
          · exact absurd rfl h70_31
    | some c =>
      have hc0 := chM_lt hc
      have hcT : c < T := by omega
      have hc5 : c < 5 := by omega
      obtain ⟨-, -, -, -, u0, ub, -⟩ := hN.2.2.2.2.2.1 c hcT
      have ua : σ 29 c 0 = 1 := z1 ub (fun g => hc0.2 ((show b 58 0 c = σ 29 c 0 from u0).trans g))
      have j1c : b 59 0 c = σ 29 c 1 := (hN.2.1.2.1 c hc5).1
      have e1 : σ 29 i 0 = 0 → chM b (i + 1) = some c := fun h => by rw [chM, if_pos (by rw [t0']; exact h), hc]
      have eB : ¬ σ 29 i 0 = 0 → ((σ 29 i 3 < σ 29 c 3 ∨ (σ 29 i 3 = σ 29 c 3 ∧ ¬ σ 29 i 1 = 0 ∧ σ 29 c 1 = 0)) ↔ bestM b i c) := fun h => by
        unfold bestM
        rw [(act_eq hiT hR h1 (z1 tb' h)).1, (act_eq hcT hR h1 ua).1, j1, j1c]
      have e0 : ¬ σ 29 i 0 = 0 → bestM b i c → chM b (i + 1) = some i := fun h g => by rw [chM, if_neg (by rw [t0']; exact h), hc]; exact if_pos g
      have e2 : ¬ σ 29 i 0 = 0 → ¬ bestM b i c → chM b (i + 1) = some c := fun h g => by rw [chM, if_neg (by rw [t0']; exact h), hc]; exact if_neg g
      refine qa_s (pc' := 5) at_70_4 rfl rfl rfl ?_
      refine qa_s (pc' := 6) at_70_5 rfl rfl rfl ?_
      refine qa_getV (nx := 9) (v := nI T) at_70_6 rfl (by decide) rfl rfl (by decide) (show _ from h6) ?_
      refine qn_icmp_ge (tg := 58) (nx := 12) at_70_9 rfl rfl (by omega) (by omega) (fun h70_9 => ?_) (fun h70_9 => ?_)
      · omega
      · refine qa_s (pc' := 13) at_70_12 rfl rfl rfl ?_
        refine qa_getR (nx := 16) at_70_13 rfl (by decide) rfl rfl (by decide) ?_
        refine qa_s (pc' := 17) at_70_16 rfl rfl rfl ?_
        refine qa_aald (nx := 18) (k := i) at_70_17 (by decide) rfl rfl (by decide) rfl (show i < 5 by omega) ?_
        refine qa_getR (nx := 21) at_70_18 rfl (by decide) rfl rfl (show _ < 5 by omega) ?_
        refine qa_s (pc' := 22) at_70_21 rfl rfl rfl ?_
        refine qa_s (pc' := 23) at_70_22 rfl rfl rfl ?_
        refine qa_getI (nx := 26) at_70_23 rfl (by decide) rfl rfl (show _ < 5 by omega) ?_
        refine qa_if_eq (tg := 52) (nx := 29) at_70_26 rfl rfl (fun h70_26 => ?_) (fun h70_26 => ?_)
        · rw [e1 h70_26] at step
          exact step
        · refine qa_s (pc' := 30) at_70_29 rfl rfl rfl ?_
          refine qa_ic (nx := 31) (v := (-1)) at_70_30 (by decide) rfl ?_
          refine qa_icmp_eq (tg := 50) (nx := 34) at_70_31 rfl rfl (fun h70_31 => ?_) (fun h70_31 => ?_)
          · exact absurd h70_31 (m1_ne (by omega))
          · refine qa_s (pc' := 35) at_70_34 rfl rfl rfl ?_
            refine qa_s (pc' := 36) at_70_35 rfl rfl rfl ?_
            refine qa_getR (nx := 39) at_70_36 rfl (by decide) rfl rfl (by decide) ?_
            refine qa_s (pc' := 40) at_70_39 rfl rfl rfl ?_
            refine qa_aald (nx := 41) (k := c) at_70_40 (by decide) rfl rfl (by decide) rfl (show c < 5 by omega) ?_
            refine qa_getR (nx := 44) at_70_41 rfl (by decide) rfl rfl (show _ < 5 by omega) ?_
            refine qa_callV (nx := 47) at_70_44 rfl rfl (Nat.le_of_ble_eq_true rfl) rfl rfl rfl (by decide) rfl (show _ < 5 by omega) ?_
            show qa _ 71 0 [(0, .ref _), (1, .ref _)] [] _ _
            refine c71_q hi5 hc5 ?_
            show qa _ 70 47 _ [.int _] _ _
            refine qa_if_eq (tg := 52) (nx := 50) at_70_47 rfl rfl (fun h70_47 => ?_) (fun h70_47 => ?_)
            · rw [e2 h70_26 (fun g => bi_z h70_47 ((eB h70_26).mpr g))] at step
              exact step
            · rw [e0 h70_26 ((eB h70_26).mp (bi_n h70_47))] at step
              refine qa_s (pc' := 51) at_70_50 rfl rfl rfl ?_
              refine qa_s (pc' := 52) at_70_51 rfl rfl rfl ?_
              exact step
theorem c70_q (hR : Rel T (mix σ b)) (h1 : σ 18 0 0 = 1) (k : Q (some (.int (oI (chM b T)))) σ) : qa cst 70 0 [(0, .ref (cl 18 0))] [] σ Q := by
  refine qa_ic (nx := 1) (v := (-1)) at_70_0 (by decide) rfl ?_
  refine qa_s (pc' := 2) at_70_1 rfl rfl rfl ?_
  refine qa_ic (nx := 3) (v := nI 0) at_70_2 (by decide) rfl ?_
  refine qa_s (pc' := 4) at_70_3 rfl rfl rfl ?_
  exact c70_l hR h1 k T 0 (by omega)
end PQ
