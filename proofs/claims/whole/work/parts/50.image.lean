/-! the fourth call: the images as numbers; jumps -/
section PQ
variable {cst : List (List Int32)} {σ b : sg} {Q : Option Value → sg → Prop} {T n k : Nat} {L : Nat → Nat} {P Y : Nat → Nat → Nat}
/-- op o with number y -/
def okY (o y : Nat) : Prop := (if o = 5 ∨ o = 6 then 1 else 0) ≤ y ∧ y ≤ ([0, 3, 3, 7, 7, 11, 8, 0, 3, 0, 2, 1, 0, 1, 1] : List Nat).getD o 0
def ImC (L : Nat → Nat) (P Y : Nat → Nat → Nat) (σ : sg) : Prop := ∀ n, n < 15 → L n ≤ 12 ∧ σ 13 n 4 = nI (L n) ∧ ∀ k, k < 12 → P n k < 15 ∧ σ 14 n k = nI (P n k) ∧ (P n k ≠ 0 → σ 16 n k = nI (Y n k) ∧ okY (P n k) (Y n k))
def ImM (L : Nat → Nat) (P Y : Nat → Nat → Nat) (σ : sg) : Prop := ∀ n, n < 15 → L n ≤ 12 ∧ σ 48 0 n = nI (L n) ∧ ∀ k, k < 12 → P n k < 15 ∧ σ 44 0 (n * 12 + k) = nI (P n k) ∧ (P n k ≠ 0 → σ 46 0 (n * 12 + k) = nI (Y n k) ∧ okY (P n k) (Y n k))
theorem Im_of (h : RI σ) : ∃ L P Y, ImC L P Y σ ∧ ImM L P Y σ := by
  have key : ∀ n, n < 15 → nN (σ 13 n 4) ≤ 12 ∧ σ 13 n 4 = nI (nN (σ 13 n 4)) ∧ σ 48 0 n = nI (nN (σ 13 n 4)) ∧ ∀ k, k < 12 → nN (σ 14 n k) < 15 ∧ σ 14 n k = nI (nN (σ 14 n k)) ∧ σ 44 0 (n * 12 + k) = nI (nN (σ 14 n k)) ∧ (nN (σ 14 n k) ≠ 0 → σ 16 n k = nI (nN (σ 16 n k)) ∧ σ 46 0 (n * 12 + k) = nI (nN (σ 16 n k)) ∧ okY (nN (σ 14 n k)) (nN (σ 16 n k))) := by
    intro n hn
    obtain ⟨⟨s, hs, e1, e2⟩, h2⟩ := h n hn
    rw [e1, nN_n (by omega)]
    refine ⟨hs, rfl, e2, fun k hk => ?_⟩
    obtain ⟨f1, f2, f3, o, x, ho, eo, hx, ex, -, hy⟩ := h2 k hk
    rw [f1, f3, eo, nN_n (by omega)]
    refine ⟨ho, rfl, rfl, fun h0 => ?_⟩
    obtain ⟨y, ey, g1, g2⟩ := hy.resolve_left h0
    have hb : y < 2 ^ 31 := by
      have : ∀ o, o < 15 → ([0, 3, 3, 7, 7, 11, 8, 0, 3, 0, 2, 1, 0, 1, 1] : List Nat).getD o 0 ≤ 11 := by decide
      have := this o ho
      omega
    rw [ey, nN_n hb]
    exact ⟨rfl, rfl, g1, g2⟩
  exact ⟨fun n => nN (σ 13 n 4), fun n k => nN (σ 14 n k), fun n k => nN (σ 16 n k), fun n hn => ⟨(key n hn).1, (key n hn).2.1, fun k hk => ⟨((key n hn).2.2.2 k hk).1, ((key n hn).2.2.2 k hk).2.1, fun h0 => ⟨(((key n hn).2.2.2 k hk).2.2.2 h0).1, (((key n hn).2.2.2 k hk).2.2.2 h0).2.2⟩⟩⟩, fun n hn => ⟨(key n hn).1, (key n hn).2.2.1, fun k hk => ⟨((key n hn).2.2.2 k hk).1, ((key n hn).2.2.2 k hk).2.2.1, fun h0 => ⟨(((key n hn).2.2.2 k hk).2.2.2 h0).2.1, (((key n hn).2.2.2 k hk).2.2.2 h0).2.2⟩⟩⟩⟩
theorem ImC_of {σ' : sg} (h4 : ∀ n, σ' 13 n 4 = σ 13 n 4) (h14 : σ' 14 = σ 14) (h16 : σ' 16 = σ 16) (h : ImC L P Y σ) : ImC L P Y σ' := by
  unfold ImC at *; simp only [h4, h14, h16]; exact h
theorem ImM_of {σ' : sg} (h48 : σ' 48 = σ 48) (h44 : σ' 44 = σ 44) (h46 : σ' 46 = σ 46) (h : ImM L P Y σ) : ImM L P Y σ' := by
  unfold ImM at *; simp only [h44, h46, h48]; exact h
/-- m instructions from place q on, at level l, leave level 0 and never go below 0 -/
def jmp (p : Nat → Nat) : Nat → Nat → Nat → Bool
  | 0, _, l => l == 0
  | m + 1, q, l => if p q = 6 ∨ p q = 8 then jmp p m (q + 1) (l + 1) else if p q = 7 ∨ p q = 9 then (if l = 0 then false else jmp p m (q + 1) (l - 1)) else jmp p m (q + 1) l
/-- what an operation does to the level -/
def trn (o : Nat) : Int32 := if o = 6 ∨ o = 8 then nI 1 else if o = 7 ∨ o = 9 then -1 else nI 0
theorem c34_q {o : Nat} (ho : o < 15) (k : Q (some (.int (trn o))) σ) : qa cst 34 0 [(0, .int (nI o))] [] σ Q := by
  have hoc : o = 0 ∨ o = 1 ∨ o = 2 ∨ o = 3 ∨ o = 4 ∨ o = 5 ∨ o = 6 ∨ o = 7 ∨ o = 8 ∨ o = 9 ∨ o = 10 ∨ o = 11 ∨ o = 12 ∨ o = 13 ∨ o = 14 := by omega
  rcases hoc with rfl | rfl | rfl | rfl | rfl | rfl | rfl | rfl | rfl | rfl | rfl | rfl | rfl | rfl | rfl
  · refine qa_s (pc' := 1) at_34_0 rfl rfl rfl ?_
    refine qa_bi (nx := 3) (v := nI 6) at_34_1 (by decide) rfl ?_
    refine qn_icmp_eq (tg := 12) (nx := 6) at_34_3 rfl rfl (by decide) (by decide) (fun h => absurd h (by decide)) (fun h34_3 => ?_)
    refine qa_s (pc' := 7) at_34_6 rfl rfl rfl ?_
    refine qa_bi (nx := 9) (v := nI 8) at_34_7 (by decide) rfl ?_
    refine qn_icmp_ne (tg := 14) (nx := 12) at_34_9 rfl rfl (by decide) (by decide) (fun h34_9 => ?_) (fun h => absurd h (by decide))
    refine qa_s (pc' := 15) at_34_14 rfl rfl rfl ?_
    refine qa_bi (nx := 17) (v := nI 7) at_34_15 (by decide) rfl ?_
    refine qn_icmp_eq (tg := 26) (nx := 20) at_34_17 rfl rfl (by decide) (by decide) (fun h => absurd h (by decide)) (fun h34_17 => ?_)
    refine qa_s (pc' := 21) at_34_20 rfl rfl rfl ?_
    refine qa_bi (nx := 23) (v := nI 9) at_34_21 (by decide) rfl ?_
    refine qn_icmp_ne (tg := 30) (nx := 26) at_34_23 rfl rfl (by decide) (by decide) (fun h34_23 => ?_) (fun h => absurd h (by decide))
    refine qa_ic (nx := 31) (v := nI 0) at_34_30 (by decide) rfl ?_
    refine qa_ret at_34_31 rfl ?_
    exact k
  · refine qa_s (pc' := 1) at_34_0 rfl rfl rfl ?_
    refine qa_bi (nx := 3) (v := nI 6) at_34_1 (by decide) rfl ?_
    refine qn_icmp_eq (tg := 12) (nx := 6) at_34_3 rfl rfl (by decide) (by decide) (fun h => absurd h (by decide)) (fun h34_3 => ?_)
    refine qa_s (pc' := 7) at_34_6 rfl rfl rfl ?_
    refine qa_bi (nx := 9) (v := nI 8) at_34_7 (by decide) rfl ?_
    refine qn_icmp_ne (tg := 14) (nx := 12) at_34_9 rfl rfl (by decide) (by decide) (fun h34_9 => ?_) (fun h => absurd h (by decide))
    refine qa_s (pc' := 15) at_34_14 rfl rfl rfl ?_
    refine qa_bi (nx := 17) (v := nI 7) at_34_15 (by decide) rfl ?_
    refine qn_icmp_eq (tg := 26) (nx := 20) at_34_17 rfl rfl (by decide) (by decide) (fun h => absurd h (by decide)) (fun h34_17 => ?_)
    refine qa_s (pc' := 21) at_34_20 rfl rfl rfl ?_
    refine qa_bi (nx := 23) (v := nI 9) at_34_21 (by decide) rfl ?_
    refine qn_icmp_ne (tg := 30) (nx := 26) at_34_23 rfl rfl (by decide) (by decide) (fun h34_23 => ?_) (fun h => absurd h (by decide))
    refine qa_ic (nx := 31) (v := nI 0) at_34_30 (by decide) rfl ?_
    refine qa_ret at_34_31 rfl ?_
    exact k
  · refine qa_s (pc' := 1) at_34_0 rfl rfl rfl ?_
    refine qa_bi (nx := 3) (v := nI 6) at_34_1 (by decide) rfl ?_
    refine qn_icmp_eq (tg := 12) (nx := 6) at_34_3 rfl rfl (by decide) (by decide) (fun h => absurd h (by decide)) (fun h34_3 => ?_)
    refine qa_s (pc' := 7) at_34_6 rfl rfl rfl ?_
    refine qa_bi (nx := 9) (v := nI 8) at_34_7 (by decide) rfl ?_
    refine qn_icmp_ne (tg := 14) (nx := 12) at_34_9 rfl rfl (by decide) (by decide) (fun h34_9 => ?_) (fun h => absurd h (by decide))
    refine qa_s (pc' := 15) at_34_14 rfl rfl rfl ?_
    refine qa_bi (nx := 17) (v := nI 7) at_34_15 (by decide) rfl ?_
    refine qn_icmp_eq (tg := 26) (nx := 20) at_34_17 rfl rfl (by decide) (by decide) (fun h => absurd h (by decide)) (fun h34_17 => ?_)
    refine qa_s (pc' := 21) at_34_20 rfl rfl rfl ?_
    refine qa_bi (nx := 23) (v := nI 9) at_34_21 (by decide) rfl ?_
    refine qn_icmp_ne (tg := 30) (nx := 26) at_34_23 rfl rfl (by decide) (by decide) (fun h34_23 => ?_) (fun h => absurd h (by decide))
    refine qa_ic (nx := 31) (v := nI 0) at_34_30 (by decide) rfl ?_
    refine qa_ret at_34_31 rfl ?_
    exact k
  · refine qa_s (pc' := 1) at_34_0 rfl rfl rfl ?_
    refine qa_bi (nx := 3) (v := nI 6) at_34_1 (by decide) rfl ?_
    refine qn_icmp_eq (tg := 12) (nx := 6) at_34_3 rfl rfl (by decide) (by decide) (fun h => absurd h (by decide)) (fun h34_3 => ?_)
    refine qa_s (pc' := 7) at_34_6 rfl rfl rfl ?_
    refine qa_bi (nx := 9) (v := nI 8) at_34_7 (by decide) rfl ?_
    refine qn_icmp_ne (tg := 14) (nx := 12) at_34_9 rfl rfl (by decide) (by decide) (fun h34_9 => ?_) (fun h => absurd h (by decide))
    refine qa_s (pc' := 15) at_34_14 rfl rfl rfl ?_
    refine qa_bi (nx := 17) (v := nI 7) at_34_15 (by decide) rfl ?_
    refine qn_icmp_eq (tg := 26) (nx := 20) at_34_17 rfl rfl (by decide) (by decide) (fun h => absurd h (by decide)) (fun h34_17 => ?_)
    refine qa_s (pc' := 21) at_34_20 rfl rfl rfl ?_
    refine qa_bi (nx := 23) (v := nI 9) at_34_21 (by decide) rfl ?_
    refine qn_icmp_ne (tg := 30) (nx := 26) at_34_23 rfl rfl (by decide) (by decide) (fun h34_23 => ?_) (fun h => absurd h (by decide))
    refine qa_ic (nx := 31) (v := nI 0) at_34_30 (by decide) rfl ?_
    refine qa_ret at_34_31 rfl ?_
    exact k
  · refine qa_s (pc' := 1) at_34_0 rfl rfl rfl ?_
    refine qa_bi (nx := 3) (v := nI 6) at_34_1 (by decide) rfl ?_
    refine qn_icmp_eq (tg := 12) (nx := 6) at_34_3 rfl rfl (by decide) (by decide) (fun h => absurd h (by decide)) (fun h34_3 => ?_)
    refine qa_s (pc' := 7) at_34_6 rfl rfl rfl ?_
    refine qa_bi (nx := 9) (v := nI 8) at_34_7 (by decide) rfl ?_
    refine qn_icmp_ne (tg := 14) (nx := 12) at_34_9 rfl rfl (by decide) (by decide) (fun h34_9 => ?_) (fun h => absurd h (by decide))
    refine qa_s (pc' := 15) at_34_14 rfl rfl rfl ?_
    refine qa_bi (nx := 17) (v := nI 7) at_34_15 (by decide) rfl ?_
    refine qn_icmp_eq (tg := 26) (nx := 20) at_34_17 rfl rfl (by decide) (by decide) (fun h => absurd h (by decide)) (fun h34_17 => ?_)
    refine qa_s (pc' := 21) at_34_20 rfl rfl rfl ?_
    refine qa_bi (nx := 23) (v := nI 9) at_34_21 (by decide) rfl ?_
    refine qn_icmp_ne (tg := 30) (nx := 26) at_34_23 rfl rfl (by decide) (by decide) (fun h34_23 => ?_) (fun h => absurd h (by decide))
    refine qa_ic (nx := 31) (v := nI 0) at_34_30 (by decide) rfl ?_
    refine qa_ret at_34_31 rfl ?_
    exact k
  · refine qa_s (pc' := 1) at_34_0 rfl rfl rfl ?_
    refine qa_bi (nx := 3) (v := nI 6) at_34_1 (by decide) rfl ?_
    refine qn_icmp_eq (tg := 12) (nx := 6) at_34_3 rfl rfl (by decide) (by decide) (fun h => absurd h (by decide)) (fun h34_3 => ?_)
    refine qa_s (pc' := 7) at_34_6 rfl rfl rfl ?_
    refine qa_bi (nx := 9) (v := nI 8) at_34_7 (by decide) rfl ?_
    refine qn_icmp_ne (tg := 14) (nx := 12) at_34_9 rfl rfl (by decide) (by decide) (fun h34_9 => ?_) (fun h => absurd h (by decide))
    refine qa_s (pc' := 15) at_34_14 rfl rfl rfl ?_
    refine qa_bi (nx := 17) (v := nI 7) at_34_15 (by decide) rfl ?_
    refine qn_icmp_eq (tg := 26) (nx := 20) at_34_17 rfl rfl (by decide) (by decide) (fun h => absurd h (by decide)) (fun h34_17 => ?_)
    refine qa_s (pc' := 21) at_34_20 rfl rfl rfl ?_
    refine qa_bi (nx := 23) (v := nI 9) at_34_21 (by decide) rfl ?_
    refine qn_icmp_ne (tg := 30) (nx := 26) at_34_23 rfl rfl (by decide) (by decide) (fun h34_23 => ?_) (fun h => absurd h (by decide))
    refine qa_ic (nx := 31) (v := nI 0) at_34_30 (by decide) rfl ?_
    refine qa_ret at_34_31 rfl ?_
    exact k
  · refine qa_s (pc' := 1) at_34_0 rfl rfl rfl ?_
    refine qa_bi (nx := 3) (v := nI 6) at_34_1 (by decide) rfl ?_
    refine qn_icmp_eq (tg := 12) (nx := 6) at_34_3 rfl rfl (by decide) (by decide) (fun h34_3 => ?_) (fun h => absurd h (by decide))
    refine qa_ic (nx := 13) (v := nI 1) at_34_12 (by decide) rfl ?_
    refine qa_ret at_34_13 rfl ?_
    exact k
  · refine qa_s (pc' := 1) at_34_0 rfl rfl rfl ?_
    refine qa_bi (nx := 3) (v := nI 6) at_34_1 (by decide) rfl ?_
    refine qn_icmp_eq (tg := 12) (nx := 6) at_34_3 rfl rfl (by decide) (by decide) (fun h => absurd h (by decide)) (fun h34_3 => ?_)
    refine qa_s (pc' := 7) at_34_6 rfl rfl rfl ?_
    refine qa_bi (nx := 9) (v := nI 8) at_34_7 (by decide) rfl ?_
    refine qn_icmp_ne (tg := 14) (nx := 12) at_34_9 rfl rfl (by decide) (by decide) (fun h34_9 => ?_) (fun h => absurd h (by decide))
    refine qa_s (pc' := 15) at_34_14 rfl rfl rfl ?_
    refine qa_bi (nx := 17) (v := nI 7) at_34_15 (by decide) rfl ?_
    refine qn_icmp_eq (tg := 26) (nx := 20) at_34_17 rfl rfl (by decide) (by decide) (fun h34_17 => ?_) (fun h => absurd h (by decide))
    refine qa_ic (nx := 27) (v := (-1)) at_34_26 (by decide) rfl ?_
    refine qa_goto (nx := 31) at_34_27 rfl ?_
    refine qa_ret at_34_31 rfl ?_
    exact k
  · refine qa_s (pc' := 1) at_34_0 rfl rfl rfl ?_
    refine qa_bi (nx := 3) (v := nI 6) at_34_1 (by decide) rfl ?_
    refine qn_icmp_eq (tg := 12) (nx := 6) at_34_3 rfl rfl (by decide) (by decide) (fun h => absurd h (by decide)) (fun h34_3 => ?_)
    refine qa_s (pc' := 7) at_34_6 rfl rfl rfl ?_
    refine qa_bi (nx := 9) (v := nI 8) at_34_7 (by decide) rfl ?_
    refine qn_icmp_ne (tg := 14) (nx := 12) at_34_9 rfl rfl (by decide) (by decide) (fun h => absurd h (by decide)) (fun h34_9 => ?_)
    refine qa_ic (nx := 13) (v := nI 1) at_34_12 (by decide) rfl ?_
    refine qa_ret at_34_13 rfl ?_
    exact k
  · refine qa_s (pc' := 1) at_34_0 rfl rfl rfl ?_
    refine qa_bi (nx := 3) (v := nI 6) at_34_1 (by decide) rfl ?_
    refine qn_icmp_eq (tg := 12) (nx := 6) at_34_3 rfl rfl (by decide) (by decide) (fun h => absurd h (by decide)) (fun h34_3 => ?_)
    refine qa_s (pc' := 7) at_34_6 rfl rfl rfl ?_
    refine qa_bi (nx := 9) (v := nI 8) at_34_7 (by decide) rfl ?_
    refine qn_icmp_ne (tg := 14) (nx := 12) at_34_9 rfl rfl (by decide) (by decide) (fun h34_9 => ?_) (fun h => absurd h (by decide))
    refine qa_s (pc' := 15) at_34_14 rfl rfl rfl ?_
    refine qa_bi (nx := 17) (v := nI 7) at_34_15 (by decide) rfl ?_
    refine qn_icmp_eq (tg := 26) (nx := 20) at_34_17 rfl rfl (by decide) (by decide) (fun h => absurd h (by decide)) (fun h34_17 => ?_)
    refine qa_s (pc' := 21) at_34_20 rfl rfl rfl ?_
    refine qa_bi (nx := 23) (v := nI 9) at_34_21 (by decide) rfl ?_
    refine qn_icmp_ne (tg := 30) (nx := 26) at_34_23 rfl rfl (by decide) (by decide) (fun h => absurd h (by decide)) (fun h34_23 => ?_)
    refine qa_ic (nx := 27) (v := (-1)) at_34_26 (by decide) rfl ?_
    refine qa_goto (nx := 31) at_34_27 rfl ?_
    refine qa_ret at_34_31 rfl ?_
    exact k
  · refine qa_s (pc' := 1) at_34_0 rfl rfl rfl ?_
    refine qa_bi (nx := 3) (v := nI 6) at_34_1 (by decide) rfl ?_
    refine qn_icmp_eq (tg := 12) (nx := 6) at_34_3 rfl rfl (by decide) (by decide) (fun h => absurd h (by decide)) (fun h34_3 => ?_)
    refine qa_s (pc' := 7) at_34_6 rfl rfl rfl ?_
    refine qa_bi (nx := 9) (v := nI 8) at_34_7 (by decide) rfl ?_
    refine qn_icmp_ne (tg := 14) (nx := 12) at_34_9 rfl rfl (by decide) (by decide) (fun h34_9 => ?_) (fun h => absurd h (by decide))
    refine qa_s (pc' := 15) at_34_14 rfl rfl rfl ?_
    refine qa_bi (nx := 17) (v := nI 7) at_34_15 (by decide) rfl ?_
    refine qn_icmp_eq (tg := 26) (nx := 20) at_34_17 rfl rfl (by decide) (by decide) (fun h => absurd h (by decide)) (fun h34_17 => ?_)
    refine qa_s (pc' := 21) at_34_20 rfl rfl rfl ?_
    refine qa_bi (nx := 23) (v := nI 9) at_34_21 (by decide) rfl ?_
    refine qn_icmp_ne (tg := 30) (nx := 26) at_34_23 rfl rfl (by decide) (by decide) (fun h34_23 => ?_) (fun h => absurd h (by decide))
    refine qa_ic (nx := 31) (v := nI 0) at_34_30 (by decide) rfl ?_
    refine qa_ret at_34_31 rfl ?_
    exact k
  · refine qa_s (pc' := 1) at_34_0 rfl rfl rfl ?_
    refine qa_bi (nx := 3) (v := nI 6) at_34_1 (by decide) rfl ?_
    refine qn_icmp_eq (tg := 12) (nx := 6) at_34_3 rfl rfl (by decide) (by decide) (fun h => absurd h (by decide)) (fun h34_3 => ?_)
    refine qa_s (pc' := 7) at_34_6 rfl rfl rfl ?_
    refine qa_bi (nx := 9) (v := nI 8) at_34_7 (by decide) rfl ?_
    refine qn_icmp_ne (tg := 14) (nx := 12) at_34_9 rfl rfl (by decide) (by decide) (fun h34_9 => ?_) (fun h => absurd h (by decide))
    refine qa_s (pc' := 15) at_34_14 rfl rfl rfl ?_
    refine qa_bi (nx := 17) (v := nI 7) at_34_15 (by decide) rfl ?_
    refine qn_icmp_eq (tg := 26) (nx := 20) at_34_17 rfl rfl (by decide) (by decide) (fun h => absurd h (by decide)) (fun h34_17 => ?_)
    refine qa_s (pc' := 21) at_34_20 rfl rfl rfl ?_
    refine qa_bi (nx := 23) (v := nI 9) at_34_21 (by decide) rfl ?_
    refine qn_icmp_ne (tg := 30) (nx := 26) at_34_23 rfl rfl (by decide) (by decide) (fun h34_23 => ?_) (fun h => absurd h (by decide))
    refine qa_ic (nx := 31) (v := nI 0) at_34_30 (by decide) rfl ?_
    refine qa_ret at_34_31 rfl ?_
    exact k
  · refine qa_s (pc' := 1) at_34_0 rfl rfl rfl ?_
    refine qa_bi (nx := 3) (v := nI 6) at_34_1 (by decide) rfl ?_
    refine qn_icmp_eq (tg := 12) (nx := 6) at_34_3 rfl rfl (by decide) (by decide) (fun h => absurd h (by decide)) (fun h34_3 => ?_)
    refine qa_s (pc' := 7) at_34_6 rfl rfl rfl ?_
    refine qa_bi (nx := 9) (v := nI 8) at_34_7 (by decide) rfl ?_
    refine qn_icmp_ne (tg := 14) (nx := 12) at_34_9 rfl rfl (by decide) (by decide) (fun h34_9 => ?_) (fun h => absurd h (by decide))
    refine qa_s (pc' := 15) at_34_14 rfl rfl rfl ?_
    refine qa_bi (nx := 17) (v := nI 7) at_34_15 (by decide) rfl ?_
    refine qn_icmp_eq (tg := 26) (nx := 20) at_34_17 rfl rfl (by decide) (by decide) (fun h => absurd h (by decide)) (fun h34_17 => ?_)
    refine qa_s (pc' := 21) at_34_20 rfl rfl rfl ?_
    refine qa_bi (nx := 23) (v := nI 9) at_34_21 (by decide) rfl ?_
    refine qn_icmp_ne (tg := 30) (nx := 26) at_34_23 rfl rfl (by decide) (by decide) (fun h34_23 => ?_) (fun h => absurd h (by decide))
    refine qa_ic (nx := 31) (v := nI 0) at_34_30 (by decide) rfl ?_
    refine qa_ret at_34_31 rfl ?_
    exact k
  · refine qa_s (pc' := 1) at_34_0 rfl rfl rfl ?_
    refine qa_bi (nx := 3) (v := nI 6) at_34_1 (by decide) rfl ?_
    refine qn_icmp_eq (tg := 12) (nx := 6) at_34_3 rfl rfl (by decide) (by decide) (fun h => absurd h (by decide)) (fun h34_3 => ?_)
    refine qa_s (pc' := 7) at_34_6 rfl rfl rfl ?_
    refine qa_bi (nx := 9) (v := nI 8) at_34_7 (by decide) rfl ?_
    refine qn_icmp_ne (tg := 14) (nx := 12) at_34_9 rfl rfl (by decide) (by decide) (fun h34_9 => ?_) (fun h => absurd h (by decide))
    refine qa_s (pc' := 15) at_34_14 rfl rfl rfl ?_
    refine qa_bi (nx := 17) (v := nI 7) at_34_15 (by decide) rfl ?_
    refine qn_icmp_eq (tg := 26) (nx := 20) at_34_17 rfl rfl (by decide) (by decide) (fun h => absurd h (by decide)) (fun h34_17 => ?_)
    refine qa_s (pc' := 21) at_34_20 rfl rfl rfl ?_
    refine qa_bi (nx := 23) (v := nI 9) at_34_21 (by decide) rfl ?_
    refine qn_icmp_ne (tg := 30) (nx := 26) at_34_23 rfl rfl (by decide) (by decide) (fun h34_23 => ?_) (fun h => absurd h (by decide))
    refine qa_ic (nx := 31) (v := nI 0) at_34_30 (by decide) rfl ?_
    refine qa_ret at_34_31 rfl ?_
    exact k
  · refine qa_s (pc' := 1) at_34_0 rfl rfl rfl ?_
    refine qa_bi (nx := 3) (v := nI 6) at_34_1 (by decide) rfl ?_
    refine qn_icmp_eq (tg := 12) (nx := 6) at_34_3 rfl rfl (by decide) (by decide) (fun h => absurd h (by decide)) (fun h34_3 => ?_)
    refine qa_s (pc' := 7) at_34_6 rfl rfl rfl ?_
    refine qa_bi (nx := 9) (v := nI 8) at_34_7 (by decide) rfl ?_
    refine qn_icmp_ne (tg := 14) (nx := 12) at_34_9 rfl rfl (by decide) (by decide) (fun h34_9 => ?_) (fun h => absurd h (by decide))
    refine qa_s (pc' := 15) at_34_14 rfl rfl rfl ?_
    refine qa_bi (nx := 17) (v := nI 7) at_34_15 (by decide) rfl ?_
    refine qn_icmp_eq (tg := 26) (nx := 20) at_34_17 rfl rfl (by decide) (by decide) (fun h => absurd h (by decide)) (fun h34_17 => ?_)
    refine qa_s (pc' := 21) at_34_20 rfl rfl rfl ?_
    refine qa_bi (nx := 23) (v := nI 9) at_34_21 (by decide) rfl ?_
    refine qn_icmp_ne (tg := 30) (nx := 26) at_34_23 rfl rfl (by decide) (by decide) (fun h34_23 => ?_) (fun h => absurd h (by decide))
    refine qa_ic (nx := 31) (v := nI 0) at_34_30 (by decide) rfl ?_
    refine qa_ret at_34_31 rfl ?_
    exact k
theorem c113_q {o : Nat} (ho : o < 15) (k : Q (some (.int (trn o))) σ) : qa cst 113 0 [(0, .int (nI o))] [] σ Q := by
  have hoc : o = 0 ∨ o = 1 ∨ o = 2 ∨ o = 3 ∨ o = 4 ∨ o = 5 ∨ o = 6 ∨ o = 7 ∨ o = 8 ∨ o = 9 ∨ o = 10 ∨ o = 11 ∨ o = 12 ∨ o = 13 ∨ o = 14 := by omega
  rcases hoc with rfl | rfl | rfl | rfl | rfl | rfl | rfl | rfl | rfl | rfl | rfl | rfl | rfl | rfl | rfl
  · refine qa_s (pc' := 1) at_113_0 rfl rfl rfl ?_
    refine qa_bi (nx := 3) (v := nI 6) at_113_1 (by decide) rfl ?_
    refine qn_icmp_eq (tg := 12) (nx := 6) at_113_3 rfl rfl (by decide) (by decide) (fun h => absurd h (by decide)) (fun h113_3 => ?_)
    refine qa_s (pc' := 7) at_113_6 rfl rfl rfl ?_
    refine qa_bi (nx := 9) (v := nI 8) at_113_7 (by decide) rfl ?_
    refine qn_icmp_ne (tg := 16) (nx := 12) at_113_9 rfl rfl (by decide) (by decide) (fun h113_9 => ?_) (fun h => absurd h (by decide))
    refine qa_s (pc' := 17) at_113_16 rfl rfl rfl ?_
    refine qa_bi (nx := 19) (v := nI 7) at_113_17 (by decide) rfl ?_
    refine qn_icmp_eq (tg := 28) (nx := 22) at_113_19 rfl rfl (by decide) (by decide) (fun h => absurd h (by decide)) (fun h113_19 => ?_)
    refine qa_s (pc' := 23) at_113_22 rfl rfl rfl ?_
    refine qa_bi (nx := 25) (v := nI 9) at_113_23 (by decide) rfl ?_
    refine qn_icmp_ne (tg := 32) (nx := 28) at_113_25 rfl rfl (by decide) (by decide) (fun h113_25 => ?_) (fun h => absurd h (by decide))
    refine qa_ic (nx := 33) (v := nI 0) at_113_32 (by decide) rfl ?_
    refine qa_ret at_113_33 rfl ?_
    exact k
  · refine qa_s (pc' := 1) at_113_0 rfl rfl rfl ?_
    refine qa_bi (nx := 3) (v := nI 6) at_113_1 (by decide) rfl ?_
    refine qn_icmp_eq (tg := 12) (nx := 6) at_113_3 rfl rfl (by decide) (by decide) (fun h => absurd h (by decide)) (fun h113_3 => ?_)
    refine qa_s (pc' := 7) at_113_6 rfl rfl rfl ?_
    refine qa_bi (nx := 9) (v := nI 8) at_113_7 (by decide) rfl ?_
    refine qn_icmp_ne (tg := 16) (nx := 12) at_113_9 rfl rfl (by decide) (by decide) (fun h113_9 => ?_) (fun h => absurd h (by decide))
    refine qa_s (pc' := 17) at_113_16 rfl rfl rfl ?_
    refine qa_bi (nx := 19) (v := nI 7) at_113_17 (by decide) rfl ?_
    refine qn_icmp_eq (tg := 28) (nx := 22) at_113_19 rfl rfl (by decide) (by decide) (fun h => absurd h (by decide)) (fun h113_19 => ?_)
    refine qa_s (pc' := 23) at_113_22 rfl rfl rfl ?_
    refine qa_bi (nx := 25) (v := nI 9) at_113_23 (by decide) rfl ?_
    refine qn_icmp_ne (tg := 32) (nx := 28) at_113_25 rfl rfl (by decide) (by decide) (fun h113_25 => ?_) (fun h => absurd h (by decide))
    refine qa_ic (nx := 33) (v := nI 0) at_113_32 (by decide) rfl ?_
    refine qa_ret at_113_33 rfl ?_
    exact k
  · refine qa_s (pc' := 1) at_113_0 rfl rfl rfl ?_
    refine qa_bi (nx := 3) (v := nI 6) at_113_1 (by decide) rfl ?_
    refine qn_icmp_eq (tg := 12) (nx := 6) at_113_3 rfl rfl (by decide) (by decide) (fun h => absurd h (by decide)) (fun h113_3 => ?_)
    refine qa_s (pc' := 7) at_113_6 rfl rfl rfl ?_
    refine qa_bi (nx := 9) (v := nI 8) at_113_7 (by decide) rfl ?_
    refine qn_icmp_ne (tg := 16) (nx := 12) at_113_9 rfl rfl (by decide) (by decide) (fun h113_9 => ?_) (fun h => absurd h (by decide))
    refine qa_s (pc' := 17) at_113_16 rfl rfl rfl ?_
    refine qa_bi (nx := 19) (v := nI 7) at_113_17 (by decide) rfl ?_
    refine qn_icmp_eq (tg := 28) (nx := 22) at_113_19 rfl rfl (by decide) (by decide) (fun h => absurd h (by decide)) (fun h113_19 => ?_)
    refine qa_s (pc' := 23) at_113_22 rfl rfl rfl ?_
    refine qa_bi (nx := 25) (v := nI 9) at_113_23 (by decide) rfl ?_
    refine qn_icmp_ne (tg := 32) (nx := 28) at_113_25 rfl rfl (by decide) (by decide) (fun h113_25 => ?_) (fun h => absurd h (by decide))
    refine qa_ic (nx := 33) (v := nI 0) at_113_32 (by decide) rfl ?_
    refine qa_ret at_113_33 rfl ?_
    exact k
  · refine qa_s (pc' := 1) at_113_0 rfl rfl rfl ?_
    refine qa_bi (nx := 3) (v := nI 6) at_113_1 (by decide) rfl ?_
    refine qn_icmp_eq (tg := 12) (nx := 6) at_113_3 rfl rfl (by decide) (by decide) (fun h => absurd h (by decide)) (fun h113_3 => ?_)
    refine qa_s (pc' := 7) at_113_6 rfl rfl rfl ?_
    refine qa_bi (nx := 9) (v := nI 8) at_113_7 (by decide) rfl ?_
    refine qn_icmp_ne (tg := 16) (nx := 12) at_113_9 rfl rfl (by decide) (by decide) (fun h113_9 => ?_) (fun h => absurd h (by decide))
    refine qa_s (pc' := 17) at_113_16 rfl rfl rfl ?_
    refine qa_bi (nx := 19) (v := nI 7) at_113_17 (by decide) rfl ?_
    refine qn_icmp_eq (tg := 28) (nx := 22) at_113_19 rfl rfl (by decide) (by decide) (fun h => absurd h (by decide)) (fun h113_19 => ?_)
    refine qa_s (pc' := 23) at_113_22 rfl rfl rfl ?_
    refine qa_bi (nx := 25) (v := nI 9) at_113_23 (by decide) rfl ?_
    refine qn_icmp_ne (tg := 32) (nx := 28) at_113_25 rfl rfl (by decide) (by decide) (fun h113_25 => ?_) (fun h => absurd h (by decide))
    refine qa_ic (nx := 33) (v := nI 0) at_113_32 (by decide) rfl ?_
    refine qa_ret at_113_33 rfl ?_
    exact k
  · refine qa_s (pc' := 1) at_113_0 rfl rfl rfl ?_
    refine qa_bi (nx := 3) (v := nI 6) at_113_1 (by decide) rfl ?_
    refine qn_icmp_eq (tg := 12) (nx := 6) at_113_3 rfl rfl (by decide) (by decide) (fun h => absurd h (by decide)) (fun h113_3 => ?_)
    refine qa_s (pc' := 7) at_113_6 rfl rfl rfl ?_
    refine qa_bi (nx := 9) (v := nI 8) at_113_7 (by decide) rfl ?_
    refine qn_icmp_ne (tg := 16) (nx := 12) at_113_9 rfl rfl (by decide) (by decide) (fun h113_9 => ?_) (fun h => absurd h (by decide))
    refine qa_s (pc' := 17) at_113_16 rfl rfl rfl ?_
    refine qa_bi (nx := 19) (v := nI 7) at_113_17 (by decide) rfl ?_
    refine qn_icmp_eq (tg := 28) (nx := 22) at_113_19 rfl rfl (by decide) (by decide) (fun h => absurd h (by decide)) (fun h113_19 => ?_)
    refine qa_s (pc' := 23) at_113_22 rfl rfl rfl ?_
    refine qa_bi (nx := 25) (v := nI 9) at_113_23 (by decide) rfl ?_
    refine qn_icmp_ne (tg := 32) (nx := 28) at_113_25 rfl rfl (by decide) (by decide) (fun h113_25 => ?_) (fun h => absurd h (by decide))
    refine qa_ic (nx := 33) (v := nI 0) at_113_32 (by decide) rfl ?_
    refine qa_ret at_113_33 rfl ?_
    exact k
  · refine qa_s (pc' := 1) at_113_0 rfl rfl rfl ?_
    refine qa_bi (nx := 3) (v := nI 6) at_113_1 (by decide) rfl ?_
    refine qn_icmp_eq (tg := 12) (nx := 6) at_113_3 rfl rfl (by decide) (by decide) (fun h => absurd h (by decide)) (fun h113_3 => ?_)
    refine qa_s (pc' := 7) at_113_6 rfl rfl rfl ?_
    refine qa_bi (nx := 9) (v := nI 8) at_113_7 (by decide) rfl ?_
    refine qn_icmp_ne (tg := 16) (nx := 12) at_113_9 rfl rfl (by decide) (by decide) (fun h113_9 => ?_) (fun h => absurd h (by decide))
    refine qa_s (pc' := 17) at_113_16 rfl rfl rfl ?_
    refine qa_bi (nx := 19) (v := nI 7) at_113_17 (by decide) rfl ?_
    refine qn_icmp_eq (tg := 28) (nx := 22) at_113_19 rfl rfl (by decide) (by decide) (fun h => absurd h (by decide)) (fun h113_19 => ?_)
    refine qa_s (pc' := 23) at_113_22 rfl rfl rfl ?_
    refine qa_bi (nx := 25) (v := nI 9) at_113_23 (by decide) rfl ?_
    refine qn_icmp_ne (tg := 32) (nx := 28) at_113_25 rfl rfl (by decide) (by decide) (fun h113_25 => ?_) (fun h => absurd h (by decide))
    refine qa_ic (nx := 33) (v := nI 0) at_113_32 (by decide) rfl ?_
    refine qa_ret at_113_33 rfl ?_
    exact k
  · refine qa_s (pc' := 1) at_113_0 rfl rfl rfl ?_
    refine qa_bi (nx := 3) (v := nI 6) at_113_1 (by decide) rfl ?_
    refine qn_icmp_eq (tg := 12) (nx := 6) at_113_3 rfl rfl (by decide) (by decide) (fun h113_3 => ?_) (fun h => absurd h (by decide))
    refine qa_ic (nx := 13) (v := nI 1) at_113_12 (by decide) rfl ?_
    refine qa_goto (nx := 33) at_113_13 rfl ?_
    refine qa_ret at_113_33 rfl ?_
    exact k
  · refine qa_s (pc' := 1) at_113_0 rfl rfl rfl ?_
    refine qa_bi (nx := 3) (v := nI 6) at_113_1 (by decide) rfl ?_
    refine qn_icmp_eq (tg := 12) (nx := 6) at_113_3 rfl rfl (by decide) (by decide) (fun h => absurd h (by decide)) (fun h113_3 => ?_)
    refine qa_s (pc' := 7) at_113_6 rfl rfl rfl ?_
    refine qa_bi (nx := 9) (v := nI 8) at_113_7 (by decide) rfl ?_
    refine qn_icmp_ne (tg := 16) (nx := 12) at_113_9 rfl rfl (by decide) (by decide) (fun h113_9 => ?_) (fun h => absurd h (by decide))
    refine qa_s (pc' := 17) at_113_16 rfl rfl rfl ?_
    refine qa_bi (nx := 19) (v := nI 7) at_113_17 (by decide) rfl ?_
    refine qn_icmp_eq (tg := 28) (nx := 22) at_113_19 rfl rfl (by decide) (by decide) (fun h113_19 => ?_) (fun h => absurd h (by decide))
    refine qa_ic (nx := 29) (v := (-1)) at_113_28 (by decide) rfl ?_
    refine qa_goto (nx := 33) at_113_29 rfl ?_
    refine qa_ret at_113_33 rfl ?_
    exact k
  · refine qa_s (pc' := 1) at_113_0 rfl rfl rfl ?_
    refine qa_bi (nx := 3) (v := nI 6) at_113_1 (by decide) rfl ?_
    refine qn_icmp_eq (tg := 12) (nx := 6) at_113_3 rfl rfl (by decide) (by decide) (fun h => absurd h (by decide)) (fun h113_3 => ?_)
    refine qa_s (pc' := 7) at_113_6 rfl rfl rfl ?_
    refine qa_bi (nx := 9) (v := nI 8) at_113_7 (by decide) rfl ?_
    refine qn_icmp_ne (tg := 16) (nx := 12) at_113_9 rfl rfl (by decide) (by decide) (fun h => absurd h (by decide)) (fun h113_9 => ?_)
    refine qa_ic (nx := 13) (v := nI 1) at_113_12 (by decide) rfl ?_
    refine qa_goto (nx := 33) at_113_13 rfl ?_
    refine qa_ret at_113_33 rfl ?_
    exact k
  · refine qa_s (pc' := 1) at_113_0 rfl rfl rfl ?_
    refine qa_bi (nx := 3) (v := nI 6) at_113_1 (by decide) rfl ?_
    refine qn_icmp_eq (tg := 12) (nx := 6) at_113_3 rfl rfl (by decide) (by decide) (fun h => absurd h (by decide)) (fun h113_3 => ?_)
    refine qa_s (pc' := 7) at_113_6 rfl rfl rfl ?_
    refine qa_bi (nx := 9) (v := nI 8) at_113_7 (by decide) rfl ?_
    refine qn_icmp_ne (tg := 16) (nx := 12) at_113_9 rfl rfl (by decide) (by decide) (fun h113_9 => ?_) (fun h => absurd h (by decide))
    refine qa_s (pc' := 17) at_113_16 rfl rfl rfl ?_
    refine qa_bi (nx := 19) (v := nI 7) at_113_17 (by decide) rfl ?_
    refine qn_icmp_eq (tg := 28) (nx := 22) at_113_19 rfl rfl (by decide) (by decide) (fun h => absurd h (by decide)) (fun h113_19 => ?_)
    refine qa_s (pc' := 23) at_113_22 rfl rfl rfl ?_
    refine qa_bi (nx := 25) (v := nI 9) at_113_23 (by decide) rfl ?_
    refine qn_icmp_ne (tg := 32) (nx := 28) at_113_25 rfl rfl (by decide) (by decide) (fun h => absurd h (by decide)) (fun h113_25 => ?_)
    refine qa_ic (nx := 29) (v := (-1)) at_113_28 (by decide) rfl ?_
    refine qa_goto (nx := 33) at_113_29 rfl ?_
    refine qa_ret at_113_33 rfl ?_
    exact k
  · refine qa_s (pc' := 1) at_113_0 rfl rfl rfl ?_
    refine qa_bi (nx := 3) (v := nI 6) at_113_1 (by decide) rfl ?_
    refine qn_icmp_eq (tg := 12) (nx := 6) at_113_3 rfl rfl (by decide) (by decide) (fun h => absurd h (by decide)) (fun h113_3 => ?_)
    refine qa_s (pc' := 7) at_113_6 rfl rfl rfl ?_
    refine qa_bi (nx := 9) (v := nI 8) at_113_7 (by decide) rfl ?_
    refine qn_icmp_ne (tg := 16) (nx := 12) at_113_9 rfl rfl (by decide) (by decide) (fun h113_9 => ?_) (fun h => absurd h (by decide))
    refine qa_s (pc' := 17) at_113_16 rfl rfl rfl ?_
    refine qa_bi (nx := 19) (v := nI 7) at_113_17 (by decide) rfl ?_
    refine qn_icmp_eq (tg := 28) (nx := 22) at_113_19 rfl rfl (by decide) (by decide) (fun h => absurd h (by decide)) (fun h113_19 => ?_)
    refine qa_s (pc' := 23) at_113_22 rfl rfl rfl ?_
    refine qa_bi (nx := 25) (v := nI 9) at_113_23 (by decide) rfl ?_
    refine qn_icmp_ne (tg := 32) (nx := 28) at_113_25 rfl rfl (by decide) (by decide) (fun h113_25 => ?_) (fun h => absurd h (by decide))
    refine qa_ic (nx := 33) (v := nI 0) at_113_32 (by decide) rfl ?_
    refine qa_ret at_113_33 rfl ?_
    exact k
  · refine qa_s (pc' := 1) at_113_0 rfl rfl rfl ?_
    refine qa_bi (nx := 3) (v := nI 6) at_113_1 (by decide) rfl ?_
    refine qn_icmp_eq (tg := 12) (nx := 6) at_113_3 rfl rfl (by decide) (by decide) (fun h => absurd h (by decide)) (fun h113_3 => ?_)
    refine qa_s (pc' := 7) at_113_6 rfl rfl rfl ?_
    refine qa_bi (nx := 9) (v := nI 8) at_113_7 (by decide) rfl ?_
    refine qn_icmp_ne (tg := 16) (nx := 12) at_113_9 rfl rfl (by decide) (by decide) (fun h113_9 => ?_) (fun h => absurd h (by decide))
    refine qa_s (pc' := 17) at_113_16 rfl rfl rfl ?_
    refine qa_bi (nx := 19) (v := nI 7) at_113_17 (by decide) rfl ?_
    refine qn_icmp_eq (tg := 28) (nx := 22) at_113_19 rfl rfl (by decide) (by decide) (fun h => absurd h (by decide)) (fun h113_19 => ?_)
    refine qa_s (pc' := 23) at_113_22 rfl rfl rfl ?_
    refine qa_bi (nx := 25) (v := nI 9) at_113_23 (by decide) rfl ?_
    refine qn_icmp_ne (tg := 32) (nx := 28) at_113_25 rfl rfl (by decide) (by decide) (fun h113_25 => ?_) (fun h => absurd h (by decide))
    refine qa_ic (nx := 33) (v := nI 0) at_113_32 (by decide) rfl ?_
    refine qa_ret at_113_33 rfl ?_
    exact k
  · refine qa_s (pc' := 1) at_113_0 rfl rfl rfl ?_
    refine qa_bi (nx := 3) (v := nI 6) at_113_1 (by decide) rfl ?_
    refine qn_icmp_eq (tg := 12) (nx := 6) at_113_3 rfl rfl (by decide) (by decide) (fun h => absurd h (by decide)) (fun h113_3 => ?_)
    refine qa_s (pc' := 7) at_113_6 rfl rfl rfl ?_
    refine qa_bi (nx := 9) (v := nI 8) at_113_7 (by decide) rfl ?_
    refine qn_icmp_ne (tg := 16) (nx := 12) at_113_9 rfl rfl (by decide) (by decide) (fun h113_9 => ?_) (fun h => absurd h (by decide))
    refine qa_s (pc' := 17) at_113_16 rfl rfl rfl ?_
    refine qa_bi (nx := 19) (v := nI 7) at_113_17 (by decide) rfl ?_
    refine qn_icmp_eq (tg := 28) (nx := 22) at_113_19 rfl rfl (by decide) (by decide) (fun h => absurd h (by decide)) (fun h113_19 => ?_)
    refine qa_s (pc' := 23) at_113_22 rfl rfl rfl ?_
    refine qa_bi (nx := 25) (v := nI 9) at_113_23 (by decide) rfl ?_
    refine qn_icmp_ne (tg := 32) (nx := 28) at_113_25 rfl rfl (by decide) (by decide) (fun h113_25 => ?_) (fun h => absurd h (by decide))
    refine qa_ic (nx := 33) (v := nI 0) at_113_32 (by decide) rfl ?_
    refine qa_ret at_113_33 rfl ?_
    exact k
  · refine qa_s (pc' := 1) at_113_0 rfl rfl rfl ?_
    refine qa_bi (nx := 3) (v := nI 6) at_113_1 (by decide) rfl ?_
    refine qn_icmp_eq (tg := 12) (nx := 6) at_113_3 rfl rfl (by decide) (by decide) (fun h => absurd h (by decide)) (fun h113_3 => ?_)
    refine qa_s (pc' := 7) at_113_6 rfl rfl rfl ?_
    refine qa_bi (nx := 9) (v := nI 8) at_113_7 (by decide) rfl ?_
    refine qn_icmp_ne (tg := 16) (nx := 12) at_113_9 rfl rfl (by decide) (by decide) (fun h113_9 => ?_) (fun h => absurd h (by decide))
    refine qa_s (pc' := 17) at_113_16 rfl rfl rfl ?_
    refine qa_bi (nx := 19) (v := nI 7) at_113_17 (by decide) rfl ?_
    refine qn_icmp_eq (tg := 28) (nx := 22) at_113_19 rfl rfl (by decide) (by decide) (fun h => absurd h (by decide)) (fun h113_19 => ?_)
    refine qa_s (pc' := 23) at_113_22 rfl rfl rfl ?_
    refine qa_bi (nx := 25) (v := nI 9) at_113_23 (by decide) rfl ?_
    refine qn_icmp_ne (tg := 32) (nx := 28) at_113_25 rfl rfl (by decide) (by decide) (fun h113_25 => ?_) (fun h => absurd h (by decide))
    refine qa_ic (nx := 33) (v := nI 0) at_113_32 (by decide) rfl ?_
    refine qa_ret at_113_33 rfl ?_
    exact k
  · refine qa_s (pc' := 1) at_113_0 rfl rfl rfl ?_
    refine qa_bi (nx := 3) (v := nI 6) at_113_1 (by decide) rfl ?_
    refine qn_icmp_eq (tg := 12) (nx := 6) at_113_3 rfl rfl (by decide) (by decide) (fun h => absurd h (by decide)) (fun h113_3 => ?_)
    refine qa_s (pc' := 7) at_113_6 rfl rfl rfl ?_
    refine qa_bi (nx := 9) (v := nI 8) at_113_7 (by decide) rfl ?_
    refine qn_icmp_ne (tg := 16) (nx := 12) at_113_9 rfl rfl (by decide) (by decide) (fun h113_9 => ?_) (fun h => absurd h (by decide))
    refine qa_s (pc' := 17) at_113_16 rfl rfl rfl ?_
    refine qa_bi (nx := 19) (v := nI 7) at_113_17 (by decide) rfl ?_
    refine qn_icmp_eq (tg := 28) (nx := 22) at_113_19 rfl rfl (by decide) (by decide) (fun h => absurd h (by decide)) (fun h113_19 => ?_)
    refine qa_s (pc' := 23) at_113_22 rfl rfl rfl ?_
    refine qa_bi (nx := 25) (v := nI 9) at_113_23 (by decide) rfl ?_
    refine qn_icmp_ne (tg := 32) (nx := 28) at_113_25 rfl rfl (by decide) (by decide) (fun h113_25 => ?_) (fun h => absurd h (by decide))
    refine qa_ic (nx := 33) (v := nI 0) at_113_32 (by decide) rfl ?_
    refine qa_ret at_113_33 rfl ?_
    exact k
theorem trn_c (o l : Nat) (hl : l < 2 ^ 20) : (nI l + trn o) = (if o = 6 ∨ o = 8 then nI (l + 1) else if o = 7 ∨ o = 9 then (if l = 0 then -1 else nI (l - 1)) else nI l) := by
  unfold trn
  split
  · rw [nI_add]
  · split
    · split
      · rename_i h; subst h; decide
      · have e : nI l = nI (l - 1) + nI 1 := by rw [nI_add]; congr 1; omega
        rw [e]
        have : nI 1 + (-1 : Int32) = 0 := by decide
        rw [Int32.add_assoc, this, Int32.add_zero]
    · rw [nI_add]; rfl
theorem c33_l {tg : Nat} (hn : n < 15) (htg : tg ≤ 12) (hI : ImC L P Y σ) : ∀ m q l, q + m = tg → l ≤ q → (jmp (P n) m q l = true → Q (some (.int (nI 0))) σ) → (jmp (P n) m q l = false → Q (some (.int (nI 6))) σ) → qa cst 33 30 [(0, .ref (cl 2 0)), (1, .ref (cl 13 n)), (2, .int (nI k)), (3, .int (nI tg)), (4, .int (nI l)), (5, .int (nI q))] [] σ Q := by
  intro m
  induction m with
  | zero =>
    intro q l hq hl K1 K0
    refine qa_s (pc' := 32) at_33_30 rfl rfl rfl ?_
    refine qa_s (pc' := 33) at_33_32 rfl rfl rfl ?_
    refine qn_icmp_ge (tg := 62) (nx := 36) at_33_33 rfl rfl (by omega) (by omega) (fun h33_33 => ?_) (fun h33_33 => ?_)
    · refine qa_s (pc' := 64) at_33_62 rfl rfl rfl ?_
      refine qn_if_eq (tg := 72) (nx := 67) at_33_64 rfl rfl (by omega) (fun h33_64 => ?_) (fun h33_64 => ?_)
      · refine qa_ic (nx := 73) (v := nI 0) at_33_72 (by decide) rfl ?_
        refine qa_ret at_33_73 rfl ?_
        exact K1 (by simp [jmp]; omega)
      · refine qa_bi (nx := 69) (v := nI 6) at_33_67 (by decide) rfl ?_
        refine qa_goto (nx := 73) at_33_69 rfl ?_
        refine qa_ret at_33_73 rfl ?_
        exact K0 (by simp [jmp]; omega)
    · omega
  | succ m ih =>
    intro q l hq hl K1 K0
    have hq12 : q < 12 := by omega
    obtain ⟨hP, e14, -⟩ := (hI n hn).2.2 q hq12
    simp only [jmp] at K1 K0
    have back : ∀ l', l' ≤ q + 1 → (jmp (P n) m (q + 1) l' = true → Q (some (.int (nI 0))) σ) → (jmp (P n) m (q + 1) l' = false → Q (some (.int (nI 6))) σ) → ∀ v, v = nI l' → qa cst 33 54 [(0, .ref (cl 2 0)), (1, .ref (cl 13 n)), (2, .int (nI k)), (3, .int (nI tg)), (4, .int (nI l)), (5, .int (nI q))] [.int v] σ Q := by
      intro l' hl' K1' K0' v hv
      subst hv
      refine qa_s (pc' := 56) at_33_54 rfl rfl rfl ?_
      refine qa_incN (nx := 59) (c := 1) at_33_56 (by decide) rfl rfl rfl ?_
      refine qa_goto (nx := 30) at_33_59 rfl ?_
      exact ih (q + 1) l' (by omega) hl' K1' K0'
    refine qa_s (pc' := 32) at_33_30 rfl rfl rfl ?_
    refine qa_s (pc' := 33) at_33_32 rfl rfl rfl ?_
    refine qn_icmp_ge (tg := 62) (nx := 36) at_33_33 rfl rfl (by omega) (by omega) (fun h33_33 => ?_) (fun h33_33 => ?_)
    · omega
    · refine qa_s (pc' := 38) at_33_36 rfl rfl rfl ?_
      refine qn_if_lt (tg := 62) (nx := 41) at_33_38 rfl rfl (by omega) ?_
      refine qa_s (pc' := 43) at_33_41 rfl rfl rfl ?_
      refine qa_s (pc' := 44) at_33_43 rfl rfl rfl ?_
      refine qa_getR (nx := 47) at_33_44 rfl (by decide) rfl rfl (show _ < 15 by omega) ?_
      refine qa_s (pc' := 49) at_33_47 rfl rfl rfl ?_
      refine qa_ialdV (nx := 50) (k := q) (v := nI (P n q)) at_33_49 rfl rfl rfl (show _ < 15 by omega) rfl (show q < 12 by omega) (show _ from e14) ?_
      refine qa_callS (nx := 53) at_33_50 rfl rfl (Nat.le_of_ble_eq_true rfl) rfl rfl (by decide) rfl ?_
      show qa _ 34 0 [(0, .int _)] [] _ _
      refine c34_q hP ?_
      show qa _ 33 53 _ [.int _, .int _] _ _
      refine qa_s (pc' := 54) at_33_53 rfl rfl rfl ?_
      rw [trn_c _ _ (by omega)]
      by_cases h1 : P n q = 6 ∨ P n q = 8
      · rw [if_pos h1] at K1 K0 ⊢
        exact back _ (by omega) K1 K0 _ rfl
      · rw [if_neg h1] at K1 K0 ⊢
        by_cases h2 : P n q = 7 ∨ P n q = 9
        · rw [if_pos h2] at K1 K0 ⊢
          by_cases h3 : l = 0
          · rw [if_pos h3] at K1 K0 ⊢
            refine qa_s (pc' := 56) at_33_54 rfl rfl rfl ?_
            refine qa_incN (nx := 59) (c := 1) at_33_56 (by decide) rfl rfl rfl ?_
            refine qa_goto (nx := 30) at_33_59 rfl ?_
            refine qa_s (pc' := 32) at_33_30 rfl rfl rfl ?_
            refine qa_s (pc' := 33) at_33_32 rfl rfl rfl ?_
            refine qn_icmp_ge (tg := 62) (nx := 36) at_33_33 rfl rfl (by omega) (by omega) (fun h33_33 => ?_) (fun h33_33 => ?_)
            · refine qa_s (pc' := 64) at_33_62 rfl rfl rfl ?_
              refine qa_if_eq (tg := 72) (nx := 67) at_33_64 rfl rfl (fun h33_64 => ?_) (fun h33_64 => ?_)
              · exact absurd h33_64 (by decide)
              · refine qa_bi (nx := 69) (v := nI 6) at_33_67 (by decide) rfl ?_
                refine qa_goto (nx := 73) at_33_69 rfl ?_
                refine qa_ret at_33_73 rfl ?_
                exact K0 rfl
            · refine qa_s (pc' := 38) at_33_36 rfl rfl rfl ?_
              refine qa_if_lt (tg := 62) (nx := 41) at_33_38 rfl rfl (fun h33_38 => ?_) (fun h33_38 => ?_)
              · refine qa_s (pc' := 64) at_33_62 rfl rfl rfl ?_
                refine qa_if_eq (tg := 72) (nx := 67) at_33_64 rfl rfl (fun h33_64 => ?_) (fun h33_64 => ?_)
                · exact absurd h33_64 (by decide)
                · refine qa_bi (nx := 69) (v := nI 6) at_33_67 (by decide) rfl ?_
                  refine qa_goto (nx := 73) at_33_69 rfl ?_
                  refine qa_ret at_33_73 rfl ?_
                  exact K0 rfl
              · exact absurd (show (-1 : Int32) < 0 by decide) h33_38
          · rw [if_neg h3] at K1 K0 ⊢
            exact back _ (by omega) K1 K0 _ rfl
        · rw [if_neg h2] at K1 K0 ⊢
          exact back _ (by omega) K1 K0 _ rfl
theorem c33_q (hn : n < 15) (hk : k < L n) (hI : ImC L P Y σ) (ho : P n k = 5) (K1 : (k + 1 + Y n k ≤ L n ∧ jmp (P n) (Y n k) (k + 1) 0 = true) → Q (some (.int (nI 0))) σ) (K0 : ¬ (k + 1 + Y n k ≤ L n ∧ jmp (P n) (Y n k) (k + 1) 0 = true) → Q (some (.int (nI 6))) σ) : qa cst 33 0 [(0, .ref (cl 2 0)), (1, .ref (cl 13 n)), (2, .int (nI k))] [] σ Q := by
  obtain ⟨hL, e13, h2⟩ := hI n hn
  obtain ⟨hP, e14, h3⟩ := h2 k (by omega)
  obtain ⟨e16, hy⟩ := h3 (by omega)
  have hy11 : Y n k ≤ 11 := by rw [ho] at hy; exact hy.2
  refine qa_s (pc' := 1) at_33_0 rfl rfl rfl ?_
  refine qa_s (pc' := 2) at_33_1 rfl rfl rfl ?_
  refine qa_getR (nx := 5) at_33_2 rfl (by decide) rfl rfl (show _ < 15 by omega) ?_
  refine qa_s (pc' := 6) at_33_5 rfl rfl rfl ?_
  refine qa_ialdV (nx := 7) (k := k) (v := nI (Y n k)) at_33_6 rfl rfl rfl (show _ < 15 by omega) rfl (show k < 12 by omega) (show _ from e16) ?_
  refine qa_addN (nx := 8) at_33_7 rfl ?_
  refine qa_ic (nx := 9) (v := nI 1) at_33_8 (by decide) rfl ?_
  refine qa_addN (nx := 10) at_33_9 rfl ?_
  refine qa_s (pc' := 11) at_33_10 rfl rfl rfl ?_
  refine qa_s (pc' := 12) at_33_11 rfl rfl rfl ?_
  refine qa_s (pc' := 13) at_33_12 rfl rfl rfl ?_
  refine qa_getV (nx := 16) (v := nI (L n)) at_33_13 rfl (by decide) rfl rfl (show _ < 15 by omega) (show _ from e13) ?_
  refine qn_icmp_le (tg := 22) (nx := 19) at_33_16 rfl rfl (by omega) (by omega) (fun h33_16 => ?_) (fun h33_16 => ?_)
  · refine qa_ic (nx := 23) (v := nI 0) at_33_22 (by decide) rfl ?_
    refine qa_s (pc' := 25) at_33_23 rfl rfl rfl ?_
    refine qa_s (pc' := 26) at_33_25 rfl rfl rfl ?_
    refine qa_ic (nx := 27) (v := nI 1) at_33_26 (by decide) rfl ?_
    refine qa_addN (nx := 28) at_33_27 rfl ?_
    refine qa_s (pc' := 30) at_33_28 rfl rfl rfl ?_
    exact c33_l (tg := k + Y n k + 1) hn (by omega) hI (Y n k) (k + 1) 0 (by omega) (by omega) (fun g => K1 ⟨by omega, g⟩) (fun g => K0 (fun f => by rw [g] at f; exact absurd f.2 (by decide)))
  · exact qa_bi (nx := 21) (v := nI 6) at_33_19 (by decide) rfl (qa_ret at_33_21 rfl (K0 (fun g => by omega)))
end PQ
