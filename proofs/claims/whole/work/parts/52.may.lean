/-! the fourth call: which resources a routine may lock -/
section PQ
variable {cst : List (List Int32)} {σ b : sg} {Q : Option Value → sg → Prop} {T n k i r : Nat} {L : Nat → Nat} {P Y : Nat → Nat → Nat}
/-- the resources that the first m instructions lock themselves; with those of the routines they call -/
def lk1 (p y : Nat → Nat) : Nat → Nat
  | 0 => 0
  | m + 1 => if p m = 8 then lk1 p y m ||| 2 ^ y m else lk1 p y m
def mlk (p y : Nat → Nat) (r : Nat) (f : Nat → Nat) : Nat → Nat
  | 0 => 0
  | m + 1 => if p m = 8 then mlk p y r f m ||| 2 ^ y m else if p m = 10 ∧ r < y m then mlk p y r f m ||| f (y m) else mlk p y r f m
def cal (p y : Nat → Nat) (r : Nat) : Nat → Bool
  | 0 => false
  | m + 1 => cal p y r m || (p m == 10 && decide (r < y m))
def M2 (L : Nat → Nat) (P Y : Nat → Nat → Nat) (i : Nat) : Nat := lk1 (P (3 * i + 2)) (Y (3 * i + 2)) (L (3 * i + 2))
def M1 (L : Nat → Nat) (P Y : Nat → Nat → Nat) (i : Nat) : Nat := if cal (P (3 * i + 1)) (Y (3 * i + 1)) 1 (L (3 * i + 1)) then lk1 (P (3 * i + 1)) (Y (3 * i + 1)) (L (3 * i + 1)) ||| M2 L P Y i else lk1 (P (3 * i + 1)) (Y (3 * i + 1)) (L (3 * i + 1))
theorem mlk_2 {p y f : Nat → Nat} : ∀ m, (∀ j, j < m → p j = 10 → y j ≤ 2) → mlk p y 2 f m = lk1 p y m := by
  intro m
  induction m with
  | zero => intro _; rfl
  | succ m ih =>
    intro h
    simp only [mlk, lk1]
    rw [ih (fun j hj => h j (by omega))]
    split
    · rfl
    · rw [if_neg (fun g => by have := h m (by omega) g.1; omega)]
theorem mlk_1 {p y : Nat → Nat} {X : Nat} : ∀ m, mlk p y 1 (fun _ => X) m = if cal p y 1 m then lk1 p y m ||| X else lk1 p y m := by
  intro m
  induction m with
  | zero => rfl
  | succ m ih =>
    have hs : cal p y 1 (m + 1) = (cal p y 1 m || (p m == 10 && decide (1 < y m))) := rfl
    simp only [mlk, lk1]
    rw [ih]
    by_cases h8 : p m = 8
    · have e : cal p y 1 (m + 1) = cal p y 1 m := by rw [hs]; simp [h8]
      rw [e, if_pos h8, if_pos h8]
      by_cases hc : cal p y 1 m = true
      · rw [if_pos hc, if_pos hc, Nat.or_assoc, Nat.or_comm X, ← Nat.or_assoc]
      · rw [if_neg hc, if_neg hc]
    · rw [if_neg h8, if_neg h8]
      by_cases h10 : p m = 10 ∧ 1 < y m
      · have e : cal p y 1 (m + 1) = true := by rw [hs]; simp [h10]
        rw [if_pos e, if_pos h10]
        by_cases hc : cal p y 1 m = true
        · rw [if_pos hc, Nat.or_assoc, Nat.or_self]
        · rw [if_neg hc]
      · have e : cal p y 1 (m + 1) = cal p y 1 m := by
          rw [hs]
          have e : (p m == 10 && decide (1 < y m)) = false := by
            rw [Bool.and_eq_false_iff]
            by_cases g : p m = 10
            · right; simp; omega
            · left; simp [g]
          rw [e, Bool.or_false]
        rw [e, if_neg h10]
theorem lk1_16 {p y : Nat → Nat} : ∀ m, (∀ j, j < m → p j = 8 → y j < 4) → lk1 p y m < 16 := by
  intro m
  induction m with
  | zero => intro _; exact Nat.zero_lt_succ _
  | succ m ih =>
    intro h
    simp only [lk1]
    have := ih (fun j hj => h j (by omega))
    split
    · rename_i g; exact (or16 _ this _ (sh4 _ (h m (by omega) g)).1).1
    · exact this
theorem mlk_16 {p y f : Nat → Nat} : ∀ m, (∀ j, j < m → p j = 8 → y j < 4) → (∀ j, j < m → p j = 10 → r < y j → f (y j) < 16) → mlk p y r f m < 16 := by
  intro m
  induction m with
  | zero => intro _ _; exact Nat.zero_lt_succ _
  | succ m ih =>
    intro h h'
    simp only [mlk]
    have := ih (fun j hj => h j (by omega)) (fun j hj => h' j (by omega))
    split
    · rename_i g; exact (or16 _ this _ (sh4 _ (h m (by omega) g)).1).1
    · split
      · rename_i g; exact (or16 _ this _ (h' m (by omega) g.1 g.2)).1
      · exact this
theorem imY {o y : Nat} (h : okY o y) : (o = 8 → y < 4) ∧ (o = 10 → y ≤ 2) ∧ (o = 6 → 1 ≤ y ∧ y ≤ 8) ∧ (o = 5 → 1 ≤ y ∧ y ≤ 11) := by
  refine ⟨?_, ?_, ?_, ?_⟩
  · rintro rfl; exact Nat.lt_succ_of_le h.2
  · rintro rfl; exact h.2
  · rintro rfl; exact ⟨h.1, h.2⟩
  · rintro rfl; exact ⟨h.1, h.2⟩

theorem c22_l {f : Nat → Nat} (hi : i < 5) (hr : r < 3) (hI : ImC L P Y σ) (hf : ∀ y, r < y → y ≤ 2 → f y < 16 ∧ σ 13 (3 * i + y) 5 = nI (f y)) (K : ∀ v, qa cst 22 104 [(0, .ref (cl 2 0)), (1, .ref (cl 12 i)), (2, .int (nI r)), (3, .ref (cl 13 (3 * i + r))), (4, .int v)] [] (up σ 13 (3 * i + r) 5 (nI (mlk (P (3 * i + r)) (Y (3 * i + r)) r f (L (3 * i + r))))) Q) : ∀ m' m, m + m' = L (3 * i + r) → qa cst 22 18 [(0, .ref (cl 2 0)), (1, .ref (cl 12 i)), (2, .int (nI r)), (3, .ref (cl 13 (3 * i + r))), (4, .int (nI m))] [] (up σ 13 (3 * i + r) 5 (nI (mlk (P (3 * i + r)) (Y (3 * i + r)) r f m))) Q := by
  obtain ⟨hL, e13, h2⟩ := hI (3 * i + r) (by omega)
  have h8 : ∀ j, j < L (3 * i + r) → P (3 * i + r) j = 8 → Y (3 * i + r) j < 4 := fun j hj g => (imY ((h2 j (by omega)).2.2 (by omega)).2).1 g
  have h10 : ∀ j, j < L (3 * i + r) → P (3 * i + r) j = 10 → r < Y (3 * i + r) j → f (Y (3 * i + r) j) < 16 := fun j hj g g' => (hf _ g' ((imY ((h2 j (by omega)).2.2 (by omega)).2).2.1 g)).1
  intro m'
  induction m' with
  | zero =>
    intro m hm
    have e : m = L (3 * i + r) := by omega
    subst e
    refine qa_s (pc' := 20) at_22_18 rfl rfl rfl ?_
    refine qa_s (pc' := 21) at_22_20 rfl rfl rfl ?_
    refine qa_getV (nx := 24) (v := nI (L (3 * i + r))) at_22_21 rfl (by decide) rfl rfl (show _ < 15 by omega) (show _ from by simp [up]; exact e13) ?_
    refine qn_icmp_ge (tg := 104) (nx := 27) at_22_24 rfl rfl (by omega) (by omega) (fun h22_24 => ?_) (fun h22_24 => ?_)
    · exact K _
    · omega
  | succ m' ih =>
    intro m hm
    obtain ⟨hP, e14, h16⟩ := h2 m (by omega)
    have hM := mlk_16 (r := r) (f := f) m (fun j hj => h8 j (by omega)) (fun j hj => h10 j (by omega))
    have ih' := ih (m + 1) (by omega)
    simp only [mlk] at ih'
    have back : ∀ (v w : Int32) (τ : sg), qa cst 22 18 [(0, .ref (cl 2 0)), (1, .ref (cl 12 i)), (2, .int (nI r)), (3, .ref (cl 13 (3 * i + r))), (4, .int (nI (m + 1)))] [] τ Q → qa cst 22 98 [(0, .ref (cl 2 0)), (1, .ref (cl 12 i)), (2, .int (nI r)), (3, .ref (cl 13 (3 * i + r))), (4, .int (nI m)), (5, .int w)] [] τ Q := by
      intro v w τ h
      refine qa_incN (nx := 101) (c := 1) at_22_98 (by decide) rfl rfl rfl ?_
      refine qa_goto (nx := 18) at_22_101 rfl ?_
      show qa _ _ _ [(0, .ref (cl 2 0)), (1, .ref (cl 12 i)), (2, .int (nI r)), (3, .ref (cl 13 (3 * i + r))), (4, .int (nI (m + 1))), (5, .int _)] [] _ _
      exact qa_drop (l1 := [(0, .ref (cl 2 0)), (1, .ref (cl 12 i)), (2, .int (nI r)), (3, .ref (cl 13 (3 * i + r))), (4, .int (nI (m + 1)))]) (by intro q hq; simp only [List.mem_cons, List.not_mem_nil, or_false] at hq ⊢; rcases hq with rfl | rfl | rfl | rfl | rfl <;> simp) (by simp [mj_nd]) (h)
    by_cases g8 : P (3 * i + r) m = 8
    · rw [if_pos g8] at ih'
      have hy := (h16 (by omega)).1
      have hy4 := h8 m (by omega) g8
      rw [← (or16 _ hM _ (sh4 _ hy4).1).2.1, ← (sh4 _ hy4).2] at ih'
      refine qa_s (pc' := 20) at_22_18 rfl rfl rfl ?_
      refine qa_s (pc' := 21) at_22_20 rfl rfl rfl ?_
      refine qa_getV (nx := 24) (v := nI (L (3 * i + r))) at_22_21 rfl (by decide) rfl rfl (show _ < 15 by omega) (show _ from by simp [up]; exact e13) ?_
      refine qn_icmp_ge (tg := 104) (nx := 27) at_22_24 rfl rfl (by omega) (by omega) (fun h22_24 => ?_) (fun h22_24 => ?_)
      · omega
      · refine qa_s (pc' := 28) at_22_27 rfl rfl rfl ?_
        refine qa_getR (nx := 31) at_22_28 rfl (by decide) rfl rfl (show _ < 15 by omega) ?_
        refine qa_s (pc' := 33) at_22_31 rfl rfl rfl ?_
        refine qa_ialdV (nx := 34) (k := m) (v := nI (Y (3 * i + r) m)) at_22_33 rfl rfl rfl (show _ < 15 by omega) rfl (show m < 12 by omega) (show _ from hy) ?_
        refine qa_s (pc' := 36) at_22_34 rfl rfl rfl ?_
        refine qa_s (pc' := 37) at_22_36 rfl rfl rfl ?_
        refine qa_getR (nx := 40) at_22_37 rfl (by decide) rfl rfl (show _ < 15 by omega) ?_
        refine qa_s (pc' := 42) at_22_40 rfl rfl rfl ?_
        refine qa_ialdV (nx := 43) (k := m) (v := nI (P (3 * i + r) m)) at_22_42 rfl rfl rfl (show _ < 15 by omega) rfl (show m < 12 by omega) (show _ from e14) ?_
        refine qa_bi (nx := 45) (v := nI 8) at_22_43 (by decide) rfl ?_
        refine qn_icmp_ne (tg := 64) (nx := 48) at_22_45 rfl rfl (by omega) (by omega) (fun h22_45 => ?_) (fun h22_45 => ?_)
        · exact absurd g8 h22_45
        · refine qa_s (pc' := 49) at_22_48 rfl rfl rfl ?_
          refine qa_s (pc' := 50) at_22_49 rfl rfl rfl ?_
          refine qa_getV (nx := 53) (v := nI (mlk (P (3 * i + r)) (Y (3 * i + r)) r f m)) at_22_50 rfl (by decide) rfl rfl (show _ < 15 by omega) (show _ from up_s) ?_
          refine qa_ic (nx := 54) (v := nI 1) at_22_53 (by decide) rfl ?_
          refine qa_s (pc' := 56) at_22_54 rfl rfl rfl ?_
          refine qa_s (pc' := 57) at_22_56 rfl rfl rfl ?_
          refine qa_s (pc' := 58) at_22_57 rfl rfl rfl ?_
          refine qa_put (nx := 61) at_22_58 rfl (by decide) rfl rfl rfl (show _ < 15 by omega) ?_
          refine qa_goto (nx := 98) at_22_61 rfl ?_
          rw [up_up]
          exact back 0 _ _ ih'
    · rw [if_neg g8] at ih'
      by_cases g10 : P (3 * i + r) m = 10
      · have hy := (h16 (by omega)).1
        have hy2 := (imY (h16 (by omega)).2).2.1 g10
        by_cases gr : r < Y (3 * i + r) m
        · rw [if_pos ⟨g10, gr⟩] at ih'
          obtain ⟨f1, f2⟩ := hf _ gr hy2
          rw [← (or16 _ hM _ f1).2.1] at ih'
          have f3 : up σ 13 (3 * i + r) 5 (nI (mlk (P (3 * i + r)) (Y (3 * i + r)) r f m)) 13 (3 * i + Y (3 * i + r) m) 5 = nI (f (Y (3 * i + r) m)) := by
            rw [up_i (by omega)]; exact f2
          refine qa_s (pc' := 20) at_22_18 rfl rfl rfl ?_
          refine qa_s (pc' := 21) at_22_20 rfl rfl rfl ?_
          refine qa_getV (nx := 24) (v := nI (L (3 * i + r))) at_22_21 rfl (by decide) rfl rfl (show _ < 15 by omega) (show _ from by simp [up]; exact e13) ?_
          refine qn_icmp_ge (tg := 104) (nx := 27) at_22_24 rfl rfl (by omega) (by omega) (fun h22_24 => ?_) (fun h22_24 => ?_)
          · omega
          · refine qa_s (pc' := 28) at_22_27 rfl rfl rfl ?_
            refine qa_getR (nx := 31) at_22_28 rfl (by decide) rfl rfl (show _ < 15 by omega) ?_
            refine qa_s (pc' := 33) at_22_31 rfl rfl rfl ?_
            refine qa_ialdV (nx := 34) (k := m) (v := nI (Y (3 * i + r) m)) at_22_33 rfl rfl rfl (show _ < 15 by omega) rfl (show m < 12 by omega) (show _ from hy) ?_
            refine qa_s (pc' := 36) at_22_34 rfl rfl rfl ?_
            refine qa_s (pc' := 37) at_22_36 rfl rfl rfl ?_
            refine qa_getR (nx := 40) at_22_37 rfl (by decide) rfl rfl (show _ < 15 by omega) ?_
            refine qa_s (pc' := 42) at_22_40 rfl rfl rfl ?_
            refine qa_ialdV (nx := 43) (k := m) (v := nI (P (3 * i + r) m)) at_22_42 rfl rfl rfl (show _ < 15 by omega) rfl (show m < 12 by omega) (show _ from e14) ?_
            refine qa_bi (nx := 45) (v := nI 8) at_22_43 (by decide) rfl ?_
            refine qn_icmp_ne (tg := 64) (nx := 48) at_22_45 rfl rfl (by omega) (by omega) (fun h22_45 => ?_) (fun h22_45 => ?_)
            · refine qa_s (pc' := 65) at_22_64 rfl rfl rfl ?_
              refine qa_getR (nx := 68) at_22_65 rfl (by decide) rfl rfl (show _ < 15 by omega) ?_
              refine qa_s (pc' := 70) at_22_68 rfl rfl rfl ?_
              refine qa_ialdV (nx := 71) (k := m) (v := nI (P (3 * i + r) m)) at_22_70 rfl rfl rfl (show _ < 15 by omega) rfl (show m < 12 by omega) (show _ from e14) ?_
              refine qa_bi (nx := 73) (v := nI 10) at_22_71 (by decide) rfl ?_
              refine qn_icmp_ne (tg := 98) (nx := 76) at_22_73 rfl rfl (by omega) (by omega) (fun h22_73 => ?_) (fun h22_73 => ?_)
              · exact absurd g10 h22_73
              · refine qa_s (pc' := 78) at_22_76 rfl rfl rfl ?_
                refine qa_s (pc' := 79) at_22_78 rfl rfl rfl ?_
                refine qn_icmp_le (tg := 98) (nx := 82) at_22_79 rfl rfl (by omega) (by omega) (fun h22_79 => ?_) (fun h22_79 => ?_)
                · omega
                · refine qa_s (pc' := 83) at_22_82 rfl rfl rfl ?_
                  refine qa_s (pc' := 84) at_22_83 rfl rfl rfl ?_
                  refine qa_getV (nx := 87) (v := nI (mlk (P (3 * i + r)) (Y (3 * i + r)) r f m)) at_22_84 rfl (by decide) rfl rfl (show _ < 15 by omega) (show _ from up_s) ?_
                  refine qa_s (pc' := 88) at_22_87 rfl rfl rfl ?_
                  refine qa_s (pc' := 90) at_22_88 rfl rfl rfl ?_
                  refine qa_aald (nx := 91) (k := Y (3 * i + r) m) at_22_90 (by decide) rfl rfl (show _ < 5 by omega) rfl (show Y (3 * i + r) m < 3 by omega) ?_
                  refine qa_getV (nx := 94) (v := nI (f (Y (3 * i + r) m))) at_22_91 rfl (by decide) rfl rfl (show _ < 15 by omega) (show _ from f3) ?_
                  refine qa_s (pc' := 95) at_22_94 rfl rfl rfl ?_
                  refine qa_put (nx := 98) at_22_95 rfl (by decide) rfl rfl rfl (show _ < 15 by omega) ?_
                  rw [up_up]
                  exact back 0 _ _ ih'
            · exact absurd h22_45 g8
        · rw [if_neg (fun g => gr g.2)] at ih'
          refine qa_s (pc' := 20) at_22_18 rfl rfl rfl ?_
          refine qa_s (pc' := 21) at_22_20 rfl rfl rfl ?_
          refine qa_getV (nx := 24) (v := nI (L (3 * i + r))) at_22_21 rfl (by decide) rfl rfl (show _ < 15 by omega) (show _ from by simp [up]; exact e13) ?_
          refine qn_icmp_ge (tg := 104) (nx := 27) at_22_24 rfl rfl (by omega) (by omega) (fun h22_24 => ?_) (fun h22_24 => ?_)
          · omega
          · refine qa_s (pc' := 28) at_22_27 rfl rfl rfl ?_
            refine qa_getR (nx := 31) at_22_28 rfl (by decide) rfl rfl (show _ < 15 by omega) ?_
            refine qa_s (pc' := 33) at_22_31 rfl rfl rfl ?_
            refine qa_ialdV (nx := 34) (k := m) (v := nI (Y (3 * i + r) m)) at_22_33 rfl rfl rfl (show _ < 15 by omega) rfl (show m < 12 by omega) (show _ from hy) ?_
            refine qa_s (pc' := 36) at_22_34 rfl rfl rfl ?_
            refine qa_s (pc' := 37) at_22_36 rfl rfl rfl ?_
            refine qa_getR (nx := 40) at_22_37 rfl (by decide) rfl rfl (show _ < 15 by omega) ?_
            refine qa_s (pc' := 42) at_22_40 rfl rfl rfl ?_
            refine qa_ialdV (nx := 43) (k := m) (v := nI (P (3 * i + r) m)) at_22_42 rfl rfl rfl (show _ < 15 by omega) rfl (show m < 12 by omega) (show _ from e14) ?_
            refine qa_bi (nx := 45) (v := nI 8) at_22_43 (by decide) rfl ?_
            refine qn_icmp_ne (tg := 64) (nx := 48) at_22_45 rfl rfl (by omega) (by omega) (fun h22_45 => ?_) (fun h22_45 => ?_)
            · refine qa_s (pc' := 65) at_22_64 rfl rfl rfl ?_
              refine qa_getR (nx := 68) at_22_65 rfl (by decide) rfl rfl (show _ < 15 by omega) ?_
              refine qa_s (pc' := 70) at_22_68 rfl rfl rfl ?_
              refine qa_ialdV (nx := 71) (k := m) (v := nI (P (3 * i + r) m)) at_22_70 rfl rfl rfl (show _ < 15 by omega) rfl (show m < 12 by omega) (show _ from e14) ?_
              refine qa_bi (nx := 73) (v := nI 10) at_22_71 (by decide) rfl ?_
              refine qn_icmp_ne (tg := 98) (nx := 76) at_22_73 rfl rfl (by omega) (by omega) (fun h22_73 => ?_) (fun h22_73 => ?_)
              · exact absurd g10 h22_73
              · refine qa_s (pc' := 78) at_22_76 rfl rfl rfl ?_
                refine qa_s (pc' := 79) at_22_78 rfl rfl rfl ?_
                refine qn_icmp_le (tg := 98) (nx := 82) at_22_79 rfl rfl (by omega) (by omega) (fun h22_79 => ?_) (fun h22_79 => ?_)
                · exact back 0 _ _ ih'
                · omega
            · exact absurd h22_45 g8
      · rw [if_neg (fun g => g10 g.1)] at ih'
        refine qa_s (pc' := 20) at_22_18 rfl rfl rfl ?_
        refine qa_s (pc' := 21) at_22_20 rfl rfl rfl ?_
        refine qa_getV (nx := 24) (v := nI (L (3 * i + r))) at_22_21 rfl (by decide) rfl rfl (show _ < 15 by omega) (show _ from by simp [up]; exact e13) ?_
        refine qn_icmp_ge (tg := 104) (nx := 27) at_22_24 rfl rfl (by omega) (by omega) (fun h22_24 => ?_) (fun h22_24 => ?_)
        · omega
        · refine qa_s (pc' := 28) at_22_27 rfl rfl rfl ?_
          refine qa_getR (nx := 31) at_22_28 rfl (by decide) rfl rfl (show _ < 15 by omega) ?_
          refine qa_s (pc' := 33) at_22_31 rfl rfl rfl ?_
          refine qa_iald (nx := 34) (k := m) at_22_33 rfl rfl rfl (show _ < 15 by omega) rfl (show m < 12 by omega) ?_
          refine qa_s (pc' := 36) at_22_34 rfl rfl rfl ?_
          refine qa_s (pc' := 37) at_22_36 rfl rfl rfl ?_
          refine qa_getR (nx := 40) at_22_37 rfl (by decide) rfl rfl (show _ < 15 by omega) ?_
          refine qa_s (pc' := 42) at_22_40 rfl rfl rfl ?_
          refine qa_ialdV (nx := 43) (k := m) (v := nI (P (3 * i + r) m)) at_22_42 rfl rfl rfl (show _ < 15 by omega) rfl (show m < 12 by omega) (show _ from e14) ?_
          refine qa_bi (nx := 45) (v := nI 8) at_22_43 (by decide) rfl ?_
          refine qn_icmp_ne (tg := 64) (nx := 48) at_22_45 rfl rfl (by omega) (by omega) (fun h22_45 => ?_) (fun h22_45 => ?_)
          · refine qa_s (pc' := 65) at_22_64 rfl rfl rfl ?_
            refine qa_getR (nx := 68) at_22_65 rfl (by decide) rfl rfl (show _ < 15 by omega) ?_
            refine qa_s (pc' := 70) at_22_68 rfl rfl rfl ?_
            refine qa_ialdV (nx := 71) (k := m) (v := nI (P (3 * i + r) m)) at_22_70 rfl rfl rfl (show _ < 15 by omega) rfl (show m < 12 by omega) (show _ from e14) ?_
            refine qa_bi (nx := 73) (v := nI 10) at_22_71 (by decide) rfl ?_
            refine qn_icmp_ne (tg := 98) (nx := 76) at_22_73 rfl rfl (by omega) (by omega) (fun h22_73 => ?_) (fun h22_73 => ?_)
            · exact back 0 _ _ ih'
            · exact absurd h22_73 g10
          · exact absurd h22_45 g8
end PQ
