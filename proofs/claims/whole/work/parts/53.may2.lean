/-! the fourth call: which resources a routine may lock, both sides -/
section PQ
variable {cst : List (List Int32)} {σ b : sg} {Q : Option Value → sg → Prop} {T n k i r : Nat} {L : Nat → Nat} {P Y : Nat → Nat → Nat}
theorem qa_decN {m pc nx : Nat} {ls : mj_Ls} {st : List Value} {v x a b : Nat} {ls' : mj_Ls} (hat : mj_at m pc = some (.iinc v (-1), a, b)) (hg : mj_get ls v = some (.int (nI (x + 1)))) (hl : mj_set1 ls v (.int (nI x)) = ls') (hn : pc + 3 = nx) (k : qa cst m nx ls' st σ Q) : qa cst m pc ls st σ Q := by
  subst hn; subst hl
  refine qa_s hat (by cases st <;> rfl) rfl (σ' := σ) ?_ k
  show (match mj_get ls v with | some (.int x) => some (pc + 3, mj_set1 ls v (.int (x + Int32.ofInt (-1))), st, lay σ) | _ => none) = _
  rw [hg]
  dsimp only
  have e : nI (x + 1) + Int32.ofInt (-1) = nI x := by
    have : nI 1 + Int32.ofInt (-1) = 0 := by decide
    rw [← nI_add, Int32.add_assoc, this, Int32.add_zero]
  rw [e]
theorem qa_dec0 {m pc nx : Nat} {ls : mj_Ls} {st : List Value} {v a b : Nat} {ls' : mj_Ls} (hat : mj_at m pc = some (.iinc v (-1), a, b)) (hg : mj_get ls v = some (.int (nI 0))) (hl : mj_set1 ls v (.int (-1)) = ls') (hn : pc + 3 = nx) (k : qa cst m nx ls' st σ Q) : qa cst m pc ls st σ Q := by
  subst hn; subst hl
  refine qa_s hat (by cases st <;> rfl) rfl (σ' := σ) ?_ k
  show (match mj_get ls v with | some (.int x) => some (pc + 3, mj_set1 ls v (.int (x + Int32.ofInt (-1))), st, lay σ) | _ => none) = _
  rw [hg]
  rfl
theorem lk_y {n : Nat} (hn : n < 15) (hI : ImC L P Y σ) : ∀ j, j < 12 → (P n j = 8 → Y n j < 4) ∧ (P n j = 10 → Y n j ≤ 2) := fun j hj => ⟨fun g => (imY (((hI n hn).2.2 j hj).2.2 (by omega)).2).1 g, fun g => (imY (((hI n hn).2.2 j hj).2.2 (by omega)).2).2.1 g⟩
theorem M2_16 (hi : i < 5) (hI : ImC L P Y σ) : M2 L P Y i < 16 := lk1_16 _ (fun j hj => (lk_y (by omega) hI j (by have := (hI (3 * i + 2) (by omega)).1; omega)).1)
theorem M1_16 (hi : i < 5) (hI : ImC L P Y σ) : M1 L P Y i < 16 := by
  have h := lk1_16 (p := P (3 * i + 1)) (y := Y (3 * i + 1)) (L (3 * i + 1)) (fun j hj => (lk_y (by omega) hI j (by have := (hI (3 * i + 1) (by omega)).1; omega)).1)
  unfold M1
  split
  · exact (or16 _ h _ (M2_16 hi hI)).1
  · exact h
theorem c22_q (hi : i < 5) (hI : ImC L P Y σ) (K : ∀ σ1, (∀ a, a ≠ 13 → σ1 a = σ a) → (∀ n j, j ≠ 5 → σ1 13 n j = σ 13 n j) → σ1 13 (3 * i + 1) 5 = nI (M1 L P Y i) → σ1 13 (3 * i + 2) 5 = nI (M2 L P Y i) → Q none σ1) : qa cst 22 0 [(0, .ref (cl 2 0)), (1, .ref (cl 12 i))] [] σ Q := by
  have hI2 : ∀ v, ImC L P Y (up σ 13 (3 * i + 2) 5 v) := fun v => ImC_of (σ := σ) (fun n => by simp [up]) rfl rfl hI
  have hI1 : ∀ v w, ImC L P Y (up (up σ 13 (3 * i + 2) 5 v) 13 (3 * i + 1) 5 w) := fun v w => ImC_of (σ := up σ 13 (3 * i + 2) 5 v) (fun n => by simp [up]) rfl rfl (hI2 v)
  have e2 : ∀ f, mlk (P (3 * i + 2)) (Y (3 * i + 2)) 2 f (L (3 * i + 2)) = M2 L P Y i := fun f => mlk_2 _ (fun j hj => (lk_y (by omega) hI j (by have := (hI (3 * i + 2) (by omega)).1; omega)).2)
  have e1 : mlk (P (3 * i + 1)) (Y (3 * i + 1)) 1 (fun _ => M2 L P Y i) (L (3 * i + 1)) = M1 L P Y i := mlk_1 _
  refine qa_ic (nx := 1) (v := nI 2) at_22_0 (by decide) rfl ?_
  refine qa_s (pc' := 2) at_22_1 rfl rfl rfl ?_
  refine qa_s (pc' := 3) at_22_2 rfl rfl rfl ?_
  refine qn_if_lt (tg := 110) (nx := 6) at_22_3 rfl rfl (by decide) ?_
  refine qa_s (pc' := 7) at_22_6 rfl rfl rfl ?_
  refine qa_s (pc' := 8) at_22_7 rfl rfl rfl ?_
  refine qa_aald (nx := 9) (k := 2) at_22_8 (by decide) rfl rfl (show _ < 5 by omega) rfl (show 2 < 3 by omega) ?_
  refine qa_s (pc' := 10) at_22_9 rfl rfl rfl ?_
  refine qa_s (pc' := 11) at_22_10 rfl rfl rfl ?_
  refine qa_ic (nx := 12) (v := nI 0) at_22_11 (by decide) rfl ?_
  refine qa_put (nx := 15) at_22_12 rfl (by decide) rfl rfl rfl (show _ < 15 by omega) ?_
  refine qa_ic (nx := 16) (v := nI 0) at_22_15 (by decide) rfl ?_
  refine qa_s (pc' := 18) at_22_16 rfl rfl rfl ?_
  refine c22_l (r := 2) (f := fun _ => 0) hi (by decide) hI (fun y h1 h2 => by omega) (fun v2 => ?_) _ 0 (Nat.zero_add _)
  rw [e2]
  refine qa_decN (nx := 107) (x := 1) at_22_104 rfl rfl rfl ?_
  refine qa_goto (nx := 2) at_22_107 rfl ?_
  refine qa_s (pc' := 3) at_22_2 rfl rfl rfl ?_
  refine qn_if_lt (tg := 110) (nx := 6) at_22_3 rfl rfl (by decide) ?_
  refine qa_s (pc' := 7) at_22_6 rfl rfl rfl ?_
  refine qa_s (pc' := 8) at_22_7 rfl rfl rfl ?_
  refine qa_aald (nx := 9) (k := 1) at_22_8 (by decide) rfl rfl (show _ < 5 by omega) rfl (show 1 < 3 by omega) ?_
  refine qa_s (pc' := 10) at_22_9 rfl rfl rfl ?_
  refine qa_s (pc' := 11) at_22_10 rfl rfl rfl ?_
  refine qa_ic (nx := 12) (v := nI 0) at_22_11 (by decide) rfl ?_
  refine qa_put (nx := 15) at_22_12 rfl (by decide) rfl rfl rfl (show _ < 15 by omega) ?_
  refine qa_ic (nx := 16) (v := nI 0) at_22_15 (by decide) rfl ?_
  refine qa_s (pc' := 18) at_22_16 rfl rfl rfl ?_
  refine c22_l (r := 1) (f := fun _ => M2 L P Y i) (σ := up σ 13 (3 * i + 2) 5 (nI (M2 L P Y i))) hi (by decide) (hI2 _) (fun y h1 h2 => ?_) (fun v1 => ?_) _ 0 (Nat.zero_add _)
  · obtain rfl : y = 2 := by omega
    exact ⟨M2_16 hi hI, up_s⟩
  rw [e1]
  refine qa_decN (nx := 107) (x := 0) at_22_104 rfl rfl rfl ?_
  refine qa_goto (nx := 2) at_22_107 rfl ?_
  refine qa_s (pc' := 3) at_22_2 rfl rfl rfl ?_
  refine qn_if_lt (tg := 110) (nx := 6) at_22_3 rfl rfl (by decide) ?_
  refine qa_s (pc' := 7) at_22_6 rfl rfl rfl ?_
  refine qa_s (pc' := 8) at_22_7 rfl rfl rfl ?_
  refine qa_aald (nx := 9) (k := 0) at_22_8 (by decide) rfl rfl (show _ < 5 by omega) rfl (show 0 < 3 by omega) ?_
  refine qa_s (pc' := 10) at_22_9 rfl rfl rfl ?_
  refine qa_s (pc' := 11) at_22_10 rfl rfl rfl ?_
  refine qa_ic (nx := 12) (v := nI 0) at_22_11 (by decide) rfl ?_
  refine qa_put (nx := 15) at_22_12 rfl (by decide) rfl rfl rfl (show _ < 15 by omega) ?_
  refine qa_ic (nx := 16) (v := nI 0) at_22_15 (by decide) rfl ?_
  refine qa_s (pc' := 18) at_22_16 rfl rfl rfl ?_
  refine c22_l (r := 0) (f := fun y => if y = 1 then M1 L P Y i else M2 L P Y i) (σ := up (up σ 13 (3 * i + 2) 5 (nI (M2 L P Y i))) 13 (3 * i + 1) 5 (nI (M1 L P Y i))) hi (by decide) (hI1 _ _) (fun y h1 h2 => ?_) (fun v0 => ?_) _ 0 (Nat.zero_add _)
  · obtain rfl | rfl : y = 1 ∨ y = 2 := by omega
    · exact ⟨M1_16 hi hI, up_s⟩
    · exact ⟨M2_16 hi hI, by rw [up_i (by omega), up_s]; rfl⟩
  refine qa_dec0 (nx := 107) at_22_104 rfl rfl rfl ?_
  refine qa_goto (nx := 2) at_22_107 rfl ?_
  refine qa_s (pc' := 3) at_22_2 rfl rfl rfl ?_
  refine qa_if_lt (tg := 110) (nx := 6) at_22_3 rfl rfl (fun h22_3 => ?_) (fun h22_3 => ?_)
  · refine qa_ret at_22_110 rfl ?_
    refine K _ (fun a h => by rw [up_k h, up_k h, up_k h]) (fun n j h => ?_) ?_ ?_
    · by_cases g1 : n = 3 * i + 0 <;> by_cases g2 : n = 3 * i + 1 <;> by_cases g3 : n = 3 * i + 2 <;> simp [up, h]
    · rw [up_i (by omega), up_s]
    · rw [up_i (by omega), up_i (by omega), up_s]
  · exact absurd (show (-1 : Int32) < 0 by decide) h22_3
theorem c110_l {q mk R : Nat} (hi : i < 5) (hq1 : 1 ≤ q) (hq : q < 3) (hmk : mk < 16) (hR : R < 8) (hRq : R.testBit q = true) (hI : ImM L P Y σ) (K : ∀ v, qa cst 110 137 [(0, .ref (cl 40 0)), (1, .int (nI i)), (2, .int (nI r)), (3, .int (nI (mk ||| lk1 (P (3 * i + q)) (Y (3 * i + q)) (L (3 * i + q))))), (4, .int (nI (if cal (P (3 * i + q)) (Y (3 * i + q)) q (L (3 * i + q)) then R ||| 4 else R))), (5, .int (nI q)), (6, .int v)] [] σ Q) : ∀ m' m, m + m' = L (3 * i + q) → qa cst 110 19 [(0, .ref (cl 40 0)), (1, .int (nI i)), (2, .int (nI r)), (3, .int (nI (mk ||| lk1 (P (3 * i + q)) (Y (3 * i + q)) m))), (4, .int (nI (if cal (P (3 * i + q)) (Y (3 * i + q)) q m then R ||| 4 else R))), (5, .int (nI q)), (6, .int (nI m))] [] σ Q := by
  obtain ⟨hL, e48, h2⟩ := hI (3 * i + q) (by omega)
  intro m'
  induction m' with
  | zero =>
    intro m hm
    have e : m = L (3 * i + q) := by omega
    subst e
    refine qa_s (pc' := 21) at_110_19 rfl rfl rfl ?_
    refine qa_s (pc' := 22) at_110_21 rfl rfl rfl ?_
    refine qa_getR (nx := 25) at_110_22 rfl (by decide) rfl rfl (by decide) ?_
    refine qa_ic (nx := 26) (v := nI 3) at_110_25 (by decide) rfl ?_
    refine qa_s (pc' := 27) at_110_26 rfl rfl rfl ?_
    refine qa_mulN (nx := 28) at_110_27 rfl ?_
    refine qa_s (pc' := 30) at_110_28 rfl rfl rfl ?_
    refine qa_addN (nx := 31) at_110_30 rfl ?_
    refine qa_ialdV (nx := 32) (k := (3 * i) + q) (v := nI (L (3 * i + q))) at_110_31 rfl rfl rfl (by decide) rfl (show (3 * i) + q < 15 by omega) (show _ from e48) ?_
    refine qn_icmp_ge (tg := 137) (nx := 35) at_110_32 rfl rfl (by omega) (by omega) (fun h110_32 => ?_) (fun h110_32 => ?_)
    · exact K _
    · omega
  | succ m' ih =>
    intro m hm
    obtain ⟨hP, e44, h46⟩ := h2 m (by omega)
    have ih' := ih (m + 1) (by omega)
    have hlk := lk1_16 (p := P (3 * i + q)) (y := Y (3 * i + q)) m (fun j hj g => (imY (((h2 j (by omega)).2.2 (by omega))).2).1 g)
    have hmm := (or16 _ hmk _ hlk).1
    have hs : cal (P (3 * i + q)) (Y (3 * i + q)) q (m + 1) = (cal (P (3 * i + q)) (Y (3 * i + q)) q m || (P (3 * i + q) m == 10 && decide (q < Y (3 * i + q) m))) := rfl
    have hRR : ∀ c : Bool, (if c then R ||| 4 else R) < 16 ∧ (if c then R ||| 4 else R).testBit q = true := by
      intro c
      have : ∀ R, R < 8 → ∀ q, q < 3 → R.testBit q = true → R ||| 4 < 16 ∧ (R ||| 4).testBit q = true := by decide +kernel
      cases c
      · exact ⟨by show R < 16; omega, hRq⟩
      · exact this R hR q hq hRq
    obtain ⟨hR1, hR2⟩ := hRR (cal (P (3 * i + q)) (Y (3 * i + q)) q m)
    have hsh := (tb_sh _ hR1 q (by omega)).mpr hR2
    generalize hRe : (if cal (P (3 * i + q)) (Y (3 * i + q)) q m then R ||| 4 else R) = RR at hR1 hR2 hsh ⊢
    have back : ∀ (x y : Nat) (p v w : Int32), mk ||| lk1 (P (3 * i + q)) (Y (3 * i + q)) (m + 1) = x → (if cal (P (3 * i + q)) (Y (3 * i + q)) q (m + 1) then R ||| 4 else R) = y → v = nI x → w = nI y → qa cst 110 131 [(0, .ref (cl 40 0)), (1, .int (nI i)), (2, .int (nI r)), (3, .int v), (4, .int w), (5, .int (nI q)), (6, .int (nI m)), (7, .int p)] [] σ Q := by
      intro x y p v w e1 e2 e3 e4
      subst e1; subst e2; subst e3; subst e4
      refine qa_incN (nx := 134) (c := 1) at_110_131 (by decide) rfl rfl rfl ?_
      refine qa_goto (nx := 19) at_110_134 rfl ?_
      show qa _ _ _ [(0, .ref (cl 40 0)), (1, .int (nI i)), (2, .int (nI r)), (3, .int (nI (mk ||| lk1 (P (3 * i + q)) (Y (3 * i + q)) (m + 1)))), (4, .int (nI (if cal (P (3 * i + q)) (Y (3 * i + q)) q (m + 1) then R ||| 4 else R))), (5, .int (nI q)), (6, .int (nI (m + 1))), (7, .int _)] [] _ _
      exact qa_drop (l1 := [(0, .ref (cl 40 0)), (1, .int (nI i)), (2, .int (nI r)), (3, .int (nI (mk ||| lk1 (P (3 * i + q)) (Y (3 * i + q)) (m + 1)))), (4, .int (nI (if cal (P (3 * i + q)) (Y (3 * i + q)) q (m + 1) then R ||| 4 else R))), (5, .int (nI q)), (6, .int (nI (m + 1)))]) (by intro q hq; simp only [List.mem_cons, List.not_mem_nil, or_false] at hq ⊢; rcases hq with rfl | rfl | rfl | rfl | rfl | rfl | rfl <;> simp) (by simp [mj_nd]) (ih')
    have cases3 : P (3 * i + q) m = 8 ∨ P (3 * i + q) m = 10 ∨ (P (3 * i + q) m ≠ 8 ∧ P (3 * i + q) m ≠ 10) := by omega
    have c0 : ¬ P (3 * i + q) m = 10 → (if cal (P (3 * i + q)) (Y (3 * i + q)) q (m + 1) then R ||| 4 else R) = RR := fun g => by
      rw [hs, show (P (3 * i + q) m == 10 && decide (q < Y (3 * i + q) m)) = false by simp [g], Bool.or_false]; exact hRe
    have l0 : ¬ P (3 * i + q) m = 8 → mk ||| lk1 (P (3 * i + q)) (Y (3 * i + q)) (m + 1) = mk ||| lk1 (P (3 * i + q)) (Y (3 * i + q)) m := fun g => by rw [lk1, if_neg g]
    rcases cases3 with g | g | ⟨g, g'⟩
    · have hy := (h46 (by omega)).1
      have hy4 := (imY (h46 (by omega)).2).1 g
      refine qa_s (pc' := 21) at_110_19 rfl rfl rfl ?_
      refine qa_s (pc' := 22) at_110_21 rfl rfl rfl ?_
      refine qa_getR (nx := 25) at_110_22 rfl (by decide) rfl rfl (by decide) ?_
      refine qa_ic (nx := 26) (v := nI 3) at_110_25 (by decide) rfl ?_
      refine qa_s (pc' := 27) at_110_26 rfl rfl rfl ?_
      refine qa_mulN (nx := 28) at_110_27 rfl ?_
      refine qa_s (pc' := 30) at_110_28 rfl rfl rfl ?_
      refine qa_addN (nx := 31) at_110_30 rfl ?_
      refine qa_ialdV (nx := 32) (k := (3 * i) + q) (v := nI (L (3 * i + q))) at_110_31 rfl rfl rfl (by decide) rfl (show (3 * i) + q < 15 by omega) (show _ from e48) ?_
      refine qn_icmp_ge (tg := 137) (nx := 35) at_110_32 rfl rfl (by omega) (by omega) (fun h110_32 => ?_) (fun h110_32 => ?_)
      · omega
      · refine qa_s (pc' := 37) at_110_35 rfl rfl rfl ?_
        refine qa_s (pc' := 39) at_110_37 rfl rfl rfl ?_
        refine qa_s (pc' := 40) at_110_39 rfl rfl rfl ?_
        refine qa_ic (nx := 41) (v := nI 1) at_110_40 (by decide) rfl ?_
        refine qa_s (pc' := 42) at_110_41 rfl rfl rfl ?_
        refine qa_ic (nx := 43) (v := nI 1) at_110_42 (by decide) rfl ?_
        refine qa_icmp_ne (tg := 137) (nx := 46) at_110_43 rfl rfl (fun h110_43 => ?_) (fun h110_43 => ?_)
        · exact absurd hsh h110_43
        · refine qa_ic (nx := 47) (v := nI 3) at_110_46 (by decide) rfl ?_
          refine qa_s (pc' := 48) at_110_47 rfl rfl rfl ?_
          refine qa_mulN (nx := 49) at_110_48 rfl ?_
          refine qa_s (pc' := 51) at_110_49 rfl rfl rfl ?_
          refine qa_addN (nx := 52) at_110_51 rfl ?_
          refine qa_bi (nx := 54) (v := nI 12) at_110_52 (by decide) rfl ?_
          refine qa_mulN (nx := 55) at_110_54 rfl ?_
          refine qa_s (pc' := 57) at_110_55 rfl rfl rfl ?_
          refine qa_addN (nx := 58) at_110_57 rfl ?_
          refine qa_s (pc' := 60) at_110_58 rfl rfl rfl ?_
          refine qa_s (pc' := 61) at_110_60 rfl rfl rfl ?_
          refine qa_getR (nx := 64) at_110_61 rfl (by decide) rfl rfl (by decide) ?_
          refine qa_s (pc' := 66) at_110_64 rfl rfl rfl ?_
          refine qa_ialdV (nx := 67) (k := (((3 * i) + q) * 12) + m) (v := nI (P (3 * i + q) m)) at_110_66 rfl rfl rfl (by decide) rfl (show (((3 * i) + q) * 12) + m < 180 by omega) (show _ from e44) ?_
          refine qa_bi (nx := 69) (v := nI 8) at_110_67 (by decide) rfl ?_
          refine qn_icmp_ne (tg := 86) (nx := 72) at_110_69 rfl rfl (by omega) (by omega) (fun h110_69 => ?_) (fun h110_69 => ?_)
          · exact absurd g h110_69
          · refine qa_s (pc' := 73) at_110_72 rfl rfl rfl ?_
            refine qa_ic (nx := 74) (v := nI 1) at_110_73 (by decide) rfl ?_
            refine qa_s (pc' := 75) at_110_74 rfl rfl rfl ?_
            refine qa_getR (nx := 78) at_110_75 rfl (by decide) rfl rfl (by decide) ?_
            refine qa_s (pc' := 80) at_110_78 rfl rfl rfl ?_
            refine qa_ialdV (nx := 81) (k := (((3 * i) + q) * 12) + m) (v := nI (Y (3 * i + q) m)) at_110_80 rfl rfl rfl (by decide) rfl (show (((3 * i) + q) * 12) + m < 180 by omega) (show _ from hy) ?_
            refine qa_s (pc' := 82) at_110_81 rfl rfl rfl ?_
            refine qa_s (pc' := 83) at_110_82 rfl rfl rfl ?_
            refine qa_goto (nx := 87) at_110_83 rfl ?_
            refine qa_s (pc' := 88) at_110_87 rfl rfl rfl ?_
            refine qa_s (pc' := 89) at_110_88 rfl rfl rfl ?_
            refine qa_getR (nx := 92) at_110_89 rfl (by decide) rfl rfl (by decide) ?_
            refine qa_s (pc' := 94) at_110_92 rfl rfl rfl ?_
            refine qa_ialdV (nx := 95) (k := (((3 * i) + q) * 12) + m) (v := nI (P (3 * i + q) m)) at_110_94 rfl rfl rfl (by decide) rfl (show (((3 * i) + q) * 12) + m < 180 by omega) (show _ from e44) ?_
            refine qa_bi (nx := 97) (v := nI 10) at_110_95 (by decide) rfl ?_
            refine qn_icmp_ne (tg := 127) (nx := 100) at_110_97 rfl rfl (by omega) (by omega) (fun h110_97 => ?_) (fun h110_97 => ?_)
            · refine qa_s (pc' := 129) at_110_127 rfl rfl rfl ?_
              refine qa_s (pc' := 131) at_110_129 rfl rfl rfl ?_
              exact back _ _ _ _ _ (by rw [lk1, if_pos g]) (c0 (by omega)) (by rw [(sh4 _ hy4).2, (or16 _ hmm _ (sh4 _ hy4).1).2.1, Nat.or_assoc]) rfl
            · omega
    · have hy := (h46 (by omega)).1
      have hy2 := (imY (h46 (by omega)).2).2.1 g
      refine qa_s (pc' := 21) at_110_19 rfl rfl rfl ?_
      refine qa_s (pc' := 22) at_110_21 rfl rfl rfl ?_
      refine qa_getR (nx := 25) at_110_22 rfl (by decide) rfl rfl (by decide) ?_
      refine qa_ic (nx := 26) (v := nI 3) at_110_25 (by decide) rfl ?_
      refine qa_s (pc' := 27) at_110_26 rfl rfl rfl ?_
      refine qa_mulN (nx := 28) at_110_27 rfl ?_
      refine qa_s (pc' := 30) at_110_28 rfl rfl rfl ?_
      refine qa_addN (nx := 31) at_110_30 rfl ?_
      refine qa_ialdV (nx := 32) (k := (3 * i) + q) (v := nI (L (3 * i + q))) at_110_31 rfl rfl rfl (by decide) rfl (show (3 * i) + q < 15 by omega) (show _ from e48) ?_
      refine qn_icmp_ge (tg := 137) (nx := 35) at_110_32 rfl rfl (by omega) (by omega) (fun h110_32 => ?_) (fun h110_32 => ?_)
      · omega
      · refine qa_s (pc' := 37) at_110_35 rfl rfl rfl ?_
        refine qa_s (pc' := 39) at_110_37 rfl rfl rfl ?_
        refine qa_s (pc' := 40) at_110_39 rfl rfl rfl ?_
        refine qa_ic (nx := 41) (v := nI 1) at_110_40 (by decide) rfl ?_
        refine qa_s (pc' := 42) at_110_41 rfl rfl rfl ?_
        refine qa_ic (nx := 43) (v := nI 1) at_110_42 (by decide) rfl ?_
        refine qa_icmp_ne (tg := 137) (nx := 46) at_110_43 rfl rfl (fun h110_43 => ?_) (fun h110_43 => ?_)
        · exact absurd hsh h110_43
        · refine qa_ic (nx := 47) (v := nI 3) at_110_46 (by decide) rfl ?_
          refine qa_s (pc' := 48) at_110_47 rfl rfl rfl ?_
          refine qa_mulN (nx := 49) at_110_48 rfl ?_
          refine qa_s (pc' := 51) at_110_49 rfl rfl rfl ?_
          refine qa_addN (nx := 52) at_110_51 rfl ?_
          refine qa_bi (nx := 54) (v := nI 12) at_110_52 (by decide) rfl ?_
          refine qa_mulN (nx := 55) at_110_54 rfl ?_
          refine qa_s (pc' := 57) at_110_55 rfl rfl rfl ?_
          refine qa_addN (nx := 58) at_110_57 rfl ?_
          refine qa_s (pc' := 60) at_110_58 rfl rfl rfl ?_
          refine qa_s (pc' := 61) at_110_60 rfl rfl rfl ?_
          refine qa_getR (nx := 64) at_110_61 rfl (by decide) rfl rfl (by decide) ?_
          refine qa_s (pc' := 66) at_110_64 rfl rfl rfl ?_
          refine qa_ialdV (nx := 67) (k := (((3 * i) + q) * 12) + m) (v := nI (P (3 * i + q) m)) at_110_66 rfl rfl rfl (by decide) rfl (show (((3 * i) + q) * 12) + m < 180 by omega) (show _ from e44) ?_
          refine qa_bi (nx := 69) (v := nI 8) at_110_67 (by decide) rfl ?_
          refine qn_icmp_ne (tg := 86) (nx := 72) at_110_69 rfl rfl (by omega) (by omega) (fun h110_69 => ?_) (fun h110_69 => ?_)
          · refine qa_s (pc' := 87) at_110_86 rfl rfl rfl ?_
            refine qa_s (pc' := 88) at_110_87 rfl rfl rfl ?_
            refine qa_s (pc' := 89) at_110_88 rfl rfl rfl ?_
            refine qa_getR (nx := 92) at_110_89 rfl (by decide) rfl rfl (by decide) ?_
            refine qa_s (pc' := 94) at_110_92 rfl rfl rfl ?_
            refine qa_ialdV (nx := 95) (k := (((3 * i) + q) * 12) + m) (v := nI (P (3 * i + q) m)) at_110_94 rfl rfl rfl (by decide) rfl (show (((3 * i) + q) * 12) + m < 180 by omega) (show _ from e44) ?_
            refine qa_bi (nx := 97) (v := nI 10) at_110_95 (by decide) rfl ?_
            refine qn_icmp_ne (tg := 127) (nx := 100) at_110_97 rfl rfl (by omega) (by omega) (fun h110_97 => ?_) (fun h110_97 => ?_)
            · exact absurd g h110_97
            · refine qa_s (pc' := 101) at_110_100 rfl rfl rfl ?_
              refine qa_getR (nx := 104) at_110_101 rfl (by decide) rfl rfl (by decide) ?_
              refine qa_s (pc' := 106) at_110_104 rfl rfl rfl ?_
              refine qa_ialdV (nx := 107) (k := (((3 * i) + q) * 12) + m) (v := nI (Y (3 * i + q) m)) at_110_106 rfl rfl rfl (by decide) rfl (show (((3 * i) + q) * 12) + m < 180 by omega) (show _ from hy) ?_
              refine qa_s (pc' := 109) at_110_107 rfl rfl rfl ?_
              refine qn_icmp_le (tg := 127) (nx := 112) at_110_109 rfl rfl (by omega) (by omega) (fun h110_109 => ?_) (fun h110_109 => ?_)
              · refine qa_s (pc' := 129) at_110_127 rfl rfl rfl ?_
                refine qa_s (pc' := 131) at_110_129 rfl rfl rfl ?_
                first
                  | exact back _ _ _ _ _ (l0 (by omega)) (by rw [hs, show (P (3 * i + q) m == 10 && decide (q < Y (3 * i + q) m)) = false by simp; omega, Bool.or_false]; exact hRe) rfl rfl
                  | (have hqq : Y (3 * i + q) m = 2 := by omega
                     have h4 : RR ||| 4 = R ||| 4 := by
                       rw [← hRe]; cases cal (P (3 * i + q)) (Y (3 * i + q)) q m
                       · rfl
                       · show (R ||| 4) ||| 4 = _; rw [Nat.or_assoc, Nat.or_self]
                     exact back _ _ _ _ _ (l0 (by omega)) (by rw [hs, show (P (3 * i + q) m == 10 && decide (q < Y (3 * i + q) m)) = true by simp [g]; omega, Bool.or_true, if_pos rfl]) rfl (by rw [hqq, (sh4 2 (by decide)).2, (or16 _ hR1 _ (by decide)).2.1]; exact congrArg nI h4))
              · refine qa_s (pc' := 114) at_110_112 rfl rfl rfl ?_
                refine qa_ic (nx := 115) (v := nI 1) at_110_114 (by decide) rfl ?_
                refine qa_s (pc' := 116) at_110_115 rfl rfl rfl ?_
                refine qa_getR (nx := 119) at_110_116 rfl (by decide) rfl rfl (by decide) ?_
                refine qa_s (pc' := 121) at_110_119 rfl rfl rfl ?_
                refine qa_ialdV (nx := 122) (k := (((3 * i) + q) * 12) + m) (v := nI (Y (3 * i + q) m)) at_110_121 rfl rfl rfl (by decide) rfl (show (((3 * i) + q) * 12) + m < 180 by omega) (show _ from hy) ?_
                refine qa_s (pc' := 123) at_110_122 rfl rfl rfl ?_
                refine qa_s (pc' := 124) at_110_123 rfl rfl rfl ?_
                refine qa_goto (nx := 129) at_110_124 rfl ?_
                refine qa_s (pc' := 131) at_110_129 rfl rfl rfl ?_
                first
                  | exact back _ _ _ _ _ (l0 (by omega)) (by rw [hs, show (P (3 * i + q) m == 10 && decide (q < Y (3 * i + q) m)) = false by simp; omega, Bool.or_false]; exact hRe) rfl rfl
                  | (have hqq : Y (3 * i + q) m = 2 := by omega
                     have h4 : RR ||| 4 = R ||| 4 := by
                       rw [← hRe]; cases cal (P (3 * i + q)) (Y (3 * i + q)) q m
                       · rfl
                       · show (R ||| 4) ||| 4 = _; rw [Nat.or_assoc, Nat.or_self]
                     exact back _ _ _ _ _ (l0 (by omega)) (by rw [hs, show (P (3 * i + q) m == 10 && decide (q < Y (3 * i + q) m)) = true by simp [g]; omega, Bool.or_true, if_pos rfl]) rfl (by rw [hqq, (sh4 2 (by decide)).2, (or16 _ hR1 _ (by decide)).2.1]; exact congrArg nI h4))
          · omega
    · refine qa_s (pc' := 21) at_110_19 rfl rfl rfl ?_
      refine qa_s (pc' := 22) at_110_21 rfl rfl rfl ?_
      refine qa_getR (nx := 25) at_110_22 rfl (by decide) rfl rfl (by decide) ?_
      refine qa_ic (nx := 26) (v := nI 3) at_110_25 (by decide) rfl ?_
      refine qa_s (pc' := 27) at_110_26 rfl rfl rfl ?_
      refine qa_mulN (nx := 28) at_110_27 rfl ?_
      refine qa_s (pc' := 30) at_110_28 rfl rfl rfl ?_
      refine qa_addN (nx := 31) at_110_30 rfl ?_
      refine qa_ialdV (nx := 32) (k := (3 * i) + q) (v := nI (L (3 * i + q))) at_110_31 rfl rfl rfl (by decide) rfl (show (3 * i) + q < 15 by omega) (show _ from e48) ?_
      refine qn_icmp_ge (tg := 137) (nx := 35) at_110_32 rfl rfl (by omega) (by omega) (fun h110_32 => ?_) (fun h110_32 => ?_)
      · omega
      · refine qa_s (pc' := 37) at_110_35 rfl rfl rfl ?_
        refine qa_s (pc' := 39) at_110_37 rfl rfl rfl ?_
        refine qa_s (pc' := 40) at_110_39 rfl rfl rfl ?_
        refine qa_ic (nx := 41) (v := nI 1) at_110_40 (by decide) rfl ?_
        refine qa_s (pc' := 42) at_110_41 rfl rfl rfl ?_
        refine qa_ic (nx := 43) (v := nI 1) at_110_42 (by decide) rfl ?_
        refine qa_icmp_ne (tg := 137) (nx := 46) at_110_43 rfl rfl (fun h110_43 => ?_) (fun h110_43 => ?_)
        · exact absurd hsh h110_43
        · refine qa_ic (nx := 47) (v := nI 3) at_110_46 (by decide) rfl ?_
          refine qa_s (pc' := 48) at_110_47 rfl rfl rfl ?_
          refine qa_mulN (nx := 49) at_110_48 rfl ?_
          refine qa_s (pc' := 51) at_110_49 rfl rfl rfl ?_
          refine qa_addN (nx := 52) at_110_51 rfl ?_
          refine qa_bi (nx := 54) (v := nI 12) at_110_52 (by decide) rfl ?_
          refine qa_mulN (nx := 55) at_110_54 rfl ?_
          refine qa_s (pc' := 57) at_110_55 rfl rfl rfl ?_
          refine qa_addN (nx := 58) at_110_57 rfl ?_
          refine qa_s (pc' := 60) at_110_58 rfl rfl rfl ?_
          refine qa_s (pc' := 61) at_110_60 rfl rfl rfl ?_
          refine qa_getR (nx := 64) at_110_61 rfl (by decide) rfl rfl (by decide) ?_
          refine qa_s (pc' := 66) at_110_64 rfl rfl rfl ?_
          refine qa_ialdV (nx := 67) (k := (((3 * i) + q) * 12) + m) (v := nI (P (3 * i + q) m)) at_110_66 rfl rfl rfl (by decide) rfl (show (((3 * i) + q) * 12) + m < 180 by omega) (show _ from e44) ?_
          refine qa_bi (nx := 69) (v := nI 8) at_110_67 (by decide) rfl ?_
          refine qn_icmp_ne (tg := 86) (nx := 72) at_110_69 rfl rfl (by omega) (by omega) (fun h110_69 => ?_) (fun h110_69 => ?_)
          · refine qa_s (pc' := 87) at_110_86 rfl rfl rfl ?_
            refine qa_s (pc' := 88) at_110_87 rfl rfl rfl ?_
            refine qa_s (pc' := 89) at_110_88 rfl rfl rfl ?_
            refine qa_getR (nx := 92) at_110_89 rfl (by decide) rfl rfl (by decide) ?_
            refine qa_s (pc' := 94) at_110_92 rfl rfl rfl ?_
            refine qa_ialdV (nx := 95) (k := (((3 * i) + q) * 12) + m) (v := nI (P (3 * i + q) m)) at_110_94 rfl rfl rfl (by decide) rfl (show (((3 * i) + q) * 12) + m < 180 by omega) (show _ from e44) ?_
            refine qa_bi (nx := 97) (v := nI 10) at_110_95 (by decide) rfl ?_
            refine qn_icmp_ne (tg := 127) (nx := 100) at_110_97 rfl rfl (by omega) (by omega) (fun h110_97 => ?_) (fun h110_97 => ?_)
            · refine qa_s (pc' := 129) at_110_127 rfl rfl rfl ?_
              refine qa_s (pc' := 131) at_110_129 rfl rfl rfl ?_
              exact back _ _ _ _ _ (l0 g) (c0 g') rfl rfl
            · exact absurd h110_97 g'
          · exact absurd h110_69 g
theorem c110_s {q mk R : Nat} {v3 v4 : Int32} (h3 : v3 = nI mk) (h4 : v4 = nI R) (hi : i < 5) (hq1 : 1 ≤ q) (hq : q < 3) (hmk : mk < 16) (hR : R < 8) (hRq : R.testBit q = true) (hI : ImM L P Y σ) (K : ∀ v, qa cst 110 137 [(0, .ref (cl 40 0)), (1, .int (nI i)), (2, .int (nI r)), (3, .int (nI (mk ||| lk1 (P (3 * i + q)) (Y (3 * i + q)) (L (3 * i + q))))), (4, .int (nI (if cal (P (3 * i + q)) (Y (3 * i + q)) q (L (3 * i + q)) then R ||| 4 else R))), (5, .int (nI q)), (6, .int v)] [] σ Q) : qa cst 110 19 [(0, .ref (cl 40 0)), (1, .int (nI i)), (2, .int (nI r)), (3, .int v3), (4, .int v4), (5, .int (nI q)), (6, .int (nI 0))] [] σ Q := by
  subst h3; subst h4
  have h := c110_l hi hq1 hq hmk hR hRq hI K _ 0 (Nat.zero_add _)
  rw [show mk ||| lk1 (P (3 * i + q)) (Y (3 * i + q)) 0 = mk from Nat.or_zero _, if_neg (by simp [cal])] at h
  exact h
theorem c110_2 (hi : i < 5) (hI : ImM L P Y σ) (K : Q (some (.int (nI (M2 L P Y i)))) σ) : qa cst 110 0 [(0, .ref (cl 40 0)), (1, .int (nI i)), (2, .int (nI 2))] [] σ Q := by
  refine qa_ic (nx := 1) (v := nI 0) at_110_0 (by decide) rfl ?_
  refine qa_s (pc' := 2) at_110_1 rfl rfl rfl ?_
  refine qa_ic (nx := 3) (v := nI 1) at_110_2 (by decide) rfl ?_
  refine qa_s (pc' := 4) at_110_3 rfl rfl rfl ?_
  refine qa_s (pc' := 5) at_110_4 rfl rfl rfl ?_
  rw [(sh4 2 (by decide)).2]
  refine qa_s (pc' := 7) at_110_5 rfl rfl rfl ?_
  refine qa_s (pc' := 8) at_110_7 rfl rfl rfl ?_
  refine qa_s (pc' := 10) at_110_8 rfl rfl rfl ?_
  refine qa_s (pc' := 12) at_110_10 rfl rfl rfl ?_
  refine qa_ic (nx := 13) (v := nI 3) at_110_12 (by decide) rfl ?_
  refine qn_icmp_ge (tg := 143) (nx := 16) at_110_13 rfl rfl (by decide) (by decide) (fun h => absurd h (by decide)) (fun h110_13 => ?_)
  refine qa_ic (nx := 17) (v := nI 0) at_110_16 (by decide) rfl ?_
  refine qa_s (pc' := 19) at_110_17 rfl rfl rfl ?_
  refine c110_s (q := 2) (mk := 0) (R := 4) (r := 2) rfl (by decide) hi (by decide) (by decide) (by decide) (by decide) (by decide) hI (fun v => ?_)
  refine qa_incN (nx := 140) (c := 1) at_110_137 (by decide) rfl rfl rfl ?_
  refine qa_goto (nx := 10) at_110_140 rfl ?_
  refine qa_s (pc' := 12) at_110_10 rfl rfl rfl ?_
  refine qa_ic (nx := 13) (v := nI 3) at_110_12 (by decide) rfl ?_
  refine qn_icmp_ge (tg := 143) (nx := 16) at_110_13 rfl rfl (by decide) (by decide) (fun h110_13 => ?_) (fun h => absurd h (by decide))
  refine qa_s (pc' := 144) at_110_143 rfl rfl rfl ?_
  refine qa_ret at_110_144 rfl ?_
  rw [Nat.zero_or]
  exact K
theorem c110_1 (hi : i < 5) (hI : ImM L P Y σ) (h16 : lk1 (P (3 * i + 1)) (Y (3 * i + 1)) (L (3 * i + 1)) < 16) (K : Q (some (.int (nI (M1 L P Y i)))) σ) : qa cst 110 0 [(0, .ref (cl 40 0)), (1, .int (nI i)), (2, .int (nI 1))] [] σ Q := by
  obtain ⟨hL, e48, -⟩ := hI (3 * i + 2) (by omega)
  refine qa_ic (nx := 1) (v := nI 0) at_110_0 (by decide) rfl ?_
  refine qa_s (pc' := 2) at_110_1 rfl rfl rfl ?_
  refine qa_ic (nx := 3) (v := nI 1) at_110_2 (by decide) rfl ?_
  refine qa_s (pc' := 4) at_110_3 rfl rfl rfl ?_
  refine qa_s (pc' := 5) at_110_4 rfl rfl rfl ?_
  rw [(sh4 1 (by decide)).2]
  refine qa_s (pc' := 7) at_110_5 rfl rfl rfl ?_
  refine qa_s (pc' := 8) at_110_7 rfl rfl rfl ?_
  refine qa_s (pc' := 10) at_110_8 rfl rfl rfl ?_
  refine qa_s (pc' := 12) at_110_10 rfl rfl rfl ?_
  refine qa_ic (nx := 13) (v := nI 3) at_110_12 (by decide) rfl ?_
  refine qn_icmp_ge (tg := 143) (nx := 16) at_110_13 rfl rfl (by decide) (by decide) (fun h => absurd h (by decide)) (fun h110_13 => ?_)
  refine qa_ic (nx := 17) (v := nI 0) at_110_16 (by decide) rfl ?_
  refine qa_s (pc' := 19) at_110_17 rfl rfl rfl ?_
  refine c110_s (q := 1) (mk := 0) (R := 2) (r := 1) rfl (by decide) hi (by decide) (by decide) (by decide) (by decide) (by decide) hI (fun v => ?_)
  refine qa_incN (nx := 140) (c := 1) at_110_137 (by decide) rfl rfl rfl ?_
  refine qa_goto (nx := 10) at_110_140 rfl ?_
  refine qa_s (pc' := 12) at_110_10 rfl rfl rfl ?_
  refine qa_ic (nx := 13) (v := nI 3) at_110_12 (by decide) rfl ?_
  refine qn_icmp_ge (tg := 143) (nx := 16) at_110_13 rfl rfl (by decide) (by decide) (fun h => absurd h (by decide)) (fun h110_13 => ?_)
  refine qa_ic (nx := 17) (v := nI 0) at_110_16 (by decide) rfl ?_
  refine qa_s (pc' := 19) at_110_17 rfl rfl rfl ?_
  by_cases hc : cal (P (3 * i + 1)) (Y (3 * i + 1)) 1 (L (3 * i + 1)) = true
  · rw [if_pos hc]
    refine c110_s (q := 2) (mk := 0 ||| lk1 (P (3 * i + 1)) (Y (3 * i + 1)) (L (3 * i + 1))) (R := 6) (r := 1) rfl (by decide) hi (by decide) (by decide) (by rw [Nat.zero_or]; exact h16) (by decide) (by decide) hI (fun v2 => ?_)
    refine qa_incN (nx := 140) (c := 1) at_110_137 (by decide) rfl rfl rfl ?_
    refine qa_goto (nx := 10) at_110_140 rfl ?_
    refine qa_s (pc' := 12) at_110_10 rfl rfl rfl ?_
    refine qa_ic (nx := 13) (v := nI 3) at_110_12 (by decide) rfl ?_
    refine qn_icmp_ge (tg := 143) (nx := 16) at_110_13 rfl rfl (by decide) (by decide) (fun h110_13 => ?_) (fun h => absurd h (by decide))
    refine qa_s (pc' := 144) at_110_143 rfl rfl rfl ?_
    refine qa_ret at_110_144 rfl ?_
    rw [Nat.zero_or]
    rw [M1, if_pos hc] at K
    exact K
  · rw [if_neg hc]
    have ef : ∀ w, qa cst 110 137 [(0, .ref (cl 40 0)), (1, .int (nI i)), (2, .int (nI 1)), (3, .int (nI (0 ||| lk1 (P (3 * i + 1)) (Y (3 * i + 1)) (L (3 * i + 1))))), (4, .int (nI 2)), (5, .int (nI 2)), (6, .int w)] [] σ Q := by
      intro w
      refine qa_incN (nx := 140) (c := 1) at_110_137 (by decide) rfl rfl rfl ?_
      refine qa_goto (nx := 10) at_110_140 rfl ?_
      refine qa_s (pc' := 12) at_110_10 rfl rfl rfl ?_
      refine qa_ic (nx := 13) (v := nI 3) at_110_12 (by decide) rfl ?_
      refine qn_icmp_ge (tg := 143) (nx := 16) at_110_13 rfl rfl (by decide) (by decide) (fun h110_13 => ?_) (fun h => absurd h (by decide))
      refine qa_s (pc' := 144) at_110_143 rfl rfl rfl ?_
      refine qa_ret at_110_144 rfl ?_
      rw [Nat.zero_or]
      rw [M1, if_neg hc] at K
      exact K
    refine qa_s (pc' := 21) at_110_19 rfl rfl rfl ?_
    refine qa_s (pc' := 22) at_110_21 rfl rfl rfl ?_
    refine qa_getR (nx := 25) at_110_22 rfl (by decide) rfl rfl (by decide) ?_
    refine qa_ic (nx := 26) (v := nI 3) at_110_25 (by decide) rfl ?_
    refine qa_s (pc' := 27) at_110_26 rfl rfl rfl ?_
    refine qa_mulN (nx := 28) at_110_27 rfl ?_
    refine qa_s (pc' := 30) at_110_28 rfl rfl rfl ?_
    refine qa_addN (nx := 31) at_110_30 rfl ?_
    refine qa_ialdV (nx := 32) (k := (3 * i) + 2) (v := nI (L (3 * i + 2))) at_110_31 rfl rfl rfl (by decide) rfl (show (3 * i) + 2 < 15 by omega) (show _ from e48) ?_
    refine qn_icmp_ge (tg := 137) (nx := 35) at_110_32 rfl rfl (by omega) (by omega) (fun h110_32 => ?_) (fun h110_32 => ?_)
    · exact ef _
    · refine qa_s (pc' := 37) at_110_35 rfl rfl rfl ?_
      refine qa_s (pc' := 39) at_110_37 rfl rfl rfl ?_
      refine qa_s (pc' := 40) at_110_39 rfl rfl rfl ?_
      refine qa_ic (nx := 41) (v := nI 1) at_110_40 (by decide) rfl ?_
      refine qa_s (pc' := 42) at_110_41 rfl rfl rfl ?_
      refine qa_ic (nx := 43) (v := nI 1) at_110_42 (by decide) rfl ?_
      refine qa_icmp_ne (tg := 137) (nx := 46) at_110_43 rfl rfl (fun h110_43 => ?_) (fun h110_43 => ?_)
      · exact ef _
      · exact absurd h110_43 (by decide)
end PQ
