/-! the fourth call: a routine is checked, the reference -/
section PQ
variable {cst : List (List Int32)} {σ b : sg} {Q : Option Value → sg → Prop} {T k i r d n : Nat} {s : Nat → Nat} {L : Nat → Nat} {P Y : Nat → Nat → Nat} {mk : Nat → Nat} {p : Nat → Nat}
theorem c108_q (hi : i < 5) (hr : r < 3) (hk : k < L (3 * i + r)) (hI : ImM L P Y σ) (hO : opM_ (3 * i + r) d s σ) (hS : StOk (P (3 * i + r)) (Y (3 * i + r)) s d k) (K : ∀ w, ckR L P Y (mks L P Y i) i r s d k = w → w < 9 → Q (some (.int (nI w))) σ) : qa cst 108 0 [(0, .ref (cl 40 0)), (1, .int (nI i)), (2, .int (nI r)), (3, .int (nI k))] [] σ Q := by
  have hP := ((hI (3 * i + r) (by omega)).2.2 k (by have := (hI (3 * i + r) (by omega)).1; omega)).1
  have hoc : P (3 * i + r) k = 7 ∨ P (3 * i + r) k = 9 ∨ P (3 * i + r) k = 6 ∨ P (3 * i + r) k = 8 ∨ P (3 * i + r) k = 10 ∨ P (3 * i + r) k = 5 ∨ P (3 * i + r) k = 0 ∨ P (3 * i + r) k = 1 ∨ P (3 * i + r) k = 2 ∨ P (3 * i + r) k = 3 ∨ P (3 * i + r) k = 4 ∨ P (3 * i + r) k = 11 ∨ P (3 * i + r) k = 12 ∨ P (3 * i + r) k = 13 ∨ P (3 * i + r) k = 14 := by omega
  rcases hoc with ho | ho | ho | ho | ho | ho | ho | ho | ho | ho | ho | ho | ho | ho | ho
  · have hR : ckR L P Y (mks L P Y i) i r s d k = (if 0 < d ∧ P (3 * i + r) (s (d - 1)) = 6 then 0 else 2) := by unfold ckR; simp [ho]
    exact me7_q hi hr hk hI hO hS ho (fun g => K 0 (by rw [hR, if_pos g]) (by decide)) (fun g => K 2 (by rw [hR, if_neg g]) (by decide))
  · have hR : ckR L P Y (mks L P Y i) i r s d k = (if 0 < d ∧ P (3 * i + r) (s (d - 1)) = 8 then 0 else 2) := by unfold ckR; simp [ho]
    exact me9_q hi hr hk hI hO hS ho (fun g => K 0 (by rw [hR, if_pos g]) (by decide)) (fun g => K 2 (by rw [hR, if_neg g]) (by decide))
  · have hR : ckR L P Y (mks L P Y i) i r s d k = (if lps (P (3 * i + r)) s d = 2 then 3 else 0) := by unfold ckR; simp [ho]
    exact me6_q hi hr hk hI hO hS ho (fun g => K 0 (by rw [hR, if_neg g]) (by decide)) (fun g => K 3 (by rw [hR, if_pos g]) (by decide))
  · have hR : ckR L P Y (mks L P Y i) i r s d k = (if (lks (P (3 * i + r)) (Y (3 * i + r)) s d).testBit (Y (3 * i + r) k) = true then 5 else 0) := by unfold ckR; simp [ho]
    exact me8_q hi hr hk hI hO hS ho (fun g => K 0 (by rw [hR, if_neg (by rw [g]; decide)]) (by decide)) (fun g => K 5 (by rw [hR, if_pos g]) (by decide))
  · have hR : ckR L P Y (mks L P Y i) i r s d k = (if Y (3 * i + r) k ≤ r ∨ L (3 * i + Y (3 * i + r) k) = 0 then 4 else if lks (P (3 * i + r)) (Y (3 * i + r)) s d &&& mks L P Y i (Y (3 * i + r) k) = 0 then 0 else 5) := by unfold ckR; simp [ho]
    exact me10_q hi hr hk hI hO hS ho (fun g1 g2 => K 0 (by rw [hR, if_neg g1, if_pos g2]) (by decide)) (fun g => K 4 (by rw [hR, if_pos g]) (by decide)) (fun g1 g2 => K 5 (by rw [hR, if_neg g1, if_neg g2]) (by decide))
  · have hR : ckR L P Y (mks L P Y i) i r s d k = (if k + 1 + Y (3 * i + r) k ≤ L (3 * i + r) ∧ jmp (P (3 * i + r)) (Y (3 * i + r) k) (k + 1) 0 = true then 0 else 6) := by unfold ckR; simp [ho]
    exact me5_q hi hr hk hI hO hS ho (fun g => K 0 (by rw [hR, if_pos g]) (by decide)) (fun g => K 6 (by rw [hR, if_neg g]) (by decide))
  · exact me0_q hi hr hk hI hO hS ho (K 0 (by unfold ckR; simp [ho]) (by decide))
  · exact me1_q hi hr hk hI hO hS ho (K 0 (by unfold ckR; simp [ho]) (by decide))
  · exact me2_q hi hr hk hI hO hS ho (K 0 (by unfold ckR; simp [ho]) (by decide))
  · exact me3_q hi hr hk hI hO hS ho (K 0 (by unfold ckR; simp [ho]) (by decide))
  · exact me4_q hi hr hk hI hO hS ho (K 0 (by unfold ckR; simp [ho]) (by decide))
  · exact me11_q hi hr hk hI hO hS ho (K 0 (by unfold ckR; simp [ho]) (by decide))
  · exact me12_q hi hr hk hI hO hS ho (K 0 (by unfold ckR; simp [ho]) (by decide))
  · exact me13_q hi hr hk hI hO hS ho (K 0 (by unfold ckR; simp [ho]) (by decide))
  · exact me14_q hi hr hk hI hO hS ho (K 0 (by unfold ckR; simp [ho]) (by decide))
/-- what bracket leaves alone -/
def frB (σ1 σ : sg) : Prop := (∀ a, a ≠ 40 → a ≠ 47 → a ≠ 50 → σ1 a = σ a) ∧ ∀ j, j ≠ 14 → σ1 40 0 j = σ 40 0 j
/-- the reference's mates after the instruction at k -/
def mtM (p s : Nat → Nat) (d k n : Nat) (σ1 σ : sg) : Prop := σ1 47 = if p k = 7 ∨ p k = 9 then up (up σ 47 0 (n * 12 + k) (nI (n * 12 + s (d - 1)))) 47 0 (n * 12 + s (d - 1)) (nI (n * 12 + k)) 47 else σ 47
theorem c114_0 {v : Int32} (K : Q none σ) : qa cst 114 0 [(0, .ref (cl 40 0)), (1, .int v), (2, .int (nI 0))] [] σ Q := by
  refine qa_s (pc' := 1) at_114_0 rfl rfl rfl ?_
  refine qn_if_eq (tg := 16) (nx := 4) at_114_1 rfl rfl (by decide) (fun h114_1 => ?_) (fun h => absurd h (by decide))
  refine qa_ic (nx := 17) (v := nI 0) at_114_16 (by decide) rfl ?_
  refine qa_s (pc' := 18) at_114_17 rfl rfl rfl ?_
  refine qa_s (pc' := 19) at_114_18 rfl rfl rfl ?_
  refine qn_if_le (tg := 42) (nx := 22) at_114_19 rfl rfl (by decide) (fun h114_19 => ?_) (fun h => absurd h (by decide))
  refine qa_s (pc' := 43) at_114_42 rfl rfl rfl ?_
  refine qn_if_ge (tg := 86) (nx := 46) at_114_43 rfl rfl (by decide) ?_
  refine qa_ret at_114_86 rfl ?_
  exact K
theorem c114_q (hn : n < 15) (hk : k < L n) (hI : ImM L P Y σ) (hO : opM_ n d s σ) (hdk : d ≤ k) (hcl : (P n k = 7 ∨ P n k = 9) → 0 < d) (K : ∀ σ1, opM_ n (nxd (P n) d k) (nxs (P n) s d k) σ1 → frB σ1 σ → mtM (P n) s d k n σ1 σ → Q none σ1) : qa cst 114 0 [(0, .ref (cl 40 0)), (1, .int (nI (n * 12 + k))), (2, .int (nI 1))] [] σ Q := by
  obtain ⟨hL, e48, h2⟩ := hI n hn
  obtain ⟨hP, e44, h46⟩ := h2 k (by omega)
  obtain ⟨o12, o14, o5⟩ := id hO
  by_cases g6 : P n k = 6 ∨ P n k = 8
  · have htr : trn (P n k) = nI 1 := by unfold trn; rw [if_pos g6]
    refine qa_s (pc' := 1) at_114_0 rfl rfl rfl ?_
    refine qn_if_eq (tg := 16) (nx := 4) at_114_1 rfl rfl (by decide) (fun h => absurd h (by decide)) (fun h114_1 => ?_)
    refine qa_s (pc' := 5) at_114_4 rfl rfl rfl ?_
    refine qa_getR (nx := 8) at_114_5 rfl (by decide) rfl rfl (by decide) ?_
    refine qa_s (pc' := 9) at_114_8 rfl rfl rfl ?_
    refine qa_ialdV (nx := 10) (k := n * 12 + k) (v := nI (P n k)) at_114_9 rfl rfl rfl (by decide) rfl (show n * 12 + k < 180 by omega) (show _ from e44) ?_
    refine qa_callS (nx := 13) at_114_10 rfl rfl (Nat.le_of_ble_eq_true rfl) rfl rfl (by decide) rfl ?_
    show qa _ 113 0 [(0, .int _)] [] _ _
    refine c113_q (o := P n k) hP ?_
    rw [htr]
    show qa _ 114 13 _ [.int _] _ _
    refine qa_goto (nx := 17) at_114_13 rfl ?_
    refine qa_s (pc' := 18) at_114_17 rfl rfl rfl ?_
    refine qa_s (pc' := 19) at_114_18 rfl rfl rfl ?_
    refine qn_if_le (tg := 42) (nx := 22) at_114_19 rfl rfl (by decide) (fun h => absurd h (by decide)) (fun h114_19 => ?_)
    refine qa_s (pc' := 23) at_114_22 rfl rfl rfl ?_
    refine qa_getR (nx := 26) at_114_23 rfl (by decide) rfl rfl (by decide) ?_
    refine qa_s (pc' := 27) at_114_26 rfl rfl rfl ?_
    refine qa_getV (nx := 30) (v := nI d) at_114_27 rfl (by decide) rfl rfl (by decide) (show _ from o14) ?_
    refine qa_s (pc' := 31) at_114_30 rfl rfl rfl ?_
    refine qa_iast (nx := 32) (k := d) at_114_31 rfl rfl rfl (by decide) rfl (show d < 12 by omega) ?_
    refine qa_s (pc' := 33) at_114_32 rfl rfl rfl ?_
    refine qa_s (pc' := 34) at_114_33 rfl rfl rfl ?_
    refine qa_getV (nx := 37) (v := nI d) at_114_34 rfl (by decide) rfl rfl (by decide) (show _ from o14) ?_
    refine qa_ic (nx := 38) (v := nI 1) at_114_37 (by decide) rfl ?_
    refine qa_addN (nx := 39) at_114_38 rfl ?_
    refine qa_put (nx := 42) at_114_39 rfl (by decide) rfl rfl rfl (by decide) ?_
    refine qa_s (pc' := 43) at_114_42 rfl rfl rfl ?_
    refine qn_if_ge (tg := 86) (nx := 46) at_114_43 rfl rfl (by decide) ?_
    refine qa_ret at_114_86 rfl ?_
    refine K _ ?_ ?_ ?_
    · unfold nxd nxs
      rw [if_pos g6, if_pos g6]
      refine ⟨by omega, up_s, fun j hj => ?_⟩
      unfold psh
      by_cases e : j = d
      · subst e; rw [if_pos rfl]; exact ⟨by omega, by rw [up_k (by decide), up_s]⟩
      · rw [if_neg e]
        refine ⟨(o5 j (by omega)).1, ?_⟩
        rw [up_k (by decide), up_j e]
        exact (o5 j (by omega)).2
    · exact ⟨fun a g1 g2 g3 => by rw [up_k g1, up_k g3], fun j hj => by rw [up_j hj]; rfl⟩
    · unfold mtM
      rw [if_neg (by omega)]
      rfl
  · by_cases g7 : P n k = 7 ∨ P n k = 9
    · have hd := hcl g7
      have htr : trn (P n k) = -1 := by unfold trn; rw [if_neg g6, if_pos g7]
      have t12 := (o5 (d - 1) (by omega)).1
      refine qa_s (pc' := 1) at_114_0 rfl rfl rfl ?_
      refine qn_if_eq (tg := 16) (nx := 4) at_114_1 rfl rfl (by decide) (fun h => absurd h (by decide)) (fun h114_1 => ?_)
      refine qa_s (pc' := 5) at_114_4 rfl rfl rfl ?_
      refine qa_getR (nx := 8) at_114_5 rfl (by decide) rfl rfl (by decide) ?_
      refine qa_s (pc' := 9) at_114_8 rfl rfl rfl ?_
      refine qa_ialdV (nx := 10) (k := n * 12 + k) (v := nI (P n k)) at_114_9 rfl rfl rfl (by decide) rfl (show n * 12 + k < 180 by omega) (show _ from e44) ?_
      refine qa_callS (nx := 13) at_114_10 rfl rfl (Nat.le_of_ble_eq_true rfl) rfl rfl (by decide) rfl ?_
      show qa _ 113 0 [(0, .int _)] [] _ _
      refine c113_q (o := P n k) hP ?_
      rw [htr]
      show qa _ 114 13 _ [.int _] _ _
      refine qa_goto (nx := 17) at_114_13 rfl ?_
      refine qa_s (pc' := 18) at_114_17 rfl rfl rfl ?_
      refine qa_s (pc' := 19) at_114_18 rfl rfl rfl ?_
      refine qa_if_le (tg := 42) (nx := 22) at_114_19 rfl rfl (fun h114_19 => ?_) (fun h114_19 => ?_)
      · refine qa_s (pc' := 43) at_114_42 rfl rfl rfl ?_
        refine qa_if_ge (tg := 86) (nx := 46) at_114_43 rfl rfl (fun h114_43 => ?_) (fun h114_43 => ?_)
        · exact absurd h114_43 (by decide)
        · refine qa_s (pc' := 47) at_114_46 rfl rfl rfl ?_
          refine qa_s (pc' := 48) at_114_47 rfl rfl rfl ?_
          refine qa_getV (nx := 51) (v := nI d) at_114_48 rfl (by decide) rfl rfl (by decide) (show _ from o14) ?_
          refine qa_ic (nx := 52) (v := nI 1) at_114_51 (by decide) rfl ?_
          refine qa_subN (nx := 53) at_114_52 rfl (by omega) ?_
          refine qa_put (nx := 56) at_114_53 rfl (by decide) rfl rfl rfl (by decide) ?_
          refine qa_s (pc' := 57) at_114_56 rfl rfl rfl ?_
          refine qa_getR (nx := 60) at_114_57 rfl (by decide) rfl rfl (by decide) ?_
          refine qa_s (pc' := 61) at_114_60 rfl rfl rfl ?_
          refine qa_s (pc' := 62) at_114_61 rfl rfl rfl ?_
          refine qa_getR (nx := 65) at_114_62 rfl (by decide) rfl rfl (by decide) ?_
          refine qa_s (pc' := 66) at_114_65 rfl rfl rfl ?_
          refine qa_getV (nx := 69) (v := nI (d - 1)) at_114_66 rfl (by decide) rfl rfl (by decide) (show _ from up_s) ?_
          refine qa_ialdV (nx := 70) (k := d - 1) (v := nI (n * 12 + s (d - 1))) at_114_69 rfl rfl rfl (by decide) rfl (show d - 1 < 12 by omega) (show _ from (o5 (d - 1) (by omega)).2) ?_
          refine qa_iast (nx := 71) (k := n * 12 + k) at_114_70 rfl rfl rfl (by decide) rfl (show n * 12 + k < 180 by omega) ?_
          refine qa_s (pc' := 72) at_114_71 rfl rfl rfl ?_
          refine qa_getR (nx := 75) at_114_72 rfl (by decide) rfl rfl (by decide) ?_
          refine qa_s (pc' := 76) at_114_75 rfl rfl rfl ?_
          refine qa_getR (nx := 79) at_114_76 rfl (by decide) rfl rfl (by decide) ?_
          refine qa_s (pc' := 80) at_114_79 rfl rfl rfl ?_
          refine qa_getV (nx := 83) (v := nI (d - 1)) at_114_80 rfl (by decide) rfl rfl (by decide) (show _ from by rw [up_k (by decide), up_s]) ?_
          refine qa_ialdV (nx := 84) (k := d - 1) (v := nI (n * 12 + s (d - 1))) at_114_83 rfl rfl rfl (by decide) rfl (show d - 1 < 12 by omega) (show _ from (o5 (d - 1) (by omega)).2) ?_
          refine qa_s (pc' := 85) at_114_84 rfl rfl rfl ?_
          refine qa_iast (nx := 86) (k := n * 12 + s (d - 1)) at_114_85 rfl rfl rfl (by decide) rfl (show n * 12 + s (d - 1) < 180 by omega) ?_
          refine qa_ret at_114_86 rfl ?_
          refine K _ ?_ ?_ ?_
          · unfold nxd nxs
            rw [if_neg g6, if_neg g6, if_pos g7]
            refine ⟨by omega, by rw [up_k (by decide), up_k (by decide), up_s], fun j hj => ⟨(o5 j (by omega)).1, ?_⟩⟩
            rw [up_k (by decide), up_k (by decide), up_k (by decide)]
            exact (o5 j (by omega)).2
          · exact ⟨fun a g1 g2 g3 => by rw [up_k g2, up_k g2, up_k g1], fun j hj => by rw [up_k (by decide), up_k (by decide), up_j hj]⟩
          · unfold mtM
            rw [if_pos g7]
            rfl
      · exact absurd (by decide) h114_19
    · have htr : trn (P n k) = nI 0 := by unfold trn; rw [if_neg g6, if_neg g7]
      refine qa_s (pc' := 1) at_114_0 rfl rfl rfl ?_
      refine qn_if_eq (tg := 16) (nx := 4) at_114_1 rfl rfl (by decide) (fun h => absurd h (by decide)) (fun h114_1 => ?_)
      refine qa_s (pc' := 5) at_114_4 rfl rfl rfl ?_
      refine qa_getR (nx := 8) at_114_5 rfl (by decide) rfl rfl (by decide) ?_
      refine qa_s (pc' := 9) at_114_8 rfl rfl rfl ?_
      refine qa_ialdV (nx := 10) (k := n * 12 + k) (v := nI (P n k)) at_114_9 rfl rfl rfl (by decide) rfl (show n * 12 + k < 180 by omega) (show _ from e44) ?_
      refine qa_callS (nx := 13) at_114_10 rfl rfl (Nat.le_of_ble_eq_true rfl) rfl rfl (by decide) rfl ?_
      show qa _ 113 0 [(0, .int _)] [] _ _
      refine c113_q (o := P n k) hP ?_
      rw [htr]
      show qa _ 114 13 _ [.int _] _ _
      refine qa_goto (nx := 17) at_114_13 rfl ?_
      refine qa_s (pc' := 18) at_114_17 rfl rfl rfl ?_
      refine qa_s (pc' := 19) at_114_18 rfl rfl rfl ?_
      refine qn_if_le (tg := 42) (nx := 22) at_114_19 rfl rfl (by decide) (fun h114_19 => ?_) (fun h => absurd h (by decide))
      refine qa_s (pc' := 43) at_114_42 rfl rfl rfl ?_
      refine qn_if_ge (tg := 86) (nx := 46) at_114_43 rfl rfl (by decide) ?_
      refine qa_ret at_114_86 rfl ?_
      refine K _ ?_ ?_ ?_
      · unfold nxd nxs
        rw [if_neg g6, if_neg g6, if_neg g7]
        exact hO
      · exact ⟨fun a _ _ _ => rfl, fun j _ => rfl⟩
      · unfold mtM
        rw [if_neg g7]
def mtAllM (p : Nat → Nat) (n k : Nat) (σ : sg) : Prop := ∀ c, c < k → (p c = 7 ∨ p c = 9) → σ 47 0 (n * 12 + c) = nI (n * 12 + opn p c) ∧ σ 47 0 (n * 12 + opn p c) = nI (n * 12 + c)
theorem mtAllM_s {σ1 : sg} (hcl : clOk p (k + 1)) (h : mtAllM p n k σ) (hm : mtM p (sts p k) (std p k) k n σ1 σ) : mtAllM p n (k + 1) σ1 := by
  intro c hc hpc
  unfold mtM at hm
  rw [hm]
  by_cases g : p k = 7 ∨ p k = 9
  · rw [if_pos g]
    have hk0 := hcl k (by omega) g
    have hq := sts_lt p k (std p k - 1) (by omega)
    by_cases f : c = k
    · subst f
      have ne : n * 12 + c ≠ n * 12 + sts p c (std p c - 1) := by omega
      unfold opn
      exact ⟨by rw [up_j ne, up_s], up_s⟩
    · obtain ⟨h1, h2⟩ := h c (by omega) hpc
      have ne1 : c ≠ sts p k (std p k - 1) := by intro e; rw [← e] at hq; omega
      have h0 := hcl c (by omega) hpc
      have hoc := sts_lt p c (std p c - 1) (by omega)
      have ne2 : opn p c ≠ k := by unfold opn; omega
      have ne3 : opn p c ≠ sts p k (std p k - 1) := fun e => opn_gone p k (fun c hc => hcl c (by omega)) c (by omega) hpc (std p k - 1) (by omega) e.symm
      exact ⟨by rw [up_j (by omega), up_j (by omega)]; exact h1, by rw [up_j (by omega), up_j (by omega)]; exact h2⟩
  · rw [if_neg g]
    have f : c ≠ k := by rintro rfl; exact g hpc
    exact h c (by omega) hpc
theorem StOk_atM (hn : 3 * i + r < 15) (hI : ImM L P Y σ) : ∀ k, k ≤ L (3 * i + r) → (∀ j, j < k → ckA L P Y mk i r j = 0) → StOk (P (3 * i + r)) (Y (3 * i + r)) (sts (P (3 * i + r)) k) (std (P (3 * i + r)) k) k := by
  intro k
  induction k with
  | zero => intro _ _; exact ⟨Nat.le_refl _, Nat.zero_le _, fun j hj => absurd hj (Nat.not_lt_zero _)⟩
  | succ k ih =>
    intro hk hall
    have hL := (hI (3 * i + r) hn).1
    have h := ih (by omega) (fun j hj => hall j (by omega))
    obtain ⟨g6, g8⟩ := ck_68 (hall k (by omega)) rfl rfl (fun g => (imY (((hI (3 * i + r) hn).2.2 k (by omega)).2.2 (by omega)).2).1 g)
    exact StOk_nx h g6 g8
/-- what the reference's check of routine n leaves alone -/
def frJ (n : Nat) (σ1 σ : sg) : Prop := (∀ a, a ≠ 40 → a ≠ 47 → a ≠ 50 → σ1 a = σ a) ∧ (∀ j, j ≠ 14 → j ≠ 3 → σ1 40 0 j = σ 40 0 j) ∧ ∀ x, (x < n * 12 ∨ n * 12 + 12 ≤ x) → σ1 47 0 x = σ 47 0 x
theorem c107_l {σ0 : sg} (hi : i < 5) (hr : r < 3) (hI : ImM L P Y σ0)
    (Kb : ∀ k w σ1, k ≤ L (3 * i + r) → (∀ j, j < k → ckA L P Y (mks L P Y i) i r j = 0) → why L P Y (mks L P Y i) i r k = w → 0 < w → w < 9 → frJ (3 * i + r) σ1 σ0 → σ1 40 0 3 = nI (100 * r + k) → Q (some (.int (nI w))) σ1)
    (Kg : rtOk L P Y i r → ∀ σ1, frJ (3 * i + r) σ1 σ0 → σ1 40 0 3 = σ0 40 0 3 → mtAllM (P (3 * i + r)) (3 * i + r) (L (3 * i + r)) σ1 → qa cst 107 2 [(0, .ref (cl 40 0)), (1, .int (nI i)), (2, .int (nI (r + 1)))] [] σ1 Q) :
    ∀ m k σ, k + m = L (3 * i + r) → (∀ j, j < k → ckA L P Y (mks L P Y i) i r j = 0) → opM_ (3 * i + r) (std (P (3 * i + r)) k) (sts (P (3 * i + r)) k) σ → frJ (3 * i + r) σ σ0 → σ 40 0 3 = σ0 40 0 3 → mtAllM (P (3 * i + r)) (3 * i + r) k σ → qa cst 107 26 [(0, .ref (cl 40 0)), (1, .int (nI i)), (2, .int (nI r)), (3, .int (nI (L (3 * i + r)))), (4, .int (nI k))] [] σ Q := by
  have hL := (hI (3 * i + r) (by omega)).1
  intro m
  induction m with
  | zero =>
    intro k σ hk hall hO hF h0 hM
    have e : k = L (3 * i + r) := by omega
    subst e
    have hsl := std_le (P (3 * i + r)) (L (3 * i + r))
    refine qa_s (pc' := 28) at_107_26 rfl rfl rfl ?_
    refine qa_s (pc' := 29) at_107_28 rfl rfl rfl ?_
    refine qn_icmp_gt (tg := 127) (nx := 32) at_107_29 rfl rfl (by omega) (by omega) (fun h107_29 => ?_) (fun h107_29 => ?_)
    · omega
    · refine qa_s (pc' := 34) at_107_32 rfl rfl rfl ?_
      refine qa_s (pc' := 35) at_107_34 rfl rfl rfl ?_
      refine qn_icmp_ge (tg := 49) (nx := 38) at_107_35 rfl rfl (by omega) (by omega) (fun h107_35 => ?_) (fun h107_35 => ?_)
      · refine qa_s (pc' := 50) at_107_49 rfl rfl rfl ?_
        refine qn_if_ne (tg := 61) (nx := 53) at_107_50 rfl rfl (by omega) (fun h107_50 => ?_) (fun h107_50 => ?_)
        · refine qa_s (pc' := 62) at_107_61 rfl rfl rfl ?_
          refine qa_getV (nx := 65) (v := nI (std (P (3 * i + r)) (L (3 * i + r)))) at_107_62 rfl (by decide) rfl rfl (by decide) (show _ from hO.2.1) ?_
          refine qn_if_le (tg := 73) (nx := 68) at_107_65 rfl rfl (by omega) (fun h107_65 => ?_) (fun h107_65 => ?_)
          · refine qa_ic (nx := 74) (v := nI 0) at_107_73 (by decide) rfl ?_
            refine qa_s (pc' := 76) at_107_74 rfl rfl rfl ?_
            refine qa_s (pc' := 78) at_107_76 rfl rfl rfl ?_
            refine qn_if_le (tg := 95) (nx := 81) at_107_78 rfl rfl (by decide) (fun h107_78 => ?_) (fun h => absurd h (by decide))
            refine qa_s (pc' := 96) at_107_95 rfl rfl rfl ?_
            refine qa_ic (nx := 97) (v := nI 3) at_107_96 (by decide) rfl ?_
            refine qa_s (pc' := 98) at_107_97 rfl rfl rfl ?_
            refine qa_mulN (nx := 99) at_107_98 rfl ?_
            refine qa_s (pc' := 100) at_107_99 rfl rfl rfl ?_
            refine qa_addN (nx := 101) at_107_100 rfl ?_
            refine qa_bi (nx := 103) (v := nI 12) at_107_101 (by decide) rfl ?_
            refine qa_mulN (nx := 104) at_107_103 rfl ?_
            refine qa_s (pc' := 106) at_107_104 rfl rfl rfl ?_
            refine qa_addN (nx := 107) at_107_106 rfl ?_
            refine qa_s (pc' := 109) at_107_107 rfl rfl rfl ?_
            refine qa_s (pc' := 110) at_107_109 rfl rfl rfl ?_
            refine qn_icmp_ge (tg := 117) (nx := 113) at_107_110 rfl rfl (by omega) (by omega) (fun h107_110 => ?_) (fun h107_110 => ?_)
            · refine qa_ic (nx := 118) (v := nI 0) at_107_117 (by decide) rfl ?_
              refine qa_callV (nx := 121) at_107_118 rfl rfl (Nat.le_of_ble_eq_true rfl) rfl rfl rfl (by decide) rfl (by decide) ?_
              show qa _ 114 0 [(0, .ref _), (1, .int _), (2, .int _)] [] _ _
              refine c114_0 ?_
              show qa _ 107 121 _ [] _ _
              refine qa_incN (nx := 124) (c := 1) at_107_121 (by decide) rfl rfl rfl ?_
              refine qa_goto (nx := 26) at_107_124 rfl ?_
              refine qa_s (pc' := 28) at_107_26 rfl rfl rfl ?_
              refine qa_s (pc' := 29) at_107_28 rfl rfl rfl ?_
              refine qn_icmp_gt (tg := 127) (nx := 32) at_107_29 rfl rfl (by omega) (by omega) (fun _ => ?_) (fun h => by omega)
              refine qa_incN (nx := 130) (c := 1) at_107_127 (by decide) rfl rfl rfl ?_
              refine qa_goto (nx := 2) at_107_130 rfl ?_
              show qa _ _ _ [(0, .ref (cl 40 0)), (1, .int (nI i)), (2, .int (nI (r + 1))), (3, .int _), (4, .int _), (5, .int _)] [] _ _
              exact qa_drop (l1 := [(0, .ref (cl 40 0)), (1, .int (nI i)), (2, .int (nI (r + 1)))]) (by intro q hq; simp only [List.mem_cons, List.not_mem_nil, or_false] at hq ⊢; rcases hq with rfl | rfl | rfl <;> simp) (by simp [mj_nd]) (Kg ⟨hall, fun g => by omega, by omega⟩ σ hF h0 hM)
            · omega
          · refine qa_bi (nx := 70) (v := nI 7) at_107_68 (by decide) rfl ?_
            refine qa_goto (nx := 74) at_107_70 rfl ?_
            refine qa_s (pc' := 76) at_107_74 rfl rfl rfl ?_
            refine qa_s (pc' := 78) at_107_76 rfl rfl rfl ?_
            refine qn_if_le (tg := 95) (nx := 81) at_107_78 rfl rfl (by decide) (fun h => absurd h (by decide)) (fun h107_78 => ?_)
            refine qa_s (pc' := 82) at_107_81 rfl rfl rfl ?_
            refine qa_bi (nx := 84) (v := nI 100) at_107_82 (by decide) rfl ?_
            refine qa_s (pc' := 85) at_107_84 rfl rfl rfl ?_
            refine qa_mulN (nx := 86) at_107_85 rfl ?_
            refine qa_s (pc' := 88) at_107_86 rfl rfl rfl ?_
            refine qa_addN (nx := 89) at_107_88 rfl ?_
            refine qa_put (nx := 92) at_107_89 rfl (by decide) rfl rfl rfl (by decide) ?_
            refine qa_s (pc' := 94) at_107_92 rfl rfl rfl ?_
            refine qa_ret at_107_94 rfl ?_
            first
              | exact Kb _ 1 _ (Nat.le_refl _) hall (by unfold why; rw [if_neg (by omega), if_pos ⟨by omega, by omega⟩]) (by decide) (by decide) ⟨fun a g1 g2 g3 => by rw [up_k g1]; exact hF.1 a g1 g2 g3, fun j g1 g2 => by rw [up_j g2]; exact hF.2.1 j g1 g2, fun x hx => hF.2.2 x hx⟩ up_s
              | exact Kb _ 7 _ (Nat.le_refl _) hall (by unfold why; rw [if_neg (by omega), if_neg (by omega), if_pos (by omega)]) (by decide) (by decide) ⟨fun a g1 g2 g3 => by rw [up_k g1]; exact hF.1 a g1 g2 g3, fun j g1 g2 => by rw [up_j g2]; exact hF.2.1 j g1 g2, fun x hx => hF.2.2 x hx⟩ up_s
        · refine qa_s (pc' := 54) at_107_53 rfl rfl rfl ?_
          refine qn_if_ne (tg := 61) (nx := 57) at_107_54 rfl rfl (by omega) (fun h107_54 => ?_) (fun h107_54 => ?_)
          · refine qa_s (pc' := 62) at_107_61 rfl rfl rfl ?_
            refine qa_getV (nx := 65) (v := nI (std (P (3 * i + r)) (L (3 * i + r)))) at_107_62 rfl (by decide) rfl rfl (by decide) (show _ from hO.2.1) ?_
            refine qn_if_le (tg := 73) (nx := 68) at_107_65 rfl rfl (by omega) (fun h107_65 => ?_) (fun h107_65 => ?_)
            · refine qa_ic (nx := 74) (v := nI 0) at_107_73 (by decide) rfl ?_
              refine qa_s (pc' := 76) at_107_74 rfl rfl rfl ?_
              refine qa_s (pc' := 78) at_107_76 rfl rfl rfl ?_
              refine qn_if_le (tg := 95) (nx := 81) at_107_78 rfl rfl (by decide) (fun h107_78 => ?_) (fun h => absurd h (by decide))
              refine qa_s (pc' := 96) at_107_95 rfl rfl rfl ?_
              refine qa_ic (nx := 97) (v := nI 3) at_107_96 (by decide) rfl ?_
              refine qa_s (pc' := 98) at_107_97 rfl rfl rfl ?_
              refine qa_mulN (nx := 99) at_107_98 rfl ?_
              refine qa_s (pc' := 100) at_107_99 rfl rfl rfl ?_
              refine qa_addN (nx := 101) at_107_100 rfl ?_
              refine qa_bi (nx := 103) (v := nI 12) at_107_101 (by decide) rfl ?_
              refine qa_mulN (nx := 104) at_107_103 rfl ?_
              refine qa_s (pc' := 106) at_107_104 rfl rfl rfl ?_
              refine qa_addN (nx := 107) at_107_106 rfl ?_
              refine qa_s (pc' := 109) at_107_107 rfl rfl rfl ?_
              refine qa_s (pc' := 110) at_107_109 rfl rfl rfl ?_
              refine qn_icmp_ge (tg := 117) (nx := 113) at_107_110 rfl rfl (by omega) (by omega) (fun h107_110 => ?_) (fun h107_110 => ?_)
              · refine qa_ic (nx := 118) (v := nI 0) at_107_117 (by decide) rfl ?_
                refine qa_callV (nx := 121) at_107_118 rfl rfl (Nat.le_of_ble_eq_true rfl) rfl rfl rfl (by decide) rfl (by decide) ?_
                show qa _ 114 0 [(0, .ref _), (1, .int _), (2, .int _)] [] _ _
                refine c114_0 ?_
                show qa _ 107 121 _ [] _ _
                refine qa_incN (nx := 124) (c := 1) at_107_121 (by decide) rfl rfl rfl ?_
                refine qa_goto (nx := 26) at_107_124 rfl ?_
                refine qa_s (pc' := 28) at_107_26 rfl rfl rfl ?_
                refine qa_s (pc' := 29) at_107_28 rfl rfl rfl ?_
                refine qn_icmp_gt (tg := 127) (nx := 32) at_107_29 rfl rfl (by omega) (by omega) (fun _ => ?_) (fun h => by omega)
                refine qa_incN (nx := 130) (c := 1) at_107_127 (by decide) rfl rfl rfl ?_
                refine qa_goto (nx := 2) at_107_130 rfl ?_
                show qa _ _ _ [(0, .ref (cl 40 0)), (1, .int (nI i)), (2, .int (nI (r + 1))), (3, .int _), (4, .int _), (5, .int _)] [] _ _
                exact qa_drop (l1 := [(0, .ref (cl 40 0)), (1, .int (nI i)), (2, .int (nI (r + 1)))]) (by intro q hq; simp only [List.mem_cons, List.not_mem_nil, or_false] at hq ⊢; rcases hq with rfl | rfl | rfl <;> simp) (by simp [mj_nd]) (Kg ⟨hall, fun g => by omega, by omega⟩ σ hF h0 hM)
              · omega
            · refine qa_bi (nx := 70) (v := nI 7) at_107_68 (by decide) rfl ?_
              refine qa_goto (nx := 74) at_107_70 rfl ?_
              refine qa_s (pc' := 76) at_107_74 rfl rfl rfl ?_
              refine qa_s (pc' := 78) at_107_76 rfl rfl rfl ?_
              refine qn_if_le (tg := 95) (nx := 81) at_107_78 rfl rfl (by decide) (fun h => absurd h (by decide)) (fun h107_78 => ?_)
              refine qa_s (pc' := 82) at_107_81 rfl rfl rfl ?_
              refine qa_bi (nx := 84) (v := nI 100) at_107_82 (by decide) rfl ?_
              refine qa_s (pc' := 85) at_107_84 rfl rfl rfl ?_
              refine qa_mulN (nx := 86) at_107_85 rfl ?_
              refine qa_s (pc' := 88) at_107_86 rfl rfl rfl ?_
              refine qa_addN (nx := 89) at_107_88 rfl ?_
              refine qa_put (nx := 92) at_107_89 rfl (by decide) rfl rfl rfl (by decide) ?_
              refine qa_s (pc' := 94) at_107_92 rfl rfl rfl ?_
              refine qa_ret at_107_94 rfl ?_
              first
                | exact Kb _ 1 _ (Nat.le_refl _) hall (by unfold why; rw [if_neg (by omega), if_pos ⟨by omega, by omega⟩]) (by decide) (by decide) ⟨fun a g1 g2 g3 => by rw [up_k g1]; exact hF.1 a g1 g2 g3, fun j g1 g2 => by rw [up_j g2]; exact hF.2.1 j g1 g2, fun x hx => hF.2.2 x hx⟩ up_s
                | exact Kb _ 7 _ (Nat.le_refl _) hall (by unfold why; rw [if_neg (by omega), if_neg (by omega), if_pos (by omega)]) (by decide) (by decide) ⟨fun a g1 g2 g3 => by rw [up_k g1]; exact hF.1 a g1 g2 g3, fun j g1 g2 => by rw [up_j g2]; exact hF.2.1 j g1 g2, fun x hx => hF.2.2 x hx⟩ up_s
          · refine qa_ic (nx := 58) (v := nI 1) at_107_57 (by decide) rfl ?_
            refine qa_goto (nx := 74) at_107_58 rfl ?_
            refine qa_s (pc' := 76) at_107_74 rfl rfl rfl ?_
            refine qa_s (pc' := 78) at_107_76 rfl rfl rfl ?_
            refine qn_if_le (tg := 95) (nx := 81) at_107_78 rfl rfl (by decide) (fun h => absurd h (by decide)) (fun h107_78 => ?_)
            refine qa_s (pc' := 82) at_107_81 rfl rfl rfl ?_
            refine qa_bi (nx := 84) (v := nI 100) at_107_82 (by decide) rfl ?_
            refine qa_s (pc' := 85) at_107_84 rfl rfl rfl ?_
            refine qa_mulN (nx := 86) at_107_85 rfl ?_
            refine qa_s (pc' := 88) at_107_86 rfl rfl rfl ?_
            refine qa_addN (nx := 89) at_107_88 rfl ?_
            refine qa_put (nx := 92) at_107_89 rfl (by decide) rfl rfl rfl (by decide) ?_
            refine qa_s (pc' := 94) at_107_92 rfl rfl rfl ?_
            refine qa_ret at_107_94 rfl ?_
            first
              | exact Kb _ 1 _ (Nat.le_refl _) hall (by unfold why; rw [if_neg (by omega), if_pos ⟨by omega, by omega⟩]) (by decide) (by decide) ⟨fun a g1 g2 g3 => by rw [up_k g1]; exact hF.1 a g1 g2 g3, fun j g1 g2 => by rw [up_j g2]; exact hF.2.1 j g1 g2, fun x hx => hF.2.2 x hx⟩ up_s
              | exact Kb _ 7 _ (Nat.le_refl _) hall (by unfold why; rw [if_neg (by omega), if_neg (by omega), if_pos (by omega)]) (by decide) (by decide) ⟨fun a g1 g2 g3 => by rw [up_k g1]; exact hF.1 a g1 g2 g3, fun j g1 g2 => by rw [up_j g2]; exact hF.2.1 j g1 g2, fun x hx => hF.2.2 x hx⟩ up_s
      · omega
  | succ m ih =>
    intro k σ hk hall hO hF h0 hM
    have hIσ : ImM L P Y σ := ImM_of (σ := σ0) (hF.1 48 (by decide) (by decide) (by decide)) (hF.1 44 (by decide) (by decide) (by decide)) (hF.1 46 (by decide) (by decide) (by decide)) hI
    have hSt := StOk_atM (mk := mks L P Y i) (by omega) hI k (by omega) hall
    refine qa_s (pc' := 28) at_107_26 rfl rfl rfl ?_
    refine qa_s (pc' := 29) at_107_28 rfl rfl rfl ?_
    refine qn_icmp_gt (tg := 127) (nx := 32) at_107_29 rfl rfl (by omega) (by omega) (fun h107_29 => ?_) (fun h107_29 => ?_)
    · omega
    · refine qa_s (pc' := 34) at_107_32 rfl rfl rfl ?_
      refine qa_s (pc' := 35) at_107_34 rfl rfl rfl ?_
      refine qn_icmp_ge (tg := 49) (nx := 38) at_107_35 rfl rfl (by omega) (by omega) (fun h107_35 => ?_) (fun h107_35 => ?_)
      · omega
      · refine qa_s (pc' := 39) at_107_38 rfl rfl rfl ?_
        refine qa_s (pc' := 40) at_107_39 rfl rfl rfl ?_
        refine qa_s (pc' := 41) at_107_40 rfl rfl rfl ?_
        refine qa_s (pc' := 43) at_107_41 rfl rfl rfl ?_
        refine qa_callV (nx := 46) at_107_43 rfl rfl (Nat.le_of_ble_eq_true rfl) rfl rfl rfl (by decide) rfl (by decide) ?_
        show qa _ 108 0 [(0, .ref _), (1, .int _), (2, .int _), (3, .int _)] [] _ _
        refine c108_q hi hr (by omega) hIσ hO hSt (fun w hR hw9 => ?_)
        show qa _ 107 46 _ [.int _] _ _
        refine qa_goto (nx := 74) at_107_46 rfl ?_
        refine qa_s (pc' := 76) at_107_74 rfl rfl rfl ?_
        refine qa_s (pc' := 78) at_107_76 rfl rfl rfl ?_
        refine qn_if_le (tg := 95) (nx := 81) at_107_78 rfl rfl (by omega) (fun h107_78 => ?_) (fun h107_78 => ?_)
        · have hR0 : ckA L P Y (mks L P Y i) i r k = 0 := by rw [← h107_78]; exact hR
          have hall2 : ∀ j, j < k + 1 → ckA L P Y (mks L P Y i) i r j = 0 := fun j hj => by by_cases e : j = k; (subst e; exact hR0); exact hall j (by omega)
          have hcl := clOk_of hall2
          refine qa_s (pc' := 96) at_107_95 rfl rfl rfl ?_
          refine qa_ic (nx := 97) (v := nI 3) at_107_96 (by decide) rfl ?_
          refine qa_s (pc' := 98) at_107_97 rfl rfl rfl ?_
          refine qa_mulN (nx := 99) at_107_98 rfl ?_
          refine qa_s (pc' := 100) at_107_99 rfl rfl rfl ?_
          refine qa_addN (nx := 101) at_107_100 rfl ?_
          refine qa_bi (nx := 103) (v := nI 12) at_107_101 (by decide) rfl ?_
          refine qa_mulN (nx := 104) at_107_103 rfl ?_
          refine qa_s (pc' := 106) at_107_104 rfl rfl rfl ?_
          refine qa_addN (nx := 107) at_107_106 rfl ?_
          refine qa_s (pc' := 109) at_107_107 rfl rfl rfl ?_
          refine qa_s (pc' := 110) at_107_109 rfl rfl rfl ?_
          refine qn_icmp_ge (tg := 117) (nx := 113) at_107_110 rfl rfl (by omega) (by omega) (fun h107_110 => ?_) (fun h107_110 => ?_)
          · omega
          · refine qa_ic (nx := 114) (v := nI 1) at_107_113 (by decide) rfl ?_
            refine qa_goto (nx := 118) at_107_114 rfl ?_
            refine qa_callV (nx := 121) at_107_118 rfl rfl (Nat.le_of_ble_eq_true rfl) rfl rfl rfl (by decide) rfl (by decide) ?_
            show qa _ 114 0 [(0, .ref _), (1, .int _), (2, .int _)] [] _ _
            refine c114_q (n := 3 * i + r) (by omega) (by omega) hIσ hO hSt.1 (hcl k (by omega)) (fun σ1 f1 f2 f3 => ?_)
            have ih2 := ih (k + 1) σ1 (by omega) hall2 f1 ⟨fun a g1 g2 g3 => (f2.1 a g1 g2 g3).trans (hF.1 a g1 g2 g3), fun j g1 g2 => (f2.2 j g1).trans (hF.2.1 j g1 g2), fun x hx => by unfold mtM at f3; rw [f3]; split; (rename_i g7; have q1 := hcl k (by omega) g7; have q2 := (sts_lt (P (3 * i + r)) k (std (P (3 * i + r)) k - 1) (by omega)).1; rw [up_j (by omega), up_j (by omega)]; exact hF.2.2 x hx); exact hF.2.2 x hx⟩ ((f2.2 3 (by decide)).trans h0) (mtAllM_s hcl hM f3)
            show qa _ 107 121 _ [] _ _
            refine qa_incN (nx := 124) (c := 1) at_107_121 (by decide) rfl rfl rfl ?_
            refine qa_goto (nx := 26) at_107_124 rfl ?_
            show qa _ _ _ [(0, .ref (cl 40 0)), (1, .int (nI i)), (2, .int (nI r)), (3, .int (nI (L (3 * i + r)))), (4, .int (nI (k + 1))), (5, .int _)] [] _ _
            exact qa_drop (l1 := [(0, .ref (cl 40 0)), (1, .int (nI i)), (2, .int (nI r)), (3, .int (nI (L (3 * i + r)))), (4, .int (nI (k + 1)))]) (by intro q hq; simp only [List.mem_cons, List.not_mem_nil, or_false] at hq ⊢; rcases hq with rfl | rfl | rfl | rfl | rfl <;> simp) (by simp [mj_nd]) (ih2)
        · refine qa_s (pc' := 82) at_107_81 rfl rfl rfl ?_
          refine qa_bi (nx := 84) (v := nI 100) at_107_82 (by decide) rfl ?_
          refine qa_s (pc' := 85) at_107_84 rfl rfl rfl ?_
          refine qa_mulN (nx := 86) at_107_85 rfl ?_
          refine qa_s (pc' := 88) at_107_86 rfl rfl rfl ?_
          refine qa_addN (nx := 89) at_107_88 rfl ?_
          refine qa_put (nx := 92) at_107_89 rfl (by decide) rfl rfl rfl (by decide) ?_
          refine qa_s (pc' := 94) at_107_92 rfl rfl rfl ?_
          refine qa_ret at_107_94 rfl ?_
          exact Kb k w _ (by omega) hall (by unfold why; rw [if_pos (by omega)]; exact hR) h107_78 hw9 ⟨fun a g1 g2 g3 => by rw [up_k g1]; exact hF.1 a g1 g2 g3, fun j g1 g2 => by rw [up_j g2]; exact hF.2.1 j g1 g2, fun x hx => hF.2.2 x hx⟩ up_s
theorem c107_r (hi : i < 5) (hr : r < 3) (hI : ImM L P Y σ)
    (Kb : ∀ k w σ1, k ≤ L (3 * i + r) → (∀ j, j < k → ckA L P Y (mks L P Y i) i r j = 0) → why L P Y (mks L P Y i) i r k = w → 0 < w → w < 9 → frJ (3 * i + r) σ1 σ → σ1 40 0 3 = nI (100 * r + k) → Q (some (.int (nI w))) σ1)
    (Kg : rtOk L P Y i r → ∀ σ1, frJ (3 * i + r) σ1 σ → σ1 40 0 3 = σ 40 0 3 → mtAllM (P (3 * i + r)) (3 * i + r) (L (3 * i + r)) σ1 → qa cst 107 2 [(0, .ref (cl 40 0)), (1, .int (nI i)), (2, .int (nI (r + 1)))] [] σ1 Q) :
    qa cst 107 2 [(0, .ref (cl 40 0)), (1, .int (nI i)), (2, .int (nI r))] [] σ Q := by
  have e48 := (hI (3 * i + r) (by omega)).2.1
  refine qa_s (pc' := 3) at_107_2 rfl rfl rfl ?_
  refine qa_ic (nx := 4) (v := nI 3) at_107_3 (by decide) rfl ?_
  refine qn_icmp_ge (tg := 133) (nx := 7) at_107_4 rfl rfl (by omega) (by omega) (fun h107_4 => ?_) (fun h107_4 => ?_)
  · omega
  · refine qa_s (pc' := 8) at_107_7 rfl rfl rfl ?_
    refine qa_getR (nx := 11) at_107_8 rfl (by decide) rfl rfl (by decide) ?_
    refine qa_ic (nx := 12) (v := nI 3) at_107_11 (by decide) rfl ?_
    refine qa_s (pc' := 13) at_107_12 rfl rfl rfl ?_
    refine qa_mulN (nx := 14) at_107_13 rfl ?_
    refine qa_s (pc' := 15) at_107_14 rfl rfl rfl ?_
    refine qa_addN (nx := 16) at_107_15 rfl ?_
    refine qa_ialdV (nx := 17) (k := (3 * i) + r) (v := nI (L (3 * i + r))) at_107_16 rfl rfl rfl (by decide) rfl (show (3 * i) + r < 15 by omega) (show _ from e48) ?_
    refine qa_s (pc' := 18) at_107_17 rfl rfl rfl ?_
    refine qa_s (pc' := 19) at_107_18 rfl rfl rfl ?_
    refine qa_ic (nx := 20) (v := nI 0) at_107_19 (by decide) rfl ?_
    refine qa_put (nx := 23) at_107_20 rfl (by decide) rfl rfl rfl (by decide) ?_
    refine qa_ic (nx := 24) (v := nI 0) at_107_23 (by decide) rfl ?_
    refine qa_s (pc' := 26) at_107_24 rfl rfl rfl ?_
    have hF : frJ (3 * i + r) (up σ 40 0 14 (nI 0)) σ := ⟨fun a g1 _ _ => by rw [up_k g1], fun j g1 _ => by rw [up_j g1], fun x _ => rfl⟩
    exact c107_l hi hr hI Kb Kg (L (3 * i + r)) 0 _ (by omega) (fun j hj => absurd hj (Nat.not_lt_zero _)) ⟨Nat.zero_le _, up_s, fun j hj => absurd hj (Nat.not_lt_zero _)⟩ hF rfl (fun c hc => absurd hc (Nat.not_lt_zero _))
/-- what the reference's check of task i leaves alone -/
def frM (i : Nat) (σ1 σ : sg) : Prop := (∀ a, a ≠ 40 → a ≠ 47 → a ≠ 50 → σ1 a = σ a) ∧ (∀ j, j ≠ 14 → j ≠ 3 → σ1 40 0 j = σ 40 0 j) ∧ ∀ n x, (∀ q, q < 3 → n ≠ 3 * i + q) → x < 12 → σ1 47 0 (n * 12 + x) = σ 47 0 (n * 12 + x)
theorem frJ_M {σ1 : sg} (hr : r < 3) (h : frJ (3 * i + r) σ1 σ) : frM i σ1 σ := ⟨h.1, h.2.1, fun n x hn hx => h.2.2 _ (by have := hn r hr; omega)⟩
theorem frM_t {σ1 σ2 : sg} (h : frM i σ2 σ1) (g : frM i σ1 σ) : frM i σ2 σ := ⟨fun a g1 g2 g3 => (h.1 a g1 g2 g3).trans (g.1 a g1 g2 g3), fun j g1 g2 => (h.2.1 j g1 g2).trans (g.2.1 j g1 g2), fun n x hn hx => (h.2.2 n x hn hx).trans (g.2.2 n x hn hx)⟩
theorem ImM_J {σ1 : sg} (h : frM i σ1 σ) (hI : ImM L P Y σ) : ImM L P Y σ1 := ImM_of (σ := σ) (h.1 48 (by decide) (by decide) (by decide)) (h.1 44 (by decide) (by decide) (by decide)) (h.1 46 (by decide) (by decide) (by decide)) hI
theorem mtAllM_J {σ1 : sg} {m z : Nat} (hz : z ≤ 12) (hcl : clOk p z) (hne : n ≠ m) (h : frJ m σ1 σ) (g : mtAllM p n z σ) : mtAllM p n z σ1 := by
  intro c hc hpc
  obtain ⟨g1, g2⟩ := g c hc hpc
  have h0 := hcl c hc hpc
  have hoc := (sts_lt p c (std p c - 1) (by omega)).1
  have : opn p c < 12 := by unfold opn; omega
  exact ⟨by rw [h.2.2 _ (by omega)]; exact g1, by rw [h.2.2 _ (by omega)]; exact g2⟩
theorem c107_q (hi : i < 5) (hI : ImM L P Y σ) (Kb : ∀ r k w σ1, bad L P Y i r k w → frM i σ1 σ → σ1 40 0 3 = nI (100 * r + k) → Q (some (.int (nI w))) σ1)
    (Kg : (∀ q, q < 3 → rtOk L P Y i q) → ∀ σ1, frM i σ1 σ → σ1 40 0 3 = σ 40 0 3 → (∀ q, q < 3 → mtAllM (P (3 * i + q)) (3 * i + q) (L (3 * i + q)) σ1) → Q (some (.int (nI 0))) σ1) : qa cst 107 0 [(0, .ref (cl 40 0)), (1, .int (nI i))] [] σ Q := by
  have hL0 := (hI (3 * i + 0) (by omega)).1
  have hL1 := (hI (3 * i + 1) (by omega)).1
  refine qa_ic (nx := 1) (v := nI 0) at_107_0 (by decide) rfl ?_
  refine qa_s (pc' := 2) at_107_1 rfl rfl rfl ?_
  refine c107_r (r := 0) hi (by decide) hI (fun k w σ1 b1 b2 b3 b4 b5 b6 b7 => Kb 0 k w σ1 ⟨by decide, fun q hq => absurd hq (Nat.not_lt_zero _), b1, b2, b3, b4, b5⟩ (frJ_M (by decide) b6) b7) (fun ok0 τ0 f0 m0 a0 => ?_)
  have F0 : frM i τ0 σ := frJ_M (by decide) f0
  refine c107_r (r := 1) hi (by decide) (ImM_J F0 hI) (fun k w σ1 b1 b2 b3 b4 b5 b6 b7 => Kb 1 k w σ1 ⟨by decide, fun q hq => by (obtain rfl : q = 0 := by omega); exact ok0, b1, b2, b3, b4, b5⟩ (frM_t (frJ_M (by decide) b6) F0) b7) (fun ok1 τ1 f1 m1 a1 => ?_)
  have F1 : frM i τ1 σ := frM_t (frJ_M (by decide) f1) F0
  refine c107_r (r := 2) hi (by decide) (ImM_J F1 hI) (fun k w σ1 b1 b2 b3 b4 b5 b6 b7 => Kb 2 k w σ1 ⟨by decide, fun q hq => by (obtain rfl | rfl : q = 0 ∨ q = 1 := by omega); (exact ok0); (exact ok1), b1, b2, b3, b4, b5⟩ (frM_t (frJ_M (by decide) b6) F1) b7) (fun ok2 τ2 f2 m2 a2 => ?_)
  have F2 : frM i τ2 σ := frM_t (frJ_M (by decide) f2) F1
  have A0 := mtAllM_J hL0 (clOk_of ok0.1) (by omega) f1 a0
  have B0 := mtAllM_J hL0 (clOk_of ok0.1) (by omega) f2 A0
  have B1 := mtAllM_J hL1 (clOk_of ok1.1) (by omega) f2 a1
  refine qa_s (pc' := 3) at_107_2 rfl rfl rfl ?_
  refine qa_ic (nx := 4) (v := nI 3) at_107_3 (by decide) rfl ?_
  refine qn_icmp_ge (tg := 133) (nx := 7) at_107_4 rfl rfl (by decide) (by decide) (fun _ => ?_) (fun h => by omega)
  refine qa_ic (nx := 134) (v := nI 0) at_107_133 (by decide) rfl ?_
  refine qa_ret at_107_134 rfl ?_
  exact Kg (by intro q hq; (obtain rfl | rfl | rfl : q = 0 ∨ q = 1 ∨ q = 2 := by omega) <;> first | exact ok0 | exact ok1 | exact ok2) τ2 F2 (by rw [m2, m1, m0]) (by intro q hq; (obtain rfl | rfl | rfl : q = 0 ∨ q = 1 ∨ q = 2 := by omega) <;> first | exact B0 | exact B1 | exact a2)
end PQ
