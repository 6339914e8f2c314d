/-! the fourth call: costs and sections of a task, the class -/
/-- the place of the UNLOCK of the LOCK at q -/
def fmt (p : Nat → Nat) (q : Nat) : Nat → Nat
  | 0 => 0
  | c + 1 => if p c = 9 ∧ opn p c = q then c else fmt p q c
theorem fmt_ok {p : Nat → Nat} {q c : Nat} (h9 : p c = 9) (ho : opn p c = q) : ∀ l, c < l → fmt p q l < l ∧ p (fmt p q l) = 9 ∧ opn p (fmt p q l) = q := by
  intro l
  induction l with
  | zero => intro h; omega
  | succ l ih =>
    intro h
    simp only [fmt]
    by_cases g : p l = 9 ∧ opn p l = q
    · rw [if_pos g]; exact ⟨by omega, g.1, g.2⟩
    · rw [if_neg g]
      have : c ≠ l := by rintro rfl; exact g ⟨h9, ho⟩
      obtain ⟨h1, h2, h3⟩ := ih (by omega)
      exact ⟨by omega, h2, h3⟩
theorem opn_inj {p y : Nat → Nat} {l c c' : Nat} (h : SR p y l) (h1 : p c = 9) (h2 : p c' = 9) (hc : c < l) (hc' : c' < l) (e : opn p c = opn p c') : c = c' := by
  have cl : ∀ k, k ≤ l → ∀ c, c < k → (p c = 7 ∨ p c = 9) → 0 < std p c := by
    intro k hk c hc g
    rcases g with g | g
    · exact (h.2.2.2.1 c (by omega) g).1
    · exact (h.2.2.2.2.1 c (by omega) g).1
  by_cases g : c < c'
  · have h0 := (h.2.2.2.2.1 c' hc' h2).1
    exact absurd e.symm (opn_gone p c' (cl c' (by omega)) c g (Or.inr h1) (std p c' - 1) (by omega))
  · by_cases g' : c' < c
    · have h0 := (h.2.2.2.2.1 c hc h1).1
      exact absurd e (opn_gone p c (cl c (by omega)) c' g' (Or.inr h2) (std p c - 1) (by omega))
    · omega
theorem fmt_q {p y : Nat → Nat} {l q : Nat} (h : SR p y l) (hl : q < l) (hq : p q = 8) : q < fmt p q l ∧ fmt p q l < l ∧ p (fmt p q l) = 9 ∧ opn p (fmt p q l) = q ∧ Spn p y l (q + 1) (fmt p q l + 1) := by
  obtain ⟨c, c1, c2, c3, c4, c5⟩ := lock_q h hl hq
  obtain ⟨f1, f2, f3⟩ := fmt_ok c3 c4 l c2
  obtain rfl : c = fmt p q l := opn_inj h c3 f2 c2 f1 (c4.trans f3.symm)
  exact ⟨c1, c2, c3, c4, c5⟩
/-- the cost of the section that the LOCK at q opens -/
def secA (p y tot : Nat → Nat) (l q : Nat) : Nat := sm p y tot (q + 1) (fmt p q l + 1)
/-- the dearest section of the resource s among the first k places, beginning with w -/
def scF (p y tot : Nat → Nat) (l s w : Nat) : Nat → Nat
  | 0 => w
  | k + 1 => if p k = 8 ∧ y k = s then max (scF p y tot l s w k) (secA p y tot l k) else scF p y tot l s w k
def tqa (a b r y : Nat) : Nat := if r = 2 then 0 else if r = 0 ∧ y = 1 then a else b
def T2 (L : Nat → Nat) (P Y : Nat → Nat → Nat) (i : Nat) : Nat := sm (P (3 * i + 2)) (Y (3 * i + 2)) (tqa 0 0 2) 0 (L (3 * i + 2))
def T1 (L : Nat → Nat) (P Y : Nat → Nat → Nat) (i : Nat) : Nat := sm (P (3 * i + 1)) (Y (3 * i + 1)) (tqa 0 (T2 L P Y i) 1) 0 (L (3 * i + 1))
def T0 (L : Nat → Nat) (P Y : Nat → Nat → Nat) (i : Nat) : Nat := sm (P (3 * i + 0)) (Y (3 * i + 0)) (tqa (T1 L P Y i) (T2 L P Y i) 0) 0 (L (3 * i + 0))
abbrev tq (L : Nat → Nat) (P Y : Nat → Nat → Nat) (i r : Nat) : Nat → Nat := tqa (T1 L P Y i) (T2 L P Y i) r
/-- the dearest section of the resource s in the first r routines of task i -/
def SC (L : Nat → Nat) (P Y : Nat → Nat → Nat) (i s : Nat) : Nat → Nat
  | 0 => 0
  | r + 1 => scF (P (3 * i + r)) (Y (3 * i + r)) (tq L P Y i r) (L (3 * i + r)) s (SC L P Y i s r) (L (3 * i + r))
theorem sm_max {p y tot : Nat → Nat} {l f t B : Nat} (hl : l ≤ 12) (hp : ∀ k, k < l → p k < 15) (h : Spn p y l f t) (hB : ∀ k, k < l → p k = 10 → tot (y k) ≤ B) (h2 : 2 ≤ B) : ∀ j, j ≤ t → sm p y tot f j ≤ 593 * (B + 2) := fun j hj =>
  Nat.le_trans (sm_bd h (fun k hk => ctk_b2 h2 (hp k hk) (hB k hk)) j hj) (Nat.mul_le_mul (gS_593 l hl j (by have := h.2.1; omega)) (Nat.le_refl _))

section PQ
variable {cst : List (List Int32)} {ys : List Int32} {σ b : sg} {Q : Option Value → sg → Prop} {T k i r d n f t s : Nat} {L : Nat → Nat} {P Y : Nat → Nat → Nat} {p tot : Nat → Nat}
theorem T2_b (hD : SD L P Y i 2) : ∀ j, j ≤ L (3 * i + 2) → sm (P (3 * i + 2)) (Y (3 * i + 2)) (tqa 0 0 2) 0 j ≤ 2372 := fun j hj =>
  Nat.le_trans (sm_bd (M := 4) (Spn_all hD.1) (fun k hk => ctk_bd (B := 0) (hD.2.2.2.1 k hk) (fun _ => Nat.le_refl 0)) j hj) (Nat.mul_le_mul (gS_593 _ hD.1.1 j hj) (Nat.le_refl 4))
theorem T1_b (h2 : SD L P Y i 2) (hD : SD L P Y i 1) : ∀ j, j ≤ L (3 * i + 1) → sm (P (3 * i + 1)) (Y (3 * i + 1)) (tqa 0 (T2 L P Y i) 1) 0 j ≤ 1407782 :=
  sm_max (B := 2372) hD.1.1 hD.2.2.2.1 (Spn_all hD.1) (fun k hk g => by unfold tqa; rw [if_neg (by decide), if_neg (fun c => absurd c.1 (by decide))]; exact T2_b h2 _ (Nat.le_refl _)) (by decide)
theorem tq_b (h2 : SD L P Y i 2) (h1 : SD L P Y i 1) : ∀ y, tq L P Y i r y ≤ 1407782 := by
  intro y
  have e1 : T1 L P Y i ≤ 1407782 := T1_b h2 h1 _ (Nat.le_refl _)
  have e2 : T2 L P Y i ≤ 2372 := T2_b h2 _ (Nat.le_refl _)
  unfold tq tqa
  split
  · omega
  · split <;> omega
theorem S_b (h2 : SD L P Y i 2) (h1 : SD L P Y i 1) (hD : SD L P Y i r) (hS : Spn (P (3 * i + r)) (Y (3 * i + r)) (L (3 * i + r)) f t) : ∀ j, j ≤ t → sm (P (3 * i + r)) (Y (3 * i + r)) (tq L P Y i r) f j ≤ 834815912 :=
  sm_max (B := 1407782) hD.1.1 hD.2.2.2.1 hS (fun k hk g => tq_b h2 h1 _) (by decide)
theorem sec_b (h2 : SD L P Y i 2) (h1 : SD L P Y i 1) (hD : SD L P Y i r) (hk : k < L (3 * i + r)) (h8 : P (3 * i + r) k = 8) : 0 < secA (P (3 * i + r)) (Y (3 * i + r)) (tq L P Y i r) (L (3 * i + r)) k ∧ secA (P (3 * i + r)) (Y (3 * i + r)) (tq L P Y i r) (L (3 * i + r)) k ≤ 834815912 := by
  obtain ⟨f1, f2, f3, f4, f5⟩ := fmt_q hD.1 hk h8
  exact ⟨sec_pos f5 f1 f3, S_b h2 h1 hD f5 _ (Nat.le_refl _)⟩
theorem scF_b {w : Nat} (h2 : SD L P Y i 2) (h1 : SD L P Y i 1) (hD : SD L P Y i r) (hw : w ≤ 834815912) : ∀ k, k ≤ L (3 * i + r) → scF (P (3 * i + r)) (Y (3 * i + r)) (tq L P Y i r) (L (3 * i + r)) s w k ≤ 834815912 := by
  intro k
  induction k with
  | zero => intro _; exact hw
  | succ k ih =>
    intro hk
    simp only [scF]
    have h := ih (by omega)
    split
    · rename_i g
      exact Nat.max_le.mpr ⟨h, (sec_b h2 h1 hD (by omega) g.1).2⟩
    · exact h
theorem SC_b (hD : ∀ r, r < 3 → SD L P Y i r) : ∀ r, r ≤ 3 → SC L P Y i s r ≤ 834815912 := by
  intro r
  induction r with
  | zero => intro _; exact Nat.zero_le _
  | succ r ih => intro hr; exact scF_b (hD 2 (by decide)) (hD 1 (by decide)) (hD r (by omega)) (ih (by omega)) _ (Nat.le_refl _)
theorem T0_b (hD : ∀ r, r < 3 → SD L P Y i r) : T0 L P Y i ≤ 834815912 := S_b (r := 0) (hD 2 (by decide)) (hD 1 (by decide)) (hD 0 (by decide)) (Spn_all (hD 0 (by decide)).1) _ (Nat.le_refl _)
theorem c37_q (hi : i < 5) (hI : ImC L P Y σ) (hD : ∀ r, r < 3 → SD L P Y i r) (hM : ∀ r, r < 3 → mtAll (P (3 * i + r)) (3 * i + r) (L (3 * i + r)) σ) (K : ∀ σ1, (∀ a, a ≠ 13 → σ1 a = σ a) → (∀ n j, j ≠ 6 → σ1 13 n j = σ 13 n j) → σ1 13 (3 * i + 0) 6 = nI (T0 L P Y i) → σ1 13 (3 * i + 1) 6 = nI (T1 L P Y i) → σ1 13 (3 * i + 2) 6 = nI (T2 L P Y i) → Q none σ1) : qa (mj_cst ys) 37 0 [(0, .ref (cl 12 i))] [] σ Q := by
  have eL : ∀ r, r < 3 → σ 13 (3 * i + r) 4 = nI (L (3 * i + r)) := fun r hr => (hI (3 * i + r) (by omega)).2.1
  refine qa_ic (nx := 1) (v := nI 2) at_37_0 (by decide) rfl ?_
  refine qa_s (pc' := 2) at_37_1 rfl rfl rfl ?_
  refine qa_s (pc' := 3) at_37_2 rfl rfl rfl ?_
  refine qn_if_lt (tg := 32) (nx := 6) at_37_3 rfl rfl (by decide) ?_
  refine qa_s (pc' := 7) at_37_6 rfl rfl rfl ?_
  refine qa_s (pc' := 8) at_37_7 rfl rfl rfl ?_
  refine qa_aald (nx := 9) (k := 2) at_37_8 (by decide) rfl rfl (show _ < 5 by omega) rfl (show 2 < 3 by omega) ?_
  refine qa_s (pc' := 10) at_37_9 rfl rfl rfl ?_
  refine qa_s (pc' := 11) at_37_10 rfl rfl rfl ?_
  refine qa_s (pc' := 12) at_37_11 rfl rfl rfl ?_
  refine qa_aald (nx := 13) (k := 2) at_37_12 (by decide) rfl rfl (show _ < 5 by omega) rfl (show 2 < 3 by omega) ?_
  refine qa_ic (nx := 14) (v := nI 0) at_37_13 (by decide) rfl ?_
  refine qa_s (pc' := 15) at_37_14 rfl rfl rfl ?_
  refine qa_s (pc' := 16) at_37_15 rfl rfl rfl ?_
  refine qa_aald (nx := 17) (k := 2) at_37_16 (by decide) rfl rfl (show _ < 5 by omega) rfl (show 2 < 3 by omega) ?_
  refine qa_getV (nx := 20) (v := nI (L (3 * i + 2))) at_37_17 rfl (by decide) rfl rfl (show _ < 15 by omega) (show _ from eL 2 (by decide)) ?_
  refine qa_callS (nx := 23) at_37_20 rfl rfl (Nat.le_of_ble_eq_true rfl) rfl rfl (by decide) rfl ?_
  show qa _ 38 0 [(0, .ref _), (1, .ref _), (2, .int _), (3, .int _)] [] _ _
  refine c38_q (r := 2) (tot := tqa 0 0 2) hi (by decide) hI (hD 2 (by decide)) (hM 2 (by decide)) (fun y g1 g2 => by omega) (Spn_all (hD 2 (by decide)).1) ?_
  show qa _ 37 23 _ [.int _, .ref _] _ _
  refine qa_put (nx := 26) at_37_23 rfl (by decide) rfl rfl rfl (show _ < 15 by omega) ?_
  refine qa_decN (nx := 29) (x := 1) at_37_26 rfl rfl rfl ?_
  refine qa_goto (nx := 2) at_37_29 rfl ?_
  refine qa_s (pc' := 3) at_37_2 rfl rfl rfl ?_
  refine qn_if_lt (tg := 32) (nx := 6) at_37_3 rfl rfl (by decide) ?_
  refine qa_s (pc' := 7) at_37_6 rfl rfl rfl ?_
  refine qa_s (pc' := 8) at_37_7 rfl rfl rfl ?_
  refine qa_aald (nx := 9) (k := 1) at_37_8 (by decide) rfl rfl (show _ < 5 by omega) rfl (show 1 < 3 by omega) ?_
  refine qa_s (pc' := 10) at_37_9 rfl rfl rfl ?_
  refine qa_s (pc' := 11) at_37_10 rfl rfl rfl ?_
  refine qa_s (pc' := 12) at_37_11 rfl rfl rfl ?_
  refine qa_aald (nx := 13) (k := 1) at_37_12 (by decide) rfl rfl (show _ < 5 by omega) rfl (show 1 < 3 by omega) ?_
  refine qa_ic (nx := 14) (v := nI 0) at_37_13 (by decide) rfl ?_
  refine qa_s (pc' := 15) at_37_14 rfl rfl rfl ?_
  refine qa_s (pc' := 16) at_37_15 rfl rfl rfl ?_
  refine qa_aald (nx := 17) (k := 1) at_37_16 (by decide) rfl rfl (show _ < 5 by omega) rfl (show 1 < 3 by omega) ?_
  refine qa_getV (nx := 20) (v := nI (L (3 * i + 1))) at_37_17 rfl (by decide) rfl rfl (show _ < 15 by omega) (show _ from by rw [up_i (by omega)]; exact eL 1 (by decide)) ?_
  refine qa_callS (nx := 23) at_37_20 rfl rfl (Nat.le_of_ble_eq_true rfl) rfl rfl (by decide) rfl ?_
  show qa _ 38 0 [(0, .ref _), (1, .ref _), (2, .int _), (3, .int _)] [] _ _
  have hI1 : ImC L P Y (up σ 13 (3 * i + 2) 6 (nI (T2 L P Y i))) := ImC_of (σ := σ) (fun n => by by_cases e : n = 3 * i + 2; (subst e; rw [up_j (by decide)]); rw [up_i e]) rfl rfl hI
  refine c38_q (r := 1) (tot := tqa 0 (T2 L P Y i) 1) hi (by decide) hI1 (hD 1 (by decide)) (hM 1 (by decide)) (fun y g1 g2 => by (obtain rfl : y = 2 := by omega); exact up_s) (Spn_all (hD 1 (by decide)).1) ?_
  show qa _ 37 23 _ [.int _, .ref _] _ _
  refine qa_put (nx := 26) at_37_23 rfl (by decide) rfl rfl rfl (show _ < 15 by omega) ?_
  refine qa_decN (nx := 29) (x := 0) at_37_26 rfl rfl rfl ?_
  refine qa_goto (nx := 2) at_37_29 rfl ?_
  refine qa_s (pc' := 3) at_37_2 rfl rfl rfl ?_
  refine qn_if_lt (tg := 32) (nx := 6) at_37_3 rfl rfl (by decide) ?_
  refine qa_s (pc' := 7) at_37_6 rfl rfl rfl ?_
  refine qa_s (pc' := 8) at_37_7 rfl rfl rfl ?_
  refine qa_aald (nx := 9) (k := 0) at_37_8 (by decide) rfl rfl (show _ < 5 by omega) rfl (show 0 < 3 by omega) ?_
  refine qa_s (pc' := 10) at_37_9 rfl rfl rfl ?_
  refine qa_s (pc' := 11) at_37_10 rfl rfl rfl ?_
  refine qa_s (pc' := 12) at_37_11 rfl rfl rfl ?_
  refine qa_aald (nx := 13) (k := 0) at_37_12 (by decide) rfl rfl (show _ < 5 by omega) rfl (show 0 < 3 by omega) ?_
  refine qa_ic (nx := 14) (v := nI 0) at_37_13 (by decide) rfl ?_
  refine qa_s (pc' := 15) at_37_14 rfl rfl rfl ?_
  refine qa_s (pc' := 16) at_37_15 rfl rfl rfl ?_
  refine qa_aald (nx := 17) (k := 0) at_37_16 (by decide) rfl rfl (show _ < 5 by omega) rfl (show 0 < 3 by omega) ?_
  refine qa_getV (nx := 20) (v := nI (L (3 * i + 0))) at_37_17 rfl (by decide) rfl rfl (show _ < 15 by omega) (show _ from by rw [up_i (by omega), up_i (by omega)]; exact eL 0 (by decide)) ?_
  refine qa_callS (nx := 23) at_37_20 rfl rfl (Nat.le_of_ble_eq_true rfl) rfl rfl (by decide) rfl ?_
  show qa _ 38 0 [(0, .ref _), (1, .ref _), (2, .int _), (3, .int _)] [] _ _
  have hI0 : ImC L P Y (up (up σ 13 (3 * i + 2) 6 (nI (T2 L P Y i))) 13 (3 * i + 1) 6 (nI (T1 L P Y i))) := ImC_of (σ := up σ 13 (3 * i + 2) 6 (nI (T2 L P Y i))) (fun n => by by_cases e : n = 3 * i + 1; (subst e; rw [up_j (by decide)]); rw [up_i e]) rfl rfl hI1
  refine c38_q (r := 0) (tot := tqa (T1 L P Y i) (T2 L P Y i) 0) hi (by decide) hI0 (hD 0 (by decide)) (hM 0 (by decide)) (fun y g1 g2 => by (obtain rfl | rfl : y = 1 ∨ y = 2 := by omega); (exact up_s); (rw [up_i (by omega), up_s]; rfl)) (Spn_all (hD 0 (by decide)).1) ?_
  show qa _ 37 23 _ [.int _, .ref _] _ _
  refine qa_put (nx := 26) at_37_23 rfl (by decide) rfl rfl rfl (show _ < 15 by omega) ?_
  refine qa_dec0 (nx := 29) at_37_26 rfl rfl rfl ?_
  refine qa_goto (nx := 2) at_37_29 rfl ?_
  refine qa_s (pc' := 3) at_37_2 rfl rfl rfl ?_
  refine qa_if_lt (tg := 32) (nx := 6) at_37_3 rfl rfl (fun h37_3 => ?_) (fun h37_3 => ?_)
  · refine qa_ret at_37_32 rfl ?_
    refine K _ ?_ ?_ ?_ ?_ ?_
    · intro a g; rw [up_k g, up_k g, up_k g]
    · intro n j g
      by_cases e0 : n = 3 * i + 0
      · subst e0; rw [up_j g, up_i (by omega), up_i (by omega)]
      · rw [up_i e0]
        by_cases e1 : n = 3 * i + 1
        · subst e1; rw [up_j g, up_i (by omega)]
        · rw [up_i e1]
          by_cases e2 : n = 3 * i + 2
          · subst e2; rw [up_j g]
          · rw [up_i e2]
    · exact up_s
    · rw [up_i (by omega)]; exact up_s
    · rw [up_i (by omega), up_i (by omega)]; exact up_s
  · exact absurd (by decide) h37_3
theorem c40_q {w v : Nat} (hi : i < 5) (hs : s < 4) (hw : w < 2 ^ 31) (hv : v < 2 ^ 31) (e7 : σ 7 i s = nI w) (K : ∀ σ1, (∀ a, a ≠ 7 → a ≠ 10 → σ1 a = σ a) → σ1 7 = up σ 7 i s (nI (max w v)) 7 → (σ1 10 = if σ 10 0 s = -1 then up σ 10 0 s (nI i) 10 else σ 10) → Q none σ1) : qa cst 40 0 [(0, .ref (cl 4 0)), (1, .int (nI i)), (2, .int (nI s)), (3, .int (nI v))] [] σ Q := by
  refine qa_s (pc' := 1) at_40_0 rfl rfl rfl ?_
  refine qa_getR (nx := 4) at_40_1 rfl (by decide) rfl rfl (by decide) ?_
  refine qa_s (pc' := 5) at_40_4 rfl rfl rfl ?_
  refine qa_aald (nx := 6) (k := i) at_40_5 (by decide) rfl rfl (by decide) rfl (show i < 5 by omega) ?_
  refine qa_s (pc' := 7) at_40_6 rfl rfl rfl ?_
  refine qa_s (pc' := 8) at_40_7 rfl rfl rfl ?_
  refine qa_getR (nx := 11) at_40_8 rfl (by decide) rfl rfl (by decide) ?_
  refine qa_s (pc' := 12) at_40_11 rfl rfl rfl ?_
  refine qa_aald (nx := 13) (k := i) at_40_12 (by decide) rfl rfl (by decide) rfl (show i < 5 by omega) ?_
  refine qa_s (pc' := 14) at_40_13 rfl rfl rfl ?_
  refine qa_ialdV (nx := 15) (k := s) (v := nI w) at_40_14 rfl rfl rfl (show _ < 5 by omega) rfl (show s < 4 by omega) (show _ from e7) ?_
  refine qa_s (pc' := 16) at_40_15 rfl rfl rfl ?_
  refine qa_maxN (nx := 19) at_40_16 rfl hw hv rfl ?_
  refine qa_iast (nx := 20) (k := s) at_40_19 rfl rfl rfl (show _ < 5 by omega) rfl (show s < 4 by omega) ?_
  refine qa_s (pc' := 21) at_40_20 rfl rfl rfl ?_
  refine qa_getR (nx := 24) at_40_21 rfl (by decide) rfl rfl (by decide) ?_
  refine qa_s (pc' := 25) at_40_24 rfl rfl rfl ?_
  refine qa_iald (nx := 26) (k := s) at_40_25 rfl rfl rfl (by decide) rfl (show s < 4 by omega) ?_
  refine qa_ic (nx := 27) (v := (-1)) at_40_26 (by decide) rfl ?_
  refine qa_icmp_ne (tg := 37) (nx := 30) at_40_27 rfl rfl (fun h40_27 => ?_) (fun h40_27 => ?_)
  · have h27 : ¬ σ 10 0 s = -1 := h40_27
    refine qa_ret at_40_37 rfl ?_
    first
      | exact K _ (fun a g1 g2 => by rw [up_k g1]) rfl (by rw [if_neg h27]; rfl)
      | exact K _ (fun a g1 g2 => by rw [up_k g2, up_k g1]) rfl (by rw [if_pos h27]; rfl)
  · have h27 : σ 10 0 s = -1 := h40_27
    refine qa_s (pc' := 31) at_40_30 rfl rfl rfl ?_
    refine qa_getR (nx := 34) at_40_31 rfl (by decide) rfl rfl (by decide) ?_
    refine qa_s (pc' := 35) at_40_34 rfl rfl rfl ?_
    refine qa_s (pc' := 36) at_40_35 rfl rfl rfl ?_
    refine qa_iast (nx := 37) (k := s) at_40_36 rfl rfl rfl (by decide) rfl (show s < 4 by omega) ?_
    refine qa_ret at_40_37 rfl ?_
    first
      | exact K _ (fun a g1 g2 => by rw [up_k g1]) rfl (by rw [if_neg h27]; rfl)
      | exact K _ (fun a g1 g2 => by rw [up_k g2, up_k g1]) rfl (by rw [if_pos h27]; rfl)
/-- the ceiling after task i, e before it, c the dearest section of task i -/
def cei (e : Int32) (c i : Nat) : Int32 := if c = 0 then e else if e = -1 then nI i else e
theorem cei_s {e : Int32} {c c' : Nat} (h : c ≤ c') (h0 : 0 < c') : (if cei e c i = -1 then nI i else cei e c i) = cei e c' i := by
  unfold cei
  rw [if_neg (show ¬ c' = 0 by omega)]
  by_cases g : c = 0
  · rw [if_pos g]
  · rw [if_neg g]
    by_cases g2 : e = -1
    · rw [if_pos g2]; split <;> rfl
    · rw [if_neg g2, if_neg g2]
/-- the class's sections and ceilings while task i is looked through -/
def SCI (i : Nat) (cur : Nat → Nat) (e : Nat → Int32) (σ1 σ : sg) : Prop := (∀ a, a ≠ 7 → a ≠ 10 → σ1 a = σ a) ∧ (∀ j, j ≠ i → σ1 7 j = σ 7 j) ∧ ∀ s, s < 4 → σ1 7 i s = nI (cur s) ∧ σ1 10 0 s = cei (e s) (cur s) i
theorem SCI_s {cur cur' : Nat → Nat} {e : Nat → Int32} {σ1 σ2 : sg} {v : Nat} (h : SCI i cur e σ1 σ) (hs : s < 4) (hv : 0 < v) (f1 : ∀ a, a ≠ 7 → a ≠ 10 → σ2 a = σ1 a) (f2 : σ2 7 = up σ1 7 i s (nI (max (cur s) v)) 7) (f3 : σ2 10 = if σ1 10 0 s = -1 then up σ1 10 0 s (nI i) 10 else σ1 10) (hc : ∀ q, q < 4 → cur' q = if q = s then max (cur s) v else cur q) : SCI i cur' e σ2 σ := by
  obtain ⟨h1, h2, h3⟩ := h
  refine ⟨fun a g1 g2 => (f1 a g1 g2).trans (h1 a g1 g2), fun j hj => by rw [f2, up_i hj]; exact h2 j hj, fun q hq => ?_⟩
  rw [f2, f3, hc q hq]
  obtain ⟨a7, a10⟩ := h3 q hq
  by_cases g : q = s
  · subst g
    rw [if_pos rfl]
    refine ⟨up_s, ?_⟩
    rw [← cei_s (i := i) (e := e q) (Nat.le_max_left (cur q) v) (by have := Nat.le_max_right (cur q) v; omega), a10]
    split
    · exact up_s
    · exact a10
  · rw [if_neg g, up_j g]
    refine ⟨a7, ?_⟩
    split
    · rw [up_j g]; exact a10
    · exact a10
theorem c39_l {e : Nat → Int32} (hi : i < 5) (hI : ImC L P Y σ) (hD : ∀ r, r < 3 → SD L P Y i r) (hM : ∀ r, r < 3 → mtAll (P (3 * i + r)) (3 * i + r) (L (3 * i + r)) σ) (t1 : σ 13 (3 * i + 1) 6 = nI (T1 L P Y i)) (t2 : σ 13 (3 * i + 2) 6 = nI (T2 L P Y i)) (hr : r < 3) (K : ∀ σ1, SCI i (fun s => SC L P Y i s (r + 1)) e σ1 σ → qa (mj_cst ys) 39 12 [(0, .ref (cl 4 0)), (1, .ref (cl 12 i)), (2, .int (nI i)), (3, .int (nI (r + 1)))] [] σ1 Q) : ∀ m k σ1, k + m = (L (3 * i + r)) → SCI i (fun s => scF (P (3 * i + r)) (Y (3 * i + r)) (tq L P Y i r) (L (3 * i + r)) s (SC L P Y i s r) k) e σ1 σ → qa (mj_cst ys) 39 25 [(0, .ref (cl 4 0)), (1, .ref (cl 12 i)), (2, .int (nI i)), (3, .int (nI r)), (4, .ref (cl 13 (3 * i + r))), (5, .int (nI k))] [] σ1 Q := by
  have hL := (hD r hr).1.1
  have h2 := hD 2 (by decide)
  have h1 := hD 1 (by decide)
  intro m
  induction m with
  | zero =>
    intro k σ1 hk hS
    have e13 : σ1 13 (3 * i + r) 4 = nI (L (3 * i + r)) := by rw [hS.1 13 (by decide) (by decide)]; exact (hI (3 * i + r) (by omega)).2.1
    obtain rfl : k = (L (3 * i + r)) := by omega
    refine qa_s (pc' := 27) at_39_25 rfl rfl rfl ?_
    refine qa_s (pc' := 29) at_39_27 rfl rfl rfl ?_
    refine qa_getV (nx := 32) (v := nI (L (3 * i + r))) at_39_29 rfl (by decide) rfl rfl (show _ < 15 by omega) (show _ from e13) ?_
    refine qn_icmp_ge (tg := 91) (nx := 35) at_39_32 rfl rfl (by omega) (by omega) (fun h39_32 => ?_) (fun h39_32 => ?_)
    · refine qa_incN (nx := 94) (c := 1) at_39_91 (by decide) rfl rfl rfl ?_
      refine qa_goto (nx := 12) at_39_94 rfl ?_
      show qa _ _ _ [(0, .ref (cl 4 0)), (1, .ref (cl 12 i)), (2, .int (nI i)), (3, .int (nI (r + 1))), (4, .ref _), (5, .int _)] [] _ _
      exact qa_drop (l1 := [(0, .ref (cl 4 0)), (1, .ref (cl 12 i)), (2, .int (nI i)), (3, .int (nI (r + 1)))]) (by intro q hq; simp only [List.mem_cons, List.not_mem_nil, or_false] at hq ⊢; rcases hq with rfl | rfl | rfl | rfl <;> simp) (by simp [mj_nd]) (K σ1 hS)
    · omega
  | succ m ih =>
    intro k σ1 hk hS
    have e13 : σ1 13 (3 * i + r) 4 = nI (L (3 * i + r)) := by rw [hS.1 13 (by decide) (by decide)]; exact (hI (3 * i + r) (by omega)).2.1
    have hIσ : ImC L P Y σ1 := ImC_of (σ := σ) (fun n => by rw [hS.1 13 (by decide) (by decide)]) (hS.1 14 (by decide) (by decide)) (hS.1 16 (by decide) (by decide)) hI
    obtain ⟨hP, e14, h16⟩ := (hIσ (3 * i + r) (by omega)).2.2 k (by omega)
    refine qa_s (pc' := 27) at_39_25 rfl rfl rfl ?_
    refine qa_s (pc' := 29) at_39_27 rfl rfl rfl ?_
    refine qa_getV (nx := 32) (v := nI (L (3 * i + r))) at_39_29 rfl (by decide) rfl rfl (show _ < 15 by omega) (show _ from e13) ?_
    refine qn_icmp_ge (tg := 91) (nx := 35) at_39_32 rfl rfl (by omega) (by omega) (fun h39_32 => ?_) (fun h39_32 => ?_)
    · omega
    · refine qa_s (pc' := 37) at_39_35 rfl rfl rfl ?_
      refine qa_getR (nx := 40) at_39_37 rfl (by decide) rfl rfl (show _ < 15 by omega) ?_
      refine qa_s (pc' := 42) at_39_40 rfl rfl rfl ?_
      refine qa_ialdV (nx := 43) (k := k) (v := nI (P (3 * i + r) k)) at_39_42 rfl rfl rfl (show _ < 15 by omega) rfl (show k < 12 by omega) (show _ from e14) ?_
      refine qa_bi (nx := 45) (v := nI 8) at_39_43 (by decide) rfl ?_
      refine qn_icmp_ne (tg := 85) (nx := 48) at_39_45 rfl rfl (by omega) (by omega) (fun h39_45 => ?_) (fun h39_45 => ?_)
      · refine qa_incN (nx := 88) (c := 1) at_39_85 (by decide) rfl rfl rfl ?_
        refine qa_goto (nx := 25) at_39_88 rfl ?_
        exact ih (k + 1) σ1 (by omega) ⟨hS.1, hS.2.1, fun q hq => by have z := hS.2.2 q hq; simp only [scF]; rw [if_neg (fun c => h39_45 c.1)]; exact z⟩
      · obtain ⟨f1, f2, f3, f4, hsp⟩ := fmt_q (hD r hr).1 (by omega : k < L (3 * i + r)) h39_45
        have hse := sec_b h2 h1 (hD r hr) (by omega : k < L (3 * i + r)) h39_45
        have hy4 := (hD r hr).2.2.2.2 k (by omega) h39_45
        have hmt : σ1 17 (3 * i + r) k = nI (fmt (P (3 * i + r)) k (L (3 * i + r))) := by rw [hS.1 17 (by decide) (by decide)]; have z := (hM r hr _ f2 (Or.inr f3)).2; rw [f4] at z; exact z
        have hcb := scF_b (s := Y (3 * i + r) k) h2 h1 (hD r hr) (SC_b (s := Y (3 * i + r) k) hD r (by omega)) k (by omega)
        refine qa_s (pc' := 49) at_39_48 rfl rfl rfl ?_
        refine qa_s (pc' := 51) at_39_49 rfl rfl rfl ?_
        refine qa_s (pc' := 53) at_39_51 rfl rfl rfl ?_
        refine qa_ic (nx := 54) (v := nI 1) at_39_53 (by decide) rfl ?_
        refine qa_addN (nx := 55) at_39_54 rfl ?_
        refine qa_s (pc' := 57) at_39_55 rfl rfl rfl ?_
        refine qa_getR (nx := 60) at_39_57 rfl (by decide) rfl rfl (show _ < 15 by omega) ?_
        refine qa_s (pc' := 62) at_39_60 rfl rfl rfl ?_
        refine qa_ialdV (nx := 63) (k := k) (v := nI (fmt (P (3 * i + r)) k (L (3 * i + r)))) at_39_62 rfl rfl rfl (show _ < 15 by omega) rfl (show k < 12 by omega) (show _ from hmt) ?_
        refine qa_ic (nx := 64) (v := nI 1) at_39_63 (by decide) rfl ?_
        refine qa_addN (nx := 65) at_39_64 rfl ?_
        refine qa_callS (nx := 68) at_39_65 rfl rfl (Nat.le_of_ble_eq_true rfl) rfl rfl (by decide) rfl ?_
        show qa _ 38 0 [(0, .ref _), (1, .ref _), (2, .int _), (3, .int _)] [] _ _
        refine c38_q (r := r) (tot := tq L P Y i r) hi hr hIσ (hD r hr) (fun c hc hpc => by rw [hS.1 17 (by decide) (by decide)]; exact hM r hr c hc hpc) (fun y g1 g2 => ?_) hsp ?_
        · rw [hS.1 13 (by decide) (by decide)]
          (obtain ⟨rfl, rfl⟩ | ⟨rfl, rfl⟩ | ⟨rfl, rfl⟩ : (r = 0 ∧ y = 1) ∨ (r = 0 ∧ y = 2) ∨ (r = 1 ∧ y = 2) := by omega) <;> first | exact t1 | exact t2
        show qa _ 39 68 _ [.int _] _ _
        refine qa_s (pc' := 70) at_39_68 rfl rfl rfl ?_
        refine qa_s (pc' := 71) at_39_70 rfl rfl rfl ?_
        refine qa_s (pc' := 72) at_39_71 rfl rfl rfl ?_
        refine qa_s (pc' := 74) at_39_72 rfl rfl rfl ?_
        refine qa_getR (nx := 77) at_39_74 rfl (by decide) rfl rfl (show _ < 15 by omega) ?_
        refine qa_s (pc' := 79) at_39_77 rfl rfl rfl ?_
        refine qa_ialdV (nx := 80) (k := k) (v := nI (Y (3 * i + r) k)) at_39_79 rfl rfl rfl (show _ < 15 by omega) rfl (show k < 12 by omega) (show _ from (h16 (by omega)).1) ?_
        refine qa_s (pc' := 82) at_39_80 rfl rfl rfl ?_
        refine qa_callV (nx := 85) at_39_82 rfl rfl (Nat.le_of_ble_eq_true rfl) rfl rfl rfl (by decide) rfl (by decide) ?_
        show qa _ 40 0 [(0, .ref _), (1, .int _), (2, .int _), (3, .int _)] [] _ _
        refine c40_q (s := Y (3 * i + r) k) (v := secA (P (3 * i + r)) (Y (3 * i + r)) (tq L P Y i r) (L (3 * i + r)) k) hi hy4 (Nat.lt_of_le_of_lt hcb (by decide)) (by omega) (hS.2.2 _ hy4).1 (fun σ2 f1 f2 f3 => ?_)
        have hS2 : SCI i (fun s => scF (P (3 * i + r)) (Y (3 * i + r)) (tq L P Y i r) (L (3 * i + r)) s (SC L P Y i s r) (k + 1)) e σ2 σ := SCI_s hS hy4 hse.1 f1 f2 f3 (fun q hq => by simp only [scF]; by_cases g : q = Y (3 * i + r) k; (subst g; rw [if_pos ⟨h39_45, rfl⟩, if_pos rfl]); rw [if_neg (fun c => g c.2.symm), if_neg g])
        show qa _ 39 85 _ [] _ _
        refine qa_incN (nx := 88) (c := 1) at_39_85 (by decide) rfl rfl rfl ?_
        refine qa_goto (nx := 25) at_39_88 rfl ?_
        show qa _ _ _ [(0, .ref (cl 4 0)), (1, .ref (cl 12 i)), (2, .int (nI i)), (3, .int (nI r)), (4, .ref (cl 13 (3 * i + r))), (5, .int (nI (k + 1))), (6, .int _)] [] _ _
        exact qa_drop (l1 := [(0, .ref (cl 4 0)), (1, .ref (cl 12 i)), (2, .int (nI i)), (3, .int (nI r)), (4, .ref (cl 13 (3 * i + r))), (5, .int (nI (k + 1)))]) (by intro q hq; simp only [List.mem_cons, List.not_mem_nil, or_false] at hq ⊢; rcases hq with rfl | rfl | rfl | rfl | rfl | rfl <;> simp) (by simp [mj_nd]) (ih (k + 1) σ2 (by omega) hS2)
theorem c39_r {e : Nat → Int32} {σ1 : sg} (hi : i < 5) (hI : ImC L P Y σ) (hD : ∀ r, r < 3 → SD L P Y i r) (hM : ∀ r, r < 3 → mtAll (P (3 * i + r)) (3 * i + r) (L (3 * i + r)) σ) (t1 : σ 13 (3 * i + 1) 6 = nI (T1 L P Y i)) (t2 : σ 13 (3 * i + 2) 6 = nI (T2 L P Y i)) (hr : r < 3) (hS : SCI i (fun s => SC L P Y i s r) e σ1 σ) (K : ∀ σ1, SCI i (fun s => SC L P Y i s (r + 1)) e σ1 σ → qa (mj_cst ys) 39 12 [(0, .ref (cl 4 0)), (1, .ref (cl 12 i)), (2, .int (nI i)), (3, .int (nI (r + 1)))] [] σ1 Q) : qa (mj_cst ys) 39 12 [(0, .ref (cl 4 0)), (1, .ref (cl 12 i)), (2, .int (nI i)), (3, .int (nI r))] [] σ1 Q := by
  refine qa_s (pc' := 13) at_39_12 rfl rfl rfl ?_
  refine qa_ic (nx := 14) (v := nI 3) at_39_13 (by decide) rfl ?_
  refine qn_icmp_ge (tg := 97) (nx := 17) at_39_14 rfl rfl (by omega) (by omega) (fun h39_14 => ?_) (fun h39_14 => ?_)
  · omega
  · refine qa_s (pc' := 18) at_39_17 rfl rfl rfl ?_
    refine qa_s (pc' := 19) at_39_18 rfl rfl rfl ?_
    refine qa_aald (nx := 20) (k := r) at_39_19 (by decide) rfl rfl (show _ < 5 by omega) rfl (show r < 3 by omega) ?_
    refine qa_s (pc' := 22) at_39_20 rfl rfl rfl ?_
    refine qa_ic (nx := 23) (v := nI 0) at_39_22 (by decide) rfl ?_
    refine qa_s (pc' := 25) at_39_23 rfl rfl rfl ?_
    exact c39_l hi hI hD hM t1 t2 hr K (L (3 * i + r)) 0 σ1 (by omega) hS
theorem c39_q {e : Nat → Int32} (hi : i < 5) (hI : ImC L P Y σ) (hD : ∀ r, r < 3 → SD L P Y i r) (hM : ∀ r, r < 3 → mtAll (P (3 * i + r)) (3 * i + r) (L (3 * i + r)) σ) (t1 : σ 13 (3 * i + 1) 6 = nI (T1 L P Y i)) (t2 : σ 13 (3 * i + 2) 6 = nI (T2 L P Y i)) (he : ∀ s, s < 4 → σ 10 0 s = e s) (K : ∀ σ1, SCI i (fun s => SC L P Y i s 3) e σ1 σ → Q none σ1) : qa (mj_cst ys) 39 0 [(0, .ref (cl 4 0)), (1, .ref (cl 12 i)), (2, .int (nI i))] [] σ Q := by
  refine qa_s (pc' := 1) at_39_0 rfl rfl rfl ?_
  refine qa_getR (nx := 4) at_39_1 rfl (by decide) rfl rfl (by decide) ?_
  refine qa_s (pc' := 5) at_39_4 rfl rfl rfl ?_
  refine qa_aald (nx := 6) (k := i) at_39_5 (by decide) rfl rfl (by decide) rfl (show i < 5 by omega) ?_
  refine qa_ic (nx := 7) (v := nI 0) at_39_6 (by decide) rfl ?_
  refine qa_callS (nx := 10) at_39_7 rfl rfl (Nat.le_of_ble_eq_true rfl) rfl rfl (by decide) rfl ?_
  show qa _ 36 0 [(0, .ref _), (1, .int _)] [] _ _
  refine c36_q (a := 7) (i := i) rfl (show i < 5 from hi) (fun k => rfl) (by decide) ?_
  show qa _ 39 10 _ [] _ _
  refine qa_ic (nx := 11) (v := nI 0) at_39_10 (by decide) rfl ?_
  refine qa_s (pc' := 12) at_39_11 rfl rfl rfl ?_
  have hS0 : SCI i (fun s => SC L P Y i s 0) e (fl σ 7 i (kd_len 7) (nI 0)) σ := ⟨fun a g1 g2 => by funext i' j'; unfold fl; rw [if_neg (fun c => g1 c.1)], fun j hj => by funext j'; unfold fl; rw [if_neg (fun c => hj c.2.1)], fun q hq => ⟨by unfold fl; rw [if_pos ⟨rfl, rfl, hq⟩]; rfl, by rw [show fl σ 7 i (kd_len 7) (nI 0) 10 0 q = σ 10 0 q from by unfold fl; rw [if_neg (fun c => absurd c.1 (by decide))], he q hq]; rfl⟩⟩
  refine c39_r (r := 0) hi hI hD hM t1 t2 (by decide) hS0 (fun τ0 g0 => ?_)
  refine c39_r (r := 1) hi hI hD hM t1 t2 (by decide) g0 (fun τ1 g1 => ?_)
  refine c39_r (r := 2) hi hI hD hM t1 t2 (by decide) g1 (fun τ2 g2 => ?_)
  refine qa_s (pc' := 13) at_39_12 rfl rfl rfl ?_
  refine qa_ic (nx := 14) (v := nI 3) at_39_13 (by decide) rfl ?_
  refine qn_icmp_ge (tg := 97) (nx := 17) at_39_14 rfl rfl (by decide) (by decide) (fun _ => ?_) (fun h => by omega)
  refine qa_ret at_39_97 rfl ?_
  exact K τ2 g2
end PQ
