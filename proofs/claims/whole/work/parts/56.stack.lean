/-! the fourth call: the open brackets along a routine -/
section PQ
variable {cst : List (List Int32)} {σ b : sg} {Q : Option Value → sg → Prop} {T k i r d : Nat} {s : Nat → Nat} {L : Nat → Nat} {P Y : Nat → Nat → Nat} {mk : Nat → Nat}
theorem StOk_nx {p y : Nat → Nat} (h : StOk p y s d k) (h6 : p k = 6 → ¬ lps p s d = 2) (h8 : p k = 8 → y k < 4 ∧ (lks p y s d).testBit (y k) = false) : StOk p y (nxs p s d k) (nxd p d k) (k + 1) := by
  obtain ⟨hd, hl, hs⟩ := h
  by_cases g : p k = 6 ∨ p k = 8
  · have e1 : nxs p s d k = psh s d k := by unfold nxs; rw [if_pos g]
    have e2 : nxd p d k = d + 1 := by unfold nxd; rw [if_pos g]
    have c1 : lps p (psh s d k) d = lps p s d := lps_c d (fun j hj => by unfold psh; rw [if_neg (by omega)])
    have c3 : psh s d k d = k := if_pos rfl
    rw [e1, e2]
    refine ⟨by omega, ?_, fun j hj => ?_⟩
    · simp only [lps]
      rw [c1, c3]
      split
      · rename_i f; have := h6 f; omega
      · omega
    · by_cases f : j = d
      · subst f
        rw [c3]
        refine ⟨by omega, g, fun f8 => ⟨(h8 f8).1, ?_⟩⟩
        rw [lks_c j (fun q hq => by unfold psh; rw [if_neg (by omega)])]
        exact (h8 f8).2
      · have e : psh s d k j = s j := by unfold psh; rw [if_neg f]
        rw [e]
        obtain ⟨q1, q2, q3⟩ := hs j (by omega)
        refine ⟨by omega, q2, fun f8 => ⟨(q3 f8).1, ?_⟩⟩
        rw [lks_c j (fun q hq => by unfold psh; rw [if_neg (by omega)])]
        exact (q3 f8).2
  · have e1 : nxs p s d k = s := by unfold nxs; rw [if_neg g]
    have hle : nxd p d k ≤ d := by unfold nxd; rw [if_neg g]; split <;> omega
    rw [e1]
    refine ⟨by omega, ?_, fun j hj => ?_⟩
    · have : ∀ m, lps p s m ≤ lps p s (m + 1) := fun m => by simp only [lps]; omega
      have mono : ∀ q m, lps p s m ≤ lps p s (m + q) := by
        intro q
        induction q with
        | zero => intro m; exact Nat.le_refl _
        | succ q ih => intro m; exact Nat.le_trans (ih m) (this (m + q))
      have := mono (d - nxd p d k) (nxd p d k)
      rw [show nxd p d k + (d - nxd p d k) = d by omega] at this
      omega
    · obtain ⟨q1, q2, q3⟩ := hs j (by omega)
      exact ⟨by omega, q2, q3⟩
/-- the open brackets before place k -/
def std (p : Nat → Nat) : Nat → Nat
  | 0 => 0
  | k + 1 => nxd p (std p k) k
def sts (p : Nat → Nat) : Nat → Nat → Nat
  | 0 => fun _ => 0
  | k + 1 => nxs p (sts p k) (std p k) k
/-- the reason at k, all before being sound -/
abbrev ckA (L : Nat → Nat) (P Y : Nat → Nat → Nat) (mk : Nat → Nat) (i r k : Nat) : Nat := ckR L P Y mk i r (sts (P (3 * i + r)) k) (std (P (3 * i + r)) k) k
theorem ck_68 {p y : Nat → Nat} (hR : ckR L P Y mk i r s d k = 0) (hp : P (3 * i + r) = p) (hy : Y (3 * i + r) = y) (h4 : p k = 8 → y k < 4) : (p k = 6 → ¬ lps p s d = 2) ∧ (p k = 8 → y k < 4 ∧ (lks p y s d).testBit (y k) = false) := by
  subst hp; subst hy
  unfold ckR at hR
  refine ⟨fun g f => ?_, fun g => ⟨h4 g, ?_⟩⟩
  · simp [g, f] at hR
  · simp [g] at hR
    exact hR
theorem StOk_at (hn : 3 * i + r < 15) (hI : ImC L P Y σ) : ∀ k, k ≤ L (3 * i + r) → (∀ j, j < k → ckA L P Y mk i r j = 0) → StOk (P (3 * i + r)) (Y (3 * i + r)) (sts (P (3 * i + r)) k) (std (P (3 * i + r)) k) k := by
  intro k
  induction k with
  | zero => intro _ _; exact ⟨Nat.le_refl _, Nat.zero_le _, fun j hj => absurd hj (Nat.not_lt_zero _)⟩
  | succ k ih =>
    intro hk hall
    have hL := (hI (3 * i + r) hn).1
    have h := ih (by omega) (fun j hj => hall j (by omega))
    obtain ⟨g6, g8⟩ := ck_68 (hall k (by omega)) rfl rfl (fun g => (imY (((hI (3 * i + r) hn).2.2 k (by omega)).2.2 (by omega)).2).1 g)
    exact StOk_nx h g6 g8
end PQ
