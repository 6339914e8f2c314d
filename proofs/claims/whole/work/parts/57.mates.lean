/-! the fourth call: openers and closers -/
section PQ
variable {cst : List (List Int32)} {σ b : sg} {Q : Option Value → sg → Prop} {T k i r d : Nat} {s : Nat → Nat} {L : Nat → Nat} {P Y : Nat → Nat → Nat} {mk : Nat → Nat} {p : Nat → Nat}
/-- the place that the closing at c closes -/
def opn (p : Nat → Nat) (c : Nat) : Nat := sts p c (std p c - 1)
/-- all closings before k close something -/
def clOk (p : Nat → Nat) (k : Nat) : Prop := ∀ c, c < k → (p c = 7 ∨ p c = 9) → 0 < std p c
theorem std_le (p : Nat → Nat) : ∀ k, std p k ≤ k := by
  intro k
  induction k with
  | zero => exact Nat.le_refl _
  | succ k ih => simp only [std, nxd]; split; · omega
                 · split <;> omega
theorem sts_lt (p : Nat → Nat) : ∀ k j, j < std p k → sts p k j < k ∧ (p (sts p k j) = 6 ∨ p (sts p k j) = 8) := by
  intro k
  induction k with
  | zero => intro j hj; exact absurd hj (Nat.not_lt_zero _)
  | succ k ih =>
    intro j hj
    simp only [std, sts, nxd, nxs] at hj ⊢
    by_cases g : p k = 6 ∨ p k = 8
    · rw [if_pos g] at hj ⊢
      by_cases f : j = std p k
      · subst f; unfold psh; rw [if_pos rfl]; exact ⟨by omega, g⟩
      · unfold psh; rw [if_neg f]; have := ih j (by omega); exact ⟨by omega, this.2⟩
    · rw [if_neg g] at hj ⊢
      have : j < std p k := by split at hj <;> omega
      have := ih j this
      exact ⟨by omega, this.2⟩
theorem sts_inc (p : Nat → Nat) : ∀ k j j', j < j' → j' < std p k → sts p k j < sts p k j' := by
  intro k
  induction k with
  | zero => intro j j' _ hj; exact absurd hj (Nat.not_lt_zero _)
  | succ k ih =>
    intro j j' hjj hj
    simp only [std, sts, nxd, nxs] at hj ⊢
    by_cases g : p k = 6 ∨ p k = 8
    · rw [if_pos g] at hj ⊢
      by_cases f : j' = std p k
      · have := (sts_lt p k j (by omega)).1
        subst f; unfold psh; rw [if_pos rfl, if_neg (by omega)]; exact this
      · unfold psh; rw [if_neg f, if_neg (by omega)]; exact ih j j' hjj (by omega)
    · rw [if_neg g] at hj ⊢
      exact ih j j' hjj (by split at hj <;> omega)
/-- what has been closed is not open again -/
theorem opn_gone (p : Nat → Nat) : ∀ k, clOk p k → ∀ c, c < k → (p c = 7 ∨ p c = 9) → ∀ j, j < std p k → sts p k j ≠ opn p c := by
  intro k
  induction k with
  | zero => intro _ c hc; exact absurd hc (Nat.not_lt_zero _)
  | succ k ih =>
    intro hcl c hc hpc j hj
    have hcl' : clOk p k := fun c hc => hcl c (by omega)
    by_cases g : p k = 6 ∨ p k = 8
    · have hck : c < k := by
        have : c ≠ k := by rintro rfl; omega
        omega
      have e : sts p (k + 1) j = psh (sts p k) (std p k) k j := by simp only [sts, nxs]; rw [if_pos g]
      have e2 : std p (k + 1) = std p k + 1 := by simp only [std, nxd]; rw [if_pos g]
      rw [e]
      unfold psh
      split
      · have h0 := hcl' c hck hpc
        have := (sts_lt p c (std p c - 1) (by omega)).1
        unfold opn
        omega
      · exact ih hcl' c hck hpc j (by omega)
    · have e : sts p (k + 1) = sts p k := by simp only [sts, nxs]; rw [if_neg g]
      have e2 : std p (k + 1) = if p k = 7 ∨ p k = 9 then std p k - 1 else std p k := by simp only [std, nxd]; rw [if_neg g]
      rw [e]
      rw [e2] at hj
      by_cases f : c = k
      · subst f
        rw [if_pos hpc] at hj
        unfold opn
        have := sts_inc p c j (std p c - 1) (by omega) (by have := hcl c (by omega) hpc; omega)
        omega
      · exact ih hcl' c (by omega) hpc j (by split at hj <;> omega)
/-- the class's mates of the closings before k -/
def mtAll (p : Nat → Nat) (n k : Nat) (σ : sg) : Prop := ∀ c, c < k → (p c = 7 ∨ p c = 9) → σ 17 n c = nI (opn p c) ∧ σ 17 n (opn p c) = nI c
theorem mtAll_s {n : Nat} {σ1 : sg} (hcl : clOk p (k + 1)) (h : mtAll p n k σ) (hm : mtC p (sts p k) (std p k) k n σ1 σ) : mtAll p n (k + 1) σ1 := by
  intro c hc hpc
  unfold mtC at hm
  rw [hm]
  by_cases g : p k = 7 ∨ p k = 9
  · rw [if_pos g]
    have hk0 := hcl k (by omega) g
    have hq := sts_lt p k (std p k - 1) (by omega)
    by_cases f : c = k
    · subst f
      have ne : sts p c (std p c - 1) ≠ c := by omega
      unfold opn
      exact ⟨up_s, by rw [up_j ne, up_s]⟩
    · obtain ⟨h1, h2⟩ := h c (by omega) hpc
      have ne1 : c ≠ sts p k (std p k - 1) := by intro e; rw [← e] at hq; omega
      have h0 := hcl c (by omega) hpc
      have hoc := sts_lt p c (std p c - 1) (by omega)
      have ne2 : opn p c ≠ k := by unfold opn; omega
      have ne3 : opn p c ≠ sts p k (std p k - 1) := fun e => opn_gone p k (fun c hc => hcl c (by omega)) c (by omega) hpc (std p k - 1) (by omega) e.symm
      exact ⟨by rw [up_j f, up_j ne1]; exact h1, by rw [up_j ne2, up_j ne3]; exact h2⟩
  · rw [if_neg g]
    have f : c ≠ k := by rintro rfl; exact g hpc
    exact h c (by omega) hpc
end PQ
