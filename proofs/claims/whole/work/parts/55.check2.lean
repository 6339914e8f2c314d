/-! the fourth call: an instruction is checked, in one -/
section PQ
variable {cst : List (List Int32)} {σ b : sg} {Q : Option Value → sg → Prop} {T k i r d : Nat} {s : Nat → Nat} {L : Nat → Nat} {P Y : Nat → Nat → Nat} {mk : Nat → Nat}
def nxd (p : Nat → Nat) (d k : Nat) : Nat := if p k = 6 ∨ p k = 8 then d + 1 else if p k = 7 ∨ p k = 9 then d - 1 else d
def nxs (p s : Nat → Nat) (d k : Nat) : Nat → Nat := if p k = 6 ∨ p k = 8 then psh s d k else s
/-- the class's mates after the instruction at k -/
def mtC (p s : Nat → Nat) (d k n : Nat) (σ1 σ : sg) : Prop := σ1 17 = if p k = 7 ∨ p k = 9 then up (up σ 17 n (s (d - 1)) (nI k)) 17 n k (nI (s (d - 1))) 17 else σ 17
theorem c25_q (hi : i < 5) (hr : r < 3) (hk : k < L (3 * i + r)) (hI : ImC L P Y σ) (hO : CO (P (3 * i + r)) (Y (3 * i + r)) s d σ) (hS : StOk (P (3 * i + r)) (Y (3 * i + r)) s d k) (hm : ∀ y, 1 ≤ y → y ≤ 2 → mk y < 16 ∧ σ 13 (3 * i + y) 5 = nI (mk y)) (K0 : ckR L P Y mk i r s d k = 0 → ∀ σ1, CO (P (3 * i + r)) (Y (3 * i + r)) (nxs (P (3 * i + r)) s d k) (nxd (P (3 * i + r)) d k) σ1 → frK σ1 σ → mtC (P (3 * i + r)) s d k (3 * i + r) σ1 σ → Q (some (.int (nI 0))) σ1) (K1 : ∀ w, ckR L P Y mk i r s d k = w → 0 < w → w < 9 → Q (some (.int (nI w))) σ) : qa cst 25 0 [(0, .ref (cl 2 0)), (1, .ref (cl 12 i)), (2, .int (nI r)), (3, .int (nI k))] [] σ Q := by
  have hP := ((hI (3 * i + r) (by omega)).2.2 k (by have := (hI (3 * i + r) (by omega)).1; omega)).1
  have hoc : P (3 * i + r) k = 7 ∨ P (3 * i + r) k = 9 ∨ P (3 * i + r) k = 6 ∨ P (3 * i + r) k = 8 ∨ P (3 * i + r) k = 10 ∨ P (3 * i + r) k = 5 ∨ (P (3 * i + r) k < 5 ∨ 10 < P (3 * i + r) k) := by omega
  rcases hoc with ho | ho | ho | ho | ho | ho | ho
  · have hR : ckR L P Y mk i r s d k = (if 0 < d ∧ P (3 * i + r) (s (d - 1)) = 6 then 0 else 2) := by unfold ckR; simp [ho]
    have e1 : nxs (P (3 * i + r)) s d k = s := by unfold nxs; rw [if_neg (by omega)]
    have e2 : nxd (P (3 * i + r)) d k = d - 1 := by unfold nxd; rw [if_neg (by omega), if_pos (by omega)]
    rw [hR, e1, e2] at K0
    exact ck7_q hi hr hk hI hO hS ho (fun g σ1 f1 f2 f3 => K0 (if_pos g) σ1 f1 f2 (by unfold mtC; rw [if_pos (by omega)]; exact f3)) (fun g => K1 2 (by rw [hR, if_neg g]) (by decide) (by decide))
  · have hR : ckR L P Y mk i r s d k = (if 0 < d ∧ P (3 * i + r) (s (d - 1)) = 8 then 0 else 2) := by unfold ckR; simp [ho]
    have e1 : nxs (P (3 * i + r)) s d k = s := by unfold nxs; rw [if_neg (by omega)]
    have e2 : nxd (P (3 * i + r)) d k = d - 1 := by unfold nxd; rw [if_neg (by omega), if_pos (by omega)]
    rw [hR, e1, e2] at K0
    exact ck9_q hi hr hk hI hO hS ho (fun g σ1 f1 f2 f3 => K0 (if_pos g) σ1 f1 f2 (by unfold mtC; rw [if_pos (by omega)]; exact f3)) (fun g => K1 2 (by rw [hR, if_neg g]) (by decide) (by decide))
  · have hR : ckR L P Y mk i r s d k = (if lps (P (3 * i + r)) s d = 2 then 3 else 0) := by unfold ckR; simp [ho]
    have e1 : nxs (P (3 * i + r)) s d k = psh s d k := by unfold nxs; rw [if_pos (by omega)]
    have e2 : nxd (P (3 * i + r)) d k = d + 1 := by unfold nxd; rw [if_pos (by omega)]
    rw [hR, e1, e2] at K0
    exact ck6_q hi hr hk hI hO hS ho (fun g σ1 f1 f2 f3 => K0 (if_neg (g)) σ1 f1 f2 (by unfold mtC; rw [if_neg (by omega)]; exact f3)) (fun g => K1 3 (by rw [hR, if_pos g]) (by decide) (by decide))
  · have hR : ckR L P Y mk i r s d k = (if (lks (P (3 * i + r)) (Y (3 * i + r)) s d).testBit (Y (3 * i + r) k) = true then 5 else 0) := by unfold ckR; simp [ho]
    have e1 : nxs (P (3 * i + r)) s d k = psh s d k := by unfold nxs; rw [if_pos (by omega)]
    have e2 : nxd (P (3 * i + r)) d k = d + 1 := by unfold nxd; rw [if_pos (by omega)]
    rw [hR, e1, e2] at K0
    exact ck8_q hi hr hk hI hO hS ho (fun g σ1 f1 f2 f3 => K0 (if_neg (by rw [g]; decide)) σ1 f1 f2 (by unfold mtC; rw [if_neg (by omega)]; exact f3)) (fun g => K1 5 (by rw [hR, if_pos g]) (by decide) (by decide))
  · have hR : ckR L P Y mk i r s d k = (if Y (3 * i + r) k ≤ r ∨ L (3 * i + Y (3 * i + r) k) = 0 then 4 else if lks (P (3 * i + r)) (Y (3 * i + r)) s d &&& mk (Y (3 * i + r) k) = 0 then 0 else 5) := by unfold ckR; simp [ho]
    have e1 : nxs (P (3 * i + r)) s d k = s := by unfold nxs; rw [if_neg (by omega)]
    have e2 : nxd (P (3 * i + r)) d k = d := by unfold nxd; rw [if_neg (by omega), if_neg (by omega)]
    have e3 : mtC (P (3 * i + r)) s d k (3 * i + r) σ σ := by unfold mtC; rw [if_neg (by omega)]
    rw [e1, e2] at K0
    exact ck10_q hi hr hk hI hO hS ho hm (fun g1 g2 => K0 (by rw [hR, if_neg g1, if_pos g2]) σ hO frK_refl e3) (fun g => K1 4 (by rw [hR, if_pos g]) (by decide) (by decide)) (fun g1 g2 => K1 5 (by rw [hR, if_neg g1, if_neg g2]) (by decide) (by decide))
  · have hR : ckR L P Y mk i r s d k = (if k + 1 + Y (3 * i + r) k ≤ L (3 * i + r) ∧ jmp (P (3 * i + r)) (Y (3 * i + r) k) (k + 1) 0 = true then 0 else 6) := by unfold ckR; simp [ho]
    have e1 : nxs (P (3 * i + r)) s d k = s := by unfold nxs; rw [if_neg (by omega)]
    have e2 : nxd (P (3 * i + r)) d k = d := by unfold nxd; rw [if_neg (by omega), if_neg (by omega)]
    have e3 : mtC (P (3 * i + r)) s d k (3 * i + r) σ σ := by unfold mtC; rw [if_neg (by omega)]
    rw [e1, e2] at K0
    exact ck5_q hi hr hk hI hO hS ho (fun g => K0 (by rw [hR, if_pos g]) σ hO frK_refl e3) (fun g => K1 6 (by rw [hR, if_neg g]) (by decide) (by decide))
  · have hR : ckR L P Y mk i r s d k = 0 := by
      have h5 : ¬ P (3 * i + r) k = 5 := by omega
      have h6 : ¬ P (3 * i + r) k = 6 := by omega
      have h7 : ¬ P (3 * i + r) k = 7 := by omega
      have h8 : ¬ P (3 * i + r) k = 8 := by omega
      have h9 : ¬ P (3 * i + r) k = 9 := by omega
      have h10 : ¬ P (3 * i + r) k = 10 := by omega
      unfold ckR
      simp [h5, h6, h7, h8, h9, h10]
    have e1 : nxs (P (3 * i + r)) s d k = s := by unfold nxs; rw [if_neg (by omega)]
    have e2 : nxd (P (3 * i + r)) d k = d := by unfold nxd; rw [if_neg (by omega), if_neg (by omega)]
    have e3 : mtC (P (3 * i + r)) s d k (3 * i + r) σ σ := by unfold mtC; rw [if_neg (by omega)]
    rw [e1, e2] at K0
    exact ckd_q hi hr hk hI hO hS ho (K0 hR σ hO frK_refl e3)
end PQ
