/-! The relation's parts speak of their own kinds alone. -/
theorem up_k {σ : sg} {a i j a' : Nat} {v : Int32} (h : a' ≠ a) : up σ a i j v a' = σ a' := by
  funext i' j'
  simp [up, h]
theorem up_i {σ : sg} {a i j i' : Nat} {v : Int32} (h : i' ≠ i) : up σ a i j v a i' = σ a i' := by
  funext j'
  simp [up, h]
theorem up_j {σ : sg} {a i j j' : Nat} {v : Int32} (h : j' ≠ j) : up σ a i j v a i j' = σ a i j' := by
  simp [up, h]
theorem up_s {σ : sg} {a i j : Nat} {v : Int32} : up σ a i j v a i j = v := by simp [up]
section CG
variable {σ σ' : sg} {T : Nat}
theorem RT_congr (h11 : σ' 11 = σ 11) (h41 : σ' 41 = σ 41) (h42 : σ' 42 = σ 42) (h43 : σ' 43 = σ 43) (h : RT T σ) : RT T σ' := by
  unfold RT at *; rw [h11, h41, h42, h43]; exact h
theorem RI_congr (h13 : σ' 13 = σ 13) (h14 : σ' 14 = σ 14) (h15 : σ' 15 = σ 15) (h16 : σ' 16 = σ 16) (h44 : σ' 44 = σ 44) (h45 : σ' 45 = σ 45) (h46 : σ' 46 = σ 46) (h48 : σ' 48 = σ 48) (h : RI σ) : RI σ' := by
  unfold RI at *; rw [h13, h14, h15, h16, h44, h45, h46, h48]; exact h
theorem RP_congr (h49 : σ' 49 = σ 49) (h : RP σ) : RP σ' := by unfold RP at *; rw [h49]; exact h
theorem Snd_congr (h10 : σ' 10 = σ 10) (h13 : σ' 13 = σ 13) (h14 : σ' 14 = σ 14) (h16 : σ' 16 = σ 16) (h17 : σ' 17 = σ 17) (h47 : σ' 47 = σ 47) (h : Snd T σ) : Snd T σ' := by
  unfold Snd at *; rw [h10, h13, h14, h16, h17, h47]; exact h
theorem RF_congr (h4 : σ' 4 = σ 4) (h5 : σ' 5 = σ 5) (h7 : σ' 7 = σ 7) (h8 : σ' 8 = σ 8) (h9 : σ' 9 = σ 9) (h53 : σ' 53 = σ 53) (h54 : σ' 54 = σ 54) (h55 : σ' 55 = σ 55) (h56 : σ' 56 = σ 56) (h57 : σ' 57 = σ 57) (h10 : σ' 10 = σ 10) (h13 : σ' 13 = σ 13) (h14 : σ' 14 = σ 14) (h16 : σ' 16 = σ 16) (h17 : σ' 17 = σ 17) (h47 : σ' 47 = σ 47) (h : RF T σ) : RF T σ' := by
  intro hf
  rw [h4] at hf
  obtain ⟨g1, g2, g3⟩ := h hf
  refine ⟨?_, ?_, Snd_congr h10 h13 h14 h16 h17 h47 g3⟩
  · rw [h5, h7, h8, h9, h53, h54, h55, h56]; exact g1
  · rw [h57, h10]; exact g2
theorem RJ_congr (h22 : σ' 22 = σ 22) (h23 : σ' 23 = σ 23) (h24 : σ' 24 = σ 24) (h25 : σ' 25 = σ 25) (h78 : σ' 78 = σ 78) (h79 : σ' 79 = σ 79) (h80 : σ' 80 = σ 80) (h81 : σ' 81 = σ 81) (h29 : σ' 29 = σ 29) (h30 : σ' 30 = σ 30) (h31 : σ' 31 = σ 31) (h32 : σ' 32 = σ 32) (h34 : σ' 34 = σ 34) (h59 : σ' 59 = σ 59) (h60 : σ' 60 = σ 60) (h62 : σ' 62 = σ 62) (h63 : σ' 63 = σ 63) (h64 : σ' 64 = σ 64) (h65 : σ' 65 = σ 65) (h66 : σ' 66 = σ 66) (h67 : σ' 67 = σ 67) (h68 : σ' 68 = σ 68) (h69 : σ' 69 = σ 69) (h70 : σ' 70 = σ 70) (h : RJ σ) : RJ σ' := by
  unfold RJ at *; rw [h22, h23, h24, h25, h78, h79, h80, h81, h29, h30, h31, h32, h34, h59, h60, h62, h63, h64, h65, h66, h67, h68, h69, h70]; exact h
theorem chainOk_congr (h13 : σ' 13 = σ 13) (h31 : σ' 31 = σ 31) (h32 : σ' 32 = σ 32) (i : Nat) : ∀ f r, chainOk σ' i f r = chainOk σ i f r
  | 0, r => rfl
  | f + 1, r => by simp only [chainOk, h13, h31, h32, chainOk_congr h13 h31 h32 i f]
theorem JobOk_congr {i : Nat} (h10 : σ' 10 = σ 10) (h13 : σ' 13 = σ 13) (h14 : σ' 14 = σ 14) (h29 : σ' 29 = σ 29) (h31 : σ' 31 = σ 31) (h32 : σ' 32 = σ 32) (h61 : σ' 61 = σ 61) (h : JobOk σ i) : JobOk σ' i := by
  unfold JobOk at *
  simp only [h10, h13, h14, h29, h61, chainOk_congr h13 h31 h32]
  exact h
end CG
/-- everything but the counts and the run stays where only flags are written -/
theorem Rel_flags {σ σ' : sg} {T : Nat} (hR : Rel T σ) (hk : ∀ a, a ≠ 18 → a ≠ 40 → σ' a = σ a) (hA : RA T σ') (hRR : RR T σ') : Rel T σ' := by
  obtain ⟨-, hTt, hI, hP, hF, hJ, -⟩ := hR
  refine ⟨hA, RT_congr ?_ ?_ ?_ ?_ hTt, RI_congr ?_ ?_ ?_ ?_ ?_ ?_ ?_ ?_ hI, RP_congr ?_ hP, RF_congr ?_ ?_ ?_ ?_ ?_ ?_ ?_ ?_ ?_ ?_ ?_ ?_ ?_ ?_ ?_ ?_ hF, RJ_congr ?_ ?_ ?_ ?_ ?_ ?_ ?_ ?_ ?_ ?_ ?_ ?_ ?_ ?_ ?_ ?_ ?_ ?_ ?_ ?_ ?_ ?_ ?_ ?_ hJ, hRR⟩ <;> exact hk _ (by decide) (by decide)
