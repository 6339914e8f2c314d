/-! run: the class's cells of one state, the reference's of another -/
section PQ
variable {σ τ b : sg} {T : Nat}
def mix (σ b : sg) : sg := fun a => if a < 40 then σ a else b a
theorem mixC {a : Nat} (h : a < 40) : mix σ b a = σ a := if_pos h
theorem mixM {a : Nat} (h : 40 ≤ a) : mix σ b a = b a := if_neg (by omega)
theorem mix_self : mix σ σ = σ := by funext a; unfold mix; split <;> rfl
theorem mix_upC {a i j : Nat} {v : Int32} (h : a < 40) : mix (up σ a i j v) b = up (mix σ b) a i j v := by
  funext a' i' j'
  unfold mix up
  by_cases g : a' = a
  · subst g; simp [h]
  · simp only [g, if_false]
theorem mix_upM {a i j : Nat} {v : Int32} (h : 40 ≤ a) : mix σ (up b a i j v) = up (mix σ b) a i j v := by
  have h' : ¬ a < 40 := by omega
  funext a' i' j'
  unfold mix up
  by_cases g : a' = a
  · subst g; simp [h']
  · simp only [g, if_false]
theorem mix_flC {a i n : Nat} {v : Int32} (h : a < 40) : mix (fl σ a i n v) b = fl (mix σ b) a i n v := by
  funext a' i' j'
  unfold mix fl
  by_cases g : a' = a
  · subst g; simp [h]
  · simp only [g, false_and, if_false]
/-- σ' has σ's reference -/
def fr (σ' σ : sg) : Prop := ∀ a, 40 ≤ a → σ' a = σ a
theorem fr_refl : fr σ σ := fun _ _ => rfl
theorem fr_trans (h1 : fr τ σ) (h2 : fr σ b) : fr τ b := fun a h => (h1 a h).trans (h2 a h)
theorem fr_up {a i j : Nat} {v : Int32} (h : a < 40) (hf : fr σ b) : fr (up σ a i j v) b := fun a' h' => by rw [up_k (by omega)]; exact hf a' h'
theorem fr_fl {a i n : Nat} {v : Int32} (h : a < 40) (hf : fr σ b) : fr (fl σ a i n v) b := fun a' h' => by rw [fl_k (by omega)]; exact hf a' h'
theorem mix_fr (h : fr τ σ) : mix τ σ = τ := by
  funext a
  unfold mix
  split
  · rfl
  · rename_i g; exact (h a (by omega)).symm
theorem entM_m {x y z : Int32} : mix τ (entM σ x y z) = entM (mix τ σ) x y z := by
  unfold entM
  rw [mix_upM (by decide), mix_upM (by decide), mix_upM (by decide), mix_upM (by decide), mix_upM (by decide)]
  rfl
theorem rel1_m {i : Nat} {w : Int32} : mix τ (rel1 σ i w) = rel1 (mix τ σ) i w := by
  unfold rel1
  rw [mix_upM (by decide), mix_upM (by decide)]
  rfl
theorem relN_m {i : Nat} : mix τ (relN σ i) = relN (mix τ σ) i := by
  unfold relN
  simp only [mix_upM (show 40 ≤ 70 by decide), mix_upM (show 40 ≤ 66 by decide), mix_upM (show 40 ≤ 65 by decide), mix_upM (show 40 ≤ 64 by decide), mix_upM (show 40 ≤ 63 by decide), mix_upM (show 40 ≤ 62 by decide), mix_upM (show 40 ≤ 60 by decide), mix_upM (show 40 ≤ 59 by decide), mix_upM (show 40 ≤ 58 by decide)]
  rfl
theorem relL_m {i : Nat} : mix τ (relL σ i) = relL (mix τ σ) i := by
  unfold relL
  rw [entM_m, mix_upM (by decide)]
  rfl
theorem relM_m {i : Nat} : mix τ (relM σ i) = relM (mix τ σ) i := by
  have e : mix τ σ 58 0 i = σ 58 0 i := rfl
  unfold relM
  rw [e]
  split
  · rw [relN_m, rel1_m]; rfl
  · rw [relL_m, rel1_m]; rfl
theorem relsM_m (n : Nat) : mix τ (relsM σ n) = relsM (mix τ σ) n := by
  induction n with
  | zero => rfl
  | succ n ih =>
    have e : dueM (relsM (mix τ σ) n) n ↔ dueM (relsM σ n) n := by rw [← ih]; exact Iff.rfl
    unfold relsM
    by_cases h : dueM (relsM σ n) n
    · rw [if_pos h, if_pos (e.mpr h), relM_m, ih]
    · rw [if_neg h, if_neg (fun g => h (e.mp g)), ih]
theorem chM_m (n : Nat) : chM (mix τ σ) n = chM σ n := by
  induction n with
  | zero => rfl
  | succ n ih =>
    unfold chM
    rw [ih]
    rfl
theorem endM_m {j : Nat} {k : Int32} : mix τ (endM σ j k) = endM (mix τ σ) j k := by
  unfold endM
  rw [mix_upM (by decide), mix_upM (by decide), mix_upM (by decide), mix_upM (by decide), entM_m]
  rfl
theorem finM_m {j : Nat} : mix τ (finM σ j) = finM (mix τ σ) j := by
  have e : (mix τ σ 65 0 j = 0 ∧ mix τ σ 66 0 j = mix τ σ 48 0 (3 * j)) ↔ (σ 65 0 j = 0 ∧ σ 66 0 j = σ 48 0 (3 * j)) := Iff.rfl
  unfold finM
  by_cases h : σ 65 0 j = 0 ∧ σ 66 0 j = σ 48 0 (3 * j)
  · rw [if_pos h, if_pos (e.mpr h), endM_m]
  · rw [if_neg h, if_neg (fun g => h (e.mp g))]
theorem stpM_m {j : Nat} : mix τ (stpM σ j) = stpM (mix τ σ) j := by
  unfold stpM
  rw [mix_upM (by decide), mix_upM (by decide)]
  rfl
theorem retM_m {j : Nat} (n : Nat) : ∀ σ, mix τ (retM σ j n) = retM (mix τ σ) j n := by
  induction n with
  | zero => intro σ; rfl
  | succ n ih =>
    intro σ
    have e : (0 < mix τ σ 65 0 j ∧ mix τ σ 66 0 j = mix τ σ 48 0 (3 * j + nN (mix τ σ 65 0 j))) ↔ (0 < σ 65 0 j ∧ σ 66 0 j = σ 48 0 (3 * j + nN (σ 65 0 j))) := Iff.rfl
    unfold retM
    by_cases h : 0 < σ 65 0 j ∧ σ 66 0 j = σ 48 0 (3 * j + nN (σ 65 0 j))
    · rw [if_pos h, if_pos (e.mpr h), ih, mix_upM (by decide), mix_upM (by decide)]; rfl
    · rw [if_neg h, if_neg (fun g => h (e.mp g))]
theorem opM_m {j p o x : Nat} {y : Int32} : mix τ (opM σ j p o x y) = opM (mix τ σ) j p o x y := by
  unfold opM
  split
  · rw [mix_upM (by decide)]
  · rw [mix_upM (by decide)]; rfl
  · rw [mix_upM (by decide)]; rfl
  · rw [mix_upM (by decide)]; rfl
  · rw [mix_upM (by decide)]; rfl
  · rw [show mix τ σ 70 0 (4 * j + x) = σ 70 0 (4 * j + x) from rfl]; split
    · rw [mix_upM (by decide)]; rfl
    · rfl
  · rw [mix_upM (by decide)]
  · rw [mix_upM (by decide), mix_upM (by decide)]; rfl
  · rw [mix_upM (by decide)]; rfl
  · rw [mix_upM (by decide)]; rfl
  · rw [mix_upM (by decide), mix_upM (by decide), mix_upM (by decide), mix_upM (by decide)]; rfl
  · rw [mix_upM (by decide)]; rfl
  · rw [entM_m]; rfl
  · rw [show mix τ σ 77 0 (nN y) = σ 77 0 (nN y) from rfl]; split
    · simp only [mix_upM (show 40 ≤ 70 by decide), mix_upM (show 40 ≤ 76 by decide), mix_upM (show 40 ≤ 77 by decide)]; rfl
    · rw [mix_upM (by decide)]
  · rw [show mix τ σ 77 0 (nN y) = σ 77 0 (nN y) from rfl]; split
    · simp only [mix_upM (show 40 ≤ 70 by decide), mix_upM (show 40 ≤ 76 by decide), mix_upM (show 40 ≤ 77 by decide)]; rfl
    · rw [mix_upM (by decide)]
  · rfl
theorem pfM_m {j p : Nat} : mix τ (pfM σ j p) = pfM (mix τ σ) j p := by
  have e : (mix τ σ 44 0 p = nI 2 ∧ mix τ σ 70 0 (4 * j + nN (mix τ σ 46 0 p)) = 0) ↔ (σ 44 0 p = nI 2 ∧ σ 70 0 (4 * j + nN (σ 46 0 p)) = 0) := Iff.rfl
  unfold pfM
  by_cases h : σ 44 0 p = nI 2 ∧ σ 70 0 (4 * j + nN (σ 46 0 p)) = 0
  · rw [if_pos h, if_pos (e.mpr h), endM_m, stpM_m]
  · rw [if_neg h, if_neg (fun g => h (e.mp g)), finM_m, retM_m, opM_m, stpM_m]; rfl
theorem tkM_m {v : Int32} : mix τ (tkM σ v) = tkM (mix τ σ) v := by
  unfold tkM
  rw [mix_upM (by decide), mix_upM (by decide)]
  rfl
theorem swM_m {j : Nat} : mix τ (swM σ j) = swM (mix τ σ) j := by
  have e1 : mix τ σ 40 0 24 = σ 40 0 24 := rfl
  have e2 : mix τ σ 61 0 j = σ 61 0 j := rfl
  unfold swM
  rw [e1, e2]
  split
  · split
    · rw [mix_upM (by decide)]
    · rw [mix_upM (by decide)]; rfl
  · rw [mix_upM (by decide), mix_upM (by decide)]; rfl
theorem gvM_m {j : Nat} : mix τ (gvM σ j) = gvM (mix τ σ) j := by
  unfold gvM
  rw [mix_upM (by decide), mix_upM (by decide), swM_m]
theorem gpM_m {j : Nat} : mix τ (gpM σ j) = gpM (mix τ σ) j := by
  have e : (mix τ σ 62 0 j = mix τ σ 49 0 (nN (mix τ σ 44 0 (pM (mix τ σ) j)))) ↔ (σ 62 0 j = σ 49 0 (nN (σ 44 0 (pM σ j)))) := Iff.rfl
  unfold gpM
  by_cases h : σ 62 0 j = σ 49 0 (nN (σ 44 0 (pM σ j)))
  · rw [if_pos h, if_pos (e.mpr h), pfM_m, mix_upM (by decide)]; rfl
  · rw [if_neg h, if_neg (fun g => h (e.mp g))]
theorem cgM_m : mix τ (cgM σ T) = cgM (mix τ σ) T := by
  unfold cgM
  rw [chM_m]
  split
  · rw [mix_upM (by decide), mix_upM (by decide), tkM_m]; rfl
  · rw [gpM_m, gvM_m, tkM_m]
theorem cyM_m : mix τ (cyM T σ) = cyM T (mix τ σ) := by
  unfold cyM
  rw [cgM_m, relsM_m]
theorem itM_m (n : Nat) : mix τ (itM T σ n) = itM T (mix τ σ) n := by
  induction n with
  | zero => rfl
  | succ n ih => unfold itM; rw [cyM_m, ih]
/-- a step of the class and one of the reference may change places -/
theorem cm_FG {F G : sg → sg} (hF : ∀ σ τ, mix (F σ) τ = F (mix σ τ)) (hG : ∀ τ σ, mix τ (G σ) = G (mix τ σ)) (μ : sg) : G (F μ) = F (G μ) := by
  have h1 : mix (F μ) μ = F μ := by rw [hF, mix_self]
  have h2 : mix μ (G μ) = G μ := by rw [hG, mix_self]
  rw [← h1, ← hG, hF, h2]
end PQ
