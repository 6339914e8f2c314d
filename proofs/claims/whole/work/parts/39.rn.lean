/-! run: the relation in pieces, and what a pair of stores does to it. x: a job that is not bound to be in order (5: none) -/
section RNs
variable {σ σ' : sg} {T : Nat}
def RS (σ : sg) : Prop := σ 40 0 22 = σ 18 0 7 ∧ σ 40 0 23 = σ 18 0 9 ∧ σ 40 0 24 = σ 18 0 8 ∧ σ 40 0 25 = σ 18 0 10 ∧ σ 40 0 26 = σ 18 0 11 ∧ σ 40 0 27 = σ 18 0 12 ∧ σ 40 0 28 = σ 18 0 13 ∧ σ 40 0 29 = σ 21 0 0
def PoOk (σ : sg) : Prop := ∀ p, p < 2 → σ 75 0 p = σ 20 0 p
def MlOk (σ : sg) : Prop := ∀ y, y < 2 → ∃ c : Nat, c ≤ 3 ∧ σ 35 y 1 = nI c ∧ σ 77 0 y = nI c ∧ ∀ j, j < c → σ 76 0 (3 * y + j) = σ 36 y j
def TkOk (σ : sg) (x i : Nat) : Prop := (∀ k, k < 8 → σ 71 0 (8 * i + k) = σ 28 i k) ∧ σ 72 0 i = σ 27 i 4 ∧ σ 74 0 i = σ 27 i 3 ∧ (∃ w : Nat, w ≤ 4 ∧ σ 73 0 i = nI w ∧ σ 27 i 5 = nI w ∧ (¬ σ 11 i 3 = -1 → w = 0)) ∧ σ 58 0 i = σ 29 i 0 ∧ (σ 29 i 0 = 0 ∨ σ 29 i 0 = 1) ∧ (i ≠ x → σ 29 i 0 = 1 → JobOk σ i)
def HdOk (T : Nat) (σ : sg) : Prop := σ 18 0 8 = -1 ∨ ∃ j : Nat, j < T ∧ σ 18 0 8 = nI j ∧ σ 29 j 0 = 1 ∧ σ 29 j 1 = 1
def Bs (T : Nat) (σ : sg) : Prop := RA T σ ∧ RT T σ ∧ RI σ ∧ RP σ ∧ RF T σ ∧ σ 18 0 0 = 1 ∧ σ 18 0 6 = nI T
def Rn (T x : Nat) (σ : sg) : Prop := Bs T σ ∧ RJ σ ∧ RS σ ∧ PoOk σ ∧ MlOk σ ∧ (∀ i, i < T → TkOk σ x i) ∧ HdOk T σ
theorem Rn_of (hR : Rel T σ) (h1 : σ 18 0 0 = 1) (x : Nat) : Rn T x σ := by
  obtain ⟨hA, hTt, hI, hP, hF, hJ, hRR⟩ := hR
  obtain ⟨q6, q22, q23, q24, q25, q26, q27, q28, q29, qp, qm, qt, qh⟩ := hRR h1
  refine ⟨⟨hA, hTt, hI, hP, hF, h1, q6⟩, hJ, ⟨q22, q23, q24, q25, q26, q27, q28, q29⟩, qp, qm, fun i hi => ?_, qh⟩
  obtain ⟨a, b, c, d, e, f, g⟩ := qt i hi
  exact ⟨a, b, c, d, e, f, fun _ => g⟩
theorem Rel_of {x : Nat} (h : Rn T x σ) (hj : x < T → σ 29 x 0 = 1 → JobOk σ x) : Rel T σ := by
  obtain ⟨⟨hA, hTt, hI, hP, hF, h1, q6⟩, hJ, ⟨q22, q23, q24, q25, q26, q27, q28, q29⟩, qp, qm, qt, qh⟩ := h
  refine ⟨hA, hTt, hI, hP, hF, hJ, fun _ => ⟨q6, q22, q23, q24, q25, q26, q27, q28, q29, qp, qm, fun i hi => ?_, qh⟩⟩
  obtain ⟨a, b, c, d, e, f, g⟩ := qt i hi
  refine ⟨a, b, c, d, e, f, fun h => ?_⟩
  by_cases hx : i = x
  · subst hx; exact hj hi h
  · exact g hx h
theorem kne {p : Nat → Bool} {a b : Nat} (ha : p a = true) (hb : p b = false) : a ≠ b := by rintro rfl; rw [ha] at hb; cases hb
theorem knf {p : Nat → Bool} {a b : Nat} (ha : p a = false) (hb : p b = true) : a ≠ b := by rintro rfl; rw [ha] at hb; cases hb
def runK (a : Nat) : Bool := [18, 21, 22, 23, 24, 25, 27, 28, 29, 30, 31, 32, 34, 35, 36, 40, 58, 59, 60, 61, 62, 63, 64, 65, 66, 67, 68, 69, 70, 71, 72, 73, 74, 76, 77, 78, 79, 80, 81].contains a
def jK (a : Nat) : Bool := [22, 23, 24, 25, 78, 79, 80, 81, 29, 30, 31, 32, 34, 59, 60, 62, 63, 64, 65, 66, 67, 68, 69, 70].contains a
def tK (a : Nat) : Bool := [10, 11, 13, 14, 28, 71, 27, 72, 73, 74, 58, 29, 31, 32, 61].contains a
theorem Bs_of (h : Bs T σ) (hk : ∀ a, runK a = false → σ' a = σ a) (h18 : σ' 18 0 0 = σ 18 0 0) (h186 : σ' 18 0 6 = σ 18 0 6) (h40 : ∀ j, j < 4 → σ' 40 0 j = σ 40 0 j) : Bs T σ' := by
  obtain ⟨hA, hTt, hI, hP, hF, h1, q6⟩ := h
  refine ⟨?_, RT_congr ?_ ?_ ?_ ?_ hTt, RI_congr ?_ ?_ ?_ ?_ ?_ ?_ ?_ ?_ hI, RP_congr ?_ hP, RF_congr ?_ ?_ ?_ ?_ ?_ ?_ ?_ ?_ ?_ ?_ ?_ ?_ ?_ ?_ ?_ ?_ hF, h18.trans h1, h186.trans q6⟩
  · unfold RA at *
    rw [h40 0 (by decide), h40 1 (by decide), h40 2 (by decide), h40 3 (by decide), h18, hk 0 (by decide), hk 4 (by decide), hk 2 (by decide)]
    exact hA
  all_goals (exact hk _ (by decide))
theorem RJ_of (hk : ∀ a, jK a = true → σ' a = σ a) (h : RJ σ) : RJ σ' := by
  refine RJ_congr ?_ ?_ ?_ ?_ ?_ ?_ ?_ ?_ ?_ ?_ ?_ ?_ ?_ ?_ ?_ ?_ ?_ ?_ ?_ ?_ ?_ ?_ ?_ ?_ h <;> exact hk _ (by decide)
theorem RS_of (h18 : σ' 18 = σ 18) (h40 : σ' 40 = σ 40) (h21 : σ' 21 = σ 21) (h : RS σ) : RS σ' := by unfold RS at *; rw [h18, h40, h21]; exact h
theorem PoOk_of (h20 : σ' 20 = σ 20) (h75 : σ' 75 = σ 75) (h : PoOk σ) : PoOk σ' := by unfold PoOk at *; rw [h20, h75]; exact h
theorem MlOk_of (h35 : σ' 35 = σ 35) (h36 : σ' 36 = σ 36) (h76 : σ' 76 = σ 76) (h77 : σ' 77 = σ 77) (h : MlOk σ) : MlOk σ' := by unfold MlOk at *; rw [h35, h36, h76, h77]; exact h
theorem HdOk_of (h18 : σ' 18 = σ 18) (h29 : σ' 29 = σ 29) (h : HdOk T σ) : HdOk T σ' := by unfold HdOk at *; rw [h18, h29]; exact h
theorem TkOk_of {x i : Nat} (hk : ∀ a, tK a = true → σ' a = σ a) (h : TkOk σ x i) : TkOk σ' x i := by
  unfold TkOk at *
  rw [hk 71 (by decide), hk 28 (by decide), hk 72 (by decide), hk 27 (by decide), hk 74 (by decide), hk 73 (by decide), hk 11 (by decide), hk 58 (by decide), hk 29 (by decide)]
  obtain ⟨a, b, c, d, e, f, g⟩ := h
  exact ⟨a, b, c, d, e, f, fun h1 h2 => JobOk_congr (hk 10 (by decide)) (hk 13 (by decide)) (hk 14 (by decide)) (hk 29 (by decide)) (hk 31 (by decide)) (hk 32 (by decide)) (hk 61 (by decide)) (g h1 h2)⟩
theorem chainOk_ix {i : Nat} (h13 : σ' 13 = σ 13) (h31 : σ' 31 i = σ 31 i) (h32 : σ' 32 i = σ 32 i) : ∀ f r, chainOk σ' i f r = chainOk σ i f r
  | 0, r => rfl
  | f + 1, r => by simp only [chainOk, h13, h31, h32, chainOk_ix h13 h31 h32 f]
theorem JobOk_ix {i : Nat} (h10 : σ' 10 = σ 10) (h13 : σ' 13 = σ 13) (h14 : σ' 14 = σ 14) (h29 : ∀ s, s ≠ 0 → s ≠ 5 → s ≠ 6 → σ' 29 i s = σ 29 i s) (h31 : σ' 31 i = σ 31 i) (h32 : σ' 32 i = σ 32 i) (h61 : σ' 61 0 i = σ 61 0 i) (h : JobOk σ i) : JobOk σ' i := by
  unfold JobOk at *
  simp only [h10, h13, h14, h61, chainOk_ix h13 h31 h32]
  rw [h29 2 (by decide) (by decide) (by decide), h29 10 (by decide) (by decide) (by decide), h29 11 (by decide) (by decide) (by decide), h29 12 (by decide) (by decide) (by decide), h29 4 (by decide) (by decide) (by decide), h29 3 (by decide) (by decide) (by decide), h29 1 (by decide) (by decide) (by decide), h29 7 (by decide) (by decide) (by decide)]
  exact h
theorem TkOk_ix {x i : Nat} (h10 : σ' 10 = σ 10) (h11 : σ' 11 = σ 11) (h13 : σ' 13 = σ 13) (h14 : σ' 14 = σ 14) (hw : (∀ k, k < 8 → σ 71 0 (8 * i + k) = σ 28 i k) → ∀ k, k < 8 → σ' 71 0 (8 * i + k) = σ' 28 i k) (h4 : σ 72 0 i = σ 27 i 4 → σ' 72 0 i = σ' 27 i 4) (h3 : σ 74 0 i = σ 27 i 3 → σ' 74 0 i = σ' 27 i 3) (h5 : (∃ w : Nat, w ≤ 4 ∧ σ 73 0 i = nI w ∧ σ 27 i 5 = nI w ∧ (¬ σ 11 i 3 = -1 → w = 0)) → (∃ w : Nat, w ≤ 4 ∧ σ' 73 0 i = nI w ∧ σ' 27 i 5 = nI w ∧ (¬ σ 11 i 3 = -1 → w = 0))) (h0 : σ 58 0 i = σ 29 i 0 → (σ 29 i 0 = 0 ∨ σ 29 i 0 = 1) → σ' 58 0 i = σ' 29 i 0 ∧ (σ' 29 i 0 = 0 ∨ σ' 29 i 0 = 1)) (hj : i ≠ x → σ' 29 i 0 = σ 29 i 0 ∧ (∀ s, s ≠ 0 → s ≠ 5 → s ≠ 6 → σ' 29 i s = σ 29 i s) ∧ σ' 31 i = σ 31 i ∧ σ' 32 i = σ 32 i ∧ σ' 61 0 i = σ 61 0 i) (h : TkOk σ x i) : TkOk σ' x i := by
  obtain ⟨a, b, c, d, e, f, g⟩ := h
  have q := h0 e f
  refine ⟨hw a, h4 b, h3 c, by rw [h11]; exact h5 d, q.1, q.2, fun h1 h2 => ?_⟩
  obtain ⟨e0, e1, e2, e3, e4⟩ := hj h1
  exact JobOk_ix h10 h13 h14 e1 e2 e3 e4 (g h1 (e0 ▸ h2))
end RNs
section AT
variable {σ b : sg} {T x : Nat}
theorem at_s7 {v : Int32} (h : Rn T x (mix σ b)) : Rn T x (mix (up σ 18 0 7 v) (up b 40 0 22 v)) := by
  rw [mix_upC (by decide), mix_upM (by decide)]
  generalize mix σ b = μ at *
  obtain ⟨hB, hJ, hS, hP, hM, hT, hH⟩ := h
  refine ⟨Bs_of hB (fun a ha => (up_k (knf ha (by decide))).trans (up_k (knf ha (by decide)))) (by rfl) (by rfl) (by intro j hj; first | rfl | (obtain rfl | rfl | rfl | rfl : j = 0 ∨ j = 1 ∨ j = 2 ∨ j = 3 := by omega) <;> rfl), RJ_of (fun a ha => (up_k (kne ha (by decide))).trans (up_k (kne ha (by decide)))) hJ, ?S, PoOk_of ((up_k (by decide)).trans (up_k (by decide))) ((up_k (by decide)).trans (up_k (by decide))) hP, MlOk_of ((up_k (by decide)).trans (up_k (by decide))) ((up_k (by decide)).trans (up_k (by decide))) ((up_k (by decide)).trans (up_k (by decide))) ((up_k (by decide)).trans (up_k (by decide))) hM, fun i hi => TkOk_of (fun a ha => (up_k (kne ha (by decide))).trans (up_k (kne ha (by decide)))) (hT i hi), ?H⟩
  case S =>
    exact ⟨rfl, hS.2.1, hS.2.2.1, hS.2.2.2.1, hS.2.2.2.2.1, hS.2.2.2.2.2.1, hS.2.2.2.2.2.2.1, hS.2.2.2.2.2.2.2⟩
  case H =>
    exact hH
theorem at_s9 {v : Int32} (h : Rn T x (mix σ b)) : Rn T x (mix (up σ 18 0 9 v) (up b 40 0 23 v)) := by
  rw [mix_upC (by decide), mix_upM (by decide)]
  generalize mix σ b = μ at *
  obtain ⟨hB, hJ, hS, hP, hM, hT, hH⟩ := h
  refine ⟨Bs_of hB (fun a ha => (up_k (knf ha (by decide))).trans (up_k (knf ha (by decide)))) (by rfl) (by rfl) (by intro j hj; first | rfl | (obtain rfl | rfl | rfl | rfl : j = 0 ∨ j = 1 ∨ j = 2 ∨ j = 3 := by omega) <;> rfl), RJ_of (fun a ha => (up_k (kne ha (by decide))).trans (up_k (kne ha (by decide)))) hJ, ?S, PoOk_of ((up_k (by decide)).trans (up_k (by decide))) ((up_k (by decide)).trans (up_k (by decide))) hP, MlOk_of ((up_k (by decide)).trans (up_k (by decide))) ((up_k (by decide)).trans (up_k (by decide))) ((up_k (by decide)).trans (up_k (by decide))) ((up_k (by decide)).trans (up_k (by decide))) hM, fun i hi => TkOk_of (fun a ha => (up_k (kne ha (by decide))).trans (up_k (kne ha (by decide)))) (hT i hi), ?H⟩
  case S =>
    exact ⟨hS.1, rfl, hS.2.2.1, hS.2.2.2.1, hS.2.2.2.2.1, hS.2.2.2.2.2.1, hS.2.2.2.2.2.2.1, hS.2.2.2.2.2.2.2⟩
  case H =>
    exact hH
theorem at_s10 {v : Int32} (h : Rn T x (mix σ b)) : Rn T x (mix (up σ 18 0 10 v) (up b 40 0 25 v)) := by
  rw [mix_upC (by decide), mix_upM (by decide)]
  generalize mix σ b = μ at *
  obtain ⟨hB, hJ, hS, hP, hM, hT, hH⟩ := h
  refine ⟨Bs_of hB (fun a ha => (up_k (knf ha (by decide))).trans (up_k (knf ha (by decide)))) (by rfl) (by rfl) (by intro j hj; first | rfl | (obtain rfl | rfl | rfl | rfl : j = 0 ∨ j = 1 ∨ j = 2 ∨ j = 3 := by omega) <;> rfl), RJ_of (fun a ha => (up_k (kne ha (by decide))).trans (up_k (kne ha (by decide)))) hJ, ?S, PoOk_of ((up_k (by decide)).trans (up_k (by decide))) ((up_k (by decide)).trans (up_k (by decide))) hP, MlOk_of ((up_k (by decide)).trans (up_k (by decide))) ((up_k (by decide)).trans (up_k (by decide))) ((up_k (by decide)).trans (up_k (by decide))) ((up_k (by decide)).trans (up_k (by decide))) hM, fun i hi => TkOk_of (fun a ha => (up_k (kne ha (by decide))).trans (up_k (kne ha (by decide)))) (hT i hi), ?H⟩
  case S =>
    exact ⟨hS.1, hS.2.1, hS.2.2.1, rfl, hS.2.2.2.2.1, hS.2.2.2.2.2.1, hS.2.2.2.2.2.2.1, hS.2.2.2.2.2.2.2⟩
  case H =>
    exact hH
theorem at_s11 {v : Int32} (h : Rn T x (mix σ b)) : Rn T x (mix (up σ 18 0 11 v) (up b 40 0 26 v)) := by
  rw [mix_upC (by decide), mix_upM (by decide)]
  generalize mix σ b = μ at *
  obtain ⟨hB, hJ, hS, hP, hM, hT, hH⟩ := h
  refine ⟨Bs_of hB (fun a ha => (up_k (knf ha (by decide))).trans (up_k (knf ha (by decide)))) (by rfl) (by rfl) (by intro j hj; first | rfl | (obtain rfl | rfl | rfl | rfl : j = 0 ∨ j = 1 ∨ j = 2 ∨ j = 3 := by omega) <;> rfl), RJ_of (fun a ha => (up_k (kne ha (by decide))).trans (up_k (kne ha (by decide)))) hJ, ?S, PoOk_of ((up_k (by decide)).trans (up_k (by decide))) ((up_k (by decide)).trans (up_k (by decide))) hP, MlOk_of ((up_k (by decide)).trans (up_k (by decide))) ((up_k (by decide)).trans (up_k (by decide))) ((up_k (by decide)).trans (up_k (by decide))) ((up_k (by decide)).trans (up_k (by decide))) hM, fun i hi => TkOk_of (fun a ha => (up_k (kne ha (by decide))).trans (up_k (kne ha (by decide)))) (hT i hi), ?H⟩
  case S =>
    exact ⟨hS.1, hS.2.1, hS.2.2.1, hS.2.2.2.1, rfl, hS.2.2.2.2.2.1, hS.2.2.2.2.2.2.1, hS.2.2.2.2.2.2.2⟩
  case H =>
    exact hH
theorem at_s12 {v : Int32} (h : Rn T x (mix σ b)) : Rn T x (mix (up σ 18 0 12 v) (up b 40 0 27 v)) := by
  rw [mix_upC (by decide), mix_upM (by decide)]
  generalize mix σ b = μ at *
  obtain ⟨hB, hJ, hS, hP, hM, hT, hH⟩ := h
  refine ⟨Bs_of hB (fun a ha => (up_k (knf ha (by decide))).trans (up_k (knf ha (by decide)))) (by rfl) (by rfl) (by intro j hj; first | rfl | (obtain rfl | rfl | rfl | rfl : j = 0 ∨ j = 1 ∨ j = 2 ∨ j = 3 := by omega) <;> rfl), RJ_of (fun a ha => (up_k (kne ha (by decide))).trans (up_k (kne ha (by decide)))) hJ, ?S, PoOk_of ((up_k (by decide)).trans (up_k (by decide))) ((up_k (by decide)).trans (up_k (by decide))) hP, MlOk_of ((up_k (by decide)).trans (up_k (by decide))) ((up_k (by decide)).trans (up_k (by decide))) ((up_k (by decide)).trans (up_k (by decide))) ((up_k (by decide)).trans (up_k (by decide))) hM, fun i hi => TkOk_of (fun a ha => (up_k (kne ha (by decide))).trans (up_k (kne ha (by decide)))) (hT i hi), ?H⟩
  case S =>
    exact ⟨hS.1, hS.2.1, hS.2.2.1, hS.2.2.2.1, hS.2.2.2.2.1, rfl, hS.2.2.2.2.2.2.1, hS.2.2.2.2.2.2.2⟩
  case H =>
    exact hH
theorem at_s13 {v : Int32} (h : Rn T x (mix σ b)) : Rn T x (mix (up σ 18 0 13 v) (up b 40 0 28 v)) := by
  rw [mix_upC (by decide), mix_upM (by decide)]
  generalize mix σ b = μ at *
  obtain ⟨hB, hJ, hS, hP, hM, hT, hH⟩ := h
  refine ⟨Bs_of hB (fun a ha => (up_k (knf ha (by decide))).trans (up_k (knf ha (by decide)))) (by rfl) (by rfl) (by intro j hj; first | rfl | (obtain rfl | rfl | rfl | rfl : j = 0 ∨ j = 1 ∨ j = 2 ∨ j = 3 := by omega) <;> rfl), RJ_of (fun a ha => (up_k (kne ha (by decide))).trans (up_k (kne ha (by decide)))) hJ, ?S, PoOk_of ((up_k (by decide)).trans (up_k (by decide))) ((up_k (by decide)).trans (up_k (by decide))) hP, MlOk_of ((up_k (by decide)).trans (up_k (by decide))) ((up_k (by decide)).trans (up_k (by decide))) ((up_k (by decide)).trans (up_k (by decide))) ((up_k (by decide)).trans (up_k (by decide))) hM, fun i hi => TkOk_of (fun a ha => (up_k (kne ha (by decide))).trans (up_k (kne ha (by decide)))) (hT i hi), ?H⟩
  case S =>
    exact ⟨hS.1, hS.2.1, hS.2.2.1, hS.2.2.2.1, hS.2.2.2.2.1, hS.2.2.2.2.2.1, rfl, hS.2.2.2.2.2.2.2⟩
  case H =>
    exact hH
theorem at_hd {j : Nat} (hj : j < T) (h0 : mix σ b 29 j 0 = 1) (h1 : mix σ b 29 j 1 = 1) (h : Rn T x (mix σ b)) : Rn T x (mix (up σ 18 0 8 (nI j)) (up b 40 0 24 (nI j))) := by
  rw [mix_upC (by decide), mix_upM (by decide)]
  generalize mix σ b = μ at *
  obtain ⟨hB, hJ, hS, hP, hM, hT, hH⟩ := h
  refine ⟨Bs_of hB (fun a ha => (up_k (knf ha (by decide))).trans (up_k (knf ha (by decide)))) (by rfl) (by rfl) (by intro j hj; first | rfl | (obtain rfl | rfl | rfl | rfl : j = 0 ∨ j = 1 ∨ j = 2 ∨ j = 3 := by omega) <;> rfl), RJ_of (fun a ha => (up_k (kne ha (by decide))).trans (up_k (kne ha (by decide)))) hJ, ?S, PoOk_of ((up_k (by decide)).trans (up_k (by decide))) ((up_k (by decide)).trans (up_k (by decide))) hP, MlOk_of ((up_k (by decide)).trans (up_k (by decide))) ((up_k (by decide)).trans (up_k (by decide))) ((up_k (by decide)).trans (up_k (by decide))) ((up_k (by decide)).trans (up_k (by decide))) hM, fun i hi => TkOk_of (fun a ha => (up_k (kne ha (by decide))).trans (up_k (kne ha (by decide)))) (hT i hi), ?H⟩
  case S =>
    exact ⟨hS.1, hS.2.1, rfl, hS.2.2.2⟩
  case H =>
    exact Or.inr ⟨j, hj, rfl, h0, h1⟩
theorem at_hn  (h : Rn T x (mix σ b)) : Rn T x (mix (up σ 18 0 8 (-1)) (up b 40 0 24 (-1))) := by
  rw [mix_upC (by decide), mix_upM (by decide)]
  generalize mix σ b = μ at *
  obtain ⟨hB, hJ, hS, hP, hM, hT, hH⟩ := h
  refine ⟨Bs_of hB (fun a ha => (up_k (knf ha (by decide))).trans (up_k (knf ha (by decide)))) (by rfl) (by rfl) (by intro j hj; first | rfl | (obtain rfl | rfl | rfl | rfl : j = 0 ∨ j = 1 ∨ j = 2 ∨ j = 3 := by omega) <;> rfl), RJ_of (fun a ha => (up_k (kne ha (by decide))).trans (up_k (kne ha (by decide)))) hJ, ?S, PoOk_of ((up_k (by decide)).trans (up_k (by decide))) ((up_k (by decide)).trans (up_k (by decide))) hP, MlOk_of ((up_k (by decide)).trans (up_k (by decide))) ((up_k (by decide)).trans (up_k (by decide))) ((up_k (by decide)).trans (up_k (by decide))) ((up_k (by decide)).trans (up_k (by decide))) hM, fun i hi => TkOk_of (fun a ha => (up_k (kne ha (by decide))).trans (up_k (kne ha (by decide)))) (hT i hi), ?H⟩
  case S =>
    exact ⟨hS.1, hS.2.1, rfl, hS.2.2.2⟩
  case H =>
    exact Or.inl rfl
theorem at_j22 {s : Nat} {v : Int32} (hs : s < 32) (h : Rn T x (mix σ b)) : Rn T x (mix (up σ 22 0 s v) (up b 78 0 s v)) := by
  rw [mix_upC (by decide), mix_upM (by decide)]
  generalize mix σ b = μ at *
  obtain ⟨hB, hJ, hS, hP, hM, hT, hH⟩ := h
  refine ⟨Bs_of hB (fun a ha => (up_k (knf ha (by decide))).trans (up_k (knf ha (by decide)))) (by rfl) (by rfl) (by intro j hj; first | rfl | (obtain rfl | rfl | rfl | rfl : j = 0 ∨ j = 1 ∨ j = 2 ∨ j = 3 := by omega) <;> rfl), ?J, RS_of ((up_k (by decide)).trans (up_k (by decide))) ((up_k (by decide)).trans (up_k (by decide))) ((up_k (by decide)).trans (up_k (by decide))) hS, PoOk_of ((up_k (by decide)).trans (up_k (by decide))) ((up_k (by decide)).trans (up_k (by decide))) hP, MlOk_of ((up_k (by decide)).trans (up_k (by decide))) ((up_k (by decide)).trans (up_k (by decide))) ((up_k (by decide)).trans (up_k (by decide))) ((up_k (by decide)).trans (up_k (by decide))) hM, fun i hi => TkOk_of (fun a ha => (up_k (kne ha (by decide))).trans (up_k (kne ha (by decide)))) (hT i hi), HdOk_of ((up_k (by decide)).trans (up_k (by decide))) ((up_k (by decide)).trans (up_k (by decide))) hH⟩
  case J =>
    refine ⟨fun j hj => ?_, hJ.2⟩
    have e := hJ.1 j hj
    by_cases g : j = s
    · subst g; simp only [up]; simp; exact ⟨e.2.1, e.2.2.1, e.2.2.2⟩
    · simp only [up, g]; simp; exact e
theorem at_j23 {s : Nat} {v : Int32} (hs : s < 32) (h : Rn T x (mix σ b)) : Rn T x (mix (up σ 23 0 s v) (up b 79 0 s v)) := by
  rw [mix_upC (by decide), mix_upM (by decide)]
  generalize mix σ b = μ at *
  obtain ⟨hB, hJ, hS, hP, hM, hT, hH⟩ := h
  refine ⟨Bs_of hB (fun a ha => (up_k (knf ha (by decide))).trans (up_k (knf ha (by decide)))) (by rfl) (by rfl) (by intro j hj; first | rfl | (obtain rfl | rfl | rfl | rfl : j = 0 ∨ j = 1 ∨ j = 2 ∨ j = 3 := by omega) <;> rfl), ?J, RS_of ((up_k (by decide)).trans (up_k (by decide))) ((up_k (by decide)).trans (up_k (by decide))) ((up_k (by decide)).trans (up_k (by decide))) hS, PoOk_of ((up_k (by decide)).trans (up_k (by decide))) ((up_k (by decide)).trans (up_k (by decide))) hP, MlOk_of ((up_k (by decide)).trans (up_k (by decide))) ((up_k (by decide)).trans (up_k (by decide))) ((up_k (by decide)).trans (up_k (by decide))) ((up_k (by decide)).trans (up_k (by decide))) hM, fun i hi => TkOk_of (fun a ha => (up_k (kne ha (by decide))).trans (up_k (kne ha (by decide)))) (hT i hi), HdOk_of ((up_k (by decide)).trans (up_k (by decide))) ((up_k (by decide)).trans (up_k (by decide))) hH⟩
  case J =>
    refine ⟨fun j hj => ?_, hJ.2⟩
    have e := hJ.1 j hj
    by_cases g : j = s
    · subst g; simp only [up]; simp; exact ⟨e.1, e.2.2.1, e.2.2.2⟩
    · simp only [up, g]; simp; exact e
theorem at_j24 {s : Nat} {v : Int32} (hs : s < 32) (h : Rn T x (mix σ b)) : Rn T x (mix (up σ 24 0 s v) (up b 80 0 s v)) := by
  rw [mix_upC (by decide), mix_upM (by decide)]
  generalize mix σ b = μ at *
  obtain ⟨hB, hJ, hS, hP, hM, hT, hH⟩ := h
  refine ⟨Bs_of hB (fun a ha => (up_k (knf ha (by decide))).trans (up_k (knf ha (by decide)))) (by rfl) (by rfl) (by intro j hj; first | rfl | (obtain rfl | rfl | rfl | rfl : j = 0 ∨ j = 1 ∨ j = 2 ∨ j = 3 := by omega) <;> rfl), ?J, RS_of ((up_k (by decide)).trans (up_k (by decide))) ((up_k (by decide)).trans (up_k (by decide))) ((up_k (by decide)).trans (up_k (by decide))) hS, PoOk_of ((up_k (by decide)).trans (up_k (by decide))) ((up_k (by decide)).trans (up_k (by decide))) hP, MlOk_of ((up_k (by decide)).trans (up_k (by decide))) ((up_k (by decide)).trans (up_k (by decide))) ((up_k (by decide)).trans (up_k (by decide))) ((up_k (by decide)).trans (up_k (by decide))) hM, fun i hi => TkOk_of (fun a ha => (up_k (kne ha (by decide))).trans (up_k (kne ha (by decide)))) (hT i hi), HdOk_of ((up_k (by decide)).trans (up_k (by decide))) ((up_k (by decide)).trans (up_k (by decide))) hH⟩
  case J =>
    refine ⟨fun j hj => ?_, hJ.2⟩
    have e := hJ.1 j hj
    by_cases g : j = s
    · subst g; simp only [up]; simp; exact ⟨e.1, e.2.1, e.2.2.2⟩
    · simp only [up, g]; simp; exact e
theorem at_j25 {s : Nat} {v : Int32} (hs : s < 32) (h : Rn T x (mix σ b)) : Rn T x (mix (up σ 25 0 s v) (up b 81 0 s v)) := by
  rw [mix_upC (by decide), mix_upM (by decide)]
  generalize mix σ b = μ at *
  obtain ⟨hB, hJ, hS, hP, hM, hT, hH⟩ := h
  refine ⟨Bs_of hB (fun a ha => (up_k (knf ha (by decide))).trans (up_k (knf ha (by decide)))) (by rfl) (by rfl) (by intro j hj; first | rfl | (obtain rfl | rfl | rfl | rfl : j = 0 ∨ j = 1 ∨ j = 2 ∨ j = 3 := by omega) <;> rfl), ?J, RS_of ((up_k (by decide)).trans (up_k (by decide))) ((up_k (by decide)).trans (up_k (by decide))) ((up_k (by decide)).trans (up_k (by decide))) hS, PoOk_of ((up_k (by decide)).trans (up_k (by decide))) ((up_k (by decide)).trans (up_k (by decide))) hP, MlOk_of ((up_k (by decide)).trans (up_k (by decide))) ((up_k (by decide)).trans (up_k (by decide))) ((up_k (by decide)).trans (up_k (by decide))) ((up_k (by decide)).trans (up_k (by decide))) hM, fun i hi => TkOk_of (fun a ha => (up_k (kne ha (by decide))).trans (up_k (kne ha (by decide)))) (hT i hi), HdOk_of ((up_k (by decide)).trans (up_k (by decide))) ((up_k (by decide)).trans (up_k (by decide))) hH⟩
  case J =>
    refine ⟨fun j hj => ?_, hJ.2⟩
    have e := hJ.1 j hj
    by_cases g : j = s
    · subst g; simp only [up]; simp; exact ⟨e.1, e.2.1, e.2.2.1⟩
    · simp only [up, g]; simp; exact e
theorem at_jm {v : Int32} (h : Rn T x (mix σ b)) : Rn T x (mix (up σ 21 0 0 v) (up b 40 0 29 v)) := by
  rw [mix_upC (by decide), mix_upM (by decide)]
  generalize mix σ b = μ at *
  obtain ⟨hB, hJ, hS, hP, hM, hT, hH⟩ := h
  refine ⟨Bs_of hB (fun a ha => (up_k (knf ha (by decide))).trans (up_k (knf ha (by decide)))) (by rfl) (by rfl) (by intro j hj; first | rfl | (obtain rfl | rfl | rfl | rfl : j = 0 ∨ j = 1 ∨ j = 2 ∨ j = 3 := by omega) <;> rfl), RJ_of (fun a ha => (up_k (kne ha (by decide))).trans (up_k (kne ha (by decide)))) hJ, ?S, PoOk_of ((up_k (by decide)).trans (up_k (by decide))) ((up_k (by decide)).trans (up_k (by decide))) hP, MlOk_of ((up_k (by decide)).trans (up_k (by decide))) ((up_k (by decide)).trans (up_k (by decide))) ((up_k (by decide)).trans (up_k (by decide))) ((up_k (by decide)).trans (up_k (by decide))) hM, fun i hi => TkOk_of (fun a ha => (up_k (kne ha (by decide))).trans (up_k (kne ha (by decide)))) (hT i hi), HdOk_of ((up_k (by decide)).trans (up_k (by decide))) ((up_k (by decide)).trans (up_k (by decide))) hH⟩
  case S =>
    exact ⟨hS.1, hS.2.1, hS.2.2.1, hS.2.2.2.1, hS.2.2.2.2.1, hS.2.2.2.2.2.1, hS.2.2.2.2.2.2.1, rfl⟩
theorem at_due {j : Nat} {v : Int32} (h : Rn T x (mix σ b)) : Rn T x (mix (up σ 27 j 4 v) (up b 72 0 j v)) := by
  rw [mix_upC (by decide), mix_upM (by decide)]
  generalize mix σ b = μ at *
  obtain ⟨hB, hJ, hS, hP, hM, hT, hH⟩ := h
  refine ⟨Bs_of hB (fun a ha => (up_k (knf ha (by decide))).trans (up_k (knf ha (by decide)))) (by rfl) (by rfl) (by intro j hj; first | rfl | (obtain rfl | rfl | rfl | rfl : j = 0 ∨ j = 1 ∨ j = 2 ∨ j = 3 := by omega) <;> rfl), RJ_of (fun a ha => (up_k (kne ha (by decide))).trans (up_k (kne ha (by decide)))) hJ, RS_of ((up_k (by decide)).trans (up_k (by decide))) ((up_k (by decide)).trans (up_k (by decide))) ((up_k (by decide)).trans (up_k (by decide))) hS, PoOk_of ((up_k (by decide)).trans (up_k (by decide))) ((up_k (by decide)).trans (up_k (by decide))) hP, MlOk_of ((up_k (by decide)).trans (up_k (by decide))) ((up_k (by decide)).trans (up_k (by decide))) ((up_k (by decide)).trans (up_k (by decide))) ((up_k (by decide)).trans (up_k (by decide))) hM, ?T, HdOk_of ((up_k (by decide)).trans (up_k (by decide))) ((up_k (by decide)).trans (up_k (by decide))) hH⟩
  case T =>
    intro i hi
    by_cases g : i = j
    · subst g
      exact TkOk_ix (σ := μ) rfl rfl rfl rfl (fun q => q) (fun _ => by simp [up]) (fun q => by simp [up]; exact q) (fun q => by simp [up]; exact q) (fun q1 q2 => ⟨q1, q2⟩) (fun _ => ⟨rfl, fun _ _ _ _ => rfl, rfl, rfl, rfl⟩) (hT i hi)
    · exact TkOk_ix (σ := μ) rfl rfl rfl rfl (fun q => q) (fun q => by simp [up, g]; exact q) (fun q => by simp [up, g]; exact q) (fun q => by simp [up, g]; exact q) (fun q1 q2 => ⟨q1, q2⟩) (fun _ => ⟨rfl, fun _ _ _ _ => rfl, rfl, rfl, rfl⟩) (hT i hi)
theorem at_top {j : Nat} {v : Int32} (h : Rn T x (mix σ b)) : Rn T x (mix (up σ 27 j 3 v) (up b 74 0 j v)) := by
  rw [mix_upC (by decide), mix_upM (by decide)]
  generalize mix σ b = μ at *
  obtain ⟨hB, hJ, hS, hP, hM, hT, hH⟩ := h
  refine ⟨Bs_of hB (fun a ha => (up_k (knf ha (by decide))).trans (up_k (knf ha (by decide)))) (by rfl) (by rfl) (by intro j hj; first | rfl | (obtain rfl | rfl | rfl | rfl : j = 0 ∨ j = 1 ∨ j = 2 ∨ j = 3 := by omega) <;> rfl), RJ_of (fun a ha => (up_k (kne ha (by decide))).trans (up_k (kne ha (by decide)))) hJ, RS_of ((up_k (by decide)).trans (up_k (by decide))) ((up_k (by decide)).trans (up_k (by decide))) ((up_k (by decide)).trans (up_k (by decide))) hS, PoOk_of ((up_k (by decide)).trans (up_k (by decide))) ((up_k (by decide)).trans (up_k (by decide))) hP, MlOk_of ((up_k (by decide)).trans (up_k (by decide))) ((up_k (by decide)).trans (up_k (by decide))) ((up_k (by decide)).trans (up_k (by decide))) ((up_k (by decide)).trans (up_k (by decide))) hM, ?T, HdOk_of ((up_k (by decide)).trans (up_k (by decide))) ((up_k (by decide)).trans (up_k (by decide))) hH⟩
  case T =>
    intro i hi
    by_cases g : i = j
    · subst g
      exact TkOk_ix (σ := μ) rfl rfl rfl rfl (fun q => q) (fun q => by simp [up]; exact q) (fun q => by simp [up]) (fun q => by simp [up]; exact q) (fun q1 q2 => ⟨q1, q2⟩) (fun _ => ⟨rfl, fun _ _ _ _ => rfl, rfl, rfl, rfl⟩) (hT i hi)
    · exact TkOk_ix (σ := μ) rfl rfl rfl rfl (fun q => q) (fun q => by simp [up, g]; exact q) (fun q => by simp [up, g]; exact q) (fun q => by simp [up, g]; exact q) (fun q1 q2 => ⟨q1, q2⟩) (fun _ => ⟨rfl, fun _ _ _ _ => rfl, rfl, rfl, rfl⟩) (hT i hi)
theorem at_wt {j w : Nat} (hw : w ≤ 4) (hp : ¬ mix σ b 11 j 3 = -1 → w = 0) (h : Rn T x (mix σ b)) : Rn T x (mix (up σ 27 j 5 (nI w)) (up b 73 0 j (nI w))) := by
  rw [mix_upC (by decide), mix_upM (by decide)]
  generalize mix σ b = μ at *
  obtain ⟨hB, hJ, hS, hP, hM, hT, hH⟩ := h
  refine ⟨Bs_of hB (fun a ha => (up_k (knf ha (by decide))).trans (up_k (knf ha (by decide)))) (by rfl) (by rfl) (by intro j hj; first | rfl | (obtain rfl | rfl | rfl | rfl : j = 0 ∨ j = 1 ∨ j = 2 ∨ j = 3 := by omega) <;> rfl), RJ_of (fun a ha => (up_k (kne ha (by decide))).trans (up_k (kne ha (by decide)))) hJ, RS_of ((up_k (by decide)).trans (up_k (by decide))) ((up_k (by decide)).trans (up_k (by decide))) ((up_k (by decide)).trans (up_k (by decide))) hS, PoOk_of ((up_k (by decide)).trans (up_k (by decide))) ((up_k (by decide)).trans (up_k (by decide))) hP, MlOk_of ((up_k (by decide)).trans (up_k (by decide))) ((up_k (by decide)).trans (up_k (by decide))) ((up_k (by decide)).trans (up_k (by decide))) ((up_k (by decide)).trans (up_k (by decide))) hM, ?T, HdOk_of ((up_k (by decide)).trans (up_k (by decide))) ((up_k (by decide)).trans (up_k (by decide))) hH⟩
  case T =>
    intro i hi
    by_cases g : i = j
    · subst g
      exact TkOk_ix (σ := μ) rfl rfl rfl rfl (fun q => q) (fun q => by simp [up]; exact q) (fun q => by simp [up]; exact q) (fun _ => ⟨w, hw, by simp [up], by simp [up], hp⟩) (fun q1 q2 => ⟨q1, q2⟩) (fun _ => ⟨rfl, fun _ _ _ _ => rfl, rfl, rfl, rfl⟩) (hT i hi)
    · exact TkOk_ix (σ := μ) rfl rfl rfl rfl (fun q => q) (fun q => by simp [up, g]; exact q) (fun q => by simp [up, g]; exact q) (fun q => by simp [up, g]; exact q) (fun q1 q2 => ⟨q1, q2⟩) (fun _ => ⟨rfl, fun _ _ _ _ => rfl, rfl, rfl, rfl⟩) (hT i hi)
theorem at_f5 {v : Int32} (h : Rn T x (mix σ b)) : Rn T x (mix (up σ 29 x 5 v) (up b 60 0 x v)) := by
  rw [mix_upC (by decide), mix_upM (by decide)]
  generalize mix σ b = μ at *
  obtain ⟨hB, hJ, hS, hP, hM, hT, hH⟩ := h
  refine ⟨Bs_of hB (fun a ha => (up_k (knf ha (by decide))).trans (up_k (knf ha (by decide)))) (by rfl) (by rfl) (by intro j hj; first | rfl | (obtain rfl | rfl | rfl | rfl : j = 0 ∨ j = 1 ∨ j = 2 ∨ j = 3 := by omega) <;> rfl), ?J, RS_of ((up_k (by decide)).trans (up_k (by decide))) ((up_k (by decide)).trans (up_k (by decide))) ((up_k (by decide)).trans (up_k (by decide))) hS, PoOk_of ((up_k (by decide)).trans (up_k (by decide))) ((up_k (by decide)).trans (up_k (by decide))) hP, MlOk_of ((up_k (by decide)).trans (up_k (by decide))) ((up_k (by decide)).trans (up_k (by decide))) ((up_k (by decide)).trans (up_k (by decide))) ((up_k (by decide)).trans (up_k (by decide))) hM, ?T, ?H⟩
  case J =>
    refine ⟨hJ.1, fun i hi => ?_, hJ.2.2⟩
    have e := hJ.2.1 i hi
    by_cases g : i = x
    · subst g; simp only [up]; simp; exact ⟨e.1, e.2.2.1, e.2.2.2.1, e.2.2.2.2.1, e.2.2.2.2.2.1, e.2.2.2.2.2.2.1, e.2.2.2.2.2.2.2⟩
    · simp only [up, g]; simp; exact e
  case T =>
    intro i hi
    by_cases g : i = x
    · subst g
      exact TkOk_ix (σ := μ) rfl rfl rfl rfl (fun q => q) (fun q => q) (fun q => q) (fun q => q) (fun q1 q2 => by simp [up]; exact ⟨q1, q2⟩) (fun q => absurd rfl q) (hT i hi)
    · exact TkOk_ix (σ := μ) rfl rfl rfl rfl (fun q => q) (fun q => q) (fun q => q) (fun q => q) (fun q1 q2 => by simp [up, g]; exact ⟨q1, q2⟩) (fun _ => ⟨by simp [up, g], fun _ _ _ _ => by simp [up, g], by first | rfl | exact up_i g, by first | rfl | exact up_i g, by simp [up, g]⟩) (hT i hi)
  case H =>
    rcases hH with q | ⟨j, q1, q2, q3, q4⟩
    · exact Or.inl q
    · exact Or.inr ⟨j, q1, q2, by simp [up]; exact q3, by simp [up]; exact q4⟩
theorem at_f12 {v : Int32} (h : Rn T x (mix σ b)) : Rn T x (mix (up σ 29 x 12 v) (up b 62 0 x v)) := by
  rw [mix_upC (by decide), mix_upM (by decide)]
  generalize mix σ b = μ at *
  obtain ⟨hB, hJ, hS, hP, hM, hT, hH⟩ := h
  refine ⟨Bs_of hB (fun a ha => (up_k (knf ha (by decide))).trans (up_k (knf ha (by decide)))) (by rfl) (by rfl) (by intro j hj; first | rfl | (obtain rfl | rfl | rfl | rfl : j = 0 ∨ j = 1 ∨ j = 2 ∨ j = 3 := by omega) <;> rfl), ?J, RS_of ((up_k (by decide)).trans (up_k (by decide))) ((up_k (by decide)).trans (up_k (by decide))) ((up_k (by decide)).trans (up_k (by decide))) hS, PoOk_of ((up_k (by decide)).trans (up_k (by decide))) ((up_k (by decide)).trans (up_k (by decide))) hP, MlOk_of ((up_k (by decide)).trans (up_k (by decide))) ((up_k (by decide)).trans (up_k (by decide))) ((up_k (by decide)).trans (up_k (by decide))) ((up_k (by decide)).trans (up_k (by decide))) hM, ?T, ?H⟩
  case J =>
    refine ⟨hJ.1, fun i hi => ?_, hJ.2.2⟩
    have e := hJ.2.1 i hi
    by_cases g : i = x
    · subst g; simp only [up]; simp; exact ⟨e.1, e.2.1, e.2.2.2.1, e.2.2.2.2.1, e.2.2.2.2.2.1, e.2.2.2.2.2.2.1, e.2.2.2.2.2.2.2⟩
    · simp only [up, g]; simp; exact e
  case T =>
    intro i hi
    by_cases g : i = x
    · subst g
      exact TkOk_ix (σ := μ) rfl rfl rfl rfl (fun q => q) (fun q => q) (fun q => q) (fun q => q) (fun q1 q2 => by simp [up]; exact ⟨q1, q2⟩) (fun q => absurd rfl q) (hT i hi)
    · exact TkOk_ix (σ := μ) rfl rfl rfl rfl (fun q => q) (fun q => q) (fun q => q) (fun q => q) (fun q1 q2 => by simp [up, g]; exact ⟨q1, q2⟩) (fun _ => ⟨by simp [up, g], fun _ _ _ _ => by simp [up, g], by first | rfl | exact up_i g, by first | rfl | exact up_i g, by simp [up, g]⟩) (hT i hi)
  case H =>
    rcases hH with q | ⟨j, q1, q2, q3, q4⟩
    · exact Or.inl q
    · exact Or.inr ⟨j, q1, q2, by simp [up]; exact q3, by simp [up]; exact q4⟩
theorem at_f6 {v : Int32} (h : Rn T x (mix σ b)) : Rn T x (mix (up σ 29 x 6 v) (up b 63 0 x v)) := by
  rw [mix_upC (by decide), mix_upM (by decide)]
  generalize mix σ b = μ at *
  obtain ⟨hB, hJ, hS, hP, hM, hT, hH⟩ := h
  refine ⟨Bs_of hB (fun a ha => (up_k (knf ha (by decide))).trans (up_k (knf ha (by decide)))) (by rfl) (by rfl) (by intro j hj; first | rfl | (obtain rfl | rfl | rfl | rfl : j = 0 ∨ j = 1 ∨ j = 2 ∨ j = 3 := by omega) <;> rfl), ?J, RS_of ((up_k (by decide)).trans (up_k (by decide))) ((up_k (by decide)).trans (up_k (by decide))) ((up_k (by decide)).trans (up_k (by decide))) hS, PoOk_of ((up_k (by decide)).trans (up_k (by decide))) ((up_k (by decide)).trans (up_k (by decide))) hP, MlOk_of ((up_k (by decide)).trans (up_k (by decide))) ((up_k (by decide)).trans (up_k (by decide))) ((up_k (by decide)).trans (up_k (by decide))) ((up_k (by decide)).trans (up_k (by decide))) hM, ?T, ?H⟩
  case J =>
    refine ⟨hJ.1, fun i hi => ?_, hJ.2.2⟩
    have e := hJ.2.1 i hi
    by_cases g : i = x
    · subst g; simp only [up]; simp; exact ⟨e.1, e.2.1, e.2.2.1, e.2.2.2.2.1, e.2.2.2.2.2.1, e.2.2.2.2.2.2.1, e.2.2.2.2.2.2.2⟩
    · simp only [up, g]; simp; exact e
  case T =>
    intro i hi
    by_cases g : i = x
    · subst g
      exact TkOk_ix (σ := μ) rfl rfl rfl rfl (fun q => q) (fun q => q) (fun q => q) (fun q => q) (fun q1 q2 => by simp [up]; exact ⟨q1, q2⟩) (fun q => absurd rfl q) (hT i hi)
    · exact TkOk_ix (σ := μ) rfl rfl rfl rfl (fun q => q) (fun q => q) (fun q => q) (fun q => q) (fun q1 q2 => by simp [up, g]; exact ⟨q1, q2⟩) (fun _ => ⟨by simp [up, g], fun _ _ _ _ => by simp [up, g], by first | rfl | exact up_i g, by first | rfl | exact up_i g, by simp [up, g]⟩) (hT i hi)
  case H =>
    rcases hH with q | ⟨j, q1, q2, q3, q4⟩
    · exact Or.inl q
    · exact Or.inr ⟨j, q1, q2, by simp [up]; exact q3, by simp [up]; exact q4⟩
theorem at_f4 {v : Int32} (h : Rn T x (mix σ b)) : Rn T x (mix (up σ 29 x 4 v) (up b 64 0 x v)) := by
  rw [mix_upC (by decide), mix_upM (by decide)]
  generalize mix σ b = μ at *
  obtain ⟨hB, hJ, hS, hP, hM, hT, hH⟩ := h
  refine ⟨Bs_of hB (fun a ha => (up_k (knf ha (by decide))).trans (up_k (knf ha (by decide)))) (by rfl) (by rfl) (by intro j hj; first | rfl | (obtain rfl | rfl | rfl | rfl : j = 0 ∨ j = 1 ∨ j = 2 ∨ j = 3 := by omega) <;> rfl), ?J, RS_of ((up_k (by decide)).trans (up_k (by decide))) ((up_k (by decide)).trans (up_k (by decide))) ((up_k (by decide)).trans (up_k (by decide))) hS, PoOk_of ((up_k (by decide)).trans (up_k (by decide))) ((up_k (by decide)).trans (up_k (by decide))) hP, MlOk_of ((up_k (by decide)).trans (up_k (by decide))) ((up_k (by decide)).trans (up_k (by decide))) ((up_k (by decide)).trans (up_k (by decide))) ((up_k (by decide)).trans (up_k (by decide))) hM, ?T, ?H⟩
  case J =>
    refine ⟨hJ.1, fun i hi => ?_, hJ.2.2⟩
    have e := hJ.2.1 i hi
    by_cases g : i = x
    · subst g; simp only [up]; simp; exact ⟨e.1, e.2.1, e.2.2.1, e.2.2.2.1, e.2.2.2.2.2.1, e.2.2.2.2.2.2.1, e.2.2.2.2.2.2.2⟩
    · simp only [up, g]; simp; exact e
  case T =>
    intro i hi
    by_cases g : i = x
    · subst g
      exact TkOk_ix (σ := μ) rfl rfl rfl rfl (fun q => q) (fun q => q) (fun q => q) (fun q => q) (fun q1 q2 => by simp [up]; exact ⟨q1, q2⟩) (fun q => absurd rfl q) (hT i hi)
    · exact TkOk_ix (σ := μ) rfl rfl rfl rfl (fun q => q) (fun q => q) (fun q => q) (fun q => q) (fun q1 q2 => by simp [up, g]; exact ⟨q1, q2⟩) (fun _ => ⟨by simp [up, g], fun _ _ _ _ => by simp [up, g], by first | rfl | exact up_i g, by first | rfl | exact up_i g, by simp [up, g]⟩) (hT i hi)
  case H =>
    rcases hH with q | ⟨j, q1, q2, q3, q4⟩
    · exact Or.inl q
    · exact Or.inr ⟨j, q1, q2, by simp [up]; exact q3, by simp [up]; exact q4⟩
theorem at_f10 {v : Int32} (h : Rn T x (mix σ b)) : Rn T x (mix (up σ 29 x 10 v) (up b 65 0 x v)) := by
  rw [mix_upC (by decide), mix_upM (by decide)]
  generalize mix σ b = μ at *
  obtain ⟨hB, hJ, hS, hP, hM, hT, hH⟩ := h
  refine ⟨Bs_of hB (fun a ha => (up_k (knf ha (by decide))).trans (up_k (knf ha (by decide)))) (by rfl) (by rfl) (by intro j hj; first | rfl | (obtain rfl | rfl | rfl | rfl : j = 0 ∨ j = 1 ∨ j = 2 ∨ j = 3 := by omega) <;> rfl), ?J, RS_of ((up_k (by decide)).trans (up_k (by decide))) ((up_k (by decide)).trans (up_k (by decide))) ((up_k (by decide)).trans (up_k (by decide))) hS, PoOk_of ((up_k (by decide)).trans (up_k (by decide))) ((up_k (by decide)).trans (up_k (by decide))) hP, MlOk_of ((up_k (by decide)).trans (up_k (by decide))) ((up_k (by decide)).trans (up_k (by decide))) ((up_k (by decide)).trans (up_k (by decide))) ((up_k (by decide)).trans (up_k (by decide))) hM, ?T, ?H⟩
  case J =>
    refine ⟨hJ.1, fun i hi => ?_, hJ.2.2⟩
    have e := hJ.2.1 i hi
    by_cases g : i = x
    · subst g; simp only [up]; simp; exact ⟨e.1, e.2.1, e.2.2.1, e.2.2.2.1, e.2.2.2.2.1, e.2.2.2.2.2.2.1, e.2.2.2.2.2.2.2⟩
    · simp only [up, g]; simp; exact e
  case T =>
    intro i hi
    by_cases g : i = x
    · subst g
      exact TkOk_ix (σ := μ) rfl rfl rfl rfl (fun q => q) (fun q => q) (fun q => q) (fun q => q) (fun q1 q2 => by simp [up]; exact ⟨q1, q2⟩) (fun q => absurd rfl q) (hT i hi)
    · exact TkOk_ix (σ := μ) rfl rfl rfl rfl (fun q => q) (fun q => q) (fun q => q) (fun q => q) (fun q1 q2 => by simp [up, g]; exact ⟨q1, q2⟩) (fun _ => ⟨by simp [up, g], fun _ _ _ _ => by simp [up, g], by first | rfl | exact up_i g, by first | rfl | exact up_i g, by simp [up, g]⟩) (hT i hi)
  case H =>
    rcases hH with q | ⟨j, q1, q2, q3, q4⟩
    · exact Or.inl q
    · exact Or.inr ⟨j, q1, q2, by simp [up]; exact q3, by simp [up]; exact q4⟩
theorem at_f11 {v : Int32} (h : Rn T x (mix σ b)) : Rn T x (mix (up σ 29 x 11 v) (up b 66 0 x v)) := by
  rw [mix_upC (by decide), mix_upM (by decide)]
  generalize mix σ b = μ at *
  obtain ⟨hB, hJ, hS, hP, hM, hT, hH⟩ := h
  refine ⟨Bs_of hB (fun a ha => (up_k (knf ha (by decide))).trans (up_k (knf ha (by decide)))) (by rfl) (by rfl) (by intro j hj; first | rfl | (obtain rfl | rfl | rfl | rfl : j = 0 ∨ j = 1 ∨ j = 2 ∨ j = 3 := by omega) <;> rfl), ?J, RS_of ((up_k (by decide)).trans (up_k (by decide))) ((up_k (by decide)).trans (up_k (by decide))) ((up_k (by decide)).trans (up_k (by decide))) hS, PoOk_of ((up_k (by decide)).trans (up_k (by decide))) ((up_k (by decide)).trans (up_k (by decide))) hP, MlOk_of ((up_k (by decide)).trans (up_k (by decide))) ((up_k (by decide)).trans (up_k (by decide))) ((up_k (by decide)).trans (up_k (by decide))) ((up_k (by decide)).trans (up_k (by decide))) hM, ?T, ?H⟩
  case J =>
    refine ⟨hJ.1, fun i hi => ?_, hJ.2.2⟩
    have e := hJ.2.1 i hi
    by_cases g : i = x
    · subst g; simp only [up]; simp; exact ⟨e.1, e.2.1, e.2.2.1, e.2.2.2.1, e.2.2.2.2.1, e.2.2.2.2.2.1, e.2.2.2.2.2.2.2⟩
    · simp only [up, g]; simp; exact e
  case T =>
    intro i hi
    by_cases g : i = x
    · subst g
      exact TkOk_ix (σ := μ) rfl rfl rfl rfl (fun q => q) (fun q => q) (fun q => q) (fun q => q) (fun q1 q2 => by simp [up]; exact ⟨q1, q2⟩) (fun q => absurd rfl q) (hT i hi)
    · exact TkOk_ix (σ := μ) rfl rfl rfl rfl (fun q => q) (fun q => q) (fun q => q) (fun q => q) (fun q1 q2 => by simp [up, g]; exact ⟨q1, q2⟩) (fun _ => ⟨by simp [up, g], fun _ _ _ _ => by simp [up, g], by first | rfl | exact up_i g, by first | rfl | exact up_i g, by simp [up, g]⟩) (hT i hi)
  case H =>
    rcases hH with q | ⟨j, q1, q2, q3, q4⟩
    · exact Or.inl q
    · exact Or.inr ⟨j, q1, q2, by simp [up]; exact q3, by simp [up]; exact q4⟩
theorem at_b1  (h : Rn T x (mix σ b)) : Rn T x (mix (up σ 29 x 1 (nI 1)) (up b 59 0 x (nI 1))) := by
  rw [mix_upC (by decide), mix_upM (by decide)]
  generalize mix σ b = μ at *
  obtain ⟨hB, hJ, hS, hP, hM, hT, hH⟩ := h
  refine ⟨Bs_of hB (fun a ha => (up_k (knf ha (by decide))).trans (up_k (knf ha (by decide)))) (by rfl) (by rfl) (by intro j hj; first | rfl | (obtain rfl | rfl | rfl | rfl : j = 0 ∨ j = 1 ∨ j = 2 ∨ j = 3 := by omega) <;> rfl), ?J, RS_of ((up_k (by decide)).trans (up_k (by decide))) ((up_k (by decide)).trans (up_k (by decide))) ((up_k (by decide)).trans (up_k (by decide))) hS, PoOk_of ((up_k (by decide)).trans (up_k (by decide))) ((up_k (by decide)).trans (up_k (by decide))) hP, MlOk_of ((up_k (by decide)).trans (up_k (by decide))) ((up_k (by decide)).trans (up_k (by decide))) ((up_k (by decide)).trans (up_k (by decide))) ((up_k (by decide)).trans (up_k (by decide))) hM, ?T, ?H⟩
  case J =>
    refine ⟨hJ.1, fun i hi => ?_, hJ.2.2⟩
    have e := hJ.2.1 i hi
    by_cases g : i = x
    · subst g; simp only [up]; simp; exact ⟨e.2.1, e.2.2.1, e.2.2.2.1, e.2.2.2.2.1, e.2.2.2.2.2.1, e.2.2.2.2.2.2.1, e.2.2.2.2.2.2.2⟩
    · simp only [up, g]; simp; exact e
  case T =>
    intro i hi
    by_cases g : i = x
    · subst g
      exact TkOk_ix (σ := μ) rfl rfl rfl rfl (fun q => q) (fun q => q) (fun q => q) (fun q => q) (fun q1 q2 => by simp [up]; exact ⟨q1, q2⟩) (fun q => absurd rfl q) (hT i hi)
    · exact TkOk_ix (σ := μ) rfl rfl rfl rfl (fun q => q) (fun q => q) (fun q => q) (fun q => q) (fun q1 q2 => by simp [up, g]; exact ⟨q1, q2⟩) (fun _ => ⟨by simp [up, g], fun _ _ _ _ => by simp [up, g], by first | rfl | exact up_i g, by first | rfl | exact up_i g, by simp [up, g]⟩) (hT i hi)
  case H =>
    rcases hH with q | ⟨j, q1, q2, q3, q4⟩
    · exact Or.inl q
    · exact Or.inr ⟨j, q1, q2, by simp [up]; exact q3, by by_cases g : j = x <;> simp [up, g] <;> first | rfl | exact q4⟩
theorem at_b0  (hd : ¬ mix σ b 29 x 0 = 1) (h : Rn T x (mix σ b)) : Rn T x (mix (up σ 29 x 1 (nI 0)) (up b 59 0 x (nI 0))) := by
  rw [mix_upC (by decide), mix_upM (by decide)]
  generalize mix σ b = μ at *
  obtain ⟨hB, hJ, hS, hP, hM, hT, hH⟩ := h
  refine ⟨Bs_of hB (fun a ha => (up_k (knf ha (by decide))).trans (up_k (knf ha (by decide)))) (by rfl) (by rfl) (by intro j hj; first | rfl | (obtain rfl | rfl | rfl | rfl : j = 0 ∨ j = 1 ∨ j = 2 ∨ j = 3 := by omega) <;> rfl), ?J, RS_of ((up_k (by decide)).trans (up_k (by decide))) ((up_k (by decide)).trans (up_k (by decide))) ((up_k (by decide)).trans (up_k (by decide))) hS, PoOk_of ((up_k (by decide)).trans (up_k (by decide))) ((up_k (by decide)).trans (up_k (by decide))) hP, MlOk_of ((up_k (by decide)).trans (up_k (by decide))) ((up_k (by decide)).trans (up_k (by decide))) ((up_k (by decide)).trans (up_k (by decide))) ((up_k (by decide)).trans (up_k (by decide))) hM, ?T, ?H⟩
  case J =>
    refine ⟨hJ.1, fun i hi => ?_, hJ.2.2⟩
    have e := hJ.2.1 i hi
    by_cases g : i = x
    · subst g; simp only [up]; simp; exact ⟨e.2.1, e.2.2.1, e.2.2.2.1, e.2.2.2.2.1, e.2.2.2.2.2.1, e.2.2.2.2.2.2.1, e.2.2.2.2.2.2.2⟩
    · simp only [up, g]; simp; exact e
  case T =>
    intro i hi
    by_cases g : i = x
    · subst g
      exact TkOk_ix (σ := μ) rfl rfl rfl rfl (fun q => q) (fun q => q) (fun q => q) (fun q => q) (fun q1 q2 => by simp [up]; exact ⟨q1, q2⟩) (fun q => absurd rfl q) (hT i hi)
    · exact TkOk_ix (σ := μ) rfl rfl rfl rfl (fun q => q) (fun q => q) (fun q => q) (fun q => q) (fun q1 q2 => by simp [up, g]; exact ⟨q1, q2⟩) (fun _ => ⟨by simp [up, g], fun _ _ _ _ => by simp [up, g], by first | rfl | exact up_i g, by first | rfl | exact up_i g, by simp [up, g]⟩) (hT i hi)
  case H =>
    rcases hH with q | ⟨j, q1, q2, q3, q4⟩
    · exact Or.inl q
    · have g : ¬ j = x := fun g => hd (g ▸ q3)
      exact Or.inr ⟨j, q1, q2, by simp [up]; exact q3, by simp [up, g]; exact q4⟩
theorem at_c2 {v : Int32} (h : Rn T x (mix σ b)) : Rn T x (mix (up σ 29 x 2 v) b) := by
  rw [mix_upC (by decide)]
  generalize mix σ b = μ at *
  obtain ⟨hB, hJ, hS, hP, hM, hT, hH⟩ := h
  refine ⟨Bs_of hB (fun a ha => (up_k (knf ha (by decide)))) (by rfl) (by rfl) (by intro j hj; first | rfl | (obtain rfl | rfl | rfl | rfl : j = 0 ∨ j = 1 ∨ j = 2 ∨ j = 3 := by omega) <;> rfl), ?J, RS_of ((up_k (by decide))) ((up_k (by decide))) ((up_k (by decide))) hS, PoOk_of ((up_k (by decide))) ((up_k (by decide))) hP, MlOk_of ((up_k (by decide))) ((up_k (by decide))) ((up_k (by decide))) ((up_k (by decide))) hM, ?T, ?H⟩
  case J =>
    refine ⟨hJ.1, fun i hi => ?_, hJ.2.2⟩
    have e := hJ.2.1 i hi
    by_cases g : i = x
    · subst g; simp only [up]; simp; exact e
    · simp only [up, g]; simp; exact e
  case T =>
    intro i hi
    by_cases g : i = x
    · subst g
      exact TkOk_ix (σ := μ) rfl rfl rfl rfl (fun q => q) (fun q => q) (fun q => q) (fun q => q) (fun q1 q2 => by simp [up]; exact ⟨q1, q2⟩) (fun q => absurd rfl q) (hT i hi)
    · exact TkOk_ix (σ := μ) rfl rfl rfl rfl (fun q => q) (fun q => q) (fun q => q) (fun q => q) (fun q1 q2 => by simp [up, g]; exact ⟨q1, q2⟩) (fun _ => ⟨by simp [up, g], fun _ _ _ _ => by simp [up, g], by first | rfl | exact up_i g, by first | rfl | exact up_i g, by simp [up, g]⟩) (hT i hi)
  case H =>
    rcases hH with q | ⟨j, q1, q2, q3, q4⟩
    · exact Or.inl q
    · exact Or.inr ⟨j, q1, q2, by simp [up]; exact q3, by simp [up]; exact q4⟩
theorem at_c3 {v : Int32} (h : Rn T x (mix σ b)) : Rn T x (mix (up σ 29 x 3 v) b) := by
  rw [mix_upC (by decide)]
  generalize mix σ b = μ at *
  obtain ⟨hB, hJ, hS, hP, hM, hT, hH⟩ := h
  refine ⟨Bs_of hB (fun a ha => (up_k (knf ha (by decide)))) (by rfl) (by rfl) (by intro j hj; first | rfl | (obtain rfl | rfl | rfl | rfl : j = 0 ∨ j = 1 ∨ j = 2 ∨ j = 3 := by omega) <;> rfl), ?J, RS_of ((up_k (by decide))) ((up_k (by decide))) ((up_k (by decide))) hS, PoOk_of ((up_k (by decide))) ((up_k (by decide))) hP, MlOk_of ((up_k (by decide))) ((up_k (by decide))) ((up_k (by decide))) ((up_k (by decide))) hM, ?T, ?H⟩
  case J =>
    refine ⟨hJ.1, fun i hi => ?_, hJ.2.2⟩
    have e := hJ.2.1 i hi
    by_cases g : i = x
    · subst g; simp only [up]; simp; exact e
    · simp only [up, g]; simp; exact e
  case T =>
    intro i hi
    by_cases g : i = x
    · subst g
      exact TkOk_ix (σ := μ) rfl rfl rfl rfl (fun q => q) (fun q => q) (fun q => q) (fun q => q) (fun q1 q2 => by simp [up]; exact ⟨q1, q2⟩) (fun q => absurd rfl q) (hT i hi)
    · exact TkOk_ix (σ := μ) rfl rfl rfl rfl (fun q => q) (fun q => q) (fun q => q) (fun q => q) (fun q1 q2 => by simp [up, g]; exact ⟨q1, q2⟩) (fun _ => ⟨by simp [up, g], fun _ _ _ _ => by simp [up, g], by first | rfl | exact up_i g, by first | rfl | exact up_i g, by simp [up, g]⟩) (hT i hi)
  case H =>
    rcases hH with q | ⟨j, q1, q2, q3, q4⟩
    · exact Or.inl q
    · exact Or.inr ⟨j, q1, q2, by simp [up]; exact q3, by simp [up]; exact q4⟩
theorem at_c7 {v : Int32} (h : Rn T x (mix σ b)) : Rn T x (mix (up σ 29 x 7 v) b) := by
  rw [mix_upC (by decide)]
  generalize mix σ b = μ at *
  obtain ⟨hB, hJ, hS, hP, hM, hT, hH⟩ := h
  refine ⟨Bs_of hB (fun a ha => (up_k (knf ha (by decide)))) (by rfl) (by rfl) (by intro j hj; first | rfl | (obtain rfl | rfl | rfl | rfl : j = 0 ∨ j = 1 ∨ j = 2 ∨ j = 3 := by omega) <;> rfl), ?J, RS_of ((up_k (by decide))) ((up_k (by decide))) ((up_k (by decide))) hS, PoOk_of ((up_k (by decide))) ((up_k (by decide))) hP, MlOk_of ((up_k (by decide))) ((up_k (by decide))) ((up_k (by decide))) ((up_k (by decide))) hM, ?T, ?H⟩
  case J =>
    refine ⟨hJ.1, fun i hi => ?_, hJ.2.2⟩
    have e := hJ.2.1 i hi
    by_cases g : i = x
    · subst g; simp only [up]; simp; exact e
    · simp only [up, g]; simp; exact e
  case T =>
    intro i hi
    by_cases g : i = x
    · subst g
      exact TkOk_ix (σ := μ) rfl rfl rfl rfl (fun q => q) (fun q => q) (fun q => q) (fun q => q) (fun q1 q2 => by simp [up]; exact ⟨q1, q2⟩) (fun q => absurd rfl q) (hT i hi)
    · exact TkOk_ix (σ := μ) rfl rfl rfl rfl (fun q => q) (fun q => q) (fun q => q) (fun q => q) (fun q1 q2 => by simp [up, g]; exact ⟨q1, q2⟩) (fun _ => ⟨by simp [up, g], fun _ _ _ _ => by simp [up, g], by first | rfl | exact up_i g, by first | rfl | exact up_i g, by simp [up, g]⟩) (hT i hi)
  case H =>
    rcases hH with q | ⟨j, q1, q2, q3, q4⟩
    · exact Or.inl q
    · exact Or.inr ⟨j, q1, q2, by simp [up]; exact q3, by simp [up]; exact q4⟩
theorem at_m61 {v : Int32} (h : Rn T x (mix σ b)) : Rn T x (mix σ (up b 61 0 x v)) := by
  rw [mix_upM (by decide)]
  generalize mix σ b = μ at *
  obtain ⟨hB, hJ, hS, hP, hM, hT, hH⟩ := h
  refine ⟨Bs_of hB (fun a ha => (up_k (knf ha (by decide)))) (by rfl) (by rfl) (by intro j hj; first | rfl | (obtain rfl | rfl | rfl | rfl : j = 0 ∨ j = 1 ∨ j = 2 ∨ j = 3 := by omega) <;> rfl), RJ_of (fun a ha => (up_k (kne ha (by decide)))) hJ, RS_of ((up_k (by decide))) ((up_k (by decide))) ((up_k (by decide))) hS, PoOk_of ((up_k (by decide))) ((up_k (by decide))) hP, MlOk_of ((up_k (by decide))) ((up_k (by decide))) ((up_k (by decide))) ((up_k (by decide))) hM, ?T, HdOk_of ((up_k (by decide))) ((up_k (by decide))) hH⟩
  case T =>
    intro i hi
    by_cases g : i = x
    · subst g
      exact TkOk_ix (σ := μ) rfl rfl rfl rfl (fun q => q) (fun q => q) (fun q => q) (fun q => q) (fun q1 q2 => ⟨q1, q2⟩) (fun q => absurd rfl q) (hT i hi)
    · exact TkOk_ix (σ := μ) rfl rfl rfl rfl (fun q => q) (fun q => q) (fun q => q) (fun q => q) (fun q1 q2 => ⟨q1, q2⟩) (fun _ => ⟨by simp [up, g], fun _ _ _ _ => by simp [up, g], by first | rfl | exact up_i g, by first | rfl | exact up_i g, by simp [up, g]⟩) (hT i hi)
theorem at_a1  (h : Rn T x (mix σ b)) : Rn T x (mix (up σ 29 x 0 (nI 1)) (up b 58 0 x (nI 1))) := by
  rw [mix_upC (by decide), mix_upM (by decide)]
  generalize mix σ b = μ at *
  obtain ⟨hB, hJ, hS, hP, hM, hT, hH⟩ := h
  refine ⟨Bs_of hB (fun a ha => (up_k (knf ha (by decide))).trans (up_k (knf ha (by decide)))) (by rfl) (by rfl) (by intro j hj; first | rfl | (obtain rfl | rfl | rfl | rfl : j = 0 ∨ j = 1 ∨ j = 2 ∨ j = 3 := by omega) <;> rfl), ?J, RS_of ((up_k (by decide)).trans (up_k (by decide))) ((up_k (by decide)).trans (up_k (by decide))) ((up_k (by decide)).trans (up_k (by decide))) hS, PoOk_of ((up_k (by decide)).trans (up_k (by decide))) ((up_k (by decide)).trans (up_k (by decide))) hP, MlOk_of ((up_k (by decide)).trans (up_k (by decide))) ((up_k (by decide)).trans (up_k (by decide))) ((up_k (by decide)).trans (up_k (by decide))) ((up_k (by decide)).trans (up_k (by decide))) hM, ?T, ?H⟩
  case J =>
    refine ⟨hJ.1, fun i hi => ?_, hJ.2.2⟩
    have e := hJ.2.1 i hi
    by_cases g : i = x
    · subst g; simp only [up]; simp; exact e
    · simp only [up, g]; simp; exact e
  case T =>
    intro i hi
    by_cases g : i = x
    · subst g
      exact TkOk_ix (σ := μ) rfl rfl rfl rfl (fun q => q) (fun q => q) (fun q => q) (fun q => q) (fun q1 q2 => ⟨by simp [up], by simp [up]; decide⟩) (fun q => absurd rfl q) (hT i hi)
    · exact TkOk_ix (σ := μ) rfl rfl rfl rfl (fun q => q) (fun q => q) (fun q => q) (fun q => q) (fun q1 q2 => by simp [up, g]; exact ⟨q1, q2⟩) (fun _ => ⟨by simp [up, g], fun _ _ _ _ => by simp [up, g], by first | rfl | exact up_i g, by first | rfl | exact up_i g, by simp [up, g]⟩) (hT i hi)
  case H =>
    rcases hH with q | ⟨j, q1, q2, q3, q4⟩
    · exact Or.inl q
    · exact Or.inr ⟨j, q1, q2, by by_cases g : j = x <;> simp [up, g] <;> first | rfl | exact q3, by simp [up]; exact q4⟩
theorem at_a0  (hn : mix σ b 18 0 8 = -1) (h : Rn T x (mix σ b)) : Rn T x (mix (up σ 29 x 0 (nI 0)) (up b 58 0 x (nI 0))) := by
  rw [mix_upC (by decide), mix_upM (by decide)]
  generalize mix σ b = μ at *
  obtain ⟨hB, hJ, hS, hP, hM, hT, hH⟩ := h
  refine ⟨Bs_of hB (fun a ha => (up_k (knf ha (by decide))).trans (up_k (knf ha (by decide)))) (by rfl) (by rfl) (by intro j hj; first | rfl | (obtain rfl | rfl | rfl | rfl : j = 0 ∨ j = 1 ∨ j = 2 ∨ j = 3 := by omega) <;> rfl), ?J, RS_of ((up_k (by decide)).trans (up_k (by decide))) ((up_k (by decide)).trans (up_k (by decide))) ((up_k (by decide)).trans (up_k (by decide))) hS, PoOk_of ((up_k (by decide)).trans (up_k (by decide))) ((up_k (by decide)).trans (up_k (by decide))) hP, MlOk_of ((up_k (by decide)).trans (up_k (by decide))) ((up_k (by decide)).trans (up_k (by decide))) ((up_k (by decide)).trans (up_k (by decide))) ((up_k (by decide)).trans (up_k (by decide))) hM, ?T, ?H⟩
  case J =>
    refine ⟨hJ.1, fun i hi => ?_, hJ.2.2⟩
    have e := hJ.2.1 i hi
    by_cases g : i = x
    · subst g; simp only [up]; simp; exact e
    · simp only [up, g]; simp; exact e
  case T =>
    intro i hi
    by_cases g : i = x
    · subst g
      exact TkOk_ix (σ := μ) rfl rfl rfl rfl (fun q => q) (fun q => q) (fun q => q) (fun q => q) (fun q1 q2 => ⟨by simp [up], by simp [up]; decide⟩) (fun q => absurd rfl q) (hT i hi)
    · exact TkOk_ix (σ := μ) rfl rfl rfl rfl (fun q => q) (fun q => q) (fun q => q) (fun q => q) (fun q1 q2 => by simp [up, g]; exact ⟨q1, q2⟩) (fun _ => ⟨by simp [up, g], fun _ _ _ _ => by simp [up, g], by first | rfl | exact up_i g, by first | rfl | exact up_i g, by simp [up, g]⟩) (hT i hi)
  case H =>
    exact Or.inl hn
theorem at_rg {j k : Nat} {v : Int32} (hj : j < 5) (hk : k < 4) (h : Rn T x (mix σ b)) : Rn T x (mix (up σ 30 j k v) (up b 70 0 (4 * j + k) v)) := by
  rw [mix_upC (by decide), mix_upM (by decide)]
  generalize mix σ b = μ at *
  obtain ⟨hB, hJ, hS, hP, hM, hT, hH⟩ := h
  refine ⟨Bs_of hB (fun a ha => (up_k (knf ha (by decide))).trans (up_k (knf ha (by decide)))) (by rfl) (by rfl) (by intro j hj; first | rfl | (obtain rfl | rfl | rfl | rfl : j = 0 ∨ j = 1 ∨ j = 2 ∨ j = 3 := by omega) <;> rfl), ?J, RS_of ((up_k (by decide)).trans (up_k (by decide))) ((up_k (by decide)).trans (up_k (by decide))) ((up_k (by decide)).trans (up_k (by decide))) hS, PoOk_of ((up_k (by decide)).trans (up_k (by decide))) ((up_k (by decide)).trans (up_k (by decide))) hP, MlOk_of ((up_k (by decide)).trans (up_k (by decide))) ((up_k (by decide)).trans (up_k (by decide))) ((up_k (by decide)).trans (up_k (by decide))) ((up_k (by decide)).trans (up_k (by decide))) hM, fun i hi => TkOk_of (fun a ha => (up_k (kne ha (by decide))).trans (up_k (kne ha (by decide)))) (hT i hi), HdOk_of ((up_k (by decide)).trans (up_k (by decide))) ((up_k (by decide)).trans (up_k (by decide))) hH⟩
  case J =>
    refine ⟨hJ.1, fun i hi => ?_, hJ.2.2⟩
    have e := hJ.2.1 i hi
    refine ⟨e.1, e.2.1, e.2.2.1, e.2.2.2.1, e.2.2.2.2.1, e.2.2.2.2.2.1, e.2.2.2.2.2.2.1, fun q hq => ?_, e.2.2.2.2.2.2.2.2⟩
    have e' := e.2.2.2.2.2.2.2.1 q hq
    by_cases g : i = j ∧ q = k
    · obtain ⟨g1, g2⟩ := g; subst g1; subst g2; simp [up]
    · have n1 : ¬ 4 * i + q = 4 * j + k := by omega
      simp only [up, n1]; simp; rw [e']
      by_cases g1 : i = j
      · have g2 : ¬ q = k := fun w => g ⟨g1, w⟩
        simp [g1, g2]
      · simp [g1]
theorem at_wd {j k : Nat} {v : Int32} (hj : j < 5) (hk : k < 8) (h : Rn T x (mix σ b)) : Rn T x (mix (up σ 28 j k v) (up b 71 0 (8 * j + k) v)) := by
  rw [mix_upC (by decide), mix_upM (by decide)]
  generalize mix σ b = μ at *
  obtain ⟨hB, hJ, hS, hP, hM, hT, hH⟩ := h
  refine ⟨Bs_of hB (fun a ha => (up_k (knf ha (by decide))).trans (up_k (knf ha (by decide)))) (by rfl) (by rfl) (by intro j hj; first | rfl | (obtain rfl | rfl | rfl | rfl : j = 0 ∨ j = 1 ∨ j = 2 ∨ j = 3 := by omega) <;> rfl), RJ_of (fun a ha => (up_k (kne ha (by decide))).trans (up_k (kne ha (by decide)))) hJ, RS_of ((up_k (by decide)).trans (up_k (by decide))) ((up_k (by decide)).trans (up_k (by decide))) ((up_k (by decide)).trans (up_k (by decide))) hS, PoOk_of ((up_k (by decide)).trans (up_k (by decide))) ((up_k (by decide)).trans (up_k (by decide))) hP, MlOk_of ((up_k (by decide)).trans (up_k (by decide))) ((up_k (by decide)).trans (up_k (by decide))) ((up_k (by decide)).trans (up_k (by decide))) ((up_k (by decide)).trans (up_k (by decide))) hM, ?T, HdOk_of ((up_k (by decide)).trans (up_k (by decide))) ((up_k (by decide)).trans (up_k (by decide))) hH⟩
  case T =>
    intro i hi
    refine TkOk_ix (σ := μ) rfl rfl rfl rfl (fun q r hr => ?_) (fun q => q) (fun q => q) (fun q => q) (fun q1 q2 => ⟨q1, q2⟩) (fun _ => ⟨rfl, fun _ _ _ _ => rfl, rfl, rfl, rfl⟩) (hT i hi)
    have e' := q r hr
    by_cases g : i = j ∧ r = k
    · obtain ⟨g1, g2⟩ := g; subst g1; subst g2; simp [up]
    · have n1 : ¬ 8 * i + r = 8 * j + k := by omega
      simp only [up, n1]; simp; rw [e']
      by_cases g1 : i = j
      · have g2 : ¬ r = k := fun w => g ⟨g1, w⟩
        simp [g1, g2]
      · simp [g1]
theorem at_rd {n k : Nat} {v : Int32} (hn : n < 15) (hk : k < 12) (h : Rn T x (mix σ b)) : Rn T x (mix (up σ 34 n k v) (up b 69 0 (n * 12 + k) v)) := by
  rw [mix_upC (by decide), mix_upM (by decide)]
  generalize mix σ b = μ at *
  obtain ⟨hB, hJ, hS, hP, hM, hT, hH⟩ := h
  refine ⟨Bs_of hB (fun a ha => (up_k (knf ha (by decide))).trans (up_k (knf ha (by decide)))) (by rfl) (by rfl) (by intro j hj; first | rfl | (obtain rfl | rfl | rfl | rfl : j = 0 ∨ j = 1 ∨ j = 2 ∨ j = 3 := by omega) <;> rfl), ?J, RS_of ((up_k (by decide)).trans (up_k (by decide))) ((up_k (by decide)).trans (up_k (by decide))) ((up_k (by decide)).trans (up_k (by decide))) hS, PoOk_of ((up_k (by decide)).trans (up_k (by decide))) ((up_k (by decide)).trans (up_k (by decide))) hP, MlOk_of ((up_k (by decide)).trans (up_k (by decide))) ((up_k (by decide)).trans (up_k (by decide))) ((up_k (by decide)).trans (up_k (by decide))) ((up_k (by decide)).trans (up_k (by decide))) hM, fun i hi => TkOk_of (fun a ha => (up_k (kne ha (by decide))).trans (up_k (kne ha (by decide)))) (hT i hi), HdOk_of ((up_k (by decide)).trans (up_k (by decide))) ((up_k (by decide)).trans (up_k (by decide))) hH⟩
  case J =>
    refine ⟨hJ.1, hJ.2.1, fun i hi q hq => ?_⟩
    have e' := hJ.2.2 i hi q hq
    by_cases g : i = n ∧ q = k
    · obtain ⟨g1, g2⟩ := g; subst g1; subst g2; simp [up]
    · have n1 : ¬ i * 12 + q = n * 12 + k := by omega
      simp only [up, n1]; simp; rw [e']
      by_cases g1 : i = n
      · have g2 : ¬ q = k := fun w => g ⟨g1, w⟩
        simp [g1, g2]
      · simp [g1]
theorem at_cl {r : Nat} {v : Int32} (hr : r < 3) (h : Rn T x (mix σ b)) : Rn T x (mix (up σ 31 x r v) (up b 67 0 (3 * x + r) v)) := by
  rw [mix_upC (by decide), mix_upM (by decide)]
  generalize mix σ b = μ at *
  obtain ⟨hB, hJ, hS, hP, hM, hT, hH⟩ := h
  refine ⟨Bs_of hB (fun a ha => (up_k (knf ha (by decide))).trans (up_k (knf ha (by decide)))) (by rfl) (by rfl) (by intro j hj; first | rfl | (obtain rfl | rfl | rfl | rfl : j = 0 ∨ j = 1 ∨ j = 2 ∨ j = 3 := by omega) <;> rfl), ?J, RS_of ((up_k (by decide)).trans (up_k (by decide))) ((up_k (by decide)).trans (up_k (by decide))) ((up_k (by decide)).trans (up_k (by decide))) hS, PoOk_of ((up_k (by decide)).trans (up_k (by decide))) ((up_k (by decide)).trans (up_k (by decide))) hP, MlOk_of ((up_k (by decide)).trans (up_k (by decide))) ((up_k (by decide)).trans (up_k (by decide))) ((up_k (by decide)).trans (up_k (by decide))) ((up_k (by decide)).trans (up_k (by decide))) hM, ?T, HdOk_of ((up_k (by decide)).trans (up_k (by decide))) ((up_k (by decide)).trans (up_k (by decide))) hH⟩
  case J =>
    refine ⟨hJ.1, fun i hi => ?_, hJ.2.2⟩
    have e := hJ.2.1 i hi
    refine ⟨e.1, e.2.1, e.2.2.1, e.2.2.2.1, e.2.2.2.2.1, e.2.2.2.2.2.1, e.2.2.2.2.2.2.1, e.2.2.2.2.2.2.2.1, fun q hq => ?_⟩
    have e' := e.2.2.2.2.2.2.2.2 q hq
    refine ⟨?_, e'.2⟩
    by_cases g : i = x ∧ q = r
    · obtain ⟨g1, g2⟩ := g; subst g1; subst g2; simp [up]
    · have n1 : ¬ 3 * i + q = 3 * x + r := by omega
      simp only [up, n1]; simp; rw [e'.1]
      by_cases g1 : i = x
      · have g2 : ¬ q = r := fun w => g ⟨g1, w⟩
        simp [g1, g2]
      · simp [g1]
  case T =>
    intro i hi
    by_cases g : i = x
    · subst g
      exact TkOk_ix (σ := μ) rfl rfl rfl rfl (fun q => q) (fun q => q) (fun q => q) (fun q => q) (fun q1 q2 => ⟨q1, q2⟩) (fun q => absurd rfl q) (hT i hi)
    · exact TkOk_ix (σ := μ) rfl rfl rfl rfl (fun q => q) (fun q => q) (fun q => q) (fun q => q) (fun q1 q2 => ⟨q1, q2⟩) (fun _ => ⟨rfl, fun _ _ _ _ => rfl, by first | rfl | exact up_i g, by first | rfl | exact up_i g, rfl⟩) (hT i hi)
theorem at_bk {r : Nat} {v : Int32} (hr : r < 3) (h : Rn T x (mix σ b)) : Rn T x (mix (up σ 32 x r v) (up b 68 0 (3 * x + r) v)) := by
  rw [mix_upC (by decide), mix_upM (by decide)]
  generalize mix σ b = μ at *
  obtain ⟨hB, hJ, hS, hP, hM, hT, hH⟩ := h
  refine ⟨Bs_of hB (fun a ha => (up_k (knf ha (by decide))).trans (up_k (knf ha (by decide)))) (by rfl) (by rfl) (by intro j hj; first | rfl | (obtain rfl | rfl | rfl | rfl : j = 0 ∨ j = 1 ∨ j = 2 ∨ j = 3 := by omega) <;> rfl), ?J, RS_of ((up_k (by decide)).trans (up_k (by decide))) ((up_k (by decide)).trans (up_k (by decide))) ((up_k (by decide)).trans (up_k (by decide))) hS, PoOk_of ((up_k (by decide)).trans (up_k (by decide))) ((up_k (by decide)).trans (up_k (by decide))) hP, MlOk_of ((up_k (by decide)).trans (up_k (by decide))) ((up_k (by decide)).trans (up_k (by decide))) ((up_k (by decide)).trans (up_k (by decide))) ((up_k (by decide)).trans (up_k (by decide))) hM, ?T, HdOk_of ((up_k (by decide)).trans (up_k (by decide))) ((up_k (by decide)).trans (up_k (by decide))) hH⟩
  case J =>
    refine ⟨hJ.1, fun i hi => ?_, hJ.2.2⟩
    have e := hJ.2.1 i hi
    refine ⟨e.1, e.2.1, e.2.2.1, e.2.2.2.1, e.2.2.2.2.1, e.2.2.2.2.2.1, e.2.2.2.2.2.2.1, e.2.2.2.2.2.2.2.1, fun q hq => ?_⟩
    have e' := e.2.2.2.2.2.2.2.2 q hq
    refine ⟨e'.1, ?_⟩
    by_cases g : i = x ∧ q = r
    · obtain ⟨g1, g2⟩ := g; subst g1; subst g2; simp [up]
    · have n1 : ¬ 3 * i + q = 3 * x + r := by omega
      simp only [up, n1]; simp; rw [e'.2]
      by_cases g1 : i = x
      · have g2 : ¬ q = r := fun w => g ⟨g1, w⟩
        simp [g1, g2]
      · simp [g1]
  case T =>
    intro i hi
    by_cases g : i = x
    · subst g
      exact TkOk_ix (σ := μ) rfl rfl rfl rfl (fun q => q) (fun q => q) (fun q => q) (fun q => q) (fun q1 q2 => ⟨q1, q2⟩) (fun q => absurd rfl q) (hT i hi)
    · exact TkOk_ix (σ := μ) rfl rfl rfl rfl (fun q => q) (fun q => q) (fun q => q) (fun q => q) (fun q1 q2 => ⟨q1, q2⟩) (fun _ => ⟨rfl, fun _ _ _ _ => rfl, by first | rfl | exact up_i g, by first | rfl | exact up_i g, rfl⟩) (hT i hi)
end AT
