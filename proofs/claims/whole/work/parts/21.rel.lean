/-! What holds between the class's cells and the reference's, between two calls. T: the number of tasks. -/
def okI (o x y : Int32) : Prop := ∃ o' x' : Nat, o' < 15 ∧ o = nI o' ∧ x' ≤ 3 ∧ x = nI x' ∧ (6 ≤ o' → o' ≤ 10 → x' = 0) ∧ (o' = 0 ∨ ∃ y' : Nat, y = nI y' ∧ (if o' = 5 ∨ o' = 6 then 1 else 0) ≤ y' ∧ y' ≤ ([0, 3, 3, 7, 7, 11, 8, 0, 3, 0, 2, 1, 0, 1, 1] : List Nat).getD o' 0)
/-- counts, flags, the place met -/
def RA (T : Nat) (σ : sg) : Prop := T ≤ 5 ∧ σ 0 0 4 = nI T ∧ σ 40 0 0 = nI T ∧ (σ 4 0 0 = 0 ∨ σ 4 0 0 = 1) ∧ σ 40 0 1 = σ 4 0 0 ∧ (σ 18 0 0 = 0 ∨ σ 18 0 0 = 1) ∧ σ 40 0 2 = σ 18 0 0 ∧ σ 40 0 3 = σ 2 0 0 ∧ (σ 18 0 0 = 1 → σ 4 0 0 = 1)
/-- the tasks as they were made -/
def RT (T : Nat) (σ : sg) : Prop := ∀ i, i < T → σ 41 0 i = σ 11 i 1 ∧ σ 42 0 i = σ 11 i 2 ∧ σ 43 0 i = σ 11 i 3 ∧ (∃ p d : Nat, 1 ≤ p ∧ p ≤ 5000 ∧ σ 11 i 1 = nI p ∧ 1 ≤ d ∧ d ≤ p ∧ σ 11 i 2 = nI d) ∧ (σ 11 i 3 = -1 ∨ ∃ o : Nat, o ≤ 5000 ∧ σ 11 i 3 = nI o)
/-- the images, routine n = 3 i + r -/
def RI (σ : sg) : Prop := ∀ n, n < 15 → (∃ s : Nat, s ≤ 12 ∧ σ 13 n 4 = nI s ∧ σ 48 0 n = nI s) ∧ ∀ k, k < 12 → σ 44 0 (n * 12 + k) = σ 14 n k ∧ σ 45 0 (n * 12 + k) = σ 15 n k ∧ σ 46 0 (n * 12 + k) = σ 16 n k ∧ okI (σ 14 n k) (σ 15 n k) (σ 16 n k)
def RP (σ : sg) : Prop := ∀ j, j < 15 → σ 49 0 j = mj_COST.getD j 0
/-- the images are sound, as a run needs it -/
def Snd (T : Nat) (σ : sg) : Prop := (∀ s, s < 4 → σ 10 0 s = -1 ∨ ∃ c : Nat, c < T ∧ σ 10 0 s = nI c) ∧ ∀ i, i < T → (∃ z : Nat, 0 < z ∧ z ≤ 12 ∧ σ 13 (3 * i) 4 = nI z) ∧ ∀ r, r < 3 → ∀ z k : Nat, σ 13 (3 * i + r) 4 = nI z → k < z → z ≤ 12 →
  (σ 14 (3 * i + r) k = 5 → ∃ y : Nat, σ 16 (3 * i + r) k = nI y ∧ k + 1 + y ≤ z) ∧
  (σ 14 (3 * i + r) k = 10 → ∃ y w : Nat, σ 16 (3 * i + r) k = nI y ∧ r < y ∧ y ≤ 2 ∧ σ 13 (3 * i + y) 4 = nI w ∧ 0 < w ∧ w ≤ 12) ∧
  ((σ 14 (3 * i + r) k = 7 ∨ σ 14 (3 * i + r) k = 9) → ∃ q : Nat, q < k ∧ σ 17 (3 * i + r) k = nI q ∧ σ 47 0 ((3 * i + r) * 12 + k) = nI ((3 * i + r) * 12 + q) ∧ (σ 14 (3 * i + r) k = 9 → σ 14 (3 * i + r) q = 8)) ∧
  (σ 14 (3 * i + r) k = 8 → ∃ s c : Nat, s < 4 ∧ σ 16 (3 * i + r) k = nI s ∧ c ≤ i ∧ σ 10 0 s = nI c)
/-- the figures, where there are some -/
def RF (T : Nat) (σ : sg) : Prop := σ 4 0 0 = 1 → (∀ i, i < T → σ 53 0 i = σ 5 0 i ∧ σ 55 0 i = σ 8 0 i ∧ σ 56 0 i = σ 9 0 i ∧ ∀ s, s < 4 → σ 54 0 (4 * i + s) = σ 7 i s) ∧ (∀ s, s < 4 → σ 57 0 s = σ 10 0 s) ∧ Snd T σ
/-- what both keep alike over runs -/
def RJ (σ : sg) : Prop := (∀ j, j < 32 → σ 78 0 j = σ 22 0 j ∧ σ 79 0 j = σ 23 0 j ∧ σ 80 0 j = σ 24 0 j ∧ σ 81 0 j = σ 25 0 j) ∧
  (∀ i, i < 5 → σ 59 0 i = σ 29 i 1 ∧ σ 60 0 i = σ 29 i 5 ∧ σ 62 0 i = σ 29 i 12 ∧ σ 63 0 i = σ 29 i 6 ∧ σ 64 0 i = σ 29 i 4 ∧ σ 65 0 i = σ 29 i 10 ∧ σ 66 0 i = σ 29 i 11 ∧ (∀ k, k < 4 → σ 70 0 (4 * i + k) = σ 30 i k) ∧ ∀ r, r < 3 → σ 67 0 (3 * i + r) = σ 31 i r ∧ σ 68 0 (3 * i + r) = σ 32 i r) ∧
  ∀ n, n < 15 → ∀ k, k < 12 → σ 69 0 (n * 12 + k) = σ 34 n k
/-- the active number of task i that holds the resources h -/
def actF (c : Nat → Int32) (h : Nat) : Nat → Int32 → Int32
  | 0, a => a
  | s + 1, a => if h.testBit s ∧ c s < actF c h s a then c s else actF c h s a
/-- the routines that stand open below routine r of task i -/
def chainOk (σ : sg) (i : Nat) : Nat → Nat → Prop
  | 0, r => r = 0
  | f + 1, r => r = 0 ∨ ∃ c b z : Nat, c < r ∧ σ 31 i r = nI c ∧ σ 32 i r = nI b ∧ σ 13 (3 * i + c) 4 = nI z ∧ z ≤ 12 ∧ b ≤ z ∧ chainOk σ i f c
/-- a job that is alive -/
def JobOk (σ : sg) (i : Nat) : Prop := σ 29 i 2 = 0 ∧ (∃ r k z o : Nat, r < 3 ∧ σ 29 i 10 = nI r ∧ σ 29 i 11 = nI k ∧ σ 13 (3 * i + r) 4 = nI z ∧ z ≤ 12 ∧ k < z ∧ chainOk σ i 3 r ∧ σ 14 (3 * i + r) k = nI o ∧ o < 15 ∧ ∃ sp : Nat, σ 29 i 12 = nI sp ∧ nI sp < mj_COST.getD o 0) ∧
  (∃ h : Nat, h < 16 ∧ σ 29 i 4 = nI h ∧ σ 29 i 3 = actF (σ 10 0) h 4 (nI i) ∧ ∀ s, s < 4 → h.testBit s = true → ∃ c : Nat, c ≤ i ∧ σ 10 0 s = nI c) ∧ (σ 29 i 1 = 0 ∨ σ 29 i 1 = 1) ∧ (σ 29 i 1 = 1 → σ 61 0 i = σ 29 i 7 ∧ ∃ u : Nat, u ≤ 1 ∧ σ 29 i 7 = nI u)
/-- a run -/
def RR (T : Nat) (σ : sg) : Prop := σ 18 0 0 = 1 → σ 18 0 6 = nI T ∧ σ 40 0 22 = σ 18 0 7 ∧ σ 40 0 23 = σ 18 0 9 ∧ σ 40 0 24 = σ 18 0 8 ∧ σ 40 0 25 = σ 18 0 10 ∧ σ 40 0 26 = σ 18 0 11 ∧ σ 40 0 27 = σ 18 0 12 ∧ σ 40 0 28 = σ 18 0 13 ∧ σ 40 0 29 = σ 21 0 0 ∧
  (∀ p, p < 2 → σ 75 0 p = σ 20 0 p) ∧ (∀ y, y < 2 → ∃ c : Nat, c ≤ 3 ∧ σ 35 y 1 = nI c ∧ σ 77 0 y = nI c ∧ ∀ j, j < c → σ 76 0 (3 * y + j) = σ 36 y j) ∧
  (∀ i, i < T → (∀ k, k < 8 → σ 71 0 (8 * i + k) = σ 28 i k) ∧ σ 72 0 i = σ 27 i 4 ∧ σ 74 0 i = σ 27 i 3 ∧ (∃ w : Nat, w ≤ 4 ∧ σ 73 0 i = nI w ∧ σ 27 i 5 = nI w ∧ (¬ σ 11 i 3 = -1 → w = 0)) ∧ σ 58 0 i = σ 29 i 0 ∧ (σ 29 i 0 = 0 ∨ σ 29 i 0 = 1) ∧ (σ 29 i 0 = 1 → JobOk σ i)) ∧
  (σ 18 0 8 = -1 ∨ ∃ j : Nat, j < T ∧ σ 18 0 8 = nI j ∧ σ 29 j 0 = 1 ∧ σ 29 j 1 = 1)
def Rel (T : Nat) (σ : sg) : Prop := RA T σ ∧ RT T σ ∧ RI σ ∧ RP σ ∧ RF T σ ∧ RJ σ ∧ RR T σ
/-- a call of the law: the class's answer, then the reference's, and they are the same -/
def pair (cst : List (List Int32)) (mc mr : Nat) (as : List Value) (σ : sg) : Prop := qa cst mc 0 (lv_args 0 (.ref (cl 0 0) :: as)) [] σ (fun r σ1 => qa cst mr 0 (lv_args 0 (.ref (cl 40 0) :: as)) [] σ1 (fun r2 σ2 => ∃ v : Int32, r = some (.int v) ∧ r2 = some (.int v) ∧ ∃ T, Rel T σ2))
theorem bi_n {p : Prop} [Decidable p] (h : ¬ bi p = 0) : p := by
  by_cases hp : p
  · exact hp
  · exact absurd ((bi_0 p).mpr hp) h
theorem bi_z {p : Prop} [Decidable p] (h : bi p = 0) : ¬ p := (bi_0 p).mp h
theorem ix_of {x : Int32} {T : Nat} (hT : T < 2 ^ 31) (h : 0 ≤ x ∧ x < nI T) : ∃ i, i < T ∧ x = nI i := by
  obtain ⟨h0, h1⟩ := h
  have h0' : ¬ x < 0 := by simp only [Int32.le_iff_toInt_le, Int32.lt_iff_toInt_lt] at *; omega
  obtain ⟨j, hj, rfl⟩ := nI_of h0'
  exact ⟨j, (nI_ltI hj hT).mp h1, rfl⟩
theorem ix_in {T i : Nat} (hT : T < 2 ^ 31) (h : i < T) : (0 : Int32) ≤ nI i ∧ nI i < nI T := ⟨nI_pos' (Nat.lt_trans h hT), (nI_ltI (Nat.lt_trans h hT) hT).mpr h⟩
theorem z1 {x : Int32} (h : x = 0 ∨ x = 1) (h0 : ¬ x = 0) : x = 1 := h.resolve_left h0
