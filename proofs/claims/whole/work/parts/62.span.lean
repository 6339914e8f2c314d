/-! the fourth call: the spans of a sound routine and what they cost; rules for quotients, greatest, longs. -/
/-- what the costs need of a sound routine of length l -/
def SR (p y : Nat → Nat) (l : Nat) : Prop := l ≤ 12 ∧ (∀ k, k < l → p k = 6 → 1 ≤ y k ∧ y k ≤ 8) ∧ (∀ k, k ≤ l → lps p (sts p k) (std p k) ≤ 2) ∧ (∀ k, k < l → p k = 7 → 0 < std p k ∧ p (opn p k) = 6) ∧ (∀ k, k < l → p k = 9 → 0 < std p k ∧ p (opn p k) = 8) ∧ std p l = 0
/-- how often the place k runs, from f on -/
def tmS (p y : Nat → Nat) (f : Nat) : Nat → Nat
  | 0 => 1
  | k + 1 => if k < f then 1 else if p k = 6 then tmS p y f k * y k else if p k = 7 then tmS p y f k / y (opn p k) else tmS p y f k
def prN (o : Nat) : Nat := ([1, 1, 4, 2, 2, 2, 1, 1, 2, 1, 2, 1, 1, 2, 2] : List Nat).getD o 0
def ctk (p y tot : Nat → Nat) (k : Nat) : Nat := prN (p k) + (if p k = 10 then tot (y k) else 0)
/-- the cost of the places from f up to k -/
def sm (p y tot : Nat → Nat) (f : Nat) : Nat → Nat
  | 0 => 0
  | k + 1 => if k < f then 0 else sm p y tot f k + tmS p y f k * ctk p y tot k
def tmx (p y s : Nat → Nat) (b : Nat) : Nat → Nat
  | 0 => 1
  | d + 1 => if b ≤ d ∧ p (s d) = 6 then tmx p y s b d * y (s d) else tmx p y s b d
theorem tmx_c {p y s s' : Nat → Nat} {b : Nat} : ∀ d, (∀ j, j < d → s' j = s j) → tmx p y s' b d = tmx p y s b d := by
  intro d
  induction d with
  | zero => intro _; rfl
  | succ d ih => intro h; simp only [tmx]; rw [ih (fun j hj => h j (by omega)), h d (by omega)]
theorem tmx_b {p y s : Nat → Nat} {b : Nat} : ∀ d, d ≤ b → tmx p y s b d = 1 := by
  intro d
  induction d with
  | zero => intro _; rfl
  | succ d ih => intro h; simp only [tmx]; rw [if_neg (fun g => by omega)]; exact ih (by omega)
theorem tmx_8 {p y s : Nat → Nat} {b : Nat} : ∀ d, (∀ j, j < d → p (s j) = 6 → 1 ≤ y (s j) ∧ y (s j) ≤ 8) → 1 ≤ tmx p y s b d ∧ tmx p y s b d ≤ 8 ^ lps p s d := by
  intro d
  induction d with
  | zero => intro _; exact ⟨Nat.le_refl _, Nat.le_refl _⟩
  | succ d ih =>
    intro h
    obtain ⟨i1, i2⟩ := ih (fun j hj => h j (by omega))
    simp only [tmx, lps]
    by_cases g : p (s d) = 6
    · obtain ⟨y1, y2⟩ := h d (by omega) g
      rw [if_pos g, Nat.pow_succ]
      split
      · exact ⟨Nat.le_trans (by decide) (Nat.mul_le_mul i1 y1), Nat.mul_le_mul i2 y2⟩
      · exact ⟨i1, Nat.le_trans i2 (Nat.le_mul_of_pos_right _ (by decide))⟩
    · rw [if_neg g, if_neg (fun q => g q.2)]
      exact ⟨i1, i2⟩
theorem std_up (p : Nat → Nat) (k : Nat) : std p k ≤ std p (k + 1) + 1 := by
  show _ ≤ nxd p (std p k) k + 1
  unfold nxd
  split
  · omega
  · split <;> omega
theorem std_rest (p : Nat → Nat) : ∀ m k, std p k ≤ std p (k + m) + m := by
  intro m
  induction m with
  | zero => intro k; exact Nat.le_refl _
  | succ m ih =>
    intro k
    have h1 := std_up p k
    have h2 := ih (k + 1)
    rw [show k + 1 + m = k + (m + 1) by omega] at h2
    omega
theorem lps_g {p y : Nat → Nat} {l k : Nat} (h : SR p y l) (hk : k ≤ l) : lps p (sts p k) (std p k) ≤ min 2 (min k (l - k)) := by
  have h1 := h.2.2.1 k hk
  have h2 := lps_le (p := p) (s := sts p k) (std p k)
  have h3 := std_le p k
  have h4 := std_rest p (l - k) k
  rw [show k + (l - k) = l by omega, h.2.2.2.2.2] at h4
  omega
theorem SR_y {p y : Nat → Nat} {l k : Nat} (h : SR p y l) (hk : k ≤ l) : ∀ j, j < std p k → p (sts p k j) = 6 → 1 ≤ y (sts p k j) ∧ y (sts p k j) ≤ 8 := fun j hj g => h.2.1 _ (by have := (sts_lt p k j hj).1; omega) g
/-- the times are the product over the loops that stand open since b -/
theorem tm_eq {p y : Nat → Nat} {l f t b : Nat} (h : SR p y l) (ht : t ≤ l) (hf : std p f = b) (hb : ∀ k, f ≤ k → k ≤ t → b ≤ std p k) : ∀ k, f ≤ k → k ≤ t → tmS p y f k = tmx p y (sts p k) b (std p k) := by
  intro k
  induction k with
  | zero => intro _ _; rfl
  | succ k ih =>
    intro h1 h2
    by_cases e : k < f
    · have e' : f = k + 1 := by omega
      subst e'
      simp only [tmS]
      rw [if_pos e, tmx_b _ (by omega)]
    · have ih' := ih (by omega) (by omega)
      have hb1 := hb (k + 1) h1 h2
      have hb0 := hb k (by omega) (by omega)
      simp only [tmS]
      rw [if_neg e, ih']
      have e1 : std p (k + 1) = nxd p (std p k) k := rfl
      have e2 : sts p (k + 1) = nxs p (sts p k) (std p k) k := rfl
      by_cases g6 : p k = 6
      · rw [if_pos g6, e1, e2]
        unfold nxd nxs
        rw [if_pos (Or.inl g6), if_pos (Or.inl g6)]
        simp only [tmx]
        have e3 : psh (sts p k) (std p k) k (std p k) = k := by unfold psh; rw [if_pos rfl]
        rw [e3, if_pos ⟨hb0, g6⟩, tmx_c (s' := psh (sts p k) (std p k) k) (s := sts p k) _ (fun j hj => by unfold psh; rw [if_neg (by omega)])]
      · rw [if_neg g6]
        by_cases g7 : p k = 7
        · obtain ⟨d0, dp⟩ := h.2.2.2.1 k (by omega) g7
          have e4 : nxd p (std p k) k = std p k - 1 := by unfold nxd; rw [if_neg (by omega), if_pos (by omega)]
          have e5 : nxs p (sts p k) (std p k) k = sts p k := by unfold nxs; rw [if_neg (by omega)]
          rw [if_pos g7, e1, e2, e4, e5]
          rw [e1, e4] at hb1
          obtain ⟨d, hd⟩ : ∃ d, std p k = d + 1 := ⟨std p k - 1, by omega⟩
          have hy := SR_y h (by omega : k ≤ l) (std p k - 1) (by omega) dp
          unfold opn at dp ⊢
          rw [hd] at dp hy hb1 ⊢
          simp only [Nat.add_sub_cancel] at dp hy hb1 ⊢
          simp only [tmx]
          rw [if_pos ⟨hb1, dp⟩]
          exact Nat.mul_div_cancel _ (by omega)
        · rw [if_neg g7]
          by_cases g8 : p k = 8
          · rw [e1, e2]
            unfold nxd nxs
            rw [if_pos (Or.inr g8), if_pos (Or.inr g8)]
            simp only [tmx]
            have e3 : psh (sts p k) (std p k) k (std p k) = k := by unfold psh; rw [if_pos rfl]
            rw [e3, if_neg (fun q => g6 q.2), tmx_c (s' := psh (sts p k) (std p k) k) (s := sts p k) _ (fun j hj => by unfold psh; rw [if_neg (by omega)])]
          · by_cases g9 : p k = 9
            · obtain ⟨d0, dp⟩ := h.2.2.2.2.1 k (by omega) g9
              have e4 : nxd p (std p k) k = std p k - 1 := by unfold nxd; rw [if_neg (by omega), if_pos (by omega)]
              have e5 : nxs p (sts p k) (std p k) k = sts p k := by unfold nxs; rw [if_neg (by omega)]
              rw [e1, e2, e4, e5]
              obtain ⟨d, hd⟩ : ∃ d, std p k = d + 1 := ⟨std p k - 1, by omega⟩
              unfold opn at dp
              rw [hd] at dp ⊢
              simp only [Nat.add_sub_cancel] at dp ⊢
              simp only [tmx]
              rw [if_neg (fun q => by omega)]
            · rw [e1, e2]
              unfold nxd nxs
              rw [if_neg (by omega), if_neg (by omega), if_neg (by omega)]
/-- a bound of the times, place by place -/
def gL (l k : Nat) : Nat := 8 ^ min 2 (min k (l - k))
def gS (l : Nat) : Nat → Nat
  | 0 => 0
  | k + 1 => gS l k + gL l k
theorem gS_593 : ∀ l, l ≤ 12 → ∀ k, k ≤ l → gS l k ≤ 593 := by decide +kernel
/-- a span: the places from f up to t -/
def Spn (p y : Nat → Nat) (l f t : Nat) : Prop := f ≤ t ∧ t ≤ l ∧ ∀ k, f ≤ k → k < t → 1 ≤ tmS p y f k ∧ tmS p y f k ≤ gL l k
theorem gL_64 {l k : Nat} : gL l k ≤ 64 := by
  unfold gL
  exact Nat.le_trans (Nat.pow_le_pow_right (by decide) (Nat.min_le_left 2 _)) (by decide)
theorem Spn_of {p y : Nat → Nat} {l f t b : Nat} (h : SR p y l) (hft : f ≤ t) (ht : t ≤ l) (hf : std p f = b) (hb : ∀ k, f ≤ k → k < t → b ≤ std p k) : Spn p y l f t := by
  refine ⟨hft, ht, fun k h1 h2 => ?_⟩
  rw [tm_eq (t := t - 1) h (by omega) hf (fun k q1 q2 => hb k q1 (by omega)) k h1 (by omega)]
  have h3 := tmx_8 (b := b) (std p k) (SR_y h (by omega : k ≤ l))
  exact ⟨h3.1, Nat.le_trans h3.2 (Nat.pow_le_pow_right (by decide) (lps_g h (by omega)))⟩
theorem Spn_all {p y : Nat → Nat} {l : Nat} (h : SR p y l) : Spn p y l 0 l := Spn_of (b := 0) h (Nat.zero_le _) (Nat.le_refl _) rfl (fun _ _ _ => Nat.zero_le _)
theorem sm_bd {p y tot : Nat → Nat} {l f t M : Nat} (h : Spn p y l f t) (hM : ∀ k, k < l → ctk p y tot k ≤ M) : ∀ k, k ≤ t → sm p y tot f k ≤ gS l k * M := by
  intro k
  induction k with
  | zero => intro _; exact Nat.zero_le _
  | succ k ih =>
    intro hk
    simp only [sm, gS]
    split
    · exact Nat.zero_le _
    · rw [Nat.add_mul]
      exact Nat.add_le_add (ih (by omega)) (Nat.mul_le_mul (h.2.2 k (by omega) (by omega)).2 (hM k (by have := h.2.1; omega)))
theorem sm_mono {p y tot : Nat → Nat} {f : Nat} : ∀ m k, sm p y tot f k ≤ sm p y tot f (k + m) := by
  have step : ∀ k, sm p y tot f k ≤ sm p y tot f (k + 1) := by
    intro k
    simp only [sm]
    split
    · rename_i h
      have : sm p y tot f k = 0 := by
        cases k with
        | zero => rfl
        | succ k => simp only [sm]; rw [if_pos (by omega)]
      omega
    · omega
  intro m
  induction m with
  | zero => intro k; exact Nat.le_refl _
  | succ m ih => intro k; exact Nat.le_trans (ih k) (step (k + m))
theorem sm_f {p y tot : Nat → Nat} {f : Nat} : sm p y tot f f = 0 := by
  cases f with
  | zero => rfl
  | succ k => simp only [sm]; rw [if_pos (by omega)]
theorem tmS_f {p y : Nat → Nat} {f : Nat} : tmS p y f f = 1 := by
  cases f with
  | zero => rfl
  | succ k => simp only [tmS]; rw [if_pos (by omega)]
/-- a LOCK has its UNLOCK -/
theorem lock_mate {p y : Nat → Nat} {l q : Nat} (h : SR p y l) (hq : p q = 8) : ∀ m k, k + m = l → q < k → std p q < std p k → sts p k (std p q) = q → (∀ j, q < j → j < k → std p q < std p j) → ∃ c, q < c ∧ c < l ∧ p c = 9 ∧ opn p c = q ∧ ∀ j, q < j → j ≤ c → std p q < std p j := by
  intro m
  induction m with
  | zero =>
    intro k hk _ h2 _ _
    obtain rfl : k = l := by omega
    have := h.2.2.2.2.2
    omega
  | succ m ih =>
    intro k hk h1 h2 h3 h4
    have e1 : std p (k + 1) = nxd p (std p k) k := rfl
    have e2 : sts p (k + 1) = nxs p (sts p k) (std p k) k := rfl
    have h4' : ∀ j, q < j → j < k + 1 → std p q < std p j := fun j j1 j2 => by
      by_cases e : j = k
      · subst e; exact h2
      · exact h4 j j1 (by omega)
    by_cases g : p k = 6 ∨ p k = 8
    · have e4 : nxd p (std p k) k = std p k + 1 := by unfold nxd; rw [if_pos g]
      have e5 : nxs p (sts p k) (std p k) k = psh (sts p k) (std p k) k := by unfold nxs; rw [if_pos g]
      exact ih (k + 1) (by omega) (by omega) (by rw [e1, e4]; omega) (by rw [e2, e5]; unfold psh; rw [if_neg (by omega)]; exact h3) h4'
    · by_cases g7 : p k = 7 ∨ p k = 9
      · have e4 : nxd p (std p k) k = std p k - 1 := by unfold nxd; rw [if_neg g, if_pos g7]
        have e5 : nxs p (sts p k) (std p k) k = sts p k := by unfold nxs; rw [if_neg g]
        by_cases e : std p k - 1 = std p q
        · have ho : opn p k = q := by unfold opn; rw [e]; exact h3
          refine ⟨k, h1, by omega, ?_, ho, fun j j1 j2 => h4' j j1 (by omega)⟩
          rcases g7 with g7 | g7
          · have := (h.2.2.2.1 k (by omega) g7).2
            rw [ho] at this
            omega
          · exact g7
        · exact ih (k + 1) (by omega) (by omega) (by rw [e1, e4]; omega) (by rw [e2, e5]; exact h3) h4'
      · have e4 : nxd p (std p k) k = std p k := by unfold nxd; rw [if_neg g, if_neg g7]
        have e5 : nxs p (sts p k) (std p k) k = sts p k := by unfold nxs; rw [if_neg g]
        exact ih (k + 1) (by omega) (by omega) (by rw [e1, e4]; exact h2) (by rw [e2, e5]; exact h3) h4'
theorem lock_q {p y : Nat → Nat} {l q : Nat} (h : SR p y l) (hl : q < l) (hq : p q = 8) : ∃ c, q < c ∧ c < l ∧ p c = 9 ∧ opn p c = q ∧ Spn p y l (q + 1) (c + 1) := by
  have e1 : std p (q + 1) = std p q + 1 := by show nxd p (std p q) q = _; unfold nxd; rw [if_pos (Or.inr hq)]
  have e2 : sts p (q + 1) (std p q) = q := by show nxs p (sts p q) (std p q) q _ = _; unfold nxs psh; rw [if_pos (Or.inr hq), if_pos rfl]
  obtain ⟨c, c1, c2, c3, c4, c5⟩ := lock_mate h hq (l - (q + 1)) (q + 1) (by omega) (by omega) (by omega) e2 (fun j j1 j2 => by omega)
  exact ⟨c, c1, c2, c3, c4, Spn_of (b := std p q + 1) h (by omega) (by omega) e1 (fun k k1 k2 => c5 k (by omega) (by omega))⟩
/-- a section costs something: its UNLOCK -/
theorem sec_pos {p y tot : Nat → Nat} {l q c : Nat} (h : Spn p y l (q + 1) (c + 1)) (hc : q < c) (h9 : p c = 9) : 0 < sm p y tot (q + 1) (c + 1) := by
  simp only [sm]
  rw [if_neg (by omega)]
  have h1 := (h.2.2 c (by omega) (by omega)).1
  have h2 : ctk p y tot c = 1 := by unfold ctk; rw [h9, if_neg (by decide)]; rfl
  rw [h2]
  omega
theorem prN_4 : ∀ o, o < 15 → prN o ≤ 4 := by decide
theorem ctk_bd {p y tot : Nat → Nat} {k B : Nat} (hp : p k < 15) (ht : p k = 10 → tot (y k) ≤ B) : ctk p y tot k ≤ B + 4 := by
  unfold ctk
  have h4 := prN_4 _ hp
  split
  · rename_i g; have := ht g; omega
  · omega
theorem ctk_b2 {p y tot : Nat → Nat} {k B : Nat} (hB : 2 ≤ B) (hp : p k < 15) (ht : p k = 10 → tot (y k) ≤ B) : ctk p y tot k ≤ B + 2 := by
  unfold ctk
  have h4 := prN_4 _ hp
  split
  · rename_i g; have := ht g; rw [g]; have : prN 10 = 2 := rfl; omega
  · omega
section RN
variable {cst : List (List Int32)} {m pc nx : Nat} {ls : mj_Ls} {st rest : List Value} {σ : sg} {Q : Option Value → sg → Prop}
theorem qa_divN {x y a b : Nat} (hat : mj_at m pc = some (.idiv, a, b)) (hx : x < 2 ^ 31) (h0 : 0 < y) (hy : y < 2 ^ 31) (hn : pc + 1 = nx) (k : qa cst m nx ls (.int (nI (x / y)) :: rest) σ Q) : qa cst m pc ls (.int (nI y) :: .int (nI x) :: rest) σ Q := by
  refine qa_idiv hat (fun e => ?_) hn (by rw [pk_div hx h0 hy]; exact k)
  have := (nI_eq0 hy).mp e
  omega
theorem qa_maxN {idx b x y : Nat} (hat : mj_at m pc = some (.invokestatic idx, 1001, b)) (hrm : mj_room rest = true) (hx : x < 2 ^ 31) (hy : y < 2 ^ 31) (hn : pc + 3 = nx) (k : qa cst m nx ls (.int (nI (max x y)) :: rest) σ Q) : qa cst m pc ls (.int (nI y) :: .int (nI x) :: rest) σ Q := by
  refine qa_max hat hrm hn ?_
  have e : (if nI x < nI y then nI y else nI x) = nI (max x y) := by
    by_cases g : x < y
    · rw [if_pos ((nI_ltI hx hy).mpr g), Nat.max_eq_right (by omega)]
    · rw [if_neg (fun q => g ((nI_ltI hx hy).mp q)), Nat.max_eq_left (by omega)]
  rw [e]
  exact k
theorem cost_N : ∀ o, o < 15 → mj_COST.getD o 0 = nI (prN o) := by decide +kernel
theorem qa_taldC {ys : List Int32} {o a b : Nat} (hat : mj_at m pc = some (.iaload, a, b)) (ho : o < 15) (hn : pc + 1 = nx) (k : qa (mj_cst ys) m nx ls (.int (nI (prN o)) :: rest) σ Q) : qa (mj_cst ys) m pc ls (.int (nI o) :: .ref 1 :: rest) σ Q := by
  refine qa_tald (l := mj_COST) (k := o) hat rfl (by decide) hn rfl (by show o < 15; exact ho) (by decide) ?_
  rw [cost_N o ho]
  exact k
theorem qa_i2lN {x a b : Nat} (hat : mj_at m pc = some (.i2l, a, b)) (hx : x < 2 ^ 31) (hn : pc + 1 = nx) (k : qa cst m nx ls (.long (lN x) :: rest) σ Q) : qa cst m pc ls (.int (nI x) :: rest) σ Q := by
  subst hn
  refine qa_s hat rfl rfl (σ' := σ) ?_ k
  show some (pc + 1, ls, Value.long (nI x).toInt64 :: rest, lay σ) = _
  rw [nI_l hx]
theorem qa_laddN {x y a b : Nat} (hat : mj_at m pc = some (.ladd, a, b)) (hn : pc + 1 = nx) (k : qa cst m nx ls (.long (lN (x + y)) :: rest) σ Q) : qa cst m pc ls (.long (lN y) :: .long (lN x) :: rest) σ Q := by
  subst hn
  refine qa_s hat rfl rfl (σ' := σ) ?_ k
  show some (pc + 1, ls, Value.long (lN x + lN y) :: rest, lay σ) = _
  rw [lN_add]
theorem qa_lmulN {x y a b : Nat} (hat : mj_at m pc = some (.lmul, a, b)) (hn : pc + 1 = nx) (k : qa cst m nx ls (.long (lN (x * y)) :: rest) σ Q) : qa cst m pc ls (.long (lN y) :: .long (lN x) :: rest) σ Q := by
  subst hn
  refine qa_s hat rfl rfl (σ' := σ) ?_ k
  show some (pc + 1, ls, Value.long (lN x * lN y) :: rest, lay σ) = _
  rw [lN_mul]
theorem qa_lcmpN {x y a b : Nat} (hat : mj_at m pc = some (.lcmp, a, b)) (hx : x < 2 ^ 31) (hy : y < 2 ^ 31) (hn : pc + 1 = nx) (k : ∀ v : Int32, (v = 0 ↔ x = y) → qa cst m nx ls (.int v :: rest) σ Q) : qa cst m pc ls (.long (lN y) :: .long (lN x) :: rest) σ Q := by
  subst hn
  exact qa_s hat rfl rfl (σ' := σ) rfl (k (lg_cmp (lN x) (lN y)) ((lg_cmp_eq _ _).trans (lN_eq hx hy)))
end RN
