/-! the fourth call: jumps of the reference; open brackets, masks -/
section PQ
variable {cst : List (List Int32)} {σ b : sg} {Q : Option Value → sg → Prop} {T n k : Nat} {L : Nat → Nat} {P Y : Nat → Nat → Nat}
theorem c112_l {y : Nat} (hn : n < 15) (htg : k + y < 12) (hI : ImM L P Y σ) (e46 : σ 46 0 (n * 12 + k) = nI y) : ∀ m q l, q + m = k + y + 1 → l ≤ q → Q (some (.int (bi (jmp (P n) m q l = true)))) σ → qa cst 112 24 [(0, .ref (cl 40 0)), (1, .int (nI (n * 12 + k))), (2, .int (nI k)), (3, .int (nI (L n))), (4, .int (nI l)), (5, .int (nI (n * 12 + q)))] [] σ Q := by
  intro m
  induction m with
  | zero =>
    intro q l hq hl K
    have hj : jmp (P n) 0 q l = (l == 0) := rfl
    refine qa_s (pc' := 26) at_112_24 rfl rfl rfl ?_
    refine qa_s (pc' := 27) at_112_26 rfl rfl rfl ?_
    refine qa_s (pc' := 28) at_112_27 rfl rfl rfl ?_
    refine qa_getR (nx := 31) at_112_28 rfl (by decide) rfl rfl (by decide) ?_
    refine qa_s (pc' := 32) at_112_31 rfl rfl rfl ?_
    refine qa_ialdV (nx := 33) (k := n * 12 + k) (v := nI y) at_112_32 rfl rfl rfl (by decide) rfl (show n * 12 + k < 180 by omega) (show _ from e46) ?_
    refine qa_addN (nx := 34) at_112_33 rfl ?_
    refine qn_icmp_gt (tg := 65) (nx := 37) at_112_34 rfl rfl (by omega) (by omega) (fun h112_34 => ?_) (fun h112_34 => ?_)
    · refine qa_s (pc' := 67) at_112_65 rfl rfl rfl ?_
      refine qn_if_ne (tg := 74) (nx := 70) at_112_67 rfl rfl (by omega) (fun h112_67 => ?_) (fun h112_67 => ?_)
      · refine qa_ic (nx := 75) (v := nI 0) at_112_74 (by decide) rfl ?_
        refine qa_ret at_112_75 rfl ?_
        exact bi_f1 K (by rw [hj]; simp; omega)
      · refine qa_ic (nx := 71) (v := nI 1) at_112_70 (by decide) rfl ?_
        refine qa_goto (nx := 75) at_112_71 rfl ?_
        refine qa_ret at_112_75 rfl ?_
        exact bi_t1 K (by rw [hj]; simp; omega)
    · omega
  | succ m ih =>
    intro q l hq hl K
    have hq12 : q < 12 := by omega
    obtain ⟨hP, e44, -⟩ := (hI n hn).2.2 q hq12
    have back : ∀ l', l' ≤ q + 1 → jmp (P n) (m + 1) q l = jmp (P n) m (q + 1) l' → ∀ v, v = nI l' → qa cst 112 50 [(0, .ref (cl 40 0)), (1, .int (nI (n * 12 + k))), (2, .int (nI k)), (3, .int (nI (L n))), (4, .int (nI l)), (5, .int (nI (n * 12 + q)))] [.int v] σ Q := by
      intro l' hl' ej v hv
      rw [ej] at K
      subst hv
      refine qa_s (pc' := 52) at_112_50 rfl rfl rfl ?_
      refine qa_s (pc' := 54) at_112_52 rfl rfl rfl ?_
      refine qn_if_ge (tg := 59) (nx := 57) at_112_54 rfl rfl (by omega) ?_
      refine qa_incN (nx := 62) (c := 1) at_112_59 (by decide) rfl rfl rfl ?_
      refine qa_goto (nx := 24) at_112_62 rfl ?_
      exact ih (q + 1) l' (by omega) hl' K
    refine qa_s (pc' := 26) at_112_24 rfl rfl rfl ?_
    refine qa_s (pc' := 27) at_112_26 rfl rfl rfl ?_
    refine qa_s (pc' := 28) at_112_27 rfl rfl rfl ?_
    refine qa_getR (nx := 31) at_112_28 rfl (by decide) rfl rfl (by decide) ?_
    refine qa_s (pc' := 32) at_112_31 rfl rfl rfl ?_
    refine qa_ialdV (nx := 33) (k := n * 12 + k) (v := nI y) at_112_32 rfl rfl rfl (by decide) rfl (show n * 12 + k < 180 by omega) (show _ from e46) ?_
    refine qa_addN (nx := 34) at_112_33 rfl ?_
    refine qn_icmp_gt (tg := 65) (nx := 37) at_112_34 rfl rfl (by omega) (by omega) (fun h112_34 => ?_) (fun h112_34 => ?_)
    · omega
    · refine qa_s (pc' := 39) at_112_37 rfl rfl rfl ?_
      refine qa_s (pc' := 40) at_112_39 rfl rfl rfl ?_
      refine qa_getR (nx := 43) at_112_40 rfl (by decide) rfl rfl (by decide) ?_
      refine qa_s (pc' := 45) at_112_43 rfl rfl rfl ?_
      refine qa_ialdV (nx := 46) (k := n * 12 + q) (v := nI (P n q)) at_112_45 rfl rfl rfl (by decide) rfl (show n * 12 + q < 180 by omega) (show _ from e44) ?_
      refine qa_callS (nx := 49) at_112_46 rfl rfl (Nat.le_of_ble_eq_true rfl) rfl rfl (by decide) rfl ?_
      show qa _ 113 0 [(0, .int _)] [] _ _
      refine c113_q hP ?_
      show qa _ 112 49 _ [.int _, .int _] _ _
      refine qa_s (pc' := 50) at_112_49 rfl rfl rfl ?_
      rw [trn_c _ _ (by omega)]
      by_cases h1 : P n q = 6 ∨ P n q = 8
      · rw [if_pos h1]
        exact back _ (by omega) (by rw [jmp, if_pos h1]) _ rfl
      · rw [if_neg h1]
        by_cases h2 : P n q = 7 ∨ P n q = 9
        · rw [if_pos h2]
          by_cases h3 : l = 0
          · rw [if_pos h3]
            refine qa_s (pc' := 52) at_112_50 rfl rfl rfl ?_
            refine qa_s (pc' := 54) at_112_52 rfl rfl rfl ?_
            refine qa_if_ge (tg := 59) (nx := 57) at_112_54 rfl rfl (fun h112_54 => ?_) (fun h112_54 => ?_)
            · exact absurd h112_54 (by decide)
            · refine qa_ic (nx := 58) (v := nI 0) at_112_57 (by decide) rfl ?_
              refine qa_ret at_112_58 rfl ?_
              exact bi_f1 K (by rw [jmp, if_neg h1, if_pos h2, if_pos h3]; decide)
          · rw [if_neg h3]
            exact back _ (by omega) (by rw [jmp, if_neg h1, if_pos h2, if_neg h3]) _ rfl
        · rw [if_neg h2]
          exact back _ (by omega) (by rw [jmp, if_neg h1, if_neg h2]) _ rfl
theorem c112_q (hn : n < 15) (hk : k < L n) (hI : ImM L P Y σ) (ho : P n k = 5) (K : Q (some (.int (bi (k + 1 + Y n k ≤ L n ∧ jmp (P n) (Y n k) (k + 1) 0 = true)))) σ) : qa cst 112 0 [(0, .ref (cl 40 0)), (1, .int (nI (n * 12 + k))), (2, .int (nI k)), (3, .int (nI (L n)))] [] σ Q := by
  obtain ⟨hL, e13, h2⟩ := hI n hn
  obtain ⟨hP, e14, h3⟩ := h2 k (by omega)
  obtain ⟨e46, hy⟩ := h3 (by omega)
  have hy11 : Y n k ≤ 11 := by rw [ho] at hy; exact hy.2
  refine qa_s (pc' := 1) at_112_0 rfl rfl rfl ?_
  refine qa_s (pc' := 2) at_112_1 rfl rfl rfl ?_
  refine qa_getR (nx := 5) at_112_2 rfl (by decide) rfl rfl (by decide) ?_
  refine qa_s (pc' := 6) at_112_5 rfl rfl rfl ?_
  refine qa_ialdV (nx := 7) (k := n * 12 + k) (v := nI (Y n k)) at_112_6 rfl rfl rfl (by decide) rfl (show n * 12 + k < 180 by omega) (show _ from e46) ?_
  refine qa_addN (nx := 8) at_112_7 rfl ?_
  refine qa_ic (nx := 9) (v := nI 1) at_112_8 (by decide) rfl ?_
  refine qa_addN (nx := 10) at_112_9 rfl ?_
  refine qa_s (pc' := 11) at_112_10 rfl rfl rfl ?_
  refine qn_icmp_le (tg := 16) (nx := 14) at_112_11 rfl rfl (by omega) (by omega) (fun h112_11 => ?_) (fun h112_11 => ?_)
  · refine qa_ic (nx := 17) (v := nI 0) at_112_16 (by decide) rfl ?_
    refine qa_s (pc' := 19) at_112_17 rfl rfl rfl ?_
    refine qa_s (pc' := 20) at_112_19 rfl rfl rfl ?_
    refine qa_ic (nx := 21) (v := nI 1) at_112_20 (by decide) rfl ?_
    refine qa_addN (nx := 22) at_112_21 rfl ?_
    refine qa_s (pc' := 24) at_112_22 rfl rfl rfl ?_
    have ek : bi (k + 1 + Y n k ≤ L n ∧ jmp (P n) (Y n k) (k + 1) 0 = true) = bi (jmp (P n) (Y n k) (k + 1) 0 = true) := by
      by_cases g : jmp (P n) (Y n k) (k + 1) 0 = true
      · rw [bi_t ⟨by omega, g⟩, bi_t g]
      · rw [bi_f (fun f => g f.2), bi_f g]
    rw [ek] at K
    exact c112_l (y := Y n k) hn (by omega) hI e46 (Y n k) (k + 1) 0 (by omega) (by omega) K
  · exact qa_ic (nx := 15) (v := nI 0) at_112_14 (by decide) rfl (qa_ret at_112_15 rfl (bi_f1 K (fun g => by omega)))
/-- the open brackets: the places s j, j < d; how many of them are loops, which resources they lock -/
def lps (p : Nat → Nat) (s : Nat → Nat) : Nat → Nat
  | 0 => 0
  | d + 1 => lps p s d + (if p (s d) = 6 then 1 else 0)
def lks (p y : Nat → Nat) (s : Nat → Nat) : Nat → Nat
  | 0 => 0
  | d + 1 => if p (s d) = 8 then lks p y s d ||| 2 ^ y (s d) else lks p y s d
theorem lps_c {p s s' : Nat → Nat} : ∀ d, (∀ j, j < d → s' j = s j) → lps p s' d = lps p s d := by
  intro d
  induction d with
  | zero => intro _; rfl
  | succ d ih => intro h; simp only [lps]; rw [ih (fun j hj => h j (by omega)), h d (by omega)]
theorem lks_c {p y s s' : Nat → Nat} : ∀ d, (∀ j, j < d → s' j = s j) → lks p y s' d = lks p y s d := by
  intro d
  induction d with
  | zero => intro _; rfl
  | succ d ih => intro h; simp only [lks]; rw [ih (fun j hj => h j (by omega)), h d (by omega)]
theorem or16 : ∀ a, a < 16 → ∀ b, b < 16 → (a ||| b < 16 ∧ nI a ||| nI b = nI (a ||| b) ∧ nI a &&& nI b = nI (a &&& b) ∧ a &&& b < 16) := by decide +kernel
theorem sh4 : ∀ y, y < 4 → (2 ^ y < 16 ∧ nI 1 <<< (nI y &&& 31) = nI (2 ^ y)) := by decide +kernel
theorem an16 : ∀ a, a < 16 → ∀ y, y < 4 → a.testBit y = false → (nI (a ||| 2 ^ y) &&& (nI (2 ^ y) ^^^ -1)) = nI a := by decide +kernel
theorem tb16 : ∀ a, a < 16 → ∀ y, y < 4 → (a &&& 2 ^ y = 0 ↔ a.testBit y = false) := by decide +kernel
theorem lks_16 {p y s : Nat → Nat} : ∀ d, (∀ j, j < d → p (s j) = 8 → y (s j) < 4) → lks p y s d < 16 := by
  intro d
  induction d with
  | zero => intro _; exact Nat.zero_lt_succ _
  | succ d ih =>
    intro h
    simp only [lks]
    have := ih (fun j hj => h j (by omega))
    split
    · rename_i g
      exact (or16 _ this _ (sh4 _ (h d (by omega) g)).1).1
    · exact this
theorem lps_le {p s : Nat → Nat} : ∀ d, lps p s d ≤ d := by
  intro d
  induction d with
  | zero => exact Nat.le_refl _
  | succ d ih => simp only [lps]; split <;> omega
/-- the reference's row of open brackets -/
def opM_ (n d : Nat) (s : Nat → Nat) (σ : sg) : Prop := d ≤ 12 ∧ σ 40 0 14 = nI d ∧ ∀ j, j < d → s j < 12 ∧ σ 50 0 j = nI (n * 12 + s j)
theorem c109_l {d : Nat} {s : Nat → Nat} (hn : n < 15) (hI : ImM L P Y σ) (hO : opM_ n d s σ) (K : Q (some (.int (nI (lps (P n) s d)))) σ) : ∀ m i, i + m = d → qa cst 109 4 [(0, .ref (cl 40 0)), (1, .int (nI (lps (P n) s i))), (2, .int (nI i))] [] σ Q := by
  obtain ⟨hd, e14, hs⟩ := hO
  intro m
  induction m with
  | zero =>
    intro i hi
    have e : i = d := by omega
    subst e
    refine qa_s (pc' := 5) at_109_4 rfl rfl rfl ?_
    refine qa_s (pc' := 6) at_109_5 rfl rfl rfl ?_
    refine qa_getV (nx := 9) (v := nI i) at_109_6 rfl (by decide) rfl rfl (by decide) (show _ from e14) ?_
    refine qn_icmp_ge (tg := 42) (nx := 12) at_109_9 rfl rfl (by omega) (by omega) (fun h109_9 => ?_) (fun h109_9 => ?_)
    · refine qa_s (pc' := 43) at_109_42 rfl rfl rfl ?_
      refine qa_ret at_109_43 rfl ?_
      exact K
    · omega
  | succ m ih =>
    intro i hi
    obtain ⟨hs12, e50⟩ := hs i (by omega)
    obtain ⟨hP, e44, -⟩ := (hI n hn).2.2 (s i) hs12
    have ih' := ih (i + 1) (by omega)
    simp only [lps] at ih'
    refine qa_s (pc' := 5) at_109_4 rfl rfl rfl ?_
    refine qa_s (pc' := 6) at_109_5 rfl rfl rfl ?_
    refine qa_getV (nx := 9) (v := nI d) at_109_6 rfl (by decide) rfl rfl (by decide) (show _ from e14) ?_
    refine qn_icmp_ge (tg := 42) (nx := 12) at_109_9 rfl rfl (by omega) (by omega) (fun h109_9 => ?_) (fun h109_9 => ?_)
    · omega
    · refine qa_s (pc' := 13) at_109_12 rfl rfl rfl ?_
      refine qa_getR (nx := 16) at_109_13 rfl (by decide) rfl rfl (by decide) ?_
      refine qa_s (pc' := 17) at_109_16 rfl rfl rfl ?_
      refine qa_getR (nx := 20) at_109_17 rfl (by decide) rfl rfl (by decide) ?_
      refine qa_s (pc' := 21) at_109_20 rfl rfl rfl ?_
      refine qa_ialdV (nx := 22) (k := i) (v := nI (n * 12 + s i)) at_109_21 rfl rfl rfl (by decide) rfl (show i < 12 by omega) (show _ from e50) ?_
      refine qa_ialdV (nx := 23) (k := n * 12 + s i) (v := nI (P n (s i))) at_109_22 rfl rfl rfl (by decide) rfl (show n * 12 + s i < 180 by omega) (show _ from e44) ?_
      refine qa_bi (nx := 25) (v := nI 6) at_109_23 (by decide) rfl ?_
      refine qn_icmp_ne (tg := 34) (nx := 28) at_109_25 rfl rfl (by omega) (by omega) (fun h109_25 => ?_) (fun h109_25 => ?_)
      · rw [if_neg h109_25] at ih'
        refine qa_s (pc' := 35) at_109_34 rfl rfl rfl ?_
        refine qa_s (pc' := 36) at_109_35 rfl rfl rfl ?_
        refine qa_incN (nx := 39) (c := 1) at_109_36 (by decide) rfl rfl rfl ?_
        refine qa_goto (nx := 4) at_109_39 rfl ?_
        exact ih'
      · rw [if_pos h109_25] at ih'
        refine qa_s (pc' := 29) at_109_28 rfl rfl rfl ?_
        refine qa_ic (nx := 30) (v := nI 1) at_109_29 (by decide) rfl ?_
        refine qa_addN (nx := 31) at_109_30 rfl ?_
        refine qa_goto (nx := 35) at_109_31 rfl ?_
        refine qa_s (pc' := 36) at_109_35 rfl rfl rfl ?_
        refine qa_incN (nx := 39) (c := 1) at_109_36 (by decide) rfl rfl rfl ?_
        refine qa_goto (nx := 4) at_109_39 rfl ?_
        exact ih'
theorem c109_q {d : Nat} {s : Nat → Nat} (hn : n < 15) (hI : ImM L P Y σ) (hO : opM_ n d s σ) (K : Q (some (.int (nI (lps (P n) s d)))) σ) : qa cst 109 0 [(0, .ref (cl 40 0))] [] σ Q := by
  refine qa_ic (nx := 1) (v := nI 0) at_109_0 (by decide) rfl ?_
  refine qa_s (pc' := 2) at_109_1 rfl rfl rfl ?_
  refine qa_ic (nx := 3) (v := nI 0) at_109_2 (by decide) rfl ?_
  refine qa_s (pc' := 4) at_109_3 rfl rfl rfl ?_
  exact c109_l hn hI hO K d 0 (by omega)
theorem c111_l {d : Nat} {s : Nat → Nat} (hn : n < 15) (hI : ImM L P Y σ) (hO : opM_ n d s σ) (K : Q (some (.int (nI (lks (P n) (Y n) s d)))) σ) : ∀ m i, i + m = d → qa cst 111 4 [(0, .ref (cl 40 0)), (1, .int (nI (lks (P n) (Y n) s i))), (2, .int (nI i))] [] σ Q := by
  obtain ⟨hd, e14, hs⟩ := hO
  have hy4 : ∀ j, j < d → P n (s j) = 8 → Y n (s j) < 4 := fun j hj g => by
    have := (((hI n hn).2.2 (s j) (hs j hj).1).2.2 (by omega)).2
    rw [g] at this
    have := this.2
    exact Nat.lt_succ_of_le this
  intro m
  induction m with
  | zero =>
    intro i hi
    have e : i = d := by omega
    subst e
    refine qa_s (pc' := 5) at_111_4 rfl rfl rfl ?_
    refine qa_s (pc' := 6) at_111_5 rfl rfl rfl ?_
    refine qa_getV (nx := 9) (v := nI i) at_111_6 rfl (by decide) rfl rfl (by decide) (show _ from e14) ?_
    refine qn_icmp_ge (tg := 54) (nx := 12) at_111_9 rfl rfl (by omega) (by omega) (fun h111_9 => ?_) (fun h111_9 => ?_)
    · refine qa_s (pc' := 55) at_111_54 rfl rfl rfl ?_
      refine qa_ret at_111_55 rfl ?_
      exact K
    · omega
  | succ m ih =>
    intro i hi
    obtain ⟨hs12, e50⟩ := hs i (by omega)
    obtain ⟨hP, e44, h46⟩ := (hI n hn).2.2 (s i) hs12
    have ih' := ih (i + 1) (by omega)
    simp only [lks] at ih'
    refine qa_s (pc' := 5) at_111_4 rfl rfl rfl ?_
    refine qa_s (pc' := 6) at_111_5 rfl rfl rfl ?_
    refine qa_getV (nx := 9) (v := nI d) at_111_6 rfl (by decide) rfl rfl (by decide) (show _ from e14) ?_
    refine qn_icmp_ge (tg := 54) (nx := 12) at_111_9 rfl rfl (by omega) (by omega) (fun h111_9 => ?_) (fun h111_9 => ?_)
    · omega
    · refine qa_s (pc' := 13) at_111_12 rfl rfl rfl ?_
      refine qa_getR (nx := 16) at_111_13 rfl (by decide) rfl rfl (by decide) ?_
      refine qa_s (pc' := 17) at_111_16 rfl rfl rfl ?_
      refine qa_getR (nx := 20) at_111_17 rfl (by decide) rfl rfl (by decide) ?_
      refine qa_s (pc' := 21) at_111_20 rfl rfl rfl ?_
      refine qa_ialdV (nx := 22) (k := i) (v := nI (n * 12 + s i)) at_111_21 rfl rfl rfl (by decide) rfl (show i < 12 by omega) (show _ from e50) ?_
      refine qa_ialdV (nx := 23) (k := n * 12 + s i) (v := nI (P n (s i))) at_111_22 rfl rfl rfl (by decide) rfl (show n * 12 + s i < 180 by omega) (show _ from e44) ?_
      refine qa_bi (nx := 25) (v := nI 8) at_111_23 (by decide) rfl ?_
      refine qn_icmp_ne (tg := 46) (nx := 28) at_111_25 rfl rfl (by omega) (by omega) (fun h111_25 => ?_) (fun h111_25 => ?_)
      · rw [if_neg h111_25] at ih'
        refine qa_s (pc' := 47) at_111_46 rfl rfl rfl ?_
        refine qa_s (pc' := 48) at_111_47 rfl rfl rfl ?_
        refine qa_incN (nx := 51) (c := 1) at_111_48 (by decide) rfl rfl rfl ?_
        refine qa_goto (nx := 4) at_111_51 rfl ?_
        exact ih'
      · rw [if_pos h111_25] at ih'
        have hy := hy4 i (by omega) h111_25
        rw [← (or16 _ (lks_16 i (fun j hj g => hy4 j (by omega) g)) _ (sh4 _ hy).1).2.1, ← (sh4 _ hy).2] at ih'
        refine qa_s (pc' := 29) at_111_28 rfl rfl rfl ?_
        refine qa_ic (nx := 30) (v := nI 1) at_111_29 (by decide) rfl ?_
        refine qa_s (pc' := 31) at_111_30 rfl rfl rfl ?_
        refine qa_getR (nx := 34) at_111_31 rfl (by decide) rfl rfl (by decide) ?_
        refine qa_s (pc' := 35) at_111_34 rfl rfl rfl ?_
        refine qa_getR (nx := 38) at_111_35 rfl (by decide) rfl rfl (by decide) ?_
        refine qa_s (pc' := 39) at_111_38 rfl rfl rfl ?_
        refine qa_ialdV (nx := 40) (k := i) (v := nI (n * 12 + s i)) at_111_39 rfl rfl rfl (by decide) rfl (show i < 12 by omega) (show _ from e50) ?_
        refine qa_ialdV (nx := 41) (k := n * 12 + s i) (v := nI (Y n (s i))) at_111_40 rfl rfl rfl (by decide) rfl (show n * 12 + s i < 180 by omega) (show _ from (h46 (by omega)).1) ?_
        refine qa_s (pc' := 42) at_111_41 rfl rfl rfl ?_
        refine qa_s (pc' := 43) at_111_42 rfl rfl rfl ?_
        refine qa_goto (nx := 47) at_111_43 rfl ?_
        refine qa_s (pc' := 48) at_111_47 rfl rfl rfl ?_
        refine qa_incN (nx := 51) (c := 1) at_111_48 (by decide) rfl rfl rfl ?_
        refine qa_goto (nx := 4) at_111_51 rfl ?_
        exact ih'
theorem c111_q {d : Nat} {s : Nat → Nat} (hn : n < 15) (hI : ImM L P Y σ) (hO : opM_ n d s σ) (K : Q (some (.int (nI (lks (P n) (Y n) s d)))) σ) : qa cst 111 0 [(0, .ref (cl 40 0))] [] σ Q := by
  refine qa_ic (nx := 1) (v := nI 0) at_111_0 (by decide) rfl ?_
  refine qa_s (pc' := 2) at_111_1 rfl rfl rfl ?_
  refine qa_ic (nx := 3) (v := nI 0) at_111_2 (by decide) rfl ?_
  refine qa_s (pc' := 4) at_111_3 rfl rfl rfl ?_
  exact c111_l hn hI hO K d 0 (by omega)
end PQ
