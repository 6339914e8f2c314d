/-! the fourth call: ceilings and blockings, both sides -/
theorem nI_ne {a : Nat} (ha : a < 2 ^ 31) : nI a ≠ -1 := by
  intro e
  have h : (0 : Int32) ≤ nI a := nI_pos' ha
  rw [e] at h
  exact absurd h (by decide)
/-- the ceiling after the first j tasks -/
def CEF (S : Nat → Nat → Nat) (s : Nat) : Nat → Int32
  | 0 => -1
  | j + 1 => cei (CEF S s j) (S j s) j
theorem CEF_r {S : Nat → Nat → Nat} {s : Nat} : ∀ j, j ≤ 5 → (CEF S s j = -1 ∧ ∀ q, q < j → S q s = 0) ∨ ∃ c, c < j ∧ CEF S s j = nI c ∧ 0 < S c s ∧ ∀ q, q < c → S q s = 0 := by
  intro j
  induction j with
  | zero => intro _; exact Or.inl ⟨rfl, fun q hq => absurd hq (Nat.not_lt_zero _)⟩
  | succ j ih =>
    intro hj
    simp only [CEF]
    unfold cei
    rcases ih (by omega) with ⟨e, h⟩ | ⟨c, hc, e, h0, h⟩
    · by_cases g : S j s = 0
      · rw [if_pos g]
        refine Or.inl ⟨e, fun q hq => ?_⟩
        by_cases f : q = j
        · rw [f]; exact g
        · exact h q (by omega)
      · rw [if_neg g, if_pos e]
        exact Or.inr ⟨j, by omega, rfl, by omega, h⟩
    · have ne : ¬ CEF S s j = -1 := by rw [e]; exact nI_ne (by omega)
      right
      refine ⟨c, by omega, ?_, h0, h⟩
      split
      · exact e
      · first | exact e | (rw [if_neg ne]; exact e)
/-- what a task's section counts against a task of number i, C the ceilings -/
def Wt (S : Nat → Nat → Nat) (C : Nat → Int32) (i s j : Nat) : Nat := if nI 0 ≤ C s ∧ C s ≤ nI i then S j s else 0
def mxJ (W : Nat → Nat → Nat) (s i : Nat) : Nat → Nat
  | 0 => 0
  | j + 1 => if i < j then max (mxJ W s i j) (W s j) else mxJ W s i j
def mxS (W : Nat → Nat → Nat) (i T : Nat) : Nat → Nat
  | 0 => 0
  | s + 1 => max (mxS W i T s) (mxJ W s i T)
def ff (m : Nat) : Nat := if m = 0 then 0 else m + 2
def isSup (V : Nat → Nat → Prop) (W : Nat → Nat → Nat) (m : Nat) : Prop := (∀ s j, V s j → W s j ≤ m) ∧ (m = 0 ∨ ∃ s j, V s j ∧ W s j = m)
theorem isSup_s {V V' : Nat → Nat → Prop} {W : Nat → Nat → Nat} {m s j : Nat} (h : isSup V W m) (hV : ∀ s' j', V' s' j' ↔ (V s' j' ∨ (s' = s ∧ j' = j))) : isSup V' W (max m (W s j)) := by
  refine ⟨fun s' j' h' => ?_, ?_⟩
  · rcases (hV s' j').mp h' with g | ⟨rfl, rfl⟩
    · exact Nat.le_trans (h.1 s' j' g) (Nat.le_max_left _ _)
    · exact Nat.le_max_right _ _
  · by_cases g : W s j ≤ m
    · rw [Nat.max_eq_left g]
      rcases h.2 with e | ⟨s', j', h1, h2⟩
      · exact Or.inl e
      · exact Or.inr ⟨s', j', (hV s' j').mpr (Or.inl h1), h2⟩
    · rw [Nat.max_eq_right (by omega)]
      exact Or.inr ⟨s, j, (hV s j).mpr (Or.inr ⟨rfl, rfl⟩), rfl⟩
theorem isSup_c {V V' : Nat → Nat → Prop} {W : Nat → Nat → Nat} {m : Nat} (h : isSup V W m) (hV : ∀ s' j', V' s' j' ↔ V s' j') : isSup V' W m := by
  refine ⟨fun s j g => h.1 s j ((hV s j).mp g), ?_⟩
  rcases h.2 with e | ⟨s, j, h1, h2⟩
  · exact Or.inl e
  · exact Or.inr ⟨s, j, (hV s j).mpr h1, h2⟩
theorem isSup_u {V : Nat → Nat → Prop} {W : Nat → Nat → Nat} {m m' : Nat} (h : isSup V W m) (h' : isSup V W m') : m = m' := by
  have a : m ≤ m' := by
    rcases h.2 with e | ⟨s, j, h1, h2⟩
    · omega
    · have := h'.1 s j h1; omega
  have b : m' ≤ m := by
    rcases h'.2 with e | ⟨s, j, h1, h2⟩
    · omega
    · have := h.1 s j h1; omega
  omega
theorem mxJ_0 {W : Nat → Nat → Nat} {s i : Nat} : ∀ j, (∀ q, i < q → q < j → W s q = 0) → mxJ W s i j = 0 := by
  intro j
  induction j with
  | zero => intro _; rfl
  | succ j ih =>
    intro h
    simp only [mxJ]
    rw [ih (fun q q1 q2 => h q q1 (by omega))]
    split
    · rename_i g
      rw [h j g (by omega)]
      rfl
    · rfl
theorem mxJ_sup {W : Nat → Nat → Nat} {i s m : Nat} {V : Nat → Nat → Prop} (h : isSup V W m) : ∀ j, isSup (fun s' j' => V s' j' ∨ (s' = s ∧ i < j' ∧ j' < j)) W (max m (mxJ W s i j)) := by
  intro j
  induction j with
  | zero => exact isSup_c (by rw [show mxJ W s i 0 = 0 from rfl, Nat.max_eq_left (Nat.zero_le _)]; exact h) (fun s' j' => ⟨fun g => by rcases g with g | g; exact g; omega, Or.inl⟩)
  | succ j ih =>
    simp only [mxJ]
    by_cases g : i < j
    · rw [if_pos g, ← Nat.max_assoc]
      refine isSup_s ih (fun s' j' => ?_)
      constructor
      · intro q
        rcases q with q | q
        · exact Or.inl (Or.inl q)
        · by_cases e : j' = j
          · exact Or.inr ⟨q.1, e⟩
          · exact Or.inl (Or.inr ⟨q.1, q.2.1, by omega⟩)
      · intro q
        rcases q with (q | q) | q
        · exact Or.inl q
        · exact Or.inr ⟨q.1, q.2.1, by omega⟩
        · exact Or.inr ⟨q.1, by omega, by omega⟩
    · rw [if_neg g]
      refine isSup_c ih (fun s' j' => ?_)
      constructor
      · intro q
        rcases q with q | q
        · exact Or.inl q
        · exact Or.inr ⟨q.1, q.2.1, by omega⟩
      · intro q
        rcases q with q | q
        · exact Or.inl q
        · exact Or.inr ⟨q.1, q.2.1, by omega⟩
theorem mxS_sup {W : Nat → Nat → Nat} {i T : Nat} : ∀ s, isSup (fun s' j' => s' < s ∧ i < j' ∧ j' < T) W (mxS W i T s) := by
  intro s
  induction s with
  | zero => exact ⟨fun s j h => by omega, Or.inl rfl⟩
  | succ s ih =>
    simp only [mxS]
    refine isSup_c (mxJ_sup (s := s) ih T) (fun s' j' => ?_)
    constructor
    · intro q
      by_cases e : s' = s
      · exact Or.inr ⟨e, q.2⟩
      · exact Or.inl ⟨by omega, q.2⟩
    · intro q
      rcases q with q | q
      · exact ⟨by omega, q.2⟩
      · exact ⟨by omega, q.2⟩
theorem mxJ_b {W : Nat → Nat → Nat} {s i B : Nat} : ∀ j, (∀ q, q < j → W s q ≤ B) → mxJ W s i j ≤ B := by
  intro j
  induction j with
  | zero => intro _; exact Nat.zero_le _
  | succ j ih =>
    intro h
    simp only [mxJ]
    split
    · exact Nat.max_le.mpr ⟨ih (fun q hq => h q (by omega)), h j (by omega)⟩
    · exact ih (fun q hq => h q (by omega))
theorem mxS_b {W : Nat → Nat → Nat} {i T B : Nat} (h : ∀ s q, s < 4 → q < T → W s q ≤ B) : ∀ s, s ≤ 4 → mxS W i T s ≤ B := by
  intro s
  induction s with
  | zero => intro _; exact Nat.zero_le _
  | succ s ih => intro hs; exact Nat.max_le.mpr ⟨ih (by omega), mxJ_b T (fun q hq => h s q (by omega) hq)⟩
theorem Wt_b {S : Nat → Nat → Nat} {C : Nat → Int32} {i s j B : Nat} (h : S j s ≤ B) : Wt S C i s j ≤ B := by
  unfold Wt
  split
  · exact h
  · exact Nat.zero_le _
/-- the blocking of task i -/
def bl (S : Nat → Nat → Nat) (C : Nat → Int32) (T i : Nat) : Nat := ff (mxS (Wt S C i) i T 4)

section PQ
variable {cst : List (List Int32)} {ys : List Int32} {σ b : sg} {Q : Option Value → sg → Prop} {T k i r d n f t s : Nat} {S : Nat → Nat → Nat} {C : Nat → Int32}
theorem CEF_stay {j c : Nat} (h : CEF S s j = nI c) (hc : c < 5) : ∀ m, CEF S s (j + m) = nI c := by
  intro m
  induction m with
  | zero => exact h
  | succ m ih =>
    show cei (CEF S s (j + m)) _ _ = _
    unfold cei
    rw [ih, if_neg (nI_ne (by omega))]
    split <;> rfl
theorem c117_l (hs : s < 4) (hT : T ≤ 5) (e0 : σ 40 0 0 = nI T) (h54 : ∀ j, j < T → S j s < 2 ^ 30 ∧ σ 54 0 (4 * j + s) = nI (S j s)) (K : Q (some (.int (CEF S s T))) σ) : ∀ m i, i + m = T → CEF S s i = -1 → qa cst 117 2 [(0, .ref (cl 40 0)), (1, .int (nI s)), (2, .int (nI i))] [] σ Q := by
  intro m
  induction m with
  | zero =>
    intro i hi hc
    obtain rfl : i = T := by omega
    refine qa_s (pc' := 3) at_117_2 rfl rfl rfl ?_
    refine qa_s (pc' := 4) at_117_3 rfl rfl rfl ?_
    refine qa_getV (nx := 7) (v := nI i) at_117_4 rfl (by decide) rfl rfl (by decide) (show _ from e0) ?_
    refine qn_icmp_ge (tg := 31) (nx := 10) at_117_7 rfl rfl (by omega) (by omega) (fun h117_7 => ?_) (fun h117_7 => ?_)
    · refine qa_ic (nx := 32) (v := (-1)) at_117_31 (by decide) rfl ?_
      refine qa_ret at_117_32 rfl ?_
      rw [hc] at K
      exact K
    · omega
  | succ m ih =>
    intro i hi hc
    obtain ⟨hb, e54⟩ := h54 i (by omega)
    refine qa_s (pc' := 3) at_117_2 rfl rfl rfl ?_
    refine qa_s (pc' := 4) at_117_3 rfl rfl rfl ?_
    refine qa_getV (nx := 7) (v := nI T) at_117_4 rfl (by decide) rfl rfl (by decide) (show _ from e0) ?_
    refine qn_icmp_ge (tg := 31) (nx := 10) at_117_7 rfl rfl (by omega) (by omega) (fun h117_7 => ?_) (fun h117_7 => ?_)
    · omega
    · refine qa_s (pc' := 11) at_117_10 rfl rfl rfl ?_
      refine qa_getR (nx := 14) at_117_11 rfl (by decide) rfl rfl (by decide) ?_
      refine qa_ic (nx := 15) (v := nI 4) at_117_14 (by decide) rfl ?_
      refine qa_s (pc' := 16) at_117_15 rfl rfl rfl ?_
      refine qa_mulN (nx := 17) at_117_16 rfl ?_
      refine qa_s (pc' := 18) at_117_17 rfl rfl rfl ?_
      refine qa_addN (nx := 19) at_117_18 rfl ?_
      refine qa_ialdV (nx := 20) (k := (4 * i) + s) (v := nI (S i s)) at_117_19 rfl rfl rfl (by decide) rfl (show (4 * i) + s < 20 by omega) (show _ from e54) ?_
      refine qn_if_le (tg := 25) (nx := 23) at_117_20 rfl rfl (by omega) (fun h117_20 => ?_) (fun h117_20 => ?_)
      · refine qa_incN (nx := 28) (c := 1) at_117_25 (by decide) rfl rfl rfl ?_
        refine qa_goto (nx := 2) at_117_28 rfl ?_
        exact ih (i + 1) (by omega) (by show cei _ _ _ = _; unfold cei; rw [if_pos h117_20]; exact hc)
      · refine qa_s (pc' := 24) at_117_23 rfl rfl rfl ?_
        refine qa_ret at_117_24 rfl ?_
        have e1 : CEF S s (i + 1) = nI i := by show cei _ _ _ = _; unfold cei; rw [if_neg (by omega), if_pos hc]
        have e2 := CEF_stay e1 (by omega) m
        rw [show i + 1 + m = T by omega] at e2
        rw [e2] at K
        exact K
theorem c117_q (hs : s < 4) (hT : T ≤ 5) (e0 : σ 40 0 0 = nI T) (h54 : ∀ j, j < T → S j s < 2 ^ 30 ∧ σ 54 0 (4 * j + s) = nI (S j s)) (K : Q (some (.int (CEF S s T))) σ) : qa cst 117 0 [(0, .ref (cl 40 0)), (1, .int (nI s))] [] σ Q := by
  refine qa_ic (nx := 1) (v := nI 0) at_117_0 (by decide) rfl ?_
  refine qa_s (pc' := 2) at_117_1 rfl rfl rfl ?_
  exact c117_l hs hT e0 h54 K T 0 (by omega) rfl
theorem c41_j {g : Nat} (hi : i < T) (hT : T ≤ 5) (h7 : ∀ j s, j < T → s < 4 → S j s ≤ 834815912 ∧ σ 7 j s = nI (S j s)) (h10 : ∀ s, s < 4 → σ 10 0 s = C s) (hs : s < 4) (hg : g ≤ 834815912) (hw : nI 0 ≤ C s ∧ C s ≤ nI i) (K : ∀ v, qa cst 41 58 [(0, .ref (cl 4 0)), (1, .int (nI i)), (2, .int (nI T)), (3, .int (nI (max g (mxJ (Wt S C i) s i T)))), (4, .int (nI s)), (5, .int v)] [] σ Q) : ∀ m j v3, j + m = T → i < j → v3 = nI (max g (mxJ (Wt S C i) s i j)) → qa cst 41 31 [(0, .ref (cl 4 0)), (1, .int (nI i)), (2, .int (nI T)), (3, .int v3), (4, .int (nI s)), (5, .int (nI j))] [] σ Q := by
  intro m
  induction m with
  | zero =>
    intro j v3 hj hij e3
    subst e3
    obtain rfl : j = T := by omega
    refine qa_s (pc' := 33) at_41_31 rfl rfl rfl ?_
    refine qa_s (pc' := 34) at_41_33 rfl rfl rfl ?_
    refine qn_icmp_ge (tg := 58) (nx := 37) at_41_34 rfl rfl (by omega) (by omega) (fun h41_34 => ?_) (fun h41_34 => ?_)
    · exact K _
    · omega
  | succ m ih =>
    intro j v3 hj hij e3
    subst e3
    obtain ⟨hb, e7⟩ := h7 j s (by omega) hs
    have hm := mxJ_b (W := (Wt S C i)) (s := s) (i := i) (B := 834815912) j (fun q hq => Wt_b (h7 q s (by omega) hs).1)
    have hx : max g (mxJ (Wt S C i) s i j) ≤ 834815912 := Nat.max_le.mpr ⟨hg, hm⟩
    refine qa_s (pc' := 33) at_41_31 rfl rfl rfl ?_
    refine qa_s (pc' := 34) at_41_33 rfl rfl rfl ?_
    refine qn_icmp_ge (tg := 58) (nx := 37) at_41_34 rfl rfl (by omega) (by omega) (fun h41_34 => ?_) (fun h41_34 => ?_)
    · omega
    · refine qa_s (pc' := 38) at_41_37 rfl rfl rfl ?_
      refine qa_s (pc' := 39) at_41_38 rfl rfl rfl ?_
      refine qa_getR (nx := 42) at_41_39 rfl (by decide) rfl rfl (by decide) ?_
      refine qa_s (pc' := 44) at_41_42 rfl rfl rfl ?_
      refine qa_aald (nx := 45) (k := j) at_41_44 (by decide) rfl rfl (by decide) rfl (show j < 5 by omega) ?_
      refine qa_s (pc' := 47) at_41_45 rfl rfl rfl ?_
      refine qa_ialdV (nx := 48) (k := s) (v := nI (S j s)) at_41_47 rfl rfl rfl (show _ < 5 by omega) rfl (show s < 4 by omega) (show _ from e7) ?_
      refine qa_maxN (nx := 51) at_41_48 rfl (by omega) (by omega) rfl ?_
      refine qa_s (pc' := 52) at_41_51 rfl rfl rfl ?_
      refine qa_incN (nx := 55) (c := 1) at_41_52 (by decide) rfl rfl rfl ?_
      refine qa_goto (nx := 31) at_41_55 rfl ?_
      exact ih (j + 1) _ (by omega) (by omega) (by simp only [mxJ]; rw [if_pos hij, Nat.max_assoc]; unfold Wt; rw [if_pos hw])
theorem c41_s (hi : i < T) (hT : T ≤ 5) (h7 : ∀ j s, j < T → s < 4 → S j s ≤ 834815912 ∧ σ 7 j s = nI (S j s)) (h10 : ∀ s, s < 4 → σ 10 0 s = C s) (K : Q (some (.int (nI (bl S C T i)))) σ) : ∀ m s, s + m = 4 → qa cst 41 5 [(0, .ref (cl 4 0)), (1, .int (nI i)), (2, .int (nI T)), (3, .int (nI (mxS (Wt S C i) i T s))), (4, .int (nI s))] [] σ Q := by
  intro m
  induction m with
  | zero =>
    intro s hs
    obtain rfl : s = 4 := by omega
    have hx := mxS_b (W := (Wt S C i)) (i := i) (T := T) (B := 834815912) (fun s q hs hq => Wt_b (h7 q s hq hs).1) 4 (by omega)
    refine qa_s (pc' := 7) at_41_5 rfl rfl rfl ?_
    refine qa_ic (nx := 8) (v := nI 4) at_41_7 (by decide) rfl ?_
    refine qn_icmp_ge (tg := 64) (nx := 11) at_41_8 rfl rfl (by decide) (by decide) (fun h41_8 => ?_) (fun h => absurd h (by decide))
    refine qa_s (pc' := 65) at_41_64 rfl rfl rfl ?_
    refine qn_if_ne (tg := 72) (nx := 68) at_41_65 rfl rfl (by omega) (fun h41_65 => ?_) (fun h41_65 => ?_)
    · refine qa_s (pc' := 73) at_41_72 rfl rfl rfl ?_
      refine qa_ic (nx := 74) (v := nI 2) at_41_73 (by decide) rfl ?_
      refine qa_addN (nx := 75) at_41_74 rfl ?_
      refine qa_ret at_41_75 rfl ?_
      unfold bl ff at K
      first
        | (rw [if_pos (by omega)] at K; exact K)
        | (rw [if_neg (by omega)] at K; exact K)
    · refine qa_ic (nx := 69) (v := nI 0) at_41_68 (by decide) rfl ?_
      refine qa_goto (nx := 75) at_41_69 rfl ?_
      refine qa_ret at_41_75 rfl ?_
      unfold bl ff at K
      first
        | (rw [if_pos (by omega)] at K; exact K)
        | (rw [if_neg (by omega)] at K; exact K)
  | succ m ih =>
    intro s hs
    have hx := mxS_b (W := (Wt S C i)) (i := i) (T := T) (B := 834815912) (fun s q hs hq => Wt_b (h7 q s hq hs).1) s (by omega)
    refine qa_s (pc' := 7) at_41_5 rfl rfl rfl ?_
    refine qa_ic (nx := 8) (v := nI 4) at_41_7 (by decide) rfl ?_
    refine qn_icmp_ge (tg := 64) (nx := 11) at_41_8 rfl rfl (by omega) (by omega) (fun h41_8 => ?_) (fun h41_8 => ?_)
    · omega
    · refine qa_s (pc' := 12) at_41_11 rfl rfl rfl ?_
      refine qa_getR (nx := 15) at_41_12 rfl (by decide) rfl rfl (by decide) ?_
      refine qa_s (pc' := 17) at_41_15 rfl rfl rfl ?_
      refine qa_iald (nx := 18) (k := s) at_41_17 rfl rfl rfl (by decide) rfl (show s < 4 by omega) ?_
      refine qa_ic (nx := 19) (v := nI 0) at_41_18 (by decide) rfl ?_
      refine qa_s (pc' := 20) at_41_19 rfl rfl rfl ?_
      refine qa_callS (nx := 23) at_41_20 rfl rfl (Nat.le_of_ble_eq_true rfl) rfl rfl (by decide) rfl ?_
      show qa _ 11 0 [(0, .int _), (1, .int _), (2, .int _)] [] _ _
      refine c11_q ?_
      show qa _ 41 23 _ [.int _] _ _
      refine qa_if_eq (tg := 58) (nx := 26) at_41_23 rfl rfl (fun h41_23 => ?_) (fun h41_23 => ?_)
      · refine qa_incN (nx := 61) (c := 1) at_41_58 (by decide) rfl rfl rfl ?_
        refine qa_goto (nx := 5) at_41_61 rfl ?_
        have hw := bi_z h41_23
        rw [h10 s (by omega)] at hw
        have e3 : mxS (Wt S C i) i T (s + 1) = mxS (Wt S C i) i T s := by simp only [mxS]; rw [mxJ_0 T (fun q q1 q2 => by unfold Wt; rw [if_neg hw]), Nat.max_eq_left (Nat.zero_le _)]
        have ih2 := ih (s + 1) (by omega)
        rw [e3] at ih2
        exact ih2
      · refine qa_s (pc' := 27) at_41_26 rfl rfl rfl ?_
        refine qa_ic (nx := 28) (v := nI 1) at_41_27 (by decide) rfl ?_
        refine qa_addN (nx := 29) at_41_28 rfl ?_
        refine qa_s (pc' := 31) at_41_29 rfl rfl rfl ?_
        have hw := bi_n h41_23
        rw [h10 s (by omega)] at hw
        refine c41_j (g := mxS (Wt S C i) i T s) hi hT h7 h10 (by omega) hx hw (fun v => ?_) (T - (i + 1)) (i + 1) _ (by omega) (by omega) (by rw [mxJ_0 (i + 1) (fun q q1 q2 => by omega), Nat.max_eq_left (Nat.zero_le _)])
        refine qa_incN (nx := 61) (c := 1) at_41_58 (by decide) rfl rfl rfl ?_
        refine qa_goto (nx := 5) at_41_61 rfl ?_
        show qa _ _ _ [(0, .ref (cl 4 0)), (1, .int (nI i)), (2, .int (nI T)), (3, .int (nI (mxS (Wt S C i) i T (s + 1)))), (4, .int (nI (s + 1))), (5, .int _)] [] _ _
        exact qa_drop (l1 := [(0, .ref (cl 4 0)), (1, .int (nI i)), (2, .int (nI T)), (3, .int (nI (mxS (Wt S C i) i T (s + 1)))), (4, .int (nI (s + 1)))]) (by intro q hq; simp only [List.mem_cons, List.not_mem_nil, or_false] at hq ⊢; rcases hq with rfl | rfl | rfl | rfl | rfl <;> simp) (by simp [mj_nd]) (ih (s + 1) (by omega))
theorem c41_q (hi : i < T) (hT : T ≤ 5) (h7 : ∀ j s, j < T → s < 4 → S j s ≤ 834815912 ∧ σ 7 j s = nI (S j s)) (h10 : ∀ s, s < 4 → σ 10 0 s = C s) (K : Q (some (.int (nI (bl S C T i)))) σ) : qa cst 41 0 [(0, .ref (cl 4 0)), (1, .int (nI i)), (2, .int (nI T))] [] σ Q := by
  refine qa_ic (nx := 1) (v := nI 0) at_41_0 (by decide) rfl ?_
  refine qa_s (pc' := 2) at_41_1 rfl rfl rfl ?_
  refine qa_ic (nx := 3) (v := nI 0) at_41_2 (by decide) rfl ?_
  refine qa_s (pc' := 5) at_41_3 rfl rfl rfl ?_
  exact c41_s hi hT h7 h10 K 4 0 (by omega)
theorem c118_s {l : Nat} (hi : i < T) (hT : T ≤ 5) (e0 : σ 40 0 0 = nI T) (h54 : ∀ j s, j < T → s < 4 → S j s ≤ 834815912 ∧ σ 54 0 (4 * j + s) = nI (S j s)) (h57 : ∀ s, s < 4 → σ 57 0 s = C s) (hC : ∀ j s, j < T → s < 4 → 0 < S j s → nI 0 ≤ C s) (hl : l < T) (hil : i < l) (K : ∀ mm, mm ≤ 834815912 → isSup (fun s' j' => (s' < 4 ∧ i < j' ∧ j' < l) ∨ (j' = l ∧ s' < 4)) (Wt S C i) mm → qa cst 118 6 [(0, .ref (cl 40 0)), (1, .int (nI i)), (2, .int (nI (ff mm))), (3, .int (nI (l + 1)))] [] σ Q) : ∀ m s mm v2, s + m = 4 → v2 = nI (ff mm) → mm ≤ 834815912 → isSup (fun s' j' => (s' < 4 ∧ i < j' ∧ j' < l) ∨ (j' = l ∧ s' < s)) (Wt S C i) mm → qa cst 118 17 [(0, .ref (cl 40 0)), (1, .int (nI i)), (2, .int v2), (3, .int (nI l)), (4, .int (nI s))] [] σ Q := by
  intro m
  induction m with
  | zero =>
    intro s mm v2 hs e2 hm hV
    subst e2
    obtain rfl : s = 4 := by omega
    refine qa_s (pc' := 19) at_118_17 rfl rfl rfl ?_
    refine qa_ic (nx := 20) (v := nI 4) at_118_19 (by decide) rfl ?_
    refine qn_icmp_ge (tg := 87) (nx := 23) at_118_20 rfl rfl (by decide) (by decide) (fun h118_20 => ?_) (fun h => absurd h (by decide))
    refine qa_incN (nx := 90) (c := 1) at_118_87 (by decide) rfl rfl rfl ?_
    refine qa_goto (nx := 6) at_118_90 rfl ?_
    show qa _ _ _ [(0, .ref (cl 40 0)), (1, .int (nI i)), (2, .int (nI (ff mm))), (3, .int (nI (l + 1))), (4, .int _)] [] _ _
    exact qa_drop (l1 := [(0, .ref (cl 40 0)), (1, .int (nI i)), (2, .int (nI (ff mm))), (3, .int (nI (l + 1)))]) (by intro q hq; simp only [List.mem_cons, List.not_mem_nil, or_false] at hq ⊢; rcases hq with rfl | rfl | rfl | rfl <;> simp) (by simp [mj_nd]) (K mm hm hV)
  | succ m ih =>
    intro s mm v2 hs e2 hm hV
    subst e2
    obtain ⟨hb, e54⟩ := h54 l s hl (by omega)
    have e57 := h57 s (by omega)
    have hCs := hC l s hl (by omega)
    have hff : ff mm ≤ 834815914 := by unfold ff; split <;> omega
    have hV2 : isSup (fun s' j' => (s' < 4 ∧ i < j' ∧ j' < l) ∨ (j' = l ∧ s' < (s + 1))) (Wt S C i) (max mm (Wt S C i s l)) := isSup_s hV (fun s' j' => by omega)
    have hWb := Wt_b (C := C) (i := i) hb
    have hxb : max mm (Wt S C i s l) ≤ 834815912 := Nat.max_le.mpr ⟨hm, hWb⟩
    refine qa_s (pc' := 19) at_118_17 rfl rfl rfl ?_
    refine qa_ic (nx := 20) (v := nI 4) at_118_19 (by decide) rfl ?_
    refine qn_icmp_ge (tg := 87) (nx := 23) at_118_20 rfl rfl (by omega) (by omega) (fun h118_20 => ?_) (fun h118_20 => ?_)
    · omega
    · refine qa_s (pc' := 24) at_118_23 rfl rfl rfl ?_
      refine qa_getR (nx := 27) at_118_24 rfl (by decide) rfl rfl (by decide) ?_
      refine qa_ic (nx := 28) (v := nI 4) at_118_27 (by decide) rfl ?_
      refine qa_s (pc' := 29) at_118_28 rfl rfl rfl ?_
      refine qa_mulN (nx := 30) at_118_29 rfl ?_
      refine qa_s (pc' := 32) at_118_30 rfl rfl rfl ?_
      refine qa_addN (nx := 33) at_118_32 rfl ?_
      refine qa_ialdV (nx := 34) (k := (4 * l) + s) (v := nI (S l s)) at_118_33 rfl rfl rfl (by decide) rfl (show (4 * l) + s < 20 by omega) (show _ from e54) ?_
      refine qa_s (pc' := 36) at_118_34 rfl rfl rfl ?_
      refine qa_s (pc' := 38) at_118_36 rfl rfl rfl ?_
      refine qn_if_le (tg := 56) (nx := 41) at_118_38 rfl rfl (by omega) (fun h118_38 => ?_) (fun h118_38 => ?_)
      · refine qa_ic (nx := 57) (v := nI 0) at_118_56 (by decide) rfl ?_
        refine qa_s (pc' := 59) at_118_57 rfl rfl rfl ?_
        refine qa_s (pc' := 61) at_118_59 rfl rfl rfl ?_
        refine qn_if_eq (tg := 79) (nx := 64) at_118_61 rfl rfl (by decide) (fun h118_61 => ?_) (fun h => absurd h (by decide))
        refine qa_s (pc' := 80) at_118_79 rfl rfl rfl ?_
        refine qa_s (pc' := 81) at_118_80 rfl rfl rfl ?_
        refine qa_incN (nx := 84) (c := 1) at_118_81 (by decide) rfl rfl rfl ?_
        refine qa_goto (nx := 17) at_118_84 rfl ?_
        have hW0 : Wt S C i s l = 0 := by unfold Wt; first | (rw [h118_38]; split <;> rfl) | (rw [if_neg (fun c => absurd c.2 (Int32.not_le.mpr (e57 ▸ h118_49)))])
        show qa _ _ _ [(0, .ref (cl 40 0)), (1, .int (nI i)), (2, .int (nI (ff mm))), (3, .int (nI l)), (4, .int (nI (s + 1))), (5, .int _), (6, .int _)] [] _ _
        exact qa_drop (l1 := [(0, .ref (cl 40 0)), (1, .int (nI i)), (2, .int (nI (ff mm))), (3, .int (nI l)), (4, .int (nI (s + 1)))]) (by intro q hq; simp only [List.mem_cons, List.not_mem_nil, or_false] at hq ⊢; rcases hq with rfl | rfl | rfl | rfl | rfl <;> simp) (by simp [mj_nd]) (ih (s + 1) (max mm (Wt S C i s l)) _ (by omega) (by rw [hW0, Nat.max_eq_left (Nat.zero_le _)]) hxb hV2)
      · refine qa_s (pc' := 42) at_118_41 rfl rfl rfl ?_
        refine qa_getR (nx := 45) at_118_42 rfl (by decide) rfl rfl (by decide) ?_
        refine qa_s (pc' := 47) at_118_45 rfl rfl rfl ?_
        refine qa_iald (nx := 48) (k := s) at_118_47 rfl rfl rfl (by decide) rfl (show s < 4 by omega) ?_
        refine qa_s (pc' := 49) at_118_48 rfl rfl rfl ?_
        refine qa_icmp_gt (tg := 56) (nx := 52) at_118_49 rfl rfl (fun h118_49 => ?_) (fun h118_49 => ?_)
        · refine qa_ic (nx := 57) (v := nI 0) at_118_56 (by decide) rfl ?_
          refine qa_s (pc' := 59) at_118_57 rfl rfl rfl ?_
          refine qa_s (pc' := 61) at_118_59 rfl rfl rfl ?_
          refine qn_if_eq (tg := 79) (nx := 64) at_118_61 rfl rfl (by decide) (fun h118_61 => ?_) (fun h => absurd h (by decide))
          refine qa_s (pc' := 80) at_118_79 rfl rfl rfl ?_
          refine qa_s (pc' := 81) at_118_80 rfl rfl rfl ?_
          refine qa_incN (nx := 84) (c := 1) at_118_81 (by decide) rfl rfl rfl ?_
          refine qa_goto (nx := 17) at_118_84 rfl ?_
          have hW0 : Wt S C i s l = 0 := by unfold Wt; first | (rw [h118_38]; split <;> rfl) | (rw [if_neg (fun c => absurd c.2 (Int32.not_le.mpr (e57 ▸ h118_49)))])
          show qa _ _ _ [(0, .ref (cl 40 0)), (1, .int (nI i)), (2, .int (nI (ff mm))), (3, .int (nI l)), (4, .int (nI (s + 1))), (5, .int _), (6, .int _)] [] _ _
          exact qa_drop (l1 := [(0, .ref (cl 40 0)), (1, .int (nI i)), (2, .int (nI (ff mm))), (3, .int (nI l)), (4, .int (nI (s + 1)))]) (by intro q hq; simp only [List.mem_cons, List.not_mem_nil, or_false] at hq ⊢; rcases hq with rfl | rfl | rfl | rfl | rfl <;> simp) (by simp [mj_nd]) (ih (s + 1) (max mm (Wt S C i s l)) _ (by omega) (by rw [hW0, Nat.max_eq_left (Nat.zero_le _)]) hxb hV2)
        · refine qa_ic (nx := 53) (v := nI 1) at_118_52 (by decide) rfl ?_
          refine qa_goto (nx := 57) at_118_53 rfl ?_
          refine qa_s (pc' := 59) at_118_57 rfl rfl rfl ?_
          refine qa_s (pc' := 61) at_118_59 rfl rfl rfl ?_
          refine qn_if_eq (tg := 79) (nx := 64) at_118_61 rfl rfl (by decide) (fun h => absurd h (by decide)) (fun h118_61 => ?_)
          refine qa_s (pc' := 66) at_118_64 rfl rfl rfl ?_
          refine qa_ic (nx := 67) (v := nI 2) at_118_66 (by decide) rfl ?_
          refine qa_addN (nx := 68) at_118_67 rfl ?_
          refine qa_s (pc' := 69) at_118_68 rfl rfl rfl ?_
          refine qn_icmp_le (tg := 79) (nx := 72) at_118_69 rfl rfl (by omega) (by omega) (fun h118_69 => ?_) (fun h118_69 => ?_)
          · refine qa_s (pc' := 80) at_118_79 rfl rfl rfl ?_
            refine qa_s (pc' := 81) at_118_80 rfl rfl rfl ?_
            refine qa_incN (nx := 84) (c := 1) at_118_81 (by decide) rfl rfl rfl ?_
            refine qa_goto (nx := 17) at_118_84 rfl ?_
            have hWS : Wt S C i s l = S l s := by unfold Wt; rw [if_pos ⟨hCs h118_38, Int32.not_lt.mp (e57 ▸ h118_49)⟩]
            show qa _ _ _ [(0, .ref (cl 40 0)), (1, .int (nI i)), (2, .int (nI (ff mm))), (3, .int (nI l)), (4, .int (nI (s + 1))), (5, .int _), (6, .int _)] [] _ _
            exact qa_drop (l1 := [(0, .ref (cl 40 0)), (1, .int (nI i)), (2, .int (nI (ff mm))), (3, .int (nI l)), (4, .int (nI (s + 1)))]) (by intro q hq; simp only [List.mem_cons, List.not_mem_nil, or_false] at hq ⊢; rcases hq with rfl | rfl | rfl | rfl | rfl <;> simp) (by simp [mj_nd]) (ih (s + 1) (max mm (Wt S C i s l)) _ (by omega) (by rw [hWS]; congr 1; unfold ff at h118_69 ⊢; split at h118_69 <;> first | (exfalso; omega) | (rw [Nat.max_eq_right (by omega), if_neg (by omega)]) | (rw [Nat.max_eq_left (by omega), if_neg (by omega)]) | (exfalso; omega) | (rw [Nat.max_eq_left (by omega)]; rw [if_neg (by assumption)])) hxb hV2)
          · refine qa_s (pc' := 74) at_118_72 rfl rfl rfl ?_
            refine qa_ic (nx := 75) (v := nI 2) at_118_74 (by decide) rfl ?_
            refine qa_addN (nx := 76) at_118_75 rfl ?_
            refine qa_goto (nx := 80) at_118_76 rfl ?_
            refine qa_s (pc' := 81) at_118_80 rfl rfl rfl ?_
            refine qa_incN (nx := 84) (c := 1) at_118_81 (by decide) rfl rfl rfl ?_
            refine qa_goto (nx := 17) at_118_84 rfl ?_
            have hWS : Wt S C i s l = S l s := by unfold Wt; rw [if_pos ⟨hCs h118_38, Int32.not_lt.mp (e57 ▸ h118_49)⟩]
            show qa _ _ _ [(0, .ref (cl 40 0)), (1, .int (nI i)), (2, .int (nI ((S l s) + 2))), (3, .int (nI l)), (4, .int (nI (s + 1))), (5, .int _), (6, .int _)] [] _ _
            exact qa_drop (l1 := [(0, .ref (cl 40 0)), (1, .int (nI i)), (2, .int (nI ((S l s) + 2))), (3, .int (nI l)), (4, .int (nI (s + 1)))]) (by intro q hq; simp only [List.mem_cons, List.not_mem_nil, or_false] at hq ⊢; rcases hq with rfl | rfl | rfl | rfl | rfl <;> simp) (by simp [mj_nd]) (ih (s + 1) (max mm (Wt S C i s l)) _ (by omega) (by rw [hWS]; congr 1; unfold ff at h118_69 ⊢; split at h118_69 <;> first | (exfalso; omega) | (rw [Nat.max_eq_right (by omega), if_neg (by omega)]) | (rw [Nat.max_eq_left (by omega), if_neg (by omega)]) | (exfalso; omega) | (rw [Nat.max_eq_left (by omega)]; rw [if_neg (by assumption)])) hxb hV2)
theorem c118_l (hi : i < T) (hT : T ≤ 5) (e0 : σ 40 0 0 = nI T) (h54 : ∀ j s, j < T → s < 4 → S j s ≤ 834815912 ∧ σ 54 0 (4 * j + s) = nI (S j s)) (h57 : ∀ s, s < 4 → σ 57 0 s = C s) (hC : ∀ j s, j < T → s < 4 → 0 < S j s → nI 0 ≤ C s) (K : Q (some (.int (nI (bl S C T i)))) σ) : ∀ m l mm, l + m = T → i < l → mm ≤ 834815912 → isSup (fun s' j' => s' < 4 ∧ i < j' ∧ j' < l) (Wt S C i) mm → qa cst 118 6 [(0, .ref (cl 40 0)), (1, .int (nI i)), (2, .int (nI (ff mm))), (3, .int (nI l))] [] σ Q := by
  intro m
  induction m with
  | zero =>
    intro l mm hl hil hm hV
    obtain rfl : l = T := by omega
    have e := isSup_u hV (mxS_sup 4)
    subst e
    refine qa_s (pc' := 7) at_118_6 rfl rfl rfl ?_
    refine qa_s (pc' := 8) at_118_7 rfl rfl rfl ?_
    refine qa_getV (nx := 11) (v := nI l) at_118_8 rfl (by decide) rfl rfl (by decide) (show _ from e0) ?_
    refine qn_icmp_ge (tg := 93) (nx := 14) at_118_11 rfl rfl (by omega) (by omega) (fun h118_11 => ?_) (fun h118_11 => ?_)
    · refine qa_s (pc' := 94) at_118_93 rfl rfl rfl ?_
      refine qa_ret at_118_94 rfl ?_
      exact K
    · omega
  | succ m ih =>
    intro l mm hl hil hm hV
    refine qa_s (pc' := 7) at_118_6 rfl rfl rfl ?_
    refine qa_s (pc' := 8) at_118_7 rfl rfl rfl ?_
    refine qa_getV (nx := 11) (v := nI T) at_118_8 rfl (by decide) rfl rfl (by decide) (show _ from e0) ?_
    refine qn_icmp_ge (tg := 93) (nx := 14) at_118_11 rfl rfl (by omega) (by omega) (fun h118_11 => ?_) (fun h118_11 => ?_)
    · omega
    · refine qa_ic (nx := 15) (v := nI 0) at_118_14 (by decide) rfl ?_
      refine qa_s (pc' := 17) at_118_15 rfl rfl rfl ?_
      exact c118_s hi hT e0 h54 h57 hC (by omega) hil (fun mm2 q1 q2 => ih (l + 1) mm2 (by omega) (by omega) q1 (isSup_c q2 (fun s' j' => by omega))) 4 0 mm _ (by omega) rfl hm (isSup_c hV (fun s' j' => by omega))
theorem c118_q (hi : i < T) (hT : T ≤ 5) (e0 : σ 40 0 0 = nI T) (h54 : ∀ j s, j < T → s < 4 → S j s ≤ 834815912 ∧ σ 54 0 (4 * j + s) = nI (S j s)) (h57 : ∀ s, s < 4 → σ 57 0 s = C s) (hC : ∀ j s, j < T → s < 4 → 0 < S j s → nI 0 ≤ C s) (K : Q (some (.int (nI (bl S C T i)))) σ) : qa cst 118 0 [(0, .ref (cl 40 0)), (1, .int (nI i))] [] σ Q := by
  refine qa_ic (nx := 1) (v := nI 0) at_118_0 (by decide) rfl ?_
  refine qa_s (pc' := 2) at_118_1 rfl rfl rfl ?_
  refine qa_s (pc' := 3) at_118_2 rfl rfl rfl ?_
  refine qa_ic (nx := 4) (v := nI 1) at_118_3 (by decide) rfl ?_
  refine qa_addN (nx := 5) at_118_4 rfl ?_
  refine qa_s (pc' := 6) at_118_5 rfl rfl rfl ?_
  exact c118_l hi hT e0 h54 h57 hC K (T - (i + 1)) (i + 1) 0 (by omega) (by omega) (Nat.zero_le _) ⟨fun s j h => by omega, Or.inl rfl⟩
end PQ
