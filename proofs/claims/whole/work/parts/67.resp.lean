/-! the fourth call: responses, both sides -/
/-- what is asked of the processor within n cycles by the first j tasks above base -/
def dm (wc per : Nat → Nat) (base n : Nat) : Nat → Nat
  | 0 => base
  | j + 1 => dm wc per base n j + (n + per j - 1) / per j * (wc j + 4)
theorem dm_ge {wc per : Nat → Nat} {base n : Nat} : ∀ j, base ≤ dm wc per base n j := by
  intro j
  induction j with
  | zero => exact Nat.le_refl _
  | succ j ih => exact Nat.le_trans ih (Nat.le_add_right _ _)
theorem dm_mono {wc per : Nat → Nat} {base n n' : Nat} (h : n ≤ n') : ∀ j, dm wc per base n j ≤ dm wc per base n' j := by
  intro j
  induction j with
  | zero => exact Nat.le_refl _
  | succ j ih => exact Nat.add_le_add ih (Nat.mul_le_mul (Nat.div_le_div_right (by omega)) (Nat.le_refl _))
theorem rel_le {n p : Nat} (hn : 1 ≤ n) (hp : 1 ≤ p) : (n + p - 1) / p ≤ n := by
  obtain ⟨a, rfl⟩ : ∃ a, n = a + 1 := ⟨n - 1, by omega⟩
  refine Nat.le_of_lt_succ ((Nat.div_lt_iff_lt_mul (by omega)).mpr ?_)
  rw [Nat.succ_mul, Nat.add_mul]
  have : a ≤ a * p := Nat.le_mul_of_pos_right _ (by omega)
  omega
theorem dm_b {wc per : Nat → Nat} {base n i : Nat} (hn : 1 ≤ n) (hn2 : n ≤ 5000) (hw : ∀ j, j < i → wc j ≤ 5000) (hp : ∀ j, j < i → 1 ≤ per j) : ∀ j, j ≤ i → dm wc per base n j ≤ base + j * 25020000 := by
  intro j
  induction j with
  | zero => intro _; exact Nat.le_add_right _ _
  | succ j ih =>
    intro hj
    have h1 := ih (by omega)
    have h2 : (n + per j - 1) / per j * (wc j + 4) ≤ 5000 * 5004 := Nat.mul_le_mul (Nat.le_trans (rel_le hn (hp j (by omega))) hn2) (by have := hw j (by omega); omega)
    show dm wc per base n j + _ ≤ _
    rw [Nat.succ_mul]
    omega
/-- the least answer n among the m numbers from k on, -1 if there is none -/
def fx (D : Nat → Nat) : Nat → Nat → Int32
  | 0, _ => -1
  | m + 1, k => if D k = k then nI k else fx D m (k + 1)
theorem fx_some {D : Nat → Nat} {n : Nat} (hD : D n = n) : ∀ m k, k ≤ n → n < k + m → (∀ q, k ≤ q → q < n → D q ≠ q) → fx D m k = nI n := by
  intro m
  induction m with
  | zero => intro k h1 h2; omega
  | succ m ih =>
    intro k h1 h2 h3
    simp only [fx]
    by_cases e : k = n
    · subst e; rw [if_pos hD]
    · rw [if_neg (h3 k (Nat.le_refl _) (by omega))]
      exact ih (k + 1) (by omega) (by omega) (fun q q1 q2 => h3 q (by omega) q2)
theorem fx_none {D : Nat → Nat} : ∀ m k, (∀ q, k ≤ q → q < k + m → D q ≠ q) → fx D m k = -1 := by
  intro m
  induction m with
  | zero => intro k _; rfl
  | succ m ih =>
    intro k h
    simp only [fx]
    rw [if_neg (h k (Nat.le_refl _) (by omega))]
    exact ih (k + 1) (fun q q1 q2 => h q (by omega) (by omega))
theorem fx_ne {D : Nat → Nat} : ∀ m k, fx D m k ≠ -1 → ∃ n, k ≤ n ∧ n < k + m ∧ D n = n ∧ fx D m k = nI n := by
  intro m
  induction m with
  | zero => intro k h; exact absurd rfl h
  | succ m ih =>
    intro k h
    simp only [fx] at h ⊢
    by_cases e : D k = k
    · rw [if_pos e]; exact ⟨k, Nat.le_refl _, by omega, e, rfl⟩
    · rw [if_neg e] at h ⊢
      obtain ⟨n, n1, n2, n3, n4⟩ := ih (k + 1) h
      exact ⟨n, by omega, by omega, n3, n4⟩
/-- the first of the first j tasks that is late, -1 if none is -/
def lat (F : Nat → Int32) : Nat → Int32
  | 0 => -1
  | j + 1 => if lat F j = -1 then (if F j = -1 then nI j else -1) else lat F j
def rsp (F : Nat → Int32) (j : Nat) : Int32 := if lat F j = -1 then F j else -1
theorem lat_ok {F : Nat → Int32} : ∀ i, i ≤ 5 → lat F i = -1 → ∀ j, j < i → F j ≠ -1 := by
  intro i
  induction i with
  | zero => intro _ _ j hj; omega
  | succ i ih =>
    intro hi h j hj
    simp only [lat] at h
    by_cases e : lat F i = -1
    · rw [if_pos e] at h
      by_cases f : F i = -1
      · rw [if_pos f] at h; exact absurd h (nI_ne (by omega))
      · by_cases g : j = i
        · rw [g]; exact f
        · exact ih (by omega) e j (by omega)
    · rw [if_neg e] at h; exact absurd h e
theorem lat_0 {F : Nat → Int32} : ∀ i, (∀ j, j < i → F j ≠ -1) → lat F i = -1 := by
  intro i
  induction i with
  | zero => intro _; rfl
  | succ i ih => intro h; simp only [lat]; rw [ih (fun j hj => h j (by omega)), if_pos rfl, if_neg (h i (by omega))]
theorem lat_stay {F : Nat → Int32} {j c : Nat} (h : lat F j = nI c) (hc : c < 5) : ∀ m, lat F (j + m) = nI c := by
  intro m
  induction m with
  | zero => exact h
  | succ m ih => show (if lat F (j + m) = -1 then _ else _) = _; rw [if_neg (by rw [ih]; exact nI_ne (by omega))]; exact ih
theorem lat_le {F : Nat → Int32} : ∀ m j, lat F (j + m) = -1 → lat F j = -1 := by
  intro m
  induction m with
  | zero => intro j h; exact h
  | succ m ih =>
    intro j h
    refine ih j ?_
    by_cases e : lat F (j + m) = -1
    · exact e
    · have : lat F (j + (m + 1)) = lat F (j + m) := by show (if lat F (j + m) = -1 then _ else _) = _; rw [if_neg e]; rfl
      rw [this] at h; exact absurd h e
/-- the response of task i -/
def Fr (wc per dl B : Nat → Nat) (i : Nat) : Int32 := fx (fun n => dm wc per (B i + wc i + 2) n i) (dl i) 1
theorem Fr_wc {wc per dl B : Nat → Nat} {i : Nat} (hd : dl i ≤ 5000) (h : Fr wc per dl B i ≠ -1) : wc i ≤ 5000 := by
  obtain ⟨n, n1, n2, n3, n4⟩ := fx_ne _ _ h
  have := dm_ge (wc := wc) (per := per) (base := B i + wc i + 2) (n := n) i
  have n3' : dm wc per (B i + wc i + 2) n i = n := n3
  omega

section PQ
variable {cst : List (List Int32)} {ys : List Int32} {σ b : sg} {Q : Option Value → sg → Prop} {T k i r d n f t s : Nat} {wc per dl B : Nat → Nat}
theorem c44_l (hi : i < T) (hT : T ≤ 5) (h8 : σ 8 0 i = nI (B i)) (h5 : ∀ j, j < T → σ 5 0 j = nI (wc j)) (h11 : ∀ j, j < T → σ 11 j 1 = nI (per j) ∧ 1 ≤ per j ∧ per j ≤ 5000) (hn1 : 1 ≤ n) (hn : n ≤ 5000) (K : Q (some (.int (nI (dm wc per (B i + wc i + 2) n i)))) σ) : ∀ m j v4, j + m = i → v4 = nI (dm wc per (B i + wc i + 2) n j) → qa cst 44 20 [(0, .ref (cl 4 0)), (1, .ref (cl 1 0)), (2, .int (nI i)), (3, .int (nI n)), (4, .int v4), (5, .int (nI j))] [] σ Q := by
  intro m
  induction m with
  | zero =>
    intro j v4 hj e4
    subst e4
    obtain rfl : j = i := by omega
    refine qa_s (pc' := 22) at_44_20 rfl rfl rfl ?_
    refine qa_s (pc' := 23) at_44_22 rfl rfl rfl ?_
    refine qn_icmp_ge (tg := 73) (nx := 26) at_44_23 rfl rfl (by omega) (by omega) (fun h44_23 => ?_) (fun h44_23 => ?_)
    · refine qa_s (pc' := 75) at_44_73 rfl rfl rfl ?_
      refine qa_ret at_44_75 rfl ?_
      exact K
    · omega
  | succ m ih =>
    intro j v4 hj e4
    subst e4
    obtain ⟨p1, p2, p3⟩ := h11 j (by omega)
    have w5 := h5 j (by omega)
    refine qa_s (pc' := 22) at_44_20 rfl rfl rfl ?_
    refine qa_s (pc' := 23) at_44_22 rfl rfl rfl ?_
    refine qn_icmp_ge (tg := 73) (nx := 26) at_44_23 rfl rfl (by omega) (by omega) (fun h44_23 => ?_) (fun h44_23 => ?_)
    · omega
    · refine qa_ic (nx := 27) (v := nI 1) at_44_26 (by decide) rfl ?_
      refine qa_s (pc' := 28) at_44_27 rfl rfl rfl ?_
      refine qa_s (pc' := 30) at_44_28 rfl rfl rfl ?_
      refine qa_aald (nx := 31) (k := j) at_44_30 (by decide) rfl rfl (by decide) rfl (show j < 5 by omega) ?_
      refine qa_getV (nx := 34) (v := nI (per j)) at_44_31 rfl (by decide) rfl rfl (show _ < 5 by omega) (show _ from p1) ?_
      refine qa_maxN (nx := 37) at_44_34 rfl (by decide) (by omega) rfl ?_
      rw [Nat.max_eq_right (show 1 ≤ per j by omega)]
      refine qa_s (pc' := 39) at_44_37 rfl rfl rfl ?_
      refine qa_s (pc' := 40) at_44_39 rfl rfl rfl ?_
      refine qa_s (pc' := 42) at_44_40 rfl rfl rfl ?_
      refine qa_addN (nx := 43) at_44_42 rfl ?_
      refine qa_ic (nx := 44) (v := nI 1) at_44_43 (by decide) rfl ?_
      refine qa_subN (nx := 45) at_44_44 rfl (by omega) ?_
      refine qa_s (pc' := 47) at_44_45 rfl rfl rfl ?_
      refine qa_divN (nx := 48) at_44_47 (by omega) (by omega) (by omega) rfl ?_
      refine qa_s (pc' := 50) at_44_48 rfl rfl rfl ?_
      refine qa_s (pc' := 52) at_44_50 rfl rfl rfl ?_
      refine qa_s (pc' := 54) at_44_52 rfl rfl rfl ?_
      refine qa_s (pc' := 55) at_44_54 rfl rfl rfl ?_
      refine qa_getR (nx := 58) at_44_55 rfl (by decide) rfl rfl (by decide) ?_
      refine qa_s (pc' := 60) at_44_58 rfl rfl rfl ?_
      refine qa_ialdV (nx := 61) (k := j) (v := nI (wc j)) at_44_60 rfl rfl rfl (by decide) rfl (show j < 5 by omega) (show _ from w5) ?_
      refine qa_ic (nx := 62) (v := nI 4) at_44_61 (by decide) rfl ?_
      refine qa_addN (nx := 63) at_44_62 rfl ?_
      refine qa_mulN (nx := 64) at_44_63 rfl ?_
      refine qa_addN (nx := 65) at_44_64 rfl ?_
      refine qa_s (pc' := 67) at_44_65 rfl rfl rfl ?_
      refine qa_incN (nx := 70) (c := 1) at_44_67 (by decide) rfl rfl rfl ?_
      refine qa_goto (nx := 20) at_44_70 rfl ?_
      show qa _ _ _ [(0, .ref (cl 4 0)), (1, .ref (cl 1 0)), (2, .int (nI i)), (3, .int (nI n)), (4, .int (nI ((dm wc per (B i + wc i + 2) n j) + ((((n + (per j)) - 1) / (per j)) * ((wc j) + 4))))), (5, .int (nI (j + 1))), (6, .int _), (7, .int _)] [] _ _
      exact qa_drop (l1 := [(0, .ref (cl 4 0)), (1, .ref (cl 1 0)), (2, .int (nI i)), (3, .int (nI n)), (4, .int (nI ((dm wc per (B i + wc i + 2) n j) + ((((n + (per j)) - 1) / (per j)) * ((wc j) + 4))))), (5, .int (nI (j + 1)))]) (by intro q hq; simp only [List.mem_cons, List.not_mem_nil, or_false] at hq ⊢; rcases hq with rfl | rfl | rfl | rfl | rfl | rfl <;> simp) (by simp [mj_nd]) (ih (j + 1) _ (by omega) rfl)
theorem c44_q (hi : i < T) (hT : T ≤ 5) (h8 : σ 8 0 i = nI (B i)) (h5 : ∀ j, j < T → σ 5 0 j = nI (wc j)) (h11 : ∀ j, j < T → σ 11 j 1 = nI (per j) ∧ 1 ≤ per j ∧ per j ≤ 5000) (hn1 : 1 ≤ n) (hn : n ≤ 5000) (K : Q (some (.int (nI (dm wc per (B i + wc i + 2) n i)))) σ) : qa cst 44 0 [(0, .ref (cl 4 0)), (1, .ref (cl 1 0)), (2, .int (nI i)), (3, .int (nI n))] [] σ Q := by
  have w5 := h5 i hi
  refine qa_s (pc' := 1) at_44_0 rfl rfl rfl ?_
  refine qa_getR (nx := 4) at_44_1 rfl (by decide) rfl rfl (by decide) ?_
  refine qa_s (pc' := 5) at_44_4 rfl rfl rfl ?_
  refine qa_ialdV (nx := 6) (k := i) (v := nI (B i)) at_44_5 rfl rfl rfl (by decide) rfl (show i < 5 by omega) (show _ from h8) ?_
  refine qa_s (pc' := 7) at_44_6 rfl rfl rfl ?_
  refine qa_getR (nx := 10) at_44_7 rfl (by decide) rfl rfl (by decide) ?_
  refine qa_s (pc' := 11) at_44_10 rfl rfl rfl ?_
  refine qa_ialdV (nx := 12) (k := i) (v := nI (wc i)) at_44_11 rfl rfl rfl (by decide) rfl (show i < 5 by omega) (show _ from w5) ?_
  refine qa_addN (nx := 13) at_44_12 rfl ?_
  refine qa_ic (nx := 14) (v := nI 2) at_44_13 (by decide) rfl ?_
  refine qa_addN (nx := 15) at_44_14 rfl ?_
  refine qa_s (pc' := 17) at_44_15 rfl rfl rfl ?_
  refine qa_ic (nx := 18) (v := nI 0) at_44_17 (by decide) rfl ?_
  refine qa_s (pc' := 20) at_44_18 rfl rfl rfl ?_
  exact c44_l hi hT h8 h5 h11 hn1 hn K i 0 _ (by omega) rfl
theorem c43_l (hi : i < T) (hT : T ≤ 5) (h8 : σ 8 0 i = nI (B i)) (h5 : ∀ j, j < T → σ 5 0 j = nI (wc j)) (h11 : ∀ j, j < T → σ 11 j 1 = nI (per j) ∧ 1 ≤ per j ∧ per j ≤ 5000) (hd : σ 11 i 2 = nI (dl i)) (hd1 : 1 ≤ dl i) (hd2 : dl i ≤ 5000) (hB : B i ≤ 834815914) (hw : wc i ≤ 834815912) (hwj : ∀ j, j < i → wc j ≤ 5000) (K : Q (some (.int (Fr wc per dl B i))) σ) : ∀ m q t, q + m = dl i + 1 → q + 1 ≤ t → t ≤ dl i → t ≤ dm wc per (B i + wc i + 2) t i → (∀ n, 1 ≤ n → dm wc per (B i + wc i + 2) n i = n → t ≤ n) → qa cst 43 13 [(0, .ref (cl 4 0)), (1, .ref (cl 1 0)), (2, .int (nI i)), (3, .int (nI (dl i))), (4, .int (nI t)), (5, .int (nI q))] [] σ Q := by
  have bd : ∀ n, 1 ≤ n → n ≤ 5000 → dm wc per (B i + wc i + 2) n i < 2 ^ 31 := fun n n1 n2 => Nat.lt_of_le_of_lt (dm_b n1 n2 hwj (fun j hj => (h11 j (by omega)).2.1) i (Nat.le_refl _)) (by omega)
  intro m
  induction m with
  | zero => intro q t hq h1 h2; omega
  | succ m ih =>
    intro q t hq h1 h2 h3 h4
    have hbt := bd t (by omega) (by omega)
    refine qa_s (pc' := 15) at_43_13 rfl rfl rfl ?_
    refine qa_s (pc' := 16) at_43_15 rfl rfl rfl ?_
    refine qn_icmp_gt (tg := 57) (nx := 19) at_43_16 rfl rfl (by omega) (by omega) (fun h43_16 => ?_) (fun h43_16 => ?_)
    · omega
    · refine qa_s (pc' := 20) at_43_19 rfl rfl rfl ?_
      refine qa_s (pc' := 21) at_43_20 rfl rfl rfl ?_
      refine qa_s (pc' := 22) at_43_21 rfl rfl rfl ?_
      refine qa_s (pc' := 24) at_43_22 rfl rfl rfl ?_
      refine qa_callV (nx := 27) at_43_24 rfl rfl (Nat.le_of_ble_eq_true rfl) rfl rfl rfl (by decide) rfl (by decide) ?_
      show qa _ 44 0 [(0, .ref _), (1, .ref _), (2, .int _), (3, .int _)] [] _ _
      refine c44_q hi hT h8 h5 h11 (by omega) (by omega) ?_
      show qa _ 43 27 _ [.int _] _ _
      refine qa_s (pc' := 29) at_43_27 rfl rfl rfl ?_
      refine qa_s (pc' := 31) at_43_29 rfl rfl rfl ?_
      refine qa_s (pc' := 32) at_43_31 rfl rfl rfl ?_
      refine qn_icmp_le (tg := 37) (nx := 35) at_43_32 rfl rfl (by omega) (by omega) (fun h43_32 => ?_) (fun h43_32 => ?_)
      · refine qa_s (pc' := 39) at_43_37 rfl rfl rfl ?_
        refine qa_s (pc' := 41) at_43_39 rfl rfl rfl ?_
        refine qn_icmp_ne (tg := 47) (nx := 44) at_43_41 rfl rfl (by omega) (by omega) (fun h43_41 => ?_) (fun h43_41 => ?_)
        · refine qa_s (pc' := 49) at_43_47 rfl rfl rfl ?_
          refine qa_s (pc' := 51) at_43_49 rfl rfl rfl ?_
          refine qa_incN (nx := 54) (c := 1) at_43_51 (by decide) rfl rfl rfl ?_
          refine qa_goto (nx := 13) at_43_54 rfl ?_
          show qa _ _ _ [(0, .ref (cl 4 0)), (1, .ref (cl 1 0)), (2, .int (nI i)), (3, .int (nI (dl i))), (4, .int (nI (dm wc per (B i + wc i + 2) t i))), (5, .int (nI (q + 1))), (6, .int _)] [] _ _
          exact qa_drop (l1 := [(0, .ref (cl 4 0)), (1, .ref (cl 1 0)), (2, .int (nI i)), (3, .int (nI (dl i))), (4, .int (nI (dm wc per (B i + wc i + 2) t i))), (5, .int (nI (q + 1)))]) (by intro q hq; simp only [List.mem_cons, List.not_mem_nil, or_false] at hq ⊢; rcases hq with rfl | rfl | rfl | rfl | rfl | rfl <;> simp) (by simp [mj_nd]) (ih (q + 1) _ (by omega) (by omega) (by omega) (dm_mono h3 i) (fun n n1 n2 => by have := dm_mono (wc := wc) (per := per) (base := B i + wc i + 2) (h4 n n1 n2) i; omega))
        · refine qa_s (pc' := 46) at_43_44 rfl rfl rfl ?_
          refine qa_ret at_43_46 rfl ?_
          have e : Fr wc per dl B i = nI t := fx_some (n := t) h43_41 _ _ (by omega) (by omega) (fun n n1 n2 n3 => by have := h4 n n1 n3; omega)
          rw [e] at K
          exact K
      · refine qa_ic (nx := 36) (v := (-1)) at_43_35 (by decide) rfl ?_
        refine qa_ret at_43_36 rfl ?_
        have e : Fr wc per dl B i = -1 := fx_none _ _ (fun n n1 n2 n3 => by have n3' : dm wc per (B i + wc i + 2) n i = n := n3; have := dm_mono (wc := wc) (per := per) (base := B i + wc i + 2) (h4 n n1 n3') i; omega)
        rw [e] at K
        exact K
theorem c43_q (hi : i < T) (hT : T ≤ 5) (h8 : σ 8 0 i = nI (B i)) (h5 : ∀ j, j < T → σ 5 0 j = nI (wc j)) (h11 : ∀ j, j < T → σ 11 j 1 = nI (per j) ∧ 1 ≤ per j ∧ per j ≤ 5000) (hd : σ 11 i 2 = nI (dl i)) (hd1 : 1 ≤ dl i) (hd2 : dl i ≤ 5000) (hB : B i ≤ 834815914) (hw : wc i ≤ 834815912) (hwj : ∀ j, j < i → wc j ≤ 5000) (K : Q (some (.int (Fr wc per dl B i))) σ) : qa cst 43 0 [(0, .ref (cl 4 0)), (1, .ref (cl 1 0)), (2, .int (nI i))] [] σ Q := by
  refine qa_s (pc' := 1) at_43_0 rfl rfl rfl ?_
  refine qa_s (pc' := 2) at_43_1 rfl rfl rfl ?_
  refine qa_aald (nx := 3) (k := i) at_43_2 (by decide) rfl rfl (by decide) rfl (show i < 5 by omega) ?_
  refine qa_getV (nx := 6) (v := nI (dl i)) at_43_3 rfl (by decide) rfl rfl (show _ < 5 by omega) (show _ from hd) ?_
  refine qa_s (pc' := 7) at_43_6 rfl rfl rfl ?_
  refine qa_ic (nx := 8) (v := nI 1) at_43_7 (by decide) rfl ?_
  refine qa_s (pc' := 10) at_43_8 rfl rfl rfl ?_
  refine qa_ic (nx := 11) (v := nI 0) at_43_10 (by decide) rfl ?_
  refine qa_s (pc' := 13) at_43_11 rfl rfl rfl ?_
  exact c43_l hi hT h8 h5 h11 hd hd1 hd2 hB hw hwj K (dl i + 1) 0 1 (by omega) (by omega) (by omega) (Nat.le_trans (by omega) (dm_ge i)) (fun n n1 _ => n1)
theorem c42_l (hT : T ≤ 5) (h8 : ∀ i, i < T → σ 8 0 i = nI (B i) ∧ B i ≤ 834815914) (h5 : ∀ j, j < T → σ 5 0 j = nI (wc j) ∧ wc j ≤ 834815912) (h11 : ∀ j, j < T → σ 11 j 1 = nI (per j) ∧ 1 ≤ per j ∧ per j ≤ 5000) (hd : ∀ i, i < T → σ 11 i 2 = nI (dl i) ∧ 1 ≤ dl i ∧ dl i ≤ 5000) (K : ∀ σ1, (∀ a, a ≠ 9 → σ1 a = σ a) → (∀ j, j < T → σ1 9 0 j = rsp (Fr wc per dl B) j) → Q (some (.int (lat (Fr wc per dl B) T))) σ1) : ∀ m i σ1, i + m = T → lat (Fr wc per dl B) i = -1 → (∀ a, a ≠ 9 → σ1 a = σ a) → (∀ j, j < T → σ1 9 0 j = if j < i then rsp (Fr wc per dl B) j else -1) → qa cst 42 10 [(0, .ref (cl 4 0)), (1, .ref (cl 1 0)), (2, .int (nI T)), (3, .int (nI i))] [] σ1 Q := by
  intro m
  induction m with
  | zero =>
    intro i σ1 hi hl hF h9
    obtain rfl : i = T := by omega
    refine qa_s (pc' := 11) at_42_10 rfl rfl rfl ?_
    refine qa_s (pc' := 12) at_42_11 rfl rfl rfl ?_
    refine qn_icmp_ge (tg := 45) (nx := 15) at_42_12 rfl rfl (by omega) (by omega) (fun h42_12 => ?_) (fun h42_12 => ?_)
    · refine qa_ic (nx := 46) (v := (-1)) at_42_45 (by decide) rfl ?_
      refine qa_ret at_42_46 rfl ?_
      have k := K σ1 hF (fun j hj => by rw [h9 j hj, if_pos hj])
      rw [hl] at k
      exact k
    · omega
  | succ m ih =>
    intro i σ1 hi hl hF h9
    have hok := lat_ok i (by omega) hl
    have ers : rsp (Fr wc per dl B) i = Fr wc per dl B i := by unfold rsp; rw [if_pos hl]
    have h9' : ∀ j, j < T → up σ1 9 0 i (Fr wc per dl B i) 9 0 j = if j < i + 1 then rsp (Fr wc per dl B) j else -1 := by
      intro j hj
      by_cases e : j = i
      · subst e; rw [up_s, if_pos (by omega), ers]
      · rw [up_j e, h9 j hj]
        by_cases g : j < i
        · rw [if_pos g, if_pos (by omega)]
        · rw [if_neg g, if_neg (by omega)]
    refine qa_s (pc' := 11) at_42_10 rfl rfl rfl ?_
    refine qa_s (pc' := 12) at_42_11 rfl rfl rfl ?_
    refine qn_icmp_ge (tg := 45) (nx := 15) at_42_12 rfl rfl (by omega) (by omega) (fun h42_12 => ?_) (fun h42_12 => ?_)
    · omega
    · refine qa_s (pc' := 16) at_42_15 rfl rfl rfl ?_
      refine qa_getR (nx := 19) at_42_16 rfl (by decide) rfl rfl (by decide) ?_
      refine qa_s (pc' := 20) at_42_19 rfl rfl rfl ?_
      refine qa_s (pc' := 21) at_42_20 rfl rfl rfl ?_
      refine qa_s (pc' := 22) at_42_21 rfl rfl rfl ?_
      refine qa_s (pc' := 23) at_42_22 rfl rfl rfl ?_
      refine qa_callV (nx := 26) at_42_23 rfl rfl (Nat.le_of_ble_eq_true rfl) rfl rfl rfl (by decide) rfl (by decide) ?_
      show qa _ 43 0 [(0, .ref _), (1, .ref _), (2, .int _)] [] _ _
      refine c43_q (T := T) (by omega) hT (by rw [hF 8 (by decide)]; exact (h8 i (by omega)).1) (fun j hj => by rw [hF 5 (by decide)]; exact (h5 j hj).1) (fun j hj => by rw [hF 11 (by decide)]; exact h11 j hj) (by rw [hF 11 (by decide)]; exact (hd i (by omega)).1) (hd i (by omega)).2.1 (hd i (by omega)).2.2 (h8 i (by omega)).2 (h5 i (by omega)).2 (fun j hj => Fr_wc (hd j (by omega)).2.2 (hok j hj)) ?_
      show qa _ 42 26 _ [.int _, .int _, .ref _] _ _
      refine qa_iast (nx := 27) (k := i) at_42_26 rfl rfl rfl (by decide) rfl (show i < 5 by omega) ?_
      refine qa_s (pc' := 28) at_42_27 rfl rfl rfl ?_
      refine qa_getR (nx := 31) at_42_28 rfl (by decide) rfl rfl (by decide) ?_
      refine qa_s (pc' := 32) at_42_31 rfl rfl rfl ?_
      refine qa_iald (nx := 33) (k := i) at_42_32 rfl rfl rfl (by decide) rfl (show i < 5 by omega) ?_
      refine qa_ic (nx := 34) (v := (-1)) at_42_33 (by decide) rfl ?_
      refine qa_icmp_ne (tg := 39) (nx := 37) at_42_34 rfl rfl (fun h42_34 => ?_) (fun h42_34 => ?_)
      · have hne : ¬ Fr wc per dl B i = -1 := fun e => h42_34 (by rw [up_s]; exact e)
        refine qa_incN (nx := 42) (c := 1) at_42_39 (by decide) rfl rfl rfl ?_
        refine qa_goto (nx := 10) at_42_42 rfl ?_
        exact ih (i + 1) _ (by omega) (by simp only [lat]; rw [if_pos hl, if_neg hne]) (fun a g => by rw [up_k g]; exact hF a g) h9'
      · have hne : Fr wc per dl B i = -1 := by rw [← h42_34, up_s]
        refine qa_s (pc' := 38) at_42_37 rfl rfl rfl ?_
        refine qa_ret at_42_38 rfl ?_
        have el : lat (Fr wc per dl B) (i + 1) = nI i := by simp only [lat]; rw [if_pos hl, if_pos hne]
        have eT : lat (Fr wc per dl B) T = nI i := by have z := lat_stay el (by omega) m; rw [show i + 1 + m = T by omega] at z; exact z
        have k := K (up σ1 9 0 i (Fr wc per dl B i)) (fun a g => by rw [up_k g]; exact hF a g) (fun j hj => by
          rw [h9' j hj]
          by_cases g : j < i + 1
          · rw [if_pos g]
          · rw [if_neg g]
            unfold rsp
            have z := lat_stay el (by omega) (j - (i + 1))
            rw [show i + 1 + (j - (i + 1)) = j by omega] at z
            rw [z, if_neg (nI_ne (by omega))])
        rw [eT] at k
        exact k
theorem c42_q (hT : T ≤ 5) (h8 : ∀ i, i < T → σ 8 0 i = nI (B i) ∧ B i ≤ 834815914) (h5 : ∀ j, j < T → σ 5 0 j = nI (wc j) ∧ wc j ≤ 834815912) (h11 : ∀ j, j < T → σ 11 j 1 = nI (per j) ∧ 1 ≤ per j ∧ per j ≤ 5000) (hd : ∀ i, i < T → σ 11 i 2 = nI (dl i) ∧ 1 ≤ dl i ∧ dl i ≤ 5000) (K : ∀ σ1, (∀ a, a ≠ 9 → σ1 a = σ a) → (∀ j, j < T → σ1 9 0 j = rsp (Fr wc per dl B) j) → Q (some (.int (lat (Fr wc per dl B) T))) σ1) : qa cst 42 0 [(0, .ref (cl 4 0)), (1, .ref (cl 1 0)), (2, .int (nI T))] [] σ Q := by
  refine qa_s (pc' := 1) at_42_0 rfl rfl rfl ?_
  refine qa_getR (nx := 4) at_42_1 rfl (by decide) rfl rfl (by decide) ?_
  refine qa_ic (nx := 5) (v := (-1)) at_42_4 (by decide) rfl ?_
  refine qa_callS (nx := 8) at_42_5 rfl rfl (Nat.le_of_ble_eq_true rfl) rfl rfl (by decide) rfl ?_
  show qa _ 36 0 [(0, .ref _), (1, .int _)] [] _ _
  refine c36_q (a := 9) (i := 0) rfl (by decide) (fun k => rfl) (by decide) ?_
  show qa _ 42 8 _ [] _ _
  refine qa_ic (nx := 9) (v := nI 0) at_42_8 (by decide) rfl ?_
  refine qa_s (pc' := 10) at_42_9 rfl rfl rfl ?_
  exact c42_l hT h8 h5 h11 hd K T 0 _ (by omega) rfl (fun a g => by funext i' j'; unfold fl; rw [if_neg (fun c => g c.1)]) (fun j hj => by unfold fl; rw [if_pos ⟨rfl, rfl, by show j < 5; omega⟩, if_neg (by omega)])
theorem c119_j (hi : i < T) (hT : T ≤ 5) (h55 : σ 55 0 i = nI (B i)) (h53 : ∀ j, j < T → σ 53 0 j = nI (wc j)) (h41 : ∀ j, j < T → σ 41 0 j = nI (per j) ∧ 1 ≤ per j ∧ per j ≤ 5000) (hd : σ 42 0 i = nI (dl i)) (hd1 : 1 ≤ dl i) (hd2 : dl i ≤ 5000) (hB : B i ≤ 834815914) (hw : wc i ≤ 834815912) (hwj : ∀ j, j < i → wc j ≤ 5000) (hn1 : 1 ≤ n) (hn : n ≤ 5000) (K : ∀ v, qa cst 119 81 [(0, .ref (cl 40 0)), (1, .int (nI i)), (2, .int (nI n)), (3, .long (lN (dm wc per (B i + wc i + 2) n i))), (5, .int v)] [] σ Q) : ∀ m j, j + m = i → qa cst 119 35 [(0, .ref (cl 40 0)), (1, .int (nI i)), (2, .int (nI n)), (3, .long (lN (dm wc per (B i + wc i + 2) n j))), (5, .int (nI j))] [] σ Q := by
  intro m
  induction m with
  | zero =>
    intro j hj
    obtain rfl : j = i := by omega
    refine qa_s (pc' := 37) at_119_35 rfl rfl rfl ?_
    refine qa_s (pc' := 38) at_119_37 rfl rfl rfl ?_
    refine qn_icmp_ge (tg := 81) (nx := 41) at_119_38 rfl rfl (by omega) (by omega) (fun h119_38 => ?_) (fun h119_38 => ?_)
    · exact K _
    · omega
  | succ m ih =>
    intro j hj
    obtain ⟨p1, p2, p3⟩ := h41 j (by omega)
    have w5 := h53 j (by omega)
    have w6 := hwj j (by omega)
    have hrl := rel_le hn1 p2
    refine qa_s (pc' := 37) at_119_35 rfl rfl rfl ?_
    refine qa_s (pc' := 38) at_119_37 rfl rfl rfl ?_
    refine qn_icmp_ge (tg := 81) (nx := 41) at_119_38 rfl rfl (by omega) (by omega) (fun h119_38 => ?_) (fun h119_38 => ?_)
    · omega
    · refine qa_s (pc' := 42) at_119_41 rfl rfl rfl ?_
      refine qa_s (pc' := 43) at_119_42 rfl rfl rfl ?_
      refine qa_s (pc' := 44) at_119_43 rfl rfl rfl ?_
      refine qa_getR (nx := 47) at_119_44 rfl (by decide) rfl rfl (by decide) ?_
      refine qa_s (pc' := 49) at_119_47 rfl rfl rfl ?_
      refine qa_ialdV (nx := 50) (k := j) (v := nI (per j)) at_119_49 rfl rfl rfl (by decide) rfl (show j < 5 by omega) (show _ from p1) ?_
      refine qa_addN (nx := 51) at_119_50 rfl ?_
      refine qa_ic (nx := 52) (v := nI 1) at_119_51 (by decide) rfl ?_
      refine qa_subN (nx := 53) at_119_52 rfl (by omega) ?_
      refine qa_s (pc' := 54) at_119_53 rfl rfl rfl ?_
      refine qa_getR (nx := 57) at_119_54 rfl (by decide) rfl rfl (by decide) ?_
      refine qa_s (pc' := 59) at_119_57 rfl rfl rfl ?_
      refine qa_ialdV (nx := 60) (k := j) (v := nI (per j)) at_119_59 rfl rfl rfl (by decide) rfl (show j < 5 by omega) (show _ from p1) ?_
      refine qa_divN (nx := 61) at_119_60 (by omega) (by omega) (by omega) rfl ?_
      refine qa_i2lN (nx := 62) at_119_61 (by omega) rfl ?_
      refine qa_s (pc' := 63) at_119_62 rfl rfl rfl ?_
      refine qa_getR (nx := 66) at_119_63 rfl (by decide) rfl rfl (by decide) ?_
      refine qa_s (pc' := 68) at_119_66 rfl rfl rfl ?_
      refine qa_ialdV (nx := 69) (k := j) (v := nI (wc j)) at_119_68 rfl rfl rfl (by decide) rfl (show j < 5 by omega) (show _ from w5) ?_
      refine qa_ic (nx := 70) (v := nI 4) at_119_69 (by decide) rfl ?_
      refine qa_addN (nx := 71) at_119_70 rfl ?_
      refine qa_i2lN (nx := 72) at_119_71 (by omega) rfl ?_
      refine qa_lmulN (nx := 73) at_119_72 rfl ?_
      refine qa_laddN (nx := 74) at_119_73 rfl ?_
      refine qa_s (pc' := 75) at_119_74 rfl rfl rfl ?_
      refine qa_incN (nx := 78) (c := 1) at_119_75 (by decide) rfl rfl rfl ?_
      refine qa_goto (nx := 35) at_119_78 rfl ?_
      exact ih (j + 1) (by omega)
theorem c119_l (hi : i < T) (hT : T ≤ 5) (h55 : σ 55 0 i = nI (B i)) (h53 : ∀ j, j < T → σ 53 0 j = nI (wc j)) (h41 : ∀ j, j < T → σ 41 0 j = nI (per j) ∧ 1 ≤ per j ∧ per j ≤ 5000) (hd : σ 42 0 i = nI (dl i)) (hd1 : 1 ≤ dl i) (hd2 : dl i ≤ 5000) (hB : B i ≤ 834815914) (hw : wc i ≤ 834815912) (hwj : ∀ j, j < i → wc j ≤ 5000) : ∀ m n, n + m = dl i + 1 → 1 ≤ n → Q (some (.int (fx (fun n => dm wc per (B i + wc i + 2) n i) m n))) σ → qa cst 119 2 [(0, .ref (cl 40 0)), (1, .int (nI i)), (2, .int (nI n))] [] σ Q := by
  have bd : ∀ n, 1 ≤ n → n ≤ 5000 → dm wc per (B i + wc i + 2) n i < 2 ^ 31 := fun n n1 n2 => Nat.lt_of_le_of_lt (dm_b n1 n2 hwj (fun j hj => (h41 j (by omega)).2.1) i (Nat.le_refl _)) (by omega)
  have w5 := h53 i hi
  intro m
  induction m with
  | zero =>
    intro n hn n1 K
    refine qa_s (pc' := 3) at_119_2 rfl rfl rfl ?_
    refine qa_s (pc' := 4) at_119_3 rfl rfl rfl ?_
    refine qa_getR (nx := 7) at_119_4 rfl (by decide) rfl rfl (by decide) ?_
    refine qa_s (pc' := 8) at_119_7 rfl rfl rfl ?_
    refine qa_ialdV (nx := 9) (k := i) (v := nI (dl i)) at_119_8 rfl rfl rfl (by decide) rfl (show i < 5 by omega) (show _ from hd) ?_
    refine qn_icmp_gt (tg := 96) (nx := 12) at_119_9 rfl rfl (by omega) (by omega) (fun h119_9 => ?_) (fun h119_9 => ?_)
    · refine qa_ic (nx := 97) (v := (-1)) at_119_96 (by decide) rfl ?_
      refine qa_ret at_119_97 rfl ?_
      exact K
    · omega
  | succ m ih =>
    intro n hn n1 K
    have hbn := bd n n1 (by omega)
    refine qa_s (pc' := 3) at_119_2 rfl rfl rfl ?_
    refine qa_s (pc' := 4) at_119_3 rfl rfl rfl ?_
    refine qa_getR (nx := 7) at_119_4 rfl (by decide) rfl rfl (by decide) ?_
    refine qa_s (pc' := 8) at_119_7 rfl rfl rfl ?_
    refine qa_ialdV (nx := 9) (k := i) (v := nI (dl i)) at_119_8 rfl rfl rfl (by decide) rfl (show i < 5 by omega) (show _ from hd) ?_
    refine qn_icmp_gt (tg := 96) (nx := 12) at_119_9 rfl rfl (by omega) (by omega) (fun h119_9 => ?_) (fun h119_9 => ?_)
    · omega
    · refine qa_s (pc' := 13) at_119_12 rfl rfl rfl ?_
      refine qa_getR (nx := 16) at_119_13 rfl (by decide) rfl rfl (by decide) ?_
      refine qa_s (pc' := 17) at_119_16 rfl rfl rfl ?_
      refine qa_ialdV (nx := 18) (k := i) (v := nI (B i)) at_119_17 rfl rfl rfl (by decide) rfl (show i < 5 by omega) (show _ from h55) ?_
      refine qa_i2lN (nx := 19) at_119_18 (by omega) rfl ?_
      refine qa_s (pc' := 20) at_119_19 rfl rfl rfl ?_
      refine qa_getR (nx := 23) at_119_20 rfl (by decide) rfl rfl (by decide) ?_
      refine qa_s (pc' := 24) at_119_23 rfl rfl rfl ?_
      refine qa_ialdV (nx := 25) (k := i) (v := nI (wc i)) at_119_24 rfl rfl rfl (by decide) rfl (show i < 5 by omega) (show _ from w5) ?_
      refine qa_i2lN (nx := 26) at_119_25 (by omega) rfl ?_
      refine qa_laddN (nx := 27) at_119_26 rfl ?_
      refine qa_s (pc' := 30) at_119_27 rfl rfl rfl ?_
      refine qa_laddN (nx := 31) at_119_30 rfl ?_
      refine qa_s (pc' := 32) at_119_31 rfl rfl rfl ?_
      refine qa_ic (nx := 33) (v := nI 0) at_119_32 (by decide) rfl ?_
      refine qa_s (pc' := 35) at_119_33 rfl rfl rfl ?_
      refine c119_j hi hT h55 h53 h41 hd hd1 hd2 hB hw hwj n1 (by omega) (fun v => ?_) i 0 (by omega)
      refine qa_s (pc' := 82) at_119_81 rfl rfl rfl ?_
      refine qa_s (pc' := 83) at_119_82 rfl rfl rfl ?_
      refine qa_i2lN (nx := 84) at_119_83 (by omega) rfl ?_
      refine qa_lcmpN (nx := 85) at_119_84 (by omega) (by omega) rfl (fun vc hvc => ?_)
      refine qa_if_ne (tg := 90) (nx := 88) at_119_85 rfl rfl (fun h119_85 => ?_) (fun h119_85 => ?_)
      · have hne : ¬ dm wc per (B i + wc i + 2) n i = n := fun e => h119_85 (hvc.mpr e)
        simp only [fx] at K
        rw [if_neg hne] at K
        refine qa_incN (nx := 93) (c := 1) at_119_90 (by decide) rfl rfl rfl ?_
        refine qa_goto (nx := 2) at_119_93 rfl ?_
        show qa _ _ _ [(0, .ref (cl 40 0)), (1, .int (nI i)), (2, .int (nI (n + 1))), (3, .long _), (5, .int _)] [] _ _
        exact qa_drop (l1 := [(0, .ref (cl 40 0)), (1, .int (nI i)), (2, .int (nI (n + 1)))]) (by intro q hq; simp only [List.mem_cons, List.not_mem_nil, or_false] at hq ⊢; rcases hq with rfl | rfl | rfl <;> simp) (by simp [mj_nd]) (ih (n + 1) (by omega) (by omega) K)
      · have heq : dm wc per (B i + wc i + 2) n i = n := hvc.mp h119_85
        simp only [fx] at K
        rw [if_pos heq] at K
        refine qa_s (pc' := 89) at_119_88 rfl rfl rfl ?_
        refine qa_ret at_119_89 rfl ?_
        exact K
theorem c119_q (hi : i < T) (hT : T ≤ 5) (h55 : σ 55 0 i = nI (B i)) (h53 : ∀ j, j < T → σ 53 0 j = nI (wc j)) (h41 : ∀ j, j < T → σ 41 0 j = nI (per j) ∧ 1 ≤ per j ∧ per j ≤ 5000) (hd : σ 42 0 i = nI (dl i)) (hd1 : 1 ≤ dl i) (hd2 : dl i ≤ 5000) (hB : B i ≤ 834815914) (hw : wc i ≤ 834815912) (hwj : ∀ j, j < i → wc j ≤ 5000) (K : Q (some (.int (Fr wc per dl B i))) σ) : qa cst 119 0 [(0, .ref (cl 40 0)), (1, .int (nI i))] [] σ Q := by
  refine qa_ic (nx := 1) (v := nI 1) at_119_0 (by decide) rfl ?_
  refine qa_s (pc' := 2) at_119_1 rfl rfl rfl ?_
  exact c119_l hi hT h55 h53 h41 hd hd1 hd2 hB hw hwj (dl i) 1 (by omega) (by decide) K
end PQ
