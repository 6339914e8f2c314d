/-! run: an instruction of the class is finished -/
section PQ
variable {cst : List (List Int32)} {σ b : sg} {Q : Option Value → sg → Prop} {T j r k z : Nat}
def stC (σ : sg) (j k : Nat) : sg := up (up (up σ 29 j 12 (nI 0)) 29 j 6 (σ 29 j 6 + nI 1)) 29 j 11 (nI (k + 1))
theorem c75_s {o x : Nat} {y : Int32} (hj5 : j < 5) (hr : r < 3) (hk : k < 12) (e10 : σ 29 j 10 = nI r) (e11 : σ 29 j 11 = nI k) (e14 : σ 14 (3 * j + r) k = nI o) (e15 : σ 15 (3 * j + r) k = nI x) (e16 : σ 16 (3 * j + r) k = y) (h : qa cst 75 40 [(0, .ref (cl 18 0)), (1, .int (nI j)), (2, .ref (cl 29 j)), (3, .ref (cl 13 (3 * j + r))), (4, .int (nI k)), (5, .int (nI x)), (6, .int y)] [.int (nI o)] (stC σ j k) Q) : qa cst 75 0 [(0, .ref (cl 18 0)), (1, .int (nI j)), (2, .ref (cl 29 j))] [] σ Q := by
  refine qa_s (pc' := 1) at_75_0 rfl rfl rfl ?_
  refine qa_callV (nx := 4) at_75_1 rfl rfl (Nat.le_of_ble_eq_true rfl) rfl rfl rfl (by decide) rfl (show _ < 5 by omega) ?_
  show qa _ 76 0 [(0, .ref _)] [] _ _
  refine qa_s (pc' := 1) at_76_0 rfl rfl rfl ?_
  refine qa_getR (nx := 4) at_76_1 rfl (by decide) rfl rfl (show _ < 5 by omega) ?_
  refine qa_s (pc' := 5) at_76_4 rfl rfl rfl ?_
  refine qa_getV (nx := 8) (v := nI r) at_76_5 rfl (by decide) rfl rfl (show _ < 5 by omega) (show _ from e10) ?_
  refine qa_aald (nx := 9) (k := r) at_76_8 (by decide) rfl rfl (show _ < 5 by omega) rfl (show r < 3 by omega) ?_
  refine qa_ret at_76_9 rfl ?_
  show qa _ 75 4 _ [.ref _] _ _
  refine qa_s (pc' := 5) at_75_4 rfl rfl rfl ?_
  refine qa_s (pc' := 6) at_75_5 rfl rfl rfl ?_
  refine qa_callV (nx := 9) at_75_6 rfl rfl (Nat.le_of_ble_eq_true rfl) rfl rfl rfl (by decide) rfl (show _ < 5 by omega) ?_
  show qa _ 77 0 [(0, .ref _)] [] _ _
  refine qa_s (pc' := 1) at_77_0 rfl rfl rfl ?_
  refine qa_getV (nx := 4) (v := nI k) at_77_1 rfl (by decide) rfl rfl (show _ < 5 by omega) (show _ from e11) ?_
  refine qa_ret at_77_4 rfl ?_
  show qa _ 75 9 _ [.int _] _ _
  refine qa_s (pc' := 11) at_75_9 rfl rfl rfl ?_
  refine qa_s (pc' := 12) at_75_11 rfl rfl rfl ?_
  refine qa_getR (nx := 15) at_75_12 rfl (by decide) rfl rfl (show _ < 15 by omega) ?_
  refine qa_s (pc' := 17) at_75_15 rfl rfl rfl ?_
  refine qa_ialdV (nx := 18) (k := k) (v := nI x) at_75_17 rfl rfl rfl (show _ < 15 by omega) rfl (show k < 12 by omega) (show _ from e15) ?_
  refine qa_s (pc' := 20) at_75_18 rfl rfl rfl ?_
  refine qa_s (pc' := 21) at_75_20 rfl rfl rfl ?_
  refine qa_getR (nx := 24) at_75_21 rfl (by decide) rfl rfl (show _ < 15 by omega) ?_
  refine qa_s (pc' := 26) at_75_24 rfl rfl rfl ?_
  refine qa_ialdV (nx := 27) (k := k) (v := y) at_75_26 rfl rfl rfl (show _ < 15 by omega) rfl (show k < 12 by omega) (show _ from e16) ?_
  refine qa_s (pc' := 29) at_75_27 rfl rfl rfl ?_
  refine qa_s (pc' := 30) at_75_29 rfl rfl rfl ?_
  refine qa_callV (nx := 33) at_75_30 rfl rfl (Nat.le_of_ble_eq_true rfl) rfl rfl rfl (by decide) rfl (show _ < 5 by omega) ?_
  show qa _ 78 0 [(0, .ref _)] [] _ _
  refine qa_s (pc' := 1) at_78_0 rfl rfl rfl ?_
  refine qa_ic (nx := 2) (v := nI 0) at_78_1 (by decide) rfl ?_
  refine qa_put (nx := 5) at_78_2 rfl (by decide) rfl rfl rfl (show _ < 5 by omega) ?_
  refine qa_s (pc' := 6) at_78_5 rfl rfl rfl ?_
  refine qa_s (pc' := 7) at_78_6 rfl rfl rfl ?_
  refine qa_getV (nx := 10) (v := σ 29 j 6) at_78_7 rfl (by decide) rfl rfl (show _ < 5 by omega) (show _ from by simp [up]) ?_
  refine qa_ic (nx := 11) (v := nI 1) at_78_10 (by decide) rfl ?_
  refine qa_s (pc' := 12) at_78_11 rfl rfl rfl ?_
  refine qa_put (nx := 15) at_78_12 rfl (by decide) rfl rfl rfl (show _ < 5 by omega) ?_
  refine qa_s (pc' := 16) at_78_15 rfl rfl rfl ?_
  refine qa_s (pc' := 17) at_78_16 rfl rfl rfl ?_
  refine qa_getV (nx := 20) (v := nI k) at_78_17 rfl (by decide) rfl rfl (show _ < 5 by omega) (show _ from by simp [up]; exact e11) ?_
  refine qa_ic (nx := 21) (v := nI 1) at_78_20 (by decide) rfl ?_
  refine qa_addN (nx := 22) at_78_21 rfl ?_
  refine qa_put (nx := 25) at_78_22 rfl (by decide) rfl rfl rfl (show _ < 5 by omega) ?_
  refine qa_ret at_78_25 rfl ?_
  show qa _ 75 33 _ [] _ _
  refine qa_s (pc' := 34) at_75_33 rfl rfl rfl ?_
  refine qa_getR (nx := 37) at_75_34 rfl (by decide) rfl rfl (show _ < 15 by omega) ?_
  refine qa_s (pc' := 39) at_75_37 rfl rfl rfl ?_
  refine qa_ialdV (nx := 40) (k := k) (v := nI o) at_75_39 rfl rfl rfl (show _ < 15 by omega) rfl (show k < 12 by omega) (show _ from e14) ?_
  exact h
theorem c75_all {o x : Nat} {y : Int32} (hP : Pre T j r k z o x y σ b) (ho : o < 15) (hok : o = 0 ∨ ∃ y' : Nat, y = nI y' ∧ y' ≤ ([0, 3, 3, 7, 7, 11, 8, 0, 3, 0, 2, 1, 0, 1, 1] : List Nat).getD o 0) (K2 : o = 2 → σ 30 j (nN y) = 0 → Q none (up σ 29 j 2 (nI 1))) (K : ¬ (o = 2 ∧ σ 30 j (nN y) = 0) → ∀ σ1, Rn T j (mix σ1 (opM b j ((3 * j + r) * 12 + k) o x y)) → (∃ r' k' z', Md (mix σ1 (opM b j ((3 * j + r) * 12 + k) o x y)) j 3 r' k' z') → fr σ1 σ → Q none σ1) : qa cst 75 40 [(0, .ref (cl 18 0)), (1, .int (nI j)), (2, .ref (cl 29 j)), (3, .ref (cl 13 (3 * j + r))), (4, .int (nI k)), (5, .int (nI x)), (6, .int y)] [.int (nI o)] σ Q := by
  have hoc : o = 0 ∨ o = 1 ∨ o = 2 ∨ o = 3 ∨ o = 4 ∨ o = 5 ∨ o = 6 ∨ o = 7 ∨ o = 8 ∨ o = 9 ∨ o = 10 ∨ o = 11 ∨ o = 12 ∨ o = 13 ∨ o = 14 := by omega
  rcases hoc with rfl | rfl | rfl | rfl | rfl | rfl | rfl | rfl | rfl | rfl | rfl | rfl | rfl | rfl | rfl
  · exact pc0_q hP (K (fun g => absurd g.1 (by decide)))
  · obtain ⟨y, rfl, hy⟩ := hok.resolve_left (by decide)
    replace hy : y ≤ 3 := hy
    exact pc1_q hP hy (K (fun g => absurd g.1 (by decide)))
  · obtain ⟨y, rfl, hy⟩ := hok.resolve_left (by decide)
    replace hy : y ≤ 3 := hy
    rw [nN_n (show y < 2 ^ 31 by omega)] at K K2
    exact pc2_q hP hy (fun hz σ1 e => by rw [e]; exact K2 rfl hz) (fun hz => K (fun g => hz g.2))
  · obtain ⟨y, rfl, hy⟩ := hok.resolve_left (by decide)
    replace hy : y ≤ 7 := hy
    exact pc3_q hP hy (K (fun g => absurd g.1 (by decide)))
  · obtain ⟨y, rfl, hy⟩ := hok.resolve_left (by decide)
    replace hy : y ≤ 7 := hy
    exact pc4_q hP hy (K (fun g => absurd g.1 (by decide)))
  · obtain ⟨y, rfl, hy⟩ := hok.resolve_left (by decide)
    replace hy : y ≤ 11 := hy
    exact pc5_q hP hy (K (fun g => absurd g.1 (by decide)))
  · obtain ⟨y, rfl, hy⟩ := hok.resolve_left (by decide)
    replace hy : y ≤ 8 := hy
    exact pc6_q hP hy (K (fun g => absurd g.1 (by decide)))
  · exact pc7_q hP (K (fun g => absurd g.1 (by decide)))
  · obtain ⟨y, rfl, hy⟩ := hok.resolve_left (by decide)
    replace hy : y ≤ 3 := hy
    exact pc8_q hP hy (K (fun g => absurd g.1 (by decide)))
  · exact pc9_q hP (K (fun g => absurd g.1 (by decide)))
  · obtain ⟨y, rfl, hy⟩ := hok.resolve_left (by decide)
    replace hy : y ≤ 2 := hy
    exact pc10_q hP hy (K (fun g => absurd g.1 (by decide)))
  · obtain ⟨y, rfl, hy⟩ := hok.resolve_left (by decide)
    replace hy : y ≤ 1 := hy
    exact pc11_q hP hy (K (fun g => absurd g.1 (by decide)))
  · exact pc12_q hP (K (fun g => absurd g.1 (by decide)))
  · obtain ⟨y, rfl, hy⟩ := hok.resolve_left (by decide)
    replace hy : y ≤ 1 := hy
    exact pc13_q hP hy (K (fun g => absurd g.1 (by decide)))
  · obtain ⟨y, rfl, hy⟩ := hok.resolve_left (by decide)
    replace hy : y ≤ 1 := hy
    exact pc14_q hP hy (K (fun g => absurd g.1 (by decide)))
/-- a job that is about to finish an instruction -/
def Jb (σ : sg) (j r k z o : Nat) : Prop := σ 29 j 0 = 1 ∧ σ 29 j 2 = 0 ∧ hldOk σ j ∧ σ 29 j 1 = 1 ∧ σ 61 0 j = σ 29 j 7 ∧ (∃ u : Nat, u ≤ 1 ∧ σ 29 j 7 = nI u) ∧ r < 3 ∧ σ 29 j 10 = nI r ∧ σ 29 j 11 = nI k ∧ σ 13 (3 * j + r) 4 = nI z ∧ z ≤ 12 ∧ k < z ∧ chainOk σ j 3 r ∧ o < 15 ∧ σ 14 (3 * j + r) k = nI o
theorem Pre_of {o : Nat} (hjT : j < T) (hN : Rn T j (mix σ b)) (hJ : Jb (mix σ b) j r k z o) : ∃ (x : Nat) (y : Int32), x ≤ 3 ∧ σ 15 (3 * j + r) k = nI x ∧ σ 16 (3 * j + r) k = y ∧ (o = 0 ∨ ∃ y' : Nat, y = nI y' ∧ y' ≤ ([0, 3, 3, 7, 7, 11, 8, 0, 3, 0, 2, 1, 0, 1, 1] : List Nat).getD o 0) ∧ b 44 0 ((3 * j + r) * 12 + k) = nI o ∧ b 45 0 ((3 * j + r) * 12 + k) = nI x ∧ b 46 0 ((3 * j + r) * 12 + k) = y ∧ Pre T j r k z o x y (stC σ j k) (stpM (up b 62 0 j (nI 0)) j) := by
  obtain ⟨m0, m2, mh, m1, m61, mu, hr, e10, e11, e13, hz, hkz, hch, ho, e14⟩ := hJ
  have h5 : T ≤ 5 := hN.1.1.1
  have hj5 : j < 5 := by omega
  obtain ⟨f44, f45, f46, o', x, ho', eo', hx, ex, -, hy⟩ := (hN.1.2.2.1 (3 * j + r) (by omega)).2 k (by omega)
  have eo : o' = o := (nI_eq (by omega) (by omega)).mp (eo'.symm.trans e14)
  subst eo
  have jj := hN.2.1.2.1 j hj5
  have e63 : b 63 0 j = σ 29 j 6 := jj.2.2.2.1
  have e66 : b 66 0 j = nI k := jj.2.2.2.2.2.2.1.trans e11
  refine ⟨x, σ 16 (3 * j + r) k, hx, ex, rfl, ?_, (show b 44 0 _ = _ from f44).trans e14, (show b 45 0 _ = _ from f45).trans ex, f46, hjT, ?_, ?_, e14, ex, hx, rfl⟩
  · rcases hy with hy | ⟨y', g1, g2, g3⟩
    · exact Or.inl hy
    · exact Or.inr ⟨y', g1, g3⟩
  · have e : stpM (up b 62 0 j (nI 0)) j = up (up (up b 62 0 j (nI 0)) 63 0 j (σ 29 j 6 + nI 1)) 66 0 j (nI (k + 1)) := by
      unfold stpM
      rw [show up b 62 0 j (nI 0) 63 0 j = σ 29 j 6 from e63, show up b 62 0 j (nI 0) 66 0 j = nI k from e66, nI_add]
    rw [e]
    exact at_f11 (at_f6 (at_f12 hN))
  · unfold stC stpM
    refine ⟨⟨?_, ?_, ?_, hldOk_of (σ := mix σ b) rfl ?_ ?_ mh, ?_, ?_, ?_⟩, hr, ?_, ?_, e13, hz, hkz, Eq.mpr (chainOk_congr (σ := mix σ b) (by rfl) (by rfl) (by rfl) j 3 r) hch⟩
    · simp [mix, up]; exact m0
    · simp [mix, up]; exact m2
    · simp [mix, up]
    · simp [mix, up]
    · simp [mix, up]
    · simp [mix, up]; exact m1
    · simp [mix, up]; exact m61
    · simp [mix, up]; exact mu
    · simp [mix, up]; exact e10
    · simp [mix, up]
theorem JobOk_Md {μ : sg} {x : Nat} (h5 : T ≤ 5) (hj : j < T) (hN : Rn T x μ) (hM : Md μ j 3 r k z) (hk : k < z) : JobOk μ j := by
  obtain ⟨⟨m0, m2, m12, mh, m1, m61, mu⟩, hr, e10, e11, e13, hz, hkz, hch⟩ := hM
  obtain ⟨-, -, -, o, x, ho, eo, -⟩ := (hN.1.2.2.1 (3 * j + r) (by omega)).2 k (by omega)
  exact ⟨m2, ⟨r, k, z, o, hr, e10, e11, e13, hz, hk, hch, eo, ho, 0, m12, cost_pos o ho⟩, mh, Or.inr m1, fun _ => ⟨m61, mu⟩⟩
theorem finM_0 (hj : j < 5) {x : Nat} (hN : Rn T x (mix σ b)) (hM : Md (mix σ b) j 3 r k z) (hk : k < z) : finM b j = b := by
  obtain ⟨-, hr, e10, e11, e13, hz, hkz, hch⟩ := hM
  have jj := hN.2.1.2.1 j hj
  have e65 : b 65 0 j = nI r := jj.2.2.2.2.2.1.trans e10
  have e66 : b 66 0 j = nI k := jj.2.2.2.2.2.2.1.trans e11
  obtain ⟨s', hs', f1, f2⟩ := (hN.1.2.2.1 (3 * j + r) (by omega)).1
  have e48 : b 48 0 (3 * j + r) = nI z := f2.trans (f1.symm.trans e13)
  rw [finM, if_neg]
  rintro ⟨g1, g2⟩
  rw [e65] at g1
  have hr0 : r = 0 := (nI_eq0 (by omega)).mp g1
  subst hr0
  rw [e66] at g2
  have := (nI_eq (by omega) (by omega)).mp (g2.trans e48)
  omega
theorem finM_1 (hj : j < 5) {x : Nat} (hN : Rn T x (mix σ b)) (hM : Md (mix σ b) j 3 r k z) (hk : ¬ k < z) (hr0 : r = 0) : finM b j = endM b j (nI 2) := by
  obtain ⟨-, hr, e10, e11, e13, hz, hkz, hch⟩ := hM
  have jj := hN.2.1.2.1 j hj
  have e65 : b 65 0 j = nI r := jj.2.2.2.2.2.1.trans e10
  have e66 : b 66 0 j = nI k := jj.2.2.2.2.2.2.1.trans e11
  obtain ⟨s', hs', f1, f2⟩ := (hN.1.2.2.1 (3 * j + r) (by omega)).1
  have e48 : b 48 0 (3 * j + r) = nI z := f2.trans (f1.symm.trans e13)
  subst hr0
  have ek : k = z := by omega
  rw [finM, if_pos ⟨by rw [e65]; rfl, by rw [e66, ek]; exact e48.symm⟩]
theorem c74_n (hjT : j < T) (hN : Rn T j (mix σ b)) (hM : Md (mix σ b) j 3 r k z) (K : ∀ σ1, Rel T (mix σ1 (finM (retM b j 3) j)) → fr σ1 σ → σ1 18 0 0 = 1 → Q none σ1) : qa cst 74 6 [(0, .ref (cl 18 0)), (1, .int (nI j)), (2, .ref (cl 29 j))] [] σ Q := by
  have h5 : T ≤ 5 := hN.1.1.1
  have hj5 : j < 5 := by omega
  refine qa_s (pc' := 7) at_74_6 rfl rfl rfl ?_
  refine qa_getV (nx := 10) (v := nI 0) at_74_7 rfl (by decide) rfl rfl (show _ < 5 by omega) (show _ from (show σ 29 j 2 = nI 0 from hM.1.2.1)) ?_
  refine qn_if_eq (tg := 22) (nx := 13) at_74_10 rfl rfl (by decide) (fun h74_10 => ?_) (fun h => absurd h (by decide))
  refine qa_s (pc' := 23) at_74_22 rfl rfl rfl ?_
  refine qa_callV (nx := 26) at_74_23 rfl rfl (Nat.le_of_ble_eq_true rfl) rfl rfl rfl (by decide) rfl (show _ < 5 by omega) ?_
  show qa _ 90 0 [(0, .ref _)] [] _ _
  refine c90_q hjT hN hM (fun σ2 r' k' z' f1 f2 f3 f4 => ?_)
  show qa _ 74 26 _ [.int _] _ _
  refine qa_if_eq (tg := 35) (nx := 29) at_74_26 rfl rfl (fun h74_26 => ?_) (fun h74_26 => ?_)
  · refine qa_ret at_74_35 rfl ?_
    first | exact K σ3 (by rw [finM_1 hj5 f1 f2 (bi_n h74_26) (f3.resolve_left (bi_n h74_26))]; exact g1) (fr_trans g2 f4) g3 | exact K σ2 (by have hkz : k' < z' := Decidable.not_not.mp (bi_z h74_26); rw [finM_0 hj5 f1 f2 hkz]; exact Rel_of f1 (fun _ _ => JobOk_Md h5 hjT f1 f2 hkz)) f4 f1.1.2.2.2.2.2.1
  · refine qa_s (pc' := 30) at_74_29 rfl rfl rfl ?_
    refine qa_s (pc' := 31) at_74_30 rfl rfl rfl ?_
    refine qa_ic (nx := 32) (v := nI 2) at_74_31 (by decide) rfl ?_
    refine qa_callV (nx := 35) at_74_32 rfl rfl (Nat.le_of_ble_eq_true rfl) rfl rfl rfl (by decide) rfl (by decide) ?_
    show qa _ 89 0 [(0, .ref _), (1, .int _), (2, .int _)] [] _ _
    refine c89_q hjT f1 (fun σ3 g1 g2 g3 => ?_)
    show qa _ 74 35 _ [] _ _
    refine qa_ret at_74_35 rfl ?_
    first | exact K σ3 (by rw [finM_1 hj5 f1 f2 (bi_n h74_26) (f3.resolve_left (bi_n h74_26))]; exact g1) (fr_trans g2 f4) g3 | exact K σ2 (by have hkz : k' < z' := Decidable.not_not.mp (bi_z h74_26); rw [finM_0 hj5 f1 f2 hkz]; exact Rel_of f1 (fun _ _ => JobOk_Md h5 hjT f1 f2 hkz)) f4 f1.1.2.2.2.2.2.1
theorem c74_q {o : Nat} (hjT : j < T) (hN : Rn T j (mix σ b)) (hJ : Jb (mix σ b) j r k z o) (K : ∀ σ1, Rel T (mix σ1 (pfM (up b 62 0 j (nI 0)) j ((3 * j + r) * 12 + k))) → fr σ1 σ → σ1 18 0 0 = 1 → Q none σ1) : qa cst 74 0 [(0, .ref (cl 18 0)), (1, .int (nI j)), (2, .ref (cl 29 j))] [] σ Q := by
  have h5 : T ≤ 5 := hN.1.1.1
  have hj5 : j < 5 := by omega
  obtain ⟨x, y, hx, e15, e16, hok, b44, b45, b46, hPre⟩ := Pre_of hjT hN hJ
  obtain ⟨m0, m2, mh, m1, m61, mu, hr, e10, e11, e13, hz, hkz, hch, ho, e14⟩ := hJ
  have hrg : ∀ q, q < 4 → b 70 0 (4 * j + q) = σ 30 j q := (hN.2.1.2.1 j hj5).2.2.2.2.2.2.2.1
  have hfr : fr (stC σ j k) σ := fr_up (by decide) (fr_up (by decide) (fr_up (by decide) fr_refl))
  have hpf : pfM (up b 62 0 j (nI 0)) j ((3 * j + r) * 12 + k) = if o = 2 ∧ b 70 0 (4 * j + nN y) = 0 then endM (stpM (up b 62 0 j (nI 0)) j) j (nI 3) else finM (retM (opM (stpM (up b 62 0 j (nI 0)) j) j ((3 * j + r) * 12 + k) o x y) j 3) j := by
    unfold pfM
    rw [show up b 62 0 j (nI 0) 44 0 ((3 * j + r) * 12 + k) = nI o from b44, show up b 62 0 j (nI 0) 45 0 ((3 * j + r) * 12 + k) = nI x from b45, show up b 62 0 j (nI 0) 46 0 ((3 * j + r) * 12 + k) = y from b46, nN_n (by omega), nN_n (by omega)]
    have e : (nI o = nI 2 ∧ up b 62 0 j (nI 0) 70 0 (4 * j + nN y) = 0) ↔ (o = 2 ∧ b 70 0 (4 * j + nN y) = 0) := by
      rw [nI_eq (by omega) (by decide)]; exact Iff.rfl
    by_cases g : o = 2 ∧ b 70 0 (4 * j + nN y) = 0
    · rw [if_pos g, if_pos (e.mpr g)]
    · rw [if_neg g, if_neg (fun f => g (e.mp f))]
  have hny : o = 2 → nN y < 4 := by
    intro g
    subst g
    obtain ⟨y', rfl, hy'⟩ := hok.resolve_left (by decide)
    replace hy' : y' ≤ 3 := hy'
    rw [nN_n (by omega)]; omega
  have hzz : (o = 2 ∧ b 70 0 (4 * j + nN y) = 0) ↔ (o = 2 ∧ σ 30 j (nN y) = 0) := by
    constructor
    · rintro ⟨g1, g2⟩; exact ⟨g1, by rw [← hrg _ (hny g1)]; exact g2⟩
    · rintro ⟨g1, g2⟩; exact ⟨g1, by rw [hrg _ (hny g1)]; exact g2⟩
  refine qa_s (pc' := 1) at_74_0 rfl rfl rfl ?_
  refine qa_s (pc' := 2) at_74_1 rfl rfl rfl ?_
  refine qa_s (pc' := 3) at_74_2 rfl rfl rfl ?_
  refine qa_callV (nx := 6) at_74_3 rfl rfl (Nat.le_of_ble_eq_true rfl) rfl rfl rfl (by decide) rfl (by decide) ?_
  show qa _ 75 0 [(0, .ref _), (1, .int _), (2, .ref _)] [] _ _
  refine c75_s hj5 hr (by omega) e10 e11 e14 e15 e16 ?_
  refine c75_all hPre ho hok (fun h2 hz0 => ?_) (fun hnz σ1 g1 g2 g3 => ?_)
  · show qa _ 74 6 [(0, .ref (cl 18 0)), (1, .int (nI j)), (2, .ref (cl 29 j))] [] _ _
    refine qa_s (pc' := 7) at_74_6 rfl rfl rfl ?_
    refine qa_getV (nx := 10) (v := nI 1) at_74_7 rfl (by decide) rfl rfl (show _ < 5 by omega) (show _ from by simp [up]) ?_
    refine qn_if_eq (tg := 22) (nx := 13) at_74_10 rfl rfl (by decide) (fun h => absurd h (by decide)) (fun h74_10 => ?_)
    refine qa_s (pc' := 14) at_74_13 rfl rfl rfl ?_
    refine qa_s (pc' := 15) at_74_14 rfl rfl rfl ?_
    refine qa_ic (nx := 16) (v := nI 3) at_74_15 (by decide) rfl ?_
    refine qa_callV (nx := 19) at_74_16 rfl rfl (Nat.le_of_ble_eq_true rfl) rfl rfl rfl (by decide) rfl (by decide) ?_
    show qa _ 89 0 [(0, .ref _), (1, .int _), (2, .int _)] [] _ _
    refine c89_q hjT (at_c2 hPre.2.1) (fun σ3 g1 g2 g3 => ?_)
    show qa _ 74 19 _ [] _ _
    refine qa_goto (nx := 35) at_74_19 rfl ?_
    refine qa_ret at_74_35 rfl ?_
    exact K σ3 (by rw [hpf, if_pos (hzz.mpr ⟨h2, hz0⟩)]; exact g1) (fr_trans g2 (fr_up (by decide) hfr)) g3
  · obtain ⟨r', k', z', g2⟩ := g2
    rw [if_neg (fun f => hnz (hzz.mp f))] at hpf
    exact c74_n hjT g1 g2 (fun σ2 f1 f2 f3 => K σ2 (by rw [hpf]; exact f1) (fr_trans f2 (fr_trans g3 hfr)) f3)
end PQ
