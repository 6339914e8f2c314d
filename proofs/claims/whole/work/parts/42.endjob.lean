/-! run: the end of a job, the way back from routines, resources -/
section PQ
variable {cst : List (List Int32)} {σ b : sg} {Q : Option Value → sg → Prop} {T : Nat}
theorem up_ck {σ : sg} {a i j a' i' j' : Nat} {v v' : Int32} (h : a ≠ a') : up (up σ a i j v) a' i' j' v' = up (up σ a' i' j' v') a i j v := by
  funext x y z
  simp only [up]
  by_cases h1 : x = a
  · have h2 : ¬ x = a' := fun g => h (h1.symm.trans g)
    subst h1
    simp [h2]
  · simp [h1]
theorem endM_e {j : Nat} {kd : Int32} : endM σ j kd = entM (up (up (up (up σ 40 0 24 (-1)) 58 0 j (nI 0)) 74 0 j (if σ 74 0 j < σ 40 0 22 - σ 60 0 j then σ 40 0 22 - σ 60 0 j else σ 74 0 j)) 40 0 26 (if σ 42 0 j < σ 40 0 22 - σ 60 0 j then σ 40 0 26 + nI 1 else σ 40 0 26)) kd (nI j) (σ 40 0 22 - σ 60 0 j) := by
  unfold endM entM
  generalize (if σ 74 0 j < σ 40 0 22 - σ 60 0 j then σ 40 0 22 - σ 60 0 j else σ 74 0 j) = v1
  generalize (if σ 42 0 j < σ 40 0 22 - σ 60 0 j then σ 40 0 26 + nI 1 else σ 40 0 26) = v2
  generalize σ 40 0 22 - σ 60 0 j = v3
  show _ = up (up (up (up (up (up (up (up (up σ 40 0 24 (-1)) 58 0 j (nI 0)) 74 0 j v1) 40 0 26 v2) 78 0 (jsl (σ 40 0 29)) kd) 79 0 (jsl (σ 40 0 29)) (nI j)) 80 0 (jsl (σ 40 0 29)) (σ 40 0 22)) 81 0 (jsl (σ 40 0 29)) v3) 40 0 29 (σ 40 0 29 + nI 1)
  generalize jsl (σ 40 0 29) = s
  funext x y z
  by_cases h1 : x = 40
  · subst h1
    by_cases h2 : y = 0
    · subst h2
      have hj : z = 24 ∨ z = 26 ∨ z = 29 ∨ (z ≠ 24 ∧ z ≠ 26 ∧ z ≠ 29) := by omega
      rcases hj with rfl | rfl | rfl | ⟨g1, g2, g3⟩
      all_goals first | (simp [up]; done) | simp [up, *]
    · simp [up, h2]
  · by_cases h2 : x = 58
    · subst h2; simp [up]
    · by_cases h3 : x = 74
      · subst h3; simp [up]
      · simp [up, h1, h2, h3]
/-- a job ends -/
theorem c89_q {j : Nat} {kd : Int32} (hj : j < T) (hN : Rn T j (mix σ b)) (k : ∀ σ1, Rel T (mix σ1 (endM b j kd)) → fr σ1 σ → σ1 18 0 0 = 1 → Q none σ1) : qa cst 89 0 [(0, .ref (cl 18 0)), (1, .int (nI j)), (2, .int kd)] [] σ Q := by
  have h5 : T ≤ 5 := hN.1.1.1
  have hj5 : j < 5 := by omega
  have h1 : σ 18 0 0 = 1 := hN.1.2.2.2.2.2.1
  have e22 : b 40 0 22 = σ 18 0 7 := hN.2.2.1.1
  have e26 : b 40 0 26 = σ 18 0 11 := hN.2.2.1.2.2.2.2.1
  have e60 : b 60 0 j = σ 29 j 5 := (hN.2.1.2.1 j hj5).2.1
  have e74 : b 74 0 j = σ 27 j 3 := (hN.2.2.2.2.2.1 j hj).2.2.1
  have e42 : b 42 0 j = σ 11 j 2 := (hN.1.2.1 j hj).2.1
  have key : ∀ w, (w = if σ 11 j 2 < σ 18 0 7 - σ 29 j 5 then σ 18 0 11 + nI 1 else σ 18 0 11) → Q none (entC (up (up (up (up σ 29 j 0 (nI 0)) 18 0 8 (-1)) 27 j 3 (if σ 27 j 3 < σ 18 0 7 - σ 29 j 5 then σ 18 0 7 - σ 29 j 5 else σ 27 j 3)) 18 0 11 w) kd (nI j) (σ 18 0 7) (σ 18 0 7 - σ 29 j 5)) := by
    intro w hw
    refine k _ ?_ (fr_trans entC_fr (fr_up (by decide) (fr_up (by decide) (fr_up (by decide) (fr_up (by decide) fr_refl))))) h1
    rw [endM_e, e22, e60, e74, e42, e26, ← hw, up_ck (a := 29) (by decide)]
    refine Rel_of (x := j) (at_jn (σ := up (up (up (up σ 18 0 8 (-1)) 29 j 0 (nI 0)) 27 j 3 _) 18 0 11 w) (at_s11 (at_top (at_a0 rfl (at_hn hN))))) (fun _ h => ?_)
    exfalso
    revert h
    show ¬ up (up σ 18 0 8 (-1)) 29 j 0 (nI 0) 29 j 0 = 1
    rw [up_s]
    decide
  refine qa_s (pc' := 1) at_89_0 rfl rfl rfl ?_
  refine qa_getR (nx := 4) at_89_1 rfl (by decide) rfl rfl (by decide) ?_
  refine qa_s (pc' := 5) at_89_4 rfl rfl rfl ?_
  refine qa_aald (nx := 6) (k := j) at_89_5 (by decide) rfl rfl (by decide) rfl (show j < 5 by omega) ?_
  refine qa_s (pc' := 7) at_89_6 rfl rfl rfl ?_
  refine qa_s (pc' := 8) at_89_7 rfl rfl rfl ?_
  refine qa_getI (nx := 11) at_89_8 rfl (by decide) rfl rfl (by decide) ?_
  refine qa_s (pc' := 12) at_89_11 rfl rfl rfl ?_
  refine qa_getR (nx := 15) at_89_12 rfl (by decide) rfl rfl (show _ < 5 by omega) ?_
  refine qa_getI (nx := 18) at_89_15 rfl (by decide) rfl rfl (show _ < 5 by omega) ?_
  refine qa_s (pc' := 19) at_89_18 rfl rfl rfl ?_
  refine qa_s (pc' := 21) at_89_19 rfl rfl rfl ?_
  refine qa_s (pc' := 22) at_89_21 rfl rfl rfl ?_
  refine qa_getR (nx := 25) at_89_22 rfl (by decide) rfl rfl (show _ < 5 by omega) ?_
  refine qa_ic (nx := 26) (v := nI 0) at_89_25 (by decide) rfl ?_
  refine qa_put (nx := 29) at_89_26 rfl (by decide) rfl (by decide) rfl (show _ < 5 by omega) ?_
  refine qa_s (pc' := 30) at_89_29 rfl rfl rfl ?_
  refine qa_ic (nx := 31) (v := (-1)) at_89_30 (by decide) rfl ?_
  refine qa_put (nx := 34) at_89_31 rfl (by decide) rfl rfl rfl (by decide) ?_
  refine qa_s (pc' := 35) at_89_34 rfl rfl rfl ?_
  refine qa_s (pc' := 36) at_89_35 rfl rfl rfl ?_
  refine qa_getI (nx := 39) at_89_36 rfl (by decide) rfl rfl (show _ < 5 by omega) ?_
  refine qa_s (pc' := 41) at_89_39 rfl rfl rfl ?_
  refine qa_max (nx := 44) at_89_41 rfl rfl ?_
  refine qa_put (nx := 47) at_89_44 rfl (by decide) rfl rfl rfl (show _ < 5 by omega) ?_
  refine qa_s (pc' := 49) at_89_47 rfl rfl rfl ?_
  refine qa_s (pc' := 50) at_89_49 rfl rfl rfl ?_
  refine qa_getR (nx := 53) at_89_50 rfl (by decide) rfl rfl (show _ < 5 by omega) ?_
  refine qa_getI (nx := 56) at_89_53 rfl (by decide) rfl rfl (show _ < 5 by omega) ?_
  refine qa_icmp_le (tg := 69) (nx := 59) at_89_56 rfl rfl (fun h89_56 => ?_) (fun h89_56 => ?_)
  · have g56 : σ 18 0 7 - σ 29 j 5 ≤ σ 11 j 2 := h89_56
    have hw : ¬ σ 11 j 2 < σ 18 0 7 - σ 29 j 5 := by simp only [Int32.le_iff_toInt_le, Int32.lt_iff_toInt_lt] at g56 ⊢; omega
    have key := key _ (if_neg hw).symm
    have eid := up_id (σ := (up (up (up σ 29 j 0 (nI 0)) 18 0 8 (-1)) 27 j 3 (if σ 27 j 3 < σ 18 0 7 - σ 29 j 5 then σ 18 0 7 - σ 29 j 5 else σ 27 j 3))) (a := 18) (i := 0) (j := 11)
    rw [show (up (up (up σ 29 j 0 (nI 0)) 18 0 8 (-1)) 27 j 3 (if σ 27 j 3 < σ 18 0 7 - σ 29 j 5 then σ 18 0 7 - σ 29 j 5 else σ 27 j 3)) 18 0 11 = σ 18 0 11 from rfl] at eid
    rw [eid] at key
    refine qa_s (pc' := 70) at_89_69 rfl rfl rfl ?_
    refine qa_getR (nx := 73) at_89_70 rfl (by decide) rfl rfl (by decide) ?_
    refine qa_s (pc' := 74) at_89_73 rfl rfl rfl ?_
    refine qa_s (pc' := 75) at_89_74 rfl rfl rfl ?_
    refine qa_s (pc' := 76) at_89_75 rfl rfl rfl ?_
    refine qa_getI (nx := 79) at_89_76 rfl (by decide) rfl rfl (by decide) ?_
    refine qa_s (pc' := 81) at_89_79 rfl rfl rfl ?_
    refine qa_callV (nx := 84) at_89_81 rfl rfl (Nat.le_of_ble_eq_true rfl) rfl rfl rfl (by decide) rfl (by decide) ?_
    show qa _ 68 0 [(0, .ref _), (1, .int _), (2, .int _), (3, .int _), (4, .int _)] [] _ _
    refine c68_q ?_
    show qa _ 89 84 _ [] _ _
    refine qa_ret at_89_84 rfl ?_
    exact key
  · have g56 : ¬ σ 18 0 7 - σ 29 j 5 ≤ σ 11 j 2 := h89_56
    have hw : σ 11 j 2 < σ 18 0 7 - σ 29 j 5 := by simp only [Int32.le_iff_toInt_le, Int32.lt_iff_toInt_lt] at g56 ⊢; omega
    have key := key _ (if_pos hw).symm
    refine qa_s (pc' := 60) at_89_59 rfl rfl rfl ?_
    refine qa_s (pc' := 61) at_89_60 rfl rfl rfl ?_
    refine qa_getI (nx := 64) at_89_61 rfl (by decide) rfl rfl (by decide) ?_
    refine qa_ic (nx := 65) (v := nI 1) at_89_64 (by decide) rfl ?_
    refine qa_s (pc' := 66) at_89_65 rfl rfl rfl ?_
    refine qa_put (nx := 69) at_89_66 rfl (by decide) rfl rfl rfl (by decide) ?_
    refine qa_s (pc' := 70) at_89_69 rfl rfl rfl ?_
    refine qa_getR (nx := 73) at_89_70 rfl (by decide) rfl rfl (by decide) ?_
    refine qa_s (pc' := 74) at_89_73 rfl rfl rfl ?_
    refine qa_s (pc' := 75) at_89_74 rfl rfl rfl ?_
    refine qa_s (pc' := 76) at_89_75 rfl rfl rfl ?_
    refine qa_getI (nx := 79) at_89_76 rfl (by decide) rfl rfl (by decide) ?_
    refine qa_s (pc' := 81) at_89_79 rfl rfl rfl ?_
    refine qa_callV (nx := 84) at_89_81 rfl rfl (Nat.le_of_ble_eq_true rfl) rfl rfl rfl (by decide) rfl (by decide) ?_
    show qa _ 68 0 [(0, .ref _), (1, .int _), (2, .int _), (3, .int _), (4, .int _)] [] _ _
    refine c68_q ?_
    show qa _ 89 84 _ [] _ _
    refine qa_ret at_89_84 rfl ?_
    exact key
/-- a job between two instructions -/
def hldOk (σ : sg) (j : Nat) : Prop := ∃ h : Nat, h < 16 ∧ σ 29 j 4 = nI h ∧ σ 29 j 3 = actF (σ 10 0) h 4 (nI j) ∧ ∀ s, s < 4 → h.testBit s = true → ∃ c : Nat, c ≤ j ∧ σ 10 0 s = nI c
def Md0 (σ : sg) (j : Nat) : Prop := σ 29 j 0 = 1 ∧ σ 29 j 2 = 0 ∧ σ 29 j 12 = nI 0 ∧ hldOk σ j ∧ σ 29 j 1 = 1 ∧ σ 61 0 j = σ 29 j 7 ∧ ∃ u : Nat, u ≤ 1 ∧ σ 29 j 7 = nI u
def Md (σ : sg) (j f r k z : Nat) : Prop := Md0 σ j ∧ r < 3 ∧ σ 29 j 10 = nI r ∧ σ 29 j 11 = nI k ∧ σ 13 (3 * j + r) 4 = nI z ∧ z ≤ 12 ∧ k ≤ z ∧ chainOk σ j f r
theorem hldOk_of {σ σ' : sg} {j : Nat} (h10 : σ' 10 = σ 10) (h3 : σ' 29 j 3 = σ 29 j 3) (h4 : σ' 29 j 4 = σ 29 j 4) (h : hldOk σ j) : hldOk σ' j := by
  unfold hldOk at *; rw [h10, h3, h4]; exact h
theorem chain_fuel {σ : sg} {i : Nat} : ∀ f f' r, chainOk σ i f r → r ≤ f' → chainOk σ i f' r := by
  intro f
  induction f with
  | zero => intro f' r h hr; cases f' with
    | zero => exact h
    | succ f' => exact Or.inl h
  | succ f ih =>
    intro f' r h hr
    cases f' with
    | zero => show r = 0; omega
    | succ f' =>
      rcases h with h | ⟨c, b, z, hc, e1, e2, e3, hz, hb, hch⟩
      · exact Or.inl h
      · exact Or.inr ⟨c, b, z, hc, e1, e2, e3, hz, hb, ih f' c hch (by omega)⟩
theorem chain_upd {σ σ' : sg} {i : Nat} (h13 : σ' 13 = σ 13) : ∀ f r, (∀ q, q ≤ r → σ' 31 i q = σ 31 i q ∧ σ' 32 i q = σ 32 i q) → chainOk σ i f r → chainOk σ' i f r := by
  intro f
  induction f with
  | zero => intro r _ h; exact h
  | succ f ih =>
    intro r hq h
    rcases h with h | ⟨c, b, z, hc, e1, e2, e3, hz, hb, hch⟩
    · exact Or.inl h
    · exact Or.inr ⟨c, b, z, hc, (hq r (Nat.le_refl _)).1.trans e1, (hq r (Nat.le_refl _)).2.trans e2, by rw [h13]; exact e3, hz, hb, ih c (fun q g => hq q (by omega)) hch⟩
theorem c90_l {j : Nat} (hj : j < T) (h5 : T ≤ 5) : ∀ n s (σ b : sg), s + n = 3 → ∀ r kk z, Rn T j (mix σ b) → Md (mix σ b) j n r kk z →
    (∀ σ1 r' k' z', Rn T j (mix σ1 (retM b j n)) → Md (mix σ1 (retM b j n)) j 3 r' k' z' → (k' < z' ∨ r' = 0) → fr σ1 σ → Q (some (.int (bi (¬ k' < z')))) σ1) → qa cst 90 2 [(0, .ref (cl 29 j)), (1, .int (nI s))] [] σ Q := by
  have hj5 : j < 5 := by omega
  intro n
  induction n with
  | zero =>
    intro s σ b hs r kk z hN hM k
    obtain ⟨hM0, hr, e10, e11, e13, hz, hkz, hch⟩ := id hM
    have hr0 : r = 0 := hch
    have k := k σ r kk z hN ⟨hM0, hr, e10, e11, e13, hz, hkz, chain_fuel _ _ _ hch (by omega)⟩ (Or.inr hr0) fr_refl
    refine qa_s (pc' := 3) at_90_2 rfl rfl rfl ?_
    refine qa_ic (nx := 4) (v := nI 3) at_90_3 (by decide) rfl ?_
    refine qn_icmp_ge (tg := 65) (nx := 7) at_90_4 rfl rfl (by omega) (by omega) (fun h90_4 => ?_) (fun h90_4 => ?_)
    · refine qa_s (pc' := 66) at_90_65 rfl rfl rfl ?_
      refine qa_getV (nx := 69) (v := nI kk) at_90_66 rfl (by decide) rfl rfl (show _ < 5 by omega) (show _ from (show σ 29 j 11 = nI kk from e11)) ?_
      refine qa_s (pc' := 70) at_90_69 rfl rfl rfl ?_
      refine qa_getR (nx := 73) at_90_70 rfl (by decide) rfl rfl (show _ < 5 by omega) ?_
      refine qa_s (pc' := 74) at_90_73 rfl rfl rfl ?_
      refine qa_getV (nx := 77) (v := nI r) at_90_74 rfl (by decide) rfl rfl (show _ < 5 by omega) (show _ from (show σ 29 j 10 = nI r from e10)) ?_
      refine qa_aald (nx := 78) (k := r) at_90_77 (by decide) rfl rfl (show _ < 5 by omega) rfl (show r < 3 by omega) ?_
      refine qa_getV (nx := 81) (v := nI z) at_90_78 rfl (by decide) rfl rfl (show _ < 15 by omega) (show _ from (show σ 13 (3 * j + r) 4 = nI z from e13)) ?_
      refine qn_icmp_lt (tg := 88) (nx := 84) at_90_81 rfl rfl (by omega) (by omega) (fun h90_81 => ?_) (fun h90_81 => ?_)
      · refine qa_ic (nx := 89) (v := nI 0) at_90_88 (by decide) rfl ?_
        refine qa_ret at_90_89 rfl ?_
        first | exact bi_t1 k (by omega) | exact bi_f1 k (by omega)
      · refine qa_ic (nx := 85) (v := nI 1) at_90_84 (by decide) rfl ?_
        refine qa_goto (nx := 89) at_90_85 rfl ?_
        refine qa_ret at_90_89 rfl ?_
        first | exact bi_t1 k (by omega) | exact bi_f1 k (by omega)
    · omega
  | succ n ih =>
    intro s σ b hs r kk z hN hM k
    obtain ⟨hM0, hr, e10, e11, e13, hz, hkz, hch⟩ := id hM
    have jj := hN.2.1.2.1 j hj5
    have e65 : b 65 0 j = nI r := jj.2.2.2.2.2.1.trans e10
    have e66 : b 66 0 j = nI kk := jj.2.2.2.2.2.2.1.trans e11
    have e48 : b 48 0 (3 * j + r) = nI z := by
      obtain ⟨s', hs', f1, f2⟩ := (hN.1.2.2.1 (3 * j + r) (by omega)).1
      exact f2.trans (f1.symm.trans e13)
    have nr : nN (nI r) = r := nN_n (by omega)
    have stay : ¬ (0 < r ∧ kk = z) → retM b j (n + 1) = b := fun g => by
      rw [retM, e65, e66, nr, e48, if_neg (fun f => g ⟨(nI_0lt (by omega)).mp f.1, (nI_eq (by omega) (by omega)).mp f.2⟩)]
    have go : 0 < r → kk = z → retM b j (n + 1) = retM (up (up b 65 0 j (b 67 0 (3 * j + r))) 66 0 j (b 68 0 (3 * j + r))) j n := fun g1 g2 => by
      rw [retM, e65, e66, nr, e48, if_pos ⟨(nI_0lt (by omega)).mpr g1, by rw [g2]⟩]
    have stop : (kk < z ∨ r = 0) → Q (some (.int (bi (¬ kk < z)))) σ := fun g => by
      have e := stay (fun f => by omega)
      rw [e] at k
      exact k σ r kk z hN ⟨hM0, hr, e10, e11, e13, hz, hkz, chain_fuel _ _ _ hch (by omega)⟩ g fr_refl
    refine qa_s (pc' := 3) at_90_2 rfl rfl rfl ?_
    refine qa_ic (nx := 4) (v := nI 3) at_90_3 (by decide) rfl ?_
    refine qn_icmp_ge (tg := 65) (nx := 7) at_90_4 rfl rfl (by omega) (by omega) (fun h90_4 => ?_) (fun h90_4 => ?_)
    · omega
    · refine qa_s (pc' := 8) at_90_7 rfl rfl rfl ?_
      refine qa_getV (nx := 11) (v := nI r) at_90_8 rfl (by decide) rfl rfl (show _ < 5 by omega) (show _ from (show σ 29 j 10 = nI r from e10)) ?_
      refine qn_if_le (tg := 65) (nx := 14) at_90_11 rfl rfl (by omega) (fun h90_11 => ?_) (fun h90_11 => ?_)
      · have stop := stop (by omega)
        refine qa_s (pc' := 66) at_90_65 rfl rfl rfl ?_
        refine qa_getV (nx := 69) (v := nI kk) at_90_66 rfl (by decide) rfl rfl (show _ < 5 by omega) (show _ from (show σ 29 j 11 = nI kk from e11)) ?_
        refine qa_s (pc' := 70) at_90_69 rfl rfl rfl ?_
        refine qa_getR (nx := 73) at_90_70 rfl (by decide) rfl rfl (show _ < 5 by omega) ?_
        refine qa_s (pc' := 74) at_90_73 rfl rfl rfl ?_
        refine qa_getV (nx := 77) (v := nI r) at_90_74 rfl (by decide) rfl rfl (show _ < 5 by omega) (show _ from (show σ 29 j 10 = nI r from e10)) ?_
        refine qa_aald (nx := 78) (k := r) at_90_77 (by decide) rfl rfl (show _ < 5 by omega) rfl (show r < 3 by omega) ?_
        refine qa_getV (nx := 81) (v := nI z) at_90_78 rfl (by decide) rfl rfl (show _ < 15 by omega) (show _ from (show σ 13 (3 * j + r) 4 = nI z from e13)) ?_
        refine qn_icmp_lt (tg := 88) (nx := 84) at_90_81 rfl rfl (by omega) (by omega) (fun h90_81 => ?_) (fun h90_81 => ?_)
        · refine qa_ic (nx := 89) (v := nI 0) at_90_88 (by decide) rfl ?_
          refine qa_ret at_90_89 rfl ?_
          first | exact bi_t1 stop (by omega) | exact bi_f1 stop (by omega)
        · refine qa_ic (nx := 85) (v := nI 1) at_90_84 (by decide) rfl ?_
          refine qa_goto (nx := 89) at_90_85 rfl ?_
          refine qa_ret at_90_89 rfl ?_
          first | exact bi_t1 stop (by omega) | exact bi_f1 stop (by omega)
      · refine qa_s (pc' := 15) at_90_14 rfl rfl rfl ?_
        refine qa_getV (nx := 18) (v := nI kk) at_90_15 rfl (by decide) rfl rfl (show _ < 5 by omega) (show _ from (show σ 29 j 11 = nI kk from e11)) ?_
        refine qa_s (pc' := 19) at_90_18 rfl rfl rfl ?_
        refine qa_getR (nx := 22) at_90_19 rfl (by decide) rfl rfl (show _ < 5 by omega) ?_
        refine qa_s (pc' := 23) at_90_22 rfl rfl rfl ?_
        refine qa_getV (nx := 26) (v := nI r) at_90_23 rfl (by decide) rfl rfl (show _ < 5 by omega) (show _ from (show σ 29 j 10 = nI r from e10)) ?_
        refine qa_aald (nx := 27) (k := r) at_90_26 (by decide) rfl rfl (show _ < 5 by omega) rfl (show r < 3 by omega) ?_
        refine qa_getV (nx := 30) (v := nI z) at_90_27 rfl (by decide) rfl rfl (show _ < 15 by omega) (show _ from (show σ 13 (3 * j + r) 4 = nI z from e13)) ?_
        refine qn_icmp_lt (tg := 65) (nx := 33) at_90_30 rfl rfl (by omega) (by omega) (fun h90_30 => ?_) (fun h90_30 => ?_)
        · have stop := stop (by omega)
          refine qa_s (pc' := 66) at_90_65 rfl rfl rfl ?_
          refine qa_getV (nx := 69) (v := nI kk) at_90_66 rfl (by decide) rfl rfl (show _ < 5 by omega) (show _ from (show σ 29 j 11 = nI kk from e11)) ?_
          refine qa_s (pc' := 70) at_90_69 rfl rfl rfl ?_
          refine qa_getR (nx := 73) at_90_70 rfl (by decide) rfl rfl (show _ < 5 by omega) ?_
          refine qa_s (pc' := 74) at_90_73 rfl rfl rfl ?_
          refine qa_getV (nx := 77) (v := nI r) at_90_74 rfl (by decide) rfl rfl (show _ < 5 by omega) (show _ from (show σ 29 j 10 = nI r from e10)) ?_
          refine qa_aald (nx := 78) (k := r) at_90_77 (by decide) rfl rfl (show _ < 5 by omega) rfl (show r < 3 by omega) ?_
          refine qa_getV (nx := 81) (v := nI z) at_90_78 rfl (by decide) rfl rfl (show _ < 15 by omega) (show _ from (show σ 13 (3 * j + r) 4 = nI z from e13)) ?_
          refine qn_icmp_lt (tg := 88) (nx := 84) at_90_81 rfl rfl (by omega) (by omega) (fun h90_81 => ?_) (fun h90_81 => ?_)
          · refine qa_ic (nx := 89) (v := nI 0) at_90_88 (by decide) rfl ?_
            refine qa_ret at_90_89 rfl ?_
            first | exact bi_t1 stop (by omega) | exact bi_f1 stop (by omega)
          · refine qa_ic (nx := 85) (v := nI 1) at_90_84 (by decide) rfl ?_
            refine qa_goto (nx := 89) at_90_85 rfl ?_
            refine qa_ret at_90_89 rfl ?_
            first | exact bi_t1 stop (by omega) | exact bi_f1 stop (by omega)
        · have hr0 : 0 < r := h90_11
          have hkk : kk = z := by omega
          rcases hch with hch | ⟨c, bb, z2, hc, c1, c2, c3, hz2, hbb, hch⟩
          · omega
          rw [go hr0 hkk] at k
          have f1 : b 67 0 (3 * j + r) = nI c := (jj.2.2.2.2.2.2.2.2 r hr).1.trans c1
          have f2 : b 68 0 (3 * j + r) = nI bb := (jj.2.2.2.2.2.2.2.2 r hr).2.trans c2
          rw [f1, f2] at k
          have c1' : σ 31 j r = nI c := c1
          have c2' : σ 32 j r = nI bb := c2
          have hsw : up (up σ 29 j 11 (nI bb)) 29 j 10 (nI c) = up (up σ 29 j 10 (nI c)) 29 j 11 (nI bb) := by
            funext x y w
            by_cases g1 : x = 29
            · by_cases g2 : y = j
              · by_cases g3 : w = 10
                · simp [up, g1, g2, g3]
                · simp [up, g1, g2, g3]
              · simp [up, g1, g2]
            · simp [up, g1]
          have hN' : Rn T j (mix (up (up σ 29 j 11 (nI bb)) 29 j 10 (nI c)) (up (up b 65 0 j (nI c)) 66 0 j (nI bb))) := by
            rw [hsw]
            exact at_f11 (at_f10 hN)
          have hM' : Md (mix (up (up σ 29 j 11 (nI bb)) 29 j 10 (nI c)) (up (up b 65 0 j (nI c)) 66 0 j (nI bb))) j n c bb z2 := by
            obtain ⟨m0, m2, m12, mh, m1, m61, mu⟩ := hM0
            refine ⟨⟨?_, ?_, ?_, hldOk_of (σ := mix σ b) rfl ?_ ?_ mh, ?_, ?_, ?_⟩, by omega, ?_, ?_, c3, hz2, hbb, Eq.mpr (chainOk_congr (σ := mix σ b) (by rfl) (by rfl) (by rfl) j n c) hch⟩
            · simp [mix, up]; exact m0
            · simp [mix, up]; exact m2
            · simp [mix, up]; exact m12
            · simp [mix, up]
            · simp [mix, up]
            · simp [mix, up]; exact m1
            · simp [mix, up]; exact m61
            · simp [mix, up]; exact mu
            · simp [mix, up]
            · simp [mix, up]
          have ih' := ih (s + 1) (up (up σ 29 j 11 (nI bb)) 29 j 10 (nI c)) (up (up b 65 0 j (nI c)) 66 0 j (nI bb)) (by omega) c bb z2 hN' hM' (fun σ1 r' k' z' g1 g2 g3 g4 => k σ1 r' k' z' g1 g2 g3 (fr_trans g4 (fr_up (by decide) (fr_up (by decide) fr_refl))))
          refine qa_s (pc' := 34) at_90_33 rfl rfl rfl ?_
          refine qa_s (pc' := 35) at_90_34 rfl rfl rfl ?_
          refine qa_getR (nx := 38) at_90_35 rfl (by decide) rfl rfl (show _ < 5 by omega) ?_
          refine qa_s (pc' := 39) at_90_38 rfl rfl rfl ?_
          refine qa_getV (nx := 42) (v := nI r) at_90_39 rfl (by decide) rfl rfl (show _ < 5 by omega) (show _ from (show σ 29 j 10 = nI r from e10)) ?_
          refine qa_ialdV (nx := 43) (k := r) (v := nI bb) at_90_42 rfl rfl rfl (show _ < 5 by omega) rfl (show r < 3 by omega) (show _ from c2') ?_
          refine qa_put (nx := 46) at_90_43 rfl (by decide) rfl rfl rfl (show _ < 5 by omega) ?_
          refine qa_s (pc' := 47) at_90_46 rfl rfl rfl ?_
          refine qa_s (pc' := 48) at_90_47 rfl rfl rfl ?_
          refine qa_getR (nx := 51) at_90_48 rfl (by decide) rfl rfl (show _ < 5 by omega) ?_
          refine qa_s (pc' := 52) at_90_51 rfl rfl rfl ?_
          refine qa_getV (nx := 55) (v := nI r) at_90_52 rfl (by decide) rfl rfl (show _ < 5 by omega) (show _ from (by simp [up]; exact e10)) ?_
          refine qa_ialdV (nx := 56) (k := r) (v := nI c) at_90_55 rfl rfl rfl (show _ < 5 by omega) rfl (show r < 3 by omega) (show _ from c1') ?_
          refine qa_put (nx := 59) at_90_56 rfl (by decide) rfl rfl rfl (show _ < 5 by omega) ?_
          refine qa_incN (nx := 62) (c := 1) at_90_59 (by decide) rfl rfl rfl ?_
          refine qa_goto (nx := 2) at_90_62 rfl ?_
          exact ih'
theorem c90_q {j r kk z : Nat} (hj : j < T) (hN : Rn T j (mix σ b)) (hM : Md (mix σ b) j 3 r kk z)
    (k : ∀ σ1 r' k' z', Rn T j (mix σ1 (retM b j 3)) → Md (mix σ1 (retM b j 3)) j 3 r' k' z' → (k' < z' ∨ r' = 0) → fr σ1 σ → Q (some (.int (bi (¬ k' < z')))) σ1) : qa cst 90 0 [(0, .ref (cl 29 j))] [] σ Q := by
  refine qa_ic (nx := 1) (v := nI 0) at_90_0 (by decide) rfl ?_
  refine qa_s (pc' := 2) at_90_1 rfl rfl rfl ?_
  exact c90_l hj hN.1.1.1 3 0 σ b rfl r kk z hN hM k
end PQ
