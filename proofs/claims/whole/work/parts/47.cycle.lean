/-! run: the cycle of the class; the call -/
section PQ
variable {cst : List (List Int32)} {ys : List Int32} {σ b : sg} {Q : Option Value → sg → Prop} {T j r k z : Nat}
theorem c73_q {o sp : Nat} (hj5 : j < 5) (hr : r < 3) (hk : k < 12) (ho : o < 15) (e10 : σ 29 j 10 = nI r) (e11 : σ 29 j 11 = nI k) (e12 : σ 29 j 12 = nI sp) (e14 : σ 14 (3 * j + r) k = nI o) (h : Q (some (.int (bi (¬ nI (sp + 1) < mj_COST.getD o 0)))) (up σ 29 j 12 (nI (sp + 1)))) : qa (mj_cst ys) 73 0 [(0, .ref (cl 29 j))] [] σ Q := by
  refine qa_s (pc' := 1) at_73_0 rfl rfl rfl ?_
  refine qa_s (pc' := 2) at_73_1 rfl rfl rfl ?_
  refine qa_getV (nx := 5) (v := nI sp) at_73_2 rfl (by decide) rfl rfl (show _ < 5 by omega) (show _ from e12) ?_
  refine qa_ic (nx := 6) (v := nI 1) at_73_5 (by decide) rfl ?_
  refine qa_addN (nx := 7) at_73_6 rfl ?_
  refine qa_put (nx := 10) at_73_7 rfl (by decide) rfl rfl rfl (show _ < 5 by omega) ?_
  refine qa_s (pc' := 11) at_73_10 rfl rfl rfl ?_
  refine qa_getV (nx := 14) (v := nI (sp + 1)) at_73_11 rfl (by decide) rfl rfl (show _ < 5 by omega) (show _ from by simp [up]) ?_
  refine qa_s (pc' := 17) at_73_14 rfl rfl rfl ?_
  refine qa_s (pc' := 18) at_73_17 rfl rfl rfl ?_
  refine qa_getR (nx := 21) at_73_18 rfl (by decide) rfl rfl (show _ < 5 by omega) ?_
  refine qa_s (pc' := 22) at_73_21 rfl rfl rfl ?_
  refine qa_getV (nx := 25) (v := nI r) at_73_22 rfl (by decide) rfl rfl (show _ < 5 by omega) (show _ from by simp [up]; exact e10) ?_
  refine qa_aald (nx := 26) (k := r) at_73_25 (by decide) rfl rfl (show _ < 5 by omega) rfl (show r < 3 by omega) ?_
  refine qa_getR (nx := 29) at_73_26 rfl (by decide) rfl rfl (show _ < 15 by omega) ?_
  refine qa_s (pc' := 30) at_73_29 rfl rfl rfl ?_
  refine qa_getV (nx := 33) (v := nI k) at_73_30 rfl (by decide) rfl rfl (show _ < 5 by omega) (show _ from by simp [up]; exact e11) ?_
  refine qa_ialdV (nx := 34) (k := k) (v := nI o) at_73_33 rfl rfl rfl (show _ < 15 by omega) rfl (show k < 12 by omega) (show _ from e14) ?_
  refine qa_tald (nx := 35) at_73_34 rfl (by decide) rfl rfl (show o < 15 from ho) (by decide) ?_
  refine qa_icmp_lt (tg := 42) (nx := 38) at_73_35 rfl rfl (fun h73_35 => ?_) (fun h73_35 => ?_)
  · refine qa_ic (nx := 43) (v := nI 0) at_73_42 (by decide) rfl ?_
    refine qa_ret at_73_43 rfl ?_
    exact bi_f1 h (fun g => g h73_35)
  · refine qa_ic (nx := 39) (v := nI 1) at_73_38 (by decide) rfl ?_
    refine qa_goto (nx := 43) at_73_39 rfl ?_
    refine qa_ret at_73_43 rfl ?_
    exact bi_t1 h h73_35
theorem cost_8 : ∀ o, o < 15 → (mj_COST.getD o 0).toInt ≤ 4 ∧ 0 ≤ (mj_COST.getD o 0).toInt := by decide +kernel
theorem sp_eq {v c : Int32} (hc : c.toInt ≤ 4) (h0 : 0 ≤ c.toInt) (h : v < c) (h' : ¬ v + nI 1 < c) : v + nI 1 = c := by
  have e1 : (nI 1).toInt = 1 := by decide
  have ea := Int32.toInt_add v (nI 1)
  have hl := Int32.le_toInt v
  rw [Int32.lt_iff_toInt_lt] at h h'
  rw [e1, Int.bmod_eq_of_le (by omega) (by omega)] at ea
  apply Int32.toInt_inj.mp
  omega
theorem up_ne {σ : sg} {a i j a' i' j' : Nat} {v v' : Int32} (h : ¬ (a = a' ∧ i = i' ∧ j = j')) : up (up σ a i j v) a' i' j' v' = up (up σ a' i' j' v') a i j v := by
  funext x y w
  simp only [up]
  by_cases h1 : x = a <;> by_cases h2 : y = i <;> by_cases h3 : w = j <;> by_cases g1 : x = a' <;> by_cases g2 : y = i' <;> by_cases g3 : w = j' <;> simp_all
theorem up_up {σ : sg} {a i j : Nat} {v v' : Int32} : up (up σ a i j v) a i j v' = up σ a i j v' := by
  funext x y w
  simp only [up]
  by_cases h1 : x = a <;> by_cases h2 : y = i <;> by_cases h3 : w = j <;> simp [h1, h2, h3]
/-- a job in order, in the words of its instruction -/
theorem Jb_of {μ : sg} (h1 : μ 29 j 0 = 1) (hb : μ 29 j 1 = 1) (h : JobOk μ j) : ∃ r k z o sp : Nat, Jb μ j r k z o ∧ μ 29 j 12 = nI sp ∧ nI sp < mj_COST.getD o 0 := by
  obtain ⟨m2, ⟨r, k, z, o, hr, e10, e11, e13, hz, hkz, hch, eo, ho, sp, es, hs⟩, mh, -, mu⟩ := h
  exact ⟨r, k, z, o, sp, ⟨h1, m2, mh, hb, (mu hb).1, (mu hb).2, hr, e10, e11, e13, hz, hkz, hch, ho, eo⟩, es, hs⟩
theorem JobOk_Jb {μ : sg} {o sp : Nat} (h : Jb μ j r k z o) (es : μ 29 j 12 = nI sp) (hs : nI sp < mj_COST.getD o 0) : JobOk μ j := by
  obtain ⟨m0, m2, mh, m1, m61, mu, hr, e10, e11, e13, hz, hkz, hch, ho, e14⟩ := h
  exact ⟨m2, ⟨r, k, z, o, hr, e10, e11, e13, hz, hkz, hch, e14, ho, sp, es, hs⟩, mh, Or.inr m1, fun _ => ⟨m61, mu⟩⟩
/-- the reference sees the job's place -/
theorem pM_Jb {x o : Nat} (hj : j < 5) (hN : Rn T x (mix σ b)) (h10 : σ 29 j 10 = nI r) (h11 : σ 29 j 11 = nI k) (hr : r < 3) (hk : k < 12) (e14 : σ 14 (3 * j + r) k = nI o) (ho : o < 15) : pM b j = (3 * j + r) * 12 + k ∧ b 49 0 (nN (b 44 0 (pM b j))) = mj_COST.getD o 0 := by
  have jj := hN.2.1.2.1 j hj
  have e65 : b 65 0 j = nI r := jj.2.2.2.2.2.1.trans h10
  have e66 : b 66 0 j = nI k := jj.2.2.2.2.2.2.1.trans h11
  have e : pM b j = (3 * j + r) * 12 + k := by unfold pM; rw [e65, e66, nN_n (by omega), nN_n (by omega)]
  refine ⟨e, ?_⟩
  have e44 : b 44 0 ((3 * j + r) * 12 + k) = nI o := (show b 44 0 _ = σ 14 _ _ from ((hN.1.2.2.1 (3 * j + r) (by omega)).2 k hk).1).trans e14
  rw [e, e44, nN_n (by omega)]
  exact hN.1.2.2.2.1 o ho
theorem gpM_no {x o sp : Nat} (hj : j < 5) (hN : Rn T x (mix σ b)) (hJ : Jb (mix σ b) j r k z o) (es : σ 29 j 12 = nI sp) (hs : nI sp < mj_COST.getD o 0) : gpM b j = b := by
  obtain ⟨m0, m2, mh, m1, m61, mu, hr, e10, e11, e13, hz, hkz, hch, ho, e14⟩ := hJ
  have e62 : b 62 0 j = nI sp := (hN.2.1.2.1 j hj).2.2.1.trans es
  rw [gpM, (pM_Jb hj hN e10 e11 hr (by omega) e14 ho).2, e62, if_neg]
  intro g
  rw [g, Int32.lt_iff_toInt_lt] at hs
  omega
theorem c72_q (hjT : j < T) (hR : Rel T (mix σ b)) (h1 : σ 18 0 0 = 1) (ha : σ 29 j 0 = 1) (K : ∀ σ1, Rel T (mix σ1 (gpM (gvM b j) j)) → fr σ1 σ → σ1 18 0 0 = 1 → Q none σ1) : qa (mj_cst ys) 72 0 [(0, .ref (cl 18 0)), (1, .int (nI j))] [] σ Q := by
  have h5 : T ≤ 5 := hR.1.1
  have hj5 : j < 5 := by omega
  have hN5 := Rn_of hR h1 5
  have hN := Rn_of hR h1 j
  have hJO : JobOk (mix σ b) j := (hN5.2.2.2.2.2.1 j hjT).2.2.2.2.2.2 (by omega) ha
  have e24 : b 40 0 24 = σ 18 0 8 := hN.2.2.1.2.2.1
  have e25 : b 40 0 25 = σ 18 0 10 := hN.2.2.1.2.2.2.1
  have jj := hN.2.1.2.1 j hj5
  have e59 : b 59 0 j = σ 29 j 1 := jj.1
  have e62 : b 62 0 j = σ 29 j 12 := jj.2.2.1
  by_cases hh : σ 18 0 8 = nI j
  · have hbg : σ 29 j 1 = 1 := by
      rcases hN.2.2.2.2.2.2 with g | ⟨j', g1, g2, g3, g4⟩
      · exact absurd (hh.symm.trans g) (m1_ne (by omega))
      · have : j' = j := (nI_eq (by omega) (by omega)).mp ((show nI j' = σ 18 0 8 from (show σ 18 0 8 = nI j' from g2).symm).trans hh)
        subst this; exact g4
    obtain ⟨r, k, z, o, sp, hJ, es, hs⟩ := Jb_of (μ := mix σ b) ha hbg hJO
    obtain ⟨m0, m2, mh, m1, m61, ⟨u, hu, eu⟩, hr, e10, e11, e13, hz, hkz, hch, ho, e14⟩ := id hJ
    have eu' : σ 29 j 7 = nI u := eu
    have e61 : b 61 0 j = nI u := m61.trans eu
    have es' : σ 29 j 12 = nI sp := es
    have nop : ∀ (c : sg), c 40 0 24 = nI j → c 59 0 j = nI 1 → up (up c 40 0 24 (nI j)) 59 0 j (nI 1) = c := by
      intro c g1 g2
      have f1 := up_id (σ := c) (a := 40) (i := 0) (j := 24)
      have f2 := up_id (σ := c) (a := 59) (i := 0) (j := j)
      rw [g1] at f1
      rw [g2] at f2
      rw [f1, f2]
    have e24' : b 40 0 24 = nI j := e24.trans hh
    have e59' : b 59 0 j = nI 1 := e59.trans hbg
    have egv1 : 0 < u → gvM b j = up b 61 0 j (nI (u - 1)) := fun g => by
      unfold gvM swM
      rw [if_pos e24'.symm, e61, if_pos ((nI_0lt (by omega)).mpr g), pk_sub (by omega)]
      exact nop _ e24' e59'
    have egv0 : u = 0 → gvM b j = up b 62 0 j (nI (sp + 1)) := fun g => by
      unfold gvM swM
      rw [if_pos e24'.symm, e61, if_neg (fun f => by have := (nI_0lt (by omega)).mp f; omega), e62, es', nI_add]
      exact nop _ e24' e59'
    have hdec : 0 < u → Q none (up σ 29 j 7 (nI (u - 1))) := fun g => by
      have hN' : Rn T j (mix (up σ 29 j 7 (nI (u - 1))) (up b 61 0 j (nI (u - 1)))) := at_m61 (at_c7 hN)
      have hJ' : Jb (mix (up σ 29 j 7 (nI (u - 1))) (up b 61 0 j (nI (u - 1)))) j r k z o := by
        refine ⟨?_, ?_, hldOk_of (σ := mix σ b) rfl ?_ ?_ mh, ?_, ?_, ⟨u - 1, by omega, ?_⟩, hr, ?_, ?_, e13, hz, hkz, Eq.mpr (chainOk_congr (σ := mix σ b) (by rfl) (by rfl) (by rfl) j 3 r) hch, ho, e14⟩
        · simp [mix, up]; exact m0
        · simp [mix, up]; exact m2
        · simp [mix, up]
        · simp [mix, up]
        · simp [mix, up]; exact m1
        · simp [mix, up]
        · simp [mix, up]
        · simp [mix, up]; exact e10
        · simp [mix, up]; exact e11
      have es1 : up σ 29 j 7 (nI (u - 1)) 29 j 12 = nI sp := by simp [up]; exact es'
      refine K _ ?_ (fr_up (by decide) fr_refl) h1
      rw [egv1 g, gpM_no hj5 hN' hJ' es1 hs]
      exact Rel_of hN' (fun _ _ => JobOk_Jb hJ' es1 hs)
    have hNs : Rn T j (mix (up σ 29 j 12 (nI (sp + 1))) (up b 62 0 j (nI (sp + 1)))) := at_f12 hN
    have hJs : Jb (mix (up σ 29 j 12 (nI (sp + 1))) (up b 62 0 j (nI (sp + 1)))) j r k z o := by
      refine ⟨?_, ?_, hldOk_of (σ := mix σ b) rfl ?_ ?_ mh, ?_, ?_, ⟨u, hu, ?_⟩, hr, ?_, ?_, e13, hz, hkz, Eq.mpr (chainOk_congr (σ := mix σ b) (by rfl) (by rfl) (by rfl) j 3 r) hch, ho, e14⟩
      · simp [mix, up]; exact m0
      · simp [mix, up]; exact m2
      · simp [mix, up]
      · simp [mix, up]
      · simp [mix, up]; exact m1
      · simp [mix, up]; exact m61
      · simp [mix, up]; exact eu
      · simp [mix, up]; exact e10
      · simp [mix, up]; exact e11
    refine qa_s (pc' := 1) at_72_0 rfl rfl rfl ?_
    refine qa_getR (nx := 4) at_72_1 rfl (by decide) rfl rfl (by decide) ?_
    refine qa_s (pc' := 5) at_72_4 rfl rfl rfl ?_
    refine qa_aald (nx := 6) (k := j) at_72_5 (by decide) rfl rfl (by decide) rfl (show j < 5 by omega) ?_
    refine qa_getR (nx := 9) at_72_6 rfl (by decide) rfl rfl (show _ < 5 by omega) ?_
    refine qa_s (pc' := 10) at_72_9 rfl rfl rfl ?_
    refine qa_s (pc' := 11) at_72_10 rfl rfl rfl ?_
    refine qa_getI (nx := 14) at_72_11 rfl (by decide) rfl rfl (by decide) ?_
    refine qa_s (pc' := 15) at_72_14 rfl rfl rfl ?_
    refine qa_icmp_eq (tg := 43) (nx := 18) at_72_15 rfl rfl (fun h72_15 => ?_) (fun h72_15 => ?_)
    · refine qa_s (pc' := 44) at_72_43 rfl rfl rfl ?_
      refine qa_getV (nx := 47) (v := nI u) at_72_44 rfl (by decide) rfl rfl (show _ < 5 by omega) (show _ from eu') ?_
      refine qn_if_le (tg := 63) (nx := 50) at_72_47 rfl rfl (by omega) (fun h72_47 => ?_) (fun h72_47 => ?_)
      · refine qa_s (pc' := 64) at_72_63 rfl rfl rfl ?_
        refine qa_callV (nx := 67) at_72_64 rfl rfl (Nat.le_of_ble_eq_true rfl) rfl rfl rfl (by decide) rfl (show _ < 5 by omega) ?_
        show qa _ 73 0 [(0, .ref _)] [] _ _
        refine c73_q hj5 hr (by omega) ho e10 e11 es' e14 ?_
        show qa _ 72 67 _ [.int _] _ _
        refine qa_if_eq (tg := 76) (nx := 70) at_72_67 rfl rfl (fun h72_67 => ?_) (fun h72_67 => ?_)
        · refine qa_ret at_72_76 rfl ?_
          have hlt : nI (sp + 1) < mj_COST.getD o 0 := Decidable.not_not.mp (bi_z h72_67)
          refine K _ ?_ (fr_up (by decide) fr_refl) h1
          rw [egv0 h72_47, gpM_no hj5 hNs hJs (by simp [up]) hlt]
          exact Rel_of hNs (fun _ _ => JobOk_Jb hJs (by simp [mix, up]) hlt)
        · refine qa_s (pc' := 71) at_72_70 rfl rfl rfl ?_
          refine qa_s (pc' := 72) at_72_71 rfl rfl rfl ?_
          refine qa_s (pc' := 73) at_72_72 rfl rfl rfl ?_
          refine qa_callV (nx := 76) at_72_73 rfl rfl (Nat.le_of_ble_eq_true rfl) rfl rfl rfl (by decide) rfl (by decide) ?_
          show qa _ 74 0 [(0, .ref _), (1, .int _), (2, .ref _)] [] _ _
          refine c74_q hjT hNs hJs (fun σ1 g1 g2 g3 => ?_)
          show qa _ 72 76 _ [] _ _
          refine qa_ret at_72_76 rfl ?_
          have hge := bi_n h72_67
          have heq : nI (sp + 1) = mj_COST.getD o 0 := by rw [← nI_add] at hge ⊢; exact sp_eq (cost_8 o ho).1 (cost_8 o ho).2 hs hge
          have hpm := pM_Jb hj5 hNs hJs.2.2.2.2.2.2.2.1 hJs.2.2.2.2.2.2.2.2.1 hr (by omega) e14 ho
          refine K _ ?_ (fr_trans g2 (fr_up (by decide) fr_refl)) g3
          rw [egv0 h72_47, gpM, hpm.2, if_pos (by rw [up_s]; exact heq), hpm.1]
          exact g1
      · refine qa_s (pc' := 51) at_72_50 rfl rfl rfl ?_
        refine qa_s (pc' := 52) at_72_51 rfl rfl rfl ?_
        refine qa_getV (nx := 55) (v := nI u) at_72_52 rfl (by decide) rfl rfl (show _ < 5 by omega) (show _ from eu') ?_
        refine qa_ic (nx := 56) (v := nI 1) at_72_55 (by decide) rfl ?_
        refine qa_subN (nx := 57) at_72_56 rfl (by omega) ?_
        refine qa_put (nx := 60) at_72_57 rfl (by decide) rfl rfl rfl (show _ < 5 by omega) ?_
        refine qa_goto (nx := 76) at_72_60 rfl ?_
        refine qa_ret at_72_76 rfl ?_
        exact hdec h72_47
    · exact absurd hh h72_15
  · have hne : ¬ nI j = b 40 0 24 := fun g => hh (by rw [← e24]; exact g.symm)
    have egv : gvM b j = up (up (up (up b 40 0 25 (σ 18 0 10 + nI 1)) 59 0 j (nI 1)) 61 0 j (nI 1)) 40 0 24 (nI j) := by
      unfold gvM swM
      rw [if_neg hne, e25, up_ck (a := 40) (a' := 59) (by decide), up_ck (a := 61) (a' := 59) (by decide)]
    have eC : up (up (up (up (up σ 18 0 8 (nI j)) 18 0 10 (σ 18 0 10 + nI 1)) 29 j 1 (nI 1)) 29 j 7 (nI 2)) 29 j 7 (nI 1) = up (up (up (up σ 18 0 10 (σ 18 0 10 + nI 1)) 29 j 1 (nI 1)) 29 j 7 (nI 1)) 18 0 8 (nI j) := by
      rw [up_up, up_ne (a := 18) (j := 8) (a' := 18) (j' := 10) (by omega), up_ck (a := 18) (j := 8) (a' := 29) (j' := 1) (by decide), up_ck (a := 18) (j := 8) (a' := 29) (j' := 7) (by decide)]
    have hN1 : Rn T j (mix (up (up (up σ 18 0 10 (σ 18 0 10 + nI 1)) 29 j 1 (nI 1)) 29 j 7 (nI 1)) (up (up (up b 40 0 25 (σ 18 0 10 + nI 1)) 59 0 j (nI 1)) 61 0 j (nI 1))) := at_m61 (at_c7 (at_b1 (at_s10 hN)))
    have hN2 := at_hd (j := j) hjT (by simp [mix, up]; exact ha) (by simp [mix, up]; rfl) hN1
    obtain ⟨n2, ⟨r, k, z, o, hr, e10, e11, e13, hz, hkz, hch, e14, ho, sp, es, hs⟩, mh, -, -⟩ := hJO
    have hJ' : Jb (mix (up (up (up (up σ 18 0 10 (σ 18 0 10 + nI 1)) 29 j 1 (nI 1)) 29 j 7 (nI 1)) 18 0 8 (nI j)) (up (up (up (up b 40 0 25 (σ 18 0 10 + nI 1)) 59 0 j (nI 1)) 61 0 j (nI 1)) 40 0 24 (nI j))) j r k z o := by
      refine ⟨?_, ?_, hldOk_of (σ := mix σ b) rfl ?_ ?_ mh, ?_, ?_, ⟨1, by omega, ?_⟩, hr, ?_, ?_, e13, hz, hkz, Eq.mpr (chainOk_congr (σ := mix σ b) (by rfl) (by rfl) (by rfl) j 3 r) hch, ho, e14⟩
      · simp [mix, up]; exact ha
      · simp [mix, up]; exact n2
      · simp [mix, up]
      · simp [mix, up]
      · simp [mix, up]; rfl
      · simp [mix, up]
      · simp [mix, up]
      · simp [mix, up]; exact e10
      · simp [mix, up]; exact e11
    have es1 : up (up (up (up σ 18 0 10 (σ 18 0 10 + nI 1)) 29 j 1 (nI 1)) 29 j 7 (nI 1)) 18 0 8 (nI j) 29 j 12 = nI sp := by simp [up]; exact es
    have kk := K (up (up (up (up σ 18 0 10 (σ 18 0 10 + nI 1)) 29 j 1 (nI 1)) 29 j 7 (nI 1)) 18 0 8 (nI j)) (by rw [egv, gpM_no hj5 hN2 hJ' es1 hs]; exact Rel_of hN2 (fun _ _ => JobOk_Jb hJ' es1 hs)) (fr_up (by decide) (fr_up (by decide) (fr_up (by decide) (fr_up (by decide) fr_refl)))) h1
    rw [← eC] at kk
    refine qa_s (pc' := 1) at_72_0 rfl rfl rfl ?_
    refine qa_getR (nx := 4) at_72_1 rfl (by decide) rfl rfl (by decide) ?_
    refine qa_s (pc' := 5) at_72_4 rfl rfl rfl ?_
    refine qa_aald (nx := 6) (k := j) at_72_5 (by decide) rfl rfl (by decide) rfl (show j < 5 by omega) ?_
    refine qa_getR (nx := 9) at_72_6 rfl (by decide) rfl rfl (show _ < 5 by omega) ?_
    refine qa_s (pc' := 10) at_72_9 rfl rfl rfl ?_
    refine qa_s (pc' := 11) at_72_10 rfl rfl rfl ?_
    refine qa_getI (nx := 14) at_72_11 rfl (by decide) rfl rfl (by decide) ?_
    refine qa_s (pc' := 15) at_72_14 rfl rfl rfl ?_
    refine qa_icmp_eq (tg := 43) (nx := 18) at_72_15 rfl rfl (fun h72_15 => ?_) (fun h72_15 => ?_)
    · exact absurd h72_15 hh
    · refine qa_s (pc' := 19) at_72_18 rfl rfl rfl ?_
      refine qa_s (pc' := 20) at_72_19 rfl rfl rfl ?_
      refine qa_put (nx := 23) at_72_20 rfl (by decide) rfl rfl rfl (by decide) ?_
      refine qa_s (pc' := 24) at_72_23 rfl rfl rfl ?_
      refine qa_s (pc' := 25) at_72_24 rfl rfl rfl ?_
      refine qa_getI (nx := 28) at_72_25 rfl (by decide) rfl rfl (by decide) ?_
      refine qa_ic (nx := 29) (v := nI 1) at_72_28 (by decide) rfl ?_
      refine qa_s (pc' := 30) at_72_29 rfl rfl rfl ?_
      refine qa_put (nx := 33) at_72_30 rfl (by decide) rfl rfl rfl (by decide) ?_
      refine qa_s (pc' := 34) at_72_33 rfl rfl rfl ?_
      refine qa_ic (nx := 35) (v := nI 1) at_72_34 (by decide) rfl ?_
      refine qa_put (nx := 38) at_72_35 rfl (by decide) rfl (by decide) rfl (show _ < 5 by omega) ?_
      refine qa_s (pc' := 39) at_72_38 rfl rfl rfl ?_
      refine qa_ic (nx := 40) (v := nI 2) at_72_39 (by decide) rfl ?_
      refine qa_put (nx := 43) at_72_40 rfl (by decide) rfl rfl rfl (show _ < 5 by omega) ?_
      refine qa_s (pc' := 44) at_72_43 rfl rfl rfl ?_
      refine qa_getV (nx := 47) (v := nI 2) at_72_44 rfl (by decide) rfl rfl (show _ < 5 by omega) (show _ from by simp [up]) ?_
      refine qn_if_le (tg := 63) (nx := 50) at_72_47 rfl rfl (by decide) (fun h => absurd h (by decide)) (fun h72_47 => ?_)
      refine qa_s (pc' := 51) at_72_50 rfl rfl rfl ?_
      refine qa_s (pc' := 52) at_72_51 rfl rfl rfl ?_
      refine qa_getV (nx := 55) (v := nI 2) at_72_52 rfl (by decide) rfl rfl (show _ < 5 by omega) (show _ from by simp [up]) ?_
      refine qa_ic (nx := 56) (v := nI 1) at_72_55 (by decide) rfl ?_
      refine qa_subN (nx := 57) at_72_56 rfl (by omega) ?_
      refine qa_put (nx := 60) at_72_57 rfl (by decide) rfl rfl rfl (show _ < 5 by omega) ?_
      refine qa_goto (nx := 76) at_72_60 rfl ?_
      refine qa_ret at_72_76 rfl ?_
      exact kk
end PQ
