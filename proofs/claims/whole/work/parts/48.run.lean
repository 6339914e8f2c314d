/-! run: the cycles, the call -/
section PQ
variable {cst : List (List Int32)} {ys : List Int32} {σ b : sg} {Q : Option Value → sg → Prop} {T j r k z : Nat}
theorem gv_ex (hjT : j < T) (hR : Rel T (mix σ b)) (h1 : σ 18 0 0 = 1) (ha : σ 29 j 0 = 1) : ∃ (τ : sg) (r k z o : Nat), Rn T j (mix τ (gvM b j)) ∧ Jb (mix τ (gvM b j)) j r k z o := by
  have h5 : T ≤ 5 := hR.1.1
  have hj5 : j < 5 := by omega
  have hN5 := Rn_of hR h1 5
  have hN := Rn_of hR h1 j
  have hJO : JobOk (mix σ b) j := (hN5.2.2.2.2.2.1 j hjT).2.2.2.2.2.2 (by omega) ha
  have e24 : b 40 0 24 = σ 18 0 8 := hN.2.2.1.2.2.1
  have e25 : b 40 0 25 = σ 18 0 10 := hN.2.2.1.2.2.2.1
  have jj := hN.2.1.2.1 j hj5
  have e59 : b 59 0 j = σ 29 j 1 := jj.1
  have e62 : b 62 0 j = σ 29 j 12 := jj.2.2.1
  by_cases hh : σ 18 0 8 = nI j
  · have hbg : σ 29 j 1 = 1 := by
      rcases hN.2.2.2.2.2.2 with g | ⟨j', g1, g2, g3, g4⟩
      · exact absurd (hh.symm.trans g) (m1_ne (by omega))
      · have : j' = j := (nI_eq (by omega) (by omega)).mp ((show nI j' = σ 18 0 8 from (show σ 18 0 8 = nI j' from g2).symm).trans hh)
        subst this; exact g4
    obtain ⟨r, k, z, o, sp, hJ, es, hs⟩ := Jb_of (μ := mix σ b) ha hbg hJO
    obtain ⟨m0, m2, mh, m1, m61, ⟨u, hu, eu⟩, hr, e10, e11, e13, hz, hkz, hch, ho, e14⟩ := id hJ
    have eu' : σ 29 j 7 = nI u := eu
    have e61 : b 61 0 j = nI u := m61.trans eu
    have es' : σ 29 j 12 = nI sp := es
    have nop : ∀ (c : sg), c 40 0 24 = nI j → c 59 0 j = nI 1 → up (up c 40 0 24 (nI j)) 59 0 j (nI 1) = c := by
      intro c g1 g2
      have f1 := up_id (σ := c) (a := 40) (i := 0) (j := 24)
      have f2 := up_id (σ := c) (a := 59) (i := 0) (j := j)
      rw [g1] at f1
      rw [g2] at f2
      rw [f1, f2]
    have e24' : b 40 0 24 = nI j := e24.trans hh
    have e59' : b 59 0 j = nI 1 := e59.trans hbg
    have egv1 : 0 < u → gvM b j = up b 61 0 j (nI (u - 1)) := fun g => by
      unfold gvM swM
      rw [if_pos e24'.symm, e61, if_pos ((nI_0lt (by omega)).mpr g), pk_sub (by omega)]
      exact nop _ e24' e59'
    have egv0 : u = 0 → gvM b j = up b 62 0 j (nI (sp + 1)) := fun g => by
      unfold gvM swM
      rw [if_pos e24'.symm, e61, if_neg (fun f => by have := (nI_0lt (by omega)).mp f; omega), e62, es', nI_add]
      exact nop _ e24' e59'
    have hNs : Rn T j (mix (up σ 29 j 12 (nI (sp + 1))) (up b 62 0 j (nI (sp + 1)))) := at_f12 hN
    have hJs : Jb (mix (up σ 29 j 12 (nI (sp + 1))) (up b 62 0 j (nI (sp + 1)))) j r k z o := by
      refine ⟨?_, ?_, hldOk_of (σ := mix σ b) rfl ?_ ?_ mh, ?_, ?_, ⟨u, hu, ?_⟩, hr, ?_, ?_, e13, hz, hkz, Eq.mpr (chainOk_congr (σ := mix σ b) (by rfl) (by rfl) (by rfl) j 3 r) hch, ho, e14⟩
      · simp [mix, up]; exact m0
      · simp [mix, up]; exact m2
      · simp [mix, up]
      · simp [mix, up]
      · simp [mix, up]; exact m1
      · simp [mix, up]; exact m61
      · simp [mix, up]; exact eu
      · simp [mix, up]; exact e10
      · simp [mix, up]; exact e11
    by_cases g : 0 < u
    · rw [egv1 g]
      have hN' : Rn T j (mix (up σ 29 j 7 (nI (u - 1))) (up b 61 0 j (nI (u - 1)))) := at_m61 (at_c7 hN)
      have hJ' : Jb (mix (up σ 29 j 7 (nI (u - 1))) (up b 61 0 j (nI (u - 1)))) j r k z o := by
        refine ⟨?_, ?_, hldOk_of (σ := mix σ b) rfl ?_ ?_ mh, ?_, ?_, ⟨u - 1, by omega, ?_⟩, hr, ?_, ?_, e13, hz, hkz, Eq.mpr (chainOk_congr (σ := mix σ b) (by rfl) (by rfl) (by rfl) j 3 r) hch, ho, e14⟩
        · simp [mix, up]; exact m0
        · simp [mix, up]; exact m2
        · simp [mix, up]
        · simp [mix, up]
        · simp [mix, up]; exact m1
        · simp [mix, up]
        · simp [mix, up]
        · simp [mix, up]; exact e10
        · simp [mix, up]; exact e11
      exact ⟨_, _, _, _, _, hN', hJ'⟩
    · rw [egv0 (by omega)]
      exact ⟨_, _, _, _, _, hNs, hJs⟩
  · have hne : ¬ nI j = b 40 0 24 := fun g => hh (by rw [← e24]; exact g.symm)
    have egv : gvM b j = up (up (up (up b 40 0 25 (σ 18 0 10 + nI 1)) 59 0 j (nI 1)) 61 0 j (nI 1)) 40 0 24 (nI j) := by
      unfold gvM swM
      rw [if_neg hne, e25, up_ck (a := 40) (a' := 59) (by decide), up_ck (a := 61) (a' := 59) (by decide)]
    have eC : up (up (up (up (up σ 18 0 8 (nI j)) 18 0 10 (σ 18 0 10 + nI 1)) 29 j 1 (nI 1)) 29 j 7 (nI 2)) 29 j 7 (nI 1) = up (up (up (up σ 18 0 10 (σ 18 0 10 + nI 1)) 29 j 1 (nI 1)) 29 j 7 (nI 1)) 18 0 8 (nI j) := by
      rw [up_up, up_ne (a := 18) (j := 8) (a' := 18) (j' := 10) (by omega), up_ck (a := 18) (j := 8) (a' := 29) (j' := 1) (by decide), up_ck (a := 18) (j := 8) (a' := 29) (j' := 7) (by decide)]
    have hN1 : Rn T j (mix (up (up (up σ 18 0 10 (σ 18 0 10 + nI 1)) 29 j 1 (nI 1)) 29 j 7 (nI 1)) (up (up (up b 40 0 25 (σ 18 0 10 + nI 1)) 59 0 j (nI 1)) 61 0 j (nI 1))) := at_m61 (at_c7 (at_b1 (at_s10 hN)))
    have hN2 := at_hd (j := j) hjT (by simp [mix, up]; exact ha) (by simp [mix, up]; rfl) hN1
    obtain ⟨n2, ⟨r, k, z, o, hr, e10, e11, e13, hz, hkz, hch, e14, ho, sp, es, hs⟩, mh, -, -⟩ := hJO
    have hJ' : Jb (mix (up (up (up (up σ 18 0 10 (σ 18 0 10 + nI 1)) 29 j 1 (nI 1)) 29 j 7 (nI 1)) 18 0 8 (nI j)) (up (up (up (up b 40 0 25 (σ 18 0 10 + nI 1)) 59 0 j (nI 1)) 61 0 j (nI 1)) 40 0 24 (nI j))) j r k z o := by
      refine ⟨?_, ?_, hldOk_of (σ := mix σ b) rfl ?_ ?_ mh, ?_, ?_, ⟨1, by omega, ?_⟩, hr, ?_, ?_, e13, hz, hkz, Eq.mpr (chainOk_congr (σ := mix σ b) (by rfl) (by rfl) (by rfl) j 3 r) hch, ho, e14⟩
      · simp [mix, up]; exact ha
      · simp [mix, up]; exact n2
      · simp [mix, up]
      · simp [mix, up]
      · simp [mix, up]; rfl
      · simp [mix, up]
      · simp [mix, up]
      · simp [mix, up]; exact e10
      · simp [mix, up]; exact e11
    rw [egv]
    exact ⟨_, _, _, _, _, hN2, hJ'⟩
theorem chR_ch {μ : sg} : ∀ n (b : sg) r, r < 3 → b 65 0 j = nI r → (∀ q, q < 3 → b 67 0 (3 * j + q) = μ 31 j q) → chainOk μ j n r → chR b j n := by
  intro n
  induction n with
  | zero => intro b r hr e _ _; exact ⟨r, hr, e⟩
  | succ n ih =>
    intro b r hr e h67 hch
    refine ⟨r, hr, e, fun h0 _ => ?_⟩
    rcases hch with h | ⟨c, bk, z, hc, c1, c2, c3, hz, hb, hch⟩
    · omega
    · refine ih _ c (by omega) ?_ ?_ hch
      · rw [up_k (by decide), up_s, h67 r hr]; exact c1
      · intro q hq; rw [up_k (by decide), up_k (by decide)]; exact h67 q hq
theorem PfOk_of {o : Nat} (hjT : j < T) (hN : Rn T j (mix σ b)) (hJ : Jb (mix σ b) j r k z o) : PfOk (up b 62 0 j (nI 0)) j := by
  have h5 : T ≤ 5 := hN.1.1.1
  have hj5 : j < 5 := by omega
  obtain ⟨x, y, hx, e15, e16, hok, b44, b45, b46, hPre⟩ := Pre_of hjT hN hJ
  obtain ⟨m0, m2, mh, m1, m61, mu, hr, e10, e11, e13, hz, hkz, hch, ho, e14⟩ := hJ
  have jj := hN.2.1.2.1 j hj5
  have hS : Snd T (mix σ b) := (hN.1.2.2.2.2.1 (hN.1.1.2.2.2.2.2.2.2.2 hN.1.2.2.2.2.2.1)).2.2
  have hrg : ∀ q, q < 4 → b 70 0 (4 * j + q) = σ 30 j q := jj.2.2.2.2.2.2.2.1
  refine ⟨r, k, o, x, hr, jj.2.2.2.2.2.1.trans e10, by omega, jj.2.2.2.2.2.2.1.trans e11, ho, b44, hx, b45, ?_, ?_, ?_, ?_⟩
  · rcases hok with g | ⟨y', g1, g2⟩
    · exact Or.inl g
    · exact Or.inr ⟨y', b46.trans g1, g2⟩
  · intro g
    obtain ⟨q, hq, -, f47, -⟩ := ((hS.2 j hjT).2 r hr z k e13 hkz hz).2.2.1 (by rcases g with g | g <;> subst g; exact Or.inl e14; exact Or.inr e14)
    exact ⟨(3 * j + r) * 12 + q, by omega, f47⟩
  · intro y' hy'
    obtain ⟨c, hc, -, g77, -⟩ := hN.2.2.2.2.1 y' (by omega)
    exact ⟨c, hc, g77⟩
  · intro hnz
    have e46 : up b 62 0 j (nI 0) 46 0 ((3 * j + r) * 12 + k) = y := b46
    rw [e46] at hnz ⊢
    have hq := c75_all (cst := []) (Q := fun _ _ => chR (opM (stpM (up b 62 0 j (nI 0)) j) j ((3 * j + r) * 12 + k) o x y) j 3) hPre ho hok (fun h2 hz0 => ?_) (fun _ σ1 g1 g2 _ => ?_)
    · obtain ⟨_, _, _, _, h⟩ := hq; exact h
    · refine absurd ⟨h2, ?_⟩ hnz
      subst h2
      obtain ⟨y', rfl, hy'⟩ := hok.resolve_left (by decide)
      replace hy' : y' ≤ 3 := hy'
      rw [nN_n (by omega)] at hz0 ⊢
      exact (hrg y' (by omega)).trans hz0
    · obtain ⟨r', k', z', -, hr', f10, -, -, -, -, fch⟩ := g2
      have jj' := g1.2.1.2.1 j hj5
      exact chR_ch 3 _ r' hr' (jj'.2.2.2.2.2.1.trans f10) (fun q hq => (jj'.2.2.2.2.2.2.2.2 q hq).1) fch
theorem chM_none {n : Nat} (h : chM b n = none) : ∀ i, i < n → b 58 0 i = 0 := by
  induction n with
  | zero => intro i hi; omega
  | succ n ih =>
    unfold chM at h
    split at h
    · rename_i g
      intro i hi
      by_cases e : i = n
      · subst e; exact g
      · exact ih h i (by omega)
    · split at h
      · cases h
      · split at h <;> cases h
/-- the state that the choice leaves to the task chosen -/
theorem tk_Rel {v : Int32} (hR : Rel T (mix σ b)) (h1 : σ 18 0 0 = 1) : Rel T (mix (up (up σ 18 0 9 v) 18 0 7 (σ 18 0 7 + nI 1)) (tkM b v)) := by
  have h5 : T ≤ 5 := hR.1.1
  have hN := Rn_of hR h1 5
  have e22 : b 40 0 22 = σ 18 0 7 := hN.2.2.1.1
  unfold tkM
  rw [e22, up_ne (a := 18) (j := 9) (by omega)]
  exact Rel_of (x := 5) (at_s9 (at_s7 hN)) (fun g => by omega)
theorem CyOk_of {σ0 : sg} (hR0 : Rel T (mix σ0 b)) (hR : Rel T (mix σ (relsM b T))) (h1 : σ 18 0 0 = 1) : CyOk T b := by
  have h5 : T ≤ 5 := hR.1.1
  have hN := Rn_of hR h1 5
  refine ⟨hR0.1.2.2.1, fun i hi h0 => ?_, fun j hc => ?_⟩
  · obtain ⟨-, -, -, -, t0, tb, -⟩ := hN.2.2.2.2.2.1 i hi
    exact (act_eq hi hR h1 (z1 tb (fun g => h0 (t0.trans g)))).2
  · have hj := chM_lt hc
    obtain ⟨-, -, -, -, t0, tb, -⟩ := hN.2.2.2.2.2.1 j hj.1
    have ha : σ 29 j 0 = 1 := z1 tb (fun g => hj.2 (t0.trans g))
    obtain ⟨τ, r, k, z, o, g1, g2⟩ := gv_ex hj.1 (tk_Rel (v := nI j) hR h1) h1 ha
    exact PfOk_of hj.1 g1 g2
theorem idle_Rel (hR : Rel T (mix σ b)) (h1 : σ 18 0 0 = 1) (hc : chM b T = none) : Rel T (mix (up (up (up σ 18 0 9 (-1)) 18 0 7 (σ 18 0 7 + nI 1)) 18 0 13 (σ 18 0 13 + nI 1)) (cgM b T)) := by
  have h5 : T ≤ 5 := hR.1.1
  have hN := Rn_of hR h1 5
  have e22 : b 40 0 22 = σ 18 0 7 := hN.2.2.1.1
  have e28 : b 40 0 28 = σ 18 0 13 := hN.2.2.1.2.2.2.2.2.2.1
  have e24 : b 40 0 24 = -1 := by
    rcases hN.2.2.2.2.2.2 with g | ⟨j', g1, g2, g3, g4⟩
    · exact hN.2.2.1.2.2.1.trans g
    · exfalso
      obtain ⟨-, -, -, -, t0, tb, -⟩ := hN.2.2.2.2.2.1 j' g1
      exact absurd ((show (mix σ b) 29 j' 0 = 0 from t0.symm.trans (chM_none hc j' g1)).symm.trans g3) (by decide)
  simp only [cgM, hc, tkM]
  rw [e28, e22, up_ne (a := 18) (j := 9) (j' := 7) (by omega)]
  have f := up_id (σ := up (up (up b 40 0 22 (σ 18 0 7 + nI 1)) 40 0 23 (-1)) 40 0 28 (σ 18 0 13 + nI 1)) (a := 40) (i := 0) (j := 24)
  rw [show up (up (up b 40 0 22 (σ 18 0 7 + nI 1)) 40 0 23 (-1)) 40 0 28 (σ 18 0 13 + nI 1) 40 0 24 = -1 from e24] at f
  rw [f]
  exact Rel_of (x := 5) (at_s13 (at_s9 (at_s7 hN))) (fun g => by omega)
theorem c63_l {N : Nat} {f : Int32} {σ0 : sg} (hN : N ≤ 500) (K : ∀ σ1, Rel T (mix σ1 (itM T b N)) → fr σ1 σ0 → σ1 18 0 0 = 1 → (∀ n, n < N → CyOk T (itM T b n)) → Q (some (.int (σ1 21 0 0 - f))) σ1) : ∀ n i, i + n = N → ∀ σ, Rel T (mix σ (itM T b i)) → fr σ σ0 → σ 18 0 0 = 1 → (∀ n, n < i → CyOk T (itM T b n)) → qa (mj_cst ys) 63 10 [(0, .ref (cl 18 0)), (1, .int (nI N)), (2, .int f), (3, .int (nI i))] [] σ Q := by
  intro n
  induction n with
  | zero =>
    intro i hi σ hR hf h1 hC
    have e : i = N := by omega
    subst e
    refine qa_s (pc' := 11) at_63_10 rfl rfl rfl ?_
    refine qa_s (pc' := 12) at_63_11 rfl rfl rfl ?_
    refine qn_icmp_ge (tg := 72) (nx := 15) at_63_12 rfl rfl (by omega) (by omega) (fun h63_12 => ?_) (fun h63_12 => ?_)
    · refine qa_s (pc' := 73) at_63_72 rfl rfl rfl ?_
      refine qa_getR (nx := 76) at_63_73 rfl (by decide) rfl rfl (by decide) ?_
      refine qa_getI (nx := 79) at_63_76 rfl (by decide) rfl rfl (by decide) ?_
      refine qa_s (pc' := 80) at_63_79 rfl rfl rfl ?_
      refine qa_s (pc' := 81) at_63_80 rfl rfl rfl ?_
      refine qa_ret at_63_81 rfl ?_
      exact K σ hR hf h1 hC
    · omega
  | succ n ih =>
    intro i hi σ hR hf h1 hC
    have h5 : T ≤ 5 := hR.1.1
    have step : ∀ σ2, Rel T (mix σ2 (itM T b (i + 1))) → fr σ2 σ0 → σ2 18 0 0 = 1 → CyOk T (itM T b i) → qa (mj_cst ys) 63 66 [(0, .ref (cl 18 0)), (1, .int (nI N)), (2, .int f), (3, .int (nI i))] [] σ2 Q := by
      intro σ2 g1 g2 g3 g4
      have ih' := ih (i + 1) (by omega) σ2 g1 g2 g3 (fun n hn => by by_cases e : n = i; (subst e; exact g4); exact hC n (by omega))
      refine qa_incN (nx := 69) (c := 1) at_63_66 (by decide) rfl rfl rfl ?_
      refine qa_goto (nx := 10) at_63_69 rfl ?_
      exact ih'
    refine qa_s (pc' := 11) at_63_10 rfl rfl rfl ?_
    refine qa_s (pc' := 12) at_63_11 rfl rfl rfl ?_
    refine qn_icmp_ge (tg := 72) (nx := 15) at_63_12 rfl rfl (by omega) (by omega) (fun h63_12 => ?_) (fun h63_12 => ?_)
    · omega
    · refine qa_s (pc' := 16) at_63_15 rfl rfl rfl ?_
      refine qa_callV (nx := 19) at_63_16 rfl rfl (Nat.le_of_ble_eq_true rfl) rfl rfl rfl (by decide) rfl (by decide) ?_
      show qa _ 64 0 [(0, .ref _)] [] _ _
      refine c64_q hR h1 (fun σ1 g1 g2 g3 => ?_)
      show qa _ 63 19 _ [] _ _
      refine qa_s (pc' := 20) at_63_19 rfl rfl rfl ?_
      refine qa_s (pc' := 21) at_63_20 rfl rfl rfl ?_
      refine qa_callV (nx := 24) at_63_21 rfl rfl (Nat.le_of_ble_eq_true rfl) rfl rfl rfl (by decide) rfl (by decide) ?_
      show qa _ 70 0 [(0, .ref _)] [] _ _
      refine c70_q g1 g3 ?_
      have hcy := CyOk_of hR g1 g3
      cases hc : chM (relsM (itM T b i) T) T with
      | none =>
        have hid := idle_Rel g1 g3 hc
        show qa _ 63 24 _ [.int _, .ref _] _ _
        refine qa_put (nx := 27) at_63_24 rfl (by decide) rfl rfl rfl (by decide) ?_
        refine qa_s (pc' := 28) at_63_27 rfl rfl rfl ?_
        refine qa_s (pc' := 29) at_63_28 rfl rfl rfl ?_
        refine qa_getI (nx := 32) at_63_29 rfl (by decide) rfl rfl (by decide) ?_
        refine qa_ic (nx := 33) (v := nI 1) at_63_32 (by decide) rfl ?_
        refine qa_s (pc' := 34) at_63_33 rfl rfl rfl ?_
        refine qa_put (nx := 37) at_63_34 rfl (by decide) rfl rfl rfl (by decide) ?_
        refine qa_s (pc' := 38) at_63_37 rfl rfl rfl ?_
        refine qa_getI (nx := 41) at_63_38 rfl (by decide) rfl rfl (by decide) ?_
        refine qa_ic (nx := 42) (v := (-1)) at_63_41 (by decide) rfl ?_
        refine qa_icmp_ne (tg := 58) (nx := 45) at_63_42 rfl rfl (fun h63_42 => ?_) (fun h63_42 => ?_)
        · exact absurd rfl h63_42
        · refine qa_s (pc' := 46) at_63_45 rfl rfl rfl ?_
          refine qa_s (pc' := 47) at_63_46 rfl rfl rfl ?_
          refine qa_getI (nx := 50) at_63_47 rfl (by decide) rfl rfl (by decide) ?_
          refine qa_ic (nx := 51) (v := nI 1) at_63_50 (by decide) rfl ?_
          refine qa_s (pc' := 52) at_63_51 rfl rfl rfl ?_
          refine qa_put (nx := 55) at_63_52 rfl (by decide) rfl rfl rfl (by decide) ?_
          refine qa_goto (nx := 66) at_63_55 rfl ?_
          exact step _ hid (fr_up (by decide) (fr_up (by decide) (fr_up (by decide) (fr_trans g2 hf)))) g3 hcy
      | some j =>
        have hj := chM_lt hc
        have hj5 : j < 5 := by omega
        have ha : σ1 29 j 0 = 1 := by obtain ⟨-, -, -, -, t0, tb, -⟩ := (Rn_of g1 g3 5).2.2.2.2.2.1 j hj.1; exact z1 tb (fun g => hj.2 (t0.trans g))
        have eit : itM T b (i + 1) = gpM (gvM (tkM (relsM (itM T b i) T) (nI j)) j) j := by show cgM _ T = _; unfold cgM; rw [hc]
        show qa _ 63 24 _ [.int _, .ref _] _ _
        refine qa_put (nx := 27) at_63_24 rfl (by decide) rfl rfl rfl (by decide) ?_
        refine qa_s (pc' := 28) at_63_27 rfl rfl rfl ?_
        refine qa_s (pc' := 29) at_63_28 rfl rfl rfl ?_
        refine qa_getI (nx := 32) at_63_29 rfl (by decide) rfl rfl (by decide) ?_
        refine qa_ic (nx := 33) (v := nI 1) at_63_32 (by decide) rfl ?_
        refine qa_s (pc' := 34) at_63_33 rfl rfl rfl ?_
        refine qa_put (nx := 37) at_63_34 rfl (by decide) rfl rfl rfl (by decide) ?_
        refine qa_s (pc' := 38) at_63_37 rfl rfl rfl ?_
        refine qa_getI (nx := 41) at_63_38 rfl (by decide) rfl rfl (by decide) ?_
        refine qa_ic (nx := 42) (v := (-1)) at_63_41 (by decide) rfl ?_
        refine qa_icmp_ne (tg := 58) (nx := 45) at_63_42 rfl rfl (fun h63_42 => ?_) (fun h63_42 => ?_)
        · refine qa_s (pc' := 59) at_63_58 rfl rfl rfl ?_
          refine qa_s (pc' := 60) at_63_59 rfl rfl rfl ?_
          refine qa_getV (nx := 63) (v := nI j) at_63_60 rfl (by decide) rfl rfl (by decide) (show _ from rfl) ?_
          refine qa_callV (nx := 66) at_63_63 rfl rfl (Nat.le_of_ble_eq_true rfl) rfl rfl rfl (by decide) rfl (by decide) ?_
          show qa _ 72 0 [(0, .ref _), (1, .int _)] [] _ _
          refine c72_q hj.1 (tk_Rel (v := nI j) g1 g3) g3 ha (fun σ3 f1 f2 f3 => ?_)
          show qa _ 63 66 _ [] _ _
          exact step _ (by rw [eit]; exact f1) (fr_trans f2 (fr_up (by decide) (fr_up (by decide) (fr_trans g2 hf)))) f3 hcy
        · exact absurd h63_42 (m1_ne (by omega))
theorem c63_q {N : Nat} (hN : N ≤ 500) (hR : Rel T (mix σ b)) (h1 : σ 18 0 0 = 1) (K : ∀ σ1, Rel T (mix σ1 (itM T b N)) → fr σ1 σ → σ1 18 0 0 = 1 → (∀ n, n < N → CyOk T (itM T b n)) → Q (some (.int (σ1 21 0 0 - σ 21 0 0))) σ1) : qa (mj_cst ys) 63 0 [(0, .ref (cl 18 0)), (1, .int (nI N))] [] σ Q := by
  refine qa_s (pc' := 1) at_63_0 rfl rfl rfl ?_
  refine qa_getR (nx := 4) at_63_1 rfl (by decide) rfl rfl (by decide) ?_
  refine qa_getI (nx := 7) at_63_4 rfl (by decide) rfl rfl (by decide) ?_
  refine qa_s (pc' := 8) at_63_7 rfl rfl rfl ?_
  refine qa_ic (nx := 9) (v := nI 0) at_63_8 (by decide) rfl ?_
  refine qa_s (pc' := 10) at_63_9 rfl rfl rfl ?_
  exact c63_l hN K N 0 (by omega) σ hR fr_refl h1 (fun n hn => absurd hn (by omega))
theorem c62_q {x : Int32} (hR : Rel T σ) (k0 : ¬ (¬ σ 18 0 0 = 0 ∧ (nI 1 ≤ x ∧ x ≤ nI 500)) → Q (some (.int (-1))) σ) (K : ¬ σ 18 0 0 = 0 → (nI 1 ≤ x ∧ x ≤ nI 500) → ∀ N : Nat, N ≤ 500 → x = nI N → ∀ σ1, Rel T (mix σ1 (itM T σ N)) → fr σ1 σ → σ1 18 0 0 = 1 → (∀ n, n < N → CyOk T (itM T σ n)) → Q (some (.int (σ1 21 0 0 - σ 21 0 0))) σ1) : qa (mj_cst ys) 62 0 [(0, .ref (cl 0 0)), (1, .int x)] [] σ Q := by
  refine qa_s (pc' := 1) at_62_0 rfl rfl rfl ?_
  refine qa_getR (nx := 4) at_62_1 rfl (by decide) rfl rfl (by decide) ?_
  refine qa_getI (nx := 7) at_62_4 rfl (by decide) rfl rfl (by decide) ?_
  refine qa_if_eq (tg := 32) (nx := 10) at_62_7 rfl rfl (fun h62_7 => ?_) (fun h62_7 => ?_)
  · refine qa_ic (nx := 33) (v := (-1)) at_62_32 (by decide) rfl ?_
    refine qa_ret at_62_33 rfl ?_
    first | exact K h62_7 hp N hN' rfl _ g1 g2 g3 g4 | exact k0 (fun g => by first | exact g.1 h62_7 | exact bi_z h62_18 g.2)
  · refine qa_s (pc' := 11) at_62_10 rfl rfl rfl ?_
    refine qa_ic (nx := 12) (v := nI 1) at_62_11 (by decide) rfl ?_
    refine qa_si (nx := 15) (v := nI 500) at_62_12 (by decide) rfl ?_
    refine qa_callS (nx := 18) at_62_15 rfl rfl (Nat.le_of_ble_eq_true rfl) rfl rfl (by decide) rfl ?_
    show qa _ 11 0 [(0, .int _), (1, .int _), (2, .int _)] [] _ _
    refine c11_q ?_
    show qa _ 62 18 _ [.int _] _ _
    refine qa_if_eq (tg := 32) (nx := 21) at_62_18 rfl rfl (fun h62_18 => ?_) (fun h62_18 => ?_)
    · refine qa_ic (nx := 33) (v := (-1)) at_62_32 (by decide) rfl ?_
      refine qa_ret at_62_33 rfl ?_
      first | exact K h62_7 hp N hN' rfl _ g1 g2 g3 g4 | exact k0 (fun g => by first | exact g.1 h62_7 | exact bi_z h62_18 g.2)
    · have hp := bi_n h62_18
      obtain ⟨N, hN', rfl⟩ := iz_of (m := 500) (by decide) ⟨by have := hp.1; have e0 : (nI 0).toInt = 0 := (by decide); have e1 : (nI 1).toInt = 1 := (by decide); simp only [Int32.le_iff_toInt_le] at this ⊢; omega, hp.2⟩
      refine qa_s (pc' := 22) at_62_21 rfl rfl rfl ?_
      refine qa_getR (nx := 25) at_62_22 rfl (by decide) rfl rfl (by decide) ?_
      refine qa_s (pc' := 26) at_62_25 rfl rfl rfl ?_
      refine qa_callV (nx := 29) at_62_26 rfl rfl (Nat.le_of_ble_eq_true rfl) rfl rfl rfl (by decide) rfl (by decide) ?_
      show qa _ 63 0 [(0, .ref _), (1, .int _)] [] _ _
      refine c63_q hN' (b := σ) (by rw [mix_self]; exact hR) (z1 hR.1.2.2.2.2.2.1 h62_7) (fun σ1 g1 g2 g3 g4 => ?_)
      show qa _ 62 29 _ [.int _] _ _
      refine qa_goto (nx := 33) at_62_29 rfl ?_
      refine qa_ret at_62_33 rfl ?_
      first | exact K h62_7 hp N hN' rfl _ g1 g2 g3 g4 | exact k0 (fun g => by first | exact g.1 h62_7 | exact bi_z h62_18 g.2)
theorem chR_m {τ : sg} : ∀ n (b : sg), chR b j n → chR (mix τ b) j n := by
  intro n
  induction n with
  | zero => intro b h; exact h
  | succ n ih =>
    intro b h
    obtain ⟨r, hr, e, h⟩ := h
    refine ⟨r, hr, e, fun h0 h1 => ?_⟩
    have := ih _ (h h0 h1)
    rw [mix_upM (by decide), mix_upM (by decide)] at this
    exact this
theorem CyOk_m {τ : sg} (h : CyOk T b) : CyOk T (mix τ b) := by
  obtain ⟨h0, hb, hP⟩ := h
  refine ⟨h0, ?_, fun j hc => ?_⟩
  · rw [← relsM_m]; exact hb
  · rw [← relsM_m, chM_m] at hc
    rw [← relsM_m, ← tkM_m, ← gvM_m, ← mix_upM (by decide)]
    obtain ⟨r, k, o, x, g1, g2, g3, g4, g5, g6, g7, g8, g9, g10, g11, g12⟩ := hP j hc
    refine ⟨r, k, o, x, g1, g2, g3, g4, g5, g6, g7, g8, g9, g10, g11, fun hnz => ?_⟩
    have := chR_m (τ := τ) 3 _ (g12 hnz)
    rw [opM_m, stpM_m] at this
    exact this
theorem p_run (hR : Rel T σ) (x : Int32) : pair (mj_cst ys) 62 130 [.int x] σ := by
  obtain ⟨h5, h04, h40, hf, hf', ho, ho', hm, hof⟩ := hR.1
  show qa (mj_cst ys) 62 0 [(0, .ref (cl 0 0)), (1, .int x)] [] σ _
  refine c62_q hR (fun h => ?_) (fun hg hx N hN ex σ1 g1 g2 g3 g4 => ?_)
  · show qa (mj_cst ys) 130 0 [(0, .ref (cl 40 0)), (1, .int x)] [] σ _
    refine c130_q (T := T) h5 (fun _ => ⟨_, rfl, rfl, T, hR⟩) (fun b0 b1 => absurd ⟨by rw [← ho']; exact b0, b1⟩ h)
  · show qa (mj_cst ys) 130 0 [(0, .ref (cl 40 0)), (1, .int x)] [] σ1 _
    have em : mix σ1 σ = σ1 := mix_fr g2
    have eit : ∀ n, itM T σ1 n = mix σ1 (itM T σ n) := fun n => by rw [itM_m, em]
    have e2 : σ1 40 = σ 40 := g2 40 (by decide)
    refine c130_q (T := T) h5 (fun h => ?_) (fun b0 b1 => ⟨N, hN, ex, fun n hn => by rw [eit]; exact CyOk_m (g4 n hn), ?_⟩)
    · exact absurd ⟨by rw [e2, ho']; exact hg, hx⟩ h
    · rw [eit]
      refine ⟨_, rfl, ?_, T, g1⟩
      have q29 := (Rn_of g1 g3 5).2.2.1.2.2.2.2.2.2.2
      have q29' : σ 40 0 29 = σ 21 0 0 := (Rn_of hR (z1 ho hg) 5).2.2.1.2.2.2.2.2.2.2
      rw [e2, q29', q29]
      rfl
end PQ
