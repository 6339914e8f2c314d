/-! the fourth call: both sides together -/
section PA
variable {ys : List Int32} {σ σ1 σ2 : sg} {Q : Option Value → sg → Prop} {T k i r w s : Nat} {L : Nat → Nat} {P Y : Nat → Nat → Nat} {per dl : Nat → Nat}
theorem bad_rt (h : bad L P Y i r k w) : ¬ rtOk L P Y i r := by
  obtain ⟨h1, h2, h3, h4, h5, h6, h7⟩ := h
  intro g
  unfold why at h5
  by_cases c : k < L (3 * i + r)
  · rw [if_pos c, g.1 k c] at h5
    omega
  · obtain rfl : k = L (3 * i + r) := by omega
    rw [if_neg c, if_neg g.2.1, g.2.2, if_neg (by omega)] at h5
    omega
theorem bad_u {i' r' k' w' : Nat} (h : bad L P Y i r k w) (h' : bad L P Y i' r' k' w') (ho : ∀ j, j < i → ∀ q, q < 3 → rtOk L P Y j q) (ho' : ∀ j, j < i' → ∀ q, q < 3 → rtOk L P Y j q) : i = i' ∧ r = r' ∧ k = k' ∧ w = w' := by
  have ei : i = i' := by
    by_cases c : i < i'
    · exact absurd (ho' i c r h.1) (bad_rt h)
    · by_cases c' : i' < i
      · exact absurd (ho i' c' r' h'.1) (bad_rt h')
      · omega
  subst ei
  have er : r = r' := by
    by_cases c : r < r'
    · exact absurd (h'.2.1 r c) (bad_rt h)
    · by_cases c' : r' < r
      · exact absurd (h.2.1 r' c') (bad_rt h')
      · omega
  subst er
  have one : ∀ {k k' w : Nat}, k < k' → bad L P Y i r k w → bad L P Y i r k' w' → False := by
    intro k k' w c h h'
    have z := h'.2.2.2.1 k c
    have h5 := h.2.2.2.2.1
    unfold why at h5
    rw [if_pos (by have := h'.2.2.1; omega), z] at h5
    have := h.2.2.2.2.2.1
    omega
  have one' : ∀ {k k' : Nat}, k' < k → bad L P Y i r k w → bad L P Y i r k' w' → False := by
    intro k k' c h h'
    have z := h.2.2.2.1 k' c
    have h5 := h'.2.2.2.2.1
    unfold why at h5
    rw [if_pos (by have := h.2.2.1; omega), z] at h5
    have := h'.2.2.2.2.2.1
    omega
  have ek : k = k' := by
    by_cases c : k < k'
    · exact (one c h h').elim
    · by_cases c' : k' < k
      · exact (one' c' h h').elim
      · omega
  subst ek
  exact ⟨rfl, rfl, rfl, h.2.2.2.2.1.symm.trans h'.2.2.2.2.1⟩
theorem scF_ge {p y tot : Nat → Nat} {l w : Nat} : ∀ k, w ≤ scF p y tot l s w k := by
  intro k
  induction k with
  | zero => exact Nat.le_refl _
  | succ k ih =>
    simp only [scF]
    split
    · exact Nat.le_trans ih (Nat.le_max_left _ _)
    · exact ih
theorem scF_up {p y tot : Nat → Nat} {l w k : Nat} : ∀ m, scF p y tot l s w k ≤ scF p y tot l s w (k + m) := by
  intro m
  induction m with
  | zero => exact Nat.le_refl _
  | succ m ih =>
    rw [← Nat.add_assoc]
    simp only [scF]
    split
    · exact Nat.le_trans ih (Nat.le_max_left _ _)
    · exact ih
theorem SC_up : ∀ m r, SC L P Y i s r ≤ SC L P Y i s (r + m) := by
  intro m
  induction m with
  | zero => intro r; exact Nat.le_refl _
  | succ m ih => intro r; exact Nat.le_trans (ih r) (scF_ge _)
theorem SC_pos (hD : ∀ r, r < 3 → SD L P Y i r) (hr : r < 3) (hk : k < L (3 * i + r)) (h8 : P (3 * i + r) k = 8) : 0 < Sx L P Y i (Y (3 * i + r) k) := by
  have h1 := (sec_b (hD 2 (by decide)) (hD 1 (by decide)) (hD r hr) hk h8).1
  have h2 : secA (P (3 * i + r)) (Y (3 * i + r)) (tq L P Y i r) (L (3 * i + r)) k ≤ scF (P (3 * i + r)) (Y (3 * i + r)) (tq L P Y i r) (L (3 * i + r)) (Y (3 * i + r) k) (SC L P Y i (Y (3 * i + r) k) r) (k + 1) := by
    simp only [scF]
    rw [if_pos ⟨h8, trivial⟩]
    exact Nat.le_max_right _ _
  have h3 := scF_up (p := P (3 * i + r)) (y := Y (3 * i + r)) (tot := tq L P Y i r) (l := L (3 * i + r)) (s := Y (3 * i + r) k) (w := SC L P Y i (Y (3 * i + r) k) r) (k := k + 1) (L (3 * i + r) - (k + 1))
  rw [show k + 1 + (L (3 * i + r) - (k + 1)) = L (3 * i + r) by omega] at h3
  have h4 := SC_up (L := L) (P := P) (Y := Y) (i := i) (s := Y (3 * i + r) k) (3 - (r + 1)) (r + 1)
  rw [show r + 1 + (3 - (r + 1)) = 3 by omega] at h4
  exact Nat.lt_of_lt_of_le h1 (Nat.le_trans h2 (Nat.le_trans h3 h4))
theorem Snd_of (hT : T ≤ 5) (hC : ImC L P Y σ) (hok : ∀ j, j < T → ∀ q, q < 3 → rtOk L P Y j q) (hD : ∀ i, i < T → ∀ r, r < 3 → SD L P Y i r) (hM : ∀ j, j < T → ∀ q, q < 3 → mtAll (P (3 * j + q)) (3 * j + q) (L (3 * j + q)) σ) (hN : ∀ j, j < T → ∀ q, q < 3 → mtAllM (P (3 * j + q)) (3 * j + q) (L (3 * j + q)) σ) (h10 : ∀ s, s < 4 → σ 10 0 s = Cx L P Y T s) : Snd T σ := by
  refine ⟨fun s hs => ?_, fun i hi => ⟨?_, fun r hr z k hz hk hz12 => ?_⟩⟩
  · rw [h10 s hs]
    rcases CEF_r (S := Sx L P Y) (s := s) T hT with ⟨z, _⟩ | ⟨c, hc, z, _, _⟩
    · exact Or.inl z
    · exact Or.inr ⟨c, hc, z⟩
  · have h0 := (hok i hi 0 (by decide)).2.1
    exact ⟨L (3 * i), by have : ¬ L (3 * i) = 0 := fun e => h0 ⟨rfl, e⟩; omega, (hC (3 * i) (by omega)).1, (hC (3 * i) (by omega)).2.1⟩
  · obtain ⟨hL, e13, h2⟩ := hC (3 * i + r) (by omega)
    obtain rfl : z = L (3 * i + r) := (nI_inj (by omega) (by omega)).mp (hz.symm.trans e13)
    obtain ⟨hP, e14, h16⟩ := h2 k (by omega)
    have hDr := hD i hi r hr
    have op : ∀ q : Nat, q < 15 → σ 14 (3 * i + r) k = nI q → P (3 * i + r) k = q := fun q hq e => (nI_inj (by omega) (by omega)).mp (e14.symm.trans e)
    refine ⟨fun g => ?_, fun g => ?_, fun g => ?_, fun g => ?_⟩
    · have o := op 5 (by decide) g
      exact ⟨_, (h16 (by omega)).1, (hDr.2.2.1 k hk o).2⟩
    · have o := op 10 (by decide) g
      obtain ⟨c1, c2, c3⟩ := hDr.2.1 k hk o
      exact ⟨_, L (3 * i + Y (3 * i + r) k), (h16 (by omega)).1, c1, c2, (hC _ (by omega)).2.1, c3, (hC _ (by omega)).1⟩
    · have o : P (3 * i + r) k = 7 ∨ P (3 * i + r) k = 9 := by
        rcases g with g | g
        · exact Or.inl (op 7 (by decide) g)
        · exact Or.inr (op 9 (by decide) g)
      have hq := opn_lt hDr.1 hk o
      refine ⟨opn (P (3 * i + r)) k, hq, (hM i hi r hr k hk o).1, (hN i hi r hr k hk o).1, fun g9 => ?_⟩
      have o9 := op 9 (by decide) g9
      rw [(h2 (opn (P (3 * i + r)) k) (by omega)).2.1, (hDr.1.2.2.2.2.1 k hk o9).2]
      rfl
    · have o := op 8 (by decide) g
      have hy := hDr.2.2.2.2 k hk o
      have hp := SC_pos (hD i hi) hr hk o
      rcases CEF_r (S := Sx L P Y) (s := Y (3 * i + r) k) T hT with ⟨_, z⟩ | ⟨c, hc, z, _, z2⟩
      · have := z i hi; omega
      · refine ⟨_, c, hy, (h16 (by omega)).1, ?_, by rw [h10 _ hy]; exact z⟩
        by_cases q : i < c
        · have := z2 i q; omega
        · omega
abbrev tch : List Nat := [2, 3, 4, 5, 7, 8, 9, 10, 13, 17, 40, 47, 50, 51, 52, 53, 54, 55, 56, 57]
theorem Rel_ad (hR : Rel T σ) (hon : σ 18 0 0 = 0) (hs : ∀ a, a ∉ tch → σ2 a = σ a) (h13 : ∀ n, σ2 13 n 4 = σ 13 n 4) (h40 : ∀ j, j ≠ 1 → j ≠ 3 → j ≠ 14 → σ2 40 0 j = σ 40 0 j) (f : σ2 4 0 0 = 0 ∨ σ2 4 0 0 = 1) (f' : σ2 40 0 1 = σ2 4 0 0) (hm : σ2 40 0 3 = σ2 2 0 0) (hF : RF T σ2) : Rel T σ2 := by
  obtain ⟨hA, hTt, hI, hP, _, hJ, _⟩ := hR
  obtain ⟨a1, a2, a3, a4, a5, a6, a7, a8, a9⟩ := hA
  have s18 : σ2 18 = σ 18 := hs 18 (by decide)
  refine ⟨⟨a1, ?_, ?_, f, f', ?_, ?_, hm, ?_⟩, ?_, ?_, ?_, hF, ?_, ?_⟩
  · rw [hs 0 (by decide)]; exact a2
  · rw [h40 0 (by decide) (by decide) (by decide)]; exact a3
  · rw [s18]; exact a6
  · rw [s18, h40 2 (by decide) (by decide) (by decide)]; exact a7
  · rw [s18, hon]; intro e; exact absurd e (by decide)
  · unfold RT
    rw [hs 41 (by decide), hs 42 (by decide), hs 43 (by decide), hs 11 (by decide)]
    exact hTt
  · intro n hn
    rw [hs 48 (by decide), hs 44 (by decide), hs 45 (by decide), hs 46 (by decide), hs 14 (by decide), hs 15 (by decide), hs 16 (by decide), h13 n]
    exact hI n hn
  · unfold RP
    rw [hs 49 (by decide)]
    exact hP
  · unfold RJ
    rw [hs 78 (by decide), hs 79 (by decide), hs 80 (by decide), hs 81 (by decide), hs 22 (by decide), hs 23 (by decide), hs 24 (by decide), hs 25 (by decide), hs 59 (by decide), hs 60 (by decide), hs 62 (by decide), hs 63 (by decide), hs 64 (by decide), hs 65 (by decide), hs 66 (by decide), hs 70 (by decide), hs 67 (by decide), hs 68 (by decide), hs 69 (by decide), hs 29 (by decide), hs 30 (by decide), hs 31 (by decide), hs 32 (by decide), hs 34 (by decide)]
    exact hJ
  · intro e
    rw [s18, hon] at e
    exact absurd e (by decide)
theorem p_admit (hR : Rel T σ) : pair (mj_cst ys) 20 106 [] σ := by
  obtain ⟨hA, hTt, hI, hP, hF, hJ, hRR⟩ := id hR
  obtain ⟨h5, h04, h40, hf, hf', ho, ho', hm, hof⟩ := id hA
  obtain ⟨L, P, Y, hC, hN⟩ := Im_of hI
  have hPD : ∃ per dl : Nat → Nat, (∀ j, j < T → σ 11 j 1 = nI (per j) ∧ 1 ≤ per j ∧ per j ≤ 5000) ∧ ∀ j, j < T → σ 11 j 2 = nI (dl j) ∧ 1 ≤ dl j ∧ dl j ≤ 5000 := by
    refine ⟨fun j => (σ 11 j 1).toInt.toNat, fun j => (σ 11 j 2).toInt.toNat, fun j hj => ?_, fun j hj => ?_⟩
    · obtain ⟨_, _, _, ⟨p, d, p1, p2, p3, d1, d2, d3⟩, _⟩ := hTt j hj
      have e : (σ 11 j 1).toInt.toNat = p := by rw [p3, nI_toInt (by omega)]; rfl
      simp only [e]
      exact ⟨p3, p1, p2⟩
    · obtain ⟨_, _, _, ⟨p, d, p1, p2, p3, d1, d2, d3⟩, _⟩ := hTt j hj
      have e : (σ 11 j 2).toInt.toNat = d := by rw [d3, nI_toInt (by omega)]; rfl
      simp only [e]
      exact ⟨d3, d1, by omega⟩
  obtain ⟨per, dl, h11, hd⟩ := hPD
  have hDo : ∀ j, j < T → (∀ q, q < 3 → rtOk L P Y j q) → ∀ q, q < 3 → SD L P Y j q := fun j hj h q hq => SD_of (by omega) hq hC (h q hq)
  have hPr : ∀ o, o < 15 → σ 49 0 o = nI (prN o) := fun o ho => by rw [hP o ho]; exact cost_N o ho
  have h41 : ∀ j, j < T → σ 41 0 j = nI (per j) ∧ 1 ≤ per j ∧ per j ≤ 5000 := fun j hj => by rw [(hTt j hj).1]; exact h11 j hj
  have hd2 : ∀ j, j < T → σ 42 0 j = nI (dl j) ∧ 1 ≤ dl j ∧ dl j ≤ 5000 := fun j hj => by rw [(hTt j hj).2.1]; exact hd j hj
  have ref : ∀ σ1 : sg, (∀ a, a ∉ tch → σ1 a = σ a) → σ1 40 = σ 40 → σ1 40 0 0 = nI T ∧ ImM L P Y σ1 ∧ (∀ o, o < 15 → σ1 49 0 o = nI (prN o)) ∧ (∀ j, j < T → σ1 41 0 j = nI (per j) ∧ 1 ≤ per j ∧ per j ≤ 5000) ∧ (∀ j, j < T → σ1 42 0 j = nI (dl j) ∧ 1 ≤ dl j ∧ dl j ≤ 5000) ∧ σ1 40 0 2 = σ 18 0 0 := fun σ1 h h4 =>
    ⟨by rw [h4]; exact h40, ImM_of (σ := σ) (h 48 (by decide)) (h 44 (by decide)) (h 46 (by decide)) hN, by rw [h 49 (by decide)]; exact hPr, by rw [h 41 (by decide)]; exact h41, by rw [h 42 (by decide)]; exact hd2, by rw [h4]; exact ho'⟩
  have frE_s : ∀ {σ2 σ1 : sg}, frE σ2 σ1 → ∀ a, a ∉ tch → σ2 a = σ1 a := fun {σ2 σ1} h a ha => by
    have ne : ∀ x, x ∈ tch → a ≠ x := fun x hx e => ha (e ▸ hx)
    exact h.1 a (ne 40 (by decide)) (ne 47 (by decide)) (ne 50 (by decide)) (ne 51 (by decide)) (ne 52 (by decide)) (ne 53 (by decide)) (ne 54 (by decide)) (ne 55 (by decide)) (ne 56 (by decide)) (ne 57 (by decide))
  have frM_s : ∀ {σ2 σ1 : sg}, frM1 σ2 σ1 → ∀ a, a ∉ tch → σ2 a = σ1 a := fun {σ2 σ1} h a ha => by
    have ne : ∀ x, x ∈ tch → a ≠ x := fun x hx e => ha (e ▸ hx)
    exact h.1 a (ne 40 (by decide)) (ne 47 (by decide)) (ne 50 (by decide))
  have frC_s : ∀ {σ1 : sg}, frC σ1 σ → ∀ a, a ∉ tch → σ1 a = σ a := fun {σ1} h a ha => by
    have ne : ∀ x, x ∈ tch → a ≠ x := fun x hx e => ha (e ▸ hx)
    exact h.1 a (ne 2 (by decide)) (ne 3 (by decide)) (ne 4 (by decide)) (ne 5 (by decide)) (ne 7 (by decide)) (ne 8 (by decide)) (ne 9 (by decide)) (ne 10 (by decide)) (ne 13 (by decide)) (ne 17 (by decide))
  have up_s2 : ∀ a, a ∉ tch → up (up σ 4 0 0 (nI 0)) 2 0 0 (-1) a = σ a := fun a ha => by
    have ne : ∀ x, x ∈ tch → a ≠ x := fun x hx e => ha (e ▸ hx)
    rw [up_k (ne 2 (by decide)), up_k (ne 4 (by decide))]
  have frB_s : ∀ {σ1 : sg}, frC1 σ1 (up (up σ 4 0 0 (nI 0)) 2 0 0 (-1)) → ∀ a, a ∉ tch → σ1 a = σ a := fun {σ1} h a ha => by
    have ne : ∀ x, x ∈ tch → a ≠ x := fun x hx e => ha (e ▸ hx)
    rw [h.1 a (ne 2 (by decide)) (ne 3 (by decide)) (ne 13 (by decide)) (ne 17 (by decide))]
    exact up_s2 a ha
  show qa (mj_cst ys) 20 0 [(0, .ref (cl 0 0))] [] σ _
  refine c20_q (per := per) (dl := dl) h5 h04 hC h11 hd (fun hon => ?_) (fun hon h0 => ?_) (fun i r k w σ1 hon hi hok hb f1 f2 => ?_) (fun hon hT0 hok σ1 f1 f2 f3 f4 f5 => ?_)
  · -- a run is on
    show qa (mj_cst ys) 106 0 [(0, .ref (cl 40 0))] [] σ _
    obtain ⟨r0, r1, r2, r3, r4, r5⟩ := ref σ (fun _ _ => rfl) rfl
    exact c106_q (per := per) (dl := dl) h5 r0 r1 hDo r2 r3 r4 (fun _ => ⟨_, rfl, rfl, T, hR⟩) (fun h => absurd (r5 ▸ h) hon) (fun i r k w σ1 h => absurd (r5 ▸ h) hon) (fun h => absurd (r5 ▸ h) hon)
  · -- no task
    show qa (mj_cst ys) 106 0 [(0, .ref (cl 40 0))] [] (up (up σ 4 0 0 (nI 0)) 2 0 0 (-1)) _
    obtain ⟨r0, r1, r2, r3, r4, r5⟩ := ref (up (up σ 4 0 0 (nI 0)) 2 0 0 (-1)) up_s2 rfl
    refine c106_q (per := per) (dl := dl) h5 r0 r1 hDo r2 r3 r4 (fun h => absurd (r5.trans hon) h) (fun _ _ => ⟨_, rfl, rfl, T, ?_⟩) (fun i r k w σ1 _ hi => by omega) (fun _ hT0 => by omega)
    refine Rel_ad hR hon (fun a ha => ?_) (fun n => rfl) (fun j q1 q2 q3 => ?_) (Or.inl rfl) rfl rfl (fun e => absurd (show (0 : Int32) = 1 from e) (by decide))
    · have n40 : a ≠ 40 := by rintro rfl; exact ha (by decide)
      rw [up_k n40, up_k n40]
      exact up_s2 a ha
    · rw [up_j q1, up_j q2]; rfl
  · -- a reason
    show qa (mj_cst ys) 106 0 [(0, .ref (cl 40 0))] [] σ1 _
    have e40 : σ1 40 = σ 40 := by rw [f1.1 40 (by decide) (by decide) (by decide) (by decide)]; rfl
    obtain ⟨r0, r1, r2, r3, r4, r5⟩ := ref σ1 (frB_s f1) e40
    refine c106_q (per := per) (dl := dl) h5 r0 r1 hDo r2 r3 r4 (fun h => absurd (r5.trans hon) h) (fun _ h0 => by omega) (fun i' r' k' w' σ2 _ hi' hok' hb' g1 g2 => ?_) (fun _ _ hok' => absurd (hok' i hi r hb.1) (bad_rt hb))
    obtain ⟨rfl, rfl, rfl, rfl⟩ := bad_u hb hb' hok hok'
    refine ⟨_, rfl, rfl, T, ?_⟩
    have u40 : ∀ j, j ≠ 14 → j ≠ 3 → σ2 40 0 j = up (up σ1 40 0 3 (-1)) 40 0 1 (nI 0) 40 0 j := g1.2
    have k4 : σ2 4 0 0 = 0 := by
      rw [g1.1 4 (by decide) (by decide) (by decide)]
      show σ1 4 0 0 = 0
      rw [f1.1 4 (by decide) (by decide) (by decide) (by decide)]
      rfl
    refine Rel_ad hR hon (fun a ha => ?_) (fun n => ?_) (fun j q1 q2 q3 => ?_) (Or.inl k4) ?_ ?_ (fun e => absurd (k4.symm.trans e) (by decide))
    · have n40 : a ≠ 40 := by rintro rfl; exact ha (by decide)
      rw [frM_s g1 a ha, up_k n40, up_k n40]
      exact frB_s f1 a ha
    · rw [g1.1 13 (by decide) (by decide) (by decide)]
      show σ1 13 n 4 = _
      rw [f1.2 n 4 (by decide)]
      rfl
    · rw [u40 j q3 q2, up_j q1, up_j q2, e40]
    · rw [u40 1 (by decide) (by decide), up_s, k4]; rfl
    · rw [g2, g1.1 2 (by decide) (by decide) (by decide)]
      exact f2.symm
  · -- figures
    show qa (mj_cst ys) 106 0 [(0, .ref (cl 40 0))] [] σ1 _
    have e40 : σ1 40 = σ 40 := f1.1 40 (by decide) (by decide) (by decide) (by decide) (by decide) (by decide) (by decide) (by decide) (by decide) (by decide)
    obtain ⟨r0, r1, r2, r3, r4, r5⟩ := ref σ1 (frC_s f1) e40
    refine c106_q (per := per) (dl := dl) h5 r0 r1 hDo r2 r3 r4 (fun h => absurd (r5.trans hon) h) (fun _ h0 => by omega) (fun i' r' k' w' σ2 _ hi' hok' hb' g1 g2 => absurd (hok i' hi' r' hb'.1) (bad_rt hb')) (fun _ _ _ σ2 g1 g2 g3 g4 g5 => ⟨_, rfl, rfl, T, ?_⟩)
    have cls : ∀ a, a < 40 → σ2 a = σ1 a := fun a ha => g1.1 a (by omega) (by omega) (by omega) (by omega) (by omega) (by omega) (by omega) (by omega) (by omega) (by omega)
    have k4 : σ2 4 0 0 = 1 := by rw [cls 4 (by decide)]; exact f4
    have hD : ∀ i, i < T → ∀ r, r < 3 → SD L P Y i r := fun i hi r hr => hDo i hi (hok i hi) r hr
    refine Rel_ad hR hon (fun a ha => ?_) (fun n => ?_) (fun j q1 q2 q3 => ?_) (Or.inr k4) ?_ ?_ (fun _ => ⟨fun i hi => ?_, fun s hs => ?_, ?_⟩)
    · rw [frE_s g1 a ha]; exact frC_s f1 a ha
    · rw [cls 13 (by decide)]; exact f1.2 n 4 (by decide) (by decide)
    · rw [g1.2 j q1 q2 q3, e40]
    · rw [g4, k4]; rfl
    · rw [g5, cls 2 (by decide)]; exact f5.symm
    · obtain ⟨x1, x2, x3, x4⟩ := f2.1 i hi
      obtain ⟨y1, y2, y3, y4⟩ := g2.1 i hi
      refine ⟨?_, ?_, ?_, fun s hs => ?_⟩
      · rw [y1, cls 5 (by decide)]; exact x1.symm
      · rw [y2, cls 8 (by decide)]; exact x2.symm
      · rw [y3, cls 9 (by decide)]; exact x3.symm
      · rw [y4 s hs, cls 7 (by decide)]; exact (x4 s hs).symm
    · rw [g2.2 s hs, cls 10 (by decide)]; exact (f2.2 s hs).symm
    · refine Snd_of h5 (ImC_of (σ := σ) (fun n => ?_) ?_ ?_ hC) hok hD (fun j hj q hq c hc hpc => ?_) g3 (fun s hs => ?_)
      · rw [cls 13 (by decide)]; exact f1.2 n 4 (by decide) (by decide)
      · rw [cls 14 (by decide)]; exact frC_s f1 14 (by decide)
      · rw [cls 16 (by decide)]; exact frC_s f1 16 (by decide)
      · rw [cls 17 (by decide)]; exact f3 j hj q hq c hc hpc
      · rw [cls 10 (by decide)]; exact f2.2 s hs
end PA
