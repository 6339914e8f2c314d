/-! job -/
set_option maxRecDepth 100000 in
theorem tb_sh : ∀ h, h < 16 → ∀ s, s < 4 → ((nI h >>> (nI s &&& 31) &&& nI 1) = nI 1 ↔ h.testBit s = true) := by decide +kernel
section PQ
variable {cst : List (List Int32)} {σ : sg} {Q : Option Value → sg → Prop} {T : Nat}
theorem c135_l {i h : Nat} (hi : i < 5) (hh : h < 16) (h64 : σ 64 0 i = nI h) (k : Q (some (.int (actF (σ 57 0) h 4 (nI i)))) σ) : ∀ n s, s + n = 4 → qa cst 135 4 [(0, .ref (cl 40 0)), (1, .int (nI i)), (2, .int (actF (σ 57 0) h s (nI i))), (3, .int (nI s))] [] σ Q := by
  intro n
  induction n with
  | zero =>
    intro s hs
    obtain rfl : s = 4 := by omega
    refine qa_s (pc' := 5) at_135_4 rfl rfl rfl ?_
    refine qa_ic (nx := 6) (v := nI 4) at_135_5 (by decide) rfl ?_
    refine qn_icmp_ge (tg := 50) (nx := 9) at_135_6 rfl rfl (by decide) (by decide) (fun h135_6 => ?_) (fun h => absurd h (by decide))
    refine qa_s (pc' := 51) at_135_50 rfl rfl rfl ?_
    refine qa_ret at_135_51 rfl ?_
    exact k
  | succ n ih =>
    intro s hs
    have hs4 : s < 4 := by omega
    have step : ∀ v, actF (σ 57 0) h (s + 1) (nI i) = v → qa cst 135 44 [(0, .ref (cl 40 0)), (1, .int (nI i)), (2, .int v), (3, .int (nI s))] [] σ Q := by
      intro v hv
      subst hv
      refine qa_incN (nx := 47) (c := 1) at_135_44 (by decide) rfl rfl rfl ?_
      refine qa_goto (nx := 4) at_135_47 rfl ?_
      exact ih (s + 1) (by omega)
    refine qa_s (pc' := 5) at_135_4 rfl rfl rfl ?_
    refine qa_ic (nx := 6) (v := nI 4) at_135_5 (by decide) rfl ?_
    refine qn_icmp_ge (tg := 50) (nx := 9) at_135_6 rfl rfl (by omega) (by omega) (fun h135_6 => ?_) (fun h135_6 => ?_)
    · omega
    · refine qa_s (pc' := 10) at_135_9 rfl rfl rfl ?_
      refine qa_getR (nx := 13) at_135_10 rfl (by decide) rfl rfl (by decide) ?_
      refine qa_s (pc' := 14) at_135_13 rfl rfl rfl ?_
      refine qa_ialdV (nx := 15) (k := i) (v := nI h) at_135_14 rfl rfl rfl (by decide) rfl (show i < 5 by omega) (show _ from h64) ?_
      refine qa_s (pc' := 16) at_135_15 rfl rfl rfl ?_
      refine qa_s (pc' := 17) at_135_16 rfl rfl rfl ?_
      refine qa_ic (nx := 18) (v := nI 1) at_135_17 (by decide) rfl ?_
      refine qa_s (pc' := 19) at_135_18 rfl rfl rfl ?_
      refine qa_ic (nx := 20) (v := nI 1) at_135_19 (by decide) rfl ?_
      refine qa_icmp_ne (tg := 42) (nx := 23) at_135_20 rfl rfl (fun h135_20 => ?_) (fun h135_20 => ?_)
      · refine qa_s (pc' := 43) at_135_42 rfl rfl rfl ?_
        refine qa_s (pc' := 44) at_135_43 rfl rfl rfl ?_
        exact step _ (by simp only [actF]; first | rw [if_neg (fun a => by first | exact h135_20 ((tb_sh h hh s hs4).mpr a.1) | exact absurd a.2 (by simp only [Int32.le_iff_toInt_le, Int32.lt_iff_toInt_lt] at *; omega))] | rw [if_pos ⟨(tb_sh h hh s hs4).mp h135_20, by simp only [Int32.le_iff_toInt_le, Int32.lt_iff_toInt_lt] at *; omega⟩])
      · refine qa_s (pc' := 24) at_135_23 rfl rfl rfl ?_
        refine qa_getR (nx := 27) at_135_24 rfl (by decide) rfl rfl (by decide) ?_
        refine qa_s (pc' := 28) at_135_27 rfl rfl rfl ?_
        refine qa_iald (nx := 29) (k := s) at_135_28 rfl rfl rfl (by decide) rfl (show s < 4 by omega) ?_
        refine qa_s (pc' := 30) at_135_29 rfl rfl rfl ?_
        refine qa_icmp_ge (tg := 42) (nx := 33) at_135_30 rfl rfl (fun h135_30 => ?_) (fun h135_30 => ?_)
        · refine qa_s (pc' := 43) at_135_42 rfl rfl rfl ?_
          refine qa_s (pc' := 44) at_135_43 rfl rfl rfl ?_
          exact step _ (by simp only [actF]; first | rw [if_neg (fun a => by first | exact h135_20 ((tb_sh h hh s hs4).mpr a.1) | exact absurd a.2 (by simp only [Int32.le_iff_toInt_le, Int32.lt_iff_toInt_lt] at *; omega))] | rw [if_pos ⟨(tb_sh h hh s hs4).mp h135_20, by simp only [Int32.le_iff_toInt_le, Int32.lt_iff_toInt_lt] at *; omega⟩])
        · refine qa_s (pc' := 34) at_135_33 rfl rfl rfl ?_
          refine qa_getR (nx := 37) at_135_34 rfl (by decide) rfl rfl (by decide) ?_
          refine qa_s (pc' := 38) at_135_37 rfl rfl rfl ?_
          refine qa_iald (nx := 39) (k := s) at_135_38 rfl rfl rfl (by decide) rfl (show s < 4 by omega) ?_
          refine qa_goto (nx := 43) at_135_39 rfl ?_
          refine qa_s (pc' := 44) at_135_43 rfl rfl rfl ?_
          exact step _ (by simp only [actF]; first | rw [if_neg (fun a => by first | exact h135_20 ((tb_sh h hh s hs4).mpr a.1) | exact absurd a.2 (by simp only [Int32.le_iff_toInt_le, Int32.lt_iff_toInt_lt] at *; omega))] | rw [if_pos ⟨(tb_sh h hh s hs4).mp h135_20, by simp only [Int32.le_iff_toInt_le, Int32.lt_iff_toInt_lt] at *; omega⟩])
theorem c135_q {i h : Nat} (hi : i < 5) (hh : h < 16) (h64 : σ 64 0 i = nI h) (k : Q (some (.int (actF (σ 57 0) h 4 (nI i)))) σ) : qa cst 135 0 [(0, .ref (cl 40 0)), (1, .int (nI i))] [] σ Q := by
  refine qa_s (pc' := 1) at_135_0 rfl rfl rfl ?_
  refine qa_s (pc' := 2) at_135_1 rfl rfl rfl ?_
  refine qa_ic (nx := 3) (v := nI 0) at_135_2 (by decide) rfl ?_
  refine qa_s (pc' := 4) at_135_3 rfl rfl rfl ?_
  exact c135_l hi hh h64 k 4 0 rfl
theorem actF_congr {c c' : Nat → Int32} {h : Nat} {a : Int32} (n : Nat) (hc : ∀ s, s < n → c s = c' s) : actF c h n a = actF c' h n a := by
  induction n with
  | zero => rfl
  | succ n ih => simp only [actF]; rw [ih (fun s hs => hc s (by omega)), hc n (by omega)]
theorem p_job (hR : Rel T σ) (x : Int32) (y : Int32) : pair cst 93 142 [.int x, .int y] σ := by
  obtain ⟨hA, hTt, hI, hP, hF, hJ, hRR⟩ := id hR
  obtain ⟨h5, h04, h40, hf, hf', ho, ho', hm, hof⟩ := id hA
  show qa cst 93 0 [(0, .ref (cl 0 0)), (1, .int x), (2, .int y)] [] σ _
  refine qa_s (pc' := 1) at_93_0 rfl rfl rfl ?_
  refine qa_s (pc' := 2) at_93_1 rfl rfl rfl ?_
  refine qa_callV (nx := 5) at_93_2 rfl rfl (Nat.le_of_ble_eq_true rfl) rfl rfl rfl (by decide) rfl (by decide) ?_
  show qa _ 59 0 [(0, .ref _), (1, .int _)] [] _ _
  refine c59_q ?_
  show qa _ 93 5 _ [.int _] _ _
  refine qa_if_eq (tg := 20) (nx := 8) at_93_5 rfl rfl (fun h93_5 => ?_) (fun h93_5 => ?_)
  · refine qa_ic (nx := 21) (v := (-1)) at_93_20 (by decide) rfl ?_
    refine qa_ret at_93_21 rfl ?_
    show qa _ 142 0 [(0, .ref _), (1, .int _), (2, .int _)] [] _ _
    have hbad : ¬ σ 40 0 2 = 0 → ¬ bi (0 ≤ x ∧ x < σ 40 0 0) = 0 → False := fun a1 a3 => bi_z h93_5 ⟨by rw [← ho']; exact a1, by rw [h04, ← h40]; exact bi_n a3⟩
    refine qa_s (pc' := 1) at_142_0 rfl rfl rfl ?_
    refine qa_getI (nx := 4) at_142_1 rfl (by decide) rfl rfl (by decide) ?_
    refine qa_if_eq (tg := 33) (nx := 7) at_142_4 rfl rfl (fun h142_4 => ?_) (fun h142_4 => ?_)
    · refine qa_ic (nx := 34) (v := (-1)) at_142_33 (by decide) rfl ?_
      refine qa_ret at_142_34 rfl ?_
      exact ⟨_, rfl, rfl, T, hR⟩
    · refine qa_s (pc' := 8) at_142_7 rfl rfl rfl ?_
      refine qa_s (pc' := 9) at_142_8 rfl rfl rfl ?_
      refine qa_callV (nx := 12) at_142_9 rfl rfl (Nat.le_of_ble_eq_true rfl) rfl rfl rfl (by decide) rfl (by decide) ?_
      show qa _ 103 0 [(0, .ref _), (1, .int _)] [] _ _
      refine c103_q ?_
      show qa _ 142 12 _ [.int _] _ _
      refine qa_if_eq (tg := 33) (nx := 15) at_142_12 rfl rfl (fun h142_12 => ?_) (fun h142_12 => ?_)
      · refine qa_ic (nx := 34) (v := (-1)) at_142_33 (by decide) rfl ?_
        refine qa_ret at_142_34 rfl ?_
        exact ⟨_, rfl, rfl, T, hR⟩
      · exact (hbad h142_4 h142_12).elim
  · have hbe := bi_n h93_5
    have ho1 := hbe.1
    have hp := hbe.2
    rw [h04] at hp
    obtain ⟨i, hi, rfl⟩ := ix_of (by omega) hp
    obtain ⟨q6, q22, q23, q24, q25, q26, q27, q28, q29, qp, qm, qt, qh⟩ := hRR (z1 ho ho1)
    obtain ⟨qw, qd, qtp, qwt, qhas, qbo, qjo⟩ := qt i hi
    have hi5 : i < 5 := by omega
    obtain ⟨j59, j60, j62, j63, j64, j65, j66, j70, j67⟩ := hJ.2.1 i hi5
    refine qa_s (pc' := 9) at_93_8 rfl rfl rfl ?_
    refine qa_getR (nx := 12) at_93_9 rfl (by decide) rfl rfl (by decide) ?_
    refine qa_s (pc' := 13) at_93_12 rfl rfl rfl ?_
    refine qa_s (pc' := 14) at_93_13 rfl rfl rfl ?_
    refine qa_callV (nx := 17) at_93_14 rfl rfl (Nat.le_of_ble_eq_true rfl) rfl rfl rfl (by decide) rfl (by decide) ?_
    show qa _ 94 0 [(0, .ref _), (1, .int _), (2, .int _)] [] _ _
    refine qa_s (pc' := 1) at_94_0 rfl rfl rfl ?_
    refine qa_getR (nx := 4) at_94_1 rfl (by decide) rfl rfl (by decide) ?_
    refine qa_s (pc' := 5) at_94_4 rfl rfl rfl ?_
    refine qa_aald (nx := 6) (k := i) at_94_5 (by decide) rfl rfl (by decide) rfl (show i < 5 by omega) ?_
    refine qa_getR (nx := 9) at_94_6 rfl (by decide) rfl rfl (show _ < 5 by omega) ?_
    refine qa_s (pc' := 10) at_94_9 rfl rfl rfl ?_
    refine qa_s (pc' := 11) at_94_10 rfl rfl rfl ?_
    refine qa_getI (nx := 14) at_94_11 rfl (by decide) rfl rfl (show _ < 5 by omega) ?_
    refine qa_if_ne (tg := 19) (nx := 17) at_94_14 rfl rfl (fun h94_14 => ?_) (fun h94_14 => ?_)
    · refine qa_s (pc' := 20) at_94_19 rfl rfl rfl ?_
      by_cases hsw : y.toInt < 0 ∨ 3 < y.toInt
      · refine qa_swo (nx := 77) at_94_20 hsw rfl ?_
        refine qa_ic (nx := 78) (v := (-1)) at_94_77 (by decide) rfl ?_
        refine qa_ret at_94_78 rfl ?_
        show qa _ 93 17 _ [.int _] _ _
        refine qa_goto (nx := 21) at_93_17 rfl ?_
        refine qa_ret at_93_21 rfl ?_
        show qa _ 142 0 [(0, .ref _), (1, .int _), (2, .int _)] [] _ _
        refine qa_s (pc' := 1) at_142_0 rfl rfl rfl ?_
        refine qa_getI (nx := 4) at_142_1 rfl (by decide) rfl rfl (by decide) ?_
        refine qa_if_eq (tg := 33) (nx := 7) at_142_4 rfl rfl (fun h142_4 => ?_) (fun h142_4 => ?_)
        · exact absurd (ho' ▸ h142_4) (hbe.1)
        · refine qa_s (pc' := 8) at_142_7 rfl rfl rfl ?_
          refine qa_s (pc' := 9) at_142_8 rfl rfl rfl ?_
          refine qa_callV (nx := 12) at_142_9 rfl rfl (Nat.le_of_ble_eq_true rfl) rfl rfl rfl (by decide) rfl (by decide) ?_
          show qa _ 103 0 [(0, .ref _), (1, .int _)] [] _ _
          refine c103_q ?_
          show qa _ 142 12 _ [.int _] _ _
          refine qa_if_eq (tg := 33) (nx := 15) at_142_12 rfl rfl (fun h142_12 => ?_) (fun h142_12 => ?_)
          · exact absurd (by rw [h40]; exact ix_in (by omega) hi) (bi_z h142_12)
          · refine qa_s (pc' := 16) at_142_15 rfl rfl rfl ?_
            refine qa_getR (nx := 19) at_142_16 rfl (by decide) rfl rfl (by decide) ?_
            refine qa_s (pc' := 20) at_142_19 rfl rfl rfl ?_
            refine qa_zald (nx := 21) (k := i) at_142_20 rfl rfl rfl (by decide) rfl (show i < 5 by omega) ?_
            refine qa_if_eq (tg := 33) (nx := 24) at_142_21 rfl rfl (fun h142_21 => ?_) (fun h142_21 => ?_)
            · exact absurd (qhas ▸ h142_21) h94_14
            · refine qa_s (pc' := 25) at_142_24 rfl rfl rfl ?_
              refine qa_ic (nx := 26) (v := nI 0) at_142_25 (by decide) rfl ?_
              refine qa_ic (nx := 27) (v := nI 3) at_142_26 (by decide) rfl ?_
              refine qa_callS (nx := 30) at_142_27 rfl rfl (Nat.le_of_ble_eq_true rfl) rfl rfl (by decide) rfl ?_
              show qa _ 101 0 [(0, .int _), (1, .int _), (2, .int _)] [] _ _
              refine c101_q ?_
              show qa _ 142 30 _ [.int _] _ _
              refine qa_if_ne (tg := 35) (nx := 33) at_142_30 rfl rfl (fun h142_30 => ?_) (fun h142_30 => ?_)
              · exact absurd (bi_n h142_30) (fun h => by obtain ⟨s, hs, rfl⟩ := iz_of (by decide) h; rw [nI_toInt (by omega)] at hsw; omega)
              · refine qa_ic (nx := 34) (v := (-1)) at_142_33 (by decide) rfl ?_
                refine qa_ret at_142_34 rfl ?_
                exact ⟨_, rfl, rfl, T, hR⟩
      · obtain ⟨jsw, hjl, rfl⟩ := sw_of (n := 3) (by decide) (by simpa using hsw)
        have hjc : jsw = 0 ∨ jsw = 1 ∨ jsw = 2 ∨ jsw = 3 := by omega
        rcases hjc with rfl | rfl | rfl | rfl
        · refine qa_swi (nx := 52) at_94_20 (by decide +kernel) (show _ = some (32) by decide +kernel) rfl ?_
          refine qa_s (pc' := 53) at_94_52 rfl rfl rfl ?_
          refine qa_getI (nx := 56) at_94_53 rfl (by decide) rfl rfl (show _ < 5 by omega) ?_
          refine qa_ret at_94_56 rfl ?_
          show qa _ 93 17 _ [.int _] _ _
          refine qa_goto (nx := 21) at_93_17 rfl ?_
          refine qa_ret at_93_21 rfl ?_
          show qa _ 142 0 [(0, .ref _), (1, .int _), (2, .int _)] [] _ _
          obtain ⟨hh, a1, a2, a3, a4⟩ := (qjo (z1 qbo h94_14)).2.2.1
          refine qa_s (pc' := 1) at_142_0 rfl rfl rfl ?_
          refine qa_getI (nx := 4) at_142_1 rfl (by decide) rfl rfl (by decide) ?_
          refine qa_if_eq (tg := 33) (nx := 7) at_142_4 rfl rfl (fun h142_4 => ?_) (fun h142_4 => ?_)
          · exact absurd (ho' ▸ h142_4) (hbe.1)
          · refine qa_s (pc' := 8) at_142_7 rfl rfl rfl ?_
            refine qa_s (pc' := 9) at_142_8 rfl rfl rfl ?_
            refine qa_callV (nx := 12) at_142_9 rfl rfl (Nat.le_of_ble_eq_true rfl) rfl rfl rfl (by decide) rfl (by decide) ?_
            show qa _ 103 0 [(0, .ref _), (1, .int _)] [] _ _
            refine c103_q ?_
            show qa _ 142 12 _ [.int _] _ _
            refine qa_if_eq (tg := 33) (nx := 15) at_142_12 rfl rfl (fun h142_12 => ?_) (fun h142_12 => ?_)
            · exact absurd (by rw [h40]; exact ix_in (by omega) hi) (bi_z h142_12)
            · refine qa_s (pc' := 16) at_142_15 rfl rfl rfl ?_
              refine qa_getR (nx := 19) at_142_16 rfl (by decide) rfl rfl (by decide) ?_
              refine qa_s (pc' := 20) at_142_19 rfl rfl rfl ?_
              refine qa_zald (nx := 21) (k := i) at_142_20 rfl rfl rfl (by decide) rfl (show i < 5 by omega) ?_
              refine qa_if_eq (tg := 33) (nx := 24) at_142_21 rfl rfl (fun h142_21 => ?_) (fun h142_21 => ?_)
              · exact absurd (qhas ▸ h142_21) h94_14
              · refine qa_s (pc' := 25) at_142_24 rfl rfl rfl ?_
                refine qa_ic (nx := 26) (v := nI 0) at_142_25 (by decide) rfl ?_
                refine qa_ic (nx := 27) (v := nI 3) at_142_26 (by decide) rfl ?_
                refine qa_callS (nx := 30) at_142_27 rfl rfl (Nat.le_of_ble_eq_true rfl) rfl rfl (by decide) rfl ?_
                show qa _ 101 0 [(0, .int _), (1, .int _), (2, .int _)] [] _ _
                refine c101_q ?_
                show qa _ 142 30 _ [.int _] _ _
                refine qa_if_ne (tg := 35) (nx := 33) at_142_30 rfl rfl (fun h142_30 => ?_) (fun h142_30 => ?_)
                · refine qa_s (pc' := 36) at_142_35 rfl rfl rfl ?_
                  refine qn_if_ne (tg := 47) (nx := 39) at_142_36 rfl rfl (by decide) (fun h => absurd h (by decide)) (fun h142_36 => ?_)
                  refine qa_s (pc' := 40) at_142_39 rfl rfl rfl ?_
                  refine qa_s (pc' := 41) at_142_40 rfl rfl rfl ?_
                  refine qa_callV (nx := 44) at_142_41 rfl rfl (Nat.le_of_ble_eq_true rfl) rfl rfl rfl (by decide) rfl (by decide) ?_
                  show qa _ 135 0 [(0, .ref _), (1, .int _)] [] _ _
                  refine c135_q hi5 a1 (j64.trans a2) ?_
                  show qa _ 142 44 _ [.int _] _ _
                  refine qa_goto (nx := 86) at_142_44 rfl ?_
                  refine qa_ret at_142_86 rfl ?_
                  exact ⟨_, by rw [a3], by rw [actF_congr 4 (fun s hs => (hF (hof (z1 ho ho1))).2.1 s hs)], T, hR⟩
                · exact absurd h142_30 (by decide +kernel)
        · refine qa_swi (nx := 57) at_94_20 (by decide +kernel) (show _ = some (37) by decide +kernel) rfl ?_
          refine qa_s (pc' := 58) at_94_57 rfl rfl rfl ?_
          refine qa_getI (nx := 61) at_94_58 rfl (by decide) rfl rfl (by decide) ?_
          refine qa_s (pc' := 62) at_94_61 rfl rfl rfl ?_
          refine qa_getI (nx := 65) at_94_62 rfl (by decide) rfl rfl (show _ < 5 by omega) ?_
          refine qa_s (pc' := 66) at_94_65 rfl rfl rfl ?_
          refine qa_ret at_94_66 rfl ?_
          show qa _ 93 17 _ [.int _] _ _
          refine qa_goto (nx := 21) at_93_17 rfl ?_
          refine qa_ret at_93_21 rfl ?_
          show qa _ 142 0 [(0, .ref _), (1, .int _), (2, .int _)] [] _ _
          refine qa_s (pc' := 1) at_142_0 rfl rfl rfl ?_
          refine qa_getI (nx := 4) at_142_1 rfl (by decide) rfl rfl (by decide) ?_
          refine qa_if_eq (tg := 33) (nx := 7) at_142_4 rfl rfl (fun h142_4 => ?_) (fun h142_4 => ?_)
          · exact absurd (ho' ▸ h142_4) (hbe.1)
          · refine qa_s (pc' := 8) at_142_7 rfl rfl rfl ?_
            refine qa_s (pc' := 9) at_142_8 rfl rfl rfl ?_
            refine qa_callV (nx := 12) at_142_9 rfl rfl (Nat.le_of_ble_eq_true rfl) rfl rfl rfl (by decide) rfl (by decide) ?_
            show qa _ 103 0 [(0, .ref _), (1, .int _)] [] _ _
            refine c103_q ?_
            show qa _ 142 12 _ [.int _] _ _
            refine qa_if_eq (tg := 33) (nx := 15) at_142_12 rfl rfl (fun h142_12 => ?_) (fun h142_12 => ?_)
            · exact absurd (by rw [h40]; exact ix_in (by omega) hi) (bi_z h142_12)
            · refine qa_s (pc' := 16) at_142_15 rfl rfl rfl ?_
              refine qa_getR (nx := 19) at_142_16 rfl (by decide) rfl rfl (by decide) ?_
              refine qa_s (pc' := 20) at_142_19 rfl rfl rfl ?_
              refine qa_zald (nx := 21) (k := i) at_142_20 rfl rfl rfl (by decide) rfl (show i < 5 by omega) ?_
              refine qa_if_eq (tg := 33) (nx := 24) at_142_21 rfl rfl (fun h142_21 => ?_) (fun h142_21 => ?_)
              · exact absurd (qhas ▸ h142_21) h94_14
              · refine qa_s (pc' := 25) at_142_24 rfl rfl rfl ?_
                refine qa_ic (nx := 26) (v := nI 0) at_142_25 (by decide) rfl ?_
                refine qa_ic (nx := 27) (v := nI 3) at_142_26 (by decide) rfl ?_
                refine qa_callS (nx := 30) at_142_27 rfl rfl (Nat.le_of_ble_eq_true rfl) rfl rfl (by decide) rfl ?_
                show qa _ 101 0 [(0, .int _), (1, .int _), (2, .int _)] [] _ _
                refine c101_q ?_
                show qa _ 142 30 _ [.int _] _ _
                refine qa_if_ne (tg := 35) (nx := 33) at_142_30 rfl rfl (fun h142_30 => ?_) (fun h142_30 => ?_)
                · refine qa_s (pc' := 36) at_142_35 rfl rfl rfl ?_
                  refine qn_if_ne (tg := 47) (nx := 39) at_142_36 rfl rfl (by decide) (fun h142_36 => ?_) (fun h => absurd h (by decide))
                  refine qa_s (pc' := 48) at_142_47 rfl rfl rfl ?_
                  refine qa_ic (nx := 49) (v := nI 1) at_142_48 (by decide) rfl ?_
                  refine qn_icmp_ne (tg := 66) (nx := 52) at_142_49 rfl rfl (by decide) (by decide) (fun h => absurd h (by decide)) (fun h142_49 => ?_)
                  refine qa_s (pc' := 53) at_142_52 rfl rfl rfl ?_
                  refine qa_getI (nx := 56) at_142_53 rfl (by decide) rfl rfl (by decide) ?_
                  refine qa_s (pc' := 57) at_142_56 rfl rfl rfl ?_
                  refine qa_getR (nx := 60) at_142_57 rfl (by decide) rfl rfl (by decide) ?_
                  refine qa_s (pc' := 61) at_142_60 rfl rfl rfl ?_
                  refine qa_iald (nx := 62) (k := i) at_142_61 rfl rfl rfl (by decide) rfl (show i < 5 by omega) ?_
                  refine qa_s (pc' := 63) at_142_62 rfl rfl rfl ?_
                  refine qa_goto (nx := 86) at_142_63 rfl ?_
                  refine qa_ret at_142_86 rfl ?_
                  exact ⟨_, rfl, by rw [q22, j60], T, hR⟩
                · exact absurd h142_30 (by decide +kernel)
        · refine qa_swi (nx := 67) at_94_20 (by decide +kernel) (show _ = some (47) by decide +kernel) rfl ?_
          refine qa_s (pc' := 68) at_94_67 rfl rfl rfl ?_
          refine qa_getI (nx := 71) at_94_68 rfl (by decide) rfl rfl (show _ < 5 by omega) ?_
          refine qa_ret at_94_71 rfl ?_
          show qa _ 93 17 _ [.int _] _ _
          refine qa_goto (nx := 21) at_93_17 rfl ?_
          refine qa_ret at_93_21 rfl ?_
          show qa _ 142 0 [(0, .ref _), (1, .int _), (2, .int _)] [] _ _
          refine qa_s (pc' := 1) at_142_0 rfl rfl rfl ?_
          refine qa_getI (nx := 4) at_142_1 rfl (by decide) rfl rfl (by decide) ?_
          refine qa_if_eq (tg := 33) (nx := 7) at_142_4 rfl rfl (fun h142_4 => ?_) (fun h142_4 => ?_)
          · exact absurd (ho' ▸ h142_4) (hbe.1)
          · refine qa_s (pc' := 8) at_142_7 rfl rfl rfl ?_
            refine qa_s (pc' := 9) at_142_8 rfl rfl rfl ?_
            refine qa_callV (nx := 12) at_142_9 rfl rfl (Nat.le_of_ble_eq_true rfl) rfl rfl rfl (by decide) rfl (by decide) ?_
            show qa _ 103 0 [(0, .ref _), (1, .int _)] [] _ _
            refine c103_q ?_
            show qa _ 142 12 _ [.int _] _ _
            refine qa_if_eq (tg := 33) (nx := 15) at_142_12 rfl rfl (fun h142_12 => ?_) (fun h142_12 => ?_)
            · exact absurd (by rw [h40]; exact ix_in (by omega) hi) (bi_z h142_12)
            · refine qa_s (pc' := 16) at_142_15 rfl rfl rfl ?_
              refine qa_getR (nx := 19) at_142_16 rfl (by decide) rfl rfl (by decide) ?_
              refine qa_s (pc' := 20) at_142_19 rfl rfl rfl ?_
              refine qa_zald (nx := 21) (k := i) at_142_20 rfl rfl rfl (by decide) rfl (show i < 5 by omega) ?_
              refine qa_if_eq (tg := 33) (nx := 24) at_142_21 rfl rfl (fun h142_21 => ?_) (fun h142_21 => ?_)
              · exact absurd (qhas ▸ h142_21) h94_14
              · refine qa_s (pc' := 25) at_142_24 rfl rfl rfl ?_
                refine qa_ic (nx := 26) (v := nI 0) at_142_25 (by decide) rfl ?_
                refine qa_ic (nx := 27) (v := nI 3) at_142_26 (by decide) rfl ?_
                refine qa_callS (nx := 30) at_142_27 rfl rfl (Nat.le_of_ble_eq_true rfl) rfl rfl (by decide) rfl ?_
                show qa _ 101 0 [(0, .int _), (1, .int _), (2, .int _)] [] _ _
                refine c101_q ?_
                show qa _ 142 30 _ [.int _] _ _
                refine qa_if_ne (tg := 35) (nx := 33) at_142_30 rfl rfl (fun h142_30 => ?_) (fun h142_30 => ?_)
                · refine qa_s (pc' := 36) at_142_35 rfl rfl rfl ?_
                  refine qn_if_ne (tg := 47) (nx := 39) at_142_36 rfl rfl (by decide) (fun h142_36 => ?_) (fun h => absurd h (by decide))
                  refine qa_s (pc' := 48) at_142_47 rfl rfl rfl ?_
                  refine qa_ic (nx := 49) (v := nI 1) at_142_48 (by decide) rfl ?_
                  refine qn_icmp_ne (tg := 66) (nx := 52) at_142_49 rfl rfl (by decide) (by decide) (fun h142_49 => ?_) (fun h => absurd h (by decide))
                  refine qa_s (pc' := 67) at_142_66 rfl rfl rfl ?_
                  refine qa_ic (nx := 68) (v := nI 2) at_142_67 (by decide) rfl ?_
                  refine qn_icmp_ne (tg := 80) (nx := 71) at_142_68 rfl rfl (by decide) (by decide) (fun h => absurd h (by decide)) (fun h142_68 => ?_)
                  refine qa_s (pc' := 72) at_142_71 rfl rfl rfl ?_
                  refine qa_getR (nx := 75) at_142_72 rfl (by decide) rfl rfl (by decide) ?_
                  refine qa_s (pc' := 76) at_142_75 rfl rfl rfl ?_
                  refine qa_iald (nx := 77) (k := i) at_142_76 rfl rfl rfl (by decide) rfl (show i < 5 by omega) ?_
                  refine qa_goto (nx := 86) at_142_77 rfl ?_
                  refine qa_ret at_142_86 rfl ?_
                  exact ⟨_, rfl, by rw [j63], T, hR⟩
                · exact absurd h142_30 (by decide +kernel)
        · refine qa_swi (nx := 72) at_94_20 (by decide +kernel) (show _ = some (52) by decide +kernel) rfl ?_
          refine qa_s (pc' := 73) at_94_72 rfl rfl rfl ?_
          refine qa_getI (nx := 76) at_94_73 rfl (by decide) rfl rfl (show _ < 5 by omega) ?_
          refine qa_ret at_94_76 rfl ?_
          show qa _ 93 17 _ [.int _] _ _
          refine qa_goto (nx := 21) at_93_17 rfl ?_
          refine qa_ret at_93_21 rfl ?_
          show qa _ 142 0 [(0, .ref _), (1, .int _), (2, .int _)] [] _ _
          refine qa_s (pc' := 1) at_142_0 rfl rfl rfl ?_
          refine qa_getI (nx := 4) at_142_1 rfl (by decide) rfl rfl (by decide) ?_
          refine qa_if_eq (tg := 33) (nx := 7) at_142_4 rfl rfl (fun h142_4 => ?_) (fun h142_4 => ?_)
          · exact absurd (ho' ▸ h142_4) (hbe.1)
          · refine qa_s (pc' := 8) at_142_7 rfl rfl rfl ?_
            refine qa_s (pc' := 9) at_142_8 rfl rfl rfl ?_
            refine qa_callV (nx := 12) at_142_9 rfl rfl (Nat.le_of_ble_eq_true rfl) rfl rfl rfl (by decide) rfl (by decide) ?_
            show qa _ 103 0 [(0, .ref _), (1, .int _)] [] _ _
            refine c103_q ?_
            show qa _ 142 12 _ [.int _] _ _
            refine qa_if_eq (tg := 33) (nx := 15) at_142_12 rfl rfl (fun h142_12 => ?_) (fun h142_12 => ?_)
            · exact absurd (by rw [h40]; exact ix_in (by omega) hi) (bi_z h142_12)
            · refine qa_s (pc' := 16) at_142_15 rfl rfl rfl ?_
              refine qa_getR (nx := 19) at_142_16 rfl (by decide) rfl rfl (by decide) ?_
              refine qa_s (pc' := 20) at_142_19 rfl rfl rfl ?_
              refine qa_zald (nx := 21) (k := i) at_142_20 rfl rfl rfl (by decide) rfl (show i < 5 by omega) ?_
              refine qa_if_eq (tg := 33) (nx := 24) at_142_21 rfl rfl (fun h142_21 => ?_) (fun h142_21 => ?_)
              · exact absurd (qhas ▸ h142_21) h94_14
              · refine qa_s (pc' := 25) at_142_24 rfl rfl rfl ?_
                refine qa_ic (nx := 26) (v := nI 0) at_142_25 (by decide) rfl ?_
                refine qa_ic (nx := 27) (v := nI 3) at_142_26 (by decide) rfl ?_
                refine qa_callS (nx := 30) at_142_27 rfl rfl (Nat.le_of_ble_eq_true rfl) rfl rfl (by decide) rfl ?_
                show qa _ 101 0 [(0, .int _), (1, .int _), (2, .int _)] [] _ _
                refine c101_q ?_
                show qa _ 142 30 _ [.int _] _ _
                refine qa_if_ne (tg := 35) (nx := 33) at_142_30 rfl rfl (fun h142_30 => ?_) (fun h142_30 => ?_)
                · refine qa_s (pc' := 36) at_142_35 rfl rfl rfl ?_
                  refine qn_if_ne (tg := 47) (nx := 39) at_142_36 rfl rfl (by decide) (fun h142_36 => ?_) (fun h => absurd h (by decide))
                  refine qa_s (pc' := 48) at_142_47 rfl rfl rfl ?_
                  refine qa_ic (nx := 49) (v := nI 1) at_142_48 (by decide) rfl ?_
                  refine qn_icmp_ne (tg := 66) (nx := 52) at_142_49 rfl rfl (by decide) (by decide) (fun h142_49 => ?_) (fun h => absurd h (by decide))
                  refine qa_s (pc' := 67) at_142_66 rfl rfl rfl ?_
                  refine qa_ic (nx := 68) (v := nI 2) at_142_67 (by decide) rfl ?_
                  refine qn_icmp_ne (tg := 80) (nx := 71) at_142_68 rfl rfl (by decide) (by decide) (fun h142_68 => ?_) (fun h => absurd h (by decide))
                  refine qa_s (pc' := 81) at_142_80 rfl rfl rfl ?_
                  refine qa_getR (nx := 84) at_142_81 rfl (by decide) rfl rfl (by decide) ?_
                  refine qa_s (pc' := 85) at_142_84 rfl rfl rfl ?_
                  refine qa_iald (nx := 86) (k := i) at_142_85 rfl rfl rfl (by decide) rfl (show i < 5 by omega) ?_
                  refine qa_ret at_142_86 rfl ?_
                  exact ⟨_, rfl, by rw [j64], T, hR⟩
                · exact absurd h142_30 (by decide +kernel)
    · refine qa_ic (nx := 18) (v := (-1)) at_94_17 (by decide) rfl ?_
      refine qa_ret at_94_18 rfl ?_
      show qa _ 93 17 _ [.int _] _ _
      refine qa_goto (nx := 21) at_93_17 rfl ?_
      refine qa_ret at_93_21 rfl ?_
      show qa _ 142 0 [(0, .ref _), (1, .int _), (2, .int _)] [] _ _
      refine qa_s (pc' := 1) at_142_0 rfl rfl rfl ?_
      refine qa_getI (nx := 4) at_142_1 rfl (by decide) rfl rfl (by decide) ?_
      refine qa_if_eq (tg := 33) (nx := 7) at_142_4 rfl rfl (fun h142_4 => ?_) (fun h142_4 => ?_)
      · exact absurd (ho' ▸ h142_4) (hbe.1)
      · refine qa_s (pc' := 8) at_142_7 rfl rfl rfl ?_
        refine qa_s (pc' := 9) at_142_8 rfl rfl rfl ?_
        refine qa_callV (nx := 12) at_142_9 rfl rfl (Nat.le_of_ble_eq_true rfl) rfl rfl rfl (by decide) rfl (by decide) ?_
        show qa _ 103 0 [(0, .ref _), (1, .int _)] [] _ _
        refine c103_q ?_
        show qa _ 142 12 _ [.int _] _ _
        refine qa_if_eq (tg := 33) (nx := 15) at_142_12 rfl rfl (fun h142_12 => ?_) (fun h142_12 => ?_)
        · exact absurd (by rw [h40]; exact ix_in (by omega) hi) (bi_z h142_12)
        · refine qa_s (pc' := 16) at_142_15 rfl rfl rfl ?_
          refine qa_getR (nx := 19) at_142_16 rfl (by decide) rfl rfl (by decide) ?_
          refine qa_s (pc' := 20) at_142_19 rfl rfl rfl ?_
          refine qa_zald (nx := 21) (k := i) at_142_20 rfl rfl rfl (by decide) rfl (show i < 5 by omega) ?_
          refine qa_if_eq (tg := 33) (nx := 24) at_142_21 rfl rfl (fun h142_21 => ?_) (fun h142_21 => ?_)
          · refine qa_ic (nx := 34) (v := (-1)) at_142_33 (by decide) rfl ?_
            refine qa_ret at_142_34 rfl ?_
            exact ⟨_, rfl, rfl, T, hR⟩
          · exact absurd (qhas.trans h94_14) h142_21
end PQ
