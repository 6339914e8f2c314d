/-! code, wipe -/
section PQ
variable {ys : List Int32} {cst : List (List Int32)} {σ : sg} {Q : Option Value → sg → Prop} {T : Nat}
def cdG (T : Nat) (σ : sg) (on t rt o x y : Int32) : Prop := on = 0 ∧ ∃ i r s q : Nat, i < T ∧ t = nI i ∧ r < 3 ∧ rt = nI r ∧ σ 13 (3 * i + r) 4 = nI s ∧ s < 12 ∧ q < 15 ∧ o = nI q ∧ okL q x y
abbrev cdC (σ : sg) (n s : Nat) (o x y : Int32) : sg := up (up (up (up (up σ 14 n s o) 15 n s x) 16 n s y) 13 n 4 (nI (s + 1))) 4 0 0 (nI 0)
theorem c13_q {t rt o x y : Int32} (h04 : σ 0 0 4 = nI T) (h5 : T ≤ 5) (hI : RI σ) (k0 : ¬ cdG T σ (σ 18 0 0) t rt o x y → Q (some (.int (nI 0))) σ) (k1 : ∀ i r s q : Nat, σ 18 0 0 = 0 → i < T → t = nI i → r < 3 → rt = nI r → σ 13 (3 * i + r) 4 = nI s → s < 12 → q < 15 → o = nI q → okL q x y → Q (some (.int (nI 1))) (cdC σ (3 * i + r) s o x y)) : qa (mj_cst ys) 13 0 [(0, .ref (cl 0 0)), (1, .int t), (2, .int rt), (3, .int o), (4, .int x), (5, .int y)] [] σ Q := by
  refine qa_s (pc' := 1) at_13_0 rfl rfl rfl ?_
  refine qa_getR (nx := 4) at_13_1 rfl (by decide) rfl rfl (by decide) ?_
  refine qa_getI (nx := 7) at_13_4 rfl (by decide) rfl rfl (by decide) ?_
  refine qa_if_ne (tg := 37) (nx := 10) at_13_7 rfl rfl (fun h13_7 => ?_) (fun h13_7 => ?_)
  · refine qa_ic (nx := 38) (v := nI 0) at_13_37 (by decide) rfl ?_
    refine qa_ret at_13_38 rfl ?_
    exact k0 (fun ⟨g0, i', r', s', q', g1, g2, g3, g4, g5, g6, g7, g8, g9⟩ => by first | exact h13_7 g0 | exact hno ⟨q', g7, g8, g9⟩ | (have e1 : i = i' := (nI_eq (by omega) (by omega)).mp g2; have e2 : r = r' := (nI_eq (by omega) (by omega)).mp g4; subst e1; subst e2; have e3 : s = s' := (nI_eq (by omega) (by omega)).mp (hs1.symm.trans g5); omega) | exact bi_z h13_15 (by rw [h04, g2]; exact ix_in (by omega) g1) | exact bi_z h13_23 (by rw [g4]; exact ix_in (by decide) g3))
  · refine qa_s (pc' := 11) at_13_10 rfl rfl rfl ?_
    refine qa_s (pc' := 12) at_13_11 rfl rfl rfl ?_
    refine qa_callV (nx := 15) at_13_12 rfl rfl (Nat.le_of_ble_eq_true rfl) rfl rfl rfl (by decide) rfl (by decide) ?_
    show qa _ 14 0 [(0, .ref _), (1, .int _)] [] _ _
    refine c14_q ?_
    show qa _ 13 15 _ [.int _] _ _
    refine qa_if_eq (tg := 37) (nx := 18) at_13_15 rfl rfl (fun h13_15 => ?_) (fun h13_15 => ?_)
    · refine qa_ic (nx := 38) (v := nI 0) at_13_37 (by decide) rfl ?_
      refine qa_ret at_13_38 rfl ?_
      exact k0 (fun ⟨g0, i', r', s', q', g1, g2, g3, g4, g5, g6, g7, g8, g9⟩ => by first | exact h13_7 g0 | exact hno ⟨q', g7, g8, g9⟩ | (have e1 : i = i' := (nI_eq (by omega) (by omega)).mp g2; have e2 : r = r' := (nI_eq (by omega) (by omega)).mp g4; subst e1; subst e2; have e3 : s = s' := (nI_eq (by omega) (by omega)).mp (hs1.symm.trans g5); omega) | exact bi_z h13_15 (by rw [h04, g2]; exact ix_in (by omega) g1) | exact bi_z h13_23 (by rw [g4]; exact ix_in (by decide) g3))
    · have hp := bi_n h13_15
      rw [h04] at hp
      refine qa_s (pc' := 19) at_13_18 rfl rfl rfl ?_
      refine qa_ic (nx := 20) (v := nI 3) at_13_19 (by decide) rfl ?_
      refine qa_callS (nx := 23) at_13_20 rfl rfl (Nat.le_of_ble_eq_true rfl) rfl rfl (by decide) rfl ?_
      show qa _ 15 0 [(0, .int _), (1, .int _)] [] _ _
      refine c15_q ?_
      show qa _ 13 23 _ [.int _] _ _
      refine qa_if_eq (tg := 37) (nx := 26) at_13_23 rfl rfl (fun h13_23 => ?_) (fun h13_23 => ?_)
      · refine qa_ic (nx := 38) (v := nI 0) at_13_37 (by decide) rfl ?_
        refine qa_ret at_13_38 rfl ?_
        exact k0 (fun ⟨g0, i', r', s', q', g1, g2, g3, g4, g5, g6, g7, g8, g9⟩ => by first | exact h13_7 g0 | exact hno ⟨q', g7, g8, g9⟩ | (have e1 : i = i' := (nI_eq (by omega) (by omega)).mp g2; have e2 : r = r' := (nI_eq (by omega) (by omega)).mp g4; subst e1; subst e2; have e3 : s = s' := (nI_eq (by omega) (by omega)).mp (hs1.symm.trans g5); omega) | exact bi_z h13_15 (by rw [h04, g2]; exact ix_in (by omega) g1) | exact bi_z h13_23 (by rw [g4]; exact ix_in (by decide) g3))
      · refine qa_s (pc' := 27) at_13_26 rfl rfl rfl ?_
        refine qa_s (pc' := 29) at_13_27 rfl rfl rfl ?_
        refine qa_s (pc' := 31) at_13_29 rfl rfl rfl ?_
        refine qa_callS (nx := 34) at_13_31 rfl rfl (Nat.le_of_ble_eq_true rfl) rfl rfl (by decide) rfl ?_
        show qa _ 16 0 [(0, .int _), (1, .int _), (2, .int _)] [] _ _
        refine c16_q (fun hno => ?_) (fun q hq eq hok => ?_)
        · have hno := hno
          show qa _ 13 34 _ [.int _] _ _
          refine qn_if_ne (tg := 39) (nx := 37) at_13_34 rfl rfl (by decide) (fun h => absurd h (by decide)) (fun h13_34 => ?_)
          refine qa_ic (nx := 38) (v := nI 0) at_13_37 (by decide) rfl ?_
          refine qa_ret at_13_38 rfl ?_
          exact k0 (fun ⟨g0, i', r', s', q', g1, g2, g3, g4, g5, g6, g7, g8, g9⟩ => by first | exact h13_7 g0 | exact hno ⟨q', g7, g8, g9⟩ | (have e1 : i = i' := (nI_eq (by omega) (by omega)).mp g2; have e2 : r = r' := (nI_eq (by omega) (by omega)).mp g4; subst e1; subst e2; have e3 : s = s' := (nI_eq (by omega) (by omega)).mp (hs1.symm.trans g5); omega) | exact bi_z h13_15 (by rw [h04, g2]; exact ix_in (by omega) g1) | exact bi_z h13_23 (by rw [g4]; exact ix_in (by decide) g3))
        · have hq := hq
          show qa _ 13 34 _ [.int _] _ _
          refine qn_if_ne (tg := 39) (nx := 37) at_13_34 rfl rfl (by decide) (fun h13_34 => ?_) (fun h => absurd h (by decide))
          obtain ⟨i, hi, rfl⟩ := ix_of (by omega) hp
          obtain ⟨r, hr, rfl⟩ := ix_of (by decide) (bi_n h13_23)
          obtain ⟨⟨s, hs, hs1, hs2⟩, himg⟩ := hI (3 * i + r) (by omega)
          refine qa_s (pc' := 40) at_13_39 rfl rfl rfl ?_
          refine qa_getR (nx := 43) at_13_40 rfl (by decide) rfl rfl (by decide) ?_
          refine qa_s (pc' := 44) at_13_43 rfl rfl rfl ?_
          refine qa_aald (nx := 45) (k := i) at_13_44 (by decide) rfl rfl (by decide) rfl (show i < 5 by omega) ?_
          refine qa_getR (nx := 48) at_13_45 rfl (by decide) rfl rfl (show _ < 5 by omega) ?_
          refine qa_s (pc' := 49) at_13_48 rfl rfl rfl ?_
          refine qa_aald (nx := 50) (k := r) at_13_49 (by decide) rfl rfl (show _ < 5 by omega) rfl (show r < 3 by omega) ?_
          refine qa_s (pc' := 51) at_13_50 rfl rfl rfl ?_
          refine qa_s (pc' := 53) at_13_51 rfl rfl rfl ?_
          refine qa_s (pc' := 55) at_13_53 rfl rfl rfl ?_
          refine qa_callV (nx := 58) at_13_55 rfl rfl (Nat.le_of_ble_eq_true rfl) rfl rfl rfl (by decide) rfl (show _ < 15 by omega) ?_
          show qa _ 17 0 [(0, .ref _), (1, .int _), (2, .int _), (3, .int _)] [] _ _
          refine qa_s (pc' := 1) at_17_0 rfl rfl rfl ?_
          refine qa_getV (nx := 4) (v := nI s) at_17_1 rfl (by decide) rfl rfl (show _ < 15 by omega) (show _ from hs1) ?_
          refine qa_bi (nx := 6) (v := nI 12) at_17_4 (by decide) rfl ?_
          refine qn_icmp_lt (tg := 11) (nx := 9) at_17_6 rfl rfl (by omega) (by omega) (fun h17_6 => ?_) (fun h17_6 => ?_)
          · refine qa_s (pc' := 12) at_17_11 rfl rfl rfl ?_
            refine qa_getR (nx := 15) at_17_12 rfl (by decide) rfl rfl (show _ < 15 by omega) ?_
            refine qa_s (pc' := 16) at_17_15 rfl rfl rfl ?_
            refine qa_getV (nx := 19) (v := nI s) at_17_16 rfl (by decide) rfl rfl (show _ < 15 by omega) (show _ from hs1) ?_
            refine qa_s (pc' := 20) at_17_19 rfl rfl rfl ?_
            refine qa_iast (nx := 21) (k := s) at_17_20 rfl rfl rfl (show _ < 15 by omega) rfl (show s < 12 by omega) ?_
            refine qa_s (pc' := 22) at_17_21 rfl rfl rfl ?_
            refine qa_getR (nx := 25) at_17_22 rfl (by decide) rfl rfl (show _ < 15 by omega) ?_
            refine qa_s (pc' := 26) at_17_25 rfl rfl rfl ?_
            refine qa_getV (nx := 29) (v := nI s) at_17_26 rfl (by decide) rfl rfl (show _ < 15 by omega) (show _ from hs1) ?_
            refine qa_s (pc' := 30) at_17_29 rfl rfl rfl ?_
            refine qa_iast (nx := 31) (k := s) at_17_30 rfl rfl rfl (show _ < 15 by omega) rfl (show s < 12 by omega) ?_
            refine qa_s (pc' := 32) at_17_31 rfl rfl rfl ?_
            refine qa_getR (nx := 35) at_17_32 rfl (by decide) rfl rfl (show _ < 15 by omega) ?_
            refine qa_s (pc' := 36) at_17_35 rfl rfl rfl ?_
            refine qa_getV (nx := 39) (v := nI s) at_17_36 rfl (by decide) rfl rfl (show _ < 15 by omega) (show _ from hs1) ?_
            refine qa_s (pc' := 40) at_17_39 rfl rfl rfl ?_
            refine qa_iast (nx := 41) (k := s) at_17_40 rfl rfl rfl (show _ < 15 by omega) rfl (show s < 12 by omega) ?_
            refine qa_s (pc' := 42) at_17_41 rfl rfl rfl ?_
            refine qa_s (pc' := 43) at_17_42 rfl rfl rfl ?_
            refine qa_getV (nx := 46) (v := nI s) at_17_43 rfl (by decide) rfl rfl (show _ < 15 by omega) (show _ from hs1) ?_
            refine qa_ic (nx := 47) (v := nI 1) at_17_46 (by decide) rfl ?_
            refine qa_addN (nx := 48) at_17_47 rfl ?_
            refine qa_put (nx := 51) at_17_48 rfl (by decide) rfl rfl rfl (show _ < 15 by omega) ?_
            refine qa_ic (nx := 52) (v := nI 1) at_17_51 (by decide) rfl ?_
            refine qa_ret at_17_52 rfl ?_
            show qa _ 13 58 _ [.int _] _ _
            refine qn_if_ne (tg := 63) (nx := 61) at_13_58 rfl rfl (by decide) (fun h13_58 => ?_) (fun h => absurd h (by decide))
            refine qa_s (pc' := 64) at_13_63 rfl rfl rfl ?_
            refine qa_getR (nx := 67) at_13_64 rfl (by decide) rfl rfl (by decide) ?_
            refine qa_ic (nx := 68) (v := nI 0) at_13_67 (by decide) rfl ?_
            refine qa_put (nx := 71) at_13_68 rfl (by decide) rfl (by decide) rfl (by decide) ?_
            refine qa_ic (nx := 72) (v := nI 1) at_13_71 (by decide) rfl ?_
            refine qa_ret at_13_72 rfl ?_
            exact k1 i r s q h13_7 hi rfl hr rfl hs1 (by omega) hq eq hok
          · refine qa_ic (nx := 10) (v := nI 0) at_17_9 (by decide) rfl ?_
            refine qa_ret at_17_10 rfl ?_
            show qa _ 13 58 _ [.int _] _ _
            refine qn_if_ne (tg := 63) (nx := 61) at_13_58 rfl rfl (by decide) (fun h => absurd h (by decide)) (fun h13_58 => ?_)
            refine qa_ic (nx := 62) (v := nI 0) at_13_61 (by decide) rfl ?_
            refine qa_ret at_13_62 rfl ?_
            exact k0 (fun ⟨g0, i', r', s', q', g1, g2, g3, g4, g5, g6, g7, g8, g9⟩ => by first | exact h13_7 g0 | exact hno ⟨q', g7, g8, g9⟩ | (have e1 : i = i' := (nI_eq (by omega) (by omega)).mp g2; have e2 : r = r' := (nI_eq (by omega) (by omega)).mp g4; subst e1; subst e2; have e3 : s = s' := (nI_eq (by omega) (by omega)).mp (hs1.symm.trans g5); omega) | exact bi_z h13_15 (by rw [h04, g2]; exact ix_in (by omega) g1) | exact bi_z h13_23 (by rw [g4]; exact ix_in (by decide) g3))
abbrev cdM (σ : sg) (n s : Nat) (o x y : Int32) : sg := up (up (up (up (up σ 44 0 (n * 12 + s) o) 45 0 (n * 12 + s) x) 46 0 (n * 12 + s) y) 48 0 n (nI (s + 1))) 40 0 1 (nI 0)
theorem c102_q {t rt o x y : Int32} (h40 : σ 40 0 0 = nI T) (h5 : T ≤ 5) (hL : ∀ n, n < 15 → ∃ s : Nat, s ≤ 12 ∧ σ 48 0 n = nI s) (k0 : (¬ (σ 40 0 2 = 0 ∧ ∃ i r s q : Nat, i < T ∧ t = nI i ∧ r < 3 ∧ rt = nI r ∧ σ 48 0 (3 * i + r) = nI s ∧ s < 12 ∧ q < 15 ∧ o = nI q ∧ okL q x y)) → Q (some (.int (nI 0))) σ) (k1 : ∀ i r s q : Nat, σ 40 0 2 = 0 → i < T → t = nI i → r < 3 → rt = nI r → σ 48 0 (3 * i + r) = nI s → s < 12 → q < 15 → o = nI q → okL q x y → Q (some (.int (nI 1))) (cdM σ (3 * i + r) s o x y)) : qa (mj_cst ys) 102 0 [(0, .ref (cl 40 0)), (1, .int t), (2, .int rt), (3, .int o), (4, .int x), (5, .int y)] [] σ Q := by
  refine qa_s (pc' := 1) at_102_0 rfl rfl rfl ?_
  refine qa_getI (nx := 4) at_102_1 rfl (by decide) rfl rfl (by decide) ?_
  refine qa_if_ne (tg := 60) (nx := 7) at_102_4 rfl rfl (fun h102_4 => ?_) (fun h102_4 => ?_)
  · refine qa_ic (nx := 61) (v := nI 0) at_102_60 (by decide) rfl ?_
    refine qa_ret at_102_61 rfl ?_
    exact k0 (fun ⟨g0, i', r', s', q', g1, g2, g3, g4, g5, g6, g7, g8, g9⟩ => by first | exact h102_4 g0 | exact bi_z h102_46 (by rw [g8]; exact iz_in (by decide) (by omega)) | (have e1 : q = q' := (nI_eq (by omega) (by omega)).mp g8; subst e1; exact hno g9) | (have e1 : i = i' := (nI_eq (by omega) (by omega)).mp g2; have e2 : r = r' := (nI_eq (by omega) (by omega)).mp g4; subst e1; subst e2; have e3 : s = s' := (nI_eq (by omega) (by omega)).mp (hs1.symm.trans g5); omega) | exact bi_z h102_12 (by rw [h40, g2]; exact ix_in (by omega) g1) | exact bi_z h102_21 (by rw [g4]; exact iz_in (by decide) (by omega)))
  · refine qa_s (pc' := 8) at_102_7 rfl rfl rfl ?_
    refine qa_s (pc' := 9) at_102_8 rfl rfl rfl ?_
    refine qa_callV (nx := 12) at_102_9 rfl rfl (Nat.le_of_ble_eq_true rfl) rfl rfl rfl (by decide) rfl (by decide) ?_
    show qa _ 103 0 [(0, .ref _), (1, .int _)] [] _ _
    refine c103_q ?_
    show qa _ 102 12 _ [.int _] _ _
    refine qa_if_eq (tg := 60) (nx := 15) at_102_12 rfl rfl (fun h102_12 => ?_) (fun h102_12 => ?_)
    · refine qa_ic (nx := 61) (v := nI 0) at_102_60 (by decide) rfl ?_
      refine qa_ret at_102_61 rfl ?_
      exact k0 (fun ⟨g0, i', r', s', q', g1, g2, g3, g4, g5, g6, g7, g8, g9⟩ => by first | exact h102_4 g0 | exact bi_z h102_46 (by rw [g8]; exact iz_in (by decide) (by omega)) | (have e1 : q = q' := (nI_eq (by omega) (by omega)).mp g8; subst e1; exact hno g9) | (have e1 : i = i' := (nI_eq (by omega) (by omega)).mp g2; have e2 : r = r' := (nI_eq (by omega) (by omega)).mp g4; subst e1; subst e2; have e3 : s = s' := (nI_eq (by omega) (by omega)).mp (hs1.symm.trans g5); omega) | exact bi_z h102_12 (by rw [h40, g2]; exact ix_in (by omega) g1) | exact bi_z h102_21 (by rw [g4]; exact iz_in (by decide) (by omega)))
    · have hp := bi_n h102_12
      rw [h40] at hp
      refine qa_s (pc' := 16) at_102_15 rfl rfl rfl ?_
      refine qa_ic (nx := 17) (v := nI 0) at_102_16 (by decide) rfl ?_
      refine qa_ic (nx := 18) (v := nI 2) at_102_17 (by decide) rfl ?_
      refine qa_callS (nx := 21) at_102_18 rfl rfl (Nat.le_of_ble_eq_true rfl) rfl rfl (by decide) rfl ?_
      show qa _ 101 0 [(0, .int _), (1, .int _), (2, .int _)] [] _ _
      refine c101_q ?_
      show qa _ 102 21 _ [.int _] _ _
      refine qa_if_eq (tg := 60) (nx := 24) at_102_21 rfl rfl (fun h102_21 => ?_) (fun h102_21 => ?_)
      · refine qa_ic (nx := 61) (v := nI 0) at_102_60 (by decide) rfl ?_
        refine qa_ret at_102_61 rfl ?_
        exact k0 (fun ⟨g0, i', r', s', q', g1, g2, g3, g4, g5, g6, g7, g8, g9⟩ => by first | exact h102_4 g0 | exact bi_z h102_46 (by rw [g8]; exact iz_in (by decide) (by omega)) | (have e1 : q = q' := (nI_eq (by omega) (by omega)).mp g8; subst e1; exact hno g9) | (have e1 : i = i' := (nI_eq (by omega) (by omega)).mp g2; have e2 : r = r' := (nI_eq (by omega) (by omega)).mp g4; subst e1; subst e2; have e3 : s = s' := (nI_eq (by omega) (by omega)).mp (hs1.symm.trans g5); omega) | exact bi_z h102_12 (by rw [h40, g2]; exact ix_in (by omega) g1) | exact bi_z h102_21 (by rw [g4]; exact iz_in (by decide) (by omega)))
      · obtain ⟨i, hi, rfl⟩ := ix_of (by omega) hp
        obtain ⟨r, hr9, rfl⟩ := iz_of (by decide) (bi_n h102_21)
        have hr : r < 3 := by omega
        obtain ⟨s, hs, hs1⟩ := hL (3 * i + r) (by omega)
        refine qa_s (pc' := 25) at_102_24 rfl rfl rfl ?_
        refine qa_getR (nx := 28) at_102_25 rfl (by decide) rfl rfl (by decide) ?_
        refine qa_ic (nx := 29) (v := nI 3) at_102_28 (by decide) rfl ?_
        refine qa_s (pc' := 30) at_102_29 rfl rfl rfl ?_
        refine qa_mulN (nx := 31) at_102_30 rfl ?_
        refine qa_s (pc' := 32) at_102_31 rfl rfl rfl ?_
        refine qa_addN (nx := 33) at_102_32 rfl ?_
        refine qa_ialdV (nx := 34) (k := (3 * i) + r) (v := nI s) at_102_33 rfl rfl rfl (by decide) rfl (show (3 * i) + r < 15 by omega) (show _ from hs1) ?_
        refine qa_bi (nx := 36) (v := nI 12) at_102_34 (by decide) rfl ?_
        refine qn_icmp_eq (tg := 60) (nx := 39) at_102_36 rfl rfl (by omega) (by omega) (fun h102_36 => ?_) (fun h102_36 => ?_)
        · refine qa_ic (nx := 61) (v := nI 0) at_102_60 (by decide) rfl ?_
          refine qa_ret at_102_61 rfl ?_
          exact k0 (fun ⟨g0, i', r', s', q', g1, g2, g3, g4, g5, g6, g7, g8, g9⟩ => by first | exact h102_4 g0 | exact bi_z h102_46 (by rw [g8]; exact iz_in (by decide) (by omega)) | (have e1 : q = q' := (nI_eq (by omega) (by omega)).mp g8; subst e1; exact hno g9) | (have e1 : i = i' := (nI_eq (by omega) (by omega)).mp g2; have e2 : r = r' := (nI_eq (by omega) (by omega)).mp g4; subst e1; subst e2; have e3 : s = s' := (nI_eq (by omega) (by omega)).mp (hs1.symm.trans g5); omega) | exact bi_z h102_12 (by rw [h40, g2]; exact ix_in (by omega) g1) | exact bi_z h102_21 (by rw [g4]; exact iz_in (by decide) (by omega)))
        · refine qa_s (pc' := 40) at_102_39 rfl rfl rfl ?_
          refine qa_ic (nx := 41) (v := nI 0) at_102_40 (by decide) rfl ?_
          refine qa_bi (nx := 43) (v := nI 14) at_102_41 (by decide) rfl ?_
          refine qa_callS (nx := 46) at_102_43 rfl rfl (Nat.le_of_ble_eq_true rfl) rfl rfl (by decide) rfl ?_
          show qa _ 101 0 [(0, .int _), (1, .int _), (2, .int _)] [] _ _
          refine c101_q ?_
          show qa _ 102 46 _ [.int _] _ _
          refine qa_if_eq (tg := 60) (nx := 49) at_102_46 rfl rfl (fun h102_46 => ?_) (fun h102_46 => ?_)
          · refine qa_ic (nx := 61) (v := nI 0) at_102_60 (by decide) rfl ?_
            refine qa_ret at_102_61 rfl ?_
            exact k0 (fun ⟨g0, i', r', s', q', g1, g2, g3, g4, g5, g6, g7, g8, g9⟩ => by first | exact h102_4 g0 | exact bi_z h102_46 (by rw [g8]; exact iz_in (by decide) (by omega)) | (have e1 : q = q' := (nI_eq (by omega) (by omega)).mp g8; subst e1; exact hno g9) | (have e1 : i = i' := (nI_eq (by omega) (by omega)).mp g2; have e2 : r = r' := (nI_eq (by omega) (by omega)).mp g4; subst e1; subst e2; have e3 : s = s' := (nI_eq (by omega) (by omega)).mp (hs1.symm.trans g5); omega) | exact bi_z h102_12 (by rw [h40, g2]; exact ix_in (by omega) g1) | exact bi_z h102_21 (by rw [g4]; exact iz_in (by decide) (by omega)))
          · obtain ⟨q, hq9, rfl⟩ := iz_of (by decide) (bi_n h102_46)
            have hq : q < 15 := by omega
            refine qa_s (pc' := 50) at_102_49 rfl rfl rfl ?_
            refine qa_s (pc' := 52) at_102_50 rfl rfl rfl ?_
            refine qa_s (pc' := 54) at_102_52 rfl rfl rfl ?_
            refine qa_callS (nx := 57) at_102_54 rfl rfl (Nat.le_of_ble_eq_true rfl) rfl rfl (by decide) rfl ?_
            show qa _ 104 0 [(0, .int _), (1, .int _), (2, .int _)] [] _ _
            refine c104_q hq (fun hno => ?_) (fun hok => ?_)
            · have hno := hno
              show qa _ 102 57 _ [.int _] _ _
              refine qn_if_ne (tg := 62) (nx := 60) at_102_57 rfl rfl (by decide) (fun h => absurd h (by decide)) (fun h102_57 => ?_)
              refine qa_ic (nx := 61) (v := nI 0) at_102_60 (by decide) rfl ?_
              refine qa_ret at_102_61 rfl ?_
              exact k0 (fun ⟨g0, i', r', s', q', g1, g2, g3, g4, g5, g6, g7, g8, g9⟩ => by first | exact h102_4 g0 | exact bi_z h102_46 (by rw [g8]; exact iz_in (by decide) (by omega)) | (have e1 : q = q' := (nI_eq (by omega) (by omega)).mp g8; subst e1; exact hno g9) | (have e1 : i = i' := (nI_eq (by omega) (by omega)).mp g2; have e2 : r = r' := (nI_eq (by omega) (by omega)).mp g4; subst e1; subst e2; have e3 : s = s' := (nI_eq (by omega) (by omega)).mp (hs1.symm.trans g5); omega) | exact bi_z h102_12 (by rw [h40, g2]; exact ix_in (by omega) g1) | exact bi_z h102_21 (by rw [g4]; exact iz_in (by decide) (by omega)))
            · have hok := hok
              show qa _ 102 57 _ [.int _] _ _
              refine qn_if_ne (tg := 62) (nx := 60) at_102_57 rfl rfl (by decide) (fun h102_57 => ?_) (fun h => absurd h (by decide))
              refine qa_ic (nx := 63) (v := nI 3) at_102_62 (by decide) rfl ?_
              refine qa_s (pc' := 64) at_102_63 rfl rfl rfl ?_
              refine qa_mulN (nx := 65) at_102_64 rfl ?_
              refine qa_s (pc' := 66) at_102_65 rfl rfl rfl ?_
              refine qa_addN (nx := 67) at_102_66 rfl ?_
              refine qa_bi (nx := 69) (v := nI 12) at_102_67 (by decide) rfl ?_
              refine qa_mulN (nx := 70) at_102_69 rfl ?_
              refine qa_s (pc' := 71) at_102_70 rfl rfl rfl ?_
              refine qa_getR (nx := 74) at_102_71 rfl (by decide) rfl rfl (by decide) ?_
              refine qa_ic (nx := 75) (v := nI 3) at_102_74 (by decide) rfl ?_
              refine qa_s (pc' := 76) at_102_75 rfl rfl rfl ?_
              refine qa_mulN (nx := 77) at_102_76 rfl ?_
              refine qa_s (pc' := 78) at_102_77 rfl rfl rfl ?_
              refine qa_addN (nx := 79) at_102_78 rfl ?_
              refine qa_ialdV (nx := 80) (k := (3 * i) + r) (v := nI s) at_102_79 rfl rfl rfl (by decide) rfl (show (3 * i) + r < 15 by omega) (show _ from hs1) ?_
              refine qa_addN (nx := 81) at_102_80 rfl ?_
              refine qa_s (pc' := 83) at_102_81 rfl rfl rfl ?_
              refine qa_s (pc' := 84) at_102_83 rfl rfl rfl ?_
              refine qa_getR (nx := 87) at_102_84 rfl (by decide) rfl rfl (by decide) ?_
              refine qa_s (pc' := 89) at_102_87 rfl rfl rfl ?_
              refine qa_s (pc' := 90) at_102_89 rfl rfl rfl ?_
              refine qa_iast (nx := 91) (k := (((3 * i) + r) * 12) + s) at_102_90 rfl rfl rfl (by decide) rfl (show (((3 * i) + r) * 12) + s < 180 by omega) ?_
              refine qa_s (pc' := 92) at_102_91 rfl rfl rfl ?_
              refine qa_getR (nx := 95) at_102_92 rfl (by decide) rfl rfl (by decide) ?_
              refine qa_s (pc' := 97) at_102_95 rfl rfl rfl ?_
              refine qa_s (pc' := 99) at_102_97 rfl rfl rfl ?_
              refine qa_iast (nx := 100) (k := (((3 * i) + r) * 12) + s) at_102_99 rfl rfl rfl (by decide) rfl (show (((3 * i) + r) * 12) + s < 180 by omega) ?_
              refine qa_s (pc' := 101) at_102_100 rfl rfl rfl ?_
              refine qa_getR (nx := 104) at_102_101 rfl (by decide) rfl rfl (by decide) ?_
              refine qa_s (pc' := 106) at_102_104 rfl rfl rfl ?_
              refine qa_s (pc' := 108) at_102_106 rfl rfl rfl ?_
              refine qa_iast (nx := 109) (k := (((3 * i) + r) * 12) + s) at_102_108 rfl rfl rfl (by decide) rfl (show (((3 * i) + r) * 12) + s < 180 by omega) ?_
              refine qa_s (pc' := 110) at_102_109 rfl rfl rfl ?_
              refine qa_getR (nx := 113) at_102_110 rfl (by decide) rfl rfl (by decide) ?_
              refine qa_ic (nx := 114) (v := nI 3) at_102_113 (by decide) rfl ?_
              refine qa_s (pc' := 115) at_102_114 rfl rfl rfl ?_
              refine qa_mulN (nx := 116) at_102_115 rfl ?_
              refine qa_s (pc' := 117) at_102_116 rfl rfl rfl ?_
              refine qa_addN (nx := 118) at_102_117 rfl ?_
              refine qa_s (pc' := 119) at_102_118 rfl rfl rfl ?_
              refine qa_ialdV (nx := 120) (k := (3 * i) + r) (v := nI s) at_102_119 rfl rfl rfl (by decide) rfl (show (3 * i) + r < 15 by omega) (show _ from hs1) ?_
              refine qa_ic (nx := 121) (v := nI 1) at_102_120 (by decide) rfl ?_
              refine qa_addN (nx := 122) at_102_121 rfl ?_
              refine qa_iast (nx := 123) (k := (3 * i) + r) at_102_122 rfl rfl rfl (by decide) rfl (show (3 * i) + r < 15 by omega) ?_
              refine qa_s (pc' := 124) at_102_123 rfl rfl rfl ?_
              refine qa_ic (nx := 125) (v := nI 0) at_102_124 (by decide) rfl ?_
              refine qa_put (nx := 128) at_102_125 rfl (by decide) rfl (by decide) rfl (by decide) ?_
              refine qa_ic (nx := 129) (v := nI 1) at_102_128 (by decide) rfl ?_
              refine qa_ret at_102_129 rfl ?_
              exact k1 i r s q h102_4 hi rfl hr rfl hs1 (by omega) hq rfl hok
theorem okI_of {q : Nat} {x y : Int32} (hq : q < 15) (h : okL q x y) : okI (nI q) x y := by
  have key : ∀ q, q < 15 → (∃ m : Nat, m ≤ 3 ∧ mj_X_MOST.getD q 0 = nI m ∧ (6 ≤ q → q ≤ 10 → m = 0)) ∧ (q = 0 ∨ ∃ a b : Nat, mj_Y_LEAST.getD q 0 = nI a ∧ mj_Y_MOST.getD q 0 = nI b ∧ b < 2 ^ 31 ∧ a < 2 ^ 31 ∧ (if q = 5 ∨ q = 6 then 1 else 0) ≤ a ∧ b ≤ ([0, 3, 3, 7, 7, 11, 8, 0, 3, 0, 2, 1, 0, 1, 1] : List Nat).getD q 0) := by
    intro q hq
    have hc : q = 0 ∨ q = 1 ∨ q = 2 ∨ q = 3 ∨ q = 4 ∨ q = 5 ∨ q = 6 ∨ q = 7 ∨ q = 8 ∨ q = 9 ∨ q = 10 ∨ q = 11 ∨ q = 12 ∨ q = 13 ∨ q = 14 := by omega
    rcases hc with rfl | rfl | rfl | rfl | rfl | rfl | rfl | rfl | rfl | rfl | rfl | rfl | rfl | rfl | rfl
    · exact ⟨⟨3, by decide, by decide, by decide⟩, Or.inl rfl⟩
    · exact ⟨⟨3, by decide, by decide, by decide⟩, Or.inr ⟨0, 3, by decide, by decide, by decide, by decide, by decide, by decide⟩⟩
    · exact ⟨⟨3, by decide, by decide, by decide⟩, Or.inr ⟨0, 3, by decide, by decide, by decide, by decide, by decide, by decide⟩⟩
    · exact ⟨⟨3, by decide, by decide, by decide⟩, Or.inr ⟨0, 7, by decide, by decide, by decide, by decide, by decide, by decide⟩⟩
    · exact ⟨⟨3, by decide, by decide, by decide⟩, Or.inr ⟨0, 7, by decide, by decide, by decide, by decide, by decide, by decide⟩⟩
    · exact ⟨⟨3, by decide, by decide, by decide⟩, Or.inr ⟨1, 11, by decide, by decide, by decide, by decide, by decide, by decide⟩⟩
    · exact ⟨⟨0, by decide, by decide, by decide⟩, Or.inr ⟨1, 8, by decide, by decide, by decide, by decide, by decide, by decide⟩⟩
    · exact ⟨⟨0, by decide, by decide, by decide⟩, Or.inr ⟨0, 0, by decide, by decide, by decide, by decide, by decide, by decide⟩⟩
    · exact ⟨⟨0, by decide, by decide, by decide⟩, Or.inr ⟨0, 3, by decide, by decide, by decide, by decide, by decide, by decide⟩⟩
    · exact ⟨⟨0, by decide, by decide, by decide⟩, Or.inr ⟨0, 0, by decide, by decide, by decide, by decide, by decide, by decide⟩⟩
    · exact ⟨⟨0, by decide, by decide, by decide⟩, Or.inr ⟨0, 2, by decide, by decide, by decide, by decide, by decide, by decide⟩⟩
    · exact ⟨⟨3, by decide, by decide, by decide⟩, Or.inr ⟨0, 1, by decide, by decide, by decide, by decide, by decide, by decide⟩⟩
    · exact ⟨⟨3, by decide, by decide, by decide⟩, Or.inr ⟨0, 0, by decide, by decide, by decide, by decide, by decide, by decide⟩⟩
    · exact ⟨⟨3, by decide, by decide, by decide⟩, Or.inr ⟨0, 1, by decide, by decide, by decide, by decide, by decide, by decide⟩⟩
    · exact ⟨⟨3, by decide, by decide, by decide⟩, Or.inr ⟨0, 1, by decide, by decide, by decide, by decide, by decide, by decide⟩⟩
  obtain ⟨⟨m, hm1, hm2, hm3⟩, hy⟩ := key q hq
  obtain ⟨hx, hyy⟩ := h
  rw [hm2] at hx
  obtain ⟨x', hx1, rfl⟩ := iz_of (by omega) hx
  refine ⟨q, x', hq, rfl, by omega, rfl, fun a b => ?_, ?_⟩
  · have := hm3 a b; omega
  · rcases hy with rfl | ⟨a, b, e1, e2, e3, e4, e5, e6⟩
    · exact Or.inl rfl
    · right
      rw [e1, e2] at hyy
      obtain ⟨y', hy', rfl⟩ := nI_of (x := y) (fun h0 => absurd (Int32.le_trans hyy.1 (Int32.le_of_lt h0)) (fun h9 => by
        have := (nI_le0 e4).mp h9
        subst this
        exact absurd h0 (fun h8 => by
          have h7 := Int32.lt_of_le_of_lt hyy.1 h8
          exact absurd h7 (by decide))))
      exact ⟨y', rfl, Nat.le_trans e5 ((nI_leI e4 hy').mp hyy.1), Nat.le_trans ((nI_leI hy' e3).mp hyy.2) e6⟩
theorem ne12 {a b c d : Nat} (hb : b < 12) (hd : d < 12) (h : a * 12 + b = c * 12 + d) : a = c ∧ b = d := by omega
theorem Rel_code {n s q : Nat} {x y : Int32} (hR : Rel T σ) (h0 : σ 18 0 0 = 0) (hn : n < 15) (hs1 : σ 13 n 4 = nI s) (hs : s < 12) (hq : q < 15) (hok : okL q x y) : Rel T (cdM (cdC σ n s (nI q) x y) n s (nI q) x y) := by
  obtain ⟨hA, hTt, hI, hP, hF, hJ, hRR⟩ := hR
  obtain ⟨h5, h04, h40, hf, hf', ho, ho', hm, hof⟩ := hA
  refine ⟨⟨h5, h04, h40, Or.inl rfl, rfl, ho, ho', hm, fun h => absurd (h0.symm.trans h) (by decide)⟩, RT_congr ?_ ?_ ?_ ?_ hTt, ?_, RP_congr ?_ hP, fun h => absurd (show nI 0 = 1 from h) (by decide), RJ_congr ?_ ?_ ?_ ?_ ?_ ?_ ?_ ?_ ?_ ?_ ?_ ?_ ?_ ?_ ?_ ?_ ?_ ?_ ?_ ?_ ?_ ?_ ?_ ?_ hJ, fun h => absurd (h0.symm.trans h) (by decide)⟩
  case refine_5 =>
    intro n' hn'
    obtain ⟨⟨s', g1, g2, g3⟩, g4⟩ := hI n' hn'
    refine ⟨?_, fun k hk => ?_⟩
    · by_cases e : n' = n
      · subst e
        have e3 : s = s' := (nI_eq (by omega) (by omega)).mp (hs1.symm.trans g2)
        subst e3
        exact ⟨s + 1, by omega, by simp [up], by simp [up]⟩
      · exact ⟨s', g1, by rw [← g2]; simp [up, e], by rw [← g3]; simp [up, e]⟩
    · have hg := g4 k hk
      by_cases e : n' = n ∧ k = s
      · obtain ⟨rfl, rfl⟩ := e
        refine ⟨by simp [up], by simp [up], by simp [up], ?_⟩
        have := okI_of (x := x) (y := y) hq hok
        simpa [up] using this
      · have e9 : ¬ n' * 12 + k = n * 12 + s := fun h => e (ne12 hk hs h)
        have f1 : ∀ (v : Int32) (τ : sg) (a : Nat), up τ a n s v a n' k = τ a n' k := fun v τ a => by
          unfold up
          by_cases e1 : n' = n
          · have e2 : ¬ k = s := fun h => e ⟨e1, h⟩
            simp [e1, e2]
          · simp [e1]
        have f2 : ∀ (v : Int32) (τ : sg) (a : Nat), up τ a 0 (n * 12 + s) v a 0 (n' * 12 + k) = τ a 0 (n' * 12 + k) := fun v τ a => by simp [up, e9]
        have c14 : (cdM (cdC σ n s (nI q) x y) n s (nI q) x y) 14 n' k = σ 14 n' k := f1 (nI q) σ 14
        have c15 : (cdM (cdC σ n s (nI q) x y) n s (nI q) x y) 15 n' k = σ 15 n' k := f1 x σ 15
        have c16 : (cdM (cdC σ n s (nI q) x y) n s (nI q) x y) 16 n' k = σ 16 n' k := f1 y σ 16
        have c44 : (cdM (cdC σ n s (nI q) x y) n s (nI q) x y) 44 0 (n' * 12 + k) = σ 44 0 (n' * 12 + k) := f2 (nI q) σ 44
        have c45 : (cdM (cdC σ n s (nI q) x y) n s (nI q) x y) 45 0 (n' * 12 + k) = σ 45 0 (n' * 12 + k) := f2 x σ 45
        have c46 : (cdM (cdC σ n s (nI q) x y) n s (nI q) x y) 46 0 (n' * 12 + k) = σ 46 0 (n' * 12 + k) := f2 y σ 46
        rw [c14, c15, c16, c44, c45, c46]
        exact hg
  all_goals (simp [up_k])
theorem p_code (hR : Rel T σ) (t rt o x y : Int32) : pair (mj_cst ys) 13 102 [.int t, .int rt, .int o, .int x, .int y] σ := by
  obtain ⟨h5, h04, h40, hf, hf', ho, ho', hm, hof⟩ := hR.1
  have hI := hR.2.2.1
  have hL : ∀ n, n < 15 → ∃ s : Nat, s ≤ 12 ∧ σ 48 0 n = nI s := fun n hn => by
    obtain ⟨⟨s, g1, g2, g3⟩, -⟩ := hI n hn
    exact ⟨s, g1, g3⟩
  have h13 : ∀ n s, n < 15 → (σ 48 0 n = nI s ↔ σ 13 n 4 = nI s) := fun n s hn => by
    obtain ⟨⟨s', g1, g2, g3⟩, -⟩ := hI n hn
    rw [g2, g3]
  show qa (mj_cst ys) 13 0 [(0, .ref (cl 0 0)), (1, .int t), (2, .int rt), (3, .int o), (4, .int x), (5, .int y)] [] σ _
  refine c13_q h04 h5 hI (fun h => ?_) (fun i r s q a0 a1 a2 a3 a4 a5 a6 a7 a8 a9 => ?_)
  · show qa (mj_cst ys) 102 0 [(0, .ref (cl 40 0)), (1, .int t), (2, .int rt), (3, .int o), (4, .int x), (5, .int y)] [] σ _
    refine c102_q h40 h5 hL (fun h' => ⟨_, rfl, rfl, T, hR⟩) (fun i r s q a0 a1 a2 a3 a4 a5 a6 a7 a8 a9 => absurd ⟨by rw [← ho']; exact a0, i, r, s, q, a1, a2, a3, a4, (h13 _ _ (by omega)).mp a5, a6, a7, a8, a9⟩ h)
  · show qa (mj_cst ys) 102 0 [(0, .ref (cl 40 0)), (1, .int t), (2, .int rt), (3, .int o), (4, .int x), (5, .int y)] [] _ _
    refine c102_q (T := T) h40 h5 hL (fun h' => absurd ⟨by show σ 40 0 2 = 0; rw [ho']; exact a0, i, r, s, q, a1, a2, a3, a4, (h13 _ _ (by omega)).mpr a5, a6, a7, a8, a9⟩ h') (fun i' r' s' q' b0 b1 b2 b3 b4 b5 b6 b7 b8 b9 => ?_)
    have e1 : i = i' := (nI_eq (by omega) (by omega)).mp (a2.symm.trans b2)
    have e2 : r = r' := (nI_eq (by omega) (by omega)).mp (a4.symm.trans b4)
    subst e1; subst e2
    have e3 : s = s' := (nI_eq (by omega) (by omega)).mp (((h13 _ _ (by omega)).mpr a5).symm.trans b5)
    subst e3; subst a8
    exact ⟨_, rfl, rfl, T, Rel_code hR a0 (by omega) a5 a6 a7 a9⟩
end PQ
