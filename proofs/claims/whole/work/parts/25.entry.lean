/-! entry -/
theorem ent_iff {x m : Int32} : (0 ≤ x ∧ x < (if nI 32 < m then nI 32 else m)) ↔ ((nI 0 ≤ x ∧ x ≤ nI 31) ∧ ¬ m ≤ x) := by
  have e0 : (nI 0).toInt = 0 := by decide
  have e31 : (nI 31).toInt = 31 := by decide
  have e32 : (nI 32).toInt = 32 := by decide
  split
  · rename_i h
    simp only [Int32.le_iff_toInt_le, Int32.lt_iff_toInt_lt, Int32.toInt_zero, e0, e31, e32] at *
    omega
  · rename_i h
    simp only [Int32.le_iff_toInt_le, Int32.lt_iff_toInt_lt, Int32.toInt_zero, e0, e31, e32] at *
    omega
section PQ
variable {cst : List (List Int32)} {σ : sg} {T : Nat}
theorem p_entry (hR : Rel T σ) (x : Int32) (y : Int32) : pair cst 97 145 [.int x, .int y] σ := by
  obtain ⟨hA, hTt, hI, hP, hF, hJ, hRR⟩ := id hR
  obtain ⟨h5, h04, h40, hf, hf', ho, ho', hm, hof⟩ := id hA
  show qa cst 97 0 [(0, .ref (cl 0 0)), (1, .int x), (2, .int y)] [] σ _
  refine qa_s (pc' := 1) at_97_0 rfl rfl rfl ?_
  refine qa_getR (nx := 4) at_97_1 rfl (by decide) rfl rfl (by decide) ?_
  refine qa_getI (nx := 7) at_97_4 rfl (by decide) rfl rfl (by decide) ?_
  refine qa_if_eq (tg := 25) (nx := 10) at_97_7 rfl rfl (fun h97_7 => ?_) (fun h97_7 => ?_)
  · refine qa_ic (nx := 26) (v := (-1)) at_97_25 (by decide) rfl ?_
    refine qa_ret at_97_26 rfl ?_
    show qa _ 145 0 [(0, .ref _), (1, .int _), (2, .int _)] [] _ _
    refine qa_s (pc' := 1) at_145_0 rfl rfl rfl ?_
    refine qa_getI (nx := 4) at_145_1 rfl (by decide) rfl rfl (by decide) ?_
    refine qa_if_eq (tg := 34) (nx := 7) at_145_4 rfl rfl (fun h145_4 => ?_) (fun h145_4 => ?_)
    · refine qa_ic (nx := 35) (v := (-1)) at_145_34 (by decide) rfl ?_
      refine qa_ret at_145_35 rfl ?_
      exact ⟨_, rfl, rfl, T, hR⟩
    · exact absurd (ho'.trans h97_7) h145_4
  · obtain ⟨q6, q22, q23, q24, q25, q26, q27, q28, q29, qp, qm, qt, qh⟩ := hRR (z1 ho h97_7)
    refine qa_s (pc' := 11) at_97_10 rfl rfl rfl ?_
    refine qa_getR (nx := 14) at_97_11 rfl (by decide) rfl rfl (by decide) ?_
    refine qa_getR (nx := 17) at_97_14 rfl (by decide) rfl rfl (by decide) ?_
    refine qa_s (pc' := 18) at_97_17 rfl rfl rfl ?_
    refine qa_s (pc' := 19) at_97_18 rfl rfl rfl ?_
    refine qa_callV (nx := 22) at_97_19 rfl rfl (Nat.le_of_ble_eq_true rfl) rfl rfl rfl (by decide) rfl (by decide) ?_
    show qa _ 98 0 [(0, .ref _), (1, .int _), (2, .int _)] [] _ _
    refine qa_s (pc' := 1) at_98_0 rfl rfl rfl ?_
    refine qa_s (pc' := 2) at_98_1 rfl rfl rfl ?_
    refine qa_getI (nx := 5) at_98_2 rfl (by decide) rfl rfl (by decide) ?_
    refine qa_bi (nx := 7) (v := nI 32) at_98_5 (by decide) rfl ?_
    refine qa_min (nx := 10) at_98_7 rfl rfl ?_
    refine qa_callS (nx := 13) at_98_10 rfl rfl (Nat.le_of_ble_eq_true rfl) rfl rfl (by decide) rfl ?_
    show qa _ 15 0 [(0, .int _), (1, .int _)] [] _ _
    refine c15_q ?_
    show qa _ 98 13 _ [.int _] _ _
    refine qa_if_ne (tg := 18) (nx := 16) at_98_13 rfl rfl (fun h98_13 => ?_) (fun h98_13 => ?_)
    · have hbe := bi_n h98_13
      refine qa_s (pc' := 19) at_98_18 rfl rfl rfl ?_
      refine qa_getI (nx := 22) at_98_19 rfl (by decide) rfl rfl (by decide) ?_
      refine qa_ic (nx := 23) (v := nI 1) at_98_22 (by decide) rfl ?_
      refine qa_s (pc' := 24) at_98_23 rfl rfl rfl ?_
      refine qa_s (pc' := 25) at_98_24 rfl rfl rfl ?_
      refine qa_s (pc' := 26) at_98_25 rfl rfl rfl ?_
      refine qa_bi (nx := 28) (v := nI 31) at_98_26 (by decide) rfl ?_
      refine qa_s (pc' := 29) at_98_28 rfl rfl rfl ?_
      obtain ⟨k, hk, ek⟩ := pk_andE (σ 21 0 0 - nI 1 - x) (m := nI 31) 5 (by decide)
      rw [ek]
      refine qa_s (pc' := 30) at_98_29 rfl rfl rfl ?_
      refine qa_s (pc' := 31) at_98_30 rfl rfl rfl ?_
      by_cases hsw : y.toInt < 0 ∨ 3 < y.toInt
      · refine qa_swo (nx := 88) at_98_31 hsw rfl ?_
        refine qa_ic (nx := 89) (v := (-1)) at_98_88 (by decide) rfl ?_
        refine qa_ret at_98_89 rfl ?_
        show qa _ 97 22 _ [.int _] _ _
        refine qa_goto (nx := 26) at_97_22 rfl ?_
        refine qa_ret at_97_26 rfl ?_
        show qa _ 145 0 [(0, .ref _), (1, .int _), (2, .int _)] [] _ _
        refine qa_s (pc' := 1) at_145_0 rfl rfl rfl ?_
        refine qa_getI (nx := 4) at_145_1 rfl (by decide) rfl rfl (by decide) ?_
        refine qa_if_eq (tg := 34) (nx := 7) at_145_4 rfl rfl (fun h145_4 => ?_) (fun h145_4 => ?_)
        · exact absurd (ho' ▸ h145_4) h97_7
        · refine qa_s (pc' := 8) at_145_7 rfl rfl rfl ?_
          refine qa_ic (nx := 9) (v := nI 0) at_145_8 (by decide) rfl ?_
          refine qa_bi (nx := 11) (v := nI 31) at_145_9 (by decide) rfl ?_
          refine qa_callS (nx := 14) at_145_11 rfl rfl (Nat.le_of_ble_eq_true rfl) rfl rfl (by decide) rfl ?_
          show qa _ 101 0 [(0, .int _), (1, .int _), (2, .int _)] [] _ _
          refine c101_q ?_
          show qa _ 145 14 _ [.int _] _ _
          refine qa_if_eq (tg := 34) (nx := 17) at_145_14 rfl rfl (fun h145_14 => ?_) (fun h145_14 => ?_)
          · exact absurd (ent_iff.mp hbe).1 (bi_z h145_14)
          · refine qa_s (pc' := 18) at_145_17 rfl rfl rfl ?_
            refine qa_s (pc' := 19) at_145_18 rfl rfl rfl ?_
            refine qa_getI (nx := 22) at_145_19 rfl (by decide) rfl rfl (by decide) ?_
            refine qa_icmp_ge (tg := 34) (nx := 25) at_145_22 rfl rfl (fun h145_22 => ?_) (fun h145_22 => ?_)
            · exact absurd (by rw [q29] at h145_22; exact h145_22) (ent_iff.mp hbe).2
            · refine qa_s (pc' := 26) at_145_25 rfl rfl rfl ?_
              refine qa_ic (nx := 27) (v := nI 0) at_145_26 (by decide) rfl ?_
              refine qa_ic (nx := 28) (v := nI 3) at_145_27 (by decide) rfl ?_
              refine qa_callS (nx := 31) at_145_28 rfl rfl (Nat.le_of_ble_eq_true rfl) rfl rfl (by decide) rfl ?_
              show qa _ 101 0 [(0, .int _), (1, .int _), (2, .int _)] [] _ _
              refine c101_q ?_
              show qa _ 145 31 _ [.int _] _ _
              refine qa_if_ne (tg := 36) (nx := 34) at_145_31 rfl rfl (fun h145_31 => ?_) (fun h145_31 => ?_)
              · exact absurd (bi_n h145_31) (fun h => by obtain ⟨s, hs, rfl⟩ := iz_of (by decide) h; rw [nI_toInt (by omega)] at hsw; omega)
              · refine qa_ic (nx := 35) (v := (-1)) at_145_34 (by decide) rfl ?_
                refine qa_ret at_145_35 rfl ?_
                exact ⟨_, rfl, rfl, T, hR⟩
      · obtain ⟨jsw, hjl, rfl⟩ := sw_of (n := 3) (by decide) (by simpa using hsw)
        have hjc : jsw = 0 ∨ jsw = 1 ∨ jsw = 2 ∨ jsw = 3 := by omega
        rcases hjc with rfl | rfl | rfl | rfl
        · refine qa_swi (nx := 60) at_98_31 (by decide +kernel) (show _ = some (29) by decide +kernel) rfl ?_
          refine qa_s (pc' := 61) at_98_60 rfl rfl rfl ?_
          refine qa_getR (nx := 64) at_98_61 rfl (by decide) rfl rfl (by decide) ?_
          refine qa_s (pc' := 65) at_98_64 rfl rfl rfl ?_
          refine qa_iald (nx := 66) (k := k) at_98_65 rfl rfl rfl (by decide) rfl (show k < 32 by omega) ?_
          refine qa_ret at_98_66 rfl ?_
          show qa _ 97 22 _ [.int _] _ _
          refine qa_goto (nx := 26) at_97_22 rfl ?_
          refine qa_ret at_97_26 rfl ?_
          show qa _ 145 0 [(0, .ref _), (1, .int _), (2, .int _)] [] _ _
          refine qa_s (pc' := 1) at_145_0 rfl rfl rfl ?_
          refine qa_getI (nx := 4) at_145_1 rfl (by decide) rfl rfl (by decide) ?_
          refine qa_if_eq (tg := 34) (nx := 7) at_145_4 rfl rfl (fun h145_4 => ?_) (fun h145_4 => ?_)
          · exact absurd (ho' ▸ h145_4) h97_7
          · refine qa_s (pc' := 8) at_145_7 rfl rfl rfl ?_
            refine qa_ic (nx := 9) (v := nI 0) at_145_8 (by decide) rfl ?_
            refine qa_bi (nx := 11) (v := nI 31) at_145_9 (by decide) rfl ?_
            refine qa_callS (nx := 14) at_145_11 rfl rfl (Nat.le_of_ble_eq_true rfl) rfl rfl (by decide) rfl ?_
            show qa _ 101 0 [(0, .int _), (1, .int _), (2, .int _)] [] _ _
            refine c101_q ?_
            show qa _ 145 14 _ [.int _] _ _
            refine qa_if_eq (tg := 34) (nx := 17) at_145_14 rfl rfl (fun h145_14 => ?_) (fun h145_14 => ?_)
            · exact absurd (ent_iff.mp hbe).1 (bi_z h145_14)
            · refine qa_s (pc' := 18) at_145_17 rfl rfl rfl ?_
              refine qa_s (pc' := 19) at_145_18 rfl rfl rfl ?_
              refine qa_getI (nx := 22) at_145_19 rfl (by decide) rfl rfl (by decide) ?_
              refine qa_icmp_ge (tg := 34) (nx := 25) at_145_22 rfl rfl (fun h145_22 => ?_) (fun h145_22 => ?_)
              · exact absurd (by rw [q29] at h145_22; exact h145_22) (ent_iff.mp hbe).2
              · refine qa_s (pc' := 26) at_145_25 rfl rfl rfl ?_
                refine qa_ic (nx := 27) (v := nI 0) at_145_26 (by decide) rfl ?_
                refine qa_ic (nx := 28) (v := nI 3) at_145_27 (by decide) rfl ?_
                refine qa_callS (nx := 31) at_145_28 rfl rfl (Nat.le_of_ble_eq_true rfl) rfl rfl (by decide) rfl ?_
                show qa _ 101 0 [(0, .int _), (1, .int _), (2, .int _)] [] _ _
                refine c101_q ?_
                show qa _ 145 31 _ [.int _] _ _
                refine qa_if_ne (tg := 36) (nx := 34) at_145_31 rfl rfl (fun h145_31 => ?_) (fun h145_31 => ?_)
                · refine qa_s (pc' := 37) at_145_36 rfl rfl rfl ?_
                  refine qa_getI (nx := 40) at_145_37 rfl (by decide) rfl rfl (by decide) ?_
                  refine qa_ic (nx := 41) (v := nI 1) at_145_40 (by decide) rfl ?_
                  refine qa_s (pc' := 42) at_145_41 rfl rfl rfl ?_
                  refine qa_s (pc' := 43) at_145_42 rfl rfl rfl ?_
                  refine qa_s (pc' := 44) at_145_43 rfl rfl rfl ?_
                  refine qa_bi (nx := 46) (v := nI 31) at_145_44 (by decide) rfl ?_
                  refine qa_s (pc' := 47) at_145_46 rfl rfl rfl ?_
                  rw [q29, ek]
                  refine qa_s (pc' := 48) at_145_47 rfl rfl rfl ?_
                  refine qa_s (pc' := 49) at_145_48 rfl rfl rfl ?_
                  refine qn_if_ne (tg := 61) (nx := 52) at_145_49 rfl rfl (by decide) (fun h => absurd h (by decide)) (fun h145_49 => ?_)
                  refine qa_s (pc' := 53) at_145_52 rfl rfl rfl ?_
                  refine qa_getR (nx := 56) at_145_53 rfl (by decide) rfl rfl (by decide) ?_
                  refine qa_s (pc' := 57) at_145_56 rfl rfl rfl ?_
                  refine qa_iald (nx := 58) (k := k) at_145_57 rfl rfl rfl (by decide) rfl (show k < 32 by omega) ?_
                  refine qa_goto (nx := 95) at_145_58 rfl ?_
                  refine qa_ret at_145_95 rfl ?_
                  exact ⟨_, rfl, by rw [(hJ.1 k (by omega)).1], T, hR⟩
                · exact absurd h145_31 (by decide +kernel)
        · refine qa_swi (nx := 67) at_98_31 (by decide +kernel) (show _ = some (36) by decide +kernel) rfl ?_
          refine qa_s (pc' := 68) at_98_67 rfl rfl rfl ?_
          refine qa_getR (nx := 71) at_98_68 rfl (by decide) rfl rfl (by decide) ?_
          refine qa_s (pc' := 72) at_98_71 rfl rfl rfl ?_
          refine qa_iald (nx := 73) (k := k) at_98_72 rfl rfl rfl (by decide) rfl (show k < 32 by omega) ?_
          refine qa_ret at_98_73 rfl ?_
          show qa _ 97 22 _ [.int _] _ _
          refine qa_goto (nx := 26) at_97_22 rfl ?_
          refine qa_ret at_97_26 rfl ?_
          show qa _ 145 0 [(0, .ref _), (1, .int _), (2, .int _)] [] _ _
          refine qa_s (pc' := 1) at_145_0 rfl rfl rfl ?_
          refine qa_getI (nx := 4) at_145_1 rfl (by decide) rfl rfl (by decide) ?_
          refine qa_if_eq (tg := 34) (nx := 7) at_145_4 rfl rfl (fun h145_4 => ?_) (fun h145_4 => ?_)
          · exact absurd (ho' ▸ h145_4) h97_7
          · refine qa_s (pc' := 8) at_145_7 rfl rfl rfl ?_
            refine qa_ic (nx := 9) (v := nI 0) at_145_8 (by decide) rfl ?_
            refine qa_bi (nx := 11) (v := nI 31) at_145_9 (by decide) rfl ?_
            refine qa_callS (nx := 14) at_145_11 rfl rfl (Nat.le_of_ble_eq_true rfl) rfl rfl (by decide) rfl ?_
            show qa _ 101 0 [(0, .int _), (1, .int _), (2, .int _)] [] _ _
            refine c101_q ?_
            show qa _ 145 14 _ [.int _] _ _
            refine qa_if_eq (tg := 34) (nx := 17) at_145_14 rfl rfl (fun h145_14 => ?_) (fun h145_14 => ?_)
            · exact absurd (ent_iff.mp hbe).1 (bi_z h145_14)
            · refine qa_s (pc' := 18) at_145_17 rfl rfl rfl ?_
              refine qa_s (pc' := 19) at_145_18 rfl rfl rfl ?_
              refine qa_getI (nx := 22) at_145_19 rfl (by decide) rfl rfl (by decide) ?_
              refine qa_icmp_ge (tg := 34) (nx := 25) at_145_22 rfl rfl (fun h145_22 => ?_) (fun h145_22 => ?_)
              · exact absurd (by rw [q29] at h145_22; exact h145_22) (ent_iff.mp hbe).2
              · refine qa_s (pc' := 26) at_145_25 rfl rfl rfl ?_
                refine qa_ic (nx := 27) (v := nI 0) at_145_26 (by decide) rfl ?_
                refine qa_ic (nx := 28) (v := nI 3) at_145_27 (by decide) rfl ?_
                refine qa_callS (nx := 31) at_145_28 rfl rfl (Nat.le_of_ble_eq_true rfl) rfl rfl (by decide) rfl ?_
                show qa _ 101 0 [(0, .int _), (1, .int _), (2, .int _)] [] _ _
                refine c101_q ?_
                show qa _ 145 31 _ [.int _] _ _
                refine qa_if_ne (tg := 36) (nx := 34) at_145_31 rfl rfl (fun h145_31 => ?_) (fun h145_31 => ?_)
                · refine qa_s (pc' := 37) at_145_36 rfl rfl rfl ?_
                  refine qa_getI (nx := 40) at_145_37 rfl (by decide) rfl rfl (by decide) ?_
                  refine qa_ic (nx := 41) (v := nI 1) at_145_40 (by decide) rfl ?_
                  refine qa_s (pc' := 42) at_145_41 rfl rfl rfl ?_
                  refine qa_s (pc' := 43) at_145_42 rfl rfl rfl ?_
                  refine qa_s (pc' := 44) at_145_43 rfl rfl rfl ?_
                  refine qa_bi (nx := 46) (v := nI 31) at_145_44 (by decide) rfl ?_
                  refine qa_s (pc' := 47) at_145_46 rfl rfl rfl ?_
                  rw [q29, ek]
                  refine qa_s (pc' := 48) at_145_47 rfl rfl rfl ?_
                  refine qa_s (pc' := 49) at_145_48 rfl rfl rfl ?_
                  refine qn_if_ne (tg := 61) (nx := 52) at_145_49 rfl rfl (by decide) (fun h145_49 => ?_) (fun h => absurd h (by decide))
                  refine qa_s (pc' := 62) at_145_61 rfl rfl rfl ?_
                  refine qa_ic (nx := 63) (v := nI 1) at_145_62 (by decide) rfl ?_
                  refine qn_icmp_ne (tg := 75) (nx := 66) at_145_63 rfl rfl (by decide) (by decide) (fun h => absurd h (by decide)) (fun h145_63 => ?_)
                  refine qa_s (pc' := 67) at_145_66 rfl rfl rfl ?_
                  refine qa_getR (nx := 70) at_145_67 rfl (by decide) rfl rfl (by decide) ?_
                  refine qa_s (pc' := 71) at_145_70 rfl rfl rfl ?_
                  refine qa_iald (nx := 72) (k := k) at_145_71 rfl rfl rfl (by decide) rfl (show k < 32 by omega) ?_
                  refine qa_goto (nx := 95) at_145_72 rfl ?_
                  refine qa_ret at_145_95 rfl ?_
                  exact ⟨_, rfl, by rw [(hJ.1 k (by omega)).2.1], T, hR⟩
                · exact absurd h145_31 (by decide +kernel)
        · refine qa_swi (nx := 74) at_98_31 (by decide +kernel) (show _ = some (43) by decide +kernel) rfl ?_
          refine qa_s (pc' := 75) at_98_74 rfl rfl rfl ?_
          refine qa_getR (nx := 78) at_98_75 rfl (by decide) rfl rfl (by decide) ?_
          refine qa_s (pc' := 79) at_98_78 rfl rfl rfl ?_
          refine qa_iald (nx := 80) (k := k) at_98_79 rfl rfl rfl (by decide) rfl (show k < 32 by omega) ?_
          refine qa_ret at_98_80 rfl ?_
          show qa _ 97 22 _ [.int _] _ _
          refine qa_goto (nx := 26) at_97_22 rfl ?_
          refine qa_ret at_97_26 rfl ?_
          show qa _ 145 0 [(0, .ref _), (1, .int _), (2, .int _)] [] _ _
          refine qa_s (pc' := 1) at_145_0 rfl rfl rfl ?_
          refine qa_getI (nx := 4) at_145_1 rfl (by decide) rfl rfl (by decide) ?_
          refine qa_if_eq (tg := 34) (nx := 7) at_145_4 rfl rfl (fun h145_4 => ?_) (fun h145_4 => ?_)
          · exact absurd (ho' ▸ h145_4) h97_7
          · refine qa_s (pc' := 8) at_145_7 rfl rfl rfl ?_
            refine qa_ic (nx := 9) (v := nI 0) at_145_8 (by decide) rfl ?_
            refine qa_bi (nx := 11) (v := nI 31) at_145_9 (by decide) rfl ?_
            refine qa_callS (nx := 14) at_145_11 rfl rfl (Nat.le_of_ble_eq_true rfl) rfl rfl (by decide) rfl ?_
            show qa _ 101 0 [(0, .int _), (1, .int _), (2, .int _)] [] _ _
            refine c101_q ?_
            show qa _ 145 14 _ [.int _] _ _
            refine qa_if_eq (tg := 34) (nx := 17) at_145_14 rfl rfl (fun h145_14 => ?_) (fun h145_14 => ?_)
            · exact absurd (ent_iff.mp hbe).1 (bi_z h145_14)
            · refine qa_s (pc' := 18) at_145_17 rfl rfl rfl ?_
              refine qa_s (pc' := 19) at_145_18 rfl rfl rfl ?_
              refine qa_getI (nx := 22) at_145_19 rfl (by decide) rfl rfl (by decide) ?_
              refine qa_icmp_ge (tg := 34) (nx := 25) at_145_22 rfl rfl (fun h145_22 => ?_) (fun h145_22 => ?_)
              · exact absurd (by rw [q29] at h145_22; exact h145_22) (ent_iff.mp hbe).2
              · refine qa_s (pc' := 26) at_145_25 rfl rfl rfl ?_
                refine qa_ic (nx := 27) (v := nI 0) at_145_26 (by decide) rfl ?_
                refine qa_ic (nx := 28) (v := nI 3) at_145_27 (by decide) rfl ?_
                refine qa_callS (nx := 31) at_145_28 rfl rfl (Nat.le_of_ble_eq_true rfl) rfl rfl (by decide) rfl ?_
                show qa _ 101 0 [(0, .int _), (1, .int _), (2, .int _)] [] _ _
                refine c101_q ?_
                show qa _ 145 31 _ [.int _] _ _
                refine qa_if_ne (tg := 36) (nx := 34) at_145_31 rfl rfl (fun h145_31 => ?_) (fun h145_31 => ?_)
                · refine qa_s (pc' := 37) at_145_36 rfl rfl rfl ?_
                  refine qa_getI (nx := 40) at_145_37 rfl (by decide) rfl rfl (by decide) ?_
                  refine qa_ic (nx := 41) (v := nI 1) at_145_40 (by decide) rfl ?_
                  refine qa_s (pc' := 42) at_145_41 rfl rfl rfl ?_
                  refine qa_s (pc' := 43) at_145_42 rfl rfl rfl ?_
                  refine qa_s (pc' := 44) at_145_43 rfl rfl rfl ?_
                  refine qa_bi (nx := 46) (v := nI 31) at_145_44 (by decide) rfl ?_
                  refine qa_s (pc' := 47) at_145_46 rfl rfl rfl ?_
                  rw [q29, ek]
                  refine qa_s (pc' := 48) at_145_47 rfl rfl rfl ?_
                  refine qa_s (pc' := 49) at_145_48 rfl rfl rfl ?_
                  refine qn_if_ne (tg := 61) (nx := 52) at_145_49 rfl rfl (by decide) (fun h145_49 => ?_) (fun h => absurd h (by decide))
                  refine qa_s (pc' := 62) at_145_61 rfl rfl rfl ?_
                  refine qa_ic (nx := 63) (v := nI 1) at_145_62 (by decide) rfl ?_
                  refine qn_icmp_ne (tg := 75) (nx := 66) at_145_63 rfl rfl (by decide) (by decide) (fun h145_63 => ?_) (fun h => absurd h (by decide))
                  refine qa_s (pc' := 76) at_145_75 rfl rfl rfl ?_
                  refine qa_ic (nx := 77) (v := nI 2) at_145_76 (by decide) rfl ?_
                  refine qn_icmp_ne (tg := 89) (nx := 80) at_145_77 rfl rfl (by decide) (by decide) (fun h => absurd h (by decide)) (fun h145_77 => ?_)
                  refine qa_s (pc' := 81) at_145_80 rfl rfl rfl ?_
                  refine qa_getR (nx := 84) at_145_81 rfl (by decide) rfl rfl (by decide) ?_
                  refine qa_s (pc' := 85) at_145_84 rfl rfl rfl ?_
                  refine qa_iald (nx := 86) (k := k) at_145_85 rfl rfl rfl (by decide) rfl (show k < 32 by omega) ?_
                  refine qa_goto (nx := 95) at_145_86 rfl ?_
                  refine qa_ret at_145_95 rfl ?_
                  exact ⟨_, rfl, by rw [(hJ.1 k (by omega)).2.2.1], T, hR⟩
                · exact absurd h145_31 (by decide +kernel)
        · refine qa_swi (nx := 81) at_98_31 (by decide +kernel) (show _ = some (50) by decide +kernel) rfl ?_
          refine qa_s (pc' := 82) at_98_81 rfl rfl rfl ?_
          refine qa_getR (nx := 85) at_98_82 rfl (by decide) rfl rfl (by decide) ?_
          refine qa_s (pc' := 86) at_98_85 rfl rfl rfl ?_
          refine qa_iald (nx := 87) (k := k) at_98_86 rfl rfl rfl (by decide) rfl (show k < 32 by omega) ?_
          refine qa_ret at_98_87 rfl ?_
          show qa _ 97 22 _ [.int _] _ _
          refine qa_goto (nx := 26) at_97_22 rfl ?_
          refine qa_ret at_97_26 rfl ?_
          show qa _ 145 0 [(0, .ref _), (1, .int _), (2, .int _)] [] _ _
          refine qa_s (pc' := 1) at_145_0 rfl rfl rfl ?_
          refine qa_getI (nx := 4) at_145_1 rfl (by decide) rfl rfl (by decide) ?_
          refine qa_if_eq (tg := 34) (nx := 7) at_145_4 rfl rfl (fun h145_4 => ?_) (fun h145_4 => ?_)
          · exact absurd (ho' ▸ h145_4) h97_7
          · refine qa_s (pc' := 8) at_145_7 rfl rfl rfl ?_
            refine qa_ic (nx := 9) (v := nI 0) at_145_8 (by decide) rfl ?_
            refine qa_bi (nx := 11) (v := nI 31) at_145_9 (by decide) rfl ?_
            refine qa_callS (nx := 14) at_145_11 rfl rfl (Nat.le_of_ble_eq_true rfl) rfl rfl (by decide) rfl ?_
            show qa _ 101 0 [(0, .int _), (1, .int _), (2, .int _)] [] _ _
            refine c101_q ?_
            show qa _ 145 14 _ [.int _] _ _
            refine qa_if_eq (tg := 34) (nx := 17) at_145_14 rfl rfl (fun h145_14 => ?_) (fun h145_14 => ?_)
            · exact absurd (ent_iff.mp hbe).1 (bi_z h145_14)
            · refine qa_s (pc' := 18) at_145_17 rfl rfl rfl ?_
              refine qa_s (pc' := 19) at_145_18 rfl rfl rfl ?_
              refine qa_getI (nx := 22) at_145_19 rfl (by decide) rfl rfl (by decide) ?_
              refine qa_icmp_ge (tg := 34) (nx := 25) at_145_22 rfl rfl (fun h145_22 => ?_) (fun h145_22 => ?_)
              · exact absurd (by rw [q29] at h145_22; exact h145_22) (ent_iff.mp hbe).2
              · refine qa_s (pc' := 26) at_145_25 rfl rfl rfl ?_
                refine qa_ic (nx := 27) (v := nI 0) at_145_26 (by decide) rfl ?_
                refine qa_ic (nx := 28) (v := nI 3) at_145_27 (by decide) rfl ?_
                refine qa_callS (nx := 31) at_145_28 rfl rfl (Nat.le_of_ble_eq_true rfl) rfl rfl (by decide) rfl ?_
                show qa _ 101 0 [(0, .int _), (1, .int _), (2, .int _)] [] _ _
                refine c101_q ?_
                show qa _ 145 31 _ [.int _] _ _
                refine qa_if_ne (tg := 36) (nx := 34) at_145_31 rfl rfl (fun h145_31 => ?_) (fun h145_31 => ?_)
                · refine qa_s (pc' := 37) at_145_36 rfl rfl rfl ?_
                  refine qa_getI (nx := 40) at_145_37 rfl (by decide) rfl rfl (by decide) ?_
                  refine qa_ic (nx := 41) (v := nI 1) at_145_40 (by decide) rfl ?_
                  refine qa_s (pc' := 42) at_145_41 rfl rfl rfl ?_
                  refine qa_s (pc' := 43) at_145_42 rfl rfl rfl ?_
                  refine qa_s (pc' := 44) at_145_43 rfl rfl rfl ?_
                  refine qa_bi (nx := 46) (v := nI 31) at_145_44 (by decide) rfl ?_
                  refine qa_s (pc' := 47) at_145_46 rfl rfl rfl ?_
                  rw [q29, ek]
                  refine qa_s (pc' := 48) at_145_47 rfl rfl rfl ?_
                  refine qa_s (pc' := 49) at_145_48 rfl rfl rfl ?_
                  refine qn_if_ne (tg := 61) (nx := 52) at_145_49 rfl rfl (by decide) (fun h145_49 => ?_) (fun h => absurd h (by decide))
                  refine qa_s (pc' := 62) at_145_61 rfl rfl rfl ?_
                  refine qa_ic (nx := 63) (v := nI 1) at_145_62 (by decide) rfl ?_
                  refine qn_icmp_ne (tg := 75) (nx := 66) at_145_63 rfl rfl (by decide) (by decide) (fun h145_63 => ?_) (fun h => absurd h (by decide))
                  refine qa_s (pc' := 76) at_145_75 rfl rfl rfl ?_
                  refine qa_ic (nx := 77) (v := nI 2) at_145_76 (by decide) rfl ?_
                  refine qn_icmp_ne (tg := 89) (nx := 80) at_145_77 rfl rfl (by decide) (by decide) (fun h145_77 => ?_) (fun h => absurd h (by decide))
                  refine qa_s (pc' := 90) at_145_89 rfl rfl rfl ?_
                  refine qa_getR (nx := 93) at_145_90 rfl (by decide) rfl rfl (by decide) ?_
                  refine qa_s (pc' := 94) at_145_93 rfl rfl rfl ?_
                  refine qa_iald (nx := 95) (k := k) at_145_94 rfl rfl rfl (by decide) rfl (show k < 32 by omega) ?_
                  refine qa_ret at_145_95 rfl ?_
                  exact ⟨_, rfl, by rw [(hJ.1 k (by omega)).2.2.2], T, hR⟩
                · exact absurd h145_31 (by decide +kernel)
    · refine qa_ic (nx := 17) (v := (-1)) at_98_16 (by decide) rfl ?_
      refine qa_ret at_98_17 rfl ?_
      show qa _ 97 22 _ [.int _] _ _
      refine qa_goto (nx := 26) at_97_22 rfl ?_
      refine qa_ret at_97_26 rfl ?_
      show qa _ 145 0 [(0, .ref _), (1, .int _), (2, .int _)] [] _ _
      refine qa_s (pc' := 1) at_145_0 rfl rfl rfl ?_
      refine qa_getI (nx := 4) at_145_1 rfl (by decide) rfl rfl (by decide) ?_
      refine qa_if_eq (tg := 34) (nx := 7) at_145_4 rfl rfl (fun h145_4 => ?_) (fun h145_4 => ?_)
      · exact absurd (ho' ▸ h145_4) h97_7
      · refine qa_s (pc' := 8) at_145_7 rfl rfl rfl ?_
        refine qa_ic (nx := 9) (v := nI 0) at_145_8 (by decide) rfl ?_
        refine qa_bi (nx := 11) (v := nI 31) at_145_9 (by decide) rfl ?_
        refine qa_callS (nx := 14) at_145_11 rfl rfl (Nat.le_of_ble_eq_true rfl) rfl rfl (by decide) rfl ?_
        show qa _ 101 0 [(0, .int _), (1, .int _), (2, .int _)] [] _ _
        refine c101_q ?_
        show qa _ 145 14 _ [.int _] _ _
        refine qa_if_eq (tg := 34) (nx := 17) at_145_14 rfl rfl (fun h145_14 => ?_) (fun h145_14 => ?_)
        · refine qa_ic (nx := 35) (v := (-1)) at_145_34 (by decide) rfl ?_
          refine qa_ret at_145_35 rfl ?_
          exact ⟨_, rfl, rfl, T, hR⟩
        · refine qa_s (pc' := 18) at_145_17 rfl rfl rfl ?_
          refine qa_s (pc' := 19) at_145_18 rfl rfl rfl ?_
          refine qa_getI (nx := 22) at_145_19 rfl (by decide) rfl rfl (by decide) ?_
          refine qa_icmp_ge (tg := 34) (nx := 25) at_145_22 rfl rfl (fun h145_22 => ?_) (fun h145_22 => ?_)
          · refine qa_ic (nx := 35) (v := (-1)) at_145_34 (by decide) rfl ?_
            refine qa_ret at_145_35 rfl ?_
            exact ⟨_, rfl, rfl, T, hR⟩
          · exact absurd (ent_iff.mpr ⟨bi_n h145_14, by rw [q29] at h145_22; exact h145_22⟩) (bi_z h98_13)
end PQ
