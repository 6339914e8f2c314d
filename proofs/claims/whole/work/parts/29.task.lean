/-! task -/
section PQ
variable {cst : List (List Int32)} {σ : sg} {Q : Option Value → sg → Prop} {T : Nat}
abbrev tkG (σ : sg) (T : Nat) (x y z : Int32) : Prop := σ 18 0 0 = 0 ∧ T < 5 ∧ (nI 1 ≤ x ∧ x ≤ nI 5000) ∧ (nI 1 ≤ y ∧ y ≤ x) ∧ (-1 ≤ z ∧ z ≤ nI 5000)
theorem c10_q {x y z : Int32} (h04 : σ 0 0 4 = nI T) (h5 : T ≤ 5) (k0 : ¬ tkG σ T x y z → Q (some (.int (-1))) σ) (k1 : tkG σ T x y z → Q (some (.int (nI T))) (up (up (up (up (up σ 11 T 1 x) 11 T 2 y) 11 T 3 z) 4 0 0 (nI 0)) 0 0 4 (nI (T + 1)))) : qa cst 10 0 [(0, .ref (cl 0 0)), (1, .int x), (2, .int y), (3, .int z)] [] σ Q := by
  refine qa_s (pc' := 1) at_10_0 rfl rfl rfl ?_
  refine qa_ic (nx := 2) (v := nI 1) at_10_1 (by decide) rfl ?_
  refine qa_si (nx := 5) (v := nI 5000) at_10_2 (by decide) rfl ?_
  refine qa_callS (nx := 8) at_10_5 rfl rfl (Nat.le_of_ble_eq_true rfl) rfl rfl (by decide) rfl ?_
  show qa _ 11 0 [(0, .int _), (1, .int _), (2, .int _)] [] _ _
  refine c11_q ?_
  show qa _ 10 8 _ [.int _] _ _
  refine qa_if_eq (tg := 35) (nx := 11) at_10_8 rfl rfl (fun h10_8 => ?_) (fun h10_8 => ?_)
  · refine qa_ic (nx := 36) (v := nI 0) at_10_35 (by decide) rfl ?_
    refine qa_s (pc' := 38) at_10_36 rfl rfl rfl ?_
    refine qa_s (pc' := 39) at_10_38 rfl rfl rfl ?_
    refine qa_getR (nx := 42) at_10_39 rfl (by decide) rfl rfl (by decide) ?_
    refine qa_getI (nx := 45) at_10_42 rfl (by decide) rfl rfl (by decide) ?_
    refine qa_if_ne (tg := 61) (nx := 48) at_10_45 rfl rfl (fun h10_45 => ?_) (fun h10_45 => ?_)
    · refine qa_ic (nx := 62) (v := (-1)) at_10_61 (by decide) rfl ?_
      refine qa_ret at_10_62 rfl ?_
      exact k0 (fun ⟨a, b, c, d, e⟩ => by first | exact bi_z h10_8 c | exact bi_z h10_17 d | exact bi_z h10_28 e | exact h10_45 a | omega)
    · have h10_45 : σ 18 0 0 = 0 := h10_45
      refine qa_s (pc' := 49) at_10_48 rfl rfl rfl ?_
      refine qa_getV (nx := 52) (v := nI T) at_10_49 rfl (by decide) rfl rfl (by decide) (show _ from h04) ?_
      refine qa_ic (nx := 53) (v := nI 5) at_10_52 (by decide) rfl ?_
      refine qn_icmp_ge (tg := 61) (nx := 56) at_10_53 rfl rfl (by omega) (by omega) (fun h10_53 => ?_) (fun h10_53 => ?_)
      · refine qa_ic (nx := 62) (v := (-1)) at_10_61 (by decide) rfl ?_
        refine qa_ret at_10_62 rfl ?_
        exact k0 (fun ⟨a, b, c, d, e⟩ => by first | exact bi_z h10_8 c | exact bi_z h10_17 d | exact bi_z h10_28 e | exact h10_45 a | omega)
      · refine qa_s (pc' := 58) at_10_56 rfl rfl rfl ?_
        refine qn_if_ne (tg := 63) (nx := 61) at_10_58 rfl rfl (by decide) (fun h => absurd h (by decide)) (fun h10_58 => ?_)
        refine qa_ic (nx := 62) (v := (-1)) at_10_61 (by decide) rfl ?_
        refine qa_ret at_10_62 rfl ?_
        exact k0 (fun ⟨a, b, c, d, e⟩ => by first | exact bi_z h10_8 c | exact bi_z h10_17 d | exact bi_z h10_28 e | exact h10_45 a | omega)
  · refine qa_s (pc' := 12) at_10_11 rfl rfl rfl ?_
    refine qa_ic (nx := 13) (v := nI 1) at_10_12 (by decide) rfl ?_
    refine qa_s (pc' := 14) at_10_13 rfl rfl rfl ?_
    refine qa_callS (nx := 17) at_10_14 rfl rfl (Nat.le_of_ble_eq_true rfl) rfl rfl (by decide) rfl ?_
    show qa _ 11 0 [(0, .int _), (1, .int _), (2, .int _)] [] _ _
    refine c11_q ?_
    show qa _ 10 17 _ [.int _] _ _
    refine qa_if_eq (tg := 35) (nx := 20) at_10_17 rfl rfl (fun h10_17 => ?_) (fun h10_17 => ?_)
    · refine qa_ic (nx := 36) (v := nI 0) at_10_35 (by decide) rfl ?_
      refine qa_s (pc' := 38) at_10_36 rfl rfl rfl ?_
      refine qa_s (pc' := 39) at_10_38 rfl rfl rfl ?_
      refine qa_getR (nx := 42) at_10_39 rfl (by decide) rfl rfl (by decide) ?_
      refine qa_getI (nx := 45) at_10_42 rfl (by decide) rfl rfl (by decide) ?_
      refine qa_if_ne (tg := 61) (nx := 48) at_10_45 rfl rfl (fun h10_45 => ?_) (fun h10_45 => ?_)
      · refine qa_ic (nx := 62) (v := (-1)) at_10_61 (by decide) rfl ?_
        refine qa_ret at_10_62 rfl ?_
        exact k0 (fun ⟨a, b, c, d, e⟩ => by first | exact bi_z h10_8 c | exact bi_z h10_17 d | exact bi_z h10_28 e | exact h10_45 a | omega)
      · have h10_45 : σ 18 0 0 = 0 := h10_45
        refine qa_s (pc' := 49) at_10_48 rfl rfl rfl ?_
        refine qa_getV (nx := 52) (v := nI T) at_10_49 rfl (by decide) rfl rfl (by decide) (show _ from h04) ?_
        refine qa_ic (nx := 53) (v := nI 5) at_10_52 (by decide) rfl ?_
        refine qn_icmp_ge (tg := 61) (nx := 56) at_10_53 rfl rfl (by omega) (by omega) (fun h10_53 => ?_) (fun h10_53 => ?_)
        · refine qa_ic (nx := 62) (v := (-1)) at_10_61 (by decide) rfl ?_
          refine qa_ret at_10_62 rfl ?_
          exact k0 (fun ⟨a, b, c, d, e⟩ => by first | exact bi_z h10_8 c | exact bi_z h10_17 d | exact bi_z h10_28 e | exact h10_45 a | omega)
        · refine qa_s (pc' := 58) at_10_56 rfl rfl rfl ?_
          refine qn_if_ne (tg := 63) (nx := 61) at_10_58 rfl rfl (by decide) (fun h => absurd h (by decide)) (fun h10_58 => ?_)
          refine qa_ic (nx := 62) (v := (-1)) at_10_61 (by decide) rfl ?_
          refine qa_ret at_10_62 rfl ?_
          exact k0 (fun ⟨a, b, c, d, e⟩ => by first | exact bi_z h10_8 c | exact bi_z h10_17 d | exact bi_z h10_28 e | exact h10_45 a | omega)
    · refine qa_s (pc' := 21) at_10_20 rfl rfl rfl ?_
      refine qa_ic (nx := 22) (v := (-1)) at_10_21 (by decide) rfl ?_
      refine qa_si (nx := 25) (v := nI 5000) at_10_22 (by decide) rfl ?_
      refine qa_callS (nx := 28) at_10_25 rfl rfl (Nat.le_of_ble_eq_true rfl) rfl rfl (by decide) rfl ?_
      show qa _ 11 0 [(0, .int _), (1, .int _), (2, .int _)] [] _ _
      refine c11_q ?_
      show qa _ 10 28 _ [.int _] _ _
      refine qa_if_eq (tg := 35) (nx := 31) at_10_28 rfl rfl (fun h10_28 => ?_) (fun h10_28 => ?_)
      · refine qa_ic (nx := 36) (v := nI 0) at_10_35 (by decide) rfl ?_
        refine qa_s (pc' := 38) at_10_36 rfl rfl rfl ?_
        refine qa_s (pc' := 39) at_10_38 rfl rfl rfl ?_
        refine qa_getR (nx := 42) at_10_39 rfl (by decide) rfl rfl (by decide) ?_
        refine qa_getI (nx := 45) at_10_42 rfl (by decide) rfl rfl (by decide) ?_
        refine qa_if_ne (tg := 61) (nx := 48) at_10_45 rfl rfl (fun h10_45 => ?_) (fun h10_45 => ?_)
        · refine qa_ic (nx := 62) (v := (-1)) at_10_61 (by decide) rfl ?_
          refine qa_ret at_10_62 rfl ?_
          exact k0 (fun ⟨a, b, c, d, e⟩ => by first | exact bi_z h10_8 c | exact bi_z h10_17 d | exact bi_z h10_28 e | exact h10_45 a | omega)
        · have h10_45 : σ 18 0 0 = 0 := h10_45
          refine qa_s (pc' := 49) at_10_48 rfl rfl rfl ?_
          refine qa_getV (nx := 52) (v := nI T) at_10_49 rfl (by decide) rfl rfl (by decide) (show _ from h04) ?_
          refine qa_ic (nx := 53) (v := nI 5) at_10_52 (by decide) rfl ?_
          refine qn_icmp_ge (tg := 61) (nx := 56) at_10_53 rfl rfl (by omega) (by omega) (fun h10_53 => ?_) (fun h10_53 => ?_)
          · refine qa_ic (nx := 62) (v := (-1)) at_10_61 (by decide) rfl ?_
            refine qa_ret at_10_62 rfl ?_
            exact k0 (fun ⟨a, b, c, d, e⟩ => by first | exact bi_z h10_8 c | exact bi_z h10_17 d | exact bi_z h10_28 e | exact h10_45 a | omega)
          · refine qa_s (pc' := 58) at_10_56 rfl rfl rfl ?_
            refine qn_if_ne (tg := 63) (nx := 61) at_10_58 rfl rfl (by decide) (fun h => absurd h (by decide)) (fun h10_58 => ?_)
            refine qa_ic (nx := 62) (v := (-1)) at_10_61 (by decide) rfl ?_
            refine qa_ret at_10_62 rfl ?_
            exact k0 (fun ⟨a, b, c, d, e⟩ => by first | exact bi_z h10_8 c | exact bi_z h10_17 d | exact bi_z h10_28 e | exact h10_45 a | omega)
      · refine qa_ic (nx := 32) (v := nI 1) at_10_31 (by decide) rfl ?_
        refine qa_goto (nx := 36) at_10_32 rfl ?_
        refine qa_s (pc' := 38) at_10_36 rfl rfl rfl ?_
        refine qa_s (pc' := 39) at_10_38 rfl rfl rfl ?_
        refine qa_getR (nx := 42) at_10_39 rfl (by decide) rfl rfl (by decide) ?_
        refine qa_getI (nx := 45) at_10_42 rfl (by decide) rfl rfl (by decide) ?_
        refine qa_if_ne (tg := 61) (nx := 48) at_10_45 rfl rfl (fun h10_45 => ?_) (fun h10_45 => ?_)
        · refine qa_ic (nx := 62) (v := (-1)) at_10_61 (by decide) rfl ?_
          refine qa_ret at_10_62 rfl ?_
          exact k0 (fun ⟨a, b, c, d, e⟩ => by first | exact bi_z h10_8 c | exact bi_z h10_17 d | exact bi_z h10_28 e | exact h10_45 a | omega)
        · have h10_45 : σ 18 0 0 = 0 := h10_45
          refine qa_s (pc' := 49) at_10_48 rfl rfl rfl ?_
          refine qa_getV (nx := 52) (v := nI T) at_10_49 rfl (by decide) rfl rfl (by decide) (show _ from h04) ?_
          refine qa_ic (nx := 53) (v := nI 5) at_10_52 (by decide) rfl ?_
          refine qn_icmp_ge (tg := 61) (nx := 56) at_10_53 rfl rfl (by omega) (by omega) (fun h10_53 => ?_) (fun h10_53 => ?_)
          · refine qa_ic (nx := 62) (v := (-1)) at_10_61 (by decide) rfl ?_
            refine qa_ret at_10_62 rfl ?_
            exact k0 (fun ⟨a, b, c, d, e⟩ => by first | exact bi_z h10_8 c | exact bi_z h10_17 d | exact bi_z h10_28 e | exact h10_45 a | omega)
          · refine qa_s (pc' := 58) at_10_56 rfl rfl rfl ?_
            refine qn_if_ne (tg := 63) (nx := 61) at_10_58 rfl rfl (by decide) (fun h10_58 => ?_) (fun h => absurd h (by decide))
            refine qa_s (pc' := 64) at_10_63 rfl rfl rfl ?_
            refine qa_getR (nx := 67) at_10_64 rfl (by decide) rfl rfl (by decide) ?_
            refine qa_s (pc' := 68) at_10_67 rfl rfl rfl ?_
            refine qa_getV (nx := 71) (v := nI T) at_10_68 rfl (by decide) rfl rfl (by decide) (show _ from h04) ?_
            refine qa_aald (nx := 72) (k := T) at_10_71 (by decide) rfl rfl (by decide) rfl (show T < 5 by omega) ?_
            refine qa_s (pc' := 73) at_10_72 rfl rfl rfl ?_
            refine qa_s (pc' := 74) at_10_73 rfl rfl rfl ?_
            refine qa_s (pc' := 75) at_10_74 rfl rfl rfl ?_
            refine qa_callV (nx := 78) at_10_75 rfl rfl (Nat.le_of_ble_eq_true rfl) rfl rfl rfl (by decide) rfl (show _ < 5 by omega) ?_
            show qa _ 12 0 [(0, .ref _), (1, .int _), (2, .int _), (3, .int _)] [] _ _
            refine qa_s (pc' := 1) at_12_0 rfl rfl rfl ?_
            refine qa_s (pc' := 2) at_12_1 rfl rfl rfl ?_
            refine qa_put (nx := 5) at_12_2 rfl (by decide) rfl rfl rfl (show _ < 5 by omega) ?_
            refine qa_s (pc' := 6) at_12_5 rfl rfl rfl ?_
            refine qa_s (pc' := 7) at_12_6 rfl rfl rfl ?_
            refine qa_put (nx := 10) at_12_7 rfl (by decide) rfl rfl rfl (show _ < 5 by omega) ?_
            refine qa_s (pc' := 11) at_12_10 rfl rfl rfl ?_
            refine qa_s (pc' := 12) at_12_11 rfl rfl rfl ?_
            refine qa_put (nx := 15) at_12_12 rfl (by decide) rfl rfl rfl (show _ < 5 by omega) ?_
            refine qa_ret at_12_15 rfl ?_
            show qa _ 10 78 _ [] _ _
            refine qa_s (pc' := 79) at_10_78 rfl rfl rfl ?_
            refine qa_getR (nx := 82) at_10_79 rfl (by decide) rfl rfl (by decide) ?_
            refine qa_ic (nx := 83) (v := nI 0) at_10_82 (by decide) rfl ?_
            refine qa_put (nx := 86) at_10_83 rfl (by decide) rfl (by decide) rfl (by decide) ?_
            refine qa_s (pc' := 87) at_10_86 rfl rfl rfl ?_
            refine qa_s (pc' := 88) at_10_87 rfl rfl rfl ?_
            refine qa_getV (nx := 91) (v := nI T) at_10_88 rfl (by decide) rfl rfl (by decide) (show _ from h04) ?_
            refine qa_ic (nx := 92) (v := nI 1) at_10_91 (by decide) rfl ?_
            refine qa_addN (nx := 93) at_10_92 rfl ?_
            refine qa_put (nx := 96) at_10_93 rfl (by decide) rfl rfl rfl (by decide) ?_
            refine qa_s (pc' := 97) at_10_96 rfl rfl rfl ?_
            refine qa_getV (nx := 100) (v := nI (T + 1)) at_10_97 rfl (by decide) rfl rfl (by decide) (show _ from rfl) ?_
            refine qa_ic (nx := 101) (v := nI 1) at_10_100 (by decide) rfl ?_
            refine qa_subN (nx := 102) at_10_101 rfl (by omega) ?_
            rw [show T + 1 - 1 = T from rfl]
            refine qa_ret at_10_102 rfl ?_
            exact k1 ⟨h10_45, by omega, bi_n h10_8, bi_n h10_17, bi_n h10_28⟩
theorem c100_q {x y z : Int32} (h40 : σ 40 0 0 = nI T) (h5 : T ≤ 5) (k0 : ¬ (σ 40 0 2 = 0 ∧ T < 5 ∧ (nI 1 ≤ x ∧ x ≤ nI 5000) ∧ (nI 1 ≤ y ∧ y ≤ x) ∧ (-1 ≤ z ∧ z ≤ nI 5000)) → Q (some (.int (-1))) σ) (k1 : (σ 40 0 2 = 0 ∧ T < 5 ∧ (nI 1 ≤ x ∧ x ≤ nI 5000) ∧ (nI 1 ≤ y ∧ y ≤ x) ∧ (-1 ≤ z ∧ z ≤ nI 5000)) → Q (some (.int (nI T))) (up (up (up (up (up σ 41 0 T x) 42 0 T y) 43 0 T z) 40 0 1 (nI 0)) 40 0 0 (nI (T + 1)))) : qa cst 100 0 [(0, .ref (cl 40 0)), (1, .int x), (2, .int y), (3, .int z)] [] σ Q := by
  refine qa_s (pc' := 1) at_100_0 rfl rfl rfl ?_
  refine qa_getI (nx := 4) at_100_1 rfl (by decide) rfl rfl (by decide) ?_
  refine qa_if_ne (tg := 46) (nx := 7) at_100_4 rfl rfl (fun h100_4 => ?_) (fun h100_4 => ?_)
  · refine qa_ic (nx := 47) (v := (-1)) at_100_46 (by decide) rfl ?_
    refine qa_ret at_100_47 rfl ?_
    exact k0 (fun ⟨a, b, c, d, e⟩ => by first | exact bi_z h100_23 c | exact bi_z h100_32 d | exact bi_z h100_43 e | exact h100_4 a | omega)
  · refine qa_s (pc' := 8) at_100_7 rfl rfl rfl ?_
    refine qa_getV (nx := 11) (v := nI T) at_100_8 rfl (by decide) rfl rfl (by decide) (show _ from h40) ?_
    refine qa_ic (nx := 12) (v := nI 5) at_100_11 (by decide) rfl ?_
    refine qn_icmp_eq (tg := 46) (nx := 15) at_100_12 rfl rfl (by omega) (by omega) (fun h100_12 => ?_) (fun h100_12 => ?_)
    · refine qa_ic (nx := 47) (v := (-1)) at_100_46 (by decide) rfl ?_
      refine qa_ret at_100_47 rfl ?_
      exact k0 (fun ⟨a, b, c, d, e⟩ => by first | exact bi_z h100_23 c | exact bi_z h100_32 d | exact bi_z h100_43 e | exact h100_4 a | omega)
    · refine qa_s (pc' := 16) at_100_15 rfl rfl rfl ?_
      refine qa_ic (nx := 17) (v := nI 1) at_100_16 (by decide) rfl ?_
      refine qa_si (nx := 20) (v := nI 5000) at_100_17 (by decide) rfl ?_
      refine qa_callS (nx := 23) at_100_20 rfl rfl (Nat.le_of_ble_eq_true rfl) rfl rfl (by decide) rfl ?_
      show qa _ 101 0 [(0, .int _), (1, .int _), (2, .int _)] [] _ _
      refine c101_q ?_
      show qa _ 100 23 _ [.int _] _ _
      refine qa_if_eq (tg := 46) (nx := 26) at_100_23 rfl rfl (fun h100_23 => ?_) (fun h100_23 => ?_)
      · refine qa_ic (nx := 47) (v := (-1)) at_100_46 (by decide) rfl ?_
        refine qa_ret at_100_47 rfl ?_
        exact k0 (fun ⟨a, b, c, d, e⟩ => by first | exact bi_z h100_23 c | exact bi_z h100_32 d | exact bi_z h100_43 e | exact h100_4 a | omega)
      · refine qa_s (pc' := 27) at_100_26 rfl rfl rfl ?_
        refine qa_ic (nx := 28) (v := nI 1) at_100_27 (by decide) rfl ?_
        refine qa_s (pc' := 29) at_100_28 rfl rfl rfl ?_
        refine qa_callS (nx := 32) at_100_29 rfl rfl (Nat.le_of_ble_eq_true rfl) rfl rfl (by decide) rfl ?_
        show qa _ 101 0 [(0, .int _), (1, .int _), (2, .int _)] [] _ _
        refine c101_q ?_
        show qa _ 100 32 _ [.int _] _ _
        refine qa_if_eq (tg := 46) (nx := 35) at_100_32 rfl rfl (fun h100_32 => ?_) (fun h100_32 => ?_)
        · refine qa_ic (nx := 47) (v := (-1)) at_100_46 (by decide) rfl ?_
          refine qa_ret at_100_47 rfl ?_
          exact k0 (fun ⟨a, b, c, d, e⟩ => by first | exact bi_z h100_23 c | exact bi_z h100_32 d | exact bi_z h100_43 e | exact h100_4 a | omega)
        · refine qa_s (pc' := 36) at_100_35 rfl rfl rfl ?_
          refine qa_ic (nx := 37) (v := (-1)) at_100_36 (by decide) rfl ?_
          refine qa_si (nx := 40) (v := nI 5000) at_100_37 (by decide) rfl ?_
          refine qa_callS (nx := 43) at_100_40 rfl rfl (Nat.le_of_ble_eq_true rfl) rfl rfl (by decide) rfl ?_
          show qa _ 101 0 [(0, .int _), (1, .int _), (2, .int _)] [] _ _
          refine c101_q ?_
          show qa _ 100 43 _ [.int _] _ _
          refine qa_if_ne (tg := 48) (nx := 46) at_100_43 rfl rfl (fun h100_43 => ?_) (fun h100_43 => ?_)
          · refine qa_s (pc' := 49) at_100_48 rfl rfl rfl ?_
            refine qa_getR (nx := 52) at_100_49 rfl (by decide) rfl rfl (by decide) ?_
            refine qa_s (pc' := 53) at_100_52 rfl rfl rfl ?_
            refine qa_getV (nx := 56) (v := nI T) at_100_53 rfl (by decide) rfl rfl (by decide) (show _ from h40) ?_
            refine qa_s (pc' := 57) at_100_56 rfl rfl rfl ?_
            refine qa_iast (nx := 58) (k := T) at_100_57 rfl rfl rfl (by decide) rfl (show T < 5 by omega) ?_
            refine qa_s (pc' := 59) at_100_58 rfl rfl rfl ?_
            refine qa_getR (nx := 62) at_100_59 rfl (by decide) rfl rfl (by decide) ?_
            refine qa_s (pc' := 63) at_100_62 rfl rfl rfl ?_
            refine qa_getV (nx := 66) (v := nI T) at_100_63 rfl (by decide) rfl rfl (by decide) (show _ from h40) ?_
            refine qa_s (pc' := 67) at_100_66 rfl rfl rfl ?_
            refine qa_iast (nx := 68) (k := T) at_100_67 rfl rfl rfl (by decide) rfl (show T < 5 by omega) ?_
            refine qa_s (pc' := 69) at_100_68 rfl rfl rfl ?_
            refine qa_getR (nx := 72) at_100_69 rfl (by decide) rfl rfl (by decide) ?_
            refine qa_s (pc' := 73) at_100_72 rfl rfl rfl ?_
            refine qa_getV (nx := 76) (v := nI T) at_100_73 rfl (by decide) rfl rfl (by decide) (show _ from h40) ?_
            refine qa_s (pc' := 77) at_100_76 rfl rfl rfl ?_
            refine qa_iast (nx := 78) (k := T) at_100_77 rfl rfl rfl (by decide) rfl (show T < 5 by omega) ?_
            refine qa_s (pc' := 79) at_100_78 rfl rfl rfl ?_
            refine qa_ic (nx := 80) (v := nI 0) at_100_79 (by decide) rfl ?_
            refine qa_put (nx := 83) at_100_80 rfl (by decide) rfl (by decide) rfl (by decide) ?_
            refine qa_s (pc' := 84) at_100_83 rfl rfl rfl ?_
            refine qa_s (pc' := 85) at_100_84 rfl rfl rfl ?_
            refine qa_getV (nx := 88) (v := nI T) at_100_85 rfl (by decide) rfl rfl (by decide) (show _ from h40) ?_
            refine qa_ic (nx := 89) (v := nI 1) at_100_88 (by decide) rfl ?_
            refine qa_addN (nx := 90) at_100_89 rfl ?_
            refine qa_put (nx := 93) at_100_90 rfl (by decide) rfl rfl rfl (by decide) ?_
            refine qa_s (pc' := 94) at_100_93 rfl rfl rfl ?_
            refine qa_getV (nx := 97) (v := nI (T + 1)) at_100_94 rfl (by decide) rfl rfl (by decide) (show _ from rfl) ?_
            refine qa_ic (nx := 98) (v := nI 1) at_100_97 (by decide) rfl ?_
            refine qa_subN (nx := 99) at_100_98 rfl (by omega) ?_
            rw [show T + 1 - 1 = T from rfl]
            refine qa_ret at_100_99 rfl ?_
            exact k1 ⟨h100_4, by omega, bi_n h100_23, bi_n h100_32, bi_n h100_43⟩
          · refine qa_ic (nx := 47) (v := (-1)) at_100_46 (by decide) rfl ?_
            refine qa_ret at_100_47 rfl ?_
            exact k0 (fun ⟨a, b, c, d, e⟩ => by first | exact bi_z h100_23 c | exact bi_z h100_32 d | exact bi_z h100_43 e | exact h100_4 a | omega)
theorem m1_of {z : Int32} (h : -1 ≤ z ∧ z ≤ nI 5000) : z = -1 ∨ ∃ o : Nat, o ≤ 5000 ∧ z = nI o := by
  by_cases h0 : z < 0
  · left
    have e1 : ((-1 : Int32)).toInt = -1 := by decide
    have h1 := h.1
    simp only [Int32.le_iff_toInt_le, Int32.lt_iff_toInt_lt, Int32.toInt_zero, e1] at h1 h0
    exact Int32.toInt_inj.mp (by omega)
  · right
    obtain ⟨o, ho, rfl⟩ := nI_of h0
    exact ⟨o, (nI_leI ho (by decide)).mp h.2, rfl⟩
theorem Rel_task {x y z : Int32} (hR : Rel T σ) (hG : tkG σ T x y z) : Rel (T + 1) (up (up (up (up (up (up (up (up (up (up σ 11 T 1 x) 11 T 2 y) 11 T 3 z) 4 0 0 (nI 0)) 0 0 4 (nI (T + 1))) 41 0 T x) 42 0 T y) 43 0 T z) 40 0 1 (nI 0)) 40 0 0 (nI (T + 1))) := by
  obtain ⟨hA, hTt, hI, hP, hF, hJ, hRR⟩ := hR
  obtain ⟨h5, h04, h40, hf, hf', ho, ho', hm, hof⟩ := hA
  obtain ⟨g0, g1, g2, g3, g4⟩ := hG
  refine ⟨⟨by omega, rfl, rfl, Or.inl rfl, rfl, ho, ho', hm, fun h => absurd (g0.symm.trans h) (by decide)⟩, ?_, RI_congr ?_ ?_ ?_ ?_ ?_ ?_ ?_ ?_ hI, RP_congr ?_ hP, fun h => absurd (show nI 0 = 1 from h) (by decide), RJ_congr ?_ ?_ ?_ ?_ ?_ ?_ ?_ ?_ ?_ ?_ ?_ ?_ ?_ ?_ ?_ ?_ ?_ ?_ ?_ ?_ ?_ ?_ ?_ ?_ hJ, fun h => absurd (g0.symm.trans h) (by decide)⟩
  · intro i hi
    by_cases e : i = T
    · subst e
      simp only [up]
      obtain ⟨p, hp, rfl⟩ := nI_of (x := x) (fun q => absurd (Int32.le_trans g2.1 (Int32.le_of_lt q)) (by decide))
      have hp1 := (nI_leI (by decide) hp).mp g2.1
      have hp2 := (nI_leI hp (by decide)).mp g2.2
      obtain ⟨d, hd, rfl⟩ := nI_of (x := y) (fun q => absurd (Int32.le_trans g3.1 (Int32.le_of_lt q)) (by decide))
      have hd1 := (nI_leI (by decide) hd).mp g3.1
      have hd2 := (nI_leI hd hp).mp g3.2
      simp
      exact ⟨⟨p, hp1, hp2, rfl, d, hd1, hd2, rfl⟩, m1_of g4⟩
    · have hi' : i < T := by omega
      have hq := hTt i hi'
      simpa [up, e] using hq
  all_goals (simp [up_k])
theorem p_task (hR : Rel T σ) (x y z : Int32) : pair cst 10 100 [.int x, .int y, .int z] σ := by
  obtain ⟨h5, h04, h40, hf, hf', ho, ho', hm, hof⟩ := hR.1
  show qa cst 10 0 [(0, .ref (cl 0 0)), (1, .int x), (2, .int y), (3, .int z)] [] σ _
  refine c10_q h04 h5 (fun h => ?_) (fun h => ?_)
  · show qa cst 100 0 [(0, .ref (cl 40 0)), (1, .int x), (2, .int y), (3, .int z)] [] σ _
    exact c100_q h40 h5 (fun h' => ⟨_, rfl, rfl, T, hR⟩) (fun h' => absurd (by rw [ho'] at h'; exact h') h)
  · show qa cst 100 0 [(0, .ref (cl 40 0)), (1, .int x), (2, .int y), (3, .int z)] [] _ _
    exact c100_q (T := T) h40 h5 (fun h' => absurd (show σ 40 0 2 = 0 ∧ _ by rw [ho']; exact h) h') (fun h' => ⟨_, rfl, rfl, T + 1, Rel_task hR h⟩)
end PQ
