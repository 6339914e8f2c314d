/-! code -/
section PQ
variable {ys : List Int32} {σ : sg} {Q : Option Value → sg → Prop} {T : Nat}
abbrev okL (q : Nat) (x y : Int32) : Prop := (nI 0 ≤ x ∧ x ≤ mj_X_MOST.getD q 0) ∧ (mj_Y_LEAST.getD q 0 ≤ y ∧ y ≤ mj_Y_MOST.getD q 0)
theorem c16_q {o x y : Int32} (k0 : (¬ ∃ q : Nat, q < 15 ∧ o = nI q ∧ okL q x y) → Q (some (.int (nI 0))) σ) (k1 : ∀ q : Nat, q < 15 → o = nI q → okL q x y → Q (some (.int (nI 1))) σ) : qa (mj_cst ys) 16 0 [(0, .int o), (1, .int x), (2, .int y)] [] σ Q := by
  refine qa_s (pc' := 1) at_16_0 rfl rfl rfl ?_
  refine qa_s (pc' := 4) at_16_1 rfl rfl rfl ?_
  refine qa_tlen (nx := 5) at_16_4 rfl (by decide) rfl ?_
  refine qa_callS (nx := 8) at_16_5 rfl rfl (Nat.le_of_ble_eq_true rfl) rfl rfl (by decide) rfl ?_
  show qa _ 15 0 [(0, .int _), (1, .int _)] [] _ _
  refine c15_q ?_
  show qa _ 16 8 _ [.int _] _ _
  refine qa_if_eq (tg := 45) (nx := 11) at_16_8 rfl rfl (fun h16_8 => ?_) (fun h16_8 => ?_)
  · refine qa_ic (nx := 46) (v := nI 0) at_16_45 (by decide) rfl ?_
    refine qa_ret at_16_46 rfl ?_
    exact k0 (fun ⟨q', hq', e', hx, hy⟩ => bi_z h16_8 (by rw [e']; exact ix_in (by decide) hq'))
  · obtain ⟨q, hq, rfl⟩ := ix_of (T := 15) (by decide) (bi_n h16_8)
    refine qa_s (pc' := 12) at_16_11 rfl rfl rfl ?_
    refine qa_ic (nx := 13) (v := nI 0) at_16_12 (by decide) rfl ?_
    refine qa_s (pc' := 16) at_16_13 rfl rfl rfl ?_
    refine qa_s (pc' := 17) at_16_16 rfl rfl rfl ?_
    refine qa_tald (nx := 18) at_16_17 rfl (by decide) rfl rfl (show q < 15 from hq) (by decide) ?_
    refine qa_callS (nx := 21) at_16_18 rfl rfl (Nat.le_of_ble_eq_true rfl) rfl rfl (by decide) rfl ?_
    show qa _ 11 0 [(0, .int _), (1, .int _), (2, .int _)] [] _ _
    refine c11_q ?_
    show qa _ 16 21 _ [.int _] _ _
    refine qa_if_eq (tg := 45) (nx := 24) at_16_21 rfl rfl (fun h16_21 => ?_) (fun h16_21 => ?_)
    · refine qa_ic (nx := 46) (v := nI 0) at_16_45 (by decide) rfl ?_
      refine qa_ret at_16_46 rfl ?_
      exact k0 (fun ⟨q', hq', e', hx, hy⟩ => by have hqq : q = q' := (nI_eq (by omega) (by omega)).mp e'; subst hqq; first | exact bi_z h16_21 hx | exact bi_z h16_38 hy)
    · refine qa_s (pc' := 25) at_16_24 rfl rfl rfl ?_
      refine qa_s (pc' := 28) at_16_25 rfl rfl rfl ?_
      refine qa_s (pc' := 29) at_16_28 rfl rfl rfl ?_
      refine qa_tald (nx := 30) at_16_29 rfl (by decide) rfl rfl (show q < 15 from hq) (by decide) ?_
      refine qa_s (pc' := 33) at_16_30 rfl rfl rfl ?_
      refine qa_s (pc' := 34) at_16_33 rfl rfl rfl ?_
      refine qa_tald (nx := 35) at_16_34 rfl (by decide) rfl rfl (show q < 15 from hq) (by decide) ?_
      refine qa_callS (nx := 38) at_16_35 rfl rfl (Nat.le_of_ble_eq_true rfl) rfl rfl (by decide) rfl ?_
      show qa _ 11 0 [(0, .int _), (1, .int _), (2, .int _)] [] _ _
      refine c11_q ?_
      show qa _ 16 38 _ [.int _] _ _
      refine qa_if_eq (tg := 45) (nx := 41) at_16_38 rfl rfl (fun h16_38 => ?_) (fun h16_38 => ?_)
      · refine qa_ic (nx := 46) (v := nI 0) at_16_45 (by decide) rfl ?_
        refine qa_ret at_16_46 rfl ?_
        exact k0 (fun ⟨q', hq', e', hx, hy⟩ => by have hqq : q = q' := (nI_eq (by omega) (by omega)).mp e'; subst hqq; first | exact bi_z h16_21 hx | exact bi_z h16_38 hy)
      · refine qa_ic (nx := 42) (v := nI 1) at_16_41 (by decide) rfl ?_
        refine qa_goto (nx := 46) at_16_42 rfl ?_
        refine qa_ret at_16_46 rfl ?_
        exact k1 q hq rfl ⟨bi_n h16_21, bi_n h16_38⟩
theorem c104_q0 {x y : Int32} (k0 : ¬ okL 0 x y → Q (some (.int (nI 0))) σ) (k1 : okL 0 x y → Q (some (.int (nI 1))) σ) : qa (mj_cst ys) 104 0 [(0, .int (nI 0)), (1, .int x), (2, .int y)] [] σ Q := by
  have hy0 : mj_Y_LEAST.getD 0 0 ≤ y ∧ y ≤ mj_Y_MOST.getD 0 0 := ⟨Int32.le_iff_toInt_le.mpr (Int32.le_toInt y), Int32.le_iff_toInt_le.mpr (by have h := Int32.toInt_lt y; have e : (mj_Y_MOST.getD 0 0).toInt = 2147483647 := (by decide); omega)⟩
  refine qa_s (pc' := 1) at_104_0 rfl rfl rfl ?_
  refine qa_bi (nx := 3) (v := nI 6) at_104_1 (by decide) rfl ?_
  refine qn_icmp_lt (tg := 16) (nx := 6) at_104_3 rfl rfl (by decide) (by decide) (fun h104_3 => ?_) (fun h => absurd h (by decide))
  refine qa_ic (nx := 17) (v := nI 0) at_104_16 (by decide) rfl ?_
  refine qa_s (pc' := 18) at_104_17 rfl rfl rfl ?_
  refine qa_s (pc' := 19) at_104_18 rfl rfl rfl ?_
  refine qn_if_eq (tg := 34) (nx := 22) at_104_19 rfl rfl (by decide) (fun h104_19 => ?_) (fun h => absurd h (by decide))
  refine qa_s (pc' := 35) at_104_34 rfl rfl rfl ?_
  refine qa_ic (nx := 36) (v := nI 0) at_104_35 (by decide) rfl ?_
  refine qa_ic (nx := 37) (v := nI 3) at_104_36 (by decide) rfl ?_
  refine qa_callS (nx := 40) at_104_37 rfl rfl (Nat.le_of_ble_eq_true rfl) rfl rfl (by decide) rfl ?_
  show qa _ 101 0 [(0, .int _), (1, .int _), (2, .int _)] [] _ _
  refine c101_q ?_
  show qa _ 104 40 _ [.int _] _ _
  refine qa_s (pc' := 42) at_104_40 rfl rfl rfl ?_
  refine qa_s (pc' := 43) at_104_42 rfl rfl rfl ?_
  refine qa_ic (nx := 44) (v := nI 5) at_104_43 (by decide) rfl ?_
  refine qn_icmp_eq (tg := 53) (nx := 47) at_104_44 rfl rfl (by decide) (by decide) (fun h => absurd h (by decide)) (fun h104_44 => ?_)
  refine qa_s (pc' := 48) at_104_47 rfl rfl rfl ?_
  refine qa_bi (nx := 50) (v := nI 6) at_104_48 (by decide) rfl ?_
  refine qn_icmp_ne (tg := 57) (nx := 53) at_104_50 rfl rfl (by decide) (by decide) (fun h104_50 => ?_) (fun h => absurd h (by decide))
  refine qa_ic (nx := 58) (v := nI 0) at_104_57 (by decide) rfl ?_
  refine qa_s (pc' := 60) at_104_58 rfl rfl rfl ?_
  refine qa_s (pc' := 61) at_104_60 rfl rfl rfl ?_
  refine qa_ic (nx := 62) (v := nI 3) at_104_61 (by decide) rfl ?_
  refine qn_icmp_eq (tg := 70) (nx := 65) at_104_62 rfl rfl (by decide) (by decide) (fun h => absurd h (by decide)) (fun h104_62 => ?_)
  refine qa_s (pc' := 66) at_104_65 rfl rfl rfl ?_
  refine qa_ic (nx := 67) (v := nI 4) at_104_66 (by decide) rfl ?_
  refine qn_icmp_ne (tg := 75) (nx := 70) at_104_67 rfl rfl (by decide) (by decide) (fun h104_67 => ?_) (fun h => absurd h (by decide))
  refine qa_s (pc' := 76) at_104_75 rfl rfl rfl ?_
  refine qa_ic (nx := 77) (v := nI 5) at_104_76 (by decide) rfl ?_
  refine qn_icmp_ne (tg := 85) (nx := 80) at_104_77 rfl rfl (by decide) (by decide) (fun h104_77 => ?_) (fun h => absurd h (by decide))
  refine qa_s (pc' := 86) at_104_85 rfl rfl rfl ?_
  refine qa_bi (nx := 88) (v := nI 6) at_104_86 (by decide) rfl ?_
  refine qn_icmp_ne (tg := 96) (nx := 91) at_104_88 rfl rfl (by decide) (by decide) (fun h104_88 => ?_) (fun h => absurd h (by decide))
  refine qa_s (pc' := 97) at_104_96 rfl rfl rfl ?_
  refine qa_bi (nx := 99) (v := nI 7) at_104_97 (by decide) rfl ?_
  refine qn_icmp_eq (tg := 114) (nx := 102) at_104_99 rfl rfl (by decide) (by decide) (fun h => absurd h (by decide)) (fun h104_99 => ?_)
  refine qa_s (pc' := 103) at_104_102 rfl rfl rfl ?_
  refine qa_bi (nx := 105) (v := nI 9) at_104_103 (by decide) rfl ?_
  refine qn_icmp_eq (tg := 114) (nx := 108) at_104_105 rfl rfl (by decide) (by decide) (fun h => absurd h (by decide)) (fun h104_105 => ?_)
  refine qa_s (pc' := 109) at_104_108 rfl rfl rfl ?_
  refine qa_bi (nx := 111) (v := nI 12) at_104_109 (by decide) rfl ?_
  refine qn_icmp_ne (tg := 118) (nx := 114) at_104_111 rfl rfl (by decide) (by decide) (fun h104_111 => ?_) (fun h => absurd h (by decide))
  refine qa_s (pc' := 119) at_104_118 rfl rfl rfl ?_
  refine qa_bi (nx := 121) (v := nI 10) at_104_119 (by decide) rfl ?_
  refine qn_icmp_ne (tg := 128) (nx := 124) at_104_121 rfl rfl (by decide) (by decide) (fun h104_121 => ?_) (fun h => absurd h (by decide))
  refine qa_s (pc' := 129) at_104_128 rfl rfl rfl ?_
  refine qa_bi (nx := 131) (v := nI 11) at_104_129 (by decide) rfl ?_
  refine qn_icmp_eq (tg := 140) (nx := 134) at_104_131 rfl rfl (by decide) (by decide) (fun h => absurd h (by decide)) (fun h104_131 => ?_)
  refine qa_s (pc' := 135) at_104_134 rfl rfl rfl ?_
  refine qa_bi (nx := 137) (v := nI 13) at_104_135 (by decide) rfl ?_
  refine qn_icmp_lt (tg := 144) (nx := 140) at_104_137 rfl rfl (by decide) (by decide) (fun h104_137 => ?_) (fun h => absurd h (by decide))
  refine qa_ic (nx := 145) (v := nI 3) at_104_144 (by decide) rfl ?_
  refine qa_s (pc' := 147) at_104_145 rfl rfl rfl ?_
  refine qa_s (pc' := 149) at_104_147 rfl rfl rfl ?_
  refine qa_if_eq (tg := 171) (nx := 152) at_104_149 rfl rfl (fun h104_149 => ?_) (fun h104_149 => ?_)
  · refine qa_ic (nx := 172) (v := nI 0) at_104_171 (by decide) rfl ?_
    refine qa_ret at_104_172 rfl ?_
    exact k0 (fun h => by first | exact (bi_z h104_164 h.2).elim | exact (bi_z h104_149 h.1).elim)
  · refine qa_s (pc' := 153) at_104_152 rfl rfl rfl ?_
    refine qn_if_eq (tg := 167) (nx := 156) at_104_153 rfl rfl (by decide) (fun h104_153 => ?_) (fun h => absurd h (by decide))
    refine qa_ic (nx := 168) (v := nI 1) at_104_167 (by decide) rfl ?_
    refine qa_goto (nx := 172) at_104_168 rfl ?_
    refine qa_ret at_104_172 rfl ?_
    exact k1 ⟨bi_n h104_149, hy0⟩
theorem c104_q1 {x y : Int32} (k0 : ¬ okL 1 x y → Q (some (.int (nI 0))) σ) (k1 : okL 1 x y → Q (some (.int (nI 1))) σ) : qa (mj_cst ys) 104 0 [(0, .int (nI 1)), (1, .int x), (2, .int y)] [] σ Q := by
  refine qa_s (pc' := 1) at_104_0 rfl rfl rfl ?_
  refine qa_bi (nx := 3) (v := nI 6) at_104_1 (by decide) rfl ?_
  refine qn_icmp_lt (tg := 16) (nx := 6) at_104_3 rfl rfl (by decide) (by decide) (fun h104_3 => ?_) (fun h => absurd h (by decide))
  refine qa_ic (nx := 17) (v := nI 0) at_104_16 (by decide) rfl ?_
  refine qa_s (pc' := 18) at_104_17 rfl rfl rfl ?_
  refine qa_s (pc' := 19) at_104_18 rfl rfl rfl ?_
  refine qn_if_eq (tg := 34) (nx := 22) at_104_19 rfl rfl (by decide) (fun h104_19 => ?_) (fun h => absurd h (by decide))
  refine qa_s (pc' := 35) at_104_34 rfl rfl rfl ?_
  refine qa_ic (nx := 36) (v := nI 0) at_104_35 (by decide) rfl ?_
  refine qa_ic (nx := 37) (v := nI 3) at_104_36 (by decide) rfl ?_
  refine qa_callS (nx := 40) at_104_37 rfl rfl (Nat.le_of_ble_eq_true rfl) rfl rfl (by decide) rfl ?_
  show qa _ 101 0 [(0, .int _), (1, .int _), (2, .int _)] [] _ _
  refine c101_q ?_
  show qa _ 104 40 _ [.int _] _ _
  refine qa_s (pc' := 42) at_104_40 rfl rfl rfl ?_
  refine qa_s (pc' := 43) at_104_42 rfl rfl rfl ?_
  refine qa_ic (nx := 44) (v := nI 5) at_104_43 (by decide) rfl ?_
  refine qn_icmp_eq (tg := 53) (nx := 47) at_104_44 rfl rfl (by decide) (by decide) (fun h => absurd h (by decide)) (fun h104_44 => ?_)
  refine qa_s (pc' := 48) at_104_47 rfl rfl rfl ?_
  refine qa_bi (nx := 50) (v := nI 6) at_104_48 (by decide) rfl ?_
  refine qn_icmp_ne (tg := 57) (nx := 53) at_104_50 rfl rfl (by decide) (by decide) (fun h104_50 => ?_) (fun h => absurd h (by decide))
  refine qa_ic (nx := 58) (v := nI 0) at_104_57 (by decide) rfl ?_
  refine qa_s (pc' := 60) at_104_58 rfl rfl rfl ?_
  refine qa_s (pc' := 61) at_104_60 rfl rfl rfl ?_
  refine qa_ic (nx := 62) (v := nI 3) at_104_61 (by decide) rfl ?_
  refine qn_icmp_eq (tg := 70) (nx := 65) at_104_62 rfl rfl (by decide) (by decide) (fun h => absurd h (by decide)) (fun h104_62 => ?_)
  refine qa_s (pc' := 66) at_104_65 rfl rfl rfl ?_
  refine qa_ic (nx := 67) (v := nI 4) at_104_66 (by decide) rfl ?_
  refine qn_icmp_ne (tg := 75) (nx := 70) at_104_67 rfl rfl (by decide) (by decide) (fun h104_67 => ?_) (fun h => absurd h (by decide))
  refine qa_s (pc' := 76) at_104_75 rfl rfl rfl ?_
  refine qa_ic (nx := 77) (v := nI 5) at_104_76 (by decide) rfl ?_
  refine qn_icmp_ne (tg := 85) (nx := 80) at_104_77 rfl rfl (by decide) (by decide) (fun h104_77 => ?_) (fun h => absurd h (by decide))
  refine qa_s (pc' := 86) at_104_85 rfl rfl rfl ?_
  refine qa_bi (nx := 88) (v := nI 6) at_104_86 (by decide) rfl ?_
  refine qn_icmp_ne (tg := 96) (nx := 91) at_104_88 rfl rfl (by decide) (by decide) (fun h104_88 => ?_) (fun h => absurd h (by decide))
  refine qa_s (pc' := 97) at_104_96 rfl rfl rfl ?_
  refine qa_bi (nx := 99) (v := nI 7) at_104_97 (by decide) rfl ?_
  refine qn_icmp_eq (tg := 114) (nx := 102) at_104_99 rfl rfl (by decide) (by decide) (fun h => absurd h (by decide)) (fun h104_99 => ?_)
  refine qa_s (pc' := 103) at_104_102 rfl rfl rfl ?_
  refine qa_bi (nx := 105) (v := nI 9) at_104_103 (by decide) rfl ?_
  refine qn_icmp_eq (tg := 114) (nx := 108) at_104_105 rfl rfl (by decide) (by decide) (fun h => absurd h (by decide)) (fun h104_105 => ?_)
  refine qa_s (pc' := 109) at_104_108 rfl rfl rfl ?_
  refine qa_bi (nx := 111) (v := nI 12) at_104_109 (by decide) rfl ?_
  refine qn_icmp_ne (tg := 118) (nx := 114) at_104_111 rfl rfl (by decide) (by decide) (fun h104_111 => ?_) (fun h => absurd h (by decide))
  refine qa_s (pc' := 119) at_104_118 rfl rfl rfl ?_
  refine qa_bi (nx := 121) (v := nI 10) at_104_119 (by decide) rfl ?_
  refine qn_icmp_ne (tg := 128) (nx := 124) at_104_121 rfl rfl (by decide) (by decide) (fun h104_121 => ?_) (fun h => absurd h (by decide))
  refine qa_s (pc' := 129) at_104_128 rfl rfl rfl ?_
  refine qa_bi (nx := 131) (v := nI 11) at_104_129 (by decide) rfl ?_
  refine qn_icmp_eq (tg := 140) (nx := 134) at_104_131 rfl rfl (by decide) (by decide) (fun h => absurd h (by decide)) (fun h104_131 => ?_)
  refine qa_s (pc' := 135) at_104_134 rfl rfl rfl ?_
  refine qa_bi (nx := 137) (v := nI 13) at_104_135 (by decide) rfl ?_
  refine qn_icmp_lt (tg := 144) (nx := 140) at_104_137 rfl rfl (by decide) (by decide) (fun h104_137 => ?_) (fun h => absurd h (by decide))
  refine qa_ic (nx := 145) (v := nI 3) at_104_144 (by decide) rfl ?_
  refine qa_s (pc' := 147) at_104_145 rfl rfl rfl ?_
  refine qa_s (pc' := 149) at_104_147 rfl rfl rfl ?_
  refine qa_if_eq (tg := 171) (nx := 152) at_104_149 rfl rfl (fun h104_149 => ?_) (fun h104_149 => ?_)
  · refine qa_ic (nx := 172) (v := nI 0) at_104_171 (by decide) rfl ?_
    refine qa_ret at_104_172 rfl ?_
    exact k0 (fun h => by first | exact (bi_z h104_164 h.2).elim | exact (bi_z h104_149 h.1).elim)
  · refine qa_s (pc' := 153) at_104_152 rfl rfl rfl ?_
    refine qn_if_eq (tg := 167) (nx := 156) at_104_153 rfl rfl (by decide) (fun h => absurd h (by decide)) (fun h104_153 => ?_)
    refine qa_s (pc' := 157) at_104_156 rfl rfl rfl ?_
    refine qa_s (pc' := 159) at_104_157 rfl rfl rfl ?_
    refine qa_s (pc' := 161) at_104_159 rfl rfl rfl ?_
    refine qa_callS (nx := 164) at_104_161 rfl rfl (Nat.le_of_ble_eq_true rfl) rfl rfl (by decide) rfl ?_
    show qa _ 101 0 [(0, .int _), (1, .int _), (2, .int _)] [] _ _
    refine c101_q ?_
    show qa _ 104 164 _ [.int _] _ _
    refine qa_if_eq (tg := 171) (nx := 167) at_104_164 rfl rfl (fun h104_164 => ?_) (fun h104_164 => ?_)
    · refine qa_ic (nx := 172) (v := nI 0) at_104_171 (by decide) rfl ?_
      refine qa_ret at_104_172 rfl ?_
      exact k0 (fun h => by first | exact (bi_z h104_164 h.2).elim | exact (bi_z h104_149 h.1).elim)
    · refine qa_ic (nx := 168) (v := nI 1) at_104_167 (by decide) rfl ?_
      refine qa_goto (nx := 172) at_104_168 rfl ?_
      refine qa_ret at_104_172 rfl ?_
      exact k1 ⟨bi_n h104_149, bi_n h104_164⟩
theorem c104_q2 {x y : Int32} (k0 : ¬ okL 2 x y → Q (some (.int (nI 0))) σ) (k1 : okL 2 x y → Q (some (.int (nI 1))) σ) : qa (mj_cst ys) 104 0 [(0, .int (nI 2)), (1, .int x), (2, .int y)] [] σ Q := by
  refine qa_s (pc' := 1) at_104_0 rfl rfl rfl ?_
  refine qa_bi (nx := 3) (v := nI 6) at_104_1 (by decide) rfl ?_
  refine qn_icmp_lt (tg := 16) (nx := 6) at_104_3 rfl rfl (by decide) (by decide) (fun h104_3 => ?_) (fun h => absurd h (by decide))
  refine qa_ic (nx := 17) (v := nI 0) at_104_16 (by decide) rfl ?_
  refine qa_s (pc' := 18) at_104_17 rfl rfl rfl ?_
  refine qa_s (pc' := 19) at_104_18 rfl rfl rfl ?_
  refine qn_if_eq (tg := 34) (nx := 22) at_104_19 rfl rfl (by decide) (fun h104_19 => ?_) (fun h => absurd h (by decide))
  refine qa_s (pc' := 35) at_104_34 rfl rfl rfl ?_
  refine qa_ic (nx := 36) (v := nI 0) at_104_35 (by decide) rfl ?_
  refine qa_ic (nx := 37) (v := nI 3) at_104_36 (by decide) rfl ?_
  refine qa_callS (nx := 40) at_104_37 rfl rfl (Nat.le_of_ble_eq_true rfl) rfl rfl (by decide) rfl ?_
  show qa _ 101 0 [(0, .int _), (1, .int _), (2, .int _)] [] _ _
  refine c101_q ?_
  show qa _ 104 40 _ [.int _] _ _
  refine qa_s (pc' := 42) at_104_40 rfl rfl rfl ?_
  refine qa_s (pc' := 43) at_104_42 rfl rfl rfl ?_
  refine qa_ic (nx := 44) (v := nI 5) at_104_43 (by decide) rfl ?_
  refine qn_icmp_eq (tg := 53) (nx := 47) at_104_44 rfl rfl (by decide) (by decide) (fun h => absurd h (by decide)) (fun h104_44 => ?_)
  refine qa_s (pc' := 48) at_104_47 rfl rfl rfl ?_
  refine qa_bi (nx := 50) (v := nI 6) at_104_48 (by decide) rfl ?_
  refine qn_icmp_ne (tg := 57) (nx := 53) at_104_50 rfl rfl (by decide) (by decide) (fun h104_50 => ?_) (fun h => absurd h (by decide))
  refine qa_ic (nx := 58) (v := nI 0) at_104_57 (by decide) rfl ?_
  refine qa_s (pc' := 60) at_104_58 rfl rfl rfl ?_
  refine qa_s (pc' := 61) at_104_60 rfl rfl rfl ?_
  refine qa_ic (nx := 62) (v := nI 3) at_104_61 (by decide) rfl ?_
  refine qn_icmp_eq (tg := 70) (nx := 65) at_104_62 rfl rfl (by decide) (by decide) (fun h => absurd h (by decide)) (fun h104_62 => ?_)
  refine qa_s (pc' := 66) at_104_65 rfl rfl rfl ?_
  refine qa_ic (nx := 67) (v := nI 4) at_104_66 (by decide) rfl ?_
  refine qn_icmp_ne (tg := 75) (nx := 70) at_104_67 rfl rfl (by decide) (by decide) (fun h104_67 => ?_) (fun h => absurd h (by decide))
  refine qa_s (pc' := 76) at_104_75 rfl rfl rfl ?_
  refine qa_ic (nx := 77) (v := nI 5) at_104_76 (by decide) rfl ?_
  refine qn_icmp_ne (tg := 85) (nx := 80) at_104_77 rfl rfl (by decide) (by decide) (fun h104_77 => ?_) (fun h => absurd h (by decide))
  refine qa_s (pc' := 86) at_104_85 rfl rfl rfl ?_
  refine qa_bi (nx := 88) (v := nI 6) at_104_86 (by decide) rfl ?_
  refine qn_icmp_ne (tg := 96) (nx := 91) at_104_88 rfl rfl (by decide) (by decide) (fun h104_88 => ?_) (fun h => absurd h (by decide))
  refine qa_s (pc' := 97) at_104_96 rfl rfl rfl ?_
  refine qa_bi (nx := 99) (v := nI 7) at_104_97 (by decide) rfl ?_
  refine qn_icmp_eq (tg := 114) (nx := 102) at_104_99 rfl rfl (by decide) (by decide) (fun h => absurd h (by decide)) (fun h104_99 => ?_)
  refine qa_s (pc' := 103) at_104_102 rfl rfl rfl ?_
  refine qa_bi (nx := 105) (v := nI 9) at_104_103 (by decide) rfl ?_
  refine qn_icmp_eq (tg := 114) (nx := 108) at_104_105 rfl rfl (by decide) (by decide) (fun h => absurd h (by decide)) (fun h104_105 => ?_)
  refine qa_s (pc' := 109) at_104_108 rfl rfl rfl ?_
  refine qa_bi (nx := 111) (v := nI 12) at_104_109 (by decide) rfl ?_
  refine qn_icmp_ne (tg := 118) (nx := 114) at_104_111 rfl rfl (by decide) (by decide) (fun h104_111 => ?_) (fun h => absurd h (by decide))
  refine qa_s (pc' := 119) at_104_118 rfl rfl rfl ?_
  refine qa_bi (nx := 121) (v := nI 10) at_104_119 (by decide) rfl ?_
  refine qn_icmp_ne (tg := 128) (nx := 124) at_104_121 rfl rfl (by decide) (by decide) (fun h104_121 => ?_) (fun h => absurd h (by decide))
  refine qa_s (pc' := 129) at_104_128 rfl rfl rfl ?_
  refine qa_bi (nx := 131) (v := nI 11) at_104_129 (by decide) rfl ?_
  refine qn_icmp_eq (tg := 140) (nx := 134) at_104_131 rfl rfl (by decide) (by decide) (fun h => absurd h (by decide)) (fun h104_131 => ?_)
  refine qa_s (pc' := 135) at_104_134 rfl rfl rfl ?_
  refine qa_bi (nx := 137) (v := nI 13) at_104_135 (by decide) rfl ?_
  refine qn_icmp_lt (tg := 144) (nx := 140) at_104_137 rfl rfl (by decide) (by decide) (fun h104_137 => ?_) (fun h => absurd h (by decide))
  refine qa_ic (nx := 145) (v := nI 3) at_104_144 (by decide) rfl ?_
  refine qa_s (pc' := 147) at_104_145 rfl rfl rfl ?_
  refine qa_s (pc' := 149) at_104_147 rfl rfl rfl ?_
  refine qa_if_eq (tg := 171) (nx := 152) at_104_149 rfl rfl (fun h104_149 => ?_) (fun h104_149 => ?_)
  · refine qa_ic (nx := 172) (v := nI 0) at_104_171 (by decide) rfl ?_
    refine qa_ret at_104_172 rfl ?_
    exact k0 (fun h => by first | exact (bi_z h104_164 h.2).elim | exact (bi_z h104_149 h.1).elim)
  · refine qa_s (pc' := 153) at_104_152 rfl rfl rfl ?_
    refine qn_if_eq (tg := 167) (nx := 156) at_104_153 rfl rfl (by decide) (fun h => absurd h (by decide)) (fun h104_153 => ?_)
    refine qa_s (pc' := 157) at_104_156 rfl rfl rfl ?_
    refine qa_s (pc' := 159) at_104_157 rfl rfl rfl ?_
    refine qa_s (pc' := 161) at_104_159 rfl rfl rfl ?_
    refine qa_callS (nx := 164) at_104_161 rfl rfl (Nat.le_of_ble_eq_true rfl) rfl rfl (by decide) rfl ?_
    show qa _ 101 0 [(0, .int _), (1, .int _), (2, .int _)] [] _ _
    refine c101_q ?_
    show qa _ 104 164 _ [.int _] _ _
    refine qa_if_eq (tg := 171) (nx := 167) at_104_164 rfl rfl (fun h104_164 => ?_) (fun h104_164 => ?_)
    · refine qa_ic (nx := 172) (v := nI 0) at_104_171 (by decide) rfl ?_
      refine qa_ret at_104_172 rfl ?_
      exact k0 (fun h => by first | exact (bi_z h104_164 h.2).elim | exact (bi_z h104_149 h.1).elim)
    · refine qa_ic (nx := 168) (v := nI 1) at_104_167 (by decide) rfl ?_
      refine qa_goto (nx := 172) at_104_168 rfl ?_
      refine qa_ret at_104_172 rfl ?_
      exact k1 ⟨bi_n h104_149, bi_n h104_164⟩
theorem c104_q3 {x y : Int32} (k0 : ¬ okL 3 x y → Q (some (.int (nI 0))) σ) (k1 : okL 3 x y → Q (some (.int (nI 1))) σ) : qa (mj_cst ys) 104 0 [(0, .int (nI 3)), (1, .int x), (2, .int y)] [] σ Q := by
  refine qa_s (pc' := 1) at_104_0 rfl rfl rfl ?_
  refine qa_bi (nx := 3) (v := nI 6) at_104_1 (by decide) rfl ?_
  refine qn_icmp_lt (tg := 16) (nx := 6) at_104_3 rfl rfl (by decide) (by decide) (fun h104_3 => ?_) (fun h => absurd h (by decide))
  refine qa_ic (nx := 17) (v := nI 0) at_104_16 (by decide) rfl ?_
  refine qa_s (pc' := 18) at_104_17 rfl rfl rfl ?_
  refine qa_s (pc' := 19) at_104_18 rfl rfl rfl ?_
  refine qn_if_eq (tg := 34) (nx := 22) at_104_19 rfl rfl (by decide) (fun h104_19 => ?_) (fun h => absurd h (by decide))
  refine qa_s (pc' := 35) at_104_34 rfl rfl rfl ?_
  refine qa_ic (nx := 36) (v := nI 0) at_104_35 (by decide) rfl ?_
  refine qa_ic (nx := 37) (v := nI 3) at_104_36 (by decide) rfl ?_
  refine qa_callS (nx := 40) at_104_37 rfl rfl (Nat.le_of_ble_eq_true rfl) rfl rfl (by decide) rfl ?_
  show qa _ 101 0 [(0, .int _), (1, .int _), (2, .int _)] [] _ _
  refine c101_q ?_
  show qa _ 104 40 _ [.int _] _ _
  refine qa_s (pc' := 42) at_104_40 rfl rfl rfl ?_
  refine qa_s (pc' := 43) at_104_42 rfl rfl rfl ?_
  refine qa_ic (nx := 44) (v := nI 5) at_104_43 (by decide) rfl ?_
  refine qn_icmp_eq (tg := 53) (nx := 47) at_104_44 rfl rfl (by decide) (by decide) (fun h => absurd h (by decide)) (fun h104_44 => ?_)
  refine qa_s (pc' := 48) at_104_47 rfl rfl rfl ?_
  refine qa_bi (nx := 50) (v := nI 6) at_104_48 (by decide) rfl ?_
  refine qn_icmp_ne (tg := 57) (nx := 53) at_104_50 rfl rfl (by decide) (by decide) (fun h104_50 => ?_) (fun h => absurd h (by decide))
  refine qa_ic (nx := 58) (v := nI 0) at_104_57 (by decide) rfl ?_
  refine qa_s (pc' := 60) at_104_58 rfl rfl rfl ?_
  refine qa_s (pc' := 61) at_104_60 rfl rfl rfl ?_
  refine qa_ic (nx := 62) (v := nI 3) at_104_61 (by decide) rfl ?_
  refine qn_icmp_eq (tg := 70) (nx := 65) at_104_62 rfl rfl (by decide) (by decide) (fun h104_62 => ?_) (fun h => absurd h (by decide))
  refine qa_bi (nx := 72) (v := nI 7) at_104_70 (by decide) rfl ?_
  refine qa_goto (nx := 145) at_104_72 rfl ?_
  refine qa_s (pc' := 147) at_104_145 rfl rfl rfl ?_
  refine qa_s (pc' := 149) at_104_147 rfl rfl rfl ?_
  refine qa_if_eq (tg := 171) (nx := 152) at_104_149 rfl rfl (fun h104_149 => ?_) (fun h104_149 => ?_)
  · refine qa_ic (nx := 172) (v := nI 0) at_104_171 (by decide) rfl ?_
    refine qa_ret at_104_172 rfl ?_
    exact k0 (fun h => by first | exact (bi_z h104_164 h.2).elim | exact (bi_z h104_149 h.1).elim)
  · refine qa_s (pc' := 153) at_104_152 rfl rfl rfl ?_
    refine qn_if_eq (tg := 167) (nx := 156) at_104_153 rfl rfl (by decide) (fun h => absurd h (by decide)) (fun h104_153 => ?_)
    refine qa_s (pc' := 157) at_104_156 rfl rfl rfl ?_
    refine qa_s (pc' := 159) at_104_157 rfl rfl rfl ?_
    refine qa_s (pc' := 161) at_104_159 rfl rfl rfl ?_
    refine qa_callS (nx := 164) at_104_161 rfl rfl (Nat.le_of_ble_eq_true rfl) rfl rfl (by decide) rfl ?_
    show qa _ 101 0 [(0, .int _), (1, .int _), (2, .int _)] [] _ _
    refine c101_q ?_
    show qa _ 104 164 _ [.int _] _ _
    refine qa_if_eq (tg := 171) (nx := 167) at_104_164 rfl rfl (fun h104_164 => ?_) (fun h104_164 => ?_)
    · refine qa_ic (nx := 172) (v := nI 0) at_104_171 (by decide) rfl ?_
      refine qa_ret at_104_172 rfl ?_
      exact k0 (fun h => by first | exact (bi_z h104_164 h.2).elim | exact (bi_z h104_149 h.1).elim)
    · refine qa_ic (nx := 168) (v := nI 1) at_104_167 (by decide) rfl ?_
      refine qa_goto (nx := 172) at_104_168 rfl ?_
      refine qa_ret at_104_172 rfl ?_
      exact k1 ⟨bi_n h104_149, bi_n h104_164⟩
theorem c104_q4 {x y : Int32} (k0 : ¬ okL 4 x y → Q (some (.int (nI 0))) σ) (k1 : okL 4 x y → Q (some (.int (nI 1))) σ) : qa (mj_cst ys) 104 0 [(0, .int (nI 4)), (1, .int x), (2, .int y)] [] σ Q := by
  refine qa_s (pc' := 1) at_104_0 rfl rfl rfl ?_
  refine qa_bi (nx := 3) (v := nI 6) at_104_1 (by decide) rfl ?_
  refine qn_icmp_lt (tg := 16) (nx := 6) at_104_3 rfl rfl (by decide) (by decide) (fun h104_3 => ?_) (fun h => absurd h (by decide))
  refine qa_ic (nx := 17) (v := nI 0) at_104_16 (by decide) rfl ?_
  refine qa_s (pc' := 18) at_104_17 rfl rfl rfl ?_
  refine qa_s (pc' := 19) at_104_18 rfl rfl rfl ?_
  refine qn_if_eq (tg := 34) (nx := 22) at_104_19 rfl rfl (by decide) (fun h104_19 => ?_) (fun h => absurd h (by decide))
  refine qa_s (pc' := 35) at_104_34 rfl rfl rfl ?_
  refine qa_ic (nx := 36) (v := nI 0) at_104_35 (by decide) rfl ?_
  refine qa_ic (nx := 37) (v := nI 3) at_104_36 (by decide) rfl ?_
  refine qa_callS (nx := 40) at_104_37 rfl rfl (Nat.le_of_ble_eq_true rfl) rfl rfl (by decide) rfl ?_
  show qa _ 101 0 [(0, .int _), (1, .int _), (2, .int _)] [] _ _
  refine c101_q ?_
  show qa _ 104 40 _ [.int _] _ _
  refine qa_s (pc' := 42) at_104_40 rfl rfl rfl ?_
  refine qa_s (pc' := 43) at_104_42 rfl rfl rfl ?_
  refine qa_ic (nx := 44) (v := nI 5) at_104_43 (by decide) rfl ?_
  refine qn_icmp_eq (tg := 53) (nx := 47) at_104_44 rfl rfl (by decide) (by decide) (fun h => absurd h (by decide)) (fun h104_44 => ?_)
  refine qa_s (pc' := 48) at_104_47 rfl rfl rfl ?_
  refine qa_bi (nx := 50) (v := nI 6) at_104_48 (by decide) rfl ?_
  refine qn_icmp_ne (tg := 57) (nx := 53) at_104_50 rfl rfl (by decide) (by decide) (fun h104_50 => ?_) (fun h => absurd h (by decide))
  refine qa_ic (nx := 58) (v := nI 0) at_104_57 (by decide) rfl ?_
  refine qa_s (pc' := 60) at_104_58 rfl rfl rfl ?_
  refine qa_s (pc' := 61) at_104_60 rfl rfl rfl ?_
  refine qa_ic (nx := 62) (v := nI 3) at_104_61 (by decide) rfl ?_
  refine qn_icmp_eq (tg := 70) (nx := 65) at_104_62 rfl rfl (by decide) (by decide) (fun h => absurd h (by decide)) (fun h104_62 => ?_)
  refine qa_s (pc' := 66) at_104_65 rfl rfl rfl ?_
  refine qa_ic (nx := 67) (v := nI 4) at_104_66 (by decide) rfl ?_
  refine qn_icmp_ne (tg := 75) (nx := 70) at_104_67 rfl rfl (by decide) (by decide) (fun h => absurd h (by decide)) (fun h104_67 => ?_)
  refine qa_bi (nx := 72) (v := nI 7) at_104_70 (by decide) rfl ?_
  refine qa_goto (nx := 145) at_104_72 rfl ?_
  refine qa_s (pc' := 147) at_104_145 rfl rfl rfl ?_
  refine qa_s (pc' := 149) at_104_147 rfl rfl rfl ?_
  refine qa_if_eq (tg := 171) (nx := 152) at_104_149 rfl rfl (fun h104_149 => ?_) (fun h104_149 => ?_)
  · refine qa_ic (nx := 172) (v := nI 0) at_104_171 (by decide) rfl ?_
    refine qa_ret at_104_172 rfl ?_
    exact k0 (fun h => by first | exact (bi_z h104_164 h.2).elim | exact (bi_z h104_149 h.1).elim)
  · refine qa_s (pc' := 153) at_104_152 rfl rfl rfl ?_
    refine qn_if_eq (tg := 167) (nx := 156) at_104_153 rfl rfl (by decide) (fun h => absurd h (by decide)) (fun h104_153 => ?_)
    refine qa_s (pc' := 157) at_104_156 rfl rfl rfl ?_
    refine qa_s (pc' := 159) at_104_157 rfl rfl rfl ?_
    refine qa_s (pc' := 161) at_104_159 rfl rfl rfl ?_
    refine qa_callS (nx := 164) at_104_161 rfl rfl (Nat.le_of_ble_eq_true rfl) rfl rfl (by decide) rfl ?_
    show qa _ 101 0 [(0, .int _), (1, .int _), (2, .int _)] [] _ _
    refine c101_q ?_
    show qa _ 104 164 _ [.int _] _ _
    refine qa_if_eq (tg := 171) (nx := 167) at_104_164 rfl rfl (fun h104_164 => ?_) (fun h104_164 => ?_)
    · refine qa_ic (nx := 172) (v := nI 0) at_104_171 (by decide) rfl ?_
      refine qa_ret at_104_172 rfl ?_
      exact k0 (fun h => by first | exact (bi_z h104_164 h.2).elim | exact (bi_z h104_149 h.1).elim)
    · refine qa_ic (nx := 168) (v := nI 1) at_104_167 (by decide) rfl ?_
      refine qa_goto (nx := 172) at_104_168 rfl ?_
      refine qa_ret at_104_172 rfl ?_
      exact k1 ⟨bi_n h104_149, bi_n h104_164⟩
theorem c104_q5 {x y : Int32} (k0 : ¬ okL 5 x y → Q (some (.int (nI 0))) σ) (k1 : okL 5 x y → Q (some (.int (nI 1))) σ) : qa (mj_cst ys) 104 0 [(0, .int (nI 5)), (1, .int x), (2, .int y)] [] σ Q := by
  refine qa_s (pc' := 1) at_104_0 rfl rfl rfl ?_
  refine qa_bi (nx := 3) (v := nI 6) at_104_1 (by decide) rfl ?_
  refine qn_icmp_lt (tg := 16) (nx := 6) at_104_3 rfl rfl (by decide) (by decide) (fun h104_3 => ?_) (fun h => absurd h (by decide))
  refine qa_ic (nx := 17) (v := nI 0) at_104_16 (by decide) rfl ?_
  refine qa_s (pc' := 18) at_104_17 rfl rfl rfl ?_
  refine qa_s (pc' := 19) at_104_18 rfl rfl rfl ?_
  refine qn_if_eq (tg := 34) (nx := 22) at_104_19 rfl rfl (by decide) (fun h104_19 => ?_) (fun h => absurd h (by decide))
  refine qa_s (pc' := 35) at_104_34 rfl rfl rfl ?_
  refine qa_ic (nx := 36) (v := nI 0) at_104_35 (by decide) rfl ?_
  refine qa_ic (nx := 37) (v := nI 3) at_104_36 (by decide) rfl ?_
  refine qa_callS (nx := 40) at_104_37 rfl rfl (Nat.le_of_ble_eq_true rfl) rfl rfl (by decide) rfl ?_
  show qa _ 101 0 [(0, .int _), (1, .int _), (2, .int _)] [] _ _
  refine c101_q ?_
  show qa _ 104 40 _ [.int _] _ _
  refine qa_s (pc' := 42) at_104_40 rfl rfl rfl ?_
  refine qa_s (pc' := 43) at_104_42 rfl rfl rfl ?_
  refine qa_ic (nx := 44) (v := nI 5) at_104_43 (by decide) rfl ?_
  refine qn_icmp_eq (tg := 53) (nx := 47) at_104_44 rfl rfl (by decide) (by decide) (fun h104_44 => ?_) (fun h => absurd h (by decide))
  refine qa_ic (nx := 54) (v := nI 1) at_104_53 (by decide) rfl ?_
  refine qa_goto (nx := 58) at_104_54 rfl ?_
  refine qa_s (pc' := 60) at_104_58 rfl rfl rfl ?_
  refine qa_s (pc' := 61) at_104_60 rfl rfl rfl ?_
  refine qa_ic (nx := 62) (v := nI 3) at_104_61 (by decide) rfl ?_
  refine qn_icmp_eq (tg := 70) (nx := 65) at_104_62 rfl rfl (by decide) (by decide) (fun h => absurd h (by decide)) (fun h104_62 => ?_)
  refine qa_s (pc' := 66) at_104_65 rfl rfl rfl ?_
  refine qa_ic (nx := 67) (v := nI 4) at_104_66 (by decide) rfl ?_
  refine qn_icmp_ne (tg := 75) (nx := 70) at_104_67 rfl rfl (by decide) (by decide) (fun h104_67 => ?_) (fun h => absurd h (by decide))
  refine qa_s (pc' := 76) at_104_75 rfl rfl rfl ?_
  refine qa_ic (nx := 77) (v := nI 5) at_104_76 (by decide) rfl ?_
  refine qn_icmp_ne (tg := 85) (nx := 80) at_104_77 rfl rfl (by decide) (by decide) (fun h => absurd h (by decide)) (fun h104_77 => ?_)
  refine qa_bi (nx := 82) (v := nI 11) at_104_80 (by decide) rfl ?_
  refine qa_goto (nx := 145) at_104_82 rfl ?_
  refine qa_s (pc' := 147) at_104_145 rfl rfl rfl ?_
  refine qa_s (pc' := 149) at_104_147 rfl rfl rfl ?_
  refine qa_if_eq (tg := 171) (nx := 152) at_104_149 rfl rfl (fun h104_149 => ?_) (fun h104_149 => ?_)
  · refine qa_ic (nx := 172) (v := nI 0) at_104_171 (by decide) rfl ?_
    refine qa_ret at_104_172 rfl ?_
    exact k0 (fun h => by first | exact (bi_z h104_164 h.2).elim | exact (bi_z h104_149 h.1).elim)
  · refine qa_s (pc' := 153) at_104_152 rfl rfl rfl ?_
    refine qn_if_eq (tg := 167) (nx := 156) at_104_153 rfl rfl (by decide) (fun h => absurd h (by decide)) (fun h104_153 => ?_)
    refine qa_s (pc' := 157) at_104_156 rfl rfl rfl ?_
    refine qa_s (pc' := 159) at_104_157 rfl rfl rfl ?_
    refine qa_s (pc' := 161) at_104_159 rfl rfl rfl ?_
    refine qa_callS (nx := 164) at_104_161 rfl rfl (Nat.le_of_ble_eq_true rfl) rfl rfl (by decide) rfl ?_
    show qa _ 101 0 [(0, .int _), (1, .int _), (2, .int _)] [] _ _
    refine c101_q ?_
    show qa _ 104 164 _ [.int _] _ _
    refine qa_if_eq (tg := 171) (nx := 167) at_104_164 rfl rfl (fun h104_164 => ?_) (fun h104_164 => ?_)
    · refine qa_ic (nx := 172) (v := nI 0) at_104_171 (by decide) rfl ?_
      refine qa_ret at_104_172 rfl ?_
      exact k0 (fun h => by first | exact (bi_z h104_164 h.2).elim | exact (bi_z h104_149 h.1).elim)
    · refine qa_ic (nx := 168) (v := nI 1) at_104_167 (by decide) rfl ?_
      refine qa_goto (nx := 172) at_104_168 rfl ?_
      refine qa_ret at_104_172 rfl ?_
      exact k1 ⟨bi_n h104_149, bi_n h104_164⟩
theorem c104_q6 {x y : Int32} (k0 : ¬ okL 6 x y → Q (some (.int (nI 0))) σ) (k1 : okL 6 x y → Q (some (.int (nI 1))) σ) : qa (mj_cst ys) 104 0 [(0, .int (nI 6)), (1, .int x), (2, .int y)] [] σ Q := by
  refine qa_s (pc' := 1) at_104_0 rfl rfl rfl ?_
  refine qa_bi (nx := 3) (v := nI 6) at_104_1 (by decide) rfl ?_
  refine qn_icmp_lt (tg := 16) (nx := 6) at_104_3 rfl rfl (by decide) (by decide) (fun h => absurd h (by decide)) (fun h104_3 => ?_)
  refine qa_s (pc' := 7) at_104_6 rfl rfl rfl ?_
  refine qa_bi (nx := 9) (v := nI 10) at_104_7 (by decide) rfl ?_
  refine qn_icmp_gt (tg := 16) (nx := 12) at_104_9 rfl rfl (by decide) (by decide) (fun h => absurd h (by decide)) (fun h104_9 => ?_)
  refine qa_ic (nx := 13) (v := nI 1) at_104_12 (by decide) rfl ?_
  refine qa_goto (nx := 17) at_104_13 rfl ?_
  refine qa_s (pc' := 18) at_104_17 rfl rfl rfl ?_
  refine qa_s (pc' := 19) at_104_18 rfl rfl rfl ?_
  refine qn_if_eq (tg := 34) (nx := 22) at_104_19 rfl rfl (by decide) (fun h => absurd h (by decide)) (fun h104_19 => ?_)
  refine qa_s (pc' := 23) at_104_22 rfl rfl rfl ?_
  refine qa_if_ne (tg := 30) (nx := 26) at_104_23 rfl rfl (fun h104_23 => ?_) (fun h104_23 => ?_)
  · have h104_23 : ¬ x = 0 := h104_23
    refine qa_ic (nx := 31) (v := nI 0) at_104_30 (by decide) rfl ?_
    refine qa_goto (nx := 40) at_104_31 rfl ?_
    refine qa_s (pc' := 42) at_104_40 rfl rfl rfl ?_
    refine qa_s (pc' := 43) at_104_42 rfl rfl rfl ?_
    refine qa_ic (nx := 44) (v := nI 5) at_104_43 (by decide) rfl ?_
    refine qn_icmp_eq (tg := 53) (nx := 47) at_104_44 rfl rfl (by decide) (by decide) (fun h => absurd h (by decide)) (fun h104_44 => ?_)
    refine qa_s (pc' := 48) at_104_47 rfl rfl rfl ?_
    refine qa_bi (nx := 50) (v := nI 6) at_104_48 (by decide) rfl ?_
    refine qn_icmp_ne (tg := 57) (nx := 53) at_104_50 rfl rfl (by decide) (by decide) (fun h => absurd h (by decide)) (fun h104_50 => ?_)
    refine qa_ic (nx := 54) (v := nI 1) at_104_53 (by decide) rfl ?_
    refine qa_goto (nx := 58) at_104_54 rfl ?_
    refine qa_s (pc' := 60) at_104_58 rfl rfl rfl ?_
    refine qa_s (pc' := 61) at_104_60 rfl rfl rfl ?_
    refine qa_ic (nx := 62) (v := nI 3) at_104_61 (by decide) rfl ?_
    refine qn_icmp_eq (tg := 70) (nx := 65) at_104_62 rfl rfl (by decide) (by decide) (fun h => absurd h (by decide)) (fun h104_62 => ?_)
    refine qa_s (pc' := 66) at_104_65 rfl rfl rfl ?_
    refine qa_ic (nx := 67) (v := nI 4) at_104_66 (by decide) rfl ?_
    refine qn_icmp_ne (tg := 75) (nx := 70) at_104_67 rfl rfl (by decide) (by decide) (fun h104_67 => ?_) (fun h => absurd h (by decide))
    refine qa_s (pc' := 76) at_104_75 rfl rfl rfl ?_
    refine qa_ic (nx := 77) (v := nI 5) at_104_76 (by decide) rfl ?_
    refine qn_icmp_ne (tg := 85) (nx := 80) at_104_77 rfl rfl (by decide) (by decide) (fun h104_77 => ?_) (fun h => absurd h (by decide))
    refine qa_s (pc' := 86) at_104_85 rfl rfl rfl ?_
    refine qa_bi (nx := 88) (v := nI 6) at_104_86 (by decide) rfl ?_
    refine qn_icmp_ne (tg := 96) (nx := 91) at_104_88 rfl rfl (by decide) (by decide) (fun h => absurd h (by decide)) (fun h104_88 => ?_)
    refine qa_bi (nx := 93) (v := nI 8) at_104_91 (by decide) rfl ?_
    refine qa_goto (nx := 145) at_104_93 rfl ?_
    refine qa_s (pc' := 147) at_104_145 rfl rfl rfl ?_
    refine qa_s (pc' := 149) at_104_147 rfl rfl rfl ?_
    refine qn_if_eq (tg := 171) (nx := 152) at_104_149 rfl rfl (by decide) (fun h104_149 => ?_) (fun h => absurd h (by decide))
    refine qa_ic (nx := 172) (v := nI 0) at_104_171 (by decide) rfl ?_
    refine qa_ret at_104_172 rfl ?_
    exact k0 (fun h => by first | exact (bi_z h104_164 h.2).elim | exact (h104_23 (by obtain ⟨s, hs, rfl⟩ := iz_of (m := 0) (by decide) h.1; rw [show s = 0 by omega]; rfl)).elim)
  · have h104_23 : x = 0 := h104_23
    refine qa_ic (nx := 27) (v := nI 1) at_104_26 (by decide) rfl ?_
    refine qa_goto (nx := 40) at_104_27 rfl ?_
    refine qa_s (pc' := 42) at_104_40 rfl rfl rfl ?_
    refine qa_s (pc' := 43) at_104_42 rfl rfl rfl ?_
    refine qa_ic (nx := 44) (v := nI 5) at_104_43 (by decide) rfl ?_
    refine qn_icmp_eq (tg := 53) (nx := 47) at_104_44 rfl rfl (by decide) (by decide) (fun h => absurd h (by decide)) (fun h104_44 => ?_)
    refine qa_s (pc' := 48) at_104_47 rfl rfl rfl ?_
    refine qa_bi (nx := 50) (v := nI 6) at_104_48 (by decide) rfl ?_
    refine qn_icmp_ne (tg := 57) (nx := 53) at_104_50 rfl rfl (by decide) (by decide) (fun h => absurd h (by decide)) (fun h104_50 => ?_)
    refine qa_ic (nx := 54) (v := nI 1) at_104_53 (by decide) rfl ?_
    refine qa_goto (nx := 58) at_104_54 rfl ?_
    refine qa_s (pc' := 60) at_104_58 rfl rfl rfl ?_
    refine qa_s (pc' := 61) at_104_60 rfl rfl rfl ?_
    refine qa_ic (nx := 62) (v := nI 3) at_104_61 (by decide) rfl ?_
    refine qn_icmp_eq (tg := 70) (nx := 65) at_104_62 rfl rfl (by decide) (by decide) (fun h => absurd h (by decide)) (fun h104_62 => ?_)
    refine qa_s (pc' := 66) at_104_65 rfl rfl rfl ?_
    refine qa_ic (nx := 67) (v := nI 4) at_104_66 (by decide) rfl ?_
    refine qn_icmp_ne (tg := 75) (nx := 70) at_104_67 rfl rfl (by decide) (by decide) (fun h104_67 => ?_) (fun h => absurd h (by decide))
    refine qa_s (pc' := 76) at_104_75 rfl rfl rfl ?_
    refine qa_ic (nx := 77) (v := nI 5) at_104_76 (by decide) rfl ?_
    refine qn_icmp_ne (tg := 85) (nx := 80) at_104_77 rfl rfl (by decide) (by decide) (fun h104_77 => ?_) (fun h => absurd h (by decide))
    refine qa_s (pc' := 86) at_104_85 rfl rfl rfl ?_
    refine qa_bi (nx := 88) (v := nI 6) at_104_86 (by decide) rfl ?_
    refine qn_icmp_ne (tg := 96) (nx := 91) at_104_88 rfl rfl (by decide) (by decide) (fun h => absurd h (by decide)) (fun h104_88 => ?_)
    refine qa_bi (nx := 93) (v := nI 8) at_104_91 (by decide) rfl ?_
    refine qa_goto (nx := 145) at_104_93 rfl ?_
    refine qa_s (pc' := 147) at_104_145 rfl rfl rfl ?_
    refine qa_s (pc' := 149) at_104_147 rfl rfl rfl ?_
    refine qn_if_eq (tg := 171) (nx := 152) at_104_149 rfl rfl (by decide) (fun h => absurd h (by decide)) (fun h104_149 => ?_)
    refine qa_s (pc' := 153) at_104_152 rfl rfl rfl ?_
    refine qn_if_eq (tg := 167) (nx := 156) at_104_153 rfl rfl (by decide) (fun h => absurd h (by decide)) (fun h104_153 => ?_)
    refine qa_s (pc' := 157) at_104_156 rfl rfl rfl ?_
    refine qa_s (pc' := 159) at_104_157 rfl rfl rfl ?_
    refine qa_s (pc' := 161) at_104_159 rfl rfl rfl ?_
    refine qa_callS (nx := 164) at_104_161 rfl rfl (Nat.le_of_ble_eq_true rfl) rfl rfl (by decide) rfl ?_
    show qa _ 101 0 [(0, .int _), (1, .int _), (2, .int _)] [] _ _
    refine c101_q ?_
    show qa _ 104 164 _ [.int _] _ _
    refine qa_if_eq (tg := 171) (nx := 167) at_104_164 rfl rfl (fun h104_164 => ?_) (fun h104_164 => ?_)
    · refine qa_ic (nx := 172) (v := nI 0) at_104_171 (by decide) rfl ?_
      refine qa_ret at_104_172 rfl ?_
      exact k0 (fun h => by first | exact (bi_z h104_164 h.2).elim | exact (h104_23 (by obtain ⟨s, hs, rfl⟩ := iz_of (m := 0) (by decide) h.1; rw [show s = 0 by omega]; rfl)).elim)
    · refine qa_ic (nx := 168) (v := nI 1) at_104_167 (by decide) rfl ?_
      refine qa_goto (nx := 172) at_104_168 rfl ?_
      refine qa_ret at_104_172 rfl ?_
      exact k1 ⟨⟨by rw [h104_23]; decide, by rw [h104_23]; decide⟩, bi_n h104_164⟩
theorem c104_q7 {x y : Int32} (k0 : ¬ okL 7 x y → Q (some (.int (nI 0))) σ) (k1 : okL 7 x y → Q (some (.int (nI 1))) σ) : qa (mj_cst ys) 104 0 [(0, .int (nI 7)), (1, .int x), (2, .int y)] [] σ Q := by
  refine qa_s (pc' := 1) at_104_0 rfl rfl rfl ?_
  refine qa_bi (nx := 3) (v := nI 6) at_104_1 (by decide) rfl ?_
  refine qn_icmp_lt (tg := 16) (nx := 6) at_104_3 rfl rfl (by decide) (by decide) (fun h => absurd h (by decide)) (fun h104_3 => ?_)
  refine qa_s (pc' := 7) at_104_6 rfl rfl rfl ?_
  refine qa_bi (nx := 9) (v := nI 10) at_104_7 (by decide) rfl ?_
  refine qn_icmp_gt (tg := 16) (nx := 12) at_104_9 rfl rfl (by decide) (by decide) (fun h => absurd h (by decide)) (fun h104_9 => ?_)
  refine qa_ic (nx := 13) (v := nI 1) at_104_12 (by decide) rfl ?_
  refine qa_goto (nx := 17) at_104_13 rfl ?_
  refine qa_s (pc' := 18) at_104_17 rfl rfl rfl ?_
  refine qa_s (pc' := 19) at_104_18 rfl rfl rfl ?_
  refine qn_if_eq (tg := 34) (nx := 22) at_104_19 rfl rfl (by decide) (fun h => absurd h (by decide)) (fun h104_19 => ?_)
  refine qa_s (pc' := 23) at_104_22 rfl rfl rfl ?_
  refine qa_if_ne (tg := 30) (nx := 26) at_104_23 rfl rfl (fun h104_23 => ?_) (fun h104_23 => ?_)
  · have h104_23 : ¬ x = 0 := h104_23
    refine qa_ic (nx := 31) (v := nI 0) at_104_30 (by decide) rfl ?_
    refine qa_goto (nx := 40) at_104_31 rfl ?_
    refine qa_s (pc' := 42) at_104_40 rfl rfl rfl ?_
    refine qa_s (pc' := 43) at_104_42 rfl rfl rfl ?_
    refine qa_ic (nx := 44) (v := nI 5) at_104_43 (by decide) rfl ?_
    refine qn_icmp_eq (tg := 53) (nx := 47) at_104_44 rfl rfl (by decide) (by decide) (fun h => absurd h (by decide)) (fun h104_44 => ?_)
    refine qa_s (pc' := 48) at_104_47 rfl rfl rfl ?_
    refine qa_bi (nx := 50) (v := nI 6) at_104_48 (by decide) rfl ?_
    refine qn_icmp_ne (tg := 57) (nx := 53) at_104_50 rfl rfl (by decide) (by decide) (fun h104_50 => ?_) (fun h => absurd h (by decide))
    refine qa_ic (nx := 58) (v := nI 0) at_104_57 (by decide) rfl ?_
    refine qa_s (pc' := 60) at_104_58 rfl rfl rfl ?_
    refine qa_s (pc' := 61) at_104_60 rfl rfl rfl ?_
    refine qa_ic (nx := 62) (v := nI 3) at_104_61 (by decide) rfl ?_
    refine qn_icmp_eq (tg := 70) (nx := 65) at_104_62 rfl rfl (by decide) (by decide) (fun h => absurd h (by decide)) (fun h104_62 => ?_)
    refine qa_s (pc' := 66) at_104_65 rfl rfl rfl ?_
    refine qa_ic (nx := 67) (v := nI 4) at_104_66 (by decide) rfl ?_
    refine qn_icmp_ne (tg := 75) (nx := 70) at_104_67 rfl rfl (by decide) (by decide) (fun h104_67 => ?_) (fun h => absurd h (by decide))
    refine qa_s (pc' := 76) at_104_75 rfl rfl rfl ?_
    refine qa_ic (nx := 77) (v := nI 5) at_104_76 (by decide) rfl ?_
    refine qn_icmp_ne (tg := 85) (nx := 80) at_104_77 rfl rfl (by decide) (by decide) (fun h104_77 => ?_) (fun h => absurd h (by decide))
    refine qa_s (pc' := 86) at_104_85 rfl rfl rfl ?_
    refine qa_bi (nx := 88) (v := nI 6) at_104_86 (by decide) rfl ?_
    refine qn_icmp_ne (tg := 96) (nx := 91) at_104_88 rfl rfl (by decide) (by decide) (fun h104_88 => ?_) (fun h => absurd h (by decide))
    refine qa_s (pc' := 97) at_104_96 rfl rfl rfl ?_
    refine qa_bi (nx := 99) (v := nI 7) at_104_97 (by decide) rfl ?_
    refine qn_icmp_eq (tg := 114) (nx := 102) at_104_99 rfl rfl (by decide) (by decide) (fun h104_99 => ?_) (fun h => absurd h (by decide))
    refine qa_ic (nx := 115) (v := nI 0) at_104_114 (by decide) rfl ?_
    refine qa_goto (nx := 145) at_104_115 rfl ?_
    refine qa_s (pc' := 147) at_104_145 rfl rfl rfl ?_
    refine qa_s (pc' := 149) at_104_147 rfl rfl rfl ?_
    refine qn_if_eq (tg := 171) (nx := 152) at_104_149 rfl rfl (by decide) (fun h104_149 => ?_) (fun h => absurd h (by decide))
    refine qa_ic (nx := 172) (v := nI 0) at_104_171 (by decide) rfl ?_
    refine qa_ret at_104_172 rfl ?_
    exact k0 (fun h => by first | exact (bi_z h104_164 h.2).elim | exact (h104_23 (by obtain ⟨s, hs, rfl⟩ := iz_of (m := 0) (by decide) h.1; rw [show s = 0 by omega]; rfl)).elim)
  · have h104_23 : x = 0 := h104_23
    refine qa_ic (nx := 27) (v := nI 1) at_104_26 (by decide) rfl ?_
    refine qa_goto (nx := 40) at_104_27 rfl ?_
    refine qa_s (pc' := 42) at_104_40 rfl rfl rfl ?_
    refine qa_s (pc' := 43) at_104_42 rfl rfl rfl ?_
    refine qa_ic (nx := 44) (v := nI 5) at_104_43 (by decide) rfl ?_
    refine qn_icmp_eq (tg := 53) (nx := 47) at_104_44 rfl rfl (by decide) (by decide) (fun h => absurd h (by decide)) (fun h104_44 => ?_)
    refine qa_s (pc' := 48) at_104_47 rfl rfl rfl ?_
    refine qa_bi (nx := 50) (v := nI 6) at_104_48 (by decide) rfl ?_
    refine qn_icmp_ne (tg := 57) (nx := 53) at_104_50 rfl rfl (by decide) (by decide) (fun h104_50 => ?_) (fun h => absurd h (by decide))
    refine qa_ic (nx := 58) (v := nI 0) at_104_57 (by decide) rfl ?_
    refine qa_s (pc' := 60) at_104_58 rfl rfl rfl ?_
    refine qa_s (pc' := 61) at_104_60 rfl rfl rfl ?_
    refine qa_ic (nx := 62) (v := nI 3) at_104_61 (by decide) rfl ?_
    refine qn_icmp_eq (tg := 70) (nx := 65) at_104_62 rfl rfl (by decide) (by decide) (fun h => absurd h (by decide)) (fun h104_62 => ?_)
    refine qa_s (pc' := 66) at_104_65 rfl rfl rfl ?_
    refine qa_ic (nx := 67) (v := nI 4) at_104_66 (by decide) rfl ?_
    refine qn_icmp_ne (tg := 75) (nx := 70) at_104_67 rfl rfl (by decide) (by decide) (fun h104_67 => ?_) (fun h => absurd h (by decide))
    refine qa_s (pc' := 76) at_104_75 rfl rfl rfl ?_
    refine qa_ic (nx := 77) (v := nI 5) at_104_76 (by decide) rfl ?_
    refine qn_icmp_ne (tg := 85) (nx := 80) at_104_77 rfl rfl (by decide) (by decide) (fun h104_77 => ?_) (fun h => absurd h (by decide))
    refine qa_s (pc' := 86) at_104_85 rfl rfl rfl ?_
    refine qa_bi (nx := 88) (v := nI 6) at_104_86 (by decide) rfl ?_
    refine qn_icmp_ne (tg := 96) (nx := 91) at_104_88 rfl rfl (by decide) (by decide) (fun h104_88 => ?_) (fun h => absurd h (by decide))
    refine qa_s (pc' := 97) at_104_96 rfl rfl rfl ?_
    refine qa_bi (nx := 99) (v := nI 7) at_104_97 (by decide) rfl ?_
    refine qn_icmp_eq (tg := 114) (nx := 102) at_104_99 rfl rfl (by decide) (by decide) (fun h104_99 => ?_) (fun h => absurd h (by decide))
    refine qa_ic (nx := 115) (v := nI 0) at_104_114 (by decide) rfl ?_
    refine qa_goto (nx := 145) at_104_115 rfl ?_
    refine qa_s (pc' := 147) at_104_145 rfl rfl rfl ?_
    refine qa_s (pc' := 149) at_104_147 rfl rfl rfl ?_
    refine qn_if_eq (tg := 171) (nx := 152) at_104_149 rfl rfl (by decide) (fun h => absurd h (by decide)) (fun h104_149 => ?_)
    refine qa_s (pc' := 153) at_104_152 rfl rfl rfl ?_
    refine qn_if_eq (tg := 167) (nx := 156) at_104_153 rfl rfl (by decide) (fun h => absurd h (by decide)) (fun h104_153 => ?_)
    refine qa_s (pc' := 157) at_104_156 rfl rfl rfl ?_
    refine qa_s (pc' := 159) at_104_157 rfl rfl rfl ?_
    refine qa_s (pc' := 161) at_104_159 rfl rfl rfl ?_
    refine qa_callS (nx := 164) at_104_161 rfl rfl (Nat.le_of_ble_eq_true rfl) rfl rfl (by decide) rfl ?_
    show qa _ 101 0 [(0, .int _), (1, .int _), (2, .int _)] [] _ _
    refine c101_q ?_
    show qa _ 104 164 _ [.int _] _ _
    refine qa_if_eq (tg := 171) (nx := 167) at_104_164 rfl rfl (fun h104_164 => ?_) (fun h104_164 => ?_)
    · refine qa_ic (nx := 172) (v := nI 0) at_104_171 (by decide) rfl ?_
      refine qa_ret at_104_172 rfl ?_
      exact k0 (fun h => by first | exact (bi_z h104_164 h.2).elim | exact (h104_23 (by obtain ⟨s, hs, rfl⟩ := iz_of (m := 0) (by decide) h.1; rw [show s = 0 by omega]; rfl)).elim)
    · refine qa_ic (nx := 168) (v := nI 1) at_104_167 (by decide) rfl ?_
      refine qa_goto (nx := 172) at_104_168 rfl ?_
      refine qa_ret at_104_172 rfl ?_
      exact k1 ⟨⟨by rw [h104_23]; decide, by rw [h104_23]; decide⟩, bi_n h104_164⟩
theorem c104_q8 {x y : Int32} (k0 : ¬ okL 8 x y → Q (some (.int (nI 0))) σ) (k1 : okL 8 x y → Q (some (.int (nI 1))) σ) : qa (mj_cst ys) 104 0 [(0, .int (nI 8)), (1, .int x), (2, .int y)] [] σ Q := by
  refine qa_s (pc' := 1) at_104_0 rfl rfl rfl ?_
  refine qa_bi (nx := 3) (v := nI 6) at_104_1 (by decide) rfl ?_
  refine qn_icmp_lt (tg := 16) (nx := 6) at_104_3 rfl rfl (by decide) (by decide) (fun h => absurd h (by decide)) (fun h104_3 => ?_)
  refine qa_s (pc' := 7) at_104_6 rfl rfl rfl ?_
  refine qa_bi (nx := 9) (v := nI 10) at_104_7 (by decide) rfl ?_
  refine qn_icmp_gt (tg := 16) (nx := 12) at_104_9 rfl rfl (by decide) (by decide) (fun h => absurd h (by decide)) (fun h104_9 => ?_)
  refine qa_ic (nx := 13) (v := nI 1) at_104_12 (by decide) rfl ?_
  refine qa_goto (nx := 17) at_104_13 rfl ?_
  refine qa_s (pc' := 18) at_104_17 rfl rfl rfl ?_
  refine qa_s (pc' := 19) at_104_18 rfl rfl rfl ?_
  refine qn_if_eq (tg := 34) (nx := 22) at_104_19 rfl rfl (by decide) (fun h => absurd h (by decide)) (fun h104_19 => ?_)
  refine qa_s (pc' := 23) at_104_22 rfl rfl rfl ?_
  refine qa_if_ne (tg := 30) (nx := 26) at_104_23 rfl rfl (fun h104_23 => ?_) (fun h104_23 => ?_)
  · have h104_23 : ¬ x = 0 := h104_23
    refine qa_ic (nx := 31) (v := nI 0) at_104_30 (by decide) rfl ?_
    refine qa_goto (nx := 40) at_104_31 rfl ?_
    refine qa_s (pc' := 42) at_104_40 rfl rfl rfl ?_
    refine qa_s (pc' := 43) at_104_42 rfl rfl rfl ?_
    refine qa_ic (nx := 44) (v := nI 5) at_104_43 (by decide) rfl ?_
    refine qn_icmp_eq (tg := 53) (nx := 47) at_104_44 rfl rfl (by decide) (by decide) (fun h => absurd h (by decide)) (fun h104_44 => ?_)
    refine qa_s (pc' := 48) at_104_47 rfl rfl rfl ?_
    refine qa_bi (nx := 50) (v := nI 6) at_104_48 (by decide) rfl ?_
    refine qn_icmp_ne (tg := 57) (nx := 53) at_104_50 rfl rfl (by decide) (by decide) (fun h104_50 => ?_) (fun h => absurd h (by decide))
    refine qa_ic (nx := 58) (v := nI 0) at_104_57 (by decide) rfl ?_
    refine qa_s (pc' := 60) at_104_58 rfl rfl rfl ?_
    refine qa_s (pc' := 61) at_104_60 rfl rfl rfl ?_
    refine qa_ic (nx := 62) (v := nI 3) at_104_61 (by decide) rfl ?_
    refine qn_icmp_eq (tg := 70) (nx := 65) at_104_62 rfl rfl (by decide) (by decide) (fun h => absurd h (by decide)) (fun h104_62 => ?_)
    refine qa_s (pc' := 66) at_104_65 rfl rfl rfl ?_
    refine qa_ic (nx := 67) (v := nI 4) at_104_66 (by decide) rfl ?_
    refine qn_icmp_ne (tg := 75) (nx := 70) at_104_67 rfl rfl (by decide) (by decide) (fun h104_67 => ?_) (fun h => absurd h (by decide))
    refine qa_s (pc' := 76) at_104_75 rfl rfl rfl ?_
    refine qa_ic (nx := 77) (v := nI 5) at_104_76 (by decide) rfl ?_
    refine qn_icmp_ne (tg := 85) (nx := 80) at_104_77 rfl rfl (by decide) (by decide) (fun h104_77 => ?_) (fun h => absurd h (by decide))
    refine qa_s (pc' := 86) at_104_85 rfl rfl rfl ?_
    refine qa_bi (nx := 88) (v := nI 6) at_104_86 (by decide) rfl ?_
    refine qn_icmp_ne (tg := 96) (nx := 91) at_104_88 rfl rfl (by decide) (by decide) (fun h104_88 => ?_) (fun h => absurd h (by decide))
    refine qa_s (pc' := 97) at_104_96 rfl rfl rfl ?_
    refine qa_bi (nx := 99) (v := nI 7) at_104_97 (by decide) rfl ?_
    refine qn_icmp_eq (tg := 114) (nx := 102) at_104_99 rfl rfl (by decide) (by decide) (fun h => absurd h (by decide)) (fun h104_99 => ?_)
    refine qa_s (pc' := 103) at_104_102 rfl rfl rfl ?_
    refine qa_bi (nx := 105) (v := nI 9) at_104_103 (by decide) rfl ?_
    refine qn_icmp_eq (tg := 114) (nx := 108) at_104_105 rfl rfl (by decide) (by decide) (fun h => absurd h (by decide)) (fun h104_105 => ?_)
    refine qa_s (pc' := 109) at_104_108 rfl rfl rfl ?_
    refine qa_bi (nx := 111) (v := nI 12) at_104_109 (by decide) rfl ?_
    refine qn_icmp_ne (tg := 118) (nx := 114) at_104_111 rfl rfl (by decide) (by decide) (fun h104_111 => ?_) (fun h => absurd h (by decide))
    refine qa_s (pc' := 119) at_104_118 rfl rfl rfl ?_
    refine qa_bi (nx := 121) (v := nI 10) at_104_119 (by decide) rfl ?_
    refine qn_icmp_ne (tg := 128) (nx := 124) at_104_121 rfl rfl (by decide) (by decide) (fun h104_121 => ?_) (fun h => absurd h (by decide))
    refine qa_s (pc' := 129) at_104_128 rfl rfl rfl ?_
    refine qa_bi (nx := 131) (v := nI 11) at_104_129 (by decide) rfl ?_
    refine qn_icmp_eq (tg := 140) (nx := 134) at_104_131 rfl rfl (by decide) (by decide) (fun h => absurd h (by decide)) (fun h104_131 => ?_)
    refine qa_s (pc' := 135) at_104_134 rfl rfl rfl ?_
    refine qa_bi (nx := 137) (v := nI 13) at_104_135 (by decide) rfl ?_
    refine qn_icmp_lt (tg := 144) (nx := 140) at_104_137 rfl rfl (by decide) (by decide) (fun h104_137 => ?_) (fun h => absurd h (by decide))
    refine qa_ic (nx := 145) (v := nI 3) at_104_144 (by decide) rfl ?_
    refine qa_s (pc' := 147) at_104_145 rfl rfl rfl ?_
    refine qa_s (pc' := 149) at_104_147 rfl rfl rfl ?_
    refine qn_if_eq (tg := 171) (nx := 152) at_104_149 rfl rfl (by decide) (fun h104_149 => ?_) (fun h => absurd h (by decide))
    refine qa_ic (nx := 172) (v := nI 0) at_104_171 (by decide) rfl ?_
    refine qa_ret at_104_172 rfl ?_
    exact k0 (fun h => by first | exact (bi_z h104_164 h.2).elim | exact (h104_23 (by obtain ⟨s, hs, rfl⟩ := iz_of (m := 0) (by decide) h.1; rw [show s = 0 by omega]; rfl)).elim)
  · have h104_23 : x = 0 := h104_23
    refine qa_ic (nx := 27) (v := nI 1) at_104_26 (by decide) rfl ?_
    refine qa_goto (nx := 40) at_104_27 rfl ?_
    refine qa_s (pc' := 42) at_104_40 rfl rfl rfl ?_
    refine qa_s (pc' := 43) at_104_42 rfl rfl rfl ?_
    refine qa_ic (nx := 44) (v := nI 5) at_104_43 (by decide) rfl ?_
    refine qn_icmp_eq (tg := 53) (nx := 47) at_104_44 rfl rfl (by decide) (by decide) (fun h => absurd h (by decide)) (fun h104_44 => ?_)
    refine qa_s (pc' := 48) at_104_47 rfl rfl rfl ?_
    refine qa_bi (nx := 50) (v := nI 6) at_104_48 (by decide) rfl ?_
    refine qn_icmp_ne (tg := 57) (nx := 53) at_104_50 rfl rfl (by decide) (by decide) (fun h104_50 => ?_) (fun h => absurd h (by decide))
    refine qa_ic (nx := 58) (v := nI 0) at_104_57 (by decide) rfl ?_
    refine qa_s (pc' := 60) at_104_58 rfl rfl rfl ?_
    refine qa_s (pc' := 61) at_104_60 rfl rfl rfl ?_
    refine qa_ic (nx := 62) (v := nI 3) at_104_61 (by decide) rfl ?_
    refine qn_icmp_eq (tg := 70) (nx := 65) at_104_62 rfl rfl (by decide) (by decide) (fun h => absurd h (by decide)) (fun h104_62 => ?_)
    refine qa_s (pc' := 66) at_104_65 rfl rfl rfl ?_
    refine qa_ic (nx := 67) (v := nI 4) at_104_66 (by decide) rfl ?_
    refine qn_icmp_ne (tg := 75) (nx := 70) at_104_67 rfl rfl (by decide) (by decide) (fun h104_67 => ?_) (fun h => absurd h (by decide))
    refine qa_s (pc' := 76) at_104_75 rfl rfl rfl ?_
    refine qa_ic (nx := 77) (v := nI 5) at_104_76 (by decide) rfl ?_
    refine qn_icmp_ne (tg := 85) (nx := 80) at_104_77 rfl rfl (by decide) (by decide) (fun h104_77 => ?_) (fun h => absurd h (by decide))
    refine qa_s (pc' := 86) at_104_85 rfl rfl rfl ?_
    refine qa_bi (nx := 88) (v := nI 6) at_104_86 (by decide) rfl ?_
    refine qn_icmp_ne (tg := 96) (nx := 91) at_104_88 rfl rfl (by decide) (by decide) (fun h104_88 => ?_) (fun h => absurd h (by decide))
    refine qa_s (pc' := 97) at_104_96 rfl rfl rfl ?_
    refine qa_bi (nx := 99) (v := nI 7) at_104_97 (by decide) rfl ?_
    refine qn_icmp_eq (tg := 114) (nx := 102) at_104_99 rfl rfl (by decide) (by decide) (fun h => absurd h (by decide)) (fun h104_99 => ?_)
    refine qa_s (pc' := 103) at_104_102 rfl rfl rfl ?_
    refine qa_bi (nx := 105) (v := nI 9) at_104_103 (by decide) rfl ?_
    refine qn_icmp_eq (tg := 114) (nx := 108) at_104_105 rfl rfl (by decide) (by decide) (fun h => absurd h (by decide)) (fun h104_105 => ?_)
    refine qa_s (pc' := 109) at_104_108 rfl rfl rfl ?_
    refine qa_bi (nx := 111) (v := nI 12) at_104_109 (by decide) rfl ?_
    refine qn_icmp_ne (tg := 118) (nx := 114) at_104_111 rfl rfl (by decide) (by decide) (fun h104_111 => ?_) (fun h => absurd h (by decide))
    refine qa_s (pc' := 119) at_104_118 rfl rfl rfl ?_
    refine qa_bi (nx := 121) (v := nI 10) at_104_119 (by decide) rfl ?_
    refine qn_icmp_ne (tg := 128) (nx := 124) at_104_121 rfl rfl (by decide) (by decide) (fun h104_121 => ?_) (fun h => absurd h (by decide))
    refine qa_s (pc' := 129) at_104_128 rfl rfl rfl ?_
    refine qa_bi (nx := 131) (v := nI 11) at_104_129 (by decide) rfl ?_
    refine qn_icmp_eq (tg := 140) (nx := 134) at_104_131 rfl rfl (by decide) (by decide) (fun h => absurd h (by decide)) (fun h104_131 => ?_)
    refine qa_s (pc' := 135) at_104_134 rfl rfl rfl ?_
    refine qa_bi (nx := 137) (v := nI 13) at_104_135 (by decide) rfl ?_
    refine qn_icmp_lt (tg := 144) (nx := 140) at_104_137 rfl rfl (by decide) (by decide) (fun h104_137 => ?_) (fun h => absurd h (by decide))
    refine qa_ic (nx := 145) (v := nI 3) at_104_144 (by decide) rfl ?_
    refine qa_s (pc' := 147) at_104_145 rfl rfl rfl ?_
    refine qa_s (pc' := 149) at_104_147 rfl rfl rfl ?_
    refine qn_if_eq (tg := 171) (nx := 152) at_104_149 rfl rfl (by decide) (fun h => absurd h (by decide)) (fun h104_149 => ?_)
    refine qa_s (pc' := 153) at_104_152 rfl rfl rfl ?_
    refine qn_if_eq (tg := 167) (nx := 156) at_104_153 rfl rfl (by decide) (fun h => absurd h (by decide)) (fun h104_153 => ?_)
    refine qa_s (pc' := 157) at_104_156 rfl rfl rfl ?_
    refine qa_s (pc' := 159) at_104_157 rfl rfl rfl ?_
    refine qa_s (pc' := 161) at_104_159 rfl rfl rfl ?_
    refine qa_callS (nx := 164) at_104_161 rfl rfl (Nat.le_of_ble_eq_true rfl) rfl rfl (by decide) rfl ?_
    show qa _ 101 0 [(0, .int _), (1, .int _), (2, .int _)] [] _ _
    refine c101_q ?_
    show qa _ 104 164 _ [.int _] _ _
    refine qa_if_eq (tg := 171) (nx := 167) at_104_164 rfl rfl (fun h104_164 => ?_) (fun h104_164 => ?_)
    · refine qa_ic (nx := 172) (v := nI 0) at_104_171 (by decide) rfl ?_
      refine qa_ret at_104_172 rfl ?_
      exact k0 (fun h => by first | exact (bi_z h104_164 h.2).elim | exact (h104_23 (by obtain ⟨s, hs, rfl⟩ := iz_of (m := 0) (by decide) h.1; rw [show s = 0 by omega]; rfl)).elim)
    · refine qa_ic (nx := 168) (v := nI 1) at_104_167 (by decide) rfl ?_
      refine qa_goto (nx := 172) at_104_168 rfl ?_
      refine qa_ret at_104_172 rfl ?_
      exact k1 ⟨⟨by rw [h104_23]; decide, by rw [h104_23]; decide⟩, bi_n h104_164⟩
theorem c104_q9 {x y : Int32} (k0 : ¬ okL 9 x y → Q (some (.int (nI 0))) σ) (k1 : okL 9 x y → Q (some (.int (nI 1))) σ) : qa (mj_cst ys) 104 0 [(0, .int (nI 9)), (1, .int x), (2, .int y)] [] σ Q := by
  refine qa_s (pc' := 1) at_104_0 rfl rfl rfl ?_
  refine qa_bi (nx := 3) (v := nI 6) at_104_1 (by decide) rfl ?_
  refine qn_icmp_lt (tg := 16) (nx := 6) at_104_3 rfl rfl (by decide) (by decide) (fun h => absurd h (by decide)) (fun h104_3 => ?_)
  refine qa_s (pc' := 7) at_104_6 rfl rfl rfl ?_
  refine qa_bi (nx := 9) (v := nI 10) at_104_7 (by decide) rfl ?_
  refine qn_icmp_gt (tg := 16) (nx := 12) at_104_9 rfl rfl (by decide) (by decide) (fun h => absurd h (by decide)) (fun h104_9 => ?_)
  refine qa_ic (nx := 13) (v := nI 1) at_104_12 (by decide) rfl ?_
  refine qa_goto (nx := 17) at_104_13 rfl ?_
  refine qa_s (pc' := 18) at_104_17 rfl rfl rfl ?_
  refine qa_s (pc' := 19) at_104_18 rfl rfl rfl ?_
  refine qn_if_eq (tg := 34) (nx := 22) at_104_19 rfl rfl (by decide) (fun h => absurd h (by decide)) (fun h104_19 => ?_)
  refine qa_s (pc' := 23) at_104_22 rfl rfl rfl ?_
  refine qa_if_ne (tg := 30) (nx := 26) at_104_23 rfl rfl (fun h104_23 => ?_) (fun h104_23 => ?_)
  · have h104_23 : ¬ x = 0 := h104_23
    refine qa_ic (nx := 31) (v := nI 0) at_104_30 (by decide) rfl ?_
    refine qa_goto (nx := 40) at_104_31 rfl ?_
    refine qa_s (pc' := 42) at_104_40 rfl rfl rfl ?_
    refine qa_s (pc' := 43) at_104_42 rfl rfl rfl ?_
    refine qa_ic (nx := 44) (v := nI 5) at_104_43 (by decide) rfl ?_
    refine qn_icmp_eq (tg := 53) (nx := 47) at_104_44 rfl rfl (by decide) (by decide) (fun h => absurd h (by decide)) (fun h104_44 => ?_)
    refine qa_s (pc' := 48) at_104_47 rfl rfl rfl ?_
    refine qa_bi (nx := 50) (v := nI 6) at_104_48 (by decide) rfl ?_
    refine qn_icmp_ne (tg := 57) (nx := 53) at_104_50 rfl rfl (by decide) (by decide) (fun h104_50 => ?_) (fun h => absurd h (by decide))
    refine qa_ic (nx := 58) (v := nI 0) at_104_57 (by decide) rfl ?_
    refine qa_s (pc' := 60) at_104_58 rfl rfl rfl ?_
    refine qa_s (pc' := 61) at_104_60 rfl rfl rfl ?_
    refine qa_ic (nx := 62) (v := nI 3) at_104_61 (by decide) rfl ?_
    refine qn_icmp_eq (tg := 70) (nx := 65) at_104_62 rfl rfl (by decide) (by decide) (fun h => absurd h (by decide)) (fun h104_62 => ?_)
    refine qa_s (pc' := 66) at_104_65 rfl rfl rfl ?_
    refine qa_ic (nx := 67) (v := nI 4) at_104_66 (by decide) rfl ?_
    refine qn_icmp_ne (tg := 75) (nx := 70) at_104_67 rfl rfl (by decide) (by decide) (fun h104_67 => ?_) (fun h => absurd h (by decide))
    refine qa_s (pc' := 76) at_104_75 rfl rfl rfl ?_
    refine qa_ic (nx := 77) (v := nI 5) at_104_76 (by decide) rfl ?_
    refine qn_icmp_ne (tg := 85) (nx := 80) at_104_77 rfl rfl (by decide) (by decide) (fun h104_77 => ?_) (fun h => absurd h (by decide))
    refine qa_s (pc' := 86) at_104_85 rfl rfl rfl ?_
    refine qa_bi (nx := 88) (v := nI 6) at_104_86 (by decide) rfl ?_
    refine qn_icmp_ne (tg := 96) (nx := 91) at_104_88 rfl rfl (by decide) (by decide) (fun h104_88 => ?_) (fun h => absurd h (by decide))
    refine qa_s (pc' := 97) at_104_96 rfl rfl rfl ?_
    refine qa_bi (nx := 99) (v := nI 7) at_104_97 (by decide) rfl ?_
    refine qn_icmp_eq (tg := 114) (nx := 102) at_104_99 rfl rfl (by decide) (by decide) (fun h => absurd h (by decide)) (fun h104_99 => ?_)
    refine qa_s (pc' := 103) at_104_102 rfl rfl rfl ?_
    refine qa_bi (nx := 105) (v := nI 9) at_104_103 (by decide) rfl ?_
    refine qn_icmp_eq (tg := 114) (nx := 108) at_104_105 rfl rfl (by decide) (by decide) (fun h104_105 => ?_) (fun h => absurd h (by decide))
    refine qa_ic (nx := 115) (v := nI 0) at_104_114 (by decide) rfl ?_
    refine qa_goto (nx := 145) at_104_115 rfl ?_
    refine qa_s (pc' := 147) at_104_145 rfl rfl rfl ?_
    refine qa_s (pc' := 149) at_104_147 rfl rfl rfl ?_
    refine qn_if_eq (tg := 171) (nx := 152) at_104_149 rfl rfl (by decide) (fun h104_149 => ?_) (fun h => absurd h (by decide))
    refine qa_ic (nx := 172) (v := nI 0) at_104_171 (by decide) rfl ?_
    refine qa_ret at_104_172 rfl ?_
    exact k0 (fun h => by first | exact (bi_z h104_164 h.2).elim | exact (h104_23 (by obtain ⟨s, hs, rfl⟩ := iz_of (m := 0) (by decide) h.1; rw [show s = 0 by omega]; rfl)).elim)
  · have h104_23 : x = 0 := h104_23
    refine qa_ic (nx := 27) (v := nI 1) at_104_26 (by decide) rfl ?_
    refine qa_goto (nx := 40) at_104_27 rfl ?_
    refine qa_s (pc' := 42) at_104_40 rfl rfl rfl ?_
    refine qa_s (pc' := 43) at_104_42 rfl rfl rfl ?_
    refine qa_ic (nx := 44) (v := nI 5) at_104_43 (by decide) rfl ?_
    refine qn_icmp_eq (tg := 53) (nx := 47) at_104_44 rfl rfl (by decide) (by decide) (fun h => absurd h (by decide)) (fun h104_44 => ?_)
    refine qa_s (pc' := 48) at_104_47 rfl rfl rfl ?_
    refine qa_bi (nx := 50) (v := nI 6) at_104_48 (by decide) rfl ?_
    refine qn_icmp_ne (tg := 57) (nx := 53) at_104_50 rfl rfl (by decide) (by decide) (fun h104_50 => ?_) (fun h => absurd h (by decide))
    refine qa_ic (nx := 58) (v := nI 0) at_104_57 (by decide) rfl ?_
    refine qa_s (pc' := 60) at_104_58 rfl rfl rfl ?_
    refine qa_s (pc' := 61) at_104_60 rfl rfl rfl ?_
    refine qa_ic (nx := 62) (v := nI 3) at_104_61 (by decide) rfl ?_
    refine qn_icmp_eq (tg := 70) (nx := 65) at_104_62 rfl rfl (by decide) (by decide) (fun h => absurd h (by decide)) (fun h104_62 => ?_)
    refine qa_s (pc' := 66) at_104_65 rfl rfl rfl ?_
    refine qa_ic (nx := 67) (v := nI 4) at_104_66 (by decide) rfl ?_
    refine qn_icmp_ne (tg := 75) (nx := 70) at_104_67 rfl rfl (by decide) (by decide) (fun h104_67 => ?_) (fun h => absurd h (by decide))
    refine qa_s (pc' := 76) at_104_75 rfl rfl rfl ?_
    refine qa_ic (nx := 77) (v := nI 5) at_104_76 (by decide) rfl ?_
    refine qn_icmp_ne (tg := 85) (nx := 80) at_104_77 rfl rfl (by decide) (by decide) (fun h104_77 => ?_) (fun h => absurd h (by decide))
    refine qa_s (pc' := 86) at_104_85 rfl rfl rfl ?_
    refine qa_bi (nx := 88) (v := nI 6) at_104_86 (by decide) rfl ?_
    refine qn_icmp_ne (tg := 96) (nx := 91) at_104_88 rfl rfl (by decide) (by decide) (fun h104_88 => ?_) (fun h => absurd h (by decide))
    refine qa_s (pc' := 97) at_104_96 rfl rfl rfl ?_
    refine qa_bi (nx := 99) (v := nI 7) at_104_97 (by decide) rfl ?_
    refine qn_icmp_eq (tg := 114) (nx := 102) at_104_99 rfl rfl (by decide) (by decide) (fun h => absurd h (by decide)) (fun h104_99 => ?_)
    refine qa_s (pc' := 103) at_104_102 rfl rfl rfl ?_
    refine qa_bi (nx := 105) (v := nI 9) at_104_103 (by decide) rfl ?_
    refine qn_icmp_eq (tg := 114) (nx := 108) at_104_105 rfl rfl (by decide) (by decide) (fun h104_105 => ?_) (fun h => absurd h (by decide))
    refine qa_ic (nx := 115) (v := nI 0) at_104_114 (by decide) rfl ?_
    refine qa_goto (nx := 145) at_104_115 rfl ?_
    refine qa_s (pc' := 147) at_104_145 rfl rfl rfl ?_
    refine qa_s (pc' := 149) at_104_147 rfl rfl rfl ?_
    refine qn_if_eq (tg := 171) (nx := 152) at_104_149 rfl rfl (by decide) (fun h => absurd h (by decide)) (fun h104_149 => ?_)
    refine qa_s (pc' := 153) at_104_152 rfl rfl rfl ?_
    refine qn_if_eq (tg := 167) (nx := 156) at_104_153 rfl rfl (by decide) (fun h => absurd h (by decide)) (fun h104_153 => ?_)
    refine qa_s (pc' := 157) at_104_156 rfl rfl rfl ?_
    refine qa_s (pc' := 159) at_104_157 rfl rfl rfl ?_
    refine qa_s (pc' := 161) at_104_159 rfl rfl rfl ?_
    refine qa_callS (nx := 164) at_104_161 rfl rfl (Nat.le_of_ble_eq_true rfl) rfl rfl (by decide) rfl ?_
    show qa _ 101 0 [(0, .int _), (1, .int _), (2, .int _)] [] _ _
    refine c101_q ?_
    show qa _ 104 164 _ [.int _] _ _
    refine qa_if_eq (tg := 171) (nx := 167) at_104_164 rfl rfl (fun h104_164 => ?_) (fun h104_164 => ?_)
    · refine qa_ic (nx := 172) (v := nI 0) at_104_171 (by decide) rfl ?_
      refine qa_ret at_104_172 rfl ?_
      exact k0 (fun h => by first | exact (bi_z h104_164 h.2).elim | exact (h104_23 (by obtain ⟨s, hs, rfl⟩ := iz_of (m := 0) (by decide) h.1; rw [show s = 0 by omega]; rfl)).elim)
    · refine qa_ic (nx := 168) (v := nI 1) at_104_167 (by decide) rfl ?_
      refine qa_goto (nx := 172) at_104_168 rfl ?_
      refine qa_ret at_104_172 rfl ?_
      exact k1 ⟨⟨by rw [h104_23]; decide, by rw [h104_23]; decide⟩, bi_n h104_164⟩
theorem c104_q10 {x y : Int32} (k0 : ¬ okL 10 x y → Q (some (.int (nI 0))) σ) (k1 : okL 10 x y → Q (some (.int (nI 1))) σ) : qa (mj_cst ys) 104 0 [(0, .int (nI 10)), (1, .int x), (2, .int y)] [] σ Q := by
  refine qa_s (pc' := 1) at_104_0 rfl rfl rfl ?_
  refine qa_bi (nx := 3) (v := nI 6) at_104_1 (by decide) rfl ?_
  refine qn_icmp_lt (tg := 16) (nx := 6) at_104_3 rfl rfl (by decide) (by decide) (fun h => absurd h (by decide)) (fun h104_3 => ?_)
  refine qa_s (pc' := 7) at_104_6 rfl rfl rfl ?_
  refine qa_bi (nx := 9) (v := nI 10) at_104_7 (by decide) rfl ?_
  refine qn_icmp_gt (tg := 16) (nx := 12) at_104_9 rfl rfl (by decide) (by decide) (fun h => absurd h (by decide)) (fun h104_9 => ?_)
  refine qa_ic (nx := 13) (v := nI 1) at_104_12 (by decide) rfl ?_
  refine qa_goto (nx := 17) at_104_13 rfl ?_
  refine qa_s (pc' := 18) at_104_17 rfl rfl rfl ?_
  refine qa_s (pc' := 19) at_104_18 rfl rfl rfl ?_
  refine qn_if_eq (tg := 34) (nx := 22) at_104_19 rfl rfl (by decide) (fun h => absurd h (by decide)) (fun h104_19 => ?_)
  refine qa_s (pc' := 23) at_104_22 rfl rfl rfl ?_
  refine qa_if_ne (tg := 30) (nx := 26) at_104_23 rfl rfl (fun h104_23 => ?_) (fun h104_23 => ?_)
  · have h104_23 : ¬ x = 0 := h104_23
    refine qa_ic (nx := 31) (v := nI 0) at_104_30 (by decide) rfl ?_
    refine qa_goto (nx := 40) at_104_31 rfl ?_
    refine qa_s (pc' := 42) at_104_40 rfl rfl rfl ?_
    refine qa_s (pc' := 43) at_104_42 rfl rfl rfl ?_
    refine qa_ic (nx := 44) (v := nI 5) at_104_43 (by decide) rfl ?_
    refine qn_icmp_eq (tg := 53) (nx := 47) at_104_44 rfl rfl (by decide) (by decide) (fun h => absurd h (by decide)) (fun h104_44 => ?_)
    refine qa_s (pc' := 48) at_104_47 rfl rfl rfl ?_
    refine qa_bi (nx := 50) (v := nI 6) at_104_48 (by decide) rfl ?_
    refine qn_icmp_ne (tg := 57) (nx := 53) at_104_50 rfl rfl (by decide) (by decide) (fun h104_50 => ?_) (fun h => absurd h (by decide))
    refine qa_ic (nx := 58) (v := nI 0) at_104_57 (by decide) rfl ?_
    refine qa_s (pc' := 60) at_104_58 rfl rfl rfl ?_
    refine qa_s (pc' := 61) at_104_60 rfl rfl rfl ?_
    refine qa_ic (nx := 62) (v := nI 3) at_104_61 (by decide) rfl ?_
    refine qn_icmp_eq (tg := 70) (nx := 65) at_104_62 rfl rfl (by decide) (by decide) (fun h => absurd h (by decide)) (fun h104_62 => ?_)
    refine qa_s (pc' := 66) at_104_65 rfl rfl rfl ?_
    refine qa_ic (nx := 67) (v := nI 4) at_104_66 (by decide) rfl ?_
    refine qn_icmp_ne (tg := 75) (nx := 70) at_104_67 rfl rfl (by decide) (by decide) (fun h104_67 => ?_) (fun h => absurd h (by decide))
    refine qa_s (pc' := 76) at_104_75 rfl rfl rfl ?_
    refine qa_ic (nx := 77) (v := nI 5) at_104_76 (by decide) rfl ?_
    refine qn_icmp_ne (tg := 85) (nx := 80) at_104_77 rfl rfl (by decide) (by decide) (fun h104_77 => ?_) (fun h => absurd h (by decide))
    refine qa_s (pc' := 86) at_104_85 rfl rfl rfl ?_
    refine qa_bi (nx := 88) (v := nI 6) at_104_86 (by decide) rfl ?_
    refine qn_icmp_ne (tg := 96) (nx := 91) at_104_88 rfl rfl (by decide) (by decide) (fun h104_88 => ?_) (fun h => absurd h (by decide))
    refine qa_s (pc' := 97) at_104_96 rfl rfl rfl ?_
    refine qa_bi (nx := 99) (v := nI 7) at_104_97 (by decide) rfl ?_
    refine qn_icmp_eq (tg := 114) (nx := 102) at_104_99 rfl rfl (by decide) (by decide) (fun h => absurd h (by decide)) (fun h104_99 => ?_)
    refine qa_s (pc' := 103) at_104_102 rfl rfl rfl ?_
    refine qa_bi (nx := 105) (v := nI 9) at_104_103 (by decide) rfl ?_
    refine qn_icmp_eq (tg := 114) (nx := 108) at_104_105 rfl rfl (by decide) (by decide) (fun h => absurd h (by decide)) (fun h104_105 => ?_)
    refine qa_s (pc' := 109) at_104_108 rfl rfl rfl ?_
    refine qa_bi (nx := 111) (v := nI 12) at_104_109 (by decide) rfl ?_
    refine qn_icmp_ne (tg := 118) (nx := 114) at_104_111 rfl rfl (by decide) (by decide) (fun h104_111 => ?_) (fun h => absurd h (by decide))
    refine qa_s (pc' := 119) at_104_118 rfl rfl rfl ?_
    refine qa_bi (nx := 121) (v := nI 10) at_104_119 (by decide) rfl ?_
    refine qn_icmp_ne (tg := 128) (nx := 124) at_104_121 rfl rfl (by decide) (by decide) (fun h => absurd h (by decide)) (fun h104_121 => ?_)
    refine qa_ic (nx := 125) (v := nI 2) at_104_124 (by decide) rfl ?_
    refine qa_goto (nx := 145) at_104_125 rfl ?_
    refine qa_s (pc' := 147) at_104_145 rfl rfl rfl ?_
    refine qa_s (pc' := 149) at_104_147 rfl rfl rfl ?_
    refine qn_if_eq (tg := 171) (nx := 152) at_104_149 rfl rfl (by decide) (fun h104_149 => ?_) (fun h => absurd h (by decide))
    refine qa_ic (nx := 172) (v := nI 0) at_104_171 (by decide) rfl ?_
    refine qa_ret at_104_172 rfl ?_
    exact k0 (fun h => by first | exact (bi_z h104_164 h.2).elim | exact (h104_23 (by obtain ⟨s, hs, rfl⟩ := iz_of (m := 0) (by decide) h.1; rw [show s = 0 by omega]; rfl)).elim)
  · have h104_23 : x = 0 := h104_23
    refine qa_ic (nx := 27) (v := nI 1) at_104_26 (by decide) rfl ?_
    refine qa_goto (nx := 40) at_104_27 rfl ?_
    refine qa_s (pc' := 42) at_104_40 rfl rfl rfl ?_
    refine qa_s (pc' := 43) at_104_42 rfl rfl rfl ?_
    refine qa_ic (nx := 44) (v := nI 5) at_104_43 (by decide) rfl ?_
    refine qn_icmp_eq (tg := 53) (nx := 47) at_104_44 rfl rfl (by decide) (by decide) (fun h => absurd h (by decide)) (fun h104_44 => ?_)
    refine qa_s (pc' := 48) at_104_47 rfl rfl rfl ?_
    refine qa_bi (nx := 50) (v := nI 6) at_104_48 (by decide) rfl ?_
    refine qn_icmp_ne (tg := 57) (nx := 53) at_104_50 rfl rfl (by decide) (by decide) (fun h104_50 => ?_) (fun h => absurd h (by decide))
    refine qa_ic (nx := 58) (v := nI 0) at_104_57 (by decide) rfl ?_
    refine qa_s (pc' := 60) at_104_58 rfl rfl rfl ?_
    refine qa_s (pc' := 61) at_104_60 rfl rfl rfl ?_
    refine qa_ic (nx := 62) (v := nI 3) at_104_61 (by decide) rfl ?_
    refine qn_icmp_eq (tg := 70) (nx := 65) at_104_62 rfl rfl (by decide) (by decide) (fun h => absurd h (by decide)) (fun h104_62 => ?_)
    refine qa_s (pc' := 66) at_104_65 rfl rfl rfl ?_
    refine qa_ic (nx := 67) (v := nI 4) at_104_66 (by decide) rfl ?_
    refine qn_icmp_ne (tg := 75) (nx := 70) at_104_67 rfl rfl (by decide) (by decide) (fun h104_67 => ?_) (fun h => absurd h (by decide))
    refine qa_s (pc' := 76) at_104_75 rfl rfl rfl ?_
    refine qa_ic (nx := 77) (v := nI 5) at_104_76 (by decide) rfl ?_
    refine qn_icmp_ne (tg := 85) (nx := 80) at_104_77 rfl rfl (by decide) (by decide) (fun h104_77 => ?_) (fun h => absurd h (by decide))
    refine qa_s (pc' := 86) at_104_85 rfl rfl rfl ?_
    refine qa_bi (nx := 88) (v := nI 6) at_104_86 (by decide) rfl ?_
    refine qn_icmp_ne (tg := 96) (nx := 91) at_104_88 rfl rfl (by decide) (by decide) (fun h104_88 => ?_) (fun h => absurd h (by decide))
    refine qa_s (pc' := 97) at_104_96 rfl rfl rfl ?_
    refine qa_bi (nx := 99) (v := nI 7) at_104_97 (by decide) rfl ?_
    refine qn_icmp_eq (tg := 114) (nx := 102) at_104_99 rfl rfl (by decide) (by decide) (fun h => absurd h (by decide)) (fun h104_99 => ?_)
    refine qa_s (pc' := 103) at_104_102 rfl rfl rfl ?_
    refine qa_bi (nx := 105) (v := nI 9) at_104_103 (by decide) rfl ?_
    refine qn_icmp_eq (tg := 114) (nx := 108) at_104_105 rfl rfl (by decide) (by decide) (fun h => absurd h (by decide)) (fun h104_105 => ?_)
    refine qa_s (pc' := 109) at_104_108 rfl rfl rfl ?_
    refine qa_bi (nx := 111) (v := nI 12) at_104_109 (by decide) rfl ?_
    refine qn_icmp_ne (tg := 118) (nx := 114) at_104_111 rfl rfl (by decide) (by decide) (fun h104_111 => ?_) (fun h => absurd h (by decide))
    refine qa_s (pc' := 119) at_104_118 rfl rfl rfl ?_
    refine qa_bi (nx := 121) (v := nI 10) at_104_119 (by decide) rfl ?_
    refine qn_icmp_ne (tg := 128) (nx := 124) at_104_121 rfl rfl (by decide) (by decide) (fun h => absurd h (by decide)) (fun h104_121 => ?_)
    refine qa_ic (nx := 125) (v := nI 2) at_104_124 (by decide) rfl ?_
    refine qa_goto (nx := 145) at_104_125 rfl ?_
    refine qa_s (pc' := 147) at_104_145 rfl rfl rfl ?_
    refine qa_s (pc' := 149) at_104_147 rfl rfl rfl ?_
    refine qn_if_eq (tg := 171) (nx := 152) at_104_149 rfl rfl (by decide) (fun h => absurd h (by decide)) (fun h104_149 => ?_)
    refine qa_s (pc' := 153) at_104_152 rfl rfl rfl ?_
    refine qn_if_eq (tg := 167) (nx := 156) at_104_153 rfl rfl (by decide) (fun h => absurd h (by decide)) (fun h104_153 => ?_)
    refine qa_s (pc' := 157) at_104_156 rfl rfl rfl ?_
    refine qa_s (pc' := 159) at_104_157 rfl rfl rfl ?_
    refine qa_s (pc' := 161) at_104_159 rfl rfl rfl ?_
    refine qa_callS (nx := 164) at_104_161 rfl rfl (Nat.le_of_ble_eq_true rfl) rfl rfl (by decide) rfl ?_
    show qa _ 101 0 [(0, .int _), (1, .int _), (2, .int _)] [] _ _
    refine c101_q ?_
    show qa _ 104 164 _ [.int _] _ _
    refine qa_if_eq (tg := 171) (nx := 167) at_104_164 rfl rfl (fun h104_164 => ?_) (fun h104_164 => ?_)
    · refine qa_ic (nx := 172) (v := nI 0) at_104_171 (by decide) rfl ?_
      refine qa_ret at_104_172 rfl ?_
      exact k0 (fun h => by first | exact (bi_z h104_164 h.2).elim | exact (h104_23 (by obtain ⟨s, hs, rfl⟩ := iz_of (m := 0) (by decide) h.1; rw [show s = 0 by omega]; rfl)).elim)
    · refine qa_ic (nx := 168) (v := nI 1) at_104_167 (by decide) rfl ?_
      refine qa_goto (nx := 172) at_104_168 rfl ?_
      refine qa_ret at_104_172 rfl ?_
      exact k1 ⟨⟨by rw [h104_23]; decide, by rw [h104_23]; decide⟩, bi_n h104_164⟩
theorem c104_q11 {x y : Int32} (k0 : ¬ okL 11 x y → Q (some (.int (nI 0))) σ) (k1 : okL 11 x y → Q (some (.int (nI 1))) σ) : qa (mj_cst ys) 104 0 [(0, .int (nI 11)), (1, .int x), (2, .int y)] [] σ Q := by
  refine qa_s (pc' := 1) at_104_0 rfl rfl rfl ?_
  refine qa_bi (nx := 3) (v := nI 6) at_104_1 (by decide) rfl ?_
  refine qn_icmp_lt (tg := 16) (nx := 6) at_104_3 rfl rfl (by decide) (by decide) (fun h => absurd h (by decide)) (fun h104_3 => ?_)
  refine qa_s (pc' := 7) at_104_6 rfl rfl rfl ?_
  refine qa_bi (nx := 9) (v := nI 10) at_104_7 (by decide) rfl ?_
  refine qn_icmp_gt (tg := 16) (nx := 12) at_104_9 rfl rfl (by decide) (by decide) (fun h104_9 => ?_) (fun h => absurd h (by decide))
  refine qa_ic (nx := 17) (v := nI 0) at_104_16 (by decide) rfl ?_
  refine qa_s (pc' := 18) at_104_17 rfl rfl rfl ?_
  refine qa_s (pc' := 19) at_104_18 rfl rfl rfl ?_
  refine qn_if_eq (tg := 34) (nx := 22) at_104_19 rfl rfl (by decide) (fun h104_19 => ?_) (fun h => absurd h (by decide))
  refine qa_s (pc' := 35) at_104_34 rfl rfl rfl ?_
  refine qa_ic (nx := 36) (v := nI 0) at_104_35 (by decide) rfl ?_
  refine qa_ic (nx := 37) (v := nI 3) at_104_36 (by decide) rfl ?_
  refine qa_callS (nx := 40) at_104_37 rfl rfl (Nat.le_of_ble_eq_true rfl) rfl rfl (by decide) rfl ?_
  show qa _ 101 0 [(0, .int _), (1, .int _), (2, .int _)] [] _ _
  refine c101_q ?_
  show qa _ 104 40 _ [.int _] _ _
  refine qa_s (pc' := 42) at_104_40 rfl rfl rfl ?_
  refine qa_s (pc' := 43) at_104_42 rfl rfl rfl ?_
  refine qa_ic (nx := 44) (v := nI 5) at_104_43 (by decide) rfl ?_
  refine qn_icmp_eq (tg := 53) (nx := 47) at_104_44 rfl rfl (by decide) (by decide) (fun h => absurd h (by decide)) (fun h104_44 => ?_)
  refine qa_s (pc' := 48) at_104_47 rfl rfl rfl ?_
  refine qa_bi (nx := 50) (v := nI 6) at_104_48 (by decide) rfl ?_
  refine qn_icmp_ne (tg := 57) (nx := 53) at_104_50 rfl rfl (by decide) (by decide) (fun h104_50 => ?_) (fun h => absurd h (by decide))
  refine qa_ic (nx := 58) (v := nI 0) at_104_57 (by decide) rfl ?_
  refine qa_s (pc' := 60) at_104_58 rfl rfl rfl ?_
  refine qa_s (pc' := 61) at_104_60 rfl rfl rfl ?_
  refine qa_ic (nx := 62) (v := nI 3) at_104_61 (by decide) rfl ?_
  refine qn_icmp_eq (tg := 70) (nx := 65) at_104_62 rfl rfl (by decide) (by decide) (fun h => absurd h (by decide)) (fun h104_62 => ?_)
  refine qa_s (pc' := 66) at_104_65 rfl rfl rfl ?_
  refine qa_ic (nx := 67) (v := nI 4) at_104_66 (by decide) rfl ?_
  refine qn_icmp_ne (tg := 75) (nx := 70) at_104_67 rfl rfl (by decide) (by decide) (fun h104_67 => ?_) (fun h => absurd h (by decide))
  refine qa_s (pc' := 76) at_104_75 rfl rfl rfl ?_
  refine qa_ic (nx := 77) (v := nI 5) at_104_76 (by decide) rfl ?_
  refine qn_icmp_ne (tg := 85) (nx := 80) at_104_77 rfl rfl (by decide) (by decide) (fun h104_77 => ?_) (fun h => absurd h (by decide))
  refine qa_s (pc' := 86) at_104_85 rfl rfl rfl ?_
  refine qa_bi (nx := 88) (v := nI 6) at_104_86 (by decide) rfl ?_
  refine qn_icmp_ne (tg := 96) (nx := 91) at_104_88 rfl rfl (by decide) (by decide) (fun h104_88 => ?_) (fun h => absurd h (by decide))
  refine qa_s (pc' := 97) at_104_96 rfl rfl rfl ?_
  refine qa_bi (nx := 99) (v := nI 7) at_104_97 (by decide) rfl ?_
  refine qn_icmp_eq (tg := 114) (nx := 102) at_104_99 rfl rfl (by decide) (by decide) (fun h => absurd h (by decide)) (fun h104_99 => ?_)
  refine qa_s (pc' := 103) at_104_102 rfl rfl rfl ?_
  refine qa_bi (nx := 105) (v := nI 9) at_104_103 (by decide) rfl ?_
  refine qn_icmp_eq (tg := 114) (nx := 108) at_104_105 rfl rfl (by decide) (by decide) (fun h => absurd h (by decide)) (fun h104_105 => ?_)
  refine qa_s (pc' := 109) at_104_108 rfl rfl rfl ?_
  refine qa_bi (nx := 111) (v := nI 12) at_104_109 (by decide) rfl ?_
  refine qn_icmp_ne (tg := 118) (nx := 114) at_104_111 rfl rfl (by decide) (by decide) (fun h104_111 => ?_) (fun h => absurd h (by decide))
  refine qa_s (pc' := 119) at_104_118 rfl rfl rfl ?_
  refine qa_bi (nx := 121) (v := nI 10) at_104_119 (by decide) rfl ?_
  refine qn_icmp_ne (tg := 128) (nx := 124) at_104_121 rfl rfl (by decide) (by decide) (fun h104_121 => ?_) (fun h => absurd h (by decide))
  refine qa_s (pc' := 129) at_104_128 rfl rfl rfl ?_
  refine qa_bi (nx := 131) (v := nI 11) at_104_129 (by decide) rfl ?_
  refine qn_icmp_eq (tg := 140) (nx := 134) at_104_131 rfl rfl (by decide) (by decide) (fun h104_131 => ?_) (fun h => absurd h (by decide))
  refine qa_ic (nx := 141) (v := nI 1) at_104_140 (by decide) rfl ?_
  refine qa_goto (nx := 145) at_104_141 rfl ?_
  refine qa_s (pc' := 147) at_104_145 rfl rfl rfl ?_
  refine qa_s (pc' := 149) at_104_147 rfl rfl rfl ?_
  refine qa_if_eq (tg := 171) (nx := 152) at_104_149 rfl rfl (fun h104_149 => ?_) (fun h104_149 => ?_)
  · refine qa_ic (nx := 172) (v := nI 0) at_104_171 (by decide) rfl ?_
    refine qa_ret at_104_172 rfl ?_
    exact k0 (fun h => by first | exact (bi_z h104_164 h.2).elim | exact (bi_z h104_149 h.1).elim)
  · refine qa_s (pc' := 153) at_104_152 rfl rfl rfl ?_
    refine qn_if_eq (tg := 167) (nx := 156) at_104_153 rfl rfl (by decide) (fun h => absurd h (by decide)) (fun h104_153 => ?_)
    refine qa_s (pc' := 157) at_104_156 rfl rfl rfl ?_
    refine qa_s (pc' := 159) at_104_157 rfl rfl rfl ?_
    refine qa_s (pc' := 161) at_104_159 rfl rfl rfl ?_
    refine qa_callS (nx := 164) at_104_161 rfl rfl (Nat.le_of_ble_eq_true rfl) rfl rfl (by decide) rfl ?_
    show qa _ 101 0 [(0, .int _), (1, .int _), (2, .int _)] [] _ _
    refine c101_q ?_
    show qa _ 104 164 _ [.int _] _ _
    refine qa_if_eq (tg := 171) (nx := 167) at_104_164 rfl rfl (fun h104_164 => ?_) (fun h104_164 => ?_)
    · refine qa_ic (nx := 172) (v := nI 0) at_104_171 (by decide) rfl ?_
      refine qa_ret at_104_172 rfl ?_
      exact k0 (fun h => by first | exact (bi_z h104_164 h.2).elim | exact (bi_z h104_149 h.1).elim)
    · refine qa_ic (nx := 168) (v := nI 1) at_104_167 (by decide) rfl ?_
      refine qa_goto (nx := 172) at_104_168 rfl ?_
      refine qa_ret at_104_172 rfl ?_
      exact k1 ⟨bi_n h104_149, bi_n h104_164⟩
theorem c104_q12 {x y : Int32} (k0 : ¬ okL 12 x y → Q (some (.int (nI 0))) σ) (k1 : okL 12 x y → Q (some (.int (nI 1))) σ) : qa (mj_cst ys) 104 0 [(0, .int (nI 12)), (1, .int x), (2, .int y)] [] σ Q := by
  refine qa_s (pc' := 1) at_104_0 rfl rfl rfl ?_
  refine qa_bi (nx := 3) (v := nI 6) at_104_1 (by decide) rfl ?_
  refine qn_icmp_lt (tg := 16) (nx := 6) at_104_3 rfl rfl (by decide) (by decide) (fun h => absurd h (by decide)) (fun h104_3 => ?_)
  refine qa_s (pc' := 7) at_104_6 rfl rfl rfl ?_
  refine qa_bi (nx := 9) (v := nI 10) at_104_7 (by decide) rfl ?_
  refine qn_icmp_gt (tg := 16) (nx := 12) at_104_9 rfl rfl (by decide) (by decide) (fun h104_9 => ?_) (fun h => absurd h (by decide))
  refine qa_ic (nx := 17) (v := nI 0) at_104_16 (by decide) rfl ?_
  refine qa_s (pc' := 18) at_104_17 rfl rfl rfl ?_
  refine qa_s (pc' := 19) at_104_18 rfl rfl rfl ?_
  refine qn_if_eq (tg := 34) (nx := 22) at_104_19 rfl rfl (by decide) (fun h104_19 => ?_) (fun h => absurd h (by decide))
  refine qa_s (pc' := 35) at_104_34 rfl rfl rfl ?_
  refine qa_ic (nx := 36) (v := nI 0) at_104_35 (by decide) rfl ?_
  refine qa_ic (nx := 37) (v := nI 3) at_104_36 (by decide) rfl ?_
  refine qa_callS (nx := 40) at_104_37 rfl rfl (Nat.le_of_ble_eq_true rfl) rfl rfl (by decide) rfl ?_
  show qa _ 101 0 [(0, .int _), (1, .int _), (2, .int _)] [] _ _
  refine c101_q ?_
  show qa _ 104 40 _ [.int _] _ _
  refine qa_s (pc' := 42) at_104_40 rfl rfl rfl ?_
  refine qa_s (pc' := 43) at_104_42 rfl rfl rfl ?_
  refine qa_ic (nx := 44) (v := nI 5) at_104_43 (by decide) rfl ?_
  refine qn_icmp_eq (tg := 53) (nx := 47) at_104_44 rfl rfl (by decide) (by decide) (fun h => absurd h (by decide)) (fun h104_44 => ?_)
  refine qa_s (pc' := 48) at_104_47 rfl rfl rfl ?_
  refine qa_bi (nx := 50) (v := nI 6) at_104_48 (by decide) rfl ?_
  refine qn_icmp_ne (tg := 57) (nx := 53) at_104_50 rfl rfl (by decide) (by decide) (fun h104_50 => ?_) (fun h => absurd h (by decide))
  refine qa_ic (nx := 58) (v := nI 0) at_104_57 (by decide) rfl ?_
  refine qa_s (pc' := 60) at_104_58 rfl rfl rfl ?_
  refine qa_s (pc' := 61) at_104_60 rfl rfl rfl ?_
  refine qa_ic (nx := 62) (v := nI 3) at_104_61 (by decide) rfl ?_
  refine qn_icmp_eq (tg := 70) (nx := 65) at_104_62 rfl rfl (by decide) (by decide) (fun h => absurd h (by decide)) (fun h104_62 => ?_)
  refine qa_s (pc' := 66) at_104_65 rfl rfl rfl ?_
  refine qa_ic (nx := 67) (v := nI 4) at_104_66 (by decide) rfl ?_
  refine qn_icmp_ne (tg := 75) (nx := 70) at_104_67 rfl rfl (by decide) (by decide) (fun h104_67 => ?_) (fun h => absurd h (by decide))
  refine qa_s (pc' := 76) at_104_75 rfl rfl rfl ?_
  refine qa_ic (nx := 77) (v := nI 5) at_104_76 (by decide) rfl ?_
  refine qn_icmp_ne (tg := 85) (nx := 80) at_104_77 rfl rfl (by decide) (by decide) (fun h104_77 => ?_) (fun h => absurd h (by decide))
  refine qa_s (pc' := 86) at_104_85 rfl rfl rfl ?_
  refine qa_bi (nx := 88) (v := nI 6) at_104_86 (by decide) rfl ?_
  refine qn_icmp_ne (tg := 96) (nx := 91) at_104_88 rfl rfl (by decide) (by decide) (fun h104_88 => ?_) (fun h => absurd h (by decide))
  refine qa_s (pc' := 97) at_104_96 rfl rfl rfl ?_
  refine qa_bi (nx := 99) (v := nI 7) at_104_97 (by decide) rfl ?_
  refine qn_icmp_eq (tg := 114) (nx := 102) at_104_99 rfl rfl (by decide) (by decide) (fun h => absurd h (by decide)) (fun h104_99 => ?_)
  refine qa_s (pc' := 103) at_104_102 rfl rfl rfl ?_
  refine qa_bi (nx := 105) (v := nI 9) at_104_103 (by decide) rfl ?_
  refine qn_icmp_eq (tg := 114) (nx := 108) at_104_105 rfl rfl (by decide) (by decide) (fun h => absurd h (by decide)) (fun h104_105 => ?_)
  refine qa_s (pc' := 109) at_104_108 rfl rfl rfl ?_
  refine qa_bi (nx := 111) (v := nI 12) at_104_109 (by decide) rfl ?_
  refine qn_icmp_ne (tg := 118) (nx := 114) at_104_111 rfl rfl (by decide) (by decide) (fun h => absurd h (by decide)) (fun h104_111 => ?_)
  refine qa_ic (nx := 115) (v := nI 0) at_104_114 (by decide) rfl ?_
  refine qa_goto (nx := 145) at_104_115 rfl ?_
  refine qa_s (pc' := 147) at_104_145 rfl rfl rfl ?_
  refine qa_s (pc' := 149) at_104_147 rfl rfl rfl ?_
  refine qa_if_eq (tg := 171) (nx := 152) at_104_149 rfl rfl (fun h104_149 => ?_) (fun h104_149 => ?_)
  · refine qa_ic (nx := 172) (v := nI 0) at_104_171 (by decide) rfl ?_
    refine qa_ret at_104_172 rfl ?_
    exact k0 (fun h => by first | exact (bi_z h104_164 h.2).elim | exact (bi_z h104_149 h.1).elim)
  · refine qa_s (pc' := 153) at_104_152 rfl rfl rfl ?_
    refine qn_if_eq (tg := 167) (nx := 156) at_104_153 rfl rfl (by decide) (fun h => absurd h (by decide)) (fun h104_153 => ?_)
    refine qa_s (pc' := 157) at_104_156 rfl rfl rfl ?_
    refine qa_s (pc' := 159) at_104_157 rfl rfl rfl ?_
    refine qa_s (pc' := 161) at_104_159 rfl rfl rfl ?_
    refine qa_callS (nx := 164) at_104_161 rfl rfl (Nat.le_of_ble_eq_true rfl) rfl rfl (by decide) rfl ?_
    show qa _ 101 0 [(0, .int _), (1, .int _), (2, .int _)] [] _ _
    refine c101_q ?_
    show qa _ 104 164 _ [.int _] _ _
    refine qa_if_eq (tg := 171) (nx := 167) at_104_164 rfl rfl (fun h104_164 => ?_) (fun h104_164 => ?_)
    · refine qa_ic (nx := 172) (v := nI 0) at_104_171 (by decide) rfl ?_
      refine qa_ret at_104_172 rfl ?_
      exact k0 (fun h => by first | exact (bi_z h104_164 h.2).elim | exact (bi_z h104_149 h.1).elim)
    · refine qa_ic (nx := 168) (v := nI 1) at_104_167 (by decide) rfl ?_
      refine qa_goto (nx := 172) at_104_168 rfl ?_
      refine qa_ret at_104_172 rfl ?_
      exact k1 ⟨bi_n h104_149, bi_n h104_164⟩
theorem c104_q13 {x y : Int32} (k0 : ¬ okL 13 x y → Q (some (.int (nI 0))) σ) (k1 : okL 13 x y → Q (some (.int (nI 1))) σ) : qa (mj_cst ys) 104 0 [(0, .int (nI 13)), (1, .int x), (2, .int y)] [] σ Q := by
  refine qa_s (pc' := 1) at_104_0 rfl rfl rfl ?_
  refine qa_bi (nx := 3) (v := nI 6) at_104_1 (by decide) rfl ?_
  refine qn_icmp_lt (tg := 16) (nx := 6) at_104_3 rfl rfl (by decide) (by decide) (fun h => absurd h (by decide)) (fun h104_3 => ?_)
  refine qa_s (pc' := 7) at_104_6 rfl rfl rfl ?_
  refine qa_bi (nx := 9) (v := nI 10) at_104_7 (by decide) rfl ?_
  refine qn_icmp_gt (tg := 16) (nx := 12) at_104_9 rfl rfl (by decide) (by decide) (fun h104_9 => ?_) (fun h => absurd h (by decide))
  refine qa_ic (nx := 17) (v := nI 0) at_104_16 (by decide) rfl ?_
  refine qa_s (pc' := 18) at_104_17 rfl rfl rfl ?_
  refine qa_s (pc' := 19) at_104_18 rfl rfl rfl ?_
  refine qn_if_eq (tg := 34) (nx := 22) at_104_19 rfl rfl (by decide) (fun h104_19 => ?_) (fun h => absurd h (by decide))
  refine qa_s (pc' := 35) at_104_34 rfl rfl rfl ?_
  refine qa_ic (nx := 36) (v := nI 0) at_104_35 (by decide) rfl ?_
  refine qa_ic (nx := 37) (v := nI 3) at_104_36 (by decide) rfl ?_
  refine qa_callS (nx := 40) at_104_37 rfl rfl (Nat.le_of_ble_eq_true rfl) rfl rfl (by decide) rfl ?_
  show qa _ 101 0 [(0, .int _), (1, .int _), (2, .int _)] [] _ _
  refine c101_q ?_
  show qa _ 104 40 _ [.int _] _ _
  refine qa_s (pc' := 42) at_104_40 rfl rfl rfl ?_
  refine qa_s (pc' := 43) at_104_42 rfl rfl rfl ?_
  refine qa_ic (nx := 44) (v := nI 5) at_104_43 (by decide) rfl ?_
  refine qn_icmp_eq (tg := 53) (nx := 47) at_104_44 rfl rfl (by decide) (by decide) (fun h => absurd h (by decide)) (fun h104_44 => ?_)
  refine qa_s (pc' := 48) at_104_47 rfl rfl rfl ?_
  refine qa_bi (nx := 50) (v := nI 6) at_104_48 (by decide) rfl ?_
  refine qn_icmp_ne (tg := 57) (nx := 53) at_104_50 rfl rfl (by decide) (by decide) (fun h104_50 => ?_) (fun h => absurd h (by decide))
  refine qa_ic (nx := 58) (v := nI 0) at_104_57 (by decide) rfl ?_
  refine qa_s (pc' := 60) at_104_58 rfl rfl rfl ?_
  refine qa_s (pc' := 61) at_104_60 rfl rfl rfl ?_
  refine qa_ic (nx := 62) (v := nI 3) at_104_61 (by decide) rfl ?_
  refine qn_icmp_eq (tg := 70) (nx := 65) at_104_62 rfl rfl (by decide) (by decide) (fun h => absurd h (by decide)) (fun h104_62 => ?_)
  refine qa_s (pc' := 66) at_104_65 rfl rfl rfl ?_
  refine qa_ic (nx := 67) (v := nI 4) at_104_66 (by decide) rfl ?_
  refine qn_icmp_ne (tg := 75) (nx := 70) at_104_67 rfl rfl (by decide) (by decide) (fun h104_67 => ?_) (fun h => absurd h (by decide))
  refine qa_s (pc' := 76) at_104_75 rfl rfl rfl ?_
  refine qa_ic (nx := 77) (v := nI 5) at_104_76 (by decide) rfl ?_
  refine qn_icmp_ne (tg := 85) (nx := 80) at_104_77 rfl rfl (by decide) (by decide) (fun h104_77 => ?_) (fun h => absurd h (by decide))
  refine qa_s (pc' := 86) at_104_85 rfl rfl rfl ?_
  refine qa_bi (nx := 88) (v := nI 6) at_104_86 (by decide) rfl ?_
  refine qn_icmp_ne (tg := 96) (nx := 91) at_104_88 rfl rfl (by decide) (by decide) (fun h104_88 => ?_) (fun h => absurd h (by decide))
  refine qa_s (pc' := 97) at_104_96 rfl rfl rfl ?_
  refine qa_bi (nx := 99) (v := nI 7) at_104_97 (by decide) rfl ?_
  refine qn_icmp_eq (tg := 114) (nx := 102) at_104_99 rfl rfl (by decide) (by decide) (fun h => absurd h (by decide)) (fun h104_99 => ?_)
  refine qa_s (pc' := 103) at_104_102 rfl rfl rfl ?_
  refine qa_bi (nx := 105) (v := nI 9) at_104_103 (by decide) rfl ?_
  refine qn_icmp_eq (tg := 114) (nx := 108) at_104_105 rfl rfl (by decide) (by decide) (fun h => absurd h (by decide)) (fun h104_105 => ?_)
  refine qa_s (pc' := 109) at_104_108 rfl rfl rfl ?_
  refine qa_bi (nx := 111) (v := nI 12) at_104_109 (by decide) rfl ?_
  refine qn_icmp_ne (tg := 118) (nx := 114) at_104_111 rfl rfl (by decide) (by decide) (fun h104_111 => ?_) (fun h => absurd h (by decide))
  refine qa_s (pc' := 119) at_104_118 rfl rfl rfl ?_
  refine qa_bi (nx := 121) (v := nI 10) at_104_119 (by decide) rfl ?_
  refine qn_icmp_ne (tg := 128) (nx := 124) at_104_121 rfl rfl (by decide) (by decide) (fun h104_121 => ?_) (fun h => absurd h (by decide))
  refine qa_s (pc' := 129) at_104_128 rfl rfl rfl ?_
  refine qa_bi (nx := 131) (v := nI 11) at_104_129 (by decide) rfl ?_
  refine qn_icmp_eq (tg := 140) (nx := 134) at_104_131 rfl rfl (by decide) (by decide) (fun h => absurd h (by decide)) (fun h104_131 => ?_)
  refine qa_s (pc' := 135) at_104_134 rfl rfl rfl ?_
  refine qa_bi (nx := 137) (v := nI 13) at_104_135 (by decide) rfl ?_
  refine qn_icmp_lt (tg := 144) (nx := 140) at_104_137 rfl rfl (by decide) (by decide) (fun h => absurd h (by decide)) (fun h104_137 => ?_)
  refine qa_ic (nx := 141) (v := nI 1) at_104_140 (by decide) rfl ?_
  refine qa_goto (nx := 145) at_104_141 rfl ?_
  refine qa_s (pc' := 147) at_104_145 rfl rfl rfl ?_
  refine qa_s (pc' := 149) at_104_147 rfl rfl rfl ?_
  refine qa_if_eq (tg := 171) (nx := 152) at_104_149 rfl rfl (fun h104_149 => ?_) (fun h104_149 => ?_)
  · refine qa_ic (nx := 172) (v := nI 0) at_104_171 (by decide) rfl ?_
    refine qa_ret at_104_172 rfl ?_
    exact k0 (fun h => by first | exact (bi_z h104_164 h.2).elim | exact (bi_z h104_149 h.1).elim)
  · refine qa_s (pc' := 153) at_104_152 rfl rfl rfl ?_
    refine qn_if_eq (tg := 167) (nx := 156) at_104_153 rfl rfl (by decide) (fun h => absurd h (by decide)) (fun h104_153 => ?_)
    refine qa_s (pc' := 157) at_104_156 rfl rfl rfl ?_
    refine qa_s (pc' := 159) at_104_157 rfl rfl rfl ?_
    refine qa_s (pc' := 161) at_104_159 rfl rfl rfl ?_
    refine qa_callS (nx := 164) at_104_161 rfl rfl (Nat.le_of_ble_eq_true rfl) rfl rfl (by decide) rfl ?_
    show qa _ 101 0 [(0, .int _), (1, .int _), (2, .int _)] [] _ _
    refine c101_q ?_
    show qa _ 104 164 _ [.int _] _ _
    refine qa_if_eq (tg := 171) (nx := 167) at_104_164 rfl rfl (fun h104_164 => ?_) (fun h104_164 => ?_)
    · refine qa_ic (nx := 172) (v := nI 0) at_104_171 (by decide) rfl ?_
      refine qa_ret at_104_172 rfl ?_
      exact k0 (fun h => by first | exact (bi_z h104_164 h.2).elim | exact (bi_z h104_149 h.1).elim)
    · refine qa_ic (nx := 168) (v := nI 1) at_104_167 (by decide) rfl ?_
      refine qa_goto (nx := 172) at_104_168 rfl ?_
      refine qa_ret at_104_172 rfl ?_
      exact k1 ⟨bi_n h104_149, bi_n h104_164⟩
theorem c104_q14 {x y : Int32} (k0 : ¬ okL 14 x y → Q (some (.int (nI 0))) σ) (k1 : okL 14 x y → Q (some (.int (nI 1))) σ) : qa (mj_cst ys) 104 0 [(0, .int (nI 14)), (1, .int x), (2, .int y)] [] σ Q := by
  refine qa_s (pc' := 1) at_104_0 rfl rfl rfl ?_
  refine qa_bi (nx := 3) (v := nI 6) at_104_1 (by decide) rfl ?_
  refine qn_icmp_lt (tg := 16) (nx := 6) at_104_3 rfl rfl (by decide) (by decide) (fun h => absurd h (by decide)) (fun h104_3 => ?_)
  refine qa_s (pc' := 7) at_104_6 rfl rfl rfl ?_
  refine qa_bi (nx := 9) (v := nI 10) at_104_7 (by decide) rfl ?_
  refine qn_icmp_gt (tg := 16) (nx := 12) at_104_9 rfl rfl (by decide) (by decide) (fun h104_9 => ?_) (fun h => absurd h (by decide))
  refine qa_ic (nx := 17) (v := nI 0) at_104_16 (by decide) rfl ?_
  refine qa_s (pc' := 18) at_104_17 rfl rfl rfl ?_
  refine qa_s (pc' := 19) at_104_18 rfl rfl rfl ?_
  refine qn_if_eq (tg := 34) (nx := 22) at_104_19 rfl rfl (by decide) (fun h104_19 => ?_) (fun h => absurd h (by decide))
  refine qa_s (pc' := 35) at_104_34 rfl rfl rfl ?_
  refine qa_ic (nx := 36) (v := nI 0) at_104_35 (by decide) rfl ?_
  refine qa_ic (nx := 37) (v := nI 3) at_104_36 (by decide) rfl ?_
  refine qa_callS (nx := 40) at_104_37 rfl rfl (Nat.le_of_ble_eq_true rfl) rfl rfl (by decide) rfl ?_
  show qa _ 101 0 [(0, .int _), (1, .int _), (2, .int _)] [] _ _
  refine c101_q ?_
  show qa _ 104 40 _ [.int _] _ _
  refine qa_s (pc' := 42) at_104_40 rfl rfl rfl ?_
  refine qa_s (pc' := 43) at_104_42 rfl rfl rfl ?_
  refine qa_ic (nx := 44) (v := nI 5) at_104_43 (by decide) rfl ?_
  refine qn_icmp_eq (tg := 53) (nx := 47) at_104_44 rfl rfl (by decide) (by decide) (fun h => absurd h (by decide)) (fun h104_44 => ?_)
  refine qa_s (pc' := 48) at_104_47 rfl rfl rfl ?_
  refine qa_bi (nx := 50) (v := nI 6) at_104_48 (by decide) rfl ?_
  refine qn_icmp_ne (tg := 57) (nx := 53) at_104_50 rfl rfl (by decide) (by decide) (fun h104_50 => ?_) (fun h => absurd h (by decide))
  refine qa_ic (nx := 58) (v := nI 0) at_104_57 (by decide) rfl ?_
  refine qa_s (pc' := 60) at_104_58 rfl rfl rfl ?_
  refine qa_s (pc' := 61) at_104_60 rfl rfl rfl ?_
  refine qa_ic (nx := 62) (v := nI 3) at_104_61 (by decide) rfl ?_
  refine qn_icmp_eq (tg := 70) (nx := 65) at_104_62 rfl rfl (by decide) (by decide) (fun h => absurd h (by decide)) (fun h104_62 => ?_)
  refine qa_s (pc' := 66) at_104_65 rfl rfl rfl ?_
  refine qa_ic (nx := 67) (v := nI 4) at_104_66 (by decide) rfl ?_
  refine qn_icmp_ne (tg := 75) (nx := 70) at_104_67 rfl rfl (by decide) (by decide) (fun h104_67 => ?_) (fun h => absurd h (by decide))
  refine qa_s (pc' := 76) at_104_75 rfl rfl rfl ?_
  refine qa_ic (nx := 77) (v := nI 5) at_104_76 (by decide) rfl ?_
  refine qn_icmp_ne (tg := 85) (nx := 80) at_104_77 rfl rfl (by decide) (by decide) (fun h104_77 => ?_) (fun h => absurd h (by decide))
  refine qa_s (pc' := 86) at_104_85 rfl rfl rfl ?_
  refine qa_bi (nx := 88) (v := nI 6) at_104_86 (by decide) rfl ?_
  refine qn_icmp_ne (tg := 96) (nx := 91) at_104_88 rfl rfl (by decide) (by decide) (fun h104_88 => ?_) (fun h => absurd h (by decide))
  refine qa_s (pc' := 97) at_104_96 rfl rfl rfl ?_
  refine qa_bi (nx := 99) (v := nI 7) at_104_97 (by decide) rfl ?_
  refine qn_icmp_eq (tg := 114) (nx := 102) at_104_99 rfl rfl (by decide) (by decide) (fun h => absurd h (by decide)) (fun h104_99 => ?_)
  refine qa_s (pc' := 103) at_104_102 rfl rfl rfl ?_
  refine qa_bi (nx := 105) (v := nI 9) at_104_103 (by decide) rfl ?_
  refine qn_icmp_eq (tg := 114) (nx := 108) at_104_105 rfl rfl (by decide) (by decide) (fun h => absurd h (by decide)) (fun h104_105 => ?_)
  refine qa_s (pc' := 109) at_104_108 rfl rfl rfl ?_
  refine qa_bi (nx := 111) (v := nI 12) at_104_109 (by decide) rfl ?_
  refine qn_icmp_ne (tg := 118) (nx := 114) at_104_111 rfl rfl (by decide) (by decide) (fun h104_111 => ?_) (fun h => absurd h (by decide))
  refine qa_s (pc' := 119) at_104_118 rfl rfl rfl ?_
  refine qa_bi (nx := 121) (v := nI 10) at_104_119 (by decide) rfl ?_
  refine qn_icmp_ne (tg := 128) (nx := 124) at_104_121 rfl rfl (by decide) (by decide) (fun h104_121 => ?_) (fun h => absurd h (by decide))
  refine qa_s (pc' := 129) at_104_128 rfl rfl rfl ?_
  refine qa_bi (nx := 131) (v := nI 11) at_104_129 (by decide) rfl ?_
  refine qn_icmp_eq (tg := 140) (nx := 134) at_104_131 rfl rfl (by decide) (by decide) (fun h => absurd h (by decide)) (fun h104_131 => ?_)
  refine qa_s (pc' := 135) at_104_134 rfl rfl rfl ?_
  refine qa_bi (nx := 137) (v := nI 13) at_104_135 (by decide) rfl ?_
  refine qn_icmp_lt (tg := 144) (nx := 140) at_104_137 rfl rfl (by decide) (by decide) (fun h => absurd h (by decide)) (fun h104_137 => ?_)
  refine qa_ic (nx := 141) (v := nI 1) at_104_140 (by decide) rfl ?_
  refine qa_goto (nx := 145) at_104_141 rfl ?_
  refine qa_s (pc' := 147) at_104_145 rfl rfl rfl ?_
  refine qa_s (pc' := 149) at_104_147 rfl rfl rfl ?_
  refine qa_if_eq (tg := 171) (nx := 152) at_104_149 rfl rfl (fun h104_149 => ?_) (fun h104_149 => ?_)
  · refine qa_ic (nx := 172) (v := nI 0) at_104_171 (by decide) rfl ?_
    refine qa_ret at_104_172 rfl ?_
    exact k0 (fun h => by first | exact (bi_z h104_164 h.2).elim | exact (bi_z h104_149 h.1).elim)
  · refine qa_s (pc' := 153) at_104_152 rfl rfl rfl ?_
    refine qn_if_eq (tg := 167) (nx := 156) at_104_153 rfl rfl (by decide) (fun h => absurd h (by decide)) (fun h104_153 => ?_)
    refine qa_s (pc' := 157) at_104_156 rfl rfl rfl ?_
    refine qa_s (pc' := 159) at_104_157 rfl rfl rfl ?_
    refine qa_s (pc' := 161) at_104_159 rfl rfl rfl ?_
    refine qa_callS (nx := 164) at_104_161 rfl rfl (Nat.le_of_ble_eq_true rfl) rfl rfl (by decide) rfl ?_
    show qa _ 101 0 [(0, .int _), (1, .int _), (2, .int _)] [] _ _
    refine c101_q ?_
    show qa _ 104 164 _ [.int _] _ _
    refine qa_if_eq (tg := 171) (nx := 167) at_104_164 rfl rfl (fun h104_164 => ?_) (fun h104_164 => ?_)
    · refine qa_ic (nx := 172) (v := nI 0) at_104_171 (by decide) rfl ?_
      refine qa_ret at_104_172 rfl ?_
      exact k0 (fun h => by first | exact (bi_z h104_164 h.2).elim | exact (bi_z h104_149 h.1).elim)
    · refine qa_ic (nx := 168) (v := nI 1) at_104_167 (by decide) rfl ?_
      refine qa_goto (nx := 172) at_104_168 rfl ?_
      refine qa_ret at_104_172 rfl ?_
      exact k1 ⟨bi_n h104_149, bi_n h104_164⟩
theorem c104_q {q : Nat} {x y : Int32} (hq : q < 15) (k0 : ¬ okL q x y → Q (some (.int (nI 0))) σ) (k1 : okL q x y → Q (some (.int (nI 1))) σ) : qa (mj_cst ys) 104 0 [(0, .int (nI q)), (1, .int x), (2, .int y)] [] σ Q := by
  have hc : q = 0 ∨ q = 1 ∨ q = 2 ∨ q = 3 ∨ q = 4 ∨ q = 5 ∨ q = 6 ∨ q = 7 ∨ q = 8 ∨ q = 9 ∨ q = 10 ∨ q = 11 ∨ q = 12 ∨ q = 13 ∨ q = 14 := by omega
  rcases hc with rfl | rfl | rfl | rfl | rfl | rfl | rfl | rfl | rfl | rfl | rfl | rfl | rfl | rfl | rfl
  · exact c104_q0 k0 k1
  · exact c104_q1 k0 k1
  · exact c104_q2 k0 k1
  · exact c104_q3 k0 k1
  · exact c104_q4 k0 k1
  · exact c104_q5 k0 k1
  · exact c104_q6 k0 k1
  · exact c104_q7 k0 k1
  · exact c104_q8 k0 k1
  · exact c104_q9 k0 k1
  · exact c104_q10 k0 k1
  · exact c104_q11 k0 k1
  · exact c104_q12 k0 k1
  · exact c104_q13 k0 k1
  · exact c104_q14 k0 k1
end PQ
