/-! the fourth call: an instruction is checked, the reference -/
section PQ
variable {cst : List (List Int32)} {σ b : sg} {Q : Option Value → sg → Prop} {T k i r d : Nat} {s : Nat → Nat} {L : Nat → Nat} {P Y : Nat → Nat → Nat} {mk : Nat → Nat}
theorem me7_q (hi : i < 5) (hr : r < 3) (hk : k < L (3 * i + r)) (hI : ImM L P Y σ) (hO : opM_ (3 * i + r) d s σ) (hS : StOk (P (3 * i + r)) (Y (3 * i + r)) s d k) (ho : P (3 * i + r) k = 7) (K0 : (0 < d ∧ P (3 * i + r) (s (d - 1)) = 6) → Q (some (.int (nI 0))) σ) (K1 : ¬ (0 < d ∧ P (3 * i + r) (s (d - 1)) = 6) → Q (some (.int (nI 2))) σ) : qa cst 108 0 [(0, .ref (cl 40 0)), (1, .int (nI i)), (2, .int (nI r)), (3, .int (nI k))] [] σ Q := by
  obtain ⟨hL, e48, h2⟩ := hI (3 * i + r) (by omega)
  obtain ⟨hP, e44, h46⟩ := h2 k (by omega)
  obtain ⟨o12, o14, o5⟩ := id hO
  obtain ⟨hd, hl2, hs⟩ := id hS
  have hk12 : k < 12 := by omega
  have hlk := lks_w hS
  rw [ho] at e44
  refine qa_ic (nx := 1) (v := nI 3) at_108_0 (by decide) rfl ?_
  refine qa_s (pc' := 2) at_108_1 rfl rfl rfl ?_
  refine qa_mulN (nx := 3) at_108_2 rfl ?_
  refine qa_s (pc' := 4) at_108_3 rfl rfl rfl ?_
  refine qa_addN (nx := 5) at_108_4 rfl ?_
  refine qa_bi (nx := 7) (v := nI 12) at_108_5 (by decide) rfl ?_
  refine qa_mulN (nx := 8) at_108_7 rfl ?_
  refine qa_s (pc' := 9) at_108_8 rfl rfl rfl ?_
  refine qa_addN (nx := 10) at_108_9 rfl ?_
  refine qa_s (pc' := 12) at_108_10 rfl rfl rfl ?_
  refine qa_s (pc' := 13) at_108_12 rfl rfl rfl ?_
  refine qa_getR (nx := 16) at_108_13 rfl (by decide) rfl rfl (by decide) ?_
  refine qa_s (pc' := 18) at_108_16 rfl rfl rfl ?_
  refine qa_ialdV (nx := 19) (k := (((3 * i) + r) * 12) + k) (v := nI 7) at_108_18 rfl rfl rfl (by decide) rfl (show (((3 * i) + r) * 12) + k < 180 by omega) (show _ from e44) ?_
  refine qa_s (pc' := 21) at_108_19 rfl rfl rfl ?_
  refine qa_s (pc' := 22) at_108_21 rfl rfl rfl ?_
  refine qa_getR (nx := 25) at_108_22 rfl (by decide) rfl rfl (by decide) ?_
  refine qa_s (pc' := 27) at_108_25 rfl rfl rfl ?_
  refine qa_iald (nx := 28) (k := (((3 * i) + r) * 12) + k) at_108_27 rfl rfl rfl (by decide) rfl (show (((3 * i) + r) * 12) + k < 180 by omega) ?_
  refine qa_s (pc' := 30) at_108_28 rfl rfl rfl ?_
  refine qa_s (pc' := 31) at_108_30 rfl rfl rfl ?_
  refine qa_getV (nx := 34) (v := nI d) at_108_31 rfl (by decide) rfl rfl (by decide) (show _ from o14) ?_
  refine qn_if_le (tg := 56) (nx := 37) at_108_34 rfl rfl (by omega) (fun h108_34 => ?_) (fun h108_34 => ?_)
  · refine qa_ic (nx := 57) (v := (-1)) at_108_56 (by decide) rfl ?_
    refine qa_s (pc' := 59) at_108_57 rfl rfl rfl ?_
    refine qa_s (pc' := 61) at_108_59 rfl rfl rfl ?_
    refine qa_bi (nx := 63) (v := nI 7) at_108_61 (by decide) rfl ?_
    refine qn_icmp_ne (tg := 73) (nx := 66) at_108_63 rfl rfl (by decide) (by decide) (fun h => absurd h (by decide)) (fun h108_63 => ?_)
    refine qa_s (pc' := 68) at_108_66 rfl rfl rfl ?_
    refine qa_bi (nx := 70) (v := nI 6) at_108_68 (by decide) rfl ?_
    refine qa_icmp_ne (tg := 87) (nx := 73) at_108_70 rfl rfl (fun h108_70 => ?_) (fun h108_70 => ?_)
    · refine qa_ic (nx := 88) (v := nI 2) at_108_87 (by decide) rfl ?_
      refine qa_ret at_108_88 rfl ?_
      exact K1 (fun g => by first | omega | exact absurd g.2 (by assumption))
    · refine qa_s (pc' := 75) at_108_73 rfl rfl rfl ?_
      refine qa_bi (nx := 77) (v := nI 9) at_108_75 (by decide) rfl ?_
      refine qn_icmp_ne (tg := 89) (nx := 80) at_108_77 rfl rfl (by decide) (by decide) (fun h108_77 => ?_) (fun h => absurd h (by decide))
      refine qa_s (pc' := 91) at_108_89 rfl rfl rfl ?_
      refine qa_bi (nx := 93) (v := nI 6) at_108_91 (by decide) rfl ?_
      refine qn_icmp_ne (tg := 106) (nx := 96) at_108_93 rfl rfl (by decide) (by decide) (fun h108_93 => ?_) (fun h => absurd h (by decide))
      refine qa_s (pc' := 108) at_108_106 rfl rfl rfl ?_
      refine qa_bi (nx := 110) (v := nI 10) at_108_108 (by decide) rfl ?_
      refine qn_icmp_ne (tg := 135) (nx := 113) at_108_110 rfl rfl (by decide) (by decide) (fun h108_110 => ?_) (fun h => absurd h (by decide))
      refine qa_s (pc' := 137) at_108_135 rfl rfl rfl ?_
      refine qa_bi (nx := 139) (v := nI 8) at_108_137 (by decide) rfl ?_
      refine qn_icmp_ne (tg := 149) (nx := 142) at_108_139 rfl rfl (by decide) (by decide) (fun h108_139 => ?_) (fun h => absurd h (by decide))
      refine qa_s (pc' := 151) at_108_149 rfl rfl rfl ?_
      refine qa_bi (nx := 153) (v := nI 10) at_108_151 (by decide) rfl ?_
      refine qn_icmp_ne (tg := 166) (nx := 156) at_108_153 rfl rfl (by decide) (by decide) (fun h108_153 => ?_) (fun h => absurd h (by decide))
      refine qa_ic (nx := 167) (v := nI 0) at_108_166 (by decide) rfl ?_
      refine qa_s (pc' := 169) at_108_167 rfl rfl rfl ?_
      refine qa_s (pc' := 171) at_108_169 rfl rfl rfl ?_
      refine qa_s (pc' := 172) at_108_171 rfl rfl rfl ?_
      refine qa_callV (nx := 175) at_108_172 rfl rfl (Nat.le_of_ble_eq_true rfl) rfl rfl rfl (by decide) rfl (by decide) ?_
      show qa _ 111 0 [(0, .ref _)] [] _ _
      refine c111_q (n := 3 * i + r) (by omega) hI hO ?_
      show qa _ 108 175 _ [.int _, .int _] _ _
      refine qa_s (pc' := 176) at_108_175 rfl rfl rfl ?_
      refine qa_if_eq (tg := 181) (nx := 179) at_108_176 rfl rfl (fun h108_176 => ?_) (fun h108_176 => ?_)
      · refine qa_s (pc' := 183) at_108_181 rfl rfl rfl ?_
        refine qa_ic (nx := 184) (v := nI 5) at_108_183 (by decide) rfl ?_
        refine qn_icmp_ne (tg := 212) (nx := 187) at_108_184 rfl rfl (by decide) (by decide) (fun h108_184 => ?_) (fun h => absurd h (by decide))
        refine qa_ic (nx := 213) (v := nI 0) at_108_212 (by decide) rfl ?_
        refine qa_ret at_108_213 rfl ?_
        exact K0 ⟨by first | omega | (exfalso; first | exact absurd h108_70 (by decide) | exact absurd h108_84 (by decide)), by first | assumption | (exfalso; first | exact absurd h108_70 (by decide) | exact absurd h108_84 (by decide))⟩
      · exact absurd h108_176 (fun g => g (by rw [show nI 0 = 0 from rfl, Int32.zero_and]))
  · have t12 := (o5 (d - 1) (by omega)).1
    have tt := (h2 (s (d - 1)) (o5 (d - 1) (by omega)).1)
    refine qa_s (pc' := 38) at_108_37 rfl rfl rfl ?_
    refine qa_getR (nx := 41) at_108_38 rfl (by decide) rfl rfl (by decide) ?_
    refine qa_s (pc' := 42) at_108_41 rfl rfl rfl ?_
    refine qa_getR (nx := 45) at_108_42 rfl (by decide) rfl rfl (by decide) ?_
    refine qa_s (pc' := 46) at_108_45 rfl rfl rfl ?_
    refine qa_getV (nx := 49) (v := nI d) at_108_46 rfl (by decide) rfl rfl (by decide) (show _ from o14) ?_
    refine qa_ic (nx := 50) (v := nI 1) at_108_49 (by decide) rfl ?_
    refine qa_subN (nx := 51) at_108_50 rfl (by omega) ?_
    refine qa_ialdV (nx := 52) (k := d - 1) (v := nI ((3 * i + r) * 12 + s (d - 1))) at_108_51 rfl rfl rfl (by decide) rfl (show d - 1 < 12 by omega) (show _ from (o5 (d - 1) (by omega)).2) ?_
    refine qa_ialdV (nx := 53) (k := (3 * i + r) * 12 + s (d - 1)) (v := nI (P (3 * i + r) (s (d - 1)))) at_108_52 rfl rfl rfl (by decide) rfl (show (3 * i + r) * 12 + s (d - 1) < 180 by omega) (show _ from tt.2.1) ?_
    refine qa_goto (nx := 57) at_108_53 rfl ?_
    refine qa_s (pc' := 59) at_108_57 rfl rfl rfl ?_
    refine qa_s (pc' := 61) at_108_59 rfl rfl rfl ?_
    refine qa_bi (nx := 63) (v := nI 7) at_108_61 (by decide) rfl ?_
    refine qn_icmp_ne (tg := 73) (nx := 66) at_108_63 rfl rfl (by decide) (by decide) (fun h => absurd h (by decide)) (fun h108_63 => ?_)
    refine qa_s (pc' := 68) at_108_66 rfl rfl rfl ?_
    refine qa_bi (nx := 70) (v := nI 6) at_108_68 (by decide) rfl ?_
    refine qn_icmp_ne (tg := 87) (nx := 73) at_108_70 rfl rfl (by omega) (by omega) (fun h108_70 => ?_) (fun h108_70 => ?_)
    · refine qa_ic (nx := 88) (v := nI 2) at_108_87 (by decide) rfl ?_
      refine qa_ret at_108_88 rfl ?_
      exact K1 (fun g => by first | omega | exact absurd g.2 (by assumption))
    · refine qa_s (pc' := 75) at_108_73 rfl rfl rfl ?_
      refine qa_bi (nx := 77) (v := nI 9) at_108_75 (by decide) rfl ?_
      refine qn_icmp_ne (tg := 89) (nx := 80) at_108_77 rfl rfl (by decide) (by decide) (fun h108_77 => ?_) (fun h => absurd h (by decide))
      refine qa_s (pc' := 91) at_108_89 rfl rfl rfl ?_
      refine qa_bi (nx := 93) (v := nI 6) at_108_91 (by decide) rfl ?_
      refine qn_icmp_ne (tg := 106) (nx := 96) at_108_93 rfl rfl (by decide) (by decide) (fun h108_93 => ?_) (fun h => absurd h (by decide))
      refine qa_s (pc' := 108) at_108_106 rfl rfl rfl ?_
      refine qa_bi (nx := 110) (v := nI 10) at_108_108 (by decide) rfl ?_
      refine qn_icmp_ne (tg := 135) (nx := 113) at_108_110 rfl rfl (by decide) (by decide) (fun h108_110 => ?_) (fun h => absurd h (by decide))
      refine qa_s (pc' := 137) at_108_135 rfl rfl rfl ?_
      refine qa_bi (nx := 139) (v := nI 8) at_108_137 (by decide) rfl ?_
      refine qn_icmp_ne (tg := 149) (nx := 142) at_108_139 rfl rfl (by decide) (by decide) (fun h108_139 => ?_) (fun h => absurd h (by decide))
      refine qa_s (pc' := 151) at_108_149 rfl rfl rfl ?_
      refine qa_bi (nx := 153) (v := nI 10) at_108_151 (by decide) rfl ?_
      refine qn_icmp_ne (tg := 166) (nx := 156) at_108_153 rfl rfl (by decide) (by decide) (fun h108_153 => ?_) (fun h => absurd h (by decide))
      refine qa_ic (nx := 167) (v := nI 0) at_108_166 (by decide) rfl ?_
      refine qa_s (pc' := 169) at_108_167 rfl rfl rfl ?_
      refine qa_s (pc' := 171) at_108_169 rfl rfl rfl ?_
      refine qa_s (pc' := 172) at_108_171 rfl rfl rfl ?_
      refine qa_callV (nx := 175) at_108_172 rfl rfl (Nat.le_of_ble_eq_true rfl) rfl rfl rfl (by decide) rfl (by decide) ?_
      show qa _ 111 0 [(0, .ref _)] [] _ _
      refine c111_q (n := 3 * i + r) (by omega) hI hO ?_
      show qa _ 108 175 _ [.int _, .int _] _ _
      refine qa_s (pc' := 176) at_108_175 rfl rfl rfl ?_
      refine qa_if_eq (tg := 181) (nx := 179) at_108_176 rfl rfl (fun h108_176 => ?_) (fun h108_176 => ?_)
      · refine qa_s (pc' := 183) at_108_181 rfl rfl rfl ?_
        refine qa_ic (nx := 184) (v := nI 5) at_108_183 (by decide) rfl ?_
        refine qn_icmp_ne (tg := 212) (nx := 187) at_108_184 rfl rfl (by decide) (by decide) (fun h108_184 => ?_) (fun h => absurd h (by decide))
        refine qa_ic (nx := 213) (v := nI 0) at_108_212 (by decide) rfl ?_
        refine qa_ret at_108_213 rfl ?_
        exact K0 ⟨by first | omega | (exfalso; first | exact absurd h108_70 (by decide) | exact absurd h108_84 (by decide)), by first | assumption | (exfalso; first | exact absurd h108_70 (by decide) | exact absurd h108_84 (by decide))⟩
      · exact absurd h108_176 (fun g => g (by rw [show nI 0 = 0 from rfl, Int32.zero_and]))
theorem me9_q (hi : i < 5) (hr : r < 3) (hk : k < L (3 * i + r)) (hI : ImM L P Y σ) (hO : opM_ (3 * i + r) d s σ) (hS : StOk (P (3 * i + r)) (Y (3 * i + r)) s d k) (ho : P (3 * i + r) k = 9) (K0 : (0 < d ∧ P (3 * i + r) (s (d - 1)) = 8) → Q (some (.int (nI 0))) σ) (K1 : ¬ (0 < d ∧ P (3 * i + r) (s (d - 1)) = 8) → Q (some (.int (nI 2))) σ) : qa cst 108 0 [(0, .ref (cl 40 0)), (1, .int (nI i)), (2, .int (nI r)), (3, .int (nI k))] [] σ Q := by
  obtain ⟨hL, e48, h2⟩ := hI (3 * i + r) (by omega)
  obtain ⟨hP, e44, h46⟩ := h2 k (by omega)
  obtain ⟨o12, o14, o5⟩ := id hO
  obtain ⟨hd, hl2, hs⟩ := id hS
  have hk12 : k < 12 := by omega
  have hlk := lks_w hS
  rw [ho] at e44
  refine qa_ic (nx := 1) (v := nI 3) at_108_0 (by decide) rfl ?_
  refine qa_s (pc' := 2) at_108_1 rfl rfl rfl ?_
  refine qa_mulN (nx := 3) at_108_2 rfl ?_
  refine qa_s (pc' := 4) at_108_3 rfl rfl rfl ?_
  refine qa_addN (nx := 5) at_108_4 rfl ?_
  refine qa_bi (nx := 7) (v := nI 12) at_108_5 (by decide) rfl ?_
  refine qa_mulN (nx := 8) at_108_7 rfl ?_
  refine qa_s (pc' := 9) at_108_8 rfl rfl rfl ?_
  refine qa_addN (nx := 10) at_108_9 rfl ?_
  refine qa_s (pc' := 12) at_108_10 rfl rfl rfl ?_
  refine qa_s (pc' := 13) at_108_12 rfl rfl rfl ?_
  refine qa_getR (nx := 16) at_108_13 rfl (by decide) rfl rfl (by decide) ?_
  refine qa_s (pc' := 18) at_108_16 rfl rfl rfl ?_
  refine qa_ialdV (nx := 19) (k := (((3 * i) + r) * 12) + k) (v := nI 9) at_108_18 rfl rfl rfl (by decide) rfl (show (((3 * i) + r) * 12) + k < 180 by omega) (show _ from e44) ?_
  refine qa_s (pc' := 21) at_108_19 rfl rfl rfl ?_
  refine qa_s (pc' := 22) at_108_21 rfl rfl rfl ?_
  refine qa_getR (nx := 25) at_108_22 rfl (by decide) rfl rfl (by decide) ?_
  refine qa_s (pc' := 27) at_108_25 rfl rfl rfl ?_
  refine qa_iald (nx := 28) (k := (((3 * i) + r) * 12) + k) at_108_27 rfl rfl rfl (by decide) rfl (show (((3 * i) + r) * 12) + k < 180 by omega) ?_
  refine qa_s (pc' := 30) at_108_28 rfl rfl rfl ?_
  refine qa_s (pc' := 31) at_108_30 rfl rfl rfl ?_
  refine qa_getV (nx := 34) (v := nI d) at_108_31 rfl (by decide) rfl rfl (by decide) (show _ from o14) ?_
  refine qn_if_le (tg := 56) (nx := 37) at_108_34 rfl rfl (by omega) (fun h108_34 => ?_) (fun h108_34 => ?_)
  · refine qa_ic (nx := 57) (v := (-1)) at_108_56 (by decide) rfl ?_
    refine qa_s (pc' := 59) at_108_57 rfl rfl rfl ?_
    refine qa_s (pc' := 61) at_108_59 rfl rfl rfl ?_
    refine qa_bi (nx := 63) (v := nI 7) at_108_61 (by decide) rfl ?_
    refine qn_icmp_ne (tg := 73) (nx := 66) at_108_63 rfl rfl (by decide) (by decide) (fun h108_63 => ?_) (fun h => absurd h (by decide))
    refine qa_s (pc' := 75) at_108_73 rfl rfl rfl ?_
    refine qa_bi (nx := 77) (v := nI 9) at_108_75 (by decide) rfl ?_
    refine qn_icmp_ne (tg := 89) (nx := 80) at_108_77 rfl rfl (by decide) (by decide) (fun h => absurd h (by decide)) (fun h108_77 => ?_)
    refine qa_s (pc' := 82) at_108_80 rfl rfl rfl ?_
    refine qa_bi (nx := 84) (v := nI 8) at_108_82 (by decide) rfl ?_
    refine qa_icmp_eq (tg := 89) (nx := 87) at_108_84 rfl rfl (fun h108_84 => ?_) (fun h108_84 => ?_)
    · refine qa_s (pc' := 91) at_108_89 rfl rfl rfl ?_
      refine qa_bi (nx := 93) (v := nI 6) at_108_91 (by decide) rfl ?_
      refine qn_icmp_ne (tg := 106) (nx := 96) at_108_93 rfl rfl (by decide) (by decide) (fun h108_93 => ?_) (fun h => absurd h (by decide))
      refine qa_s (pc' := 108) at_108_106 rfl rfl rfl ?_
      refine qa_bi (nx := 110) (v := nI 10) at_108_108 (by decide) rfl ?_
      refine qn_icmp_ne (tg := 135) (nx := 113) at_108_110 rfl rfl (by decide) (by decide) (fun h108_110 => ?_) (fun h => absurd h (by decide))
      refine qa_s (pc' := 137) at_108_135 rfl rfl rfl ?_
      refine qa_bi (nx := 139) (v := nI 8) at_108_137 (by decide) rfl ?_
      refine qn_icmp_ne (tg := 149) (nx := 142) at_108_139 rfl rfl (by decide) (by decide) (fun h108_139 => ?_) (fun h => absurd h (by decide))
      refine qa_s (pc' := 151) at_108_149 rfl rfl rfl ?_
      refine qa_bi (nx := 153) (v := nI 10) at_108_151 (by decide) rfl ?_
      refine qn_icmp_ne (tg := 166) (nx := 156) at_108_153 rfl rfl (by decide) (by decide) (fun h108_153 => ?_) (fun h => absurd h (by decide))
      refine qa_ic (nx := 167) (v := nI 0) at_108_166 (by decide) rfl ?_
      refine qa_s (pc' := 169) at_108_167 rfl rfl rfl ?_
      refine qa_s (pc' := 171) at_108_169 rfl rfl rfl ?_
      refine qa_s (pc' := 172) at_108_171 rfl rfl rfl ?_
      refine qa_callV (nx := 175) at_108_172 rfl rfl (Nat.le_of_ble_eq_true rfl) rfl rfl rfl (by decide) rfl (by decide) ?_
      show qa _ 111 0 [(0, .ref _)] [] _ _
      refine c111_q (n := 3 * i + r) (by omega) hI hO ?_
      show qa _ 108 175 _ [.int _, .int _] _ _
      refine qa_s (pc' := 176) at_108_175 rfl rfl rfl ?_
      refine qa_if_eq (tg := 181) (nx := 179) at_108_176 rfl rfl (fun h108_176 => ?_) (fun h108_176 => ?_)
      · refine qa_s (pc' := 183) at_108_181 rfl rfl rfl ?_
        refine qa_ic (nx := 184) (v := nI 5) at_108_183 (by decide) rfl ?_
        refine qn_icmp_ne (tg := 212) (nx := 187) at_108_184 rfl rfl (by decide) (by decide) (fun h108_184 => ?_) (fun h => absurd h (by decide))
        refine qa_ic (nx := 213) (v := nI 0) at_108_212 (by decide) rfl ?_
        refine qa_ret at_108_213 rfl ?_
        exact K0 ⟨by first | omega | (exfalso; first | exact absurd h108_70 (by decide) | exact absurd h108_84 (by decide)), by first | assumption | (exfalso; first | exact absurd h108_70 (by decide) | exact absurd h108_84 (by decide))⟩
      · exact absurd h108_176 (fun g => g (by rw [show nI 0 = 0 from rfl, Int32.zero_and]))
    · refine qa_ic (nx := 88) (v := nI 2) at_108_87 (by decide) rfl ?_
      refine qa_ret at_108_88 rfl ?_
      exact K1 (fun g => by first | omega | exact absurd g.2 (by assumption))
  · have t12 := (o5 (d - 1) (by omega)).1
    have tt := (h2 (s (d - 1)) (o5 (d - 1) (by omega)).1)
    refine qa_s (pc' := 38) at_108_37 rfl rfl rfl ?_
    refine qa_getR (nx := 41) at_108_38 rfl (by decide) rfl rfl (by decide) ?_
    refine qa_s (pc' := 42) at_108_41 rfl rfl rfl ?_
    refine qa_getR (nx := 45) at_108_42 rfl (by decide) rfl rfl (by decide) ?_
    refine qa_s (pc' := 46) at_108_45 rfl rfl rfl ?_
    refine qa_getV (nx := 49) (v := nI d) at_108_46 rfl (by decide) rfl rfl (by decide) (show _ from o14) ?_
    refine qa_ic (nx := 50) (v := nI 1) at_108_49 (by decide) rfl ?_
    refine qa_subN (nx := 51) at_108_50 rfl (by omega) ?_
    refine qa_ialdV (nx := 52) (k := d - 1) (v := nI ((3 * i + r) * 12 + s (d - 1))) at_108_51 rfl rfl rfl (by decide) rfl (show d - 1 < 12 by omega) (show _ from (o5 (d - 1) (by omega)).2) ?_
    refine qa_ialdV (nx := 53) (k := (3 * i + r) * 12 + s (d - 1)) (v := nI (P (3 * i + r) (s (d - 1)))) at_108_52 rfl rfl rfl (by decide) rfl (show (3 * i + r) * 12 + s (d - 1) < 180 by omega) (show _ from tt.2.1) ?_
    refine qa_goto (nx := 57) at_108_53 rfl ?_
    refine qa_s (pc' := 59) at_108_57 rfl rfl rfl ?_
    refine qa_s (pc' := 61) at_108_59 rfl rfl rfl ?_
    refine qa_bi (nx := 63) (v := nI 7) at_108_61 (by decide) rfl ?_
    refine qn_icmp_ne (tg := 73) (nx := 66) at_108_63 rfl rfl (by decide) (by decide) (fun h108_63 => ?_) (fun h => absurd h (by decide))
    refine qa_s (pc' := 75) at_108_73 rfl rfl rfl ?_
    refine qa_bi (nx := 77) (v := nI 9) at_108_75 (by decide) rfl ?_
    refine qn_icmp_ne (tg := 89) (nx := 80) at_108_77 rfl rfl (by decide) (by decide) (fun h => absurd h (by decide)) (fun h108_77 => ?_)
    refine qa_s (pc' := 82) at_108_80 rfl rfl rfl ?_
    refine qa_bi (nx := 84) (v := nI 8) at_108_82 (by decide) rfl ?_
    refine qn_icmp_eq (tg := 89) (nx := 87) at_108_84 rfl rfl (by omega) (by omega) (fun h108_84 => ?_) (fun h108_84 => ?_)
    · refine qa_s (pc' := 91) at_108_89 rfl rfl rfl ?_
      refine qa_bi (nx := 93) (v := nI 6) at_108_91 (by decide) rfl ?_
      refine qn_icmp_ne (tg := 106) (nx := 96) at_108_93 rfl rfl (by decide) (by decide) (fun h108_93 => ?_) (fun h => absurd h (by decide))
      refine qa_s (pc' := 108) at_108_106 rfl rfl rfl ?_
      refine qa_bi (nx := 110) (v := nI 10) at_108_108 (by decide) rfl ?_
      refine qn_icmp_ne (tg := 135) (nx := 113) at_108_110 rfl rfl (by decide) (by decide) (fun h108_110 => ?_) (fun h => absurd h (by decide))
      refine qa_s (pc' := 137) at_108_135 rfl rfl rfl ?_
      refine qa_bi (nx := 139) (v := nI 8) at_108_137 (by decide) rfl ?_
      refine qn_icmp_ne (tg := 149) (nx := 142) at_108_139 rfl rfl (by decide) (by decide) (fun h108_139 => ?_) (fun h => absurd h (by decide))
      refine qa_s (pc' := 151) at_108_149 rfl rfl rfl ?_
      refine qa_bi (nx := 153) (v := nI 10) at_108_151 (by decide) rfl ?_
      refine qn_icmp_ne (tg := 166) (nx := 156) at_108_153 rfl rfl (by decide) (by decide) (fun h108_153 => ?_) (fun h => absurd h (by decide))
      refine qa_ic (nx := 167) (v := nI 0) at_108_166 (by decide) rfl ?_
      refine qa_s (pc' := 169) at_108_167 rfl rfl rfl ?_
      refine qa_s (pc' := 171) at_108_169 rfl rfl rfl ?_
      refine qa_s (pc' := 172) at_108_171 rfl rfl rfl ?_
      refine qa_callV (nx := 175) at_108_172 rfl rfl (Nat.le_of_ble_eq_true rfl) rfl rfl rfl (by decide) rfl (by decide) ?_
      show qa _ 111 0 [(0, .ref _)] [] _ _
      refine c111_q (n := 3 * i + r) (by omega) hI hO ?_
      show qa _ 108 175 _ [.int _, .int _] _ _
      refine qa_s (pc' := 176) at_108_175 rfl rfl rfl ?_
      refine qa_if_eq (tg := 181) (nx := 179) at_108_176 rfl rfl (fun h108_176 => ?_) (fun h108_176 => ?_)
      · refine qa_s (pc' := 183) at_108_181 rfl rfl rfl ?_
        refine qa_ic (nx := 184) (v := nI 5) at_108_183 (by decide) rfl ?_
        refine qn_icmp_ne (tg := 212) (nx := 187) at_108_184 rfl rfl (by decide) (by decide) (fun h108_184 => ?_) (fun h => absurd h (by decide))
        refine qa_ic (nx := 213) (v := nI 0) at_108_212 (by decide) rfl ?_
        refine qa_ret at_108_213 rfl ?_
        exact K0 ⟨by first | omega | (exfalso; first | exact absurd h108_70 (by decide) | exact absurd h108_84 (by decide)), by first | assumption | (exfalso; first | exact absurd h108_70 (by decide) | exact absurd h108_84 (by decide))⟩
      · exact absurd h108_176 (fun g => g (by rw [show nI 0 = 0 from rfl, Int32.zero_and]))
    · refine qa_ic (nx := 88) (v := nI 2) at_108_87 (by decide) rfl ?_
      refine qa_ret at_108_88 rfl ?_
      exact K1 (fun g => by first | omega | exact absurd g.2 (by assumption))
theorem me6_q (hi : i < 5) (hr : r < 3) (hk : k < L (3 * i + r)) (hI : ImM L P Y σ) (hO : opM_ (3 * i + r) d s σ) (hS : StOk (P (3 * i + r)) (Y (3 * i + r)) s d k) (ho : P (3 * i + r) k = 6) (K0 : ¬ lps (P (3 * i + r)) s d = 2 → Q (some (.int (nI 0))) σ) (K1 : lps (P (3 * i + r)) s d = 2 → Q (some (.int (nI 3))) σ) : qa cst 108 0 [(0, .ref (cl 40 0)), (1, .int (nI i)), (2, .int (nI r)), (3, .int (nI k))] [] σ Q := by
  obtain ⟨hL, e48, h2⟩ := hI (3 * i + r) (by omega)
  obtain ⟨hP, e44, h46⟩ := h2 k (by omega)
  obtain ⟨o12, o14, o5⟩ := id hO
  obtain ⟨hd, hl2, hs⟩ := id hS
  have hk12 : k < 12 := by omega
  have hlk := lks_w hS
  rw [ho] at e44
  refine qa_ic (nx := 1) (v := nI 3) at_108_0 (by decide) rfl ?_
  refine qa_s (pc' := 2) at_108_1 rfl rfl rfl ?_
  refine qa_mulN (nx := 3) at_108_2 rfl ?_
  refine qa_s (pc' := 4) at_108_3 rfl rfl rfl ?_
  refine qa_addN (nx := 5) at_108_4 rfl ?_
  refine qa_bi (nx := 7) (v := nI 12) at_108_5 (by decide) rfl ?_
  refine qa_mulN (nx := 8) at_108_7 rfl ?_
  refine qa_s (pc' := 9) at_108_8 rfl rfl rfl ?_
  refine qa_addN (nx := 10) at_108_9 rfl ?_
  refine qa_s (pc' := 12) at_108_10 rfl rfl rfl ?_
  refine qa_s (pc' := 13) at_108_12 rfl rfl rfl ?_
  refine qa_getR (nx := 16) at_108_13 rfl (by decide) rfl rfl (by decide) ?_
  refine qa_s (pc' := 18) at_108_16 rfl rfl rfl ?_
  refine qa_ialdV (nx := 19) (k := (((3 * i) + r) * 12) + k) (v := nI 6) at_108_18 rfl rfl rfl (by decide) rfl (show (((3 * i) + r) * 12) + k < 180 by omega) (show _ from e44) ?_
  refine qa_s (pc' := 21) at_108_19 rfl rfl rfl ?_
  refine qa_s (pc' := 22) at_108_21 rfl rfl rfl ?_
  refine qa_getR (nx := 25) at_108_22 rfl (by decide) rfl rfl (by decide) ?_
  refine qa_s (pc' := 27) at_108_25 rfl rfl rfl ?_
  refine qa_iald (nx := 28) (k := (((3 * i) + r) * 12) + k) at_108_27 rfl rfl rfl (by decide) rfl (show (((3 * i) + r) * 12) + k < 180 by omega) ?_
  refine qa_s (pc' := 30) at_108_28 rfl rfl rfl ?_
  refine qa_s (pc' := 31) at_108_30 rfl rfl rfl ?_
  refine qa_getV (nx := 34) (v := nI d) at_108_31 rfl (by decide) rfl rfl (by decide) (show _ from o14) ?_
  refine qn_if_le (tg := 56) (nx := 37) at_108_34 rfl rfl (by omega) (fun h108_34 => ?_) (fun h108_34 => ?_)
  · refine qa_ic (nx := 57) (v := (-1)) at_108_56 (by decide) rfl ?_
    refine qa_s (pc' := 59) at_108_57 rfl rfl rfl ?_
    refine qa_s (pc' := 61) at_108_59 rfl rfl rfl ?_
    refine qa_bi (nx := 63) (v := nI 7) at_108_61 (by decide) rfl ?_
    refine qn_icmp_ne (tg := 73) (nx := 66) at_108_63 rfl rfl (by decide) (by decide) (fun h108_63 => ?_) (fun h => absurd h (by decide))
    refine qa_s (pc' := 75) at_108_73 rfl rfl rfl ?_
    refine qa_bi (nx := 77) (v := nI 9) at_108_75 (by decide) rfl ?_
    refine qn_icmp_ne (tg := 89) (nx := 80) at_108_77 rfl rfl (by decide) (by decide) (fun h108_77 => ?_) (fun h => absurd h (by decide))
    refine qa_s (pc' := 91) at_108_89 rfl rfl rfl ?_
    refine qa_bi (nx := 93) (v := nI 6) at_108_91 (by decide) rfl ?_
    refine qn_icmp_ne (tg := 106) (nx := 96) at_108_93 rfl rfl (by decide) (by decide) (fun h => absurd h (by decide)) (fun h108_93 => ?_)
    refine qa_s (pc' := 97) at_108_96 rfl rfl rfl ?_
    refine qa_callV (nx := 100) at_108_97 rfl rfl (Nat.le_of_ble_eq_true rfl) rfl rfl rfl (by decide) rfl (by decide) ?_
    show qa _ 109 0 [(0, .ref _)] [] _ _
    refine c109_q (n := 3 * i + r) (by omega) hI hO ?_
    show qa _ 108 100 _ [.int _] _ _
    refine qa_ic (nx := 101) (v := nI 2) at_108_100 (by decide) rfl ?_
    refine qn_icmp_ne (tg := 106) (nx := 104) at_108_101 rfl rfl (by omega) (by omega) (fun h108_101 => ?_) (fun h108_101 => ?_)
    · refine qa_s (pc' := 108) at_108_106 rfl rfl rfl ?_
      refine qa_bi (nx := 110) (v := nI 10) at_108_108 (by decide) rfl ?_
      refine qn_icmp_ne (tg := 135) (nx := 113) at_108_110 rfl rfl (by decide) (by decide) (fun h108_110 => ?_) (fun h => absurd h (by decide))
      refine qa_s (pc' := 137) at_108_135 rfl rfl rfl ?_
      refine qa_bi (nx := 139) (v := nI 8) at_108_137 (by decide) rfl ?_
      refine qn_icmp_ne (tg := 149) (nx := 142) at_108_139 rfl rfl (by decide) (by decide) (fun h108_139 => ?_) (fun h => absurd h (by decide))
      refine qa_s (pc' := 151) at_108_149 rfl rfl rfl ?_
      refine qa_bi (nx := 153) (v := nI 10) at_108_151 (by decide) rfl ?_
      refine qn_icmp_ne (tg := 166) (nx := 156) at_108_153 rfl rfl (by decide) (by decide) (fun h108_153 => ?_) (fun h => absurd h (by decide))
      refine qa_ic (nx := 167) (v := nI 0) at_108_166 (by decide) rfl ?_
      refine qa_s (pc' := 169) at_108_167 rfl rfl rfl ?_
      refine qa_s (pc' := 171) at_108_169 rfl rfl rfl ?_
      refine qa_s (pc' := 172) at_108_171 rfl rfl rfl ?_
      refine qa_callV (nx := 175) at_108_172 rfl rfl (Nat.le_of_ble_eq_true rfl) rfl rfl rfl (by decide) rfl (by decide) ?_
      show qa _ 111 0 [(0, .ref _)] [] _ _
      refine c111_q (n := 3 * i + r) (by omega) hI hO ?_
      show qa _ 108 175 _ [.int _, .int _] _ _
      refine qa_s (pc' := 176) at_108_175 rfl rfl rfl ?_
      refine qa_if_eq (tg := 181) (nx := 179) at_108_176 rfl rfl (fun h108_176 => ?_) (fun h108_176 => ?_)
      · refine qa_s (pc' := 183) at_108_181 rfl rfl rfl ?_
        refine qa_ic (nx := 184) (v := nI 5) at_108_183 (by decide) rfl ?_
        refine qn_icmp_ne (tg := 212) (nx := 187) at_108_184 rfl rfl (by decide) (by decide) (fun h108_184 => ?_) (fun h => absurd h (by decide))
        refine qa_ic (nx := 213) (v := nI 0) at_108_212 (by decide) rfl ?_
        refine qa_ret at_108_213 rfl ?_
        exact K0 h108_101
      · exact absurd h108_176 (fun g => g (by rw [show nI 0 = 0 from rfl, Int32.zero_and]))
    · refine qa_ic (nx := 105) (v := nI 3) at_108_104 (by decide) rfl ?_
      refine qa_ret at_108_105 rfl ?_
      exact K1 h108_101
  · have t12 := (o5 (d - 1) (by omega)).1
    have tt := (h2 (s (d - 1)) (o5 (d - 1) (by omega)).1)
    refine qa_s (pc' := 38) at_108_37 rfl rfl rfl ?_
    refine qa_getR (nx := 41) at_108_38 rfl (by decide) rfl rfl (by decide) ?_
    refine qa_s (pc' := 42) at_108_41 rfl rfl rfl ?_
    refine qa_getR (nx := 45) at_108_42 rfl (by decide) rfl rfl (by decide) ?_
    refine qa_s (pc' := 46) at_108_45 rfl rfl rfl ?_
    refine qa_getV (nx := 49) (v := nI d) at_108_46 rfl (by decide) rfl rfl (by decide) (show _ from o14) ?_
    refine qa_ic (nx := 50) (v := nI 1) at_108_49 (by decide) rfl ?_
    refine qa_subN (nx := 51) at_108_50 rfl (by omega) ?_
    refine qa_ialdV (nx := 52) (k := d - 1) (v := nI ((3 * i + r) * 12 + s (d - 1))) at_108_51 rfl rfl rfl (by decide) rfl (show d - 1 < 12 by omega) (show _ from (o5 (d - 1) (by omega)).2) ?_
    refine qa_ialdV (nx := 53) (k := (3 * i + r) * 12 + s (d - 1)) (v := nI (P (3 * i + r) (s (d - 1)))) at_108_52 rfl rfl rfl (by decide) rfl (show (3 * i + r) * 12 + s (d - 1) < 180 by omega) (show _ from tt.2.1) ?_
    refine qa_goto (nx := 57) at_108_53 rfl ?_
    refine qa_s (pc' := 59) at_108_57 rfl rfl rfl ?_
    refine qa_s (pc' := 61) at_108_59 rfl rfl rfl ?_
    refine qa_bi (nx := 63) (v := nI 7) at_108_61 (by decide) rfl ?_
    refine qn_icmp_ne (tg := 73) (nx := 66) at_108_63 rfl rfl (by decide) (by decide) (fun h108_63 => ?_) (fun h => absurd h (by decide))
    refine qa_s (pc' := 75) at_108_73 rfl rfl rfl ?_
    refine qa_bi (nx := 77) (v := nI 9) at_108_75 (by decide) rfl ?_
    refine qn_icmp_ne (tg := 89) (nx := 80) at_108_77 rfl rfl (by decide) (by decide) (fun h108_77 => ?_) (fun h => absurd h (by decide))
    refine qa_s (pc' := 91) at_108_89 rfl rfl rfl ?_
    refine qa_bi (nx := 93) (v := nI 6) at_108_91 (by decide) rfl ?_
    refine qn_icmp_ne (tg := 106) (nx := 96) at_108_93 rfl rfl (by decide) (by decide) (fun h => absurd h (by decide)) (fun h108_93 => ?_)
    refine qa_s (pc' := 97) at_108_96 rfl rfl rfl ?_
    refine qa_callV (nx := 100) at_108_97 rfl rfl (Nat.le_of_ble_eq_true rfl) rfl rfl rfl (by decide) rfl (by decide) ?_
    show qa _ 109 0 [(0, .ref _)] [] _ _
    refine c109_q (n := 3 * i + r) (by omega) hI hO ?_
    show qa _ 108 100 _ [.int _] _ _
    refine qa_ic (nx := 101) (v := nI 2) at_108_100 (by decide) rfl ?_
    refine qn_icmp_ne (tg := 106) (nx := 104) at_108_101 rfl rfl (by omega) (by omega) (fun h108_101 => ?_) (fun h108_101 => ?_)
    · refine qa_s (pc' := 108) at_108_106 rfl rfl rfl ?_
      refine qa_bi (nx := 110) (v := nI 10) at_108_108 (by decide) rfl ?_
      refine qn_icmp_ne (tg := 135) (nx := 113) at_108_110 rfl rfl (by decide) (by decide) (fun h108_110 => ?_) (fun h => absurd h (by decide))
      refine qa_s (pc' := 137) at_108_135 rfl rfl rfl ?_
      refine qa_bi (nx := 139) (v := nI 8) at_108_137 (by decide) rfl ?_
      refine qn_icmp_ne (tg := 149) (nx := 142) at_108_139 rfl rfl (by decide) (by decide) (fun h108_139 => ?_) (fun h => absurd h (by decide))
      refine qa_s (pc' := 151) at_108_149 rfl rfl rfl ?_
      refine qa_bi (nx := 153) (v := nI 10) at_108_151 (by decide) rfl ?_
      refine qn_icmp_ne (tg := 166) (nx := 156) at_108_153 rfl rfl (by decide) (by decide) (fun h108_153 => ?_) (fun h => absurd h (by decide))
      refine qa_ic (nx := 167) (v := nI 0) at_108_166 (by decide) rfl ?_
      refine qa_s (pc' := 169) at_108_167 rfl rfl rfl ?_
      refine qa_s (pc' := 171) at_108_169 rfl rfl rfl ?_
      refine qa_s (pc' := 172) at_108_171 rfl rfl rfl ?_
      refine qa_callV (nx := 175) at_108_172 rfl rfl (Nat.le_of_ble_eq_true rfl) rfl rfl rfl (by decide) rfl (by decide) ?_
      show qa _ 111 0 [(0, .ref _)] [] _ _
      refine c111_q (n := 3 * i + r) (by omega) hI hO ?_
      show qa _ 108 175 _ [.int _, .int _] _ _
      refine qa_s (pc' := 176) at_108_175 rfl rfl rfl ?_
      refine qa_if_eq (tg := 181) (nx := 179) at_108_176 rfl rfl (fun h108_176 => ?_) (fun h108_176 => ?_)
      · refine qa_s (pc' := 183) at_108_181 rfl rfl rfl ?_
        refine qa_ic (nx := 184) (v := nI 5) at_108_183 (by decide) rfl ?_
        refine qn_icmp_ne (tg := 212) (nx := 187) at_108_184 rfl rfl (by decide) (by decide) (fun h108_184 => ?_) (fun h => absurd h (by decide))
        refine qa_ic (nx := 213) (v := nI 0) at_108_212 (by decide) rfl ?_
        refine qa_ret at_108_213 rfl ?_
        exact K0 h108_101
      · exact absurd h108_176 (fun g => g (by rw [show nI 0 = 0 from rfl, Int32.zero_and]))
    · refine qa_ic (nx := 105) (v := nI 3) at_108_104 (by decide) rfl ?_
      refine qa_ret at_108_105 rfl ?_
      exact K1 h108_101
theorem me8_q (hi : i < 5) (hr : r < 3) (hk : k < L (3 * i + r)) (hI : ImM L P Y σ) (hO : opM_ (3 * i + r) d s σ) (hS : StOk (P (3 * i + r)) (Y (3 * i + r)) s d k) (ho : P (3 * i + r) k = 8) (K0 : (lks (P (3 * i + r)) (Y (3 * i + r)) s d).testBit (Y (3 * i + r) k) = false → Q (some (.int (nI 0))) σ) (K1 : (lks (P (3 * i + r)) (Y (3 * i + r)) s d).testBit (Y (3 * i + r) k) = true → Q (some (.int (nI 5))) σ) : qa cst 108 0 [(0, .ref (cl 40 0)), (1, .int (nI i)), (2, .int (nI r)), (3, .int (nI k))] [] σ Q := by
  obtain ⟨hL, e48, h2⟩ := hI (3 * i + r) (by omega)
  obtain ⟨hP, e44, h46⟩ := h2 k (by omega)
  obtain ⟨o12, o14, o5⟩ := id hO
  obtain ⟨hd, hl2, hs⟩ := id hS
  have hk12 : k < 12 := by omega
  have hlk := lks_w hS
  rw [ho] at e44
  obtain ⟨e46, hy⟩ := h46 (by omega)
  have hy4 := (imY hy).1 ho
  have hcm : (nI 1 <<< (nI (Y (3 * i + r) k) &&& 31) &&& nI (lks (P (3 * i + r)) (Y (3 * i + r)) s d)) = (nI (lks (P (3 * i + r)) (Y (3 * i + r)) s d) &&& nI 1 <<< (nI (Y (3 * i + r) k) &&& 31)) := Int32.and_comm _ _
  refine qa_ic (nx := 1) (v := nI 3) at_108_0 (by decide) rfl ?_
  refine qa_s (pc' := 2) at_108_1 rfl rfl rfl ?_
  refine qa_mulN (nx := 3) at_108_2 rfl ?_
  refine qa_s (pc' := 4) at_108_3 rfl rfl rfl ?_
  refine qa_addN (nx := 5) at_108_4 rfl ?_
  refine qa_bi (nx := 7) (v := nI 12) at_108_5 (by decide) rfl ?_
  refine qa_mulN (nx := 8) at_108_7 rfl ?_
  refine qa_s (pc' := 9) at_108_8 rfl rfl rfl ?_
  refine qa_addN (nx := 10) at_108_9 rfl ?_
  refine qa_s (pc' := 12) at_108_10 rfl rfl rfl ?_
  refine qa_s (pc' := 13) at_108_12 rfl rfl rfl ?_
  refine qa_getR (nx := 16) at_108_13 rfl (by decide) rfl rfl (by decide) ?_
  refine qa_s (pc' := 18) at_108_16 rfl rfl rfl ?_
  refine qa_ialdV (nx := 19) (k := (((3 * i) + r) * 12) + k) (v := nI 8) at_108_18 rfl rfl rfl (by decide) rfl (show (((3 * i) + r) * 12) + k < 180 by omega) (show _ from e44) ?_
  refine qa_s (pc' := 21) at_108_19 rfl rfl rfl ?_
  refine qa_s (pc' := 22) at_108_21 rfl rfl rfl ?_
  refine qa_getR (nx := 25) at_108_22 rfl (by decide) rfl rfl (by decide) ?_
  refine qa_s (pc' := 27) at_108_25 rfl rfl rfl ?_
  refine qa_ialdV (nx := 28) (k := (((3 * i) + r) * 12) + k) (v := nI (Y (3 * i + r) k)) at_108_27 rfl rfl rfl (by decide) rfl (show (((3 * i) + r) * 12) + k < 180 by omega) (show _ from e46) ?_
  refine qa_s (pc' := 30) at_108_28 rfl rfl rfl ?_
  refine qa_s (pc' := 31) at_108_30 rfl rfl rfl ?_
  refine qa_getV (nx := 34) (v := nI d) at_108_31 rfl (by decide) rfl rfl (by decide) (show _ from o14) ?_
  refine qn_if_le (tg := 56) (nx := 37) at_108_34 rfl rfl (by omega) (fun h108_34 => ?_) (fun h108_34 => ?_)
  · refine qa_ic (nx := 57) (v := (-1)) at_108_56 (by decide) rfl ?_
    refine qa_s (pc' := 59) at_108_57 rfl rfl rfl ?_
    refine qa_s (pc' := 61) at_108_59 rfl rfl rfl ?_
    refine qa_bi (nx := 63) (v := nI 7) at_108_61 (by decide) rfl ?_
    refine qn_icmp_ne (tg := 73) (nx := 66) at_108_63 rfl rfl (by decide) (by decide) (fun h108_63 => ?_) (fun h => absurd h (by decide))
    refine qa_s (pc' := 75) at_108_73 rfl rfl rfl ?_
    refine qa_bi (nx := 77) (v := nI 9) at_108_75 (by decide) rfl ?_
    refine qn_icmp_ne (tg := 89) (nx := 80) at_108_77 rfl rfl (by decide) (by decide) (fun h108_77 => ?_) (fun h => absurd h (by decide))
    refine qa_s (pc' := 91) at_108_89 rfl rfl rfl ?_
    refine qa_bi (nx := 93) (v := nI 6) at_108_91 (by decide) rfl ?_
    refine qn_icmp_ne (tg := 106) (nx := 96) at_108_93 rfl rfl (by decide) (by decide) (fun h108_93 => ?_) (fun h => absurd h (by decide))
    refine qa_s (pc' := 108) at_108_106 rfl rfl rfl ?_
    refine qa_bi (nx := 110) (v := nI 10) at_108_108 (by decide) rfl ?_
    refine qn_icmp_ne (tg := 135) (nx := 113) at_108_110 rfl rfl (by decide) (by decide) (fun h108_110 => ?_) (fun h => absurd h (by decide))
    refine qa_s (pc' := 137) at_108_135 rfl rfl rfl ?_
    refine qa_bi (nx := 139) (v := nI 8) at_108_137 (by decide) rfl ?_
    refine qn_icmp_ne (tg := 149) (nx := 142) at_108_139 rfl rfl (by decide) (by decide) (fun h => absurd h (by decide)) (fun h108_139 => ?_)
    refine qa_ic (nx := 143) (v := nI 1) at_108_142 (by decide) rfl ?_
    refine qa_s (pc' := 145) at_108_143 rfl rfl rfl ?_
    refine qa_s (pc' := 146) at_108_145 rfl rfl rfl ?_
    refine qa_goto (nx := 167) at_108_146 rfl ?_
    refine qa_s (pc' := 169) at_108_167 rfl rfl rfl ?_
    refine qa_s (pc' := 171) at_108_169 rfl rfl rfl ?_
    refine qa_s (pc' := 172) at_108_171 rfl rfl rfl ?_
    refine qa_callV (nx := 175) at_108_172 rfl rfl (Nat.le_of_ble_eq_true rfl) rfl rfl rfl (by decide) rfl (by decide) ?_
    show qa _ 111 0 [(0, .ref _)] [] _ _
    refine c111_q (n := 3 * i + r) (by omega) hI hO ?_
    show qa _ 108 175 _ [.int _, .int _] _ _
    refine qa_s (pc' := 176) at_108_175 rfl rfl rfl ?_
    refine qa_if_eq (tg := 181) (nx := 179) at_108_176 rfl rfl (fun h108_176 => ?_) (fun h108_176 => ?_)
    · refine qa_s (pc' := 183) at_108_181 rfl rfl rfl ?_
      refine qa_ic (nx := 184) (v := nI 5) at_108_183 (by decide) rfl ?_
      refine qn_icmp_ne (tg := 212) (nx := 187) at_108_184 rfl rfl (by decide) (by decide) (fun h108_184 => ?_) (fun h => absurd h (by decide))
      refine qa_ic (nx := 213) (v := nI 0) at_108_212 (by decide) rfl ?_
      refine qa_ret at_108_213 rfl ?_
      exact K0 ((bit_t _ hlk _ hy4).mp (hcm.symm.trans h108_176))
    · refine qa_ic (nx := 180) (v := nI 5) at_108_179 (by decide) rfl ?_
      refine qa_ret at_108_180 rfl ?_
      exact K1 (by cases g : (lks (P (3 * i + r)) (Y (3 * i + r)) s d).testBit (Y (3 * i + r) k); exact absurd (hcm.trans ((bit_t _ hlk _ hy4).mpr g)) h108_176; rfl)
  · have t12 := (o5 (d - 1) (by omega)).1
    have tt := (h2 (s (d - 1)) (o5 (d - 1) (by omega)).1)
    refine qa_s (pc' := 38) at_108_37 rfl rfl rfl ?_
    refine qa_getR (nx := 41) at_108_38 rfl (by decide) rfl rfl (by decide) ?_
    refine qa_s (pc' := 42) at_108_41 rfl rfl rfl ?_
    refine qa_getR (nx := 45) at_108_42 rfl (by decide) rfl rfl (by decide) ?_
    refine qa_s (pc' := 46) at_108_45 rfl rfl rfl ?_
    refine qa_getV (nx := 49) (v := nI d) at_108_46 rfl (by decide) rfl rfl (by decide) (show _ from o14) ?_
    refine qa_ic (nx := 50) (v := nI 1) at_108_49 (by decide) rfl ?_
    refine qa_subN (nx := 51) at_108_50 rfl (by omega) ?_
    refine qa_ialdV (nx := 52) (k := d - 1) (v := nI ((3 * i + r) * 12 + s (d - 1))) at_108_51 rfl rfl rfl (by decide) rfl (show d - 1 < 12 by omega) (show _ from (o5 (d - 1) (by omega)).2) ?_
    refine qa_ialdV (nx := 53) (k := (3 * i + r) * 12 + s (d - 1)) (v := nI (P (3 * i + r) (s (d - 1)))) at_108_52 rfl rfl rfl (by decide) rfl (show (3 * i + r) * 12 + s (d - 1) < 180 by omega) (show _ from tt.2.1) ?_
    refine qa_goto (nx := 57) at_108_53 rfl ?_
    refine qa_s (pc' := 59) at_108_57 rfl rfl rfl ?_
    refine qa_s (pc' := 61) at_108_59 rfl rfl rfl ?_
    refine qa_bi (nx := 63) (v := nI 7) at_108_61 (by decide) rfl ?_
    refine qn_icmp_ne (tg := 73) (nx := 66) at_108_63 rfl rfl (by decide) (by decide) (fun h108_63 => ?_) (fun h => absurd h (by decide))
    refine qa_s (pc' := 75) at_108_73 rfl rfl rfl ?_
    refine qa_bi (nx := 77) (v := nI 9) at_108_75 (by decide) rfl ?_
    refine qn_icmp_ne (tg := 89) (nx := 80) at_108_77 rfl rfl (by decide) (by decide) (fun h108_77 => ?_) (fun h => absurd h (by decide))
    refine qa_s (pc' := 91) at_108_89 rfl rfl rfl ?_
    refine qa_bi (nx := 93) (v := nI 6) at_108_91 (by decide) rfl ?_
    refine qn_icmp_ne (tg := 106) (nx := 96) at_108_93 rfl rfl (by decide) (by decide) (fun h108_93 => ?_) (fun h => absurd h (by decide))
    refine qa_s (pc' := 108) at_108_106 rfl rfl rfl ?_
    refine qa_bi (nx := 110) (v := nI 10) at_108_108 (by decide) rfl ?_
    refine qn_icmp_ne (tg := 135) (nx := 113) at_108_110 rfl rfl (by decide) (by decide) (fun h108_110 => ?_) (fun h => absurd h (by decide))
    refine qa_s (pc' := 137) at_108_135 rfl rfl rfl ?_
    refine qa_bi (nx := 139) (v := nI 8) at_108_137 (by decide) rfl ?_
    refine qn_icmp_ne (tg := 149) (nx := 142) at_108_139 rfl rfl (by decide) (by decide) (fun h => absurd h (by decide)) (fun h108_139 => ?_)
    refine qa_ic (nx := 143) (v := nI 1) at_108_142 (by decide) rfl ?_
    refine qa_s (pc' := 145) at_108_143 rfl rfl rfl ?_
    refine qa_s (pc' := 146) at_108_145 rfl rfl rfl ?_
    refine qa_goto (nx := 167) at_108_146 rfl ?_
    refine qa_s (pc' := 169) at_108_167 rfl rfl rfl ?_
    refine qa_s (pc' := 171) at_108_169 rfl rfl rfl ?_
    refine qa_s (pc' := 172) at_108_171 rfl rfl rfl ?_
    refine qa_callV (nx := 175) at_108_172 rfl rfl (Nat.le_of_ble_eq_true rfl) rfl rfl rfl (by decide) rfl (by decide) ?_
    show qa _ 111 0 [(0, .ref _)] [] _ _
    refine c111_q (n := 3 * i + r) (by omega) hI hO ?_
    show qa _ 108 175 _ [.int _, .int _] _ _
    refine qa_s (pc' := 176) at_108_175 rfl rfl rfl ?_
    refine qa_if_eq (tg := 181) (nx := 179) at_108_176 rfl rfl (fun h108_176 => ?_) (fun h108_176 => ?_)
    · refine qa_s (pc' := 183) at_108_181 rfl rfl rfl ?_
      refine qa_ic (nx := 184) (v := nI 5) at_108_183 (by decide) rfl ?_
      refine qn_icmp_ne (tg := 212) (nx := 187) at_108_184 rfl rfl (by decide) (by decide) (fun h108_184 => ?_) (fun h => absurd h (by decide))
      refine qa_ic (nx := 213) (v := nI 0) at_108_212 (by decide) rfl ?_
      refine qa_ret at_108_213 rfl ?_
      exact K0 ((bit_t _ hlk _ hy4).mp (hcm.symm.trans h108_176))
    · refine qa_ic (nx := 180) (v := nI 5) at_108_179 (by decide) rfl ?_
      refine qa_ret at_108_180 rfl ?_
      exact K1 (by cases g : (lks (P (3 * i + r)) (Y (3 * i + r)) s d).testBit (Y (3 * i + r) k); exact absurd (hcm.trans ((bit_t _ hlk _ hy4).mpr g)) h108_176; rfl)
theorem lk1_M {n : Nat} (hn : n < 15) (hI : ImM L P Y σ) : lk1 (P n) (Y n) (L n) < 16 := lk1_16 _ (fun j hj g => (imY (((hI n hn).2.2 j (by have := (hI n hn).1; omega)).2.2 (by omega)).2).1 g)
theorem mks_16 {y : Nat} (hi : i < 5) (hI : ImM L P Y σ) : mks L P Y i y < 16 := by
  have h1 := lk1_M (n := 3 * i + 1) (by omega) hI
  have h2 := lk1_M (n := 3 * i + 2) (by omega) hI
  unfold mks M1 M2
  split
  · split
    · exact (or16 _ h1 _ h2).1
    · exact h1
  · exact h2
theorem c110_y {y : Nat} (hi : i < 5) (hI : ImM L P Y σ) (h1 : 1 ≤ y) (h2 : y ≤ 2) (K : Q (some (.int (nI (mks L P Y i y)))) σ) : qa cst 110 0 [(0, .ref (cl 40 0)), (1, .int (nI i)), (2, .int (nI y))] [] σ Q := by
  obtain rfl | rfl : y = 1 ∨ y = 2 := by omega
  · exact c110_1 hi hI (lk1_M (by omega) hI) K
  · exact c110_2 hi hI K
theorem me10_q (hi : i < 5) (hr : r < 3) (hk : k < L (3 * i + r)) (hI : ImM L P Y σ) (hO : opM_ (3 * i + r) d s σ) (hS : StOk (P (3 * i + r)) (Y (3 * i + r)) s d k) (ho : P (3 * i + r) k = 10) (K0 : ¬ (Y (3 * i + r) k ≤ r ∨ L (3 * i + Y (3 * i + r) k) = 0) → lks (P (3 * i + r)) (Y (3 * i + r)) s d &&& mks L P Y i (Y (3 * i + r) k) = 0 → Q (some (.int (nI 0))) σ) (K1 : (Y (3 * i + r) k ≤ r ∨ L (3 * i + Y (3 * i + r) k) = 0) → Q (some (.int (nI 4))) σ) (K2 : ¬ (Y (3 * i + r) k ≤ r ∨ L (3 * i + Y (3 * i + r) k) = 0) → ¬ lks (P (3 * i + r)) (Y (3 * i + r)) s d &&& mks L P Y i (Y (3 * i + r) k) = 0 → Q (some (.int (nI 5))) σ) : qa cst 108 0 [(0, .ref (cl 40 0)), (1, .int (nI i)), (2, .int (nI r)), (3, .int (nI k))] [] σ Q := by
  obtain ⟨hL, e48, h2⟩ := hI (3 * i + r) (by omega)
  obtain ⟨hP, e44, h46⟩ := h2 k (by omega)
  obtain ⟨o12, o14, o5⟩ := id hO
  obtain ⟨hd, hl2, hs⟩ := id hS
  have hk12 : k < 12 := by omega
  have hlk := lks_w hS
  rw [ho] at e44
  obtain ⟨e46, hy⟩ := h46 (by omega)
  have hy2 := (imY hy).2.1 ho
  have m1 := mks_16 (y := Y (3 * i + r) k) hi hI
  have hcm : (nI (mks L P Y i (Y (3 * i + r) k)) &&& nI (lks (P (3 * i + r)) (Y (3 * i + r)) s d)) = nI (lks (P (3 * i + r)) (Y (3 * i + r)) s d &&& mks L P Y i (Y (3 * i + r) k)) := by rw [(or16 _ m1 _ hlk).2.2.1, Nat.and_comm]
  have hand := (or16 _ hlk _ m1).2.2.2
  have eLy := (hI (3 * i + Y (3 * i + r) k) (by omega)).2.1
  have hLy := (hI (3 * i + Y (3 * i + r) k) (by omega)).1
  refine qa_ic (nx := 1) (v := nI 3) at_108_0 (by decide) rfl ?_
  refine qa_s (pc' := 2) at_108_1 rfl rfl rfl ?_
  refine qa_mulN (nx := 3) at_108_2 rfl ?_
  refine qa_s (pc' := 4) at_108_3 rfl rfl rfl ?_
  refine qa_addN (nx := 5) at_108_4 rfl ?_
  refine qa_bi (nx := 7) (v := nI 12) at_108_5 (by decide) rfl ?_
  refine qa_mulN (nx := 8) at_108_7 rfl ?_
  refine qa_s (pc' := 9) at_108_8 rfl rfl rfl ?_
  refine qa_addN (nx := 10) at_108_9 rfl ?_
  refine qa_s (pc' := 12) at_108_10 rfl rfl rfl ?_
  refine qa_s (pc' := 13) at_108_12 rfl rfl rfl ?_
  refine qa_getR (nx := 16) at_108_13 rfl (by decide) rfl rfl (by decide) ?_
  refine qa_s (pc' := 18) at_108_16 rfl rfl rfl ?_
  refine qa_ialdV (nx := 19) (k := (((3 * i) + r) * 12) + k) (v := nI 10) at_108_18 rfl rfl rfl (by decide) rfl (show (((3 * i) + r) * 12) + k < 180 by omega) (show _ from e44) ?_
  refine qa_s (pc' := 21) at_108_19 rfl rfl rfl ?_
  refine qa_s (pc' := 22) at_108_21 rfl rfl rfl ?_
  refine qa_getR (nx := 25) at_108_22 rfl (by decide) rfl rfl (by decide) ?_
  refine qa_s (pc' := 27) at_108_25 rfl rfl rfl ?_
  refine qa_ialdV (nx := 28) (k := (((3 * i) + r) * 12) + k) (v := nI (Y (3 * i + r) k)) at_108_27 rfl rfl rfl (by decide) rfl (show (((3 * i) + r) * 12) + k < 180 by omega) (show _ from e46) ?_
  refine qa_s (pc' := 30) at_108_28 rfl rfl rfl ?_
  refine qa_s (pc' := 31) at_108_30 rfl rfl rfl ?_
  refine qa_getV (nx := 34) (v := nI d) at_108_31 rfl (by decide) rfl rfl (by decide) (show _ from o14) ?_
  refine qn_if_le (tg := 56) (nx := 37) at_108_34 rfl rfl (by omega) (fun h108_34 => ?_) (fun h108_34 => ?_)
  · refine qa_ic (nx := 57) (v := (-1)) at_108_56 (by decide) rfl ?_
    refine qa_s (pc' := 59) at_108_57 rfl rfl rfl ?_
    refine qa_s (pc' := 61) at_108_59 rfl rfl rfl ?_
    refine qa_bi (nx := 63) (v := nI 7) at_108_61 (by decide) rfl ?_
    refine qn_icmp_ne (tg := 73) (nx := 66) at_108_63 rfl rfl (by decide) (by decide) (fun h108_63 => ?_) (fun h => absurd h (by decide))
    refine qa_s (pc' := 75) at_108_73 rfl rfl rfl ?_
    refine qa_bi (nx := 77) (v := nI 9) at_108_75 (by decide) rfl ?_
    refine qn_icmp_ne (tg := 89) (nx := 80) at_108_77 rfl rfl (by decide) (by decide) (fun h108_77 => ?_) (fun h => absurd h (by decide))
    refine qa_s (pc' := 91) at_108_89 rfl rfl rfl ?_
    refine qa_bi (nx := 93) (v := nI 6) at_108_91 (by decide) rfl ?_
    refine qn_icmp_ne (tg := 106) (nx := 96) at_108_93 rfl rfl (by decide) (by decide) (fun h108_93 => ?_) (fun h => absurd h (by decide))
    refine qa_s (pc' := 108) at_108_106 rfl rfl rfl ?_
    refine qa_bi (nx := 110) (v := nI 10) at_108_108 (by decide) rfl ?_
    refine qn_icmp_ne (tg := 135) (nx := 113) at_108_110 rfl rfl (by decide) (by decide) (fun h => absurd h (by decide)) (fun h108_110 => ?_)
    refine qa_s (pc' := 115) at_108_113 rfl rfl rfl ?_
    refine qa_s (pc' := 116) at_108_115 rfl rfl rfl ?_
    refine qn_icmp_le (tg := 133) (nx := 119) at_108_116 rfl rfl (by omega) (by omega) (fun h108_116 => ?_) (fun h108_116 => ?_)
    · refine qa_ic (nx := 134) (v := nI 4) at_108_133 (by decide) rfl ?_
      refine qa_ret at_108_134 rfl ?_
      exact K1 (by first | exact Or.inl (by omega) | exact Or.inr (by omega))
    · refine qa_s (pc' := 120) at_108_119 rfl rfl rfl ?_
      refine qa_getR (nx := 123) at_108_120 rfl (by decide) rfl rfl (by decide) ?_
      refine qa_ic (nx := 124) (v := nI 3) at_108_123 (by decide) rfl ?_
      refine qa_s (pc' := 125) at_108_124 rfl rfl rfl ?_
      refine qa_mulN (nx := 126) at_108_125 rfl ?_
      refine qa_s (pc' := 128) at_108_126 rfl rfl rfl ?_
      refine qa_addN (nx := 129) at_108_128 rfl ?_
      refine qa_ialdV (nx := 130) (k := (3 * i) + (Y (3 * i + r) k)) (v := nI (L (3 * i + Y (3 * i + r) k))) at_108_129 rfl rfl rfl (by decide) rfl (show (3 * i) + (Y (3 * i + r) k) < 15 by omega) (show _ from eLy) ?_
      refine qn_if_ne (tg := 135) (nx := 133) at_108_130 rfl rfl (by omega) (fun h108_130 => ?_) (fun h108_130 => ?_)
      · refine qa_s (pc' := 137) at_108_135 rfl rfl rfl ?_
        refine qa_bi (nx := 139) (v := nI 8) at_108_137 (by decide) rfl ?_
        refine qn_icmp_ne (tg := 149) (nx := 142) at_108_139 rfl rfl (by decide) (by decide) (fun h108_139 => ?_) (fun h => absurd h (by decide))
        refine qa_s (pc' := 151) at_108_149 rfl rfl rfl ?_
        refine qa_bi (nx := 153) (v := nI 10) at_108_151 (by decide) rfl ?_
        refine qn_icmp_ne (tg := 166) (nx := 156) at_108_153 rfl rfl (by decide) (by decide) (fun h => absurd h (by decide)) (fun h108_153 => ?_)
        refine qa_s (pc' := 157) at_108_156 rfl rfl rfl ?_
        refine qa_s (pc' := 158) at_108_157 rfl rfl rfl ?_
        refine qa_s (pc' := 160) at_108_158 rfl rfl rfl ?_
        refine qa_callV (nx := 163) at_108_160 rfl rfl (Nat.le_of_ble_eq_true rfl) rfl rfl rfl (by decide) rfl (by decide) ?_
        show qa _ 110 0 [(0, .ref _), (1, .int _), (2, .int _)] [] _ _
        refine c110_y hi hI (by omega) hy2 ?_
        show qa _ 108 163 _ [.int _] _ _
        refine qa_goto (nx := 167) at_108_163 rfl ?_
        refine qa_s (pc' := 169) at_108_167 rfl rfl rfl ?_
        refine qa_s (pc' := 171) at_108_169 rfl rfl rfl ?_
        refine qa_s (pc' := 172) at_108_171 rfl rfl rfl ?_
        refine qa_callV (nx := 175) at_108_172 rfl rfl (Nat.le_of_ble_eq_true rfl) rfl rfl rfl (by decide) rfl (by decide) ?_
        show qa _ 111 0 [(0, .ref _)] [] _ _
        refine c111_q (n := 3 * i + r) (by omega) hI hO ?_
        show qa _ 108 175 _ [.int _, .int _] _ _
        refine qa_s (pc' := 176) at_108_175 rfl rfl rfl ?_
        refine qa_if_eq (tg := 181) (nx := 179) at_108_176 rfl rfl (fun h108_176 => ?_) (fun h108_176 => ?_)
        · refine qa_s (pc' := 183) at_108_181 rfl rfl rfl ?_
          refine qa_ic (nx := 184) (v := nI 5) at_108_183 (by decide) rfl ?_
          refine qn_icmp_ne (tg := 212) (nx := 187) at_108_184 rfl rfl (by decide) (by decide) (fun h108_184 => ?_) (fun h => absurd h (by decide))
          refine qa_ic (nx := 213) (v := nI 0) at_108_212 (by decide) rfl ?_
          refine qa_ret at_108_213 rfl ?_
          exact K0 (fun g => by omega) (by have := h108_176; rw [hcm] at this; exact (nI_eq0 (by omega)).mp this)
        · refine qa_ic (nx := 180) (v := nI 5) at_108_179 (by decide) rfl ?_
          refine qa_ret at_108_180 rfl ?_
          exact K2 (fun g => by omega) (fun g => h108_176 (by rw [hcm, g]; rfl))
      · refine qa_ic (nx := 134) (v := nI 4) at_108_133 (by decide) rfl ?_
        refine qa_ret at_108_134 rfl ?_
        exact K1 (by first | exact Or.inl (by omega) | exact Or.inr (by omega))
  · have t12 := (o5 (d - 1) (by omega)).1
    have tt := (h2 (s (d - 1)) (o5 (d - 1) (by omega)).1)
    refine qa_s (pc' := 38) at_108_37 rfl rfl rfl ?_
    refine qa_getR (nx := 41) at_108_38 rfl (by decide) rfl rfl (by decide) ?_
    refine qa_s (pc' := 42) at_108_41 rfl rfl rfl ?_
    refine qa_getR (nx := 45) at_108_42 rfl (by decide) rfl rfl (by decide) ?_
    refine qa_s (pc' := 46) at_108_45 rfl rfl rfl ?_
    refine qa_getV (nx := 49) (v := nI d) at_108_46 rfl (by decide) rfl rfl (by decide) (show _ from o14) ?_
    refine qa_ic (nx := 50) (v := nI 1) at_108_49 (by decide) rfl ?_
    refine qa_subN (nx := 51) at_108_50 rfl (by omega) ?_
    refine qa_ialdV (nx := 52) (k := d - 1) (v := nI ((3 * i + r) * 12 + s (d - 1))) at_108_51 rfl rfl rfl (by decide) rfl (show d - 1 < 12 by omega) (show _ from (o5 (d - 1) (by omega)).2) ?_
    refine qa_ialdV (nx := 53) (k := (3 * i + r) * 12 + s (d - 1)) (v := nI (P (3 * i + r) (s (d - 1)))) at_108_52 rfl rfl rfl (by decide) rfl (show (3 * i + r) * 12 + s (d - 1) < 180 by omega) (show _ from tt.2.1) ?_
    refine qa_goto (nx := 57) at_108_53 rfl ?_
    refine qa_s (pc' := 59) at_108_57 rfl rfl rfl ?_
    refine qa_s (pc' := 61) at_108_59 rfl rfl rfl ?_
    refine qa_bi (nx := 63) (v := nI 7) at_108_61 (by decide) rfl ?_
    refine qn_icmp_ne (tg := 73) (nx := 66) at_108_63 rfl rfl (by decide) (by decide) (fun h108_63 => ?_) (fun h => absurd h (by decide))
    refine qa_s (pc' := 75) at_108_73 rfl rfl rfl ?_
    refine qa_bi (nx := 77) (v := nI 9) at_108_75 (by decide) rfl ?_
    refine qn_icmp_ne (tg := 89) (nx := 80) at_108_77 rfl rfl (by decide) (by decide) (fun h108_77 => ?_) (fun h => absurd h (by decide))
    refine qa_s (pc' := 91) at_108_89 rfl rfl rfl ?_
    refine qa_bi (nx := 93) (v := nI 6) at_108_91 (by decide) rfl ?_
    refine qn_icmp_ne (tg := 106) (nx := 96) at_108_93 rfl rfl (by decide) (by decide) (fun h108_93 => ?_) (fun h => absurd h (by decide))
    refine qa_s (pc' := 108) at_108_106 rfl rfl rfl ?_
    refine qa_bi (nx := 110) (v := nI 10) at_108_108 (by decide) rfl ?_
    refine qn_icmp_ne (tg := 135) (nx := 113) at_108_110 rfl rfl (by decide) (by decide) (fun h => absurd h (by decide)) (fun h108_110 => ?_)
    refine qa_s (pc' := 115) at_108_113 rfl rfl rfl ?_
    refine qa_s (pc' := 116) at_108_115 rfl rfl rfl ?_
    refine qn_icmp_le (tg := 133) (nx := 119) at_108_116 rfl rfl (by omega) (by omega) (fun h108_116 => ?_) (fun h108_116 => ?_)
    · refine qa_ic (nx := 134) (v := nI 4) at_108_133 (by decide) rfl ?_
      refine qa_ret at_108_134 rfl ?_
      exact K1 (by first | exact Or.inl (by omega) | exact Or.inr (by omega))
    · refine qa_s (pc' := 120) at_108_119 rfl rfl rfl ?_
      refine qa_getR (nx := 123) at_108_120 rfl (by decide) rfl rfl (by decide) ?_
      refine qa_ic (nx := 124) (v := nI 3) at_108_123 (by decide) rfl ?_
      refine qa_s (pc' := 125) at_108_124 rfl rfl rfl ?_
      refine qa_mulN (nx := 126) at_108_125 rfl ?_
      refine qa_s (pc' := 128) at_108_126 rfl rfl rfl ?_
      refine qa_addN (nx := 129) at_108_128 rfl ?_
      refine qa_ialdV (nx := 130) (k := (3 * i) + (Y (3 * i + r) k)) (v := nI (L (3 * i + Y (3 * i + r) k))) at_108_129 rfl rfl rfl (by decide) rfl (show (3 * i) + (Y (3 * i + r) k) < 15 by omega) (show _ from eLy) ?_
      refine qn_if_ne (tg := 135) (nx := 133) at_108_130 rfl rfl (by omega) (fun h108_130 => ?_) (fun h108_130 => ?_)
      · refine qa_s (pc' := 137) at_108_135 rfl rfl rfl ?_
        refine qa_bi (nx := 139) (v := nI 8) at_108_137 (by decide) rfl ?_
        refine qn_icmp_ne (tg := 149) (nx := 142) at_108_139 rfl rfl (by decide) (by decide) (fun h108_139 => ?_) (fun h => absurd h (by decide))
        refine qa_s (pc' := 151) at_108_149 rfl rfl rfl ?_
        refine qa_bi (nx := 153) (v := nI 10) at_108_151 (by decide) rfl ?_
        refine qn_icmp_ne (tg := 166) (nx := 156) at_108_153 rfl rfl (by decide) (by decide) (fun h => absurd h (by decide)) (fun h108_153 => ?_)
        refine qa_s (pc' := 157) at_108_156 rfl rfl rfl ?_
        refine qa_s (pc' := 158) at_108_157 rfl rfl rfl ?_
        refine qa_s (pc' := 160) at_108_158 rfl rfl rfl ?_
        refine qa_callV (nx := 163) at_108_160 rfl rfl (Nat.le_of_ble_eq_true rfl) rfl rfl rfl (by decide) rfl (by decide) ?_
        show qa _ 110 0 [(0, .ref _), (1, .int _), (2, .int _)] [] _ _
        refine c110_y hi hI (by omega) hy2 ?_
        show qa _ 108 163 _ [.int _] _ _
        refine qa_goto (nx := 167) at_108_163 rfl ?_
        refine qa_s (pc' := 169) at_108_167 rfl rfl rfl ?_
        refine qa_s (pc' := 171) at_108_169 rfl rfl rfl ?_
        refine qa_s (pc' := 172) at_108_171 rfl rfl rfl ?_
        refine qa_callV (nx := 175) at_108_172 rfl rfl (Nat.le_of_ble_eq_true rfl) rfl rfl rfl (by decide) rfl (by decide) ?_
        show qa _ 111 0 [(0, .ref _)] [] _ _
        refine c111_q (n := 3 * i + r) (by omega) hI hO ?_
        show qa _ 108 175 _ [.int _, .int _] _ _
        refine qa_s (pc' := 176) at_108_175 rfl rfl rfl ?_
        refine qa_if_eq (tg := 181) (nx := 179) at_108_176 rfl rfl (fun h108_176 => ?_) (fun h108_176 => ?_)
        · refine qa_s (pc' := 183) at_108_181 rfl rfl rfl ?_
          refine qa_ic (nx := 184) (v := nI 5) at_108_183 (by decide) rfl ?_
          refine qn_icmp_ne (tg := 212) (nx := 187) at_108_184 rfl rfl (by decide) (by decide) (fun h108_184 => ?_) (fun h => absurd h (by decide))
          refine qa_ic (nx := 213) (v := nI 0) at_108_212 (by decide) rfl ?_
          refine qa_ret at_108_213 rfl ?_
          exact K0 (fun g => by omega) (by have := h108_176; rw [hcm] at this; exact (nI_eq0 (by omega)).mp this)
        · refine qa_ic (nx := 180) (v := nI 5) at_108_179 (by decide) rfl ?_
          refine qa_ret at_108_180 rfl ?_
          exact K2 (fun g => by omega) (fun g => h108_176 (by rw [hcm, g]; rfl))
      · refine qa_ic (nx := 134) (v := nI 4) at_108_133 (by decide) rfl ?_
        refine qa_ret at_108_134 rfl ?_
        exact K1 (by first | exact Or.inl (by omega) | exact Or.inr (by omega))
theorem me5_q (hi : i < 5) (hr : r < 3) (hk : k < L (3 * i + r)) (hI : ImM L P Y σ) (hO : opM_ (3 * i + r) d s σ) (hS : StOk (P (3 * i + r)) (Y (3 * i + r)) s d k) (ho : P (3 * i + r) k = 5) (K0 : (k + 1 + Y (3 * i + r) k ≤ L (3 * i + r) ∧ jmp (P (3 * i + r)) (Y (3 * i + r) k) (k + 1) 0 = true) → Q (some (.int (nI 0))) σ) (K1 : ¬ (k + 1 + Y (3 * i + r) k ≤ L (3 * i + r) ∧ jmp (P (3 * i + r)) (Y (3 * i + r) k) (k + 1) 0 = true) → Q (some (.int (nI 6))) σ) : qa cst 108 0 [(0, .ref (cl 40 0)), (1, .int (nI i)), (2, .int (nI r)), (3, .int (nI k))] [] σ Q := by
  obtain ⟨hL, e48, h2⟩ := hI (3 * i + r) (by omega)
  obtain ⟨hP, e44, h46⟩ := h2 k (by omega)
  obtain ⟨o12, o14, o5⟩ := id hO
  obtain ⟨hd, hl2, hs⟩ := id hS
  have hk12 : k < 12 := by omega
  have hlk := lks_w hS
  rw [ho] at e44
  refine qa_ic (nx := 1) (v := nI 3) at_108_0 (by decide) rfl ?_
  refine qa_s (pc' := 2) at_108_1 rfl rfl rfl ?_
  refine qa_mulN (nx := 3) at_108_2 rfl ?_
  refine qa_s (pc' := 4) at_108_3 rfl rfl rfl ?_
  refine qa_addN (nx := 5) at_108_4 rfl ?_
  refine qa_bi (nx := 7) (v := nI 12) at_108_5 (by decide) rfl ?_
  refine qa_mulN (nx := 8) at_108_7 rfl ?_
  refine qa_s (pc' := 9) at_108_8 rfl rfl rfl ?_
  refine qa_addN (nx := 10) at_108_9 rfl ?_
  refine qa_s (pc' := 12) at_108_10 rfl rfl rfl ?_
  refine qa_s (pc' := 13) at_108_12 rfl rfl rfl ?_
  refine qa_getR (nx := 16) at_108_13 rfl (by decide) rfl rfl (by decide) ?_
  refine qa_s (pc' := 18) at_108_16 rfl rfl rfl ?_
  refine qa_ialdV (nx := 19) (k := (((3 * i) + r) * 12) + k) (v := nI 5) at_108_18 rfl rfl rfl (by decide) rfl (show (((3 * i) + r) * 12) + k < 180 by omega) (show _ from e44) ?_
  refine qa_s (pc' := 21) at_108_19 rfl rfl rfl ?_
  refine qa_s (pc' := 22) at_108_21 rfl rfl rfl ?_
  refine qa_getR (nx := 25) at_108_22 rfl (by decide) rfl rfl (by decide) ?_
  refine qa_s (pc' := 27) at_108_25 rfl rfl rfl ?_
  refine qa_iald (nx := 28) (k := (((3 * i) + r) * 12) + k) at_108_27 rfl rfl rfl (by decide) rfl (show (((3 * i) + r) * 12) + k < 180 by omega) ?_
  refine qa_s (pc' := 30) at_108_28 rfl rfl rfl ?_
  refine qa_s (pc' := 31) at_108_30 rfl rfl rfl ?_
  refine qa_getV (nx := 34) (v := nI d) at_108_31 rfl (by decide) rfl rfl (by decide) (show _ from o14) ?_
  refine qn_if_le (tg := 56) (nx := 37) at_108_34 rfl rfl (by omega) (fun h108_34 => ?_) (fun h108_34 => ?_)
  · refine qa_ic (nx := 57) (v := (-1)) at_108_56 (by decide) rfl ?_
    refine qa_s (pc' := 59) at_108_57 rfl rfl rfl ?_
    refine qa_s (pc' := 61) at_108_59 rfl rfl rfl ?_
    refine qa_bi (nx := 63) (v := nI 7) at_108_61 (by decide) rfl ?_
    refine qn_icmp_ne (tg := 73) (nx := 66) at_108_63 rfl rfl (by decide) (by decide) (fun h108_63 => ?_) (fun h => absurd h (by decide))
    refine qa_s (pc' := 75) at_108_73 rfl rfl rfl ?_
    refine qa_bi (nx := 77) (v := nI 9) at_108_75 (by decide) rfl ?_
    refine qn_icmp_ne (tg := 89) (nx := 80) at_108_77 rfl rfl (by decide) (by decide) (fun h108_77 => ?_) (fun h => absurd h (by decide))
    refine qa_s (pc' := 91) at_108_89 rfl rfl rfl ?_
    refine qa_bi (nx := 93) (v := nI 6) at_108_91 (by decide) rfl ?_
    refine qn_icmp_ne (tg := 106) (nx := 96) at_108_93 rfl rfl (by decide) (by decide) (fun h108_93 => ?_) (fun h => absurd h (by decide))
    refine qa_s (pc' := 108) at_108_106 rfl rfl rfl ?_
    refine qa_bi (nx := 110) (v := nI 10) at_108_108 (by decide) rfl ?_
    refine qn_icmp_ne (tg := 135) (nx := 113) at_108_110 rfl rfl (by decide) (by decide) (fun h108_110 => ?_) (fun h => absurd h (by decide))
    refine qa_s (pc' := 137) at_108_135 rfl rfl rfl ?_
    refine qa_bi (nx := 139) (v := nI 8) at_108_137 (by decide) rfl ?_
    refine qn_icmp_ne (tg := 149) (nx := 142) at_108_139 rfl rfl (by decide) (by decide) (fun h108_139 => ?_) (fun h => absurd h (by decide))
    refine qa_s (pc' := 151) at_108_149 rfl rfl rfl ?_
    refine qa_bi (nx := 153) (v := nI 10) at_108_151 (by decide) rfl ?_
    refine qn_icmp_ne (tg := 166) (nx := 156) at_108_153 rfl rfl (by decide) (by decide) (fun h108_153 => ?_) (fun h => absurd h (by decide))
    refine qa_ic (nx := 167) (v := nI 0) at_108_166 (by decide) rfl ?_
    refine qa_s (pc' := 169) at_108_167 rfl rfl rfl ?_
    refine qa_s (pc' := 171) at_108_169 rfl rfl rfl ?_
    refine qa_s (pc' := 172) at_108_171 rfl rfl rfl ?_
    refine qa_callV (nx := 175) at_108_172 rfl rfl (Nat.le_of_ble_eq_true rfl) rfl rfl rfl (by decide) rfl (by decide) ?_
    show qa _ 111 0 [(0, .ref _)] [] _ _
    refine c111_q (n := 3 * i + r) (by omega) hI hO ?_
    show qa _ 108 175 _ [.int _, .int _] _ _
    refine qa_s (pc' := 176) at_108_175 rfl rfl rfl ?_
    refine qa_if_eq (tg := 181) (nx := 179) at_108_176 rfl rfl (fun h108_176 => ?_) (fun h108_176 => ?_)
    · refine qa_s (pc' := 183) at_108_181 rfl rfl rfl ?_
      refine qa_ic (nx := 184) (v := nI 5) at_108_183 (by decide) rfl ?_
      refine qn_icmp_ne (tg := 212) (nx := 187) at_108_184 rfl rfl (by decide) (by decide) (fun h => absurd h (by decide)) (fun h108_184 => ?_)
      refine qa_s (pc' := 188) at_108_187 rfl rfl rfl ?_
      refine qa_s (pc' := 190) at_108_188 rfl rfl rfl ?_
      refine qa_s (pc' := 191) at_108_190 rfl rfl rfl ?_
      refine qa_s (pc' := 192) at_108_191 rfl rfl rfl ?_
      refine qa_getR (nx := 195) at_108_192 rfl (by decide) rfl rfl (by decide) ?_
      refine qa_ic (nx := 196) (v := nI 3) at_108_195 (by decide) rfl ?_
      refine qa_s (pc' := 197) at_108_196 rfl rfl rfl ?_
      refine qa_mulN (nx := 198) at_108_197 rfl ?_
      refine qa_s (pc' := 199) at_108_198 rfl rfl rfl ?_
      refine qa_addN (nx := 200) at_108_199 rfl ?_
      refine qa_ialdV (nx := 201) (k := (3 * i) + r) (v := nI (L (3 * i + r))) at_108_200 rfl rfl rfl (by decide) rfl (show (3 * i) + r < 15 by omega) (show _ from e48) ?_
      refine qa_callV (nx := 204) at_108_201 rfl rfl (Nat.le_of_ble_eq_true rfl) rfl rfl rfl (by decide) rfl (by decide) ?_
      show qa _ 112 0 [(0, .ref _), (1, .int _), (2, .int _), (3, .int _)] [] _ _
      refine c112_q (n := 3 * i + r) (by omega) hk hI ho ?_
      show qa _ 108 204 _ [.int _] _ _
      refine qa_if_ne (tg := 212) (nx := 207) at_108_204 rfl rfl (fun h108_204 => ?_) (fun h108_204 => ?_)
      · refine qa_ic (nx := 213) (v := nI 0) at_108_212 (by decide) rfl ?_
        refine qa_ret at_108_213 rfl ?_
        exact K0 (bi_n h108_204)
      · refine qa_bi (nx := 209) (v := nI 6) at_108_207 (by decide) rfl ?_
        refine qa_goto (nx := 213) at_108_209 rfl ?_
        refine qa_ret at_108_213 rfl ?_
        exact K1 (bi_z h108_204)
    · exact absurd h108_176 (fun g => g (by rw [show nI 0 = 0 from rfl, Int32.zero_and]))
  · have t12 := (o5 (d - 1) (by omega)).1
    have tt := (h2 (s (d - 1)) (o5 (d - 1) (by omega)).1)
    refine qa_s (pc' := 38) at_108_37 rfl rfl rfl ?_
    refine qa_getR (nx := 41) at_108_38 rfl (by decide) rfl rfl (by decide) ?_
    refine qa_s (pc' := 42) at_108_41 rfl rfl rfl ?_
    refine qa_getR (nx := 45) at_108_42 rfl (by decide) rfl rfl (by decide) ?_
    refine qa_s (pc' := 46) at_108_45 rfl rfl rfl ?_
    refine qa_getV (nx := 49) (v := nI d) at_108_46 rfl (by decide) rfl rfl (by decide) (show _ from o14) ?_
    refine qa_ic (nx := 50) (v := nI 1) at_108_49 (by decide) rfl ?_
    refine qa_subN (nx := 51) at_108_50 rfl (by omega) ?_
    refine qa_ialdV (nx := 52) (k := d - 1) (v := nI ((3 * i + r) * 12 + s (d - 1))) at_108_51 rfl rfl rfl (by decide) rfl (show d - 1 < 12 by omega) (show _ from (o5 (d - 1) (by omega)).2) ?_
    refine qa_ialdV (nx := 53) (k := (3 * i + r) * 12 + s (d - 1)) (v := nI (P (3 * i + r) (s (d - 1)))) at_108_52 rfl rfl rfl (by decide) rfl (show (3 * i + r) * 12 + s (d - 1) < 180 by omega) (show _ from tt.2.1) ?_
    refine qa_goto (nx := 57) at_108_53 rfl ?_
    refine qa_s (pc' := 59) at_108_57 rfl rfl rfl ?_
    refine qa_s (pc' := 61) at_108_59 rfl rfl rfl ?_
    refine qa_bi (nx := 63) (v := nI 7) at_108_61 (by decide) rfl ?_
    refine qn_icmp_ne (tg := 73) (nx := 66) at_108_63 rfl rfl (by decide) (by decide) (fun h108_63 => ?_) (fun h => absurd h (by decide))
    refine qa_s (pc' := 75) at_108_73 rfl rfl rfl ?_
    refine qa_bi (nx := 77) (v := nI 9) at_108_75 (by decide) rfl ?_
    refine qn_icmp_ne (tg := 89) (nx := 80) at_108_77 rfl rfl (by decide) (by decide) (fun h108_77 => ?_) (fun h => absurd h (by decide))
    refine qa_s (pc' := 91) at_108_89 rfl rfl rfl ?_
    refine qa_bi (nx := 93) (v := nI 6) at_108_91 (by decide) rfl ?_
    refine qn_icmp_ne (tg := 106) (nx := 96) at_108_93 rfl rfl (by decide) (by decide) (fun h108_93 => ?_) (fun h => absurd h (by decide))
    refine qa_s (pc' := 108) at_108_106 rfl rfl rfl ?_
    refine qa_bi (nx := 110) (v := nI 10) at_108_108 (by decide) rfl ?_
    refine qn_icmp_ne (tg := 135) (nx := 113) at_108_110 rfl rfl (by decide) (by decide) (fun h108_110 => ?_) (fun h => absurd h (by decide))
    refine qa_s (pc' := 137) at_108_135 rfl rfl rfl ?_
    refine qa_bi (nx := 139) (v := nI 8) at_108_137 (by decide) rfl ?_
    refine qn_icmp_ne (tg := 149) (nx := 142) at_108_139 rfl rfl (by decide) (by decide) (fun h108_139 => ?_) (fun h => absurd h (by decide))
    refine qa_s (pc' := 151) at_108_149 rfl rfl rfl ?_
    refine qa_bi (nx := 153) (v := nI 10) at_108_151 (by decide) rfl ?_
    refine qn_icmp_ne (tg := 166) (nx := 156) at_108_153 rfl rfl (by decide) (by decide) (fun h108_153 => ?_) (fun h => absurd h (by decide))
    refine qa_ic (nx := 167) (v := nI 0) at_108_166 (by decide) rfl ?_
    refine qa_s (pc' := 169) at_108_167 rfl rfl rfl ?_
    refine qa_s (pc' := 171) at_108_169 rfl rfl rfl ?_
    refine qa_s (pc' := 172) at_108_171 rfl rfl rfl ?_
    refine qa_callV (nx := 175) at_108_172 rfl rfl (Nat.le_of_ble_eq_true rfl) rfl rfl rfl (by decide) rfl (by decide) ?_
    show qa _ 111 0 [(0, .ref _)] [] _ _
    refine c111_q (n := 3 * i + r) (by omega) hI hO ?_
    show qa _ 108 175 _ [.int _, .int _] _ _
    refine qa_s (pc' := 176) at_108_175 rfl rfl rfl ?_
    refine qa_if_eq (tg := 181) (nx := 179) at_108_176 rfl rfl (fun h108_176 => ?_) (fun h108_176 => ?_)
    · refine qa_s (pc' := 183) at_108_181 rfl rfl rfl ?_
      refine qa_ic (nx := 184) (v := nI 5) at_108_183 (by decide) rfl ?_
      refine qn_icmp_ne (tg := 212) (nx := 187) at_108_184 rfl rfl (by decide) (by decide) (fun h => absurd h (by decide)) (fun h108_184 => ?_)
      refine qa_s (pc' := 188) at_108_187 rfl rfl rfl ?_
      refine qa_s (pc' := 190) at_108_188 rfl rfl rfl ?_
      refine qa_s (pc' := 191) at_108_190 rfl rfl rfl ?_
      refine qa_s (pc' := 192) at_108_191 rfl rfl rfl ?_
      refine qa_getR (nx := 195) at_108_192 rfl (by decide) rfl rfl (by decide) ?_
      refine qa_ic (nx := 196) (v := nI 3) at_108_195 (by decide) rfl ?_
      refine qa_s (pc' := 197) at_108_196 rfl rfl rfl ?_
      refine qa_mulN (nx := 198) at_108_197 rfl ?_
      refine qa_s (pc' := 199) at_108_198 rfl rfl rfl ?_
      refine qa_addN (nx := 200) at_108_199 rfl ?_
      refine qa_ialdV (nx := 201) (k := (3 * i) + r) (v := nI (L (3 * i + r))) at_108_200 rfl rfl rfl (by decide) rfl (show (3 * i) + r < 15 by omega) (show _ from e48) ?_
      refine qa_callV (nx := 204) at_108_201 rfl rfl (Nat.le_of_ble_eq_true rfl) rfl rfl rfl (by decide) rfl (by decide) ?_
      show qa _ 112 0 [(0, .ref _), (1, .int _), (2, .int _), (3, .int _)] [] _ _
      refine c112_q (n := 3 * i + r) (by omega) hk hI ho ?_
      show qa _ 108 204 _ [.int _] _ _
      refine qa_if_ne (tg := 212) (nx := 207) at_108_204 rfl rfl (fun h108_204 => ?_) (fun h108_204 => ?_)
      · refine qa_ic (nx := 213) (v := nI 0) at_108_212 (by decide) rfl ?_
        refine qa_ret at_108_213 rfl ?_
        exact K0 (bi_n h108_204)
      · refine qa_bi (nx := 209) (v := nI 6) at_108_207 (by decide) rfl ?_
        refine qa_goto (nx := 213) at_108_209 rfl ?_
        refine qa_ret at_108_213 rfl ?_
        exact K1 (bi_z h108_204)
    · exact absurd h108_176 (fun g => g (by rw [show nI 0 = 0 from rfl, Int32.zero_and]))
theorem me0_q (hi : i < 5) (hr : r < 3) (hk : k < L (3 * i + r)) (hI : ImM L P Y σ) (hO : opM_ (3 * i + r) d s σ) (hS : StOk (P (3 * i + r)) (Y (3 * i + r)) s d k) (ho : P (3 * i + r) k = 0) (K0 : Q (some (.int (nI 0))) σ) : qa cst 108 0 [(0, .ref (cl 40 0)), (1, .int (nI i)), (2, .int (nI r)), (3, .int (nI k))] [] σ Q := by
  obtain ⟨hL, e48, h2⟩ := hI (3 * i + r) (by omega)
  obtain ⟨hP, e44, h46⟩ := h2 k (by omega)
  obtain ⟨o12, o14, o5⟩ := id hO
  obtain ⟨hd, hl2, hs⟩ := id hS
  have hk12 : k < 12 := by omega
  have hlk := lks_w hS
  rw [ho] at e44
  refine qa_ic (nx := 1) (v := nI 3) at_108_0 (by decide) rfl ?_
  refine qa_s (pc' := 2) at_108_1 rfl rfl rfl ?_
  refine qa_mulN (nx := 3) at_108_2 rfl ?_
  refine qa_s (pc' := 4) at_108_3 rfl rfl rfl ?_
  refine qa_addN (nx := 5) at_108_4 rfl ?_
  refine qa_bi (nx := 7) (v := nI 12) at_108_5 (by decide) rfl ?_
  refine qa_mulN (nx := 8) at_108_7 rfl ?_
  refine qa_s (pc' := 9) at_108_8 rfl rfl rfl ?_
  refine qa_addN (nx := 10) at_108_9 rfl ?_
  refine qa_s (pc' := 12) at_108_10 rfl rfl rfl ?_
  refine qa_s (pc' := 13) at_108_12 rfl rfl rfl ?_
  refine qa_getR (nx := 16) at_108_13 rfl (by decide) rfl rfl (by decide) ?_
  refine qa_s (pc' := 18) at_108_16 rfl rfl rfl ?_
  refine qa_ialdV (nx := 19) (k := (((3 * i) + r) * 12) + k) (v := nI 0) at_108_18 rfl rfl rfl (by decide) rfl (show (((3 * i) + r) * 12) + k < 180 by omega) (show _ from e44) ?_
  refine qa_s (pc' := 21) at_108_19 rfl rfl rfl ?_
  refine qa_s (pc' := 22) at_108_21 rfl rfl rfl ?_
  refine qa_getR (nx := 25) at_108_22 rfl (by decide) rfl rfl (by decide) ?_
  refine qa_s (pc' := 27) at_108_25 rfl rfl rfl ?_
  refine qa_iald (nx := 28) (k := (((3 * i) + r) * 12) + k) at_108_27 rfl rfl rfl (by decide) rfl (show (((3 * i) + r) * 12) + k < 180 by omega) ?_
  refine qa_s (pc' := 30) at_108_28 rfl rfl rfl ?_
  refine qa_s (pc' := 31) at_108_30 rfl rfl rfl ?_
  refine qa_getV (nx := 34) (v := nI d) at_108_31 rfl (by decide) rfl rfl (by decide) (show _ from o14) ?_
  refine qn_if_le (tg := 56) (nx := 37) at_108_34 rfl rfl (by omega) (fun h108_34 => ?_) (fun h108_34 => ?_)
  · refine qa_ic (nx := 57) (v := (-1)) at_108_56 (by decide) rfl ?_
    refine qa_s (pc' := 59) at_108_57 rfl rfl rfl ?_
    refine qa_s (pc' := 61) at_108_59 rfl rfl rfl ?_
    refine qa_bi (nx := 63) (v := nI 7) at_108_61 (by decide) rfl ?_
    refine qn_icmp_ne (tg := 73) (nx := 66) at_108_63 rfl rfl (by decide) (by decide) (fun h108_63 => ?_) (fun h => absurd h (by decide))
    refine qa_s (pc' := 75) at_108_73 rfl rfl rfl ?_
    refine qa_bi (nx := 77) (v := nI 9) at_108_75 (by decide) rfl ?_
    refine qn_icmp_ne (tg := 89) (nx := 80) at_108_77 rfl rfl (by decide) (by decide) (fun h108_77 => ?_) (fun h => absurd h (by decide))
    refine qa_s (pc' := 91) at_108_89 rfl rfl rfl ?_
    refine qa_bi (nx := 93) (v := nI 6) at_108_91 (by decide) rfl ?_
    refine qn_icmp_ne (tg := 106) (nx := 96) at_108_93 rfl rfl (by decide) (by decide) (fun h108_93 => ?_) (fun h => absurd h (by decide))
    refine qa_s (pc' := 108) at_108_106 rfl rfl rfl ?_
    refine qa_bi (nx := 110) (v := nI 10) at_108_108 (by decide) rfl ?_
    refine qn_icmp_ne (tg := 135) (nx := 113) at_108_110 rfl rfl (by decide) (by decide) (fun h108_110 => ?_) (fun h => absurd h (by decide))
    refine qa_s (pc' := 137) at_108_135 rfl rfl rfl ?_
    refine qa_bi (nx := 139) (v := nI 8) at_108_137 (by decide) rfl ?_
    refine qn_icmp_ne (tg := 149) (nx := 142) at_108_139 rfl rfl (by decide) (by decide) (fun h108_139 => ?_) (fun h => absurd h (by decide))
    refine qa_s (pc' := 151) at_108_149 rfl rfl rfl ?_
    refine qa_bi (nx := 153) (v := nI 10) at_108_151 (by decide) rfl ?_
    refine qn_icmp_ne (tg := 166) (nx := 156) at_108_153 rfl rfl (by decide) (by decide) (fun h108_153 => ?_) (fun h => absurd h (by decide))
    refine qa_ic (nx := 167) (v := nI 0) at_108_166 (by decide) rfl ?_
    refine qa_s (pc' := 169) at_108_167 rfl rfl rfl ?_
    refine qa_s (pc' := 171) at_108_169 rfl rfl rfl ?_
    refine qa_s (pc' := 172) at_108_171 rfl rfl rfl ?_
    refine qa_callV (nx := 175) at_108_172 rfl rfl (Nat.le_of_ble_eq_true rfl) rfl rfl rfl (by decide) rfl (by decide) ?_
    show qa _ 111 0 [(0, .ref _)] [] _ _
    refine c111_q (n := 3 * i + r) (by omega) hI hO ?_
    show qa _ 108 175 _ [.int _, .int _] _ _
    refine qa_s (pc' := 176) at_108_175 rfl rfl rfl ?_
    refine qa_if_eq (tg := 181) (nx := 179) at_108_176 rfl rfl (fun h108_176 => ?_) (fun h108_176 => ?_)
    · refine qa_s (pc' := 183) at_108_181 rfl rfl rfl ?_
      refine qa_ic (nx := 184) (v := nI 5) at_108_183 (by decide) rfl ?_
      refine qn_icmp_ne (tg := 212) (nx := 187) at_108_184 rfl rfl (by decide) (by decide) (fun h108_184 => ?_) (fun h => absurd h (by decide))
      refine qa_ic (nx := 213) (v := nI 0) at_108_212 (by decide) rfl ?_
      refine qa_ret at_108_213 rfl ?_
      exact K0
    · exact absurd h108_176 (fun g => g (by rw [show nI 0 = 0 from rfl, Int32.zero_and]))
  · have t12 := (o5 (d - 1) (by omega)).1
    have tt := (h2 (s (d - 1)) (o5 (d - 1) (by omega)).1)
    refine qa_s (pc' := 38) at_108_37 rfl rfl rfl ?_
    refine qa_getR (nx := 41) at_108_38 rfl (by decide) rfl rfl (by decide) ?_
    refine qa_s (pc' := 42) at_108_41 rfl rfl rfl ?_
    refine qa_getR (nx := 45) at_108_42 rfl (by decide) rfl rfl (by decide) ?_
    refine qa_s (pc' := 46) at_108_45 rfl rfl rfl ?_
    refine qa_getV (nx := 49) (v := nI d) at_108_46 rfl (by decide) rfl rfl (by decide) (show _ from o14) ?_
    refine qa_ic (nx := 50) (v := nI 1) at_108_49 (by decide) rfl ?_
    refine qa_subN (nx := 51) at_108_50 rfl (by omega) ?_
    refine qa_ialdV (nx := 52) (k := d - 1) (v := nI ((3 * i + r) * 12 + s (d - 1))) at_108_51 rfl rfl rfl (by decide) rfl (show d - 1 < 12 by omega) (show _ from (o5 (d - 1) (by omega)).2) ?_
    refine qa_ialdV (nx := 53) (k := (3 * i + r) * 12 + s (d - 1)) (v := nI (P (3 * i + r) (s (d - 1)))) at_108_52 rfl rfl rfl (by decide) rfl (show (3 * i + r) * 12 + s (d - 1) < 180 by omega) (show _ from tt.2.1) ?_
    refine qa_goto (nx := 57) at_108_53 rfl ?_
    refine qa_s (pc' := 59) at_108_57 rfl rfl rfl ?_
    refine qa_s (pc' := 61) at_108_59 rfl rfl rfl ?_
    refine qa_bi (nx := 63) (v := nI 7) at_108_61 (by decide) rfl ?_
    refine qn_icmp_ne (tg := 73) (nx := 66) at_108_63 rfl rfl (by decide) (by decide) (fun h108_63 => ?_) (fun h => absurd h (by decide))
    refine qa_s (pc' := 75) at_108_73 rfl rfl rfl ?_
    refine qa_bi (nx := 77) (v := nI 9) at_108_75 (by decide) rfl ?_
    refine qn_icmp_ne (tg := 89) (nx := 80) at_108_77 rfl rfl (by decide) (by decide) (fun h108_77 => ?_) (fun h => absurd h (by decide))
    refine qa_s (pc' := 91) at_108_89 rfl rfl rfl ?_
    refine qa_bi (nx := 93) (v := nI 6) at_108_91 (by decide) rfl ?_
    refine qn_icmp_ne (tg := 106) (nx := 96) at_108_93 rfl rfl (by decide) (by decide) (fun h108_93 => ?_) (fun h => absurd h (by decide))
    refine qa_s (pc' := 108) at_108_106 rfl rfl rfl ?_
    refine qa_bi (nx := 110) (v := nI 10) at_108_108 (by decide) rfl ?_
    refine qn_icmp_ne (tg := 135) (nx := 113) at_108_110 rfl rfl (by decide) (by decide) (fun h108_110 => ?_) (fun h => absurd h (by decide))
    refine qa_s (pc' := 137) at_108_135 rfl rfl rfl ?_
    refine qa_bi (nx := 139) (v := nI 8) at_108_137 (by decide) rfl ?_
    refine qn_icmp_ne (tg := 149) (nx := 142) at_108_139 rfl rfl (by decide) (by decide) (fun h108_139 => ?_) (fun h => absurd h (by decide))
    refine qa_s (pc' := 151) at_108_149 rfl rfl rfl ?_
    refine qa_bi (nx := 153) (v := nI 10) at_108_151 (by decide) rfl ?_
    refine qn_icmp_ne (tg := 166) (nx := 156) at_108_153 rfl rfl (by decide) (by decide) (fun h108_153 => ?_) (fun h => absurd h (by decide))
    refine qa_ic (nx := 167) (v := nI 0) at_108_166 (by decide) rfl ?_
    refine qa_s (pc' := 169) at_108_167 rfl rfl rfl ?_
    refine qa_s (pc' := 171) at_108_169 rfl rfl rfl ?_
    refine qa_s (pc' := 172) at_108_171 rfl rfl rfl ?_
    refine qa_callV (nx := 175) at_108_172 rfl rfl (Nat.le_of_ble_eq_true rfl) rfl rfl rfl (by decide) rfl (by decide) ?_
    show qa _ 111 0 [(0, .ref _)] [] _ _
    refine c111_q (n := 3 * i + r) (by omega) hI hO ?_
    show qa _ 108 175 _ [.int _, .int _] _ _
    refine qa_s (pc' := 176) at_108_175 rfl rfl rfl ?_
    refine qa_if_eq (tg := 181) (nx := 179) at_108_176 rfl rfl (fun h108_176 => ?_) (fun h108_176 => ?_)
    · refine qa_s (pc' := 183) at_108_181 rfl rfl rfl ?_
      refine qa_ic (nx := 184) (v := nI 5) at_108_183 (by decide) rfl ?_
      refine qn_icmp_ne (tg := 212) (nx := 187) at_108_184 rfl rfl (by decide) (by decide) (fun h108_184 => ?_) (fun h => absurd h (by decide))
      refine qa_ic (nx := 213) (v := nI 0) at_108_212 (by decide) rfl ?_
      refine qa_ret at_108_213 rfl ?_
      exact K0
    · exact absurd h108_176 (fun g => g (by rw [show nI 0 = 0 from rfl, Int32.zero_and]))
theorem me1_q (hi : i < 5) (hr : r < 3) (hk : k < L (3 * i + r)) (hI : ImM L P Y σ) (hO : opM_ (3 * i + r) d s σ) (hS : StOk (P (3 * i + r)) (Y (3 * i + r)) s d k) (ho : P (3 * i + r) k = 1) (K0 : Q (some (.int (nI 0))) σ) : qa cst 108 0 [(0, .ref (cl 40 0)), (1, .int (nI i)), (2, .int (nI r)), (3, .int (nI k))] [] σ Q := by
  obtain ⟨hL, e48, h2⟩ := hI (3 * i + r) (by omega)
  obtain ⟨hP, e44, h46⟩ := h2 k (by omega)
  obtain ⟨o12, o14, o5⟩ := id hO
  obtain ⟨hd, hl2, hs⟩ := id hS
  have hk12 : k < 12 := by omega
  have hlk := lks_w hS
  rw [ho] at e44
  refine qa_ic (nx := 1) (v := nI 3) at_108_0 (by decide) rfl ?_
  refine qa_s (pc' := 2) at_108_1 rfl rfl rfl ?_
  refine qa_mulN (nx := 3) at_108_2 rfl ?_
  refine qa_s (pc' := 4) at_108_3 rfl rfl rfl ?_
  refine qa_addN (nx := 5) at_108_4 rfl ?_
  refine qa_bi (nx := 7) (v := nI 12) at_108_5 (by decide) rfl ?_
  refine qa_mulN (nx := 8) at_108_7 rfl ?_
  refine qa_s (pc' := 9) at_108_8 rfl rfl rfl ?_
  refine qa_addN (nx := 10) at_108_9 rfl ?_
  refine qa_s (pc' := 12) at_108_10 rfl rfl rfl ?_
  refine qa_s (pc' := 13) at_108_12 rfl rfl rfl ?_
  refine qa_getR (nx := 16) at_108_13 rfl (by decide) rfl rfl (by decide) ?_
  refine qa_s (pc' := 18) at_108_16 rfl rfl rfl ?_
  refine qa_ialdV (nx := 19) (k := (((3 * i) + r) * 12) + k) (v := nI 1) at_108_18 rfl rfl rfl (by decide) rfl (show (((3 * i) + r) * 12) + k < 180 by omega) (show _ from e44) ?_
  refine qa_s (pc' := 21) at_108_19 rfl rfl rfl ?_
  refine qa_s (pc' := 22) at_108_21 rfl rfl rfl ?_
  refine qa_getR (nx := 25) at_108_22 rfl (by decide) rfl rfl (by decide) ?_
  refine qa_s (pc' := 27) at_108_25 rfl rfl rfl ?_
  refine qa_iald (nx := 28) (k := (((3 * i) + r) * 12) + k) at_108_27 rfl rfl rfl (by decide) rfl (show (((3 * i) + r) * 12) + k < 180 by omega) ?_
  refine qa_s (pc' := 30) at_108_28 rfl rfl rfl ?_
  refine qa_s (pc' := 31) at_108_30 rfl rfl rfl ?_
  refine qa_getV (nx := 34) (v := nI d) at_108_31 rfl (by decide) rfl rfl (by decide) (show _ from o14) ?_
  refine qn_if_le (tg := 56) (nx := 37) at_108_34 rfl rfl (by omega) (fun h108_34 => ?_) (fun h108_34 => ?_)
  · refine qa_ic (nx := 57) (v := (-1)) at_108_56 (by decide) rfl ?_
    refine qa_s (pc' := 59) at_108_57 rfl rfl rfl ?_
    refine qa_s (pc' := 61) at_108_59 rfl rfl rfl ?_
    refine qa_bi (nx := 63) (v := nI 7) at_108_61 (by decide) rfl ?_
    refine qn_icmp_ne (tg := 73) (nx := 66) at_108_63 rfl rfl (by decide) (by decide) (fun h108_63 => ?_) (fun h => absurd h (by decide))
    refine qa_s (pc' := 75) at_108_73 rfl rfl rfl ?_
    refine qa_bi (nx := 77) (v := nI 9) at_108_75 (by decide) rfl ?_
    refine qn_icmp_ne (tg := 89) (nx := 80) at_108_77 rfl rfl (by decide) (by decide) (fun h108_77 => ?_) (fun h => absurd h (by decide))
    refine qa_s (pc' := 91) at_108_89 rfl rfl rfl ?_
    refine qa_bi (nx := 93) (v := nI 6) at_108_91 (by decide) rfl ?_
    refine qn_icmp_ne (tg := 106) (nx := 96) at_108_93 rfl rfl (by decide) (by decide) (fun h108_93 => ?_) (fun h => absurd h (by decide))
    refine qa_s (pc' := 108) at_108_106 rfl rfl rfl ?_
    refine qa_bi (nx := 110) (v := nI 10) at_108_108 (by decide) rfl ?_
    refine qn_icmp_ne (tg := 135) (nx := 113) at_108_110 rfl rfl (by decide) (by decide) (fun h108_110 => ?_) (fun h => absurd h (by decide))
    refine qa_s (pc' := 137) at_108_135 rfl rfl rfl ?_
    refine qa_bi (nx := 139) (v := nI 8) at_108_137 (by decide) rfl ?_
    refine qn_icmp_ne (tg := 149) (nx := 142) at_108_139 rfl rfl (by decide) (by decide) (fun h108_139 => ?_) (fun h => absurd h (by decide))
    refine qa_s (pc' := 151) at_108_149 rfl rfl rfl ?_
    refine qa_bi (nx := 153) (v := nI 10) at_108_151 (by decide) rfl ?_
    refine qn_icmp_ne (tg := 166) (nx := 156) at_108_153 rfl rfl (by decide) (by decide) (fun h108_153 => ?_) (fun h => absurd h (by decide))
    refine qa_ic (nx := 167) (v := nI 0) at_108_166 (by decide) rfl ?_
    refine qa_s (pc' := 169) at_108_167 rfl rfl rfl ?_
    refine qa_s (pc' := 171) at_108_169 rfl rfl rfl ?_
    refine qa_s (pc' := 172) at_108_171 rfl rfl rfl ?_
    refine qa_callV (nx := 175) at_108_172 rfl rfl (Nat.le_of_ble_eq_true rfl) rfl rfl rfl (by decide) rfl (by decide) ?_
    show qa _ 111 0 [(0, .ref _)] [] _ _
    refine c111_q (n := 3 * i + r) (by omega) hI hO ?_
    show qa _ 108 175 _ [.int _, .int _] _ _
    refine qa_s (pc' := 176) at_108_175 rfl rfl rfl ?_
    refine qa_if_eq (tg := 181) (nx := 179) at_108_176 rfl rfl (fun h108_176 => ?_) (fun h108_176 => ?_)
    · refine qa_s (pc' := 183) at_108_181 rfl rfl rfl ?_
      refine qa_ic (nx := 184) (v := nI 5) at_108_183 (by decide) rfl ?_
      refine qn_icmp_ne (tg := 212) (nx := 187) at_108_184 rfl rfl (by decide) (by decide) (fun h108_184 => ?_) (fun h => absurd h (by decide))
      refine qa_ic (nx := 213) (v := nI 0) at_108_212 (by decide) rfl ?_
      refine qa_ret at_108_213 rfl ?_
      exact K0
    · exact absurd h108_176 (fun g => g (by rw [show nI 0 = 0 from rfl, Int32.zero_and]))
  · have t12 := (o5 (d - 1) (by omega)).1
    have tt := (h2 (s (d - 1)) (o5 (d - 1) (by omega)).1)
    refine qa_s (pc' := 38) at_108_37 rfl rfl rfl ?_
    refine qa_getR (nx := 41) at_108_38 rfl (by decide) rfl rfl (by decide) ?_
    refine qa_s (pc' := 42) at_108_41 rfl rfl rfl ?_
    refine qa_getR (nx := 45) at_108_42 rfl (by decide) rfl rfl (by decide) ?_
    refine qa_s (pc' := 46) at_108_45 rfl rfl rfl ?_
    refine qa_getV (nx := 49) (v := nI d) at_108_46 rfl (by decide) rfl rfl (by decide) (show _ from o14) ?_
    refine qa_ic (nx := 50) (v := nI 1) at_108_49 (by decide) rfl ?_
    refine qa_subN (nx := 51) at_108_50 rfl (by omega) ?_
    refine qa_ialdV (nx := 52) (k := d - 1) (v := nI ((3 * i + r) * 12 + s (d - 1))) at_108_51 rfl rfl rfl (by decide) rfl (show d - 1 < 12 by omega) (show _ from (o5 (d - 1) (by omega)).2) ?_
    refine qa_ialdV (nx := 53) (k := (3 * i + r) * 12 + s (d - 1)) (v := nI (P (3 * i + r) (s (d - 1)))) at_108_52 rfl rfl rfl (by decide) rfl (show (3 * i + r) * 12 + s (d - 1) < 180 by omega) (show _ from tt.2.1) ?_
    refine qa_goto (nx := 57) at_108_53 rfl ?_
    refine qa_s (pc' := 59) at_108_57 rfl rfl rfl ?_
    refine qa_s (pc' := 61) at_108_59 rfl rfl rfl ?_
    refine qa_bi (nx := 63) (v := nI 7) at_108_61 (by decide) rfl ?_
    refine qn_icmp_ne (tg := 73) (nx := 66) at_108_63 rfl rfl (by decide) (by decide) (fun h108_63 => ?_) (fun h => absurd h (by decide))
    refine qa_s (pc' := 75) at_108_73 rfl rfl rfl ?_
    refine qa_bi (nx := 77) (v := nI 9) at_108_75 (by decide) rfl ?_
    refine qn_icmp_ne (tg := 89) (nx := 80) at_108_77 rfl rfl (by decide) (by decide) (fun h108_77 => ?_) (fun h => absurd h (by decide))
    refine qa_s (pc' := 91) at_108_89 rfl rfl rfl ?_
    refine qa_bi (nx := 93) (v := nI 6) at_108_91 (by decide) rfl ?_
    refine qn_icmp_ne (tg := 106) (nx := 96) at_108_93 rfl rfl (by decide) (by decide) (fun h108_93 => ?_) (fun h => absurd h (by decide))
    refine qa_s (pc' := 108) at_108_106 rfl rfl rfl ?_
    refine qa_bi (nx := 110) (v := nI 10) at_108_108 (by decide) rfl ?_
    refine qn_icmp_ne (tg := 135) (nx := 113) at_108_110 rfl rfl (by decide) (by decide) (fun h108_110 => ?_) (fun h => absurd h (by decide))
    refine qa_s (pc' := 137) at_108_135 rfl rfl rfl ?_
    refine qa_bi (nx := 139) (v := nI 8) at_108_137 (by decide) rfl ?_
    refine qn_icmp_ne (tg := 149) (nx := 142) at_108_139 rfl rfl (by decide) (by decide) (fun h108_139 => ?_) (fun h => absurd h (by decide))
    refine qa_s (pc' := 151) at_108_149 rfl rfl rfl ?_
    refine qa_bi (nx := 153) (v := nI 10) at_108_151 (by decide) rfl ?_
    refine qn_icmp_ne (tg := 166) (nx := 156) at_108_153 rfl rfl (by decide) (by decide) (fun h108_153 => ?_) (fun h => absurd h (by decide))
    refine qa_ic (nx := 167) (v := nI 0) at_108_166 (by decide) rfl ?_
    refine qa_s (pc' := 169) at_108_167 rfl rfl rfl ?_
    refine qa_s (pc' := 171) at_108_169 rfl rfl rfl ?_
    refine qa_s (pc' := 172) at_108_171 rfl rfl rfl ?_
    refine qa_callV (nx := 175) at_108_172 rfl rfl (Nat.le_of_ble_eq_true rfl) rfl rfl rfl (by decide) rfl (by decide) ?_
    show qa _ 111 0 [(0, .ref _)] [] _ _
    refine c111_q (n := 3 * i + r) (by omega) hI hO ?_
    show qa _ 108 175 _ [.int _, .int _] _ _
    refine qa_s (pc' := 176) at_108_175 rfl rfl rfl ?_
    refine qa_if_eq (tg := 181) (nx := 179) at_108_176 rfl rfl (fun h108_176 => ?_) (fun h108_176 => ?_)
    · refine qa_s (pc' := 183) at_108_181 rfl rfl rfl ?_
      refine qa_ic (nx := 184) (v := nI 5) at_108_183 (by decide) rfl ?_
      refine qn_icmp_ne (tg := 212) (nx := 187) at_108_184 rfl rfl (by decide) (by decide) (fun h108_184 => ?_) (fun h => absurd h (by decide))
      refine qa_ic (nx := 213) (v := nI 0) at_108_212 (by decide) rfl ?_
      refine qa_ret at_108_213 rfl ?_
      exact K0
    · exact absurd h108_176 (fun g => g (by rw [show nI 0 = 0 from rfl, Int32.zero_and]))
theorem me2_q (hi : i < 5) (hr : r < 3) (hk : k < L (3 * i + r)) (hI : ImM L P Y σ) (hO : opM_ (3 * i + r) d s σ) (hS : StOk (P (3 * i + r)) (Y (3 * i + r)) s d k) (ho : P (3 * i + r) k = 2) (K0 : Q (some (.int (nI 0))) σ) : qa cst 108 0 [(0, .ref (cl 40 0)), (1, .int (nI i)), (2, .int (nI r)), (3, .int (nI k))] [] σ Q := by
  obtain ⟨hL, e48, h2⟩ := hI (3 * i + r) (by omega)
  obtain ⟨hP, e44, h46⟩ := h2 k (by omega)
  obtain ⟨o12, o14, o5⟩ := id hO
  obtain ⟨hd, hl2, hs⟩ := id hS
  have hk12 : k < 12 := by omega
  have hlk := lks_w hS
  rw [ho] at e44
  refine qa_ic (nx := 1) (v := nI 3) at_108_0 (by decide) rfl ?_
  refine qa_s (pc' := 2) at_108_1 rfl rfl rfl ?_
  refine qa_mulN (nx := 3) at_108_2 rfl ?_
  refine qa_s (pc' := 4) at_108_3 rfl rfl rfl ?_
  refine qa_addN (nx := 5) at_108_4 rfl ?_
  refine qa_bi (nx := 7) (v := nI 12) at_108_5 (by decide) rfl ?_
  refine qa_mulN (nx := 8) at_108_7 rfl ?_
  refine qa_s (pc' := 9) at_108_8 rfl rfl rfl ?_
  refine qa_addN (nx := 10) at_108_9 rfl ?_
  refine qa_s (pc' := 12) at_108_10 rfl rfl rfl ?_
  refine qa_s (pc' := 13) at_108_12 rfl rfl rfl ?_
  refine qa_getR (nx := 16) at_108_13 rfl (by decide) rfl rfl (by decide) ?_
  refine qa_s (pc' := 18) at_108_16 rfl rfl rfl ?_
  refine qa_ialdV (nx := 19) (k := (((3 * i) + r) * 12) + k) (v := nI 2) at_108_18 rfl rfl rfl (by decide) rfl (show (((3 * i) + r) * 12) + k < 180 by omega) (show _ from e44) ?_
  refine qa_s (pc' := 21) at_108_19 rfl rfl rfl ?_
  refine qa_s (pc' := 22) at_108_21 rfl rfl rfl ?_
  refine qa_getR (nx := 25) at_108_22 rfl (by decide) rfl rfl (by decide) ?_
  refine qa_s (pc' := 27) at_108_25 rfl rfl rfl ?_
  refine qa_iald (nx := 28) (k := (((3 * i) + r) * 12) + k) at_108_27 rfl rfl rfl (by decide) rfl (show (((3 * i) + r) * 12) + k < 180 by omega) ?_
  refine qa_s (pc' := 30) at_108_28 rfl rfl rfl ?_
  refine qa_s (pc' := 31) at_108_30 rfl rfl rfl ?_
  refine qa_getV (nx := 34) (v := nI d) at_108_31 rfl (by decide) rfl rfl (by decide) (show _ from o14) ?_
  refine qn_if_le (tg := 56) (nx := 37) at_108_34 rfl rfl (by omega) (fun h108_34 => ?_) (fun h108_34 => ?_)
  · refine qa_ic (nx := 57) (v := (-1)) at_108_56 (by decide) rfl ?_
    refine qa_s (pc' := 59) at_108_57 rfl rfl rfl ?_
    refine qa_s (pc' := 61) at_108_59 rfl rfl rfl ?_
    refine qa_bi (nx := 63) (v := nI 7) at_108_61 (by decide) rfl ?_
    refine qn_icmp_ne (tg := 73) (nx := 66) at_108_63 rfl rfl (by decide) (by decide) (fun h108_63 => ?_) (fun h => absurd h (by decide))
    refine qa_s (pc' := 75) at_108_73 rfl rfl rfl ?_
    refine qa_bi (nx := 77) (v := nI 9) at_108_75 (by decide) rfl ?_
    refine qn_icmp_ne (tg := 89) (nx := 80) at_108_77 rfl rfl (by decide) (by decide) (fun h108_77 => ?_) (fun h => absurd h (by decide))
    refine qa_s (pc' := 91) at_108_89 rfl rfl rfl ?_
    refine qa_bi (nx := 93) (v := nI 6) at_108_91 (by decide) rfl ?_
    refine qn_icmp_ne (tg := 106) (nx := 96) at_108_93 rfl rfl (by decide) (by decide) (fun h108_93 => ?_) (fun h => absurd h (by decide))
    refine qa_s (pc' := 108) at_108_106 rfl rfl rfl ?_
    refine qa_bi (nx := 110) (v := nI 10) at_108_108 (by decide) rfl ?_
    refine qn_icmp_ne (tg := 135) (nx := 113) at_108_110 rfl rfl (by decide) (by decide) (fun h108_110 => ?_) (fun h => absurd h (by decide))
    refine qa_s (pc' := 137) at_108_135 rfl rfl rfl ?_
    refine qa_bi (nx := 139) (v := nI 8) at_108_137 (by decide) rfl ?_
    refine qn_icmp_ne (tg := 149) (nx := 142) at_108_139 rfl rfl (by decide) (by decide) (fun h108_139 => ?_) (fun h => absurd h (by decide))
    refine qa_s (pc' := 151) at_108_149 rfl rfl rfl ?_
    refine qa_bi (nx := 153) (v := nI 10) at_108_151 (by decide) rfl ?_
    refine qn_icmp_ne (tg := 166) (nx := 156) at_108_153 rfl rfl (by decide) (by decide) (fun h108_153 => ?_) (fun h => absurd h (by decide))
    refine qa_ic (nx := 167) (v := nI 0) at_108_166 (by decide) rfl ?_
    refine qa_s (pc' := 169) at_108_167 rfl rfl rfl ?_
    refine qa_s (pc' := 171) at_108_169 rfl rfl rfl ?_
    refine qa_s (pc' := 172) at_108_171 rfl rfl rfl ?_
    refine qa_callV (nx := 175) at_108_172 rfl rfl (Nat.le_of_ble_eq_true rfl) rfl rfl rfl (by decide) rfl (by decide) ?_
    show qa _ 111 0 [(0, .ref _)] [] _ _
    refine c111_q (n := 3 * i + r) (by omega) hI hO ?_
    show qa _ 108 175 _ [.int _, .int _] _ _
    refine qa_s (pc' := 176) at_108_175 rfl rfl rfl ?_
    refine qa_if_eq (tg := 181) (nx := 179) at_108_176 rfl rfl (fun h108_176 => ?_) (fun h108_176 => ?_)
    · refine qa_s (pc' := 183) at_108_181 rfl rfl rfl ?_
      refine qa_ic (nx := 184) (v := nI 5) at_108_183 (by decide) rfl ?_
      refine qn_icmp_ne (tg := 212) (nx := 187) at_108_184 rfl rfl (by decide) (by decide) (fun h108_184 => ?_) (fun h => absurd h (by decide))
      refine qa_ic (nx := 213) (v := nI 0) at_108_212 (by decide) rfl ?_
      refine qa_ret at_108_213 rfl ?_
      exact K0
    · exact absurd h108_176 (fun g => g (by rw [show nI 0 = 0 from rfl, Int32.zero_and]))
  · have t12 := (o5 (d - 1) (by omega)).1
    have tt := (h2 (s (d - 1)) (o5 (d - 1) (by omega)).1)
    refine qa_s (pc' := 38) at_108_37 rfl rfl rfl ?_
    refine qa_getR (nx := 41) at_108_38 rfl (by decide) rfl rfl (by decide) ?_
    refine qa_s (pc' := 42) at_108_41 rfl rfl rfl ?_
    refine qa_getR (nx := 45) at_108_42 rfl (by decide) rfl rfl (by decide) ?_
    refine qa_s (pc' := 46) at_108_45 rfl rfl rfl ?_
    refine qa_getV (nx := 49) (v := nI d) at_108_46 rfl (by decide) rfl rfl (by decide) (show _ from o14) ?_
    refine qa_ic (nx := 50) (v := nI 1) at_108_49 (by decide) rfl ?_
    refine qa_subN (nx := 51) at_108_50 rfl (by omega) ?_
    refine qa_ialdV (nx := 52) (k := d - 1) (v := nI ((3 * i + r) * 12 + s (d - 1))) at_108_51 rfl rfl rfl (by decide) rfl (show d - 1 < 12 by omega) (show _ from (o5 (d - 1) (by omega)).2) ?_
    refine qa_ialdV (nx := 53) (k := (3 * i + r) * 12 + s (d - 1)) (v := nI (P (3 * i + r) (s (d - 1)))) at_108_52 rfl rfl rfl (by decide) rfl (show (3 * i + r) * 12 + s (d - 1) < 180 by omega) (show _ from tt.2.1) ?_
    refine qa_goto (nx := 57) at_108_53 rfl ?_
    refine qa_s (pc' := 59) at_108_57 rfl rfl rfl ?_
    refine qa_s (pc' := 61) at_108_59 rfl rfl rfl ?_
    refine qa_bi (nx := 63) (v := nI 7) at_108_61 (by decide) rfl ?_
    refine qn_icmp_ne (tg := 73) (nx := 66) at_108_63 rfl rfl (by decide) (by decide) (fun h108_63 => ?_) (fun h => absurd h (by decide))
    refine qa_s (pc' := 75) at_108_73 rfl rfl rfl ?_
    refine qa_bi (nx := 77) (v := nI 9) at_108_75 (by decide) rfl ?_
    refine qn_icmp_ne (tg := 89) (nx := 80) at_108_77 rfl rfl (by decide) (by decide) (fun h108_77 => ?_) (fun h => absurd h (by decide))
    refine qa_s (pc' := 91) at_108_89 rfl rfl rfl ?_
    refine qa_bi (nx := 93) (v := nI 6) at_108_91 (by decide) rfl ?_
    refine qn_icmp_ne (tg := 106) (nx := 96) at_108_93 rfl rfl (by decide) (by decide) (fun h108_93 => ?_) (fun h => absurd h (by decide))
    refine qa_s (pc' := 108) at_108_106 rfl rfl rfl ?_
    refine qa_bi (nx := 110) (v := nI 10) at_108_108 (by decide) rfl ?_
    refine qn_icmp_ne (tg := 135) (nx := 113) at_108_110 rfl rfl (by decide) (by decide) (fun h108_110 => ?_) (fun h => absurd h (by decide))
    refine qa_s (pc' := 137) at_108_135 rfl rfl rfl ?_
    refine qa_bi (nx := 139) (v := nI 8) at_108_137 (by decide) rfl ?_
    refine qn_icmp_ne (tg := 149) (nx := 142) at_108_139 rfl rfl (by decide) (by decide) (fun h108_139 => ?_) (fun h => absurd h (by decide))
    refine qa_s (pc' := 151) at_108_149 rfl rfl rfl ?_
    refine qa_bi (nx := 153) (v := nI 10) at_108_151 (by decide) rfl ?_
    refine qn_icmp_ne (tg := 166) (nx := 156) at_108_153 rfl rfl (by decide) (by decide) (fun h108_153 => ?_) (fun h => absurd h (by decide))
    refine qa_ic (nx := 167) (v := nI 0) at_108_166 (by decide) rfl ?_
    refine qa_s (pc' := 169) at_108_167 rfl rfl rfl ?_
    refine qa_s (pc' := 171) at_108_169 rfl rfl rfl ?_
    refine qa_s (pc' := 172) at_108_171 rfl rfl rfl ?_
    refine qa_callV (nx := 175) at_108_172 rfl rfl (Nat.le_of_ble_eq_true rfl) rfl rfl rfl (by decide) rfl (by decide) ?_
    show qa _ 111 0 [(0, .ref _)] [] _ _
    refine c111_q (n := 3 * i + r) (by omega) hI hO ?_
    show qa _ 108 175 _ [.int _, .int _] _ _
    refine qa_s (pc' := 176) at_108_175 rfl rfl rfl ?_
    refine qa_if_eq (tg := 181) (nx := 179) at_108_176 rfl rfl (fun h108_176 => ?_) (fun h108_176 => ?_)
    · refine qa_s (pc' := 183) at_108_181 rfl rfl rfl ?_
      refine qa_ic (nx := 184) (v := nI 5) at_108_183 (by decide) rfl ?_
      refine qn_icmp_ne (tg := 212) (nx := 187) at_108_184 rfl rfl (by decide) (by decide) (fun h108_184 => ?_) (fun h => absurd h (by decide))
      refine qa_ic (nx := 213) (v := nI 0) at_108_212 (by decide) rfl ?_
      refine qa_ret at_108_213 rfl ?_
      exact K0
    · exact absurd h108_176 (fun g => g (by rw [show nI 0 = 0 from rfl, Int32.zero_and]))
theorem me3_q (hi : i < 5) (hr : r < 3) (hk : k < L (3 * i + r)) (hI : ImM L P Y σ) (hO : opM_ (3 * i + r) d s σ) (hS : StOk (P (3 * i + r)) (Y (3 * i + r)) s d k) (ho : P (3 * i + r) k = 3) (K0 : Q (some (.int (nI 0))) σ) : qa cst 108 0 [(0, .ref (cl 40 0)), (1, .int (nI i)), (2, .int (nI r)), (3, .int (nI k))] [] σ Q := by
  obtain ⟨hL, e48, h2⟩ := hI (3 * i + r) (by omega)
  obtain ⟨hP, e44, h46⟩ := h2 k (by omega)
  obtain ⟨o12, o14, o5⟩ := id hO
  obtain ⟨hd, hl2, hs⟩ := id hS
  have hk12 : k < 12 := by omega
  have hlk := lks_w hS
  rw [ho] at e44
  refine qa_ic (nx := 1) (v := nI 3) at_108_0 (by decide) rfl ?_
  refine qa_s (pc' := 2) at_108_1 rfl rfl rfl ?_
  refine qa_mulN (nx := 3) at_108_2 rfl ?_
  refine qa_s (pc' := 4) at_108_3 rfl rfl rfl ?_
  refine qa_addN (nx := 5) at_108_4 rfl ?_
  refine qa_bi (nx := 7) (v := nI 12) at_108_5 (by decide) rfl ?_
  refine qa_mulN (nx := 8) at_108_7 rfl ?_
  refine qa_s (pc' := 9) at_108_8 rfl rfl rfl ?_
  refine qa_addN (nx := 10) at_108_9 rfl ?_
  refine qa_s (pc' := 12) at_108_10 rfl rfl rfl ?_
  refine qa_s (pc' := 13) at_108_12 rfl rfl rfl ?_
  refine qa_getR (nx := 16) at_108_13 rfl (by decide) rfl rfl (by decide) ?_
  refine qa_s (pc' := 18) at_108_16 rfl rfl rfl ?_
  refine qa_ialdV (nx := 19) (k := (((3 * i) + r) * 12) + k) (v := nI 3) at_108_18 rfl rfl rfl (by decide) rfl (show (((3 * i) + r) * 12) + k < 180 by omega) (show _ from e44) ?_
  refine qa_s (pc' := 21) at_108_19 rfl rfl rfl ?_
  refine qa_s (pc' := 22) at_108_21 rfl rfl rfl ?_
  refine qa_getR (nx := 25) at_108_22 rfl (by decide) rfl rfl (by decide) ?_
  refine qa_s (pc' := 27) at_108_25 rfl rfl rfl ?_
  refine qa_iald (nx := 28) (k := (((3 * i) + r) * 12) + k) at_108_27 rfl rfl rfl (by decide) rfl (show (((3 * i) + r) * 12) + k < 180 by omega) ?_
  refine qa_s (pc' := 30) at_108_28 rfl rfl rfl ?_
  refine qa_s (pc' := 31) at_108_30 rfl rfl rfl ?_
  refine qa_getV (nx := 34) (v := nI d) at_108_31 rfl (by decide) rfl rfl (by decide) (show _ from o14) ?_
  refine qn_if_le (tg := 56) (nx := 37) at_108_34 rfl rfl (by omega) (fun h108_34 => ?_) (fun h108_34 => ?_)
  · refine qa_ic (nx := 57) (v := (-1)) at_108_56 (by decide) rfl ?_
    refine qa_s (pc' := 59) at_108_57 rfl rfl rfl ?_
    refine qa_s (pc' := 61) at_108_59 rfl rfl rfl ?_
    refine qa_bi (nx := 63) (v := nI 7) at_108_61 (by decide) rfl ?_
    refine qn_icmp_ne (tg := 73) (nx := 66) at_108_63 rfl rfl (by decide) (by decide) (fun h108_63 => ?_) (fun h => absurd h (by decide))
    refine qa_s (pc' := 75) at_108_73 rfl rfl rfl ?_
    refine qa_bi (nx := 77) (v := nI 9) at_108_75 (by decide) rfl ?_
    refine qn_icmp_ne (tg := 89) (nx := 80) at_108_77 rfl rfl (by decide) (by decide) (fun h108_77 => ?_) (fun h => absurd h (by decide))
    refine qa_s (pc' := 91) at_108_89 rfl rfl rfl ?_
    refine qa_bi (nx := 93) (v := nI 6) at_108_91 (by decide) rfl ?_
    refine qn_icmp_ne (tg := 106) (nx := 96) at_108_93 rfl rfl (by decide) (by decide) (fun h108_93 => ?_) (fun h => absurd h (by decide))
    refine qa_s (pc' := 108) at_108_106 rfl rfl rfl ?_
    refine qa_bi (nx := 110) (v := nI 10) at_108_108 (by decide) rfl ?_
    refine qn_icmp_ne (tg := 135) (nx := 113) at_108_110 rfl rfl (by decide) (by decide) (fun h108_110 => ?_) (fun h => absurd h (by decide))
    refine qa_s (pc' := 137) at_108_135 rfl rfl rfl ?_
    refine qa_bi (nx := 139) (v := nI 8) at_108_137 (by decide) rfl ?_
    refine qn_icmp_ne (tg := 149) (nx := 142) at_108_139 rfl rfl (by decide) (by decide) (fun h108_139 => ?_) (fun h => absurd h (by decide))
    refine qa_s (pc' := 151) at_108_149 rfl rfl rfl ?_
    refine qa_bi (nx := 153) (v := nI 10) at_108_151 (by decide) rfl ?_
    refine qn_icmp_ne (tg := 166) (nx := 156) at_108_153 rfl rfl (by decide) (by decide) (fun h108_153 => ?_) (fun h => absurd h (by decide))
    refine qa_ic (nx := 167) (v := nI 0) at_108_166 (by decide) rfl ?_
    refine qa_s (pc' := 169) at_108_167 rfl rfl rfl ?_
    refine qa_s (pc' := 171) at_108_169 rfl rfl rfl ?_
    refine qa_s (pc' := 172) at_108_171 rfl rfl rfl ?_
    refine qa_callV (nx := 175) at_108_172 rfl rfl (Nat.le_of_ble_eq_true rfl) rfl rfl rfl (by decide) rfl (by decide) ?_
    show qa _ 111 0 [(0, .ref _)] [] _ _
    refine c111_q (n := 3 * i + r) (by omega) hI hO ?_
    show qa _ 108 175 _ [.int _, .int _] _ _
    refine qa_s (pc' := 176) at_108_175 rfl rfl rfl ?_
    refine qa_if_eq (tg := 181) (nx := 179) at_108_176 rfl rfl (fun h108_176 => ?_) (fun h108_176 => ?_)
    · refine qa_s (pc' := 183) at_108_181 rfl rfl rfl ?_
      refine qa_ic (nx := 184) (v := nI 5) at_108_183 (by decide) rfl ?_
      refine qn_icmp_ne (tg := 212) (nx := 187) at_108_184 rfl rfl (by decide) (by decide) (fun h108_184 => ?_) (fun h => absurd h (by decide))
      refine qa_ic (nx := 213) (v := nI 0) at_108_212 (by decide) rfl ?_
      refine qa_ret at_108_213 rfl ?_
      exact K0
    · exact absurd h108_176 (fun g => g (by rw [show nI 0 = 0 from rfl, Int32.zero_and]))
  · have t12 := (o5 (d - 1) (by omega)).1
    have tt := (h2 (s (d - 1)) (o5 (d - 1) (by omega)).1)
    refine qa_s (pc' := 38) at_108_37 rfl rfl rfl ?_
    refine qa_getR (nx := 41) at_108_38 rfl (by decide) rfl rfl (by decide) ?_
    refine qa_s (pc' := 42) at_108_41 rfl rfl rfl ?_
    refine qa_getR (nx := 45) at_108_42 rfl (by decide) rfl rfl (by decide) ?_
    refine qa_s (pc' := 46) at_108_45 rfl rfl rfl ?_
    refine qa_getV (nx := 49) (v := nI d) at_108_46 rfl (by decide) rfl rfl (by decide) (show _ from o14) ?_
    refine qa_ic (nx := 50) (v := nI 1) at_108_49 (by decide) rfl ?_
    refine qa_subN (nx := 51) at_108_50 rfl (by omega) ?_
    refine qa_ialdV (nx := 52) (k := d - 1) (v := nI ((3 * i + r) * 12 + s (d - 1))) at_108_51 rfl rfl rfl (by decide) rfl (show d - 1 < 12 by omega) (show _ from (o5 (d - 1) (by omega)).2) ?_
    refine qa_ialdV (nx := 53) (k := (3 * i + r) * 12 + s (d - 1)) (v := nI (P (3 * i + r) (s (d - 1)))) at_108_52 rfl rfl rfl (by decide) rfl (show (3 * i + r) * 12 + s (d - 1) < 180 by omega) (show _ from tt.2.1) ?_
    refine qa_goto (nx := 57) at_108_53 rfl ?_
    refine qa_s (pc' := 59) at_108_57 rfl rfl rfl ?_
    refine qa_s (pc' := 61) at_108_59 rfl rfl rfl ?_
    refine qa_bi (nx := 63) (v := nI 7) at_108_61 (by decide) rfl ?_
    refine qn_icmp_ne (tg := 73) (nx := 66) at_108_63 rfl rfl (by decide) (by decide) (fun h108_63 => ?_) (fun h => absurd h (by decide))
    refine qa_s (pc' := 75) at_108_73 rfl rfl rfl ?_
    refine qa_bi (nx := 77) (v := nI 9) at_108_75 (by decide) rfl ?_
    refine qn_icmp_ne (tg := 89) (nx := 80) at_108_77 rfl rfl (by decide) (by decide) (fun h108_77 => ?_) (fun h => absurd h (by decide))
    refine qa_s (pc' := 91) at_108_89 rfl rfl rfl ?_
    refine qa_bi (nx := 93) (v := nI 6) at_108_91 (by decide) rfl ?_
    refine qn_icmp_ne (tg := 106) (nx := 96) at_108_93 rfl rfl (by decide) (by decide) (fun h108_93 => ?_) (fun h => absurd h (by decide))
    refine qa_s (pc' := 108) at_108_106 rfl rfl rfl ?_
    refine qa_bi (nx := 110) (v := nI 10) at_108_108 (by decide) rfl ?_
    refine qn_icmp_ne (tg := 135) (nx := 113) at_108_110 rfl rfl (by decide) (by decide) (fun h108_110 => ?_) (fun h => absurd h (by decide))
    refine qa_s (pc' := 137) at_108_135 rfl rfl rfl ?_
    refine qa_bi (nx := 139) (v := nI 8) at_108_137 (by decide) rfl ?_
    refine qn_icmp_ne (tg := 149) (nx := 142) at_108_139 rfl rfl (by decide) (by decide) (fun h108_139 => ?_) (fun h => absurd h (by decide))
    refine qa_s (pc' := 151) at_108_149 rfl rfl rfl ?_
    refine qa_bi (nx := 153) (v := nI 10) at_108_151 (by decide) rfl ?_
    refine qn_icmp_ne (tg := 166) (nx := 156) at_108_153 rfl rfl (by decide) (by decide) (fun h108_153 => ?_) (fun h => absurd h (by decide))
    refine qa_ic (nx := 167) (v := nI 0) at_108_166 (by decide) rfl ?_
    refine qa_s (pc' := 169) at_108_167 rfl rfl rfl ?_
    refine qa_s (pc' := 171) at_108_169 rfl rfl rfl ?_
    refine qa_s (pc' := 172) at_108_171 rfl rfl rfl ?_
    refine qa_callV (nx := 175) at_108_172 rfl rfl (Nat.le_of_ble_eq_true rfl) rfl rfl rfl (by decide) rfl (by decide) ?_
    show qa _ 111 0 [(0, .ref _)] [] _ _
    refine c111_q (n := 3 * i + r) (by omega) hI hO ?_
    show qa _ 108 175 _ [.int _, .int _] _ _
    refine qa_s (pc' := 176) at_108_175 rfl rfl rfl ?_
    refine qa_if_eq (tg := 181) (nx := 179) at_108_176 rfl rfl (fun h108_176 => ?_) (fun h108_176 => ?_)
    · refine qa_s (pc' := 183) at_108_181 rfl rfl rfl ?_
      refine qa_ic (nx := 184) (v := nI 5) at_108_183 (by decide) rfl ?_
      refine qn_icmp_ne (tg := 212) (nx := 187) at_108_184 rfl rfl (by decide) (by decide) (fun h108_184 => ?_) (fun h => absurd h (by decide))
      refine qa_ic (nx := 213) (v := nI 0) at_108_212 (by decide) rfl ?_
      refine qa_ret at_108_213 rfl ?_
      exact K0
    · exact absurd h108_176 (fun g => g (by rw [show nI 0 = 0 from rfl, Int32.zero_and]))
theorem me4_q (hi : i < 5) (hr : r < 3) (hk : k < L (3 * i + r)) (hI : ImM L P Y σ) (hO : opM_ (3 * i + r) d s σ) (hS : StOk (P (3 * i + r)) (Y (3 * i + r)) s d k) (ho : P (3 * i + r) k = 4) (K0 : Q (some (.int (nI 0))) σ) : qa cst 108 0 [(0, .ref (cl 40 0)), (1, .int (nI i)), (2, .int (nI r)), (3, .int (nI k))] [] σ Q := by
  obtain ⟨hL, e48, h2⟩ := hI (3 * i + r) (by omega)
  obtain ⟨hP, e44, h46⟩ := h2 k (by omega)
  obtain ⟨o12, o14, o5⟩ := id hO
  obtain ⟨hd, hl2, hs⟩ := id hS
  have hk12 : k < 12 := by omega
  have hlk := lks_w hS
  rw [ho] at e44
  refine qa_ic (nx := 1) (v := nI 3) at_108_0 (by decide) rfl ?_
  refine qa_s (pc' := 2) at_108_1 rfl rfl rfl ?_
  refine qa_mulN (nx := 3) at_108_2 rfl ?_
  refine qa_s (pc' := 4) at_108_3 rfl rfl rfl ?_
  refine qa_addN (nx := 5) at_108_4 rfl ?_
  refine qa_bi (nx := 7) (v := nI 12) at_108_5 (by decide) rfl ?_
  refine qa_mulN (nx := 8) at_108_7 rfl ?_
  refine qa_s (pc' := 9) at_108_8 rfl rfl rfl ?_
  refine qa_addN (nx := 10) at_108_9 rfl ?_
  refine qa_s (pc' := 12) at_108_10 rfl rfl rfl ?_
  refine qa_s (pc' := 13) at_108_12 rfl rfl rfl ?_
  refine qa_getR (nx := 16) at_108_13 rfl (by decide) rfl rfl (by decide) ?_
  refine qa_s (pc' := 18) at_108_16 rfl rfl rfl ?_
  refine qa_ialdV (nx := 19) (k := (((3 * i) + r) * 12) + k) (v := nI 4) at_108_18 rfl rfl rfl (by decide) rfl (show (((3 * i) + r) * 12) + k < 180 by omega) (show _ from e44) ?_
  refine qa_s (pc' := 21) at_108_19 rfl rfl rfl ?_
  refine qa_s (pc' := 22) at_108_21 rfl rfl rfl ?_
  refine qa_getR (nx := 25) at_108_22 rfl (by decide) rfl rfl (by decide) ?_
  refine qa_s (pc' := 27) at_108_25 rfl rfl rfl ?_
  refine qa_iald (nx := 28) (k := (((3 * i) + r) * 12) + k) at_108_27 rfl rfl rfl (by decide) rfl (show (((3 * i) + r) * 12) + k < 180 by omega) ?_
  refine qa_s (pc' := 30) at_108_28 rfl rfl rfl ?_
  refine qa_s (pc' := 31) at_108_30 rfl rfl rfl ?_
  refine qa_getV (nx := 34) (v := nI d) at_108_31 rfl (by decide) rfl rfl (by decide) (show _ from o14) ?_
  refine qn_if_le (tg := 56) (nx := 37) at_108_34 rfl rfl (by omega) (fun h108_34 => ?_) (fun h108_34 => ?_)
  · refine qa_ic (nx := 57) (v := (-1)) at_108_56 (by decide) rfl ?_
    refine qa_s (pc' := 59) at_108_57 rfl rfl rfl ?_
    refine qa_s (pc' := 61) at_108_59 rfl rfl rfl ?_
    refine qa_bi (nx := 63) (v := nI 7) at_108_61 (by decide) rfl ?_
    refine qn_icmp_ne (tg := 73) (nx := 66) at_108_63 rfl rfl (by decide) (by decide) (fun h108_63 => ?_) (fun h => absurd h (by decide))
    refine qa_s (pc' := 75) at_108_73 rfl rfl rfl ?_
    refine qa_bi (nx := 77) (v := nI 9) at_108_75 (by decide) rfl ?_
    refine qn_icmp_ne (tg := 89) (nx := 80) at_108_77 rfl rfl (by decide) (by decide) (fun h108_77 => ?_) (fun h => absurd h (by decide))
    refine qa_s (pc' := 91) at_108_89 rfl rfl rfl ?_
    refine qa_bi (nx := 93) (v := nI 6) at_108_91 (by decide) rfl ?_
    refine qn_icmp_ne (tg := 106) (nx := 96) at_108_93 rfl rfl (by decide) (by decide) (fun h108_93 => ?_) (fun h => absurd h (by decide))
    refine qa_s (pc' := 108) at_108_106 rfl rfl rfl ?_
    refine qa_bi (nx := 110) (v := nI 10) at_108_108 (by decide) rfl ?_
    refine qn_icmp_ne (tg := 135) (nx := 113) at_108_110 rfl rfl (by decide) (by decide) (fun h108_110 => ?_) (fun h => absurd h (by decide))
    refine qa_s (pc' := 137) at_108_135 rfl rfl rfl ?_
    refine qa_bi (nx := 139) (v := nI 8) at_108_137 (by decide) rfl ?_
    refine qn_icmp_ne (tg := 149) (nx := 142) at_108_139 rfl rfl (by decide) (by decide) (fun h108_139 => ?_) (fun h => absurd h (by decide))
    refine qa_s (pc' := 151) at_108_149 rfl rfl rfl ?_
    refine qa_bi (nx := 153) (v := nI 10) at_108_151 (by decide) rfl ?_
    refine qn_icmp_ne (tg := 166) (nx := 156) at_108_153 rfl rfl (by decide) (by decide) (fun h108_153 => ?_) (fun h => absurd h (by decide))
    refine qa_ic (nx := 167) (v := nI 0) at_108_166 (by decide) rfl ?_
    refine qa_s (pc' := 169) at_108_167 rfl rfl rfl ?_
    refine qa_s (pc' := 171) at_108_169 rfl rfl rfl ?_
    refine qa_s (pc' := 172) at_108_171 rfl rfl rfl ?_
    refine qa_callV (nx := 175) at_108_172 rfl rfl (Nat.le_of_ble_eq_true rfl) rfl rfl rfl (by decide) rfl (by decide) ?_
    show qa _ 111 0 [(0, .ref _)] [] _ _
    refine c111_q (n := 3 * i + r) (by omega) hI hO ?_
    show qa _ 108 175 _ [.int _, .int _] _ _
    refine qa_s (pc' := 176) at_108_175 rfl rfl rfl ?_
    refine qa_if_eq (tg := 181) (nx := 179) at_108_176 rfl rfl (fun h108_176 => ?_) (fun h108_176 => ?_)
    · refine qa_s (pc' := 183) at_108_181 rfl rfl rfl ?_
      refine qa_ic (nx := 184) (v := nI 5) at_108_183 (by decide) rfl ?_
      refine qn_icmp_ne (tg := 212) (nx := 187) at_108_184 rfl rfl (by decide) (by decide) (fun h108_184 => ?_) (fun h => absurd h (by decide))
      refine qa_ic (nx := 213) (v := nI 0) at_108_212 (by decide) rfl ?_
      refine qa_ret at_108_213 rfl ?_
      exact K0
    · exact absurd h108_176 (fun g => g (by rw [show nI 0 = 0 from rfl, Int32.zero_and]))
  · have t12 := (o5 (d - 1) (by omega)).1
    have tt := (h2 (s (d - 1)) (o5 (d - 1) (by omega)).1)
    refine qa_s (pc' := 38) at_108_37 rfl rfl rfl ?_
    refine qa_getR (nx := 41) at_108_38 rfl (by decide) rfl rfl (by decide) ?_
    refine qa_s (pc' := 42) at_108_41 rfl rfl rfl ?_
    refine qa_getR (nx := 45) at_108_42 rfl (by decide) rfl rfl (by decide) ?_
    refine qa_s (pc' := 46) at_108_45 rfl rfl rfl ?_
    refine qa_getV (nx := 49) (v := nI d) at_108_46 rfl (by decide) rfl rfl (by decide) (show _ from o14) ?_
    refine qa_ic (nx := 50) (v := nI 1) at_108_49 (by decide) rfl ?_
    refine qa_subN (nx := 51) at_108_50 rfl (by omega) ?_
    refine qa_ialdV (nx := 52) (k := d - 1) (v := nI ((3 * i + r) * 12 + s (d - 1))) at_108_51 rfl rfl rfl (by decide) rfl (show d - 1 < 12 by omega) (show _ from (o5 (d - 1) (by omega)).2) ?_
    refine qa_ialdV (nx := 53) (k := (3 * i + r) * 12 + s (d - 1)) (v := nI (P (3 * i + r) (s (d - 1)))) at_108_52 rfl rfl rfl (by decide) rfl (show (3 * i + r) * 12 + s (d - 1) < 180 by omega) (show _ from tt.2.1) ?_
    refine qa_goto (nx := 57) at_108_53 rfl ?_
    refine qa_s (pc' := 59) at_108_57 rfl rfl rfl ?_
    refine qa_s (pc' := 61) at_108_59 rfl rfl rfl ?_
    refine qa_bi (nx := 63) (v := nI 7) at_108_61 (by decide) rfl ?_
    refine qn_icmp_ne (tg := 73) (nx := 66) at_108_63 rfl rfl (by decide) (by decide) (fun h108_63 => ?_) (fun h => absurd h (by decide))
    refine qa_s (pc' := 75) at_108_73 rfl rfl rfl ?_
    refine qa_bi (nx := 77) (v := nI 9) at_108_75 (by decide) rfl ?_
    refine qn_icmp_ne (tg := 89) (nx := 80) at_108_77 rfl rfl (by decide) (by decide) (fun h108_77 => ?_) (fun h => absurd h (by decide))
    refine qa_s (pc' := 91) at_108_89 rfl rfl rfl ?_
    refine qa_bi (nx := 93) (v := nI 6) at_108_91 (by decide) rfl ?_
    refine qn_icmp_ne (tg := 106) (nx := 96) at_108_93 rfl rfl (by decide) (by decide) (fun h108_93 => ?_) (fun h => absurd h (by decide))
    refine qa_s (pc' := 108) at_108_106 rfl rfl rfl ?_
    refine qa_bi (nx := 110) (v := nI 10) at_108_108 (by decide) rfl ?_
    refine qn_icmp_ne (tg := 135) (nx := 113) at_108_110 rfl rfl (by decide) (by decide) (fun h108_110 => ?_) (fun h => absurd h (by decide))
    refine qa_s (pc' := 137) at_108_135 rfl rfl rfl ?_
    refine qa_bi (nx := 139) (v := nI 8) at_108_137 (by decide) rfl ?_
    refine qn_icmp_ne (tg := 149) (nx := 142) at_108_139 rfl rfl (by decide) (by decide) (fun h108_139 => ?_) (fun h => absurd h (by decide))
    refine qa_s (pc' := 151) at_108_149 rfl rfl rfl ?_
    refine qa_bi (nx := 153) (v := nI 10) at_108_151 (by decide) rfl ?_
    refine qn_icmp_ne (tg := 166) (nx := 156) at_108_153 rfl rfl (by decide) (by decide) (fun h108_153 => ?_) (fun h => absurd h (by decide))
    refine qa_ic (nx := 167) (v := nI 0) at_108_166 (by decide) rfl ?_
    refine qa_s (pc' := 169) at_108_167 rfl rfl rfl ?_
    refine qa_s (pc' := 171) at_108_169 rfl rfl rfl ?_
    refine qa_s (pc' := 172) at_108_171 rfl rfl rfl ?_
    refine qa_callV (nx := 175) at_108_172 rfl rfl (Nat.le_of_ble_eq_true rfl) rfl rfl rfl (by decide) rfl (by decide) ?_
    show qa _ 111 0 [(0, .ref _)] [] _ _
    refine c111_q (n := 3 * i + r) (by omega) hI hO ?_
    show qa _ 108 175 _ [.int _, .int _] _ _
    refine qa_s (pc' := 176) at_108_175 rfl rfl rfl ?_
    refine qa_if_eq (tg := 181) (nx := 179) at_108_176 rfl rfl (fun h108_176 => ?_) (fun h108_176 => ?_)
    · refine qa_s (pc' := 183) at_108_181 rfl rfl rfl ?_
      refine qa_ic (nx := 184) (v := nI 5) at_108_183 (by decide) rfl ?_
      refine qn_icmp_ne (tg := 212) (nx := 187) at_108_184 rfl rfl (by decide) (by decide) (fun h108_184 => ?_) (fun h => absurd h (by decide))
      refine qa_ic (nx := 213) (v := nI 0) at_108_212 (by decide) rfl ?_
      refine qa_ret at_108_213 rfl ?_
      exact K0
    · exact absurd h108_176 (fun g => g (by rw [show nI 0 = 0 from rfl, Int32.zero_and]))
theorem me11_q (hi : i < 5) (hr : r < 3) (hk : k < L (3 * i + r)) (hI : ImM L P Y σ) (hO : opM_ (3 * i + r) d s σ) (hS : StOk (P (3 * i + r)) (Y (3 * i + r)) s d k) (ho : P (3 * i + r) k = 11) (K0 : Q (some (.int (nI 0))) σ) : qa cst 108 0 [(0, .ref (cl 40 0)), (1, .int (nI i)), (2, .int (nI r)), (3, .int (nI k))] [] σ Q := by
  obtain ⟨hL, e48, h2⟩ := hI (3 * i + r) (by omega)
  obtain ⟨hP, e44, h46⟩ := h2 k (by omega)
  obtain ⟨o12, o14, o5⟩ := id hO
  obtain ⟨hd, hl2, hs⟩ := id hS
  have hk12 : k < 12 := by omega
  have hlk := lks_w hS
  rw [ho] at e44
  refine qa_ic (nx := 1) (v := nI 3) at_108_0 (by decide) rfl ?_
  refine qa_s (pc' := 2) at_108_1 rfl rfl rfl ?_
  refine qa_mulN (nx := 3) at_108_2 rfl ?_
  refine qa_s (pc' := 4) at_108_3 rfl rfl rfl ?_
  refine qa_addN (nx := 5) at_108_4 rfl ?_
  refine qa_bi (nx := 7) (v := nI 12) at_108_5 (by decide) rfl ?_
  refine qa_mulN (nx := 8) at_108_7 rfl ?_
  refine qa_s (pc' := 9) at_108_8 rfl rfl rfl ?_
  refine qa_addN (nx := 10) at_108_9 rfl ?_
  refine qa_s (pc' := 12) at_108_10 rfl rfl rfl ?_
  refine qa_s (pc' := 13) at_108_12 rfl rfl rfl ?_
  refine qa_getR (nx := 16) at_108_13 rfl (by decide) rfl rfl (by decide) ?_
  refine qa_s (pc' := 18) at_108_16 rfl rfl rfl ?_
  refine qa_ialdV (nx := 19) (k := (((3 * i) + r) * 12) + k) (v := nI 11) at_108_18 rfl rfl rfl (by decide) rfl (show (((3 * i) + r) * 12) + k < 180 by omega) (show _ from e44) ?_
  refine qa_s (pc' := 21) at_108_19 rfl rfl rfl ?_
  refine qa_s (pc' := 22) at_108_21 rfl rfl rfl ?_
  refine qa_getR (nx := 25) at_108_22 rfl (by decide) rfl rfl (by decide) ?_
  refine qa_s (pc' := 27) at_108_25 rfl rfl rfl ?_
  refine qa_iald (nx := 28) (k := (((3 * i) + r) * 12) + k) at_108_27 rfl rfl rfl (by decide) rfl (show (((3 * i) + r) * 12) + k < 180 by omega) ?_
  refine qa_s (pc' := 30) at_108_28 rfl rfl rfl ?_
  refine qa_s (pc' := 31) at_108_30 rfl rfl rfl ?_
  refine qa_getV (nx := 34) (v := nI d) at_108_31 rfl (by decide) rfl rfl (by decide) (show _ from o14) ?_
  refine qn_if_le (tg := 56) (nx := 37) at_108_34 rfl rfl (by omega) (fun h108_34 => ?_) (fun h108_34 => ?_)
  · refine qa_ic (nx := 57) (v := (-1)) at_108_56 (by decide) rfl ?_
    refine qa_s (pc' := 59) at_108_57 rfl rfl rfl ?_
    refine qa_s (pc' := 61) at_108_59 rfl rfl rfl ?_
    refine qa_bi (nx := 63) (v := nI 7) at_108_61 (by decide) rfl ?_
    refine qn_icmp_ne (tg := 73) (nx := 66) at_108_63 rfl rfl (by decide) (by decide) (fun h108_63 => ?_) (fun h => absurd h (by decide))
    refine qa_s (pc' := 75) at_108_73 rfl rfl rfl ?_
    refine qa_bi (nx := 77) (v := nI 9) at_108_75 (by decide) rfl ?_
    refine qn_icmp_ne (tg := 89) (nx := 80) at_108_77 rfl rfl (by decide) (by decide) (fun h108_77 => ?_) (fun h => absurd h (by decide))
    refine qa_s (pc' := 91) at_108_89 rfl rfl rfl ?_
    refine qa_bi (nx := 93) (v := nI 6) at_108_91 (by decide) rfl ?_
    refine qn_icmp_ne (tg := 106) (nx := 96) at_108_93 rfl rfl (by decide) (by decide) (fun h108_93 => ?_) (fun h => absurd h (by decide))
    refine qa_s (pc' := 108) at_108_106 rfl rfl rfl ?_
    refine qa_bi (nx := 110) (v := nI 10) at_108_108 (by decide) rfl ?_
    refine qn_icmp_ne (tg := 135) (nx := 113) at_108_110 rfl rfl (by decide) (by decide) (fun h108_110 => ?_) (fun h => absurd h (by decide))
    refine qa_s (pc' := 137) at_108_135 rfl rfl rfl ?_
    refine qa_bi (nx := 139) (v := nI 8) at_108_137 (by decide) rfl ?_
    refine qn_icmp_ne (tg := 149) (nx := 142) at_108_139 rfl rfl (by decide) (by decide) (fun h108_139 => ?_) (fun h => absurd h (by decide))
    refine qa_s (pc' := 151) at_108_149 rfl rfl rfl ?_
    refine qa_bi (nx := 153) (v := nI 10) at_108_151 (by decide) rfl ?_
    refine qn_icmp_ne (tg := 166) (nx := 156) at_108_153 rfl rfl (by decide) (by decide) (fun h108_153 => ?_) (fun h => absurd h (by decide))
    refine qa_ic (nx := 167) (v := nI 0) at_108_166 (by decide) rfl ?_
    refine qa_s (pc' := 169) at_108_167 rfl rfl rfl ?_
    refine qa_s (pc' := 171) at_108_169 rfl rfl rfl ?_
    refine qa_s (pc' := 172) at_108_171 rfl rfl rfl ?_
    refine qa_callV (nx := 175) at_108_172 rfl rfl (Nat.le_of_ble_eq_true rfl) rfl rfl rfl (by decide) rfl (by decide) ?_
    show qa _ 111 0 [(0, .ref _)] [] _ _
    refine c111_q (n := 3 * i + r) (by omega) hI hO ?_
    show qa _ 108 175 _ [.int _, .int _] _ _
    refine qa_s (pc' := 176) at_108_175 rfl rfl rfl ?_
    refine qa_if_eq (tg := 181) (nx := 179) at_108_176 rfl rfl (fun h108_176 => ?_) (fun h108_176 => ?_)
    · refine qa_s (pc' := 183) at_108_181 rfl rfl rfl ?_
      refine qa_ic (nx := 184) (v := nI 5) at_108_183 (by decide) rfl ?_
      refine qn_icmp_ne (tg := 212) (nx := 187) at_108_184 rfl rfl (by decide) (by decide) (fun h108_184 => ?_) (fun h => absurd h (by decide))
      refine qa_ic (nx := 213) (v := nI 0) at_108_212 (by decide) rfl ?_
      refine qa_ret at_108_213 rfl ?_
      exact K0
    · exact absurd h108_176 (fun g => g (by rw [show nI 0 = 0 from rfl, Int32.zero_and]))
  · have t12 := (o5 (d - 1) (by omega)).1
    have tt := (h2 (s (d - 1)) (o5 (d - 1) (by omega)).1)
    refine qa_s (pc' := 38) at_108_37 rfl rfl rfl ?_
    refine qa_getR (nx := 41) at_108_38 rfl (by decide) rfl rfl (by decide) ?_
    refine qa_s (pc' := 42) at_108_41 rfl rfl rfl ?_
    refine qa_getR (nx := 45) at_108_42 rfl (by decide) rfl rfl (by decide) ?_
    refine qa_s (pc' := 46) at_108_45 rfl rfl rfl ?_
    refine qa_getV (nx := 49) (v := nI d) at_108_46 rfl (by decide) rfl rfl (by decide) (show _ from o14) ?_
    refine qa_ic (nx := 50) (v := nI 1) at_108_49 (by decide) rfl ?_
    refine qa_subN (nx := 51) at_108_50 rfl (by omega) ?_
    refine qa_ialdV (nx := 52) (k := d - 1) (v := nI ((3 * i + r) * 12 + s (d - 1))) at_108_51 rfl rfl rfl (by decide) rfl (show d - 1 < 12 by omega) (show _ from (o5 (d - 1) (by omega)).2) ?_
    refine qa_ialdV (nx := 53) (k := (3 * i + r) * 12 + s (d - 1)) (v := nI (P (3 * i + r) (s (d - 1)))) at_108_52 rfl rfl rfl (by decide) rfl (show (3 * i + r) * 12 + s (d - 1) < 180 by omega) (show _ from tt.2.1) ?_
    refine qa_goto (nx := 57) at_108_53 rfl ?_
    refine qa_s (pc' := 59) at_108_57 rfl rfl rfl ?_
    refine qa_s (pc' := 61) at_108_59 rfl rfl rfl ?_
    refine qa_bi (nx := 63) (v := nI 7) at_108_61 (by decide) rfl ?_
    refine qn_icmp_ne (tg := 73) (nx := 66) at_108_63 rfl rfl (by decide) (by decide) (fun h108_63 => ?_) (fun h => absurd h (by decide))
    refine qa_s (pc' := 75) at_108_73 rfl rfl rfl ?_
    refine qa_bi (nx := 77) (v := nI 9) at_108_75 (by decide) rfl ?_
    refine qn_icmp_ne (tg := 89) (nx := 80) at_108_77 rfl rfl (by decide) (by decide) (fun h108_77 => ?_) (fun h => absurd h (by decide))
    refine qa_s (pc' := 91) at_108_89 rfl rfl rfl ?_
    refine qa_bi (nx := 93) (v := nI 6) at_108_91 (by decide) rfl ?_
    refine qn_icmp_ne (tg := 106) (nx := 96) at_108_93 rfl rfl (by decide) (by decide) (fun h108_93 => ?_) (fun h => absurd h (by decide))
    refine qa_s (pc' := 108) at_108_106 rfl rfl rfl ?_
    refine qa_bi (nx := 110) (v := nI 10) at_108_108 (by decide) rfl ?_
    refine qn_icmp_ne (tg := 135) (nx := 113) at_108_110 rfl rfl (by decide) (by decide) (fun h108_110 => ?_) (fun h => absurd h (by decide))
    refine qa_s (pc' := 137) at_108_135 rfl rfl rfl ?_
    refine qa_bi (nx := 139) (v := nI 8) at_108_137 (by decide) rfl ?_
    refine qn_icmp_ne (tg := 149) (nx := 142) at_108_139 rfl rfl (by decide) (by decide) (fun h108_139 => ?_) (fun h => absurd h (by decide))
    refine qa_s (pc' := 151) at_108_149 rfl rfl rfl ?_
    refine qa_bi (nx := 153) (v := nI 10) at_108_151 (by decide) rfl ?_
    refine qn_icmp_ne (tg := 166) (nx := 156) at_108_153 rfl rfl (by decide) (by decide) (fun h108_153 => ?_) (fun h => absurd h (by decide))
    refine qa_ic (nx := 167) (v := nI 0) at_108_166 (by decide) rfl ?_
    refine qa_s (pc' := 169) at_108_167 rfl rfl rfl ?_
    refine qa_s (pc' := 171) at_108_169 rfl rfl rfl ?_
    refine qa_s (pc' := 172) at_108_171 rfl rfl rfl ?_
    refine qa_callV (nx := 175) at_108_172 rfl rfl (Nat.le_of_ble_eq_true rfl) rfl rfl rfl (by decide) rfl (by decide) ?_
    show qa _ 111 0 [(0, .ref _)] [] _ _
    refine c111_q (n := 3 * i + r) (by omega) hI hO ?_
    show qa _ 108 175 _ [.int _, .int _] _ _
    refine qa_s (pc' := 176) at_108_175 rfl rfl rfl ?_
    refine qa_if_eq (tg := 181) (nx := 179) at_108_176 rfl rfl (fun h108_176 => ?_) (fun h108_176 => ?_)
    · refine qa_s (pc' := 183) at_108_181 rfl rfl rfl ?_
      refine qa_ic (nx := 184) (v := nI 5) at_108_183 (by decide) rfl ?_
      refine qn_icmp_ne (tg := 212) (nx := 187) at_108_184 rfl rfl (by decide) (by decide) (fun h108_184 => ?_) (fun h => absurd h (by decide))
      refine qa_ic (nx := 213) (v := nI 0) at_108_212 (by decide) rfl ?_
      refine qa_ret at_108_213 rfl ?_
      exact K0
    · exact absurd h108_176 (fun g => g (by rw [show nI 0 = 0 from rfl, Int32.zero_and]))
theorem me12_q (hi : i < 5) (hr : r < 3) (hk : k < L (3 * i + r)) (hI : ImM L P Y σ) (hO : opM_ (3 * i + r) d s σ) (hS : StOk (P (3 * i + r)) (Y (3 * i + r)) s d k) (ho : P (3 * i + r) k = 12) (K0 : Q (some (.int (nI 0))) σ) : qa cst 108 0 [(0, .ref (cl 40 0)), (1, .int (nI i)), (2, .int (nI r)), (3, .int (nI k))] [] σ Q := by
  obtain ⟨hL, e48, h2⟩ := hI (3 * i + r) (by omega)
  obtain ⟨hP, e44, h46⟩ := h2 k (by omega)
  obtain ⟨o12, o14, o5⟩ := id hO
  obtain ⟨hd, hl2, hs⟩ := id hS
  have hk12 : k < 12 := by omega
  have hlk := lks_w hS
  rw [ho] at e44
  refine qa_ic (nx := 1) (v := nI 3) at_108_0 (by decide) rfl ?_
  refine qa_s (pc' := 2) at_108_1 rfl rfl rfl ?_
  refine qa_mulN (nx := 3) at_108_2 rfl ?_
  refine qa_s (pc' := 4) at_108_3 rfl rfl rfl ?_
  refine qa_addN (nx := 5) at_108_4 rfl ?_
  refine qa_bi (nx := 7) (v := nI 12) at_108_5 (by decide) rfl ?_
  refine qa_mulN (nx := 8) at_108_7 rfl ?_
  refine qa_s (pc' := 9) at_108_8 rfl rfl rfl ?_
  refine qa_addN (nx := 10) at_108_9 rfl ?_
  refine qa_s (pc' := 12) at_108_10 rfl rfl rfl ?_
  refine qa_s (pc' := 13) at_108_12 rfl rfl rfl ?_
  refine qa_getR (nx := 16) at_108_13 rfl (by decide) rfl rfl (by decide) ?_
  refine qa_s (pc' := 18) at_108_16 rfl rfl rfl ?_
  refine qa_ialdV (nx := 19) (k := (((3 * i) + r) * 12) + k) (v := nI 12) at_108_18 rfl rfl rfl (by decide) rfl (show (((3 * i) + r) * 12) + k < 180 by omega) (show _ from e44) ?_
  refine qa_s (pc' := 21) at_108_19 rfl rfl rfl ?_
  refine qa_s (pc' := 22) at_108_21 rfl rfl rfl ?_
  refine qa_getR (nx := 25) at_108_22 rfl (by decide) rfl rfl (by decide) ?_
  refine qa_s (pc' := 27) at_108_25 rfl rfl rfl ?_
  refine qa_iald (nx := 28) (k := (((3 * i) + r) * 12) + k) at_108_27 rfl rfl rfl (by decide) rfl (show (((3 * i) + r) * 12) + k < 180 by omega) ?_
  refine qa_s (pc' := 30) at_108_28 rfl rfl rfl ?_
  refine qa_s (pc' := 31) at_108_30 rfl rfl rfl ?_
  refine qa_getV (nx := 34) (v := nI d) at_108_31 rfl (by decide) rfl rfl (by decide) (show _ from o14) ?_
  refine qn_if_le (tg := 56) (nx := 37) at_108_34 rfl rfl (by omega) (fun h108_34 => ?_) (fun h108_34 => ?_)
  · refine qa_ic (nx := 57) (v := (-1)) at_108_56 (by decide) rfl ?_
    refine qa_s (pc' := 59) at_108_57 rfl rfl rfl ?_
    refine qa_s (pc' := 61) at_108_59 rfl rfl rfl ?_
    refine qa_bi (nx := 63) (v := nI 7) at_108_61 (by decide) rfl ?_
    refine qn_icmp_ne (tg := 73) (nx := 66) at_108_63 rfl rfl (by decide) (by decide) (fun h108_63 => ?_) (fun h => absurd h (by decide))
    refine qa_s (pc' := 75) at_108_73 rfl rfl rfl ?_
    refine qa_bi (nx := 77) (v := nI 9) at_108_75 (by decide) rfl ?_
    refine qn_icmp_ne (tg := 89) (nx := 80) at_108_77 rfl rfl (by decide) (by decide) (fun h108_77 => ?_) (fun h => absurd h (by decide))
    refine qa_s (pc' := 91) at_108_89 rfl rfl rfl ?_
    refine qa_bi (nx := 93) (v := nI 6) at_108_91 (by decide) rfl ?_
    refine qn_icmp_ne (tg := 106) (nx := 96) at_108_93 rfl rfl (by decide) (by decide) (fun h108_93 => ?_) (fun h => absurd h (by decide))
    refine qa_s (pc' := 108) at_108_106 rfl rfl rfl ?_
    refine qa_bi (nx := 110) (v := nI 10) at_108_108 (by decide) rfl ?_
    refine qn_icmp_ne (tg := 135) (nx := 113) at_108_110 rfl rfl (by decide) (by decide) (fun h108_110 => ?_) (fun h => absurd h (by decide))
    refine qa_s (pc' := 137) at_108_135 rfl rfl rfl ?_
    refine qa_bi (nx := 139) (v := nI 8) at_108_137 (by decide) rfl ?_
    refine qn_icmp_ne (tg := 149) (nx := 142) at_108_139 rfl rfl (by decide) (by decide) (fun h108_139 => ?_) (fun h => absurd h (by decide))
    refine qa_s (pc' := 151) at_108_149 rfl rfl rfl ?_
    refine qa_bi (nx := 153) (v := nI 10) at_108_151 (by decide) rfl ?_
    refine qn_icmp_ne (tg := 166) (nx := 156) at_108_153 rfl rfl (by decide) (by decide) (fun h108_153 => ?_) (fun h => absurd h (by decide))
    refine qa_ic (nx := 167) (v := nI 0) at_108_166 (by decide) rfl ?_
    refine qa_s (pc' := 169) at_108_167 rfl rfl rfl ?_
    refine qa_s (pc' := 171) at_108_169 rfl rfl rfl ?_
    refine qa_s (pc' := 172) at_108_171 rfl rfl rfl ?_
    refine qa_callV (nx := 175) at_108_172 rfl rfl (Nat.le_of_ble_eq_true rfl) rfl rfl rfl (by decide) rfl (by decide) ?_
    show qa _ 111 0 [(0, .ref _)] [] _ _
    refine c111_q (n := 3 * i + r) (by omega) hI hO ?_
    show qa _ 108 175 _ [.int _, .int _] _ _
    refine qa_s (pc' := 176) at_108_175 rfl rfl rfl ?_
    refine qa_if_eq (tg := 181) (nx := 179) at_108_176 rfl rfl (fun h108_176 => ?_) (fun h108_176 => ?_)
    · refine qa_s (pc' := 183) at_108_181 rfl rfl rfl ?_
      refine qa_ic (nx := 184) (v := nI 5) at_108_183 (by decide) rfl ?_
      refine qn_icmp_ne (tg := 212) (nx := 187) at_108_184 rfl rfl (by decide) (by decide) (fun h108_184 => ?_) (fun h => absurd h (by decide))
      refine qa_ic (nx := 213) (v := nI 0) at_108_212 (by decide) rfl ?_
      refine qa_ret at_108_213 rfl ?_
      exact K0
    · exact absurd h108_176 (fun g => g (by rw [show nI 0 = 0 from rfl, Int32.zero_and]))
  · have t12 := (o5 (d - 1) (by omega)).1
    have tt := (h2 (s (d - 1)) (o5 (d - 1) (by omega)).1)
    refine qa_s (pc' := 38) at_108_37 rfl rfl rfl ?_
    refine qa_getR (nx := 41) at_108_38 rfl (by decide) rfl rfl (by decide) ?_
    refine qa_s (pc' := 42) at_108_41 rfl rfl rfl ?_
    refine qa_getR (nx := 45) at_108_42 rfl (by decide) rfl rfl (by decide) ?_
    refine qa_s (pc' := 46) at_108_45 rfl rfl rfl ?_
    refine qa_getV (nx := 49) (v := nI d) at_108_46 rfl (by decide) rfl rfl (by decide) (show _ from o14) ?_
    refine qa_ic (nx := 50) (v := nI 1) at_108_49 (by decide) rfl ?_
    refine qa_subN (nx := 51) at_108_50 rfl (by omega) ?_
    refine qa_ialdV (nx := 52) (k := d - 1) (v := nI ((3 * i + r) * 12 + s (d - 1))) at_108_51 rfl rfl rfl (by decide) rfl (show d - 1 < 12 by omega) (show _ from (o5 (d - 1) (by omega)).2) ?_
    refine qa_ialdV (nx := 53) (k := (3 * i + r) * 12 + s (d - 1)) (v := nI (P (3 * i + r) (s (d - 1)))) at_108_52 rfl rfl rfl (by decide) rfl (show (3 * i + r) * 12 + s (d - 1) < 180 by omega) (show _ from tt.2.1) ?_
    refine qa_goto (nx := 57) at_108_53 rfl ?_
    refine qa_s (pc' := 59) at_108_57 rfl rfl rfl ?_
    refine qa_s (pc' := 61) at_108_59 rfl rfl rfl ?_
    refine qa_bi (nx := 63) (v := nI 7) at_108_61 (by decide) rfl ?_
    refine qn_icmp_ne (tg := 73) (nx := 66) at_108_63 rfl rfl (by decide) (by decide) (fun h108_63 => ?_) (fun h => absurd h (by decide))
    refine qa_s (pc' := 75) at_108_73 rfl rfl rfl ?_
    refine qa_bi (nx := 77) (v := nI 9) at_108_75 (by decide) rfl ?_
    refine qn_icmp_ne (tg := 89) (nx := 80) at_108_77 rfl rfl (by decide) (by decide) (fun h108_77 => ?_) (fun h => absurd h (by decide))
    refine qa_s (pc' := 91) at_108_89 rfl rfl rfl ?_
    refine qa_bi (nx := 93) (v := nI 6) at_108_91 (by decide) rfl ?_
    refine qn_icmp_ne (tg := 106) (nx := 96) at_108_93 rfl rfl (by decide) (by decide) (fun h108_93 => ?_) (fun h => absurd h (by decide))
    refine qa_s (pc' := 108) at_108_106 rfl rfl rfl ?_
    refine qa_bi (nx := 110) (v := nI 10) at_108_108 (by decide) rfl ?_
    refine qn_icmp_ne (tg := 135) (nx := 113) at_108_110 rfl rfl (by decide) (by decide) (fun h108_110 => ?_) (fun h => absurd h (by decide))
    refine qa_s (pc' := 137) at_108_135 rfl rfl rfl ?_
    refine qa_bi (nx := 139) (v := nI 8) at_108_137 (by decide) rfl ?_
    refine qn_icmp_ne (tg := 149) (nx := 142) at_108_139 rfl rfl (by decide) (by decide) (fun h108_139 => ?_) (fun h => absurd h (by decide))
    refine qa_s (pc' := 151) at_108_149 rfl rfl rfl ?_
    refine qa_bi (nx := 153) (v := nI 10) at_108_151 (by decide) rfl ?_
    refine qn_icmp_ne (tg := 166) (nx := 156) at_108_153 rfl rfl (by decide) (by decide) (fun h108_153 => ?_) (fun h => absurd h (by decide))
    refine qa_ic (nx := 167) (v := nI 0) at_108_166 (by decide) rfl ?_
    refine qa_s (pc' := 169) at_108_167 rfl rfl rfl ?_
    refine qa_s (pc' := 171) at_108_169 rfl rfl rfl ?_
    refine qa_s (pc' := 172) at_108_171 rfl rfl rfl ?_
    refine qa_callV (nx := 175) at_108_172 rfl rfl (Nat.le_of_ble_eq_true rfl) rfl rfl rfl (by decide) rfl (by decide) ?_
    show qa _ 111 0 [(0, .ref _)] [] _ _
    refine c111_q (n := 3 * i + r) (by omega) hI hO ?_
    show qa _ 108 175 _ [.int _, .int _] _ _
    refine qa_s (pc' := 176) at_108_175 rfl rfl rfl ?_
    refine qa_if_eq (tg := 181) (nx := 179) at_108_176 rfl rfl (fun h108_176 => ?_) (fun h108_176 => ?_)
    · refine qa_s (pc' := 183) at_108_181 rfl rfl rfl ?_
      refine qa_ic (nx := 184) (v := nI 5) at_108_183 (by decide) rfl ?_
      refine qn_icmp_ne (tg := 212) (nx := 187) at_108_184 rfl rfl (by decide) (by decide) (fun h108_184 => ?_) (fun h => absurd h (by decide))
      refine qa_ic (nx := 213) (v := nI 0) at_108_212 (by decide) rfl ?_
      refine qa_ret at_108_213 rfl ?_
      exact K0
    · exact absurd h108_176 (fun g => g (by rw [show nI 0 = 0 from rfl, Int32.zero_and]))
theorem me13_q (hi : i < 5) (hr : r < 3) (hk : k < L (3 * i + r)) (hI : ImM L P Y σ) (hO : opM_ (3 * i + r) d s σ) (hS : StOk (P (3 * i + r)) (Y (3 * i + r)) s d k) (ho : P (3 * i + r) k = 13) (K0 : Q (some (.int (nI 0))) σ) : qa cst 108 0 [(0, .ref (cl 40 0)), (1, .int (nI i)), (2, .int (nI r)), (3, .int (nI k))] [] σ Q := by
  obtain ⟨hL, e48, h2⟩ := hI (3 * i + r) (by omega)
  obtain ⟨hP, e44, h46⟩ := h2 k (by omega)
  obtain ⟨o12, o14, o5⟩ := id hO
  obtain ⟨hd, hl2, hs⟩ := id hS
  have hk12 : k < 12 := by omega
  have hlk := lks_w hS
  rw [ho] at e44
  refine qa_ic (nx := 1) (v := nI 3) at_108_0 (by decide) rfl ?_
  refine qa_s (pc' := 2) at_108_1 rfl rfl rfl ?_
  refine qa_mulN (nx := 3) at_108_2 rfl ?_
  refine qa_s (pc' := 4) at_108_3 rfl rfl rfl ?_
  refine qa_addN (nx := 5) at_108_4 rfl ?_
  refine qa_bi (nx := 7) (v := nI 12) at_108_5 (by decide) rfl ?_
  refine qa_mulN (nx := 8) at_108_7 rfl ?_
  refine qa_s (pc' := 9) at_108_8 rfl rfl rfl ?_
  refine qa_addN (nx := 10) at_108_9 rfl ?_
  refine qa_s (pc' := 12) at_108_10 rfl rfl rfl ?_
  refine qa_s (pc' := 13) at_108_12 rfl rfl rfl ?_
  refine qa_getR (nx := 16) at_108_13 rfl (by decide) rfl rfl (by decide) ?_
  refine qa_s (pc' := 18) at_108_16 rfl rfl rfl ?_
  refine qa_ialdV (nx := 19) (k := (((3 * i) + r) * 12) + k) (v := nI 13) at_108_18 rfl rfl rfl (by decide) rfl (show (((3 * i) + r) * 12) + k < 180 by omega) (show _ from e44) ?_
  refine qa_s (pc' := 21) at_108_19 rfl rfl rfl ?_
  refine qa_s (pc' := 22) at_108_21 rfl rfl rfl ?_
  refine qa_getR (nx := 25) at_108_22 rfl (by decide) rfl rfl (by decide) ?_
  refine qa_s (pc' := 27) at_108_25 rfl rfl rfl ?_
  refine qa_iald (nx := 28) (k := (((3 * i) + r) * 12) + k) at_108_27 rfl rfl rfl (by decide) rfl (show (((3 * i) + r) * 12) + k < 180 by omega) ?_
  refine qa_s (pc' := 30) at_108_28 rfl rfl rfl ?_
  refine qa_s (pc' := 31) at_108_30 rfl rfl rfl ?_
  refine qa_getV (nx := 34) (v := nI d) at_108_31 rfl (by decide) rfl rfl (by decide) (show _ from o14) ?_
  refine qn_if_le (tg := 56) (nx := 37) at_108_34 rfl rfl (by omega) (fun h108_34 => ?_) (fun h108_34 => ?_)
  · refine qa_ic (nx := 57) (v := (-1)) at_108_56 (by decide) rfl ?_
    refine qa_s (pc' := 59) at_108_57 rfl rfl rfl ?_
    refine qa_s (pc' := 61) at_108_59 rfl rfl rfl ?_
    refine qa_bi (nx := 63) (v := nI 7) at_108_61 (by decide) rfl ?_
    refine qn_icmp_ne (tg := 73) (nx := 66) at_108_63 rfl rfl (by decide) (by decide) (fun h108_63 => ?_) (fun h => absurd h (by decide))
    refine qa_s (pc' := 75) at_108_73 rfl rfl rfl ?_
    refine qa_bi (nx := 77) (v := nI 9) at_108_75 (by decide) rfl ?_
    refine qn_icmp_ne (tg := 89) (nx := 80) at_108_77 rfl rfl (by decide) (by decide) (fun h108_77 => ?_) (fun h => absurd h (by decide))
    refine qa_s (pc' := 91) at_108_89 rfl rfl rfl ?_
    refine qa_bi (nx := 93) (v := nI 6) at_108_91 (by decide) rfl ?_
    refine qn_icmp_ne (tg := 106) (nx := 96) at_108_93 rfl rfl (by decide) (by decide) (fun h108_93 => ?_) (fun h => absurd h (by decide))
    refine qa_s (pc' := 108) at_108_106 rfl rfl rfl ?_
    refine qa_bi (nx := 110) (v := nI 10) at_108_108 (by decide) rfl ?_
    refine qn_icmp_ne (tg := 135) (nx := 113) at_108_110 rfl rfl (by decide) (by decide) (fun h108_110 => ?_) (fun h => absurd h (by decide))
    refine qa_s (pc' := 137) at_108_135 rfl rfl rfl ?_
    refine qa_bi (nx := 139) (v := nI 8) at_108_137 (by decide) rfl ?_
    refine qn_icmp_ne (tg := 149) (nx := 142) at_108_139 rfl rfl (by decide) (by decide) (fun h108_139 => ?_) (fun h => absurd h (by decide))
    refine qa_s (pc' := 151) at_108_149 rfl rfl rfl ?_
    refine qa_bi (nx := 153) (v := nI 10) at_108_151 (by decide) rfl ?_
    refine qn_icmp_ne (tg := 166) (nx := 156) at_108_153 rfl rfl (by decide) (by decide) (fun h108_153 => ?_) (fun h => absurd h (by decide))
    refine qa_ic (nx := 167) (v := nI 0) at_108_166 (by decide) rfl ?_
    refine qa_s (pc' := 169) at_108_167 rfl rfl rfl ?_
    refine qa_s (pc' := 171) at_108_169 rfl rfl rfl ?_
    refine qa_s (pc' := 172) at_108_171 rfl rfl rfl ?_
    refine qa_callV (nx := 175) at_108_172 rfl rfl (Nat.le_of_ble_eq_true rfl) rfl rfl rfl (by decide) rfl (by decide) ?_
    show qa _ 111 0 [(0, .ref _)] [] _ _
    refine c111_q (n := 3 * i + r) (by omega) hI hO ?_
    show qa _ 108 175 _ [.int _, .int _] _ _
    refine qa_s (pc' := 176) at_108_175 rfl rfl rfl ?_
    refine qa_if_eq (tg := 181) (nx := 179) at_108_176 rfl rfl (fun h108_176 => ?_) (fun h108_176 => ?_)
    · refine qa_s (pc' := 183) at_108_181 rfl rfl rfl ?_
      refine qa_ic (nx := 184) (v := nI 5) at_108_183 (by decide) rfl ?_
      refine qn_icmp_ne (tg := 212) (nx := 187) at_108_184 rfl rfl (by decide) (by decide) (fun h108_184 => ?_) (fun h => absurd h (by decide))
      refine qa_ic (nx := 213) (v := nI 0) at_108_212 (by decide) rfl ?_
      refine qa_ret at_108_213 rfl ?_
      exact K0
    · exact absurd h108_176 (fun g => g (by rw [show nI 0 = 0 from rfl, Int32.zero_and]))
  · have t12 := (o5 (d - 1) (by omega)).1
    have tt := (h2 (s (d - 1)) (o5 (d - 1) (by omega)).1)
    refine qa_s (pc' := 38) at_108_37 rfl rfl rfl ?_
    refine qa_getR (nx := 41) at_108_38 rfl (by decide) rfl rfl (by decide) ?_
    refine qa_s (pc' := 42) at_108_41 rfl rfl rfl ?_
    refine qa_getR (nx := 45) at_108_42 rfl (by decide) rfl rfl (by decide) ?_
    refine qa_s (pc' := 46) at_108_45 rfl rfl rfl ?_
    refine qa_getV (nx := 49) (v := nI d) at_108_46 rfl (by decide) rfl rfl (by decide) (show _ from o14) ?_
    refine qa_ic (nx := 50) (v := nI 1) at_108_49 (by decide) rfl ?_
    refine qa_subN (nx := 51) at_108_50 rfl (by omega) ?_
    refine qa_ialdV (nx := 52) (k := d - 1) (v := nI ((3 * i + r) * 12 + s (d - 1))) at_108_51 rfl rfl rfl (by decide) rfl (show d - 1 < 12 by omega) (show _ from (o5 (d - 1) (by omega)).2) ?_
    refine qa_ialdV (nx := 53) (k := (3 * i + r) * 12 + s (d - 1)) (v := nI (P (3 * i + r) (s (d - 1)))) at_108_52 rfl rfl rfl (by decide) rfl (show (3 * i + r) * 12 + s (d - 1) < 180 by omega) (show _ from tt.2.1) ?_
    refine qa_goto (nx := 57) at_108_53 rfl ?_
    refine qa_s (pc' := 59) at_108_57 rfl rfl rfl ?_
    refine qa_s (pc' := 61) at_108_59 rfl rfl rfl ?_
    refine qa_bi (nx := 63) (v := nI 7) at_108_61 (by decide) rfl ?_
    refine qn_icmp_ne (tg := 73) (nx := 66) at_108_63 rfl rfl (by decide) (by decide) (fun h108_63 => ?_) (fun h => absurd h (by decide))
    refine qa_s (pc' := 75) at_108_73 rfl rfl rfl ?_
    refine qa_bi (nx := 77) (v := nI 9) at_108_75 (by decide) rfl ?_
    refine qn_icmp_ne (tg := 89) (nx := 80) at_108_77 rfl rfl (by decide) (by decide) (fun h108_77 => ?_) (fun h => absurd h (by decide))
    refine qa_s (pc' := 91) at_108_89 rfl rfl rfl ?_
    refine qa_bi (nx := 93) (v := nI 6) at_108_91 (by decide) rfl ?_
    refine qn_icmp_ne (tg := 106) (nx := 96) at_108_93 rfl rfl (by decide) (by decide) (fun h108_93 => ?_) (fun h => absurd h (by decide))
    refine qa_s (pc' := 108) at_108_106 rfl rfl rfl ?_
    refine qa_bi (nx := 110) (v := nI 10) at_108_108 (by decide) rfl ?_
    refine qn_icmp_ne (tg := 135) (nx := 113) at_108_110 rfl rfl (by decide) (by decide) (fun h108_110 => ?_) (fun h => absurd h (by decide))
    refine qa_s (pc' := 137) at_108_135 rfl rfl rfl ?_
    refine qa_bi (nx := 139) (v := nI 8) at_108_137 (by decide) rfl ?_
    refine qn_icmp_ne (tg := 149) (nx := 142) at_108_139 rfl rfl (by decide) (by decide) (fun h108_139 => ?_) (fun h => absurd h (by decide))
    refine qa_s (pc' := 151) at_108_149 rfl rfl rfl ?_
    refine qa_bi (nx := 153) (v := nI 10) at_108_151 (by decide) rfl ?_
    refine qn_icmp_ne (tg := 166) (nx := 156) at_108_153 rfl rfl (by decide) (by decide) (fun h108_153 => ?_) (fun h => absurd h (by decide))
    refine qa_ic (nx := 167) (v := nI 0) at_108_166 (by decide) rfl ?_
    refine qa_s (pc' := 169) at_108_167 rfl rfl rfl ?_
    refine qa_s (pc' := 171) at_108_169 rfl rfl rfl ?_
    refine qa_s (pc' := 172) at_108_171 rfl rfl rfl ?_
    refine qa_callV (nx := 175) at_108_172 rfl rfl (Nat.le_of_ble_eq_true rfl) rfl rfl rfl (by decide) rfl (by decide) ?_
    show qa _ 111 0 [(0, .ref _)] [] _ _
    refine c111_q (n := 3 * i + r) (by omega) hI hO ?_
    show qa _ 108 175 _ [.int _, .int _] _ _
    refine qa_s (pc' := 176) at_108_175 rfl rfl rfl ?_
    refine qa_if_eq (tg := 181) (nx := 179) at_108_176 rfl rfl (fun h108_176 => ?_) (fun h108_176 => ?_)
    · refine qa_s (pc' := 183) at_108_181 rfl rfl rfl ?_
      refine qa_ic (nx := 184) (v := nI 5) at_108_183 (by decide) rfl ?_
      refine qn_icmp_ne (tg := 212) (nx := 187) at_108_184 rfl rfl (by decide) (by decide) (fun h108_184 => ?_) (fun h => absurd h (by decide))
      refine qa_ic (nx := 213) (v := nI 0) at_108_212 (by decide) rfl ?_
      refine qa_ret at_108_213 rfl ?_
      exact K0
    · exact absurd h108_176 (fun g => g (by rw [show nI 0 = 0 from rfl, Int32.zero_and]))
theorem me14_q (hi : i < 5) (hr : r < 3) (hk : k < L (3 * i + r)) (hI : ImM L P Y σ) (hO : opM_ (3 * i + r) d s σ) (hS : StOk (P (3 * i + r)) (Y (3 * i + r)) s d k) (ho : P (3 * i + r) k = 14) (K0 : Q (some (.int (nI 0))) σ) : qa cst 108 0 [(0, .ref (cl 40 0)), (1, .int (nI i)), (2, .int (nI r)), (3, .int (nI k))] [] σ Q := by
  obtain ⟨hL, e48, h2⟩ := hI (3 * i + r) (by omega)
  obtain ⟨hP, e44, h46⟩ := h2 k (by omega)
  obtain ⟨o12, o14, o5⟩ := id hO
  obtain ⟨hd, hl2, hs⟩ := id hS
  have hk12 : k < 12 := by omega
  have hlk := lks_w hS
  rw [ho] at e44
  refine qa_ic (nx := 1) (v := nI 3) at_108_0 (by decide) rfl ?_
  refine qa_s (pc' := 2) at_108_1 rfl rfl rfl ?_
  refine qa_mulN (nx := 3) at_108_2 rfl ?_
  refine qa_s (pc' := 4) at_108_3 rfl rfl rfl ?_
  refine qa_addN (nx := 5) at_108_4 rfl ?_
  refine qa_bi (nx := 7) (v := nI 12) at_108_5 (by decide) rfl ?_
  refine qa_mulN (nx := 8) at_108_7 rfl ?_
  refine qa_s (pc' := 9) at_108_8 rfl rfl rfl ?_
  refine qa_addN (nx := 10) at_108_9 rfl ?_
  refine qa_s (pc' := 12) at_108_10 rfl rfl rfl ?_
  refine qa_s (pc' := 13) at_108_12 rfl rfl rfl ?_
  refine qa_getR (nx := 16) at_108_13 rfl (by decide) rfl rfl (by decide) ?_
  refine qa_s (pc' := 18) at_108_16 rfl rfl rfl ?_
  refine qa_ialdV (nx := 19) (k := (((3 * i) + r) * 12) + k) (v := nI 14) at_108_18 rfl rfl rfl (by decide) rfl (show (((3 * i) + r) * 12) + k < 180 by omega) (show _ from e44) ?_
  refine qa_s (pc' := 21) at_108_19 rfl rfl rfl ?_
  refine qa_s (pc' := 22) at_108_21 rfl rfl rfl ?_
  refine qa_getR (nx := 25) at_108_22 rfl (by decide) rfl rfl (by decide) ?_
  refine qa_s (pc' := 27) at_108_25 rfl rfl rfl ?_
  refine qa_iald (nx := 28) (k := (((3 * i) + r) * 12) + k) at_108_27 rfl rfl rfl (by decide) rfl (show (((3 * i) + r) * 12) + k < 180 by omega) ?_
  refine qa_s (pc' := 30) at_108_28 rfl rfl rfl ?_
  refine qa_s (pc' := 31) at_108_30 rfl rfl rfl ?_
  refine qa_getV (nx := 34) (v := nI d) at_108_31 rfl (by decide) rfl rfl (by decide) (show _ from o14) ?_
  refine qn_if_le (tg := 56) (nx := 37) at_108_34 rfl rfl (by omega) (fun h108_34 => ?_) (fun h108_34 => ?_)
  · refine qa_ic (nx := 57) (v := (-1)) at_108_56 (by decide) rfl ?_
    refine qa_s (pc' := 59) at_108_57 rfl rfl rfl ?_
    refine qa_s (pc' := 61) at_108_59 rfl rfl rfl ?_
    refine qa_bi (nx := 63) (v := nI 7) at_108_61 (by decide) rfl ?_
    refine qn_icmp_ne (tg := 73) (nx := 66) at_108_63 rfl rfl (by decide) (by decide) (fun h108_63 => ?_) (fun h => absurd h (by decide))
    refine qa_s (pc' := 75) at_108_73 rfl rfl rfl ?_
    refine qa_bi (nx := 77) (v := nI 9) at_108_75 (by decide) rfl ?_
    refine qn_icmp_ne (tg := 89) (nx := 80) at_108_77 rfl rfl (by decide) (by decide) (fun h108_77 => ?_) (fun h => absurd h (by decide))
    refine qa_s (pc' := 91) at_108_89 rfl rfl rfl ?_
    refine qa_bi (nx := 93) (v := nI 6) at_108_91 (by decide) rfl ?_
    refine qn_icmp_ne (tg := 106) (nx := 96) at_108_93 rfl rfl (by decide) (by decide) (fun h108_93 => ?_) (fun h => absurd h (by decide))
    refine qa_s (pc' := 108) at_108_106 rfl rfl rfl ?_
    refine qa_bi (nx := 110) (v := nI 10) at_108_108 (by decide) rfl ?_
    refine qn_icmp_ne (tg := 135) (nx := 113) at_108_110 rfl rfl (by decide) (by decide) (fun h108_110 => ?_) (fun h => absurd h (by decide))
    refine qa_s (pc' := 137) at_108_135 rfl rfl rfl ?_
    refine qa_bi (nx := 139) (v := nI 8) at_108_137 (by decide) rfl ?_
    refine qn_icmp_ne (tg := 149) (nx := 142) at_108_139 rfl rfl (by decide) (by decide) (fun h108_139 => ?_) (fun h => absurd h (by decide))
    refine qa_s (pc' := 151) at_108_149 rfl rfl rfl ?_
    refine qa_bi (nx := 153) (v := nI 10) at_108_151 (by decide) rfl ?_
    refine qn_icmp_ne (tg := 166) (nx := 156) at_108_153 rfl rfl (by decide) (by decide) (fun h108_153 => ?_) (fun h => absurd h (by decide))
    refine qa_ic (nx := 167) (v := nI 0) at_108_166 (by decide) rfl ?_
    refine qa_s (pc' := 169) at_108_167 rfl rfl rfl ?_
    refine qa_s (pc' := 171) at_108_169 rfl rfl rfl ?_
    refine qa_s (pc' := 172) at_108_171 rfl rfl rfl ?_
    refine qa_callV (nx := 175) at_108_172 rfl rfl (Nat.le_of_ble_eq_true rfl) rfl rfl rfl (by decide) rfl (by decide) ?_
    show qa _ 111 0 [(0, .ref _)] [] _ _
    refine c111_q (n := 3 * i + r) (by omega) hI hO ?_
    show qa _ 108 175 _ [.int _, .int _] _ _
    refine qa_s (pc' := 176) at_108_175 rfl rfl rfl ?_
    refine qa_if_eq (tg := 181) (nx := 179) at_108_176 rfl rfl (fun h108_176 => ?_) (fun h108_176 => ?_)
    · refine qa_s (pc' := 183) at_108_181 rfl rfl rfl ?_
      refine qa_ic (nx := 184) (v := nI 5) at_108_183 (by decide) rfl ?_
      refine qn_icmp_ne (tg := 212) (nx := 187) at_108_184 rfl rfl (by decide) (by decide) (fun h108_184 => ?_) (fun h => absurd h (by decide))
      refine qa_ic (nx := 213) (v := nI 0) at_108_212 (by decide) rfl ?_
      refine qa_ret at_108_213 rfl ?_
      exact K0
    · exact absurd h108_176 (fun g => g (by rw [show nI 0 = 0 from rfl, Int32.zero_and]))
  · have t12 := (o5 (d - 1) (by omega)).1
    have tt := (h2 (s (d - 1)) (o5 (d - 1) (by omega)).1)
    refine qa_s (pc' := 38) at_108_37 rfl rfl rfl ?_
    refine qa_getR (nx := 41) at_108_38 rfl (by decide) rfl rfl (by decide) ?_
    refine qa_s (pc' := 42) at_108_41 rfl rfl rfl ?_
    refine qa_getR (nx := 45) at_108_42 rfl (by decide) rfl rfl (by decide) ?_
    refine qa_s (pc' := 46) at_108_45 rfl rfl rfl ?_
    refine qa_getV (nx := 49) (v := nI d) at_108_46 rfl (by decide) rfl rfl (by decide) (show _ from o14) ?_
    refine qa_ic (nx := 50) (v := nI 1) at_108_49 (by decide) rfl ?_
    refine qa_subN (nx := 51) at_108_50 rfl (by omega) ?_
    refine qa_ialdV (nx := 52) (k := d - 1) (v := nI ((3 * i + r) * 12 + s (d - 1))) at_108_51 rfl rfl rfl (by decide) rfl (show d - 1 < 12 by omega) (show _ from (o5 (d - 1) (by omega)).2) ?_
    refine qa_ialdV (nx := 53) (k := (3 * i + r) * 12 + s (d - 1)) (v := nI (P (3 * i + r) (s (d - 1)))) at_108_52 rfl rfl rfl (by decide) rfl (show (3 * i + r) * 12 + s (d - 1) < 180 by omega) (show _ from tt.2.1) ?_
    refine qa_goto (nx := 57) at_108_53 rfl ?_
    refine qa_s (pc' := 59) at_108_57 rfl rfl rfl ?_
    refine qa_s (pc' := 61) at_108_59 rfl rfl rfl ?_
    refine qa_bi (nx := 63) (v := nI 7) at_108_61 (by decide) rfl ?_
    refine qn_icmp_ne (tg := 73) (nx := 66) at_108_63 rfl rfl (by decide) (by decide) (fun h108_63 => ?_) (fun h => absurd h (by decide))
    refine qa_s (pc' := 75) at_108_73 rfl rfl rfl ?_
    refine qa_bi (nx := 77) (v := nI 9) at_108_75 (by decide) rfl ?_
    refine qn_icmp_ne (tg := 89) (nx := 80) at_108_77 rfl rfl (by decide) (by decide) (fun h108_77 => ?_) (fun h => absurd h (by decide))
    refine qa_s (pc' := 91) at_108_89 rfl rfl rfl ?_
    refine qa_bi (nx := 93) (v := nI 6) at_108_91 (by decide) rfl ?_
    refine qn_icmp_ne (tg := 106) (nx := 96) at_108_93 rfl rfl (by decide) (by decide) (fun h108_93 => ?_) (fun h => absurd h (by decide))
    refine qa_s (pc' := 108) at_108_106 rfl rfl rfl ?_
    refine qa_bi (nx := 110) (v := nI 10) at_108_108 (by decide) rfl ?_
    refine qn_icmp_ne (tg := 135) (nx := 113) at_108_110 rfl rfl (by decide) (by decide) (fun h108_110 => ?_) (fun h => absurd h (by decide))
    refine qa_s (pc' := 137) at_108_135 rfl rfl rfl ?_
    refine qa_bi (nx := 139) (v := nI 8) at_108_137 (by decide) rfl ?_
    refine qn_icmp_ne (tg := 149) (nx := 142) at_108_139 rfl rfl (by decide) (by decide) (fun h108_139 => ?_) (fun h => absurd h (by decide))
    refine qa_s (pc' := 151) at_108_149 rfl rfl rfl ?_
    refine qa_bi (nx := 153) (v := nI 10) at_108_151 (by decide) rfl ?_
    refine qn_icmp_ne (tg := 166) (nx := 156) at_108_153 rfl rfl (by decide) (by decide) (fun h108_153 => ?_) (fun h => absurd h (by decide))
    refine qa_ic (nx := 167) (v := nI 0) at_108_166 (by decide) rfl ?_
    refine qa_s (pc' := 169) at_108_167 rfl rfl rfl ?_
    refine qa_s (pc' := 171) at_108_169 rfl rfl rfl ?_
    refine qa_s (pc' := 172) at_108_171 rfl rfl rfl ?_
    refine qa_callV (nx := 175) at_108_172 rfl rfl (Nat.le_of_ble_eq_true rfl) rfl rfl rfl (by decide) rfl (by decide) ?_
    show qa _ 111 0 [(0, .ref _)] [] _ _
    refine c111_q (n := 3 * i + r) (by omega) hI hO ?_
    show qa _ 108 175 _ [.int _, .int _] _ _
    refine qa_s (pc' := 176) at_108_175 rfl rfl rfl ?_
    refine qa_if_eq (tg := 181) (nx := 179) at_108_176 rfl rfl (fun h108_176 => ?_) (fun h108_176 => ?_)
    · refine qa_s (pc' := 183) at_108_181 rfl rfl rfl ?_
      refine qa_ic (nx := 184) (v := nI 5) at_108_183 (by decide) rfl ?_
      refine qn_icmp_ne (tg := 212) (nx := 187) at_108_184 rfl rfl (by decide) (by decide) (fun h108_184 => ?_) (fun h => absurd h (by decide))
      refine qa_ic (nx := 213) (v := nI 0) at_108_212 (by decide) rfl ?_
      refine qa_ret at_108_213 rfl ?_
      exact K0
    · exact absurd h108_176 (fun g => g (by rw [show nI 0 = 0 from rfl, Int32.zero_and]))
end PQ
