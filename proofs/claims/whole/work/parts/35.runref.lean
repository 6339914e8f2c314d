/-! run: the reference, as functions over its cells: entry, release, choice -/
section PQ
variable {cst : List (List Int32)} {σ : sg} {Q : Option Value → sg → Prop} {T : Nat}
def nN (x : Int32) : Nat := x.toInt.toNat
theorem nN_n {k : Nat} (h : k < 2 ^ 31) : nN (nI k) = k := by unfold nN; rw [nI_toInt h]; rfl
def jsl (x : Int32) : Nat := nN (x &&& nI 31)
theorem jsl_e (x : Int32) : x &&& nI 31 = nI (jsl x) ∧ jsl x < 32 := by
  obtain ⟨k, hk, ek⟩ := pk_andE x (m := nI 31) 5 (by decide)
  unfold jsl
  rw [ek, nN_n (by omega)]
  exact ⟨rfl, by omega⟩
def entM (σ : sg) (kind i v : Int32) : sg := up (up (up (up (up σ 78 0 (jsl (σ 40 0 29)) kind) 79 0 (jsl (σ 40 0 29)) i) 80 0 (jsl (σ 40 0 29)) (σ 40 0 22)) 81 0 (jsl (σ 40 0 29)) v) 40 0 29 (σ 40 0 29 + nI 1)
def relN (σ : sg) (i : Nat) : sg := up (up (up (up (up (up (up (up (up (up (up (up σ 58 0 i (nI 1)) 59 0 i (nI 0)) 60 0 i (σ 40 0 22)) 62 0 i (nI 0)) 63 0 i (nI 0)) 64 0 i (nI 0)) 65 0 i (nI 0)) 66 0 i (nI 0)) 70 0 (4 * i + 0) (nI 0)) 70 0 (4 * i + 1) (nI 0)) 70 0 (4 * i + 2) (nI 0)) 70 0 (4 * i + 3) (nI 0)
def relL (σ : sg) (i : Nat) : sg := entM (up σ 40 0 27 (σ 40 0 27 + nI 1)) (nI 4) (nI i) (σ 40 0 22 - σ 60 0 i)
def rel1 (σ : sg) (i : Nat) (w : Int32) : sg := up (up σ 72 0 i (σ 40 0 22 + σ 41 0 i)) 73 0 i w
def relM (σ : sg) (i : Nat) : sg := if σ 58 0 i = 0 then relN (rel1 σ i (if σ 43 0 i < 0 then σ 73 0 i - nI 1 else nI 0)) i else relL (rel1 σ i (if σ 43 0 i < 0 then σ 73 0 i - nI 1 else nI 0)) i
abbrev dueM (σ : sg) (i : Nat) : Prop := σ 72 0 i ≤ σ 40 0 22 ∧ (0 ≤ σ 43 0 i ∨ 0 < σ 73 0 i)
def relsM (σ : sg) : Nat → sg
  | 0 => σ
  | n + 1 => if dueM (relsM σ n) n then relM (relsM σ n) n else relsM σ n
def actM (σ : sg) (i : Nat) : Int32 := actF (σ 57 0) (nN (σ 64 0 i)) 4 (nI i)
abbrev bestM (σ : sg) (n b : Nat) : Prop := actM σ n < actM σ b ∨ (actM σ n = actM σ b ∧ ¬ σ 59 0 n = 0 ∧ σ 59 0 b = 0)
def chM (σ : sg) : Nat → Option Nat
  | 0 => none
  | n + 1 => if σ 58 0 n = 0 then chM σ n else match chM σ n with | none => some n | some b => if bestM σ n b then some n else some b
def oI : Option Nat → Int32 | none => -1 | some j => nI j
theorem c133_q {x y z : Int32} (k : Q none (entM σ x y z)) : qa cst 133 0 [(0, .ref (cl 40 0)), (1, .int x), (2, .int y), (3, .int z)] [] σ Q := by
  obtain ⟨ej, hj⟩ := jsl_e (σ 40 0 29)
  refine qa_s (pc' := 1) at_133_0 rfl rfl rfl ?_
  refine qa_getI (nx := 4) at_133_1 rfl (by decide) rfl rfl (by decide) ?_
  refine qa_bi (nx := 6) (v := nI 31) at_133_4 (by decide) rfl ?_
  refine qa_s (pc' := 7) at_133_6 rfl rfl rfl ?_
  rw [ej]
  refine qa_s (pc' := 9) at_133_7 rfl rfl rfl ?_
  refine qa_s (pc' := 10) at_133_9 rfl rfl rfl ?_
  refine qa_getR (nx := 13) at_133_10 rfl (by decide) rfl rfl (by decide) ?_
  refine qa_s (pc' := 15) at_133_13 rfl rfl rfl ?_
  refine qa_s (pc' := 16) at_133_15 rfl rfl rfl ?_
  refine qa_iast (nx := 17) (k := jsl (σ 40 0 29)) at_133_16 rfl rfl rfl (by decide) rfl (show jsl (σ 40 0 29) < 32 by omega) ?_
  refine qa_s (pc' := 18) at_133_17 rfl rfl rfl ?_
  refine qa_getR (nx := 21) at_133_18 rfl (by decide) rfl rfl (by decide) ?_
  refine qa_s (pc' := 23) at_133_21 rfl rfl rfl ?_
  refine qa_s (pc' := 24) at_133_23 rfl rfl rfl ?_
  refine qa_iast (nx := 25) (k := jsl (σ 40 0 29)) at_133_24 rfl rfl rfl (by decide) rfl (show jsl (σ 40 0 29) < 32 by omega) ?_
  refine qa_s (pc' := 26) at_133_25 rfl rfl rfl ?_
  refine qa_getR (nx := 29) at_133_26 rfl (by decide) rfl rfl (by decide) ?_
  refine qa_s (pc' := 31) at_133_29 rfl rfl rfl ?_
  refine qa_s (pc' := 32) at_133_31 rfl rfl rfl ?_
  refine qa_getI (nx := 35) at_133_32 rfl (by decide) rfl rfl (by decide) ?_
  refine qa_iast (nx := 36) (k := jsl (σ 40 0 29)) at_133_35 rfl rfl rfl (by decide) rfl (show jsl (σ 40 0 29) < 32 by omega) ?_
  refine qa_s (pc' := 37) at_133_36 rfl rfl rfl ?_
  refine qa_getR (nx := 40) at_133_37 rfl (by decide) rfl rfl (by decide) ?_
  refine qa_s (pc' := 42) at_133_40 rfl rfl rfl ?_
  refine qa_s (pc' := 43) at_133_42 rfl rfl rfl ?_
  refine qa_iast (nx := 44) (k := jsl (σ 40 0 29)) at_133_43 rfl rfl rfl (by decide) rfl (show jsl (σ 40 0 29) < 32 by omega) ?_
  refine qa_s (pc' := 45) at_133_44 rfl rfl rfl ?_
  refine qa_s (pc' := 46) at_133_45 rfl rfl rfl ?_
  refine qa_getI (nx := 49) at_133_46 rfl (by decide) rfl rfl (by decide) ?_
  refine qa_ic (nx := 50) (v := nI 1) at_133_49 (by decide) rfl ?_
  refine qa_s (pc' := 51) at_133_50 rfl rfl rfl ?_
  refine qa_put (nx := 54) at_133_51 rfl (by decide) rfl rfl rfl (by decide) ?_
  refine qa_ret at_133_54 rfl ?_
  exact k
theorem c132_q {i : Nat} (hi : i < 5) (k : Q none (relM σ i)) : qa cst 132 0 [(0, .ref (cl 40 0)), (1, .int (nI i))] [] σ Q := by
  refine qa_s (pc' := 1) at_132_0 rfl rfl rfl ?_
  refine qa_getR (nx := 4) at_132_1 rfl (by decide) rfl rfl (by decide) ?_
  refine qa_s (pc' := 5) at_132_4 rfl rfl rfl ?_
  refine qa_s (pc' := 6) at_132_5 rfl rfl rfl ?_
  refine qa_getI (nx := 9) at_132_6 rfl (by decide) rfl rfl (by decide) ?_
  refine qa_s (pc' := 10) at_132_9 rfl rfl rfl ?_
  refine qa_getR (nx := 13) at_132_10 rfl (by decide) rfl rfl (by decide) ?_
  refine qa_s (pc' := 14) at_132_13 rfl rfl rfl ?_
  refine qa_iald (nx := 15) (k := i) at_132_14 rfl rfl rfl (by decide) rfl (show i < 5 by omega) ?_
  refine qa_s (pc' := 16) at_132_15 rfl rfl rfl ?_
  refine qa_iast (nx := 17) (k := i) at_132_16 rfl rfl rfl (by decide) rfl (show i < 5 by omega) ?_
  refine qa_s (pc' := 18) at_132_17 rfl rfl rfl ?_
  refine qa_getR (nx := 21) at_132_18 rfl (by decide) rfl rfl (by decide) ?_
  refine qa_s (pc' := 22) at_132_21 rfl rfl rfl ?_
  refine qa_s (pc' := 23) at_132_22 rfl rfl rfl ?_
  refine qa_getR (nx := 26) at_132_23 rfl (by decide) rfl rfl (by decide) ?_
  refine qa_s (pc' := 27) at_132_26 rfl rfl rfl ?_
  refine qa_iald (nx := 28) (k := i) at_132_27 rfl rfl rfl (by decide) rfl (show i < 5 by omega) ?_
  refine qa_if_ge (tg := 42) (nx := 31) at_132_28 rfl rfl (fun h132_28 => ?_) (fun h132_28 => ?_)
  · have h28 : 0 ≤ σ 43 0 i := h132_28
    have hw : ¬ σ 43 0 i < 0 := by simp only [Int32.le_iff_toInt_le, Int32.lt_iff_toInt_lt] at h28 ⊢; omega
    refine qa_ic (nx := 43) (v := nI 0) at_132_42 (by decide) rfl ?_
    refine qa_iast (nx := 44) (k := i) at_132_43 rfl rfl rfl (by decide) rfl (show i < 5 by omega) ?_
    refine qa_s (pc' := 45) at_132_44 rfl rfl rfl ?_
    refine qa_getR (nx := 48) at_132_45 rfl (by decide) rfl rfl (by decide) ?_
    refine qa_s (pc' := 49) at_132_48 rfl rfl rfl ?_
    refine qa_zald (nx := 50) (k := i) at_132_49 rfl rfl rfl (by decide) rfl (show i < 5 by omega) ?_
    refine qa_if_eq (tg := 81) (nx := 53) at_132_50 rfl rfl (fun h132_50 => ?_) (fun h132_50 => ?_)
    · refine qa_s (pc' := 82) at_132_81 rfl rfl rfl ?_
      refine qa_getR (nx := 85) at_132_82 rfl (by decide) rfl rfl (by decide) ?_
      refine qa_s (pc' := 86) at_132_85 rfl rfl rfl ?_
      refine qa_ic (nx := 87) (v := nI 1) at_132_86 (by decide) rfl ?_
      refine qa_zast (nx := 88) (k := i) at_132_87 rfl rfl rfl (by decide) (by decide) rfl (show i < 5 by omega) ?_
      refine qa_s (pc' := 89) at_132_88 rfl rfl rfl ?_
      refine qa_getR (nx := 92) at_132_89 rfl (by decide) rfl rfl (by decide) ?_
      refine qa_s (pc' := 93) at_132_92 rfl rfl rfl ?_
      refine qa_ic (nx := 94) (v := nI 0) at_132_93 (by decide) rfl ?_
      refine qa_zast (nx := 95) (k := i) at_132_94 rfl rfl rfl (by decide) (by decide) rfl (show i < 5 by omega) ?_
      refine qa_s (pc' := 96) at_132_95 rfl rfl rfl ?_
      refine qa_getR (nx := 99) at_132_96 rfl (by decide) rfl rfl (by decide) ?_
      refine qa_s (pc' := 100) at_132_99 rfl rfl rfl ?_
      refine qa_s (pc' := 101) at_132_100 rfl rfl rfl ?_
      refine qa_getI (nx := 104) at_132_101 rfl (by decide) rfl rfl (by decide) ?_
      refine qa_iast (nx := 105) (k := i) at_132_104 rfl rfl rfl (by decide) rfl (show i < 5 by omega) ?_
      refine qa_s (pc' := 106) at_132_105 rfl rfl rfl ?_
      refine qa_getR (nx := 109) at_132_106 rfl (by decide) rfl rfl (by decide) ?_
      refine qa_s (pc' := 110) at_132_109 rfl rfl rfl ?_
      refine qa_ic (nx := 111) (v := nI 0) at_132_110 (by decide) rfl ?_
      refine qa_iast (nx := 112) (k := i) at_132_111 rfl rfl rfl (by decide) rfl (show i < 5 by omega) ?_
      refine qa_s (pc' := 113) at_132_112 rfl rfl rfl ?_
      refine qa_getR (nx := 116) at_132_113 rfl (by decide) rfl rfl (by decide) ?_
      refine qa_s (pc' := 117) at_132_116 rfl rfl rfl ?_
      refine qa_ic (nx := 118) (v := nI 0) at_132_117 (by decide) rfl ?_
      refine qa_iast (nx := 119) (k := i) at_132_118 rfl rfl rfl (by decide) rfl (show i < 5 by omega) ?_
      refine qa_s (pc' := 120) at_132_119 rfl rfl rfl ?_
      refine qa_getR (nx := 123) at_132_120 rfl (by decide) rfl rfl (by decide) ?_
      refine qa_s (pc' := 124) at_132_123 rfl rfl rfl ?_
      refine qa_ic (nx := 125) (v := nI 0) at_132_124 (by decide) rfl ?_
      refine qa_iast (nx := 126) (k := i) at_132_125 rfl rfl rfl (by decide) rfl (show i < 5 by omega) ?_
      refine qa_s (pc' := 127) at_132_126 rfl rfl rfl ?_
      refine qa_getR (nx := 130) at_132_127 rfl (by decide) rfl rfl (by decide) ?_
      refine qa_s (pc' := 131) at_132_130 rfl rfl rfl ?_
      refine qa_ic (nx := 132) (v := nI 0) at_132_131 (by decide) rfl ?_
      refine qa_iast (nx := 133) (k := i) at_132_132 rfl rfl rfl (by decide) rfl (show i < 5 by omega) ?_
      refine qa_s (pc' := 134) at_132_133 rfl rfl rfl ?_
      refine qa_getR (nx := 137) at_132_134 rfl (by decide) rfl rfl (by decide) ?_
      refine qa_s (pc' := 138) at_132_137 rfl rfl rfl ?_
      refine qa_ic (nx := 139) (v := nI 0) at_132_138 (by decide) rfl ?_
      refine qa_iast (nx := 140) (k := i) at_132_139 rfl rfl rfl (by decide) rfl (show i < 5 by omega) ?_
      refine qa_ic (nx := 141) (v := nI 0) at_132_140 (by decide) rfl ?_
      refine qa_s (pc' := 142) at_132_141 rfl rfl rfl ?_
      refine qa_s (pc' := 143) at_132_142 rfl rfl rfl ?_
      refine qa_ic (nx := 144) (v := nI 4) at_132_143 (by decide) rfl ?_
      refine qn_icmp_ge (tg := 164) (nx := 147) at_132_144 rfl rfl (by decide) (by decide) (fun h => absurd h (by decide)) (fun h132_144 => ?_)
      refine qa_s (pc' := 148) at_132_147 rfl rfl rfl ?_
      refine qa_getR (nx := 151) at_132_148 rfl (by decide) rfl rfl (by decide) ?_
      refine qa_ic (nx := 152) (v := nI 4) at_132_151 (by decide) rfl ?_
      refine qa_s (pc' := 153) at_132_152 rfl rfl rfl ?_
      refine qa_mulN (nx := 154) at_132_153 rfl ?_
      refine qa_s (pc' := 155) at_132_154 rfl rfl rfl ?_
      refine qa_addN (nx := 156) at_132_155 rfl ?_
      refine qa_ic (nx := 157) (v := nI 0) at_132_156 (by decide) rfl ?_
      refine qa_iast (nx := 158) (k := (4 * i) + 0) at_132_157 rfl rfl rfl (by decide) rfl (show (4 * i) + 0 < 20 by omega) ?_
      refine qa_incN (nx := 161) (c := 1) at_132_158 (by decide) rfl rfl rfl ?_
      refine qa_goto (nx := 142) at_132_161 rfl ?_
      refine qa_s (pc' := 143) at_132_142 rfl rfl rfl ?_
      refine qa_ic (nx := 144) (v := nI 4) at_132_143 (by decide) rfl ?_
      refine qn_icmp_ge (tg := 164) (nx := 147) at_132_144 rfl rfl (by decide) (by decide) (fun h => absurd h (by decide)) (fun h132_144 => ?_)
      refine qa_s (pc' := 148) at_132_147 rfl rfl rfl ?_
      refine qa_getR (nx := 151) at_132_148 rfl (by decide) rfl rfl (by decide) ?_
      refine qa_ic (nx := 152) (v := nI 4) at_132_151 (by decide) rfl ?_
      refine qa_s (pc' := 153) at_132_152 rfl rfl rfl ?_
      refine qa_mulN (nx := 154) at_132_153 rfl ?_
      refine qa_s (pc' := 155) at_132_154 rfl rfl rfl ?_
      refine qa_addN (nx := 156) at_132_155 rfl ?_
      refine qa_ic (nx := 157) (v := nI 0) at_132_156 (by decide) rfl ?_
      refine qa_iast (nx := 158) (k := (4 * i) + 1) at_132_157 rfl rfl rfl (by decide) rfl (show (4 * i) + 1 < 20 by omega) ?_
      refine qa_incN (nx := 161) (c := 1) at_132_158 (by decide) rfl rfl rfl ?_
      refine qa_goto (nx := 142) at_132_161 rfl ?_
      refine qa_s (pc' := 143) at_132_142 rfl rfl rfl ?_
      refine qa_ic (nx := 144) (v := nI 4) at_132_143 (by decide) rfl ?_
      refine qn_icmp_ge (tg := 164) (nx := 147) at_132_144 rfl rfl (by decide) (by decide) (fun h => absurd h (by decide)) (fun h132_144 => ?_)
      refine qa_s (pc' := 148) at_132_147 rfl rfl rfl ?_
      refine qa_getR (nx := 151) at_132_148 rfl (by decide) rfl rfl (by decide) ?_
      refine qa_ic (nx := 152) (v := nI 4) at_132_151 (by decide) rfl ?_
      refine qa_s (pc' := 153) at_132_152 rfl rfl rfl ?_
      refine qa_mulN (nx := 154) at_132_153 rfl ?_
      refine qa_s (pc' := 155) at_132_154 rfl rfl rfl ?_
      refine qa_addN (nx := 156) at_132_155 rfl ?_
      refine qa_ic (nx := 157) (v := nI 0) at_132_156 (by decide) rfl ?_
      refine qa_iast (nx := 158) (k := (4 * i) + 2) at_132_157 rfl rfl rfl (by decide) rfl (show (4 * i) + 2 < 20 by omega) ?_
      refine qa_incN (nx := 161) (c := 1) at_132_158 (by decide) rfl rfl rfl ?_
      refine qa_goto (nx := 142) at_132_161 rfl ?_
      refine qa_s (pc' := 143) at_132_142 rfl rfl rfl ?_
      refine qa_ic (nx := 144) (v := nI 4) at_132_143 (by decide) rfl ?_
      refine qn_icmp_ge (tg := 164) (nx := 147) at_132_144 rfl rfl (by decide) (by decide) (fun h => absurd h (by decide)) (fun h132_144 => ?_)
      refine qa_s (pc' := 148) at_132_147 rfl rfl rfl ?_
      refine qa_getR (nx := 151) at_132_148 rfl (by decide) rfl rfl (by decide) ?_
      refine qa_ic (nx := 152) (v := nI 4) at_132_151 (by decide) rfl ?_
      refine qa_s (pc' := 153) at_132_152 rfl rfl rfl ?_
      refine qa_mulN (nx := 154) at_132_153 rfl ?_
      refine qa_s (pc' := 155) at_132_154 rfl rfl rfl ?_
      refine qa_addN (nx := 156) at_132_155 rfl ?_
      refine qa_ic (nx := 157) (v := nI 0) at_132_156 (by decide) rfl ?_
      refine qa_iast (nx := 158) (k := (4 * i) + 3) at_132_157 rfl rfl rfl (by decide) rfl (show (4 * i) + 3 < 20 by omega) ?_
      refine qa_incN (nx := 161) (c := 1) at_132_158 (by decide) rfl rfl rfl ?_
      refine qa_goto (nx := 142) at_132_161 rfl ?_
      refine qa_s (pc' := 143) at_132_142 rfl rfl rfl ?_
      refine qa_ic (nx := 144) (v := nI 4) at_132_143 (by decide) rfl ?_
      refine qn_icmp_ge (tg := 164) (nx := 147) at_132_144 rfl rfl (by decide) (by decide) (fun h132_144 => ?_) (fun h => absurd h (by decide))
      refine qa_ret at_132_164 rfl ?_
      rw [relM, if_pos (show σ 58 0 i = 0 from h132_50), if_neg hw] at k
      exact k
    · refine qa_s (pc' := 54) at_132_53 rfl rfl rfl ?_
      refine qa_s (pc' := 55) at_132_54 rfl rfl rfl ?_
      refine qa_getI (nx := 58) at_132_55 rfl (by decide) rfl rfl (by decide) ?_
      refine qa_ic (nx := 59) (v := nI 1) at_132_58 (by decide) rfl ?_
      refine qa_s (pc' := 60) at_132_59 rfl rfl rfl ?_
      refine qa_put (nx := 63) at_132_60 rfl (by decide) rfl rfl rfl (by decide) ?_
      refine qa_s (pc' := 64) at_132_63 rfl rfl rfl ?_
      refine qa_ic (nx := 65) (v := nI 4) at_132_64 (by decide) rfl ?_
      refine qa_s (pc' := 66) at_132_65 rfl rfl rfl ?_
      refine qa_s (pc' := 67) at_132_66 rfl rfl rfl ?_
      refine qa_getI (nx := 70) at_132_67 rfl (by decide) rfl rfl (by decide) ?_
      refine qa_s (pc' := 71) at_132_70 rfl rfl rfl ?_
      refine qa_getR (nx := 74) at_132_71 rfl (by decide) rfl rfl (by decide) ?_
      refine qa_s (pc' := 75) at_132_74 rfl rfl rfl ?_
      refine qa_iald (nx := 76) (k := i) at_132_75 rfl rfl rfl (by decide) rfl (show i < 5 by omega) ?_
      refine qa_s (pc' := 77) at_132_76 rfl rfl rfl ?_
      refine qa_callV (nx := 80) at_132_77 rfl rfl (Nat.le_of_ble_eq_true rfl) rfl rfl rfl (by decide) rfl (by decide) ?_
      show qa _ 133 0 [(0, .ref _), (1, .int _), (2, .int _), (3, .int _)] [] _ _
      refine c133_q ?_
      show qa _ 132 80 _ [] _ _
      refine qa_ret at_132_80 rfl ?_
      rw [relM, if_neg (show ¬ σ 58 0 i = 0 from h132_50), if_neg hw] at k
      exact k
  · have h28 : ¬ 0 ≤ σ 43 0 i := h132_28
    have hw : σ 43 0 i < 0 := by simp only [Int32.le_iff_toInt_le, Int32.lt_iff_toInt_lt] at h28 ⊢; omega
    refine qa_s (pc' := 32) at_132_31 rfl rfl rfl ?_
    refine qa_getR (nx := 35) at_132_32 rfl (by decide) rfl rfl (by decide) ?_
    refine qa_s (pc' := 36) at_132_35 rfl rfl rfl ?_
    refine qa_iald (nx := 37) (k := i) at_132_36 rfl rfl rfl (by decide) rfl (show i < 5 by omega) ?_
    refine qa_ic (nx := 38) (v := nI 1) at_132_37 (by decide) rfl ?_
    refine qa_s (pc' := 39) at_132_38 rfl rfl rfl ?_
    refine qa_goto (nx := 43) at_132_39 rfl ?_
    refine qa_iast (nx := 44) (k := i) at_132_43 rfl rfl rfl (by decide) rfl (show i < 5 by omega) ?_
    refine qa_s (pc' := 45) at_132_44 rfl rfl rfl ?_
    refine qa_getR (nx := 48) at_132_45 rfl (by decide) rfl rfl (by decide) ?_
    refine qa_s (pc' := 49) at_132_48 rfl rfl rfl ?_
    refine qa_zald (nx := 50) (k := i) at_132_49 rfl rfl rfl (by decide) rfl (show i < 5 by omega) ?_
    refine qa_if_eq (tg := 81) (nx := 53) at_132_50 rfl rfl (fun h132_50 => ?_) (fun h132_50 => ?_)
    · refine qa_s (pc' := 82) at_132_81 rfl rfl rfl ?_
      refine qa_getR (nx := 85) at_132_82 rfl (by decide) rfl rfl (by decide) ?_
      refine qa_s (pc' := 86) at_132_85 rfl rfl rfl ?_
      refine qa_ic (nx := 87) (v := nI 1) at_132_86 (by decide) rfl ?_
      refine qa_zast (nx := 88) (k := i) at_132_87 rfl rfl rfl (by decide) (by decide) rfl (show i < 5 by omega) ?_
      refine qa_s (pc' := 89) at_132_88 rfl rfl rfl ?_
      refine qa_getR (nx := 92) at_132_89 rfl (by decide) rfl rfl (by decide) ?_
      refine qa_s (pc' := 93) at_132_92 rfl rfl rfl ?_
      refine qa_ic (nx := 94) (v := nI 0) at_132_93 (by decide) rfl ?_
      refine qa_zast (nx := 95) (k := i) at_132_94 rfl rfl rfl (by decide) (by decide) rfl (show i < 5 by omega) ?_
      refine qa_s (pc' := 96) at_132_95 rfl rfl rfl ?_
      refine qa_getR (nx := 99) at_132_96 rfl (by decide) rfl rfl (by decide) ?_
      refine qa_s (pc' := 100) at_132_99 rfl rfl rfl ?_
      refine qa_s (pc' := 101) at_132_100 rfl rfl rfl ?_
      refine qa_getI (nx := 104) at_132_101 rfl (by decide) rfl rfl (by decide) ?_
      refine qa_iast (nx := 105) (k := i) at_132_104 rfl rfl rfl (by decide) rfl (show i < 5 by omega) ?_
      refine qa_s (pc' := 106) at_132_105 rfl rfl rfl ?_
      refine qa_getR (nx := 109) at_132_106 rfl (by decide) rfl rfl (by decide) ?_
      refine qa_s (pc' := 110) at_132_109 rfl rfl rfl ?_
      refine qa_ic (nx := 111) (v := nI 0) at_132_110 (by decide) rfl ?_
      refine qa_iast (nx := 112) (k := i) at_132_111 rfl rfl rfl (by decide) rfl (show i < 5 by omega) ?_
      refine qa_s (pc' := 113) at_132_112 rfl rfl rfl ?_
      refine qa_getR (nx := 116) at_132_113 rfl (by decide) rfl rfl (by decide) ?_
      refine qa_s (pc' := 117) at_132_116 rfl rfl rfl ?_
      refine qa_ic (nx := 118) (v := nI 0) at_132_117 (by decide) rfl ?_
      refine qa_iast (nx := 119) (k := i) at_132_118 rfl rfl rfl (by decide) rfl (show i < 5 by omega) ?_
      refine qa_s (pc' := 120) at_132_119 rfl rfl rfl ?_
      refine qa_getR (nx := 123) at_132_120 rfl (by decide) rfl rfl (by decide) ?_
      refine qa_s (pc' := 124) at_132_123 rfl rfl rfl ?_
      refine qa_ic (nx := 125) (v := nI 0) at_132_124 (by decide) rfl ?_
      refine qa_iast (nx := 126) (k := i) at_132_125 rfl rfl rfl (by decide) rfl (show i < 5 by omega) ?_
      refine qa_s (pc' := 127) at_132_126 rfl rfl rfl ?_
      refine qa_getR (nx := 130) at_132_127 rfl (by decide) rfl rfl (by decide) ?_
      refine qa_s (pc' := 131) at_132_130 rfl rfl rfl ?_
      refine qa_ic (nx := 132) (v := nI 0) at_132_131 (by decide) rfl ?_
      refine qa_iast (nx := 133) (k := i) at_132_132 rfl rfl rfl (by decide) rfl (show i < 5 by omega) ?_
      refine qa_s (pc' := 134) at_132_133 rfl rfl rfl ?_
      refine qa_getR (nx := 137) at_132_134 rfl (by decide) rfl rfl (by decide) ?_
      refine qa_s (pc' := 138) at_132_137 rfl rfl rfl ?_
      refine qa_ic (nx := 139) (v := nI 0) at_132_138 (by decide) rfl ?_
      refine qa_iast (nx := 140) (k := i) at_132_139 rfl rfl rfl (by decide) rfl (show i < 5 by omega) ?_
      refine qa_ic (nx := 141) (v := nI 0) at_132_140 (by decide) rfl ?_
      refine qa_s (pc' := 142) at_132_141 rfl rfl rfl ?_
      refine qa_s (pc' := 143) at_132_142 rfl rfl rfl ?_
      refine qa_ic (nx := 144) (v := nI 4) at_132_143 (by decide) rfl ?_
      refine qn_icmp_ge (tg := 164) (nx := 147) at_132_144 rfl rfl (by decide) (by decide) (fun h => absurd h (by decide)) (fun h132_144 => ?_)
      refine qa_s (pc' := 148) at_132_147 rfl rfl rfl ?_
      refine qa_getR (nx := 151) at_132_148 rfl (by decide) rfl rfl (by decide) ?_
      refine qa_ic (nx := 152) (v := nI 4) at_132_151 (by decide) rfl ?_
      refine qa_s (pc' := 153) at_132_152 rfl rfl rfl ?_
      refine qa_mulN (nx := 154) at_132_153 rfl ?_
      refine qa_s (pc' := 155) at_132_154 rfl rfl rfl ?_
      refine qa_addN (nx := 156) at_132_155 rfl ?_
      refine qa_ic (nx := 157) (v := nI 0) at_132_156 (by decide) rfl ?_
      refine qa_iast (nx := 158) (k := (4 * i) + 0) at_132_157 rfl rfl rfl (by decide) rfl (show (4 * i) + 0 < 20 by omega) ?_
      refine qa_incN (nx := 161) (c := 1) at_132_158 (by decide) rfl rfl rfl ?_
      refine qa_goto (nx := 142) at_132_161 rfl ?_
      refine qa_s (pc' := 143) at_132_142 rfl rfl rfl ?_
      refine qa_ic (nx := 144) (v := nI 4) at_132_143 (by decide) rfl ?_
      refine qn_icmp_ge (tg := 164) (nx := 147) at_132_144 rfl rfl (by decide) (by decide) (fun h => absurd h (by decide)) (fun h132_144 => ?_)
      refine qa_s (pc' := 148) at_132_147 rfl rfl rfl ?_
      refine qa_getR (nx := 151) at_132_148 rfl (by decide) rfl rfl (by decide) ?_
      refine qa_ic (nx := 152) (v := nI 4) at_132_151 (by decide) rfl ?_
      refine qa_s (pc' := 153) at_132_152 rfl rfl rfl ?_
      refine qa_mulN (nx := 154) at_132_153 rfl ?_
      refine qa_s (pc' := 155) at_132_154 rfl rfl rfl ?_
      refine qa_addN (nx := 156) at_132_155 rfl ?_
      refine qa_ic (nx := 157) (v := nI 0) at_132_156 (by decide) rfl ?_
      refine qa_iast (nx := 158) (k := (4 * i) + 1) at_132_157 rfl rfl rfl (by decide) rfl (show (4 * i) + 1 < 20 by omega) ?_
      refine qa_incN (nx := 161) (c := 1) at_132_158 (by decide) rfl rfl rfl ?_
      refine qa_goto (nx := 142) at_132_161 rfl ?_
      refine qa_s (pc' := 143) at_132_142 rfl rfl rfl ?_
      refine qa_ic (nx := 144) (v := nI 4) at_132_143 (by decide) rfl ?_
      refine qn_icmp_ge (tg := 164) (nx := 147) at_132_144 rfl rfl (by decide) (by decide) (fun h => absurd h (by decide)) (fun h132_144 => ?_)
      refine qa_s (pc' := 148) at_132_147 rfl rfl rfl ?_
      refine qa_getR (nx := 151) at_132_148 rfl (by decide) rfl rfl (by decide) ?_
      refine qa_ic (nx := 152) (v := nI 4) at_132_151 (by decide) rfl ?_
      refine qa_s (pc' := 153) at_132_152 rfl rfl rfl ?_
      refine qa_mulN (nx := 154) at_132_153 rfl ?_
      refine qa_s (pc' := 155) at_132_154 rfl rfl rfl ?_
      refine qa_addN (nx := 156) at_132_155 rfl ?_
      refine qa_ic (nx := 157) (v := nI 0) at_132_156 (by decide) rfl ?_
      refine qa_iast (nx := 158) (k := (4 * i) + 2) at_132_157 rfl rfl rfl (by decide) rfl (show (4 * i) + 2 < 20 by omega) ?_
      refine qa_incN (nx := 161) (c := 1) at_132_158 (by decide) rfl rfl rfl ?_
      refine qa_goto (nx := 142) at_132_161 rfl ?_
      refine qa_s (pc' := 143) at_132_142 rfl rfl rfl ?_
      refine qa_ic (nx := 144) (v := nI 4) at_132_143 (by decide) rfl ?_
      refine qn_icmp_ge (tg := 164) (nx := 147) at_132_144 rfl rfl (by decide) (by decide) (fun h => absurd h (by decide)) (fun h132_144 => ?_)
      refine qa_s (pc' := 148) at_132_147 rfl rfl rfl ?_
      refine qa_getR (nx := 151) at_132_148 rfl (by decide) rfl rfl (by decide) ?_
      refine qa_ic (nx := 152) (v := nI 4) at_132_151 (by decide) rfl ?_
      refine qa_s (pc' := 153) at_132_152 rfl rfl rfl ?_
      refine qa_mulN (nx := 154) at_132_153 rfl ?_
      refine qa_s (pc' := 155) at_132_154 rfl rfl rfl ?_
      refine qa_addN (nx := 156) at_132_155 rfl ?_
      refine qa_ic (nx := 157) (v := nI 0) at_132_156 (by decide) rfl ?_
      refine qa_iast (nx := 158) (k := (4 * i) + 3) at_132_157 rfl rfl rfl (by decide) rfl (show (4 * i) + 3 < 20 by omega) ?_
      refine qa_incN (nx := 161) (c := 1) at_132_158 (by decide) rfl rfl rfl ?_
      refine qa_goto (nx := 142) at_132_161 rfl ?_
      refine qa_s (pc' := 143) at_132_142 rfl rfl rfl ?_
      refine qa_ic (nx := 144) (v := nI 4) at_132_143 (by decide) rfl ?_
      refine qn_icmp_ge (tg := 164) (nx := 147) at_132_144 rfl rfl (by decide) (by decide) (fun h132_144 => ?_) (fun h => absurd h (by decide))
      refine qa_ret at_132_164 rfl ?_
      rw [relM, if_pos (show σ 58 0 i = 0 from h132_50), if_pos hw] at k
      exact k
    · refine qa_s (pc' := 54) at_132_53 rfl rfl rfl ?_
      refine qa_s (pc' := 55) at_132_54 rfl rfl rfl ?_
      refine qa_getI (nx := 58) at_132_55 rfl (by decide) rfl rfl (by decide) ?_
      refine qa_ic (nx := 59) (v := nI 1) at_132_58 (by decide) rfl ?_
      refine qa_s (pc' := 60) at_132_59 rfl rfl rfl ?_
      refine qa_put (nx := 63) at_132_60 rfl (by decide) rfl rfl rfl (by decide) ?_
      refine qa_s (pc' := 64) at_132_63 rfl rfl rfl ?_
      refine qa_ic (nx := 65) (v := nI 4) at_132_64 (by decide) rfl ?_
      refine qa_s (pc' := 66) at_132_65 rfl rfl rfl ?_
      refine qa_s (pc' := 67) at_132_66 rfl rfl rfl ?_
      refine qa_getI (nx := 70) at_132_67 rfl (by decide) rfl rfl (by decide) ?_
      refine qa_s (pc' := 71) at_132_70 rfl rfl rfl ?_
      refine qa_getR (nx := 74) at_132_71 rfl (by decide) rfl rfl (by decide) ?_
      refine qa_s (pc' := 75) at_132_74 rfl rfl rfl ?_
      refine qa_iald (nx := 76) (k := i) at_132_75 rfl rfl rfl (by decide) rfl (show i < 5 by omega) ?_
      refine qa_s (pc' := 77) at_132_76 rfl rfl rfl ?_
      refine qa_callV (nx := 80) at_132_77 rfl rfl (Nat.le_of_ble_eq_true rfl) rfl rfl rfl (by decide) rfl (by decide) ?_
      show qa _ 133 0 [(0, .ref _), (1, .int _), (2, .int _), (3, .int _)] [] _ _
      refine c133_q ?_
      show qa _ 132 80 _ [] _ _
      refine qa_ret at_132_80 rfl ?_
      rw [relM, if_neg (show ¬ σ 58 0 i = 0 from h132_50), if_pos hw] at k
      exact k
theorem entM_k {x y z : Int32} {a : Nat} (h1 : a ≠ 78) (h2 : a ≠ 79) (h3 : a ≠ 80) (h4 : a ≠ 81) (h5 : a ≠ 40) : entM σ x y z a = σ a := by
  unfold entM; rw [up_k h5, up_k h4, up_k h3, up_k h2, up_k h1]
theorem relM_40 {i : Nat} : relM σ i 40 0 0 = σ 40 0 0 := by
  unfold relM; split
  · rfl
  · rfl
theorem relsM_40 (n : Nat) : relsM σ n 40 0 0 = σ 40 0 0 := by
  induction n with
  | zero => rfl
  | succ n ih => unfold relsM; split; · rw [relM_40, ih]
                 · exact ih
theorem c131_l (h5 : T ≤ 5) (h40 : σ 40 0 0 = nI T) (k : ∀ v, qa cst 131 52 [(0, .ref (cl 40 0)), (1, .int v)] [] (relsM σ T) Q) : ∀ n i, i + n = T → qa cst 131 2 [(0, .ref (cl 40 0)), (1, .int (nI i))] [] (relsM σ i) Q := by
  intro n
  induction n with
  | zero =>
    intro i hi
    have e40 := (relsM_40 (σ := σ) i).trans h40
    refine qa_s (pc' := 3) at_131_2 rfl rfl rfl ?_
    refine qa_s (pc' := 4) at_131_3 rfl rfl rfl ?_
    refine qa_getV (nx := 7) (v := nI T) at_131_4 rfl (by decide) rfl rfl (by decide) (show _ from e40) ?_
    refine qn_icmp_ge (tg := 52) (nx := 10) at_131_7 rfl rfl (by omega) (by omega) (fun h131_7 => ?_) (fun h131_7 => ?_)
    · have e : i = T := by omega
      subst e
      exact k _
    · omega
  | succ n ih =>
    intro i hi
    have hi5 : i < 5 := by omega
    have e40 := (relsM_40 (σ := σ) i).trans h40
    have hn := ih (i + 1) (by omega)
    have step : qa cst 131 46 [(0, .ref (cl 40 0)), (1, .int (nI i))] [] (relsM σ (i + 1)) Q := by
      refine qa_incN (nx := 49) (c := 1) at_131_46 (by decide) rfl rfl rfl ?_
      refine qa_goto (nx := 2) at_131_49 rfl ?_
      exact hn
    refine qa_s (pc' := 3) at_131_2 rfl rfl rfl ?_
    refine qa_s (pc' := 4) at_131_3 rfl rfl rfl ?_
    refine qa_getV (nx := 7) (v := nI T) at_131_4 rfl (by decide) rfl rfl (by decide) (show _ from e40) ?_
    refine qn_icmp_ge (tg := 52) (nx := 10) at_131_7 rfl rfl (by omega) (by omega) (fun h131_7 => ?_) (fun h131_7 => ?_)
    · omega
    · refine qa_s (pc' := 11) at_131_10 rfl rfl rfl ?_
      refine qa_getI (nx := 14) at_131_11 rfl (by decide) rfl rfl (by decide) ?_
      refine qa_s (pc' := 15) at_131_14 rfl rfl rfl ?_
      refine qa_getR (nx := 18) at_131_15 rfl (by decide) rfl rfl (by decide) ?_
      refine qa_s (pc' := 19) at_131_18 rfl rfl rfl ?_
      refine qa_iald (nx := 20) (k := i) at_131_19 rfl rfl rfl (by decide) rfl (show i < 5 by omega) ?_
      refine qa_icmp_lt (tg := 46) (nx := 23) at_131_20 rfl rfl (fun h131_20 => ?_) (fun h131_20 => ?_)
      · rw [relsM, if_neg (fun h => absurd h.1 (by simp only [Int32.le_iff_toInt_le, Int32.lt_iff_toInt_lt] at h131_20 ⊢; omega))] at step
        exact step
      · refine qa_s (pc' := 24) at_131_23 rfl rfl rfl ?_
        refine qa_getR (nx := 27) at_131_24 rfl (by decide) rfl rfl (by decide) ?_
        refine qa_s (pc' := 28) at_131_27 rfl rfl rfl ?_
        refine qa_iald (nx := 29) (k := i) at_131_28 rfl rfl rfl (by decide) rfl (show i < 5 by omega) ?_
        refine qa_if_ge (tg := 41) (nx := 32) at_131_29 rfl rfl (fun h131_29 => ?_) (fun h131_29 => ?_)
        · rw [relsM, if_pos ⟨by simp only [Int32.le_iff_toInt_le, Int32.lt_iff_toInt_lt] at h131_20 ⊢; omega, Or.inl h131_29⟩] at step
          refine qa_s (pc' := 42) at_131_41 rfl rfl rfl ?_
          refine qa_s (pc' := 43) at_131_42 rfl rfl rfl ?_
          refine qa_callV (nx := 46) at_131_43 rfl rfl (Nat.le_of_ble_eq_true rfl) rfl rfl rfl (by decide) rfl (by decide) ?_
          show qa _ 132 0 [(0, .ref _), (1, .int _)] [] _ _
          refine c132_q hi5 ?_
          show qa _ 131 46 _ [] _ _
          exact step
        · refine qa_s (pc' := 33) at_131_32 rfl rfl rfl ?_
          refine qa_getR (nx := 36) at_131_33 rfl (by decide) rfl rfl (by decide) ?_
          refine qa_s (pc' := 37) at_131_36 rfl rfl rfl ?_
          refine qa_iald (nx := 38) (k := i) at_131_37 rfl rfl rfl (by decide) rfl (show i < 5 by omega) ?_
          refine qa_if_le (tg := 46) (nx := 41) at_131_38 rfl rfl (fun h131_38 => ?_) (fun h131_38 => ?_)
          · rw [relsM, if_neg (fun h => h.2.elim (fun g => by exact absurd g h131_29) (fun g => by simp only [Int32.le_iff_toInt_le, Int32.lt_iff_toInt_lt] at h131_38 g; omega))] at step
            exact step
          · rw [relsM, if_pos ⟨by simp only [Int32.le_iff_toInt_le, Int32.lt_iff_toInt_lt] at h131_20 ⊢; omega, Or.inr (by simp only [Int32.le_iff_toInt_le, Int32.lt_iff_toInt_lt] at h131_38 ⊢; omega)⟩] at step
            refine qa_s (pc' := 42) at_131_41 rfl rfl rfl ?_
            refine qa_s (pc' := 43) at_131_42 rfl rfl rfl ?_
            refine qa_callV (nx := 46) at_131_43 rfl rfl (Nat.le_of_ble_eq_true rfl) rfl rfl rfl (by decide) rfl (by decide) ?_
            show qa _ 132 0 [(0, .ref _), (1, .int _)] [] _ _
            refine c132_q hi5 ?_
            show qa _ 131 46 _ [] _ _
            exact step
theorem actF_le (c : Nat → Int32) (h n : Nat) (a : Int32) : (actF c h n a).toInt ≤ a.toInt := by
  induction n with
  | zero => exact Int.le_refl _
  | succ n ih =>
    unfold actF
    split
    · rename_i g
      have := Int32.lt_iff_toInt_lt.mp g.2
      omega
    · exact ih
/-- what the choice reads -/
def hbOk (σ : sg) (T : Nat) : Prop := ∀ i, i < T → ¬ σ 58 0 i = 0 → ∃ h : Nat, h < 16 ∧ σ 64 0 i = nI h
theorem chM_lt {n b : Nat} (h : chM σ n = some b) : b < n ∧ ¬ σ 58 0 b = 0 := by
  induction n with
  | zero => cases h
  | succ n ih =>
    unfold chM at h
    split at h
    · have := ih h; exact ⟨by omega, this.2⟩
    · rename_i h0
      split at h
      · cases h; exact ⟨by omega, h0⟩
      · rename_i b' hb'
        split at h
        · cases h; exact ⟨by omega, h0⟩
        · cases h; have := ih hb'; exact ⟨by omega, this.2⟩
theorem c135_h {i : Nat} (h5 : T ≤ 5) (hb : hbOk σ T) (hi : i < T) (h0 : ¬ σ 58 0 i = 0) (k : Q (some (.int (actM σ i))) σ) : qa cst 135 0 [(0, .ref (cl 40 0)), (1, .int (nI i))] [] σ Q := by
  obtain ⟨h, hh, h64⟩ := hb i hi h0
  refine c135_q (by omega) hh h64 ?_
  unfold actM at k
  rw [h64, nN_n (by omega)] at k
  exact k
theorem c134_l (h5 : T ≤ 5) (h40 : σ 40 0 0 = nI T) (hb : hbOk σ T) (k : Q (some (.int (oI (chM σ T)))) σ) : ∀ n i, i + n = T → ∀ ls, (∃ w1 w2, ls = [(0, .ref (cl 40 0)), (1, .int (oI (chM σ i))), (2, .int (nI i)), (3, .int w1), (4, .int w2)]) ∨ ls = [(0, .ref (cl 40 0)), (1, .int (oI (chM σ i))), (2, .int (nI i))] → qa cst 134 4 ls [] σ Q := by
  intro n
  induction n with
  | zero =>
    intro i hi ls hls
    have e : i = T := by omega
    subst e
    rcases hls with ⟨w1, w2, rfl⟩ | rfl
    · refine qa_s (pc' := 5) at_134_4 rfl rfl rfl ?_
      refine qa_s (pc' := 6) at_134_5 rfl rfl rfl ?_
      refine qa_getV (nx := 9) (v := nI i) at_134_6 rfl (by decide) rfl rfl (by decide) (show _ from h40) ?_
      refine qn_icmp_ge (tg := 85) (nx := 12) at_134_9 rfl rfl (by omega) (by omega) (fun h134_9 => ?_) (fun h134_9 => ?_)
      · refine qa_s (pc' := 86) at_134_85 rfl rfl rfl ?_
        refine qa_ret at_134_86 rfl ?_
        exact k
      · omega
    · refine qa_s (pc' := 5) at_134_4 rfl rfl rfl ?_
      refine qa_s (pc' := 6) at_134_5 rfl rfl rfl ?_
      refine qa_getV (nx := 9) (v := nI i) at_134_6 rfl (by decide) rfl rfl (by decide) (show _ from h40) ?_
      refine qn_icmp_ge (tg := 85) (nx := 12) at_134_9 rfl rfl (by omega) (by omega) (fun h134_9 => ?_) (fun h134_9 => ?_)
      · refine qa_s (pc' := 86) at_134_85 rfl rfl rfl ?_
        refine qa_ret at_134_86 rfl ?_
        exact k
      · omega
  | succ n ih =>
    intro i hi
    have hi5 : i < T := by omega
    have step : ∀ ls, (∃ w1 w2, ls = [(0, .ref (cl 40 0)), (1, .int (oI (chM σ (i + 1)))), (2, .int (nI i)), (3, .int w1), (4, .int w2)]) ∨ ls = [(0, .ref (cl 40 0)), (1, .int (oI (chM σ (i + 1)))), (2, .int (nI i))] → qa cst 134 79 ls [] σ Q := by
      intro ls hls
      rcases hls with ⟨w1, w2, rfl⟩ | rfl
      · refine qa_incN (nx := 82) (c := 1) at_134_79 (by decide) rfl rfl rfl ?_
        refine qa_goto (nx := 4) at_134_82 rfl ?_
        exact ih (i + 1) (by omega) _ (Or.inl ⟨_, _, rfl⟩)
      · refine qa_incN (nx := 82) (c := 1) at_134_79 (by decide) rfl rfl rfl ?_
        refine qa_goto (nx := 4) at_134_82 rfl ?_
        exact ih (i + 1) (by omega) _ (Or.inr rfl)
    intro ls hls
    cases hc : chM σ i with
    | none =>
      rw [hc] at hls
      have e0 : ¬ σ 58 0 i = 0 → chM σ (i + 1) = some i := fun h => by rw [chM, if_neg h, hc]
      have e1 : σ 58 0 i = 0 → chM σ (i + 1) = none := fun h => by rw [chM, if_pos h, hc]
      rcases hls with ⟨w1, w2, rfl⟩ | rfl
      · refine qa_s (pc' := 5) at_134_4 rfl rfl rfl ?_
        refine qa_s (pc' := 6) at_134_5 rfl rfl rfl ?_
        refine qa_getV (nx := 9) (v := nI T) at_134_6 rfl (by decide) rfl rfl (by decide) (show _ from h40) ?_
        refine qn_icmp_ge (tg := 85) (nx := 12) at_134_9 rfl rfl (by omega) (by omega) (fun h134_9 => ?_) (fun h134_9 => ?_)
        · omega
        · refine qa_s (pc' := 13) at_134_12 rfl rfl rfl ?_
          refine qa_getR (nx := 16) at_134_13 rfl (by decide) rfl rfl (by decide) ?_
          refine qa_s (pc' := 17) at_134_16 rfl rfl rfl ?_
          refine qa_zald (nx := 18) (k := i) at_134_17 rfl rfl rfl (by decide) rfl (show i < 5 by omega) ?_
          refine qa_if_eq (tg := 79) (nx := 21) at_134_18 rfl rfl (fun h134_18 => ?_) (fun h134_18 => ?_)
          · rw [e1 h134_18] at step
            exact step _ (by first | exact Or.inl ⟨_, _, rfl⟩ | exact Or.inr rfl)
          · rw [e0 h134_18] at step
            refine qa_s (pc' := 22) at_134_21 rfl rfl rfl ?_
            refine qa_s (pc' := 23) at_134_22 rfl rfl rfl ?_
            refine qa_callV (nx := 26) at_134_23 rfl rfl (Nat.le_of_ble_eq_true rfl) rfl rfl rfl (by decide) rfl (by decide) ?_
            show qa _ 135 0 [(0, .ref _), (1, .int _)] [] _ _
            refine c135_h h5 hb hi5 h134_18 ?_
            show qa _ 134 26 _ [.int _] _ _
            refine qa_s (pc' := 27) at_134_26 rfl rfl rfl ?_
            refine qa_s (pc' := 28) at_134_27 rfl rfl rfl ?_
            refine qa_if_ge (tg := 36) (nx := 31) at_134_28 rfl rfl (fun h134_28 => ?_) (fun h134_28 => ?_)
            · exact absurd h134_28 (by decide)
            · refine qa_bi (nx := 33) (v := nI 9) at_134_31 (by decide) rfl ?_
              refine qa_goto (nx := 41) at_134_33 rfl ?_
              refine qa_s (pc' := 43) at_134_41 rfl rfl rfl ?_
              refine qa_s (pc' := 44) at_134_43 rfl rfl rfl ?_
              refine qa_s (pc' := 46) at_134_44 rfl rfl rfl ?_
              refine qa_icmp_lt (tg := 73) (nx := 49) at_134_46 rfl rfl (fun h134_46 => ?_) (fun h134_46 => ?_)
              · refine qa_s (pc' := 74) at_134_73 rfl rfl rfl ?_
                refine qa_goto (nx := 78) at_134_74 rfl ?_
                refine qa_s (pc' := 79) at_134_78 rfl rfl rfl ?_
                exact step _ (by first | exact Or.inl ⟨_, _, rfl⟩ | exact Or.inr rfl)
              · exact absurd (show actM σ i < nI 9 from by have := actF_le (σ 57 0) (nN (σ 64 0 i)) 4 (nI i); rw [nI_toInt (by omega)] at this; rw [Int32.lt_iff_toInt_lt, nI_toInt (by decide)]; unfold actM; omega) h134_46
      · refine qa_s (pc' := 5) at_134_4 rfl rfl rfl ?_
        refine qa_s (pc' := 6) at_134_5 rfl rfl rfl ?_
        refine qa_getV (nx := 9) (v := nI T) at_134_6 rfl (by decide) rfl rfl (by decide) (show _ from h40) ?_
        refine qn_icmp_ge (tg := 85) (nx := 12) at_134_9 rfl rfl (by omega) (by omega) (fun h134_9 => ?_) (fun h134_9 => ?_)
        · omega
        · refine qa_s (pc' := 13) at_134_12 rfl rfl rfl ?_
          refine qa_getR (nx := 16) at_134_13 rfl (by decide) rfl rfl (by decide) ?_
          refine qa_s (pc' := 17) at_134_16 rfl rfl rfl ?_
          refine qa_zald (nx := 18) (k := i) at_134_17 rfl rfl rfl (by decide) rfl (show i < 5 by omega) ?_
          refine qa_if_eq (tg := 79) (nx := 21) at_134_18 rfl rfl (fun h134_18 => ?_) (fun h134_18 => ?_)
          · rw [e1 h134_18] at step
            exact step _ (by first | exact Or.inl ⟨_, _, rfl⟩ | exact Or.inr rfl)
          · rw [e0 h134_18] at step
            refine qa_s (pc' := 22) at_134_21 rfl rfl rfl ?_
            refine qa_s (pc' := 23) at_134_22 rfl rfl rfl ?_
            refine qa_callV (nx := 26) at_134_23 rfl rfl (Nat.le_of_ble_eq_true rfl) rfl rfl rfl (by decide) rfl (by decide) ?_
            show qa _ 135 0 [(0, .ref _), (1, .int _)] [] _ _
            refine c135_h h5 hb hi5 h134_18 ?_
            show qa _ 134 26 _ [.int _] _ _
            refine qa_s (pc' := 27) at_134_26 rfl rfl rfl ?_
            refine qa_s (pc' := 28) at_134_27 rfl rfl rfl ?_
            refine qa_if_ge (tg := 36) (nx := 31) at_134_28 rfl rfl (fun h134_28 => ?_) (fun h134_28 => ?_)
            · exact absurd h134_28 (by decide)
            · refine qa_bi (nx := 33) (v := nI 9) at_134_31 (by decide) rfl ?_
              refine qa_goto (nx := 41) at_134_33 rfl ?_
              refine qa_s (pc' := 43) at_134_41 rfl rfl rfl ?_
              refine qa_s (pc' := 44) at_134_43 rfl rfl rfl ?_
              refine qa_s (pc' := 46) at_134_44 rfl rfl rfl ?_
              refine qa_icmp_lt (tg := 73) (nx := 49) at_134_46 rfl rfl (fun h134_46 => ?_) (fun h134_46 => ?_)
              · refine qa_s (pc' := 74) at_134_73 rfl rfl rfl ?_
                refine qa_goto (nx := 78) at_134_74 rfl ?_
                refine qa_s (pc' := 79) at_134_78 rfl rfl rfl ?_
                exact step _ (by first | exact Or.inl ⟨_, _, rfl⟩ | exact Or.inr rfl)
              · exact absurd (show actM σ i < nI 9 from by have := actF_le (σ 57 0) (nN (σ 64 0 i)) 4 (nI i); rw [nI_toInt (by omega)] at this; rw [Int32.lt_iff_toInt_lt, nI_toInt (by decide)]; unfold actM; omega) h134_46
    | some b =>
      have hb0 := chM_lt hc
      rw [hc] at hls
      have e0 : ¬ σ 58 0 i = 0 → bestM σ i b → chM σ (i + 1) = some i := fun h g => by rw [chM, if_neg h, hc]; exact if_pos g
      have e2 : ¬ σ 58 0 i = 0 → ¬ bestM σ i b → chM σ (i + 1) = some b := fun h g => by rw [chM, if_neg h, hc]; exact if_neg g
      have e1 : σ 58 0 i = 0 → chM σ (i + 1) = some b := fun h => by rw [chM, if_pos h, hc]
      rcases hls with ⟨w1, w2, rfl⟩ | rfl
      · refine qa_s (pc' := 5) at_134_4 rfl rfl rfl ?_
        refine qa_s (pc' := 6) at_134_5 rfl rfl rfl ?_
        refine qa_getV (nx := 9) (v := nI T) at_134_6 rfl (by decide) rfl rfl (by decide) (show _ from h40) ?_
        refine qn_icmp_ge (tg := 85) (nx := 12) at_134_9 rfl rfl (by omega) (by omega) (fun h134_9 => ?_) (fun h134_9 => ?_)
        · omega
        · refine qa_s (pc' := 13) at_134_12 rfl rfl rfl ?_
          refine qa_getR (nx := 16) at_134_13 rfl (by decide) rfl rfl (by decide) ?_
          refine qa_s (pc' := 17) at_134_16 rfl rfl rfl ?_
          refine qa_zald (nx := 18) (k := i) at_134_17 rfl rfl rfl (by decide) rfl (show i < 5 by omega) ?_
          refine qa_if_eq (tg := 79) (nx := 21) at_134_18 rfl rfl (fun h134_18 => ?_) (fun h134_18 => ?_)
          · rw [e1 h134_18] at step
            exact step _ (by first | exact Or.inl ⟨_, _, rfl⟩ | exact Or.inr rfl)
          · refine qa_s (pc' := 22) at_134_21 rfl rfl rfl ?_
            refine qa_s (pc' := 23) at_134_22 rfl rfl rfl ?_
            refine qa_callV (nx := 26) at_134_23 rfl rfl (Nat.le_of_ble_eq_true rfl) rfl rfl rfl (by decide) rfl (by decide) ?_
            show qa _ 135 0 [(0, .ref _), (1, .int _)] [] _ _
            refine c135_h h5 hb hi5 h134_18 ?_
            show qa _ 134 26 _ [.int _] _ _
            refine qa_s (pc' := 27) at_134_26 rfl rfl rfl ?_
            refine qa_s (pc' := 28) at_134_27 rfl rfl rfl ?_
            refine qn_if_ge (tg := 36) (nx := 31) at_134_28 rfl rfl (by omega) ?_
            refine qa_s (pc' := 37) at_134_36 rfl rfl rfl ?_
            refine qa_s (pc' := 38) at_134_37 rfl rfl rfl ?_
            refine qa_callV (nx := 41) at_134_38 rfl rfl (Nat.le_of_ble_eq_true rfl) rfl rfl rfl (by decide) rfl (by decide) ?_
            show qa _ 135 0 [(0, .ref _), (1, .int _)] [] _ _
            refine c135_h h5 hb (by omega) hb0.2 ?_
            show qa _ 134 41 _ [.int _] _ _
            refine qa_s (pc' := 43) at_134_41 rfl rfl rfl ?_
            refine qa_s (pc' := 44) at_134_43 rfl rfl rfl ?_
            refine qa_s (pc' := 46) at_134_44 rfl rfl rfl ?_
            refine qa_icmp_lt (tg := 73) (nx := 49) at_134_46 rfl rfl (fun h134_46 => ?_) (fun h134_46 => ?_)
            · rw [e0 h134_18 (Or.inl h134_46)] at step
              refine qa_s (pc' := 74) at_134_73 rfl rfl rfl ?_
              refine qa_goto (nx := 78) at_134_74 rfl ?_
              refine qa_s (pc' := 79) at_134_78 rfl rfl rfl ?_
              exact step _ (by first | exact Or.inl ⟨_, _, rfl⟩ | exact Or.inr rfl)
            · refine qa_s (pc' := 50) at_134_49 rfl rfl rfl ?_
              refine qa_s (pc' := 52) at_134_50 rfl rfl rfl ?_
              refine qa_icmp_ne (tg := 77) (nx := 55) at_134_52 rfl rfl (fun h134_52 => ?_) (fun h134_52 => ?_)
              · rw [e2 h134_18 (fun g => g.elim h134_46 (fun g => h134_52 g.1))] at step
                refine qa_s (pc' := 78) at_134_77 rfl rfl rfl ?_
                refine qa_s (pc' := 79) at_134_78 rfl rfl rfl ?_
                exact step _ (by first | exact Or.inl ⟨_, _, rfl⟩ | exact Or.inr rfl)
              · refine qa_s (pc' := 56) at_134_55 rfl rfl rfl ?_
                refine qa_getR (nx := 59) at_134_56 rfl (by decide) rfl rfl (by decide) ?_
                refine qa_s (pc' := 60) at_134_59 rfl rfl rfl ?_
                refine qa_zald (nx := 61) (k := i) at_134_60 rfl rfl rfl (by decide) rfl (show i < 5 by omega) ?_
                refine qa_if_eq (tg := 77) (nx := 64) at_134_61 rfl rfl (fun h134_61 => ?_) (fun h134_61 => ?_)
                · rw [e2 h134_18 (fun g => g.elim h134_46 (fun g => g.2.1 h134_61))] at step
                  refine qa_s (pc' := 78) at_134_77 rfl rfl rfl ?_
                  refine qa_s (pc' := 79) at_134_78 rfl rfl rfl ?_
                  exact step _ (by first | exact Or.inl ⟨_, _, rfl⟩ | exact Or.inr rfl)
                · refine qa_s (pc' := 65) at_134_64 rfl rfl rfl ?_
                  refine qa_getR (nx := 68) at_134_65 rfl (by decide) rfl rfl (by decide) ?_
                  refine qa_s (pc' := 69) at_134_68 rfl rfl rfl ?_
                  refine qa_zald (nx := 70) (k := b) at_134_69 rfl rfl rfl (by decide) rfl (show b < 5 by omega) ?_
                  refine qa_if_ne (tg := 77) (nx := 73) at_134_70 rfl rfl (fun h134_70 => ?_) (fun h134_70 => ?_)
                  · rw [e2 h134_18 (fun g => g.elim h134_46 (fun g => h134_70 g.2.2))] at step
                    refine qa_s (pc' := 78) at_134_77 rfl rfl rfl ?_
                    refine qa_s (pc' := 79) at_134_78 rfl rfl rfl ?_
                    exact step _ (by first | exact Or.inl ⟨_, _, rfl⟩ | exact Or.inr rfl)
                  · rw [e0 h134_18 (Or.inr ⟨h134_52, h134_61, h134_70⟩)] at step
                    refine qa_s (pc' := 74) at_134_73 rfl rfl rfl ?_
                    refine qa_goto (nx := 78) at_134_74 rfl ?_
                    refine qa_s (pc' := 79) at_134_78 rfl rfl rfl ?_
                    exact step _ (by first | exact Or.inl ⟨_, _, rfl⟩ | exact Or.inr rfl)
      · refine qa_s (pc' := 5) at_134_4 rfl rfl rfl ?_
        refine qa_s (pc' := 6) at_134_5 rfl rfl rfl ?_
        refine qa_getV (nx := 9) (v := nI T) at_134_6 rfl (by decide) rfl rfl (by decide) (show _ from h40) ?_
        refine qn_icmp_ge (tg := 85) (nx := 12) at_134_9 rfl rfl (by omega) (by omega) (fun h134_9 => ?_) (fun h134_9 => ?_)
        · omega
        · refine qa_s (pc' := 13) at_134_12 rfl rfl rfl ?_
          refine qa_getR (nx := 16) at_134_13 rfl (by decide) rfl rfl (by decide) ?_
          refine qa_s (pc' := 17) at_134_16 rfl rfl rfl ?_
          refine qa_zald (nx := 18) (k := i) at_134_17 rfl rfl rfl (by decide) rfl (show i < 5 by omega) ?_
          refine qa_if_eq (tg := 79) (nx := 21) at_134_18 rfl rfl (fun h134_18 => ?_) (fun h134_18 => ?_)
          · rw [e1 h134_18] at step
            exact step _ (by first | exact Or.inl ⟨_, _, rfl⟩ | exact Or.inr rfl)
          · refine qa_s (pc' := 22) at_134_21 rfl rfl rfl ?_
            refine qa_s (pc' := 23) at_134_22 rfl rfl rfl ?_
            refine qa_callV (nx := 26) at_134_23 rfl rfl (Nat.le_of_ble_eq_true rfl) rfl rfl rfl (by decide) rfl (by decide) ?_
            show qa _ 135 0 [(0, .ref _), (1, .int _)] [] _ _
            refine c135_h h5 hb hi5 h134_18 ?_
            show qa _ 134 26 _ [.int _] _ _
            refine qa_s (pc' := 27) at_134_26 rfl rfl rfl ?_
            refine qa_s (pc' := 28) at_134_27 rfl rfl rfl ?_
            refine qn_if_ge (tg := 36) (nx := 31) at_134_28 rfl rfl (by omega) ?_
            refine qa_s (pc' := 37) at_134_36 rfl rfl rfl ?_
            refine qa_s (pc' := 38) at_134_37 rfl rfl rfl ?_
            refine qa_callV (nx := 41) at_134_38 rfl rfl (Nat.le_of_ble_eq_true rfl) rfl rfl rfl (by decide) rfl (by decide) ?_
            show qa _ 135 0 [(0, .ref _), (1, .int _)] [] _ _
            refine c135_h h5 hb (by omega) hb0.2 ?_
            show qa _ 134 41 _ [.int _] _ _
            refine qa_s (pc' := 43) at_134_41 rfl rfl rfl ?_
            refine qa_s (pc' := 44) at_134_43 rfl rfl rfl ?_
            refine qa_s (pc' := 46) at_134_44 rfl rfl rfl ?_
            refine qa_icmp_lt (tg := 73) (nx := 49) at_134_46 rfl rfl (fun h134_46 => ?_) (fun h134_46 => ?_)
            · rw [e0 h134_18 (Or.inl h134_46)] at step
              refine qa_s (pc' := 74) at_134_73 rfl rfl rfl ?_
              refine qa_goto (nx := 78) at_134_74 rfl ?_
              refine qa_s (pc' := 79) at_134_78 rfl rfl rfl ?_
              exact step _ (by first | exact Or.inl ⟨_, _, rfl⟩ | exact Or.inr rfl)
            · refine qa_s (pc' := 50) at_134_49 rfl rfl rfl ?_
              refine qa_s (pc' := 52) at_134_50 rfl rfl rfl ?_
              refine qa_icmp_ne (tg := 77) (nx := 55) at_134_52 rfl rfl (fun h134_52 => ?_) (fun h134_52 => ?_)
              · rw [e2 h134_18 (fun g => g.elim h134_46 (fun g => h134_52 g.1))] at step
                refine qa_s (pc' := 78) at_134_77 rfl rfl rfl ?_
                refine qa_s (pc' := 79) at_134_78 rfl rfl rfl ?_
                exact step _ (by first | exact Or.inl ⟨_, _, rfl⟩ | exact Or.inr rfl)
              · refine qa_s (pc' := 56) at_134_55 rfl rfl rfl ?_
                refine qa_getR (nx := 59) at_134_56 rfl (by decide) rfl rfl (by decide) ?_
                refine qa_s (pc' := 60) at_134_59 rfl rfl rfl ?_
                refine qa_zald (nx := 61) (k := i) at_134_60 rfl rfl rfl (by decide) rfl (show i < 5 by omega) ?_
                refine qa_if_eq (tg := 77) (nx := 64) at_134_61 rfl rfl (fun h134_61 => ?_) (fun h134_61 => ?_)
                · rw [e2 h134_18 (fun g => g.elim h134_46 (fun g => g.2.1 h134_61))] at step
                  refine qa_s (pc' := 78) at_134_77 rfl rfl rfl ?_
                  refine qa_s (pc' := 79) at_134_78 rfl rfl rfl ?_
                  exact step _ (by first | exact Or.inl ⟨_, _, rfl⟩ | exact Or.inr rfl)
                · refine qa_s (pc' := 65) at_134_64 rfl rfl rfl ?_
                  refine qa_getR (nx := 68) at_134_65 rfl (by decide) rfl rfl (by decide) ?_
                  refine qa_s (pc' := 69) at_134_68 rfl rfl rfl ?_
                  refine qa_zald (nx := 70) (k := b) at_134_69 rfl rfl rfl (by decide) rfl (show b < 5 by omega) ?_
                  refine qa_if_ne (tg := 77) (nx := 73) at_134_70 rfl rfl (fun h134_70 => ?_) (fun h134_70 => ?_)
                  · rw [e2 h134_18 (fun g => g.elim h134_46 (fun g => h134_70 g.2.2))] at step
                    refine qa_s (pc' := 78) at_134_77 rfl rfl rfl ?_
                    refine qa_s (pc' := 79) at_134_78 rfl rfl rfl ?_
                    exact step _ (by first | exact Or.inl ⟨_, _, rfl⟩ | exact Or.inr rfl)
                  · rw [e0 h134_18 (Or.inr ⟨h134_52, h134_61, h134_70⟩)] at step
                    refine qa_s (pc' := 74) at_134_73 rfl rfl rfl ?_
                    refine qa_goto (nx := 78) at_134_74 rfl ?_
                    refine qa_s (pc' := 79) at_134_78 rfl rfl rfl ?_
                    exact step _ (by first | exact Or.inl ⟨_, _, rfl⟩ | exact Or.inr rfl)
theorem c134_q (h5 : T ≤ 5) (h40 : σ 40 0 0 = nI T) (hb : hbOk σ T) (k : Q (some (.int (oI (chM σ T)))) σ) : qa cst 134 0 [(0, .ref (cl 40 0))] [] σ Q := by
  refine qa_ic (nx := 1) (v := (-1)) at_134_0 (by decide) rfl ?_
  refine qa_s (pc' := 2) at_134_1 rfl rfl rfl ?_
  refine qa_ic (nx := 3) (v := nI 0) at_134_2 (by decide) rfl ?_
  refine qa_s (pc' := 4) at_134_3 rfl rfl rfl ?_
  exact c134_l h5 h40 hb k T 0 (by omega) _ (Or.inr rfl)
end PQ
