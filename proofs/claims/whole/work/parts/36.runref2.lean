/-! run: the reference, as functions over its cells: the instruction -/
section PQ
variable {cst : List (List Int32)} {σ : sg} {Q : Option Value → sg → Prop} {T : Nat}
def endM (σ : sg) (j : Nat) (kind : Int32) : sg := up (up (up (up (entM σ kind (nI j) (σ 40 0 22 - σ 60 0 j)) 58 0 j (nI 0)) 40 0 24 (-1)) 74 0 j (if σ 74 0 j < σ 40 0 22 - σ 60 0 j then σ 40 0 22 - σ 60 0 j else σ 74 0 j)) 40 0 26 (if σ 42 0 j < σ 40 0 22 - σ 60 0 j then σ 40 0 26 + nI 1 else σ 40 0 26)
/-- an instruction, of operation o, registers' number x and number y; c: how many wait in the mailbox; q: the mate -/
def opM (σ : sg) (j p o x : Nat) (y : Int32) : sg := match o with
  | 0 => up σ 70 0 (4 * j + x) y
  | 1 => up σ 70 0 (4 * j + x) (σ 70 0 (4 * j + x) + σ 70 0 (4 * j + nN y))
  | 2 => up σ 70 0 (4 * j + x) (σ 70 0 (4 * j + x) / σ 70 0 (4 * j + nN y))
  | 3 => up σ 70 0 (4 * j + x) (σ 71 0 (8 * j + nN y))
  | 4 => up σ 71 0 (8 * j + nN y) (σ 70 0 (4 * j + x))
  | 5 => if σ 70 0 (4 * j + x) = 0 then up σ 66 0 j (σ 66 0 j + y) else σ
  | 6 => up σ 69 0 p y
  | 7 => up (up σ 69 0 (nN (σ 47 0 p)) (σ 69 0 (nN (σ 47 0 p)) - nI 1)) 66 0 j (if 0 < σ 69 0 (nN (σ 47 0 p)) - nI 1 then σ 66 0 j + σ 47 0 p - nI p else σ 66 0 j)
  | 8 => up σ 64 0 j (σ 64 0 j ||| nI 1 <<< (y &&& 31))
  | 9 => up σ 64 0 j (σ 64 0 j &&& (nI 1 <<< (σ 46 0 (nN (σ 47 0 p)) &&& 31) ^^^ -1))
  | 10 => up (up (up (up σ 67 0 (3 * j + nN y) (σ 65 0 j)) 68 0 (3 * j + nN y) (σ 66 0 j)) 65 0 j y) 66 0 j (nI 0)
  | 11 => up σ 70 0 (4 * j + x) (σ 75 0 (nN y))
  | 12 => entM σ (nI 1) (nI j) (σ 70 0 (4 * j + x))
  | 13 => if σ 77 0 (nN y) < nI 3 then up (up (up σ 76 0 (3 * nN y + nN (σ 77 0 (nN y))) (σ 70 0 (4 * j + x))) 77 0 (nN y) (σ 77 0 (nN y) + nI 1)) 70 0 (4 * j) (nI 1) else up σ 70 0 (4 * j) (nI 0)
  | 14 => if 0 < σ 77 0 (nN y) then up (up (up (up (up σ 70 0 (4 * j + x) (σ 76 0 (3 * nN y))) 76 0 (3 * nN y) (σ 76 0 (3 * nN y + 1))) 76 0 (3 * nN y + 1) (σ 76 0 (3 * nN y + 2))) 77 0 (nN y) (σ 77 0 (nN y) - nI 1)) 70 0 (4 * j) (nI 1) else up σ 70 0 (4 * j) (nI 0)
  | _ => σ
def retM (σ : sg) (j : Nat) : Nat → sg
  | 0 => σ
  | n + 1 => if 0 < σ 65 0 j ∧ σ 66 0 j = σ 48 0 (3 * j + nN (σ 65 0 j)) then retM (up (up σ 65 0 j (σ 67 0 (3 * j + nN (σ 65 0 j)))) 66 0 j (σ 68 0 (3 * j + nN (σ 65 0 j)))) j n else σ
def finM (σ : sg) (j : Nat) : sg := if σ 65 0 j = 0 ∧ σ 66 0 j = σ 48 0 (3 * j) then endM σ j (nI 2) else σ
def stpM (σ : sg) (j : Nat) : sg := up (up σ 63 0 j (σ 63 0 j + nI 1)) 66 0 j (σ 66 0 j + nI 1)
def pfM (σ : sg) (j p : Nat) : sg := if σ 44 0 p = nI 2 ∧ σ 70 0 (4 * j + nN (σ 46 0 p)) = 0 then endM (stpM σ j) j (nI 3) else finM (retM (opM (stpM σ j) j p (nN (σ 44 0 p)) (nN (σ 45 0 p)) (σ 46 0 p)) j 3) j
theorem c137_q {j : Nat} {kd : Int32} (hj : j < 5) (k : Q none (endM σ j kd)) : qa cst 137 0 [(0, .ref (cl 40 0)), (1, .int (nI j)), (2, .int kd)] [] σ Q := by
  refine qa_s (pc' := 1) at_137_0 rfl rfl rfl ?_
  refine qa_getI (nx := 4) at_137_1 rfl (by decide) rfl rfl (by decide) ?_
  refine qa_s (pc' := 5) at_137_4 rfl rfl rfl ?_
  refine qa_getR (nx := 8) at_137_5 rfl (by decide) rfl rfl (by decide) ?_
  refine qa_s (pc' := 9) at_137_8 rfl rfl rfl ?_
  refine qa_iald (nx := 10) (k := j) at_137_9 rfl rfl rfl (by decide) rfl (show j < 5 by omega) ?_
  refine qa_s (pc' := 11) at_137_10 rfl rfl rfl ?_
  refine qa_s (pc' := 12) at_137_11 rfl rfl rfl ?_
  refine qa_s (pc' := 13) at_137_12 rfl rfl rfl ?_
  refine qa_s (pc' := 14) at_137_13 rfl rfl rfl ?_
  refine qa_s (pc' := 15) at_137_14 rfl rfl rfl ?_
  refine qa_s (pc' := 16) at_137_15 rfl rfl rfl ?_
  refine qa_callV (nx := 19) at_137_16 rfl rfl (Nat.le_of_ble_eq_true rfl) rfl rfl rfl (by decide) rfl (by decide) ?_
  show qa _ 133 0 [(0, .ref _), (1, .int _), (2, .int _), (3, .int _)] [] _ _
  refine c133_q ?_
  show qa _ 137 19 _ [] _ _
  refine qa_s (pc' := 20) at_137_19 rfl rfl rfl ?_
  refine qa_getR (nx := 23) at_137_20 rfl (by decide) rfl rfl (by decide) ?_
  refine qa_s (pc' := 24) at_137_23 rfl rfl rfl ?_
  refine qa_ic (nx := 25) (v := nI 0) at_137_24 (by decide) rfl ?_
  refine qa_zast (nx := 26) (k := j) at_137_25 rfl rfl rfl (by decide) (by decide) rfl (show j < 5 by omega) ?_
  refine qa_s (pc' := 27) at_137_26 rfl rfl rfl ?_
  refine qa_ic (nx := 28) (v := (-1)) at_137_27 (by decide) rfl ?_
  refine qa_put (nx := 31) at_137_28 rfl (by decide) rfl rfl rfl (by decide) ?_
  refine qa_s (pc' := 32) at_137_31 rfl rfl rfl ?_
  refine qa_getR (nx := 35) at_137_32 rfl (by decide) rfl rfl (by decide) ?_
  refine qa_s (pc' := 36) at_137_35 rfl rfl rfl ?_
  refine qa_s (pc' := 37) at_137_36 rfl rfl rfl ?_
  refine qa_s (pc' := 38) at_137_37 rfl rfl rfl ?_
  refine qa_getR (nx := 41) at_137_38 rfl (by decide) rfl rfl (by decide) ?_
  refine qa_s (pc' := 42) at_137_41 rfl rfl rfl ?_
  refine qa_iald (nx := 43) (k := j) at_137_42 rfl rfl rfl (by decide) rfl (show j < 5 by omega) ?_
  refine qa_icmp_le (tg := 50) (nx := 46) at_137_43 rfl rfl (fun h137_43 => ?_) (fun h137_43 => ?_)
  · have g43 : σ 40 0 22 - σ 60 0 j ≤ σ 74 0 j := h137_43
    have ht : ¬ σ 74 0 j < σ 40 0 22 - σ 60 0 j := by simp only [Int32.le_iff_toInt_le, Int32.lt_iff_toInt_lt] at g43 ⊢; omega
    refine qa_s (pc' := 51) at_137_50 rfl rfl rfl ?_
    refine qa_getR (nx := 54) at_137_51 rfl (by decide) rfl rfl (by decide) ?_
    refine qa_s (pc' := 55) at_137_54 rfl rfl rfl ?_
    refine qa_iald (nx := 56) (k := j) at_137_55 rfl rfl rfl (by decide) rfl (show j < 5 by omega) ?_
    refine qa_iast (nx := 57) (k := j) at_137_56 rfl rfl rfl (by decide) rfl (show j < 5 by omega) ?_
    refine qa_s (pc' := 58) at_137_57 rfl rfl rfl ?_
    refine qa_s (pc' := 59) at_137_58 rfl rfl rfl ?_
    refine qa_s (pc' := 60) at_137_59 rfl rfl rfl ?_
    refine qa_getR (nx := 63) at_137_60 rfl (by decide) rfl rfl (by decide) ?_
    refine qa_s (pc' := 64) at_137_63 rfl rfl rfl ?_
    refine qa_iald (nx := 65) (k := j) at_137_64 rfl rfl rfl (by decide) rfl (show j < 5 by omega) ?_
    refine qa_icmp_le (tg := 77) (nx := 68) at_137_65 rfl rfl (fun h137_65 => ?_) (fun h137_65 => ?_)
    · have g65 : σ 40 0 22 - σ 60 0 j ≤ σ 42 0 j := h137_65
      have hd : ¬ σ 42 0 j < σ 40 0 22 - σ 60 0 j := by simp only [Int32.le_iff_toInt_le, Int32.lt_iff_toInt_lt] at g65 ⊢; omega
      refine qa_s (pc' := 78) at_137_77 rfl rfl rfl ?_
      refine qa_getI (nx := 81) at_137_78 rfl (by decide) rfl rfl (by decide) ?_
      refine qa_put (nx := 84) at_137_81 rfl (by decide) rfl rfl rfl (by decide) ?_
      refine qa_ret at_137_84 rfl ?_
      rw [endM, if_neg ht, if_neg hd] at k
      exact k
    · have g65 : ¬ σ 40 0 22 - σ 60 0 j ≤ σ 42 0 j := h137_65
      have hd : σ 42 0 j < σ 40 0 22 - σ 60 0 j := by simp only [Int32.le_iff_toInt_le, Int32.lt_iff_toInt_lt] at g65 ⊢; omega
      refine qa_s (pc' := 69) at_137_68 rfl rfl rfl ?_
      refine qa_getI (nx := 72) at_137_69 rfl (by decide) rfl rfl (by decide) ?_
      refine qa_ic (nx := 73) (v := nI 1) at_137_72 (by decide) rfl ?_
      refine qa_s (pc' := 74) at_137_73 rfl rfl rfl ?_
      refine qa_goto (nx := 81) at_137_74 rfl ?_
      refine qa_put (nx := 84) at_137_81 rfl (by decide) rfl rfl rfl (by decide) ?_
      refine qa_ret at_137_84 rfl ?_
      rw [endM, if_neg ht, if_pos hd] at k
      exact k
  · have g43 : ¬ σ 40 0 22 - σ 60 0 j ≤ σ 74 0 j := h137_43
    have ht : σ 74 0 j < σ 40 0 22 - σ 60 0 j := by simp only [Int32.le_iff_toInt_le, Int32.lt_iff_toInt_lt] at g43 ⊢; omega
    refine qa_s (pc' := 47) at_137_46 rfl rfl rfl ?_
    refine qa_goto (nx := 56) at_137_47 rfl ?_
    refine qa_iast (nx := 57) (k := j) at_137_56 rfl rfl rfl (by decide) rfl (show j < 5 by omega) ?_
    refine qa_s (pc' := 58) at_137_57 rfl rfl rfl ?_
    refine qa_s (pc' := 59) at_137_58 rfl rfl rfl ?_
    refine qa_s (pc' := 60) at_137_59 rfl rfl rfl ?_
    refine qa_getR (nx := 63) at_137_60 rfl (by decide) rfl rfl (by decide) ?_
    refine qa_s (pc' := 64) at_137_63 rfl rfl rfl ?_
    refine qa_iald (nx := 65) (k := j) at_137_64 rfl rfl rfl (by decide) rfl (show j < 5 by omega) ?_
    refine qa_icmp_le (tg := 77) (nx := 68) at_137_65 rfl rfl (fun h137_65 => ?_) (fun h137_65 => ?_)
    · have g65 : σ 40 0 22 - σ 60 0 j ≤ σ 42 0 j := h137_65
      have hd : ¬ σ 42 0 j < σ 40 0 22 - σ 60 0 j := by simp only [Int32.le_iff_toInt_le, Int32.lt_iff_toInt_lt] at g65 ⊢; omega
      refine qa_s (pc' := 78) at_137_77 rfl rfl rfl ?_
      refine qa_getI (nx := 81) at_137_78 rfl (by decide) rfl rfl (by decide) ?_
      refine qa_put (nx := 84) at_137_81 rfl (by decide) rfl rfl rfl (by decide) ?_
      refine qa_ret at_137_84 rfl ?_
      rw [endM, if_pos ht, if_neg hd] at k
      exact k
    · have g65 : ¬ σ 40 0 22 - σ 60 0 j ≤ σ 42 0 j := h137_65
      have hd : σ 42 0 j < σ 40 0 22 - σ 60 0 j := by simp only [Int32.le_iff_toInt_le, Int32.lt_iff_toInt_lt] at g65 ⊢; omega
      refine qa_s (pc' := 69) at_137_68 rfl rfl rfl ?_
      refine qa_getI (nx := 72) at_137_69 rfl (by decide) rfl rfl (by decide) ?_
      refine qa_ic (nx := 73) (v := nI 1) at_137_72 (by decide) rfl ?_
      refine qa_s (pc' := 74) at_137_73 rfl rfl rfl ?_
      refine qa_goto (nx := 81) at_137_74 rfl ?_
      refine qa_put (nx := 84) at_137_81 rfl (by decide) rfl rfl rfl (by decide) ?_
      refine qa_ret at_137_84 rfl ?_
      rw [endM, if_pos ht, if_pos hd] at k
      exact k
theorem o0_q {j p x : Nat} {y : Int32} (hj : j < 5) (hp : p < 180) (hx : x ≤ 3) (k : Q none (opM σ j p 0 x y)) : qa cst 138 0 [(0, .ref (cl 40 0)), (1, .int (nI j)), (2, .int (nI 0)), (3, .int (nI (4 * j + x))), (4, .int y)] [] σ Q := by
  simp only [opM] at k
  refine qa_s (pc' := 1) at_138_0 rfl rfl rfl ?_
  refine qa_ic (nx := 2) (v := nI 4) at_138_1 (by decide) rfl ?_
  refine qn_icmp_ne (tg := 26) (nx := 5) at_138_2 rfl rfl (by decide) (by decide) (fun h138_2 => ?_) (fun h => absurd h (by decide))
  refine qa_s (pc' := 27) at_138_26 rfl rfl rfl ?_
  refine qa_bi (nx := 29) (v := nI 12) at_138_27 (by decide) rfl ?_
  refine qn_icmp_ne (tg := 47) (nx := 32) at_138_29 rfl rfl (by decide) (by decide) (fun h138_29 => ?_) (fun h => absurd h (by decide))
  refine qa_s (pc' := 48) at_138_47 rfl rfl rfl ?_
  refine qn_if_ne (tg := 62) (nx := 51) at_138_48 rfl rfl (by decide) (fun h => absurd h (by decide)) (fun h138_48 => ?_)
  refine qa_s (pc' := 52) at_138_51 rfl rfl rfl ?_
  refine qa_getR (nx := 55) at_138_52 rfl (by decide) rfl rfl (by decide) ?_
  refine qa_s (pc' := 56) at_138_55 rfl rfl rfl ?_
  refine qa_s (pc' := 58) at_138_56 rfl rfl rfl ?_
  refine qa_iast (nx := 59) (k := 4 * j + x) at_138_58 rfl rfl rfl (by decide) rfl (show 4 * j + x < 20 by omega) ?_
  refine qa_goto (nx := 160) at_138_59 rfl ?_
  refine qa_ret at_138_160 rfl ?_
  exact k
theorem o1_q {j p x : Nat} {y : Nat} (hj : j < 5) (hp : p < 180) (hx : x ≤ 3) (hy : y ≤ 3) (k : Q none (opM σ j p 1 x (nI y))) : qa cst 138 0 [(0, .ref (cl 40 0)), (1, .int (nI j)), (2, .int (nI 1)), (3, .int (nI (4 * j + x))), (4, .int (nI y))] [] σ Q := by
  have ny : nN (nI y) = y := nN_n (by omega)
  simp only [opM, ny] at k
  refine qa_s (pc' := 1) at_138_0 rfl rfl rfl ?_
  refine qa_ic (nx := 2) (v := nI 4) at_138_1 (by decide) rfl ?_
  refine qn_icmp_ne (tg := 26) (nx := 5) at_138_2 rfl rfl (by decide) (by decide) (fun h138_2 => ?_) (fun h => absurd h (by decide))
  refine qa_s (pc' := 27) at_138_26 rfl rfl rfl ?_
  refine qa_bi (nx := 29) (v := nI 12) at_138_27 (by decide) rfl ?_
  refine qn_icmp_ne (tg := 47) (nx := 32) at_138_29 rfl rfl (by decide) (by decide) (fun h138_29 => ?_) (fun h => absurd h (by decide))
  refine qa_s (pc' := 48) at_138_47 rfl rfl rfl ?_
  refine qn_if_ne (tg := 62) (nx := 51) at_138_48 rfl rfl (by decide) (fun h138_48 => ?_) (fun h => absurd h (by decide))
  refine qa_s (pc' := 63) at_138_62 rfl rfl rfl ?_
  refine qa_bi (nx := 65) (v := nI 11) at_138_63 (by decide) rfl ?_
  refine qn_icmp_ne (tg := 84) (nx := 68) at_138_65 rfl rfl (by decide) (by decide) (fun h138_65 => ?_) (fun h => absurd h (by decide))
  refine qa_s (pc' := 85) at_138_84 rfl rfl rfl ?_
  refine qa_ic (nx := 86) (v := nI 3) at_138_85 (by decide) rfl ?_
  refine qn_icmp_ne (tg := 110) (nx := 89) at_138_86 rfl rfl (by decide) (by decide) (fun h138_86 => ?_) (fun h => absurd h (by decide))
  refine qa_s (pc' := 111) at_138_110 rfl rfl rfl ?_
  refine qa_getR (nx := 114) at_138_111 rfl (by decide) rfl rfl (by decide) ?_
  refine qa_s (pc' := 115) at_138_114 rfl rfl rfl ?_
  refine qa_s (pc' := 116) at_138_115 rfl rfl rfl ?_
  refine qa_ic (nx := 117) (v := nI 1) at_138_116 (by decide) rfl ?_
  refine qn_icmp_ne (tg := 141) (nx := 120) at_138_117 rfl rfl (by decide) (by decide) (fun h => absurd h (by decide)) (fun h138_117 => ?_)
  refine qa_s (pc' := 121) at_138_120 rfl rfl rfl ?_
  refine qa_getR (nx := 124) at_138_121 rfl (by decide) rfl rfl (by decide) ?_
  refine qa_s (pc' := 125) at_138_124 rfl rfl rfl ?_
  refine qa_iald (nx := 126) (k := 4 * j + x) at_138_125 rfl rfl rfl (by decide) rfl (show 4 * j + x < 20 by omega) ?_
  refine qa_s (pc' := 127) at_138_126 rfl rfl rfl ?_
  refine qa_getR (nx := 130) at_138_127 rfl (by decide) rfl rfl (by decide) ?_
  refine qa_ic (nx := 131) (v := nI 4) at_138_130 (by decide) rfl ?_
  refine qa_s (pc' := 132) at_138_131 rfl rfl rfl ?_
  refine qa_mulN (nx := 133) at_138_132 rfl ?_
  refine qa_s (pc' := 135) at_138_133 rfl rfl rfl ?_
  refine qa_addN (nx := 136) at_138_135 rfl ?_
  refine qa_iald (nx := 137) (k := (4 * j) + y) at_138_136 rfl rfl rfl (by decide) rfl (show (4 * j) + y < 20 by omega) ?_
  refine qa_s (pc' := 138) at_138_137 rfl rfl rfl ?_
  refine qa_goto (nx := 159) at_138_138 rfl ?_
  refine qa_iast (nx := 160) (k := 4 * j + x) at_138_159 rfl rfl rfl (by decide) rfl (show 4 * j + x < 20 by omega) ?_
  refine qa_ret at_138_160 rfl ?_
  exact k
theorem o2_q {j p x : Nat} {y : Nat} (hj : j < 5) (hp : p < 180) (hx : x ≤ 3) (hy : y ≤ 3) (hz : ¬ σ 70 0 (4 * j + y) = 0) (k : Q none (opM σ j p 2 x (nI y))) : qa cst 138 0 [(0, .ref (cl 40 0)), (1, .int (nI j)), (2, .int (nI 2)), (3, .int (nI (4 * j + x))), (4, .int (nI y))] [] σ Q := by
  have ny : nN (nI y) = y := nN_n (by omega)
  simp only [opM, ny] at k
  refine qa_s (pc' := 1) at_138_0 rfl rfl rfl ?_
  refine qa_ic (nx := 2) (v := nI 4) at_138_1 (by decide) rfl ?_
  refine qn_icmp_ne (tg := 26) (nx := 5) at_138_2 rfl rfl (by decide) (by decide) (fun h138_2 => ?_) (fun h => absurd h (by decide))
  refine qa_s (pc' := 27) at_138_26 rfl rfl rfl ?_
  refine qa_bi (nx := 29) (v := nI 12) at_138_27 (by decide) rfl ?_
  refine qn_icmp_ne (tg := 47) (nx := 32) at_138_29 rfl rfl (by decide) (by decide) (fun h138_29 => ?_) (fun h => absurd h (by decide))
  refine qa_s (pc' := 48) at_138_47 rfl rfl rfl ?_
  refine qn_if_ne (tg := 62) (nx := 51) at_138_48 rfl rfl (by decide) (fun h138_48 => ?_) (fun h => absurd h (by decide))
  refine qa_s (pc' := 63) at_138_62 rfl rfl rfl ?_
  refine qa_bi (nx := 65) (v := nI 11) at_138_63 (by decide) rfl ?_
  refine qn_icmp_ne (tg := 84) (nx := 68) at_138_65 rfl rfl (by decide) (by decide) (fun h138_65 => ?_) (fun h => absurd h (by decide))
  refine qa_s (pc' := 85) at_138_84 rfl rfl rfl ?_
  refine qa_ic (nx := 86) (v := nI 3) at_138_85 (by decide) rfl ?_
  refine qn_icmp_ne (tg := 110) (nx := 89) at_138_86 rfl rfl (by decide) (by decide) (fun h138_86 => ?_) (fun h => absurd h (by decide))
  refine qa_s (pc' := 111) at_138_110 rfl rfl rfl ?_
  refine qa_getR (nx := 114) at_138_111 rfl (by decide) rfl rfl (by decide) ?_
  refine qa_s (pc' := 115) at_138_114 rfl rfl rfl ?_
  refine qa_s (pc' := 116) at_138_115 rfl rfl rfl ?_
  refine qa_ic (nx := 117) (v := nI 1) at_138_116 (by decide) rfl ?_
  refine qn_icmp_ne (tg := 141) (nx := 120) at_138_117 rfl rfl (by decide) (by decide) (fun h138_117 => ?_) (fun h => absurd h (by decide))
  refine qa_s (pc' := 142) at_138_141 rfl rfl rfl ?_
  refine qa_getR (nx := 145) at_138_142 rfl (by decide) rfl rfl (by decide) ?_
  refine qa_s (pc' := 146) at_138_145 rfl rfl rfl ?_
  refine qa_iald (nx := 147) (k := 4 * j + x) at_138_146 rfl rfl rfl (by decide) rfl (show 4 * j + x < 20 by omega) ?_
  refine qa_s (pc' := 148) at_138_147 rfl rfl rfl ?_
  refine qa_getR (nx := 151) at_138_148 rfl (by decide) rfl rfl (by decide) ?_
  refine qa_ic (nx := 152) (v := nI 4) at_138_151 (by decide) rfl ?_
  refine qa_s (pc' := 153) at_138_152 rfl rfl rfl ?_
  refine qa_mulN (nx := 154) at_138_153 rfl ?_
  refine qa_s (pc' := 156) at_138_154 rfl rfl rfl ?_
  refine qa_addN (nx := 157) at_138_156 rfl ?_
  refine qa_iald (nx := 158) (k := (4 * j) + y) at_138_157 rfl rfl rfl (by decide) rfl (show (4 * j) + y < 20 by omega) ?_
  refine qa_idiv (nx := 159) at_138_158 hz rfl ?_
  refine qa_iast (nx := 160) (k := 4 * j + x) at_138_159 rfl rfl rfl (by decide) rfl (show 4 * j + x < 20 by omega) ?_
  refine qa_ret at_138_160 rfl ?_
  exact k
theorem o3_q {j p x : Nat} {y : Nat} (hj : j < 5) (hp : p < 180) (hx : x ≤ 3) (hy : y ≤ 7) (k : Q none (opM σ j p 3 x (nI y))) : qa cst 138 0 [(0, .ref (cl 40 0)), (1, .int (nI j)), (2, .int (nI 3)), (3, .int (nI (4 * j + x))), (4, .int (nI y))] [] σ Q := by
  have ny : nN (nI y) = y := nN_n (by omega)
  simp only [opM, ny] at k
  refine qa_s (pc' := 1) at_138_0 rfl rfl rfl ?_
  refine qa_ic (nx := 2) (v := nI 4) at_138_1 (by decide) rfl ?_
  refine qn_icmp_ne (tg := 26) (nx := 5) at_138_2 rfl rfl (by decide) (by decide) (fun h138_2 => ?_) (fun h => absurd h (by decide))
  refine qa_s (pc' := 27) at_138_26 rfl rfl rfl ?_
  refine qa_bi (nx := 29) (v := nI 12) at_138_27 (by decide) rfl ?_
  refine qn_icmp_ne (tg := 47) (nx := 32) at_138_29 rfl rfl (by decide) (by decide) (fun h138_29 => ?_) (fun h => absurd h (by decide))
  refine qa_s (pc' := 48) at_138_47 rfl rfl rfl ?_
  refine qn_if_ne (tg := 62) (nx := 51) at_138_48 rfl rfl (by decide) (fun h138_48 => ?_) (fun h => absurd h (by decide))
  refine qa_s (pc' := 63) at_138_62 rfl rfl rfl ?_
  refine qa_bi (nx := 65) (v := nI 11) at_138_63 (by decide) rfl ?_
  refine qn_icmp_ne (tg := 84) (nx := 68) at_138_65 rfl rfl (by decide) (by decide) (fun h138_65 => ?_) (fun h => absurd h (by decide))
  refine qa_s (pc' := 85) at_138_84 rfl rfl rfl ?_
  refine qa_ic (nx := 86) (v := nI 3) at_138_85 (by decide) rfl ?_
  refine qn_icmp_ne (tg := 110) (nx := 89) at_138_86 rfl rfl (by decide) (by decide) (fun h => absurd h (by decide)) (fun h138_86 => ?_)
  refine qa_s (pc' := 90) at_138_89 rfl rfl rfl ?_
  refine qa_getR (nx := 93) at_138_90 rfl (by decide) rfl rfl (by decide) ?_
  refine qa_s (pc' := 94) at_138_93 rfl rfl rfl ?_
  refine qa_s (pc' := 95) at_138_94 rfl rfl rfl ?_
  refine qa_getR (nx := 98) at_138_95 rfl (by decide) rfl rfl (by decide) ?_
  refine qa_bi (nx := 100) (v := nI 8) at_138_98 (by decide) rfl ?_
  refine qa_s (pc' := 101) at_138_100 rfl rfl rfl ?_
  refine qa_mulN (nx := 102) at_138_101 rfl ?_
  refine qa_s (pc' := 104) at_138_102 rfl rfl rfl ?_
  refine qa_addN (nx := 105) at_138_104 rfl ?_
  refine qa_iald (nx := 106) (k := (8 * j) + y) at_138_105 rfl rfl rfl (by decide) rfl (show (8 * j) + y < 40 by omega) ?_
  refine qa_iast (nx := 107) (k := 4 * j + x) at_138_106 rfl rfl rfl (by decide) rfl (show 4 * j + x < 20 by omega) ?_
  refine qa_goto (nx := 160) at_138_107 rfl ?_
  refine qa_ret at_138_160 rfl ?_
  exact k
theorem o4_q {j p x : Nat} {y : Nat} (hj : j < 5) (hp : p < 180) (hx : x ≤ 3) (hy : y ≤ 7) (k : Q none (opM σ j p 4 x (nI y))) : qa cst 138 0 [(0, .ref (cl 40 0)), (1, .int (nI j)), (2, .int (nI 4)), (3, .int (nI (4 * j + x))), (4, .int (nI y))] [] σ Q := by
  have ny : nN (nI y) = y := nN_n (by omega)
  simp only [opM, ny] at k
  refine qa_s (pc' := 1) at_138_0 rfl rfl rfl ?_
  refine qa_ic (nx := 2) (v := nI 4) at_138_1 (by decide) rfl ?_
  refine qn_icmp_ne (tg := 26) (nx := 5) at_138_2 rfl rfl (by decide) (by decide) (fun h => absurd h (by decide)) (fun h138_2 => ?_)
  refine qa_s (pc' := 6) at_138_5 rfl rfl rfl ?_
  refine qa_getR (nx := 9) at_138_6 rfl (by decide) rfl rfl (by decide) ?_
  refine qa_bi (nx := 11) (v := nI 8) at_138_9 (by decide) rfl ?_
  refine qa_s (pc' := 12) at_138_11 rfl rfl rfl ?_
  refine qa_mulN (nx := 13) at_138_12 rfl ?_
  refine qa_s (pc' := 15) at_138_13 rfl rfl rfl ?_
  refine qa_addN (nx := 16) at_138_15 rfl ?_
  refine qa_s (pc' := 17) at_138_16 rfl rfl rfl ?_
  refine qa_getR (nx := 20) at_138_17 rfl (by decide) rfl rfl (by decide) ?_
  refine qa_s (pc' := 21) at_138_20 rfl rfl rfl ?_
  refine qa_iald (nx := 22) (k := 4 * j + x) at_138_21 rfl rfl rfl (by decide) rfl (show 4 * j + x < 20 by omega) ?_
  refine qa_iast (nx := 23) (k := (8 * j) + y) at_138_22 rfl rfl rfl (by decide) rfl (show (8 * j) + y < 40 by omega) ?_
  refine qa_goto (nx := 160) at_138_23 rfl ?_
  refine qa_ret at_138_160 rfl ?_
  exact k
theorem o11_q {j p x : Nat} {y : Nat} (hj : j < 5) (hp : p < 180) (hx : x ≤ 3) (hy : y ≤ 1) (k : Q none (opM σ j p 11 x (nI y))) : qa cst 138 0 [(0, .ref (cl 40 0)), (1, .int (nI j)), (2, .int (nI 11)), (3, .int (nI (4 * j + x))), (4, .int (nI y))] [] σ Q := by
  have ny : nN (nI y) = y := nN_n (by omega)
  simp only [opM, ny] at k
  refine qa_s (pc' := 1) at_138_0 rfl rfl rfl ?_
  refine qa_ic (nx := 2) (v := nI 4) at_138_1 (by decide) rfl ?_
  refine qn_icmp_ne (tg := 26) (nx := 5) at_138_2 rfl rfl (by decide) (by decide) (fun h138_2 => ?_) (fun h => absurd h (by decide))
  refine qa_s (pc' := 27) at_138_26 rfl rfl rfl ?_
  refine qa_bi (nx := 29) (v := nI 12) at_138_27 (by decide) rfl ?_
  refine qn_icmp_ne (tg := 47) (nx := 32) at_138_29 rfl rfl (by decide) (by decide) (fun h138_29 => ?_) (fun h => absurd h (by decide))
  refine qa_s (pc' := 48) at_138_47 rfl rfl rfl ?_
  refine qn_if_ne (tg := 62) (nx := 51) at_138_48 rfl rfl (by decide) (fun h138_48 => ?_) (fun h => absurd h (by decide))
  refine qa_s (pc' := 63) at_138_62 rfl rfl rfl ?_
  refine qa_bi (nx := 65) (v := nI 11) at_138_63 (by decide) rfl ?_
  refine qn_icmp_ne (tg := 84) (nx := 68) at_138_65 rfl rfl (by decide) (by decide) (fun h => absurd h (by decide)) (fun h138_65 => ?_)
  refine qa_s (pc' := 69) at_138_68 rfl rfl rfl ?_
  refine qa_getR (nx := 72) at_138_69 rfl (by decide) rfl rfl (by decide) ?_
  refine qa_s (pc' := 73) at_138_72 rfl rfl rfl ?_
  refine qa_s (pc' := 74) at_138_73 rfl rfl rfl ?_
  refine qa_getR (nx := 77) at_138_74 rfl (by decide) rfl rfl (by decide) ?_
  refine qa_s (pc' := 79) at_138_77 rfl rfl rfl ?_
  refine qa_iald (nx := 80) (k := y) at_138_79 rfl rfl rfl (by decide) rfl (show y < 2 by omega) ?_
  refine qa_iast (nx := 81) (k := 4 * j + x) at_138_80 rfl rfl rfl (by decide) rfl (show 4 * j + x < 20 by omega) ?_
  refine qa_goto (nx := 160) at_138_81 rfl ?_
  refine qa_ret at_138_160 rfl ?_
  exact k
theorem o12_q {j p x : Nat} {y : Nat} (hj : j < 5) (hp : p < 180) (hx : x ≤ 3) (hy : y ≤ 0) (k : Q none (opM σ j p 12 x (nI y))) : qa cst 138 0 [(0, .ref (cl 40 0)), (1, .int (nI j)), (2, .int (nI 12)), (3, .int (nI (4 * j + x))), (4, .int (nI y))] [] σ Q := by
  have ny : nN (nI y) = y := nN_n (by omega)
  simp only [opM, ny] at k
  refine qa_s (pc' := 1) at_138_0 rfl rfl rfl ?_
  refine qa_ic (nx := 2) (v := nI 4) at_138_1 (by decide) rfl ?_
  refine qn_icmp_ne (tg := 26) (nx := 5) at_138_2 rfl rfl (by decide) (by decide) (fun h138_2 => ?_) (fun h => absurd h (by decide))
  refine qa_s (pc' := 27) at_138_26 rfl rfl rfl ?_
  refine qa_bi (nx := 29) (v := nI 12) at_138_27 (by decide) rfl ?_
  refine qn_icmp_ne (tg := 47) (nx := 32) at_138_29 rfl rfl (by decide) (by decide) (fun h => absurd h (by decide)) (fun h138_29 => ?_)
  refine qa_s (pc' := 33) at_138_32 rfl rfl rfl ?_
  refine qa_ic (nx := 34) (v := nI 1) at_138_33 (by decide) rfl ?_
  refine qa_s (pc' := 35) at_138_34 rfl rfl rfl ?_
  refine qa_s (pc' := 36) at_138_35 rfl rfl rfl ?_
  refine qa_getR (nx := 39) at_138_36 rfl (by decide) rfl rfl (by decide) ?_
  refine qa_s (pc' := 40) at_138_39 rfl rfl rfl ?_
  refine qa_iald (nx := 41) (k := 4 * j + x) at_138_40 rfl rfl rfl (by decide) rfl (show 4 * j + x < 20 by omega) ?_
  refine qa_callV (nx := 44) at_138_41 rfl rfl (Nat.le_of_ble_eq_true rfl) rfl rfl rfl (by decide) rfl (by decide) ?_
  show qa _ 133 0 [(0, .ref _), (1, .int _), (2, .int _), (3, .int _)] [] _ _
  refine c133_q ?_
  show qa _ 138 44 _ [] _ _
  refine qa_goto (nx := 160) at_138_44 rfl ?_
  refine qa_ret at_138_160 rfl ?_
  exact k
theorem o5_q {j p x : Nat} {y : Nat} (hj : j < 5) (hp : p < 180) (hx : x ≤ 3) (hy : y ≤ 11) (h46 : σ 46 0 p = nI y) (k : Q none (opM σ j p 5 x (nI y))) : qa cst 140 0 [(0, .ref (cl 40 0)), (1, .int (nI j)), (2, .int (nI 5)), (3, .int (nI (4 * j + x))), (4, .int (nI p))] [] σ Q := by
  have ny : nN (nI y) = y := nN_n (by omega)
  simp only [opM, ny] at k
  refine qa_s (pc' := 1) at_140_0 rfl rfl rfl ?_
  refine qa_getR (nx := 4) at_140_1 rfl (by decide) rfl rfl (by decide) ?_
  refine qa_s (pc' := 6) at_140_4 rfl rfl rfl ?_
  refine qa_ialdV (nx := 7) (k := p) (v := nI y) at_140_6 rfl rfl rfl (by decide) rfl (show p < 180 by omega) (show _ from h46) ?_
  refine qa_s (pc' := 9) at_140_7 rfl rfl rfl ?_
  refine qa_s (pc' := 10) at_140_9 rfl rfl rfl ?_
  refine qa_ic (nx := 11) (v := nI 5) at_140_10 (by decide) rfl ?_
  refine qn_icmp_ne (tg := 41) (nx := 14) at_140_11 rfl rfl (by decide) (by decide) (fun h => absurd h (by decide)) (fun h140_11 => ?_)
  refine qa_s (pc' := 15) at_140_14 rfl rfl rfl ?_
  refine qa_getR (nx := 18) at_140_15 rfl (by decide) rfl rfl (by decide) ?_
  refine qa_s (pc' := 19) at_140_18 rfl rfl rfl ?_
  refine qa_iald (nx := 20) (k := 4 * j + x) at_140_19 rfl rfl rfl (by decide) rfl (show 4 * j + x < 20 by omega) ?_
  refine qa_if_ne (tg := 41) (nx := 23) at_140_20 rfl rfl (fun h140_20 => ?_) (fun h140_20 => ?_)
  · refine qa_s (pc' := 42) at_140_41 rfl rfl rfl ?_
    refine qa_bi (nx := 44) (v := nI 6) at_140_42 (by decide) rfl ?_
    refine qn_icmp_ne (tg := 59) (nx := 47) at_140_44 rfl rfl (by decide) (by decide) (fun h140_44 => ?_) (fun h => absurd h (by decide))
    refine qa_s (pc' := 60) at_140_59 rfl rfl rfl ?_
    refine qa_bi (nx := 62) (v := nI 7) at_140_60 (by decide) rfl ?_
    refine qn_icmp_ne (tg := 125) (nx := 65) at_140_62 rfl rfl (by decide) (by decide) (fun h140_62 => ?_) (fun h => absurd h (by decide))
    refine qa_s (pc' := 126) at_140_125 rfl rfl rfl ?_
    refine qa_bi (nx := 128) (v := nI 8) at_140_126 (by decide) rfl ?_
    refine qn_icmp_ne (tg := 151) (nx := 131) at_140_128 rfl rfl (by decide) (by decide) (fun h140_128 => ?_) (fun h => absurd h (by decide))
    refine qa_s (pc' := 152) at_140_151 rfl rfl rfl ?_
    refine qa_bi (nx := 154) (v := nI 9) at_140_152 (by decide) rfl ?_
    refine qn_icmp_ne (tg := 189) (nx := 157) at_140_154 rfl rfl (by decide) (by decide) (fun h140_154 => ?_) (fun h => absurd h (by decide))
    refine qa_s (pc' := 190) at_140_189 rfl rfl rfl ?_
    refine qa_bi (nx := 192) (v := nI 10) at_140_190 (by decide) rfl ?_
    refine qn_icmp_ne (tg := 244) (nx := 195) at_140_192 rfl rfl (by decide) (by decide) (fun h140_192 => ?_) (fun h => absurd h (by decide))
    refine qa_ret at_140_244 rfl ?_
    first | (rw [if_pos h140_20] at k; exact k) | (rw [if_neg h140_20] at k; exact k)
  · refine qa_s (pc' := 24) at_140_23 rfl rfl rfl ?_
    refine qa_getR (nx := 27) at_140_24 rfl (by decide) rfl rfl (by decide) ?_
    refine qa_s (pc' := 28) at_140_27 rfl rfl rfl ?_
    refine qa_s (pc' := 29) at_140_28 rfl rfl rfl ?_
    refine qa_getR (nx := 32) at_140_29 rfl (by decide) rfl rfl (by decide) ?_
    refine qa_s (pc' := 33) at_140_32 rfl rfl rfl ?_
    refine qa_iald (nx := 34) (k := j) at_140_33 rfl rfl rfl (by decide) rfl (show j < 5 by omega) ?_
    refine qa_s (pc' := 36) at_140_34 rfl rfl rfl ?_
    refine qa_s (pc' := 37) at_140_36 rfl rfl rfl ?_
    refine qa_iast (nx := 38) (k := j) at_140_37 rfl rfl rfl (by decide) rfl (show j < 5 by omega) ?_
    refine qa_goto (nx := 244) at_140_38 rfl ?_
    refine qa_ret at_140_244 rfl ?_
    first | (rw [if_pos h140_20] at k; exact k) | (rw [if_neg h140_20] at k; exact k)
theorem o6_q {j p x : Nat} {y : Nat} (hj : j < 5) (hp : p < 180) (hx : x ≤ 3) (hy : y ≤ 8) (h46 : σ 46 0 p = nI y) (k : Q none (opM σ j p 6 x (nI y))) : qa cst 140 0 [(0, .ref (cl 40 0)), (1, .int (nI j)), (2, .int (nI 6)), (3, .int (nI (4 * j + x))), (4, .int (nI p))] [] σ Q := by
  have ny : nN (nI y) = y := nN_n (by omega)
  simp only [opM, ny] at k
  refine qa_s (pc' := 1) at_140_0 rfl rfl rfl ?_
  refine qa_getR (nx := 4) at_140_1 rfl (by decide) rfl rfl (by decide) ?_
  refine qa_s (pc' := 6) at_140_4 rfl rfl rfl ?_
  refine qa_ialdV (nx := 7) (k := p) (v := nI y) at_140_6 rfl rfl rfl (by decide) rfl (show p < 180 by omega) (show _ from h46) ?_
  refine qa_s (pc' := 9) at_140_7 rfl rfl rfl ?_
  refine qa_s (pc' := 10) at_140_9 rfl rfl rfl ?_
  refine qa_ic (nx := 11) (v := nI 5) at_140_10 (by decide) rfl ?_
  refine qn_icmp_ne (tg := 41) (nx := 14) at_140_11 rfl rfl (by decide) (by decide) (fun h140_11 => ?_) (fun h => absurd h (by decide))
  refine qa_s (pc' := 42) at_140_41 rfl rfl rfl ?_
  refine qa_bi (nx := 44) (v := nI 6) at_140_42 (by decide) rfl ?_
  refine qn_icmp_ne (tg := 59) (nx := 47) at_140_44 rfl rfl (by decide) (by decide) (fun h => absurd h (by decide)) (fun h140_44 => ?_)
  refine qa_s (pc' := 48) at_140_47 rfl rfl rfl ?_
  refine qa_getR (nx := 51) at_140_48 rfl (by decide) rfl rfl (by decide) ?_
  refine qa_s (pc' := 53) at_140_51 rfl rfl rfl ?_
  refine qa_s (pc' := 55) at_140_53 rfl rfl rfl ?_
  refine qa_iast (nx := 56) (k := p) at_140_55 rfl rfl rfl (by decide) rfl (show p < 180 by omega) ?_
  refine qa_goto (nx := 244) at_140_56 rfl ?_
  refine qa_ret at_140_244 rfl ?_
  exact k
theorem o7_q {j p x q : Nat} {y : Int32} (hj : j < 5) (hp : p < 180) (hx : x ≤ 3) (h47 : σ 47 0 p = nI q) (hq : q < 180) (k : Q none (opM σ j p 7 x y)) : qa cst 140 0 [(0, .ref (cl 40 0)), (1, .int (nI j)), (2, .int (nI 7)), (3, .int (nI (4 * j + x))), (4, .int (nI p))] [] σ Q := by
  have nq : nN (nI q) = q := nN_n (by omega)
  simp only [opM, h47, nq] at k
  refine qa_s (pc' := 1) at_140_0 rfl rfl rfl ?_
  refine qa_getR (nx := 4) at_140_1 rfl (by decide) rfl rfl (by decide) ?_
  refine qa_s (pc' := 6) at_140_4 rfl rfl rfl ?_
  refine qa_iald (nx := 7) (k := p) at_140_6 rfl rfl rfl (by decide) rfl (show p < 180 by omega) ?_
  refine qa_s (pc' := 9) at_140_7 rfl rfl rfl ?_
  refine qa_s (pc' := 10) at_140_9 rfl rfl rfl ?_
  refine qa_ic (nx := 11) (v := nI 5) at_140_10 (by decide) rfl ?_
  refine qn_icmp_ne (tg := 41) (nx := 14) at_140_11 rfl rfl (by decide) (by decide) (fun h140_11 => ?_) (fun h => absurd h (by decide))
  refine qa_s (pc' := 42) at_140_41 rfl rfl rfl ?_
  refine qa_bi (nx := 44) (v := nI 6) at_140_42 (by decide) rfl ?_
  refine qn_icmp_ne (tg := 59) (nx := 47) at_140_44 rfl rfl (by decide) (by decide) (fun h140_44 => ?_) (fun h => absurd h (by decide))
  refine qa_s (pc' := 60) at_140_59 rfl rfl rfl ?_
  refine qa_bi (nx := 62) (v := nI 7) at_140_60 (by decide) rfl ?_
  refine qn_icmp_ne (tg := 125) (nx := 65) at_140_62 rfl rfl (by decide) (by decide) (fun h => absurd h (by decide)) (fun h140_62 => ?_)
  refine qa_s (pc' := 66) at_140_65 rfl rfl rfl ?_
  refine qa_getR (nx := 69) at_140_66 rfl (by decide) rfl rfl (by decide) ?_
  refine qa_s (pc' := 71) at_140_69 rfl rfl rfl ?_
  refine qa_ialdV (nx := 72) (k := p) (v := nI q) at_140_71 rfl rfl rfl (by decide) rfl (show p < 180 by omega) (show _ from h47) ?_
  refine qa_s (pc' := 74) at_140_72 rfl rfl rfl ?_
  refine qa_s (pc' := 75) at_140_74 rfl rfl rfl ?_
  refine qa_getR (nx := 78) at_140_75 rfl (by decide) rfl rfl (by decide) ?_
  refine qa_s (pc' := 80) at_140_78 rfl rfl rfl ?_
  refine qa_s (pc' := 81) at_140_80 rfl rfl rfl ?_
  refine qa_iald (nx := 82) (k := q) at_140_81 rfl rfl rfl (by decide) rfl (show q < 180 by omega) ?_
  refine qa_ic (nx := 83) (v := nI 1) at_140_82 (by decide) rfl ?_
  refine qa_s (pc' := 84) at_140_83 rfl rfl rfl ?_
  refine qa_iast (nx := 85) (k := q) at_140_84 rfl rfl rfl (by decide) rfl (show q < 180 by omega) ?_
  refine qa_s (pc' := 86) at_140_85 rfl rfl rfl ?_
  refine qa_getR (nx := 89) at_140_86 rfl (by decide) rfl rfl (by decide) ?_
  refine qa_s (pc' := 90) at_140_89 rfl rfl rfl ?_
  refine qa_s (pc' := 91) at_140_90 rfl rfl rfl ?_
  refine qa_getR (nx := 94) at_140_91 rfl (by decide) rfl rfl (by decide) ?_
  refine qa_s (pc' := 96) at_140_94 rfl rfl rfl ?_
  refine qa_iald (nx := 97) (k := q) at_140_96 rfl rfl rfl (by decide) rfl (show q < 180 by omega) ?_
  refine qa_if_le (tg := 115) (nx := 100) at_140_97 rfl rfl (fun h140_97 => ?_) (fun h140_97 => ?_)
  · have g97 : σ 69 0 q - nI 1 ≤ 0 := by have g := h140_97; rw [up_s] at g; exact g
    have hb : ¬ 0 < σ 69 0 q - nI 1 := by simp only [Int32.le_iff_toInt_le, Int32.lt_iff_toInt_lt] at g97 ⊢; omega
    rw [if_neg hb] at k
    refine qa_s (pc' := 116) at_140_115 rfl rfl rfl ?_
    refine qa_getR (nx := 119) at_140_116 rfl (by decide) rfl rfl (by decide) ?_
    refine qa_s (pc' := 120) at_140_119 rfl rfl rfl ?_
    refine qa_iald (nx := 121) (k := j) at_140_120 rfl rfl rfl (by decide) rfl (show j < 5 by omega) ?_
    refine qa_iast (nx := 122) (k := j) at_140_121 rfl rfl rfl (by decide) rfl (show j < 5 by omega) ?_
    refine qa_goto (nx := 244) at_140_122 rfl ?_
    refine qa_ret at_140_244 rfl ?_
    exact k
  · have g97 : ¬ σ 69 0 q - nI 1 ≤ 0 := by have g := h140_97; rw [up_s] at g; exact g
    have hb : 0 < σ 69 0 q - nI 1 := by simp only [Int32.le_iff_toInt_le, Int32.lt_iff_toInt_lt] at g97 ⊢; omega
    rw [if_pos hb] at k
    refine qa_s (pc' := 101) at_140_100 rfl rfl rfl ?_
    refine qa_getR (nx := 104) at_140_101 rfl (by decide) rfl rfl (by decide) ?_
    refine qa_s (pc' := 105) at_140_104 rfl rfl rfl ?_
    refine qa_iald (nx := 106) (k := j) at_140_105 rfl rfl rfl (by decide) rfl (show j < 5 by omega) ?_
    refine qa_s (pc' := 108) at_140_106 rfl rfl rfl ?_
    refine qa_s (pc' := 109) at_140_108 rfl rfl rfl ?_
    refine qa_s (pc' := 111) at_140_109 rfl rfl rfl ?_
    refine qa_s (pc' := 112) at_140_111 rfl rfl rfl ?_
    refine qa_goto (nx := 121) at_140_112 rfl ?_
    refine qa_iast (nx := 122) (k := j) at_140_121 rfl rfl rfl (by decide) rfl (show j < 5 by omega) ?_
    refine qa_goto (nx := 244) at_140_122 rfl ?_
    refine qa_ret at_140_244 rfl ?_
    exact k
theorem o9_q {j p x q : Nat} {y : Int32} (hj : j < 5) (hp : p < 180) (hx : x ≤ 3) (h47 : σ 47 0 p = nI q) (hq : q < 180) (k : Q none (opM σ j p 9 x y)) : qa cst 140 0 [(0, .ref (cl 40 0)), (1, .int (nI j)), (2, .int (nI 9)), (3, .int (nI (4 * j + x))), (4, .int (nI p))] [] σ Q := by
  have nq : nN (nI q) = q := nN_n (by omega)
  simp only [opM, h47, nq] at k
  refine qa_s (pc' := 1) at_140_0 rfl rfl rfl ?_
  refine qa_getR (nx := 4) at_140_1 rfl (by decide) rfl rfl (by decide) ?_
  refine qa_s (pc' := 6) at_140_4 rfl rfl rfl ?_
  refine qa_iald (nx := 7) (k := p) at_140_6 rfl rfl rfl (by decide) rfl (show p < 180 by omega) ?_
  refine qa_s (pc' := 9) at_140_7 rfl rfl rfl ?_
  refine qa_s (pc' := 10) at_140_9 rfl rfl rfl ?_
  refine qa_ic (nx := 11) (v := nI 5) at_140_10 (by decide) rfl ?_
  refine qn_icmp_ne (tg := 41) (nx := 14) at_140_11 rfl rfl (by decide) (by decide) (fun h140_11 => ?_) (fun h => absurd h (by decide))
  refine qa_s (pc' := 42) at_140_41 rfl rfl rfl ?_
  refine qa_bi (nx := 44) (v := nI 6) at_140_42 (by decide) rfl ?_
  refine qn_icmp_ne (tg := 59) (nx := 47) at_140_44 rfl rfl (by decide) (by decide) (fun h140_44 => ?_) (fun h => absurd h (by decide))
  refine qa_s (pc' := 60) at_140_59 rfl rfl rfl ?_
  refine qa_bi (nx := 62) (v := nI 7) at_140_60 (by decide) rfl ?_
  refine qn_icmp_ne (tg := 125) (nx := 65) at_140_62 rfl rfl (by decide) (by decide) (fun h140_62 => ?_) (fun h => absurd h (by decide))
  refine qa_s (pc' := 126) at_140_125 rfl rfl rfl ?_
  refine qa_bi (nx := 128) (v := nI 8) at_140_126 (by decide) rfl ?_
  refine qn_icmp_ne (tg := 151) (nx := 131) at_140_128 rfl rfl (by decide) (by decide) (fun h140_128 => ?_) (fun h => absurd h (by decide))
  refine qa_s (pc' := 152) at_140_151 rfl rfl rfl ?_
  refine qa_bi (nx := 154) (v := nI 9) at_140_152 (by decide) rfl ?_
  refine qn_icmp_ne (tg := 189) (nx := 157) at_140_154 rfl rfl (by decide) (by decide) (fun h => absurd h (by decide)) (fun h140_154 => ?_)
  refine qa_s (pc' := 158) at_140_157 rfl rfl rfl ?_
  refine qa_getR (nx := 161) at_140_158 rfl (by decide) rfl rfl (by decide) ?_
  refine qa_s (pc' := 162) at_140_161 rfl rfl rfl ?_
  refine qa_s (pc' := 163) at_140_162 rfl rfl rfl ?_
  refine qa_getR (nx := 166) at_140_163 rfl (by decide) rfl rfl (by decide) ?_
  refine qa_s (pc' := 167) at_140_166 rfl rfl rfl ?_
  refine qa_iald (nx := 168) (k := j) at_140_167 rfl rfl rfl (by decide) rfl (show j < 5 by omega) ?_
  refine qa_ic (nx := 169) (v := nI 1) at_140_168 (by decide) rfl ?_
  refine qa_s (pc' := 170) at_140_169 rfl rfl rfl ?_
  refine qa_getR (nx := 173) at_140_170 rfl (by decide) rfl rfl (by decide) ?_
  refine qa_s (pc' := 174) at_140_173 rfl rfl rfl ?_
  refine qa_getR (nx := 177) at_140_174 rfl (by decide) rfl rfl (by decide) ?_
  refine qa_s (pc' := 179) at_140_177 rfl rfl rfl ?_
  refine qa_ialdV (nx := 180) (k := p) (v := nI q) at_140_179 rfl rfl rfl (by decide) rfl (show p < 180 by omega) (show _ from h47) ?_
  refine qa_iald (nx := 181) (k := q) at_140_180 rfl rfl rfl (by decide) rfl (show q < 180 by omega) ?_
  refine qa_s (pc' := 182) at_140_181 rfl rfl rfl ?_
  refine qa_ic (nx := 183) (v := (-1)) at_140_182 (by decide) rfl ?_
  refine qa_s (pc' := 184) at_140_183 rfl rfl rfl ?_
  refine qa_s (pc' := 185) at_140_184 rfl rfl rfl ?_
  refine qa_iast (nx := 186) (k := j) at_140_185 rfl rfl rfl (by decide) rfl (show j < 5 by omega) ?_
  refine qa_goto (nx := 244) at_140_186 rfl ?_
  refine qa_ret at_140_244 rfl ?_
  exact k
theorem o8_q {j p x : Nat} {y : Nat} (hj : j < 5) (hp : p < 180) (hx : x ≤ 3) (hy : y ≤ 3) (h46 : σ 46 0 p = nI y) (k : Q none (opM σ j p 8 x (nI y))) : qa cst 140 0 [(0, .ref (cl 40 0)), (1, .int (nI j)), (2, .int (nI 8)), (3, .int (nI (4 * j + x))), (4, .int (nI p))] [] σ Q := by
  have ny : nN (nI y) = y := nN_n (by omega)
  simp only [opM, ny] at k
  refine qa_s (pc' := 1) at_140_0 rfl rfl rfl ?_
  refine qa_getR (nx := 4) at_140_1 rfl (by decide) rfl rfl (by decide) ?_
  refine qa_s (pc' := 6) at_140_4 rfl rfl rfl ?_
  refine qa_ialdV (nx := 7) (k := p) (v := nI y) at_140_6 rfl rfl rfl (by decide) rfl (show p < 180 by omega) (show _ from h46) ?_
  refine qa_s (pc' := 9) at_140_7 rfl rfl rfl ?_
  refine qa_s (pc' := 10) at_140_9 rfl rfl rfl ?_
  refine qa_ic (nx := 11) (v := nI 5) at_140_10 (by decide) rfl ?_
  refine qn_icmp_ne (tg := 41) (nx := 14) at_140_11 rfl rfl (by decide) (by decide) (fun h140_11 => ?_) (fun h => absurd h (by decide))
  refine qa_s (pc' := 42) at_140_41 rfl rfl rfl ?_
  refine qa_bi (nx := 44) (v := nI 6) at_140_42 (by decide) rfl ?_
  refine qn_icmp_ne (tg := 59) (nx := 47) at_140_44 rfl rfl (by decide) (by decide) (fun h140_44 => ?_) (fun h => absurd h (by decide))
  refine qa_s (pc' := 60) at_140_59 rfl rfl rfl ?_
  refine qa_bi (nx := 62) (v := nI 7) at_140_60 (by decide) rfl ?_
  refine qn_icmp_ne (tg := 125) (nx := 65) at_140_62 rfl rfl (by decide) (by decide) (fun h140_62 => ?_) (fun h => absurd h (by decide))
  refine qa_s (pc' := 126) at_140_125 rfl rfl rfl ?_
  refine qa_bi (nx := 128) (v := nI 8) at_140_126 (by decide) rfl ?_
  refine qn_icmp_ne (tg := 151) (nx := 131) at_140_128 rfl rfl (by decide) (by decide) (fun h => absurd h (by decide)) (fun h140_128 => ?_)
  refine qa_s (pc' := 132) at_140_131 rfl rfl rfl ?_
  refine qa_getR (nx := 135) at_140_132 rfl (by decide) rfl rfl (by decide) ?_
  refine qa_s (pc' := 136) at_140_135 rfl rfl rfl ?_
  refine qa_s (pc' := 137) at_140_136 rfl rfl rfl ?_
  refine qa_getR (nx := 140) at_140_137 rfl (by decide) rfl rfl (by decide) ?_
  refine qa_s (pc' := 141) at_140_140 rfl rfl rfl ?_
  refine qa_iald (nx := 142) (k := j) at_140_141 rfl rfl rfl (by decide) rfl (show j < 5 by omega) ?_
  refine qa_ic (nx := 143) (v := nI 1) at_140_142 (by decide) rfl ?_
  refine qa_s (pc' := 145) at_140_143 rfl rfl rfl ?_
  refine qa_s (pc' := 146) at_140_145 rfl rfl rfl ?_
  refine qa_s (pc' := 147) at_140_146 rfl rfl rfl ?_
  refine qa_iast (nx := 148) (k := j) at_140_147 rfl rfl rfl (by decide) rfl (show j < 5 by omega) ?_
  refine qa_goto (nx := 244) at_140_148 rfl ?_
  refine qa_ret at_140_244 rfl ?_
  exact k
theorem o10_q {j p x : Nat} {y : Nat} (hj : j < 5) (hp : p < 180) (hx : x ≤ 3) (hy : y ≤ 2) (h46 : σ 46 0 p = nI y) (k : Q none (opM σ j p 10 x (nI y))) : qa cst 140 0 [(0, .ref (cl 40 0)), (1, .int (nI j)), (2, .int (nI 10)), (3, .int (nI (4 * j + x))), (4, .int (nI p))] [] σ Q := by
  have ny : nN (nI y) = y := nN_n (by omega)
  simp only [opM, ny] at k
  refine qa_s (pc' := 1) at_140_0 rfl rfl rfl ?_
  refine qa_getR (nx := 4) at_140_1 rfl (by decide) rfl rfl (by decide) ?_
  refine qa_s (pc' := 6) at_140_4 rfl rfl rfl ?_
  refine qa_ialdV (nx := 7) (k := p) (v := nI y) at_140_6 rfl rfl rfl (by decide) rfl (show p < 180 by omega) (show _ from h46) ?_
  refine qa_s (pc' := 9) at_140_7 rfl rfl rfl ?_
  refine qa_s (pc' := 10) at_140_9 rfl rfl rfl ?_
  refine qa_ic (nx := 11) (v := nI 5) at_140_10 (by decide) rfl ?_
  refine qn_icmp_ne (tg := 41) (nx := 14) at_140_11 rfl rfl (by decide) (by decide) (fun h140_11 => ?_) (fun h => absurd h (by decide))
  refine qa_s (pc' := 42) at_140_41 rfl rfl rfl ?_
  refine qa_bi (nx := 44) (v := nI 6) at_140_42 (by decide) rfl ?_
  refine qn_icmp_ne (tg := 59) (nx := 47) at_140_44 rfl rfl (by decide) (by decide) (fun h140_44 => ?_) (fun h => absurd h (by decide))
  refine qa_s (pc' := 60) at_140_59 rfl rfl rfl ?_
  refine qa_bi (nx := 62) (v := nI 7) at_140_60 (by decide) rfl ?_
  refine qn_icmp_ne (tg := 125) (nx := 65) at_140_62 rfl rfl (by decide) (by decide) (fun h140_62 => ?_) (fun h => absurd h (by decide))
  refine qa_s (pc' := 126) at_140_125 rfl rfl rfl ?_
  refine qa_bi (nx := 128) (v := nI 8) at_140_126 (by decide) rfl ?_
  refine qn_icmp_ne (tg := 151) (nx := 131) at_140_128 rfl rfl (by decide) (by decide) (fun h140_128 => ?_) (fun h => absurd h (by decide))
  refine qa_s (pc' := 152) at_140_151 rfl rfl rfl ?_
  refine qa_bi (nx := 154) (v := nI 9) at_140_152 (by decide) rfl ?_
  refine qn_icmp_ne (tg := 189) (nx := 157) at_140_154 rfl rfl (by decide) (by decide) (fun h140_154 => ?_) (fun h => absurd h (by decide))
  refine qa_s (pc' := 190) at_140_189 rfl rfl rfl ?_
  refine qa_bi (nx := 192) (v := nI 10) at_140_190 (by decide) rfl ?_
  refine qn_icmp_ne (tg := 244) (nx := 195) at_140_192 rfl rfl (by decide) (by decide) (fun h => absurd h (by decide)) (fun h140_192 => ?_)
  refine qa_s (pc' := 196) at_140_195 rfl rfl rfl ?_
  refine qa_getR (nx := 199) at_140_196 rfl (by decide) rfl rfl (by decide) ?_
  refine qa_ic (nx := 200) (v := nI 3) at_140_199 (by decide) rfl ?_
  refine qa_s (pc' := 201) at_140_200 rfl rfl rfl ?_
  refine qa_mulN (nx := 202) at_140_201 rfl ?_
  refine qa_s (pc' := 204) at_140_202 rfl rfl rfl ?_
  refine qa_addN (nx := 205) at_140_204 rfl ?_
  refine qa_s (pc' := 206) at_140_205 rfl rfl rfl ?_
  refine qa_getR (nx := 209) at_140_206 rfl (by decide) rfl rfl (by decide) ?_
  refine qa_s (pc' := 210) at_140_209 rfl rfl rfl ?_
  refine qa_iald (nx := 211) (k := j) at_140_210 rfl rfl rfl (by decide) rfl (show j < 5 by omega) ?_
  refine qa_iast (nx := 212) (k := (3 * j) + y) at_140_211 rfl rfl rfl (by decide) rfl (show (3 * j) + y < 15 by omega) ?_
  refine qa_s (pc' := 213) at_140_212 rfl rfl rfl ?_
  refine qa_getR (nx := 216) at_140_213 rfl (by decide) rfl rfl (by decide) ?_
  refine qa_ic (nx := 217) (v := nI 3) at_140_216 (by decide) rfl ?_
  refine qa_s (pc' := 218) at_140_217 rfl rfl rfl ?_
  refine qa_mulN (nx := 219) at_140_218 rfl ?_
  refine qa_s (pc' := 221) at_140_219 rfl rfl rfl ?_
  refine qa_addN (nx := 222) at_140_221 rfl ?_
  refine qa_s (pc' := 223) at_140_222 rfl rfl rfl ?_
  refine qa_getR (nx := 226) at_140_223 rfl (by decide) rfl rfl (by decide) ?_
  refine qa_s (pc' := 227) at_140_226 rfl rfl rfl ?_
  refine qa_iald (nx := 228) (k := j) at_140_227 rfl rfl rfl (by decide) rfl (show j < 5 by omega) ?_
  refine qa_iast (nx := 229) (k := (3 * j) + y) at_140_228 rfl rfl rfl (by decide) rfl (show (3 * j) + y < 15 by omega) ?_
  refine qa_s (pc' := 230) at_140_229 rfl rfl rfl ?_
  refine qa_getR (nx := 233) at_140_230 rfl (by decide) rfl rfl (by decide) ?_
  refine qa_s (pc' := 234) at_140_233 rfl rfl rfl ?_
  refine qa_s (pc' := 236) at_140_234 rfl rfl rfl ?_
  refine qa_iast (nx := 237) (k := j) at_140_236 rfl rfl rfl (by decide) rfl (show j < 5 by omega) ?_
  refine qa_s (pc' := 238) at_140_237 rfl rfl rfl ?_
  refine qa_getR (nx := 241) at_140_238 rfl (by decide) rfl rfl (by decide) ?_
  refine qa_s (pc' := 242) at_140_241 rfl rfl rfl ?_
  refine qa_ic (nx := 243) (v := nI 0) at_140_242 (by decide) rfl ?_
  refine qa_iast (nx := 244) (k := j) at_140_243 rfl rfl rfl (by decide) rfl (show j < 5 by omega) ?_
  refine qa_ret at_140_244 rfl ?_
  exact k
theorem o13_q {j p x y c : Nat} (hj : j < 5) (hx : x ≤ 3) (hy : y ≤ 1) (hc : c ≤ 3) (h77 : σ 77 0 y = nI c) (k : Q none (opM σ j p 13 x (nI y))) : qa cst 139 0 [(0, .ref (cl 40 0)), (1, .int (nI j)), (2, .int (nI 13)), (3, .int (nI (4 * j + x))), (4, .int (nI y))] [] σ Q := by
  have ny : nN (nI y) = y := nN_n (by omega)
  have nc : nN (nI c) = c := nN_n (by omega)
  simp only [opM, ny, h77, nc] at k
  refine qa_s (pc' := 1) at_139_0 rfl rfl rfl ?_
  refine qa_bi (nx := 3) (v := nI 13) at_139_1 (by decide) rfl ?_
  refine qn_icmp_ne (tg := 25) (nx := 6) at_139_3 rfl rfl (by decide) (by decide) (fun h => absurd h (by decide)) (fun h139_3 => ?_)
  refine qa_s (pc' := 7) at_139_6 rfl rfl rfl ?_
  refine qa_getR (nx := 10) at_139_7 rfl (by decide) rfl rfl (by decide) ?_
  refine qa_s (pc' := 12) at_139_10 rfl rfl rfl ?_
  refine qa_ialdV (nx := 13) (k := y) (v := nI c) at_139_12 rfl rfl rfl (by decide) rfl (show y < 2 by omega) (show _ from h77) ?_
  refine qa_ic (nx := 14) (v := nI 3) at_139_13 (by decide) rfl ?_
  refine qn_icmp_ge (tg := 21) (nx := 17) at_139_14 rfl rfl (by omega) (by omega) (fun h139_14 => ?_) (fun h139_14 => ?_)
  · rw [if_neg (fun g => by rw [nI_ltI (by omega) (by omega)] at g; omega)] at k
    refine qa_ic (nx := 22) (v := nI 0) at_139_21 (by decide) rfl ?_
    refine qa_goto (nx := 40) at_139_22 rfl ?_
    refine qa_s (pc' := 42) at_139_40 rfl rfl rfl ?_
    refine qa_s (pc' := 44) at_139_42 rfl rfl rfl ?_
    refine qn_if_eq (tg := 87) (nx := 47) at_139_44 rfl rfl (by decide) (fun h139_44 => ?_) (fun h => absurd h (by decide))
    refine qa_s (pc' := 89) at_139_87 rfl rfl rfl ?_
    refine qn_if_eq (tg := 166) (nx := 92) at_139_89 rfl rfl (by decide) (fun h139_89 => ?_) (fun h => absurd h (by decide))
    refine qa_s (pc' := 167) at_139_166 rfl rfl rfl ?_
    refine qa_getR (nx := 170) at_139_167 rfl (by decide) rfl rfl (by decide) ?_
    refine qa_ic (nx := 171) (v := nI 4) at_139_170 (by decide) rfl ?_
    refine qa_s (pc' := 172) at_139_171 rfl rfl rfl ?_
    refine qa_mulN (nx := 173) at_139_172 rfl ?_
    refine qa_s (pc' := 175) at_139_173 rfl rfl rfl ?_
    refine qn_if_eq (tg := 182) (nx := 178) at_139_175 rfl rfl (by decide) (fun h139_175 => ?_) (fun h => absurd h (by decide))
    refine qa_ic (nx := 183) (v := nI 0) at_139_182 (by decide) rfl ?_
    refine qa_iast (nx := 184) (k := 4 * j) at_139_183 rfl rfl rfl (by decide) rfl (show 4 * j < 20 by omega) ?_
    refine qa_ret at_139_184 rfl ?_
    exact k
  · rw [if_pos ((nI_ltI (by omega) (by omega)).mpr h139_14)] at k
    refine qa_ic (nx := 18) (v := nI 1) at_139_17 (by decide) rfl ?_
    refine qa_goto (nx := 40) at_139_18 rfl ?_
    refine qa_s (pc' := 42) at_139_40 rfl rfl rfl ?_
    refine qa_s (pc' := 44) at_139_42 rfl rfl rfl ?_
    refine qn_if_eq (tg := 87) (nx := 47) at_139_44 rfl rfl (by decide) (fun h => absurd h (by decide)) (fun h139_44 => ?_)
    refine qa_s (pc' := 48) at_139_47 rfl rfl rfl ?_
    refine qa_bi (nx := 50) (v := nI 13) at_139_48 (by decide) rfl ?_
    refine qn_icmp_ne (tg := 87) (nx := 53) at_139_50 rfl rfl (by decide) (by decide) (fun h => absurd h (by decide)) (fun h139_50 => ?_)
    refine qa_s (pc' := 54) at_139_53 rfl rfl rfl ?_
    refine qa_getR (nx := 57) at_139_54 rfl (by decide) rfl rfl (by decide) ?_
    refine qa_ic (nx := 58) (v := nI 3) at_139_57 (by decide) rfl ?_
    refine qa_s (pc' := 60) at_139_58 rfl rfl rfl ?_
    refine qa_mulN (nx := 61) at_139_60 rfl ?_
    refine qa_s (pc' := 62) at_139_61 rfl rfl rfl ?_
    refine qa_getR (nx := 65) at_139_62 rfl (by decide) rfl rfl (by decide) ?_
    refine qa_s (pc' := 67) at_139_65 rfl rfl rfl ?_
    refine qa_ialdV (nx := 68) (k := y) (v := nI c) at_139_67 rfl rfl rfl (by decide) rfl (show y < 2 by omega) (show _ from h77) ?_
    refine qa_addN (nx := 69) at_139_68 rfl ?_
    refine qa_s (pc' := 70) at_139_69 rfl rfl rfl ?_
    refine qa_getR (nx := 73) at_139_70 rfl (by decide) rfl rfl (by decide) ?_
    refine qa_s (pc' := 74) at_139_73 rfl rfl rfl ?_
    refine qa_iald (nx := 75) (k := 4 * j + x) at_139_74 rfl rfl rfl (by decide) rfl (show 4 * j + x < 20 by omega) ?_
    refine qa_iast (nx := 76) (k := (3 * y) + c) at_139_75 rfl rfl rfl (by decide) rfl (show (3 * y) + c < 6 by omega) ?_
    refine qa_s (pc' := 77) at_139_76 rfl rfl rfl ?_
    refine qa_getR (nx := 80) at_139_77 rfl (by decide) rfl rfl (by decide) ?_
    refine qa_s (pc' := 82) at_139_80 rfl rfl rfl ?_
    refine qa_s (pc' := 83) at_139_82 rfl rfl rfl ?_
    refine qa_ialdV (nx := 84) (k := y) (v := nI c) at_139_83 rfl rfl rfl (by decide) rfl (show y < 2 by omega) (show _ from h77) ?_
    refine qa_ic (nx := 85) (v := nI 1) at_139_84 (by decide) rfl ?_
    refine qa_s (pc' := 86) at_139_85 rfl rfl rfl ?_
    refine qa_iast (nx := 87) (k := y) at_139_86 rfl rfl rfl (by decide) rfl (show y < 2 by omega) ?_
    refine qa_s (pc' := 89) at_139_87 rfl rfl rfl ?_
    refine qn_if_eq (tg := 166) (nx := 92) at_139_89 rfl rfl (by decide) (fun h => absurd h (by decide)) (fun h139_89 => ?_)
    refine qa_s (pc' := 93) at_139_92 rfl rfl rfl ?_
    refine qa_bi (nx := 95) (v := nI 14) at_139_93 (by decide) rfl ?_
    refine qn_icmp_ne (tg := 166) (nx := 98) at_139_95 rfl rfl (by decide) (by decide) (fun h139_95 => ?_) (fun h => absurd h (by decide))
    refine qa_s (pc' := 167) at_139_166 rfl rfl rfl ?_
    refine qa_getR (nx := 170) at_139_167 rfl (by decide) rfl rfl (by decide) ?_
    refine qa_ic (nx := 171) (v := nI 4) at_139_170 (by decide) rfl ?_
    refine qa_s (pc' := 172) at_139_171 rfl rfl rfl ?_
    refine qa_mulN (nx := 173) at_139_172 rfl ?_
    refine qa_s (pc' := 175) at_139_173 rfl rfl rfl ?_
    refine qn_if_eq (tg := 182) (nx := 178) at_139_175 rfl rfl (by decide) (fun h => absurd h (by decide)) (fun h139_175 => ?_)
    refine qa_ic (nx := 179) (v := nI 1) at_139_178 (by decide) rfl ?_
    refine qa_goto (nx := 183) at_139_179 rfl ?_
    refine qa_iast (nx := 184) (k := 4 * j) at_139_183 rfl rfl rfl (by decide) rfl (show 4 * j < 20 by omega) ?_
    refine qa_ret at_139_184 rfl ?_
    exact k
theorem o14_q {j p x y c : Nat} (hj : j < 5) (hx : x ≤ 3) (hy : y ≤ 1) (hc : c ≤ 3) (h77 : σ 77 0 y = nI c) (k : Q none (opM σ j p 14 x (nI y))) : qa cst 139 0 [(0, .ref (cl 40 0)), (1, .int (nI j)), (2, .int (nI 14)), (3, .int (nI (4 * j + x))), (4, .int (nI y))] [] σ Q := by
  have ny : nN (nI y) = y := nN_n (by omega)
  have nc : nN (nI c) = c := nN_n (by omega)
  simp only [opM, ny, h77, nc] at k
  refine qa_s (pc' := 1) at_139_0 rfl rfl rfl ?_
  refine qa_bi (nx := 3) (v := nI 13) at_139_1 (by decide) rfl ?_
  refine qn_icmp_ne (tg := 25) (nx := 6) at_139_3 rfl rfl (by decide) (by decide) (fun h139_3 => ?_) (fun h => absurd h (by decide))
  refine qa_s (pc' := 26) at_139_25 rfl rfl rfl ?_
  refine qa_getR (nx := 29) at_139_26 rfl (by decide) rfl rfl (by decide) ?_
  refine qa_s (pc' := 31) at_139_29 rfl rfl rfl ?_
  refine qa_ialdV (nx := 32) (k := y) (v := nI c) at_139_31 rfl rfl rfl (by decide) rfl (show y < 2 by omega) (show _ from h77) ?_
  refine qn_if_le (tg := 39) (nx := 35) at_139_32 rfl rfl (by omega) (fun h139_32 => ?_) (fun h139_32 => ?_)
  · rw [if_neg (fun g => by rw [nI_0lt (by omega)] at g; omega)] at k
    refine qa_ic (nx := 40) (v := nI 0) at_139_39 (by decide) rfl ?_
    refine qa_s (pc' := 42) at_139_40 rfl rfl rfl ?_
    refine qa_s (pc' := 44) at_139_42 rfl rfl rfl ?_
    refine qn_if_eq (tg := 87) (nx := 47) at_139_44 rfl rfl (by decide) (fun h139_44 => ?_) (fun h => absurd h (by decide))
    refine qa_s (pc' := 89) at_139_87 rfl rfl rfl ?_
    refine qn_if_eq (tg := 166) (nx := 92) at_139_89 rfl rfl (by decide) (fun h139_89 => ?_) (fun h => absurd h (by decide))
    refine qa_s (pc' := 167) at_139_166 rfl rfl rfl ?_
    refine qa_getR (nx := 170) at_139_167 rfl (by decide) rfl rfl (by decide) ?_
    refine qa_ic (nx := 171) (v := nI 4) at_139_170 (by decide) rfl ?_
    refine qa_s (pc' := 172) at_139_171 rfl rfl rfl ?_
    refine qa_mulN (nx := 173) at_139_172 rfl ?_
    refine qa_s (pc' := 175) at_139_173 rfl rfl rfl ?_
    refine qn_if_eq (tg := 182) (nx := 178) at_139_175 rfl rfl (by decide) (fun h139_175 => ?_) (fun h => absurd h (by decide))
    refine qa_ic (nx := 183) (v := nI 0) at_139_182 (by decide) rfl ?_
    refine qa_iast (nx := 184) (k := 4 * j) at_139_183 rfl rfl rfl (by decide) rfl (show 4 * j < 20 by omega) ?_
    refine qa_ret at_139_184 rfl ?_
    exact k
  · rw [if_pos ((nI_0lt (by omega)).mpr h139_32)] at k
    refine qa_ic (nx := 36) (v := nI 1) at_139_35 (by decide) rfl ?_
    refine qa_goto (nx := 40) at_139_36 rfl ?_
    refine qa_s (pc' := 42) at_139_40 rfl rfl rfl ?_
    refine qa_s (pc' := 44) at_139_42 rfl rfl rfl ?_
    refine qn_if_eq (tg := 87) (nx := 47) at_139_44 rfl rfl (by decide) (fun h => absurd h (by decide)) (fun h139_44 => ?_)
    refine qa_s (pc' := 48) at_139_47 rfl rfl rfl ?_
    refine qa_bi (nx := 50) (v := nI 13) at_139_48 (by decide) rfl ?_
    refine qn_icmp_ne (tg := 87) (nx := 53) at_139_50 rfl rfl (by decide) (by decide) (fun h139_50 => ?_) (fun h => absurd h (by decide))
    refine qa_s (pc' := 89) at_139_87 rfl rfl rfl ?_
    refine qn_if_eq (tg := 166) (nx := 92) at_139_89 rfl rfl (by decide) (fun h => absurd h (by decide)) (fun h139_89 => ?_)
    refine qa_s (pc' := 93) at_139_92 rfl rfl rfl ?_
    refine qa_bi (nx := 95) (v := nI 14) at_139_93 (by decide) rfl ?_
    refine qn_icmp_ne (tg := 166) (nx := 98) at_139_95 rfl rfl (by decide) (by decide) (fun h => absurd h (by decide)) (fun h139_95 => ?_)
    refine qa_s (pc' := 99) at_139_98 rfl rfl rfl ?_
    refine qa_getR (nx := 102) at_139_99 rfl (by decide) rfl rfl (by decide) ?_
    refine qa_s (pc' := 103) at_139_102 rfl rfl rfl ?_
    refine qa_s (pc' := 104) at_139_103 rfl rfl rfl ?_
    refine qa_getR (nx := 107) at_139_104 rfl (by decide) rfl rfl (by decide) ?_
    refine qa_ic (nx := 108) (v := nI 3) at_139_107 (by decide) rfl ?_
    refine qa_s (pc' := 110) at_139_108 rfl rfl rfl ?_
    refine qa_mulN (nx := 111) at_139_110 rfl ?_
    refine qa_iald (nx := 112) (k := 3 * y) at_139_111 rfl rfl rfl (by decide) rfl (show 3 * y < 6 by omega) ?_
    refine qa_iast (nx := 113) (k := 4 * j + x) at_139_112 rfl rfl rfl (by decide) rfl (show 4 * j + x < 20 by omega) ?_
    refine qa_s (pc' := 114) at_139_113 rfl rfl rfl ?_
    refine qa_getR (nx := 117) at_139_114 rfl (by decide) rfl rfl (by decide) ?_
    refine qa_ic (nx := 118) (v := nI 3) at_139_117 (by decide) rfl ?_
    refine qa_s (pc' := 120) at_139_118 rfl rfl rfl ?_
    refine qa_mulN (nx := 121) at_139_120 rfl ?_
    refine qa_s (pc' := 122) at_139_121 rfl rfl rfl ?_
    refine qa_getR (nx := 125) at_139_122 rfl (by decide) rfl rfl (by decide) ?_
    refine qa_ic (nx := 126) (v := nI 3) at_139_125 (by decide) rfl ?_
    refine qa_s (pc' := 128) at_139_126 rfl rfl rfl ?_
    refine qa_mulN (nx := 129) at_139_128 rfl ?_
    refine qa_ic (nx := 130) (v := nI 1) at_139_129 (by decide) rfl ?_
    refine qa_addN (nx := 131) at_139_130 rfl ?_
    refine qa_iald (nx := 132) (k := (3 * y) + 1) at_139_131 rfl rfl rfl (by decide) rfl (show (3 * y) + 1 < 6 by omega) ?_
    refine qa_iast (nx := 133) (k := 3 * y) at_139_132 rfl rfl rfl (by decide) rfl (show 3 * y < 6 by omega) ?_
    refine qa_s (pc' := 134) at_139_133 rfl rfl rfl ?_
    refine qa_getR (nx := 137) at_139_134 rfl (by decide) rfl rfl (by decide) ?_
    refine qa_ic (nx := 138) (v := nI 3) at_139_137 (by decide) rfl ?_
    refine qa_s (pc' := 140) at_139_138 rfl rfl rfl ?_
    refine qa_mulN (nx := 141) at_139_140 rfl ?_
    refine qa_ic (nx := 142) (v := nI 1) at_139_141 (by decide) rfl ?_
    refine qa_addN (nx := 143) at_139_142 rfl ?_
    refine qa_s (pc' := 144) at_139_143 rfl rfl rfl ?_
    refine qa_getR (nx := 147) at_139_144 rfl (by decide) rfl rfl (by decide) ?_
    refine qa_ic (nx := 148) (v := nI 3) at_139_147 (by decide) rfl ?_
    refine qa_s (pc' := 150) at_139_148 rfl rfl rfl ?_
    refine qa_mulN (nx := 151) at_139_150 rfl ?_
    refine qa_ic (nx := 152) (v := nI 2) at_139_151 (by decide) rfl ?_
    refine qa_addN (nx := 153) at_139_152 rfl ?_
    refine qa_ialdV (nx := 154) (k := (3 * y) + 2) (v := σ 76 0 (3 * y + 2)) at_139_153 rfl rfl rfl (by decide) rfl (show (3 * y) + 2 < 6 by omega) (show _ from by simp [up]) ?_
    refine qa_iast (nx := 155) (k := (3 * y) + 1) at_139_154 rfl rfl rfl (by decide) rfl (show (3 * y) + 1 < 6 by omega) ?_
    refine qa_s (pc' := 156) at_139_155 rfl rfl rfl ?_
    refine qa_getR (nx := 159) at_139_156 rfl (by decide) rfl rfl (by decide) ?_
    refine qa_s (pc' := 161) at_139_159 rfl rfl rfl ?_
    refine qa_s (pc' := 162) at_139_161 rfl rfl rfl ?_
    refine qa_ialdV (nx := 163) (k := y) (v := nI c) at_139_162 rfl rfl rfl (by decide) rfl (show y < 2 by omega) (show _ from h77) ?_
    refine qa_ic (nx := 164) (v := nI 1) at_139_163 (by decide) rfl ?_
    refine qa_s (pc' := 165) at_139_164 rfl rfl rfl ?_
    refine qa_iast (nx := 166) (k := y) at_139_165 rfl rfl rfl (by decide) rfl (show y < 2 by omega) ?_
    refine qa_s (pc' := 167) at_139_166 rfl rfl rfl ?_
    refine qa_getR (nx := 170) at_139_167 rfl (by decide) rfl rfl (by decide) ?_
    refine qa_ic (nx := 171) (v := nI 4) at_139_170 (by decide) rfl ?_
    refine qa_s (pc' := 172) at_139_171 rfl rfl rfl ?_
    refine qa_mulN (nx := 173) at_139_172 rfl ?_
    refine qa_s (pc' := 175) at_139_173 rfl rfl rfl ?_
    refine qn_if_eq (tg := 182) (nx := 178) at_139_175 rfl rfl (by decide) (fun h => absurd h (by decide)) (fun h139_175 => ?_)
    refine qa_ic (nx := 179) (v := nI 1) at_139_178 (by decide) rfl ?_
    refine qa_goto (nx := 183) at_139_179 rfl ?_
    refine qa_iast (nx := 184) (k := 4 * j) at_139_183 rfl rfl rfl (by decide) rfl (show 4 * j < 20 by omega) ?_
    refine qa_ret at_139_184 rfl ?_
    exact k
end PQ
