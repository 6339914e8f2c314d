/-! run: the reference, as functions over its cells: the cycle -/
section PQ
variable {cst : List (List Int32)} {σ : sg} {Q : Option Value → sg → Prop} {T : Nat}
def chR (σ : sg) (j : Nat) : Nat → Prop
  | 0 => ∃ r : Nat, r < 3 ∧ σ 65 0 j = nI r
  | n + 1 => ∃ r : Nat, r < 3 ∧ σ 65 0 j = nI r ∧ (0 < r → σ 66 0 j = σ 48 0 (3 * j + r) → chR (up (up σ 65 0 j (σ 67 0 (3 * j + r))) 66 0 j (σ 68 0 (3 * j + r))) j n)
theorem c136_e {j : Nat} (hj : j < 5) (k : Q none (finM σ j)) : qa cst 136 217 [(0, .ref (cl 40 0)), (1, .int (nI j))] [] σ Q := by
  refine qa_s (pc' := 218) at_136_217 rfl rfl rfl ?_
  refine qa_getR (nx := 221) at_136_218 rfl (by decide) rfl rfl (by decide) ?_
  refine qa_s (pc' := 222) at_136_221 rfl rfl rfl ?_
  refine qa_iald (nx := 223) (k := j) at_136_222 rfl rfl rfl (by decide) rfl (show j < 5 by omega) ?_
  refine qa_if_ne (tg := 249) (nx := 226) at_136_223 rfl rfl (fun h136_223 => ?_) (fun h136_223 => ?_)
  · rw [finM, if_neg (fun g => h136_223 g.1)] at k
    refine qa_ret at_136_249 rfl ?_
    exact k
  · refine qa_s (pc' := 227) at_136_226 rfl rfl rfl ?_
    refine qa_getR (nx := 230) at_136_227 rfl (by decide) rfl rfl (by decide) ?_
    refine qa_s (pc' := 231) at_136_230 rfl rfl rfl ?_
    refine qa_iald (nx := 232) (k := j) at_136_231 rfl rfl rfl (by decide) rfl (show j < 5 by omega) ?_
    refine qa_s (pc' := 233) at_136_232 rfl rfl rfl ?_
    refine qa_getR (nx := 236) at_136_233 rfl (by decide) rfl rfl (by decide) ?_
    refine qa_ic (nx := 237) (v := nI 3) at_136_236 (by decide) rfl ?_
    refine qa_s (pc' := 238) at_136_237 rfl rfl rfl ?_
    refine qa_mulN (nx := 239) at_136_238 rfl ?_
    refine qa_iald (nx := 240) (k := 3 * j) at_136_239 rfl rfl rfl (by decide) rfl (show 3 * j < 15 by omega) ?_
    refine qa_icmp_ne (tg := 249) (nx := 243) at_136_240 rfl rfl (fun h136_240 => ?_) (fun h136_240 => ?_)
    · rw [finM, if_neg (fun g => h136_240 g.2)] at k
      refine qa_ret at_136_249 rfl ?_
      exact k
    · rw [finM, if_pos ⟨h136_223, h136_240⟩] at k
      refine qa_s (pc' := 244) at_136_243 rfl rfl rfl ?_
      refine qa_s (pc' := 245) at_136_244 rfl rfl rfl ?_
      refine qa_ic (nx := 246) (v := nI 2) at_136_245 (by decide) rfl ?_
      refine qa_callV (nx := 249) at_136_246 rfl rfl (Nat.le_of_ble_eq_true rfl) rfl rfl rfl (by decide) rfl (by decide) ?_
      show qa _ 137 0 [(0, .ref _), (1, .int _), (2, .int _)] [] _ _
      refine c137_q hj ?_
      show qa _ 136 249 _ [] _ _
      refine qa_ret at_136_249 rfl ?_
      exact k
theorem c136_r {j : Nat} (hj : j < 5) : ∀ n s (σ : sg), s + n = 3 → chR σ j n → Q none (finM (retM σ j n) j) → qa cst 136 134 [(0, .ref (cl 40 0)), (1, .int (nI j)), (6, .int (nI s))] [] σ Q := by
  intro n
  induction n with
  | zero =>
    intro s σ hs hc k
    refine qa_s (pc' := 136) at_136_134 rfl rfl rfl ?_
    refine qa_ic (nx := 137) (v := nI 3) at_136_136 (by decide) rfl ?_
    refine qn_icmp_ge (tg := 217) (nx := 140) at_136_137 rfl rfl (by omega) (by omega) (fun h136_137 => ?_) (fun h136_137 => ?_)
    · exact qa_drop (l1 := [(0, .ref (cl 40 0)), (1, .int (nI j))]) (by intro q hq; simp only [List.mem_cons, List.not_mem_nil, or_false] at hq ⊢; rcases hq with rfl | rfl <;> simp) (by simp [mj_nd]) (c136_e hj k)
    · omega
  | succ n ih =>
    intro s σ hs hc k
    obtain ⟨r, hr, h65, hc⟩ := hc
    have nr : nN (nI r) = r := nN_n (by omega)
    simp only [retM, h65, nr] at k
    refine qa_s (pc' := 136) at_136_134 rfl rfl rfl ?_
    refine qa_ic (nx := 137) (v := nI 3) at_136_136 (by decide) rfl ?_
    refine qn_icmp_ge (tg := 217) (nx := 140) at_136_137 rfl rfl (by omega) (by omega) (fun h136_137 => ?_) (fun h136_137 => ?_)
    · omega
    · refine qa_s (pc' := 141) at_136_140 rfl rfl rfl ?_
      refine qa_getR (nx := 144) at_136_141 rfl (by decide) rfl rfl (by decide) ?_
      refine qa_s (pc' := 145) at_136_144 rfl rfl rfl ?_
      refine qa_ialdV (nx := 146) (k := j) (v := nI r) at_136_145 rfl rfl rfl (by decide) rfl (show j < 5 by omega) (show _ from h65) ?_
      refine qn_if_le (tg := 217) (nx := 149) at_136_146 rfl rfl (by omega) (fun h136_146 => ?_) (fun h136_146 => ?_)
      · rw [if_neg (fun g => by have := (nI_0lt (by omega)).mp g.1; omega)] at k
        exact qa_drop (l1 := [(0, .ref (cl 40 0)), (1, .int (nI j))]) (by intro q hq; simp only [List.mem_cons, List.not_mem_nil, or_false] at hq ⊢; rcases hq with rfl | rfl <;> simp) (by simp [mj_nd]) (c136_e hj k)
      · refine qa_s (pc' := 150) at_136_149 rfl rfl rfl ?_
        refine qa_getR (nx := 153) at_136_150 rfl (by decide) rfl rfl (by decide) ?_
        refine qa_s (pc' := 154) at_136_153 rfl rfl rfl ?_
        refine qa_iald (nx := 155) (k := j) at_136_154 rfl rfl rfl (by decide) rfl (show j < 5 by omega) ?_
        refine qa_s (pc' := 156) at_136_155 rfl rfl rfl ?_
        refine qa_getR (nx := 159) at_136_156 rfl (by decide) rfl rfl (by decide) ?_
        refine qa_ic (nx := 160) (v := nI 3) at_136_159 (by decide) rfl ?_
        refine qa_s (pc' := 161) at_136_160 rfl rfl rfl ?_
        refine qa_mulN (nx := 162) at_136_161 rfl ?_
        refine qa_s (pc' := 163) at_136_162 rfl rfl rfl ?_
        refine qa_getR (nx := 166) at_136_163 rfl (by decide) rfl rfl (by decide) ?_
        refine qa_s (pc' := 167) at_136_166 rfl rfl rfl ?_
        refine qa_ialdV (nx := 168) (k := j) (v := nI r) at_136_167 rfl rfl rfl (by decide) rfl (show j < 5 by omega) (show _ from h65) ?_
        refine qa_addN (nx := 169) at_136_168 rfl ?_
        refine qa_iald (nx := 170) (k := (3 * j) + r) at_136_169 rfl rfl rfl (by decide) rfl (show (3 * j) + r < 15 by omega) ?_
        refine qa_icmp_ne (tg := 217) (nx := 173) at_136_170 rfl rfl (fun h136_170 => ?_) (fun h136_170 => ?_)
        · rw [if_neg (fun g => h136_170 g.2)] at k
          exact qa_drop (l1 := [(0, .ref (cl 40 0)), (1, .int (nI j))]) (by intro q hq; simp only [List.mem_cons, List.not_mem_nil, or_false] at hq ⊢; rcases hq with rfl | rfl <;> simp) (by simp [mj_nd]) (c136_e hj k)
        · rw [if_pos ⟨(nI_0lt (by omega)).mpr h136_146, h136_170⟩] at k
          refine qa_ic (nx := 174) (v := nI 3) at_136_173 (by decide) rfl ?_
          refine qa_s (pc' := 175) at_136_174 rfl rfl rfl ?_
          refine qa_mulN (nx := 176) at_136_175 rfl ?_
          refine qa_s (pc' := 177) at_136_176 rfl rfl rfl ?_
          refine qa_getR (nx := 180) at_136_177 rfl (by decide) rfl rfl (by decide) ?_
          refine qa_s (pc' := 181) at_136_180 rfl rfl rfl ?_
          refine qa_ialdV (nx := 182) (k := j) (v := nI r) at_136_181 rfl rfl rfl (by decide) rfl (show j < 5 by omega) (show _ from h65) ?_
          refine qa_addN (nx := 183) at_136_182 rfl ?_
          refine qa_s (pc' := 185) at_136_183 rfl rfl rfl ?_
          refine qa_s (pc' := 186) at_136_185 rfl rfl rfl ?_
          refine qa_getR (nx := 189) at_136_186 rfl (by decide) rfl rfl (by decide) ?_
          refine qa_s (pc' := 190) at_136_189 rfl rfl rfl ?_
          refine qa_s (pc' := 191) at_136_190 rfl rfl rfl ?_
          refine qa_getR (nx := 194) at_136_191 rfl (by decide) rfl rfl (by decide) ?_
          refine qa_s (pc' := 196) at_136_194 rfl rfl rfl ?_
          refine qa_iald (nx := 197) (k := (3 * j) + r) at_136_196 rfl rfl rfl (by decide) rfl (show (3 * j) + r < 15 by omega) ?_
          refine qa_iast (nx := 198) (k := j) at_136_197 rfl rfl rfl (by decide) rfl (show j < 5 by omega) ?_
          refine qa_s (pc' := 199) at_136_198 rfl rfl rfl ?_
          refine qa_getR (nx := 202) at_136_199 rfl (by decide) rfl rfl (by decide) ?_
          refine qa_s (pc' := 203) at_136_202 rfl rfl rfl ?_
          refine qa_s (pc' := 204) at_136_203 rfl rfl rfl ?_
          refine qa_getR (nx := 207) at_136_204 rfl (by decide) rfl rfl (by decide) ?_
          refine qa_s (pc' := 209) at_136_207 rfl rfl rfl ?_
          refine qa_iald (nx := 210) (k := (3 * j) + r) at_136_209 rfl rfl rfl (by decide) rfl (show (3 * j) + r < 15 by omega) ?_
          refine qa_iast (nx := 211) (k := j) at_136_210 rfl rfl rfl (by decide) rfl (show j < 5 by omega) ?_
          refine qa_incN (nx := 214) (c := 1) at_136_211 (by decide) rfl rfl rfl ?_
          refine qa_goto (nx := 134) at_136_214 rfl ?_
          show qa _ _ _ [(0, .ref (cl 40 0)), (1, .int (nI j)), (6, .int (nI (s + 1))), (7, .int _)] [] _ _
          exact qa_drop (l1 := [(0, .ref (cl 40 0)), (1, .int (nI j)), (6, .int (nI (s + 1)))]) (by intro q hq; simp only [List.mem_cons, List.not_mem_nil, or_false] at hq ⊢; rcases hq with rfl | rfl | rfl <;> simp) (by simp [mj_nd]) (ih (s + 1) _ (by omega) (hc h136_146 h136_170) k)
theorem pf0_q {j p x : Nat} {y : Int32} (hj : j < 5) (hp : p < 180) (hx : x ≤ 3) (h44 : σ 44 0 p = nI 0) (h45 : σ 45 0 p = nI x) (h46 : σ 46 0 p = y) (hch : chR (opM (stpM σ j) j p 0 x y) j 3) (k : Q none (pfM σ j p)) : qa cst 136 0 [(0, .ref (cl 40 0)), (1, .int (nI j)), (2, .int (nI p))] [] σ Q := by
  simp only [pfM, h44, h45, h46, nN_n (show 0 < 2 ^ 31 by decide), nN_n (show x < 2 ^ 31 by omega)] at k
  rw [if_neg (fun g => absurd g.1 (by decide))] at k
  refine qa_s (pc' := 1) at_136_0 rfl rfl rfl ?_
  refine qa_getR (nx := 4) at_136_1 rfl (by decide) rfl rfl (by decide) ?_
  refine qa_s (pc' := 5) at_136_4 rfl rfl rfl ?_
  refine qa_ialdV (nx := 6) (k := p) (v := nI 0) at_136_5 rfl rfl rfl (by decide) rfl (show p < 180 by omega) (show _ from h44) ?_
  refine qa_s (pc' := 7) at_136_6 rfl rfl rfl ?_
  refine qa_s (pc' := 8) at_136_7 rfl rfl rfl ?_
  refine qa_getR (nx := 11) at_136_8 rfl (by decide) rfl rfl (by decide) ?_
  refine qa_s (pc' := 12) at_136_11 rfl rfl rfl ?_
  refine qa_ialdV (nx := 13) (k := p) (v := y) at_136_12 rfl rfl rfl (by decide) rfl (show p < 180 by omega) (show _ from h46) ?_
  refine qa_s (pc' := 15) at_136_13 rfl rfl rfl ?_
  refine qa_ic (nx := 16) (v := nI 4) at_136_15 (by decide) rfl ?_
  refine qa_s (pc' := 17) at_136_16 rfl rfl rfl ?_
  refine qa_mulN (nx := 18) at_136_17 rfl ?_
  refine qa_s (pc' := 19) at_136_18 rfl rfl rfl ?_
  refine qa_getR (nx := 22) at_136_19 rfl (by decide) rfl rfl (by decide) ?_
  refine qa_s (pc' := 23) at_136_22 rfl rfl rfl ?_
  refine qa_ialdV (nx := 24) (k := p) (v := nI x) at_136_23 rfl rfl rfl (by decide) rfl (show p < 180 by omega) (show _ from h45) ?_
  refine qa_addN (nx := 25) at_136_24 rfl ?_
  refine qa_s (pc' := 27) at_136_25 rfl rfl rfl ?_
  refine qa_s (pc' := 28) at_136_27 rfl rfl rfl ?_
  refine qa_getR (nx := 31) at_136_28 rfl (by decide) rfl rfl (by decide) ?_
  refine qa_s (pc' := 32) at_136_31 rfl rfl rfl ?_
  refine qa_s (pc' := 33) at_136_32 rfl rfl rfl ?_
  refine qa_iald (nx := 34) (k := j) at_136_33 rfl rfl rfl (by decide) rfl (show j < 5 by omega) ?_
  refine qa_ic (nx := 35) (v := nI 1) at_136_34 (by decide) rfl ?_
  refine qa_s (pc' := 36) at_136_35 rfl rfl rfl ?_
  refine qa_iast (nx := 37) (k := j) at_136_36 rfl rfl rfl (by decide) rfl (show j < 5 by omega) ?_
  refine qa_s (pc' := 38) at_136_37 rfl rfl rfl ?_
  refine qa_getR (nx := 41) at_136_38 rfl (by decide) rfl rfl (by decide) ?_
  refine qa_s (pc' := 42) at_136_41 rfl rfl rfl ?_
  refine qa_s (pc' := 43) at_136_42 rfl rfl rfl ?_
  refine qa_iald (nx := 44) (k := j) at_136_43 rfl rfl rfl (by decide) rfl (show j < 5 by omega) ?_
  refine qa_ic (nx := 45) (v := nI 1) at_136_44 (by decide) rfl ?_
  refine qa_s (pc' := 46) at_136_45 rfl rfl rfl ?_
  refine qa_iast (nx := 47) (k := j) at_136_46 rfl rfl rfl (by decide) rfl (show j < 5 by omega) ?_
  refine qa_s (pc' := 48) at_136_47 rfl rfl rfl ?_
  refine qa_ic (nx := 49) (v := nI 2) at_136_48 (by decide) rfl ?_
  refine qn_icmp_ne (tg := 73) (nx := 52) at_136_49 rfl rfl (by decide) (by decide) (fun h136_49 => ?_) (fun h => absurd h (by decide))
  refine qa_s (pc' := 74) at_136_73 rfl rfl rfl ?_
  refine qa_ic (nx := 75) (v := nI 4) at_136_74 (by decide) rfl ?_
  refine qn_icmp_le (tg := 90) (nx := 78) at_136_75 rfl rfl (by decide) (by decide) (fun h136_75 => ?_) (fun h => absurd h (by decide))
  refine qa_s (pc' := 91) at_136_90 rfl rfl rfl ?_
  refine qa_s (pc' := 92) at_136_91 rfl rfl rfl ?_
  refine qa_s (pc' := 93) at_136_92 rfl rfl rfl ?_
  refine qa_s (pc' := 95) at_136_93 rfl rfl rfl ?_
  refine qa_s (pc' := 97) at_136_95 rfl rfl rfl ?_
  refine qa_callV (nx := 100) at_136_97 rfl rfl (Nat.le_of_ble_eq_true rfl) rfl rfl rfl (by decide) rfl (by decide) ?_
  show qa _ 138 0 [(0, .ref _), (1, .int _), (2, .int _), (3, .int _), (4, .int _)] [] _ _
  refine o0_q (p := p) hj hp hx  ?_
  show qa _ 136 100 _ [] _ _
  refine qa_goto (nx := 131) at_136_100 rfl ?_
  refine qa_ic (nx := 132) (v := nI 0) at_136_131 (by decide) rfl ?_
  refine qa_s (pc' := 134) at_136_132 rfl rfl rfl ?_
  show qa _ _ _ [(0, .ref (cl 40 0)), (1, .int (nI j)), (2, .int (nI p)), (3, .int _), (4, .int _), (5, .int _), (6, .int (nI 0))] [] _ _
  refine qa_drop (l1 := [(0, .ref (cl 40 0)), (1, .int (nI j)), (6, .int (nI 0))]) (by intro q hq; simp only [List.mem_cons, List.not_mem_nil, or_false] at hq ⊢; rcases hq with rfl | rfl | rfl <;> simp) (by simp [mj_nd]) ?_
  exact c136_r hj 3 0 _ rfl (hch) k
theorem pf1_q {j p x : Nat} {y : Nat} (hj : j < 5) (hp : p < 180) (hx : x ≤ 3) (h44 : σ 44 0 p = nI 1) (h45 : σ 45 0 p = nI x) (h46 : σ 46 0 p = (nI y)) (hy : y ≤ 3) (hch : chR (opM (stpM σ j) j p 1 x (nI y)) j 3) (k : Q none (pfM σ j p)) : qa cst 136 0 [(0, .ref (cl 40 0)), (1, .int (nI j)), (2, .int (nI p))] [] σ Q := by
  simp only [pfM, h44, h45, h46, nN_n (show 1 < 2 ^ 31 by decide), nN_n (show x < 2 ^ 31 by omega), nN_n (show y < 2 ^ 31 by omega)] at k
  rw [if_neg (fun g => absurd g.1 (by decide))] at k
  refine qa_s (pc' := 1) at_136_0 rfl rfl rfl ?_
  refine qa_getR (nx := 4) at_136_1 rfl (by decide) rfl rfl (by decide) ?_
  refine qa_s (pc' := 5) at_136_4 rfl rfl rfl ?_
  refine qa_ialdV (nx := 6) (k := p) (v := nI 1) at_136_5 rfl rfl rfl (by decide) rfl (show p < 180 by omega) (show _ from h44) ?_
  refine qa_s (pc' := 7) at_136_6 rfl rfl rfl ?_
  refine qa_s (pc' := 8) at_136_7 rfl rfl rfl ?_
  refine qa_getR (nx := 11) at_136_8 rfl (by decide) rfl rfl (by decide) ?_
  refine qa_s (pc' := 12) at_136_11 rfl rfl rfl ?_
  refine qa_ialdV (nx := 13) (k := p) (v := (nI y)) at_136_12 rfl rfl rfl (by decide) rfl (show p < 180 by omega) (show _ from h46) ?_
  refine qa_s (pc' := 15) at_136_13 rfl rfl rfl ?_
  refine qa_ic (nx := 16) (v := nI 4) at_136_15 (by decide) rfl ?_
  refine qa_s (pc' := 17) at_136_16 rfl rfl rfl ?_
  refine qa_mulN (nx := 18) at_136_17 rfl ?_
  refine qa_s (pc' := 19) at_136_18 rfl rfl rfl ?_
  refine qa_getR (nx := 22) at_136_19 rfl (by decide) rfl rfl (by decide) ?_
  refine qa_s (pc' := 23) at_136_22 rfl rfl rfl ?_
  refine qa_ialdV (nx := 24) (k := p) (v := nI x) at_136_23 rfl rfl rfl (by decide) rfl (show p < 180 by omega) (show _ from h45) ?_
  refine qa_addN (nx := 25) at_136_24 rfl ?_
  refine qa_s (pc' := 27) at_136_25 rfl rfl rfl ?_
  refine qa_s (pc' := 28) at_136_27 rfl rfl rfl ?_
  refine qa_getR (nx := 31) at_136_28 rfl (by decide) rfl rfl (by decide) ?_
  refine qa_s (pc' := 32) at_136_31 rfl rfl rfl ?_
  refine qa_s (pc' := 33) at_136_32 rfl rfl rfl ?_
  refine qa_iald (nx := 34) (k := j) at_136_33 rfl rfl rfl (by decide) rfl (show j < 5 by omega) ?_
  refine qa_ic (nx := 35) (v := nI 1) at_136_34 (by decide) rfl ?_
  refine qa_s (pc' := 36) at_136_35 rfl rfl rfl ?_
  refine qa_iast (nx := 37) (k := j) at_136_36 rfl rfl rfl (by decide) rfl (show j < 5 by omega) ?_
  refine qa_s (pc' := 38) at_136_37 rfl rfl rfl ?_
  refine qa_getR (nx := 41) at_136_38 rfl (by decide) rfl rfl (by decide) ?_
  refine qa_s (pc' := 42) at_136_41 rfl rfl rfl ?_
  refine qa_s (pc' := 43) at_136_42 rfl rfl rfl ?_
  refine qa_iald (nx := 44) (k := j) at_136_43 rfl rfl rfl (by decide) rfl (show j < 5 by omega) ?_
  refine qa_ic (nx := 45) (v := nI 1) at_136_44 (by decide) rfl ?_
  refine qa_s (pc' := 46) at_136_45 rfl rfl rfl ?_
  refine qa_iast (nx := 47) (k := j) at_136_46 rfl rfl rfl (by decide) rfl (show j < 5 by omega) ?_
  refine qa_s (pc' := 48) at_136_47 rfl rfl rfl ?_
  refine qa_ic (nx := 49) (v := nI 2) at_136_48 (by decide) rfl ?_
  refine qn_icmp_ne (tg := 73) (nx := 52) at_136_49 rfl rfl (by decide) (by decide) (fun h136_49 => ?_) (fun h => absurd h (by decide))
  refine qa_s (pc' := 74) at_136_73 rfl rfl rfl ?_
  refine qa_ic (nx := 75) (v := nI 4) at_136_74 (by decide) rfl ?_
  refine qn_icmp_le (tg := 90) (nx := 78) at_136_75 rfl rfl (by decide) (by decide) (fun h136_75 => ?_) (fun h => absurd h (by decide))
  refine qa_s (pc' := 91) at_136_90 rfl rfl rfl ?_
  refine qa_s (pc' := 92) at_136_91 rfl rfl rfl ?_
  refine qa_s (pc' := 93) at_136_92 rfl rfl rfl ?_
  refine qa_s (pc' := 95) at_136_93 rfl rfl rfl ?_
  refine qa_s (pc' := 97) at_136_95 rfl rfl rfl ?_
  refine qa_callV (nx := 100) at_136_97 rfl rfl (Nat.le_of_ble_eq_true rfl) rfl rfl rfl (by decide) rfl (by decide) ?_
  show qa _ 138 0 [(0, .ref _), (1, .int _), (2, .int _), (3, .int _), (4, .int _)] [] _ _
  refine o1_q (p := p) hj hp hx hy ?_
  show qa _ 136 100 _ [] _ _
  refine qa_goto (nx := 131) at_136_100 rfl ?_
  refine qa_ic (nx := 132) (v := nI 0) at_136_131 (by decide) rfl ?_
  refine qa_s (pc' := 134) at_136_132 rfl rfl rfl ?_
  show qa _ _ _ [(0, .ref (cl 40 0)), (1, .int (nI j)), (2, .int (nI p)), (3, .int _), (4, .int _), (5, .int _), (6, .int (nI 0))] [] _ _
  refine qa_drop (l1 := [(0, .ref (cl 40 0)), (1, .int (nI j)), (6, .int (nI 0))]) (by intro q hq; simp only [List.mem_cons, List.not_mem_nil, or_false] at hq ⊢; rcases hq with rfl | rfl | rfl <;> simp) (by simp [mj_nd]) ?_
  exact c136_r hj 3 0 _ rfl (hch) k
theorem pf2_q {j p x : Nat} {y : Nat} (hj : j < 5) (hp : p < 180) (hx : x ≤ 3) (h44 : σ 44 0 p = nI 2) (h45 : σ 45 0 p = nI x) (h46 : σ 46 0 p = (nI y)) (hy : y ≤ 3) (hch : ¬ σ 70 0 (4 * j + y) = 0 → chR (opM (stpM σ j) j p 2 x (nI y)) j 3) (k : Q none (pfM σ j p)) : qa cst 136 0 [(0, .ref (cl 40 0)), (1, .int (nI j)), (2, .int (nI p))] [] σ Q := by
  simp only [pfM, h44, h45, h46, nN_n (show 2 < 2 ^ 31 by decide), nN_n (show x < 2 ^ 31 by omega), nN_n (show y < 2 ^ 31 by omega)] at k
  by_cases hz : σ 70 0 (4 * j + y) = 0
  · refine qa_s (pc' := 1) at_136_0 rfl rfl rfl ?_
    refine qa_getR (nx := 4) at_136_1 rfl (by decide) rfl rfl (by decide) ?_
    refine qa_s (pc' := 5) at_136_4 rfl rfl rfl ?_
    refine qa_ialdV (nx := 6) (k := p) (v := nI 2) at_136_5 rfl rfl rfl (by decide) rfl (show p < 180 by omega) (show _ from h44) ?_
    refine qa_s (pc' := 7) at_136_6 rfl rfl rfl ?_
    refine qa_s (pc' := 8) at_136_7 rfl rfl rfl ?_
    refine qa_getR (nx := 11) at_136_8 rfl (by decide) rfl rfl (by decide) ?_
    refine qa_s (pc' := 12) at_136_11 rfl rfl rfl ?_
    refine qa_ialdV (nx := 13) (k := p) (v := (nI y)) at_136_12 rfl rfl rfl (by decide) rfl (show p < 180 by omega) (show _ from h46) ?_
    refine qa_s (pc' := 15) at_136_13 rfl rfl rfl ?_
    refine qa_ic (nx := 16) (v := nI 4) at_136_15 (by decide) rfl ?_
    refine qa_s (pc' := 17) at_136_16 rfl rfl rfl ?_
    refine qa_mulN (nx := 18) at_136_17 rfl ?_
    refine qa_s (pc' := 19) at_136_18 rfl rfl rfl ?_
    refine qa_getR (nx := 22) at_136_19 rfl (by decide) rfl rfl (by decide) ?_
    refine qa_s (pc' := 23) at_136_22 rfl rfl rfl ?_
    refine qa_ialdV (nx := 24) (k := p) (v := nI x) at_136_23 rfl rfl rfl (by decide) rfl (show p < 180 by omega) (show _ from h45) ?_
    refine qa_addN (nx := 25) at_136_24 rfl ?_
    refine qa_s (pc' := 27) at_136_25 rfl rfl rfl ?_
    refine qa_s (pc' := 28) at_136_27 rfl rfl rfl ?_
    refine qa_getR (nx := 31) at_136_28 rfl (by decide) rfl rfl (by decide) ?_
    refine qa_s (pc' := 32) at_136_31 rfl rfl rfl ?_
    refine qa_s (pc' := 33) at_136_32 rfl rfl rfl ?_
    refine qa_iald (nx := 34) (k := j) at_136_33 rfl rfl rfl (by decide) rfl (show j < 5 by omega) ?_
    refine qa_ic (nx := 35) (v := nI 1) at_136_34 (by decide) rfl ?_
    refine qa_s (pc' := 36) at_136_35 rfl rfl rfl ?_
    refine qa_iast (nx := 37) (k := j) at_136_36 rfl rfl rfl (by decide) rfl (show j < 5 by omega) ?_
    refine qa_s (pc' := 38) at_136_37 rfl rfl rfl ?_
    refine qa_getR (nx := 41) at_136_38 rfl (by decide) rfl rfl (by decide) ?_
    refine qa_s (pc' := 42) at_136_41 rfl rfl rfl ?_
    refine qa_s (pc' := 43) at_136_42 rfl rfl rfl ?_
    refine qa_iald (nx := 44) (k := j) at_136_43 rfl rfl rfl (by decide) rfl (show j < 5 by omega) ?_
    refine qa_ic (nx := 45) (v := nI 1) at_136_44 (by decide) rfl ?_
    refine qa_s (pc' := 46) at_136_45 rfl rfl rfl ?_
    refine qa_iast (nx := 47) (k := j) at_136_46 rfl rfl rfl (by decide) rfl (show j < 5 by omega) ?_
    refine qa_s (pc' := 48) at_136_47 rfl rfl rfl ?_
    refine qa_ic (nx := 49) (v := nI 2) at_136_48 (by decide) rfl ?_
    refine qn_icmp_ne (tg := 73) (nx := 52) at_136_49 rfl rfl (by decide) (by decide) (fun h => absurd h (by decide)) (fun h136_49 => ?_)
    refine qa_s (pc' := 53) at_136_52 rfl rfl rfl ?_
    refine qa_getR (nx := 56) at_136_53 rfl (by decide) rfl rfl (by decide) ?_
    refine qa_ic (nx := 57) (v := nI 4) at_136_56 (by decide) rfl ?_
    refine qa_s (pc' := 58) at_136_57 rfl rfl rfl ?_
    refine qa_mulN (nx := 59) at_136_58 rfl ?_
    refine qa_s (pc' := 61) at_136_59 rfl rfl rfl ?_
    refine qa_addN (nx := 62) at_136_61 rfl ?_
    refine qa_iald (nx := 63) (k := (4 * j) + y) at_136_62 rfl rfl rfl (by decide) rfl (show (4 * j) + y < 20 by omega) ?_
    refine qa_if_ne (tg := 73) (nx := 66) at_136_63 rfl rfl (fun h136_63 => ?_) (fun h136_63 => ?_)
    · exact absurd hz h136_63
    · refine qa_s (pc' := 67) at_136_66 rfl rfl rfl ?_
      refine qa_s (pc' := 68) at_136_67 rfl rfl rfl ?_
      refine qa_ic (nx := 69) (v := nI 3) at_136_68 (by decide) rfl ?_
      refine qa_callV (nx := 72) at_136_69 rfl rfl (Nat.le_of_ble_eq_true rfl) rfl rfl rfl (by decide) rfl (by decide) ?_
      show qa _ 137 0 [(0, .ref _), (1, .int _), (2, .int _)] [] _ _
      refine c137_q hj ?_
      show qa _ 136 72 _ [] _ _
      refine qa_ret at_136_72 rfl ?_
      rw [if_pos ⟨trivial, hz⟩] at k
      exact k
  · refine qa_s (pc' := 1) at_136_0 rfl rfl rfl ?_
    refine qa_getR (nx := 4) at_136_1 rfl (by decide) rfl rfl (by decide) ?_
    refine qa_s (pc' := 5) at_136_4 rfl rfl rfl ?_
    refine qa_ialdV (nx := 6) (k := p) (v := nI 2) at_136_5 rfl rfl rfl (by decide) rfl (show p < 180 by omega) (show _ from h44) ?_
    refine qa_s (pc' := 7) at_136_6 rfl rfl rfl ?_
    refine qa_s (pc' := 8) at_136_7 rfl rfl rfl ?_
    refine qa_getR (nx := 11) at_136_8 rfl (by decide) rfl rfl (by decide) ?_
    refine qa_s (pc' := 12) at_136_11 rfl rfl rfl ?_
    refine qa_ialdV (nx := 13) (k := p) (v := (nI y)) at_136_12 rfl rfl rfl (by decide) rfl (show p < 180 by omega) (show _ from h46) ?_
    refine qa_s (pc' := 15) at_136_13 rfl rfl rfl ?_
    refine qa_ic (nx := 16) (v := nI 4) at_136_15 (by decide) rfl ?_
    refine qa_s (pc' := 17) at_136_16 rfl rfl rfl ?_
    refine qa_mulN (nx := 18) at_136_17 rfl ?_
    refine qa_s (pc' := 19) at_136_18 rfl rfl rfl ?_
    refine qa_getR (nx := 22) at_136_19 rfl (by decide) rfl rfl (by decide) ?_
    refine qa_s (pc' := 23) at_136_22 rfl rfl rfl ?_
    refine qa_ialdV (nx := 24) (k := p) (v := nI x) at_136_23 rfl rfl rfl (by decide) rfl (show p < 180 by omega) (show _ from h45) ?_
    refine qa_addN (nx := 25) at_136_24 rfl ?_
    refine qa_s (pc' := 27) at_136_25 rfl rfl rfl ?_
    refine qa_s (pc' := 28) at_136_27 rfl rfl rfl ?_
    refine qa_getR (nx := 31) at_136_28 rfl (by decide) rfl rfl (by decide) ?_
    refine qa_s (pc' := 32) at_136_31 rfl rfl rfl ?_
    refine qa_s (pc' := 33) at_136_32 rfl rfl rfl ?_
    refine qa_iald (nx := 34) (k := j) at_136_33 rfl rfl rfl (by decide) rfl (show j < 5 by omega) ?_
    refine qa_ic (nx := 35) (v := nI 1) at_136_34 (by decide) rfl ?_
    refine qa_s (pc' := 36) at_136_35 rfl rfl rfl ?_
    refine qa_iast (nx := 37) (k := j) at_136_36 rfl rfl rfl (by decide) rfl (show j < 5 by omega) ?_
    refine qa_s (pc' := 38) at_136_37 rfl rfl rfl ?_
    refine qa_getR (nx := 41) at_136_38 rfl (by decide) rfl rfl (by decide) ?_
    refine qa_s (pc' := 42) at_136_41 rfl rfl rfl ?_
    refine qa_s (pc' := 43) at_136_42 rfl rfl rfl ?_
    refine qa_iald (nx := 44) (k := j) at_136_43 rfl rfl rfl (by decide) rfl (show j < 5 by omega) ?_
    refine qa_ic (nx := 45) (v := nI 1) at_136_44 (by decide) rfl ?_
    refine qa_s (pc' := 46) at_136_45 rfl rfl rfl ?_
    refine qa_iast (nx := 47) (k := j) at_136_46 rfl rfl rfl (by decide) rfl (show j < 5 by omega) ?_
    refine qa_s (pc' := 48) at_136_47 rfl rfl rfl ?_
    refine qa_ic (nx := 49) (v := nI 2) at_136_48 (by decide) rfl ?_
    refine qn_icmp_ne (tg := 73) (nx := 52) at_136_49 rfl rfl (by decide) (by decide) (fun h => absurd h (by decide)) (fun h136_49 => ?_)
    refine qa_s (pc' := 53) at_136_52 rfl rfl rfl ?_
    refine qa_getR (nx := 56) at_136_53 rfl (by decide) rfl rfl (by decide) ?_
    refine qa_ic (nx := 57) (v := nI 4) at_136_56 (by decide) rfl ?_
    refine qa_s (pc' := 58) at_136_57 rfl rfl rfl ?_
    refine qa_mulN (nx := 59) at_136_58 rfl ?_
    refine qa_s (pc' := 61) at_136_59 rfl rfl rfl ?_
    refine qa_addN (nx := 62) at_136_61 rfl ?_
    refine qa_iald (nx := 63) (k := (4 * j) + y) at_136_62 rfl rfl rfl (by decide) rfl (show (4 * j) + y < 20 by omega) ?_
    refine qa_if_ne (tg := 73) (nx := 66) at_136_63 rfl rfl (fun h136_63 => ?_) (fun h136_63 => ?_)
    · refine qa_s (pc' := 74) at_136_73 rfl rfl rfl ?_
      refine qa_ic (nx := 75) (v := nI 4) at_136_74 (by decide) rfl ?_
      refine qn_icmp_le (tg := 90) (nx := 78) at_136_75 rfl rfl (by decide) (by decide) (fun h136_75 => ?_) (fun h => absurd h (by decide))
      refine qa_s (pc' := 91) at_136_90 rfl rfl rfl ?_
      refine qa_s (pc' := 92) at_136_91 rfl rfl rfl ?_
      refine qa_s (pc' := 93) at_136_92 rfl rfl rfl ?_
      refine qa_s (pc' := 95) at_136_93 rfl rfl rfl ?_
      refine qa_s (pc' := 97) at_136_95 rfl rfl rfl ?_
      refine qa_callV (nx := 100) at_136_97 rfl rfl (Nat.le_of_ble_eq_true rfl) rfl rfl rfl (by decide) rfl (by decide) ?_
      show qa _ 138 0 [(0, .ref _), (1, .int _), (2, .int _), (3, .int _), (4, .int _)] [] _ _
      refine o2_q (p := p) hj hp hx hy hz ?_
      show qa _ 136 100 _ [] _ _
      refine qa_goto (nx := 131) at_136_100 rfl ?_
      refine qa_ic (nx := 132) (v := nI 0) at_136_131 (by decide) rfl ?_
      refine qa_s (pc' := 134) at_136_132 rfl rfl rfl ?_
      rw [if_neg (fun g => hz g.2)] at k
      show qa _ _ _ [(0, .ref (cl 40 0)), (1, .int (nI j)), (2, .int (nI p)), (3, .int _), (4, .int _), (5, .int _), (6, .int (nI 0))] [] _ _
      refine qa_drop (l1 := [(0, .ref (cl 40 0)), (1, .int (nI j)), (6, .int (nI 0))]) (by intro q hq; simp only [List.mem_cons, List.not_mem_nil, or_false] at hq ⊢; rcases hq with rfl | rfl | rfl <;> simp) (by simp [mj_nd]) ?_
      exact c136_r hj 3 0 _ rfl (hch hz) k
    · exact absurd h136_63 hz
theorem pf3_q {j p x : Nat} {y : Nat} (hj : j < 5) (hp : p < 180) (hx : x ≤ 3) (h44 : σ 44 0 p = nI 3) (h45 : σ 45 0 p = nI x) (h46 : σ 46 0 p = (nI y)) (hy : y ≤ 7) (hch : chR (opM (stpM σ j) j p 3 x (nI y)) j 3) (k : Q none (pfM σ j p)) : qa cst 136 0 [(0, .ref (cl 40 0)), (1, .int (nI j)), (2, .int (nI p))] [] σ Q := by
  simp only [pfM, h44, h45, h46, nN_n (show 3 < 2 ^ 31 by decide), nN_n (show x < 2 ^ 31 by omega), nN_n (show y < 2 ^ 31 by omega)] at k
  rw [if_neg (fun g => absurd g.1 (by decide))] at k
  refine qa_s (pc' := 1) at_136_0 rfl rfl rfl ?_
  refine qa_getR (nx := 4) at_136_1 rfl (by decide) rfl rfl (by decide) ?_
  refine qa_s (pc' := 5) at_136_4 rfl rfl rfl ?_
  refine qa_ialdV (nx := 6) (k := p) (v := nI 3) at_136_5 rfl rfl rfl (by decide) rfl (show p < 180 by omega) (show _ from h44) ?_
  refine qa_s (pc' := 7) at_136_6 rfl rfl rfl ?_
  refine qa_s (pc' := 8) at_136_7 rfl rfl rfl ?_
  refine qa_getR (nx := 11) at_136_8 rfl (by decide) rfl rfl (by decide) ?_
  refine qa_s (pc' := 12) at_136_11 rfl rfl rfl ?_
  refine qa_ialdV (nx := 13) (k := p) (v := (nI y)) at_136_12 rfl rfl rfl (by decide) rfl (show p < 180 by omega) (show _ from h46) ?_
  refine qa_s (pc' := 15) at_136_13 rfl rfl rfl ?_
  refine qa_ic (nx := 16) (v := nI 4) at_136_15 (by decide) rfl ?_
  refine qa_s (pc' := 17) at_136_16 rfl rfl rfl ?_
  refine qa_mulN (nx := 18) at_136_17 rfl ?_
  refine qa_s (pc' := 19) at_136_18 rfl rfl rfl ?_
  refine qa_getR (nx := 22) at_136_19 rfl (by decide) rfl rfl (by decide) ?_
  refine qa_s (pc' := 23) at_136_22 rfl rfl rfl ?_
  refine qa_ialdV (nx := 24) (k := p) (v := nI x) at_136_23 rfl rfl rfl (by decide) rfl (show p < 180 by omega) (show _ from h45) ?_
  refine qa_addN (nx := 25) at_136_24 rfl ?_
  refine qa_s (pc' := 27) at_136_25 rfl rfl rfl ?_
  refine qa_s (pc' := 28) at_136_27 rfl rfl rfl ?_
  refine qa_getR (nx := 31) at_136_28 rfl (by decide) rfl rfl (by decide) ?_
  refine qa_s (pc' := 32) at_136_31 rfl rfl rfl ?_
  refine qa_s (pc' := 33) at_136_32 rfl rfl rfl ?_
  refine qa_iald (nx := 34) (k := j) at_136_33 rfl rfl rfl (by decide) rfl (show j < 5 by omega) ?_
  refine qa_ic (nx := 35) (v := nI 1) at_136_34 (by decide) rfl ?_
  refine qa_s (pc' := 36) at_136_35 rfl rfl rfl ?_
  refine qa_iast (nx := 37) (k := j) at_136_36 rfl rfl rfl (by decide) rfl (show j < 5 by omega) ?_
  refine qa_s (pc' := 38) at_136_37 rfl rfl rfl ?_
  refine qa_getR (nx := 41) at_136_38 rfl (by decide) rfl rfl (by decide) ?_
  refine qa_s (pc' := 42) at_136_41 rfl rfl rfl ?_
  refine qa_s (pc' := 43) at_136_42 rfl rfl rfl ?_
  refine qa_iald (nx := 44) (k := j) at_136_43 rfl rfl rfl (by decide) rfl (show j < 5 by omega) ?_
  refine qa_ic (nx := 45) (v := nI 1) at_136_44 (by decide) rfl ?_
  refine qa_s (pc' := 46) at_136_45 rfl rfl rfl ?_
  refine qa_iast (nx := 47) (k := j) at_136_46 rfl rfl rfl (by decide) rfl (show j < 5 by omega) ?_
  refine qa_s (pc' := 48) at_136_47 rfl rfl rfl ?_
  refine qa_ic (nx := 49) (v := nI 2) at_136_48 (by decide) rfl ?_
  refine qn_icmp_ne (tg := 73) (nx := 52) at_136_49 rfl rfl (by decide) (by decide) (fun h136_49 => ?_) (fun h => absurd h (by decide))
  refine qa_s (pc' := 74) at_136_73 rfl rfl rfl ?_
  refine qa_ic (nx := 75) (v := nI 4) at_136_74 (by decide) rfl ?_
  refine qn_icmp_le (tg := 90) (nx := 78) at_136_75 rfl rfl (by decide) (by decide) (fun h136_75 => ?_) (fun h => absurd h (by decide))
  refine qa_s (pc' := 91) at_136_90 rfl rfl rfl ?_
  refine qa_s (pc' := 92) at_136_91 rfl rfl rfl ?_
  refine qa_s (pc' := 93) at_136_92 rfl rfl rfl ?_
  refine qa_s (pc' := 95) at_136_93 rfl rfl rfl ?_
  refine qa_s (pc' := 97) at_136_95 rfl rfl rfl ?_
  refine qa_callV (nx := 100) at_136_97 rfl rfl (Nat.le_of_ble_eq_true rfl) rfl rfl rfl (by decide) rfl (by decide) ?_
  show qa _ 138 0 [(0, .ref _), (1, .int _), (2, .int _), (3, .int _), (4, .int _)] [] _ _
  refine o3_q (p := p) hj hp hx hy ?_
  show qa _ 136 100 _ [] _ _
  refine qa_goto (nx := 131) at_136_100 rfl ?_
  refine qa_ic (nx := 132) (v := nI 0) at_136_131 (by decide) rfl ?_
  refine qa_s (pc' := 134) at_136_132 rfl rfl rfl ?_
  show qa _ _ _ [(0, .ref (cl 40 0)), (1, .int (nI j)), (2, .int (nI p)), (3, .int _), (4, .int _), (5, .int _), (6, .int (nI 0))] [] _ _
  refine qa_drop (l1 := [(0, .ref (cl 40 0)), (1, .int (nI j)), (6, .int (nI 0))]) (by intro q hq; simp only [List.mem_cons, List.not_mem_nil, or_false] at hq ⊢; rcases hq with rfl | rfl | rfl <;> simp) (by simp [mj_nd]) ?_
  exact c136_r hj 3 0 _ rfl (hch) k
theorem pf4_q {j p x : Nat} {y : Nat} (hj : j < 5) (hp : p < 180) (hx : x ≤ 3) (h44 : σ 44 0 p = nI 4) (h45 : σ 45 0 p = nI x) (h46 : σ 46 0 p = (nI y)) (hy : y ≤ 7) (hch : chR (opM (stpM σ j) j p 4 x (nI y)) j 3) (k : Q none (pfM σ j p)) : qa cst 136 0 [(0, .ref (cl 40 0)), (1, .int (nI j)), (2, .int (nI p))] [] σ Q := by
  simp only [pfM, h44, h45, h46, nN_n (show 4 < 2 ^ 31 by decide), nN_n (show x < 2 ^ 31 by omega), nN_n (show y < 2 ^ 31 by omega)] at k
  rw [if_neg (fun g => absurd g.1 (by decide))] at k
  refine qa_s (pc' := 1) at_136_0 rfl rfl rfl ?_
  refine qa_getR (nx := 4) at_136_1 rfl (by decide) rfl rfl (by decide) ?_
  refine qa_s (pc' := 5) at_136_4 rfl rfl rfl ?_
  refine qa_ialdV (nx := 6) (k := p) (v := nI 4) at_136_5 rfl rfl rfl (by decide) rfl (show p < 180 by omega) (show _ from h44) ?_
  refine qa_s (pc' := 7) at_136_6 rfl rfl rfl ?_
  refine qa_s (pc' := 8) at_136_7 rfl rfl rfl ?_
  refine qa_getR (nx := 11) at_136_8 rfl (by decide) rfl rfl (by decide) ?_
  refine qa_s (pc' := 12) at_136_11 rfl rfl rfl ?_
  refine qa_ialdV (nx := 13) (k := p) (v := (nI y)) at_136_12 rfl rfl rfl (by decide) rfl (show p < 180 by omega) (show _ from h46) ?_
  refine qa_s (pc' := 15) at_136_13 rfl rfl rfl ?_
  refine qa_ic (nx := 16) (v := nI 4) at_136_15 (by decide) rfl ?_
  refine qa_s (pc' := 17) at_136_16 rfl rfl rfl ?_
  refine qa_mulN (nx := 18) at_136_17 rfl ?_
  refine qa_s (pc' := 19) at_136_18 rfl rfl rfl ?_
  refine qa_getR (nx := 22) at_136_19 rfl (by decide) rfl rfl (by decide) ?_
  refine qa_s (pc' := 23) at_136_22 rfl rfl rfl ?_
  refine qa_ialdV (nx := 24) (k := p) (v := nI x) at_136_23 rfl rfl rfl (by decide) rfl (show p < 180 by omega) (show _ from h45) ?_
  refine qa_addN (nx := 25) at_136_24 rfl ?_
  refine qa_s (pc' := 27) at_136_25 rfl rfl rfl ?_
  refine qa_s (pc' := 28) at_136_27 rfl rfl rfl ?_
  refine qa_getR (nx := 31) at_136_28 rfl (by decide) rfl rfl (by decide) ?_
  refine qa_s (pc' := 32) at_136_31 rfl rfl rfl ?_
  refine qa_s (pc' := 33) at_136_32 rfl rfl rfl ?_
  refine qa_iald (nx := 34) (k := j) at_136_33 rfl rfl rfl (by decide) rfl (show j < 5 by omega) ?_
  refine qa_ic (nx := 35) (v := nI 1) at_136_34 (by decide) rfl ?_
  refine qa_s (pc' := 36) at_136_35 rfl rfl rfl ?_
  refine qa_iast (nx := 37) (k := j) at_136_36 rfl rfl rfl (by decide) rfl (show j < 5 by omega) ?_
  refine qa_s (pc' := 38) at_136_37 rfl rfl rfl ?_
  refine qa_getR (nx := 41) at_136_38 rfl (by decide) rfl rfl (by decide) ?_
  refine qa_s (pc' := 42) at_136_41 rfl rfl rfl ?_
  refine qa_s (pc' := 43) at_136_42 rfl rfl rfl ?_
  refine qa_iald (nx := 44) (k := j) at_136_43 rfl rfl rfl (by decide) rfl (show j < 5 by omega) ?_
  refine qa_ic (nx := 45) (v := nI 1) at_136_44 (by decide) rfl ?_
  refine qa_s (pc' := 46) at_136_45 rfl rfl rfl ?_
  refine qa_iast (nx := 47) (k := j) at_136_46 rfl rfl rfl (by decide) rfl (show j < 5 by omega) ?_
  refine qa_s (pc' := 48) at_136_47 rfl rfl rfl ?_
  refine qa_ic (nx := 49) (v := nI 2) at_136_48 (by decide) rfl ?_
  refine qn_icmp_ne (tg := 73) (nx := 52) at_136_49 rfl rfl (by decide) (by decide) (fun h136_49 => ?_) (fun h => absurd h (by decide))
  refine qa_s (pc' := 74) at_136_73 rfl rfl rfl ?_
  refine qa_ic (nx := 75) (v := nI 4) at_136_74 (by decide) rfl ?_
  refine qn_icmp_le (tg := 90) (nx := 78) at_136_75 rfl rfl (by decide) (by decide) (fun h136_75 => ?_) (fun h => absurd h (by decide))
  refine qa_s (pc' := 91) at_136_90 rfl rfl rfl ?_
  refine qa_s (pc' := 92) at_136_91 rfl rfl rfl ?_
  refine qa_s (pc' := 93) at_136_92 rfl rfl rfl ?_
  refine qa_s (pc' := 95) at_136_93 rfl rfl rfl ?_
  refine qa_s (pc' := 97) at_136_95 rfl rfl rfl ?_
  refine qa_callV (nx := 100) at_136_97 rfl rfl (Nat.le_of_ble_eq_true rfl) rfl rfl rfl (by decide) rfl (by decide) ?_
  show qa _ 138 0 [(0, .ref _), (1, .int _), (2, .int _), (3, .int _), (4, .int _)] [] _ _
  refine o4_q (p := p) hj hp hx hy ?_
  show qa _ 136 100 _ [] _ _
  refine qa_goto (nx := 131) at_136_100 rfl ?_
  refine qa_ic (nx := 132) (v := nI 0) at_136_131 (by decide) rfl ?_
  refine qa_s (pc' := 134) at_136_132 rfl rfl rfl ?_
  show qa _ _ _ [(0, .ref (cl 40 0)), (1, .int (nI j)), (2, .int (nI p)), (3, .int _), (4, .int _), (5, .int _), (6, .int (nI 0))] [] _ _
  refine qa_drop (l1 := [(0, .ref (cl 40 0)), (1, .int (nI j)), (6, .int (nI 0))]) (by intro q hq; simp only [List.mem_cons, List.not_mem_nil, or_false] at hq ⊢; rcases hq with rfl | rfl | rfl <;> simp) (by simp [mj_nd]) ?_
  exact c136_r hj 3 0 _ rfl (hch) k
theorem pf5_q {j p x : Nat} {y : Nat} (hj : j < 5) (hp : p < 180) (hx : x ≤ 3) (h44 : σ 44 0 p = nI 5) (h45 : σ 45 0 p = nI x) (h46 : σ 46 0 p = (nI y)) (hy : y ≤ 11) (hch : chR (opM (stpM σ j) j p 5 x (nI y)) j 3) (k : Q none (pfM σ j p)) : qa cst 136 0 [(0, .ref (cl 40 0)), (1, .int (nI j)), (2, .int (nI p))] [] σ Q := by
  simp only [pfM, h44, h45, h46, nN_n (show 5 < 2 ^ 31 by decide), nN_n (show x < 2 ^ 31 by omega), nN_n (show y < 2 ^ 31 by omega)] at k
  rw [if_neg (fun g => absurd g.1 (by decide))] at k
  refine qa_s (pc' := 1) at_136_0 rfl rfl rfl ?_
  refine qa_getR (nx := 4) at_136_1 rfl (by decide) rfl rfl (by decide) ?_
  refine qa_s (pc' := 5) at_136_4 rfl rfl rfl ?_
  refine qa_ialdV (nx := 6) (k := p) (v := nI 5) at_136_5 rfl rfl rfl (by decide) rfl (show p < 180 by omega) (show _ from h44) ?_
  refine qa_s (pc' := 7) at_136_6 rfl rfl rfl ?_
  refine qa_s (pc' := 8) at_136_7 rfl rfl rfl ?_
  refine qa_getR (nx := 11) at_136_8 rfl (by decide) rfl rfl (by decide) ?_
  refine qa_s (pc' := 12) at_136_11 rfl rfl rfl ?_
  refine qa_ialdV (nx := 13) (k := p) (v := (nI y)) at_136_12 rfl rfl rfl (by decide) rfl (show p < 180 by omega) (show _ from h46) ?_
  refine qa_s (pc' := 15) at_136_13 rfl rfl rfl ?_
  refine qa_ic (nx := 16) (v := nI 4) at_136_15 (by decide) rfl ?_
  refine qa_s (pc' := 17) at_136_16 rfl rfl rfl ?_
  refine qa_mulN (nx := 18) at_136_17 rfl ?_
  refine qa_s (pc' := 19) at_136_18 rfl rfl rfl ?_
  refine qa_getR (nx := 22) at_136_19 rfl (by decide) rfl rfl (by decide) ?_
  refine qa_s (pc' := 23) at_136_22 rfl rfl rfl ?_
  refine qa_ialdV (nx := 24) (k := p) (v := nI x) at_136_23 rfl rfl rfl (by decide) rfl (show p < 180 by omega) (show _ from h45) ?_
  refine qa_addN (nx := 25) at_136_24 rfl ?_
  refine qa_s (pc' := 27) at_136_25 rfl rfl rfl ?_
  refine qa_s (pc' := 28) at_136_27 rfl rfl rfl ?_
  refine qa_getR (nx := 31) at_136_28 rfl (by decide) rfl rfl (by decide) ?_
  refine qa_s (pc' := 32) at_136_31 rfl rfl rfl ?_
  refine qa_s (pc' := 33) at_136_32 rfl rfl rfl ?_
  refine qa_iald (nx := 34) (k := j) at_136_33 rfl rfl rfl (by decide) rfl (show j < 5 by omega) ?_
  refine qa_ic (nx := 35) (v := nI 1) at_136_34 (by decide) rfl ?_
  refine qa_s (pc' := 36) at_136_35 rfl rfl rfl ?_
  refine qa_iast (nx := 37) (k := j) at_136_36 rfl rfl rfl (by decide) rfl (show j < 5 by omega) ?_
  refine qa_s (pc' := 38) at_136_37 rfl rfl rfl ?_
  refine qa_getR (nx := 41) at_136_38 rfl (by decide) rfl rfl (by decide) ?_
  refine qa_s (pc' := 42) at_136_41 rfl rfl rfl ?_
  refine qa_s (pc' := 43) at_136_42 rfl rfl rfl ?_
  refine qa_iald (nx := 44) (k := j) at_136_43 rfl rfl rfl (by decide) rfl (show j < 5 by omega) ?_
  refine qa_ic (nx := 45) (v := nI 1) at_136_44 (by decide) rfl ?_
  refine qa_s (pc' := 46) at_136_45 rfl rfl rfl ?_
  refine qa_iast (nx := 47) (k := j) at_136_46 rfl rfl rfl (by decide) rfl (show j < 5 by omega) ?_
  refine qa_s (pc' := 48) at_136_47 rfl rfl rfl ?_
  refine qa_ic (nx := 49) (v := nI 2) at_136_48 (by decide) rfl ?_
  refine qn_icmp_ne (tg := 73) (nx := 52) at_136_49 rfl rfl (by decide) (by decide) (fun h136_49 => ?_) (fun h => absurd h (by decide))
  refine qa_s (pc' := 74) at_136_73 rfl rfl rfl ?_
  refine qa_ic (nx := 75) (v := nI 4) at_136_74 (by decide) rfl ?_
  refine qn_icmp_le (tg := 90) (nx := 78) at_136_75 rfl rfl (by decide) (by decide) (fun h => absurd h (by decide)) (fun h136_75 => ?_)
  refine qa_s (pc' := 79) at_136_78 rfl rfl rfl ?_
  refine qa_bi (nx := 81) (v := nI 11) at_136_79 (by decide) rfl ?_
  refine qn_icmp_eq (tg := 90) (nx := 84) at_136_81 rfl rfl (by decide) (by decide) (fun h => absurd h (by decide)) (fun h136_81 => ?_)
  refine qa_s (pc' := 85) at_136_84 rfl rfl rfl ?_
  refine qa_bi (nx := 87) (v := nI 12) at_136_85 (by decide) rfl ?_
  refine qn_icmp_ne (tg := 103) (nx := 90) at_136_87 rfl rfl (by decide) (by decide) (fun h136_87 => ?_) (fun h => absurd h (by decide))
  refine qa_s (pc' := 104) at_136_103 rfl rfl rfl ?_
  refine qa_bi (nx := 106) (v := nI 13) at_136_104 (by decide) rfl ?_
  refine qn_icmp_lt (tg := 122) (nx := 109) at_136_106 rfl rfl (by decide) (by decide) (fun h136_106 => ?_) (fun h => absurd h (by decide))
  refine qa_s (pc' := 123) at_136_122 rfl rfl rfl ?_
  refine qa_s (pc' := 124) at_136_123 rfl rfl rfl ?_
  refine qa_s (pc' := 125) at_136_124 rfl rfl rfl ?_
  refine qa_s (pc' := 127) at_136_125 rfl rfl rfl ?_
  refine qa_s (pc' := 128) at_136_127 rfl rfl rfl ?_
  refine qa_callV (nx := 131) at_136_128 rfl rfl (Nat.le_of_ble_eq_true rfl) rfl rfl rfl (by decide) rfl (by decide) ?_
  show qa _ 140 0 [(0, .ref _), (1, .int _), (2, .int _), (3, .int _), (4, .int _)] [] _ _
  refine o5_q hj hp hx hy h46 ?_
  show qa _ 136 131 _ [] _ _
  refine qa_ic (nx := 132) (v := nI 0) at_136_131 (by decide) rfl ?_
  refine qa_s (pc' := 134) at_136_132 rfl rfl rfl ?_
  show qa _ _ _ [(0, .ref (cl 40 0)), (1, .int (nI j)), (2, .int (nI p)), (3, .int _), (4, .int _), (5, .int _), (6, .int (nI 0))] [] _ _
  refine qa_drop (l1 := [(0, .ref (cl 40 0)), (1, .int (nI j)), (6, .int (nI 0))]) (by intro q hq; simp only [List.mem_cons, List.not_mem_nil, or_false] at hq ⊢; rcases hq with rfl | rfl | rfl <;> simp) (by simp [mj_nd]) ?_
  exact c136_r hj 3 0 _ rfl (hch) k
theorem pf6_q {j p x : Nat} {y : Nat} (hj : j < 5) (hp : p < 180) (hx : x ≤ 3) (h44 : σ 44 0 p = nI 6) (h45 : σ 45 0 p = nI x) (h46 : σ 46 0 p = (nI y)) (hy : y ≤ 8) (hch : chR (opM (stpM σ j) j p 6 x (nI y)) j 3) (k : Q none (pfM σ j p)) : qa cst 136 0 [(0, .ref (cl 40 0)), (1, .int (nI j)), (2, .int (nI p))] [] σ Q := by
  simp only [pfM, h44, h45, h46, nN_n (show 6 < 2 ^ 31 by decide), nN_n (show x < 2 ^ 31 by omega), nN_n (show y < 2 ^ 31 by omega)] at k
  rw [if_neg (fun g => absurd g.1 (by decide))] at k
  refine qa_s (pc' := 1) at_136_0 rfl rfl rfl ?_
  refine qa_getR (nx := 4) at_136_1 rfl (by decide) rfl rfl (by decide) ?_
  refine qa_s (pc' := 5) at_136_4 rfl rfl rfl ?_
  refine qa_ialdV (nx := 6) (k := p) (v := nI 6) at_136_5 rfl rfl rfl (by decide) rfl (show p < 180 by omega) (show _ from h44) ?_
  refine qa_s (pc' := 7) at_136_6 rfl rfl rfl ?_
  refine qa_s (pc' := 8) at_136_7 rfl rfl rfl ?_
  refine qa_getR (nx := 11) at_136_8 rfl (by decide) rfl rfl (by decide) ?_
  refine qa_s (pc' := 12) at_136_11 rfl rfl rfl ?_
  refine qa_ialdV (nx := 13) (k := p) (v := (nI y)) at_136_12 rfl rfl rfl (by decide) rfl (show p < 180 by omega) (show _ from h46) ?_
  refine qa_s (pc' := 15) at_136_13 rfl rfl rfl ?_
  refine qa_ic (nx := 16) (v := nI 4) at_136_15 (by decide) rfl ?_
  refine qa_s (pc' := 17) at_136_16 rfl rfl rfl ?_
  refine qa_mulN (nx := 18) at_136_17 rfl ?_
  refine qa_s (pc' := 19) at_136_18 rfl rfl rfl ?_
  refine qa_getR (nx := 22) at_136_19 rfl (by decide) rfl rfl (by decide) ?_
  refine qa_s (pc' := 23) at_136_22 rfl rfl rfl ?_
  refine qa_ialdV (nx := 24) (k := p) (v := nI x) at_136_23 rfl rfl rfl (by decide) rfl (show p < 180 by omega) (show _ from h45) ?_
  refine qa_addN (nx := 25) at_136_24 rfl ?_
  refine qa_s (pc' := 27) at_136_25 rfl rfl rfl ?_
  refine qa_s (pc' := 28) at_136_27 rfl rfl rfl ?_
  refine qa_getR (nx := 31) at_136_28 rfl (by decide) rfl rfl (by decide) ?_
  refine qa_s (pc' := 32) at_136_31 rfl rfl rfl ?_
  refine qa_s (pc' := 33) at_136_32 rfl rfl rfl ?_
  refine qa_iald (nx := 34) (k := j) at_136_33 rfl rfl rfl (by decide) rfl (show j < 5 by omega) ?_
  refine qa_ic (nx := 35) (v := nI 1) at_136_34 (by decide) rfl ?_
  refine qa_s (pc' := 36) at_136_35 rfl rfl rfl ?_
  refine qa_iast (nx := 37) (k := j) at_136_36 rfl rfl rfl (by decide) rfl (show j < 5 by omega) ?_
  refine qa_s (pc' := 38) at_136_37 rfl rfl rfl ?_
  refine qa_getR (nx := 41) at_136_38 rfl (by decide) rfl rfl (by decide) ?_
  refine qa_s (pc' := 42) at_136_41 rfl rfl rfl ?_
  refine qa_s (pc' := 43) at_136_42 rfl rfl rfl ?_
  refine qa_iald (nx := 44) (k := j) at_136_43 rfl rfl rfl (by decide) rfl (show j < 5 by omega) ?_
  refine qa_ic (nx := 45) (v := nI 1) at_136_44 (by decide) rfl ?_
  refine qa_s (pc' := 46) at_136_45 rfl rfl rfl ?_
  refine qa_iast (nx := 47) (k := j) at_136_46 rfl rfl rfl (by decide) rfl (show j < 5 by omega) ?_
  refine qa_s (pc' := 48) at_136_47 rfl rfl rfl ?_
  refine qa_ic (nx := 49) (v := nI 2) at_136_48 (by decide) rfl ?_
  refine qn_icmp_ne (tg := 73) (nx := 52) at_136_49 rfl rfl (by decide) (by decide) (fun h136_49 => ?_) (fun h => absurd h (by decide))
  refine qa_s (pc' := 74) at_136_73 rfl rfl rfl ?_
  refine qa_ic (nx := 75) (v := nI 4) at_136_74 (by decide) rfl ?_
  refine qn_icmp_le (tg := 90) (nx := 78) at_136_75 rfl rfl (by decide) (by decide) (fun h => absurd h (by decide)) (fun h136_75 => ?_)
  refine qa_s (pc' := 79) at_136_78 rfl rfl rfl ?_
  refine qa_bi (nx := 81) (v := nI 11) at_136_79 (by decide) rfl ?_
  refine qn_icmp_eq (tg := 90) (nx := 84) at_136_81 rfl rfl (by decide) (by decide) (fun h => absurd h (by decide)) (fun h136_81 => ?_)
  refine qa_s (pc' := 85) at_136_84 rfl rfl rfl ?_
  refine qa_bi (nx := 87) (v := nI 12) at_136_85 (by decide) rfl ?_
  refine qn_icmp_ne (tg := 103) (nx := 90) at_136_87 rfl rfl (by decide) (by decide) (fun h136_87 => ?_) (fun h => absurd h (by decide))
  refine qa_s (pc' := 104) at_136_103 rfl rfl rfl ?_
  refine qa_bi (nx := 106) (v := nI 13) at_136_104 (by decide) rfl ?_
  refine qn_icmp_lt (tg := 122) (nx := 109) at_136_106 rfl rfl (by decide) (by decide) (fun h136_106 => ?_) (fun h => absurd h (by decide))
  refine qa_s (pc' := 123) at_136_122 rfl rfl rfl ?_
  refine qa_s (pc' := 124) at_136_123 rfl rfl rfl ?_
  refine qa_s (pc' := 125) at_136_124 rfl rfl rfl ?_
  refine qa_s (pc' := 127) at_136_125 rfl rfl rfl ?_
  refine qa_s (pc' := 128) at_136_127 rfl rfl rfl ?_
  refine qa_callV (nx := 131) at_136_128 rfl rfl (Nat.le_of_ble_eq_true rfl) rfl rfl rfl (by decide) rfl (by decide) ?_
  show qa _ 140 0 [(0, .ref _), (1, .int _), (2, .int _), (3, .int _), (4, .int _)] [] _ _
  refine o6_q hj hp hx hy h46 ?_
  show qa _ 136 131 _ [] _ _
  refine qa_ic (nx := 132) (v := nI 0) at_136_131 (by decide) rfl ?_
  refine qa_s (pc' := 134) at_136_132 rfl rfl rfl ?_
  show qa _ _ _ [(0, .ref (cl 40 0)), (1, .int (nI j)), (2, .int (nI p)), (3, .int _), (4, .int _), (5, .int _), (6, .int (nI 0))] [] _ _
  refine qa_drop (l1 := [(0, .ref (cl 40 0)), (1, .int (nI j)), (6, .int (nI 0))]) (by intro q hq; simp only [List.mem_cons, List.not_mem_nil, or_false] at hq ⊢; rcases hq with rfl | rfl | rfl <;> simp) (by simp [mj_nd]) ?_
  exact c136_r hj 3 0 _ rfl (hch) k
theorem pf7_q {j p x q : Nat} {y : Int32} (hj : j < 5) (hp : p < 180) (hx : x ≤ 3) (h44 : σ 44 0 p = nI 7) (h45 : σ 45 0 p = nI x) (h46 : σ 46 0 p = y) (h47 : σ 47 0 p = nI q) (hq : q < 180) (hch : chR (opM (stpM σ j) j p 7 x y) j 3) (k : Q none (pfM σ j p)) : qa cst 136 0 [(0, .ref (cl 40 0)), (1, .int (nI j)), (2, .int (nI p))] [] σ Q := by
  simp only [pfM, h44, h45, h46, nN_n (show 7 < 2 ^ 31 by decide), nN_n (show x < 2 ^ 31 by omega)] at k
  rw [if_neg (fun g => absurd g.1 (by decide))] at k
  refine qa_s (pc' := 1) at_136_0 rfl rfl rfl ?_
  refine qa_getR (nx := 4) at_136_1 rfl (by decide) rfl rfl (by decide) ?_
  refine qa_s (pc' := 5) at_136_4 rfl rfl rfl ?_
  refine qa_ialdV (nx := 6) (k := p) (v := nI 7) at_136_5 rfl rfl rfl (by decide) rfl (show p < 180 by omega) (show _ from h44) ?_
  refine qa_s (pc' := 7) at_136_6 rfl rfl rfl ?_
  refine qa_s (pc' := 8) at_136_7 rfl rfl rfl ?_
  refine qa_getR (nx := 11) at_136_8 rfl (by decide) rfl rfl (by decide) ?_
  refine qa_s (pc' := 12) at_136_11 rfl rfl rfl ?_
  refine qa_ialdV (nx := 13) (k := p) (v := y) at_136_12 rfl rfl rfl (by decide) rfl (show p < 180 by omega) (show _ from h46) ?_
  refine qa_s (pc' := 15) at_136_13 rfl rfl rfl ?_
  refine qa_ic (nx := 16) (v := nI 4) at_136_15 (by decide) rfl ?_
  refine qa_s (pc' := 17) at_136_16 rfl rfl rfl ?_
  refine qa_mulN (nx := 18) at_136_17 rfl ?_
  refine qa_s (pc' := 19) at_136_18 rfl rfl rfl ?_
  refine qa_getR (nx := 22) at_136_19 rfl (by decide) rfl rfl (by decide) ?_
  refine qa_s (pc' := 23) at_136_22 rfl rfl rfl ?_
  refine qa_ialdV (nx := 24) (k := p) (v := nI x) at_136_23 rfl rfl rfl (by decide) rfl (show p < 180 by omega) (show _ from h45) ?_
  refine qa_addN (nx := 25) at_136_24 rfl ?_
  refine qa_s (pc' := 27) at_136_25 rfl rfl rfl ?_
  refine qa_s (pc' := 28) at_136_27 rfl rfl rfl ?_
  refine qa_getR (nx := 31) at_136_28 rfl (by decide) rfl rfl (by decide) ?_
  refine qa_s (pc' := 32) at_136_31 rfl rfl rfl ?_
  refine qa_s (pc' := 33) at_136_32 rfl rfl rfl ?_
  refine qa_iald (nx := 34) (k := j) at_136_33 rfl rfl rfl (by decide) rfl (show j < 5 by omega) ?_
  refine qa_ic (nx := 35) (v := nI 1) at_136_34 (by decide) rfl ?_
  refine qa_s (pc' := 36) at_136_35 rfl rfl rfl ?_
  refine qa_iast (nx := 37) (k := j) at_136_36 rfl rfl rfl (by decide) rfl (show j < 5 by omega) ?_
  refine qa_s (pc' := 38) at_136_37 rfl rfl rfl ?_
  refine qa_getR (nx := 41) at_136_38 rfl (by decide) rfl rfl (by decide) ?_
  refine qa_s (pc' := 42) at_136_41 rfl rfl rfl ?_
  refine qa_s (pc' := 43) at_136_42 rfl rfl rfl ?_
  refine qa_iald (nx := 44) (k := j) at_136_43 rfl rfl rfl (by decide) rfl (show j < 5 by omega) ?_
  refine qa_ic (nx := 45) (v := nI 1) at_136_44 (by decide) rfl ?_
  refine qa_s (pc' := 46) at_136_45 rfl rfl rfl ?_
  refine qa_iast (nx := 47) (k := j) at_136_46 rfl rfl rfl (by decide) rfl (show j < 5 by omega) ?_
  refine qa_s (pc' := 48) at_136_47 rfl rfl rfl ?_
  refine qa_ic (nx := 49) (v := nI 2) at_136_48 (by decide) rfl ?_
  refine qn_icmp_ne (tg := 73) (nx := 52) at_136_49 rfl rfl (by decide) (by decide) (fun h136_49 => ?_) (fun h => absurd h (by decide))
  refine qa_s (pc' := 74) at_136_73 rfl rfl rfl ?_
  refine qa_ic (nx := 75) (v := nI 4) at_136_74 (by decide) rfl ?_
  refine qn_icmp_le (tg := 90) (nx := 78) at_136_75 rfl rfl (by decide) (by decide) (fun h => absurd h (by decide)) (fun h136_75 => ?_)
  refine qa_s (pc' := 79) at_136_78 rfl rfl rfl ?_
  refine qa_bi (nx := 81) (v := nI 11) at_136_79 (by decide) rfl ?_
  refine qn_icmp_eq (tg := 90) (nx := 84) at_136_81 rfl rfl (by decide) (by decide) (fun h => absurd h (by decide)) (fun h136_81 => ?_)
  refine qa_s (pc' := 85) at_136_84 rfl rfl rfl ?_
  refine qa_bi (nx := 87) (v := nI 12) at_136_85 (by decide) rfl ?_
  refine qn_icmp_ne (tg := 103) (nx := 90) at_136_87 rfl rfl (by decide) (by decide) (fun h136_87 => ?_) (fun h => absurd h (by decide))
  refine qa_s (pc' := 104) at_136_103 rfl rfl rfl ?_
  refine qa_bi (nx := 106) (v := nI 13) at_136_104 (by decide) rfl ?_
  refine qn_icmp_lt (tg := 122) (nx := 109) at_136_106 rfl rfl (by decide) (by decide) (fun h136_106 => ?_) (fun h => absurd h (by decide))
  refine qa_s (pc' := 123) at_136_122 rfl rfl rfl ?_
  refine qa_s (pc' := 124) at_136_123 rfl rfl rfl ?_
  refine qa_s (pc' := 125) at_136_124 rfl rfl rfl ?_
  refine qa_s (pc' := 127) at_136_125 rfl rfl rfl ?_
  refine qa_s (pc' := 128) at_136_127 rfl rfl rfl ?_
  refine qa_callV (nx := 131) at_136_128 rfl rfl (Nat.le_of_ble_eq_true rfl) rfl rfl rfl (by decide) rfl (by decide) ?_
  show qa _ 140 0 [(0, .ref _), (1, .int _), (2, .int _), (3, .int _), (4, .int _)] [] _ _
  refine o7_q (y := y) hj hp hx h47 hq ?_
  show qa _ 136 131 _ [] _ _
  refine qa_ic (nx := 132) (v := nI 0) at_136_131 (by decide) rfl ?_
  refine qa_s (pc' := 134) at_136_132 rfl rfl rfl ?_
  show qa _ _ _ [(0, .ref (cl 40 0)), (1, .int (nI j)), (2, .int (nI p)), (3, .int _), (4, .int _), (5, .int _), (6, .int (nI 0))] [] _ _
  refine qa_drop (l1 := [(0, .ref (cl 40 0)), (1, .int (nI j)), (6, .int (nI 0))]) (by intro q hq; simp only [List.mem_cons, List.not_mem_nil, or_false] at hq ⊢; rcases hq with rfl | rfl | rfl <;> simp) (by simp [mj_nd]) ?_
  exact c136_r hj 3 0 _ rfl (hch) k
theorem pf8_q {j p x : Nat} {y : Nat} (hj : j < 5) (hp : p < 180) (hx : x ≤ 3) (h44 : σ 44 0 p = nI 8) (h45 : σ 45 0 p = nI x) (h46 : σ 46 0 p = (nI y)) (hy : y ≤ 3) (hch : chR (opM (stpM σ j) j p 8 x (nI y)) j 3) (k : Q none (pfM σ j p)) : qa cst 136 0 [(0, .ref (cl 40 0)), (1, .int (nI j)), (2, .int (nI p))] [] σ Q := by
  simp only [pfM, h44, h45, h46, nN_n (show 8 < 2 ^ 31 by decide), nN_n (show x < 2 ^ 31 by omega), nN_n (show y < 2 ^ 31 by omega)] at k
  rw [if_neg (fun g => absurd g.1 (by decide))] at k
  refine qa_s (pc' := 1) at_136_0 rfl rfl rfl ?_
  refine qa_getR (nx := 4) at_136_1 rfl (by decide) rfl rfl (by decide) ?_
  refine qa_s (pc' := 5) at_136_4 rfl rfl rfl ?_
  refine qa_ialdV (nx := 6) (k := p) (v := nI 8) at_136_5 rfl rfl rfl (by decide) rfl (show p < 180 by omega) (show _ from h44) ?_
  refine qa_s (pc' := 7) at_136_6 rfl rfl rfl ?_
  refine qa_s (pc' := 8) at_136_7 rfl rfl rfl ?_
  refine qa_getR (nx := 11) at_136_8 rfl (by decide) rfl rfl (by decide) ?_
  refine qa_s (pc' := 12) at_136_11 rfl rfl rfl ?_
  refine qa_ialdV (nx := 13) (k := p) (v := (nI y)) at_136_12 rfl rfl rfl (by decide) rfl (show p < 180 by omega) (show _ from h46) ?_
  refine qa_s (pc' := 15) at_136_13 rfl rfl rfl ?_
  refine qa_ic (nx := 16) (v := nI 4) at_136_15 (by decide) rfl ?_
  refine qa_s (pc' := 17) at_136_16 rfl rfl rfl ?_
  refine qa_mulN (nx := 18) at_136_17 rfl ?_
  refine qa_s (pc' := 19) at_136_18 rfl rfl rfl ?_
  refine qa_getR (nx := 22) at_136_19 rfl (by decide) rfl rfl (by decide) ?_
  refine qa_s (pc' := 23) at_136_22 rfl rfl rfl ?_
  refine qa_ialdV (nx := 24) (k := p) (v := nI x) at_136_23 rfl rfl rfl (by decide) rfl (show p < 180 by omega) (show _ from h45) ?_
  refine qa_addN (nx := 25) at_136_24 rfl ?_
  refine qa_s (pc' := 27) at_136_25 rfl rfl rfl ?_
  refine qa_s (pc' := 28) at_136_27 rfl rfl rfl ?_
  refine qa_getR (nx := 31) at_136_28 rfl (by decide) rfl rfl (by decide) ?_
  refine qa_s (pc' := 32) at_136_31 rfl rfl rfl ?_
  refine qa_s (pc' := 33) at_136_32 rfl rfl rfl ?_
  refine qa_iald (nx := 34) (k := j) at_136_33 rfl rfl rfl (by decide) rfl (show j < 5 by omega) ?_
  refine qa_ic (nx := 35) (v := nI 1) at_136_34 (by decide) rfl ?_
  refine qa_s (pc' := 36) at_136_35 rfl rfl rfl ?_
  refine qa_iast (nx := 37) (k := j) at_136_36 rfl rfl rfl (by decide) rfl (show j < 5 by omega) ?_
  refine qa_s (pc' := 38) at_136_37 rfl rfl rfl ?_
  refine qa_getR (nx := 41) at_136_38 rfl (by decide) rfl rfl (by decide) ?_
  refine qa_s (pc' := 42) at_136_41 rfl rfl rfl ?_
  refine qa_s (pc' := 43) at_136_42 rfl rfl rfl ?_
  refine qa_iald (nx := 44) (k := j) at_136_43 rfl rfl rfl (by decide) rfl (show j < 5 by omega) ?_
  refine qa_ic (nx := 45) (v := nI 1) at_136_44 (by decide) rfl ?_
  refine qa_s (pc' := 46) at_136_45 rfl rfl rfl ?_
  refine qa_iast (nx := 47) (k := j) at_136_46 rfl rfl rfl (by decide) rfl (show j < 5 by omega) ?_
  refine qa_s (pc' := 48) at_136_47 rfl rfl rfl ?_
  refine qa_ic (nx := 49) (v := nI 2) at_136_48 (by decide) rfl ?_
  refine qn_icmp_ne (tg := 73) (nx := 52) at_136_49 rfl rfl (by decide) (by decide) (fun h136_49 => ?_) (fun h => absurd h (by decide))
  refine qa_s (pc' := 74) at_136_73 rfl rfl rfl ?_
  refine qa_ic (nx := 75) (v := nI 4) at_136_74 (by decide) rfl ?_
  refine qn_icmp_le (tg := 90) (nx := 78) at_136_75 rfl rfl (by decide) (by decide) (fun h => absurd h (by decide)) (fun h136_75 => ?_)
  refine qa_s (pc' := 79) at_136_78 rfl rfl rfl ?_
  refine qa_bi (nx := 81) (v := nI 11) at_136_79 (by decide) rfl ?_
  refine qn_icmp_eq (tg := 90) (nx := 84) at_136_81 rfl rfl (by decide) (by decide) (fun h => absurd h (by decide)) (fun h136_81 => ?_)
  refine qa_s (pc' := 85) at_136_84 rfl rfl rfl ?_
  refine qa_bi (nx := 87) (v := nI 12) at_136_85 (by decide) rfl ?_
  refine qn_icmp_ne (tg := 103) (nx := 90) at_136_87 rfl rfl (by decide) (by decide) (fun h136_87 => ?_) (fun h => absurd h (by decide))
  refine qa_s (pc' := 104) at_136_103 rfl rfl rfl ?_
  refine qa_bi (nx := 106) (v := nI 13) at_136_104 (by decide) rfl ?_
  refine qn_icmp_lt (tg := 122) (nx := 109) at_136_106 rfl rfl (by decide) (by decide) (fun h136_106 => ?_) (fun h => absurd h (by decide))
  refine qa_s (pc' := 123) at_136_122 rfl rfl rfl ?_
  refine qa_s (pc' := 124) at_136_123 rfl rfl rfl ?_
  refine qa_s (pc' := 125) at_136_124 rfl rfl rfl ?_
  refine qa_s (pc' := 127) at_136_125 rfl rfl rfl ?_
  refine qa_s (pc' := 128) at_136_127 rfl rfl rfl ?_
  refine qa_callV (nx := 131) at_136_128 rfl rfl (Nat.le_of_ble_eq_true rfl) rfl rfl rfl (by decide) rfl (by decide) ?_
  show qa _ 140 0 [(0, .ref _), (1, .int _), (2, .int _), (3, .int _), (4, .int _)] [] _ _
  refine o8_q hj hp hx hy h46 ?_
  show qa _ 136 131 _ [] _ _
  refine qa_ic (nx := 132) (v := nI 0) at_136_131 (by decide) rfl ?_
  refine qa_s (pc' := 134) at_136_132 rfl rfl rfl ?_
  show qa _ _ _ [(0, .ref (cl 40 0)), (1, .int (nI j)), (2, .int (nI p)), (3, .int _), (4, .int _), (5, .int _), (6, .int (nI 0))] [] _ _
  refine qa_drop (l1 := [(0, .ref (cl 40 0)), (1, .int (nI j)), (6, .int (nI 0))]) (by intro q hq; simp only [List.mem_cons, List.not_mem_nil, or_false] at hq ⊢; rcases hq with rfl | rfl | rfl <;> simp) (by simp [mj_nd]) ?_
  exact c136_r hj 3 0 _ rfl (hch) k
theorem pf9_q {j p x q : Nat} {y : Int32} (hj : j < 5) (hp : p < 180) (hx : x ≤ 3) (h44 : σ 44 0 p = nI 9) (h45 : σ 45 0 p = nI x) (h46 : σ 46 0 p = y) (h47 : σ 47 0 p = nI q) (hq : q < 180) (hch : chR (opM (stpM σ j) j p 9 x y) j 3) (k : Q none (pfM σ j p)) : qa cst 136 0 [(0, .ref (cl 40 0)), (1, .int (nI j)), (2, .int (nI p))] [] σ Q := by
  simp only [pfM, h44, h45, h46, nN_n (show 9 < 2 ^ 31 by decide), nN_n (show x < 2 ^ 31 by omega)] at k
  rw [if_neg (fun g => absurd g.1 (by decide))] at k
  refine qa_s (pc' := 1) at_136_0 rfl rfl rfl ?_
  refine qa_getR (nx := 4) at_136_1 rfl (by decide) rfl rfl (by decide) ?_
  refine qa_s (pc' := 5) at_136_4 rfl rfl rfl ?_
  refine qa_ialdV (nx := 6) (k := p) (v := nI 9) at_136_5 rfl rfl rfl (by decide) rfl (show p < 180 by omega) (show _ from h44) ?_
  refine qa_s (pc' := 7) at_136_6 rfl rfl rfl ?_
  refine qa_s (pc' := 8) at_136_7 rfl rfl rfl ?_
  refine qa_getR (nx := 11) at_136_8 rfl (by decide) rfl rfl (by decide) ?_
  refine qa_s (pc' := 12) at_136_11 rfl rfl rfl ?_
  refine qa_ialdV (nx := 13) (k := p) (v := y) at_136_12 rfl rfl rfl (by decide) rfl (show p < 180 by omega) (show _ from h46) ?_
  refine qa_s (pc' := 15) at_136_13 rfl rfl rfl ?_
  refine qa_ic (nx := 16) (v := nI 4) at_136_15 (by decide) rfl ?_
  refine qa_s (pc' := 17) at_136_16 rfl rfl rfl ?_
  refine qa_mulN (nx := 18) at_136_17 rfl ?_
  refine qa_s (pc' := 19) at_136_18 rfl rfl rfl ?_
  refine qa_getR (nx := 22) at_136_19 rfl (by decide) rfl rfl (by decide) ?_
  refine qa_s (pc' := 23) at_136_22 rfl rfl rfl ?_
  refine qa_ialdV (nx := 24) (k := p) (v := nI x) at_136_23 rfl rfl rfl (by decide) rfl (show p < 180 by omega) (show _ from h45) ?_
  refine qa_addN (nx := 25) at_136_24 rfl ?_
  refine qa_s (pc' := 27) at_136_25 rfl rfl rfl ?_
  refine qa_s (pc' := 28) at_136_27 rfl rfl rfl ?_
  refine qa_getR (nx := 31) at_136_28 rfl (by decide) rfl rfl (by decide) ?_
  refine qa_s (pc' := 32) at_136_31 rfl rfl rfl ?_
  refine qa_s (pc' := 33) at_136_32 rfl rfl rfl ?_
  refine qa_iald (nx := 34) (k := j) at_136_33 rfl rfl rfl (by decide) rfl (show j < 5 by omega) ?_
  refine qa_ic (nx := 35) (v := nI 1) at_136_34 (by decide) rfl ?_
  refine qa_s (pc' := 36) at_136_35 rfl rfl rfl ?_
  refine qa_iast (nx := 37) (k := j) at_136_36 rfl rfl rfl (by decide) rfl (show j < 5 by omega) ?_
  refine qa_s (pc' := 38) at_136_37 rfl rfl rfl ?_
  refine qa_getR (nx := 41) at_136_38 rfl (by decide) rfl rfl (by decide) ?_
  refine qa_s (pc' := 42) at_136_41 rfl rfl rfl ?_
  refine qa_s (pc' := 43) at_136_42 rfl rfl rfl ?_
  refine qa_iald (nx := 44) (k := j) at_136_43 rfl rfl rfl (by decide) rfl (show j < 5 by omega) ?_
  refine qa_ic (nx := 45) (v := nI 1) at_136_44 (by decide) rfl ?_
  refine qa_s (pc' := 46) at_136_45 rfl rfl rfl ?_
  refine qa_iast (nx := 47) (k := j) at_136_46 rfl rfl rfl (by decide) rfl (show j < 5 by omega) ?_
  refine qa_s (pc' := 48) at_136_47 rfl rfl rfl ?_
  refine qa_ic (nx := 49) (v := nI 2) at_136_48 (by decide) rfl ?_
  refine qn_icmp_ne (tg := 73) (nx := 52) at_136_49 rfl rfl (by decide) (by decide) (fun h136_49 => ?_) (fun h => absurd h (by decide))
  refine qa_s (pc' := 74) at_136_73 rfl rfl rfl ?_
  refine qa_ic (nx := 75) (v := nI 4) at_136_74 (by decide) rfl ?_
  refine qn_icmp_le (tg := 90) (nx := 78) at_136_75 rfl rfl (by decide) (by decide) (fun h => absurd h (by decide)) (fun h136_75 => ?_)
  refine qa_s (pc' := 79) at_136_78 rfl rfl rfl ?_
  refine qa_bi (nx := 81) (v := nI 11) at_136_79 (by decide) rfl ?_
  refine qn_icmp_eq (tg := 90) (nx := 84) at_136_81 rfl rfl (by decide) (by decide) (fun h => absurd h (by decide)) (fun h136_81 => ?_)
  refine qa_s (pc' := 85) at_136_84 rfl rfl rfl ?_
  refine qa_bi (nx := 87) (v := nI 12) at_136_85 (by decide) rfl ?_
  refine qn_icmp_ne (tg := 103) (nx := 90) at_136_87 rfl rfl (by decide) (by decide) (fun h136_87 => ?_) (fun h => absurd h (by decide))
  refine qa_s (pc' := 104) at_136_103 rfl rfl rfl ?_
  refine qa_bi (nx := 106) (v := nI 13) at_136_104 (by decide) rfl ?_
  refine qn_icmp_lt (tg := 122) (nx := 109) at_136_106 rfl rfl (by decide) (by decide) (fun h136_106 => ?_) (fun h => absurd h (by decide))
  refine qa_s (pc' := 123) at_136_122 rfl rfl rfl ?_
  refine qa_s (pc' := 124) at_136_123 rfl rfl rfl ?_
  refine qa_s (pc' := 125) at_136_124 rfl rfl rfl ?_
  refine qa_s (pc' := 127) at_136_125 rfl rfl rfl ?_
  refine qa_s (pc' := 128) at_136_127 rfl rfl rfl ?_
  refine qa_callV (nx := 131) at_136_128 rfl rfl (Nat.le_of_ble_eq_true rfl) rfl rfl rfl (by decide) rfl (by decide) ?_
  show qa _ 140 0 [(0, .ref _), (1, .int _), (2, .int _), (3, .int _), (4, .int _)] [] _ _
  refine o9_q (y := y) hj hp hx h47 hq ?_
  show qa _ 136 131 _ [] _ _
  refine qa_ic (nx := 132) (v := nI 0) at_136_131 (by decide) rfl ?_
  refine qa_s (pc' := 134) at_136_132 rfl rfl rfl ?_
  show qa _ _ _ [(0, .ref (cl 40 0)), (1, .int (nI j)), (2, .int (nI p)), (3, .int _), (4, .int _), (5, .int _), (6, .int (nI 0))] [] _ _
  refine qa_drop (l1 := [(0, .ref (cl 40 0)), (1, .int (nI j)), (6, .int (nI 0))]) (by intro q hq; simp only [List.mem_cons, List.not_mem_nil, or_false] at hq ⊢; rcases hq with rfl | rfl | rfl <;> simp) (by simp [mj_nd]) ?_
  exact c136_r hj 3 0 _ rfl (hch) k
theorem pf10_q {j p x : Nat} {y : Nat} (hj : j < 5) (hp : p < 180) (hx : x ≤ 3) (h44 : σ 44 0 p = nI 10) (h45 : σ 45 0 p = nI x) (h46 : σ 46 0 p = (nI y)) (hy : y ≤ 2) (hch : chR (opM (stpM σ j) j p 10 x (nI y)) j 3) (k : Q none (pfM σ j p)) : qa cst 136 0 [(0, .ref (cl 40 0)), (1, .int (nI j)), (2, .int (nI p))] [] σ Q := by
  simp only [pfM, h44, h45, h46, nN_n (show 10 < 2 ^ 31 by decide), nN_n (show x < 2 ^ 31 by omega), nN_n (show y < 2 ^ 31 by omega)] at k
  rw [if_neg (fun g => absurd g.1 (by decide))] at k
  refine qa_s (pc' := 1) at_136_0 rfl rfl rfl ?_
  refine qa_getR (nx := 4) at_136_1 rfl (by decide) rfl rfl (by decide) ?_
  refine qa_s (pc' := 5) at_136_4 rfl rfl rfl ?_
  refine qa_ialdV (nx := 6) (k := p) (v := nI 10) at_136_5 rfl rfl rfl (by decide) rfl (show p < 180 by omega) (show _ from h44) ?_
  refine qa_s (pc' := 7) at_136_6 rfl rfl rfl ?_
  refine qa_s (pc' := 8) at_136_7 rfl rfl rfl ?_
  refine qa_getR (nx := 11) at_136_8 rfl (by decide) rfl rfl (by decide) ?_
  refine qa_s (pc' := 12) at_136_11 rfl rfl rfl ?_
  refine qa_ialdV (nx := 13) (k := p) (v := (nI y)) at_136_12 rfl rfl rfl (by decide) rfl (show p < 180 by omega) (show _ from h46) ?_
  refine qa_s (pc' := 15) at_136_13 rfl rfl rfl ?_
  refine qa_ic (nx := 16) (v := nI 4) at_136_15 (by decide) rfl ?_
  refine qa_s (pc' := 17) at_136_16 rfl rfl rfl ?_
  refine qa_mulN (nx := 18) at_136_17 rfl ?_
  refine qa_s (pc' := 19) at_136_18 rfl rfl rfl ?_
  refine qa_getR (nx := 22) at_136_19 rfl (by decide) rfl rfl (by decide) ?_
  refine qa_s (pc' := 23) at_136_22 rfl rfl rfl ?_
  refine qa_ialdV (nx := 24) (k := p) (v := nI x) at_136_23 rfl rfl rfl (by decide) rfl (show p < 180 by omega) (show _ from h45) ?_
  refine qa_addN (nx := 25) at_136_24 rfl ?_
  refine qa_s (pc' := 27) at_136_25 rfl rfl rfl ?_
  refine qa_s (pc' := 28) at_136_27 rfl rfl rfl ?_
  refine qa_getR (nx := 31) at_136_28 rfl (by decide) rfl rfl (by decide) ?_
  refine qa_s (pc' := 32) at_136_31 rfl rfl rfl ?_
  refine qa_s (pc' := 33) at_136_32 rfl rfl rfl ?_
  refine qa_iald (nx := 34) (k := j) at_136_33 rfl rfl rfl (by decide) rfl (show j < 5 by omega) ?_
  refine qa_ic (nx := 35) (v := nI 1) at_136_34 (by decide) rfl ?_
  refine qa_s (pc' := 36) at_136_35 rfl rfl rfl ?_
  refine qa_iast (nx := 37) (k := j) at_136_36 rfl rfl rfl (by decide) rfl (show j < 5 by omega) ?_
  refine qa_s (pc' := 38) at_136_37 rfl rfl rfl ?_
  refine qa_getR (nx := 41) at_136_38 rfl (by decide) rfl rfl (by decide) ?_
  refine qa_s (pc' := 42) at_136_41 rfl rfl rfl ?_
  refine qa_s (pc' := 43) at_136_42 rfl rfl rfl ?_
  refine qa_iald (nx := 44) (k := j) at_136_43 rfl rfl rfl (by decide) rfl (show j < 5 by omega) ?_
  refine qa_ic (nx := 45) (v := nI 1) at_136_44 (by decide) rfl ?_
  refine qa_s (pc' := 46) at_136_45 rfl rfl rfl ?_
  refine qa_iast (nx := 47) (k := j) at_136_46 rfl rfl rfl (by decide) rfl (show j < 5 by omega) ?_
  refine qa_s (pc' := 48) at_136_47 rfl rfl rfl ?_
  refine qa_ic (nx := 49) (v := nI 2) at_136_48 (by decide) rfl ?_
  refine qn_icmp_ne (tg := 73) (nx := 52) at_136_49 rfl rfl (by decide) (by decide) (fun h136_49 => ?_) (fun h => absurd h (by decide))
  refine qa_s (pc' := 74) at_136_73 rfl rfl rfl ?_
  refine qa_ic (nx := 75) (v := nI 4) at_136_74 (by decide) rfl ?_
  refine qn_icmp_le (tg := 90) (nx := 78) at_136_75 rfl rfl (by decide) (by decide) (fun h => absurd h (by decide)) (fun h136_75 => ?_)
  refine qa_s (pc' := 79) at_136_78 rfl rfl rfl ?_
  refine qa_bi (nx := 81) (v := nI 11) at_136_79 (by decide) rfl ?_
  refine qn_icmp_eq (tg := 90) (nx := 84) at_136_81 rfl rfl (by decide) (by decide) (fun h => absurd h (by decide)) (fun h136_81 => ?_)
  refine qa_s (pc' := 85) at_136_84 rfl rfl rfl ?_
  refine qa_bi (nx := 87) (v := nI 12) at_136_85 (by decide) rfl ?_
  refine qn_icmp_ne (tg := 103) (nx := 90) at_136_87 rfl rfl (by decide) (by decide) (fun h136_87 => ?_) (fun h => absurd h (by decide))
  refine qa_s (pc' := 104) at_136_103 rfl rfl rfl ?_
  refine qa_bi (nx := 106) (v := nI 13) at_136_104 (by decide) rfl ?_
  refine qn_icmp_lt (tg := 122) (nx := 109) at_136_106 rfl rfl (by decide) (by decide) (fun h136_106 => ?_) (fun h => absurd h (by decide))
  refine qa_s (pc' := 123) at_136_122 rfl rfl rfl ?_
  refine qa_s (pc' := 124) at_136_123 rfl rfl rfl ?_
  refine qa_s (pc' := 125) at_136_124 rfl rfl rfl ?_
  refine qa_s (pc' := 127) at_136_125 rfl rfl rfl ?_
  refine qa_s (pc' := 128) at_136_127 rfl rfl rfl ?_
  refine qa_callV (nx := 131) at_136_128 rfl rfl (Nat.le_of_ble_eq_true rfl) rfl rfl rfl (by decide) rfl (by decide) ?_
  show qa _ 140 0 [(0, .ref _), (1, .int _), (2, .int _), (3, .int _), (4, .int _)] [] _ _
  refine o10_q hj hp hx hy h46 ?_
  show qa _ 136 131 _ [] _ _
  refine qa_ic (nx := 132) (v := nI 0) at_136_131 (by decide) rfl ?_
  refine qa_s (pc' := 134) at_136_132 rfl rfl rfl ?_
  show qa _ _ _ [(0, .ref (cl 40 0)), (1, .int (nI j)), (2, .int (nI p)), (3, .int _), (4, .int _), (5, .int _), (6, .int (nI 0))] [] _ _
  refine qa_drop (l1 := [(0, .ref (cl 40 0)), (1, .int (nI j)), (6, .int (nI 0))]) (by intro q hq; simp only [List.mem_cons, List.not_mem_nil, or_false] at hq ⊢; rcases hq with rfl | rfl | rfl <;> simp) (by simp [mj_nd]) ?_
  exact c136_r hj 3 0 _ rfl (hch) k
theorem pf11_q {j p x : Nat} {y : Nat} (hj : j < 5) (hp : p < 180) (hx : x ≤ 3) (h44 : σ 44 0 p = nI 11) (h45 : σ 45 0 p = nI x) (h46 : σ 46 0 p = (nI y)) (hy : y ≤ 1) (hch : chR (opM (stpM σ j) j p 11 x (nI y)) j 3) (k : Q none (pfM σ j p)) : qa cst 136 0 [(0, .ref (cl 40 0)), (1, .int (nI j)), (2, .int (nI p))] [] σ Q := by
  simp only [pfM, h44, h45, h46, nN_n (show 11 < 2 ^ 31 by decide), nN_n (show x < 2 ^ 31 by omega), nN_n (show y < 2 ^ 31 by omega)] at k
  rw [if_neg (fun g => absurd g.1 (by decide))] at k
  refine qa_s (pc' := 1) at_136_0 rfl rfl rfl ?_
  refine qa_getR (nx := 4) at_136_1 rfl (by decide) rfl rfl (by decide) ?_
  refine qa_s (pc' := 5) at_136_4 rfl rfl rfl ?_
  refine qa_ialdV (nx := 6) (k := p) (v := nI 11) at_136_5 rfl rfl rfl (by decide) rfl (show p < 180 by omega) (show _ from h44) ?_
  refine qa_s (pc' := 7) at_136_6 rfl rfl rfl ?_
  refine qa_s (pc' := 8) at_136_7 rfl rfl rfl ?_
  refine qa_getR (nx := 11) at_136_8 rfl (by decide) rfl rfl (by decide) ?_
  refine qa_s (pc' := 12) at_136_11 rfl rfl rfl ?_
  refine qa_ialdV (nx := 13) (k := p) (v := (nI y)) at_136_12 rfl rfl rfl (by decide) rfl (show p < 180 by omega) (show _ from h46) ?_
  refine qa_s (pc' := 15) at_136_13 rfl rfl rfl ?_
  refine qa_ic (nx := 16) (v := nI 4) at_136_15 (by decide) rfl ?_
  refine qa_s (pc' := 17) at_136_16 rfl rfl rfl ?_
  refine qa_mulN (nx := 18) at_136_17 rfl ?_
  refine qa_s (pc' := 19) at_136_18 rfl rfl rfl ?_
  refine qa_getR (nx := 22) at_136_19 rfl (by decide) rfl rfl (by decide) ?_
  refine qa_s (pc' := 23) at_136_22 rfl rfl rfl ?_
  refine qa_ialdV (nx := 24) (k := p) (v := nI x) at_136_23 rfl rfl rfl (by decide) rfl (show p < 180 by omega) (show _ from h45) ?_
  refine qa_addN (nx := 25) at_136_24 rfl ?_
  refine qa_s (pc' := 27) at_136_25 rfl rfl rfl ?_
  refine qa_s (pc' := 28) at_136_27 rfl rfl rfl ?_
  refine qa_getR (nx := 31) at_136_28 rfl (by decide) rfl rfl (by decide) ?_
  refine qa_s (pc' := 32) at_136_31 rfl rfl rfl ?_
  refine qa_s (pc' := 33) at_136_32 rfl rfl rfl ?_
  refine qa_iald (nx := 34) (k := j) at_136_33 rfl rfl rfl (by decide) rfl (show j < 5 by omega) ?_
  refine qa_ic (nx := 35) (v := nI 1) at_136_34 (by decide) rfl ?_
  refine qa_s (pc' := 36) at_136_35 rfl rfl rfl ?_
  refine qa_iast (nx := 37) (k := j) at_136_36 rfl rfl rfl (by decide) rfl (show j < 5 by omega) ?_
  refine qa_s (pc' := 38) at_136_37 rfl rfl rfl ?_
  refine qa_getR (nx := 41) at_136_38 rfl (by decide) rfl rfl (by decide) ?_
  refine qa_s (pc' := 42) at_136_41 rfl rfl rfl ?_
  refine qa_s (pc' := 43) at_136_42 rfl rfl rfl ?_
  refine qa_iald (nx := 44) (k := j) at_136_43 rfl rfl rfl (by decide) rfl (show j < 5 by omega) ?_
  refine qa_ic (nx := 45) (v := nI 1) at_136_44 (by decide) rfl ?_
  refine qa_s (pc' := 46) at_136_45 rfl rfl rfl ?_
  refine qa_iast (nx := 47) (k := j) at_136_46 rfl rfl rfl (by decide) rfl (show j < 5 by omega) ?_
  refine qa_s (pc' := 48) at_136_47 rfl rfl rfl ?_
  refine qa_ic (nx := 49) (v := nI 2) at_136_48 (by decide) rfl ?_
  refine qn_icmp_ne (tg := 73) (nx := 52) at_136_49 rfl rfl (by decide) (by decide) (fun h136_49 => ?_) (fun h => absurd h (by decide))
  refine qa_s (pc' := 74) at_136_73 rfl rfl rfl ?_
  refine qa_ic (nx := 75) (v := nI 4) at_136_74 (by decide) rfl ?_
  refine qn_icmp_le (tg := 90) (nx := 78) at_136_75 rfl rfl (by decide) (by decide) (fun h => absurd h (by decide)) (fun h136_75 => ?_)
  refine qa_s (pc' := 79) at_136_78 rfl rfl rfl ?_
  refine qa_bi (nx := 81) (v := nI 11) at_136_79 (by decide) rfl ?_
  refine qn_icmp_eq (tg := 90) (nx := 84) at_136_81 rfl rfl (by decide) (by decide) (fun h136_81 => ?_) (fun h => absurd h (by decide))
  refine qa_s (pc' := 91) at_136_90 rfl rfl rfl ?_
  refine qa_s (pc' := 92) at_136_91 rfl rfl rfl ?_
  refine qa_s (pc' := 93) at_136_92 rfl rfl rfl ?_
  refine qa_s (pc' := 95) at_136_93 rfl rfl rfl ?_
  refine qa_s (pc' := 97) at_136_95 rfl rfl rfl ?_
  refine qa_callV (nx := 100) at_136_97 rfl rfl (Nat.le_of_ble_eq_true rfl) rfl rfl rfl (by decide) rfl (by decide) ?_
  show qa _ 138 0 [(0, .ref _), (1, .int _), (2, .int _), (3, .int _), (4, .int _)] [] _ _
  refine o11_q (p := p) hj hp hx hy ?_
  show qa _ 136 100 _ [] _ _
  refine qa_goto (nx := 131) at_136_100 rfl ?_
  refine qa_ic (nx := 132) (v := nI 0) at_136_131 (by decide) rfl ?_
  refine qa_s (pc' := 134) at_136_132 rfl rfl rfl ?_
  show qa _ _ _ [(0, .ref (cl 40 0)), (1, .int (nI j)), (2, .int (nI p)), (3, .int _), (4, .int _), (5, .int _), (6, .int (nI 0))] [] _ _
  refine qa_drop (l1 := [(0, .ref (cl 40 0)), (1, .int (nI j)), (6, .int (nI 0))]) (by intro q hq; simp only [List.mem_cons, List.not_mem_nil, or_false] at hq ⊢; rcases hq with rfl | rfl | rfl <;> simp) (by simp [mj_nd]) ?_
  exact c136_r hj 3 0 _ rfl (hch) k
theorem pf12_q {j p x : Nat} {y : Nat} (hj : j < 5) (hp : p < 180) (hx : x ≤ 3) (h44 : σ 44 0 p = nI 12) (h45 : σ 45 0 p = nI x) (h46 : σ 46 0 p = (nI y)) (hy : y ≤ 0) (hch : chR (opM (stpM σ j) j p 12 x (nI y)) j 3) (k : Q none (pfM σ j p)) : qa cst 136 0 [(0, .ref (cl 40 0)), (1, .int (nI j)), (2, .int (nI p))] [] σ Q := by
  simp only [pfM, h44, h45, h46, nN_n (show 12 < 2 ^ 31 by decide), nN_n (show x < 2 ^ 31 by omega), nN_n (show y < 2 ^ 31 by omega)] at k
  rw [if_neg (fun g => absurd g.1 (by decide))] at k
  refine qa_s (pc' := 1) at_136_0 rfl rfl rfl ?_
  refine qa_getR (nx := 4) at_136_1 rfl (by decide) rfl rfl (by decide) ?_
  refine qa_s (pc' := 5) at_136_4 rfl rfl rfl ?_
  refine qa_ialdV (nx := 6) (k := p) (v := nI 12) at_136_5 rfl rfl rfl (by decide) rfl (show p < 180 by omega) (show _ from h44) ?_
  refine qa_s (pc' := 7) at_136_6 rfl rfl rfl ?_
  refine qa_s (pc' := 8) at_136_7 rfl rfl rfl ?_
  refine qa_getR (nx := 11) at_136_8 rfl (by decide) rfl rfl (by decide) ?_
  refine qa_s (pc' := 12) at_136_11 rfl rfl rfl ?_
  refine qa_ialdV (nx := 13) (k := p) (v := (nI y)) at_136_12 rfl rfl rfl (by decide) rfl (show p < 180 by omega) (show _ from h46) ?_
  refine qa_s (pc' := 15) at_136_13 rfl rfl rfl ?_
  refine qa_ic (nx := 16) (v := nI 4) at_136_15 (by decide) rfl ?_
  refine qa_s (pc' := 17) at_136_16 rfl rfl rfl ?_
  refine qa_mulN (nx := 18) at_136_17 rfl ?_
  refine qa_s (pc' := 19) at_136_18 rfl rfl rfl ?_
  refine qa_getR (nx := 22) at_136_19 rfl (by decide) rfl rfl (by decide) ?_
  refine qa_s (pc' := 23) at_136_22 rfl rfl rfl ?_
  refine qa_ialdV (nx := 24) (k := p) (v := nI x) at_136_23 rfl rfl rfl (by decide) rfl (show p < 180 by omega) (show _ from h45) ?_
  refine qa_addN (nx := 25) at_136_24 rfl ?_
  refine qa_s (pc' := 27) at_136_25 rfl rfl rfl ?_
  refine qa_s (pc' := 28) at_136_27 rfl rfl rfl ?_
  refine qa_getR (nx := 31) at_136_28 rfl (by decide) rfl rfl (by decide) ?_
  refine qa_s (pc' := 32) at_136_31 rfl rfl rfl ?_
  refine qa_s (pc' := 33) at_136_32 rfl rfl rfl ?_
  refine qa_iald (nx := 34) (k := j) at_136_33 rfl rfl rfl (by decide) rfl (show j < 5 by omega) ?_
  refine qa_ic (nx := 35) (v := nI 1) at_136_34 (by decide) rfl ?_
  refine qa_s (pc' := 36) at_136_35 rfl rfl rfl ?_
  refine qa_iast (nx := 37) (k := j) at_136_36 rfl rfl rfl (by decide) rfl (show j < 5 by omega) ?_
  refine qa_s (pc' := 38) at_136_37 rfl rfl rfl ?_
  refine qa_getR (nx := 41) at_136_38 rfl (by decide) rfl rfl (by decide) ?_
  refine qa_s (pc' := 42) at_136_41 rfl rfl rfl ?_
  refine qa_s (pc' := 43) at_136_42 rfl rfl rfl ?_
  refine qa_iald (nx := 44) (k := j) at_136_43 rfl rfl rfl (by decide) rfl (show j < 5 by omega) ?_
  refine qa_ic (nx := 45) (v := nI 1) at_136_44 (by decide) rfl ?_
  refine qa_s (pc' := 46) at_136_45 rfl rfl rfl ?_
  refine qa_iast (nx := 47) (k := j) at_136_46 rfl rfl rfl (by decide) rfl (show j < 5 by omega) ?_
  refine qa_s (pc' := 48) at_136_47 rfl rfl rfl ?_
  refine qa_ic (nx := 49) (v := nI 2) at_136_48 (by decide) rfl ?_
  refine qn_icmp_ne (tg := 73) (nx := 52) at_136_49 rfl rfl (by decide) (by decide) (fun h136_49 => ?_) (fun h => absurd h (by decide))
  refine qa_s (pc' := 74) at_136_73 rfl rfl rfl ?_
  refine qa_ic (nx := 75) (v := nI 4) at_136_74 (by decide) rfl ?_
  refine qn_icmp_le (tg := 90) (nx := 78) at_136_75 rfl rfl (by decide) (by decide) (fun h => absurd h (by decide)) (fun h136_75 => ?_)
  refine qa_s (pc' := 79) at_136_78 rfl rfl rfl ?_
  refine qa_bi (nx := 81) (v := nI 11) at_136_79 (by decide) rfl ?_
  refine qn_icmp_eq (tg := 90) (nx := 84) at_136_81 rfl rfl (by decide) (by decide) (fun h => absurd h (by decide)) (fun h136_81 => ?_)
  refine qa_s (pc' := 85) at_136_84 rfl rfl rfl ?_
  refine qa_bi (nx := 87) (v := nI 12) at_136_85 (by decide) rfl ?_
  refine qn_icmp_ne (tg := 103) (nx := 90) at_136_87 rfl rfl (by decide) (by decide) (fun h => absurd h (by decide)) (fun h136_87 => ?_)
  refine qa_s (pc' := 91) at_136_90 rfl rfl rfl ?_
  refine qa_s (pc' := 92) at_136_91 rfl rfl rfl ?_
  refine qa_s (pc' := 93) at_136_92 rfl rfl rfl ?_
  refine qa_s (pc' := 95) at_136_93 rfl rfl rfl ?_
  refine qa_s (pc' := 97) at_136_95 rfl rfl rfl ?_
  refine qa_callV (nx := 100) at_136_97 rfl rfl (Nat.le_of_ble_eq_true rfl) rfl rfl rfl (by decide) rfl (by decide) ?_
  show qa _ 138 0 [(0, .ref _), (1, .int _), (2, .int _), (3, .int _), (4, .int _)] [] _ _
  refine o12_q (p := p) hj hp hx hy ?_
  show qa _ 136 100 _ [] _ _
  refine qa_goto (nx := 131) at_136_100 rfl ?_
  refine qa_ic (nx := 132) (v := nI 0) at_136_131 (by decide) rfl ?_
  refine qa_s (pc' := 134) at_136_132 rfl rfl rfl ?_
  show qa _ _ _ [(0, .ref (cl 40 0)), (1, .int (nI j)), (2, .int (nI p)), (3, .int _), (4, .int _), (5, .int _), (6, .int (nI 0))] [] _ _
  refine qa_drop (l1 := [(0, .ref (cl 40 0)), (1, .int (nI j)), (6, .int (nI 0))]) (by intro q hq; simp only [List.mem_cons, List.not_mem_nil, or_false] at hq ⊢; rcases hq with rfl | rfl | rfl <;> simp) (by simp [mj_nd]) ?_
  exact c136_r hj 3 0 _ rfl (hch) k
theorem pf13_q {j p x c : Nat} {y : Nat} (hj : j < 5) (hp : p < 180) (hx : x ≤ 3) (h44 : σ 44 0 p = nI 13) (h45 : σ 45 0 p = nI x) (h46 : σ 46 0 p = (nI y)) (hy : y ≤ 1) (h77 : σ 77 0 y = nI c) (hc : c ≤ 3) (hch : chR (opM (stpM σ j) j p 13 x (nI y)) j 3) (k : Q none (pfM σ j p)) : qa cst 136 0 [(0, .ref (cl 40 0)), (1, .int (nI j)), (2, .int (nI p))] [] σ Q := by
  simp only [pfM, h44, h45, h46, nN_n (show 13 < 2 ^ 31 by decide), nN_n (show x < 2 ^ 31 by omega), nN_n (show y < 2 ^ 31 by omega)] at k
  rw [if_neg (fun g => absurd g.1 (by decide))] at k
  refine qa_s (pc' := 1) at_136_0 rfl rfl rfl ?_
  refine qa_getR (nx := 4) at_136_1 rfl (by decide) rfl rfl (by decide) ?_
  refine qa_s (pc' := 5) at_136_4 rfl rfl rfl ?_
  refine qa_ialdV (nx := 6) (k := p) (v := nI 13) at_136_5 rfl rfl rfl (by decide) rfl (show p < 180 by omega) (show _ from h44) ?_
  refine qa_s (pc' := 7) at_136_6 rfl rfl rfl ?_
  refine qa_s (pc' := 8) at_136_7 rfl rfl rfl ?_
  refine qa_getR (nx := 11) at_136_8 rfl (by decide) rfl rfl (by decide) ?_
  refine qa_s (pc' := 12) at_136_11 rfl rfl rfl ?_
  refine qa_ialdV (nx := 13) (k := p) (v := (nI y)) at_136_12 rfl rfl rfl (by decide) rfl (show p < 180 by omega) (show _ from h46) ?_
  refine qa_s (pc' := 15) at_136_13 rfl rfl rfl ?_
  refine qa_ic (nx := 16) (v := nI 4) at_136_15 (by decide) rfl ?_
  refine qa_s (pc' := 17) at_136_16 rfl rfl rfl ?_
  refine qa_mulN (nx := 18) at_136_17 rfl ?_
  refine qa_s (pc' := 19) at_136_18 rfl rfl rfl ?_
  refine qa_getR (nx := 22) at_136_19 rfl (by decide) rfl rfl (by decide) ?_
  refine qa_s (pc' := 23) at_136_22 rfl rfl rfl ?_
  refine qa_ialdV (nx := 24) (k := p) (v := nI x) at_136_23 rfl rfl rfl (by decide) rfl (show p < 180 by omega) (show _ from h45) ?_
  refine qa_addN (nx := 25) at_136_24 rfl ?_
  refine qa_s (pc' := 27) at_136_25 rfl rfl rfl ?_
  refine qa_s (pc' := 28) at_136_27 rfl rfl rfl ?_
  refine qa_getR (nx := 31) at_136_28 rfl (by decide) rfl rfl (by decide) ?_
  refine qa_s (pc' := 32) at_136_31 rfl rfl rfl ?_
  refine qa_s (pc' := 33) at_136_32 rfl rfl rfl ?_
  refine qa_iald (nx := 34) (k := j) at_136_33 rfl rfl rfl (by decide) rfl (show j < 5 by omega) ?_
  refine qa_ic (nx := 35) (v := nI 1) at_136_34 (by decide) rfl ?_
  refine qa_s (pc' := 36) at_136_35 rfl rfl rfl ?_
  refine qa_iast (nx := 37) (k := j) at_136_36 rfl rfl rfl (by decide) rfl (show j < 5 by omega) ?_
  refine qa_s (pc' := 38) at_136_37 rfl rfl rfl ?_
  refine qa_getR (nx := 41) at_136_38 rfl (by decide) rfl rfl (by decide) ?_
  refine qa_s (pc' := 42) at_136_41 rfl rfl rfl ?_
  refine qa_s (pc' := 43) at_136_42 rfl rfl rfl ?_
  refine qa_iald (nx := 44) (k := j) at_136_43 rfl rfl rfl (by decide) rfl (show j < 5 by omega) ?_
  refine qa_ic (nx := 45) (v := nI 1) at_136_44 (by decide) rfl ?_
  refine qa_s (pc' := 46) at_136_45 rfl rfl rfl ?_
  refine qa_iast (nx := 47) (k := j) at_136_46 rfl rfl rfl (by decide) rfl (show j < 5 by omega) ?_
  refine qa_s (pc' := 48) at_136_47 rfl rfl rfl ?_
  refine qa_ic (nx := 49) (v := nI 2) at_136_48 (by decide) rfl ?_
  refine qn_icmp_ne (tg := 73) (nx := 52) at_136_49 rfl rfl (by decide) (by decide) (fun h136_49 => ?_) (fun h => absurd h (by decide))
  refine qa_s (pc' := 74) at_136_73 rfl rfl rfl ?_
  refine qa_ic (nx := 75) (v := nI 4) at_136_74 (by decide) rfl ?_
  refine qn_icmp_le (tg := 90) (nx := 78) at_136_75 rfl rfl (by decide) (by decide) (fun h => absurd h (by decide)) (fun h136_75 => ?_)
  refine qa_s (pc' := 79) at_136_78 rfl rfl rfl ?_
  refine qa_bi (nx := 81) (v := nI 11) at_136_79 (by decide) rfl ?_
  refine qn_icmp_eq (tg := 90) (nx := 84) at_136_81 rfl rfl (by decide) (by decide) (fun h => absurd h (by decide)) (fun h136_81 => ?_)
  refine qa_s (pc' := 85) at_136_84 rfl rfl rfl ?_
  refine qa_bi (nx := 87) (v := nI 12) at_136_85 (by decide) rfl ?_
  refine qn_icmp_ne (tg := 103) (nx := 90) at_136_87 rfl rfl (by decide) (by decide) (fun h136_87 => ?_) (fun h => absurd h (by decide))
  refine qa_s (pc' := 104) at_136_103 rfl rfl rfl ?_
  refine qa_bi (nx := 106) (v := nI 13) at_136_104 (by decide) rfl ?_
  refine qn_icmp_lt (tg := 122) (nx := 109) at_136_106 rfl rfl (by decide) (by decide) (fun h => absurd h (by decide)) (fun h136_106 => ?_)
  refine qa_s (pc' := 110) at_136_109 rfl rfl rfl ?_
  refine qa_s (pc' := 111) at_136_110 rfl rfl rfl ?_
  refine qa_s (pc' := 112) at_136_111 rfl rfl rfl ?_
  refine qa_s (pc' := 114) at_136_112 rfl rfl rfl ?_
  refine qa_s (pc' := 116) at_136_114 rfl rfl rfl ?_
  refine qa_callV (nx := 119) at_136_116 rfl rfl (Nat.le_of_ble_eq_true rfl) rfl rfl rfl (by decide) rfl (by decide) ?_
  show qa _ 139 0 [(0, .ref _), (1, .int _), (2, .int _), (3, .int _), (4, .int _)] [] _ _
  refine o13_q (p := p) hj hx hy hc h77 ?_
  show qa _ 136 119 _ [] _ _
  refine qa_goto (nx := 131) at_136_119 rfl ?_
  refine qa_ic (nx := 132) (v := nI 0) at_136_131 (by decide) rfl ?_
  refine qa_s (pc' := 134) at_136_132 rfl rfl rfl ?_
  show qa _ _ _ [(0, .ref (cl 40 0)), (1, .int (nI j)), (2, .int (nI p)), (3, .int _), (4, .int _), (5, .int _), (6, .int (nI 0))] [] _ _
  refine qa_drop (l1 := [(0, .ref (cl 40 0)), (1, .int (nI j)), (6, .int (nI 0))]) (by intro q hq; simp only [List.mem_cons, List.not_mem_nil, or_false] at hq ⊢; rcases hq with rfl | rfl | rfl <;> simp) (by simp [mj_nd]) ?_
  exact c136_r hj 3 0 _ rfl (hch) k
theorem pf14_q {j p x c : Nat} {y : Nat} (hj : j < 5) (hp : p < 180) (hx : x ≤ 3) (h44 : σ 44 0 p = nI 14) (h45 : σ 45 0 p = nI x) (h46 : σ 46 0 p = (nI y)) (hy : y ≤ 1) (h77 : σ 77 0 y = nI c) (hc : c ≤ 3) (hch : chR (opM (stpM σ j) j p 14 x (nI y)) j 3) (k : Q none (pfM σ j p)) : qa cst 136 0 [(0, .ref (cl 40 0)), (1, .int (nI j)), (2, .int (nI p))] [] σ Q := by
  simp only [pfM, h44, h45, h46, nN_n (show 14 < 2 ^ 31 by decide), nN_n (show x < 2 ^ 31 by omega), nN_n (show y < 2 ^ 31 by omega)] at k
  rw [if_neg (fun g => absurd g.1 (by decide))] at k
  refine qa_s (pc' := 1) at_136_0 rfl rfl rfl ?_
  refine qa_getR (nx := 4) at_136_1 rfl (by decide) rfl rfl (by decide) ?_
  refine qa_s (pc' := 5) at_136_4 rfl rfl rfl ?_
  refine qa_ialdV (nx := 6) (k := p) (v := nI 14) at_136_5 rfl rfl rfl (by decide) rfl (show p < 180 by omega) (show _ from h44) ?_
  refine qa_s (pc' := 7) at_136_6 rfl rfl rfl ?_
  refine qa_s (pc' := 8) at_136_7 rfl rfl rfl ?_
  refine qa_getR (nx := 11) at_136_8 rfl (by decide) rfl rfl (by decide) ?_
  refine qa_s (pc' := 12) at_136_11 rfl rfl rfl ?_
  refine qa_ialdV (nx := 13) (k := p) (v := (nI y)) at_136_12 rfl rfl rfl (by decide) rfl (show p < 180 by omega) (show _ from h46) ?_
  refine qa_s (pc' := 15) at_136_13 rfl rfl rfl ?_
  refine qa_ic (nx := 16) (v := nI 4) at_136_15 (by decide) rfl ?_
  refine qa_s (pc' := 17) at_136_16 rfl rfl rfl ?_
  refine qa_mulN (nx := 18) at_136_17 rfl ?_
  refine qa_s (pc' := 19) at_136_18 rfl rfl rfl ?_
  refine qa_getR (nx := 22) at_136_19 rfl (by decide) rfl rfl (by decide) ?_
  refine qa_s (pc' := 23) at_136_22 rfl rfl rfl ?_
  refine qa_ialdV (nx := 24) (k := p) (v := nI x) at_136_23 rfl rfl rfl (by decide) rfl (show p < 180 by omega) (show _ from h45) ?_
  refine qa_addN (nx := 25) at_136_24 rfl ?_
  refine qa_s (pc' := 27) at_136_25 rfl rfl rfl ?_
  refine qa_s (pc' := 28) at_136_27 rfl rfl rfl ?_
  refine qa_getR (nx := 31) at_136_28 rfl (by decide) rfl rfl (by decide) ?_
  refine qa_s (pc' := 32) at_136_31 rfl rfl rfl ?_
  refine qa_s (pc' := 33) at_136_32 rfl rfl rfl ?_
  refine qa_iald (nx := 34) (k := j) at_136_33 rfl rfl rfl (by decide) rfl (show j < 5 by omega) ?_
  refine qa_ic (nx := 35) (v := nI 1) at_136_34 (by decide) rfl ?_
  refine qa_s (pc' := 36) at_136_35 rfl rfl rfl ?_
  refine qa_iast (nx := 37) (k := j) at_136_36 rfl rfl rfl (by decide) rfl (show j < 5 by omega) ?_
  refine qa_s (pc' := 38) at_136_37 rfl rfl rfl ?_
  refine qa_getR (nx := 41) at_136_38 rfl (by decide) rfl rfl (by decide) ?_
  refine qa_s (pc' := 42) at_136_41 rfl rfl rfl ?_
  refine qa_s (pc' := 43) at_136_42 rfl rfl rfl ?_
  refine qa_iald (nx := 44) (k := j) at_136_43 rfl rfl rfl (by decide) rfl (show j < 5 by omega) ?_
  refine qa_ic (nx := 45) (v := nI 1) at_136_44 (by decide) rfl ?_
  refine qa_s (pc' := 46) at_136_45 rfl rfl rfl ?_
  refine qa_iast (nx := 47) (k := j) at_136_46 rfl rfl rfl (by decide) rfl (show j < 5 by omega) ?_
  refine qa_s (pc' := 48) at_136_47 rfl rfl rfl ?_
  refine qa_ic (nx := 49) (v := nI 2) at_136_48 (by decide) rfl ?_
  refine qn_icmp_ne (tg := 73) (nx := 52) at_136_49 rfl rfl (by decide) (by decide) (fun h136_49 => ?_) (fun h => absurd h (by decide))
  refine qa_s (pc' := 74) at_136_73 rfl rfl rfl ?_
  refine qa_ic (nx := 75) (v := nI 4) at_136_74 (by decide) rfl ?_
  refine qn_icmp_le (tg := 90) (nx := 78) at_136_75 rfl rfl (by decide) (by decide) (fun h => absurd h (by decide)) (fun h136_75 => ?_)
  refine qa_s (pc' := 79) at_136_78 rfl rfl rfl ?_
  refine qa_bi (nx := 81) (v := nI 11) at_136_79 (by decide) rfl ?_
  refine qn_icmp_eq (tg := 90) (nx := 84) at_136_81 rfl rfl (by decide) (by decide) (fun h => absurd h (by decide)) (fun h136_81 => ?_)
  refine qa_s (pc' := 85) at_136_84 rfl rfl rfl ?_
  refine qa_bi (nx := 87) (v := nI 12) at_136_85 (by decide) rfl ?_
  refine qn_icmp_ne (tg := 103) (nx := 90) at_136_87 rfl rfl (by decide) (by decide) (fun h136_87 => ?_) (fun h => absurd h (by decide))
  refine qa_s (pc' := 104) at_136_103 rfl rfl rfl ?_
  refine qa_bi (nx := 106) (v := nI 13) at_136_104 (by decide) rfl ?_
  refine qn_icmp_lt (tg := 122) (nx := 109) at_136_106 rfl rfl (by decide) (by decide) (fun h => absurd h (by decide)) (fun h136_106 => ?_)
  refine qa_s (pc' := 110) at_136_109 rfl rfl rfl ?_
  refine qa_s (pc' := 111) at_136_110 rfl rfl rfl ?_
  refine qa_s (pc' := 112) at_136_111 rfl rfl rfl ?_
  refine qa_s (pc' := 114) at_136_112 rfl rfl rfl ?_
  refine qa_s (pc' := 116) at_136_114 rfl rfl rfl ?_
  refine qa_callV (nx := 119) at_136_116 rfl rfl (Nat.le_of_ble_eq_true rfl) rfl rfl rfl (by decide) rfl (by decide) ?_
  show qa _ 139 0 [(0, .ref _), (1, .int _), (2, .int _), (3, .int _), (4, .int _)] [] _ _
  refine o14_q (p := p) hj hx hy hc h77 ?_
  show qa _ 136 119 _ [] _ _
  refine qa_goto (nx := 131) at_136_119 rfl ?_
  refine qa_ic (nx := 132) (v := nI 0) at_136_131 (by decide) rfl ?_
  refine qa_s (pc' := 134) at_136_132 rfl rfl rfl ?_
  show qa _ _ _ [(0, .ref (cl 40 0)), (1, .int (nI j)), (2, .int (nI p)), (3, .int _), (4, .int _), (5, .int _), (6, .int (nI 0))] [] _ _
  refine qa_drop (l1 := [(0, .ref (cl 40 0)), (1, .int (nI j)), (6, .int (nI 0))]) (by intro q hq; simp only [List.mem_cons, List.not_mem_nil, or_false] at hq ⊢; rcases hq with rfl | rfl | rfl <;> simp) (by simp [mj_nd]) ?_
  exact c136_r hj 3 0 _ rfl (hch) k
def PfOk (σ : sg) (j : Nat) : Prop := ∃ r k o x : Nat, r < 3 ∧ σ 65 0 j = nI r ∧ k < 12 ∧ σ 66 0 j = nI k ∧ o < 15 ∧ σ 44 0 ((3 * j + r) * 12 + k) = nI o ∧ x ≤ 3 ∧ σ 45 0 ((3 * j + r) * 12 + k) = nI x ∧ (o = 0 ∨ ∃ y : Nat, σ 46 0 ((3 * j + r) * 12 + k) = nI y ∧ y ≤ ([0, 3, 3, 7, 7, 11, 8, 0, 3, 0, 2, 1, 0, 1, 1] : List Nat).getD o 0) ∧ (o = 7 ∨ o = 9 → ∃ q : Nat, q < 180 ∧ σ 47 0 ((3 * j + r) * 12 + k) = nI q) ∧ (∀ y : Nat, y ≤ 1 → ∃ c : Nat, c ≤ 3 ∧ σ 77 0 y = nI c) ∧ (¬ (o = 2 ∧ σ 70 0 (4 * j + nN (σ 46 0 ((3 * j + r) * 12 + k))) = 0) → chR (opM (stpM σ j) j ((3 * j + r) * 12 + k) o x (σ 46 0 ((3 * j + r) * 12 + k))) j 3)
def pM (σ : sg) (j : Nat) : Nat := (3 * j + nN (σ 65 0 j)) * 12 + nN (σ 66 0 j)
theorem c136_q {j pp : Nat} (hj : j < 5) (hP : PfOk σ j) (hpp : pp = pM σ j) (k : Q none (pfM σ j pp)) : qa cst 136 0 [(0, .ref (cl 40 0)), (1, .int (nI j)), (2, .int (nI pp))] [] σ Q := by
  obtain ⟨r, kk, o, x, hr, h65, hk, h66, ho, h44, hx, h45, hy, hm, hc, hch⟩ := hP
  have e : pM σ j = (3 * j + r) * 12 + kk := by unfold pM; rw [h65, h66, nN_n (by omega), nN_n (by omega)]
  rw [e] at hpp
  subst hpp
  have hp : (3 * j + r) * 12 + kk < 180 := by omega
  generalize (3 * j + r) * 12 + kk = p at *
  have hoc : o = 0 ∨ o = 1 ∨ o = 2 ∨ o = 3 ∨ o = 4 ∨ o = 5 ∨ o = 6 ∨ o = 7 ∨ o = 8 ∨ o = 9 ∨ o = 10 ∨ o = 11 ∨ o = 12 ∨ o = 13 ∨ o = 14 := by omega
  rcases hoc with rfl | rfl | rfl | rfl | rfl | rfl | rfl | rfl | rfl | rfl | rfl | rfl | rfl | rfl | rfl
  · exact pf0_q hj hp hx h44 h45 rfl (hch (fun g => absurd g.1 (by decide))) k
  · obtain ⟨y, h46, hy⟩ := hy.resolve_left (by decide)
    replace hy : y ≤ 3 := hy
    rw [h46] at hch
    exact pf1_q hj hp hx h44 h45 h46 hy (hch (fun g => absurd g.1 (by decide))) k
  · obtain ⟨y, h46, hy⟩ := hy.resolve_left (by decide)
    replace hy : y ≤ 3 := hy
    rw [h46] at hch
    rw [nN_n (show y < 2 ^ 31 by omega)] at hch
    exact pf2_q hj hp hx h44 h45 h46 hy (fun g => hch (fun f => g f.2)) k
  · obtain ⟨y, h46, hy⟩ := hy.resolve_left (by decide)
    replace hy : y ≤ 7 := hy
    rw [h46] at hch
    exact pf3_q hj hp hx h44 h45 h46 hy (hch (fun g => absurd g.1 (by decide))) k
  · obtain ⟨y, h46, hy⟩ := hy.resolve_left (by decide)
    replace hy : y ≤ 7 := hy
    rw [h46] at hch
    exact pf4_q hj hp hx h44 h45 h46 hy (hch (fun g => absurd g.1 (by decide))) k
  · obtain ⟨y, h46, hy⟩ := hy.resolve_left (by decide)
    replace hy : y ≤ 11 := hy
    rw [h46] at hch
    exact pf5_q hj hp hx h44 h45 h46 hy (hch (fun g => absurd g.1 (by decide))) k
  · obtain ⟨y, h46, hy⟩ := hy.resolve_left (by decide)
    replace hy : y ≤ 8 := hy
    rw [h46] at hch
    exact pf6_q hj hp hx h44 h45 h46 hy (hch (fun g => absurd g.1 (by decide))) k
  · obtain ⟨q, hq, h47⟩ := hm (by omega)
    exact pf7_q hj hp hx h44 h45 rfl h47 hq (hch (fun g => absurd g.1 (by decide))) k
  · obtain ⟨y, h46, hy⟩ := hy.resolve_left (by decide)
    replace hy : y ≤ 3 := hy
    rw [h46] at hch
    exact pf8_q hj hp hx h44 h45 h46 hy (hch (fun g => absurd g.1 (by decide))) k
  · obtain ⟨q, hq, h47⟩ := hm (by omega)
    exact pf9_q hj hp hx h44 h45 rfl h47 hq (hch (fun g => absurd g.1 (by decide))) k
  · obtain ⟨y, h46, hy⟩ := hy.resolve_left (by decide)
    replace hy : y ≤ 2 := hy
    rw [h46] at hch
    exact pf10_q hj hp hx h44 h45 h46 hy (hch (fun g => absurd g.1 (by decide))) k
  · obtain ⟨y, h46, hy⟩ := hy.resolve_left (by decide)
    replace hy : y ≤ 1 := hy
    rw [h46] at hch
    exact pf11_q hj hp hx h44 h45 h46 hy (hch (fun g => absurd g.1 (by decide))) k
  · obtain ⟨y, h46, hy⟩ := hy.resolve_left (by decide)
    replace hy : y ≤ 0 := hy
    rw [h46] at hch
    exact pf12_q hj hp hx h44 h45 h46 hy (hch (fun g => absurd g.1 (by decide))) k
  · obtain ⟨y, h46, hy⟩ := hy.resolve_left (by decide)
    replace hy : y ≤ 1 := hy
    rw [h46] at hch
    obtain ⟨c, hc1, hc2⟩ := hc y hy
    exact pf13_q hj hp hx h44 h45 h46 hy hc2 hc1 (hch (fun g => absurd g.1 (by decide))) k
  · obtain ⟨y, h46, hy⟩ := hy.resolve_left (by decide)
    replace hy : y ≤ 1 := hy
    rw [h46] at hch
    obtain ⟨c, hc1, hc2⟩ := hc y hy
    exact pf14_q hj hp hx h44 h45 h46 hy hc2 hc1 (hch (fun g => absurd g.1 (by decide))) k
def tkM (σ : sg) (v : Int32) : sg := up (up σ 40 0 22 (σ 40 0 22 + nI 1)) 40 0 23 v
def swM (σ : sg) (j : Nat) : sg := if nI j = σ 40 0 24 then (if 0 < σ 61 0 j then up σ 61 0 j (σ 61 0 j - nI 1) else up σ 62 0 j (σ 62 0 j + nI 1)) else up (up σ 40 0 25 (σ 40 0 25 + nI 1)) 61 0 j (nI 1)
def gvM (σ : sg) (j : Nat) : sg := up (up (swM σ j) 40 0 24 (nI j)) 59 0 j (nI 1)
def gpM (s : sg) (j : Nat) : sg := if s 62 0 j = s 49 0 (nN (s 44 0 (pM s j))) then pfM (up s 62 0 j (nI 0)) j (pM s j) else s
def cgM (σ : sg) (T : Nat) : sg := match chM σ T with
  | none => up (up (tkM σ (-1)) 40 0 28 (σ 40 0 28 + nI 1)) 40 0 24 (-1)
  | some j => gpM (gvM (tkM σ (nI j)) j) j
def cyM (T : Nat) (σ : sg) : sg := cgM (relsM σ T) T
def CyOk (T : Nat) (σ : sg) : Prop := σ 40 0 0 = nI T ∧ hbOk (relsM σ T) T ∧ ∀ j, chM (relsM σ T) T = some j → PfOk (up (gvM (tkM (relsM σ T) (nI j)) j) 62 0 j (nI 0)) j
theorem c131_p {j : Nat} (hj : j < 5) (hP : PfOk (up σ 62 0 j (nI 0)) j) (k : Q none (gpM σ j)) : qa cst 131 165 [(0, .ref (cl 40 0)), (1, .int (nI j))] [] σ Q := by
  have hP' := hP
  obtain ⟨r, kk, o, x, hr, h65, hk, h66, ho, h44, -⟩ := hP
  replace h65 : σ 65 0 j = nI r := h65
  replace h66 : σ 66 0 j = nI kk := h66
  replace h44 : σ 44 0 ((3 * j + r) * 12 + kk) = nI o := h44
  have e : pM σ j = (3 * j + r) * 12 + kk := by unfold pM; rw [h65, h66, nN_n (by omega), nN_n (by omega)]
  simp only [gpM, e, h44, nN_n (show o < 2 ^ 31 by omega)] at k
  refine qa_ic (nx := 166) (v := nI 3) at_131_165 (by decide) rfl ?_
  refine qa_s (pc' := 167) at_131_166 rfl rfl rfl ?_
  refine qa_mulN (nx := 168) at_131_167 rfl ?_
  refine qa_s (pc' := 169) at_131_168 rfl rfl rfl ?_
  refine qa_getR (nx := 172) at_131_169 rfl (by decide) rfl rfl (by decide) ?_
  refine qa_s (pc' := 173) at_131_172 rfl rfl rfl ?_
  refine qa_ialdV (nx := 174) (k := j) (v := nI r) at_131_173 rfl rfl rfl (by decide) rfl (show j < 5 by omega) (show _ from h65) ?_
  refine qa_addN (nx := 175) at_131_174 rfl ?_
  refine qa_bi (nx := 177) (v := nI 12) at_131_175 (by decide) rfl ?_
  refine qa_mulN (nx := 178) at_131_177 rfl ?_
  refine qa_s (pc' := 179) at_131_178 rfl rfl rfl ?_
  refine qa_getR (nx := 182) at_131_179 rfl (by decide) rfl rfl (by decide) ?_
  refine qa_s (pc' := 183) at_131_182 rfl rfl rfl ?_
  refine qa_ialdV (nx := 184) (k := j) (v := nI kk) at_131_183 rfl rfl rfl (by decide) rfl (show j < 5 by omega) (show _ from h66) ?_
  refine qa_addN (nx := 185) at_131_184 rfl ?_
  refine qa_s (pc' := 186) at_131_185 rfl rfl rfl ?_
  refine qa_s (pc' := 187) at_131_186 rfl rfl rfl ?_
  refine qa_getR (nx := 190) at_131_187 rfl (by decide) rfl rfl (by decide) ?_
  refine qa_s (pc' := 191) at_131_190 rfl rfl rfl ?_
  refine qa_iald (nx := 192) (k := j) at_131_191 rfl rfl rfl (by decide) rfl (show j < 5 by omega) ?_
  refine qa_s (pc' := 193) at_131_192 rfl rfl rfl ?_
  refine qa_getR (nx := 196) at_131_193 rfl (by decide) rfl rfl (by decide) ?_
  refine qa_s (pc' := 197) at_131_196 rfl rfl rfl ?_
  refine qa_getR (nx := 200) at_131_197 rfl (by decide) rfl rfl (by decide) ?_
  refine qa_s (pc' := 201) at_131_200 rfl rfl rfl ?_
  refine qa_ialdV (nx := 202) (k := (((3 * j) + r) * 12) + kk) (v := nI o) at_131_201 rfl rfl rfl (by decide) rfl (show (((3 * j) + r) * 12) + kk < 180 by omega) (show _ from h44) ?_
  refine qa_iald (nx := 203) (k := o) at_131_202 rfl rfl rfl (by decide) rfl (show o < 15 by omega) ?_
  refine qa_icmp_ne (tg := 219) (nx := 206) at_131_203 rfl rfl (fun h131_203 => ?_) (fun h131_203 => ?_)
  · rw [if_neg h131_203] at k
    refine qa_ret at_131_219 rfl ?_
    exact k
  · rw [if_pos h131_203] at k
    refine qa_s (pc' := 207) at_131_206 rfl rfl rfl ?_
    refine qa_getR (nx := 210) at_131_207 rfl (by decide) rfl rfl (by decide) ?_
    refine qa_s (pc' := 211) at_131_210 rfl rfl rfl ?_
    refine qa_ic (nx := 212) (v := nI 0) at_131_211 (by decide) rfl ?_
    refine qa_iast (nx := 213) (k := j) at_131_212 rfl rfl rfl (by decide) rfl (show j < 5 by omega) ?_
    refine qa_s (pc' := 214) at_131_213 rfl rfl rfl ?_
    refine qa_s (pc' := 215) at_131_214 rfl rfl rfl ?_
    refine qa_s (pc' := 216) at_131_215 rfl rfl rfl ?_
    refine qa_callV (nx := 219) at_131_216 rfl rfl (Nat.le_of_ble_eq_true rfl) rfl rfl rfl (by decide) rfl (by decide) ?_
    show qa _ 136 0 [(0, .ref _), (1, .int _), (2, .int _)] [] _ _
    refine c136_q hj hP' (show (3 * j + r) * 12 + kk = pM (up σ 62 0 j (nI 0)) j by rw [← e]; unfold pM; rw [up_k (by decide), up_k (by decide)]) ?_
    show qa _ 131 219 _ [] _ _
    refine qa_ret at_131_219 rfl ?_
    exact k
theorem c131_g (h5 : T ≤ 5) (h40 : σ 40 0 0 = nI T) (hb : hbOk σ T) (hP : ∀ j, chM σ T = some j → PfOk (up (gvM (tkM σ (nI j)) j) 62 0 j (nI 0)) j) (k : Q none (cgM σ T)) (v : Int32) : qa cst 131 52 [(0, .ref (cl 40 0)), (1, .int v)] [] σ Q := by
  cases hc : chM σ T with
  | none =>
    simp only [cgM, hc] at k
    refine qa_s (pc' := 53) at_131_52 rfl rfl rfl ?_
    refine qa_callV (nx := 56) at_131_53 rfl rfl (Nat.le_of_ble_eq_true rfl) rfl rfl rfl (by decide) rfl (by decide) ?_
    show qa _ 134 0 [(0, .ref _)] [] _ _
    refine c134_q h5 h40 hb ?_
    rw [hc]
    show qa _ 131 56 _ [.int _] _ _
    refine qa_s (pc' := 57) at_131_56 rfl rfl rfl ?_
    refine qa_s (pc' := 58) at_131_57 rfl rfl rfl ?_
    refine qa_s (pc' := 59) at_131_58 rfl rfl rfl ?_
    refine qa_getI (nx := 62) at_131_59 rfl (by decide) rfl rfl (by decide) ?_
    refine qa_ic (nx := 63) (v := nI 1) at_131_62 (by decide) rfl ?_
    refine qa_s (pc' := 64) at_131_63 rfl rfl rfl ?_
    refine qa_put (nx := 67) at_131_64 rfl (by decide) rfl rfl rfl (by decide) ?_
    refine qa_s (pc' := 68) at_131_67 rfl rfl rfl ?_
    refine qa_s (pc' := 69) at_131_68 rfl rfl rfl ?_
    refine qa_put (nx := 72) at_131_69 rfl (by decide) rfl rfl rfl (by decide) ?_
    refine qa_s (pc' := 73) at_131_72 rfl rfl rfl ?_
    refine qa_if_ge (tg := 89) (nx := 76) at_131_73 rfl rfl (fun h131_73 => ?_) (fun h131_73 => ?_)
    · exact absurd h131_73 (by decide)
    · refine qa_s (pc' := 77) at_131_76 rfl rfl rfl ?_
      refine qa_s (pc' := 78) at_131_77 rfl rfl rfl ?_
      refine qa_getI (nx := 81) at_131_78 rfl (by decide) rfl rfl (by decide) ?_
      refine qa_ic (nx := 82) (v := nI 1) at_131_81 (by decide) rfl ?_
      refine qa_s (pc' := 83) at_131_82 rfl rfl rfl ?_
      refine qa_put (nx := 86) at_131_83 rfl (by decide) rfl rfl rfl (by decide) ?_
      refine qa_goto (nx := 149) at_131_86 rfl ?_
      refine qa_s (pc' := 150) at_131_149 rfl rfl rfl ?_
      refine qa_s (pc' := 151) at_131_150 rfl rfl rfl ?_
      refine qa_put (nx := 154) at_131_151 rfl (by decide) rfl rfl rfl (by decide) ?_
      refine qa_s (pc' := 155) at_131_154 rfl rfl rfl ?_
      refine qa_if_lt (tg := 219) (nx := 158) at_131_155 rfl rfl (fun h131_155 => ?_) (fun h131_155 => ?_)
      · refine qa_ret at_131_219 rfl ?_
        exact k
      · exact absurd (show oI none < 0 by decide) h131_155
  | some j =>
    have hj := (chM_lt hc).1
    have hj5 : j < 5 := by omega
    have hP' := hP j hc
    simp only [cgM, hc] at k
    simp only [gvM, swM] at k hP'
    refine qa_s (pc' := 53) at_131_52 rfl rfl rfl ?_
    refine qa_callV (nx := 56) at_131_53 rfl rfl (Nat.le_of_ble_eq_true rfl) rfl rfl rfl (by decide) rfl (by decide) ?_
    show qa _ 134 0 [(0, .ref _)] [] _ _
    refine c134_q h5 h40 hb ?_
    rw [hc]
    show qa _ 131 56 _ [.int _] _ _
    refine qa_s (pc' := 57) at_131_56 rfl rfl rfl ?_
    show qa _ 131 57 [(0, .ref (cl 40 0)), (1, .int (nI j))] [] _ _
    refine qa_s (pc' := 58) at_131_57 rfl rfl rfl ?_
    refine qa_s (pc' := 59) at_131_58 rfl rfl rfl ?_
    refine qa_getI (nx := 62) at_131_59 rfl (by decide) rfl rfl (by decide) ?_
    refine qa_ic (nx := 63) (v := nI 1) at_131_62 (by decide) rfl ?_
    refine qa_s (pc' := 64) at_131_63 rfl rfl rfl ?_
    refine qa_put (nx := 67) at_131_64 rfl (by decide) rfl rfl rfl (by decide) ?_
    refine qa_s (pc' := 68) at_131_67 rfl rfl rfl ?_
    refine qa_s (pc' := 69) at_131_68 rfl rfl rfl ?_
    refine qa_put (nx := 72) at_131_69 rfl (by decide) rfl rfl rfl (by decide) ?_
    refine qa_s (pc' := 73) at_131_72 rfl rfl rfl ?_
    refine qn_if_ge (tg := 89) (nx := 76) at_131_73 rfl rfl (by omega) ?_
    refine qa_s (pc' := 90) at_131_89 rfl rfl rfl ?_
    refine qa_s (pc' := 91) at_131_90 rfl rfl rfl ?_
    refine qa_getI (nx := 94) at_131_91 rfl (by decide) rfl rfl (by decide) ?_
    refine qa_icmp_eq (tg := 117) (nx := 97) at_131_94 rfl rfl (fun h131_94 => ?_) (fun h131_94 => ?_)
    · have c94 : nI j = tkM σ (nI j) 40 0 24 := h131_94
      rw [if_pos c94] at k hP'
      refine qa_s (pc' := 118) at_131_117 rfl rfl rfl ?_
      refine qa_getR (nx := 121) at_131_118 rfl (by decide) rfl rfl (by decide) ?_
      refine qa_s (pc' := 122) at_131_121 rfl rfl rfl ?_
      refine qa_iald (nx := 123) (k := j) at_131_122 rfl rfl rfl (by decide) rfl (show j < 5 by omega) ?_
      refine qa_if_le (tg := 139) (nx := 126) at_131_123 rfl rfl (fun h131_123 => ?_) (fun h131_123 => ?_)
      · have c123 : ¬ 0 < tkM σ (nI j) 61 0 j := by have g : tkM σ (nI j) 61 0 j ≤ 0 := h131_123; simp only [Int32.le_iff_toInt_le, Int32.lt_iff_toInt_lt] at g ⊢; omega
        rw [if_neg c123] at k hP'
        refine qa_s (pc' := 140) at_131_139 rfl rfl rfl ?_
        refine qa_getR (nx := 143) at_131_140 rfl (by decide) rfl rfl (by decide) ?_
        refine qa_s (pc' := 144) at_131_143 rfl rfl rfl ?_
        refine qa_s (pc' := 145) at_131_144 rfl rfl rfl ?_
        refine qa_iald (nx := 146) (k := j) at_131_145 rfl rfl rfl (by decide) rfl (show j < 5 by omega) ?_
        refine qa_ic (nx := 147) (v := nI 1) at_131_146 (by decide) rfl ?_
        refine qa_s (pc' := 148) at_131_147 rfl rfl rfl ?_
        refine qa_iast (nx := 149) (k := j) at_131_148 rfl rfl rfl (by decide) rfl (show j < 5 by omega) ?_
        refine qa_s (pc' := 150) at_131_149 rfl rfl rfl ?_
        refine qa_s (pc' := 151) at_131_150 rfl rfl rfl ?_
        refine qa_put (nx := 154) at_131_151 rfl (by decide) rfl rfl rfl (by decide) ?_
        refine qa_s (pc' := 155) at_131_154 rfl rfl rfl ?_
        refine qn_if_lt (tg := 219) (nx := 158) at_131_155 rfl rfl (by omega) ?_
        refine qa_s (pc' := 159) at_131_158 rfl rfl rfl ?_
        refine qa_getR (nx := 162) at_131_159 rfl (by decide) rfl rfl (by decide) ?_
        refine qa_s (pc' := 163) at_131_162 rfl rfl rfl ?_
        refine qa_ic (nx := 164) (v := nI 1) at_131_163 (by decide) rfl ?_
        refine qa_zast (nx := 165) (k := j) at_131_164 rfl rfl rfl (by decide) (by decide) rfl (show j < 5 by omega) ?_
        exact c131_p hj5 hP' k
      · have c123 : 0 < tkM σ (nI j) 61 0 j := by have g : ¬ tkM σ (nI j) 61 0 j ≤ 0 := h131_123; simp only [Int32.le_iff_toInt_le, Int32.lt_iff_toInt_lt] at g ⊢; omega
        rw [if_pos c123] at k hP'
        refine qa_s (pc' := 127) at_131_126 rfl rfl rfl ?_
        refine qa_getR (nx := 130) at_131_127 rfl (by decide) rfl rfl (by decide) ?_
        refine qa_s (pc' := 131) at_131_130 rfl rfl rfl ?_
        refine qa_s (pc' := 132) at_131_131 rfl rfl rfl ?_
        refine qa_iald (nx := 133) (k := j) at_131_132 rfl rfl rfl (by decide) rfl (show j < 5 by omega) ?_
        refine qa_ic (nx := 134) (v := nI 1) at_131_133 (by decide) rfl ?_
        refine qa_s (pc' := 135) at_131_134 rfl rfl rfl ?_
        refine qa_iast (nx := 136) (k := j) at_131_135 rfl rfl rfl (by decide) rfl (show j < 5 by omega) ?_
        refine qa_goto (nx := 149) at_131_136 rfl ?_
        refine qa_s (pc' := 150) at_131_149 rfl rfl rfl ?_
        refine qa_s (pc' := 151) at_131_150 rfl rfl rfl ?_
        refine qa_put (nx := 154) at_131_151 rfl (by decide) rfl rfl rfl (by decide) ?_
        refine qa_s (pc' := 155) at_131_154 rfl rfl rfl ?_
        refine qn_if_lt (tg := 219) (nx := 158) at_131_155 rfl rfl (by omega) ?_
        refine qa_s (pc' := 159) at_131_158 rfl rfl rfl ?_
        refine qa_getR (nx := 162) at_131_159 rfl (by decide) rfl rfl (by decide) ?_
        refine qa_s (pc' := 163) at_131_162 rfl rfl rfl ?_
        refine qa_ic (nx := 164) (v := nI 1) at_131_163 (by decide) rfl ?_
        refine qa_zast (nx := 165) (k := j) at_131_164 rfl rfl rfl (by decide) (by decide) rfl (show j < 5 by omega) ?_
        exact c131_p hj5 hP' k
    · have c94 : ¬ nI j = tkM σ (nI j) 40 0 24 := h131_94
      rw [if_neg c94] at k hP'
      refine qa_s (pc' := 98) at_131_97 rfl rfl rfl ?_
      refine qa_s (pc' := 99) at_131_98 rfl rfl rfl ?_
      refine qa_getI (nx := 102) at_131_99 rfl (by decide) rfl rfl (by decide) ?_
      refine qa_ic (nx := 103) (v := nI 1) at_131_102 (by decide) rfl ?_
      refine qa_s (pc' := 104) at_131_103 rfl rfl rfl ?_
      refine qa_put (nx := 107) at_131_104 rfl (by decide) rfl rfl rfl (by decide) ?_
      refine qa_s (pc' := 108) at_131_107 rfl rfl rfl ?_
      refine qa_getR (nx := 111) at_131_108 rfl (by decide) rfl rfl (by decide) ?_
      refine qa_s (pc' := 112) at_131_111 rfl rfl rfl ?_
      refine qa_ic (nx := 113) (v := nI 1) at_131_112 (by decide) rfl ?_
      refine qa_iast (nx := 114) (k := j) at_131_113 rfl rfl rfl (by decide) rfl (show j < 5 by omega) ?_
      refine qa_goto (nx := 149) at_131_114 rfl ?_
      refine qa_s (pc' := 150) at_131_149 rfl rfl rfl ?_
      refine qa_s (pc' := 151) at_131_150 rfl rfl rfl ?_
      refine qa_put (nx := 154) at_131_151 rfl (by decide) rfl rfl rfl (by decide) ?_
      refine qa_s (pc' := 155) at_131_154 rfl rfl rfl ?_
      refine qn_if_lt (tg := 219) (nx := 158) at_131_155 rfl rfl (by omega) ?_
      refine qa_s (pc' := 159) at_131_158 rfl rfl rfl ?_
      refine qa_getR (nx := 162) at_131_159 rfl (by decide) rfl rfl (by decide) ?_
      refine qa_s (pc' := 163) at_131_162 rfl rfl rfl ?_
      refine qa_ic (nx := 164) (v := nI 1) at_131_163 (by decide) rfl ?_
      refine qa_zast (nx := 165) (k := j) at_131_164 rfl rfl rfl (by decide) (by decide) rfl (show j < 5 by omega) ?_
      exact c131_p hj5 hP' k
theorem c131_q (h5 : T ≤ 5) (hC : CyOk T σ) (k : Q none (cyM T σ)) : qa cst 131 0 [(0, .ref (cl 40 0))] [] σ Q := by
  obtain ⟨h40, hb, hP⟩ := hC
  refine qa_ic (nx := 1) (v := nI 0) at_131_0 (by decide) rfl ?_
  refine qa_s (pc' := 2) at_131_1 rfl rfl rfl ?_
  exact c131_l h5 h40 (c131_g h5 ((relsM_40 T).trans h40) hb hP k) T 0 (by omega)
def itM (T : Nat) (σ : sg) : Nat → sg
  | 0 => σ
  | n + 1 => cyM T (itM T σ n)
theorem c130_l {N : Nat} {f : Int32} (h5 : T ≤ 5) (hN : N ≤ 500) (hC : ∀ n, n < N → CyOk T (itM T σ n)) (k : Q (some (.int (itM T σ N 40 0 29 - f))) (itM T σ N)) : ∀ n i, i + n = N → qa cst 130 27 [(0, .ref (cl 40 0)), (1, .int (nI N)), (2, .int f), (3, .int (nI i))] [] (itM T σ i) Q := by
  intro n
  induction n with
  | zero =>
    intro i hi
    have e : i = N := by omega
    subst e
    refine qa_s (pc' := 28) at_130_27 rfl rfl rfl ?_
    refine qa_s (pc' := 29) at_130_28 rfl rfl rfl ?_
    refine qn_icmp_ge (tg := 42) (nx := 32) at_130_29 rfl rfl (by omega) (by omega) (fun h130_29 => ?_) (fun h130_29 => ?_)
    · refine qa_s (pc' := 43) at_130_42 rfl rfl rfl ?_
      refine qa_getI (nx := 46) at_130_43 rfl (by decide) rfl rfl (by decide) ?_
      refine qa_s (pc' := 47) at_130_46 rfl rfl rfl ?_
      refine qa_s (pc' := 48) at_130_47 rfl rfl rfl ?_
      refine qa_ret at_130_48 rfl ?_
      exact k
    · omega
  | succ n ih =>
    intro i hi
    refine qa_s (pc' := 28) at_130_27 rfl rfl rfl ?_
    refine qa_s (pc' := 29) at_130_28 rfl rfl rfl ?_
    refine qn_icmp_ge (tg := 42) (nx := 32) at_130_29 rfl rfl (by omega) (by omega) (fun h130_29 => ?_) (fun h130_29 => ?_)
    · omega
    · refine qa_s (pc' := 33) at_130_32 rfl rfl rfl ?_
      refine qa_callV (nx := 36) at_130_33 rfl rfl (Nat.le_of_ble_eq_true rfl) rfl rfl rfl (by decide) rfl (by decide) ?_
      show qa _ 131 0 [(0, .ref _)] [] _ _
      refine c131_q h5 (hC i (by omega)) ?_
      show qa _ 130 36 _ [] _ _
      refine qa_incN (nx := 39) (c := 1) at_130_36 (by decide) rfl rfl rfl ?_
      refine qa_goto (nx := 27) at_130_39 rfl ?_
      exact ih (i + 1) (by omega)
theorem c130_q {x : Int32} (h5 : T ≤ 5) (k0 : ¬ (¬ σ 40 0 2 = 0 ∧ (nI 1 ≤ x ∧ x ≤ nI 500)) → Q (some (.int (-1))) σ) (k1 : ¬ σ 40 0 2 = 0 → (nI 1 ≤ x ∧ x ≤ nI 500) → ∃ N : Nat, N ≤ 500 ∧ x = nI N ∧ (∀ n, n < N → CyOk T (itM T σ n)) ∧ Q (some (.int (itM T σ N 40 0 29 - σ 40 0 29))) (itM T σ N)) : qa cst 130 0 [(0, .ref (cl 40 0)), (1, .int x)] [] σ Q := by
  refine qa_s (pc' := 1) at_130_0 rfl rfl rfl ?_
  refine qa_getI (nx := 4) at_130_1 rfl (by decide) rfl rfl (by decide) ?_
  refine qa_if_eq (tg := 18) (nx := 7) at_130_4 rfl rfl (fun h130_4 => ?_) (fun h130_4 => ?_)
  · refine qa_ic (nx := 19) (v := (-1)) at_130_18 (by decide) rfl ?_
    refine qa_ret at_130_19 rfl ?_
    exact k0 (fun g => by first | exact g.1 h130_4 | exact bi_z h130_15 g.2)
  · refine qa_s (pc' := 8) at_130_7 rfl rfl rfl ?_
    refine qa_ic (nx := 9) (v := nI 1) at_130_8 (by decide) rfl ?_
    refine qa_si (nx := 12) (v := nI 500) at_130_9 (by decide) rfl ?_
    refine qa_callS (nx := 15) at_130_12 rfl rfl (Nat.le_of_ble_eq_true rfl) rfl rfl (by decide) rfl ?_
    show qa _ 101 0 [(0, .int _), (1, .int _), (2, .int _)] [] _ _
    refine c101_q ?_
    show qa _ 130 15 _ [.int _] _ _
    refine qa_if_ne (tg := 20) (nx := 18) at_130_15 rfl rfl (fun h130_15 => ?_) (fun h130_15 => ?_)
    · obtain ⟨N, hN, rfl, hC, kk⟩ := k1 h130_4 (bi_n h130_15)
      refine qa_s (pc' := 21) at_130_20 rfl rfl rfl ?_
      refine qa_getI (nx := 24) at_130_21 rfl (by decide) rfl rfl (by decide) ?_
      refine qa_s (pc' := 25) at_130_24 rfl rfl rfl ?_
      refine qa_ic (nx := 26) (v := nI 0) at_130_25 (by decide) rfl ?_
      refine qa_s (pc' := 27) at_130_26 rfl rfl rfl ?_
      exact c130_l h5 hN hC kk N 0 (by omega)
    · refine qa_ic (nx := 19) (v := (-1)) at_130_18 (by decide) rfl ?_
      refine qa_ret at_130_19 rfl ?_
      exact k0 (fun g => by first | exact g.1 h130_4 | exact bi_z h130_15 g.2)
end PQ
