/-! The law: its start and its loop. -/
section PQ
variable {cst : List (List Int32)} {ys : List Int32} {σ b : sg} {Q : Option Value → sg → Prop} {T k i : Nat}
theorem len6 {l i : Nat} (hl : l < 2 ^ 20) (hi : i < 2 ^ 20) (h : ¬ nI l - nI 6 < nI i) : i + 6 ≤ l := by
  by_cases g : 6 ≤ l
  · rw [pk_sub g, nI_ltI (by omega) (by omega)] at h
    omega
  · exfalso
    apply h
    have h0 : (0 : Int32) ≤ nI i := nI_pos' (by omega)
    have h1 : nI l - nI 6 < 0 := by
      obtain rfl | rfl | rfl | rfl | rfl | rfl : l = 0 ∨ l = 1 ∨ l = 2 ∨ l = 3 ∨ l = 4 ∨ l = 5 := by omega
      all_goals decide
    exact Int32.lt_of_lt_of_le h1 h0
theorem law_l (hy : ys.length ≤ 3072) : ∀ m i σ T, ys.length + 6 ≤ i + 6 * m → i ≤ ys.length + 6 → Rel T σ → qa (mj_cst ys) 146 18 [(0, .ref 0), (1, .ref (cl 0 0)), (2, .ref (cl 40 0)), (3, .int (nI i))] [] σ (fun r _ => r = some (.int 1)) := by
  intro m
  induction m with
  | zero =>
    intro i σ T hm hi hR
    refine qa_s (pc' := 19) at_146_18 rfl rfl rfl ?_
    refine qa_s (pc' := 20) at_146_19 rfl rfl rfl ?_
    refine qa_tlen (nx := 21) at_146_20 rfl (by decide) rfl ?_
    refine qa_bi (nx := 23) (v := nI 6) at_146_21 (by decide) rfl ?_
    refine qa_s (pc' := 24) at_146_23 rfl rfl rfl ?_
    refine qa_icmp_gt (tg := 664) (nx := 27) at_146_24 rfl rfl (fun h146_24 => ?_) (fun h146_24 => ?_)
    · refine qa_ic (nx := 665) (v := nI 1) at_146_664 (by decide) rfl ?_
      refine qa_ret at_146_665 rfl ?_
      rfl
    · exact absurd (len6 (by omega) (by omega) h146_24) (by omega)
  | succ m ih =>
    intro i σ T hm hi hR
    refine qa_s (pc' := 19) at_146_18 rfl rfl rfl ?_
    refine qa_s (pc' := 20) at_146_19 rfl rfl rfl ?_
    refine qa_tlen (nx := 21) at_146_20 rfl (by decide) rfl ?_
    refine qa_bi (nx := 23) (v := nI 6) at_146_21 (by decide) rfl ?_
    refine qa_s (pc' := 24) at_146_23 rfl rfl rfl ?_
    refine qa_icmp_gt (tg := 664) (nx := 27) at_146_24 rfl rfl (fun h146_24 => ?_) (fun h146_24 => ?_)
    · refine qa_ic (nx := 665) (v := nI 1) at_146_664 (by decide) rfl ?_
      refine qa_ret at_146_665 rfl ?_
      rfl
    · have h6 := len6 (by omega) (by omega) h146_24
      refine qa_s (pc' := 28) at_146_27 rfl rfl rfl ?_
      refine qa_s (pc' := 29) at_146_28 rfl rfl rfl ?_
      refine qa_tald (nx := 30) at_146_29 rfl (by decide) rfl rfl (show _ < ys.length by omega) (by omega) ?_
      refine qa_bi (nx := 32) (v := nI 31) at_146_30 (by decide) rfl ?_
      refine qa_s (pc' := 33) at_146_32 rfl rfl rfl ?_
      generalize (ys.getD i 0 &&& nI 31) = z
      by_cases hsw : z.toInt < 0 ∨ 19 < z.toInt
      · refine qa_swo (nx := 658) at_146_33 hsw rfl ?_
        refine qa_incN (nx := 661) (c := 6) at_146_658 (by decide) rfl rfl rfl ?_
        refine qa_goto (nx := 18) at_146_661 rfl ?_
        first
          | exact ih (i + 6) σ2 T1 (by omega) (by omega) hR1
          | exact ih (i + 6) σ T (by omega) (by omega) hR
      · obtain ⟨jsw, hjl, rfl⟩ := sw_of (n := 19) (by decide) (by simpa using hsw)
        have hjc : jsw = 0 ∨ jsw = 1 ∨ jsw = 2 ∨ jsw = 3 ∨ jsw = 4 ∨ jsw = 5 ∨ jsw = 6 ∨ jsw = 7 ∨ jsw = 8 ∨ jsw = 9 ∨ jsw = 10 ∨ jsw = 11 ∨ jsw = 12 ∨ jsw = 13 ∨ jsw = 14 ∨ jsw = 15 ∨ jsw = 16 ∨ jsw = 17 ∨ jsw = 18 ∨ jsw = 19 := by omega
        rcases hjc with rfl | rfl | rfl | rfl | rfl | rfl | rfl | rfl | rfl | rfl | rfl | rfl | rfl | rfl | rfl | rfl | rfl | rfl | rfl | rfl
        · refine qa_swi (nx := 128) at_146_33 (by decide +kernel) (show _ = some (95) by decide +kernel) rfl ?_
          refine qa_s (pc' := 129) at_146_128 rfl rfl rfl ?_
          refine qa_s (pc' := 130) at_146_129 rfl rfl rfl ?_
          refine qa_s (pc' := 131) at_146_130 rfl rfl rfl ?_
          refine qa_ic (nx := 132) (v := nI 1) at_146_131 (by decide) rfl ?_
          refine qa_addN (nx := 133) at_146_132 rfl ?_
          refine qa_tald (nx := 134) at_146_133 rfl (by decide) rfl rfl (show _ < ys.length by omega) (by omega) ?_
          refine qa_s (pc' := 135) at_146_134 rfl rfl rfl ?_
          refine qa_s (pc' := 136) at_146_135 rfl rfl rfl ?_
          refine qa_ic (nx := 137) (v := nI 2) at_146_136 (by decide) rfl ?_
          refine qa_addN (nx := 138) at_146_137 rfl ?_
          refine qa_tald (nx := 139) at_146_138 rfl (by decide) rfl rfl (show _ < ys.length by omega) (by omega) ?_
          refine qa_s (pc' := 140) at_146_139 rfl rfl rfl ?_
          refine qa_s (pc' := 141) at_146_140 rfl rfl rfl ?_
          refine qa_ic (nx := 142) (v := nI 3) at_146_141 (by decide) rfl ?_
          refine qa_addN (nx := 143) at_146_142 rfl ?_
          refine qa_tald (nx := 144) at_146_143 rfl (by decide) rfl rfl (show _ < ys.length by omega) (by omega) ?_
          refine qa_callV (nx := 147) at_146_144 rfl rfl (Nat.le_of_ble_eq_true rfl) rfl rfl rfl (by decide) rfl (by decide) ?_
          show qa _ 10 0 [(0, .ref _), (1, .int _), (2, .int _), (3, .int _)] [] _ _
          refine qa_mono (p_task hR _ _ _) (fun r1 σ1 hp => ?_)
          obtain ⟨n1, r2, σ2, hrun, v, rfl, rfl, T1, hR1⟩ := hp
          show qa _ 146 147 _ [.int _] _ _
          refine qa_s (pc' := 148) at_146_147 rfl rfl rfl ?_
          refine qa_s (pc' := 149) at_146_148 rfl rfl rfl ?_
          refine qa_s (pc' := 150) at_146_149 rfl rfl rfl ?_
          refine qa_ic (nx := 151) (v := nI 1) at_146_150 (by decide) rfl ?_
          refine qa_addN (nx := 152) at_146_151 rfl ?_
          refine qa_tald (nx := 153) at_146_152 rfl (by decide) rfl rfl (show _ < ys.length by omega) (by omega) ?_
          refine qa_s (pc' := 154) at_146_153 rfl rfl rfl ?_
          refine qa_s (pc' := 155) at_146_154 rfl rfl rfl ?_
          refine qa_ic (nx := 156) (v := nI 2) at_146_155 (by decide) rfl ?_
          refine qa_addN (nx := 157) at_146_156 rfl ?_
          refine qa_tald (nx := 158) at_146_157 rfl (by decide) rfl rfl (show _ < ys.length by omega) (by omega) ?_
          refine qa_s (pc' := 159) at_146_158 rfl rfl rfl ?_
          refine qa_s (pc' := 160) at_146_159 rfl rfl rfl ?_
          refine qa_ic (nx := 161) (v := nI 3) at_146_160 (by decide) rfl ?_
          refine qa_addN (nx := 162) at_146_161 rfl ?_
          refine qa_tald (nx := 163) at_146_162 rfl (by decide) rfl rfl (show _ < ys.length by omega) (by omega) ?_
          refine qa_callV (nx := 166) at_146_163 rfl rfl (Nat.le_of_ble_eq_true rfl) rfl rfl rfl (by decide) rfl (by decide) ?_
          show qa _ 100 0 [(0, .ref _), (1, .int _), (2, .int _), (3, .int _)] [] _ _
          refine ⟨n1, some (.int v), σ2, hrun, ?_⟩
          show qa _ 146 166 _ [.int _, .int _] _ _
          refine qa_icmp_eq (tg := 658) (nx := 169) at_146_166 rfl rfl (fun h146_166 => ?_) (fun h146_166 => ?_)
          · refine qa_incN (nx := 661) (c := 6) at_146_658 (by decide) rfl rfl rfl ?_
            refine qa_goto (nx := 18) at_146_661 rfl ?_
            first
              | exact ih (i + 6) σ2 T1 (by omega) (by omega) hR1
              | exact ih (i + 6) σ T (by omega) (by omega) hR
          · exact absurd rfl h146_166
        · refine qa_swi (nx := 171) at_146_33 (by decide +kernel) (show _ = some (138) by decide +kernel) rfl ?_
          refine qa_s (pc' := 172) at_146_171 rfl rfl rfl ?_
          refine qa_s (pc' := 173) at_146_172 rfl rfl rfl ?_
          refine qa_s (pc' := 174) at_146_173 rfl rfl rfl ?_
          refine qa_ic (nx := 175) (v := nI 1) at_146_174 (by decide) rfl ?_
          refine qa_addN (nx := 176) at_146_175 rfl ?_
          refine qa_tald (nx := 177) at_146_176 rfl (by decide) rfl rfl (show _ < ys.length by omega) (by omega) ?_
          refine qa_s (pc' := 178) at_146_177 rfl rfl rfl ?_
          refine qa_s (pc' := 179) at_146_178 rfl rfl rfl ?_
          refine qa_ic (nx := 180) (v := nI 2) at_146_179 (by decide) rfl ?_
          refine qa_addN (nx := 181) at_146_180 rfl ?_
          refine qa_tald (nx := 182) at_146_181 rfl (by decide) rfl rfl (show _ < ys.length by omega) (by omega) ?_
          refine qa_s (pc' := 183) at_146_182 rfl rfl rfl ?_
          refine qa_s (pc' := 184) at_146_183 rfl rfl rfl ?_
          refine qa_ic (nx := 185) (v := nI 3) at_146_184 (by decide) rfl ?_
          refine qa_addN (nx := 186) at_146_185 rfl ?_
          refine qa_tald (nx := 187) at_146_186 rfl (by decide) rfl rfl (show _ < ys.length by omega) (by omega) ?_
          refine qa_s (pc' := 188) at_146_187 rfl rfl rfl ?_
          refine qa_s (pc' := 189) at_146_188 rfl rfl rfl ?_
          refine qa_ic (nx := 190) (v := nI 4) at_146_189 (by decide) rfl ?_
          refine qa_addN (nx := 191) at_146_190 rfl ?_
          refine qa_tald (nx := 192) at_146_191 rfl (by decide) rfl rfl (show _ < ys.length by omega) (by omega) ?_
          refine qa_s (pc' := 193) at_146_192 rfl rfl rfl ?_
          refine qa_s (pc' := 194) at_146_193 rfl rfl rfl ?_
          refine qa_ic (nx := 195) (v := nI 5) at_146_194 (by decide) rfl ?_
          refine qa_addN (nx := 196) at_146_195 rfl ?_
          refine qa_tald (nx := 197) at_146_196 rfl (by decide) rfl rfl (show _ < ys.length by omega) (by omega) ?_
          refine qa_callV (nx := 200) at_146_197 rfl rfl (Nat.le_of_ble_eq_true rfl) rfl rfl rfl (by decide) rfl (by decide) ?_
          show qa _ 13 0 [(0, .ref _), (1, .int _), (2, .int _), (3, .int _), (4, .int _), (5, .int _)] [] _ _
          refine qa_mono (p_code hR _ _ _ _ _) (fun r1 σ1 hp => ?_)
          obtain ⟨n1, r2, σ2, hrun, v, rfl, rfl, T1, hR1⟩ := hp
          show qa _ 146 200 _ [.int _] _ _
          refine qa_s (pc' := 201) at_146_200 rfl rfl rfl ?_
          refine qa_s (pc' := 202) at_146_201 rfl rfl rfl ?_
          refine qa_s (pc' := 203) at_146_202 rfl rfl rfl ?_
          refine qa_ic (nx := 204) (v := nI 1) at_146_203 (by decide) rfl ?_
          refine qa_addN (nx := 205) at_146_204 rfl ?_
          refine qa_tald (nx := 206) at_146_205 rfl (by decide) rfl rfl (show _ < ys.length by omega) (by omega) ?_
          refine qa_s (pc' := 207) at_146_206 rfl rfl rfl ?_
          refine qa_s (pc' := 208) at_146_207 rfl rfl rfl ?_
          refine qa_ic (nx := 209) (v := nI 2) at_146_208 (by decide) rfl ?_
          refine qa_addN (nx := 210) at_146_209 rfl ?_
          refine qa_tald (nx := 211) at_146_210 rfl (by decide) rfl rfl (show _ < ys.length by omega) (by omega) ?_
          refine qa_s (pc' := 212) at_146_211 rfl rfl rfl ?_
          refine qa_s (pc' := 213) at_146_212 rfl rfl rfl ?_
          refine qa_ic (nx := 214) (v := nI 3) at_146_213 (by decide) rfl ?_
          refine qa_addN (nx := 215) at_146_214 rfl ?_
          refine qa_tald (nx := 216) at_146_215 rfl (by decide) rfl rfl (show _ < ys.length by omega) (by omega) ?_
          refine qa_s (pc' := 217) at_146_216 rfl rfl rfl ?_
          refine qa_s (pc' := 218) at_146_217 rfl rfl rfl ?_
          refine qa_ic (nx := 219) (v := nI 4) at_146_218 (by decide) rfl ?_
          refine qa_addN (nx := 220) at_146_219 rfl ?_
          refine qa_tald (nx := 221) at_146_220 rfl (by decide) rfl rfl (show _ < ys.length by omega) (by omega) ?_
          refine qa_s (pc' := 222) at_146_221 rfl rfl rfl ?_
          refine qa_s (pc' := 223) at_146_222 rfl rfl rfl ?_
          refine qa_ic (nx := 224) (v := nI 5) at_146_223 (by decide) rfl ?_
          refine qa_addN (nx := 225) at_146_224 rfl ?_
          refine qa_tald (nx := 226) at_146_225 rfl (by decide) rfl rfl (show _ < ys.length by omega) (by omega) ?_
          refine qa_callV (nx := 229) at_146_226 rfl rfl (Nat.le_of_ble_eq_true rfl) rfl rfl rfl (by decide) rfl (by decide) ?_
          show qa _ 102 0 [(0, .ref _), (1, .int _), (2, .int _), (3, .int _), (4, .int _), (5, .int _)] [] _ _
          refine ⟨n1, some (.int v), σ2, hrun, ?_⟩
          show qa _ 146 229 _ [.int _, .int _] _ _
          refine qa_icmp_eq (tg := 658) (nx := 232) at_146_229 rfl rfl (fun h146_229 => ?_) (fun h146_229 => ?_)
          · refine qa_incN (nx := 661) (c := 6) at_146_658 (by decide) rfl rfl rfl ?_
            refine qa_goto (nx := 18) at_146_661 rfl ?_
            first
              | exact ih (i + 6) σ2 T1 (by omega) (by omega) hR1
              | exact ih (i + 6) σ T (by omega) (by omega) hR
          · exact absurd rfl h146_229
        · refine qa_swi (nx := 234) at_146_33 (by decide +kernel) (show _ = some (201) by decide +kernel) rfl ?_
          refine qa_s (pc' := 235) at_146_234 rfl rfl rfl ?_
          refine qa_s (pc' := 236) at_146_235 rfl rfl rfl ?_
          refine qa_s (pc' := 237) at_146_236 rfl rfl rfl ?_
          refine qa_ic (nx := 238) (v := nI 1) at_146_237 (by decide) rfl ?_
          refine qa_addN (nx := 239) at_146_238 rfl ?_
          refine qa_tald (nx := 240) at_146_239 rfl (by decide) rfl rfl (show _ < ys.length by omega) (by omega) ?_
          refine qa_callV (nx := 243) at_146_240 rfl rfl (Nat.le_of_ble_eq_true rfl) rfl rfl rfl (by decide) rfl (by decide) ?_
          show qa _ 18 0 [(0, .ref _), (1, .int _)] [] _ _
          refine qa_mono (p_wipe hR _) (fun r1 σ1 hp => ?_)
          obtain ⟨n1, r2, σ2, hrun, v, rfl, rfl, T1, hR1⟩ := hp
          show qa _ 146 243 _ [.int _] _ _
          refine qa_s (pc' := 244) at_146_243 rfl rfl rfl ?_
          refine qa_s (pc' := 245) at_146_244 rfl rfl rfl ?_
          refine qa_s (pc' := 246) at_146_245 rfl rfl rfl ?_
          refine qa_ic (nx := 247) (v := nI 1) at_146_246 (by decide) rfl ?_
          refine qa_addN (nx := 248) at_146_247 rfl ?_
          refine qa_tald (nx := 249) at_146_248 rfl (by decide) rfl rfl (show _ < ys.length by omega) (by omega) ?_
          refine qa_callV (nx := 252) at_146_249 rfl rfl (Nat.le_of_ble_eq_true rfl) rfl rfl rfl (by decide) rfl (by decide) ?_
          show qa _ 105 0 [(0, .ref _), (1, .int _)] [] _ _
          refine ⟨n1, some (.int v), σ2, hrun, ?_⟩
          show qa _ 146 252 _ [.int _, .int _] _ _
          refine qa_icmp_eq (tg := 658) (nx := 255) at_146_252 rfl rfl (fun h146_252 => ?_) (fun h146_252 => ?_)
          · refine qa_incN (nx := 661) (c := 6) at_146_658 (by decide) rfl rfl rfl ?_
            refine qa_goto (nx := 18) at_146_661 rfl ?_
            first
              | exact ih (i + 6) σ2 T1 (by omega) (by omega) hR1
              | exact ih (i + 6) σ T (by omega) (by omega) hR
          · exact absurd rfl h146_252
        · refine qa_swi (nx := 257) at_146_33 (by decide +kernel) (show _ = some (224) by decide +kernel) rfl ?_
          refine qa_s (pc' := 258) at_146_257 rfl rfl rfl ?_
          refine qa_callV (nx := 261) at_146_258 rfl rfl (Nat.le_of_ble_eq_true rfl) rfl rfl rfl (by decide) rfl (by decide) ?_
          show qa _ 20 0 [(0, .ref _)] [] _ _
          refine qa_mono (p_admit hR) (fun r1 σ1 hp => ?_)
          obtain ⟨n1, r2, σ2, hrun, v, rfl, rfl, T1, hR1⟩ := hp
          show qa _ 146 261 _ [.int _] _ _
          refine qa_s (pc' := 262) at_146_261 rfl rfl rfl ?_
          refine qa_callV (nx := 265) at_146_262 rfl rfl (Nat.le_of_ble_eq_true rfl) rfl rfl rfl (by decide) rfl (by decide) ?_
          show qa _ 106 0 [(0, .ref _)] [] _ _
          refine ⟨n1, some (.int v), σ2, hrun, ?_⟩
          show qa _ 146 265 _ [.int _, .int _] _ _
          refine qa_icmp_eq (tg := 658) (nx := 268) at_146_265 rfl rfl (fun h146_265 => ?_) (fun h146_265 => ?_)
          · refine qa_incN (nx := 661) (c := 6) at_146_658 (by decide) rfl rfl rfl ?_
            refine qa_goto (nx := 18) at_146_661 rfl ?_
            first
              | exact ih (i + 6) σ2 T1 (by omega) (by omega) hR1
              | exact ih (i + 6) σ T (by omega) (by omega) hR
          · exact absurd rfl h146_265
        · refine qa_swi (nx := 270) at_146_33 (by decide +kernel) (show _ = some (237) by decide +kernel) rfl ?_
          refine qa_s (pc' := 271) at_146_270 rfl rfl rfl ?_
          refine qa_callV (nx := 274) at_146_271 rfl rfl (Nat.le_of_ble_eq_true rfl) rfl rfl rfl (by decide) rfl (by decide) ?_
          show qa _ 45 0 [(0, .ref _)] [] _ _
          refine qa_mono (p_place hR) (fun r1 σ1 hp => ?_)
          obtain ⟨n1, r2, σ2, hrun, v, rfl, rfl, T1, hR1⟩ := hp
          show qa _ 146 274 _ [.int _] _ _
          refine qa_s (pc' := 275) at_146_274 rfl rfl rfl ?_
          refine qa_callV (nx := 278) at_146_275 rfl rfl (Nat.le_of_ble_eq_true rfl) rfl rfl rfl (by decide) rfl (by decide) ?_
          show qa _ 120 0 [(0, .ref _)] [] _ _
          refine ⟨n1, some (.int v), σ2, hrun, ?_⟩
          show qa _ 146 278 _ [.int _, .int _] _ _
          refine qa_icmp_eq (tg := 658) (nx := 281) at_146_278 rfl rfl (fun h146_278 => ?_) (fun h146_278 => ?_)
          · refine qa_incN (nx := 661) (c := 6) at_146_658 (by decide) rfl rfl rfl ?_
            refine qa_goto (nx := 18) at_146_661 rfl ?_
            first
              | exact ih (i + 6) σ2 T1 (by omega) (by omega) hR1
              | exact ih (i + 6) σ T (by omega) (by omega) hR
          · exact absurd rfl h146_278
        · refine qa_swi (nx := 283) at_146_33 (by decide +kernel) (show _ = some (250) by decide +kernel) rfl ?_
          refine qa_s (pc' := 284) at_146_283 rfl rfl rfl ?_
          refine qa_s (pc' := 285) at_146_284 rfl rfl rfl ?_
          refine qa_s (pc' := 286) at_146_285 rfl rfl rfl ?_
          refine qa_ic (nx := 287) (v := nI 1) at_146_286 (by decide) rfl ?_
          refine qa_addN (nx := 288) at_146_287 rfl ?_
          refine qa_tald (nx := 289) at_146_288 rfl (by decide) rfl rfl (show _ < ys.length by omega) (by omega) ?_
          refine qa_callV (nx := 292) at_146_289 rfl rfl (Nat.le_of_ble_eq_true rfl) rfl rfl rfl (by decide) rfl (by decide) ?_
          show qa _ 46 0 [(0, .ref _), (1, .int _)] [] _ _
          refine qa_mono (p_wcet hR _) (fun r1 σ1 hp => ?_)
          obtain ⟨n1, r2, σ2, hrun, v, rfl, rfl, T1, hR1⟩ := hp
          show qa _ 146 292 _ [.int _] _ _
          refine qa_s (pc' := 293) at_146_292 rfl rfl rfl ?_
          refine qa_s (pc' := 294) at_146_293 rfl rfl rfl ?_
          refine qa_s (pc' := 295) at_146_294 rfl rfl rfl ?_
          refine qa_ic (nx := 296) (v := nI 1) at_146_295 (by decide) rfl ?_
          refine qa_addN (nx := 297) at_146_296 rfl ?_
          refine qa_tald (nx := 298) at_146_297 rfl (by decide) rfl rfl (show _ < ys.length by omega) (by omega) ?_
          refine qa_callV (nx := 301) at_146_298 rfl rfl (Nat.le_of_ble_eq_true rfl) rfl rfl rfl (by decide) rfl (by decide) ?_
          show qa _ 121 0 [(0, .ref _), (1, .int _)] [] _ _
          refine ⟨n1, some (.int v), σ2, hrun, ?_⟩
          show qa _ 146 301 _ [.int _, .int _] _ _
          refine qa_icmp_eq (tg := 658) (nx := 304) at_146_301 rfl rfl (fun h146_301 => ?_) (fun h146_301 => ?_)
          · refine qa_incN (nx := 661) (c := 6) at_146_658 (by decide) rfl rfl rfl ?_
            refine qa_goto (nx := 18) at_146_661 rfl ?_
            first
              | exact ih (i + 6) σ2 T1 (by omega) (by omega) hR1
              | exact ih (i + 6) σ T (by omega) (by omega) hR
          · exact absurd rfl h146_301
        · refine qa_swi (nx := 306) at_146_33 (by decide +kernel) (show _ = some (273) by decide +kernel) rfl ?_
          refine qa_s (pc' := 307) at_146_306 rfl rfl rfl ?_
          refine qa_s (pc' := 308) at_146_307 rfl rfl rfl ?_
          refine qa_s (pc' := 309) at_146_308 rfl rfl rfl ?_
          refine qa_ic (nx := 310) (v := nI 1) at_146_309 (by decide) rfl ?_
          refine qa_addN (nx := 311) at_146_310 rfl ?_
          refine qa_tald (nx := 312) at_146_311 rfl (by decide) rfl rfl (show _ < ys.length by omega) (by omega) ?_
          refine qa_s (pc' := 313) at_146_312 rfl rfl rfl ?_
          refine qa_s (pc' := 314) at_146_313 rfl rfl rfl ?_
          refine qa_ic (nx := 315) (v := nI 2) at_146_314 (by decide) rfl ?_
          refine qa_addN (nx := 316) at_146_315 rfl ?_
          refine qa_tald (nx := 317) at_146_316 rfl (by decide) rfl rfl (show _ < ys.length by omega) (by omega) ?_
          refine qa_callV (nx := 320) at_146_317 rfl rfl (Nat.le_of_ble_eq_true rfl) rfl rfl rfl (by decide) rfl (by decide) ?_
          show qa _ 48 0 [(0, .ref _), (1, .int _), (2, .int _)] [] _ _
          refine qa_mono (p_section hR _ _) (fun r1 σ1 hp => ?_)
          obtain ⟨n1, r2, σ2, hrun, v, rfl, rfl, T1, hR1⟩ := hp
          show qa _ 146 320 _ [.int _] _ _
          refine qa_s (pc' := 321) at_146_320 rfl rfl rfl ?_
          refine qa_s (pc' := 322) at_146_321 rfl rfl rfl ?_
          refine qa_s (pc' := 323) at_146_322 rfl rfl rfl ?_
          refine qa_ic (nx := 324) (v := nI 1) at_146_323 (by decide) rfl ?_
          refine qa_addN (nx := 325) at_146_324 rfl ?_
          refine qa_tald (nx := 326) at_146_325 rfl (by decide) rfl rfl (show _ < ys.length by omega) (by omega) ?_
          refine qa_s (pc' := 327) at_146_326 rfl rfl rfl ?_
          refine qa_s (pc' := 328) at_146_327 rfl rfl rfl ?_
          refine qa_ic (nx := 329) (v := nI 2) at_146_328 (by decide) rfl ?_
          refine qa_addN (nx := 330) at_146_329 rfl ?_
          refine qa_tald (nx := 331) at_146_330 rfl (by decide) rfl rfl (show _ < ys.length by omega) (by omega) ?_
          refine qa_callV (nx := 334) at_146_331 rfl rfl (Nat.le_of_ble_eq_true rfl) rfl rfl rfl (by decide) rfl (by decide) ?_
          show qa _ 122 0 [(0, .ref _), (1, .int _), (2, .int _)] [] _ _
          refine ⟨n1, some (.int v), σ2, hrun, ?_⟩
          show qa _ 146 334 _ [.int _, .int _] _ _
          refine qa_icmp_eq (tg := 658) (nx := 337) at_146_334 rfl rfl (fun h146_334 => ?_) (fun h146_334 => ?_)
          · refine qa_incN (nx := 661) (c := 6) at_146_658 (by decide) rfl rfl rfl ?_
            refine qa_goto (nx := 18) at_146_661 rfl ?_
            first
              | exact ih (i + 6) σ2 T1 (by omega) (by omega) hR1
              | exact ih (i + 6) σ T (by omega) (by omega) hR
          · exact absurd rfl h146_334
        · refine qa_swi (nx := 339) at_146_33 (by decide +kernel) (show _ = some (306) by decide +kernel) rfl ?_
          refine qa_s (pc' := 340) at_146_339 rfl rfl rfl ?_
          refine qa_s (pc' := 341) at_146_340 rfl rfl rfl ?_
          refine qa_s (pc' := 342) at_146_341 rfl rfl rfl ?_
          refine qa_ic (nx := 343) (v := nI 1) at_146_342 (by decide) rfl ?_
          refine qa_addN (nx := 344) at_146_343 rfl ?_
          refine qa_tald (nx := 345) at_146_344 rfl (by decide) rfl rfl (show _ < ys.length by omega) (by omega) ?_
          refine qa_callV (nx := 348) at_146_345 rfl rfl (Nat.le_of_ble_eq_true rfl) rfl rfl rfl (by decide) rfl (by decide) ?_
          show qa _ 49 0 [(0, .ref _), (1, .int _)] [] _ _
          refine qa_mono (p_blocking hR _) (fun r1 σ1 hp => ?_)
          obtain ⟨n1, r2, σ2, hrun, v, rfl, rfl, T1, hR1⟩ := hp
          show qa _ 146 348 _ [.int _] _ _
          refine qa_s (pc' := 349) at_146_348 rfl rfl rfl ?_
          refine qa_s (pc' := 350) at_146_349 rfl rfl rfl ?_
          refine qa_s (pc' := 351) at_146_350 rfl rfl rfl ?_
          refine qa_ic (nx := 352) (v := nI 1) at_146_351 (by decide) rfl ?_
          refine qa_addN (nx := 353) at_146_352 rfl ?_
          refine qa_tald (nx := 354) at_146_353 rfl (by decide) rfl rfl (show _ < ys.length by omega) (by omega) ?_
          refine qa_callV (nx := 357) at_146_354 rfl rfl (Nat.le_of_ble_eq_true rfl) rfl rfl rfl (by decide) rfl (by decide) ?_
          show qa _ 123 0 [(0, .ref _), (1, .int _)] [] _ _
          refine ⟨n1, some (.int v), σ2, hrun, ?_⟩
          show qa _ 146 357 _ [.int _, .int _] _ _
          refine qa_icmp_eq (tg := 658) (nx := 360) at_146_357 rfl rfl (fun h146_357 => ?_) (fun h146_357 => ?_)
          · refine qa_incN (nx := 661) (c := 6) at_146_658 (by decide) rfl rfl rfl ?_
            refine qa_goto (nx := 18) at_146_661 rfl ?_
            first
              | exact ih (i + 6) σ2 T1 (by omega) (by omega) hR1
              | exact ih (i + 6) σ T (by omega) (by omega) hR
          · exact absurd rfl h146_357
        · refine qa_swi (nx := 362) at_146_33 (by decide +kernel) (show _ = some (329) by decide +kernel) rfl ?_
          refine qa_s (pc' := 363) at_146_362 rfl rfl rfl ?_
          refine qa_s (pc' := 364) at_146_363 rfl rfl rfl ?_
          refine qa_s (pc' := 365) at_146_364 rfl rfl rfl ?_
          refine qa_ic (nx := 366) (v := nI 1) at_146_365 (by decide) rfl ?_
          refine qa_addN (nx := 367) at_146_366 rfl ?_
          refine qa_tald (nx := 368) at_146_367 rfl (by decide) rfl rfl (show _ < ys.length by omega) (by omega) ?_
          refine qa_callV (nx := 371) at_146_368 rfl rfl (Nat.le_of_ble_eq_true rfl) rfl rfl rfl (by decide) rfl (by decide) ?_
          show qa _ 50 0 [(0, .ref _), (1, .int _)] [] _ _
          refine qa_mono (p_response hR _) (fun r1 σ1 hp => ?_)
          obtain ⟨n1, r2, σ2, hrun, v, rfl, rfl, T1, hR1⟩ := hp
          show qa _ 146 371 _ [.int _] _ _
          refine qa_s (pc' := 372) at_146_371 rfl rfl rfl ?_
          refine qa_s (pc' := 373) at_146_372 rfl rfl rfl ?_
          refine qa_s (pc' := 374) at_146_373 rfl rfl rfl ?_
          refine qa_ic (nx := 375) (v := nI 1) at_146_374 (by decide) rfl ?_
          refine qa_addN (nx := 376) at_146_375 rfl ?_
          refine qa_tald (nx := 377) at_146_376 rfl (by decide) rfl rfl (show _ < ys.length by omega) (by omega) ?_
          refine qa_callV (nx := 380) at_146_377 rfl rfl (Nat.le_of_ble_eq_true rfl) rfl rfl rfl (by decide) rfl (by decide) ?_
          show qa _ 124 0 [(0, .ref _), (1, .int _)] [] _ _
          refine ⟨n1, some (.int v), σ2, hrun, ?_⟩
          show qa _ 146 380 _ [.int _, .int _] _ _
          refine qa_icmp_eq (tg := 658) (nx := 383) at_146_380 rfl rfl (fun h146_380 => ?_) (fun h146_380 => ?_)
          · refine qa_incN (nx := 661) (c := 6) at_146_658 (by decide) rfl rfl rfl ?_
            refine qa_goto (nx := 18) at_146_661 rfl ?_
            first
              | exact ih (i + 6) σ2 T1 (by omega) (by omega) hR1
              | exact ih (i + 6) σ T (by omega) (by omega) hR
          · exact absurd rfl h146_380
        · refine qa_swi (nx := 385) at_146_33 (by decide +kernel) (show _ = some (352) by decide +kernel) rfl ?_
          refine qa_s (pc' := 386) at_146_385 rfl rfl rfl ?_
          refine qa_s (pc' := 387) at_146_386 rfl rfl rfl ?_
          refine qa_s (pc' := 388) at_146_387 rfl rfl rfl ?_
          refine qa_ic (nx := 389) (v := nI 1) at_146_388 (by decide) rfl ?_
          refine qa_addN (nx := 390) at_146_389 rfl ?_
          refine qa_tald (nx := 391) at_146_390 rfl (by decide) rfl rfl (show _ < ys.length by omega) (by omega) ?_
          refine qa_callV (nx := 394) at_146_391 rfl rfl (Nat.le_of_ble_eq_true rfl) rfl rfl rfl (by decide) rfl (by decide) ?_
          show qa _ 51 0 [(0, .ref _), (1, .int _)] [] _ _
          refine qa_mono (p_ceiling hR _) (fun r1 σ1 hp => ?_)
          obtain ⟨n1, r2, σ2, hrun, v, rfl, rfl, T1, hR1⟩ := hp
          show qa _ 146 394 _ [.int _] _ _
          refine qa_s (pc' := 395) at_146_394 rfl rfl rfl ?_
          refine qa_s (pc' := 396) at_146_395 rfl rfl rfl ?_
          refine qa_s (pc' := 397) at_146_396 rfl rfl rfl ?_
          refine qa_ic (nx := 398) (v := nI 1) at_146_397 (by decide) rfl ?_
          refine qa_addN (nx := 399) at_146_398 rfl ?_
          refine qa_tald (nx := 400) at_146_399 rfl (by decide) rfl rfl (show _ < ys.length by omega) (by omega) ?_
          refine qa_callV (nx := 403) at_146_400 rfl rfl (Nat.le_of_ble_eq_true rfl) rfl rfl rfl (by decide) rfl (by decide) ?_
          show qa _ 125 0 [(0, .ref _), (1, .int _)] [] _ _
          refine ⟨n1, some (.int v), σ2, hrun, ?_⟩
          show qa _ 146 403 _ [.int _, .int _] _ _
          refine qa_icmp_eq (tg := 658) (nx := 406) at_146_403 rfl rfl (fun h146_403 => ?_) (fun h146_403 => ?_)
          · refine qa_incN (nx := 661) (c := 6) at_146_658 (by decide) rfl rfl rfl ?_
            refine qa_goto (nx := 18) at_146_661 rfl ?_
            first
              | exact ih (i + 6) σ2 T1 (by omega) (by omega) hR1
              | exact ih (i + 6) σ T (by omega) (by omega) hR
          · exact absurd rfl h146_403
        · refine qa_swi (nx := 408) at_146_33 (by decide +kernel) (show _ = some (375) by decide +kernel) rfl ?_
          refine qa_s (pc' := 409) at_146_408 rfl rfl rfl ?_
          refine qa_callV (nx := 412) at_146_409 rfl rfl (Nat.le_of_ble_eq_true rfl) rfl rfl rfl (by decide) rfl (by decide) ?_
          show qa _ 52 0 [(0, .ref _)] [] _ _
          refine qa_mono (p_start hR) (fun r1 σ1 hp => ?_)
          obtain ⟨n1, r2, σ2, hrun, v, rfl, rfl, T1, hR1⟩ := hp
          show qa _ 146 412 _ [.int _] _ _
          refine qa_s (pc' := 413) at_146_412 rfl rfl rfl ?_
          refine qa_callV (nx := 416) at_146_413 rfl rfl (Nat.le_of_ble_eq_true rfl) rfl rfl rfl (by decide) rfl (by decide) ?_
          show qa _ 126 0 [(0, .ref _)] [] _ _
          refine ⟨n1, some (.int v), σ2, hrun, ?_⟩
          show qa _ 146 416 _ [.int _, .int _] _ _
          refine qa_icmp_eq (tg := 658) (nx := 419) at_146_416 rfl rfl (fun h146_416 => ?_) (fun h146_416 => ?_)
          · refine qa_incN (nx := 661) (c := 6) at_146_658 (by decide) rfl rfl rfl ?_
            refine qa_goto (nx := 18) at_146_661 rfl ?_
            first
              | exact ih (i + 6) σ2 T1 (by omega) (by omega) hR1
              | exact ih (i + 6) σ T (by omega) (by omega) hR
          · exact absurd rfl h146_416
        · refine qa_swi (nx := 421) at_146_33 (by decide +kernel) (show _ = some (388) by decide +kernel) rfl ?_
          refine qa_s (pc' := 422) at_146_421 rfl rfl rfl ?_
          refine qa_callV (nx := 425) at_146_422 rfl rfl (Nat.le_of_ble_eq_true rfl) rfl rfl rfl (by decide) rfl (by decide) ?_
          show qa _ 57 0 [(0, .ref _)] [] _ _
          refine qa_mono (p_halt hR) (fun r1 σ1 hp => ?_)
          obtain ⟨n1, r2, σ2, hrun, v, rfl, rfl, T1, hR1⟩ := hp
          show qa _ 146 425 _ [.int _] _ _
          refine qa_s (pc' := 426) at_146_425 rfl rfl rfl ?_
          refine qa_callV (nx := 429) at_146_426 rfl rfl (Nat.le_of_ble_eq_true rfl) rfl rfl rfl (by decide) rfl (by decide) ?_
          show qa _ 127 0 [(0, .ref _)] [] _ _
          refine ⟨n1, some (.int v), σ2, hrun, ?_⟩
          show qa _ 146 429 _ [.int _, .int _] _ _
          refine qa_icmp_eq (tg := 658) (nx := 432) at_146_429 rfl rfl (fun h146_429 => ?_) (fun h146_429 => ?_)
          · refine qa_incN (nx := 661) (c := 6) at_146_658 (by decide) rfl rfl rfl ?_
            refine qa_goto (nx := 18) at_146_661 rfl ?_
            first
              | exact ih (i + 6) σ2 T1 (by omega) (by omega) hR1
              | exact ih (i + 6) σ T (by omega) (by omega) hR
          · exact absurd rfl h146_429
        · refine qa_swi (nx := 434) at_146_33 (by decide +kernel) (show _ = some (401) by decide +kernel) rfl ?_
          refine qa_s (pc' := 435) at_146_434 rfl rfl rfl ?_
          refine qa_s (pc' := 436) at_146_435 rfl rfl rfl ?_
          refine qa_s (pc' := 437) at_146_436 rfl rfl rfl ?_
          refine qa_ic (nx := 438) (v := nI 1) at_146_437 (by decide) rfl ?_
          refine qa_addN (nx := 439) at_146_438 rfl ?_
          refine qa_tald (nx := 440) at_146_439 rfl (by decide) rfl rfl (show _ < ys.length by omega) (by omega) ?_
          refine qa_callV (nx := 443) at_146_440 rfl rfl (Nat.le_of_ble_eq_true rfl) rfl rfl rfl (by decide) rfl (by decide) ?_
          show qa _ 58 0 [(0, .ref _), (1, .int _)] [] _ _
          refine qa_mono (p_signal hR _) (fun r1 σ1 hp => ?_)
          obtain ⟨n1, r2, σ2, hrun, v, rfl, rfl, T1, hR1⟩ := hp
          show qa _ 146 443 _ [.int _] _ _
          refine qa_s (pc' := 444) at_146_443 rfl rfl rfl ?_
          refine qa_s (pc' := 445) at_146_444 rfl rfl rfl ?_
          refine qa_s (pc' := 446) at_146_445 rfl rfl rfl ?_
          refine qa_ic (nx := 447) (v := nI 1) at_146_446 (by decide) rfl ?_
          refine qa_addN (nx := 448) at_146_447 rfl ?_
          refine qa_tald (nx := 449) at_146_448 rfl (by decide) rfl rfl (show _ < ys.length by omega) (by omega) ?_
          refine qa_callV (nx := 452) at_146_449 rfl rfl (Nat.le_of_ble_eq_true rfl) rfl rfl rfl (by decide) rfl (by decide) ?_
          show qa _ 128 0 [(0, .ref _), (1, .int _)] [] _ _
          refine ⟨n1, some (.int v), σ2, hrun, ?_⟩
          show qa _ 146 452 _ [.int _, .int _] _ _
          refine qa_icmp_eq (tg := 658) (nx := 455) at_146_452 rfl rfl (fun h146_452 => ?_) (fun h146_452 => ?_)
          · refine qa_incN (nx := 661) (c := 6) at_146_658 (by decide) rfl rfl rfl ?_
            refine qa_goto (nx := 18) at_146_661 rfl ?_
            first
              | exact ih (i + 6) σ2 T1 (by omega) (by omega) hR1
              | exact ih (i + 6) σ T (by omega) (by omega) hR
          · exact absurd rfl h146_452
        · refine qa_swi (nx := 457) at_146_33 (by decide +kernel) (show _ = some (424) by decide +kernel) rfl ?_
          refine qa_s (pc' := 458) at_146_457 rfl rfl rfl ?_
          refine qa_s (pc' := 459) at_146_458 rfl rfl rfl ?_
          refine qa_s (pc' := 460) at_146_459 rfl rfl rfl ?_
          refine qa_ic (nx := 461) (v := nI 1) at_146_460 (by decide) rfl ?_
          refine qa_addN (nx := 462) at_146_461 rfl ?_
          refine qa_tald (nx := 463) at_146_462 rfl (by decide) rfl rfl (show _ < ys.length by omega) (by omega) ?_
          refine qa_s (pc' := 464) at_146_463 rfl rfl rfl ?_
          refine qa_s (pc' := 465) at_146_464 rfl rfl rfl ?_
          refine qa_ic (nx := 466) (v := nI 2) at_146_465 (by decide) rfl ?_
          refine qa_addN (nx := 467) at_146_466 rfl ?_
          refine qa_tald (nx := 468) at_146_467 rfl (by decide) rfl rfl (show _ < ys.length by omega) (by omega) ?_
          refine qa_callV (nx := 471) at_146_468 rfl rfl (Nat.le_of_ble_eq_true rfl) rfl rfl rfl (by decide) rfl (by decide) ?_
          show qa _ 61 0 [(0, .ref _), (1, .int _), (2, .int _)] [] _ _
          refine qa_mono (p_input hR _ _) (fun r1 σ1 hp => ?_)
          obtain ⟨n1, r2, σ2, hrun, v, rfl, rfl, T1, hR1⟩ := hp
          show qa _ 146 471 _ [.int _] _ _
          refine qa_s (pc' := 472) at_146_471 rfl rfl rfl ?_
          refine qa_s (pc' := 473) at_146_472 rfl rfl rfl ?_
          refine qa_s (pc' := 474) at_146_473 rfl rfl rfl ?_
          refine qa_ic (nx := 475) (v := nI 1) at_146_474 (by decide) rfl ?_
          refine qa_addN (nx := 476) at_146_475 rfl ?_
          refine qa_tald (nx := 477) at_146_476 rfl (by decide) rfl rfl (show _ < ys.length by omega) (by omega) ?_
          refine qa_s (pc' := 478) at_146_477 rfl rfl rfl ?_
          refine qa_s (pc' := 479) at_146_478 rfl rfl rfl ?_
          refine qa_ic (nx := 480) (v := nI 2) at_146_479 (by decide) rfl ?_
          refine qa_addN (nx := 481) at_146_480 rfl ?_
          refine qa_tald (nx := 482) at_146_481 rfl (by decide) rfl rfl (show _ < ys.length by omega) (by omega) ?_
          refine qa_callV (nx := 485) at_146_482 rfl rfl (Nat.le_of_ble_eq_true rfl) rfl rfl rfl (by decide) rfl (by decide) ?_
          show qa _ 129 0 [(0, .ref _), (1, .int _), (2, .int _)] [] _ _
          refine ⟨n1, some (.int v), σ2, hrun, ?_⟩
          show qa _ 146 485 _ [.int _, .int _] _ _
          refine qa_icmp_eq (tg := 658) (nx := 488) at_146_485 rfl rfl (fun h146_485 => ?_) (fun h146_485 => ?_)
          · refine qa_incN (nx := 661) (c := 6) at_146_658 (by decide) rfl rfl rfl ?_
            refine qa_goto (nx := 18) at_146_661 rfl ?_
            first
              | exact ih (i + 6) σ2 T1 (by omega) (by omega) hR1
              | exact ih (i + 6) σ T (by omega) (by omega) hR
          · exact absurd rfl h146_485
        · refine qa_swi (nx := 490) at_146_33 (by decide +kernel) (show _ = some (457) by decide +kernel) rfl ?_
          refine qa_s (pc' := 491) at_146_490 rfl rfl rfl ?_
          refine qa_s (pc' := 492) at_146_491 rfl rfl rfl ?_
          refine qa_s (pc' := 493) at_146_492 rfl rfl rfl ?_
          refine qa_ic (nx := 494) (v := nI 1) at_146_493 (by decide) rfl ?_
          refine qa_addN (nx := 495) at_146_494 rfl ?_
          refine qa_tald (nx := 496) at_146_495 rfl (by decide) rfl rfl (show _ < ys.length by omega) (by omega) ?_
          refine qa_callV (nx := 499) at_146_496 rfl rfl (Nat.le_of_ble_eq_true rfl) rfl rfl rfl (by decide) rfl (by decide) ?_
          show qa _ 62 0 [(0, .ref _), (1, .int _)] [] _ _
          refine qa_mono (p_run hR _) (fun r1 σ1 hp => ?_)
          obtain ⟨n1, r2, σ2, hrun, v, rfl, rfl, T1, hR1⟩ := hp
          show qa _ 146 499 _ [.int _] _ _
          refine qa_s (pc' := 500) at_146_499 rfl rfl rfl ?_
          refine qa_s (pc' := 501) at_146_500 rfl rfl rfl ?_
          refine qa_s (pc' := 502) at_146_501 rfl rfl rfl ?_
          refine qa_ic (nx := 503) (v := nI 1) at_146_502 (by decide) rfl ?_
          refine qa_addN (nx := 504) at_146_503 rfl ?_
          refine qa_tald (nx := 505) at_146_504 rfl (by decide) rfl rfl (show _ < ys.length by omega) (by omega) ?_
          refine qa_callV (nx := 508) at_146_505 rfl rfl (Nat.le_of_ble_eq_true rfl) rfl rfl rfl (by decide) rfl (by decide) ?_
          show qa _ 130 0 [(0, .ref _), (1, .int _)] [] _ _
          refine ⟨n1, some (.int v), σ2, hrun, ?_⟩
          show qa _ 146 508 _ [.int _, .int _] _ _
          refine qa_icmp_eq (tg := 658) (nx := 511) at_146_508 rfl rfl (fun h146_508 => ?_) (fun h146_508 => ?_)
          · refine qa_incN (nx := 661) (c := 6) at_146_658 (by decide) rfl rfl rfl ?_
            refine qa_goto (nx := 18) at_146_661 rfl ?_
            first
              | exact ih (i + 6) σ2 T1 (by omega) (by omega) hR1
              | exact ih (i + 6) σ T (by omega) (by omega) hR
          · exact absurd rfl h146_508
        · refine qa_swi (nx := 513) at_146_33 (by decide +kernel) (show _ = some (480) by decide +kernel) rfl ?_
          refine qa_s (pc' := 514) at_146_513 rfl rfl rfl ?_
          refine qa_s (pc' := 515) at_146_514 rfl rfl rfl ?_
          refine qa_s (pc' := 516) at_146_515 rfl rfl rfl ?_
          refine qa_ic (nx := 517) (v := nI 1) at_146_516 (by decide) rfl ?_
          refine qa_addN (nx := 518) at_146_517 rfl ?_
          refine qa_tald (nx := 519) at_146_518 rfl (by decide) rfl rfl (show _ < ys.length by omega) (by omega) ?_
          refine qa_callV (nx := 522) at_146_519 rfl rfl (Nat.le_of_ble_eq_true rfl) rfl rfl rfl (by decide) rfl (by decide) ?_
          show qa _ 91 0 [(0, .ref _), (1, .int _)] [] _ _
          refine qa_mono (p_state hR _) (fun r1 σ1 hp => ?_)
          obtain ⟨n1, r2, σ2, hrun, v, rfl, rfl, T1, hR1⟩ := hp
          show qa _ 146 522 _ [.int _] _ _
          refine qa_s (pc' := 523) at_146_522 rfl rfl rfl ?_
          refine qa_s (pc' := 524) at_146_523 rfl rfl rfl ?_
          refine qa_s (pc' := 525) at_146_524 rfl rfl rfl ?_
          refine qa_ic (nx := 526) (v := nI 1) at_146_525 (by decide) rfl ?_
          refine qa_addN (nx := 527) at_146_526 rfl ?_
          refine qa_tald (nx := 528) at_146_527 rfl (by decide) rfl rfl (show _ < ys.length by omega) (by omega) ?_
          refine qa_callV (nx := 531) at_146_528 rfl rfl (Nat.le_of_ble_eq_true rfl) rfl rfl rfl (by decide) rfl (by decide) ?_
          show qa _ 141 0 [(0, .ref _), (1, .int _)] [] _ _
          refine ⟨n1, some (.int v), σ2, hrun, ?_⟩
          show qa _ 146 531 _ [.int _, .int _] _ _
          refine qa_icmp_eq (tg := 658) (nx := 534) at_146_531 rfl rfl (fun h146_531 => ?_) (fun h146_531 => ?_)
          · refine qa_incN (nx := 661) (c := 6) at_146_658 (by decide) rfl rfl rfl ?_
            refine qa_goto (nx := 18) at_146_661 rfl ?_
            first
              | exact ih (i + 6) σ2 T1 (by omega) (by omega) hR1
              | exact ih (i + 6) σ T (by omega) (by omega) hR
          · exact absurd rfl h146_531
        · refine qa_swi (nx := 536) at_146_33 (by decide +kernel) (show _ = some (503) by decide +kernel) rfl ?_
          refine qa_s (pc' := 537) at_146_536 rfl rfl rfl ?_
          refine qa_s (pc' := 538) at_146_537 rfl rfl rfl ?_
          refine qa_s (pc' := 539) at_146_538 rfl rfl rfl ?_
          refine qa_ic (nx := 540) (v := nI 1) at_146_539 (by decide) rfl ?_
          refine qa_addN (nx := 541) at_146_540 rfl ?_
          refine qa_tald (nx := 542) at_146_541 rfl (by decide) rfl rfl (show _ < ys.length by omega) (by omega) ?_
          refine qa_s (pc' := 543) at_146_542 rfl rfl rfl ?_
          refine qa_s (pc' := 544) at_146_543 rfl rfl rfl ?_
          refine qa_ic (nx := 545) (v := nI 2) at_146_544 (by decide) rfl ?_
          refine qa_addN (nx := 546) at_146_545 rfl ?_
          refine qa_tald (nx := 547) at_146_546 rfl (by decide) rfl rfl (show _ < ys.length by omega) (by omega) ?_
          refine qa_callV (nx := 550) at_146_547 rfl rfl (Nat.le_of_ble_eq_true rfl) rfl rfl rfl (by decide) rfl (by decide) ?_
          show qa _ 93 0 [(0, .ref _), (1, .int _), (2, .int _)] [] _ _
          refine qa_mono (p_job hR _ _) (fun r1 σ1 hp => ?_)
          obtain ⟨n1, r2, σ2, hrun, v, rfl, rfl, T1, hR1⟩ := hp
          show qa _ 146 550 _ [.int _] _ _
          refine qa_s (pc' := 551) at_146_550 rfl rfl rfl ?_
          refine qa_s (pc' := 552) at_146_551 rfl rfl rfl ?_
          refine qa_s (pc' := 553) at_146_552 rfl rfl rfl ?_
          refine qa_ic (nx := 554) (v := nI 1) at_146_553 (by decide) rfl ?_
          refine qa_addN (nx := 555) at_146_554 rfl ?_
          refine qa_tald (nx := 556) at_146_555 rfl (by decide) rfl rfl (show _ < ys.length by omega) (by omega) ?_
          refine qa_s (pc' := 557) at_146_556 rfl rfl rfl ?_
          refine qa_s (pc' := 558) at_146_557 rfl rfl rfl ?_
          refine qa_ic (nx := 559) (v := nI 2) at_146_558 (by decide) rfl ?_
          refine qa_addN (nx := 560) at_146_559 rfl ?_
          refine qa_tald (nx := 561) at_146_560 rfl (by decide) rfl rfl (show _ < ys.length by omega) (by omega) ?_
          refine qa_callV (nx := 564) at_146_561 rfl rfl (Nat.le_of_ble_eq_true rfl) rfl rfl rfl (by decide) rfl (by decide) ?_
          show qa _ 142 0 [(0, .ref _), (1, .int _), (2, .int _)] [] _ _
          refine ⟨n1, some (.int v), σ2, hrun, ?_⟩
          show qa _ 146 564 _ [.int _, .int _] _ _
          refine qa_icmp_eq (tg := 658) (nx := 567) at_146_564 rfl rfl (fun h146_564 => ?_) (fun h146_564 => ?_)
          · refine qa_incN (nx := 661) (c := 6) at_146_658 (by decide) rfl rfl rfl ?_
            refine qa_goto (nx := 18) at_146_661 rfl ?_
            first
              | exact ih (i + 6) σ2 T1 (by omega) (by omega) hR1
              | exact ih (i + 6) σ T (by omega) (by omega) hR
          · exact absurd rfl h146_564
        · refine qa_swi (nx := 569) at_146_33 (by decide +kernel) (show _ = some (536) by decide +kernel) rfl ?_
          refine qa_s (pc' := 570) at_146_569 rfl rfl rfl ?_
          refine qa_s (pc' := 571) at_146_570 rfl rfl rfl ?_
          refine qa_s (pc' := 572) at_146_571 rfl rfl rfl ?_
          refine qa_ic (nx := 573) (v := nI 1) at_146_572 (by decide) rfl ?_
          refine qa_addN (nx := 574) at_146_573 rfl ?_
          refine qa_tald (nx := 575) at_146_574 rfl (by decide) rfl rfl (show _ < ys.length by omega) (by omega) ?_
          refine qa_callV (nx := 578) at_146_575 rfl rfl (Nat.le_of_ble_eq_true rfl) rfl rfl rfl (by decide) rfl (by decide) ?_
          show qa _ 95 0 [(0, .ref _), (1, .int _)] [] _ _
          refine qa_mono (p_worst hR _) (fun r1 σ1 hp => ?_)
          obtain ⟨n1, r2, σ2, hrun, v, rfl, rfl, T1, hR1⟩ := hp
          show qa _ 146 578 _ [.int _] _ _
          refine qa_s (pc' := 579) at_146_578 rfl rfl rfl ?_
          refine qa_s (pc' := 580) at_146_579 rfl rfl rfl ?_
          refine qa_s (pc' := 581) at_146_580 rfl rfl rfl ?_
          refine qa_ic (nx := 582) (v := nI 1) at_146_581 (by decide) rfl ?_
          refine qa_addN (nx := 583) at_146_582 rfl ?_
          refine qa_tald (nx := 584) at_146_583 rfl (by decide) rfl rfl (show _ < ys.length by omega) (by omega) ?_
          refine qa_callV (nx := 587) at_146_584 rfl rfl (Nat.le_of_ble_eq_true rfl) rfl rfl rfl (by decide) rfl (by decide) ?_
          show qa _ 143 0 [(0, .ref _), (1, .int _)] [] _ _
          refine ⟨n1, some (.int v), σ2, hrun, ?_⟩
          show qa _ 146 587 _ [.int _, .int _] _ _
          refine qa_icmp_eq (tg := 658) (nx := 590) at_146_587 rfl rfl (fun h146_587 => ?_) (fun h146_587 => ?_)
          · refine qa_incN (nx := 661) (c := 6) at_146_658 (by decide) rfl rfl rfl ?_
            refine qa_goto (nx := 18) at_146_661 rfl ?_
            first
              | exact ih (i + 6) σ2 T1 (by omega) (by omega) hR1
              | exact ih (i + 6) σ T (by omega) (by omega) hR
          · exact absurd rfl h146_587
        · refine qa_swi (nx := 592) at_146_33 (by decide +kernel) (show _ = some (559) by decide +kernel) rfl ?_
          refine qa_s (pc' := 593) at_146_592 rfl rfl rfl ?_
          refine qa_s (pc' := 594) at_146_593 rfl rfl rfl ?_
          refine qa_s (pc' := 595) at_146_594 rfl rfl rfl ?_
          refine qa_ic (nx := 596) (v := nI 1) at_146_595 (by decide) rfl ?_
          refine qa_addN (nx := 597) at_146_596 rfl ?_
          refine qa_tald (nx := 598) at_146_597 rfl (by decide) rfl rfl (show _ < ys.length by omega) (by omega) ?_
          refine qa_s (pc' := 599) at_146_598 rfl rfl rfl ?_
          refine qa_s (pc' := 600) at_146_599 rfl rfl rfl ?_
          refine qa_ic (nx := 601) (v := nI 2) at_146_600 (by decide) rfl ?_
          refine qa_addN (nx := 602) at_146_601 rfl ?_
          refine qa_tald (nx := 603) at_146_602 rfl (by decide) rfl rfl (show _ < ys.length by omega) (by omega) ?_
          refine qa_callV (nx := 606) at_146_603 rfl rfl (Nat.le_of_ble_eq_true rfl) rfl rfl rfl (by decide) rfl (by decide) ?_
          show qa _ 96 0 [(0, .ref _), (1, .int _), (2, .int _)] [] _ _
          refine qa_mono (p_word hR _ _) (fun r1 σ1 hp => ?_)
          obtain ⟨n1, r2, σ2, hrun, v, rfl, rfl, T1, hR1⟩ := hp
          show qa _ 146 606 _ [.int _] _ _
          refine qa_s (pc' := 607) at_146_606 rfl rfl rfl ?_
          refine qa_s (pc' := 608) at_146_607 rfl rfl rfl ?_
          refine qa_s (pc' := 609) at_146_608 rfl rfl rfl ?_
          refine qa_ic (nx := 610) (v := nI 1) at_146_609 (by decide) rfl ?_
          refine qa_addN (nx := 611) at_146_610 rfl ?_
          refine qa_tald (nx := 612) at_146_611 rfl (by decide) rfl rfl (show _ < ys.length by omega) (by omega) ?_
          refine qa_s (pc' := 613) at_146_612 rfl rfl rfl ?_
          refine qa_s (pc' := 614) at_146_613 rfl rfl rfl ?_
          refine qa_ic (nx := 615) (v := nI 2) at_146_614 (by decide) rfl ?_
          refine qa_addN (nx := 616) at_146_615 rfl ?_
          refine qa_tald (nx := 617) at_146_616 rfl (by decide) rfl rfl (show _ < ys.length by omega) (by omega) ?_
          refine qa_callV (nx := 620) at_146_617 rfl rfl (Nat.le_of_ble_eq_true rfl) rfl rfl rfl (by decide) rfl (by decide) ?_
          show qa _ 144 0 [(0, .ref _), (1, .int _), (2, .int _)] [] _ _
          refine ⟨n1, some (.int v), σ2, hrun, ?_⟩
          show qa _ 146 620 _ [.int _, .int _] _ _
          refine qa_icmp_eq (tg := 658) (nx := 623) at_146_620 rfl rfl (fun h146_620 => ?_) (fun h146_620 => ?_)
          · refine qa_incN (nx := 661) (c := 6) at_146_658 (by decide) rfl rfl rfl ?_
            refine qa_goto (nx := 18) at_146_661 rfl ?_
            first
              | exact ih (i + 6) σ2 T1 (by omega) (by omega) hR1
              | exact ih (i + 6) σ T (by omega) (by omega) hR
          · exact absurd rfl h146_620
        · refine qa_swi (nx := 625) at_146_33 (by decide +kernel) (show _ = some (592) by decide +kernel) rfl ?_
          refine qa_s (pc' := 626) at_146_625 rfl rfl rfl ?_
          refine qa_s (pc' := 627) at_146_626 rfl rfl rfl ?_
          refine qa_s (pc' := 628) at_146_627 rfl rfl rfl ?_
          refine qa_ic (nx := 629) (v := nI 1) at_146_628 (by decide) rfl ?_
          refine qa_addN (nx := 630) at_146_629 rfl ?_
          refine qa_tald (nx := 631) at_146_630 rfl (by decide) rfl rfl (show _ < ys.length by omega) (by omega) ?_
          refine qa_s (pc' := 632) at_146_631 rfl rfl rfl ?_
          refine qa_s (pc' := 633) at_146_632 rfl rfl rfl ?_
          refine qa_ic (nx := 634) (v := nI 2) at_146_633 (by decide) rfl ?_
          refine qa_addN (nx := 635) at_146_634 rfl ?_
          refine qa_tald (nx := 636) at_146_635 rfl (by decide) rfl rfl (show _ < ys.length by omega) (by omega) ?_
          refine qa_callV (nx := 639) at_146_636 rfl rfl (Nat.le_of_ble_eq_true rfl) rfl rfl rfl (by decide) rfl (by decide) ?_
          show qa _ 97 0 [(0, .ref _), (1, .int _), (2, .int _)] [] _ _
          refine qa_mono (p_entry hR _ _) (fun r1 σ1 hp => ?_)
          obtain ⟨n1, r2, σ2, hrun, v, rfl, rfl, T1, hR1⟩ := hp
          show qa _ 146 639 _ [.int _] _ _
          refine qa_s (pc' := 640) at_146_639 rfl rfl rfl ?_
          refine qa_s (pc' := 641) at_146_640 rfl rfl rfl ?_
          refine qa_s (pc' := 642) at_146_641 rfl rfl rfl ?_
          refine qa_ic (nx := 643) (v := nI 1) at_146_642 (by decide) rfl ?_
          refine qa_addN (nx := 644) at_146_643 rfl ?_
          refine qa_tald (nx := 645) at_146_644 rfl (by decide) rfl rfl (show _ < ys.length by omega) (by omega) ?_
          refine qa_s (pc' := 646) at_146_645 rfl rfl rfl ?_
          refine qa_s (pc' := 647) at_146_646 rfl rfl rfl ?_
          refine qa_ic (nx := 648) (v := nI 2) at_146_647 (by decide) rfl ?_
          refine qa_addN (nx := 649) at_146_648 rfl ?_
          refine qa_tald (nx := 650) at_146_649 rfl (by decide) rfl rfl (show _ < ys.length by omega) (by omega) ?_
          refine qa_callV (nx := 653) at_146_650 rfl rfl (Nat.le_of_ble_eq_true rfl) rfl rfl rfl (by decide) rfl (by decide) ?_
          show qa _ 145 0 [(0, .ref _), (1, .int _), (2, .int _)] [] _ _
          refine ⟨n1, some (.int v), σ2, hrun, ?_⟩
          show qa _ 146 653 _ [.int _, .int _] _ _
          refine qa_icmp_eq (tg := 658) (nx := 656) at_146_653 rfl rfl (fun h146_653 => ?_) (fun h146_653 => ?_)
          · refine qa_incN (nx := 661) (c := 6) at_146_658 (by decide) rfl rfl rfl ?_
            refine qa_goto (nx := 18) at_146_661 rfl ?_
            first
              | exact ih (i + 6) σ2 T1 (by omega) (by omega) hR1
              | exact ih (i + 6) σ T (by omega) (by omega) hR
          · exact absurd rfl h146_653
theorem Rel_0 : Rel 0 s0 := by
  refine ⟨⟨by decide, rfl, rfl, Or.inl rfl, rfl, Or.inl rfl, rfl, rfl, fun h => absurd (show (0 : Int32) = 1 from h) (by decide)⟩, fun i hi => absurd hi (Nat.not_lt_zero _), fun n hn => ⟨⟨0, by decide, rfl, rfl⟩, fun k hk => ⟨rfl, rfl, rfl, ⟨0, 0, by decide, rfl, by decide, rfl, fun _ _ => rfl, Or.inl rfl⟩⟩⟩, fun j hj => ?_, fun h => absurd (show (0 : Int32) = 1 from h) (by decide), ⟨fun j hj => ⟨rfl, rfl, rfl, rfl⟩, fun i hi => ⟨rfl, rfl, rfl, rfl, rfl, rfl, rfl, fun k hk => rfl, fun r hr => ⟨rfl, rfl⟩⟩, fun n hn k hk => rfl⟩, fun h => absurd (show (0 : Int32) = 1 from h) (by decide)⟩
  rfl
/-- a run over any cells -/
def rh (cst : List (List Int32)) (m pc : Nat) (ls : mj_Ls) (st : List Value) (h : mj_Hp) (x : Option Value × mj_Hp) : Prop := ∃ n, mj_run cst n m pc ls st h = some x
theorem rh_s {m pc : Nat} {ls : mj_Ls} {st : List Value} {h : mj_Hp} {x : Option Value × mj_Hp} {j : Instr} {a c pc' : Nat} {ls' : mj_Ls} {st' : List Value} {h' : mj_Hp} (hat : mj_at m pc = some (j, a, c)) (hr : mj_isRet j (mj_ret m) st = none) (hc : mj_isCall j = none) (hs : mj_step cst j a c pc ls st h = some (pc', ls', st', h')) (K : rh cst m pc' ls' st' h' x) : rh cst m pc ls st h x := by
  obtain ⟨n, h1⟩ := K
  refine ⟨n + 1, ?_⟩
  unfold mj_run
  rw [hat]; dsimp only; rw [hr]; dsimp only; rw [hc]; dsimp only; rw [hs]
  exact h1
theorem rh_c {m pc q a nx r : Nat} {ls : mj_Ls} {rest : List Value} {h h1 : mj_Hp} {x : Option Value × mj_Hp} (hat : mj_at m pc = some (.invokespecial q, a, 0)) (ha : a ≠ 1000) (h5 : 5 ≤ r) (ht : (h[r - 5]?).map (fun c => c.1) = some (mj_ci a)) (hok : mj_argsOk a [.ref r] = true) (hrm : mj_room rest = true) (hn : pc + 3 = nx) (hcal : mj_run [] 5000 a 0 [(0, .ref r)] [] h = some (none, h1)) (K : rh cst m nx ls rest h1 x) : rh cst m pc ls (.ref r :: rest) h x := by
  subst hn
  obtain ⟨n2, h2⟩ := K
  refine ⟨max 5000 n2 + 1, ?_⟩
  unfold mj_run
  rw [hat]; dsimp only
  rw [show mj_isRet (.invokespecial q) (mj_ret m) (.ref r :: rest) = none from rfl]; dsimp only
  show (if a = 1000 then _ else if 0 ≤ (Value.ref r :: rest).length ∧ 5 ≤ r ∧ (h[r - 5]?).map (fun c => c.1) = some (mj_ci a) ∧ mj_argsOk a [.ref r] = true ∧ mj_room rest = true then
              (match mj_run cst (max 5000 n2) a 0 [(0, .ref r)] [] h with
              | some (r, h') => mj_run cst (max 5000 n2) m (pc + 3) ls (r.toList ++ rest) h'
              | none => none)
            else none) = _
  rw [if_neg ha, if_pos ⟨Nat.zero_le _, h5, ht, hok, hrm⟩, mj_run_le (mj_run_nil hcal) (Nat.le_max_left _ _)]
  exact mj_run_le h2 (Nat.le_max_right _ _)
theorem t163 : ((lay s0).take 163).length = 163 := by decide +kernel
theorem law_0 (hy : ys.length ≤ 3072) : ∃ (n : Nat) (h' : mj_Hp), mj_run (mj_cst ys) n 146 0 [(0, .ref 0)] [] [] = some (some (.int 1), h') ∧ h'.length ≤ 600000 ∧ mj_sl h' ≤ 7302250 := by
  obtain ⟨n0, r, σ', h1, h2⟩ := law_l hy (ys.length + 1) 0 s0 0 (by omega) (by omega) Rel_0
  have h2' : r = some (.int 1) := h2
  subst h2'
  have hrun : rh (mj_cst ys) 146 0 [(0, .ref 0)] [] [] (some (.int 1), lay σ') := by
    refine rh_s (pc' := 3) (st' := [.ref 5]) (h' := [(0, mj_blank 0)]) at_146_0 rfl rfl rfl ?_
    refine rh_s (pc' := 4) (st' := [.ref 5, .ref 5]) at_146_3 rfl rfl rfl ?_
    refine rh_c (nx := 7) at_146_4 (by decide) (by decide) (by decide +kernel) (by decide) (by decide) rfl ph_1 ?_
    refine rh_s (pc' := 8) (st' := []) at_146_7 rfl rfl rfl ?_
    refine rh_s (pc' := 11) (ls' := [(0, .ref 0), (1, .ref 5)]) (st' := [.ref 168]) (h' := (lay s0).take 163 ++ [(10, mj_blank 10)]) at_146_8 rfl rfl ?_ ?_
    · show some (8 + 3, _, Value.ref (5 + ((lay s0).take 163).length) :: [], _) = _
      rw [t163]
      rfl
    refine rh_s (pc' := 12) (st' := [.ref 168, .ref 168]) at_146_11 rfl rfl rfl ?_
    refine rh_c (nx := 15) at_146_12 (by decide) (by decide) (by decide +kernel) (by decide) (by decide) rfl ph_2 ?_
    refine rh_s (pc' := 16) (st' := []) at_146_15 rfl rfl rfl ?_
    refine rh_s (pc' := 17) (st' := [.int 0]) at_146_16 rfl rfl rfl ?_
    refine rh_s (pc' := 18) (st' := []) at_146_17 rfl rfl rfl ?_
    exact ⟨n0, h1⟩
  obtain ⟨n, hn⟩ := hrun
  refine ⟨n, lay σ', hn, ?_, ?_⟩
  · unfold lay
    rw [List.length_map, kd_ixl]
    decide
  · have e : mj_sl (lay σ') = (kd_ix.map (fun q => kd_len q.1)).sum := by
      unfold mj_sl lay
      rw [List.map_map]
      refine congrArg List.sum (List.map_congr_left (fun q _ => ?_))
      show (slo σ' q.1 q.2).length = _
      unfold slo
      rw [List.length_map, List.length_range]
    rw [e]
    decide +kernel
end PQ
