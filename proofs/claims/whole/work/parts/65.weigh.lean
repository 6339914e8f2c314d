/-! the fourth call: costs and sections of a task, the reference -/
section PQ
variable {cst : List (List Int32)} {ys : List Int32} {σ b : sg} {Q : Option Value → sg → Prop} {T k i r d n f t s : Nat} {L : Nat → Nat} {P Y : Nat → Nat → Nat} {p tot : Nat → Nat}
/-- the reference's sections while task i is looked through -/
def SMI (i : Nat) (cur : Nat → Nat) (σ1 σ : sg) : Prop := (∀ a, a ≠ 51 → a ≠ 54 → σ1 a = σ a) ∧ (∀ j, (j < 4 * i ∨ 4 * i + 4 ≤ j) → σ1 54 0 j = σ 54 0 j) ∧ ∀ s, s < 4 → σ1 54 0 (4 * i + s) = nI (cur s)
theorem SMI_s {cur cur' : Nat → Nat} {σ1 σ2 : sg} {v : Nat} {w : Nat} (h : SMI i cur σ1 σ) (hs : s < 4) (f1 : ∀ a, a ≠ 51 → σ2 a = σ1 a) (hw : w = max (cur s) v) (hc : ∀ q, q < 4 → cur' q = if q = s then max (cur s) v else cur q) : SMI i cur' (up σ2 54 0 (4 * i + s) (nI w)) σ := by
  obtain ⟨h1, h2, h3⟩ := h
  refine ⟨fun a g1 g2 => by rw [up_k g2, f1 a g1]; exact h1 a g1 g2, fun j hj => by rw [up_j (by omega), f1 54 (by decide)]; exact h2 j hj, fun q hq => ?_⟩
  rw [hc q hq]
  by_cases g : q = s
  · subst g
    rw [if_pos rfl, hw]
    exact up_s
  · rw [if_neg g, up_j (by omega), f1 54 (by decide)]
    exact h3 q hq
theorem c115_l (hi : i < 5) (hI : ImM L P Y σ) (hD : ∀ r, r < 3 → SD L P Y i r) (hM : ∀ r, r < 3 → mtAllM (P (3 * i + r)) (3 * i + r) (L (3 * i + r)) σ) (hPr : ∀ o, o < 15 → σ 49 0 o = nI (prN o)) (t1 : σ 52 0 1 = nI (T1 L P Y i)) (t2 : σ 52 0 2 = nI (T2 L P Y i)) (hr : r < 3) (K : ∀ σ1, SMI i (fun s => SC L P Y i s (r + 1)) σ1 σ → qa cst 115 79 [(0, .ref (cl 40 0)), (1, .int (nI i)), (2, .int (nI (r + 1)))] [] σ1 Q) : ∀ m k σ1, k + m = (L (3 * i + r)) → SMI i (fun s => scF (P (3 * i + r)) (Y (3 * i + r)) (tq L P Y i r) (L (3 * i + r)) s (SC L P Y i s r) k) σ1 σ → qa cst 115 96 [(0, .ref (cl 40 0)), (1, .int (nI i)), (2, .int (nI r)), (3, .int (nI ((3 * i + r) * 12))), (4, .int (nI k))] [] σ1 Q := by
  have hL := (hD r hr).1.1
  have h2 := hD 2 (by decide)
  have h1 := hD 1 (by decide)
  intro m
  induction m with
  | zero =>
    intro k σ1 hk hS
    have e48 : σ1 48 0 (3 * i + r) = nI (L (3 * i + r)) := by rw [hS.1 48 (by decide) (by decide)]; exact (hI (3 * i + r) (by omega)).2.1
    obtain rfl : k = (L (3 * i + r)) := by omega
    refine qa_s (pc' := 98) at_115_96 rfl rfl rfl ?_
    refine qa_s (pc' := 99) at_115_98 rfl rfl rfl ?_
    refine qa_getR (nx := 102) at_115_99 rfl (by decide) rfl rfl (by decide) ?_
    refine qa_ic (nx := 103) (v := nI 3) at_115_102 (by decide) rfl ?_
    refine qa_s (pc' := 104) at_115_103 rfl rfl rfl ?_
    refine qa_mulN (nx := 105) at_115_104 rfl ?_
    refine qa_s (pc' := 106) at_115_105 rfl rfl rfl ?_
    refine qa_addN (nx := 107) at_115_106 rfl ?_
    refine qa_ialdV (nx := 108) (k := (3 * i) + r) (v := nI (L (3 * i + r))) at_115_107 rfl rfl rfl (by decide) rfl (show (3 * i) + r < 15 by omega) (show _ from e48) ?_
    refine qn_icmp_ge (tg := 201) (nx := 111) at_115_108 rfl rfl (by omega) (by omega) (fun h115_108 => ?_) (fun h115_108 => ?_)
    · refine qa_incN (nx := 204) (c := 1) at_115_201 (by decide) rfl rfl rfl ?_
      refine qa_goto (nx := 79) at_115_204 rfl ?_
      show qa _ _ _ [(0, .ref (cl 40 0)), (1, .int (nI i)), (2, .int (nI (r + 1))), (3, .int _), (4, .int _)] [] _ _
      exact qa_drop (l1 := [(0, .ref (cl 40 0)), (1, .int (nI i)), (2, .int (nI (r + 1)))]) (by intro q hq; simp only [List.mem_cons, List.not_mem_nil, or_false] at hq ⊢; rcases hq with rfl | rfl | rfl <;> simp) (by simp [mj_nd]) (K σ1 hS)
    · omega
  | succ m ih =>
    intro k σ1 hk hS
    have e48 : σ1 48 0 (3 * i + r) = nI (L (3 * i + r)) := by rw [hS.1 48 (by decide) (by decide)]; exact (hI (3 * i + r) (by omega)).2.1
    have hIσ : ImM L P Y σ1 := ImM_of (σ := σ) (hS.1 48 (by decide) (by decide)) (hS.1 44 (by decide) (by decide)) (hS.1 46 (by decide) (by decide)) hI
    obtain ⟨hP, e44, h46⟩ := (hIσ (3 * i + r) (by omega)).2.2 k (by omega)
    refine qa_s (pc' := 98) at_115_96 rfl rfl rfl ?_
    refine qa_s (pc' := 99) at_115_98 rfl rfl rfl ?_
    refine qa_getR (nx := 102) at_115_99 rfl (by decide) rfl rfl (by decide) ?_
    refine qa_ic (nx := 103) (v := nI 3) at_115_102 (by decide) rfl ?_
    refine qa_s (pc' := 104) at_115_103 rfl rfl rfl ?_
    refine qa_mulN (nx := 105) at_115_104 rfl ?_
    refine qa_s (pc' := 106) at_115_105 rfl rfl rfl ?_
    refine qa_addN (nx := 107) at_115_106 rfl ?_
    refine qa_ialdV (nx := 108) (k := (3 * i) + r) (v := nI (L (3 * i + r))) at_115_107 rfl rfl rfl (by decide) rfl (show (3 * i) + r < 15 by omega) (show _ from e48) ?_
    refine qn_icmp_ge (tg := 201) (nx := 111) at_115_108 rfl rfl (by omega) (by omega) (fun h115_108 => ?_) (fun h115_108 => ?_)
    · omega
    · refine qa_s (pc' := 112) at_115_111 rfl rfl rfl ?_
      refine qa_getR (nx := 115) at_115_112 rfl (by decide) rfl rfl (by decide) ?_
      refine qa_s (pc' := 116) at_115_115 rfl rfl rfl ?_
      refine qa_s (pc' := 118) at_115_116 rfl rfl rfl ?_
      refine qa_addN (nx := 119) at_115_118 rfl ?_
      refine qa_ialdV (nx := 120) (k := ((3 * i + r) * 12) + k) (v := nI (P (3 * i + r) k)) at_115_119 rfl rfl rfl (by decide) rfl (show ((3 * i + r) * 12) + k < 180 by omega) (show _ from e44) ?_
      refine qa_bi (nx := 122) (v := nI 8) at_115_120 (by decide) rfl ?_
      refine qn_icmp_ne (tg := 195) (nx := 125) at_115_122 rfl rfl (by omega) (by omega) (fun h115_122 => ?_) (fun h115_122 => ?_)
      · refine qa_incN (nx := 198) (c := 1) at_115_195 (by decide) rfl rfl rfl ?_
        refine qa_goto (nx := 96) at_115_198 rfl ?_
        exact ih (k + 1) σ1 (by omega) ⟨hS.1, hS.2.1, fun q hq => by have z := hS.2.2 q hq; simp only [scF]; rw [if_neg (fun c => h115_122 c.1)]; exact z⟩
      · obtain ⟨f1, f2, f3, f4, hsp⟩ := fmt_q (hD r hr).1 (by omega : k < L (3 * i + r)) h115_122
        have hse := sec_b h2 h1 (hD r hr) (by omega : k < L (3 * i + r)) h115_122
        have hy4 := (hD r hr).2.2.2.2 k (by omega) h115_122
        have hmt : σ1 47 0 ((3 * i + r) * 12 + k) = nI ((3 * i + r) * 12 + fmt (P (3 * i + r)) k (L (3 * i + r))) := by rw [hS.1 47 (by decide) (by decide)]; have z := (hM r hr _ f2 (Or.inr f3)).2; rw [f4] at z; exact z
        have hcb := scF_b (s := Y (3 * i + r) k) h2 h1 (hD r hr) (SC_b (s := Y (3 * i + r) k) hD r (by omega)) k (by omega)
        refine qa_s (pc' := 126) at_115_125 rfl rfl rfl ?_
        refine qa_s (pc' := 127) at_115_126 rfl rfl rfl ?_
        refine qa_s (pc' := 129) at_115_127 rfl rfl rfl ?_
        refine qa_ic (nx := 130) (v := nI 1) at_115_129 (by decide) rfl ?_
        refine qa_addN (nx := 131) at_115_130 rfl ?_
        refine qa_s (pc' := 132) at_115_131 rfl rfl rfl ?_
        refine qa_getR (nx := 135) at_115_132 rfl (by decide) rfl rfl (by decide) ?_
        refine qa_s (pc' := 136) at_115_135 rfl rfl rfl ?_
        refine qa_s (pc' := 138) at_115_136 rfl rfl rfl ?_
        refine qa_addN (nx := 139) at_115_138 rfl ?_
        refine qa_ialdV (nx := 140) (k := ((3 * i + r) * 12) + k) (v := nI ((3 * i + r) * 12 + fmt (P (3 * i + r)) k (L (3 * i + r)))) at_115_139 rfl rfl rfl (by decide) rfl (show ((3 * i + r) * 12) + k < 180 by omega) (show _ from hmt) ?_
        refine qa_s (pc' := 141) at_115_140 rfl rfl rfl ?_
        refine qa_subN (nx := 142) at_115_141 rfl (by omega) ?_
        rw [show (3 * i + r) * 12 + fmt (P (3 * i + r)) k (L (3 * i + r)) - (3 * i + r) * 12 = fmt (P (3 * i + r)) k (L (3 * i + r)) by omega]
        refine qa_ic (nx := 143) (v := nI 1) at_115_142 (by decide) rfl ?_
        refine qa_addN (nx := 144) at_115_143 rfl ?_
        refine qa_callV (nx := 147) at_115_144 rfl rfl (Nat.le_of_ble_eq_true rfl) rfl rfl rfl (by decide) rfl (by decide) ?_
        show qa _ 116 0 [(0, .ref _), (1, .int _), (2, .int _), (3, .int _)] [] _ _
        refine c116_q (r := r) (tot := tq L P Y i r) hi hr hIσ (hD r hr) (fun c hc hpc => by rw [hS.1 47 (by decide) (by decide)]; exact hM r hr c hc hpc) (fun o ho => by rw [hS.1 49 (by decide) (by decide)]; exact hPr o ho) (fun y g1 g2 => ?_) hsp (fun j hj => Nat.lt_of_le_of_lt (S_b h2 h1 (hD r hr) hsp j hj) (by decide)) (fun σ2 hF2 => ?_)
        · rw [hS.1 52 (by decide) (by decide)]
          (obtain ⟨rfl, rfl⟩ | ⟨rfl, rfl⟩ | ⟨rfl, rfl⟩ : (r = 0 ∧ y = 1) ∨ (r = 0 ∧ y = 2) ∨ (r = 1 ∧ y = 2) := by omega) <;> first | exact t1 | exact t2
        have e54 : σ2 54 0 (4 * i + Y (3 * i + r) k) = nI (scF (P (3 * i + r)) (Y (3 * i + r)) (tq L P Y i r) (L (3 * i + r)) (Y (3 * i + r) k) (SC L P Y i (Y (3 * i + r) k) r) k) := by rw [hF2 54 (by decide)]; exact hS.2.2 _ hy4
        have e46 : σ2 46 0 ((3 * i + r) * 12 + k) = nI (Y (3 * i + r) k) := by rw [hF2 46 (by decide)]; exact (h46 (by omega)).1
        show qa _ 115 147 _ [.int (nI (secA (P (3 * i + r)) (Y (3 * i + r)) (tq L P Y i r) (L (3 * i + r)) k))] _ _
        show qa _ 115 147 _ [.int _] _ _
        refine qa_s (pc' := 149) at_115_147 rfl rfl rfl ?_
        refine qa_ic (nx := 150) (v := nI 4) at_115_149 (by decide) rfl ?_
        refine qa_s (pc' := 151) at_115_150 rfl rfl rfl ?_
        refine qa_mulN (nx := 152) at_115_151 rfl ?_
        refine qa_s (pc' := 153) at_115_152 rfl rfl rfl ?_
        refine qa_getR (nx := 156) at_115_153 rfl (by decide) rfl rfl (by decide) ?_
        refine qa_s (pc' := 157) at_115_156 rfl rfl rfl ?_
        refine qa_s (pc' := 159) at_115_157 rfl rfl rfl ?_
        refine qa_addN (nx := 160) at_115_159 rfl ?_
        refine qa_ialdV (nx := 161) (k := ((3 * i + r) * 12) + k) (v := nI (Y (3 * i + r) k)) at_115_160 rfl rfl rfl (by decide) rfl (show ((3 * i + r) * 12) + k < 180 by omega) (show _ from e46) ?_
        refine qa_addN (nx := 162) at_115_161 rfl ?_
        refine qa_s (pc' := 164) at_115_162 rfl rfl rfl ?_
        refine qa_s (pc' := 165) at_115_164 rfl rfl rfl ?_
        refine qa_getR (nx := 168) at_115_165 rfl (by decide) rfl rfl (by decide) ?_
        refine qa_s (pc' := 170) at_115_168 rfl rfl rfl ?_
        refine qa_s (pc' := 172) at_115_170 rfl rfl rfl ?_
        refine qa_s (pc' := 173) at_115_172 rfl rfl rfl ?_
        refine qa_getR (nx := 176) at_115_173 rfl (by decide) rfl rfl (by decide) ?_
        refine qa_s (pc' := 178) at_115_176 rfl rfl rfl ?_
        refine qa_ialdV (nx := 179) (k := (4 * i) + (Y (3 * i + r) k)) (v := nI (scF (P (3 * i + r)) (Y (3 * i + r)) (tq L P Y i r) (L (3 * i + r)) (Y (3 * i + r) k) (SC L P Y i (Y (3 * i + r) k) r) k)) at_115_178 rfl rfl rfl (by decide) rfl (show (4 * i) + (Y (3 * i + r) k) < 20 by omega) (show _ from e54) ?_
        refine qn_icmp_le (tg := 187) (nx := 182) at_115_179 rfl rfl (by omega) (by omega) (fun h115_179 => ?_) (fun h115_179 => ?_)
        · refine qa_s (pc' := 188) at_115_187 rfl rfl rfl ?_
          refine qa_getR (nx := 191) at_115_188 rfl (by decide) rfl rfl (by decide) ?_
          refine qa_s (pc' := 193) at_115_191 rfl rfl rfl ?_
          refine qa_ialdV (nx := 194) (k := (4 * i) + (Y (3 * i + r) k)) (v := nI (scF (P (3 * i + r)) (Y (3 * i + r)) (tq L P Y i r) (L (3 * i + r)) (Y (3 * i + r) k) (SC L P Y i (Y (3 * i + r) k) r) k)) at_115_193 rfl rfl rfl (by decide) rfl (show (4 * i) + (Y (3 * i + r) k) < 20 by omega) (show _ from e54) ?_
          refine qa_iast (nx := 195) (k := (4 * i) + (Y (3 * i + r) k)) at_115_194 rfl rfl rfl (by decide) rfl (show (4 * i) + (Y (3 * i + r) k) < 20 by omega) ?_
          refine qa_incN (nx := 198) (c := 1) at_115_195 (by decide) rfl rfl rfl ?_
          refine qa_goto (nx := 96) at_115_198 rfl ?_
          show qa _ _ _ [(0, .ref (cl 40 0)), (1, .int (nI i)), (2, .int (nI r)), (3, .int (nI ((3 * i + r) * 12))), (4, .int (nI (k + 1))), (5, .int _), (6, .int _)] [] _ _
          exact qa_drop (l1 := [(0, .ref (cl 40 0)), (1, .int (nI i)), (2, .int (nI r)), (3, .int (nI ((3 * i + r) * 12))), (4, .int (nI (k + 1)))]) (by intro q hq; simp only [List.mem_cons, List.not_mem_nil, or_false] at hq ⊢; rcases hq with rfl | rfl | rfl | rfl | rfl <;> simp) (by simp [mj_nd]) (ih (k + 1) _ (by omega) (SMI_s (v := secA (P (3 * i + r)) (Y (3 * i + r)) (tq L P Y i r) (L (3 * i + r)) k) hS hy4 hF2 (by show _ = max (scF (P (3 * i + r)) (Y (3 * i + r)) (tq L P Y i r) (L (3 * i + r)) (Y (3 * i + r) k) (SC L P Y i (Y (3 * i + r) k) r) k) (secA (P (3 * i + r)) (Y (3 * i + r)) (tq L P Y i r) (L (3 * i + r)) k); first | (rw [Nat.max_eq_right (by omega)]) | (rw [Nat.max_eq_left (by omega)])) (fun q hq => by simp only [scF]; by_cases g : q = Y (3 * i + r) k; (subst g; rw [if_pos ⟨h115_122, rfl⟩, if_pos rfl]); rw [if_neg (fun c => g c.2.symm), if_neg g])))
        · refine qa_s (pc' := 184) at_115_182 rfl rfl rfl ?_
          refine qa_goto (nx := 194) at_115_184 rfl ?_
          refine qa_iast (nx := 195) (k := (4 * i) + (Y (3 * i + r) k)) at_115_194 rfl rfl rfl (by decide) rfl (show (4 * i) + (Y (3 * i + r) k) < 20 by omega) ?_
          refine qa_incN (nx := 198) (c := 1) at_115_195 (by decide) rfl rfl rfl ?_
          refine qa_goto (nx := 96) at_115_198 rfl ?_
          show qa _ _ _ [(0, .ref (cl 40 0)), (1, .int (nI i)), (2, .int (nI r)), (3, .int (nI ((3 * i + r) * 12))), (4, .int (nI (k + 1))), (5, .int _), (6, .int _)] [] _ _
          exact qa_drop (l1 := [(0, .ref (cl 40 0)), (1, .int (nI i)), (2, .int (nI r)), (3, .int (nI ((3 * i + r) * 12))), (4, .int (nI (k + 1)))]) (by intro q hq; simp only [List.mem_cons, List.not_mem_nil, or_false] at hq ⊢; rcases hq with rfl | rfl | rfl | rfl | rfl <;> simp) (by simp [mj_nd]) (ih (k + 1) _ (by omega) (SMI_s (v := secA (P (3 * i + r)) (Y (3 * i + r)) (tq L P Y i r) (L (3 * i + r)) k) hS hy4 hF2 (by show _ = max (scF (P (3 * i + r)) (Y (3 * i + r)) (tq L P Y i r) (L (3 * i + r)) (Y (3 * i + r) k) (SC L P Y i (Y (3 * i + r) k) r) k) (secA (P (3 * i + r)) (Y (3 * i + r)) (tq L P Y i r) (L (3 * i + r)) k); first | (rw [Nat.max_eq_right (by omega)]) | (rw [Nat.max_eq_left (by omega)])) (fun q hq => by simp only [scF]; by_cases g : q = Y (3 * i + r) k; (subst g; rw [if_pos ⟨h115_122, rfl⟩, if_pos rfl]); rw [if_neg (fun c => g c.2.symm), if_neg g])))
theorem c115_r {σ1 : sg} (hi : i < 5) (hI : ImM L P Y σ) (hD : ∀ r, r < 3 → SD L P Y i r) (hM : ∀ r, r < 3 → mtAllM (P (3 * i + r)) (3 * i + r) (L (3 * i + r)) σ) (hPr : ∀ o, o < 15 → σ 49 0 o = nI (prN o)) (t1 : σ 52 0 1 = nI (T1 L P Y i)) (t2 : σ 52 0 2 = nI (T2 L P Y i)) (hr : r < 3) (hS : SMI i (fun s => SC L P Y i s r) σ1 σ) (K : ∀ σ1, SMI i (fun s => SC L P Y i s (r + 1)) σ1 σ → qa cst 115 79 [(0, .ref (cl 40 0)), (1, .int (nI i)), (2, .int (nI (r + 1)))] [] σ1 Q) : qa cst 115 79 [(0, .ref (cl 40 0)), (1, .int (nI i)), (2, .int (nI r))] [] σ1 Q := by
  refine qa_s (pc' := 80) at_115_79 rfl rfl rfl ?_
  refine qa_ic (nx := 81) (v := nI 3) at_115_80 (by decide) rfl ?_
  refine qn_icmp_ge (tg := 207) (nx := 84) at_115_81 rfl rfl (by omega) (by omega) (fun h115_81 => ?_) (fun h115_81 => ?_)
  · omega
  · refine qa_ic (nx := 85) (v := nI 3) at_115_84 (by decide) rfl ?_
    refine qa_s (pc' := 86) at_115_85 rfl rfl rfl ?_
    refine qa_mulN (nx := 87) at_115_86 rfl ?_
    refine qa_s (pc' := 88) at_115_87 rfl rfl rfl ?_
    refine qa_addN (nx := 89) at_115_88 rfl ?_
    refine qa_bi (nx := 91) (v := nI 12) at_115_89 (by decide) rfl ?_
    refine qa_mulN (nx := 92) at_115_91 rfl ?_
    refine qa_s (pc' := 93) at_115_92 rfl rfl rfl ?_
    refine qa_ic (nx := 94) (v := nI 0) at_115_93 (by decide) rfl ?_
    refine qa_s (pc' := 96) at_115_94 rfl rfl rfl ?_
    exact c115_l hi hI hD hM hPr t1 t2 hr K (L (3 * i + r)) 0 σ1 (by omega) hS
theorem c115_q (hi : i < 5) (hI : ImM L P Y σ) (hD : ∀ r, r < 3 → SD L P Y i r) (hM : ∀ r, r < 3 → mtAllM (P (3 * i + r)) (3 * i + r) (L (3 * i + r)) σ) (hPr : ∀ o, o < 15 → σ 49 0 o = nI (prN o)) (K : ∀ σ1, (∀ a, a ≠ 51 → a ≠ 52 → a ≠ 53 → a ≠ 54 → σ1 a = σ a) → (∀ j, j ≠ i → σ1 53 0 j = σ 53 0 j) → σ1 53 0 i = nI (T0 L P Y i) → (∀ j, (j < 4 * i ∨ 4 * i + 4 ≤ j) → σ1 54 0 j = σ 54 0 j) → (∀ s, s < 4 → σ1 54 0 (4 * i + s) = nI (SC L P Y i s 3)) → Q none σ1) : qa cst 115 0 [(0, .ref (cl 40 0)), (1, .int (nI i))] [] σ Q := by
  have eL : ∀ r, r < 3 → σ 48 0 (3 * i + r) = nI (L (3 * i + r)) := fun r hr => (hI (3 * i + r) (by omega)).2.1
  have h2 := hD 2 (by decide)
  have h1 := hD 1 (by decide)
  refine qa_ic (nx := 1) (v := nI 2) at_115_0 (by decide) rfl ?_
  refine qa_s (pc' := 2) at_115_1 rfl rfl rfl ?_
  refine qa_s (pc' := 3) at_115_2 rfl rfl rfl ?_
  refine qn_if_lt (tg := 41) (nx := 6) at_115_3 rfl rfl (by decide) ?_
  refine qa_s (pc' := 7) at_115_6 rfl rfl rfl ?_
  refine qa_getR (nx := 10) at_115_7 rfl (by decide) rfl rfl (by decide) ?_
  refine qa_s (pc' := 11) at_115_10 rfl rfl rfl ?_
  refine qa_s (pc' := 12) at_115_11 rfl rfl rfl ?_
  refine qa_ic (nx := 13) (v := nI 3) at_115_12 (by decide) rfl ?_
  refine qa_s (pc' := 14) at_115_13 rfl rfl rfl ?_
  refine qa_mulN (nx := 15) at_115_14 rfl ?_
  refine qa_s (pc' := 16) at_115_15 rfl rfl rfl ?_
  refine qa_addN (nx := 17) at_115_16 rfl ?_
  refine qa_bi (nx := 19) (v := nI 12) at_115_17 (by decide) rfl ?_
  refine qa_mulN (nx := 20) at_115_19 rfl ?_
  refine qa_ic (nx := 21) (v := nI 0) at_115_20 (by decide) rfl ?_
  refine qa_s (pc' := 22) at_115_21 rfl rfl rfl ?_
  refine qa_getR (nx := 25) at_115_22 rfl (by decide) rfl rfl (by decide) ?_
  refine qa_ic (nx := 26) (v := nI 3) at_115_25 (by decide) rfl ?_
  refine qa_s (pc' := 27) at_115_26 rfl rfl rfl ?_
  refine qa_mulN (nx := 28) at_115_27 rfl ?_
  refine qa_s (pc' := 29) at_115_28 rfl rfl rfl ?_
  refine qa_addN (nx := 30) at_115_29 rfl ?_
  refine qa_ialdV (nx := 31) (k := (3 * i) + 2) (v := nI (L (3 * i + 2))) at_115_30 rfl rfl rfl (by decide) rfl (show (3 * i) + 2 < 15 by omega) (show _ from eL 2 (by decide)) ?_
  refine qa_callV (nx := 34) at_115_31 rfl rfl (Nat.le_of_ble_eq_true rfl) rfl rfl rfl (by decide) rfl (by decide) ?_
  show qa _ 116 0 [(0, .ref _), (1, .int _), (2, .int _), (3, .int _)] [] _ _
  refine c116_q (r := 2) (tot := tqa 0 0 2) hi (by decide) hI (hD 2 (by decide)) (hM 2 (by decide)) hPr (fun y g1 g2 => by omega) (Spn_all (hD 2 (by decide)).1) (fun j hj => Nat.lt_of_le_of_lt (T2_b h2 j hj) (by decide)) (fun ρ2 G2 => ?_)
  have F2 : ∀ a, a ≠ 51 → a ≠ 52 → up ρ2 52 0 2 (nI (T2 L P Y i)) a = σ a := fun a g1 g2 => by rw [up_k g2]; exact G2 a g1
  have w2 : up ρ2 52 0 2 (nI (T2 L P Y i)) 52 0 2 = nI (T2 L P Y i) := up_s
  generalize hτ2 : up ρ2 52 0 2 (nI (T2 L P Y i)) = τ2 at F2 w2
  show qa _ 115 34 _ [.int _, .int _, .ref _] _ _
  refine qa_iast (nx := 35) (k := 2) at_115_34 rfl rfl rfl (by decide) rfl (show 2 < 3 by omega) ?_
  show qa _ _ _ _ _ (up ρ2 52 0 2 (nI (T2 L P Y i))) _
  rw [hτ2]
  refine qa_decN (nx := 38) (x := 1) at_115_35 rfl rfl rfl ?_
  refine qa_goto (nx := 2) at_115_38 rfl ?_
  refine qa_s (pc' := 3) at_115_2 rfl rfl rfl ?_
  refine qn_if_lt (tg := 41) (nx := 6) at_115_3 rfl rfl (by decide) ?_
  refine qa_s (pc' := 7) at_115_6 rfl rfl rfl ?_
  refine qa_getR (nx := 10) at_115_7 rfl (by decide) rfl rfl (by decide) ?_
  refine qa_s (pc' := 11) at_115_10 rfl rfl rfl ?_
  refine qa_s (pc' := 12) at_115_11 rfl rfl rfl ?_
  refine qa_ic (nx := 13) (v := nI 3) at_115_12 (by decide) rfl ?_
  refine qa_s (pc' := 14) at_115_13 rfl rfl rfl ?_
  refine qa_mulN (nx := 15) at_115_14 rfl ?_
  refine qa_s (pc' := 16) at_115_15 rfl rfl rfl ?_
  refine qa_addN (nx := 17) at_115_16 rfl ?_
  refine qa_bi (nx := 19) (v := nI 12) at_115_17 (by decide) rfl ?_
  refine qa_mulN (nx := 20) at_115_19 rfl ?_
  refine qa_ic (nx := 21) (v := nI 0) at_115_20 (by decide) rfl ?_
  refine qa_s (pc' := 22) at_115_21 rfl rfl rfl ?_
  refine qa_getR (nx := 25) at_115_22 rfl (by decide) rfl rfl (by decide) ?_
  refine qa_ic (nx := 26) (v := nI 3) at_115_25 (by decide) rfl ?_
  refine qa_s (pc' := 27) at_115_26 rfl rfl rfl ?_
  refine qa_mulN (nx := 28) at_115_27 rfl ?_
  refine qa_s (pc' := 29) at_115_28 rfl rfl rfl ?_
  refine qa_addN (nx := 30) at_115_29 rfl ?_
  refine qa_ialdV (nx := 31) (k := (3 * i) + 1) (v := nI (L (3 * i + 1))) at_115_30 rfl rfl rfl (by decide) rfl (show (3 * i) + 1 < 15 by omega) (show _ from by rw [F2 48 (by decide) (by decide)]; exact eL 1 (by decide)) ?_
  refine qa_callV (nx := 34) at_115_31 rfl rfl (Nat.le_of_ble_eq_true rfl) rfl rfl rfl (by decide) rfl (by decide) ?_
  show qa _ 116 0 [(0, .ref _), (1, .int _), (2, .int _), (3, .int _)] [] _ _
  have hI1 : ImM L P Y τ2 := ImM_of (σ := σ) (F2 48 (by decide) (by decide)) (F2 44 (by decide) (by decide)) (F2 46 (by decide) (by decide)) hI
  refine c116_q (r := 1) (tot := tqa 0 (T2 L P Y i) 1) hi (by decide) hI1 (hD 1 (by decide)) (fun c hc hpc => by rw [F2 47 (by decide) (by decide)]; exact hM 1 (by decide) c hc hpc) (fun o ho => by rw [F2 49 (by decide) (by decide)]; exact hPr o ho) (fun y g1 g2 => by (obtain rfl : y = 2 := by omega); exact w2) (Spn_all (hD 1 (by decide)).1) (fun j hj => Nat.lt_of_le_of_lt (T1_b h2 h1 j hj) (by decide)) (fun ρ1 G1 => ?_)
  have F1 : ∀ a, a ≠ 51 → a ≠ 52 → up ρ1 52 0 1 (nI (T1 L P Y i)) a = σ a := fun a g1 g2 => by rw [up_k g2, G1 a g1]; exact F2 a g1 g2
  have w1 : up ρ1 52 0 1 (nI (T1 L P Y i)) 52 0 1 = nI (T1 L P Y i) := up_s
  have w12 : up ρ1 52 0 1 (nI (T1 L P Y i)) 52 0 2 = nI (T2 L P Y i) := by rw [up_j (by decide), G1 52 (by decide)]; exact w2
  generalize hτ1 : up ρ1 52 0 1 (nI (T1 L P Y i)) = τ1 at F1 w1 w12
  show qa _ 115 34 _ [.int _, .int _, .ref _] _ _
  refine qa_iast (nx := 35) (k := 1) at_115_34 rfl rfl rfl (by decide) rfl (show 1 < 3 by omega) ?_
  show qa _ _ _ _ _ (up ρ1 52 0 1 (nI (T1 L P Y i))) _
  rw [hτ1]
  refine qa_decN (nx := 38) (x := 0) at_115_35 rfl rfl rfl ?_
  refine qa_goto (nx := 2) at_115_38 rfl ?_
  refine qa_s (pc' := 3) at_115_2 rfl rfl rfl ?_
  refine qn_if_lt (tg := 41) (nx := 6) at_115_3 rfl rfl (by decide) ?_
  refine qa_s (pc' := 7) at_115_6 rfl rfl rfl ?_
  refine qa_getR (nx := 10) at_115_7 rfl (by decide) rfl rfl (by decide) ?_
  refine qa_s (pc' := 11) at_115_10 rfl rfl rfl ?_
  refine qa_s (pc' := 12) at_115_11 rfl rfl rfl ?_
  refine qa_ic (nx := 13) (v := nI 3) at_115_12 (by decide) rfl ?_
  refine qa_s (pc' := 14) at_115_13 rfl rfl rfl ?_
  refine qa_mulN (nx := 15) at_115_14 rfl ?_
  refine qa_s (pc' := 16) at_115_15 rfl rfl rfl ?_
  refine qa_addN (nx := 17) at_115_16 rfl ?_
  refine qa_bi (nx := 19) (v := nI 12) at_115_17 (by decide) rfl ?_
  refine qa_mulN (nx := 20) at_115_19 rfl ?_
  refine qa_ic (nx := 21) (v := nI 0) at_115_20 (by decide) rfl ?_
  refine qa_s (pc' := 22) at_115_21 rfl rfl rfl ?_
  refine qa_getR (nx := 25) at_115_22 rfl (by decide) rfl rfl (by decide) ?_
  refine qa_ic (nx := 26) (v := nI 3) at_115_25 (by decide) rfl ?_
  refine qa_s (pc' := 27) at_115_26 rfl rfl rfl ?_
  refine qa_mulN (nx := 28) at_115_27 rfl ?_
  refine qa_s (pc' := 29) at_115_28 rfl rfl rfl ?_
  refine qa_addN (nx := 30) at_115_29 rfl ?_
  refine qa_ialdV (nx := 31) (k := (3 * i) + 0) (v := nI (L (3 * i + 0))) at_115_30 rfl rfl rfl (by decide) rfl (show (3 * i) + 0 < 15 by omega) (show _ from by rw [F1 48 (by decide) (by decide)]; exact eL 0 (by decide)) ?_
  refine qa_callV (nx := 34) at_115_31 rfl rfl (Nat.le_of_ble_eq_true rfl) rfl rfl rfl (by decide) rfl (by decide) ?_
  show qa _ 116 0 [(0, .ref _), (1, .int _), (2, .int _), (3, .int _)] [] _ _
  have hI0 : ImM L P Y τ1 := ImM_of (σ := σ) (F1 48 (by decide) (by decide)) (F1 44 (by decide) (by decide)) (F1 46 (by decide) (by decide)) hI
  refine c116_q (r := 0) (tot := tqa (T1 L P Y i) (T2 L P Y i) 0) hi (by decide) hI0 (hD 0 (by decide)) (fun c hc hpc => by rw [F1 47 (by decide) (by decide)]; exact hM 0 (by decide) c hc hpc) (fun o ho => by rw [F1 49 (by decide) (by decide)]; exact hPr o ho) (fun y g1 g2 => by (obtain rfl | rfl : y = 1 ∨ y = 2 := by omega); (exact w1); (exact w12)) (Spn_all (hD 0 (by decide)).1) (fun j hj => Nat.lt_of_le_of_lt (S_b (r := 0) h2 h1 (hD 0 (by decide)) (Spn_all (hD 0 (by decide)).1) j hj) (by decide)) (fun ρ0 G0 => ?_)
  have F0 : ∀ a, a ≠ 51 → a ≠ 52 → up ρ0 52 0 0 (nI (T0 L P Y i)) a = σ a := fun a g1 g2 => by rw [up_k g2, G0 a g1]; exact F1 a g1 g2
  have w0 : up ρ0 52 0 0 (nI (T0 L P Y i)) 52 0 0 = nI (T0 L P Y i) := up_s
  have w01 : up ρ0 52 0 0 (nI (T0 L P Y i)) 52 0 1 = nI (T1 L P Y i) := by rw [up_j (by decide), G0 52 (by decide)]; exact w1
  have w02 : up ρ0 52 0 0 (nI (T0 L P Y i)) 52 0 2 = nI (T2 L P Y i) := by rw [up_j (by decide), G0 52 (by decide)]; exact w12
  generalize hτ0 : up ρ0 52 0 0 (nI (T0 L P Y i)) = τ0 at F0 w0 w01 w02
  show qa _ 115 34 _ [.int _, .int _, .ref _] _ _
  refine qa_iast (nx := 35) (k := 0) at_115_34 rfl rfl rfl (by decide) rfl (show 0 < 3 by omega) ?_
  show qa _ _ _ _ _ (up ρ0 52 0 0 (nI (T0 L P Y i))) _
  rw [hτ0]
  refine qa_dec0 (nx := 38) at_115_35 rfl rfl rfl ?_
  refine qa_goto (nx := 2) at_115_38 rfl ?_
  refine qa_s (pc' := 3) at_115_2 rfl rfl rfl ?_
  refine qa_if_lt (tg := 41) (nx := 6) at_115_3 rfl rfl (fun h115_3 => ?_) (fun h115_3 => ?_)
  · refine qa_s (pc' := 42) at_115_41 rfl rfl rfl ?_
    refine qa_getR (nx := 45) at_115_42 rfl (by decide) rfl rfl (by decide) ?_
    refine qa_s (pc' := 46) at_115_45 rfl rfl rfl ?_
    refine qa_s (pc' := 47) at_115_46 rfl rfl rfl ?_
    refine qa_getR (nx := 50) at_115_47 rfl (by decide) rfl rfl (by decide) ?_
    refine qa_ic (nx := 51) (v := nI 0) at_115_50 (by decide) rfl ?_
    refine qa_ialdV (nx := 52) (k := 0) (v := nI (T0 L P Y i)) at_115_51 rfl rfl rfl (by decide) rfl (show 0 < 3 by omega) (show _ from w0) ?_
    refine qa_iast (nx := 53) (k := i) at_115_52 rfl rfl rfl (by decide) rfl (show i < 5 by omega) ?_
    refine qa_ic (nx := 54) (v := nI 0) at_115_53 (by decide) rfl ?_
    refine qa_s (pc' := 55) at_115_54 rfl rfl rfl ?_
    refine qa_s (pc' := 56) at_115_55 rfl rfl rfl ?_
    refine qa_ic (nx := 57) (v := nI 4) at_115_56 (by decide) rfl ?_
    refine qn_icmp_ge (tg := 77) (nx := 60) at_115_57 rfl rfl (by decide) (by decide) (fun h => absurd h (by decide)) (fun h115_57 => ?_)
    refine qa_s (pc' := 61) at_115_60 rfl rfl rfl ?_
    refine qa_getR (nx := 64) at_115_61 rfl (by decide) rfl rfl (by decide) ?_
    refine qa_ic (nx := 65) (v := nI 4) at_115_64 (by decide) rfl ?_
    refine qa_s (pc' := 66) at_115_65 rfl rfl rfl ?_
    refine qa_mulN (nx := 67) at_115_66 rfl ?_
    refine qa_s (pc' := 68) at_115_67 rfl rfl rfl ?_
    refine qa_addN (nx := 69) at_115_68 rfl ?_
    refine qa_ic (nx := 70) (v := nI 0) at_115_69 (by decide) rfl ?_
    refine qa_iast (nx := 71) (k := (4 * i) + 0) at_115_70 rfl rfl rfl (by decide) rfl (show (4 * i) + 0 < 20 by omega) ?_
    refine qa_incN (nx := 74) (c := 1) at_115_71 (by decide) rfl rfl rfl ?_
    refine qa_goto (nx := 55) at_115_74 rfl ?_
    refine qa_s (pc' := 56) at_115_55 rfl rfl rfl ?_
    refine qa_ic (nx := 57) (v := nI 4) at_115_56 (by decide) rfl ?_
    refine qn_icmp_ge (tg := 77) (nx := 60) at_115_57 rfl rfl (by decide) (by decide) (fun h => absurd h (by decide)) (fun h115_57 => ?_)
    refine qa_s (pc' := 61) at_115_60 rfl rfl rfl ?_
    refine qa_getR (nx := 64) at_115_61 rfl (by decide) rfl rfl (by decide) ?_
    refine qa_ic (nx := 65) (v := nI 4) at_115_64 (by decide) rfl ?_
    refine qa_s (pc' := 66) at_115_65 rfl rfl rfl ?_
    refine qa_mulN (nx := 67) at_115_66 rfl ?_
    refine qa_s (pc' := 68) at_115_67 rfl rfl rfl ?_
    refine qa_addN (nx := 69) at_115_68 rfl ?_
    refine qa_ic (nx := 70) (v := nI 0) at_115_69 (by decide) rfl ?_
    refine qa_iast (nx := 71) (k := (4 * i) + 1) at_115_70 rfl rfl rfl (by decide) rfl (show (4 * i) + 1 < 20 by omega) ?_
    refine qa_incN (nx := 74) (c := 1) at_115_71 (by decide) rfl rfl rfl ?_
    refine qa_goto (nx := 55) at_115_74 rfl ?_
    refine qa_s (pc' := 56) at_115_55 rfl rfl rfl ?_
    refine qa_ic (nx := 57) (v := nI 4) at_115_56 (by decide) rfl ?_
    refine qn_icmp_ge (tg := 77) (nx := 60) at_115_57 rfl rfl (by decide) (by decide) (fun h => absurd h (by decide)) (fun h115_57 => ?_)
    refine qa_s (pc' := 61) at_115_60 rfl rfl rfl ?_
    refine qa_getR (nx := 64) at_115_61 rfl (by decide) rfl rfl (by decide) ?_
    refine qa_ic (nx := 65) (v := nI 4) at_115_64 (by decide) rfl ?_
    refine qa_s (pc' := 66) at_115_65 rfl rfl rfl ?_
    refine qa_mulN (nx := 67) at_115_66 rfl ?_
    refine qa_s (pc' := 68) at_115_67 rfl rfl rfl ?_
    refine qa_addN (nx := 69) at_115_68 rfl ?_
    refine qa_ic (nx := 70) (v := nI 0) at_115_69 (by decide) rfl ?_
    refine qa_iast (nx := 71) (k := (4 * i) + 2) at_115_70 rfl rfl rfl (by decide) rfl (show (4 * i) + 2 < 20 by omega) ?_
    refine qa_incN (nx := 74) (c := 1) at_115_71 (by decide) rfl rfl rfl ?_
    refine qa_goto (nx := 55) at_115_74 rfl ?_
    refine qa_s (pc' := 56) at_115_55 rfl rfl rfl ?_
    refine qa_ic (nx := 57) (v := nI 4) at_115_56 (by decide) rfl ?_
    refine qn_icmp_ge (tg := 77) (nx := 60) at_115_57 rfl rfl (by decide) (by decide) (fun h => absurd h (by decide)) (fun h115_57 => ?_)
    refine qa_s (pc' := 61) at_115_60 rfl rfl rfl ?_
    refine qa_getR (nx := 64) at_115_61 rfl (by decide) rfl rfl (by decide) ?_
    refine qa_ic (nx := 65) (v := nI 4) at_115_64 (by decide) rfl ?_
    refine qa_s (pc' := 66) at_115_65 rfl rfl rfl ?_
    refine qa_mulN (nx := 67) at_115_66 rfl ?_
    refine qa_s (pc' := 68) at_115_67 rfl rfl rfl ?_
    refine qa_addN (nx := 69) at_115_68 rfl ?_
    refine qa_ic (nx := 70) (v := nI 0) at_115_69 (by decide) rfl ?_
    refine qa_iast (nx := 71) (k := (4 * i) + 3) at_115_70 rfl rfl rfl (by decide) rfl (show (4 * i) + 3 < 20 by omega) ?_
    refine qa_incN (nx := 74) (c := 1) at_115_71 (by decide) rfl rfl rfl ?_
    refine qa_goto (nx := 55) at_115_74 rfl ?_
    refine qa_s (pc' := 56) at_115_55 rfl rfl rfl ?_
    refine qa_ic (nx := 57) (v := nI 4) at_115_56 (by decide) rfl ?_
    refine qn_icmp_ge (tg := 77) (nx := 60) at_115_57 rfl rfl (by decide) (by decide) (fun h115_57 => ?_) (fun h => absurd h (by decide))
    refine qa_ic (nx := 78) (v := nI 0) at_115_77 (by decide) rfl ?_
    refine qa_s (pc' := 79) at_115_78 rfl rfl rfl ?_
    have hS0 : SMI i (fun s => SC L P Y i s 0) (up (up (up (up (up τ0 53 0 i (nI (T0 L P Y i))) 54 0 (4 * i + 0) (nI 0)) 54 0 (4 * i + 1) (nI 0)) 54 0 (4 * i + 2) (nI 0)) 54 0 (4 * i + 3) (nI 0)) (up τ0 53 0 i (nI (T0 L P Y i))) := ⟨fun a g1 g2 => by rw [up_k g2, up_k g2, up_k g2, up_k g2], fun j hj => by rw [up_j (by omega), up_j (by omega), up_j (by omega), up_j (by omega)], fun q hq => by (obtain rfl | rfl | rfl | rfl : q = 0 ∨ q = 1 ∨ q = 2 ∨ q = 3 := by omega) <;> first | exact up_s | (rw [up_j (by omega)]; exact up_s) | (rw [up_j (by omega), up_j (by omega)]; exact up_s) | (rw [up_j (by omega), up_j (by omega), up_j (by omega)]; exact up_s)⟩
    have FW : ∀ a, a ≠ 51 → a ≠ 52 → a ≠ 53 → up τ0 53 0 i (nI (T0 L P Y i)) a = σ a := fun a g1 g2 g3 => by rw [up_k g3]; exact F0 a g1 g2
    have hIw : ImM L P Y (up τ0 53 0 i (nI (T0 L P Y i))) := ImM_of (σ := σ) (FW 48 (by decide) (by decide) (by decide)) (FW 44 (by decide) (by decide) (by decide)) (FW 46 (by decide) (by decide) (by decide)) hI
    have hMw : ∀ r, r < 3 → mtAllM (P (3 * i + r)) (3 * i + r) (L (3 * i + r)) (up τ0 53 0 i (nI (T0 L P Y i))) := fun r hr c hc hpc => by rw [FW 47 (by decide) (by decide) (by decide)]; exact hM r hr c hc hpc
    have hPw : ∀ o, o < 15 → up τ0 53 0 i (nI (T0 L P Y i)) 49 0 o = nI (prN o) := fun o ho => by rw [FW 49 (by decide) (by decide) (by decide)]; exact hPr o ho
    have w1w : up τ0 53 0 i (nI (T0 L P Y i)) 52 0 1 = nI (T1 L P Y i) := by rw [up_k (by decide)]; exact w01
    have w2w : up τ0 53 0 i (nI (T0 L P Y i)) 52 0 2 = nI (T2 L P Y i) := by rw [up_k (by decide)]; exact w02
    refine c115_r (r := 0) hi hIw hD hMw hPw w1w w2w (by decide) hS0 (fun κ0 g0 => ?_)
    refine c115_r (r := 1) hi hIw hD hMw hPw w1w w2w (by decide) g0 (fun κ1 g1 => ?_)
    refine c115_r (r := 2) hi hIw hD hMw hPw w1w w2w (by decide) g1 (fun κ2 g2 => ?_)
    refine qa_s (pc' := 80) at_115_79 rfl rfl rfl ?_
    refine qa_ic (nx := 81) (v := nI 3) at_115_80 (by decide) rfl ?_
    refine qn_icmp_ge (tg := 207) (nx := 84) at_115_81 rfl rfl (by decide) (by decide) (fun _ => ?_) (fun h => by omega)
    refine qa_ret at_115_207 rfl ?_
    exact K κ2 (fun a q1 q2 q3 q4 => (g2.1 a q1 q4).trans (FW a q1 q2 q3)) (fun j hj => by rw [g2.1 53 (by decide) (by decide), up_j hj, F0 53 (by decide) (by decide)]) (by rw [g2.1 53 (by decide) (by decide)]; exact up_s) (fun j hj => by rw [g2.2.1 j hj, FW 54 (by decide) (by decide) (by decide)]) g2.2.2
  · exact absurd (by decide) h115_3
end PQ
