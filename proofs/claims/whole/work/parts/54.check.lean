/-! the fourth call: an instruction is checked, the class -/
section PQ
variable {cst : List (List Int32)} {σ b : sg} {Q : Option Value → sg → Prop} {T k i r d : Nat} {s : Nat → Nat} {L : Nat → Nat} {P Y : Nat → Nat → Nat}
def psh (s : Nat → Nat) (d k : Nat) : Nat → Nat := fun j => if j = d then k else s j
/-- the class's open brackets -/
def CO (p y s : Nat → Nat) (d : Nat) (σ : sg) : Prop := σ 2 0 2 = nI d ∧ σ 2 0 3 = nI (lps p s d) ∧ σ 2 0 4 = nI (lks p y s d) ∧ ∀ j, j < d → σ 3 0 j = nI (s j)
/-- open brackets in order, before place k -/
def StOk (p y s : Nat → Nat) (d k : Nat) : Prop := d ≤ k ∧ lps p s d ≤ 2 ∧ ∀ j, j < d → s j < k ∧ (p (s j) = 6 ∨ p (s j) = 8) ∧ (p (s j) = 8 → y (s j) < 4 ∧ (lks p y s j).testBit (y (s j)) = false)
/-- the reason against the instruction at k; 0: none -/
def ckR (L : Nat → Nat) (P Y : Nat → Nat → Nat) (mk : Nat → Nat) (i r : Nat) (s : Nat → Nat) (d k : Nat) : Nat :=
  if P (3 * i + r) k = 7 then (if 0 < d ∧ P (3 * i + r) (s (d - 1)) = 6 then 0 else 2)
  else if P (3 * i + r) k = 9 then (if 0 < d ∧ P (3 * i + r) (s (d - 1)) = 8 then 0 else 2)
  else if P (3 * i + r) k = 6 then (if lps (P (3 * i + r)) s d = 2 then 3 else 0)
  else if P (3 * i + r) k = 8 then (if (lks (P (3 * i + r)) (Y (3 * i + r)) s d).testBit (Y (3 * i + r) k) = true then 5 else 0)
  else if P (3 * i + r) k = 10 then (if Y (3 * i + r) k ≤ r ∨ L (3 * i + Y (3 * i + r) k) = 0 then 4 else if lks (P (3 * i + r)) (Y (3 * i + r)) s d &&& mk (Y (3 * i + r) k) = 0 then 0 else 5)
  else if P (3 * i + r) k = 5 then (if k + 1 + Y (3 * i + r) k ≤ L (3 * i + r) ∧ jmp (P (3 * i + r)) (Y (3 * i + r) k) (k + 1) 0 = true then 0 else 6)
  else 0
/-- what the check leaves alone -/
def frK (σ1 σ : sg) : Prop := (∀ a, a ≠ 2 → a ≠ 3 → a ≠ 17 → σ1 a = σ a) ∧ σ1 2 0 0 = σ 2 0 0
theorem frK_refl : frK σ σ := ⟨fun _ _ _ _ => rfl, rfl⟩
theorem lks_w (hS : StOk (P (3 * i + r)) (Y (3 * i + r)) s d k) : lks (P (3 * i + r)) (Y (3 * i + r)) s d < 16 := lks_16 d (fun j hj g => ((hS.2.2 j hj).2.2 g).1)
theorem CO_psh {p y : Nat → Nat} {σ1 : sg} {v w : Nat} (hO : CO p y s d σ) (h3 : σ1 3 = up σ 3 0 d (nI k) 3) (e2 : σ1 2 0 2 = nI (d + 1)) (e3 : σ1 2 0 3 = nI v) (e4 : σ1 2 0 4 = nI w) (hv : v = lps p s d + (if p k = 6 then 1 else 0)) (hw : w = if p k = 8 then lks p y s d ||| 2 ^ y k else lks p y s d) : CO p y (psh s d k) (d + 1) σ1 := by
  have c1 : lps p (psh s d k) d = lps p s d := lps_c d (fun j hj => by unfold psh; rw [if_neg (by omega)])
  have c2 : lks p y (psh s d k) d = lks p y s d := lks_c d (fun j hj => by unfold psh; rw [if_neg (by omega)])
  have c3 : psh s d k d = k := if_pos rfl
  refine ⟨e2, ?_, ?_, fun j hj => ?_⟩
  · rw [e3]; simp only [lps]; rw [c1, c3, hv]
  · rw [e4]; simp only [lks]; rw [c2, c3, hw]
  · rw [h3]
    by_cases g : j = d
    · subst g; rw [up_s, c3]
    · rw [up_j g]; unfold psh; rw [if_neg g]; exact hO.2.2.2 j (by omega)
theorem ck6_q (hi : i < 5) (hr : r < 3) (hk : k < L (3 * i + r)) (hI : ImC L P Y σ) (hO : CO (P (3 * i + r)) (Y (3 * i + r)) s d σ) (hS : StOk (P (3 * i + r)) (Y (3 * i + r)) s d k) (ho : P (3 * i + r) k = 6) (K0 : ¬ lps (P (3 * i + r)) s d = 2 → ∀ σ1, CO (P (3 * i + r)) (Y (3 * i + r)) (psh s d k) (d + 1) σ1 → frK σ1 σ → σ1 17 = σ 17 → Q (some (.int (nI 0))) σ1) (K1 : lps (P (3 * i + r)) s d = 2 → Q (some (.int (nI 3))) σ) : qa cst 25 0 [(0, .ref (cl 2 0)), (1, .ref (cl 12 i)), (2, .int (nI r)), (3, .int (nI k))] [] σ Q := by
  obtain ⟨hL, e13, h2⟩ := hI (3 * i + r) (by omega)
  obtain ⟨hP, e14, h16⟩ := h2 k (by omega)
  obtain ⟨o2, o3, o4, o5⟩ := id hO
  obtain ⟨hd, hl2, hs⟩ := id hS
  have hk12 : k < 12 := by omega
  have hlk := lks_w hS
  rw [ho] at e14
  refine qa_s (pc' := 1) at_25_0 rfl rfl rfl ?_
  refine qa_s (pc' := 2) at_25_1 rfl rfl rfl ?_
  refine qa_aald (nx := 3) (k := r) at_25_2 (by decide) rfl rfl (show _ < 5 by omega) rfl (show r < 3 by omega) ?_
  refine qa_s (pc' := 5) at_25_3 rfl rfl rfl ?_
  refine qa_s (pc' := 7) at_25_5 rfl rfl rfl ?_
  refine qa_getR (nx := 10) at_25_7 rfl (by decide) rfl rfl (show _ < 15 by omega) ?_
  refine qa_s (pc' := 11) at_25_10 rfl rfl rfl ?_
  refine qa_ialdV (nx := 12) (k := k) (v := nI 6) at_25_11 rfl rfl rfl (show _ < 15 by omega) rfl (show k < 12 by omega) (show _ from e14) ?_
  refine qa_swi (nx := 52) at_25_12 (by decide +kernel) (show _ = some (40) by decide +kernel) rfl ?_
  refine qa_s (pc' := 53) at_25_52 rfl rfl rfl ?_
  refine qa_s (pc' := 54) at_25_53 rfl rfl rfl ?_
  refine qa_callV (nx := 57) at_25_54 rfl rfl (Nat.le_of_ble_eq_true rfl) rfl rfl rfl (by decide) rfl (by decide) ?_
  show qa _ 26 0 [(0, .ref _), (1, .int _)] [] _ _
  refine qa_s (pc' := 1) at_26_0 rfl rfl rfl ?_
  refine qa_getV (nx := 4) (v := nI (lps (P (3 * i + r)) s d)) at_26_1 rfl (by decide) rfl rfl (by decide) (show _ from o3) ?_
  refine qa_ic (nx := 5) (v := nI 2) at_26_4 (by decide) rfl ?_
  refine qn_icmp_lt (tg := 10) (nx := 8) at_26_5 rfl rfl (by omega) (by omega) (fun h26_5 => ?_) (fun h26_5 => ?_)
  · refine qa_s (pc' := 11) at_26_10 rfl rfl rfl ?_
    refine qa_s (pc' := 12) at_26_11 rfl rfl rfl ?_
    refine qa_getV (nx := 15) (v := nI (lps (P (3 * i + r)) s d)) at_26_12 rfl (by decide) rfl rfl (by decide) (show _ from o3) ?_
    refine qa_ic (nx := 16) (v := nI 1) at_26_15 (by decide) rfl ?_
    refine qa_addN (nx := 17) at_26_16 rfl ?_
    refine qa_put (nx := 20) at_26_17 rfl (by decide) rfl rfl rfl (by decide) ?_
    refine qa_s (pc' := 21) at_26_20 rfl rfl rfl ?_
    refine qa_s (pc' := 22) at_26_21 rfl rfl rfl ?_
    refine qa_callV (nx := 25) at_26_22 rfl rfl (Nat.le_of_ble_eq_true rfl) rfl rfl rfl (by decide) rfl (by decide) ?_
    show qa _ 27 0 [(0, .ref _), (1, .int _)] [] _ _
    refine qa_s (pc' := 1) at_27_0 rfl rfl rfl ?_
    refine qa_getR (nx := 4) at_27_1 rfl (by decide) rfl rfl (by decide) ?_
    refine qa_s (pc' := 5) at_27_4 rfl rfl rfl ?_
    refine qa_getV (nx := 8) (v := nI d) at_27_5 rfl (by decide) rfl rfl (by decide) (show _ from o2) ?_
    refine qa_s (pc' := 9) at_27_8 rfl rfl rfl ?_
    refine qa_iast (nx := 10) (k := d) at_27_9 rfl rfl rfl (by decide) rfl (show d < 12 by omega) ?_
    refine qa_s (pc' := 11) at_27_10 rfl rfl rfl ?_
    refine qa_s (pc' := 12) at_27_11 rfl rfl rfl ?_
    refine qa_getV (nx := 15) (v := nI d) at_27_12 rfl (by decide) rfl rfl (by decide) (show _ from o2) ?_
    refine qa_ic (nx := 16) (v := nI 1) at_27_15 (by decide) rfl ?_
    refine qa_addN (nx := 17) at_27_16 rfl ?_
    refine qa_put (nx := 20) at_27_17 rfl (by decide) rfl rfl rfl (by decide) ?_
    refine qa_ic (nx := 21) (v := nI 0) at_27_20 (by decide) rfl ?_
    refine qa_ret at_27_21 rfl ?_
    show qa _ 26 25 _ [.int _] _ _
    refine qa_ret at_26_25 rfl ?_
    show qa _ 25 57 _ [.int _] _ _
    refine qa_ret at_25_57 rfl ?_
    exact K0 (by omega) _ (CO_psh (v := lps (P (3 * i + r)) s d + 1) (w := lks (P (3 * i + r)) (Y (3 * i + r)) s d) hO rfl rfl rfl o4 (by rw [ho]; rfl) (by rw [ho]; rfl)) ⟨fun a g1 g2 g3 => by rw [up_k g1, up_k g2, up_k g1], rfl⟩ rfl
  · refine qa_ic (nx := 9) (v := nI 3) at_26_8 (by decide) rfl ?_
    refine qa_ret at_26_9 rfl ?_
    show qa _ 25 57 _ [.int _] _ _
    refine qa_ret at_25_57 rfl ?_
    exact K1 (by omega)
theorem ck8_q (hi : i < 5) (hr : r < 3) (hk : k < L (3 * i + r)) (hI : ImC L P Y σ) (hO : CO (P (3 * i + r)) (Y (3 * i + r)) s d σ) (hS : StOk (P (3 * i + r)) (Y (3 * i + r)) s d k) (ho : P (3 * i + r) k = 8) (K0 : (lks (P (3 * i + r)) (Y (3 * i + r)) s d).testBit (Y (3 * i + r) k) = false → ∀ σ1, CO (P (3 * i + r)) (Y (3 * i + r)) (psh s d k) (d + 1) σ1 → frK σ1 σ → σ1 17 = σ 17 → Q (some (.int (nI 0))) σ1) (K1 : (lks (P (3 * i + r)) (Y (3 * i + r)) s d).testBit (Y (3 * i + r) k) = true → Q (some (.int (nI 5))) σ) : qa cst 25 0 [(0, .ref (cl 2 0)), (1, .ref (cl 12 i)), (2, .int (nI r)), (3, .int (nI k))] [] σ Q := by
  obtain ⟨hL, e13, h2⟩ := hI (3 * i + r) (by omega)
  obtain ⟨hP, e14, h16⟩ := h2 k (by omega)
  obtain ⟨o2, o3, o4, o5⟩ := id hO
  obtain ⟨hd, hl2, hs⟩ := id hS
  have hk12 : k < 12 := by omega
  have hlk := lks_w hS
  rw [ho] at e14
  obtain ⟨e16, hy⟩ := h16 (by omega)
  have hy4 := (imY hy).1 ho
  have eor : (nI (lks (P (3 * i + r)) (Y (3 * i + r)) s d) ||| nI 1 <<< (nI (Y (3 * i + r) k) &&& 31)) = nI (lks (P (3 * i + r)) (Y (3 * i + r)) s d ||| 2 ^ Y (3 * i + r) k) := by rw [(sh4 _ hy4).2, (or16 _ hlk _ (sh4 _ hy4).1).2.1]
  refine qa_s (pc' := 1) at_25_0 rfl rfl rfl ?_
  refine qa_s (pc' := 2) at_25_1 rfl rfl rfl ?_
  refine qa_aald (nx := 3) (k := r) at_25_2 (by decide) rfl rfl (show _ < 5 by omega) rfl (show r < 3 by omega) ?_
  refine qa_s (pc' := 5) at_25_3 rfl rfl rfl ?_
  refine qa_s (pc' := 7) at_25_5 rfl rfl rfl ?_
  refine qa_getR (nx := 10) at_25_7 rfl (by decide) rfl rfl (show _ < 15 by omega) ?_
  refine qa_s (pc' := 11) at_25_10 rfl rfl rfl ?_
  refine qa_ialdV (nx := 12) (k := k) (v := nI 8) at_25_11 rfl rfl rfl (show _ < 15 by omega) rfl (show k < 12 by omega) (show _ from e14) ?_
  refine qa_swi (nx := 58) at_25_12 (by decide +kernel) (show _ = some (46) by decide +kernel) rfl ?_
  refine qa_s (pc' := 59) at_25_58 rfl rfl rfl ?_
  refine qa_s (pc' := 60) at_25_59 rfl rfl rfl ?_
  refine qa_ic (nx := 61) (v := nI 1) at_25_60 (by decide) rfl ?_
  refine qa_s (pc' := 63) at_25_61 rfl rfl rfl ?_
  refine qa_getR (nx := 66) at_25_63 rfl (by decide) rfl rfl (show _ < 15 by omega) ?_
  refine qa_s (pc' := 67) at_25_66 rfl rfl rfl ?_
  refine qa_ialdV (nx := 68) (k := k) (v := nI (Y (3 * i + r) k)) at_25_67 rfl rfl rfl (show _ < 15 by omega) rfl (show k < 12 by omega) (show _ from e16) ?_
  refine qa_s (pc' := 69) at_25_68 rfl rfl rfl ?_
  refine qa_callV (nx := 72) at_25_69 rfl rfl (Nat.le_of_ble_eq_true rfl) rfl rfl rfl (by decide) rfl (by decide) ?_
  show qa _ 28 0 [(0, .ref _), (1, .int _), (2, .int _)] [] _ _
  refine qa_s (pc' := 1) at_28_0 rfl rfl rfl ?_
  refine qa_getV (nx := 4) (v := nI (lks (P (3 * i + r)) (Y (3 * i + r)) s d)) at_28_1 rfl (by decide) rfl rfl (by decide) (show _ from o4) ?_
  refine qa_s (pc' := 5) at_28_4 rfl rfl rfl ?_
  refine qa_s (pc' := 6) at_28_5 rfl rfl rfl ?_
  refine qa_if_eq (tg := 11) (nx := 9) at_28_6 rfl rfl (fun h28_6 => ?_) (fun h28_6 => ?_)
  · refine qa_s (pc' := 12) at_28_11 rfl rfl rfl ?_
    refine qa_s (pc' := 13) at_28_12 rfl rfl rfl ?_
    refine qa_getV (nx := 16) (v := nI (lks (P (3 * i + r)) (Y (3 * i + r)) s d)) at_28_13 rfl (by decide) rfl rfl (by decide) (show _ from o4) ?_
    refine qa_s (pc' := 17) at_28_16 rfl rfl rfl ?_
    refine qa_s (pc' := 18) at_28_17 rfl rfl rfl ?_
    refine qa_put (nx := 21) at_28_18 rfl (by decide) rfl rfl rfl (by decide) ?_
    refine qa_s (pc' := 22) at_28_21 rfl rfl rfl ?_
    refine qa_s (pc' := 23) at_28_22 rfl rfl rfl ?_
    refine qa_callV (nx := 26) at_28_23 rfl rfl (Nat.le_of_ble_eq_true rfl) rfl rfl rfl (by decide) rfl (by decide) ?_
    show qa _ 27 0 [(0, .ref _), (1, .int _)] [] _ _
    refine qa_s (pc' := 1) at_27_0 rfl rfl rfl ?_
    refine qa_getR (nx := 4) at_27_1 rfl (by decide) rfl rfl (by decide) ?_
    refine qa_s (pc' := 5) at_27_4 rfl rfl rfl ?_
    refine qa_getV (nx := 8) (v := nI d) at_27_5 rfl (by decide) rfl rfl (by decide) (show _ from o2) ?_
    refine qa_s (pc' := 9) at_27_8 rfl rfl rfl ?_
    refine qa_iast (nx := 10) (k := d) at_27_9 rfl rfl rfl (by decide) rfl (show d < 12 by omega) ?_
    refine qa_s (pc' := 11) at_27_10 rfl rfl rfl ?_
    refine qa_s (pc' := 12) at_27_11 rfl rfl rfl ?_
    refine qa_getV (nx := 15) (v := nI d) at_27_12 rfl (by decide) rfl rfl (by decide) (show _ from o2) ?_
    refine qa_ic (nx := 16) (v := nI 1) at_27_15 (by decide) rfl ?_
    refine qa_addN (nx := 17) at_27_16 rfl ?_
    refine qa_put (nx := 20) at_27_17 rfl (by decide) rfl rfl rfl (by decide) ?_
    refine qa_ic (nx := 21) (v := nI 0) at_27_20 (by decide) rfl ?_
    refine qa_ret at_27_21 rfl ?_
    show qa _ 28 26 _ [.int _] _ _
    refine qa_ret at_28_26 rfl ?_
    show qa _ 25 72 _ [.int _] _ _
    refine qa_ret at_25_72 rfl ?_
    exact K0 ((bit_t _ hlk _ hy4).mp h28_6) _ (CO_psh (v := lps (P (3 * i + r)) s d) (w := lks (P (3 * i + r)) (Y (3 * i + r)) s d ||| 2 ^ Y (3 * i + r) k) hO rfl rfl o3 eor (by rw [ho]; rfl) (by rw [ho]; rfl)) ⟨fun a g1 g2 g3 => by rw [up_k g1, up_k g2, up_k g1], rfl⟩ rfl
  · refine qa_ic (nx := 10) (v := nI 5) at_28_9 (by decide) rfl ?_
    refine qa_ret at_28_10 rfl ?_
    show qa _ 25 72 _ [.int _] _ _
    refine qa_ret at_25_72 rfl ?_
    exact K1 (by cases g : (lks (P (3 * i + r)) (Y (3 * i + r)) s d).testBit (Y (3 * i + r) k); exact absurd ((bit_t _ hlk _ hy4).mpr g) h28_6; rfl)
theorem ck7_q (hi : i < 5) (hr : r < 3) (hk : k < L (3 * i + r)) (hI : ImC L P Y σ) (hO : CO (P (3 * i + r)) (Y (3 * i + r)) s d σ) (hS : StOk (P (3 * i + r)) (Y (3 * i + r)) s d k) (ho : P (3 * i + r) k = 7) (K0 : (0 < d ∧ P (3 * i + r) (s (d - 1)) = 6) → ∀ σ1, CO (P (3 * i + r)) (Y (3 * i + r)) s (d - 1) σ1 → frK σ1 σ → σ1 17 = up (up σ 17 (3 * i + r) (s (d - 1)) (nI k)) 17 (3 * i + r) k (nI (s (d - 1))) 17 → Q (some (.int (nI 0))) σ1) (K1 : ¬ (0 < d ∧ P (3 * i + r) (s (d - 1)) = 6) → Q (some (.int (nI 2))) σ) : qa cst 25 0 [(0, .ref (cl 2 0)), (1, .ref (cl 12 i)), (2, .int (nI r)), (3, .int (nI k))] [] σ Q := by
  obtain ⟨hL, e13, h2⟩ := hI (3 * i + r) (by omega)
  obtain ⟨hP, e14, h16⟩ := h2 k (by omega)
  obtain ⟨o2, o3, o4, o5⟩ := id hO
  obtain ⟨hd, hl2, hs⟩ := id hS
  have hk12 : k < 12 := by omega
  have hlk := lks_w hS
  rw [ho] at e14
  have hpop : 0 < d → lps (P (3 * i + r)) s d = lps (P (3 * i + r)) s (d - 1) + (if P (3 * i + r) (s (d - 1)) = 6 then 1 else 0) ∧ lks (P (3 * i + r)) (Y (3 * i + r)) s d = (if P (3 * i + r) (s (d - 1)) = 8 then lks (P (3 * i + r)) (Y (3 * i + r)) s (d - 1) ||| 2 ^ Y (3 * i + r) (s (d - 1)) else lks (P (3 * i + r)) (Y (3 * i + r)) s (d - 1)) := fun g => by
    obtain ⟨d', rfl⟩ : ∃ d', d = d' + 1 := ⟨d - 1, by omega⟩
    exact ⟨rfl, rfl⟩
  refine qa_s (pc' := 1) at_25_0 rfl rfl rfl ?_
  refine qa_s (pc' := 2) at_25_1 rfl rfl rfl ?_
  refine qa_aald (nx := 3) (k := r) at_25_2 (by decide) rfl rfl (show _ < 5 by omega) rfl (show r < 3 by omega) ?_
  refine qa_s (pc' := 5) at_25_3 rfl rfl rfl ?_
  refine qa_s (pc' := 7) at_25_5 rfl rfl rfl ?_
  refine qa_getR (nx := 10) at_25_7 rfl (by decide) rfl rfl (show _ < 15 by omega) ?_
  refine qa_s (pc' := 11) at_25_10 rfl rfl rfl ?_
  refine qa_ialdV (nx := 12) (k := k) (v := nI 7) at_25_11 rfl rfl rfl (show _ < 15 by omega) rfl (show k < 12 by omega) (show _ from e14) ?_
  refine qa_swi (nx := 73) at_25_12 (by decide +kernel) (show _ = some (61) by decide +kernel) rfl ?_
  refine qa_s (pc' := 74) at_25_73 rfl rfl rfl ?_
  refine qa_s (pc' := 76) at_25_74 rfl rfl rfl ?_
  refine qa_s (pc' := 77) at_25_76 rfl rfl rfl ?_
  refine qa_bi (nx := 79) (v := nI 6) at_25_77 (by decide) rfl ?_
  refine qa_callV (nx := 82) at_25_79 rfl rfl (Nat.le_of_ble_eq_true rfl) rfl rfl rfl (by decide) rfl (by decide) ?_
  show qa _ 29 0 [(0, .ref _), (1, .ref _), (2, .int _), (3, .int _)] [] _ _
  refine qa_s (pc' := 1) at_29_0 rfl rfl rfl ?_
  refine qa_getV (nx := 4) (v := nI d) at_29_1 rfl (by decide) rfl rfl (by decide) (show _ from o2) ?_
  refine qn_if_eq (tg := 27) (nx := 7) at_29_4 rfl rfl (by omega) (fun h29_4 => ?_) (fun h29_4 => ?_)
  · refine qa_ic (nx := 28) (v := nI 2) at_29_27 (by decide) rfl ?_
    refine qa_ret at_29_28 rfl ?_
    show qa _ 25 82 _ [.int _] _ _
    refine qa_ret at_25_82 rfl ?_
    exact K1 (fun g => by first | omega | exact absurd g.2 h29_24)
  · have hq := (hs (d - 1) (by omega)).1
    obtain ⟨tP, t14, t16⟩ := h2 (s (d - 1)) (by omega)
    refine qa_s (pc' := 8) at_29_7 rfl rfl rfl ?_
    refine qa_getR (nx := 11) at_29_8 rfl (by decide) rfl rfl (show _ < 15 by omega) ?_
    refine qa_s (pc' := 12) at_29_11 rfl rfl rfl ?_
    refine qa_getR (nx := 15) at_29_12 rfl (by decide) rfl rfl (by decide) ?_
    refine qa_s (pc' := 16) at_29_15 rfl rfl rfl ?_
    refine qa_getV (nx := 19) (v := nI d) at_29_16 rfl (by decide) rfl rfl (by decide) (show _ from o2) ?_
    refine qa_ic (nx := 20) (v := nI 1) at_29_19 (by decide) rfl ?_
    refine qa_subN (nx := 21) at_29_20 rfl (by omega) ?_
    refine qa_ialdV (nx := 22) (k := d - 1) (v := nI (s (d - 1))) at_29_21 rfl rfl rfl (by decide) rfl (show d - 1 < 12 by omega) (show _ from o5 (d - 1) (by omega)) ?_
    refine qa_ialdV (nx := 23) (k := s (d - 1)) (v := nI (P (3 * i + r) (s (d - 1)))) at_29_22 rfl rfl rfl (show _ < 15 by omega) rfl (show s (d - 1) < 12 by omega) (show _ from t14) ?_
    refine qa_s (pc' := 24) at_29_23 rfl rfl rfl ?_
    refine qn_icmp_eq (tg := 29) (nx := 27) at_29_24 rfl rfl (by omega) (by omega) (fun h29_24 => ?_) (fun h29_24 => ?_)
    · obtain ⟨p1, p2⟩ := hpop (by omega)
      rw [h29_24] at p1 p2
      refine qa_s (pc' := 30) at_29_29 rfl rfl rfl ?_
      refine qa_s (pc' := 31) at_29_30 rfl rfl rfl ?_
      refine qa_getV (nx := 34) (v := nI d) at_29_31 rfl (by decide) rfl rfl (by decide) (show _ from o2) ?_
      refine qa_ic (nx := 35) (v := nI 1) at_29_34 (by decide) rfl ?_
      refine qa_subN (nx := 36) at_29_35 rfl (by omega) ?_
      refine qa_put (nx := 39) at_29_36 rfl (by decide) rfl rfl rfl (by decide) ?_
      refine qa_s (pc' := 40) at_29_39 rfl rfl rfl ?_
      refine qa_s (pc' := 41) at_29_40 rfl rfl rfl ?_
      refine qa_getR (nx := 44) at_29_41 rfl (by decide) rfl rfl (by decide) ?_
      refine qa_s (pc' := 45) at_29_44 rfl rfl rfl ?_
      refine qa_getV (nx := 48) (v := nI (d - 1)) at_29_45 rfl (by decide) rfl rfl (by decide) (show _ from rfl) ?_
      refine qa_ialdV (nx := 49) (k := d - 1) (v := nI (s (d - 1))) at_29_48 rfl rfl rfl (by decide) rfl (show d - 1 < 12 by omega) (show _ from o5 (d - 1) (by omega)) ?_
      refine qa_s (pc' := 50) at_29_49 rfl rfl rfl ?_
      refine qa_callV (nx := 53) at_29_50 rfl rfl (Nat.le_of_ble_eq_true rfl) rfl rfl rfl (by decide) rfl (show _ < 15 by omega) ?_
      show qa _ 30 0 [(0, .ref _), (1, .int _), (2, .int _)] [] _ _
      refine qa_s (pc' := 1) at_30_0 rfl rfl rfl ?_
      refine qa_getR (nx := 4) at_30_1 rfl (by decide) rfl rfl (show _ < 15 by omega) ?_
      refine qa_s (pc' := 5) at_30_4 rfl rfl rfl ?_
      refine qa_s (pc' := 6) at_30_5 rfl rfl rfl ?_
      refine qa_iast (nx := 7) (k := s (d - 1)) at_30_6 rfl rfl rfl (show _ < 15 by omega) rfl (show s (d - 1) < 12 by omega) ?_
      refine qa_s (pc' := 8) at_30_7 rfl rfl rfl ?_
      refine qa_getR (nx := 11) at_30_8 rfl (by decide) rfl rfl (show _ < 15 by omega) ?_
      refine qa_s (pc' := 12) at_30_11 rfl rfl rfl ?_
      refine qa_s (pc' := 13) at_30_12 rfl rfl rfl ?_
      refine qa_iast (nx := 14) (k := k) at_30_13 rfl rfl rfl (show _ < 15 by omega) rfl (show k < 12 by omega) ?_
      refine qa_ret at_30_14 rfl ?_
      show qa _ 29 53 _ [] _ _
      refine qa_s (pc' := 54) at_29_53 rfl rfl rfl ?_
      refine qa_bi (nx := 56) (v := nI 6) at_29_54 (by decide) rfl ?_
      refine qn_icmp_ne (tg := 72) (nx := 59) at_29_56 rfl rfl (by decide) (by decide) (fun h => absurd h (by decide)) (fun h29_56 => ?_)
      refine qa_s (pc' := 60) at_29_59 rfl rfl rfl ?_
      refine qa_s (pc' := 61) at_29_60 rfl rfl rfl ?_
      refine qa_getV (nx := 64) (v := nI (lps (P (3 * i + r)) s d)) at_29_61 rfl (by decide) rfl rfl (by decide) (show _ from o3) ?_
      have hl1 : lps (P (3 * i + r)) s d = lps (P (3 * i + r)) s (d - 1) + 1 := p1
      refine qa_ic (nx := 65) (v := nI 1) at_29_64 (by decide) rfl ?_
      refine qa_subN (nx := 66) at_29_65 rfl (by omega) ?_
      refine qa_put (nx := 69) at_29_66 rfl (by decide) rfl rfl rfl (by decide) ?_
      refine qa_goto (nx := 90) at_29_69 rfl ?_
      refine qa_ic (nx := 91) (v := nI 0) at_29_90 (by decide) rfl ?_
      refine qa_ret at_29_91 rfl ?_
      show qa _ 25 82 _ [.int _] _ _
      refine qa_ret at_25_82 rfl ?_
      exact K0 ⟨by omega, h29_24⟩ _ ⟨rfl, by rw [show lps (P (3 * i + r)) s (d - 1) = lps (P (3 * i + r)) s d - 1 by omega]; rfl, o4.trans (congrArg nI p2), fun j hj => o5 j (by omega)⟩ ⟨fun a g1 g2 g3 => by rw [up_k g1, up_k g3, up_k g3, up_k g1], rfl⟩ rfl
    · refine qa_ic (nx := 28) (v := nI 2) at_29_27 (by decide) rfl ?_
      refine qa_ret at_29_28 rfl ?_
      show qa _ 25 82 _ [.int _] _ _
      refine qa_ret at_25_82 rfl ?_
      exact K1 (fun g => by first | omega | exact absurd g.2 h29_24)
theorem ck9_q (hi : i < 5) (hr : r < 3) (hk : k < L (3 * i + r)) (hI : ImC L P Y σ) (hO : CO (P (3 * i + r)) (Y (3 * i + r)) s d σ) (hS : StOk (P (3 * i + r)) (Y (3 * i + r)) s d k) (ho : P (3 * i + r) k = 9) (K0 : (0 < d ∧ P (3 * i + r) (s (d - 1)) = 8) → ∀ σ1, CO (P (3 * i + r)) (Y (3 * i + r)) s (d - 1) σ1 → frK σ1 σ → σ1 17 = up (up σ 17 (3 * i + r) (s (d - 1)) (nI k)) 17 (3 * i + r) k (nI (s (d - 1))) 17 → Q (some (.int (nI 0))) σ1) (K1 : ¬ (0 < d ∧ P (3 * i + r) (s (d - 1)) = 8) → Q (some (.int (nI 2))) σ) : qa cst 25 0 [(0, .ref (cl 2 0)), (1, .ref (cl 12 i)), (2, .int (nI r)), (3, .int (nI k))] [] σ Q := by
  obtain ⟨hL, e13, h2⟩ := hI (3 * i + r) (by omega)
  obtain ⟨hP, e14, h16⟩ := h2 k (by omega)
  obtain ⟨o2, o3, o4, o5⟩ := id hO
  obtain ⟨hd, hl2, hs⟩ := id hS
  have hk12 : k < 12 := by omega
  have hlk := lks_w hS
  rw [ho] at e14
  have hpop : 0 < d → lps (P (3 * i + r)) s d = lps (P (3 * i + r)) s (d - 1) + (if P (3 * i + r) (s (d - 1)) = 6 then 1 else 0) ∧ lks (P (3 * i + r)) (Y (3 * i + r)) s d = (if P (3 * i + r) (s (d - 1)) = 8 then lks (P (3 * i + r)) (Y (3 * i + r)) s (d - 1) ||| 2 ^ Y (3 * i + r) (s (d - 1)) else lks (P (3 * i + r)) (Y (3 * i + r)) s (d - 1)) := fun g => by
    obtain ⟨d', rfl⟩ : ∃ d', d = d' + 1 := ⟨d - 1, by omega⟩
    exact ⟨rfl, rfl⟩
  refine qa_s (pc' := 1) at_25_0 rfl rfl rfl ?_
  refine qa_s (pc' := 2) at_25_1 rfl rfl rfl ?_
  refine qa_aald (nx := 3) (k := r) at_25_2 (by decide) rfl rfl (show _ < 5 by omega) rfl (show r < 3 by omega) ?_
  refine qa_s (pc' := 5) at_25_3 rfl rfl rfl ?_
  refine qa_s (pc' := 7) at_25_5 rfl rfl rfl ?_
  refine qa_getR (nx := 10) at_25_7 rfl (by decide) rfl rfl (show _ < 15 by omega) ?_
  refine qa_s (pc' := 11) at_25_10 rfl rfl rfl ?_
  refine qa_ialdV (nx := 12) (k := k) (v := nI 9) at_25_11 rfl rfl rfl (show _ < 15 by omega) rfl (show k < 12 by omega) (show _ from e14) ?_
  refine qa_swi (nx := 83) at_25_12 (by decide +kernel) (show _ = some (71) by decide +kernel) rfl ?_
  refine qa_s (pc' := 84) at_25_83 rfl rfl rfl ?_
  refine qa_s (pc' := 86) at_25_84 rfl rfl rfl ?_
  refine qa_s (pc' := 87) at_25_86 rfl rfl rfl ?_
  refine qa_bi (nx := 89) (v := nI 8) at_25_87 (by decide) rfl ?_
  refine qa_callV (nx := 92) at_25_89 rfl rfl (Nat.le_of_ble_eq_true rfl) rfl rfl rfl (by decide) rfl (by decide) ?_
  show qa _ 29 0 [(0, .ref _), (1, .ref _), (2, .int _), (3, .int _)] [] _ _
  refine qa_s (pc' := 1) at_29_0 rfl rfl rfl ?_
  refine qa_getV (nx := 4) (v := nI d) at_29_1 rfl (by decide) rfl rfl (by decide) (show _ from o2) ?_
  refine qn_if_eq (tg := 27) (nx := 7) at_29_4 rfl rfl (by omega) (fun h29_4 => ?_) (fun h29_4 => ?_)
  · refine qa_ic (nx := 28) (v := nI 2) at_29_27 (by decide) rfl ?_
    refine qa_ret at_29_28 rfl ?_
    show qa _ 25 92 _ [.int _] _ _
    refine qa_ret at_25_92 rfl ?_
    exact K1 (fun g => by first | omega | exact absurd g.2 h29_24)
  · have hq := (hs (d - 1) (by omega)).1
    obtain ⟨tP, t14, t16⟩ := h2 (s (d - 1)) (by omega)
    refine qa_s (pc' := 8) at_29_7 rfl rfl rfl ?_
    refine qa_getR (nx := 11) at_29_8 rfl (by decide) rfl rfl (show _ < 15 by omega) ?_
    refine qa_s (pc' := 12) at_29_11 rfl rfl rfl ?_
    refine qa_getR (nx := 15) at_29_12 rfl (by decide) rfl rfl (by decide) ?_
    refine qa_s (pc' := 16) at_29_15 rfl rfl rfl ?_
    refine qa_getV (nx := 19) (v := nI d) at_29_16 rfl (by decide) rfl rfl (by decide) (show _ from o2) ?_
    refine qa_ic (nx := 20) (v := nI 1) at_29_19 (by decide) rfl ?_
    refine qa_subN (nx := 21) at_29_20 rfl (by omega) ?_
    refine qa_ialdV (nx := 22) (k := d - 1) (v := nI (s (d - 1))) at_29_21 rfl rfl rfl (by decide) rfl (show d - 1 < 12 by omega) (show _ from o5 (d - 1) (by omega)) ?_
    refine qa_ialdV (nx := 23) (k := s (d - 1)) (v := nI (P (3 * i + r) (s (d - 1)))) at_29_22 rfl rfl rfl (show _ < 15 by omega) rfl (show s (d - 1) < 12 by omega) (show _ from t14) ?_
    refine qa_s (pc' := 24) at_29_23 rfl rfl rfl ?_
    refine qn_icmp_eq (tg := 29) (nx := 27) at_29_24 rfl rfl (by omega) (by omega) (fun h29_24 => ?_) (fun h29_24 => ?_)
    · obtain ⟨p1, p2⟩ := hpop (by omega)
      rw [h29_24] at p1 p2
      refine qa_s (pc' := 30) at_29_29 rfl rfl rfl ?_
      refine qa_s (pc' := 31) at_29_30 rfl rfl rfl ?_
      refine qa_getV (nx := 34) (v := nI d) at_29_31 rfl (by decide) rfl rfl (by decide) (show _ from o2) ?_
      refine qa_ic (nx := 35) (v := nI 1) at_29_34 (by decide) rfl ?_
      refine qa_subN (nx := 36) at_29_35 rfl (by omega) ?_
      refine qa_put (nx := 39) at_29_36 rfl (by decide) rfl rfl rfl (by decide) ?_
      refine qa_s (pc' := 40) at_29_39 rfl rfl rfl ?_
      refine qa_s (pc' := 41) at_29_40 rfl rfl rfl ?_
      refine qa_getR (nx := 44) at_29_41 rfl (by decide) rfl rfl (by decide) ?_
      refine qa_s (pc' := 45) at_29_44 rfl rfl rfl ?_
      refine qa_getV (nx := 48) (v := nI (d - 1)) at_29_45 rfl (by decide) rfl rfl (by decide) (show _ from rfl) ?_
      refine qa_ialdV (nx := 49) (k := d - 1) (v := nI (s (d - 1))) at_29_48 rfl rfl rfl (by decide) rfl (show d - 1 < 12 by omega) (show _ from o5 (d - 1) (by omega)) ?_
      refine qa_s (pc' := 50) at_29_49 rfl rfl rfl ?_
      refine qa_callV (nx := 53) at_29_50 rfl rfl (Nat.le_of_ble_eq_true rfl) rfl rfl rfl (by decide) rfl (show _ < 15 by omega) ?_
      show qa _ 30 0 [(0, .ref _), (1, .int _), (2, .int _)] [] _ _
      refine qa_s (pc' := 1) at_30_0 rfl rfl rfl ?_
      refine qa_getR (nx := 4) at_30_1 rfl (by decide) rfl rfl (show _ < 15 by omega) ?_
      refine qa_s (pc' := 5) at_30_4 rfl rfl rfl ?_
      refine qa_s (pc' := 6) at_30_5 rfl rfl rfl ?_
      refine qa_iast (nx := 7) (k := s (d - 1)) at_30_6 rfl rfl rfl (show _ < 15 by omega) rfl (show s (d - 1) < 12 by omega) ?_
      refine qa_s (pc' := 8) at_30_7 rfl rfl rfl ?_
      refine qa_getR (nx := 11) at_30_8 rfl (by decide) rfl rfl (show _ < 15 by omega) ?_
      refine qa_s (pc' := 12) at_30_11 rfl rfl rfl ?_
      refine qa_s (pc' := 13) at_30_12 rfl rfl rfl ?_
      refine qa_iast (nx := 14) (k := k) at_30_13 rfl rfl rfl (show _ < 15 by omega) rfl (show k < 12 by omega) ?_
      refine qa_ret at_30_14 rfl ?_
      show qa _ 29 53 _ [] _ _
      refine qa_s (pc' := 54) at_29_53 rfl rfl rfl ?_
      refine qa_bi (nx := 56) (v := nI 6) at_29_54 (by decide) rfl ?_
      refine qn_icmp_ne (tg := 72) (nx := 59) at_29_56 rfl rfl (by decide) (by decide) (fun h29_56 => ?_) (fun h => absurd h (by decide))
      have q8 := (hs (d - 1) (by omega)).2.2 (by omega)
      have han : (nI (lks (P (3 * i + r)) (Y (3 * i + r)) s d) &&& (nI 1 <<< (nI (Y (3 * i + r) (s (d - 1))) &&& 31) ^^^ -1)) = nI (lks (P (3 * i + r)) (Y (3 * i + r)) s (d - 1)) := by rw [show lks (P (3 * i + r)) (Y (3 * i + r)) s d = lks (P (3 * i + r)) (Y (3 * i + r)) s (d - 1) ||| 2 ^ Y (3 * i + r) (s (d - 1)) from p2, (sh4 _ q8.1).2]; exact an16 _ (lks_16 (d - 1) (fun j hj g => ((hs j (by omega)).2.2 g).1)) _ q8.1 q8.2
      refine qa_s (pc' := 73) at_29_72 rfl rfl rfl ?_
      refine qa_s (pc' := 74) at_29_73 rfl rfl rfl ?_
      refine qa_getV (nx := 77) (v := nI (lks (P (3 * i + r)) (Y (3 * i + r)) s d)) at_29_74 rfl (by decide) rfl rfl (by decide) (show _ from o4) ?_
      refine qa_ic (nx := 78) (v := nI 1) at_29_77 (by decide) rfl ?_
      refine qa_s (pc' := 79) at_29_78 rfl rfl rfl ?_
      refine qa_s (pc' := 80) at_29_79 rfl rfl rfl ?_
      refine qa_callV (nx := 83) at_29_80 rfl rfl (Nat.le_of_ble_eq_true rfl) rfl rfl rfl (by decide) rfl (show _ < 15 by omega) ?_
      show qa _ 31 0 [(0, .ref _), (1, .int _)] [] _ _
      refine qa_s (pc' := 1) at_31_0 rfl rfl rfl ?_
      refine qa_getR (nx := 4) at_31_1 rfl (by decide) rfl rfl (show _ < 15 by omega) ?_
      refine qa_s (pc' := 5) at_31_4 rfl rfl rfl ?_
      refine qa_getR (nx := 8) at_31_5 rfl (by decide) rfl rfl (show _ < 15 by omega) ?_
      refine qa_s (pc' := 9) at_31_8 rfl rfl rfl ?_
      refine qa_ialdV (nx := 10) (k := k) (v := nI (s (d - 1))) at_31_9 rfl rfl rfl (show _ < 15 by omega) rfl (show k < 12 by omega) (show _ from up_s) ?_
      refine qa_ialdV (nx := 11) (k := s (d - 1)) (v := nI (Y (3 * i + r) (s (d - 1)))) at_31_10 rfl rfl rfl (show _ < 15 by omega) rfl (show s (d - 1) < 12 by omega) (show _ from (t16 (by omega)).1) ?_
      refine qa_ret at_31_11 rfl ?_
      show qa _ 29 83 _ [.int _, .int _, .int _, .ref _] _ _
      refine qa_s (pc' := 84) at_29_83 rfl rfl rfl ?_
      refine qa_ic (nx := 85) (v := (-1)) at_29_84 (by decide) rfl ?_
      refine qa_s (pc' := 86) at_29_85 rfl rfl rfl ?_
      refine qa_s (pc' := 87) at_29_86 rfl rfl rfl ?_
      refine qa_put (nx := 90) at_29_87 rfl (by decide) rfl rfl rfl (by decide) ?_
      refine qa_ic (nx := 91) (v := nI 0) at_29_90 (by decide) rfl ?_
      refine qa_ret at_29_91 rfl ?_
      show qa _ 25 92 _ [.int _] _ _
      refine qa_ret at_25_92 rfl ?_
      exact K0 ⟨by omega, h29_24⟩ _ ⟨rfl, o3.trans (congrArg nI p1), han, fun j hj => o5 j (by omega)⟩ ⟨fun a g1 g2 g3 => by rw [up_k g1, up_k g3, up_k g3, up_k g1], rfl⟩ rfl
    · refine qa_ic (nx := 28) (v := nI 2) at_29_27 (by decide) rfl ?_
      refine qa_ret at_29_28 rfl ?_
      show qa _ 25 92 _ [.int _] _ _
      refine qa_ret at_25_92 rfl ?_
      exact K1 (fun g => by first | omega | exact absurd g.2 h29_24)
theorem ck10_q (hi : i < 5) (hr : r < 3) (hk : k < L (3 * i + r)) (hI : ImC L P Y σ) (hO : CO (P (3 * i + r)) (Y (3 * i + r)) s d σ) (hS : StOk (P (3 * i + r)) (Y (3 * i + r)) s d k) (ho : P (3 * i + r) k = 10) {mk : Nat → Nat} (hm : ∀ y, 1 ≤ y → y ≤ 2 → mk y < 16 ∧ σ 13 (3 * i + y) 5 = nI (mk y)) (K0 : ¬ (Y (3 * i + r) k ≤ r ∨ L (3 * i + Y (3 * i + r) k) = 0) → lks (P (3 * i + r)) (Y (3 * i + r)) s d &&& mk (Y (3 * i + r) k) = 0 → Q (some (.int (nI 0))) σ) (K1 : (Y (3 * i + r) k ≤ r ∨ L (3 * i + Y (3 * i + r) k) = 0) → Q (some (.int (nI 4))) σ) (K2 : ¬ (Y (3 * i + r) k ≤ r ∨ L (3 * i + Y (3 * i + r) k) = 0) → ¬ lks (P (3 * i + r)) (Y (3 * i + r)) s d &&& mk (Y (3 * i + r) k) = 0 → Q (some (.int (nI 5))) σ) : qa cst 25 0 [(0, .ref (cl 2 0)), (1, .ref (cl 12 i)), (2, .int (nI r)), (3, .int (nI k))] [] σ Q := by
  obtain ⟨hL, e13, h2⟩ := hI (3 * i + r) (by omega)
  obtain ⟨hP, e14, h16⟩ := h2 k (by omega)
  obtain ⟨o2, o3, o4, o5⟩ := id hO
  obtain ⟨hd, hl2, hs⟩ := id hS
  have hk12 : k < 12 := by omega
  have hlk := lks_w hS
  rw [ho] at e14
  obtain ⟨e16, hy⟩ := h16 (by omega)
  have hy2 := (imY hy).2.1 ho
  refine qa_s (pc' := 1) at_25_0 rfl rfl rfl ?_
  refine qa_s (pc' := 2) at_25_1 rfl rfl rfl ?_
  refine qa_aald (nx := 3) (k := r) at_25_2 (by decide) rfl rfl (show _ < 5 by omega) rfl (show r < 3 by omega) ?_
  refine qa_s (pc' := 5) at_25_3 rfl rfl rfl ?_
  refine qa_s (pc' := 7) at_25_5 rfl rfl rfl ?_
  refine qa_getR (nx := 10) at_25_7 rfl (by decide) rfl rfl (show _ < 15 by omega) ?_
  refine qa_s (pc' := 11) at_25_10 rfl rfl rfl ?_
  refine qa_ialdV (nx := 12) (k := k) (v := nI 10) at_25_11 rfl rfl rfl (show _ < 15 by omega) rfl (show k < 12 by omega) (show _ from e14) ?_
  refine qa_swi (nx := 93) at_25_12 (by decide +kernel) (show _ = some (81) by decide +kernel) rfl ?_
  refine qa_s (pc' := 94) at_25_93 rfl rfl rfl ?_
  refine qa_s (pc' := 95) at_25_94 rfl rfl rfl ?_
  refine qa_s (pc' := 96) at_25_95 rfl rfl rfl ?_
  refine qa_s (pc' := 98) at_25_96 rfl rfl rfl ?_
  refine qa_getR (nx := 101) at_25_98 rfl (by decide) rfl rfl (show _ < 15 by omega) ?_
  refine qa_s (pc' := 102) at_25_101 rfl rfl rfl ?_
  refine qa_ialdV (nx := 103) (k := k) (v := nI (Y (3 * i + r) k)) at_25_102 rfl rfl rfl (show _ < 15 by omega) rfl (show k < 12 by omega) (show _ from e16) ?_
  refine qa_callV (nx := 106) at_25_103 rfl rfl (Nat.le_of_ble_eq_true rfl) rfl rfl rfl (by decide) rfl (by decide) ?_
  show qa _ 32 0 [(0, .ref _), (1, .ref _), (2, .int _), (3, .int _)] [] _ _
  refine qa_s (pc' := 1) at_32_0 rfl rfl rfl ?_
  refine qa_s (pc' := 2) at_32_1 rfl rfl rfl ?_
  refine qn_icmp_le (tg := 14) (nx := 5) at_32_2 rfl rfl (by omega) (by omega) (fun h32_2 => ?_) (fun h32_2 => ?_)
  · refine qa_ic (nx := 15) (v := nI 4) at_32_14 (by decide) rfl ?_
    refine qa_ret at_32_15 rfl ?_
    show qa _ 25 106 _ [.int _] _ _
    refine qa_ret at_25_106 rfl ?_
    exact K1 (by first | exact Or.inl (by omega) | exact Or.inr (by omega))
  · have hLy := (hI (3 * i + Y (3 * i + r) k) (by omega)).1
    refine qa_s (pc' := 6) at_32_5 rfl rfl rfl ?_
    refine qa_s (pc' := 7) at_32_6 rfl rfl rfl ?_
    refine qa_aald (nx := 8) (k := Y (3 * i + r) k) at_32_7 (by decide) rfl rfl (show _ < 5 by omega) rfl (show Y (3 * i + r) k < 3 by omega) ?_
    refine qa_getV (nx := 11) (v := nI (L (3 * i + Y (3 * i + r) k))) at_32_8 rfl (by decide) rfl rfl (show _ < 15 by omega) (show _ from (hI (3 * i + Y (3 * i + r) k) (by omega)).2.1) ?_
    refine qn_if_ne (tg := 16) (nx := 14) at_32_11 rfl rfl (by omega) (fun h32_11 => ?_) (fun h32_11 => ?_)
    · obtain ⟨m1, m2⟩ := hm (Y (3 * i + r) k) (by omega) hy2
      have and_nI : (nI (mk (Y (3 * i + r) k)) &&& nI (lks (P (3 * i + r)) (Y (3 * i + r)) s d)) = nI (lks (P (3 * i + r)) (Y (3 * i + r)) s d &&& mk (Y (3 * i + r) k)) := by rw [(or16 _ m1 _ hlk).2.2.1, Nat.and_comm]
      have hand := (or16 _ hlk _ m1).2.2.2
      refine qa_s (pc' := 17) at_32_16 rfl rfl rfl ?_
      refine qa_s (pc' := 18) at_32_17 rfl rfl rfl ?_
      refine qa_aald (nx := 19) (k := Y (3 * i + r) k) at_32_18 (by decide) rfl rfl (show _ < 5 by omega) rfl (show Y (3 * i + r) k < 3 by omega) ?_
      refine qa_getV (nx := 22) (v := nI (mk (Y (3 * i + r) k))) at_32_19 rfl (by decide) rfl rfl (show _ < 15 by omega) (show _ from m2) ?_
      refine qa_s (pc' := 23) at_32_22 rfl rfl rfl ?_
      refine qa_getV (nx := 26) (v := nI (lks (P (3 * i + r)) (Y (3 * i + r)) s d)) at_32_23 rfl (by decide) rfl rfl (by decide) (show _ from o4) ?_
      refine qa_s (pc' := 27) at_32_26 rfl rfl rfl ?_
      refine qa_if_eq (tg := 34) (nx := 30) at_32_27 rfl rfl (fun h32_27 => ?_) (fun h32_27 => ?_)
      · refine qa_ic (nx := 35) (v := nI 0) at_32_34 (by decide) rfl ?_
        refine qa_ret at_32_35 rfl ?_
        show qa _ 25 106 _ [.int _] _ _
        refine qa_ret at_25_106 rfl ?_
        exact K0 (fun g => by omega) (by have := h32_27; rw [and_nI] at this; exact (nI_eq0 (by omega)).mp this)
      · refine qa_ic (nx := 31) (v := nI 5) at_32_30 (by decide) rfl ?_
        refine qa_goto (nx := 35) at_32_31 rfl ?_
        refine qa_ret at_32_35 rfl ?_
        show qa _ 25 106 _ [.int _] _ _
        refine qa_ret at_25_106 rfl ?_
        exact K2 (fun g => by omega) (fun g => h32_27 (by rw [and_nI, g]; rfl))
    · refine qa_ic (nx := 15) (v := nI 4) at_32_14 (by decide) rfl ?_
      refine qa_ret at_32_15 rfl ?_
      show qa _ 25 106 _ [.int _] _ _
      refine qa_ret at_25_106 rfl ?_
      exact K1 (by first | exact Or.inl (by omega) | exact Or.inr (by omega))
theorem ck5_q (hi : i < 5) (hr : r < 3) (hk : k < L (3 * i + r)) (hI : ImC L P Y σ) (hO : CO (P (3 * i + r)) (Y (3 * i + r)) s d σ) (hS : StOk (P (3 * i + r)) (Y (3 * i + r)) s d k) (ho : P (3 * i + r) k = 5) (K0 : (k + 1 + Y (3 * i + r) k ≤ L (3 * i + r) ∧ jmp (P (3 * i + r)) (Y (3 * i + r) k) (k + 1) 0 = true) → Q (some (.int (nI 0))) σ) (K1 : ¬ (k + 1 + Y (3 * i + r) k ≤ L (3 * i + r) ∧ jmp (P (3 * i + r)) (Y (3 * i + r) k) (k + 1) 0 = true) → Q (some (.int (nI 6))) σ) : qa cst 25 0 [(0, .ref (cl 2 0)), (1, .ref (cl 12 i)), (2, .int (nI r)), (3, .int (nI k))] [] σ Q := by
  obtain ⟨hL, e13, h2⟩ := hI (3 * i + r) (by omega)
  obtain ⟨hP, e14, h16⟩ := h2 k (by omega)
  obtain ⟨o2, o3, o4, o5⟩ := id hO
  obtain ⟨hd, hl2, hs⟩ := id hS
  have hk12 : k < 12 := by omega
  have hlk := lks_w hS
  rw [ho] at e14
  refine qa_s (pc' := 1) at_25_0 rfl rfl rfl ?_
  refine qa_s (pc' := 2) at_25_1 rfl rfl rfl ?_
  refine qa_aald (nx := 3) (k := r) at_25_2 (by decide) rfl rfl (show _ < 5 by omega) rfl (show r < 3 by omega) ?_
  refine qa_s (pc' := 5) at_25_3 rfl rfl rfl ?_
  refine qa_s (pc' := 7) at_25_5 rfl rfl rfl ?_
  refine qa_getR (nx := 10) at_25_7 rfl (by decide) rfl rfl (show _ < 15 by omega) ?_
  refine qa_s (pc' := 11) at_25_10 rfl rfl rfl ?_
  refine qa_ialdV (nx := 12) (k := k) (v := nI 5) at_25_11 rfl rfl rfl (show _ < 15 by omega) rfl (show k < 12 by omega) (show _ from e14) ?_
  refine qa_swi (nx := 107) at_25_12 (by decide +kernel) (show _ = some (95) by decide +kernel) rfl ?_
  refine qa_s (pc' := 108) at_25_107 rfl rfl rfl ?_
  refine qa_s (pc' := 110) at_25_108 rfl rfl rfl ?_
  refine qa_s (pc' := 111) at_25_110 rfl rfl rfl ?_
  refine qa_callV (nx := 114) at_25_111 rfl rfl (Nat.le_of_ble_eq_true rfl) rfl rfl rfl (by decide) rfl (by decide) ?_
  show qa _ 33 0 [(0, .ref _), (1, .ref _), (2, .int _)] [] _ _
  refine c33_q (by omega) hk hI ho (fun hj => ?_) (fun hj => ?_)
  · show qa _ 25 114 _ [.int _] _ _
    refine qa_ret at_25_114 rfl ?_
    first | exact K0 hj | exact K1 hj
  · show qa _ 25 114 _ [.int _] _ _
    refine qa_ret at_25_114 rfl ?_
    first | exact K0 hj | exact K1 hj
theorem ckd_q (hi : i < 5) (hr : r < 3) (hk : k < L (3 * i + r)) (hI : ImC L P Y σ) (hO : CO (P (3 * i + r)) (Y (3 * i + r)) s d σ) (hS : StOk (P (3 * i + r)) (Y (3 * i + r)) s d k) (ho : P (3 * i + r) k < 5 ∨ 10 < P (3 * i + r) k) (K0 : Q (some (.int (nI 0))) σ) : qa cst 25 0 [(0, .ref (cl 2 0)), (1, .ref (cl 12 i)), (2, .int (nI r)), (3, .int (nI k))] [] σ Q := by
  obtain ⟨hL, e13, h2⟩ := hI (3 * i + r) (by omega)
  obtain ⟨hP, e14, h16⟩ := h2 k (by omega)
  obtain ⟨o2, o3, o4, o5⟩ := id hO
  obtain ⟨hd, hl2, hs⟩ := id hS
  have hk12 : k < 12 := by omega
  have hlk := lks_w hS
  have hoc : P (3 * i + r) k = 0 ∨ P (3 * i + r) k = 1 ∨ P (3 * i + r) k = 2 ∨ P (3 * i + r) k = 3 ∨ P (3 * i + r) k = 4 ∨ P (3 * i + r) k = 11 ∨ P (3 * i + r) k = 12 ∨ P (3 * i + r) k = 13 ∨ P (3 * i + r) k = 14 := by omega
  rcases hoc with ho' | ho' | ho' | ho' | ho' | ho' | ho' | ho' | ho'
  · rw [ho'] at e14
    refine qa_s (pc' := 1) at_25_0 rfl rfl rfl ?_
    refine qa_s (pc' := 2) at_25_1 rfl rfl rfl ?_
    refine qa_aald (nx := 3) (k := r) at_25_2 (by decide) rfl rfl (show _ < 5 by omega) rfl (show r < 3 by omega) ?_
    refine qa_s (pc' := 5) at_25_3 rfl rfl rfl ?_
    refine qa_s (pc' := 7) at_25_5 rfl rfl rfl ?_
    refine qa_getR (nx := 10) at_25_7 rfl (by decide) rfl rfl (show _ < 15 by omega) ?_
    refine qa_s (pc' := 11) at_25_10 rfl rfl rfl ?_
    refine qa_ialdV (nx := 12) (k := k) (v := nI 0) at_25_11 rfl rfl rfl (show _ < 15 by omega) rfl (show k < 12 by omega) (show _ from e14) ?_
    refine qa_swo (nx := 115) at_25_12 (by decide +kernel) rfl ?_
    refine qa_ic (nx := 116) (v := nI 0) at_25_115 (by decide) rfl ?_
    refine qa_ret at_25_116 rfl ?_
    exact K0
  · rw [ho'] at e14
    refine qa_s (pc' := 1) at_25_0 rfl rfl rfl ?_
    refine qa_s (pc' := 2) at_25_1 rfl rfl rfl ?_
    refine qa_aald (nx := 3) (k := r) at_25_2 (by decide) rfl rfl (show _ < 5 by omega) rfl (show r < 3 by omega) ?_
    refine qa_s (pc' := 5) at_25_3 rfl rfl rfl ?_
    refine qa_s (pc' := 7) at_25_5 rfl rfl rfl ?_
    refine qa_getR (nx := 10) at_25_7 rfl (by decide) rfl rfl (show _ < 15 by omega) ?_
    refine qa_s (pc' := 11) at_25_10 rfl rfl rfl ?_
    refine qa_ialdV (nx := 12) (k := k) (v := nI 1) at_25_11 rfl rfl rfl (show _ < 15 by omega) rfl (show k < 12 by omega) (show _ from e14) ?_
    refine qa_swo (nx := 115) at_25_12 (by decide +kernel) rfl ?_
    refine qa_ic (nx := 116) (v := nI 0) at_25_115 (by decide) rfl ?_
    refine qa_ret at_25_116 rfl ?_
    exact K0
  · rw [ho'] at e14
    refine qa_s (pc' := 1) at_25_0 rfl rfl rfl ?_
    refine qa_s (pc' := 2) at_25_1 rfl rfl rfl ?_
    refine qa_aald (nx := 3) (k := r) at_25_2 (by decide) rfl rfl (show _ < 5 by omega) rfl (show r < 3 by omega) ?_
    refine qa_s (pc' := 5) at_25_3 rfl rfl rfl ?_
    refine qa_s (pc' := 7) at_25_5 rfl rfl rfl ?_
    refine qa_getR (nx := 10) at_25_7 rfl (by decide) rfl rfl (show _ < 15 by omega) ?_
    refine qa_s (pc' := 11) at_25_10 rfl rfl rfl ?_
    refine qa_ialdV (nx := 12) (k := k) (v := nI 2) at_25_11 rfl rfl rfl (show _ < 15 by omega) rfl (show k < 12 by omega) (show _ from e14) ?_
    refine qa_swo (nx := 115) at_25_12 (by decide +kernel) rfl ?_
    refine qa_ic (nx := 116) (v := nI 0) at_25_115 (by decide) rfl ?_
    refine qa_ret at_25_116 rfl ?_
    exact K0
  · rw [ho'] at e14
    refine qa_s (pc' := 1) at_25_0 rfl rfl rfl ?_
    refine qa_s (pc' := 2) at_25_1 rfl rfl rfl ?_
    refine qa_aald (nx := 3) (k := r) at_25_2 (by decide) rfl rfl (show _ < 5 by omega) rfl (show r < 3 by omega) ?_
    refine qa_s (pc' := 5) at_25_3 rfl rfl rfl ?_
    refine qa_s (pc' := 7) at_25_5 rfl rfl rfl ?_
    refine qa_getR (nx := 10) at_25_7 rfl (by decide) rfl rfl (show _ < 15 by omega) ?_
    refine qa_s (pc' := 11) at_25_10 rfl rfl rfl ?_
    refine qa_ialdV (nx := 12) (k := k) (v := nI 3) at_25_11 rfl rfl rfl (show _ < 15 by omega) rfl (show k < 12 by omega) (show _ from e14) ?_
    refine qa_swo (nx := 115) at_25_12 (by decide +kernel) rfl ?_
    refine qa_ic (nx := 116) (v := nI 0) at_25_115 (by decide) rfl ?_
    refine qa_ret at_25_116 rfl ?_
    exact K0
  · rw [ho'] at e14
    refine qa_s (pc' := 1) at_25_0 rfl rfl rfl ?_
    refine qa_s (pc' := 2) at_25_1 rfl rfl rfl ?_
    refine qa_aald (nx := 3) (k := r) at_25_2 (by decide) rfl rfl (show _ < 5 by omega) rfl (show r < 3 by omega) ?_
    refine qa_s (pc' := 5) at_25_3 rfl rfl rfl ?_
    refine qa_s (pc' := 7) at_25_5 rfl rfl rfl ?_
    refine qa_getR (nx := 10) at_25_7 rfl (by decide) rfl rfl (show _ < 15 by omega) ?_
    refine qa_s (pc' := 11) at_25_10 rfl rfl rfl ?_
    refine qa_ialdV (nx := 12) (k := k) (v := nI 4) at_25_11 rfl rfl rfl (show _ < 15 by omega) rfl (show k < 12 by omega) (show _ from e14) ?_
    refine qa_swo (nx := 115) at_25_12 (by decide +kernel) rfl ?_
    refine qa_ic (nx := 116) (v := nI 0) at_25_115 (by decide) rfl ?_
    refine qa_ret at_25_116 rfl ?_
    exact K0
  · rw [ho'] at e14
    refine qa_s (pc' := 1) at_25_0 rfl rfl rfl ?_
    refine qa_s (pc' := 2) at_25_1 rfl rfl rfl ?_
    refine qa_aald (nx := 3) (k := r) at_25_2 (by decide) rfl rfl (show _ < 5 by omega) rfl (show r < 3 by omega) ?_
    refine qa_s (pc' := 5) at_25_3 rfl rfl rfl ?_
    refine qa_s (pc' := 7) at_25_5 rfl rfl rfl ?_
    refine qa_getR (nx := 10) at_25_7 rfl (by decide) rfl rfl (show _ < 15 by omega) ?_
    refine qa_s (pc' := 11) at_25_10 rfl rfl rfl ?_
    refine qa_ialdV (nx := 12) (k := k) (v := nI 11) at_25_11 rfl rfl rfl (show _ < 15 by omega) rfl (show k < 12 by omega) (show _ from e14) ?_
    refine qa_swo (nx := 115) at_25_12 (by decide +kernel) rfl ?_
    refine qa_ic (nx := 116) (v := nI 0) at_25_115 (by decide) rfl ?_
    refine qa_ret at_25_116 rfl ?_
    exact K0
  · rw [ho'] at e14
    refine qa_s (pc' := 1) at_25_0 rfl rfl rfl ?_
    refine qa_s (pc' := 2) at_25_1 rfl rfl rfl ?_
    refine qa_aald (nx := 3) (k := r) at_25_2 (by decide) rfl rfl (show _ < 5 by omega) rfl (show r < 3 by omega) ?_
    refine qa_s (pc' := 5) at_25_3 rfl rfl rfl ?_
    refine qa_s (pc' := 7) at_25_5 rfl rfl rfl ?_
    refine qa_getR (nx := 10) at_25_7 rfl (by decide) rfl rfl (show _ < 15 by omega) ?_
    refine qa_s (pc' := 11) at_25_10 rfl rfl rfl ?_
    refine qa_ialdV (nx := 12) (k := k) (v := nI 12) at_25_11 rfl rfl rfl (show _ < 15 by omega) rfl (show k < 12 by omega) (show _ from e14) ?_
    refine qa_swo (nx := 115) at_25_12 (by decide +kernel) rfl ?_
    refine qa_ic (nx := 116) (v := nI 0) at_25_115 (by decide) rfl ?_
    refine qa_ret at_25_116 rfl ?_
    exact K0
  · rw [ho'] at e14
    refine qa_s (pc' := 1) at_25_0 rfl rfl rfl ?_
    refine qa_s (pc' := 2) at_25_1 rfl rfl rfl ?_
    refine qa_aald (nx := 3) (k := r) at_25_2 (by decide) rfl rfl (show _ < 5 by omega) rfl (show r < 3 by omega) ?_
    refine qa_s (pc' := 5) at_25_3 rfl rfl rfl ?_
    refine qa_s (pc' := 7) at_25_5 rfl rfl rfl ?_
    refine qa_getR (nx := 10) at_25_7 rfl (by decide) rfl rfl (show _ < 15 by omega) ?_
    refine qa_s (pc' := 11) at_25_10 rfl rfl rfl ?_
    refine qa_ialdV (nx := 12) (k := k) (v := nI 13) at_25_11 rfl rfl rfl (show _ < 15 by omega) rfl (show k < 12 by omega) (show _ from e14) ?_
    refine qa_swo (nx := 115) at_25_12 (by decide +kernel) rfl ?_
    refine qa_ic (nx := 116) (v := nI 0) at_25_115 (by decide) rfl ?_
    refine qa_ret at_25_116 rfl ?_
    exact K0
  · rw [ho'] at e14
    refine qa_s (pc' := 1) at_25_0 rfl rfl rfl ?_
    refine qa_s (pc' := 2) at_25_1 rfl rfl rfl ?_
    refine qa_aald (nx := 3) (k := r) at_25_2 (by decide) rfl rfl (show _ < 5 by omega) rfl (show r < 3 by omega) ?_
    refine qa_s (pc' := 5) at_25_3 rfl rfl rfl ?_
    refine qa_s (pc' := 7) at_25_5 rfl rfl rfl ?_
    refine qa_getR (nx := 10) at_25_7 rfl (by decide) rfl rfl (show _ < 15 by omega) ?_
    refine qa_s (pc' := 11) at_25_10 rfl rfl rfl ?_
    refine qa_ialdV (nx := 12) (k := k) (v := nI 14) at_25_11 rfl rfl rfl (show _ < 15 by omega) rfl (show k < 12 by omega) (show _ from e14) ?_
    refine qa_swo (nx := 115) at_25_12 (by decide +kernel) rfl ?_
    refine qa_ic (nx := 116) (v := nI 0) at_25_115 (by decide) rfl ?_
    refine qa_ret at_25_116 rfl ?_
    exact K0
end PQ
