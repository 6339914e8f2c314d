/-! the fourth call: the figures, and the call, of the class -/
section PQ
variable {cst : List (List Int32)} {ys : List Int32} {σ b : sg} {Q : Option Value → sg → Prop} {T k i r d n f t s : Nat} {L : Nat → Nat} {P Y : Nat → Nat → Nat} {per dl : Nat → Nat}
def Sx (L : Nat → Nat) (P Y : Nat → Nat → Nat) : Nat → Nat → Nat := fun j s => SC L P Y j s 3
def Cx (L : Nat → Nat) (P Y : Nat → Nat → Nat) (T : Nat) : Nat → Int32 := fun s => CEF (Sx L P Y) s T
def Bx (L : Nat → Nat) (P Y : Nat → Nat → Nat) (T : Nat) : Nat → Nat := bl (Sx L P Y) (Cx L P Y T) T
def Fx (L : Nat → Nat) (P Y : Nat → Nat → Nat) (per dl : Nat → Nat) (T : Nat) : Nat → Int32 := Fr (T0 L P Y) per dl (Bx L P Y T)
theorem Sx_b {j : Nat} (hD : ∀ r, r < 3 → SD L P Y j r) : Sx L P Y j s ≤ 834815912 := SC_b hD 3 (Nat.le_refl _)
theorem Bx_b (hD : ∀ i, i < T → ∀ r, r < 3 → SD L P Y i r) : Bx L P Y T i ≤ 834815914 := by
  have h := mxS_b (W := Wt (Sx L P Y) (Cx L P Y T) i) (i := i) (T := T) (B := 834815912) (fun s q hs hq => Wt_b (Sx_b (hD q hq))) 4 (Nat.le_refl _)
  unfold Bx bl ff
  split <;> omega
/-- the figures of the class, of the reference -/
def FigC (L : Nat → Nat) (P Y : Nat → Nat → Nat) (per dl : Nat → Nat) (T : Nat) (σ : sg) : Prop := (∀ i, i < T → σ 5 0 i = nI (T0 L P Y i) ∧ σ 8 0 i = nI (Bx L P Y T i) ∧ σ 9 0 i = rsp (Fx L P Y per dl T) i ∧ ∀ s, s < 4 → σ 7 i s = nI (Sx L P Y i s)) ∧ ∀ s, s < 4 → σ 10 0 s = Cx L P Y T s
def FigM (L : Nat → Nat) (P Y : Nat → Nat → Nat) (per dl : Nat → Nat) (T : Nat) (σ : sg) : Prop := (∀ i, i < T → σ 53 0 i = nI (T0 L P Y i) ∧ σ 55 0 i = nI (Bx L P Y T i) ∧ σ 56 0 i = rsp (Fx L P Y per dl T) i ∧ ∀ s, s < 4 → σ 54 0 (4 * i + s) = nI (Sx L P Y i s)) ∧ ∀ s, s < 4 → σ 57 0 s = Cx L P Y T s
def W1 (L : Nat → Nat) (P Y : Nat → Nat → Nat) (i : Nat) (σ1 σ : sg) : Prop := (∀ a, a ≠ 5 → a ≠ 7 → a ≠ 10 → a ≠ 13 → σ1 a = σ a) ∧ (∀ n j, j ≠ 6 → σ1 13 n j = σ 13 n j) ∧ (∀ q, q < i → σ1 5 0 q = nI (T0 L P Y q) ∧ ∀ s, s < 4 → σ1 7 q s = nI (Sx L P Y q s)) ∧ ∀ s, s < 4 → σ1 10 0 s = CEF (Sx L P Y) s i
theorem c35_a (hT : T ≤ 5) (hI : ImC L P Y σ) (hD : ∀ i, i < T → ∀ r, r < 3 → SD L P Y i r) (hM : ∀ i, i < T → ∀ r, r < 3 → mtAll (P (3 * i + r)) (3 * i + r) (L (3 * i + r)) σ) (K : ∀ σ1, W1 L P Y T σ1 σ → qa (mj_cst ys) 35 58 [(0, .ref (cl 4 0)), (1, .ref (cl 1 0)), (2, .int (nI T)), (3, .int (nI T))] [] σ1 Q) : ∀ m i σ1, i + m = T → W1 L P Y i σ1 σ → qa (mj_cst ys) 35 10 [(0, .ref (cl 4 0)), (1, .ref (cl 1 0)), (2, .int (nI T)), (3, .int (nI i))] [] σ1 Q := by
  intro m
  induction m with
  | zero =>
    intro i σ1 hi h
    obtain rfl : i = T := by omega
    refine qa_s (pc' := 11) at_35_10 rfl rfl rfl ?_
    refine qa_s (pc' := 12) at_35_11 rfl rfl rfl ?_
    refine qn_icmp_ge (tg := 58) (nx := 15) at_35_12 rfl rfl (by omega) (by omega) (fun h35_12 => ?_) (fun h35_12 => ?_)
    · exact K σ1 h
    · omega
  | succ m ih =>
    intro i σ1 hi h
    obtain ⟨w1, w2, w3, w4⟩ := id h
    have hI1 : ImC L P Y σ1 := ImC_of (σ := σ) (fun n => w2 n 4 (by decide)) (w1 14 (by decide) (by decide) (by decide) (by decide)) (w1 16 (by decide) (by decide) (by decide) (by decide)) hI
    refine qa_s (pc' := 11) at_35_10 rfl rfl rfl ?_
    refine qa_s (pc' := 12) at_35_11 rfl rfl rfl ?_
    refine qn_icmp_ge (tg := 58) (nx := 15) at_35_12 rfl rfl (by omega) (by omega) (fun h35_12 => ?_) (fun h35_12 => ?_)
    · omega
    · refine qa_s (pc' := 16) at_35_15 rfl rfl rfl ?_
      refine qa_s (pc' := 17) at_35_16 rfl rfl rfl ?_
      refine qa_aald (nx := 18) (k := i) at_35_17 (by decide) rfl rfl (by decide) rfl (show i < 5 by omega) ?_
      refine qa_getR (nx := 21) at_35_18 rfl (by decide) rfl rfl (show _ < 5 by omega) ?_
      refine qa_callS (nx := 24) at_35_21 rfl rfl (Nat.le_of_ble_eq_true rfl) rfl rfl (by decide) rfl ?_
      show qa _ 37 0 [(0, .ref _)] [] _ _
      refine c37_q (by omega) hI1 (hD i (by omega)) (fun r hr c hc hpc => by rw [w1 17 (by decide) (by decide) (by decide) (by decide)]; exact hM i (by omega) r hr c hc hpc) (fun σ2 a1 a2 g0 g1 g2 => ?_)
      show qa _ 35 24 _ [] _ _
      refine qa_s (pc' := 25) at_35_24 rfl rfl rfl ?_
      refine qa_getR (nx := 28) at_35_25 rfl (by decide) rfl rfl (by decide) ?_
      refine qa_s (pc' := 29) at_35_28 rfl rfl rfl ?_
      refine qa_s (pc' := 30) at_35_29 rfl rfl rfl ?_
      refine qa_s (pc' := 31) at_35_30 rfl rfl rfl ?_
      refine qa_aald (nx := 32) (k := i) at_35_31 (by decide) rfl rfl (by decide) rfl (show i < 5 by omega) ?_
      refine qa_getR (nx := 35) at_35_32 rfl (by decide) rfl rfl (show _ < 5 by omega) ?_
      refine qa_ic (nx := 36) (v := nI 0) at_35_35 (by decide) rfl ?_
      refine qa_aald (nx := 37) (k := 0) at_35_36 (by decide) rfl rfl (show _ < 5 by omega) rfl (show 0 < 3 by omega) ?_
      refine qa_getV (nx := 40) (v := nI (T0 L P Y i)) at_35_37 rfl (by decide) rfl rfl (show _ < 15 by omega) (show _ from g0) ?_
      refine qa_iast (nx := 41) (k := i) at_35_40 rfl rfl rfl (by decide) rfl (show i < 5 by omega) ?_
      refine qa_s (pc' := 42) at_35_41 rfl rfl rfl ?_
      refine qa_s (pc' := 43) at_35_42 rfl rfl rfl ?_
      refine qa_s (pc' := 44) at_35_43 rfl rfl rfl ?_
      refine qa_aald (nx := 45) (k := i) at_35_44 (by decide) rfl rfl (by decide) rfl (show i < 5 by omega) ?_
      refine qa_getR (nx := 48) at_35_45 rfl (by decide) rfl rfl (show _ < 5 by omega) ?_
      refine qa_s (pc' := 49) at_35_48 rfl rfl rfl ?_
      refine qa_callV (nx := 52) at_35_49 rfl rfl (Nat.le_of_ble_eq_true rfl) rfl rfl rfl (by decide) rfl (by decide) ?_
      show qa _ 39 0 [(0, .ref _), (1, .ref _), (2, .int _)] [] _ _
      have hI3 : ImC L P Y (up σ2 5 0 i (nI (T0 L P Y i))) := ImC_of (σ := σ1) (fun n => by rw [up_k (by decide)]; exact a2 n 4 (by decide)) (by rw [up_k (by decide)]; exact a1 14 (by decide)) (by rw [up_k (by decide)]; exact a1 16 (by decide)) hI1
      refine c39_q (e := fun s => CEF (Sx L P Y) s i) (by omega) hI3 (hD i (by omega)) (fun r hr c hc hpc => by rw [up_k (by decide), a1 17 (by decide), w1 17 (by decide) (by decide) (by decide) (by decide)]; exact hM i (by omega) r hr c hc hpc) g1 g2 (fun s hs => by rw [up_k (by decide), a1 10 (by decide)]; exact w4 s hs) (fun σ3 z => ?_)
      obtain ⟨z1, z2, z3⟩ := z
      have h' : W1 L P Y (i + 1) σ3 σ := by
        refine ⟨fun a q1 q2 q3 q4 => by rw [z1 a q2 q3, up_k q1, a1 a q4]; exact w1 a q1 q2 q3 q4, fun n j hj => by rw [z1 13 (by decide) (by decide), up_k (by decide), a2 n j hj]; exact w2 n j hj, fun q hq => ?_, fun s hs => (z3 s hs).2⟩
        by_cases e : q = i
        · subst e
          exact ⟨by rw [z1 5 (by decide) (by decide)]; exact up_s, fun s hs => (z3 s hs).1⟩
        · obtain ⟨v1, v2⟩ := w3 q (by omega)
          exact ⟨by rw [z1 5 (by decide) (by decide), up_j e, a1 5 (by decide)]; exact v1, fun s hs => by rw [z2 q e, up_k (by decide), a1 7 (by decide)]; exact v2 s hs⟩
      show qa _ 35 52 _ [] _ _
      refine qa_incN (nx := 55) (c := 1) at_35_52 (by decide) rfl rfl rfl ?_
      refine qa_goto (nx := 10) at_35_55 rfl ?_
      exact ih (i + 1) σ3 (by omega) h'
theorem c35_b {σ0 : sg} (hT : T ≤ 5) (hD : ∀ i, i < T → ∀ r, r < 3 → SD L P Y i r) (h : W1 L P Y T σ σ0) (K : ∀ σ1, (∀ a, a ≠ 8 → σ1 a = σ a) → (∀ q, q < T → σ1 8 0 q = nI (Bx L P Y T q)) → qa cst 35 83 [(0, .ref (cl 4 0)), (1, .ref (cl 1 0)), (2, .int (nI T)), (3, .int (nI T))] [] σ1 Q) : ∀ m i σ1, i + m = T → (∀ a, a ≠ 8 → σ1 a = σ a) → (∀ q, q < i → σ1 8 0 q = nI (Bx L P Y T q)) → qa cst 35 60 [(0, .ref (cl 4 0)), (1, .ref (cl 1 0)), (2, .int (nI T)), (3, .int (nI i))] [] σ1 Q := by
  intro m
  induction m with
  | zero =>
    intro i σ1 hi h1 h2
    obtain rfl : i = T := by omega
    refine qa_s (pc' := 61) at_35_60 rfl rfl rfl ?_
    refine qa_s (pc' := 62) at_35_61 rfl rfl rfl ?_
    refine qn_icmp_ge (tg := 83) (nx := 65) at_35_62 rfl rfl (by omega) (by omega) (fun h35_62 => ?_) (fun h35_62 => ?_)
    · exact K σ1 h1 h2
    · omega
  | succ m ih =>
    intro i σ1 hi h1 h2
    refine qa_s (pc' := 61) at_35_60 rfl rfl rfl ?_
    refine qa_s (pc' := 62) at_35_61 rfl rfl rfl ?_
    refine qn_icmp_ge (tg := 83) (nx := 65) at_35_62 rfl rfl (by omega) (by omega) (fun h35_62 => ?_) (fun h35_62 => ?_)
    · omega
    · refine qa_s (pc' := 66) at_35_65 rfl rfl rfl ?_
      refine qa_getR (nx := 69) at_35_66 rfl (by decide) rfl rfl (by decide) ?_
      refine qa_s (pc' := 70) at_35_69 rfl rfl rfl ?_
      refine qa_s (pc' := 71) at_35_70 rfl rfl rfl ?_
      refine qa_s (pc' := 72) at_35_71 rfl rfl rfl ?_
      refine qa_s (pc' := 73) at_35_72 rfl rfl rfl ?_
      refine qa_callV (nx := 76) at_35_73 rfl rfl (Nat.le_of_ble_eq_true rfl) rfl rfl rfl (by decide) rfl (by decide) ?_
      show qa _ 41 0 [(0, .ref _), (1, .int _), (2, .int _)] [] _ _
      refine c41_q (S := Sx L P Y) (C := Cx L P Y T) (by omega) hT (fun j s hj hs => ⟨Sx_b (hD j hj), by rw [h1 7 (by decide)]; exact (h.2.2.1 j hj).2 s hs⟩) (fun s hs => by rw [h1 10 (by decide)]; exact h.2.2.2 s hs) ?_
      show qa _ 35 76 _ [.int _, .int _, .ref _] _ _
      refine qa_iast (nx := 77) (k := i) at_35_76 rfl rfl rfl (by decide) rfl (show i < 5 by omega) ?_
      refine qa_incN (nx := 80) (c := 1) at_35_77 (by decide) rfl rfl rfl ?_
      refine qa_goto (nx := 60) at_35_80 rfl ?_
      exact ih (i + 1) _ (by omega) (fun a g => by rw [up_k g]; exact h1 a g) (fun q hq => by by_cases e : q = i; (subst e; exact up_s); rw [up_j e]; exact h2 q (by omega))
/-- what the figures leave alone, the class -/
def frF (σ1 σ : sg) : Prop := (∀ a, a ≠ 4 → a ≠ 5 → a ≠ 7 → a ≠ 8 → a ≠ 9 → a ≠ 10 → a ≠ 13 → σ1 a = σ a) ∧ ∀ n j, j ≠ 6 → σ1 13 n j = σ 13 n j
theorem c35_q (hT : T ≤ 5) (hI : ImC L P Y σ) (hD : ∀ i, i < T → ∀ r, r < 3 → SD L P Y i r) (hM : ∀ i, i < T → ∀ r, r < 3 → mtAll (P (3 * i + r)) (3 * i + r) (L (3 * i + r)) σ) (h11 : ∀ j, j < T → σ 11 j 1 = nI (per j) ∧ 1 ≤ per j ∧ per j ≤ 5000) (hd : ∀ i, i < T → σ 11 i 2 = nI (dl i) ∧ 1 ≤ dl i ∧ dl i ≤ 5000) (K : ∀ σ1, frF σ1 σ → FigC L P Y per dl T σ1 → σ1 4 0 0 = nI 1 → Q (some (.int (lat (Fx L P Y per dl T) T))) σ1) : qa (mj_cst ys) 35 0 [(0, .ref (cl 4 0)), (1, .ref (cl 1 0)), (2, .int (nI T))] [] σ Q := by
  refine qa_s (pc' := 1) at_35_0 rfl rfl rfl ?_
  refine qa_getR (nx := 4) at_35_1 rfl (by decide) rfl rfl (by decide) ?_
  refine qa_ic (nx := 5) (v := (-1)) at_35_4 (by decide) rfl ?_
  refine qa_callS (nx := 8) at_35_5 rfl rfl (Nat.le_of_ble_eq_true rfl) rfl rfl (by decide) rfl ?_
  show qa _ 36 0 [(0, .ref _), (1, .int _)] [] _ _
  refine c36_q (a := 10) (i := 0) rfl (by decide) (fun k => rfl) (by decide) ?_
  show qa _ 35 8 _ [] _ _
  refine qa_ic (nx := 9) (v := nI 0) at_35_8 (by decide) rfl ?_
  refine qa_s (pc' := 10) at_35_9 rfl rfl rfl ?_
  have hW0 : W1 L P Y 0 (fl σ 10 0 (kd_len 10) (-1)) σ := ⟨fun a g1 g2 g3 g4 => by funext i' j'; unfold fl; rw [if_neg (fun c => g3 c.1)], fun n j _ => by unfold fl; rw [if_neg (fun c => absurd c.1 (by decide))], fun q hq => absurd hq (Nat.not_lt_zero _), fun s hs => by unfold fl; rw [if_pos ⟨rfl, rfl, by show s < 4; exact hs⟩]; rfl⟩
  refine c35_a hT hI hD hM (fun σ1 w => ?_) T 0 _ (by omega) hW0
  refine qa_ic (nx := 59) (v := nI 0) at_35_58 (by decide) rfl ?_
  refine qa_s (pc' := 60) at_35_59 rfl rfl rfl ?_
  refine c35_b hT hD w (fun σ2 b1 b2 => ?_) T 0 σ1 (by omega) (fun _ _ => rfl) (fun q hq => absurd hq (Nat.not_lt_zero _))
  refine qa_s (pc' := 84) at_35_83 rfl rfl rfl ?_
  refine qa_ic (nx := 85) (v := nI 1) at_35_84 (by decide) rfl ?_
  refine qa_put (nx := 88) at_35_85 rfl (by decide) rfl (by decide) rfl (by decide) ?_
  refine qa_s (pc' := 89) at_35_88 rfl rfl rfl ?_
  refine qa_s (pc' := 90) at_35_89 rfl rfl rfl ?_
  refine qa_s (pc' := 91) at_35_90 rfl rfl rfl ?_
  refine qa_callV (nx := 94) at_35_91 rfl rfl (Nat.le_of_ble_eq_true rfl) rfl rfl rfl (by decide) rfl (by decide) ?_
  show qa _ 42 0 [(0, .ref _), (1, .ref _), (2, .int _)] [] _ _
  have G : ∀ a, a ≠ 4 → a ≠ 8 → up σ2 4 0 0 (nI 1) a = σ1 a := fun a q1 q2 => by rw [up_k q1]; exact b1 a q2
  refine c42_q (wc := T0 L P Y) (per := per) (dl := dl) (B := Bx L P Y T) hT (fun i hi => ⟨by rw [up_k (by decide)]; exact b2 i hi, Bx_b hD⟩) (fun j hj => ⟨by rw [G 5 (by decide) (by decide)]; exact (w.2.2.1 j hj).1, T0_b (hD j hj)⟩) (fun j hj => by rw [G 11 (by decide) (by decide), w.1 11 (by decide) (by decide) (by decide) (by decide)]; exact h11 j hj) (fun j hj => by rw [G 11 (by decide) (by decide), w.1 11 (by decide) (by decide) (by decide) (by decide)]; exact hd j hj) (fun σ3 c1 c2 => ?_)
  show qa _ 35 94 _ [.int _] _ _
  refine qa_ret at_35_94 rfl ?_
  refine K σ3 ⟨fun a q1 q2 q3 q4 q5 q6 q7 => ?_, fun n j hj => ?_⟩ ⟨fun i hi => ⟨?_, ?_, c2 i hi, fun s hs => ?_⟩, fun s hs => ?_⟩ ?_
  · rw [c1 a q5, G a q1 q4]; exact w.1 a q2 q3 q6 q7
  · rw [c1 13 (by decide), G 13 (by decide) (by decide)]; exact w.2.1 n j hj
  · rw [c1 5 (by decide), G 5 (by decide) (by decide)]; exact (w.2.2.1 i hi).1
  · rw [c1 8 (by decide), up_k (by decide)]; exact b2 i hi
  · rw [c1 7 (by decide), G 7 (by decide) (by decide)]; exact (w.2.2.1 i hi).2 s hs
  · rw [c1 10 (by decide), G 10 (by decide) (by decide)]; exact w.2.2.2 s hs
  · rw [c1 4 (by decide)]; exact up_s
/-- what the fourth call leaves alone, the class -/
def frC (σ1 σ : sg) : Prop := (∀ a, a ≠ 2 → a ≠ 3 → a ≠ 4 → a ≠ 5 → a ≠ 7 → a ≠ 8 → a ≠ 9 → a ≠ 10 → a ≠ 13 → a ≠ 17 → σ1 a = σ a) ∧ ∀ n j, j ≠ 5 → j ≠ 6 → σ1 13 n j = σ 13 n j
def frC1 (σ1 σ : sg) : Prop := (∀ a, a ≠ 2 → a ≠ 3 → a ≠ 13 → a ≠ 17 → σ1 a = σ a) ∧ ∀ n j, j ≠ 5 → σ1 13 n j = σ 13 n j
theorem mtAll_I {σ1 : sg} (hji : n ≠ i) (hr : r < 3) (h : frI i σ1 σ) (g : mtAll (P (3 * n + r)) (3 * n + r) (L (3 * n + r)) σ) : mtAll (P (3 * n + r)) (3 * n + r) (L (3 * n + r)) σ1 := fun c hc hpc => by rw [h.2.2 (3 * n + r) (fun q hq e => by omega)]; exact g c hc hpc
def ansF (v : Int32) : Int32 := if v = -1 then nI 0 else nI 8 + nI 10 * v
theorem c20_l (hT : T ≤ 5) (hT4 : σ 0 0 4 = nI T) (hI : ImC L P Y σ) (h11 : ∀ j, j < T → σ 11 j 1 = nI (per j) ∧ 1 ≤ per j ∧ per j ≤ 5000) (hd : ∀ i, i < T → σ 11 i 2 = nI (dl i) ∧ 1 ≤ dl i ∧ dl i ≤ 5000) (Kb : ∀ i r k w σ1, i < T → (∀ j, j < i → ∀ q, q < 3 → rtOk L P Y j q) → bad L P Y i r k w → frC1 σ1 σ → σ1 2 0 0 = nI (100 * r + k) → Q (some (.int (nI (w + 10 * i)))) σ1) (Kg : (∀ j, j < T → ∀ q, q < 3 → rtOk L P Y j q) → ∀ σ1, frC σ1 σ → FigC L P Y per dl T σ1 → (∀ j, j < T → ∀ q, q < 3 → mtAll (P (3 * j + q)) (3 * j + q) (L (3 * j + q)) σ1) → σ1 4 0 0 = nI 1 → σ1 2 0 0 = σ 2 0 0 → Q (some (.int (ansF (lat (Fx L P Y per dl T) T)))) σ1) : ∀ m i σ1, i + m = T → (∀ j, j < i → ∀ q, q < 3 → rtOk L P Y j q) → frC1 σ1 σ → σ1 2 0 0 = σ 2 0 0 → (∀ j, j < i → ∀ q, q < 3 → mtAll (P (3 * j + q)) (3 * j + q) (L (3 * j + q)) σ1) → qa (mj_cst ys) 20 40 [(0, .ref (cl 0 0)), (1, .int (nI i))] [] σ1 Q := by
  intro m
  induction m with
  | zero =>
    intro i σ1 hi hok hF h0 hM
    obtain rfl : i = T := by omega
    have e4 : σ1 0 0 4 = nI i := by rw [hF.1 0 (by decide) (by decide) (by decide) (by decide)]; exact hT4
    have hI1 : ImC L P Y σ1 := ImC_of (σ := σ) (fun n => hF.2 n 4 (by decide)) (hF.1 14 (by decide) (by decide) (by decide) (by decide)) (hF.1 16 (by decide) (by decide) (by decide) (by decide)) hI
    have hD : ∀ j, j < i → ∀ r, r < 3 → SD L P Y j r := fun j hj r hr => SD_of (by omega) hr hI (hok j hj r hr)
    refine qa_s (pc' := 41) at_20_40 rfl rfl rfl ?_
    refine qa_s (pc' := 42) at_20_41 rfl rfl rfl ?_
    refine qa_getV (nx := 45) (v := nI i) at_20_42 rfl (by decide) rfl rfl (by decide) (show _ from e4) ?_
    refine qn_icmp_ge (tg := 82) (nx := 48) at_20_45 rfl rfl (by omega) (by omega) (fun h20_45 => ?_) (fun h20_45 => ?_)
    · refine qa_s (pc' := 83) at_20_82 rfl rfl rfl ?_
      refine qa_getR (nx := 86) at_20_83 rfl (by decide) rfl rfl (by decide) ?_
      refine qa_s (pc' := 87) at_20_86 rfl rfl rfl ?_
      refine qa_getR (nx := 90) at_20_87 rfl (by decide) rfl rfl (by decide) ?_
      refine qa_s (pc' := 91) at_20_90 rfl rfl rfl ?_
      refine qa_getV (nx := 94) (v := nI i) at_20_91 rfl (by decide) rfl rfl (by decide) (show _ from e4) ?_
      refine qa_callV (nx := 97) at_20_94 rfl rfl (Nat.le_of_ble_eq_true rfl) rfl rfl rfl (by decide) rfl (by decide) ?_
      show qa _ 35 0 [(0, .ref _), (1, .ref _), (2, .int _)] [] _ _
      refine c35_q (T := i) hT hI1 hD hM (fun j hj => by rw [hF.1 11 (by decide) (by decide) (by decide) (by decide)]; exact h11 j hj) (fun j hj => by rw [hF.1 11 (by decide) (by decide) (by decide) (by decide)]; exact hd j hj) (fun σ2 f1 f2 f3 => ?_)
      have k := Kg hok σ2 ⟨fun a q1 q2 q3 q4 q5 q6 q7 q8 q9 q10 => (f1.1 a q3 q4 q5 q6 q7 q8 q9).trans (hF.1 a q1 q2 q9 q10), fun n j q1 q2 => (f1.2 n j q2).trans (hF.2 n j q1)⟩ f2 (fun j hj q hq c hc hpc => by rw [f1.1 17 (by decide) (by decide) (by decide) (by decide) (by decide) (by decide) (by decide)]; exact hM j hj q hq c hc hpc) f3 (by rw [f1.1 2 (by decide) (by decide) (by decide) (by decide) (by decide) (by decide) (by decide)]; exact h0)
      unfold ansF at k
      show qa _ 20 97 _ [.int _] _ _
      refine qa_s (pc' := 98) at_20_97 rfl rfl rfl ?_
      refine qa_s (pc' := 99) at_20_98 rfl rfl rfl ?_
      refine qa_ic (nx := 100) (v := (-1)) at_20_99 (by decide) rfl ?_
      refine qa_icmp_ne (tg := 107) (nx := 103) at_20_100 rfl rfl (fun h20_100 => ?_) (fun h20_100 => ?_)
      · rw [if_neg h20_100] at k
        refine qa_bi (nx := 109) (v := nI 8) at_20_107 (by decide) rfl ?_
        refine qa_bi (nx := 111) (v := nI 10) at_20_109 (by decide) rfl ?_
        refine qa_s (pc' := 112) at_20_111 rfl rfl rfl ?_
        refine qa_s (pc' := 113) at_20_112 rfl rfl rfl ?_
        refine qa_s (pc' := 114) at_20_113 rfl rfl rfl ?_
        refine qa_ret at_20_114 rfl ?_
        exact k
      · rw [if_pos h20_100] at k
        refine qa_ic (nx := 104) (v := nI 0) at_20_103 (by decide) rfl ?_
        refine qa_goto (nx := 114) at_20_104 rfl ?_
        refine qa_ret at_20_114 rfl ?_
        exact k
    · omega
  | succ m ih =>
    intro i σ1 hi hok hF h0 hM
    have e4 : σ1 0 0 4 = nI T := by rw [hF.1 0 (by decide) (by decide) (by decide) (by decide)]; exact hT4
    have hI1 : ImC L P Y σ1 := ImC_of (σ := σ) (fun n => hF.2 n 4 (by decide)) (hF.1 14 (by decide) (by decide) (by decide) (by decide)) (hF.1 16 (by decide) (by decide) (by decide) (by decide)) hI
    have fr : ∀ σ2, frI i σ2 σ1 → frC1 σ2 σ := fun σ2 f => ⟨fun a q1 q2 q3 q4 => (f.1 a q1 q2 q3 q4).trans (hF.1 a q1 q2 q3 q4), fun n j q => (f.2.1 n j q).trans (hF.2 n j q)⟩
    refine qa_s (pc' := 41) at_20_40 rfl rfl rfl ?_
    refine qa_s (pc' := 42) at_20_41 rfl rfl rfl ?_
    refine qa_getV (nx := 45) (v := nI T) at_20_42 rfl (by decide) rfl rfl (by decide) (show _ from e4) ?_
    refine qn_icmp_ge (tg := 82) (nx := 48) at_20_45 rfl rfl (by omega) (by omega) (fun h20_45 => ?_) (fun h20_45 => ?_)
    · omega
    · refine qa_s (pc' := 49) at_20_48 rfl rfl rfl ?_
      refine qa_getR (nx := 52) at_20_49 rfl (by decide) rfl rfl (by decide) ?_
      refine qa_s (pc' := 53) at_20_52 rfl rfl rfl ?_
      refine qa_getR (nx := 56) at_20_53 rfl (by decide) rfl rfl (by decide) ?_
      refine qa_s (pc' := 57) at_20_56 rfl rfl rfl ?_
      refine qa_aald (nx := 58) (k := i) at_20_57 (by decide) rfl rfl (by decide) rfl (show i < 5 by omega) ?_
      refine qa_getR (nx := 61) at_20_58 rfl (by decide) rfl rfl (show _ < 5 by omega) ?_
      refine qa_callV (nx := 64) at_20_61 rfl rfl (Nat.le_of_ble_eq_true rfl) rfl rfl rfl (by decide) rfl (by decide) ?_
      show qa _ 21 0 [(0, .ref _), (1, .ref _)] [] _ _
      refine c21_q (by omega) hI1 (fun r k w σ2 b1 b2 b3 => ?_) (fun g1 σ2 g2 g3 g4 => ?_)
      · have hw0 := b1.2.2.2.2.2.1
        have hw9 := b1.2.2.2.2.2.2
        show qa _ 20 64 _ [.int _] _ _
        refine qa_s (pc' := 65) at_20_64 rfl rfl rfl ?_
        refine qa_s (pc' := 66) at_20_65 rfl rfl rfl ?_
        refine qn_if_eq (tg := 76) (nx := 69) at_20_66 rfl rfl (by omega) (fun h20_66 => ?_) (fun h20_66 => ?_)
        · refine qa_incN (nx := 79) (c := 1) at_20_76 (by decide) rfl rfl rfl ?_
          refine qa_goto (nx := 40) at_20_79 rfl ?_
          first
            | omega
            | (show qa _ _ _ [(0, .ref (cl 0 0)), (1, .int (nI (i + 1))), (2, .int _)] [] _ _; exact qa_drop (l1 := [(0, .ref (cl 0 0)), (1, .int (nI (i + 1)))]) (by intro q hq; simp only [List.mem_cons, List.not_mem_nil, or_false] at hq ⊢; rcases hq with rfl | rfl <;> simp) (by simp [mj_nd]) (ih (i + 1) σ2 (by omega) (fun j hj q hq => by by_cases e : j = i; (subst e; exact g1 q hq); exact hok j (by omega) q hq) (fr σ2 g2) (g3.trans h0) (fun j hj q hq => by by_cases e : j = i; (subst e; exact g4 q hq); exact mtAll_I e hq g2 (hM j (by omega) q hq))))
        · refine qa_s (pc' := 70) at_20_69 rfl rfl rfl ?_
          refine qa_bi (nx := 72) (v := nI 10) at_20_70 (by decide) rfl ?_
          refine qa_s (pc' := 73) at_20_72 rfl rfl rfl ?_
          refine qa_mulN (nx := 74) at_20_73 rfl ?_
          refine qa_addN (nx := 75) at_20_74 rfl ?_
          refine qa_ret at_20_75 rfl ?_
          exact Kb i r k w σ2 (by omega) hok b1 (fr σ2 b2) b3
      · show qa _ 20 64 _ [.int _] _ _
        refine qa_s (pc' := 65) at_20_64 rfl rfl rfl ?_
        refine qa_s (pc' := 66) at_20_65 rfl rfl rfl ?_
        refine qn_if_eq (tg := 76) (nx := 69) at_20_66 rfl rfl (by decide) (fun h20_66 => ?_) (fun h => absurd h (by decide))
        refine qa_incN (nx := 79) (c := 1) at_20_76 (by decide) rfl rfl rfl ?_
        refine qa_goto (nx := 40) at_20_79 rfl ?_
        first
          | omega
          | (show qa _ _ _ [(0, .ref (cl 0 0)), (1, .int (nI (i + 1))), (2, .int _)] [] _ _; exact qa_drop (l1 := [(0, .ref (cl 0 0)), (1, .int (nI (i + 1)))]) (by intro q hq; simp only [List.mem_cons, List.not_mem_nil, or_false] at hq ⊢; rcases hq with rfl | rfl <;> simp) (by simp [mj_nd]) (ih (i + 1) σ2 (by omega) (fun j hj q hq => by by_cases e : j = i; (subst e; exact g1 q hq); exact hok j (by omega) q hq) (fr σ2 g2) (g3.trans h0) (fun j hj q hq => by by_cases e : j = i; (subst e; exact g4 q hq); exact mtAll_I e hq g2 (hM j (by omega) q hq))))
theorem c20_q (hT : T ≤ 5) (hT4 : σ 0 0 4 = nI T) (hI : ImC L P Y σ) (h11 : ∀ j, j < T → σ 11 j 1 = nI (per j) ∧ 1 ≤ per j ∧ per j ≤ 5000) (hd : ∀ i, i < T → σ 11 i 2 = nI (dl i) ∧ 1 ≤ dl i ∧ dl i ≤ 5000) (Kon : ¬ σ 18 0 0 = 0 → Q (some (.int (-1))) σ) (K9 : σ 18 0 0 = 0 → T = 0 → Q (some (.int (nI 9))) (up (up σ 4 0 0 (nI 0)) 2 0 0 (-1)))
    (Kb : ∀ i r k w σ1, σ 18 0 0 = 0 → i < T → (∀ j, j < i → ∀ q, q < 3 → rtOk L P Y j q) → bad L P Y i r k w → frC1 σ1 (up (up σ 4 0 0 (nI 0)) 2 0 0 (-1)) → σ1 2 0 0 = nI (100 * r + k) → Q (some (.int (nI (w + 10 * i)))) σ1)
    (Kg : σ 18 0 0 = 0 → 0 < T → (∀ j, j < T → ∀ q, q < 3 → rtOk L P Y j q) → ∀ σ1, frC σ1 σ → FigC L P Y per dl T σ1 → (∀ j, j < T → ∀ q, q < 3 → mtAll (P (3 * j + q)) (3 * j + q) (L (3 * j + q)) σ1) → σ1 4 0 0 = nI 1 → σ1 2 0 0 = -1 → Q (some (.int (ansF (lat (Fx L P Y per dl T) T)))) σ1) : qa (mj_cst ys) 20 0 [(0, .ref (cl 0 0))] [] σ Q := by
  refine qa_s (pc' := 1) at_20_0 rfl rfl rfl ?_
  refine qa_getR (nx := 4) at_20_1 rfl (by decide) rfl rfl (by decide) ?_
  refine qa_getI (nx := 7) at_20_4 rfl (by decide) rfl rfl (by decide) ?_
  refine qa_if_eq (tg := 12) (nx := 10) at_20_7 rfl rfl (fun h20_7 => ?_) (fun h20_7 => ?_)
  · refine qa_s (pc' := 13) at_20_12 rfl rfl rfl ?_
    refine qa_getR (nx := 16) at_20_13 rfl (by decide) rfl rfl (by decide) ?_
    refine qa_ic (nx := 17) (v := nI 0) at_20_16 (by decide) rfl ?_
    refine qa_put (nx := 20) at_20_17 rfl (by decide) rfl (by decide) rfl (by decide) ?_
    refine qa_s (pc' := 21) at_20_20 rfl rfl rfl ?_
    refine qa_getR (nx := 24) at_20_21 rfl (by decide) rfl rfl (by decide) ?_
    refine qa_ic (nx := 25) (v := (-1)) at_20_24 (by decide) rfl ?_
    refine qa_put (nx := 28) at_20_25 rfl (by decide) rfl rfl rfl (by decide) ?_
    refine qa_s (pc' := 29) at_20_28 rfl rfl rfl ?_
    refine qa_getV (nx := 32) (v := nI T) at_20_29 rfl (by decide) rfl rfl (by decide) (show _ from hT4) ?_
    refine qn_if_ne (tg := 38) (nx := 35) at_20_32 rfl rfl (by omega) (fun h20_32 => ?_) (fun h20_32 => ?_)
    · refine qa_ic (nx := 39) (v := nI 0) at_20_38 (by decide) rfl ?_
      refine qa_s (pc' := 40) at_20_39 rfl rfl rfl ?_
      have hI0 : ImC L P Y (up (up σ 4 0 0 (nI 0)) 2 0 0 (-1)) := ImC_of (σ := σ) (fun n => rfl) rfl rfl hI
      exact c20_l (σ := up (up σ 4 0 0 (nI 0)) 2 0 0 (-1)) hT hT4 hI0 h11 hd (fun i r k w σ1 q1 q2 q3 q4 q5 => Kb i r k w σ1 h20_7 q1 q2 q3 q4 q5) (fun q1 σ1 q2 q3 q4 q5 q6 => Kg h20_7 (by omega) q1 σ1 ⟨fun a p1 p2 p3 p4 p5 p6 p7 p8 p9 p10 => by rw [q2.1 a p1 p2 p3 p4 p5 p6 p7 p8 p9 p10, up_k p1, up_k p3], fun n j p1 p2 => by rw [q2.2 n j p1 p2, up_k (by decide), up_k (by decide)]⟩ q3 q4 q5 (by rw [q6]; exact up_s)) T 0 _ (by omega) (fun j hj => absurd hj (Nat.not_lt_zero _)) ⟨fun _ _ _ _ _ => rfl, fun _ _ _ => rfl⟩ rfl (fun j hj => absurd hj (Nat.not_lt_zero _))
    · refine qa_bi (nx := 37) (v := nI 9) at_20_35 (by decide) rfl ?_
      refine qa_ret at_20_37 rfl ?_
      first
        | exact Kon h20_7
        | exact K9 h20_7 (by omega)
  · refine qa_ic (nx := 11) (v := (-1)) at_20_10 (by decide) rfl ?_
    refine qa_ret at_20_11 rfl ?_
    first
      | exact Kon h20_7
      | exact K9 h20_7 (by omega)
end PQ
