/-! The cells that the constructors lay, by kind and number (by program, wip/tools/gen12.py); a store of ints over them. -/
-- kind 0: Kernel, 5 slots, 1 of them
-- kind 1: Kernel.tasks, 5 slots, 1 of them
-- kind 2: Checker, 5 slots, 1 of them
-- kind 3: Checker.open, 12 slots, 1 of them
-- kind 4: Figures, 6 slots, 1 of them
-- kind 5: wcets, 5 slots, 1 of them
-- kind 6: sections, 5 slots, 1 of them
-- kind 7: sections[i], 4 slots, 5 of them
-- kind 8: blockings, 5 slots, 1 of them
-- kind 9: responses, 5 slots, 1 of them
-- kind 10: ceilings, 4 slots, 1 of them
-- kind 11: Task, 4 slots, 5 of them
-- kind 12: Task.image, 3 slots, 5 of them
-- kind 13: Routine, 7 slots, 15 of them
-- kind 14: ops, 12 slots, 15 of them
-- kind 15: xs, 12 slots, 15 of them
-- kind 16: ys, 12 slots, 15 of them
-- kind 17: mates, 12 slots, 15 of them
-- kind 18: Machine, 14 slots, 1 of them
-- kind 19: posts, 5 slots, 1 of them
-- kind 20: ports, 2 slots, 1 of them
-- kind 21: Journal, 5 slots, 1 of them
-- kind 22: Journal.kinds, 32 slots, 1 of them
-- kind 23: Journal.numbers, 32 slots, 1 of them
-- kind 24: Journal.times, 32 slots, 1 of them
-- kind 25: Journal.values, 32 slots, 1 of them
-- kind 26: mailboxes, 2 slots, 1 of them
-- kind 27: Post, 6 slots, 5 of them
-- kind 28: Post.words, 8 slots, 5 of them
-- kind 29: Job, 16 slots, 5 of them
-- kind 30: registers, 4 slots, 5 of them
-- kind 31: callers, 3 slots, 5 of them
-- kind 32: returns, 3 slots, 5 of them
-- kind 33: roundsLeft, 3 slots, 5 of them
-- kind 34: roundsLeft[r], 12 slots, 15 of them
-- kind 35: Mailbox, 2 slots, 2 of them
-- kind 36: Mailbox.numbers, 3 slots, 2 of them
-- kind 40: Model, 54 slots, 1 of them
-- kind 41: Model.period, 5 slots, 1 of them
-- kind 42: Model.deadline, 5 slots, 1 of them
-- kind 43: Model.offset, 5 slots, 1 of them
-- kind 44: Model.op, 180 slots, 1 of them
-- kind 45: Model.rx, 180 slots, 1 of them
-- kind 46: Model.num, 180 slots, 1 of them
-- kind 47: Model.mate, 180 slots, 1 of them
-- kind 48: Model.len, 15 slots, 1 of them
-- kind 49: Model.price, 15 slots, 1 of them
-- kind 50: Model.open, 12 slots, 1 of them
-- kind 51: Model.far, 13 slots, 1 of them
-- kind 52: Model.total, 3 slots, 1 of them
-- kind 53: Model.wc, 5 slots, 1 of them
-- kind 54: Model.sec, 20 slots, 1 of them
-- kind 55: Model.blk, 5 slots, 1 of them
-- kind 56: Model.resp, 5 slots, 1 of them
-- kind 57: Model.ceil, 4 slots, 1 of them
-- kind 58: Model.has, 5 slots, 1 of them
-- kind 59: Model.ran, 5 slots, 1 of them
-- kind 60: Model.born, 5 slots, 1 of them
-- kind 61: Model.turning, 5 slots, 1 of them
-- kind 62: Model.spent, 5 slots, 1 of them
-- kind 63: Model.steps, 5 slots, 1 of them
-- kind 64: Model.holds, 5 slots, 1 of them
-- kind 65: Model.routine, 5 slots, 1 of them
-- kind 66: Model.at, 5 slots, 1 of them
-- kind 67: Model.caller, 15 slots, 1 of them
-- kind 68: Model.back, 15 slots, 1 of them
-- kind 69: Model.rounds, 180 slots, 1 of them
-- kind 70: Model.regs, 20 slots, 1 of them
-- kind 71: Model.words, 40 slots, 1 of them
-- kind 72: Model.due, 5 slots, 1 of them
-- kind 73: Model.waits, 5 slots, 1 of them
-- kind 74: Model.top, 5 slots, 1 of them
-- kind 75: Model.ports, 2 slots, 1 of them
-- kind 76: Model.box, 6 slots, 1 of them
-- kind 77: Model.held, 2 slots, 1 of them
-- kind 78: Model.kinds, 32 slots, 1 of them
-- kind 79: Model.whose, 32 slots, 1 of them
-- kind 80: Model.times, 32 slots, 1 of them
-- kind 81: Model.values, 32 slots, 1 of them
def kd_tags : List Nat := [0, 22, 1, 20, 2, 20, 26, 20, 20, 20, 20, 3, 23, 4, 20, 20, 20, 20, 5, 24, 20, 7, 20, 20, 20, 20, 25, 8, 20, 6, 20, 20, 20, 26, 20, 9, 20, 0, 0, 0, 10, 20, 20, 20, 20, 20, 20, 20, 20, 20, 20, 20, 20, 20, 20, 20, 20, 20, 21, 21, 20, 20, 20, 20, 20, 20, 20, 20, 20, 20, 20, 20, 20, 20, 20, 20, 20, 20, 20, 20, 20, 20]
def kd_tag (a : Nat) : Nat := kd_tags.getD a 99
def kd_lens : List Nat := [5, 5, 5, 12, 6, 5, 5, 4, 5, 5, 4, 4, 3, 7, 12, 12, 12, 12, 14, 5, 2, 5, 32, 32, 32, 32, 2, 6, 8, 16, 4, 3, 3, 3, 12, 2, 3, 0, 0, 0, 54, 5, 5, 5, 180, 180, 180, 180, 15, 15, 12, 13, 3, 5, 20, 5, 5, 4, 5, 5, 5, 5, 5, 5, 5, 5, 5, 15, 15, 180, 20, 40, 5, 5, 5, 2, 6, 2, 32, 32, 32, 32]
def kd_len (a : Nat) : Nat := kd_lens.getD a 0
def kd_cnts : List Nat := [1, 1, 1, 1, 1, 1, 1, 5, 1, 1, 1, 5, 5, 15, 15, 15, 15, 15, 1, 1, 1, 1, 1, 1, 1, 1, 1, 5, 5, 5, 5, 5, 5, 5, 15, 2, 2, 0, 0, 0, 1, 1, 1, 1, 1, 1, 1, 1, 1, 1, 1, 1, 1, 1, 1, 1, 1, 1, 1, 1, 1, 1, 1, 1, 1, 1, 1, 1, 1, 1, 1, 1, 1, 1, 1, 1, 1, 1, 1, 1, 1, 1]
def kd_cnt (a : Nat) : Nat := kd_cnts.getD a 0
def kd_cells : List (List Nat) := [[0], [1], [2], [3], [4], [5], [6], [7, 8, 9, 10, 11], [12], [13], [14], [15, 32, 49, 66, 83], [16, 33, 50, 67, 84], [17, 22, 27, 34, 39, 44, 51, 56, 61, 68, 73, 78, 85, 90, 95], [18, 23, 28, 35, 40, 45, 52, 57, 62, 69, 74, 79, 86, 91, 96], [19, 24, 29, 36, 41, 46, 53, 58, 63, 70, 75, 80, 87, 92, 97], [20, 25, 30, 37, 42, 47, 54, 59, 64, 71, 76, 81, 88, 93, 98], [21, 26, 31, 38, 43, 48, 55, 60, 65, 72, 77, 82, 89, 94, 99], [100], [101], [102], [103], [104], [105], [106], [107], [108], [109, 119, 129, 139, 149], [110, 120, 130, 140, 150], [111, 121, 131, 141, 151], [112, 122, 132, 142, 152], [113, 123, 133, 143, 153], [114, 124, 134, 144, 154], [115, 125, 135, 145, 155], [116, 117, 118, 126, 127, 128, 136, 137, 138, 146, 147, 148, 156, 157, 158], [159, 161], [160, 162], [], [], [], [163], [164], [165], [166], [167], [168], [169], [170], [171], [172], [173], [174], [175], [176], [177], [178], [179], [180], [181], [182], [183], [184], [185], [186], [187], [188], [189], [190], [191], [192], [193], [194], [195], [196], [197], [198], [199], [200], [201], [202], [203], [204]]
def kd_cell (a i : Nat) : Nat := (kd_cells.getD a []).getD i 0
def kd_ref (a i j : Nat) : Option (Nat × Nat) := match a with
  | 0 => (match j with | 0 => some (1, 0) | 1 => some (2, 0) | 2 => some (4, 0) | 3 => some (18, 0) | _ => none)
  | 1 => some (11, j)
  | 2 => (match j with | 1 => some (3, 0) | _ => none)
  | 4 => (match j with | 1 => some (5, 0) | 2 => some (6, 0) | 3 => some (8, 0) | 4 => some (9, 0) | 5 => some (10, 0) | _ => none)
  | 6 => some (7, j)
  | 11 => (match j with | 0 => some (12, i) | _ => none)
  | 12 => some (13, 3 * i + j)
  | 13 => (match j with | 0 => some (14, i) | 1 => some (15, i) | 2 => some (16, i) | 3 => some (17, i) | _ => none)
  | 18 => (match j with | 1 => some (19, 0) | 2 => some (20, 0) | 3 => some (21, 0) | 4 => some (4, 0) | 5 => some (26, 0) | _ => none)
  | 19 => some (27, j)
  | 21 => (match j with | 1 => some (22, 0) | 2 => some (23, 0) | 3 => some (24, 0) | 4 => some (25, 0) | _ => none)
  | 26 => some (35, j)
  | 27 => (match j with | 0 => some (11, i) | 1 => some (29, i) | 2 => some (28, i) | _ => none)
  | 29 => (match j with | 8 => some (30, i) | 9 => some (12, i) | 13 => some (31, i) | 14 => some (32, i) | 15 => some (33, i) | _ => none)
  | 33 => some (34, 3 * i + j)
  | 35 => (match j with | 0 => some (36, i) | _ => none)
  | 40 => (match j with | 4 => some (41, 0) | 5 => some (42, 0) | 6 => some (43, 0) | 7 => some (44, 0) | 8 => some (45, 0) | 9 => some (46, 0) | 10 => some (47, 0) | 11 => some (48, 0) | 12 => some (49, 0) | 13 => some (50, 0) | 15 => some (51, 0) | 16 => some (52, 0) | 17 => some (53, 0) | 18 => some (54, 0) | 19 => some (55, 0) | 20 => some (56, 0) | 21 => some (57, 0) | 30 => some (58, 0) | 31 => some (59, 0) | 32 => some (60, 0) | 33 => some (61, 0) | 34 => some (62, 0) | 35 => some (63, 0) | 36 => some (64, 0) | 37 => some (65, 0) | 38 => some (66, 0) | 39 => some (67, 0) | 40 => some (68, 0) | 41 => some (69, 0) | 42 => some (70, 0) | 43 => some (71, 0) | 44 => some (72, 0) | 45 => some (73, 0) | 46 => some (74, 0) | 47 => some (75, 0) | 48 => some (76, 0) | 49 => some (77, 0) | 50 => some (78, 0) | 51 => some (79, 0) | 52 => some (80, 0) | 53 => some (81, 0) | _ => none)
  | _ => none
def kd_ix : List (Nat × Nat) := [(0, 0), (1, 0), (2, 0), (3, 0), (4, 0), (5, 0), (6, 0), (7, 0), (7, 1), (7, 2), (7, 3), (7, 4), (8, 0), (9, 0), (10, 0), (11, 0), (12, 0), (13, 0), (14, 0), (15, 0), (16, 0), (17, 0), (13, 1), (14, 1), (15, 1), (16, 1), (17, 1), (13, 2), (14, 2), (15, 2), (16, 2), (17, 2), (11, 1), (12, 1), (13, 3), (14, 3), (15, 3), (16, 3), (17, 3), (13, 4), (14, 4), (15, 4), (16, 4), (17, 4), (13, 5), (14, 5), (15, 5), (16, 5), (17, 5), (11, 2), (12, 2), (13, 6), (14, 6), (15, 6), (16, 6), (17, 6), (13, 7), (14, 7), (15, 7), (16, 7), (17, 7), (13, 8), (14, 8), (15, 8), (16, 8), (17, 8), (11, 3), (12, 3), (13, 9), (14, 9), (15, 9), (16, 9), (17, 9), (13, 10), (14, 10), (15, 10), (16, 10), (17, 10), (13, 11), (14, 11), (15, 11), (16, 11), (17, 11), (11, 4), (12, 4), (13, 12), (14, 12), (15, 12), (16, 12), (17, 12), (13, 13), (14, 13), (15, 13), (16, 13), (17, 13), (13, 14), (14, 14), (15, 14), (16, 14), (17, 14), (18, 0), (19, 0), (20, 0), (21, 0), (22, 0), (23, 0), (24, 0), (25, 0), (26, 0), (27, 0), (28, 0), (29, 0), (30, 0), (31, 0), (32, 0), (33, 0), (34, 0), (34, 1), (34, 2), (27, 1), (28, 1), (29, 1), (30, 1), (31, 1), (32, 1), (33, 1), (34, 3), (34, 4), (34, 5), (27, 2), (28, 2), (29, 2), (30, 2), (31, 2), (32, 2), (33, 2), (34, 6), (34, 7), (34, 8), (27, 3), (28, 3), (29, 3), (30, 3), (31, 3), (32, 3), (33, 3), (34, 9), (34, 10), (34, 11), (27, 4), (28, 4), (29, 4), (30, 4), (31, 4), (32, 4), (33, 4), (34, 12), (34, 13), (34, 14), (35, 0), (36, 0), (35, 1), (36, 1), (40, 0), (41, 0), (42, 0), (43, 0), (44, 0), (45, 0), (46, 0), (47, 0), (48, 0), (49, 0), (50, 0), (51, 0), (52, 0), (53, 0), (54, 0), (55, 0), (56, 0), (57, 0), (58, 0), (59, 0), (60, 0), (61, 0), (62, 0), (63, 0), (64, 0), (65, 0), (66, 0), (67, 0), (68, 0), (69, 0), (70, 0), (71, 0), (72, 0), (73, 0), (74, 0), (75, 0), (76, 0), (77, 0), (78, 0), (79, 0), (80, 0), (81, 0)]
abbrev sg : Type := Nat → Nat → Nat → Int32
def cl (a i : Nat) : Nat := 5 + kd_cell a i
def sv (σ : sg) (a i j : Nat) : Value := match kd_ref a i j with
  | some q => .ref (cl q.1 q.2)
  | none => .int (σ a i j)
def slo (σ : sg) (a i : Nat) : List Value := (List.range (kd_len a)).map (sv σ a i)
def lay (σ : sg) : mj_Hp := kd_ix.map (fun q => (kd_tag q.1, slo σ q.1 q.2))
def up (σ : sg) (a i j : Nat) (v : Int32) : sg := fun a' i' j' => if a' = a then (if i' = i then (if j' = j then v else σ a' i' j') else σ a' i' j') else σ a' i' j'
/-- what the constructors leave -/
def s0 : sg := fun a _ j => match a with
  | 2 => (match j with | 0 => -1 | _ => 0)
  | 40 => (match j with | 3 => -1 | _ => 0)
  | 49 => (([1, 1, 4, 2, 2, 2, 1, 1, 2, 1, 2, 1, 1, 2, 2] : List Int32).getD j 0)
  | _ => 0
set_option maxRecDepth 100000 in
theorem kd_ix1 : ∀ a, a < 82 → ∀ i, i < kd_cnt a → kd_ix[kd_cell a i]? = some (a, i) := by decide +kernel
set_option maxRecDepth 100000 in
theorem kd_ix2 : ∀ k, k < 205 → (match kd_ix[k]? with | some q => decide (kd_cell q.1 q.2 = k ∧ q.2 < kd_cnt q.1 ∧ q.1 < 82) | none => false) = true := by decide +kernel
theorem kd_ixl : kd_ix.length = 205 := by decide +kernel
theorem kd_ltK {a i : Nat} (h : i < kd_cnt a) : a < 82 := by
  have h0 : 0 < kd_cnt a := Nat.lt_of_le_of_lt (Nat.zero_le _) h
  unfold kd_cnt at h0
  rw [List.getD_eq_getElem?_getD] at h0
  rcases Nat.lt_or_ge a kd_cnts.length with h1 | h1
  · exact h1
  · rw [List.getElem?_eq_none h1] at h0
    exact absurd h0 (Nat.lt_irrefl _)
theorem lay_get {σ : sg} {a i : Nat} (h : i < kd_cnt a) : (lay σ)[kd_cell a i]? = some (kd_tag a, slo σ a i) := by
  unfold lay
  rw [List.getElem?_map, kd_ix1 a (kd_ltK h) i h]
  rfl
theorem slo_get {σ : sg} {a i j : Nat} (h : j < kd_len a) : (slo σ a i)[j]? = some (sv σ a i j) := by
  unfold slo
  rw [List.getElem?_map, List.getElem?_range h]
  rfl
theorem slo_len {σ : sg} {a i : Nat} : (slo σ a i).length = kd_len a := by simp [slo]
theorem slo_set {σ : sg} {a i j : Nat} {v : Int32} (hr : kd_ref a i j = none) : (slo σ a i).set j (.int v) = slo (up σ a i j v) a i := by
  apply List.ext_getElem?
  intro k
  by_cases hk : k < kd_len a
  · rw [slo_get hk]
    by_cases e : j = k
    · subst e
      rw [List.getElem?_set_self (by rw [slo_len]; exact hk)]
      simp [sv, hr, up]
    · rw [List.getElem?_set_ne e, slo_get hk]
      have : up σ a i j v a i k = σ a i k := by simp [up, Ne.symm e]
      unfold sv
      rw [this]
  · rw [List.getElem?_eq_none (by rw [List.length_set, slo_len]; omega), List.getElem?_eq_none (by rw [slo_len]; omega)]
theorem slo_up {σ : sg} {a i j a' i' : Nat} {v : Int32} (h : ¬ (a' = a ∧ i' = i)) : slo (up σ a i j v) a' i' = slo σ a' i' := by
  unfold slo
  refine List.map_congr_left fun k _ => ?_
  have : up σ a i j v a' i' k = σ a' i' k := by
    unfold up
    by_cases h1 : a' = a
    · by_cases h2 : i' = i
      · exact absurd ⟨h1, h2⟩ h
      · simp [h1, h2]
    · simp [h1]
  unfold sv
  rw [this]
theorem lay_wr {σ : sg} {a i j : Nat} {v : Int32} (h : i < kd_cnt a) (hr : kd_ref a i j = none) : mj_wr (lay σ) (kd_cell a i) j (.int v) = lay (up σ a i j v) := by
  rw [mj_wr_some (lay_get h), slo_set hr]
  apply List.ext_getElem?
  intro k
  by_cases e : kd_cell a i = k
  · subst e
    rw [List.getElem?_set_self (List.getElem?_eq_some_iff.mp (lay_get h)).1, lay_get h]
  · rw [List.getElem?_set_ne e]
    unfold lay
    rw [List.getElem?_map, List.getElem?_map]
    cases hq : kd_ix[k]? with
    | none => rfl
    | some q =>
      have hk : k < 205 := by rw [← kd_ixl]; exact (List.getElem?_eq_some_iff.mp hq).1
      have h2 := kd_ix2 k hk
      rw [hq] at h2
      simp only [decide_eq_true_eq] at h2
      have hne : ¬ (q.1 = a ∧ q.2 = i) := fun z => e (by rw [← z.1, ← z.2]; exact h2.1)
      simp only [Option.map_some, slo_up hne]
