/-! Runs of the small machine over the laid cells, goal first. -/
def qa (cst : List (List Int32)) (m pc : Nat) (ls : mj_Ls) (st : List Value) (σ : sg) (Q : Option Value → sg → Prop) : Prop := ∃ (n : Nat) (r : Option Value) (σ' : sg), mj_run cst n m pc ls st (lay σ) = some (r, lay σ') ∧ Q r σ'
section QA
variable {cst : List (List Int32)} {m pc nx : Nat} {ls : mj_Ls} {st rest : List Value} {σ : sg} {Q : Option Value → sg → Prop}
theorem qa_mono {Q' : Option Value → sg → Prop} (h : qa cst m pc ls st σ Q) (hq : ∀ r σ', Q r σ' → Q' r σ') : qa cst m pc ls st σ Q' := by
  obtain ⟨n, r, σ', h1, h2⟩ := h
  exact ⟨n, r, σ', h1, hq r σ' h2⟩
theorem qa_s {i : Instr} {a b pc' : Nat} {ls' : mj_Ls} {st' : List Value} {σ' : sg} (hat : mj_at m pc = some (i, a, b)) (hr : mj_isRet i (mj_ret m) st = none) (hc : mj_isCall i = none) (hs : mj_step cst i a b pc ls st (lay σ) = some (pc', ls', st', lay σ')) (k : qa cst m pc' ls' st' σ' Q) : qa cst m pc ls st σ Q := by
  obtain ⟨n, r, σ'', h1, h2⟩ := k
  refine ⟨n + 1, r, σ'', ?_, h2⟩
  unfold mj_run
  rw [hat]; dsimp only; rw [hr]; dsimp only; rw [hc]; dsimp only; rw [hs]
  exact h1
theorem qa_ret {i : Instr} {a b : Nat} {r : Option Value} (hat : mj_at m pc = some (i, a, b)) (hr : mj_isRet i (mj_ret m) st = some r) (hq : Q r σ) : qa cst m pc ls st σ Q := by
  refine ⟨1, r, σ, ?_, hq⟩
  unfold mj_run
  rw [hat]; dsimp only; rw [hr]
theorem qa_goto {off : Int} {a b : Nat} (hat : mj_at m pc = some (.goto off, a, b)) (hn : mj_tgt pc off = nx) (k : qa cst m nx ls st σ Q) : qa cst m pc ls st σ Q := by
  refine qa_s hat (by cases st <;> rfl) rfl (σ' := σ) (show some (mj_tgt pc off, ls, st, lay σ) = _ by rw [hn]) k
theorem qa_icmp_eq {off : Int} {a b tg : Nat} {x y : Int32} (hat : mj_at m pc = some (.if_icmp .eq off, a, b)) (ht : mj_tgt pc off = tg) (hn : pc + 3 = nx) (kt : x = y → qa cst m tg ls rest σ Q) (kf : ¬ x = y → qa cst m nx ls rest σ Q) : qa cst m pc ls (.int y :: .int x :: rest) σ Q := by
  subst hn; subst ht
  by_cases h : x = y
  · refine qa_s hat rfl rfl (σ' := σ) ?_ (kt h)
    show some (if mj_ccond _ _ _ = true then _ else _, ls, rest, lay σ) = _
    rw [if_pos (by simpa [mj_ccond] using h)]
  · refine qa_s hat rfl rfl (σ' := σ) ?_ (kf (by simpa using h))
    show some (if mj_ccond _ _ _ = true then _ else _, ls, rest, lay σ) = _
    rw [if_neg (by simpa [mj_ccond] using h)]
theorem qa_if_eq {off : Int} {a b tg : Nat} {x : Int32} (hat : mj_at m pc = some (.ifCond .eq off, a, b)) (ht : mj_tgt pc off = tg) (hn : pc + 3 = nx) (kt : x = 0 → qa cst m tg ls rest σ Q) (kf : ¬ x = 0 → qa cst m nx ls rest σ Q) : qa cst m pc ls (.int x :: rest) σ Q := by
  subst hn; subst ht
  by_cases h : x = 0
  · refine qa_s hat rfl rfl (σ' := σ) ?_ (kt h)
    show some (if mj_ccond _ _ _ = true then _ else _, ls, rest, lay σ) = _
    rw [if_pos (by simpa [mj_ccond] using h)]
  · refine qa_s hat rfl rfl (σ' := σ) ?_ (kf (by simpa using h))
    show some (if mj_ccond _ _ _ = true then _ else _, ls, rest, lay σ) = _
    rw [if_neg (by simpa [mj_ccond] using h)]
theorem qa_icmp_ne {off : Int} {a b tg : Nat} {x y : Int32} (hat : mj_at m pc = some (.if_icmp .ne off, a, b)) (ht : mj_tgt pc off = tg) (hn : pc + 3 = nx) (kt : ¬ x = y → qa cst m tg ls rest σ Q) (kf : x = y → qa cst m nx ls rest σ Q) : qa cst m pc ls (.int y :: .int x :: rest) σ Q := by
  subst hn; subst ht
  by_cases h : ¬ x = y
  · refine qa_s hat rfl rfl (σ' := σ) ?_ (kt h)
    show some (if mj_ccond _ _ _ = true then _ else _, ls, rest, lay σ) = _
    rw [if_pos (by simpa [mj_ccond] using h)]
  · refine qa_s hat rfl rfl (σ' := σ) ?_ (kf (by simpa using h))
    show some (if mj_ccond _ _ _ = true then _ else _, ls, rest, lay σ) = _
    rw [if_neg (by simpa [mj_ccond] using h)]
theorem qa_if_ne {off : Int} {a b tg : Nat} {x : Int32} (hat : mj_at m pc = some (.ifCond .ne off, a, b)) (ht : mj_tgt pc off = tg) (hn : pc + 3 = nx) (kt : ¬ x = 0 → qa cst m tg ls rest σ Q) (kf : x = 0 → qa cst m nx ls rest σ Q) : qa cst m pc ls (.int x :: rest) σ Q := by
  subst hn; subst ht
  by_cases h : ¬ x = 0
  · refine qa_s hat rfl rfl (σ' := σ) ?_ (kt h)
    show some (if mj_ccond _ _ _ = true then _ else _, ls, rest, lay σ) = _
    rw [if_pos (by simpa [mj_ccond] using h)]
  · refine qa_s hat rfl rfl (σ' := σ) ?_ (kf (by simpa using h))
    show some (if mj_ccond _ _ _ = true then _ else _, ls, rest, lay σ) = _
    rw [if_neg (by simpa [mj_ccond] using h)]
theorem qa_icmp_lt {off : Int} {a b tg : Nat} {x y : Int32} (hat : mj_at m pc = some (.if_icmp .lt off, a, b)) (ht : mj_tgt pc off = tg) (hn : pc + 3 = nx) (kt : x < y → qa cst m tg ls rest σ Q) (kf : ¬ x < y → qa cst m nx ls rest σ Q) : qa cst m pc ls (.int y :: .int x :: rest) σ Q := by
  subst hn; subst ht
  by_cases h : x < y
  · refine qa_s hat rfl rfl (σ' := σ) ?_ (kt h)
    show some (if mj_ccond _ _ _ = true then _ else _, ls, rest, lay σ) = _
    rw [if_pos (by simpa [mj_ccond] using h)]
  · refine qa_s hat rfl rfl (σ' := σ) ?_ (kf (by simpa using h))
    show some (if mj_ccond _ _ _ = true then _ else _, ls, rest, lay σ) = _
    rw [if_neg (by simpa [mj_ccond] using h)]
theorem qa_if_lt {off : Int} {a b tg : Nat} {x : Int32} (hat : mj_at m pc = some (.ifCond .lt off, a, b)) (ht : mj_tgt pc off = tg) (hn : pc + 3 = nx) (kt : x < 0 → qa cst m tg ls rest σ Q) (kf : ¬ x < 0 → qa cst m nx ls rest σ Q) : qa cst m pc ls (.int x :: rest) σ Q := by
  subst hn; subst ht
  by_cases h : x < 0
  · refine qa_s hat rfl rfl (σ' := σ) ?_ (kt h)
    show some (if mj_ccond _ _ _ = true then _ else _, ls, rest, lay σ) = _
    rw [if_pos (by simpa [mj_ccond] using h)]
  · refine qa_s hat rfl rfl (σ' := σ) ?_ (kf (by simpa using h))
    show some (if mj_ccond _ _ _ = true then _ else _, ls, rest, lay σ) = _
    rw [if_neg (by simpa [mj_ccond] using h)]
theorem qa_icmp_ge {off : Int} {a b tg : Nat} {x y : Int32} (hat : mj_at m pc = some (.if_icmp .ge off, a, b)) (ht : mj_tgt pc off = tg) (hn : pc + 3 = nx) (kt : y ≤ x → qa cst m tg ls rest σ Q) (kf : ¬ y ≤ x → qa cst m nx ls rest σ Q) : qa cst m pc ls (.int y :: .int x :: rest) σ Q := by
  subst hn; subst ht
  by_cases h : y ≤ x
  · refine qa_s hat rfl rfl (σ' := σ) ?_ (kt h)
    show some (if mj_ccond _ _ _ = true then _ else _, ls, rest, lay σ) = _
    rw [if_pos (by simpa [mj_ccond] using h)]
  · refine qa_s hat rfl rfl (σ' := σ) ?_ (kf (by simpa using h))
    show some (if mj_ccond _ _ _ = true then _ else _, ls, rest, lay σ) = _
    rw [if_neg (by simpa [mj_ccond] using h)]
theorem qa_if_ge {off : Int} {a b tg : Nat} {x : Int32} (hat : mj_at m pc = some (.ifCond .ge off, a, b)) (ht : mj_tgt pc off = tg) (hn : pc + 3 = nx) (kt : 0 ≤ x → qa cst m tg ls rest σ Q) (kf : ¬ 0 ≤ x → qa cst m nx ls rest σ Q) : qa cst m pc ls (.int x :: rest) σ Q := by
  subst hn; subst ht
  by_cases h : 0 ≤ x
  · refine qa_s hat rfl rfl (σ' := σ) ?_ (kt h)
    show some (if mj_ccond _ _ _ = true then _ else _, ls, rest, lay σ) = _
    rw [if_pos (by simpa [mj_ccond] using h)]
  · refine qa_s hat rfl rfl (σ' := σ) ?_ (kf (by simpa using h))
    show some (if mj_ccond _ _ _ = true then _ else _, ls, rest, lay σ) = _
    rw [if_neg (by simpa [mj_ccond] using h)]
theorem qa_icmp_gt {off : Int} {a b tg : Nat} {x y : Int32} (hat : mj_at m pc = some (.if_icmp .gt off, a, b)) (ht : mj_tgt pc off = tg) (hn : pc + 3 = nx) (kt : y < x → qa cst m tg ls rest σ Q) (kf : ¬ y < x → qa cst m nx ls rest σ Q) : qa cst m pc ls (.int y :: .int x :: rest) σ Q := by
  subst hn; subst ht
  by_cases h : y < x
  · refine qa_s hat rfl rfl (σ' := σ) ?_ (kt h)
    show some (if mj_ccond _ _ _ = true then _ else _, ls, rest, lay σ) = _
    rw [if_pos (by simpa [mj_ccond] using h)]
  · refine qa_s hat rfl rfl (σ' := σ) ?_ (kf (by simpa using h))
    show some (if mj_ccond _ _ _ = true then _ else _, ls, rest, lay σ) = _
    rw [if_neg (by simpa [mj_ccond] using h)]
theorem qa_if_gt {off : Int} {a b tg : Nat} {x : Int32} (hat : mj_at m pc = some (.ifCond .gt off, a, b)) (ht : mj_tgt pc off = tg) (hn : pc + 3 = nx) (kt : 0 < x → qa cst m tg ls rest σ Q) (kf : ¬ 0 < x → qa cst m nx ls rest σ Q) : qa cst m pc ls (.int x :: rest) σ Q := by
  subst hn; subst ht
  by_cases h : 0 < x
  · refine qa_s hat rfl rfl (σ' := σ) ?_ (kt h)
    show some (if mj_ccond _ _ _ = true then _ else _, ls, rest, lay σ) = _
    rw [if_pos (by simpa [mj_ccond] using h)]
  · refine qa_s hat rfl rfl (σ' := σ) ?_ (kf (by simpa using h))
    show some (if mj_ccond _ _ _ = true then _ else _, ls, rest, lay σ) = _
    rw [if_neg (by simpa [mj_ccond] using h)]
theorem qa_icmp_le {off : Int} {a b tg : Nat} {x y : Int32} (hat : mj_at m pc = some (.if_icmp .le off, a, b)) (ht : mj_tgt pc off = tg) (hn : pc + 3 = nx) (kt : x ≤ y → qa cst m tg ls rest σ Q) (kf : ¬ x ≤ y → qa cst m nx ls rest σ Q) : qa cst m pc ls (.int y :: .int x :: rest) σ Q := by
  subst hn; subst ht
  by_cases h : x ≤ y
  · refine qa_s hat rfl rfl (σ' := σ) ?_ (kt h)
    show some (if mj_ccond _ _ _ = true then _ else _, ls, rest, lay σ) = _
    rw [if_pos (by simpa [mj_ccond] using h)]
  · refine qa_s hat rfl rfl (σ' := σ) ?_ (kf (by simpa using h))
    show some (if mj_ccond _ _ _ = true then _ else _, ls, rest, lay σ) = _
    rw [if_neg (by simpa [mj_ccond] using h)]
theorem qa_if_le {off : Int} {a b tg : Nat} {x : Int32} (hat : mj_at m pc = some (.ifCond .le off, a, b)) (ht : mj_tgt pc off = tg) (hn : pc + 3 = nx) (kt : x ≤ 0 → qa cst m tg ls rest σ Q) (kf : ¬ x ≤ 0 → qa cst m nx ls rest σ Q) : qa cst m pc ls (.int x :: rest) σ Q := by
  subst hn; subst ht
  by_cases h : x ≤ 0
  · refine qa_s hat rfl rfl (σ' := σ) ?_ (kt h)
    show some (if mj_ccond _ _ _ = true then _ else _, ls, rest, lay σ) = _
    rw [if_pos (by simpa [mj_ccond] using h)]
  · refine qa_s hat rfl rfl (σ' := σ) ?_ (kf (by simpa using h))
    show some (if mj_ccond _ _ _ = true then _ else _, ls, rest, lay σ) = _
    rw [if_neg (by simpa [mj_ccond] using h)]
theorem cl_ge (a i : Nat) : ¬ cl a i < 5 := by unfold cl; omega
theorem cl_sub (a i : Nat) : cl a i - 5 = kd_cell a i := by unfold cl; omega
theorem mj_fld_lay {A i b tag : Nat} (ht : kd_tag A = tag) (hi : i < kd_cnt A) (hb : b < kd_len A) : mj_fld (lay σ) (kd_cell A i) tag b = some (sv σ A i b) := by
  unfold mj_fld
  rw [lay_get hi]
  dsimp only
  rw [if_pos ht, slo_get hb]
theorem qa_getI {A i idx tag b : Nat} (hat : mj_at m pc = some (.getfield idx, tag, b)) (ht : kd_tag A = tag) (hb : b < kd_len A) (hr : kd_ref A i b = none) (hn : pc + 3 = nx) (hi : i < kd_cnt A) (k : qa cst m nx ls (.int (σ A i b) :: rest) σ Q) : qa cst m pc ls (.ref (cl A i) :: rest) σ Q := by
  subst hn
  refine qa_s hat rfl rfl (σ' := σ) ?_ k
  show (if cl A i < 5 then none else (match mj_fld (lay σ) (cl A i - 5) tag b with | some v => some (pc + 3, ls, v :: rest, lay σ) | none => none)) = _
  rw [if_neg (cl_ge A i), cl_sub, mj_fld_lay ht hi hb]
  simp [sv, hr]
theorem qa_getR {A i idx tag b A' i' : Nat} (hat : mj_at m pc = some (.getfield idx, tag, b)) (ht : kd_tag A = tag) (hb : b < kd_len A) (hr : kd_ref A i b = some (A', i')) (hn : pc + 3 = nx) (hi : i < kd_cnt A) (k : qa cst m nx ls (.ref (cl A' i') :: rest) σ Q) : qa cst m pc ls (.ref (cl A i) :: rest) σ Q := by
  subst hn
  refine qa_s hat rfl rfl (σ' := σ) ?_ k
  show (if cl A i < 5 then none else (match mj_fld (lay σ) (cl A i - 5) tag b with | some v => some (pc + 3, ls, v :: rest, lay σ) | none => none)) = _
  rw [if_neg (cl_ge A i), cl_sub, mj_fld_lay ht hi hb]
  simp [sv, hr]
theorem qa_put {A i idx tag b : Nat} {v : Int32} (hat : mj_at m pc = some (.putfield idx, tag, b)) (ht : kd_tag A = tag) (hb : b < kd_len A) (hr : kd_ref A i b = none) (hf : mj_fit tag b (.int v) = true) (hn : pc + 3 = nx) (hi : i < kd_cnt A) (k : qa cst m nx ls rest (up σ A i b v) Q) : qa cst m pc ls (.int v :: .ref (cl A i) :: rest) σ Q := by
  subst hn
  refine qa_s hat rfl rfl (σ' := up σ A i b v) ?_ k
  show (if cl A i < 5 then none else (match mj_fld (lay σ) (cl A i - 5) tag b with | some _ => if mj_fit tag b (.int v) = true then some (pc + 3, ls, rest, mj_wr (lay σ) (cl A i - 5) b (.int v)) else none | none => none)) = _
  rw [if_neg (cl_ge A i), cl_sub, mj_fld_lay ht hi hb]
  dsimp only
  rw [if_pos hf, lay_wr hi hr]
theorem mj_in_nI {k n : Nat} (h : k < n) (hn : n < 2 ^ 31) : mj_in (nI k) n = true := by
  unfold mj_in
  rw [nI_clamp (Nat.lt_trans h hn)]
  simp [nI_pos (Nat.lt_trans h hn), h]
theorem kd_len_small (A : Nat) : kd_len A < 2 ^ 31 := by
  unfold kd_len
  rw [List.getD_eq_getElem?_getD]
  cases h : kd_lens[A]? with
  | none => decide
  | some n =>
    have : ∀ n ∈ kd_lens, n < 2 ^ 31 := by decide +kernel
    exact this n (List.mem_of_getElem? h)
theorem mj_elt_lay {A i k tag : Nat} (ht : kd_tag A = tag) (hi : i < kd_cnt A) (hk : k < kd_len A) : mj_elt cst (lay σ) (cl A i) tag (nI k) = some (sv σ A i k) := by
  unfold mj_elt
  rw [if_neg (cl_ge A i), cl_sub, lay_get hi]
  dsimp only
  rw [if_pos ht, slo_len, if_pos (mj_in_nI hk (kd_len_small A)), nI_clamp (Nat.lt_trans hk (kd_len_small A)), slo_get hk]
theorem qa_iald {A i k a b : Nat} {x : Int32} (hat : mj_at m pc = some (.iaload, a, b)) (ht : kd_tag A = 20) (hn : pc + 1 = nx) (hr : kd_ref A i k = none) (hi : i < kd_cnt A) (hx : x = nI k) (hk : k < kd_len A) (kk : qa cst m nx ls (.int (σ A i k) :: rest) σ Q) : qa cst m pc ls (.int x :: .ref (cl A i) :: rest) σ Q := by
  subst hn; subst hx
  refine qa_s hat rfl rfl (σ' := σ) ?_ kk
  show (match mj_elt cst (lay σ) (cl A i) 20 (nI k) with | some (.int x) => some (pc + 1, ls, Value.int x :: rest, lay σ) | _ => none) = _
  rw [mj_elt_lay ht hi hk]
  simp [sv, hr]
theorem qa_zald {A i k a b : Nat} {x : Int32} (hat : mj_at m pc = some (.baload, a, b)) (ht : kd_tag A = 21) (hn : pc + 1 = nx) (hr : kd_ref A i k = none) (hi : i < kd_cnt A) (hx : x = nI k) (hk : k < kd_len A) (kk : qa cst m nx ls (.int (σ A i k) :: rest) σ Q) : qa cst m pc ls (.int x :: .ref (cl A i) :: rest) σ Q := by
  subst hn; subst hx
  refine qa_s hat rfl rfl (σ' := σ) ?_ kk
  show (if cl A i < 5 then none else (match mj_elt cst (lay σ) (cl A i) 21 (nI k) with | some (.int x) => some (pc + 1, ls, Value.int x :: rest, lay σ) | _ => none)) = _
  rw [if_neg (cl_ge A i), mj_elt_lay ht hi hk]
  simp [sv, hr]
theorem qa_aald {A i k a b A' i' : Nat} {x : Int32} (hat : mj_at m pc = some (.aaload, a, b)) (ht : 22 ≤ kd_tag A ∧ kd_tag A < 27) (hn : pc + 1 = nx) (hr : kd_ref A i k = some (A', i')) (hi : i < kd_cnt A) (hx : x = nI k) (hk : k < kd_len A) (kk : qa cst m nx ls (.ref (cl A' i') :: rest) σ Q) : qa cst m pc ls (.int x :: .ref (cl A i) :: rest) σ Q := by
  subst hn; subst hx
  refine qa_s hat rfl rfl (σ' := σ) ?_ kk
  show (if cl A i < 5 then none else (match (lay σ)[cl A i - 5]? with | some c => if 22 ≤ c.1 ∧ c.1 < 27 ∧ mj_in (nI k) c.2.length = true then (match c.2[(nI k).toNatClampNeg]? with | some (.ref x) => some (pc + 1, ls, Value.ref x :: rest, lay σ) | _ => none) else none | none => none)) = _
  rw [if_neg (cl_ge A i), cl_sub, lay_get hi]
  dsimp only
  rw [slo_len, if_pos ⟨ht.1, ht.2, mj_in_nI hk (kd_len_small A)⟩, nI_clamp (Nat.lt_trans hk (kd_len_small A)), slo_get hk]
  simp [sv, hr]
theorem qa_iast {A i k a b : Nat} {x v : Int32} (hat : mj_at m pc = some (.iastore, a, b)) (ht : kd_tag A = 20) (hn : pc + 1 = nx) (hr : kd_ref A i k = none) (hi : i < kd_cnt A) (hx : x = nI k) (hk : k < kd_len A) (kk : qa cst m nx ls rest (up σ A i k v) Q) : qa cst m pc ls (.int v :: .int x :: .ref (cl A i) :: rest) σ Q := by
  subst hn; subst hx
  refine qa_s hat rfl rfl (σ' := up σ A i k v) ?_ kk
  show (if cl A i < 5 then none else (match mj_elt cst (lay σ) (cl A i) 20 (nI k) with | some _ => some (pc + 1, ls, rest, mj_wr (lay σ) (cl A i - 5) (nI k).toNatClampNeg (.int v)) | none => none)) = _
  rw [if_neg (cl_ge A i), mj_elt_lay ht hi hk]
  dsimp only
  rw [cl_sub, nI_clamp (Nat.lt_trans hk (kd_len_small A)), lay_wr hi hr]
theorem qa_zast {A i k a b : Nat} {x v : Int32} (hat : mj_at m pc = some (.bastore, a, b)) (ht : kd_tag A = 21) (hn : pc + 1 = nx) (hr : kd_ref A i k = none) (hv : mj_bool v = true) (hi : i < kd_cnt A) (hx : x = nI k) (hk : k < kd_len A) (kk : qa cst m nx ls rest (up σ A i k v) Q) : qa cst m pc ls (.int v :: .int x :: .ref (cl A i) :: rest) σ Q := by
  subst hn; subst hx
  refine qa_s hat rfl rfl (σ' := up σ A i k v) ?_ kk
  show (if cl A i < 5 then none else (match mj_elt cst (lay σ) (cl A i) 21 (nI k) with | some _ => if mj_bool v = true then some (pc + 1, ls, rest, mj_wr (lay σ) (cl A i - 5) (nI k).toNatClampNeg (.int v)) else none | none => none)) = _
  rw [if_neg (cl_ge A i), mj_elt_lay ht hi hk]
  dsimp only
  rw [if_pos hv, cl_sub, nI_clamp (Nat.lt_trans hk (kd_len_small A)), lay_wr hi hr]
theorem qa_alen {A i a b : Nat} (hat : mj_at m pc = some (.arraylength, a, b)) (ht : 20 ≤ kd_tag A ∧ kd_tag A < 27) (hn : pc + 1 = nx) (hi : i < kd_cnt A) (kk : qa cst m nx ls (.int (nI (kd_len A)) :: rest) σ Q) : qa cst m pc ls (.ref (cl A i) :: rest) σ Q := by
  subst hn
  refine qa_s hat rfl rfl (σ' := σ) ?_ kk
  show (if cl A i < 5 then _ else (match (lay σ)[cl A i - 5]? with | some c => if 20 ≤ c.1 ∧ c.1 < 27 then some (pc + 1, ls, Value.int (Int32.ofNat c.2.length) :: rest, lay σ) else none | none => none)) = _
  rw [if_neg (cl_ge A i), cl_sub, lay_get hi]
  dsimp only
  rw [if_pos ht, slo_len]
  rfl
/-- an element of a table or of the script -/
theorem qa_tald {t k a b : Nat} {l : List Int32} {x : Int32} (hat : mj_at m pc = some (.iaload, a, b)) (hc : cst[t]? = some l) (ht : t < 5) (hn : pc + 1 = nx) (hx : x = nI k) (hk : k < l.length) (hl : l.length < 2 ^ 31) (kk : qa cst m nx ls (.int (l.getD k 0) :: rest) σ Q) : qa cst m pc ls (.int x :: .ref t :: rest) σ Q := by
  subst hn; subst hx
  refine qa_s hat rfl rfl (σ' := σ) ?_ kk
  show (match mj_elt cst (lay σ) t 20 (nI k) with | some (.int x) => some (pc + 1, ls, Value.int x :: rest, lay σ) | _ => none) = _
  unfold mj_elt
  rw [if_pos ht, hc]
  dsimp only
  rw [if_pos rfl, if_pos (mj_in_nI hk hl), nI_clamp (Nat.lt_trans hk hl)]
theorem qa_tlen {t a b : Nat} {l : List Int32} (hat : mj_at m pc = some (.arraylength, a, b)) (hc : cst[t]? = some l) (ht : t < 5) (hn : pc + 1 = nx) (kk : qa cst m nx ls (.int (nI l.length) :: rest) σ Q) : qa cst m pc ls (.ref t :: rest) σ Q := by
  subst hn
  refine qa_s hat rfl rfl (σ' := σ) ?_ kk
  show (if t < 5 then (match cst[t]? with | some l => some (pc + 1, ls, Value.int (Int32.ofNat l.length) :: rest, lay σ) | none => none) else _) = _
  rw [if_pos ht, hc]
  rfl
theorem qa_idiv {a b : Nat} {x y : Int32} (hat : mj_at m pc = some (.idiv, a, b)) (hy : ¬ y = 0) (hn : pc + 1 = nx) (kk : qa cst m nx ls (.int (x / y) :: rest) σ Q) : qa cst m pc ls (.int y :: .int x :: rest) σ Q := by
  subst hn
  refine qa_s hat rfl rfl (σ' := σ) ?_ kk
  show (if y = 0 then none else some (pc + 1, ls, Value.int (x / y) :: rest, lay σ)) = _
  rw [if_neg hy]
/-- a switch: in its table, beyond it -/
theorem qa_swi {d lo hi : Int} {offs : Array Int} {a b : Nat} {x : Int32} {off : Int} (hat : mj_at m pc = some (.tableswitch d lo hi offs, a, b)) (h1 : ¬ (x.toInt < lo ∨ hi < x.toInt)) (ho : offs[(x.toInt - lo).toNat]? = some off) (hn : mj_tgt pc off = nx) (kk : qa cst m nx ls rest σ Q) : qa cst m pc ls (.int x :: rest) σ Q := by
  subst hn
  refine qa_s hat rfl rfl (σ' := σ) ?_ kk
  show (if x.toInt < lo ∨ hi < x.toInt then _ else (match offs[(x.toInt - lo).toNat]? with | some off => some (mj_tgt pc off, ls, rest, lay σ) | none => none)) = _
  rw [if_neg h1, ho]
theorem qa_swo {d lo hi : Int} {offs : Array Int} {a b : Nat} {x : Int32} (hat : mj_at m pc = some (.tableswitch d lo hi offs, a, b)) (h1 : x.toInt < lo ∨ hi < x.toInt) (hn : mj_tgt pc d = nx) (kk : qa cst m nx ls rest σ Q) : qa cst m pc ls (.int x :: rest) σ Q := by
  subst hn
  refine qa_s hat rfl rfl (σ' := σ) ?_ kk
  show (if x.toInt < lo ∨ hi < x.toInt then some (mj_tgt pc d, ls, rest, lay σ) else _) = _
  rw [if_pos h1]
/-- a call of an instance method of a laid cell -/
theorem qa_callV {A i idx a b : Nat} {As : List Value} (hat : mj_at m pc = some (.invokevirtual idx, a, b)) (hsd : st.drop b = .ref (cl A i) :: rest) (has : (st.take b).reverse = As) (hb : b ≤ st.length) (hci : kd_tag A = mj_ci a) (hok : mj_argsOk a (.ref (cl A i) :: As) = true) (hrm : mj_room rest = true) (ha : ¬ a = 1000) (hn : pc + 3 = nx) (hi : i < kd_cnt A)
    (kk : qa cst a 0 (lv_args 0 (.ref (cl A i) :: As)) [] σ (fun r σ1 => qa cst m nx ls (r.toList ++ rest) σ1 Q)) : qa cst m pc ls st σ Q := by
  subst hn; subst has
  obtain ⟨n1, r, σ1, h1, n2, r2, σ2, h2, h3⟩ := kk
  refine ⟨max n1 n2 + 1, r2, σ2, ?_, h3⟩
  unfold mj_run
  rw [hat]; dsimp only
  rw [show mj_isRet (.invokevirtual idx) (mj_ret m) st = none by cases st <;> rfl]; dsimp only
  show (match st.drop b with
    | .ref k :: rest => if a = 1000 then _ else if b ≤ st.length ∧ 5 ≤ k ∧ ((lay σ)[k - 5]?).map (fun (c : Nat × List Value) => c.1) = some (mj_ci a) ∧ mj_argsOk a (.ref k :: (st.take b).reverse) = true ∧ mj_room rest = true then
        (match mj_run cst (max n1 n2) a 0 (lv_args 0 (.ref k :: (st.take b).reverse)) [] (lay σ) with
        | some (r, h') => mj_run cst (max n1 n2) m (pc + 3) ls (r.toList ++ rest) h'
        | none => none)
      else none
    | _ => none) = _
  rw [hsd]; dsimp only
  rw [if_neg ha, if_pos ⟨hb, Nat.le_of_not_lt (cl_ge A i), by rw [cl_sub, lay_get hi]; exact congrArg some hci, hok, hrm⟩, mj_run_le h1 (Nat.le_max_left _ _)]
  exact mj_run_le h2 (Nat.le_max_right _ _)
theorem qa_callS {idx a b : Nat} {As : List Value} (hat : mj_at m pc = some (.invokestatic idx, a, b)) (hsd : st.drop b = rest) (has : (st.take b).reverse = As) (hb : b ≤ st.length) (hok : mj_argsOk a As = true) (hrm : mj_room rest = true) (ha : ¬ a = 1001 ∧ ¬ a = 1002) (hn : pc + 3 = nx)
    (kk : qa cst a 0 (lv_args 0 As) [] σ (fun r σ1 => qa cst m nx ls (r.toList ++ rest) σ1 Q)) : qa cst m pc ls st σ Q := by
  subst hn; subst has; subst hsd
  obtain ⟨n1, r, σ1, h1, n2, r2, σ2, h2, h3⟩ := kk
  refine ⟨max n1 n2 + 1, r2, σ2, ?_, h3⟩
  unfold mj_run
  rw [hat]; dsimp only
  rw [show mj_isRet (.invokestatic idx) (mj_ret m) st = none by cases st <;> rfl]; dsimp only
  show (if a = 1001 then _ else if a = 1002 then _ else if b ≤ st.length ∧ mj_argsOk a (st.take b).reverse = true ∧ mj_room (st.drop b) = true then
            (match mj_run cst (max n1 n2) a 0 (lv_args 0 (st.take b).reverse) [] (lay σ) with
            | some (r, h') => mj_run cst (max n1 n2) m (pc + 3) ls (r.toList ++ st.drop b) h'
            | none => none)
          else none) = _
  rw [if_neg ha.1, if_neg ha.2, if_pos ⟨hb, hok, hrm⟩, mj_run_le h1 (Nat.le_max_left _ _)]
  exact mj_run_le h2 (Nat.le_max_right _ _)
theorem qa_max {idx b : Nat} {x y : Int32} (hat : mj_at m pc = some (.invokestatic idx, 1001, b)) (hrm : mj_room rest = true) (hn : pc + 3 = nx) (kk : qa cst m nx ls (.int (if x < y then y else x) :: rest) σ Q) : qa cst m pc ls (.int y :: .int x :: rest) σ Q := by
  subst hn
  obtain ⟨n, r, σ1, h1, h2⟩ := kk
  refine ⟨n + 1, r, σ1, ?_, h2⟩
  unfold mj_run
  rw [hat]; dsimp only
  show (if mj_room rest = true then mj_run cst n m (pc + 3) ls (.int (if x < y then y else x) :: rest) (lay σ) else none) = _
  rw [if_pos hrm]
  exact h1
theorem qa_min {idx b : Nat} {x y : Int32} (hat : mj_at m pc = some (.invokestatic idx, 1002, b)) (hrm : mj_room rest = true) (hn : pc + 3 = nx) (kk : qa cst m nx ls (.int (if y < x then y else x) :: rest) σ Q) : qa cst m pc ls (.int y :: .int x :: rest) σ Q := by
  subst hn
  obtain ⟨n, r, σ1, h1, h2⟩ := kk
  refine ⟨n + 1, r, σ1, ?_, h2⟩
  unfold mj_run
  rw [hat]; dsimp only
  show (if mj_room rest = true then mj_run cst n m (pc + 3) ls (.int (if y < x then y else x) :: rest) (lay σ) else none) = _
  rw [if_pos hrm]
  exact h1
end QA
