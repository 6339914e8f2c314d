/-! The same rules where the numbers are small naturals: nI k. -/
section QN
variable {cst : List (List Int32)} {m pc nx : Nat} {ls : mj_Ls} {st rest : List Value} {σ : sg} {Q : Option Value → sg → Prop}
theorem qa_ic {n : Int} {v : Int32} {a b : Nat} (hat : mj_at m pc = some (.iconst n, a, b)) (hv : Int32.ofInt n = v) (hn : pc + 1 = nx) (k : qa cst m nx ls (.int v :: st) σ Q) : qa cst m pc ls st σ Q := by
  subst hn; subst hv
  exact qa_s hat (by cases st <;> rfl) rfl rfl k
theorem qa_bi {n : Int} {v : Int32} {a b : Nat} (hat : mj_at m pc = some (.bipush n, a, b)) (hv : (Int8.ofInt n).toInt32 = v) (hn : pc + 2 = nx) (k : qa cst m nx ls (.int v :: st) σ Q) : qa cst m pc ls st σ Q := by
  subst hn; subst hv
  exact qa_s hat (by cases st <;> rfl) rfl rfl k
theorem qa_si {n : Int} {v : Int32} {a b : Nat} (hat : mj_at m pc = some (.sipush n, a, b)) (hv : (Int16.ofInt n).toInt32 = v) (hn : pc + 3 = nx) (k : qa cst m nx ls (.int v :: st) σ Q) : qa cst m pc ls st σ Q := by
  subst hn; subst hv
  exact qa_s hat (by cases st <;> rfl) rfl rfl k
theorem qa_addN {x y a b : Nat} (hat : mj_at m pc = some (.iadd, a, b)) (hn : pc + 1 = nx) (k : qa cst m nx ls (.int (nI (x + y)) :: rest) σ Q) : qa cst m pc ls (.int (nI y) :: .int (nI x) :: rest) σ Q := by
  subst hn
  refine qa_s hat rfl rfl (σ' := σ) ?_ k
  show some (pc + 1, ls, Value.int (nI x + nI y) :: rest, lay σ) = _
  rw [nI_add]
theorem qa_mulN {x y a b : Nat} (hat : mj_at m pc = some (.imul, a, b)) (hn : pc + 1 = nx) (k : qa cst m nx ls (.int (nI (x * y)) :: rest) σ Q) : qa cst m pc ls (.int (nI y) :: .int (nI x) :: rest) σ Q := by
  subst hn
  refine qa_s hat rfl rfl (σ' := σ) ?_ k
  show some (pc + 1, ls, Value.int (nI x * nI y) :: rest, lay σ) = _
  rw [pk_mul]
theorem qa_subN {x y a b : Nat} (hat : mj_at m pc = some (.isub, a, b)) (hn : pc + 1 = nx) (hxy : y ≤ x) (k : qa cst m nx ls (.int (nI (x - y)) :: rest) σ Q) : qa cst m pc ls (.int (nI y) :: .int (nI x) :: rest) σ Q := by
  subst hn
  refine qa_s hat rfl rfl (σ' := σ) ?_ k
  show some (pc + 1, ls, Value.int (nI x - nI y) :: rest, lay σ) = _
  rw [pk_sub hxy]
theorem qa_incN {v c x a b : Nat} {n : Int} {ls' : mj_Ls} (hat : mj_at m pc = some (.iinc v n, a, b)) (hc : Int32.ofInt n = nI c) (hg : mj_get ls v = some (.int (nI x))) (hl : mj_set1 ls v (.int (nI (x + c))) = ls') (hn : pc + 3 = nx) (k : qa cst m nx ls' st σ Q) : qa cst m pc ls st σ Q := by
  subst hn; subst hl
  refine qa_s hat (by cases st <;> rfl) rfl (σ' := σ) ?_ k
  show (match mj_get ls v with | some (.int x) => some (pc + 3, mj_set1 ls v (.int (x + Int32.ofInt n)), st, lay σ) | _ => none) = _
  rw [hg, hc]
  dsimp only
  rw [nI_add]
theorem nI_inj {a b : Nat} (ha : a < 2 ^ 31) (hb : b < 2 ^ 31) : nI a = nI b ↔ a = b := nI_eq ha hb
theorem qn_icmp_eq {off : Int} {a b tg x y : Nat} (hat : mj_at m pc = some (.if_icmp .eq off, a, b)) (ht : mj_tgt pc off = tg) (hn : pc + 3 = nx) (hx : x < 2 ^ 31) (hy : y < 2 ^ 31) (kt : x = y → qa cst m tg ls rest σ Q) (kf : x ≠ y → qa cst m nx ls rest σ Q) : qa cst m pc ls (.int (nI y) :: .int (nI x) :: rest) σ Q :=
  qa_icmp_eq hat ht hn (fun h => kt ((nI_eq hx hy).mp h)) (fun h => kf (fun e => h (e ▸ rfl)))
theorem qn_icmp_ne {off : Int} {a b tg x y : Nat} (hat : mj_at m pc = some (.if_icmp .ne off, a, b)) (ht : mj_tgt pc off = tg) (hn : pc + 3 = nx) (hx : x < 2 ^ 31) (hy : y < 2 ^ 31) (kt : x ≠ y → qa cst m tg ls rest σ Q) (kf : x = y → qa cst m nx ls rest σ Q) : qa cst m pc ls (.int (nI y) :: .int (nI x) :: rest) σ Q :=
  qa_icmp_ne hat ht hn (fun h => kt (fun e => h (e ▸ rfl))) (fun h => kf ((nI_eq hx hy).mp h))
theorem qn_icmp_lt {off : Int} {a b tg x y : Nat} (hat : mj_at m pc = some (.if_icmp .lt off, a, b)) (ht : mj_tgt pc off = tg) (hn : pc + 3 = nx) (hx : x < 2 ^ 31) (hy : y < 2 ^ 31) (kt : x < y → qa cst m tg ls rest σ Q) (kf : y ≤ x → qa cst m nx ls rest σ Q) : qa cst m pc ls (.int (nI y) :: .int (nI x) :: rest) σ Q :=
  qa_icmp_lt hat ht hn (fun h => kt ((nI_ltI hx hy).mp h)) (fun h => kf (by have := mt (nI_ltI hx hy).mpr h; omega))
theorem qn_icmp_ge {off : Int} {a b tg x y : Nat} (hat : mj_at m pc = some (.if_icmp .ge off, a, b)) (ht : mj_tgt pc off = tg) (hn : pc + 3 = nx) (hx : x < 2 ^ 31) (hy : y < 2 ^ 31) (kt : y ≤ x → qa cst m tg ls rest σ Q) (kf : x < y → qa cst m nx ls rest σ Q) : qa cst m pc ls (.int (nI y) :: .int (nI x) :: rest) σ Q :=
  qa_icmp_ge hat ht hn (fun h => kt ((nI_leI hy hx).mp h)) (fun h => kf (by have := mt (nI_leI hy hx).mpr h; omega))
theorem qn_icmp_gt {off : Int} {a b tg x y : Nat} (hat : mj_at m pc = some (.if_icmp .gt off, a, b)) (ht : mj_tgt pc off = tg) (hn : pc + 3 = nx) (hx : x < 2 ^ 31) (hy : y < 2 ^ 31) (kt : y < x → qa cst m tg ls rest σ Q) (kf : x ≤ y → qa cst m nx ls rest σ Q) : qa cst m pc ls (.int (nI y) :: .int (nI x) :: rest) σ Q :=
  qa_icmp_gt hat ht hn (fun h => kt ((nI_ltI hy hx).mp h)) (fun h => kf (by have := mt (nI_ltI hy hx).mpr h; omega))
theorem qn_icmp_le {off : Int} {a b tg x y : Nat} (hat : mj_at m pc = some (.if_icmp .le off, a, b)) (ht : mj_tgt pc off = tg) (hn : pc + 3 = nx) (hx : x < 2 ^ 31) (hy : y < 2 ^ 31) (kt : x ≤ y → qa cst m tg ls rest σ Q) (kf : y < x → qa cst m nx ls rest σ Q) : qa cst m pc ls (.int (nI y) :: .int (nI x) :: rest) σ Q :=
  qa_icmp_le hat ht hn (fun h => kt ((nI_leI hx hy).mp h)) (fun h => kf (by have := mt (nI_leI hx hy).mpr h; omega))
theorem nI_eq0 {x : Nat} (hx : x < 2 ^ 31) : nI x = 0 ↔ x = 0 := nI_eq hx (by decide)
theorem nI_le0 {x : Nat} (hx : x < 2 ^ 31) : nI x ≤ 0 ↔ x = 0 := (nI_leI (b := 0) hx (by decide)).trans (by omega)
theorem nI_0lt {x : Nat} (hx : x < 2 ^ 31) : 0 < nI x ↔ 0 < x := nI_ltI (a := 0) (by decide) hx
theorem qn_if_eq {off : Int} {a b tg x : Nat} (hat : mj_at m pc = some (.ifCond .eq off, a, b)) (ht : mj_tgt pc off = tg) (hn : pc + 3 = nx) (hx : x < 2 ^ 31) (kt : x = 0 → qa cst m tg ls rest σ Q) (kf : 0 < x → qa cst m nx ls rest σ Q) : qa cst m pc ls (.int (nI x) :: rest) σ Q :=
  qa_if_eq hat ht hn (fun h => kt ((nI_eq0 hx).mp h)) (fun h => kf (Nat.pos_of_ne_zero (fun e => h ((nI_eq0 hx).mpr e))))
theorem qn_if_ne {off : Int} {a b tg x : Nat} (hat : mj_at m pc = some (.ifCond .ne off, a, b)) (ht : mj_tgt pc off = tg) (hn : pc + 3 = nx) (hx : x < 2 ^ 31) (kt : 0 < x → qa cst m tg ls rest σ Q) (kf : x = 0 → qa cst m nx ls rest σ Q) : qa cst m pc ls (.int (nI x) :: rest) σ Q :=
  qa_if_ne hat ht hn (fun h => kt (Nat.pos_of_ne_zero (fun e => h ((nI_eq0 hx).mpr e)))) (fun h => kf ((nI_eq0 hx).mp h))
theorem qn_if_lt {off : Int} {a b tg x : Nat} (hat : mj_at m pc = some (.ifCond .lt off, a, b)) (ht : mj_tgt pc off = tg) (hn : pc + 3 = nx) (hx : x < 2 ^ 31) (kf : qa cst m nx ls rest σ Q) : qa cst m pc ls (.int (nI x) :: rest) σ Q :=
  qa_if_lt hat ht hn (fun h => absurd h (nI_pos hx)) (fun _ => kf)
theorem qn_if_ge {off : Int} {a b tg x : Nat} (hat : mj_at m pc = some (.ifCond .ge off, a, b)) (ht : mj_tgt pc off = tg) (hn : pc + 3 = nx) (hx : x < 2 ^ 31) (kt : qa cst m tg ls rest σ Q) : qa cst m pc ls (.int (nI x) :: rest) σ Q :=
  qa_if_ge hat ht hn (fun _ => kt) (fun h => absurd (nI_pos' hx) h)
theorem qn_if_gt {off : Int} {a b tg x : Nat} (hat : mj_at m pc = some (.ifCond .gt off, a, b)) (ht : mj_tgt pc off = tg) (hn : pc + 3 = nx) (hx : x < 2 ^ 31) (kt : 0 < x → qa cst m tg ls rest σ Q) (kf : x = 0 → qa cst m nx ls rest σ Q) : qa cst m pc ls (.int (nI x) :: rest) σ Q :=
  qa_if_gt hat ht hn (fun h => kt ((nI_0lt hx).mp h)) (fun h => kf (Nat.eq_zero_of_not_pos (fun e => h ((nI_0lt hx).mpr e))))
theorem qn_if_le {off : Int} {a b tg x : Nat} (hat : mj_at m pc = some (.ifCond .le off, a, b)) (ht : mj_tgt pc off = tg) (hn : pc + 3 = nx) (hx : x < 2 ^ 31) (kt : x = 0 → qa cst m tg ls rest σ Q) (kf : 0 < x → qa cst m nx ls rest σ Q) : qa cst m pc ls (.int (nI x) :: rest) σ Q :=
  qa_if_le hat ht hn (fun h => kt ((nI_le0 hx).mp h)) (fun h => kf (Nat.pos_of_ne_zero (fun e => h ((nI_le0 hx).mpr e))))
end QN
