theorem mj_elt_dyn {cst : List (List Int32)} {h : mj_Hp} {k tag : Nat} {j : Int32} {v : Value} (hk : ¬ k < 5) (he : mj_elt cst h k tag j = some v) : ∃ vs, h[k - 5]? = some (tag, vs) ∧ mj_in j vs.length = true ∧ vs[j.toNatClampNeg]? = some v := by
  unfold mj_elt at he
  rw [if_neg hk] at he
  cases hc : h[k - 5]? with
  | none => rw [hc] at he; cases he
  | some c =>
    rw [hc] at he
    dsimp only at he
    split at he
    · rename_i ht
      split at he
      · rename_i hj
        obtain ⟨c1, c2⟩ := c
        dsimp only at ht
        subst ht
        exact ⟨c2, rfl, hj, he⟩
      · cases he
    · cases he
theorem mj_elt_cst {cst : List (List Int32)} {h : mj_Hp} {k tag : Nat} {j : Int32} {v : Value} (hk : k < 5) (he : mj_elt cst h k tag j = some v) : ∃ l, cst[k]? = some l ∧ mj_in j l.length = true ∧ v = .int (l.getD j.toNatClampNeg 0) := by
  unfold mj_elt at he
  rw [if_pos hk] at he
  cases hc : cst[k]? with
  | none => rw [hc] at he; cases he
  | some l =>
    rw [hc] at he
    dsimp only at he
    split at he
    · split at he
      · rename_i hj
        cases he
        exact ⟨l, rfl, hj, rfl⟩
      · cases he
    · cases he
theorem mj_fld_some {h : mj_Hp} {k tag b : Nat} {v : Value} (he : mj_fld h k tag b = some v) : ∃ vs, h[k]? = some (tag, vs) ∧ vs[b]? = some v := by
  unfold mj_fld at he
  cases hc : h[k]? with
  | none => rw [hc] at he; cases he
  | some c =>
    rw [hc] at he
    dsimp only at he
    split at he
    · rename_i ht
      obtain ⟨c1, c2⟩ := c
      dsimp only at ht
      subst ht
      exact ⟨c2, rfl, he⟩
    · cases he
theorem mj_wr_some {h : mj_Hp} {k b tag : Nat} {vs : List Value} {v : Value} (hc : h[k]? = some (tag, vs)) : mj_wr h k b v = h.set k (tag, vs.set b v) := by
  unfold mj_wr
  rw [hc]
theorem mj_sl_set {h : mj_Hp} {k tag : Nat} {vs vs' : List Value} (hk : h[k]? = some (tag, vs)) (hl : vs'.length = vs.length) : mj_sl (h.set k (tag, vs')) = mj_sl h := by
  induction h generalizing k with
  | nil => simp at hk
  | cons c r ih =>
    cases k with
    | zero =>
      simp at hk
      subst hk
      simp [mj_sl, hl]
    | succ n =>
      simp at hk
      have h1 := ih hk
      unfold mj_sl at h1 ⊢
      rw [List.set_cons_succ, List.map_cons, List.sum_cons, h1, List.map_cons, List.sum_cons]
theorem mj_sl_push {h : mj_Hp} {tag : Nat} {vs : List Value} : mj_sl (h ++ [(tag, vs)]) = mj_sl h + vs.length := by
  simp [mj_sl]
theorem mj_tgt_eq {pc : Nat} {off : Int} (h : 0 ≤ (pc : Int) + off) : (pc : Int) + off = ((mj_tgt pc off : Nat) : Int) := by
  unfold mj_tgt
  omega
def mj_dec (mm pc : Nat) (i : Instr) : Prop := ∃ len, decode (mj_code mm) pc = .ok (i, len) ∧ (mj_len i = 0 ∨ len = mj_len i)
theorem mj_dec_len {mm pc : Nat} {i : Instr} (h : mj_dec mm pc i) {n : Nat} (hn : mj_len i = n + 1) : decode (mj_code mm) pc = .ok (i, n + 1) := by
  obtain ⟨len, h1, h2⟩ := h
  rcases h2 with h2 | h2
  · omega
  · rw [h1, h2, hn]
/-- what the words must say for an instruction -/
def mj_lk (mm pc : Nat) (i : Instr) (a b : Nat) : Prop := match i with
  | .istore_n k => (k : Nat) < mj_maxL mm
  | .istore k => k < mj_maxL mm
  | .astore_n k => (k : Nat) < mj_maxL mm
  | .astore k => k < mj_maxL mm
  | .lstore_n k => (k : Nat) + 1 < mj_maxL mm
  | .lstore k => k + 1 < mj_maxL mm
  | .iinc k _ => k < mj_maxL mm
  | .ifCond _ off => 0 ≤ (pc : Int) + off
  | .if_icmp _ off => 0 ≤ (pc : Int) + off
  | .goto off => 0 ≤ (pc : Int) + off
  | .tableswitch d _ _ offs => 0 ≤ (pc : Int) + d ∧ ∀ off ∈ offs.toList, 0 ≤ (pc : Int) + off
  | .ldc2_w idx => Cond.constantLong (mj_own mm) idx (Int64.ofNat a) ∈ mj_ws mm
  | .getfield idx => ∃ (C : String) (T : u_T) (N : Nat), a < 20 ∧ vwCl[a]? = some (C, T, N) ∧ b < N ∧ (∀ w ∈ u_ws C T N, w ∈ mj_ws mm) ∧ Cond.fieldLink (mj_own mm) idx (T b).1 (T b).2.1 (T b).2.2.1 ∈ mj_ws mm
  | .putfield idx => ∃ (C : String) (T : u_T) (N : Nat) (ty0 : Nat → FieldType) (ty : FieldType), a < 20 ∧ vwCl[a]? = some (C, T, N) ∧ b < N ∧ (∀ w ∈ u_ws C T N, w ∈ mj_ws mm) ∧ Cond.fieldLink (mj_own mm) idx (T b).1 (T b).2.1 (T b).2.2.1 ∈ mj_ws mm ∧
      (∀ k, k < N → parseFieldDescriptor (T k).2.2.1 = some (ty0 k)) ∧ (∀ a, a < N → ∀ b, b < N → a ≠ b → (T a).2.1 ≠ (T b).2.1) ∧ ((T b).2.2.2 = false ∨ ((T b).2.2.2 = true ∧ mj_init mm = true ∧ (T b).1 = mj_own mm)) ∧ parseFieldDescriptor (T b).2.2.1 = some ty ∧ mj_fty a b = mj_kind ty
  | .getstatic idx => (1 ≤ a ∧ a < 5) ∧ (Cond.fieldLink (mj_own mm) idx mj_SC (mj_SN a) "[I" ∈ mj_ws mm ∨ ∃ host, Cond.fieldLinkNest (mj_own mm) idx mj_SC (mj_SN a) "[I" host ∈ mj_bad)
  | .new idx => ∃ (C : String) (T : u_T) (N : Nat) (ty : Nat → FieldType), a < 20 ∧ vwCl[a]? = some (C, T, N) ∧ (∀ w ∈ u_ws C T N, w ∈ mj_ws mm) ∧ (∀ k, k < N → parseFieldDescriptor (T k).2.2.1 = some (ty k)) ∧ Cond.classLink (mj_own mm) idx C ∈ mj_ws mm ∧ Cond.instantiable C N ∈ mj_ws mm ∧ Cond.initialized C ∈ mj_ws mm ∧ (mj_blank a).length = N ∧ (∀ v ∈ mj_blank a, ∀ k, v ≠ .ref k) ∧ ∀ j, j < N → defaultValue (ty j) = vp_V (mj_blank a) j
  | .newarray at_ => Cond.arrayClass (newarray.typeOf at_) ∈ mj_ws mm ∧ ((a = 20 ∧ at_ = .int) ∨ (a = 21 ∧ at_ = .boolean))
  | .anewarray idx => ∃ C : String, 22 ≤ a ∧ a < 26 ∧ mj_ty a = .object C ∧ Cond.classLink (mj_own mm) idx C ∈ mj_ws mm ∧ Cond.arrayOver (.object C) ∈ mj_bad
  | .multianewarray idx d => d = 2 ∧ a = 26 ∧ Cond.classLink (mj_own mm) idx "[[I" ∈ mj_ws mm ∧ Cond.arrayOver (.array .int) ∈ mj_bad ∧ Cond.arrayClass .int ∈ mj_ws mm
  | _ => True
theorem mj_blank_tr {sz0 : Nat} {ad : Nat → Nat} {l : List Value} (h : ∀ v ∈ l, ∀ k, v ≠ .ref k) : l.map (mj_tr sz0 ad) = l := by
  induction l with
  | nil => rfl
  | cons v r ih =>
    rw [List.map_cons, ih (fun w hw => h w (List.mem_cons_of_mem _ hw))]
    have := h v List.mem_cons_self
    cases v <;> first | rfl | exact absurd rfl (this _)
theorem mj_tys_at (E : Nat → ClassId) {tag : Nat} (h1 : 20 ≤ tag) (h2 : tag < 27) : (mj_tys E)[tag - 20]? = some (E tag, mj_ty tag) := by
  have : tag = 20 ∨ tag = 21 ∨ tag = 22 ∨ tag = 23 ∨ tag = 24 ∨ tag = 25 ∨ tag = 26 := by omega
  rcases this with rfl | rfl | rfl | rfl | rfl | rfl | rfl <;> rfl
theorem mj_ty_ref {tag : Nat} (h1 : 22 ≤ tag) (h2 : tag < 27) : (mj_ty tag).isReference = true := by
  have : tag = 22 ∨ tag = 23 ∨ tag = 24 ∨ tag = 25 ∨ tag = 26 := by omega
  rcases this with rfl | rfl | rfl | rfl | rfl <;> rfl
theorem mj_comp_ty {tag ci : Nat} (h1 : 22 ≤ tag) (h : mj_comp tag = ci) (hc : ci < 20) : tag < 27 ∧ ∃ r, vwCl[ci]? = some r ∧ mj_ty tag = .object r.1 := by
  subst h
  have : tag = 22 ∨ tag = 23 ∨ tag = 24 ∨ tag = 25 ∨ 26 ≤ tag := by omega
  rcases this with rfl | rfl | rfl | rfl | h
  · exact ⟨by decide, _, rfl, rfl⟩
  · exact ⟨by decide, _, rfl, rfl⟩
  · exact ⟨by decide, _, rfl, rfl⟩
  · exact ⟨by decide, _, rfl, rfl⟩
  · exfalso
    unfold mj_comp at hc
    split at hc <;> omega
/-- what a field of that kind takes -/
theorem mj_fit_ok {sz0 : Nat} {ad : Nat → Nat} {a b : Nat} {v : Value} {ty : FieldType} (h : mj_fit a b v = true) (hk : mj_fty a b = mj_kind ty) : narrow ty (mj_tr sz0 ad v) = mj_tr sz0 ad v ∧ fits ty (mj_tr sz0 ad v) = true := by
  unfold mj_fit at h
  rw [hk] at h
  cases ty <;> simp only [mj_kind] at h <;> cases v <;> simp_all [mj_tr, narrow, fits, mj_bool]
  all_goals (rcases h with h | h <;> subst h <;> decide)
