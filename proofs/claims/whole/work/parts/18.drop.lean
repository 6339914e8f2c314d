/-! Fewer locals known: what is shown of them holds with more. -/
abbrev mj_nd (ls : mj_Ls) : Prop := (ls.map Prod.fst).Nodup
theorem mj_get_of {ls : mj_Ls} {i : Nat} {v : Value} (hn : mj_nd ls) (h : (i, v) ∈ ls) : mj_get ls i = some v := by
  induction ls with
  | nil => cases h
  | cons q r ih =>
    unfold mj_get
    have hn' : q.1 ∉ r.map Prod.fst ∧ (r.map Prod.fst).Nodup := List.nodup_cons.mp hn
    rcases List.mem_cons.mp h with h | h
    · subst h
      rw [if_pos rfl]
    · have hne : q.1 ≠ i := fun e => hn'.1 (e ▸ List.mem_map.mpr ⟨(i, v), h, rfl⟩)
      rw [if_neg hne]
      exact ih hn'.2 h
theorem mj_put_self {keep : Nat × Value → Bool} {i : Nat} {v : Value} (ls : mj_Ls) : (i, v) ∈ mj_put keep i v ls := by
  induction ls with
  | nil => exact List.mem_cons_self
  | cons q r ih =>
    unfold mj_put
    split
    · exact List.mem_cons_self
    · split
      · exact List.mem_cons_of_mem _ ih
      · exact ih
theorem mj_put_in {keep : Nat × Value → Bool} {i : Nat} {v : Value} {ls : mj_Ls} {q : Nat × Value} (h : q ∈ ls) (hk : keep q = true) (hi : q.1 ≠ i) : q ∈ mj_put keep i v ls := by
  induction ls with
  | nil => cases h
  | cons x r ih =>
    unfold mj_put
    rcases List.mem_cons.mp h with h | h
    · subst h
      rw [if_neg hi, if_pos hk]
      exact List.mem_cons_self
    · split
      · exact List.mem_cons_of_mem _ (List.mem_filter.mpr ⟨h, hk⟩)
      · split
        · exact List.mem_cons_of_mem _ (ih h)
        · exact ih h
theorem mj_put_key {keep : Nat × Value → Bool} {i : Nat} {v : Value} {ls : mj_Ls} {q : Nat × Value} (h : q ∈ mj_put keep i v ls) : q.1 = i ∨ q ∈ ls := by
  rcases mj_put_mem h with h | h
  · exact Or.inl (by rw [h])
  · exact Or.inr h.1
theorem mj_put_nd {keep : Nat × Value → Bool} {i : Nat} {v : Value} {ls : mj_Ls} (hn : mj_nd ls) : mj_nd (mj_put keep i v ls) := by
  induction ls with
  | nil => exact List.nodup_cons.mpr ⟨List.not_mem_nil, List.nodup_nil⟩
  | cons x r ih =>
    have hn' : x.1 ∉ r.map Prod.fst ∧ (r.map Prod.fst).Nodup := List.nodup_cons.mp hn
    unfold mj_put
    split
    · rename_i hx
      refine List.nodup_cons.mpr ⟨fun hm => ?_, ?_⟩
      · obtain ⟨q, hq, he⟩ := List.mem_map.mp hm
        have he' : q.1 = x.1 := he.trans hx.symm
        exact hn'.1 (he' ▸ List.mem_map.mpr ⟨q, (List.mem_filter.mp hq).1, rfl⟩)
      · exact List.Sublist.nodup (List.Sublist.map _ List.filter_sublist) hn'.2
    · rename_i hx
      split
      · refine List.nodup_cons.mpr ⟨fun hm => ?_, ih hn'.2⟩
        obtain ⟨q, hq, he⟩ := List.mem_map.mp hm
        rcases mj_put_key hq with h | h
        · exact hx (he.symm.trans h)
        · exact hn'.1 (he ▸ List.mem_map.mpr ⟨q, h, rfl⟩)
      · exact ih hn'.2
theorem mj_put_sub {keep : Nat × Value → Bool} {i : Nat} (hkeep : ∀ q, keep q = true → q.1 ≠ i) {v : Value} {l1 l2 : mj_Ls} (hs : ∀ q ∈ l1, q ∈ l2) : ∀ q ∈ mj_put keep i v l1, q ∈ mj_put keep i v l2 := by
  intro q hq
  rcases mj_put_mem hq with h | ⟨h1, h2⟩
  · rw [h]; exact mj_put_self _
  · exact mj_put_in (hs q h1) h2 (hkeep q h2)
theorem mj_keep1_ne {i : Nat} (q : Nat × Value) (h : mj_keep1 i q = true) : q.1 ≠ i := by
  intro e
  simp [mj_keep1, e] at h
theorem mj_keep2_ne {i : Nat} (q : Nat × Value) (h : mj_keep2 i q = true) : q.1 ≠ i := by
  intro e
  simp [mj_keep2, e] at h
set_option maxHeartbeats 4000000 in
theorem mj_step_loc {cst : List (List Int32)} {i : Instr} {a b pc : Nat} {l1 l2 : mj_Ls} {st : List Value} {h : mj_Hp} {t : mj_Ms} (hs : mj_step cst i a b pc l1 st h = some t) (hsub : ∀ q ∈ l1, q ∈ l2) (hn : mj_nd l2) :
    ∃ l2', mj_step cst i a b pc l2 st h = some (t.1, l2', t.2.2) ∧ (∀ q ∈ t.2.1, q ∈ l2') ∧ mj_nd l2' := by
  have G : ∀ {k : Nat} {v : Value}, mj_get l1 k = some v → mj_get l2 k = some v := fun h => mj_get_of hn (hsub _ (mj_get_mem h))
  unfold mj_step at hs
  split at hs
  all_goals try (cases hs; exact ⟨l2, rfl, hsub, hn⟩)
  all_goals try (split at hs <;> first | (cases hs; done) | (cases hs; exact ⟨l2, rfl, hsub, hn⟩))
  all_goals try (split at hs <;> first | (cases hs; done) | (rename_i hg; cases hs; exact ⟨l2, by simp only [mj_step, G hg], hsub, hn⟩))
  all_goals try (split at hs <;> first | (cases hs; done) | (cases hs; exact ⟨_, rfl, mj_put_sub mj_keep1_ne hsub, mj_put_nd hn⟩))
  all_goals try (split at hs <;> first | (cases hs; done) | (cases hs; exact ⟨_, rfl, mj_put_sub mj_keep2_ne hsub, mj_put_nd hn⟩))
  all_goals try (split at hs <;> first | (cases hs; done) | (rename_i hg; cases hs; exact ⟨_, by simp only [mj_step, G hg]; rfl, mj_put_sub mj_keep1_ne hsub, mj_put_nd hn⟩))
  all_goals (unfold mj_step; try dsimp only)
  all_goals (repeat' (split at hs))
  all_goals first
    | (cases hs; done)
    | (cases hs; exact ⟨l2, by first | rfl | (simp_all; done) | (simp_all; intro hc; omega) | (simp_all; intro hc; exact absurd hc (Nat.not_lt.mpr (by assumption))), hsub, hn⟩)
theorem mj_run_loc {cst : List (List Int32)} : ∀ {n m pc : Nat} {l1 l2 : mj_Ls} {st : List Value} {h : mj_Hp} {x : Option Value × mj_Hp}, mj_run cst n m pc l1 st h = some x → (∀ q ∈ l1, q ∈ l2) → mj_nd l2 → mj_run cst n m pc l2 st h = some x := by
  intro n
  induction n with
  | zero => intro m pc l1 l2 st h x hr; simp [mj_run] at hr
  | succ n ih =>
    intro m pc l1 l2 st h x hr hsub hnd
    unfold mj_run at hr
    unfold mj_run
    cases hat : mj_at m pc with
    | none => rw [hat] at hr; cases hr
    | some e =>
      obtain ⟨i, a, b⟩ := e
      rw [hat] at hr
      dsimp only at hr ⊢
      cases hret : mj_isRet i (mj_ret m) st with
      | some r => rw [hret] at hr; exact hr
      | none =>
        rw [hret] at hr
        dsimp only at hr ⊢
        have obj : ∀ kd : Nat, (match st.drop b with
            | .ref k :: rest => if a = 1000 then (if b = 0 ∧ kd = 0 ∧ mj_room rest = true then mj_run cst n m (pc + 3) l1 rest h else none)
              else if b ≤ st.length ∧ 5 ≤ k ∧ (h[k - 5]?).map (fun c => c.1) = some (mj_ci a) ∧ mj_argsOk a (.ref k :: (st.take b).reverse) = true ∧ mj_room rest = true then
                (match mj_run cst n a 0 (lv_args 0 (.ref k :: (st.take b).reverse)) [] h with
                | some (r, h') => mj_run cst n m (pc + 3) l1 (r.toList ++ rest) h'
                | none => none)
              else none
            | _ => none) = some x → (match st.drop b with
            | .ref k :: rest => if a = 1000 then (if b = 0 ∧ kd = 0 ∧ mj_room rest = true then mj_run cst n m (pc + 3) l2 rest h else none)
              else if b ≤ st.length ∧ 5 ≤ k ∧ (h[k - 5]?).map (fun c => c.1) = some (mj_ci a) ∧ mj_argsOk a (.ref k :: (st.take b).reverse) = true ∧ mj_room rest = true then
                (match mj_run cst n a 0 (lv_args 0 (.ref k :: (st.take b).reverse)) [] h with
                | some (r, h') => mj_run cst n m (pc + 3) l2 (r.toList ++ rest) h'
                | none => none)
              else none
            | _ => none) = some x := by
          intro kd hr
          split at hr
          · split at hr
            · rename_i h1
              rw [if_pos h1]
              split at hr
              · rename_i h2
                rw [if_pos h2]
                exact ih hr hsub hnd
              · cases hr
            · rename_i h1
              rw [if_neg h1]
              split at hr
              · rename_i h2
                rw [if_pos h2]
                split at hr
                · exact ih hr hsub hnd
                · cases hr
              · cases hr
          · cases hr
        have sta : (if a = 1001 then (match st with
            | .int y :: .int x :: rest => if mj_room rest then mj_run cst n m (pc + 3) l1 (.int (if x < y then y else x) :: rest) h else none
            | _ => none)
          else if a = 1002 then (match st with
            | .int y :: .int x :: rest => if mj_room rest then mj_run cst n m (pc + 3) l1 (.int (if y < x then y else x) :: rest) h else none
            | _ => none)
          else if b ≤ st.length ∧ mj_argsOk a (st.take b).reverse = true ∧ mj_room (st.drop b) = true then
            (match mj_run cst n a 0 (lv_args 0 (st.take b).reverse) [] h with
            | some (r, h') => mj_run cst n m (pc + 3) l1 (r.toList ++ st.drop b) h'
            | none => none)
          else none) = some x → (if a = 1001 then (match st with
            | .int y :: .int x :: rest => if mj_room rest then mj_run cst n m (pc + 3) l2 (.int (if x < y then y else x) :: rest) h else none
            | _ => none)
          else if a = 1002 then (match st with
            | .int y :: .int x :: rest => if mj_room rest then mj_run cst n m (pc + 3) l2 (.int (if y < x then y else x) :: rest) h else none
            | _ => none)
          else if b ≤ st.length ∧ mj_argsOk a (st.take b).reverse = true ∧ mj_room (st.drop b) = true then
            (match mj_run cst n a 0 (lv_args 0 (st.take b).reverse) [] h with
            | some (r, h') => mj_run cst n m (pc + 3) l2 (r.toList ++ st.drop b) h'
            | none => none)
          else none) = some x := by
          intro hr
          split at hr
          · rename_i h1
            rw [if_pos h1]
            split at hr
            · split at hr
              · rename_i h2
                rw [if_pos h2]
                exact ih hr hsub hnd
              · cases hr
            · cases hr
          · rename_i h1
            rw [if_neg h1]
            split at hr
            · rename_i h1
              rw [if_pos h1]
              split at hr
              · split at hr
                · rename_i h2
                  rw [if_pos h2]
                  exact ih hr hsub hnd
                · cases hr
              · cases hr
            · rename_i h1
              rw [if_neg h1]
              split at hr
              · rename_i h2
                rw [if_pos h2]
                split at hr
                · exact ih hr hsub hnd
                · cases hr
              · cases hr
        cases hcall : mj_isCall i with
        | none =>
          rw [hcall] at hr
          dsimp only at hr ⊢
          cases hs : mj_step cst i a b pc l1 st h with
          | none => rw [hs] at hr; cases hr
          | some t =>
            obtain ⟨l3, g1, g2, g3⟩ := mj_step_loc hs hsub hnd
            obtain ⟨pc', ls', st', h'⟩ := t
            rw [hs] at hr
            rw [g1]
            exact ih hr g2 g3
        | some kd =>
          rw [hcall] at hr
          match kd, hr with
          | 0, hr => exact obj 0 hr
          | 1, hr => exact obj 1 hr
          | 2, hr => exact sta hr
          | k + 3, hr => exact obj (k + 3) hr
theorem qa_drop {cst : List (List Int32)} {m pc : Nat} {l1 l2 : mj_Ls} {st : List Value} {σ : sg} {Q : Option Value → sg → Prop} (hsub : ∀ q ∈ l1, q ∈ l2) (hnd : mj_nd l2) (h : qa cst m pc l1 st σ Q) : qa cst m pc l2 st σ Q := by
  obtain ⟨n, r, σ', h1, h2⟩ := h
  exact ⟨n, r, σ', mj_run_loc h1 hsub hnd, h2⟩
