/-! More fuel does no harm; without tables and script no less. -/
theorem mj_elt_nil {cst : List (List Int32)} {h : mj_Hp} {k tag : Nat} {j : Int32} {v : Value} (he : mj_elt [] h k tag j = some v) : mj_elt cst h k tag j = some v := by
  by_cases hk : k < 5
  · obtain ⟨l, hc, -⟩ := mj_elt_cst hk he
    simp at hc
  · unfold mj_elt at he ⊢
    rw [if_neg hk] at he ⊢
    exact he
set_option maxHeartbeats 4000000 in
theorem mj_step_nil {cst : List (List Int32)} {i : Instr} {a b pc : Nat} {ls : mj_Ls} {st : List Value} {h : mj_Hp} {t : mj_Ms} (hs : mj_step [] i a b pc ls st h = some t) : mj_step cst i a b pc ls st h = some t := by
  cases i
  case iaload =>
    simp only [mj_step] at hs ⊢
    split at hs
    · split at hs
      · rename_i he
        rw [mj_elt_nil he]
        exact hs
      · cases hs
    · cases hs
  case baload =>
    simp only [mj_step] at hs ⊢
    split at hs
    · split at hs
      · cases hs
      · rename_i h5
        rw [if_neg h5]
        split at hs
        · rename_i he
          rw [mj_elt_nil he]
          exact hs
        · cases hs
    · cases hs
  case arraylength =>
    simp only [mj_step] at hs ⊢
    split at hs
    · split at hs
      · simp at hs
      · rename_i h5
        rw [if_neg h5]
        exact hs
    · cases hs
  case iastore =>
    simp only [mj_step] at hs ⊢
    split at hs
    · split at hs
      · cases hs
      · rename_i h5
        rw [if_neg h5]
        split at hs
        · rename_i he
          rw [mj_elt_nil he]
          exact hs
        · cases hs
    · cases hs
  case bastore =>
    simp only [mj_step] at hs ⊢
    split at hs
    · split at hs
      · cases hs
      · rename_i h5
        rw [if_neg h5]
        split at hs
        · rename_i he
          rw [mj_elt_nil he]
          exact hs
        · cases hs
    · cases hs
  all_goals exact hs
theorem mj_run_gen {c1 cst : List (List Int32)} (d : Nat) (hst : ∀ {i : Instr} {a b pc : Nat} {ls : mj_Ls} {st : List Value} {h : mj_Hp} {t : mj_Ms}, mj_step c1 i a b pc ls st h = some t → mj_step cst i a b pc ls st h = some t) : ∀ {n m pc : Nat} {ls : mj_Ls} {st : List Value} {h : mj_Hp} {x : Option Value × mj_Hp}, mj_run c1 n m pc ls st h = some x → mj_run cst (n + d) m pc ls st h = some x := by
  intro n
  induction n with
  | zero => intro m pc ls st h x hr; simp [mj_run] at hr
  | succ n ih =>
    intro m pc ls st h x hr
    rw [Nat.add_right_comm]
    unfold mj_run at hr
    unfold mj_run
    cases hat : mj_at m pc with
    | none => rw [hat] at hr; cases hr
    | some e =>
      obtain ⟨i, a, b⟩ := e
      rw [hat] at hr
      dsimp only at hr ⊢
      cases hret : mj_isRet i (mj_ret m) st with
      | some r => rw [hret] at hr; exact hr
      | none =>
        rw [hret] at hr
        dsimp only at hr ⊢
        have obj : ∀ kd : Nat, (match st.drop b with
            | .ref k :: rest => if a = 1000 then (if b = 0 ∧ kd = 0 ∧ mj_room rest = true then mj_run c1 n m (pc + 3) ls rest h else none)
              else if b ≤ st.length ∧ 5 ≤ k ∧ (h[k - 5]?).map (fun c => c.1) = some (mj_ci a) ∧ mj_argsOk a (.ref k :: (st.take b).reverse) = true ∧ mj_room rest = true then
                (match mj_run c1 n a 0 (lv_args 0 (.ref k :: (st.take b).reverse)) [] h with
                | some (r, h') => mj_run c1 n m (pc + 3) ls (r.toList ++ rest) h'
                | none => none)
              else none
            | _ => none) = some x → (match st.drop b with
            | .ref k :: rest => if a = 1000 then (if b = 0 ∧ kd = 0 ∧ mj_room rest = true then mj_run cst (n + d) m (pc + 3) ls rest h else none)
              else if b ≤ st.length ∧ 5 ≤ k ∧ (h[k - 5]?).map (fun c => c.1) = some (mj_ci a) ∧ mj_argsOk a (.ref k :: (st.take b).reverse) = true ∧ mj_room rest = true then
                (match mj_run cst (n + d) a 0 (lv_args 0 (.ref k :: (st.take b).reverse)) [] h with
                | some (r, h') => mj_run cst (n + d) m (pc + 3) ls (r.toList ++ rest) h'
                | none => none)
              else none
            | _ => none) = some x := by
          intro kd hr
          split at hr
          · rename_i k rest hsd
            split at hr
            · rename_i h1
              rw [if_pos h1]
              split at hr
              · rename_i h2
                rw [if_pos h2]
                exact ih hr
              · cases hr
            · rename_i h1
              rw [if_neg h1]
              split at hr
              · rename_i h2
                rw [if_pos h2]
                split at hr
                · rename_i r1 h3 hc
                  rw [ih hc]
                  exact ih hr
                · cases hr
              · cases hr
          · cases hr
        have sta : (if a = 1001 then (match st with
            | .int y :: .int x :: rest => if mj_room rest then mj_run c1 n m (pc + 3) ls (.int (if x < y then y else x) :: rest) h else none
            | _ => none)
          else if a = 1002 then (match st with
            | .int y :: .int x :: rest => if mj_room rest then mj_run c1 n m (pc + 3) ls (.int (if y < x then y else x) :: rest) h else none
            | _ => none)
          else if b ≤ st.length ∧ mj_argsOk a (st.take b).reverse = true ∧ mj_room (st.drop b) = true then
            (match mj_run c1 n a 0 (lv_args 0 (st.take b).reverse) [] h with
            | some (r, h') => mj_run c1 n m (pc + 3) ls (r.toList ++ st.drop b) h'
            | none => none)
          else none) = some x → (if a = 1001 then (match st with
            | .int y :: .int x :: rest => if mj_room rest then mj_run cst (n + d) m (pc + 3) ls (.int (if x < y then y else x) :: rest) h else none
            | _ => none)
          else if a = 1002 then (match st with
            | .int y :: .int x :: rest => if mj_room rest then mj_run cst (n + d) m (pc + 3) ls (.int (if y < x then y else x) :: rest) h else none
            | _ => none)
          else if b ≤ st.length ∧ mj_argsOk a (st.take b).reverse = true ∧ mj_room (st.drop b) = true then
            (match mj_run cst (n + d) a 0 (lv_args 0 (st.take b).reverse) [] h with
            | some (r, h') => mj_run cst (n + d) m (pc + 3) ls (r.toList ++ st.drop b) h'
            | none => none)
          else none) = some x := by
          intro hr
          split at hr
          · rename_i h1
            rw [if_pos h1]
            split at hr
            · split at hr
              · rename_i h2
                rw [if_pos h2]
                exact ih hr
              · cases hr
            · cases hr
          · rename_i h1
            rw [if_neg h1]
            split at hr
            · rename_i h1
              rw [if_pos h1]
              split at hr
              · split at hr
                · rename_i h2
                  rw [if_pos h2]
                  exact ih hr
                · cases hr
              · cases hr
            · rename_i h1
              rw [if_neg h1]
              split at hr
              · rename_i h2
                rw [if_pos h2]
                split at hr
                · rename_i r1 h3 hc
                  rw [ih hc]
                  exact ih hr
                · cases hr
              · cases hr
        cases hcall : mj_isCall i with
        | none =>
          rw [hcall] at hr
          dsimp only at hr ⊢
          cases hs : mj_step c1 i a b pc ls st h with
          | none => rw [hs] at hr; cases hr
          | some t =>
            obtain ⟨pc', ls', st', h'⟩ := t
            rw [hs] at hr
            rw [hst hs]
            exact ih hr
        | some kd =>
          rw [hcall] at hr
          match kd, hr with
          | 0, hr => exact obj 0 hr
          | 1, hr => exact obj 1 hr
          | 2, hr => exact sta hr
          | k + 3, hr => exact obj (k + 3) hr
theorem mj_run_mono {cst : List (List Int32)} {n m pc : Nat} {ls : mj_Ls} {st : List Value} {h : mj_Hp} {x : Option Value × mj_Hp} (hr : mj_run cst n m pc ls st h = some x) : mj_run cst (n + 1) m pc ls st h = some x := mj_run_gen 1 (fun hs => hs) hr
theorem mj_run_nil {cst : List (List Int32)} {n m pc : Nat} {ls : mj_Ls} {st : List Value} {h : mj_Hp} {x : Option Value × mj_Hp} (hr : mj_run [] n m pc ls st h = some x) : mj_run cst n m pc ls st h = some x := mj_run_gen 0 mj_step_nil hr
theorem mj_run_le {cst : List (List Int32)} {n k m pc : Nat} {ls : mj_Ls} {st : List Value} {h : mj_Hp} {x : Option Value × mj_Hp} (hr : mj_run cst n m pc ls st h = some x) (hk : n ≤ k) : mj_run cst k m pc ls st h = some x := by
  obtain ⟨d, rfl⟩ := Nat.le.dest hk
  clear hk
  induction d with
  | zero => exact hr
  | succ d ih => exact mj_run_mono ih
