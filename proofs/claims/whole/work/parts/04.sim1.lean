/-! The cells of the small heap in the machine's heap: cell k of the list lies at address sz0 + k. -/
def mj_tr (sz0 : Nat) (ad : Nat → Nat) (v : Value) : Value := match v with
  | .ref k => .ref (if k < 5 then ad k else sz0 + (k - 5))
  | v => v
def mj_int (v : Value) : Int32 := match v with
  | .int x => x
  | _ => 0
def mj_ref (v : Value) : Option Nat := match v with
  | .ref k => some k
  | _ => none
def mj_e (E : Nat → ClassId) (tag : Nat) (vs : List Value) : va_E :=
  if tag < 20 then .inr (tag, vs)
  else if tag < 22 then .inl (E tag, vs.length, .inl (fun j => mj_int (vs.getD j .null)))
  else .inl (E tag, vs.length, .inr (.inr (.inr (.inr (fun j => mj_ref (vs.getD j .null))))))
def mj_trL (sz0 : Nat) (ad : Nat → Nat) (ls : mj_Ls) : List (Nat × Value) := ls.map (fun q => (q.1, mj_tr sz0 ad q.2))
def mj_P (sz0 : Nat) (ad : Nat → Nat) (E : Nat → ClassId) (D : va_G) (h : mj_Hp) (H : Heap) : Prop :=
  H.size = sz0 + h.length ∧ ∀ (k : Nat) (c : Nat × List Value), h[k]? = some c → va_at D vwCl (sz0 + k, mj_e E c.1 (c.2.map (mj_tr sz0 ad))) H
abbrev mj_A (sz0 : Nat) : Nat → Prop := fun q => sz0 ≤ q
def mj_K (sz0 : Nat) (ad : Nat → Nat) (E : Nat → ClassId) (D : va_G) (cst : List (List Int32)) (U : State) : Prop :=
  va_K D vwCl (mj_tys E) U ∧ sz0 ≤ U.heap.size ∧ (∀ (k : Nat) (l : List Int32), cst[k]? = some l → k < 5 → va_T .int (ad k) l.length (fun j => .int (l.getD j 0)) (mj_A sz0) U U.heap) ∧
    (∀ k : Nat, 1 ≤ k → k < 5 → va_Z mj_SC (mj_SN k) "[I" (.ref (ad k)) (mj_A sz0) U U.heap) ∧ ∀ w ∈ mj_bad, w.before #[] U = true
theorem mj_tr_cat (sz0 : Nat) (ad : Nat → Nat) (v : Value) : (mj_tr sz0 ad v).category = v.category := by cases v <;> rfl
theorem mj_tr_ge {sz0 : Nat} {ad : Nat → Nat} {k : Nat} (h : ¬ k < 5) : mj_tr sz0 ad (.ref k) = .ref (sz0 + (k - 5)) := by simp [mj_tr, h]
theorem mj_tr_lt {sz0 : Nat} {ad : Nat → Nat} {k : Nat} (h : k < 5) : mj_tr sz0 ad (.ref k) = .ref (ad k) := by simp [mj_tr, h]
theorem mj_tr_new {sz0 : Nat} {ad : Nat → Nat} {n : Nat} : mj_tr sz0 ad (.ref (5 + n)) = .ref (sz0 + n) := by
  rw [mj_tr_ge (by omega)]
  congr 2
  omega
theorem mj_get_mem {ls : mj_Ls} {i : Nat} {v : Value} (h : mj_get ls i = some v) : (i, v) ∈ ls := by
  induction ls with
  | nil => simp [mj_get] at h
  | cons q r ih =>
    unfold mj_get at h
    by_cases e : q.1 = i
    · rw [if_pos e] at h
      obtain ⟨q1, q2⟩ := q
      simp at e h
      subst e; subst h
      exact List.mem_cons_self
    · rw [if_neg e] at h
      exact List.mem_cons_of_mem _ (ih h)
theorem mj_put_mem {keep : Nat × Value → Bool} {i : Nat} {v : Value} {ls : mj_Ls} {q : Nat × Value} (h : q ∈ mj_put keep i v ls) : q = (i, v) ∨ (q ∈ ls ∧ keep q = true) := by
  induction ls with
  | nil => simp [mj_put] at h; exact Or.inl h
  | cons x r ih =>
    unfold mj_put at h
    split at h
    · rcases List.mem_cons.mp h with h | h
      · exact Or.inl h
      · obtain ⟨h1, h2⟩ := List.mem_filter.mp h
        exact Or.inr ⟨List.mem_cons_of_mem _ h1, h2⟩
    · split at h
      · rename_i hk
        rcases List.mem_cons.mp h with h | h
        · subst h; exact Or.inr ⟨List.mem_cons_self, hk⟩
        · rcases ih h with h | ⟨h1, h2⟩
          · exact Or.inl h
          · exact Or.inr ⟨List.mem_cons_of_mem _ h1, h2⟩
      · rcases ih h with h | ⟨h1, h2⟩
        · exact Or.inl h
        · exact Or.inr ⟨List.mem_cons_of_mem _ h1, h2⟩
theorem mj_has_sub {ls : Array Slot} {nL : Nat} {l l' : List (Nat × Value)} (h : lv_has ls nL l) (hs : ∀ q ∈ l', q ∈ l) : lv_has ls nL l' := ⟨h.1, h.2.1, fun q hq => h.2.2 q (hs q hq)⟩
theorem mj_has_get {sz0 : Nat} {ad : Nat → Nat} {ls : mj_Ls} {lsA : Array Slot} {nL i : Nat} {v : Value} (h : lv_has lsA nL (mj_trL sz0 ad ls)) (hg : mj_get ls i = some v) : lsA[i]? = some (.val (mj_tr sz0 ad v)) :=
  h.2.2 (i, mj_tr sz0 ad v) (List.mem_map.mpr ⟨(i, v), mj_get_mem hg, rfl⟩)
theorem mj_has_set1 {sz0 : Nat} {ad : Nat → Nat} {ls : mj_Ls} {lsA : Array Slot} {nL i : Nat} {v w : Value} (hw : mj_tr sz0 ad v = w) (h : lv_has lsA nL ((i, w) :: (mj_trL sz0 ad ls).filter (fun q => !(q.1 == i) && !(q.1 + 1 == i && q.2.category == 2)))) : lv_has lsA nL (mj_trL sz0 ad (mj_set1 ls i v)) := by
  refine mj_has_sub h fun q hq => ?_
  obtain ⟨q0, h0, rfl⟩ := List.mem_map.mp hq
  rcases mj_put_mem h0 with h1 | ⟨h1, h2⟩
  · subst h1
    rw [← hw]
    exact List.mem_cons_self
  · refine List.mem_cons_of_mem _ (List.mem_filter.mpr ⟨List.mem_map.mpr ⟨q0, h1, rfl⟩, ?_⟩)
    simp only [mj_tr_cat]
    exact h2
theorem mj_has_set2 {sz0 : Nat} {ad : Nat → Nat} {ls : mj_Ls} {lsA : Array Slot} {nL i : Nat} {v w : Value} (hw : mj_tr sz0 ad v = w) (h : lv_has lsA nL ((i, w) :: (mj_trL sz0 ad ls).filter (fun q => !(q.1 == i) && (!(q.1 == i + 1) && !(q.1 + 1 == i && q.2.category == 2))))) : lv_has lsA nL (mj_trL sz0 ad (mj_set2 ls i v)) := by
  refine mj_has_sub h fun q hq => ?_
  obtain ⟨q0, h0, rfl⟩ := List.mem_map.mp hq
  rcases mj_put_mem h0 with h1 | ⟨h1, h2⟩
  · subst h1
    rw [← hw]
    exact List.mem_cons_self
  · refine List.mem_cons_of_mem _ (List.mem_filter.mpr ⟨List.mem_map.mpr ⟨q0, h1, rfl⟩, ?_⟩)
    simp only [mj_tr_cat]
    exact h2
theorem mj_P.set {sz0 : Nat} {ad : Nat → Nat} {E : Nat → ClassId} {D : va_G} {h : mj_Hp} {H H' : Heap} {k tag : Nat} {vs vs' : List Value} (hP : mj_P sz0 ad E D h H) (hk : h[k]? = some (tag, vs)) (ha : va_at D vwCl (sz0 + k, mj_e E tag (vs'.map (mj_tr sz0 ad))) H') (hz : H'.size = H.size) (ho : ∀ q : Nat, q ≠ sz0 + k → H'[q]? = H[q]?) : mj_P sz0 ad E D (h.set k (tag, vs')) H' := by
  refine ⟨by rw [hz, hP.1, List.length_set], fun j c hj => ?_⟩
  by_cases e : j = k
  · subst e
    rw [List.getElem?_set_self (List.getElem?_eq_some_iff.mp hk).1] at hj
    cases hj
    exact ha
  · rw [List.getElem?_set_ne (Ne.symm e)] at hj
    exact (hP.2 j c hj).kept (ho _ (by show sz0 + j ≠ sz0 + k; omega))
theorem mj_P.push {sz0 : Nat} {ad : Nat → Nat} {E : Nat → ClassId} {D : va_G} {h : mj_Hp} {H H' : Heap} {tag : Nat} {vs : List Value} (hP : mj_P sz0 ad E D h H) (ha : va_at D vwCl (H.size, mj_e E tag (vs.map (mj_tr sz0 ad))) H') (hz : H'.size = H.size + 1) (ho : ∀ q : Nat, q < H.size → H'[q]? = H[q]?) : mj_P sz0 ad E D (h ++ [(tag, vs)]) H' := by
  refine ⟨by rw [hz, hP.1, List.length_append]; simp; omega, fun j c hj => ?_⟩
  by_cases e : j < h.length
  · rw [List.getElem?_append_left e] at hj
    have hlt := (hP.2 j c hj).lt
    exact (hP.2 j c hj).kept (ho _ hlt)
  · rw [List.getElem?_append_right (by omega)] at hj
    have hz1 : j - h.length < 1 := (List.getElem?_eq_some_iff.mp hj).1
    have ej : j = h.length := by omega
    subst ej
    rw [Nat.sub_self] at hj
    cases hj
    rw [← hP.1]
    exact ha
theorem mj_P.obj {sz0 : Nat} {ad : Nat → Nat} {E : Nat → ClassId} {D : va_G} {h : mj_Hp} {H : Heap} {k tag : Nat} {vs : List Value} (hP : mj_P sz0 ad E D h H) (hk : h[k]? = some (tag, vs)) (ht : tag < 20) : va_P D vwCl [(sz0 + k, .inr (tag, vs.map (mj_tr sz0 ad)))] H := by
  have h1 := hP.2 k _ hk
  simp only [mj_e, if_pos ht] at h1
  intro j q hj
  cases j with
  | zero => cases hj; exact h1
  | succ n => simp at hj
theorem mj_P.arr {sz0 : Nat} {ad : Nat → Nat} {E : Nat → ClassId} {D : va_G} {h : mj_Hp} {H : Heap} {k tag : Nat} {vs : List Value} (hP : mj_P sz0 ad E D h H) (hk : h[k]? = some (tag, vs)) (ht : 20 ≤ tag) (ht2 : tag < 22) : va_P D vwCl [(sz0 + k, .inl (E tag, vs.length, .inl (fun j => mj_int ((vs.map (mj_tr sz0 ad)).getD j .null))))] H := by
  have h1 := hP.2 k _ hk
  simp only [mj_e, if_neg (show ¬ tag < 20 by omega), if_pos ht2, List.length_map] at h1
  intro j q hj
  cases j with
  | zero => cases hj; exact h1
  | succ n => simp at hj
theorem mj_P.arq {sz0 : Nat} {ad : Nat → Nat} {E : Nat → ClassId} {D : va_G} {h : mj_Hp} {H : Heap} {k tag : Nat} {vs : List Value} (hP : mj_P sz0 ad E D h H) (hk : h[k]? = some (tag, vs)) (ht : 22 ≤ tag) : va_P D vwCl [(sz0 + k, .inl (E tag, vs.length, .inr (.inr (.inr (.inr (fun j => mj_ref ((vs.map (mj_tr sz0 ad)).getD j .null)))))))] H := by
  have h1 := hP.2 k _ hk
  simp only [mj_e, if_neg (show ¬ tag < 20 by omega), if_neg (show ¬ tag < 22 by omega), List.length_map] at h1
  intro j q hj
  cases j with
  | zero => cases hj; exact h1
  | succ n => simp at hj
theorem mj_in_vp {j : Int32} {n : Nat} (h : mj_in j n = true) : vp_in j n ∧ j.toNatClampNeg < n := by
  simp only [mj_in, Bool.and_eq_true, Bool.not_eq_true', decide_eq_false_iff_not, decide_eq_true_eq] at h
  exact ⟨fun q => q.elim h.1 (fun z => by omega), h.2⟩
theorem mj_arr_int {sz0 : Nat} {ad : Nat → Nat} {vs : List Value} {j : Nat} {x : Int32} (h : vs[j]? = some (.int x)) : mj_int ((vs.map (mj_tr sz0 ad)).getD j .null) = x := by
  simp [List.getD_eq_getElem?_getD, h, mj_tr, mj_int]
theorem mj_arr_ref {sz0 : Nat} {ad : Nat → Nat} {vs : List Value} {j k : Nat} (h : vs[j]? = some (.ref k)) : va_rf (mj_ref ((vs.map (mj_tr sz0 ad)).getD j .null)) = mj_tr sz0 ad (.ref k) := by
  simp [List.getD_eq_getElem?_getD, h, mj_tr, mj_ref, va_rf]
theorem mj_upd_int {sz0 : Nat} {ad : Nat → Nat} {vs : List Value} {j : Nat} {x : Int32} (hj : j < vs.length) : updV (fun i => Value.int (mj_int ((vs.map (mj_tr sz0 ad)).getD i .null))) j (.int x) = fun i => Value.int (mj_int (((vs.set j (.int x)).map (mj_tr sz0 ad)).getD i .null)) := by
  funext i
  unfold updV
  by_cases e : i = j
  · subst e
    rw [if_pos rfl, List.map_set, List.getD_eq_getElem?_getD, List.getElem?_set_self (by simpa using hj)]
    rfl
  · rw [if_neg e, List.map_set, List.getD_eq_getElem?_getD, List.getElem?_set_ne (Ne.symm e)]
    dsimp only
    rw [List.getD_eq_getElem?_getD]
theorem mj_upd_ref {sz0 : Nat} {ad : Nat → Nat} {vs : List Value} {j k : Nat} (hj : j < vs.length) : updV (fun i => va_rf (mj_ref ((vs.map (mj_tr sz0 ad)).getD i .null))) j (mj_tr sz0 ad (.ref k)) = fun i => va_rf (mj_ref (((vs.set j (.ref k)).map (mj_tr sz0 ad)).getD i .null)) := by
  funext i
  unfold updV
  by_cases e : i = j
  · subst e
    rw [if_pos rfl, List.map_set, List.getD_eq_getElem?_getD, List.getElem?_set_self (by simpa using hj)]
    rfl
  · rw [if_neg e, List.map_set, List.getD_eq_getElem?_getD, List.getElem?_set_ne (Ne.symm e)]
    dsimp only
    rw [List.getD_eq_getElem?_getD]
