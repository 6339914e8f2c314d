theorem mj_outer (c : ClassId) (N h0 : Nat) : ∀ i : Nat, Jvm.Free.Multi.outerC c N h0 i = arrV c N (fun j => va_rf (if j < i then some (h0 + 1 + j) else none))
  | 0 => by
    show ({ cls := c, slots := Array.replicate N .null, vm := .none } : Cell) = _
    rw [arrV_new]
    refine congrArg (arrV c N) (funext fun j => ?_)
    simp [va_rf]
  | i + 1 => by
    show (Jvm.Free.Multi.outerC c N h0 i).setSlot i (.ref (h0 + 1 + i)) = _
    rw [mj_outer c N h0 i, arrV_store]
    refine congrArg (arrV c N) (funext fun j => ?_)
    by_cases e : j = i
    · subst e
      simp [updV, va_rf]
    · by_cases h : j < i
      · simp [updV, e, h, Nat.lt_succ_of_lt h]
      · simp [updV, e, h, show ¬ j < i + 1 by omega]
theorem arrV_congr {c : ClassId} {N : Nat} {f g : Nat → Value} (h : ∀ j, j < N → f j = g j) : arrV c N f = arrV c N g := by
  unfold arrV
  congr 1
  apply Array.ext
  · simp
  · intro j h1 h2
    simp only [Array.getElem_ofFn]
    exact h j (by simpa using h1)
section MJM
variable {p : Program} {l : Launch} {e : Env} {R : Room} {s : State} {m : MethodId} {args : Array Value} {below : List Frame} {meth : Method} {c : Code} {H : Heap} {locs : List Loc} {cells slots : Nat} {Q : State → Prop}
variable {cc : ByteArray} {pc : Nat} {ls : Array Slot} {rest : List Value} {sz0 : Nat} {ad : Nat → Nat} {E : Nat → ClassId} {D : va_G} {h : mj_Hp}
theorem mj_w_mna (hexec : p.tables.exec = Jvm.exec) (hb : c.code = cc) {own : String} {index : Nat} (hown : s.vm.findClass own = some m.cls) (hclink : (Cond.classLink own index "[[I").before args s = true) (hover : (Cond.arrayOver (.array .int)).before args s = true) (harr : (Cond.arrayClass .int).before args s = true)
    (hK : va_K D vwCl (mj_tys E) s) (hP : mj_P sz0 ad E D h H) (hS : va_S (mj_A sz0) s.heap H locs) {n k : Int32} (hn : ¬ n < 0) (hk : ¬ k < 0) (hb1 : n.toNatClampNeg ≤ 4096) (hb2 : k.toNatClampNeg ≤ 4096) (hcells : cells + (1 + n.toNatClampNeg) ≤ R.cells) (hslots : slots + (n.toNatClampNeg + n.toNatClampNeg * k.toNatClampNeg) ≤ R.slots) (hdg : decode cc pc = .ok (.multianewarray index 2, 4))
    (kk : ∀ H1 : Heap, mj_P sz0 ad E D (h ++ [(26, (List.range n.toNatClampNeg).map (fun i => Value.ref (5 + h.length + 1 + i)))] ++ List.replicate n.toNatClampNeg (20, List.replicate k.toNatClampNeg (Value.int 0))) H1 → va_S (mj_A sz0) s.heap H1 locs → W p l e R s m args below meth c H1 locs (cells + 1 + n.toNatClampNeg) (slots + n.toNatClampNeg + n.toNatClampNeg * k.toNatClampNeg) Q (F0 m (pc + 4) ls (.ref (sz0 + h.length) :: rest))) :
    W p l e R s m args below meth c H locs cells slots Q (F0 m pc ls (.int k :: .int n :: rest)) := by
  intro T hT Xs
  obtain ⟨vm₁, cA, comp, -, fA, fC, hO, -, X', step⟩ := Xs.multianewarray2F hexec (ty := .int) hown hclink hover harr (g := F0 m pc ls (.int k :: .int n :: rest)) rfl (by rw [hb]; exact hdg) rfl hn hk (by omega) (by show k.toNatClampNeg * componentBytes .int ≤ _; simp only [componentBytes]; omega) (by omega) rfl rfl hcells hslots
  have hcA : cA = E 26 := Option.some.inj (fA.symm.trans (hK.2 6 _ rfl).2)
  have hcI : comp = E 20 := Option.some.inj (fC.symm.trans (hK.2 0 _ rfl).2)
  subst hcA; subst hcI
  generalize hN : n.toNatClampNeg = N at *
  generalize hM : k.toNatClampNeg = M at *
  generalize hF : Jvm.Free.Multi.fill (T.setVm vm₁) (E 26) (E 20) N M (defaultValue .int) N = F at X' step
  have hTh : (T.setVm vm₁).heap = H := hT
  obtain ⟨f1, f2, -, -⟩ := Jvm.Free.Multi.fill_facts (T.setVm vm₁) (E 26) (E 20) N M (defaultValue .int) N
  rw [hF, hTh] at f1 f2
  have hold : ∀ x : Nat, x < H.size → F.heap[x]? = H[x]? := fun x hx => by
    have := Jvm.Free.Multi.fill_old (T.setVm vm₁) (E 26) (E 20) N M (defaultValue .int) (a := x) (by rw [hTh]; exact hx) N
    rw [hF, hTh] at this
    exact this
  have hrow : ∀ j : Nat, j < N → F.heap[H.size + 1 + j]? = some (arrV (E 20) M (fun _ => .int 0)) := fun j hj => by
    have := Jvm.Free.Multi.fill_inner (T.setVm vm₁) (E 26) (E 20) N M (defaultValue .int) N j hj
    rw [hF, hTh] at this
    rw [this, ← arrV_new]
    rfl
  rw [mj_outer] at f2
  have hz := hP.1
  have hP1 : mj_P sz0 ad E D (h ++ [(26, (List.range N).map (fun i => Value.ref (5 + h.length + 1 + i)))] ++ List.replicate N (20, List.replicate M (Value.int 0))) F.heap := by
    refine ⟨by rw [f1, hz]; simp; omega, fun j x hx => ?_⟩
    by_cases h1 : j < h.length
    · rw [List.append_assoc, List.getElem?_append_left h1] at hx
      exact (hP.2 j x hx).kept (hold _ (hP.2 j x hx).lt)
    · by_cases h2 : j = h.length
      · subst h2
        rw [List.append_assoc, List.getElem?_append_right (Nat.le_refl _), Nat.sub_self] at hx
        cases hx
        simp only [mj_e, if_neg (show ¬ 26 < 20 by decide), if_neg (show ¬ 26 < 22 by decide)]
        show F.heap[sz0 + h.length]? = some (vp_cell _ _)
        rw [← hz, f2, vp_cell_q]
        simp only [List.length_map, List.length_range]
        refine congrArg some (arrV_congr fun j hj => ?_)
        rw [if_pos hj, List.map_map, List.getD_eq_getElem?_getD, List.getElem?_map, List.getElem?_range hj]
        show Value.ref _ = va_rf (mj_ref (mj_tr sz0 ad (.ref (5 + h.length + 1 + j))))
        rw [mj_tr_ge (by omega)]
        show Value.ref (H.size + 1 + j) = Value.ref (sz0 + (5 + h.length + 1 + j - 5))
        rw [show H.size + 1 + j = sz0 + (5 + h.length + 1 + j - 5) by omega]
      · rw [List.getElem?_append_right (by simp; omega)] at hx
        simp only [List.length_append, List.length_singleton, List.getElem?_replicate] at hx
        split at hx
        · rename_i hj
          cases hx
          simp only [mj_e, if_neg (show ¬ 20 < 20 by decide), if_pos (show 20 < 22 by decide)]
          show F.heap[sz0 + j]? = some (vp_cell _ _)
          have e1 := hrow (j - (h.length + 1)) hj
          rw [show H.size + 1 + (j - (h.length + 1)) = sz0 + j by omega] at e1
          rw [e1, vp_cell_i]
          simp only [List.length_map, List.length_replicate]
          refine congrArg some (arrV_congr fun i hi => ?_)
          simp [List.getD_eq_getElem?_getD, List.getElem?_replicate, hi, mj_tr, mj_int]
        · cases hx
  have hS1 : va_S (mj_A sz0) s.heap F.heap locs := ⟨by rw [f1]; have := hS.1; omega, fun x h1 h2 => (hold x (Nat.lt_of_lt_of_le h1 hS.1)).trans (hS.2.1 x h1 h2), hS.2.2⟩
  obtain ⟨t, a1, b1⟩ := kk F.heap hP1 hS1 F rfl X'
  refine ⟨t, step t ?_, b1⟩
  have e9 : T.heap.size = sz0 + h.length := by rw [hT]; exact hz
  rw [e9]
  exact a1
end MJM
