section MJW
variable {p : Program} {l : Launch} {e : Env} {R : Room} {s : State} {m : MethodId} {args : Array Value} {below : List Frame} {meth : Method} {c : Code} {H : Heap} {locs : List Loc} {cells slots : Nat} {Q : State → Prop}
variable {cc : ByteArray} {pc : Nat} {ls : Array Slot} {rest : List Value} {sz0 : Nat} {ad : Nat → Nat} {E : Nat → ClassId} {D : va_G} {h : mj_Hp} {k : Nat} {vs : List Value}
theorem mj_S_put {H0 H1 : Heap} {a j : Nat} (hS : va_S (mj_A sz0) H0 H locs) (z : H1.size = H.size) (oq : ∀ q : Nat, q ≠ a → H1[q]? = H[q]?) (ha : sz0 ≤ a) : va_S (mj_A sz0) H0 H1 (locs ++ [⟨a, j⟩]) := hS.put z oq ha
theorem mj_S_push {H0 H1 : Heap} (hS : va_S (mj_A sz0) H0 H locs) (z : H1.size = H.size + 1) (oq : ∀ q : Nat, q < H.size → H1[q]? = H[q]?) : va_S (mj_A sz0) H0 H1 locs :=
  ⟨Nat.le_trans hS.1 (by omega), fun x h1 h2 => (oq x (Nat.lt_of_lt_of_le h1 hS.1)).trans (hS.2.1 x h1 h2), hS.2.2⟩
theorem mj_w_iast (hexec : p.tables.exec = Jvm.exec) (hb : c.code = cc) (hK : va_K D vwCl (mj_tys E) s) (hP : mj_P sz0 ad E D h H) (hS : va_S (mj_A sz0) s.heap H locs) (hk : h[k]? = some (20, vs)) {j x : Int32} (hin : mj_in j vs.length = true) (hdg : decode cc pc = .ok (.iastore, 1))
    (kk : ∀ (H1 : Heap) (locs1 : List Loc), mj_P sz0 ad E D (h.set k (20, vs.set j.toNatClampNeg (.int x))) H1 → va_S (mj_A sz0) s.heap H1 locs1 → W p l e R s m args below meth c H1 locs1 cells slots Q (F0 m (pc + 1) ls rest)) :
    W p l e R s m args below meth c H locs cells slots Q (F0 m pc ls (.int x :: .int j :: .ref (sz0 + k) :: rest)) := by
  obtain ⟨hv, hlt⟩ := mj_in_vp hin
  have h1 := hP.arr hk (by omega) (by omega)
  refine W.iast hexec hb (h1 0 _ rfl) ((hK.2 0 _ rfl).1 vs.length _) (fun q => by cases q) (by show ¬ (j < 0 ∨ (arrV _ _ _).slots.size ≤ _); rw [arrV_size]; exact hv) rfl rfl hdg fun H1 e1 z oq => ?_
  refine kk H1 _ (hP.set hk ?_ z oq) (mj_S_put hS z oq (by omega))
  show va_at D vwCl (sz0 + k, if 20 < 20 then _ else if 20 < 22 then _ else _) H1
  rw [if_neg (by decide), if_pos (by decide)]
  show H1[sz0 + k]? = some (vp_cell _ _)
  rw [e1, vp_cell_i, vp_cell_i, arrV_store, mj_upd_int hlt]
  simp
theorem mj_w_zast (hexec : p.tables.exec = Jvm.exec) (hb : c.code = cc) (hK : va_K D vwCl (mj_tys E) s) (hP : mj_P sz0 ad E D h H) (hS : va_S (mj_A sz0) s.heap H locs) (hk : h[k]? = some (21, vs)) {j x : Int32} (hin : mj_in j vs.length = true) (hx : mj_bool x = true) (hdg : decode cc pc = .ok (.bastore, 1))
    (kk : ∀ (H1 : Heap) (locs1 : List Loc), mj_P sz0 ad E D (h.set k (21, vs.set j.toNatClampNeg (.int x))) H1 → va_S (mj_A sz0) s.heap H1 locs1 → W p l e R s m args below meth c H1 locs1 cells slots Q (F0 m (pc + 1) ls rest)) :
    W p l e R s m args below meth c H locs cells slots Q (F0 m pc ls (.int x :: .int j :: .ref (sz0 + k) :: rest)) := by
  obtain ⟨hv, hlt⟩ := mj_in_vp hin
  have h1 := hP.arr hk (by omega) (by omega)
  have hn : narrow .boolean (.int x) = .int x := by
    simp only [mj_bool, Bool.or_eq_true, beq_iff_eq] at hx
    rcases hx with hx | hx <;> subst hx <;> decide
  refine W.zast hexec hb (h1 0 _ rfl) ((hK.2 1 _ rfl).1 vs.length _) (fun q => by cases q) (by show ¬ (j < 0 ∨ (arrV _ _ _).slots.size ≤ _); rw [arrV_size]; exact hv) rfl rfl hdg fun H1 e1 z oq => ?_
  refine kk H1 _ (hP.set hk ?_ z oq) (mj_S_put hS z oq (by omega))
  show va_at D vwCl (sz0 + k, if 21 < 20 then _ else if 21 < 22 then _ else _) H1
  rw [if_neg (by decide), if_pos (by decide)]
  show H1[sz0 + k]? = some (vp_cell _ _)
  rw [e1, hn, vp_cell_i, vp_cell_i, arrV_store, mj_upd_int hlt]
  simp
theorem mj_w_aast (hexec : p.tables.exec = Jvm.exec) (hb : c.code = cc) (hK : va_K D vwCl (mj_tys E) s) (hP : mj_P sz0 ad E D h H) (hS : va_S (mj_A sz0) s.heap H locs) {tag ci y : Nat} {vy : List Value} (hk : h[k]? = some (tag, vs)) (ht : 22 ≤ tag) (hy : h[y]? = some (ci, vy)) (hci : ci < 20) {r : vw_C} (hc : vwCl[ci]? = some r) (t0 : Nat) (htt : (mj_tys E)[t0]? = some (E tag, .object r.1)) {j : Int32} (hin : mj_in j vs.length = true) (hdg : decode cc pc = .ok (.aastore, 1))
    (kk : ∀ (H1 : Heap) (locs1 : List Loc), mj_P sz0 ad E D (h.set k (tag, vs.set j.toNatClampNeg (.ref (5 + y)))) H1 → va_S (mj_A sz0) s.heap H1 locs1 → W p l e R s m args below meth c H1 locs1 cells slots Q (F0 m (pc + 1) ls rest)) :
    W p l e R s m args below meth c H locs cells slots Q (F0 m pc ls (.ref (sz0 + y) :: .int j :: .ref (sz0 + k) :: rest)) := by
  obtain ⟨hv, hlt⟩ := mj_in_vp hin
  have h1 := hP.arq hk ht
  have h0 : ¬ j < 0 := fun q => hv (Or.inl q)
  obtain ⟨r', hr', cellV, g1, g2, g3, -⟩ := hP.obj hy hci 0 _ rfl
  have hcls := (hK.1 ci r hc).2
  obtain ⟨kA, comp, k1, k2, k3, -⟩ := (hK.2 t0 _ htt).2
  have hcomp : comp = D.1 ci := Option.some.inj (k3.symm.trans hcls.1)
  subst hcomp
  obtain ⟨kC, hkC, -⟩ := hcls.2
  refine W.aast hexec hb (h1 0 _ rfl) (fun q h => by cases h) (fun h => by cases h) k1 k2 rfl hkC ⟨h0, by show _ < (arrV _ _ _).slots.size; rw [arrV_size]; exact hlt⟩ g1 (fun q h => by rw [g3] at h; cases h) (by rw [g2]; exact hkC) (by rw [g2]; exact va_assign hcls) rfl rfl hdg fun H1 e1 z oq => ?_
  refine kk H1 _ (hP.set hk ?_ z oq) (mj_S_put hS z oq (by omega))
  simp only [mj_e, if_neg (show ¬ tag < 20 by omega), if_neg (show ¬ tag < 22 by omega)]
  show H1[sz0 + k]? = some (vp_cell _ _)
  rw [e1, vp_cell_q, vp_cell_q, arrV_store, ← mj_upd_ref (k := 5 + y) hlt, mj_tr_new]
  simp
theorem mj_w_put (hexec : p.tables.exec = Jvm.exec) (hb : c.code = cc) {own C : String} {T : u_T} {N ci index : Nat} {Ts : List Cond} (hts : ∀ w ∈ Ts, w.before args s = true) (hin : ∀ w ∈ u_ws C T N, w ∈ Ts) (ty0 : Nat → FieldType) (hty : ∀ k, k < N → parseFieldDescriptor (T k).2.2.1 = some (ty0 k)) (hnm : ∀ a, a < N → ∀ b, b < N → a ≠ b → (T a).2.1 ≠ (T b).2.1) (hown : s.vm.findClass own = some m.cls)
    (hK : va_K D vwCl (mj_tys E) s) (hP : mj_P sz0 ad E D h H) (hS : va_S (mj_A sz0) s.heap H locs) (hk : h[k]? = some (ci, vs)) (hci : ci < 20) (hc : vwCl[ci]? = some (C, T, N)) (b : Nat) (hbN : b < N) (hlink : (Cond.fieldLink own index (T b).1 (T b).2.1 (T b).2.2.1).before args s = true)
    (hfin : (T b).2.2.2 = false ∨ ((T b).2.2.2 = true ∧ meth.name = "<init>" ∧ (T b).1 = own)) {ty : FieldType} {v : Value} (hd : parseFieldDescriptor (T b).2.2.1 = some ty) (hn : narrow ty (mj_tr sz0 ad v) = mj_tr sz0 ad v) (hfit : fits ty (mj_tr sz0 ad v) = true) (hl : b < vs.length) (hdg : decode cc pc = .ok (.putfield index, 3))
    (kk : ∀ (H1 : Heap) (locs1 : List Loc), mj_P sz0 ad E D (h.set k (ci, vs.set b v)) H1 → va_S (mj_A sz0) s.heap H1 locs1 → W p l e R s m args below meth c H1 locs1 cells slots Q (F0 m (pc + 3) ls rest)) :
    W p l e R s m args below meth c H locs cells slots Q (F0 m pc ls (mj_tr sz0 ad v :: .ref (sz0 + k) :: rest)) := by
  have hap := va_apart (own := own) hts hin ty0 hty hnm hK hc
  obtain ⟨r, h1, cell, q1, q2, q3, q4⟩ := hP.obj hk hci 0 _ rfl
  have hr : r = (C, T, N) := Option.some.inj (h1.symm.trans hc)
  subst hr
  obtain ⟨hSl, hfc, kC, hkC, hkind⟩ := hK.1 ci _ hc
  obtain ⟨cf, kf, fi, f, hi, hsl⟩ := hSl b hbN
  have hlay := hts _ (hin _ (u_in_lay hbN))
  unfold u_lay at hlay
  have hst := (u_facts hfc hkC (u_lays hts hin hbN) hi).1
  have fin : ∀ H' : Heap, H'[sz0 + k]? = some (cell.setSlot f.slot (mj_tr sz0 ad v)) → H'.size = H.size → (∀ q : Nat, q ≠ sz0 + k → H'[q]? = H[q]?) → W p l e R s m args below meth c H' (locs ++ [⟨sz0 + k, f.slot⟩]) cells slots Q (F0 m (pc + 3) ls rest) := by
    intro H' e1 e2 e3
    refine kk H' _ (hP.set hk ?_ e2 e3) (mj_S_put hS e2 e3 (by omega))
    rw [hsl] at e1
    simp only [mj_e, if_pos hci]
    refine ⟨_, hc, t_OB.to (V := updV (vp_V (vs.map (mj_tr sz0 ad))) b (mj_tr sz0 ad v)) ⟨_, e1, q2, q3, t_set q4 hap hbN _⟩ (fun j _ => ?_)⟩
    rw [List.map_set]
    exact vp_updV_set (by simpa using hl) _ j
  rcases hfin with hfin | ⟨hfin, hin2, hdecl⟩
  · rw [if_neg (by rw [hfin]; decide)] at hlay
    have h6 := u_store hfc hkC hkind hlay hi hd hn hfit
    exact W.putK hexec hb (f := f) ⟨hown, hlink, ⟨_, _, _, hi⟩, hst⟩ (by rw [q2]; exact h6) q1 q3 (by rw [hsl]; exact k2_hasslot (q4 b hbN)) rfl rfl hdg fin
  · rw [if_pos hfin] at hlay
    have hcf : m.cls = cf := by
      obtain ⟨_, _, c', _, _, _, -, -, hf', -, -, -, hown2, -⟩ := Cond.laysFinal_spec hlay
      have e1 : c' = cf := by have := hi.symm.trans hf'; simp at this; exact this.1.symm
      rw [hdecl] at hown2
      rw [← e1]; exact Option.some.inj (hown.symm.trans hown2)
    have h6 := u_fits hfc hkC hkind (Or.inr hlay) hi hd hn hfit
    exact W.putFinK hexec hb hown hlink hi hst hcf hin2 (by rw [q2]; exact h6) q1 q3 (by rw [hsl]; exact k2_hasslot (q4 b hbN)) rfl rfl hdg fin
theorem mj_w_new (hexec : p.tables.exec = Jvm.exec) (hb : c.code = cc) {own C : String} {T : u_T} {N ci index : Nat} {Ts : List Cond} (hts : ∀ w ∈ Ts, w.before args s = true) (hin : ∀ w ∈ u_ws C T N, w ∈ Ts) (ty : Nat → FieldType) (hty : ∀ k, k < N → parseFieldDescriptor (T k).2.2.1 = some (ty k)) (hown : s.vm.findClass own = some m.cls) (hcl : (Cond.classLink own index C).before args s = true) (hinst : (Cond.instantiable C N).before args s = true) (hini : (Cond.initialized C).before args s = true)
    (hK : va_K D vwCl (mj_tys E) s) (hP : mj_P sz0 ad E D h H) (hS : va_S (mj_A sz0) s.heap H locs) (hci : ci < 20) (hc : vwCl[ci]? = some (C, T, N)) (hfs : ∀ j, j < N → defaultValue (ty j) = vp_V (vs.map (mj_tr sz0 ad)) j) (hcells : cells + 1 ≤ R.cells) (hslots : slots + N ≤ R.slots) (hdg : decode cc pc = .ok (.new index, 3))
    (kk : ∀ H1 : Heap, mj_P sz0 ad E D (h ++ [(ci, vs)]) H1 → va_S (mj_A sz0) s.heap H1 locs → W p l e R s m args below meth c H1 locs (cells + 1) (slots + N) Q (F0 m (pc + 3) ls (.ref (sz0 + h.length) :: rest))) :
    W p l e R s m args below meth c H locs cells slots Q (F0 m pc ls rest) := by
  have hKn := hK.1 ci _ hc
  refine W.newcK hexec hb hown hcl hinst hini rfl hdg hcells hslots hKn.2.1 rfl fun H1 kC hkC e1 z1 o1 => ?_
  have hz := hP.1
  have k1 := kk H1 (hP.push ?_ z1 o1) (mj_S_push hS z1 o1)
  · rw [← hz] at k1
    exact k1
  · simp only [mj_e, if_pos hci]
    exact ⟨_, hc, (u_born ty hts hin hKn hkC e1 hty).to hfs⟩
theorem mj_w_newa (hexec : p.tables.exec = Jvm.exec) (hb : c.code = cc) {atype : ArrayType} (harr : (Cond.arrayClass (newarray.typeOf atype)).before args s = true) {tag : Nat} (ht : 20 ≤ tag) (ht2 : tag < 22) (t0 : Nat) (htt : (mj_tys E)[t0]? = some (E tag, newarray.typeOf atype)) (hdf : defaultValue (newarray.typeOf atype) = .int 0)
    (hK : va_K D vwCl (mj_tys E) s) (hP : mj_P sz0 ad E D h H) (hS : va_S (mj_A sz0) s.heap H locs) {n : Int32} (hn : ¬ n < 0) (hbytes : n.toNatClampNeg * componentBytes (newarray.typeOf atype) ≤ 536870912) (hcells : cells + 1 ≤ R.cells) (hslots : slots + n.toNatClampNeg ≤ R.slots) (hdg : decode cc pc = .ok (.newarray atype, 2))
    (kk : ∀ H1 : Heap, mj_P sz0 ad E D (h ++ [(tag, List.replicate n.toNatClampNeg (.int 0))]) H1 → va_S (mj_A sz0) s.heap H1 locs → W p l e R s m args below meth c H1 locs (cells + 1) (slots + n.toNatClampNeg) Q (F0 m (pc + 2) ls (.ref (sz0 + h.length) :: rest))) :
    W p l e R s m args below meth c H locs cells slots Q (F0 m pc ls (.int n :: rest)) := by
  refine va_newaK hexec hb harr rfl hdg rfl hn rfl hbytes hcells hslots rfl fun H1 cA e1 z1 o1 hAr hNm => ?_
  have hcA : cA = E tag := by
    have h2 := (hK.2 t0 _ htt).2
    have h3 : s.vm.findClass ("[" ++ (newarray.typeOf atype).toString) = some (E tag) := by cases atype <;> exact h2
    exact Option.some.inj (hNm.symm.trans h3)
  subst hcA
  have hz := hP.1
  have k1 := kk H1 (hP.push ?_ z1 o1) (mj_S_push hS z1 o1)
  · rw [← hz] at k1
    exact k1
  · simp only [mj_e, if_neg (show ¬ tag < 20 by omega), if_pos ht2]
    show H1[H.size]? = some (vp_cell _ _)
    rw [e1, vp_cell_i, hdf]
    simp only [List.length_map, List.length_replicate]
    congr 2
    funext j
    simp only [List.map_replicate, List.getD_eq_getElem?_getD, List.getElem?_replicate]
    by_cases hj : j < n.toNatClampNeg <;> simp [hj, mj_tr, mj_int]
theorem mj_w_anew (hexec : p.tables.exec = Jvm.exec) (hb : c.code = cc) {own C : String} {index tag : Nat} (hown : s.vm.findClass own = some m.cls) (hclink : (Cond.classLink own index C).before args s = true) (hover : (Cond.arrayOver (.object C)).before args s = true) (ht : 22 ≤ tag) (t0 : Nat) (htt : (mj_tys E)[t0]? = some (E tag, .object C))
    (hK : va_K D vwCl (mj_tys E) s) (hP : mj_P sz0 ad E D h H) (hS : va_S (mj_A sz0) s.heap H locs) {n : Int32} (hn : ¬ n < 0) (hbytes : n.toNatClampNeg * 4 ≤ 536870912) (hcells : cells + 1 ≤ R.cells) (hslots : slots + n.toNatClampNeg ≤ R.slots) (hdg : decode cc pc = .ok (.anewarray index, 3))
    (kk : ∀ H1 : Heap, mj_P sz0 ad E D (h ++ [(tag, List.replicate n.toNatClampNeg .null)]) H1 → va_S (mj_A sz0) s.heap H1 locs → W p l e R s m args below meth c H1 locs (cells + 1) (slots + n.toNatClampNeg) Q (F0 m (pc + 3) ls (.ref (sz0 + h.length) :: rest))) :
    W p l e R s m args below meth c H locs cells slots Q (F0 m pc ls (.int n :: rest)) := by
  refine W.anew hexec hb hown hclink hover rfl hdg rfl hn hbytes hcells hslots fun cA kA comp f1 f2 f3 f4 => ?_
  have hcA : cA = E tag := by
    obtain ⟨kA', comp', -, -, -, h3⟩ := (hK.2 t0 _ htt).2
    exact Option.some.inj (f1.symm.trans h3)
  subst hcA
  generalize hH1 : H.push ({ cls := E tag, slots := Array.replicate n.toNatClampNeg .null, vm := .none } : Cell) = H1
  have z1 : H1.size = H.size + 1 := by rw [← hH1, Array.size_push]
  have e1 : H1[H.size]? = some (arrV (E tag) n.toNatClampNeg (fun _ => .null)) := by rw [← hH1, Array.getElem?_push_size, ← arrV_new]
  have o1 : ∀ q : Nat, q < H.size → H1[q]? = H[q]? := fun q hq => by rw [← hH1, Array.getElem?_push, if_neg (Nat.ne_of_lt hq)]
  have hz := hP.1
  have k1 := kk H1 (hP.push ?_ z1 o1) (mj_S_push hS z1 o1)
  · rw [← hz] at k1
    exact k1
  · simp only [mj_e, if_neg (show ¬ tag < 20 by omega), if_neg (show ¬ tag < 22 by omega)]
    show H1[H.size]? = some (vp_cell _ _)
    rw [e1, vp_cell_q]
    simp only [List.length_map, List.length_replicate]
    congr 2
    funext j
    simp only [List.map_replicate, List.getD_eq_getElem?_getD, List.getElem?_replicate]
    by_cases hj : j < n.toNatClampNeg <;> simp [hj, mj_tr, mj_ref, va_rf]
end MJW
