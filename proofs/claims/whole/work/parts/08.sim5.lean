theorem mj_wr_len {h : mj_Hp} {k b : Nat} {v : Value} : (mj_wr h k b v).length = h.length ∧ mj_sl (mj_wr h k b v) = mj_sl h := by
  unfold mj_wr
  split
  · rename_i c hc
    obtain ⟨tag, vs⟩ := c
    exact ⟨by simp, mj_sl_set hc (by simp)⟩
  · exact ⟨rfl, rfl⟩
set_option maxHeartbeats 4000000 in
theorem mj_step_len {cst : List (List Int32)} {i : Instr} {a b pc : Nat} {ls : mj_Ls} {st : List Value} {h : mj_Hp} {t : mj_Ms} (hs : mj_step cst i a b pc ls st h = some t) : h.length ≤ t.2.2.2.length ∧ mj_sl h ≤ mj_sl t.2.2.2 := by
  unfold mj_step at hs
  repeat' (split at hs)
  all_goals first
    | (cases hs; done)
    | (cases hs; exact ⟨Nat.le_refl _, Nat.le_refl _⟩)
    | (cases hs; exact ⟨Nat.le_of_eq mj_wr_len.1.symm, Nat.le_of_eq mj_wr_len.2.symm⟩)
    | (cases hs; refine ⟨by simp <;> omega, by simp [mj_sl] <;> omega⟩)
theorem mj_run_len {cst : List (List Int32)} : ∀ {n m pc : Nat} {ls : mj_Ls} {st : List Value} {h : mj_Hp} {r : Option Value} {h' : mj_Hp}, mj_run cst n m pc ls st h = some (r, h') → h.length ≤ h'.length ∧ mj_sl h ≤ mj_sl h' := by
  intro n
  induction n with
  | zero => intro m pc ls st h r h' hr; simp [mj_run] at hr
  | succ n ih =>
    intro m pc ls st h r h' hr
    unfold mj_run at hr
    split at hr
    · cases hr
    · split at hr
      · cases hr; exact ⟨Nat.le_refl _, Nat.le_refl _⟩
      · split at hr
        · split at hr
          · rename_i hs
            have h1 := mj_step_len hs
            have h2 := ih hr
            exact ⟨Nat.le_trans h1.1 h2.1, Nat.le_trans h1.2 h2.2⟩
          · cases hr
        · repeat' (split at hr)
          all_goals first
            | (cases hr; done)
            | exact ih hr
            | (rename_i hc; have h1 := ih hc; have h2 := ih hr; exact ⟨Nat.le_trans h1.1 h2.1, Nat.le_trans h1.2 h2.2⟩)
        · repeat' (split at hr)
          all_goals first
            | (cases hr; done)
            | exact ih hr
            | (rename_i hc; have h1 := ih hc; have h2 := ih hr; exact ⟨Nat.le_trans h1.1 h2.1, Nat.le_trans h1.2 h2.2⟩)
def mj_Q (sz0 : Nat) (ad : Nat → Nat) (E : Nat → ClassId) (D : va_G) (r : Option Value) (h' : mj_Hp) : Array Value → State → Outcome → State → Prop := fun _ st oc t =>
  oc = .returned (r.map (mj_tr sz0 ad)) ∧ mj_P sz0 ad E D h' t.heap ∧ va_F (mj_A sz0) st t
def mj_Pc (sz0 : Nat) (ad : Nat → Nat) (E : Nat → ClassId) (D : va_G) (cst : List (List Int32)) (vs : List Value) (h : mj_Hp) : Array Value → State → Prop := fun v U =>
  v = (vs.map (mj_tr sz0 ad)).toArray ∧ mj_K sz0 ad E D cst U ∧ mj_P sz0 ad E D h U.heap
theorem mj_AOA_moved {t : FieldType} {u U : State} (hvm : u.vm.Alike U.vm) (h : (Cond.arrayOver (.array t)).before #[] u = true) : (Cond.arrayOver (.array t)).before #[] U = true := by
  obtain ⟨comp, c, k, h1, h2, h3, h4, h5⟩ := arrayOverA_spec h
  obtain ⟨k', hk', he⟩ := hvm.2.2 _ _ h3
  have hi : (U.vm.classes.findIdx? fun (x : Class) => match x.kind with | .array component _ => component == comp | _ => false) = some c := by
    rw [hvm.findIdx?_eq _ (fun _ => rfl)]
    exact h2
  have hkind : k'.kind = .array comp (.array t) := by rw [he]; exact h4
  have f1 : U.vm.findClass (FieldType.array t).toString = some comp := by rw [hvm.findClass]; exact h1
  have f2 : U.vm.findClass ("[" ++ (FieldType.array t).toString) = some c := by rw [hvm.findClass]; exact h5
  unfold Cond.before Cond.holds
  simp only [Cond.value]
  rw [f1, Option.bind_some]
  refine (congrArg (fun o : Option Nat => (o.bind (fun c => (U.vm.classes[c]?).map fun (k : Class) => match k.kind with | .array _ ty => decide (ty = FieldType.array t) && decide (U.vm.findClass ("[" ++ (FieldType.array t).toString) = some c) | _ => false) == some true)) hi).trans ?_
  simp [hk', hkind, f2]
theorem mj_bad_moved {s U : State} (hW : s.WarmedH U.vm) (h : ∀ w ∈ mj_bad, w.before #[] s = true) : ∀ w ∈ mj_bad, w.before #[] U = true := by
  intro w hw
  have h1 := h w hw
  simp only [mj_bad, List.mem_cons, List.not_mem_nil, or_false] at hw
  rcases hw with rfl | rfl | rfl | rfl | rfl | rfl | rfl | rfl | rfl | rfl | rfl | rfl | rfl | rfl
  all_goals first
    | exact va_Nw.warmM hW h1
    | exact va_Nw.warmF hW h1
    | exact va_AO.moved hW.alike h1
    | exact mj_AOA_moved hW.alike h1
theorem mj_bad_vm {U V : State} (hv : V.vm = U.vm) (w : Cond) (hw : w ∈ mj_bad) (h : w.before #[] U = true) : w.before #[] V = true := by
  simp only [mj_bad, List.mem_cons, List.not_mem_nil, or_false] at hw
  rcases hw with rfl | rfl | rfl | rfl | rfl | rfl | rfl | rfl | rfl | rfl | rfl | rfl | rfl | rfl
  all_goals first
    | exact va_tabs rfl hv.symm h
    | exact va_tabs rfl hv h
    | exact va_AO.moved (by rw [hv]; exact Vm.Alike.refl _) h
    | exact mj_AOA_moved (by rw [hv]; exact Vm.Alike.refl _) h
theorem mj_K.moved {sz0 : Nat} {ad : Nat → Nat} {E : Nat → ClassId} {D : va_G} {cst : List (List Int32)} {s U : State} {H : Heap} {locs : List Loc} (hK : mj_K sz0 ad E D cst s) (hW : s.WarmedH U.vm) (hS : va_S (mj_A sz0) s.heap H locs) (hU : U.heap = H) : mj_K sz0 ad E D cst U := by
  subst hU
  have hvm := hW.alike
  exact ⟨va_K.moved hvm hK.1, Nat.le_trans hK.2.1 hS.1, fun k l hc hk => (va_T.moved hvm (hK.2.2.1 k l hc hk)).kept hS.2.1, fun k h1 h5 => (va_Z.moved hvm (hK.2.2.2.1 k h1 h5)).kept hS.2.1, mj_bad_moved hW hK.2.2.2.2⟩
theorem mj_K.calling {sz0 : Nat} {ad : Nat → Nat} {E : Nat → ClassId} {D : va_G} {cst : List (List Int32)} {U V : State} (hK : mj_K sz0 ad E D cst U) (hv : V.vm = U.vm) (hh : V.heap = U.heap) : mj_K sz0 ad E D cst V := by
  have ha : U.vm.Alike V.vm := by rw [hv]; exact Vm.Alike.refl _
  refine ⟨va_K.moved ha hK.1, by rw [hh]; exact hK.2.1, fun k l hc hk => ?_, fun k h1 h5 => ?_, fun w hw => ?_⟩
  · rw [hh]; exact va_T.moved ha (hK.2.2.1 k l hc hk)
  · rw [hh]; exact va_Z.moved ha (hK.2.2.2.1 k h1 h5)
  · exact mj_bad_vm hv w hw (hK.2.2.2.2 w hw)
theorem mj_Pc_blind {sz0 : Nat} {ad : Nat → Nat} {E : Nat → ClassId} {D : va_G} {cst : List (List Int32)} {vs : List Value} {h : mj_Hp} : FrameBlind (mj_Pc sz0 ad E D cst vs h) := fun a U g mk q =>
  ⟨q.1, q.2.1.calling rfl rfl, q.2.2⟩
abbrev mj_Met (l : Launch) (sz0 : Nat) (ad : Nat → Nat) (E : Nat → ClassId) (D : va_G) (cst : List (List Int32)) (mm : Nat) (vs : List Value) (h : mj_Hp) (r : Option Value) (h' : mj_Hp) : Prop :=
  Met l (mj_y mm) (mj_ws mm) { frames := mj_rF mm, cells := h'.length - h.length, slots := mj_sl h' - mj_sl h, locals := mj_rL mm } (mj_Pc sz0 ad E D cst vs h) (mj_Q sz0 ad E D r h') (h'.length - h.length) (mj_sl h' - mj_sl h) (mj_A sz0)
/-- what the words must say for a call -/
def mj_ck (mm idx kd a b : Nat) : Prop :=
  a < mj_NC ∧ GoodIn (mj_ws mm) (mj_ws a) ∧ Cond.initialized (mj_y a).cls ∈ mj_ws mm ∧ (mj_rF a + 1 ≤ mj_rF mm ∧ 8 + (mj_maxL a + 11) + mj_rL a ≤ mj_rL mm) ∧
  ((mj_y a).cls ≠ "java/lang/invoke/MethodHandle" ∧ (mj_y a).cls ≠ "java/lang/invoke/VarHandle" ∧ (parseMethodDescriptor (mj_y a).desc).map (fun d => d.parameters.length) = some b) ∧
  (Cond.methodLink (mj_own mm) idx (mj_y a) ∈ mj_ws mm ∨ ∃ host, Cond.methodLinkNest (mj_own mm) idx (mj_y a) host ∈ mj_bad) ∧
  (kd = 0 → (mj_y a).name = "<init>" ∧ Cond.instanceMethod (mj_y a) ∈ mj_ws mm ∧ mj_ret a = none) ∧
  (kd = 1 → Cond.instanceMethod (mj_y a) ∈ mj_ws mm ∧ Cond.selects (mj_y a).cls (mj_y a) (mj_y a) ∈ mj_ws mm ∧ mj_ci a < 20 ∧ ∃ r, vwCl[mj_ci a]? = some r ∧ r.1 = (mj_y a).cls) ∧
  (kd = 2 → Cond.static (mj_y a) ∈ mj_ws mm)
def mj_cok (mm : Nat) (i : Instr) (a b : Nat) : Prop := match i with
  | .invokespecial idx => if a = 1000 then (Cond.methodLink (mj_own mm) idx objectInit ∈ mj_ws mm ∧ Cond.instanceMethod objectInit ∈ mj_ws mm ∧ Cond.code objectInit ⟨#[0xb1]⟩ 1 none ∈ mj_ws mm ∧ 1 ≤ mj_rF mm ∧ 20 ≤ mj_rL mm) else mj_ck mm idx 0 a b
  | .invokevirtual idx => mj_ck mm idx 1 a b
  | .invokestatic idx => if a = 1001 then (Cond.methodLink (mj_own mm) idx Lib.Math.max.name ∈ mj_ws mm ∧ Cond.static Lib.Math.max.name ∈ mj_ws mm ∧ Cond.initialized "java/lang/Math" ∈ mj_ws mm ∧ Cond.code Lib.Math.max.name Lib.Math.max.code 2 (some .int) ∈ mj_ws mm ∧ 1 ≤ mj_rF mm ∧ 21 ≤ mj_rL mm)
      else if a = 1002 then (Cond.methodLink (mj_own mm) idx Lib.Math.min.name ∈ mj_ws mm ∧ Cond.static Lib.Math.min.name ∈ mj_ws mm ∧ Cond.initialized "java/lang/Math" ∈ mj_ws mm ∧ Cond.code Lib.Math.min.name Lib.Math.min.code 2 (some .int) ∈ mj_ws mm ∧ 1 ≤ mj_rF mm ∧ 21 ≤ mj_rL mm)
      else mj_ck mm idx 2 a b
  | _ => True
def mj_good (mm : Nat) : Prop := (mm < mj_NC → ∃ ws', mj_ws mm = Cond.code (mj_y mm) (mj_code mm) (mj_maxL mm) (mj_ret mm) :: ws') ∧ plainName (mj_y mm).cls = true ∧
  ∀ (pc : Nat) (i : Instr) (a b : Nat), mj_at mm pc = some (i, a, b) → mj_dec mm pc i ∧ mj_lk mm pc i a b ∧ mj_cok mm i a b
theorem mj_args_tr {sz0 : Nat} {ad : Nat → Nat} : ∀ (vs : List Value) (i : Nat), lv_args i (vs.map (mj_tr sz0 ad)) = mj_trL sz0 ad (lv_args i vs)
  | [], _ => rfl
  | v :: vs, i => by
    show (i, mj_tr sz0 ad v) :: lv_args (if (mj_tr sz0 ad v).category = 2 then i + 2 else i + 1) (vs.map (mj_tr sz0 ad)) = _
    rw [mj_tr_cat, mj_args_tr vs]
    rfl
theorem mj_sl_args {sz0 : Nat} {ad : Nat → Nat} : ∀ (vs : List Value), vs.all (fun v => v.category == 1) = true → (lg_sl (vs.map (mj_tr sz0 ad))).length = vs.length
  | [], _ => rfl
  | v :: vs, h => by
    simp only [List.all_cons, Bool.and_eq_true, beq_iff_eq] at h
    have ih := mj_sl_args (sz0 := sz0) (ad := ad) vs h.2
    unfold lg_sl at ih ⊢
    rw [List.map_cons, List.flatMap_cons, List.length_append, ih, mj_tr_cat, h.1]
    simp; omega
section MJR
variable {p : Program} {l : Launch} {e : Env} {R : Room} {s : State} {m : MethodId} {args : Array Value} {below : List Frame} {meth : Method} {c : Code} {H : Heap} {locs : List Loc} {cells slots : Nat} {Q : State → Prop}
variable {sz0 : Nat} {ad : Nat → Nat} {E : Nat → ClassId} {D : va_G} {cst : List (List Int32)}
theorem mj_w_call {a : Array Value} {mc ms pc : Nat} {ls : Array Slot} {st0 rest : List Value} {r : Option Value} {h' : mj_Hp} (hr : va_Run p l e R s m args below meth c H locs cells slots mc ms (F0 m pc ls st0) rest (mj_Q sz0 ad E D r h' a) (mj_A sz0)) (hS : va_S (mj_A sz0) s.heap H locs)
    (kk : ∀ (H1 : Heap) (locs1 : List Loc), mj_P sz0 ad E D h' H1 → va_S (mj_A sz0) s.heap H1 locs1 → W p l e R s m args below meth c H1 locs1 (cells + mc) (slots + ms) Q (F0 m (pc + 3) ls ((r.map (mj_tr sz0 ad)).toList ++ rest))) : W p l e R s m args below meth c H locs cells slots Q (F0 m pc ls st0) := by
  intro T hT X
  obtain ⟨v, st₀, t, T', L, h0, X', hL, e1, e2, ⟨hv, hp, hz, hk⟩, st⟩ := hr T hT X
  cases hv
  rw [h0] at hz hk
  obtain ⟨t2, a1, b1⟩ := kk T'.heap (locs ++ L) (by rw [e1]; exact hp)
    ⟨Nat.le_trans hS.1 (by rw [e1]; exact hz), fun q h1 h2 => by rw [e1, hk q (Nat.lt_of_lt_of_le h1 hS.1) h2]; exact hS.2.1 q h1 h2, fun q hq => by
      rcases List.mem_append.mp hq with h | h
      · exact hS.2.2 q h
      · exact hL q h⟩ T' rfl X'
  exact ⟨t2, st t2 a1, b1⟩
/-- what holds of a method's frame all through -/
abbrev mj_Fr (mm : Nat) (p : Program) (R : Room) (s : State) (m : MethodId) (args : Array Value) (meth : Method) (c : Code) : Prop :=
  p.tables.exec = Jvm.exec ∧ c.code = mj_code mm ∧ c.maxLocals = mj_maxL mm ∧ meth.sig.returnType = mj_ret mm ∧ meth.locks = false ∧ s.vm.findClass (mj_own mm) = some m.cls ∧ (∀ w ∈ mj_ws mm, w.before args s = true) ∧ (mj_init mm = true → meth.name = "<init>") ∧ mj_rF mm ≤ R.frames ∧ mj_rL mm ≤ R.locals
def mj_Sim (l : Launch) (sz0 : Nat) (ad : Nat → Nat) (E : Nat → ClassId) (D : va_G) (cst : List (List Int32)) (n : Nat) : Prop :=
  ∀ (mm pc : Nat) (ls : mj_Ls) (st : List Value) (h : mj_Hp) (r : Option Value) (h' : mj_Hp), mm < mj_N → mj_run cst n mm pc ls st h = some (r, h') →
    ∀ (p : Program) (e : Env) (R : Room) (s : State) (m : MethodId) (args : Array Value) (below : List Frame) (meth : Method) (c : Code) (H : Heap) (locs : List Loc) (cells slots mc ms : Nat) (lsA : Array Slot),
      mj_Fr mm p R s m args meth c → mj_K sz0 ad E D cst s → mj_P sz0 ad E D h H → va_S (mj_A sz0) s.heap H locs → lv_has lsA (mj_maxL mm) (mj_trL sz0 ad ls) → mc ≤ R.cells → ms ≤ R.slots → mc + h.length = cells + h'.length → ms + mj_sl h = slots + mj_sl h' →
      W p l e R s m args below meth c H locs cells slots (MQ below (mj_Q sz0 ad E D r h') args s mc ms (mj_A sz0)) (F0 m pc lsA (st.map (mj_tr sz0 ad)))
theorem mj_met (G : ∀ mm, mm < mj_N → mj_good mm) {n : Nat} (IH : mj_Sim l sz0 ad E D cst n) {mm : Nat} (hmm : mm < mj_NC) {vs : List Value} {h : mj_Hp} {r : Option Value} {h' : mj_Hp} (hrun : mj_run cst n mm 0 (lv_args 0 vs) [] h = some (r, h')) (hargs : mj_argsOk mm vs = true) : mj_Met l sz0 ad E D cst mm vs h r h' := by
  have hmN : mm < mj_N := Nat.lt_succ_of_lt hmm
  obtain ⟨hw0, hpl, -⟩ := G mm hmN
  obtain ⟨ws', hw⟩ := hw0 hmm
  have hlen := mj_run_len hrun
  simp only [mj_argsOk, Bool.and_eq_true, decide_eq_true_eq] at hargs
  refine Met.ofW (cc := mj_code mm) (maxL := mj_maxL mm) (ret := mj_ret mm) hpl hw ?_
  intro p e s m args below meth c s₁ B hml hv
  obtain ⟨rfl, hK, hP⟩ := hv
  have hts := atoms_spec (ws := mj_ws mm) B.pre
  have hown : s.vm.findClass (mj_own mm) = some m.cls := findClass_of_methodNamed B.named
  have hl := lv_entry (vs.map (mj_tr sz0 ad)) (n := mj_maxL mm) (by rw [mj_sl_args vs hargs.1]; exact hargs.2)
  rw [lg_entry_eq]
  generalize (lg_sl (vs.map (mj_tr sz0 ad)) ++ List.replicate (mj_maxL mm - (lg_sl (vs.map (mj_tr sz0 ad))).length) Slot.unset).toArray = lsA at hl ⊢
  rw [mj_args_tr] at hl
  exact IH mm 0 (lv_args 0 vs) [] h r h' hmN hrun p e _ s m _ below meth c s.heap [] 0 0 _ _ lsA ⟨B.exec, B.bytes, hml, B.returns, B.notSynchronized, hown, hts, fun hi => (name_of_methodNamed B.named B.method).1.trans (by simpa [mj_init] using hi), Nat.le_refl _, Nat.le_refl _⟩ hK hP va_S.rf hl (Nat.le_refl _) (Nat.le_refl _) (by omega) (by omega)
end MJR
