theorem mj_Gin (i : Nat) {w : Cond} (h : tables_1[i]? = some w) (hg : goodWord w = true) : w ∈ mj_G := List.mem_filter.mpr ⟨List.mem_append_right _ (List.mem_of_getElem? h), hg⟩
theorem mj_Gsel (i : Nat) {w : Cond} (h : (k2_sels lw_privs)[i]? = some w) (hg : goodWord w = true) : w ∈ mj_G := List.mem_filter.mpr ⟨List.mem_append_left _ (List.mem_of_getElem? h), hg⟩
theorem mj_Gws {mm : Nat} {w : Cond} (h : w ∈ mj_G) : w ∈ mj_ws mm := by
  unfold mj_ws
  cases Nat.beq mm mj_NC
  · exact List.mem_cons_of_mem _ h
  · exact h
theorem mj_goodIn {mm a : Nat} (hc : Cond.code (mj_y a) (mj_code a) (mj_maxL a) (mj_ret a) ∈ mj_G) : GoodIn (mj_ws mm) (mj_ws a) := by
  have hg : ∀ w ∈ mj_G, goodWord w = true := fun w hw => (List.mem_filter.mp hw).2
  intro w hw
  have hw1 : w ∈ mj_G := by
    unfold mj_ws at hw
    cases hn : Nat.beq a mj_NC
    · rw [hn] at hw
      rcases List.mem_cons.mp hw with h | h
      · rw [h]; exact hc
      · exact h
    · rw [hn] at hw
      exact hw
  exact ⟨mj_Gws hw1, good_of_word (hg w hw1)⟩
theorem mj_lkG {mm pc idx a b : Nat} {C : String} {T : u_T} {N : Nat} (h1 : a < 20) (hc : vwCl[a]? = some (C, T, N)) (hb : b < N) (hU : ∀ w ∈ u_ws C T N, w ∈ mj_G) (hf : Cond.fieldLink (mj_own mm) idx (T b).1 (T b).2.1 (T b).2.2.1 ∈ mj_G) : mj_lk mm pc (.getfield idx) a b := ⟨C, T, N, h1, hc, hb, fun w hw => mj_Gws (hU w hw), mj_Gws hf⟩
theorem mj_lkP {mm pc idx a b : Nat} {C : String} {T : u_T} {N : Nat} {ty0 : Nat → FieldType} (h1 : a < 20) (hc : vwCl[a]? = some (C, T, N)) (hb : b < N) (hU : ∀ w ∈ u_ws C T N, w ∈ mj_G) (hf : Cond.fieldLink (mj_own mm) idx (T b).1 (T b).2.1 (T b).2.2.1 ∈ mj_G) (hty : ∀ k, k < N → parseFieldDescriptor (T k).2.2.1 = some (ty0 k)) (hnm : ∀ a, a < N → ∀ b, b < N → a ≠ b → (T a).2.1 ≠ (T b).2.1) (hfin : (T b).2.2.2 = false ∨ ((T b).2.2.2 = true ∧ mj_init mm = true ∧ (T b).1 = mj_own mm)) (hk : mj_fty a b = mj_kind (ty0 b)) : mj_lk mm pc (.putfield idx) a b := ⟨C, T, N, ty0, ty0 b, h1, hc, hb, fun w hw => mj_Gws (hU w hw), mj_Gws hf, hty, hnm, hfin, hty b hb, hk⟩
theorem mj_lkN {mm pc idx a b : Nat} {C : String} {T : u_T} {N : Nat} {ty : Nat → FieldType} (h1 : a < 20) (hc : vwCl[a]? = some (C, T, N)) (hU : ∀ w ∈ u_ws C T N, w ∈ mj_G) (hty : ∀ k, k < N → parseFieldDescriptor (T k).2.2.1 = some (ty k)) (hl : Cond.classLink (mj_own mm) idx C ∈ mj_G) (hi : Cond.instantiable C N ∈ mj_G) (hn : Cond.initialized C ∈ mj_G) (hlen : (mj_blank a).length = N) (hnr : ∀ v ∈ mj_blank a, ∀ k, v ≠ .ref k) (hdv : ∀ j, j < N → defaultValue (ty j) = vp_V (mj_blank a) j) : mj_lk mm pc (.new idx) a b := ⟨C, T, N, ty, h1, hc, fun w hw => mj_Gws (hU w hw), hty, mj_Gws hl, mj_Gws hi, mj_Gws hn, hlen, hnr, hdv⟩
theorem mj_noref {l : List Value} (h : l.all (fun v => decide (v = .null ∨ v = .int 0)) = true) : ∀ v ∈ l, ∀ k, v ≠ .ref k := by
  intro v hv k
  have h1 := List.all_eq_true.mp h v hv
  simp only [decide_eq_true_eq] at h1
  rcases h1 with h1 | h1 <;> rw [h1] <;> exact fun q => by cases q
abbrev mj_lnk (mm idx a : Nat) : Prop := Cond.methodLink (mj_own mm) idx (mj_y a) ∈ mj_ws mm ∨ ∃ host, Cond.methodLinkNest (mj_own mm) idx (mj_y a) host ∈ mj_bad
theorem mj_lnkG {mm idx a : Nat} (h : Cond.methodLink (mj_own mm) idx (mj_y a) ∈ mj_G) : mj_lnk mm idx a := Or.inl (mj_Gws h)
abbrev mj_rm (mm a : Nat) : Prop := mj_rF a + 1 ≤ mj_rF mm ∧ 8 + (mj_maxL a + 11) + mj_rL a ≤ mj_rL mm
abbrev mj_dsc (a b : Nat) : Prop := (mj_y a).cls ≠ "java/lang/invoke/MethodHandle" ∧ (mj_y a).cls ≠ "java/lang/invoke/VarHandle" ∧ (parseMethodDescriptor (mj_y a).desc).map (fun d => d.parameters.length) = some b
/-- what is known of a method that is called, whoever calls it -/
def mj_cal (kd a b : Nat) : Prop := a < mj_NC ∧ Cond.code (mj_y a) (mj_code a) (mj_maxL a) (mj_ret a) ∈ mj_G ∧ Cond.initialized (mj_y a).cls ∈ mj_G ∧ mj_dsc a b ∧ (kd = 0 → (mj_y a).name = "<init>" ∧ Cond.instanceMethod (mj_y a) ∈ mj_G ∧ mj_ret a = none) ∧ (kd = 1 → Cond.instanceMethod (mj_y a) ∈ mj_G ∧ Cond.selects (mj_y a).cls (mj_y a) (mj_y a) ∈ mj_G ∧ mj_ci a < 20 ∧ ∃ r, vwCl[mj_ci a]? = some r ∧ r.1 = (mj_y a).cls) ∧ (kd = 2 → Cond.static (mj_y a) ∈ mj_G)
theorem mj_ckOf {mm idx kd a b : Nat} (hc : mj_cal kd a b) (hr : mj_rm mm a) (hl : mj_lnk mm idx a) : mj_ck mm idx kd a b := by
  obtain ⟨h1, h2, h3, h4, h5, h6, h7⟩ := hc
  refine ⟨h1, mj_goodIn h2, mj_Gws h3, hr, h4, hl, fun k => ?_, fun k => ?_, fun k => mj_Gws (h7 k)⟩
  · exact ⟨(h5 k).1, mj_Gws (h5 k).2.1, (h5 k).2.2⟩
  · exact ⟨mj_Gws (h6 k).1, mj_Gws (h6 k).2.1, (h6 k).2.2⟩
theorem mj_look_mem {l : List (Nat × Instr × Nat × Nat)} {pc : Nat} {x : Instr × Nat × Nat} (h : mj_look l pc = some x) : (pc, x) ∈ l := by
  induction l with
  | nil => cases h
  | cons e r ih =>
    unfold mj_look at h
    cases hb : Nat.beq e.1 pc with
    | true =>
      rw [hb] at h
      cases h
      have := Nat.eq_of_beq_eq_true hb
      subst this
      exact List.mem_cons_self
    | false =>
      rw [hb] at h
      exact List.mem_cons_of_mem _ (ih h)
def mj_ckd (mm : Nat) : Bool := (mj_tb mm).all (fun e => match decode (mj_code mm) e.1 with
  | .ok (j, len) => decide (j = e.2.1) && (Nat.beq (mj_len e.2.1) 0 || Nat.beq len (mj_len e.2.1))
  | .error _ => false)
theorem mj_goodOf {mm : Nat} (h1 : mm < mj_NC → ∃ ws', mj_ws mm = Cond.code (mj_y mm) (mj_code mm) (mj_maxL mm) (mj_ret mm) :: ws') (h2 : plainName (mj_y mm).cls = true) (h3 : mj_ckd mm = true) (h4 : ∀ e ∈ mj_tb mm, mj_lk mm e.1 e.2.1 e.2.2.1 e.2.2.2 ∧ mj_cok mm e.2.1 e.2.2.1 e.2.2.2) : mj_good mm := by
  refine ⟨h1, h2, fun pc i a b h => ?_⟩
  have hm := mj_look_mem h
  have hd := List.all_eq_true.mp h3 _ hm
  refine ⟨?_, h4 _ hm⟩
  dsimp only at hd
  cases hdc : decode (mj_code mm) pc with
  | error e => rw [hdc] at hd; cases hd
  | ok x =>
    obtain ⟨j, len⟩ := x
    rw [hdc] at hd
    simp only [Bool.and_eq_true, Bool.or_eq_true, decide_eq_true_eq] at hd
    obtain ⟨rfl, hl⟩ := hd
    exact ⟨len, hdc, hl.elim (fun h => Or.inl (Nat.eq_of_beq_eq_true h)) (fun h => Or.inr (Nat.eq_of_beq_eq_true h))⟩
set_option maxRecDepth 20000 in
theorem mj_inU0 : ∀ w ∈ u_ws "CeilingKernel" mj_T0 5, w ∈ mj_G := by
  have h : u_ws "CeilingKernel" mj_T0 5 = ([343, 345, 347, 349, 351] : List Nat).filterMap (fun i => tables_1[i]?) := by decide +kernel
  have hg : (u_ws "CeilingKernel" mj_T0 5).all goodWord = true := by decide +kernel
  intro w hw
  have h2 := List.all_eq_true.mp hg w hw
  rw [h] at hw
  obtain ⟨i, -, hi⟩ := List.mem_filterMap.mp hw
  exact mj_Gin i hi h2
set_option maxRecDepth 20000 in
theorem mj_inU1 : ∀ w ∈ u_ws "CeilingKernel$Checker" mj_T1 5, w ∈ mj_G := by
  have h : u_ws "CeilingKernel$Checker" mj_T1 5 = ([36, 38, 40, 42, 44] : List Nat).filterMap (fun i => tables_1[i]?) := by decide +kernel
  have hg : (u_ws "CeilingKernel$Checker" mj_T1 5).all goodWord = true := by decide +kernel
  intro w hw
  have h2 := List.all_eq_true.mp hg w hw
  rw [h] at hw
  obtain ⟨i, -, hi⟩ := List.mem_filterMap.mp hw
  exact mj_Gin i hi h2
set_option maxRecDepth 20000 in
theorem mj_inU2 : ∀ w ∈ u_ws "CeilingKernel$Figures" mj_T2 6, w ∈ mj_G := by
  have h : u_ws "CeilingKernel$Figures" mj_T2 6 = ([68, 70, 72, 74, 76, 78] : List Nat).filterMap (fun i => tables_1[i]?) := by decide +kernel
  have hg : (u_ws "CeilingKernel$Figures" mj_T2 6).all goodWord = true := by decide +kernel
  intro w hw
  have h2 := List.all_eq_true.mp hg w hw
  rw [h] at hw
  obtain ⟨i, -, hi⟩ := List.mem_filterMap.mp hw
  exact mj_Gin i hi h2
set_option maxRecDepth 20000 in
theorem mj_inU3 : ∀ w ∈ u_ws "CeilingKernel$Task" mj_T3 4, w ∈ mj_G := by
  have h : u_ws "CeilingKernel$Task" mj_T3 4 = ([141, 143, 145, 147] : List Nat).filterMap (fun i => tables_1[i]?) := by decide +kernel
  have hg : (u_ws "CeilingKernel$Task" mj_T3 4).all goodWord = true := by decide +kernel
  intro w hw
  have h2 := List.all_eq_true.mp hg w hw
  rw [h] at hw
  obtain ⟨i, -, hi⟩ := List.mem_filterMap.mp hw
  exact mj_Gin i hi h2
set_option maxRecDepth 20000 in
theorem mj_inU4 : ∀ w ∈ u_ws "CeilingKernel$Routine" mj_T4 7, w ∈ mj_G := by
  have h : u_ws "CeilingKernel$Routine" mj_T4 7 = ([114, 116, 118, 120, 122, 124, 126] : List Nat).filterMap (fun i => tables_1[i]?) := by decide +kernel
  have hg : (u_ws "CeilingKernel$Routine" mj_T4 7).all goodWord = true := by decide +kernel
  intro w hw
  have h2 := List.all_eq_true.mp hg w hw
  rw [h] at hw
  obtain ⟨i, -, hi⟩ := List.mem_filterMap.mp hw
  exact mj_Gin i hi h2
set_option maxRecDepth 20000 in
theorem mj_inU5 : ∀ w ∈ u_ws "CeilingKernel$Machine" mj_T5 14, w ∈ mj_G := by
  have h : u_ws "CeilingKernel$Machine" mj_T5 14 = ([309, 311, 313, 315, 317, 319, 321, 323, 325, 327, 329, 331, 333, 335] : List Nat).filterMap (fun i => tables_1[i]?) := by decide +kernel
  have hg : (u_ws "CeilingKernel$Machine" mj_T5 14).all goodWord = true := by decide +kernel
  intro w hw
  have h2 := List.all_eq_true.mp hg w hw
  rw [h] at hw
  obtain ⟨i, -, hi⟩ := List.mem_filterMap.mp hw
  exact mj_Gin i hi h2
set_option maxRecDepth 20000 in
theorem mj_inU6 : ∀ w ∈ u_ws "CeilingKernel$Job" mj_T6 16, w ∈ mj_G := by
  have h : u_ws "CeilingKernel$Job" mj_T6 16 = ([221, 223, 225, 227, 229, 231, 233, 235, 237, 239, 241, 243, 245, 247, 249, 251] : List Nat).filterMap (fun i => tables_1[i]?) := by decide +kernel
  have hg : (u_ws "CeilingKernel$Job" mj_T6 16).all goodWord = true := by decide +kernel
  intro w hw
  have h2 := List.all_eq_true.mp hg w hw
  rw [h] at hw
  obtain ⟨i, -, hi⟩ := List.mem_filterMap.mp hw
  exact mj_Gin i hi h2
set_option maxRecDepth 20000 in
theorem mj_inU7 : ∀ w ∈ u_ws "CeilingKernel$Journal" mj_T7 5, w ∈ mj_G := by
  have h : u_ws "CeilingKernel$Journal" mj_T7 5 = ([170, 172, 174, 176, 178] : List Nat).filterMap (fun i => tables_1[i]?) := by decide +kernel
  have hg : (u_ws "CeilingKernel$Journal" mj_T7 5).all goodWord = true := by decide +kernel
  intro w hw
  have h2 := List.all_eq_true.mp hg w hw
  rw [h] at hw
  obtain ⟨i, -, hi⟩ := List.mem_filterMap.mp hw
  exact mj_Gin i hi h2
set_option maxRecDepth 20000 in
theorem mj_inU8 : ∀ w ∈ u_ws "CeilingKernel$Post" mj_T8 6, w ∈ mj_G := by
  have h : u_ws "CeilingKernel$Post" mj_T8 6 = ([266, 268, 270, 272, 274, 276] : List Nat).filterMap (fun i => tables_1[i]?) := by decide +kernel
  have hg : (u_ws "CeilingKernel$Post" mj_T8 6).all goodWord = true := by decide +kernel
  intro w hw
  have h2 := List.all_eq_true.mp hg w hw
  rw [h] at hw
  obtain ⟨i, -, hi⟩ := List.mem_filterMap.mp hw
  exact mj_Gin i hi h2
set_option maxRecDepth 20000 in
theorem mj_inU9 : ∀ w ∈ u_ws "CeilingKernel$Mailbox" mj_T9 2, w ∈ mj_G := by
  have h : u_ws "CeilingKernel$Mailbox" mj_T9 2 = ([286, 288] : List Nat).filterMap (fun i => tables_1[i]?) := by decide +kernel
  have hg : (u_ws "CeilingKernel$Mailbox" mj_T9 2).all goodWord = true := by decide +kernel
  intro w hw
  have h2 := List.all_eq_true.mp hg w hw
  rw [h] at hw
  obtain ⟨i, -, hi⟩ := List.mem_filterMap.mp hw
  exact mj_Gin i hi h2
set_option maxRecDepth 20000 in
theorem mj_inU10 : ∀ w ∈ u_ws "CeilingKernelModel" mj_T10 54, w ∈ mj_G := by
  have h : u_ws "CeilingKernelModel" mj_T10 54 = ([787, 789, 791, 793, 795, 797, 799, 801, 803, 805, 807, 809, 811, 813, 815, 817, 819, 821, 823, 825, 827, 829, 831, 833, 835, 837, 839, 841, 843, 845, 847, 849, 851, 853, 855, 857, 859, 861, 863, 865, 867, 869, 871, 873, 875, 877, 879, 881, 883, 885, 887, 889, 891, 893] : List Nat).filterMap (fun i => tables_1[i]?) := by decide +kernel
  have hg : (u_ws "CeilingKernelModel" mj_T10 54).all goodWord = true := by decide +kernel
  intro w hw
  have h2 := List.all_eq_true.mp hg w hw
  rw [h] at hw
  obtain ⟨i, -, hi⟩ := List.mem_filterMap.mp hw
  exact mj_Gin i hi h2
