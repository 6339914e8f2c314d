/-! THE CLAIM OUT OF ONE WALK OF THE LAW'S BODY. Your part is whole_start (and what it stands on); all else here is the same for every law, but numbers. -/
def R_law : String := "CeilingKernelLaw"
def lw_P (b : Addr) (xs : List Int32) (args : Array Value) (s : State) : Prop := args = #[.ref b] ∧ s.IntsAt b xs ∧ xs.length ≤ 3072 ∧ (Jvm.Cond.and given_1 narrow_1).before args s = true
def lw_Q (_ : Array Value) (s : State) (o : Outcome) (t : State) : Prop := o = .returned (some (.int 1)) ∧ Framed s o t [] 600000 7302250
def lw_Z (below : List Frame) (a : Array Value) (s : State) : State → Prop := fun t => ∃ o, t.status = .running ∧ Ended t below o ∧ lw_Q a s o t
/-- the law's own end, with 1 on the stack, nothing written that was there before, its room as the claim has it -/
theorem lw_ret {p : Program} {l : Launch} {e : Env} {s : State} {m : MethodId} {below : List Frame} {meth : Method} {c : Code} {b : Nat} (hx : p.tables.exec = Jvm.exec) (hb : c.code = code) (hr : meth.sig.returnType = ret) (hlocks : meth.locks = false) {pc : Nat} {H : Heap} {ls : Array Slot} (hdg : decode code pc = .ok (.ireturn, 1)) : W p l e room_1 s m #[Value.ref b] below meth c H [] 600000 7302250 (lw_Z below #[Value.ref b] s) (F0 m pc ls [.int 1]) := by
  intro T hT X
  obtain ⟨fs, hret, hrun, hended, hW, hframe⟩ := X.leave (v := some (.int 1)) (hlocks := hlocks) (fun h => by rw [hr] at h; cases h)
  have hmeth' : T.vm.method? m = some meth := X.method'
  refine ⟨T.setFrames fs, ?_, .returned (some (.int 1)), hrun, hended, rfl, ⟨_, rfl⟩, hW, hframe⟩
  jvm_step X.here [X.here.top, hx, hb, hdg, hmeth', hr, ret, narrow_b1]
  (try refine ⟨rfl, ?_⟩); (try refine ⟨rfl, ?_⟩)
  first | (intro acts; rw [hret _ acts rfl rfl rfl]) | rw [hret _ _ rfl rfl rfl]
  exact Steps.refl _
/-- what holds at the law's entry: the machine, the code, the tables' words (any of lw_tbl by 'hts w (by decide +kernel)'), the script of L ints xs at the cell b, what the Statement gives of the start (any of its parts by flat_of_before) -/
def lw_At (p : Program) (s : State) (m : MethodId) (meth : Method) (c : Code) (b L : Nat) (xs : Nat → Int32) : Prop :=
  p.tables.exec = Jvm.exec ∧ c.code = code ∧ meth.sig.returnType = ret ∧ c.maxLocals = 4 ∧ s.vm.findClass R_law = some m.cls ∧ (∀ w ∈ lw_tbl, w.before #[Value.ref b] s = true) ∧ va_X b L xs s s.heap ∧ b < s.heap.size ∧ meth.locks = false ∧ (Jvm.Cond.and given_1 narrow_1).before #[Value.ref b] s = true
/-! From the law's entry to the small machine. -/
def mj_COST : List Int32 := [1, 1, 4, 2, 2, 2, 1, 1, 2, 1, 2, 1, 1, 2, 2]
def mj_X_MOST : List Int32 := [3, 3, 3, 3, 3, 3, 0, 0, 0, 0, 0, 3, 3, 3, 3]
def mj_Y_LEAST : List Int32 := [-2147483648, 0, 0, 0, 0, 1, 1, 0, 0, 0, 0, 0, 0, 0, 0]
def mj_Y_MOST : List Int32 := [2147483647, 3, 3, 7, 7, 11, 8, 0, 3, 0, 2, 1, 0, 1, 1]
def mj_cst (xs : List Int32) : List (List Int32) := [xs, mj_COST, mj_X_MOST, mj_Y_LEAST, mj_Y_MOST]
theorem mj_stat {args : Array Value} {s : State} {n : String} {A : Nat → Prop} (l : List Int32) (hl : (Cond.laysStatic "CeilingKernel" n "[I").before args s = true) (hini : (Cond.initialized "CeilingKernel").before args s = true) (harr : (Cond.arrayOf (.static "CeilingKernel" n "[I") .int).before args s = true) (hln : (Cond.eq (.length (.static "CeilingKernel" n "[I")) (.int 15)).before args s = true)
    (hel : ∀ j, j < 15 → (Cond.eq (.elem (.static "CeilingKernel" n "[I") (.int (Int32.ofNat j))) (.int (l.getD j 0))).before args s = true) (hA : ∀ a : Nat, a < s.heap.size → ¬ A a) : ∃ t : Nat, va_Z "CeilingKernel" n "[I" (.ref t) A s s.heap ∧ va_T .int t 15 (fun j => .int (l.getD j 0)) A s s.heap := by
  obtain ⟨t, ht, hT⟩ := va_Tof (N := 15) (f := fun j => .int (l.getD j 0)) (A := A) (by decide) harr (va_eqt hln) (fun j hj => va_eqt (hel j hj)) hA
  exact ⟨t, va_Zref hl hini ht hA, hT⟩
theorem mj_tin (i : Nat) {w : Cond} (h : tables_1[i]? = some w) : w ∈ lw_tbl := List.mem_append_right _ (List.mem_of_getElem? h)
theorem mj_Glw {w : Cond} (h : w ∈ mj_G) : w ∈ lw_tbl := (List.mem_filter.mp h).1
theorem mj_exD {args : Array Value} {s : State} (hts : ∀ w ∈ lw_tbl, w.before args s = true) : ∃ D : va_G, ∀ (c : Nat) (q : vw_C), vwCl[c]? = some q → u_Kn s q.1 q.2.1 q.2.2 (D.1 c) (D.2 c) := by
  have key : ∀ c : Nat, ∃ p : ClassId × (Nat → Nat), ∀ q : vw_C, vwCl[c]? = some q → u_Kn s q.1 q.2.1 q.2.2 p.1 p.2 := by
    intro c
    match c with
    | 0 =>
      obtain ⟨cC, iS, h⟩ := u_known (C := "CeilingKernel") (T := mj_T0) (N := 5) (n := 5) hts (fun w hw => mj_Glw (mj_inU0 w hw)) (hts _ (mj_tin 15 (by decide +kernel)))
      exact ⟨(cC, iS), fun q hq => by cases hq; exact h⟩
    | 1 =>
      obtain ⟨cC, iS, h⟩ := u_known (C := "CeilingKernel$Checker") (T := mj_T1) (N := 5) (n := 5) hts (fun w hw => mj_Glw (mj_inU1 w hw)) (hts _ (mj_tin 25 (by decide +kernel)))
      exact ⟨(cC, iS), fun q hq => by cases hq; exact h⟩
    | 2 =>
      obtain ⟨cC, iS, h⟩ := u_known (C := "CeilingKernel$Figures") (T := mj_T2) (N := 6) (n := 6) hts (fun w hw => mj_Glw (mj_inU2 w hw)) (hts _ (mj_tin 49 (by decide +kernel)))
      exact ⟨(cC, iS), fun q hq => by cases hq; exact h⟩
    | 3 =>
      obtain ⟨cC, iS, h⟩ := u_known (C := "CeilingKernel$Task") (T := mj_T3) (N := 4) (n := 4) hts (fun w hw => mj_Glw (mj_inU3 w hw)) (hts _ (mj_tin 81 (by decide +kernel)))
      exact ⟨(cC, iS), fun q hq => by cases hq; exact h⟩
    | 4 =>
      obtain ⟨cC, iS, h⟩ := u_known (C := "CeilingKernel$Routine") (T := mj_T4) (N := 7) (n := 7) hts (fun w hw => mj_Glw (mj_inU4 w hw)) (hts _ (mj_tin 88 (by decide +kernel)))
      exact ⟨(cC, iS), fun q hq => by cases hq; exact h⟩
    | 5 =>
      obtain ⟨cC, iS, h⟩ := u_known (C := "CeilingKernel$Machine") (T := mj_T5) (N := 14) (n := 14) hts (fun w hw => mj_Glw (mj_inU5 w hw)) (hts _ (mj_tin 151 (by decide +kernel)))
      exact ⟨(cC, iS), fun q hq => by cases hq; exact h⟩
    | 6 =>
      obtain ⟨cC, iS, h⟩ := u_known (C := "CeilingKernel$Job") (T := mj_T6) (N := 16) (n := 16) hts (fun w hw => mj_Glw (mj_inU6 w hw)) (hts _ (mj_tin 189 (by decide +kernel)))
      exact ⟨(cC, iS), fun q hq => by cases hq; exact h⟩
    | 7 =>
      obtain ⟨cC, iS, h⟩ := u_known (C := "CeilingKernel$Journal") (T := mj_T7) (N := 5) (n := 5) hts (fun w hw => mj_Glw (mj_inU7 w hw)) (hts _ (mj_tin 159 (by decide +kernel)))
      exact ⟨(cC, iS), fun q hq => by cases hq; exact h⟩
    | 8 =>
      obtain ⟨cC, iS, h⟩ := u_known (C := "CeilingKernel$Post") (T := mj_T8) (N := 6) (n := 6) hts (fun w hw => mj_Glw (mj_inU8 w hw)) (hts _ (mj_tin 183 (by decide +kernel)))
      exact ⟨(cC, iS), fun q hq => by cases hq; exact h⟩
    | 9 =>
      obtain ⟨cC, iS, h⟩ := u_known (C := "CeilingKernel$Mailbox") (T := mj_T9) (N := 2) (n := 2) hts (fun w hw => mj_Glw (mj_inU9 w hw)) (hts _ (mj_tin 279 (by decide +kernel)))
      exact ⟨(cC, iS), fun q hq => by cases hq; exact h⟩
    | 10 =>
      obtain ⟨cC, iS, h⟩ := u_known (C := "CeilingKernelModel") (T := mj_T10) (N := 54) (n := 54) hts (fun w hw => mj_Glw (mj_inU10 w hw)) (hts _ (mj_tin 728 (by decide +kernel)))
      exact ⟨(cC, iS), fun q hq => by cases hq; exact h⟩
    | n + 11 => exact ⟨(0, fun _ => 0), fun q hq => by simp [vwCl] at hq⟩
  exact ⟨(fun c => (Classical.choose (key c)).1, fun c => (Classical.choose (key c)).2), fun c q hq => Classical.choose_spec (key c) q hq⟩
theorem mj_exE {args : Array Value} {s : State} (hts : ∀ w ∈ lw_tbl, w.before args s = true) : ∃ E : Nat → ClassId, ∀ t : Nat, 20 ≤ t → t < 27 → ArrOfT s (E t) (mj_ty t) ∧ va_RA s (E t) (mj_ty t) := by
  have key : ∀ t : Nat, ∃ cA : ClassId, 20 ≤ t → t < 27 → ArrOfT s cA (mj_ty t) ∧ va_RA s cA (mj_ty t) := by
    intro t
    by_cases ht : 20 ≤ t ∧ t < 27
    · have hc : t = 20 ∨ t = 21 ∨ t = 22 ∨ t = 23 ∨ t = 24 ∨ t = 25 ∨ t = 26 := by omega
      rcases hc with rfl | rfl | rfl | rfl | rfl | rfl | rfl
      · obtain ⟨cA, k, comp, h1, h2, h3⟩ := Cond.arrayClass_spec (hts (.arrayClass .int) (mj_tin 47 (by decide +kernel)))
        exact ⟨cA, fun _ _ => ⟨fun n z => ⟨(fun q hq => by cases hq), k, h2, comp, h3⟩, h1⟩⟩
      · obtain ⟨cA, k, comp, h1, h2, h3⟩ := Cond.arrayClass_spec (hts (.arrayClass .boolean) (mj_tin 896 (by decide +kernel)))
        exact ⟨cA, fun _ _ => ⟨fun n z => ⟨(fun q hq => by cases hq), k, h2, comp, h3⟩, h1⟩⟩
      · obtain ⟨comp, cA, k, h1, -, h2, h3, h4⟩ := Cond.arrayOver_spec (hts (.arrayOver (.object "CeilingKernel$Task")) (mj_tin 23 (by decide +kernel)))
        exact ⟨cA, fun _ _ => ⟨fun n z => ⟨(fun q hq => by cases hq), k, h2, comp, h3⟩, k, comp, h2, h3, h1, h4⟩⟩
      · obtain ⟨comp, cA, k, h1, -, h2, h3, h4⟩ := Cond.arrayOver_spec (hts (.arrayOver (.object "CeilingKernel$Routine")) (mj_tin 87 (by decide +kernel)))
        exact ⟨cA, fun _ _ => ⟨fun n z => ⟨(fun q hq => by cases hq), k, h2, comp, h3⟩, k, comp, h2, h3, h1, h4⟩⟩
      · obtain ⟨comp, cA, k, h1, -, h2, h3, h4⟩ := Cond.arrayOver_spec (hts (.arrayOver (.object "CeilingKernel$Post")) (mj_tin 157 (by decide +kernel)))
        exact ⟨cA, fun _ _ => ⟨fun n z => ⟨(fun q hq => by cases hq), k, h2, comp, h3⟩, k, comp, h2, h3, h1, h4⟩⟩
      · obtain ⟨comp, cA, k, h1, -, h2, h3, h4⟩ := Cond.arrayOver_spec (hts (.arrayOver (.object "CeilingKernel$Mailbox")) (mj_tin 182 (by decide +kernel)))
        exact ⟨cA, fun _ _ => ⟨fun n z => ⟨(fun q hq => by cases hq), k, h2, comp, h3⟩, k, comp, h2, h3, h1, h4⟩⟩
      · obtain ⟨comp, cA, k, h1, -, h2, h3, h4⟩ := arrayOverA_spec (hts (.arrayOver (.array .int)) (mj_tin 55 (by decide +kernel)))
        exact ⟨cA, fun _ _ => ⟨fun n z => ⟨(fun q hq => by cases hq), k, h2, comp, h3⟩, h4⟩⟩
    · exact ⟨0, fun h1 h2 => absurd ⟨h1, h2⟩ ht⟩
  exact ⟨fun t => Classical.choose (key t), fun t h1 h2 => Classical.choose_spec (key t) h1 h2⟩
theorem mj_exK {args : Array Value} {s : State} (hts : ∀ w ∈ lw_tbl, w.before args s = true) : ∃ (D : va_G) (E : Nat → ClassId), va_K D vwCl (mj_tys E) s := by
  obtain ⟨D, hD⟩ := mj_exD hts
  obtain ⟨E, hE⟩ := mj_exE hts
  refine ⟨D, E, hD, fun k q hk => ?_⟩
  match k, hk with
  | 0, hk => cases hk; exact hE 20 (by decide) (by decide)
  | 1, hk => cases hk; exact hE 21 (by decide) (by decide)
  | 2, hk => cases hk; exact hE 22 (by decide) (by decide)
  | 3, hk => cases hk; exact hE 23 (by decide) (by decide)
  | 4, hk => cases hk; exact hE 24 (by decide) (by decide)
  | 5, hk => cases hk; exact hE 25 (by decide) (by decide)
  | 6, hk => cases hk; exact hE 26 (by decide) (by decide)
  | n + 7, hk => simp [mj_tys] at hk
theorem mj_bad_in : ∀ w ∈ mj_bad, w ∈ lw_tbl := by
  have h : mj_bad = ([23, 26, 50, 55, 87, 89, 157, 160, 182, 280, 471, 488, 620, 726] : List Nat).filterMap (fun i => tables_1[i]?) := by decide +kernel
  intro w hw
  rw [h] at hw
  obtain ⟨i, -, hi⟩ := List.mem_filterMap.mp hw
  exact mj_tin i hi
theorem mj_bad_any {s : State} {a a' : Array Value} : ∀ w ∈ mj_bad, w.before a s = true → w.before a' s = true := by
  intro w hw h
  simp only [mj_bad, List.mem_cons, List.not_mem_nil, or_false] at hw
  rcases hw with rfl | rfl | rfl | rfl | rfl | rfl | rfl | rfl | rfl | rfl | rfl | rfl | rfl | rfl
  all_goals first
    | exact va_tabs rfl rfl h
    | exact h
theorem mj_exT {b : Nat} {s : State} {A : Nat → Prop} (hts : ∀ w ∈ lw_tbl, w.before #[Value.ref b] s = true) (hgv : (Jvm.Cond.and given_1 narrow_1).before #[Value.ref b] s = true) (hA : ∀ a : Nat, a < s.heap.size → ¬ A a) :
    ∃ t : Nat → Nat, ∀ k : Nat, 1 ≤ k → k < 5 → ∀ l : List Int32, ([[], mj_COST, mj_X_MOST, mj_Y_LEAST, mj_Y_MOST] : List (List Int32))[k]? = some l → va_Z mj_SC (mj_SN k) "[I" (.ref (t k)) A s s.heap ∧ va_T .int (t k) l.length (fun j => .int (l.getD j 0)) A s s.heap := by
  have hs := flat_of_before _ hgv
  obtain ⟨tCOST, zCOST, fCOST⟩ := mj_stat (A := A) mj_COST (hts (.laysStatic "CeilingKernel" "COST" "[I") (mj_tin 380 (by decide +kernel))) (hts (.initialized "CeilingKernel") (mj_tin 1 (by decide +kernel))) (hs _ (by decide +kernel)) (hs _ (by decide +kernel)) (fun j hj => hs _ ((show ∀ j, j < 15 → (Cond.eq (.elem (.static "CeilingKernel" "COST" "[I") (.int (Int32.ofNat j))) (.int (mj_COST.getD j 0))) ∈ flatC (Jvm.Cond.and given_1 narrow_1) by decide +kernel) j hj)) hA
  obtain ⟨tX_MOST, zX_MOST, fX_MOST⟩ := mj_stat (A := A) mj_X_MOST (hts (.laysStatic "CeilingKernel" "X_MOST" "[I") (mj_tin 382 (by decide +kernel))) (hts (.initialized "CeilingKernel") (mj_tin 1 (by decide +kernel))) (hs _ (by decide +kernel)) (hs _ (by decide +kernel)) (fun j hj => hs _ ((show ∀ j, j < 15 → (Cond.eq (.elem (.static "CeilingKernel" "X_MOST" "[I") (.int (Int32.ofNat j))) (.int (mj_X_MOST.getD j 0))) ∈ flatC (Jvm.Cond.and given_1 narrow_1) by decide +kernel) j hj)) hA
  obtain ⟨tY_LEAST, zY_LEAST, fY_LEAST⟩ := mj_stat (A := A) mj_Y_LEAST (hts (.laysStatic "CeilingKernel" "Y_LEAST" "[I") (mj_tin 384 (by decide +kernel))) (hts (.initialized "CeilingKernel") (mj_tin 1 (by decide +kernel))) (hs _ (by decide +kernel)) (hs _ (by decide +kernel)) (fun j hj => hs _ ((show ∀ j, j < 15 → (Cond.eq (.elem (.static "CeilingKernel" "Y_LEAST" "[I") (.int (Int32.ofNat j))) (.int (mj_Y_LEAST.getD j 0))) ∈ flatC (Jvm.Cond.and given_1 narrow_1) by decide +kernel) j hj)) hA
  obtain ⟨tY_MOST, zY_MOST, fY_MOST⟩ := mj_stat (A := A) mj_Y_MOST (hts (.laysStatic "CeilingKernel" "Y_MOST" "[I") (mj_tin 386 (by decide +kernel))) (hts (.initialized "CeilingKernel") (mj_tin 1 (by decide +kernel))) (hs _ (by decide +kernel)) (hs _ (by decide +kernel)) (fun j hj => hs _ ((show ∀ j, j < 15 → (Cond.eq (.elem (.static "CeilingKernel" "Y_MOST" "[I") (.int (Int32.ofNat j))) (.int (mj_Y_MOST.getD j 0))) ∈ flatC (Jvm.Cond.and given_1 narrow_1) by decide +kernel) j hj)) hA
  refine ⟨fun k => match k with | 1 => tCOST | 2 => tX_MOST | 3 => tY_LEAST | _ => tY_MOST, fun k h1 h5 l hl => ?_⟩
  have hc : k = 1 ∨ k = 2 ∨ k = 3 ∨ k = 4 := by omega
  rcases hc with rfl | rfl | rfl | rfl
  · cases hl; exact ⟨zCOST, fCOST⟩
  · cases hl; exact ⟨zX_MOST, fX_MOST⟩
  · cases hl; exact ⟨zY_LEAST, fY_LEAST⟩
  · cases hl; exact ⟨zY_MOST, fY_MOST⟩
theorem W.mono {p : Program} {l : Launch} {e : Env} {R : Room} {s : State} {m : MethodId} {args : Array Value} {below : List Frame} {meth : Method} {c : Code} {H : Heap} {locs : List Loc} {cells slots : Nat} {Q Q' : State → Prop} {g : JFrame} (h : W p l e R s m args below meth c H locs cells slots Q g) (hq : ∀ t, Q t → Q' t) : W p l e R s m args below meth c H locs cells slots Q' g := fun T hT X => by
  obtain ⟨t, a, b⟩ := h T hT X
  exact ⟨t, a, hq t b⟩
/-- the law's walk out of a run of the small machine -/
theorem mj_start {p : Program} {e : Env} {s : State} {m : MethodId} {below : List Frame} {meth : Method} {c : Code} (l : Launch) {b L : Nat} {xs : Nat → Int32} (C0 : lw_At p s m meth c b L xs)
    (hrun : ∃ (n : Nat) (h' : mj_Hp), mj_run (mj_cst ((List.range L).map xs)) n 146 0 [(0, .ref 0)] [] [] = some (some (.int 1), h') ∧ h'.length ≤ 600000 ∧ mj_sl h' ≤ 7302250) :
    W p l e room_1 s m #[Value.ref b] below meth c s.heap [] 0 0 (lw_Z below #[Value.ref b] s) (entryFrame m ([Value.ref b] : List Value).toArray 4) := by
  obtain ⟨n, h', hr, hl1, hl2⟩ := hrun
  obtain ⟨hx, hb, hret, hml, hown, hts, hX, hbl, hlocks, hgv⟩ := C0
  have hA : ∀ a : Nat, a < s.heap.size → ¬ mj_A s.heap.size a := fun a h q => Nat.not_le.mpr h q
  obtain ⟨D, E, hKK⟩ := mj_exK hts
  obtain ⟨t, ht⟩ := mj_exT (A := mj_A s.heap.size) hts hgv hA
  have hK : mj_K s.heap.size (fun k => if k = 0 then b else t k) E D (mj_cst ((List.range L).map xs)) s := by
    refine ⟨hKK, Nat.le_refl _, fun k l9 hc hk => ?_, fun k h1 h5 => ?_, fun w hw => mj_bad_any w hw (hts w (mj_bad_in w hw))⟩
    · by_cases hk0 : k = 0
      · subst hk0
        cases hc
        obtain ⟨scr, g1, g2, g3, g4, g5⟩ := hX
        refine ⟨scr, by simpa using g1, g2, g3, by simp [g4], by simp [g4], fun j hj => ?_, by simpa using hA b hbl⟩
        have hj' : j < L := by simpa using hj
        rw [g5 j hj']
        simp [List.getD_eq_getElem?_getD, hj']
      · simp only [if_neg hk0]
        refine (ht k (by omega) hk l9 ?_).2
        rw [← hc]
        match k, hk0 with
        | j + 1, _ => rfl
    · simp only [if_neg (show ¬ k = 0 by omega)]
      have hc : k = 1 ∨ k = 2 ∨ k = 3 ∨ k = 4 := by omega
      rcases hc with rfl | rfl | rfl | rfl
      · exact (ht 1 (by decide) (by decide) _ rfl).1
      · exact (ht 2 (by decide) (by decide) _ rfl).1
      · exact (ht 3 (by decide) (by decide) _ rfl).1
      · exact (ht 4 (by decide) (by decide) _ rfl).1
  have hP : mj_P s.heap.size (fun k => if k = 0 then b else t k) E D [] s.heap := ⟨by simp, fun k q hq => by simp at hq⟩
  have hl := lv_entry ([Value.ref b]) (n := 4) (Nat.le_of_ble_eq_true rfl)
  rw [lg_entry_eq]
  generalize (lg_sl ([Value.ref b]) ++ List.replicate (4 - (lg_sl ([Value.ref b])).length) Slot.unset).toArray = lsA at hl ⊢
  have hsim := mj_sim (l := l) (sz0 := s.heap.size) (ad := fun k => if k = 0 then b else t k) (E := E) (D := D) (cst := mj_cst ((List.range L).map xs)) mj_goods n 146 0 [(0, .ref 0)] [] [] _ h' (by decide) hr p e room_1 s m #[Value.ref b] below meth c s.heap [] 0 0 h'.length (mj_sl h') lsA
    ⟨hx, hb, hml, hret, hlocks, hown, fun w hw => hts w (mj_Glw hw), fun hi => absurd hi (by decide +kernel), by decide, by decide⟩ hK hP va_S.rf hl hl1 hl2 (by simp) (by simp [mj_sl])
  refine W.mono hsim fun tt hq => ?_
  obtain ⟨oc, q1, q2, ⟨q3, -, -⟩, LL, ⟨f1, f2, f3⟩, q5⟩ := hq
  exact ⟨oc, q1, q2, q3, f1, f2, f3.weaken (fun y hy hlt => absurd hlt (Nat.not_lt.mpr (q5 y hy))) hl1 hl2⟩
