section MJS
variable {p : Program} {l : Launch} {e : Env} {R : Room} {s : State} {m : MethodId} {args : Array Value} {below : List Frame} {meth : Method} {c : Code} {H : Heap} {locs : List Loc} {cells slots : Nat} {Q : State → Prop}
variable {sz0 : Nat} {ad : Nat → Nat} {E : Nat → ClassId} {D : va_G} {cst : List (List Int32)}
/-- where the small machine stands, the machine stands -/
abbrev mj_W (p : Program) (l : Launch) (e : Env) (R : Room) (s : State) (m : MethodId) (args : Array Value) (below : List Frame) (meth : Method) (c : Code) (Q : State → Prop) (sz0 : Nat) (ad : Nat → Nat) (E : Nat → ClassId) (D : va_G) (nL cells slots : Nat) (h0 : mj_Hp) (t : mj_Ms) : Prop :=
  ∀ (H1 : Heap) (lsA1 : Array Slot) (locs1 : List Loc) (cells1 slots1 : Nat), mj_P sz0 ad E D t.2.2.2 H1 → va_S (mj_A sz0) s.heap H1 locs1 → lv_has lsA1 nL (mj_trL sz0 ad t.2.1) → cells1 + h0.length = cells + t.2.2.2.length → slots1 + mj_sl h0 = slots + mj_sl t.2.2.2 →
    W p l e R s m args below meth c H1 locs1 cells1 slots1 Q (F0 m t.1 lsA1 (t.2.2.1.map (mj_tr sz0 ad)))
set_option maxHeartbeats 4000000 in
set_option maxRecDepth 10000 in
theorem mj_sim1 {i : Instr} {a b pc : Nat} {ls : mj_Ls} {st : List Value} {h : mj_Hp} {t : mj_Ms} (mm : Nat) (hx : p.tables.exec = Jvm.exec) (hb : c.code = mj_code mm) (hown : s.vm.findClass (mj_own mm) = some m.cls) (hts : ∀ w ∈ mj_ws mm, w.before args s = true) (hin : mj_init mm = true → meth.name = "<init>")
    (hd : mj_dec mm pc i) (hlk : mj_lk mm pc i a b) (hK : mj_K sz0 ad E D cst s) (hstep : mj_step cst i a b pc ls st h = some t) (hP : mj_P sz0 ad E D h H) (hS : va_S (mj_A sz0) s.heap H locs) {lsA : Array Slot} (hl : lv_has lsA (mj_maxL mm) (mj_trL sz0 ad ls))
    (hr1 : cells + t.2.2.2.length ≤ R.cells + h.length) (hr2 : slots + mj_sl t.2.2.2 ≤ R.slots + mj_sl h) (kk : mj_W p l e R s m args below meth c Q sz0 ad E D (mj_maxL mm) cells slots h t) :
    W p l e R s m args below meth c H locs cells slots Q (F0 m pc lsA (st.map (mj_tr sz0 ad))) := by
  have hKK := hK.1
  unfold mj_step at hstep
  split at hstep
  · cases hstep
    exact lv_iconst hx hb (mj_dec_len hd rfl) rfl (kk _ _ _ _ _ hP hS hl rfl rfl)
  · cases hstep
    exact lv_bipush hx hb (mj_dec_len hd rfl) rfl (kk _ _ _ _ _ hP hS hl rfl rfl)
  · cases hstep
    exact lv_sipush hx hb (mj_dec_len hd rfl) rfl (kk _ _ _ _ _ hP hS hl rfl rfl)
  · cases hstep
    exact lv_ldc2 hx hb hown (hts _ hlk) (mj_dec_len hd rfl) (kk _ _ _ _ _ hP hS hl rfl rfl)
  · split at hstep
    · rename_i hg
      cases hstep
      exact lv_iload_n hx hb (mj_dec_len hd rfl) rfl (mj_has_get hl hg) (kk _ _ _ _ _ hP hS hl rfl rfl)
    · cases hstep
  · split at hstep
    · rename_i hg
      cases hstep
      exact lv_iload hx hb (mj_dec_len hd rfl) (mj_has_get hl hg) (kk _ _ _ _ _ hP hS hl rfl rfl)
    · cases hstep
  · split at hstep
    · rename_i hg
      cases hstep
      exact lv_lload_n hx hb (mj_dec_len hd rfl) rfl (mj_has_get hl hg) (kk _ _ _ _ _ hP hS hl rfl rfl)
    · cases hstep
  · split at hstep
    · rename_i hg
      cases hstep
      exact lv_lload hx hb (mj_dec_len hd rfl) (mj_has_get hl hg) (kk _ _ _ _ _ hP hS hl rfl rfl)
    · cases hstep
  · split at hstep
    · rename_i hg
      cases hstep
      exact lv_aload_n hx hb (mj_dec_len hd rfl) rfl (mj_has_get hl hg) (kk _ _ _ _ _ hP hS hl rfl rfl)
    · cases hstep
  · split at hstep
    · rename_i hg
      cases hstep
      exact lv_aload hx hb (mj_dec_len hd rfl) (mj_has_get hl hg) (kk _ _ _ _ _ hP hS hl rfl rfl)
    · cases hstep
  · split at hstep
    · cases hstep
      exact lv_istore_n hx hb (mj_dec_len hd rfl) rfl hl hlk rfl (fun ls' hl' => kk _ _ _ _ _ hP hS (mj_has_set1 rfl hl') rfl rfl)
    · cases hstep
  · split at hstep
    · cases hstep
      exact lv_istore hx hb (mj_dec_len hd rfl) hl hlk rfl (fun ls' hl' => kk _ _ _ _ _ hP hS (mj_has_set1 rfl hl') rfl rfl)
    · cases hstep
  · split at hstep
    · cases hstep
      exact lv_astore_n hx hb (mj_dec_len hd rfl) rfl hl hlk rfl (fun ls' hl' => kk _ _ _ _ _ hP hS (mj_has_set1 rfl hl') rfl rfl)
    · cases hstep
  · split at hstep
    · cases hstep
      exact lv_astore hx hb (mj_dec_len hd rfl) hl hlk rfl (fun ls' hl' => kk _ _ _ _ _ hP hS (mj_has_set1 rfl hl') rfl rfl)
    · cases hstep
  · split at hstep
    · cases hstep
      exact lv_lstore_n hx hb (mj_dec_len hd rfl) rfl hl hlk rfl (fun ls' hl' => kk _ _ _ _ _ hP hS (mj_has_set2 rfl hl') rfl rfl)
    · cases hstep
  · split at hstep
    · cases hstep
      exact lv_lstore hx hb (mj_dec_len hd rfl) hl hlk rfl (fun ls' hl' => kk _ _ _ _ _ hP hS (mj_has_set2 rfl hl') rfl rfl)
    · cases hstep
  · split at hstep
    · rename_i hg
      cases hstep
      obtain ⟨k1, hk1⟩ := List.getElem?_of_mem (List.mem_map.mpr ⟨_, mj_get_mem hg, rfl⟩ : _ ∈ mj_trL sz0 ad ls)
      exact lv_iinc hx hb (mj_dec_len hd rfl) hl hk1 rfl hlk rfl (fun ls' hl' => kk _ _ _ _ _ hP hS (mj_has_set1 rfl hl') rfl rfl)
    · cases hstep
  · split at hstep
    · cases hstep
      exact lv_iadd hx hb (mj_dec_len hd rfl) (kk _ _ _ _ _ hP hS hl rfl rfl)
    · cases hstep
  · split at hstep
    · cases hstep
      exact lv_isub hx hb (mj_dec_len hd rfl) (kk _ _ _ _ _ hP hS hl rfl rfl)
    · cases hstep
  · split at hstep
    · cases hstep
      exact lv_imul hx hb (mj_dec_len hd rfl) (kk _ _ _ _ _ hP hS hl rfl rfl)
    · cases hstep
  · split at hstep
    · cases hstep
      exact lv_iand hx hb (mj_dec_len hd rfl) (kk _ _ _ _ _ hP hS hl rfl rfl)
    · cases hstep
  · split at hstep
    · cases hstep
      exact lv_ior hx hb (mj_dec_len hd rfl) (kk _ _ _ _ _ hP hS hl rfl rfl)
    · cases hstep
  · split at hstep
    · cases hstep
      exact lv_ixor hx hb (mj_dec_len hd rfl) (kk _ _ _ _ _ hP hS hl rfl rfl)
    · cases hstep
  · split at hstep
    · cases hstep
      exact lv_ishl hx hb (mj_dec_len hd rfl) (kk _ _ _ _ _ hP hS hl rfl rfl)
    · cases hstep
  · split at hstep
    · cases hstep
      exact lv_ishr hx hb (mj_dec_len hd rfl) (kk _ _ _ _ _ hP hS hl rfl rfl)
    · cases hstep
  · split at hstep
    · split at hstep
      · cases hstep
      · rename_i hne
        cases hstep
        exact lv_idiv hx hb (mj_dec_len hd rfl) hne (kk _ _ _ _ _ hP hS hl rfl rfl)
    · cases hstep
  · split at hstep
    · cases hstep
      exact lv_ladd hx hb (mj_dec_len hd rfl) (kk _ _ _ _ _ hP hS hl rfl rfl)
    · cases hstep
  · split at hstep
    · cases hstep
      exact lv_lmul hx hb (mj_dec_len hd rfl) (kk _ _ _ _ _ hP hS hl rfl rfl)
    · cases hstep
  · split at hstep
    · cases hstep
      exact W.lcmp hx hb (mj_dec_len hd rfl) (kk _ _ _ _ _ hP hS hl rfl rfl)
    · cases hstep
  · split at hstep
    · cases hstep
      exact lv_i2l hx hb (mj_dec_len hd rfl) rfl (kk _ _ _ _ _ hP hS hl rfl rfl)
    · cases hstep
  · split at hstep
    · cases hstep
      exact lv_dup hx hb (mj_dec_len hd rfl) rfl (kk _ _ _ _ _ hP hS hl rfl rfl)
    · cases hstep
      exact lv_dup hx hb (mj_dec_len hd rfl) rfl (kk _ _ _ _ _ hP hS hl rfl rfl)
    · cases hstep
  · split at hstep
    · cases hstep
      exact lv_dup2_11 hx hb (mj_dec_len hd rfl) rfl rfl (kk _ _ _ _ _ hP hS hl rfl rfl)
    · cases hstep
  · rename_i cnd off
    split at hstep
    · cases hstep
      cases cnd
      · refine lv_if_eq hx hb (mj_dec_len hd rfl) (mj_tgt_eq hlk) (fun hc => ?_) (fun hc => ?_)
        · have k1 := (kk _ _ _ _ _ hP hS hl rfl rfl)
          rw [if_pos (by simpa [mj_ccond] using hc)] at k1
          exact k1
        · have k1 := (kk _ _ _ _ _ hP hS hl rfl rfl)
          rw [if_neg (by simpa [mj_ccond] using hc)] at k1
          exact k1
      · refine lv_if_ne hx hb (mj_dec_len hd rfl) (mj_tgt_eq hlk) (fun hc => ?_) (fun hc => ?_)
        · have k1 := (kk _ _ _ _ _ hP hS hl rfl rfl)
          rw [if_pos (by simpa [mj_ccond] using hc)] at k1
          exact k1
        · have k1 := (kk _ _ _ _ _ hP hS hl rfl rfl)
          rw [if_neg (by simpa [mj_ccond] using hc)] at k1
          exact k1
      · refine lv_if_lt hx hb (mj_dec_len hd rfl) (mj_tgt_eq hlk) (fun hc => ?_) (fun hc => ?_)
        · have k1 := (kk _ _ _ _ _ hP hS hl rfl rfl)
          rw [if_pos (by simpa [mj_ccond] using hc)] at k1
          exact k1
        · have k1 := (kk _ _ _ _ _ hP hS hl rfl rfl)
          rw [if_neg (by simpa [mj_ccond] using hc)] at k1
          exact k1
      · refine lv_if_ge hx hb (mj_dec_len hd rfl) (mj_tgt_eq hlk) (fun hc => ?_) (fun hc => ?_)
        · have k1 := (kk _ _ _ _ _ hP hS hl rfl rfl)
          rw [if_pos (by simpa [mj_ccond] using hc)] at k1
          exact k1
        · have k1 := (kk _ _ _ _ _ hP hS hl rfl rfl)
          rw [if_neg (by simpa [mj_ccond] using hc)] at k1
          exact k1
      · refine lv_if_gt hx hb (mj_dec_len hd rfl) (mj_tgt_eq hlk) (fun hc => ?_) (fun hc => ?_)
        · have k1 := (kk _ _ _ _ _ hP hS hl rfl rfl)
          rw [if_pos (by simpa [mj_ccond] using hc)] at k1
          exact k1
        · have k1 := (kk _ _ _ _ _ hP hS hl rfl rfl)
          rw [if_neg (by simpa [mj_ccond] using hc)] at k1
          exact k1
      · refine lv_if_le hx hb (mj_dec_len hd rfl) (mj_tgt_eq hlk) (fun hc => ?_) (fun hc => ?_)
        · have k1 := (kk _ _ _ _ _ hP hS hl rfl rfl)
          rw [if_pos (by simpa [mj_ccond] using hc)] at k1
          exact k1
        · have k1 := (kk _ _ _ _ _ hP hS hl rfl rfl)
          rw [if_neg (by simpa [mj_ccond] using hc)] at k1
          exact k1
    · cases hstep
  · rename_i cnd off
    split at hstep
    · cases hstep
      cases cnd
      · refine lv_icmp_eq hx hb (mj_dec_len hd rfl) (mj_tgt_eq hlk) (fun hc => ?_) (fun hc => ?_)
        · have k1 := (kk _ _ _ _ _ hP hS hl rfl rfl)
          rw [if_pos (by simpa [mj_ccond] using hc)] at k1
          exact k1
        · have k1 := (kk _ _ _ _ _ hP hS hl rfl rfl)
          rw [if_neg (by simpa [mj_ccond] using hc)] at k1
          exact k1
      · refine lv_icmp_ne hx hb (mj_dec_len hd rfl) (mj_tgt_eq hlk) (fun hc => ?_) (fun hc => ?_)
        · have k1 := (kk _ _ _ _ _ hP hS hl rfl rfl)
          rw [if_pos (by simpa [mj_ccond] using hc)] at k1
          exact k1
        · have k1 := (kk _ _ _ _ _ hP hS hl rfl rfl)
          rw [if_neg (by simpa [mj_ccond] using hc)] at k1
          exact k1
      · refine lv_icmp_lt hx hb (mj_dec_len hd rfl) (mj_tgt_eq hlk) (fun hc => ?_) (fun hc => ?_)
        · have k1 := (kk _ _ _ _ _ hP hS hl rfl rfl)
          rw [if_pos (by simpa [mj_ccond] using hc)] at k1
          exact k1
        · have k1 := (kk _ _ _ _ _ hP hS hl rfl rfl)
          rw [if_neg (by simpa [mj_ccond] using hc)] at k1
          exact k1
      · refine lv_icmp_ge hx hb (mj_dec_len hd rfl) (mj_tgt_eq hlk) (fun hc => ?_) (fun hc => ?_)
        · have k1 := (kk _ _ _ _ _ hP hS hl rfl rfl)
          rw [if_pos (by simpa [mj_ccond] using hc)] at k1
          exact k1
        · have k1 := (kk _ _ _ _ _ hP hS hl rfl rfl)
          rw [if_neg (by simpa [mj_ccond] using hc)] at k1
          exact k1
      · refine lv_icmp_gt hx hb (mj_dec_len hd rfl) (mj_tgt_eq hlk) (fun hc => ?_) (fun hc => ?_)
        · have k1 := (kk _ _ _ _ _ hP hS hl rfl rfl)
          rw [if_pos (by simpa [mj_ccond] using hc)] at k1
          exact k1
        · have k1 := (kk _ _ _ _ _ hP hS hl rfl rfl)
          rw [if_neg (by simpa [mj_ccond] using hc)] at k1
          exact k1
      · refine lv_icmp_le hx hb (mj_dec_len hd rfl) (mj_tgt_eq hlk) (fun hc => ?_) (fun hc => ?_)
        · have k1 := (kk _ _ _ _ _ hP hS hl rfl rfl)
          rw [if_pos (by simpa [mj_ccond] using hc)] at k1
          exact k1
        · have k1 := (kk _ _ _ _ _ hP hS hl rfl rfl)
          rw [if_neg (by simpa [mj_ccond] using hc)] at k1
          exact k1
    · cases hstep
  · cases hstep
    exact lv_goto hx hb (mj_dec_len hd rfl) (mj_tgt_eq hlk) (kk _ _ _ _ _ hP hS hl rfl rfl)
  · rename_i dd lo hi offs
    obtain ⟨len, hdl, -⟩ := hd
    split at hstep
    · split at hstep
      · rename_i hr
        cases hstep
        exact lv_tableOut hx hb hdl hr (mj_tgt_eq hlk.1) (kk _ _ _ _ _ hP hS hl rfl rfl)
      · rename_i hr
        split at hstep
        · rename_i off ho
          cases hstep
          exact lv_tableIn hx hb hdl (fun q => hr (Or.inl q)) (fun q => hr (Or.inr q)) ho (mj_tgt_eq (hlk.2 off (Array.mem_toList_iff.mpr (Array.mem_of_getElem? ho)))) (kk _ _ _ _ _ hP hS hl rfl rfl)
        · cases hstep
    · cases hstep
  · split at hstep
    · split at hstep
      · cases hstep
      · rename_i hk5
        split at hstep
        · rename_i v hv
          cases hstep
          obtain ⟨vs, hc, hvb⟩ := mj_fld_some hv
          obtain ⟨C, T, N, h20, hcl, hbN, hws, hlink⟩ := hlk
          simp only [List.map_cons]
          rw [mj_tr_ge hk5]
          exact va_get hx hb hts hws hown hKK (hP.obj hc h20) 0 rfl hcl b hbN (hts _ hlink) (fun _ hh => hh) (by rw [List.getElem?_map, hvb]; rfl) (mj_dec_len hd rfl) (kk _ _ _ _ _ hP hS hl rfl rfl)
        · cases hstep
    · cases hstep
  · cases hstep
    obtain ⟨⟨ha1, ha5⟩, hlink⟩ := hlk
    have hZ := hK.2.2.2.1 a ha1 ha5
    have k1 := (kk _ _ _ _ _ hP hS hl rfl rfl)
    simp only [List.map_cons] at k1
    rw [mj_tr_lt ha5] at k1
    rcases hlink with hlink | ⟨host, hlink⟩
    · exact va_gets hx hb hZ hS hown (hts _ hlink) (fun _ hh => hh) (mj_dec_len hd rfl) k1
    · exact va_getsN hx hb hZ hS hown (va_Nw.use rfl (hK.2.2.2.2 _ hlink)) (fun _ hh => hh) (mj_dec_len hd rfl) k1
  · split at hstep
    · rename_i j k r
      split at hstep
      · rename_i x he
        cases hstep
        simp only [List.map_cons]
        by_cases hk5 : k < 5
        · obtain ⟨l9, hc, hj, hv⟩ := mj_elt_cst hk5 he
          obtain ⟨hvp, hlt⟩ := mj_in_vp hj
          rw [mj_tr_lt hk5]
          exact va_ti hx hb (hK.2.2.1 k l9 hc hk5) hS hvp hv.symm (mj_dec_len hd rfl) (kk _ _ _ _ _ hP hS hl rfl rfl)
        · obtain ⟨vs, hc, hj, hv⟩ := mj_elt_dyn hk5 he
          obtain ⟨hvp, hlt⟩ := mj_in_vp hj
          rw [mj_tr_ge hk5]
          refine va_iald hx hb hKK (hP.arr hc (by omega) (by omega)) 0 0 rfl rfl hvp (mj_dec_len hd rfl) ?_
          rw [mj_arr_int hv]
          exact (kk _ _ _ _ _ hP hS hl rfl rfl)
      · cases hstep
    · cases hstep
  · split at hstep
    · rename_i j k r
      split at hstep
      · cases hstep
      · rename_i hk5
        split at hstep
        · rename_i x he
          cases hstep
          simp only [List.map_cons]
          obtain ⟨vs, hc, hj, hv⟩ := mj_elt_dyn hk5 he
          obtain ⟨hvp, hlt⟩ := mj_in_vp hj
          rw [mj_tr_ge hk5]
          refine va_zald hx hb hKK (hP.arr hc (by omega) (by omega)) 0 1 rfl rfl hvp (mj_dec_len hd rfl) ?_
          rw [mj_arr_int hv]
          exact (kk _ _ _ _ _ hP hS hl rfl rfl)
        · cases hstep
    · cases hstep
  · split at hstep
    · rename_i j k r
      split at hstep
      · cases hstep
      · rename_i hk5
        split at hstep
        · rename_i cc hc
          obtain ⟨tag, vs⟩ := cc
          dsimp only at hstep
          split at hstep
          · rename_i hcd
            obtain ⟨ht1, ht2, hj⟩ := hcd
            split at hstep
            · rename_i y hv
              cases hstep
              obtain ⟨hvp, hlt⟩ := mj_in_vp hj
              simp only [List.map_cons]
              rw [mj_tr_ge hk5]
              refine W.aald (v := mj_tr sz0 ad (.ref y)) (ty := mj_ty tag) hx hb (hP.arq hc ht1 0 _ rfl) ((hKK.2 (tag - 20) _ (mj_tys_at E (by omega) ht2)).1 vs.length _) (mj_ty_ref ht1 ht2) (fun q => by cases q) (by show ¬ (j < 0 ∨ (arrV _ _ _).slots.size ≤ _); rw [arrV_size]; exact hvp) ?_ rfl rfl (mj_dec_len hd rfl) (kk _ _ _ _ _ hP hS hl rfl rfl)
              show (arrV _ _ _).slots[_]? = _
              rw [arrV_read _ _ hlt, mj_arr_ref hv]
            · cases hstep
          · cases hstep
        · cases hstep
    · cases hstep
  · split at hstep
    · rename_i k r
      split at hstep
      · rename_i hk5
        split at hstep
        · rename_i l9 hc
          cases hstep
          simp only [List.map_cons]
          rw [mj_tr_lt hk5]
          exact va_tlen hx hb (hK.2.2.1 k l9 hc hk5) hS rfl (mj_dec_len hd rfl) (kk _ _ _ _ _ hP hS hl rfl rfl)
        · cases hstep
      · rename_i hk5
        split at hstep
        · rename_i cc hc
          obtain ⟨tag, vs⟩ := cc
          dsimp only at hstep
          split at hstep
          · rename_i hcd
            obtain ⟨ht1, ht2⟩ := hcd
            cases hstep
            simp only [List.map_cons]
            rw [mj_tr_ge hk5]
            by_cases h22 : tag < 22
            · exact va_alen hx hb hKK (hP.arr hc ht1 h22) 0 (tag - 20) rfl (mj_tys_at E ht1 ht2) rfl (mj_dec_len hd rfl) (kk _ _ _ _ _ hP hS hl rfl rfl)
            · exact va_alen hx hb hKK (hP.arq hc (by omega)) 0 (tag - 20) rfl (mj_tys_at E ht1 ht2) rfl (mj_dec_len hd rfl) (kk _ _ _ _ _ hP hS hl rfl rfl)
          · cases hstep
        · cases hstep
    · cases hstep
  · split at hstep
    · rename_i v k r
      split at hstep
      · cases hstep
      · rename_i hk5
        split at hstep
        · rename_i w hv
          split at hstep
          · rename_i hfit
            cases hstep
            obtain ⟨vs, hc, hvb⟩ := mj_fld_some hv
            obtain ⟨C, T, N, ty0, ty, h20, hcl, hbN, hws, hlink, hty, hnm, hfin, hpd, hkd⟩ := hlk
            have hbl : b < vs.length := (List.getElem?_eq_some_iff.mp hvb).1
            obtain ⟨hnw, hft⟩ := mj_fit_ok (sz0 := sz0) (ad := ad) hfit hkd
            simp only [List.map_cons]
            rw [mj_tr_ge hk5]
            refine mj_w_put hx hb hts hws ty0 hty hnm hown hKK hP hS hc h20 hcl b hbN (hts _ hlink) ?_ hpd hnw hft hbl (mj_dec_len hd rfl) (fun H1 locs1 hP1 hS1 => ?_)
            · rcases hfin with hf | ⟨hf, hi, ho⟩
              · exact Or.inl hf
              · exact Or.inr ⟨hf, hin hi, ho⟩
            · have k1 := kk H1 lsA locs1 cells slots
              rw [mj_wr_some hc] at k1
              exact k1 hP1 hS1 hl (by simp) (by rw [mj_sl_set hc (by simp)])
          · cases hstep
        · cases hstep
    · cases hstep
  · split at hstep
    · rename_i x j k r
      split at hstep
      · cases hstep
      · rename_i hk5
        split at hstep
        · rename_i w he
          have htriv : True := trivial
          cases hstep
          obtain ⟨vs, hc, hj, hv⟩ := mj_elt_dyn hk5 he
          simp only [List.map_cons]
          rw [mj_tr_ge hk5]
          refine mj_w_iast hx hb hKK hP hS hc hj (mj_dec_len hd rfl) (fun H1 locs1 hP1 hS1 => ?_)
          have k1 := kk H1 lsA locs1 cells slots
          rw [mj_wr_some hc] at k1
          exact k1 hP1 hS1 hl (by simp) (by rw [mj_sl_set hc (by simp)])
        · cases hstep
    · cases hstep
  · split at hstep
    · rename_i x j k r
      split at hstep
      · cases hstep
      · rename_i hk5
        split at hstep
        · rename_i w he
          split at hstep
          · rename_i hbx
            cases hstep
            obtain ⟨vs, hc, hj, hv⟩ := mj_elt_dyn hk5 he
            simp only [List.map_cons]
            rw [mj_tr_ge hk5]
            refine mj_w_zast hx hb hKK hP hS hc hj hbx (mj_dec_len hd rfl) (fun H1 locs1 hP1 hS1 => ?_)
            have k1 := kk H1 lsA locs1 cells slots
            rw [mj_wr_some hc] at k1
            exact k1 hP1 hS1 hl (by simp) (by rw [mj_sl_set hc (by simp)])
          · cases hstep
        · cases hstep
    · cases hstep
  · split at hstep
    · rename_i y j k r
      split at hstep
      · cases hstep
      · rename_i hk5
        have hk : ¬ k < 5 := fun q => hk5 (Or.inl q)
        have hy : ¬ y < 5 := fun q => hk5 (Or.inr q)
        split at hstep
        · rename_i c1 c2 hc hcy
          obtain ⟨tag, vs⟩ := c1
          obtain ⟨ci, vy⟩ := c2
          dsimp only at hstep
          split at hstep
          · rename_i hcd
            obtain ⟨hcomp, hci, ht1, hj⟩ := hcd
            cases hstep
            obtain ⟨ht2, r9, hr9, hty9⟩ := mj_comp_ty ht1 hcomp hci
            simp only [List.map_cons]
            rw [mj_tr_ge hk, mj_tr_ge hy]
            refine mj_w_aast hx hb hKK hP hS hc ht1 hcy hci hr9 (tag - 20) (by rw [mj_tys_at E (by omega) ht2, hty9]) hj (mj_dec_len hd rfl) (fun H1 locs1 hP1 hS1 => ?_)
            have k1 := kk H1 lsA locs1 cells slots
            rw [mj_wr_some hc] at k1
            rw [show 5 + (y - 5) = y from Nat.add_sub_cancel' (Nat.le_of_not_lt hy)] at hP1
            exact k1 hP1 hS1 hl (by simp) (by rw [mj_sl_set hc (by simp)])
          · cases hstep
        · cases hstep
    · cases hstep
  · cases hstep
    obtain ⟨C, T, N, ty, h20, hcl, hws, hty, hlink, hinst, hini, hlen, hnr, hdv⟩ := hlk
    dsimp only at hr1 hr2
    rw [mj_sl_push, hlen] at hr2
    simp only [List.length_append, List.length_singleton] at hr1
    refine mj_w_new hx hb hts hws ty hty hown (hts _ hlink) (hts _ hinst) (hts _ hini) hKK hP hS h20 hcl (vs := mj_blank a) (fun j hj => by rw [mj_blank_tr hnr]; exact hdv j hj) (by omega) (by omega) (mj_dec_len hd rfl) (fun H1 hP1 hS1 => ?_)
    have k1 := kk H1 lsA locs (cells + 1) (slots + N) hP1 hS1 hl (by simp; omega) (by rw [mj_sl_push, hlen]; omega)
    simp only [List.map_cons, mj_tr_new] at k1
    exact k1
  · split at hstep
    · rename_i n r
      split at hstep
      · cases hstep
      · rename_i hn
        cases hstep
        obtain ⟨harr, hat⟩ := hlk
        dsimp only at hr1 hr2
        rw [mj_sl_push, List.length_replicate] at hr2
        simp only [List.length_append, List.length_singleton] at hr1
        have hn0 : ¬ n < 0 := fun q => hn (Or.inl q)
        have hnB : ¬ 65536 < n.toNatClampNeg := fun q => hn (Or.inr q)
        simp only [List.map_cons]
        rcases hat with ⟨rfl, rfl⟩ | ⟨rfl, rfl⟩
        · refine mj_w_newa hx hb (hts _ harr) (by decide) (by decide) 0 rfl rfl hKK hP hS hn0 (by show n.toNatClampNeg * _ ≤ _; simp only [newarray.typeOf, componentBytes]; omega) (by omega) (by omega) (mj_dec_len hd rfl) (fun H1 hP1 hS1 => ?_)
          have k1 := kk H1 lsA locs (cells + 1) (slots + n.toNatClampNeg) hP1 hS1 hl (by simp; omega) (by rw [mj_sl_push, List.length_replicate]; omega)
          simp only [List.map_cons, mj_tr_new] at k1
          exact k1
        · refine mj_w_newa hx hb (hts _ harr) (by decide) (by decide) 1 rfl rfl hKK hP hS hn0 (by show n.toNatClampNeg * _ ≤ _; simp only [newarray.typeOf, componentBytes]; omega) (by omega) (by omega) (mj_dec_len hd rfl) (fun H1 hP1 hS1 => ?_)
          have k1 := kk H1 lsA locs (cells + 1) (slots + n.toNatClampNeg) hP1 hS1 hl (by simp; omega) (by rw [mj_sl_push, List.length_replicate]; omega)
          simp only [List.map_cons, mj_tr_new] at k1
          exact k1
    · cases hstep
  · split at hstep
    · rename_i n r
      split at hstep
      · cases hstep
      · rename_i hn
        cases hstep
        obtain ⟨C, ha1, ha2, hty, hlink, hover⟩ := hlk
        dsimp only at hr1 hr2
        rw [mj_sl_push, List.length_replicate] at hr2
        simp only [List.length_append, List.length_singleton] at hr1
        have hn0 : ¬ n < 0 := fun q => hn (Or.inl q)
        have hnB : ¬ 65536 < n.toNatClampNeg := fun q => hn (Or.inr q)
        simp only [List.map_cons]
        refine mj_w_anew hx hb hown (hts _ hlink) (hK.2.2.2.2 _ hover) ha1 (a - 20) (by rw [mj_tys_at E (by omega) (by omega), hty]) hKK hP hS hn0 (by omega) (by omega) (by omega) (mj_dec_len hd rfl) (fun H1 hP1 hS1 => ?_)
        have k1 := kk H1 lsA locs (cells + 1) (slots + n.toNatClampNeg) hP1 hS1 hl (by simp; omega) (by rw [mj_sl_push, List.length_replicate]; omega)
        simp only [List.map_cons, mj_tr_new] at k1
        exact k1
    · cases hstep
  · split at hstep
    · rename_i k n r
      split at hstep
      · cases hstep
      · rename_i hn
        cases hstep
        obtain ⟨rfl, rfl, hlink, hover, harr⟩ := hlk
        have hn0 : ¬ n < 0 := fun q => hn (Or.inl q)
        have hnB : ¬ 4096 < n.toNatClampNeg := fun q => hn (Or.inr (Or.inl q))
        have hk0 : ¬ k < 0 := fun q => hn (Or.inr (Or.inr (Or.inl q)))
        have hkB : ¬ 4096 < k.toNatClampNeg := fun q => hn (Or.inr (Or.inr (Or.inr q)))
        have hsl : mj_sl (h ++ [(26, (List.range n.toNatClampNeg).map (fun i => Value.ref (5 + h.length + 1 + i)))] ++ List.replicate n.toNatClampNeg (20, List.replicate k.toNatClampNeg (Value.int 0))) = mj_sl h + n.toNatClampNeg + n.toNatClampNeg * k.toNatClampNeg := by simp [mj_sl]; omega
        dsimp only at hr1 hr2
        rw [hsl] at hr2
        simp only [List.length_append, List.length_singleton, List.length_replicate] at hr1
        simp only [List.map_cons]
        refine mj_w_mna hx hb hown (hts _ hlink) (hK.2.2.2.2 _ hover) (hts _ harr) hKK hP hS hn0 hk0 (by omega) (by omega) (by omega) (by omega) (mj_dec_len hd rfl) (fun H1 hP1 hS1 => ?_)
        have k1 := kk H1 lsA locs (cells + 1 + n.toNatClampNeg) (slots + n.toNatClampNeg + n.toNatClampNeg * k.toNatClampNeg) hP1 hS1 hl (by simp; omega) (by rw [hsl]; omega)
        simp only [List.map_cons, mj_tr_new] at k1
        exact k1
    · cases hstep
  · cases hstep
end MJS
