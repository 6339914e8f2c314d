theorem mj_bool_narrow {x : Int32} (hx : mj_bool x = true) : narrow .boolean (.int x) = .int x := by
  simp only [mj_bool, Bool.or_eq_true, beq_iff_eq] at hx
  rcases hx with hx | hx <;> subst hx <;> decide
theorem mj_room_tr {sz0 : Nat} {ad : Nat → Nat} {rest : List Value} (h : mj_room rest = true) : ((rest.map (mj_tr sz0 ad)).map fun v => v.category).sum ≤ 8 := by
  simp only [mj_room, decide_eq_true_eq] at h
  have e1 : (rest.map (mj_tr sz0 ad)).map (fun v => v.category) = rest.map fun v => v.category := by
    rw [List.map_map]
    exact List.map_congr_left fun v _ => mj_tr_cat sz0 ad v
  rw [e1]; exact h
theorem mj_stk {sz0 : Nat} {ad : Nat → Nat} (st : List Value) (b : Nat) : st.map (mj_tr sz0 ad) = ((st.take b).reverse.map (mj_tr sz0 ad)).reverse ++ (st.drop b).map (mj_tr sz0 ad) := by
  rw [List.map_reverse, List.reverse_reverse, ← List.map_append, List.take_append_drop]
theorem mj_res {sz0 : Nat} {ad : Nat → Nat} (r : Option Value) (rest : List Value) : (r.toList ++ rest).map (mj_tr sz0 ad) = (r.map (mj_tr sz0 ad)).toList ++ rest.map (mj_tr sz0 ad) := by
  cases r <;> rfl
section MJT
variable {p : Program} {l : Launch} {e : Env} {R : Room} {s : State} {m : MethodId} {args : Array Value} {below : List Frame} {meth : Method} {c : Code} {H : Heap} {locs : List Loc} {cells slots : Nat} {Q : State → Prop}
variable {sz0 : Nat} {ad : Nat → Nat} {E : Nat → ClassId} {D : va_G} {cst : List (List Int32)}
/-- a call of a static method -/
theorem mj_callS (G : ∀ mm, mm < mj_N → mj_good mm) {mm idx a b pc : Nat} {st : List Value} {h h1 : mj_Hp} {r1 : Option Value} {lsA : Array Slot} {nL0 : List (Nat × Value)} (F : mj_Fr mm p R s m args meth c) (hd : decode (mj_code mm) pc = .ok (.invokestatic idx, 3)) (hck : mj_ck mm idx 2 a b) (hK : mj_K sz0 ad E D cst s) (hP : mj_P sz0 ad E D h H) (hS : va_S (mj_A sz0) s.heap H locs) (hl : lv_has lsA (mj_maxL mm) nL0)
    (hbl : b ≤ st.length) (hrm : mj_room (st.drop b) = true) (hM : mj_Met l sz0 ad E D cst a (st.take b).reverse h r1 h1) (hr1 : cells + (h1.length - h.length) ≤ R.cells) (hr2 : slots + (mj_sl h1 - mj_sl h) ≤ R.slots)
    (kk : ∀ (H1 : Heap) (locs1 : List Loc), mj_P sz0 ad E D h1 H1 → va_S (mj_A sz0) s.heap H1 locs1 → W p l e R s m args below meth c H1 locs1 (cells + (h1.length - h.length)) (slots + (mj_sl h1 - mj_sl h)) Q (F0 m (pc + 3) lsA ((r1.toList ++ st.drop b).map (mj_tr sz0 ad)))) :
    W p l e R s m args below meth c H locs cells slots Q (F0 m pc lsA (st.map (mj_tr sz0 ad))) := by
  obtain ⟨hx, hb, hml, hret, hlocks, hown, hts, hin, hF, hL⟩ := F
  obtain ⟨haN, hgood, hini, hroom, hdesc, hlink, -, -, hst⟩ := hck
  obtain ⟨ws', hw⟩ := (G a (Nat.lt_succ_of_lt haN)).1 haN
  have hpre : PreS s H (mj_Pc sz0 ad E D cst (st.take b).reverse h) ((st.take b).reverse.map (mj_tr sz0 ad)) := ⟨mj_Pc_blind, fun U hU hW => ⟨rfl, hK.moved hW hS hU, by rw [hU]; exact hP⟩⟩
  have hrun : va_Run p l e R s m args below meth c H locs cells slots (h1.length - h.length) (mj_sl h1 - mj_sl h) (F0 m pc lsA (st.map (mj_tr sz0 ad))) ((st.drop b).map (mj_tr sz0 ad)) (mj_Q sz0 ad E D r1 h1 ((st.take b).reverse.map (mj_tr sz0 ad)).toArray) (mj_A sz0) := by
    rcases hlink with hlink | ⟨host, hlink⟩
    · exact va_runS (n := b) ⟨hx, hb, hml, hown, hts⟩ hM ⟨callB_of b hts hgood hw rfl rfl (hts _ hini) (hts _ hlink) hdesc ⟨Nat.le_trans hroom.1 hF, Nat.le_trans hroom.2 hL⟩, hts _ (hst rfl)⟩ hpre rfl (by simp; omega) hl.1 (mj_stk st b) (lv_room (mj_room_tr hrm)) hd ⟨hr1, hr2⟩
    · exact va_runSN (n := b) ⟨hx, hb, hml, hown, hts⟩ hM ⟨va_cnB b hts hgood hw rfl rfl (hK.2.2.2.2 _ hlink) (hts _ hini) hdesc ⟨Nat.le_trans hroom.1 hF, Nat.le_trans hroom.2 hL⟩, hts _ (hst rfl), trivial⟩ hpre rfl (by simp; omega) hl.1 (mj_stk st b) (lv_room (mj_room_tr hrm)) hd ⟨hr1, hr2⟩
  refine mj_w_call hrun hS fun H1 locs1 hP1 hS1 => ?_
  rw [← mj_res]
  exact kk H1 locs1 hP1 hS1
/-- a call of an instance method, or of a constructor -/
theorem mj_callO (G : ∀ mm, mm < mj_N → mj_good mm) {mm idx kd a b pc k : Nat} {st rest : List Value} {h h1 : mj_Hp} {r1 : Option Value} {lsA : Array Slot} {nL0 : List (Nat × Value)} (F : mj_Fr mm p R s m args meth c) (hd : (kd = 0 ∧ decode (mj_code mm) pc = .ok (.invokespecial idx, 3)) ∨ (kd = 1 ∧ decode (mj_code mm) pc = .ok (.invokevirtual idx, 3))) (hck : mj_ck mm idx kd a b) (hK : mj_K sz0 ad E D cst s) (hP : mj_P sz0 ad E D h H) (hS : va_S (mj_A sz0) s.heap H locs) (hl : lv_has lsA (mj_maxL mm) nL0)
    (hsd : st.drop b = .ref k :: rest) (hbl : b ≤ st.length) (hk5 : 5 ≤ k) (htag : (h[k - 5]?).map (fun c => c.1) = some (mj_ci a)) (hrm : mj_room rest = true) (hM : mj_Met l sz0 ad E D cst a (.ref k :: (st.take b).reverse) h r1 h1) (hr1 : cells + (h1.length - h.length) ≤ R.cells) (hr2 : slots + (mj_sl h1 - mj_sl h) ≤ R.slots)
    (kk : ∀ (H1 : Heap) (locs1 : List Loc), mj_P sz0 ad E D h1 H1 → va_S (mj_A sz0) s.heap H1 locs1 → W p l e R s m args below meth c H1 locs1 (cells + (h1.length - h.length)) (slots + (mj_sl h1 - mj_sl h)) Q (F0 m (pc + 3) lsA ((r1.toList ++ rest).map (mj_tr sz0 ad)))) :
    W p l e R s m args below meth c H locs cells slots Q (F0 m pc lsA (st.map (mj_tr sz0 ad))) := by
  obtain ⟨hx, hb, hml, hret, hlocks, hown, hts, hin, hF, hL⟩ := F
  obtain ⟨haN, hgood, hini, hroom, hdesc, hlink, hc0, hc1, -⟩ := hck
  obtain ⟨ws', hw⟩ := (G a (Nat.lt_succ_of_lt haN)).1 haN
  have hk5' : ¬ k < 5 := by omega
  have hPc : ∀ U : State, U.heap = H → s.WarmedH U.vm → mj_Pc sz0 ad E D cst (.ref k :: (st.take b).reverse) h (Value.ref (sz0 + (k - 5)) :: (st.take b).reverse.map (mj_tr sz0 ad)).toArray U := fun U hU hW => ⟨by rw [List.map_cons, mj_tr_ge hk5'], hK.moved hW hS hU, by rw [hU]; exact hP⟩
  have hstk : st.map (mj_tr sz0 ad) = ((st.take b).reverse.map (mj_tr sz0 ad)).reverse ++ Value.ref (sz0 + (k - 5)) :: rest.map (mj_tr sz0 ad) := by
    rw [mj_stk st b, hsd, List.map_cons, mj_tr_ge hk5']
  have hrun : va_Run p l e R s m args below meth c H locs cells slots (h1.length - h.length) (mj_sl h1 - mj_sl h) (F0 m pc lsA (st.map (mj_tr sz0 ad))) (rest.map (mj_tr sz0 ad)) (mj_Q sz0 ad E D r1 h1 (Value.ref (sz0 + (k - 5)) :: (st.take b).reverse.map (mj_tr sz0 ad)).toArray) (mj_A sz0) := by
    rcases hd with ⟨rfl, hd⟩ | ⟨rfl, hd⟩
    · obtain ⟨hnm, hinst, hrt⟩ := hc0 rfl
      rw [hrt] at hw
      rcases hlink with hlink | ⟨host, hlink⟩
      · exact va_runI (n := b) ⟨hx, hb, hml, hown, hts⟩ hM ⟨callB_of b hts hgood hw rfl rfl (hts _ hini) (hts _ hlink) hdesc ⟨Nat.le_trans hroom.1 hF, Nat.le_trans hroom.2 hL⟩, hnm, hts _ hinst⟩ ⟨mj_Pc_blind, hPc⟩ rfl (by simp; omega) hl.1 hstk (lv_room (mj_room_tr hrm)) hd ⟨hr1, hr2⟩
      · exact va_runIN (n := b) ⟨hx, hb, hml, hown, hts⟩ hM ⟨va_cnB b hts hgood hw rfl rfl (hK.2.2.2.2 _ hlink) (hts _ hini) hdesc ⟨Nat.le_trans hroom.1 hF, Nat.le_trans hroom.2 hL⟩, hnm, hts _ hinst⟩ ⟨mj_Pc_blind, hPc⟩ rfl (by simp; omega) hl.1 hstk (lv_room (mj_room_tr hrm)) hd ⟨hr1, hr2⟩
    · obtain ⟨hinst, hsel, h20, rr, hrr, hcn⟩ := hc1 rfl
      cases hc : h[k - 5]? with
      | none => rw [hc] at htag; cases htag
      | some cc =>
        obtain ⟨tg, vs⟩ := cc
        rw [hc] at htag
        simp only [Option.map_some, Option.some.injEq] at htag
        subst htag
        have hrec := va_recv hK.1 (hP.obj hc h20) hrr (q0 := 0) rfl
        rw [hcn] at hrec
        rcases hlink with hlink | ⟨host, hlink⟩
        · exact va_runV (n := b) ⟨hx, hb, hml, hown, hts⟩ hM ⟨callB_of b hts hgood hw rfl rfl (hts _ hini) (hts _ hlink) hdesc ⟨Nat.le_trans hroom.1 hF, Nat.le_trans hroom.2 hL⟩, hts _ hinst, hts _ hsel⟩ ⟨mj_Pc_blind, hrec, hPc⟩ rfl (by simp; omega) hl.1 hstk (lv_room (mj_room_tr hrm)) hd ⟨hr1, hr2⟩
        · exact va_runVN (n := b) ⟨hx, hb, hml, hown, hts⟩ hM ⟨va_cnB b hts hgood hw rfl rfl (hK.2.2.2.2 _ hlink) (hts _ hini) hdesc ⟨Nat.le_trans hroom.1 hF, Nat.le_trans hroom.2 hL⟩, hts _ hinst, hts _ hsel⟩ ⟨mj_Pc_blind, hrec, hPc⟩ rfl (by simp; omega) hl.1 hstk (lv_room (mj_room_tr hrm)) hd ⟨hr1, hr2⟩
  refine mj_w_call hrun hS fun H1 locs1 hP1 hS1 => ?_
  rw [← mj_res]
  exact kk H1 locs1 hP1 hS1
set_option maxHeartbeats 4000000 in
theorem mj_sim (G : ∀ mm, mm < mj_N → mj_good mm) : ∀ n, mj_Sim l sz0 ad E D cst n := by
  intro n
  induction n with
  | zero =>
    intro mm pc ls st h r h' hmm hrun
    simp [mj_run] at hrun
  | succ n ih =>
    intro mm pc ls st h r h' hmm hrun p e R s m args below meth c H locs cells slots mc ms lsA F hK hP hS hl hmc hms ec es
    have F' := F
    obtain ⟨hx, hb, hml, hret, hlocks, hown, hts, hin, hF, hL⟩ := F'
    obtain ⟨-, -, hG⟩ := G mm hmm
    unfold mj_run at hrun
    split at hrun
    · cases hrun
    · rename_i i a b hat
      obtain ⟨hd, hlk, hco⟩ := hG pc i a b hat
      split at hrun
      · rename_i r' hr
        cases hrun
        have e1 : mc = cells := by omega
        have e2 : ms = slots := by omega
        subst e1; subst e2
        unfold mj_isRet at hr
        split at hr
        · split at hr
          · rename_i hrt
            cases hr
            exact W.vret hx hb (hret.trans hrt) (fun t ht hW => ⟨rfl, by rw [ht]; exact hP, hS.F ht⟩) hS.2.2 (mj_dec_len hd rfl)
          · cases hr
        · split at hr
          · rename_i hrt
            cases hr
            exact W.iret hx hb (hret.trans hrt) (fun t ht hW => ⟨rfl, by rw [ht]; exact hP, hS.F ht⟩) hS.2.2 (mj_dec_len hd rfl)
          · split at hr
            · rename_i hrt
              split at hr
              · rename_i hbx
                cases hr
                exact W.zret hx hb (hret.trans hrt) (mj_bool_narrow hbx) (fun t ht hW => ⟨rfl, by rw [ht]; exact hP, hS.F ht⟩) hS.2.2 (mj_dec_len hd rfl)
              · cases hr
            · cases hr
        · split at hr
          · rename_i nm hrt
            cases hr
            exact W.aret hx hb (hret.trans hrt) (Or.inl ⟨nm, rfl⟩) (Or.inr ⟨_, rfl⟩) (fun t ht hW => ⟨rfl, by rw [ht]; exact hP, hS.F ht⟩) hS.2.2 (mj_dec_len hd rfl)
          · cases hr
        · cases hr
      · split at hrun
        · split at hrun
          · rename_i pc' ls' st' h1 hs
            have l1 := mj_step_len hs
            have l2 := mj_run_len hrun
            dsimp only at l1
            refine mj_sim1 (t := (pc', ls', st', h1)) mm hx hb hown hts hin hd hlk hK hs hP hS hl (by dsimp only; omega) (by dsimp only; omega) (fun H1 lsA1 locs1 cells1 slots1 hP1 hS1 hl1 e1 e2 => ?_)
            dsimp only at hP1 hl1 e1 e2 ⊢
            exact ih mm pc' ls' st' h1 r h' hmm hrun p e R s m args below meth c H1 locs1 cells1 slots1 mc ms lsA1 F hK hP1 hS1 hl1 hmc hms (by omega) (by omega)
          · cases hrun
        · rename_i hcall
          have hi : ∃ idx, i = .invokestatic idx := by
            unfold mj_isCall at hcall
            split at hcall
            · cases hcall
            · cases hcall
            · exact ⟨_, rfl⟩
            · cases hcall
          obtain ⟨idx, rfl⟩ := hi
          have hd3 := mj_dec_len hd (n := 2) rfl
          simp only [mj_cok] at hco
          split at hrun
          · rename_i ha
            rw [if_pos ha] at hco
            obtain ⟨w1, w2, w3, w4, w5, w6⟩ := hco
            split at hrun
            · split at hrun
              · rename_i hrm
                have h1 := ih mm (pc + 3) ls _ h r h' hmm hrun p e R s m args below meth c H locs cells slots mc ms lsA F hK hP hS hl hmc hms ec es
                have h8 := mj_room_tr (sz0 := sz0) (ad := ad) hrm
                have l2 := mj_run_len hrun
                exact va_mmax hx hb (hml.trans hl.1.symm) hown (hts _ w1) (hts _ w2) (hts _ w3) (hts _ w4) (Nat.le_trans w5 hF) (by omega) (by omega) (by omega) hd3 h1
              · cases hrun
            · cases hrun
          · rename_i ha
            rw [if_neg ha] at hco
            split at hrun
            · rename_i ha2
              rw [if_pos ha2] at hco
              obtain ⟨w1, w2, w3, w4, w5, w6⟩ := hco
              split at hrun
              · split at hrun
                · rename_i hrm
                  have h1 := ih mm (pc + 3) ls _ h r h' hmm hrun p e R s m args below meth c H locs cells slots mc ms lsA F hK hP hS hl hmc hms ec es
                  have h8 := mj_room_tr (sz0 := sz0) (ad := ad) hrm
                  have l2 := mj_run_len hrun
                  exact va_mmin hx hb (hml.trans hl.1.symm) hown (hts _ w1) (hts _ w2) (hts _ w3) (hts _ w4) (Nat.le_trans w5 hF) (by omega) (by omega) (by omega) hd3 h1
                · cases hrun
              · cases hrun
            · rename_i ha2
              rw [if_neg ha2] at hco
              split at hrun
              · rename_i hcd
                split at hrun
                · rename_i r1 h1 hc
                  have l1 := mj_run_len hc
                  have l2 := mj_run_len hrun
                  refine mj_callS G F hd3 hco hK hP hS hl hcd.1 hcd.2.2 (mj_met G ih hco.1 hc hcd.2.1) (by omega) (by omega) (fun H1 locs1 hP1 hS1 => ?_)
                  exact ih mm (pc + 3) ls _ h1 r h' hmm hrun p e R s m args below meth c H1 locs1 _ _ mc ms lsA F hK hP1 hS1 hl hmc hms (by omega) (by omega)
                · cases hrun
              · cases hrun
        · rename_i kd hne hcall
          have hi : (∃ idx, kd = 0 ∧ i = .invokespecial idx) ∨ ∃ idx, kd = 1 ∧ i = .invokevirtual idx := by
            unfold mj_isCall at hcall
            split at hcall
            · cases hcall; exact Or.inl ⟨_, rfl, rfl⟩
            · cases hcall; exact Or.inr ⟨_, rfl, rfl⟩
            · cases hcall; exact absurd rfl hne
            · cases hcall
          split at hrun
          · rename_i k rest hsd
            split at hrun
            · rename_i ha
              split at hrun
              · rename_i hcd
                obtain ⟨hb0, hkd, hrm⟩ := hcd
                subst hb0; subst hkd
                rcases hi with ⟨idx, -, rfl⟩ | ⟨idx, hk1, -⟩
                · have hd3 := mj_dec_len hd (n := 2) rfl
                  simp only [mj_cok] at hco
                  rw [if_pos ha] at hco
                  obtain ⟨w1, w2, w3, w4, w5⟩ := hco
                  have h1 := ih mm (pc + 3) ls rest h r h' hmm hrun p e R s m args below meth c H locs cells slots mc ms lsA F hK hP hS hl hmc hms ec es
                  rw [List.drop_zero] at hsd
                  subst hsd
                  have h8 := mj_room_tr (sz0 := sz0) (ad := ad) hrm
                  exact W.objInit hx hb hown (hts _ w1) (hts _ w2) (hts _ w3) rfl (hl.1.trans hml.symm) rfl hd3 (Nat.le_trans w4 hF) (Nat.le_trans (Nat.add_le_add_right (lv_room h8) 12) (Nat.le_trans w5 hL)) h1
                · cases hk1
              · cases hrun
            · rename_i ha
              split at hrun
              · rename_i hcd
                split at hrun
                · rename_i r1 h1 hc
                  have l1 := mj_run_len hc
                  have l2 := mj_run_len hrun
                  obtain ⟨q1, q2, q3, q4, q5⟩ := hcd
                  rcases hi with ⟨idx, rfl, rfl⟩ | ⟨idx, rfl, rfl⟩
                  · simp only [mj_cok] at hco
                    rw [if_neg ha] at hco
                    refine mj_callO G F (Or.inl ⟨rfl, mj_dec_len hd rfl⟩) hco hK hP hS hl hsd q1 q2 q3 q5 (mj_met G ih hco.1 hc q4) (by omega) (by omega) (fun H1 locs1 hP1 hS1 => ?_)
                    exact ih mm (pc + 3) ls _ h1 r h' hmm hrun p e R s m args below meth c H1 locs1 _ _ mc ms lsA F hK hP1 hS1 hl hmc hms (by omega) (by omega)
                  · simp only [mj_cok] at hco
                    refine mj_callO G F (Or.inr ⟨rfl, mj_dec_len hd rfl⟩) hco hK hP hS hl hsd q1 q2 q3 q5 (mj_met G ih hco.1 hc q4) (by omega) (by omega) (fun H1 locs1 hP1 hS1 => ?_)
                    exact ih mm (pc + 3) ls _ h1 r h' hmm hrun p e R s m args below meth c H1 locs1 _ _ mc ms lsA F hK hP1 hS1 hl hmc hms (by omega) (by omega)
                · cases hrun
              · cases hrun
          · cases hrun
end MJT
