theorem mje_97 : ∀ e ∈ mj_tb97, mj_lk 97 e.1 e.2.1 e.2.2.1 e.2.2.2 ∧ mj_cok 97 e.2.1 e.2.2.1 e.2.2.2 := by
  unfold mj_tb97
  refine List.forall_mem_cons.mpr ⟨⟨(trivial), trivial⟩, ?_⟩
  refine List.forall_mem_cons.mpr ⟨⟨(mj_lkG (by decide) rfl (by decide) mj_inU0 mjf_0_35), trivial⟩, ?_⟩
  refine List.forall_mem_cons.mpr ⟨⟨(mj_lkG (by decide) rfl (by decide) mj_inU5 mjf_0_43), trivial⟩, ?_⟩
  refine List.forall_mem_cons.mpr ⟨⟨(show (0 : Int) ≤ ((7 : Nat) : Int) + 18 by decide), trivial⟩, ?_⟩
  refine List.forall_mem_cons.mpr ⟨⟨(trivial), trivial⟩, ?_⟩
  refine List.forall_mem_cons.mpr ⟨⟨(mj_lkG (by decide) rfl (by decide) mj_inU0 mjf_0_35), trivial⟩, ?_⟩
  refine List.forall_mem_cons.mpr ⟨⟨(mj_lkG (by decide) rfl (by decide) mj_inU5 mjf_0_149), trivial⟩, ?_⟩
  refine List.forall_mem_cons.mpr ⟨⟨(trivial), trivial⟩, ?_⟩
  refine List.forall_mem_cons.mpr ⟨⟨(trivial), trivial⟩, ?_⟩
  refine List.forall_mem_cons.mpr ⟨⟨(trivial), mj_ckOf mjK_98 (by decide) (mj_lnkG mjl_0_153)⟩, ?_⟩
  refine List.forall_mem_cons.mpr ⟨⟨(show (0 : Int) ≤ ((22 : Nat) : Int) + 4 by decide), trivial⟩, ?_⟩
  refine List.forall_mem_cons.mpr ⟨⟨(trivial), trivial⟩, ?_⟩
  refine List.forall_mem_cons.mpr ⟨⟨(trivial), trivial⟩, ?_⟩
  exact fun _ h => absurd h List.not_mem_nil
theorem mjd_97 : mj_ckd 97 = true := by decide +kernel
theorem mjg_97 : mj_good 97 := mj_goodOf (fun _ => ⟨mj_G, rfl⟩) (by decide +kernel) mjd_97 mje_97
theorem mje_98 : ∀ e ∈ mj_tb98, mj_lk 98 e.1 e.2.1 e.2.2.1 e.2.2.2 ∧ mj_cok 98 e.2.1 e.2.2.1 e.2.2.2 := by
  unfold mj_tb98
  refine List.forall_mem_cons.mpr ⟨⟨(trivial), trivial⟩, ?_⟩
  refine List.forall_mem_cons.mpr ⟨⟨(trivial), trivial⟩, ?_⟩
  refine List.forall_mem_cons.mpr ⟨⟨(mj_lkG (by decide) rfl (by decide) mj_inU7 mjf_7_24), trivial⟩, ?_⟩
  refine List.forall_mem_cons.mpr ⟨⟨(trivial), trivial⟩, ?_⟩
  refine List.forall_mem_cons.mpr ⟨⟨(trivial), ⟨mj_Gws (mj_Gin 725 (by decide +kernel) rfl), mj_Gws (mj_Gin 650 (by decide +kernel) rfl), mj_Gws (mj_Gin 13 (by decide +kernel) rfl), mj_Gws (mj_Gin 651 (by decide +kernel) rfl), by decide, by decide⟩⟩, ?_⟩
  refine List.forall_mem_cons.mpr ⟨⟨(trivial), mj_ckOf mjK_15 (by decide) (Or.inr mjl_7_34)⟩, ?_⟩
  refine List.forall_mem_cons.mpr ⟨⟨(show (0 : Int) ≤ ((13 : Nat) : Int) + 5 by decide), trivial⟩, ?_⟩
  refine List.forall_mem_cons.mpr ⟨⟨(trivial), trivial⟩, ?_⟩
  refine List.forall_mem_cons.mpr ⟨⟨(trivial), trivial⟩, ?_⟩
  refine List.forall_mem_cons.mpr ⟨⟨(trivial), trivial⟩, ?_⟩
  refine List.forall_mem_cons.mpr ⟨⟨(mj_lkG (by decide) rfl (by decide) mj_inU7 mjf_7_24), trivial⟩, ?_⟩
  refine List.forall_mem_cons.mpr ⟨⟨(trivial), trivial⟩, ?_⟩
  refine List.forall_mem_cons.mpr ⟨⟨(trivial), trivial⟩, ?_⟩
  refine List.forall_mem_cons.mpr ⟨⟨(trivial), trivial⟩, ?_⟩
  refine List.forall_mem_cons.mpr ⟨⟨(trivial), trivial⟩, ?_⟩
  refine List.forall_mem_cons.mpr ⟨⟨(trivial), trivial⟩, ?_⟩
  refine List.forall_mem_cons.mpr ⟨⟨(trivial), trivial⟩, ?_⟩
  refine List.forall_mem_cons.mpr ⟨⟨(show (3 : Nat) < mj_maxL 98 by decide), trivial⟩, ?_⟩
  refine List.forall_mem_cons.mpr ⟨⟨(trivial), trivial⟩, ?_⟩
  refine List.forall_mem_cons.mpr ⟨⟨(show (0 : Int) ≤ ((31 : Nat) : Int) + 57 ∧ ∀ off ∈ (#[29, 36, 43, 50] : Array Int).toList, (0 : Int) ≤ ((31 : Nat) : Int) + off by decide), trivial⟩, ?_⟩
  refine List.forall_mem_cons.mpr ⟨⟨(trivial), trivial⟩, ?_⟩
  refine List.forall_mem_cons.mpr ⟨⟨(mj_lkG (by decide) rfl (by decide) mj_inU7 mjf_7_9), trivial⟩, ?_⟩
  refine List.forall_mem_cons.mpr ⟨⟨(trivial), trivial⟩, ?_⟩
  refine List.forall_mem_cons.mpr ⟨⟨(trivial), trivial⟩, ?_⟩
  refine List.forall_mem_cons.mpr ⟨⟨(trivial), trivial⟩, ?_⟩
  refine List.forall_mem_cons.mpr ⟨⟨(trivial), trivial⟩, ?_⟩
  refine List.forall_mem_cons.mpr ⟨⟨(mj_lkG (by decide) rfl (by decide) mj_inU7 mjf_7_15), trivial⟩, ?_⟩
  refine List.forall_mem_cons.mpr ⟨⟨(trivial), trivial⟩, ?_⟩
  refine List.forall_mem_cons.mpr ⟨⟨(trivial), trivial⟩, ?_⟩
  refine List.forall_mem_cons.mpr ⟨⟨(trivial), trivial⟩, ?_⟩
  refine List.forall_mem_cons.mpr ⟨⟨(trivial), trivial⟩, ?_⟩
  refine List.forall_mem_cons.mpr ⟨⟨(mj_lkG (by decide) rfl (by decide) mj_inU7 mjf_7_18), trivial⟩, ?_⟩
  refine List.forall_mem_cons.mpr ⟨⟨(trivial), trivial⟩, ?_⟩
  refine List.forall_mem_cons.mpr ⟨⟨(trivial), trivial⟩, ?_⟩
  refine List.forall_mem_cons.mpr ⟨⟨(trivial), trivial⟩, ?_⟩
  refine List.forall_mem_cons.mpr ⟨⟨(trivial), trivial⟩, ?_⟩
  refine List.forall_mem_cons.mpr ⟨⟨(mj_lkG (by decide) rfl (by decide) mj_inU7 mjf_7_21), trivial⟩, ?_⟩
  refine List.forall_mem_cons.mpr ⟨⟨(trivial), trivial⟩, ?_⟩
  refine List.forall_mem_cons.mpr ⟨⟨(trivial), trivial⟩, ?_⟩
  refine List.forall_mem_cons.mpr ⟨⟨(trivial), trivial⟩, ?_⟩
  refine List.forall_mem_cons.mpr ⟨⟨(trivial), trivial⟩, ?_⟩
  refine List.forall_mem_cons.mpr ⟨⟨(trivial), trivial⟩, ?_⟩
  exact fun _ h => absurd h List.not_mem_nil
theorem mjd_98 : mj_ckd 98 = true := by decide +kernel
theorem mjg_98 : mj_good 98 := mj_goodOf (fun _ => ⟨mj_G, rfl⟩) (by decide +kernel) mjd_98 mje_98
theorem mje_99 : ∀ e ∈ mj_tb99, mj_lk 99 e.1 e.2.1 e.2.2.1 e.2.2.2 ∧ mj_cok 99 e.2.1 e.2.2.1 e.2.2.2 := by
  unfold mj_tb99
  refine List.forall_mem_cons.mpr ⟨⟨(trivial), trivial⟩, ?_⟩
  refine List.forall_mem_cons.mpr ⟨⟨(trivial), ⟨mj_Gws (mj_Gin 732 (by decide +kernel) rfl), mj_Gws (mj_Gin 20 (by decide +kernel) rfl), mj_Gws (mj_Gin 21 (by decide +kernel) rfl), by decide, by decide⟩⟩, ?_⟩
  refine List.forall_mem_cons.mpr ⟨⟨(trivial), trivial⟩, ?_⟩
  refine List.forall_mem_cons.mpr ⟨⟨(trivial), trivial⟩, ?_⟩
  refine List.forall_mem_cons.mpr ⟨⟨(mj_lkP (by decide) rfl (by decide) mj_inU10 mjf_10_7 mj_TyOk10 mj_Nm10 (Or.inl rfl) rfl), trivial⟩, ?_⟩
  refine List.forall_mem_cons.mpr ⟨⟨(trivial), trivial⟩, ?_⟩
  refine List.forall_mem_cons.mpr ⟨⟨(trivial), trivial⟩, ?_⟩
  refine List.forall_mem_cons.mpr ⟨⟨(⟨mj_Gws (mj_Gin 47 (by decide +kernel) rfl), Or.inl ⟨rfl, rfl⟩⟩), trivial⟩, ?_⟩
  refine List.forall_mem_cons.mpr ⟨⟨(mj_lkP (by decide) rfl (by decide) mj_inU10 mjf_10_13 mj_TyOk10 mj_Nm10 (Or.inl rfl) rfl), trivial⟩, ?_⟩
  refine List.forall_mem_cons.mpr ⟨⟨(trivial), trivial⟩, ?_⟩
  refine List.forall_mem_cons.mpr ⟨⟨(trivial), trivial⟩, ?_⟩
  refine List.forall_mem_cons.mpr ⟨⟨(⟨mj_Gws (mj_Gin 47 (by decide +kernel) rfl), Or.inl ⟨rfl, rfl⟩⟩), trivial⟩, ?_⟩
  refine List.forall_mem_cons.mpr ⟨⟨(mj_lkP (by decide) rfl (by decide) mj_inU10 mjf_10_17 mj_TyOk10 mj_Nm10 (Or.inl rfl) rfl), trivial⟩, ?_⟩
  refine List.forall_mem_cons.mpr ⟨⟨(trivial), trivial⟩, ?_⟩
  refine List.forall_mem_cons.mpr ⟨⟨(trivial), trivial⟩, ?_⟩
  refine List.forall_mem_cons.mpr ⟨⟨(⟨mj_Gws (mj_Gin 47 (by decide +kernel) rfl), Or.inl ⟨rfl, rfl⟩⟩), trivial⟩, ?_⟩
  refine List.forall_mem_cons.mpr ⟨⟨(mj_lkP (by decide) rfl (by decide) mj_inU10 mjf_10_20 mj_TyOk10 mj_Nm10 (Or.inl rfl) rfl), trivial⟩, ?_⟩
  refine List.forall_mem_cons.mpr ⟨⟨(trivial), trivial⟩, ?_⟩
  refine List.forall_mem_cons.mpr ⟨⟨(trivial), trivial⟩, ?_⟩
  refine List.forall_mem_cons.mpr ⟨⟨(⟨mj_Gws (mj_Gin 47 (by decide +kernel) rfl), Or.inl ⟨rfl, rfl⟩⟩), trivial⟩, ?_⟩
  refine List.forall_mem_cons.mpr ⟨⟨(mj_lkP (by decide) rfl (by decide) mj_inU10 mjf_10_23 mj_TyOk10 mj_Nm10 (Or.inl rfl) rfl), trivial⟩, ?_⟩
  refine List.forall_mem_cons.mpr ⟨⟨(trivial), trivial⟩, ?_⟩
  refine List.forall_mem_cons.mpr ⟨⟨(trivial), trivial⟩, ?_⟩
  refine List.forall_mem_cons.mpr ⟨⟨(⟨mj_Gws (mj_Gin 47 (by decide +kernel) rfl), Or.inl ⟨rfl, rfl⟩⟩), trivial⟩, ?_⟩
  refine List.forall_mem_cons.mpr ⟨⟨(mj_lkP (by decide) rfl (by decide) mj_inU10 mjf_10_26 mj_TyOk10 mj_Nm10 (Or.inl rfl) rfl), trivial⟩, ?_⟩
  refine List.forall_mem_cons.mpr ⟨⟨(trivial), trivial⟩, ?_⟩
  refine List.forall_mem_cons.mpr ⟨⟨(trivial), trivial⟩, ?_⟩
  refine List.forall_mem_cons.mpr ⟨⟨(⟨mj_Gws (mj_Gin 47 (by decide +kernel) rfl), Or.inl ⟨rfl, rfl⟩⟩), trivial⟩, ?_⟩
  refine List.forall_mem_cons.mpr ⟨⟨(mj_lkP (by decide) rfl (by decide) mj_inU10 mjf_10_29 mj_TyOk10 mj_Nm10 (Or.inl rfl) rfl), trivial⟩, ?_⟩
  refine List.forall_mem_cons.mpr ⟨⟨(trivial), trivial⟩, ?_⟩
  refine List.forall_mem_cons.mpr ⟨⟨(trivial), trivial⟩, ?_⟩
  refine List.forall_mem_cons.mpr ⟨⟨(⟨mj_Gws (mj_Gin 47 (by decide +kernel) rfl), Or.inl ⟨rfl, rfl⟩⟩), trivial⟩, ?_⟩
  refine List.forall_mem_cons.mpr ⟨⟨(mj_lkP (by decide) rfl (by decide) mj_inU10 mjf_10_32 mj_TyOk10 mj_Nm10 (Or.inl rfl) rfl), trivial⟩, ?_⟩
  refine List.forall_mem_cons.mpr ⟨⟨(trivial), trivial⟩, ?_⟩
  refine List.forall_mem_cons.mpr ⟨⟨(trivial), trivial⟩, ?_⟩
  refine List.forall_mem_cons.mpr ⟨⟨(⟨mj_Gws (mj_Gin 47 (by decide +kernel) rfl), Or.inl ⟨rfl, rfl⟩⟩), trivial⟩, ?_⟩
  refine List.forall_mem_cons.mpr ⟨⟨(mj_lkP (by decide) rfl (by decide) mj_inU10 mjf_10_35 mj_TyOk10 mj_Nm10 (Or.inl rfl) rfl), trivial⟩, ?_⟩
  refine List.forall_mem_cons.mpr ⟨⟨(trivial), trivial⟩, ?_⟩
  refine List.forall_mem_cons.mpr ⟨⟨(trivial), trivial⟩, ?_⟩
  refine List.forall_mem_cons.mpr ⟨⟨(⟨mj_Gws (mj_Gin 47 (by decide +kernel) rfl), Or.inl ⟨rfl, rfl⟩⟩), trivial⟩, ?_⟩
  refine List.forall_mem_cons.mpr ⟨⟨(trivial), trivial⟩, ?_⟩
  refine List.forall_mem_cons.mpr ⟨⟨(trivial), trivial⟩, ?_⟩
  refine List.forall_mem_cons.mpr ⟨⟨(trivial), trivial⟩, ?_⟩
  refine List.forall_mem_cons.mpr ⟨⟨(trivial), trivial⟩, ?_⟩
  refine List.forall_mem_cons.mpr ⟨⟨(trivial), trivial⟩, ?_⟩
  refine List.forall_mem_cons.mpr ⟨⟨(trivial), trivial⟩, ?_⟩
  refine List.forall_mem_cons.mpr ⟨⟨(trivial), trivial⟩, ?_⟩
  refine List.forall_mem_cons.mpr ⟨⟨(trivial), trivial⟩, ?_⟩
  refine List.forall_mem_cons.mpr ⟨⟨(trivial), trivial⟩, ?_⟩
  refine List.forall_mem_cons.mpr ⟨⟨(trivial), trivial⟩, ?_⟩
  refine List.forall_mem_cons.mpr ⟨⟨(trivial), trivial⟩, ?_⟩
  refine List.forall_mem_cons.mpr ⟨⟨(trivial), trivial⟩, ?_⟩
  refine List.forall_mem_cons.mpr ⟨⟨(trivial), trivial⟩, ?_⟩
  refine List.forall_mem_cons.mpr ⟨⟨(trivial), trivial⟩, ?_⟩
  refine List.forall_mem_cons.mpr ⟨⟨(trivial), trivial⟩, ?_⟩
  refine List.forall_mem_cons.mpr ⟨⟨(trivial), trivial⟩, ?_⟩
  refine List.forall_mem_cons.mpr ⟨⟨(trivial), trivial⟩, ?_⟩
  refine List.forall_mem_cons.mpr ⟨⟨(trivial), trivial⟩, ?_⟩
  refine List.forall_mem_cons.mpr ⟨⟨(trivial), trivial⟩, ?_⟩
  refine List.forall_mem_cons.mpr ⟨⟨(trivial), trivial⟩, ?_⟩
  refine List.forall_mem_cons.mpr ⟨⟨(trivial), trivial⟩, ?_⟩
  refine List.forall_mem_cons.mpr ⟨⟨(trivial), trivial⟩, ?_⟩
  refine List.forall_mem_cons.mpr ⟨⟨(trivial), trivial⟩, ?_⟩
  refine List.forall_mem_cons.mpr ⟨⟨(trivial), trivial⟩, ?_⟩
  refine List.forall_mem_cons.mpr ⟨⟨(trivial), trivial⟩, ?_⟩
  refine List.forall_mem_cons.mpr ⟨⟨(trivial), trivial⟩, ?_⟩
  refine List.forall_mem_cons.mpr ⟨⟨(trivial), trivial⟩, ?_⟩
  refine List.forall_mem_cons.mpr ⟨⟨(trivial), trivial⟩, ?_⟩
  refine List.forall_mem_cons.mpr ⟨⟨(trivial), trivial⟩, ?_⟩
  refine List.forall_mem_cons.mpr ⟨⟨(trivial), trivial⟩, ?_⟩
  refine List.forall_mem_cons.mpr ⟨⟨(trivial), trivial⟩, ?_⟩
  refine List.forall_mem_cons.mpr ⟨⟨(trivial), trivial⟩, ?_⟩
  refine List.forall_mem_cons.mpr ⟨⟨(trivial), trivial⟩, ?_⟩
  refine List.forall_mem_cons.mpr ⟨⟨(trivial), trivial⟩, ?_⟩
  refine List.forall_mem_cons.mpr ⟨⟨(trivial), trivial⟩, ?_⟩
  refine List.forall_mem_cons.mpr ⟨⟨(trivial), trivial⟩, ?_⟩
  refine List.forall_mem_cons.mpr ⟨⟨(trivial), trivial⟩, ?_⟩
  refine List.forall_mem_cons.mpr ⟨⟨(trivial), trivial⟩, ?_⟩
  refine List.forall_mem_cons.mpr ⟨⟨(trivial), trivial⟩, ?_⟩
  refine List.forall_mem_cons.mpr ⟨⟨(trivial), trivial⟩, ?_⟩
  refine List.forall_mem_cons.mpr ⟨⟨(trivial), trivial⟩, ?_⟩
  refine List.forall_mem_cons.mpr ⟨⟨(trivial), trivial⟩, ?_⟩
  refine List.forall_mem_cons.mpr ⟨⟨(trivial), trivial⟩, ?_⟩
  refine List.forall_mem_cons.mpr ⟨⟨(trivial), trivial⟩, ?_⟩
  refine List.forall_mem_cons.mpr ⟨⟨(trivial), trivial⟩, ?_⟩
  refine List.forall_mem_cons.mpr ⟨⟨(trivial), trivial⟩, ?_⟩
  refine List.forall_mem_cons.mpr ⟨⟨(trivial), trivial⟩, ?_⟩
  refine List.forall_mem_cons.mpr ⟨⟨(trivial), trivial⟩, ?_⟩
  refine List.forall_mem_cons.mpr ⟨⟨(trivial), trivial⟩, ?_⟩
  refine List.forall_mem_cons.mpr ⟨⟨(trivial), trivial⟩, ?_⟩
  refine List.forall_mem_cons.mpr ⟨⟨(trivial), trivial⟩, ?_⟩
  refine List.forall_mem_cons.mpr ⟨⟨(trivial), trivial⟩, ?_⟩
  refine List.forall_mem_cons.mpr ⟨⟨(trivial), trivial⟩, ?_⟩
  refine List.forall_mem_cons.mpr ⟨⟨(trivial), trivial⟩, ?_⟩
  refine List.forall_mem_cons.mpr ⟨⟨(trivial), trivial⟩, ?_⟩
  refine List.forall_mem_cons.mpr ⟨⟨(trivial), trivial⟩, ?_⟩
  refine List.forall_mem_cons.mpr ⟨⟨(trivial), trivial⟩, ?_⟩
  refine List.forall_mem_cons.mpr ⟨⟨(trivial), trivial⟩, ?_⟩
  refine List.forall_mem_cons.mpr ⟨⟨(trivial), trivial⟩, ?_⟩
  refine List.forall_mem_cons.mpr ⟨⟨(trivial), trivial⟩, ?_⟩
  refine List.forall_mem_cons.mpr ⟨⟨(mj_lkP (by decide) rfl (by decide) mj_inU10 mjf_10_38 mj_TyOk10 mj_Nm10 (Or.inl rfl) rfl), trivial⟩, ?_⟩
  refine List.forall_mem_cons.mpr ⟨⟨(trivial), trivial⟩, ?_⟩
  refine List.forall_mem_cons.mpr ⟨⟨(trivial), trivial⟩, ?_⟩
  refine List.forall_mem_cons.mpr ⟨⟨(⟨mj_Gws (mj_Gin 47 (by decide +kernel) rfl), Or.inl ⟨rfl, rfl⟩⟩), trivial⟩, ?_⟩
  refine List.forall_mem_cons.mpr ⟨⟨(mj_lkP (by decide) rfl (by decide) mj_inU10 mjf_10_41 mj_TyOk10 mj_Nm10 (Or.inl rfl) rfl), trivial⟩, ?_⟩
  refine List.forall_mem_cons.mpr ⟨⟨(trivial), trivial⟩, ?_⟩
  refine List.forall_mem_cons.mpr ⟨⟨(trivial), trivial⟩, ?_⟩
  refine List.forall_mem_cons.mpr ⟨⟨(⟨mj_Gws (mj_Gin 47 (by decide +kernel) rfl), Or.inl ⟨rfl, rfl⟩⟩), trivial⟩, ?_⟩
  refine List.forall_mem_cons.mpr ⟨⟨(mj_lkP (by decide) rfl (by decide) mj_inU10 mjf_10_44 mj_TyOk10 mj_Nm10 (Or.inl rfl) rfl), trivial⟩, ?_⟩
  refine List.forall_mem_cons.mpr ⟨⟨(trivial), trivial⟩, ?_⟩
  refine List.forall_mem_cons.mpr ⟨⟨(trivial), trivial⟩, ?_⟩
  refine List.forall_mem_cons.mpr ⟨⟨(⟨mj_Gws (mj_Gin 47 (by decide +kernel) rfl), Or.inl ⟨rfl, rfl⟩⟩), trivial⟩, ?_⟩
  refine List.forall_mem_cons.mpr ⟨⟨(mj_lkP (by decide) rfl (by decide) mj_inU10 mjf_10_47 mj_TyOk10 mj_Nm10 (Or.inl rfl) rfl), trivial⟩, ?_⟩
  refine List.forall_mem_cons.mpr ⟨⟨(trivial), trivial⟩, ?_⟩
  refine List.forall_mem_cons.mpr ⟨⟨(trivial), trivial⟩, ?_⟩
  refine List.forall_mem_cons.mpr ⟨⟨(⟨mj_Gws (mj_Gin 47 (by decide +kernel) rfl), Or.inl ⟨rfl, rfl⟩⟩), trivial⟩, ?_⟩
  refine List.forall_mem_cons.mpr ⟨⟨(mj_lkP (by decide) rfl (by decide) mj_inU10 mjf_10_50 mj_TyOk10 mj_Nm10 (Or.inl rfl) rfl), trivial⟩, ?_⟩
  refine List.forall_mem_cons.mpr ⟨⟨(trivial), trivial⟩, ?_⟩
  refine List.forall_mem_cons.mpr ⟨⟨(trivial), trivial⟩, ?_⟩
  refine List.forall_mem_cons.mpr ⟨⟨(⟨mj_Gws (mj_Gin 47 (by decide +kernel) rfl), Or.inl ⟨rfl, rfl⟩⟩), trivial⟩, ?_⟩
  refine List.forall_mem_cons.mpr ⟨⟨(mj_lkP (by decide) rfl (by decide) mj_inU10 mjf_10_53 mj_TyOk10 mj_Nm10 (Or.inl rfl) rfl), trivial⟩, ?_⟩
  refine List.forall_mem_cons.mpr ⟨⟨(trivial), trivial⟩, ?_⟩
  refine List.forall_mem_cons.mpr ⟨⟨(trivial), trivial⟩, ?_⟩
  refine List.forall_mem_cons.mpr ⟨⟨(⟨mj_Gws (mj_Gin 47 (by decide +kernel) rfl), Or.inl ⟨rfl, rfl⟩⟩), trivial⟩, ?_⟩
  refine List.forall_mem_cons.mpr ⟨⟨(mj_lkP (by decide) rfl (by decide) mj_inU10 mjf_10_56 mj_TyOk10 mj_Nm10 (Or.inl rfl) rfl), trivial⟩, ?_⟩
  refine List.forall_mem_cons.mpr ⟨⟨(trivial), trivial⟩, ?_⟩
  refine List.forall_mem_cons.mpr ⟨⟨(trivial), trivial⟩, ?_⟩
  refine List.forall_mem_cons.mpr ⟨⟨(⟨mj_Gws (mj_Gin 47 (by decide +kernel) rfl), Or.inl ⟨rfl, rfl⟩⟩), trivial⟩, ?_⟩
  refine List.forall_mem_cons.mpr ⟨⟨(mj_lkP (by decide) rfl (by decide) mj_inU10 mjf_10_59 mj_TyOk10 mj_Nm10 (Or.inl rfl) rfl), trivial⟩, ?_⟩
  refine List.forall_mem_cons.mpr ⟨⟨(trivial), trivial⟩, ?_⟩
  refine List.forall_mem_cons.mpr ⟨⟨(trivial), trivial⟩, ?_⟩
  refine List.forall_mem_cons.mpr ⟨⟨(⟨mj_Gws (mj_Gin 47 (by decide +kernel) rfl), Or.inl ⟨rfl, rfl⟩⟩), trivial⟩, ?_⟩
  refine List.forall_mem_cons.mpr ⟨⟨(mj_lkP (by decide) rfl (by decide) mj_inU10 mjf_10_62 mj_TyOk10 mj_Nm10 (Or.inl rfl) rfl), trivial⟩, ?_⟩
  refine List.forall_mem_cons.mpr ⟨⟨(trivial), trivial⟩, ?_⟩
  refine List.forall_mem_cons.mpr ⟨⟨(trivial), trivial⟩, ?_⟩
  refine List.forall_mem_cons.mpr ⟨⟨(⟨mj_Gws (mj_Gin 896 (by decide +kernel) rfl), Or.inr ⟨rfl, rfl⟩⟩), trivial⟩, ?_⟩
  refine List.forall_mem_cons.mpr ⟨⟨(mj_lkP (by decide) rfl (by decide) mj_inU10 mjf_10_65 mj_TyOk10 mj_Nm10 (Or.inl rfl) rfl), trivial⟩, ?_⟩
  refine List.forall_mem_cons.mpr ⟨⟨(trivial), trivial⟩, ?_⟩
  refine List.forall_mem_cons.mpr ⟨⟨(trivial), trivial⟩, ?_⟩
  refine List.forall_mem_cons.mpr ⟨⟨(⟨mj_Gws (mj_Gin 896 (by decide +kernel) rfl), Or.inr ⟨rfl, rfl⟩⟩), trivial⟩, ?_⟩
  refine List.forall_mem_cons.mpr ⟨⟨(mj_lkP (by decide) rfl (by decide) mj_inU10 mjf_10_69 mj_TyOk10 mj_Nm10 (Or.inl rfl) rfl), trivial⟩, ?_⟩
  refine List.forall_mem_cons.mpr ⟨⟨(trivial), trivial⟩, ?_⟩
  refine List.forall_mem_cons.mpr ⟨⟨(trivial), trivial⟩, ?_⟩
  refine List.forall_mem_cons.mpr ⟨⟨(⟨mj_Gws (mj_Gin 47 (by decide +kernel) rfl), Or.inl ⟨rfl, rfl⟩⟩), trivial⟩, ?_⟩
  refine List.forall_mem_cons.mpr ⟨⟨(mj_lkP (by decide) rfl (by decide) mj_inU10 mjf_10_72 mj_TyOk10 mj_Nm10 (Or.inl rfl) rfl), trivial⟩, ?_⟩
  refine List.forall_mem_cons.mpr ⟨⟨(trivial), trivial⟩, ?_⟩
  refine List.forall_mem_cons.mpr ⟨⟨(trivial), trivial⟩, ?_⟩
  refine List.forall_mem_cons.mpr ⟨⟨(⟨mj_Gws (mj_Gin 47 (by decide +kernel) rfl), Or.inl ⟨rfl, rfl⟩⟩), trivial⟩, ?_⟩
  refine List.forall_mem_cons.mpr ⟨⟨(mj_lkP (by decide) rfl (by decide) mj_inU10 mjf_10_75 mj_TyOk10 mj_Nm10 (Or.inl rfl) rfl), trivial⟩, ?_⟩
  refine List.forall_mem_cons.mpr ⟨⟨(trivial), trivial⟩, ?_⟩
  refine List.forall_mem_cons.mpr ⟨⟨(trivial), trivial⟩, ?_⟩
  refine List.forall_mem_cons.mpr ⟨⟨(⟨mj_Gws (mj_Gin 47 (by decide +kernel) rfl), Or.inl ⟨rfl, rfl⟩⟩), trivial⟩, ?_⟩
  refine List.forall_mem_cons.mpr ⟨⟨(mj_lkP (by decide) rfl (by decide) mj_inU10 mjf_10_78 mj_TyOk10 mj_Nm10 (Or.inl rfl) rfl), trivial⟩, ?_⟩
  refine List.forall_mem_cons.mpr ⟨⟨(trivial), trivial⟩, ?_⟩
  refine List.forall_mem_cons.mpr ⟨⟨(trivial), trivial⟩, ?_⟩
  refine List.forall_mem_cons.mpr ⟨⟨(⟨mj_Gws (mj_Gin 47 (by decide +kernel) rfl), Or.inl ⟨rfl, rfl⟩⟩), trivial⟩, ?_⟩
  refine List.forall_mem_cons.mpr ⟨⟨(mj_lkP (by decide) rfl (by decide) mj_inU10 mjf_10_81 mj_TyOk10 mj_Nm10 (Or.inl rfl) rfl), trivial⟩, ?_⟩
  refine List.forall_mem_cons.mpr ⟨⟨(trivial), trivial⟩, ?_⟩
  refine List.forall_mem_cons.mpr ⟨⟨(trivial), trivial⟩, ?_⟩
  refine List.forall_mem_cons.mpr ⟨⟨(⟨mj_Gws (mj_Gin 47 (by decide +kernel) rfl), Or.inl ⟨rfl, rfl⟩⟩), trivial⟩, ?_⟩
  refine List.forall_mem_cons.mpr ⟨⟨(mj_lkP (by decide) rfl (by decide) mj_inU10 mjf_10_84 mj_TyOk10 mj_Nm10 (Or.inl rfl) rfl), trivial⟩, ?_⟩
  refine List.forall_mem_cons.mpr ⟨⟨(trivial), trivial⟩, ?_⟩
  refine List.forall_mem_cons.mpr ⟨⟨(trivial), trivial⟩, ?_⟩
  refine List.forall_mem_cons.mpr ⟨⟨(⟨mj_Gws (mj_Gin 47 (by decide +kernel) rfl), Or.inl ⟨rfl, rfl⟩⟩), trivial⟩, ?_⟩
  refine List.forall_mem_cons.mpr ⟨⟨(mj_lkP (by decide) rfl (by decide) mj_inU10 mjf_10_87 mj_TyOk10 mj_Nm10 (Or.inl rfl) rfl), trivial⟩, ?_⟩
  refine List.forall_mem_cons.mpr ⟨⟨(trivial), trivial⟩, ?_⟩
  refine List.forall_mem_cons.mpr ⟨⟨(trivial), trivial⟩, ?_⟩
  refine List.forall_mem_cons.mpr ⟨⟨(⟨mj_Gws (mj_Gin 47 (by decide +kernel) rfl), Or.inl ⟨rfl, rfl⟩⟩), trivial⟩, ?_⟩
  refine List.forall_mem_cons.mpr ⟨⟨(mj_lkP (by decide) rfl (by decide) mj_inU10 mjf_10_90 mj_TyOk10 mj_Nm10 (Or.inl rfl) rfl), trivial⟩, ?_⟩
  refine List.forall_mem_cons.mpr ⟨⟨(trivial), trivial⟩, ?_⟩
  refine List.forall_mem_cons.mpr ⟨⟨(trivial), trivial⟩, ?_⟩
  refine List.forall_mem_cons.mpr ⟨⟨(⟨mj_Gws (mj_Gin 47 (by decide +kernel) rfl), Or.inl ⟨rfl, rfl⟩⟩), trivial⟩, ?_⟩
  refine List.forall_mem_cons.mpr ⟨⟨(mj_lkP (by decide) rfl (by decide) mj_inU10 mjf_10_93 mj_TyOk10 mj_Nm10 (Or.inl rfl) rfl), trivial⟩, ?_⟩
  refine List.forall_mem_cons.mpr ⟨⟨(trivial), trivial⟩, ?_⟩
  refine List.forall_mem_cons.mpr ⟨⟨(trivial), trivial⟩, ?_⟩
  refine List.forall_mem_cons.mpr ⟨⟨(⟨mj_Gws (mj_Gin 47 (by decide +kernel) rfl), Or.inl ⟨rfl, rfl⟩⟩), trivial⟩, ?_⟩
  refine List.forall_mem_cons.mpr ⟨⟨(mj_lkP (by decide) rfl (by decide) mj_inU10 mjf_10_96 mj_TyOk10 mj_Nm10 (Or.inl rfl) rfl), trivial⟩, ?_⟩
  refine List.forall_mem_cons.mpr ⟨⟨(trivial), trivial⟩, ?_⟩
  refine List.forall_mem_cons.mpr ⟨⟨(trivial), trivial⟩, ?_⟩
  refine List.forall_mem_cons.mpr ⟨⟨(⟨mj_Gws (mj_Gin 47 (by decide +kernel) rfl), Or.inl ⟨rfl, rfl⟩⟩), trivial⟩, ?_⟩
  refine List.forall_mem_cons.mpr ⟨⟨(mj_lkP (by decide) rfl (by decide) mj_inU10 mjf_10_99 mj_TyOk10 mj_Nm10 (Or.inl rfl) rfl), trivial⟩, ?_⟩
  refine List.forall_mem_cons.mpr ⟨⟨(trivial), trivial⟩, ?_⟩
  refine List.forall_mem_cons.mpr ⟨⟨(trivial), trivial⟩, ?_⟩
  refine List.forall_mem_cons.mpr ⟨⟨(⟨mj_Gws (mj_Gin 47 (by decide +kernel) rfl), Or.inl ⟨rfl, rfl⟩⟩), trivial⟩, ?_⟩
  refine List.forall_mem_cons.mpr ⟨⟨(mj_lkP (by decide) rfl (by decide) mj_inU10 mjf_10_102 mj_TyOk10 mj_Nm10 (Or.inl rfl) rfl), trivial⟩, ?_⟩
  refine List.forall_mem_cons.mpr ⟨⟨(trivial), trivial⟩, ?_⟩
  refine List.forall_mem_cons.mpr ⟨⟨(trivial), trivial⟩, ?_⟩
  refine List.forall_mem_cons.mpr ⟨⟨(⟨mj_Gws (mj_Gin 47 (by decide +kernel) rfl), Or.inl ⟨rfl, rfl⟩⟩), trivial⟩, ?_⟩
  refine List.forall_mem_cons.mpr ⟨⟨(mj_lkP (by decide) rfl (by decide) mj_inU10 mjf_10_105 mj_TyOk10 mj_Nm10 (Or.inl rfl) rfl), trivial⟩, ?_⟩
  refine List.forall_mem_cons.mpr ⟨⟨(trivial), trivial⟩, ?_⟩
  refine List.forall_mem_cons.mpr ⟨⟨(trivial), trivial⟩, ?_⟩
  refine List.forall_mem_cons.mpr ⟨⟨(⟨mj_Gws (mj_Gin 47 (by decide +kernel) rfl), Or.inl ⟨rfl, rfl⟩⟩), trivial⟩, ?_⟩
  refine List.forall_mem_cons.mpr ⟨⟨(mj_lkP (by decide) rfl (by decide) mj_inU10 mjf_10_108 mj_TyOk10 mj_Nm10 (Or.inl rfl) rfl), trivial⟩, ?_⟩
  refine List.forall_mem_cons.mpr ⟨⟨(trivial), trivial⟩, ?_⟩
  refine List.forall_mem_cons.mpr ⟨⟨(trivial), trivial⟩, ?_⟩
  refine List.forall_mem_cons.mpr ⟨⟨(⟨mj_Gws (mj_Gin 47 (by decide +kernel) rfl), Or.inl ⟨rfl, rfl⟩⟩), trivial⟩, ?_⟩
  refine List.forall_mem_cons.mpr ⟨⟨(mj_lkP (by decide) rfl (by decide) mj_inU10 mjf_10_111 mj_TyOk10 mj_Nm10 (Or.inl rfl) rfl), trivial⟩, ?_⟩
  refine List.forall_mem_cons.mpr ⟨⟨(trivial), trivial⟩, ?_⟩
  refine List.forall_mem_cons.mpr ⟨⟨(trivial), trivial⟩, ?_⟩
  refine List.forall_mem_cons.mpr ⟨⟨(⟨mj_Gws (mj_Gin 47 (by decide +kernel) rfl), Or.inl ⟨rfl, rfl⟩⟩), trivial⟩, ?_⟩
  refine List.forall_mem_cons.mpr ⟨⟨(mj_lkP (by decide) rfl (by decide) mj_inU10 mjf_10_114 mj_TyOk10 mj_Nm10 (Or.inl rfl) rfl), trivial⟩, ?_⟩
  refine List.forall_mem_cons.mpr ⟨⟨(trivial), trivial⟩, ?_⟩
  refine List.forall_mem_cons.mpr ⟨⟨(trivial), trivial⟩, ?_⟩
  refine List.forall_mem_cons.mpr ⟨⟨(⟨mj_Gws (mj_Gin 47 (by decide +kernel) rfl), Or.inl ⟨rfl, rfl⟩⟩), trivial⟩, ?_⟩
  refine List.forall_mem_cons.mpr ⟨⟨(mj_lkP (by decide) rfl (by decide) mj_inU10 mjf_10_117 mj_TyOk10 mj_Nm10 (Or.inl rfl) rfl), trivial⟩, ?_⟩
  refine List.forall_mem_cons.mpr ⟨⟨(trivial), trivial⟩, ?_⟩
  refine List.forall_mem_cons.mpr ⟨⟨(trivial), trivial⟩, ?_⟩
  refine List.forall_mem_cons.mpr ⟨⟨(⟨mj_Gws (mj_Gin 47 (by decide +kernel) rfl), Or.inl ⟨rfl, rfl⟩⟩), trivial⟩, ?_⟩
  refine List.forall_mem_cons.mpr ⟨⟨(mj_lkP (by decide) rfl (by decide) mj_inU10 mjf_10_120 mj_TyOk10 mj_Nm10 (Or.inl rfl) rfl), trivial⟩, ?_⟩
  refine List.forall_mem_cons.mpr ⟨⟨(trivial), trivial⟩, ?_⟩
  refine List.forall_mem_cons.mpr ⟨⟨(trivial), trivial⟩, ?_⟩
  refine List.forall_mem_cons.mpr ⟨⟨(⟨mj_Gws (mj_Gin 47 (by decide +kernel) rfl), Or.inl ⟨rfl, rfl⟩⟩), trivial⟩, ?_⟩
  refine List.forall_mem_cons.mpr ⟨⟨(mj_lkP (by decide) rfl (by decide) mj_inU10 mjf_10_123 mj_TyOk10 mj_Nm10 (Or.inl rfl) rfl), trivial⟩, ?_⟩
  refine List.forall_mem_cons.mpr ⟨⟨(trivial), trivial⟩, ?_⟩
  refine List.forall_mem_cons.mpr ⟨⟨(trivial), trivial⟩, ?_⟩
  refine List.forall_mem_cons.mpr ⟨⟨(⟨mj_Gws (mj_Gin 47 (by decide +kernel) rfl), Or.inl ⟨rfl, rfl⟩⟩), trivial⟩, ?_⟩
  refine List.forall_mem_cons.mpr ⟨⟨(mj_lkP (by decide) rfl (by decide) mj_inU10 mjf_10_126 mj_TyOk10 mj_Nm10 (Or.inl rfl) rfl), trivial⟩, ?_⟩
  refine List.forall_mem_cons.mpr ⟨⟨(trivial), trivial⟩, ?_⟩
  refine List.forall_mem_cons.mpr ⟨⟨(trivial), trivial⟩, ?_⟩
  refine List.forall_mem_cons.mpr ⟨⟨(⟨mj_Gws (mj_Gin 47 (by decide +kernel) rfl), Or.inl ⟨rfl, rfl⟩⟩), trivial⟩, ?_⟩
  refine List.forall_mem_cons.mpr ⟨⟨(mj_lkP (by decide) rfl (by decide) mj_inU10 mjf_10_129 mj_TyOk10 mj_Nm10 (Or.inl rfl) rfl), trivial⟩, ?_⟩
  refine List.forall_mem_cons.mpr ⟨⟨(trivial), trivial⟩, ?_⟩
  refine List.forall_mem_cons.mpr ⟨⟨(trivial), trivial⟩, ?_⟩
  refine List.forall_mem_cons.mpr ⟨⟨(⟨mj_Gws (mj_Gin 47 (by decide +kernel) rfl), Or.inl ⟨rfl, rfl⟩⟩), trivial⟩, ?_⟩
  refine List.forall_mem_cons.mpr ⟨⟨(mj_lkP (by decide) rfl (by decide) mj_inU10 mjf_10_132 mj_TyOk10 mj_Nm10 (Or.inl rfl) rfl), trivial⟩, ?_⟩
  refine List.forall_mem_cons.mpr ⟨⟨(trivial), trivial⟩, ?_⟩
  refine List.forall_mem_cons.mpr ⟨⟨(trivial), trivial⟩, ?_⟩
  refine List.forall_mem_cons.mpr ⟨⟨(⟨mj_Gws (mj_Gin 47 (by decide +kernel) rfl), Or.inl ⟨rfl, rfl⟩⟩), trivial⟩, ?_⟩
  refine List.forall_mem_cons.mpr ⟨⟨(mj_lkP (by decide) rfl (by decide) mj_inU10 mjf_10_135 mj_TyOk10 mj_Nm10 (Or.inl rfl) rfl), trivial⟩, ?_⟩
  refine List.forall_mem_cons.mpr ⟨⟨(trivial), trivial⟩, ?_⟩
  exact fun _ h => absurd h List.not_mem_nil
theorem mjd_99 : mj_ckd 99 = true := by decide +kernel
theorem mjg_99 : mj_good 99 := mj_goodOf (fun _ => ⟨mj_G, rfl⟩) (by decide +kernel) mjd_99 mje_99
theorem mje_100 : ∀ e ∈ mj_tb100, mj_lk 100 e.1 e.2.1 e.2.2.1 e.2.2.2 ∧ mj_cok 100 e.2.1 e.2.2.1 e.2.2.2 := by
  unfold mj_tb100
  refine List.forall_mem_cons.mpr ⟨⟨(trivial), trivial⟩, ?_⟩
  refine List.forall_mem_cons.mpr ⟨⟨(mj_lkG (by decide) rfl (by decide) mj_inU10 mjf_10_141), trivial⟩, ?_⟩
  refine List.forall_mem_cons.mpr ⟨⟨(show (0 : Int) ≤ ((4 : Nat) : Int) + 42 by decide), trivial⟩, ?_⟩
  refine List.forall_mem_cons.mpr ⟨⟨(trivial), trivial⟩, ?_⟩
  refine List.forall_mem_cons.mpr ⟨⟨(mj_lkG (by decide) rfl (by decide) mj_inU10 mjf_10_138), trivial⟩, ?_⟩
  refine List.forall_mem_cons.mpr ⟨⟨(trivial), trivial⟩, ?_⟩
  refine List.forall_mem_cons.mpr ⟨⟨(show (0 : Int) ≤ ((12 : Nat) : Int) + 34 by decide), trivial⟩, ?_⟩
  refine List.forall_mem_cons.mpr ⟨⟨(trivial), trivial⟩, ?_⟩
  refine List.forall_mem_cons.mpr ⟨⟨(trivial), trivial⟩, ?_⟩
  refine List.forall_mem_cons.mpr ⟨⟨(trivial), trivial⟩, ?_⟩
  refine List.forall_mem_cons.mpr ⟨⟨(trivial), mj_ckOf mjK_101 (by decide) (mj_lnkG mjl_10_145)⟩, ?_⟩
  refine List.forall_mem_cons.mpr ⟨⟨(show (0 : Int) ≤ ((23 : Nat) : Int) + 23 by decide), trivial⟩, ?_⟩
  refine List.forall_mem_cons.mpr ⟨⟨(trivial), trivial⟩, ?_⟩
  refine List.forall_mem_cons.mpr ⟨⟨(trivial), trivial⟩, ?_⟩
  refine List.forall_mem_cons.mpr ⟨⟨(trivial), trivial⟩, ?_⟩
  refine List.forall_mem_cons.mpr ⟨⟨(trivial), mj_ckOf mjK_101 (by decide) (mj_lnkG mjl_10_145)⟩, ?_⟩
  refine List.forall_mem_cons.mpr ⟨⟨(show (0 : Int) ≤ ((32 : Nat) : Int) + 14 by decide), trivial⟩, ?_⟩
  refine List.forall_mem_cons.mpr ⟨⟨(trivial), trivial⟩, ?_⟩
  refine List.forall_mem_cons.mpr ⟨⟨(trivial), trivial⟩, ?_⟩
  refine List.forall_mem_cons.mpr ⟨⟨(trivial), trivial⟩, ?_⟩
  refine List.forall_mem_cons.mpr ⟨⟨(trivial), mj_ckOf mjK_101 (by decide) (mj_lnkG mjl_10_145)⟩, ?_⟩
  refine List.forall_mem_cons.mpr ⟨⟨(show (0 : Int) ≤ ((43 : Nat) : Int) + 5 by decide), trivial⟩, ?_⟩
  refine List.forall_mem_cons.mpr ⟨⟨(trivial), trivial⟩, ?_⟩
  refine List.forall_mem_cons.mpr ⟨⟨(trivial), trivial⟩, ?_⟩
  refine List.forall_mem_cons.mpr ⟨⟨(trivial), trivial⟩, ?_⟩
  refine List.forall_mem_cons.mpr ⟨⟨(mj_lkG (by decide) rfl (by decide) mj_inU10 mjf_10_13), trivial⟩, ?_⟩
  refine List.forall_mem_cons.mpr ⟨⟨(trivial), trivial⟩, ?_⟩
  refine List.forall_mem_cons.mpr ⟨⟨(mj_lkG (by decide) rfl (by decide) mj_inU10 mjf_10_138), trivial⟩, ?_⟩
  refine List.forall_mem_cons.mpr ⟨⟨(trivial), trivial⟩, ?_⟩
  refine List.forall_mem_cons.mpr ⟨⟨(trivial), trivial⟩, ?_⟩
  refine List.forall_mem_cons.mpr ⟨⟨(trivial), trivial⟩, ?_⟩
  refine List.forall_mem_cons.mpr ⟨⟨(mj_lkG (by decide) rfl (by decide) mj_inU10 mjf_10_17), trivial⟩, ?_⟩
  refine List.forall_mem_cons.mpr ⟨⟨(trivial), trivial⟩, ?_⟩
  refine List.forall_mem_cons.mpr ⟨⟨(mj_lkG (by decide) rfl (by decide) mj_inU10 mjf_10_138), trivial⟩, ?_⟩
  refine List.forall_mem_cons.mpr ⟨⟨(trivial), trivial⟩, ?_⟩
  refine List.forall_mem_cons.mpr ⟨⟨(trivial), trivial⟩, ?_⟩
  refine List.forall_mem_cons.mpr ⟨⟨(trivial), trivial⟩, ?_⟩
  refine List.forall_mem_cons.mpr ⟨⟨(mj_lkG (by decide) rfl (by decide) mj_inU10 mjf_10_20), trivial⟩, ?_⟩
  refine List.forall_mem_cons.mpr ⟨⟨(trivial), trivial⟩, ?_⟩
  refine List.forall_mem_cons.mpr ⟨⟨(mj_lkG (by decide) rfl (by decide) mj_inU10 mjf_10_138), trivial⟩, ?_⟩
  refine List.forall_mem_cons.mpr ⟨⟨(trivial), trivial⟩, ?_⟩
  refine List.forall_mem_cons.mpr ⟨⟨(trivial), trivial⟩, ?_⟩
  refine List.forall_mem_cons.mpr ⟨⟨(trivial), trivial⟩, ?_⟩
  refine List.forall_mem_cons.mpr ⟨⟨(trivial), trivial⟩, ?_⟩
  refine List.forall_mem_cons.mpr ⟨⟨(mj_lkP (by decide) rfl (by decide) mj_inU10 mjf_10_149 mj_TyOk10 mj_Nm10 (Or.inl rfl) rfl), trivial⟩, ?_⟩
  refine List.forall_mem_cons.mpr ⟨⟨(trivial), trivial⟩, ?_⟩
  refine List.forall_mem_cons.mpr ⟨⟨(trivial), trivial⟩, ?_⟩
  refine List.forall_mem_cons.mpr ⟨⟨(mj_lkG (by decide) rfl (by decide) mj_inU10 mjf_10_138), trivial⟩, ?_⟩
  refine List.forall_mem_cons.mpr ⟨⟨(trivial), trivial⟩, ?_⟩
  refine List.forall_mem_cons.mpr ⟨⟨(trivial), trivial⟩, ?_⟩
  refine List.forall_mem_cons.mpr ⟨⟨(mj_lkP (by decide) rfl (by decide) mj_inU10 mjf_10_138 mj_TyOk10 mj_Nm10 (Or.inl rfl) rfl), trivial⟩, ?_⟩
  refine List.forall_mem_cons.mpr ⟨⟨(trivial), trivial⟩, ?_⟩
  refine List.forall_mem_cons.mpr ⟨⟨(mj_lkG (by decide) rfl (by decide) mj_inU10 mjf_10_138), trivial⟩, ?_⟩
  refine List.forall_mem_cons.mpr ⟨⟨(trivial), trivial⟩, ?_⟩
  refine List.forall_mem_cons.mpr ⟨⟨(trivial), trivial⟩, ?_⟩
  refine List.forall_mem_cons.mpr ⟨⟨(trivial), trivial⟩, ?_⟩
  exact fun _ h => absurd h List.not_mem_nil
theorem mjd_100 : mj_ckd 100 = true := by decide +kernel
theorem mjg_100 : mj_good 100 := mj_goodOf (fun _ => ⟨mj_G, rfl⟩) (by decide +kernel) mjd_100 mje_100
theorem mje_101 : ∀ e ∈ mj_tb101, mj_lk 101 e.1 e.2.1 e.2.2.1 e.2.2.2 ∧ mj_cok 101 e.2.1 e.2.2.1 e.2.2.2 := by
  unfold mj_tb101
  refine List.forall_mem_cons.mpr ⟨⟨(trivial), trivial⟩, ?_⟩
  refine List.forall_mem_cons.mpr ⟨⟨(trivial), trivial⟩, ?_⟩
  refine List.forall_mem_cons.mpr ⟨⟨(show (0 : Int) ≤ ((2 : Nat) : Int) + 12 by decide), trivial⟩, ?_⟩
  refine List.forall_mem_cons.mpr ⟨⟨(trivial), trivial⟩, ?_⟩
  refine List.forall_mem_cons.mpr ⟨⟨(trivial), trivial⟩, ?_⟩
  refine List.forall_mem_cons.mpr ⟨⟨(show (0 : Int) ≤ ((7 : Nat) : Int) + 7 by decide), trivial⟩, ?_⟩
  refine List.forall_mem_cons.mpr ⟨⟨(trivial), trivial⟩, ?_⟩
  refine List.forall_mem_cons.mpr ⟨⟨(show (0 : Int) ≤ ((11 : Nat) : Int) + 4 by decide), trivial⟩, ?_⟩
  refine List.forall_mem_cons.mpr ⟨⟨(trivial), trivial⟩, ?_⟩
  refine List.forall_mem_cons.mpr ⟨⟨(trivial), trivial⟩, ?_⟩
  exact fun _ h => absurd h List.not_mem_nil
theorem mjd_101 : mj_ckd 101 = true := by decide +kernel
theorem mjg_101 : mj_good 101 := mj_goodOf (fun _ => ⟨mj_G, rfl⟩) (by decide +kernel) mjd_101 mje_101
theorem mje_102 : ∀ e ∈ mj_tb102, mj_lk 102 e.1 e.2.1 e.2.2.1 e.2.2.2 ∧ mj_cok 102 e.2.1 e.2.2.1 e.2.2.2 := by
  unfold mj_tb102
  refine List.forall_mem_cons.mpr ⟨⟨(trivial), trivial⟩, ?_⟩
  refine List.forall_mem_cons.mpr ⟨⟨(mj_lkG (by decide) rfl (by decide) mj_inU10 mjf_10_141), trivial⟩, ?_⟩
  refine List.forall_mem_cons.mpr ⟨⟨(show (0 : Int) ≤ ((4 : Nat) : Int) + 56 by decide), trivial⟩, ?_⟩
  refine List.forall_mem_cons.mpr ⟨⟨(trivial), trivial⟩, ?_⟩
  refine List.forall_mem_cons.mpr ⟨⟨(trivial), trivial⟩, ?_⟩
  refine List.forall_mem_cons.mpr ⟨⟨(trivial), mj_ckOf mjK_103 (by decide) (mj_lnkG mjl_10_152)⟩, ?_⟩
  refine List.forall_mem_cons.mpr ⟨⟨(show (0 : Int) ≤ ((12 : Nat) : Int) + 48 by decide), trivial⟩, ?_⟩
  refine List.forall_mem_cons.mpr ⟨⟨(trivial), trivial⟩, ?_⟩
  refine List.forall_mem_cons.mpr ⟨⟨(trivial), trivial⟩, ?_⟩
  refine List.forall_mem_cons.mpr ⟨⟨(trivial), trivial⟩, ?_⟩
  refine List.forall_mem_cons.mpr ⟨⟨(trivial), mj_ckOf mjK_101 (by decide) (mj_lnkG mjl_10_145)⟩, ?_⟩
  refine List.forall_mem_cons.mpr ⟨⟨(show (0 : Int) ≤ ((21 : Nat) : Int) + 39 by decide), trivial⟩, ?_⟩
  refine List.forall_mem_cons.mpr ⟨⟨(trivial), trivial⟩, ?_⟩
  refine List.forall_mem_cons.mpr ⟨⟨(mj_lkG (by decide) rfl (by decide) mj_inU10 mjf_10_35), trivial⟩, ?_⟩
  refine List.forall_mem_cons.mpr ⟨⟨(trivial), trivial⟩, ?_⟩
  refine List.forall_mem_cons.mpr ⟨⟨(trivial), trivial⟩, ?_⟩
  refine List.forall_mem_cons.mpr ⟨⟨(trivial), trivial⟩, ?_⟩
  refine List.forall_mem_cons.mpr ⟨⟨(trivial), trivial⟩, ?_⟩
  refine List.forall_mem_cons.mpr ⟨⟨(trivial), trivial⟩, ?_⟩
  refine List.forall_mem_cons.mpr ⟨⟨(trivial), trivial⟩, ?_⟩
  refine List.forall_mem_cons.mpr ⟨⟨(trivial), trivial⟩, ?_⟩
  refine List.forall_mem_cons.mpr ⟨⟨(show (0 : Int) ≤ ((36 : Nat) : Int) + 24 by decide), trivial⟩, ?_⟩
  refine List.forall_mem_cons.mpr ⟨⟨(trivial), trivial⟩, ?_⟩
  refine List.forall_mem_cons.mpr ⟨⟨(trivial), trivial⟩, ?_⟩
  refine List.forall_mem_cons.mpr ⟨⟨(trivial), trivial⟩, ?_⟩
  refine List.forall_mem_cons.mpr ⟨⟨(trivial), mj_ckOf mjK_101 (by decide) (mj_lnkG mjl_10_145)⟩, ?_⟩
  refine List.forall_mem_cons.mpr ⟨⟨(show (0 : Int) ≤ ((46 : Nat) : Int) + 14 by decide), trivial⟩, ?_⟩
  refine List.forall_mem_cons.mpr ⟨⟨(trivial), trivial⟩, ?_⟩
  refine List.forall_mem_cons.mpr ⟨⟨(trivial), trivial⟩, ?_⟩
  refine List.forall_mem_cons.mpr ⟨⟨(trivial), trivial⟩, ?_⟩
  refine List.forall_mem_cons.mpr ⟨⟨(trivial), mj_ckOf mjK_104 (by decide) (mj_lnkG mjl_10_156)⟩, ?_⟩
  refine List.forall_mem_cons.mpr ⟨⟨(show (0 : Int) ≤ ((57 : Nat) : Int) + 5 by decide), trivial⟩, ?_⟩
  refine List.forall_mem_cons.mpr ⟨⟨(trivial), trivial⟩, ?_⟩
  refine List.forall_mem_cons.mpr ⟨⟨(trivial), trivial⟩, ?_⟩
  refine List.forall_mem_cons.mpr ⟨⟨(trivial), trivial⟩, ?_⟩
  refine List.forall_mem_cons.mpr ⟨⟨(trivial), trivial⟩, ?_⟩
  refine List.forall_mem_cons.mpr ⟨⟨(trivial), trivial⟩, ?_⟩
  refine List.forall_mem_cons.mpr ⟨⟨(trivial), trivial⟩, ?_⟩
  refine List.forall_mem_cons.mpr ⟨⟨(trivial), trivial⟩, ?_⟩
  refine List.forall_mem_cons.mpr ⟨⟨(trivial), trivial⟩, ?_⟩
  refine List.forall_mem_cons.mpr ⟨⟨(trivial), trivial⟩, ?_⟩
  refine List.forall_mem_cons.mpr ⟨⟨(trivial), trivial⟩, ?_⟩
  refine List.forall_mem_cons.mpr ⟨⟨(mj_lkG (by decide) rfl (by decide) mj_inU10 mjf_10_35), trivial⟩, ?_⟩
  refine List.forall_mem_cons.mpr ⟨⟨(trivial), trivial⟩, ?_⟩
  refine List.forall_mem_cons.mpr ⟨⟨(trivial), trivial⟩, ?_⟩
  refine List.forall_mem_cons.mpr ⟨⟨(trivial), trivial⟩, ?_⟩
  refine List.forall_mem_cons.mpr ⟨⟨(trivial), trivial⟩, ?_⟩
  refine List.forall_mem_cons.mpr ⟨⟨(trivial), trivial⟩, ?_⟩
  refine List.forall_mem_cons.mpr ⟨⟨(trivial), trivial⟩, ?_⟩
  refine List.forall_mem_cons.mpr ⟨⟨(trivial), trivial⟩, ?_⟩
  refine List.forall_mem_cons.mpr ⟨⟨(show (6 : Nat) < mj_maxL 102 by decide), trivial⟩, ?_⟩
  refine List.forall_mem_cons.mpr ⟨⟨(trivial), trivial⟩, ?_⟩
  refine List.forall_mem_cons.mpr ⟨⟨(mj_lkG (by decide) rfl (by decide) mj_inU10 mjf_10_23), trivial⟩, ?_⟩
  refine List.forall_mem_cons.mpr ⟨⟨(trivial), trivial⟩, ?_⟩
  refine List.forall_mem_cons.mpr ⟨⟨(trivial), trivial⟩, ?_⟩
  refine List.forall_mem_cons.mpr ⟨⟨(trivial), trivial⟩, ?_⟩
  refine List.forall_mem_cons.mpr ⟨⟨(trivial), trivial⟩, ?_⟩
  refine List.forall_mem_cons.mpr ⟨⟨(mj_lkG (by decide) rfl (by decide) mj_inU10 mjf_10_26), trivial⟩, ?_⟩
  refine List.forall_mem_cons.mpr ⟨⟨(trivial), trivial⟩, ?_⟩
  refine List.forall_mem_cons.mpr ⟨⟨(trivial), trivial⟩, ?_⟩
  refine List.forall_mem_cons.mpr ⟨⟨(trivial), trivial⟩, ?_⟩
  refine List.forall_mem_cons.mpr ⟨⟨(trivial), trivial⟩, ?_⟩
  refine List.forall_mem_cons.mpr ⟨⟨(mj_lkG (by decide) rfl (by decide) mj_inU10 mjf_10_29), trivial⟩, ?_⟩
  refine List.forall_mem_cons.mpr ⟨⟨(trivial), trivial⟩, ?_⟩
  refine List.forall_mem_cons.mpr ⟨⟨(trivial), trivial⟩, ?_⟩
  refine List.forall_mem_cons.mpr ⟨⟨(trivial), trivial⟩, ?_⟩
  refine List.forall_mem_cons.mpr ⟨⟨(trivial), trivial⟩, ?_⟩
  refine List.forall_mem_cons.mpr ⟨⟨(mj_lkG (by decide) rfl (by decide) mj_inU10 mjf_10_35), trivial⟩, ?_⟩
  refine List.forall_mem_cons.mpr ⟨⟨(trivial), trivial⟩, ?_⟩
  refine List.forall_mem_cons.mpr ⟨⟨(trivial), trivial⟩, ?_⟩
  refine List.forall_mem_cons.mpr ⟨⟨(trivial), trivial⟩, ?_⟩
  refine List.forall_mem_cons.mpr ⟨⟨(trivial), trivial⟩, ?_⟩
  refine List.forall_mem_cons.mpr ⟨⟨(trivial), trivial⟩, ?_⟩
  refine List.forall_mem_cons.mpr ⟨⟨(trivial), trivial⟩, ?_⟩
  refine List.forall_mem_cons.mpr ⟨⟨(trivial), trivial⟩, ?_⟩
  refine List.forall_mem_cons.mpr ⟨⟨(trivial), trivial⟩, ?_⟩
  refine List.forall_mem_cons.mpr ⟨⟨(trivial), trivial⟩, ?_⟩
  refine List.forall_mem_cons.mpr ⟨⟨(trivial), trivial⟩, ?_⟩
  refine List.forall_mem_cons.mpr ⟨⟨(trivial), trivial⟩, ?_⟩
  refine List.forall_mem_cons.mpr ⟨⟨(trivial), trivial⟩, ?_⟩
  refine List.forall_mem_cons.mpr ⟨⟨(mj_lkP (by decide) rfl (by decide) mj_inU10 mjf_10_149 mj_TyOk10 mj_Nm10 (Or.inl rfl) rfl), trivial⟩, ?_⟩
  refine List.forall_mem_cons.mpr ⟨⟨(trivial), trivial⟩, ?_⟩
  refine List.forall_mem_cons.mpr ⟨⟨(trivial), trivial⟩, ?_⟩
  exact fun _ h => absurd h List.not_mem_nil
theorem mjd_102 : mj_ckd 102 = true := by decide +kernel
theorem mjg_102 : mj_good 102 := mj_goodOf (fun _ => ⟨mj_G, rfl⟩) (by decide +kernel) mjd_102 mje_102
theorem mje_103 : ∀ e ∈ mj_tb103, mj_lk 103 e.1 e.2.1 e.2.2.1 e.2.2.2 ∧ mj_cok 103 e.2.1 e.2.2.1 e.2.2.2 := by
  unfold mj_tb103
  refine List.forall_mem_cons.mpr ⟨⟨(trivial), trivial⟩, ?_⟩
  refine List.forall_mem_cons.mpr ⟨⟨(show (0 : Int) ≤ ((1 : Nat) : Int) + 15 by decide), trivial⟩, ?_⟩
  refine List.forall_mem_cons.mpr ⟨⟨(trivial), trivial⟩, ?_⟩
  refine List.forall_mem_cons.mpr ⟨⟨(trivial), trivial⟩, ?_⟩
  refine List.forall_mem_cons.mpr ⟨⟨(mj_lkG (by decide) rfl (by decide) mj_inU10 mjf_10_138), trivial⟩, ?_⟩
  refine List.forall_mem_cons.mpr ⟨⟨(show (0 : Int) ≤ ((9 : Nat) : Int) + 7 by decide), trivial⟩, ?_⟩
  refine List.forall_mem_cons.mpr ⟨⟨(trivial), trivial⟩, ?_⟩
  refine List.forall_mem_cons.mpr ⟨⟨(show (0 : Int) ≤ ((13 : Nat) : Int) + 4 by decide), trivial⟩, ?_⟩
  refine List.forall_mem_cons.mpr ⟨⟨(trivial), trivial⟩, ?_⟩
  refine List.forall_mem_cons.mpr ⟨⟨(trivial), trivial⟩, ?_⟩
  exact fun _ h => absurd h List.not_mem_nil
theorem mjd_103 : mj_ckd 103 = true := by decide +kernel
theorem mjg_103 : mj_good 103 := mj_goodOf (fun _ => ⟨mj_G, rfl⟩) (by decide +kernel) mjd_103 mje_103
theorem mje_104 : ∀ e ∈ mj_tb104, mj_lk 104 e.1 e.2.1 e.2.2.1 e.2.2.2 ∧ mj_cok 104 e.2.1 e.2.2.1 e.2.2.2 := by
  unfold mj_tb104
  refine List.forall_mem_cons.mpr ⟨⟨(trivial), trivial⟩, ?_⟩
  refine List.forall_mem_cons.mpr ⟨⟨(trivial), trivial⟩, ?_⟩
  refine List.forall_mem_cons.mpr ⟨⟨(show (0 : Int) ≤ ((3 : Nat) : Int) + 13 by decide), trivial⟩, ?_⟩
  refine List.forall_mem_cons.mpr ⟨⟨(trivial), trivial⟩, ?_⟩
  refine List.forall_mem_cons.mpr ⟨⟨(trivial), trivial⟩, ?_⟩
  refine List.forall_mem_cons.mpr ⟨⟨(show (0 : Int) ≤ ((9 : Nat) : Int) + 7 by decide), trivial⟩, ?_⟩
  refine List.forall_mem_cons.mpr ⟨⟨(trivial), trivial⟩, ?_⟩
  refine List.forall_mem_cons.mpr ⟨⟨(show (0 : Int) ≤ ((13 : Nat) : Int) + 4 by decide), trivial⟩, ?_⟩
  refine List.forall_mem_cons.mpr ⟨⟨(trivial), trivial⟩, ?_⟩
  refine List.forall_mem_cons.mpr ⟨⟨(show (3 : Nat) < mj_maxL 104 by decide), trivial⟩, ?_⟩
  refine List.forall_mem_cons.mpr ⟨⟨(trivial), trivial⟩, ?_⟩
  refine List.forall_mem_cons.mpr ⟨⟨(show (0 : Int) ≤ ((19 : Nat) : Int) + 15 by decide), trivial⟩, ?_⟩
  refine List.forall_mem_cons.mpr ⟨⟨(trivial), trivial⟩, ?_⟩
  refine List.forall_mem_cons.mpr ⟨⟨(show (0 : Int) ≤ ((23 : Nat) : Int) + 7 by decide), trivial⟩, ?_⟩
  refine List.forall_mem_cons.mpr ⟨⟨(trivial), trivial⟩, ?_⟩
  refine List.forall_mem_cons.mpr ⟨⟨(show (0 : Int) ≤ ((27 : Nat) : Int) + 13 by decide), trivial⟩, ?_⟩
  refine List.forall_mem_cons.mpr ⟨⟨(trivial), trivial⟩, ?_⟩
  refine List.forall_mem_cons.mpr ⟨⟨(show (0 : Int) ≤ ((31 : Nat) : Int) + 9 by decide), trivial⟩, ?_⟩
  refine List.forall_mem_cons.mpr ⟨⟨(trivial), trivial⟩, ?_⟩
  refine List.forall_mem_cons.mpr ⟨⟨(trivial), trivial⟩, ?_⟩
  refine List.forall_mem_cons.mpr ⟨⟨(trivial), trivial⟩, ?_⟩
  refine List.forall_mem_cons.mpr ⟨⟨(trivial), mj_ckOf mjK_101 (by decide) (mj_lnkG mjl_10_145)⟩, ?_⟩
  refine List.forall_mem_cons.mpr ⟨⟨(show (4 : Nat) < mj_maxL 104 by decide), trivial⟩, ?_⟩
  refine List.forall_mem_cons.mpr ⟨⟨(trivial), trivial⟩, ?_⟩
  refine List.forall_mem_cons.mpr ⟨⟨(trivial), trivial⟩, ?_⟩
  refine List.forall_mem_cons.mpr ⟨⟨(show (0 : Int) ≤ ((44 : Nat) : Int) + 9 by decide), trivial⟩, ?_⟩
  refine List.forall_mem_cons.mpr ⟨⟨(trivial), trivial⟩, ?_⟩
  refine List.forall_mem_cons.mpr ⟨⟨(trivial), trivial⟩, ?_⟩
  refine List.forall_mem_cons.mpr ⟨⟨(show (0 : Int) ≤ ((50 : Nat) : Int) + 7 by decide), trivial⟩, ?_⟩
  refine List.forall_mem_cons.mpr ⟨⟨(trivial), trivial⟩, ?_⟩
  refine List.forall_mem_cons.mpr ⟨⟨(show (0 : Int) ≤ ((54 : Nat) : Int) + 4 by decide), trivial⟩, ?_⟩
  refine List.forall_mem_cons.mpr ⟨⟨(trivial), trivial⟩, ?_⟩
  refine List.forall_mem_cons.mpr ⟨⟨(show (5 : Nat) < mj_maxL 104 by decide), trivial⟩, ?_⟩
  refine List.forall_mem_cons.mpr ⟨⟨(trivial), trivial⟩, ?_⟩
  refine List.forall_mem_cons.mpr ⟨⟨(trivial), trivial⟩, ?_⟩
  refine List.forall_mem_cons.mpr ⟨⟨(show (0 : Int) ≤ ((62 : Nat) : Int) + 8 by decide), trivial⟩, ?_⟩
  refine List.forall_mem_cons.mpr ⟨⟨(trivial), trivial⟩, ?_⟩
  refine List.forall_mem_cons.mpr ⟨⟨(trivial), trivial⟩, ?_⟩
  refine List.forall_mem_cons.mpr ⟨⟨(show (0 : Int) ≤ ((67 : Nat) : Int) + 8 by decide), trivial⟩, ?_⟩
  refine List.forall_mem_cons.mpr ⟨⟨(trivial), trivial⟩, ?_⟩
  refine List.forall_mem_cons.mpr ⟨⟨(show (0 : Int) ≤ ((72 : Nat) : Int) + 73 by decide), trivial⟩, ?_⟩
  refine List.forall_mem_cons.mpr ⟨⟨(trivial), trivial⟩, ?_⟩
  refine List.forall_mem_cons.mpr ⟨⟨(trivial), trivial⟩, ?_⟩
  refine List.forall_mem_cons.mpr ⟨⟨(show (0 : Int) ≤ ((77 : Nat) : Int) + 8 by decide), trivial⟩, ?_⟩
  refine List.forall_mem_cons.mpr ⟨⟨(trivial), trivial⟩, ?_⟩
  refine List.forall_mem_cons.mpr ⟨⟨(show (0 : Int) ≤ ((82 : Nat) : Int) + 63 by decide), trivial⟩, ?_⟩
  refine List.forall_mem_cons.mpr ⟨⟨(trivial), trivial⟩, ?_⟩
  refine List.forall_mem_cons.mpr ⟨⟨(trivial), trivial⟩, ?_⟩
  refine List.forall_mem_cons.mpr ⟨⟨(show (0 : Int) ≤ ((88 : Nat) : Int) + 8 by decide), trivial⟩, ?_⟩
  refine List.forall_mem_cons.mpr ⟨⟨(trivial), trivial⟩, ?_⟩
  refine List.forall_mem_cons.mpr ⟨⟨(show (0 : Int) ≤ ((93 : Nat) : Int) + 52 by decide), trivial⟩, ?_⟩
  refine List.forall_mem_cons.mpr ⟨⟨(trivial), trivial⟩, ?_⟩
  refine List.forall_mem_cons.mpr ⟨⟨(trivial), trivial⟩, ?_⟩
  refine List.forall_mem_cons.mpr ⟨⟨(show (0 : Int) ≤ ((99 : Nat) : Int) + 15 by decide), trivial⟩, ?_⟩
  refine List.forall_mem_cons.mpr ⟨⟨(trivial), trivial⟩, ?_⟩
  refine List.forall_mem_cons.mpr ⟨⟨(trivial), trivial⟩, ?_⟩
  refine List.forall_mem_cons.mpr ⟨⟨(show (0 : Int) ≤ ((105 : Nat) : Int) + 9 by decide), trivial⟩, ?_⟩
  refine List.forall_mem_cons.mpr ⟨⟨(trivial), trivial⟩, ?_⟩
  refine List.forall_mem_cons.mpr ⟨⟨(trivial), trivial⟩, ?_⟩
  refine List.forall_mem_cons.mpr ⟨⟨(show (0 : Int) ≤ ((111 : Nat) : Int) + 7 by decide), trivial⟩, ?_⟩
  refine List.forall_mem_cons.mpr ⟨⟨(trivial), trivial⟩, ?_⟩
  refine List.forall_mem_cons.mpr ⟨⟨(show (0 : Int) ≤ ((115 : Nat) : Int) + 30 by decide), trivial⟩, ?_⟩
  refine List.forall_mem_cons.mpr ⟨⟨(trivial), trivial⟩, ?_⟩
  refine List.forall_mem_cons.mpr ⟨⟨(trivial), trivial⟩, ?_⟩
  refine List.forall_mem_cons.mpr ⟨⟨(show (0 : Int) ≤ ((121 : Nat) : Int) + 7 by decide), trivial⟩, ?_⟩
  refine List.forall_mem_cons.mpr ⟨⟨(trivial), trivial⟩, ?_⟩
  refine List.forall_mem_cons.mpr ⟨⟨(show (0 : Int) ≤ ((125 : Nat) : Int) + 20 by decide), trivial⟩, ?_⟩
  refine List.forall_mem_cons.mpr ⟨⟨(trivial), trivial⟩, ?_⟩
  refine List.forall_mem_cons.mpr ⟨⟨(trivial), trivial⟩, ?_⟩
  refine List.forall_mem_cons.mpr ⟨⟨(show (0 : Int) ≤ ((131 : Nat) : Int) + 9 by decide), trivial⟩, ?_⟩
  refine List.forall_mem_cons.mpr ⟨⟨(trivial), trivial⟩, ?_⟩
  refine List.forall_mem_cons.mpr ⟨⟨(trivial), trivial⟩, ?_⟩
  refine List.forall_mem_cons.mpr ⟨⟨(show (0 : Int) ≤ ((137 : Nat) : Int) + 7 by decide), trivial⟩, ?_⟩
  refine List.forall_mem_cons.mpr ⟨⟨(trivial), trivial⟩, ?_⟩
  refine List.forall_mem_cons.mpr ⟨⟨(show (0 : Int) ≤ ((141 : Nat) : Int) + 4 by decide), trivial⟩, ?_⟩
  refine List.forall_mem_cons.mpr ⟨⟨(trivial), trivial⟩, ?_⟩
  refine List.forall_mem_cons.mpr ⟨⟨(show (6 : Nat) < mj_maxL 104 by decide), trivial⟩, ?_⟩
  refine List.forall_mem_cons.mpr ⟨⟨(trivial), trivial⟩, ?_⟩
  refine List.forall_mem_cons.mpr ⟨⟨(show (0 : Int) ≤ ((149 : Nat) : Int) + 22 by decide), trivial⟩, ?_⟩
  refine List.forall_mem_cons.mpr ⟨⟨(trivial), trivial⟩, ?_⟩
  refine List.forall_mem_cons.mpr ⟨⟨(show (0 : Int) ≤ ((153 : Nat) : Int) + 14 by decide), trivial⟩, ?_⟩
  refine List.forall_mem_cons.mpr ⟨⟨(trivial), trivial⟩, ?_⟩
  refine List.forall_mem_cons.mpr ⟨⟨(trivial), trivial⟩, ?_⟩
  refine List.forall_mem_cons.mpr ⟨⟨(trivial), trivial⟩, ?_⟩
  refine List.forall_mem_cons.mpr ⟨⟨(trivial), mj_ckOf mjK_101 (by decide) (mj_lnkG mjl_10_145)⟩, ?_⟩
  refine List.forall_mem_cons.mpr ⟨⟨(show (0 : Int) ≤ ((164 : Nat) : Int) + 7 by decide), trivial⟩, ?_⟩
  refine List.forall_mem_cons.mpr ⟨⟨(trivial), trivial⟩, ?_⟩
  refine List.forall_mem_cons.mpr ⟨⟨(show (0 : Int) ≤ ((168 : Nat) : Int) + 4 by decide), trivial⟩, ?_⟩
  refine List.forall_mem_cons.mpr ⟨⟨(trivial), trivial⟩, ?_⟩
  refine List.forall_mem_cons.mpr ⟨⟨(trivial), trivial⟩, ?_⟩
  exact fun _ h => absurd h List.not_mem_nil
theorem mjd_104 : mj_ckd 104 = true := by decide +kernel
theorem mjg_104 : mj_good 104 := mj_goodOf (fun _ => ⟨mj_G, rfl⟩) (by decide +kernel) mjd_104 mje_104
theorem mje_105 : ∀ e ∈ mj_tb105, mj_lk 105 e.1 e.2.1 e.2.2.1 e.2.2.2 ∧ mj_cok 105 e.2.1 e.2.2.1 e.2.2.2 := by
  unfold mj_tb105
  refine List.forall_mem_cons.mpr ⟨⟨(trivial), trivial⟩, ?_⟩
  refine List.forall_mem_cons.mpr ⟨⟨(mj_lkG (by decide) rfl (by decide) mj_inU10 mjf_10_141), trivial⟩, ?_⟩
  refine List.forall_mem_cons.mpr ⟨⟨(show (0 : Int) ≤ ((4 : Nat) : Int) + 11 by decide), trivial⟩, ?_⟩
  refine List.forall_mem_cons.mpr ⟨⟨(trivial), trivial⟩, ?_⟩
  refine List.forall_mem_cons.mpr ⟨⟨(trivial), trivial⟩, ?_⟩
  refine List.forall_mem_cons.mpr ⟨⟨(trivial), mj_ckOf mjK_103 (by decide) (mj_lnkG mjl_10_152)⟩, ?_⟩
  refine List.forall_mem_cons.mpr ⟨⟨(show (0 : Int) ≤ ((12 : Nat) : Int) + 5 by decide), trivial⟩, ?_⟩
  refine List.forall_mem_cons.mpr ⟨⟨(trivial), trivial⟩, ?_⟩
  refine List.forall_mem_cons.mpr ⟨⟨(trivial), trivial⟩, ?_⟩
  refine List.forall_mem_cons.mpr ⟨⟨(trivial), trivial⟩, ?_⟩
  refine List.forall_mem_cons.mpr ⟨⟨(show (2 : Nat) < mj_maxL 105 by decide), trivial⟩, ?_⟩
  refine List.forall_mem_cons.mpr ⟨⟨(trivial), trivial⟩, ?_⟩
  refine List.forall_mem_cons.mpr ⟨⟨(trivial), trivial⟩, ?_⟩
  refine List.forall_mem_cons.mpr ⟨⟨(show (0 : Int) ≤ ((21 : Nat) : Int) + 20 by decide), trivial⟩, ?_⟩
  refine List.forall_mem_cons.mpr ⟨⟨(trivial), trivial⟩, ?_⟩
  refine List.forall_mem_cons.mpr ⟨⟨(mj_lkG (by decide) rfl (by decide) mj_inU10 mjf_10_35), trivial⟩, ?_⟩
  refine List.forall_mem_cons.mpr ⟨⟨(trivial), trivial⟩, ?_⟩
  refine List.forall_mem_cons.mpr ⟨⟨(trivial), trivial⟩, ?_⟩
  refine List.forall_mem_cons.mpr ⟨⟨(trivial), trivial⟩, ?_⟩
  refine List.forall_mem_cons.mpr ⟨⟨(trivial), trivial⟩, ?_⟩
  refine List.forall_mem_cons.mpr ⟨⟨(trivial), trivial⟩, ?_⟩
  refine List.forall_mem_cons.mpr ⟨⟨(trivial), trivial⟩, ?_⟩
  refine List.forall_mem_cons.mpr ⟨⟨(trivial), trivial⟩, ?_⟩
  refine List.forall_mem_cons.mpr ⟨⟨(show (2 : Nat) < mj_maxL 105 by decide), trivial⟩, ?_⟩
  refine List.forall_mem_cons.mpr ⟨⟨(show (0 : Int) ≤ ((38 : Nat) : Int) + (-19) by decide), trivial⟩, ?_⟩
  refine List.forall_mem_cons.mpr ⟨⟨(trivial), trivial⟩, ?_⟩
  refine List.forall_mem_cons.mpr ⟨⟨(trivial), trivial⟩, ?_⟩
  refine List.forall_mem_cons.mpr ⟨⟨(mj_lkP (by decide) rfl (by decide) mj_inU10 mjf_10_149 mj_TyOk10 mj_Nm10 (Or.inl rfl) rfl), trivial⟩, ?_⟩
  refine List.forall_mem_cons.mpr ⟨⟨(trivial), trivial⟩, ?_⟩
  refine List.forall_mem_cons.mpr ⟨⟨(trivial), trivial⟩, ?_⟩
  exact fun _ h => absurd h List.not_mem_nil
theorem mjd_105 : mj_ckd 105 = true := by decide +kernel
theorem mjg_105 : mj_good 105 := mj_goodOf (fun _ => ⟨mj_G, rfl⟩) (by decide +kernel) mjd_105 mje_105
theorem mje_106 : ∀ e ∈ mj_tb106, mj_lk 106 e.1 e.2.1 e.2.2.1 e.2.2.2 ∧ mj_cok 106 e.2.1 e.2.2.1 e.2.2.2 := by
  unfold mj_tb106
  refine List.forall_mem_cons.mpr ⟨⟨(trivial), trivial⟩, ?_⟩
  refine List.forall_mem_cons.mpr ⟨⟨(mj_lkG (by decide) rfl (by decide) mj_inU10 mjf_10_141), trivial⟩, ?_⟩
  refine List.forall_mem_cons.mpr ⟨⟨(show (0 : Int) ≤ ((4 : Nat) : Int) + 5 by decide), trivial⟩, ?_⟩
  refine List.forall_mem_cons.mpr ⟨⟨(trivial), trivial⟩, ?_⟩
  refine List.forall_mem_cons.mpr ⟨⟨(trivial), trivial⟩, ?_⟩
  refine List.forall_mem_cons.mpr ⟨⟨(trivial), trivial⟩, ?_⟩
  refine List.forall_mem_cons.mpr ⟨⟨(trivial), trivial⟩, ?_⟩
  refine List.forall_mem_cons.mpr ⟨⟨(mj_lkP (by decide) rfl (by decide) mj_inU10 mjf_10_7 mj_TyOk10 mj_Nm10 (Or.inl rfl) rfl), trivial⟩, ?_⟩
  refine List.forall_mem_cons.mpr ⟨⟨(trivial), trivial⟩, ?_⟩
  refine List.forall_mem_cons.mpr ⟨⟨(trivial), trivial⟩, ?_⟩
  refine List.forall_mem_cons.mpr ⟨⟨(mj_lkP (by decide) rfl (by decide) mj_inU10 mjf_10_149 mj_TyOk10 mj_Nm10 (Or.inl rfl) rfl), trivial⟩, ?_⟩
  refine List.forall_mem_cons.mpr ⟨⟨(trivial), trivial⟩, ?_⟩
  refine List.forall_mem_cons.mpr ⟨⟨(mj_lkG (by decide) rfl (by decide) mj_inU10 mjf_10_138), trivial⟩, ?_⟩
  refine List.forall_mem_cons.mpr ⟨⟨(show (0 : Int) ≤ ((23 : Nat) : Int) + 6 by decide), trivial⟩, ?_⟩
  refine List.forall_mem_cons.mpr ⟨⟨(trivial), trivial⟩, ?_⟩
  refine List.forall_mem_cons.mpr ⟨⟨(trivial), trivial⟩, ?_⟩
  refine List.forall_mem_cons.mpr ⟨⟨(trivial), trivial⟩, ?_⟩
  refine List.forall_mem_cons.mpr ⟨⟨(show (1 : Nat) < mj_maxL 106 by decide), trivial⟩, ?_⟩
  refine List.forall_mem_cons.mpr ⟨⟨(trivial), trivial⟩, ?_⟩
  refine List.forall_mem_cons.mpr ⟨⟨(trivial), trivial⟩, ?_⟩
  refine List.forall_mem_cons.mpr ⟨⟨(mj_lkG (by decide) rfl (by decide) mj_inU10 mjf_10_138), trivial⟩, ?_⟩
  refine List.forall_mem_cons.mpr ⟨⟨(show (0 : Int) ≤ ((36 : Nat) : Int) + 26 by decide), trivial⟩, ?_⟩
  refine List.forall_mem_cons.mpr ⟨⟨(trivial), trivial⟩, ?_⟩
  refine List.forall_mem_cons.mpr ⟨⟨(trivial), trivial⟩, ?_⟩
  refine List.forall_mem_cons.mpr ⟨⟨(trivial), mj_ckOf mjK_107 (by decide) (mj_lnkG mjl_10_193)⟩, ?_⟩
  refine List.forall_mem_cons.mpr ⟨⟨(show (2 : Nat) < mj_maxL 106 by decide), trivial⟩, ?_⟩
  refine List.forall_mem_cons.mpr ⟨⟨(trivial), trivial⟩, ?_⟩
  refine List.forall_mem_cons.mpr ⟨⟨(show (0 : Int) ≤ ((46 : Nat) : Int) + 10 by decide), trivial⟩, ?_⟩
  refine List.forall_mem_cons.mpr ⟨⟨(trivial), trivial⟩, ?_⟩
  refine List.forall_mem_cons.mpr ⟨⟨(trivial), trivial⟩, ?_⟩
  refine List.forall_mem_cons.mpr ⟨⟨(trivial), trivial⟩, ?_⟩
  refine List.forall_mem_cons.mpr ⟨⟨(trivial), trivial⟩, ?_⟩
  refine List.forall_mem_cons.mpr ⟨⟨(trivial), trivial⟩, ?_⟩
  refine List.forall_mem_cons.mpr ⟨⟨(trivial), trivial⟩, ?_⟩
  refine List.forall_mem_cons.mpr ⟨⟨(show (1 : Nat) < mj_maxL 106 by decide), trivial⟩, ?_⟩
  refine List.forall_mem_cons.mpr ⟨⟨(show (0 : Int) ≤ ((59 : Nat) : Int) + (-28) by decide), trivial⟩, ?_⟩
  refine List.forall_mem_cons.mpr ⟨⟨(trivial), trivial⟩, ?_⟩
  refine List.forall_mem_cons.mpr ⟨⟨(show (1 : Nat) < mj_maxL 106 by decide), trivial⟩, ?_⟩
  refine List.forall_mem_cons.mpr ⟨⟨(trivial), trivial⟩, ?_⟩
  refine List.forall_mem_cons.mpr ⟨⟨(trivial), trivial⟩, ?_⟩
  refine List.forall_mem_cons.mpr ⟨⟨(mj_lkG (by decide) rfl (by decide) mj_inU10 mjf_10_138), trivial⟩, ?_⟩
  refine List.forall_mem_cons.mpr ⟨⟨(show (0 : Int) ≤ ((69 : Nat) : Int) + 14 by decide), trivial⟩, ?_⟩
  refine List.forall_mem_cons.mpr ⟨⟨(trivial), trivial⟩, ?_⟩
  refine List.forall_mem_cons.mpr ⟨⟨(trivial), trivial⟩, ?_⟩
  refine List.forall_mem_cons.mpr ⟨⟨(trivial), mj_ckOf mjK_115 (by decide) (mj_lnkG mjl_10_196)⟩, ?_⟩
  refine List.forall_mem_cons.mpr ⟨⟨(show (1 : Nat) < mj_maxL 106 by decide), trivial⟩, ?_⟩
  refine List.forall_mem_cons.mpr ⟨⟨(show (0 : Int) ≤ ((80 : Nat) : Int) + (-16) by decide), trivial⟩, ?_⟩
  refine List.forall_mem_cons.mpr ⟨⟨(trivial), trivial⟩, ?_⟩
  refine List.forall_mem_cons.mpr ⟨⟨(show (1 : Nat) < mj_maxL 106 by decide), trivial⟩, ?_⟩
  refine List.forall_mem_cons.mpr ⟨⟨(trivial), trivial⟩, ?_⟩
  refine List.forall_mem_cons.mpr ⟨⟨(trivial), trivial⟩, ?_⟩
  refine List.forall_mem_cons.mpr ⟨⟨(show (0 : Int) ≤ ((87 : Nat) : Int) + 20 by decide), trivial⟩, ?_⟩
  refine List.forall_mem_cons.mpr ⟨⟨(trivial), trivial⟩, ?_⟩
  refine List.forall_mem_cons.mpr ⟨⟨(mj_lkG (by decide) rfl (by decide) mj_inU10 mjf_10_62), trivial⟩, ?_⟩
  refine List.forall_mem_cons.mpr ⟨⟨(trivial), trivial⟩, ?_⟩
  refine List.forall_mem_cons.mpr ⟨⟨(trivial), trivial⟩, ?_⟩
  refine List.forall_mem_cons.mpr ⟨⟨(trivial), trivial⟩, ?_⟩
  refine List.forall_mem_cons.mpr ⟨⟨(trivial), mj_ckOf mjK_117 (by decide) (mj_lnkG mjl_10_200)⟩, ?_⟩
  refine List.forall_mem_cons.mpr ⟨⟨(trivial), trivial⟩, ?_⟩
  refine List.forall_mem_cons.mpr ⟨⟨(show (1 : Nat) < mj_maxL 106 by decide), trivial⟩, ?_⟩
  refine List.forall_mem_cons.mpr ⟨⟨(show (0 : Int) ≤ ((104 : Nat) : Int) + (-19) by decide), trivial⟩, ?_⟩
  refine List.forall_mem_cons.mpr ⟨⟨(trivial), trivial⟩, ?_⟩
  refine List.forall_mem_cons.mpr ⟨⟨(trivial), trivial⟩, ?_⟩
  refine List.forall_mem_cons.mpr ⟨⟨(mj_lkP (by decide) rfl (by decide) mj_inU10 mjf_10_149 mj_TyOk10 mj_Nm10 (Or.inl rfl) rfl), trivial⟩, ?_⟩
  refine List.forall_mem_cons.mpr ⟨⟨(trivial), trivial⟩, ?_⟩
  refine List.forall_mem_cons.mpr ⟨⟨(show (1 : Nat) < mj_maxL 106 by decide), trivial⟩, ?_⟩
  refine List.forall_mem_cons.mpr ⟨⟨(trivial), trivial⟩, ?_⟩
  refine List.forall_mem_cons.mpr ⟨⟨(show (2 : Nat) < mj_maxL 106 by decide), trivial⟩, ?_⟩
  refine List.forall_mem_cons.mpr ⟨⟨(trivial), trivial⟩, ?_⟩
  refine List.forall_mem_cons.mpr ⟨⟨(trivial), trivial⟩, ?_⟩
  refine List.forall_mem_cons.mpr ⟨⟨(mj_lkG (by decide) rfl (by decide) mj_inU10 mjf_10_138), trivial⟩, ?_⟩
  refine List.forall_mem_cons.mpr ⟨⟨(show (0 : Int) ≤ ((121 : Nat) : Int) + 64 by decide), trivial⟩, ?_⟩
  refine List.forall_mem_cons.mpr ⟨⟨(trivial), trivial⟩, ?_⟩
  refine List.forall_mem_cons.mpr ⟨⟨(mj_lkG (by decide) rfl (by decide) mj_inU10 mjf_10_56), trivial⟩, ?_⟩
  refine List.forall_mem_cons.mpr ⟨⟨(trivial), trivial⟩, ?_⟩
  refine List.forall_mem_cons.mpr ⟨⟨(trivial), trivial⟩, ?_⟩
  refine List.forall_mem_cons.mpr ⟨⟨(trivial), trivial⟩, ?_⟩
  refine List.forall_mem_cons.mpr ⟨⟨(trivial), mj_ckOf mjK_118 (by decide) (mj_lnkG mjl_10_203)⟩, ?_⟩
  refine List.forall_mem_cons.mpr ⟨⟨(trivial), trivial⟩, ?_⟩
  refine List.forall_mem_cons.mpr ⟨⟨(trivial), trivial⟩, ?_⟩
  refine List.forall_mem_cons.mpr ⟨⟨(mj_lkG (by decide) rfl (by decide) mj_inU10 mjf_10_59), trivial⟩, ?_⟩
  refine List.forall_mem_cons.mpr ⟨⟨(trivial), trivial⟩, ?_⟩
  refine List.forall_mem_cons.mpr ⟨⟨(trivial), trivial⟩, ?_⟩
  refine List.forall_mem_cons.mpr ⟨⟨(show (0 : Int) ≤ ((141 : Nat) : Int) + 11 by decide), trivial⟩, ?_⟩
  refine List.forall_mem_cons.mpr ⟨⟨(trivial), trivial⟩, ?_⟩
  refine List.forall_mem_cons.mpr ⟨⟨(trivial), trivial⟩, ?_⟩
  refine List.forall_mem_cons.mpr ⟨⟨(trivial), mj_ckOf mjK_119 (by decide) (mj_lnkG mjl_10_206)⟩, ?_⟩
  refine List.forall_mem_cons.mpr ⟨⟨(show (0 : Int) ≤ ((149 : Nat) : Int) + 4 by decide), trivial⟩, ?_⟩
  refine List.forall_mem_cons.mpr ⟨⟨(trivial), trivial⟩, ?_⟩
  refine List.forall_mem_cons.mpr ⟨⟨(trivial), trivial⟩, ?_⟩
  refine List.forall_mem_cons.mpr ⟨⟨(trivial), trivial⟩, ?_⟩
  refine List.forall_mem_cons.mpr ⟨⟨(show (0 : Int) ≤ ((155 : Nat) : Int) + 22 by decide), trivial⟩, ?_⟩
  refine List.forall_mem_cons.mpr ⟨⟨(trivial), trivial⟩, ?_⟩
  refine List.forall_mem_cons.mpr ⟨⟨(mj_lkG (by decide) rfl (by decide) mj_inU10 mjf_10_59), trivial⟩, ?_⟩
  refine List.forall_mem_cons.mpr ⟨⟨(trivial), trivial⟩, ?_⟩
  refine List.forall_mem_cons.mpr ⟨⟨(trivial), trivial⟩, ?_⟩
  refine List.forall_mem_cons.mpr ⟨⟨(show (0 : Int) ≤ ((164 : Nat) : Int) + 13 by decide), trivial⟩, ?_⟩
  refine List.forall_mem_cons.mpr ⟨⟨(trivial), trivial⟩, ?_⟩
  refine List.forall_mem_cons.mpr ⟨⟨(trivial), trivial⟩, ?_⟩
  refine List.forall_mem_cons.mpr ⟨⟨(trivial), trivial⟩, ?_⟩
  refine List.forall_mem_cons.mpr ⟨⟨(trivial), trivial⟩, ?_⟩
  refine List.forall_mem_cons.mpr ⟨⟨(trivial), trivial⟩, ?_⟩
  refine List.forall_mem_cons.mpr ⟨⟨(show (0 : Int) ≤ ((174 : Nat) : Int) + 4 by decide), trivial⟩, ?_⟩
  refine List.forall_mem_cons.mpr ⟨⟨(trivial), trivial⟩, ?_⟩
  refine List.forall_mem_cons.mpr ⟨⟨(show (1 : Nat) < mj_maxL 106 by decide), trivial⟩, ?_⟩
  refine List.forall_mem_cons.mpr ⟨⟨(show (2 : Nat) < mj_maxL 106 by decide), trivial⟩, ?_⟩
  refine List.forall_mem_cons.mpr ⟨⟨(show (0 : Int) ≤ ((182 : Nat) : Int) + (-66) by decide), trivial⟩, ?_⟩
  refine List.forall_mem_cons.mpr ⟨⟨(trivial), trivial⟩, ?_⟩
  refine List.forall_mem_cons.mpr ⟨⟨(trivial), trivial⟩, ?_⟩
  exact fun _ h => absurd h List.not_mem_nil
theorem mjd_106 : mj_ckd 106 = true := by decide +kernel
theorem mjg_106 : mj_good 106 := mj_goodOf (fun _ => ⟨mj_G, rfl⟩) (by decide +kernel) mjd_106 mje_106
theorem mje_107 : ∀ e ∈ mj_tb107, mj_lk 107 e.1 e.2.1 e.2.2.1 e.2.2.2 ∧ mj_cok 107 e.2.1 e.2.2.1 e.2.2.2 := by
  unfold mj_tb107
  refine List.forall_mem_cons.mpr ⟨⟨(trivial), trivial⟩, ?_⟩
  refine List.forall_mem_cons.mpr ⟨⟨(show (2 : Nat) < mj_maxL 107 by decide), trivial⟩, ?_⟩
  refine List.forall_mem_cons.mpr ⟨⟨(trivial), trivial⟩, ?_⟩
  refine List.forall_mem_cons.mpr ⟨⟨(trivial), trivial⟩, ?_⟩
  refine List.forall_mem_cons.mpr ⟨⟨(show (0 : Int) ≤ ((4 : Nat) : Int) + 129 by decide), trivial⟩, ?_⟩
  refine List.forall_mem_cons.mpr ⟨⟨(trivial), trivial⟩, ?_⟩
  refine List.forall_mem_cons.mpr ⟨⟨(mj_lkG (by decide) rfl (by decide) mj_inU10 mjf_10_35), trivial⟩, ?_⟩
  refine List.forall_mem_cons.mpr ⟨⟨(trivial), trivial⟩, ?_⟩
  refine List.forall_mem_cons.mpr ⟨⟨(trivial), trivial⟩, ?_⟩
  refine List.forall_mem_cons.mpr ⟨⟨(trivial), trivial⟩, ?_⟩
  refine List.forall_mem_cons.mpr ⟨⟨(trivial), trivial⟩, ?_⟩
  refine List.forall_mem_cons.mpr ⟨⟨(trivial), trivial⟩, ?_⟩
  refine List.forall_mem_cons.mpr ⟨⟨(trivial), trivial⟩, ?_⟩
  refine List.forall_mem_cons.mpr ⟨⟨(show (3 : Nat) < mj_maxL 107 by decide), trivial⟩, ?_⟩
  refine List.forall_mem_cons.mpr ⟨⟨(trivial), trivial⟩, ?_⟩
  refine List.forall_mem_cons.mpr ⟨⟨(trivial), trivial⟩, ?_⟩
  refine List.forall_mem_cons.mpr ⟨⟨(mj_lkP (by decide) rfl (by decide) mj_inU10 mjf_10_159 mj_TyOk10 mj_Nm10 (Or.inl rfl) rfl), trivial⟩, ?_⟩
  refine List.forall_mem_cons.mpr ⟨⟨(trivial), trivial⟩, ?_⟩
  refine List.forall_mem_cons.mpr ⟨⟨(show (4 : Nat) < mj_maxL 107 by decide), trivial⟩, ?_⟩
  refine List.forall_mem_cons.mpr ⟨⟨(trivial), trivial⟩, ?_⟩
  refine List.forall_mem_cons.mpr ⟨⟨(trivial), trivial⟩, ?_⟩
  refine List.forall_mem_cons.mpr ⟨⟨(show (0 : Int) ≤ ((29 : Nat) : Int) + 98 by decide), trivial⟩, ?_⟩
  refine List.forall_mem_cons.mpr ⟨⟨(trivial), trivial⟩, ?_⟩
  refine List.forall_mem_cons.mpr ⟨⟨(trivial), trivial⟩, ?_⟩
  refine List.forall_mem_cons.mpr ⟨⟨(show (0 : Int) ≤ ((35 : Nat) : Int) + 14 by decide), trivial⟩, ?_⟩
  refine List.forall_mem_cons.mpr ⟨⟨(trivial), trivial⟩, ?_⟩
  refine List.forall_mem_cons.mpr ⟨⟨(trivial), trivial⟩, ?_⟩
  refine List.forall_mem_cons.mpr ⟨⟨(trivial), trivial⟩, ?_⟩
  refine List.forall_mem_cons.mpr ⟨⟨(trivial), trivial⟩, ?_⟩
  refine List.forall_mem_cons.mpr ⟨⟨(trivial), mj_ckOf mjK_108 (by decide) (mj_lnkG mjl_10_180)⟩, ?_⟩
  refine List.forall_mem_cons.mpr ⟨⟨(show (0 : Int) ≤ ((46 : Nat) : Int) + 28 by decide), trivial⟩, ?_⟩
  refine List.forall_mem_cons.mpr ⟨⟨(trivial), trivial⟩, ?_⟩
  refine List.forall_mem_cons.mpr ⟨⟨(show (0 : Int) ≤ ((50 : Nat) : Int) + 11 by decide), trivial⟩, ?_⟩
  refine List.forall_mem_cons.mpr ⟨⟨(trivial), trivial⟩, ?_⟩
  refine List.forall_mem_cons.mpr ⟨⟨(show (0 : Int) ≤ ((54 : Nat) : Int) + 7 by decide), trivial⟩, ?_⟩
  refine List.forall_mem_cons.mpr ⟨⟨(trivial), trivial⟩, ?_⟩
  refine List.forall_mem_cons.mpr ⟨⟨(show (0 : Int) ≤ ((58 : Nat) : Int) + 16 by decide), trivial⟩, ?_⟩
  refine List.forall_mem_cons.mpr ⟨⟨(trivial), trivial⟩, ?_⟩
  refine List.forall_mem_cons.mpr ⟨⟨(mj_lkG (by decide) rfl (by decide) mj_inU10 mjf_10_159), trivial⟩, ?_⟩
  refine List.forall_mem_cons.mpr ⟨⟨(show (0 : Int) ≤ ((65 : Nat) : Int) + 8 by decide), trivial⟩, ?_⟩
  refine List.forall_mem_cons.mpr ⟨⟨(trivial), trivial⟩, ?_⟩
  refine List.forall_mem_cons.mpr ⟨⟨(show (0 : Int) ≤ ((70 : Nat) : Int) + 4 by decide), trivial⟩, ?_⟩
  refine List.forall_mem_cons.mpr ⟨⟨(trivial), trivial⟩, ?_⟩
  refine List.forall_mem_cons.mpr ⟨⟨(show (5 : Nat) < mj_maxL 107 by decide), trivial⟩, ?_⟩
  refine List.forall_mem_cons.mpr ⟨⟨(trivial), trivial⟩, ?_⟩
  refine List.forall_mem_cons.mpr ⟨⟨(show (0 : Int) ≤ ((78 : Nat) : Int) + 17 by decide), trivial⟩, ?_⟩
  refine List.forall_mem_cons.mpr ⟨⟨(trivial), trivial⟩, ?_⟩
  refine List.forall_mem_cons.mpr ⟨⟨(trivial), trivial⟩, ?_⟩
  refine List.forall_mem_cons.mpr ⟨⟨(trivial), trivial⟩, ?_⟩
  refine List.forall_mem_cons.mpr ⟨⟨(trivial), trivial⟩, ?_⟩
  refine List.forall_mem_cons.mpr ⟨⟨(trivial), trivial⟩, ?_⟩
  refine List.forall_mem_cons.mpr ⟨⟨(trivial), trivial⟩, ?_⟩
  refine List.forall_mem_cons.mpr ⟨⟨(mj_lkP (by decide) rfl (by decide) mj_inU10 mjf_10_7 mj_TyOk10 mj_Nm10 (Or.inl rfl) rfl), trivial⟩, ?_⟩
  refine List.forall_mem_cons.mpr ⟨⟨(trivial), trivial⟩, ?_⟩
  refine List.forall_mem_cons.mpr ⟨⟨(trivial), trivial⟩, ?_⟩
  refine List.forall_mem_cons.mpr ⟨⟨(trivial), trivial⟩, ?_⟩
  refine List.forall_mem_cons.mpr ⟨⟨(trivial), trivial⟩, ?_⟩
  refine List.forall_mem_cons.mpr ⟨⟨(trivial), trivial⟩, ?_⟩
  refine List.forall_mem_cons.mpr ⟨⟨(trivial), trivial⟩, ?_⟩
  refine List.forall_mem_cons.mpr ⟨⟨(trivial), trivial⟩, ?_⟩
  refine List.forall_mem_cons.mpr ⟨⟨(trivial), trivial⟩, ?_⟩
  refine List.forall_mem_cons.mpr ⟨⟨(trivial), trivial⟩, ?_⟩
  refine List.forall_mem_cons.mpr ⟨⟨(trivial), trivial⟩, ?_⟩
  refine List.forall_mem_cons.mpr ⟨⟨(trivial), trivial⟩, ?_⟩
  refine List.forall_mem_cons.mpr ⟨⟨(trivial), trivial⟩, ?_⟩
  refine List.forall_mem_cons.mpr ⟨⟨(trivial), trivial⟩, ?_⟩
  refine List.forall_mem_cons.mpr ⟨⟨(trivial), trivial⟩, ?_⟩
  refine List.forall_mem_cons.mpr ⟨⟨(show (0 : Int) ≤ ((110 : Nat) : Int) + 7 by decide), trivial⟩, ?_⟩
  refine List.forall_mem_cons.mpr ⟨⟨(trivial), trivial⟩, ?_⟩
  refine List.forall_mem_cons.mpr ⟨⟨(show (0 : Int) ≤ ((114 : Nat) : Int) + 4 by decide), trivial⟩, ?_⟩
  refine List.forall_mem_cons.mpr ⟨⟨(trivial), trivial⟩, ?_⟩
  refine List.forall_mem_cons.mpr ⟨⟨(trivial), mj_ckOf mjK_114 (by decide) (mj_lnkG mjl_10_184)⟩, ?_⟩
  refine List.forall_mem_cons.mpr ⟨⟨(show (4 : Nat) < mj_maxL 107 by decide), trivial⟩, ?_⟩
  refine List.forall_mem_cons.mpr ⟨⟨(show (0 : Int) ≤ ((124 : Nat) : Int) + (-98) by decide), trivial⟩, ?_⟩
  refine List.forall_mem_cons.mpr ⟨⟨(show (2 : Nat) < mj_maxL 107 by decide), trivial⟩, ?_⟩
  refine List.forall_mem_cons.mpr ⟨⟨(show (0 : Int) ≤ ((130 : Nat) : Int) + (-128) by decide), trivial⟩, ?_⟩
  refine List.forall_mem_cons.mpr ⟨⟨(trivial), trivial⟩, ?_⟩
  refine List.forall_mem_cons.mpr ⟨⟨(trivial), trivial⟩, ?_⟩
  exact fun _ h => absurd h List.not_mem_nil
theorem mjd_107 : mj_ckd 107 = true := by decide +kernel
theorem mjg_107 : mj_good 107 := mj_goodOf (fun _ => ⟨mj_G, rfl⟩) (by decide +kernel) mjd_107 mje_107
theorem mje_108 : ∀ e ∈ mj_tb108, mj_lk 108 e.1 e.2.1 e.2.2.1 e.2.2.2 ∧ mj_cok 108 e.2.1 e.2.2.1 e.2.2.2 := by
  unfold mj_tb108
  refine List.forall_mem_cons.mpr ⟨⟨(trivial), trivial⟩, ?_⟩
  refine List.forall_mem_cons.mpr ⟨⟨(trivial), trivial⟩, ?_⟩
  refine List.forall_mem_cons.mpr ⟨⟨(trivial), trivial⟩, ?_⟩
  refine List.forall_mem_cons.mpr ⟨⟨(trivial), trivial⟩, ?_⟩
  refine List.forall_mem_cons.mpr ⟨⟨(trivial), trivial⟩, ?_⟩
  refine List.forall_mem_cons.mpr ⟨⟨(trivial), trivial⟩, ?_⟩
  refine List.forall_mem_cons.mpr ⟨⟨(trivial), trivial⟩, ?_⟩
  refine List.forall_mem_cons.mpr ⟨⟨(trivial), trivial⟩, ?_⟩
  refine List.forall_mem_cons.mpr ⟨⟨(trivial), trivial⟩, ?_⟩
  refine List.forall_mem_cons.mpr ⟨⟨(show (4 : Nat) < mj_maxL 108 by decide), trivial⟩, ?_⟩
  refine List.forall_mem_cons.mpr ⟨⟨(trivial), trivial⟩, ?_⟩
  refine List.forall_mem_cons.mpr ⟨⟨(mj_lkG (by decide) rfl (by decide) mj_inU10 mjf_10_23), trivial⟩, ?_⟩
  refine List.forall_mem_cons.mpr ⟨⟨(trivial), trivial⟩, ?_⟩
  refine List.forall_mem_cons.mpr ⟨⟨(trivial), trivial⟩, ?_⟩
  refine List.forall_mem_cons.mpr ⟨⟨(show (5 : Nat) < mj_maxL 108 by decide), trivial⟩, ?_⟩
  refine List.forall_mem_cons.mpr ⟨⟨(trivial), trivial⟩, ?_⟩
  refine List.forall_mem_cons.mpr ⟨⟨(mj_lkG (by decide) rfl (by decide) mj_inU10 mjf_10_29), trivial⟩, ?_⟩
  refine List.forall_mem_cons.mpr ⟨⟨(trivial), trivial⟩, ?_⟩
  refine List.forall_mem_cons.mpr ⟨⟨(trivial), trivial⟩, ?_⟩
  refine List.forall_mem_cons.mpr ⟨⟨(show (6 : Nat) < mj_maxL 108 by decide), trivial⟩, ?_⟩
  refine List.forall_mem_cons.mpr ⟨⟨(trivial), trivial⟩, ?_⟩
  refine List.forall_mem_cons.mpr ⟨⟨(mj_lkG (by decide) rfl (by decide) mj_inU10 mjf_10_159), trivial⟩, ?_⟩
  refine List.forall_mem_cons.mpr ⟨⟨(show (0 : Int) ≤ ((34 : Nat) : Int) + 22 by decide), trivial⟩, ?_⟩
  refine List.forall_mem_cons.mpr ⟨⟨(trivial), trivial⟩, ?_⟩
  refine List.forall_mem_cons.mpr ⟨⟨(mj_lkG (by decide) rfl (by decide) mj_inU10 mjf_10_23), trivial⟩, ?_⟩
  refine List.forall_mem_cons.mpr ⟨⟨(trivial), trivial⟩, ?_⟩
  refine List.forall_mem_cons.mpr ⟨⟨(mj_lkG (by decide) rfl (by decide) mj_inU10 mjf_10_41), trivial⟩, ?_⟩
  refine List.forall_mem_cons.mpr ⟨⟨(trivial), trivial⟩, ?_⟩
  refine List.forall_mem_cons.mpr ⟨⟨(mj_lkG (by decide) rfl (by decide) mj_inU10 mjf_10_159), trivial⟩, ?_⟩
  refine List.forall_mem_cons.mpr ⟨⟨(trivial), trivial⟩, ?_⟩
  refine List.forall_mem_cons.mpr ⟨⟨(trivial), trivial⟩, ?_⟩
  refine List.forall_mem_cons.mpr ⟨⟨(trivial), trivial⟩, ?_⟩
  refine List.forall_mem_cons.mpr ⟨⟨(trivial), trivial⟩, ?_⟩
  refine List.forall_mem_cons.mpr ⟨⟨(show (0 : Int) ≤ ((53 : Nat) : Int) + 4 by decide), trivial⟩, ?_⟩
  refine List.forall_mem_cons.mpr ⟨⟨(trivial), trivial⟩, ?_⟩
  refine List.forall_mem_cons.mpr ⟨⟨(show (7 : Nat) < mj_maxL 108 by decide), trivial⟩, ?_⟩
  refine List.forall_mem_cons.mpr ⟨⟨(trivial), trivial⟩, ?_⟩
  refine List.forall_mem_cons.mpr ⟨⟨(trivial), trivial⟩, ?_⟩
  refine List.forall_mem_cons.mpr ⟨⟨(show (0 : Int) ≤ ((63 : Nat) : Int) + 10 by decide), trivial⟩, ?_⟩
  refine List.forall_mem_cons.mpr ⟨⟨(trivial), trivial⟩, ?_⟩
  refine List.forall_mem_cons.mpr ⟨⟨(trivial), trivial⟩, ?_⟩
  refine List.forall_mem_cons.mpr ⟨⟨(show (0 : Int) ≤ ((70 : Nat) : Int) + 17 by decide), trivial⟩, ?_⟩
  refine List.forall_mem_cons.mpr ⟨⟨(trivial), trivial⟩, ?_⟩
  refine List.forall_mem_cons.mpr ⟨⟨(trivial), trivial⟩, ?_⟩
  refine List.forall_mem_cons.mpr ⟨⟨(show (0 : Int) ≤ ((77 : Nat) : Int) + 12 by decide), trivial⟩, ?_⟩
  refine List.forall_mem_cons.mpr ⟨⟨(trivial), trivial⟩, ?_⟩
  refine List.forall_mem_cons.mpr ⟨⟨(trivial), trivial⟩, ?_⟩
  refine List.forall_mem_cons.mpr ⟨⟨(show (0 : Int) ≤ ((84 : Nat) : Int) + 5 by decide), trivial⟩, ?_⟩
  refine List.forall_mem_cons.mpr ⟨⟨(trivial), trivial⟩, ?_⟩
  refine List.forall_mem_cons.mpr ⟨⟨(trivial), trivial⟩, ?_⟩
  refine List.forall_mem_cons.mpr ⟨⟨(trivial), trivial⟩, ?_⟩
  refine List.forall_mem_cons.mpr ⟨⟨(trivial), trivial⟩, ?_⟩
  refine List.forall_mem_cons.mpr ⟨⟨(show (0 : Int) ≤ ((93 : Nat) : Int) + 13 by decide), trivial⟩, ?_⟩
  refine List.forall_mem_cons.mpr ⟨⟨(trivial), trivial⟩, ?_⟩
  refine List.forall_mem_cons.mpr ⟨⟨(trivial), mj_ckOf mjK_109 (by decide) (mj_lnkG mjl_10_166)⟩, ?_⟩
  refine List.forall_mem_cons.mpr ⟨⟨(trivial), trivial⟩, ?_⟩
  refine List.forall_mem_cons.mpr ⟨⟨(show (0 : Int) ≤ ((101 : Nat) : Int) + 5 by decide), trivial⟩, ?_⟩
  refine List.forall_mem_cons.mpr ⟨⟨(trivial), trivial⟩, ?_⟩
  refine List.forall_mem_cons.mpr ⟨⟨(trivial), trivial⟩, ?_⟩
  refine List.forall_mem_cons.mpr ⟨⟨(trivial), trivial⟩, ?_⟩
  refine List.forall_mem_cons.mpr ⟨⟨(trivial), trivial⟩, ?_⟩
  refine List.forall_mem_cons.mpr ⟨⟨(show (0 : Int) ≤ ((110 : Nat) : Int) + 25 by decide), trivial⟩, ?_⟩
  refine List.forall_mem_cons.mpr ⟨⟨(trivial), trivial⟩, ?_⟩
  refine List.forall_mem_cons.mpr ⟨⟨(trivial), trivial⟩, ?_⟩
  refine List.forall_mem_cons.mpr ⟨⟨(show (0 : Int) ≤ ((116 : Nat) : Int) + 17 by decide), trivial⟩, ?_⟩
  refine List.forall_mem_cons.mpr ⟨⟨(trivial), trivial⟩, ?_⟩
  refine List.forall_mem_cons.mpr ⟨⟨(mj_lkG (by decide) rfl (by decide) mj_inU10 mjf_10_35), trivial⟩, ?_⟩
  refine List.forall_mem_cons.mpr ⟨⟨(trivial), trivial⟩, ?_⟩
  refine List.forall_mem_cons.mpr ⟨⟨(trivial), trivial⟩, ?_⟩
  refine List.forall_mem_cons.mpr ⟨⟨(trivial), trivial⟩, ?_⟩
  refine List.forall_mem_cons.mpr ⟨⟨(trivial), trivial⟩, ?_⟩
  refine List.forall_mem_cons.mpr ⟨⟨(trivial), trivial⟩, ?_⟩
  refine List.forall_mem_cons.mpr ⟨⟨(trivial), trivial⟩, ?_⟩
  refine List.forall_mem_cons.mpr ⟨⟨(show (0 : Int) ≤ ((130 : Nat) : Int) + 5 by decide), trivial⟩, ?_⟩
  refine List.forall_mem_cons.mpr ⟨⟨(trivial), trivial⟩, ?_⟩
  refine List.forall_mem_cons.mpr ⟨⟨(trivial), trivial⟩, ?_⟩
  refine List.forall_mem_cons.mpr ⟨⟨(trivial), trivial⟩, ?_⟩
  refine List.forall_mem_cons.mpr ⟨⟨(trivial), trivial⟩, ?_⟩
  refine List.forall_mem_cons.mpr ⟨⟨(show (0 : Int) ≤ ((139 : Nat) : Int) + 10 by decide), trivial⟩, ?_⟩
  refine List.forall_mem_cons.mpr ⟨⟨(trivial), trivial⟩, ?_⟩
  refine List.forall_mem_cons.mpr ⟨⟨(trivial), trivial⟩, ?_⟩
  refine List.forall_mem_cons.mpr ⟨⟨(trivial), trivial⟩, ?_⟩
  refine List.forall_mem_cons.mpr ⟨⟨(show (0 : Int) ≤ ((146 : Nat) : Int) + 21 by decide), trivial⟩, ?_⟩
  refine List.forall_mem_cons.mpr ⟨⟨(trivial), trivial⟩, ?_⟩
  refine List.forall_mem_cons.mpr ⟨⟨(trivial), trivial⟩, ?_⟩
  refine List.forall_mem_cons.mpr ⟨⟨(show (0 : Int) ≤ ((153 : Nat) : Int) + 13 by decide), trivial⟩, ?_⟩
  refine List.forall_mem_cons.mpr ⟨⟨(trivial), trivial⟩, ?_⟩
  refine List.forall_mem_cons.mpr ⟨⟨(trivial), trivial⟩, ?_⟩
  refine List.forall_mem_cons.mpr ⟨⟨(trivial), trivial⟩, ?_⟩
  refine List.forall_mem_cons.mpr ⟨⟨(trivial), mj_ckOf mjK_110 (by decide) (mj_lnkG mjl_10_170)⟩, ?_⟩
  refine List.forall_mem_cons.mpr ⟨⟨(show (0 : Int) ≤ ((163 : Nat) : Int) + 4 by decide), trivial⟩, ?_⟩
  refine List.forall_mem_cons.mpr ⟨⟨(trivial), trivial⟩, ?_⟩
  refine List.forall_mem_cons.mpr ⟨⟨(show (8 : Nat) < mj_maxL 108 by decide), trivial⟩, ?_⟩
  refine List.forall_mem_cons.mpr ⟨⟨(trivial), trivial⟩, ?_⟩
  refine List.forall_mem_cons.mpr ⟨⟨(trivial), trivial⟩, ?_⟩
  refine List.forall_mem_cons.mpr ⟨⟨(trivial), mj_ckOf mjK_111 (by decide) (mj_lnkG mjl_10_174)⟩, ?_⟩
  refine List.forall_mem_cons.mpr ⟨⟨(trivial), trivial⟩, ?_⟩
  refine List.forall_mem_cons.mpr ⟨⟨(show (0 : Int) ≤ ((176 : Nat) : Int) + 5 by decide), trivial⟩, ?_⟩
  refine List.forall_mem_cons.mpr ⟨⟨(trivial), trivial⟩, ?_⟩
  refine List.forall_mem_cons.mpr ⟨⟨(trivial), trivial⟩, ?_⟩
  refine List.forall_mem_cons.mpr ⟨⟨(trivial), trivial⟩, ?_⟩
  refine List.forall_mem_cons.mpr ⟨⟨(trivial), trivial⟩, ?_⟩
  refine List.forall_mem_cons.mpr ⟨⟨(show (0 : Int) ≤ ((184 : Nat) : Int) + 28 by decide), trivial⟩, ?_⟩
  refine List.forall_mem_cons.mpr ⟨⟨(trivial), trivial⟩, ?_⟩
  refine List.forall_mem_cons.mpr ⟨⟨(trivial), trivial⟩, ?_⟩
  refine List.forall_mem_cons.mpr ⟨⟨(trivial), trivial⟩, ?_⟩
  refine List.forall_mem_cons.mpr ⟨⟨(trivial), trivial⟩, ?_⟩
  refine List.forall_mem_cons.mpr ⟨⟨(mj_lkG (by decide) rfl (by decide) mj_inU10 mjf_10_35), trivial⟩, ?_⟩
  refine List.forall_mem_cons.mpr ⟨⟨(trivial), trivial⟩, ?_⟩
  refine List.forall_mem_cons.mpr ⟨⟨(trivial), trivial⟩, ?_⟩
  refine List.forall_mem_cons.mpr ⟨⟨(trivial), trivial⟩, ?_⟩
  refine List.forall_mem_cons.mpr ⟨⟨(trivial), trivial⟩, ?_⟩
  refine List.forall_mem_cons.mpr ⟨⟨(trivial), trivial⟩, ?_⟩
  refine List.forall_mem_cons.mpr ⟨⟨(trivial), trivial⟩, ?_⟩
  refine List.forall_mem_cons.mpr ⟨⟨(trivial), mj_ckOf mjK_112 (by decide) (mj_lnkG mjl_10_177)⟩, ?_⟩
  refine List.forall_mem_cons.mpr ⟨⟨(show (0 : Int) ≤ ((204 : Nat) : Int) + 8 by decide), trivial⟩, ?_⟩
  refine List.forall_mem_cons.mpr ⟨⟨(trivial), trivial⟩, ?_⟩
  refine List.forall_mem_cons.mpr ⟨⟨(show (0 : Int) ≤ ((209 : Nat) : Int) + 4 by decide), trivial⟩, ?_⟩
  refine List.forall_mem_cons.mpr ⟨⟨(trivial), trivial⟩, ?_⟩
  refine List.forall_mem_cons.mpr ⟨⟨(trivial), trivial⟩, ?_⟩
  exact fun _ h => absurd h List.not_mem_nil
theorem mjd_108 : mj_ckd 108 = true := by decide +kernel
theorem mjg_108 : mj_good 108 := mj_goodOf (fun _ => ⟨mj_G, rfl⟩) (by decide +kernel) mjd_108 mje_108
theorem mje_109 : ∀ e ∈ mj_tb109, mj_lk 109 e.1 e.2.1 e.2.2.1 e.2.2.2 ∧ mj_cok 109 e.2.1 e.2.2.1 e.2.2.2 := by
  unfold mj_tb109
  refine List.forall_mem_cons.mpr ⟨⟨(trivial), trivial⟩, ?_⟩
  refine List.forall_mem_cons.mpr ⟨⟨(show (1 : Nat) < mj_maxL 109 by decide), trivial⟩, ?_⟩
  refine List.forall_mem_cons.mpr ⟨⟨(trivial), trivial⟩, ?_⟩
  refine List.forall_mem_cons.mpr ⟨⟨(show (2 : Nat) < mj_maxL 109 by decide), trivial⟩, ?_⟩
  refine List.forall_mem_cons.mpr ⟨⟨(trivial), trivial⟩, ?_⟩
  refine List.forall_mem_cons.mpr ⟨⟨(trivial), trivial⟩, ?_⟩
  refine List.forall_mem_cons.mpr ⟨⟨(mj_lkG (by decide) rfl (by decide) mj_inU10 mjf_10_159), trivial⟩, ?_⟩
  refine List.forall_mem_cons.mpr ⟨⟨(show (0 : Int) ≤ ((9 : Nat) : Int) + 33 by decide), trivial⟩, ?_⟩
  refine List.forall_mem_cons.mpr ⟨⟨(trivial), trivial⟩, ?_⟩
  refine List.forall_mem_cons.mpr ⟨⟨(mj_lkG (by decide) rfl (by decide) mj_inU10 mjf_10_23), trivial⟩, ?_⟩
  refine List.forall_mem_cons.mpr ⟨⟨(trivial), trivial⟩, ?_⟩
  refine List.forall_mem_cons.mpr ⟨⟨(mj_lkG (by decide) rfl (by decide) mj_inU10 mjf_10_41), trivial⟩, ?_⟩
  refine List.forall_mem_cons.mpr ⟨⟨(trivial), trivial⟩, ?_⟩
  refine List.forall_mem_cons.mpr ⟨⟨(trivial), trivial⟩, ?_⟩
  refine List.forall_mem_cons.mpr ⟨⟨(trivial), trivial⟩, ?_⟩
  refine List.forall_mem_cons.mpr ⟨⟨(trivial), trivial⟩, ?_⟩
  refine List.forall_mem_cons.mpr ⟨⟨(show (0 : Int) ≤ ((25 : Nat) : Int) + 9 by decide), trivial⟩, ?_⟩
  refine List.forall_mem_cons.mpr ⟨⟨(trivial), trivial⟩, ?_⟩
  refine List.forall_mem_cons.mpr ⟨⟨(trivial), trivial⟩, ?_⟩
  refine List.forall_mem_cons.mpr ⟨⟨(trivial), trivial⟩, ?_⟩
  refine List.forall_mem_cons.mpr ⟨⟨(show (0 : Int) ≤ ((31 : Nat) : Int) + 4 by decide), trivial⟩, ?_⟩
  refine List.forall_mem_cons.mpr ⟨⟨(trivial), trivial⟩, ?_⟩
  refine List.forall_mem_cons.mpr ⟨⟨(show (1 : Nat) < mj_maxL 109 by decide), trivial⟩, ?_⟩
  refine List.forall_mem_cons.mpr ⟨⟨(show (2 : Nat) < mj_maxL 109 by decide), trivial⟩, ?_⟩
  refine List.forall_mem_cons.mpr ⟨⟨(show (0 : Int) ≤ ((39 : Nat) : Int) + (-35) by decide), trivial⟩, ?_⟩
  refine List.forall_mem_cons.mpr ⟨⟨(trivial), trivial⟩, ?_⟩
  refine List.forall_mem_cons.mpr ⟨⟨(trivial), trivial⟩, ?_⟩
  exact fun _ h => absurd h List.not_mem_nil
theorem mjd_109 : mj_ckd 109 = true := by decide +kernel
theorem mjg_109 : mj_good 109 := mj_goodOf (fun _ => ⟨mj_G, rfl⟩) (by decide +kernel) mjd_109 mje_109
theorem mje_110 : ∀ e ∈ mj_tb110, mj_lk 110 e.1 e.2.1 e.2.2.1 e.2.2.2 ∧ mj_cok 110 e.2.1 e.2.2.1 e.2.2.2 := by
  unfold mj_tb110
  refine List.forall_mem_cons.mpr ⟨⟨(trivial), trivial⟩, ?_⟩
  refine List.forall_mem_cons.mpr ⟨⟨(show (3 : Nat) < mj_maxL 110 by decide), trivial⟩, ?_⟩
  refine List.forall_mem_cons.mpr ⟨⟨(trivial), trivial⟩, ?_⟩
  refine List.forall_mem_cons.mpr ⟨⟨(trivial), trivial⟩, ?_⟩
  refine List.forall_mem_cons.mpr ⟨⟨(trivial), trivial⟩, ?_⟩
  refine List.forall_mem_cons.mpr ⟨⟨(show (4 : Nat) < mj_maxL 110 by decide), trivial⟩, ?_⟩
  refine List.forall_mem_cons.mpr ⟨⟨(trivial), trivial⟩, ?_⟩
  refine List.forall_mem_cons.mpr ⟨⟨(show (5 : Nat) < mj_maxL 110 by decide), trivial⟩, ?_⟩
  refine List.forall_mem_cons.mpr ⟨⟨(trivial), trivial⟩, ?_⟩
  refine List.forall_mem_cons.mpr ⟨⟨(trivial), trivial⟩, ?_⟩
  refine List.forall_mem_cons.mpr ⟨⟨(show (0 : Int) ≤ ((13 : Nat) : Int) + 130 by decide), trivial⟩, ?_⟩
  refine List.forall_mem_cons.mpr ⟨⟨(trivial), trivial⟩, ?_⟩
  refine List.forall_mem_cons.mpr ⟨⟨(show (6 : Nat) < mj_maxL 110 by decide), trivial⟩, ?_⟩
  refine List.forall_mem_cons.mpr ⟨⟨(trivial), trivial⟩, ?_⟩
  refine List.forall_mem_cons.mpr ⟨⟨(trivial), trivial⟩, ?_⟩
  refine List.forall_mem_cons.mpr ⟨⟨(mj_lkG (by decide) rfl (by decide) mj_inU10 mjf_10_35), trivial⟩, ?_⟩
  refine List.forall_mem_cons.mpr ⟨⟨(trivial), trivial⟩, ?_⟩
  refine List.forall_mem_cons.mpr ⟨⟨(trivial), trivial⟩, ?_⟩
  refine List.forall_mem_cons.mpr ⟨⟨(trivial), trivial⟩, ?_⟩
  refine List.forall_mem_cons.mpr ⟨⟨(trivial), trivial⟩, ?_⟩
  refine List.forall_mem_cons.mpr ⟨⟨(trivial), trivial⟩, ?_⟩
  refine List.forall_mem_cons.mpr ⟨⟨(trivial), trivial⟩, ?_⟩
  refine List.forall_mem_cons.mpr ⟨⟨(show (0 : Int) ≤ ((32 : Nat) : Int) + 105 by decide), trivial⟩, ?_⟩
  refine List.forall_mem_cons.mpr ⟨⟨(trivial), trivial⟩, ?_⟩
  refine List.forall_mem_cons.mpr ⟨⟨(trivial), trivial⟩, ?_⟩
  refine List.forall_mem_cons.mpr ⟨⟨(trivial), trivial⟩, ?_⟩
  refine List.forall_mem_cons.mpr ⟨⟨(trivial), trivial⟩, ?_⟩
  refine List.forall_mem_cons.mpr ⟨⟨(trivial), trivial⟩, ?_⟩
  refine List.forall_mem_cons.mpr ⟨⟨(trivial), trivial⟩, ?_⟩
  refine List.forall_mem_cons.mpr ⟨⟨(show (0 : Int) ≤ ((43 : Nat) : Int) + 94 by decide), trivial⟩, ?_⟩
  refine List.forall_mem_cons.mpr ⟨⟨(trivial), trivial⟩, ?_⟩
  refine List.forall_mem_cons.mpr ⟨⟨(trivial), trivial⟩, ?_⟩
  refine List.forall_mem_cons.mpr ⟨⟨(trivial), trivial⟩, ?_⟩
  refine List.forall_mem_cons.mpr ⟨⟨(trivial), trivial⟩, ?_⟩
  refine List.forall_mem_cons.mpr ⟨⟨(trivial), trivial⟩, ?_⟩
  refine List.forall_mem_cons.mpr ⟨⟨(trivial), trivial⟩, ?_⟩
  refine List.forall_mem_cons.mpr ⟨⟨(trivial), trivial⟩, ?_⟩
  refine List.forall_mem_cons.mpr ⟨⟨(trivial), trivial⟩, ?_⟩
  refine List.forall_mem_cons.mpr ⟨⟨(trivial), trivial⟩, ?_⟩
  refine List.forall_mem_cons.mpr ⟨⟨(show (7 : Nat) < mj_maxL 110 by decide), trivial⟩, ?_⟩
  refine List.forall_mem_cons.mpr ⟨⟨(trivial), trivial⟩, ?_⟩
  refine List.forall_mem_cons.mpr ⟨⟨(mj_lkG (by decide) rfl (by decide) mj_inU10 mjf_10_23), trivial⟩, ?_⟩
  refine List.forall_mem_cons.mpr ⟨⟨(trivial), trivial⟩, ?_⟩
  refine List.forall_mem_cons.mpr ⟨⟨(trivial), trivial⟩, ?_⟩
  refine List.forall_mem_cons.mpr ⟨⟨(trivial), trivial⟩, ?_⟩
  refine List.forall_mem_cons.mpr ⟨⟨(show (0 : Int) ≤ ((69 : Nat) : Int) + 17 by decide), trivial⟩, ?_⟩
  refine List.forall_mem_cons.mpr ⟨⟨(trivial), trivial⟩, ?_⟩
  refine List.forall_mem_cons.mpr ⟨⟨(trivial), trivial⟩, ?_⟩
  refine List.forall_mem_cons.mpr ⟨⟨(trivial), trivial⟩, ?_⟩
  refine List.forall_mem_cons.mpr ⟨⟨(mj_lkG (by decide) rfl (by decide) mj_inU10 mjf_10_29), trivial⟩, ?_⟩
  refine List.forall_mem_cons.mpr ⟨⟨(trivial), trivial⟩, ?_⟩
  refine List.forall_mem_cons.mpr ⟨⟨(trivial), trivial⟩, ?_⟩
  refine List.forall_mem_cons.mpr ⟨⟨(trivial), trivial⟩, ?_⟩
  refine List.forall_mem_cons.mpr ⟨⟨(trivial), trivial⟩, ?_⟩
  refine List.forall_mem_cons.mpr ⟨⟨(show (0 : Int) ≤ ((83 : Nat) : Int) + 4 by decide), trivial⟩, ?_⟩
  refine List.forall_mem_cons.mpr ⟨⟨(trivial), trivial⟩, ?_⟩
  refine List.forall_mem_cons.mpr ⟨⟨(show (3 : Nat) < mj_maxL 110 by decide), trivial⟩, ?_⟩
  refine List.forall_mem_cons.mpr ⟨⟨(trivial), trivial⟩, ?_⟩
  refine List.forall_mem_cons.mpr ⟨⟨(mj_lkG (by decide) rfl (by decide) mj_inU10 mjf_10_23), trivial⟩, ?_⟩
  refine List.forall_mem_cons.mpr ⟨⟨(trivial), trivial⟩, ?_⟩
  refine List.forall_mem_cons.mpr ⟨⟨(trivial), trivial⟩, ?_⟩
  refine List.forall_mem_cons.mpr ⟨⟨(trivial), trivial⟩, ?_⟩
  refine List.forall_mem_cons.mpr ⟨⟨(show (0 : Int) ≤ ((97 : Nat) : Int) + 30 by decide), trivial⟩, ?_⟩
  refine List.forall_mem_cons.mpr ⟨⟨(trivial), trivial⟩, ?_⟩
  refine List.forall_mem_cons.mpr ⟨⟨(mj_lkG (by decide) rfl (by decide) mj_inU10 mjf_10_29), trivial⟩, ?_⟩
  refine List.forall_mem_cons.mpr ⟨⟨(trivial), trivial⟩, ?_⟩
  refine List.forall_mem_cons.mpr ⟨⟨(trivial), trivial⟩, ?_⟩
  refine List.forall_mem_cons.mpr ⟨⟨(trivial), trivial⟩, ?_⟩
  refine List.forall_mem_cons.mpr ⟨⟨(show (0 : Int) ≤ ((109 : Nat) : Int) + 18 by decide), trivial⟩, ?_⟩
  refine List.forall_mem_cons.mpr ⟨⟨(trivial), trivial⟩, ?_⟩
  refine List.forall_mem_cons.mpr ⟨⟨(trivial), trivial⟩, ?_⟩
  refine List.forall_mem_cons.mpr ⟨⟨(trivial), trivial⟩, ?_⟩
  refine List.forall_mem_cons.mpr ⟨⟨(mj_lkG (by decide) rfl (by decide) mj_inU10 mjf_10_29), trivial⟩, ?_⟩
  refine List.forall_mem_cons.mpr ⟨⟨(trivial), trivial⟩, ?_⟩
  refine List.forall_mem_cons.mpr ⟨⟨(trivial), trivial⟩, ?_⟩
  refine List.forall_mem_cons.mpr ⟨⟨(trivial), trivial⟩, ?_⟩
  refine List.forall_mem_cons.mpr ⟨⟨(trivial), trivial⟩, ?_⟩
  refine List.forall_mem_cons.mpr ⟨⟨(show (0 : Int) ≤ ((124 : Nat) : Int) + 5 by decide), trivial⟩, ?_⟩
  refine List.forall_mem_cons.mpr ⟨⟨(trivial), trivial⟩, ?_⟩
  refine List.forall_mem_cons.mpr ⟨⟨(show (4 : Nat) < mj_maxL 110 by decide), trivial⟩, ?_⟩
  refine List.forall_mem_cons.mpr ⟨⟨(show (6 : Nat) < mj_maxL 110 by decide), trivial⟩, ?_⟩
  refine List.forall_mem_cons.mpr ⟨⟨(show (0 : Int) ≤ ((134 : Nat) : Int) + (-115) by decide), trivial⟩, ?_⟩
  refine List.forall_mem_cons.mpr ⟨⟨(show (5 : Nat) < mj_maxL 110 by decide), trivial⟩, ?_⟩
  refine List.forall_mem_cons.mpr ⟨⟨(show (0 : Int) ≤ ((140 : Nat) : Int) + (-130) by decide), trivial⟩, ?_⟩
  refine List.forall_mem_cons.mpr ⟨⟨(trivial), trivial⟩, ?_⟩
  refine List.forall_mem_cons.mpr ⟨⟨(trivial), trivial⟩, ?_⟩
  exact fun _ h => absurd h List.not_mem_nil
theorem mjd_110 : mj_ckd 110 = true := by decide +kernel
theorem mjg_110 : mj_good 110 := mj_goodOf (fun _ => ⟨mj_G, rfl⟩) (by decide +kernel) mjd_110 mje_110
theorem mje_111 : ∀ e ∈ mj_tb111, mj_lk 111 e.1 e.2.1 e.2.2.1 e.2.2.2 ∧ mj_cok 111 e.2.1 e.2.2.1 e.2.2.2 := by
  unfold mj_tb111
  refine List.forall_mem_cons.mpr ⟨⟨(trivial), trivial⟩, ?_⟩
  refine List.forall_mem_cons.mpr ⟨⟨(show (1 : Nat) < mj_maxL 111 by decide), trivial⟩, ?_⟩
  refine List.forall_mem_cons.mpr ⟨⟨(trivial), trivial⟩, ?_⟩
  refine List.forall_mem_cons.mpr ⟨⟨(show (2 : Nat) < mj_maxL 111 by decide), trivial⟩, ?_⟩
  refine List.forall_mem_cons.mpr ⟨⟨(trivial), trivial⟩, ?_⟩
  refine List.forall_mem_cons.mpr ⟨⟨(trivial), trivial⟩, ?_⟩
  refine List.forall_mem_cons.mpr ⟨⟨(mj_lkG (by decide) rfl (by decide) mj_inU10 mjf_10_159), trivial⟩, ?_⟩
  refine List.forall_mem_cons.mpr ⟨⟨(show (0 : Int) ≤ ((9 : Nat) : Int) + 45 by decide), trivial⟩, ?_⟩
  refine List.forall_mem_cons.mpr ⟨⟨(trivial), trivial⟩, ?_⟩
  refine List.forall_mem_cons.mpr ⟨⟨(mj_lkG (by decide) rfl (by decide) mj_inU10 mjf_10_23), trivial⟩, ?_⟩
  refine List.forall_mem_cons.mpr ⟨⟨(trivial), trivial⟩, ?_⟩
  refine List.forall_mem_cons.mpr ⟨⟨(mj_lkG (by decide) rfl (by decide) mj_inU10 mjf_10_41), trivial⟩, ?_⟩
  refine List.forall_mem_cons.mpr ⟨⟨(trivial), trivial⟩, ?_⟩
  refine List.forall_mem_cons.mpr ⟨⟨(trivial), trivial⟩, ?_⟩
  refine List.forall_mem_cons.mpr ⟨⟨(trivial), trivial⟩, ?_⟩
  refine List.forall_mem_cons.mpr ⟨⟨(trivial), trivial⟩, ?_⟩
  refine List.forall_mem_cons.mpr ⟨⟨(show (0 : Int) ≤ ((25 : Nat) : Int) + 21 by decide), trivial⟩, ?_⟩
  refine List.forall_mem_cons.mpr ⟨⟨(trivial), trivial⟩, ?_⟩
  refine List.forall_mem_cons.mpr ⟨⟨(trivial), trivial⟩, ?_⟩
  refine List.forall_mem_cons.mpr ⟨⟨(trivial), trivial⟩, ?_⟩
  refine List.forall_mem_cons.mpr ⟨⟨(mj_lkG (by decide) rfl (by decide) mj_inU10 mjf_10_29), trivial⟩, ?_⟩
  refine List.forall_mem_cons.mpr ⟨⟨(trivial), trivial⟩, ?_⟩
  refine List.forall_mem_cons.mpr ⟨⟨(mj_lkG (by decide) rfl (by decide) mj_inU10 mjf_10_41), trivial⟩, ?_⟩
  refine List.forall_mem_cons.mpr ⟨⟨(trivial), trivial⟩, ?_⟩
  refine List.forall_mem_cons.mpr ⟨⟨(trivial), trivial⟩, ?_⟩
  refine List.forall_mem_cons.mpr ⟨⟨(trivial), trivial⟩, ?_⟩
  refine List.forall_mem_cons.mpr ⟨⟨(trivial), trivial⟩, ?_⟩
  refine List.forall_mem_cons.mpr ⟨⟨(trivial), trivial⟩, ?_⟩
  refine List.forall_mem_cons.mpr ⟨⟨(show (0 : Int) ≤ ((43 : Nat) : Int) + 4 by decide), trivial⟩, ?_⟩
  refine List.forall_mem_cons.mpr ⟨⟨(trivial), trivial⟩, ?_⟩
  refine List.forall_mem_cons.mpr ⟨⟨(show (1 : Nat) < mj_maxL 111 by decide), trivial⟩, ?_⟩
  refine List.forall_mem_cons.mpr ⟨⟨(show (2 : Nat) < mj_maxL 111 by decide), trivial⟩, ?_⟩
  refine List.forall_mem_cons.mpr ⟨⟨(show (0 : Int) ≤ ((51 : Nat) : Int) + (-47) by decide), trivial⟩, ?_⟩
  refine List.forall_mem_cons.mpr ⟨⟨(trivial), trivial⟩, ?_⟩
  refine List.forall_mem_cons.mpr ⟨⟨(trivial), trivial⟩, ?_⟩
  exact fun _ h => absurd h List.not_mem_nil
theorem mjd_111 : mj_ckd 111 = true := by decide +kernel
theorem mjg_111 : mj_good 111 := mj_goodOf (fun _ => ⟨mj_G, rfl⟩) (by decide +kernel) mjd_111 mje_111
theorem mje_112 : ∀ e ∈ mj_tb112, mj_lk 112 e.1 e.2.1 e.2.2.1 e.2.2.2 ∧ mj_cok 112 e.2.1 e.2.2.1 e.2.2.2 := by
  unfold mj_tb112
  refine List.forall_mem_cons.mpr ⟨⟨(trivial), trivial⟩, ?_⟩
  refine List.forall_mem_cons.mpr ⟨⟨(trivial), trivial⟩, ?_⟩
  refine List.forall_mem_cons.mpr ⟨⟨(mj_lkG (by decide) rfl (by decide) mj_inU10 mjf_10_29), trivial⟩, ?_⟩
  refine List.forall_mem_cons.mpr ⟨⟨(trivial), trivial⟩, ?_⟩
  refine List.forall_mem_cons.mpr ⟨⟨(trivial), trivial⟩, ?_⟩
  refine List.forall_mem_cons.mpr ⟨⟨(trivial), trivial⟩, ?_⟩
  refine List.forall_mem_cons.mpr ⟨⟨(trivial), trivial⟩, ?_⟩
  refine List.forall_mem_cons.mpr ⟨⟨(trivial), trivial⟩, ?_⟩
  refine List.forall_mem_cons.mpr ⟨⟨(trivial), trivial⟩, ?_⟩
  refine List.forall_mem_cons.mpr ⟨⟨(show (0 : Int) ≤ ((11 : Nat) : Int) + 5 by decide), trivial⟩, ?_⟩
  refine List.forall_mem_cons.mpr ⟨⟨(trivial), trivial⟩, ?_⟩
  refine List.forall_mem_cons.mpr ⟨⟨(trivial), trivial⟩, ?_⟩
  refine List.forall_mem_cons.mpr ⟨⟨(trivial), trivial⟩, ?_⟩
  refine List.forall_mem_cons.mpr ⟨⟨(show (4 : Nat) < mj_maxL 112 by decide), trivial⟩, ?_⟩
  refine List.forall_mem_cons.mpr ⟨⟨(trivial), trivial⟩, ?_⟩
  refine List.forall_mem_cons.mpr ⟨⟨(trivial), trivial⟩, ?_⟩
  refine List.forall_mem_cons.mpr ⟨⟨(trivial), trivial⟩, ?_⟩
  refine List.forall_mem_cons.mpr ⟨⟨(show (5 : Nat) < mj_maxL 112 by decide), trivial⟩, ?_⟩
  refine List.forall_mem_cons.mpr ⟨⟨(trivial), trivial⟩, ?_⟩
  refine List.forall_mem_cons.mpr ⟨⟨(trivial), trivial⟩, ?_⟩
  refine List.forall_mem_cons.mpr ⟨⟨(trivial), trivial⟩, ?_⟩
  refine List.forall_mem_cons.mpr ⟨⟨(mj_lkG (by decide) rfl (by decide) mj_inU10 mjf_10_29), trivial⟩, ?_⟩
  refine List.forall_mem_cons.mpr ⟨⟨(trivial), trivial⟩, ?_⟩
  refine List.forall_mem_cons.mpr ⟨⟨(trivial), trivial⟩, ?_⟩
  refine List.forall_mem_cons.mpr ⟨⟨(trivial), trivial⟩, ?_⟩
  refine List.forall_mem_cons.mpr ⟨⟨(show (0 : Int) ≤ ((34 : Nat) : Int) + 31 by decide), trivial⟩, ?_⟩
  refine List.forall_mem_cons.mpr ⟨⟨(trivial), trivial⟩, ?_⟩
  refine List.forall_mem_cons.mpr ⟨⟨(trivial), trivial⟩, ?_⟩
  refine List.forall_mem_cons.mpr ⟨⟨(mj_lkG (by decide) rfl (by decide) mj_inU10 mjf_10_23), trivial⟩, ?_⟩
  refine List.forall_mem_cons.mpr ⟨⟨(trivial), trivial⟩, ?_⟩
  refine List.forall_mem_cons.mpr ⟨⟨(trivial), trivial⟩, ?_⟩
  refine List.forall_mem_cons.mpr ⟨⟨(trivial), mj_ckOf mjK_113 (by decide) (mj_lnkG mjl_10_162)⟩, ?_⟩
  refine List.forall_mem_cons.mpr ⟨⟨(trivial), trivial⟩, ?_⟩
  refine List.forall_mem_cons.mpr ⟨⟨(show (4 : Nat) < mj_maxL 112 by decide), trivial⟩, ?_⟩
  refine List.forall_mem_cons.mpr ⟨⟨(trivial), trivial⟩, ?_⟩
  refine List.forall_mem_cons.mpr ⟨⟨(show (0 : Int) ≤ ((54 : Nat) : Int) + 5 by decide), trivial⟩, ?_⟩
  refine List.forall_mem_cons.mpr ⟨⟨(trivial), trivial⟩, ?_⟩
  refine List.forall_mem_cons.mpr ⟨⟨(trivial), trivial⟩, ?_⟩
  refine List.forall_mem_cons.mpr ⟨⟨(show (5 : Nat) < mj_maxL 112 by decide), trivial⟩, ?_⟩
  refine List.forall_mem_cons.mpr ⟨⟨(show (0 : Int) ≤ ((62 : Nat) : Int) + (-38) by decide), trivial⟩, ?_⟩
  refine List.forall_mem_cons.mpr ⟨⟨(trivial), trivial⟩, ?_⟩
  refine List.forall_mem_cons.mpr ⟨⟨(show (0 : Int) ≤ ((67 : Nat) : Int) + 7 by decide), trivial⟩, ?_⟩
  refine List.forall_mem_cons.mpr ⟨⟨(trivial), trivial⟩, ?_⟩
  refine List.forall_mem_cons.mpr ⟨⟨(show (0 : Int) ≤ ((71 : Nat) : Int) + 4 by decide), trivial⟩, ?_⟩
  refine List.forall_mem_cons.mpr ⟨⟨(trivial), trivial⟩, ?_⟩
  refine List.forall_mem_cons.mpr ⟨⟨(trivial), trivial⟩, ?_⟩
  exact fun _ h => absurd h List.not_mem_nil
theorem mjd_112 : mj_ckd 112 = true := by decide +kernel
theorem mjg_112 : mj_good 112 := mj_goodOf (fun _ => ⟨mj_G, rfl⟩) (by decide +kernel) mjd_112 mje_112
theorem mje_113 : ∀ e ∈ mj_tb113, mj_lk 113 e.1 e.2.1 e.2.2.1 e.2.2.2 ∧ mj_cok 113 e.2.1 e.2.2.1 e.2.2.2 := by
  unfold mj_tb113
  refine List.forall_mem_cons.mpr ⟨⟨(trivial), trivial⟩, ?_⟩
  refine List.forall_mem_cons.mpr ⟨⟨(trivial), trivial⟩, ?_⟩
  refine List.forall_mem_cons.mpr ⟨⟨(show (0 : Int) ≤ ((3 : Nat) : Int) + 9 by decide), trivial⟩, ?_⟩
  refine List.forall_mem_cons.mpr ⟨⟨(trivial), trivial⟩, ?_⟩
  refine List.forall_mem_cons.mpr ⟨⟨(trivial), trivial⟩, ?_⟩
  refine List.forall_mem_cons.mpr ⟨⟨(show (0 : Int) ≤ ((9 : Nat) : Int) + 7 by decide), trivial⟩, ?_⟩
  refine List.forall_mem_cons.mpr ⟨⟨(trivial), trivial⟩, ?_⟩
  refine List.forall_mem_cons.mpr ⟨⟨(show (0 : Int) ≤ ((13 : Nat) : Int) + 20 by decide), trivial⟩, ?_⟩
  refine List.forall_mem_cons.mpr ⟨⟨(trivial), trivial⟩, ?_⟩
  refine List.forall_mem_cons.mpr ⟨⟨(trivial), trivial⟩, ?_⟩
  refine List.forall_mem_cons.mpr ⟨⟨(show (0 : Int) ≤ ((19 : Nat) : Int) + 9 by decide), trivial⟩, ?_⟩
  refine List.forall_mem_cons.mpr ⟨⟨(trivial), trivial⟩, ?_⟩
  refine List.forall_mem_cons.mpr ⟨⟨(trivial), trivial⟩, ?_⟩
  refine List.forall_mem_cons.mpr ⟨⟨(show (0 : Int) ≤ ((25 : Nat) : Int) + 7 by decide), trivial⟩, ?_⟩
  refine List.forall_mem_cons.mpr ⟨⟨(trivial), trivial⟩, ?_⟩
  refine List.forall_mem_cons.mpr ⟨⟨(show (0 : Int) ≤ ((29 : Nat) : Int) + 4 by decide), trivial⟩, ?_⟩
  refine List.forall_mem_cons.mpr ⟨⟨(trivial), trivial⟩, ?_⟩
  refine List.forall_mem_cons.mpr ⟨⟨(trivial), trivial⟩, ?_⟩
  exact fun _ h => absurd h List.not_mem_nil
theorem mjd_113 : mj_ckd 113 = true := by decide +kernel
theorem mjg_113 : mj_good 113 := mj_goodOf (fun _ => ⟨mj_G, rfl⟩) (by decide +kernel) mjd_113 mje_113
theorem mje_114 : ∀ e ∈ mj_tb114, mj_lk 114 e.1 e.2.1 e.2.2.1 e.2.2.2 ∧ mj_cok 114 e.2.1 e.2.2.1 e.2.2.2 := by
  unfold mj_tb114
  refine List.forall_mem_cons.mpr ⟨⟨(trivial), trivial⟩, ?_⟩
  refine List.forall_mem_cons.mpr ⟨⟨(show (0 : Int) ≤ ((1 : Nat) : Int) + 15 by decide), trivial⟩, ?_⟩
  refine List.forall_mem_cons.mpr ⟨⟨(trivial), trivial⟩, ?_⟩
  refine List.forall_mem_cons.mpr ⟨⟨(mj_lkG (by decide) rfl (by decide) mj_inU10 mjf_10_23), trivial⟩, ?_⟩
  refine List.forall_mem_cons.mpr ⟨⟨(trivial), trivial⟩, ?_⟩
  refine List.forall_mem_cons.mpr ⟨⟨(trivial), trivial⟩, ?_⟩
  refine List.forall_mem_cons.mpr ⟨⟨(trivial), mj_ckOf mjK_113 (by decide) (mj_lnkG mjl_10_162)⟩, ?_⟩
  refine List.forall_mem_cons.mpr ⟨⟨(show (0 : Int) ≤ ((13 : Nat) : Int) + 4 by decide), trivial⟩, ?_⟩
  refine List.forall_mem_cons.mpr ⟨⟨(trivial), trivial⟩, ?_⟩
  refine List.forall_mem_cons.mpr ⟨⟨(show (3 : Nat) < mj_maxL 114 by decide), trivial⟩, ?_⟩
  refine List.forall_mem_cons.mpr ⟨⟨(trivial), trivial⟩, ?_⟩
  refine List.forall_mem_cons.mpr ⟨⟨(show (0 : Int) ≤ ((19 : Nat) : Int) + 23 by decide), trivial⟩, ?_⟩
  refine List.forall_mem_cons.mpr ⟨⟨(trivial), trivial⟩, ?_⟩
  refine List.forall_mem_cons.mpr ⟨⟨(mj_lkG (by decide) rfl (by decide) mj_inU10 mjf_10_41), trivial⟩, ?_⟩
  refine List.forall_mem_cons.mpr ⟨⟨(trivial), trivial⟩, ?_⟩
  refine List.forall_mem_cons.mpr ⟨⟨(mj_lkG (by decide) rfl (by decide) mj_inU10 mjf_10_159), trivial⟩, ?_⟩
  refine List.forall_mem_cons.mpr ⟨⟨(trivial), trivial⟩, ?_⟩
  refine List.forall_mem_cons.mpr ⟨⟨(trivial), trivial⟩, ?_⟩
  refine List.forall_mem_cons.mpr ⟨⟨(trivial), trivial⟩, ?_⟩
  refine List.forall_mem_cons.mpr ⟨⟨(trivial), trivial⟩, ?_⟩
  refine List.forall_mem_cons.mpr ⟨⟨(mj_lkG (by decide) rfl (by decide) mj_inU10 mjf_10_159), trivial⟩, ?_⟩
  refine List.forall_mem_cons.mpr ⟨⟨(trivial), trivial⟩, ?_⟩
  refine List.forall_mem_cons.mpr ⟨⟨(trivial), trivial⟩, ?_⟩
  refine List.forall_mem_cons.mpr ⟨⟨(mj_lkP (by decide) rfl (by decide) mj_inU10 mjf_10_159 mj_TyOk10 mj_Nm10 (Or.inl rfl) rfl), trivial⟩, ?_⟩
  refine List.forall_mem_cons.mpr ⟨⟨(trivial), trivial⟩, ?_⟩
  refine List.forall_mem_cons.mpr ⟨⟨(show (0 : Int) ≤ ((43 : Nat) : Int) + 43 by decide), trivial⟩, ?_⟩
  refine List.forall_mem_cons.mpr ⟨⟨(trivial), trivial⟩, ?_⟩
  refine List.forall_mem_cons.mpr ⟨⟨(trivial), trivial⟩, ?_⟩
  refine List.forall_mem_cons.mpr ⟨⟨(mj_lkG (by decide) rfl (by decide) mj_inU10 mjf_10_159), trivial⟩, ?_⟩
  refine List.forall_mem_cons.mpr ⟨⟨(trivial), trivial⟩, ?_⟩
  refine List.forall_mem_cons.mpr ⟨⟨(trivial), trivial⟩, ?_⟩
  refine List.forall_mem_cons.mpr ⟨⟨(mj_lkP (by decide) rfl (by decide) mj_inU10 mjf_10_159 mj_TyOk10 mj_Nm10 (Or.inl rfl) rfl), trivial⟩, ?_⟩
  refine List.forall_mem_cons.mpr ⟨⟨(trivial), trivial⟩, ?_⟩
  refine List.forall_mem_cons.mpr ⟨⟨(mj_lkG (by decide) rfl (by decide) mj_inU10 mjf_10_32), trivial⟩, ?_⟩
  refine List.forall_mem_cons.mpr ⟨⟨(trivial), trivial⟩, ?_⟩
  refine List.forall_mem_cons.mpr ⟨⟨(trivial), trivial⟩, ?_⟩
  refine List.forall_mem_cons.mpr ⟨⟨(mj_lkG (by decide) rfl (by decide) mj_inU10 mjf_10_41), trivial⟩, ?_⟩
  refine List.forall_mem_cons.mpr ⟨⟨(trivial), trivial⟩, ?_⟩
  refine List.forall_mem_cons.mpr ⟨⟨(mj_lkG (by decide) rfl (by decide) mj_inU10 mjf_10_159), trivial⟩, ?_⟩
  refine List.forall_mem_cons.mpr ⟨⟨(trivial), trivial⟩, ?_⟩
  refine List.forall_mem_cons.mpr ⟨⟨(trivial), trivial⟩, ?_⟩
  refine List.forall_mem_cons.mpr ⟨⟨(trivial), trivial⟩, ?_⟩
  refine List.forall_mem_cons.mpr ⟨⟨(mj_lkG (by decide) rfl (by decide) mj_inU10 mjf_10_32), trivial⟩, ?_⟩
  refine List.forall_mem_cons.mpr ⟨⟨(trivial), trivial⟩, ?_⟩
  refine List.forall_mem_cons.mpr ⟨⟨(mj_lkG (by decide) rfl (by decide) mj_inU10 mjf_10_41), trivial⟩, ?_⟩
  refine List.forall_mem_cons.mpr ⟨⟨(trivial), trivial⟩, ?_⟩
  refine List.forall_mem_cons.mpr ⟨⟨(mj_lkG (by decide) rfl (by decide) mj_inU10 mjf_10_159), trivial⟩, ?_⟩
  refine List.forall_mem_cons.mpr ⟨⟨(trivial), trivial⟩, ?_⟩
  refine List.forall_mem_cons.mpr ⟨⟨(trivial), trivial⟩, ?_⟩
  refine List.forall_mem_cons.mpr ⟨⟨(trivial), trivial⟩, ?_⟩
  refine List.forall_mem_cons.mpr ⟨⟨(trivial), trivial⟩, ?_⟩
  exact fun _ h => absurd h List.not_mem_nil
theorem mjd_114 : mj_ckd 114 = true := by decide +kernel
theorem mjg_114 : mj_good 114 := mj_goodOf (fun _ => ⟨mj_G, rfl⟩) (by decide +kernel) mjd_114 mje_114
theorem mje_115 : ∀ e ∈ mj_tb115, mj_lk 115 e.1 e.2.1 e.2.2.1 e.2.2.2 ∧ mj_cok 115 e.2.1 e.2.2.1 e.2.2.2 := by
  unfold mj_tb115
  refine List.forall_mem_cons.mpr ⟨⟨(trivial), trivial⟩, ?_⟩
  refine List.forall_mem_cons.mpr ⟨⟨(show (2 : Nat) < mj_maxL 115 by decide), trivial⟩, ?_⟩
  refine List.forall_mem_cons.mpr ⟨⟨(trivial), trivial⟩, ?_⟩
  refine List.forall_mem_cons.mpr ⟨⟨(show (0 : Int) ≤ ((3 : Nat) : Int) + 38 by decide), trivial⟩, ?_⟩
  refine List.forall_mem_cons.mpr ⟨⟨(trivial), trivial⟩, ?_⟩
  refine List.forall_mem_cons.mpr ⟨⟨(mj_lkG (by decide) rfl (by decide) mj_inU10 mjf_10_47), trivial⟩, ?_⟩
  refine List.forall_mem_cons.mpr ⟨⟨(trivial), trivial⟩, ?_⟩
  refine List.forall_mem_cons.mpr ⟨⟨(trivial), trivial⟩, ?_⟩
  refine List.forall_mem_cons.mpr ⟨⟨(trivial), trivial⟩, ?_⟩
  refine List.forall_mem_cons.mpr ⟨⟨(trivial), trivial⟩, ?_⟩
  refine List.forall_mem_cons.mpr ⟨⟨(trivial), trivial⟩, ?_⟩
  refine List.forall_mem_cons.mpr ⟨⟨(trivial), trivial⟩, ?_⟩
  refine List.forall_mem_cons.mpr ⟨⟨(trivial), trivial⟩, ?_⟩
  refine List.forall_mem_cons.mpr ⟨⟨(trivial), trivial⟩, ?_⟩
  refine List.forall_mem_cons.mpr ⟨⟨(trivial), trivial⟩, ?_⟩
  refine List.forall_mem_cons.mpr ⟨⟨(trivial), trivial⟩, ?_⟩
  refine List.forall_mem_cons.mpr ⟨⟨(trivial), trivial⟩, ?_⟩
  refine List.forall_mem_cons.mpr ⟨⟨(mj_lkG (by decide) rfl (by decide) mj_inU10 mjf_10_35), trivial⟩, ?_⟩
  refine List.forall_mem_cons.mpr ⟨⟨(trivial), trivial⟩, ?_⟩
  refine List.forall_mem_cons.mpr ⟨⟨(trivial), trivial⟩, ?_⟩
  refine List.forall_mem_cons.mpr ⟨⟨(trivial), trivial⟩, ?_⟩
  refine List.forall_mem_cons.mpr ⟨⟨(trivial), trivial⟩, ?_⟩
  refine List.forall_mem_cons.mpr ⟨⟨(trivial), trivial⟩, ?_⟩
  refine List.forall_mem_cons.mpr ⟨⟨(trivial), trivial⟩, ?_⟩
  refine List.forall_mem_cons.mpr ⟨⟨(trivial), mj_ckOf mjK_116 (by decide) (mj_lnkG mjl_10_188)⟩, ?_⟩
  refine List.forall_mem_cons.mpr ⟨⟨(trivial), trivial⟩, ?_⟩
  refine List.forall_mem_cons.mpr ⟨⟨(show (2 : Nat) < mj_maxL 115 by decide), trivial⟩, ?_⟩
  refine List.forall_mem_cons.mpr ⟨⟨(show (0 : Int) ≤ ((38 : Nat) : Int) + (-36) by decide), trivial⟩, ?_⟩
  refine List.forall_mem_cons.mpr ⟨⟨(trivial), trivial⟩, ?_⟩
  refine List.forall_mem_cons.mpr ⟨⟨(mj_lkG (by decide) rfl (by decide) mj_inU10 mjf_10_50), trivial⟩, ?_⟩
  refine List.forall_mem_cons.mpr ⟨⟨(trivial), trivial⟩, ?_⟩
  refine List.forall_mem_cons.mpr ⟨⟨(trivial), trivial⟩, ?_⟩
  refine List.forall_mem_cons.mpr ⟨⟨(mj_lkG (by decide) rfl (by decide) mj_inU10 mjf_10_47), trivial⟩, ?_⟩
  refine List.forall_mem_cons.mpr ⟨⟨(trivial), trivial⟩, ?_⟩
  refine List.forall_mem_cons.mpr ⟨⟨(trivial), trivial⟩, ?_⟩
  refine List.forall_mem_cons.mpr ⟨⟨(trivial), trivial⟩, ?_⟩
  refine List.forall_mem_cons.mpr ⟨⟨(trivial), trivial⟩, ?_⟩
  refine List.forall_mem_cons.mpr ⟨⟨(show (2 : Nat) < mj_maxL 115 by decide), trivial⟩, ?_⟩
  refine List.forall_mem_cons.mpr ⟨⟨(trivial), trivial⟩, ?_⟩
  refine List.forall_mem_cons.mpr ⟨⟨(trivial), trivial⟩, ?_⟩
  refine List.forall_mem_cons.mpr ⟨⟨(show (0 : Int) ≤ ((57 : Nat) : Int) + 20 by decide), trivial⟩, ?_⟩
  refine List.forall_mem_cons.mpr ⟨⟨(trivial), trivial⟩, ?_⟩
  refine List.forall_mem_cons.mpr ⟨⟨(mj_lkG (by decide) rfl (by decide) mj_inU10 mjf_10_53), trivial⟩, ?_⟩
  refine List.forall_mem_cons.mpr ⟨⟨(trivial), trivial⟩, ?_⟩
  refine List.forall_mem_cons.mpr ⟨⟨(trivial), trivial⟩, ?_⟩
  refine List.forall_mem_cons.mpr ⟨⟨(trivial), trivial⟩, ?_⟩
  refine List.forall_mem_cons.mpr ⟨⟨(trivial), trivial⟩, ?_⟩
  refine List.forall_mem_cons.mpr ⟨⟨(trivial), trivial⟩, ?_⟩
  refine List.forall_mem_cons.mpr ⟨⟨(trivial), trivial⟩, ?_⟩
  refine List.forall_mem_cons.mpr ⟨⟨(trivial), trivial⟩, ?_⟩
  refine List.forall_mem_cons.mpr ⟨⟨(show (2 : Nat) < mj_maxL 115 by decide), trivial⟩, ?_⟩
  refine List.forall_mem_cons.mpr ⟨⟨(show (0 : Int) ≤ ((74 : Nat) : Int) + (-19) by decide), trivial⟩, ?_⟩
  refine List.forall_mem_cons.mpr ⟨⟨(trivial), trivial⟩, ?_⟩
  refine List.forall_mem_cons.mpr ⟨⟨(show (2 : Nat) < mj_maxL 115 by decide), trivial⟩, ?_⟩
  refine List.forall_mem_cons.mpr ⟨⟨(trivial), trivial⟩, ?_⟩
  refine List.forall_mem_cons.mpr ⟨⟨(trivial), trivial⟩, ?_⟩
  refine List.forall_mem_cons.mpr ⟨⟨(show (0 : Int) ≤ ((81 : Nat) : Int) + 126 by decide), trivial⟩, ?_⟩
  refine List.forall_mem_cons.mpr ⟨⟨(trivial), trivial⟩, ?_⟩
  refine List.forall_mem_cons.mpr ⟨⟨(trivial), trivial⟩, ?_⟩
  refine List.forall_mem_cons.mpr ⟨⟨(trivial), trivial⟩, ?_⟩
  refine List.forall_mem_cons.mpr ⟨⟨(trivial), trivial⟩, ?_⟩
  refine List.forall_mem_cons.mpr ⟨⟨(trivial), trivial⟩, ?_⟩
  refine List.forall_mem_cons.mpr ⟨⟨(trivial), trivial⟩, ?_⟩
  refine List.forall_mem_cons.mpr ⟨⟨(trivial), trivial⟩, ?_⟩
  refine List.forall_mem_cons.mpr ⟨⟨(show (3 : Nat) < mj_maxL 115 by decide), trivial⟩, ?_⟩
  refine List.forall_mem_cons.mpr ⟨⟨(trivial), trivial⟩, ?_⟩
  refine List.forall_mem_cons.mpr ⟨⟨(show (4 : Nat) < mj_maxL 115 by decide), trivial⟩, ?_⟩
  refine List.forall_mem_cons.mpr ⟨⟨(trivial), trivial⟩, ?_⟩
  refine List.forall_mem_cons.mpr ⟨⟨(trivial), trivial⟩, ?_⟩
  refine List.forall_mem_cons.mpr ⟨⟨(mj_lkG (by decide) rfl (by decide) mj_inU10 mjf_10_35), trivial⟩, ?_⟩
  refine List.forall_mem_cons.mpr ⟨⟨(trivial), trivial⟩, ?_⟩
  refine List.forall_mem_cons.mpr ⟨⟨(trivial), trivial⟩, ?_⟩
  refine List.forall_mem_cons.mpr ⟨⟨(trivial), trivial⟩, ?_⟩
  refine List.forall_mem_cons.mpr ⟨⟨(trivial), trivial⟩, ?_⟩
  refine List.forall_mem_cons.mpr ⟨⟨(trivial), trivial⟩, ?_⟩
  refine List.forall_mem_cons.mpr ⟨⟨(trivial), trivial⟩, ?_⟩
  refine List.forall_mem_cons.mpr ⟨⟨(show (0 : Int) ≤ ((108 : Nat) : Int) + 93 by decide), trivial⟩, ?_⟩
  refine List.forall_mem_cons.mpr ⟨⟨(trivial), trivial⟩, ?_⟩
  refine List.forall_mem_cons.mpr ⟨⟨(mj_lkG (by decide) rfl (by decide) mj_inU10 mjf_10_23), trivial⟩, ?_⟩
  refine List.forall_mem_cons.mpr ⟨⟨(trivial), trivial⟩, ?_⟩
  refine List.forall_mem_cons.mpr ⟨⟨(trivial), trivial⟩, ?_⟩
  refine List.forall_mem_cons.mpr ⟨⟨(trivial), trivial⟩, ?_⟩
  refine List.forall_mem_cons.mpr ⟨⟨(trivial), trivial⟩, ?_⟩
  refine List.forall_mem_cons.mpr ⟨⟨(trivial), trivial⟩, ?_⟩
  refine List.forall_mem_cons.mpr ⟨⟨(show (0 : Int) ≤ ((122 : Nat) : Int) + 73 by decide), trivial⟩, ?_⟩
  refine List.forall_mem_cons.mpr ⟨⟨(trivial), trivial⟩, ?_⟩
  refine List.forall_mem_cons.mpr ⟨⟨(trivial), trivial⟩, ?_⟩
  refine List.forall_mem_cons.mpr ⟨⟨(trivial), trivial⟩, ?_⟩
  refine List.forall_mem_cons.mpr ⟨⟨(trivial), trivial⟩, ?_⟩
  refine List.forall_mem_cons.mpr ⟨⟨(trivial), trivial⟩, ?_⟩
  refine List.forall_mem_cons.mpr ⟨⟨(trivial), trivial⟩, ?_⟩
  refine List.forall_mem_cons.mpr ⟨⟨(mj_lkG (by decide) rfl (by decide) mj_inU10 mjf_10_32), trivial⟩, ?_⟩
  refine List.forall_mem_cons.mpr ⟨⟨(trivial), trivial⟩, ?_⟩
  refine List.forall_mem_cons.mpr ⟨⟨(trivial), trivial⟩, ?_⟩
  refine List.forall_mem_cons.mpr ⟨⟨(trivial), trivial⟩, ?_⟩
  refine List.forall_mem_cons.mpr ⟨⟨(trivial), trivial⟩, ?_⟩
  refine List.forall_mem_cons.mpr ⟨⟨(trivial), trivial⟩, ?_⟩
  refine List.forall_mem_cons.mpr ⟨⟨(trivial), trivial⟩, ?_⟩
  refine List.forall_mem_cons.mpr ⟨⟨(trivial), trivial⟩, ?_⟩
  refine List.forall_mem_cons.mpr ⟨⟨(trivial), trivial⟩, ?_⟩
  refine List.forall_mem_cons.mpr ⟨⟨(trivial), mj_ckOf mjK_116 (by decide) (mj_lnkG mjl_10_188)⟩, ?_⟩
  refine List.forall_mem_cons.mpr ⟨⟨(show (5 : Nat) < mj_maxL 115 by decide), trivial⟩, ?_⟩
  refine List.forall_mem_cons.mpr ⟨⟨(trivial), trivial⟩, ?_⟩
  refine List.forall_mem_cons.mpr ⟨⟨(trivial), trivial⟩, ?_⟩
  refine List.forall_mem_cons.mpr ⟨⟨(trivial), trivial⟩, ?_⟩
  refine List.forall_mem_cons.mpr ⟨⟨(trivial), trivial⟩, ?_⟩
  refine List.forall_mem_cons.mpr ⟨⟨(mj_lkG (by decide) rfl (by decide) mj_inU10 mjf_10_29), trivial⟩, ?_⟩
  refine List.forall_mem_cons.mpr ⟨⟨(trivial), trivial⟩, ?_⟩
  refine List.forall_mem_cons.mpr ⟨⟨(trivial), trivial⟩, ?_⟩
  refine List.forall_mem_cons.mpr ⟨⟨(trivial), trivial⟩, ?_⟩
  refine List.forall_mem_cons.mpr ⟨⟨(trivial), trivial⟩, ?_⟩
  refine List.forall_mem_cons.mpr ⟨⟨(trivial), trivial⟩, ?_⟩
  refine List.forall_mem_cons.mpr ⟨⟨(show (6 : Nat) < mj_maxL 115 by decide), trivial⟩, ?_⟩
  refine List.forall_mem_cons.mpr ⟨⟨(trivial), trivial⟩, ?_⟩
  refine List.forall_mem_cons.mpr ⟨⟨(mj_lkG (by decide) rfl (by decide) mj_inU10 mjf_10_53), trivial⟩, ?_⟩
  refine List.forall_mem_cons.mpr ⟨⟨(trivial), trivial⟩, ?_⟩
  refine List.forall_mem_cons.mpr ⟨⟨(trivial), trivial⟩, ?_⟩
  refine List.forall_mem_cons.mpr ⟨⟨(trivial), trivial⟩, ?_⟩
  refine List.forall_mem_cons.mpr ⟨⟨(mj_lkG (by decide) rfl (by decide) mj_inU10 mjf_10_53), trivial⟩, ?_⟩
  refine List.forall_mem_cons.mpr ⟨⟨(trivial), trivial⟩, ?_⟩
  refine List.forall_mem_cons.mpr ⟨⟨(trivial), trivial⟩, ?_⟩
  refine List.forall_mem_cons.mpr ⟨⟨(show (0 : Int) ≤ ((179 : Nat) : Int) + 8 by decide), trivial⟩, ?_⟩
  refine List.forall_mem_cons.mpr ⟨⟨(trivial), trivial⟩, ?_⟩
  refine List.forall_mem_cons.mpr ⟨⟨(show (0 : Int) ≤ ((184 : Nat) : Int) + 10 by decide), trivial⟩, ?_⟩
  refine List.forall_mem_cons.mpr ⟨⟨(trivial), trivial⟩, ?_⟩
  refine List.forall_mem_cons.mpr ⟨⟨(mj_lkG (by decide) rfl (by decide) mj_inU10 mjf_10_53), trivial⟩, ?_⟩
  refine List.forall_mem_cons.mpr ⟨⟨(trivial), trivial⟩, ?_⟩
  refine List.forall_mem_cons.mpr ⟨⟨(trivial), trivial⟩, ?_⟩
  refine List.forall_mem_cons.mpr ⟨⟨(trivial), trivial⟩, ?_⟩
  refine List.forall_mem_cons.mpr ⟨⟨(show (4 : Nat) < mj_maxL 115 by decide), trivial⟩, ?_⟩
  refine List.forall_mem_cons.mpr ⟨⟨(show (0 : Int) ≤ ((198 : Nat) : Int) + (-102) by decide), trivial⟩, ?_⟩
  refine List.forall_mem_cons.mpr ⟨⟨(show (2 : Nat) < mj_maxL 115 by decide), trivial⟩, ?_⟩
  refine List.forall_mem_cons.mpr ⟨⟨(show (0 : Int) ≤ ((204 : Nat) : Int) + (-125) by decide), trivial⟩, ?_⟩
  refine List.forall_mem_cons.mpr ⟨⟨(trivial), trivial⟩, ?_⟩
  exact fun _ h => absurd h List.not_mem_nil
theorem mjd_115 : mj_ckd 115 = true := by decide +kernel
theorem mjg_115 : mj_good 115 := mj_goodOf (fun _ => ⟨mj_G, rfl⟩) (by decide +kernel) mjd_115 mje_115
