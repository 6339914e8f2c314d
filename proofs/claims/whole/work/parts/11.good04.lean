theorem mje_44 : ∀ e ∈ mj_tb44, mj_lk 44 e.1 e.2.1 e.2.2.1 e.2.2.2 ∧ mj_cok 44 e.2.1 e.2.2.1 e.2.2.2 := by
  unfold mj_tb44
  refine List.forall_mem_cons.mpr ⟨⟨(trivial), trivial⟩, ?_⟩
  refine List.forall_mem_cons.mpr ⟨⟨(mj_lkG (by decide) rfl (by decide) mj_inU2 mjf_2_20), trivial⟩, ?_⟩
  refine List.forall_mem_cons.mpr ⟨⟨(trivial), trivial⟩, ?_⟩
  refine List.forall_mem_cons.mpr ⟨⟨(trivial), trivial⟩, ?_⟩
  refine List.forall_mem_cons.mpr ⟨⟨(trivial), trivial⟩, ?_⟩
  refine List.forall_mem_cons.mpr ⟨⟨(mj_lkG (by decide) rfl (by decide) mj_inU2 mjf_2_9), trivial⟩, ?_⟩
  refine List.forall_mem_cons.mpr ⟨⟨(trivial), trivial⟩, ?_⟩
  refine List.forall_mem_cons.mpr ⟨⟨(trivial), trivial⟩, ?_⟩
  refine List.forall_mem_cons.mpr ⟨⟨(trivial), trivial⟩, ?_⟩
  refine List.forall_mem_cons.mpr ⟨⟨(trivial), trivial⟩, ?_⟩
  refine List.forall_mem_cons.mpr ⟨⟨(trivial), trivial⟩, ?_⟩
  refine List.forall_mem_cons.mpr ⟨⟨(show (4 : Nat) < mj_maxL 44 by decide), trivial⟩, ?_⟩
  refine List.forall_mem_cons.mpr ⟨⟨(trivial), trivial⟩, ?_⟩
  refine List.forall_mem_cons.mpr ⟨⟨(show (5 : Nat) < mj_maxL 44 by decide), trivial⟩, ?_⟩
  refine List.forall_mem_cons.mpr ⟨⟨(trivial), trivial⟩, ?_⟩
  refine List.forall_mem_cons.mpr ⟨⟨(trivial), trivial⟩, ?_⟩
  refine List.forall_mem_cons.mpr ⟨⟨(show (0 : Int) ≤ ((23 : Nat) : Int) + 50 by decide), trivial⟩, ?_⟩
  refine List.forall_mem_cons.mpr ⟨⟨(trivial), trivial⟩, ?_⟩
  refine List.forall_mem_cons.mpr ⟨⟨(trivial), trivial⟩, ?_⟩
  refine List.forall_mem_cons.mpr ⟨⟨(trivial), trivial⟩, ?_⟩
  refine List.forall_mem_cons.mpr ⟨⟨(trivial), trivial⟩, ?_⟩
  refine List.forall_mem_cons.mpr ⟨⟨(mj_lkG (by decide) rfl (by decide) mj_inU3 mjf_2_113), trivial⟩, ?_⟩
  refine List.forall_mem_cons.mpr ⟨⟨(trivial), ⟨mj_Gws (mj_Gin 473 (by decide +kernel) rfl), mj_Gws (mj_Gin 474 (by decide +kernel) rfl), mj_Gws (mj_Gin 13 (by decide +kernel) rfl), mj_Gws (mj_Gin 475 (by decide +kernel) rfl), by decide, by decide⟩⟩, ?_⟩
  refine List.forall_mem_cons.mpr ⟨⟨(show (6 : Nat) < mj_maxL 44 by decide), trivial⟩, ?_⟩
  refine List.forall_mem_cons.mpr ⟨⟨(trivial), trivial⟩, ?_⟩
  refine List.forall_mem_cons.mpr ⟨⟨(trivial), trivial⟩, ?_⟩
  refine List.forall_mem_cons.mpr ⟨⟨(trivial), trivial⟩, ?_⟩
  refine List.forall_mem_cons.mpr ⟨⟨(trivial), trivial⟩, ?_⟩
  refine List.forall_mem_cons.mpr ⟨⟨(trivial), trivial⟩, ?_⟩
  refine List.forall_mem_cons.mpr ⟨⟨(trivial), trivial⟩, ?_⟩
  refine List.forall_mem_cons.mpr ⟨⟨(trivial), trivial⟩, ?_⟩
  refine List.forall_mem_cons.mpr ⟨⟨(show (7 : Nat) < mj_maxL 44 by decide), trivial⟩, ?_⟩
  refine List.forall_mem_cons.mpr ⟨⟨(trivial), trivial⟩, ?_⟩
  refine List.forall_mem_cons.mpr ⟨⟨(trivial), trivial⟩, ?_⟩
  refine List.forall_mem_cons.mpr ⟨⟨(trivial), trivial⟩, ?_⟩
  refine List.forall_mem_cons.mpr ⟨⟨(mj_lkG (by decide) rfl (by decide) mj_inU2 mjf_2_9), trivial⟩, ?_⟩
  refine List.forall_mem_cons.mpr ⟨⟨(trivial), trivial⟩, ?_⟩
  refine List.forall_mem_cons.mpr ⟨⟨(trivial), trivial⟩, ?_⟩
  refine List.forall_mem_cons.mpr ⟨⟨(trivial), trivial⟩, ?_⟩
  refine List.forall_mem_cons.mpr ⟨⟨(trivial), trivial⟩, ?_⟩
  refine List.forall_mem_cons.mpr ⟨⟨(trivial), trivial⟩, ?_⟩
  refine List.forall_mem_cons.mpr ⟨⟨(trivial), trivial⟩, ?_⟩
  refine List.forall_mem_cons.mpr ⟨⟨(show (4 : Nat) < mj_maxL 44 by decide), trivial⟩, ?_⟩
  refine List.forall_mem_cons.mpr ⟨⟨(show (5 : Nat) < mj_maxL 44 by decide), trivial⟩, ?_⟩
  refine List.forall_mem_cons.mpr ⟨⟨(show (0 : Int) ≤ ((70 : Nat) : Int) + (-50) by decide), trivial⟩, ?_⟩
  refine List.forall_mem_cons.mpr ⟨⟨(trivial), trivial⟩, ?_⟩
  refine List.forall_mem_cons.mpr ⟨⟨(trivial), trivial⟩, ?_⟩
  exact fun _ h => absurd h List.not_mem_nil
theorem mjd_44 : mj_ckd 44 = true := by decide +kernel
theorem mjg_44 : mj_good 44 := mj_goodOf (fun _ => ⟨mj_G, rfl⟩) (by decide +kernel) mjd_44 mje_44
theorem mje_45 : ∀ e ∈ mj_tb45, mj_lk 45 e.1 e.2.1 e.2.2.1 e.2.2.2 ∧ mj_cok 45 e.2.1 e.2.2.1 e.2.2.2 := by
  unfold mj_tb45
  refine List.forall_mem_cons.mpr ⟨⟨(trivial), trivial⟩, ?_⟩
  refine List.forall_mem_cons.mpr ⟨⟨(mj_lkG (by decide) rfl (by decide) mj_inU0 mjf_0_18), trivial⟩, ?_⟩
  refine List.forall_mem_cons.mpr ⟨⟨(mj_lkG (by decide) rfl (by decide) mj_inU1 mjf_0_81), trivial⟩, ?_⟩
  refine List.forall_mem_cons.mpr ⟨⟨(trivial), trivial⟩, ?_⟩
  exact fun _ h => absurd h List.not_mem_nil
theorem mjd_45 : mj_ckd 45 = true := by decide +kernel
theorem mjg_45 : mj_good 45 := mj_goodOf (fun _ => ⟨mj_G, rfl⟩) (by decide +kernel) mjd_45 mje_45
theorem mje_46 : ∀ e ∈ mj_tb46, mj_lk 46 e.1 e.2.1 e.2.2.1 e.2.2.2 ∧ mj_cok 46 e.2.1 e.2.2.1 e.2.2.2 := by
  unfold mj_tb46
  refine List.forall_mem_cons.mpr ⟨⟨(trivial), trivial⟩, ?_⟩
  refine List.forall_mem_cons.mpr ⟨⟨(trivial), trivial⟩, ?_⟩
  refine List.forall_mem_cons.mpr ⟨⟨(trivial), mj_ckOf mjK_47 (by decide) (mj_lnkG mjl_0_92)⟩, ?_⟩
  refine List.forall_mem_cons.mpr ⟨⟨(show (0 : Int) ≤ ((5 : Nat) : Int) + 15 by decide), trivial⟩, ?_⟩
  refine List.forall_mem_cons.mpr ⟨⟨(trivial), trivial⟩, ?_⟩
  refine List.forall_mem_cons.mpr ⟨⟨(mj_lkG (by decide) rfl (by decide) mj_inU0 mjf_0_25), trivial⟩, ?_⟩
  refine List.forall_mem_cons.mpr ⟨⟨(mj_lkG (by decide) rfl (by decide) mj_inU2 mjf_0_95), trivial⟩, ?_⟩
  refine List.forall_mem_cons.mpr ⟨⟨(trivial), trivial⟩, ?_⟩
  refine List.forall_mem_cons.mpr ⟨⟨(trivial), trivial⟩, ?_⟩
  refine List.forall_mem_cons.mpr ⟨⟨(show (0 : Int) ≤ ((17 : Nat) : Int) + 4 by decide), trivial⟩, ?_⟩
  refine List.forall_mem_cons.mpr ⟨⟨(trivial), trivial⟩, ?_⟩
  refine List.forall_mem_cons.mpr ⟨⟨(trivial), trivial⟩, ?_⟩
  exact fun _ h => absurd h List.not_mem_nil
theorem mjd_46 : mj_ckd 46 = true := by decide +kernel
theorem mjg_46 : mj_good 46 := mj_goodOf (fun _ => ⟨mj_G, rfl⟩) (by decide +kernel) mjd_46 mje_46
theorem mje_47 : ∀ e ∈ mj_tb47, mj_lk 47 e.1 e.2.1 e.2.2.1 e.2.2.2 ∧ mj_cok 47 e.2.1 e.2.2.1 e.2.2.2 := by
  unfold mj_tb47
  refine List.forall_mem_cons.mpr ⟨⟨(trivial), trivial⟩, ?_⟩
  refine List.forall_mem_cons.mpr ⟨⟨(mj_lkG (by decide) rfl (by decide) mj_inU0 mjf_0_25), trivial⟩, ?_⟩
  refine List.forall_mem_cons.mpr ⟨⟨(mj_lkG (by decide) rfl (by decide) mj_inU2 mjf_0_55), trivial⟩, ?_⟩
  refine List.forall_mem_cons.mpr ⟨⟨(show (0 : Int) ≤ ((7 : Nat) : Int) + 15 by decide), trivial⟩, ?_⟩
  refine List.forall_mem_cons.mpr ⟨⟨(trivial), trivial⟩, ?_⟩
  refine List.forall_mem_cons.mpr ⟨⟨(trivial), trivial⟩, ?_⟩
  refine List.forall_mem_cons.mpr ⟨⟨(trivial), mj_ckOf mjK_14 (by decide) (mj_lnkG mjl_0_58)⟩, ?_⟩
  refine List.forall_mem_cons.mpr ⟨⟨(show (0 : Int) ≤ ((15 : Nat) : Int) + 7 by decide), trivial⟩, ?_⟩
  refine List.forall_mem_cons.mpr ⟨⟨(trivial), trivial⟩, ?_⟩
  refine List.forall_mem_cons.mpr ⟨⟨(show (0 : Int) ≤ ((19 : Nat) : Int) + 4 by decide), trivial⟩, ?_⟩
  refine List.forall_mem_cons.mpr ⟨⟨(trivial), trivial⟩, ?_⟩
  refine List.forall_mem_cons.mpr ⟨⟨(trivial), trivial⟩, ?_⟩
  exact fun _ h => absurd h List.not_mem_nil
theorem mjd_47 : mj_ckd 47 = true := by decide +kernel
theorem mjg_47 : mj_good 47 := mj_goodOf (fun _ => ⟨mj_G, rfl⟩) (by decide +kernel) mjd_47 mje_47
theorem mje_48 : ∀ e ∈ mj_tb48, mj_lk 48 e.1 e.2.1 e.2.2.1 e.2.2.2 ∧ mj_cok 48 e.2.1 e.2.2.1 e.2.2.2 := by
  unfold mj_tb48
  refine List.forall_mem_cons.mpr ⟨⟨(trivial), trivial⟩, ?_⟩
  refine List.forall_mem_cons.mpr ⟨⟨(trivial), trivial⟩, ?_⟩
  refine List.forall_mem_cons.mpr ⟨⟨(trivial), mj_ckOf mjK_47 (by decide) (mj_lnkG mjl_0_92)⟩, ?_⟩
  refine List.forall_mem_cons.mpr ⟨⟨(show (0 : Int) ≤ ((5 : Nat) : Int) + 25 by decide), trivial⟩, ?_⟩
  refine List.forall_mem_cons.mpr ⟨⟨(trivial), trivial⟩, ?_⟩
  refine List.forall_mem_cons.mpr ⟨⟨(trivial), trivial⟩, ?_⟩
  refine List.forall_mem_cons.mpr ⟨⟨(trivial), mj_ckOf mjK_15 (by decide) (mj_lnkG mjl_0_62)⟩, ?_⟩
  refine List.forall_mem_cons.mpr ⟨⟨(show (0 : Int) ≤ ((13 : Nat) : Int) + 17 by decide), trivial⟩, ?_⟩
  refine List.forall_mem_cons.mpr ⟨⟨(trivial), trivial⟩, ?_⟩
  refine List.forall_mem_cons.mpr ⟨⟨(mj_lkG (by decide) rfl (by decide) mj_inU0 mjf_0_25), trivial⟩, ?_⟩
  refine List.forall_mem_cons.mpr ⟨⟨(mj_lkG (by decide) rfl (by decide) mj_inU2 mjf_0_99), trivial⟩, ?_⟩
  refine List.forall_mem_cons.mpr ⟨⟨(trivial), trivial⟩, ?_⟩
  refine List.forall_mem_cons.mpr ⟨⟨(trivial), trivial⟩, ?_⟩
  refine List.forall_mem_cons.mpr ⟨⟨(trivial), trivial⟩, ?_⟩
  refine List.forall_mem_cons.mpr ⟨⟨(trivial), trivial⟩, ?_⟩
  refine List.forall_mem_cons.mpr ⟨⟨(show (0 : Int) ≤ ((27 : Nat) : Int) + 4 by decide), trivial⟩, ?_⟩
  refine List.forall_mem_cons.mpr ⟨⟨(trivial), trivial⟩, ?_⟩
  refine List.forall_mem_cons.mpr ⟨⟨(trivial), trivial⟩, ?_⟩
  exact fun _ h => absurd h List.not_mem_nil
theorem mjd_48 : mj_ckd 48 = true := by decide +kernel
theorem mjg_48 : mj_good 48 := mj_goodOf (fun _ => ⟨mj_G, rfl⟩) (by decide +kernel) mjd_48 mje_48
theorem mje_49 : ∀ e ∈ mj_tb49, mj_lk 49 e.1 e.2.1 e.2.2.1 e.2.2.2 ∧ mj_cok 49 e.2.1 e.2.2.1 e.2.2.2 := by
  unfold mj_tb49
  refine List.forall_mem_cons.mpr ⟨⟨(trivial), trivial⟩, ?_⟩
  refine List.forall_mem_cons.mpr ⟨⟨(trivial), trivial⟩, ?_⟩
  refine List.forall_mem_cons.mpr ⟨⟨(trivial), mj_ckOf mjK_47 (by decide) (mj_lnkG mjl_0_92)⟩, ?_⟩
  refine List.forall_mem_cons.mpr ⟨⟨(show (0 : Int) ≤ ((5 : Nat) : Int) + 15 by decide), trivial⟩, ?_⟩
  refine List.forall_mem_cons.mpr ⟨⟨(trivial), trivial⟩, ?_⟩
  refine List.forall_mem_cons.mpr ⟨⟨(mj_lkG (by decide) rfl (by decide) mj_inU0 mjf_0_25), trivial⟩, ?_⟩
  refine List.forall_mem_cons.mpr ⟨⟨(mj_lkG (by decide) rfl (by decide) mj_inU2 mjf_0_103), trivial⟩, ?_⟩
  refine List.forall_mem_cons.mpr ⟨⟨(trivial), trivial⟩, ?_⟩
  refine List.forall_mem_cons.mpr ⟨⟨(trivial), trivial⟩, ?_⟩
  refine List.forall_mem_cons.mpr ⟨⟨(show (0 : Int) ≤ ((17 : Nat) : Int) + 4 by decide), trivial⟩, ?_⟩
  refine List.forall_mem_cons.mpr ⟨⟨(trivial), trivial⟩, ?_⟩
  refine List.forall_mem_cons.mpr ⟨⟨(trivial), trivial⟩, ?_⟩
  exact fun _ h => absurd h List.not_mem_nil
theorem mjd_49 : mj_ckd 49 = true := by decide +kernel
theorem mjg_49 : mj_good 49 := mj_goodOf (fun _ => ⟨mj_G, rfl⟩) (by decide +kernel) mjd_49 mje_49
theorem mje_50 : ∀ e ∈ mj_tb50, mj_lk 50 e.1 e.2.1 e.2.2.1 e.2.2.2 ∧ mj_cok 50 e.2.1 e.2.2.1 e.2.2.2 := by
  unfold mj_tb50
  refine List.forall_mem_cons.mpr ⟨⟨(trivial), trivial⟩, ?_⟩
  refine List.forall_mem_cons.mpr ⟨⟨(trivial), trivial⟩, ?_⟩
  refine List.forall_mem_cons.mpr ⟨⟨(trivial), mj_ckOf mjK_47 (by decide) (mj_lnkG mjl_0_92)⟩, ?_⟩
  refine List.forall_mem_cons.mpr ⟨⟨(show (0 : Int) ≤ ((5 : Nat) : Int) + 15 by decide), trivial⟩, ?_⟩
  refine List.forall_mem_cons.mpr ⟨⟨(trivial), trivial⟩, ?_⟩
  refine List.forall_mem_cons.mpr ⟨⟨(mj_lkG (by decide) rfl (by decide) mj_inU0 mjf_0_25), trivial⟩, ?_⟩
  refine List.forall_mem_cons.mpr ⟨⟨(mj_lkG (by decide) rfl (by decide) mj_inU2 mjf_0_106), trivial⟩, ?_⟩
  refine List.forall_mem_cons.mpr ⟨⟨(trivial), trivial⟩, ?_⟩
  refine List.forall_mem_cons.mpr ⟨⟨(trivial), trivial⟩, ?_⟩
  refine List.forall_mem_cons.mpr ⟨⟨(show (0 : Int) ≤ ((17 : Nat) : Int) + 4 by decide), trivial⟩, ?_⟩
  refine List.forall_mem_cons.mpr ⟨⟨(trivial), trivial⟩, ?_⟩
  refine List.forall_mem_cons.mpr ⟨⟨(trivial), trivial⟩, ?_⟩
  exact fun _ h => absurd h List.not_mem_nil
theorem mjd_50 : mj_ckd 50 = true := by decide +kernel
theorem mjg_50 : mj_good 50 := mj_goodOf (fun _ => ⟨mj_G, rfl⟩) (by decide +kernel) mjd_50 mje_50
theorem mje_51 : ∀ e ∈ mj_tb51, mj_lk 51 e.1 e.2.1 e.2.2.1 e.2.2.2 ∧ mj_cok 51 e.2.1 e.2.2.1 e.2.2.2 := by
  unfold mj_tb51
  refine List.forall_mem_cons.mpr ⟨⟨(trivial), trivial⟩, ?_⟩
  refine List.forall_mem_cons.mpr ⟨⟨(mj_lkG (by decide) rfl (by decide) mj_inU0 mjf_0_25), trivial⟩, ?_⟩
  refine List.forall_mem_cons.mpr ⟨⟨(mj_lkG (by decide) rfl (by decide) mj_inU2 mjf_0_55), trivial⟩, ?_⟩
  refine List.forall_mem_cons.mpr ⟨⟨(show (0 : Int) ≤ ((7 : Nat) : Int) + 23 by decide), trivial⟩, ?_⟩
  refine List.forall_mem_cons.mpr ⟨⟨(trivial), trivial⟩, ?_⟩
  refine List.forall_mem_cons.mpr ⟨⟨(trivial), trivial⟩, ?_⟩
  refine List.forall_mem_cons.mpr ⟨⟨(trivial), mj_ckOf mjK_15 (by decide) (mj_lnkG mjl_0_62)⟩, ?_⟩
  refine List.forall_mem_cons.mpr ⟨⟨(show (0 : Int) ≤ ((15 : Nat) : Int) + 15 by decide), trivial⟩, ?_⟩
  refine List.forall_mem_cons.mpr ⟨⟨(trivial), trivial⟩, ?_⟩
  refine List.forall_mem_cons.mpr ⟨⟨(mj_lkG (by decide) rfl (by decide) mj_inU0 mjf_0_25), trivial⟩, ?_⟩
  refine List.forall_mem_cons.mpr ⟨⟨(mj_lkG (by decide) rfl (by decide) mj_inU2 mjf_0_109), trivial⟩, ?_⟩
  refine List.forall_mem_cons.mpr ⟨⟨(trivial), trivial⟩, ?_⟩
  refine List.forall_mem_cons.mpr ⟨⟨(trivial), trivial⟩, ?_⟩
  refine List.forall_mem_cons.mpr ⟨⟨(show (0 : Int) ≤ ((27 : Nat) : Int) + 4 by decide), trivial⟩, ?_⟩
  refine List.forall_mem_cons.mpr ⟨⟨(trivial), trivial⟩, ?_⟩
  refine List.forall_mem_cons.mpr ⟨⟨(trivial), trivial⟩, ?_⟩
  exact fun _ h => absurd h List.not_mem_nil
theorem mjd_51 : mj_ckd 51 = true := by decide +kernel
theorem mjg_51 : mj_good 51 := mj_goodOf (fun _ => ⟨mj_G, rfl⟩) (by decide +kernel) mjd_51 mje_51
theorem mje_52 : ∀ e ∈ mj_tb52, mj_lk 52 e.1 e.2.1 e.2.2.1 e.2.2.2 ∧ mj_cok 52 e.2.1 e.2.2.1 e.2.2.2 := by
  unfold mj_tb52
  refine List.forall_mem_cons.mpr ⟨⟨(trivial), trivial⟩, ?_⟩
  refine List.forall_mem_cons.mpr ⟨⟨(mj_lkG (by decide) rfl (by decide) mj_inU0 mjf_0_35), trivial⟩, ?_⟩
  refine List.forall_mem_cons.mpr ⟨⟨(mj_lkG (by decide) rfl (by decide) mj_inU5 mjf_0_43), trivial⟩, ?_⟩
  refine List.forall_mem_cons.mpr ⟨⟨(show (0 : Int) ≤ ((7 : Nat) : Int) + 13 by decide), trivial⟩, ?_⟩
  refine List.forall_mem_cons.mpr ⟨⟨(trivial), trivial⟩, ?_⟩
  refine List.forall_mem_cons.mpr ⟨⟨(mj_lkG (by decide) rfl (by decide) mj_inU0 mjf_0_25), trivial⟩, ?_⟩
  refine List.forall_mem_cons.mpr ⟨⟨(mj_lkG (by decide) rfl (by decide) mj_inU2 mjf_0_55), trivial⟩, ?_⟩
  refine List.forall_mem_cons.mpr ⟨⟨(show (0 : Int) ≤ ((17 : Nat) : Int) + 5 by decide), trivial⟩, ?_⟩
  refine List.forall_mem_cons.mpr ⟨⟨(trivial), trivial⟩, ?_⟩
  refine List.forall_mem_cons.mpr ⟨⟨(trivial), trivial⟩, ?_⟩
  refine List.forall_mem_cons.mpr ⟨⟨(trivial), trivial⟩, ?_⟩
  refine List.forall_mem_cons.mpr ⟨⟨(mj_lkG (by decide) rfl (by decide) mj_inU0 mjf_0_35), trivial⟩, ?_⟩
  refine List.forall_mem_cons.mpr ⟨⟨(trivial), trivial⟩, ?_⟩
  refine List.forall_mem_cons.mpr ⟨⟨(mj_lkG (by decide) rfl (by decide) mj_inU0 mjf_0_47), trivial⟩, ?_⟩
  refine List.forall_mem_cons.mpr ⟨⟨(trivial), mj_ckOf mjK_53 (by decide) (mj_lnkG mjl_0_112)⟩, ?_⟩
  refine List.forall_mem_cons.mpr ⟨⟨(trivial), trivial⟩, ?_⟩
  refine List.forall_mem_cons.mpr ⟨⟨(trivial), trivial⟩, ?_⟩
  exact fun _ h => absurd h List.not_mem_nil
theorem mjd_52 : mj_ckd 52 = true := by decide +kernel
theorem mjg_52 : mj_good 52 := mj_goodOf (fun _ => ⟨mj_G, rfl⟩) (by decide +kernel) mjd_52 mje_52
theorem mje_53 : ∀ e ∈ mj_tb53, mj_lk 53 e.1 e.2.1 e.2.2.1 e.2.2.2 ∧ mj_cok 53 e.2.1 e.2.2.1 e.2.2.2 := by
  unfold mj_tb53
  refine List.forall_mem_cons.mpr ⟨⟨(trivial), trivial⟩, ?_⟩
  refine List.forall_mem_cons.mpr ⟨⟨(trivial), trivial⟩, ?_⟩
  refine List.forall_mem_cons.mpr ⟨⟨(mj_lkP (by decide) rfl (by decide) mj_inU5 mjf_5_42 mj_TyOk5 mj_Nm5 (Or.inl rfl) rfl), trivial⟩, ?_⟩
  refine List.forall_mem_cons.mpr ⟨⟨(trivial), trivial⟩, ?_⟩
  refine List.forall_mem_cons.mpr ⟨⟨(trivial), trivial⟩, ?_⟩
  refine List.forall_mem_cons.mpr ⟨⟨(mj_lkP (by decide) rfl (by decide) mj_inU5 mjf_5_46 mj_TyOk5 mj_Nm5 (Or.inl rfl) rfl), trivial⟩, ?_⟩
  refine List.forall_mem_cons.mpr ⟨⟨(trivial), trivial⟩, ?_⟩
  refine List.forall_mem_cons.mpr ⟨⟨(trivial), trivial⟩, ?_⟩
  refine List.forall_mem_cons.mpr ⟨⟨(mj_lkP (by decide) rfl (by decide) mj_inU5 mjf_5_50 mj_TyOk5 mj_Nm5 (Or.inl rfl) rfl), trivial⟩, ?_⟩
  refine List.forall_mem_cons.mpr ⟨⟨(trivial), trivial⟩, ?_⟩
  refine List.forall_mem_cons.mpr ⟨⟨(trivial), trivial⟩, ?_⟩
  refine List.forall_mem_cons.mpr ⟨⟨(mj_lkP (by decide) rfl (by decide) mj_inU5 mjf_5_53 mj_TyOk5 mj_Nm5 (Or.inl rfl) rfl), trivial⟩, ?_⟩
  refine List.forall_mem_cons.mpr ⟨⟨(trivial), trivial⟩, ?_⟩
  refine List.forall_mem_cons.mpr ⟨⟨(trivial), trivial⟩, ?_⟩
  refine List.forall_mem_cons.mpr ⟨⟨(mj_lkP (by decide) rfl (by decide) mj_inU5 mjf_5_56 mj_TyOk5 mj_Nm5 (Or.inl rfl) rfl), trivial⟩, ?_⟩
  refine List.forall_mem_cons.mpr ⟨⟨(trivial), trivial⟩, ?_⟩
  refine List.forall_mem_cons.mpr ⟨⟨(trivial), trivial⟩, ?_⟩
  refine List.forall_mem_cons.mpr ⟨⟨(mj_lkP (by decide) rfl (by decide) mj_inU5 mjf_5_59 mj_TyOk5 mj_Nm5 (Or.inl rfl) rfl), trivial⟩, ?_⟩
  refine List.forall_mem_cons.mpr ⟨⟨(trivial), trivial⟩, ?_⟩
  refine List.forall_mem_cons.mpr ⟨⟨(trivial), trivial⟩, ?_⟩
  refine List.forall_mem_cons.mpr ⟨⟨(mj_lkP (by decide) rfl (by decide) mj_inU5 mjf_5_62 mj_TyOk5 mj_Nm5 (Or.inl rfl) rfl), trivial⟩, ?_⟩
  refine List.forall_mem_cons.mpr ⟨⟨(trivial), trivial⟩, ?_⟩
  refine List.forall_mem_cons.mpr ⟨⟨(trivial), trivial⟩, ?_⟩
  refine List.forall_mem_cons.mpr ⟨⟨(mj_lkP (by decide) rfl (by decide) mj_inU5 mjf_5_65 mj_TyOk5 mj_Nm5 (Or.inl rfl) rfl), trivial⟩, ?_⟩
  refine List.forall_mem_cons.mpr ⟨⟨(trivial), trivial⟩, ?_⟩
  refine List.forall_mem_cons.mpr ⟨⟨(trivial), trivial⟩, ?_⟩
  refine List.forall_mem_cons.mpr ⟨⟨(mj_lkP (by decide) rfl (by decide) mj_inU5 mjf_5_68 mj_TyOk5 mj_Nm5 (Or.inl rfl) rfl), trivial⟩, ?_⟩
  refine List.forall_mem_cons.mpr ⟨⟨(trivial), trivial⟩, ?_⟩
  refine List.forall_mem_cons.mpr ⟨⟨(mj_lkG (by decide) rfl (by decide) mj_inU5 mjf_5_24), trivial⟩, ?_⟩
  refine List.forall_mem_cons.mpr ⟨⟨(trivial), trivial⟩, ?_⟩
  refine List.forall_mem_cons.mpr ⟨⟨(mj_lkP (by decide) rfl (by decide) mj_inU7 mjf_5_71 mj_TyOk7 mj_Nm7 (Or.inl rfl) rfl), trivial⟩, ?_⟩
  refine List.forall_mem_cons.mpr ⟨⟨(trivial), trivial⟩, ?_⟩
  refine List.forall_mem_cons.mpr ⟨⟨(mj_lkG (by decide) rfl (by decide) mj_inU5 mjf_5_17), trivial⟩, ?_⟩
  refine List.forall_mem_cons.mpr ⟨⟨(trivial), trivial⟩, ?_⟩
  refine List.forall_mem_cons.mpr ⟨⟨(trivial), mj_ckOf mjK_36 (by decide) (mj_lnkG mjl_5_74)⟩, ?_⟩
  refine List.forall_mem_cons.mpr ⟨⟨(trivial), trivial⟩, ?_⟩
  refine List.forall_mem_cons.mpr ⟨⟨(show (2 : Nat) < mj_maxL 53 by decide), trivial⟩, ?_⟩
  refine List.forall_mem_cons.mpr ⟨⟨(trivial), trivial⟩, ?_⟩
  refine List.forall_mem_cons.mpr ⟨⟨(trivial), trivial⟩, ?_⟩
  refine List.forall_mem_cons.mpr ⟨⟨(show (0 : Int) ≤ ((65 : Nat) : Int) + 18 by decide), trivial⟩, ?_⟩
  refine List.forall_mem_cons.mpr ⟨⟨(trivial), trivial⟩, ?_⟩
  refine List.forall_mem_cons.mpr ⟨⟨(mj_lkG (by decide) rfl (by decide) mj_inU5 mjf_5_30), trivial⟩, ?_⟩
  refine List.forall_mem_cons.mpr ⟨⟨(trivial), trivial⟩, ?_⟩
  refine List.forall_mem_cons.mpr ⟨⟨(trivial), trivial⟩, ?_⟩
  refine List.forall_mem_cons.mpr ⟨⟨(trivial), mj_ckOf mjK_54 (by decide) (mj_lnkG mjl_5_80)⟩, ?_⟩
  refine List.forall_mem_cons.mpr ⟨⟨(show (2 : Nat) < mj_maxL 53 by decide), trivial⟩, ?_⟩
  refine List.forall_mem_cons.mpr ⟨⟨(show (0 : Int) ≤ ((80 : Nat) : Int) + (-17) by decide), trivial⟩, ?_⟩
  refine List.forall_mem_cons.mpr ⟨⟨(trivial), trivial⟩, ?_⟩
  refine List.forall_mem_cons.mpr ⟨⟨(show (2 : Nat) < mj_maxL 53 by decide), trivial⟩, ?_⟩
  refine List.forall_mem_cons.mpr ⟨⟨(trivial), trivial⟩, ?_⟩
  refine List.forall_mem_cons.mpr ⟨⟨(trivial), trivial⟩, ?_⟩
  refine List.forall_mem_cons.mpr ⟨⟨(show (0 : Int) ≤ ((87 : Nat) : Int) + 18 by decide), trivial⟩, ?_⟩
  refine List.forall_mem_cons.mpr ⟨⟨(trivial), trivial⟩, ?_⟩
  refine List.forall_mem_cons.mpr ⟨⟨(mj_lkG (by decide) rfl (by decide) mj_inU5 mjf_5_11), trivial⟩, ?_⟩
  refine List.forall_mem_cons.mpr ⟨⟨(trivial), trivial⟩, ?_⟩
  refine List.forall_mem_cons.mpr ⟨⟨(trivial), trivial⟩, ?_⟩
  refine List.forall_mem_cons.mpr ⟨⟨(trivial), mj_ckOf mjK_55 (by decide) (mj_lnkG mjl_5_83)⟩, ?_⟩
  refine List.forall_mem_cons.mpr ⟨⟨(show (2 : Nat) < mj_maxL 53 by decide), trivial⟩, ?_⟩
  refine List.forall_mem_cons.mpr ⟨⟨(show (0 : Int) ≤ ((102 : Nat) : Int) + (-17) by decide), trivial⟩, ?_⟩
  refine List.forall_mem_cons.mpr ⟨⟨(trivial), trivial⟩, ?_⟩
  exact fun _ h => absurd h List.not_mem_nil
theorem mjd_53 : mj_ckd 53 = true := by decide +kernel
theorem mjg_53 : mj_good 53 := mj_goodOf (fun _ => ⟨mj_G, rfl⟩) (by decide +kernel) mjd_53 mje_53
theorem mje_54 : ∀ e ∈ mj_tb54, mj_lk 54 e.1 e.2.1 e.2.2.1 e.2.2.2 ∧ mj_cok 54 e.2.1 e.2.2.1 e.2.2.2 := by
  unfold mj_tb54
  refine List.forall_mem_cons.mpr ⟨⟨(trivial), trivial⟩, ?_⟩
  refine List.forall_mem_cons.mpr ⟨⟨(trivial), trivial⟩, ?_⟩
  refine List.forall_mem_cons.mpr ⟨⟨(mj_lkP (by decide) rfl (by decide) mj_inU9 mjf_9_15 mj_TyOk9 mj_Nm9 (Or.inl rfl) rfl), trivial⟩, ?_⟩
  refine List.forall_mem_cons.mpr ⟨⟨(trivial), trivial⟩, ?_⟩
  exact fun _ h => absurd h List.not_mem_nil
theorem mjd_54 : mj_ckd 54 = true := by decide +kernel
theorem mjg_54 : mj_good 54 := mj_goodOf (fun _ => ⟨mj_G, rfl⟩) (by decide +kernel) mjd_54 mje_54
theorem mje_55 : ∀ e ∈ mj_tb55, mj_lk 55 e.1 e.2.1 e.2.2.1 e.2.2.2 ∧ mj_cok 55 e.2.1 e.2.2.1 e.2.2.2 := by
  unfold mj_tb55
  refine List.forall_mem_cons.mpr ⟨⟨(trivial), trivial⟩, ?_⟩
  refine List.forall_mem_cons.mpr ⟨⟨(mj_lkG (by decide) rfl (by decide) mj_inU8 mjf_8_30), trivial⟩, ?_⟩
  refine List.forall_mem_cons.mpr ⟨⟨(trivial), trivial⟩, ?_⟩
  refine List.forall_mem_cons.mpr ⟨⟨(mj_lkP (by decide) rfl (by decide) mj_inU6 mjf_8_34 mj_TyOk6 mj_Nm6 (Or.inl rfl) rfl), trivial⟩, ?_⟩
  refine List.forall_mem_cons.mpr ⟨⟨(trivial), trivial⟩, ?_⟩
  refine List.forall_mem_cons.mpr ⟨⟨(mj_lkG (by decide) rfl (by decide) mj_inU8 mjf_8_9), trivial⟩, ?_⟩
  refine List.forall_mem_cons.mpr ⟨⟨(trivial), trivial⟩, ?_⟩
  refine List.forall_mem_cons.mpr ⟨⟨(trivial), mj_ckOf mjK_36 (by decide) (mj_lnkG mjl_8_38)⟩, ?_⟩
  refine List.forall_mem_cons.mpr ⟨⟨(trivial), trivial⟩, ?_⟩
  refine List.forall_mem_cons.mpr ⟨⟨(trivial), trivial⟩, ?_⟩
  refine List.forall_mem_cons.mpr ⟨⟨(mj_lkP (by decide) rfl (by decide) mj_inU8 mjf_8_44 mj_TyOk8 mj_Nm8 (Or.inl rfl) rfl), trivial⟩, ?_⟩
  refine List.forall_mem_cons.mpr ⟨⟨(trivial), trivial⟩, ?_⟩
  refine List.forall_mem_cons.mpr ⟨⟨(trivial), trivial⟩, ?_⟩
  refine List.forall_mem_cons.mpr ⟨⟨(mj_lkG (by decide) rfl (by decide) mj_inU8 mjf_8_15), trivial⟩, ?_⟩
  refine List.forall_mem_cons.mpr ⟨⟨(trivial), mj_ckOf mjK_56 (by decide) (mj_lnkG mjl_8_48)⟩, ?_⟩
  refine List.forall_mem_cons.mpr ⟨⟨(show (0 : Int) ≤ ((29 : Nat) : Int) + 13 by decide), trivial⟩, ?_⟩
  refine List.forall_mem_cons.mpr ⟨⟨(trivial), trivial⟩, ?_⟩
  refine List.forall_mem_cons.mpr ⟨⟨(mj_lkG (by decide) rfl (by decide) mj_inU8 mjf_8_15), trivial⟩, ?_⟩
  refine List.forall_mem_cons.mpr ⟨⟨(mj_lkG (by decide) rfl (by decide) mj_inU3 mjf_8_52), trivial⟩, ?_⟩
  refine List.forall_mem_cons.mpr ⟨⟨(show (0 : Int) ≤ ((39 : Nat) : Int) + 4 by decide), trivial⟩, ?_⟩
  refine List.forall_mem_cons.mpr ⟨⟨(trivial), trivial⟩, ?_⟩
  refine List.forall_mem_cons.mpr ⟨⟨(mj_lkP (by decide) rfl (by decide) mj_inU8 mjf_8_55 mj_TyOk8 mj_Nm8 (Or.inl rfl) rfl), trivial⟩, ?_⟩
  refine List.forall_mem_cons.mpr ⟨⟨(trivial), trivial⟩, ?_⟩
  refine List.forall_mem_cons.mpr ⟨⟨(trivial), trivial⟩, ?_⟩
  refine List.forall_mem_cons.mpr ⟨⟨(mj_lkP (by decide) rfl (by decide) mj_inU8 mjf_8_58 mj_TyOk8 mj_Nm8 (Or.inl rfl) rfl), trivial⟩, ?_⟩
  refine List.forall_mem_cons.mpr ⟨⟨(trivial), trivial⟩, ?_⟩
  exact fun _ h => absurd h List.not_mem_nil
theorem mjd_55 : mj_ckd 55 = true := by decide +kernel
theorem mjg_55 : mj_good 55 := mj_goodOf (fun _ => ⟨mj_G, rfl⟩) (by decide +kernel) mjd_55 mje_55
theorem mje_56 : ∀ e ∈ mj_tb56, mj_lk 56 e.1 e.2.1 e.2.2.1 e.2.2.2 ∧ mj_cok 56 e.2.1 e.2.2.1 e.2.2.2 := by
  unfold mj_tb56
  refine List.forall_mem_cons.mpr ⟨⟨(trivial), trivial⟩, ?_⟩
  refine List.forall_mem_cons.mpr ⟨⟨(mj_lkG (by decide) rfl (by decide) mj_inU3 mjf_3_25), trivial⟩, ?_⟩
  refine List.forall_mem_cons.mpr ⟨⟨(trivial), trivial⟩, ?_⟩
  refine List.forall_mem_cons.mpr ⟨⟨(show (0 : Int) ≤ ((5 : Nat) : Int) + 7 by decide), trivial⟩, ?_⟩
  refine List.forall_mem_cons.mpr ⟨⟨(trivial), trivial⟩, ?_⟩
  refine List.forall_mem_cons.mpr ⟨⟨(show (0 : Int) ≤ ((9 : Nat) : Int) + 4 by decide), trivial⟩, ?_⟩
  refine List.forall_mem_cons.mpr ⟨⟨(trivial), trivial⟩, ?_⟩
  refine List.forall_mem_cons.mpr ⟨⟨(trivial), trivial⟩, ?_⟩
  exact fun _ h => absurd h List.not_mem_nil
theorem mjd_56 : mj_ckd 56 = true := by decide +kernel
theorem mjg_56 : mj_good 56 := mj_goodOf (fun _ => ⟨mj_G, rfl⟩) (by decide +kernel) mjd_56 mje_56
theorem mje_57 : ∀ e ∈ mj_tb57, mj_lk 57 e.1 e.2.1 e.2.2.1 e.2.2.2 ∧ mj_cok 57 e.2.1 e.2.2.1 e.2.2.2 := by
  unfold mj_tb57
  refine List.forall_mem_cons.mpr ⟨⟨(trivial), trivial⟩, ?_⟩
  refine List.forall_mem_cons.mpr ⟨⟨(mj_lkG (by decide) rfl (by decide) mj_inU0 mjf_0_35), trivial⟩, ?_⟩
  refine List.forall_mem_cons.mpr ⟨⟨(mj_lkG (by decide) rfl (by decide) mj_inU5 mjf_0_43), trivial⟩, ?_⟩
  refine List.forall_mem_cons.mpr ⟨⟨(show (0 : Int) ≤ ((7 : Nat) : Int) + 5 by decide), trivial⟩, ?_⟩
  refine List.forall_mem_cons.mpr ⟨⟨(trivial), trivial⟩, ?_⟩
  refine List.forall_mem_cons.mpr ⟨⟨(trivial), trivial⟩, ?_⟩
  refine List.forall_mem_cons.mpr ⟨⟨(trivial), trivial⟩, ?_⟩
  refine List.forall_mem_cons.mpr ⟨⟨(mj_lkG (by decide) rfl (by decide) mj_inU0 mjf_0_35), trivial⟩, ?_⟩
  refine List.forall_mem_cons.mpr ⟨⟨(trivial), trivial⟩, ?_⟩
  refine List.forall_mem_cons.mpr ⟨⟨(mj_lkP (by decide) rfl (by decide) mj_inU5 mjf_0_43 mj_TyOk5 mj_Nm5 (Or.inl rfl) rfl), trivial⟩, ?_⟩
  refine List.forall_mem_cons.mpr ⟨⟨(trivial), trivial⟩, ?_⟩
  refine List.forall_mem_cons.mpr ⟨⟨(trivial), trivial⟩, ?_⟩
  exact fun _ h => absurd h List.not_mem_nil
theorem mjd_57 : mj_ckd 57 = true := by decide +kernel
theorem mjg_57 : mj_good 57 := mj_goodOf (fun _ => ⟨mj_G, rfl⟩) (by decide +kernel) mjd_57 mje_57
theorem mje_58 : ∀ e ∈ mj_tb58, mj_lk 58 e.1 e.2.1 e.2.2.1 e.2.2.2 ∧ mj_cok 58 e.2.1 e.2.2.1 e.2.2.2 := by
  unfold mj_tb58
  refine List.forall_mem_cons.mpr ⟨⟨(trivial), trivial⟩, ?_⟩
  refine List.forall_mem_cons.mpr ⟨⟨(trivial), trivial⟩, ?_⟩
  refine List.forall_mem_cons.mpr ⟨⟨(trivial), mj_ckOf mjK_59 (by decide) (mj_lnkG mjl_0_116)⟩, ?_⟩
  refine List.forall_mem_cons.mpr ⟨⟨(show (0 : Int) ≤ ((5 : Nat) : Int) + 22 by decide), trivial⟩, ?_⟩
  refine List.forall_mem_cons.mpr ⟨⟨(trivial), trivial⟩, ?_⟩
  refine List.forall_mem_cons.mpr ⟨⟨(mj_lkG (by decide) rfl (by decide) mj_inU0 mjf_0_35), trivial⟩, ?_⟩
  refine List.forall_mem_cons.mpr ⟨⟨(mj_lkG (by decide) rfl (by decide) mj_inU5 mjf_0_119), trivial⟩, ?_⟩
  refine List.forall_mem_cons.mpr ⟨⟨(trivial), trivial⟩, ?_⟩
  refine List.forall_mem_cons.mpr ⟨⟨(trivial), trivial⟩, ?_⟩
  refine List.forall_mem_cons.mpr ⟨⟨(trivial), mj_ckOf mjK_60 (by decide) (mj_lnkG mjl_0_123)⟩, ?_⟩
  refine List.forall_mem_cons.mpr ⟨⟨(show (0 : Int) ≤ ((20 : Nat) : Int) + 7 by decide), trivial⟩, ?_⟩
  refine List.forall_mem_cons.mpr ⟨⟨(trivial), trivial⟩, ?_⟩
  refine List.forall_mem_cons.mpr ⟨⟨(show (0 : Int) ≤ ((24 : Nat) : Int) + 4 by decide), trivial⟩, ?_⟩
  refine List.forall_mem_cons.mpr ⟨⟨(trivial), trivial⟩, ?_⟩
  refine List.forall_mem_cons.mpr ⟨⟨(trivial), trivial⟩, ?_⟩
  exact fun _ h => absurd h List.not_mem_nil
theorem mjd_58 : mj_ckd 58 = true := by decide +kernel
theorem mjg_58 : mj_good 58 := mj_goodOf (fun _ => ⟨mj_G, rfl⟩) (by decide +kernel) mjd_58 mje_58
theorem mje_59 : ∀ e ∈ mj_tb59, mj_lk 59 e.1 e.2.1 e.2.2.1 e.2.2.2 ∧ mj_cok 59 e.2.1 e.2.2.1 e.2.2.2 := by
  unfold mj_tb59
  refine List.forall_mem_cons.mpr ⟨⟨(trivial), trivial⟩, ?_⟩
  refine List.forall_mem_cons.mpr ⟨⟨(mj_lkG (by decide) rfl (by decide) mj_inU0 mjf_0_35), trivial⟩, ?_⟩
  refine List.forall_mem_cons.mpr ⟨⟨(mj_lkG (by decide) rfl (by decide) mj_inU5 mjf_0_43), trivial⟩, ?_⟩
  refine List.forall_mem_cons.mpr ⟨⟨(show (0 : Int) ≤ ((7 : Nat) : Int) + 15 by decide), trivial⟩, ?_⟩
  refine List.forall_mem_cons.mpr ⟨⟨(trivial), trivial⟩, ?_⟩
  refine List.forall_mem_cons.mpr ⟨⟨(trivial), trivial⟩, ?_⟩
  refine List.forall_mem_cons.mpr ⟨⟨(trivial), mj_ckOf mjK_14 (by decide) (mj_lnkG mjl_0_58)⟩, ?_⟩
  refine List.forall_mem_cons.mpr ⟨⟨(show (0 : Int) ≤ ((15 : Nat) : Int) + 7 by decide), trivial⟩, ?_⟩
  refine List.forall_mem_cons.mpr ⟨⟨(trivial), trivial⟩, ?_⟩
  refine List.forall_mem_cons.mpr ⟨⟨(show (0 : Int) ≤ ((19 : Nat) : Int) + 4 by decide), trivial⟩, ?_⟩
  refine List.forall_mem_cons.mpr ⟨⟨(trivial), trivial⟩, ?_⟩
  refine List.forall_mem_cons.mpr ⟨⟨(trivial), trivial⟩, ?_⟩
  exact fun _ h => absurd h List.not_mem_nil
theorem mjd_59 : mj_ckd 59 = true := by decide +kernel
theorem mjg_59 : mj_good 59 := mj_goodOf (fun _ => ⟨mj_G, rfl⟩) (by decide +kernel) mjd_59 mje_59
theorem mje_60 : ∀ e ∈ mj_tb60, mj_lk 60 e.1 e.2.1 e.2.2.1 e.2.2.2 ∧ mj_cok 60 e.2.1 e.2.2.1 e.2.2.2 := by
  unfold mj_tb60
  refine List.forall_mem_cons.mpr ⟨⟨(trivial), trivial⟩, ?_⟩
  refine List.forall_mem_cons.mpr ⟨⟨(mj_lkG (by decide) rfl (by decide) mj_inU8 mjf_8_15), trivial⟩, ?_⟩
  refine List.forall_mem_cons.mpr ⟨⟨(trivial), mj_ckOf mjK_56 (by decide) (mj_lnkG mjl_8_48)⟩, ?_⟩
  refine List.forall_mem_cons.mpr ⟨⟨(show (0 : Int) ≤ ((7 : Nat) : Int) + 11 by decide), trivial⟩, ?_⟩
  refine List.forall_mem_cons.mpr ⟨⟨(trivial), trivial⟩, ?_⟩
  refine List.forall_mem_cons.mpr ⟨⟨(mj_lkG (by decide) rfl (by decide) mj_inU8 mjf_8_58), trivial⟩, ?_⟩
  refine List.forall_mem_cons.mpr ⟨⟨(trivial), trivial⟩, ?_⟩
  refine List.forall_mem_cons.mpr ⟨⟨(show (0 : Int) ≤ ((15 : Nat) : Int) + 5 by decide), trivial⟩, ?_⟩
  refine List.forall_mem_cons.mpr ⟨⟨(trivial), trivial⟩, ?_⟩
  refine List.forall_mem_cons.mpr ⟨⟨(trivial), trivial⟩, ?_⟩
  refine List.forall_mem_cons.mpr ⟨⟨(trivial), trivial⟩, ?_⟩
  refine List.forall_mem_cons.mpr ⟨⟨(trivial), trivial⟩, ?_⟩
  refine List.forall_mem_cons.mpr ⟨⟨(mj_lkG (by decide) rfl (by decide) mj_inU8 mjf_8_58), trivial⟩, ?_⟩
  refine List.forall_mem_cons.mpr ⟨⟨(trivial), trivial⟩, ?_⟩
  refine List.forall_mem_cons.mpr ⟨⟨(trivial), trivial⟩, ?_⟩
  refine List.forall_mem_cons.mpr ⟨⟨(mj_lkP (by decide) rfl (by decide) mj_inU8 mjf_8_58 mj_TyOk8 mj_Nm8 (Or.inl rfl) rfl), trivial⟩, ?_⟩
  refine List.forall_mem_cons.mpr ⟨⟨(trivial), trivial⟩, ?_⟩
  refine List.forall_mem_cons.mpr ⟨⟨(trivial), trivial⟩, ?_⟩
  exact fun _ h => absurd h List.not_mem_nil
theorem mjd_60 : mj_ckd 60 = true := by decide +kernel
theorem mjg_60 : mj_good 60 := mj_goodOf (fun _ => ⟨mj_G, rfl⟩) (by decide +kernel) mjd_60 mje_60
theorem mje_61 : ∀ e ∈ mj_tb61, mj_lk 61 e.1 e.2.1 e.2.2.1 e.2.2.2 ∧ mj_cok 61 e.2.1 e.2.2.1 e.2.2.2 := by
  unfold mj_tb61
  refine List.forall_mem_cons.mpr ⟨⟨(trivial), trivial⟩, ?_⟩
  refine List.forall_mem_cons.mpr ⟨⟨(mj_lkG (by decide) rfl (by decide) mj_inU0 mjf_0_35), trivial⟩, ?_⟩
  refine List.forall_mem_cons.mpr ⟨⟨(mj_lkG (by decide) rfl (by decide) mj_inU5 mjf_0_43), trivial⟩, ?_⟩
  refine List.forall_mem_cons.mpr ⟨⟨(show (0 : Int) ≤ ((7 : Nat) : Int) + 11 by decide), trivial⟩, ?_⟩
  refine List.forall_mem_cons.mpr ⟨⟨(trivial), trivial⟩, ?_⟩
  refine List.forall_mem_cons.mpr ⟨⟨(trivial), trivial⟩, ?_⟩
  refine List.forall_mem_cons.mpr ⟨⟨(trivial), mj_ckOf mjK_15 (by decide) (mj_lnkG mjl_0_62)⟩, ?_⟩
  refine List.forall_mem_cons.mpr ⟨⟨(show (0 : Int) ≤ ((15 : Nat) : Int) + 5 by decide), trivial⟩, ?_⟩
  refine List.forall_mem_cons.mpr ⟨⟨(trivial), trivial⟩, ?_⟩
  refine List.forall_mem_cons.mpr ⟨⟨(trivial), trivial⟩, ?_⟩
  refine List.forall_mem_cons.mpr ⟨⟨(trivial), trivial⟩, ?_⟩
  refine List.forall_mem_cons.mpr ⟨⟨(mj_lkG (by decide) rfl (by decide) mj_inU0 mjf_0_35), trivial⟩, ?_⟩
  refine List.forall_mem_cons.mpr ⟨⟨(mj_lkG (by decide) rfl (by decide) mj_inU5 mjf_0_129), trivial⟩, ?_⟩
  refine List.forall_mem_cons.mpr ⟨⟨(trivial), trivial⟩, ?_⟩
  refine List.forall_mem_cons.mpr ⟨⟨(trivial), trivial⟩, ?_⟩
  refine List.forall_mem_cons.mpr ⟨⟨(trivial), trivial⟩, ?_⟩
  refine List.forall_mem_cons.mpr ⟨⟨(trivial), trivial⟩, ?_⟩
  refine List.forall_mem_cons.mpr ⟨⟨(trivial), trivial⟩, ?_⟩
  exact fun _ h => absurd h List.not_mem_nil
theorem mjd_61 : mj_ckd 61 = true := by decide +kernel
theorem mjg_61 : mj_good 61 := mj_goodOf (fun _ => ⟨mj_G, rfl⟩) (by decide +kernel) mjd_61 mje_61
theorem mje_62 : ∀ e ∈ mj_tb62, mj_lk 62 e.1 e.2.1 e.2.2.1 e.2.2.2 ∧ mj_cok 62 e.2.1 e.2.2.1 e.2.2.2 := by
  unfold mj_tb62
  refine List.forall_mem_cons.mpr ⟨⟨(trivial), trivial⟩, ?_⟩
  refine List.forall_mem_cons.mpr ⟨⟨(mj_lkG (by decide) rfl (by decide) mj_inU0 mjf_0_35), trivial⟩, ?_⟩
  refine List.forall_mem_cons.mpr ⟨⟨(mj_lkG (by decide) rfl (by decide) mj_inU5 mjf_0_43), trivial⟩, ?_⟩
  refine List.forall_mem_cons.mpr ⟨⟨(show (0 : Int) ≤ ((7 : Nat) : Int) + 25 by decide), trivial⟩, ?_⟩
  refine List.forall_mem_cons.mpr ⟨⟨(trivial), trivial⟩, ?_⟩
  refine List.forall_mem_cons.mpr ⟨⟨(trivial), trivial⟩, ?_⟩
  refine List.forall_mem_cons.mpr ⟨⟨(trivial), trivial⟩, ?_⟩
  refine List.forall_mem_cons.mpr ⟨⟨(trivial), mj_ckOf mjK_11 (by decide) (mj_lnkG mjl_0_39)⟩, ?_⟩
  refine List.forall_mem_cons.mpr ⟨⟨(show (0 : Int) ≤ ((18 : Nat) : Int) + 14 by decide), trivial⟩, ?_⟩
  refine List.forall_mem_cons.mpr ⟨⟨(trivial), trivial⟩, ?_⟩
  refine List.forall_mem_cons.mpr ⟨⟨(mj_lkG (by decide) rfl (by decide) mj_inU0 mjf_0_35), trivial⟩, ?_⟩
  refine List.forall_mem_cons.mpr ⟨⟨(trivial), trivial⟩, ?_⟩
  refine List.forall_mem_cons.mpr ⟨⟨(trivial), mj_ckOf mjK_63 (by decide) (mj_lnkG mjl_0_132)⟩, ?_⟩
  refine List.forall_mem_cons.mpr ⟨⟨(show (0 : Int) ≤ ((29 : Nat) : Int) + 4 by decide), trivial⟩, ?_⟩
  refine List.forall_mem_cons.mpr ⟨⟨(trivial), trivial⟩, ?_⟩
  refine List.forall_mem_cons.mpr ⟨⟨(trivial), trivial⟩, ?_⟩
  exact fun _ h => absurd h List.not_mem_nil
theorem mjd_62 : mj_ckd 62 = true := by decide +kernel
theorem mjg_62 : mj_good 62 := mj_goodOf (fun _ => ⟨mj_G, rfl⟩) (by decide +kernel) mjd_62 mje_62
theorem mje_63 : ∀ e ∈ mj_tb63, mj_lk 63 e.1 e.2.1 e.2.2.1 e.2.2.2 ∧ mj_cok 63 e.2.1 e.2.2.1 e.2.2.2 := by
  unfold mj_tb63
  refine List.forall_mem_cons.mpr ⟨⟨(trivial), trivial⟩, ?_⟩
  refine List.forall_mem_cons.mpr ⟨⟨(mj_lkG (by decide) rfl (by decide) mj_inU5 mjf_5_24), trivial⟩, ?_⟩
  refine List.forall_mem_cons.mpr ⟨⟨(mj_lkG (by decide) rfl (by decide) mj_inU7 mjf_5_71), trivial⟩, ?_⟩
  refine List.forall_mem_cons.mpr ⟨⟨(show (2 : Nat) < mj_maxL 63 by decide), trivial⟩, ?_⟩
  refine List.forall_mem_cons.mpr ⟨⟨(trivial), trivial⟩, ?_⟩
  refine List.forall_mem_cons.mpr ⟨⟨(show (3 : Nat) < mj_maxL 63 by decide), trivial⟩, ?_⟩
  refine List.forall_mem_cons.mpr ⟨⟨(trivial), trivial⟩, ?_⟩
  refine List.forall_mem_cons.mpr ⟨⟨(trivial), trivial⟩, ?_⟩
  refine List.forall_mem_cons.mpr ⟨⟨(show (0 : Int) ≤ ((12 : Nat) : Int) + 60 by decide), trivial⟩, ?_⟩
  refine List.forall_mem_cons.mpr ⟨⟨(trivial), trivial⟩, ?_⟩
  refine List.forall_mem_cons.mpr ⟨⟨(trivial), mj_ckOf mjK_64 (by decide) (mj_lnkG mjl_5_86)⟩, ?_⟩
  refine List.forall_mem_cons.mpr ⟨⟨(trivial), trivial⟩, ?_⟩
  refine List.forall_mem_cons.mpr ⟨⟨(trivial), trivial⟩, ?_⟩
  refine List.forall_mem_cons.mpr ⟨⟨(trivial), mj_ckOf mjK_70 (by decide) (mj_lnkG mjl_5_89)⟩, ?_⟩
  refine List.forall_mem_cons.mpr ⟨⟨(mj_lkP (by decide) rfl (by decide) mj_inU5 mjf_5_56 mj_TyOk5 mj_Nm5 (Or.inl rfl) rfl), trivial⟩, ?_⟩
  refine List.forall_mem_cons.mpr ⟨⟨(trivial), trivial⟩, ?_⟩
  refine List.forall_mem_cons.mpr ⟨⟨(trivial), trivial⟩, ?_⟩
  refine List.forall_mem_cons.mpr ⟨⟨(mj_lkG (by decide) rfl (by decide) mj_inU5 mjf_5_50), trivial⟩, ?_⟩
  refine List.forall_mem_cons.mpr ⟨⟨(trivial), trivial⟩, ?_⟩
  refine List.forall_mem_cons.mpr ⟨⟨(trivial), trivial⟩, ?_⟩
  refine List.forall_mem_cons.mpr ⟨⟨(mj_lkP (by decide) rfl (by decide) mj_inU5 mjf_5_50 mj_TyOk5 mj_Nm5 (Or.inl rfl) rfl), trivial⟩, ?_⟩
  refine List.forall_mem_cons.mpr ⟨⟨(trivial), trivial⟩, ?_⟩
  refine List.forall_mem_cons.mpr ⟨⟨(mj_lkG (by decide) rfl (by decide) mj_inU5 mjf_5_56), trivial⟩, ?_⟩
  refine List.forall_mem_cons.mpr ⟨⟨(trivial), trivial⟩, ?_⟩
  refine List.forall_mem_cons.mpr ⟨⟨(show (0 : Int) ≤ ((42 : Nat) : Int) + 16 by decide), trivial⟩, ?_⟩
  refine List.forall_mem_cons.mpr ⟨⟨(trivial), trivial⟩, ?_⟩
  refine List.forall_mem_cons.mpr ⟨⟨(trivial), trivial⟩, ?_⟩
  refine List.forall_mem_cons.mpr ⟨⟨(mj_lkG (by decide) rfl (by decide) mj_inU5 mjf_5_68), trivial⟩, ?_⟩
  refine List.forall_mem_cons.mpr ⟨⟨(trivial), trivial⟩, ?_⟩
  refine List.forall_mem_cons.mpr ⟨⟨(trivial), trivial⟩, ?_⟩
  refine List.forall_mem_cons.mpr ⟨⟨(mj_lkP (by decide) rfl (by decide) mj_inU5 mjf_5_68 mj_TyOk5 mj_Nm5 (Or.inl rfl) rfl), trivial⟩, ?_⟩
  refine List.forall_mem_cons.mpr ⟨⟨(show (0 : Int) ≤ ((55 : Nat) : Int) + 11 by decide), trivial⟩, ?_⟩
  refine List.forall_mem_cons.mpr ⟨⟨(trivial), trivial⟩, ?_⟩
  refine List.forall_mem_cons.mpr ⟨⟨(trivial), trivial⟩, ?_⟩
  refine List.forall_mem_cons.mpr ⟨⟨(mj_lkG (by decide) rfl (by decide) mj_inU5 mjf_5_56), trivial⟩, ?_⟩
  refine List.forall_mem_cons.mpr ⟨⟨(trivial), mj_ckOf mjK_72 (by decide) (mj_lnkG mjl_5_93)⟩, ?_⟩
  refine List.forall_mem_cons.mpr ⟨⟨(show (3 : Nat) < mj_maxL 63 by decide), trivial⟩, ?_⟩
  refine List.forall_mem_cons.mpr ⟨⟨(show (0 : Int) ≤ ((69 : Nat) : Int) + (-59) by decide), trivial⟩, ?_⟩
  refine List.forall_mem_cons.mpr ⟨⟨(trivial), trivial⟩, ?_⟩
  refine List.forall_mem_cons.mpr ⟨⟨(mj_lkG (by decide) rfl (by decide) mj_inU5 mjf_5_24), trivial⟩, ?_⟩
  refine List.forall_mem_cons.mpr ⟨⟨(mj_lkG (by decide) rfl (by decide) mj_inU7 mjf_5_71), trivial⟩, ?_⟩
  refine List.forall_mem_cons.mpr ⟨⟨(trivial), trivial⟩, ?_⟩
  refine List.forall_mem_cons.mpr ⟨⟨(trivial), trivial⟩, ?_⟩
  refine List.forall_mem_cons.mpr ⟨⟨(trivial), trivial⟩, ?_⟩
  exact fun _ h => absurd h List.not_mem_nil
theorem mjd_63 : mj_ckd 63 = true := by decide +kernel
theorem mjg_63 : mj_good 63 := mj_goodOf (fun _ => ⟨mj_G, rfl⟩) (by decide +kernel) mjd_63 mje_63
theorem mje_64 : ∀ e ∈ mj_tb64, mj_lk 64 e.1 e.2.1 e.2.2.1 e.2.2.2 ∧ mj_cok 64 e.2.1 e.2.2.1 e.2.2.2 := by
  unfold mj_tb64
  refine List.forall_mem_cons.mpr ⟨⟨(trivial), trivial⟩, ?_⟩
  refine List.forall_mem_cons.mpr ⟨⟨(show (1 : Nat) < mj_maxL 64 by decide), trivial⟩, ?_⟩
  refine List.forall_mem_cons.mpr ⟨⟨(trivial), trivial⟩, ?_⟩
  refine List.forall_mem_cons.mpr ⟨⟨(trivial), trivial⟩, ?_⟩
  refine List.forall_mem_cons.mpr ⟨⟨(mj_lkG (by decide) rfl (by decide) mj_inU5 mjf_5_46), trivial⟩, ?_⟩
  refine List.forall_mem_cons.mpr ⟨⟨(show (0 : Int) ≤ ((7 : Nat) : Int) + 52 by decide), trivial⟩, ?_⟩
  refine List.forall_mem_cons.mpr ⟨⟨(trivial), trivial⟩, ?_⟩
  refine List.forall_mem_cons.mpr ⟨⟨(mj_lkG (by decide) rfl (by decide) mj_inU5 mjf_5_11), trivial⟩, ?_⟩
  refine List.forall_mem_cons.mpr ⟨⟨(trivial), trivial⟩, ?_⟩
  refine List.forall_mem_cons.mpr ⟨⟨(trivial), trivial⟩, ?_⟩
  refine List.forall_mem_cons.mpr ⟨⟨(trivial), trivial⟩, ?_⟩
  refine List.forall_mem_cons.mpr ⟨⟨(mj_lkG (by decide) rfl (by decide) mj_inU5 mjf_5_50), trivial⟩, ?_⟩
  refine List.forall_mem_cons.mpr ⟨⟨(trivial), mj_ckOf mjK_65 (by decide) (mj_lnkG mjl_5_97)⟩, ?_⟩
  refine List.forall_mem_cons.mpr ⟨⟨(show (0 : Int) ≤ ((23 : Nat) : Int) + 30 by decide), trivial⟩, ?_⟩
  refine List.forall_mem_cons.mpr ⟨⟨(trivial), trivial⟩, ?_⟩
  refine List.forall_mem_cons.mpr ⟨⟨(mj_lkG (by decide) rfl (by decide) mj_inU5 mjf_5_11), trivial⟩, ?_⟩
  refine List.forall_mem_cons.mpr ⟨⟨(trivial), trivial⟩, ?_⟩
  refine List.forall_mem_cons.mpr ⟨⟨(trivial), trivial⟩, ?_⟩
  refine List.forall_mem_cons.mpr ⟨⟨(trivial), trivial⟩, ?_⟩
  refine List.forall_mem_cons.mpr ⟨⟨(mj_lkG (by decide) rfl (by decide) mj_inU5 mjf_5_50), trivial⟩, ?_⟩
  refine List.forall_mem_cons.mpr ⟨⟨(trivial), mj_ckOf mjK_66 (by decide) (mj_lnkG mjl_5_101)⟩, ?_⟩
  refine List.forall_mem_cons.mpr ⟨⟨(trivial), trivial⟩, ?_⟩
  refine List.forall_mem_cons.mpr ⟨⟨(trivial), trivial⟩, ?_⟩
  refine List.forall_mem_cons.mpr ⟨⟨(trivial), trivial⟩, ?_⟩
  refine List.forall_mem_cons.mpr ⟨⟨(mj_lkG (by decide) rfl (by decide) mj_inU5 mjf_5_11), trivial⟩, ?_⟩
  refine List.forall_mem_cons.mpr ⟨⟨(trivial), trivial⟩, ?_⟩
  refine List.forall_mem_cons.mpr ⟨⟨(trivial), trivial⟩, ?_⟩
  refine List.forall_mem_cons.mpr ⟨⟨(mj_lkG (by decide) rfl (by decide) mj_inU8 mjf_5_104), trivial⟩, ?_⟩
  refine List.forall_mem_cons.mpr ⟨⟨(trivial), mj_ckOf mjK_67 (by decide) (mj_lnkG mjl_5_108)⟩, ?_⟩
  refine List.forall_mem_cons.mpr ⟨⟨(show (1 : Nat) < mj_maxL 64 by decide), trivial⟩, ?_⟩
  refine List.forall_mem_cons.mpr ⟨⟨(show (0 : Int) ≤ ((56 : Nat) : Int) + (-54) by decide), trivial⟩, ?_⟩
  refine List.forall_mem_cons.mpr ⟨⟨(trivial), trivial⟩, ?_⟩
  exact fun _ h => absurd h List.not_mem_nil
theorem mjd_64 : mj_ckd 64 = true := by decide +kernel
theorem mjg_64 : mj_good 64 := mj_goodOf (fun _ => ⟨mj_G, rfl⟩) (by decide +kernel) mjd_64 mje_64
theorem mje_65 : ∀ e ∈ mj_tb65, mj_lk 65 e.1 e.2.1 e.2.2.1 e.2.2.2 ∧ mj_cok 65 e.2.1 e.2.2.1 e.2.2.2 := by
  unfold mj_tb65
  refine List.forall_mem_cons.mpr ⟨⟨(trivial), trivial⟩, ?_⟩
  refine List.forall_mem_cons.mpr ⟨⟨(trivial), trivial⟩, ?_⟩
  refine List.forall_mem_cons.mpr ⟨⟨(mj_lkG (by decide) rfl (by decide) mj_inU8 mjf_8_55), trivial⟩, ?_⟩
  refine List.forall_mem_cons.mpr ⟨⟨(show (0 : Int) ≤ ((5 : Nat) : Int) + 24 by decide), trivial⟩, ?_⟩
  refine List.forall_mem_cons.mpr ⟨⟨(trivial), trivial⟩, ?_⟩
  refine List.forall_mem_cons.mpr ⟨⟨(mj_lkG (by decide) rfl (by decide) mj_inU8 mjf_8_15), trivial⟩, ?_⟩
  refine List.forall_mem_cons.mpr ⟨⟨(trivial), mj_ckOf mjK_56 (by decide) (mj_lnkG mjl_8_48)⟩, ?_⟩
  refine List.forall_mem_cons.mpr ⟨⟨(show (0 : Int) ≤ ((15 : Nat) : Int) + 10 by decide), trivial⟩, ?_⟩
  refine List.forall_mem_cons.mpr ⟨⟨(trivial), trivial⟩, ?_⟩
  refine List.forall_mem_cons.mpr ⟨⟨(mj_lkG (by decide) rfl (by decide) mj_inU8 mjf_8_58), trivial⟩, ?_⟩
  refine List.forall_mem_cons.mpr ⟨⟨(show (0 : Int) ≤ ((22 : Nat) : Int) + 7 by decide), trivial⟩, ?_⟩
  refine List.forall_mem_cons.mpr ⟨⟨(trivial), trivial⟩, ?_⟩
  refine List.forall_mem_cons.mpr ⟨⟨(show (0 : Int) ≤ ((26 : Nat) : Int) + 4 by decide), trivial⟩, ?_⟩
  refine List.forall_mem_cons.mpr ⟨⟨(trivial), trivial⟩, ?_⟩
  refine List.forall_mem_cons.mpr ⟨⟨(trivial), trivial⟩, ?_⟩
  exact fun _ h => absurd h List.not_mem_nil
theorem mjd_65 : mj_ckd 65 = true := by decide +kernel
theorem mjg_65 : mj_good 65 := mj_goodOf (fun _ => ⟨mj_G, rfl⟩) (by decide +kernel) mjd_65 mje_65
theorem mje_66 : ∀ e ∈ mj_tb66, mj_lk 66 e.1 e.2.1 e.2.2.1 e.2.2.2 ∧ mj_cok 66 e.2.1 e.2.2.1 e.2.2.2 := by
  unfold mj_tb66
  refine List.forall_mem_cons.mpr ⟨⟨(trivial), trivial⟩, ?_⟩
  refine List.forall_mem_cons.mpr ⟨⟨(trivial), trivial⟩, ?_⟩
  refine List.forall_mem_cons.mpr ⟨⟨(trivial), trivial⟩, ?_⟩
  refine List.forall_mem_cons.mpr ⟨⟨(mj_lkG (by decide) rfl (by decide) mj_inU8 mjf_8_15), trivial⟩, ?_⟩
  refine List.forall_mem_cons.mpr ⟨⟨(mj_lkG (by decide) rfl (by decide) mj_inU3 mjf_8_61), trivial⟩, ?_⟩
  refine List.forall_mem_cons.mpr ⟨⟨(trivial), trivial⟩, ?_⟩
  refine List.forall_mem_cons.mpr ⟨⟨(mj_lkP (by decide) rfl (by decide) mj_inU8 mjf_8_55 mj_TyOk8 mj_Nm8 (Or.inl rfl) rfl), trivial⟩, ?_⟩
  refine List.forall_mem_cons.mpr ⟨⟨(trivial), trivial⟩, ?_⟩
  refine List.forall_mem_cons.mpr ⟨⟨(mj_lkG (by decide) rfl (by decide) mj_inU8 mjf_8_15), trivial⟩, ?_⟩
  refine List.forall_mem_cons.mpr ⟨⟨(trivial), mj_ckOf mjK_56 (by decide) (mj_lnkG mjl_8_48)⟩, ?_⟩
  refine List.forall_mem_cons.mpr ⟨⟨(show (0 : Int) ≤ ((20 : Nat) : Int) + 13 by decide), trivial⟩, ?_⟩
  refine List.forall_mem_cons.mpr ⟨⟨(trivial), trivial⟩, ?_⟩
  refine List.forall_mem_cons.mpr ⟨⟨(trivial), trivial⟩, ?_⟩
  refine List.forall_mem_cons.mpr ⟨⟨(mj_lkG (by decide) rfl (by decide) mj_inU8 mjf_8_58), trivial⟩, ?_⟩
  refine List.forall_mem_cons.mpr ⟨⟨(trivial), trivial⟩, ?_⟩
  refine List.forall_mem_cons.mpr ⟨⟨(trivial), trivial⟩, ?_⟩
  refine List.forall_mem_cons.mpr ⟨⟨(mj_lkP (by decide) rfl (by decide) mj_inU8 mjf_8_58 mj_TyOk8 mj_Nm8 (Or.inl rfl) rfl), trivial⟩, ?_⟩
  refine List.forall_mem_cons.mpr ⟨⟨(trivial), trivial⟩, ?_⟩
  exact fun _ h => absurd h List.not_mem_nil
theorem mjd_66 : mj_ckd 66 = true := by decide +kernel
theorem mjg_66 : mj_good 66 := mj_goodOf (fun _ => ⟨mj_G, rfl⟩) (by decide +kernel) mjd_66 mje_66
theorem mje_67 : ∀ e ∈ mj_tb67, mj_lk 67 e.1 e.2.1 e.2.2.1 e.2.2.2 ∧ mj_cok 67 e.2.1 e.2.2.1 e.2.2.2 := by
  unfold mj_tb67
  refine List.forall_mem_cons.mpr ⟨⟨(trivial), trivial⟩, ?_⟩
  refine List.forall_mem_cons.mpr ⟨⟨(mj_lkG (by decide) rfl (by decide) mj_inU6 mjf_5_112), trivial⟩, ?_⟩
  refine List.forall_mem_cons.mpr ⟨⟨(show (0 : Int) ≤ ((4 : Nat) : Int) + 38 by decide), trivial⟩, ?_⟩
  refine List.forall_mem_cons.mpr ⟨⟨(trivial), trivial⟩, ?_⟩
  refine List.forall_mem_cons.mpr ⟨⟨(trivial), trivial⟩, ?_⟩
  refine List.forall_mem_cons.mpr ⟨⟨(mj_lkG (by decide) rfl (by decide) mj_inU5 mjf_5_65), trivial⟩, ?_⟩
  refine List.forall_mem_cons.mpr ⟨⟨(trivial), trivial⟩, ?_⟩
  refine List.forall_mem_cons.mpr ⟨⟨(trivial), trivial⟩, ?_⟩
  refine List.forall_mem_cons.mpr ⟨⟨(mj_lkP (by decide) rfl (by decide) mj_inU5 mjf_5_65 mj_TyOk5 mj_Nm5 (Or.inl rfl) rfl), trivial⟩, ?_⟩
  refine List.forall_mem_cons.mpr ⟨⟨(trivial), trivial⟩, ?_⟩
  refine List.forall_mem_cons.mpr ⟨⟨(mj_lkG (by decide) rfl (by decide) mj_inU5 mjf_5_24), trivial⟩, ?_⟩
  refine List.forall_mem_cons.mpr ⟨⟨(trivial), trivial⟩, ?_⟩
  refine List.forall_mem_cons.mpr ⟨⟨(trivial), trivial⟩, ?_⟩
  refine List.forall_mem_cons.mpr ⟨⟨(trivial), trivial⟩, ?_⟩
  refine List.forall_mem_cons.mpr ⟨⟨(mj_lkG (by decide) rfl (by decide) mj_inU5 mjf_5_50), trivial⟩, ?_⟩
  refine List.forall_mem_cons.mpr ⟨⟨(trivial), trivial⟩, ?_⟩
  refine List.forall_mem_cons.mpr ⟨⟨(mj_lkG (by decide) rfl (by decide) mj_inU5 mjf_5_50), trivial⟩, ?_⟩
  refine List.forall_mem_cons.mpr ⟨⟨(trivial), trivial⟩, ?_⟩
  refine List.forall_mem_cons.mpr ⟨⟨(mj_lkG (by decide) rfl (by decide) mj_inU6 mjf_5_117), trivial⟩, ?_⟩
  refine List.forall_mem_cons.mpr ⟨⟨(trivial), trivial⟩, ?_⟩
  refine List.forall_mem_cons.mpr ⟨⟨(trivial), mj_ckOf mjK_68 (by decide) (mj_lnkG mjl_5_120)⟩, ?_⟩
  refine List.forall_mem_cons.mpr ⟨⟨(show (0 : Int) ≤ ((39 : Nat) : Int) + 12 by decide), trivial⟩, ?_⟩
  refine List.forall_mem_cons.mpr ⟨⟨(trivial), trivial⟩, ?_⟩
  refine List.forall_mem_cons.mpr ⟨⟨(trivial), trivial⟩, ?_⟩
  refine List.forall_mem_cons.mpr ⟨⟨(trivial), trivial⟩, ?_⟩
  refine List.forall_mem_cons.mpr ⟨⟨(mj_lkG (by decide) rfl (by decide) mj_inU5 mjf_5_50), trivial⟩, ?_⟩
  refine List.forall_mem_cons.mpr ⟨⟨(trivial), mj_ckOf mjK_69 (by decide) (mj_lnkG mjl_5_124)⟩, ?_⟩
  refine List.forall_mem_cons.mpr ⟨⟨(trivial), trivial⟩, ?_⟩
  exact fun _ h => absurd h List.not_mem_nil
theorem mjd_67 : mj_ckd 67 = true := by decide +kernel
theorem mjg_67 : mj_good 67 := mj_goodOf (fun _ => ⟨mj_G, rfl⟩) (by decide +kernel) mjd_67 mje_67
theorem mje_68 : ∀ e ∈ mj_tb68, mj_lk 68 e.1 e.2.1 e.2.2.1 e.2.2.2 ∧ mj_cok 68 e.2.1 e.2.2.1 e.2.2.2 := by
  unfold mj_tb68
  refine List.forall_mem_cons.mpr ⟨⟨(trivial), trivial⟩, ?_⟩
  refine List.forall_mem_cons.mpr ⟨⟨(mj_lkG (by decide) rfl (by decide) mj_inU7 mjf_7_24), trivial⟩, ?_⟩
  refine List.forall_mem_cons.mpr ⟨⟨(trivial), trivial⟩, ?_⟩
  refine List.forall_mem_cons.mpr ⟨⟨(trivial), trivial⟩, ?_⟩
  refine List.forall_mem_cons.mpr ⟨⟨(show (5 : Nat) < mj_maxL 68 by decide), trivial⟩, ?_⟩
  refine List.forall_mem_cons.mpr ⟨⟨(trivial), trivial⟩, ?_⟩
  refine List.forall_mem_cons.mpr ⟨⟨(mj_lkG (by decide) rfl (by decide) mj_inU7 mjf_7_9), trivial⟩, ?_⟩
  refine List.forall_mem_cons.mpr ⟨⟨(trivial), trivial⟩, ?_⟩
  refine List.forall_mem_cons.mpr ⟨⟨(trivial), trivial⟩, ?_⟩
  refine List.forall_mem_cons.mpr ⟨⟨(trivial), trivial⟩, ?_⟩
  refine List.forall_mem_cons.mpr ⟨⟨(trivial), trivial⟩, ?_⟩
  refine List.forall_mem_cons.mpr ⟨⟨(mj_lkG (by decide) rfl (by decide) mj_inU7 mjf_7_15), trivial⟩, ?_⟩
  refine List.forall_mem_cons.mpr ⟨⟨(trivial), trivial⟩, ?_⟩
  refine List.forall_mem_cons.mpr ⟨⟨(trivial), trivial⟩, ?_⟩
  refine List.forall_mem_cons.mpr ⟨⟨(trivial), trivial⟩, ?_⟩
  refine List.forall_mem_cons.mpr ⟨⟨(trivial), trivial⟩, ?_⟩
  refine List.forall_mem_cons.mpr ⟨⟨(mj_lkG (by decide) rfl (by decide) mj_inU7 mjf_7_18), trivial⟩, ?_⟩
  refine List.forall_mem_cons.mpr ⟨⟨(trivial), trivial⟩, ?_⟩
  refine List.forall_mem_cons.mpr ⟨⟨(trivial), trivial⟩, ?_⟩
  refine List.forall_mem_cons.mpr ⟨⟨(trivial), trivial⟩, ?_⟩
  refine List.forall_mem_cons.mpr ⟨⟨(trivial), trivial⟩, ?_⟩
  refine List.forall_mem_cons.mpr ⟨⟨(mj_lkG (by decide) rfl (by decide) mj_inU7 mjf_7_21), trivial⟩, ?_⟩
  refine List.forall_mem_cons.mpr ⟨⟨(trivial), trivial⟩, ?_⟩
  refine List.forall_mem_cons.mpr ⟨⟨(trivial), trivial⟩, ?_⟩
  refine List.forall_mem_cons.mpr ⟨⟨(trivial), trivial⟩, ?_⟩
  refine List.forall_mem_cons.mpr ⟨⟨(trivial), trivial⟩, ?_⟩
  refine List.forall_mem_cons.mpr ⟨⟨(trivial), trivial⟩, ?_⟩
  refine List.forall_mem_cons.mpr ⟨⟨(mj_lkG (by decide) rfl (by decide) mj_inU7 mjf_7_24), trivial⟩, ?_⟩
  refine List.forall_mem_cons.mpr ⟨⟨(trivial), trivial⟩, ?_⟩
  refine List.forall_mem_cons.mpr ⟨⟨(trivial), trivial⟩, ?_⟩
  refine List.forall_mem_cons.mpr ⟨⟨(mj_lkP (by decide) rfl (by decide) mj_inU7 mjf_7_24 mj_TyOk7 mj_Nm7 (Or.inl rfl) rfl), trivial⟩, ?_⟩
  refine List.forall_mem_cons.mpr ⟨⟨(trivial), trivial⟩, ?_⟩
  exact fun _ h => absurd h List.not_mem_nil
theorem mjd_68 : mj_ckd 68 = true := by decide +kernel
theorem mjg_68 : mj_good 68 := mj_goodOf (fun _ => ⟨mj_G, rfl⟩) (by decide +kernel) mjd_68 mje_68
theorem mje_69 : ∀ e ∈ mj_tb69, mj_lk 69 e.1 e.2.1 e.2.2.1 e.2.2.2 ∧ mj_cok 69 e.2.1 e.2.2.1 e.2.2.2 := by
  unfold mj_tb69
  refine List.forall_mem_cons.mpr ⟨⟨(trivial), trivial⟩, ?_⟩
  refine List.forall_mem_cons.mpr ⟨⟨(trivial), trivial⟩, ?_⟩
  refine List.forall_mem_cons.mpr ⟨⟨(mj_lkP (by decide) rfl (by decide) mj_inU6 mjf_6_30 mj_TyOk6 mj_Nm6 (Or.inl rfl) rfl), trivial⟩, ?_⟩
  refine List.forall_mem_cons.mpr ⟨⟨(trivial), trivial⟩, ?_⟩
  refine List.forall_mem_cons.mpr ⟨⟨(trivial), trivial⟩, ?_⟩
  refine List.forall_mem_cons.mpr ⟨⟨(mj_lkP (by decide) rfl (by decide) mj_inU6 mjf_6_34 mj_TyOk6 mj_Nm6 (Or.inl rfl) rfl), trivial⟩, ?_⟩
  refine List.forall_mem_cons.mpr ⟨⟨(trivial), trivial⟩, ?_⟩
  refine List.forall_mem_cons.mpr ⟨⟨(trivial), trivial⟩, ?_⟩
  refine List.forall_mem_cons.mpr ⟨⟨(mj_lkP (by decide) rfl (by decide) mj_inU6 mjf_6_37 mj_TyOk6 mj_Nm6 (Or.inl rfl) rfl), trivial⟩, ?_⟩
  refine List.forall_mem_cons.mpr ⟨⟨(trivial), trivial⟩, ?_⟩
  refine List.forall_mem_cons.mpr ⟨⟨(trivial), trivial⟩, ?_⟩
  refine List.forall_mem_cons.mpr ⟨⟨(mj_lkP (by decide) rfl (by decide) mj_inU6 mjf_6_40 mj_TyOk6 mj_Nm6 (Or.inl rfl) rfl), trivial⟩, ?_⟩
  refine List.forall_mem_cons.mpr ⟨⟨(trivial), trivial⟩, ?_⟩
  refine List.forall_mem_cons.mpr ⟨⟨(trivial), trivial⟩, ?_⟩
  refine List.forall_mem_cons.mpr ⟨⟨(mj_lkP (by decide) rfl (by decide) mj_inU6 mjf_6_44 mj_TyOk6 mj_Nm6 (Or.inl rfl) rfl), trivial⟩, ?_⟩
  refine List.forall_mem_cons.mpr ⟨⟨(trivial), trivial⟩, ?_⟩
  refine List.forall_mem_cons.mpr ⟨⟨(trivial), trivial⟩, ?_⟩
  refine List.forall_mem_cons.mpr ⟨⟨(mj_lkP (by decide) rfl (by decide) mj_inU6 mjf_6_47 mj_TyOk6 mj_Nm6 (Or.inl rfl) rfl), trivial⟩, ?_⟩
  refine List.forall_mem_cons.mpr ⟨⟨(trivial), trivial⟩, ?_⟩
  refine List.forall_mem_cons.mpr ⟨⟨(trivial), trivial⟩, ?_⟩
  refine List.forall_mem_cons.mpr ⟨⟨(mj_lkP (by decide) rfl (by decide) mj_inU6 mjf_6_50 mj_TyOk6 mj_Nm6 (Or.inl rfl) rfl), trivial⟩, ?_⟩
  refine List.forall_mem_cons.mpr ⟨⟨(trivial), trivial⟩, ?_⟩
  refine List.forall_mem_cons.mpr ⟨⟨(trivial), trivial⟩, ?_⟩
  refine List.forall_mem_cons.mpr ⟨⟨(mj_lkP (by decide) rfl (by decide) mj_inU6 mjf_6_53 mj_TyOk6 mj_Nm6 (Or.inl rfl) rfl), trivial⟩, ?_⟩
  refine List.forall_mem_cons.mpr ⟨⟨(trivial), trivial⟩, ?_⟩
  refine List.forall_mem_cons.mpr ⟨⟨(trivial), trivial⟩, ?_⟩
  refine List.forall_mem_cons.mpr ⟨⟨(mj_lkP (by decide) rfl (by decide) mj_inU6 mjf_6_56 mj_TyOk6 mj_Nm6 (Or.inl rfl) rfl), trivial⟩, ?_⟩
  refine List.forall_mem_cons.mpr ⟨⟨(trivial), trivial⟩, ?_⟩
  refine List.forall_mem_cons.mpr ⟨⟨(trivial), trivial⟩, ?_⟩
  refine List.forall_mem_cons.mpr ⟨⟨(mj_lkP (by decide) rfl (by decide) mj_inU6 mjf_6_59 mj_TyOk6 mj_Nm6 (Or.inl rfl) rfl), trivial⟩, ?_⟩
  refine List.forall_mem_cons.mpr ⟨⟨(trivial), trivial⟩, ?_⟩
  refine List.forall_mem_cons.mpr ⟨⟨(trivial), trivial⟩, ?_⟩
  refine List.forall_mem_cons.mpr ⟨⟨(mj_lkP (by decide) rfl (by decide) mj_inU6 mjf_6_62 mj_TyOk6 mj_Nm6 (Or.inl rfl) rfl), trivial⟩, ?_⟩
  refine List.forall_mem_cons.mpr ⟨⟨(trivial), trivial⟩, ?_⟩
  refine List.forall_mem_cons.mpr ⟨⟨(mj_lkG (by decide) rfl (by decide) mj_inU6 mjf_6_9), trivial⟩, ?_⟩
  refine List.forall_mem_cons.mpr ⟨⟨(trivial), trivial⟩, ?_⟩
  refine List.forall_mem_cons.mpr ⟨⟨(trivial), mj_ckOf mjK_36 (by decide) (mj_lnkG mjl_6_65)⟩, ?_⟩
  refine List.forall_mem_cons.mpr ⟨⟨(trivial), trivial⟩, ?_⟩
  exact fun _ h => absurd h List.not_mem_nil
theorem mjd_69 : mj_ckd 69 = true := by decide +kernel
theorem mjg_69 : mj_good 69 := mj_goodOf (fun _ => ⟨mj_G, rfl⟩) (by decide +kernel) mjd_69 mje_69
theorem mje_70 : ∀ e ∈ mj_tb70, mj_lk 70 e.1 e.2.1 e.2.2.1 e.2.2.2 ∧ mj_cok 70 e.2.1 e.2.2.1 e.2.2.2 := by
  unfold mj_tb70
  refine List.forall_mem_cons.mpr ⟨⟨(trivial), trivial⟩, ?_⟩
  refine List.forall_mem_cons.mpr ⟨⟨(show (1 : Nat) < mj_maxL 70 by decide), trivial⟩, ?_⟩
  refine List.forall_mem_cons.mpr ⟨⟨(trivial), trivial⟩, ?_⟩
  refine List.forall_mem_cons.mpr ⟨⟨(show (2 : Nat) < mj_maxL 70 by decide), trivial⟩, ?_⟩
  refine List.forall_mem_cons.mpr ⟨⟨(trivial), trivial⟩, ?_⟩
  refine List.forall_mem_cons.mpr ⟨⟨(trivial), trivial⟩, ?_⟩
  refine List.forall_mem_cons.mpr ⟨⟨(mj_lkG (by decide) rfl (by decide) mj_inU5 mjf_5_46), trivial⟩, ?_⟩
  refine List.forall_mem_cons.mpr ⟨⟨(show (0 : Int) ≤ ((9 : Nat) : Int) + 49 by decide), trivial⟩, ?_⟩
  refine List.forall_mem_cons.mpr ⟨⟨(trivial), trivial⟩, ?_⟩
  refine List.forall_mem_cons.mpr ⟨⟨(mj_lkG (by decide) rfl (by decide) mj_inU5 mjf_5_11), trivial⟩, ?_⟩
  refine List.forall_mem_cons.mpr ⟨⟨(trivial), trivial⟩, ?_⟩
  refine List.forall_mem_cons.mpr ⟨⟨(trivial), trivial⟩, ?_⟩
  refine List.forall_mem_cons.mpr ⟨⟨(mj_lkG (by decide) rfl (by decide) mj_inU8 mjf_5_104), trivial⟩, ?_⟩
  refine List.forall_mem_cons.mpr ⟨⟨(show (3 : Nat) < mj_maxL 70 by decide), trivial⟩, ?_⟩
  refine List.forall_mem_cons.mpr ⟨⟨(trivial), trivial⟩, ?_⟩
  refine List.forall_mem_cons.mpr ⟨⟨(mj_lkG (by decide) rfl (by decide) mj_inU6 mjf_5_112), trivial⟩, ?_⟩
  refine List.forall_mem_cons.mpr ⟨⟨(show (0 : Int) ≤ ((26 : Nat) : Int) + 26 by decide), trivial⟩, ?_⟩
  refine List.forall_mem_cons.mpr ⟨⟨(trivial), trivial⟩, ?_⟩
  refine List.forall_mem_cons.mpr ⟨⟨(trivial), trivial⟩, ?_⟩
  refine List.forall_mem_cons.mpr ⟨⟨(show (0 : Int) ≤ ((31 : Nat) : Int) + 19 by decide), trivial⟩, ?_⟩
  refine List.forall_mem_cons.mpr ⟨⟨(trivial), trivial⟩, ?_⟩
  refine List.forall_mem_cons.mpr ⟨⟨(trivial), trivial⟩, ?_⟩
  refine List.forall_mem_cons.mpr ⟨⟨(mj_lkG (by decide) rfl (by decide) mj_inU5 mjf_5_11), trivial⟩, ?_⟩
  refine List.forall_mem_cons.mpr ⟨⟨(trivial), trivial⟩, ?_⟩
  refine List.forall_mem_cons.mpr ⟨⟨(trivial), trivial⟩, ?_⟩
  refine List.forall_mem_cons.mpr ⟨⟨(mj_lkG (by decide) rfl (by decide) mj_inU8 mjf_5_104), trivial⟩, ?_⟩
  refine List.forall_mem_cons.mpr ⟨⟨(trivial), mj_ckOf mjK_71 (by decide) (mj_lnkG mjl_5_128)⟩, ?_⟩
  refine List.forall_mem_cons.mpr ⟨⟨(show (0 : Int) ≤ ((47 : Nat) : Int) + 5 by decide), trivial⟩, ?_⟩
  refine List.forall_mem_cons.mpr ⟨⟨(trivial), trivial⟩, ?_⟩
  refine List.forall_mem_cons.mpr ⟨⟨(show (1 : Nat) < mj_maxL 70 by decide), trivial⟩, ?_⟩
  refine List.forall_mem_cons.mpr ⟨⟨(show (2 : Nat) < mj_maxL 70 by decide), trivial⟩, ?_⟩
  refine List.forall_mem_cons.mpr ⟨⟨(show (0 : Int) ≤ ((55 : Nat) : Int) + (-51) by decide), trivial⟩, ?_⟩
  refine List.forall_mem_cons.mpr ⟨⟨(trivial), trivial⟩, ?_⟩
  refine List.forall_mem_cons.mpr ⟨⟨(trivial), trivial⟩, ?_⟩
  exact fun _ h => absurd h List.not_mem_nil
theorem mjd_70 : mj_ckd 70 = true := by decide +kernel
theorem mjg_70 : mj_good 70 := mj_goodOf (fun _ => ⟨mj_G, rfl⟩) (by decide +kernel) mjd_70 mje_70
theorem mje_71 : ∀ e ∈ mj_tb71, mj_lk 71 e.1 e.2.1 e.2.2.1 e.2.2.2 ∧ mj_cok 71 e.2.1 e.2.2.1 e.2.2.2 := by
  unfold mj_tb71
  refine List.forall_mem_cons.mpr ⟨⟨(trivial), trivial⟩, ?_⟩
  refine List.forall_mem_cons.mpr ⟨⟨(mj_lkG (by decide) rfl (by decide) mj_inU6 mjf_6_40), trivial⟩, ?_⟩
  refine List.forall_mem_cons.mpr ⟨⟨(trivial), trivial⟩, ?_⟩
  refine List.forall_mem_cons.mpr ⟨⟨(mj_lkG (by decide) rfl (by decide) mj_inU6 mjf_6_40), trivial⟩, ?_⟩
  refine List.forall_mem_cons.mpr ⟨⟨(show (0 : Int) ≤ ((8 : Nat) : Int) + 28 by decide), trivial⟩, ?_⟩
  refine List.forall_mem_cons.mpr ⟨⟨(trivial), trivial⟩, ?_⟩
  refine List.forall_mem_cons.mpr ⟨⟨(mj_lkG (by decide) rfl (by decide) mj_inU6 mjf_6_40), trivial⟩, ?_⟩
  refine List.forall_mem_cons.mpr ⟨⟨(trivial), trivial⟩, ?_⟩
  refine List.forall_mem_cons.mpr ⟨⟨(mj_lkG (by decide) rfl (by decide) mj_inU6 mjf_6_40), trivial⟩, ?_⟩
  refine List.forall_mem_cons.mpr ⟨⟨(show (0 : Int) ≤ ((19 : Nat) : Int) + 21 by decide), trivial⟩, ?_⟩
  refine List.forall_mem_cons.mpr ⟨⟨(trivial), trivial⟩, ?_⟩
  refine List.forall_mem_cons.mpr ⟨⟨(mj_lkG (by decide) rfl (by decide) mj_inU6 mjf_6_34), trivial⟩, ?_⟩
  refine List.forall_mem_cons.mpr ⟨⟨(show (0 : Int) ≤ ((26 : Nat) : Int) + 14 by decide), trivial⟩, ?_⟩
  refine List.forall_mem_cons.mpr ⟨⟨(trivial), trivial⟩, ?_⟩
  refine List.forall_mem_cons.mpr ⟨⟨(mj_lkG (by decide) rfl (by decide) mj_inU6 mjf_6_34), trivial⟩, ?_⟩
  refine List.forall_mem_cons.mpr ⟨⟨(show (0 : Int) ≤ ((33 : Nat) : Int) + 7 by decide), trivial⟩, ?_⟩
  refine List.forall_mem_cons.mpr ⟨⟨(trivial), trivial⟩, ?_⟩
  refine List.forall_mem_cons.mpr ⟨⟨(show (0 : Int) ≤ ((37 : Nat) : Int) + 4 by decide), trivial⟩, ?_⟩
  refine List.forall_mem_cons.mpr ⟨⟨(trivial), trivial⟩, ?_⟩
  refine List.forall_mem_cons.mpr ⟨⟨(trivial), trivial⟩, ?_⟩
  exact fun _ h => absurd h List.not_mem_nil
theorem mjd_71 : mj_ckd 71 = true := by decide +kernel
theorem mjg_71 : mj_good 71 := mj_goodOf (fun _ => ⟨mj_G, rfl⟩) (by decide +kernel) mjd_71 mje_71
theorem mje_72 : ∀ e ∈ mj_tb72, mj_lk 72 e.1 e.2.1 e.2.2.1 e.2.2.2 ∧ mj_cok 72 e.2.1 e.2.2.1 e.2.2.2 := by
  unfold mj_tb72
  refine List.forall_mem_cons.mpr ⟨⟨(trivial), trivial⟩, ?_⟩
  refine List.forall_mem_cons.mpr ⟨⟨(mj_lkG (by decide) rfl (by decide) mj_inU5 mjf_5_11), trivial⟩, ?_⟩
  refine List.forall_mem_cons.mpr ⟨⟨(trivial), trivial⟩, ?_⟩
  refine List.forall_mem_cons.mpr ⟨⟨(trivial), trivial⟩, ?_⟩
  refine List.forall_mem_cons.mpr ⟨⟨(mj_lkG (by decide) rfl (by decide) mj_inU8 mjf_5_104), trivial⟩, ?_⟩
  refine List.forall_mem_cons.mpr ⟨⟨(show (2 : Nat) < mj_maxL 72 by decide), trivial⟩, ?_⟩
  refine List.forall_mem_cons.mpr ⟨⟨(trivial), trivial⟩, ?_⟩
  refine List.forall_mem_cons.mpr ⟨⟨(mj_lkG (by decide) rfl (by decide) mj_inU5 mjf_5_53), trivial⟩, ?_⟩
  refine List.forall_mem_cons.mpr ⟨⟨(trivial), trivial⟩, ?_⟩
  refine List.forall_mem_cons.mpr ⟨⟨(show (0 : Int) ≤ ((15 : Nat) : Int) + 28 by decide), trivial⟩, ?_⟩
  refine List.forall_mem_cons.mpr ⟨⟨(trivial), trivial⟩, ?_⟩
  refine List.forall_mem_cons.mpr ⟨⟨(trivial), trivial⟩, ?_⟩
  refine List.forall_mem_cons.mpr ⟨⟨(mj_lkP (by decide) rfl (by decide) mj_inU5 mjf_5_53 mj_TyOk5 mj_Nm5 (Or.inl rfl) rfl), trivial⟩, ?_⟩
  refine List.forall_mem_cons.mpr ⟨⟨(trivial), trivial⟩, ?_⟩
  refine List.forall_mem_cons.mpr ⟨⟨(trivial), trivial⟩, ?_⟩
  refine List.forall_mem_cons.mpr ⟨⟨(mj_lkG (by decide) rfl (by decide) mj_inU5 mjf_5_59), trivial⟩, ?_⟩
  refine List.forall_mem_cons.mpr ⟨⟨(trivial), trivial⟩, ?_⟩
  refine List.forall_mem_cons.mpr ⟨⟨(trivial), trivial⟩, ?_⟩
  refine List.forall_mem_cons.mpr ⟨⟨(mj_lkP (by decide) rfl (by decide) mj_inU5 mjf_5_59 mj_TyOk5 mj_Nm5 (Or.inl rfl) rfl), trivial⟩, ?_⟩
  refine List.forall_mem_cons.mpr ⟨⟨(trivial), trivial⟩, ?_⟩
  refine List.forall_mem_cons.mpr ⟨⟨(trivial), trivial⟩, ?_⟩
  refine List.forall_mem_cons.mpr ⟨⟨(mj_lkP (by decide) rfl (by decide) mj_inU6 mjf_5_132 mj_TyOk6 mj_Nm6 (Or.inl rfl) rfl), trivial⟩, ?_⟩
  refine List.forall_mem_cons.mpr ⟨⟨(trivial), trivial⟩, ?_⟩
  refine List.forall_mem_cons.mpr ⟨⟨(trivial), trivial⟩, ?_⟩
  refine List.forall_mem_cons.mpr ⟨⟨(mj_lkP (by decide) rfl (by decide) mj_inU6 mjf_5_135 mj_TyOk6 mj_Nm6 (Or.inl rfl) rfl), trivial⟩, ?_⟩
  refine List.forall_mem_cons.mpr ⟨⟨(trivial), trivial⟩, ?_⟩
  refine List.forall_mem_cons.mpr ⟨⟨(mj_lkG (by decide) rfl (by decide) mj_inU6 mjf_5_135), trivial⟩, ?_⟩
  refine List.forall_mem_cons.mpr ⟨⟨(show (0 : Int) ≤ ((47 : Nat) : Int) + 16 by decide), trivial⟩, ?_⟩
  refine List.forall_mem_cons.mpr ⟨⟨(trivial), trivial⟩, ?_⟩
  refine List.forall_mem_cons.mpr ⟨⟨(trivial), trivial⟩, ?_⟩
  refine List.forall_mem_cons.mpr ⟨⟨(mj_lkG (by decide) rfl (by decide) mj_inU6 mjf_5_135), trivial⟩, ?_⟩
  refine List.forall_mem_cons.mpr ⟨⟨(trivial), trivial⟩, ?_⟩
  refine List.forall_mem_cons.mpr ⟨⟨(trivial), trivial⟩, ?_⟩
  refine List.forall_mem_cons.mpr ⟨⟨(mj_lkP (by decide) rfl (by decide) mj_inU6 mjf_5_135 mj_TyOk6 mj_Nm6 (Or.inl rfl) rfl), trivial⟩, ?_⟩
  refine List.forall_mem_cons.mpr ⟨⟨(show (0 : Int) ≤ ((60 : Nat) : Int) + 16 by decide), trivial⟩, ?_⟩
  refine List.forall_mem_cons.mpr ⟨⟨(trivial), trivial⟩, ?_⟩
  refine List.forall_mem_cons.mpr ⟨⟨(trivial), mj_ckOf mjK_73 (by decide) (mj_lnkG mjl_5_138)⟩, ?_⟩
  refine List.forall_mem_cons.mpr ⟨⟨(show (0 : Int) ≤ ((67 : Nat) : Int) + 9 by decide), trivial⟩, ?_⟩
  refine List.forall_mem_cons.mpr ⟨⟨(trivial), trivial⟩, ?_⟩
  refine List.forall_mem_cons.mpr ⟨⟨(trivial), trivial⟩, ?_⟩
  refine List.forall_mem_cons.mpr ⟨⟨(trivial), trivial⟩, ?_⟩
  refine List.forall_mem_cons.mpr ⟨⟨(trivial), mj_ckOf mjK_74 (by decide) (mj_lnkG mjl_5_142)⟩, ?_⟩
  refine List.forall_mem_cons.mpr ⟨⟨(trivial), trivial⟩, ?_⟩
  exact fun _ h => absurd h List.not_mem_nil
theorem mjd_72 : mj_ckd 72 = true := by decide +kernel
theorem mjg_72 : mj_good 72 := mj_goodOf (fun _ => ⟨mj_G, rfl⟩) (by decide +kernel) mjd_72 mje_72
theorem mje_73 : ∀ e ∈ mj_tb73, mj_lk 73 e.1 e.2.1 e.2.2.1 e.2.2.2 ∧ mj_cok 73 e.2.1 e.2.2.1 e.2.2.2 := by
  unfold mj_tb73
  refine List.forall_mem_cons.mpr ⟨⟨(trivial), trivial⟩, ?_⟩
  refine List.forall_mem_cons.mpr ⟨⟨(trivial), trivial⟩, ?_⟩
  refine List.forall_mem_cons.mpr ⟨⟨(mj_lkG (by decide) rfl (by decide) mj_inU6 mjf_6_62), trivial⟩, ?_⟩
  refine List.forall_mem_cons.mpr ⟨⟨(trivial), trivial⟩, ?_⟩
  refine List.forall_mem_cons.mpr ⟨⟨(trivial), trivial⟩, ?_⟩
  refine List.forall_mem_cons.mpr ⟨⟨(mj_lkP (by decide) rfl (by decide) mj_inU6 mjf_6_62 mj_TyOk6 mj_Nm6 (Or.inl rfl) rfl), trivial⟩, ?_⟩
  refine List.forall_mem_cons.mpr ⟨⟨(trivial), trivial⟩, ?_⟩
  refine List.forall_mem_cons.mpr ⟨⟨(mj_lkG (by decide) rfl (by decide) mj_inU6 mjf_6_62), trivial⟩, ?_⟩
  refine List.forall_mem_cons.mpr ⟨⟨(⟨⟨by decide, by decide⟩, Or.inr ⟨"CeilingKernel", by decide +kernel⟩⟩), trivial⟩, ?_⟩
  refine List.forall_mem_cons.mpr ⟨⟨(trivial), trivial⟩, ?_⟩
  refine List.forall_mem_cons.mpr ⟨⟨(mj_lkG (by decide) rfl (by decide) mj_inU6 mjf_6_26), trivial⟩, ?_⟩
  refine List.forall_mem_cons.mpr ⟨⟨(trivial), trivial⟩, ?_⟩
  refine List.forall_mem_cons.mpr ⟨⟨(mj_lkG (by decide) rfl (by decide) mj_inU6 mjf_6_56), trivial⟩, ?_⟩
  refine List.forall_mem_cons.mpr ⟨⟨(trivial), trivial⟩, ?_⟩
  refine List.forall_mem_cons.mpr ⟨⟨(mj_lkG (by decide) rfl (by decide) mj_inU4 mjf_6_74), trivial⟩, ?_⟩
  refine List.forall_mem_cons.mpr ⟨⟨(trivial), trivial⟩, ?_⟩
  refine List.forall_mem_cons.mpr ⟨⟨(mj_lkG (by decide) rfl (by decide) mj_inU6 mjf_6_59), trivial⟩, ?_⟩
  refine List.forall_mem_cons.mpr ⟨⟨(trivial), trivial⟩, ?_⟩
  refine List.forall_mem_cons.mpr ⟨⟨(trivial), trivial⟩, ?_⟩
  refine List.forall_mem_cons.mpr ⟨⟨(show (0 : Int) ≤ ((35 : Nat) : Int) + 7 by decide), trivial⟩, ?_⟩
  refine List.forall_mem_cons.mpr ⟨⟨(trivial), trivial⟩, ?_⟩
  refine List.forall_mem_cons.mpr ⟨⟨(show (0 : Int) ≤ ((39 : Nat) : Int) + 4 by decide), trivial⟩, ?_⟩
  refine List.forall_mem_cons.mpr ⟨⟨(trivial), trivial⟩, ?_⟩
  refine List.forall_mem_cons.mpr ⟨⟨(trivial), trivial⟩, ?_⟩
  exact fun _ h => absurd h List.not_mem_nil
theorem mjd_73 : mj_ckd 73 = true := by decide +kernel
theorem mjg_73 : mj_good 73 := mj_goodOf (fun _ => ⟨mj_G, rfl⟩) (by decide +kernel) mjd_73 mje_73
theorem mje_74 : ∀ e ∈ mj_tb74, mj_lk 74 e.1 e.2.1 e.2.2.1 e.2.2.2 ∧ mj_cok 74 e.2.1 e.2.2.1 e.2.2.2 := by
  unfold mj_tb74
  refine List.forall_mem_cons.mpr ⟨⟨(trivial), trivial⟩, ?_⟩
  refine List.forall_mem_cons.mpr ⟨⟨(trivial), trivial⟩, ?_⟩
  refine List.forall_mem_cons.mpr ⟨⟨(trivial), trivial⟩, ?_⟩
  refine List.forall_mem_cons.mpr ⟨⟨(trivial), mj_ckOf mjK_75 (by decide) (mj_lnkG mjl_5_145)⟩, ?_⟩
  refine List.forall_mem_cons.mpr ⟨⟨(trivial), trivial⟩, ?_⟩
  refine List.forall_mem_cons.mpr ⟨⟨(mj_lkG (by decide) rfl (by decide) mj_inU6 mjf_5_148), trivial⟩, ?_⟩
  refine List.forall_mem_cons.mpr ⟨⟨(show (0 : Int) ≤ ((10 : Nat) : Int) + 12 by decide), trivial⟩, ?_⟩
  refine List.forall_mem_cons.mpr ⟨⟨(trivial), trivial⟩, ?_⟩
  refine List.forall_mem_cons.mpr ⟨⟨(trivial), trivial⟩, ?_⟩
  refine List.forall_mem_cons.mpr ⟨⟨(trivial), trivial⟩, ?_⟩
  refine List.forall_mem_cons.mpr ⟨⟨(trivial), mj_ckOf mjK_89 (by decide) (mj_lnkG mjl_5_151)⟩, ?_⟩
  refine List.forall_mem_cons.mpr ⟨⟨(show (0 : Int) ≤ ((19 : Nat) : Int) + 16 by decide), trivial⟩, ?_⟩
  refine List.forall_mem_cons.mpr ⟨⟨(trivial), trivial⟩, ?_⟩
  refine List.forall_mem_cons.mpr ⟨⟨(trivial), mj_ckOf mjK_90 (by decide) (mj_lnkG mjl_5_154)⟩, ?_⟩
  refine List.forall_mem_cons.mpr ⟨⟨(show (0 : Int) ≤ ((26 : Nat) : Int) + 9 by decide), trivial⟩, ?_⟩
  refine List.forall_mem_cons.mpr ⟨⟨(trivial), trivial⟩, ?_⟩
  refine List.forall_mem_cons.mpr ⟨⟨(trivial), trivial⟩, ?_⟩
  refine List.forall_mem_cons.mpr ⟨⟨(trivial), trivial⟩, ?_⟩
  refine List.forall_mem_cons.mpr ⟨⟨(trivial), mj_ckOf mjK_89 (by decide) (mj_lnkG mjl_5_151)⟩, ?_⟩
  refine List.forall_mem_cons.mpr ⟨⟨(trivial), trivial⟩, ?_⟩
  exact fun _ h => absurd h List.not_mem_nil
theorem mjd_74 : mj_ckd 74 = true := by decide +kernel
theorem mjg_74 : mj_good 74 := mj_goodOf (fun _ => ⟨mj_G, rfl⟩) (by decide +kernel) mjd_74 mje_74
theorem mje_75 : ∀ e ∈ mj_tb75, mj_lk 75 e.1 e.2.1 e.2.2.1 e.2.2.2 ∧ mj_cok 75 e.2.1 e.2.2.1 e.2.2.2 := by
  unfold mj_tb75
  refine List.forall_mem_cons.mpr ⟨⟨(trivial), trivial⟩, ?_⟩
  refine List.forall_mem_cons.mpr ⟨⟨(trivial), mj_ckOf mjK_76 (by decide) (mj_lnkG mjl_5_157)⟩, ?_⟩
  refine List.forall_mem_cons.mpr ⟨⟨(show (3 : Nat) < mj_maxL 75 by decide), trivial⟩, ?_⟩
  refine List.forall_mem_cons.mpr ⟨⟨(trivial), trivial⟩, ?_⟩
  refine List.forall_mem_cons.mpr ⟨⟨(trivial), mj_ckOf mjK_77 (by decide) (mj_lnkG mjl_5_161)⟩, ?_⟩
  refine List.forall_mem_cons.mpr ⟨⟨(show (4 : Nat) < mj_maxL 75 by decide), trivial⟩, ?_⟩
  refine List.forall_mem_cons.mpr ⟨⟨(trivial), trivial⟩, ?_⟩
  refine List.forall_mem_cons.mpr ⟨⟨(mj_lkG (by decide) rfl (by decide) mj_inU4 mjf_5_164), trivial⟩, ?_⟩
  refine List.forall_mem_cons.mpr ⟨⟨(trivial), trivial⟩, ?_⟩
  refine List.forall_mem_cons.mpr ⟨⟨(trivial), trivial⟩, ?_⟩
  refine List.forall_mem_cons.mpr ⟨⟨(show (5 : Nat) < mj_maxL 75 by decide), trivial⟩, ?_⟩
  refine List.forall_mem_cons.mpr ⟨⟨(trivial), trivial⟩, ?_⟩
  refine List.forall_mem_cons.mpr ⟨⟨(mj_lkG (by decide) rfl (by decide) mj_inU4 mjf_5_169), trivial⟩, ?_⟩
  refine List.forall_mem_cons.mpr ⟨⟨(trivial), trivial⟩, ?_⟩
  refine List.forall_mem_cons.mpr ⟨⟨(trivial), trivial⟩, ?_⟩
  refine List.forall_mem_cons.mpr ⟨⟨(show (6 : Nat) < mj_maxL 75 by decide), trivial⟩, ?_⟩
  refine List.forall_mem_cons.mpr ⟨⟨(trivial), trivial⟩, ?_⟩
  refine List.forall_mem_cons.mpr ⟨⟨(trivial), mj_ckOf mjK_78 (by decide) (mj_lnkG mjl_5_172)⟩, ?_⟩
  refine List.forall_mem_cons.mpr ⟨⟨(trivial), trivial⟩, ?_⟩
  refine List.forall_mem_cons.mpr ⟨⟨(mj_lkG (by decide) rfl (by decide) mj_inU4 mjf_5_175), trivial⟩, ?_⟩
  refine List.forall_mem_cons.mpr ⟨⟨(trivial), trivial⟩, ?_⟩
  refine List.forall_mem_cons.mpr ⟨⟨(trivial), trivial⟩, ?_⟩
  refine List.forall_mem_cons.mpr ⟨⟨(show (0 : Int) ≤ ((40 : Nat) : Int) + 243 ∧ ∀ off ∈ (#[64, 86, 243, 243, 243, 108, 126, 243, 150, 167, 190, 224] : Array Int).toList, (0 : Int) ≤ ((40 : Nat) : Int) + off by decide), trivial⟩, ?_⟩
  refine List.forall_mem_cons.mpr ⟨⟨(trivial), trivial⟩, ?_⟩
  refine List.forall_mem_cons.mpr ⟨⟨(mj_lkG (by decide) rfl (by decide) mj_inU6 mjf_5_178), trivial⟩, ?_⟩
  refine List.forall_mem_cons.mpr ⟨⟨(trivial), trivial⟩, ?_⟩
  refine List.forall_mem_cons.mpr ⟨⟨(trivial), trivial⟩, ?_⟩
  refine List.forall_mem_cons.mpr ⟨⟨(mj_lkG (by decide) rfl (by decide) mj_inU5 mjf_5_11), trivial⟩, ?_⟩
  refine List.forall_mem_cons.mpr ⟨⟨(trivial), trivial⟩, ?_⟩
  refine List.forall_mem_cons.mpr ⟨⟨(trivial), trivial⟩, ?_⟩
  refine List.forall_mem_cons.mpr ⟨⟨(mj_lkG (by decide) rfl (by decide) mj_inU8 mjf_5_181), trivial⟩, ?_⟩
  refine List.forall_mem_cons.mpr ⟨⟨(trivial), trivial⟩, ?_⟩
  refine List.forall_mem_cons.mpr ⟨⟨(trivial), trivial⟩, ?_⟩
  refine List.forall_mem_cons.mpr ⟨⟨(trivial), trivial⟩, ?_⟩
  refine List.forall_mem_cons.mpr ⟨⟨(show (0 : Int) ≤ ((123 : Nat) : Int) + 177 by decide), trivial⟩, ?_⟩
  refine List.forall_mem_cons.mpr ⟨⟨(trivial), trivial⟩, ?_⟩
  refine List.forall_mem_cons.mpr ⟨⟨(mj_lkG (by decide) rfl (by decide) mj_inU5 mjf_5_11), trivial⟩, ?_⟩
  refine List.forall_mem_cons.mpr ⟨⟨(trivial), trivial⟩, ?_⟩
  refine List.forall_mem_cons.mpr ⟨⟨(trivial), trivial⟩, ?_⟩
  refine List.forall_mem_cons.mpr ⟨⟨(mj_lkG (by decide) rfl (by decide) mj_inU8 mjf_5_181), trivial⟩, ?_⟩
  refine List.forall_mem_cons.mpr ⟨⟨(trivial), trivial⟩, ?_⟩
  refine List.forall_mem_cons.mpr ⟨⟨(trivial), trivial⟩, ?_⟩
  refine List.forall_mem_cons.mpr ⟨⟨(mj_lkG (by decide) rfl (by decide) mj_inU6 mjf_5_178), trivial⟩, ?_⟩
  refine List.forall_mem_cons.mpr ⟨⟨(trivial), trivial⟩, ?_⟩
  refine List.forall_mem_cons.mpr ⟨⟨(trivial), trivial⟩, ?_⟩
  refine List.forall_mem_cons.mpr ⟨⟨(trivial), trivial⟩, ?_⟩
  refine List.forall_mem_cons.mpr ⟨⟨(show (0 : Int) ≤ ((145 : Nat) : Int) + 155 by decide), trivial⟩, ?_⟩
  refine List.forall_mem_cons.mpr ⟨⟨(trivial), trivial⟩, ?_⟩
  refine List.forall_mem_cons.mpr ⟨⟨(trivial), trivial⟩, ?_⟩
  refine List.forall_mem_cons.mpr ⟨⟨(trivial), trivial⟩, ?_⟩
  refine List.forall_mem_cons.mpr ⟨⟨(trivial), trivial⟩, ?_⟩
  refine List.forall_mem_cons.mpr ⟨⟨(mj_lkG (by decide) rfl (by decide) mj_inU6 mjf_5_184), trivial⟩, ?_⟩
  refine List.forall_mem_cons.mpr ⟨⟨(trivial), trivial⟩, ?_⟩
  refine List.forall_mem_cons.mpr ⟨⟨(trivial), trivial⟩, ?_⟩
  refine List.forall_mem_cons.mpr ⟨⟨(trivial), trivial⟩, ?_⟩
  refine List.forall_mem_cons.mpr ⟨⟨(trivial), trivial⟩, ?_⟩
  refine List.forall_mem_cons.mpr ⟨⟨(trivial), mj_ckOf mjK_79 (by decide) (mj_lnkG mjl_5_187)⟩, ?_⟩
  refine List.forall_mem_cons.mpr ⟨⟨(show (0 : Int) ≤ ((163 : Nat) : Int) + 137 by decide), trivial⟩, ?_⟩
  refine List.forall_mem_cons.mpr ⟨⟨(trivial), trivial⟩, ?_⟩
  refine List.forall_mem_cons.mpr ⟨⟨(trivial), trivial⟩, ?_⟩
  refine List.forall_mem_cons.mpr ⟨⟨(trivial), trivial⟩, ?_⟩
  refine List.forall_mem_cons.mpr ⟨⟨(trivial), trivial⟩, ?_⟩
  refine List.forall_mem_cons.mpr ⟨⟨(mj_lkG (by decide) rfl (by decide) mj_inU6 mjf_5_184), trivial⟩, ?_⟩
  refine List.forall_mem_cons.mpr ⟨⟨(trivial), trivial⟩, ?_⟩
  refine List.forall_mem_cons.mpr ⟨⟨(trivial), trivial⟩, ?_⟩
  refine List.forall_mem_cons.mpr ⟨⟨(trivial), trivial⟩, ?_⟩
  refine List.forall_mem_cons.mpr ⟨⟨(trivial), mj_ckOf mjK_31 (by decide) (mj_lnkG mjl_5_191)⟩, ?_⟩
  refine List.forall_mem_cons.mpr ⟨⟨(trivial), trivial⟩, ?_⟩
  refine List.forall_mem_cons.mpr ⟨⟨(trivial), trivial⟩, ?_⟩
  refine List.forall_mem_cons.mpr ⟨⟨(trivial), trivial⟩, ?_⟩
  refine List.forall_mem_cons.mpr ⟨⟨(trivial), trivial⟩, ?_⟩
  refine List.forall_mem_cons.mpr ⟨⟨(trivial), mj_ckOf mjK_79 (by decide) (mj_lnkG mjl_5_187)⟩, ?_⟩
  refine List.forall_mem_cons.mpr ⟨⟨(show (0 : Int) ≤ ((187 : Nat) : Int) + 113 by decide), trivial⟩, ?_⟩
  refine List.forall_mem_cons.mpr ⟨⟨(trivial), trivial⟩, ?_⟩
  refine List.forall_mem_cons.mpr ⟨⟨(mj_lkG (by decide) rfl (by decide) mj_inU6 mjf_5_178), trivial⟩, ?_⟩
  refine List.forall_mem_cons.mpr ⟨⟨(trivial), trivial⟩, ?_⟩
  refine List.forall_mem_cons.mpr ⟨⟨(trivial), trivial⟩, ?_⟩
  refine List.forall_mem_cons.mpr ⟨⟨(mj_lkG (by decide) rfl (by decide) mj_inU5 mjf_5_17), trivial⟩, ?_⟩
  refine List.forall_mem_cons.mpr ⟨⟨(trivial), trivial⟩, ?_⟩
  refine List.forall_mem_cons.mpr ⟨⟨(trivial), trivial⟩, ?_⟩
  refine List.forall_mem_cons.mpr ⟨⟨(trivial), trivial⟩, ?_⟩
  refine List.forall_mem_cons.mpr ⟨⟨(show (0 : Int) ≤ ((204 : Nat) : Int) + 96 by decide), trivial⟩, ?_⟩
  refine List.forall_mem_cons.mpr ⟨⟨(trivial), trivial⟩, ?_⟩
  refine List.forall_mem_cons.mpr ⟨⟨(mj_lkG (by decide) rfl (by decide) mj_inU5 mjf_5_24), trivial⟩, ?_⟩
  refine List.forall_mem_cons.mpr ⟨⟨(trivial), trivial⟩, ?_⟩
  refine List.forall_mem_cons.mpr ⟨⟨(trivial), trivial⟩, ?_⟩
  refine List.forall_mem_cons.mpr ⟨⟨(trivial), trivial⟩, ?_⟩
  refine List.forall_mem_cons.mpr ⟨⟨(mj_lkG (by decide) rfl (by decide) mj_inU5 mjf_5_50), trivial⟩, ?_⟩
  refine List.forall_mem_cons.mpr ⟨⟨(trivial), trivial⟩, ?_⟩
  refine List.forall_mem_cons.mpr ⟨⟨(mj_lkG (by decide) rfl (by decide) mj_inU6 mjf_5_178), trivial⟩, ?_⟩
  refine List.forall_mem_cons.mpr ⟨⟨(trivial), trivial⟩, ?_⟩
  refine List.forall_mem_cons.mpr ⟨⟨(trivial), trivial⟩, ?_⟩
  refine List.forall_mem_cons.mpr ⟨⟨(trivial), mj_ckOf mjK_68 (by decide) (mj_lnkG mjl_5_120)⟩, ?_⟩
  refine List.forall_mem_cons.mpr ⟨⟨(show (0 : Int) ≤ ((227 : Nat) : Int) + 73 by decide), trivial⟩, ?_⟩
  refine List.forall_mem_cons.mpr ⟨⟨(trivial), trivial⟩, ?_⟩
  refine List.forall_mem_cons.mpr ⟨⟨(mj_lkG (by decide) rfl (by decide) mj_inU6 mjf_5_178), trivial⟩, ?_⟩
  refine List.forall_mem_cons.mpr ⟨⟨(trivial), trivial⟩, ?_⟩
  refine List.forall_mem_cons.mpr ⟨⟨(trivial), trivial⟩, ?_⟩
  refine List.forall_mem_cons.mpr ⟨⟨(mj_lkG (by decide) rfl (by decide) mj_inU5 mjf_5_30), trivial⟩, ?_⟩
  refine List.forall_mem_cons.mpr ⟨⟨(trivial), trivial⟩, ?_⟩
  refine List.forall_mem_cons.mpr ⟨⟨(trivial), trivial⟩, ?_⟩
  refine List.forall_mem_cons.mpr ⟨⟨(trivial), trivial⟩, ?_⟩
  refine List.forall_mem_cons.mpr ⟨⟨(mj_lkG (by decide) rfl (by decide) mj_inU6 mjf_5_178), trivial⟩, ?_⟩
  refine List.forall_mem_cons.mpr ⟨⟨(trivial), trivial⟩, ?_⟩
  refine List.forall_mem_cons.mpr ⟨⟨(trivial), trivial⟩, ?_⟩
  refine List.forall_mem_cons.mpr ⟨⟨(trivial), mj_ckOf mjK_81 (by decide) (mj_lnkG mjl_5_195)⟩, ?_⟩
  refine List.forall_mem_cons.mpr ⟨⟨(show (0 : Int) ≤ ((252 : Nat) : Int) + 7 by decide), trivial⟩, ?_⟩
  refine List.forall_mem_cons.mpr ⟨⟨(trivial), trivial⟩, ?_⟩
  refine List.forall_mem_cons.mpr ⟨⟨(show (0 : Int) ≤ ((256 : Nat) : Int) + 4 by decide), trivial⟩, ?_⟩
  refine List.forall_mem_cons.mpr ⟨⟨(trivial), trivial⟩, ?_⟩
  refine List.forall_mem_cons.mpr ⟨⟨(trivial), trivial⟩, ?_⟩
  refine List.forall_mem_cons.mpr ⟨⟨(show (0 : Int) ≤ ((261 : Nat) : Int) + 39 by decide), trivial⟩, ?_⟩
  refine List.forall_mem_cons.mpr ⟨⟨(trivial), trivial⟩, ?_⟩
  refine List.forall_mem_cons.mpr ⟨⟨(mj_lkG (by decide) rfl (by decide) mj_inU5 mjf_5_30), trivial⟩, ?_⟩
  refine List.forall_mem_cons.mpr ⟨⟨(trivial), trivial⟩, ?_⟩
  refine List.forall_mem_cons.mpr ⟨⟨(trivial), trivial⟩, ?_⟩
  refine List.forall_mem_cons.mpr ⟨⟨(trivial), trivial⟩, ?_⟩
  refine List.forall_mem_cons.mpr ⟨⟨(mj_lkG (by decide) rfl (by decide) mj_inU6 mjf_5_178), trivial⟩, ?_⟩
  refine List.forall_mem_cons.mpr ⟨⟨(trivial), trivial⟩, ?_⟩
  refine List.forall_mem_cons.mpr ⟨⟨(trivial), mj_ckOf mjK_82 (by decide) (mj_lnkG mjl_5_198)⟩, ?_⟩
  refine List.forall_mem_cons.mpr ⟨⟨(show (0 : Int) ≤ ((280 : Nat) : Int) + 20 by decide), trivial⟩, ?_⟩
  refine List.forall_mem_cons.mpr ⟨⟨(trivial), trivial⟩, ?_⟩
  refine List.forall_mem_cons.mpr ⟨⟨(trivial), trivial⟩, ?_⟩
  refine List.forall_mem_cons.mpr ⟨⟨(mj_lkG (by decide) rfl (by decide) mj_inU4 mjf_5_175), trivial⟩, ?_⟩
  refine List.forall_mem_cons.mpr ⟨⟨(trivial), trivial⟩, ?_⟩
  refine List.forall_mem_cons.mpr ⟨⟨(trivial), trivial⟩, ?_⟩
  refine List.forall_mem_cons.mpr ⟨⟨(trivial), trivial⟩, ?_⟩
  refine List.forall_mem_cons.mpr ⟨⟨(trivial), trivial⟩, ?_⟩
  refine List.forall_mem_cons.mpr ⟨⟨(trivial), trivial⟩, ?_⟩
  refine List.forall_mem_cons.mpr ⟨⟨(trivial), mj_ckOf mjK_85 (by decide) (mj_lnkG mjl_5_202)⟩, ?_⟩
  refine List.forall_mem_cons.mpr ⟨⟨(trivial), trivial⟩, ?_⟩
  exact fun _ h => absurd h List.not_mem_nil
theorem mjd_75 : mj_ckd 75 = true := by decide +kernel
theorem mjg_75 : mj_good 75 := mj_goodOf (fun _ => ⟨mj_G, rfl⟩) (by decide +kernel) mjd_75 mje_75
theorem mje_76 : ∀ e ∈ mj_tb76, mj_lk 76 e.1 e.2.1 e.2.2.1 e.2.2.2 ∧ mj_cok 76 e.2.1 e.2.2.1 e.2.2.2 := by
  unfold mj_tb76
  refine List.forall_mem_cons.mpr ⟨⟨(trivial), trivial⟩, ?_⟩
  refine List.forall_mem_cons.mpr ⟨⟨(mj_lkG (by decide) rfl (by decide) mj_inU6 mjf_6_26), trivial⟩, ?_⟩
  refine List.forall_mem_cons.mpr ⟨⟨(trivial), trivial⟩, ?_⟩
  refine List.forall_mem_cons.mpr ⟨⟨(mj_lkG (by decide) rfl (by decide) mj_inU6 mjf_6_56), trivial⟩, ?_⟩
  refine List.forall_mem_cons.mpr ⟨⟨(trivial), trivial⟩, ?_⟩
  refine List.forall_mem_cons.mpr ⟨⟨(trivial), trivial⟩, ?_⟩
  exact fun _ h => absurd h List.not_mem_nil
theorem mjd_76 : mj_ckd 76 = true := by decide +kernel
theorem mjg_76 : mj_good 76 := mj_goodOf (fun _ => ⟨mj_G, rfl⟩) (by decide +kernel) mjd_76 mje_76
theorem mje_77 : ∀ e ∈ mj_tb77, mj_lk 77 e.1 e.2.1 e.2.2.1 e.2.2.2 ∧ mj_cok 77 e.2.1 e.2.2.1 e.2.2.2 := by
  unfold mj_tb77
  refine List.forall_mem_cons.mpr ⟨⟨(trivial), trivial⟩, ?_⟩
  refine List.forall_mem_cons.mpr ⟨⟨(mj_lkG (by decide) rfl (by decide) mj_inU6 mjf_6_59), trivial⟩, ?_⟩
  refine List.forall_mem_cons.mpr ⟨⟨(trivial), trivial⟩, ?_⟩
  exact fun _ h => absurd h List.not_mem_nil
theorem mjd_77 : mj_ckd 77 = true := by decide +kernel
theorem mjg_77 : mj_good 77 := mj_goodOf (fun _ => ⟨mj_G, rfl⟩) (by decide +kernel) mjd_77 mje_77
theorem mje_78 : ∀ e ∈ mj_tb78, mj_lk 78 e.1 e.2.1 e.2.2.1 e.2.2.2 ∧ mj_cok 78 e.2.1 e.2.2.1 e.2.2.2 := by
  unfold mj_tb78
  refine List.forall_mem_cons.mpr ⟨⟨(trivial), trivial⟩, ?_⟩
  refine List.forall_mem_cons.mpr ⟨⟨(trivial), trivial⟩, ?_⟩
  refine List.forall_mem_cons.mpr ⟨⟨(mj_lkP (by decide) rfl (by decide) mj_inU6 mjf_6_62 mj_TyOk6 mj_Nm6 (Or.inl rfl) rfl), trivial⟩, ?_⟩
  refine List.forall_mem_cons.mpr ⟨⟨(trivial), trivial⟩, ?_⟩
  refine List.forall_mem_cons.mpr ⟨⟨(trivial), trivial⟩, ?_⟩
  refine List.forall_mem_cons.mpr ⟨⟨(mj_lkG (by decide) rfl (by decide) mj_inU6 mjf_6_50), trivial⟩, ?_⟩
  refine List.forall_mem_cons.mpr ⟨⟨(trivial), trivial⟩, ?_⟩
  refine List.forall_mem_cons.mpr ⟨⟨(trivial), trivial⟩, ?_⟩
  refine List.forall_mem_cons.mpr ⟨⟨(mj_lkP (by decide) rfl (by decide) mj_inU6 mjf_6_50 mj_TyOk6 mj_Nm6 (Or.inl rfl) rfl), trivial⟩, ?_⟩
  refine List.forall_mem_cons.mpr ⟨⟨(trivial), trivial⟩, ?_⟩
  refine List.forall_mem_cons.mpr ⟨⟨(trivial), trivial⟩, ?_⟩
  refine List.forall_mem_cons.mpr ⟨⟨(mj_lkG (by decide) rfl (by decide) mj_inU6 mjf_6_59), trivial⟩, ?_⟩
  refine List.forall_mem_cons.mpr ⟨⟨(trivial), trivial⟩, ?_⟩
  refine List.forall_mem_cons.mpr ⟨⟨(trivial), trivial⟩, ?_⟩
  refine List.forall_mem_cons.mpr ⟨⟨(mj_lkP (by decide) rfl (by decide) mj_inU6 mjf_6_59 mj_TyOk6 mj_Nm6 (Or.inl rfl) rfl), trivial⟩, ?_⟩
  refine List.forall_mem_cons.mpr ⟨⟨(trivial), trivial⟩, ?_⟩
  exact fun _ h => absurd h List.not_mem_nil
theorem mjd_78 : mj_ckd 78 = true := by decide +kernel
theorem mjg_78 : mj_good 78 := mj_goodOf (fun _ => ⟨mj_G, rfl⟩) (by decide +kernel) mjd_78 mje_78
theorem mje_79 : ∀ e ∈ mj_tb79, mj_lk 79 e.1 e.2.1 e.2.2.1 e.2.2.2 ∧ mj_cok 79 e.2.1 e.2.2.1 e.2.2.2 := by
  unfold mj_tb79
  refine List.forall_mem_cons.mpr ⟨⟨(trivial), trivial⟩, ?_⟩
  refine List.forall_mem_cons.mpr ⟨⟨(trivial), trivial⟩, ?_⟩
  refine List.forall_mem_cons.mpr ⟨⟨(mj_lkP (by decide) rfl (by decide) mj_inU6 mjf_5_184 mj_TyOk6 mj_Nm6 (Or.inl rfl) rfl), trivial⟩, ?_⟩
  refine List.forall_mem_cons.mpr ⟨⟨(trivial), trivial⟩, ?_⟩
  refine List.forall_mem_cons.mpr ⟨⟨(trivial), trivial⟩, ?_⟩
  refine List.forall_mem_cons.mpr ⟨⟨(mj_lkG (by decide) rfl (by decide) mj_inU5 mjf_5_34), trivial⟩, ?_⟩
  refine List.forall_mem_cons.mpr ⟨⟨(trivial), trivial⟩, ?_⟩
  refine List.forall_mem_cons.mpr ⟨⟨(trivial), trivial⟩, ?_⟩
  refine List.forall_mem_cons.mpr ⟨⟨(trivial), mj_ckOf mjK_80 (by decide) (mj_lnkG mjl_5_205)⟩, ?_⟩
  refine List.forall_mem_cons.mpr ⟨⟨(mj_lkP (by decide) rfl (by decide) mj_inU6 mjf_5_211 mj_TyOk6 mj_Nm6 (Or.inl rfl) rfl), trivial⟩, ?_⟩
  refine List.forall_mem_cons.mpr ⟨⟨(trivial), trivial⟩, ?_⟩
  exact fun _ h => absurd h List.not_mem_nil
theorem mjd_79 : mj_ckd 79 = true := by decide +kernel
theorem mjg_79 : mj_good 79 := mj_goodOf (fun _ => ⟨mj_G, rfl⟩) (by decide +kernel) mjd_79 mje_79
theorem mje_80 : ∀ e ∈ mj_tb80, mj_lk 80 e.1 e.2.1 e.2.2.1 e.2.2.2 ∧ mj_cok 80 e.2.1 e.2.2.1 e.2.2.2 := by
  unfold mj_tb80
  refine List.forall_mem_cons.mpr ⟨⟨(trivial), trivial⟩, ?_⟩
  refine List.forall_mem_cons.mpr ⟨⟨(show (3 : Nat) < mj_maxL 80 by decide), trivial⟩, ?_⟩
  refine List.forall_mem_cons.mpr ⟨⟨(trivial), trivial⟩, ?_⟩
  refine List.forall_mem_cons.mpr ⟨⟨(show (4 : Nat) < mj_maxL 80 by decide), trivial⟩, ?_⟩
  refine List.forall_mem_cons.mpr ⟨⟨(trivial), trivial⟩, ?_⟩
  refine List.forall_mem_cons.mpr ⟨⟨(trivial), trivial⟩, ?_⟩
  refine List.forall_mem_cons.mpr ⟨⟨(show (0 : Int) ≤ ((8 : Nat) : Int) + 41 by decide), trivial⟩, ?_⟩
  refine List.forall_mem_cons.mpr ⟨⟨(trivial), trivial⟩, ?_⟩
  refine List.forall_mem_cons.mpr ⟨⟨(trivial), trivial⟩, ?_⟩
  refine List.forall_mem_cons.mpr ⟨⟨(trivial), trivial⟩, ?_⟩
  refine List.forall_mem_cons.mpr ⟨⟨(trivial), trivial⟩, ?_⟩
  refine List.forall_mem_cons.mpr ⟨⟨(trivial), trivial⟩, ?_⟩
  refine List.forall_mem_cons.mpr ⟨⟨(show (0 : Int) ≤ ((17 : Nat) : Int) + 26 by decide), trivial⟩, ?_⟩
  refine List.forall_mem_cons.mpr ⟨⟨(trivial), trivial⟩, ?_⟩
  refine List.forall_mem_cons.mpr ⟨⟨(mj_lkG (by decide) rfl (by decide) mj_inU2 mjf_2_26), trivial⟩, ?_⟩
  refine List.forall_mem_cons.mpr ⟨⟨(trivial), trivial⟩, ?_⟩
  refine List.forall_mem_cons.mpr ⟨⟨(trivial), trivial⟩, ?_⟩
  refine List.forall_mem_cons.mpr ⟨⟨(trivial), trivial⟩, ?_⟩
  refine List.forall_mem_cons.mpr ⟨⟨(show (0 : Int) ≤ ((28 : Nat) : Int) + 15 by decide), trivial⟩, ?_⟩
  refine List.forall_mem_cons.mpr ⟨⟨(trivial), trivial⟩, ?_⟩
  refine List.forall_mem_cons.mpr ⟨⟨(trivial), trivial⟩, ?_⟩
  refine List.forall_mem_cons.mpr ⟨⟨(mj_lkG (by decide) rfl (by decide) mj_inU2 mjf_2_26), trivial⟩, ?_⟩
  refine List.forall_mem_cons.mpr ⟨⟨(trivial), trivial⟩, ?_⟩
  refine List.forall_mem_cons.mpr ⟨⟨(trivial), trivial⟩, ?_⟩
  refine List.forall_mem_cons.mpr ⟨⟨(trivial), ⟨mj_Gws (mj_Gin 649 (by decide +kernel) rfl), mj_Gws (mj_Gin 650 (by decide +kernel) rfl), mj_Gws (mj_Gin 13 (by decide +kernel) rfl), mj_Gws (mj_Gin 651 (by decide +kernel) rfl), by decide, by decide⟩⟩, ?_⟩
  refine List.forall_mem_cons.mpr ⟨⟨(show (3 : Nat) < mj_maxL 80 by decide), trivial⟩, ?_⟩
  refine List.forall_mem_cons.mpr ⟨⟨(show (4 : Nat) < mj_maxL 80 by decide), trivial⟩, ?_⟩
  refine List.forall_mem_cons.mpr ⟨⟨(show (0 : Int) ≤ ((46 : Nat) : Int) + (-41) by decide), trivial⟩, ?_⟩
  refine List.forall_mem_cons.mpr ⟨⟨(trivial), trivial⟩, ?_⟩
  refine List.forall_mem_cons.mpr ⟨⟨(trivial), trivial⟩, ?_⟩
  exact fun _ h => absurd h List.not_mem_nil
theorem mjd_80 : mj_ckd 80 = true := by decide +kernel
theorem mjg_80 : mj_good 80 := mj_goodOf (fun _ => ⟨mj_G, rfl⟩) (by decide +kernel) mjd_80 mje_80
theorem mje_81 : ∀ e ∈ mj_tb81, mj_lk 81 e.1 e.2.1 e.2.2.1 e.2.2.2 ∧ mj_cok 81 e.2.1 e.2.2.1 e.2.2.2 := by
  unfold mj_tb81
  refine List.forall_mem_cons.mpr ⟨⟨(trivial), trivial⟩, ?_⟩
  refine List.forall_mem_cons.mpr ⟨⟨(mj_lkG (by decide) rfl (by decide) mj_inU9 mjf_9_15), trivial⟩, ?_⟩
  refine List.forall_mem_cons.mpr ⟨⟨(trivial), trivial⟩, ?_⟩
  refine List.forall_mem_cons.mpr ⟨⟨(show (0 : Int) ≤ ((5 : Nat) : Int) + 5 by decide), trivial⟩, ?_⟩
  refine List.forall_mem_cons.mpr ⟨⟨(trivial), trivial⟩, ?_⟩
  refine List.forall_mem_cons.mpr ⟨⟨(trivial), trivial⟩, ?_⟩
  refine List.forall_mem_cons.mpr ⟨⟨(trivial), trivial⟩, ?_⟩
  refine List.forall_mem_cons.mpr ⟨⟨(mj_lkG (by decide) rfl (by decide) mj_inU9 mjf_9_9), trivial⟩, ?_⟩
  refine List.forall_mem_cons.mpr ⟨⟨(trivial), trivial⟩, ?_⟩
  refine List.forall_mem_cons.mpr ⟨⟨(mj_lkG (by decide) rfl (by decide) mj_inU9 mjf_9_15), trivial⟩, ?_⟩
  refine List.forall_mem_cons.mpr ⟨⟨(trivial), trivial⟩, ?_⟩
  refine List.forall_mem_cons.mpr ⟨⟨(trivial), trivial⟩, ?_⟩
  refine List.forall_mem_cons.mpr ⟨⟨(trivial), trivial⟩, ?_⟩
  refine List.forall_mem_cons.mpr ⟨⟨(trivial), trivial⟩, ?_⟩
  refine List.forall_mem_cons.mpr ⟨⟨(mj_lkG (by decide) rfl (by decide) mj_inU9 mjf_9_15), trivial⟩, ?_⟩
  refine List.forall_mem_cons.mpr ⟨⟨(trivial), trivial⟩, ?_⟩
  refine List.forall_mem_cons.mpr ⟨⟨(trivial), trivial⟩, ?_⟩
  refine List.forall_mem_cons.mpr ⟨⟨(mj_lkP (by decide) rfl (by decide) mj_inU9 mjf_9_15 mj_TyOk9 mj_Nm9 (Or.inl rfl) rfl), trivial⟩, ?_⟩
  refine List.forall_mem_cons.mpr ⟨⟨(trivial), trivial⟩, ?_⟩
  refine List.forall_mem_cons.mpr ⟨⟨(trivial), trivial⟩, ?_⟩
  exact fun _ h => absurd h List.not_mem_nil
theorem mjd_81 : mj_ckd 81 = true := by decide +kernel
theorem mjg_81 : mj_good 81 := mj_goodOf (fun _ => ⟨mj_G, rfl⟩) (by decide +kernel) mjd_81 mje_81
theorem mje_82 : ∀ e ∈ mj_tb82, mj_lk 82 e.1 e.2.1 e.2.2.1 e.2.2.2 ∧ mj_cok 82 e.2.1 e.2.2.1 e.2.2.2 := by
  unfold mj_tb82
  refine List.forall_mem_cons.mpr ⟨⟨(trivial), trivial⟩, ?_⟩
  refine List.forall_mem_cons.mpr ⟨⟨(trivial), mj_ckOf mjK_83 (by decide) (mj_lnkG mjl_5_214)⟩, ?_⟩
  refine List.forall_mem_cons.mpr ⟨⟨(show (0 : Int) ≤ ((4 : Nat) : Int) + 10 by decide), trivial⟩, ?_⟩
  refine List.forall_mem_cons.mpr ⟨⟨(trivial), trivial⟩, ?_⟩
  refine List.forall_mem_cons.mpr ⟨⟨(trivial), trivial⟩, ?_⟩
  refine List.forall_mem_cons.mpr ⟨⟨(trivial), trivial⟩, ?_⟩
  refine List.forall_mem_cons.mpr ⟨⟨(trivial), trivial⟩, ?_⟩
  refine List.forall_mem_cons.mpr ⟨⟨(show (0 : Int) ≤ ((11 : Nat) : Int) + 14 by decide), trivial⟩, ?_⟩
  refine List.forall_mem_cons.mpr ⟨⟨(trivial), trivial⟩, ?_⟩
  refine List.forall_mem_cons.mpr ⟨⟨(trivial), trivial⟩, ?_⟩
  refine List.forall_mem_cons.mpr ⟨⟨(trivial), trivial⟩, ?_⟩
  refine List.forall_mem_cons.mpr ⟨⟨(trivial), mj_ckOf mjK_84 (by decide) (mj_lnkG mjl_5_217)⟩, ?_⟩
  refine List.forall_mem_cons.mpr ⟨⟨(trivial), trivial⟩, ?_⟩
  refine List.forall_mem_cons.mpr ⟨⟨(trivial), trivial⟩, ?_⟩
  refine List.forall_mem_cons.mpr ⟨⟨(trivial), trivial⟩, ?_⟩
  refine List.forall_mem_cons.mpr ⟨⟨(trivial), trivial⟩, ?_⟩
  refine List.forall_mem_cons.mpr ⟨⟨(trivial), trivial⟩, ?_⟩
  refine List.forall_mem_cons.mpr ⟨⟨(trivial), trivial⟩, ?_⟩
  exact fun _ h => absurd h List.not_mem_nil
theorem mjd_82 : mj_ckd 82 = true := by decide +kernel
theorem mjg_82 : mj_good 82 := mj_goodOf (fun _ => ⟨mj_G, rfl⟩) (by decide +kernel) mjd_82 mje_82
theorem mje_83 : ∀ e ∈ mj_tb83, mj_lk 83 e.1 e.2.1 e.2.2.1 e.2.2.2 ∧ mj_cok 83 e.2.1 e.2.2.1 e.2.2.2 := by
  unfold mj_tb83
  refine List.forall_mem_cons.mpr ⟨⟨(trivial), trivial⟩, ?_⟩
  refine List.forall_mem_cons.mpr ⟨⟨(mj_lkG (by decide) rfl (by decide) mj_inU9 mjf_9_15), trivial⟩, ?_⟩
  refine List.forall_mem_cons.mpr ⟨⟨(show (0 : Int) ≤ ((4 : Nat) : Int) + 7 by decide), trivial⟩, ?_⟩
  refine List.forall_mem_cons.mpr ⟨⟨(trivial), trivial⟩, ?_⟩
  refine List.forall_mem_cons.mpr ⟨⟨(show (0 : Int) ≤ ((8 : Nat) : Int) + 4 by decide), trivial⟩, ?_⟩
  refine List.forall_mem_cons.mpr ⟨⟨(trivial), trivial⟩, ?_⟩
  refine List.forall_mem_cons.mpr ⟨⟨(trivial), trivial⟩, ?_⟩
  exact fun _ h => absurd h List.not_mem_nil
theorem mjd_83 : mj_ckd 83 = true := by decide +kernel
theorem mjg_83 : mj_good 83 := mj_goodOf (fun _ => ⟨mj_G, rfl⟩) (by decide +kernel) mjd_83 mje_83
theorem mje_84 : ∀ e ∈ mj_tb84, mj_lk 84 e.1 e.2.1 e.2.2.1 e.2.2.2 ∧ mj_cok 84 e.2.1 e.2.2.1 e.2.2.2 := by
  unfold mj_tb84
  refine List.forall_mem_cons.mpr ⟨⟨(trivial), trivial⟩, ?_⟩
  refine List.forall_mem_cons.mpr ⟨⟨(mj_lkG (by decide) rfl (by decide) mj_inU9 mjf_9_15), trivial⟩, ?_⟩
  refine List.forall_mem_cons.mpr ⟨⟨(show (0 : Int) ≤ ((4 : Nat) : Int) + 5 by decide), trivial⟩, ?_⟩
  refine List.forall_mem_cons.mpr ⟨⟨(trivial), trivial⟩, ?_⟩
  refine List.forall_mem_cons.mpr ⟨⟨(trivial), trivial⟩, ?_⟩
  refine List.forall_mem_cons.mpr ⟨⟨(trivial), trivial⟩, ?_⟩
  refine List.forall_mem_cons.mpr ⟨⟨(mj_lkG (by decide) rfl (by decide) mj_inU9 mjf_9_9), trivial⟩, ?_⟩
  refine List.forall_mem_cons.mpr ⟨⟨(trivial), trivial⟩, ?_⟩
  refine List.forall_mem_cons.mpr ⟨⟨(trivial), trivial⟩, ?_⟩
  refine List.forall_mem_cons.mpr ⟨⟨(show (1 : Nat) < mj_maxL 84 by decide), trivial⟩, ?_⟩
  refine List.forall_mem_cons.mpr ⟨⟨(trivial), trivial⟩, ?_⟩
  refine List.forall_mem_cons.mpr ⟨⟨(trivial), trivial⟩, ?_⟩
  refine List.forall_mem_cons.mpr ⟨⟨(mj_lkG (by decide) rfl (by decide) mj_inU9 mjf_9_15), trivial⟩, ?_⟩
  refine List.forall_mem_cons.mpr ⟨⟨(trivial), trivial⟩, ?_⟩
  refine List.forall_mem_cons.mpr ⟨⟨(trivial), trivial⟩, ?_⟩
  refine List.forall_mem_cons.mpr ⟨⟨(mj_lkP (by decide) rfl (by decide) mj_inU9 mjf_9_15 mj_TyOk9 mj_Nm9 (Or.inl rfl) rfl), trivial⟩, ?_⟩
  refine List.forall_mem_cons.mpr ⟨⟨(trivial), trivial⟩, ?_⟩
  refine List.forall_mem_cons.mpr ⟨⟨(show (2 : Nat) < mj_maxL 84 by decide), trivial⟩, ?_⟩
  refine List.forall_mem_cons.mpr ⟨⟨(trivial), trivial⟩, ?_⟩
  refine List.forall_mem_cons.mpr ⟨⟨(trivial), trivial⟩, ?_⟩
  refine List.forall_mem_cons.mpr ⟨⟨(mj_lkG (by decide) rfl (by decide) mj_inU9 mjf_9_15), trivial⟩, ?_⟩
  refine List.forall_mem_cons.mpr ⟨⟨(show (0 : Int) ≤ ((33 : Nat) : Int) + 23 by decide), trivial⟩, ?_⟩
  refine List.forall_mem_cons.mpr ⟨⟨(trivial), trivial⟩, ?_⟩
  refine List.forall_mem_cons.mpr ⟨⟨(mj_lkG (by decide) rfl (by decide) mj_inU9 mjf_9_9), trivial⟩, ?_⟩
  refine List.forall_mem_cons.mpr ⟨⟨(trivial), trivial⟩, ?_⟩
  refine List.forall_mem_cons.mpr ⟨⟨(trivial), trivial⟩, ?_⟩
  refine List.forall_mem_cons.mpr ⟨⟨(mj_lkG (by decide) rfl (by decide) mj_inU9 mjf_9_9), trivial⟩, ?_⟩
  refine List.forall_mem_cons.mpr ⟨⟨(trivial), trivial⟩, ?_⟩
  refine List.forall_mem_cons.mpr ⟨⟨(trivial), trivial⟩, ?_⟩
  refine List.forall_mem_cons.mpr ⟨⟨(trivial), trivial⟩, ?_⟩
  refine List.forall_mem_cons.mpr ⟨⟨(trivial), trivial⟩, ?_⟩
  refine List.forall_mem_cons.mpr ⟨⟨(trivial), trivial⟩, ?_⟩
  refine List.forall_mem_cons.mpr ⟨⟨(show (2 : Nat) < mj_maxL 84 by decide), trivial⟩, ?_⟩
  refine List.forall_mem_cons.mpr ⟨⟨(show (0 : Int) ≤ ((53 : Nat) : Int) + (-25) by decide), trivial⟩, ?_⟩
  refine List.forall_mem_cons.mpr ⟨⟨(trivial), trivial⟩, ?_⟩
  refine List.forall_mem_cons.mpr ⟨⟨(trivial), trivial⟩, ?_⟩
  exact fun _ h => absurd h List.not_mem_nil
theorem mjd_84 : mj_ckd 84 = true := by decide +kernel
theorem mjg_84 : mj_good 84 := mj_goodOf (fun _ => ⟨mj_G, rfl⟩) (by decide +kernel) mjd_84 mje_84
theorem mje_85 : ∀ e ∈ mj_tb85, mj_lk 85 e.1 e.2.1 e.2.2.1 e.2.2.2 ∧ mj_cok 85 e.2.1 e.2.2.1 e.2.2.2 := by
  unfold mj_tb85
  refine List.forall_mem_cons.mpr ⟨⟨(trivial), trivial⟩, ?_⟩
  refine List.forall_mem_cons.mpr ⟨⟨(show (0 : Int) ≤ ((1 : Nat) : Int) + 168 ∧ ∀ off ∈ (#[59, 69, 87, 168, 168, 96, 122, 138, 168, 168, 160] : Array Int).toList, (0 : Int) ≤ ((1 : Nat) : Int) + off by decide), trivial⟩, ?_⟩
  refine List.forall_mem_cons.mpr ⟨⟨(trivial), trivial⟩, ?_⟩
  refine List.forall_mem_cons.mpr ⟨⟨(mj_lkG (by decide) rfl (by decide) mj_inU6 mjf_6_9), trivial⟩, ?_⟩
  refine List.forall_mem_cons.mpr ⟨⟨(trivial), trivial⟩, ?_⟩
  refine List.forall_mem_cons.mpr ⟨⟨(trivial), trivial⟩, ?_⟩
  refine List.forall_mem_cons.mpr ⟨⟨(trivial), trivial⟩, ?_⟩
  refine List.forall_mem_cons.mpr ⟨⟨(show (0 : Int) ≤ ((67 : Nat) : Int) + 102 by decide), trivial⟩, ?_⟩
  refine List.forall_mem_cons.mpr ⟨⟨(trivial), trivial⟩, ?_⟩
  refine List.forall_mem_cons.mpr ⟨⟨(mj_lkG (by decide) rfl (by decide) mj_inU6 mjf_6_9), trivial⟩, ?_⟩
  refine List.forall_mem_cons.mpr ⟨⟨(trivial), trivial⟩, ?_⟩
  refine List.forall_mem_cons.mpr ⟨⟨(trivial), trivial⟩, ?_⟩
  refine List.forall_mem_cons.mpr ⟨⟨(trivial), trivial⟩, ?_⟩
  refine List.forall_mem_cons.mpr ⟨⟨(trivial), trivial⟩, ?_⟩
  refine List.forall_mem_cons.mpr ⟨⟨(mj_lkG (by decide) rfl (by decide) mj_inU6 mjf_6_9), trivial⟩, ?_⟩
  refine List.forall_mem_cons.mpr ⟨⟨(trivial), trivial⟩, ?_⟩
  refine List.forall_mem_cons.mpr ⟨⟨(trivial), trivial⟩, ?_⟩
  refine List.forall_mem_cons.mpr ⟨⟨(trivial), trivial⟩, ?_⟩
  refine List.forall_mem_cons.mpr ⟨⟨(trivial), trivial⟩, ?_⟩
  refine List.forall_mem_cons.mpr ⟨⟨(show (0 : Int) ≤ ((85 : Nat) : Int) + 84 by decide), trivial⟩, ?_⟩
  refine List.forall_mem_cons.mpr ⟨⟨(trivial), trivial⟩, ?_⟩
  refine List.forall_mem_cons.mpr ⟨⟨(trivial), trivial⟩, ?_⟩
  refine List.forall_mem_cons.mpr ⟨⟨(trivial), trivial⟩, ?_⟩
  refine List.forall_mem_cons.mpr ⟨⟨(trivial), mj_ckOf mjK_86 (by decide) (mj_lnkG mjl_6_79)⟩, ?_⟩
  refine List.forall_mem_cons.mpr ⟨⟨(show (0 : Int) ≤ ((94 : Nat) : Int) + 75 by decide), trivial⟩, ?_⟩
  refine List.forall_mem_cons.mpr ⟨⟨(trivial), trivial⟩, ?_⟩
  refine List.forall_mem_cons.mpr ⟨⟨(trivial), trivial⟩, ?_⟩
  refine List.forall_mem_cons.mpr ⟨⟨(mj_lkG (by decide) rfl (by decide) mj_inU6 mjf_6_59), trivial⟩, ?_⟩
  refine List.forall_mem_cons.mpr ⟨⟨(trivial), trivial⟩, ?_⟩
  refine List.forall_mem_cons.mpr ⟨⟨(mj_lkG (by decide) rfl (by decide) mj_inU6 mjf_6_9), trivial⟩, ?_⟩
  refine List.forall_mem_cons.mpr ⟨⟨(trivial), trivial⟩, ?_⟩
  refine List.forall_mem_cons.mpr ⟨⟨(trivial), trivial⟩, ?_⟩
  refine List.forall_mem_cons.mpr ⟨⟨(show (0 : Int) ≤ ((108 : Nat) : Int) + 7 by decide), trivial⟩, ?_⟩
  refine List.forall_mem_cons.mpr ⟨⟨(trivial), trivial⟩, ?_⟩
  refine List.forall_mem_cons.mpr ⟨⟨(show (0 : Int) ≤ ((112 : Nat) : Int) + 4 by decide), trivial⟩, ?_⟩
  refine List.forall_mem_cons.mpr ⟨⟨(trivial), trivial⟩, ?_⟩
  refine List.forall_mem_cons.mpr ⟨⟨(trivial), trivial⟩, ?_⟩
  refine List.forall_mem_cons.mpr ⟨⟨(mj_lkP (by decide) rfl (by decide) mj_inU6 mjf_6_59 mj_TyOk6 mj_Nm6 (Or.inl rfl) rfl), trivial⟩, ?_⟩
  refine List.forall_mem_cons.mpr ⟨⟨(show (0 : Int) ≤ ((120 : Nat) : Int) + 49 by decide), trivial⟩, ?_⟩
  refine List.forall_mem_cons.mpr ⟨⟨(trivial), trivial⟩, ?_⟩
  refine List.forall_mem_cons.mpr ⟨⟨(mj_lkG (by decide) rfl (by decide) mj_inU6 mjf_6_23), trivial⟩, ?_⟩
  refine List.forall_mem_cons.mpr ⟨⟨(trivial), trivial⟩, ?_⟩
  refine List.forall_mem_cons.mpr ⟨⟨(mj_lkG (by decide) rfl (by decide) mj_inU6 mjf_6_56), trivial⟩, ?_⟩
  refine List.forall_mem_cons.mpr ⟨⟨(trivial), trivial⟩, ?_⟩
  refine List.forall_mem_cons.mpr ⟨⟨(trivial), trivial⟩, ?_⟩
  refine List.forall_mem_cons.mpr ⟨⟨(trivial), trivial⟩, ?_⟩
  refine List.forall_mem_cons.mpr ⟨⟨(trivial), trivial⟩, ?_⟩
  refine List.forall_mem_cons.mpr ⟨⟨(show (0 : Int) ≤ ((136 : Nat) : Int) + 33 by decide), trivial⟩, ?_⟩
  refine List.forall_mem_cons.mpr ⟨⟨(trivial), trivial⟩, ?_⟩
  refine List.forall_mem_cons.mpr ⟨⟨(trivial), trivial⟩, ?_⟩
  refine List.forall_mem_cons.mpr ⟨⟨(mj_lkG (by decide) rfl (by decide) mj_inU6 mjf_6_26), trivial⟩, ?_⟩
  refine List.forall_mem_cons.mpr ⟨⟨(trivial), trivial⟩, ?_⟩
  refine List.forall_mem_cons.mpr ⟨⟨(mj_lkG (by decide) rfl (by decide) mj_inU6 mjf_6_56), trivial⟩, ?_⟩
  refine List.forall_mem_cons.mpr ⟨⟨(trivial), trivial⟩, ?_⟩
  refine List.forall_mem_cons.mpr ⟨⟨(mj_lkG (by decide) rfl (by decide) mj_inU4 mjf_6_83), trivial⟩, ?_⟩
  refine List.forall_mem_cons.mpr ⟨⟨(trivial), trivial⟩, ?_⟩
  refine List.forall_mem_cons.mpr ⟨⟨(trivial), trivial⟩, ?_⟩
  refine List.forall_mem_cons.mpr ⟨⟨(trivial), mj_ckOf mjK_87 (by decide) (mj_lnkG mjl_6_86)⟩, ?_⟩
  refine List.forall_mem_cons.mpr ⟨⟨(show (0 : Int) ≤ ((158 : Nat) : Int) + 11 by decide), trivial⟩, ?_⟩
  refine List.forall_mem_cons.mpr ⟨⟨(trivial), trivial⟩, ?_⟩
  refine List.forall_mem_cons.mpr ⟨⟨(trivial), trivial⟩, ?_⟩
  refine List.forall_mem_cons.mpr ⟨⟨(trivial), mj_ckOf mjK_88 (by decide) (mj_lnkG mjl_6_90)⟩, ?_⟩
  refine List.forall_mem_cons.mpr ⟨⟨(show (0 : Int) ≤ ((166 : Nat) : Int) + 3 by decide), trivial⟩, ?_⟩
  refine List.forall_mem_cons.mpr ⟨⟨(trivial), trivial⟩, ?_⟩
  exact fun _ h => absurd h List.not_mem_nil
theorem mjd_85 : mj_ckd 85 = true := by decide +kernel
theorem mjg_85 : mj_good 85 := mj_goodOf (fun _ => ⟨mj_G, rfl⟩) (by decide +kernel) mjd_85 mje_85
theorem mje_86 : ∀ e ∈ mj_tb86, mj_lk 86 e.1 e.2.1 e.2.2.1 e.2.2.2 ∧ mj_cok 86 e.2.1 e.2.2.1 e.2.2.2 := by
  unfold mj_tb86
  refine List.forall_mem_cons.mpr ⟨⟨(trivial), trivial⟩, ?_⟩
  refine List.forall_mem_cons.mpr ⟨⟨(mj_lkG (by decide) rfl (by decide) mj_inU6 mjf_6_9), trivial⟩, ?_⟩
  refine List.forall_mem_cons.mpr ⟨⟨(trivial), trivial⟩, ?_⟩
  refine List.forall_mem_cons.mpr ⟨⟨(trivial), trivial⟩, ?_⟩
  refine List.forall_mem_cons.mpr ⟨⟨(show (0 : Int) ≤ ((6 : Nat) : Int) + 11 by decide), trivial⟩, ?_⟩
  refine List.forall_mem_cons.mpr ⟨⟨(trivial), trivial⟩, ?_⟩
  refine List.forall_mem_cons.mpr ⟨⟨(trivial), trivial⟩, ?_⟩
  refine List.forall_mem_cons.mpr ⟨⟨(mj_lkP (by decide) rfl (by decide) mj_inU6 mjf_6_37 mj_TyOk6 mj_Nm6 (Or.inl rfl) rfl), trivial⟩, ?_⟩
  refine List.forall_mem_cons.mpr ⟨⟨(show (0 : Int) ≤ ((14 : Nat) : Int) + 18 by decide), trivial⟩, ?_⟩
  refine List.forall_mem_cons.mpr ⟨⟨(trivial), trivial⟩, ?_⟩
  refine List.forall_mem_cons.mpr ⟨⟨(mj_lkG (by decide) rfl (by decide) mj_inU6 mjf_6_9), trivial⟩, ?_⟩
  refine List.forall_mem_cons.mpr ⟨⟨(trivial), trivial⟩, ?_⟩
  refine List.forall_mem_cons.mpr ⟨⟨(trivial), trivial⟩, ?_⟩
  refine List.forall_mem_cons.mpr ⟨⟨(trivial), trivial⟩, ?_⟩
  refine List.forall_mem_cons.mpr ⟨⟨(trivial), trivial⟩, ?_⟩
  refine List.forall_mem_cons.mpr ⟨⟨(mj_lkG (by decide) rfl (by decide) mj_inU6 mjf_6_9), trivial⟩, ?_⟩
  refine List.forall_mem_cons.mpr ⟨⟨(trivial), trivial⟩, ?_⟩
  refine List.forall_mem_cons.mpr ⟨⟨(trivial), trivial⟩, ?_⟩
  refine List.forall_mem_cons.mpr ⟨⟨(trivial), trivial⟩, ?_⟩
  refine List.forall_mem_cons.mpr ⟨⟨(trivial), trivial⟩, ?_⟩
  refine List.forall_mem_cons.mpr ⟨⟨(trivial), trivial⟩, ?_⟩
  exact fun _ h => absurd h List.not_mem_nil
theorem mjd_86 : mj_ckd 86 = true := by decide +kernel
theorem mjg_86 : mj_good 86 := mj_goodOf (fun _ => ⟨mj_G, rfl⟩) (by decide +kernel) mjd_86 mje_86
theorem mje_87 : ∀ e ∈ mj_tb87, mj_lk 87 e.1 e.2.1 e.2.2.1 e.2.2.2 ∧ mj_cok 87 e.2.1 e.2.2.1 e.2.2.2 := by
  unfold mj_tb87
  refine List.forall_mem_cons.mpr ⟨⟨(trivial), trivial⟩, ?_⟩
  refine List.forall_mem_cons.mpr ⟨⟨(mj_lkG (by decide) rfl (by decide) mj_inU6 mjf_6_23), trivial⟩, ?_⟩
  refine List.forall_mem_cons.mpr ⟨⟨(trivial), trivial⟩, ?_⟩
  refine List.forall_mem_cons.mpr ⟨⟨(mj_lkG (by decide) rfl (by decide) mj_inU6 mjf_6_56), trivial⟩, ?_⟩
  refine List.forall_mem_cons.mpr ⟨⟨(trivial), trivial⟩, ?_⟩
  refine List.forall_mem_cons.mpr ⟨⟨(trivial), trivial⟩, ?_⟩
  refine List.forall_mem_cons.mpr ⟨⟨(trivial), trivial⟩, ?_⟩
  refine List.forall_mem_cons.mpr ⟨⟨(trivial), trivial⟩, ?_⟩
  refine List.forall_mem_cons.mpr ⟨⟨(trivial), trivial⟩, ?_⟩
  refine List.forall_mem_cons.mpr ⟨⟨(trivial), trivial⟩, ?_⟩
  refine List.forall_mem_cons.mpr ⟨⟨(trivial), trivial⟩, ?_⟩
  refine List.forall_mem_cons.mpr ⟨⟨(trivial), trivial⟩, ?_⟩
  refine List.forall_mem_cons.mpr ⟨⟨(mj_lkG (by decide) rfl (by decide) mj_inU6 mjf_6_23), trivial⟩, ?_⟩
  refine List.forall_mem_cons.mpr ⟨⟨(trivial), trivial⟩, ?_⟩
  refine List.forall_mem_cons.mpr ⟨⟨(mj_lkG (by decide) rfl (by decide) mj_inU6 mjf_6_56), trivial⟩, ?_⟩
  refine List.forall_mem_cons.mpr ⟨⟨(trivial), trivial⟩, ?_⟩
  refine List.forall_mem_cons.mpr ⟨⟨(trivial), trivial⟩, ?_⟩
  refine List.forall_mem_cons.mpr ⟨⟨(trivial), trivial⟩, ?_⟩
  refine List.forall_mem_cons.mpr ⟨⟨(show (0 : Int) ≤ ((26 : Nat) : Int) + 10 by decide), trivial⟩, ?_⟩
  refine List.forall_mem_cons.mpr ⟨⟨(trivial), trivial⟩, ?_⟩
  refine List.forall_mem_cons.mpr ⟨⟨(trivial), trivial⟩, ?_⟩
  refine List.forall_mem_cons.mpr ⟨⟨(trivial), trivial⟩, ?_⟩
  refine List.forall_mem_cons.mpr ⟨⟨(trivial), trivial⟩, ?_⟩
  refine List.forall_mem_cons.mpr ⟨⟨(mj_lkP (by decide) rfl (by decide) mj_inU6 mjf_6_59 mj_TyOk6 mj_Nm6 (Or.inl rfl) rfl), trivial⟩, ?_⟩
  refine List.forall_mem_cons.mpr ⟨⟨(trivial), trivial⟩, ?_⟩
  exact fun _ h => absurd h List.not_mem_nil
theorem mjd_87 : mj_ckd 87 = true := by decide +kernel
theorem mjg_87 : mj_good 87 := mj_goodOf (fun _ => ⟨mj_G, rfl⟩) (by decide +kernel) mjd_87 mje_87
theorem mje_88 : ∀ e ∈ mj_tb88, mj_lk 88 e.1 e.2.1 e.2.2.1 e.2.2.2 ∧ mj_cok 88 e.2.1 e.2.2.1 e.2.2.2 := by
  unfold mj_tb88
  refine List.forall_mem_cons.mpr ⟨⟨(trivial), trivial⟩, ?_⟩
  refine List.forall_mem_cons.mpr ⟨⟨(mj_lkG (by decide) rfl (by decide) mj_inU6 mjf_6_15), trivial⟩, ?_⟩
  refine List.forall_mem_cons.mpr ⟨⟨(trivial), trivial⟩, ?_⟩
  refine List.forall_mem_cons.mpr ⟨⟨(trivial), trivial⟩, ?_⟩
  refine List.forall_mem_cons.mpr ⟨⟨(mj_lkG (by decide) rfl (by decide) mj_inU6 mjf_6_56), trivial⟩, ?_⟩
  refine List.forall_mem_cons.mpr ⟨⟨(trivial), trivial⟩, ?_⟩
  refine List.forall_mem_cons.mpr ⟨⟨(trivial), trivial⟩, ?_⟩
  refine List.forall_mem_cons.mpr ⟨⟨(mj_lkG (by decide) rfl (by decide) mj_inU6 mjf_6_18), trivial⟩, ?_⟩
  refine List.forall_mem_cons.mpr ⟨⟨(trivial), trivial⟩, ?_⟩
  refine List.forall_mem_cons.mpr ⟨⟨(trivial), trivial⟩, ?_⟩
  refine List.forall_mem_cons.mpr ⟨⟨(mj_lkG (by decide) rfl (by decide) mj_inU6 mjf_6_59), trivial⟩, ?_⟩
  refine List.forall_mem_cons.mpr ⟨⟨(trivial), trivial⟩, ?_⟩
  refine List.forall_mem_cons.mpr ⟨⟨(trivial), trivial⟩, ?_⟩
  refine List.forall_mem_cons.mpr ⟨⟨(trivial), trivial⟩, ?_⟩
  refine List.forall_mem_cons.mpr ⟨⟨(mj_lkP (by decide) rfl (by decide) mj_inU6 mjf_6_56 mj_TyOk6 mj_Nm6 (Or.inl rfl) rfl), trivial⟩, ?_⟩
  refine List.forall_mem_cons.mpr ⟨⟨(trivial), trivial⟩, ?_⟩
  refine List.forall_mem_cons.mpr ⟨⟨(trivial), trivial⟩, ?_⟩
  refine List.forall_mem_cons.mpr ⟨⟨(mj_lkP (by decide) rfl (by decide) mj_inU6 mjf_6_59 mj_TyOk6 mj_Nm6 (Or.inl rfl) rfl), trivial⟩, ?_⟩
  refine List.forall_mem_cons.mpr ⟨⟨(trivial), trivial⟩, ?_⟩
  exact fun _ h => absurd h List.not_mem_nil
theorem mjd_88 : mj_ckd 88 = true := by decide +kernel
theorem mjg_88 : mj_good 88 := mj_goodOf (fun _ => ⟨mj_G, rfl⟩) (by decide +kernel) mjd_88 mje_88
theorem mje_89 : ∀ e ∈ mj_tb89, mj_lk 89 e.1 e.2.1 e.2.2.1 e.2.2.2 ∧ mj_cok 89 e.2.1 e.2.2.1 e.2.2.2 := by
  unfold mj_tb89
  refine List.forall_mem_cons.mpr ⟨⟨(trivial), trivial⟩, ?_⟩
  refine List.forall_mem_cons.mpr ⟨⟨(mj_lkG (by decide) rfl (by decide) mj_inU5 mjf_5_11), trivial⟩, ?_⟩
  refine List.forall_mem_cons.mpr ⟨⟨(trivial), trivial⟩, ?_⟩
  refine List.forall_mem_cons.mpr ⟨⟨(trivial), trivial⟩, ?_⟩
  refine List.forall_mem_cons.mpr ⟨⟨(show (3 : Nat) < mj_maxL 89 by decide), trivial⟩, ?_⟩
  refine List.forall_mem_cons.mpr ⟨⟨(trivial), trivial⟩, ?_⟩
  refine List.forall_mem_cons.mpr ⟨⟨(mj_lkG (by decide) rfl (by decide) mj_inU5 mjf_5_50), trivial⟩, ?_⟩
  refine List.forall_mem_cons.mpr ⟨⟨(trivial), trivial⟩, ?_⟩
  refine List.forall_mem_cons.mpr ⟨⟨(mj_lkG (by decide) rfl (by decide) mj_inU8 mjf_5_104), trivial⟩, ?_⟩
  refine List.forall_mem_cons.mpr ⟨⟨(mj_lkG (by decide) rfl (by decide) mj_inU6 mjf_5_117), trivial⟩, ?_⟩
  refine List.forall_mem_cons.mpr ⟨⟨(trivial), trivial⟩, ?_⟩
  refine List.forall_mem_cons.mpr ⟨⟨(show (4 : Nat) < mj_maxL 89 by decide), trivial⟩, ?_⟩
  refine List.forall_mem_cons.mpr ⟨⟨(trivial), trivial⟩, ?_⟩
  refine List.forall_mem_cons.mpr ⟨⟨(mj_lkG (by decide) rfl (by decide) mj_inU8 mjf_5_104), trivial⟩, ?_⟩
  refine List.forall_mem_cons.mpr ⟨⟨(trivial), trivial⟩, ?_⟩
  refine List.forall_mem_cons.mpr ⟨⟨(mj_lkP (by decide) rfl (by decide) mj_inU6 mjf_5_112 mj_TyOk6 mj_Nm6 (Or.inl rfl) rfl), trivial⟩, ?_⟩
  refine List.forall_mem_cons.mpr ⟨⟨(trivial), trivial⟩, ?_⟩
  refine List.forall_mem_cons.mpr ⟨⟨(trivial), trivial⟩, ?_⟩
  refine List.forall_mem_cons.mpr ⟨⟨(mj_lkP (by decide) rfl (by decide) mj_inU5 mjf_5_53 mj_TyOk5 mj_Nm5 (Or.inl rfl) rfl), trivial⟩, ?_⟩
  refine List.forall_mem_cons.mpr ⟨⟨(trivial), trivial⟩, ?_⟩
  refine List.forall_mem_cons.mpr ⟨⟨(trivial), trivial⟩, ?_⟩
  refine List.forall_mem_cons.mpr ⟨⟨(mj_lkG (by decide) rfl (by decide) mj_inU8 mjf_5_220), trivial⟩, ?_⟩
  refine List.forall_mem_cons.mpr ⟨⟨(trivial), trivial⟩, ?_⟩
  refine List.forall_mem_cons.mpr ⟨⟨(trivial), ⟨mj_Gws (mj_Gin 688 (by decide +kernel) rfl), mj_Gws (mj_Gin 474 (by decide +kernel) rfl), mj_Gws (mj_Gin 13 (by decide +kernel) rfl), mj_Gws (mj_Gin 475 (by decide +kernel) rfl), by decide, by decide⟩⟩, ?_⟩
  refine List.forall_mem_cons.mpr ⟨⟨(mj_lkP (by decide) rfl (by decide) mj_inU8 mjf_5_220 mj_TyOk8 mj_Nm8 (Or.inl rfl) rfl), trivial⟩, ?_⟩
  refine List.forall_mem_cons.mpr ⟨⟨(trivial), trivial⟩, ?_⟩
  refine List.forall_mem_cons.mpr ⟨⟨(trivial), trivial⟩, ?_⟩
  refine List.forall_mem_cons.mpr ⟨⟨(mj_lkG (by decide) rfl (by decide) mj_inU8 mjf_5_228), trivial⟩, ?_⟩
  refine List.forall_mem_cons.mpr ⟨⟨(mj_lkG (by decide) rfl (by decide) mj_inU3 mjf_5_232), trivial⟩, ?_⟩
  refine List.forall_mem_cons.mpr ⟨⟨(show (0 : Int) ≤ ((56 : Nat) : Int) + 13 by decide), trivial⟩, ?_⟩
  refine List.forall_mem_cons.mpr ⟨⟨(trivial), trivial⟩, ?_⟩
  refine List.forall_mem_cons.mpr ⟨⟨(trivial), trivial⟩, ?_⟩
  refine List.forall_mem_cons.mpr ⟨⟨(mj_lkG (by decide) rfl (by decide) mj_inU5 mjf_5_62), trivial⟩, ?_⟩
  refine List.forall_mem_cons.mpr ⟨⟨(trivial), trivial⟩, ?_⟩
  refine List.forall_mem_cons.mpr ⟨⟨(trivial), trivial⟩, ?_⟩
  refine List.forall_mem_cons.mpr ⟨⟨(mj_lkP (by decide) rfl (by decide) mj_inU5 mjf_5_62 mj_TyOk5 mj_Nm5 (Or.inl rfl) rfl), trivial⟩, ?_⟩
  refine List.forall_mem_cons.mpr ⟨⟨(trivial), trivial⟩, ?_⟩
  refine List.forall_mem_cons.mpr ⟨⟨(mj_lkG (by decide) rfl (by decide) mj_inU5 mjf_5_24), trivial⟩, ?_⟩
  refine List.forall_mem_cons.mpr ⟨⟨(trivial), trivial⟩, ?_⟩
  refine List.forall_mem_cons.mpr ⟨⟨(trivial), trivial⟩, ?_⟩
  refine List.forall_mem_cons.mpr ⟨⟨(trivial), trivial⟩, ?_⟩
  refine List.forall_mem_cons.mpr ⟨⟨(mj_lkG (by decide) rfl (by decide) mj_inU5 mjf_5_50), trivial⟩, ?_⟩
  refine List.forall_mem_cons.mpr ⟨⟨(trivial), trivial⟩, ?_⟩
  refine List.forall_mem_cons.mpr ⟨⟨(trivial), mj_ckOf mjK_68 (by decide) (mj_lnkG mjl_5_120)⟩, ?_⟩
  refine List.forall_mem_cons.mpr ⟨⟨(trivial), trivial⟩, ?_⟩
  exact fun _ h => absurd h List.not_mem_nil
theorem mjd_89 : mj_ckd 89 = true := by decide +kernel
theorem mjg_89 : mj_good 89 := mj_goodOf (fun _ => ⟨mj_G, rfl⟩) (by decide +kernel) mjd_89 mje_89
theorem mje_90 : ∀ e ∈ mj_tb90, mj_lk 90 e.1 e.2.1 e.2.2.1 e.2.2.2 ∧ mj_cok 90 e.2.1 e.2.2.1 e.2.2.2 := by
  unfold mj_tb90
  refine List.forall_mem_cons.mpr ⟨⟨(trivial), trivial⟩, ?_⟩
  refine List.forall_mem_cons.mpr ⟨⟨(show (1 : Nat) < mj_maxL 90 by decide), trivial⟩, ?_⟩
  refine List.forall_mem_cons.mpr ⟨⟨(trivial), trivial⟩, ?_⟩
  refine List.forall_mem_cons.mpr ⟨⟨(trivial), trivial⟩, ?_⟩
  refine List.forall_mem_cons.mpr ⟨⟨(show (0 : Int) ≤ ((4 : Nat) : Int) + 61 by decide), trivial⟩, ?_⟩
  refine List.forall_mem_cons.mpr ⟨⟨(trivial), trivial⟩, ?_⟩
  refine List.forall_mem_cons.mpr ⟨⟨(mj_lkG (by decide) rfl (by decide) mj_inU6 mjf_6_56), trivial⟩, ?_⟩
  refine List.forall_mem_cons.mpr ⟨⟨(show (0 : Int) ≤ ((11 : Nat) : Int) + 54 by decide), trivial⟩, ?_⟩
  refine List.forall_mem_cons.mpr ⟨⟨(trivial), trivial⟩, ?_⟩
  refine List.forall_mem_cons.mpr ⟨⟨(mj_lkG (by decide) rfl (by decide) mj_inU6 mjf_6_59), trivial⟩, ?_⟩
  refine List.forall_mem_cons.mpr ⟨⟨(trivial), trivial⟩, ?_⟩
  refine List.forall_mem_cons.mpr ⟨⟨(mj_lkG (by decide) rfl (by decide) mj_inU6 mjf_6_26), trivial⟩, ?_⟩
  refine List.forall_mem_cons.mpr ⟨⟨(trivial), trivial⟩, ?_⟩
  refine List.forall_mem_cons.mpr ⟨⟨(mj_lkG (by decide) rfl (by decide) mj_inU6 mjf_6_56), trivial⟩, ?_⟩
  refine List.forall_mem_cons.mpr ⟨⟨(trivial), trivial⟩, ?_⟩
  refine List.forall_mem_cons.mpr ⟨⟨(mj_lkG (by decide) rfl (by decide) mj_inU4 mjf_6_93), trivial⟩, ?_⟩
  refine List.forall_mem_cons.mpr ⟨⟨(show (0 : Int) ≤ ((30 : Nat) : Int) + 35 by decide), trivial⟩, ?_⟩
  refine List.forall_mem_cons.mpr ⟨⟨(trivial), trivial⟩, ?_⟩
  refine List.forall_mem_cons.mpr ⟨⟨(trivial), trivial⟩, ?_⟩
  refine List.forall_mem_cons.mpr ⟨⟨(mj_lkG (by decide) rfl (by decide) mj_inU6 mjf_6_18), trivial⟩, ?_⟩
  refine List.forall_mem_cons.mpr ⟨⟨(trivial), trivial⟩, ?_⟩
  refine List.forall_mem_cons.mpr ⟨⟨(mj_lkG (by decide) rfl (by decide) mj_inU6 mjf_6_56), trivial⟩, ?_⟩
  refine List.forall_mem_cons.mpr ⟨⟨(trivial), trivial⟩, ?_⟩
  refine List.forall_mem_cons.mpr ⟨⟨(mj_lkP (by decide) rfl (by decide) mj_inU6 mjf_6_59 mj_TyOk6 mj_Nm6 (Or.inl rfl) rfl), trivial⟩, ?_⟩
  refine List.forall_mem_cons.mpr ⟨⟨(trivial), trivial⟩, ?_⟩
  refine List.forall_mem_cons.mpr ⟨⟨(trivial), trivial⟩, ?_⟩
  refine List.forall_mem_cons.mpr ⟨⟨(mj_lkG (by decide) rfl (by decide) mj_inU6 mjf_6_15), trivial⟩, ?_⟩
  refine List.forall_mem_cons.mpr ⟨⟨(trivial), trivial⟩, ?_⟩
  refine List.forall_mem_cons.mpr ⟨⟨(mj_lkG (by decide) rfl (by decide) mj_inU6 mjf_6_56), trivial⟩, ?_⟩
  refine List.forall_mem_cons.mpr ⟨⟨(trivial), trivial⟩, ?_⟩
  refine List.forall_mem_cons.mpr ⟨⟨(mj_lkP (by decide) rfl (by decide) mj_inU6 mjf_6_56 mj_TyOk6 mj_Nm6 (Or.inl rfl) rfl), trivial⟩, ?_⟩
  refine List.forall_mem_cons.mpr ⟨⟨(show (1 : Nat) < mj_maxL 90 by decide), trivial⟩, ?_⟩
  refine List.forall_mem_cons.mpr ⟨⟨(show (0 : Int) ≤ ((62 : Nat) : Int) + (-60) by decide), trivial⟩, ?_⟩
  refine List.forall_mem_cons.mpr ⟨⟨(trivial), trivial⟩, ?_⟩
  refine List.forall_mem_cons.mpr ⟨⟨(mj_lkG (by decide) rfl (by decide) mj_inU6 mjf_6_59), trivial⟩, ?_⟩
  refine List.forall_mem_cons.mpr ⟨⟨(trivial), trivial⟩, ?_⟩
  refine List.forall_mem_cons.mpr ⟨⟨(mj_lkG (by decide) rfl (by decide) mj_inU6 mjf_6_26), trivial⟩, ?_⟩
  refine List.forall_mem_cons.mpr ⟨⟨(trivial), trivial⟩, ?_⟩
  refine List.forall_mem_cons.mpr ⟨⟨(mj_lkG (by decide) rfl (by decide) mj_inU6 mjf_6_56), trivial⟩, ?_⟩
  refine List.forall_mem_cons.mpr ⟨⟨(trivial), trivial⟩, ?_⟩
  refine List.forall_mem_cons.mpr ⟨⟨(mj_lkG (by decide) rfl (by decide) mj_inU4 mjf_6_93), trivial⟩, ?_⟩
  refine List.forall_mem_cons.mpr ⟨⟨(show (0 : Int) ≤ ((81 : Nat) : Int) + 7 by decide), trivial⟩, ?_⟩
  refine List.forall_mem_cons.mpr ⟨⟨(trivial), trivial⟩, ?_⟩
  refine List.forall_mem_cons.mpr ⟨⟨(show (0 : Int) ≤ ((85 : Nat) : Int) + 4 by decide), trivial⟩, ?_⟩
  refine List.forall_mem_cons.mpr ⟨⟨(trivial), trivial⟩, ?_⟩
  refine List.forall_mem_cons.mpr ⟨⟨(trivial), trivial⟩, ?_⟩
  exact fun _ h => absurd h List.not_mem_nil
theorem mjd_90 : mj_ckd 90 = true := by decide +kernel
theorem mjg_90 : mj_good 90 := mj_goodOf (fun _ => ⟨mj_G, rfl⟩) (by decide +kernel) mjd_90 mje_90
theorem mje_91 : ∀ e ∈ mj_tb91, mj_lk 91 e.1 e.2.1 e.2.2.1 e.2.2.2 ∧ mj_cok 91 e.2.1 e.2.2.1 e.2.2.2 := by
  unfold mj_tb91
  refine List.forall_mem_cons.mpr ⟨⟨(trivial), trivial⟩, ?_⟩
  refine List.forall_mem_cons.mpr ⟨⟨(mj_lkG (by decide) rfl (by decide) mj_inU0 mjf_0_35), trivial⟩, ?_⟩
  refine List.forall_mem_cons.mpr ⟨⟨(mj_lkG (by decide) rfl (by decide) mj_inU5 mjf_0_43), trivial⟩, ?_⟩
  refine List.forall_mem_cons.mpr ⟨⟨(show (0 : Int) ≤ ((7 : Nat) : Int) + 14 by decide), trivial⟩, ?_⟩
  refine List.forall_mem_cons.mpr ⟨⟨(trivial), trivial⟩, ?_⟩
  refine List.forall_mem_cons.mpr ⟨⟨(mj_lkG (by decide) rfl (by decide) mj_inU0 mjf_0_35), trivial⟩, ?_⟩
  refine List.forall_mem_cons.mpr ⟨⟨(trivial), trivial⟩, ?_⟩
  refine List.forall_mem_cons.mpr ⟨⟨(trivial), mj_ckOf mjK_92 (by decide) (mj_lnkG mjl_0_136)⟩, ?_⟩
  refine List.forall_mem_cons.mpr ⟨⟨(show (0 : Int) ≤ ((18 : Nat) : Int) + 4 by decide), trivial⟩, ?_⟩
  refine List.forall_mem_cons.mpr ⟨⟨(trivial), trivial⟩, ?_⟩
  refine List.forall_mem_cons.mpr ⟨⟨(trivial), trivial⟩, ?_⟩
  exact fun _ h => absurd h List.not_mem_nil
theorem mjd_91 : mj_ckd 91 = true := by decide +kernel
theorem mjg_91 : mj_good 91 := mj_goodOf (fun _ => ⟨mj_G, rfl⟩) (by decide +kernel) mjd_91 mje_91
theorem mje_92 : ∀ e ∈ mj_tb92, mj_lk 92 e.1 e.2.1 e.2.2.1 e.2.2.2 ∧ mj_cok 92 e.2.1 e.2.2.1 e.2.2.2 := by
  unfold mj_tb92
  refine List.forall_mem_cons.mpr ⟨⟨(trivial), trivial⟩, ?_⟩
  refine List.forall_mem_cons.mpr ⟨⟨(show (0 : Int) ≤ ((1 : Nat) : Int) + 81 ∧ ∀ off ∈ (#[43, 48, 53, 58, 66, 71, 76] : Array Int).toList, (0 : Int) ≤ ((1 : Nat) : Int) + off by decide), trivial⟩, ?_⟩
  refine List.forall_mem_cons.mpr ⟨⟨(trivial), trivial⟩, ?_⟩
  refine List.forall_mem_cons.mpr ⟨⟨(mj_lkG (by decide) rfl (by decide) mj_inU5 mjf_5_50), trivial⟩, ?_⟩
  refine List.forall_mem_cons.mpr ⟨⟨(trivial), trivial⟩, ?_⟩
  refine List.forall_mem_cons.mpr ⟨⟨(trivial), trivial⟩, ?_⟩
  refine List.forall_mem_cons.mpr ⟨⟨(mj_lkG (by decide) rfl (by decide) mj_inU5 mjf_5_56), trivial⟩, ?_⟩
  refine List.forall_mem_cons.mpr ⟨⟨(trivial), trivial⟩, ?_⟩
  refine List.forall_mem_cons.mpr ⟨⟨(trivial), trivial⟩, ?_⟩
  refine List.forall_mem_cons.mpr ⟨⟨(mj_lkG (by decide) rfl (by decide) mj_inU5 mjf_5_59), trivial⟩, ?_⟩
  refine List.forall_mem_cons.mpr ⟨⟨(trivial), trivial⟩, ?_⟩
  refine List.forall_mem_cons.mpr ⟨⟨(trivial), trivial⟩, ?_⟩
  refine List.forall_mem_cons.mpr ⟨⟨(mj_lkG (by decide) rfl (by decide) mj_inU5 mjf_5_24), trivial⟩, ?_⟩
  refine List.forall_mem_cons.mpr ⟨⟨(mj_lkG (by decide) rfl (by decide) mj_inU7 mjf_5_71), trivial⟩, ?_⟩
  refine List.forall_mem_cons.mpr ⟨⟨(trivial), trivial⟩, ?_⟩
  refine List.forall_mem_cons.mpr ⟨⟨(trivial), trivial⟩, ?_⟩
  refine List.forall_mem_cons.mpr ⟨⟨(mj_lkG (by decide) rfl (by decide) mj_inU5 mjf_5_62), trivial⟩, ?_⟩
  refine List.forall_mem_cons.mpr ⟨⟨(trivial), trivial⟩, ?_⟩
  refine List.forall_mem_cons.mpr ⟨⟨(trivial), trivial⟩, ?_⟩
  refine List.forall_mem_cons.mpr ⟨⟨(mj_lkG (by decide) rfl (by decide) mj_inU5 mjf_5_65), trivial⟩, ?_⟩
  refine List.forall_mem_cons.mpr ⟨⟨(trivial), trivial⟩, ?_⟩
  refine List.forall_mem_cons.mpr ⟨⟨(trivial), trivial⟩, ?_⟩
  refine List.forall_mem_cons.mpr ⟨⟨(mj_lkG (by decide) rfl (by decide) mj_inU5 mjf_5_68), trivial⟩, ?_⟩
  refine List.forall_mem_cons.mpr ⟨⟨(trivial), trivial⟩, ?_⟩
  refine List.forall_mem_cons.mpr ⟨⟨(trivial), trivial⟩, ?_⟩
  refine List.forall_mem_cons.mpr ⟨⟨(trivial), trivial⟩, ?_⟩
  exact fun _ h => absurd h List.not_mem_nil
theorem mjd_92 : mj_ckd 92 = true := by decide +kernel
theorem mjg_92 : mj_good 92 := mj_goodOf (fun _ => ⟨mj_G, rfl⟩) (by decide +kernel) mjd_92 mje_92
theorem mje_93 : ∀ e ∈ mj_tb93, mj_lk 93 e.1 e.2.1 e.2.2.1 e.2.2.2 ∧ mj_cok 93 e.2.1 e.2.2.1 e.2.2.2 := by
  unfold mj_tb93
  refine List.forall_mem_cons.mpr ⟨⟨(trivial), trivial⟩, ?_⟩
  refine List.forall_mem_cons.mpr ⟨⟨(trivial), trivial⟩, ?_⟩
  refine List.forall_mem_cons.mpr ⟨⟨(trivial), mj_ckOf mjK_59 (by decide) (mj_lnkG mjl_0_116)⟩, ?_⟩
  refine List.forall_mem_cons.mpr ⟨⟨(show (0 : Int) ≤ ((5 : Nat) : Int) + 15 by decide), trivial⟩, ?_⟩
  refine List.forall_mem_cons.mpr ⟨⟨(trivial), trivial⟩, ?_⟩
  refine List.forall_mem_cons.mpr ⟨⟨(mj_lkG (by decide) rfl (by decide) mj_inU0 mjf_0_35), trivial⟩, ?_⟩
  refine List.forall_mem_cons.mpr ⟨⟨(trivial), trivial⟩, ?_⟩
  refine List.forall_mem_cons.mpr ⟨⟨(trivial), trivial⟩, ?_⟩
  refine List.forall_mem_cons.mpr ⟨⟨(trivial), mj_ckOf mjK_94 (by decide) (mj_lnkG mjl_0_139)⟩, ?_⟩
  refine List.forall_mem_cons.mpr ⟨⟨(show (0 : Int) ≤ ((17 : Nat) : Int) + 4 by decide), trivial⟩, ?_⟩
  refine List.forall_mem_cons.mpr ⟨⟨(trivial), trivial⟩, ?_⟩
  refine List.forall_mem_cons.mpr ⟨⟨(trivial), trivial⟩, ?_⟩
  exact fun _ h => absurd h List.not_mem_nil
theorem mjd_93 : mj_ckd 93 = true := by decide +kernel
theorem mjg_93 : mj_good 93 := mj_goodOf (fun _ => ⟨mj_G, rfl⟩) (by decide +kernel) mjd_93 mje_93
theorem mje_94 : ∀ e ∈ mj_tb94, mj_lk 94 e.1 e.2.1 e.2.2.1 e.2.2.2 ∧ mj_cok 94 e.2.1 e.2.2.1 e.2.2.2 := by
  unfold mj_tb94
  refine List.forall_mem_cons.mpr ⟨⟨(trivial), trivial⟩, ?_⟩
  refine List.forall_mem_cons.mpr ⟨⟨(mj_lkG (by decide) rfl (by decide) mj_inU5 mjf_5_11), trivial⟩, ?_⟩
  refine List.forall_mem_cons.mpr ⟨⟨(trivial), trivial⟩, ?_⟩
  refine List.forall_mem_cons.mpr ⟨⟨(trivial), trivial⟩, ?_⟩
  refine List.forall_mem_cons.mpr ⟨⟨(mj_lkG (by decide) rfl (by decide) mj_inU8 mjf_5_104), trivial⟩, ?_⟩
  refine List.forall_mem_cons.mpr ⟨⟨(show (3 : Nat) < mj_maxL 94 by decide), trivial⟩, ?_⟩
  refine List.forall_mem_cons.mpr ⟨⟨(trivial), trivial⟩, ?_⟩
  refine List.forall_mem_cons.mpr ⟨⟨(mj_lkG (by decide) rfl (by decide) mj_inU6 mjf_5_112), trivial⟩, ?_⟩
  refine List.forall_mem_cons.mpr ⟨⟨(show (0 : Int) ≤ ((14 : Nat) : Int) + 5 by decide), trivial⟩, ?_⟩
  refine List.forall_mem_cons.mpr ⟨⟨(trivial), trivial⟩, ?_⟩
  refine List.forall_mem_cons.mpr ⟨⟨(trivial), trivial⟩, ?_⟩
  refine List.forall_mem_cons.mpr ⟨⟨(trivial), trivial⟩, ?_⟩
  refine List.forall_mem_cons.mpr ⟨⟨(show (0 : Int) ≤ ((20 : Nat) : Int) + 57 ∧ ∀ off ∈ (#[32, 37, 47, 52] : Array Int).toList, (0 : Int) ≤ ((20 : Nat) : Int) + off by decide), trivial⟩, ?_⟩
  refine List.forall_mem_cons.mpr ⟨⟨(trivial), trivial⟩, ?_⟩
  refine List.forall_mem_cons.mpr ⟨⟨(mj_lkG (by decide) rfl (by decide) mj_inU6 mjf_5_211), trivial⟩, ?_⟩
  refine List.forall_mem_cons.mpr ⟨⟨(trivial), trivial⟩, ?_⟩
  refine List.forall_mem_cons.mpr ⟨⟨(trivial), trivial⟩, ?_⟩
  refine List.forall_mem_cons.mpr ⟨⟨(mj_lkG (by decide) rfl (by decide) mj_inU5 mjf_5_50), trivial⟩, ?_⟩
  refine List.forall_mem_cons.mpr ⟨⟨(trivial), trivial⟩, ?_⟩
  refine List.forall_mem_cons.mpr ⟨⟨(mj_lkG (by decide) rfl (by decide) mj_inU6 mjf_5_117), trivial⟩, ?_⟩
  refine List.forall_mem_cons.mpr ⟨⟨(trivial), trivial⟩, ?_⟩
  refine List.forall_mem_cons.mpr ⟨⟨(trivial), trivial⟩, ?_⟩
  refine List.forall_mem_cons.mpr ⟨⟨(trivial), trivial⟩, ?_⟩
  refine List.forall_mem_cons.mpr ⟨⟨(mj_lkG (by decide) rfl (by decide) mj_inU6 mjf_5_237), trivial⟩, ?_⟩
  refine List.forall_mem_cons.mpr ⟨⟨(trivial), trivial⟩, ?_⟩
  refine List.forall_mem_cons.mpr ⟨⟨(trivial), trivial⟩, ?_⟩
  refine List.forall_mem_cons.mpr ⟨⟨(mj_lkG (by decide) rfl (by decide) mj_inU6 mjf_5_184), trivial⟩, ?_⟩
  refine List.forall_mem_cons.mpr ⟨⟨(trivial), trivial⟩, ?_⟩
  refine List.forall_mem_cons.mpr ⟨⟨(trivial), trivial⟩, ?_⟩
  refine List.forall_mem_cons.mpr ⟨⟨(trivial), trivial⟩, ?_⟩
  exact fun _ h => absurd h List.not_mem_nil
theorem mjd_94 : mj_ckd 94 = true := by decide +kernel
theorem mjg_94 : mj_good 94 := mj_goodOf (fun _ => ⟨mj_G, rfl⟩) (by decide +kernel) mjd_94 mje_94
theorem mje_95 : ∀ e ∈ mj_tb95, mj_lk 95 e.1 e.2.1 e.2.2.1 e.2.2.2 ∧ mj_cok 95 e.2.1 e.2.2.1 e.2.2.2 := by
  unfold mj_tb95
  refine List.forall_mem_cons.mpr ⟨⟨(trivial), trivial⟩, ?_⟩
  refine List.forall_mem_cons.mpr ⟨⟨(trivial), trivial⟩, ?_⟩
  refine List.forall_mem_cons.mpr ⟨⟨(trivial), mj_ckOf mjK_59 (by decide) (mj_lnkG mjl_0_116)⟩, ?_⟩
  refine List.forall_mem_cons.mpr ⟨⟨(show (0 : Int) ≤ ((5 : Nat) : Int) + 18 by decide), trivial⟩, ?_⟩
  refine List.forall_mem_cons.mpr ⟨⟨(trivial), trivial⟩, ?_⟩
  refine List.forall_mem_cons.mpr ⟨⟨(mj_lkG (by decide) rfl (by decide) mj_inU0 mjf_0_35), trivial⟩, ?_⟩
  refine List.forall_mem_cons.mpr ⟨⟨(mj_lkG (by decide) rfl (by decide) mj_inU5 mjf_0_119), trivial⟩, ?_⟩
  refine List.forall_mem_cons.mpr ⟨⟨(trivial), trivial⟩, ?_⟩
  refine List.forall_mem_cons.mpr ⟨⟨(trivial), trivial⟩, ?_⟩
  refine List.forall_mem_cons.mpr ⟨⟨(mj_lkG (by decide) rfl (by decide) mj_inU8 mjf_0_143), trivial⟩, ?_⟩
  refine List.forall_mem_cons.mpr ⟨⟨(show (0 : Int) ≤ ((20 : Nat) : Int) + 4 by decide), trivial⟩, ?_⟩
  refine List.forall_mem_cons.mpr ⟨⟨(trivial), trivial⟩, ?_⟩
  refine List.forall_mem_cons.mpr ⟨⟨(trivial), trivial⟩, ?_⟩
  exact fun _ h => absurd h List.not_mem_nil
theorem mjd_95 : mj_ckd 95 = true := by decide +kernel
theorem mjg_95 : mj_good 95 := mj_goodOf (fun _ => ⟨mj_G, rfl⟩) (by decide +kernel) mjd_95 mje_95
theorem mje_96 : ∀ e ∈ mj_tb96, mj_lk 96 e.1 e.2.1 e.2.2.1 e.2.2.2 ∧ mj_cok 96 e.2.1 e.2.2.1 e.2.2.2 := by
  unfold mj_tb96
  refine List.forall_mem_cons.mpr ⟨⟨(trivial), trivial⟩, ?_⟩
  refine List.forall_mem_cons.mpr ⟨⟨(trivial), trivial⟩, ?_⟩
  refine List.forall_mem_cons.mpr ⟨⟨(trivial), mj_ckOf mjK_59 (by decide) (mj_lnkG mjl_0_116)⟩, ?_⟩
  refine List.forall_mem_cons.mpr ⟨⟨(show (0 : Int) ≤ ((5 : Nat) : Int) + 29 by decide), trivial⟩, ?_⟩
  refine List.forall_mem_cons.mpr ⟨⟨(trivial), trivial⟩, ?_⟩
  refine List.forall_mem_cons.mpr ⟨⟨(trivial), trivial⟩, ?_⟩
  refine List.forall_mem_cons.mpr ⟨⟨(trivial), mj_ckOf mjK_15 (by decide) (mj_lnkG mjl_0_62)⟩, ?_⟩
  refine List.forall_mem_cons.mpr ⟨⟨(show (0 : Int) ≤ ((14 : Nat) : Int) + 20 by decide), trivial⟩, ?_⟩
  refine List.forall_mem_cons.mpr ⟨⟨(trivial), trivial⟩, ?_⟩
  refine List.forall_mem_cons.mpr ⟨⟨(mj_lkG (by decide) rfl (by decide) mj_inU0 mjf_0_35), trivial⟩, ?_⟩
  refine List.forall_mem_cons.mpr ⟨⟨(mj_lkG (by decide) rfl (by decide) mj_inU5 mjf_0_119), trivial⟩, ?_⟩
  refine List.forall_mem_cons.mpr ⟨⟨(trivial), trivial⟩, ?_⟩
  refine List.forall_mem_cons.mpr ⟨⟨(trivial), trivial⟩, ?_⟩
  refine List.forall_mem_cons.mpr ⟨⟨(mj_lkG (by decide) rfl (by decide) mj_inU8 mjf_0_146), trivial⟩, ?_⟩
  refine List.forall_mem_cons.mpr ⟨⟨(trivial), trivial⟩, ?_⟩
  refine List.forall_mem_cons.mpr ⟨⟨(trivial), trivial⟩, ?_⟩
  refine List.forall_mem_cons.mpr ⟨⟨(show (0 : Int) ≤ ((31 : Nat) : Int) + 4 by decide), trivial⟩, ?_⟩
  refine List.forall_mem_cons.mpr ⟨⟨(trivial), trivial⟩, ?_⟩
  refine List.forall_mem_cons.mpr ⟨⟨(trivial), trivial⟩, ?_⟩
  exact fun _ h => absurd h List.not_mem_nil
theorem mjd_96 : mj_ckd 96 = true := by decide +kernel
theorem mjg_96 : mj_good 96 := mj_goodOf (fun _ => ⟨mj_G, rfl⟩) (by decide +kernel) mjd_96 mje_96
