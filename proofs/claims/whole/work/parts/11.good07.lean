theorem mje_139 : ∀ e ∈ mj_tb139, mj_lk 139 e.1 e.2.1 e.2.2.1 e.2.2.2 ∧ mj_cok 139 e.2.1 e.2.2.1 e.2.2.2 := by
  unfold mj_tb139
  refine List.forall_mem_cons.mpr ⟨⟨(trivial), trivial⟩, ?_⟩
  refine List.forall_mem_cons.mpr ⟨⟨(trivial), trivial⟩, ?_⟩
  refine List.forall_mem_cons.mpr ⟨⟨(show (0 : Int) ≤ ((3 : Nat) : Int) + 22 by decide), trivial⟩, ?_⟩
  refine List.forall_mem_cons.mpr ⟨⟨(trivial), trivial⟩, ?_⟩
  refine List.forall_mem_cons.mpr ⟨⟨(mj_lkG (by decide) rfl (by decide) mj_inU10 mjf_10_123), trivial⟩, ?_⟩
  refine List.forall_mem_cons.mpr ⟨⟨(trivial), trivial⟩, ?_⟩
  refine List.forall_mem_cons.mpr ⟨⟨(trivial), trivial⟩, ?_⟩
  refine List.forall_mem_cons.mpr ⟨⟨(trivial), trivial⟩, ?_⟩
  refine List.forall_mem_cons.mpr ⟨⟨(show (0 : Int) ≤ ((14 : Nat) : Int) + 7 by decide), trivial⟩, ?_⟩
  refine List.forall_mem_cons.mpr ⟨⟨(trivial), trivial⟩, ?_⟩
  refine List.forall_mem_cons.mpr ⟨⟨(show (0 : Int) ≤ ((18 : Nat) : Int) + 22 by decide), trivial⟩, ?_⟩
  refine List.forall_mem_cons.mpr ⟨⟨(trivial), trivial⟩, ?_⟩
  refine List.forall_mem_cons.mpr ⟨⟨(show (0 : Int) ≤ ((22 : Nat) : Int) + 18 by decide), trivial⟩, ?_⟩
  refine List.forall_mem_cons.mpr ⟨⟨(trivial), trivial⟩, ?_⟩
  refine List.forall_mem_cons.mpr ⟨⟨(mj_lkG (by decide) rfl (by decide) mj_inU10 mjf_10_123), trivial⟩, ?_⟩
  refine List.forall_mem_cons.mpr ⟨⟨(trivial), trivial⟩, ?_⟩
  refine List.forall_mem_cons.mpr ⟨⟨(trivial), trivial⟩, ?_⟩
  refine List.forall_mem_cons.mpr ⟨⟨(show (0 : Int) ≤ ((32 : Nat) : Int) + 7 by decide), trivial⟩, ?_⟩
  refine List.forall_mem_cons.mpr ⟨⟨(trivial), trivial⟩, ?_⟩
  refine List.forall_mem_cons.mpr ⟨⟨(show (0 : Int) ≤ ((36 : Nat) : Int) + 4 by decide), trivial⟩, ?_⟩
  refine List.forall_mem_cons.mpr ⟨⟨(trivial), trivial⟩, ?_⟩
  refine List.forall_mem_cons.mpr ⟨⟨(show (5 : Nat) < mj_maxL 139 by decide), trivial⟩, ?_⟩
  refine List.forall_mem_cons.mpr ⟨⟨(trivial), trivial⟩, ?_⟩
  refine List.forall_mem_cons.mpr ⟨⟨(show (0 : Int) ≤ ((44 : Nat) : Int) + 43 by decide), trivial⟩, ?_⟩
  refine List.forall_mem_cons.mpr ⟨⟨(trivial), trivial⟩, ?_⟩
  refine List.forall_mem_cons.mpr ⟨⟨(trivial), trivial⟩, ?_⟩
  refine List.forall_mem_cons.mpr ⟨⟨(show (0 : Int) ≤ ((50 : Nat) : Int) + 37 by decide), trivial⟩, ?_⟩
  refine List.forall_mem_cons.mpr ⟨⟨(trivial), trivial⟩, ?_⟩
  refine List.forall_mem_cons.mpr ⟨⟨(mj_lkG (by decide) rfl (by decide) mj_inU10 mjf_10_120), trivial⟩, ?_⟩
  refine List.forall_mem_cons.mpr ⟨⟨(trivial), trivial⟩, ?_⟩
  refine List.forall_mem_cons.mpr ⟨⟨(trivial), trivial⟩, ?_⟩
  refine List.forall_mem_cons.mpr ⟨⟨(trivial), trivial⟩, ?_⟩
  refine List.forall_mem_cons.mpr ⟨⟨(trivial), trivial⟩, ?_⟩
  refine List.forall_mem_cons.mpr ⟨⟨(mj_lkG (by decide) rfl (by decide) mj_inU10 mjf_10_123), trivial⟩, ?_⟩
  refine List.forall_mem_cons.mpr ⟨⟨(trivial), trivial⟩, ?_⟩
  refine List.forall_mem_cons.mpr ⟨⟨(trivial), trivial⟩, ?_⟩
  refine List.forall_mem_cons.mpr ⟨⟨(trivial), trivial⟩, ?_⟩
  refine List.forall_mem_cons.mpr ⟨⟨(trivial), trivial⟩, ?_⟩
  refine List.forall_mem_cons.mpr ⟨⟨(mj_lkG (by decide) rfl (by decide) mj_inU10 mjf_10_102), trivial⟩, ?_⟩
  refine List.forall_mem_cons.mpr ⟨⟨(trivial), trivial⟩, ?_⟩
  refine List.forall_mem_cons.mpr ⟨⟨(trivial), trivial⟩, ?_⟩
  refine List.forall_mem_cons.mpr ⟨⟨(trivial), trivial⟩, ?_⟩
  refine List.forall_mem_cons.mpr ⟨⟨(trivial), trivial⟩, ?_⟩
  refine List.forall_mem_cons.mpr ⟨⟨(mj_lkG (by decide) rfl (by decide) mj_inU10 mjf_10_123), trivial⟩, ?_⟩
  refine List.forall_mem_cons.mpr ⟨⟨(trivial), trivial⟩, ?_⟩
  refine List.forall_mem_cons.mpr ⟨⟨(trivial), trivial⟩, ?_⟩
  refine List.forall_mem_cons.mpr ⟨⟨(trivial), trivial⟩, ?_⟩
  refine List.forall_mem_cons.mpr ⟨⟨(trivial), trivial⟩, ?_⟩
  refine List.forall_mem_cons.mpr ⟨⟨(trivial), trivial⟩, ?_⟩
  refine List.forall_mem_cons.mpr ⟨⟨(trivial), trivial⟩, ?_⟩
  refine List.forall_mem_cons.mpr ⟨⟨(trivial), trivial⟩, ?_⟩
  refine List.forall_mem_cons.mpr ⟨⟨(show (0 : Int) ≤ ((89 : Nat) : Int) + 77 by decide), trivial⟩, ?_⟩
  refine List.forall_mem_cons.mpr ⟨⟨(trivial), trivial⟩, ?_⟩
  refine List.forall_mem_cons.mpr ⟨⟨(trivial), trivial⟩, ?_⟩
  refine List.forall_mem_cons.mpr ⟨⟨(show (0 : Int) ≤ ((95 : Nat) : Int) + 71 by decide), trivial⟩, ?_⟩
  refine List.forall_mem_cons.mpr ⟨⟨(trivial), trivial⟩, ?_⟩
  refine List.forall_mem_cons.mpr ⟨⟨(mj_lkG (by decide) rfl (by decide) mj_inU10 mjf_10_102), trivial⟩, ?_⟩
  refine List.forall_mem_cons.mpr ⟨⟨(trivial), trivial⟩, ?_⟩
  refine List.forall_mem_cons.mpr ⟨⟨(trivial), trivial⟩, ?_⟩
  refine List.forall_mem_cons.mpr ⟨⟨(mj_lkG (by decide) rfl (by decide) mj_inU10 mjf_10_120), trivial⟩, ?_⟩
  refine List.forall_mem_cons.mpr ⟨⟨(trivial), trivial⟩, ?_⟩
  refine List.forall_mem_cons.mpr ⟨⟨(trivial), trivial⟩, ?_⟩
  refine List.forall_mem_cons.mpr ⟨⟨(trivial), trivial⟩, ?_⟩
  refine List.forall_mem_cons.mpr ⟨⟨(trivial), trivial⟩, ?_⟩
  refine List.forall_mem_cons.mpr ⟨⟨(trivial), trivial⟩, ?_⟩
  refine List.forall_mem_cons.mpr ⟨⟨(trivial), trivial⟩, ?_⟩
  refine List.forall_mem_cons.mpr ⟨⟨(mj_lkG (by decide) rfl (by decide) mj_inU10 mjf_10_120), trivial⟩, ?_⟩
  refine List.forall_mem_cons.mpr ⟨⟨(trivial), trivial⟩, ?_⟩
  refine List.forall_mem_cons.mpr ⟨⟨(trivial), trivial⟩, ?_⟩
  refine List.forall_mem_cons.mpr ⟨⟨(trivial), trivial⟩, ?_⟩
  refine List.forall_mem_cons.mpr ⟨⟨(trivial), trivial⟩, ?_⟩
  refine List.forall_mem_cons.mpr ⟨⟨(mj_lkG (by decide) rfl (by decide) mj_inU10 mjf_10_120), trivial⟩, ?_⟩
  refine List.forall_mem_cons.mpr ⟨⟨(trivial), trivial⟩, ?_⟩
  refine List.forall_mem_cons.mpr ⟨⟨(trivial), trivial⟩, ?_⟩
  refine List.forall_mem_cons.mpr ⟨⟨(trivial), trivial⟩, ?_⟩
  refine List.forall_mem_cons.mpr ⟨⟨(trivial), trivial⟩, ?_⟩
  refine List.forall_mem_cons.mpr ⟨⟨(trivial), trivial⟩, ?_⟩
  refine List.forall_mem_cons.mpr ⟨⟨(trivial), trivial⟩, ?_⟩
  refine List.forall_mem_cons.mpr ⟨⟨(trivial), trivial⟩, ?_⟩
  refine List.forall_mem_cons.mpr ⟨⟨(trivial), trivial⟩, ?_⟩
  refine List.forall_mem_cons.mpr ⟨⟨(mj_lkG (by decide) rfl (by decide) mj_inU10 mjf_10_120), trivial⟩, ?_⟩
  refine List.forall_mem_cons.mpr ⟨⟨(trivial), trivial⟩, ?_⟩
  refine List.forall_mem_cons.mpr ⟨⟨(trivial), trivial⟩, ?_⟩
  refine List.forall_mem_cons.mpr ⟨⟨(trivial), trivial⟩, ?_⟩
  refine List.forall_mem_cons.mpr ⟨⟨(trivial), trivial⟩, ?_⟩
  refine List.forall_mem_cons.mpr ⟨⟨(trivial), trivial⟩, ?_⟩
  refine List.forall_mem_cons.mpr ⟨⟨(trivial), trivial⟩, ?_⟩
  refine List.forall_mem_cons.mpr ⟨⟨(mj_lkG (by decide) rfl (by decide) mj_inU10 mjf_10_120), trivial⟩, ?_⟩
  refine List.forall_mem_cons.mpr ⟨⟨(trivial), trivial⟩, ?_⟩
  refine List.forall_mem_cons.mpr ⟨⟨(trivial), trivial⟩, ?_⟩
  refine List.forall_mem_cons.mpr ⟨⟨(trivial), trivial⟩, ?_⟩
  refine List.forall_mem_cons.mpr ⟨⟨(trivial), trivial⟩, ?_⟩
  refine List.forall_mem_cons.mpr ⟨⟨(trivial), trivial⟩, ?_⟩
  refine List.forall_mem_cons.mpr ⟨⟨(trivial), trivial⟩, ?_⟩
  refine List.forall_mem_cons.mpr ⟨⟨(trivial), trivial⟩, ?_⟩
  refine List.forall_mem_cons.mpr ⟨⟨(trivial), trivial⟩, ?_⟩
  refine List.forall_mem_cons.mpr ⟨⟨(mj_lkG (by decide) rfl (by decide) mj_inU10 mjf_10_123), trivial⟩, ?_⟩
  refine List.forall_mem_cons.mpr ⟨⟨(trivial), trivial⟩, ?_⟩
  refine List.forall_mem_cons.mpr ⟨⟨(trivial), trivial⟩, ?_⟩
  refine List.forall_mem_cons.mpr ⟨⟨(trivial), trivial⟩, ?_⟩
  refine List.forall_mem_cons.mpr ⟨⟨(trivial), trivial⟩, ?_⟩
  refine List.forall_mem_cons.mpr ⟨⟨(trivial), trivial⟩, ?_⟩
  refine List.forall_mem_cons.mpr ⟨⟨(trivial), trivial⟩, ?_⟩
  refine List.forall_mem_cons.mpr ⟨⟨(trivial), trivial⟩, ?_⟩
  refine List.forall_mem_cons.mpr ⟨⟨(mj_lkG (by decide) rfl (by decide) mj_inU10 mjf_10_102), trivial⟩, ?_⟩
  refine List.forall_mem_cons.mpr ⟨⟨(trivial), trivial⟩, ?_⟩
  refine List.forall_mem_cons.mpr ⟨⟨(trivial), trivial⟩, ?_⟩
  refine List.forall_mem_cons.mpr ⟨⟨(trivial), trivial⟩, ?_⟩
  refine List.forall_mem_cons.mpr ⟨⟨(trivial), trivial⟩, ?_⟩
  refine List.forall_mem_cons.mpr ⟨⟨(show (0 : Int) ≤ ((175 : Nat) : Int) + 7 by decide), trivial⟩, ?_⟩
  refine List.forall_mem_cons.mpr ⟨⟨(trivial), trivial⟩, ?_⟩
  refine List.forall_mem_cons.mpr ⟨⟨(show (0 : Int) ≤ ((179 : Nat) : Int) + 4 by decide), trivial⟩, ?_⟩
  refine List.forall_mem_cons.mpr ⟨⟨(trivial), trivial⟩, ?_⟩
  refine List.forall_mem_cons.mpr ⟨⟨(trivial), trivial⟩, ?_⟩
  refine List.forall_mem_cons.mpr ⟨⟨(trivial), trivial⟩, ?_⟩
  exact fun _ h => absurd h List.not_mem_nil
theorem mjd_139 : mj_ckd 139 = true := by decide +kernel
theorem mjg_139 : mj_good 139 := mj_goodOf (fun _ => ⟨mj_G, rfl⟩) (by decide +kernel) mjd_139 mje_139
theorem mje_140 : ∀ e ∈ mj_tb140, mj_lk 140 e.1 e.2.1 e.2.2.1 e.2.2.2 ∧ mj_cok 140 e.2.1 e.2.2.1 e.2.2.2 := by
  unfold mj_tb140
  refine List.forall_mem_cons.mpr ⟨⟨(trivial), trivial⟩, ?_⟩
  refine List.forall_mem_cons.mpr ⟨⟨(mj_lkG (by decide) rfl (by decide) mj_inU10 mjf_10_29), trivial⟩, ?_⟩
  refine List.forall_mem_cons.mpr ⟨⟨(trivial), trivial⟩, ?_⟩
  refine List.forall_mem_cons.mpr ⟨⟨(trivial), trivial⟩, ?_⟩
  refine List.forall_mem_cons.mpr ⟨⟨(show (5 : Nat) < mj_maxL 140 by decide), trivial⟩, ?_⟩
  refine List.forall_mem_cons.mpr ⟨⟨(trivial), trivial⟩, ?_⟩
  refine List.forall_mem_cons.mpr ⟨⟨(trivial), trivial⟩, ?_⟩
  refine List.forall_mem_cons.mpr ⟨⟨(show (0 : Int) ≤ ((11 : Nat) : Int) + 30 by decide), trivial⟩, ?_⟩
  refine List.forall_mem_cons.mpr ⟨⟨(trivial), trivial⟩, ?_⟩
  refine List.forall_mem_cons.mpr ⟨⟨(mj_lkG (by decide) rfl (by decide) mj_inU10 mjf_10_102), trivial⟩, ?_⟩
  refine List.forall_mem_cons.mpr ⟨⟨(trivial), trivial⟩, ?_⟩
  refine List.forall_mem_cons.mpr ⟨⟨(trivial), trivial⟩, ?_⟩
  refine List.forall_mem_cons.mpr ⟨⟨(show (0 : Int) ≤ ((20 : Nat) : Int) + 21 by decide), trivial⟩, ?_⟩
  refine List.forall_mem_cons.mpr ⟨⟨(trivial), trivial⟩, ?_⟩
  refine List.forall_mem_cons.mpr ⟨⟨(mj_lkG (by decide) rfl (by decide) mj_inU10 mjf_10_90), trivial⟩, ?_⟩
  refine List.forall_mem_cons.mpr ⟨⟨(trivial), trivial⟩, ?_⟩
  refine List.forall_mem_cons.mpr ⟨⟨(trivial), trivial⟩, ?_⟩
  refine List.forall_mem_cons.mpr ⟨⟨(mj_lkG (by decide) rfl (by decide) mj_inU10 mjf_10_90), trivial⟩, ?_⟩
  refine List.forall_mem_cons.mpr ⟨⟨(trivial), trivial⟩, ?_⟩
  refine List.forall_mem_cons.mpr ⟨⟨(trivial), trivial⟩, ?_⟩
  refine List.forall_mem_cons.mpr ⟨⟨(trivial), trivial⟩, ?_⟩
  refine List.forall_mem_cons.mpr ⟨⟨(trivial), trivial⟩, ?_⟩
  refine List.forall_mem_cons.mpr ⟨⟨(trivial), trivial⟩, ?_⟩
  refine List.forall_mem_cons.mpr ⟨⟨(show (0 : Int) ≤ ((38 : Nat) : Int) + 206 by decide), trivial⟩, ?_⟩
  refine List.forall_mem_cons.mpr ⟨⟨(trivial), trivial⟩, ?_⟩
  refine List.forall_mem_cons.mpr ⟨⟨(trivial), trivial⟩, ?_⟩
  refine List.forall_mem_cons.mpr ⟨⟨(show (0 : Int) ≤ ((44 : Nat) : Int) + 15 by decide), trivial⟩, ?_⟩
  refine List.forall_mem_cons.mpr ⟨⟨(trivial), trivial⟩, ?_⟩
  refine List.forall_mem_cons.mpr ⟨⟨(mj_lkG (by decide) rfl (by decide) mj_inU10 mjf_10_99), trivial⟩, ?_⟩
  refine List.forall_mem_cons.mpr ⟨⟨(trivial), trivial⟩, ?_⟩
  refine List.forall_mem_cons.mpr ⟨⟨(trivial), trivial⟩, ?_⟩
  refine List.forall_mem_cons.mpr ⟨⟨(trivial), trivial⟩, ?_⟩
  refine List.forall_mem_cons.mpr ⟨⟨(show (0 : Int) ≤ ((56 : Nat) : Int) + 188 by decide), trivial⟩, ?_⟩
  refine List.forall_mem_cons.mpr ⟨⟨(trivial), trivial⟩, ?_⟩
  refine List.forall_mem_cons.mpr ⟨⟨(trivial), trivial⟩, ?_⟩
  refine List.forall_mem_cons.mpr ⟨⟨(show (0 : Int) ≤ ((62 : Nat) : Int) + 63 by decide), trivial⟩, ?_⟩
  refine List.forall_mem_cons.mpr ⟨⟨(trivial), trivial⟩, ?_⟩
  refine List.forall_mem_cons.mpr ⟨⟨(mj_lkG (by decide) rfl (by decide) mj_inU10 mjf_10_32), trivial⟩, ?_⟩
  refine List.forall_mem_cons.mpr ⟨⟨(trivial), trivial⟩, ?_⟩
  refine List.forall_mem_cons.mpr ⟨⟨(trivial), trivial⟩, ?_⟩
  refine List.forall_mem_cons.mpr ⟨⟨(show (6 : Nat) < mj_maxL 140 by decide), trivial⟩, ?_⟩
  refine List.forall_mem_cons.mpr ⟨⟨(trivial), trivial⟩, ?_⟩
  refine List.forall_mem_cons.mpr ⟨⟨(mj_lkG (by decide) rfl (by decide) mj_inU10 mjf_10_99), trivial⟩, ?_⟩
  refine List.forall_mem_cons.mpr ⟨⟨(trivial), trivial⟩, ?_⟩
  refine List.forall_mem_cons.mpr ⟨⟨(trivial), trivial⟩, ?_⟩
  refine List.forall_mem_cons.mpr ⟨⟨(trivial), trivial⟩, ?_⟩
  refine List.forall_mem_cons.mpr ⟨⟨(trivial), trivial⟩, ?_⟩
  refine List.forall_mem_cons.mpr ⟨⟨(trivial), trivial⟩, ?_⟩
  refine List.forall_mem_cons.mpr ⟨⟨(trivial), trivial⟩, ?_⟩
  refine List.forall_mem_cons.mpr ⟨⟨(trivial), trivial⟩, ?_⟩
  refine List.forall_mem_cons.mpr ⟨⟨(mj_lkG (by decide) rfl (by decide) mj_inU10 mjf_10_90), trivial⟩, ?_⟩
  refine List.forall_mem_cons.mpr ⟨⟨(trivial), trivial⟩, ?_⟩
  refine List.forall_mem_cons.mpr ⟨⟨(trivial), trivial⟩, ?_⟩
  refine List.forall_mem_cons.mpr ⟨⟨(mj_lkG (by decide) rfl (by decide) mj_inU10 mjf_10_99), trivial⟩, ?_⟩
  refine List.forall_mem_cons.mpr ⟨⟨(trivial), trivial⟩, ?_⟩
  refine List.forall_mem_cons.mpr ⟨⟨(trivial), trivial⟩, ?_⟩
  refine List.forall_mem_cons.mpr ⟨⟨(show (0 : Int) ≤ ((97 : Nat) : Int) + 18 by decide), trivial⟩, ?_⟩
  refine List.forall_mem_cons.mpr ⟨⟨(trivial), trivial⟩, ?_⟩
  refine List.forall_mem_cons.mpr ⟨⟨(mj_lkG (by decide) rfl (by decide) mj_inU10 mjf_10_90), trivial⟩, ?_⟩
  refine List.forall_mem_cons.mpr ⟨⟨(trivial), trivial⟩, ?_⟩
  refine List.forall_mem_cons.mpr ⟨⟨(trivial), trivial⟩, ?_⟩
  refine List.forall_mem_cons.mpr ⟨⟨(trivial), trivial⟩, ?_⟩
  refine List.forall_mem_cons.mpr ⟨⟨(trivial), trivial⟩, ?_⟩
  refine List.forall_mem_cons.mpr ⟨⟨(trivial), trivial⟩, ?_⟩
  refine List.forall_mem_cons.mpr ⟨⟨(trivial), trivial⟩, ?_⟩
  refine List.forall_mem_cons.mpr ⟨⟨(show (0 : Int) ≤ ((112 : Nat) : Int) + 9 by decide), trivial⟩, ?_⟩
  refine List.forall_mem_cons.mpr ⟨⟨(trivial), trivial⟩, ?_⟩
  refine List.forall_mem_cons.mpr ⟨⟨(mj_lkG (by decide) rfl (by decide) mj_inU10 mjf_10_90), trivial⟩, ?_⟩
  refine List.forall_mem_cons.mpr ⟨⟨(trivial), trivial⟩, ?_⟩
  refine List.forall_mem_cons.mpr ⟨⟨(trivial), trivial⟩, ?_⟩
  refine List.forall_mem_cons.mpr ⟨⟨(trivial), trivial⟩, ?_⟩
  refine List.forall_mem_cons.mpr ⟨⟨(show (0 : Int) ≤ ((122 : Nat) : Int) + 122 by decide), trivial⟩, ?_⟩
  refine List.forall_mem_cons.mpr ⟨⟨(trivial), trivial⟩, ?_⟩
  refine List.forall_mem_cons.mpr ⟨⟨(trivial), trivial⟩, ?_⟩
  refine List.forall_mem_cons.mpr ⟨⟨(show (0 : Int) ≤ ((128 : Nat) : Int) + 23 by decide), trivial⟩, ?_⟩
  refine List.forall_mem_cons.mpr ⟨⟨(trivial), trivial⟩, ?_⟩
  refine List.forall_mem_cons.mpr ⟨⟨(mj_lkG (by decide) rfl (by decide) mj_inU10 mjf_10_84), trivial⟩, ?_⟩
  refine List.forall_mem_cons.mpr ⟨⟨(trivial), trivial⟩, ?_⟩
  refine List.forall_mem_cons.mpr ⟨⟨(trivial), trivial⟩, ?_⟩
  refine List.forall_mem_cons.mpr ⟨⟨(mj_lkG (by decide) rfl (by decide) mj_inU10 mjf_10_84), trivial⟩, ?_⟩
  refine List.forall_mem_cons.mpr ⟨⟨(trivial), trivial⟩, ?_⟩
  refine List.forall_mem_cons.mpr ⟨⟨(trivial), trivial⟩, ?_⟩
  refine List.forall_mem_cons.mpr ⟨⟨(trivial), trivial⟩, ?_⟩
  refine List.forall_mem_cons.mpr ⟨⟨(trivial), trivial⟩, ?_⟩
  refine List.forall_mem_cons.mpr ⟨⟨(trivial), trivial⟩, ?_⟩
  refine List.forall_mem_cons.mpr ⟨⟨(trivial), trivial⟩, ?_⟩
  refine List.forall_mem_cons.mpr ⟨⟨(trivial), trivial⟩, ?_⟩
  refine List.forall_mem_cons.mpr ⟨⟨(show (0 : Int) ≤ ((148 : Nat) : Int) + 96 by decide), trivial⟩, ?_⟩
  refine List.forall_mem_cons.mpr ⟨⟨(trivial), trivial⟩, ?_⟩
  refine List.forall_mem_cons.mpr ⟨⟨(trivial), trivial⟩, ?_⟩
  refine List.forall_mem_cons.mpr ⟨⟨(show (0 : Int) ≤ ((154 : Nat) : Int) + 35 by decide), trivial⟩, ?_⟩
  refine List.forall_mem_cons.mpr ⟨⟨(trivial), trivial⟩, ?_⟩
  refine List.forall_mem_cons.mpr ⟨⟨(mj_lkG (by decide) rfl (by decide) mj_inU10 mjf_10_84), trivial⟩, ?_⟩
  refine List.forall_mem_cons.mpr ⟨⟨(trivial), trivial⟩, ?_⟩
  refine List.forall_mem_cons.mpr ⟨⟨(trivial), trivial⟩, ?_⟩
  refine List.forall_mem_cons.mpr ⟨⟨(mj_lkG (by decide) rfl (by decide) mj_inU10 mjf_10_84), trivial⟩, ?_⟩
  refine List.forall_mem_cons.mpr ⟨⟨(trivial), trivial⟩, ?_⟩
  refine List.forall_mem_cons.mpr ⟨⟨(trivial), trivial⟩, ?_⟩
  refine List.forall_mem_cons.mpr ⟨⟨(trivial), trivial⟩, ?_⟩
  refine List.forall_mem_cons.mpr ⟨⟨(trivial), trivial⟩, ?_⟩
  refine List.forall_mem_cons.mpr ⟨⟨(mj_lkG (by decide) rfl (by decide) mj_inU10 mjf_10_29), trivial⟩, ?_⟩
  refine List.forall_mem_cons.mpr ⟨⟨(trivial), trivial⟩, ?_⟩
  refine List.forall_mem_cons.mpr ⟨⟨(mj_lkG (by decide) rfl (by decide) mj_inU10 mjf_10_32), trivial⟩, ?_⟩
  refine List.forall_mem_cons.mpr ⟨⟨(trivial), trivial⟩, ?_⟩
  refine List.forall_mem_cons.mpr ⟨⟨(trivial), trivial⟩, ?_⟩
  refine List.forall_mem_cons.mpr ⟨⟨(trivial), trivial⟩, ?_⟩
  refine List.forall_mem_cons.mpr ⟨⟨(trivial), trivial⟩, ?_⟩
  refine List.forall_mem_cons.mpr ⟨⟨(trivial), trivial⟩, ?_⟩
  refine List.forall_mem_cons.mpr ⟨⟨(trivial), trivial⟩, ?_⟩
  refine List.forall_mem_cons.mpr ⟨⟨(trivial), trivial⟩, ?_⟩
  refine List.forall_mem_cons.mpr ⟨⟨(trivial), trivial⟩, ?_⟩
  refine List.forall_mem_cons.mpr ⟨⟨(show (0 : Int) ≤ ((186 : Nat) : Int) + 58 by decide), trivial⟩, ?_⟩
  refine List.forall_mem_cons.mpr ⟨⟨(trivial), trivial⟩, ?_⟩
  refine List.forall_mem_cons.mpr ⟨⟨(trivial), trivial⟩, ?_⟩
  refine List.forall_mem_cons.mpr ⟨⟨(show (0 : Int) ≤ ((192 : Nat) : Int) + 52 by decide), trivial⟩, ?_⟩
  refine List.forall_mem_cons.mpr ⟨⟨(trivial), trivial⟩, ?_⟩
  refine List.forall_mem_cons.mpr ⟨⟨(mj_lkG (by decide) rfl (by decide) mj_inU10 mjf_10_93), trivial⟩, ?_⟩
  refine List.forall_mem_cons.mpr ⟨⟨(trivial), trivial⟩, ?_⟩
  refine List.forall_mem_cons.mpr ⟨⟨(trivial), trivial⟩, ?_⟩
  refine List.forall_mem_cons.mpr ⟨⟨(trivial), trivial⟩, ?_⟩
  refine List.forall_mem_cons.mpr ⟨⟨(trivial), trivial⟩, ?_⟩
  refine List.forall_mem_cons.mpr ⟨⟨(trivial), trivial⟩, ?_⟩
  refine List.forall_mem_cons.mpr ⟨⟨(trivial), trivial⟩, ?_⟩
  refine List.forall_mem_cons.mpr ⟨⟨(mj_lkG (by decide) rfl (by decide) mj_inU10 mjf_10_87), trivial⟩, ?_⟩
  refine List.forall_mem_cons.mpr ⟨⟨(trivial), trivial⟩, ?_⟩
  refine List.forall_mem_cons.mpr ⟨⟨(trivial), trivial⟩, ?_⟩
  refine List.forall_mem_cons.mpr ⟨⟨(trivial), trivial⟩, ?_⟩
  refine List.forall_mem_cons.mpr ⟨⟨(trivial), trivial⟩, ?_⟩
  refine List.forall_mem_cons.mpr ⟨⟨(mj_lkG (by decide) rfl (by decide) mj_inU10 mjf_10_96), trivial⟩, ?_⟩
  refine List.forall_mem_cons.mpr ⟨⟨(trivial), trivial⟩, ?_⟩
  refine List.forall_mem_cons.mpr ⟨⟨(trivial), trivial⟩, ?_⟩
  refine List.forall_mem_cons.mpr ⟨⟨(trivial), trivial⟩, ?_⟩
  refine List.forall_mem_cons.mpr ⟨⟨(trivial), trivial⟩, ?_⟩
  refine List.forall_mem_cons.mpr ⟨⟨(trivial), trivial⟩, ?_⟩
  refine List.forall_mem_cons.mpr ⟨⟨(trivial), trivial⟩, ?_⟩
  refine List.forall_mem_cons.mpr ⟨⟨(mj_lkG (by decide) rfl (by decide) mj_inU10 mjf_10_90), trivial⟩, ?_⟩
  refine List.forall_mem_cons.mpr ⟨⟨(trivial), trivial⟩, ?_⟩
  refine List.forall_mem_cons.mpr ⟨⟨(trivial), trivial⟩, ?_⟩
  refine List.forall_mem_cons.mpr ⟨⟨(trivial), trivial⟩, ?_⟩
  refine List.forall_mem_cons.mpr ⟨⟨(trivial), trivial⟩, ?_⟩
  refine List.forall_mem_cons.mpr ⟨⟨(mj_lkG (by decide) rfl (by decide) mj_inU10 mjf_10_87), trivial⟩, ?_⟩
  refine List.forall_mem_cons.mpr ⟨⟨(trivial), trivial⟩, ?_⟩
  refine List.forall_mem_cons.mpr ⟨⟨(trivial), trivial⟩, ?_⟩
  refine List.forall_mem_cons.mpr ⟨⟨(trivial), trivial⟩, ?_⟩
  refine List.forall_mem_cons.mpr ⟨⟨(trivial), trivial⟩, ?_⟩
  refine List.forall_mem_cons.mpr ⟨⟨(mj_lkG (by decide) rfl (by decide) mj_inU10 mjf_10_90), trivial⟩, ?_⟩
  refine List.forall_mem_cons.mpr ⟨⟨(trivial), trivial⟩, ?_⟩
  refine List.forall_mem_cons.mpr ⟨⟨(trivial), trivial⟩, ?_⟩
  refine List.forall_mem_cons.mpr ⟨⟨(trivial), trivial⟩, ?_⟩
  refine List.forall_mem_cons.mpr ⟨⟨(trivial), trivial⟩, ?_⟩
  exact fun _ h => absurd h List.not_mem_nil
theorem mjd_140 : mj_ckd 140 = true := by decide +kernel
theorem mjg_140 : mj_good 140 := mj_goodOf (fun _ => ⟨mj_G, rfl⟩) (by decide +kernel) mjd_140 mje_140
theorem mje_141 : ∀ e ∈ mj_tb141, mj_lk 141 e.1 e.2.1 e.2.2.1 e.2.2.2 ∧ mj_cok 141 e.2.1 e.2.2.1 e.2.2.2 := by
  unfold mj_tb141
  refine List.forall_mem_cons.mpr ⟨⟨(trivial), trivial⟩, ?_⟩
  refine List.forall_mem_cons.mpr ⟨⟨(mj_lkG (by decide) rfl (by decide) mj_inU10 mjf_10_141), trivial⟩, ?_⟩
  refine List.forall_mem_cons.mpr ⟨⟨(show (0 : Int) ≤ ((4 : Nat) : Int) + 13 by decide), trivial⟩, ?_⟩
  refine List.forall_mem_cons.mpr ⟨⟨(trivial), trivial⟩, ?_⟩
  refine List.forall_mem_cons.mpr ⟨⟨(trivial), trivial⟩, ?_⟩
  refine List.forall_mem_cons.mpr ⟨⟨(trivial), trivial⟩, ?_⟩
  refine List.forall_mem_cons.mpr ⟨⟨(trivial), mj_ckOf mjK_101 (by decide) (mj_lnkG mjl_10_145)⟩, ?_⟩
  refine List.forall_mem_cons.mpr ⟨⟨(show (0 : Int) ≤ ((14 : Nat) : Int) + 5 by decide), trivial⟩, ?_⟩
  refine List.forall_mem_cons.mpr ⟨⟨(trivial), trivial⟩, ?_⟩
  refine List.forall_mem_cons.mpr ⟨⟨(trivial), trivial⟩, ?_⟩
  refine List.forall_mem_cons.mpr ⟨⟨(trivial), trivial⟩, ?_⟩
  refine List.forall_mem_cons.mpr ⟨⟨(show (0 : Int) ≤ ((20 : Nat) : Int) + 10 by decide), trivial⟩, ?_⟩
  refine List.forall_mem_cons.mpr ⟨⟨(trivial), trivial⟩, ?_⟩
  refine List.forall_mem_cons.mpr ⟨⟨(mj_lkG (by decide) rfl (by decide) mj_inU10 mjf_10_209), trivial⟩, ?_⟩
  refine List.forall_mem_cons.mpr ⟨⟨(show (0 : Int) ≤ ((27 : Nat) : Int) + 67 by decide), trivial⟩, ?_⟩
  refine List.forall_mem_cons.mpr ⟨⟨(trivial), trivial⟩, ?_⟩
  refine List.forall_mem_cons.mpr ⟨⟨(trivial), trivial⟩, ?_⟩
  refine List.forall_mem_cons.mpr ⟨⟨(show (0 : Int) ≤ ((32 : Nat) : Int) + 10 by decide), trivial⟩, ?_⟩
  refine List.forall_mem_cons.mpr ⟨⟨(trivial), trivial⟩, ?_⟩
  refine List.forall_mem_cons.mpr ⟨⟨(mj_lkG (by decide) rfl (by decide) mj_inU10 mjf_10_212), trivial⟩, ?_⟩
  refine List.forall_mem_cons.mpr ⟨⟨(show (0 : Int) ≤ ((39 : Nat) : Int) + 55 by decide), trivial⟩, ?_⟩
  refine List.forall_mem_cons.mpr ⟨⟨(trivial), trivial⟩, ?_⟩
  refine List.forall_mem_cons.mpr ⟨⟨(trivial), trivial⟩, ?_⟩
  refine List.forall_mem_cons.mpr ⟨⟨(show (0 : Int) ≤ ((44 : Nat) : Int) + 10 by decide), trivial⟩, ?_⟩
  refine List.forall_mem_cons.mpr ⟨⟨(trivial), trivial⟩, ?_⟩
  refine List.forall_mem_cons.mpr ⟨⟨(mj_lkG (by decide) rfl (by decide) mj_inU10 mjf_10_218), trivial⟩, ?_⟩
  refine List.forall_mem_cons.mpr ⟨⟨(show (0 : Int) ≤ ((51 : Nat) : Int) + 43 by decide), trivial⟩, ?_⟩
  refine List.forall_mem_cons.mpr ⟨⟨(trivial), trivial⟩, ?_⟩
  refine List.forall_mem_cons.mpr ⟨⟨(trivial), trivial⟩, ?_⟩
  refine List.forall_mem_cons.mpr ⟨⟨(show (0 : Int) ≤ ((56 : Nat) : Int) + 10 by decide), trivial⟩, ?_⟩
  refine List.forall_mem_cons.mpr ⟨⟨(trivial), trivial⟩, ?_⟩
  refine List.forall_mem_cons.mpr ⟨⟨(mj_lkG (by decide) rfl (by decide) mj_inU10 mjf_10_230), trivial⟩, ?_⟩
  refine List.forall_mem_cons.mpr ⟨⟨(show (0 : Int) ≤ ((63 : Nat) : Int) + 31 by decide), trivial⟩, ?_⟩
  refine List.forall_mem_cons.mpr ⟨⟨(trivial), trivial⟩, ?_⟩
  refine List.forall_mem_cons.mpr ⟨⟨(trivial), trivial⟩, ?_⟩
  refine List.forall_mem_cons.mpr ⟨⟨(show (0 : Int) ≤ ((68 : Nat) : Int) + 10 by decide), trivial⟩, ?_⟩
  refine List.forall_mem_cons.mpr ⟨⟨(trivial), trivial⟩, ?_⟩
  refine List.forall_mem_cons.mpr ⟨⟨(mj_lkG (by decide) rfl (by decide) mj_inU10 mjf_10_221), trivial⟩, ?_⟩
  refine List.forall_mem_cons.mpr ⟨⟨(show (0 : Int) ≤ ((75 : Nat) : Int) + 19 by decide), trivial⟩, ?_⟩
  refine List.forall_mem_cons.mpr ⟨⟨(trivial), trivial⟩, ?_⟩
  refine List.forall_mem_cons.mpr ⟨⟨(trivial), trivial⟩, ?_⟩
  refine List.forall_mem_cons.mpr ⟨⟨(show (0 : Int) ≤ ((80 : Nat) : Int) + 10 by decide), trivial⟩, ?_⟩
  refine List.forall_mem_cons.mpr ⟨⟨(trivial), trivial⟩, ?_⟩
  refine List.forall_mem_cons.mpr ⟨⟨(mj_lkG (by decide) rfl (by decide) mj_inU10 mjf_10_224), trivial⟩, ?_⟩
  refine List.forall_mem_cons.mpr ⟨⟨(show (0 : Int) ≤ ((87 : Nat) : Int) + 7 by decide), trivial⟩, ?_⟩
  refine List.forall_mem_cons.mpr ⟨⟨(trivial), trivial⟩, ?_⟩
  refine List.forall_mem_cons.mpr ⟨⟨(mj_lkG (by decide) rfl (by decide) mj_inU10 mjf_10_227), trivial⟩, ?_⟩
  refine List.forall_mem_cons.mpr ⟨⟨(trivial), trivial⟩, ?_⟩
  exact fun _ h => absurd h List.not_mem_nil
theorem mjd_141 : mj_ckd 141 = true := by decide +kernel
theorem mjg_141 : mj_good 141 := mj_goodOf (fun _ => ⟨mj_G, rfl⟩) (by decide +kernel) mjd_141 mje_141
theorem mje_142 : ∀ e ∈ mj_tb142, mj_lk 142 e.1 e.2.1 e.2.2.1 e.2.2.2 ∧ mj_cok 142 e.2.1 e.2.2.1 e.2.2.2 := by
  unfold mj_tb142
  refine List.forall_mem_cons.mpr ⟨⟨(trivial), trivial⟩, ?_⟩
  refine List.forall_mem_cons.mpr ⟨⟨(mj_lkG (by decide) rfl (by decide) mj_inU10 mjf_10_141), trivial⟩, ?_⟩
  refine List.forall_mem_cons.mpr ⟨⟨(show (0 : Int) ≤ ((4 : Nat) : Int) + 29 by decide), trivial⟩, ?_⟩
  refine List.forall_mem_cons.mpr ⟨⟨(trivial), trivial⟩, ?_⟩
  refine List.forall_mem_cons.mpr ⟨⟨(trivial), trivial⟩, ?_⟩
  refine List.forall_mem_cons.mpr ⟨⟨(trivial), mj_ckOf mjK_103 (by decide) (mj_lnkG mjl_10_152)⟩, ?_⟩
  refine List.forall_mem_cons.mpr ⟨⟨(show (0 : Int) ≤ ((12 : Nat) : Int) + 21 by decide), trivial⟩, ?_⟩
  refine List.forall_mem_cons.mpr ⟨⟨(trivial), trivial⟩, ?_⟩
  refine List.forall_mem_cons.mpr ⟨⟨(mj_lkG (by decide) rfl (by decide) mj_inU10 mjf_10_65), trivial⟩, ?_⟩
  refine List.forall_mem_cons.mpr ⟨⟨(trivial), trivial⟩, ?_⟩
  refine List.forall_mem_cons.mpr ⟨⟨(trivial), trivial⟩, ?_⟩
  refine List.forall_mem_cons.mpr ⟨⟨(show (0 : Int) ≤ ((21 : Nat) : Int) + 12 by decide), trivial⟩, ?_⟩
  refine List.forall_mem_cons.mpr ⟨⟨(trivial), trivial⟩, ?_⟩
  refine List.forall_mem_cons.mpr ⟨⟨(trivial), trivial⟩, ?_⟩
  refine List.forall_mem_cons.mpr ⟨⟨(trivial), trivial⟩, ?_⟩
  refine List.forall_mem_cons.mpr ⟨⟨(trivial), mj_ckOf mjK_101 (by decide) (mj_lnkG mjl_10_145)⟩, ?_⟩
  refine List.forall_mem_cons.mpr ⟨⟨(show (0 : Int) ≤ ((30 : Nat) : Int) + 5 by decide), trivial⟩, ?_⟩
  refine List.forall_mem_cons.mpr ⟨⟨(trivial), trivial⟩, ?_⟩
  refine List.forall_mem_cons.mpr ⟨⟨(trivial), trivial⟩, ?_⟩
  refine List.forall_mem_cons.mpr ⟨⟨(trivial), trivial⟩, ?_⟩
  refine List.forall_mem_cons.mpr ⟨⟨(show (0 : Int) ≤ ((36 : Nat) : Int) + 11 by decide), trivial⟩, ?_⟩
  refine List.forall_mem_cons.mpr ⟨⟨(trivial), trivial⟩, ?_⟩
  refine List.forall_mem_cons.mpr ⟨⟨(trivial), trivial⟩, ?_⟩
  refine List.forall_mem_cons.mpr ⟨⟨(trivial), mj_ckOf mjK_135 (by decide) (mj_lnkG mjl_10_237)⟩, ?_⟩
  refine List.forall_mem_cons.mpr ⟨⟨(show (0 : Int) ≤ ((44 : Nat) : Int) + 42 by decide), trivial⟩, ?_⟩
  refine List.forall_mem_cons.mpr ⟨⟨(trivial), trivial⟩, ?_⟩
  refine List.forall_mem_cons.mpr ⟨⟨(trivial), trivial⟩, ?_⟩
  refine List.forall_mem_cons.mpr ⟨⟨(show (0 : Int) ≤ ((49 : Nat) : Int) + 17 by decide), trivial⟩, ?_⟩
  refine List.forall_mem_cons.mpr ⟨⟨(trivial), trivial⟩, ?_⟩
  refine List.forall_mem_cons.mpr ⟨⟨(mj_lkG (by decide) rfl (by decide) mj_inU10 mjf_10_209), trivial⟩, ?_⟩
  refine List.forall_mem_cons.mpr ⟨⟨(trivial), trivial⟩, ?_⟩
  refine List.forall_mem_cons.mpr ⟨⟨(mj_lkG (by decide) rfl (by decide) mj_inU10 mjf_10_72), trivial⟩, ?_⟩
  refine List.forall_mem_cons.mpr ⟨⟨(trivial), trivial⟩, ?_⟩
  refine List.forall_mem_cons.mpr ⟨⟨(trivial), trivial⟩, ?_⟩
  refine List.forall_mem_cons.mpr ⟨⟨(trivial), trivial⟩, ?_⟩
  refine List.forall_mem_cons.mpr ⟨⟨(show (0 : Int) ≤ ((63 : Nat) : Int) + 23 by decide), trivial⟩, ?_⟩
  refine List.forall_mem_cons.mpr ⟨⟨(trivial), trivial⟩, ?_⟩
  refine List.forall_mem_cons.mpr ⟨⟨(trivial), trivial⟩, ?_⟩
  refine List.forall_mem_cons.mpr ⟨⟨(show (0 : Int) ≤ ((68 : Nat) : Int) + 12 by decide), trivial⟩, ?_⟩
  refine List.forall_mem_cons.mpr ⟨⟨(trivial), trivial⟩, ?_⟩
  refine List.forall_mem_cons.mpr ⟨⟨(mj_lkG (by decide) rfl (by decide) mj_inU10 mjf_10_81), trivial⟩, ?_⟩
  refine List.forall_mem_cons.mpr ⟨⟨(trivial), trivial⟩, ?_⟩
  refine List.forall_mem_cons.mpr ⟨⟨(trivial), trivial⟩, ?_⟩
  refine List.forall_mem_cons.mpr ⟨⟨(show (0 : Int) ≤ ((77 : Nat) : Int) + 9 by decide), trivial⟩, ?_⟩
  refine List.forall_mem_cons.mpr ⟨⟨(trivial), trivial⟩, ?_⟩
  refine List.forall_mem_cons.mpr ⟨⟨(mj_lkG (by decide) rfl (by decide) mj_inU10 mjf_10_84), trivial⟩, ?_⟩
  refine List.forall_mem_cons.mpr ⟨⟨(trivial), trivial⟩, ?_⟩
  refine List.forall_mem_cons.mpr ⟨⟨(trivial), trivial⟩, ?_⟩
  refine List.forall_mem_cons.mpr ⟨⟨(trivial), trivial⟩, ?_⟩
  exact fun _ h => absurd h List.not_mem_nil
theorem mjd_142 : mj_ckd 142 = true := by decide +kernel
theorem mjg_142 : mj_good 142 := mj_goodOf (fun _ => ⟨mj_G, rfl⟩) (by decide +kernel) mjd_142 mje_142
theorem mje_143 : ∀ e ∈ mj_tb143, mj_lk 143 e.1 e.2.1 e.2.2.1 e.2.2.2 ∧ mj_cok 143 e.2.1 e.2.2.1 e.2.2.2 := by
  unfold mj_tb143
  refine List.forall_mem_cons.mpr ⟨⟨(trivial), trivial⟩, ?_⟩
  refine List.forall_mem_cons.mpr ⟨⟨(mj_lkG (by decide) rfl (by decide) mj_inU10 mjf_10_141), trivial⟩, ?_⟩
  refine List.forall_mem_cons.mpr ⟨⟨(show (0 : Int) ≤ ((4 : Nat) : Int) + 20 by decide), trivial⟩, ?_⟩
  refine List.forall_mem_cons.mpr ⟨⟨(trivial), trivial⟩, ?_⟩
  refine List.forall_mem_cons.mpr ⟨⟨(trivial), trivial⟩, ?_⟩
  refine List.forall_mem_cons.mpr ⟨⟨(trivial), mj_ckOf mjK_103 (by decide) (mj_lnkG mjl_10_152)⟩, ?_⟩
  refine List.forall_mem_cons.mpr ⟨⟨(show (0 : Int) ≤ ((12 : Nat) : Int) + 12 by decide), trivial⟩, ?_⟩
  refine List.forall_mem_cons.mpr ⟨⟨(trivial), trivial⟩, ?_⟩
  refine List.forall_mem_cons.mpr ⟨⟨(mj_lkG (by decide) rfl (by decide) mj_inU10 mjf_10_114), trivial⟩, ?_⟩
  refine List.forall_mem_cons.mpr ⟨⟨(trivial), trivial⟩, ?_⟩
  refine List.forall_mem_cons.mpr ⟨⟨(trivial), trivial⟩, ?_⟩
  refine List.forall_mem_cons.mpr ⟨⟨(show (0 : Int) ≤ ((21 : Nat) : Int) + 4 by decide), trivial⟩, ?_⟩
  refine List.forall_mem_cons.mpr ⟨⟨(trivial), trivial⟩, ?_⟩
  refine List.forall_mem_cons.mpr ⟨⟨(trivial), trivial⟩, ?_⟩
  exact fun _ h => absurd h List.not_mem_nil
theorem mjd_143 : mj_ckd 143 = true := by decide +kernel
theorem mjg_143 : mj_good 143 := mj_goodOf (fun _ => ⟨mj_G, rfl⟩) (by decide +kernel) mjd_143 mje_143
theorem mje_144 : ∀ e ∈ mj_tb144, mj_lk 144 e.1 e.2.1 e.2.2.1 e.2.2.2 ∧ mj_cok 144 e.2.1 e.2.2.1 e.2.2.2 := by
  unfold mj_tb144
  refine List.forall_mem_cons.mpr ⟨⟨(trivial), trivial⟩, ?_⟩
  refine List.forall_mem_cons.mpr ⟨⟨(mj_lkG (by decide) rfl (by decide) mj_inU10 mjf_10_141), trivial⟩, ?_⟩
  refine List.forall_mem_cons.mpr ⟨⟨(show (0 : Int) ≤ ((4 : Nat) : Int) + 35 by decide), trivial⟩, ?_⟩
  refine List.forall_mem_cons.mpr ⟨⟨(trivial), trivial⟩, ?_⟩
  refine List.forall_mem_cons.mpr ⟨⟨(trivial), trivial⟩, ?_⟩
  refine List.forall_mem_cons.mpr ⟨⟨(trivial), mj_ckOf mjK_103 (by decide) (mj_lnkG mjl_10_152)⟩, ?_⟩
  refine List.forall_mem_cons.mpr ⟨⟨(show (0 : Int) ≤ ((12 : Nat) : Int) + 27 by decide), trivial⟩, ?_⟩
  refine List.forall_mem_cons.mpr ⟨⟨(trivial), trivial⟩, ?_⟩
  refine List.forall_mem_cons.mpr ⟨⟨(trivial), trivial⟩, ?_⟩
  refine List.forall_mem_cons.mpr ⟨⟨(trivial), trivial⟩, ?_⟩
  refine List.forall_mem_cons.mpr ⟨⟨(trivial), mj_ckOf mjK_101 (by decide) (mj_lnkG mjl_10_145)⟩, ?_⟩
  refine List.forall_mem_cons.mpr ⟨⟨(show (0 : Int) ≤ ((22 : Nat) : Int) + 17 by decide), trivial⟩, ?_⟩
  refine List.forall_mem_cons.mpr ⟨⟨(trivial), trivial⟩, ?_⟩
  refine List.forall_mem_cons.mpr ⟨⟨(mj_lkG (by decide) rfl (by decide) mj_inU10 mjf_10_105), trivial⟩, ?_⟩
  refine List.forall_mem_cons.mpr ⟨⟨(trivial), trivial⟩, ?_⟩
  refine List.forall_mem_cons.mpr ⟨⟨(trivial), trivial⟩, ?_⟩
  refine List.forall_mem_cons.mpr ⟨⟨(trivial), trivial⟩, ?_⟩
  refine List.forall_mem_cons.mpr ⟨⟨(trivial), trivial⟩, ?_⟩
  refine List.forall_mem_cons.mpr ⟨⟨(trivial), trivial⟩, ?_⟩
  refine List.forall_mem_cons.mpr ⟨⟨(trivial), trivial⟩, ?_⟩
  refine List.forall_mem_cons.mpr ⟨⟨(show (0 : Int) ≤ ((36 : Nat) : Int) + 4 by decide), trivial⟩, ?_⟩
  refine List.forall_mem_cons.mpr ⟨⟨(trivial), trivial⟩, ?_⟩
  refine List.forall_mem_cons.mpr ⟨⟨(trivial), trivial⟩, ?_⟩
  exact fun _ h => absurd h List.not_mem_nil
theorem mjd_144 : mj_ckd 144 = true := by decide +kernel
theorem mjg_144 : mj_good 144 := mj_goodOf (fun _ => ⟨mj_G, rfl⟩) (by decide +kernel) mjd_144 mje_144
theorem mje_145 : ∀ e ∈ mj_tb145, mj_lk 145 e.1 e.2.1 e.2.2.1 e.2.2.2 ∧ mj_cok 145 e.2.1 e.2.2.1 e.2.2.2 := by
  unfold mj_tb145
  refine List.forall_mem_cons.mpr ⟨⟨(trivial), trivial⟩, ?_⟩
  refine List.forall_mem_cons.mpr ⟨⟨(mj_lkG (by decide) rfl (by decide) mj_inU10 mjf_10_141), trivial⟩, ?_⟩
  refine List.forall_mem_cons.mpr ⟨⟨(show (0 : Int) ≤ ((4 : Nat) : Int) + 30 by decide), trivial⟩, ?_⟩
  refine List.forall_mem_cons.mpr ⟨⟨(trivial), trivial⟩, ?_⟩
  refine List.forall_mem_cons.mpr ⟨⟨(trivial), trivial⟩, ?_⟩
  refine List.forall_mem_cons.mpr ⟨⟨(trivial), trivial⟩, ?_⟩
  refine List.forall_mem_cons.mpr ⟨⟨(trivial), mj_ckOf mjK_101 (by decide) (mj_lnkG mjl_10_145)⟩, ?_⟩
  refine List.forall_mem_cons.mpr ⟨⟨(show (0 : Int) ≤ ((14 : Nat) : Int) + 20 by decide), trivial⟩, ?_⟩
  refine List.forall_mem_cons.mpr ⟨⟨(trivial), trivial⟩, ?_⟩
  refine List.forall_mem_cons.mpr ⟨⟨(trivial), trivial⟩, ?_⟩
  refine List.forall_mem_cons.mpr ⟨⟨(mj_lkG (by decide) rfl (by decide) mj_inU10 mjf_10_230), trivial⟩, ?_⟩
  refine List.forall_mem_cons.mpr ⟨⟨(show (0 : Int) ≤ ((22 : Nat) : Int) + 12 by decide), trivial⟩, ?_⟩
  refine List.forall_mem_cons.mpr ⟨⟨(trivial), trivial⟩, ?_⟩
  refine List.forall_mem_cons.mpr ⟨⟨(trivial), trivial⟩, ?_⟩
  refine List.forall_mem_cons.mpr ⟨⟨(trivial), trivial⟩, ?_⟩
  refine List.forall_mem_cons.mpr ⟨⟨(trivial), mj_ckOf mjK_101 (by decide) (mj_lnkG mjl_10_145)⟩, ?_⟩
  refine List.forall_mem_cons.mpr ⟨⟨(show (0 : Int) ≤ ((31 : Nat) : Int) + 5 by decide), trivial⟩, ?_⟩
  refine List.forall_mem_cons.mpr ⟨⟨(trivial), trivial⟩, ?_⟩
  refine List.forall_mem_cons.mpr ⟨⟨(trivial), trivial⟩, ?_⟩
  refine List.forall_mem_cons.mpr ⟨⟨(trivial), trivial⟩, ?_⟩
  refine List.forall_mem_cons.mpr ⟨⟨(mj_lkG (by decide) rfl (by decide) mj_inU10 mjf_10_230), trivial⟩, ?_⟩
  refine List.forall_mem_cons.mpr ⟨⟨(trivial), trivial⟩, ?_⟩
  refine List.forall_mem_cons.mpr ⟨⟨(trivial), trivial⟩, ?_⟩
  refine List.forall_mem_cons.mpr ⟨⟨(trivial), trivial⟩, ?_⟩
  refine List.forall_mem_cons.mpr ⟨⟨(trivial), trivial⟩, ?_⟩
  refine List.forall_mem_cons.mpr ⟨⟨(trivial), trivial⟩, ?_⟩
  refine List.forall_mem_cons.mpr ⟨⟨(trivial), trivial⟩, ?_⟩
  refine List.forall_mem_cons.mpr ⟨⟨(show (3 : Nat) < mj_maxL 145 by decide), trivial⟩, ?_⟩
  refine List.forall_mem_cons.mpr ⟨⟨(trivial), trivial⟩, ?_⟩
  refine List.forall_mem_cons.mpr ⟨⟨(show (0 : Int) ≤ ((49 : Nat) : Int) + 12 by decide), trivial⟩, ?_⟩
  refine List.forall_mem_cons.mpr ⟨⟨(trivial), trivial⟩, ?_⟩
  refine List.forall_mem_cons.mpr ⟨⟨(mj_lkG (by decide) rfl (by decide) mj_inU10 mjf_10_126), trivial⟩, ?_⟩
  refine List.forall_mem_cons.mpr ⟨⟨(trivial), trivial⟩, ?_⟩
  refine List.forall_mem_cons.mpr ⟨⟨(trivial), trivial⟩, ?_⟩
  refine List.forall_mem_cons.mpr ⟨⟨(show (0 : Int) ≤ ((58 : Nat) : Int) + 37 by decide), trivial⟩, ?_⟩
  refine List.forall_mem_cons.mpr ⟨⟨(trivial), trivial⟩, ?_⟩
  refine List.forall_mem_cons.mpr ⟨⟨(trivial), trivial⟩, ?_⟩
  refine List.forall_mem_cons.mpr ⟨⟨(show (0 : Int) ≤ ((63 : Nat) : Int) + 12 by decide), trivial⟩, ?_⟩
  refine List.forall_mem_cons.mpr ⟨⟨(trivial), trivial⟩, ?_⟩
  refine List.forall_mem_cons.mpr ⟨⟨(mj_lkG (by decide) rfl (by decide) mj_inU10 mjf_10_129), trivial⟩, ?_⟩
  refine List.forall_mem_cons.mpr ⟨⟨(trivial), trivial⟩, ?_⟩
  refine List.forall_mem_cons.mpr ⟨⟨(trivial), trivial⟩, ?_⟩
  refine List.forall_mem_cons.mpr ⟨⟨(show (0 : Int) ≤ ((72 : Nat) : Int) + 23 by decide), trivial⟩, ?_⟩
  refine List.forall_mem_cons.mpr ⟨⟨(trivial), trivial⟩, ?_⟩
  refine List.forall_mem_cons.mpr ⟨⟨(trivial), trivial⟩, ?_⟩
  refine List.forall_mem_cons.mpr ⟨⟨(show (0 : Int) ≤ ((77 : Nat) : Int) + 12 by decide), trivial⟩, ?_⟩
  refine List.forall_mem_cons.mpr ⟨⟨(trivial), trivial⟩, ?_⟩
  refine List.forall_mem_cons.mpr ⟨⟨(mj_lkG (by decide) rfl (by decide) mj_inU10 mjf_10_132), trivial⟩, ?_⟩
  refine List.forall_mem_cons.mpr ⟨⟨(trivial), trivial⟩, ?_⟩
  refine List.forall_mem_cons.mpr ⟨⟨(trivial), trivial⟩, ?_⟩
  refine List.forall_mem_cons.mpr ⟨⟨(show (0 : Int) ≤ ((86 : Nat) : Int) + 9 by decide), trivial⟩, ?_⟩
  refine List.forall_mem_cons.mpr ⟨⟨(trivial), trivial⟩, ?_⟩
  refine List.forall_mem_cons.mpr ⟨⟨(mj_lkG (by decide) rfl (by decide) mj_inU10 mjf_10_135), trivial⟩, ?_⟩
  refine List.forall_mem_cons.mpr ⟨⟨(trivial), trivial⟩, ?_⟩
  refine List.forall_mem_cons.mpr ⟨⟨(trivial), trivial⟩, ?_⟩
  refine List.forall_mem_cons.mpr ⟨⟨(trivial), trivial⟩, ?_⟩
  exact fun _ h => absurd h List.not_mem_nil
theorem mjd_145 : mj_ckd 145 = true := by decide +kernel
theorem mjg_145 : mj_good 145 := mj_goodOf (fun _ => ⟨mj_G, rfl⟩) (by decide +kernel) mjd_145 mje_145
theorem mje_146 : ∀ e ∈ mj_tb146, mj_lk 146 e.1 e.2.1 e.2.2.1 e.2.2.2 ∧ mj_cok 146 e.2.1 e.2.2.1 e.2.2.2 := by
  unfold mj_tb146
  refine List.forall_mem_cons.mpr ⟨⟨(mj_lkN (by decide) rfl mj_inU0 mj_TyOk0 (mj_Gin 14 (by decide +kernel) rfl) (mj_Gin 15 (by decide +kernel) rfl) (mj_Gin 1 (by decide +kernel) rfl) rfl (mj_noref (by decide +kernel)) (by decide +kernel)), trivial⟩, ?_⟩
  refine List.forall_mem_cons.mpr ⟨⟨(trivial), trivial⟩, ?_⟩
  refine List.forall_mem_cons.mpr ⟨⟨(trivial), mj_ckOf mjK_0 (by decide) (mj_lnkG mjl_11_9)⟩, ?_⟩
  refine List.forall_mem_cons.mpr ⟨⟨(show (1 : Nat) < mj_maxL 146 by decide), trivial⟩, ?_⟩
  refine List.forall_mem_cons.mpr ⟨⟨(mj_lkN (by decide) rfl mj_inU10 mj_TyOk10 (mj_Gin 727 (by decide +kernel) rfl) (mj_Gin 728 (by decide +kernel) rfl) (mj_Gin 11 (by decide +kernel) rfl) rfl (mj_noref (by decide +kernel)) (by decide +kernel)), trivial⟩, ?_⟩
  refine List.forall_mem_cons.mpr ⟨⟨(trivial), trivial⟩, ?_⟩
  refine List.forall_mem_cons.mpr ⟨⟨(trivial), mj_ckOf mjK_99 (by decide) (mj_lnkG mjl_11_12)⟩, ?_⟩
  refine List.forall_mem_cons.mpr ⟨⟨(show (2 : Nat) < mj_maxL 146 by decide), trivial⟩, ?_⟩
  refine List.forall_mem_cons.mpr ⟨⟨(trivial), trivial⟩, ?_⟩
  refine List.forall_mem_cons.mpr ⟨⟨(show (3 : Nat) < mj_maxL 146 by decide), trivial⟩, ?_⟩
  refine List.forall_mem_cons.mpr ⟨⟨(trivial), trivial⟩, ?_⟩
  refine List.forall_mem_cons.mpr ⟨⟨(trivial), trivial⟩, ?_⟩
  refine List.forall_mem_cons.mpr ⟨⟨(trivial), trivial⟩, ?_⟩
  refine List.forall_mem_cons.mpr ⟨⟨(trivial), trivial⟩, ?_⟩
  refine List.forall_mem_cons.mpr ⟨⟨(trivial), trivial⟩, ?_⟩
  refine List.forall_mem_cons.mpr ⟨⟨(show (0 : Int) ≤ ((24 : Nat) : Int) + 640 by decide), trivial⟩, ?_⟩
  refine List.forall_mem_cons.mpr ⟨⟨(trivial), trivial⟩, ?_⟩
  refine List.forall_mem_cons.mpr ⟨⟨(trivial), trivial⟩, ?_⟩
  refine List.forall_mem_cons.mpr ⟨⟨(trivial), trivial⟩, ?_⟩
  refine List.forall_mem_cons.mpr ⟨⟨(trivial), trivial⟩, ?_⟩
  refine List.forall_mem_cons.mpr ⟨⟨(trivial), trivial⟩, ?_⟩
  refine List.forall_mem_cons.mpr ⟨⟨(show (0 : Int) ≤ ((33 : Nat) : Int) + 625 ∧ ∀ off ∈ (#[95, 138, 201, 224, 237, 250, 273, 306, 329, 352, 375, 388, 401, 424, 457, 480, 503, 536, 559, 592] : Array Int).toList, (0 : Int) ≤ ((33 : Nat) : Int) + off by decide), trivial⟩, ?_⟩
  refine List.forall_mem_cons.mpr ⟨⟨(trivial), trivial⟩, ?_⟩
  refine List.forall_mem_cons.mpr ⟨⟨(trivial), trivial⟩, ?_⟩
  refine List.forall_mem_cons.mpr ⟨⟨(trivial), trivial⟩, ?_⟩
  refine List.forall_mem_cons.mpr ⟨⟨(trivial), trivial⟩, ?_⟩
  refine List.forall_mem_cons.mpr ⟨⟨(trivial), trivial⟩, ?_⟩
  refine List.forall_mem_cons.mpr ⟨⟨(trivial), trivial⟩, ?_⟩
  refine List.forall_mem_cons.mpr ⟨⟨(trivial), trivial⟩, ?_⟩
  refine List.forall_mem_cons.mpr ⟨⟨(trivial), trivial⟩, ?_⟩
  refine List.forall_mem_cons.mpr ⟨⟨(trivial), trivial⟩, ?_⟩
  refine List.forall_mem_cons.mpr ⟨⟨(trivial), trivial⟩, ?_⟩
  refine List.forall_mem_cons.mpr ⟨⟨(trivial), trivial⟩, ?_⟩
  refine List.forall_mem_cons.mpr ⟨⟨(trivial), trivial⟩, ?_⟩
  refine List.forall_mem_cons.mpr ⟨⟨(trivial), trivial⟩, ?_⟩
  refine List.forall_mem_cons.mpr ⟨⟨(trivial), trivial⟩, ?_⟩
  refine List.forall_mem_cons.mpr ⟨⟨(trivial), trivial⟩, ?_⟩
  refine List.forall_mem_cons.mpr ⟨⟨(trivial), trivial⟩, ?_⟩
  refine List.forall_mem_cons.mpr ⟨⟨(trivial), mj_ckOf mjK_10 (by decide) (mj_lnkG mjl_11_13)⟩, ?_⟩
  refine List.forall_mem_cons.mpr ⟨⟨(trivial), trivial⟩, ?_⟩
  refine List.forall_mem_cons.mpr ⟨⟨(trivial), trivial⟩, ?_⟩
  refine List.forall_mem_cons.mpr ⟨⟨(trivial), trivial⟩, ?_⟩
  refine List.forall_mem_cons.mpr ⟨⟨(trivial), trivial⟩, ?_⟩
  refine List.forall_mem_cons.mpr ⟨⟨(trivial), trivial⟩, ?_⟩
  refine List.forall_mem_cons.mpr ⟨⟨(trivial), trivial⟩, ?_⟩
  refine List.forall_mem_cons.mpr ⟨⟨(trivial), trivial⟩, ?_⟩
  refine List.forall_mem_cons.mpr ⟨⟨(trivial), trivial⟩, ?_⟩
  refine List.forall_mem_cons.mpr ⟨⟨(trivial), trivial⟩, ?_⟩
  refine List.forall_mem_cons.mpr ⟨⟨(trivial), trivial⟩, ?_⟩
  refine List.forall_mem_cons.mpr ⟨⟨(trivial), trivial⟩, ?_⟩
  refine List.forall_mem_cons.mpr ⟨⟨(trivial), trivial⟩, ?_⟩
  refine List.forall_mem_cons.mpr ⟨⟨(trivial), trivial⟩, ?_⟩
  refine List.forall_mem_cons.mpr ⟨⟨(trivial), trivial⟩, ?_⟩
  refine List.forall_mem_cons.mpr ⟨⟨(trivial), trivial⟩, ?_⟩
  refine List.forall_mem_cons.mpr ⟨⟨(trivial), trivial⟩, ?_⟩
  refine List.forall_mem_cons.mpr ⟨⟨(trivial), mj_ckOf mjK_100 (by decide) (mj_lnkG mjl_11_17)⟩, ?_⟩
  refine List.forall_mem_cons.mpr ⟨⟨(show (0 : Int) ≤ ((166 : Nat) : Int) + 492 by decide), trivial⟩, ?_⟩
  refine List.forall_mem_cons.mpr ⟨⟨(trivial), trivial⟩, ?_⟩
  refine List.forall_mem_cons.mpr ⟨⟨(trivial), trivial⟩, ?_⟩
  refine List.forall_mem_cons.mpr ⟨⟨(trivial), trivial⟩, ?_⟩
  refine List.forall_mem_cons.mpr ⟨⟨(trivial), trivial⟩, ?_⟩
  refine List.forall_mem_cons.mpr ⟨⟨(trivial), trivial⟩, ?_⟩
  refine List.forall_mem_cons.mpr ⟨⟨(trivial), trivial⟩, ?_⟩
  refine List.forall_mem_cons.mpr ⟨⟨(trivial), trivial⟩, ?_⟩
  refine List.forall_mem_cons.mpr ⟨⟨(trivial), trivial⟩, ?_⟩
  refine List.forall_mem_cons.mpr ⟨⟨(trivial), trivial⟩, ?_⟩
  refine List.forall_mem_cons.mpr ⟨⟨(trivial), trivial⟩, ?_⟩
  refine List.forall_mem_cons.mpr ⟨⟨(trivial), trivial⟩, ?_⟩
  refine List.forall_mem_cons.mpr ⟨⟨(trivial), trivial⟩, ?_⟩
  refine List.forall_mem_cons.mpr ⟨⟨(trivial), trivial⟩, ?_⟩
  refine List.forall_mem_cons.mpr ⟨⟨(trivial), trivial⟩, ?_⟩
  refine List.forall_mem_cons.mpr ⟨⟨(trivial), trivial⟩, ?_⟩
  refine List.forall_mem_cons.mpr ⟨⟨(trivial), trivial⟩, ?_⟩
  refine List.forall_mem_cons.mpr ⟨⟨(trivial), trivial⟩, ?_⟩
  refine List.forall_mem_cons.mpr ⟨⟨(trivial), trivial⟩, ?_⟩
  refine List.forall_mem_cons.mpr ⟨⟨(trivial), trivial⟩, ?_⟩
  refine List.forall_mem_cons.mpr ⟨⟨(trivial), trivial⟩, ?_⟩
  refine List.forall_mem_cons.mpr ⟨⟨(trivial), trivial⟩, ?_⟩
  refine List.forall_mem_cons.mpr ⟨⟨(trivial), trivial⟩, ?_⟩
  refine List.forall_mem_cons.mpr ⟨⟨(trivial), trivial⟩, ?_⟩
  refine List.forall_mem_cons.mpr ⟨⟨(trivial), trivial⟩, ?_⟩
  refine List.forall_mem_cons.mpr ⟨⟨(trivial), trivial⟩, ?_⟩
  refine List.forall_mem_cons.mpr ⟨⟨(trivial), trivial⟩, ?_⟩
  refine List.forall_mem_cons.mpr ⟨⟨(trivial), trivial⟩, ?_⟩
  refine List.forall_mem_cons.mpr ⟨⟨(trivial), trivial⟩, ?_⟩
  refine List.forall_mem_cons.mpr ⟨⟨(trivial), mj_ckOf mjK_13 (by decide) (mj_lnkG mjl_11_18)⟩, ?_⟩
  refine List.forall_mem_cons.mpr ⟨⟨(trivial), trivial⟩, ?_⟩
  refine List.forall_mem_cons.mpr ⟨⟨(trivial), trivial⟩, ?_⟩
  refine List.forall_mem_cons.mpr ⟨⟨(trivial), trivial⟩, ?_⟩
  refine List.forall_mem_cons.mpr ⟨⟨(trivial), trivial⟩, ?_⟩
  refine List.forall_mem_cons.mpr ⟨⟨(trivial), trivial⟩, ?_⟩
  refine List.forall_mem_cons.mpr ⟨⟨(trivial), trivial⟩, ?_⟩
  refine List.forall_mem_cons.mpr ⟨⟨(trivial), trivial⟩, ?_⟩
  refine List.forall_mem_cons.mpr ⟨⟨(trivial), trivial⟩, ?_⟩
  refine List.forall_mem_cons.mpr ⟨⟨(trivial), trivial⟩, ?_⟩
  refine List.forall_mem_cons.mpr ⟨⟨(trivial), trivial⟩, ?_⟩
  refine List.forall_mem_cons.mpr ⟨⟨(trivial), trivial⟩, ?_⟩
  refine List.forall_mem_cons.mpr ⟨⟨(trivial), trivial⟩, ?_⟩
  refine List.forall_mem_cons.mpr ⟨⟨(trivial), trivial⟩, ?_⟩
  refine List.forall_mem_cons.mpr ⟨⟨(trivial), trivial⟩, ?_⟩
  refine List.forall_mem_cons.mpr ⟨⟨(trivial), trivial⟩, ?_⟩
  refine List.forall_mem_cons.mpr ⟨⟨(trivial), trivial⟩, ?_⟩
  refine List.forall_mem_cons.mpr ⟨⟨(trivial), trivial⟩, ?_⟩
  refine List.forall_mem_cons.mpr ⟨⟨(trivial), trivial⟩, ?_⟩
  refine List.forall_mem_cons.mpr ⟨⟨(trivial), trivial⟩, ?_⟩
  refine List.forall_mem_cons.mpr ⟨⟨(trivial), trivial⟩, ?_⟩
  refine List.forall_mem_cons.mpr ⟨⟨(trivial), trivial⟩, ?_⟩
  refine List.forall_mem_cons.mpr ⟨⟨(trivial), trivial⟩, ?_⟩
  refine List.forall_mem_cons.mpr ⟨⟨(trivial), trivial⟩, ?_⟩
  refine List.forall_mem_cons.mpr ⟨⟨(trivial), trivial⟩, ?_⟩
  refine List.forall_mem_cons.mpr ⟨⟨(trivial), trivial⟩, ?_⟩
  refine List.forall_mem_cons.mpr ⟨⟨(trivial), trivial⟩, ?_⟩
  refine List.forall_mem_cons.mpr ⟨⟨(trivial), mj_ckOf mjK_102 (by decide) (mj_lnkG mjl_11_22)⟩, ?_⟩
  refine List.forall_mem_cons.mpr ⟨⟨(show (0 : Int) ≤ ((229 : Nat) : Int) + 429 by decide), trivial⟩, ?_⟩
  refine List.forall_mem_cons.mpr ⟨⟨(trivial), trivial⟩, ?_⟩
  refine List.forall_mem_cons.mpr ⟨⟨(trivial), trivial⟩, ?_⟩
  refine List.forall_mem_cons.mpr ⟨⟨(trivial), trivial⟩, ?_⟩
  refine List.forall_mem_cons.mpr ⟨⟨(trivial), trivial⟩, ?_⟩
  refine List.forall_mem_cons.mpr ⟨⟨(trivial), trivial⟩, ?_⟩
  refine List.forall_mem_cons.mpr ⟨⟨(trivial), trivial⟩, ?_⟩
  refine List.forall_mem_cons.mpr ⟨⟨(trivial), trivial⟩, ?_⟩
  refine List.forall_mem_cons.mpr ⟨⟨(trivial), trivial⟩, ?_⟩
  refine List.forall_mem_cons.mpr ⟨⟨(trivial), mj_ckOf mjK_18 (by decide) (mj_lnkG mjl_11_23)⟩, ?_⟩
  refine List.forall_mem_cons.mpr ⟨⟨(trivial), trivial⟩, ?_⟩
  refine List.forall_mem_cons.mpr ⟨⟨(trivial), trivial⟩, ?_⟩
  refine List.forall_mem_cons.mpr ⟨⟨(trivial), trivial⟩, ?_⟩
  refine List.forall_mem_cons.mpr ⟨⟨(trivial), trivial⟩, ?_⟩
  refine List.forall_mem_cons.mpr ⟨⟨(trivial), trivial⟩, ?_⟩
  refine List.forall_mem_cons.mpr ⟨⟨(trivial), trivial⟩, ?_⟩
  refine List.forall_mem_cons.mpr ⟨⟨(trivial), mj_ckOf mjK_105 (by decide) (mj_lnkG mjl_11_27)⟩, ?_⟩
  refine List.forall_mem_cons.mpr ⟨⟨(show (0 : Int) ≤ ((252 : Nat) : Int) + 406 by decide), trivial⟩, ?_⟩
  refine List.forall_mem_cons.mpr ⟨⟨(trivial), trivial⟩, ?_⟩
  refine List.forall_mem_cons.mpr ⟨⟨(trivial), trivial⟩, ?_⟩
  refine List.forall_mem_cons.mpr ⟨⟨(trivial), trivial⟩, ?_⟩
  refine List.forall_mem_cons.mpr ⟨⟨(trivial), mj_ckOf mjK_20 (by decide) (mj_lnkG mjl_11_28)⟩, ?_⟩
  refine List.forall_mem_cons.mpr ⟨⟨(trivial), trivial⟩, ?_⟩
  refine List.forall_mem_cons.mpr ⟨⟨(trivial), mj_ckOf mjK_106 (by decide) (mj_lnkG mjl_11_32)⟩, ?_⟩
  refine List.forall_mem_cons.mpr ⟨⟨(show (0 : Int) ≤ ((265 : Nat) : Int) + 393 by decide), trivial⟩, ?_⟩
  refine List.forall_mem_cons.mpr ⟨⟨(trivial), trivial⟩, ?_⟩
  refine List.forall_mem_cons.mpr ⟨⟨(trivial), trivial⟩, ?_⟩
  refine List.forall_mem_cons.mpr ⟨⟨(trivial), trivial⟩, ?_⟩
  refine List.forall_mem_cons.mpr ⟨⟨(trivial), mj_ckOf mjK_45 (by decide) (mj_lnkG mjl_11_33)⟩, ?_⟩
  refine List.forall_mem_cons.mpr ⟨⟨(trivial), trivial⟩, ?_⟩
  refine List.forall_mem_cons.mpr ⟨⟨(trivial), mj_ckOf mjK_120 (by decide) (mj_lnkG mjl_11_36)⟩, ?_⟩
  refine List.forall_mem_cons.mpr ⟨⟨(show (0 : Int) ≤ ((278 : Nat) : Int) + 380 by decide), trivial⟩, ?_⟩
  refine List.forall_mem_cons.mpr ⟨⟨(trivial), trivial⟩, ?_⟩
  refine List.forall_mem_cons.mpr ⟨⟨(trivial), trivial⟩, ?_⟩
  refine List.forall_mem_cons.mpr ⟨⟨(trivial), trivial⟩, ?_⟩
  refine List.forall_mem_cons.mpr ⟨⟨(trivial), trivial⟩, ?_⟩
  refine List.forall_mem_cons.mpr ⟨⟨(trivial), trivial⟩, ?_⟩
  refine List.forall_mem_cons.mpr ⟨⟨(trivial), trivial⟩, ?_⟩
  refine List.forall_mem_cons.mpr ⟨⟨(trivial), trivial⟩, ?_⟩
  refine List.forall_mem_cons.mpr ⟨⟨(trivial), trivial⟩, ?_⟩
  refine List.forall_mem_cons.mpr ⟨⟨(trivial), mj_ckOf mjK_46 (by decide) (mj_lnkG mjl_11_37)⟩, ?_⟩
  refine List.forall_mem_cons.mpr ⟨⟨(trivial), trivial⟩, ?_⟩
  refine List.forall_mem_cons.mpr ⟨⟨(trivial), trivial⟩, ?_⟩
  refine List.forall_mem_cons.mpr ⟨⟨(trivial), trivial⟩, ?_⟩
  refine List.forall_mem_cons.mpr ⟨⟨(trivial), trivial⟩, ?_⟩
  refine List.forall_mem_cons.mpr ⟨⟨(trivial), trivial⟩, ?_⟩
  refine List.forall_mem_cons.mpr ⟨⟨(trivial), trivial⟩, ?_⟩
  refine List.forall_mem_cons.mpr ⟨⟨(trivial), mj_ckOf mjK_121 (by decide) (mj_lnkG mjl_11_41)⟩, ?_⟩
  refine List.forall_mem_cons.mpr ⟨⟨(show (0 : Int) ≤ ((301 : Nat) : Int) + 357 by decide), trivial⟩, ?_⟩
  refine List.forall_mem_cons.mpr ⟨⟨(trivial), trivial⟩, ?_⟩
  refine List.forall_mem_cons.mpr ⟨⟨(trivial), trivial⟩, ?_⟩
  refine List.forall_mem_cons.mpr ⟨⟨(trivial), trivial⟩, ?_⟩
  refine List.forall_mem_cons.mpr ⟨⟨(trivial), trivial⟩, ?_⟩
  refine List.forall_mem_cons.mpr ⟨⟨(trivial), trivial⟩, ?_⟩
  refine List.forall_mem_cons.mpr ⟨⟨(trivial), trivial⟩, ?_⟩
  refine List.forall_mem_cons.mpr ⟨⟨(trivial), trivial⟩, ?_⟩
  refine List.forall_mem_cons.mpr ⟨⟨(trivial), trivial⟩, ?_⟩
  refine List.forall_mem_cons.mpr ⟨⟨(trivial), trivial⟩, ?_⟩
  refine List.forall_mem_cons.mpr ⟨⟨(trivial), trivial⟩, ?_⟩
  refine List.forall_mem_cons.mpr ⟨⟨(trivial), trivial⟩, ?_⟩
  refine List.forall_mem_cons.mpr ⟨⟨(trivial), trivial⟩, ?_⟩
  refine List.forall_mem_cons.mpr ⟨⟨(trivial), trivial⟩, ?_⟩
  refine List.forall_mem_cons.mpr ⟨⟨(trivial), mj_ckOf mjK_48 (by decide) (mj_lnkG mjl_11_42)⟩, ?_⟩
  refine List.forall_mem_cons.mpr ⟨⟨(trivial), trivial⟩, ?_⟩
  refine List.forall_mem_cons.mpr ⟨⟨(trivial), trivial⟩, ?_⟩
  refine List.forall_mem_cons.mpr ⟨⟨(trivial), trivial⟩, ?_⟩
  refine List.forall_mem_cons.mpr ⟨⟨(trivial), trivial⟩, ?_⟩
  refine List.forall_mem_cons.mpr ⟨⟨(trivial), trivial⟩, ?_⟩
  refine List.forall_mem_cons.mpr ⟨⟨(trivial), trivial⟩, ?_⟩
  refine List.forall_mem_cons.mpr ⟨⟨(trivial), trivial⟩, ?_⟩
  refine List.forall_mem_cons.mpr ⟨⟨(trivial), trivial⟩, ?_⟩
  refine List.forall_mem_cons.mpr ⟨⟨(trivial), trivial⟩, ?_⟩
  refine List.forall_mem_cons.mpr ⟨⟨(trivial), trivial⟩, ?_⟩
  refine List.forall_mem_cons.mpr ⟨⟨(trivial), trivial⟩, ?_⟩
  refine List.forall_mem_cons.mpr ⟨⟨(trivial), mj_ckOf mjK_122 (by decide) (mj_lnkG mjl_11_46)⟩, ?_⟩
  refine List.forall_mem_cons.mpr ⟨⟨(show (0 : Int) ≤ ((334 : Nat) : Int) + 324 by decide), trivial⟩, ?_⟩
  refine List.forall_mem_cons.mpr ⟨⟨(trivial), trivial⟩, ?_⟩
  refine List.forall_mem_cons.mpr ⟨⟨(trivial), trivial⟩, ?_⟩
  refine List.forall_mem_cons.mpr ⟨⟨(trivial), trivial⟩, ?_⟩
  refine List.forall_mem_cons.mpr ⟨⟨(trivial), trivial⟩, ?_⟩
  refine List.forall_mem_cons.mpr ⟨⟨(trivial), trivial⟩, ?_⟩
  refine List.forall_mem_cons.mpr ⟨⟨(trivial), trivial⟩, ?_⟩
  refine List.forall_mem_cons.mpr ⟨⟨(trivial), trivial⟩, ?_⟩
  refine List.forall_mem_cons.mpr ⟨⟨(trivial), trivial⟩, ?_⟩
  refine List.forall_mem_cons.mpr ⟨⟨(trivial), mj_ckOf mjK_49 (by decide) (mj_lnkG mjl_11_47)⟩, ?_⟩
  refine List.forall_mem_cons.mpr ⟨⟨(trivial), trivial⟩, ?_⟩
  refine List.forall_mem_cons.mpr ⟨⟨(trivial), trivial⟩, ?_⟩
  refine List.forall_mem_cons.mpr ⟨⟨(trivial), trivial⟩, ?_⟩
  refine List.forall_mem_cons.mpr ⟨⟨(trivial), trivial⟩, ?_⟩
  refine List.forall_mem_cons.mpr ⟨⟨(trivial), trivial⟩, ?_⟩
  refine List.forall_mem_cons.mpr ⟨⟨(trivial), trivial⟩, ?_⟩
  refine List.forall_mem_cons.mpr ⟨⟨(trivial), mj_ckOf mjK_123 (by decide) (mj_lnkG mjl_11_50)⟩, ?_⟩
  refine List.forall_mem_cons.mpr ⟨⟨(show (0 : Int) ≤ ((357 : Nat) : Int) + 301 by decide), trivial⟩, ?_⟩
  refine List.forall_mem_cons.mpr ⟨⟨(trivial), trivial⟩, ?_⟩
  refine List.forall_mem_cons.mpr ⟨⟨(trivial), trivial⟩, ?_⟩
  refine List.forall_mem_cons.mpr ⟨⟨(trivial), trivial⟩, ?_⟩
  refine List.forall_mem_cons.mpr ⟨⟨(trivial), trivial⟩, ?_⟩
  refine List.forall_mem_cons.mpr ⟨⟨(trivial), trivial⟩, ?_⟩
  refine List.forall_mem_cons.mpr ⟨⟨(trivial), trivial⟩, ?_⟩
  refine List.forall_mem_cons.mpr ⟨⟨(trivial), trivial⟩, ?_⟩
  refine List.forall_mem_cons.mpr ⟨⟨(trivial), trivial⟩, ?_⟩
  refine List.forall_mem_cons.mpr ⟨⟨(trivial), mj_ckOf mjK_50 (by decide) (mj_lnkG mjl_11_51)⟩, ?_⟩
  refine List.forall_mem_cons.mpr ⟨⟨(trivial), trivial⟩, ?_⟩
  refine List.forall_mem_cons.mpr ⟨⟨(trivial), trivial⟩, ?_⟩
  refine List.forall_mem_cons.mpr ⟨⟨(trivial), trivial⟩, ?_⟩
  refine List.forall_mem_cons.mpr ⟨⟨(trivial), trivial⟩, ?_⟩
  refine List.forall_mem_cons.mpr ⟨⟨(trivial), trivial⟩, ?_⟩
  refine List.forall_mem_cons.mpr ⟨⟨(trivial), trivial⟩, ?_⟩
  refine List.forall_mem_cons.mpr ⟨⟨(trivial), mj_ckOf mjK_124 (by decide) (mj_lnkG mjl_11_54)⟩, ?_⟩
  refine List.forall_mem_cons.mpr ⟨⟨(show (0 : Int) ≤ ((380 : Nat) : Int) + 278 by decide), trivial⟩, ?_⟩
  refine List.forall_mem_cons.mpr ⟨⟨(trivial), trivial⟩, ?_⟩
  refine List.forall_mem_cons.mpr ⟨⟨(trivial), trivial⟩, ?_⟩
  refine List.forall_mem_cons.mpr ⟨⟨(trivial), trivial⟩, ?_⟩
  refine List.forall_mem_cons.mpr ⟨⟨(trivial), trivial⟩, ?_⟩
  refine List.forall_mem_cons.mpr ⟨⟨(trivial), trivial⟩, ?_⟩
  refine List.forall_mem_cons.mpr ⟨⟨(trivial), trivial⟩, ?_⟩
  refine List.forall_mem_cons.mpr ⟨⟨(trivial), trivial⟩, ?_⟩
  refine List.forall_mem_cons.mpr ⟨⟨(trivial), trivial⟩, ?_⟩
  refine List.forall_mem_cons.mpr ⟨⟨(trivial), mj_ckOf mjK_51 (by decide) (mj_lnkG mjl_11_55)⟩, ?_⟩
  refine List.forall_mem_cons.mpr ⟨⟨(trivial), trivial⟩, ?_⟩
  refine List.forall_mem_cons.mpr ⟨⟨(trivial), trivial⟩, ?_⟩
  refine List.forall_mem_cons.mpr ⟨⟨(trivial), trivial⟩, ?_⟩
  refine List.forall_mem_cons.mpr ⟨⟨(trivial), trivial⟩, ?_⟩
  refine List.forall_mem_cons.mpr ⟨⟨(trivial), trivial⟩, ?_⟩
  refine List.forall_mem_cons.mpr ⟨⟨(trivial), trivial⟩, ?_⟩
  refine List.forall_mem_cons.mpr ⟨⟨(trivial), mj_ckOf mjK_125 (by decide) (mj_lnkG mjl_11_58)⟩, ?_⟩
  refine List.forall_mem_cons.mpr ⟨⟨(show (0 : Int) ≤ ((403 : Nat) : Int) + 255 by decide), trivial⟩, ?_⟩
  refine List.forall_mem_cons.mpr ⟨⟨(trivial), trivial⟩, ?_⟩
  refine List.forall_mem_cons.mpr ⟨⟨(trivial), trivial⟩, ?_⟩
  refine List.forall_mem_cons.mpr ⟨⟨(trivial), trivial⟩, ?_⟩
  refine List.forall_mem_cons.mpr ⟨⟨(trivial), mj_ckOf mjK_52 (by decide) (mj_lnkG mjl_11_59)⟩, ?_⟩
  refine List.forall_mem_cons.mpr ⟨⟨(trivial), trivial⟩, ?_⟩
  refine List.forall_mem_cons.mpr ⟨⟨(trivial), mj_ckOf mjK_126 (by decide) (mj_lnkG mjl_11_63)⟩, ?_⟩
  refine List.forall_mem_cons.mpr ⟨⟨(show (0 : Int) ≤ ((416 : Nat) : Int) + 242 by decide), trivial⟩, ?_⟩
  refine List.forall_mem_cons.mpr ⟨⟨(trivial), trivial⟩, ?_⟩
  refine List.forall_mem_cons.mpr ⟨⟨(trivial), trivial⟩, ?_⟩
  refine List.forall_mem_cons.mpr ⟨⟨(trivial), trivial⟩, ?_⟩
  refine List.forall_mem_cons.mpr ⟨⟨(trivial), mj_ckOf mjK_57 (by decide) (mj_lnkG mjl_11_64)⟩, ?_⟩
  refine List.forall_mem_cons.mpr ⟨⟨(trivial), trivial⟩, ?_⟩
  refine List.forall_mem_cons.mpr ⟨⟨(trivial), mj_ckOf mjK_127 (by decide) (mj_lnkG mjl_11_67)⟩, ?_⟩
  refine List.forall_mem_cons.mpr ⟨⟨(show (0 : Int) ≤ ((429 : Nat) : Int) + 229 by decide), trivial⟩, ?_⟩
  refine List.forall_mem_cons.mpr ⟨⟨(trivial), trivial⟩, ?_⟩
  refine List.forall_mem_cons.mpr ⟨⟨(trivial), trivial⟩, ?_⟩
  refine List.forall_mem_cons.mpr ⟨⟨(trivial), trivial⟩, ?_⟩
  refine List.forall_mem_cons.mpr ⟨⟨(trivial), trivial⟩, ?_⟩
  refine List.forall_mem_cons.mpr ⟨⟨(trivial), trivial⟩, ?_⟩
  refine List.forall_mem_cons.mpr ⟨⟨(trivial), trivial⟩, ?_⟩
  refine List.forall_mem_cons.mpr ⟨⟨(trivial), trivial⟩, ?_⟩
  refine List.forall_mem_cons.mpr ⟨⟨(trivial), trivial⟩, ?_⟩
  refine List.forall_mem_cons.mpr ⟨⟨(trivial), mj_ckOf mjK_58 (by decide) (mj_lnkG mjl_11_68)⟩, ?_⟩
  refine List.forall_mem_cons.mpr ⟨⟨(trivial), trivial⟩, ?_⟩
  refine List.forall_mem_cons.mpr ⟨⟨(trivial), trivial⟩, ?_⟩
  refine List.forall_mem_cons.mpr ⟨⟨(trivial), trivial⟩, ?_⟩
  refine List.forall_mem_cons.mpr ⟨⟨(trivial), trivial⟩, ?_⟩
  refine List.forall_mem_cons.mpr ⟨⟨(trivial), trivial⟩, ?_⟩
  refine List.forall_mem_cons.mpr ⟨⟨(trivial), trivial⟩, ?_⟩
  refine List.forall_mem_cons.mpr ⟨⟨(trivial), mj_ckOf mjK_128 (by decide) (mj_lnkG mjl_11_71)⟩, ?_⟩
  refine List.forall_mem_cons.mpr ⟨⟨(show (0 : Int) ≤ ((452 : Nat) : Int) + 206 by decide), trivial⟩, ?_⟩
  refine List.forall_mem_cons.mpr ⟨⟨(trivial), trivial⟩, ?_⟩
  refine List.forall_mem_cons.mpr ⟨⟨(trivial), trivial⟩, ?_⟩
  refine List.forall_mem_cons.mpr ⟨⟨(trivial), trivial⟩, ?_⟩
  refine List.forall_mem_cons.mpr ⟨⟨(trivial), trivial⟩, ?_⟩
  refine List.forall_mem_cons.mpr ⟨⟨(trivial), trivial⟩, ?_⟩
  refine List.forall_mem_cons.mpr ⟨⟨(trivial), trivial⟩, ?_⟩
  refine List.forall_mem_cons.mpr ⟨⟨(trivial), trivial⟩, ?_⟩
  refine List.forall_mem_cons.mpr ⟨⟨(trivial), trivial⟩, ?_⟩
  refine List.forall_mem_cons.mpr ⟨⟨(trivial), trivial⟩, ?_⟩
  refine List.forall_mem_cons.mpr ⟨⟨(trivial), trivial⟩, ?_⟩
  refine List.forall_mem_cons.mpr ⟨⟨(trivial), trivial⟩, ?_⟩
  refine List.forall_mem_cons.mpr ⟨⟨(trivial), trivial⟩, ?_⟩
  refine List.forall_mem_cons.mpr ⟨⟨(trivial), trivial⟩, ?_⟩
  refine List.forall_mem_cons.mpr ⟨⟨(trivial), mj_ckOf mjK_61 (by decide) (mj_lnkG mjl_11_72)⟩, ?_⟩
  refine List.forall_mem_cons.mpr ⟨⟨(trivial), trivial⟩, ?_⟩
  refine List.forall_mem_cons.mpr ⟨⟨(trivial), trivial⟩, ?_⟩
  refine List.forall_mem_cons.mpr ⟨⟨(trivial), trivial⟩, ?_⟩
  refine List.forall_mem_cons.mpr ⟨⟨(trivial), trivial⟩, ?_⟩
  refine List.forall_mem_cons.mpr ⟨⟨(trivial), trivial⟩, ?_⟩
  refine List.forall_mem_cons.mpr ⟨⟨(trivial), trivial⟩, ?_⟩
  refine List.forall_mem_cons.mpr ⟨⟨(trivial), trivial⟩, ?_⟩
  refine List.forall_mem_cons.mpr ⟨⟨(trivial), trivial⟩, ?_⟩
  refine List.forall_mem_cons.mpr ⟨⟨(trivial), trivial⟩, ?_⟩
  refine List.forall_mem_cons.mpr ⟨⟨(trivial), trivial⟩, ?_⟩
  refine List.forall_mem_cons.mpr ⟨⟨(trivial), trivial⟩, ?_⟩
  refine List.forall_mem_cons.mpr ⟨⟨(trivial), mj_ckOf mjK_129 (by decide) (mj_lnkG mjl_11_76)⟩, ?_⟩
  refine List.forall_mem_cons.mpr ⟨⟨(show (0 : Int) ≤ ((485 : Nat) : Int) + 173 by decide), trivial⟩, ?_⟩
  refine List.forall_mem_cons.mpr ⟨⟨(trivial), trivial⟩, ?_⟩
  refine List.forall_mem_cons.mpr ⟨⟨(trivial), trivial⟩, ?_⟩
  refine List.forall_mem_cons.mpr ⟨⟨(trivial), trivial⟩, ?_⟩
  refine List.forall_mem_cons.mpr ⟨⟨(trivial), trivial⟩, ?_⟩
  refine List.forall_mem_cons.mpr ⟨⟨(trivial), trivial⟩, ?_⟩
  refine List.forall_mem_cons.mpr ⟨⟨(trivial), trivial⟩, ?_⟩
  refine List.forall_mem_cons.mpr ⟨⟨(trivial), trivial⟩, ?_⟩
  refine List.forall_mem_cons.mpr ⟨⟨(trivial), trivial⟩, ?_⟩
  refine List.forall_mem_cons.mpr ⟨⟨(trivial), mj_ckOf mjK_62 (by decide) (mj_lnkG mjl_11_77)⟩, ?_⟩
  refine List.forall_mem_cons.mpr ⟨⟨(trivial), trivial⟩, ?_⟩
  refine List.forall_mem_cons.mpr ⟨⟨(trivial), trivial⟩, ?_⟩
  refine List.forall_mem_cons.mpr ⟨⟨(trivial), trivial⟩, ?_⟩
  refine List.forall_mem_cons.mpr ⟨⟨(trivial), trivial⟩, ?_⟩
  refine List.forall_mem_cons.mpr ⟨⟨(trivial), trivial⟩, ?_⟩
  refine List.forall_mem_cons.mpr ⟨⟨(trivial), trivial⟩, ?_⟩
  refine List.forall_mem_cons.mpr ⟨⟨(trivial), mj_ckOf mjK_130 (by decide) (mj_lnkG mjl_11_80)⟩, ?_⟩
  refine List.forall_mem_cons.mpr ⟨⟨(show (0 : Int) ≤ ((508 : Nat) : Int) + 150 by decide), trivial⟩, ?_⟩
  refine List.forall_mem_cons.mpr ⟨⟨(trivial), trivial⟩, ?_⟩
  refine List.forall_mem_cons.mpr ⟨⟨(trivial), trivial⟩, ?_⟩
  refine List.forall_mem_cons.mpr ⟨⟨(trivial), trivial⟩, ?_⟩
  refine List.forall_mem_cons.mpr ⟨⟨(trivial), trivial⟩, ?_⟩
  refine List.forall_mem_cons.mpr ⟨⟨(trivial), trivial⟩, ?_⟩
  refine List.forall_mem_cons.mpr ⟨⟨(trivial), trivial⟩, ?_⟩
  refine List.forall_mem_cons.mpr ⟨⟨(trivial), trivial⟩, ?_⟩
  refine List.forall_mem_cons.mpr ⟨⟨(trivial), trivial⟩, ?_⟩
  refine List.forall_mem_cons.mpr ⟨⟨(trivial), mj_ckOf mjK_91 (by decide) (mj_lnkG mjl_11_81)⟩, ?_⟩
  refine List.forall_mem_cons.mpr ⟨⟨(trivial), trivial⟩, ?_⟩
  refine List.forall_mem_cons.mpr ⟨⟨(trivial), trivial⟩, ?_⟩
  refine List.forall_mem_cons.mpr ⟨⟨(trivial), trivial⟩, ?_⟩
  refine List.forall_mem_cons.mpr ⟨⟨(trivial), trivial⟩, ?_⟩
  refine List.forall_mem_cons.mpr ⟨⟨(trivial), trivial⟩, ?_⟩
  refine List.forall_mem_cons.mpr ⟨⟨(trivial), trivial⟩, ?_⟩
  refine List.forall_mem_cons.mpr ⟨⟨(trivial), mj_ckOf mjK_141 (by decide) (mj_lnkG mjl_11_84)⟩, ?_⟩
  refine List.forall_mem_cons.mpr ⟨⟨(show (0 : Int) ≤ ((531 : Nat) : Int) + 127 by decide), trivial⟩, ?_⟩
  refine List.forall_mem_cons.mpr ⟨⟨(trivial), trivial⟩, ?_⟩
  refine List.forall_mem_cons.mpr ⟨⟨(trivial), trivial⟩, ?_⟩
  refine List.forall_mem_cons.mpr ⟨⟨(trivial), trivial⟩, ?_⟩
  refine List.forall_mem_cons.mpr ⟨⟨(trivial), trivial⟩, ?_⟩
  refine List.forall_mem_cons.mpr ⟨⟨(trivial), trivial⟩, ?_⟩
  refine List.forall_mem_cons.mpr ⟨⟨(trivial), trivial⟩, ?_⟩
  refine List.forall_mem_cons.mpr ⟨⟨(trivial), trivial⟩, ?_⟩
  refine List.forall_mem_cons.mpr ⟨⟨(trivial), trivial⟩, ?_⟩
  refine List.forall_mem_cons.mpr ⟨⟨(trivial), trivial⟩, ?_⟩
  refine List.forall_mem_cons.mpr ⟨⟨(trivial), trivial⟩, ?_⟩
  refine List.forall_mem_cons.mpr ⟨⟨(trivial), trivial⟩, ?_⟩
  refine List.forall_mem_cons.mpr ⟨⟨(trivial), trivial⟩, ?_⟩
  refine List.forall_mem_cons.mpr ⟨⟨(trivial), trivial⟩, ?_⟩
  refine List.forall_mem_cons.mpr ⟨⟨(trivial), mj_ckOf mjK_93 (by decide) (mj_lnkG mjl_11_85)⟩, ?_⟩
  refine List.forall_mem_cons.mpr ⟨⟨(trivial), trivial⟩, ?_⟩
  refine List.forall_mem_cons.mpr ⟨⟨(trivial), trivial⟩, ?_⟩
  refine List.forall_mem_cons.mpr ⟨⟨(trivial), trivial⟩, ?_⟩
  refine List.forall_mem_cons.mpr ⟨⟨(trivial), trivial⟩, ?_⟩
  refine List.forall_mem_cons.mpr ⟨⟨(trivial), trivial⟩, ?_⟩
  refine List.forall_mem_cons.mpr ⟨⟨(trivial), trivial⟩, ?_⟩
  refine List.forall_mem_cons.mpr ⟨⟨(trivial), trivial⟩, ?_⟩
  refine List.forall_mem_cons.mpr ⟨⟨(trivial), trivial⟩, ?_⟩
  refine List.forall_mem_cons.mpr ⟨⟨(trivial), trivial⟩, ?_⟩
  refine List.forall_mem_cons.mpr ⟨⟨(trivial), trivial⟩, ?_⟩
  refine List.forall_mem_cons.mpr ⟨⟨(trivial), trivial⟩, ?_⟩
  refine List.forall_mem_cons.mpr ⟨⟨(trivial), mj_ckOf mjK_142 (by decide) (mj_lnkG mjl_11_88)⟩, ?_⟩
  refine List.forall_mem_cons.mpr ⟨⟨(show (0 : Int) ≤ ((564 : Nat) : Int) + 94 by decide), trivial⟩, ?_⟩
  refine List.forall_mem_cons.mpr ⟨⟨(trivial), trivial⟩, ?_⟩
  refine List.forall_mem_cons.mpr ⟨⟨(trivial), trivial⟩, ?_⟩
  refine List.forall_mem_cons.mpr ⟨⟨(trivial), trivial⟩, ?_⟩
  refine List.forall_mem_cons.mpr ⟨⟨(trivial), trivial⟩, ?_⟩
  refine List.forall_mem_cons.mpr ⟨⟨(trivial), trivial⟩, ?_⟩
  refine List.forall_mem_cons.mpr ⟨⟨(trivial), trivial⟩, ?_⟩
  refine List.forall_mem_cons.mpr ⟨⟨(trivial), trivial⟩, ?_⟩
  refine List.forall_mem_cons.mpr ⟨⟨(trivial), trivial⟩, ?_⟩
  refine List.forall_mem_cons.mpr ⟨⟨(trivial), mj_ckOf mjK_95 (by decide) (mj_lnkG mjl_11_89)⟩, ?_⟩
  refine List.forall_mem_cons.mpr ⟨⟨(trivial), trivial⟩, ?_⟩
  refine List.forall_mem_cons.mpr ⟨⟨(trivial), trivial⟩, ?_⟩
  refine List.forall_mem_cons.mpr ⟨⟨(trivial), trivial⟩, ?_⟩
  refine List.forall_mem_cons.mpr ⟨⟨(trivial), trivial⟩, ?_⟩
  refine List.forall_mem_cons.mpr ⟨⟨(trivial), trivial⟩, ?_⟩
  refine List.forall_mem_cons.mpr ⟨⟨(trivial), trivial⟩, ?_⟩
  refine List.forall_mem_cons.mpr ⟨⟨(trivial), mj_ckOf mjK_143 (by decide) (mj_lnkG mjl_11_92)⟩, ?_⟩
  refine List.forall_mem_cons.mpr ⟨⟨(show (0 : Int) ≤ ((587 : Nat) : Int) + 71 by decide), trivial⟩, ?_⟩
  refine List.forall_mem_cons.mpr ⟨⟨(trivial), trivial⟩, ?_⟩
  refine List.forall_mem_cons.mpr ⟨⟨(trivial), trivial⟩, ?_⟩
  refine List.forall_mem_cons.mpr ⟨⟨(trivial), trivial⟩, ?_⟩
  refine List.forall_mem_cons.mpr ⟨⟨(trivial), trivial⟩, ?_⟩
  refine List.forall_mem_cons.mpr ⟨⟨(trivial), trivial⟩, ?_⟩
  refine List.forall_mem_cons.mpr ⟨⟨(trivial), trivial⟩, ?_⟩
  refine List.forall_mem_cons.mpr ⟨⟨(trivial), trivial⟩, ?_⟩
  refine List.forall_mem_cons.mpr ⟨⟨(trivial), trivial⟩, ?_⟩
  refine List.forall_mem_cons.mpr ⟨⟨(trivial), trivial⟩, ?_⟩
  refine List.forall_mem_cons.mpr ⟨⟨(trivial), trivial⟩, ?_⟩
  refine List.forall_mem_cons.mpr ⟨⟨(trivial), trivial⟩, ?_⟩
  refine List.forall_mem_cons.mpr ⟨⟨(trivial), trivial⟩, ?_⟩
  refine List.forall_mem_cons.mpr ⟨⟨(trivial), trivial⟩, ?_⟩
  refine List.forall_mem_cons.mpr ⟨⟨(trivial), mj_ckOf mjK_96 (by decide) (mj_lnkG mjl_11_93)⟩, ?_⟩
  refine List.forall_mem_cons.mpr ⟨⟨(trivial), trivial⟩, ?_⟩
  refine List.forall_mem_cons.mpr ⟨⟨(trivial), trivial⟩, ?_⟩
  refine List.forall_mem_cons.mpr ⟨⟨(trivial), trivial⟩, ?_⟩
  refine List.forall_mem_cons.mpr ⟨⟨(trivial), trivial⟩, ?_⟩
  refine List.forall_mem_cons.mpr ⟨⟨(trivial), trivial⟩, ?_⟩
  refine List.forall_mem_cons.mpr ⟨⟨(trivial), trivial⟩, ?_⟩
  refine List.forall_mem_cons.mpr ⟨⟨(trivial), trivial⟩, ?_⟩
  refine List.forall_mem_cons.mpr ⟨⟨(trivial), trivial⟩, ?_⟩
  refine List.forall_mem_cons.mpr ⟨⟨(trivial), trivial⟩, ?_⟩
  refine List.forall_mem_cons.mpr ⟨⟨(trivial), trivial⟩, ?_⟩
  refine List.forall_mem_cons.mpr ⟨⟨(trivial), trivial⟩, ?_⟩
  refine List.forall_mem_cons.mpr ⟨⟨(trivial), mj_ckOf mjK_144 (by decide) (mj_lnkG mjl_11_96)⟩, ?_⟩
  refine List.forall_mem_cons.mpr ⟨⟨(show (0 : Int) ≤ ((620 : Nat) : Int) + 38 by decide), trivial⟩, ?_⟩
  refine List.forall_mem_cons.mpr ⟨⟨(trivial), trivial⟩, ?_⟩
  refine List.forall_mem_cons.mpr ⟨⟨(trivial), trivial⟩, ?_⟩
  refine List.forall_mem_cons.mpr ⟨⟨(trivial), trivial⟩, ?_⟩
  refine List.forall_mem_cons.mpr ⟨⟨(trivial), trivial⟩, ?_⟩
  refine List.forall_mem_cons.mpr ⟨⟨(trivial), trivial⟩, ?_⟩
  refine List.forall_mem_cons.mpr ⟨⟨(trivial), trivial⟩, ?_⟩
  refine List.forall_mem_cons.mpr ⟨⟨(trivial), trivial⟩, ?_⟩
  refine List.forall_mem_cons.mpr ⟨⟨(trivial), trivial⟩, ?_⟩
  refine List.forall_mem_cons.mpr ⟨⟨(trivial), trivial⟩, ?_⟩
  refine List.forall_mem_cons.mpr ⟨⟨(trivial), trivial⟩, ?_⟩
  refine List.forall_mem_cons.mpr ⟨⟨(trivial), trivial⟩, ?_⟩
  refine List.forall_mem_cons.mpr ⟨⟨(trivial), trivial⟩, ?_⟩
  refine List.forall_mem_cons.mpr ⟨⟨(trivial), trivial⟩, ?_⟩
  refine List.forall_mem_cons.mpr ⟨⟨(trivial), mj_ckOf mjK_97 (by decide) (mj_lnkG mjl_11_97)⟩, ?_⟩
  refine List.forall_mem_cons.mpr ⟨⟨(trivial), trivial⟩, ?_⟩
  refine List.forall_mem_cons.mpr ⟨⟨(trivial), trivial⟩, ?_⟩
  refine List.forall_mem_cons.mpr ⟨⟨(trivial), trivial⟩, ?_⟩
  refine List.forall_mem_cons.mpr ⟨⟨(trivial), trivial⟩, ?_⟩
  refine List.forall_mem_cons.mpr ⟨⟨(trivial), trivial⟩, ?_⟩
  refine List.forall_mem_cons.mpr ⟨⟨(trivial), trivial⟩, ?_⟩
  refine List.forall_mem_cons.mpr ⟨⟨(trivial), trivial⟩, ?_⟩
  refine List.forall_mem_cons.mpr ⟨⟨(trivial), trivial⟩, ?_⟩
  refine List.forall_mem_cons.mpr ⟨⟨(trivial), trivial⟩, ?_⟩
  refine List.forall_mem_cons.mpr ⟨⟨(trivial), trivial⟩, ?_⟩
  refine List.forall_mem_cons.mpr ⟨⟨(trivial), trivial⟩, ?_⟩
  refine List.forall_mem_cons.mpr ⟨⟨(trivial), mj_ckOf mjK_145 (by decide) (mj_lnkG mjl_11_100)⟩, ?_⟩
  refine List.forall_mem_cons.mpr ⟨⟨(show (0 : Int) ≤ ((653 : Nat) : Int) + 5 by decide), trivial⟩, ?_⟩
  refine List.forall_mem_cons.mpr ⟨⟨(trivial), trivial⟩, ?_⟩
  refine List.forall_mem_cons.mpr ⟨⟨(trivial), trivial⟩, ?_⟩
  refine List.forall_mem_cons.mpr ⟨⟨(show (3 : Nat) < mj_maxL 146 by decide), trivial⟩, ?_⟩
  refine List.forall_mem_cons.mpr ⟨⟨(show (0 : Int) ≤ ((661 : Nat) : Int) + (-643) by decide), trivial⟩, ?_⟩
  refine List.forall_mem_cons.mpr ⟨⟨(trivial), trivial⟩, ?_⟩
  refine List.forall_mem_cons.mpr ⟨⟨(trivial), trivial⟩, ?_⟩
  exact fun _ h => absurd h List.not_mem_nil
theorem mjd_146 : mj_ckd 146 = true := by decide +kernel
theorem mjg_146 : mj_good 146 := mj_goodOf (fun h => absurd h (by decide)) (by decide +kernel) mjd_146 mje_146
theorem mj_goods : ∀ mm, mm < mj_N → mj_good mm := by
  intro mm hm
  match mm, hm with
  | 0, _ => exact mjg_0
  | 1, _ => exact mjg_1
  | 2, _ => exact mjg_2
  | 3, _ => exact mjg_3
  | 4, _ => exact mjg_4
  | 5, _ => exact mjg_5
  | 6, _ => exact mjg_6
  | 7, _ => exact mjg_7
  | 8, _ => exact mjg_8
  | 9, _ => exact mjg_9
  | 10, _ => exact mjg_10
  | 11, _ => exact mjg_11
  | 12, _ => exact mjg_12
  | 13, _ => exact mjg_13
  | 14, _ => exact mjg_14
  | 15, _ => exact mjg_15
  | 16, _ => exact mjg_16
  | 17, _ => exact mjg_17
  | 18, _ => exact mjg_18
  | 19, _ => exact mjg_19
  | 20, _ => exact mjg_20
  | 21, _ => exact mjg_21
  | 22, _ => exact mjg_22
  | 23, _ => exact mjg_23
  | 24, _ => exact mjg_24
  | 25, _ => exact mjg_25
  | 26, _ => exact mjg_26
  | 27, _ => exact mjg_27
  | 28, _ => exact mjg_28
  | 29, _ => exact mjg_29
  | 30, _ => exact mjg_30
  | 31, _ => exact mjg_31
  | 32, _ => exact mjg_32
  | 33, _ => exact mjg_33
  | 34, _ => exact mjg_34
  | 35, _ => exact mjg_35
  | 36, _ => exact mjg_36
  | 37, _ => exact mjg_37
  | 38, _ => exact mjg_38
  | 39, _ => exact mjg_39
  | 40, _ => exact mjg_40
  | 41, _ => exact mjg_41
  | 42, _ => exact mjg_42
  | 43, _ => exact mjg_43
  | 44, _ => exact mjg_44
  | 45, _ => exact mjg_45
  | 46, _ => exact mjg_46
  | 47, _ => exact mjg_47
  | 48, _ => exact mjg_48
  | 49, _ => exact mjg_49
  | 50, _ => exact mjg_50
  | 51, _ => exact mjg_51
  | 52, _ => exact mjg_52
  | 53, _ => exact mjg_53
  | 54, _ => exact mjg_54
  | 55, _ => exact mjg_55
  | 56, _ => exact mjg_56
  | 57, _ => exact mjg_57
  | 58, _ => exact mjg_58
  | 59, _ => exact mjg_59
  | 60, _ => exact mjg_60
  | 61, _ => exact mjg_61
  | 62, _ => exact mjg_62
  | 63, _ => exact mjg_63
  | 64, _ => exact mjg_64
  | 65, _ => exact mjg_65
  | 66, _ => exact mjg_66
  | 67, _ => exact mjg_67
  | 68, _ => exact mjg_68
  | 69, _ => exact mjg_69
  | 70, _ => exact mjg_70
  | 71, _ => exact mjg_71
  | 72, _ => exact mjg_72
  | 73, _ => exact mjg_73
  | 74, _ => exact mjg_74
  | 75, _ => exact mjg_75
  | 76, _ => exact mjg_76
  | 77, _ => exact mjg_77
  | 78, _ => exact mjg_78
  | 79, _ => exact mjg_79
  | 80, _ => exact mjg_80
  | 81, _ => exact mjg_81
  | 82, _ => exact mjg_82
  | 83, _ => exact mjg_83
  | 84, _ => exact mjg_84
  | 85, _ => exact mjg_85
  | 86, _ => exact mjg_86
  | 87, _ => exact mjg_87
  | 88, _ => exact mjg_88
  | 89, _ => exact mjg_89
  | 90, _ => exact mjg_90
  | 91, _ => exact mjg_91
  | 92, _ => exact mjg_92
  | 93, _ => exact mjg_93
  | 94, _ => exact mjg_94
  | 95, _ => exact mjg_95
  | 96, _ => exact mjg_96
  | 97, _ => exact mjg_97
  | 98, _ => exact mjg_98
  | 99, _ => exact mjg_99
  | 100, _ => exact mjg_100
  | 101, _ => exact mjg_101
  | 102, _ => exact mjg_102
  | 103, _ => exact mjg_103
  | 104, _ => exact mjg_104
  | 105, _ => exact mjg_105
  | 106, _ => exact mjg_106
  | 107, _ => exact mjg_107
  | 108, _ => exact mjg_108
  | 109, _ => exact mjg_109
  | 110, _ => exact mjg_110
  | 111, _ => exact mjg_111
  | 112, _ => exact mjg_112
  | 113, _ => exact mjg_113
  | 114, _ => exact mjg_114
  | 115, _ => exact mjg_115
  | 116, _ => exact mjg_116
  | 117, _ => exact mjg_117
  | 118, _ => exact mjg_118
  | 119, _ => exact mjg_119
  | 120, _ => exact mjg_120
  | 121, _ => exact mjg_121
  | 122, _ => exact mjg_122
  | 123, _ => exact mjg_123
  | 124, _ => exact mjg_124
  | 125, _ => exact mjg_125
  | 126, _ => exact mjg_126
  | 127, _ => exact mjg_127
  | 128, _ => exact mjg_128
  | 129, _ => exact mjg_129
  | 130, _ => exact mjg_130
  | 131, _ => exact mjg_131
  | 132, _ => exact mjg_132
  | 133, _ => exact mjg_133
  | 134, _ => exact mjg_134
  | 135, _ => exact mjg_135
  | 136, _ => exact mjg_136
  | 137, _ => exact mjg_137
  | 138, _ => exact mjg_138
  | 139, _ => exact mjg_139
  | 140, _ => exact mjg_140
  | 141, _ => exact mjg_141
  | 142, _ => exact mjg_142
  | 143, _ => exact mjg_143
  | 144, _ => exact mjg_144
  | 145, _ => exact mjg_145
  | 146, _ => exact mjg_146
  | n + 147, h => exact absurd h (Nat.not_lt.mpr (Nat.le_add_left _ _))
