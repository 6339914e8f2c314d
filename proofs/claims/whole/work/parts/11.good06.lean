theorem mje_116 : ∀ e ∈ mj_tb116, mj_lk 116 e.1 e.2.1 e.2.2.1 e.2.2.2 ∧ mj_cok 116 e.2.1 e.2.2.1 e.2.2.2 := by
  unfold mj_tb116
  refine List.forall_mem_cons.mpr ⟨⟨(trivial), trivial⟩, ?_⟩
  refine List.forall_mem_cons.mpr ⟨⟨(show (4 : Nat) < mj_maxL 116 by decide), trivial⟩, ?_⟩
  refine List.forall_mem_cons.mpr ⟨⟨(trivial), trivial⟩, ?_⟩
  refine List.forall_mem_cons.mpr ⟨⟨(trivial), trivial⟩, ?_⟩
  refine List.forall_mem_cons.mpr ⟨⟨(show (0 : Int) ≤ ((6 : Nat) : Int) + 17 by decide), trivial⟩, ?_⟩
  refine List.forall_mem_cons.mpr ⟨⟨(trivial), trivial⟩, ?_⟩
  refine List.forall_mem_cons.mpr ⟨⟨(mj_lkG (by decide) rfl (by decide) mj_inU10 mjf_10_44), trivial⟩, ?_⟩
  refine List.forall_mem_cons.mpr ⟨⟨(trivial), trivial⟩, ?_⟩
  refine List.forall_mem_cons.mpr ⟨⟨(trivial), trivial⟩, ?_⟩
  refine List.forall_mem_cons.mpr ⟨⟨(trivial), trivial⟩, ?_⟩
  refine List.forall_mem_cons.mpr ⟨⟨(show (4 : Nat) < mj_maxL 116 by decide), trivial⟩, ?_⟩
  refine List.forall_mem_cons.mpr ⟨⟨(show (0 : Int) ≤ ((20 : Nat) : Int) + (-17) by decide), trivial⟩, ?_⟩
  refine List.forall_mem_cons.mpr ⟨⟨(trivial), trivial⟩, ?_⟩
  refine List.forall_mem_cons.mpr ⟨⟨(mj_lkG (by decide) rfl (by decide) mj_inU10 mjf_10_44), trivial⟩, ?_⟩
  refine List.forall_mem_cons.mpr ⟨⟨(trivial), trivial⟩, ?_⟩
  refine List.forall_mem_cons.mpr ⟨⟨(trivial), trivial⟩, ?_⟩
  refine List.forall_mem_cons.mpr ⟨⟨(trivial), trivial⟩, ?_⟩
  refine List.forall_mem_cons.mpr ⟨⟨(trivial), trivial⟩, ?_⟩
  refine List.forall_mem_cons.mpr ⟨⟨(show (4 : Nat) < mj_maxL 116 by decide), trivial⟩, ?_⟩
  refine List.forall_mem_cons.mpr ⟨⟨(trivial), trivial⟩, ?_⟩
  refine List.forall_mem_cons.mpr ⟨⟨(show (5 : Nat) < mj_maxL 116 by decide), trivial⟩, ?_⟩
  refine List.forall_mem_cons.mpr ⟨⟨(trivial), trivial⟩, ?_⟩
  refine List.forall_mem_cons.mpr ⟨⟨(trivial), trivial⟩, ?_⟩
  refine List.forall_mem_cons.mpr ⟨⟨(show (0 : Int) ≤ ((39 : Nat) : Int) + 223 by decide), trivial⟩, ?_⟩
  refine List.forall_mem_cons.mpr ⟨⟨(trivial), trivial⟩, ?_⟩
  refine List.forall_mem_cons.mpr ⟨⟨(trivial), trivial⟩, ?_⟩
  refine List.forall_mem_cons.mpr ⟨⟨(trivial), trivial⟩, ?_⟩
  refine List.forall_mem_cons.mpr ⟨⟨(show (6 : Nat) < mj_maxL 116 by decide), trivial⟩, ?_⟩
  refine List.forall_mem_cons.mpr ⟨⟨(trivial), trivial⟩, ?_⟩
  refine List.forall_mem_cons.mpr ⟨⟨(mj_lkG (by decide) rfl (by decide) mj_inU10 mjf_10_23), trivial⟩, ?_⟩
  refine List.forall_mem_cons.mpr ⟨⟨(trivial), trivial⟩, ?_⟩
  refine List.forall_mem_cons.mpr ⟨⟨(trivial), trivial⟩, ?_⟩
  refine List.forall_mem_cons.mpr ⟨⟨(show (7 : Nat) < mj_maxL 116 by decide), trivial⟩, ?_⟩
  refine List.forall_mem_cons.mpr ⟨⟨(trivial), trivial⟩, ?_⟩
  refine List.forall_mem_cons.mpr ⟨⟨(trivial), trivial⟩, ?_⟩
  refine List.forall_mem_cons.mpr ⟨⟨(mj_lkG (by decide) rfl (by decide) mj_inU10 mjf_10_38), trivial⟩, ?_⟩
  refine List.forall_mem_cons.mpr ⟨⟨(trivial), trivial⟩, ?_⟩
  refine List.forall_mem_cons.mpr ⟨⟨(trivial), trivial⟩, ?_⟩
  refine List.forall_mem_cons.mpr ⟨⟨(trivial), trivial⟩, ?_⟩
  refine List.forall_mem_cons.mpr ⟨⟨(trivial), trivial⟩, ?_⟩
  refine List.forall_mem_cons.mpr ⟨⟨(show (0 : Int) ≤ ((70 : Nat) : Int) + 18 by decide), trivial⟩, ?_⟩
  refine List.forall_mem_cons.mpr ⟨⟨(trivial), trivial⟩, ?_⟩
  refine List.forall_mem_cons.mpr ⟨⟨(mj_lkG (by decide) rfl (by decide) mj_inU10 mjf_10_47), trivial⟩, ?_⟩
  refine List.forall_mem_cons.mpr ⟨⟨(trivial), trivial⟩, ?_⟩
  refine List.forall_mem_cons.mpr ⟨⟨(mj_lkG (by decide) rfl (by decide) mj_inU10 mjf_10_29), trivial⟩, ?_⟩
  refine List.forall_mem_cons.mpr ⟨⟨(trivial), trivial⟩, ?_⟩
  refine List.forall_mem_cons.mpr ⟨⟨(trivial), trivial⟩, ?_⟩
  refine List.forall_mem_cons.mpr ⟨⟨(trivial), trivial⟩, ?_⟩
  refine List.forall_mem_cons.mpr ⟨⟨(show (0 : Int) ≤ ((85 : Nat) : Int) + 4 by decide), trivial⟩, ?_⟩
  refine List.forall_mem_cons.mpr ⟨⟨(trivial), trivial⟩, ?_⟩
  refine List.forall_mem_cons.mpr ⟨⟨(trivial), trivial⟩, ?_⟩
  refine List.forall_mem_cons.mpr ⟨⟨(trivial), trivial⟩, ?_⟩
  refine List.forall_mem_cons.mpr ⟨⟨(show (8 : Nat) < mj_maxL 116 by decide), trivial⟩, ?_⟩
  refine List.forall_mem_cons.mpr ⟨⟨(trivial), trivial⟩, ?_⟩
  refine List.forall_mem_cons.mpr ⟨⟨(mj_lkG (by decide) rfl (by decide) mj_inU10 mjf_10_44), trivial⟩, ?_⟩
  refine List.forall_mem_cons.mpr ⟨⟨(trivial), trivial⟩, ?_⟩
  refine List.forall_mem_cons.mpr ⟨⟨(trivial), trivial⟩, ?_⟩
  refine List.forall_mem_cons.mpr ⟨⟨(show (0 : Int) ≤ ((100 : Nat) : Int) + 7 by decide), trivial⟩, ?_⟩
  refine List.forall_mem_cons.mpr ⟨⟨(trivial), trivial⟩, ?_⟩
  refine List.forall_mem_cons.mpr ⟨⟨(show (0 : Int) ≤ ((104 : Nat) : Int) + 13 by decide), trivial⟩, ?_⟩
  refine List.forall_mem_cons.mpr ⟨⟨(trivial), trivial⟩, ?_⟩
  refine List.forall_mem_cons.mpr ⟨⟨(mj_lkG (by decide) rfl (by decide) mj_inU10 mjf_10_44), trivial⟩, ?_⟩
  refine List.forall_mem_cons.mpr ⟨⟨(trivial), trivial⟩, ?_⟩
  refine List.forall_mem_cons.mpr ⟨⟨(trivial), trivial⟩, ?_⟩
  refine List.forall_mem_cons.mpr ⟨⟨(trivial), trivial⟩, ?_⟩
  refine List.forall_mem_cons.mpr ⟨⟨(trivial), trivial⟩, ?_⟩
  refine List.forall_mem_cons.mpr ⟨⟨(show (9 : Nat) < mj_maxL 116 by decide), trivial⟩, ?_⟩
  refine List.forall_mem_cons.mpr ⟨⟨(trivial), trivial⟩, ?_⟩
  refine List.forall_mem_cons.mpr ⟨⟨(mj_lkG (by decide) rfl (by decide) mj_inU10 mjf_10_44), trivial⟩, ?_⟩
  refine List.forall_mem_cons.mpr ⟨⟨(trivial), trivial⟩, ?_⟩
  refine List.forall_mem_cons.mpr ⟨⟨(trivial), trivial⟩, ?_⟩
  refine List.forall_mem_cons.mpr ⟨⟨(trivial), trivial⟩, ?_⟩
  refine List.forall_mem_cons.mpr ⟨⟨(trivial), trivial⟩, ?_⟩
  refine List.forall_mem_cons.mpr ⟨⟨(trivial), trivial⟩, ?_⟩
  refine List.forall_mem_cons.mpr ⟨⟨(mj_lkG (by decide) rfl (by decide) mj_inU10 mjf_10_44), trivial⟩, ?_⟩
  refine List.forall_mem_cons.mpr ⟨⟨(trivial), trivial⟩, ?_⟩
  refine List.forall_mem_cons.mpr ⟨⟨(trivial), trivial⟩, ?_⟩
  refine List.forall_mem_cons.mpr ⟨⟨(trivial), trivial⟩, ?_⟩
  refine List.forall_mem_cons.mpr ⟨⟨(trivial), trivial⟩, ?_⟩
  refine List.forall_mem_cons.mpr ⟨⟨(show (0 : Int) ≤ ((138 : Nat) : Int) + 8 by decide), trivial⟩, ?_⟩
  refine List.forall_mem_cons.mpr ⟨⟨(trivial), trivial⟩, ?_⟩
  refine List.forall_mem_cons.mpr ⟨⟨(show (0 : Int) ≤ ((143 : Nat) : Int) + 12 by decide), trivial⟩, ?_⟩
  refine List.forall_mem_cons.mpr ⟨⟨(trivial), trivial⟩, ?_⟩
  refine List.forall_mem_cons.mpr ⟨⟨(mj_lkG (by decide) rfl (by decide) mj_inU10 mjf_10_44), trivial⟩, ?_⟩
  refine List.forall_mem_cons.mpr ⟨⟨(trivial), trivial⟩, ?_⟩
  refine List.forall_mem_cons.mpr ⟨⟨(trivial), trivial⟩, ?_⟩
  refine List.forall_mem_cons.mpr ⟨⟨(trivial), trivial⟩, ?_⟩
  refine List.forall_mem_cons.mpr ⟨⟨(trivial), trivial⟩, ?_⟩
  refine List.forall_mem_cons.mpr ⟨⟨(trivial), trivial⟩, ?_⟩
  refine List.forall_mem_cons.mpr ⟨⟨(trivial), trivial⟩, ?_⟩
  refine List.forall_mem_cons.mpr ⟨⟨(trivial), trivial⟩, ?_⟩
  refine List.forall_mem_cons.mpr ⟨⟨(show (0 : Int) ≤ ((159 : Nat) : Int) + 48 by decide), trivial⟩, ?_⟩
  refine List.forall_mem_cons.mpr ⟨⟨(trivial), trivial⟩, ?_⟩
  refine List.forall_mem_cons.mpr ⟨⟨(trivial), trivial⟩, ?_⟩
  refine List.forall_mem_cons.mpr ⟨⟨(trivial), trivial⟩, ?_⟩
  refine List.forall_mem_cons.mpr ⟨⟨(trivial), trivial⟩, ?_⟩
  refine List.forall_mem_cons.mpr ⟨⟨(mj_lkG (by decide) rfl (by decide) mj_inU10 mjf_10_29), trivial⟩, ?_⟩
  refine List.forall_mem_cons.mpr ⟨⟨(trivial), trivial⟩, ?_⟩
  refine List.forall_mem_cons.mpr ⟨⟨(trivial), trivial⟩, ?_⟩
  refine List.forall_mem_cons.mpr ⟨⟨(trivial), trivial⟩, ?_⟩
  refine List.forall_mem_cons.mpr ⟨⟨(show (10 : Nat) < mj_maxL 116 by decide), trivial⟩, ?_⟩
  refine List.forall_mem_cons.mpr ⟨⟨(trivial), trivial⟩, ?_⟩
  refine List.forall_mem_cons.mpr ⟨⟨(mj_lkG (by decide) rfl (by decide) mj_inU10 mjf_10_44), trivial⟩, ?_⟩
  refine List.forall_mem_cons.mpr ⟨⟨(trivial), trivial⟩, ?_⟩
  refine List.forall_mem_cons.mpr ⟨⟨(trivial), trivial⟩, ?_⟩
  refine List.forall_mem_cons.mpr ⟨⟨(trivial), trivial⟩, ?_⟩
  refine List.forall_mem_cons.mpr ⟨⟨(mj_lkG (by decide) rfl (by decide) mj_inU10 mjf_10_44), trivial⟩, ?_⟩
  refine List.forall_mem_cons.mpr ⟨⟨(trivial), trivial⟩, ?_⟩
  refine List.forall_mem_cons.mpr ⟨⟨(trivial), trivial⟩, ?_⟩
  refine List.forall_mem_cons.mpr ⟨⟨(show (0 : Int) ≤ ((191 : Nat) : Int) + 8 by decide), trivial⟩, ?_⟩
  refine List.forall_mem_cons.mpr ⟨⟨(trivial), trivial⟩, ?_⟩
  refine List.forall_mem_cons.mpr ⟨⟨(show (0 : Int) ≤ ((196 : Nat) : Int) + 10 by decide), trivial⟩, ?_⟩
  refine List.forall_mem_cons.mpr ⟨⟨(trivial), trivial⟩, ?_⟩
  refine List.forall_mem_cons.mpr ⟨⟨(mj_lkG (by decide) rfl (by decide) mj_inU10 mjf_10_44), trivial⟩, ?_⟩
  refine List.forall_mem_cons.mpr ⟨⟨(trivial), trivial⟩, ?_⟩
  refine List.forall_mem_cons.mpr ⟨⟨(trivial), trivial⟩, ?_⟩
  refine List.forall_mem_cons.mpr ⟨⟨(trivial), trivial⟩, ?_⟩
  refine List.forall_mem_cons.mpr ⟨⟨(trivial), trivial⟩, ?_⟩
  refine List.forall_mem_cons.mpr ⟨⟨(trivial), trivial⟩, ?_⟩
  refine List.forall_mem_cons.mpr ⟨⟨(show (0 : Int) ≤ ((211 : Nat) : Int) + 16 by decide), trivial⟩, ?_⟩
  refine List.forall_mem_cons.mpr ⟨⟨(trivial), trivial⟩, ?_⟩
  refine List.forall_mem_cons.mpr ⟨⟨(trivial), trivial⟩, ?_⟩
  refine List.forall_mem_cons.mpr ⟨⟨(mj_lkG (by decide) rfl (by decide) mj_inU10 mjf_10_29), trivial⟩, ?_⟩
  refine List.forall_mem_cons.mpr ⟨⟨(trivial), trivial⟩, ?_⟩
  refine List.forall_mem_cons.mpr ⟨⟨(trivial), trivial⟩, ?_⟩
  refine List.forall_mem_cons.mpr ⟨⟨(trivial), trivial⟩, ?_⟩
  refine List.forall_mem_cons.mpr ⟨⟨(show (0 : Int) ≤ ((224 : Nat) : Int) + 30 by decide), trivial⟩, ?_⟩
  refine List.forall_mem_cons.mpr ⟨⟨(trivial), trivial⟩, ?_⟩
  refine List.forall_mem_cons.mpr ⟨⟨(trivial), trivial⟩, ?_⟩
  refine List.forall_mem_cons.mpr ⟨⟨(show (0 : Int) ≤ ((231 : Nat) : Int) + 21 by decide), trivial⟩, ?_⟩
  refine List.forall_mem_cons.mpr ⟨⟨(trivial), trivial⟩, ?_⟩
  refine List.forall_mem_cons.mpr ⟨⟨(trivial), trivial⟩, ?_⟩
  refine List.forall_mem_cons.mpr ⟨⟨(mj_lkG (by decide) rfl (by decide) mj_inU10 mjf_10_29), trivial⟩, ?_⟩
  refine List.forall_mem_cons.mpr ⟨⟨(trivial), trivial⟩, ?_⟩
  refine List.forall_mem_cons.mpr ⟨⟨(mj_lkG (by decide) rfl (by decide) mj_inU10 mjf_10_32), trivial⟩, ?_⟩
  refine List.forall_mem_cons.mpr ⟨⟨(trivial), trivial⟩, ?_⟩
  refine List.forall_mem_cons.mpr ⟨⟨(trivial), trivial⟩, ?_⟩
  refine List.forall_mem_cons.mpr ⟨⟨(trivial), trivial⟩, ?_⟩
  refine List.forall_mem_cons.mpr ⟨⟨(trivial), trivial⟩, ?_⟩
  refine List.forall_mem_cons.mpr ⟨⟨(show (0 : Int) ≤ ((249 : Nat) : Int) + 5 by decide), trivial⟩, ?_⟩
  refine List.forall_mem_cons.mpr ⟨⟨(trivial), trivial⟩, ?_⟩
  refine List.forall_mem_cons.mpr ⟨⟨(show (4 : Nat) < mj_maxL 116 by decide), trivial⟩, ?_⟩
  refine List.forall_mem_cons.mpr ⟨⟨(show (5 : Nat) < mj_maxL 116 by decide), trivial⟩, ?_⟩
  refine List.forall_mem_cons.mpr ⟨⟨(show (0 : Int) ≤ ((259 : Nat) : Int) + (-223) by decide), trivial⟩, ?_⟩
  refine List.forall_mem_cons.mpr ⟨⟨(trivial), trivial⟩, ?_⟩
  refine List.forall_mem_cons.mpr ⟨⟨(mj_lkG (by decide) rfl (by decide) mj_inU10 mjf_10_44), trivial⟩, ?_⟩
  refine List.forall_mem_cons.mpr ⟨⟨(trivial), trivial⟩, ?_⟩
  refine List.forall_mem_cons.mpr ⟨⟨(trivial), trivial⟩, ?_⟩
  refine List.forall_mem_cons.mpr ⟨⟨(trivial), trivial⟩, ?_⟩
  exact fun _ h => absurd h List.not_mem_nil
theorem mjd_116 : mj_ckd 116 = true := by decide +kernel
theorem mjg_116 : mj_good 116 := mj_goodOf (fun _ => ⟨mj_G, rfl⟩) (by decide +kernel) mjd_116 mje_116
theorem mje_117 : ∀ e ∈ mj_tb117, mj_lk 117 e.1 e.2.1 e.2.2.1 e.2.2.2 ∧ mj_cok 117 e.2.1 e.2.2.1 e.2.2.2 := by
  unfold mj_tb117
  refine List.forall_mem_cons.mpr ⟨⟨(trivial), trivial⟩, ?_⟩
  refine List.forall_mem_cons.mpr ⟨⟨(show (2 : Nat) < mj_maxL 117 by decide), trivial⟩, ?_⟩
  refine List.forall_mem_cons.mpr ⟨⟨(trivial), trivial⟩, ?_⟩
  refine List.forall_mem_cons.mpr ⟨⟨(trivial), trivial⟩, ?_⟩
  refine List.forall_mem_cons.mpr ⟨⟨(mj_lkG (by decide) rfl (by decide) mj_inU10 mjf_10_138), trivial⟩, ?_⟩
  refine List.forall_mem_cons.mpr ⟨⟨(show (0 : Int) ≤ ((7 : Nat) : Int) + 24 by decide), trivial⟩, ?_⟩
  refine List.forall_mem_cons.mpr ⟨⟨(trivial), trivial⟩, ?_⟩
  refine List.forall_mem_cons.mpr ⟨⟨(mj_lkG (by decide) rfl (by decide) mj_inU10 mjf_10_53), trivial⟩, ?_⟩
  refine List.forall_mem_cons.mpr ⟨⟨(trivial), trivial⟩, ?_⟩
  refine List.forall_mem_cons.mpr ⟨⟨(trivial), trivial⟩, ?_⟩
  refine List.forall_mem_cons.mpr ⟨⟨(trivial), trivial⟩, ?_⟩
  refine List.forall_mem_cons.mpr ⟨⟨(trivial), trivial⟩, ?_⟩
  refine List.forall_mem_cons.mpr ⟨⟨(trivial), trivial⟩, ?_⟩
  refine List.forall_mem_cons.mpr ⟨⟨(trivial), trivial⟩, ?_⟩
  refine List.forall_mem_cons.mpr ⟨⟨(show (0 : Int) ≤ ((20 : Nat) : Int) + 5 by decide), trivial⟩, ?_⟩
  refine List.forall_mem_cons.mpr ⟨⟨(trivial), trivial⟩, ?_⟩
  refine List.forall_mem_cons.mpr ⟨⟨(trivial), trivial⟩, ?_⟩
  refine List.forall_mem_cons.mpr ⟨⟨(show (2 : Nat) < mj_maxL 117 by decide), trivial⟩, ?_⟩
  refine List.forall_mem_cons.mpr ⟨⟨(show (0 : Int) ≤ ((28 : Nat) : Int) + (-26) by decide), trivial⟩, ?_⟩
  refine List.forall_mem_cons.mpr ⟨⟨(trivial), trivial⟩, ?_⟩
  refine List.forall_mem_cons.mpr ⟨⟨(trivial), trivial⟩, ?_⟩
  exact fun _ h => absurd h List.not_mem_nil
theorem mjd_117 : mj_ckd 117 = true := by decide +kernel
theorem mjg_117 : mj_good 117 := mj_goodOf (fun _ => ⟨mj_G, rfl⟩) (by decide +kernel) mjd_117 mje_117
theorem mje_118 : ∀ e ∈ mj_tb118, mj_lk 118 e.1 e.2.1 e.2.2.1 e.2.2.2 ∧ mj_cok 118 e.2.1 e.2.2.1 e.2.2.2 := by
  unfold mj_tb118
  refine List.forall_mem_cons.mpr ⟨⟨(trivial), trivial⟩, ?_⟩
  refine List.forall_mem_cons.mpr ⟨⟨(show (2 : Nat) < mj_maxL 118 by decide), trivial⟩, ?_⟩
  refine List.forall_mem_cons.mpr ⟨⟨(trivial), trivial⟩, ?_⟩
  refine List.forall_mem_cons.mpr ⟨⟨(trivial), trivial⟩, ?_⟩
  refine List.forall_mem_cons.mpr ⟨⟨(trivial), trivial⟩, ?_⟩
  refine List.forall_mem_cons.mpr ⟨⟨(show (3 : Nat) < mj_maxL 118 by decide), trivial⟩, ?_⟩
  refine List.forall_mem_cons.mpr ⟨⟨(trivial), trivial⟩, ?_⟩
  refine List.forall_mem_cons.mpr ⟨⟨(trivial), trivial⟩, ?_⟩
  refine List.forall_mem_cons.mpr ⟨⟨(mj_lkG (by decide) rfl (by decide) mj_inU10 mjf_10_138), trivial⟩, ?_⟩
  refine List.forall_mem_cons.mpr ⟨⟨(show (0 : Int) ≤ ((11 : Nat) : Int) + 82 by decide), trivial⟩, ?_⟩
  refine List.forall_mem_cons.mpr ⟨⟨(trivial), trivial⟩, ?_⟩
  refine List.forall_mem_cons.mpr ⟨⟨(show (4 : Nat) < mj_maxL 118 by decide), trivial⟩, ?_⟩
  refine List.forall_mem_cons.mpr ⟨⟨(trivial), trivial⟩, ?_⟩
  refine List.forall_mem_cons.mpr ⟨⟨(trivial), trivial⟩, ?_⟩
  refine List.forall_mem_cons.mpr ⟨⟨(show (0 : Int) ≤ ((20 : Nat) : Int) + 67 by decide), trivial⟩, ?_⟩
  refine List.forall_mem_cons.mpr ⟨⟨(trivial), trivial⟩, ?_⟩
  refine List.forall_mem_cons.mpr ⟨⟨(mj_lkG (by decide) rfl (by decide) mj_inU10 mjf_10_53), trivial⟩, ?_⟩
  refine List.forall_mem_cons.mpr ⟨⟨(trivial), trivial⟩, ?_⟩
  refine List.forall_mem_cons.mpr ⟨⟨(trivial), trivial⟩, ?_⟩
  refine List.forall_mem_cons.mpr ⟨⟨(trivial), trivial⟩, ?_⟩
  refine List.forall_mem_cons.mpr ⟨⟨(trivial), trivial⟩, ?_⟩
  refine List.forall_mem_cons.mpr ⟨⟨(trivial), trivial⟩, ?_⟩
  refine List.forall_mem_cons.mpr ⟨⟨(trivial), trivial⟩, ?_⟩
  refine List.forall_mem_cons.mpr ⟨⟨(show (5 : Nat) < mj_maxL 118 by decide), trivial⟩, ?_⟩
  refine List.forall_mem_cons.mpr ⟨⟨(trivial), trivial⟩, ?_⟩
  refine List.forall_mem_cons.mpr ⟨⟨(show (0 : Int) ≤ ((38 : Nat) : Int) + 18 by decide), trivial⟩, ?_⟩
  refine List.forall_mem_cons.mpr ⟨⟨(trivial), trivial⟩, ?_⟩
  refine List.forall_mem_cons.mpr ⟨⟨(mj_lkG (by decide) rfl (by decide) mj_inU10 mjf_10_62), trivial⟩, ?_⟩
  refine List.forall_mem_cons.mpr ⟨⟨(trivial), trivial⟩, ?_⟩
  refine List.forall_mem_cons.mpr ⟨⟨(trivial), trivial⟩, ?_⟩
  refine List.forall_mem_cons.mpr ⟨⟨(trivial), trivial⟩, ?_⟩
  refine List.forall_mem_cons.mpr ⟨⟨(show (0 : Int) ≤ ((49 : Nat) : Int) + 7 by decide), trivial⟩, ?_⟩
  refine List.forall_mem_cons.mpr ⟨⟨(trivial), trivial⟩, ?_⟩
  refine List.forall_mem_cons.mpr ⟨⟨(show (0 : Int) ≤ ((53 : Nat) : Int) + 4 by decide), trivial⟩, ?_⟩
  refine List.forall_mem_cons.mpr ⟨⟨(trivial), trivial⟩, ?_⟩
  refine List.forall_mem_cons.mpr ⟨⟨(show (6 : Nat) < mj_maxL 118 by decide), trivial⟩, ?_⟩
  refine List.forall_mem_cons.mpr ⟨⟨(trivial), trivial⟩, ?_⟩
  refine List.forall_mem_cons.mpr ⟨⟨(show (0 : Int) ≤ ((61 : Nat) : Int) + 18 by decide), trivial⟩, ?_⟩
  refine List.forall_mem_cons.mpr ⟨⟨(trivial), trivial⟩, ?_⟩
  refine List.forall_mem_cons.mpr ⟨⟨(trivial), trivial⟩, ?_⟩
  refine List.forall_mem_cons.mpr ⟨⟨(trivial), trivial⟩, ?_⟩
  refine List.forall_mem_cons.mpr ⟨⟨(trivial), trivial⟩, ?_⟩
  refine List.forall_mem_cons.mpr ⟨⟨(show (0 : Int) ≤ ((69 : Nat) : Int) + 10 by decide), trivial⟩, ?_⟩
  refine List.forall_mem_cons.mpr ⟨⟨(trivial), trivial⟩, ?_⟩
  refine List.forall_mem_cons.mpr ⟨⟨(trivial), trivial⟩, ?_⟩
  refine List.forall_mem_cons.mpr ⟨⟨(trivial), trivial⟩, ?_⟩
  refine List.forall_mem_cons.mpr ⟨⟨(show (0 : Int) ≤ ((76 : Nat) : Int) + 4 by decide), trivial⟩, ?_⟩
  refine List.forall_mem_cons.mpr ⟨⟨(trivial), trivial⟩, ?_⟩
  refine List.forall_mem_cons.mpr ⟨⟨(show (2 : Nat) < mj_maxL 118 by decide), trivial⟩, ?_⟩
  refine List.forall_mem_cons.mpr ⟨⟨(show (4 : Nat) < mj_maxL 118 by decide), trivial⟩, ?_⟩
  refine List.forall_mem_cons.mpr ⟨⟨(show (0 : Int) ≤ ((84 : Nat) : Int) + (-67) by decide), trivial⟩, ?_⟩
  refine List.forall_mem_cons.mpr ⟨⟨(show (3 : Nat) < mj_maxL 118 by decide), trivial⟩, ?_⟩
  refine List.forall_mem_cons.mpr ⟨⟨(show (0 : Int) ≤ ((90 : Nat) : Int) + (-84) by decide), trivial⟩, ?_⟩
  refine List.forall_mem_cons.mpr ⟨⟨(trivial), trivial⟩, ?_⟩
  refine List.forall_mem_cons.mpr ⟨⟨(trivial), trivial⟩, ?_⟩
  exact fun _ h => absurd h List.not_mem_nil
theorem mjd_118 : mj_ckd 118 = true := by decide +kernel
theorem mjg_118 : mj_good 118 := mj_goodOf (fun _ => ⟨mj_G, rfl⟩) (by decide +kernel) mjd_118 mje_118
theorem mje_119 : ∀ e ∈ mj_tb119, mj_lk 119 e.1 e.2.1 e.2.2.1 e.2.2.2 ∧ mj_cok 119 e.2.1 e.2.2.1 e.2.2.2 := by
  unfold mj_tb119
  refine List.forall_mem_cons.mpr ⟨⟨(trivial), trivial⟩, ?_⟩
  refine List.forall_mem_cons.mpr ⟨⟨(show (2 : Nat) < mj_maxL 119 by decide), trivial⟩, ?_⟩
  refine List.forall_mem_cons.mpr ⟨⟨(trivial), trivial⟩, ?_⟩
  refine List.forall_mem_cons.mpr ⟨⟨(trivial), trivial⟩, ?_⟩
  refine List.forall_mem_cons.mpr ⟨⟨(mj_lkG (by decide) rfl (by decide) mj_inU10 mjf_10_17), trivial⟩, ?_⟩
  refine List.forall_mem_cons.mpr ⟨⟨(trivial), trivial⟩, ?_⟩
  refine List.forall_mem_cons.mpr ⟨⟨(trivial), trivial⟩, ?_⟩
  refine List.forall_mem_cons.mpr ⟨⟨(show (0 : Int) ≤ ((9 : Nat) : Int) + 87 by decide), trivial⟩, ?_⟩
  refine List.forall_mem_cons.mpr ⟨⟨(trivial), trivial⟩, ?_⟩
  refine List.forall_mem_cons.mpr ⟨⟨(mj_lkG (by decide) rfl (by decide) mj_inU10 mjf_10_56), trivial⟩, ?_⟩
  refine List.forall_mem_cons.mpr ⟨⟨(trivial), trivial⟩, ?_⟩
  refine List.forall_mem_cons.mpr ⟨⟨(trivial), trivial⟩, ?_⟩
  refine List.forall_mem_cons.mpr ⟨⟨(trivial), trivial⟩, ?_⟩
  refine List.forall_mem_cons.mpr ⟨⟨(trivial), trivial⟩, ?_⟩
  refine List.forall_mem_cons.mpr ⟨⟨(mj_lkG (by decide) rfl (by decide) mj_inU10 mjf_10_50), trivial⟩, ?_⟩
  refine List.forall_mem_cons.mpr ⟨⟨(trivial), trivial⟩, ?_⟩
  refine List.forall_mem_cons.mpr ⟨⟨(trivial), trivial⟩, ?_⟩
  refine List.forall_mem_cons.mpr ⟨⟨(trivial), trivial⟩, ?_⟩
  refine List.forall_mem_cons.mpr ⟨⟨(trivial), trivial⟩, ?_⟩
  refine List.forall_mem_cons.mpr ⟨⟨(mj_Gws (mj_Gin 974 (by decide +kernel) rfl)), trivial⟩, ?_⟩
  refine List.forall_mem_cons.mpr ⟨⟨(trivial), trivial⟩, ?_⟩
  refine List.forall_mem_cons.mpr ⟨⟨(show (3 : Nat) + 1 < mj_maxL 119 by decide), trivial⟩, ?_⟩
  refine List.forall_mem_cons.mpr ⟨⟨(trivial), trivial⟩, ?_⟩
  refine List.forall_mem_cons.mpr ⟨⟨(show (5 : Nat) < mj_maxL 119 by decide), trivial⟩, ?_⟩
  refine List.forall_mem_cons.mpr ⟨⟨(trivial), trivial⟩, ?_⟩
  refine List.forall_mem_cons.mpr ⟨⟨(trivial), trivial⟩, ?_⟩
  refine List.forall_mem_cons.mpr ⟨⟨(show (0 : Int) ≤ ((38 : Nat) : Int) + 43 by decide), trivial⟩, ?_⟩
  refine List.forall_mem_cons.mpr ⟨⟨(trivial), trivial⟩, ?_⟩
  refine List.forall_mem_cons.mpr ⟨⟨(trivial), trivial⟩, ?_⟩
  refine List.forall_mem_cons.mpr ⟨⟨(trivial), trivial⟩, ?_⟩
  refine List.forall_mem_cons.mpr ⟨⟨(mj_lkG (by decide) rfl (by decide) mj_inU10 mjf_10_13), trivial⟩, ?_⟩
  refine List.forall_mem_cons.mpr ⟨⟨(trivial), trivial⟩, ?_⟩
  refine List.forall_mem_cons.mpr ⟨⟨(trivial), trivial⟩, ?_⟩
  refine List.forall_mem_cons.mpr ⟨⟨(trivial), trivial⟩, ?_⟩
  refine List.forall_mem_cons.mpr ⟨⟨(trivial), trivial⟩, ?_⟩
  refine List.forall_mem_cons.mpr ⟨⟨(trivial), trivial⟩, ?_⟩
  refine List.forall_mem_cons.mpr ⟨⟨(trivial), trivial⟩, ?_⟩
  refine List.forall_mem_cons.mpr ⟨⟨(mj_lkG (by decide) rfl (by decide) mj_inU10 mjf_10_13), trivial⟩, ?_⟩
  refine List.forall_mem_cons.mpr ⟨⟨(trivial), trivial⟩, ?_⟩
  refine List.forall_mem_cons.mpr ⟨⟨(trivial), trivial⟩, ?_⟩
  refine List.forall_mem_cons.mpr ⟨⟨(trivial), trivial⟩, ?_⟩
  refine List.forall_mem_cons.mpr ⟨⟨(trivial), trivial⟩, ?_⟩
  refine List.forall_mem_cons.mpr ⟨⟨(trivial), trivial⟩, ?_⟩
  refine List.forall_mem_cons.mpr ⟨⟨(mj_lkG (by decide) rfl (by decide) mj_inU10 mjf_10_50), trivial⟩, ?_⟩
  refine List.forall_mem_cons.mpr ⟨⟨(trivial), trivial⟩, ?_⟩
  refine List.forall_mem_cons.mpr ⟨⟨(trivial), trivial⟩, ?_⟩
  refine List.forall_mem_cons.mpr ⟨⟨(trivial), trivial⟩, ?_⟩
  refine List.forall_mem_cons.mpr ⟨⟨(trivial), trivial⟩, ?_⟩
  refine List.forall_mem_cons.mpr ⟨⟨(trivial), trivial⟩, ?_⟩
  refine List.forall_mem_cons.mpr ⟨⟨(trivial), trivial⟩, ?_⟩
  refine List.forall_mem_cons.mpr ⟨⟨(trivial), trivial⟩, ?_⟩
  refine List.forall_mem_cons.mpr ⟨⟨(show (3 : Nat) + 1 < mj_maxL 119 by decide), trivial⟩, ?_⟩
  refine List.forall_mem_cons.mpr ⟨⟨(show (5 : Nat) < mj_maxL 119 by decide), trivial⟩, ?_⟩
  refine List.forall_mem_cons.mpr ⟨⟨(show (0 : Int) ≤ ((78 : Nat) : Int) + (-43) by decide), trivial⟩, ?_⟩
  refine List.forall_mem_cons.mpr ⟨⟨(trivial), trivial⟩, ?_⟩
  refine List.forall_mem_cons.mpr ⟨⟨(trivial), trivial⟩, ?_⟩
  refine List.forall_mem_cons.mpr ⟨⟨(trivial), trivial⟩, ?_⟩
  refine List.forall_mem_cons.mpr ⟨⟨(trivial), trivial⟩, ?_⟩
  refine List.forall_mem_cons.mpr ⟨⟨(show (0 : Int) ≤ ((85 : Nat) : Int) + 5 by decide), trivial⟩, ?_⟩
  refine List.forall_mem_cons.mpr ⟨⟨(trivial), trivial⟩, ?_⟩
  refine List.forall_mem_cons.mpr ⟨⟨(trivial), trivial⟩, ?_⟩
  refine List.forall_mem_cons.mpr ⟨⟨(show (2 : Nat) < mj_maxL 119 by decide), trivial⟩, ?_⟩
  refine List.forall_mem_cons.mpr ⟨⟨(show (0 : Int) ≤ ((93 : Nat) : Int) + (-91) by decide), trivial⟩, ?_⟩
  refine List.forall_mem_cons.mpr ⟨⟨(trivial), trivial⟩, ?_⟩
  refine List.forall_mem_cons.mpr ⟨⟨(trivial), trivial⟩, ?_⟩
  exact fun _ h => absurd h List.not_mem_nil
theorem mjd_119 : mj_ckd 119 = true := by decide +kernel
theorem mjg_119 : mj_good 119 := mj_goodOf (fun _ => ⟨mj_G, rfl⟩) (by decide +kernel) mjd_119 mje_119
theorem mje_120 : ∀ e ∈ mj_tb120, mj_lk 120 e.1 e.2.1 e.2.2.1 e.2.2.2 ∧ mj_cok 120 e.2.1 e.2.2.1 e.2.2.2 := by
  unfold mj_tb120
  refine List.forall_mem_cons.mpr ⟨⟨(trivial), trivial⟩, ?_⟩
  refine List.forall_mem_cons.mpr ⟨⟨(mj_lkG (by decide) rfl (by decide) mj_inU10 mjf_10_7), trivial⟩, ?_⟩
  refine List.forall_mem_cons.mpr ⟨⟨(trivial), trivial⟩, ?_⟩
  exact fun _ h => absurd h List.not_mem_nil
theorem mjd_120 : mj_ckd 120 = true := by decide +kernel
theorem mjg_120 : mj_good 120 := mj_goodOf (fun _ => ⟨mj_G, rfl⟩) (by decide +kernel) mjd_120 mje_120
theorem mje_121 : ∀ e ∈ mj_tb121, mj_lk 121 e.1 e.2.1 e.2.2.1 e.2.2.2 ∧ mj_cok 121 e.2.1 e.2.2.1 e.2.2.2 := by
  unfold mj_tb121
  refine List.forall_mem_cons.mpr ⟨⟨(trivial), trivial⟩, ?_⟩
  refine List.forall_mem_cons.mpr ⟨⟨(mj_lkG (by decide) rfl (by decide) mj_inU10 mjf_10_149), trivial⟩, ?_⟩
  refine List.forall_mem_cons.mpr ⟨⟨(show (0 : Int) ≤ ((4 : Nat) : Int) + 20 by decide), trivial⟩, ?_⟩
  refine List.forall_mem_cons.mpr ⟨⟨(trivial), trivial⟩, ?_⟩
  refine List.forall_mem_cons.mpr ⟨⟨(trivial), trivial⟩, ?_⟩
  refine List.forall_mem_cons.mpr ⟨⟨(trivial), mj_ckOf mjK_103 (by decide) (mj_lnkG mjl_10_152)⟩, ?_⟩
  refine List.forall_mem_cons.mpr ⟨⟨(show (0 : Int) ≤ ((12 : Nat) : Int) + 12 by decide), trivial⟩, ?_⟩
  refine List.forall_mem_cons.mpr ⟨⟨(trivial), trivial⟩, ?_⟩
  refine List.forall_mem_cons.mpr ⟨⟨(mj_lkG (by decide) rfl (by decide) mj_inU10 mjf_10_50), trivial⟩, ?_⟩
  refine List.forall_mem_cons.mpr ⟨⟨(trivial), trivial⟩, ?_⟩
  refine List.forall_mem_cons.mpr ⟨⟨(trivial), trivial⟩, ?_⟩
  refine List.forall_mem_cons.mpr ⟨⟨(show (0 : Int) ≤ ((21 : Nat) : Int) + 4 by decide), trivial⟩, ?_⟩
  refine List.forall_mem_cons.mpr ⟨⟨(trivial), trivial⟩, ?_⟩
  refine List.forall_mem_cons.mpr ⟨⟨(trivial), trivial⟩, ?_⟩
  exact fun _ h => absurd h List.not_mem_nil
theorem mjd_121 : mj_ckd 121 = true := by decide +kernel
theorem mjg_121 : mj_good 121 := mj_goodOf (fun _ => ⟨mj_G, rfl⟩) (by decide +kernel) mjd_121 mje_121
theorem mje_122 : ∀ e ∈ mj_tb122, mj_lk 122 e.1 e.2.1 e.2.2.1 e.2.2.2 ∧ mj_cok 122 e.2.1 e.2.2.1 e.2.2.2 := by
  unfold mj_tb122
  refine List.forall_mem_cons.mpr ⟨⟨(trivial), trivial⟩, ?_⟩
  refine List.forall_mem_cons.mpr ⟨⟨(mj_lkG (by decide) rfl (by decide) mj_inU10 mjf_10_149), trivial⟩, ?_⟩
  refine List.forall_mem_cons.mpr ⟨⟨(show (0 : Int) ≤ ((4 : Nat) : Int) + 33 by decide), trivial⟩, ?_⟩
  refine List.forall_mem_cons.mpr ⟨⟨(trivial), trivial⟩, ?_⟩
  refine List.forall_mem_cons.mpr ⟨⟨(trivial), trivial⟩, ?_⟩
  refine List.forall_mem_cons.mpr ⟨⟨(trivial), mj_ckOf mjK_103 (by decide) (mj_lnkG mjl_10_152)⟩, ?_⟩
  refine List.forall_mem_cons.mpr ⟨⟨(show (0 : Int) ≤ ((12 : Nat) : Int) + 25 by decide), trivial⟩, ?_⟩
  refine List.forall_mem_cons.mpr ⟨⟨(trivial), trivial⟩, ?_⟩
  refine List.forall_mem_cons.mpr ⟨⟨(trivial), trivial⟩, ?_⟩
  refine List.forall_mem_cons.mpr ⟨⟨(trivial), trivial⟩, ?_⟩
  refine List.forall_mem_cons.mpr ⟨⟨(trivial), mj_ckOf mjK_101 (by decide) (mj_lnkG mjl_10_145)⟩, ?_⟩
  refine List.forall_mem_cons.mpr ⟨⟨(show (0 : Int) ≤ ((21 : Nat) : Int) + 16 by decide), trivial⟩, ?_⟩
  refine List.forall_mem_cons.mpr ⟨⟨(trivial), trivial⟩, ?_⟩
  refine List.forall_mem_cons.mpr ⟨⟨(mj_lkG (by decide) rfl (by decide) mj_inU10 mjf_10_53), trivial⟩, ?_⟩
  refine List.forall_mem_cons.mpr ⟨⟨(trivial), trivial⟩, ?_⟩
  refine List.forall_mem_cons.mpr ⟨⟨(trivial), trivial⟩, ?_⟩
  refine List.forall_mem_cons.mpr ⟨⟨(trivial), trivial⟩, ?_⟩
  refine List.forall_mem_cons.mpr ⟨⟨(trivial), trivial⟩, ?_⟩
  refine List.forall_mem_cons.mpr ⟨⟨(trivial), trivial⟩, ?_⟩
  refine List.forall_mem_cons.mpr ⟨⟨(trivial), trivial⟩, ?_⟩
  refine List.forall_mem_cons.mpr ⟨⟨(show (0 : Int) ≤ ((34 : Nat) : Int) + 4 by decide), trivial⟩, ?_⟩
  refine List.forall_mem_cons.mpr ⟨⟨(trivial), trivial⟩, ?_⟩
  refine List.forall_mem_cons.mpr ⟨⟨(trivial), trivial⟩, ?_⟩
  exact fun _ h => absurd h List.not_mem_nil
theorem mjd_122 : mj_ckd 122 = true := by decide +kernel
theorem mjg_122 : mj_good 122 := mj_goodOf (fun _ => ⟨mj_G, rfl⟩) (by decide +kernel) mjd_122 mje_122
theorem mje_123 : ∀ e ∈ mj_tb123, mj_lk 123 e.1 e.2.1 e.2.2.1 e.2.2.2 ∧ mj_cok 123 e.2.1 e.2.2.1 e.2.2.2 := by
  unfold mj_tb123
  refine List.forall_mem_cons.mpr ⟨⟨(trivial), trivial⟩, ?_⟩
  refine List.forall_mem_cons.mpr ⟨⟨(mj_lkG (by decide) rfl (by decide) mj_inU10 mjf_10_149), trivial⟩, ?_⟩
  refine List.forall_mem_cons.mpr ⟨⟨(show (0 : Int) ≤ ((4 : Nat) : Int) + 20 by decide), trivial⟩, ?_⟩
  refine List.forall_mem_cons.mpr ⟨⟨(trivial), trivial⟩, ?_⟩
  refine List.forall_mem_cons.mpr ⟨⟨(trivial), trivial⟩, ?_⟩
  refine List.forall_mem_cons.mpr ⟨⟨(trivial), mj_ckOf mjK_103 (by decide) (mj_lnkG mjl_10_152)⟩, ?_⟩
  refine List.forall_mem_cons.mpr ⟨⟨(show (0 : Int) ≤ ((12 : Nat) : Int) + 12 by decide), trivial⟩, ?_⟩
  refine List.forall_mem_cons.mpr ⟨⟨(trivial), trivial⟩, ?_⟩
  refine List.forall_mem_cons.mpr ⟨⟨(mj_lkG (by decide) rfl (by decide) mj_inU10 mjf_10_56), trivial⟩, ?_⟩
  refine List.forall_mem_cons.mpr ⟨⟨(trivial), trivial⟩, ?_⟩
  refine List.forall_mem_cons.mpr ⟨⟨(trivial), trivial⟩, ?_⟩
  refine List.forall_mem_cons.mpr ⟨⟨(show (0 : Int) ≤ ((21 : Nat) : Int) + 4 by decide), trivial⟩, ?_⟩
  refine List.forall_mem_cons.mpr ⟨⟨(trivial), trivial⟩, ?_⟩
  refine List.forall_mem_cons.mpr ⟨⟨(trivial), trivial⟩, ?_⟩
  exact fun _ h => absurd h List.not_mem_nil
theorem mjd_123 : mj_ckd 123 = true := by decide +kernel
theorem mjg_123 : mj_good 123 := mj_goodOf (fun _ => ⟨mj_G, rfl⟩) (by decide +kernel) mjd_123 mje_123
theorem mje_124 : ∀ e ∈ mj_tb124, mj_lk 124 e.1 e.2.1 e.2.2.1 e.2.2.2 ∧ mj_cok 124 e.2.1 e.2.2.1 e.2.2.2 := by
  unfold mj_tb124
  refine List.forall_mem_cons.mpr ⟨⟨(trivial), trivial⟩, ?_⟩
  refine List.forall_mem_cons.mpr ⟨⟨(mj_lkG (by decide) rfl (by decide) mj_inU10 mjf_10_149), trivial⟩, ?_⟩
  refine List.forall_mem_cons.mpr ⟨⟨(show (0 : Int) ≤ ((4 : Nat) : Int) + 20 by decide), trivial⟩, ?_⟩
  refine List.forall_mem_cons.mpr ⟨⟨(trivial), trivial⟩, ?_⟩
  refine List.forall_mem_cons.mpr ⟨⟨(trivial), trivial⟩, ?_⟩
  refine List.forall_mem_cons.mpr ⟨⟨(trivial), mj_ckOf mjK_103 (by decide) (mj_lnkG mjl_10_152)⟩, ?_⟩
  refine List.forall_mem_cons.mpr ⟨⟨(show (0 : Int) ≤ ((12 : Nat) : Int) + 12 by decide), trivial⟩, ?_⟩
  refine List.forall_mem_cons.mpr ⟨⟨(trivial), trivial⟩, ?_⟩
  refine List.forall_mem_cons.mpr ⟨⟨(mj_lkG (by decide) rfl (by decide) mj_inU10 mjf_10_59), trivial⟩, ?_⟩
  refine List.forall_mem_cons.mpr ⟨⟨(trivial), trivial⟩, ?_⟩
  refine List.forall_mem_cons.mpr ⟨⟨(trivial), trivial⟩, ?_⟩
  refine List.forall_mem_cons.mpr ⟨⟨(show (0 : Int) ≤ ((21 : Nat) : Int) + 4 by decide), trivial⟩, ?_⟩
  refine List.forall_mem_cons.mpr ⟨⟨(trivial), trivial⟩, ?_⟩
  refine List.forall_mem_cons.mpr ⟨⟨(trivial), trivial⟩, ?_⟩
  exact fun _ h => absurd h List.not_mem_nil
theorem mjd_124 : mj_ckd 124 = true := by decide +kernel
theorem mjg_124 : mj_good 124 := mj_goodOf (fun _ => ⟨mj_G, rfl⟩) (by decide +kernel) mjd_124 mje_124
theorem mje_125 : ∀ e ∈ mj_tb125, mj_lk 125 e.1 e.2.1 e.2.2.1 e.2.2.2 ∧ mj_cok 125 e.2.1 e.2.2.1 e.2.2.2 := by
  unfold mj_tb125
  refine List.forall_mem_cons.mpr ⟨⟨(trivial), trivial⟩, ?_⟩
  refine List.forall_mem_cons.mpr ⟨⟨(mj_lkG (by decide) rfl (by decide) mj_inU10 mjf_10_149), trivial⟩, ?_⟩
  refine List.forall_mem_cons.mpr ⟨⟨(show (0 : Int) ≤ ((4 : Nat) : Int) + 21 by decide), trivial⟩, ?_⟩
  refine List.forall_mem_cons.mpr ⟨⟨(trivial), trivial⟩, ?_⟩
  refine List.forall_mem_cons.mpr ⟨⟨(trivial), trivial⟩, ?_⟩
  refine List.forall_mem_cons.mpr ⟨⟨(trivial), trivial⟩, ?_⟩
  refine List.forall_mem_cons.mpr ⟨⟨(trivial), mj_ckOf mjK_101 (by decide) (mj_lnkG mjl_10_145)⟩, ?_⟩
  refine List.forall_mem_cons.mpr ⟨⟨(show (0 : Int) ≤ ((13 : Nat) : Int) + 12 by decide), trivial⟩, ?_⟩
  refine List.forall_mem_cons.mpr ⟨⟨(trivial), trivial⟩, ?_⟩
  refine List.forall_mem_cons.mpr ⟨⟨(mj_lkG (by decide) rfl (by decide) mj_inU10 mjf_10_62), trivial⟩, ?_⟩
  refine List.forall_mem_cons.mpr ⟨⟨(trivial), trivial⟩, ?_⟩
  refine List.forall_mem_cons.mpr ⟨⟨(trivial), trivial⟩, ?_⟩
  refine List.forall_mem_cons.mpr ⟨⟨(show (0 : Int) ≤ ((22 : Nat) : Int) + 4 by decide), trivial⟩, ?_⟩
  refine List.forall_mem_cons.mpr ⟨⟨(trivial), trivial⟩, ?_⟩
  refine List.forall_mem_cons.mpr ⟨⟨(trivial), trivial⟩, ?_⟩
  exact fun _ h => absurd h List.not_mem_nil
theorem mjd_125 : mj_ckd 125 = true := by decide +kernel
theorem mjg_125 : mj_good 125 := mj_goodOf (fun _ => ⟨mj_G, rfl⟩) (by decide +kernel) mjd_125 mje_125
theorem mje_126 : ∀ e ∈ mj_tb126, mj_lk 126 e.1 e.2.1 e.2.2.1 e.2.2.2 ∧ mj_cok 126 e.2.1 e.2.2.1 e.2.2.2 := by
  unfold mj_tb126
  refine List.forall_mem_cons.mpr ⟨⟨(trivial), trivial⟩, ?_⟩
  refine List.forall_mem_cons.mpr ⟨⟨(mj_lkG (by decide) rfl (by decide) mj_inU10 mjf_10_141), trivial⟩, ?_⟩
  refine List.forall_mem_cons.mpr ⟨⟨(show (0 : Int) ≤ ((4 : Nat) : Int) + 10 by decide), trivial⟩, ?_⟩
  refine List.forall_mem_cons.mpr ⟨⟨(trivial), trivial⟩, ?_⟩
  refine List.forall_mem_cons.mpr ⟨⟨(mj_lkG (by decide) rfl (by decide) mj_inU10 mjf_10_149), trivial⟩, ?_⟩
  refine List.forall_mem_cons.mpr ⟨⟨(show (0 : Int) ≤ ((11 : Nat) : Int) + 5 by decide), trivial⟩, ?_⟩
  refine List.forall_mem_cons.mpr ⟨⟨(trivial), trivial⟩, ?_⟩
  refine List.forall_mem_cons.mpr ⟨⟨(trivial), trivial⟩, ?_⟩
  refine List.forall_mem_cons.mpr ⟨⟨(trivial), trivial⟩, ?_⟩
  refine List.forall_mem_cons.mpr ⟨⟨(trivial), trivial⟩, ?_⟩
  refine List.forall_mem_cons.mpr ⟨⟨(mj_lkP (by decide) rfl (by decide) mj_inU10 mjf_10_141 mj_TyOk10 mj_Nm10 (Or.inl rfl) rfl), trivial⟩, ?_⟩
  refine List.forall_mem_cons.mpr ⟨⟨(trivial), trivial⟩, ?_⟩
  refine List.forall_mem_cons.mpr ⟨⟨(trivial), trivial⟩, ?_⟩
  refine List.forall_mem_cons.mpr ⟨⟨(mj_lkP (by decide) rfl (by decide) mj_inU10 mjf_10_209 mj_TyOk10 mj_Nm10 (Or.inl rfl) rfl), trivial⟩, ?_⟩
  refine List.forall_mem_cons.mpr ⟨⟨(trivial), trivial⟩, ?_⟩
  refine List.forall_mem_cons.mpr ⟨⟨(trivial), trivial⟩, ?_⟩
  refine List.forall_mem_cons.mpr ⟨⟨(mj_lkP (by decide) rfl (by decide) mj_inU10 mjf_10_212 mj_TyOk10 mj_Nm10 (Or.inl rfl) rfl), trivial⟩, ?_⟩
  refine List.forall_mem_cons.mpr ⟨⟨(trivial), trivial⟩, ?_⟩
  refine List.forall_mem_cons.mpr ⟨⟨(trivial), trivial⟩, ?_⟩
  refine List.forall_mem_cons.mpr ⟨⟨(mj_lkP (by decide) rfl (by decide) mj_inU10 mjf_10_215 mj_TyOk10 mj_Nm10 (Or.inl rfl) rfl), trivial⟩, ?_⟩
  refine List.forall_mem_cons.mpr ⟨⟨(trivial), trivial⟩, ?_⟩
  refine List.forall_mem_cons.mpr ⟨⟨(trivial), trivial⟩, ?_⟩
  refine List.forall_mem_cons.mpr ⟨⟨(mj_lkP (by decide) rfl (by decide) mj_inU10 mjf_10_218 mj_TyOk10 mj_Nm10 (Or.inl rfl) rfl), trivial⟩, ?_⟩
  refine List.forall_mem_cons.mpr ⟨⟨(trivial), trivial⟩, ?_⟩
  refine List.forall_mem_cons.mpr ⟨⟨(trivial), trivial⟩, ?_⟩
  refine List.forall_mem_cons.mpr ⟨⟨(mj_lkP (by decide) rfl (by decide) mj_inU10 mjf_10_221 mj_TyOk10 mj_Nm10 (Or.inl rfl) rfl), trivial⟩, ?_⟩
  refine List.forall_mem_cons.mpr ⟨⟨(trivial), trivial⟩, ?_⟩
  refine List.forall_mem_cons.mpr ⟨⟨(trivial), trivial⟩, ?_⟩
  refine List.forall_mem_cons.mpr ⟨⟨(mj_lkP (by decide) rfl (by decide) mj_inU10 mjf_10_224 mj_TyOk10 mj_Nm10 (Or.inl rfl) rfl), trivial⟩, ?_⟩
  refine List.forall_mem_cons.mpr ⟨⟨(trivial), trivial⟩, ?_⟩
  refine List.forall_mem_cons.mpr ⟨⟨(trivial), trivial⟩, ?_⟩
  refine List.forall_mem_cons.mpr ⟨⟨(mj_lkP (by decide) rfl (by decide) mj_inU10 mjf_10_227 mj_TyOk10 mj_Nm10 (Or.inl rfl) rfl), trivial⟩, ?_⟩
  refine List.forall_mem_cons.mpr ⟨⟨(trivial), trivial⟩, ?_⟩
  refine List.forall_mem_cons.mpr ⟨⟨(trivial), trivial⟩, ?_⟩
  refine List.forall_mem_cons.mpr ⟨⟨(mj_lkP (by decide) rfl (by decide) mj_inU10 mjf_10_230 mj_TyOk10 mj_Nm10 (Or.inl rfl) rfl), trivial⟩, ?_⟩
  refine List.forall_mem_cons.mpr ⟨⟨(trivial), trivial⟩, ?_⟩
  refine List.forall_mem_cons.mpr ⟨⟨(show (1 : Nat) < mj_maxL 126 by decide), trivial⟩, ?_⟩
  refine List.forall_mem_cons.mpr ⟨⟨(trivial), trivial⟩, ?_⟩
  refine List.forall_mem_cons.mpr ⟨⟨(trivial), trivial⟩, ?_⟩
  refine List.forall_mem_cons.mpr ⟨⟨(show (0 : Int) ≤ ((65 : Nat) : Int) + 55 by decide), trivial⟩, ?_⟩
  refine List.forall_mem_cons.mpr ⟨⟨(trivial), trivial⟩, ?_⟩
  refine List.forall_mem_cons.mpr ⟨⟨(mj_lkG (by decide) rfl (by decide) mj_inU10 mjf_10_65), trivial⟩, ?_⟩
  refine List.forall_mem_cons.mpr ⟨⟨(trivial), trivial⟩, ?_⟩
  refine List.forall_mem_cons.mpr ⟨⟨(trivial), trivial⟩, ?_⟩
  refine List.forall_mem_cons.mpr ⟨⟨(trivial), trivial⟩, ?_⟩
  refine List.forall_mem_cons.mpr ⟨⟨(trivial), trivial⟩, ?_⟩
  refine List.forall_mem_cons.mpr ⟨⟨(mj_lkG (by decide) rfl (by decide) mj_inU10 mjf_10_108), trivial⟩, ?_⟩
  refine List.forall_mem_cons.mpr ⟨⟨(trivial), trivial⟩, ?_⟩
  refine List.forall_mem_cons.mpr ⟨⟨(trivial), trivial⟩, ?_⟩
  refine List.forall_mem_cons.mpr ⟨⟨(mj_lkG (by decide) rfl (by decide) mj_inU10 mjf_10_20), trivial⟩, ?_⟩
  refine List.forall_mem_cons.mpr ⟨⟨(trivial), trivial⟩, ?_⟩
  refine List.forall_mem_cons.mpr ⟨⟨(trivial), trivial⟩, ?_⟩
  refine List.forall_mem_cons.mpr ⟨⟨(show (0 : Int) ≤ ((86 : Nat) : Int) + 7 by decide), trivial⟩, ?_⟩
  refine List.forall_mem_cons.mpr ⟨⟨(trivial), trivial⟩, ?_⟩
  refine List.forall_mem_cons.mpr ⟨⟨(show (0 : Int) ≤ ((90 : Nat) : Int) + 9 by decide), trivial⟩, ?_⟩
  refine List.forall_mem_cons.mpr ⟨⟨(trivial), trivial⟩, ?_⟩
  refine List.forall_mem_cons.mpr ⟨⟨(mj_lkG (by decide) rfl (by decide) mj_inU10 mjf_10_20), trivial⟩, ?_⟩
  refine List.forall_mem_cons.mpr ⟨⟨(trivial), trivial⟩, ?_⟩
  refine List.forall_mem_cons.mpr ⟨⟨(trivial), trivial⟩, ?_⟩
  refine List.forall_mem_cons.mpr ⟨⟨(trivial), trivial⟩, ?_⟩
  refine List.forall_mem_cons.mpr ⟨⟨(trivial), trivial⟩, ?_⟩
  refine List.forall_mem_cons.mpr ⟨⟨(mj_lkG (by decide) rfl (by decide) mj_inU10 mjf_10_111), trivial⟩, ?_⟩
  refine List.forall_mem_cons.mpr ⟨⟨(trivial), trivial⟩, ?_⟩
  refine List.forall_mem_cons.mpr ⟨⟨(trivial), trivial⟩, ?_⟩
  refine List.forall_mem_cons.mpr ⟨⟨(trivial), trivial⟩, ?_⟩
  refine List.forall_mem_cons.mpr ⟨⟨(trivial), trivial⟩, ?_⟩
  refine List.forall_mem_cons.mpr ⟨⟨(mj_lkG (by decide) rfl (by decide) mj_inU10 mjf_10_114), trivial⟩, ?_⟩
  refine List.forall_mem_cons.mpr ⟨⟨(trivial), trivial⟩, ?_⟩
  refine List.forall_mem_cons.mpr ⟨⟨(trivial), trivial⟩, ?_⟩
  refine List.forall_mem_cons.mpr ⟨⟨(trivial), trivial⟩, ?_⟩
  refine List.forall_mem_cons.mpr ⟨⟨(show (1 : Nat) < mj_maxL 126 by decide), trivial⟩, ?_⟩
  refine List.forall_mem_cons.mpr ⟨⟨(show (0 : Int) ≤ ((117 : Nat) : Int) + (-54) by decide), trivial⟩, ?_⟩
  refine List.forall_mem_cons.mpr ⟨⟨(trivial), trivial⟩, ?_⟩
  refine List.forall_mem_cons.mpr ⟨⟨(show (1 : Nat) < mj_maxL 126 by decide), trivial⟩, ?_⟩
  refine List.forall_mem_cons.mpr ⟨⟨(trivial), trivial⟩, ?_⟩
  refine List.forall_mem_cons.mpr ⟨⟨(trivial), trivial⟩, ?_⟩
  refine List.forall_mem_cons.mpr ⟨⟨(show (0 : Int) ≤ ((125 : Nat) : Int) + 16 by decide), trivial⟩, ?_⟩
  refine List.forall_mem_cons.mpr ⟨⟨(trivial), trivial⟩, ?_⟩
  refine List.forall_mem_cons.mpr ⟨⟨(mj_lkG (by decide) rfl (by decide) mj_inU10 mjf_10_105), trivial⟩, ?_⟩
  refine List.forall_mem_cons.mpr ⟨⟨(trivial), trivial⟩, ?_⟩
  refine List.forall_mem_cons.mpr ⟨⟨(trivial), trivial⟩, ?_⟩
  refine List.forall_mem_cons.mpr ⟨⟨(trivial), trivial⟩, ?_⟩
  refine List.forall_mem_cons.mpr ⟨⟨(show (1 : Nat) < mj_maxL 126 by decide), trivial⟩, ?_⟩
  refine List.forall_mem_cons.mpr ⟨⟨(show (0 : Int) ≤ ((138 : Nat) : Int) + (-16) by decide), trivial⟩, ?_⟩
  refine List.forall_mem_cons.mpr ⟨⟨(trivial), trivial⟩, ?_⟩
  refine List.forall_mem_cons.mpr ⟨⟨(show (1 : Nat) < mj_maxL 126 by decide), trivial⟩, ?_⟩
  refine List.forall_mem_cons.mpr ⟨⟨(trivial), trivial⟩, ?_⟩
  refine List.forall_mem_cons.mpr ⟨⟨(trivial), trivial⟩, ?_⟩
  refine List.forall_mem_cons.mpr ⟨⟨(show (0 : Int) ≤ ((145 : Nat) : Int) + 23 by decide), trivial⟩, ?_⟩
  refine List.forall_mem_cons.mpr ⟨⟨(trivial), trivial⟩, ?_⟩
  refine List.forall_mem_cons.mpr ⟨⟨(mj_lkG (by decide) rfl (by decide) mj_inU10 mjf_10_117), trivial⟩, ?_⟩
  refine List.forall_mem_cons.mpr ⟨⟨(trivial), trivial⟩, ?_⟩
  refine List.forall_mem_cons.mpr ⟨⟨(trivial), trivial⟩, ?_⟩
  refine List.forall_mem_cons.mpr ⟨⟨(trivial), trivial⟩, ?_⟩
  refine List.forall_mem_cons.mpr ⟨⟨(trivial), trivial⟩, ?_⟩
  refine List.forall_mem_cons.mpr ⟨⟨(mj_lkG (by decide) rfl (by decide) mj_inU10 mjf_10_123), trivial⟩, ?_⟩
  refine List.forall_mem_cons.mpr ⟨⟨(trivial), trivial⟩, ?_⟩
  refine List.forall_mem_cons.mpr ⟨⟨(trivial), trivial⟩, ?_⟩
  refine List.forall_mem_cons.mpr ⟨⟨(trivial), trivial⟩, ?_⟩
  refine List.forall_mem_cons.mpr ⟨⟨(show (1 : Nat) < mj_maxL 126 by decide), trivial⟩, ?_⟩
  refine List.forall_mem_cons.mpr ⟨⟨(show (0 : Int) ≤ ((165 : Nat) : Int) + (-22) by decide), trivial⟩, ?_⟩
  refine List.forall_mem_cons.mpr ⟨⟨(trivial), trivial⟩, ?_⟩
  refine List.forall_mem_cons.mpr ⟨⟨(trivial), trivial⟩, ?_⟩
  exact fun _ h => absurd h List.not_mem_nil
theorem mjd_126 : mj_ckd 126 = true := by decide +kernel
theorem mjg_126 : mj_good 126 := mj_goodOf (fun _ => ⟨mj_G, rfl⟩) (by decide +kernel) mjd_126 mje_126
theorem mje_127 : ∀ e ∈ mj_tb127, mj_lk 127 e.1 e.2.1 e.2.2.1 e.2.2.2 ∧ mj_cok 127 e.2.1 e.2.2.1 e.2.2.2 := by
  unfold mj_tb127
  refine List.forall_mem_cons.mpr ⟨⟨(trivial), trivial⟩, ?_⟩
  refine List.forall_mem_cons.mpr ⟨⟨(mj_lkG (by decide) rfl (by decide) mj_inU10 mjf_10_141), trivial⟩, ?_⟩
  refine List.forall_mem_cons.mpr ⟨⟨(show (1 : Nat) < mj_maxL 127 by decide), trivial⟩, ?_⟩
  refine List.forall_mem_cons.mpr ⟨⟨(trivial), trivial⟩, ?_⟩
  refine List.forall_mem_cons.mpr ⟨⟨(trivial), trivial⟩, ?_⟩
  refine List.forall_mem_cons.mpr ⟨⟨(mj_lkP (by decide) rfl (by decide) mj_inU10 mjf_10_141 mj_TyOk10 mj_Nm10 (Or.inl rfl) rfl), trivial⟩, ?_⟩
  refine List.forall_mem_cons.mpr ⟨⟨(trivial), trivial⟩, ?_⟩
  refine List.forall_mem_cons.mpr ⟨⟨(trivial), trivial⟩, ?_⟩
  exact fun _ h => absurd h List.not_mem_nil
theorem mjd_127 : mj_ckd 127 = true := by decide +kernel
theorem mjg_127 : mj_good 127 := mj_goodOf (fun _ => ⟨mj_G, rfl⟩) (by decide +kernel) mjd_127 mje_127
theorem mje_128 : ∀ e ∈ mj_tb128, mj_lk 128 e.1 e.2.1 e.2.2.1 e.2.2.2 ∧ mj_cok 128 e.2.1 e.2.2.1 e.2.2.2 := by
  unfold mj_tb128
  refine List.forall_mem_cons.mpr ⟨⟨(trivial), trivial⟩, ?_⟩
  refine List.forall_mem_cons.mpr ⟨⟨(mj_lkG (by decide) rfl (by decide) mj_inU10 mjf_10_141), trivial⟩, ?_⟩
  refine List.forall_mem_cons.mpr ⟨⟨(show (0 : Int) ≤ ((4 : Nat) : Int) + 30 by decide), trivial⟩, ?_⟩
  refine List.forall_mem_cons.mpr ⟨⟨(trivial), trivial⟩, ?_⟩
  refine List.forall_mem_cons.mpr ⟨⟨(trivial), trivial⟩, ?_⟩
  refine List.forall_mem_cons.mpr ⟨⟨(trivial), mj_ckOf mjK_103 (by decide) (mj_lnkG mjl_10_152)⟩, ?_⟩
  refine List.forall_mem_cons.mpr ⟨⟨(show (0 : Int) ≤ ((12 : Nat) : Int) + 22 by decide), trivial⟩, ?_⟩
  refine List.forall_mem_cons.mpr ⟨⟨(trivial), trivial⟩, ?_⟩
  refine List.forall_mem_cons.mpr ⟨⟨(mj_lkG (by decide) rfl (by decide) mj_inU10 mjf_10_20), trivial⟩, ?_⟩
  refine List.forall_mem_cons.mpr ⟨⟨(trivial), trivial⟩, ?_⟩
  refine List.forall_mem_cons.mpr ⟨⟨(trivial), trivial⟩, ?_⟩
  refine List.forall_mem_cons.mpr ⟨⟨(show (0 : Int) ≤ ((21 : Nat) : Int) + 13 by decide), trivial⟩, ?_⟩
  refine List.forall_mem_cons.mpr ⟨⟨(trivial), trivial⟩, ?_⟩
  refine List.forall_mem_cons.mpr ⟨⟨(mj_lkG (by decide) rfl (by decide) mj_inU10 mjf_10_111), trivial⟩, ?_⟩
  refine List.forall_mem_cons.mpr ⟨⟨(trivial), trivial⟩, ?_⟩
  refine List.forall_mem_cons.mpr ⟨⟨(trivial), trivial⟩, ?_⟩
  refine List.forall_mem_cons.mpr ⟨⟨(trivial), trivial⟩, ?_⟩
  refine List.forall_mem_cons.mpr ⟨⟨(show (0 : Int) ≤ ((31 : Nat) : Int) + 5 by decide), trivial⟩, ?_⟩
  refine List.forall_mem_cons.mpr ⟨⟨(trivial), trivial⟩, ?_⟩
  refine List.forall_mem_cons.mpr ⟨⟨(trivial), trivial⟩, ?_⟩
  refine List.forall_mem_cons.mpr ⟨⟨(trivial), trivial⟩, ?_⟩
  refine List.forall_mem_cons.mpr ⟨⟨(mj_lkG (by decide) rfl (by decide) mj_inU10 mjf_10_111), trivial⟩, ?_⟩
  refine List.forall_mem_cons.mpr ⟨⟨(trivial), trivial⟩, ?_⟩
  refine List.forall_mem_cons.mpr ⟨⟨(trivial), trivial⟩, ?_⟩
  refine List.forall_mem_cons.mpr ⟨⟨(trivial), trivial⟩, ?_⟩
  refine List.forall_mem_cons.mpr ⟨⟨(trivial), trivial⟩, ?_⟩
  refine List.forall_mem_cons.mpr ⟨⟨(trivial), trivial⟩, ?_⟩
  refine List.forall_mem_cons.mpr ⟨⟨(trivial), trivial⟩, ?_⟩
  refine List.forall_mem_cons.mpr ⟨⟨(trivial), trivial⟩, ?_⟩
  refine List.forall_mem_cons.mpr ⟨⟨(trivial), trivial⟩, ?_⟩
  exact fun _ h => absurd h List.not_mem_nil
theorem mjd_128 : mj_ckd 128 = true := by decide +kernel
theorem mjg_128 : mj_good 128 := mj_goodOf (fun _ => ⟨mj_G, rfl⟩) (by decide +kernel) mjd_128 mje_128
theorem mje_129 : ∀ e ∈ mj_tb129, mj_lk 129 e.1 e.2.1 e.2.2.1 e.2.2.2 ∧ mj_cok 129 e.2.1 e.2.2.1 e.2.2.2 := by
  unfold mj_tb129
  refine List.forall_mem_cons.mpr ⟨⟨(trivial), trivial⟩, ?_⟩
  refine List.forall_mem_cons.mpr ⟨⟨(mj_lkG (by decide) rfl (by decide) mj_inU10 mjf_10_141), trivial⟩, ?_⟩
  refine List.forall_mem_cons.mpr ⟨⟨(show (0 : Int) ≤ ((4 : Nat) : Int) + 12 by decide), trivial⟩, ?_⟩
  refine List.forall_mem_cons.mpr ⟨⟨(trivial), trivial⟩, ?_⟩
  refine List.forall_mem_cons.mpr ⟨⟨(trivial), trivial⟩, ?_⟩
  refine List.forall_mem_cons.mpr ⟨⟨(trivial), trivial⟩, ?_⟩
  refine List.forall_mem_cons.mpr ⟨⟨(trivial), mj_ckOf mjK_101 (by decide) (mj_lnkG mjl_10_145)⟩, ?_⟩
  refine List.forall_mem_cons.mpr ⟨⟨(show (0 : Int) ≤ ((13 : Nat) : Int) + 5 by decide), trivial⟩, ?_⟩
  refine List.forall_mem_cons.mpr ⟨⟨(trivial), trivial⟩, ?_⟩
  refine List.forall_mem_cons.mpr ⟨⟨(trivial), trivial⟩, ?_⟩
  refine List.forall_mem_cons.mpr ⟨⟨(trivial), trivial⟩, ?_⟩
  refine List.forall_mem_cons.mpr ⟨⟨(mj_lkG (by decide) rfl (by decide) mj_inU10 mjf_10_117), trivial⟩, ?_⟩
  refine List.forall_mem_cons.mpr ⟨⟨(trivial), trivial⟩, ?_⟩
  refine List.forall_mem_cons.mpr ⟨⟨(trivial), trivial⟩, ?_⟩
  refine List.forall_mem_cons.mpr ⟨⟨(trivial), trivial⟩, ?_⟩
  refine List.forall_mem_cons.mpr ⟨⟨(trivial), trivial⟩, ?_⟩
  refine List.forall_mem_cons.mpr ⟨⟨(trivial), trivial⟩, ?_⟩
  exact fun _ h => absurd h List.not_mem_nil
theorem mjd_129 : mj_ckd 129 = true := by decide +kernel
theorem mjg_129 : mj_good 129 := mj_goodOf (fun _ => ⟨mj_G, rfl⟩) (by decide +kernel) mjd_129 mje_129
theorem mje_130 : ∀ e ∈ mj_tb130, mj_lk 130 e.1 e.2.1 e.2.2.1 e.2.2.2 ∧ mj_cok 130 e.2.1 e.2.2.1 e.2.2.2 := by
  unfold mj_tb130
  refine List.forall_mem_cons.mpr ⟨⟨(trivial), trivial⟩, ?_⟩
  refine List.forall_mem_cons.mpr ⟨⟨(mj_lkG (by decide) rfl (by decide) mj_inU10 mjf_10_141), trivial⟩, ?_⟩
  refine List.forall_mem_cons.mpr ⟨⟨(show (0 : Int) ≤ ((4 : Nat) : Int) + 14 by decide), trivial⟩, ?_⟩
  refine List.forall_mem_cons.mpr ⟨⟨(trivial), trivial⟩, ?_⟩
  refine List.forall_mem_cons.mpr ⟨⟨(trivial), trivial⟩, ?_⟩
  refine List.forall_mem_cons.mpr ⟨⟨(trivial), trivial⟩, ?_⟩
  refine List.forall_mem_cons.mpr ⟨⟨(trivial), mj_ckOf mjK_101 (by decide) (mj_lnkG mjl_10_145)⟩, ?_⟩
  refine List.forall_mem_cons.mpr ⟨⟨(show (0 : Int) ≤ ((15 : Nat) : Int) + 5 by decide), trivial⟩, ?_⟩
  refine List.forall_mem_cons.mpr ⟨⟨(trivial), trivial⟩, ?_⟩
  refine List.forall_mem_cons.mpr ⟨⟨(trivial), trivial⟩, ?_⟩
  refine List.forall_mem_cons.mpr ⟨⟨(trivial), trivial⟩, ?_⟩
  refine List.forall_mem_cons.mpr ⟨⟨(mj_lkG (by decide) rfl (by decide) mj_inU10 mjf_10_230), trivial⟩, ?_⟩
  refine List.forall_mem_cons.mpr ⟨⟨(show (2 : Nat) < mj_maxL 130 by decide), trivial⟩, ?_⟩
  refine List.forall_mem_cons.mpr ⟨⟨(trivial), trivial⟩, ?_⟩
  refine List.forall_mem_cons.mpr ⟨⟨(show (3 : Nat) < mj_maxL 130 by decide), trivial⟩, ?_⟩
  refine List.forall_mem_cons.mpr ⟨⟨(trivial), trivial⟩, ?_⟩
  refine List.forall_mem_cons.mpr ⟨⟨(trivial), trivial⟩, ?_⟩
  refine List.forall_mem_cons.mpr ⟨⟨(show (0 : Int) ≤ ((29 : Nat) : Int) + 13 by decide), trivial⟩, ?_⟩
  refine List.forall_mem_cons.mpr ⟨⟨(trivial), trivial⟩, ?_⟩
  refine List.forall_mem_cons.mpr ⟨⟨(trivial), mj_ckOf mjK_131 (by decide) (mj_lnkG mjl_10_263)⟩, ?_⟩
  refine List.forall_mem_cons.mpr ⟨⟨(show (3 : Nat) < mj_maxL 130 by decide), trivial⟩, ?_⟩
  refine List.forall_mem_cons.mpr ⟨⟨(show (0 : Int) ≤ ((39 : Nat) : Int) + (-12) by decide), trivial⟩, ?_⟩
  refine List.forall_mem_cons.mpr ⟨⟨(trivial), trivial⟩, ?_⟩
  refine List.forall_mem_cons.mpr ⟨⟨(mj_lkG (by decide) rfl (by decide) mj_inU10 mjf_10_230), trivial⟩, ?_⟩
  refine List.forall_mem_cons.mpr ⟨⟨(trivial), trivial⟩, ?_⟩
  refine List.forall_mem_cons.mpr ⟨⟨(trivial), trivial⟩, ?_⟩
  refine List.forall_mem_cons.mpr ⟨⟨(trivial), trivial⟩, ?_⟩
  exact fun _ h => absurd h List.not_mem_nil
theorem mjd_130 : mj_ckd 130 = true := by decide +kernel
theorem mjg_130 : mj_good 130 := mj_goodOf (fun _ => ⟨mj_G, rfl⟩) (by decide +kernel) mjd_130 mje_130
theorem mje_131 : ∀ e ∈ mj_tb131, mj_lk 131 e.1 e.2.1 e.2.2.1 e.2.2.2 ∧ mj_cok 131 e.2.1 e.2.2.1 e.2.2.2 := by
  unfold mj_tb131
  refine List.forall_mem_cons.mpr ⟨⟨(trivial), trivial⟩, ?_⟩
  refine List.forall_mem_cons.mpr ⟨⟨(show (1 : Nat) < mj_maxL 131 by decide), trivial⟩, ?_⟩
  refine List.forall_mem_cons.mpr ⟨⟨(trivial), trivial⟩, ?_⟩
  refine List.forall_mem_cons.mpr ⟨⟨(trivial), trivial⟩, ?_⟩
  refine List.forall_mem_cons.mpr ⟨⟨(mj_lkG (by decide) rfl (by decide) mj_inU10 mjf_10_138), trivial⟩, ?_⟩
  refine List.forall_mem_cons.mpr ⟨⟨(show (0 : Int) ≤ ((7 : Nat) : Int) + 45 by decide), trivial⟩, ?_⟩
  refine List.forall_mem_cons.mpr ⟨⟨(trivial), trivial⟩, ?_⟩
  refine List.forall_mem_cons.mpr ⟨⟨(mj_lkG (by decide) rfl (by decide) mj_inU10 mjf_10_209), trivial⟩, ?_⟩
  refine List.forall_mem_cons.mpr ⟨⟨(trivial), trivial⟩, ?_⟩
  refine List.forall_mem_cons.mpr ⟨⟨(mj_lkG (by decide) rfl (by decide) mj_inU10 mjf_10_108), trivial⟩, ?_⟩
  refine List.forall_mem_cons.mpr ⟨⟨(trivial), trivial⟩, ?_⟩
  refine List.forall_mem_cons.mpr ⟨⟨(trivial), trivial⟩, ?_⟩
  refine List.forall_mem_cons.mpr ⟨⟨(show (0 : Int) ≤ ((20 : Nat) : Int) + 26 by decide), trivial⟩, ?_⟩
  refine List.forall_mem_cons.mpr ⟨⟨(trivial), trivial⟩, ?_⟩
  refine List.forall_mem_cons.mpr ⟨⟨(mj_lkG (by decide) rfl (by decide) mj_inU10 mjf_10_20), trivial⟩, ?_⟩
  refine List.forall_mem_cons.mpr ⟨⟨(trivial), trivial⟩, ?_⟩
  refine List.forall_mem_cons.mpr ⟨⟨(trivial), trivial⟩, ?_⟩
  refine List.forall_mem_cons.mpr ⟨⟨(show (0 : Int) ≤ ((29 : Nat) : Int) + 12 by decide), trivial⟩, ?_⟩
  refine List.forall_mem_cons.mpr ⟨⟨(trivial), trivial⟩, ?_⟩
  refine List.forall_mem_cons.mpr ⟨⟨(mj_lkG (by decide) rfl (by decide) mj_inU10 mjf_10_111), trivial⟩, ?_⟩
  refine List.forall_mem_cons.mpr ⟨⟨(trivial), trivial⟩, ?_⟩
  refine List.forall_mem_cons.mpr ⟨⟨(trivial), trivial⟩, ?_⟩
  refine List.forall_mem_cons.mpr ⟨⟨(show (0 : Int) ≤ ((38 : Nat) : Int) + 8 by decide), trivial⟩, ?_⟩
  refine List.forall_mem_cons.mpr ⟨⟨(trivial), trivial⟩, ?_⟩
  refine List.forall_mem_cons.mpr ⟨⟨(trivial), trivial⟩, ?_⟩
  refine List.forall_mem_cons.mpr ⟨⟨(trivial), mj_ckOf mjK_132 (by decide) (mj_lnkG mjl_10_240)⟩, ?_⟩
  refine List.forall_mem_cons.mpr ⟨⟨(show (1 : Nat) < mj_maxL 131 by decide), trivial⟩, ?_⟩
  refine List.forall_mem_cons.mpr ⟨⟨(show (0 : Int) ≤ ((49 : Nat) : Int) + (-47) by decide), trivial⟩, ?_⟩
  refine List.forall_mem_cons.mpr ⟨⟨(trivial), trivial⟩, ?_⟩
  refine List.forall_mem_cons.mpr ⟨⟨(trivial), mj_ckOf mjK_134 (by decide) (mj_lnkG mjl_10_243)⟩, ?_⟩
  refine List.forall_mem_cons.mpr ⟨⟨(show (1 : Nat) < mj_maxL 131 by decide), trivial⟩, ?_⟩
  refine List.forall_mem_cons.mpr ⟨⟨(trivial), trivial⟩, ?_⟩
  refine List.forall_mem_cons.mpr ⟨⟨(trivial), trivial⟩, ?_⟩
  refine List.forall_mem_cons.mpr ⟨⟨(mj_lkG (by decide) rfl (by decide) mj_inU10 mjf_10_209), trivial⟩, ?_⟩
  refine List.forall_mem_cons.mpr ⟨⟨(trivial), trivial⟩, ?_⟩
  refine List.forall_mem_cons.mpr ⟨⟨(trivial), trivial⟩, ?_⟩
  refine List.forall_mem_cons.mpr ⟨⟨(mj_lkP (by decide) rfl (by decide) mj_inU10 mjf_10_209 mj_TyOk10 mj_Nm10 (Or.inl rfl) rfl), trivial⟩, ?_⟩
  refine List.forall_mem_cons.mpr ⟨⟨(trivial), trivial⟩, ?_⟩
  refine List.forall_mem_cons.mpr ⟨⟨(trivial), trivial⟩, ?_⟩
  refine List.forall_mem_cons.mpr ⟨⟨(mj_lkP (by decide) rfl (by decide) mj_inU10 mjf_10_212 mj_TyOk10 mj_Nm10 (Or.inl rfl) rfl), trivial⟩, ?_⟩
  refine List.forall_mem_cons.mpr ⟨⟨(trivial), trivial⟩, ?_⟩
  refine List.forall_mem_cons.mpr ⟨⟨(show (0 : Int) ≤ ((73 : Nat) : Int) + 16 by decide), trivial⟩, ?_⟩
  refine List.forall_mem_cons.mpr ⟨⟨(trivial), trivial⟩, ?_⟩
  refine List.forall_mem_cons.mpr ⟨⟨(trivial), trivial⟩, ?_⟩
  refine List.forall_mem_cons.mpr ⟨⟨(mj_lkG (by decide) rfl (by decide) mj_inU10 mjf_10_227), trivial⟩, ?_⟩
  refine List.forall_mem_cons.mpr ⟨⟨(trivial), trivial⟩, ?_⟩
  refine List.forall_mem_cons.mpr ⟨⟨(trivial), trivial⟩, ?_⟩
  refine List.forall_mem_cons.mpr ⟨⟨(mj_lkP (by decide) rfl (by decide) mj_inU10 mjf_10_227 mj_TyOk10 mj_Nm10 (Or.inl rfl) rfl), trivial⟩, ?_⟩
  refine List.forall_mem_cons.mpr ⟨⟨(show (0 : Int) ≤ ((86 : Nat) : Int) + 63 by decide), trivial⟩, ?_⟩
  refine List.forall_mem_cons.mpr ⟨⟨(trivial), trivial⟩, ?_⟩
  refine List.forall_mem_cons.mpr ⟨⟨(trivial), trivial⟩, ?_⟩
  refine List.forall_mem_cons.mpr ⟨⟨(mj_lkG (by decide) rfl (by decide) mj_inU10 mjf_10_215), trivial⟩, ?_⟩
  refine List.forall_mem_cons.mpr ⟨⟨(show (0 : Int) ≤ ((94 : Nat) : Int) + 23 by decide), trivial⟩, ?_⟩
  refine List.forall_mem_cons.mpr ⟨⟨(trivial), trivial⟩, ?_⟩
  refine List.forall_mem_cons.mpr ⟨⟨(trivial), trivial⟩, ?_⟩
  refine List.forall_mem_cons.mpr ⟨⟨(mj_lkG (by decide) rfl (by decide) mj_inU10 mjf_10_218), trivial⟩, ?_⟩
  refine List.forall_mem_cons.mpr ⟨⟨(trivial), trivial⟩, ?_⟩
  refine List.forall_mem_cons.mpr ⟨⟨(trivial), trivial⟩, ?_⟩
  refine List.forall_mem_cons.mpr ⟨⟨(mj_lkP (by decide) rfl (by decide) mj_inU10 mjf_10_218 mj_TyOk10 mj_Nm10 (Or.inl rfl) rfl), trivial⟩, ?_⟩
  refine List.forall_mem_cons.mpr ⟨⟨(trivial), trivial⟩, ?_⟩
  refine List.forall_mem_cons.mpr ⟨⟨(mj_lkG (by decide) rfl (by decide) mj_inU10 mjf_10_75), trivial⟩, ?_⟩
  refine List.forall_mem_cons.mpr ⟨⟨(trivial), trivial⟩, ?_⟩
  refine List.forall_mem_cons.mpr ⟨⟨(trivial), trivial⟩, ?_⟩
  refine List.forall_mem_cons.mpr ⟨⟨(trivial), trivial⟩, ?_⟩
  refine List.forall_mem_cons.mpr ⟨⟨(show (0 : Int) ≤ ((114 : Nat) : Int) + 35 by decide), trivial⟩, ?_⟩
  refine List.forall_mem_cons.mpr ⟨⟨(trivial), trivial⟩, ?_⟩
  refine List.forall_mem_cons.mpr ⟨⟨(mj_lkG (by decide) rfl (by decide) mj_inU10 mjf_10_75), trivial⟩, ?_⟩
  refine List.forall_mem_cons.mpr ⟨⟨(trivial), trivial⟩, ?_⟩
  refine List.forall_mem_cons.mpr ⟨⟨(trivial), trivial⟩, ?_⟩
  refine List.forall_mem_cons.mpr ⟨⟨(show (0 : Int) ≤ ((123 : Nat) : Int) + 16 by decide), trivial⟩, ?_⟩
  refine List.forall_mem_cons.mpr ⟨⟨(trivial), trivial⟩, ?_⟩
  refine List.forall_mem_cons.mpr ⟨⟨(mj_lkG (by decide) rfl (by decide) mj_inU10 mjf_10_75), trivial⟩, ?_⟩
  refine List.forall_mem_cons.mpr ⟨⟨(trivial), trivial⟩, ?_⟩
  refine List.forall_mem_cons.mpr ⟨⟨(trivial), trivial⟩, ?_⟩
  refine List.forall_mem_cons.mpr ⟨⟨(trivial), trivial⟩, ?_⟩
  refine List.forall_mem_cons.mpr ⟨⟨(trivial), trivial⟩, ?_⟩
  refine List.forall_mem_cons.mpr ⟨⟨(trivial), trivial⟩, ?_⟩
  refine List.forall_mem_cons.mpr ⟨⟨(trivial), trivial⟩, ?_⟩
  refine List.forall_mem_cons.mpr ⟨⟨(show (0 : Int) ≤ ((136 : Nat) : Int) + 13 by decide), trivial⟩, ?_⟩
  refine List.forall_mem_cons.mpr ⟨⟨(trivial), trivial⟩, ?_⟩
  refine List.forall_mem_cons.mpr ⟨⟨(mj_lkG (by decide) rfl (by decide) mj_inU10 mjf_10_78), trivial⟩, ?_⟩
  refine List.forall_mem_cons.mpr ⟨⟨(trivial), trivial⟩, ?_⟩
  refine List.forall_mem_cons.mpr ⟨⟨(trivial), trivial⟩, ?_⟩
  refine List.forall_mem_cons.mpr ⟨⟨(trivial), trivial⟩, ?_⟩
  refine List.forall_mem_cons.mpr ⟨⟨(trivial), trivial⟩, ?_⟩
  refine List.forall_mem_cons.mpr ⟨⟨(trivial), trivial⟩, ?_⟩
  refine List.forall_mem_cons.mpr ⟨⟨(trivial), trivial⟩, ?_⟩
  refine List.forall_mem_cons.mpr ⟨⟨(trivial), trivial⟩, ?_⟩
  refine List.forall_mem_cons.mpr ⟨⟨(trivial), trivial⟩, ?_⟩
  refine List.forall_mem_cons.mpr ⟨⟨(mj_lkP (by decide) rfl (by decide) mj_inU10 mjf_10_215 mj_TyOk10 mj_Nm10 (Or.inl rfl) rfl), trivial⟩, ?_⟩
  refine List.forall_mem_cons.mpr ⟨⟨(trivial), trivial⟩, ?_⟩
  refine List.forall_mem_cons.mpr ⟨⟨(show (0 : Int) ≤ ((155 : Nat) : Int) + 64 by decide), trivial⟩, ?_⟩
  refine List.forall_mem_cons.mpr ⟨⟨(trivial), trivial⟩, ?_⟩
  refine List.forall_mem_cons.mpr ⟨⟨(mj_lkG (by decide) rfl (by decide) mj_inU10 mjf_10_69), trivial⟩, ?_⟩
  refine List.forall_mem_cons.mpr ⟨⟨(trivial), trivial⟩, ?_⟩
  refine List.forall_mem_cons.mpr ⟨⟨(trivial), trivial⟩, ?_⟩
  refine List.forall_mem_cons.mpr ⟨⟨(trivial), trivial⟩, ?_⟩
  refine List.forall_mem_cons.mpr ⟨⟨(trivial), trivial⟩, ?_⟩
  refine List.forall_mem_cons.mpr ⟨⟨(trivial), trivial⟩, ?_⟩
  refine List.forall_mem_cons.mpr ⟨⟨(trivial), trivial⟩, ?_⟩
  refine List.forall_mem_cons.mpr ⟨⟨(trivial), trivial⟩, ?_⟩
  refine List.forall_mem_cons.mpr ⟨⟨(mj_lkG (by decide) rfl (by decide) mj_inU10 mjf_10_87), trivial⟩, ?_⟩
  refine List.forall_mem_cons.mpr ⟨⟨(trivial), trivial⟩, ?_⟩
  refine List.forall_mem_cons.mpr ⟨⟨(trivial), trivial⟩, ?_⟩
  refine List.forall_mem_cons.mpr ⟨⟨(trivial), trivial⟩, ?_⟩
  refine List.forall_mem_cons.mpr ⟨⟨(trivial), trivial⟩, ?_⟩
  refine List.forall_mem_cons.mpr ⟨⟨(trivial), trivial⟩, ?_⟩
  refine List.forall_mem_cons.mpr ⟨⟨(trivial), trivial⟩, ?_⟩
  refine List.forall_mem_cons.mpr ⟨⟨(mj_lkG (by decide) rfl (by decide) mj_inU10 mjf_10_90), trivial⟩, ?_⟩
  refine List.forall_mem_cons.mpr ⟨⟨(trivial), trivial⟩, ?_⟩
  refine List.forall_mem_cons.mpr ⟨⟨(trivial), trivial⟩, ?_⟩
  refine List.forall_mem_cons.mpr ⟨⟨(trivial), trivial⟩, ?_⟩
  refine List.forall_mem_cons.mpr ⟨⟨(show (2 : Nat) < mj_maxL 131 by decide), trivial⟩, ?_⟩
  refine List.forall_mem_cons.mpr ⟨⟨(trivial), trivial⟩, ?_⟩
  refine List.forall_mem_cons.mpr ⟨⟨(mj_lkG (by decide) rfl (by decide) mj_inU10 mjf_10_78), trivial⟩, ?_⟩
  refine List.forall_mem_cons.mpr ⟨⟨(trivial), trivial⟩, ?_⟩
  refine List.forall_mem_cons.mpr ⟨⟨(trivial), trivial⟩, ?_⟩
  refine List.forall_mem_cons.mpr ⟨⟨(trivial), trivial⟩, ?_⟩
  refine List.forall_mem_cons.mpr ⟨⟨(mj_lkG (by decide) rfl (by decide) mj_inU10 mjf_10_38), trivial⟩, ?_⟩
  refine List.forall_mem_cons.mpr ⟨⟨(trivial), trivial⟩, ?_⟩
  refine List.forall_mem_cons.mpr ⟨⟨(mj_lkG (by decide) rfl (by decide) mj_inU10 mjf_10_23), trivial⟩, ?_⟩
  refine List.forall_mem_cons.mpr ⟨⟨(trivial), trivial⟩, ?_⟩
  refine List.forall_mem_cons.mpr ⟨⟨(trivial), trivial⟩, ?_⟩
  refine List.forall_mem_cons.mpr ⟨⟨(trivial), trivial⟩, ?_⟩
  refine List.forall_mem_cons.mpr ⟨⟨(show (0 : Int) ≤ ((203 : Nat) : Int) + 16 by decide), trivial⟩, ?_⟩
  refine List.forall_mem_cons.mpr ⟨⟨(trivial), trivial⟩, ?_⟩
  refine List.forall_mem_cons.mpr ⟨⟨(mj_lkG (by decide) rfl (by decide) mj_inU10 mjf_10_78), trivial⟩, ?_⟩
  refine List.forall_mem_cons.mpr ⟨⟨(trivial), trivial⟩, ?_⟩
  refine List.forall_mem_cons.mpr ⟨⟨(trivial), trivial⟩, ?_⟩
  refine List.forall_mem_cons.mpr ⟨⟨(trivial), trivial⟩, ?_⟩
  refine List.forall_mem_cons.mpr ⟨⟨(trivial), trivial⟩, ?_⟩
  refine List.forall_mem_cons.mpr ⟨⟨(trivial), trivial⟩, ?_⟩
  refine List.forall_mem_cons.mpr ⟨⟨(trivial), trivial⟩, ?_⟩
  refine List.forall_mem_cons.mpr ⟨⟨(trivial), mj_ckOf mjK_136 (by decide) (mj_lnkG mjl_10_246)⟩, ?_⟩
  refine List.forall_mem_cons.mpr ⟨⟨(trivial), trivial⟩, ?_⟩
  exact fun _ h => absurd h List.not_mem_nil
theorem mjd_131 : mj_ckd 131 = true := by decide +kernel
theorem mjg_131 : mj_good 131 := mj_goodOf (fun _ => ⟨mj_G, rfl⟩) (by decide +kernel) mjd_131 mje_131
theorem mje_132 : ∀ e ∈ mj_tb132, mj_lk 132 e.1 e.2.1 e.2.2.1 e.2.2.2 ∧ mj_cok 132 e.2.1 e.2.2.1 e.2.2.2 := by
  unfold mj_tb132
  refine List.forall_mem_cons.mpr ⟨⟨(trivial), trivial⟩, ?_⟩
  refine List.forall_mem_cons.mpr ⟨⟨(mj_lkG (by decide) rfl (by decide) mj_inU10 mjf_10_108), trivial⟩, ?_⟩
  refine List.forall_mem_cons.mpr ⟨⟨(trivial), trivial⟩, ?_⟩
  refine List.forall_mem_cons.mpr ⟨⟨(trivial), trivial⟩, ?_⟩
  refine List.forall_mem_cons.mpr ⟨⟨(mj_lkG (by decide) rfl (by decide) mj_inU10 mjf_10_209), trivial⟩, ?_⟩
  refine List.forall_mem_cons.mpr ⟨⟨(trivial), trivial⟩, ?_⟩
  refine List.forall_mem_cons.mpr ⟨⟨(mj_lkG (by decide) rfl (by decide) mj_inU10 mjf_10_13), trivial⟩, ?_⟩
  refine List.forall_mem_cons.mpr ⟨⟨(trivial), trivial⟩, ?_⟩
  refine List.forall_mem_cons.mpr ⟨⟨(trivial), trivial⟩, ?_⟩
  refine List.forall_mem_cons.mpr ⟨⟨(trivial), trivial⟩, ?_⟩
  refine List.forall_mem_cons.mpr ⟨⟨(trivial), trivial⟩, ?_⟩
  refine List.forall_mem_cons.mpr ⟨⟨(trivial), trivial⟩, ?_⟩
  refine List.forall_mem_cons.mpr ⟨⟨(mj_lkG (by decide) rfl (by decide) mj_inU10 mjf_10_111), trivial⟩, ?_⟩
  refine List.forall_mem_cons.mpr ⟨⟨(trivial), trivial⟩, ?_⟩
  refine List.forall_mem_cons.mpr ⟨⟨(trivial), trivial⟩, ?_⟩
  refine List.forall_mem_cons.mpr ⟨⟨(mj_lkG (by decide) rfl (by decide) mj_inU10 mjf_10_20), trivial⟩, ?_⟩
  refine List.forall_mem_cons.mpr ⟨⟨(trivial), trivial⟩, ?_⟩
  refine List.forall_mem_cons.mpr ⟨⟨(trivial), trivial⟩, ?_⟩
  refine List.forall_mem_cons.mpr ⟨⟨(show (0 : Int) ≤ ((28 : Nat) : Int) + 14 by decide), trivial⟩, ?_⟩
  refine List.forall_mem_cons.mpr ⟨⟨(trivial), trivial⟩, ?_⟩
  refine List.forall_mem_cons.mpr ⟨⟨(mj_lkG (by decide) rfl (by decide) mj_inU10 mjf_10_111), trivial⟩, ?_⟩
  refine List.forall_mem_cons.mpr ⟨⟨(trivial), trivial⟩, ?_⟩
  refine List.forall_mem_cons.mpr ⟨⟨(trivial), trivial⟩, ?_⟩
  refine List.forall_mem_cons.mpr ⟨⟨(trivial), trivial⟩, ?_⟩
  refine List.forall_mem_cons.mpr ⟨⟨(trivial), trivial⟩, ?_⟩
  refine List.forall_mem_cons.mpr ⟨⟨(show (0 : Int) ≤ ((39 : Nat) : Int) + 4 by decide), trivial⟩, ?_⟩
  refine List.forall_mem_cons.mpr ⟨⟨(trivial), trivial⟩, ?_⟩
  refine List.forall_mem_cons.mpr ⟨⟨(trivial), trivial⟩, ?_⟩
  refine List.forall_mem_cons.mpr ⟨⟨(trivial), trivial⟩, ?_⟩
  refine List.forall_mem_cons.mpr ⟨⟨(mj_lkG (by decide) rfl (by decide) mj_inU10 mjf_10_65), trivial⟩, ?_⟩
  refine List.forall_mem_cons.mpr ⟨⟨(trivial), trivial⟩, ?_⟩
  refine List.forall_mem_cons.mpr ⟨⟨(trivial), trivial⟩, ?_⟩
  refine List.forall_mem_cons.mpr ⟨⟨(show (0 : Int) ≤ ((50 : Nat) : Int) + 31 by decide), trivial⟩, ?_⟩
  refine List.forall_mem_cons.mpr ⟨⟨(trivial), trivial⟩, ?_⟩
  refine List.forall_mem_cons.mpr ⟨⟨(trivial), trivial⟩, ?_⟩
  refine List.forall_mem_cons.mpr ⟨⟨(mj_lkG (by decide) rfl (by decide) mj_inU10 mjf_10_224), trivial⟩, ?_⟩
  refine List.forall_mem_cons.mpr ⟨⟨(trivial), trivial⟩, ?_⟩
  refine List.forall_mem_cons.mpr ⟨⟨(trivial), trivial⟩, ?_⟩
  refine List.forall_mem_cons.mpr ⟨⟨(mj_lkP (by decide) rfl (by decide) mj_inU10 mjf_10_224 mj_TyOk10 mj_Nm10 (Or.inl rfl) rfl), trivial⟩, ?_⟩
  refine List.forall_mem_cons.mpr ⟨⟨(trivial), trivial⟩, ?_⟩
  refine List.forall_mem_cons.mpr ⟨⟨(trivial), trivial⟩, ?_⟩
  refine List.forall_mem_cons.mpr ⟨⟨(trivial), trivial⟩, ?_⟩
  refine List.forall_mem_cons.mpr ⟨⟨(trivial), trivial⟩, ?_⟩
  refine List.forall_mem_cons.mpr ⟨⟨(mj_lkG (by decide) rfl (by decide) mj_inU10 mjf_10_209), trivial⟩, ?_⟩
  refine List.forall_mem_cons.mpr ⟨⟨(trivial), trivial⟩, ?_⟩
  refine List.forall_mem_cons.mpr ⟨⟨(mj_lkG (by decide) rfl (by decide) mj_inU10 mjf_10_72), trivial⟩, ?_⟩
  refine List.forall_mem_cons.mpr ⟨⟨(trivial), trivial⟩, ?_⟩
  refine List.forall_mem_cons.mpr ⟨⟨(trivial), trivial⟩, ?_⟩
  refine List.forall_mem_cons.mpr ⟨⟨(trivial), trivial⟩, ?_⟩
  refine List.forall_mem_cons.mpr ⟨⟨(trivial), mj_ckOf mjK_133 (by decide) (mj_lnkG mjl_10_233)⟩, ?_⟩
  refine List.forall_mem_cons.mpr ⟨⟨(trivial), trivial⟩, ?_⟩
  refine List.forall_mem_cons.mpr ⟨⟨(trivial), trivial⟩, ?_⟩
  refine List.forall_mem_cons.mpr ⟨⟨(mj_lkG (by decide) rfl (by decide) mj_inU10 mjf_10_65), trivial⟩, ?_⟩
  refine List.forall_mem_cons.mpr ⟨⟨(trivial), trivial⟩, ?_⟩
  refine List.forall_mem_cons.mpr ⟨⟨(trivial), trivial⟩, ?_⟩
  refine List.forall_mem_cons.mpr ⟨⟨(trivial), trivial⟩, ?_⟩
  refine List.forall_mem_cons.mpr ⟨⟨(trivial), trivial⟩, ?_⟩
  refine List.forall_mem_cons.mpr ⟨⟨(mj_lkG (by decide) rfl (by decide) mj_inU10 mjf_10_69), trivial⟩, ?_⟩
  refine List.forall_mem_cons.mpr ⟨⟨(trivial), trivial⟩, ?_⟩
  refine List.forall_mem_cons.mpr ⟨⟨(trivial), trivial⟩, ?_⟩
  refine List.forall_mem_cons.mpr ⟨⟨(trivial), trivial⟩, ?_⟩
  refine List.forall_mem_cons.mpr ⟨⟨(trivial), trivial⟩, ?_⟩
  refine List.forall_mem_cons.mpr ⟨⟨(mj_lkG (by decide) rfl (by decide) mj_inU10 mjf_10_72), trivial⟩, ?_⟩
  refine List.forall_mem_cons.mpr ⟨⟨(trivial), trivial⟩, ?_⟩
  refine List.forall_mem_cons.mpr ⟨⟨(trivial), trivial⟩, ?_⟩
  refine List.forall_mem_cons.mpr ⟨⟨(mj_lkG (by decide) rfl (by decide) mj_inU10 mjf_10_209), trivial⟩, ?_⟩
  refine List.forall_mem_cons.mpr ⟨⟨(trivial), trivial⟩, ?_⟩
  refine List.forall_mem_cons.mpr ⟨⟨(trivial), trivial⟩, ?_⟩
  refine List.forall_mem_cons.mpr ⟨⟨(mj_lkG (by decide) rfl (by decide) mj_inU10 mjf_10_78), trivial⟩, ?_⟩
  refine List.forall_mem_cons.mpr ⟨⟨(trivial), trivial⟩, ?_⟩
  refine List.forall_mem_cons.mpr ⟨⟨(trivial), trivial⟩, ?_⟩
  refine List.forall_mem_cons.mpr ⟨⟨(trivial), trivial⟩, ?_⟩
  refine List.forall_mem_cons.mpr ⟨⟨(trivial), trivial⟩, ?_⟩
  refine List.forall_mem_cons.mpr ⟨⟨(mj_lkG (by decide) rfl (by decide) mj_inU10 mjf_10_81), trivial⟩, ?_⟩
  refine List.forall_mem_cons.mpr ⟨⟨(trivial), trivial⟩, ?_⟩
  refine List.forall_mem_cons.mpr ⟨⟨(trivial), trivial⟩, ?_⟩
  refine List.forall_mem_cons.mpr ⟨⟨(trivial), trivial⟩, ?_⟩
  refine List.forall_mem_cons.mpr ⟨⟨(trivial), trivial⟩, ?_⟩
  refine List.forall_mem_cons.mpr ⟨⟨(mj_lkG (by decide) rfl (by decide) mj_inU10 mjf_10_84), trivial⟩, ?_⟩
  refine List.forall_mem_cons.mpr ⟨⟨(trivial), trivial⟩, ?_⟩
  refine List.forall_mem_cons.mpr ⟨⟨(trivial), trivial⟩, ?_⟩
  refine List.forall_mem_cons.mpr ⟨⟨(trivial), trivial⟩, ?_⟩
  refine List.forall_mem_cons.mpr ⟨⟨(trivial), trivial⟩, ?_⟩
  refine List.forall_mem_cons.mpr ⟨⟨(mj_lkG (by decide) rfl (by decide) mj_inU10 mjf_10_87), trivial⟩, ?_⟩
  refine List.forall_mem_cons.mpr ⟨⟨(trivial), trivial⟩, ?_⟩
  refine List.forall_mem_cons.mpr ⟨⟨(trivial), trivial⟩, ?_⟩
  refine List.forall_mem_cons.mpr ⟨⟨(trivial), trivial⟩, ?_⟩
  refine List.forall_mem_cons.mpr ⟨⟨(trivial), trivial⟩, ?_⟩
  refine List.forall_mem_cons.mpr ⟨⟨(mj_lkG (by decide) rfl (by decide) mj_inU10 mjf_10_90), trivial⟩, ?_⟩
  refine List.forall_mem_cons.mpr ⟨⟨(trivial), trivial⟩, ?_⟩
  refine List.forall_mem_cons.mpr ⟨⟨(trivial), trivial⟩, ?_⟩
  refine List.forall_mem_cons.mpr ⟨⟨(trivial), trivial⟩, ?_⟩
  refine List.forall_mem_cons.mpr ⟨⟨(trivial), trivial⟩, ?_⟩
  refine List.forall_mem_cons.mpr ⟨⟨(show (2 : Nat) < mj_maxL 132 by decide), trivial⟩, ?_⟩
  refine List.forall_mem_cons.mpr ⟨⟨(trivial), trivial⟩, ?_⟩
  refine List.forall_mem_cons.mpr ⟨⟨(trivial), trivial⟩, ?_⟩
  refine List.forall_mem_cons.mpr ⟨⟨(show (0 : Int) ≤ ((144 : Nat) : Int) + 20 by decide), trivial⟩, ?_⟩
  refine List.forall_mem_cons.mpr ⟨⟨(trivial), trivial⟩, ?_⟩
  refine List.forall_mem_cons.mpr ⟨⟨(mj_lkG (by decide) rfl (by decide) mj_inU10 mjf_10_102), trivial⟩, ?_⟩
  refine List.forall_mem_cons.mpr ⟨⟨(trivial), trivial⟩, ?_⟩
  refine List.forall_mem_cons.mpr ⟨⟨(trivial), trivial⟩, ?_⟩
  refine List.forall_mem_cons.mpr ⟨⟨(trivial), trivial⟩, ?_⟩
  refine List.forall_mem_cons.mpr ⟨⟨(trivial), trivial⟩, ?_⟩
  refine List.forall_mem_cons.mpr ⟨⟨(trivial), trivial⟩, ?_⟩
  refine List.forall_mem_cons.mpr ⟨⟨(trivial), trivial⟩, ?_⟩
  refine List.forall_mem_cons.mpr ⟨⟨(trivial), trivial⟩, ?_⟩
  refine List.forall_mem_cons.mpr ⟨⟨(show (2 : Nat) < mj_maxL 132 by decide), trivial⟩, ?_⟩
  refine List.forall_mem_cons.mpr ⟨⟨(show (0 : Int) ≤ ((161 : Nat) : Int) + (-19) by decide), trivial⟩, ?_⟩
  refine List.forall_mem_cons.mpr ⟨⟨(trivial), trivial⟩, ?_⟩
  exact fun _ h => absurd h List.not_mem_nil
theorem mjd_132 : mj_ckd 132 = true := by decide +kernel
theorem mjg_132 : mj_good 132 := mj_goodOf (fun _ => ⟨mj_G, rfl⟩) (by decide +kernel) mjd_132 mje_132
theorem mje_133 : ∀ e ∈ mj_tb133, mj_lk 133 e.1 e.2.1 e.2.2.1 e.2.2.2 ∧ mj_cok 133 e.2.1 e.2.2.1 e.2.2.2 := by
  unfold mj_tb133
  refine List.forall_mem_cons.mpr ⟨⟨(trivial), trivial⟩, ?_⟩
  refine List.forall_mem_cons.mpr ⟨⟨(mj_lkG (by decide) rfl (by decide) mj_inU10 mjf_10_230), trivial⟩, ?_⟩
  refine List.forall_mem_cons.mpr ⟨⟨(trivial), trivial⟩, ?_⟩
  refine List.forall_mem_cons.mpr ⟨⟨(trivial), trivial⟩, ?_⟩
  refine List.forall_mem_cons.mpr ⟨⟨(show (4 : Nat) < mj_maxL 133 by decide), trivial⟩, ?_⟩
  refine List.forall_mem_cons.mpr ⟨⟨(trivial), trivial⟩, ?_⟩
  refine List.forall_mem_cons.mpr ⟨⟨(mj_lkG (by decide) rfl (by decide) mj_inU10 mjf_10_126), trivial⟩, ?_⟩
  refine List.forall_mem_cons.mpr ⟨⟨(trivial), trivial⟩, ?_⟩
  refine List.forall_mem_cons.mpr ⟨⟨(trivial), trivial⟩, ?_⟩
  refine List.forall_mem_cons.mpr ⟨⟨(trivial), trivial⟩, ?_⟩
  refine List.forall_mem_cons.mpr ⟨⟨(trivial), trivial⟩, ?_⟩
  refine List.forall_mem_cons.mpr ⟨⟨(mj_lkG (by decide) rfl (by decide) mj_inU10 mjf_10_129), trivial⟩, ?_⟩
  refine List.forall_mem_cons.mpr ⟨⟨(trivial), trivial⟩, ?_⟩
  refine List.forall_mem_cons.mpr ⟨⟨(trivial), trivial⟩, ?_⟩
  refine List.forall_mem_cons.mpr ⟨⟨(trivial), trivial⟩, ?_⟩
  refine List.forall_mem_cons.mpr ⟨⟨(trivial), trivial⟩, ?_⟩
  refine List.forall_mem_cons.mpr ⟨⟨(mj_lkG (by decide) rfl (by decide) mj_inU10 mjf_10_132), trivial⟩, ?_⟩
  refine List.forall_mem_cons.mpr ⟨⟨(trivial), trivial⟩, ?_⟩
  refine List.forall_mem_cons.mpr ⟨⟨(trivial), trivial⟩, ?_⟩
  refine List.forall_mem_cons.mpr ⟨⟨(mj_lkG (by decide) rfl (by decide) mj_inU10 mjf_10_209), trivial⟩, ?_⟩
  refine List.forall_mem_cons.mpr ⟨⟨(trivial), trivial⟩, ?_⟩
  refine List.forall_mem_cons.mpr ⟨⟨(trivial), trivial⟩, ?_⟩
  refine List.forall_mem_cons.mpr ⟨⟨(mj_lkG (by decide) rfl (by decide) mj_inU10 mjf_10_135), trivial⟩, ?_⟩
  refine List.forall_mem_cons.mpr ⟨⟨(trivial), trivial⟩, ?_⟩
  refine List.forall_mem_cons.mpr ⟨⟨(trivial), trivial⟩, ?_⟩
  refine List.forall_mem_cons.mpr ⟨⟨(trivial), trivial⟩, ?_⟩
  refine List.forall_mem_cons.mpr ⟨⟨(trivial), trivial⟩, ?_⟩
  refine List.forall_mem_cons.mpr ⟨⟨(trivial), trivial⟩, ?_⟩
  refine List.forall_mem_cons.mpr ⟨⟨(mj_lkG (by decide) rfl (by decide) mj_inU10 mjf_10_230), trivial⟩, ?_⟩
  refine List.forall_mem_cons.mpr ⟨⟨(trivial), trivial⟩, ?_⟩
  refine List.forall_mem_cons.mpr ⟨⟨(trivial), trivial⟩, ?_⟩
  refine List.forall_mem_cons.mpr ⟨⟨(mj_lkP (by decide) rfl (by decide) mj_inU10 mjf_10_230 mj_TyOk10 mj_Nm10 (Or.inl rfl) rfl), trivial⟩, ?_⟩
  refine List.forall_mem_cons.mpr ⟨⟨(trivial), trivial⟩, ?_⟩
  exact fun _ h => absurd h List.not_mem_nil
theorem mjd_133 : mj_ckd 133 = true := by decide +kernel
theorem mjg_133 : mj_good 133 := mj_goodOf (fun _ => ⟨mj_G, rfl⟩) (by decide +kernel) mjd_133 mje_133
theorem mje_134 : ∀ e ∈ mj_tb134, mj_lk 134 e.1 e.2.1 e.2.2.1 e.2.2.2 ∧ mj_cok 134 e.2.1 e.2.2.1 e.2.2.2 := by
  unfold mj_tb134
  refine List.forall_mem_cons.mpr ⟨⟨(trivial), trivial⟩, ?_⟩
  refine List.forall_mem_cons.mpr ⟨⟨(show (1 : Nat) < mj_maxL 134 by decide), trivial⟩, ?_⟩
  refine List.forall_mem_cons.mpr ⟨⟨(trivial), trivial⟩, ?_⟩
  refine List.forall_mem_cons.mpr ⟨⟨(show (2 : Nat) < mj_maxL 134 by decide), trivial⟩, ?_⟩
  refine List.forall_mem_cons.mpr ⟨⟨(trivial), trivial⟩, ?_⟩
  refine List.forall_mem_cons.mpr ⟨⟨(trivial), trivial⟩, ?_⟩
  refine List.forall_mem_cons.mpr ⟨⟨(mj_lkG (by decide) rfl (by decide) mj_inU10 mjf_10_138), trivial⟩, ?_⟩
  refine List.forall_mem_cons.mpr ⟨⟨(show (0 : Int) ≤ ((9 : Nat) : Int) + 76 by decide), trivial⟩, ?_⟩
  refine List.forall_mem_cons.mpr ⟨⟨(trivial), trivial⟩, ?_⟩
  refine List.forall_mem_cons.mpr ⟨⟨(mj_lkG (by decide) rfl (by decide) mj_inU10 mjf_10_65), trivial⟩, ?_⟩
  refine List.forall_mem_cons.mpr ⟨⟨(trivial), trivial⟩, ?_⟩
  refine List.forall_mem_cons.mpr ⟨⟨(trivial), trivial⟩, ?_⟩
  refine List.forall_mem_cons.mpr ⟨⟨(show (0 : Int) ≤ ((18 : Nat) : Int) + 61 by decide), trivial⟩, ?_⟩
  refine List.forall_mem_cons.mpr ⟨⟨(trivial), trivial⟩, ?_⟩
  refine List.forall_mem_cons.mpr ⟨⟨(trivial), trivial⟩, ?_⟩
  refine List.forall_mem_cons.mpr ⟨⟨(trivial), mj_ckOf mjK_135 (by decide) (mj_lnkG mjl_10_237)⟩, ?_⟩
  refine List.forall_mem_cons.mpr ⟨⟨(show (3 : Nat) < mj_maxL 134 by decide), trivial⟩, ?_⟩
  refine List.forall_mem_cons.mpr ⟨⟨(trivial), trivial⟩, ?_⟩
  refine List.forall_mem_cons.mpr ⟨⟨(show (0 : Int) ≤ ((28 : Nat) : Int) + 8 by decide), trivial⟩, ?_⟩
  refine List.forall_mem_cons.mpr ⟨⟨(trivial), trivial⟩, ?_⟩
  refine List.forall_mem_cons.mpr ⟨⟨(show (0 : Int) ≤ ((33 : Nat) : Int) + 8 by decide), trivial⟩, ?_⟩
  refine List.forall_mem_cons.mpr ⟨⟨(trivial), trivial⟩, ?_⟩
  refine List.forall_mem_cons.mpr ⟨⟨(trivial), trivial⟩, ?_⟩
  refine List.forall_mem_cons.mpr ⟨⟨(trivial), mj_ckOf mjK_135 (by decide) (mj_lnkG mjl_10_237)⟩, ?_⟩
  refine List.forall_mem_cons.mpr ⟨⟨(show (4 : Nat) < mj_maxL 134 by decide), trivial⟩, ?_⟩
  refine List.forall_mem_cons.mpr ⟨⟨(trivial), trivial⟩, ?_⟩
  refine List.forall_mem_cons.mpr ⟨⟨(trivial), trivial⟩, ?_⟩
  refine List.forall_mem_cons.mpr ⟨⟨(show (0 : Int) ≤ ((46 : Nat) : Int) + 27 by decide), trivial⟩, ?_⟩
  refine List.forall_mem_cons.mpr ⟨⟨(trivial), trivial⟩, ?_⟩
  refine List.forall_mem_cons.mpr ⟨⟨(trivial), trivial⟩, ?_⟩
  refine List.forall_mem_cons.mpr ⟨⟨(show (0 : Int) ≤ ((52 : Nat) : Int) + 25 by decide), trivial⟩, ?_⟩
  refine List.forall_mem_cons.mpr ⟨⟨(trivial), trivial⟩, ?_⟩
  refine List.forall_mem_cons.mpr ⟨⟨(mj_lkG (by decide) rfl (by decide) mj_inU10 mjf_10_69), trivial⟩, ?_⟩
  refine List.forall_mem_cons.mpr ⟨⟨(trivial), trivial⟩, ?_⟩
  refine List.forall_mem_cons.mpr ⟨⟨(trivial), trivial⟩, ?_⟩
  refine List.forall_mem_cons.mpr ⟨⟨(show (0 : Int) ≤ ((61 : Nat) : Int) + 16 by decide), trivial⟩, ?_⟩
  refine List.forall_mem_cons.mpr ⟨⟨(trivial), trivial⟩, ?_⟩
  refine List.forall_mem_cons.mpr ⟨⟨(mj_lkG (by decide) rfl (by decide) mj_inU10 mjf_10_69), trivial⟩, ?_⟩
  refine List.forall_mem_cons.mpr ⟨⟨(trivial), trivial⟩, ?_⟩
  refine List.forall_mem_cons.mpr ⟨⟨(trivial), trivial⟩, ?_⟩
  refine List.forall_mem_cons.mpr ⟨⟨(show (0 : Int) ≤ ((70 : Nat) : Int) + 7 by decide), trivial⟩, ?_⟩
  refine List.forall_mem_cons.mpr ⟨⟨(trivial), trivial⟩, ?_⟩
  refine List.forall_mem_cons.mpr ⟨⟨(show (0 : Int) ≤ ((74 : Nat) : Int) + 4 by decide), trivial⟩, ?_⟩
  refine List.forall_mem_cons.mpr ⟨⟨(trivial), trivial⟩, ?_⟩
  refine List.forall_mem_cons.mpr ⟨⟨(show (1 : Nat) < mj_maxL 134 by decide), trivial⟩, ?_⟩
  refine List.forall_mem_cons.mpr ⟨⟨(show (2 : Nat) < mj_maxL 134 by decide), trivial⟩, ?_⟩
  refine List.forall_mem_cons.mpr ⟨⟨(show (0 : Int) ≤ ((82 : Nat) : Int) + (-78) by decide), trivial⟩, ?_⟩
  refine List.forall_mem_cons.mpr ⟨⟨(trivial), trivial⟩, ?_⟩
  refine List.forall_mem_cons.mpr ⟨⟨(trivial), trivial⟩, ?_⟩
  exact fun _ h => absurd h List.not_mem_nil
theorem mjd_134 : mj_ckd 134 = true := by decide +kernel
theorem mjg_134 : mj_good 134 := mj_goodOf (fun _ => ⟨mj_G, rfl⟩) (by decide +kernel) mjd_134 mje_134
theorem mje_135 : ∀ e ∈ mj_tb135, mj_lk 135 e.1 e.2.1 e.2.2.1 e.2.2.2 ∧ mj_cok 135 e.2.1 e.2.2.1 e.2.2.2 := by
  unfold mj_tb135
  refine List.forall_mem_cons.mpr ⟨⟨(trivial), trivial⟩, ?_⟩
  refine List.forall_mem_cons.mpr ⟨⟨(show (2 : Nat) < mj_maxL 135 by decide), trivial⟩, ?_⟩
  refine List.forall_mem_cons.mpr ⟨⟨(trivial), trivial⟩, ?_⟩
  refine List.forall_mem_cons.mpr ⟨⟨(show (3 : Nat) < mj_maxL 135 by decide), trivial⟩, ?_⟩
  refine List.forall_mem_cons.mpr ⟨⟨(trivial), trivial⟩, ?_⟩
  refine List.forall_mem_cons.mpr ⟨⟨(trivial), trivial⟩, ?_⟩
  refine List.forall_mem_cons.mpr ⟨⟨(show (0 : Int) ≤ ((6 : Nat) : Int) + 44 by decide), trivial⟩, ?_⟩
  refine List.forall_mem_cons.mpr ⟨⟨(trivial), trivial⟩, ?_⟩
  refine List.forall_mem_cons.mpr ⟨⟨(mj_lkG (by decide) rfl (by decide) mj_inU10 mjf_10_84), trivial⟩, ?_⟩
  refine List.forall_mem_cons.mpr ⟨⟨(trivial), trivial⟩, ?_⟩
  refine List.forall_mem_cons.mpr ⟨⟨(trivial), trivial⟩, ?_⟩
  refine List.forall_mem_cons.mpr ⟨⟨(trivial), trivial⟩, ?_⟩
  refine List.forall_mem_cons.mpr ⟨⟨(trivial), trivial⟩, ?_⟩
  refine List.forall_mem_cons.mpr ⟨⟨(trivial), trivial⟩, ?_⟩
  refine List.forall_mem_cons.mpr ⟨⟨(trivial), trivial⟩, ?_⟩
  refine List.forall_mem_cons.mpr ⟨⟨(trivial), trivial⟩, ?_⟩
  refine List.forall_mem_cons.mpr ⟨⟨(show (0 : Int) ≤ ((20 : Nat) : Int) + 22 by decide), trivial⟩, ?_⟩
  refine List.forall_mem_cons.mpr ⟨⟨(trivial), trivial⟩, ?_⟩
  refine List.forall_mem_cons.mpr ⟨⟨(mj_lkG (by decide) rfl (by decide) mj_inU10 mjf_10_62), trivial⟩, ?_⟩
  refine List.forall_mem_cons.mpr ⟨⟨(trivial), trivial⟩, ?_⟩
  refine List.forall_mem_cons.mpr ⟨⟨(trivial), trivial⟩, ?_⟩
  refine List.forall_mem_cons.mpr ⟨⟨(trivial), trivial⟩, ?_⟩
  refine List.forall_mem_cons.mpr ⟨⟨(show (0 : Int) ≤ ((30 : Nat) : Int) + 12 by decide), trivial⟩, ?_⟩
  refine List.forall_mem_cons.mpr ⟨⟨(trivial), trivial⟩, ?_⟩
  refine List.forall_mem_cons.mpr ⟨⟨(mj_lkG (by decide) rfl (by decide) mj_inU10 mjf_10_62), trivial⟩, ?_⟩
  refine List.forall_mem_cons.mpr ⟨⟨(trivial), trivial⟩, ?_⟩
  refine List.forall_mem_cons.mpr ⟨⟨(trivial), trivial⟩, ?_⟩
  refine List.forall_mem_cons.mpr ⟨⟨(show (0 : Int) ≤ ((39 : Nat) : Int) + 4 by decide), trivial⟩, ?_⟩
  refine List.forall_mem_cons.mpr ⟨⟨(trivial), trivial⟩, ?_⟩
  refine List.forall_mem_cons.mpr ⟨⟨(show (2 : Nat) < mj_maxL 135 by decide), trivial⟩, ?_⟩
  refine List.forall_mem_cons.mpr ⟨⟨(show (3 : Nat) < mj_maxL 135 by decide), trivial⟩, ?_⟩
  refine List.forall_mem_cons.mpr ⟨⟨(show (0 : Int) ≤ ((47 : Nat) : Int) + (-43) by decide), trivial⟩, ?_⟩
  refine List.forall_mem_cons.mpr ⟨⟨(trivial), trivial⟩, ?_⟩
  refine List.forall_mem_cons.mpr ⟨⟨(trivial), trivial⟩, ?_⟩
  exact fun _ h => absurd h List.not_mem_nil
theorem mjd_135 : mj_ckd 135 = true := by decide +kernel
theorem mjg_135 : mj_good 135 := mj_goodOf (fun _ => ⟨mj_G, rfl⟩) (by decide +kernel) mjd_135 mje_135
theorem mje_136 : ∀ e ∈ mj_tb136, mj_lk 136 e.1 e.2.1 e.2.2.1 e.2.2.2 ∧ mj_cok 136 e.2.1 e.2.2.1 e.2.2.2 := by
  unfold mj_tb136
  refine List.forall_mem_cons.mpr ⟨⟨(trivial), trivial⟩, ?_⟩
  refine List.forall_mem_cons.mpr ⟨⟨(mj_lkG (by decide) rfl (by decide) mj_inU10 mjf_10_23), trivial⟩, ?_⟩
  refine List.forall_mem_cons.mpr ⟨⟨(trivial), trivial⟩, ?_⟩
  refine List.forall_mem_cons.mpr ⟨⟨(trivial), trivial⟩, ?_⟩
  refine List.forall_mem_cons.mpr ⟨⟨(show (3 : Nat) < mj_maxL 136 by decide), trivial⟩, ?_⟩
  refine List.forall_mem_cons.mpr ⟨⟨(trivial), trivial⟩, ?_⟩
  refine List.forall_mem_cons.mpr ⟨⟨(mj_lkG (by decide) rfl (by decide) mj_inU10 mjf_10_29), trivial⟩, ?_⟩
  refine List.forall_mem_cons.mpr ⟨⟨(trivial), trivial⟩, ?_⟩
  refine List.forall_mem_cons.mpr ⟨⟨(trivial), trivial⟩, ?_⟩
  refine List.forall_mem_cons.mpr ⟨⟨(show (4 : Nat) < mj_maxL 136 by decide), trivial⟩, ?_⟩
  refine List.forall_mem_cons.mpr ⟨⟨(trivial), trivial⟩, ?_⟩
  refine List.forall_mem_cons.mpr ⟨⟨(trivial), trivial⟩, ?_⟩
  refine List.forall_mem_cons.mpr ⟨⟨(trivial), trivial⟩, ?_⟩
  refine List.forall_mem_cons.mpr ⟨⟨(trivial), trivial⟩, ?_⟩
  refine List.forall_mem_cons.mpr ⟨⟨(mj_lkG (by decide) rfl (by decide) mj_inU10 mjf_10_26), trivial⟩, ?_⟩
  refine List.forall_mem_cons.mpr ⟨⟨(trivial), trivial⟩, ?_⟩
  refine List.forall_mem_cons.mpr ⟨⟨(trivial), trivial⟩, ?_⟩
  refine List.forall_mem_cons.mpr ⟨⟨(trivial), trivial⟩, ?_⟩
  refine List.forall_mem_cons.mpr ⟨⟨(show (5 : Nat) < mj_maxL 136 by decide), trivial⟩, ?_⟩
  refine List.forall_mem_cons.mpr ⟨⟨(trivial), trivial⟩, ?_⟩
  refine List.forall_mem_cons.mpr ⟨⟨(mj_lkG (by decide) rfl (by decide) mj_inU10 mjf_10_81), trivial⟩, ?_⟩
  refine List.forall_mem_cons.mpr ⟨⟨(trivial), trivial⟩, ?_⟩
  refine List.forall_mem_cons.mpr ⟨⟨(trivial), trivial⟩, ?_⟩
  refine List.forall_mem_cons.mpr ⟨⟨(trivial), trivial⟩, ?_⟩
  refine List.forall_mem_cons.mpr ⟨⟨(trivial), trivial⟩, ?_⟩
  refine List.forall_mem_cons.mpr ⟨⟨(trivial), trivial⟩, ?_⟩
  refine List.forall_mem_cons.mpr ⟨⟨(trivial), trivial⟩, ?_⟩
  refine List.forall_mem_cons.mpr ⟨⟨(trivial), trivial⟩, ?_⟩
  refine List.forall_mem_cons.mpr ⟨⟨(mj_lkG (by decide) rfl (by decide) mj_inU10 mjf_10_90), trivial⟩, ?_⟩
  refine List.forall_mem_cons.mpr ⟨⟨(trivial), trivial⟩, ?_⟩
  refine List.forall_mem_cons.mpr ⟨⟨(trivial), trivial⟩, ?_⟩
  refine List.forall_mem_cons.mpr ⟨⟨(trivial), trivial⟩, ?_⟩
  refine List.forall_mem_cons.mpr ⟨⟨(trivial), trivial⟩, ?_⟩
  refine List.forall_mem_cons.mpr ⟨⟨(trivial), trivial⟩, ?_⟩
  refine List.forall_mem_cons.mpr ⟨⟨(trivial), trivial⟩, ?_⟩
  refine List.forall_mem_cons.mpr ⟨⟨(trivial), trivial⟩, ?_⟩
  refine List.forall_mem_cons.mpr ⟨⟨(trivial), trivial⟩, ?_⟩
  refine List.forall_mem_cons.mpr ⟨⟨(show (0 : Int) ≤ ((49 : Nat) : Int) + 24 by decide), trivial⟩, ?_⟩
  refine List.forall_mem_cons.mpr ⟨⟨(trivial), trivial⟩, ?_⟩
  refine List.forall_mem_cons.mpr ⟨⟨(mj_lkG (by decide) rfl (by decide) mj_inU10 mjf_10_102), trivial⟩, ?_⟩
  refine List.forall_mem_cons.mpr ⟨⟨(trivial), trivial⟩, ?_⟩
  refine List.forall_mem_cons.mpr ⟨⟨(trivial), trivial⟩, ?_⟩
  refine List.forall_mem_cons.mpr ⟨⟨(trivial), trivial⟩, ?_⟩
  refine List.forall_mem_cons.mpr ⟨⟨(trivial), trivial⟩, ?_⟩
  refine List.forall_mem_cons.mpr ⟨⟨(trivial), trivial⟩, ?_⟩
  refine List.forall_mem_cons.mpr ⟨⟨(trivial), trivial⟩, ?_⟩
  refine List.forall_mem_cons.mpr ⟨⟨(show (0 : Int) ≤ ((63 : Nat) : Int) + 10 by decide), trivial⟩, ?_⟩
  refine List.forall_mem_cons.mpr ⟨⟨(trivial), trivial⟩, ?_⟩
  refine List.forall_mem_cons.mpr ⟨⟨(trivial), trivial⟩, ?_⟩
  refine List.forall_mem_cons.mpr ⟨⟨(trivial), trivial⟩, ?_⟩
  refine List.forall_mem_cons.mpr ⟨⟨(trivial), mj_ckOf mjK_137 (by decide) (mj_lnkG mjl_10_250)⟩, ?_⟩
  refine List.forall_mem_cons.mpr ⟨⟨(trivial), trivial⟩, ?_⟩
  refine List.forall_mem_cons.mpr ⟨⟨(trivial), trivial⟩, ?_⟩
  refine List.forall_mem_cons.mpr ⟨⟨(trivial), trivial⟩, ?_⟩
  refine List.forall_mem_cons.mpr ⟨⟨(show (0 : Int) ≤ ((75 : Nat) : Int) + 15 by decide), trivial⟩, ?_⟩
  refine List.forall_mem_cons.mpr ⟨⟨(trivial), trivial⟩, ?_⟩
  refine List.forall_mem_cons.mpr ⟨⟨(trivial), trivial⟩, ?_⟩
  refine List.forall_mem_cons.mpr ⟨⟨(show (0 : Int) ≤ ((81 : Nat) : Int) + 9 by decide), trivial⟩, ?_⟩
  refine List.forall_mem_cons.mpr ⟨⟨(trivial), trivial⟩, ?_⟩
  refine List.forall_mem_cons.mpr ⟨⟨(trivial), trivial⟩, ?_⟩
  refine List.forall_mem_cons.mpr ⟨⟨(show (0 : Int) ≤ ((87 : Nat) : Int) + 16 by decide), trivial⟩, ?_⟩
  refine List.forall_mem_cons.mpr ⟨⟨(trivial), trivial⟩, ?_⟩
  refine List.forall_mem_cons.mpr ⟨⟨(trivial), trivial⟩, ?_⟩
  refine List.forall_mem_cons.mpr ⟨⟨(trivial), trivial⟩, ?_⟩
  refine List.forall_mem_cons.mpr ⟨⟨(trivial), trivial⟩, ?_⟩
  refine List.forall_mem_cons.mpr ⟨⟨(trivial), trivial⟩, ?_⟩
  refine List.forall_mem_cons.mpr ⟨⟨(trivial), mj_ckOf mjK_138 (by decide) (mj_lnkG mjl_10_253)⟩, ?_⟩
  refine List.forall_mem_cons.mpr ⟨⟨(show (0 : Int) ≤ ((100 : Nat) : Int) + 31 by decide), trivial⟩, ?_⟩
  refine List.forall_mem_cons.mpr ⟨⟨(trivial), trivial⟩, ?_⟩
  refine List.forall_mem_cons.mpr ⟨⟨(trivial), trivial⟩, ?_⟩
  refine List.forall_mem_cons.mpr ⟨⟨(show (0 : Int) ≤ ((106 : Nat) : Int) + 16 by decide), trivial⟩, ?_⟩
  refine List.forall_mem_cons.mpr ⟨⟨(trivial), trivial⟩, ?_⟩
  refine List.forall_mem_cons.mpr ⟨⟨(trivial), trivial⟩, ?_⟩
  refine List.forall_mem_cons.mpr ⟨⟨(trivial), trivial⟩, ?_⟩
  refine List.forall_mem_cons.mpr ⟨⟨(trivial), trivial⟩, ?_⟩
  refine List.forall_mem_cons.mpr ⟨⟨(trivial), trivial⟩, ?_⟩
  refine List.forall_mem_cons.mpr ⟨⟨(trivial), mj_ckOf mjK_139 (by decide) (mj_lnkG mjl_10_257)⟩, ?_⟩
  refine List.forall_mem_cons.mpr ⟨⟨(show (0 : Int) ≤ ((119 : Nat) : Int) + 12 by decide), trivial⟩, ?_⟩
  refine List.forall_mem_cons.mpr ⟨⟨(trivial), trivial⟩, ?_⟩
  refine List.forall_mem_cons.mpr ⟨⟨(trivial), trivial⟩, ?_⟩
  refine List.forall_mem_cons.mpr ⟨⟨(trivial), trivial⟩, ?_⟩
  refine List.forall_mem_cons.mpr ⟨⟨(trivial), trivial⟩, ?_⟩
  refine List.forall_mem_cons.mpr ⟨⟨(trivial), trivial⟩, ?_⟩
  refine List.forall_mem_cons.mpr ⟨⟨(trivial), mj_ckOf mjK_140 (by decide) (mj_lnkG mjl_10_260)⟩, ?_⟩
  refine List.forall_mem_cons.mpr ⟨⟨(trivial), trivial⟩, ?_⟩
  refine List.forall_mem_cons.mpr ⟨⟨(show (6 : Nat) < mj_maxL 136 by decide), trivial⟩, ?_⟩
  refine List.forall_mem_cons.mpr ⟨⟨(trivial), trivial⟩, ?_⟩
  refine List.forall_mem_cons.mpr ⟨⟨(trivial), trivial⟩, ?_⟩
  refine List.forall_mem_cons.mpr ⟨⟨(show (0 : Int) ≤ ((137 : Nat) : Int) + 80 by decide), trivial⟩, ?_⟩
  refine List.forall_mem_cons.mpr ⟨⟨(trivial), trivial⟩, ?_⟩
  refine List.forall_mem_cons.mpr ⟨⟨(mj_lkG (by decide) rfl (by decide) mj_inU10 mjf_10_87), trivial⟩, ?_⟩
  refine List.forall_mem_cons.mpr ⟨⟨(trivial), trivial⟩, ?_⟩
  refine List.forall_mem_cons.mpr ⟨⟨(trivial), trivial⟩, ?_⟩
  refine List.forall_mem_cons.mpr ⟨⟨(show (0 : Int) ≤ ((146 : Nat) : Int) + 71 by decide), trivial⟩, ?_⟩
  refine List.forall_mem_cons.mpr ⟨⟨(trivial), trivial⟩, ?_⟩
  refine List.forall_mem_cons.mpr ⟨⟨(mj_lkG (by decide) rfl (by decide) mj_inU10 mjf_10_90), trivial⟩, ?_⟩
  refine List.forall_mem_cons.mpr ⟨⟨(trivial), trivial⟩, ?_⟩
  refine List.forall_mem_cons.mpr ⟨⟨(trivial), trivial⟩, ?_⟩
  refine List.forall_mem_cons.mpr ⟨⟨(trivial), trivial⟩, ?_⟩
  refine List.forall_mem_cons.mpr ⟨⟨(mj_lkG (by decide) rfl (by decide) mj_inU10 mjf_10_35), trivial⟩, ?_⟩
  refine List.forall_mem_cons.mpr ⟨⟨(trivial), trivial⟩, ?_⟩
  refine List.forall_mem_cons.mpr ⟨⟨(trivial), trivial⟩, ?_⟩
  refine List.forall_mem_cons.mpr ⟨⟨(trivial), trivial⟩, ?_⟩
  refine List.forall_mem_cons.mpr ⟨⟨(trivial), trivial⟩, ?_⟩
  refine List.forall_mem_cons.mpr ⟨⟨(mj_lkG (by decide) rfl (by decide) mj_inU10 mjf_10_87), trivial⟩, ?_⟩
  refine List.forall_mem_cons.mpr ⟨⟨(trivial), trivial⟩, ?_⟩
  refine List.forall_mem_cons.mpr ⟨⟨(trivial), trivial⟩, ?_⟩
  refine List.forall_mem_cons.mpr ⟨⟨(trivial), trivial⟩, ?_⟩
  refine List.forall_mem_cons.mpr ⟨⟨(trivial), trivial⟩, ?_⟩
  refine List.forall_mem_cons.mpr ⟨⟨(show (0 : Int) ≤ ((170 : Nat) : Int) + 47 by decide), trivial⟩, ?_⟩
  refine List.forall_mem_cons.mpr ⟨⟨(trivial), trivial⟩, ?_⟩
  refine List.forall_mem_cons.mpr ⟨⟨(trivial), trivial⟩, ?_⟩
  refine List.forall_mem_cons.mpr ⟨⟨(trivial), trivial⟩, ?_⟩
  refine List.forall_mem_cons.mpr ⟨⟨(trivial), trivial⟩, ?_⟩
  refine List.forall_mem_cons.mpr ⟨⟨(mj_lkG (by decide) rfl (by decide) mj_inU10 mjf_10_87), trivial⟩, ?_⟩
  refine List.forall_mem_cons.mpr ⟨⟨(trivial), trivial⟩, ?_⟩
  refine List.forall_mem_cons.mpr ⟨⟨(trivial), trivial⟩, ?_⟩
  refine List.forall_mem_cons.mpr ⟨⟨(trivial), trivial⟩, ?_⟩
  refine List.forall_mem_cons.mpr ⟨⟨(show (7 : Nat) < mj_maxL 136 by decide), trivial⟩, ?_⟩
  refine List.forall_mem_cons.mpr ⟨⟨(trivial), trivial⟩, ?_⟩
  refine List.forall_mem_cons.mpr ⟨⟨(mj_lkG (by decide) rfl (by decide) mj_inU10 mjf_10_87), trivial⟩, ?_⟩
  refine List.forall_mem_cons.mpr ⟨⟨(trivial), trivial⟩, ?_⟩
  refine List.forall_mem_cons.mpr ⟨⟨(trivial), trivial⟩, ?_⟩
  refine List.forall_mem_cons.mpr ⟨⟨(mj_lkG (by decide) rfl (by decide) mj_inU10 mjf_10_93), trivial⟩, ?_⟩
  refine List.forall_mem_cons.mpr ⟨⟨(trivial), trivial⟩, ?_⟩
  refine List.forall_mem_cons.mpr ⟨⟨(trivial), trivial⟩, ?_⟩
  refine List.forall_mem_cons.mpr ⟨⟨(trivial), trivial⟩, ?_⟩
  refine List.forall_mem_cons.mpr ⟨⟨(trivial), trivial⟩, ?_⟩
  refine List.forall_mem_cons.mpr ⟨⟨(mj_lkG (by decide) rfl (by decide) mj_inU10 mjf_10_90), trivial⟩, ?_⟩
  refine List.forall_mem_cons.mpr ⟨⟨(trivial), trivial⟩, ?_⟩
  refine List.forall_mem_cons.mpr ⟨⟨(trivial), trivial⟩, ?_⟩
  refine List.forall_mem_cons.mpr ⟨⟨(mj_lkG (by decide) rfl (by decide) mj_inU10 mjf_10_96), trivial⟩, ?_⟩
  refine List.forall_mem_cons.mpr ⟨⟨(trivial), trivial⟩, ?_⟩
  refine List.forall_mem_cons.mpr ⟨⟨(trivial), trivial⟩, ?_⟩
  refine List.forall_mem_cons.mpr ⟨⟨(trivial), trivial⟩, ?_⟩
  refine List.forall_mem_cons.mpr ⟨⟨(show (6 : Nat) < mj_maxL 136 by decide), trivial⟩, ?_⟩
  refine List.forall_mem_cons.mpr ⟨⟨(show (0 : Int) ≤ ((214 : Nat) : Int) + (-80) by decide), trivial⟩, ?_⟩
  refine List.forall_mem_cons.mpr ⟨⟨(trivial), trivial⟩, ?_⟩
  refine List.forall_mem_cons.mpr ⟨⟨(mj_lkG (by decide) rfl (by decide) mj_inU10 mjf_10_87), trivial⟩, ?_⟩
  refine List.forall_mem_cons.mpr ⟨⟨(trivial), trivial⟩, ?_⟩
  refine List.forall_mem_cons.mpr ⟨⟨(trivial), trivial⟩, ?_⟩
  refine List.forall_mem_cons.mpr ⟨⟨(show (0 : Int) ≤ ((223 : Nat) : Int) + 26 by decide), trivial⟩, ?_⟩
  refine List.forall_mem_cons.mpr ⟨⟨(trivial), trivial⟩, ?_⟩
  refine List.forall_mem_cons.mpr ⟨⟨(mj_lkG (by decide) rfl (by decide) mj_inU10 mjf_10_90), trivial⟩, ?_⟩
  refine List.forall_mem_cons.mpr ⟨⟨(trivial), trivial⟩, ?_⟩
  refine List.forall_mem_cons.mpr ⟨⟨(trivial), trivial⟩, ?_⟩
  refine List.forall_mem_cons.mpr ⟨⟨(trivial), trivial⟩, ?_⟩
  refine List.forall_mem_cons.mpr ⟨⟨(mj_lkG (by decide) rfl (by decide) mj_inU10 mjf_10_35), trivial⟩, ?_⟩
  refine List.forall_mem_cons.mpr ⟨⟨(trivial), trivial⟩, ?_⟩
  refine List.forall_mem_cons.mpr ⟨⟨(trivial), trivial⟩, ?_⟩
  refine List.forall_mem_cons.mpr ⟨⟨(trivial), trivial⟩, ?_⟩
  refine List.forall_mem_cons.mpr ⟨⟨(trivial), trivial⟩, ?_⟩
  refine List.forall_mem_cons.mpr ⟨⟨(show (0 : Int) ≤ ((240 : Nat) : Int) + 9 by decide), trivial⟩, ?_⟩
  refine List.forall_mem_cons.mpr ⟨⟨(trivial), trivial⟩, ?_⟩
  refine List.forall_mem_cons.mpr ⟨⟨(trivial), trivial⟩, ?_⟩
  refine List.forall_mem_cons.mpr ⟨⟨(trivial), trivial⟩, ?_⟩
  refine List.forall_mem_cons.mpr ⟨⟨(trivial), mj_ckOf mjK_137 (by decide) (mj_lnkG mjl_10_250)⟩, ?_⟩
  refine List.forall_mem_cons.mpr ⟨⟨(trivial), trivial⟩, ?_⟩
  exact fun _ h => absurd h List.not_mem_nil
theorem mjd_136 : mj_ckd 136 = true := by decide +kernel
theorem mjg_136 : mj_good 136 := mj_goodOf (fun _ => ⟨mj_G, rfl⟩) (by decide +kernel) mjd_136 mje_136
theorem mje_137 : ∀ e ∈ mj_tb137, mj_lk 137 e.1 e.2.1 e.2.2.1 e.2.2.2 ∧ mj_cok 137 e.2.1 e.2.2.1 e.2.2.2 := by
  unfold mj_tb137
  refine List.forall_mem_cons.mpr ⟨⟨(trivial), trivial⟩, ?_⟩
  refine List.forall_mem_cons.mpr ⟨⟨(mj_lkG (by decide) rfl (by decide) mj_inU10 mjf_10_209), trivial⟩, ?_⟩
  refine List.forall_mem_cons.mpr ⟨⟨(trivial), trivial⟩, ?_⟩
  refine List.forall_mem_cons.mpr ⟨⟨(mj_lkG (by decide) rfl (by decide) mj_inU10 mjf_10_72), trivial⟩, ?_⟩
  refine List.forall_mem_cons.mpr ⟨⟨(trivial), trivial⟩, ?_⟩
  refine List.forall_mem_cons.mpr ⟨⟨(trivial), trivial⟩, ?_⟩
  refine List.forall_mem_cons.mpr ⟨⟨(trivial), trivial⟩, ?_⟩
  refine List.forall_mem_cons.mpr ⟨⟨(show (3 : Nat) < mj_maxL 137 by decide), trivial⟩, ?_⟩
  refine List.forall_mem_cons.mpr ⟨⟨(trivial), trivial⟩, ?_⟩
  refine List.forall_mem_cons.mpr ⟨⟨(trivial), trivial⟩, ?_⟩
  refine List.forall_mem_cons.mpr ⟨⟨(trivial), trivial⟩, ?_⟩
  refine List.forall_mem_cons.mpr ⟨⟨(trivial), trivial⟩, ?_⟩
  refine List.forall_mem_cons.mpr ⟨⟨(trivial), mj_ckOf mjK_133 (by decide) (mj_lnkG mjl_10_233)⟩, ?_⟩
  refine List.forall_mem_cons.mpr ⟨⟨(trivial), trivial⟩, ?_⟩
  refine List.forall_mem_cons.mpr ⟨⟨(mj_lkG (by decide) rfl (by decide) mj_inU10 mjf_10_65), trivial⟩, ?_⟩
  refine List.forall_mem_cons.mpr ⟨⟨(trivial), trivial⟩, ?_⟩
  refine List.forall_mem_cons.mpr ⟨⟨(trivial), trivial⟩, ?_⟩
  refine List.forall_mem_cons.mpr ⟨⟨(trivial), trivial⟩, ?_⟩
  refine List.forall_mem_cons.mpr ⟨⟨(trivial), trivial⟩, ?_⟩
  refine List.forall_mem_cons.mpr ⟨⟨(trivial), trivial⟩, ?_⟩
  refine List.forall_mem_cons.mpr ⟨⟨(mj_lkP (by decide) rfl (by decide) mj_inU10 mjf_10_215 mj_TyOk10 mj_Nm10 (Or.inl rfl) rfl), trivial⟩, ?_⟩
  refine List.forall_mem_cons.mpr ⟨⟨(trivial), trivial⟩, ?_⟩
  refine List.forall_mem_cons.mpr ⟨⟨(mj_lkG (by decide) rfl (by decide) mj_inU10 mjf_10_114), trivial⟩, ?_⟩
  refine List.forall_mem_cons.mpr ⟨⟨(trivial), trivial⟩, ?_⟩
  refine List.forall_mem_cons.mpr ⟨⟨(trivial), trivial⟩, ?_⟩
  refine List.forall_mem_cons.mpr ⟨⟨(trivial), trivial⟩, ?_⟩
  refine List.forall_mem_cons.mpr ⟨⟨(mj_lkG (by decide) rfl (by decide) mj_inU10 mjf_10_114), trivial⟩, ?_⟩
  refine List.forall_mem_cons.mpr ⟨⟨(trivial), trivial⟩, ?_⟩
  refine List.forall_mem_cons.mpr ⟨⟨(trivial), trivial⟩, ?_⟩
  refine List.forall_mem_cons.mpr ⟨⟨(show (0 : Int) ≤ ((43 : Nat) : Int) + 7 by decide), trivial⟩, ?_⟩
  refine List.forall_mem_cons.mpr ⟨⟨(trivial), trivial⟩, ?_⟩
  refine List.forall_mem_cons.mpr ⟨⟨(show (0 : Int) ≤ ((47 : Nat) : Int) + 9 by decide), trivial⟩, ?_⟩
  refine List.forall_mem_cons.mpr ⟨⟨(trivial), trivial⟩, ?_⟩
  refine List.forall_mem_cons.mpr ⟨⟨(mj_lkG (by decide) rfl (by decide) mj_inU10 mjf_10_114), trivial⟩, ?_⟩
  refine List.forall_mem_cons.mpr ⟨⟨(trivial), trivial⟩, ?_⟩
  refine List.forall_mem_cons.mpr ⟨⟨(trivial), trivial⟩, ?_⟩
  refine List.forall_mem_cons.mpr ⟨⟨(trivial), trivial⟩, ?_⟩
  refine List.forall_mem_cons.mpr ⟨⟨(trivial), trivial⟩, ?_⟩
  refine List.forall_mem_cons.mpr ⟨⟨(trivial), trivial⟩, ?_⟩
  refine List.forall_mem_cons.mpr ⟨⟨(trivial), trivial⟩, ?_⟩
  refine List.forall_mem_cons.mpr ⟨⟨(mj_lkG (by decide) rfl (by decide) mj_inU10 mjf_10_17), trivial⟩, ?_⟩
  refine List.forall_mem_cons.mpr ⟨⟨(trivial), trivial⟩, ?_⟩
  refine List.forall_mem_cons.mpr ⟨⟨(trivial), trivial⟩, ?_⟩
  refine List.forall_mem_cons.mpr ⟨⟨(show (0 : Int) ≤ ((65 : Nat) : Int) + 12 by decide), trivial⟩, ?_⟩
  refine List.forall_mem_cons.mpr ⟨⟨(trivial), trivial⟩, ?_⟩
  refine List.forall_mem_cons.mpr ⟨⟨(mj_lkG (by decide) rfl (by decide) mj_inU10 mjf_10_221), trivial⟩, ?_⟩
  refine List.forall_mem_cons.mpr ⟨⟨(trivial), trivial⟩, ?_⟩
  refine List.forall_mem_cons.mpr ⟨⟨(trivial), trivial⟩, ?_⟩
  refine List.forall_mem_cons.mpr ⟨⟨(show (0 : Int) ≤ ((74 : Nat) : Int) + 7 by decide), trivial⟩, ?_⟩
  refine List.forall_mem_cons.mpr ⟨⟨(trivial), trivial⟩, ?_⟩
  refine List.forall_mem_cons.mpr ⟨⟨(mj_lkG (by decide) rfl (by decide) mj_inU10 mjf_10_221), trivial⟩, ?_⟩
  refine List.forall_mem_cons.mpr ⟨⟨(mj_lkP (by decide) rfl (by decide) mj_inU10 mjf_10_221 mj_TyOk10 mj_Nm10 (Or.inl rfl) rfl), trivial⟩, ?_⟩
  refine List.forall_mem_cons.mpr ⟨⟨(trivial), trivial⟩, ?_⟩
  exact fun _ h => absurd h List.not_mem_nil
theorem mjd_137 : mj_ckd 137 = true := by decide +kernel
theorem mjg_137 : mj_good 137 := mj_goodOf (fun _ => ⟨mj_G, rfl⟩) (by decide +kernel) mjd_137 mje_137
theorem mje_138 : ∀ e ∈ mj_tb138, mj_lk 138 e.1 e.2.1 e.2.2.1 e.2.2.2 ∧ mj_cok 138 e.2.1 e.2.2.1 e.2.2.2 := by
  unfold mj_tb138
  refine List.forall_mem_cons.mpr ⟨⟨(trivial), trivial⟩, ?_⟩
  refine List.forall_mem_cons.mpr ⟨⟨(trivial), trivial⟩, ?_⟩
  refine List.forall_mem_cons.mpr ⟨⟨(show (0 : Int) ≤ ((2 : Nat) : Int) + 24 by decide), trivial⟩, ?_⟩
  refine List.forall_mem_cons.mpr ⟨⟨(trivial), trivial⟩, ?_⟩
  refine List.forall_mem_cons.mpr ⟨⟨(mj_lkG (by decide) rfl (by decide) mj_inU10 mjf_10_105), trivial⟩, ?_⟩
  refine List.forall_mem_cons.mpr ⟨⟨(trivial), trivial⟩, ?_⟩
  refine List.forall_mem_cons.mpr ⟨⟨(trivial), trivial⟩, ?_⟩
  refine List.forall_mem_cons.mpr ⟨⟨(trivial), trivial⟩, ?_⟩
  refine List.forall_mem_cons.mpr ⟨⟨(trivial), trivial⟩, ?_⟩
  refine List.forall_mem_cons.mpr ⟨⟨(trivial), trivial⟩, ?_⟩
  refine List.forall_mem_cons.mpr ⟨⟨(trivial), trivial⟩, ?_⟩
  refine List.forall_mem_cons.mpr ⟨⟨(mj_lkG (by decide) rfl (by decide) mj_inU10 mjf_10_102), trivial⟩, ?_⟩
  refine List.forall_mem_cons.mpr ⟨⟨(trivial), trivial⟩, ?_⟩
  refine List.forall_mem_cons.mpr ⟨⟨(trivial), trivial⟩, ?_⟩
  refine List.forall_mem_cons.mpr ⟨⟨(trivial), trivial⟩, ?_⟩
  refine List.forall_mem_cons.mpr ⟨⟨(show (0 : Int) ≤ ((23 : Nat) : Int) + 137 by decide), trivial⟩, ?_⟩
  refine List.forall_mem_cons.mpr ⟨⟨(trivial), trivial⟩, ?_⟩
  refine List.forall_mem_cons.mpr ⟨⟨(trivial), trivial⟩, ?_⟩
  refine List.forall_mem_cons.mpr ⟨⟨(show (0 : Int) ≤ ((29 : Nat) : Int) + 18 by decide), trivial⟩, ?_⟩
  refine List.forall_mem_cons.mpr ⟨⟨(trivial), trivial⟩, ?_⟩
  refine List.forall_mem_cons.mpr ⟨⟨(trivial), trivial⟩, ?_⟩
  refine List.forall_mem_cons.mpr ⟨⟨(trivial), trivial⟩, ?_⟩
  refine List.forall_mem_cons.mpr ⟨⟨(trivial), trivial⟩, ?_⟩
  refine List.forall_mem_cons.mpr ⟨⟨(mj_lkG (by decide) rfl (by decide) mj_inU10 mjf_10_102), trivial⟩, ?_⟩
  refine List.forall_mem_cons.mpr ⟨⟨(trivial), trivial⟩, ?_⟩
  refine List.forall_mem_cons.mpr ⟨⟨(trivial), trivial⟩, ?_⟩
  refine List.forall_mem_cons.mpr ⟨⟨(trivial), mj_ckOf mjK_133 (by decide) (mj_lnkG mjl_10_233)⟩, ?_⟩
  refine List.forall_mem_cons.mpr ⟨⟨(show (0 : Int) ≤ ((44 : Nat) : Int) + 116 by decide), trivial⟩, ?_⟩
  refine List.forall_mem_cons.mpr ⟨⟨(trivial), trivial⟩, ?_⟩
  refine List.forall_mem_cons.mpr ⟨⟨(show (0 : Int) ≤ ((48 : Nat) : Int) + 14 by decide), trivial⟩, ?_⟩
  refine List.forall_mem_cons.mpr ⟨⟨(trivial), trivial⟩, ?_⟩
  refine List.forall_mem_cons.mpr ⟨⟨(mj_lkG (by decide) rfl (by decide) mj_inU10 mjf_10_102), trivial⟩, ?_⟩
  refine List.forall_mem_cons.mpr ⟨⟨(trivial), trivial⟩, ?_⟩
  refine List.forall_mem_cons.mpr ⟨⟨(trivial), trivial⟩, ?_⟩
  refine List.forall_mem_cons.mpr ⟨⟨(trivial), trivial⟩, ?_⟩
  refine List.forall_mem_cons.mpr ⟨⟨(show (0 : Int) ≤ ((59 : Nat) : Int) + 101 by decide), trivial⟩, ?_⟩
  refine List.forall_mem_cons.mpr ⟨⟨(trivial), trivial⟩, ?_⟩
  refine List.forall_mem_cons.mpr ⟨⟨(trivial), trivial⟩, ?_⟩
  refine List.forall_mem_cons.mpr ⟨⟨(show (0 : Int) ≤ ((65 : Nat) : Int) + 19 by decide), trivial⟩, ?_⟩
  refine List.forall_mem_cons.mpr ⟨⟨(trivial), trivial⟩, ?_⟩
  refine List.forall_mem_cons.mpr ⟨⟨(mj_lkG (by decide) rfl (by decide) mj_inU10 mjf_10_102), trivial⟩, ?_⟩
  refine List.forall_mem_cons.mpr ⟨⟨(trivial), trivial⟩, ?_⟩
  refine List.forall_mem_cons.mpr ⟨⟨(trivial), trivial⟩, ?_⟩
  refine List.forall_mem_cons.mpr ⟨⟨(mj_lkG (by decide) rfl (by decide) mj_inU10 mjf_10_117), trivial⟩, ?_⟩
  refine List.forall_mem_cons.mpr ⟨⟨(trivial), trivial⟩, ?_⟩
  refine List.forall_mem_cons.mpr ⟨⟨(trivial), trivial⟩, ?_⟩
  refine List.forall_mem_cons.mpr ⟨⟨(trivial), trivial⟩, ?_⟩
  refine List.forall_mem_cons.mpr ⟨⟨(show (0 : Int) ≤ ((81 : Nat) : Int) + 79 by decide), trivial⟩, ?_⟩
  refine List.forall_mem_cons.mpr ⟨⟨(trivial), trivial⟩, ?_⟩
  refine List.forall_mem_cons.mpr ⟨⟨(trivial), trivial⟩, ?_⟩
  refine List.forall_mem_cons.mpr ⟨⟨(show (0 : Int) ≤ ((86 : Nat) : Int) + 24 by decide), trivial⟩, ?_⟩
  refine List.forall_mem_cons.mpr ⟨⟨(trivial), trivial⟩, ?_⟩
  refine List.forall_mem_cons.mpr ⟨⟨(mj_lkG (by decide) rfl (by decide) mj_inU10 mjf_10_102), trivial⟩, ?_⟩
  refine List.forall_mem_cons.mpr ⟨⟨(trivial), trivial⟩, ?_⟩
  refine List.forall_mem_cons.mpr ⟨⟨(trivial), trivial⟩, ?_⟩
  refine List.forall_mem_cons.mpr ⟨⟨(mj_lkG (by decide) rfl (by decide) mj_inU10 mjf_10_105), trivial⟩, ?_⟩
  refine List.forall_mem_cons.mpr ⟨⟨(trivial), trivial⟩, ?_⟩
  refine List.forall_mem_cons.mpr ⟨⟨(trivial), trivial⟩, ?_⟩
  refine List.forall_mem_cons.mpr ⟨⟨(trivial), trivial⟩, ?_⟩
  refine List.forall_mem_cons.mpr ⟨⟨(trivial), trivial⟩, ?_⟩
  refine List.forall_mem_cons.mpr ⟨⟨(trivial), trivial⟩, ?_⟩
  refine List.forall_mem_cons.mpr ⟨⟨(trivial), trivial⟩, ?_⟩
  refine List.forall_mem_cons.mpr ⟨⟨(trivial), trivial⟩, ?_⟩
  refine List.forall_mem_cons.mpr ⟨⟨(show (0 : Int) ≤ ((107 : Nat) : Int) + 53 by decide), trivial⟩, ?_⟩
  refine List.forall_mem_cons.mpr ⟨⟨(trivial), trivial⟩, ?_⟩
  refine List.forall_mem_cons.mpr ⟨⟨(mj_lkG (by decide) rfl (by decide) mj_inU10 mjf_10_102), trivial⟩, ?_⟩
  refine List.forall_mem_cons.mpr ⟨⟨(trivial), trivial⟩, ?_⟩
  refine List.forall_mem_cons.mpr ⟨⟨(trivial), trivial⟩, ?_⟩
  refine List.forall_mem_cons.mpr ⟨⟨(trivial), trivial⟩, ?_⟩
  refine List.forall_mem_cons.mpr ⟨⟨(show (0 : Int) ≤ ((117 : Nat) : Int) + 24 by decide), trivial⟩, ?_⟩
  refine List.forall_mem_cons.mpr ⟨⟨(trivial), trivial⟩, ?_⟩
  refine List.forall_mem_cons.mpr ⟨⟨(mj_lkG (by decide) rfl (by decide) mj_inU10 mjf_10_102), trivial⟩, ?_⟩
  refine List.forall_mem_cons.mpr ⟨⟨(trivial), trivial⟩, ?_⟩
  refine List.forall_mem_cons.mpr ⟨⟨(trivial), trivial⟩, ?_⟩
  refine List.forall_mem_cons.mpr ⟨⟨(trivial), trivial⟩, ?_⟩
  refine List.forall_mem_cons.mpr ⟨⟨(mj_lkG (by decide) rfl (by decide) mj_inU10 mjf_10_102), trivial⟩, ?_⟩
  refine List.forall_mem_cons.mpr ⟨⟨(trivial), trivial⟩, ?_⟩
  refine List.forall_mem_cons.mpr ⟨⟨(trivial), trivial⟩, ?_⟩
  refine List.forall_mem_cons.mpr ⟨⟨(trivial), trivial⟩, ?_⟩
  refine List.forall_mem_cons.mpr ⟨⟨(trivial), trivial⟩, ?_⟩
  refine List.forall_mem_cons.mpr ⟨⟨(trivial), trivial⟩, ?_⟩
  refine List.forall_mem_cons.mpr ⟨⟨(trivial), trivial⟩, ?_⟩
  refine List.forall_mem_cons.mpr ⟨⟨(trivial), trivial⟩, ?_⟩
  refine List.forall_mem_cons.mpr ⟨⟨(show (0 : Int) ≤ ((138 : Nat) : Int) + 21 by decide), trivial⟩, ?_⟩
  refine List.forall_mem_cons.mpr ⟨⟨(trivial), trivial⟩, ?_⟩
  refine List.forall_mem_cons.mpr ⟨⟨(mj_lkG (by decide) rfl (by decide) mj_inU10 mjf_10_102), trivial⟩, ?_⟩
  refine List.forall_mem_cons.mpr ⟨⟨(trivial), trivial⟩, ?_⟩
  refine List.forall_mem_cons.mpr ⟨⟨(trivial), trivial⟩, ?_⟩
  refine List.forall_mem_cons.mpr ⟨⟨(trivial), trivial⟩, ?_⟩
  refine List.forall_mem_cons.mpr ⟨⟨(mj_lkG (by decide) rfl (by decide) mj_inU10 mjf_10_102), trivial⟩, ?_⟩
  refine List.forall_mem_cons.mpr ⟨⟨(trivial), trivial⟩, ?_⟩
  refine List.forall_mem_cons.mpr ⟨⟨(trivial), trivial⟩, ?_⟩
  refine List.forall_mem_cons.mpr ⟨⟨(trivial), trivial⟩, ?_⟩
  refine List.forall_mem_cons.mpr ⟨⟨(trivial), trivial⟩, ?_⟩
  refine List.forall_mem_cons.mpr ⟨⟨(trivial), trivial⟩, ?_⟩
  refine List.forall_mem_cons.mpr ⟨⟨(trivial), trivial⟩, ?_⟩
  refine List.forall_mem_cons.mpr ⟨⟨(trivial), trivial⟩, ?_⟩
  refine List.forall_mem_cons.mpr ⟨⟨(trivial), trivial⟩, ?_⟩
  refine List.forall_mem_cons.mpr ⟨⟨(trivial), trivial⟩, ?_⟩
  exact fun _ h => absurd h List.not_mem_nil
theorem mjd_138 : mj_ckd 138 = true := by decide +kernel
theorem mjg_138 : mj_good 138 := mj_goodOf (fun _ => ⟨mj_G, rfl⟩) (by decide +kernel) mjd_138 mje_138
