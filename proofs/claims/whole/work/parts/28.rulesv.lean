/-! Reads with the value under another name. -/
section QV
variable {cst : List (List Int32)} {m pc nx : Nat} {ls : mj_Ls} {st rest : List Value} {σ : sg} {Q : Option Value → sg → Prop}
theorem qa_getV {A i idx tag b : Nat} {v : Int32} (hat : mj_at m pc = some (.getfield idx, tag, b)) (ht : kd_tag A = tag) (hb : b < kd_len A) (hr : kd_ref A i b = none) (hn : pc + 3 = nx) (hi : i < kd_cnt A) (hv : σ A i b = v) (k : qa cst m nx ls (.int v :: rest) σ Q) : qa cst m pc ls (.ref (cl A i) :: rest) σ Q := by
  subst hv
  exact qa_getI hat ht hb hr hn hi k
theorem qa_ialdV {A i k a b : Nat} {x v : Int32} (hat : mj_at m pc = some (.iaload, a, b)) (ht : kd_tag A = 20) (hn : pc + 1 = nx) (hr : kd_ref A i k = none) (hi : i < kd_cnt A) (hx : x = nI k) (hk : k < kd_len A) (hv : σ A i k = v) (kk : qa cst m nx ls (.int v :: rest) σ Q) : qa cst m pc ls (.int x :: .ref (cl A i) :: rest) σ Q := by
  subst hv
  exact qa_iald hat ht hn hr hi hx hk kk
theorem qa_zaldV {A i k a b : Nat} {x v : Int32} (hat : mj_at m pc = some (.baload, a, b)) (ht : kd_tag A = 21) (hn : pc + 1 = nx) (hr : kd_ref A i k = none) (hi : i < kd_cnt A) (hx : x = nI k) (hk : k < kd_len A) (hv : σ A i k = v) (kk : qa cst m nx ls (.int v :: rest) σ Q) : qa cst m pc ls (.int x :: .ref (cl A i) :: rest) σ Q := by
  subst hv
  exact qa_zald hat ht hn hr hi hx hk kk
end QV
