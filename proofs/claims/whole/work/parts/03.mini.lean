/-! A small machine of our own for the instructions that the program uses, over a heap that is a list of cells; the next part shows that the machine of the Statement does what it does. References below 5 are the script and the four static tables; from 5 on they are cells. -/
abbrev mj_Hp : Type := List (Nat × List Value)
abbrev mj_Ls : Type := List (Nat × Value)

def mj_keep1 (i : Nat) (q : Nat × Value) : Bool := !(q.1 == i) && !(q.1 + 1 == i && q.2.category == 2)
def mj_keep2 (i : Nat) (q : Nat × Value) : Bool := !(q.1 == i) && (!(q.1 == i + 1) && !(q.1 + 1 == i && q.2.category == 2))
def mj_put (keep : Nat × Value → Bool) (i : Nat) (v : Value) : mj_Ls → mj_Ls
  | [] => [(i, v)]
  | q :: r => if q.1 = i then (i, v) :: r.filter keep else if keep q then q :: mj_put keep i v r else mj_put keep i v r
def mj_set1 (ls : mj_Ls) (i : Nat) (v : Value) : mj_Ls := mj_put (mj_keep1 i) i v ls
def mj_set2 (ls : mj_Ls) (i : Nat) (v : Value) : mj_Ls := mj_put (mj_keep2 i) i v ls
def mj_get (ls : mj_Ls) (i : Nat) : Option Value := match ls with
  | [] => none
  | q :: r => if q.1 = i then some q.2 else mj_get r i
def mj_ccond (c : Jvm.ClassFile.Cond) (x y : Int32) : Bool := match c with
  | .eq => decide (x = y)
  | .ne => !decide (x = y)
  | .lt => decide (x < y)
  | .ge => decide (y ≤ x)
  | .gt => decide (y < x)
  | .le => decide (x ≤ y)
def mj_tgt (pc : Nat) (off : Int) : Nat := ((pc : Int) + off).toNat
def mj_in (j : Int32) (n : Nat) : Bool := !(decide (j < 0)) && decide (j.toNatClampNeg < n)
def mj_bool (x : Int32) : Bool := x == 0 || x == 1
def mj_fit (a b : Nat) (v : Value) : Bool := match mj_fty a b, v with
  | 0, .int _ => true
  | 1, .int x => mj_bool x
  | 2, .ref _ => true
  | _, _ => false
/-- field b of cell k -/
def mj_fld (h : mj_Hp) (k tag b : Nat) : Option Value := match h[k]? with
  | some c => if c.1 = tag then c.2[b]? else none
  | none => none
def mj_wr (h : mj_Hp) (k b : Nat) (v : Value) : mj_Hp := match h[k]? with
  | some c => h.set k (c.1, c.2.set b v)
  | none => h
/-- element j of the int array at reference k: a table or a cell of that tag -/
def mj_elt (cst : List (List Int32)) (h : mj_Hp) (k tag : Nat) (j : Int32) : Option Value :=
  if k < 5 then (match cst[k]? with
    | some l => if tag = 20 then (if mj_in j l.length then some (.int (l.getD j.toNatClampNeg 0)) else none) else none
    | none => none)
  else match h[k - 5]? with
    | some c => if c.1 = tag then (if mj_in j c.2.length then c.2[j.toNatClampNeg]? else none) else none
    | none => none
def mj_len (i : Instr) : Nat := match i with
  | .iconst _ => 1
  | .iload_n _ => 1
  | .lload_n _ => 1
  | .aload_n _ => 1
  | .istore_n _ => 1
  | .astore_n _ => 1
  | .lstore_n _ => 1
  | .iadd => 1
  | .isub => 1
  | .imul => 1
  | .iand => 1
  | .ior => 1
  | .ixor => 1
  | .ishl => 1
  | .ishr => 1
  | .idiv => 1
  | .ladd => 1
  | .lmul => 1
  | .lcmp => 1
  | .i2l => 1
  | .dup => 1
  | .dup2 => 1
  | .iaload => 1
  | .baload => 1
  | .aaload => 1
  | .arraylength => 1
  | .iastore => 1
  | .bastore => 1
  | .aastore => 1
  | .return_ => 1
  | .ireturn => 1
  | .areturn => 1
  | .bipush _ => 2
  | .iload _ => 2
  | .lload _ => 2
  | .aload _ => 2
  | .istore _ => 2
  | .astore _ => 2
  | .lstore _ => 2
  | .newarray _ => 2
  | .sipush _ => 3
  | .ldc2_w _ => 3
  | .iinc _ _ => 3
  | .ifCond _ _ => 3
  | .if_icmp _ _ => 3
  | .goto _ => 3
  | .getfield _ => 3
  | .getstatic _ => 3
  | .putfield _ => 3
  | .new _ => 3
  | .anewarray _ => 3
  | .invokespecial _ => 3
  | .invokevirtual _ => 3
  | .invokestatic _ => 3
  | .multianewarray _ _ => 4
  | _ => 0
abbrev mj_Ms : Type := Nat × mj_Ls × List Value × mj_Hp
/-- an instruction that neither calls nor returns; a, b: what its pool index stands for -/
def mj_step (cst : List (List Int32)) (i : Instr) (a b pc : Nat) (ls : mj_Ls) (st : List Value) (h : mj_Hp) : Option mj_Ms :=
  match i with
  | .iconst n => some (pc + 1, ls, .int (Int32.ofInt n) :: st, h)
  | .bipush n => some (pc + 2, ls, .int ((Int8.ofInt n).toInt32) :: st, h)
  | .sipush n => some (pc + 3, ls, .int ((Int16.ofInt n).toInt32) :: st, h)
  | .ldc2_w _ => some (pc + 3, ls, .long (Int64.ofNat a) :: st, h)
  | .iload_n k => match mj_get ls k with
    | some (.int x) => some (pc + 1, ls, .int x :: st, h)
    | _ => none
  | .iload k => match mj_get ls k with
    | some (.int x) => some (pc + 2, ls, .int x :: st, h)
    | _ => none
  | .lload_n k => match mj_get ls k with
    | some (.long x) => some (pc + 1, ls, .long x :: st, h)
    | _ => none
  | .lload k => match mj_get ls k with
    | some (.long x) => some (pc + 2, ls, .long x :: st, h)
    | _ => none
  | .aload_n k => match mj_get ls k with
    | some (.ref x) => some (pc + 1, ls, .ref x :: st, h)
    | _ => none
  | .aload k => match mj_get ls k with
    | some (.ref x) => some (pc + 2, ls, .ref x :: st, h)
    | _ => none
  | .istore_n k => match st with
    | .int x :: r => some (pc + 1, mj_set1 ls k (.int x), r, h)
    | _ => none
  | .istore k => match st with
    | .int x :: r => some (pc + 2, mj_set1 ls k (.int x), r, h)
    | _ => none
  | .astore_n k => match st with
    | .ref x :: r => some (pc + 1, mj_set1 ls k (.ref x), r, h)
    | _ => none
  | .astore k => match st with
    | .ref x :: r => some (pc + 2, mj_set1 ls k (.ref x), r, h)
    | _ => none
  | .lstore_n k => match st with
    | .long x :: r => some (pc + 1, mj_set2 ls k (.long x), r, h)
    | _ => none
  | .lstore k => match st with
    | .long x :: r => some (pc + 2, mj_set2 ls k (.long x), r, h)
    | _ => none
  | .iinc k n => match mj_get ls k with
    | some (.int x) => some (pc + 3, mj_set1 ls k (.int (x + Int32.ofInt n)), st, h)
    | _ => none
  | .iadd => match st with
    | .int y :: .int x :: r => some (pc + 1, ls, .int (x + y) :: r, h)
    | _ => none
  | .isub => match st with
    | .int y :: .int x :: r => some (pc + 1, ls, .int (x - y) :: r, h)
    | _ => none
  | .imul => match st with
    | .int y :: .int x :: r => some (pc + 1, ls, .int (x * y) :: r, h)
    | _ => none
  | .iand => match st with
    | .int y :: .int x :: r => some (pc + 1, ls, .int (x &&& y) :: r, h)
    | _ => none
  | .ior => match st with
    | .int y :: .int x :: r => some (pc + 1, ls, .int (x ||| y) :: r, h)
    | _ => none
  | .ixor => match st with
    | .int y :: .int x :: r => some (pc + 1, ls, .int (x ^^^ y) :: r, h)
    | _ => none
  | .ishl => match st with
    | .int y :: .int x :: r => some (pc + 1, ls, .int (x <<< (y &&& 31)) :: r, h)
    | _ => none
  | .ishr => match st with
    | .int y :: .int x :: r => some (pc + 1, ls, .int (x >>> (y &&& 31)) :: r, h)
    | _ => none
  | .idiv => match st with
    | .int y :: .int x :: r => if y = 0 then none else some (pc + 1, ls, .int (x / y) :: r, h)
    | _ => none
  | .ladd => match st with
    | .long y :: .long x :: r => some (pc + 1, ls, .long (x + y) :: r, h)
    | _ => none
  | .lmul => match st with
    | .long y :: .long x :: r => some (pc + 1, ls, .long (x * y) :: r, h)
    | _ => none
  | .lcmp => match st with
    | .long y :: .long x :: r => some (pc + 1, ls, .int (lg_cmp x y) :: r, h)
    | _ => none
  | .i2l => match st with
    | .int x :: r => some (pc + 1, ls, .long x.toInt64 :: r, h)
    | _ => none
  | .dup => match st with
    | .int x :: r => some (pc + 1, ls, .int x :: .int x :: r, h)
    | .ref x :: r => some (pc + 1, ls, .ref x :: .ref x :: r, h)
    | _ => none
  | .dup2 => match st with
    | .int y :: .ref x :: r => some (pc + 1, ls, .int y :: .ref x :: .int y :: .ref x :: r, h)
    | _ => none
  | .ifCond c off => match st with
    | .int x :: r => some (if mj_ccond c x 0 then mj_tgt pc off else pc + 3, ls, r, h)
    | _ => none
  | .if_icmp c off => match st with
    | .int y :: .int x :: r => some (if mj_ccond c x y then mj_tgt pc off else pc + 3, ls, r, h)
    | _ => none
  | .goto off => some (mj_tgt pc off, ls, st, h)
  | .tableswitch d lo hi offs => match st with
    | .int x :: r => if x.toInt < lo ∨ hi < x.toInt then some (mj_tgt pc d, ls, r, h) else (match offs[(x.toInt - lo).toNat]? with
      | some off => some (mj_tgt pc off, ls, r, h)
      | none => none)
    | _ => none
  | .getfield _ => match st with
    | .ref k :: r => if k < 5 then none else (match mj_fld h (k - 5) a b with
      | some v => some (pc + 3, ls, v :: r, h)
      | none => none)
    | _ => none
  | .getstatic _ => some (pc + 3, ls, .ref a :: st, h)
  | .iaload => match st with
    | .int j :: .ref k :: r => (match mj_elt cst h k 20 j with
      | some (.int x) => some (pc + 1, ls, .int x :: r, h)
      | _ => none)
    | _ => none
  | .baload => match st with
    | .int j :: .ref k :: r => if k < 5 then none else (match mj_elt cst h k 21 j with
      | some (.int x) => some (pc + 1, ls, .int x :: r, h)
      | _ => none)
    | _ => none
  | .aaload => match st with
    | .int j :: .ref k :: r => if k < 5 then none else (match h[k - 5]? with
      | some c => if 22 ≤ c.1 ∧ c.1 < 27 ∧ mj_in j c.2.length = true then (match c.2[j.toNatClampNeg]? with
        | some (.ref x) => some (pc + 1, ls, .ref x :: r, h)
        | _ => none) else none
      | none => none)
    | _ => none
  | .arraylength => match st with
    | .ref k :: r => if k < 5 then (match cst[k]? with
        | some l => some (pc + 1, ls, .int (Int32.ofNat l.length) :: r, h)
        | none => none)
      else (match h[k - 5]? with
        | some c => if 20 ≤ c.1 ∧ c.1 < 27 then some (pc + 1, ls, .int (Int32.ofNat c.2.length) :: r, h) else none
        | none => none)
    | _ => none
  | .putfield _ => match st with
    | v :: .ref k :: r => if k < 5 then none else (match mj_fld h (k - 5) a b with
      | some _ => if mj_fit a b v then some (pc + 3, ls, r, mj_wr h (k - 5) b v) else none
      | none => none)
    | _ => none
  | .iastore => match st with
    | .int x :: .int j :: .ref k :: r => if k < 5 then none else (match mj_elt cst h k 20 j with
      | some _ => some (pc + 1, ls, r, mj_wr h (k - 5) j.toNatClampNeg (.int x))
      | none => none)
    | _ => none
  | .bastore => match st with
    | .int x :: .int j :: .ref k :: r => if k < 5 then none else (match mj_elt cst h k 21 j with
      | some _ => if mj_bool x then some (pc + 1, ls, r, mj_wr h (k - 5) j.toNatClampNeg (.int x)) else none
      | none => none)
    | _ => none
  | .aastore => match st with
    | .ref y :: .int j :: .ref k :: r => if k < 5 ∨ y < 5 then none else (match h[k - 5]?, h[y - 5]? with
      | some c, some cy => if mj_comp c.1 = cy.1 ∧ cy.1 < 20 ∧ 22 ≤ c.1 ∧ mj_in j c.2.length = true then some (pc + 1, ls, r, mj_wr h (k - 5) j.toNatClampNeg (.ref y)) else none
      | _, _ => none)
    | _ => none
  | .new _ => some (pc + 3, ls, .ref (5 + h.length) :: st, h ++ [(a, mj_blank a)])
  | .newarray _ => match st with
    | .int n :: r => if n < 0 ∨ 65536 < n.toNatClampNeg then none else some (pc + 2, ls, .ref (5 + h.length) :: r, h ++ [(a, List.replicate n.toNatClampNeg (.int 0))])
    | _ => none
  | .anewarray _ => match st with
    | .int n :: r => if n < 0 ∨ 65536 < n.toNatClampNeg then none else some (pc + 3, ls, .ref (5 + h.length) :: r, h ++ [(a, List.replicate n.toNatClampNeg .null)])
    | _ => none
  | .multianewarray _ _ => match st with
    | .int k :: .int n :: r => if n < 0 ∨ 4096 < n.toNatClampNeg ∨ k < 0 ∨ 4096 < k.toNatClampNeg then none else
        some (pc + 4, ls, .ref (5 + h.length) :: r, h ++ [(a, (List.range n.toNatClampNeg).map (fun i => Value.ref (5 + h.length + 1 + i)))] ++ List.replicate n.toNatClampNeg (20, List.replicate k.toNatClampNeg (Value.int 0)))
    | _ => none
  | _ => none
/-- is it a call: how (0: of a constructor, 1: of an instance method, 2: of a static one) -/
def mj_isCall (i : Instr) : Option Nat := match i with
  | .invokespecial _ => some 0
  | .invokevirtual _ => some 1
  | .invokestatic _ => some 2
  | _ => none
/-- the end of a method, with its answer -/
def mj_isRet (i : Instr) (rt : Option FieldType) (st : List Value) : Option (Option Value) := match i, st with
  | .return_, [] => if rt = none then some none else none
  | .ireturn, [.int x] => if rt = some .int then some (some (.int x)) else if rt = some .boolean then (if mj_bool x then some (some (.int x)) else none) else none
  | .areturn, [.ref x] => (match rt with
    | some (.object _) => some (some (.ref x))
    | _ => none)
  | _, _ => none
def mj_sl (h : mj_Hp) : Nat := (h.map (fun c => c.2.length)).sum
def mj_argsOk (a : Nat) (vs : List Value) : Bool := vs.all (fun v => v.category == 1) && decide (vs.length ≤ mj_maxL a)
def mj_room (rest : List Value) : Bool := decide ((rest.map fun v => v.category).sum ≤ 8)
def mj_run (cst : List (List Int32)) : Nat → Nat → Nat → mj_Ls → List Value → mj_Hp → Option (Option Value × mj_Hp)
  | 0, _, _, _, _, _ => none
  | n + 1, m, pc, ls, st, h => match mj_at m pc with
    | none => none
    | some (i, a, b) => match mj_isRet i (mj_ret m) st with
      | some r => some (r, h)
      | none => match mj_isCall i with
        | none => (match mj_step cst i a b pc ls st h with
          | some (pc', ls', st', h') => mj_run cst n m pc' ls' st' h'
          | none => none)
        | some 2 => if a = 1001 then (match st with
            | .int y :: .int x :: rest => if mj_room rest then mj_run cst n m (pc + 3) ls (.int (if x < y then y else x) :: rest) h else none
            | _ => none)
          else if a = 1002 then (match st with
            | .int y :: .int x :: rest => if mj_room rest then mj_run cst n m (pc + 3) ls (.int (if y < x then y else x) :: rest) h else none
            | _ => none)
          else if b ≤ st.length ∧ mj_argsOk a (st.take b).reverse = true ∧ mj_room (st.drop b) = true then
            (match mj_run cst n a 0 (lv_args 0 (st.take b).reverse) [] h with
            | some (r, h') => mj_run cst n m (pc + 3) ls (r.toList ++ st.drop b) h'
            | none => none)
          else none
        | some kd => (match st.drop b with
          | .ref k :: rest => if a = 1000 then (if b = 0 ∧ kd = 0 ∧ mj_room rest = true then mj_run cst n m (pc + 3) ls rest h else none)
            else if b ≤ st.length ∧ 5 ≤ k ∧ (h[k - 5]?).map (fun c => c.1) = some (mj_ci a) ∧ mj_argsOk a (.ref k :: (st.take b).reverse) = true ∧ mj_room rest = true then
              (match mj_run cst n a 0 (lv_args 0 (.ref k :: (st.take b).reverse)) [] h with
              | some (r, h') => mj_run cst n m (pc + 3) ls (r.toList ++ rest) h'
              | none => none)
            else none
          | _ => none)
