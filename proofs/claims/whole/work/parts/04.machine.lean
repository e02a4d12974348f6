/-! THE PURE MACHINE: ints as whole numbers in range, longs likewise, references as places in a list of shapes; contents by place and index -/
abbrev PV : Type := Int ⊕ (Int ⊕ Nat)
abbrev vI (x : Int) : PV := .inl x
abbrev vL (x : Int) : PV := .inr (.inl x)
abbrev vR (p : Nat) : PV := .inr (.inr p)
abbrev Shp : Type := (Bool × Nat) ⊕ (Nat × List (Option (Option Nat)))
abbrev Mu : Type := Nat → Int → Int
abbrev Mem : Type := List Shp × Mu × Nat × Nat
abbrev Lo : Type := List (Option PV)
def u2 (μ : Mu) (p : Nat) (i v : Int) : Mu := fun q => if q = p then (fun j => if j = i then v else μ p j) else μ q
def u0 (μ : Mu) (p : Nat) : Mu := fun q => if q = p then (fun _ => 0) else μ q
def cpM (μ : Mu) (p q : Nat) (sp dp n : Int) : Mu := fun z => if z = q then (fun j => if dp ≤ j ∧ j < dp + n then μ p (sp + (j - dp)) else μ q j) else μ z
def cmpI (c : ClassFile.Cond) (x y : Int) : Bool := match c with
  | .eq => decide (x = y)
  | .ne => decide (x ≠ y)
  | .lt => decide (x < y)
  | .ge => decide (y ≤ x)
  | .gt => decide (y < x)
  | .le => decide (x ≤ y)
abbrev iR (x : Int) : Prop := -2147483648 ≤ x ∧ x ≤ 2147483647
def isL (v : PV) : Bool := match v with
  | .inr (.inl _) => true
  | _ => false
/-- simple instructions -/
def stp (e : En) (ls : Lo) (st : List PV) (M : Mem) : Option (Nat × Lo × List PV × Mem) :=
  match e.1 with
  | .iconst _ => some (e.2.1, ls, vI e.2.2.1 :: st, M)
  | .bipush _ => some (e.2.1, ls, vI e.2.2.1 :: st, M)
  | .sipush _ => some (e.2.1, ls, vI e.2.2.1 :: st, M)
  | .lconst _ => some (e.2.1, ls, vL e.2.2.1 :: st, M)
  | .ldc2_w _ => some (e.2.1, ls, vL e.2.2.1 :: st, M)
  | .iload _ => match ls.getD e.2.2.2.1 none with
    | some (.inl x) => some (e.2.1, ls, vI x :: st, M)
    | _ => none
  | .iload_n _ => match ls.getD e.2.2.2.1 none with
    | some (.inl x) => some (e.2.1, ls, vI x :: st, M)
    | _ => none
  | .lload _ => match ls.getD e.2.2.2.1 none with
    | some (.inr (.inl x)) => some (e.2.1, ls, vL x :: st, M)
    | _ => none
  | .lload_n _ => match ls.getD e.2.2.2.1 none with
    | some (.inr (.inl x)) => some (e.2.1, ls, vL x :: st, M)
    | _ => none
  | .aload _ => match ls.getD e.2.2.2.1 none with
    | some (.inr (.inr x)) => some (e.2.1, ls, vR x :: st, M)
    | _ => none
  | .aload_n _ => match ls.getD e.2.2.2.1 none with
    | some (.inr (.inr x)) => some (e.2.1, ls, vR x :: st, M)
    | _ => none
  | .istore _ => match st with
    | .inl x :: st' => some (e.2.1, ls.set e.2.2.2.1 (some (vI x)), st', M)
    | _ => none
  | .istore_n _ => match st with
    | .inl x :: st' => some (e.2.1, ls.set e.2.2.2.1 (some (vI x)), st', M)
    | _ => none
  | .iinc _ _ => match ls.getD e.2.2.2.1 none with
    | some (.inl x) => if iR (x + e.2.2.1) then some (e.2.1, ls.set e.2.2.2.1 (some (vI (x + e.2.2.1))), st, M) else none
    | _ => none
  | .iadd => match st with
    | .inl y :: .inl x :: st' => if iR (x + y) then some (e.2.1, ls, vI (x + y) :: st', M) else none
    | _ => none
  | .isub => match st with
    | .inl y :: .inl x :: st' => if iR (x - y) then some (e.2.1, ls, vI (x - y) :: st', M) else none
    | _ => none
  | .imul => match st with
    | .inl y :: .inl x :: st' => if iR (x * y) then some (e.2.1, ls, vI (x * y) :: st', M) else none
    | _ => none
  | .idiv => match st with
    | .inl y :: .inl x :: st' => if 0 ≤ x ∧ 0 < y then some (e.2.1, ls, vI (x / y) :: st', M) else none
    | _ => none
  | .irem => match st with
    | .inl y :: .inl x :: st' => if 0 ≤ x ∧ 0 < y then some (e.2.1, ls, vI (x % y) :: st', M) else none
    | _ => none
  | .ishl => match st with
    | .inl y :: .inl x :: st' => if 0 ≤ x ∧ 0 ≤ y ∧ y < 31 ∧ x * 2 ^ y.toNat ≤ 2147483647 then some (e.2.1, ls, vI (x * 2 ^ y.toNat) :: st', M) else none
    | _ => none
  | .ishr => match st with
    | .inl y :: .inl x :: st' => if 0 ≤ x ∧ 0 ≤ y ∧ y < 31 then some (e.2.1, ls, vI (x / 2 ^ y.toNat) :: st', M) else none
    | _ => none
  | .iand => match st with
    | .inl y :: .inl x :: st' => if 0 ≤ x ∧ 0 ≤ y then some (e.2.1, ls, vI ((x.toNat &&& y.toNat : Nat) : Int) :: st', M) else none
    | _ => none
  | .ior => match st with
    | .inl y :: .inl x :: st' => if 0 ≤ x ∧ 0 ≤ y then some (e.2.1, ls, vI ((x.toNat ||| y.toNat : Nat) : Int) :: st', M) else none
    | _ => none
  | .ixor => match st with
    | .inl y :: .inl x :: st' => if 0 ≤ x ∧ 0 ≤ y then some (e.2.1, ls, vI ((x.toNat ^^^ y.toNat : Nat) : Int) :: st', M) else none
    | _ => none
  | .i2l => match st with
    | .inl x :: st' => some (e.2.1, ls, vL x :: st', M)
    | _ => none
  | .lcmp => match st with
    | .inr (.inl y) :: .inr (.inl x) :: st' => some (e.2.1, ls, vI (if y < x then 1 else if x = y then 0 else -1) :: st', M)
    | _ => none
  | .dup => match st with
    | v :: st' => if isL v then none else some (e.2.1, ls, v :: v :: st', M)
    | _ => none
  | .dup2 => match st with
    | v :: w :: st' => if isL v || isL w then none else some (e.2.1, ls, v :: w :: v :: w :: st', M)
    | _ => none
  | .goto _ => some (e.2.2.2.1, ls, st, M)
  | .if_icmp c _ => match st with
    | .inl y :: .inl x :: st' => some (if cmpI c x y then e.2.2.2.1 else e.2.1, ls, st', M)
    | _ => none
  | .ifCond c _ => match st with
    | .inl x :: st' => some (if cmpI c x 0 then e.2.2.2.1 else e.2.1, ls, st', M)
    | _ => none
  | .tableswitch _ lo hi _ => match st with
    | .inl x :: st' => some (if x < lo ∨ hi < x then e.2.2.2.2.2.getD 0 0 else e.2.2.2.2.2.getD (1 + (x - lo).toNat) 0, ls, st', M)
    | _ => none
  | .getfield _ => match st with
    | .inr (.inr p) :: st' => match M.1[p]? with
      | some (.inr (ci, fs)) => if ci = e.2.2.2.1 then match fs[e.2.2.2.2.1]? with
          | some none => some (e.2.1, ls, vI (M.2.1 p e.2.2.2.2.1) :: st', M)
          | some (some (some q)) => some (e.2.1, ls, vR q :: st', M)
          | _ => none
        else none
      | _ => none
    | _ => none
  | .putfield _ => match st with
    | .inl x :: .inr (.inr p) :: st' => match M.1[p]? with
      | some (.inr (ci, fs)) => if ci = e.2.2.2.1 then match fs[e.2.2.2.2.1]? with
          | some none => some (e.2.1, ls, st', (M.1, u2 M.2.1 p e.2.2.2.2.1 x, M.2.2))
          | _ => none
        else none
      | _ => none
    | .inr (.inr q) :: .inr (.inr p) :: st' => match M.1[p]? with
      | some (.inr (ci, fs)) => if ci = e.2.2.2.1 then match fs[e.2.2.2.2.1]? with
          | some (some _) => some (e.2.1, ls, st', (M.1.set p (.inr (ci, fs.set e.2.2.2.2.1 (some (some q)))), M.2))
          | _ => none
        else none
      | _ => none
    | _ => none
  | .iaload => match st with
    | .inl i :: .inr (.inr p) :: st' => match M.1[p]? with
      | some (.inl (false, n)) => if 0 ≤ i ∧ i < n then some (e.2.1, ls, vI (M.2.1 p i) :: st', M) else none
      | _ => none
    | _ => none
  | .baload => match st with
    | .inl i :: .inr (.inr p) :: st' => match M.1[p]? with
      | some (.inl (true, n)) => if 0 ≤ i ∧ i < n then some (e.2.1, ls, vI (M.2.1 p i) :: st', M) else none
      | _ => none
    | _ => none
  | .iastore => match st with
    | .inl x :: .inl i :: .inr (.inr p) :: st' => match M.1[p]? with
      | some (.inl (false, n)) => if 0 ≤ i ∧ i < n then some (e.2.1, ls, st', (M.1, u2 M.2.1 p i x, M.2.2)) else none
      | _ => none
    | _ => none
  | .bastore => match st with
    | .inl x :: .inl i :: .inr (.inr p) :: st' => match M.1[p]? with
      | some (.inl (true, n)) => if (0 ≤ i ∧ i < n) ∧ (x = 0 ∨ x = 1) then some (e.2.1, ls, st', (M.1, u2 M.2.1 p i x, M.2.2)) else none
      | _ => none
    | _ => none
  | .newarray _ => match st with
    | .inl n :: st' => if 0 ≤ n ∧ n ≤ 2147483647 ∧ n.toNat * 4 ≤ 536870912 ∧ 1 ≤ M.2.2.1 ∧ n.toNat ≤ M.2.2.2 then some (e.2.1, ls, vR M.1.length :: st', (M.1 ++ [.inl (e.2.2.2.1 == 1, n.toNat)], u0 M.2.1 M.1.length, M.2.2.1 - 1, M.2.2.2 - n.toNat)) else none
    | _ => none
  | .new _ => if 1 ≤ M.2.2.1 ∧ (bl e.2.2.2.1).length ≤ M.2.2.2 then some (e.2.1, ls, vR M.1.length :: st, (M.1 ++ [.inr (e.2.2.2.1, bl e.2.2.2.1)], u0 M.2.1 M.1.length, M.2.2.1 - 1, M.2.2.2 - (bl e.2.2.2.1).length)) else none
  | .invokestatic _ => if e.2.2.2.2.1 = 0 then (match st with
      | .inl y :: .inl x :: st' => if st'.length ≤ 4 then some (e.2.1, ls, vI (if x < y then y else x) :: st', M) else none
      | _ => none)
    else if e.2.2.2.2.1 = 1 then (match st with
      | .inl n :: .inl dp :: .inr (.inr q) :: .inl sp :: .inr (.inr p) :: st' => match M.1[p]?, M.1[q]? with
        | some (.inl (false, n0)), some (.inl (false, n1)) => if (0 ≤ sp ∧ 0 ≤ dp ∧ 0 ≤ n ∧ sp + n ≤ n0 ∧ dp + n ≤ n1) ∧ st'.length ≤ 4 then some (e.2.1, ls, st', (M.1, cpM M.2.1 p q sp dp n, M.2.2)) else none
        | _, _ => none
      | _ => none)
    else none
  | .invokespecial _ => if e.2.2.2.2.1 = 2 then (match st with
      | .inr (.inr _) :: st' => if st' = [] then some (e.2.1, ls, st', M) else none
      | _ => none) else none
  | _ => none
/-- a callee of this class's program, if the instruction is a call of one -/
def cee (e : En) : Option Nat := match e.1 with
  | .invokevirtual _ => if 3 ≤ e.2.2.2.2.1 then some e.2.2.2.1 else none
  | .invokestatic _ => if 3 ≤ e.2.2.2.2.1 then some e.2.2.2.1 else none
  | .invokespecial _ => if 3 ≤ e.2.2.2.2.1 then some e.2.2.2.1 else none
  | _ => none
/-- the locals at a method's entry -/
def sl2 (v : PV) : Lo := if isL v then [some v, none] else [some v]
def entL (k : Nat) (As : List PV) : Lo := As.flatMap sl2 ++ List.replicate (mL k - (As.flatMap sl2).length) none
/-- the arguments of a call fit -/
def argOk (j : Nat) (As : List PV) (S : List Shp) : Bool :=
  (!nL j || As.all (fun v => !isL v)) && decide ((As.flatMap sl2).length ≤ mL j) && (mZ j == 2 || (match As with
    | .inr (.inr p) :: _ => (match S[p]? with
      | some (.inr (ci, _)) => ci == mI j
      | _ => false)
    | _ => false))
def exec : Nat → Nat → Nat → Lo → List PV → Mem → Option (Option PV × Mem)
  | 0, _, _, _, _, _ => none
  | f + 1, k, pc, ls, st, M => match cdAt k pc with
    | none => none
    | some e => match e.1 with
      | .return_ => if mR k = 0 ∧ st = [] then some (none, M) else none
      | .ireturn => match st with
        | [.inl x] => if mR k = 1 ∨ (mR k = 2 ∧ (x = 0 ∨ x = 1)) then some (some (vI x), M) else none
        | _ => none
      | _ => match cee e with
        | some j => if mN j ≤ st.length ∧ (st.drop (mN j)).length ≤ 4 ∧ argOk j (st.take (mN j)).reverse M.1 = true ∧ mC j ≤ M.2.2.1 ∧ mS j ≤ M.2.2.2 then
            (match exec f j 0 (entL j (st.take (mN j)).reverse) [] (M.1, M.2.1, mC j, mS j) with
              | some (r, M') => exec f k e.2.1 ls (r.toList ++ st.drop (mN j)) (M'.1, M'.2.1, M.2.2.1 - mC j, M.2.2.2 - mS j)
              | none => none)
          else none
        | none => match stp e ls st M with
          | some (pc', ls', st', M') => exec f k pc' ls' st' M'
          | none => none
