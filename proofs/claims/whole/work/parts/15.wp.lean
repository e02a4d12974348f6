/-! WEAKEST PRECONDITIONS over the pure machine, once both objects are made: the shapes stay, the contents change -/
def SH : List Shp := [.inr (11, [some (some 1), some (some 3), some (some 4), some (some 8), some (some 12), some (some 30), some (some 31), some (some 32), some (some 36), some (some 40), some (some 42), some (some 46)]), .inr (9, [some (some 2), none]), .inl (false, 120), .inr (5, [none]), .inr (6, [none, some (some 5), some (some 6), some (some 7)]), .inl (false, 16), .inl (false, 8), .inl (false, 64), .inr (6, [none, some (some 9), some (some 10), some (some 11)]), .inl (false, 16), .inl (false, 8), .inl (false, 64), .inr (4, [some (some 13), some (some 19), some (some 25), some (some 28)]), .inr (3, [none, some (some 14), some (some 15), some (some 16), some (some 17), some (some 18)]), .inl (false, 8), .inl (false, 64), .inl (false, 8), .inl (false, 8), .inl (false, 81), .inr (3, [none, some (some 20), some (some 21), some (some 22), some (some 23), some (some 24)]), .inl (false, 8), .inl (false, 64), .inl (false, 8), .inl (false, 8), .inl (false, 81), .inr (2, [some (some 26), some (some 27)]), .inl (false, 64), .inl (false, 64), .inr (1, [some (some 29)]), .inl (false, 64), .inr (7, [none, none, none]), .inr (7, [none, none, none]), .inr (10, [some (some 33), some (some 34), some (some 35)]), .inl (false, 64), .inl (false, 64), .inl (false, 64), .inr (10, [some (some 37), some (some 38), some (some 39)]), .inl (false, 64), .inl (false, 64), .inl (false, 64), .inr (0, [some (some 41), none]), .inl (false, 10), .inr (8, [some (some 43), some (some 44), some (some 45), none]), .inl (false, 6), .inl (false, 6), .inl (true, 6), .inl (false, 2), .inr (12, [none, some (some 48), some (some 49), some (some 50), some (some 51), some (some 52), some (some 53), some (some 54), none, some (some 55), none, none, none, none, none, none, none, some (some 56), some (some 57), some (some 58), some (some 59), some (some 60), some (some 61), some (some 62), none, some (some 63), some (some 64)]), .inl (false, 8), .inl (false, 16), .inl (false, 64), .inl (false, 128), .inl (false, 64), .inl (false, 3), .inl (false, 30), .inl (false, 120), .inl (false, 8), .inl (false, 16), .inl (false, 64), .inl (false, 81), .inl (false, 64), .inl (false, 64), .inl (false, 24), .inl (false, 6), .inl (true, 2)]
abbrev Po : Type := Option PV → Mu → Prop
def Wp (k pc : Nat) (ls : Lo) (st : List PV) (μ : Mu) (R : Po) : Prop := ∃ (f : Nat) (r : Option PV) (μ' : Mu), exec f k pc ls st (SH, μ, 0, 0) = some (r, (SH, μ', 0, 0)) ∧ R r μ'
def callOk (j : Nat) (st : List PV) : Bool := decide (mN j ≤ st.length) && decide ((st.drop (mN j)).length ≤ 4) && argOk j (st.take (mN j)).reverse SH && mC j == 0 && mS j == 0
/-- one instruction -/
def wst (k : Nat) (e : En) (ls : Lo) (st : List PV) (μ : Mu) (R : Po) (K : Nat → Lo → List PV → Mu → Prop) : Prop := match e.1 with
  | .iconst _ => K e.2.1 ls (vI e.2.2.1 :: st) μ
  | .bipush _ => K e.2.1 ls (vI e.2.2.1 :: st) μ
  | .sipush _ => K e.2.1 ls (vI e.2.2.1 :: st) μ
  | .lconst _ => K e.2.1 ls (vL e.2.2.1 :: st) μ
  | .ldc2_w _ => K e.2.1 ls (vL e.2.2.1 :: st) μ
  | .iload _ => match ls.getD e.2.2.2.1 none with
    | some (.inl x) => K e.2.1 ls (vI x :: st) μ
    | _ => False
  | .iload_n _ => match ls.getD e.2.2.2.1 none with
    | some (.inl x) => K e.2.1 ls (vI x :: st) μ
    | _ => False
  | .lload _ => match ls.getD e.2.2.2.1 none with
    | some (.inr (.inl x)) => K e.2.1 ls (vL x :: st) μ
    | _ => False
  | .lload_n _ => match ls.getD e.2.2.2.1 none with
    | some (.inr (.inl x)) => K e.2.1 ls (vL x :: st) μ
    | _ => False
  | .aload _ => match ls.getD e.2.2.2.1 none with
    | some (.inr (.inr x)) => K e.2.1 ls (vR x :: st) μ
    | _ => False
  | .aload_n _ => match ls.getD e.2.2.2.1 none with
    | some (.inr (.inr x)) => K e.2.1 ls (vR x :: st) μ
    | _ => False
  | .istore _ => match st with
    | .inl x :: st' => K e.2.1 (ls.set e.2.2.2.1 (some (vI x))) st' μ
    | _ => False
  | .istore_n _ => match st with
    | .inl x :: st' => K e.2.1 (ls.set e.2.2.2.1 (some (vI x))) st' μ
    | _ => False
  | .iinc _ _ => match ls.getD e.2.2.2.1 none with
    | some (.inl x) => iR (x + e.2.2.1) ∧ K e.2.1 (ls.set e.2.2.2.1 (some (vI (x + e.2.2.1)))) st μ
    | _ => False
  | .iadd => match st with
    | .inl y :: .inl x :: st' => iR (x + y) ∧ K e.2.1 ls (vI (x + y) :: st') μ
    | _ => False
  | .isub => match st with
    | .inl y :: .inl x :: st' => iR (x - y) ∧ K e.2.1 ls (vI (x - y) :: st') μ
    | _ => False
  | .imul => match st with
    | .inl y :: .inl x :: st' => iR (x * y) ∧ K e.2.1 ls (vI (x * y) :: st') μ
    | _ => False
  | .idiv => match st with
    | .inl y :: .inl x :: st' => (0 ≤ x ∧ 0 < y) ∧ K e.2.1 ls (vI (x / y) :: st') μ
    | _ => False
  | .irem => match st with
    | .inl y :: .inl x :: st' => (0 ≤ x ∧ 0 < y) ∧ K e.2.1 ls (vI (x % y) :: st') μ
    | _ => False
  | .ishl => match st with
    | .inl y :: .inl x :: st' => (0 ≤ x ∧ 0 ≤ y ∧ y < 31 ∧ x * 2 ^ y.toNat ≤ 2147483647) ∧ K e.2.1 ls (vI (x * 2 ^ y.toNat) :: st') μ
    | _ => False
  | .ishr => match st with
    | .inl y :: .inl x :: st' => (0 ≤ x ∧ 0 ≤ y ∧ y < 31) ∧ K e.2.1 ls (vI (x / 2 ^ y.toNat) :: st') μ
    | _ => False
  | .iand => match st with
    | .inl y :: .inl x :: st' => (0 ≤ x ∧ 0 ≤ y) ∧ K e.2.1 ls (vI (((x.toNat &&& y.toNat : Nat) : Int)) :: st') μ
    | _ => False
  | .ior => match st with
    | .inl y :: .inl x :: st' => (0 ≤ x ∧ 0 ≤ y) ∧ K e.2.1 ls (vI (((x.toNat ||| y.toNat : Nat) : Int)) :: st') μ
    | _ => False
  | .ixor => match st with
    | .inl y :: .inl x :: st' => (0 ≤ x ∧ 0 ≤ y) ∧ K e.2.1 ls (vI (((x.toNat ^^^ y.toNat : Nat) : Int)) :: st') μ
    | _ => False
  | .i2l => match st with
    | .inl x :: st' => K e.2.1 ls (vL x :: st') μ
    | _ => False
  | .lcmp => match st with
    | .inr (.inl y) :: .inr (.inl x) :: st' => K e.2.1 ls (vI (if y < x then 1 else if x = y then 0 else -1) :: st') μ
    | _ => False
  | .dup => match st with
    | .inl x :: st' => K e.2.1 ls (vI x :: vI x :: st') μ
    | .inr (.inr x) :: st' => K e.2.1 ls (vR x :: vR x :: st') μ
    | _ => False
  | .dup2 => match st with
    | .inl x :: .inr (.inr y) :: st' => K e.2.1 ls (vI x :: vR y :: vI x :: vR y :: st') μ
    | _ => False
  | .goto _ => K e.2.2.2.1 ls st μ
  | .if_icmp .eq _ => match st with
    | .inl y :: .inl x :: st' => (x = y → Wp k e.2.2.2.1 ls st' μ R) ∧ (¬ x = y → Wp k e.2.1 ls st' μ R)
    | _ => False
  | .if_icmp .ne _ => match st with
    | .inl y :: .inl x :: st' => (¬ x = y → Wp k e.2.2.2.1 ls st' μ R) ∧ (x = y → Wp k e.2.1 ls st' μ R)
    | _ => False
  | .if_icmp .lt _ => match st with
    | .inl y :: .inl x :: st' => (x < y → Wp k e.2.2.2.1 ls st' μ R) ∧ (¬ x < y → Wp k e.2.1 ls st' μ R)
    | _ => False
  | .if_icmp .ge _ => match st with
    | .inl y :: .inl x :: st' => (y ≤ x → Wp k e.2.2.2.1 ls st' μ R) ∧ (¬ y ≤ x → Wp k e.2.1 ls st' μ R)
    | _ => False
  | .if_icmp .gt _ => match st with
    | .inl y :: .inl x :: st' => (y < x → Wp k e.2.2.2.1 ls st' μ R) ∧ (¬ y < x → Wp k e.2.1 ls st' μ R)
    | _ => False
  | .if_icmp .le _ => match st with
    | .inl y :: .inl x :: st' => (x ≤ y → Wp k e.2.2.2.1 ls st' μ R) ∧ (¬ x ≤ y → Wp k e.2.1 ls st' μ R)
    | _ => False
  | .ifCond .eq _ => match st with
    | .inl x :: st' => (x = 0 → Wp k e.2.2.2.1 ls st' μ R) ∧ (¬ x = 0 → Wp k e.2.1 ls st' μ R)
    | _ => False
  | .ifCond .ne _ => match st with
    | .inl x :: st' => (¬ x = 0 → Wp k e.2.2.2.1 ls st' μ R) ∧ (x = 0 → Wp k e.2.1 ls st' μ R)
    | _ => False
  | .ifCond .lt _ => match st with
    | .inl x :: st' => (x < 0 → Wp k e.2.2.2.1 ls st' μ R) ∧ (¬ x < 0 → Wp k e.2.1 ls st' μ R)
    | _ => False
  | .ifCond .ge _ => match st with
    | .inl x :: st' => (0 ≤ x → Wp k e.2.2.2.1 ls st' μ R) ∧ (¬ 0 ≤ x → Wp k e.2.1 ls st' μ R)
    | _ => False
  | .ifCond .gt _ => match st with
    | .inl x :: st' => (0 < x → Wp k e.2.2.2.1 ls st' μ R) ∧ (¬ 0 < x → Wp k e.2.1 ls st' μ R)
    | _ => False
  | .ifCond .le _ => match st with
    | .inl x :: st' => (x ≤ 0 → Wp k e.2.2.2.1 ls st' μ R) ∧ (¬ x ≤ 0 → Wp k e.2.1 ls st' μ R)
    | _ => False
  | .tableswitch _ lo hi _ => match st with
    | .inl x :: st' => (∀ j : Nat, j < (hi - lo).toNat + 1 → x = lo + j → Wp k (e.2.2.2.2.2.getD (1 + j) 0) ls st' μ R) ∧ (x < lo ∨ hi < x → Wp k (e.2.2.2.2.2.getD 0 0) ls st' μ R)
    | _ => False
  | .getfield _ => match st with
    | .inr (.inr p) :: st' => match SH[p]? with
      | some (.inr (ci, fs)) => if ci = e.2.2.2.1 then match fs[e.2.2.2.2.1]? with
          | some none => K e.2.1 ls (vI (μ p e.2.2.2.2.1) :: st') μ
          | some (some (some q)) => K e.2.1 ls (vR q :: st') μ
          | _ => False
        else False
      | _ => False
    | _ => False
  | .putfield _ => match st with
    | .inl x :: .inr (.inr p) :: st' => match SH[p]? with
      | some (.inr (ci, fs)) => if ci = e.2.2.2.1 then match fs[e.2.2.2.2.1]? with
          | some none => K e.2.1 ls st' (u2 μ p e.2.2.2.2.1 x)
          | _ => False
        else False
      | _ => False
    | _ => False
  | .iaload => match st with
    | .inl i :: .inr (.inr p) :: st' => match SH[p]? with
      | some (.inl (false, n)) => (0 ≤ i ∧ i < n) ∧ K e.2.1 ls (vI (μ p i) :: st') μ
      | _ => False
    | _ => False
  | .baload => match st with
    | .inl i :: .inr (.inr p) :: st' => match SH[p]? with
      | some (.inl (true, n)) => (0 ≤ i ∧ i < n) ∧ K e.2.1 ls (vI (μ p i) :: st') μ
      | _ => False
    | _ => False
  | .iastore => match st with
    | .inl x :: .inl i :: .inr (.inr p) :: st' => match SH[p]? with
      | some (.inl (false, n)) => (0 ≤ i ∧ i < n) ∧ K e.2.1 ls st' (u2 μ p i x)
      | _ => False
    | _ => False
  | .bastore => match st with
    | .inl x :: .inl i :: .inr (.inr p) :: st' => match SH[p]? with
      | some (.inl (true, n)) => ((0 ≤ i ∧ i < n) ∧ (x = 0 ∨ x = 1)) ∧ K e.2.1 ls st' (u2 μ p i x)
      | _ => False
    | _ => False
  | .invokestatic _ => if e.2.2.2.2.1 = 0 then (match st with
      | .inl y :: .inl x :: st' => st'.length ≤ 4 ∧ K e.2.1 ls (vI (if x < y then y else x) :: st') μ
      | _ => False)
    else if e.2.2.2.2.1 = 1 then (match st with
      | .inl n :: .inl dp :: .inr (.inr q) :: .inl sp :: .inr (.inr p) :: st' => match SH[p]?, SH[q]? with
        | some (.inl (false, n0)), some (.inl (false, n1)) => ((0 ≤ sp ∧ 0 ≤ dp ∧ 0 ≤ n ∧ sp + n ≤ n0 ∧ dp + n ≤ n1) ∧ st'.length ≤ 4) ∧ K e.2.1 ls st' (cpM μ p q sp dp n)
        | _, _ => False
      | _ => False)
    else if 3 ≤ e.2.2.2.2.1 then (match callOk e.2.2.2.1 st with
      | true => Wp e.2.2.2.1 0 (entL e.2.2.2.1 (st.take (mN e.2.2.2.1)).reverse) [] μ (fun r μ' => Wp k e.2.1 ls (r.toList ++ st.drop (mN e.2.2.2.1)) μ' R)
      | false => False) else False
  | .invokevirtual _ => if 3 ≤ e.2.2.2.2.1 then (match callOk e.2.2.2.1 st with
      | true => Wp e.2.2.2.1 0 (entL e.2.2.2.1 (st.take (mN e.2.2.2.1)).reverse) [] μ (fun r μ' => Wp k e.2.1 ls (r.toList ++ st.drop (mN e.2.2.2.1)) μ' R)
      | false => False) else False
  | .return_ => match st with
    | [] => if mR k = 0 then R none μ else False
    | _ => False
  | .ireturn => match st with
    | [.inl x] => if mR k = 1 then R (some (vI x)) μ else if mR k = 2 then (x = 0 ∨ x = 1) ∧ R (some (vI x)) μ else False
    | _ => False
  | _ => False
def wpr : Nat → Nat → Nat → Lo → List PV → Mu → Po → Prop
  | 0, k, pc, ls, st, μ, R => Wp k pc ls st μ R
  | n + 1, k, pc, ls, st, μ, R => match cdAt k pc with
    | some e => wst k e ls st μ R (fun pc' ls' st' μ' => wpr n k pc' ls' st' μ' R)
    | none => False
theorem ex_succ {f k pc : Nat} {ls : Lo} {st : List PV} {M : Mem} {e : En} (hc : cdAt k pc = some e) (h1 : e.1 ≠ .return_) (h2 : e.1 ≠ .ireturn) : exec (f + 1) k pc ls st M = (match cee e with
        | some j => if mN j ≤ st.length ∧ (st.drop (mN j)).length ≤ 4 ∧ argOk j (st.take (mN j)).reverse M.1 = true ∧ mC j ≤ M.2.2.1 ∧ mS j ≤ M.2.2.2 then
            (match exec f j 0 (entL j (st.take (mN j)).reverse) [] (M.1, M.2.1, mC j, mS j) with
              | some (r, M') => exec f k e.2.1 ls (r.toList ++ st.drop (mN j)) (M'.1, M'.2.1, M.2.2.1 - mC j, M.2.2.2 - mS j)
              | none => none)
          else none
        | none => match stp e ls st M with
          | some (pc', ls', st', M') => exec f k pc' ls' st' M'
          | none => none) := by
  obtain ⟨ins, r⟩ := e
  conv => lhs; unfold exec
  rw [hc]
  dsimp only
  cases ins
  case return_ => exact absurd rfl h1
  case ireturn => exact absurd rfl h2
  all_goals rfl
theorem ex_mono : ∀ (f k pc : Nat) (ls : Lo) (st : List PV) (M : Mem) (q : Option PV × Mem), exec f k pc ls st M = some q → exec (f + 1) k pc ls st M = some q := by
  intro f
  induction f with
  | zero =>
    intro k pc ls st M q h
    have h2 : (none : Option (Option PV × Mem)) = some q := h
    cases h2
  | succ f ih =>
    intro k pc ls st M q h
    cases hc : cdAt k pc with
    | none =>
      unfold exec at h
      rw [hc] at h
      cases h
    | some e =>
      by_cases h1 : e.1 = .return_
      · unfold exec at h ⊢
        rw [hc] at h ⊢
        dsimp only at h ⊢
        rw [h1] at h ⊢
        exact h
      · by_cases h2 : e.1 = .ireturn
        · unfold exec at h ⊢
          rw [hc] at h ⊢
          dsimp only at h ⊢
          rw [h2] at h ⊢
          exact h
        · rw [ex_succ hc h1 h2] at h ⊢
          cases hj : cee e with
          | none =>
            rw [hj] at h
            dsimp only at h ⊢
            cases hs : stp e ls st M with
            | none => rw [hs] at h; cases h
            | some z =>
              rw [hs] at h
              exact ih _ _ _ _ _ _ h
          | some j =>
            rw [hj] at h
            dsimp only at h ⊢
            split at h
            · rename_i hq
              rw [if_pos hq]
              cases hx : exec f j 0 (entL j (st.take (mN j)).reverse) [] (M.1, M.2.1, mC j, mS j) with
              | none => rw [hx] at h; cases h
              | some z =>
                rw [hx] at h
                rw [ih _ _ _ _ _ _ hx]
                exact ih _ _ _ _ _ _ h
            · cases h
theorem ex_le {f g k pc : Nat} {ls : Lo} {st : List PV} {M : Mem} {q : Option PV × Mem} (hfg : f ≤ g) (h : exec f k pc ls st M = some q) : exec g k pc ls st M = some q := by
  induction hfg with
  | refl => exact h
  | step _ ih => exact ex_mono _ _ _ _ _ _ _ ih
theorem Wp.st {k pc pc' : Nat} {ls ls' : Lo} {st st' : List PV} {μ μ' : Mu} {R : Po} {e : En} (hc : cdAt k pc = some e) (h1 : e.1 ≠ .return_) (h2 : e.1 ≠ .ireturn) (h3 : cee e = none) (hs : stp e ls st (SH, μ, 0, 0) = some (pc', ls', st', (SH, μ', 0, 0))) (h : Wp k pc' ls' st' μ' R) : Wp k pc ls st μ R := by
  obtain ⟨f, r, μ2, hx, hR⟩ := h
  refine ⟨f + 1, r, μ2, ?_, hR⟩
  rw [ex_succ hc h1 h2, h3]
  dsimp only
  rw [hs]
  exact hx
theorem Wp.call {k pc j : Nat} {ls : Lo} {st : List PV} {μ : Mu} {R : Po} {e : En} (hc : cdAt k pc = some e) (h1 : e.1 ≠ .return_) (h2 : e.1 ≠ .ireturn) (h3 : cee e = some j) (hok : callOk j st = true) (h : Wp j 0 (entL j (st.take (mN j)).reverse) [] μ (fun r μ' => Wp k e.2.1 ls (r.toList ++ st.drop (mN j)) μ' R)) : Wp k pc ls st μ R := by
  obtain ⟨f1, r1, μ1, hx1, f2, r2, μ2, hx2, hR⟩ := h
  unfold callOk at hok
  simp only [Bool.and_eq_true, decide_eq_true_eq, beq_iff_eq] at hok
  obtain ⟨⟨⟨⟨o1, o2⟩, o3⟩, o4⟩, o5⟩ := hok
  refine ⟨max f1 f2 + 1, r2, μ2, ?_, hR⟩
  rw [ex_succ hc h1 h2, h3]
  dsimp only
  rw [if_pos ⟨o1, o2, o3, by rw [o4]; exact Nat.le_refl _, by rw [o5]; exact Nat.le_refl _⟩, o4, o5, ex_le (Nat.le_max_left _ _) hx1]
  exact ex_le (Nat.le_max_right _ _) hx2
set_option maxHeartbeats 4000000 in
theorem wst_ok {k pc : Nat} {e : En} {ls : Lo} {st : List PV} {μ : Mu} {R : Po} {K : Nat → Lo → List PV → Mu → Prop} (hc : cdAt k pc = some e) (hK : ∀ pc' ls' st' μ', K pc' ls' st' μ' → Wp k pc' ls' st' μ' R) (h : wst k e ls st μ R K) : Wp k pc ls st μ R := by
  obtain ⟨ins, nx, cv, a, b, tg⟩ := e
  cases ins
  case iconst n =>
    unfold wst at h
    dsimp only at h
    exact Wp.st hc (by intro z; cases z) (by intro z; cases z) rfl rfl (hK _ _ _ _ h)
  case bipush n =>
    unfold wst at h
    dsimp only at h
    exact Wp.st hc (by intro z; cases z) (by intro z; cases z) rfl rfl (hK _ _ _ _ h)
  case sipush n =>
    unfold wst at h
    dsimp only at h
    exact Wp.st hc (by intro z; cases z) (by intro z; cases z) rfl rfl (hK _ _ _ _ h)
  case lconst n =>
    unfold wst at h
    dsimp only at h
    exact Wp.st hc (by intro z; cases z) (by intro z; cases z) rfl rfl (hK _ _ _ _ h)
  case ldc2_w i =>
    unfold wst at h
    dsimp only at h
    exact Wp.st hc (by intro z; cases z) (by intro z; cases z) rfl rfl (hK _ _ _ _ h)
  case iload i =>
    unfold wst at h
    dsimp only at h
    split at h
    · rename_i x hx
      exact Wp.st hc (by intro z; cases z) (by intro z; cases z) rfl (by unfold stp; dsimp only; rw [hx]) (hK _ _ _ _ h)
    · exact h.elim
  case iload_n i =>
    unfold wst at h
    dsimp only at h
    split at h
    · rename_i x hx
      exact Wp.st hc (by intro z; cases z) (by intro z; cases z) rfl (by unfold stp; dsimp only; rw [hx]) (hK _ _ _ _ h)
    · exact h.elim
  case lload i =>
    unfold wst at h
    dsimp only at h
    split at h
    · rename_i x hx
      exact Wp.st hc (by intro z; cases z) (by intro z; cases z) rfl (by unfold stp; dsimp only; rw [hx]) (hK _ _ _ _ h)
    · exact h.elim
  case lload_n i =>
    unfold wst at h
    dsimp only at h
    split at h
    · rename_i x hx
      exact Wp.st hc (by intro z; cases z) (by intro z; cases z) rfl (by unfold stp; dsimp only; rw [hx]) (hK _ _ _ _ h)
    · exact h.elim
  case aload i =>
    unfold wst at h
    dsimp only at h
    split at h
    · rename_i x hx
      exact Wp.st hc (by intro z; cases z) (by intro z; cases z) rfl (by unfold stp; dsimp only; rw [hx]) (hK _ _ _ _ h)
    · exact h.elim
  case aload_n i =>
    unfold wst at h
    dsimp only at h
    split at h
    · rename_i x hx
      exact Wp.st hc (by intro z; cases z) (by intro z; cases z) rfl (by unfold stp; dsimp only; rw [hx]) (hK _ _ _ _ h)
    · exact h.elim
  case istore i =>
    unfold wst at h
    dsimp only at h
    split at h
    · rename_i x st2
      exact Wp.st hc (by intro z; cases z) (by intro z; cases z) rfl rfl (hK _ _ _ _ h)
    · exact h.elim
  case istore_n i =>
    unfold wst at h
    dsimp only at h
    split at h
    · rename_i x st2
      exact Wp.st hc (by intro z; cases z) (by intro z; cases z) rfl rfl (hK _ _ _ _ h)
    · exact h.elim
  case iinc i n =>
    unfold wst at h
    dsimp only at h
    split at h
    · rename_i x hx
      exact Wp.st hc (by intro z; cases z) (by intro z; cases z) rfl (by unfold stp; dsimp only; rw [hx]; dsimp only; rw [if_pos h.1]) (hK _ _ _ _ h.2)
    · exact h.elim
  case iadd =>
    unfold wst at h
    dsimp only at h
    split at h
    · rename_i y x st2
      exact Wp.st hc (by intro z; cases z) (by intro z; cases z) rfl (by unfold stp; dsimp only; rw [if_pos h.1]) (hK _ _ _ _ h.2)
    · exact h.elim
  case isub =>
    unfold wst at h
    dsimp only at h
    split at h
    · rename_i y x st2
      exact Wp.st hc (by intro z; cases z) (by intro z; cases z) rfl (by unfold stp; dsimp only; rw [if_pos h.1]) (hK _ _ _ _ h.2)
    · exact h.elim
  case imul =>
    unfold wst at h
    dsimp only at h
    split at h
    · rename_i y x st2
      exact Wp.st hc (by intro z; cases z) (by intro z; cases z) rfl (by unfold stp; dsimp only; rw [if_pos h.1]) (hK _ _ _ _ h.2)
    · exact h.elim
  case idiv =>
    unfold wst at h
    dsimp only at h
    split at h
    · rename_i y x st2
      exact Wp.st hc (by intro z; cases z) (by intro z; cases z) rfl (by unfold stp; dsimp only; rw [if_pos h.1]) (hK _ _ _ _ h.2)
    · exact h.elim
  case irem =>
    unfold wst at h
    dsimp only at h
    split at h
    · rename_i y x st2
      exact Wp.st hc (by intro z; cases z) (by intro z; cases z) rfl (by unfold stp; dsimp only; rw [if_pos h.1]) (hK _ _ _ _ h.2)
    · exact h.elim
  case ishl =>
    unfold wst at h
    dsimp only at h
    split at h
    · rename_i y x st2
      exact Wp.st hc (by intro z; cases z) (by intro z; cases z) rfl (by unfold stp; dsimp only; rw [if_pos h.1]) (hK _ _ _ _ h.2)
    · exact h.elim
  case ishr =>
    unfold wst at h
    dsimp only at h
    split at h
    · rename_i y x st2
      exact Wp.st hc (by intro z; cases z) (by intro z; cases z) rfl (by unfold stp; dsimp only; rw [if_pos h.1]) (hK _ _ _ _ h.2)
    · exact h.elim
  case iand =>
    unfold wst at h
    dsimp only at h
    split at h
    · rename_i y x st2
      exact Wp.st hc (by intro z; cases z) (by intro z; cases z) rfl (by unfold stp; dsimp only; rw [if_pos h.1]) (hK _ _ _ _ h.2)
    · exact h.elim
  case ior =>
    unfold wst at h
    dsimp only at h
    split at h
    · rename_i y x st2
      exact Wp.st hc (by intro z; cases z) (by intro z; cases z) rfl (by unfold stp; dsimp only; rw [if_pos h.1]) (hK _ _ _ _ h.2)
    · exact h.elim
  case ixor =>
    unfold wst at h
    dsimp only at h
    split at h
    · rename_i y x st2
      exact Wp.st hc (by intro z; cases z) (by intro z; cases z) rfl (by unfold stp; dsimp only; rw [if_pos h.1]) (hK _ _ _ _ h.2)
    · exact h.elim
  case i2l =>
    unfold wst at h
    dsimp only at h
    split at h
    · exact Wp.st hc (by intro z; cases z) (by intro z; cases z) rfl rfl (hK _ _ _ _ h)
    · exact h.elim
  case lcmp =>
    unfold wst at h
    dsimp only at h
    split at h
    · exact Wp.st hc (by intro z; cases z) (by intro z; cases z) rfl rfl (hK _ _ _ _ h)
    · exact h.elim
  case dup =>
    unfold wst at h
    dsimp only at h
    split at h
    · exact Wp.st hc (by intro z; cases z) (by intro z; cases z) rfl rfl (hK _ _ _ _ h)
    · exact Wp.st hc (by intro z; cases z) (by intro z; cases z) rfl rfl (hK _ _ _ _ h)
    · exact h.elim
  case dup2 =>
    unfold wst at h
    dsimp only at h
    split at h
    · exact Wp.st hc (by intro z; cases z) (by intro z; cases z) rfl rfl (hK _ _ _ _ h)
    · exact h.elim
  case goto off =>
    unfold wst at h
    dsimp only at h
    exact Wp.st hc (by intro z; cases z) (by intro z; cases z) rfl rfl (hK _ _ _ _ h)
  case if_icmp cd off =>
    unfold wst at h
    dsimp only at h
    cases cd with
    | eq =>
      dsimp only at h
      split at h
      · rename_i y x st2
        by_cases hq : x = y
        · refine Wp.st hc (by intro z; cases z) (by intro z; cases z) rfl ?_ (h.1 hq)
          unfold stp; dsimp only
          rw [show cmpI .eq x y = true from decide_eq_true hq]; rfl
        · refine Wp.st hc (by intro z; cases z) (by intro z; cases z) rfl ?_ (h.2 hq)
          unfold stp; dsimp only
          rw [show cmpI .eq x y = false from decide_eq_false hq]; rfl
      · exact h.elim
    | ne =>
      dsimp only at h
      split at h
      · rename_i y x st2
        by_cases hq : x = y
        · refine Wp.st hc (by intro z; cases z) (by intro z; cases z) rfl ?_ (h.2 hq)
          unfold stp; dsimp only
          rw [show cmpI .ne x y = false from decide_eq_false (fun z => z hq)]; rfl
        · refine Wp.st hc (by intro z; cases z) (by intro z; cases z) rfl ?_ (h.1 hq)
          unfold stp; dsimp only
          rw [show cmpI .ne x y = true from decide_eq_true hq]; rfl
      · exact h.elim
    | lt =>
      dsimp only at h
      split at h
      · rename_i y x st2
        by_cases hq : x < y
        · refine Wp.st hc (by intro z; cases z) (by intro z; cases z) rfl ?_ (h.1 hq)
          unfold stp; dsimp only
          rw [show cmpI .lt x y = true from decide_eq_true hq]; rfl
        · refine Wp.st hc (by intro z; cases z) (by intro z; cases z) rfl ?_ (h.2 hq)
          unfold stp; dsimp only
          rw [show cmpI .lt x y = false from decide_eq_false hq]; rfl
      · exact h.elim
    | ge =>
      dsimp only at h
      split at h
      · rename_i y x st2
        by_cases hq : y ≤ x
        · refine Wp.st hc (by intro z; cases z) (by intro z; cases z) rfl ?_ (h.1 hq)
          unfold stp; dsimp only
          rw [show cmpI .ge x y = true from decide_eq_true hq]; rfl
        · refine Wp.st hc (by intro z; cases z) (by intro z; cases z) rfl ?_ (h.2 hq)
          unfold stp; dsimp only
          rw [show cmpI .ge x y = false from decide_eq_false hq]; rfl
      · exact h.elim
    | gt =>
      dsimp only at h
      split at h
      · rename_i y x st2
        by_cases hq : y < x
        · refine Wp.st hc (by intro z; cases z) (by intro z; cases z) rfl ?_ (h.1 hq)
          unfold stp; dsimp only
          rw [show cmpI .gt x y = true from decide_eq_true hq]; rfl
        · refine Wp.st hc (by intro z; cases z) (by intro z; cases z) rfl ?_ (h.2 hq)
          unfold stp; dsimp only
          rw [show cmpI .gt x y = false from decide_eq_false hq]; rfl
      · exact h.elim
    | le =>
      dsimp only at h
      split at h
      · rename_i y x st2
        by_cases hq : x ≤ y
        · refine Wp.st hc (by intro z; cases z) (by intro z; cases z) rfl ?_ (h.1 hq)
          unfold stp; dsimp only
          rw [show cmpI .le x y = true from decide_eq_true hq]; rfl
        · refine Wp.st hc (by intro z; cases z) (by intro z; cases z) rfl ?_ (h.2 hq)
          unfold stp; dsimp only
          rw [show cmpI .le x y = false from decide_eq_false hq]; rfl
      · exact h.elim
  case ifCond cd off =>
    unfold wst at h
    dsimp only at h
    cases cd with
    | eq =>
      dsimp only at h
      split at h
      · rename_i x st2
        by_cases hq : x = 0
        · refine Wp.st hc (by intro z; cases z) (by intro z; cases z) rfl ?_ (h.1 hq)
          unfold stp; dsimp only
          rw [show cmpI .eq x 0 = true from decide_eq_true hq]; rfl
        · refine Wp.st hc (by intro z; cases z) (by intro z; cases z) rfl ?_ (h.2 hq)
          unfold stp; dsimp only
          rw [show cmpI .eq x 0 = false from decide_eq_false hq]; rfl
      · exact h.elim
    | ne =>
      dsimp only at h
      split at h
      · rename_i x st2
        by_cases hq : x = 0
        · refine Wp.st hc (by intro z; cases z) (by intro z; cases z) rfl ?_ (h.2 hq)
          unfold stp; dsimp only
          rw [show cmpI .ne x 0 = false from decide_eq_false (fun z => z hq)]; rfl
        · refine Wp.st hc (by intro z; cases z) (by intro z; cases z) rfl ?_ (h.1 hq)
          unfold stp; dsimp only
          rw [show cmpI .ne x 0 = true from decide_eq_true hq]; rfl
      · exact h.elim
    | lt =>
      dsimp only at h
      split at h
      · rename_i x st2
        by_cases hq : x < 0
        · refine Wp.st hc (by intro z; cases z) (by intro z; cases z) rfl ?_ (h.1 hq)
          unfold stp; dsimp only
          rw [show cmpI .lt x 0 = true from decide_eq_true hq]; rfl
        · refine Wp.st hc (by intro z; cases z) (by intro z; cases z) rfl ?_ (h.2 hq)
          unfold stp; dsimp only
          rw [show cmpI .lt x 0 = false from decide_eq_false hq]; rfl
      · exact h.elim
    | ge =>
      dsimp only at h
      split at h
      · rename_i x st2
        by_cases hq : 0 ≤ x
        · refine Wp.st hc (by intro z; cases z) (by intro z; cases z) rfl ?_ (h.1 hq)
          unfold stp; dsimp only
          rw [show cmpI .ge x 0 = true from decide_eq_true hq]; rfl
        · refine Wp.st hc (by intro z; cases z) (by intro z; cases z) rfl ?_ (h.2 hq)
          unfold stp; dsimp only
          rw [show cmpI .ge x 0 = false from decide_eq_false hq]; rfl
      · exact h.elim
    | gt =>
      dsimp only at h
      split at h
      · rename_i x st2
        by_cases hq : 0 < x
        · refine Wp.st hc (by intro z; cases z) (by intro z; cases z) rfl ?_ (h.1 hq)
          unfold stp; dsimp only
          rw [show cmpI .gt x 0 = true from decide_eq_true hq]; rfl
        · refine Wp.st hc (by intro z; cases z) (by intro z; cases z) rfl ?_ (h.2 hq)
          unfold stp; dsimp only
          rw [show cmpI .gt x 0 = false from decide_eq_false hq]; rfl
      · exact h.elim
    | le =>
      dsimp only at h
      split at h
      · rename_i x st2
        by_cases hq : x ≤ 0
        · refine Wp.st hc (by intro z; cases z) (by intro z; cases z) rfl ?_ (h.1 hq)
          unfold stp; dsimp only
          rw [show cmpI .le x 0 = true from decide_eq_true hq]; rfl
        · refine Wp.st hc (by intro z; cases z) (by intro z; cases z) rfl ?_ (h.2 hq)
          unfold stp; dsimp only
          rw [show cmpI .le x 0 = false from decide_eq_false hq]; rfl
      · exact h.elim
  case tableswitch d lo hi offs =>
    unfold wst at h
    dsimp only at h
    split at h
    · rename_i x st2
      by_cases hq : x < lo ∨ hi < x
      · refine Wp.st hc (by intro z; cases z) (by intro z; cases z) rfl ?_ (h.2 hq)
        unfold stp; dsimp only
        rw [if_pos hq]
      · refine Wp.st hc (by intro z; cases z) (by intro z; cases z) rfl ?_ (h.1 (x - lo).toNat (by omega) (by omega))
        unfold stp; dsimp only
        rw [if_neg hq]
    · exact h.elim
  case getfield i =>
    unfold wst at h
    dsimp only at h
    split at h
    · rename_i q st2
      split at h
      · rename_i ci fs hq
        split at h
        · rename_i hci
          split at h
          · rename_i hv
            exact Wp.st hc (by intro z; cases z) (by intro z; cases z) rfl (by unfold stp; dsimp only; rw [hq]; dsimp only; rw [if_pos hci, hv]) (hK _ _ _ _ h)
          · rename_i z hv
            exact Wp.st hc (by intro z; cases z) (by intro z; cases z) rfl (by unfold stp; dsimp only; rw [hq]; dsimp only; rw [if_pos hci, hv]) (hK _ _ _ _ h)
          · exact h.elim
        · exact h.elim
      · exact h.elim
    · exact h.elim
  case putfield i =>
    unfold wst at h
    dsimp only at h
    split at h
    · rename_i x q st2
      split at h
      · rename_i ci fs hq
        split at h
        · rename_i hci
          split at h
          · rename_i hv
            exact Wp.st hc (by intro z; cases z) (by intro z; cases z) rfl (by unfold stp; dsimp only; rw [hq]; dsimp only; rw [if_pos hci, hv]) (hK _ _ _ _ h)
          · exact h.elim
        · exact h.elim
      · exact h.elim
    · exact h.elim
  case iaload =>
    unfold wst at h
    dsimp only at h
    split at h
    · split at h
      · rename_i n hq
        exact Wp.st hc (by intro z; cases z) (by intro z; cases z) rfl (by unfold stp; dsimp only; rw [hq]; dsimp only; rw [if_pos h.1]) (hK _ _ _ _ h.2)
      · exact h.elim
    · exact h.elim
  case baload =>
    unfold wst at h
    dsimp only at h
    split at h
    · split at h
      · rename_i n hq
        exact Wp.st hc (by intro z; cases z) (by intro z; cases z) rfl (by unfold stp; dsimp only; rw [hq]; dsimp only; rw [if_pos h.1]) (hK _ _ _ _ h.2)
      · exact h.elim
    · exact h.elim
  case iastore =>
    unfold wst at h
    dsimp only at h
    split at h
    · split at h
      · rename_i n hq
        exact Wp.st hc (by intro z; cases z) (by intro z; cases z) rfl (by unfold stp; dsimp only; rw [hq]; dsimp only; rw [if_pos h.1]) (hK _ _ _ _ h.2)
      · exact h.elim
    · exact h.elim
  case bastore =>
    unfold wst at h
    dsimp only at h
    split at h
    · split at h
      · rename_i n hq
        exact Wp.st hc (by intro z; cases z) (by intro z; cases z) rfl (by unfold stp; dsimp only; rw [hq]; dsimp only; rw [if_pos h.1]) (hK _ _ _ _ h.2)
      · exact h.elim
    · exact h.elim
  case invokestatic i =>
    unfold wst at h
    dsimp only at h
    split at h
    · rename_i hb
      subst hb
      split at h
      · exact Wp.st hc (by intro z; cases z) (by intro z; cases z) rfl (by unfold stp; dsimp only; rw [if_pos rfl, if_pos h.1]) (hK _ _ _ _ h.2)
      · exact h.elim
    · split at h
      · rename_i hb0 hb
        subst hb
        split at h
        · split at h
          · rename_i n0 n1 hp hq
            exact Wp.st hc (by intro z; cases z) (by intro z; cases z) rfl (by unfold stp; dsimp only; rw [if_neg (by decide), if_pos rfl, hp, hq]; dsimp only; rw [if_pos h.1]) (hK _ _ _ _ h.2)
          · exact h.elim
        · exact h.elim
      · split at h
        · rename_i hb3
          split at h
          · rename_i hok
            exact Wp.call hc (by intro z; cases z) (by intro z; cases z) (by unfold cee; dsimp only; rw [if_pos hb3]) hok h
          · exact h.elim
        · exact h.elim
  case invokevirtual i =>
    unfold wst at h
    dsimp only at h
    split at h
    · rename_i hb3
      split at h
      · rename_i hok
        exact Wp.call hc (by intro z; cases z) (by intro z; cases z) (by unfold cee; dsimp only; rw [if_pos hb3]) hok h
      · exact h.elim
    · exact h.elim
  case return_ =>
    unfold wst at h
    dsimp only at h
    split at h
    · split at h
      · rename_i hq
        refine ⟨1, none, μ, ?_, h⟩
        unfold exec
        rw [hc]
        dsimp only
        rw [if_pos ⟨hq, rfl⟩]
      · exact h.elim
    · exact h.elim
  case ireturn =>
    unfold wst at h
    dsimp only at h
    split at h
    · rename_i x
      split at h
      · rename_i hq
        refine ⟨1, some (vI x), μ, ?_, h⟩
        unfold exec
        rw [hc]
        dsimp only
        rw [if_pos (Or.inl hq)]
      · split at h
        · rename_i hq
          refine ⟨1, some (vI x), μ, ?_, h.2⟩
          unfold exec
          rw [hc]
          dsimp only
          rw [if_pos (Or.inr ⟨hq, h.1⟩)]
        · exact h.elim
    · exact h.elim
  all_goals exact False.elim h
theorem wpr_ok : ∀ (n : Nat) {k pc : Nat} {ls : Lo} {st : List PV} {μ : Mu} {R : Po}, wpr n k pc ls st μ R → Wp k pc ls st μ R := by
  intro n
  induction n with
  | zero => intro k pc ls st μ R h; exact h
  | succ n ih =>
    intro k pc ls st μ R h
    rw [wpr] at h
    split at h
    · rename_i e hc
      exact wst_ok hc (fun _ _ _ _ h2 => ih h2) h
    · exact h.elim
/-- a run of n instructions: what is left to show stands in the goal, put in your own words by 'show' -/
theorem seg (n : Nat) {k pc : Nat} {ls : Lo} {st : List PV} {μ : Mu} {R : Po} (h : wpr n k pc ls st μ R) : Wp k pc ls st μ R := wpr_ok n h
theorem Wp.mono {k pc : Nat} {ls : Lo} {st : List PV} {μ : Mu} {R R' : Po} (h : Wp k pc ls st μ R) (hR : ∀ r μ', R r μ' → R' r μ') : Wp k pc ls st μ R' := by
  obtain ⟨f, r, μ', h1, h2⟩ := h
  exact ⟨f, r, μ', h1, hR r μ' h2⟩
