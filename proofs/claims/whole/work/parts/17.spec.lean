/-! THE ABSTRACT SIDE: a history (how many, sizes, parents, letters), and what both programs make of it -/
abbrev Hi : Type := Int × (Int → Int) × (Int → Int → Int) × (Int → Int → Int)
def hN (G : Hi) : Int := G.1
def hS (G : Hi) (r : Int) : Int := G.2.1 r
def hP (G : Hi) (r w : Int) : Int := G.2.2.1 r w
def hL (G : Hi) (r k : Int) : Int := G.2.2.2 r k
def PaOK (r x : Int) : Prop := x = -9 ∨ (0 ≤ x ∧ x < r)
def HiOK (G : Hi) : Prop := 0 ≤ hN G ∧ hN G ≤ 8 ∧ ∀ r, 0 ≤ r → r < hN G → (0 ≤ hS G r ∧ hS G r ≤ 8) ∧ PaOK r (hP G r 0) ∧ PaOK r (hP G r 1) ∧ (hP G r 0 = -9 → hP G r 1 = -9)
def up1 (f : Int → Int) (j v : Int) : Int → Int := fun x => if x = j then v else f x
theorem up1_s {f : Int → Int} {j v : Int} : up1 f j v j = v := if_pos rfl
theorem up1_n {f : Int → Int} {j v x : Int} (h : x ≠ j) : up1 f j v x = f x := if_neg h
def mx (x y : Int) : Int := if x < y then y else x
/-- COMMON of the lines from i on and from j on -/
def cm (f g : Int → Int) (R C i j : Int) : Int :=
  if _h : i < R ∧ j < C then (if f i = g j then mx (mx (cm f g R C (i + 1) j) (cm f g R C i (j + 1))) (cm f g R C (i + 1) (j + 1) + 1) else mx (cm f g R C (i + 1) j) (cm f g R C i (j + 1))) else 0
termination_by (R - i).toNat + (C - j).toNat
decreasing_by all_goals omega
theorem cm_in {f g : Int → Int} {R C i j : Int} (h : i < R ∧ j < C) : cm f g R C i j = (if f i = g j then mx (mx (cm f g R C (i + 1) j) (cm f g R C i (j + 1))) (cm f g R C (i + 1) (j + 1) + 1) else mx (cm f g R C (i + 1) j) (cm f g R C i (j + 1))) := by
  rw [cm, dif_pos h]
theorem cm_out {f g : Int → Int} {R C i j : Int} (h : ¬ (i < R ∧ j < C)) : cm f g R C i j = 0 := by
  rw [cm, dif_neg h]
theorem cm_rg {f g : Int → Int} {R C : Int} : ∀ (n : Nat) (i j : Int), (R - i).toNat + (C - j).toNat ≤ n → 0 ≤ cm f g R C i j ∧ cm f g R C i j ≤ (R - i).toNat := by
  intro n
  induction n with
  | zero =>
    intro i j h
    rw [cm_out (by omega)]
    omega
  | succ n ih =>
    intro i j h
    by_cases hq : i < R ∧ j < C
    · have h1 := ih (i + 1) j (by omega)
      have h2 := ih i (j + 1) (by omega)
      have h3 := ih (i + 1) (j + 1) (by omega)
      rw [cm_in hq]
      unfold mx
      split <;> split <;> (try split) <;> omega
    · rw [cm_out hq]
      omega
/-- PAIRS: of the lines of the child, and which lines of the parent have one -/
def wk (f g : Int → Int) (R C : Int) : Nat → Int → Int → (Int → Int) → (Int → Int) → (Int → Int) × (Int → Int)
  | 0, _, _, P, I => (P, I)
  | n + 1, i, j, P, I =>
    if i < R ∧ j < C then
      if f i = g j ∧ cm f g R C i j = cm f g R C (i + 1) (j + 1) + 1 then wk f g R C n (i + 1) (j + 1) (up1 P j i) (up1 I i 1)
      else if cm f g R C i (j + 1) ≤ cm f g R C (i + 1) j then wk f g R C n (i + 1) j P I
      else wk f g R C n i (j + 1) P I
    else (P, I)
def prI (G : Hi) (r w : Int) : (Int → Int) × (Int → Int) := if hP G r w < 0 then (fun _ => -9, fun _ => 0) else wk (hL G (hP G r w)) (hL G r) (hS G (hP G r w)) (hS G r) 17 0 0 (fun _ => -9) (fun _ => 0)
def pr (G : Hi) (r w k : Int) : Int := (prI G r w).1 k
def ip (G : Hi) (r i : Int) : Int := (prI G r 0).2 i
def cmA (G : Hi) (r w : Int) : Int := if hP G r w < 0 then -9 else cm (hL G (hP G r w)) (hL G r) (hS G (hP G r w)) (hS G r) 0 0
theorem wk_rg {f g : Int → Int} {R C : Int} : ∀ (n : Nat) (i j : Int) (P I : Int → Int), 0 ≤ i → 0 ≤ j → (∀ x, P x = -9 ∨ (0 ≤ P x ∧ P x < R ∧ 0 ≤ x ∧ x < C)) → (∀ x, I x = 0 ∨ I x = 1) → (∀ x, (wk f g R C n i j P I).1 x = -9 ∨ (0 ≤ (wk f g R C n i j P I).1 x ∧ (wk f g R C n i j P I).1 x < R ∧ 0 ≤ x ∧ x < C)) ∧ (∀ x, (wk f g R C n i j P I).2 x = 0 ∨ (wk f g R C n i j P I).2 x = 1) := by
  intro n
  induction n with
  | zero => intro i j P I _ _ h1 h2; exact ⟨h1, h2⟩
  | succ n ih =>
    intro i j P I hi hj h1 h2
    rw [wk]
    split
    · rename_i hq
      split
      · refine ih _ _ _ _ (by omega) (by omega) (fun x => ?_) (fun x => ?_)
        · by_cases hx : x = j
          · subst hx; rw [up1_s]; exact Or.inr ⟨hi, hq.1, hj, hq.2⟩
          · rw [up1_n hx]; exact h1 x
        · by_cases hx : x = i
          · subst hx; rw [up1_s]; exact Or.inr rfl
          · rw [up1_n hx]; exact h2 x
      · split
        · exact ih _ _ _ _ (by omega) hj h1 h2
        · exact ih _ _ _ _ hi (by omega) h1 h2
    · exact ⟨h1, h2⟩
theorem pr_rg (G : Hi) (r w k : Int) : pr G r w k = -9 ∨ (0 ≤ pr G r w k ∧ pr G r w k < hS G (hP G r w) ∧ 0 ≤ k ∧ k < hS G r) := by
  unfold pr prI
  split
  · exact Or.inl rfl
  · exact (wk_rg 17 0 0 _ _ (by decide) (by decide) (fun _ => Or.inl rfl) (fun _ => Or.inl rfl)).1 k
theorem ip_rg (G : Hi) (r i : Int) : ip G r i = 0 ∨ ip G r i = 1 := by
  unfold ip prI
  split
  · exact Or.inl rfl
  · exact (wk_rg 17 0 0 _ _ (by decide) (by decide) (fun _ => Or.inl rfl) (fun _ => Or.inl rfl)).2 i
theorem pr_no {G : Hi} {r w k : Int} (h : hP G r w < 0) : pr G r w k = -9 := by
  unfold pr prI; rw [if_pos h]
/-- a row of lines that are alike and have no pairs -/
def rc (G : Hi) (r i j : Int) : Prop := (i < hS G (hP G r 0) ∧ j < hS G r) ∧ hL G (hP G r 0) i = hL G r j ∧ ip G r i = 0 ∧ pr G r 0 j = -9
noncomputable def rl (G : Hi) (r i j : Int) : Int :=
  @dite _ (rc G r i j) (Classical.propDecidable _) (fun _h => 1 + rl G r (i + 1) (j + 1)) (fun _ => 0)
termination_by (hS G (hP G r 0) - i).toNat
decreasing_by
  have := _h.1.1
  omega
theorem rl_in {G : Hi} {r i j : Int} (h : rc G r i j) : rl G r i j = 1 + rl G r (i + 1) (j + 1) := by
  rw [rl, dif_pos h]
theorem rl_out {G : Hi} {r i j : Int} (h : ¬ rc G r i j) : rl G r i j = 0 := by
  rw [rl, dif_neg h]
theorem rl_rg {G : Hi} {r : Int} : ∀ (n : Nat) (i j : Int), (hS G (hP G r 0) - i).toNat ≤ n → 0 ≤ rl G r i j ∧ rl G r i j ≤ (hS G (hP G r 0) - i).toNat ∧ (0 < rl G r i j → j + rl G r i j ≤ hS G r) := by
  intro n
  induction n with
  | zero =>
    intro i j h
    by_cases hq : rc G r i j
    · have := hq.1.1; omega
    · rw [rl_out hq]; omega
  | succ n ih =>
    intro i j h
    by_cases hq : rc G r i j
    · have h1 := ih (i + 1) (j + 1) (by have := hq.1.1; omega)
      have h2 := hq.1
      rw [rl_in hq]
      omega
    · rw [rl_out hq]; omega
/-- the longest row with the line k, so far: its length, and the parent's line -/
def stM (k : Int) (q : Int × Int) (i j n : Int) : Int × Int := if j ≤ k ∧ k < j + n ∧ q.1 < n then (n, i + k - j) else q
noncomputable def rowM (G : Hi) (r k i : Int) : Nat → Int × Int → Int × Int
  | 0, q => q
  | j + 1, q => stM k (rowM G r k i j q) i j (rl G r i j)
noncomputable def allM (G : Hi) (r k : Int) (m : Nat) : Nat → Int × Int → Int × Int
  | 0, q => q
  | i + 1, q => rowM G r k i m (allM G r k m i q)
noncomputable def mv (G : Hi) (r k : Int) : Int × Int := if hP G r 0 < 0 then (0, -9) else allM G r k (hS G r).toNat (hS G (hP G r 0)).toNat (0, -9)
abbrev Se : Type := Int × Int × Int
def SeOK (s : Se) : Prop := (0 ≤ s.1 ∧ s.1 ≤ 4) ∧ (0 ≤ s.2.1 ∧ s.2.1 < 256) ∧ (0 ≤ s.2.2 ∧ s.2.2 < 16)
noncomputable def mvB (G : Hi) (s : Se) (r k : Int) : Int := if 0 < s.1 ∧ s.1 ≤ (mv G r k).1 then (mv G r k).2 else -9
/-- the last pair ahead of k -/
def ahd (G : Hi) (r : Int) : Nat → Int × Int
  | 0 => (-1, -1)
  | k + 1 => if pr G r 0 k = -9 then ahd G r k else ((k : Int), pr G r 0 k)
noncomputable def gp (G : Hi) (r : Int) (k : Nat) : Int :=
  @ite _ ((ahd G r k).2 + k - (ahd G r k).1 < hS G (hP G r 0) ∧ ∀ i, (ahd G r k).2 + 1 ≤ i → i ≤ (ahd G r k).2 + k - (ahd G r k).1 → ip G r i = 0) (Classical.propDecidable _) ((ahd G r k).2 + k - (ahd G r k).1) (-9)
/-- what a rule gives: the parent's number by 8 and the line, or -9 -/
noncomputable def gv (G : Hi) (s : Se) (rule r k : Int) : Int :=
  if rule = 0 then (if pr G r 0 k = -9 then -9 else hP G r 0 * 8 + pr G r 0 k)
  else if rule = 1 then (if pr G r 1 k = -9 then -9 else hP G r 1 * 8 + pr G r 1 k)
  else if rule = 2 then (if hP G r 0 < 0 ∨ mvB G s r k = -9 then -9 else hP G r 0 * 8 + mvB G s r k)
  else (if hP G r 0 < 0 ∨ ¬ tb s.2.1 r ∨ gp G r k.toNat = -9 then -9 else hP G r 0 * 8 + gp G r k.toNat)
noncomputable def ruF (G : Hi) (s : Se) (r k : Int) : Nat → Int → Int
  | 0, _ => -9
  | n + 1, rule => if tb s.2.2 rule ∧ 0 ≤ gv G s rule r k then rule else ruF G s r k n (rule + 1)
noncomputable def ru (G : Hi) (s : Se) (r k : Int) : Int := ruF G s r k 4 0
/-- the origin's number (revision by 8, and the line), and the steps -/
noncomputable def og (G : Hi) (s : Se) (r k : Int) : Int × Int :=
  @dite _ (0 ≤ ru G s r k ∧ 0 ≤ gv G s (ru G s r k) r k / 8 ∧ gv G s (ru G s r k) r k / 8 < r) (Classical.propDecidable _) (fun _h => ((og G s (gv G s (ru G s r k) r k / 8) (gv G s (ru G s r k) r k % 8)).1, (og G s (gv G s (ru G s r k) r k / 8) (gv G s (ru G s r k) r k % 8)).2 + 1)) (fun _ => (r * 8 + k, 0))
termination_by r.toNat
decreasing_by all_goals omega
