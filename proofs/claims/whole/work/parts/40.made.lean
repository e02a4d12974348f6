/-! both constructors, run -/
def SA : List Shp := [.inr (11, bl 11)]
def m0 : Mu := u0 (fun _ _ => 0) 0
def XA : Option (Option PV × Mem) := exec 300 87 0 (entL 87 [vR 0]) [] (SA, m0, mC 87, mS 87)
def mA : Mu := (XA.map (fun q => q.2.2.1)).getD (fun _ _ => 0)
def SBm : List Shp := SH.take 47 ++ [.inr (12, bl 12)]
def m1 : Mu := u0 mA 47
def XB : Option (Option PV × Mem) := exec 300 116 0 (entL 116 [vR 47]) [] (SBm, m1, mC 116, mS 116)
def mB0 : Mu := (XB.map (fun q => q.2.2.1)).getD (fun _ _ => 0)
def shE : Shp → Shp → Bool
  | .inl q, .inl z => q.1 == z.1 && q.2 == z.2
  | .inr q, .inr z => q.1 == z.1 && q.2 == z.2
  | _, _ => false
def shL : List Shp → List Shp → Bool
  | [], [] => true
  | a :: r, b :: t => shE a b && shL r t
  | _, _ => false
theorem shE_eq {a b : Shp} (h : shE a b = true) : a = b := by
  rcases a with ⟨a1, a2⟩ | ⟨a1, a2⟩ <;> rcases b with ⟨b1, b2⟩ | ⟨b1, b2⟩
  · unfold shE at h
    rw [Bool.and_eq_true, beq_iff_eq, beq_iff_eq] at h
    obtain ⟨h1, h2⟩ := h
    dsimp only at h1 h2
    rw [h1, h2]
  · cases h
  · cases h
  · unfold shE at h
    rw [Bool.and_eq_true, beq_iff_eq, beq_iff_eq] at h
    obtain ⟨h1, h2⟩ := h
    dsimp only at h1 h2
    rw [h1, h2]
theorem shL_eq : ∀ {a b : List Shp}, shL a b = true → a = b := by
  intro a
  induction a with
  | nil =>
    intro b h
    cases b with
    | nil => rfl
    | cons x y => cases h
  | cons a r ih =>
    intro b h
    cases b with
    | nil => cases h
    | cons x y =>
      unfold shL at h
      rw [Bool.and_eq_true] at h
      rw [shE_eq h.1, ih h.2]
def okX (X : Option (Option PV × Mem)) (S : List Shp) : Bool := match X with
  | some (none, M) => shL M.1 S
  | _ => false
theorem okX_e {X : Option (Option PV × Mem)} {S : List Shp} (h : okX X S = true) : ∃ q : Nat × Nat, X = some (none, (S, (X.map (fun q => q.2.2.1)).getD (fun _ _ => 0), q)) := by
  unfold okX at h
  split at h
  · rename_i M
    obtain ⟨S1, μ1, q⟩ := M
    have := shL_eq h
    dsimp only at this
    subst this
    exact ⟨q, rfl⟩
  · cases h
theorem xa_s : okX XA (SH.take 47) = true := by decide +kernel
theorem xb_s : okX XB SH = true := by decide +kernel
theorem xa_e : ∃ q : Nat × Nat, XA = some (none, (SH.take 47, mA, q)) := okX_e xa_s
theorem xb_e : ∃ q : Nat × Nat, XB = some (none, (SH, mB0, q)) := okX_e xb_s
theorem mb_f : [mB0 8 0, mB0 30 0, mB0 30 1, mB0 30 2, mB0 13 0, mB0 19 0, mB0 1 1, mB0 40 1, mB0 46 0, mB0 46 1, mB0 42 3, mB0 47 0, mB0 53 0, mB0 53 1, mB0 53 2, mB0 47 10, mB0 47 8, mB0 64 0, mB0 64 1, mB0 47 24] = [0, 2, 0, 15, 0, 1, 0, 0, -9, -9, 0, 0, 2, 0, 15, 0, 0, 0, 0, 0] := by decide +kernel
theorem inv_0 : Inv mB0 := by
  have h := mb_f
  simp only [List.cons.injEq, and_true] at h
  obtain ⟨h0, h1, h2, h3, h4, h5, h6, h7, h8, h9, h10, h11, h12, h13, h14, h15, h16, h17, h18, h19⟩ := h
  have hok : SeOK (2, 0, 15) := ⟨⟨by decide, by decide⟩, ⟨by decide, by decide⟩, ⟨by decide, by decide⟩⟩
  have hz : ∀ r : Int, 0 ≤ r → ¬ r < hN D0 := fun r a b => by change r < 0 at b; omega
  have hD : HiOK D0 := ⟨by decide, by decide, fun r a b => absurd b (hz r a)⟩
  refine ⟨D0, (0, fun _ => 0), (2, 0, 15), (0, fun _ => (2, 0, 15)), fun _ => none, (0, fun _ => (0, 0, 0, 0)), ⟨⟨⟨⟨hD, h0, fun r a b => absurd b (hz r a)⟩, fun r a b => absurd b (hz r a)⟩, ⟨h1, h2, h3⟩, hok, fun r k a b => absurd b (hz r a), h4, h5⟩, ⟨h6, ⟨Int.le_refl _, by show (0 : Int) ≤ 120; decide⟩, fun i a1 a2 => absurd (show i < 0 from a2) (by omega)⟩, ⟨h7, ⟨Int.le_refl _, by show (0 : Int) ≤ 10; decide⟩, fun i a1 a2 => absurd (show i < 0 from a2) (by omega)⟩, fun i a1 a2 => ?_, ⟨h10, ⟨Int.le_refl _, by show (0 : Int) ≤ 6; decide⟩, fun i a1 a2 => absurd (show i < 0 from a2) (by omega)⟩⟩, ⟨⟨hD, h11, fun r a b => absurd b (hz r a)⟩, fun r a b => absurd b (hz r a)⟩, ⟨h12, h13, h14⟩, hok, ⟨h15, ⟨Int.le_refl _, by show (0 : Int) ≤ 120; decide⟩, fun i a1 a2 => absurd (show i < 0 from a2) (by omega)⟩, ⟨h16, ⟨Int.le_refl _, by show (0 : Int) ≤ 10; decide⟩, fun i a1 a2 => absurd (show i < 0 from a2) (by omega)⟩, fun i a1 a2 => ?_, ⟨h19, ⟨Int.le_refl _, by show (0 : Int) ≤ 6; decide⟩, fun i a1 a2 => absurd (show i < 0 from a2) (by omega)⟩⟩
  · show mB0 46 i = -9
    by_cases e : i = 1
    · rw [e]; exact h9
    · rw [show i = 0 by omega]; exact h8
  · show mB0 64 i = 0
    by_cases e : i = 1
    · rw [e]; exact h18
    · rw [show i = 0 by omega]; exact h17
