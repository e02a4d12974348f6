/-! PASSED in the class: what lies between pairs -/
theorem l9 {G : Hi} {r a b : Int} {R : Po} {μ : Mu} (hc : GC G μ) (hI : PrC13 G μ r) (hr : 0 ≤ r ∧ r < hN G) (hp : 0 ≤ hP G r 0 ∧ hP G r 0 < hN G) (ha : 0 ≤ a) (hb : b < hS G (hP G r 0)) (hy : (b < hS G (hP G r 0) ∧ ∀ i, a ≤ i → i ≤ b → ip G r i = 0) → R (some (vI 1)) μ) (hn : ¬ (b < hS G (hP G r 0) ∧ ∀ i, a ≤ i → i ≤ b → ip G r i = 0) → R (some (vI 0)) μ) : ∀ (n : Nat) (i : Int), (b + 1 - i).toNat = n → a ≤ i → (∀ x, a ≤ x → x < i → ip G r x = 0) → Wp 9 20 [some (vR 8), some (vR 13), some (vI r), some (vI a), some (vI b), some (vI i)] [] μ R := by
  have h2 := hc.1.n
  have hsp := hc.1.s hp
  have hsr := hc.1.s hr
  intro n
  induction n with
  | zero =>
    intro i hm h0 hA
    refine seg 3 (show (b < i → Wp 9 45 [some (vR 8), some (vR 13), some (vI r), some (vI a), some (vI b), some (vI i)] [] μ R) ∧ (¬ (b < i) → Wp 9 27 [some (vR 8), some (vR 13), some (vI r), some (vI a), some (vI b), some (vI i)] [] μ R) from ⟨fun c1 => ?_, fun c1 => ?_⟩)
    ·
      refine seg 2 (show (1 = 0 ∨ 1 = 1) ∧ R (some (vI 1)) μ from ⟨by decide, ?_⟩)
      first | (exfalso; omega) | exact hy ⟨hb, fun x h1 h2 => hA x h1 (by omega)⟩ | exact hn (fun z => by have := z.2 i h0 (by omega); omega)
    ·
      refine seg 4 (show Wp 20 0 [some (vR 13), some (vI r), some (vI i)] [] μ (fun rr μ' => Wp 9 34 [some (vR 8), some (vR 13), some (vI r), some (vI a), some (vI b), some (vI i)] (rr.toList ++ []) μ' R) from ?_)
      refine p20v hI (by omega) (fun b2 => ?_) (fun b2 => ?_)
      ·
        refine seg 1 (show (1 = 0 → Wp 9 39 [some (vR 8), some (vR 13), some (vI r), some (vI a), some (vI b), some (vI i)] [] μ R) ∧ (¬ (1 = 0) → Wp 9 37 [some (vR 8), some (vR 13), some (vI r), some (vI a), some (vI b), some (vI i)] [] μ R) from ⟨fun z => absurd z (by decide), fun _ => ?_⟩)
        refine seg 2 (show (0 = 0 ∨ 0 = 1) ∧ R (some (vI 0)) μ from ⟨by decide, ?_⟩)
        first | (exfalso; omega) | exact hy ⟨hb, fun x h1 h2 => hA x h1 (by omega)⟩ | exact hn (fun z => by have := z.2 i h0 (by omega); omega)
      ·
        refine seg 1 (show (0 = 0 → Wp 9 39 [some (vR 8), some (vR 13), some (vI r), some (vI a), some (vI b), some (vI i)] [] μ R) ∧ (¬ (0 = 0) → Wp 9 37 [some (vR 8), some (vR 13), some (vI r), some (vI a), some (vI b), some (vI i)] [] μ R) from ⟨fun _ => ?_, fun z => absurd z (by decide)⟩)
        refine seg 2 (show iR (i + 1) ∧ Wp 9 20 [some (vR 8), some (vR 13), some (vI r), some (vI a), some (vI b), some (vI (i + 1))] [] μ R from ⟨by omega, ?_⟩)
        exfalso; omega
  | succ n ih =>
    intro i hm h0 hA
    refine seg 3 (show (b < i → Wp 9 45 [some (vR 8), some (vR 13), some (vI r), some (vI a), some (vI b), some (vI i)] [] μ R) ∧ (¬ (b < i) → Wp 9 27 [some (vR 8), some (vR 13), some (vI r), some (vI a), some (vI b), some (vI i)] [] μ R) from ⟨fun c3 => ?_, fun c3 => ?_⟩)
    ·
      refine seg 2 (show (1 = 0 ∨ 1 = 1) ∧ R (some (vI 1)) μ from ⟨by decide, ?_⟩)
      first | (exfalso; omega) | exact hy ⟨hb, fun x h1 h2 => hA x h1 (by omega)⟩ | exact hn (fun z => by have := z.2 i h0 (by omega); omega)
    ·
      refine seg 4 (show Wp 20 0 [some (vR 13), some (vI r), some (vI i)] [] μ (fun rr μ' => Wp 9 34 [some (vR 8), some (vR 13), some (vI r), some (vI a), some (vI b), some (vI i)] (rr.toList ++ []) μ' R) from ?_)
      refine p20v hI (by omega) (fun b4 => ?_) (fun b4 => ?_)
      ·
        refine seg 1 (show (1 = 0 → Wp 9 39 [some (vR 8), some (vR 13), some (vI r), some (vI a), some (vI b), some (vI i)] [] μ R) ∧ (¬ (1 = 0) → Wp 9 37 [some (vR 8), some (vR 13), some (vI r), some (vI a), some (vI b), some (vI i)] [] μ R) from ⟨fun z => absurd z (by decide), fun _ => ?_⟩)
        refine seg 2 (show (0 = 0 ∨ 0 = 1) ∧ R (some (vI 0)) μ from ⟨by decide, ?_⟩)
        first | (exfalso; omega) | exact hy ⟨hb, fun x h1 h2 => hA x h1 (by omega)⟩ | exact hn (fun z => by have := z.2 i h0 (by omega); omega)
      ·
        refine seg 1 (show (0 = 0 → Wp 9 39 [some (vR 8), some (vR 13), some (vI r), some (vI a), some (vI b), some (vI i)] [] μ R) ∧ (¬ (0 = 0) → Wp 9 37 [some (vR 8), some (vR 13), some (vI r), some (vI a), some (vI b), some (vI i)] [] μ R) from ⟨fun _ => ?_, fun z => absurd z (by decide)⟩)
        refine seg 2 (show iR (i + 1) ∧ Wp 9 20 [some (vR 8), some (vR 13), some (vI r), some (vI a), some (vI b), some (vI (i + 1))] [] μ R from ⟨by omega, ?_⟩)
        exact ih (i + 1) (by omega) (by omega) (fun x h1 h2 => by
          by_cases hx : x = i
          · subst hx; assumption
          · exact hA x h1 (by omega))
theorem s9 {G : Hi} {r a b : Int} {R : Po} {μ : Mu} (hc : GC G μ) (hI : PrC13 G μ r) (hr : 0 ≤ r ∧ r < hN G) (hp : 0 ≤ hP G r 0 ∧ hP G r 0 < hN G) (ha : 0 ≤ a) (hy : (b < hS G (hP G r 0) ∧ ∀ i, a ≤ i → i ≤ b → ip G r i = 0) → R (some (vI 1)) μ) (hn : ¬ (b < hS G (hP G r 0) ∧ ∀ i, a ≤ i → i ≤ b → ip G r i = 0) → R (some (vI 0)) μ) : Wp 9 0 [some (vR 8), some (vR 13), some (vI r), some (vI a), some (vI b), none] [] μ R := by
  have h2 := hc.1.n
  have hsp := hc.1.s hp
  have hsr := hc.1.s hr
  refine seg 6 (show Wp 47 0 [some (vR 8), some (vI r), some (vI 0)] [] μ (fun rr μ' => Wp 9 9 [some (vR 8), some (vR 13), some (vI r), some (vI a), some (vI b), none] (rr.toList ++ [vR 8, vI b]) μ' R) from ?_)
  refine g47 hc (by omega) (by decide) ?_
  refine seg 1 (show Wp 46 0 [some (vR 8), some (vI (hP G r 0))] [] μ (fun rr μ' => Wp 9 12 [some (vR 8), some (vR 13), some (vI r), some (vI a), some (vI b), none] (rr.toList ++ [vI b]) μ' R) from ?_)
  refine g46 hc (by omega) ?_
  refine seg 1 (show (b < hS G (hP G r 0) → Wp 9 17 [some (vR 8), some (vR 13), some (vI r), some (vI a), some (vI b), none] [] μ R) ∧ (¬ (b < hS G (hP G r 0)) → Wp 9 15 [some (vR 8), some (vR 13), some (vI r), some (vI a), some (vI b), none] [] μ R) from ⟨fun c1 => ?_, fun c1 => ?_⟩)
  ·
    refine seg 2 (show Wp 9 20 [some (vR 8), some (vR 13), some (vI r), some (vI a), some (vI b), some (vI a)] [] μ R from ?_)
    exact l9 hc hI hr hp ha (by omega) hy hn _ a rfl (Int.le_refl _) (fun x h1 h2 => absurd h2 (by omega))
  ·
    refine seg 2 (show (0 = 0 ∨ 0 = 1) ∧ R (some (vI 0)) μ from ⟨by decide, ?_⟩)
    exact hn (fun z => by have := z.1; omega)
theorem s9n {G : Hi} {r a b : Int} {R : Po} {μ : Mu} (hc : GC G μ) (hb : 0 ≤ b) (hpar : ∀ {R : Po}, R (some (vI (-9))) μ → Wp 47 0 [some (vR 8), some (vI r), some (vI 0)] [] μ R) (hn : R (some (vI 0)) μ) : Wp 9 0 [some (vR 8), some (vR 13), some (vI r), some (vI a), some (vI b), none] [] μ R := by
  refine seg 6 (show Wp 47 0 [some (vR 8), some (vI r), some (vI 0)] [] μ (fun rr μ' => Wp 9 9 [some (vR 8), some (vR 13), some (vI r), some (vI a), some (vI b), none] (rr.toList ++ [vR 8, vI b]) μ' R) from ?_)
  refine hpar ?_
  refine seg 1 (show Wp 46 0 [some (vR 8), some (vI (-9))] [] μ (fun rr μ' => Wp 9 12 [some (vR 8), some (vR 13), some (vI r), some (vI a), some (vI b), none] (rr.toList ++ [vI b]) μ' R) from ?_)
  refine g46n hc (by decide) ?_
  refine seg 1 (show (b < 0 → Wp 9 17 [some (vR 8), some (vR 13), some (vI r), some (vI a), some (vI b), none] [] μ R) ∧ (¬ (b < 0) → Wp 9 15 [some (vR 8), some (vR 13), some (vI r), some (vI a), some (vI b), none] [] μ R) from ⟨fun c1 => ?_, fun c1 => ?_⟩)
  ·
    exfalso; omega
  ·
    refine seg 2 (show (0 = 0 ∨ 0 = 1) ∧ R (some (vI 0)) μ from ⟨by decide, ?_⟩)
    exact hn
def ahP (Pf : Int → Int) : Nat → Int × Int
  | 0 => (-1, -1)
  | k + 1 => if Pf k = -9 then ahP Pf k else ((k : Int), Pf k)
theorem ahP_rg {Pf : Int → Int} (hPf : ∀ k, Pf k = -9 ∨ (0 ≤ Pf k ∧ Pf k < 8)) : ∀ k : Nat, (-1 ≤ (ahP Pf k).1 ∧ (ahP Pf k).1 < k) ∧ (-1 ≤ (ahP Pf k).2 ∧ (ahP Pf k).2 < 8) := by
  intro k
  induction k with
  | zero => show ((-1 : Int) ≤ -1 ∧ (-1 : Int) < ((0 : Nat) : Int)) ∧ ((-1 : Int) ≤ -1 ∧ (-1 : Int) < 8); decide
  | succ k ih =>
    rw [ahP]
    split
    · omega
    · have := hPf k
      dsimp only
      omega
theorem ahd_P (G : Hi) (r : Int) : ∀ k : Nat, ahd G r k = ahP (pr G r 0) k := by
  intro k
  induction k with
  | zero => rfl
  | succ k ih => rw [ahd, ahP, ih]
noncomputable def gpY (Pf : Int → Int) (Y : Int → Int → Prop) (k : Nat) : Int := @ite _ (Y ((ahP Pf k).2 + 1) ((ahP Pf k).2 + k - (ahP Pf k).1)) (Classical.propDecidable _) ((ahP Pf k).2 + k - (ahP Pf k).1) (-9)
theorem gpY_y {Pf : Int → Int} {Y : Int → Int → Prop} {k : Nat} (h : Y ((ahP Pf k).2 + 1) ((ahP Pf k).2 + k - (ahP Pf k).1)) : gpY Pf Y k = (ahP Pf k).2 + k - (ahP Pf k).1 := if_pos h
theorem gpY_n {Pf : Int → Int} {Y : Int → Int → Prop} {k : Nat} (h : ¬ Y ((ahP Pf k).2 + 1) ((ahP Pf k).2 + k - (ahP Pf k).1)) : gpY Pf Y k = -9 := if_neg h
theorem p19x {μ : Mu} {R : Po} {r k v : Int} (hv : μ 15 (r * 8 + k) = v) (hb : 0 ≤ r ∧ r < 8 ∧ 0 ≤ k ∧ k < 8) (h : R (some (vI v)) μ) : Wp 19 0 [some (vR 13), some (vI r), some (vI k)] [] μ R := s19v_13 hb (by rw [hv]; exact h)
theorem l8a {r : Int} {R : Po} {μ0 : Mu} {Pf : Int → Int} {Y : Int → Int → Prop} (hr : 0 ≤ r ∧ r < 8) (hPf : ∀ k, Pf k = -9 ∨ (0 ≤ Pf k ∧ Pf k < 8)) (hP0 : ∀ k, 0 ≤ k → k < 8 → μ0 15 (r * 8 + k) = Pf k) (hun : ∀ (a b : Int) (μ : Mu) (R : Po), (∀ q, q ≠ 29 → μ q = μ0 q) → 0 ≤ a → 0 ≤ b → (Y a b → R (some (vI 1)) μ) → (¬ Y a b → R (some (vI 0)) μ) → Wp 9 0 [some (vR 8), some (vR 13), some (vI r), some (vI a), some (vI b), none] [] μ R) (hk : ∀ (μ : Mu) (o4 o5 o6 o7 o8 : Option PV), ((∀ q, q ≠ 29 → μ q = μ0 q) ∧ (∀ y, ¬ (r * 8 ≤ y ∧ y < r * 8 + 8) → μ 29 y = μ0 29 y)) → (∀ x : Nat, x < 8 → μ 29 (r * 8 + x) = gpY Pf Y x) → Wp 8 102 [some (vR 28), some (vR 8), some (vR 13), some (vI r), o4, o5, o6, o7, o8] [] μ R) : ∀ (n : Nat) (k : Nat) (μ : Mu) (o7 o8 : Option PV), 8 - (k : Int) = n → ((∀ q, q ≠ 29 → μ q = μ0 q) ∧ (∀ y, ¬ (r * 8 ≤ y ∧ y < r * 8 + 8) → μ 29 y = μ0 29 y)) → (∀ x : Nat, x < k → μ 29 (r * 8 + x) = gpY Pf Y x) → Wp 8 17 [some (vR 28), some (vR 8), some (vR 13), some (vI r), some (vI ((ahP Pf k).1)), some (vI ((ahP Pf k).2)), some (vI (k : Int)), o7, o8] [] μ R := by
  intro n
  induction n with
  | zero =>
    intro k μ o7 o8 hn hF hS
    have hg := ahP_rg hPf k
    refine seg 3 (show (8 ≤ (k : Int) → Wp 8 102 [some (vR 28), some (vR 8), some (vR 13), some (vI r), some (vI ((ahP Pf k).1)), some (vI ((ahP Pf k).2)), some (vI (k : Int)), o7, o8] [] μ R) ∧ (¬ (8 ≤ (k : Int)) → Wp 8 24 [some (vR 28), some (vR 8), some (vR 13), some (vI r), some (vI ((ahP Pf k).1)), some (vI ((ahP Pf k).2)), some (vI (k : Int)), o7, o8] [] μ R) from ⟨fun c1 => ?_, fun c1 => ?_⟩)
    ·
      first | (exfalso; omega) | exact hk μ _ _ _ _ _ hF (fun x hx => hS x (by omega))
    ·
      refine seg 14 (show iR (((ahP Pf k).2) + (k : Int)) ∧ iR ((((ahP Pf k).2) + (k : Int)) - ((ahP Pf k).1)) ∧ iR (((ahP Pf k).2) + 1) ∧ Wp 9 0 [some (vR 8), some (vR 13), some (vI r), some (vI (((ahP Pf k).2) + 1)), some (vI ((((ahP Pf k).2) + (k : Int)) - ((ahP Pf k).1))), none] [] μ (fun rr μ' => Wp 8 46 [some (vR 28), some (vR 8), some (vR 13), some (vI r), some (vI ((ahP Pf k).1)), some (vI ((ahP Pf k).2)), some (vI (k : Int)), some (vI ((((ahP Pf k).2) + (k : Int)) - ((ahP Pf k).1))), o8] (rr.toList ++ []) μ' R) from ⟨by omega, by omega, by omega, ?_⟩)
      exfalso; omega
  | succ n ih =>
    intro k μ o7 o8 hn hF hS
    have hg := ahP_rg hPf k
    refine seg 3 (show (8 ≤ (k : Int) → Wp 8 102 [some (vR 28), some (vR 8), some (vR 13), some (vI r), some (vI ((ahP Pf k).1)), some (vI ((ahP Pf k).2)), some (vI (k : Int)), o7, o8] [] μ R) ∧ (¬ (8 ≤ (k : Int)) → Wp 8 24 [some (vR 28), some (vR 8), some (vR 13), some (vI r), some (vI ((ahP Pf k).1)), some (vI ((ahP Pf k).2)), some (vI (k : Int)), o7, o8] [] μ R) from ⟨fun c2 => ?_, fun c2 => ?_⟩)
    ·
      first | (exfalso; omega) | exact hk μ _ _ _ _ _ hF (fun x hx => hS x (by omega))
    ·
      refine seg 14 (show iR (((ahP Pf k).2) + (k : Int)) ∧ iR ((((ahP Pf k).2) + (k : Int)) - ((ahP Pf k).1)) ∧ iR (((ahP Pf k).2) + 1) ∧ Wp 9 0 [some (vR 8), some (vR 13), some (vI r), some (vI (((ahP Pf k).2) + 1)), some (vI ((((ahP Pf k).2) + (k : Int)) - ((ahP Pf k).1))), none] [] μ (fun rr μ' => Wp 8 46 [some (vR 28), some (vR 8), some (vR 13), some (vI r), some (vI ((ahP Pf k).1)), some (vI ((ahP Pf k).2)), some (vI (k : Int)), some (vI ((((ahP Pf k).2) + (k : Int)) - ((ahP Pf k).1))), o8] (rr.toList ++ []) μ' R) from ⟨by omega, by omega, by omega, ?_⟩)
      refine hun _ _ μ _ hF.1 (by omega) (by omega) (fun b3 => ?_) (fun b3 => ?_)
      ·
        refine seg 6 (show Wp 114 0 [some (vI r), some (vI (k : Int))] [] μ (fun rr μ' => Wp 8 58 [some (vR 28), some (vR 8), some (vR 13), some (vI r), some (vI ((ahP Pf k).1)), some (vI ((ahP Pf k).2)), some (vI (k : Int)), some (vI ((((ahP Pf k).2) + (k : Int)) - ((ahP Pf k).1))), some (vI 1)] (rr.toList ++ [vR 29]) μ' R) from ?_)
        refine s114 (by omega) ?_
        refine seg 2 (show (1 = 0 → Wp 8 68 [some (vR 28), some (vR 8), some (vR 13), some (vI r), some (vI ((ahP Pf k).1)), some (vI ((ahP Pf k).2)), some (vI (k : Int)), some (vI ((((ahP Pf k).2) + (k : Int)) - ((ahP Pf k).1))), some (vI 1)] [vI (r * 8 + (k : Int)), vR 29] μ R) ∧ (¬ (1 = 0) → Wp 8 63 [some (vR 28), some (vR 8), some (vR 13), some (vI r), some (vI ((ahP Pf k).1)), some (vI ((ahP Pf k).2)), some (vI (k : Int)), some (vI ((((ahP Pf k).2) + (k : Int)) - ((ahP Pf k).1))), some (vI 1)] [vI (r * 8 + (k : Int)), vR 29] μ R) from ⟨fun z => absurd z (by decide), fun _ => ?_⟩)
        refine seg 7 (show (0 ≤ (r * 8 + (k : Int)) ∧ (r * 8 + (k : Int)) < 64) ∧ Wp 19 0 [some (vR 13), some (vI r), some (vI (k : Int))] [] (u2 μ 29 (r * 8 + (k : Int)) ((((ahP Pf k).2) + (k : Int)) - ((ahP Pf k).1))) (fun rr μ' => Wp 8 78 [some (vR 28), some (vR 8), some (vR 13), some (vI r), some (vI ((ahP Pf k).1)), some (vI ((ahP Pf k).2)), some (vI (k : Int)), some (vI ((((ahP Pf k).2) + (k : Int)) - ((ahP Pf k).1))), some (vI 1)] (rr.toList ++ []) μ' R) from ⟨by omega, ?_⟩)
        refine p19x (v := Pf (k : Int)) (by rw [u2_ne (by decide), hF.1 15 (by decide)]; exact hP0 _ (by omega) (by omega)) (by omega) ?_
        refine seg 2 (show (Pf (k : Int) = -9 → Wp 8 96 [some (vR 28), some (vR 8), some (vR 13), some (vI r), some (vI ((ahP Pf k).1)), some (vI ((ahP Pf k).2)), some (vI (k : Int)), some (vI ((((ahP Pf k).2) + (k : Int)) - ((ahP Pf k).1))), some (vI 1)] [] (u2 μ 29 (r * 8 + (k : Int)) ((((ahP Pf k).2) + (k : Int)) - ((ahP Pf k).1))) R) ∧ (¬ (Pf (k : Int) = -9) → Wp 8 83 [some (vR 28), some (vR 8), some (vR 13), some (vI r), some (vI ((ahP Pf k).1)), some (vI ((ahP Pf k).2)), some (vI (k : Int)), some (vI ((((ahP Pf k).2) + (k : Int)) - ((ahP Pf k).1))), some (vI 1)] [] (u2 μ 29 (r * 8 + (k : Int)) ((((ahP Pf k).2) + (k : Int)) - ((ahP Pf k).1))) R) from ⟨fun c4 => ?_, fun c4 => ?_⟩)
        ·
          refine seg 2 (show iR ((k : Int) + 1) ∧ Wp 8 17 [some (vR 28), some (vR 8), some (vR 13), some (vI r), some (vI ((ahP Pf k).1)), some (vI ((ahP Pf k).2)), some (vI ((k : Int) + 1)), some (vI ((((ahP Pf k).2) + (k : Int)) - ((ahP Pf k).1))), some (vI 1)] [] (u2 μ 29 (r * 8 + (k : Int)) ((((ahP Pf k).2) + (k : Int)) - ((ahP Pf k).1))) R from ⟨by omega, ?_⟩)
          have e : ahP Pf (k + 1) = ((ahP Pf k).1, (ahP Pf k).2) := by
            rw [ahP]
            first | (rw [if_pos (by assumption)]) | (rw [if_neg (by assumption)])
          have := ih (k + 1) (u2 μ 29 (r * 8 + (k : Int)) ((((ahP Pf k).2) + (k : Int)) - ((ahP Pf k).1))) (some (vI ((((ahP Pf k).2) + (k : Int)) - ((ahP Pf k).1)))) (some (vI 1)) (by omega) ⟨fun q hq => by rw [u2_ne hq]; exact hF.1 q hq, fun y hy => by rw [u2_at, up1_n (by omega)]; exact hF.2 y hy⟩ (fun x hx => by
            rw [u2_at]
            by_cases hxk : x = k
            · subst hxk; rw [up1_s]; first | exact (gpY_y (by assumption)).symm | exact (gpY_n (by assumption)).symm
            · rw [up1_n (by omega)]; exact hS x (by omega))
          rw [e] at this
          exact this
        ·
          refine seg 6 (show Wp 19 0 [some (vR 13), some (vI r), some (vI (k : Int))] [] (u2 μ 29 (r * 8 + (k : Int)) ((((ahP Pf k).2) + (k : Int)) - ((ahP Pf k).1))) (fun rr μ' => Wp 8 94 [some (vR 28), some (vR 8), some (vR 13), some (vI r), some (vI (k : Int)), some (vI ((ahP Pf k).2)), some (vI (k : Int)), some (vI ((((ahP Pf k).2) + (k : Int)) - ((ahP Pf k).1))), some (vI 1)] (rr.toList ++ []) μ' R) from ?_)
          refine p19x (v := Pf (k : Int)) (by rw [u2_ne (by decide), hF.1 15 (by decide)]; exact hP0 _ (by omega) (by omega)) (by omega) ?_
          refine seg 3 (show iR ((k : Int) + 1) ∧ Wp 8 17 [some (vR 28), some (vR 8), some (vR 13), some (vI r), some (vI (k : Int)), some (vI (Pf (k : Int))), some (vI ((k : Int) + 1)), some (vI ((((ahP Pf k).2) + (k : Int)) - ((ahP Pf k).1))), some (vI 1)] [] (u2 μ 29 (r * 8 + (k : Int)) ((((ahP Pf k).2) + (k : Int)) - ((ahP Pf k).1))) R from ⟨by omega, ?_⟩)
          have e : ahP Pf (k + 1) = ((k : Int), Pf (k : Int)) := by
            rw [ahP]
            first | (rw [if_pos (by assumption)]) | (rw [if_neg (by assumption)])
          have := ih (k + 1) (u2 μ 29 (r * 8 + (k : Int)) ((((ahP Pf k).2) + (k : Int)) - ((ahP Pf k).1))) (some (vI ((((ahP Pf k).2) + (k : Int)) - ((ahP Pf k).1)))) (some (vI 1)) (by omega) ⟨fun q hq => by rw [u2_ne hq]; exact hF.1 q hq, fun y hy => by rw [u2_at, up1_n (by omega)]; exact hF.2 y hy⟩ (fun x hx => by
            rw [u2_at]
            by_cases hxk : x = k
            · subst hxk; rw [up1_s]; first | exact (gpY_y (by assumption)).symm | exact (gpY_n (by assumption)).symm
            · rw [up1_n (by omega)]; exact hS x (by omega))
          rw [e] at this
          exact this
      ·
        refine seg 6 (show Wp 114 0 [some (vI r), some (vI (k : Int))] [] μ (fun rr μ' => Wp 8 58 [some (vR 28), some (vR 8), some (vR 13), some (vI r), some (vI ((ahP Pf k).1)), some (vI ((ahP Pf k).2)), some (vI (k : Int)), some (vI ((((ahP Pf k).2) + (k : Int)) - ((ahP Pf k).1))), some (vI 0)] (rr.toList ++ [vR 29]) μ' R) from ?_)
        refine s114 (by omega) ?_
        refine seg 2 (show (0 = 0 → Wp 8 68 [some (vR 28), some (vR 8), some (vR 13), some (vI r), some (vI ((ahP Pf k).1)), some (vI ((ahP Pf k).2)), some (vI (k : Int)), some (vI ((((ahP Pf k).2) + (k : Int)) - ((ahP Pf k).1))), some (vI 0)] [vI (r * 8 + (k : Int)), vR 29] μ R) ∧ (¬ (0 = 0) → Wp 8 63 [some (vR 28), some (vR 8), some (vR 13), some (vI r), some (vI ((ahP Pf k).1)), some (vI ((ahP Pf k).2)), some (vI (k : Int)), some (vI ((((ahP Pf k).2) + (k : Int)) - ((ahP Pf k).1))), some (vI 0)] [vI (r * 8 + (k : Int)), vR 29] μ R) from ⟨fun _ => ?_, fun z => absurd z (by decide)⟩)
        refine seg 6 (show (0 ≤ (r * 8 + (k : Int)) ∧ (r * 8 + (k : Int)) < 64) ∧ Wp 19 0 [some (vR 13), some (vI r), some (vI (k : Int))] [] (u2 μ 29 (r * 8 + (k : Int)) (-9)) (fun rr μ' => Wp 8 78 [some (vR 28), some (vR 8), some (vR 13), some (vI r), some (vI ((ahP Pf k).1)), some (vI ((ahP Pf k).2)), some (vI (k : Int)), some (vI ((((ahP Pf k).2) + (k : Int)) - ((ahP Pf k).1))), some (vI 0)] (rr.toList ++ []) μ' R) from ⟨by omega, ?_⟩)
        refine p19x (v := Pf (k : Int)) (by rw [u2_ne (by decide), hF.1 15 (by decide)]; exact hP0 _ (by omega) (by omega)) (by omega) ?_
        refine seg 2 (show (Pf (k : Int) = -9 → Wp 8 96 [some (vR 28), some (vR 8), some (vR 13), some (vI r), some (vI ((ahP Pf k).1)), some (vI ((ahP Pf k).2)), some (vI (k : Int)), some (vI ((((ahP Pf k).2) + (k : Int)) - ((ahP Pf k).1))), some (vI 0)] [] (u2 μ 29 (r * 8 + (k : Int)) (-9)) R) ∧ (¬ (Pf (k : Int) = -9) → Wp 8 83 [some (vR 28), some (vR 8), some (vR 13), some (vI r), some (vI ((ahP Pf k).1)), some (vI ((ahP Pf k).2)), some (vI (k : Int)), some (vI ((((ahP Pf k).2) + (k : Int)) - ((ahP Pf k).1))), some (vI 0)] [] (u2 μ 29 (r * 8 + (k : Int)) (-9)) R) from ⟨fun c5 => ?_, fun c5 => ?_⟩)
        ·
          refine seg 2 (show iR ((k : Int) + 1) ∧ Wp 8 17 [some (vR 28), some (vR 8), some (vR 13), some (vI r), some (vI ((ahP Pf k).1)), some (vI ((ahP Pf k).2)), some (vI ((k : Int) + 1)), some (vI ((((ahP Pf k).2) + (k : Int)) - ((ahP Pf k).1))), some (vI 0)] [] (u2 μ 29 (r * 8 + (k : Int)) (-9)) R from ⟨by omega, ?_⟩)
          have e : ahP Pf (k + 1) = ((ahP Pf k).1, (ahP Pf k).2) := by
            rw [ahP]
            first | (rw [if_pos (by assumption)]) | (rw [if_neg (by assumption)])
          have := ih (k + 1) (u2 μ 29 (r * 8 + (k : Int)) (-9)) (some (vI ((((ahP Pf k).2) + (k : Int)) - ((ahP Pf k).1)))) (some (vI 0)) (by omega) ⟨fun q hq => by rw [u2_ne hq]; exact hF.1 q hq, fun y hy => by rw [u2_at, up1_n (by omega)]; exact hF.2 y hy⟩ (fun x hx => by
            rw [u2_at]
            by_cases hxk : x = k
            · subst hxk; rw [up1_s]; first | exact (gpY_y (by assumption)).symm | exact (gpY_n (by assumption)).symm
            · rw [up1_n (by omega)]; exact hS x (by omega))
          rw [e] at this
          exact this
        ·
          refine seg 6 (show Wp 19 0 [some (vR 13), some (vI r), some (vI (k : Int))] [] (u2 μ 29 (r * 8 + (k : Int)) (-9)) (fun rr μ' => Wp 8 94 [some (vR 28), some (vR 8), some (vR 13), some (vI r), some (vI (k : Int)), some (vI ((ahP Pf k).2)), some (vI (k : Int)), some (vI ((((ahP Pf k).2) + (k : Int)) - ((ahP Pf k).1))), some (vI 0)] (rr.toList ++ []) μ' R) from ?_)
          refine p19x (v := Pf (k : Int)) (by rw [u2_ne (by decide), hF.1 15 (by decide)]; exact hP0 _ (by omega) (by omega)) (by omega) ?_
          refine seg 3 (show iR ((k : Int) + 1) ∧ Wp 8 17 [some (vR 28), some (vR 8), some (vR 13), some (vI r), some (vI (k : Int)), some (vI (Pf (k : Int))), some (vI ((k : Int) + 1)), some (vI ((((ahP Pf k).2) + (k : Int)) - ((ahP Pf k).1))), some (vI 0)] [] (u2 μ 29 (r * 8 + (k : Int)) (-9)) R from ⟨by omega, ?_⟩)
          have e : ahP Pf (k + 1) = ((k : Int), Pf (k : Int)) := by
            rw [ahP]
            first | (rw [if_pos (by assumption)]) | (rw [if_neg (by assumption)])
          have := ih (k + 1) (u2 μ 29 (r * 8 + (k : Int)) (-9)) (some (vI ((((ahP Pf k).2) + (k : Int)) - ((ahP Pf k).1)))) (some (vI 0)) (by omega) ⟨fun q hq => by rw [u2_ne hq]; exact hF.1 q hq, fun y hy => by rw [u2_at, up1_n (by omega)]; exact hF.2 y hy⟩ (fun x hx => by
            rw [u2_at]
            by_cases hxk : x = k
            · subst hxk; rw [up1_s]; first | exact (gpY_y (by assumption)).symm | exact (gpY_n (by assumption)).symm
            · rw [up1_n (by omega)]; exact hS x (by omega))
          rw [e] at this
          exact this
theorem l8 {G : Hi} {R : Po} {μ0 : Mu} (hc0 : GC G μ0) (hI0 : ∀ x, 0 ≤ x → x < hN G → PrC13 G μ0 x) (hJ0 : ∀ x k, hN G ≤ x → 0 ≤ x → x < 8 → 0 ≤ k → k < 8 → μ0 15 (x * 8 + k) = -9) (hk : ∀ μ : Mu, (∀ q, q ≠ 29 → μ q = μ0 q) → (∀ x, 0 ≤ x → x < hN G → x < hN G → 0 ≤ hP G x 0 → ∀ k : Nat, k < 8 → μ 29 (x * 8 + k) = gp G x k) → R none μ) : ∀ (n : Nat) (r : Int) (μ : Mu) (o4 o5 o6 o7 o8 : Option PV), 8 - r = n → 0 ≤ r → (∀ q, q ≠ 29 → μ q = μ0 q) → (∀ x, 0 ≤ x → x < r → x < hN G → 0 ≤ hP G x 0 → ∀ k : Nat, k < 8 → μ 29 (x * 8 + k) = gp G x k) → Wp 8 2 [some (vR 28), some (vR 8), some (vR 13), some (vI r), o4, o5, o6, o7, o8] [] μ R := by
  have h2 := hc0.1.n
  intro n
  induction n with
  | zero =>
    intro r μ o4 o5 o6 o7 o8 hn h0 hF hM
    refine seg 3 (show (8 ≤ r → Wp 8 108 [some (vR 28), some (vR 8), some (vR 13), some (vI r), o4, o5, o6, o7, o8] [] μ R) ∧ (¬ (8 ≤ r) → Wp 8 8 [some (vR 28), some (vR 8), some (vR 13), some (vI r), o4, o5, o6, o7, o8] [] μ R) from ⟨fun c1 => ?_, fun c1 => ?_⟩)
    ·
      refine seg 1 (show R none μ from ?_)
      first | (exfalso; omega) | exact hk μ hF (fun x h1 h2 h3 => hM x h1 (by omega) h3)
    ·
      refine seg 6 (show Wp 8 17 [some (vR 28), some (vR 8), some (vR 13), some (vI r), some (vI (-1)), some (vI (-1)), some (vI 0), o7, o8] [] μ R from ?_)
      exfalso; omega
  | succ n ih =>
    intro r μ o4 o5 o6 o7 o8 hn h0 hF hM
    refine seg 3 (show (8 ≤ r → Wp 8 108 [some (vR 28), some (vR 8), some (vR 13), some (vI r), o4, o5, o6, o7, o8] [] μ R) ∧ (¬ (8 ≤ r) → Wp 8 8 [some (vR 28), some (vR 8), some (vR 13), some (vI r), o4, o5, o6, o7, o8] [] μ R) from ⟨fun c2 => ?_, fun c2 => ?_⟩)
    ·
      refine seg 1 (show R none μ from ?_)
      first | (exfalso; omega) | exact hk μ hF (fun x h1 h2 h3 => hM x h1 (by omega) h3)
    ·
      refine seg 6 (show Wp 8 17 [some (vR 28), some (vR 8), some (vR 13), some (vI r), some (vI (-1)), some (vI (-1)), some (vI 0), o7, o8] [] μ R from ?_)
      have back : ∀ (Pf : Int → Int) (Y : Int → Int → Prop) (μ2 : Mu) (o4 o5 o6 o7 o8 : Option PV), ((∀ q, q ≠ 29 → μ2 q = μ q) ∧ (∀ y, ¬ (r * 8 ≤ y ∧ y < r * 8 + 8) → μ2 29 y = μ 29 y)) → (r < hN G → 0 ≤ hP G r 0 → ∀ k : Nat, k < 8 → μ2 29 (r * 8 + k) = gp G r k) → Wp 8 102 [some (vR 28), some (vR 8), some (vR 13), some (vI r), o4, o5, o6, o7, o8] [] μ2 R := by
        intro Pf Y μ2 o4 o5 o6 o7 o8 f1 f2
        refine seg 2 (show iR (r + 1) ∧ Wp 8 2 [some (vR 28), some (vR 8), some (vR 13), some (vI (r + 1)), o4, o5, o6, o7, o8] [] μ2 R from ⟨by omega, ?_⟩)
        refine ih (r + 1) μ2 _ _ _ _ _ (by omega) (by omega) (fun q hq => by rw [f1.1 q hq]; exact hF q hq) (fun x h1 h2 h3 h4 k hk8 => ?_)
        by_cases hx : x = r
        · subst hx; exact f2 h3 h4 k hk8
        · rw [f1.2 _ (by omega)]; exact hM x h1 (by omega) h3 h4 k hk8
      have cf : ∀ μ3 : Mu, (∀ q, q ≠ 29 → μ3 q = μ q) → GC G μ3 := fun μ3 f => hc0.fr (by rw [f 8 (by decide)]; exact hF 8 (by decide)) (by rw [f 9 (by decide)]; exact hF 9 (by decide)) (by rw [f 10 (by decide)]; exact hF 10 (by decide)) (by rw [f 11 (by decide)]; exact hF 11 (by decide))
      by_cases hrn : r < hN G
      · have hIr := hI0 r h0 hrn
        have hsr := hc0.1.s (r := r) ⟨h0, hrn⟩
        by_cases hpn : hP G r 0 = -9
        · refine l8a (r := r) (Pf := fun _ => -9) (Y := fun _ _ => False) (by omega) (fun _ => Or.inl rfl) (fun k h1 h2 => ?_) (fun a b μ3 R3 f3 ha hb _ hn3 => s9n (cf μ3 f3) hb (fun h => g47 (cf μ3 f3) (by omega) (by decide) (by rw [hpn]; exact h)) (hn3 (fun z => z))) (fun μ2 o4 o5 o6 o7 o8 f1 f2 => back (fun _ => -9) (fun _ _ => False) μ2 o4 o5 o6 o7 o8 f1 (fun _ h3 => absurd h3 (by omega))) 8 0 μ _ _ (by decide) ⟨fun _ _ => rfl, fun _ _ => rfl⟩ (fun x hx => absurd hx (Nat.not_lt_zero x))
          rw [hF 15 (by decide), hIr.2.1.1 k h1 h2]
          exact pr_no (by omega)
        · have hpv := hc0.1.pv (r := r) (w := 0) (by omega) (by decide) hpn
          have hsp := hc0.1.s (r := hP G r 0) (by omega)
          refine l8a (r := r) (Pf := pr G r 0) (Y := fun a b => b < hS G (hP G r 0) ∧ ∀ i, a ≤ i → i ≤ b → ip G r i = 0) (by omega) (fun k => ?_) (fun k h1 h2 => ?_) (fun a b μ3 R3 f3 ha hb hy3 hn3 => s9 (cf μ3 f3) ?_ (by omega) (by omega) ha hy3 hn3) (fun μ2 o4 o5 o6 o7 o8 f1 f2 => back (pr G r 0) (fun _ _ => False) μ2 o4 o5 o6 o7 o8 f1 (fun _ _ k hk8 => ?_)) 8 0 μ _ _ (by decide) ⟨fun _ _ => rfl, fun _ _ => rfl⟩ (fun x hx => absurd hx (Nat.not_lt_zero x))
          · have := pr_rg G r 0 k; omega
          · rw [hF 15 (by decide)]; exact hIr.2.1.1 k h1 h2
          · unfold PrC13
            rw [f3 14 (by decide), f3 15 (by decide), f3 16 (by decide), f3 17 (by decide), hF 14 (by decide), hF 15 (by decide), hF 16 (by decide), hF 17 (by decide)]
            exact hIr
          · rw [f2 k hk8]
            unfold gpY gp
            rw [ahd_P]
      · refine l8a (r := r) (Pf := fun _ => -9) (Y := fun _ _ => False) (by omega) (fun _ => Or.inl rfl) (fun k h1 h2 => ?_) (fun a b μ3 R3 f3 ha hb _ hn3 => s9n (cf μ3 f3) hb (fun h => g47n (cf μ3 f3) (by omega) h) (hn3 (fun z => z))) (fun μ2 o4 o5 o6 o7 o8 f1 f2 => back (fun _ => -9) (fun _ _ => False) μ2 o4 o5 o6 o7 o8 f1 (fun h3 => absurd h3 (by omega))) 8 0 μ _ _ (by decide) ⟨fun _ _ => rfl, fun _ _ => rfl⟩ (fun x hx => absurd hx (Nat.not_lt_zero x))
        rw [hF 15 (by decide)]
        exact hJ0 r k (by omega) h0 (by omega) h1 h2
theorem s8 {G : Hi} {R : Po} {μ : Mu} (hc : GC G μ) (hI : ∀ x, 0 ≤ x → x < hN G → PrC13 G μ x) (hJ : ∀ x k, hN G ≤ x → 0 ≤ x → x < 8 → 0 ≤ k → k < 8 → μ 15 (x * 8 + k) = -9) (hk : ∀ μ2 : Mu, (∀ q, q ≠ 29 → μ2 q = μ q) → (∀ x, 0 ≤ x → x < hN G → 0 ≤ hP G x 0 → ∀ k : Nat, k < 8 → μ2 29 (x * 8 + k) = gp G x k) → R none μ2) : Wp 8 0 [some (vR 28), some (vR 8), some (vR 13), none, none, none, none, none, none] [] μ R := by
  refine seg 2 (show Wp 8 2 [some (vR 28), some (vR 8), some (vR 13), some (vI 0), none, none, none, none, none] [] μ R from ?_)
  exact l8 hc hI hJ (fun μ2 f1 f2 => hk μ2 f1 (fun x h1 h2 h3 => f2 x h1 h2 h2 h3)) 8 0 μ none none none none none (by decide) (by decide) (fun _ _ => rfl) (fun x h1 h2 => absurd h2 (by omega))
