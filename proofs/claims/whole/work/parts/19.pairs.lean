/-! PAIRS in the class -/
theorem or_fact : ∀ x, x < 256 → ∀ i, i < 8 → (x ||| 1 * 2 ^ i) < 256 ∧ ∀ k, k < 8 → ((x ||| 1 * 2 ^ i) / 2 ^ k % 2 = 1 ↔ (x / 2 ^ k % 2 = 1 ∨ k = i)) := by decide +kernel
theorem tb_nat {x k : Nat} : tb (x : Int) (k : Int) ↔ x / 2 ^ k % 2 = 1 := by
  show ((x : Int) / 2 ^ ((k : Int)).toNat % 2 = 1) ↔ _
  rw [Int.toNat_natCast, show ((2 : Int) ^ k) = ((2 ^ k : Nat) : Int) by simp, ← Int.natCast_ediv]
  omega
def Bts (x : Int) (I : Int → Int) : Prop := (0 ≤ x ∧ x < 256) ∧ ∀ i, 0 ≤ i → i < 8 → (tb x i ↔ I i = 1)
theorem Bts.or {x : Int} {I : Int → Int} (h : Bts x I) {i : Int} (hi : 0 ≤ i ∧ i < 8) : Bts ((Int.toNat x ||| Int.toNat (1 * 2 ^ (i : Int).toNat) : Nat) : Int) (up1 I i 1) := by
  obtain ⟨⟨h0, h1⟩, h2⟩ := h
  obtain ⟨X, rfl⟩ := Int.eq_ofNat_of_zero_le h0
  obtain ⟨a, rfl⟩ := Int.eq_ofNat_of_zero_le hi.1
  have e : Int.toNat (1 * 2 ^ ((a : Nat) : Int).toNat) = 1 * 2 ^ a := by
    rw [Int.toNat_natCast, show ((1 : Int) * 2 ^ a) = ((1 * 2 ^ a : Nat) : Int) by simp]
    rfl
  rw [e, Int.toNat_natCast]
  have h3 := or_fact X (by omega) a (by omega)
  refine ⟨⟨by omega, by omega⟩, fun k hk0 hk => ?_⟩
  obtain ⟨b, rfl⟩ := Int.eq_ofNat_of_zero_le hk0
  rw [tb_nat, h3.2 b (by omega), ← tb_nat, h2 b hk0 hk]
  by_cases hb : (b : Int) = a
  · rw [hb, up1_s]
    constructor
    · intro _; rfl
    · intro _; exact Or.inr (by omega)
  · rw [up1_n hb]
    constructor
    · rintro (h | h)
      · exact h
      · exact absurd (by omega) hb
    · exact Or.inl
theorem Bts.zero : Bts 0 (fun _ => 0) := by
  refine ⟨by decide, fun i _ _ => ?_⟩
  constructor
  · intro h
    have : (0 : Int) / 2 ^ i.toNat = 0 := Int.zero_ediv _
    rw [tb, this] at h
    exact absurd h (by decide)
  · intro h; exact absurd (show (0 : Int) = 1 from h) (by decide)
def Prs (A B : Int → Int) (r : Int) (q : (Int → Int) × (Int → Int)) : Prop := (∀ k, 0 ≤ k → k < 8 → A (r * 8 + k) = q.1 k) ∧ Bts (B r) q.2
theorem Prs.pair {A B : Int → Int} {r i j : Int} {P I : Int → Int} (h : Prs A B r (P, I)) (hi : 0 ≤ i ∧ i < 8) : Prs (up1 A (r * 8 + j) i) (up1 B r ((Int.toNat (B r) ||| Int.toNat (1 * 2 ^ (i : Int).toNat) : Nat) : Int)) r (up1 P j i, up1 I i 1) := by
  refine ⟨fun k h0 h8 => ?_, ?_⟩
  · by_cases hk : k = j
    · subst hk; rw [up1_s]; show i = up1 P k i k; rw [up1_s]
    · rw [up1_n (by omega)]; show A (r * 8 + k) = up1 P j i k; rw [up1_n hk]; exact h.1 k h0 h8
  · rw [up1_s]
    exact h.2.or hi
theorem Tab.all {T f g : Int → Int} {R C : Int} (h : Tab T f g R C (-1) C) {a b : Int} (ha : 0 ≤ a ∧ a ≤ R) (hb : 0 ≤ b ∧ b ≤ C) : T (a * 9 + b) = cm f g R C a b := h a b ha.2 hb.1 hb.2 (by omega)
theorem g47w {G : Hi} {μ : Mu} {R : Po} {r w w' : Int} (hc : GC G μ) (hr : 0 ≤ r ∧ r < hN G) (hw : w = w') (hw' : w' = 0 ∨ w' = 1) (h : R (some (vI (hP G r w'))) μ) : Wp 47 0 [some (vR 8), some (vI r), some (vI w)] [] μ R := by
  subst hw
  exact g47 hc hr hw' h
theorem l23_13 {r : Int} {R : Po} {μ0 : Mu} (hr : 0 ≤ r ∧ r < 8) (hk : ∀ μ : Mu, (∀ q, q ≠ 15 → μ q = μ0 q) → (∀ x, μ 15 x = if r * 8 ≤ x ∧ x < r * 8 + 8 then -9 else μ0 15 x) → R none (u2 (u2 μ 16 r 0) 17 r (-9))) : ∀ (n : Nat) (k : Int) (μ : Mu), 8 - k = n → 0 ≤ k → (∀ q, q ≠ 15 → μ q = μ0 q) → (∀ x, μ 15 x = if r * 8 ≤ x ∧ x < r * 8 + k then -9 else μ0 15 x) → Wp 23 2 [some (vR 13), some (vI r), some (vI k)] [] μ R := by
  intro n
  induction n with
  | zero =>
    intro k μ hn h0 hF hA
    refine seg 3 (show (8 ≤ k → Wp 23 26 [some (vR 13), some (vI r), some (vI k)] [] μ R) ∧ (¬ (8 ≤ k) → Wp 23 8 [some (vR 13), some (vI r), some (vI k)] [] μ R) from ⟨fun c1 => ?_, fun c1 => ?_⟩)
    ·
      refine seg 11 (show (0 ≤ r ∧ r < 8) ∧ (0 ≤ r ∧ r < 8) ∧ R none (u2 (u2 μ 16 r 0) 17 r (-9)) from ⟨by omega, by omega, ?_⟩)
      first | (obtain rfl : k = 8 := (by omega); exact hk μ hF hA) | (exfalso; omega)
    ·
      refine seg 5 (show Wp 114 0 [some (vI r), some (vI k)] [] μ (fun rr μ' => Wp 23 17 [some (vR 13), some (vI r), some (vI k)] (rr.toList ++ [vR 15]) μ' R) from ?_)
      refine s114 (by omega) ?_
      refine seg 4 (show (0 ≤ (r * 8 + k) ∧ (r * 8 + k) < 64) ∧ iR (k + 1) ∧ Wp 23 2 [some (vR 13), some (vI r), some (vI (k + 1))] [] (u2 μ 15 (r * 8 + k) (-9)) R from ⟨by omega, by omega, ?_⟩)
      exfalso; omega
  | succ n ih =>
    intro k μ hn h0 hF hA
    refine seg 3 (show (8 ≤ k → Wp 23 26 [some (vR 13), some (vI r), some (vI k)] [] μ R) ∧ (¬ (8 ≤ k) → Wp 23 8 [some (vR 13), some (vI r), some (vI k)] [] μ R) from ⟨fun c2 => ?_, fun c2 => ?_⟩)
    ·
      refine seg 11 (show (0 ≤ r ∧ r < 8) ∧ (0 ≤ r ∧ r < 8) ∧ R none (u2 (u2 μ 16 r 0) 17 r (-9)) from ⟨by omega, by omega, ?_⟩)
      first | (obtain rfl : k = 8 := (by omega); exact hk μ hF hA) | (exfalso; omega)
    ·
      refine seg 5 (show Wp 114 0 [some (vI r), some (vI k)] [] μ (fun rr μ' => Wp 23 17 [some (vR 13), some (vI r), some (vI k)] (rr.toList ++ [vR 15]) μ' R) from ?_)
      refine s114 (by omega) ?_
      refine seg 4 (show (0 ≤ (r * 8 + k) ∧ (r * 8 + k) < 64) ∧ iR (k + 1) ∧ Wp 23 2 [some (vR 13), some (vI r), some (vI (k + 1))] [] (u2 μ 15 (r * 8 + k) (-9)) R from ⟨by omega, by omega, ?_⟩)
      refine ih (k + 1) _ (by omega) (by omega) (fun q hq => by rw [u2_ne hq]; exact hF q hq) (fun x => ?_)
      rw [u2_at]
      by_cases hx : x = r * 8 + k
      · subst hx; rw [up1_s, if_pos (by omega)]
      · rw [up1_n hx, hA x]
        by_cases hq : r * 8 ≤ x ∧ x < r * 8 + k
        · rw [if_pos hq, if_pos (by omega)]
        · rw [if_neg hq, if_neg (by omega)]
theorem s23_13 {r : Int} {R : Po} {μ : Mu} (hr : 0 ≤ r ∧ r < 8) (hk : ∀ μ2 : Mu, (∀ q, q ≠ 15 → q ≠ 16 → q ≠ 17 → μ2 q = μ q) → (∀ k, 0 ≤ k → k < 8 → μ2 15 (r * 8 + k) = -9) → (∀ x, ¬ (r * 8 ≤ x ∧ x < r * 8 + 8) → μ2 15 x = μ 15 x) → μ2 16 = up1 (μ 16) r 0 → μ2 17 = up1 (μ 17) r (-9) → R none μ2) : Wp 23 0 [some (vR 13), some (vI r), none] [] μ R := by
  refine seg 2 (show Wp 23 2 [some (vR 13), some (vI r), some (vI 0)] [] μ R from ?_)
  refine l23_13 hr (fun μ1 hF hA => hk _ (fun q h1 h2 h3 => by rw [u2_ne h3, u2_ne h2]; exact hF q h1) (fun k h0 h8 => ?_) (fun x hx => ?_) ?_ ?_) 8 0 μ (by decide) (by decide) (fun _ _ => rfl) (fun x => by rw [if_neg (by omega)])
  · rw [u2_ne (by decide), u2_ne (by decide), hA, if_pos (by omega)]
  · rw [u2_ne (by decide), u2_ne (by decide), hA, if_neg hx]
  · rw [u2_ne (by decide), u2_at, hF 16 (by decide)]
  · rw [u2_at, u2_ne (by decide), hF 17 (by decide)]
theorem l27_13 {G : Hi} {p r : Int} {R : Po} {μ0 : Mu} (hc0 : GC G μ0) (hp : 0 ≤ p ∧ p < hN G) (hr : 0 ≤ r ∧ r < hN G) (hT0 : Tab (μ0 18) (hL G p) (hL G r) (hS G p) (hS G r) (-1) (hS G r)) : ∀ (n : Nat) (i j : Int) (P I : Int → Int) (μ : Mu) (o6 : Option PV), (hS G p - i).toNat + (hS G r - j).toNat < n → 0 ≤ i → 0 ≤ j → i ≤ hS G p → j ≤ hS G r → ((∀ q, q ≠ 15 → q ≠ 16 → μ q = μ0 q) ∧ (∀ x, ¬ (r * 8 ≤ x ∧ x < r * 8 + 8) → μ 15 x = μ0 15 x) ∧ (∀ y, y ≠ r → μ 16 y = μ0 16 y)) → Prs (μ 15) (μ 16) r (P, I) → (∀ μ2 : Mu, ((∀ q, q ≠ 15 → q ≠ 16 → μ2 q = μ0 q) ∧ (∀ x, ¬ (r * 8 ≤ x ∧ x < r * 8 + 8) → μ2 15 x = μ0 15 x) ∧ (∀ y, y ≠ r → μ2 16 y = μ0 16 y)) → Prs (μ2 15) (μ2 16) r (wk (hL G p) (hL G r) (hS G p) (hS G r) n i j P I) → R none μ2) → Wp 27 6 [some (vR 13), some (vR 8), some (vI p), some (vI r), some (vI i), some (vI j), o6] [] μ R := by
  intro n
  induction n with
  | zero =>
    intro i j P I μ o6 hn
    exact absurd hn (by omega)
  | succ n ih =>
    intro i j P I μ o6 hn hi hj hi2 hj2 hF hP hk
    have hc := hc0.fr (hF.1 8 (by decide) (by decide)) (hF.1 9 (by decide) (by decide)) (hF.1 10 (by decide) (by decide)) (hF.1 11 (by decide) (by decide))
    have h2 := hc.1.n
    have hsp := hc.1.s hp
    have hsr := hc.1.s hr
    have hT : Tab (μ 18) (hL G p) (hL G r) (hS G p) (hS G r) (-1) (hS G r) := by rw [hF.1 18 (by decide) (by decide)]; exact hT0
    rw [wk] at hk
    refine seg 4 (show Wp 46 0 [some (vR 8), some (vI p)] [] μ (fun rr μ' => Wp 27 13 [some (vR 13), some (vR 8), some (vI p), some (vI r), some (vI i), some (vI j), o6] (rr.toList ++ [vI i]) μ' R) from ?_)
    refine g46 hc (by omega) ?_
    refine seg 1 (show (hS G p ≤ i → Wp 27 133 [some (vR 13), some (vR 8), some (vI p), some (vI r), some (vI i), some (vI j), o6] [] μ R) ∧ (¬ (hS G p ≤ i) → Wp 27 16 [some (vR 13), some (vR 8), some (vI p), some (vI r), some (vI i), some (vI j), o6] [] μ R) from ⟨fun c1 => ?_, fun c1 => ?_⟩)
    ·
      refine seg 1 (show R none μ from ?_)
      rw [if_neg (by omega)] at hk
      exact hk μ hF hP
    ·
      refine seg 4 (show Wp 46 0 [some (vR 8), some (vI r)] [] μ (fun rr μ' => Wp 27 23 [some (vR 13), some (vR 8), some (vI p), some (vI r), some (vI i), some (vI j), o6] (rr.toList ++ [vI j]) μ' R) from ?_)
      refine g46 hc (by omega) ?_
      refine seg 1 (show (hS G r ≤ j → Wp 27 133 [some (vR 13), some (vR 8), some (vI p), some (vI r), some (vI i), some (vI j), o6] [] μ R) ∧ (¬ (hS G r ≤ j) → Wp 27 26 [some (vR 13), some (vR 8), some (vI p), some (vI r), some (vI i), some (vI j), o6] [] μ R) from ⟨fun c2 => ?_, fun c2 => ?_⟩)
      ·
        refine seg 1 (show R none μ from ?_)
        rw [if_neg (by omega)] at hk
        exact hk μ hF hP
      ·
        refine seg 4 (show Wp 48 0 [some (vR 8), some (vI p), some (vI i)] [] μ (fun rr μ' => Wp 27 33 [some (vR 13), some (vR 8), some (vI p), some (vI r), some (vI i), some (vI j), o6] (rr.toList ++ []) μ' R) from ?_)
        refine g48 hc (by omega) (by omega) ?_
        refine seg 4 (show Wp 48 0 [some (vR 8), some (vI r), some (vI j)] [] μ (fun rr μ' => Wp 27 40 [some (vR 13), some (vR 8), some (vI p), some (vI r), some (vI i), some (vI j), o6] (rr.toList ++ [vI (hL G p i)]) μ' R) from ?_)
        refine g48 hc (by omega) (by omega) ?_
        refine seg 1 (show (¬ (hL G p i = hL G r j) → Wp 27 47 [some (vR 13), some (vR 8), some (vI p), some (vI r), some (vI i), some (vI j), o6] [] μ R) ∧ (hL G p i = hL G r j → Wp 27 43 [some (vR 13), some (vR 8), some (vI p), some (vI r), some (vI i), some (vI j), o6] [] μ R) from ⟨fun c3 => ?_, fun c3 => ?_⟩)
        ·
          refine seg 4 (show (0 = 0 → Wp 27 98 [some (vR 13), some (vR 8), some (vI p), some (vI r), some (vI i), some (vI j), some (vI 0)] [] μ R) ∧ (¬ (0 = 0) → Wp 27 55 [some (vR 13), some (vR 8), some (vI p), some (vI r), some (vI i), some (vI j), some (vI 0)] [] μ R) from ⟨fun _ => ?_, fun z => absurd z (by decide)⟩)
          refine seg 6 (show iR (i + 1) ∧ Wp 25 0 [some (vR 13), some (vI (i + 1)), some (vI j)] [] μ (fun rr μ' => Wp 27 108 [some (vR 13), some (vR 8), some (vI p), some (vI r), some (vI i), some (vI j), some (vI 0)] (rr.toList ++ []) μ' R) from ⟨by omega, ?_⟩)
          refine s25v_13 (by omega) ?_
          refine seg 6 (show iR (j + 1) ∧ Wp 25 0 [some (vR 13), some (vI i), some (vI (j + 1))] [] μ (fun rr μ' => Wp 27 118 [some (vR 13), some (vR 8), some (vI p), some (vI r), some (vI i), some (vI j), some (vI 0)] (rr.toList ++ [vI (μ 18 ((i + 1) * 9 + j))]) μ' R) from ⟨by omega, ?_⟩)
          refine s25v_13 (by omega) ?_
          refine seg 1 (show (μ 18 ((i + 1) * 9 + j) < μ 18 (i * 9 + (j + 1)) → Wp 27 127 [some (vR 13), some (vR 8), some (vI p), some (vI r), some (vI i), some (vI j), some (vI 0)] [] μ R) ∧ (¬ (μ 18 ((i + 1) * 9 + j) < μ 18 (i * 9 + (j + 1))) → Wp 27 121 [some (vR 13), some (vR 8), some (vI p), some (vI r), some (vI i), some (vI j), some (vI 0)] [] μ R) from ⟨fun c4 => ?_, fun c4 => ?_⟩)
          ·
            refine seg 2 (show iR (j + 1) ∧ Wp 27 6 [some (vR 13), some (vR 8), some (vI p), some (vI r), some (vI i), some (vI (j + 1)), some (vI 0)] [] μ R from ⟨by omega, ?_⟩)
            rw [if_pos (by omega)] at hk
            rw [if_neg (fun z => by first | exact absurd z.1 (by assumption) | (have z2 := z.2; rw [← hT.all (by omega) (by omega), ← hT.all (by omega) (by omega)] at z2; exact absurd z2 (by assumption)))] at hk
            rw [if_neg (by rw [← hT.all (by omega) (by omega), ← hT.all (by omega) (by omega)]; omega)] at hk
            exact ih _ _ _ _ _ _ (by omega) (by omega) (by omega) (by omega) (by omega) hF hP hk
          ·
            refine seg 3 (show iR (i + 1) ∧ Wp 27 6 [some (vR 13), some (vR 8), some (vI p), some (vI r), some (vI (i + 1)), some (vI j), some (vI 0)] [] μ R from ⟨by omega, ?_⟩)
            rw [if_pos (by omega)] at hk
            rw [if_neg (fun z => by first | exact absurd z.1 (by assumption) | (have z2 := z.2; rw [← hT.all (by omega) (by omega), ← hT.all (by omega) (by omega)] at z2; exact absurd z2 (by assumption)))] at hk
            rw [if_pos (by rw [← hT.all (by omega) (by omega), ← hT.all (by omega) (by omega)]; omega)] at hk
            exact ih _ _ _ _ _ _ (by omega) (by omega) (by omega) (by omega) (by omega) hF hP hk
        ·
          refine seg 5 (show (1 = 0 → Wp 27 98 [some (vR 13), some (vR 8), some (vI p), some (vI r), some (vI i), some (vI j), some (vI 1)] [] μ R) ∧ (¬ (1 = 0) → Wp 27 55 [some (vR 13), some (vR 8), some (vI p), some (vI r), some (vI i), some (vI j), some (vI 1)] [] μ R) from ⟨fun z => absurd z (by decide), fun _ => ?_⟩)
          refine seg 4 (show Wp 25 0 [some (vR 13), some (vI i), some (vI j)] [] μ (fun rr μ' => Wp 27 63 [some (vR 13), some (vR 8), some (vI p), some (vI r), some (vI i), some (vI j), some (vI 1)] (rr.toList ++ []) μ' R) from ?_)
          refine s25v_13 (by omega) ?_
          refine seg 8 (show iR (i + 1) ∧ iR (j + 1) ∧ Wp 25 0 [some (vR 13), some (vI (i + 1)), some (vI (j + 1))] [] μ (fun rr μ' => Wp 27 75 [some (vR 13), some (vR 8), some (vI p), some (vI r), some (vI i), some (vI j), some (vI 1)] (rr.toList ++ [vI (μ 18 (i * 9 + j))]) μ' R) from ⟨by omega, by omega, ?_⟩)
          refine s25v_13 (by omega) ?_
          refine seg 3 (show iR ((μ 18 ((i + 1) * 9 + (j + 1))) + 1) ∧ (¬ (μ 18 (i * 9 + j) = (μ 18 ((i + 1) * 9 + (j + 1))) + 1) → Wp 27 98 [some (vR 13), some (vR 8), some (vI p), some (vI r), some (vI i), some (vI j), some (vI 1)] [] μ R) ∧ (μ 18 (i * 9 + j) = (μ 18 ((i + 1) * 9 + (j + 1))) + 1 → Wp 27 80 [some (vR 13), some (vR 8), some (vI p), some (vI r), some (vI i), some (vI j), some (vI 1)] [] μ R) from ⟨by have := tab_rg (a := i + 1) (b := j + 1) hT (by omega) (by omega) (by omega) (by omega); omega, fun c5 => ?_, fun c5 => ?_⟩)
          ·
            refine seg 6 (show iR (i + 1) ∧ Wp 25 0 [some (vR 13), some (vI (i + 1)), some (vI j)] [] μ (fun rr μ' => Wp 27 108 [some (vR 13), some (vR 8), some (vI p), some (vI r), some (vI i), some (vI j), some (vI 1)] (rr.toList ++ []) μ' R) from ⟨by omega, ?_⟩)
            refine s25v_13 (by omega) ?_
            refine seg 6 (show iR (j + 1) ∧ Wp 25 0 [some (vR 13), some (vI i), some (vI (j + 1))] [] μ (fun rr μ' => Wp 27 118 [some (vR 13), some (vR 8), some (vI p), some (vI r), some (vI i), some (vI j), some (vI 1)] (rr.toList ++ [vI (μ 18 ((i + 1) * 9 + j))]) μ' R) from ⟨by omega, ?_⟩)
            refine s25v_13 (by omega) ?_
            refine seg 1 (show (μ 18 ((i + 1) * 9 + j) < μ 18 (i * 9 + (j + 1)) → Wp 27 127 [some (vR 13), some (vR 8), some (vI p), some (vI r), some (vI i), some (vI j), some (vI 1)] [] μ R) ∧ (¬ (μ 18 ((i + 1) * 9 + j) < μ 18 (i * 9 + (j + 1))) → Wp 27 121 [some (vR 13), some (vR 8), some (vI p), some (vI r), some (vI i), some (vI j), some (vI 1)] [] μ R) from ⟨fun c6 => ?_, fun c6 => ?_⟩)
            ·
              refine seg 2 (show iR (j + 1) ∧ Wp 27 6 [some (vR 13), some (vR 8), some (vI p), some (vI r), some (vI i), some (vI (j + 1)), some (vI 1)] [] μ R from ⟨by omega, ?_⟩)
              rw [if_pos (by omega)] at hk
              rw [if_neg (fun z => by first | exact absurd z.1 (by assumption) | (have z2 := z.2; rw [← hT.all (by omega) (by omega), ← hT.all (by omega) (by omega)] at z2; exact absurd z2 (by assumption)))] at hk
              rw [if_neg (by rw [← hT.all (by omega) (by omega), ← hT.all (by omega) (by omega)]; omega)] at hk
              exact ih _ _ _ _ _ _ (by omega) (by omega) (by omega) (by omega) (by omega) hF hP hk
            ·
              refine seg 3 (show iR (i + 1) ∧ Wp 27 6 [some (vR 13), some (vR 8), some (vI p), some (vI r), some (vI (i + 1)), some (vI j), some (vI 1)] [] μ R from ⟨by omega, ?_⟩)
              rw [if_pos (by omega)] at hk
              rw [if_neg (fun z => by first | exact absurd z.1 (by assumption) | (have z2 := z.2; rw [← hT.all (by omega) (by omega), ← hT.all (by omega) (by omega)] at z2; exact absurd z2 (by assumption)))] at hk
              rw [if_pos (by rw [← hT.all (by omega) (by omega), ← hT.all (by omega) (by omega)]; omega)] at hk
              exact ih _ _ _ _ _ _ (by omega) (by omega) (by omega) (by omega) (by omega) hF hP hk
          ·
            refine seg 5 (show Wp 28 0 [some (vR 13), some (vI r), some (vI i), some (vI j)] [] μ (fun rr μ' => Wp 27 89 [some (vR 13), some (vR 8), some (vI p), some (vI r), some (vI i), some (vI j), some (vI 1)] (rr.toList ++ []) μ' R) from ?_)
            refine s28v_13 (by omega) (hP.2.1.1) ?_
            refine seg 4 (show iR (i + 1) ∧ iR (j + 1) ∧ Wp 27 6 [some (vR 13), some (vR 8), some (vI p), some (vI r), some (vI (i + 1)), some (vI (j + 1)), some (vI 1)] [] (u2 (u2 μ 15 (r * 8 + j) i) 16 r ((Int.toNat (μ 16 r) ||| Int.toNat (1 * 2 ^ (i : Int).toNat) : Nat) : Int)) R from ⟨by omega, by omega, ?_⟩)
            rw [if_pos (by omega)] at hk
            rw [if_pos ⟨by assumption, by rw [← hT.all (by omega) (by omega), ← hT.all (by omega) (by omega)]; assumption⟩] at hk
            refine ih _ _ _ _ _ _ (by omega) (by omega) (by omega) (by omega) (by omega) ⟨fun q h1 h2 => by rw [u2_ne h2, u2_ne h1]; exact hF.1 q h1 h2, fun x hx => by rw [u2_ne (by decide), u2_at, up1_n (by omega)]; exact hF.2.1 x hx, fun y hy => by rw [u2_at, u2_ne (by decide), up1_n hy]; exact hF.2.2 y hy⟩ ?_ hk
            rw [u2_ne (by decide), u2_at, u2_at, u2_ne (by decide)]
            exact hP.pair (by omega)
theorem s27_13 {G : Hi} {p r : Int} {R : Po} {μ : Mu} (hc : GC G μ) (hp : 0 ≤ p ∧ p < hN G) (hr : 0 ≤ r ∧ r < hN G) (hT : Tab (μ 18) (hL G p) (hL G r) (hS G p) (hS G r) (-1) (hS G r)) (hP : Prs (μ 15) (μ 16) r (fun _ => -9, fun _ => 0)) (hk : ∀ μ2 : Mu, ((∀ q, q ≠ 15 → q ≠ 16 → μ2 q = μ q) ∧ (∀ x, ¬ (r * 8 ≤ x ∧ x < r * 8 + 8) → μ2 15 x = μ 15 x) ∧ (∀ y, y ≠ r → μ2 16 y = μ 16 y)) → Prs (μ2 15) (μ2 16) r (wk (hL G p) (hL G r) (hS G p) (hS G r) 17 0 0 (fun _ => -9) (fun _ => 0)) → R none μ2) : Wp 27 0 [some (vR 13), some (vR 8), some (vI p), some (vI r), none, none, none] [] μ R := by
  have hsp := hc.1.s hp
  have hsr := hc.1.s hr
  refine seg 4 (show Wp 27 6 [some (vR 13), some (vR 8), some (vI p), some (vI r), some (vI 0), some (vI 0), none] [] μ R from ?_)
  exact l27_13 hc hp hr hT 17 0 0 _ _ μ none (by omega) (by decide) (by decide) (by omega) (by omega) ⟨fun _ _ _ => rfl, fun _ _ => rfl, fun _ _ => rfl⟩ hP hk
/-- a revision's rows in a Pairing -/
def PrC13 (G : Hi) (μ : Mu) (r : Int) : Prop := μ 14 r = hP G r 0 ∧ Prs (μ 15) (μ 16) r (prI G r 0) ∧ μ 17 r = cmA G r 0
theorem l22_13 {G : Hi} {R : Po} {μ0 : Mu} (hc0 : GC G μ0) (hw0 : μ0 13 0 = 0) (hk : ∀ μ : Mu, (∀ q, q ≠ 14 → q ≠ 15 → q ≠ 16 → q ≠ 17 → q ≠ 18 → μ q = μ0 q) → (∀ x, 0 ≤ x → x < hN G → PrC13 G μ x) → (∀ x k, hN G ≤ x → 0 ≤ x → x < 8 → 0 ≤ k → k < 8 → μ 15 (x * 8 + k) = -9) → R none μ) : ∀ (n : Nat) (r : Int) (μ : Mu) (o3 : Option PV), 8 - r = n → 0 ≤ r → (∀ q, q ≠ 14 → q ≠ 15 → q ≠ 16 → q ≠ 17 → q ≠ 18 → μ q = μ0 q) → (∀ x, 0 ≤ x → x < r → x < hN G → PrC13 G μ x) → (∀ x k, hN G ≤ x → 0 ≤ x → x < r → 0 ≤ k → k < 8 → μ 15 (x * 8 + k) = -9) → Wp 22 2 [some (vR 13), some (vR 8), some (vI r), o3] [] μ R := by
  intro n
  induction n with
  | zero =>
    intro r μ o3 hn h0 hF hI hJ
    have hc := hc0.fr (hF 8 (by decide) (by decide) (by decide) (by decide) (by decide)) (hF 9 (by decide) (by decide) (by decide) (by decide) (by decide)) (hF 10 (by decide) (by decide) (by decide) (by decide) (by decide)) (hF 11 (by decide) (by decide) (by decide) (by decide) (by decide))
    refine seg 3 (show (8 ≤ r → Wp 22 68 [some (vR 13), some (vR 8), some (vI r), o3] [] μ R) ∧ (¬ (8 ≤ r) → Wp 22 8 [some (vR 13), some (vR 8), some (vI r), o3] [] μ R) from ⟨fun c1 => ?_, fun c1 => ?_⟩)
    ·
      refine seg 1 (show R none μ from ?_)
      first | exact hk μ hF (fun x h1 h2 => hI x h1 (by have := hc.1.n; omega) h2) (fun x k h1 h2 h3 h4 h5 => hJ x k h1 h2 (by omega) h4 h5) | (exfalso; omega)
    ·
      refine seg 3 (show Wp 23 0 [some (vR 13), some (vI r), none] [] μ (fun rr μ' => Wp 22 13 [some (vR 13), some (vR 8), some (vI r), o3] (rr.toList ++ []) μ' R) from ?_)
      exfalso; omega
  | succ n ih =>
    intro r μ o3 hn h0 hF hI hJ
    have hc := hc0.fr (hF 8 (by decide) (by decide) (by decide) (by decide) (by decide)) (hF 9 (by decide) (by decide) (by decide) (by decide) (by decide)) (hF 10 (by decide) (by decide) (by decide) (by decide) (by decide)) (hF 11 (by decide) (by decide) (by decide) (by decide) (by decide))
    refine seg 3 (show (8 ≤ r → Wp 22 68 [some (vR 13), some (vR 8), some (vI r), o3] [] μ R) ∧ (¬ (8 ≤ r) → Wp 22 8 [some (vR 13), some (vR 8), some (vI r), o3] [] μ R) from ⟨fun c2 => ?_, fun c2 => ?_⟩)
    ·
      refine seg 1 (show R none μ from ?_)
      first | exact hk μ hF (fun x h1 h2 => hI x h1 (by have := hc.1.n; omega) h2) (fun x k h1 h2 h3 h4 h5 => hJ x k h1 h2 (by omega) h4 h5) | (exfalso; omega)
    ·
      refine seg 3 (show Wp 23 0 [some (vR 13), some (vI r), none] [] μ (fun rr μ' => Wp 22 13 [some (vR 13), some (vR 8), some (vI r), o3] (rr.toList ++ []) μ' R) from ?_)
      refine s23_13 (by omega) (fun μ1 f1 f2 f3 f4 f5 => ?_)
      have hc1 := hc.fr (f1 8 (by decide) (by decide) (by decide)) (f1 9 (by decide) (by decide) (by decide)) (f1 10 (by decide) (by decide) (by decide)) (f1 11 (by decide) (by decide) (by decide))
      have hw1 : μ1 13 0 = 0 := by rw [f1 13 (by decide) (by decide) (by decide), hF 13 (by decide) (by decide) (by decide) (by decide) (by decide)]; exact hw0
      refine seg 5 (show Wp 47 0 [some (vR 8), some (vI r), some (vI (μ1 13 0))] [] μ1 (fun rr μ' => Wp 22 22 [some (vR 13), some (vR 8), some (vI r), o3] (rr.toList ++ []) μ' R) from ?_)
      by_cases hrn : r < hN G
      ·
        refine g47w hc1 (by omega) hw1 (by decide) ?_
        refine seg 9 (show (0 ≤ r ∧ r < 8) ∧ (hP G r 0 = -9 → Wp 22 62 [some (vR 13), some (vR 8), some (vI r), some (vI (hP G r 0))] [] (u2 μ1 14 r (hP G r 0)) R) ∧ (¬ (hP G r 0 = -9) → Wp 22 36 [some (vR 13), some (vR 8), some (vI r), some (vI (hP G r 0))] [] (u2 μ1 14 r (hP G r 0)) R) from ⟨by omega, fun c3 => ?_, fun c3 => ?_⟩)
        ·
          refine seg 2 (show iR (r + 1) ∧ Wp 22 2 [some (vR 13), some (vR 8), some (vI (r + 1)), some (vI (hP G r 0))] [] (u2 μ1 14 r (hP G r 0)) R from ⟨by omega, ?_⟩)
          obtain ⟨μ5, hμ5⟩ : ∃ z, z = u2 μ1 14 r (hP G r 0) := ⟨_, rfl⟩
          rw [← hμ5]
          have e5 : ∀ q, q ≠ 14 → μ5 q = μ1 q := fun q hq => by rw [hμ5]; exact u2_ne hq
          refine ih (r + 1) μ5 _ (by omega) (by omega) (fun q h1 h2 h3 h4 h5 => by rw [e5 q h1, f1 q h2 h3 h4]; exact hF q h1 h2 h3 h4 h5) (fun x hx0 hx1 hx2 => ?_) (fun x k h1 h2 h3 h4 h5 => by
            rw [e5 _ (by decide)]
            by_cases hxr : x = r
            · subst hxr; exact f2 k h4 h5
            · rw [f3 _ (by omega)]; exact hJ x k h1 h2 (by omega) h4 h5)
          by_cases hxr : x = r
          · subst hxr
            first
            | (exfalso; omega)
            | (refine ⟨by rw [hμ5, u2_at, up1_s], ?_, ?_⟩
               · unfold prI
                 rw [if_pos (by omega)]
                 exact ⟨fun k h0 h8 => by rw [e5 _ (by decide)]; exact f2 k h0 h8, by rw [e5 _ (by decide), f4, up1_s]; exact Bts.zero⟩
               · rw [e5 _ (by decide), f5, up1_s]
                 unfold cmA
                 rw [if_pos (by omega)])
          · have hI2 := hI x hx0 (by omega) hx2
            refine ⟨by rw [hμ5, u2_at, up1_n hxr, f1 _ (by decide) (by decide) (by decide)]; exact hI2.1, ⟨fun k h0 h8 => ?_, ?_⟩, ?_⟩
            · rw [e5 _ (by decide), f3 _ (by omega)]
              exact hI2.2.1.1 k h0 h8
            · rw [e5 _ (by decide), f4, up1_n hxr]
              exact hI2.2.1.2
            · rw [e5 _ (by decide), f5, up1_n hxr]
              exact hI2.2.2
        ·
          refine seg 5 (show Wp 24 0 [some (vR 13), some (vR 8), some (vI (hP G r 0)), some (vI r), none, none, none, none, none, none] [] (u2 μ1 14 r (hP G r 0)) (fun rr μ' => Wp 22 43 [some (vR 13), some (vR 8), some (vI r), some (vI (hP G r 0))] (rr.toList ++ []) μ' R) from ?_)
          obtain ⟨μ2, hμ2⟩ : ∃ z, z = u2 μ1 14 r (hP G r 0) := ⟨_, rfl⟩
          rw [← hμ2]
          have e2 : ∀ q, q ≠ 14 → μ2 q = μ1 q := fun q hq => by rw [hμ2]; exact u2_ne hq
          have hc2 := hc1.fr (e2 8 (by decide)) (e2 9 (by decide)) (e2 10 (by decide)) (e2 11 (by decide))
          have hpv := hc1.1.pv (r := r) (w := 0) (by omega) (by decide) (by assumption)
          refine s24_13 hc2 (by omega) (by omega) (fun μ3 f6 hT => ?_)
          have hc3 := hc2.fr (f6 8 (by decide)) (f6 9 (by decide)) (f6 10 (by decide)) (f6 11 (by decide))
          refine seg 13 (show (0 ≤ 0 ∧ 0 < 81) ∧ (0 ≤ r ∧ r < 8) ∧ Wp 27 0 [some (vR 13), some (vR 8), some (vI (hP G r 0)), some (vI r), none, none, none] [] (u2 μ3 17 r (μ3 18 0)) (fun rr μ' => Wp 22 62 [some (vR 13), some (vR 8), some (vI r), some (vI (hP G r 0))] (rr.toList ++ []) μ' R) from ⟨by omega, by omega, ?_⟩)
          obtain ⟨μ4, hμ4⟩ : ∃ z, z = u2 μ3 17 r (μ3 18 0) := ⟨_, rfl⟩
          rw [← hμ4]
          have e4 : ∀ q, q ≠ 17 → μ4 q = μ3 q := fun q hq => by rw [hμ4]; exact u2_ne hq
          have hc4 := hc3.fr (e4 8 (by decide)) (e4 9 (by decide)) (e4 10 (by decide)) (e4 11 (by decide))
          have eA : μ4 15 = μ1 15 := by rw [e4 _ (by decide), f6 _ (by decide), e2 _ (by decide)]
          have eB : μ4 16 = μ1 16 := by rw [e4 _ (by decide), f6 _ (by decide), e2 _ (by decide)]
          refine s27_13 hc4 (by omega) (by omega) (by rw [e4 18 (by decide)]; exact hT) (by rw [eA, eB]; exact ⟨f2, by rw [f4, up1_s]; exact Bts.zero⟩) (fun μ5 f7 hP5 => ?_)
          refine seg 2 (show iR (r + 1) ∧ Wp 22 2 [some (vR 13), some (vR 8), some (vI (r + 1)), some (vI (hP G r 0))] [] μ5 R from ⟨by omega, ?_⟩)
          have eP : μ5 14 = up1 (μ1 14) r (hP G r 0) := by rw [f7.1 _ (by decide) (by decide), e4 _ (by decide), f6 _ (by decide), hμ2, u2_at]
          have eC : μ5 17 = up1 (μ1 17) r (μ3 18 0) := by rw [f7.1 _ (by decide) (by decide), hμ4, u2_at, f6 _ (by decide), e2 _ (by decide)]
          refine ih (r + 1) μ5 _ (by omega) (by omega) (fun q h1 h2 h3 h4 h5 => by rw [f7.1 q h2 h3, e4 q h4, f6 q h5, e2 q h1, f1 q h2 h3 h4]; exact hF q h1 h2 h3 h4 h5) (fun x hx0 hx1 hx2 => ?_) (fun x k h1 h2 h3 h4 h5 => by rw [f7.2.1 _ (by omega), eA, f3 _ (by omega)]; exact hJ x k h1 h2 (by omega) h4 h5)
          by_cases hxr : x = r
          · subst hxr
            refine ⟨by rw [eP, up1_s], ?_, ?_⟩
            · unfold prI
              rw [if_neg (by omega)]
              exact hP5
            · rw [eC, up1_s]
              unfold cmA
              rw [if_neg (by omega)]
              have := hT.all (a := 0) (b := 0) (by have := hc.1.s (r := hP G x 0) (by omega); omega) (by have := hc.1.s (r := x) (by omega); omega)
              exact this
          · have hI2 := hI x hx0 (by omega) hx2
            refine ⟨by rw [eP, up1_n hxr, f1 _ (by decide) (by decide) (by decide)]; exact hI2.1, ⟨fun k h0 h8 => ?_, ?_⟩, ?_⟩
            · rw [f7.2.1 _ (by omega), eA, f3 _ (by omega)]
              exact hI2.2.1.1 k h0 h8
            · rw [f7.2.2 x hxr, eB, f4, up1_n hxr]
              exact hI2.2.1.2
            · rw [eC, up1_n hxr, f5, up1_n hxr]
              exact hI2.2.2
      ·
        refine g47n hc1 (by omega) ?_
        refine seg 9 (show (0 ≤ r ∧ r < 8) ∧ (-9 = -9 → Wp 22 62 [some (vR 13), some (vR 8), some (vI r), some (vI (-9))] [] (u2 μ1 14 r (-9)) R) ∧ (¬ (-9 = -9) → Wp 22 36 [some (vR 13), some (vR 8), some (vI r), some (vI (-9))] [] (u2 μ1 14 r (-9)) R) from ⟨by omega, fun _ => ?_, fun z => absurd z (by decide)⟩)
        refine seg 2 (show iR (r + 1) ∧ Wp 22 2 [some (vR 13), some (vR 8), some (vI (r + 1)), some (vI (-9))] [] (u2 μ1 14 r (-9)) R from ⟨by omega, ?_⟩)
        obtain ⟨μ5, hμ5⟩ : ∃ z, z = u2 μ1 14 r (-9) := ⟨_, rfl⟩
        rw [← hμ5]
        have e5 : ∀ q, q ≠ 14 → μ5 q = μ1 q := fun q hq => by rw [hμ5]; exact u2_ne hq
        refine ih (r + 1) μ5 _ (by omega) (by omega) (fun q h1 h2 h3 h4 h5 => by rw [e5 q h1, f1 q h2 h3 h4]; exact hF q h1 h2 h3 h4 h5) (fun x hx0 hx1 hx2 => ?_) (fun x k h1 h2 h3 h4 h5 => by
          rw [e5 _ (by decide)]
          by_cases hxr : x = r
          · subst hxr; exact f2 k h4 h5
          · rw [f3 _ (by omega)]; exact hJ x k h1 h2 (by omega) h4 h5)
        by_cases hxr : x = r
        · subst hxr
          first
          | (exfalso; omega)
          | (refine ⟨by rw [hμ5, u2_at, up1_s], ?_, ?_⟩
             · unfold prI
               rw [if_pos (by omega)]
               exact ⟨fun k h0 h8 => by rw [e5 _ (by decide)]; exact f2 k h0 h8, by rw [e5 _ (by decide), f4, up1_s]; exact Bts.zero⟩
             · rw [e5 _ (by decide), f5, up1_s]
               unfold cmA
               rw [if_pos (by omega)])
        · have hI2 := hI x hx0 (by omega) hx2
          refine ⟨by rw [hμ5, u2_at, up1_n hxr, f1 _ (by decide) (by decide) (by decide)]; exact hI2.1, ⟨fun k h0 h8 => ?_, ?_⟩, ?_⟩
          · rw [e5 _ (by decide), f3 _ (by omega)]
            exact hI2.2.1.1 k h0 h8
          · rw [e5 _ (by decide), f4, up1_n hxr]
            exact hI2.2.1.2
          · rw [e5 _ (by decide), f5, up1_n hxr]
            exact hI2.2.2
theorem s22_13 {G : Hi} {R : Po} {μ : Mu} (hc : GC G μ) (hw : μ 13 0 = 0) (hk : ∀ μ2 : Mu, (∀ q, q ≠ 14 → q ≠ 15 → q ≠ 16 → q ≠ 17 → q ≠ 18 → μ2 q = μ q) → (∀ x, 0 ≤ x → x < hN G → PrC13 G μ2 x) → (∀ x k, hN G ≤ x → 0 ≤ x → x < 8 → 0 ≤ k → k < 8 → μ2 15 (x * 8 + k) = -9) → R none μ2) : Wp 22 0 [some (vR 13), some (vR 8), none, none] [] μ R := by
  refine seg 2 (show Wp 22 2 [some (vR 13), some (vR 8), some (vI 0), none] [] μ R from ?_)
  exact l22_13 hc hw hk 8 0 μ none (by decide) (by decide) (fun _ _ _ _ _ _ => rfl) (fun x h1 h2 _ => absurd h2 (by omega)) (fun x k _ h1 h2 => absurd h2 (by omega))
theorem l23_19 {r : Int} {R : Po} {μ0 : Mu} (hr : 0 ≤ r ∧ r < 8) (hk : ∀ μ : Mu, (∀ q, q ≠ 21 → μ q = μ0 q) → (∀ x, μ 21 x = if r * 8 ≤ x ∧ x < r * 8 + 8 then -9 else μ0 21 x) → R none (u2 (u2 μ 22 r 0) 23 r (-9))) : ∀ (n : Nat) (k : Int) (μ : Mu), 8 - k = n → 0 ≤ k → (∀ q, q ≠ 21 → μ q = μ0 q) → (∀ x, μ 21 x = if r * 8 ≤ x ∧ x < r * 8 + k then -9 else μ0 21 x) → Wp 23 2 [some (vR 19), some (vI r), some (vI k)] [] μ R := by
  intro n
  induction n with
  | zero =>
    intro k μ hn h0 hF hA
    refine seg 3 (show (8 ≤ k → Wp 23 26 [some (vR 19), some (vI r), some (vI k)] [] μ R) ∧ (¬ (8 ≤ k) → Wp 23 8 [some (vR 19), some (vI r), some (vI k)] [] μ R) from ⟨fun c1 => ?_, fun c1 => ?_⟩)
    ·
      refine seg 11 (show (0 ≤ r ∧ r < 8) ∧ (0 ≤ r ∧ r < 8) ∧ R none (u2 (u2 μ 22 r 0) 23 r (-9)) from ⟨by omega, by omega, ?_⟩)
      first | (obtain rfl : k = 8 := (by omega); exact hk μ hF hA) | (exfalso; omega)
    ·
      refine seg 5 (show Wp 114 0 [some (vI r), some (vI k)] [] μ (fun rr μ' => Wp 23 17 [some (vR 19), some (vI r), some (vI k)] (rr.toList ++ [vR 21]) μ' R) from ?_)
      refine s114 (by omega) ?_
      refine seg 4 (show (0 ≤ (r * 8 + k) ∧ (r * 8 + k) < 64) ∧ iR (k + 1) ∧ Wp 23 2 [some (vR 19), some (vI r), some (vI (k + 1))] [] (u2 μ 21 (r * 8 + k) (-9)) R from ⟨by omega, by omega, ?_⟩)
      exfalso; omega
  | succ n ih =>
    intro k μ hn h0 hF hA
    refine seg 3 (show (8 ≤ k → Wp 23 26 [some (vR 19), some (vI r), some (vI k)] [] μ R) ∧ (¬ (8 ≤ k) → Wp 23 8 [some (vR 19), some (vI r), some (vI k)] [] μ R) from ⟨fun c2 => ?_, fun c2 => ?_⟩)
    ·
      refine seg 11 (show (0 ≤ r ∧ r < 8) ∧ (0 ≤ r ∧ r < 8) ∧ R none (u2 (u2 μ 22 r 0) 23 r (-9)) from ⟨by omega, by omega, ?_⟩)
      first | (obtain rfl : k = 8 := (by omega); exact hk μ hF hA) | (exfalso; omega)
    ·
      refine seg 5 (show Wp 114 0 [some (vI r), some (vI k)] [] μ (fun rr μ' => Wp 23 17 [some (vR 19), some (vI r), some (vI k)] (rr.toList ++ [vR 21]) μ' R) from ?_)
      refine s114 (by omega) ?_
      refine seg 4 (show (0 ≤ (r * 8 + k) ∧ (r * 8 + k) < 64) ∧ iR (k + 1) ∧ Wp 23 2 [some (vR 19), some (vI r), some (vI (k + 1))] [] (u2 μ 21 (r * 8 + k) (-9)) R from ⟨by omega, by omega, ?_⟩)
      refine ih (k + 1) _ (by omega) (by omega) (fun q hq => by rw [u2_ne hq]; exact hF q hq) (fun x => ?_)
      rw [u2_at]
      by_cases hx : x = r * 8 + k
      · subst hx; rw [up1_s, if_pos (by omega)]
      · rw [up1_n hx, hA x]
        by_cases hq : r * 8 ≤ x ∧ x < r * 8 + k
        · rw [if_pos hq, if_pos (by omega)]
        · rw [if_neg hq, if_neg (by omega)]
theorem s23_19 {r : Int} {R : Po} {μ : Mu} (hr : 0 ≤ r ∧ r < 8) (hk : ∀ μ2 : Mu, (∀ q, q ≠ 21 → q ≠ 22 → q ≠ 23 → μ2 q = μ q) → (∀ k, 0 ≤ k → k < 8 → μ2 21 (r * 8 + k) = -9) → (∀ x, ¬ (r * 8 ≤ x ∧ x < r * 8 + 8) → μ2 21 x = μ 21 x) → μ2 22 = up1 (μ 22) r 0 → μ2 23 = up1 (μ 23) r (-9) → R none μ2) : Wp 23 0 [some (vR 19), some (vI r), none] [] μ R := by
  refine seg 2 (show Wp 23 2 [some (vR 19), some (vI r), some (vI 0)] [] μ R from ?_)
  refine l23_19 hr (fun μ1 hF hA => hk _ (fun q h1 h2 h3 => by rw [u2_ne h3, u2_ne h2]; exact hF q h1) (fun k h0 h8 => ?_) (fun x hx => ?_) ?_ ?_) 8 0 μ (by decide) (by decide) (fun _ _ => rfl) (fun x => by rw [if_neg (by omega)])
  · rw [u2_ne (by decide), u2_ne (by decide), hA, if_pos (by omega)]
  · rw [u2_ne (by decide), u2_ne (by decide), hA, if_neg hx]
  · rw [u2_ne (by decide), u2_at, hF 22 (by decide)]
  · rw [u2_at, u2_ne (by decide), hF 23 (by decide)]
theorem l27_19 {G : Hi} {p r : Int} {R : Po} {μ0 : Mu} (hc0 : GC G μ0) (hp : 0 ≤ p ∧ p < hN G) (hr : 0 ≤ r ∧ r < hN G) (hT0 : Tab (μ0 24) (hL G p) (hL G r) (hS G p) (hS G r) (-1) (hS G r)) : ∀ (n : Nat) (i j : Int) (P I : Int → Int) (μ : Mu) (o6 : Option PV), (hS G p - i).toNat + (hS G r - j).toNat < n → 0 ≤ i → 0 ≤ j → i ≤ hS G p → j ≤ hS G r → ((∀ q, q ≠ 21 → q ≠ 22 → μ q = μ0 q) ∧ (∀ x, ¬ (r * 8 ≤ x ∧ x < r * 8 + 8) → μ 21 x = μ0 21 x) ∧ (∀ y, y ≠ r → μ 22 y = μ0 22 y)) → Prs (μ 21) (μ 22) r (P, I) → (∀ μ2 : Mu, ((∀ q, q ≠ 21 → q ≠ 22 → μ2 q = μ0 q) ∧ (∀ x, ¬ (r * 8 ≤ x ∧ x < r * 8 + 8) → μ2 21 x = μ0 21 x) ∧ (∀ y, y ≠ r → μ2 22 y = μ0 22 y)) → Prs (μ2 21) (μ2 22) r (wk (hL G p) (hL G r) (hS G p) (hS G r) n i j P I) → R none μ2) → Wp 27 6 [some (vR 19), some (vR 8), some (vI p), some (vI r), some (vI i), some (vI j), o6] [] μ R := by
  intro n
  induction n with
  | zero =>
    intro i j P I μ o6 hn
    exact absurd hn (by omega)
  | succ n ih =>
    intro i j P I μ o6 hn hi hj hi2 hj2 hF hP hk
    have hc := hc0.fr (hF.1 8 (by decide) (by decide)) (hF.1 9 (by decide) (by decide)) (hF.1 10 (by decide) (by decide)) (hF.1 11 (by decide) (by decide))
    have h2 := hc.1.n
    have hsp := hc.1.s hp
    have hsr := hc.1.s hr
    have hT : Tab (μ 24) (hL G p) (hL G r) (hS G p) (hS G r) (-1) (hS G r) := by rw [hF.1 24 (by decide) (by decide)]; exact hT0
    rw [wk] at hk
    refine seg 4 (show Wp 46 0 [some (vR 8), some (vI p)] [] μ (fun rr μ' => Wp 27 13 [some (vR 19), some (vR 8), some (vI p), some (vI r), some (vI i), some (vI j), o6] (rr.toList ++ [vI i]) μ' R) from ?_)
    refine g46 hc (by omega) ?_
    refine seg 1 (show (hS G p ≤ i → Wp 27 133 [some (vR 19), some (vR 8), some (vI p), some (vI r), some (vI i), some (vI j), o6] [] μ R) ∧ (¬ (hS G p ≤ i) → Wp 27 16 [some (vR 19), some (vR 8), some (vI p), some (vI r), some (vI i), some (vI j), o6] [] μ R) from ⟨fun c1 => ?_, fun c1 => ?_⟩)
    ·
      refine seg 1 (show R none μ from ?_)
      rw [if_neg (by omega)] at hk
      exact hk μ hF hP
    ·
      refine seg 4 (show Wp 46 0 [some (vR 8), some (vI r)] [] μ (fun rr μ' => Wp 27 23 [some (vR 19), some (vR 8), some (vI p), some (vI r), some (vI i), some (vI j), o6] (rr.toList ++ [vI j]) μ' R) from ?_)
      refine g46 hc (by omega) ?_
      refine seg 1 (show (hS G r ≤ j → Wp 27 133 [some (vR 19), some (vR 8), some (vI p), some (vI r), some (vI i), some (vI j), o6] [] μ R) ∧ (¬ (hS G r ≤ j) → Wp 27 26 [some (vR 19), some (vR 8), some (vI p), some (vI r), some (vI i), some (vI j), o6] [] μ R) from ⟨fun c2 => ?_, fun c2 => ?_⟩)
      ·
        refine seg 1 (show R none μ from ?_)
        rw [if_neg (by omega)] at hk
        exact hk μ hF hP
      ·
        refine seg 4 (show Wp 48 0 [some (vR 8), some (vI p), some (vI i)] [] μ (fun rr μ' => Wp 27 33 [some (vR 19), some (vR 8), some (vI p), some (vI r), some (vI i), some (vI j), o6] (rr.toList ++ []) μ' R) from ?_)
        refine g48 hc (by omega) (by omega) ?_
        refine seg 4 (show Wp 48 0 [some (vR 8), some (vI r), some (vI j)] [] μ (fun rr μ' => Wp 27 40 [some (vR 19), some (vR 8), some (vI p), some (vI r), some (vI i), some (vI j), o6] (rr.toList ++ [vI (hL G p i)]) μ' R) from ?_)
        refine g48 hc (by omega) (by omega) ?_
        refine seg 1 (show (¬ (hL G p i = hL G r j) → Wp 27 47 [some (vR 19), some (vR 8), some (vI p), some (vI r), some (vI i), some (vI j), o6] [] μ R) ∧ (hL G p i = hL G r j → Wp 27 43 [some (vR 19), some (vR 8), some (vI p), some (vI r), some (vI i), some (vI j), o6] [] μ R) from ⟨fun c3 => ?_, fun c3 => ?_⟩)
        ·
          refine seg 4 (show (0 = 0 → Wp 27 98 [some (vR 19), some (vR 8), some (vI p), some (vI r), some (vI i), some (vI j), some (vI 0)] [] μ R) ∧ (¬ (0 = 0) → Wp 27 55 [some (vR 19), some (vR 8), some (vI p), some (vI r), some (vI i), some (vI j), some (vI 0)] [] μ R) from ⟨fun _ => ?_, fun z => absurd z (by decide)⟩)
          refine seg 6 (show iR (i + 1) ∧ Wp 25 0 [some (vR 19), some (vI (i + 1)), some (vI j)] [] μ (fun rr μ' => Wp 27 108 [some (vR 19), some (vR 8), some (vI p), some (vI r), some (vI i), some (vI j), some (vI 0)] (rr.toList ++ []) μ' R) from ⟨by omega, ?_⟩)
          refine s25v_19 (by omega) ?_
          refine seg 6 (show iR (j + 1) ∧ Wp 25 0 [some (vR 19), some (vI i), some (vI (j + 1))] [] μ (fun rr μ' => Wp 27 118 [some (vR 19), some (vR 8), some (vI p), some (vI r), some (vI i), some (vI j), some (vI 0)] (rr.toList ++ [vI (μ 24 ((i + 1) * 9 + j))]) μ' R) from ⟨by omega, ?_⟩)
          refine s25v_19 (by omega) ?_
          refine seg 1 (show (μ 24 ((i + 1) * 9 + j) < μ 24 (i * 9 + (j + 1)) → Wp 27 127 [some (vR 19), some (vR 8), some (vI p), some (vI r), some (vI i), some (vI j), some (vI 0)] [] μ R) ∧ (¬ (μ 24 ((i + 1) * 9 + j) < μ 24 (i * 9 + (j + 1))) → Wp 27 121 [some (vR 19), some (vR 8), some (vI p), some (vI r), some (vI i), some (vI j), some (vI 0)] [] μ R) from ⟨fun c4 => ?_, fun c4 => ?_⟩)
          ·
            refine seg 2 (show iR (j + 1) ∧ Wp 27 6 [some (vR 19), some (vR 8), some (vI p), some (vI r), some (vI i), some (vI (j + 1)), some (vI 0)] [] μ R from ⟨by omega, ?_⟩)
            rw [if_pos (by omega)] at hk
            rw [if_neg (fun z => by first | exact absurd z.1 (by assumption) | (have z2 := z.2; rw [← hT.all (by omega) (by omega), ← hT.all (by omega) (by omega)] at z2; exact absurd z2 (by assumption)))] at hk
            rw [if_neg (by rw [← hT.all (by omega) (by omega), ← hT.all (by omega) (by omega)]; omega)] at hk
            exact ih _ _ _ _ _ _ (by omega) (by omega) (by omega) (by omega) (by omega) hF hP hk
          ·
            refine seg 3 (show iR (i + 1) ∧ Wp 27 6 [some (vR 19), some (vR 8), some (vI p), some (vI r), some (vI (i + 1)), some (vI j), some (vI 0)] [] μ R from ⟨by omega, ?_⟩)
            rw [if_pos (by omega)] at hk
            rw [if_neg (fun z => by first | exact absurd z.1 (by assumption) | (have z2 := z.2; rw [← hT.all (by omega) (by omega), ← hT.all (by omega) (by omega)] at z2; exact absurd z2 (by assumption)))] at hk
            rw [if_pos (by rw [← hT.all (by omega) (by omega), ← hT.all (by omega) (by omega)]; omega)] at hk
            exact ih _ _ _ _ _ _ (by omega) (by omega) (by omega) (by omega) (by omega) hF hP hk
        ·
          refine seg 5 (show (1 = 0 → Wp 27 98 [some (vR 19), some (vR 8), some (vI p), some (vI r), some (vI i), some (vI j), some (vI 1)] [] μ R) ∧ (¬ (1 = 0) → Wp 27 55 [some (vR 19), some (vR 8), some (vI p), some (vI r), some (vI i), some (vI j), some (vI 1)] [] μ R) from ⟨fun z => absurd z (by decide), fun _ => ?_⟩)
          refine seg 4 (show Wp 25 0 [some (vR 19), some (vI i), some (vI j)] [] μ (fun rr μ' => Wp 27 63 [some (vR 19), some (vR 8), some (vI p), some (vI r), some (vI i), some (vI j), some (vI 1)] (rr.toList ++ []) μ' R) from ?_)
          refine s25v_19 (by omega) ?_
          refine seg 8 (show iR (i + 1) ∧ iR (j + 1) ∧ Wp 25 0 [some (vR 19), some (vI (i + 1)), some (vI (j + 1))] [] μ (fun rr μ' => Wp 27 75 [some (vR 19), some (vR 8), some (vI p), some (vI r), some (vI i), some (vI j), some (vI 1)] (rr.toList ++ [vI (μ 24 (i * 9 + j))]) μ' R) from ⟨by omega, by omega, ?_⟩)
          refine s25v_19 (by omega) ?_
          refine seg 3 (show iR ((μ 24 ((i + 1) * 9 + (j + 1))) + 1) ∧ (¬ (μ 24 (i * 9 + j) = (μ 24 ((i + 1) * 9 + (j + 1))) + 1) → Wp 27 98 [some (vR 19), some (vR 8), some (vI p), some (vI r), some (vI i), some (vI j), some (vI 1)] [] μ R) ∧ (μ 24 (i * 9 + j) = (μ 24 ((i + 1) * 9 + (j + 1))) + 1 → Wp 27 80 [some (vR 19), some (vR 8), some (vI p), some (vI r), some (vI i), some (vI j), some (vI 1)] [] μ R) from ⟨by have := tab_rg (a := i + 1) (b := j + 1) hT (by omega) (by omega) (by omega) (by omega); omega, fun c5 => ?_, fun c5 => ?_⟩)
          ·
            refine seg 6 (show iR (i + 1) ∧ Wp 25 0 [some (vR 19), some (vI (i + 1)), some (vI j)] [] μ (fun rr μ' => Wp 27 108 [some (vR 19), some (vR 8), some (vI p), some (vI r), some (vI i), some (vI j), some (vI 1)] (rr.toList ++ []) μ' R) from ⟨by omega, ?_⟩)
            refine s25v_19 (by omega) ?_
            refine seg 6 (show iR (j + 1) ∧ Wp 25 0 [some (vR 19), some (vI i), some (vI (j + 1))] [] μ (fun rr μ' => Wp 27 118 [some (vR 19), some (vR 8), some (vI p), some (vI r), some (vI i), some (vI j), some (vI 1)] (rr.toList ++ [vI (μ 24 ((i + 1) * 9 + j))]) μ' R) from ⟨by omega, ?_⟩)
            refine s25v_19 (by omega) ?_
            refine seg 1 (show (μ 24 ((i + 1) * 9 + j) < μ 24 (i * 9 + (j + 1)) → Wp 27 127 [some (vR 19), some (vR 8), some (vI p), some (vI r), some (vI i), some (vI j), some (vI 1)] [] μ R) ∧ (¬ (μ 24 ((i + 1) * 9 + j) < μ 24 (i * 9 + (j + 1))) → Wp 27 121 [some (vR 19), some (vR 8), some (vI p), some (vI r), some (vI i), some (vI j), some (vI 1)] [] μ R) from ⟨fun c6 => ?_, fun c6 => ?_⟩)
            ·
              refine seg 2 (show iR (j + 1) ∧ Wp 27 6 [some (vR 19), some (vR 8), some (vI p), some (vI r), some (vI i), some (vI (j + 1)), some (vI 1)] [] μ R from ⟨by omega, ?_⟩)
              rw [if_pos (by omega)] at hk
              rw [if_neg (fun z => by first | exact absurd z.1 (by assumption) | (have z2 := z.2; rw [← hT.all (by omega) (by omega), ← hT.all (by omega) (by omega)] at z2; exact absurd z2 (by assumption)))] at hk
              rw [if_neg (by rw [← hT.all (by omega) (by omega), ← hT.all (by omega) (by omega)]; omega)] at hk
              exact ih _ _ _ _ _ _ (by omega) (by omega) (by omega) (by omega) (by omega) hF hP hk
            ·
              refine seg 3 (show iR (i + 1) ∧ Wp 27 6 [some (vR 19), some (vR 8), some (vI p), some (vI r), some (vI (i + 1)), some (vI j), some (vI 1)] [] μ R from ⟨by omega, ?_⟩)
              rw [if_pos (by omega)] at hk
              rw [if_neg (fun z => by first | exact absurd z.1 (by assumption) | (have z2 := z.2; rw [← hT.all (by omega) (by omega), ← hT.all (by omega) (by omega)] at z2; exact absurd z2 (by assumption)))] at hk
              rw [if_pos (by rw [← hT.all (by omega) (by omega), ← hT.all (by omega) (by omega)]; omega)] at hk
              exact ih _ _ _ _ _ _ (by omega) (by omega) (by omega) (by omega) (by omega) hF hP hk
          ·
            refine seg 5 (show Wp 28 0 [some (vR 19), some (vI r), some (vI i), some (vI j)] [] μ (fun rr μ' => Wp 27 89 [some (vR 19), some (vR 8), some (vI p), some (vI r), some (vI i), some (vI j), some (vI 1)] (rr.toList ++ []) μ' R) from ?_)
            refine s28v_19 (by omega) (hP.2.1.1) ?_
            refine seg 4 (show iR (i + 1) ∧ iR (j + 1) ∧ Wp 27 6 [some (vR 19), some (vR 8), some (vI p), some (vI r), some (vI (i + 1)), some (vI (j + 1)), some (vI 1)] [] (u2 (u2 μ 21 (r * 8 + j) i) 22 r ((Int.toNat (μ 22 r) ||| Int.toNat (1 * 2 ^ (i : Int).toNat) : Nat) : Int)) R from ⟨by omega, by omega, ?_⟩)
            rw [if_pos (by omega)] at hk
            rw [if_pos ⟨by assumption, by rw [← hT.all (by omega) (by omega), ← hT.all (by omega) (by omega)]; assumption⟩] at hk
            refine ih _ _ _ _ _ _ (by omega) (by omega) (by omega) (by omega) (by omega) ⟨fun q h1 h2 => by rw [u2_ne h2, u2_ne h1]; exact hF.1 q h1 h2, fun x hx => by rw [u2_ne (by decide), u2_at, up1_n (by omega)]; exact hF.2.1 x hx, fun y hy => by rw [u2_at, u2_ne (by decide), up1_n hy]; exact hF.2.2 y hy⟩ ?_ hk
            rw [u2_ne (by decide), u2_at, u2_at, u2_ne (by decide)]
            exact hP.pair (by omega)
theorem s27_19 {G : Hi} {p r : Int} {R : Po} {μ : Mu} (hc : GC G μ) (hp : 0 ≤ p ∧ p < hN G) (hr : 0 ≤ r ∧ r < hN G) (hT : Tab (μ 24) (hL G p) (hL G r) (hS G p) (hS G r) (-1) (hS G r)) (hP : Prs (μ 21) (μ 22) r (fun _ => -9, fun _ => 0)) (hk : ∀ μ2 : Mu, ((∀ q, q ≠ 21 → q ≠ 22 → μ2 q = μ q) ∧ (∀ x, ¬ (r * 8 ≤ x ∧ x < r * 8 + 8) → μ2 21 x = μ 21 x) ∧ (∀ y, y ≠ r → μ2 22 y = μ 22 y)) → Prs (μ2 21) (μ2 22) r (wk (hL G p) (hL G r) (hS G p) (hS G r) 17 0 0 (fun _ => -9) (fun _ => 0)) → R none μ2) : Wp 27 0 [some (vR 19), some (vR 8), some (vI p), some (vI r), none, none, none] [] μ R := by
  have hsp := hc.1.s hp
  have hsr := hc.1.s hr
  refine seg 4 (show Wp 27 6 [some (vR 19), some (vR 8), some (vI p), some (vI r), some (vI 0), some (vI 0), none] [] μ R from ?_)
  exact l27_19 hc hp hr hT 17 0 0 _ _ μ none (by omega) (by decide) (by decide) (by omega) (by omega) ⟨fun _ _ _ => rfl, fun _ _ => rfl, fun _ _ => rfl⟩ hP hk
/-- a revision's rows in a Pairing -/
def PrC19 (G : Hi) (μ : Mu) (r : Int) : Prop := μ 20 r = hP G r 1 ∧ Prs (μ 21) (μ 22) r (prI G r 1) ∧ μ 23 r = cmA G r 1
theorem l22_19 {G : Hi} {R : Po} {μ0 : Mu} (hc0 : GC G μ0) (hw0 : μ0 19 0 = 1) (hk : ∀ μ : Mu, (∀ q, q ≠ 20 → q ≠ 21 → q ≠ 22 → q ≠ 23 → q ≠ 24 → μ q = μ0 q) → (∀ x, 0 ≤ x → x < hN G → PrC19 G μ x) → (∀ x k, hN G ≤ x → 0 ≤ x → x < 8 → 0 ≤ k → k < 8 → μ 21 (x * 8 + k) = -9) → R none μ) : ∀ (n : Nat) (r : Int) (μ : Mu) (o3 : Option PV), 8 - r = n → 0 ≤ r → (∀ q, q ≠ 20 → q ≠ 21 → q ≠ 22 → q ≠ 23 → q ≠ 24 → μ q = μ0 q) → (∀ x, 0 ≤ x → x < r → x < hN G → PrC19 G μ x) → (∀ x k, hN G ≤ x → 0 ≤ x → x < r → 0 ≤ k → k < 8 → μ 21 (x * 8 + k) = -9) → Wp 22 2 [some (vR 19), some (vR 8), some (vI r), o3] [] μ R := by
  intro n
  induction n with
  | zero =>
    intro r μ o3 hn h0 hF hI hJ
    have hc := hc0.fr (hF 8 (by decide) (by decide) (by decide) (by decide) (by decide)) (hF 9 (by decide) (by decide) (by decide) (by decide) (by decide)) (hF 10 (by decide) (by decide) (by decide) (by decide) (by decide)) (hF 11 (by decide) (by decide) (by decide) (by decide) (by decide))
    refine seg 3 (show (8 ≤ r → Wp 22 68 [some (vR 19), some (vR 8), some (vI r), o3] [] μ R) ∧ (¬ (8 ≤ r) → Wp 22 8 [some (vR 19), some (vR 8), some (vI r), o3] [] μ R) from ⟨fun c1 => ?_, fun c1 => ?_⟩)
    ·
      refine seg 1 (show R none μ from ?_)
      first | exact hk μ hF (fun x h1 h2 => hI x h1 (by have := hc.1.n; omega) h2) (fun x k h1 h2 h3 h4 h5 => hJ x k h1 h2 (by omega) h4 h5) | (exfalso; omega)
    ·
      refine seg 3 (show Wp 23 0 [some (vR 19), some (vI r), none] [] μ (fun rr μ' => Wp 22 13 [some (vR 19), some (vR 8), some (vI r), o3] (rr.toList ++ []) μ' R) from ?_)
      exfalso; omega
  | succ n ih =>
    intro r μ o3 hn h0 hF hI hJ
    have hc := hc0.fr (hF 8 (by decide) (by decide) (by decide) (by decide) (by decide)) (hF 9 (by decide) (by decide) (by decide) (by decide) (by decide)) (hF 10 (by decide) (by decide) (by decide) (by decide) (by decide)) (hF 11 (by decide) (by decide) (by decide) (by decide) (by decide))
    refine seg 3 (show (8 ≤ r → Wp 22 68 [some (vR 19), some (vR 8), some (vI r), o3] [] μ R) ∧ (¬ (8 ≤ r) → Wp 22 8 [some (vR 19), some (vR 8), some (vI r), o3] [] μ R) from ⟨fun c2 => ?_, fun c2 => ?_⟩)
    ·
      refine seg 1 (show R none μ from ?_)
      first | exact hk μ hF (fun x h1 h2 => hI x h1 (by have := hc.1.n; omega) h2) (fun x k h1 h2 h3 h4 h5 => hJ x k h1 h2 (by omega) h4 h5) | (exfalso; omega)
    ·
      refine seg 3 (show Wp 23 0 [some (vR 19), some (vI r), none] [] μ (fun rr μ' => Wp 22 13 [some (vR 19), some (vR 8), some (vI r), o3] (rr.toList ++ []) μ' R) from ?_)
      refine s23_19 (by omega) (fun μ1 f1 f2 f3 f4 f5 => ?_)
      have hc1 := hc.fr (f1 8 (by decide) (by decide) (by decide)) (f1 9 (by decide) (by decide) (by decide)) (f1 10 (by decide) (by decide) (by decide)) (f1 11 (by decide) (by decide) (by decide))
      have hw1 : μ1 19 0 = 1 := by rw [f1 19 (by decide) (by decide) (by decide), hF 19 (by decide) (by decide) (by decide) (by decide) (by decide)]; exact hw0
      refine seg 5 (show Wp 47 0 [some (vR 8), some (vI r), some (vI (μ1 19 0))] [] μ1 (fun rr μ' => Wp 22 22 [some (vR 19), some (vR 8), some (vI r), o3] (rr.toList ++ []) μ' R) from ?_)
      by_cases hrn : r < hN G
      ·
        refine g47w hc1 (by omega) hw1 (by decide) ?_
        refine seg 9 (show (0 ≤ r ∧ r < 8) ∧ (hP G r 1 = -9 → Wp 22 62 [some (vR 19), some (vR 8), some (vI r), some (vI (hP G r 1))] [] (u2 μ1 20 r (hP G r 1)) R) ∧ (¬ (hP G r 1 = -9) → Wp 22 36 [some (vR 19), some (vR 8), some (vI r), some (vI (hP G r 1))] [] (u2 μ1 20 r (hP G r 1)) R) from ⟨by omega, fun c3 => ?_, fun c3 => ?_⟩)
        ·
          refine seg 2 (show iR (r + 1) ∧ Wp 22 2 [some (vR 19), some (vR 8), some (vI (r + 1)), some (vI (hP G r 1))] [] (u2 μ1 20 r (hP G r 1)) R from ⟨by omega, ?_⟩)
          obtain ⟨μ5, hμ5⟩ : ∃ z, z = u2 μ1 20 r (hP G r 1) := ⟨_, rfl⟩
          rw [← hμ5]
          have e5 : ∀ q, q ≠ 20 → μ5 q = μ1 q := fun q hq => by rw [hμ5]; exact u2_ne hq
          refine ih (r + 1) μ5 _ (by omega) (by omega) (fun q h1 h2 h3 h4 h5 => by rw [e5 q h1, f1 q h2 h3 h4]; exact hF q h1 h2 h3 h4 h5) (fun x hx0 hx1 hx2 => ?_) (fun x k h1 h2 h3 h4 h5 => by
            rw [e5 _ (by decide)]
            by_cases hxr : x = r
            · subst hxr; exact f2 k h4 h5
            · rw [f3 _ (by omega)]; exact hJ x k h1 h2 (by omega) h4 h5)
          by_cases hxr : x = r
          · subst hxr
            first
            | (exfalso; omega)
            | (refine ⟨by rw [hμ5, u2_at, up1_s], ?_, ?_⟩
               · unfold prI
                 rw [if_pos (by omega)]
                 exact ⟨fun k h0 h8 => by rw [e5 _ (by decide)]; exact f2 k h0 h8, by rw [e5 _ (by decide), f4, up1_s]; exact Bts.zero⟩
               · rw [e5 _ (by decide), f5, up1_s]
                 unfold cmA
                 rw [if_pos (by omega)])
          · have hI2 := hI x hx0 (by omega) hx2
            refine ⟨by rw [hμ5, u2_at, up1_n hxr, f1 _ (by decide) (by decide) (by decide)]; exact hI2.1, ⟨fun k h0 h8 => ?_, ?_⟩, ?_⟩
            · rw [e5 _ (by decide), f3 _ (by omega)]
              exact hI2.2.1.1 k h0 h8
            · rw [e5 _ (by decide), f4, up1_n hxr]
              exact hI2.2.1.2
            · rw [e5 _ (by decide), f5, up1_n hxr]
              exact hI2.2.2
        ·
          refine seg 5 (show Wp 24 0 [some (vR 19), some (vR 8), some (vI (hP G r 1)), some (vI r), none, none, none, none, none, none] [] (u2 μ1 20 r (hP G r 1)) (fun rr μ' => Wp 22 43 [some (vR 19), some (vR 8), some (vI r), some (vI (hP G r 1))] (rr.toList ++ []) μ' R) from ?_)
          obtain ⟨μ2, hμ2⟩ : ∃ z, z = u2 μ1 20 r (hP G r 1) := ⟨_, rfl⟩
          rw [← hμ2]
          have e2 : ∀ q, q ≠ 20 → μ2 q = μ1 q := fun q hq => by rw [hμ2]; exact u2_ne hq
          have hc2 := hc1.fr (e2 8 (by decide)) (e2 9 (by decide)) (e2 10 (by decide)) (e2 11 (by decide))
          have hpv := hc1.1.pv (r := r) (w := 1) (by omega) (by decide) (by assumption)
          refine s24_19 hc2 (by omega) (by omega) (fun μ3 f6 hT => ?_)
          have hc3 := hc2.fr (f6 8 (by decide)) (f6 9 (by decide)) (f6 10 (by decide)) (f6 11 (by decide))
          refine seg 13 (show (0 ≤ 0 ∧ 0 < 81) ∧ (0 ≤ r ∧ r < 8) ∧ Wp 27 0 [some (vR 19), some (vR 8), some (vI (hP G r 1)), some (vI r), none, none, none] [] (u2 μ3 23 r (μ3 24 0)) (fun rr μ' => Wp 22 62 [some (vR 19), some (vR 8), some (vI r), some (vI (hP G r 1))] (rr.toList ++ []) μ' R) from ⟨by omega, by omega, ?_⟩)
          obtain ⟨μ4, hμ4⟩ : ∃ z, z = u2 μ3 23 r (μ3 24 0) := ⟨_, rfl⟩
          rw [← hμ4]
          have e4 : ∀ q, q ≠ 23 → μ4 q = μ3 q := fun q hq => by rw [hμ4]; exact u2_ne hq
          have hc4 := hc3.fr (e4 8 (by decide)) (e4 9 (by decide)) (e4 10 (by decide)) (e4 11 (by decide))
          have eA : μ4 21 = μ1 21 := by rw [e4 _ (by decide), f6 _ (by decide), e2 _ (by decide)]
          have eB : μ4 22 = μ1 22 := by rw [e4 _ (by decide), f6 _ (by decide), e2 _ (by decide)]
          refine s27_19 hc4 (by omega) (by omega) (by rw [e4 24 (by decide)]; exact hT) (by rw [eA, eB]; exact ⟨f2, by rw [f4, up1_s]; exact Bts.zero⟩) (fun μ5 f7 hP5 => ?_)
          refine seg 2 (show iR (r + 1) ∧ Wp 22 2 [some (vR 19), some (vR 8), some (vI (r + 1)), some (vI (hP G r 1))] [] μ5 R from ⟨by omega, ?_⟩)
          have eP : μ5 20 = up1 (μ1 20) r (hP G r 1) := by rw [f7.1 _ (by decide) (by decide), e4 _ (by decide), f6 _ (by decide), hμ2, u2_at]
          have eC : μ5 23 = up1 (μ1 23) r (μ3 24 0) := by rw [f7.1 _ (by decide) (by decide), hμ4, u2_at, f6 _ (by decide), e2 _ (by decide)]
          refine ih (r + 1) μ5 _ (by omega) (by omega) (fun q h1 h2 h3 h4 h5 => by rw [f7.1 q h2 h3, e4 q h4, f6 q h5, e2 q h1, f1 q h2 h3 h4]; exact hF q h1 h2 h3 h4 h5) (fun x hx0 hx1 hx2 => ?_) (fun x k h1 h2 h3 h4 h5 => by rw [f7.2.1 _ (by omega), eA, f3 _ (by omega)]; exact hJ x k h1 h2 (by omega) h4 h5)
          by_cases hxr : x = r
          · subst hxr
            refine ⟨by rw [eP, up1_s], ?_, ?_⟩
            · unfold prI
              rw [if_neg (by omega)]
              exact hP5
            · rw [eC, up1_s]
              unfold cmA
              rw [if_neg (by omega)]
              have := hT.all (a := 0) (b := 0) (by have := hc.1.s (r := hP G x 1) (by omega); omega) (by have := hc.1.s (r := x) (by omega); omega)
              exact this
          · have hI2 := hI x hx0 (by omega) hx2
            refine ⟨by rw [eP, up1_n hxr, f1 _ (by decide) (by decide) (by decide)]; exact hI2.1, ⟨fun k h0 h8 => ?_, ?_⟩, ?_⟩
            · rw [f7.2.1 _ (by omega), eA, f3 _ (by omega)]
              exact hI2.2.1.1 k h0 h8
            · rw [f7.2.2 x hxr, eB, f4, up1_n hxr]
              exact hI2.2.1.2
            · rw [eC, up1_n hxr, f5, up1_n hxr]
              exact hI2.2.2
      ·
        refine g47n hc1 (by omega) ?_
        refine seg 9 (show (0 ≤ r ∧ r < 8) ∧ (-9 = -9 → Wp 22 62 [some (vR 19), some (vR 8), some (vI r), some (vI (-9))] [] (u2 μ1 20 r (-9)) R) ∧ (¬ (-9 = -9) → Wp 22 36 [some (vR 19), some (vR 8), some (vI r), some (vI (-9))] [] (u2 μ1 20 r (-9)) R) from ⟨by omega, fun _ => ?_, fun z => absurd z (by decide)⟩)
        refine seg 2 (show iR (r + 1) ∧ Wp 22 2 [some (vR 19), some (vR 8), some (vI (r + 1)), some (vI (-9))] [] (u2 μ1 20 r (-9)) R from ⟨by omega, ?_⟩)
        obtain ⟨μ5, hμ5⟩ : ∃ z, z = u2 μ1 20 r (-9) := ⟨_, rfl⟩
        rw [← hμ5]
        have e5 : ∀ q, q ≠ 20 → μ5 q = μ1 q := fun q hq => by rw [hμ5]; exact u2_ne hq
        refine ih (r + 1) μ5 _ (by omega) (by omega) (fun q h1 h2 h3 h4 h5 => by rw [e5 q h1, f1 q h2 h3 h4]; exact hF q h1 h2 h3 h4 h5) (fun x hx0 hx1 hx2 => ?_) (fun x k h1 h2 h3 h4 h5 => by
          rw [e5 _ (by decide)]
          by_cases hxr : x = r
          · subst hxr; exact f2 k h4 h5
          · rw [f3 _ (by omega)]; exact hJ x k h1 h2 (by omega) h4 h5)
        by_cases hxr : x = r
        · subst hxr
          first
          | (exfalso; omega)
          | (refine ⟨by rw [hμ5, u2_at, up1_s], ?_, ?_⟩
             · unfold prI
               rw [if_pos (by omega)]
               exact ⟨fun k h0 h8 => by rw [e5 _ (by decide)]; exact f2 k h0 h8, by rw [e5 _ (by decide), f4, up1_s]; exact Bts.zero⟩
             · rw [e5 _ (by decide), f5, up1_s]
               unfold cmA
               rw [if_pos (by omega)])
        · have hI2 := hI x hx0 (by omega) hx2
          refine ⟨by rw [hμ5, u2_at, up1_n hxr, f1 _ (by decide) (by decide) (by decide)]; exact hI2.1, ⟨fun k h0 h8 => ?_, ?_⟩, ?_⟩
          · rw [e5 _ (by decide), f3 _ (by omega)]
            exact hI2.2.1.1 k h0 h8
          · rw [e5 _ (by decide), f4, up1_n hxr]
            exact hI2.2.1.2
          · rw [e5 _ (by decide), f5, up1_n hxr]
            exact hI2.2.2
theorem s22_19 {G : Hi} {R : Po} {μ : Mu} (hc : GC G μ) (hw : μ 19 0 = 1) (hk : ∀ μ2 : Mu, (∀ q, q ≠ 20 → q ≠ 21 → q ≠ 22 → q ≠ 23 → q ≠ 24 → μ2 q = μ q) → (∀ x, 0 ≤ x → x < hN G → PrC19 G μ2 x) → (∀ x k, hN G ≤ x → 0 ≤ x → x < 8 → 0 ≤ k → k < 8 → μ2 21 (x * 8 + k) = -9) → R none μ2) : Wp 22 0 [some (vR 19), some (vR 8), none, none] [] μ R := by
  refine seg 2 (show Wp 22 2 [some (vR 19), some (vR 8), some (vI 0), none] [] μ R from ?_)
  exact l22_19 hc hw hk 8 0 μ none (by decide) (by decide) (fun _ _ _ _ _ _ => rfl) (fun x h1 h2 _ => absurd h2 (by omega)) (fun x k _ h1 h2 => absurd h2 (by omega))
