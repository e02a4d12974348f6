/-! PAIRS in the model -/
theorem tab_w {T f g : Int → Int} {R C i j : Int} (h : Tab T f g R C (-1) C) (hi : 0 ≤ i ∧ i < R) (hj : 0 ≤ j ∧ j < C) : T (9 * i + j) = cm f g R C i j ∧ T (9 * i + 9 + j) = cm f g R C (i + 1) j ∧ T (9 * i + j + 1) = cm f g R C i (j + 1) ∧ T (9 * i + 9 + j + 1) = cm f g R C (i + 1) (j + 1) := by
  refine ⟨?_, ?_, ?_, ?_⟩
  · rw [show 9 * i + j = i * 9 + j by omega]; exact h.all (by omega) (by omega)
  · rw [show 9 * i + 9 + j = (i + 1) * 9 + j by omega]; exact h.all (by omega) (by omega)
  · rw [show 9 * i + j + 1 = i * 9 + (j + 1) by omega]; exact h.all (by omega) (by omega)
  · rw [show 9 * i + 9 + j + 1 = (i + 1) * 9 + (j + 1) by omega]; exact h.all (by omega) (by omega)
theorem l131a_0 {r : Int} {R : Po} {μ0 : Mu} (hr : 0 ≤ r ∧ r < 8) (hk : ∀ (μ : Mu) (o3 : Option PV), ((∀ q, q ≠ 51 → q ≠ 52 → μ q = μ0 q) ∧ (∀ x, μ 51 x = if 16 * r + 0 ≤ x ∧ x < 16 * r + 0 + 8 then -9 else μ0 51 x) ∧ (∀ x, μ 52 x = if 8 * r ≤ x ∧ x < 8 * r + 8 then 0 else μ0 52 x)) → Wp 131 62 [some (vR 47), some (vI r), some (vI 0), o3, none, none] [] μ R) : ∀ (n : Nat) (k : Int) (μ : Mu), 8 - k = n → 0 ≤ k → ((∀ q, q ≠ 51 → q ≠ 52 → μ q = μ0 q) ∧ (∀ x, μ 51 x = if 16 * r + 0 ≤ x ∧ x < 16 * r + 0 + k then -9 else μ0 51 x) ∧ (∀ x, μ 52 x = if 8 * r ≤ x ∧ x < 8 * r + k then 0 else μ0 52 x)) → Wp 131 2 [some (vR 47), some (vI r), some (vI 0), some (vI k), none, none] [] μ R := by
  intro n
  induction n with
  | zero =>
    intro k μ hn h0 hF
    refine seg 3 (show (8 ≤ k → Wp 131 62 [some (vR 47), some (vI r), some (vI 0), some (vI k), none, none] [] μ R) ∧ (¬ (8 ≤ k) → Wp 131 8 [some (vR 47), some (vI r), some (vI 0), some (vI k), none, none] [] μ R) from ⟨fun c1 => ?_, fun c1 => ?_⟩)
    ·
      first | (obtain rfl : k = 8 := (by omega); exact hk μ _ hF) | (exfalso; omega)
    ·
      refine seg 22 (show iR (16 * r) ∧ iR (8 * 0) ∧ iR ((16 * r) + (8 * 0)) ∧ iR (((16 * r) + (8 * 0)) + k) ∧ (0 ≤ (((16 * r) + (8 * 0)) + k) ∧ (((16 * r) + (8 * 0)) + k) < 128) ∧ iR (8 * r) ∧ iR ((8 * r) + k) ∧ (¬ (0 = 0) → Wp 131 44 [some (vR 47), some (vI r), some (vI 0), some (vI k), none, none] [vI ((8 * r) + k), vR 52] (u2 μ 51 (((16 * r) + (8 * 0)) + k) (-9)) R) ∧ (0 = 0 → Wp 131 40 [some (vR 47), some (vI r), some (vI 0), some (vI k), none, none] [vI ((8 * r) + k), vR 52] (u2 μ 51 (((16 * r) + (8 * 0)) + k) (-9)) R) from ⟨by omega, by omega, by omega, by omega, by omega, by omega, by omega, fun z => absurd z (by decide), fun _ => ?_⟩)
      refine seg 5 (show (0 ≤ ((8 * r) + k) ∧ ((8 * r) + k) < 64) ∧ iR (k + 1) ∧ Wp 131 2 [some (vR 47), some (vI r), some (vI 0), some (vI (k + 1)), none, none] [] (u2 (u2 μ 51 (((16 * r) + (8 * 0)) + k) (-9)) 52 ((8 * r) + k) 0) R from ⟨by omega, by omega, ?_⟩)
      exfalso; omega
  | succ n ih =>
    intro k μ hn h0 hF
    refine seg 3 (show (8 ≤ k → Wp 131 62 [some (vR 47), some (vI r), some (vI 0), some (vI k), none, none] [] μ R) ∧ (¬ (8 ≤ k) → Wp 131 8 [some (vR 47), some (vI r), some (vI 0), some (vI k), none, none] [] μ R) from ⟨fun c2 => ?_, fun c2 => ?_⟩)
    ·
      first | (obtain rfl : k = 8 := (by omega); exact hk μ _ hF) | (exfalso; omega)
    ·
      refine seg 22 (show iR (16 * r) ∧ iR (8 * 0) ∧ iR ((16 * r) + (8 * 0)) ∧ iR (((16 * r) + (8 * 0)) + k) ∧ (0 ≤ (((16 * r) + (8 * 0)) + k) ∧ (((16 * r) + (8 * 0)) + k) < 128) ∧ iR (8 * r) ∧ iR ((8 * r) + k) ∧ (¬ (0 = 0) → Wp 131 44 [some (vR 47), some (vI r), some (vI 0), some (vI k), none, none] [vI ((8 * r) + k), vR 52] (u2 μ 51 (((16 * r) + (8 * 0)) + k) (-9)) R) ∧ (0 = 0 → Wp 131 40 [some (vR 47), some (vI r), some (vI 0), some (vI k), none, none] [vI ((8 * r) + k), vR 52] (u2 μ 51 (((16 * r) + (8 * 0)) + k) (-9)) R) from ⟨by omega, by omega, by omega, by omega, by omega, by omega, by omega, fun z => absurd z (by decide), fun _ => ?_⟩)
      refine seg 5 (show (0 ≤ ((8 * r) + k) ∧ ((8 * r) + k) < 64) ∧ iR (k + 1) ∧ Wp 131 2 [some (vR 47), some (vI r), some (vI 0), some (vI (k + 1)), none, none] [] (u2 (u2 μ 51 (((16 * r) + (8 * 0)) + k) (-9)) 52 ((8 * r) + k) 0) R from ⟨by omega, by omega, ?_⟩)
      refine ih (k + 1) _ (by omega) (by omega) ⟨fun q h1 h2 => by rw [u2_ne h2, u2_ne h1]; exact hF.1 q h1 h2, (fun x => by
        rw [u2_ne (by decide), u2_at]
        by_cases hx : x = 16 * r + 8 * 0 + k
        · subst hx; rw [up1_s, if_pos (by omega)]
        · rw [up1_n hx, hF.2.1 x]
          by_cases hq : 16 * r + 0 ≤ x ∧ x < 16 * r + 0 + k
          · rw [if_pos hq, if_pos (by omega)]
          · rw [if_neg hq, if_neg (by omega)]), (fun x => by
        rw [u2_at, u2_ne (by decide)]
        by_cases hx : x = 8 * r + k
        · subst hx; rw [up1_s, if_pos (by omega)]
        · rw [up1_n hx, hF.2.2 x]
          by_cases hq : 8 * r ≤ x ∧ x < 8 * r + k
          · rw [if_pos hq, if_pos (by omega)]
          · rw [if_neg hq, if_neg (by omega)])⟩
theorem l131w_0 {G : Hi} {p r : Int} {R : Po} {μ0 : Mu} (hm0 : MH G μ0) (hp : 0 ≤ p ∧ p < hN G) (hr : 0 ≤ r ∧ r < hN G) (hT0 : Tab (μ0 59) (hL G p) (hL G r) (hS G p) (hS G r) (-1) (hS G r)) : ∀ (n : Nat) (i j : Int) (P I : Int → Int) (μ : Mu), (hS G p - i).toNat + (hS G r - j).toNat < n → 0 ≤ i → 0 ≤ j → i ≤ hS G p → j ≤ hS G r → ((∀ q, q ≠ 51 → q ≠ 52 → μ q = μ0 q) ∧ (∀ x, ¬ (16 * r + 0 ≤ x ∧ x < 16 * r + 8) → μ 51 x = μ0 51 x) ∧ (∀ x, ¬ (8 * r ≤ x ∧ x < 8 * r + 8) → μ 52 x = μ0 52 x)) → ((∀ k, 0 ≤ k → k < 8 → μ 51 (16 * r + 8 * 0 + k) = ((P, I)).1 k) ∧ (∀ k, 0 ≤ k → k < 8 → μ 52 (8 * r + k) = ((P, I)).2 k)) → (∀ μ2 : Mu, ((∀ q, q ≠ 51 → q ≠ 52 → μ2 q = μ0 q) ∧ (∀ x, ¬ (16 * r + 0 ≤ x ∧ x < 16 * r + 8) → μ2 51 x = μ0 51 x) ∧ (∀ x, ¬ (8 * r ≤ x ∧ x < 8 * r + 8) → μ2 52 x = μ0 52 x)) → ((∀ k, 0 ≤ k → k < 8 → μ2 51 (16 * r + 8 * 0 + k) = (wk (hL G p) (hL G r) (hS G p) (hS G r) n i j P I).1 k) ∧ (∀ k, 0 ≤ k → k < 8 → μ2 52 (8 * r + k) = (wk (hL G p) (hL G r) (hS G p) (hS G r) n i j P I).2 k)) → R none μ2) → Wp 131 90 [some (vR 47), some (vI r), some (vI 0), some (vI p), some (vI i), some (vI j)] [] μ R := by
  intro n
  induction n with
  | zero =>
    intro i j P I μ hn
    exact absurd hn (by omega)
  | succ n ih =>
    intro i j P I μ hn hi hj hi2 hj2 hF hP hk
    have hm := hm0.fr (by rw [hF.1 47 (by decide) (by decide)]) (hF.1 48 (by decide) (by decide)) (hF.1 49 (by decide) (by decide)) (hF.1 50 (by decide) (by decide))
    have h8 := hm.1.n
    have hsp := hm.1.s hp
    have hsr := hm.1.s hr
    have ep := (hm.2.2 p hp.1 hp.2).1
    have er := (hm.2.2 r hr.1 hr.2).1
    have hT : Tab (μ 59) (hL G p) (hL G r) (hS G p) (hS G r) (-1) (hS G r) := by rw [hF.1 59 (by decide) (by decide)]; exact hT0
    rw [wk] at hk
    refine seg 6 (show (0 ≤ p ∧ p < 8) ∧ (μ 48 p ≤ i → Wp 131 256 [some (vR 47), some (vI r), some (vI 0), some (vI p), some (vI i), some (vI j)] [] μ R) ∧ (¬ (μ 48 p ≤ i) → Wp 131 101 [some (vR 47), some (vI r), some (vI 0), some (vI p), some (vI i), some (vI j)] [] μ R) from ⟨by first | omega | (have hb := tab_w hT (i := i) (j := j) (by omega) (by omega); have g1 := cm_rg (f := hL G p) (g := hL G r) (R := hS G p) (C := hS G r) _ (i + 1) (j + 1) (Nat.le_refl _); omega), fun c1 => ?_, fun c1 => ?_⟩)
    ·
      refine seg 1 (show R none μ from ?_)
      rw [if_neg (by omega)] at hk
      exact hk μ hF hP
    ·
      refine seg 6 (show (0 ≤ r ∧ r < 8) ∧ (μ 48 r ≤ j → Wp 131 256 [some (vR 47), some (vI r), some (vI 0), some (vI p), some (vI i), some (vI j)] [] μ R) ∧ (¬ (μ 48 r ≤ j) → Wp 131 112 [some (vR 47), some (vI r), some (vI 0), some (vI p), some (vI i), some (vI j)] [] μ R) from ⟨by first | omega | (have hb := tab_w hT (i := i) (j := j) (by omega) (by omega); have g1 := cm_rg (f := hL G p) (g := hL G r) (R := hS G p) (C := hS G r) _ (i + 1) (j + 1) (Nat.le_refl _); omega), fun c2 => ?_, fun c2 => ?_⟩)
      ·
        refine seg 1 (show R none μ from ?_)
        rw [if_neg (by omega)] at hk
        exact hk μ hF hP
      ·
        refine seg 4 (show Wp 129 0 [some (vR 47), some (vI p), some (vI i)] [] μ (fun rr μ' => Wp 131 119 [some (vR 47), some (vI r), some (vI 0), some (vI p), some (vI i), some (vI j)] (rr.toList ++ []) μ' R) from ?_)
        refine n129 hm (by omega) (by omega) ?_
        refine seg 4 (show Wp 129 0 [some (vR 47), some (vI r), some (vI j)] [] μ (fun rr μ' => Wp 131 126 [some (vR 47), some (vI r), some (vI 0), some (vI p), some (vI i), some (vI j)] (rr.toList ++ [vI (hL G p i)]) μ' R) from ?_)
        refine n129 hm (by omega) (by omega) ?_
        refine seg 1 (show (¬ (hL G p i = hL G r j) → Wp 131 210 [some (vR 47), some (vI r), some (vI 0), some (vI p), some (vI i), some (vI j)] [] μ R) ∧ (hL G p i = hL G r j → Wp 131 129 [some (vR 47), some (vI r), some (vI 0), some (vI p), some (vI i), some (vI j)] [] μ R) from ⟨fun c3 => ?_, fun c3 => ?_⟩)
        ·
          refine seg 21 (show iR (9 * i) ∧ iR ((9 * i) + 9) ∧ iR (((9 * i) + 9) + j) ∧ (0 ≤ (((9 * i) + 9) + j) ∧ (((9 * i) + 9) + j) < 81) ∧ iR (9 * i) ∧ iR ((9 * i) + j) ∧ iR (((9 * i) + j) + 1) ∧ (0 ≤ (((9 * i) + j) + 1) ∧ (((9 * i) + j) + 1) < 81) ∧ (μ 59 (((9 * i) + 9) + j) < μ 59 (((9 * i) + j) + 1) → Wp 131 250 [some (vR 47), some (vI r), some (vI 0), some (vI p), some (vI i), some (vI j)] [] μ R) ∧ (¬ (μ 59 (((9 * i) + 9) + j) < μ 59 (((9 * i) + j) + 1)) → Wp 131 244 [some (vR 47), some (vI r), some (vI 0), some (vI p), some (vI i), some (vI j)] [] μ R) from ⟨by first | omega | (have hb := tab_w hT (i := i) (j := j) (by omega) (by omega); have g1 := cm_rg (f := hL G p) (g := hL G r) (R := hS G p) (C := hS G r) _ (i + 1) (j + 1) (Nat.le_refl _); omega), by first | omega | (have hb := tab_w hT (i := i) (j := j) (by omega) (by omega); have g1 := cm_rg (f := hL G p) (g := hL G r) (R := hS G p) (C := hS G r) _ (i + 1) (j + 1) (Nat.le_refl _); omega), by first | omega | (have hb := tab_w hT (i := i) (j := j) (by omega) (by omega); have g1 := cm_rg (f := hL G p) (g := hL G r) (R := hS G p) (C := hS G r) _ (i + 1) (j + 1) (Nat.le_refl _); omega), by first | omega | (have hb := tab_w hT (i := i) (j := j) (by omega) (by omega); have g1 := cm_rg (f := hL G p) (g := hL G r) (R := hS G p) (C := hS G r) _ (i + 1) (j + 1) (Nat.le_refl _); omega), by first | omega | (have hb := tab_w hT (i := i) (j := j) (by omega) (by omega); have g1 := cm_rg (f := hL G p) (g := hL G r) (R := hS G p) (C := hS G r) _ (i + 1) (j + 1) (Nat.le_refl _); omega), by first | omega | (have hb := tab_w hT (i := i) (j := j) (by omega) (by omega); have g1 := cm_rg (f := hL G p) (g := hL G r) (R := hS G p) (C := hS G r) _ (i + 1) (j + 1) (Nat.le_refl _); omega), by first | omega | (have hb := tab_w hT (i := i) (j := j) (by omega) (by omega); have g1 := cm_rg (f := hL G p) (g := hL G r) (R := hS G p) (C := hS G r) _ (i + 1) (j + 1) (Nat.le_refl _); omega), by first | omega | (have hb := tab_w hT (i := i) (j := j) (by omega) (by omega); have g1 := cm_rg (f := hL G p) (g := hL G r) (R := hS G p) (C := hS G r) _ (i + 1) (j + 1) (Nat.le_refl _); omega), fun c4 => ?_, fun c4 => ?_⟩)
          ·
            refine seg 2 (show iR (j + 1) ∧ Wp 131 90 [some (vR 47), some (vI r), some (vI 0), some (vI p), some (vI i), some (vI (j + 1))] [] μ R from ⟨by first | omega | (have hb := tab_w hT (i := i) (j := j) (by omega) (by omega); have g1 := cm_rg (f := hL G p) (g := hL G r) (R := hS G p) (C := hS G r) _ (i + 1) (j + 1) (Nat.le_refl _); omega), ?_⟩)
            rw [if_pos (by omega)] at hk
            have hb := tab_w hT (i := i) (j := j) (by omega) (by omega)
            rw [if_neg (fun z => by first | exact absurd z.1 (by assumption) | (have z2 := z.2; omega))] at hk
            rw [if_neg (by omega)] at hk
            exact ih _ _ _ _ _ (by omega) (by omega) (by omega) (by omega) (by omega) hF hP hk
          ·
            refine seg 2 (show iR (i + 1) ∧ Wp 131 90 [some (vR 47), some (vI r), some (vI 0), some (vI p), some (vI (i + 1)), some (vI j)] [] μ R from ⟨by first | omega | (have hb := tab_w hT (i := i) (j := j) (by omega) (by omega); have g1 := cm_rg (f := hL G p) (g := hL G r) (R := hS G p) (C := hS G r) _ (i + 1) (j + 1) (Nat.le_refl _); omega), ?_⟩)
            rw [if_pos (by omega)] at hk
            have hb := tab_w hT (i := i) (j := j) (by omega) (by omega)
            rw [if_neg (fun z => by first | exact absurd z.1 (by assumption) | (have z2 := z.2; omega))] at hk
            rw [if_pos (by omega)] at hk
            exact ih _ _ _ _ _ (by omega) (by omega) (by omega) (by omega) (by omega) hF hP hk
        ·
          refine seg 23 (show iR (9 * i) ∧ iR ((9 * i) + j) ∧ (0 ≤ ((9 * i) + j) ∧ ((9 * i) + j) < 81) ∧ iR (9 * i) ∧ iR ((9 * i) + 9) ∧ iR (((9 * i) + 9) + j) ∧ iR ((((9 * i) + 9) + j) + 1) ∧ (0 ≤ ((((9 * i) + 9) + j) + 1) ∧ ((((9 * i) + 9) + j) + 1) < 81) ∧ iR ((μ 59 ((((9 * i) + 9) + j) + 1)) + 1) ∧ (¬ (μ 59 ((9 * i) + j) = (μ 59 ((((9 * i) + 9) + j) + 1)) + 1) → Wp 131 210 [some (vR 47), some (vI r), some (vI 0), some (vI p), some (vI i), some (vI j)] [] μ R) ∧ (μ 59 ((9 * i) + j) = (μ 59 ((((9 * i) + 9) + j) + 1)) + 1 → Wp 131 165 [some (vR 47), some (vI r), some (vI 0), some (vI p), some (vI i), some (vI j)] [] μ R) from ⟨by first | omega | (have hb := tab_w hT (i := i) (j := j) (by omega) (by omega); have g1 := cm_rg (f := hL G p) (g := hL G r) (R := hS G p) (C := hS G r) _ (i + 1) (j + 1) (Nat.le_refl _); omega), by first | omega | (have hb := tab_w hT (i := i) (j := j) (by omega) (by omega); have g1 := cm_rg (f := hL G p) (g := hL G r) (R := hS G p) (C := hS G r) _ (i + 1) (j + 1) (Nat.le_refl _); omega), by first | omega | (have hb := tab_w hT (i := i) (j := j) (by omega) (by omega); have g1 := cm_rg (f := hL G p) (g := hL G r) (R := hS G p) (C := hS G r) _ (i + 1) (j + 1) (Nat.le_refl _); omega), by first | omega | (have hb := tab_w hT (i := i) (j := j) (by omega) (by omega); have g1 := cm_rg (f := hL G p) (g := hL G r) (R := hS G p) (C := hS G r) _ (i + 1) (j + 1) (Nat.le_refl _); omega), by first | omega | (have hb := tab_w hT (i := i) (j := j) (by omega) (by omega); have g1 := cm_rg (f := hL G p) (g := hL G r) (R := hS G p) (C := hS G r) _ (i + 1) (j + 1) (Nat.le_refl _); omega), by first | omega | (have hb := tab_w hT (i := i) (j := j) (by omega) (by omega); have g1 := cm_rg (f := hL G p) (g := hL G r) (R := hS G p) (C := hS G r) _ (i + 1) (j + 1) (Nat.le_refl _); omega), by first | omega | (have hb := tab_w hT (i := i) (j := j) (by omega) (by omega); have g1 := cm_rg (f := hL G p) (g := hL G r) (R := hS G p) (C := hS G r) _ (i + 1) (j + 1) (Nat.le_refl _); omega), by first | omega | (have hb := tab_w hT (i := i) (j := j) (by omega) (by omega); have g1 := cm_rg (f := hL G p) (g := hL G r) (R := hS G p) (C := hS G r) _ (i + 1) (j + 1) (Nat.le_refl _); omega), by first | omega | (have hb := tab_w hT (i := i) (j := j) (by omega) (by omega); have g1 := cm_rg (f := hL G p) (g := hL G r) (R := hS G p) (C := hS G r) _ (i + 1) (j + 1) (Nat.le_refl _); omega), fun c5 => ?_, fun c5 => ?_⟩)
          ·
            refine seg 21 (show iR (9 * i) ∧ iR ((9 * i) + 9) ∧ iR (((9 * i) + 9) + j) ∧ (0 ≤ (((9 * i) + 9) + j) ∧ (((9 * i) + 9) + j) < 81) ∧ iR (9 * i) ∧ iR ((9 * i) + j) ∧ iR (((9 * i) + j) + 1) ∧ (0 ≤ (((9 * i) + j) + 1) ∧ (((9 * i) + j) + 1) < 81) ∧ (μ 59 (((9 * i) + 9) + j) < μ 59 (((9 * i) + j) + 1) → Wp 131 250 [some (vR 47), some (vI r), some (vI 0), some (vI p), some (vI i), some (vI j)] [] μ R) ∧ (¬ (μ 59 (((9 * i) + 9) + j) < μ 59 (((9 * i) + j) + 1)) → Wp 131 244 [some (vR 47), some (vI r), some (vI 0), some (vI p), some (vI i), some (vI j)] [] μ R) from ⟨by first | omega | (have hb := tab_w hT (i := i) (j := j) (by omega) (by omega); have g1 := cm_rg (f := hL G p) (g := hL G r) (R := hS G p) (C := hS G r) _ (i + 1) (j + 1) (Nat.le_refl _); omega), by first | omega | (have hb := tab_w hT (i := i) (j := j) (by omega) (by omega); have g1 := cm_rg (f := hL G p) (g := hL G r) (R := hS G p) (C := hS G r) _ (i + 1) (j + 1) (Nat.le_refl _); omega), by first | omega | (have hb := tab_w hT (i := i) (j := j) (by omega) (by omega); have g1 := cm_rg (f := hL G p) (g := hL G r) (R := hS G p) (C := hS G r) _ (i + 1) (j + 1) (Nat.le_refl _); omega), by first | omega | (have hb := tab_w hT (i := i) (j := j) (by omega) (by omega); have g1 := cm_rg (f := hL G p) (g := hL G r) (R := hS G p) (C := hS G r) _ (i + 1) (j + 1) (Nat.le_refl _); omega), by first | omega | (have hb := tab_w hT (i := i) (j := j) (by omega) (by omega); have g1 := cm_rg (f := hL G p) (g := hL G r) (R := hS G p) (C := hS G r) _ (i + 1) (j + 1) (Nat.le_refl _); omega), by first | omega | (have hb := tab_w hT (i := i) (j := j) (by omega) (by omega); have g1 := cm_rg (f := hL G p) (g := hL G r) (R := hS G p) (C := hS G r) _ (i + 1) (j + 1) (Nat.le_refl _); omega), by first | omega | (have hb := tab_w hT (i := i) (j := j) (by omega) (by omega); have g1 := cm_rg (f := hL G p) (g := hL G r) (R := hS G p) (C := hS G r) _ (i + 1) (j + 1) (Nat.le_refl _); omega), by first | omega | (have hb := tab_w hT (i := i) (j := j) (by omega) (by omega); have g1 := cm_rg (f := hL G p) (g := hL G r) (R := hS G p) (C := hS G r) _ (i + 1) (j + 1) (Nat.le_refl _); omega), fun c6 => ?_, fun c6 => ?_⟩)
            ·
              refine seg 2 (show iR (j + 1) ∧ Wp 131 90 [some (vR 47), some (vI r), some (vI 0), some (vI p), some (vI i), some (vI (j + 1))] [] μ R from ⟨by first | omega | (have hb := tab_w hT (i := i) (j := j) (by omega) (by omega); have g1 := cm_rg (f := hL G p) (g := hL G r) (R := hS G p) (C := hS G r) _ (i + 1) (j + 1) (Nat.le_refl _); omega), ?_⟩)
              rw [if_pos (by omega)] at hk
              have hb := tab_w hT (i := i) (j := j) (by omega) (by omega)
              rw [if_neg (fun z => by first | exact absurd z.1 (by assumption) | (have z2 := z.2; omega))] at hk
              rw [if_neg (by omega)] at hk
              exact ih _ _ _ _ _ (by omega) (by omega) (by omega) (by omega) (by omega) hF hP hk
            ·
              refine seg 2 (show iR (i + 1) ∧ Wp 131 90 [some (vR 47), some (vI r), some (vI 0), some (vI p), some (vI (i + 1)), some (vI j)] [] μ R from ⟨by first | omega | (have hb := tab_w hT (i := i) (j := j) (by omega) (by omega); have g1 := cm_rg (f := hL G p) (g := hL G r) (R := hS G p) (C := hS G r) _ (i + 1) (j + 1) (Nat.le_refl _); omega), ?_⟩)
              rw [if_pos (by omega)] at hk
              have hb := tab_w hT (i := i) (j := j) (by omega) (by omega)
              rw [if_neg (fun z => by first | exact absurd z.1 (by assumption) | (have z2 := z.2; omega))] at hk
              rw [if_pos (by omega)] at hk
              exact ih _ _ _ _ _ (by omega) (by omega) (by omega) (by omega) (by omega) hF hP hk
          ·
            refine seg 15 (show iR (16 * r) ∧ iR (8 * 0) ∧ iR ((16 * r) + (8 * 0)) ∧ iR (((16 * r) + (8 * 0)) + j) ∧ (0 ≤ (((16 * r) + (8 * 0)) + j) ∧ (((16 * r) + (8 * 0)) + j) < 128) ∧ (¬ (0 = 0) → Wp 131 201 [some (vR 47), some (vI r), some (vI 0), some (vI p), some (vI i), some (vI j)] [] (u2 μ 51 (((16 * r) + (8 * 0)) + j) i) R) ∧ (0 = 0 → Wp 131 188 [some (vR 47), some (vI r), some (vI 0), some (vI p), some (vI i), some (vI j)] [] (u2 μ 51 (((16 * r) + (8 * 0)) + j) i) R) from ⟨by first | omega | (have hb := tab_w hT (i := i) (j := j) (by omega) (by omega); have g1 := cm_rg (f := hL G p) (g := hL G r) (R := hS G p) (C := hS G r) _ (i + 1) (j + 1) (Nat.le_refl _); omega), by first | omega | (have hb := tab_w hT (i := i) (j := j) (by omega) (by omega); have g1 := cm_rg (f := hL G p) (g := hL G r) (R := hS G p) (C := hS G r) _ (i + 1) (j + 1) (Nat.le_refl _); omega), by first | omega | (have hb := tab_w hT (i := i) (j := j) (by omega) (by omega); have g1 := cm_rg (f := hL G p) (g := hL G r) (R := hS G p) (C := hS G r) _ (i + 1) (j + 1) (Nat.le_refl _); omega), by first | omega | (have hb := tab_w hT (i := i) (j := j) (by omega) (by omega); have g1 := cm_rg (f := hL G p) (g := hL G r) (R := hS G p) (C := hS G r) _ (i + 1) (j + 1) (Nat.le_refl _); omega), by first | omega | (have hb := tab_w hT (i := i) (j := j) (by omega) (by omega); have g1 := cm_rg (f := hL G p) (g := hL G r) (R := hS G p) (C := hS G r) _ (i + 1) (j + 1) (Nat.le_refl _); omega), fun z => absurd z (by decide), fun _ => ?_⟩)
            refine seg 12 (show iR (8 * r) ∧ iR ((8 * r) + i) ∧ (0 ≤ ((8 * r) + i) ∧ ((8 * r) + i) < 64) ∧ iR (i + 1) ∧ iR (j + 1) ∧ Wp 131 90 [some (vR 47), some (vI r), some (vI 0), some (vI p), some (vI (i + 1)), some (vI (j + 1))] [] (u2 (u2 μ 51 (((16 * r) + (8 * 0)) + j) i) 52 ((8 * r) + i) 1) R from ⟨by first | omega | (have hb := tab_w hT (i := i) (j := j) (by omega) (by omega); have g1 := cm_rg (f := hL G p) (g := hL G r) (R := hS G p) (C := hS G r) _ (i + 1) (j + 1) (Nat.le_refl _); omega), by first | omega | (have hb := tab_w hT (i := i) (j := j) (by omega) (by omega); have g1 := cm_rg (f := hL G p) (g := hL G r) (R := hS G p) (C := hS G r) _ (i + 1) (j + 1) (Nat.le_refl _); omega), by first | omega | (have hb := tab_w hT (i := i) (j := j) (by omega) (by omega); have g1 := cm_rg (f := hL G p) (g := hL G r) (R := hS G p) (C := hS G r) _ (i + 1) (j + 1) (Nat.le_refl _); omega), by first | omega | (have hb := tab_w hT (i := i) (j := j) (by omega) (by omega); have g1 := cm_rg (f := hL G p) (g := hL G r) (R := hS G p) (C := hS G r) _ (i + 1) (j + 1) (Nat.le_refl _); omega), by first | omega | (have hb := tab_w hT (i := i) (j := j) (by omega) (by omega); have g1 := cm_rg (f := hL G p) (g := hL G r) (R := hS G p) (C := hS G r) _ (i + 1) (j + 1) (Nat.le_refl _); omega), ?_⟩)
            rw [if_pos (by omega)] at hk
            have hb := tab_w hT (i := i) (j := j) (by omega) (by omega)
            rw [if_pos ⟨by assumption, by omega⟩] at hk
            refine ih _ _ _ _ _ (by omega) (by omega) (by omega) (by omega) (by omega) ⟨fun q h1 h2 => by rw [u2_ne h2, u2_ne h1]; exact hF.1 q h1 h2, fun x hx => by rw [u2_ne (by decide), u2_at, up1_n (by omega)]; exact hF.2.1 x hx, fun x hx => by rw [u2_at, u2_ne (by decide), up1_n (by omega)]; exact hF.2.2 x hx⟩ ⟨fun k h0 h7 => ?_, fun k h0 h7 => ?_⟩ hk
            · rw [u2_ne (by decide), u2_at]
              show _ = up1 P j i k
              by_cases hkj : k = j
              · subst hkj; rw [up1_s, up1_s]
              · rw [up1_n (by omega), up1_n hkj]; exact hP.1 k h0 h7
            · rw [u2_at, u2_ne (by decide)]
              show _ = up1 I i 1 k
              by_cases hki : k = i
              · subst hki; rw [up1_s, up1_s]
              · rw [up1_n (by omega), up1_n hki]; exact hP.2 k h0 h7
theorem n131_0 {G : Hi} {r : Int} {R : Po} {μ : Mu} (hm : MH G μ) (hr : 0 ≤ r ∧ r < hN G) (hk : ∀ μ2 : Mu, (∀ q, q ≠ 51 → q ≠ 52 → q ≠ 59 → μ2 q = μ q) → (∀ x, ¬ (16 * r + 0 ≤ x ∧ x < 16 * r + 8) → μ2 51 x = μ 51 x) → (∀ x, ¬ (8 * r ≤ x ∧ x < 8 * r + 8) → μ2 52 x = μ 52 x) → (∀ k, 0 ≤ k → k < 8 → μ2 51 (16 * r + 8 * 0 + k) = pr G r 0 k) → (∀ k, 0 ≤ k → k < 8 → μ2 52 (8 * r + k) = ip G r k) → R none μ2) : Wp 131 0 [some (vR 47), some (vI r), some (vI 0), none, none, none] [] μ R := by
  have h8 := hm.1.n
  refine seg 2 (show Wp 131 2 [some (vR 47), some (vI r), some (vI 0), some (vI 0), none, none] [] μ R from ?_)
  refine l131a_0 (by omega) (fun μ1 o3 f1 => ?_) 8 0 μ (by decide) (by decide) ⟨fun _ _ _ => rfl, fun x => by rw [if_neg (by omega)], fun x => by rw [if_neg (by omega)]⟩
  have hm1 : MH G μ1 := hm.fr (by rw [f1.1 47 (by decide) (by decide)]) (f1.1 48 (by decide) (by decide)) (f1.1 49 (by decide) (by decide)) (f1.1 50 (by decide) (by decide))
  have ep := hm1.w (r := r) (w := 0) hr (by decide)
  refine seg 9 (show iR (2 * r) ∧ iR ((2 * r) + 0) ∧ (0 ≤ ((2 * r) + 0) ∧ ((2 * r) + 0) < 16) ∧ Wp 131 73 [some (vR 47), some (vI r), some (vI 0), some (vI (μ1 49 ((2 * r) + 0))), none, none] [] μ1 R from ⟨by omega, by omega, by omega, ?_⟩)
  rw [ep]
  refine seg 2 (show (0 ≤ hP G r 0 → Wp 131 78 [some (vR 47), some (vI r), some (vI 0), some (vI (hP G r 0)), none, none] [] μ1 R) ∧ (¬ (0 ≤ hP G r 0) → Wp 131 77 [some (vR 47), some (vI r), some (vI 0), some (vI (hP G r 0)), none, none] [] μ1 R) from ⟨fun c21 => ?_, fun c21 => ?_⟩)
  ·
    refine seg 4 (show Wp 130 0 [some (vR 47), some (vI (hP G r 0)), some (vI r), none, none, none, none, none, none] [] μ1 (fun rr μ' => Wp 131 84 [some (vR 47), some (vI r), some (vI 0), some (vI (hP G r 0)), none, none] (rr.toList ++ []) μ' R) from ?_)
    have hpv := hm1.1.pv (r := r) (w := 0) hr (by decide) (by omega)
    refine n130 hm1 (by omega) hr (fun μ2 f2 hT => ?_)
    have hm2 : MH G μ2 := hm1.fr (by rw [f2 47 (by decide)]) (f2 48 (by decide)) (f2 49 (by decide)) (f2 50 (by decide))
    have hsp := hm1.1.s (r := hP G r 0) (by omega)
    have hsr := hm1.1.s hr
    refine seg 4 (show Wp 131 90 [some (vR 47), some (vI r), some (vI 0), some (vI (hP G r 0)), some (vI 0), some (vI 0)] [] μ2 R from ?_)
    refine l131w_0 hm2 (by omega) hr hT 17 0 0 (fun _ => -9) (fun _ => 0) μ2 (by omega) (by decide) (by decide) (by omega) (by omega) ⟨fun _ _ _ => rfl, fun _ _ => rfl, fun _ _ => rfl⟩ ⟨fun k a1 a2 => by rw [f2 51 (by decide), f1.2.1, if_pos (by omega)], fun k a1 a2 => by rw [f2 52 (by decide), f1.2.2, if_pos (by omega)]⟩ (fun μ3 f3 p3 => ?_)
    refine hk μ3 (fun q a1 a2 a3 => by rw [f3.1 q a1 a2, f2 q a3, f1.1 q a1 a2]) (fun x hx => by rw [f3.2.1 x hx, f2 51 (by decide), f1.2.1 x, if_neg (by omega)]) (fun x hx => by rw [f3.2.2 x hx, f2 52 (by decide), f1.2.2 x, if_neg hx]) (fun k a1 a2 => ?_) (fun k a1 a2 => ?_)
    · rw [p3.1 k a1 a2]; unfold pr prI; rw [if_neg (by omega)]
    · rw [p3.2 k a1 a2]; unfold ip prI; rw [if_neg (by omega)]
  ·
    refine seg 1 (show R none μ1 from ?_)
    exact hk μ1 (fun q a1 a2 a3 => f1.1 q a1 a2) (fun x hx => by rw [f1.2.1 x, if_neg (by omega)]) (fun x hx => by rw [f1.2.2 x, if_neg hx]) (fun k a1 a2 => by rw [f1.2.1, if_pos (by omega)]; exact (pr_no (by omega)).symm) (fun k a1 a2 => by rw [f1.2.2, if_pos (by omega)]; unfold ip prI; rw [if_pos (by omega)])
theorem l131a_1 {r : Int} {R : Po} {μ0 : Mu} (hr : 0 ≤ r ∧ r < 8) (hk : ∀ (μ : Mu) (o3 : Option PV), ((∀ q, q ≠ 51 → μ q = μ0 q) ∧ (∀ x, μ 51 x = if 16 * r + 8 ≤ x ∧ x < 16 * r + 8 + 8 then -9 else μ0 51 x)) → Wp 131 62 [some (vR 47), some (vI r), some (vI 1), o3, none, none] [] μ R) : ∀ (n : Nat) (k : Int) (μ : Mu), 8 - k = n → 0 ≤ k → ((∀ q, q ≠ 51 → μ q = μ0 q) ∧ (∀ x, μ 51 x = if 16 * r + 8 ≤ x ∧ x < 16 * r + 8 + k then -9 else μ0 51 x)) → Wp 131 2 [some (vR 47), some (vI r), some (vI 1), some (vI k), none, none] [] μ R := by
  intro n
  induction n with
  | zero =>
    intro k μ hn h0 hF
    refine seg 3 (show (8 ≤ k → Wp 131 62 [some (vR 47), some (vI r), some (vI 1), some (vI k), none, none] [] μ R) ∧ (¬ (8 ≤ k) → Wp 131 8 [some (vR 47), some (vI r), some (vI 1), some (vI k), none, none] [] μ R) from ⟨fun c1 => ?_, fun c1 => ?_⟩)
    ·
      first | (obtain rfl : k = 8 := (by omega); exact hk μ _ hF) | (exfalso; omega)
    ·
      refine seg 22 (show iR (16 * r) ∧ iR (8 * 1) ∧ iR ((16 * r) + (8 * 1)) ∧ iR (((16 * r) + (8 * 1)) + k) ∧ (0 ≤ (((16 * r) + (8 * 1)) + k) ∧ (((16 * r) + (8 * 1)) + k) < 128) ∧ iR (8 * r) ∧ iR ((8 * r) + k) ∧ (¬ (1 = 0) → Wp 131 44 [some (vR 47), some (vI r), some (vI 1), some (vI k), none, none] [vI ((8 * r) + k), vR 52] (u2 μ 51 (((16 * r) + (8 * 1)) + k) (-9)) R) ∧ (1 = 0 → Wp 131 40 [some (vR 47), some (vI r), some (vI 1), some (vI k), none, none] [vI ((8 * r) + k), vR 52] (u2 μ 51 (((16 * r) + (8 * 1)) + k) (-9)) R) from ⟨by omega, by omega, by omega, by omega, by omega, by omega, by omega, fun _ => ?_, fun z => absurd z (by decide)⟩)
      refine seg 11 (show iR (8 * r) ∧ iR ((8 * r) + k) ∧ (0 ≤ ((8 * r) + k) ∧ ((8 * r) + k) < 64) ∧ (0 ≤ ((8 * r) + k) ∧ ((8 * r) + k) < 64) ∧ iR (k + 1) ∧ Wp 131 2 [some (vR 47), some (vI r), some (vI 1), some (vI (k + 1)), none, none] [] (u2 (u2 μ 51 (((16 * r) + (8 * 1)) + k) (-9)) 52 ((8 * r) + k) (μ 52 ((8 * r) + k))) R from ⟨by omega, by omega, by omega, by omega, by omega, ?_⟩)
      exfalso; omega
  | succ n ih =>
    intro k μ hn h0 hF
    refine seg 3 (show (8 ≤ k → Wp 131 62 [some (vR 47), some (vI r), some (vI 1), some (vI k), none, none] [] μ R) ∧ (¬ (8 ≤ k) → Wp 131 8 [some (vR 47), some (vI r), some (vI 1), some (vI k), none, none] [] μ R) from ⟨fun c2 => ?_, fun c2 => ?_⟩)
    ·
      first | (obtain rfl : k = 8 := (by omega); exact hk μ _ hF) | (exfalso; omega)
    ·
      refine seg 22 (show iR (16 * r) ∧ iR (8 * 1) ∧ iR ((16 * r) + (8 * 1)) ∧ iR (((16 * r) + (8 * 1)) + k) ∧ (0 ≤ (((16 * r) + (8 * 1)) + k) ∧ (((16 * r) + (8 * 1)) + k) < 128) ∧ iR (8 * r) ∧ iR ((8 * r) + k) ∧ (¬ (1 = 0) → Wp 131 44 [some (vR 47), some (vI r), some (vI 1), some (vI k), none, none] [vI ((8 * r) + k), vR 52] (u2 μ 51 (((16 * r) + (8 * 1)) + k) (-9)) R) ∧ (1 = 0 → Wp 131 40 [some (vR 47), some (vI r), some (vI 1), some (vI k), none, none] [vI ((8 * r) + k), vR 52] (u2 μ 51 (((16 * r) + (8 * 1)) + k) (-9)) R) from ⟨by omega, by omega, by omega, by omega, by omega, by omega, by omega, fun _ => ?_, fun z => absurd z (by decide)⟩)
      refine seg 11 (show iR (8 * r) ∧ iR ((8 * r) + k) ∧ (0 ≤ ((8 * r) + k) ∧ ((8 * r) + k) < 64) ∧ (0 ≤ ((8 * r) + k) ∧ ((8 * r) + k) < 64) ∧ iR (k + 1) ∧ Wp 131 2 [some (vR 47), some (vI r), some (vI 1), some (vI (k + 1)), none, none] [] (u2 (u2 μ 51 (((16 * r) + (8 * 1)) + k) (-9)) 52 ((8 * r) + k) (μ 52 ((8 * r) + k))) R from ⟨by omega, by omega, by omega, by omega, by omega, ?_⟩)
      have eid : ∀ (m : Mu) (x : Int), u2 m 52 x (m 52 x) = m := fun m x => by
        funext q
        unfold u2
        by_cases hq : q = 52
        · rw [if_pos hq]; funext j; by_cases hj : j = x
          · rw [if_pos hj, hj, hq]
          · rw [if_neg hj, hq]
        · rw [if_neg hq]
      have e52 : u2 μ 51 (16 * r + 8 * 1 + k) (-9) 52 (8 * r + k) = μ 52 (8 * r + k) := by rw [u2_ne (by decide)]
      rw [← e52, eid]
      refine ih (k + 1) _ (by omega) (by omega) ⟨fun q h1 => by rw [u2_ne h1]; exact hF.1 q h1, (fun x => by
        rw [u2_at]
        by_cases hx : x = 16 * r + 8 * 1 + k
        · subst hx; rw [up1_s, if_pos (by omega)]
        · rw [up1_n hx, hF.2 x]
          by_cases hq : 16 * r + 8 ≤ x ∧ x < 16 * r + 8 + k
          · rw [if_pos hq, if_pos (by omega)]
          · rw [if_neg hq, if_neg (by omega)])⟩
theorem l131w_1 {G : Hi} {p r : Int} {R : Po} {μ0 : Mu} (hm0 : MH G μ0) (hp : 0 ≤ p ∧ p < hN G) (hr : 0 ≤ r ∧ r < hN G) (hT0 : Tab (μ0 59) (hL G p) (hL G r) (hS G p) (hS G r) (-1) (hS G r)) : ∀ (n : Nat) (i j : Int) (P I : Int → Int) (μ : Mu), (hS G p - i).toNat + (hS G r - j).toNat < n → 0 ≤ i → 0 ≤ j → i ≤ hS G p → j ≤ hS G r → ((∀ q, q ≠ 51 → μ q = μ0 q) ∧ (∀ x, ¬ (16 * r + 8 ≤ x ∧ x < 16 * r + 16) → μ 51 x = μ0 51 x)) → (∀ k, 0 ≤ k → k < 8 → μ 51 (16 * r + 8 * 1 + k) = ((P, I)).1 k) → (∀ μ2 : Mu, ((∀ q, q ≠ 51 → μ2 q = μ0 q) ∧ (∀ x, ¬ (16 * r + 8 ≤ x ∧ x < 16 * r + 16) → μ2 51 x = μ0 51 x)) → (∀ k, 0 ≤ k → k < 8 → μ2 51 (16 * r + 8 * 1 + k) = (wk (hL G p) (hL G r) (hS G p) (hS G r) n i j P I).1 k) → R none μ2) → Wp 131 90 [some (vR 47), some (vI r), some (vI 1), some (vI p), some (vI i), some (vI j)] [] μ R := by
  intro n
  induction n with
  | zero =>
    intro i j P I μ hn
    exact absurd hn (by omega)
  | succ n ih =>
    intro i j P I μ hn hi hj hi2 hj2 hF hP hk
    have hm := hm0.fr (by rw [hF.1 47 (by decide)]) (hF.1 48 (by decide)) (hF.1 49 (by decide)) (hF.1 50 (by decide))
    have h8 := hm.1.n
    have hsp := hm.1.s hp
    have hsr := hm.1.s hr
    have ep := (hm.2.2 p hp.1 hp.2).1
    have er := (hm.2.2 r hr.1 hr.2).1
    have hT : Tab (μ 59) (hL G p) (hL G r) (hS G p) (hS G r) (-1) (hS G r) := by rw [hF.1 59 (by decide)]; exact hT0
    rw [wk] at hk
    refine seg 6 (show (0 ≤ p ∧ p < 8) ∧ (μ 48 p ≤ i → Wp 131 256 [some (vR 47), some (vI r), some (vI 1), some (vI p), some (vI i), some (vI j)] [] μ R) ∧ (¬ (μ 48 p ≤ i) → Wp 131 101 [some (vR 47), some (vI r), some (vI 1), some (vI p), some (vI i), some (vI j)] [] μ R) from ⟨by first | omega | (have hb := tab_w hT (i := i) (j := j) (by omega) (by omega); have g1 := cm_rg (f := hL G p) (g := hL G r) (R := hS G p) (C := hS G r) _ (i + 1) (j + 1) (Nat.le_refl _); omega), fun c1 => ?_, fun c1 => ?_⟩)
    ·
      refine seg 1 (show R none μ from ?_)
      rw [if_neg (by omega)] at hk
      exact hk μ hF hP
    ·
      refine seg 6 (show (0 ≤ r ∧ r < 8) ∧ (μ 48 r ≤ j → Wp 131 256 [some (vR 47), some (vI r), some (vI 1), some (vI p), some (vI i), some (vI j)] [] μ R) ∧ (¬ (μ 48 r ≤ j) → Wp 131 112 [some (vR 47), some (vI r), some (vI 1), some (vI p), some (vI i), some (vI j)] [] μ R) from ⟨by first | omega | (have hb := tab_w hT (i := i) (j := j) (by omega) (by omega); have g1 := cm_rg (f := hL G p) (g := hL G r) (R := hS G p) (C := hS G r) _ (i + 1) (j + 1) (Nat.le_refl _); omega), fun c2 => ?_, fun c2 => ?_⟩)
      ·
        refine seg 1 (show R none μ from ?_)
        rw [if_neg (by omega)] at hk
        exact hk μ hF hP
      ·
        refine seg 4 (show Wp 129 0 [some (vR 47), some (vI p), some (vI i)] [] μ (fun rr μ' => Wp 131 119 [some (vR 47), some (vI r), some (vI 1), some (vI p), some (vI i), some (vI j)] (rr.toList ++ []) μ' R) from ?_)
        refine n129 hm (by omega) (by omega) ?_
        refine seg 4 (show Wp 129 0 [some (vR 47), some (vI r), some (vI j)] [] μ (fun rr μ' => Wp 131 126 [some (vR 47), some (vI r), some (vI 1), some (vI p), some (vI i), some (vI j)] (rr.toList ++ [vI (hL G p i)]) μ' R) from ?_)
        refine n129 hm (by omega) (by omega) ?_
        refine seg 1 (show (¬ (hL G p i = hL G r j) → Wp 131 210 [some (vR 47), some (vI r), some (vI 1), some (vI p), some (vI i), some (vI j)] [] μ R) ∧ (hL G p i = hL G r j → Wp 131 129 [some (vR 47), some (vI r), some (vI 1), some (vI p), some (vI i), some (vI j)] [] μ R) from ⟨fun c3 => ?_, fun c3 => ?_⟩)
        ·
          refine seg 21 (show iR (9 * i) ∧ iR ((9 * i) + 9) ∧ iR (((9 * i) + 9) + j) ∧ (0 ≤ (((9 * i) + 9) + j) ∧ (((9 * i) + 9) + j) < 81) ∧ iR (9 * i) ∧ iR ((9 * i) + j) ∧ iR (((9 * i) + j) + 1) ∧ (0 ≤ (((9 * i) + j) + 1) ∧ (((9 * i) + j) + 1) < 81) ∧ (μ 59 (((9 * i) + 9) + j) < μ 59 (((9 * i) + j) + 1) → Wp 131 250 [some (vR 47), some (vI r), some (vI 1), some (vI p), some (vI i), some (vI j)] [] μ R) ∧ (¬ (μ 59 (((9 * i) + 9) + j) < μ 59 (((9 * i) + j) + 1)) → Wp 131 244 [some (vR 47), some (vI r), some (vI 1), some (vI p), some (vI i), some (vI j)] [] μ R) from ⟨by first | omega | (have hb := tab_w hT (i := i) (j := j) (by omega) (by omega); have g1 := cm_rg (f := hL G p) (g := hL G r) (R := hS G p) (C := hS G r) _ (i + 1) (j + 1) (Nat.le_refl _); omega), by first | omega | (have hb := tab_w hT (i := i) (j := j) (by omega) (by omega); have g1 := cm_rg (f := hL G p) (g := hL G r) (R := hS G p) (C := hS G r) _ (i + 1) (j + 1) (Nat.le_refl _); omega), by first | omega | (have hb := tab_w hT (i := i) (j := j) (by omega) (by omega); have g1 := cm_rg (f := hL G p) (g := hL G r) (R := hS G p) (C := hS G r) _ (i + 1) (j + 1) (Nat.le_refl _); omega), by first | omega | (have hb := tab_w hT (i := i) (j := j) (by omega) (by omega); have g1 := cm_rg (f := hL G p) (g := hL G r) (R := hS G p) (C := hS G r) _ (i + 1) (j + 1) (Nat.le_refl _); omega), by first | omega | (have hb := tab_w hT (i := i) (j := j) (by omega) (by omega); have g1 := cm_rg (f := hL G p) (g := hL G r) (R := hS G p) (C := hS G r) _ (i + 1) (j + 1) (Nat.le_refl _); omega), by first | omega | (have hb := tab_w hT (i := i) (j := j) (by omega) (by omega); have g1 := cm_rg (f := hL G p) (g := hL G r) (R := hS G p) (C := hS G r) _ (i + 1) (j + 1) (Nat.le_refl _); omega), by first | omega | (have hb := tab_w hT (i := i) (j := j) (by omega) (by omega); have g1 := cm_rg (f := hL G p) (g := hL G r) (R := hS G p) (C := hS G r) _ (i + 1) (j + 1) (Nat.le_refl _); omega), by first | omega | (have hb := tab_w hT (i := i) (j := j) (by omega) (by omega); have g1 := cm_rg (f := hL G p) (g := hL G r) (R := hS G p) (C := hS G r) _ (i + 1) (j + 1) (Nat.le_refl _); omega), fun c4 => ?_, fun c4 => ?_⟩)
          ·
            refine seg 2 (show iR (j + 1) ∧ Wp 131 90 [some (vR 47), some (vI r), some (vI 1), some (vI p), some (vI i), some (vI (j + 1))] [] μ R from ⟨by first | omega | (have hb := tab_w hT (i := i) (j := j) (by omega) (by omega); have g1 := cm_rg (f := hL G p) (g := hL G r) (R := hS G p) (C := hS G r) _ (i + 1) (j + 1) (Nat.le_refl _); omega), ?_⟩)
            rw [if_pos (by omega)] at hk
            have hb := tab_w hT (i := i) (j := j) (by omega) (by omega)
            rw [if_neg (fun z => by first | exact absurd z.1 (by assumption) | (have z2 := z.2; omega))] at hk
            rw [if_neg (by omega)] at hk
            exact ih _ _ _ _ _ (by omega) (by omega) (by omega) (by omega) (by omega) hF hP hk
          ·
            refine seg 2 (show iR (i + 1) ∧ Wp 131 90 [some (vR 47), some (vI r), some (vI 1), some (vI p), some (vI (i + 1)), some (vI j)] [] μ R from ⟨by first | omega | (have hb := tab_w hT (i := i) (j := j) (by omega) (by omega); have g1 := cm_rg (f := hL G p) (g := hL G r) (R := hS G p) (C := hS G r) _ (i + 1) (j + 1) (Nat.le_refl _); omega), ?_⟩)
            rw [if_pos (by omega)] at hk
            have hb := tab_w hT (i := i) (j := j) (by omega) (by omega)
            rw [if_neg (fun z => by first | exact absurd z.1 (by assumption) | (have z2 := z.2; omega))] at hk
            rw [if_pos (by omega)] at hk
            exact ih _ _ _ _ _ (by omega) (by omega) (by omega) (by omega) (by omega) hF hP hk
        ·
          refine seg 23 (show iR (9 * i) ∧ iR ((9 * i) + j) ∧ (0 ≤ ((9 * i) + j) ∧ ((9 * i) + j) < 81) ∧ iR (9 * i) ∧ iR ((9 * i) + 9) ∧ iR (((9 * i) + 9) + j) ∧ iR ((((9 * i) + 9) + j) + 1) ∧ (0 ≤ ((((9 * i) + 9) + j) + 1) ∧ ((((9 * i) + 9) + j) + 1) < 81) ∧ iR ((μ 59 ((((9 * i) + 9) + j) + 1)) + 1) ∧ (¬ (μ 59 ((9 * i) + j) = (μ 59 ((((9 * i) + 9) + j) + 1)) + 1) → Wp 131 210 [some (vR 47), some (vI r), some (vI 1), some (vI p), some (vI i), some (vI j)] [] μ R) ∧ (μ 59 ((9 * i) + j) = (μ 59 ((((9 * i) + 9) + j) + 1)) + 1 → Wp 131 165 [some (vR 47), some (vI r), some (vI 1), some (vI p), some (vI i), some (vI j)] [] μ R) from ⟨by first | omega | (have hb := tab_w hT (i := i) (j := j) (by omega) (by omega); have g1 := cm_rg (f := hL G p) (g := hL G r) (R := hS G p) (C := hS G r) _ (i + 1) (j + 1) (Nat.le_refl _); omega), by first | omega | (have hb := tab_w hT (i := i) (j := j) (by omega) (by omega); have g1 := cm_rg (f := hL G p) (g := hL G r) (R := hS G p) (C := hS G r) _ (i + 1) (j + 1) (Nat.le_refl _); omega), by first | omega | (have hb := tab_w hT (i := i) (j := j) (by omega) (by omega); have g1 := cm_rg (f := hL G p) (g := hL G r) (R := hS G p) (C := hS G r) _ (i + 1) (j + 1) (Nat.le_refl _); omega), by first | omega | (have hb := tab_w hT (i := i) (j := j) (by omega) (by omega); have g1 := cm_rg (f := hL G p) (g := hL G r) (R := hS G p) (C := hS G r) _ (i + 1) (j + 1) (Nat.le_refl _); omega), by first | omega | (have hb := tab_w hT (i := i) (j := j) (by omega) (by omega); have g1 := cm_rg (f := hL G p) (g := hL G r) (R := hS G p) (C := hS G r) _ (i + 1) (j + 1) (Nat.le_refl _); omega), by first | omega | (have hb := tab_w hT (i := i) (j := j) (by omega) (by omega); have g1 := cm_rg (f := hL G p) (g := hL G r) (R := hS G p) (C := hS G r) _ (i + 1) (j + 1) (Nat.le_refl _); omega), by first | omega | (have hb := tab_w hT (i := i) (j := j) (by omega) (by omega); have g1 := cm_rg (f := hL G p) (g := hL G r) (R := hS G p) (C := hS G r) _ (i + 1) (j + 1) (Nat.le_refl _); omega), by first | omega | (have hb := tab_w hT (i := i) (j := j) (by omega) (by omega); have g1 := cm_rg (f := hL G p) (g := hL G r) (R := hS G p) (C := hS G r) _ (i + 1) (j + 1) (Nat.le_refl _); omega), by first | omega | (have hb := tab_w hT (i := i) (j := j) (by omega) (by omega); have g1 := cm_rg (f := hL G p) (g := hL G r) (R := hS G p) (C := hS G r) _ (i + 1) (j + 1) (Nat.le_refl _); omega), fun c5 => ?_, fun c5 => ?_⟩)
          ·
            refine seg 21 (show iR (9 * i) ∧ iR ((9 * i) + 9) ∧ iR (((9 * i) + 9) + j) ∧ (0 ≤ (((9 * i) + 9) + j) ∧ (((9 * i) + 9) + j) < 81) ∧ iR (9 * i) ∧ iR ((9 * i) + j) ∧ iR (((9 * i) + j) + 1) ∧ (0 ≤ (((9 * i) + j) + 1) ∧ (((9 * i) + j) + 1) < 81) ∧ (μ 59 (((9 * i) + 9) + j) < μ 59 (((9 * i) + j) + 1) → Wp 131 250 [some (vR 47), some (vI r), some (vI 1), some (vI p), some (vI i), some (vI j)] [] μ R) ∧ (¬ (μ 59 (((9 * i) + 9) + j) < μ 59 (((9 * i) + j) + 1)) → Wp 131 244 [some (vR 47), some (vI r), some (vI 1), some (vI p), some (vI i), some (vI j)] [] μ R) from ⟨by first | omega | (have hb := tab_w hT (i := i) (j := j) (by omega) (by omega); have g1 := cm_rg (f := hL G p) (g := hL G r) (R := hS G p) (C := hS G r) _ (i + 1) (j + 1) (Nat.le_refl _); omega), by first | omega | (have hb := tab_w hT (i := i) (j := j) (by omega) (by omega); have g1 := cm_rg (f := hL G p) (g := hL G r) (R := hS G p) (C := hS G r) _ (i + 1) (j + 1) (Nat.le_refl _); omega), by first | omega | (have hb := tab_w hT (i := i) (j := j) (by omega) (by omega); have g1 := cm_rg (f := hL G p) (g := hL G r) (R := hS G p) (C := hS G r) _ (i + 1) (j + 1) (Nat.le_refl _); omega), by first | omega | (have hb := tab_w hT (i := i) (j := j) (by omega) (by omega); have g1 := cm_rg (f := hL G p) (g := hL G r) (R := hS G p) (C := hS G r) _ (i + 1) (j + 1) (Nat.le_refl _); omega), by first | omega | (have hb := tab_w hT (i := i) (j := j) (by omega) (by omega); have g1 := cm_rg (f := hL G p) (g := hL G r) (R := hS G p) (C := hS G r) _ (i + 1) (j + 1) (Nat.le_refl _); omega), by first | omega | (have hb := tab_w hT (i := i) (j := j) (by omega) (by omega); have g1 := cm_rg (f := hL G p) (g := hL G r) (R := hS G p) (C := hS G r) _ (i + 1) (j + 1) (Nat.le_refl _); omega), by first | omega | (have hb := tab_w hT (i := i) (j := j) (by omega) (by omega); have g1 := cm_rg (f := hL G p) (g := hL G r) (R := hS G p) (C := hS G r) _ (i + 1) (j + 1) (Nat.le_refl _); omega), by first | omega | (have hb := tab_w hT (i := i) (j := j) (by omega) (by omega); have g1 := cm_rg (f := hL G p) (g := hL G r) (R := hS G p) (C := hS G r) _ (i + 1) (j + 1) (Nat.le_refl _); omega), fun c6 => ?_, fun c6 => ?_⟩)
            ·
              refine seg 2 (show iR (j + 1) ∧ Wp 131 90 [some (vR 47), some (vI r), some (vI 1), some (vI p), some (vI i), some (vI (j + 1))] [] μ R from ⟨by first | omega | (have hb := tab_w hT (i := i) (j := j) (by omega) (by omega); have g1 := cm_rg (f := hL G p) (g := hL G r) (R := hS G p) (C := hS G r) _ (i + 1) (j + 1) (Nat.le_refl _); omega), ?_⟩)
              rw [if_pos (by omega)] at hk
              have hb := tab_w hT (i := i) (j := j) (by omega) (by omega)
              rw [if_neg (fun z => by first | exact absurd z.1 (by assumption) | (have z2 := z.2; omega))] at hk
              rw [if_neg (by omega)] at hk
              exact ih _ _ _ _ _ (by omega) (by omega) (by omega) (by omega) (by omega) hF hP hk
            ·
              refine seg 2 (show iR (i + 1) ∧ Wp 131 90 [some (vR 47), some (vI r), some (vI 1), some (vI p), some (vI (i + 1)), some (vI j)] [] μ R from ⟨by first | omega | (have hb := tab_w hT (i := i) (j := j) (by omega) (by omega); have g1 := cm_rg (f := hL G p) (g := hL G r) (R := hS G p) (C := hS G r) _ (i + 1) (j + 1) (Nat.le_refl _); omega), ?_⟩)
              rw [if_pos (by omega)] at hk
              have hb := tab_w hT (i := i) (j := j) (by omega) (by omega)
              rw [if_neg (fun z => by first | exact absurd z.1 (by assumption) | (have z2 := z.2; omega))] at hk
              rw [if_pos (by omega)] at hk
              exact ih _ _ _ _ _ (by omega) (by omega) (by omega) (by omega) (by omega) hF hP hk
          ·
            refine seg 15 (show iR (16 * r) ∧ iR (8 * 1) ∧ iR ((16 * r) + (8 * 1)) ∧ iR (((16 * r) + (8 * 1)) + j) ∧ (0 ≤ (((16 * r) + (8 * 1)) + j) ∧ (((16 * r) + (8 * 1)) + j) < 128) ∧ (¬ (1 = 0) → Wp 131 201 [some (vR 47), some (vI r), some (vI 1), some (vI p), some (vI i), some (vI j)] [] (u2 μ 51 (((16 * r) + (8 * 1)) + j) i) R) ∧ (1 = 0 → Wp 131 188 [some (vR 47), some (vI r), some (vI 1), some (vI p), some (vI i), some (vI j)] [] (u2 μ 51 (((16 * r) + (8 * 1)) + j) i) R) from ⟨by first | omega | (have hb := tab_w hT (i := i) (j := j) (by omega) (by omega); have g1 := cm_rg (f := hL G p) (g := hL G r) (R := hS G p) (C := hS G r) _ (i + 1) (j + 1) (Nat.le_refl _); omega), by first | omega | (have hb := tab_w hT (i := i) (j := j) (by omega) (by omega); have g1 := cm_rg (f := hL G p) (g := hL G r) (R := hS G p) (C := hS G r) _ (i + 1) (j + 1) (Nat.le_refl _); omega), by first | omega | (have hb := tab_w hT (i := i) (j := j) (by omega) (by omega); have g1 := cm_rg (f := hL G p) (g := hL G r) (R := hS G p) (C := hS G r) _ (i + 1) (j + 1) (Nat.le_refl _); omega), by first | omega | (have hb := tab_w hT (i := i) (j := j) (by omega) (by omega); have g1 := cm_rg (f := hL G p) (g := hL G r) (R := hS G p) (C := hS G r) _ (i + 1) (j + 1) (Nat.le_refl _); omega), by first | omega | (have hb := tab_w hT (i := i) (j := j) (by omega) (by omega); have g1 := cm_rg (f := hL G p) (g := hL G r) (R := hS G p) (C := hS G r) _ (i + 1) (j + 1) (Nat.le_refl _); omega), fun _ => ?_, fun z => absurd z (by decide)⟩)
            refine seg 3 (show iR (i + 1) ∧ iR (j + 1) ∧ Wp 131 90 [some (vR 47), some (vI r), some (vI 1), some (vI p), some (vI (i + 1)), some (vI (j + 1))] [] (u2 μ 51 (((16 * r) + (8 * 1)) + j) i) R from ⟨by first | omega | (have hb := tab_w hT (i := i) (j := j) (by omega) (by omega); have g1 := cm_rg (f := hL G p) (g := hL G r) (R := hS G p) (C := hS G r) _ (i + 1) (j + 1) (Nat.le_refl _); omega), by first | omega | (have hb := tab_w hT (i := i) (j := j) (by omega) (by omega); have g1 := cm_rg (f := hL G p) (g := hL G r) (R := hS G p) (C := hS G r) _ (i + 1) (j + 1) (Nat.le_refl _); omega), ?_⟩)
            rw [if_pos (by omega)] at hk
            have hb := tab_w hT (i := i) (j := j) (by omega) (by omega)
            rw [if_pos ⟨by assumption, by omega⟩] at hk
            refine ih _ _ _ _ _ (by omega) (by omega) (by omega) (by omega) (by omega) ⟨fun q h1 => by rw [u2_ne h1]; exact hF.1 q h1, fun x hx => by rw [u2_at, up1_n (by omega)]; exact hF.2 x hx⟩ (fun k h0 h7 => ?_) hk
            rw [u2_at]
            show _ = up1 P j i k
            by_cases hkj : k = j
            · subst hkj; rw [up1_s, up1_s]
            · rw [up1_n (by omega), up1_n hkj]; exact hP k h0 h7
theorem n131_1 {G : Hi} {r : Int} {R : Po} {μ : Mu} (hm : MH G μ) (hr : 0 ≤ r ∧ r < hN G) (hk : ∀ μ2 : Mu, (∀ q, q ≠ 51 → q ≠ 59 → μ2 q = μ q) → (∀ x, ¬ (16 * r + 8 ≤ x ∧ x < 16 * r + 16) → μ2 51 x = μ 51 x) → (∀ k, 0 ≤ k → k < 8 → μ2 51 (16 * r + 8 * 1 + k) = pr G r 1 k) → R none μ2) : Wp 131 0 [some (vR 47), some (vI r), some (vI 1), none, none, none] [] μ R := by
  have h8 := hm.1.n
  refine seg 2 (show Wp 131 2 [some (vR 47), some (vI r), some (vI 1), some (vI 0), none, none] [] μ R from ?_)
  refine l131a_1 (by omega) (fun μ1 o3 f1 => ?_) 8 0 μ (by decide) (by decide) ⟨fun _ _ => rfl, fun x => by rw [if_neg (by omega)]⟩
  have hm1 : MH G μ1 := hm.fr (by rw [f1.1 47 (by decide)]) (f1.1 48 (by decide)) (f1.1 49 (by decide)) (f1.1 50 (by decide))
  have ep := hm1.w (r := r) (w := 1) hr (by decide)
  refine seg 9 (show iR (2 * r) ∧ iR ((2 * r) + 1) ∧ (0 ≤ ((2 * r) + 1) ∧ ((2 * r) + 1) < 16) ∧ Wp 131 73 [some (vR 47), some (vI r), some (vI 1), some (vI (μ1 49 ((2 * r) + 1))), none, none] [] μ1 R from ⟨by omega, by omega, by omega, ?_⟩)
  rw [ep]
  refine seg 2 (show (0 ≤ hP G r 1 → Wp 131 78 [some (vR 47), some (vI r), some (vI 1), some (vI (hP G r 1)), none, none] [] μ1 R) ∧ (¬ (0 ≤ hP G r 1) → Wp 131 77 [some (vR 47), some (vI r), some (vI 1), some (vI (hP G r 1)), none, none] [] μ1 R) from ⟨fun c21 => ?_, fun c21 => ?_⟩)
  ·
    refine seg 4 (show Wp 130 0 [some (vR 47), some (vI (hP G r 1)), some (vI r), none, none, none, none, none, none] [] μ1 (fun rr μ' => Wp 131 84 [some (vR 47), some (vI r), some (vI 1), some (vI (hP G r 1)), none, none] (rr.toList ++ []) μ' R) from ?_)
    have hpv := hm1.1.pv (r := r) (w := 1) hr (by decide) (by omega)
    refine n130 hm1 (by omega) hr (fun μ2 f2 hT => ?_)
    have hm2 : MH G μ2 := hm1.fr (by rw [f2 47 (by decide)]) (f2 48 (by decide)) (f2 49 (by decide)) (f2 50 (by decide))
    have hsp := hm1.1.s (r := hP G r 1) (by omega)
    have hsr := hm1.1.s hr
    refine seg 4 (show Wp 131 90 [some (vR 47), some (vI r), some (vI 1), some (vI (hP G r 1)), some (vI 0), some (vI 0)] [] μ2 R from ?_)
    refine l131w_1 hm2 (by omega) hr hT 17 0 0 (fun _ => -9) (fun _ => 0) μ2 (by omega) (by decide) (by decide) (by omega) (by omega) ⟨fun _ _ => rfl, fun _ _ => rfl⟩ (fun k a1 a2 => by rw [f2 51 (by decide), f1.2, if_pos (by omega)]) (fun μ3 f3 p3 => ?_)
    refine hk μ3 (fun q a1 a2 => by rw [f3.1 q a1, f2 q a2, f1.1 q a1]) (fun x hx => by rw [f3.2 x hx, f2 51 (by decide), f1.2 x, if_neg (by omega)]) (fun k a1 a2 => ?_)
    rw [p3 k a1 a2]; unfold pr prI; rw [if_neg (by omega)]
  ·
    refine seg 1 (show R none μ1 from ?_)
    exact hk μ1 (fun q a1 a2 => f1.1 q a1) (fun x hx => by rw [f1.2 x, if_neg (by omega)]) (fun k a1 a2 => by rw [f1.2, if_pos (by omega)]; exact (pr_no (by omega)).symm)
