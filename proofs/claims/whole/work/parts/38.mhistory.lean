/-! the model's history: copies, pairs, items -/
theorem l128c {G : Hi} {R : Po} {μ0 : Mu} (hm0 : MH G μ0) (h10 : μ0 47 10 = 0) (hk : ∀ μ2 : Mu, (∀ q, q < 47 → μ2 q = μ0 q) → MG G μ2 → SeC (2, 0, 15) (μ2 53) → μ2 47 10 = 0 → μ2 47 8 = 0 → μ2 47 24 = 0 → μ2 64 0 = 0 → μ2 64 1 = 0 → R (some (vI (hN G))) μ2) : ∀ (n : Nat) (r : Int) (μ : Mu), hN G - r = n → 0 ≤ r → (∀ q, q ≠ 51 → q ≠ 52 → q ≠ 59 → μ q = μ0 q) → (∀ r2, 0 ≤ r2 → r2 < r → MP G μ r2) → Wp 128 147 [some (vR 47), some (vI r)] [] μ R := by
  have h8 := hm0.1.n
  intro n
  induction n with
  | zero =>
    intro r μ hn h0 hF hP
    have hm : MH G μ := hm0.fr (by rw [hF 47 (by decide) (by decide) (by decide)]) (hF 48 (by decide) (by decide) (by decide)) (hF 49 (by decide) (by decide) (by decide)) (hF 50 (by decide) (by decide) (by decide))
    have hm1 := hm.2.1
    refine seg 4 (show (μ 47 0 ≤ r → Wp 128 173 [some (vR 47), some (vI r)] [] μ R) ∧ (¬ (μ 47 0 ≤ r) → Wp 128 155 [some (vR 47), some (vI r)] [] μ R) from ⟨fun c1 => ?_, fun c1 => ?_⟩)
    ·
      refine seg 2 (show Wp 117 0 [some (vR 47)] [] μ (fun rr μ' => Wp 128 177 [some (vR 47), some (vI r)] (rr.toList ++ []) μ' R) from ?_)
      refine n117 (fun μ3 f3 g3 s3 a3 b3 c3 d3 => ?_)
      refine seg 3 (show R (some (vI (μ3 47 0))) μ3 from ?_)
      have e0 : μ3 47 0 = hN G := by rw [g3 0 (by decide) (by decide)]; exact hm1
      rw [e0]
      have hG : MG G μ := ⟨hm, fun r2 a b => hP r2 a (by omega)⟩
      exact hk μ3 (fun q hq => by rw [f3 q (by omega) (by omega) (by omega)]; exact hF q (by omega) (by omega) (by omega)) (hG.fr (g3 0 (by decide) (by decide)) (f3 48 (by decide) (by decide) (by decide)) (f3 49 (by decide) (by decide) (by decide)) (f3 50 (by decide) (by decide) (by decide)) (f3 51 (by decide) (by decide) (by decide)) (f3 52 (by decide) (by decide) (by decide))) s3 (by rw [g3 10 (by decide) (by decide), hF 47 (by decide) (by decide) (by decide)]; exact h10) a3 b3 c3 d3
    ·
      refine seg 4 (show Wp 131 0 [some (vR 47), some (vI r), some (vI 0), none, none, none] [] μ (fun rr μ' => Wp 128 161 [some (vR 47), some (vI r)] (rr.toList ++ []) μ' R) from ?_)
      exfalso; omega
  | succ n ih =>
    intro r μ hn h0 hF hP
    have hm : MH G μ := hm0.fr (by rw [hF 47 (by decide) (by decide) (by decide)]) (hF 48 (by decide) (by decide) (by decide)) (hF 49 (by decide) (by decide) (by decide)) (hF 50 (by decide) (by decide) (by decide))
    have hm1 := hm.2.1
    refine seg 4 (show (μ 47 0 ≤ r → Wp 128 173 [some (vR 47), some (vI r)] [] μ R) ∧ (¬ (μ 47 0 ≤ r) → Wp 128 155 [some (vR 47), some (vI r)] [] μ R) from ⟨fun c2 => ?_, fun c2 => ?_⟩)
    ·
      refine seg 2 (show Wp 117 0 [some (vR 47)] [] μ (fun rr μ' => Wp 128 177 [some (vR 47), some (vI r)] (rr.toList ++ []) μ' R) from ?_)
      refine n117 (fun μ3 f3 g3 s3 a3 b3 c3 d3 => ?_)
      refine seg 3 (show R (some (vI (μ3 47 0))) μ3 from ?_)
      have e0 : μ3 47 0 = hN G := by rw [g3 0 (by decide) (by decide)]; exact hm1
      rw [e0]
      have hG : MG G μ := ⟨hm, fun r2 a b => hP r2 a (by omega)⟩
      exact hk μ3 (fun q hq => by rw [f3 q (by omega) (by omega) (by omega)]; exact hF q (by omega) (by omega) (by omega)) (hG.fr (g3 0 (by decide) (by decide)) (f3 48 (by decide) (by decide) (by decide)) (f3 49 (by decide) (by decide) (by decide)) (f3 50 (by decide) (by decide) (by decide)) (f3 51 (by decide) (by decide) (by decide)) (f3 52 (by decide) (by decide) (by decide))) s3 (by rw [g3 10 (by decide) (by decide), hF 47 (by decide) (by decide) (by decide)]; exact h10) a3 b3 c3 d3
    ·
      refine seg 4 (show Wp 131 0 [some (vR 47), some (vI r), some (vI 0), none, none, none] [] μ (fun rr μ' => Wp 128 161 [some (vR 47), some (vI r)] (rr.toList ++ []) μ' R) from ?_)
      refine n131_0 hm (by omega) (fun μ1 f1 g1 g2 g3 g4 => ?_)
      refine seg 4 (show Wp 131 0 [some (vR 47), some (vI r), some (vI 1), none, none, none] [] μ1 (fun rr μ' => Wp 128 167 [some (vR 47), some (vI r)] (rr.toList ++ []) μ' R) from ?_)
      refine n131_1 (hm.fr (by rw [f1 47 (by decide) (by decide) (by decide)]) (f1 48 (by decide) (by decide) (by decide)) (f1 49 (by decide) (by decide) (by decide)) (f1 50 (by decide) (by decide) (by decide))) (by omega) (fun μ2 f2 g5 g6 => ?_)
      refine seg 2 (show iR (r + 1) ∧ Wp 128 147 [some (vR 47), some (vI (r + 1))] [] μ2 R from ⟨by omega, ?_⟩)
      refine ih (r + 1) μ2 (by omega) (by omega) (fun q a b c => by rw [f2 q a c, f1 q a b c]; exact hF q a b c) (fun r2 a b => ?_)
      have f52 := f2 52 (by decide) (by decide)
      by_cases e : r2 = r
      · subst e
        exact ⟨fun k k1 k2 => ⟨by rw [g5 _ (by omega)]; exact g3 k k1 k2, g6 k k1 k2⟩, fun i i1 i2 => by rw [f52]; exact g4 i i1 i2⟩
      · have hz := hP r2 a (by omega)
        refine ⟨fun k k1 k2 => ⟨?_, ?_⟩, fun i i1 i2 => ?_⟩
        · rw [g5 _ (by omega), g1 _ (by omega)]; exact (hz.1 k k1 k2).1
        · rw [g5 _ (by omega), g1 _ (by omega)]; exact (hz.1 k k1 k2).2
        · rw [f52, g2 _ (by omega)]; exact hz.2 i i1 i2
theorem l128b {R : Po} {μ0 : Mu} (hk : ∀ (μ2 : Mu) (o : Option PV), (∀ q, q ≠ 50 → μ2 q = μ0 q) → (∀ x, 0 ≤ x → x < 64 → μ2 50 x = μ0 58 x) → Wp 128 145 [some (vR 47), o] [] μ2 R) : ∀ (n : Nat) (k : Int) (μ : Mu), 64 - k = n → 0 ≤ k → (∀ q, q ≠ 50 → μ q = μ0 q) → (∀ x, 0 ≤ x → x < k → μ 50 x = μ0 58 x) → Wp 128 121 [some (vR 47), some (vI k)] [] μ R := by
  intro n
  induction n with
  | zero =>
    intro k μ hn h0 hF hc
    refine seg 3 (show (64 ≤ k → Wp 128 145 [some (vR 47), some (vI k)] [] μ R) ∧ (¬ (64 ≤ k) → Wp 128 127 [some (vR 47), some (vI k)] [] μ R) from ⟨fun c1 => ?_, fun c1 => ?_⟩)
    ·
      exact hk μ _ hF (fun x a b => hc x a (by omega))
    ·
      refine seg 10 (show (0 ≤ k ∧ k < 64) ∧ (0 ≤ k ∧ k < 64) ∧ iR (k + 1) ∧ Wp 128 121 [some (vR 47), some (vI (k + 1))] [] (u2 μ 50 k (μ 58 k)) R from ⟨by omega, by omega, by omega, ?_⟩)
      exfalso; omega
  | succ n ih =>
    intro k μ hn h0 hF hc
    refine seg 3 (show (64 ≤ k → Wp 128 145 [some (vR 47), some (vI k)] [] μ R) ∧ (¬ (64 ≤ k) → Wp 128 127 [some (vR 47), some (vI k)] [] μ R) from ⟨fun c2 => ?_, fun c2 => ?_⟩)
    ·
      exact hk μ _ hF (fun x a b => hc x a (by omega))
    ·
      refine seg 10 (show (0 ≤ k ∧ k < 64) ∧ (0 ≤ k ∧ k < 64) ∧ iR (k + 1) ∧ Wp 128 121 [some (vR 47), some (vI (k + 1))] [] (u2 μ 50 k (μ 58 k)) R from ⟨by omega, by omega, by omega, ?_⟩)
      refine ih (k + 1) _ (by omega) (by omega) (fun q a => by rw [u2_ne a]; exact hF q a) (fun x a b => ?_)
      rw [u2_at]
      by_cases e : x = k
      · rw [e, up1_s, hF 58 (by decide)]
      · rw [up1_n e]; exact hc x a (by omega)
theorem l128a {R : Po} {μ0 : Mu} (hk : ∀ (μ2 : Mu) (o : Option PV), (∀ q, q ≠ 48 → q ≠ 49 → μ2 q = μ0 q) → (∀ r, 0 ≤ r → r < 8 → μ2 48 r = μ0 56 r ∧ μ2 49 (2 * r) = μ0 57 (2 * r) ∧ μ2 49 (2 * r + 1) = μ0 57 (2 * r + 1)) → Wp 128 119 [some (vR 47), o] [] μ2 R) : ∀ (n : Nat) (k : Int) (μ : Mu), 8 - k = n → 0 ≤ k → (∀ q, q ≠ 48 → q ≠ 49 → μ q = μ0 q) → (∀ r, 0 ≤ r → r < k → μ 48 r = μ0 56 r ∧ μ 49 (2 * r) = μ0 57 (2 * r) ∧ μ 49 (2 * r + 1) = μ0 57 (2 * r + 1)) → Wp 128 59 [some (vR 47), some (vI k)] [] μ R := by
  intro n
  induction n with
  | zero =>
    intro k μ hn h0 hF hc
    refine seg 3 (show (8 ≤ k → Wp 128 119 [some (vR 47), some (vI k)] [] μ R) ∧ (¬ (8 ≤ k) → Wp 128 65 [some (vR 47), some (vI k)] [] μ R) from ⟨fun c1 => ?_, fun c1 => ?_⟩)
    ·
      exact hk μ _ hF (fun x a b => hc x a (by omega))
    ·
      refine seg 38 (show (0 ≤ k ∧ k < 8) ∧ (0 ≤ k ∧ k < 8) ∧ iR (2 * k) ∧ iR (2 * k) ∧ (0 ≤ (2 * k) ∧ (2 * k) < 16) ∧ (0 ≤ (2 * k) ∧ (2 * k) < 16) ∧ iR (2 * k) ∧ iR ((2 * k) + 1) ∧ iR (2 * k) ∧ iR ((2 * k) + 1) ∧ (0 ≤ ((2 * k) + 1) ∧ ((2 * k) + 1) < 16) ∧ (0 ≤ ((2 * k) + 1) ∧ ((2 * k) + 1) < 16) ∧ iR (k + 1) ∧ Wp 128 59 [some (vR 47), some (vI (k + 1))] [] (u2 (u2 (u2 μ 48 k (μ 56 k)) 49 (2 * k) (μ 57 (2 * k))) 49 ((2 * k) + 1) (μ 57 ((2 * k) + 1))) R from ⟨by omega, by omega, by omega, by omega, by omega, by omega, by omega, by omega, by omega, by omega, by omega, by omega, by omega, ?_⟩)
      exfalso; omega
  | succ n ih =>
    intro k μ hn h0 hF hc
    refine seg 3 (show (8 ≤ k → Wp 128 119 [some (vR 47), some (vI k)] [] μ R) ∧ (¬ (8 ≤ k) → Wp 128 65 [some (vR 47), some (vI k)] [] μ R) from ⟨fun c2 => ?_, fun c2 => ?_⟩)
    ·
      exact hk μ _ hF (fun x a b => hc x a (by omega))
    ·
      refine seg 38 (show (0 ≤ k ∧ k < 8) ∧ (0 ≤ k ∧ k < 8) ∧ iR (2 * k) ∧ iR (2 * k) ∧ (0 ≤ (2 * k) ∧ (2 * k) < 16) ∧ (0 ≤ (2 * k) ∧ (2 * k) < 16) ∧ iR (2 * k) ∧ iR ((2 * k) + 1) ∧ iR (2 * k) ∧ iR ((2 * k) + 1) ∧ (0 ≤ ((2 * k) + 1) ∧ ((2 * k) + 1) < 16) ∧ (0 ≤ ((2 * k) + 1) ∧ ((2 * k) + 1) < 16) ∧ iR (k + 1) ∧ Wp 128 59 [some (vR 47), some (vI (k + 1))] [] (u2 (u2 (u2 μ 48 k (μ 56 k)) 49 (2 * k) (μ 57 (2 * k))) 49 ((2 * k) + 1) (μ 57 ((2 * k) + 1))) R from ⟨by omega, by omega, by omega, by omega, by omega, by omega, by omega, by omega, by omega, by omega, by omega, by omega, by omega, ?_⟩)
      refine ih (k + 1) _ (by omega) (by omega) (fun q a b => by rw [u2_ne b, u2_ne b, u2_ne a]; exact hF q a b) (fun x a b => ?_)
      rw [u2_ne (by decide), u2_ne (by decide), u2_at, u2_at, u2_at, u2_ne (by decide)]
      by_cases e : x = k
      · rw [e, up1_s, up1_n (by omega), up1_s, up1_s, hF 56 (by decide) (by decide), hF 57 (by decide) (by decide)]; exact ⟨rfl, rfl, rfl⟩
      · rw [up1_n e, up1_n (by omega), up1_n (by omega), up1_n (by omega), up1_n (by omega)]; exact hc x a (by omega)
theorem l128e {D : Hi} {R : Po} {μ : Mu} (hd : DOK 0 D) (hm : DMr D (hN D) μ) (h16 : μ 47 16 = hN D) (hk : ∀ μ2 : Mu, (∀ q, q < 47 → μ2 q = μ q) → MG D μ2 → SeC (2, 0, 15) (μ2 53) → μ2 47 10 = 0 → μ2 47 8 = 0 → μ2 47 24 = 0 → μ2 64 0 = 0 → μ2 64 1 = 0 → R (some (vI (hN D))) μ2) : Wp 128 44 [some (vR 47), none] [] μ R := by
  have d1 := hd.1
  refine seg 9 (show Wp 128 59 [some (vR 47), some (vI 0)] [] (u2 (u2 μ 47 10 0) 47 0 (μ 47 16)) R from ?_)
  obtain ⟨μ1, hμ1⟩ : ∃ z, z = u2 (u2 μ 47 10 0) 47 0 (μ 47 16) := ⟨_, rfl⟩
  rw [← hμ1]
  have e1 : ∀ q, q ≠ 47 → μ1 q = μ q := fun q a => by rw [hμ1, u2_ne a, u2_ne a]
  have e10 : μ1 47 10 = 0 := by rw [hμ1, u2_at, up1_n (by decide), u2_at, up1_s]
  have e0 : μ1 47 0 = hN D := by rw [hμ1, u2_at, up1_s]; exact h16
  refine l128a (μ0 := μ1) (fun μ2 o f2 g2 => ?_) 8 0 μ1 (by decide) (by decide) (fun _ _ _ => rfl) (fun r a b => absurd b (by omega))
  refine seg 2 (show Wp 128 121 [some (vR 47), some (vI 0)] [] μ2 R from ?_)
  refine l128b (μ0 := μ2) (fun μ3 o3 f3 g3 => ?_) 64 0 μ2 (by decide) (by decide) (fun _ _ => rfl) (fun r a b => absurd b (by omega))
  refine seg 2 (show Wp 128 147 [some (vR 47), some (vI 0)] [] μ3 R from ?_)
  have hMH : MH D μ3 := by
    refine ⟨dok_hi hd, by rw [f3 47 (by decide), f2 47 (by decide) (by decide)]; exact e0, fun r a b => ?_⟩
    have hz := hm r a b
    have h9 := g2 r a (by omega)
    have hb := hd.2.2 r a (Or.inl b)
    have hb1 := hb.1
    rw [f3 48 (by decide), f3 49 (by decide), h9.1, h9.2.1, h9.2.2, e1 56 (by decide), e1 57 (by decide)]
    exact ⟨hz.1, hz.2.1, hz.2.2.1, fun k k1 k2 => by rw [g3 _ (by omega) (by omega), f2 58 (by decide) (by decide), e1 58 (by decide)]; exact hz.2.2.2 k k1 k2⟩
  exact l128c (μ0 := μ3) hMH (by rw [f3 47 (by decide), f2 47 (by decide) (by decide)]; exact e10) (fun μ4 f4 => hk μ4 (fun q hq => by rw [f4 q hq, f3 q (by omega), f2 q (by omega) (by omega), e1 q (by omega)])) (hN D).toNat 0 μ3 (by omega) (by decide) (fun _ _ _ _ => rfl) (fun r a b => absurd b (by omega))
theorem l128d {T : Tx} {R : Po} {μ0 : Mu} {ρ : Int ⊕ Hi} (ht0 : RMT T μ0) (hf : ∀ f, ρ = .inl f → (0 ≤ f ∧ f ≤ T.1) → ∀ μ2 : Mu, FM μ2 μ0 → R (some (vI (-10 - f))) μ2) (hs : ∀ D2, ρ = .inr D2 → DOK 0 D2 → ∀ μ2 : Mu, FM μ2 μ0 → DMr D2 (hN D2) μ2 → μ2 47 16 = hN D2 → Wp 128 44 [some (vR 47), none] [] μ2 R) : ∀ (n : Nat) (j : Int) (D : Hi) (μ : Mu), 8 - hN D = n → FM μ μ0 → TK T j μ → ρ = prs T j 0 D → DOK 0 D → DMr D (hN D) μ → μ 47 16 = hN D → Wp 128 14 [some (vR 47), none] [] μ R := by
  intro n
  induction n with
  | zero =>
    intro j D μ hn hF hk hp hd hm h16
    have ht2 := ht0.2.1
    have d1 := hd.1
    refine seg 4 (show (μ 47 13 = -1 → Wp 128 44 [some (vR 47), none] [] μ R) ∧ (¬ (μ 47 13 = -1) → Wp 128 22 [some (vR 47), none] [] μ R) from ⟨fun c1 => ?_, fun c1 => ?_⟩)
    ·
      exact hs D (by rw [hp, prs_e (by rw [tk_e hk (by assumption)]; exact Int.le_refl _), if_pos rfl]) hd μ hF hm h16
    ·
      refine seg 2 (show Wp 127 0 [some (vR 47), none] [] μ (fun rr μ' => Wp 128 26 [some (vR 47), none] (rr.toList ++ []) μ' R) from ?_)
      refine n127 ht0 (ρ := ρ) (r := hN D) (D := D) (j := j) (fun f x1 x2 μ1 x3 x4 => ?_) (fun p D2 x1 x2 x3 μ1 x5 x6 x7 x8 x9 => ?_) hF hk (by assumption) rfl hd hm h16 hp
      ·
        refine seg 1 (show (¬ (0 = 0) → Wp 128 37 [some (vR 47), none] [] μ1 R) ∧ (0 = 0 → Wp 128 29 [some (vR 47), none] [] μ1 R) from ⟨fun z => absurd z (by decide), fun _ => ?_⟩)
        refine seg 5 (show iR ((-10) - (μ1 47 15)) ∧ R (some (vI ((-10) - (μ1 47 15)))) μ1 from ⟨by omega, ?_⟩)
        rw [x4]; exact hf f x1 x2 μ1 x3
      ·
        refine seg 1 (show (¬ (1 = 0) → Wp 128 37 [some (vR 47), none] [] μ1 R) ∧ (1 = 0 → Wp 128 29 [some (vR 47), none] [] μ1 R) from ⟨fun _ => ?_, fun z => absurd z (by decide)⟩)
        refine seg 2 (show Wp 124 0 [some (vR 47), none] [] μ1 (fun rr μ' => Wp 128 41 [some (vR 47), none] (rr.toList ++ []) μ' R) from ?_)
        refine n124 (x5.t ht0) (p := p) x6 x7 (fun j9 μ2 k2 p2 f2 => ?_)
        refine seg 1 (show Wp 128 14 [some (vR 47), none] [] μ2 R from ?_)
        have d2 := x2.1
        exfalso; omega
  | succ n ih =>
    intro j D μ hn hF hk hp hd hm h16
    have ht2 := ht0.2.1
    have d1 := hd.1
    refine seg 4 (show (μ 47 13 = -1 → Wp 128 44 [some (vR 47), none] [] μ R) ∧ (¬ (μ 47 13 = -1) → Wp 128 22 [some (vR 47), none] [] μ R) from ⟨fun c2 => ?_, fun c2 => ?_⟩)
    ·
      exact hs D (by rw [hp, prs_e (by rw [tk_e hk (by assumption)]; exact Int.le_refl _), if_pos rfl]) hd μ hF hm h16
    ·
      refine seg 2 (show Wp 127 0 [some (vR 47), none] [] μ (fun rr μ' => Wp 128 26 [some (vR 47), none] (rr.toList ++ []) μ' R) from ?_)
      refine n127 ht0 (ρ := ρ) (r := hN D) (D := D) (j := j) (fun f x1 x2 μ1 x3 x4 => ?_) (fun p D2 x1 x2 x3 μ1 x5 x6 x7 x8 x9 => ?_) hF hk (by assumption) rfl hd hm h16 hp
      ·
        refine seg 1 (show (¬ (0 = 0) → Wp 128 37 [some (vR 47), none] [] μ1 R) ∧ (0 = 0 → Wp 128 29 [some (vR 47), none] [] μ1 R) from ⟨fun z => absurd z (by decide), fun _ => ?_⟩)
        refine seg 5 (show iR ((-10) - (μ1 47 15)) ∧ R (some (vI ((-10) - (μ1 47 15)))) μ1 from ⟨by omega, ?_⟩)
        rw [x4]; exact hf f x1 x2 μ1 x3
      ·
        refine seg 1 (show (¬ (1 = 0) → Wp 128 37 [some (vR 47), none] [] μ1 R) ∧ (1 = 0 → Wp 128 29 [some (vR 47), none] [] μ1 R) from ⟨fun _ => ?_, fun z => absurd z (by decide)⟩)
        refine seg 2 (show Wp 124 0 [some (vR 47), none] [] μ1 (fun rr μ' => Wp 128 41 [some (vR 47), none] (rr.toList ++ []) μ' R) from ?_)
        refine n124 (x5.t ht0) (p := p) x6 x7 (fun j9 μ2 k2 p2 f2 => ?_)
        refine seg 1 (show Wp 128 14 [some (vR 47), none] [] μ2 R from ?_)
        have d2 := x2.1
        exact ih j9 D2 μ2 (by omega) (x5.f f2) k2 (by rw [x1, p2]) x2 (by rw [x3]; exact x8.ft f2) (by rw [f2.2 16 (by decide), x9, x3])
theorem d128 {G : Hi} {T : Tx} {s : Se} {U : Un} {im : Int → Option Se} {N : Sn} {R : Po} {μ : Mu} (hrm : RM G T s U im N μ) (hf : ∀ f, prs T 0 0 D0 = .inl f → ∀ μ2 : Mu, RM G T s U im N μ2 → (∀ q, q < 47 → μ2 q = μ q) → R (some (vI (-10 - f))) μ2) (hs : ∀ D, prs T 0 0 D0 = .inr D → HiOK D → ∀ μ2 : Mu, RM D (0, T.2) (2, 0, 15) (0, U.2) (fun _ => none) (0, N.2) μ2 → (∀ q, q < 47 → μ2 q = μ q) → R (some (vI (hN D))) μ2) : Wp 128 0 [some (vR 47), none] [] μ R := by
  have ht := hrm.2.2.2.1
  have ht2 := ht.2.1
  refine seg 8 (show Wp 124 0 [some (vR 47), none] [] (u2 (u2 μ 47 11 0) 47 16 0) (fun rr μ' => Wp 128 14 [some (vR 47), none] (rr.toList ++ []) μ' R) from ?_)
  obtain ⟨μ1, hμ1⟩ : ∃ z, z = u2 (u2 μ 47 11 0) 47 16 0 := ⟨_, rfl⟩
  rw [← hμ1]
  have hF1 : FM μ1 μ := by rw [hμ1]; exact (FM.r.u (by decide)).u (by decide)
  refine n124 (hF1.t ht) (p := 0) (by rw [hμ1, u2_at, up1_n (by decide), u2_at, up1_s]) (by omega) (fun j9 μ2 k2 p2 f2 => ?_)
  have hF2 : FM μ2 μ := hF1.f f2
  refine l128d (ρ := prs T 0 0 D0) (μ0 := μ) ht (fun f x1 x2 μ3 x3 => ?_) (fun D x1 x2 μ3 x3 x4 x5 => ?_) 8 j9 D0 μ2 (by decide) hF2 k2 (p2 0 D0) ⟨⟨by decide, by decide⟩, Or.inl rfl, fun r a b => by exfalso; change r < 0 ∨ ((0 : Int) ≠ 0 ∧ r = 0) at b; omega⟩ (fun r a b => absurd (show r < 0 from b) (by omega)) (by rw [f2.2 16 (by decide), hμ1, u2_at, up1_s]; rfl)
  · exact hf f x1 μ3 (rm_mk hrm (x3.2 0 (by decide)) (fun q a b => x3.1 q (by omega) (by omega) (by omega) (by omega)) (by rw [x3.1 53 (by decide) (by decide) (by decide) (by decide)]; exact hrm.2.1) hrm.2.2.1 (ht.fr (x3.2 10 (by decide)) (x3.1 55 (by decide) (by decide) (by decide) (by decide))) (hrm.2.2.2.2.1.fr (x3.2 8 (by decide)) (x3.1 54 (by decide) (by decide) (by decide) (by decide))) (hrm.2.2.2.2.2.1.fr (x3.1 63 (by decide) (by decide) (by decide) (by decide)) (x3.1 64 (by decide) (by decide) (by decide) (by decide))) (hrm.2.2.2.2.2.2.fr (x3.2 24 (by decide)) (x3.1 62 (by decide) (by decide) (by decide) (by decide)))) (fun q hq => x3.1 q (by omega) (by omega) (by omega) (by omega))
  · refine l128e x2 x4 x5 (fun μ4 f4 g4 s4 a4 b4 c4 e4 i4 => ?_)
    refine hs D x1 (dok_hi x2) μ4 ⟨g4, s4, ⟨⟨by decide, by decide⟩, ⟨by decide, by decide⟩, ⟨by decide, by decide⟩⟩, ⟨a4, ⟨Int.le_refl _, by show (0 : Int) ≤ 120; decide⟩, fun i a1 a2 => absurd (show i < 0 from a2) (by omega)⟩, ⟨b4, ⟨Int.le_refl _, by show (0 : Int) ≤ 10; decide⟩, fun i a1 a2 => absurd (show i < 0 from a2) (by omega)⟩, fun i a1 a2 => ?_, ⟨c4, ⟨Int.le_refl _, by show (0 : Int) ≤ 6; decide⟩, fun i a1 a2 => absurd (show i < 0 from a2) (by omega)⟩⟩ (fun q hq => by rw [f4 q hq, x3.1 q (by omega) (by omega) (by omega) (by omega)])
    show μ4 64 i = 0
    by_cases h1 : i = 1
    · rw [h1]; exact i4
    · rw [show i = 0 by omega]; exact e4
