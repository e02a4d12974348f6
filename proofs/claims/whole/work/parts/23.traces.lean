/-! traces in the class -/
def TrC (G : Hi) (s : Se) (A B C : Int → Int) (r k : Int) : Prop := A (r * 8 + k) = (og G s r k).1 ∧ B (r * 8 + k) = (og G s r k).2 ∧ C (r * 8 + k) = ru G s r k
theorem l86_32 {G : Hi} {s : Se} {R : Po} {r k : Int} {μ0 μ : Mu} (hg : PG G μ) (hs : SeC s (μ 30)) (hok : SeOK s) (hr : 0 ≤ r ∧ r < hN G) (hk8 : 0 ≤ k ∧ k < hS G r) (hpar : ∀ r2 k2, 0 ≤ r2 → r2 < r → 0 ≤ k2 → k2 < hS G r2 → TrC G s (μ0 33) (μ0 34) (μ0 35) r2 k2) (hF : ((∀ q, q ≠ 33 → q ≠ 34 → q ≠ 35 → μ q = μ0 q) ∧ (∀ y, y ≠ r * 8 + k → μ 33 y = μ0 33 y ∧ μ 34 y = μ0 34 y ∧ μ 35 y = μ0 35 y))) (h1 : μ 33 (r * 8 + k) = r * 8 + k) (h2 : μ 34 (r * 8 + k) = 0) (h3 : μ 35 (r * 8 + k) = -9) (hk : ∀ μ2 : Mu, ((∀ q, q ≠ 33 → q ≠ 34 → q ≠ 35 → μ2 q = μ0 q) ∧ (∀ y, y ≠ r * 8 + k → μ2 33 y = μ0 33 y ∧ μ2 34 y = μ0 34 y ∧ μ2 35 y = μ0 35 y)) → TrC G s (μ2 33) (μ2 34) (μ2 35) r k → R none μ2) : ∀ (n : Nat) (j : Int) (o7 : Option PV), 4 - j = n → 0 ≤ j → ru G s r k = ruF G s r k n j → Wp 86 37 [some (vR 32), some (vR 12), some (vR 30), some (vI r), some (vI k), some (vI (r * 8 + k)), some (vI j), o7] [] μ R := by
  have hn := hg.1.1.n
  have hsr := hg.1.1.s hr
  have hok3 := hok.2.2
  intro n
  induction n with
  | zero =>
    intro j o7 hj h0 hu
    refine seg 3 (show (4 ≤ j → Wp 86 127 [some (vR 32), some (vR 12), some (vR 30), some (vI r), some (vI k), some (vI (r * 8 + k)), some (vI j), o7] [] μ R) ∧ (¬ (4 ≤ j) → Wp 86 43 [some (vR 32), some (vR 12), some (vR 30), some (vI r), some (vI k), some (vI (r * 8 + k)), some (vI j), o7] [] μ R) from ⟨fun c1 => ?_, fun c1 => ?_⟩)
    ·
      refine seg 1 (show R none μ from ?_)
      first
      | (exfalso; omega)
      | exact hk μ hF ⟨by rw [h1, og_no hu], by rw [h2, og_no hu], by rw [h3, hu]; rfl⟩
    ·
      refine seg 3 (show Wp 67 0 [some (vR 30), some (vI j)] [] μ (fun rr μ' => Wp 86 49 [some (vR 32), some (vR 12), some (vR 30), some (vI r), some (vI k), some (vI (r * 8 + k)), some (vI j), o7] (rr.toList ++ []) μ' R) from ?_)
      exfalso; omega
  | succ n ih =>
    intro j o7 hj h0 hu
    rw [ruF] at hu
    have gr := gv_rg hg.1.1 (s := s) (rule := j) (k := k) hr
    refine seg 3 (show (4 ≤ j → Wp 86 127 [some (vR 32), some (vR 12), some (vR 30), some (vI r), some (vI k), some (vI (r * 8 + k)), some (vI j), o7] [] μ R) ∧ (¬ (4 ≤ j) → Wp 86 43 [some (vR 32), some (vR 12), some (vR 30), some (vI r), some (vI k), some (vI (r * 8 + k)), some (vI j), o7] [] μ R) from ⟨fun c2 => ?_, fun c2 => ?_⟩)
    ·
      refine seg 1 (show R none μ from ?_)
      first
      | (exfalso; omega)
      | exact hk μ hF ⟨by rw [h1, og_no hu], by rw [h2, og_no hu], by rw [h3, hu]; rfl⟩
    ·
      refine seg 3 (show Wp 67 0 [some (vR 30), some (vI j)] [] μ (fun rr μ' => Wp 86 49 [some (vR 32), some (vR 12), some (vR 30), some (vI r), some (vI k), some (vI (r * 8 + k)), some (vI j), o7] (rr.toList ++ []) μ' R) from ?_)
      refine s67_30 (by omega) (by rw [hs.2.2]; exact hok3.1) (fun b3 => ?_) (fun b3 => ?_)
      ·
        refine seg 1 (show (1 = 0 → Wp 86 65 [some (vR 32), some (vR 12), some (vR 30), some (vI r), some (vI k), some (vI (r * 8 + k)), some (vI j), o7] [] μ R) ∧ (¬ (1 = 0) → Wp 86 52 [some (vR 32), some (vR 12), some (vR 30), some (vI r), some (vI k), some (vI (r * 8 + k)), some (vI j), o7] [] μ R) from ⟨fun z => absurd z (by decide), fun _ => ?_⟩)
        refine seg 6 (show Wp 33 0 [some (vR 12), some (vI j), some (vI r), some (vI k), some (vR 30), none, none] [] μ (fun rr μ' => Wp 86 62 [some (vR 32), some (vR 12), some (vR 30), some (vI r), some (vI k), some (vI (r * 8 + k)), some (vI j), o7] (rr.toList ++ []) μ' R) from ?_)
        refine s33_30 hg hs hok hr (by omega) (by omega) ?_
        refine seg 4 (show (gv G s j r k < 0 → Wp 86 121 [some (vR 32), some (vR 12), some (vR 30), some (vI r), some (vI k), some (vI (r * 8 + k)), some (vI j), some (vI (gv G s j r k))] [] μ R) ∧ (¬ (gv G s j r k < 0) → Wp 86 74 [some (vR 32), some (vR 12), some (vR 30), some (vI r), some (vI k), some (vI (r * 8 + k)), some (vI j), some (vI (gv G s j r k))] [] μ R) from ⟨fun c4 => ?_, fun c4 => ?_⟩)
        ·
          refine seg 2 (show iR (j + 1) ∧ Wp 86 37 [some (vR 32), some (vR 12), some (vR 30), some (vI r), some (vI k), some (vI (r * 8 + k)), some (vI (j + 1)), some (vI (gv G s j r k))] [] μ R from ⟨by omega, ?_⟩)
          rw [if_neg (fun z => by first | exact absurd z.1 (by rw [← hs.2.2]; assumption) | (have := z.2; omega))] at hu
          exact ih (j + 1) _ (by omega) (by omega) hu
        ·
          refine seg 3 (show (64 ≤ gv G s j r k → Wp 86 121 [some (vR 32), some (vR 12), some (vR 30), some (vI r), some (vI k), some (vI (r * 8 + k)), some (vI j), some (vI (gv G s j r k))] [] μ R) ∧ (¬ (64 ≤ gv G s j r k) → Wp 86 81 [some (vR 32), some (vR 12), some (vR 30), some (vI r), some (vI k), some (vI (r * 8 + k)), some (vI j), some (vI (gv G s j r k))] [] μ R) from ⟨fun c5 => ?_, fun c5 => ?_⟩)
          ·
            refine seg 2 (show iR (j + 1) ∧ Wp 86 37 [some (vR 32), some (vR 12), some (vR 30), some (vI r), some (vI k), some (vI (r * 8 + k)), some (vI (j + 1)), some (vI (gv G s j r k))] [] μ R from ⟨by omega, ?_⟩)
            rw [if_neg (fun z => by first | exact absurd z.1 (by rw [← hs.2.2]; assumption) | (have := z.2; omega))] at hu
            exact ih (j + 1) _ (by omega) (by omega) hu
          ·
            refine seg 24 (show (0 ≤ (gv G s j r k) ∧ (gv G s j r k) < 64) ∧ (0 ≤ (r * 8 + k) ∧ (r * 8 + k) < 64) ∧ (0 ≤ (gv G s j r k) ∧ (gv G s j r k) < 64) ∧ iR ((μ 34 (gv G s j r k)) + 1) ∧ (0 ≤ (r * 8 + k) ∧ (r * 8 + k) < 64) ∧ (0 ≤ (r * 8 + k) ∧ (r * 8 + k) < 64) ∧ R none (u2 (u2 (u2 μ 33 (r * 8 + k) (μ 33 (gv G s j r k))) 34 (r * 8 + k) ((μ 34 (gv G s j r k)) + 1)) 35 (r * 8 + k) j) from ⟨by omega, by omega, by omega, by have hpr := hpar (gv G s j r k / 8) (gv G s j r k % 8) (by omega) (by omega) (by omega) (by omega); have e0 := (hF.2 (gv G s j r k) (by omega)).2.1; have eg : gv G s j r k / 8 * 8 + gv G s j r k % 8 = gv G s j r k := (by omega); unfold TrC at hpr; rw [eg] at hpr; have := og_lt hg.1.1 s (r := gv G s j r k / 8) (k := gv G s j r k % 8) (by omega) (by omega); rw [e0, hpr.2.1]; omega, by omega, by omega, ?_⟩)
            rw [if_pos ⟨by rw [← hs.2.2]; assumption, by omega⟩] at hu
            have hpr := hpar (gv G s j r k / 8) (gv G s j r k % 8) (by omega) (by omega) (by omega) (by omega)
            have eg : gv G s j r k / 8 * 8 + gv G s j r k % 8 = gv G s j r k := by omega
            have ne : gv G s j r k ≠ r * 8 + k := by omega
            unfold TrC at hpr
            rw [eg] at hpr
            have e0 := hF.2 _ ne
            have hog : og G s r k = _ := og_in hg.1.1 hr (by omega)
            rw [hu] at hog
            refine hk _ ⟨fun q a1 a2 a3 => by rw [u2_ne a3, u2_ne a2, u2_ne a1]; exact hF.1 q a1 a2 a3, fun y hy => ⟨?_, ?_, ?_⟩⟩ ⟨?_, ?_, ?_⟩
            · rw [u2_ne (by decide), u2_ne (by decide), u2_at, up1_n hy]; exact (hF.2 y hy).1
            · rw [u2_ne (by decide), u2_at, u2_ne (by decide), up1_n hy]; exact (hF.2 y hy).2.1
            · rw [u2_at, u2_ne (by decide), u2_ne (by decide), up1_n hy]; exact (hF.2 y hy).2.2
            · rw [u2_ne (by decide), u2_ne (by decide), u2_at, up1_s, hog, e0.1, hpr.1]
            · rw [u2_ne (by decide), u2_at, up1_s, hog, e0.2.1, hpr.2.1]
            · rw [u2_at, up1_s, hu]
      ·
        refine seg 1 (show (0 = 0 → Wp 86 65 [some (vR 32), some (vR 12), some (vR 30), some (vI r), some (vI k), some (vI (r * 8 + k)), some (vI j), o7] [] μ R) ∧ (¬ (0 = 0) → Wp 86 52 [some (vR 32), some (vR 12), some (vR 30), some (vI r), some (vI k), some (vI (r * 8 + k)), some (vI j), o7] [] μ R) from ⟨fun _ => ?_, fun z => absurd z (by decide)⟩)
        refine seg 4 (show (-9 < 0 → Wp 86 121 [some (vR 32), some (vR 12), some (vR 30), some (vI r), some (vI k), some (vI (r * 8 + k)), some (vI j), some (vI (-9))] [] μ R) ∧ (¬ (-9 < 0) → Wp 86 74 [some (vR 32), some (vR 12), some (vR 30), some (vI r), some (vI k), some (vI (r * 8 + k)), some (vI j), some (vI (-9))] [] μ R) from ⟨fun _ => ?_, fun z => absurd z (by decide)⟩)
        refine seg 2 (show iR (j + 1) ∧ Wp 86 37 [some (vR 32), some (vR 12), some (vR 30), some (vI r), some (vI k), some (vI (r * 8 + k)), some (vI (j + 1)), some (vI (-9))] [] μ R from ⟨by omega, ?_⟩)
        rw [if_neg (fun z => by first | exact absurd z.1 (by rw [← hs.2.2]; assumption) | (have := z.2; omega))] at hu
        exact ih (j + 1) _ (by omega) (by omega) hu
theorem s86_32 {G : Hi} {s : Se} {R : Po} {r k : Int} {μ : Mu} (hg : PG G μ) (hs : SeC s (μ 30)) (hok : SeOK s) (hr : 0 ≤ r ∧ r < hN G) (hk8 : 0 ≤ k ∧ k < hS G r) (hpar : ∀ r2 k2, 0 ≤ r2 → r2 < r → 0 ≤ k2 → k2 < hS G r2 → TrC G s (μ 33) (μ 34) (μ 35) r2 k2) (hk : ∀ μ2 : Mu, ((∀ q, q ≠ 33 → q ≠ 34 → q ≠ 35 → μ2 q = μ q) ∧ (∀ y, y ≠ r * 8 + k → μ2 33 y = μ 33 y ∧ μ2 34 y = μ 34 y ∧ μ2 35 y = μ 35 y)) → TrC G s (μ2 33) (μ2 34) (μ2 35) r k → R none μ2) : Wp 86 0 [some (vR 32), some (vR 12), some (vR 30), some (vI r), some (vI k), none, none, none] [] μ R := by
  have hn := hg.1.1.n
  have hsr := hg.1.1.s hr
  refine seg 3 (show Wp 114 0 [some (vI r), some (vI k)] [] μ (fun rr μ' => Wp 86 6 [some (vR 32), some (vR 12), some (vR 30), some (vI r), some (vI k), none, none, none] (rr.toList ++ []) μ' R) from ?_)
  refine s114 (by omega) ?_
  refine seg 18 (show (0 ≤ (r * 8 + k) ∧ (r * 8 + k) < 64) ∧ (0 ≤ (r * 8 + k) ∧ (r * 8 + k) < 64) ∧ (0 ≤ (r * 8 + k) ∧ (r * 8 + k) < 64) ∧ Wp 86 37 [some (vR 32), some (vR 12), some (vR 30), some (vI r), some (vI k), some (vI (r * 8 + k)), some (vI 0), none] [] (u2 (u2 (u2 μ 33 (r * 8 + k) (r * 8 + k)) 34 (r * 8 + k) 0) 35 (r * 8 + k) (-9)) R from ⟨by omega, by omega, by omega, ?_⟩)
  obtain ⟨μ1, hμ1⟩ : ∃ z, z = u2 (u2 (u2 μ 33 (r * 8 + k) (r * 8 + k)) 34 (r * 8 + k) 0) 35 (r * 8 + k) (-9) := ⟨_, rfl⟩
  rw [← hμ1]
  have e1 : μ1 33 = up1 (μ 33) (r * 8 + k) (r * 8 + k) := by rw [hμ1, u2_ne (by decide), u2_ne (by decide), u2_at]
  have e2 : μ1 34 = up1 (μ 34) (r * 8 + k) 0 := by rw [hμ1, u2_ne (by decide), u2_at, u2_ne (by decide)]
  have e3 : μ1 35 = up1 (μ 35) (r * 8 + k) (-9) := by rw [hμ1, u2_at, u2_ne (by decide), u2_ne (by decide)]
  have e4 : ∀ q, q ≠ 33 → q ≠ 34 → q ≠ 35 → μ1 q = μ q := fun q a1 a2 a3 => by rw [hμ1, u2_ne a3, u2_ne a2, u2_ne a1]
  exact l86_32 (hg.fr (fun q a1 a2 => e4 q (by omega) (by omega) (by omega))) (by rw [e4 30 (by decide) (by decide) (by decide)]; exact hs) hok hr hk8 hpar ⟨e4, fun y hy => by rw [e1, e2, e3, up1_n hy, up1_n hy, up1_n hy]; exact ⟨rfl, rfl, rfl⟩⟩ (by rw [e1, up1_s]) (by rw [e2, up1_s]) (by rw [e3, up1_s]) hk 4 0 _ (by decide) (by decide) rfl
theorem l85a_32 {G : Hi} {s : Se} {R : Po} {μ0 : Mu} (hg0 : PG G μ0) (hs0 : SeC s (μ0 30)) (hok : SeOK s) {r : Int} (hr : 0 ≤ r ∧ r < hN G) (hk : ∀ (μ : Mu) (o5 : Option PV), (∀ q, q ≠ 33 → q ≠ 34 → q ≠ 35 → μ q = μ0 q) → (∀ r2 k2, 0 ≤ r2 → r2 < r + 1 → 0 ≤ k2 → k2 < hS G r2 → TrC G s (μ 33) (μ 34) (μ 35) r2 k2) → Wp 85 52 [some (vR 32), some (vR 8), some (vR 12), some (vR 30), some (vI r), o5] [] μ R) : ∀ (n : Nat) (k : Int) (μ : Mu), hS G r - k = n → 0 ≤ k → (∀ q, q ≠ 33 → q ≠ 34 → q ≠ 35 → μ q = μ0 q) → (∀ r2 k2, 0 ≤ r2 → r2 < r → 0 ≤ k2 → k2 < hS G r2 → TrC G s (μ 33) (μ 34) (μ 35) r2 k2) → (∀ k2, 0 ≤ k2 → k2 < k → TrC G s (μ 33) (μ 34) (μ 35) r k2) → Wp 85 15 [some (vR 32), some (vR 8), some (vR 12), some (vR 30), some (vI r), some (vI k)] [] μ R := by
  intro n
  induction n with
  | zero =>
    intro k μ hm h0 hF hA hB
    have hg := hg0.fr (fun q a1 a2 => hF q (by omega) (by omega) (by omega))
    have hs : SeC s (μ 30) := by rw [hF 30 (by decide) (by decide) (by decide)]; exact hs0
    have hn := hg.1.1.n
    have hc := hg.1
    have hsr := hc.1.s hr
    refine seg 4 (show Wp 46 0 [some (vR 8), some (vI r)] [] μ (fun rr μ' => Wp 85 23 [some (vR 32), some (vR 8), some (vR 12), some (vR 30), some (vI r), some (vI k)] (rr.toList ++ [vI k]) μ' R) from ?_)
    refine g46 hc (by omega) ?_
    refine seg 1 (show (hS G r ≤ k → Wp 85 52 [some (vR 32), some (vR 8), some (vR 12), some (vR 30), some (vI r), some (vI k)] [] μ R) ∧ (¬ (hS G r ≤ k) → Wp 85 26 [some (vR 32), some (vR 8), some (vR 12), some (vR 30), some (vI r), some (vI k)] [] μ R) from ⟨fun c1 => ?_, fun c1 => ?_⟩)
    ·
      first
      | (exfalso; omega)
      | (refine hk μ _ hF (fun r2 k2 a1 a2 a3 a4 => ?_)
         by_cases hq : r2 = r
         · subst hq; exact hB k2 a3 (by omega)
         · exact hA r2 k2 a1 (by omega) a3 a4)
    ·
      refine seg 3 (show Wp 115 0 [some (vI r), some (vI k)] [] μ (fun rr μ' => Wp 85 33 [some (vR 32), some (vR 8), some (vR 12), some (vR 30), some (vI r), some (vI k)] (rr.toList ++ []) μ' R) from ?_)
      exfalso; omega
  | succ n ih =>
    intro k μ hm h0 hF hA hB
    have hg := hg0.fr (fun q a1 a2 => hF q (by omega) (by omega) (by omega))
    have hs : SeC s (μ 30) := by rw [hF 30 (by decide) (by decide) (by decide)]; exact hs0
    have hn := hg.1.1.n
    have hc := hg.1
    have hsr := hc.1.s hr
    refine seg 4 (show Wp 46 0 [some (vR 8), some (vI r)] [] μ (fun rr μ' => Wp 85 23 [some (vR 32), some (vR 8), some (vR 12), some (vR 30), some (vI r), some (vI k)] (rr.toList ++ [vI k]) μ' R) from ?_)
    refine g46 hc (by omega) ?_
    refine seg 1 (show (hS G r ≤ k → Wp 85 52 [some (vR 32), some (vR 8), some (vR 12), some (vR 30), some (vI r), some (vI k)] [] μ R) ∧ (¬ (hS G r ≤ k) → Wp 85 26 [some (vR 32), some (vR 8), some (vR 12), some (vR 30), some (vI r), some (vI k)] [] μ R) from ⟨fun c2 => ?_, fun c2 => ?_⟩)
    ·
      first
      | (exfalso; omega)
      | (refine hk μ _ hF (fun r2 k2 a1 a2 a3 a4 => ?_)
         by_cases hq : r2 = r
         · subst hq; exact hB k2 a3 (by omega)
         · exact hA r2 k2 a1 (by omega) a3 a4)
    ·
      refine seg 3 (show Wp 115 0 [some (vI r), some (vI k)] [] μ (fun rr μ' => Wp 85 33 [some (vR 32), some (vR 8), some (vR 12), some (vR 30), some (vI r), some (vI k)] (rr.toList ++ []) μ' R) from ?_)
      refine s115t (by omega) ?_
      refine seg 1 (show (1 = 0 → Wp 85 46 [some (vR 32), some (vR 8), some (vR 12), some (vR 30), some (vI r), some (vI k)] [] μ R) ∧ (¬ (1 = 0) → Wp 85 36 [some (vR 32), some (vR 8), some (vR 12), some (vR 30), some (vI r), some (vI k)] [] μ R) from ⟨fun z => absurd z (by decide), fun _ => ?_⟩)
      refine seg 6 (show Wp 86 0 [some (vR 32), some (vR 12), some (vR 30), some (vI r), some (vI k), none, none, none] [] μ (fun rr μ' => Wp 85 46 [some (vR 32), some (vR 8), some (vR 12), some (vR 30), some (vI r), some (vI k)] (rr.toList ++ []) μ' R) from ?_)
      refine s86_32 hg hs hok hr (by omega) hA (fun μ1 f1 f2 => ?_)
      refine seg 2 (show iR (k + 1) ∧ Wp 85 15 [some (vR 32), some (vR 8), some (vR 12), some (vR 30), some (vI r), some (vI (k + 1))] [] μ1 R from ⟨by omega, ?_⟩)
      refine ih (k + 1) μ1 (by omega) (by omega) (fun q a1 a2 a3 => by rw [f1.1 q a1 a2 a3]; exact hF q a1 a2 a3) (fun r2 k2 a1 a2 a3 a4 => ?_) (fun k2 a1 a2 => ?_)
      · have := f1.2 (r2 * 8 + k2) (by have := hc.1.s (r := r2) (by omega); omega)
        unfold TrC
        rw [this.1, this.2.1, this.2.2]
        exact hA r2 k2 a1 a2 a3 a4
      · by_cases hq : k2 = k
        · subst hq; exact f2
        · have := f1.2 (r * 8 + k2) (by omega)
          unfold TrC
          rw [this.1, this.2.1, this.2.2]
          exact hB k2 a1 (by omega)
theorem l85_32 {G : Hi} {s : Se} {R : Po} {μ0 : Mu} (hg0 : PG G μ0) (hs0 : SeC s (μ0 30)) (hok : SeOK s) (hk : ∀ μ : Mu, (∀ q, q ≠ 33 → q ≠ 34 → q ≠ 35 → μ q = μ0 q) → (∀ r2 k2, 0 ≤ r2 → r2 < hN G → 0 ≤ k2 → k2 < hS G r2 → TrC G s (μ 33) (μ 34) (μ 35) r2 k2) → R none μ) : ∀ (n : Nat) (r : Int) (μ : Mu) (o5 : Option PV), hN G - r = n → 0 ≤ r → (∀ q, q ≠ 33 → q ≠ 34 → q ≠ 35 → μ q = μ0 q) → (∀ r2 k2, 0 ≤ r2 → r2 < r → 0 ≤ k2 → k2 < hS G r2 → TrC G s (μ 33) (μ 34) (μ 35) r2 k2) → Wp 85 3 [some (vR 32), some (vR 8), some (vR 12), some (vR 30), some (vI r), o5] [] μ R := by
  intro n
  induction n with
  | zero =>
    intro r μ o5 hm h0 hF hA
    have hg := hg0.fr (fun q a1 a2 => hF q (by omega) (by omega) (by omega))
    have hs : SeC s (μ 30) := by rw [hF 30 (by decide) (by decide) (by decide)]; exact hs0
    have hn := hg.1.1.n
    have hc := hg.1
    refine seg 3 (show Wp 43 0 [some (vR 8)] [] μ (fun rr μ' => Wp 85 9 [some (vR 32), some (vR 8), some (vR 12), some (vR 30), some (vI r), o5] (rr.toList ++ [vI r]) μ' R) from ?_)
    refine g43 hc ?_
    refine seg 1 (show (hN G ≤ r → Wp 85 58 [some (vR 32), some (vR 8), some (vR 12), some (vR 30), some (vI r), o5] [] μ R) ∧ (¬ (hN G ≤ r) → Wp 85 12 [some (vR 32), some (vR 8), some (vR 12), some (vR 30), some (vI r), o5] [] μ R) from ⟨fun c1 => ?_, fun c1 => ?_⟩)
    ·
      refine seg 1 (show R none μ from ?_)
      first | (exfalso; omega) | exact hk μ hF (fun r2 k2 a1 a2 => hA r2 k2 a1 (by omega))
    ·
      refine seg 2 (show Wp 85 15 [some (vR 32), some (vR 8), some (vR 12), some (vR 30), some (vI r), some (vI 0)] [] μ R from ?_)
      exfalso; omega
  | succ n ih =>
    intro r μ o5 hm h0 hF hA
    have hg := hg0.fr (fun q a1 a2 => hF q (by omega) (by omega) (by omega))
    have hs : SeC s (μ 30) := by rw [hF 30 (by decide) (by decide) (by decide)]; exact hs0
    have hn := hg.1.1.n
    have hc := hg.1
    refine seg 3 (show Wp 43 0 [some (vR 8)] [] μ (fun rr μ' => Wp 85 9 [some (vR 32), some (vR 8), some (vR 12), some (vR 30), some (vI r), o5] (rr.toList ++ [vI r]) μ' R) from ?_)
    refine g43 hc ?_
    refine seg 1 (show (hN G ≤ r → Wp 85 58 [some (vR 32), some (vR 8), some (vR 12), some (vR 30), some (vI r), o5] [] μ R) ∧ (¬ (hN G ≤ r) → Wp 85 12 [some (vR 32), some (vR 8), some (vR 12), some (vR 30), some (vI r), o5] [] μ R) from ⟨fun c2 => ?_, fun c2 => ?_⟩)
    ·
      refine seg 1 (show R none μ from ?_)
      first | (exfalso; omega) | exact hk μ hF (fun r2 k2 a1 a2 => hA r2 k2 a1 (by omega))
    ·
      refine seg 2 (show Wp 85 15 [some (vR 32), some (vR 8), some (vR 12), some (vR 30), some (vI r), some (vI 0)] [] μ R from ?_)
      have hsr := hc.1.s (r := r) (by omega)
      refine l85a_32 hg0 hs0 hok (r := r) (by omega) (fun μ o5 hF hA => ?_) (hS G r).toNat 0 μ (by omega) (by decide) hF hA (fun k2 a1 a2 => absurd a2 (by omega))
      refine seg 2 (show iR (r + 1) ∧ Wp 85 3 [some (vR 32), some (vR 8), some (vR 12), some (vR 30), some (vI (r + 1)), o5] [] μ R from ⟨by omega, ?_⟩)
      exact ih (r + 1) μ _ (by omega) (by omega) hF hA
theorem s85_32 {G : Hi} {s : Se} {R : Po} {μ : Mu} (hg : PG G μ) (hs : SeC s (μ 30)) (hok : SeOK s) (hk : ∀ μ2 : Mu, (∀ q, q ≠ 33 → q ≠ 34 → q ≠ 35 → μ2 q = μ q) → (∀ r2 k2, 0 ≤ r2 → r2 < hN G → 0 ≤ k2 → k2 < hS G r2 → TrC G s (μ2 33) (μ2 34) (μ2 35) r2 k2) → R none μ2) : Wp 85 0 [some (vR 32), some (vR 8), some (vR 12), some (vR 30), none, none] [] μ R := by
  have hn := hg.1.1.n
  refine seg 2 (show Wp 85 3 [some (vR 32), some (vR 8), some (vR 12), some (vR 30), some (vI 0), none] [] μ R from ?_)
  exact l85_32 hg hs hok hk (hN G).toNat 0 μ _ (by omega) (by decide) (fun _ _ _ _ => rfl) (fun r2 k2 a1 a2 => absurd a2 (by omega))
theorem l86_36 {G : Hi} {s : Se} {R : Po} {r k : Int} {μ0 μ : Mu} (hg : PG G μ) (hs : SeC s (μ 31)) (hok : SeOK s) (hr : 0 ≤ r ∧ r < hN G) (hk8 : 0 ≤ k ∧ k < hS G r) (hpar : ∀ r2 k2, 0 ≤ r2 → r2 < r → 0 ≤ k2 → k2 < hS G r2 → TrC G s (μ0 37) (μ0 38) (μ0 39) r2 k2) (hF : ((∀ q, q ≠ 37 → q ≠ 38 → q ≠ 39 → μ q = μ0 q) ∧ (∀ y, y ≠ r * 8 + k → μ 37 y = μ0 37 y ∧ μ 38 y = μ0 38 y ∧ μ 39 y = μ0 39 y))) (h1 : μ 37 (r * 8 + k) = r * 8 + k) (h2 : μ 38 (r * 8 + k) = 0) (h3 : μ 39 (r * 8 + k) = -9) (hk : ∀ μ2 : Mu, ((∀ q, q ≠ 37 → q ≠ 38 → q ≠ 39 → μ2 q = μ0 q) ∧ (∀ y, y ≠ r * 8 + k → μ2 37 y = μ0 37 y ∧ μ2 38 y = μ0 38 y ∧ μ2 39 y = μ0 39 y)) → TrC G s (μ2 37) (μ2 38) (μ2 39) r k → R none μ2) : ∀ (n : Nat) (j : Int) (o7 : Option PV), 4 - j = n → 0 ≤ j → ru G s r k = ruF G s r k n j → Wp 86 37 [some (vR 36), some (vR 12), some (vR 31), some (vI r), some (vI k), some (vI (r * 8 + k)), some (vI j), o7] [] μ R := by
  have hn := hg.1.1.n
  have hsr := hg.1.1.s hr
  have hok3 := hok.2.2
  intro n
  induction n with
  | zero =>
    intro j o7 hj h0 hu
    refine seg 3 (show (4 ≤ j → Wp 86 127 [some (vR 36), some (vR 12), some (vR 31), some (vI r), some (vI k), some (vI (r * 8 + k)), some (vI j), o7] [] μ R) ∧ (¬ (4 ≤ j) → Wp 86 43 [some (vR 36), some (vR 12), some (vR 31), some (vI r), some (vI k), some (vI (r * 8 + k)), some (vI j), o7] [] μ R) from ⟨fun c1 => ?_, fun c1 => ?_⟩)
    ·
      refine seg 1 (show R none μ from ?_)
      first
      | (exfalso; omega)
      | exact hk μ hF ⟨by rw [h1, og_no hu], by rw [h2, og_no hu], by rw [h3, hu]; rfl⟩
    ·
      refine seg 3 (show Wp 67 0 [some (vR 31), some (vI j)] [] μ (fun rr μ' => Wp 86 49 [some (vR 36), some (vR 12), some (vR 31), some (vI r), some (vI k), some (vI (r * 8 + k)), some (vI j), o7] (rr.toList ++ []) μ' R) from ?_)
      exfalso; omega
  | succ n ih =>
    intro j o7 hj h0 hu
    rw [ruF] at hu
    have gr := gv_rg hg.1.1 (s := s) (rule := j) (k := k) hr
    refine seg 3 (show (4 ≤ j → Wp 86 127 [some (vR 36), some (vR 12), some (vR 31), some (vI r), some (vI k), some (vI (r * 8 + k)), some (vI j), o7] [] μ R) ∧ (¬ (4 ≤ j) → Wp 86 43 [some (vR 36), some (vR 12), some (vR 31), some (vI r), some (vI k), some (vI (r * 8 + k)), some (vI j), o7] [] μ R) from ⟨fun c2 => ?_, fun c2 => ?_⟩)
    ·
      refine seg 1 (show R none μ from ?_)
      first
      | (exfalso; omega)
      | exact hk μ hF ⟨by rw [h1, og_no hu], by rw [h2, og_no hu], by rw [h3, hu]; rfl⟩
    ·
      refine seg 3 (show Wp 67 0 [some (vR 31), some (vI j)] [] μ (fun rr μ' => Wp 86 49 [some (vR 36), some (vR 12), some (vR 31), some (vI r), some (vI k), some (vI (r * 8 + k)), some (vI j), o7] (rr.toList ++ []) μ' R) from ?_)
      refine s67_31 (by omega) (by rw [hs.2.2]; exact hok3.1) (fun b3 => ?_) (fun b3 => ?_)
      ·
        refine seg 1 (show (1 = 0 → Wp 86 65 [some (vR 36), some (vR 12), some (vR 31), some (vI r), some (vI k), some (vI (r * 8 + k)), some (vI j), o7] [] μ R) ∧ (¬ (1 = 0) → Wp 86 52 [some (vR 36), some (vR 12), some (vR 31), some (vI r), some (vI k), some (vI (r * 8 + k)), some (vI j), o7] [] μ R) from ⟨fun z => absurd z (by decide), fun _ => ?_⟩)
        refine seg 6 (show Wp 33 0 [some (vR 12), some (vI j), some (vI r), some (vI k), some (vR 31), none, none] [] μ (fun rr μ' => Wp 86 62 [some (vR 36), some (vR 12), some (vR 31), some (vI r), some (vI k), some (vI (r * 8 + k)), some (vI j), o7] (rr.toList ++ []) μ' R) from ?_)
        refine s33_31 hg hs hok hr (by omega) (by omega) ?_
        refine seg 4 (show (gv G s j r k < 0 → Wp 86 121 [some (vR 36), some (vR 12), some (vR 31), some (vI r), some (vI k), some (vI (r * 8 + k)), some (vI j), some (vI (gv G s j r k))] [] μ R) ∧ (¬ (gv G s j r k < 0) → Wp 86 74 [some (vR 36), some (vR 12), some (vR 31), some (vI r), some (vI k), some (vI (r * 8 + k)), some (vI j), some (vI (gv G s j r k))] [] μ R) from ⟨fun c4 => ?_, fun c4 => ?_⟩)
        ·
          refine seg 2 (show iR (j + 1) ∧ Wp 86 37 [some (vR 36), some (vR 12), some (vR 31), some (vI r), some (vI k), some (vI (r * 8 + k)), some (vI (j + 1)), some (vI (gv G s j r k))] [] μ R from ⟨by omega, ?_⟩)
          rw [if_neg (fun z => by first | exact absurd z.1 (by rw [← hs.2.2]; assumption) | (have := z.2; omega))] at hu
          exact ih (j + 1) _ (by omega) (by omega) hu
        ·
          refine seg 3 (show (64 ≤ gv G s j r k → Wp 86 121 [some (vR 36), some (vR 12), some (vR 31), some (vI r), some (vI k), some (vI (r * 8 + k)), some (vI j), some (vI (gv G s j r k))] [] μ R) ∧ (¬ (64 ≤ gv G s j r k) → Wp 86 81 [some (vR 36), some (vR 12), some (vR 31), some (vI r), some (vI k), some (vI (r * 8 + k)), some (vI j), some (vI (gv G s j r k))] [] μ R) from ⟨fun c5 => ?_, fun c5 => ?_⟩)
          ·
            refine seg 2 (show iR (j + 1) ∧ Wp 86 37 [some (vR 36), some (vR 12), some (vR 31), some (vI r), some (vI k), some (vI (r * 8 + k)), some (vI (j + 1)), some (vI (gv G s j r k))] [] μ R from ⟨by omega, ?_⟩)
            rw [if_neg (fun z => by first | exact absurd z.1 (by rw [← hs.2.2]; assumption) | (have := z.2; omega))] at hu
            exact ih (j + 1) _ (by omega) (by omega) hu
          ·
            refine seg 24 (show (0 ≤ (gv G s j r k) ∧ (gv G s j r k) < 64) ∧ (0 ≤ (r * 8 + k) ∧ (r * 8 + k) < 64) ∧ (0 ≤ (gv G s j r k) ∧ (gv G s j r k) < 64) ∧ iR ((μ 38 (gv G s j r k)) + 1) ∧ (0 ≤ (r * 8 + k) ∧ (r * 8 + k) < 64) ∧ (0 ≤ (r * 8 + k) ∧ (r * 8 + k) < 64) ∧ R none (u2 (u2 (u2 μ 37 (r * 8 + k) (μ 37 (gv G s j r k))) 38 (r * 8 + k) ((μ 38 (gv G s j r k)) + 1)) 39 (r * 8 + k) j) from ⟨by omega, by omega, by omega, by have hpr := hpar (gv G s j r k / 8) (gv G s j r k % 8) (by omega) (by omega) (by omega) (by omega); have e0 := (hF.2 (gv G s j r k) (by omega)).2.1; have eg : gv G s j r k / 8 * 8 + gv G s j r k % 8 = gv G s j r k := (by omega); unfold TrC at hpr; rw [eg] at hpr; have := og_lt hg.1.1 s (r := gv G s j r k / 8) (k := gv G s j r k % 8) (by omega) (by omega); rw [e0, hpr.2.1]; omega, by omega, by omega, ?_⟩)
            rw [if_pos ⟨by rw [← hs.2.2]; assumption, by omega⟩] at hu
            have hpr := hpar (gv G s j r k / 8) (gv G s j r k % 8) (by omega) (by omega) (by omega) (by omega)
            have eg : gv G s j r k / 8 * 8 + gv G s j r k % 8 = gv G s j r k := by omega
            have ne : gv G s j r k ≠ r * 8 + k := by omega
            unfold TrC at hpr
            rw [eg] at hpr
            have e0 := hF.2 _ ne
            have hog : og G s r k = _ := og_in hg.1.1 hr (by omega)
            rw [hu] at hog
            refine hk _ ⟨fun q a1 a2 a3 => by rw [u2_ne a3, u2_ne a2, u2_ne a1]; exact hF.1 q a1 a2 a3, fun y hy => ⟨?_, ?_, ?_⟩⟩ ⟨?_, ?_, ?_⟩
            · rw [u2_ne (by decide), u2_ne (by decide), u2_at, up1_n hy]; exact (hF.2 y hy).1
            · rw [u2_ne (by decide), u2_at, u2_ne (by decide), up1_n hy]; exact (hF.2 y hy).2.1
            · rw [u2_at, u2_ne (by decide), u2_ne (by decide), up1_n hy]; exact (hF.2 y hy).2.2
            · rw [u2_ne (by decide), u2_ne (by decide), u2_at, up1_s, hog, e0.1, hpr.1]
            · rw [u2_ne (by decide), u2_at, up1_s, hog, e0.2.1, hpr.2.1]
            · rw [u2_at, up1_s, hu]
      ·
        refine seg 1 (show (0 = 0 → Wp 86 65 [some (vR 36), some (vR 12), some (vR 31), some (vI r), some (vI k), some (vI (r * 8 + k)), some (vI j), o7] [] μ R) ∧ (¬ (0 = 0) → Wp 86 52 [some (vR 36), some (vR 12), some (vR 31), some (vI r), some (vI k), some (vI (r * 8 + k)), some (vI j), o7] [] μ R) from ⟨fun _ => ?_, fun z => absurd z (by decide)⟩)
        refine seg 4 (show (-9 < 0 → Wp 86 121 [some (vR 36), some (vR 12), some (vR 31), some (vI r), some (vI k), some (vI (r * 8 + k)), some (vI j), some (vI (-9))] [] μ R) ∧ (¬ (-9 < 0) → Wp 86 74 [some (vR 36), some (vR 12), some (vR 31), some (vI r), some (vI k), some (vI (r * 8 + k)), some (vI j), some (vI (-9))] [] μ R) from ⟨fun _ => ?_, fun z => absurd z (by decide)⟩)
        refine seg 2 (show iR (j + 1) ∧ Wp 86 37 [some (vR 36), some (vR 12), some (vR 31), some (vI r), some (vI k), some (vI (r * 8 + k)), some (vI (j + 1)), some (vI (-9))] [] μ R from ⟨by omega, ?_⟩)
        rw [if_neg (fun z => by first | exact absurd z.1 (by rw [← hs.2.2]; assumption) | (have := z.2; omega))] at hu
        exact ih (j + 1) _ (by omega) (by omega) hu
theorem s86_36 {G : Hi} {s : Se} {R : Po} {r k : Int} {μ : Mu} (hg : PG G μ) (hs : SeC s (μ 31)) (hok : SeOK s) (hr : 0 ≤ r ∧ r < hN G) (hk8 : 0 ≤ k ∧ k < hS G r) (hpar : ∀ r2 k2, 0 ≤ r2 → r2 < r → 0 ≤ k2 → k2 < hS G r2 → TrC G s (μ 37) (μ 38) (μ 39) r2 k2) (hk : ∀ μ2 : Mu, ((∀ q, q ≠ 37 → q ≠ 38 → q ≠ 39 → μ2 q = μ q) ∧ (∀ y, y ≠ r * 8 + k → μ2 37 y = μ 37 y ∧ μ2 38 y = μ 38 y ∧ μ2 39 y = μ 39 y)) → TrC G s (μ2 37) (μ2 38) (μ2 39) r k → R none μ2) : Wp 86 0 [some (vR 36), some (vR 12), some (vR 31), some (vI r), some (vI k), none, none, none] [] μ R := by
  have hn := hg.1.1.n
  have hsr := hg.1.1.s hr
  refine seg 3 (show Wp 114 0 [some (vI r), some (vI k)] [] μ (fun rr μ' => Wp 86 6 [some (vR 36), some (vR 12), some (vR 31), some (vI r), some (vI k), none, none, none] (rr.toList ++ []) μ' R) from ?_)
  refine s114 (by omega) ?_
  refine seg 18 (show (0 ≤ (r * 8 + k) ∧ (r * 8 + k) < 64) ∧ (0 ≤ (r * 8 + k) ∧ (r * 8 + k) < 64) ∧ (0 ≤ (r * 8 + k) ∧ (r * 8 + k) < 64) ∧ Wp 86 37 [some (vR 36), some (vR 12), some (vR 31), some (vI r), some (vI k), some (vI (r * 8 + k)), some (vI 0), none] [] (u2 (u2 (u2 μ 37 (r * 8 + k) (r * 8 + k)) 38 (r * 8 + k) 0) 39 (r * 8 + k) (-9)) R from ⟨by omega, by omega, by omega, ?_⟩)
  obtain ⟨μ1, hμ1⟩ : ∃ z, z = u2 (u2 (u2 μ 37 (r * 8 + k) (r * 8 + k)) 38 (r * 8 + k) 0) 39 (r * 8 + k) (-9) := ⟨_, rfl⟩
  rw [← hμ1]
  have e1 : μ1 37 = up1 (μ 37) (r * 8 + k) (r * 8 + k) := by rw [hμ1, u2_ne (by decide), u2_ne (by decide), u2_at]
  have e2 : μ1 38 = up1 (μ 38) (r * 8 + k) 0 := by rw [hμ1, u2_ne (by decide), u2_at, u2_ne (by decide)]
  have e3 : μ1 39 = up1 (μ 39) (r * 8 + k) (-9) := by rw [hμ1, u2_at, u2_ne (by decide), u2_ne (by decide)]
  have e4 : ∀ q, q ≠ 37 → q ≠ 38 → q ≠ 39 → μ1 q = μ q := fun q a1 a2 a3 => by rw [hμ1, u2_ne a3, u2_ne a2, u2_ne a1]
  exact l86_36 (hg.fr (fun q a1 a2 => e4 q (by omega) (by omega) (by omega))) (by rw [e4 31 (by decide) (by decide) (by decide)]; exact hs) hok hr hk8 hpar ⟨e4, fun y hy => by rw [e1, e2, e3, up1_n hy, up1_n hy, up1_n hy]; exact ⟨rfl, rfl, rfl⟩⟩ (by rw [e1, up1_s]) (by rw [e2, up1_s]) (by rw [e3, up1_s]) hk 4 0 _ (by decide) (by decide) rfl
theorem l85a_36 {G : Hi} {s : Se} {R : Po} {μ0 : Mu} (hg0 : PG G μ0) (hs0 : SeC s (μ0 31)) (hok : SeOK s) {r : Int} (hr : 0 ≤ r ∧ r < hN G) (hk : ∀ (μ : Mu) (o5 : Option PV), (∀ q, q ≠ 37 → q ≠ 38 → q ≠ 39 → μ q = μ0 q) → (∀ r2 k2, 0 ≤ r2 → r2 < r + 1 → 0 ≤ k2 → k2 < hS G r2 → TrC G s (μ 37) (μ 38) (μ 39) r2 k2) → Wp 85 52 [some (vR 36), some (vR 8), some (vR 12), some (vR 31), some (vI r), o5] [] μ R) : ∀ (n : Nat) (k : Int) (μ : Mu), hS G r - k = n → 0 ≤ k → (∀ q, q ≠ 37 → q ≠ 38 → q ≠ 39 → μ q = μ0 q) → (∀ r2 k2, 0 ≤ r2 → r2 < r → 0 ≤ k2 → k2 < hS G r2 → TrC G s (μ 37) (μ 38) (μ 39) r2 k2) → (∀ k2, 0 ≤ k2 → k2 < k → TrC G s (μ 37) (μ 38) (μ 39) r k2) → Wp 85 15 [some (vR 36), some (vR 8), some (vR 12), some (vR 31), some (vI r), some (vI k)] [] μ R := by
  intro n
  induction n with
  | zero =>
    intro k μ hm h0 hF hA hB
    have hg := hg0.fr (fun q a1 a2 => hF q (by omega) (by omega) (by omega))
    have hs : SeC s (μ 31) := by rw [hF 31 (by decide) (by decide) (by decide)]; exact hs0
    have hn := hg.1.1.n
    have hc := hg.1
    have hsr := hc.1.s hr
    refine seg 4 (show Wp 46 0 [some (vR 8), some (vI r)] [] μ (fun rr μ' => Wp 85 23 [some (vR 36), some (vR 8), some (vR 12), some (vR 31), some (vI r), some (vI k)] (rr.toList ++ [vI k]) μ' R) from ?_)
    refine g46 hc (by omega) ?_
    refine seg 1 (show (hS G r ≤ k → Wp 85 52 [some (vR 36), some (vR 8), some (vR 12), some (vR 31), some (vI r), some (vI k)] [] μ R) ∧ (¬ (hS G r ≤ k) → Wp 85 26 [some (vR 36), some (vR 8), some (vR 12), some (vR 31), some (vI r), some (vI k)] [] μ R) from ⟨fun c1 => ?_, fun c1 => ?_⟩)
    ·
      first
      | (exfalso; omega)
      | (refine hk μ _ hF (fun r2 k2 a1 a2 a3 a4 => ?_)
         by_cases hq : r2 = r
         · subst hq; exact hB k2 a3 (by omega)
         · exact hA r2 k2 a1 (by omega) a3 a4)
    ·
      refine seg 3 (show Wp 115 0 [some (vI r), some (vI k)] [] μ (fun rr μ' => Wp 85 33 [some (vR 36), some (vR 8), some (vR 12), some (vR 31), some (vI r), some (vI k)] (rr.toList ++ []) μ' R) from ?_)
      exfalso; omega
  | succ n ih =>
    intro k μ hm h0 hF hA hB
    have hg := hg0.fr (fun q a1 a2 => hF q (by omega) (by omega) (by omega))
    have hs : SeC s (μ 31) := by rw [hF 31 (by decide) (by decide) (by decide)]; exact hs0
    have hn := hg.1.1.n
    have hc := hg.1
    have hsr := hc.1.s hr
    refine seg 4 (show Wp 46 0 [some (vR 8), some (vI r)] [] μ (fun rr μ' => Wp 85 23 [some (vR 36), some (vR 8), some (vR 12), some (vR 31), some (vI r), some (vI k)] (rr.toList ++ [vI k]) μ' R) from ?_)
    refine g46 hc (by omega) ?_
    refine seg 1 (show (hS G r ≤ k → Wp 85 52 [some (vR 36), some (vR 8), some (vR 12), some (vR 31), some (vI r), some (vI k)] [] μ R) ∧ (¬ (hS G r ≤ k) → Wp 85 26 [some (vR 36), some (vR 8), some (vR 12), some (vR 31), some (vI r), some (vI k)] [] μ R) from ⟨fun c2 => ?_, fun c2 => ?_⟩)
    ·
      first
      | (exfalso; omega)
      | (refine hk μ _ hF (fun r2 k2 a1 a2 a3 a4 => ?_)
         by_cases hq : r2 = r
         · subst hq; exact hB k2 a3 (by omega)
         · exact hA r2 k2 a1 (by omega) a3 a4)
    ·
      refine seg 3 (show Wp 115 0 [some (vI r), some (vI k)] [] μ (fun rr μ' => Wp 85 33 [some (vR 36), some (vR 8), some (vR 12), some (vR 31), some (vI r), some (vI k)] (rr.toList ++ []) μ' R) from ?_)
      refine s115t (by omega) ?_
      refine seg 1 (show (1 = 0 → Wp 85 46 [some (vR 36), some (vR 8), some (vR 12), some (vR 31), some (vI r), some (vI k)] [] μ R) ∧ (¬ (1 = 0) → Wp 85 36 [some (vR 36), some (vR 8), some (vR 12), some (vR 31), some (vI r), some (vI k)] [] μ R) from ⟨fun z => absurd z (by decide), fun _ => ?_⟩)
      refine seg 6 (show Wp 86 0 [some (vR 36), some (vR 12), some (vR 31), some (vI r), some (vI k), none, none, none] [] μ (fun rr μ' => Wp 85 46 [some (vR 36), some (vR 8), some (vR 12), some (vR 31), some (vI r), some (vI k)] (rr.toList ++ []) μ' R) from ?_)
      refine s86_36 hg hs hok hr (by omega) hA (fun μ1 f1 f2 => ?_)
      refine seg 2 (show iR (k + 1) ∧ Wp 85 15 [some (vR 36), some (vR 8), some (vR 12), some (vR 31), some (vI r), some (vI (k + 1))] [] μ1 R from ⟨by omega, ?_⟩)
      refine ih (k + 1) μ1 (by omega) (by omega) (fun q a1 a2 a3 => by rw [f1.1 q a1 a2 a3]; exact hF q a1 a2 a3) (fun r2 k2 a1 a2 a3 a4 => ?_) (fun k2 a1 a2 => ?_)
      · have := f1.2 (r2 * 8 + k2) (by have := hc.1.s (r := r2) (by omega); omega)
        unfold TrC
        rw [this.1, this.2.1, this.2.2]
        exact hA r2 k2 a1 a2 a3 a4
      · by_cases hq : k2 = k
        · subst hq; exact f2
        · have := f1.2 (r * 8 + k2) (by omega)
          unfold TrC
          rw [this.1, this.2.1, this.2.2]
          exact hB k2 a1 (by omega)
theorem l85_36 {G : Hi} {s : Se} {R : Po} {μ0 : Mu} (hg0 : PG G μ0) (hs0 : SeC s (μ0 31)) (hok : SeOK s) (hk : ∀ μ : Mu, (∀ q, q ≠ 37 → q ≠ 38 → q ≠ 39 → μ q = μ0 q) → (∀ r2 k2, 0 ≤ r2 → r2 < hN G → 0 ≤ k2 → k2 < hS G r2 → TrC G s (μ 37) (μ 38) (μ 39) r2 k2) → R none μ) : ∀ (n : Nat) (r : Int) (μ : Mu) (o5 : Option PV), hN G - r = n → 0 ≤ r → (∀ q, q ≠ 37 → q ≠ 38 → q ≠ 39 → μ q = μ0 q) → (∀ r2 k2, 0 ≤ r2 → r2 < r → 0 ≤ k2 → k2 < hS G r2 → TrC G s (μ 37) (μ 38) (μ 39) r2 k2) → Wp 85 3 [some (vR 36), some (vR 8), some (vR 12), some (vR 31), some (vI r), o5] [] μ R := by
  intro n
  induction n with
  | zero =>
    intro r μ o5 hm h0 hF hA
    have hg := hg0.fr (fun q a1 a2 => hF q (by omega) (by omega) (by omega))
    have hs : SeC s (μ 31) := by rw [hF 31 (by decide) (by decide) (by decide)]; exact hs0
    have hn := hg.1.1.n
    have hc := hg.1
    refine seg 3 (show Wp 43 0 [some (vR 8)] [] μ (fun rr μ' => Wp 85 9 [some (vR 36), some (vR 8), some (vR 12), some (vR 31), some (vI r), o5] (rr.toList ++ [vI r]) μ' R) from ?_)
    refine g43 hc ?_
    refine seg 1 (show (hN G ≤ r → Wp 85 58 [some (vR 36), some (vR 8), some (vR 12), some (vR 31), some (vI r), o5] [] μ R) ∧ (¬ (hN G ≤ r) → Wp 85 12 [some (vR 36), some (vR 8), some (vR 12), some (vR 31), some (vI r), o5] [] μ R) from ⟨fun c1 => ?_, fun c1 => ?_⟩)
    ·
      refine seg 1 (show R none μ from ?_)
      first | (exfalso; omega) | exact hk μ hF (fun r2 k2 a1 a2 => hA r2 k2 a1 (by omega))
    ·
      refine seg 2 (show Wp 85 15 [some (vR 36), some (vR 8), some (vR 12), some (vR 31), some (vI r), some (vI 0)] [] μ R from ?_)
      exfalso; omega
  | succ n ih =>
    intro r μ o5 hm h0 hF hA
    have hg := hg0.fr (fun q a1 a2 => hF q (by omega) (by omega) (by omega))
    have hs : SeC s (μ 31) := by rw [hF 31 (by decide) (by decide) (by decide)]; exact hs0
    have hn := hg.1.1.n
    have hc := hg.1
    refine seg 3 (show Wp 43 0 [some (vR 8)] [] μ (fun rr μ' => Wp 85 9 [some (vR 36), some (vR 8), some (vR 12), some (vR 31), some (vI r), o5] (rr.toList ++ [vI r]) μ' R) from ?_)
    refine g43 hc ?_
    refine seg 1 (show (hN G ≤ r → Wp 85 58 [some (vR 36), some (vR 8), some (vR 12), some (vR 31), some (vI r), o5] [] μ R) ∧ (¬ (hN G ≤ r) → Wp 85 12 [some (vR 36), some (vR 8), some (vR 12), some (vR 31), some (vI r), o5] [] μ R) from ⟨fun c2 => ?_, fun c2 => ?_⟩)
    ·
      refine seg 1 (show R none μ from ?_)
      first | (exfalso; omega) | exact hk μ hF (fun r2 k2 a1 a2 => hA r2 k2 a1 (by omega))
    ·
      refine seg 2 (show Wp 85 15 [some (vR 36), some (vR 8), some (vR 12), some (vR 31), some (vI r), some (vI 0)] [] μ R from ?_)
      have hsr := hc.1.s (r := r) (by omega)
      refine l85a_36 hg0 hs0 hok (r := r) (by omega) (fun μ o5 hF hA => ?_) (hS G r).toNat 0 μ (by omega) (by decide) hF hA (fun k2 a1 a2 => absurd a2 (by omega))
      refine seg 2 (show iR (r + 1) ∧ Wp 85 3 [some (vR 36), some (vR 8), some (vR 12), some (vR 31), some (vI (r + 1)), o5] [] μ R from ⟨by omega, ?_⟩)
      exact ih (r + 1) μ _ (by omega) (by omega) hF hA
theorem s85_36 {G : Hi} {s : Se} {R : Po} {μ : Mu} (hg : PG G μ) (hs : SeC s (μ 31)) (hok : SeOK s) (hk : ∀ μ2 : Mu, (∀ q, q ≠ 37 → q ≠ 38 → q ≠ 39 → μ2 q = μ q) → (∀ r2 k2, 0 ≤ r2 → r2 < hN G → 0 ≤ k2 → k2 < hS G r2 → TrC G s (μ2 37) (μ2 38) (μ2 39) r2 k2) → R none μ2) : Wp 85 0 [some (vR 36), some (vR 8), some (vR 12), some (vR 31), none, none] [] μ R := by
  have hn := hg.1.1.n
  refine seg 2 (show Wp 85 3 [some (vR 36), some (vR 8), some (vR 12), some (vR 31), some (vI 0), none] [] μ R from ?_)
  exact l85_36 hg hs hok hk (hN G).toNat 0 μ _ (by omega) (by decide) (fun _ _ _ _ => rfl) (fun r2 k2 a1 a2 => absurd a2 (by omega))
theorem s110 {G : Hi} {s : Se} {R : Po} {μ : Mu} (hg : PG G μ) (hs : SeC s (μ 30)) (hok : SeOK s) (hk : ∀ μ2 : Mu, (∀ q, q ≠ 33 → q ≠ 34 → q ≠ 35 → μ2 q = μ q) → (∀ r2 k2, 0 ≤ r2 → r2 < hN G → 0 ≤ k2 → k2 < hS G r2 → TrC G s (μ2 33) (μ2 34) (μ2 35) r2 k2) → R none μ2) : Wp 110 0 [some (vR 0)] [] μ R := by
  refine seg 9 (show Wp 85 0 [some (vR 32), some (vR 8), some (vR 12), some (vR 30), none, none] [] μ (fun rr μ' => Wp 110 19 [some (vR 0)] (rr.toList ++ []) μ' R) from ?_)
  refine s85_32 hg hs hok (fun μ2 f1 f2 => ?_)
  refine seg 1 (show R none μ2 from ?_)
  exact hk μ2 f1 f2
