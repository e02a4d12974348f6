/-! the model's public methods: undone, seen, images -/
theorem d146 {G : Hi} {T : Tx} {s : Se} {U : Un} {im : Int → Option Se} {N : Sn} {R : Po} {μ : Mu} (hrm : RM G T s U im N μ) (h1 : U.1 = 0 → R (some (vI (-2))) μ) (h3 : 0 < U.1 → ∀ μ2 : Mu, RM G T (U.2 (U.1 - 1)) (U.1 - 1, U.2) im N μ2 → (∀ q, q < 47 → μ2 q = μ q) → R (some (vI (U.1 - 1))) μ2) : Wp 146 0 [some (vR 47), none] [] μ R := by
  have hg := hrm.1
  have hm := hg.1
  have h8 := hm.1.n
  have hs := hrm.2.1
  have hok := hrm.2.2.1
  have hu := hrm.2.2.2.2.1
  have hu1 := hu.1
  have hu2 := hu.2.1
  refine seg 3 (show (¬ (μ 47 8 = 0) → Wp 146 10 [some (vR 47), none] [] μ R) ∧ (μ 47 8 = 0 → Wp 146 7 [some (vR 47), none] [] μ R) from ⟨fun c1 => ?_, fun c1 => ?_⟩)
  ·
    refine seg 11 (show iR ((μ 47 8) - 1) ∧ (3 ≤ 0 → Wp 146 52 [some (vR 47), some (vI 0)] [] (u2 μ 47 8 ((μ 47 8) - 1)) R) ∧ (¬ (3 ≤ 0) → Wp 146 27 [some (vR 47), some (vI 0)] [] (u2 μ 47 8 ((μ 47 8) - 1)) R) from ⟨by omega, fun z => absurd z (by decide), fun _ => ?_⟩)
    refine seg 18 (show iR (3 * ((μ 47 8) - 1)) ∧ iR ((3 * ((μ 47 8) - 1)) + 0) ∧ (0 ≤ ((3 * ((μ 47 8) - 1)) + 0) ∧ ((3 * ((μ 47 8) - 1)) + 0) < 30) ∧ (0 ≤ 0 ∧ 0 < 3) ∧ iR (0 + 1) ∧ (3 ≤ 1 → Wp 146 52 [some (vR 47), some (vI 1)] [] (u2 (u2 μ 47 8 ((μ 47 8) - 1)) 53 0 (μ 54 ((3 * ((μ 47 8) - 1)) + 0))) R) ∧ (¬ (3 ≤ 1) → Wp 146 27 [some (vR 47), some (vI 1)] [] (u2 (u2 μ 47 8 ((μ 47 8) - 1)) 53 0 (μ 54 ((3 * ((μ 47 8) - 1)) + 0))) R) from ⟨by omega, by omega, by omega, by omega, by omega, fun z => absurd z (by decide), fun _ => ?_⟩)
    refine seg 18 (show iR (3 * ((μ 47 8) - 1)) ∧ iR ((3 * ((μ 47 8) - 1)) + 1) ∧ (0 ≤ ((3 * ((μ 47 8) - 1)) + 1) ∧ ((3 * ((μ 47 8) - 1)) + 1) < 30) ∧ (0 ≤ 1 ∧ 1 < 3) ∧ iR (1 + 1) ∧ (3 ≤ 2 → Wp 146 52 [some (vR 47), some (vI 2)] [] (u2 (u2 (u2 μ 47 8 ((μ 47 8) - 1)) 53 0 (μ 54 ((3 * ((μ 47 8) - 1)) + 0))) 53 1 (μ 54 ((3 * ((μ 47 8) - 1)) + 1))) R) ∧ (¬ (3 ≤ 2) → Wp 146 27 [some (vR 47), some (vI 2)] [] (u2 (u2 (u2 μ 47 8 ((μ 47 8) - 1)) 53 0 (μ 54 ((3 * ((μ 47 8) - 1)) + 0))) 53 1 (μ 54 ((3 * ((μ 47 8) - 1)) + 1))) R) from ⟨by omega, by omega, by omega, by omega, by omega, fun z => absurd z (by decide), fun _ => ?_⟩)
    refine seg 18 (show iR (3 * ((μ 47 8) - 1)) ∧ iR ((3 * ((μ 47 8) - 1)) + 2) ∧ (0 ≤ ((3 * ((μ 47 8) - 1)) + 2) ∧ ((3 * ((μ 47 8) - 1)) + 2) < 30) ∧ (0 ≤ 2 ∧ 2 < 3) ∧ iR (2 + 1) ∧ (3 ≤ 3 → Wp 146 52 [some (vR 47), some (vI 3)] [] (u2 (u2 (u2 (u2 μ 47 8 ((μ 47 8) - 1)) 53 0 (μ 54 ((3 * ((μ 47 8) - 1)) + 0))) 53 1 (μ 54 ((3 * ((μ 47 8) - 1)) + 1))) 53 2 (μ 54 ((3 * ((μ 47 8) - 1)) + 2))) R) ∧ (¬ (3 ≤ 3) → Wp 146 27 [some (vR 47), some (vI 3)] [] (u2 (u2 (u2 (u2 μ 47 8 ((μ 47 8) - 1)) 53 0 (μ 54 ((3 * ((μ 47 8) - 1)) + 0))) 53 1 (μ 54 ((3 * ((μ 47 8) - 1)) + 1))) 53 2 (μ 54 ((3 * ((μ 47 8) - 1)) + 2))) R) from ⟨by omega, by omega, by omega, by omega, by omega, fun _ => ?_, fun z => absurd z (by decide)⟩)
    refine seg 3 (show R (some (vI ((μ 47 8) - 1))) (u2 (u2 (u2 (u2 μ 47 8 ((μ 47 8) - 1)) 53 0 (μ 54 ((3 * ((μ 47 8) - 1)) + 0))) 53 1 (μ 54 ((3 * ((μ 47 8) - 1)) + 1))) 53 2 (μ 54 ((3 * ((μ 47 8) - 1)) + 2))) from ?_)
    obtain ⟨μ2, hμ2⟩ : ∃ z, z = u2 (u2 (u2 (u2 μ 47 8 ((μ 47 8) - 1)) 53 0 (μ 54 ((3 * ((μ 47 8) - 1)) + 0))) 53 1 (μ 54 ((3 * ((μ 47 8) - 1)) + 1))) 53 2 (μ 54 ((3 * ((μ 47 8) - 1)) + 2)) := ⟨_, rfl⟩
    rw [← hμ2, hu1]
    have hz := hu.2.2 (U.1 - 1) (by omega) (by omega)
    have e47 : μ2 47 = up1 (μ 47) 8 (U.1 - 1) := by rw [hμ2, u2_ne (by decide), u2_ne (by decide), u2_ne (by decide), u2_at, hu1]
    have e53 : μ2 53 = up1 (up1 (up1 (μ 53) 0 (μ 54 (3 * (U.1 - 1) + 0))) 1 (μ 54 (3 * (U.1 - 1) + 1))) 2 (μ 54 (3 * (U.1 - 1) + 2)) := by rw [hμ2, u2_at, u2_at, u2_at, u2_ne (by decide), hu1]
    have ee : ∀ q, q ≠ 47 → q ≠ 53 → μ2 q = μ q := fun q a b => by rw [hμ2, u2_ne b, u2_ne b, u2_ne b, u2_ne a]
    refine h3 (by omega) μ2 (rm_mk hrm (by rw [e47, up1_n (by decide)]) (fun q a b => ee q (by omega) (by omega)) ⟨?_, ?_, ?_⟩ hz.2.2.2 (hrm.2.2.2.1.fr (by rw [e47, up1_n (by decide)]) (ee 55 (by decide) (by decide))) ⟨by rw [e47, up1_s], ⟨by show 0 ≤ U.1 - 1; omega, by show U.1 - 1 ≤ 10; omega⟩, fun i a1 a2 => ?_⟩ (hrm.2.2.2.2.2.1.fr (ee 63 (by decide) (by decide)) (ee 64 (by decide) (by decide))) (hrm.2.2.2.2.2.2.fr (by rw [e47, up1_n (by decide)]) (ee 62 (by decide) (by decide)))) (fun q hq => ee q (by omega) (by omega))
    · rw [e53, up1_n (by decide), up1_n (by decide), up1_s]; exact hz.1
    · rw [e53, up1_n (by decide), up1_s]; exact hz.2.1
    · rw [e53, up1_s]; exact hz.2.2.1
    · have a2 : i < U.1 - 1 := a2
      rw [ee 54 (by decide) (by decide)]
      exact hu.2.2 i a1 (by omega)
  ·
    refine seg 2 (show R (some (vI (-2))) μ from ?_)
    exact h1 (by omega)
theorem d155 {G : Hi} {T : Tx} {s : Se} {U : Un} {im : Int → Option Se} {N : Sn} {R : Po} {μ : Mu} (hrm : RM G T s U im N μ) {r k f bb : Int} (h1 : ¬ (vLn G r k ∧ (0 ≤ f ∧ f < hN G) ∧ (0 ≤ bb ∧ bb ≤ 1)) → R (some (vI (-1))) μ) (h2 : (vLn G r k ∧ (0 ≤ f ∧ f < hN G) ∧ (0 ≤ bb ∧ bb ≤ 1)) → 6 ≤ N.1 → R (some (vI (-3))) μ) (h3 : (vLn G r k ∧ (0 ≤ f ∧ f < hN G) ∧ (0 ≤ bb ∧ bb ≤ 1)) → N.1 < 6 → ∀ μ2 : Mu, RM G T s U im (N.1 + 1, fun i => if i = N.1 then (r, k, f, bb) else N.2 i) μ2 → (∀ q, q < 47 → μ2 q = μ q) → R (some (vI (N.1 + 1))) μ2) : Wp 155 0 [some (vR 47), some (vI r), some (vI k), some (vI f), some (vI bb)] [] μ R := by
  have hg := hrm.1
  have hm := hg.1
  have h8 := hm.1.n
  have hs := hrm.2.1
  have hok := hrm.2.2.1
  have hu := hrm.2.2.2.2.1
  have hu1 := hu.1
  have hu2 := hu.2.1
  have hn0 := hrm.2.2.2.2.2.2
  have hn1 := hn0.1
  have hn2 := hn0.2.1
  refine seg 4 (show Wp 121 0 [some (vR 47), some (vI r), some (vI k)] [] μ (fun rr μ' => Wp 155 6 [some (vR 47), some (vI r), some (vI k), some (vI f), some (vI bb)] (rr.toList ++ []) μ' R) from ?_)
  refine n121 hm (fun b1 => ?_) (fun b1 => ?_)
  ·
    refine seg 1 (show (1 = 0 → Wp 155 28 [some (vR 47), some (vI r), some (vI k), some (vI f), some (vI bb)] [] μ R) ∧ (¬ (1 = 0) → Wp 155 9 [some (vR 47), some (vI r), some (vI k), some (vI f), some (vI bb)] [] μ R) from ⟨fun z => absurd z (by decide), fun _ => ?_⟩)
    refine seg 3 (show Wp 120 0 [some (vR 47), some (vI f)] [] μ (fun rr μ' => Wp 155 14 [some (vR 47), some (vI r), some (vI k), some (vI f), some (vI bb)] (rr.toList ++ []) μ' R) from ?_)
    refine n120 hm (fun b2 => ?_) (fun b2 => ?_)
    ·
      refine seg 1 (show (1 = 0 → Wp 155 28 [some (vR 47), some (vI r), some (vI k), some (vI f), some (vI bb)] [] μ R) ∧ (¬ (1 = 0) → Wp 155 17 [some (vR 47), some (vI r), some (vI k), some (vI f), some (vI bb)] [] μ R) from ⟨fun z => absurd z (by decide), fun _ => ?_⟩)
      refine seg 5 (show Wp 118 0 [some (vL bb), none, some (vL 0), none, some (vL 1), none] [] μ (fun rr μ' => Wp 155 25 [some (vR 47), some (vI r), some (vI k), some (vI f), some (vI bb)] (rr.toList ++ []) μ' R) from ?_)
      refine m118 (fun b3 => ?_) (fun b3 => ?_)
      ·
        refine seg 1 (show (¬ (1 = 0) → Wp 155 30 [some (vR 47), some (vI r), some (vI k), some (vI f), some (vI bb)] [] μ R) ∧ (1 = 0 → Wp 155 28 [some (vR 47), some (vI r), some (vI k), some (vI f), some (vI bb)] [] μ R) from ⟨fun _ => ?_, fun z => absurd z (by decide)⟩)
        refine seg 4 (show (¬ (μ 47 24 = 6) → Wp 155 42 [some (vR 47), some (vI r), some (vI k), some (vI f), some (vI bb)] [] μ R) ∧ (μ 47 24 = 6 → Wp 155 39 [some (vR 47), some (vI r), some (vI k), some (vI f), some (vI bb)] [] μ R) from ⟨fun c4 => ?_, fun c4 => ?_⟩)
        ·
          refine seg 47 (show iR (4 * (μ 47 24)) ∧ (0 ≤ (4 * (μ 47 24)) ∧ (4 * (μ 47 24)) < 24) ∧ iR (4 * (μ 47 24)) ∧ iR ((4 * (μ 47 24)) + 1) ∧ (0 ≤ ((4 * (μ 47 24)) + 1) ∧ ((4 * (μ 47 24)) + 1) < 24) ∧ iR (4 * (μ 47 24)) ∧ iR ((4 * (μ 47 24)) + 2) ∧ (0 ≤ ((4 * (μ 47 24)) + 2) ∧ ((4 * (μ 47 24)) + 2) < 24) ∧ iR (4 * (μ 47 24)) ∧ iR ((4 * (μ 47 24)) + 3) ∧ (0 ≤ ((4 * (μ 47 24)) + 3) ∧ ((4 * (μ 47 24)) + 3) < 24) ∧ iR ((μ 47 24) + 1) ∧ R (some (vI ((μ 47 24) + 1))) (u2 (u2 (u2 (u2 (u2 μ 62 (4 * (μ 47 24)) r) 62 ((4 * (μ 47 24)) + 1) k) 62 ((4 * (μ 47 24)) + 2) f) 62 ((4 * (μ 47 24)) + 3) bb) 47 24 ((μ 47 24) + 1)) from ⟨by omega, by omega, by omega, by omega, by omega, by omega, by omega, by omega, by omega, by omega, by omega, by omega, ?_⟩)
          obtain ⟨μ2, hμ2⟩ : ∃ z, z = u2 (u2 (u2 (u2 (u2 μ 62 (4 * (μ 47 24)) r) 62 ((4 * (μ 47 24)) + 1) k) 62 ((4 * (μ 47 24)) + 2) f) 62 ((4 * (μ 47 24)) + 3) bb) 47 24 ((μ 47 24) + 1) := ⟨_, rfl⟩
          rw [← hμ2, hn1]
          have e47 : μ2 47 = up1 (μ 47) 24 (N.1 + 1) := by rw [hμ2, u2_at, u2_ne (by decide), u2_ne (by decide), u2_ne (by decide), u2_ne (by decide), hn1]
          have e62 : μ2 62 = up1 (up1 (up1 (up1 (μ 62) (4 * N.1) r) (4 * N.1 + 1) k) (4 * N.1 + 2) f) (4 * N.1 + 3) bb := by rw [hμ2, u2_ne (by decide), u2_at, u2_at, u2_at, u2_at, hn1]
          have ee : ∀ q, q ≠ 47 → q ≠ 62 → μ2 q = μ q := fun q a b => by rw [hμ2, u2_ne a, u2_ne b, u2_ne b, u2_ne b, u2_ne b]
          refine h3 (by omega) (by omega) μ2 (rm_mk hrm (by rw [e47, up1_n (by decide)]) (fun q a b => ee q (by omega) (by omega)) (by rw [ee 53 (by decide) (by decide)]; exact hs) hok (hrm.2.2.2.1.fr (by rw [e47, up1_n (by decide)]) (ee 55 (by decide) (by decide))) (hu.fr (by rw [e47, up1_n (by decide)]) (ee 54 (by decide) (by decide))) (hrm.2.2.2.2.2.1.fr (ee 63 (by decide) (by decide)) (ee 64 (by decide) (by decide))) ⟨by rw [e47, up1_s], ⟨by show 0 ≤ N.1 + 1; omega, by show N.1 + 1 ≤ 6; omega⟩, fun i a1 a2 => ?_⟩) (fun q hq => ee q (by omega) (by omega))
          have a2 : i < N.1 + 1 := a2
          rw [e62]
          show _ = (if i = N.1 then (r, k, f, bb) else N.2 i).1 ∧ _ = (if i = N.1 then (r, k, f, bb) else N.2 i).2.1 ∧ _ = (if i = N.1 then (r, k, f, bb) else N.2 i).2.2.1 ∧ _ = (if i = N.1 then (r, k, f, bb) else N.2 i).2.2.2 ∧ SnOK G (if i = N.1 then (r, k, f, bb) else N.2 i)
          by_cases hi : i = N.1
          · rw [if_pos hi, hi, up1_n (by omega), up1_n (by omega), up1_n (by omega), up1_s, up1_n (by omega), up1_n (by omega), up1_s, up1_n (by omega), up1_s, up1_s]
            exact ⟨rfl, rfl, rfl, rfl, ⟨by show 0 ≤ r ∧ r < hN G; omega, by show 0 ≤ k ∧ k < hS G r; omega, by show 0 ≤ f ∧ f < hN G; omega, by show bb = 0 ∨ bb = 1; omega⟩⟩
          · have q : ∀ y, (y < 4 * N.1 ∨ 4 * N.1 + 3 < y) → up1 (up1 (up1 (up1 (μ 62) (4 * N.1) r) (4 * N.1 + 1) k) (4 * N.1 + 2) f) (4 * N.1 + 3) bb y = μ 62 y := fun y hy => by rw [up1_n (by omega), up1_n (by omega), up1_n (by omega), up1_n (by omega)]
            rw [if_neg hi, q _ (by omega), q _ (by omega), q _ (by omega), q _ (by omega)]
            exact hn0.2.2 i a1 (by omega)
        ·
          refine seg 2 (show R (some (vI (-3))) μ from ?_)
          exact h2 (by omega) (by omega)
      ·
        refine seg 1 (show (¬ (0 = 0) → Wp 155 30 [some (vR 47), some (vI r), some (vI k), some (vI f), some (vI bb)] [] μ R) ∧ (0 = 0 → Wp 155 28 [some (vR 47), some (vI r), some (vI k), some (vI f), some (vI bb)] [] μ R) from ⟨fun z => absurd z (by decide), fun _ => ?_⟩)
        refine seg 2 (show R (some (vI (-1))) μ from ?_)
        exact h1 (by omega)
    ·
      refine seg 1 (show (0 = 0 → Wp 155 28 [some (vR 47), some (vI r), some (vI k), some (vI f), some (vI bb)] [] μ R) ∧ (¬ (0 = 0) → Wp 155 17 [some (vR 47), some (vI r), some (vI k), some (vI f), some (vI bb)] [] μ R) from ⟨fun _ => ?_, fun z => absurd z (by decide)⟩)
      refine seg 2 (show R (some (vI (-1))) μ from ?_)
      exact h1 (by omega)
  ·
    refine seg 1 (show (0 = 0 → Wp 155 28 [some (vR 47), some (vI r), some (vI k), some (vI f), some (vI bb)] [] μ R) ∧ (¬ (0 = 0) → Wp 155 9 [some (vR 47), some (vI r), some (vI k), some (vI f), some (vI bb)] [] μ R) from ⟨fun _ => ?_, fun z => absurd z (by decide)⟩)
    refine seg 2 (show R (some (vI (-1))) μ from ?_)
    exact h1 (by omega)
theorem l157 {G : Hi} {s : Se} {N : Sn} {R : Po} {μ : Mu} (hG : HiOK G) (hN0 : RMN G N μ) (hT : ∀ r2 k2, 0 ≤ r2 → r2 < hN G → 0 ≤ k2 → k2 < hS G r2 → TrM G s (μ 60) (μ 61) r2 k2) (hy : SO G s N N.1 → R (some (vI 1)) μ) (hn : ¬ SO G s N N.1 → R (some (vI 0)) μ) : ∀ (n : Nat) (i ff : Int) (o3 : Option PV), N.1 - i = n → 0 ≤ i → ((ff = 1 ∧ SO G s N i) ∨ (ff = 0 ∧ ¬ SO G s N N.1)) → Wp 157 8 [some (vR 47), some (vI ff), some (vI i), o3] [] μ R := by
  have hn1 := hN0.1
  have hn2 := hN0.2.1
  have hn8 := hG.n
  intro n
  induction n with
  | zero =>
    intro i ff o3 hm h0 hS
    rcases hS with ⟨rfl, hS⟩ | ⟨rfl, hS⟩
    ·
      refine seg 4 (show (μ 47 24 ≤ i → Wp 157 104 [some (vR 47), some (vI 1), some (vI i), o3] [] μ R) ∧ (¬ (μ 47 24 ≤ i) → Wp 157 16 [some (vR 47), some (vI 1), some (vI i), o3] [] μ R) from ⟨fun c1 => ?_, fun c1 => ?_⟩)
      ·
        refine seg 2 (show (1 = 0 ∨ 1 = 1) ∧ R (some (vI 1)) μ from ⟨by decide, ?_⟩)
        first | (exfalso; omega) | (obtain rfl : i = N.1 := (by omega); exact hy hS)
      ·
        exfalso; omega
    ·
      refine seg 4 (show (μ 47 24 ≤ i → Wp 157 104 [some (vR 47), some (vI 0), some (vI i), o3] [] μ R) ∧ (¬ (μ 47 24 ≤ i) → Wp 157 16 [some (vR 47), some (vI 0), some (vI i), o3] [] μ R) from ⟨fun c41 => ?_, fun c41 => ?_⟩)
      ·
        refine seg 2 (show (0 = 0 ∨ 0 = 1) ∧ R (some (vI 0)) μ from ⟨by decide, ?_⟩)
        first | (exfalso; omega) | exact hn hS
      ·
        exfalso; omega
  | succ n ih =>
    intro i ff o3 hm h0 hS
    obtain ⟨z0, z1, z2, z3, z4⟩ := hN0.2.2 i h0 (by omega)
    obtain ⟨y1, y2, y3, y4⟩ := z4
    have hsz := hG.s y1
    have hog := og_lt hG s y1 y2
    have et : μ 60 (8 * μ 62 (4 * i) + μ 62 (4 * i + 1)) = (og G s (N.2 i).1 (N.2 i).2.1).1 := by
      rw [z0, z1]; exact (hT _ _ y1.1 y1.2 y2.1 y2.2).1
    rcases hS with ⟨rfl, hS⟩ | ⟨rfl, hS⟩
    ·
      refine seg 4 (show (μ 47 24 ≤ i → Wp 157 104 [some (vR 47), some (vI 1), some (vI i), o3] [] μ R) ∧ (¬ (μ 47 24 ≤ i) → Wp 157 16 [some (vR 47), some (vI 1), some (vI i), o3] [] μ R) from ⟨fun c1 => ?_, fun c1 => ?_⟩)
      ·
        refine seg 2 (show (1 = 0 ∨ 1 = 1) ∧ R (some (vI 1)) μ from ⟨by decide, ?_⟩)
        first | (exfalso; omega) | (obtain rfl : i = N.1 := (by omega); exact hy hS)
      ·
        refine seg 31 (show iR (4 * i) ∧ (0 ≤ (4 * i) ∧ (4 * i) < 24) ∧ iR (8 * (μ 62 (4 * i))) ∧ iR (4 * i) ∧ iR ((4 * i) + 1) ∧ (0 ≤ ((4 * i) + 1) ∧ ((4 * i) + 1) < 24) ∧ iR ((8 * (μ 62 (4 * i))) + (μ 62 ((4 * i) + 1))) ∧ (0 ≤ ((8 * (μ 62 (4 * i))) + (μ 62 ((4 * i) + 1))) ∧ ((8 * (μ 62 (4 * i))) + (μ 62 ((4 * i) + 1))) < 64) ∧ (0 ≤ (μ 60 ((8 * (μ 62 (4 * i))) + (μ 62 ((4 * i) + 1)))) ∧ 0 < 8) ∧ iR (4 * i) ∧ iR ((4 * i) + 2) ∧ (0 ≤ ((4 * i) + 2) ∧ ((4 * i) + 2) < 24) ∧ (¬ ((μ 60 ((8 * (μ 62 (4 * i))) + (μ 62 ((4 * i) + 1)))) / 8 = μ 62 ((4 * i) + 2)) → Wp 157 63 [some (vR 47), some (vI 1), some (vI i), o3] [] μ R) ∧ ((μ 60 ((8 * (μ 62 (4 * i))) + (μ 62 ((4 * i) + 1)))) / 8 = μ 62 ((4 * i) + 2) → Wp 157 59 [some (vR 47), some (vI 1), some (vI i), o3] [] μ R) from ⟨by omega, by omega, by omega, by omega, by omega, by omega, by omega, by omega, by omega, by omega, by omega, by omega, fun c2 => ?_, fun c2 => ?_⟩)
        ·
          refine seg 4 (show (1 = 0 → Wp 157 96 [some (vR 47), some (vI 1), some (vI i), some (vI 0)] [] μ R) ∧ (¬ (1 = 0) → Wp 157 69 [some (vR 47), some (vI 1), some (vI i), some (vI 0)] [] μ R) from ⟨fun z => absurd z (by decide), fun _ => ?_⟩)
          refine seg 11 (show iR (4 * i) ∧ iR ((4 * i) + 3) ∧ (0 ≤ ((4 * i) + 3) ∧ ((4 * i) + 3) < 24) ∧ (¬ (μ 62 ((4 * i) + 3) = 1) → Wp 157 88 [some (vR 47), some (vI 1), some (vI i), some (vI 0)] [vI 0] μ R) ∧ (μ 62 ((4 * i) + 3) = 1 → Wp 157 84 [some (vR 47), some (vI 1), some (vI i), some (vI 0)] [vI 0] μ R) from ⟨by omega, by omega, by omega, fun c3 => ?_, fun c3 => ?_⟩)
          ·
            refine seg 2 (show (¬ (0 = 0) → Wp 157 96 [some (vR 47), some (vI 1), some (vI i), some (vI 0)] [] μ R) ∧ (0 = 0 → Wp 157 92 [some (vR 47), some (vI 1), some (vI i), some (vI 0)] [] μ R) from ⟨fun z => absurd z (by decide), fun _ => ?_⟩)
            refine seg 5 (show iR (i + 1) ∧ Wp 157 8 [some (vR 47), some (vI 1), some (vI (i + 1)), some (vI 0)] [] μ R from ⟨by omega, ?_⟩)
            first
            | exact ih (i + 1) _ _ (by omega) (by omega) (Or.inl ⟨rfl, fun x a1 a2 => by
                by_cases hx : x = i
                · subst hx; rw [← z2, ← z3]; constructor <;> intro _ <;> omega
                · exact hS x a1 (by omega)⟩)
            | exact ih (i + 1) _ _ (by omega) (by omega) (Or.inr ⟨rfl, fun z => by have := z i h0 (by omega); rw [← z2, ← z3] at this; omega⟩)
          ·
            refine seg 3 (show (¬ (0 = 1) → Wp 157 96 [some (vR 47), some (vI 1), some (vI i), some (vI 0)] [] μ R) ∧ (0 = 1 → Wp 157 92 [some (vR 47), some (vI 1), some (vI i), some (vI 0)] [] μ R) from ⟨fun _ => ?_, fun z => absurd z (by decide)⟩)
            refine seg 4 (show iR (i + 1) ∧ Wp 157 8 [some (vR 47), some (vI 0), some (vI (i + 1)), some (vI 0)] [] μ R from ⟨by omega, ?_⟩)
            first
            | exact ih (i + 1) _ _ (by omega) (by omega) (Or.inl ⟨rfl, fun x a1 a2 => by
                by_cases hx : x = i
                · subst hx; rw [← z2, ← z3]; constructor <;> intro _ <;> omega
                · exact hS x a1 (by omega)⟩)
            | exact ih (i + 1) _ _ (by omega) (by omega) (Or.inr ⟨rfl, fun z => by have := z i h0 (by omega); rw [← z2, ← z3] at this; omega⟩)
        ·
          refine seg 5 (show (1 = 0 → Wp 157 96 [some (vR 47), some (vI 1), some (vI i), some (vI 1)] [] μ R) ∧ (¬ (1 = 0) → Wp 157 69 [some (vR 47), some (vI 1), some (vI i), some (vI 1)] [] μ R) from ⟨fun z => absurd z (by decide), fun _ => ?_⟩)
          refine seg 11 (show iR (4 * i) ∧ iR ((4 * i) + 3) ∧ (0 ≤ ((4 * i) + 3) ∧ ((4 * i) + 3) < 24) ∧ (¬ (μ 62 ((4 * i) + 3) = 1) → Wp 157 88 [some (vR 47), some (vI 1), some (vI i), some (vI 1)] [vI 1] μ R) ∧ (μ 62 ((4 * i) + 3) = 1 → Wp 157 84 [some (vR 47), some (vI 1), some (vI i), some (vI 1)] [vI 1] μ R) from ⟨by omega, by omega, by omega, fun c4 => ?_, fun c4 => ?_⟩)
          ·
            refine seg 2 (show (¬ (1 = 0) → Wp 157 96 [some (vR 47), some (vI 1), some (vI i), some (vI 1)] [] μ R) ∧ (1 = 0 → Wp 157 92 [some (vR 47), some (vI 1), some (vI i), some (vI 1)] [] μ R) from ⟨fun _ => ?_, fun z => absurd z (by decide)⟩)
            refine seg 4 (show iR (i + 1) ∧ Wp 157 8 [some (vR 47), some (vI 0), some (vI (i + 1)), some (vI 1)] [] μ R from ⟨by omega, ?_⟩)
            first
            | exact ih (i + 1) _ _ (by omega) (by omega) (Or.inl ⟨rfl, fun x a1 a2 => by
                by_cases hx : x = i
                · subst hx; rw [← z2, ← z3]; constructor <;> intro _ <;> omega
                · exact hS x a1 (by omega)⟩)
            | exact ih (i + 1) _ _ (by omega) (by omega) (Or.inr ⟨rfl, fun z => by have := z i h0 (by omega); rw [← z2, ← z3] at this; omega⟩)
          ·
            refine seg 3 (show (¬ (1 = 1) → Wp 157 96 [some (vR 47), some (vI 1), some (vI i), some (vI 1)] [] μ R) ∧ (1 = 1 → Wp 157 92 [some (vR 47), some (vI 1), some (vI i), some (vI 1)] [] μ R) from ⟨fun z => absurd z (by decide), fun _ => ?_⟩)
            refine seg 5 (show iR (i + 1) ∧ Wp 157 8 [some (vR 47), some (vI 1), some (vI (i + 1)), some (vI 1)] [] μ R from ⟨by omega, ?_⟩)
            first
            | exact ih (i + 1) _ _ (by omega) (by omega) (Or.inl ⟨rfl, fun x a1 a2 => by
                by_cases hx : x = i
                · subst hx; rw [← z2, ← z3]; constructor <;> intro _ <;> omega
                · exact hS x a1 (by omega)⟩)
            | exact ih (i + 1) _ _ (by omega) (by omega) (Or.inr ⟨rfl, fun z => by have := z i h0 (by omega); rw [← z2, ← z3] at this; omega⟩)
    ·
      refine seg 4 (show (μ 47 24 ≤ i → Wp 157 104 [some (vR 47), some (vI 0), some (vI i), o3] [] μ R) ∧ (¬ (μ 47 24 ≤ i) → Wp 157 16 [some (vR 47), some (vI 0), some (vI i), o3] [] μ R) from ⟨fun c41 => ?_, fun c41 => ?_⟩)
      ·
        refine seg 2 (show (0 = 0 ∨ 0 = 1) ∧ R (some (vI 0)) μ from ⟨by decide, ?_⟩)
        first | (exfalso; omega) | exact hn hS
      ·
        refine seg 31 (show iR (4 * i) ∧ (0 ≤ (4 * i) ∧ (4 * i) < 24) ∧ iR (8 * (μ 62 (4 * i))) ∧ iR (4 * i) ∧ iR ((4 * i) + 1) ∧ (0 ≤ ((4 * i) + 1) ∧ ((4 * i) + 1) < 24) ∧ iR ((8 * (μ 62 (4 * i))) + (μ 62 ((4 * i) + 1))) ∧ (0 ≤ ((8 * (μ 62 (4 * i))) + (μ 62 ((4 * i) + 1))) ∧ ((8 * (μ 62 (4 * i))) + (μ 62 ((4 * i) + 1))) < 64) ∧ (0 ≤ (μ 60 ((8 * (μ 62 (4 * i))) + (μ 62 ((4 * i) + 1)))) ∧ 0 < 8) ∧ iR (4 * i) ∧ iR ((4 * i) + 2) ∧ (0 ≤ ((4 * i) + 2) ∧ ((4 * i) + 2) < 24) ∧ (¬ ((μ 60 ((8 * (μ 62 (4 * i))) + (μ 62 ((4 * i) + 1)))) / 8 = μ 62 ((4 * i) + 2)) → Wp 157 63 [some (vR 47), some (vI 0), some (vI i), o3] [] μ R) ∧ ((μ 60 ((8 * (μ 62 (4 * i))) + (μ 62 ((4 * i) + 1)))) / 8 = μ 62 ((4 * i) + 2) → Wp 157 59 [some (vR 47), some (vI 0), some (vI i), o3] [] μ R) from ⟨by omega, by omega, by omega, by omega, by omega, by omega, by omega, by omega, by omega, by omega, by omega, by omega, fun c42 => ?_, fun c42 => ?_⟩)
        ·
          refine seg 4 (show (0 = 0 → Wp 157 96 [some (vR 47), some (vI 0), some (vI i), some (vI 0)] [] μ R) ∧ (¬ (0 = 0) → Wp 157 69 [some (vR 47), some (vI 0), some (vI i), some (vI 0)] [] μ R) from ⟨fun _ => ?_, fun z => absurd z (by decide)⟩)
          refine seg 4 (show iR (i + 1) ∧ Wp 157 8 [some (vR 47), some (vI 0), some (vI (i + 1)), some (vI 0)] [] μ R from ⟨by omega, ?_⟩)
          exact ih (i + 1) _ _ (by omega) (by omega) (Or.inr ⟨rfl, hS⟩)
        ·
          refine seg 5 (show (0 = 0 → Wp 157 96 [some (vR 47), some (vI 0), some (vI i), some (vI 1)] [] μ R) ∧ (¬ (0 = 0) → Wp 157 69 [some (vR 47), some (vI 0), some (vI i), some (vI 1)] [] μ R) from ⟨fun _ => ?_, fun z => absurd z (by decide)⟩)
          refine seg 4 (show iR (i + 1) ∧ Wp 157 8 [some (vR 47), some (vI 0), some (vI (i + 1)), some (vI 1)] [] μ R from ⟨by omega, ?_⟩)
          exact ih (i + 1) _ _ (by omega) (by omega) (Or.inr ⟨rfl, hS⟩)
theorem n157 {G : Hi} {s : Se} {N : Sn} {R : Po} {μ : Mu} (hg : MG G μ) (hs : SeC s (μ 53)) (hok : SeOK s) (hN0 : RMN G N μ) (hy : SO G s N N.1 → ∀ μ1 : Mu, (∀ q, q ≠ 60 → q ≠ 61 → μ1 q = μ q) → R (some (vI 1)) μ1) (hn : ¬ SO G s N N.1 → ∀ μ1 : Mu, (∀ q, q ≠ 60 → q ≠ 61 → μ1 q = μ q) → R (some (vI 0)) μ1) : Wp 157 0 [some (vR 47), none, none, none] [] μ R := by
  refine seg 2 (show Wp 139 0 [some (vR 47), none, none, none, none] [] μ (fun rr μ' => Wp 157 4 [some (vR 47), none, none, none] (rr.toList ++ []) μ' R) from ?_)
  refine n139 hg hs hok (fun μ1 f1 t1 => ?_)
  refine seg 4 (show Wp 157 8 [some (vR 47), some (vI 1), some (vI 0), none] [] μ1 R from ?_)
  exact l157 hg.1.1 (hN0.fr (by rw [f1 47 (by decide) (by decide)]) (f1 62 (by decide) (by decide))) t1 (fun z => hy z μ1 f1) (fun z => hn z μ1 f1) N.1.toNat 0 1 none (by have := hN0.2.1; omega) (by decide) (Or.inl ⟨rfl, fun x a1 a2 => absurd a2 (by omega)⟩)
theorem xr_xr {x r : Int} (hx : 0 ≤ x) : xr (xr x r) r = x := by
  unfold xr
  rw [Int.toNat_natCast, Nat.xor_assoc, Nat.xor_self, Nat.xor_zero]
  omega
theorem l158 {G : Hi} {T : Tx} {s : Se} {U : Un} {im : Int → Option Se} {N : Sn} {R : Po} {μ0 : Mu} (hrm0 : RM G T s U im N μ0) (hk : ∀ μ2 : Mu, RM G T s U im N μ2 → (∀ q, q < 47 → μ2 q = μ0 q) → R (some (vI (aUns G s N))) μ2) : ∀ (n r : Nat) (μ : Mu), hN G - (r : Int) = n → RM G T s U im N μ → (∀ q, q < 47 → μ q = μ0 q) → Wp 158 4 [some (vR 47), some (vI (bs (fun r => SO G (tP s r) N N.1) r)), some (vI (r : Int))] [] μ R := by
  intro n
  induction n with
  | zero =>
    intro r μ hn0 hrm hF
    have hg := hrm.1
    have hm := hg.1
    have h8 := hm.1.n
    have hs := hrm.2.1
    have hok := hrm.2.2.1
    have hu := hrm.2.2.2.2.1
    have hu1 := hu.1
    have hu2 := hu.2.1
    have e0 := hm.2.1
    have hp : r < 8 → 1 * 2 ^ ((r : Int)).toNat ≤ (128 : Int) ∧ (0 : Int) ≤ 1 * 2 ^ ((r : Int)).toNat := fun z => pw_le (k := (r : Int)) (by omega)
    have hb := bs_nn (fun r => SO G (tP s r) N N.1) r
    have hb1 := hok.2.1
    have hs1 := hs.2.1
    refine seg 4 (show (μ 47 0 ≤ (r : Int) → Wp 158 59 [some (vR 47), some (vI (bs (fun r => SO G (tP s r) N N.1) r)), some (vI (r : Int))] [] μ R) ∧ (¬ (μ 47 0 ≤ (r : Int)) → Wp 158 12 [some (vR 47), some (vI (bs (fun r => SO G (tP s r) N N.1) r)), some (vI (r : Int))] [] μ R) from ⟨fun c1 => ?_, fun c1 => ?_⟩)
    ·
      refine seg 2 (show R (some (vI (bs (fun r => SO G (tP s r) N N.1) r))) μ from ?_)
      first | (exfalso; omega) | (have z := hk μ hrm hF; unfold aUns at z; rw [show (hN G).toNat = r by omega] at z; exact z)
    ·
      refine seg 13 (show (0 ≤ 1 ∧ 1 < 3) ∧ (0 ≤ 1 ∧ 0 ≤ (r : Int) ∧ (r : Int) < 31 ∧ 1 * 2 ^ ((r : Int) : Int).toNat ≤ 2147483647) ∧ (0 ≤ (μ 53 1) ∧ 0 ≤ (1 * 2 ^ ((r : Int) : Int).toNat)) ∧ (0 ≤ 1 ∧ 1 < 3) ∧ Wp 157 0 [some (vR 47), none, none, none] [] (u2 μ 53 1 ((Int.toNat (μ 53 1) ^^^ Int.toNat (1 * 2 ^ ((r : Int) : Int).toNat) : Nat) : Int)) (fun rr μ' => Wp 158 29 [some (vR 47), some (vI (bs (fun r => SO G (tP s r) N N.1) r)), some (vI (r : Int))] (rr.toList ++ [vI (bs (fun r => SO G (tP s r) N N.1) r)]) μ' R) from ⟨by omega, by omega, by omega, by omega, ?_⟩)
      exfalso; omega
  | succ n ih =>
    intro r μ hn0 hrm hF
    have hg := hrm.1
    have hm := hg.1
    have h8 := hm.1.n
    have hs := hrm.2.1
    have hok := hrm.2.2.1
    have hu := hrm.2.2.2.2.1
    have hu1 := hu.1
    have hu2 := hu.2.1
    have e0 := hm.2.1
    have hp : r < 8 → 1 * 2 ^ ((r : Int)).toNat ≤ (128 : Int) ∧ (0 : Int) ≤ 1 * 2 ^ ((r : Int)).toNat := fun z => pw_le (k := (r : Int)) (by omega)
    have hb := bs_nn (fun r => SO G (tP s r) N N.1) r
    have hb1 := hok.2.1
    have hs1 := hs.2.1
    refine seg 4 (show (μ 47 0 ≤ (r : Int) → Wp 158 59 [some (vR 47), some (vI (bs (fun r => SO G (tP s r) N N.1) r)), some (vI (r : Int))] [] μ R) ∧ (¬ (μ 47 0 ≤ (r : Int)) → Wp 158 12 [some (vR 47), some (vI (bs (fun r => SO G (tP s r) N N.1) r)), some (vI (r : Int))] [] μ R) from ⟨fun c2 => ?_, fun c2 => ?_⟩)
    ·
      refine seg 2 (show R (some (vI (bs (fun r => SO G (tP s r) N N.1) r))) μ from ?_)
      first | (exfalso; omega) | (have z := hk μ hrm hF; unfold aUns at z; rw [show (hN G).toNat = r by omega] at z; exact z)
    ·
      refine seg 13 (show (0 ≤ 1 ∧ 1 < 3) ∧ (0 ≤ 1 ∧ 0 ≤ (r : Int) ∧ (r : Int) < 31 ∧ 1 * 2 ^ ((r : Int) : Int).toNat ≤ 2147483647) ∧ (0 ≤ (μ 53 1) ∧ 0 ≤ (1 * 2 ^ ((r : Int) : Int).toNat)) ∧ (0 ≤ 1 ∧ 1 < 3) ∧ Wp 157 0 [some (vR 47), none, none, none] [] (u2 μ 53 1 ((Int.toNat (μ 53 1) ^^^ Int.toNat (1 * 2 ^ ((r : Int) : Int).toNat) : Nat) : Int)) (fun rr μ' => Wp 158 29 [some (vR 47), some (vI (bs (fun r => SO G (tP s r) N N.1) r)), some (vI (r : Int))] (rr.toList ++ [vI (bs (fun r => SO G (tP s r) N N.1) r)]) μ' R) from ⟨by omega, by omega, by omega, by omega, ?_⟩)
      obtain ⟨μ1, hμ1⟩ : ∃ z, z = u2 μ 53 1 ((Int.toNat (μ 53 1) ^^^ Int.toNat (1 * 2 ^ ((r : Int) : Int).toNat) : Nat) : Int) := ⟨_, rfl⟩
      rw [← hμ1]
      have e1 : ∀ q, q ≠ 53 → μ1 q = μ q := fun q a => by rw [hμ1, u2_ne a]
      have hs2 : SeC (tP s (r : Int)) (μ1 53) := by
        rw [hμ1, u2_at]
        refine ⟨by rw [up1_n (by decide)]; exact hs.1, ?_, by rw [up1_n (by decide)]; exact hs.2.2⟩
        rw [up1_s, hs.2.1]; rfl
      have hx1 : μ1 53 1 = xr s.2.1 (r : Int) := hs2.2.1
      have hxb := xr_rg hok.2.1 (r := (r : Int)) (by omega)
      refine n157 (hg.fr (by rw [e1 47 (by decide)]) (e1 48 (by decide)) (e1 49 (by decide)) (e1 50 (by decide)) (e1 51 (by decide)) (e1 52 (by decide))) hs2 (tP_ok hok (by omega)) (hrm.2.2.2.2.2.2.fr (by rw [e1 47 (by decide)]) (e1 62 (by decide))) (fun b9 μ2 f2 => ?_) (fun b9 μ2 f2 => ?_)
      ·
        have hx2 : μ2 53 1 = xr s.2.1 (r : Int) := by rw [f2 53 (by decide) (by decide)]; exact hx1
        refine seg 1 (show (1 = 0 → Wp 158 38 [some (vR 47), some (vI (bs (fun r => SO G (tP s r) N N.1) r)), some (vI (r : Int))] [vI (bs (fun r => SO G (tP s r) N N.1) r)] μ2 R) ∧ (¬ (1 = 0) → Wp 158 32 [some (vR 47), some (vI (bs (fun r => SO G (tP s r) N N.1) r)), some (vI (r : Int))] [vI (bs (fun r => SO G (tP s r) N N.1) r)] μ2 R) from ⟨fun z => absurd z (by decide), fun _ => ?_⟩)
        refine seg 18 (show (0 ≤ 1 ∧ 0 ≤ (r : Int) ∧ (r : Int) < 31 ∧ 1 * 2 ^ ((r : Int) : Int).toNat ≤ 2147483647) ∧ (0 ≤ (bs (fun r => SO G (tP s r) N N.1) r) ∧ 0 ≤ (1 * 2 ^ ((r : Int) : Int).toNat)) ∧ (0 ≤ 1 ∧ 1 < 3) ∧ (0 ≤ 1 ∧ 0 ≤ (r : Int) ∧ (r : Int) < 31 ∧ 1 * 2 ^ ((r : Int) : Int).toNat ≤ 2147483647) ∧ (0 ≤ (μ2 53 1) ∧ 0 ≤ (1 * 2 ^ ((r : Int) : Int).toNat)) ∧ (0 ≤ 1 ∧ 1 < 3) ∧ iR ((r : Int) + 1) ∧ Wp 158 4 [some (vR 47), some (vI ((Int.toNat (bs (fun r => SO G (tP s r) N N.1) r) ||| Int.toNat (1 * 2 ^ ((r : Int) : Int).toNat) : Nat) : Int)), some (vI ((r : Int) + 1))] [] (u2 μ2 53 1 ((Int.toNat (μ2 53 1) ^^^ Int.toNat (1 * 2 ^ ((r : Int) : Int).toNat) : Nat) : Int)) R from ⟨by omega, by omega, by omega, by omega, by omega, by omega, by omega, ?_⟩)
        obtain ⟨μ3, hμ3⟩ : ∃ z, z = u2 μ2 53 1 ((Int.toNat (μ2 53 1) ^^^ Int.toNat (1 * 2 ^ ((r : Int) : Int).toNat) : Nat) : Int) := ⟨_, rfl⟩
        rw [← hμ3]
        have e53 : μ3 53 = μ 53 := by
          rw [hμ3, u2_at, f2 53 (by decide) (by decide), hμ1, u2_at]
          funext j
          by_cases hj : j = 1
          · subst hj
            have : ∀ (g : Int → Int) (x : Int), up1 (up1 g 1 x) 1 ((Int.toNat (up1 g 1 x 1) ^^^ Int.toNat (1 * 2 ^ ((r : Int)).toNat) : Nat) : Int) 1 = xr x (r : Int) := fun g x => by rw [up1_s, up1_s]; rfl
            rw [this]
            show xr (xr (μ 53 1) (r : Int)) (r : Int) = _
            exact xr_xr (by omega)
          · rw [up1_n hj, up1_n hj]
        have e3 : ∀ q, q ≠ 53 → q ≠ 60 → q ≠ 61 → μ3 q = μ q := fun q a b c => by rw [hμ3, u2_ne a, f2 q b c, e1 q a]
        have hrm3 : RM G T s U im N μ3 := hrm.fr (fun q a1 a2 a3 a4 a5 a6 a7 => by
          by_cases hq : q = 53
          · subst hq; exact e53
          · exact e3 q hq a6 a7)
        have := ih (r + 1) μ3 (by omega) hrm3 (fun q hq => by rw [e3 q (by omega) (by omega) (by omega)]; exact hF q hq)
        first | (rw [bs_y (P := (fun r => SO G (tP s r) N N.1)) b9] at this; exact this) | (rw [bs_n (P := (fun r => SO G (tP s r) N N.1)) b9] at this; rw [or0 hb]; exact this)
      ·
        have hx2 : μ2 53 1 = xr s.2.1 (r : Int) := by rw [f2 53 (by decide) (by decide)]; exact hx1
        refine seg 1 (show (0 = 0 → Wp 158 38 [some (vR 47), some (vI (bs (fun r => SO G (tP s r) N N.1) r)), some (vI (r : Int))] [vI (bs (fun r => SO G (tP s r) N N.1) r)] μ2 R) ∧ (¬ (0 = 0) → Wp 158 32 [some (vR 47), some (vI (bs (fun r => SO G (tP s r) N N.1) r)), some (vI (r : Int))] [vI (bs (fun r => SO G (tP s r) N N.1) r)] μ2 R) from ⟨fun _ => ?_, fun z => absurd z (by decide)⟩)
        refine seg 15 (show (0 ≤ (bs (fun r => SO G (tP s r) N N.1) r) ∧ 0 ≤ 0) ∧ (0 ≤ 1 ∧ 1 < 3) ∧ (0 ≤ 1 ∧ 0 ≤ (r : Int) ∧ (r : Int) < 31 ∧ 1 * 2 ^ ((r : Int) : Int).toNat ≤ 2147483647) ∧ (0 ≤ (μ2 53 1) ∧ 0 ≤ (1 * 2 ^ ((r : Int) : Int).toNat)) ∧ (0 ≤ 1 ∧ 1 < 3) ∧ iR ((r : Int) + 1) ∧ Wp 158 4 [some (vR 47), some (vI ((Int.toNat (bs (fun r => SO G (tP s r) N N.1) r) ||| Int.toNat 0 : Nat) : Int)), some (vI ((r : Int) + 1))] [] (u2 μ2 53 1 ((Int.toNat (μ2 53 1) ^^^ Int.toNat (1 * 2 ^ ((r : Int) : Int).toNat) : Nat) : Int)) R from ⟨by omega, by omega, by omega, by omega, by omega, by omega, ?_⟩)
        obtain ⟨μ3, hμ3⟩ : ∃ z, z = u2 μ2 53 1 ((Int.toNat (μ2 53 1) ^^^ Int.toNat (1 * 2 ^ ((r : Int) : Int).toNat) : Nat) : Int) := ⟨_, rfl⟩
        rw [← hμ3]
        have e53 : μ3 53 = μ 53 := by
          rw [hμ3, u2_at, f2 53 (by decide) (by decide), hμ1, u2_at]
          funext j
          by_cases hj : j = 1
          · subst hj
            have : ∀ (g : Int → Int) (x : Int), up1 (up1 g 1 x) 1 ((Int.toNat (up1 g 1 x 1) ^^^ Int.toNat (1 * 2 ^ ((r : Int)).toNat) : Nat) : Int) 1 = xr x (r : Int) := fun g x => by rw [up1_s, up1_s]; rfl
            rw [this]
            show xr (xr (μ 53 1) (r : Int)) (r : Int) = _
            exact xr_xr (by omega)
          · rw [up1_n hj, up1_n hj]
        have e3 : ∀ q, q ≠ 53 → q ≠ 60 → q ≠ 61 → μ3 q = μ q := fun q a b c => by rw [hμ3, u2_ne a, f2 q b c, e1 q a]
        have hrm3 : RM G T s U im N μ3 := hrm.fr (fun q a1 a2 a3 a4 a5 a6 a7 => by
          by_cases hq : q = 53
          · subst hq; exact e53
          · exact e3 q hq a6 a7)
        have := ih (r + 1) μ3 (by omega) hrm3 (fun q hq => by rw [e3 q (by omega) (by omega) (by omega)]; exact hF q hq)
        first | (rw [bs_y (P := (fun r => SO G (tP s r) N N.1)) b9] at this; exact this) | (rw [bs_n (P := (fun r => SO G (tP s r) N N.1)) b9] at this; rw [or0 hb]; exact this)
theorem d158 {G : Hi} {T : Tx} {s : Se} {U : Un} {im : Int → Option Se} {N : Sn} {R : Po} {μ : Mu} (hrm : RM G T s U im N μ) (hk : ∀ μ2 : Mu, RM G T s U im N μ2 → (∀ q, q < 47 → μ2 q = μ q) → R (some (vI (aUns G s N))) μ2) : Wp 158 0 [some (vR 47), none, none] [] μ R := by
  have hg := hrm.1
  have hm := hg.1
  have h8 := hm.1.n
  have hs := hrm.2.1
  have hok := hrm.2.2.1
  have hu := hrm.2.2.2.2.1
  have hu1 := hu.1
  have hu2 := hu.2.1
  refine seg 4 (show Wp 158 4 [some (vR 47), some (vI 0), some (vI 0)] [] μ R from ?_)
  exact l158 hrm hk (hN G).toNat 0 μ (by omega) hrm (fun _ _ => rfl)
theorem d159 {G : Hi} {T : Tx} {s : Se} {U : Un} {im : Int → Option Se} {N : Sn} {R : Po} {μ : Mu} (hrm : RM G T s U im N μ) {i : Int} (h1 : ¬ (0 ≤ i ∧ i < 2) → R (some (vI (-1))) μ) (h3 : (0 ≤ i ∧ i < 2) → ∀ μ2 : Mu, RM G T s U (fun j => if j = i then some s else im j) N μ2 → (∀ q, q < 47 → μ2 q = μ q) → R (some (vI s.1)) μ2) : Wp 159 0 [some (vR 47), some (vI i), none] [] μ R := by
  have hg := hrm.1
  have hm := hg.1
  have h8 := hm.1.n
  have hs := hrm.2.1
  have hok := hrm.2.2.1
  have hu := hrm.2.2.2.2.1
  have hu1 := hu.1
  have hu2 := hu.2.1
  refine seg 5 (show Wp 118 0 [some (vL i), none, some (vL 0), none, some (vL 1), none] [] μ (fun rr μ' => Wp 159 7 [some (vR 47), some (vI i), none] (rr.toList ++ []) μ' R) from ?_)
  refine m118 (fun b1 => ?_) (fun b1 => ?_)
  ·
    refine seg 1 (show (¬ (1 = 0) → Wp 159 12 [some (vR 47), some (vI i), none] [] μ R) ∧ (1 = 0 → Wp 159 10 [some (vR 47), some (vI i), none] [] μ R) from ⟨fun _ => ?_, fun z => absurd z (by decide)⟩)
    refine seg 5 (show (3 ≤ 0 → Wp 159 41 [some (vR 47), some (vI i), some (vI 0)] [] μ R) ∧ (¬ (3 ≤ 0) → Wp 159 19 [some (vR 47), some (vI i), some (vI 0)] [] μ R) from ⟨fun z => absurd z (by decide), fun _ => ?_⟩)
    refine seg 17 (show iR (3 * i) ∧ iR ((3 * i) + 0) ∧ (0 ≤ 0 ∧ 0 < 3) ∧ (0 ≤ ((3 * i) + 0) ∧ ((3 * i) + 0) < 6) ∧ iR (0 + 1) ∧ (3 ≤ 1 → Wp 159 41 [some (vR 47), some (vI i), some (vI 1)] [] (u2 μ 63 ((3 * i) + 0) (μ 53 0)) R) ∧ (¬ (3 ≤ 1) → Wp 159 19 [some (vR 47), some (vI i), some (vI 1)] [] (u2 μ 63 ((3 * i) + 0) (μ 53 0)) R) from ⟨by omega, by omega, by omega, by omega, by omega, fun z => absurd z (by decide), fun _ => ?_⟩)
    refine seg 17 (show iR (3 * i) ∧ iR ((3 * i) + 1) ∧ (0 ≤ 1 ∧ 1 < 3) ∧ (0 ≤ ((3 * i) + 1) ∧ ((3 * i) + 1) < 6) ∧ iR (1 + 1) ∧ (3 ≤ 2 → Wp 159 41 [some (vR 47), some (vI i), some (vI 2)] [] (u2 (u2 μ 63 ((3 * i) + 0) (μ 53 0)) 63 ((3 * i) + 1) (μ 53 1)) R) ∧ (¬ (3 ≤ 2) → Wp 159 19 [some (vR 47), some (vI i), some (vI 2)] [] (u2 (u2 μ 63 ((3 * i) + 0) (μ 53 0)) 63 ((3 * i) + 1) (μ 53 1)) R) from ⟨by omega, by omega, by omega, by omega, by omega, fun z => absurd z (by decide), fun _ => ?_⟩)
    refine seg 17 (show iR (3 * i) ∧ iR ((3 * i) + 2) ∧ (0 ≤ 2 ∧ 2 < 3) ∧ (0 ≤ ((3 * i) + 2) ∧ ((3 * i) + 2) < 6) ∧ iR (2 + 1) ∧ (3 ≤ 3 → Wp 159 41 [some (vR 47), some (vI i), some (vI 3)] [] (u2 (u2 (u2 μ 63 ((3 * i) + 0) (μ 53 0)) 63 ((3 * i) + 1) (μ 53 1)) 63 ((3 * i) + 2) (μ 53 2)) R) ∧ (¬ (3 ≤ 3) → Wp 159 19 [some (vR 47), some (vI i), some (vI 3)] [] (u2 (u2 (u2 μ 63 ((3 * i) + 0) (μ 53 0)) 63 ((3 * i) + 1) (μ 53 1)) 63 ((3 * i) + 2) (μ 53 2)) R) from ⟨by omega, by omega, by omega, by omega, by omega, fun _ => ?_, fun z => absurd z (by decide)⟩)
    refine seg 10 (show ((0 ≤ i ∧ i < 2) ∧ (1 = 0 ∨ 1 = 1)) ∧ (0 ≤ 0 ∧ 0 < 3) ∧ R (some (vI (μ 53 0))) (u2 (u2 (u2 (u2 μ 63 ((3 * i) + 0) (μ 53 0)) 63 ((3 * i) + 1) (μ 53 1)) 63 ((3 * i) + 2) (μ 53 2)) 64 i 1) from ⟨by omega, by omega, ?_⟩)
    obtain ⟨μ2, hμ2⟩ : ∃ z, z = u2 (u2 (u2 (u2 μ 63 ((3 * i) + 0) (μ 53 0)) 63 ((3 * i) + 1) (μ 53 1)) 63 ((3 * i) + 2) (μ 53 2)) 64 i 1 := ⟨_, rfl⟩
    rw [← hμ2, hs.1]
    have e63 : μ2 63 = up1 (up1 (up1 (μ 63) (3 * i + 0) (μ 53 0)) (3 * i + 1) (μ 53 1)) (3 * i + 2) (μ 53 2) := by rw [hμ2, u2_ne (by decide), u2_at, u2_at, u2_at]
    have e64 : μ2 64 = up1 (μ 64) i 1 := by rw [hμ2, u2_at, u2_ne (by decide), u2_ne (by decide), u2_ne (by decide)]
    have ee : ∀ q, q ≠ 63 → q ≠ 64 → μ2 q = μ q := fun q a b => by rw [hμ2, u2_ne b, u2_ne a, u2_ne a, u2_ne a]
    refine h3 (by omega) μ2 (rm_mk hrm (by rw [ee 47 (by decide) (by decide)]) (fun q a b => ee q (by omega) (by omega)) (by rw [ee 53 (by decide) (by decide)]; exact hs) hok (hrm.2.2.2.1.fr (by rw [ee 47 (by decide) (by decide)]) (ee 55 (by decide) (by decide))) (hu.fr (by rw [ee 47 (by decide) (by decide)]) (ee 54 (by decide) (by decide))) (fun j a1 a2 => ?_) (hrm.2.2.2.2.2.2.fr (by rw [ee 47 (by decide) (by decide)]) (ee 62 (by decide) (by decide)))) (fun q hq => ee q (by omega) (by omega))
    rw [e63, e64]
    by_cases hj : j = i
    · rw [if_pos hj, hj]
      rw [up1_s, up1_n (by omega), up1_n (by omega), up1_s, up1_n (by omega), up1_s, up1_s]
      exact ⟨rfl, hs.1, hs.2.1, hs.2.2, hok⟩
    · have q : ∀ y, (y < 3 * i ∨ 3 * i + 2 < y) → up1 (up1 (up1 (μ 63) (3 * i + 0) (μ 53 0)) (3 * i + 1) (μ 53 1)) (3 * i + 2) (μ 53 2) y = μ 63 y := fun y hy => by rw [up1_n (by omega), up1_n (by omega), up1_n (by omega)]
      rw [if_neg hj, up1_n hj, q _ (by omega), q _ (by omega), q _ (by omega)]
      exact hrm.2.2.2.2.2.1 j a1 a2
  ·
    refine seg 1 (show (¬ (0 = 0) → Wp 159 12 [some (vR 47), some (vI i), none] [] μ R) ∧ (0 = 0 → Wp 159 10 [some (vR 47), some (vI i), none] [] μ R) from ⟨fun z => absurd z (by decide), fun _ => ?_⟩)
    refine seg 2 (show R (some (vI (-1))) μ from ?_)
    exact h1 (by omega)
theorem d160 {G : Hi} {T : Tx} {s : Se} {U : Un} {im : Int → Option Se} {N : Sn} {R : Po} {μ : Mu} (hrm : RM G T s U im N μ) {i : Int} (h1 : ¬ (0 ≤ i ∧ i < 2) → R (some (vI (-1))) μ) (h2 : (0 ≤ i ∧ i < 2) → im i = none → R (some (vI (-2))) μ) (h3 : ∀ s9 : Se, (0 ≤ i ∧ i < 2) → im i = some s9 → ∀ μ2 : Mu, RM G T s9 (0, U.2) im N μ2 → (∀ q, q < 47 → μ2 q = μ q) → R (some (vI s9.1)) μ2) : Wp 160 0 [some (vR 47), some (vI i), none] [] μ R := by
  have hg := hrm.1
  have hm := hg.1
  have h8 := hm.1.n
  have hs := hrm.2.1
  have hok := hrm.2.2.1
  have hu := hrm.2.2.2.2.1
  have hu1 := hu.1
  have hu2 := hu.2.1
  refine seg 5 (show Wp 118 0 [some (vL i), none, some (vL 0), none, some (vL 1), none] [] μ (fun rr μ' => Wp 160 7 [some (vR 47), some (vI i), none] (rr.toList ++ []) μ' R) from ?_)
  refine m118 (fun b1 => ?_) (fun b1 => ?_)
  ·
    refine seg 1 (show (¬ (1 = 0) → Wp 160 12 [some (vR 47), some (vI i), none] [] μ R) ∧ (1 = 0 → Wp 160 10 [some (vR 47), some (vI i), none] [] μ R) from ⟨fun _ => ?_, fun z => absurd z (by decide)⟩)
    have hI := hrm.2.2.2.2.2.1 i (by omega) (by omega)
    cases him : im i with
    | none =>
      rw [him] at hI
      dsimp only at hI
      refine seg 5 (show (0 ≤ i ∧ i < 2) ∧ (¬ (μ 64 i = 0) → Wp 160 24 [some (vR 47), some (vI i), none] [] μ R) ∧ (μ 64 i = 0 → Wp 160 21 [some (vR 47), some (vI i), none] [] μ R) from ⟨by omega, fun c22 => ?_, fun c22 => ?_⟩)
      ·
        exfalso; omega
      ·
        refine seg 2 (show R (some (vI (-2))) μ from ?_)
        exact h2 (by omega) him
    | some s9 =>
      rw [him] at hI
      dsimp only at hI
      refine seg 5 (show (0 ≤ i ∧ i < 2) ∧ (¬ (μ 64 i = 0) → Wp 160 24 [some (vR 47), some (vI i), none] [] μ R) ∧ (μ 64 i = 0 → Wp 160 21 [some (vR 47), some (vI i), none] [] μ R) from ⟨by omega, fun c22 => ?_, fun c22 => ?_⟩)
      ·
        refine seg 5 (show (3 ≤ 0 → Wp 160 53 [some (vR 47), some (vI i), some (vI 0)] [] μ R) ∧ (¬ (3 ≤ 0) → Wp 160 31 [some (vR 47), some (vI i), some (vI 0)] [] μ R) from ⟨fun z => absurd z (by decide), fun _ => ?_⟩)
        refine seg 17 (show iR (3 * i) ∧ iR ((3 * i) + 0) ∧ (0 ≤ ((3 * i) + 0) ∧ ((3 * i) + 0) < 6) ∧ (0 ≤ 0 ∧ 0 < 3) ∧ iR (0 + 1) ∧ (3 ≤ 1 → Wp 160 53 [some (vR 47), some (vI i), some (vI 1)] [] (u2 μ 53 0 (μ 63 ((3 * i) + 0))) R) ∧ (¬ (3 ≤ 1) → Wp 160 31 [some (vR 47), some (vI i), some (vI 1)] [] (u2 μ 53 0 (μ 63 ((3 * i) + 0))) R) from ⟨by omega, by omega, by omega, by omega, by omega, fun z => absurd z (by decide), fun _ => ?_⟩)
        refine seg 17 (show iR (3 * i) ∧ iR ((3 * i) + 1) ∧ (0 ≤ ((3 * i) + 1) ∧ ((3 * i) + 1) < 6) ∧ (0 ≤ 1 ∧ 1 < 3) ∧ iR (1 + 1) ∧ (3 ≤ 2 → Wp 160 53 [some (vR 47), some (vI i), some (vI 2)] [] (u2 (u2 μ 53 0 (μ 63 ((3 * i) + 0))) 53 1 (μ 63 ((3 * i) + 1))) R) ∧ (¬ (3 ≤ 2) → Wp 160 31 [some (vR 47), some (vI i), some (vI 2)] [] (u2 (u2 μ 53 0 (μ 63 ((3 * i) + 0))) 53 1 (μ 63 ((3 * i) + 1))) R) from ⟨by omega, by omega, by omega, by omega, by omega, fun z => absurd z (by decide), fun _ => ?_⟩)
        refine seg 17 (show iR (3 * i) ∧ iR ((3 * i) + 2) ∧ (0 ≤ ((3 * i) + 2) ∧ ((3 * i) + 2) < 6) ∧ (0 ≤ 2 ∧ 2 < 3) ∧ iR (2 + 1) ∧ (3 ≤ 3 → Wp 160 53 [some (vR 47), some (vI i), some (vI 3)] [] (u2 (u2 (u2 μ 53 0 (μ 63 ((3 * i) + 0))) 53 1 (μ 63 ((3 * i) + 1))) 53 2 (μ 63 ((3 * i) + 2))) R) ∧ (¬ (3 ≤ 3) → Wp 160 31 [some (vR 47), some (vI i), some (vI 3)] [] (u2 (u2 (u2 μ 53 0 (μ 63 ((3 * i) + 0))) 53 1 (μ 63 ((3 * i) + 1))) 53 2 (μ 63 ((3 * i) + 2))) R) from ⟨by omega, by omega, by omega, by omega, by omega, fun _ => ?_, fun z => absurd z (by decide)⟩)
        refine seg 8 (show (0 ≤ 0 ∧ 0 < 3) ∧ R (some (vI (μ 63 ((3 * i) + 0)))) (u2 (u2 (u2 (u2 μ 53 0 (μ 63 ((3 * i) + 0))) 53 1 (μ 63 ((3 * i) + 1))) 53 2 (μ 63 ((3 * i) + 2))) 47 8 0) from ⟨by omega, ?_⟩)
        obtain ⟨μ2, hμ2⟩ : ∃ z, z = u2 (u2 (u2 (u2 μ 53 0 (μ 63 ((3 * i) + 0))) 53 1 (μ 63 ((3 * i) + 1))) 53 2 (μ 63 ((3 * i) + 2))) 47 8 0 := ⟨_, rfl⟩
        rw [← hμ2, hI.2.1]
        have e47 : μ2 47 = up1 (μ 47) 8 0 := by rw [hμ2, u2_at, u2_ne (by decide), u2_ne (by decide), u2_ne (by decide)]
        have e53 : μ2 53 = up1 (up1 (up1 (μ 53) 0 (μ 63 (3 * i + 0))) 1 (μ 63 (3 * i + 1))) 2 (μ 63 (3 * i + 2)) := by rw [hμ2, u2_ne (by decide), u2_at, u2_at, u2_at]
        have ee : ∀ q, q ≠ 47 → q ≠ 53 → μ2 q = μ q := fun q a b => by rw [hμ2, u2_ne a, u2_ne b, u2_ne b, u2_ne b]
        refine h3 s9 (by omega) him μ2 (rm_mk hrm (by rw [e47, up1_n (by decide)]) (fun q a b => ee q (by omega) (by omega)) ⟨?_, ?_, ?_⟩ hI.2.2.2.2 (hrm.2.2.2.1.fr (by rw [e47, up1_n (by decide)]) (ee 55 (by decide) (by decide))) ⟨by rw [e47, up1_s], ⟨Int.le_refl _, by show (0 : Int) ≤ 10; decide⟩, fun i a1 a2 => absurd (show i < 0 from a2) (by omega)⟩ (hrm.2.2.2.2.2.1.fr (ee 63 (by decide) (by decide)) (ee 64 (by decide) (by decide))) (hrm.2.2.2.2.2.2.fr (by rw [e47, up1_n (by decide)]) (ee 62 (by decide) (by decide)))) (fun q hq => ee q (by omega) (by omega))
        · rw [e53, up1_n (by decide), up1_n (by decide), up1_s]; exact hI.2.1
        · rw [e53, up1_n (by decide), up1_s]; exact hI.2.2.1
        · rw [e53, up1_s]; exact hI.2.2.2.1
      ·
        refine seg 2 (show R (some (vI (-2))) μ from ?_)
        exfalso; omega
  ·
    refine seg 1 (show (¬ (0 = 0) → Wp 160 12 [some (vR 47), some (vI i), none] [] μ R) ∧ (0 = 0 → Wp 160 10 [some (vR 47), some (vI i), none] [] μ R) from ⟨fun z => absurd z (by decide), fun _ => ?_⟩)
    refine seg 2 (show R (some (vI (-1))) μ from ?_)
    exact h1 (by omega)
theorem n117 {R : Po} {μ : Mu} (hk : ∀ μ2 : Mu, (∀ q, q ≠ 47 → q ≠ 53 → q ≠ 64 → μ2 q = μ q) → (∀ i, i ≠ 8 → i ≠ 24 → μ2 47 i = μ 47 i) → SeC (2, 0, 15) (μ2 53) → μ2 47 8 = 0 → μ2 47 24 = 0 → μ2 64 0 = 0 → μ2 64 1 = 0 → R none μ2) : Wp 117 0 [some (vR 47)] [] μ R := by
  refine seg 32 (show (0 ≤ 0 ∧ 0 < 3) ∧ (0 ≤ 1 ∧ 1 < 3) ∧ (0 ≤ 2 ∧ 2 < 3) ∧ ((0 ≤ 0 ∧ 0 < 2) ∧ (0 = 0 ∨ 0 = 1)) ∧ ((0 ≤ 1 ∧ 1 < 2) ∧ (0 = 0 ∨ 0 = 1)) ∧ R none (u2 (u2 (u2 (u2 (u2 (u2 (u2 μ 53 0 2) 53 1 0) 53 2 15) 47 8 0) 47 24 0) 64 0 0) 64 1 0) from ⟨by omega, by omega, by omega, by omega, by omega, ?_⟩)
  obtain ⟨μ2, hμ2⟩ : ∃ z, z = u2 (u2 (u2 (u2 (u2 (u2 (u2 μ 53 0 2) 53 1 0) 53 2 15) 47 8 0) 47 24 0) 64 0 0) 64 1 0 := ⟨_, rfl⟩
  rw [← hμ2]
  have e47 : μ2 47 = up1 (up1 (μ 47) 8 0) 24 0 := by rw [hμ2, u2_ne (by decide), u2_ne (by decide), u2_at, u2_at, u2_ne (by decide), u2_ne (by decide), u2_ne (by decide)]
  have e53 : μ2 53 = up1 (up1 (up1 (μ 53) 0 2) 1 0) 2 15 := by rw [hμ2, u2_ne (by decide), u2_ne (by decide), u2_ne (by decide), u2_ne (by decide), u2_at, u2_at, u2_at]
  have e64 : μ2 64 = up1 (up1 (μ 64) 0 0) 1 0 := by rw [hμ2, u2_at, u2_at, u2_ne (by decide), u2_ne (by decide), u2_ne (by decide), u2_ne (by decide), u2_ne (by decide)]
  refine hk μ2 (fun q a b c => by rw [hμ2, u2_ne c, u2_ne c, u2_ne a, u2_ne a, u2_ne b, u2_ne b, u2_ne b]) (fun i a b => by rw [e47, up1_n b, up1_n a]) ⟨by rw [e53]; rfl, by rw [e53]; rfl, by rw [e53]; rfl⟩ (by rw [e47]; rfl) (by rw [e47]; rfl) (by rw [e64]; rfl) (by rw [e64]; rfl)
