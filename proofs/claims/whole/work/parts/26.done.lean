/-! the class's public methods: what is done -/
theorem rc_mk {G : Hi} {T : Tx} {s s' : Se} {U U' : Un} {im : Int → Option Se} {N : Sn} {μ μ4 : Mu} (hrc : RC G T s U im N μ) (hf : ∀ q, q ≠ 30 → q ≠ 33 → q ≠ 34 → q ≠ 35 → q ≠ 40 → q ≠ 41 → μ4 q = μ q) (hs : SeC s' (μ4 30)) (hok : SeOK s') (hT : ∀ r k, 0 ≤ r → r < hN G → 0 ≤ k → k < hS G r → TrC G s' (μ4 33) (μ4 34) (μ4 35) r k) (hU : RU U' μ4) : RC G T s' U' im N μ4 := by
  obtain ⟨h1, h2, h3, h4, h5⟩ := hrc
  refine ⟨⟨h1.1.fr (fun q a b => hf q (by omega) (by omega) (by omega) (by omega) (by omega) (by omega)), hs, hok, hT, ?_, ?_⟩, h2.fr (hf 1 (by decide) (by decide) (by decide) (by decide) (by decide) (by decide)) (hf 2 (by decide) (by decide) (by decide) (by decide) (by decide) (by decide)), hU, h4.fr (hf 46 (by decide) (by decide) (by decide) (by decide) (by decide) (by decide)), h5.fr (hf 42 (by decide) (by decide) (by decide) (by decide) (by decide) (by decide)) (hf 43 (by decide) (by decide) (by decide) (by decide) (by decide) (by decide)) (hf 44 (by decide) (by decide) (by decide) (by decide) (by decide) (by decide)) (hf 45 (by decide) (by decide) (by decide) (by decide) (by decide) (by decide))⟩
  · rw [hf 13 (by decide) (by decide) (by decide) (by decide) (by decide) (by decide)]; exact h1.2.2.2.2.1
  · rw [hf 19 (by decide) (by decide) (by decide) (by decide) (by decide) (by decide)]; exact h1.2.2.2.2.2
theorem RC.fr {G : Hi} {T : Tx} {s : Se} {U : Un} {im : Int → Option Se} {N : Sn} {μ μ' : Mu} (h : RC G T s U im N μ) (hf : ∀ q, q < 47 → q ≠ 31 → q ≠ 37 → q ≠ 38 → q ≠ 39 → μ' q = μ q) : RC G T s U im N μ' := by
  obtain ⟨h1, h2, h3, h4, h5⟩ := h
  exact ⟨h1.fr (fun q a b c => hf q (by omega) c (by omega) (by omega) (by omega)), h2.fr (hf 1 (by decide) (by decide) (by decide) (by decide) (by decide)) (hf 2 (by decide) (by decide) (by decide) (by decide) (by decide)), h3.fr (hf 40 (by decide) (by decide) (by decide) (by decide) (by decide)) (hf 41 (by decide) (by decide) (by decide) (by decide) (by decide)), h4.fr (hf 46 (by decide) (by decide) (by decide) (by decide) (by decide)), h5.fr (hf 42 (by decide) (by decide) (by decide) (by decide) (by decide)) (hf 43 (by decide) (by decide) (by decide) (by decide) (by decide)) (hf 44 (by decide) (by decide) (by decide) (by decide) (by decide)) (hf 45 (by decide) (by decide) (by decide) (by decide) (by decide))⟩
theorem c88 {G : Hi} {T : Tx} {s : Se} {U : Un} {im : Int → Option Se} {N : Sn} {R : Po} {μ : Mu} (hrc : RC G T s U im N μ) {c : Int} (h1 : ¬ (0 ≤ c ∧ c ≤ 255) → R (some (vI (-1))) μ) (h2 : (0 ≤ c ∧ c ≤ 255) → 120 ≤ T.1 → R (some (vI (-3))) μ) (h3 : (0 ≤ c ∧ c ≤ 255) → T.1 < 120 → ∀ μ2 : Mu, RC G (T.1 + 1, up1 T.2 T.1 c) s U im N μ2 → (∀ q, 47 ≤ q → μ2 q = μ q) → R (some (vI (T.1 + 1))) μ2) : Wp 88 0 [some (vR 0), some (vI c)] [] μ R := by
  have hh := hrc.1
  have hg := hh.1
  have hc := hg.1
  have hn := hc.1.n
  have hs := hh.2.1
  have hok := hh.2.2.1
  have hu := hrc.2.2.1
  have ht := hrc.2.1
  have e11 := ht.1
  have ht2 := ht.2.1
  refine seg 2 (show (c < 0 → Wp 88 11 [some (vR 0), some (vI c)] [] μ R) ∧ (¬ (c < 0) → Wp 88 4 [some (vR 0), some (vI c)] [] μ R) from ⟨fun c1 => ?_, fun c1 => ?_⟩)
  ·
    refine seg 2 (show R (some (vI (-1))) μ from ?_)
    exact h1 (by omega)
  ·
    refine seg 3 (show (c ≤ 255 → Wp 88 13 [some (vR 0), some (vI c)] [] μ R) ∧ (¬ (c ≤ 255) → Wp 88 11 [some (vR 0), some (vI c)] [] μ R) from ⟨fun c2 => ?_, fun c2 => ?_⟩)
    ·
      refine seg 3 (show Wp 75 0 [some (vR 1)] [] μ (fun rr μ' => Wp 88 20 [some (vR 0), some (vI c)] (rr.toList ++ []) μ' R) from ?_)
      refine k75 hrc.2.1 ?_
      refine seg 2 (show (T.1 < 120 → Wp 88 28 [some (vR 0), some (vI c)] [] μ R) ∧ (¬ (T.1 < 120) → Wp 88 25 [some (vR 0), some (vI c)] [] μ R) from ⟨fun c3 => ?_, fun c3 => ?_⟩)
      ·
        refine seg 4 (show Wp 76 0 [some (vR 1), some (vI c)] [] μ (fun rr μ' => Wp 88 36 [some (vR 0), some (vI c)] (rr.toList ++ []) μ' R) from ?_)
        refine s76 (by omega) ?_
        refine seg 3 (show Wp 75 0 [some (vR 1)] [] (u2 (u2 μ 2 (μ 1 1) c) 1 1 (μ 1 1 + 1)) (fun rr μ' => Wp 88 43 [some (vR 0), some (vI c)] (rr.toList ++ []) μ' R) from ?_)
        refine s75 ?_
        refine seg 1 (show R (some (vI (μ 1 1 + 1))) (u2 (u2 μ 2 (μ 1 1) c) 1 1 (μ 1 1 + 1)) from ?_)
        rw [e11]
        refine h3 (by omega) (by omega) _ ⟨hh.fr (fun q a b _ => by rw [u2_ne (by omega), u2_ne (by omega)]), ?_, hrc.2.2.1.fr (by rw [u2_ne (by decide), u2_ne (by decide)]) (by rw [u2_ne (by decide), u2_ne (by decide)]), hrc.2.2.2.1.fr (by rw [u2_ne (by decide), u2_ne (by decide)]), hrc.2.2.2.2.fr (by rw [u2_ne (by decide), u2_ne (by decide)]) (by rw [u2_ne (by decide), u2_ne (by decide)]) (by rw [u2_ne (by decide), u2_ne (by decide)]) (by rw [u2_ne (by decide), u2_ne (by decide)])⟩ (fun q hq => by rw [u2_ne (by omega), u2_ne (by omega)])
        refine ⟨by rw [u2_at, up1_s], ⟨by show 0 ≤ T.1 + 1; omega, by show T.1 + 1 ≤ 120; omega⟩, fun i a1 a2 => ?_⟩
        have a2 : i < T.1 + 1 := a2
        rw [u2_ne (by decide), u2_at]
        show up1 (μ 2) T.1 c i = up1 T.2 T.1 c i ∧ 0 ≤ up1 T.2 T.1 c i ∧ up1 T.2 T.1 c i ≤ 255
        by_cases hi : i = T.1
        · subst hi; rw [up1_s, up1_s]; exact ⟨rfl, by omega, by omega⟩
        · rw [up1_n hi, up1_n hi]; exact ht.2.2 i a1 (by omega)
      ·
        refine seg 2 (show R (some (vI (-3))) μ from ?_)
        exact h2 (by omega) (by omega)
    ·
      refine seg 2 (show R (some (vI (-1))) μ from ?_)
      exact h1 (by omega)
theorem c89 {G : Hi} {T : Tx} {s : Se} {U : Un} {im : Int → Option Se} {N : Sn} {R : Po} {μ : Mu} (hrc : RC G T s U im N μ) (hk : ∀ μ2 : Mu, RC G (0, T.2) s U im N μ2 → (∀ q, 47 ≤ q → μ2 q = μ q) → R (some (vI T.1)) μ2) : Wp 89 0 [some (vR 0), none] [] μ R := by
  have hh := hrc.1
  have hg := hh.1
  have hc := hg.1
  have hn := hc.1.n
  have hs := hh.2.1
  have hok := hh.2.2.1
  have hu := hrc.2.2.1
  refine seg 3 (show Wp 75 0 [some (vR 1)] [] μ (fun rr μ' => Wp 89 7 [some (vR 0), none] (rr.toList ++ []) μ' R) from ?_)
  refine k75 hrc.2.1 ?_
  refine seg 4 (show Wp 77 0 [some (vR 1)] [] μ (fun rr μ' => Wp 89 15 [some (vR 0), some (vI T.1)] (rr.toList ++ []) μ' R) from ?_)
  refine s77 ?_
  refine seg 2 (show R (some (vI T.1)) (u2 μ 1 1 0) from ?_)
  refine hk _ ⟨hh.fr (fun q a b _ => by rw [u2_ne (by omega)]), ⟨by rw [u2_at, up1_s], ⟨Int.le_refl _, by show (0 : Int) ≤ 120; decide⟩, fun i a1 a2 => absurd (show i < 0 from a2) (by omega)⟩, hrc.2.2.1.fr (by rw [u2_ne (by decide)]) (by rw [u2_ne (by decide)]), hrc.2.2.2.1.fr (by rw [u2_ne (by decide)]), hrc.2.2.2.2.fr (by rw [u2_ne (by decide)]) (by rw [u2_ne (by decide)]) (by rw [u2_ne (by decide)]) (by rw [u2_ne (by decide)])⟩ (fun q hq => by rw [u2_ne (by omega)])
theorem c93 {G : Hi} {T : Tx} {s : Se} {U : Un} {im : Int → Option Se} {N : Sn} {R : Po} {μ : Mu} (hrc : RC G T s U im N μ) {n : Int} (h1 : ¬ (0 ≤ n ∧ n ≤ 4) → R (some (vI (-1))) μ) (h2 : (0 ≤ n ∧ n ≤ 4) → s.1 = n → R (some (vI (-2))) μ) (h3 : (0 ≤ n ∧ n ≤ 4) → s.1 ≠ n → ∀ μ2 : Mu, RC G T (n, s.2) (adU U s) im N μ2 → (∀ q, 47 ≤ q → μ2 q = μ q) → R (some (vI s.1)) μ2) : Wp 93 0 [some (vR 0), some (vI n), none] [] μ R := by
  have hh := hrc.1
  have hg := hh.1
  have hc := hg.1
  have hn := hc.1.n
  have hs := hh.2.1
  have hok := hh.2.2.1
  have hu := hrc.2.2.1
  refine seg 2 (show (n < 0 → Wp 93 9 [some (vR 0), some (vI n), none] [] μ R) ∧ (¬ (n < 0) → Wp 93 4 [some (vR 0), some (vI n), none] [] μ R) from ⟨fun c1 => ?_, fun c1 => ?_⟩)
  ·
    refine seg 2 (show R (some (vI (-1))) μ from ?_)
    exact h1 (by omega)
  ·
    refine seg 3 (show (n ≤ 4 → Wp 93 11 [some (vR 0), some (vI n), none] [] μ R) ∧ (¬ (n ≤ 4) → Wp 93 9 [some (vR 0), some (vI n), none] [] μ R) from ⟨fun c2 => ?_, fun c2 => ?_⟩)
    ·
      refine seg 3 (show Wp 60 0 [some (vR 30)] [] μ (fun rr μ' => Wp 93 18 [some (vR 0), some (vI n), none] (rr.toList ++ []) μ' R) from ?_)
      refine k60 hs ?_
      refine seg 4 (show (¬ (n = s.1) → Wp 93 27 [some (vR 0), some (vI n), some (vI s.1)] [] μ R) ∧ (n = s.1 → Wp 93 24 [some (vR 0), some (vI n), some (vI s.1)] [] μ R) from ⟨fun c3 => ?_, fun c3 => ?_⟩)
      ·
        refine seg 5 (show Wp 58 0 [some (vR 30)] [] μ (fun rr μ' => Wp 93 38 [some (vR 0), some (vI n), some (vI s.1)] (rr.toList ++ [vR 40]) μ' R) from ?_)
        refine s58_30 hs hok ?_
        refine seg 1 (show Wp 3 0 [some (vR 40), some (vI (cod s))] [] μ (fun rr μ' => Wp 93 41 [some (vR 0), some (vI n), some (vI s.1)] (rr.toList ++ []) μ' R) from ?_)
        refine s3 hu rfl hok (fun μ2 f1 hu2 => ?_)
        refine seg 4 (show Wp 61 0 [some (vR 30), some (vI n)] [] μ2 (fun rr μ' => Wp 93 49 [some (vR 0), some (vI n), some (vI s.1)] (rr.toList ++ []) μ' R) from ?_)
        refine s61_30 ?_
        refine seg 2 (show Wp 110 0 [some (vR 0)] [] (u2 μ2 30 0 n) (fun rr μ' => Wp 93 53 [some (vR 0), some (vI n), some (vI s.1)] (rr.toList ++ []) μ' R) from ?_)
        obtain ⟨μ3, hμ3⟩ : ∃ z, z = u2 μ2 30 0 n := ⟨_, rfl⟩
        rw [← hμ3]
        have e3 : ∀ q, q ≠ 30 → μ3 q = μ2 q := fun q hq => by rw [hμ3]; exact u2_ne hq
        have hs3 : SeC (n, s.2) (μ3 30) := by
          have e30 := f1 30 (by decide) (by decide)
          rw [hμ3, u2_at, e30]
          refine ⟨?_, ?_, ?_⟩ <;> first | (rw [up1_s]; done) | (rw [up1_s]; rfl) | (rw [up1_s]; show _ = xr _ _; unfold xr; first | rw [hs.2.1] | rw [hs.2.2]) | (rw [up1_n (by decide)]; first | exact hs.1 | exact hs.2.1 | exact hs.2.2)
        have hg3 : PG G μ3 := hg.fr (fun q a b => by rw [e3 q (by omega), f1 q (by omega) (by omega)])
        refine s110 hg3 hs3 (by first | exact tP_ok hok (by omega) | exact tR_ok hok (by omega) | exact ⟨by show 0 ≤ n ∧ n ≤ 4; omega, hok.2⟩) (fun μ4 f4 t4 => ?_)
        have hrc4 : RC G T (n, s.2) (adU U s) im N μ4 := rc_mk hrc (fun q a1 a2 a3 a4 a5 a6 => by rw [f4 q a2 a3 a4, e3 q a1, f1 q a5 a6]) (by rw [f4 30 (by decide) (by decide) (by decide)]; exact hs3) (by first | exact tP_ok hok (by omega) | exact tR_ok hok (by omega) | exact ⟨by show 0 ≤ n ∧ n ≤ 4; omega, hok.2⟩) t4 (hu2.fr (by rw [f4 40 (by decide) (by decide) (by decide), e3 40 (by decide)]) (by rw [f4 41 (by decide) (by decide) (by decide), e3 41 (by decide)]))
        have hf4 : ∀ q, 47 ≤ q → μ4 q = μ q := fun q hq => by rw [f4 q (by omega) (by omega) (by omega), e3 q (by omega), f1 q (by omega) (by omega)]
        refine seg 2 (show R (some (vI s.1)) μ4 from ?_)
        exact h3 (by omega) (by omega) μ4 hrc4 hf4
      ·
        refine seg 2 (show R (some (vI (-2))) μ from ?_)
        exact h2 (by omega) (by omega)
    ·
      refine seg 2 (show R (some (vI (-1))) μ from ?_)
      exact h1 (by omega)
theorem c94 {G : Hi} {T : Tx} {s : Se} {U : Un} {im : Int → Option Se} {N : Sn} {R : Po} {μ : Mu} (hrc : RC G T s U im N μ) {r : Int} (h1 : ¬ (0 ≤ r ∧ r < hN G) → R (some (vI (-1))) μ) (h3 : (0 ≤ r ∧ r < hN G) → ∀ μ2 : Mu, RC G T (tP s r) (adU U s) im N μ2 → (∀ q, 47 ≤ q → μ2 q = μ q) → R (some (vI (if tb (tP s r).2.1 r then 1 else 0))) μ2) : Wp 94 0 [some (vR 0), some (vI r)] [] μ R := by
  have hh := hrc.1
  have hg := hh.1
  have hc := hg.1
  have hn := hc.1.n
  have hs := hh.2.1
  have hok := hh.2.2.1
  have hu := hrc.2.2.1
  refine seg 4 (show Wp 44 0 [some (vR 8), some (vI r)] [] μ (fun rr μ' => Wp 94 8 [some (vR 0), some (vI r)] (rr.toList ++ []) μ' R) from ?_)
  refine g44 hc (fun b1 => ?_) (fun b1 => ?_)
  ·
    refine seg 1 (show (¬ (1 = 0) → Wp 94 13 [some (vR 0), some (vI r)] [] μ R) ∧ (1 = 0 → Wp 94 11 [some (vR 0), some (vI r)] [] μ R) from ⟨fun _ => ?_, fun z => absurd z (by decide)⟩)
    refine seg 5 (show Wp 58 0 [some (vR 30)] [] μ (fun rr μ' => Wp 94 24 [some (vR 0), some (vI r)] (rr.toList ++ [vR 40]) μ' R) from ?_)
    refine s58_30 hs hok ?_
    refine seg 1 (show Wp 3 0 [some (vR 40), some (vI (cod s))] [] μ (fun rr μ' => Wp 94 27 [some (vR 0), some (vI r)] (rr.toList ++ []) μ' R) from ?_)
    refine s3 hu rfl hok (fun μ2 f1 hu2 => ?_)
    refine seg 4 (show Wp 65 0 [some (vR 30), some (vI r)] [] μ2 (fun rr μ' => Wp 94 35 [some (vR 0), some (vI r)] (rr.toList ++ []) μ' R) from ?_)
    refine s65_30 (by omega) (by rw [f1 30 (by decide) (by decide), hs.2.1]; exact hok.2.1.1) ?_
    refine seg 2 (show Wp 110 0 [some (vR 0)] [] (u2 μ2 30 1 ((Int.toNat (μ2 30 1) ^^^ Int.toNat (1 * 2 ^ (r : Int).toNat) : Nat) : Int)) (fun rr μ' => Wp 94 39 [some (vR 0), some (vI r)] (rr.toList ++ []) μ' R) from ?_)
    obtain ⟨μ3, hμ3⟩ : ∃ z, z = u2 μ2 30 1 ((Int.toNat (μ2 30 1) ^^^ Int.toNat (1 * 2 ^ (r : Int).toNat) : Nat) : Int) := ⟨_, rfl⟩
    rw [← hμ3]
    have e3 : ∀ q, q ≠ 30 → μ3 q = μ2 q := fun q hq => by rw [hμ3]; exact u2_ne hq
    have hs3 : SeC (tP s r) (μ3 30) := by
      have e30 := f1 30 (by decide) (by decide)
      rw [hμ3, u2_at, e30]
      refine ⟨?_, ?_, ?_⟩ <;> first | (rw [up1_s]; done) | (rw [up1_s]; rfl) | (rw [up1_s]; show _ = xr _ _; unfold xr; first | rw [hs.2.1] | rw [hs.2.2]) | (rw [up1_n (by decide)]; first | exact hs.1 | exact hs.2.1 | exact hs.2.2)
    have hg3 : PG G μ3 := hg.fr (fun q a b => by rw [e3 q (by omega), f1 q (by omega) (by omega)])
    refine s110 hg3 hs3 (by first | exact tP_ok hok (by omega) | exact tR_ok hok (by omega) | exact ⟨by show 0 ≤ n ∧ n ≤ 4; omega, hok.2⟩) (fun μ4 f4 t4 => ?_)
    have hrc4 : RC G T (tP s r) (adU U s) im N μ4 := rc_mk hrc (fun q a1 a2 a3 a4 a5 a6 => by rw [f4 q a2 a3 a4, e3 q a1, f1 q a5 a6]) (by rw [f4 30 (by decide) (by decide) (by decide)]; exact hs3) (by first | exact tP_ok hok (by omega) | exact tR_ok hok (by omega) | exact ⟨by show 0 ≤ n ∧ n ≤ 4; omega, hok.2⟩) t4 (hu2.fr (by rw [f4 40 (by decide) (by decide) (by decide), e3 40 (by decide)]) (by rw [f4 41 (by decide) (by decide) (by decide), e3 41 (by decide)]))
    have hf4 : ∀ q, 47 ≤ q → μ4 q = μ q := fun q hq => by rw [f4 q (by omega) (by omega) (by omega), e3 q (by omega), f1 q (by omega) (by omega)]
    refine seg 4 (show Wp 64 0 [some (vR 30), some (vI r)] [] μ4 (fun rr μ' => Wp 94 47 [some (vR 0), some (vI r)] (rr.toList ++ []) μ' R) from ?_)
    refine q64 hrc4.1.2.1 hrc4.1.2.2.1 (by omega) (fun b2 => ?_) (fun b2 => ?_)
    ·
      refine seg 1 (show (1 = 0 → Wp 94 54 [some (vR 0), some (vI r)] [] μ4 R) ∧ (¬ (1 = 0) → Wp 94 50 [some (vR 0), some (vI r)] [] μ4 R) from ⟨fun z => absurd z (by decide), fun _ => ?_⟩)
      refine seg 3 (show R (some (vI 1)) μ4 from ?_)
      have := h3 (by omega) μ4 hrc4 hf4
      first | rw [if_pos (by assumption)] at this | rw [if_neg (by assumption)] at this
      exact this
    ·
      refine seg 1 (show (0 = 0 → Wp 94 54 [some (vR 0), some (vI r)] [] μ4 R) ∧ (¬ (0 = 0) → Wp 94 50 [some (vR 0), some (vI r)] [] μ4 R) from ⟨fun _ => ?_, fun z => absurd z (by decide)⟩)
      refine seg 2 (show R (some (vI 0)) μ4 from ?_)
      have := h3 (by omega) μ4 hrc4 hf4
      first | rw [if_pos (by assumption)] at this | rw [if_neg (by assumption)] at this
      exact this
  ·
    refine seg 1 (show (¬ (0 = 0) → Wp 94 13 [some (vR 0), some (vI r)] [] μ R) ∧ (0 = 0 → Wp 94 11 [some (vR 0), some (vI r)] [] μ R) from ⟨fun z => absurd z (by decide), fun _ => ?_⟩)
    refine seg 2 (show R (some (vI (-1))) μ from ?_)
    exact h1 (by omega)
theorem c95 {G : Hi} {T : Tx} {s : Se} {U : Un} {im : Int → Option Se} {N : Sn} {R : Po} {μ : Mu} (hrc : RC G T s U im N μ) {r : Int} (h1 : ¬ (0 ≤ r ∧ r < 4) → R (some (vI (-1))) μ) (h3 : (0 ≤ r ∧ r < 4) → ∀ μ2 : Mu, RC G T (tR s r) (adU U s) im N μ2 → (∀ q, 47 ≤ q → μ2 q = μ q) → R (some (vI (if tb (tR s r).2.2 r then 1 else 0))) μ2) : Wp 95 0 [some (vR 0), some (vI r)] [] μ R := by
  have hh := hrc.1
  have hg := hh.1
  have hc := hg.1
  have hn := hc.1.n
  have hs := hh.2.1
  have hok := hh.2.2.1
  have hu := hrc.2.2.1
  refine seg 2 (show (r < 0 → Wp 95 9 [some (vR 0), some (vI r)] [] μ R) ∧ (¬ (r < 0) → Wp 95 4 [some (vR 0), some (vI r)] [] μ R) from ⟨fun c1 => ?_, fun c1 => ?_⟩)
  ·
    refine seg 2 (show R (some (vI (-1))) μ from ?_)
    exact h1 (by omega)
  ·
    refine seg 3 (show (r < 4 → Wp 95 11 [some (vR 0), some (vI r)] [] μ R) ∧ (¬ (r < 4) → Wp 95 9 [some (vR 0), some (vI r)] [] μ R) from ⟨fun c2 => ?_, fun c2 => ?_⟩)
    ·
      refine seg 5 (show Wp 58 0 [some (vR 30)] [] μ (fun rr μ' => Wp 95 22 [some (vR 0), some (vI r)] (rr.toList ++ [vR 40]) μ' R) from ?_)
      refine s58_30 hs hok ?_
      refine seg 1 (show Wp 3 0 [some (vR 40), some (vI (cod s))] [] μ (fun rr μ' => Wp 95 25 [some (vR 0), some (vI r)] (rr.toList ++ []) μ' R) from ?_)
      refine s3 hu rfl hok (fun μ2 f1 hu2 => ?_)
      refine seg 4 (show Wp 68 0 [some (vR 30), some (vI r)] [] μ2 (fun rr μ' => Wp 95 33 [some (vR 0), some (vI r)] (rr.toList ++ []) μ' R) from ?_)
      refine s68_30 (by omega) (by rw [f1 30 (by decide) (by decide), hs.2.2]; exact hok.2.2.1) ?_
      refine seg 2 (show Wp 110 0 [some (vR 0)] [] (u2 μ2 30 2 ((Int.toNat (μ2 30 2) ^^^ Int.toNat (1 * 2 ^ (r : Int).toNat) : Nat) : Int)) (fun rr μ' => Wp 95 37 [some (vR 0), some (vI r)] (rr.toList ++ []) μ' R) from ?_)
      obtain ⟨μ3, hμ3⟩ : ∃ z, z = u2 μ2 30 2 ((Int.toNat (μ2 30 2) ^^^ Int.toNat (1 * 2 ^ (r : Int).toNat) : Nat) : Int) := ⟨_, rfl⟩
      rw [← hμ3]
      have e3 : ∀ q, q ≠ 30 → μ3 q = μ2 q := fun q hq => by rw [hμ3]; exact u2_ne hq
      have hs3 : SeC (tR s r) (μ3 30) := by
        have e30 := f1 30 (by decide) (by decide)
        rw [hμ3, u2_at, e30]
        refine ⟨?_, ?_, ?_⟩ <;> first | (rw [up1_s]; done) | (rw [up1_s]; rfl) | (rw [up1_s]; show _ = xr _ _; unfold xr; first | rw [hs.2.1] | rw [hs.2.2]) | (rw [up1_n (by decide)]; first | exact hs.1 | exact hs.2.1 | exact hs.2.2)
      have hg3 : PG G μ3 := hg.fr (fun q a b => by rw [e3 q (by omega), f1 q (by omega) (by omega)])
      refine s110 hg3 hs3 (by first | exact tP_ok hok (by omega) | exact tR_ok hok (by omega) | exact ⟨by show 0 ≤ n ∧ n ≤ 4; omega, hok.2⟩) (fun μ4 f4 t4 => ?_)
      have hrc4 : RC G T (tR s r) (adU U s) im N μ4 := rc_mk hrc (fun q a1 a2 a3 a4 a5 a6 => by rw [f4 q a2 a3 a4, e3 q a1, f1 q a5 a6]) (by rw [f4 30 (by decide) (by decide) (by decide)]; exact hs3) (by first | exact tP_ok hok (by omega) | exact tR_ok hok (by omega) | exact ⟨by show 0 ≤ n ∧ n ≤ 4; omega, hok.2⟩) t4 (hu2.fr (by rw [f4 40 (by decide) (by decide) (by decide), e3 40 (by decide)]) (by rw [f4 41 (by decide) (by decide) (by decide), e3 41 (by decide)]))
      have hf4 : ∀ q, 47 ≤ q → μ4 q = μ q := fun q hq => by rw [f4 q (by omega) (by omega) (by omega), e3 q (by omega), f1 q (by omega) (by omega)]
      refine seg 4 (show Wp 67 0 [some (vR 30), some (vI r)] [] μ4 (fun rr μ' => Wp 95 45 [some (vR 0), some (vI r)] (rr.toList ++ []) μ' R) from ?_)
      refine q67 hrc4.1.2.1 hrc4.1.2.2.1 (by omega) (fun b3 => ?_) (fun b3 => ?_)
      ·
        refine seg 1 (show (1 = 0 → Wp 95 52 [some (vR 0), some (vI r)] [] μ4 R) ∧ (¬ (1 = 0) → Wp 95 48 [some (vR 0), some (vI r)] [] μ4 R) from ⟨fun z => absurd z (by decide), fun _ => ?_⟩)
        refine seg 3 (show R (some (vI 1)) μ4 from ?_)
        have := h3 (by omega) μ4 hrc4 hf4
        first | rw [if_pos (by assumption)] at this | rw [if_neg (by assumption)] at this
        exact this
      ·
        refine seg 1 (show (0 = 0 → Wp 95 52 [some (vR 0), some (vI r)] [] μ4 R) ∧ (¬ (0 = 0) → Wp 95 48 [some (vR 0), some (vI r)] [] μ4 R) from ⟨fun _ => ?_, fun z => absurd z (by decide)⟩)
        refine seg 2 (show R (some (vI 0)) μ4 from ?_)
        have := h3 (by omega) μ4 hrc4 hf4
        first | rw [if_pos (by assumption)] at this | rw [if_neg (by assumption)] at this
        exact this
    ·
      refine seg 2 (show R (some (vI (-1))) μ from ?_)
      exact h1 (by omega)
theorem c96 {G : Hi} {T : Tx} {s : Se} {U : Un} {im : Int → Option Se} {N : Sn} {R : Po} {μ : Mu} (hrc : RC G T s U im N μ) (h1 : U.1 = 0 → R (some (vI (-2))) μ) (h3 : 0 < U.1 → ∀ μ2 : Mu, RC G T (U.2 (U.1 - 1)) (U.1 - 1, U.2) im N μ2 → (∀ q, 47 ≤ q → μ2 q = μ q) → R (some (vI (U.1 - 1))) μ2) : Wp 96 0 [some (vR 0)] [] μ R := by
  have hh := hrc.1
  have hg := hh.1
  have hc := hg.1
  have hn := hc.1.n
  have hs := hh.2.1
  have hok := hh.2.2.1
  have hu := hrc.2.2.1
  have hu1 := hu.1
  have hu2 := hu.2.1
  refine seg 3 (show Wp 1 0 [some (vR 40)] [] μ (fun rr μ' => Wp 96 7 [some (vR 0)] (rr.toList ++ []) μ' R) from ?_)
  refine k1 hu ?_
  refine seg 1 (show (¬ (U.1 = 0) → Wp 96 13 [some (vR 0)] [] μ R) ∧ (U.1 = 0 → Wp 96 10 [some (vR 0)] [] μ R) from ⟨fun c1 => ?_, fun c1 => ?_⟩)
  ·
    refine seg 5 (show Wp 5 0 [some (vR 40)] [] μ (fun rr μ' => Wp 96 24 [some (vR 0)] (rr.toList ++ [vR 30]) μ' R) from ?_)
    refine s5 (by omega) ?_
    obtain ⟨μ2, hμ2⟩ : ∃ z, z = u2 μ 40 1 (μ 40 1 - 1) := ⟨_, rfl⟩
    rw [← hμ2]
    have e2 : ∀ q, q ≠ 40 → μ2 q = μ q := fun q hq => by rw [hμ2]; exact u2_ne hq
    have hcode := hu.2.2 (U.1 - 1) (by omega) (by omega)
    refine seg 1 (show Wp 59 0 [some (vR 30), some (vI (μ 41 (μ 40 1 - 1)))] [] μ2 (fun rr μ' => Wp 96 27 [some (vR 0)] (rr.toList ++ []) μ' R) from ?_)
    refine s59_30 (s := U.2 (U.1 - 1)) (by rw [hu.1]; exact hcode.1) hcode.2 (fun μ3 f3 hs3 => ?_)
    have hg3 : PG G μ3 := hg.fr (fun q a b => by rw [f3 q (by omega), e2 q (by omega)])
    refine seg 2 (show Wp 110 0 [some (vR 0)] [] μ3 (fun rr μ' => Wp 96 31 [some (vR 0)] (rr.toList ++ []) μ' R) from ?_)
    refine s110 hg3 hs3 hcode.2 (fun μ4 f4 t4 => ?_)
    have e40 : μ4 40 1 = U.1 - 1 := by rw [f4 40 (by decide) (by decide) (by decide), f3 40 (by decide), hμ2, u2_at, up1_s, hu.1]
    have hU4 : RU (U.1 - 1, U.2) μ4 := ⟨e40, ⟨by show 0 ≤ U.1 - 1; omega, by show U.1 - 1 ≤ 10; omega⟩, fun i a1 a2 => by
      have a2 : i < U.1 - 1 := a2
      rw [f4 41 (by decide) (by decide) (by decide), f3 41 (by decide), e2 41 (by decide)]
      exact hu.2.2 i a1 (by omega)⟩
    have hrc4 : RC G T (U.2 (U.1 - 1)) (U.1 - 1, U.2) im N μ4 := rc_mk hrc (fun q a1 a2 a3 a4 a5 a6 => by rw [f4 q a2 a3 a4, f3 q a1, e2 q a5]) (by rw [f4 30 (by decide) (by decide) (by decide)]; exact hs3) hcode.2 t4 hU4
    have hf4 : ∀ q, 47 ≤ q → μ4 q = μ q := fun q hq => by rw [f4 q (by omega) (by omega) (by omega), f3 q (by omega), e2 q (by omega)]
    refine seg 3 (show Wp 1 0 [some (vR 40)] [] μ4 (fun rr μ' => Wp 96 38 [some (vR 0)] (rr.toList ++ []) μ' R) from ?_)
    refine k1 hrc4.2.2.1 ?_
    refine seg 1 (show R (some (vI (U.1 - 1))) μ4 from ?_)
    exact h3 (by omega) μ4 hrc4 hf4
  ·
    refine seg 2 (show R (some (vI (-2))) μ from ?_)
    exact h1 (by omega)
theorem c104 {G : Hi} {T : Tx} {s : Se} {U : Un} {im : Int → Option Se} {N : Sn} {R : Po} {μ : Mu} (hrc : RC G T s U im N μ) {r k f bb : Int} (h1 : ¬ (vLn G r k ∧ (0 ≤ f ∧ f < hN G) ∧ (0 ≤ bb ∧ bb ≤ 1)) → R (some (vI (-1))) μ) (h2 : (vLn G r k ∧ (0 ≤ f ∧ f < hN G) ∧ (0 ≤ bb ∧ bb ≤ 1)) → 6 ≤ N.1 → R (some (vI (-3))) μ) (h3 : (vLn G r k ∧ (0 ≤ f ∧ f < hN G) ∧ (0 ≤ bb ∧ bb ≤ 1)) → N.1 < 6 → ∀ μ2 : Mu, RC G T s U im (N.1 + 1, fun i => if i = N.1 then (r, k, f, bb) else N.2 i) μ2 → (∀ q, 47 ≤ q → μ2 q = μ q) → R (some (vI (N.1 + 1))) μ2) : Wp 104 0 [some (vR 0), some (vI r), some (vI k), some (vI f), some (vI bb)] [] μ R := by
  have hh := hrc.1
  have hg := hh.1
  have hc := hg.1
  have hn := hc.1.n
  have hs := hh.2.1
  have hok := hh.2.2.1
  have hu := hrc.2.2.1
  have hn0 := hrc.2.2.2.2
  have hn1 := hn0.1
  have hn2 := hn0.2.1
  refine seg 5 (show Wp 45 0 [some (vR 8), some (vI r), some (vI k)] [] μ (fun rr μ' => Wp 104 9 [some (vR 0), some (vI r), some (vI k), some (vI f), some (vI bb)] (rr.toList ++ []) μ' R) from ?_)
  refine g45 hc (fun b1 => ?_) (fun b1 => ?_)
  ·
    refine seg 1 (show (1 = 0 → Wp 104 34 [some (vR 0), some (vI r), some (vI k), some (vI f), some (vI bb)] [] μ R) ∧ (¬ (1 = 0) → Wp 104 12 [some (vR 0), some (vI r), some (vI k), some (vI f), some (vI bb)] [] μ R) from ⟨fun z => absurd z (by decide), fun _ => ?_⟩)
    refine seg 4 (show Wp 44 0 [some (vR 8), some (vI f)] [] μ (fun rr μ' => Wp 104 20 [some (vR 0), some (vI r), some (vI k), some (vI f), some (vI bb)] (rr.toList ++ []) μ' R) from ?_)
    refine g44 hc (fun b2 => ?_) (fun b2 => ?_)
    ·
      refine seg 1 (show (1 = 0 → Wp 104 34 [some (vR 0), some (vI r), some (vI k), some (vI f), some (vI bb)] [] μ R) ∧ (¬ (1 = 0) → Wp 104 23 [some (vR 0), some (vI r), some (vI k), some (vI f), some (vI bb)] [] μ R) from ⟨fun z => absurd z (by decide), fun _ => ?_⟩)
      refine seg 2 (show (bb < 0 → Wp 104 34 [some (vR 0), some (vI r), some (vI k), some (vI f), some (vI bb)] [] μ R) ∧ (¬ (bb < 0) → Wp 104 28 [some (vR 0), some (vI r), some (vI k), some (vI f), some (vI bb)] [] μ R) from ⟨fun c3 => ?_, fun c3 => ?_⟩)
      ·
        refine seg 2 (show R (some (vI (-1))) μ from ?_)
        exact h1 (by omega)
      ·
        refine seg 3 (show (bb ≤ 1 → Wp 104 36 [some (vR 0), some (vI r), some (vI k), some (vI f), some (vI bb)] [] μ R) ∧ (¬ (bb ≤ 1) → Wp 104 34 [some (vR 0), some (vI r), some (vI k), some (vI f), some (vI bb)] [] μ R) from ⟨fun c4 => ?_, fun c4 => ?_⟩)
        ·
          refine seg 3 (show Wp 70 0 [some (vR 42)] [] μ (fun rr μ' => Wp 104 43 [some (vR 0), some (vI r), some (vI k), some (vI f), some (vI bb)] (rr.toList ++ []) μ' R) from ?_)
          refine k70 hn0 ?_
          refine seg 2 (show (N.1 < 6 → Wp 104 51 [some (vR 0), some (vI r), some (vI k), some (vI f), some (vI bb)] [] μ R) ∧ (¬ (N.1 < 6) → Wp 104 48 [some (vR 0), some (vI r), some (vI k), some (vI f), some (vI bb)] [] μ R) from ⟨fun c5 => ?_, fun c5 => ?_⟩)
          ·
            refine seg 5 (show Wp 114 0 [some (vI r), some (vI k)] [] μ (fun rr μ' => Wp 104 60 [some (vR 0), some (vI r), some (vI k), some (vI f), some (vI bb)] (rr.toList ++ [vR 42]) μ' R) from ?_)
            refine s114 (by have := hc.1.s (r := r) (by omega); omega) ?_
            refine seg 4 (show (¬ (bb = 1) → Wp 104 71 [some (vR 0), some (vI r), some (vI k), some (vI f), some (vI bb)] [vI f, vI (r * 8 + k), vR 42] μ R) ∧ (bb = 1 → Wp 104 67 [some (vR 0), some (vI r), some (vI k), some (vI f), some (vI bb)] [vI f, vI (r * 8 + k), vR 42] μ R) from ⟨fun c6 => ?_, fun c6 => ?_⟩)
            ·
              refine seg 2 (show Wp 72 0 [some (vR 42), some (vI (r * 8 + k)), some (vI f), some (vI 0)] [] μ (fun rr μ' => Wp 104 75 [some (vR 0), some (vI r), some (vI k), some (vI f), some (vI bb)] (rr.toList ++ []) μ' R) from ?_)
              refine s72 (by omega) (by decide) ?_
              obtain ⟨μ2, hμ2⟩ : ∃ q, q = u2 (u2 (u2 (u2 μ 43 (μ 42 3) (r * 8 + k)) 44 (μ 42 3) f) 45 (μ 42 3) 0) 42 3 (μ 42 3 + 1) := ⟨_, rfl⟩
              rw [← hμ2]
              have hbz : (0 : Int) = bb := by omega
              have e42 : μ2 42 3 = N.1 + 1 := by rw [hμ2, u2_at, up1_s, hn0.1]
              have e43 : μ2 43 = up1 (μ 43) N.1 (r * 8 + k) := by rw [hμ2, u2_ne (by decide), u2_ne (by decide), u2_ne (by decide), u2_at, hn0.1]
              have e44 : μ2 44 = up1 (μ 44) N.1 f := by rw [hμ2, u2_ne (by decide), u2_ne (by decide), u2_at, u2_ne (by decide), hn0.1]
              have e45 : μ2 45 = up1 (μ 45) N.1 bb := by rw [hμ2, u2_ne (by decide), u2_at, u2_ne (by decide), u2_ne (by decide), hn0.1, hbz]
              have hN2 : RN G (N.1 + 1, fun i => if i = N.1 then (r, k, f, bb) else N.2 i) μ2 := by
                refine ⟨e42, ⟨by show 0 ≤ N.1 + 1; omega, by show N.1 + 1 ≤ 6; omega⟩, fun i a1 a2 => ?_⟩
                have a2 : i < N.1 + 1 := a2
                rw [e43, e44, e45]
                show _ = (if i = N.1 then (r, k, f, bb) else N.2 i).1 * 8 + (if i = N.1 then (r, k, f, bb) else N.2 i).2.1 ∧ _ = (if i = N.1 then (r, k, f, bb) else N.2 i).2.2.1 ∧ _ = (if i = N.1 then (r, k, f, bb) else N.2 i).2.2.2 ∧ SnOK G (if i = N.1 then (r, k, f, bb) else N.2 i)
                by_cases hi : i = N.1
                · rw [if_pos hi, hi, up1_s, up1_s, up1_s]
                  exact ⟨rfl, rfl, rfl, ⟨by show 0 ≤ r ∧ r < hN G; omega, by show 0 ≤ k ∧ k < hS G r; omega, by show 0 ≤ f ∧ f < hN G; omega, by show bb = 0 ∨ bb = 1; omega⟩⟩
                · rw [if_neg hi, up1_n hi, up1_n hi, up1_n hi]
                  exact hn0.2.2 i a1 (by omega)
              have e2 : ∀ q, q ≠ 42 → q ≠ 43 → q ≠ 44 → q ≠ 45 → μ2 q = μ q := fun q a1 a2 a3 a4 => by rw [hμ2, u2_ne a1, u2_ne a4, u2_ne a3, u2_ne a2]
              have hrc2 : RC G T s U im (N.1 + 1, fun i => if i = N.1 then (r, k, f, bb) else N.2 i) μ2 := ⟨hh.fr (fun q _ _ _ => e2 q (by omega) (by omega) (by omega) (by omega)), hrc.2.1.fr (e2 1 (by decide) (by decide) (by decide) (by decide)) (e2 2 (by decide) (by decide) (by decide) (by decide)), hrc.2.2.1.fr (e2 40 (by decide) (by decide) (by decide) (by decide)) (e2 41 (by decide) (by decide) (by decide) (by decide)), hrc.2.2.2.1.fr (e2 46 (by decide) (by decide) (by decide) (by decide)), hN2⟩
              refine seg 3 (show Wp 70 0 [some (vR 42)] [] μ2 (fun rr μ' => Wp 104 82 [some (vR 0), some (vI r), some (vI k), some (vI f), some (vI bb)] (rr.toList ++ []) μ' R) from ?_)
              refine k70 hrc2.2.2.2.2 ?_
              refine seg 1 (show R (some (vI (N.1 + 1))) μ2 from ?_)
              exact h3 (by omega) (by omega) μ2 hrc2 (fun q hq => e2 q (by omega) (by omega) (by omega) (by omega))
            ·
              refine seg 3 (show Wp 72 0 [some (vR 42), some (vI (r * 8 + k)), some (vI f), some (vI 1)] [] μ (fun rr μ' => Wp 104 75 [some (vR 0), some (vI r), some (vI k), some (vI f), some (vI bb)] (rr.toList ++ []) μ' R) from ?_)
              refine s72 (by omega) (by decide) ?_
              obtain ⟨μ2, hμ2⟩ : ∃ q, q = u2 (u2 (u2 (u2 μ 43 (μ 42 3) (r * 8 + k)) 44 (μ 42 3) f) 45 (μ 42 3) 1) 42 3 (μ 42 3 + 1) := ⟨_, rfl⟩
              rw [← hμ2]
              have hbz : (1 : Int) = bb := by omega
              have e42 : μ2 42 3 = N.1 + 1 := by rw [hμ2, u2_at, up1_s, hn0.1]
              have e43 : μ2 43 = up1 (μ 43) N.1 (r * 8 + k) := by rw [hμ2, u2_ne (by decide), u2_ne (by decide), u2_ne (by decide), u2_at, hn0.1]
              have e44 : μ2 44 = up1 (μ 44) N.1 f := by rw [hμ2, u2_ne (by decide), u2_ne (by decide), u2_at, u2_ne (by decide), hn0.1]
              have e45 : μ2 45 = up1 (μ 45) N.1 bb := by rw [hμ2, u2_ne (by decide), u2_at, u2_ne (by decide), u2_ne (by decide), hn0.1, hbz]
              have hN2 : RN G (N.1 + 1, fun i => if i = N.1 then (r, k, f, bb) else N.2 i) μ2 := by
                refine ⟨e42, ⟨by show 0 ≤ N.1 + 1; omega, by show N.1 + 1 ≤ 6; omega⟩, fun i a1 a2 => ?_⟩
                have a2 : i < N.1 + 1 := a2
                rw [e43, e44, e45]
                show _ = (if i = N.1 then (r, k, f, bb) else N.2 i).1 * 8 + (if i = N.1 then (r, k, f, bb) else N.2 i).2.1 ∧ _ = (if i = N.1 then (r, k, f, bb) else N.2 i).2.2.1 ∧ _ = (if i = N.1 then (r, k, f, bb) else N.2 i).2.2.2 ∧ SnOK G (if i = N.1 then (r, k, f, bb) else N.2 i)
                by_cases hi : i = N.1
                · rw [if_pos hi, hi, up1_s, up1_s, up1_s]
                  exact ⟨rfl, rfl, rfl, ⟨by show 0 ≤ r ∧ r < hN G; omega, by show 0 ≤ k ∧ k < hS G r; omega, by show 0 ≤ f ∧ f < hN G; omega, by show bb = 0 ∨ bb = 1; omega⟩⟩
                · rw [if_neg hi, up1_n hi, up1_n hi, up1_n hi]
                  exact hn0.2.2 i a1 (by omega)
              have e2 : ∀ q, q ≠ 42 → q ≠ 43 → q ≠ 44 → q ≠ 45 → μ2 q = μ q := fun q a1 a2 a3 a4 => by rw [hμ2, u2_ne a1, u2_ne a4, u2_ne a3, u2_ne a2]
              have hrc2 : RC G T s U im (N.1 + 1, fun i => if i = N.1 then (r, k, f, bb) else N.2 i) μ2 := ⟨hh.fr (fun q _ _ _ => e2 q (by omega) (by omega) (by omega) (by omega)), hrc.2.1.fr (e2 1 (by decide) (by decide) (by decide) (by decide)) (e2 2 (by decide) (by decide) (by decide) (by decide)), hrc.2.2.1.fr (e2 40 (by decide) (by decide) (by decide) (by decide)) (e2 41 (by decide) (by decide) (by decide) (by decide)), hrc.2.2.2.1.fr (e2 46 (by decide) (by decide) (by decide) (by decide)), hN2⟩
              refine seg 3 (show Wp 70 0 [some (vR 42)] [] μ2 (fun rr μ' => Wp 104 82 [some (vR 0), some (vI r), some (vI k), some (vI f), some (vI bb)] (rr.toList ++ []) μ' R) from ?_)
              refine k70 hrc2.2.2.2.2 ?_
              refine seg 1 (show R (some (vI (N.1 + 1))) μ2 from ?_)
              exact h3 (by omega) (by omega) μ2 hrc2 (fun q hq => e2 q (by omega) (by omega) (by omega) (by omega))
          ·
            refine seg 2 (show R (some (vI (-3))) μ from ?_)
            exact h2 (by omega) (by omega)
        ·
          refine seg 2 (show R (some (vI (-1))) μ from ?_)
          exact h1 (by omega)
    ·
      refine seg 1 (show (0 = 0 → Wp 104 34 [some (vR 0), some (vI r), some (vI k), some (vI f), some (vI bb)] [] μ R) ∧ (¬ (0 = 0) → Wp 104 23 [some (vR 0), some (vI r), some (vI k), some (vI f), some (vI bb)] [] μ R) from ⟨fun _ => ?_, fun z => absurd z (by decide)⟩)
      refine seg 2 (show R (some (vI (-1))) μ from ?_)
      exact h1 (by omega)
  ·
    refine seg 1 (show (0 = 0 → Wp 104 34 [some (vR 0), some (vI r), some (vI k), some (vI f), some (vI bb)] [] μ R) ∧ (¬ (0 = 0) → Wp 104 12 [some (vR 0), some (vI r), some (vI k), some (vI f), some (vI bb)] [] μ R) from ⟨fun _ => ?_, fun z => absurd z (by decide)⟩)
    refine seg 2 (show R (some (vI (-1))) μ from ?_)
    exact h1 (by omega)
theorem c105 {G : Hi} {T : Tx} {s : Se} {U : Un} {im : Int → Option Se} {N : Sn} {R : Po} {μ : Mu} (hrc : RC G T s U im N μ) (hk : ∀ μ2 : Mu, RC G T s U im (0, N.2) μ2 → (∀ q, 47 ≤ q → μ2 q = μ q) → R (some (vI N.1)) μ2) : Wp 105 0 [some (vR 0), none] [] μ R := by
  have hh := hrc.1
  have hg := hh.1
  have hc := hg.1
  have hn := hc.1.n
  have hs := hh.2.1
  have hok := hh.2.2.1
  have hu := hrc.2.2.1
  refine seg 3 (show Wp 70 0 [some (vR 42)] [] μ (fun rr μ' => Wp 105 7 [some (vR 0), none] (rr.toList ++ []) μ' R) from ?_)
  refine k70 hrc.2.2.2.2 ?_
  refine seg 4 (show Wp 71 0 [some (vR 42)] [] μ (fun rr μ' => Wp 105 15 [some (vR 0), some (vI N.1)] (rr.toList ++ []) μ' R) from ?_)
  refine s71 ?_
  refine seg 2 (show R (some (vI N.1)) (u2 μ 42 3 0) from ?_)
  refine hk _ ⟨hh.fr (fun q a b _ => by rw [u2_ne (by omega)]), hrc.2.1.fr (by rw [u2_ne (by decide)]) (by rw [u2_ne (by decide)]), hrc.2.2.1.fr (by rw [u2_ne (by decide)]) (by rw [u2_ne (by decide)]), hrc.2.2.2.1.fr (by rw [u2_ne (by decide)]), ⟨by rw [u2_at, up1_s], ⟨Int.le_refl _, by show (0 : Int) ≤ 6; decide⟩, fun i a1 a2 => absurd (show i < 0 from a2) (by omega)⟩⟩ (fun q hq => by rw [u2_ne (by omega)])
theorem c107 {G : Hi} {T : Tx} {s : Se} {U : Un} {im : Int → Option Se} {N : Sn} {R : Po} {μ : Mu} (hrc : RC G T s U im N μ) {i : Int} (h1 : ¬ (0 ≤ i ∧ i < 2) → R (some (vI (-1))) μ) (h3 : (0 ≤ i ∧ i < 2) → ∀ μ2 : Mu, RC G T s U (fun j => if j = i then some s else im j) N μ2 → (∀ q, 47 ≤ q → μ2 q = μ q) → R (some (vI s.1)) μ2) : Wp 107 0 [some (vR 0), some (vI i)] [] μ R := by
  have hh := hrc.1
  have hg := hh.1
  have hc := hg.1
  have hn := hc.1.n
  have hs := hh.2.1
  have hok := hh.2.2.1
  have hu := hrc.2.2.1
  refine seg 2 (show (i < 0 → Wp 107 9 [some (vR 0), some (vI i)] [] μ R) ∧ (¬ (i < 0) → Wp 107 4 [some (vR 0), some (vI i)] [] μ R) from ⟨fun c1 => ?_, fun c1 => ?_⟩)
  ·
    refine seg 2 (show R (some (vI (-1))) μ from ?_)
    exact h1 (by omega)
  ·
    refine seg 3 (show (i < 2 → Wp 107 11 [some (vR 0), some (vI i)] [] μ R) ∧ (¬ (i < 2) → Wp 107 9 [some (vR 0), some (vI i)] [] μ R) from ⟨fun c2 => ?_, fun c2 => ?_⟩)
    ·
      refine seg 6 (show Wp 58 0 [some (vR 30)] [] μ (fun rr μ' => Wp 107 23 [some (vR 0), some (vI i)] (rr.toList ++ [vI i, vR 46]) μ' R) from ?_)
      refine s58_30 hs hok ?_
      refine seg 4 (show (0 ≤ i ∧ i < 2) ∧ Wp 60 0 [some (vR 30)] [] (u2 μ 46 i (cod s)) (fun rr μ' => Wp 107 31 [some (vR 0), some (vI i)] (rr.toList ++ []) μ' R) from ⟨by omega, ?_⟩)
      refine k60 (by rw [u2_ne (by decide)]; exact hs) ?_
      refine seg 1 (show R (some (vI s.1)) (u2 μ 46 i (cod s)) from ?_)
      refine h3 (by omega) _ ⟨hh.fr (fun q a b _ => by rw [u2_ne (by omega)]), hrc.2.1.fr (by rw [u2_ne (by decide)]) (by rw [u2_ne (by decide)]), hrc.2.2.1.fr (by rw [u2_ne (by decide)]) (by rw [u2_ne (by decide)]), fun j a1 a2 => ?_, hrc.2.2.2.2.fr (by rw [u2_ne (by decide)]) (by rw [u2_ne (by decide)]) (by rw [u2_ne (by decide)]) (by rw [u2_ne (by decide)])⟩ (fun q hq => by rw [u2_ne (by omega)])
      rw [u2_at]
      dsimp only
      by_cases hj : j = i
      · rw [if_pos hj, hj, up1_s]; exact ⟨rfl, hok⟩
      · rw [if_neg hj, up1_n hj]; exact hrc.2.2.2.1 j a1 a2
    ·
      refine seg 2 (show R (some (vI (-1))) μ from ?_)
      exact h1 (by omega)
theorem c108 {G : Hi} {T : Tx} {s : Se} {U : Un} {im : Int → Option Se} {N : Sn} {R : Po} {μ : Mu} (hrc : RC G T s U im N μ) {i : Int} (h1 : ¬ (0 ≤ i ∧ i < 2) → R (some (vI (-1))) μ) (h2 : (0 ≤ i ∧ i < 2) → im i = none → R (some (vI (-2))) μ) (h3 : ∀ s9 : Se, (0 ≤ i ∧ i < 2) → im i = some s9 → ∀ μ2 : Mu, RC G T s9 (0, U.2) im N μ2 → (∀ q, 47 ≤ q → μ2 q = μ q) → R (some (vI s9.1)) μ2) : Wp 108 0 [some (vR 0), some (vI i)] [] μ R := by
  have hh := hrc.1
  have hg := hh.1
  have hc := hg.1
  have hn := hc.1.n
  have hs := hh.2.1
  have hok := hh.2.2.1
  have hu := hrc.2.2.1
  refine seg 2 (show (i < 0 → Wp 108 9 [some (vR 0), some (vI i)] [] μ R) ∧ (¬ (i < 0) → Wp 108 4 [some (vR 0), some (vI i)] [] μ R) from ⟨fun c1 => ?_, fun c1 => ?_⟩)
  ·
    refine seg 2 (show R (some (vI (-1))) μ from ?_)
    exact h1 (by omega)
  ·
    refine seg 3 (show (i < 2 → Wp 108 11 [some (vR 0), some (vI i)] [] μ R) ∧ (¬ (i < 2) → Wp 108 9 [some (vR 0), some (vI i)] [] μ R) from ⟨fun c2 => ?_, fun c2 => ?_⟩)
    ·
      have hI := hrc.2.2.2.1 i (by omega) (by omega)
      cases him : im i with
      | none =>
        rw [him] at hI
        dsimp only at hI
        refine seg 6 (show (0 ≤ i ∧ i < 2) ∧ (¬ (μ 46 i = -9) → Wp 108 25 [some (vR 0), some (vI i)] [] μ R) ∧ (μ 46 i = -9 → Wp 108 22 [some (vR 0), some (vI i)] [] μ R) from ⟨by omega, fun c23 => ?_, fun c23 => ?_⟩)
        ·
          exact absurd hI (by assumption)
        ·
          refine seg 2 (show R (some (vI (-2))) μ from ?_)
          exact h2 (by omega) him
      | some s9 =>
        rw [him] at hI
        dsimp only at hI
        have hcr := cod_rg hI.2
        refine seg 6 (show (0 ≤ i ∧ i < 2) ∧ (¬ (μ 46 i = -9) → Wp 108 25 [some (vR 0), some (vI i)] [] μ R) ∧ (μ 46 i = -9 → Wp 108 22 [some (vR 0), some (vI i)] [] μ R) from ⟨by omega, fun c23 => ?_, fun c23 => ?_⟩)
        ·
          refine seg 7 (show (0 ≤ i ∧ i < 2) ∧ Wp 59 0 [some (vR 30), some (vI (μ 46 i))] [] μ (fun rr μ' => Wp 108 38 [some (vR 0), some (vI i)] (rr.toList ++ []) μ' R) from ⟨by omega, ?_⟩)
          refine s59_30 (s := s9) hI.1 hI.2 (fun μ3 f3 hs3 => ?_)
          have hg3 : PG G μ3 := hg.fr (fun q a b => f3 q (by omega))
          refine seg 3 (show Wp 2 0 [some (vR 40)] [] μ3 (fun rr μ' => Wp 108 45 [some (vR 0), some (vI i)] (rr.toList ++ []) μ' R) from ?_)
          refine s2 ?_
          refine seg 2 (show Wp 110 0 [some (vR 0)] [] (u2 μ3 40 1 0) (fun rr μ' => Wp 108 49 [some (vR 0), some (vI i)] (rr.toList ++ []) μ' R) from ?_)
          obtain ⟨μ5, hμ5⟩ : ∃ z, z = u2 μ3 40 1 0 := ⟨_, rfl⟩
          rw [← hμ5]
          have e5 : ∀ q, q ≠ 40 → μ5 q = μ3 q := fun q hq => by rw [hμ5]; exact u2_ne hq
          refine s110 (hg3.fr (fun q a b => e5 q (by omega))) (by rw [e5 30 (by decide)]; exact hs3) hI.2 (fun μ4 f4 t4 => ?_)
          have hU4 : RU (0, U.2) μ4 := ⟨by rw [f4 40 (by decide) (by decide) (by decide), hμ5, u2_at, up1_s], ⟨Int.le_refl _, by show (0 : Int) ≤ 10; decide⟩, fun i a1 a2 => absurd (show i < 0 from a2) (by omega)⟩
          have hrc4 : RC G T s9 (0, U.2) im N μ4 := rc_mk hrc (fun q a1 a2 a3 a4 a5 a6 => by rw [f4 q a2 a3 a4, e5 q a5, f3 q a1]) (by rw [f4 30 (by decide) (by decide) (by decide), e5 30 (by decide)]; exact hs3) hI.2 t4 hU4
          have hf4 : ∀ q, 47 ≤ q → μ4 q = μ q := fun q hq => by rw [f4 q (by omega) (by omega) (by omega), e5 q (by omega), f3 q (by omega)]
          refine seg 3 (show Wp 60 0 [some (vR 30)] [] μ4 (fun rr μ' => Wp 108 56 [some (vR 0), some (vI i)] (rr.toList ++ []) μ' R) from ?_)
          refine k60 hrc4.1.2.1 ?_
          refine seg 1 (show R (some (vI s9.1)) μ4 from ?_)
          first | (exfalso; omega) | exact h3 s9 (by omega) him μ4 hrc4 hf4
        ·
          refine seg 2 (show R (some (vI (-2))) μ from ?_)
          first | (exfalso; omega) | exact h3 s9 (by omega) him μ4 hrc4 hf4
    ·
      refine seg 2 (show R (some (vI (-1))) μ from ?_)
      exact h1 (by omega)
theorem o82t {G : Hi} {s : Se} {μ : Mu} {R : Po} {r k r' k' : Int} (hG : HiOK G) (hT : ∀ r k, 0 ≤ r → r < hN G → 0 ≤ k → k < hS G r → TrC G s (μ 37) (μ 38) (μ 39) r k) (er : r = r') (ek : k = k') (hr : 0 ≤ r' ∧ r' < hN G) (hk8 : 0 ≤ k' ∧ k' < hS G r') (h : R (some (vI (og G s r' k').1)) μ) : Wp 82 0 [some (vR 36), some (vI r), some (vI k)] [] μ R := by
  subst er; subst ek
  have h1 := hG.n; have h2 := hG.s hr
  exact s82v_36 (by omega) (by rw [(hT r k hr.1 hr.2 hk8.1 hk8.2).1]; exact h)
theorem l73 {G : Hi} {s : Se} {N : Sn} {R : Po} {μ : Mu} (hG : HiOK G) (hN0 : RN G N μ) (hT : ∀ r k, 0 ≤ r → r < hN G → 0 ≤ k → k < hS G r → TrC G s (μ 37) (μ 38) (μ 39) r k) (hy : SO G s N N.1 → R (some (vI 1)) μ) (hn : ¬ SO G s N N.1 → R (some (vI 0)) μ) : ∀ (n : Nat) (i : Int) (o3 : Option PV), N.1 - i = n → 0 ≤ i → SO G s N i → Wp 73 2 [some (vR 42), some (vR 36), some (vI i), o3] [] μ R := by
  have hn1 := hN0.1
  have hn2 := hN0.2.1
  have hn8 := hG.n
  intro n
  induction n with
  | zero =>
    intro i o3 hm h0 hS
    refine seg 4 (show (μ 42 3 ≤ i → Wp 73 74 [some (vR 42), some (vR 36), some (vI i), o3] [] μ R) ∧ (¬ (μ 42 3 ≤ i) → Wp 73 10 [some (vR 42), some (vR 36), some (vI i), o3] [] μ R) from ⟨fun c1 => ?_, fun c1 => ?_⟩)
    ·
      refine seg 2 (show (1 = 0 ∨ 1 = 1) ∧ R (some (vI 1)) μ from ⟨by decide, ?_⟩)
      first | (exfalso; omega) | (obtain rfl : i = N.1 := (by omega); exact hy hS)
    ·
      exfalso; omega
  | succ n ih =>
    intro i o3 hm h0 hS
    have hz := hN0.2.2 i h0 (by omega)
    obtain ⟨z1, z2, z3, z4⟩ := hz
    obtain ⟨y1, y2, y3, y4⟩ := z4
    have hsz := hG.s y1
    have hog := og_lt hG s y1 y2
    refine seg 4 (show (μ 42 3 ≤ i → Wp 73 74 [some (vR 42), some (vR 36), some (vI i), o3] [] μ R) ∧ (¬ (μ 42 3 ≤ i) → Wp 73 10 [some (vR 42), some (vR 36), some (vI i), o3] [] μ R) from ⟨fun c2 => ?_, fun c2 => ?_⟩)
    ·
      refine seg 2 (show (1 = 0 ∨ 1 = 1) ∧ R (some (vI 1)) μ from ⟨by decide, ?_⟩)
      first | (exfalso; omega) | (refine hn (fun z => ?_); have := z i h0 (by omega); rw [← z2, ← z3] at this; omega)
    ·
      refine seg 3 (show (6 ≤ i → Wp 73 74 [some (vR 42), some (vR 36), some (vI i), o3] [] μ R) ∧ (¬ (6 ≤ i) → Wp 73 16 [some (vR 42), some (vR 36), some (vI i), o3] [] μ R) from ⟨fun c3 => ?_, fun c3 => ?_⟩)
      ·
        refine seg 2 (show (1 = 0 ∨ 1 = 1) ∧ R (some (vI 1)) μ from ⟨by decide, ?_⟩)
        first | (exfalso; omega) | (refine hn (fun z => ?_); have := z i h0 (by omega); rw [← z2, ← z3] at this; omega)
      ·
        refine seg 14 (show (0 ≤ i ∧ i < 6) ∧ (0 ≤ (μ 43 i) ∧ 0 < 8) ∧ (0 ≤ i ∧ i < 6) ∧ (0 ≤ (μ 43 i) ∧ 0 < 8) ∧ Wp 82 0 [some (vR 36), some (vI ((μ 43 i) / 8)), some (vI ((μ 43 i) % 8))] [] μ (fun rr μ' => Wp 73 38 [some (vR 42), some (vR 36), some (vI i), o3] (rr.toList ++ []) μ' R) from ⟨by omega, by omega, by omega, by omega, ?_⟩)
        refine o82t hG hT (r' := (N.2 i).1) (k' := (N.2 i).2.1) (by omega) (by omega) y1 y2 ?_
        refine seg 9 (show (0 ≤ ((og G s (N.2 i).1 (N.2 i).2.1).1) ∧ 0 < 8) ∧ (0 ≤ i ∧ i < 6) ∧ (¬ (((og G s (N.2 i).1 (N.2 i).2.1).1) / 8 = μ 44 i) → Wp 73 56 [some (vR 42), some (vR 36), some (vI i), some (vI ((og G s (N.2 i).1 (N.2 i).2.1).1))] [] μ R) ∧ (((og G s (N.2 i).1 (N.2 i).2.1).1) / 8 = μ 44 i → Wp 73 52 [some (vR 42), some (vR 36), some (vI i), some (vI ((og G s (N.2 i).1 (N.2 i).2.1).1))] [] μ R) from ⟨by omega, by omega, fun c4 => ?_, fun c4 => ?_⟩)
        ·
          refine seg 6 (show (0 ≤ i ∧ i < 6) ∧ (0 = μ 45 i → Wp 73 68 [some (vR 42), some (vR 36), some (vI i), some (vI ((og G s (N.2 i).1 (N.2 i).2.1).1))] [] μ R) ∧ (¬ (0 = μ 45 i) → Wp 73 66 [some (vR 42), some (vR 36), some (vI i), some (vI ((og G s (N.2 i).1 (N.2 i).2.1).1))] [] μ R) from ⟨by omega, fun c5 => ?_, fun c5 => ?_⟩)
          ·
            refine seg 2 (show iR (i + 1) ∧ Wp 73 2 [some (vR 42), some (vR 36), some (vI (i + 1)), some (vI ((og G s (N.2 i).1 (N.2 i).2.1).1))] [] μ R from ⟨by omega, ?_⟩)
            refine ih (i + 1) _ (by omega) (by omega) (fun x a1 a2 => ?_)
            by_cases hx : x = i
            · subst hx; rw [← z2, ← z3]; constructor <;> intro _ <;> omega
            · exact hS x a1 (by omega)
          ·
            refine seg 2 (show (0 = 0 ∨ 0 = 1) ∧ R (some (vI 0)) μ from ⟨by decide, ?_⟩)
            first | (exfalso; omega) | (refine hn (fun z => ?_); have := z i h0 (by omega); rw [← z2, ← z3] at this; omega)
        ·
          refine seg 7 (show (0 ≤ i ∧ i < 6) ∧ (1 = μ 45 i → Wp 73 68 [some (vR 42), some (vR 36), some (vI i), some (vI ((og G s (N.2 i).1 (N.2 i).2.1).1))] [] μ R) ∧ (¬ (1 = μ 45 i) → Wp 73 66 [some (vR 42), some (vR 36), some (vI i), some (vI ((og G s (N.2 i).1 (N.2 i).2.1).1))] [] μ R) from ⟨by omega, fun c6 => ?_, fun c6 => ?_⟩)
          ·
            refine seg 2 (show iR (i + 1) ∧ Wp 73 2 [some (vR 42), some (vR 36), some (vI (i + 1)), some (vI ((og G s (N.2 i).1 (N.2 i).2.1).1))] [] μ R from ⟨by omega, ?_⟩)
            refine ih (i + 1) _ (by omega) (by omega) (fun x a1 a2 => ?_)
            by_cases hx : x = i
            · subst hx; rw [← z2, ← z3]; constructor <;> intro _ <;> omega
            · exact hS x a1 (by omega)
          ·
            refine seg 2 (show (0 = 0 ∨ 0 = 1) ∧ R (some (vI 0)) μ from ⟨by decide, ?_⟩)
            first | (exfalso; omega) | (refine hn (fun z => ?_); have := z i h0 (by omega); rw [← z2, ← z3] at this; omega)
theorem s73 {G : Hi} {s : Se} {N : Sn} {R : Po} {μ : Mu} (hG : HiOK G) (hN0 : RN G N μ) (hT : ∀ r k, 0 ≤ r → r < hN G → 0 ≤ k → k < hS G r → TrC G s (μ 37) (μ 38) (μ 39) r k) (hy : SO G s N N.1 → R (some (vI 1)) μ) (hn : ¬ SO G s N N.1 → R (some (vI 0)) μ) : Wp 73 0 [some (vR 42), some (vR 36), none, none] [] μ R := by
  refine seg 2 (show Wp 73 2 [some (vR 42), some (vR 36), some (vI 0), none] [] μ R from ?_)
  exact l73 hG hN0 hT hy hn N.1.toNat 0 none (by have := hN0.2.1; omega) (by decide) (fun x a1 a2 => absurd a2 (by omega))
theorem l106 {G : Hi} {T : Tx} {s : Se} {U : Un} {im : Int → Option Se} {N : Sn} {R : Po} {μ0 : Mu} (hrc0 : RC G T s U im N μ0) (hk : ∀ μ2 : Mu, RC G T s U im N μ2 → (∀ q, 47 ≤ q → μ2 q = μ0 q) → R (some (vI (aUns G s N))) μ2) : ∀ (n r : Nat) (μ : Mu), hN G - (r : Int) = n → (∀ q, q ≠ 31 → q ≠ 37 → q ≠ 38 → q ≠ 39 → μ q = μ0 q) → Wp 106 4 [some (vR 0), some (vI (bs (fun r => SO G (tP s r) N N.1) r)), some (vI (r : Int))] [] μ R := by
  intro n
  induction n with
  | zero =>
    intro r μ hm hF
    have hrc := hrc0.fr (μ' := μ) (fun q a b c d e => hF q b c d e)
    have hh := hrc.1
    have hg := hh.1
    have hc := hg.1
    have hn := hc.1.n
    have hs := hh.2.1
    have hok := hh.2.2.1
    have hu := hrc.2.2.1
    have hp : r < 8 → 1 * 2 ^ ((r : Int)).toNat ≤ (128 : Int) ∧ (0 : Int) ≤ 1 * 2 ^ ((r : Int)).toNat := fun z => pw_le (k := (r : Int)) (by omega)
    have hb := bs_nn (fun r => SO G (tP s r) N N.1) r
    refine seg 4 (show Wp 43 0 [some (vR 8)] [] μ (fun rr μ' => Wp 106 12 [some (vR 0), some (vI (bs (fun r => SO G (tP s r) N N.1) r)), some (vI (r : Int))] (rr.toList ++ [vI (r : Int)]) μ' R) from ?_)
    refine g43 hc ?_
    refine seg 1 (show (hN G ≤ (r : Int) → Wp 106 82 [some (vR 0), some (vI (bs (fun r => SO G (tP s r) N N.1) r)), some (vI (r : Int))] [] μ R) ∧ (¬ (hN G ≤ (r : Int)) → Wp 106 15 [some (vR 0), some (vI (bs (fun r => SO G (tP s r) N N.1) r)), some (vI (r : Int))] [] μ R) from ⟨fun c1 => ?_, fun c1 => ?_⟩)
    ·
      refine seg 2 (show R (some (vI (bs (fun r => SO G (tP s r) N N.1) r))) μ from ?_)
      first | (exfalso; omega) | (refine (fun z => ?_) (hk μ hrc (fun q hq => hF q (by omega) (by omega) (by omega) (by omega))); unfold aUns at z; rw [show (hN G).toNat = r by omega] at z; exact z)
    ·
      refine seg 5 (show Wp 58 0 [some (vR 30)] [] μ (fun rr μ' => Wp 106 26 [some (vR 0), some (vI (bs (fun r => SO G (tP s r) N N.1) r)), some (vI (r : Int))] (rr.toList ++ [vR 31]) μ' R) from ?_)
      exfalso; omega
  | succ n ih =>
    intro r μ hm hF
    have hrc := hrc0.fr (μ' := μ) (fun q a b c d e => hF q b c d e)
    have hh := hrc.1
    have hg := hh.1
    have hc := hg.1
    have hn := hc.1.n
    have hs := hh.2.1
    have hok := hh.2.2.1
    have hu := hrc.2.2.1
    have hp : r < 8 → 1 * 2 ^ ((r : Int)).toNat ≤ (128 : Int) ∧ (0 : Int) ≤ 1 * 2 ^ ((r : Int)).toNat := fun z => pw_le (k := (r : Int)) (by omega)
    have hb := bs_nn (fun r => SO G (tP s r) N N.1) r
    refine seg 4 (show Wp 43 0 [some (vR 8)] [] μ (fun rr μ' => Wp 106 12 [some (vR 0), some (vI (bs (fun r => SO G (tP s r) N N.1) r)), some (vI (r : Int))] (rr.toList ++ [vI (r : Int)]) μ' R) from ?_)
    refine g43 hc ?_
    refine seg 1 (show (hN G ≤ (r : Int) → Wp 106 82 [some (vR 0), some (vI (bs (fun r => SO G (tP s r) N N.1) r)), some (vI (r : Int))] [] μ R) ∧ (¬ (hN G ≤ (r : Int)) → Wp 106 15 [some (vR 0), some (vI (bs (fun r => SO G (tP s r) N N.1) r)), some (vI (r : Int))] [] μ R) from ⟨fun c2 => ?_, fun c2 => ?_⟩)
    ·
      refine seg 2 (show R (some (vI (bs (fun r => SO G (tP s r) N N.1) r))) μ from ?_)
      first | (exfalso; omega) | (refine (fun z => ?_) (hk μ hrc (fun q hq => hF q (by omega) (by omega) (by omega) (by omega))); unfold aUns at z; rw [show (hN G).toNat = r by omega] at z; exact z)
    ·
      refine seg 5 (show Wp 58 0 [some (vR 30)] [] μ (fun rr μ' => Wp 106 26 [some (vR 0), some (vI (bs (fun r => SO G (tP s r) N N.1) r)), some (vI (r : Int))] (rr.toList ++ [vR 31]) μ' R) from ?_)
      refine s58_30 hs hok ?_
      refine seg 1 (show Wp 59 0 [some (vR 31), some (vI (cod s))] [] μ (fun rr μ' => Wp 106 29 [some (vR 0), some (vI (bs (fun r => SO G (tP s r) N N.1) r)), some (vI (r : Int))] (rr.toList ++ []) μ' R) from ?_)
      refine s59_31 (s := s) rfl hok (fun μ2 f2 hs2 => ?_)
      refine seg 4 (show Wp 65 0 [some (vR 31), some (vI (r : Int))] [] μ2 (fun rr μ' => Wp 106 37 [some (vR 0), some (vI (bs (fun r => SO G (tP s r) N N.1) r)), some (vI (r : Int))] (rr.toList ++ []) μ' R) from ?_)
      refine s65_31 (by omega) (by rw [hs2.2.1]; exact hok.2.1.1) ?_
      obtain ⟨μ3, hμ3⟩ : ∃ z, z = u2 μ2 31 1 ((Int.toNat (μ2 31 1) ^^^ Int.toNat (1 * 2 ^ (((r : Int)) : Int).toNat) : Nat) : Int) := ⟨_, rfl⟩
      rw [← hμ3]
      have e3 : ∀ q, q ≠ 31 → μ3 q = μ2 q := fun q hq => by rw [hμ3]; exact u2_ne hq
      have hs3 : SeC (tP s (r : Int)) (μ3 31) := by
        rw [hμ3, u2_at]
        refine ⟨by rw [up1_n (by decide)]; exact hs2.1, ?_, by rw [up1_n (by decide)]; exact hs2.2.2⟩
        rw [up1_s, hs2.2.1]; rfl
      refine seg 9 (show Wp 85 0 [some (vR 36), some (vR 8), some (vR 12), some (vR 31), none, none] [] μ3 (fun rr μ' => Wp 106 56 [some (vR 0), some (vI (bs (fun r => SO G (tP s r) N N.1) r)), some (vI (r : Int))] (rr.toList ++ []) μ' R) from ?_)
      refine s85_36 (hg.fr (fun q a b => by rw [e3 q (by omega), f2 q (by omega)])) hs3 (tP_ok hok (by omega)) (fun μ4 f4 t4 => ?_)
      have hF4 : ∀ q, q ≠ 31 → q ≠ 37 → q ≠ 38 → q ≠ 39 → μ4 q = μ0 q := fun q a1 a2 a3 a4 => by rw [f4 q a2 a3 a4, e3 q a1, f2 q a1]; exact hF q a1 a2 a3 a4
      have hrc4 := hrc0.fr (μ' := μ4) (fun q a b c d e => hF4 q b c d e)
      refine seg 5 (show Wp 73 0 [some (vR 42), some (vR 36), none, none] [] μ4 (fun rr μ' => Wp 106 67 [some (vR 0), some (vI (bs (fun r => SO G (tP s r) N N.1) r)), some (vI (r : Int))] (rr.toList ++ []) μ' R) from ?_)
      refine s73 hc.1 hrc4.2.2.2.2 t4 (fun b3 => ?_) (fun b3 => ?_)
      ·
        refine seg 1 (show (1 = 0 → Wp 106 76 [some (vR 0), some (vI (bs (fun r => SO G (tP s r) N N.1) r)), some (vI (r : Int))] [] μ4 R) ∧ (¬ (1 = 0) → Wp 106 70 [some (vR 0), some (vI (bs (fun r => SO G (tP s r) N N.1) r)), some (vI (r : Int))] [] μ4 R) from ⟨fun z => absurd z (by decide), fun _ => ?_⟩)
        refine seg 8 (show (0 ≤ 1 ∧ 0 ≤ (r : Int) ∧ (r : Int) < 31 ∧ 1 * 2 ^ ((r : Int) : Int).toNat ≤ 2147483647) ∧ (0 ≤ (bs (fun r => SO G (tP s r) N N.1) r) ∧ 0 ≤ (1 * 2 ^ ((r : Int) : Int).toNat)) ∧ iR ((r : Int) + 1) ∧ Wp 106 4 [some (vR 0), some (vI ((Int.toNat (bs (fun r => SO G (tP s r) N N.1) r) ||| Int.toNat (1 * 2 ^ ((r : Int) : Int).toNat) : Nat) : Int)), some (vI ((r : Int) + 1))] [] μ4 R from ⟨by omega, by omega, by omega, ?_⟩)
        have := ih (r + 1) μ4 (by omega) hF4
        first | rw [bs_y (P := (fun r => SO G (tP s r) N N.1)) (by assumption)] at this | rw [bs_n (P := (fun r => SO G (tP s r) N N.1)) (by assumption)] at this
        exact this
      ·
        refine seg 1 (show (0 = 0 → Wp 106 76 [some (vR 0), some (vI (bs (fun r => SO G (tP s r) N N.1) r)), some (vI (r : Int))] [] μ4 R) ∧ (¬ (0 = 0) → Wp 106 70 [some (vR 0), some (vI (bs (fun r => SO G (tP s r) N N.1) r)), some (vI (r : Int))] [] μ4 R) from ⟨fun _ => ?_, fun z => absurd z (by decide)⟩)
        refine seg 2 (show iR ((r : Int) + 1) ∧ Wp 106 4 [some (vR 0), some (vI (bs (fun r => SO G (tP s r) N N.1) r)), some (vI ((r : Int) + 1))] [] μ4 R from ⟨by omega, ?_⟩)
        have := ih (r + 1) μ4 (by omega) hF4
        first | rw [bs_y (P := (fun r => SO G (tP s r) N N.1)) (by assumption)] at this | rw [bs_n (P := (fun r => SO G (tP s r) N N.1)) (by assumption)] at this
        exact this
theorem c106 {G : Hi} {T : Tx} {s : Se} {U : Un} {im : Int → Option Se} {N : Sn} {R : Po} {μ : Mu} (hrc : RC G T s U im N μ) (hk : ∀ μ2 : Mu, RC G T s U im N μ2 → (∀ q, 47 ≤ q → μ2 q = μ q) → R (some (vI (aUns G s N))) μ2) : Wp 106 0 [some (vR 0), none, none] [] μ R := by
  have hh := hrc.1
  have hg := hh.1
  have hc := hg.1
  have hn := hc.1.n
  have hs := hh.2.1
  have hok := hh.2.2.1
  have hu := hrc.2.2.1
  refine seg 4 (show Wp 106 4 [some (vR 0), some (vI 0), some (vI 0)] [] μ R from ?_)
  exact l106 hrc hk (hN G).toNat 0 μ (by omega) (fun _ _ _ _ _ => rfl)
