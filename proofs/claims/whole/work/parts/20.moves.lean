/-! MOVED in the class -/
theorem p19v {G : Hi} {μ : Mu} {R : Po} {r k : Int} (hI : PrC13 G μ r) (hb : 0 ≤ r ∧ r < 8 ∧ 0 ≤ k ∧ k < 8) (h : R (some (vI (pr G r 0 k))) μ) : Wp 19 0 [some (vR 13), some (vI r), some (vI k)] [] μ R := s19v_13 hb (by rw [hI.2.1.1 k hb.2.2.1 hb.2.2.2]; exact h)
theorem p19w {G : Hi} {μ : Mu} {R : Po} {r k : Int} (hI : PrC19 G μ r) (hb : 0 ≤ r ∧ r < 8 ∧ 0 ≤ k ∧ k < 8) (h : R (some (vI (pr G r 1 k))) μ) : Wp 19 0 [some (vR 19), some (vI r), some (vI k)] [] μ R := s19v_19 hb (by rw [hI.2.1.1 k hb.2.2.1 hb.2.2.2]; exact h)
theorem p20v {G : Hi} {μ : Mu} {R : Po} {r k : Int} (hI : PrC13 G μ r) (hb : 0 ≤ r ∧ r < 8 ∧ 0 ≤ k ∧ k < 8) (hy : ip G r k = 1 → R (some (vI 1)) μ) (hn : ip G r k = 0 → R (some (vI 0)) μ) : Wp 20 0 [some (vR 13), some (vI r), some (vI k)] [] μ R := by
  have h1 := hI.2.1.2.2 k hb.2.2.1 hb.2.2.2
  refine s20_13 hb hI.2.1.2.1.1 (fun z => hy (h1.mp z)) (fun z => hn ?_)
  rcases ip_rg G r k with h | h
  · exact h
  · exact absurd (h1.mpr h) z
def MvC (A B : Int → Int) (r k : Int) : Int × Int := (A (r * 8 + k), B (r * 8 + k))
theorem stM_out {k i j n : Int} {q : Int × Int} (h : ¬ (j ≤ k ∧ k < j + n)) : stM k q i j n = q := by
  unfold stM; rw [if_neg (fun z => h ⟨z.1, z.2.1⟩)]
theorem l15 {G : Hi} {r i j : Int} {R : Po} {μ : Mu} (hc : GC G μ) (hI : PrC13 G μ r) (hr : 0 ≤ r ∧ r < hN G) (hp : 0 ≤ hP G r 0 ∧ hP G r 0 < hN G) (hi : 0 ≤ i ∧ i ≤ 8) (hj : 0 ≤ j ∧ j ≤ 8) (hk : R (some (vI (rl G r i j))) μ) : ∀ (n : Nat) (m : Int), 9 - m = n → 0 ≤ m → rl G r i j = m + rl G r (i + m) (j + m) → Wp 15 11 [some (vR 8), some (vR 13), some (vI r), some (vI i), some (vI j), some (vI (hP G r 0)), some (vI m)] [] μ R := by
  have h2 := hc.1.n
  have hsp := hc.1.s hp
  have hsr := hc.1.s hr
  intro n
  induction n with
  | zero =>
    intro m hn h0 hm
    refine seg 3 (show (8 ≤ m → Wp 15 100 [some (vR 8), some (vR 13), some (vI r), some (vI i), some (vI j), some (vI (hP G r 0)), some (vI m)] [] μ R) ∧ (¬ (8 ≤ m) → Wp 15 18 [some (vR 8), some (vR 13), some (vI r), some (vI i), some (vI j), some (vI (hP G r 0)), some (vI m)] [] μ R) from ⟨fun c1 => ?_, fun c1 => ?_⟩)
    ·
      refine seg 2 (show R (some (vI m)) μ from ?_)
      have e0 := rl_out (G := G) (r := r) (i := i + m) (j := j + m) (fun z => by first | (have := z.1; omega) | exact absurd z.2.1 (by assumption) | exact absurd z.2.2.1 (by omega) | exact absurd z.2.2.2 (by assumption))
      have e1 : m = rl G r i j := by omega
      rw [e1]; exact hk
    ·
      refine seg 6 (show iR (i + m) ∧ Wp 46 0 [some (vR 8), some (vI (hP G r 0))] [] μ (fun rr μ' => Wp 15 28 [some (vR 8), some (vR 13), some (vI r), some (vI i), some (vI j), some (vI (hP G r 0)), some (vI m)] (rr.toList ++ [vI (i + m)]) μ' R) from ⟨by omega, ?_⟩)
      refine g46 hc (by omega) ?_
      refine seg 1 (show (hS G (hP G r 0) ≤ i + m → Wp 15 100 [some (vR 8), some (vR 13), some (vI r), some (vI i), some (vI j), some (vI (hP G r 0)), some (vI m)] [] μ R) ∧ (¬ (hS G (hP G r 0) ≤ i + m) → Wp 15 31 [some (vR 8), some (vR 13), some (vI r), some (vI i), some (vI j), some (vI (hP G r 0)), some (vI m)] [] μ R) from ⟨fun c2 => ?_, fun c2 => ?_⟩)
      ·
        refine seg 2 (show R (some (vI m)) μ from ?_)
        have e0 := rl_out (G := G) (r := r) (i := i + m) (j := j + m) (fun z => by first | (have := z.1; omega) | exact absurd z.2.1 (by assumption) | exact absurd z.2.2.1 (by omega) | exact absurd z.2.2.2 (by assumption))
        have e1 : m = rl G r i j := by omega
        rw [e1]; exact hk
      ·
        refine seg 6 (show iR (j + m) ∧ Wp 46 0 [some (vR 8), some (vI r)] [] μ (fun rr μ' => Wp 15 41 [some (vR 8), some (vR 13), some (vI r), some (vI i), some (vI j), some (vI (hP G r 0)), some (vI m)] (rr.toList ++ [vI (j + m)]) μ' R) from ⟨by omega, ?_⟩)
        refine g46 hc (by omega) ?_
        refine seg 1 (show (hS G r ≤ j + m → Wp 15 100 [some (vR 8), some (vR 13), some (vI r), some (vI i), some (vI j), some (vI (hP G r 0)), some (vI m)] [] μ R) ∧ (¬ (hS G r ≤ j + m) → Wp 15 44 [some (vR 8), some (vR 13), some (vI r), some (vI i), some (vI j), some (vI (hP G r 0)), some (vI m)] [] μ R) from ⟨fun c3 => ?_, fun c3 => ?_⟩)
        ·
          refine seg 2 (show R (some (vI m)) μ from ?_)
          have e0 := rl_out (G := G) (r := r) (i := i + m) (j := j + m) (fun z => by first | (have := z.1; omega) | exact absurd z.2.1 (by assumption) | exact absurd z.2.2.1 (by omega) | exact absurd z.2.2.2 (by assumption))
          have e1 : m = rl G r i j := by omega
          rw [e1]; exact hk
        ·
          refine seg 6 (show iR (i + m) ∧ Wp 48 0 [some (vR 8), some (vI (hP G r 0)), some (vI (i + m))] [] μ (fun rr μ' => Wp 15 54 [some (vR 8), some (vR 13), some (vI r), some (vI i), some (vI j), some (vI (hP G r 0)), some (vI m)] (rr.toList ++ []) μ' R) from ⟨by omega, ?_⟩)
          refine g48 hc (by omega) (by omega) ?_
          refine seg 6 (show iR (j + m) ∧ Wp 48 0 [some (vR 8), some (vI r), some (vI (j + m))] [] μ (fun rr μ' => Wp 15 64 [some (vR 8), some (vR 13), some (vI r), some (vI i), some (vI j), some (vI (hP G r 0)), some (vI m)] (rr.toList ++ [vI (hL G (hP G r 0) (i + m))]) μ' R) from ⟨by omega, ?_⟩)
          refine g48 hc (by omega) (by omega) ?_
          refine seg 1 (show (¬ (hL G (hP G r 0) (i + m) = hL G r (j + m)) → Wp 15 100 [some (vR 8), some (vR 13), some (vI r), some (vI i), some (vI j), some (vI (hP G r 0)), some (vI m)] [] μ R) ∧ (hL G (hP G r 0) (i + m) = hL G r (j + m) → Wp 15 67 [some (vR 8), some (vR 13), some (vI r), some (vI i), some (vI j), some (vI (hP G r 0)), some (vI m)] [] μ R) from ⟨fun c4 => ?_, fun c4 => ?_⟩)
          ·
            refine seg 2 (show R (some (vI m)) μ from ?_)
            have e0 := rl_out (G := G) (r := r) (i := i + m) (j := j + m) (fun z => by first | (have := z.1; omega) | exact absurd z.2.1 (by assumption) | exact absurd z.2.2.1 (by omega) | exact absurd z.2.2.2 (by assumption))
            have e1 : m = rl G r i j := by omega
            rw [e1]; exact hk
          ·
            refine seg 6 (show iR (i + m) ∧ Wp 20 0 [some (vR 13), some (vI r), some (vI (i + m))] [] μ (fun rr μ' => Wp 15 76 [some (vR 8), some (vR 13), some (vI r), some (vI i), some (vI j), some (vI (hP G r 0)), some (vI m)] (rr.toList ++ []) μ' R) from ⟨by omega, ?_⟩)
            refine p20v hI (by omega) (fun b5 => ?_) (fun b5 => ?_)
            ·
              refine seg 1 (show (¬ (1 = 0) → Wp 15 100 [some (vR 8), some (vR 13), some (vI r), some (vI i), some (vI j), some (vI (hP G r 0)), some (vI m)] [] μ R) ∧ (1 = 0 → Wp 15 79 [some (vR 8), some (vR 13), some (vI r), some (vI i), some (vI j), some (vI (hP G r 0)), some (vI m)] [] μ R) from ⟨fun _ => ?_, fun z => absurd z (by decide)⟩)
              refine seg 2 (show R (some (vI m)) μ from ?_)
              have e0 := rl_out (G := G) (r := r) (i := i + m) (j := j + m) (fun z => by first | (have := z.1; omega) | exact absurd z.2.1 (by assumption) | exact absurd z.2.2.1 (by omega) | exact absurd z.2.2.2 (by assumption))
              have e1 : m = rl G r i j := by omega
              rw [e1]; exact hk
            ·
              refine seg 1 (show (¬ (0 = 0) → Wp 15 100 [some (vR 8), some (vR 13), some (vI r), some (vI i), some (vI j), some (vI (hP G r 0)), some (vI m)] [] μ R) ∧ (0 = 0 → Wp 15 79 [some (vR 8), some (vR 13), some (vI r), some (vI i), some (vI j), some (vI (hP G r 0)), some (vI m)] [] μ R) from ⟨fun z => absurd z (by decide), fun _ => ?_⟩)
              refine seg 6 (show iR (j + m) ∧ Wp 19 0 [some (vR 13), some (vI r), some (vI (j + m))] [] μ (fun rr μ' => Wp 15 89 [some (vR 8), some (vR 13), some (vI r), some (vI i), some (vI j), some (vI (hP G r 0)), some (vI m)] (rr.toList ++ []) μ' R) from ⟨by omega, ?_⟩)
              refine p19v hI (by omega) ?_
              refine seg 2 (show (¬ (pr G r 0 (j + m) = -9) → Wp 15 100 [some (vR 8), some (vR 13), some (vI r), some (vI i), some (vI j), some (vI (hP G r 0)), some (vI m)] [] μ R) ∧ (pr G r 0 (j + m) = -9 → Wp 15 94 [some (vR 8), some (vR 13), some (vI r), some (vI i), some (vI j), some (vI (hP G r 0)), some (vI m)] [] μ R) from ⟨fun c6 => ?_, fun c6 => ?_⟩)
              ·
                refine seg 2 (show R (some (vI m)) μ from ?_)
                have e0 := rl_out (G := G) (r := r) (i := i + m) (j := j + m) (fun z => by first | (have := z.1; omega) | exact absurd z.2.1 (by assumption) | exact absurd z.2.2.1 (by omega) | exact absurd z.2.2.2 (by assumption))
                have e1 : m = rl G r i j := by omega
                rw [e1]; exact hk
              ·
                refine seg 2 (show iR (m + 1) ∧ Wp 15 11 [some (vR 8), some (vR 13), some (vI r), some (vI i), some (vI j), some (vI (hP G r 0)), some (vI (m + 1))] [] μ R from ⟨by omega, ?_⟩)
                exfalso; omega
  | succ n ih =>
    intro m hn h0 hm
    refine seg 3 (show (8 ≤ m → Wp 15 100 [some (vR 8), some (vR 13), some (vI r), some (vI i), some (vI j), some (vI (hP G r 0)), some (vI m)] [] μ R) ∧ (¬ (8 ≤ m) → Wp 15 18 [some (vR 8), some (vR 13), some (vI r), some (vI i), some (vI j), some (vI (hP G r 0)), some (vI m)] [] μ R) from ⟨fun c7 => ?_, fun c7 => ?_⟩)
    ·
      refine seg 2 (show R (some (vI m)) μ from ?_)
      have e0 := rl_out (G := G) (r := r) (i := i + m) (j := j + m) (fun z => by first | (have := z.1; omega) | exact absurd z.2.1 (by assumption) | exact absurd z.2.2.1 (by omega) | exact absurd z.2.2.2 (by assumption))
      have e1 : m = rl G r i j := by omega
      rw [e1]; exact hk
    ·
      refine seg 6 (show iR (i + m) ∧ Wp 46 0 [some (vR 8), some (vI (hP G r 0))] [] μ (fun rr μ' => Wp 15 28 [some (vR 8), some (vR 13), some (vI r), some (vI i), some (vI j), some (vI (hP G r 0)), some (vI m)] (rr.toList ++ [vI (i + m)]) μ' R) from ⟨by omega, ?_⟩)
      refine g46 hc (by omega) ?_
      refine seg 1 (show (hS G (hP G r 0) ≤ i + m → Wp 15 100 [some (vR 8), some (vR 13), some (vI r), some (vI i), some (vI j), some (vI (hP G r 0)), some (vI m)] [] μ R) ∧ (¬ (hS G (hP G r 0) ≤ i + m) → Wp 15 31 [some (vR 8), some (vR 13), some (vI r), some (vI i), some (vI j), some (vI (hP G r 0)), some (vI m)] [] μ R) from ⟨fun c8 => ?_, fun c8 => ?_⟩)
      ·
        refine seg 2 (show R (some (vI m)) μ from ?_)
        have e0 := rl_out (G := G) (r := r) (i := i + m) (j := j + m) (fun z => by first | (have := z.1; omega) | exact absurd z.2.1 (by assumption) | exact absurd z.2.2.1 (by omega) | exact absurd z.2.2.2 (by assumption))
        have e1 : m = rl G r i j := by omega
        rw [e1]; exact hk
      ·
        refine seg 6 (show iR (j + m) ∧ Wp 46 0 [some (vR 8), some (vI r)] [] μ (fun rr μ' => Wp 15 41 [some (vR 8), some (vR 13), some (vI r), some (vI i), some (vI j), some (vI (hP G r 0)), some (vI m)] (rr.toList ++ [vI (j + m)]) μ' R) from ⟨by omega, ?_⟩)
        refine g46 hc (by omega) ?_
        refine seg 1 (show (hS G r ≤ j + m → Wp 15 100 [some (vR 8), some (vR 13), some (vI r), some (vI i), some (vI j), some (vI (hP G r 0)), some (vI m)] [] μ R) ∧ (¬ (hS G r ≤ j + m) → Wp 15 44 [some (vR 8), some (vR 13), some (vI r), some (vI i), some (vI j), some (vI (hP G r 0)), some (vI m)] [] μ R) from ⟨fun c9 => ?_, fun c9 => ?_⟩)
        ·
          refine seg 2 (show R (some (vI m)) μ from ?_)
          have e0 := rl_out (G := G) (r := r) (i := i + m) (j := j + m) (fun z => by first | (have := z.1; omega) | exact absurd z.2.1 (by assumption) | exact absurd z.2.2.1 (by omega) | exact absurd z.2.2.2 (by assumption))
          have e1 : m = rl G r i j := by omega
          rw [e1]; exact hk
        ·
          refine seg 6 (show iR (i + m) ∧ Wp 48 0 [some (vR 8), some (vI (hP G r 0)), some (vI (i + m))] [] μ (fun rr μ' => Wp 15 54 [some (vR 8), some (vR 13), some (vI r), some (vI i), some (vI j), some (vI (hP G r 0)), some (vI m)] (rr.toList ++ []) μ' R) from ⟨by omega, ?_⟩)
          refine g48 hc (by omega) (by omega) ?_
          refine seg 6 (show iR (j + m) ∧ Wp 48 0 [some (vR 8), some (vI r), some (vI (j + m))] [] μ (fun rr μ' => Wp 15 64 [some (vR 8), some (vR 13), some (vI r), some (vI i), some (vI j), some (vI (hP G r 0)), some (vI m)] (rr.toList ++ [vI (hL G (hP G r 0) (i + m))]) μ' R) from ⟨by omega, ?_⟩)
          refine g48 hc (by omega) (by omega) ?_
          refine seg 1 (show (¬ (hL G (hP G r 0) (i + m) = hL G r (j + m)) → Wp 15 100 [some (vR 8), some (vR 13), some (vI r), some (vI i), some (vI j), some (vI (hP G r 0)), some (vI m)] [] μ R) ∧ (hL G (hP G r 0) (i + m) = hL G r (j + m) → Wp 15 67 [some (vR 8), some (vR 13), some (vI r), some (vI i), some (vI j), some (vI (hP G r 0)), some (vI m)] [] μ R) from ⟨fun c10 => ?_, fun c10 => ?_⟩)
          ·
            refine seg 2 (show R (some (vI m)) μ from ?_)
            have e0 := rl_out (G := G) (r := r) (i := i + m) (j := j + m) (fun z => by first | (have := z.1; omega) | exact absurd z.2.1 (by assumption) | exact absurd z.2.2.1 (by omega) | exact absurd z.2.2.2 (by assumption))
            have e1 : m = rl G r i j := by omega
            rw [e1]; exact hk
          ·
            refine seg 6 (show iR (i + m) ∧ Wp 20 0 [some (vR 13), some (vI r), some (vI (i + m))] [] μ (fun rr μ' => Wp 15 76 [some (vR 8), some (vR 13), some (vI r), some (vI i), some (vI j), some (vI (hP G r 0)), some (vI m)] (rr.toList ++ []) μ' R) from ⟨by omega, ?_⟩)
            refine p20v hI (by omega) (fun b11 => ?_) (fun b11 => ?_)
            ·
              refine seg 1 (show (¬ (1 = 0) → Wp 15 100 [some (vR 8), some (vR 13), some (vI r), some (vI i), some (vI j), some (vI (hP G r 0)), some (vI m)] [] μ R) ∧ (1 = 0 → Wp 15 79 [some (vR 8), some (vR 13), some (vI r), some (vI i), some (vI j), some (vI (hP G r 0)), some (vI m)] [] μ R) from ⟨fun _ => ?_, fun z => absurd z (by decide)⟩)
              refine seg 2 (show R (some (vI m)) μ from ?_)
              have e0 := rl_out (G := G) (r := r) (i := i + m) (j := j + m) (fun z => by first | (have := z.1; omega) | exact absurd z.2.1 (by assumption) | exact absurd z.2.2.1 (by omega) | exact absurd z.2.2.2 (by assumption))
              have e1 : m = rl G r i j := by omega
              rw [e1]; exact hk
            ·
              refine seg 1 (show (¬ (0 = 0) → Wp 15 100 [some (vR 8), some (vR 13), some (vI r), some (vI i), some (vI j), some (vI (hP G r 0)), some (vI m)] [] μ R) ∧ (0 = 0 → Wp 15 79 [some (vR 8), some (vR 13), some (vI r), some (vI i), some (vI j), some (vI (hP G r 0)), some (vI m)] [] μ R) from ⟨fun z => absurd z (by decide), fun _ => ?_⟩)
              refine seg 6 (show iR (j + m) ∧ Wp 19 0 [some (vR 13), some (vI r), some (vI (j + m))] [] μ (fun rr μ' => Wp 15 89 [some (vR 8), some (vR 13), some (vI r), some (vI i), some (vI j), some (vI (hP G r 0)), some (vI m)] (rr.toList ++ []) μ' R) from ⟨by omega, ?_⟩)
              refine p19v hI (by omega) ?_
              refine seg 2 (show (¬ (pr G r 0 (j + m) = -9) → Wp 15 100 [some (vR 8), some (vR 13), some (vI r), some (vI i), some (vI j), some (vI (hP G r 0)), some (vI m)] [] μ R) ∧ (pr G r 0 (j + m) = -9 → Wp 15 94 [some (vR 8), some (vR 13), some (vI r), some (vI i), some (vI j), some (vI (hP G r 0)), some (vI m)] [] μ R) from ⟨fun c12 => ?_, fun c12 => ?_⟩)
              ·
                refine seg 2 (show R (some (vI m)) μ from ?_)
                have e0 := rl_out (G := G) (r := r) (i := i + m) (j := j + m) (fun z => by first | (have := z.1; omega) | exact absurd z.2.1 (by assumption) | exact absurd z.2.2.1 (by omega) | exact absurd z.2.2.2 (by assumption))
                have e1 : m = rl G r i j := by omega
                rw [e1]; exact hk
              ·
                refine seg 2 (show iR (m + 1) ∧ Wp 15 11 [some (vR 8), some (vR 13), some (vI r), some (vI i), some (vI j), some (vI (hP G r 0)), some (vI (m + 1))] [] μ R from ⟨by omega, ?_⟩)
                have e0 := rl_in (G := G) (r := r) (i := i + m) (j := j + m) ⟨⟨by omega, by omega⟩, by assumption, by assumption, by assumption⟩
                rw [show i + m + 1 = i + (m + 1) by omega, show j + m + 1 = j + (m + 1) by omega] at e0
                exact ih (m + 1) (by omega) (by omega) (by omega)
theorem s15 {G : Hi} {r i j : Int} {R : Po} {μ : Mu} (hc : GC G μ) (hI : PrC13 G μ r) (hr : 0 ≤ r ∧ r < hN G) (hp : 0 ≤ hP G r 0 ∧ hP G r 0 < hN G) (hi : 0 ≤ i ∧ i ≤ 8) (hj : 0 ≤ j ∧ j ≤ 8) (hk : R (some (vI (rl G r i j))) μ) : Wp 15 0 [some (vR 8), some (vR 13), some (vI r), some (vI i), some (vI j), none, none] [] μ R := by
  have h2 := hc.1.n
  have hsp := hc.1.s hp
  have hsr := hc.1.s hr
  refine seg 4 (show Wp 47 0 [some (vR 8), some (vI r), some (vI 0)] [] μ (fun rr μ' => Wp 15 6 [some (vR 8), some (vR 13), some (vI r), some (vI i), some (vI j), none, none] (rr.toList ++ []) μ' R) from ?_)
  refine g47 hc (by omega) (by decide) ?_
  refine seg 3 (show Wp 15 11 [some (vR 8), some (vR 13), some (vI r), some (vI i), some (vI j), some (vI (hP G r 0)), some (vI 0)] [] μ R from ?_)
  exact l15 hc hI hr hp hi hj hk 9 0 (by decide) (by decide) (by rw [Int.add_zero, Int.add_zero, Int.zero_add])
theorem l16 {r i j L : Int} {R : Po} {μ0 : Mu} (hr : 0 ≤ r ∧ r < 8) (hi : 0 ≤ i ∧ i ≤ 8) (hj : 0 ≤ j ∧ j ≤ 8) (hL : 0 ≤ L ∧ (0 < L → j + L ≤ 8)) (hk : ∀ μ : Mu, ((∀ q, q ≠ 26 → q ≠ 27 → μ q = μ0 q) ∧ (∀ y, ¬ (r * 8 ≤ y ∧ y < r * 8 + 8) → μ 26 y = μ0 26 y ∧ μ 27 y = μ0 27 y)) → (∀ k, 0 ≤ k → k < 8 → MvC (μ 26) (μ 27) r k = stM k (MvC (μ0 26) (μ0 27) r k) i j L) → R none μ) : ∀ (n : Nat) (x : Int) (μ : Mu), L - x = n → 0 ≤ x → ((∀ q, q ≠ 26 → q ≠ 27 → μ q = μ0 q) ∧ (∀ y, ¬ (r * 8 ≤ y ∧ y < r * 8 + 8) → μ 26 y = μ0 26 y ∧ μ 27 y = μ0 27 y)) → (∀ k, 0 ≤ k → k < 8 → MvC (μ 26) (μ 27) r k = if k < j + x then stM k (MvC (μ0 26) (μ0 27) r k) i j L else MvC (μ0 26) (μ0 27) r k) → Wp 16 3 [some (vR 25), some (vI r), some (vI i), some (vI j), some (vI L), some (vI x)] [] μ R := by
  intro n
  induction n with
  | zero =>
    intro x μ hn h0 hF hS
    refine seg 3 (show (L ≤ x → Wp 16 73 [some (vR 25), some (vI r), some (vI i), some (vI j), some (vI L), some (vI x)] [] μ R) ∧ (¬ (L ≤ x) → Wp 16 10 [some (vR 25), some (vI r), some (vI i), some (vI j), some (vI L), some (vI x)] [] μ R) from ⟨fun c1 => ?_, fun c1 => ?_⟩)
    ·
      refine seg 1 (show R none μ from ?_)
      first
      | (exfalso; omega)
      | (refine hk μ hF (fun k h1 h2 => ?_)
         rw [hS k h1 h2]
         by_cases hq : k < j + x
         · rw [if_pos hq]
         · rw [if_neg hq, stM_out (by omega)])
    ·
      refine seg 7 (show iR (j + x) ∧ Wp 11 0 [some (vR 25), some (vI r), some (vI (j + x))] [] μ (fun rr μ' => Wp 16 21 [some (vR 25), some (vI r), some (vI i), some (vI j), some (vI L), some (vI x)] (rr.toList ++ [vI L]) μ' R) from ⟨by omega, ?_⟩)
      refine s11v_25 (by omega) ?_
      refine seg 1 (show (L ≤ μ 26 (r * 8 + (j + x)) → Wp 16 67 [some (vR 25), some (vI r), some (vI i), some (vI j), some (vI L), some (vI x)] [] μ R) ∧ (¬ (L ≤ μ 26 (r * 8 + (j + x))) → Wp 16 24 [some (vR 25), some (vI r), some (vI i), some (vI j), some (vI L), some (vI x)] [] μ R) from ⟨fun c2 => ?_, fun c2 => ?_⟩)
      ·
        refine seg 2 (show iR (x + 1) ∧ Wp 16 3 [some (vR 25), some (vI r), some (vI i), some (vI j), some (vI L), some (vI (x + 1))] [] μ R from ⟨by omega, ?_⟩)
        exfalso; omega
      ·
        refine seg 5 (show iR (j + x) ∧ Wp 115 0 [some (vI r), some (vI (j + x))] [] μ (fun rr μ' => Wp 16 32 [some (vR 25), some (vI r), some (vI i), some (vI j), some (vI L), some (vI x)] (rr.toList ++ []) μ' R) from ⟨by omega, ?_⟩)
        refine s115t (by omega) ?_
        refine seg 1 (show (1 = 0 → Wp 16 67 [some (vR 25), some (vI r), some (vI i), some (vI j), some (vI L), some (vI x)] [] μ R) ∧ (¬ (1 = 0) → Wp 16 35 [some (vR 25), some (vI r), some (vI i), some (vI j), some (vI L), some (vI x)] [] μ R) from ⟨fun z => absurd z (by decide), fun _ => ?_⟩)
        refine seg 7 (show iR (j + x) ∧ Wp 114 0 [some (vI r), some (vI (j + x))] [] μ (fun rr μ' => Wp 16 47 [some (vR 25), some (vI r), some (vI i), some (vI j), some (vI L), some (vI x)] (rr.toList ++ [vR 26]) μ' R) from ⟨by omega, ?_⟩)
        refine s114 (by omega) ?_
        refine seg 9 (show (0 ≤ (r * 8 + (j + x)) ∧ (r * 8 + (j + x)) < 64) ∧ iR (j + x) ∧ Wp 114 0 [some (vI r), some (vI (j + x))] [] (u2 μ 26 (r * 8 + (j + x)) L) (fun rr μ' => Wp 16 62 [some (vR 25), some (vI r), some (vI i), some (vI j), some (vI L), some (vI x)] (rr.toList ++ [vR 27]) μ' R) from ⟨by omega, by omega, ?_⟩)
        refine s114 (by omega) ?_
        refine seg 6 (show iR (i + x) ∧ (0 ≤ (r * 8 + (j + x)) ∧ (r * 8 + (j + x)) < 64) ∧ iR (x + 1) ∧ Wp 16 3 [some (vR 25), some (vI r), some (vI i), some (vI j), some (vI L), some (vI (x + 1))] [] (u2 (u2 μ 26 (r * 8 + (j + x)) L) 27 (r * 8 + (j + x)) (i + x)) R from ⟨by omega, by omega, by omega, ?_⟩)
        exfalso; omega
  | succ n ih =>
    intro x μ hn h0 hF hS
    refine seg 3 (show (L ≤ x → Wp 16 73 [some (vR 25), some (vI r), some (vI i), some (vI j), some (vI L), some (vI x)] [] μ R) ∧ (¬ (L ≤ x) → Wp 16 10 [some (vR 25), some (vI r), some (vI i), some (vI j), some (vI L), some (vI x)] [] μ R) from ⟨fun c3 => ?_, fun c3 => ?_⟩)
    ·
      refine seg 1 (show R none μ from ?_)
      first
      | (exfalso; omega)
      | (refine hk μ hF (fun k h1 h2 => ?_)
         rw [hS k h1 h2]
         by_cases hq : k < j + x
         · rw [if_pos hq]
         · rw [if_neg hq, stM_out (by omega)])
    ·
      refine seg 7 (show iR (j + x) ∧ Wp 11 0 [some (vR 25), some (vI r), some (vI (j + x))] [] μ (fun rr μ' => Wp 16 21 [some (vR 25), some (vI r), some (vI i), some (vI j), some (vI L), some (vI x)] (rr.toList ++ [vI L]) μ' R) from ⟨by omega, ?_⟩)
      refine s11v_25 (by omega) ?_
      refine seg 1 (show (L ≤ μ 26 (r * 8 + (j + x)) → Wp 16 67 [some (vR 25), some (vI r), some (vI i), some (vI j), some (vI L), some (vI x)] [] μ R) ∧ (¬ (L ≤ μ 26 (r * 8 + (j + x))) → Wp 16 24 [some (vR 25), some (vI r), some (vI i), some (vI j), some (vI L), some (vI x)] [] μ R) from ⟨fun c4 => ?_, fun c4 => ?_⟩)
      ·
        refine seg 2 (show iR (x + 1) ∧ Wp 16 3 [some (vR 25), some (vI r), some (vI i), some (vI j), some (vI L), some (vI (x + 1))] [] μ R from ⟨by omega, ?_⟩)
        refine ih (x + 1) _ (by omega) (by omega) hF (fun k h1 h2 => ?_)
        rw [hS k h1 h2]
        by_cases hq : k < j + x
        · rw [if_pos hq, if_pos (by omega)]
        · rw [if_neg hq]
          by_cases hq2 : k < j + (x + 1)
          · rw [if_pos hq2]
            obtain rfl : k = j + x := by omega
            have e := hS (j + x) h1 h2
            rw [if_neg hq] at e
            have e1 : μ 26 (r * 8 + (j + x)) = (MvC (μ0 26) (μ0 27) r (j + x)).1 := congrArg Prod.fst e
            unfold stM
            rw [if_neg (by omega)]
          · rw [if_neg hq2]
      ·
        refine seg 5 (show iR (j + x) ∧ Wp 115 0 [some (vI r), some (vI (j + x))] [] μ (fun rr μ' => Wp 16 32 [some (vR 25), some (vI r), some (vI i), some (vI j), some (vI L), some (vI x)] (rr.toList ++ []) μ' R) from ⟨by omega, ?_⟩)
        refine s115t (by omega) ?_
        refine seg 1 (show (1 = 0 → Wp 16 67 [some (vR 25), some (vI r), some (vI i), some (vI j), some (vI L), some (vI x)] [] μ R) ∧ (¬ (1 = 0) → Wp 16 35 [some (vR 25), some (vI r), some (vI i), some (vI j), some (vI L), some (vI x)] [] μ R) from ⟨fun z => absurd z (by decide), fun _ => ?_⟩)
        refine seg 7 (show iR (j + x) ∧ Wp 114 0 [some (vI r), some (vI (j + x))] [] μ (fun rr μ' => Wp 16 47 [some (vR 25), some (vI r), some (vI i), some (vI j), some (vI L), some (vI x)] (rr.toList ++ [vR 26]) μ' R) from ⟨by omega, ?_⟩)
        refine s114 (by omega) ?_
        refine seg 9 (show (0 ≤ (r * 8 + (j + x)) ∧ (r * 8 + (j + x)) < 64) ∧ iR (j + x) ∧ Wp 114 0 [some (vI r), some (vI (j + x))] [] (u2 μ 26 (r * 8 + (j + x)) L) (fun rr μ' => Wp 16 62 [some (vR 25), some (vI r), some (vI i), some (vI j), some (vI L), some (vI x)] (rr.toList ++ [vR 27]) μ' R) from ⟨by omega, by omega, ?_⟩)
        refine s114 (by omega) ?_
        refine seg 6 (show iR (i + x) ∧ (0 ≤ (r * 8 + (j + x)) ∧ (r * 8 + (j + x)) < 64) ∧ iR (x + 1) ∧ Wp 16 3 [some (vR 25), some (vI r), some (vI i), some (vI j), some (vI L), some (vI (x + 1))] [] (u2 (u2 μ 26 (r * 8 + (j + x)) L) 27 (r * 8 + (j + x)) (i + x)) R from ⟨by omega, by omega, by omega, ?_⟩)
        obtain ⟨μ1, hμ1⟩ : ∃ z, z = u2 (u2 μ 26 (r * 8 + (j + x)) L) 27 (r * 8 + (j + x)) (i + x) := ⟨_, rfl⟩
        rw [← hμ1]
        have e27 : μ1 27 = up1 (μ 27) (r * 8 + (j + x)) (i + x) := by rw [hμ1, u2_at, u2_ne (by decide)]
        have e26 : μ1 26 = up1 (μ 26) (r * 8 + (j + x)) L := by rw [hμ1, u2_ne (by decide), u2_at]
        refine ih (x + 1) _ (by omega) (by omega) ⟨fun q h1 h2 => by rw [hμ1, u2_ne h2, u2_ne h1]; exact hF.1 q h1 h2, fun y hy => by rw [e26, e27, up1_n (by omega), up1_n (by omega)]; exact hF.2 y hy⟩ (fun k h1 h2 => ?_)
        unfold MvC
        rw [e26, e27]
        by_cases hq : k = j + x
        · subst hq
          have e := hS (j + x) h1 h2
          rw [if_neg (by omega)] at e
          have e1 : μ 26 (r * 8 + (j + x)) = (MvC (μ0 26) (μ0 27) r (j + x)).1 := congrArg Prod.fst e
          rw [up1_s, up1_s, if_pos (by omega)]
          show _ = stM (j + x) (MvC (μ0 26) (μ0 27) r (j + x)) i j L
          unfold stM
          rw [if_pos (by omega)]
          exact congrArg (Prod.mk L) (by omega)
        · rw [up1_n (by omega), up1_n (by omega)]
          show MvC (μ 26) (μ 27) r k = if k < j + (x + 1) then stM k (MvC (μ0 26) (μ0 27) r k) i j L else MvC (μ0 26) (μ0 27) r k
          rw [hS k h1 h2]
          by_cases hq2 : k < j + x
          · rw [if_pos hq2, if_pos (by omega)]
          · rw [if_neg hq2, if_neg (by omega)]
theorem s16 {r i j L : Int} {R : Po} {μ : Mu} (hr : 0 ≤ r ∧ r < 8) (hi : 0 ≤ i ∧ i ≤ 8) (hj : 0 ≤ j ∧ j ≤ 8) (hL : 0 ≤ L ∧ (0 < L → j + L ≤ 8)) (hk : ∀ μ2 : Mu, ((∀ q, q ≠ 26 → q ≠ 27 → μ2 q = μ q) ∧ (∀ y, ¬ (r * 8 ≤ y ∧ y < r * 8 + 8) → μ2 26 y = μ 26 y ∧ μ2 27 y = μ 27 y)) → (∀ k, 0 ≤ k → k < 8 → MvC (μ2 26) (μ2 27) r k = stM k (MvC (μ 26) (μ 27) r k) i j L) → R none μ2) : Wp 16 0 [some (vR 25), some (vI r), some (vI i), some (vI j), some (vI L), none] [] μ R := by
  refine seg 2 (show Wp 16 3 [some (vR 25), some (vI r), some (vI i), some (vI j), some (vI L), some (vI 0)] [] μ R from ?_)
  exact l16 hr hi hj hL hk L.toNat 0 μ (by omega) (by decide) ⟨fun _ _ _ => rfl, fun _ _ => ⟨rfl, rfl⟩⟩ (fun k h1 h2 => by
    by_cases hq : k < j + 0
    · rw [if_pos hq, stM_out (by omega)]
    · rw [if_neg hq])
theorem l14a {G : Hi} {r : Int} {R : Po} {μ0 : Mu} (hc0 : GC G μ0) (hI0 : PrC13 G μ0 r) (hr : 0 ≤ r ∧ r < hN G) (hp : 0 ≤ hP G r 0 ∧ hP G r 0 < hN G) {i : Nat} (hi : (i : Int) < hS G (hP G r 0)) (hk : ∀ μ : Mu, ((∀ q, q ≠ 26 → q ≠ 27 → μ q = μ0 q) ∧ (∀ y, ¬ (r * 8 ≤ y ∧ y < r * 8 + 8) → μ 26 y = μ0 26 y ∧ μ 27 y = μ0 27 y)) → (∀ k, 0 ≤ k → k < 8 → MvC (μ 26) (μ 27) r k = allM G r k (hS G r).toNat (i + 1) (0, -9)) → Wp 14 60 [some (vR 25), some (vR 8), some (vR 13), some (vI r), some (vI (hP G r 0)), some (vI (i : Int)), some (vI (hS G r))] [] μ R) : ∀ (n : Nat) (j : Nat) (μ : Mu), hS G r - j = n → ((∀ q, q ≠ 26 → q ≠ 27 → μ q = μ0 q) ∧ (∀ y, ¬ (r * 8 ≤ y ∧ y < r * 8 + 8) → μ 26 y = μ0 26 y ∧ μ 27 y = μ0 27 y)) → (∀ k, 0 ≤ k → k < 8 → MvC (μ 26) (μ 27) r k = rowM G r k i j (allM G r k (hS G r).toNat i (0, -9))) → Wp 14 25 [some (vR 25), some (vR 8), some (vR 13), some (vI r), some (vI (hP G r 0)), some (vI (i : Int)), some (vI (j : Int))] [] μ R := by
  intro n
  induction n with
  | zero =>
    intro j μ hn hF hM
    have hc := hc0.fr (hF.1 8 (by decide) (by decide)) (hF.1 9 (by decide) (by decide)) (hF.1 10 (by decide) (by decide)) (hF.1 11 (by decide) (by decide))
    have hI : PrC13 G μ r := by
      unfold PrC13
      rw [hF.1 14 (by decide) (by decide), hF.1 15 (by decide) (by decide), hF.1 16 (by decide) (by decide), hF.1 17 (by decide) (by decide)]
      exact hI0
    have h2 := hc.1.n
    have hsp := hc.1.s hp
    have hsr := hc.1.s hr
    refine seg 4 (show Wp 46 0 [some (vR 8), some (vI r)] [] μ (fun rr μ' => Wp 14 32 [some (vR 25), some (vR 8), some (vR 13), some (vI r), some (vI (hP G r 0)), some (vI (i : Int)), some (vI (j : Int))] (rr.toList ++ [vI (j : Int)]) μ' R) from ?_)
    refine g46 hc (by omega) ?_
    refine seg 1 (show (hS G r ≤ (j : Int) → Wp 14 60 [some (vR 25), some (vR 8), some (vR 13), some (vI r), some (vI (hP G r 0)), some (vI (i : Int)), some (vI (j : Int))] [] μ R) ∧ (¬ (hS G r ≤ (j : Int)) → Wp 14 35 [some (vR 25), some (vR 8), some (vR 13), some (vI r), some (vI (hP G r 0)), some (vI (i : Int)), some (vI (j : Int))] [] μ R) from ⟨fun c1 => ?_, fun c1 => ?_⟩)
    ·
      first
      | (exfalso; omega)
      | (have ej : (j : Int) = hS G r := by omega
         rw [ej]
         refine hk μ hF (fun k h1 h2 => ?_)
         rw [hM k h1 h2]
         show _ = rowM G r k i (hS G r).toNat (allM G r k (hS G r).toNat i (0, -9))
         rw [← ej, Int.toNat_natCast])
    ·
      refine seg 10 (show Wp 15 0 [some (vR 8), some (vR 13), some (vI r), some (vI (i : Int)), some (vI (j : Int)), none, none] [] μ (fun rr μ' => Wp 14 51 [some (vR 25), some (vR 8), some (vR 13), some (vI r), some (vI (hP G r 0)), some (vI (i : Int)), some (vI (j : Int))] (rr.toList ++ [vI (j : Int), vI (i : Int), vI r, vR 25]) μ' R) from ?_)
      exfalso; omega
  | succ n ih =>
    intro j μ hn hF hM
    have hc := hc0.fr (hF.1 8 (by decide) (by decide)) (hF.1 9 (by decide) (by decide)) (hF.1 10 (by decide) (by decide)) (hF.1 11 (by decide) (by decide))
    have hI : PrC13 G μ r := by
      unfold PrC13
      rw [hF.1 14 (by decide) (by decide), hF.1 15 (by decide) (by decide), hF.1 16 (by decide) (by decide), hF.1 17 (by decide) (by decide)]
      exact hI0
    have h2 := hc.1.n
    have hsp := hc.1.s hp
    have hsr := hc.1.s hr
    refine seg 4 (show Wp 46 0 [some (vR 8), some (vI r)] [] μ (fun rr μ' => Wp 14 32 [some (vR 25), some (vR 8), some (vR 13), some (vI r), some (vI (hP G r 0)), some (vI (i : Int)), some (vI (j : Int))] (rr.toList ++ [vI (j : Int)]) μ' R) from ?_)
    refine g46 hc (by omega) ?_
    refine seg 1 (show (hS G r ≤ (j : Int) → Wp 14 60 [some (vR 25), some (vR 8), some (vR 13), some (vI r), some (vI (hP G r 0)), some (vI (i : Int)), some (vI (j : Int))] [] μ R) ∧ (¬ (hS G r ≤ (j : Int)) → Wp 14 35 [some (vR 25), some (vR 8), some (vR 13), some (vI r), some (vI (hP G r 0)), some (vI (i : Int)), some (vI (j : Int))] [] μ R) from ⟨fun c2 => ?_, fun c2 => ?_⟩)
    ·
      first
      | (exfalso; omega)
      | (have ej : (j : Int) = hS G r := by omega
         rw [ej]
         refine hk μ hF (fun k h1 h2 => ?_)
         rw [hM k h1 h2]
         show _ = rowM G r k i (hS G r).toNat (allM G r k (hS G r).toNat i (0, -9))
         rw [← ej, Int.toNat_natCast])
    ·
      refine seg 10 (show Wp 15 0 [some (vR 8), some (vR 13), some (vI r), some (vI (i : Int)), some (vI (j : Int)), none, none] [] μ (fun rr μ' => Wp 14 51 [some (vR 25), some (vR 8), some (vR 13), some (vI r), some (vI (hP G r 0)), some (vI (i : Int)), some (vI (j : Int))] (rr.toList ++ [vI (j : Int), vI (i : Int), vI r, vR 25]) μ' R) from ?_)
      refine s15 hc hI hr hp (by omega) (by omega) ?_
      have hl := rl_rg (G := G) (r := r) _ (i : Int) (j : Int) (Nat.le_refl _)
      refine seg 1 (show Wp 16 0 [some (vR 25), some (vI r), some (vI (i : Int)), some (vI (j : Int)), some (vI (rl G r (i : Int) (j : Int))), none] [] μ (fun rr μ' => Wp 14 54 [some (vR 25), some (vR 8), some (vR 13), some (vI r), some (vI (hP G r 0)), some (vI (i : Int)), some (vI (j : Int))] (rr.toList ++ []) μ' R) from ?_)
      refine s16 (by omega) (by omega) (by omega) ⟨by omega, fun z => by have := hl.2.2 z; omega⟩ (fun μ1 f1 f2 => ?_)
      refine seg 2 (show iR ((j : Int) + 1) ∧ Wp 14 25 [some (vR 25), some (vR 8), some (vR 13), some (vI r), some (vI (hP G r 0)), some (vI (i : Int)), some (vI ((j : Int) + 1))] [] μ1 R from ⟨by omega, ?_⟩)
      refine ih (j + 1) μ1 (by omega) ⟨fun q h1 h2 => by rw [f1.1 q h1 h2]; exact hF.1 q h1 h2, fun y hy => by rw [(f1.2 y hy).1, (f1.2 y hy).2]; exact hF.2 y hy⟩ (fun k h1 h2 => ?_)
      rw [f2 k h1 h2, hM k h1 h2]
      rfl
theorem l14b {G : Hi} {r : Int} {R : Po} {μ0 : Mu} (hc0 : GC G μ0) (hI0 : PrC13 G μ0 r) (hr : 0 ≤ r ∧ r < hN G) (hp : 0 ≤ hP G r 0 ∧ hP G r 0 < hN G) (hk : ∀ μ : Mu, ((∀ q, q ≠ 26 → q ≠ 27 → μ q = μ0 q) ∧ (∀ y, ¬ (r * 8 ≤ y ∧ y < r * 8 + 8) → μ 26 y = μ0 26 y ∧ μ 27 y = μ0 27 y)) → (∀ k, 0 ≤ k → k < 8 → MvC (μ 26) (μ 27) r k = mv G r k) → R none μ) : ∀ (n : Nat) (i : Nat) (μ : Mu) (o6 : Option PV), hS G (hP G r 0) - i = n → ((∀ q, q ≠ 26 → q ≠ 27 → μ q = μ0 q) ∧ (∀ y, ¬ (r * 8 ≤ y ∧ y < r * 8 + 8) → μ 26 y = μ0 26 y ∧ μ 27 y = μ0 27 y)) → (∀ k, 0 ≤ k → k < 8 → MvC (μ 26) (μ 27) r k = allM G r k (hS G r).toNat i (0, -9)) → Wp 14 11 [some (vR 25), some (vR 8), some (vR 13), some (vI r), some (vI (hP G r 0)), some (vI (i : Int)), o6] [] μ R := by
  intro n
  induction n with
  | zero =>
    intro i μ o6 hn hF hM
    have hc := hc0.fr (hF.1 8 (by decide) (by decide)) (hF.1 9 (by decide) (by decide)) (hF.1 10 (by decide) (by decide)) (hF.1 11 (by decide) (by decide))
    have hI : PrC13 G μ r := by
      unfold PrC13
      rw [hF.1 14 (by decide) (by decide), hF.1 15 (by decide) (by decide), hF.1 16 (by decide) (by decide), hF.1 17 (by decide) (by decide)]
      exact hI0
    have h2 := hc.1.n
    have hsp := hc.1.s hp
    have hsr := hc.1.s hr
    refine seg 4 (show Wp 46 0 [some (vR 8), some (vI (hP G r 0))] [] μ (fun rr μ' => Wp 14 19 [some (vR 25), some (vR 8), some (vR 13), some (vI r), some (vI (hP G r 0)), some (vI (i : Int)), o6] (rr.toList ++ [vI (i : Int)]) μ' R) from ?_)
    refine g46 hc (by omega) ?_
    refine seg 1 (show (hS G (hP G r 0) ≤ (i : Int) → Wp 14 66 [some (vR 25), some (vR 8), some (vR 13), some (vI r), some (vI (hP G r 0)), some (vI (i : Int)), o6] [] μ R) ∧ (¬ (hS G (hP G r 0) ≤ (i : Int)) → Wp 14 22 [some (vR 25), some (vR 8), some (vR 13), some (vI r), some (vI (hP G r 0)), some (vI (i : Int)), o6] [] μ R) from ⟨fun c1 => ?_, fun c1 => ?_⟩)
    ·
      refine seg 1 (show R none μ from ?_)
      first
      | (exfalso; omega)
      | (refine hk μ hF (fun k h1 h2 => ?_)
         rw [hM k h1 h2]
         unfold mv
         rw [if_neg (by omega), show (hS G (hP G r 0)).toNat = i by omega])
    ·
      refine seg 2 (show Wp 14 25 [some (vR 25), some (vR 8), some (vR 13), some (vI r), some (vI (hP G r 0)), some (vI (i : Int)), some (vI 0)] [] μ R from ?_)
      exfalso; omega
  | succ n ih =>
    intro i μ o6 hn hF hM
    have hc := hc0.fr (hF.1 8 (by decide) (by decide)) (hF.1 9 (by decide) (by decide)) (hF.1 10 (by decide) (by decide)) (hF.1 11 (by decide) (by decide))
    have hI : PrC13 G μ r := by
      unfold PrC13
      rw [hF.1 14 (by decide) (by decide), hF.1 15 (by decide) (by decide), hF.1 16 (by decide) (by decide), hF.1 17 (by decide) (by decide)]
      exact hI0
    have h2 := hc.1.n
    have hsp := hc.1.s hp
    have hsr := hc.1.s hr
    refine seg 4 (show Wp 46 0 [some (vR 8), some (vI (hP G r 0))] [] μ (fun rr μ' => Wp 14 19 [some (vR 25), some (vR 8), some (vR 13), some (vI r), some (vI (hP G r 0)), some (vI (i : Int)), o6] (rr.toList ++ [vI (i : Int)]) μ' R) from ?_)
    refine g46 hc (by omega) ?_
    refine seg 1 (show (hS G (hP G r 0) ≤ (i : Int) → Wp 14 66 [some (vR 25), some (vR 8), some (vR 13), some (vI r), some (vI (hP G r 0)), some (vI (i : Int)), o6] [] μ R) ∧ (¬ (hS G (hP G r 0) ≤ (i : Int)) → Wp 14 22 [some (vR 25), some (vR 8), some (vR 13), some (vI r), some (vI (hP G r 0)), some (vI (i : Int)), o6] [] μ R) from ⟨fun c2 => ?_, fun c2 => ?_⟩)
    ·
      refine seg 1 (show R none μ from ?_)
      first
      | (exfalso; omega)
      | (refine hk μ hF (fun k h1 h2 => ?_)
         rw [hM k h1 h2]
         unfold mv
         rw [if_neg (by omega), show (hS G (hP G r 0)).toNat = i by omega])
    ·
      refine seg 2 (show Wp 14 25 [some (vR 25), some (vR 8), some (vR 13), some (vI r), some (vI (hP G r 0)), some (vI (i : Int)), some (vI 0)] [] μ R from ?_)
      refine l14a hc0 hI0 hr hp (i := i) (by omega) (fun μ hF hM => ?_) (hS G r).toNat 0 μ (by omega) hF hM
      refine seg 2 (show iR ((i : Int) + 1) ∧ Wp 14 11 [some (vR 25), some (vR 8), some (vR 13), some (vI r), some (vI (hP G r 0)), some (vI ((i : Int) + 1)), some (vI (hS G r))] [] μ R from ⟨by omega, ?_⟩)
      exact ih (i + 1) μ _ (by omega) hF hM
theorem s14 {G : Hi} {r : Int} {R : Po} {μ : Mu} (hc : GC G μ) (hI : PrC13 G μ r) (hr : 0 ≤ r ∧ r < hN G) (hp : 0 ≤ hP G r 0 ∧ hP G r 0 < hN G) (h0 : ∀ k, 0 ≤ k → k < 8 → MvC (μ 26) (μ 27) r k = (0, -9)) (hk : ∀ μ2 : Mu, ((∀ q, q ≠ 26 → q ≠ 27 → μ2 q = μ q) ∧ (∀ y, ¬ (r * 8 ≤ y ∧ y < r * 8 + 8) → μ2 26 y = μ 26 y ∧ μ2 27 y = μ 27 y)) → (∀ k, 0 ≤ k → k < 8 → MvC (μ2 26) (μ2 27) r k = mv G r k) → R none μ2) : Wp 14 0 [some (vR 25), some (vR 8), some (vR 13), some (vI r), none, none, none] [] μ R := by
  have h2 := hc.1.n
  have hsp := hc.1.s hp
  have hsr := hc.1.s hr
  refine seg 4 (show Wp 47 0 [some (vR 8), some (vI r), some (vI 0)] [] μ (fun rr μ' => Wp 14 6 [some (vR 25), some (vR 8), some (vR 13), some (vI r), none, none, none] (rr.toList ++ []) μ' R) from ?_)
  refine g47 hc (by omega) (by decide) ?_
  refine seg 3 (show Wp 14 11 [some (vR 25), some (vR 8), some (vR 13), some (vI r), some (vI (hP G r 0)), some (vI 0), none] [] μ R from ?_)
  exact l14b hc hI hr hp hk (hS G (hP G r 0)).toNat 0 μ none (by omega) ⟨fun _ _ _ => rfl, fun _ _ => ⟨rfl, rfl⟩⟩ h0
theorem s14n {G : Hi} {r : Int} {R : Po} {μ : Mu} (hc : GC G μ) (hpar : ∀ {R : Po}, R (some (vI (-9))) μ → Wp 47 0 [some (vR 8), some (vI r), some (vI 0)] [] μ R) (hk : R none μ) : Wp 14 0 [some (vR 25), some (vR 8), some (vR 13), some (vI r), none, none, none] [] μ R := by
  refine seg 4 (show Wp 47 0 [some (vR 8), some (vI r), some (vI 0)] [] μ (fun rr μ' => Wp 14 6 [some (vR 25), some (vR 8), some (vR 13), some (vI r), none, none, none] (rr.toList ++ []) μ' R) from ?_)
  refine hpar ?_
  refine seg 7 (show Wp 46 0 [some (vR 8), some (vI (-9))] [] μ (fun rr μ' => Wp 14 19 [some (vR 25), some (vR 8), some (vR 13), some (vI r), some (vI (-9)), some (vI 0), none] (rr.toList ++ [vI 0]) μ' R) from ?_)
  refine g46n hc (by decide) ?_
  refine seg 1 (show (0 ≤ 0 → Wp 14 66 [some (vR 25), some (vR 8), some (vR 13), some (vI r), some (vI (-9)), some (vI 0), none] [] μ R) ∧ (¬ (0 ≤ 0) → Wp 14 22 [some (vR 25), some (vR 8), some (vR 13), some (vI r), some (vI (-9)), some (vI 0), none] [] μ R) from ⟨fun _ => ?_, fun z => absurd z (by decide)⟩)
  refine seg 1 (show R none μ from ?_)
  exact hk
theorem l13a {r : Int} {R : Po} {μ0 : Mu} (hr : 0 ≤ r ∧ r < 8) (hk : ∀ μ : Mu, ((∀ q, q ≠ 26 → q ≠ 27 → μ q = μ0 q) ∧ (∀ y, ¬ (r * 8 ≤ y ∧ y < r * 8 + 8) → μ 26 y = μ0 26 y ∧ μ 27 y = μ0 27 y)) → (∀ x, r * 8 ≤ x → x < r * 8 + 8 → μ 26 x = 0 ∧ μ 27 x = -9) → Wp 13 49 [some (vR 25), some (vR 8), some (vR 13), some (vI r), some (vI 8)] [] μ R) : ∀ (n : Nat) (k : Int) (μ : Mu), 8 - k = n → 0 ≤ k → ((∀ q, q ≠ 26 → q ≠ 27 → μ q = μ0 q) ∧ (∀ y, ¬ (r * 8 ≤ y ∧ y < r * 8 + 8) → μ 26 y = μ0 26 y ∧ μ 27 y = μ0 27 y)) → (∀ x, r * 8 ≤ x → x < r * 8 + k → μ 26 x = 0 ∧ μ 27 x = -9) → Wp 13 11 [some (vR 25), some (vR 8), some (vR 13), some (vI r), some (vI k)] [] μ R := by
  intro n
  induction n with
  | zero =>
    intro k μ hn h0 hF hA
    refine seg 3 (show (8 ≤ k → Wp 13 49 [some (vR 25), some (vR 8), some (vR 13), some (vI r), some (vI k)] [] μ R) ∧ (¬ (8 ≤ k) → Wp 13 18 [some (vR 25), some (vR 8), some (vR 13), some (vI r), some (vI k)] [] μ R) from ⟨fun c1 => ?_, fun c1 => ?_⟩)
    ·
      first | (obtain rfl : k = 8 := (by omega); exact hk μ hF hA) | (exfalso; omega)
    ·
      refine seg 5 (show Wp 114 0 [some (vI r), some (vI k)] [] μ (fun rr μ' => Wp 13 28 [some (vR 25), some (vR 8), some (vR 13), some (vI r), some (vI k)] (rr.toList ++ [vR 26]) μ' R) from ?_)
      refine s114 (by omega) ?_
      refine seg 7 (show (0 ≤ (r * 8 + k) ∧ (r * 8 + k) < 64) ∧ Wp 114 0 [some (vI r), some (vI k)] [] (u2 μ 26 (r * 8 + k) 0) (fun rr μ' => Wp 13 40 [some (vR 25), some (vR 8), some (vR 13), some (vI r), some (vI k)] (rr.toList ++ [vR 27]) μ' R) from ⟨by omega, ?_⟩)
      refine s114 (by omega) ?_
      refine seg 4 (show (0 ≤ (r * 8 + k) ∧ (r * 8 + k) < 64) ∧ iR (k + 1) ∧ Wp 13 11 [some (vR 25), some (vR 8), some (vR 13), some (vI r), some (vI (k + 1))] [] (u2 (u2 μ 26 (r * 8 + k) 0) 27 (r * 8 + k) (-9)) R from ⟨by omega, by omega, ?_⟩)
      exfalso; omega
  | succ n ih =>
    intro k μ hn h0 hF hA
    refine seg 3 (show (8 ≤ k → Wp 13 49 [some (vR 25), some (vR 8), some (vR 13), some (vI r), some (vI k)] [] μ R) ∧ (¬ (8 ≤ k) → Wp 13 18 [some (vR 25), some (vR 8), some (vR 13), some (vI r), some (vI k)] [] μ R) from ⟨fun c2 => ?_, fun c2 => ?_⟩)
    ·
      first | (obtain rfl : k = 8 := (by omega); exact hk μ hF hA) | (exfalso; omega)
    ·
      refine seg 5 (show Wp 114 0 [some (vI r), some (vI k)] [] μ (fun rr μ' => Wp 13 28 [some (vR 25), some (vR 8), some (vR 13), some (vI r), some (vI k)] (rr.toList ++ [vR 26]) μ' R) from ?_)
      refine s114 (by omega) ?_
      refine seg 7 (show (0 ≤ (r * 8 + k) ∧ (r * 8 + k) < 64) ∧ Wp 114 0 [some (vI r), some (vI k)] [] (u2 μ 26 (r * 8 + k) 0) (fun rr μ' => Wp 13 40 [some (vR 25), some (vR 8), some (vR 13), some (vI r), some (vI k)] (rr.toList ++ [vR 27]) μ' R) from ⟨by omega, ?_⟩)
      refine s114 (by omega) ?_
      refine seg 4 (show (0 ≤ (r * 8 + k) ∧ (r * 8 + k) < 64) ∧ iR (k + 1) ∧ Wp 13 11 [some (vR 25), some (vR 8), some (vR 13), some (vI r), some (vI (k + 1))] [] (u2 (u2 μ 26 (r * 8 + k) 0) 27 (r * 8 + k) (-9)) R from ⟨by omega, by omega, ?_⟩)
      refine ih (k + 1) _ (by omega) (by omega) ⟨fun q h1 h2 => by rw [u2_ne h2, u2_ne h1]; exact hF.1 q h1 h2, fun y hy => by rw [u2_ne (by decide), u2_at, u2_at, u2_ne (by decide), up1_n (by omega), up1_n (by omega)]; exact hF.2 y hy⟩ (fun x h1 h2 => ?_)
      rw [u2_ne (by decide), u2_at, u2_at, u2_ne (by decide)]
      by_cases hx : x = r * 8 + k
      · subst hx; rw [up1_s, up1_s]; exact ⟨rfl, rfl⟩
      · rw [up1_n hx, up1_n hx]; exact hA x h1 (by omega)
theorem l13 {G : Hi} {R : Po} {μ0 : Mu} (hc0 : GC G μ0) (hI0 : ∀ x, 0 ≤ x → x < hN G → PrC13 G μ0 x) (hk : ∀ μ : Mu, (∀ q, q ≠ 26 → q ≠ 27 → μ q = μ0 q) → (∀ x k, 0 ≤ x → x < hN G → 0 ≤ k → k < 8 → MvC (μ 26) (μ 27) x k = mv G x k) → R none μ) : ∀ (n : Nat) (r : Int) (μ : Mu) (o4 : Option PV), 8 - r = n → 0 ≤ r → (∀ q, q ≠ 26 → q ≠ 27 → μ q = μ0 q) → (∀ x k, 0 ≤ x → x < r → x < hN G → 0 ≤ k → k < 8 → MvC (μ 26) (μ 27) x k = mv G x k) → Wp 13 2 [some (vR 25), some (vR 8), some (vR 13), some (vI r), o4] [] μ R := by
  have h2 := hc0.1.n
  intro n
  induction n with
  | zero =>
    intro r μ o4 hn h0 hF hM
    refine seg 3 (show (8 ≤ r → Wp 13 62 [some (vR 25), some (vR 8), some (vR 13), some (vI r), o4] [] μ R) ∧ (¬ (8 ≤ r) → Wp 13 8 [some (vR 25), some (vR 8), some (vR 13), some (vI r), o4] [] μ R) from ⟨fun c1 => ?_, fun c1 => ?_⟩)
    ·
      refine seg 1 (show R none μ from ?_)
      first | (exfalso; omega) | exact hk μ hF (fun x k h1 h2 h3 h4 => hM x k h1 (by omega) h2 h3 h4)
    ·
      refine seg 2 (show Wp 13 11 [some (vR 25), some (vR 8), some (vR 13), some (vI r), some (vI 0)] [] μ R from ?_)
      exfalso; omega
  | succ n ih =>
    intro r μ o4 hn h0 hF hM
    refine seg 3 (show (8 ≤ r → Wp 13 62 [some (vR 25), some (vR 8), some (vR 13), some (vI r), o4] [] μ R) ∧ (¬ (8 ≤ r) → Wp 13 8 [some (vR 25), some (vR 8), some (vR 13), some (vI r), o4] [] μ R) from ⟨fun c2 => ?_, fun c2 => ?_⟩)
    ·
      refine seg 1 (show R none μ from ?_)
      first | (exfalso; omega) | exact hk μ hF (fun x k h1 h2 h3 h4 => hM x k h1 (by omega) h2 h3 h4)
    ·
      refine seg 2 (show Wp 13 11 [some (vR 25), some (vR 8), some (vR 13), some (vI r), some (vI 0)] [] μ R from ?_)
      refine l13a (by omega) (fun μ1 f1 f2 => ?_) 8 0 μ (by decide) (by decide) ⟨fun _ _ _ => rfl, fun _ _ => ⟨rfl, rfl⟩⟩ (fun x h1 h2 => absurd h2 (by omega))
      have hc1 : GC G μ1 := hc0.fr (by rw [f1.1 8 (by decide) (by decide)]; exact hF 8 (by decide) (by decide)) (by rw [f1.1 9 (by decide) (by decide)]; exact hF 9 (by decide) (by decide)) (by rw [f1.1 10 (by decide) (by decide)]; exact hF 10 (by decide) (by decide)) (by rw [f1.1 11 (by decide) (by decide)]; exact hF 11 (by decide) (by decide))
      have hz : ∀ k, 0 ≤ k → k < 8 → MvC (μ1 26) (μ1 27) r k = (0, -9) := fun k h1 h2 => by unfold MvC; rw [(f2 _ (by omega) (by omega)).1, (f2 _ (by omega) (by omega)).2]
      have fin : ∀ μ2 : Mu, ((∀ q, q ≠ 26 → q ≠ 27 → μ2 q = μ1 q) ∧ (∀ y, ¬ (r * 8 ≤ y ∧ y < r * 8 + 8) → μ2 26 y = μ1 26 y ∧ μ2 27 y = μ1 27 y)) → (r < hN G → ∀ k, 0 ≤ k → k < 8 → MvC (μ2 26) (μ2 27) r k = mv G r k) → Wp 13 56 [some (vR 25), some (vR 8), some (vR 13), some (vI r), some (vI 8)] [] μ2 R := by
        intro μ2 f3 f4
        refine seg 2 (show iR (r + 1) ∧ Wp 13 2 [some (vR 25), some (vR 8), some (vR 13), some (vI (r + 1)), some (vI 8)] [] μ2 R from ⟨by omega, ?_⟩)
        refine ih (r + 1) μ2 _ (by omega) (by omega) (fun q h1 h2 => by rw [f3.1 q h1 h2, f1.1 q h1 h2]; exact hF q h1 h2) (fun x k h1 h2 h3 h4 h5 => ?_)
        by_cases hx : x = r
        · subst hx; exact f4 h3 k h4 h5
        · have e := hM x k h1 (by omega) h3 h4 h5
          unfold MvC at e ⊢
          rw [(f3.2 _ (by omega)).1, (f3.2 _ (by omega)).2, (f1.2 _ (by omega)).1, (f1.2 _ (by omega)).2]
          exact e
      refine seg 5 (show Wp 14 0 [some (vR 25), some (vR 8), some (vR 13), some (vI r), none, none, none] [] μ1 (fun rr μ' => Wp 13 56 [some (vR 25), some (vR 8), some (vR 13), some (vI r), some (vI 8)] (rr.toList ++ []) μ' R) from ?_)
      by_cases hrn : r < hN G
      · by_cases hpn : hP G r 0 = -9
        · refine s14n (r := r) hc1 (fun h => g47 hc1 (by omega) (by decide) (by rw [hpn]; exact h)) ?_
          exact fin μ1 ⟨fun _ _ _ => rfl, fun _ _ => ⟨rfl, rfl⟩⟩ (fun _ k h1 h2 => by rw [hz k h1 h2]; unfold mv; rw [if_pos (by omega)])
        · have hpv := hc1.1.pv (r := r) (w := 0) (by omega) (by decide) hpn
          have hI1 : PrC13 G μ1 r := by
            unfold PrC13
            rw [f1.1 14 (by decide) (by decide), f1.1 15 (by decide) (by decide), f1.1 16 (by decide) (by decide), f1.1 17 (by decide) (by decide), hF 14 (by decide) (by decide), hF 15 (by decide) (by decide), hF 16 (by decide) (by decide), hF 17 (by decide) (by decide)]
            exact hI0 r h0 hrn
          refine s14 hc1 hI1 (by omega) (by omega) hz (fun μ2 f3 f4 => ?_)
          exact fin μ2 f3 (fun _ => f4)
      · refine s14n (r := r) hc1 (fun h => g47n hc1 (by omega) h) ?_
        exact fin μ1 ⟨fun _ _ _ => rfl, fun _ _ => ⟨rfl, rfl⟩⟩ (fun z => absurd z hrn)
theorem s13 {G : Hi} {R : Po} {μ : Mu} (hc : GC G μ) (hI : ∀ x, 0 ≤ x → x < hN G → PrC13 G μ x) (hk : ∀ μ2 : Mu, (∀ q, q ≠ 26 → q ≠ 27 → μ2 q = μ q) → (∀ x k, 0 ≤ x → x < hN G → 0 ≤ k → k < 8 → MvC (μ2 26) (μ2 27) x k = mv G x k) → R none μ2) : Wp 13 0 [some (vR 25), some (vR 8), some (vR 13), none, none] [] μ R := by
  refine seg 2 (show Wp 13 2 [some (vR 25), some (vR 8), some (vR 13), some (vI 0), none] [] μ R from ?_)
  exact l13 hc hI hk 8 0 μ none (by decide) (by decide) (fun _ _ _ => rfl) (fun x k h1 h2 => absurd h2 (by omega))
