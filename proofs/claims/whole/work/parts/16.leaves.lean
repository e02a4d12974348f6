/-! bits -/
abbrev tb (x k : Int) : Prop := x / 2 ^ k.toNat % 2 = 1
theorem and1 {x : Int} (hx : 0 ≤ x) : ((Int.toNat x &&& Int.toNat 1 : Nat) : Int) = x % 2 := by
  rw [show Int.toNat 1 = 1 from rfl, Nat.and_one_is_mod]
  omega
theorem sh_nn {x : Int} (hx : 0 ≤ x) (k : Int) : 0 ≤ x / 2 ^ k.toNat := Int.ediv_nonneg hx (Int.pow_nonneg (by decide))
theorem tb_iff {x k : Int} (hx : 0 ≤ x) : ((Int.toNat (x / 2 ^ (k : Int).toNat) &&& Int.toNat 1 : Nat) : Int) = 1 ↔ tb x k := by
  rw [and1 (sh_nn hx k)]
theorem pw_le {k : Int} (h : 0 ≤ k ∧ k < 8) : (1 : Int) * 2 ^ k.toNat ≤ 128 ∧ 0 ≤ (1 : Int) * 2 ^ k.toNat := by
  rcases (show k = 0 ∨ k = 1 ∨ k = 2 ∨ k = 3 ∨ k = 4 ∨ k = 5 ∨ k = 6 ∨ k = 7 by omega) with rfl | rfl | rfl | rfl | rfl | rfl | rfl | rfl <;> decide
theorem or_lo (a b n : Nat) (h : b < 2 ^ n) : a * 2 ^ n ||| b = a * 2 ^ n + b := by
  rw [Nat.mul_comm]
  exact (Nat.two_pow_add_eq_or_of_lt h a).symm

theorem s114 {μ : Mu} {R : Po} {r k : Int} (hb : -1000 ≤ r ∧ r ≤ 1000 ∧ -1000 ≤ k ∧ k ≤ 1000) (h : R (some (vI (r * 8 + k))) μ) : Wp 114 0 [some (vI r), some (vI k)] [] μ R := by
  refine seg 6 (show iR (r * 8) ∧ iR ((r * 8) + k) ∧ R (some (vI ((r * 8) + k))) μ from ⟨by omega, by omega, ?_⟩)
  first | exact h | (exfalso; omega)
theorem s115 {μ : Mu} {R : Po} {r k : Int} (hy : 0 ≤ r ∧ r < 8 ∧ 0 ≤ k ∧ k < 8 → R (some (vI 1)) μ) (hn : ¬ (0 ≤ r ∧ r < 8 ∧ 0 ≤ k ∧ k < 8) → R (some (vI 0)) μ) : Wp 115 0 [some (vI r), some (vI k)] [] μ R := by
  refine seg 2 (show (r < 0 → Wp 115 24 [some (vI r), some (vI k)] [] μ R) ∧ (¬ (r < 0) → Wp 115 4 [some (vI r), some (vI k)] [] μ R) from ⟨fun c1 => ?_, fun c1 => ?_⟩)
  ·
    refine seg 2 (show (0 = 0 ∨ 0 = 1) ∧ R (some (vI 0)) μ from ⟨by decide, ?_⟩)
    first | exact hy (by omega) | exact hn (by omega)
  ·
    refine seg 3 (show (8 ≤ r → Wp 115 24 [some (vI r), some (vI k)] [] μ R) ∧ (¬ (8 ≤ r) → Wp 115 10 [some (vI r), some (vI k)] [] μ R) from ⟨fun c2 => ?_, fun c2 => ?_⟩)
    ·
      refine seg 2 (show (0 = 0 ∨ 0 = 1) ∧ R (some (vI 0)) μ from ⟨by decide, ?_⟩)
      first | exact hy (by omega) | exact hn (by omega)
    ·
      refine seg 2 (show (k < 0 → Wp 115 24 [some (vI r), some (vI k)] [] μ R) ∧ (¬ (k < 0) → Wp 115 14 [some (vI r), some (vI k)] [] μ R) from ⟨fun c3 => ?_, fun c3 => ?_⟩)
      ·
        refine seg 2 (show (0 = 0 ∨ 0 = 1) ∧ R (some (vI 0)) μ from ⟨by decide, ?_⟩)
        first | exact hy (by omega) | exact hn (by omega)
      ·
        refine seg 3 (show (8 ≤ k → Wp 115 24 [some (vI r), some (vI k)] [] μ R) ∧ (¬ (8 ≤ k) → Wp 115 20 [some (vI r), some (vI k)] [] μ R) from ⟨fun c4 => ?_, fun c4 => ?_⟩)
        ·
          refine seg 2 (show (0 = 0 ∨ 0 = 1) ∧ R (some (vI 0)) μ from ⟨by decide, ?_⟩)
          first | exact hy (by omega) | exact hn (by omega)
        ·
          refine seg 3 (show (1 = 0 ∨ 1 = 1) ∧ R (some (vI 1)) μ from ⟨by decide, ?_⟩)
          first | exact hy (by omega) | exact hn (by omega)
theorem s115t {μ : Mu} {R : Po} {r k : Int} (hb : 0 ≤ r ∧ r < 8 ∧ 0 ≤ k ∧ k < 8) (h : R (some (vI 1)) μ) : Wp 115 0 [some (vI r), some (vI k)] [] μ R := s115 (fun _ => h) (fun z => absurd hb z)
theorem s43_4 {μ : Mu} {R : Po} (h : R (some (vI (μ 4 0))) μ) : Wp 43 0 [some (vR 4)] [] μ R := by
  refine seg 3 (show R (some (vI (μ 4 0))) μ from ?_)
  first | exact h | (exfalso; omega)
theorem s44_4 {μ : Mu} {R : Po} {r : Int} (hy : 0 ≤ r ∧ r < μ 4 0 ∧ r < 8 → R (some (vI 1)) μ) (hn : ¬ (0 ≤ r ∧ r < μ 4 0 ∧ r < 8) → R (some (vI 0)) μ) : Wp 44 0 [some (vR 4), some (vI r)] [] μ R := by
  refine seg 2 (show (r < 0 → Wp 44 22 [some (vR 4), some (vI r)] [] μ R) ∧ (¬ (r < 0) → Wp 44 4 [some (vR 4), some (vI r)] [] μ R) from ⟨fun c1 => ?_, fun c1 => ?_⟩)
  ·
    refine seg 2 (show (0 = 0 ∨ 0 = 1) ∧ R (some (vI 0)) μ from ⟨by decide, ?_⟩)
    first | exact hy (by omega) | exact hn (by omega)
  ·
    refine seg 4 (show (μ 4 0 ≤ r → Wp 44 22 [some (vR 4), some (vI r)] [] μ R) ∧ (¬ (μ 4 0 ≤ r) → Wp 44 12 [some (vR 4), some (vI r)] [] μ R) from ⟨fun c2 => ?_, fun c2 => ?_⟩)
    ·
      refine seg 2 (show (0 = 0 ∨ 0 = 1) ∧ R (some (vI 0)) μ from ⟨by decide, ?_⟩)
      first | exact hy (by omega) | exact hn (by omega)
    ·
      refine seg 3 (show (8 ≤ r → Wp 44 22 [some (vR 4), some (vI r)] [] μ R) ∧ (¬ (8 ≤ r) → Wp 44 18 [some (vR 4), some (vI r)] [] μ R) from ⟨fun c3 => ?_, fun c3 => ?_⟩)
      ·
        refine seg 2 (show (0 = 0 ∨ 0 = 1) ∧ R (some (vI 0)) μ from ⟨by decide, ?_⟩)
        first | exact hy (by omega) | exact hn (by omega)
      ·
        refine seg 3 (show (1 = 0 ∨ 1 = 1) ∧ R (some (vI 1)) μ from ⟨by decide, ?_⟩)
        first | exact hy (by omega) | exact hn (by omega)
theorem s45_4 {μ : Mu} {R : Po} {r k : Int} (hy : 0 ≤ r ∧ r < μ 4 0 ∧ r < 8 ∧ 0 ≤ k ∧ k < μ 6 r → R (some (vI 1)) μ) (hn : ¬ (0 ≤ r ∧ r < μ 4 0 ∧ r < 8 ∧ 0 ≤ k ∧ k < μ 6 r) → R (some (vI 0)) μ) : Wp 45 0 [some (vR 4), some (vI r), some (vI k)] [] μ R := by
  refine seg 2 (show (r < 0 → Wp 45 36 [some (vR 4), some (vI r), some (vI k)] [] μ R) ∧ (¬ (r < 0) → Wp 45 4 [some (vR 4), some (vI r), some (vI k)] [] μ R) from ⟨fun c1 => ?_, fun c1 => ?_⟩)
  ·
    refine seg 2 (show (0 = 0 ∨ 0 = 1) ∧ R (some (vI 0)) μ from ⟨by decide, ?_⟩)
    first | exact hy (by omega) | exact hn (by omega)
  ·
    refine seg 4 (show (μ 4 0 ≤ r → Wp 45 36 [some (vR 4), some (vI r), some (vI k)] [] μ R) ∧ (¬ (μ 4 0 ≤ r) → Wp 45 12 [some (vR 4), some (vI r), some (vI k)] [] μ R) from ⟨fun c2 => ?_, fun c2 => ?_⟩)
    ·
      refine seg 2 (show (0 = 0 ∨ 0 = 1) ∧ R (some (vI 0)) μ from ⟨by decide, ?_⟩)
      first | exact hy (by omega) | exact hn (by omega)
    ·
      refine seg 3 (show (8 ≤ r → Wp 45 36 [some (vR 4), some (vI r), some (vI k)] [] μ R) ∧ (¬ (8 ≤ r) → Wp 45 18 [some (vR 4), some (vI r), some (vI k)] [] μ R) from ⟨fun c3 => ?_, fun c3 => ?_⟩)
      ·
        refine seg 2 (show (0 = 0 ∨ 0 = 1) ∧ R (some (vI 0)) μ from ⟨by decide, ?_⟩)
        first | exact hy (by omega) | exact hn (by omega)
      ·
        refine seg 2 (show (k < 0 → Wp 45 36 [some (vR 4), some (vI r), some (vI k)] [] μ R) ∧ (¬ (k < 0) → Wp 45 22 [some (vR 4), some (vI r), some (vI k)] [] μ R) from ⟨fun c4 => ?_, fun c4 => ?_⟩)
        ·
          refine seg 2 (show (0 = 0 ∨ 0 = 1) ∧ R (some (vI 0)) μ from ⟨by decide, ?_⟩)
          first | exact hy (by omega) | exact hn (by omega)
        ·
          refine seg 6 (show (0 ≤ r ∧ r < 8) ∧ (μ 6 r ≤ k → Wp 45 36 [some (vR 4), some (vI r), some (vI k)] [] μ R) ∧ (¬ (μ 6 r ≤ k) → Wp 45 32 [some (vR 4), some (vI r), some (vI k)] [] μ R) from ⟨by omega, fun c5 => ?_, fun c5 => ?_⟩)
          ·
            refine seg 2 (show (0 = 0 ∨ 0 = 1) ∧ R (some (vI 0)) μ from ⟨by decide, ?_⟩)
            first | exact hy (by omega) | exact hn (by omega)
          ·
            refine seg 3 (show (1 = 0 ∨ 1 = 1) ∧ R (some (vI 1)) μ from ⟨by decide, ?_⟩)
            first | exact hy (by omega) | exact hn (by omega)
theorem s44t_4 {μ : Mu} {R : Po} {r : Int} (hb : 0 ≤ r ∧ r < μ 4 0 ∧ r < 8) (h : R (some (vI 1)) μ) : Wp 44 0 [some (vR 4), some (vI r)] [] μ R := s44_4 (fun _ => h) (fun z => absurd hb z)
theorem s44f_4 {μ : Mu} {R : Po} {r : Int} (hb : ¬ (0 ≤ r ∧ r < μ 4 0 ∧ r < 8)) (h : R (some (vI 0)) μ) : Wp 44 0 [some (vR 4), some (vI r)] [] μ R := s44_4 (fun z => absurd z hb) (fun _ => h)
theorem s45t_4 {μ : Mu} {R : Po} {r k : Int} (hb : 0 ≤ r ∧ r < μ 4 0 ∧ r < 8 ∧ 0 ≤ k ∧ k < μ 6 r) (h : R (some (vI 1)) μ) : Wp 45 0 [some (vR 4), some (vI r), some (vI k)] [] μ R := s45_4 (fun _ => h) (fun z => absurd hb z)
theorem s46v_4 {μ : Mu} {R : Po} {r : Int} (hb : 0 ≤ r ∧ r < μ 4 0 ∧ r < 8) (h : R (some (vI (μ 6 r))) μ) : Wp 46 0 [some (vR 4), some (vI r)] [] μ R := by
  refine seg 3 (show Wp 44 0 [some (vR 4), some (vI r)] [] μ (fun rr μ' => Wp 46 5 [some (vR 4), some (vI r)] (rr.toList ++ []) μ' R) from ?_)
  refine s44t_4 (by omega) ?_
  refine seg 1 (show (1 = 0 → Wp 46 17 [some (vR 4), some (vI r)] [] μ R) ∧ (¬ (1 = 0) → Wp 46 8 [some (vR 4), some (vI r)] [] μ R) from ⟨fun z => absurd z (by decide), fun _ => ?_⟩)
  refine seg 6 (show (0 ≤ r ∧ r < 8) ∧ R (some (vI (μ 6 r))) μ from ⟨by omega, ?_⟩)
  first | exact h | (exfalso; omega)
theorem s46n_4 {μ : Mu} {R : Po} {r : Int} (hb : ¬ (0 ≤ r ∧ r < μ 4 0 ∧ r < 8)) (h : R (some (vI 0)) μ) : Wp 46 0 [some (vR 4), some (vI r)] [] μ R := by
  refine seg 3 (show Wp 44 0 [some (vR 4), some (vI r)] [] μ (fun rr μ' => Wp 46 5 [some (vR 4), some (vI r)] (rr.toList ++ []) μ' R) from ?_)
  refine s44f_4 (by omega) ?_
  refine seg 1 (show (0 = 0 → Wp 46 17 [some (vR 4), some (vI r)] [] μ R) ∧ (¬ (0 = 0) → Wp 46 8 [some (vR 4), some (vI r)] [] μ R) from ⟨fun _ => ?_, fun z => absurd z (by decide)⟩)
  refine seg 2 (show R (some (vI 0)) μ from ?_)
  first | exact h | (exfalso; omega)
theorem s47v_4 {μ : Mu} {R : Po} {r w : Int} (hb : (0 ≤ r ∧ r < μ 4 0 ∧ r < 8) ∧ 0 ≤ w ∧ w < 2) (h : R (some (vI (μ 5 (r * 2 + w)))) μ) : Wp 47 0 [some (vR 4), some (vI r), some (vI w)] [] μ R := by
  refine seg 3 (show Wp 44 0 [some (vR 4), some (vI r)] [] μ (fun rr μ' => Wp 47 5 [some (vR 4), some (vI r), some (vI w)] (rr.toList ++ []) μ' R) from ?_)
  refine s44t_4 (by omega) ?_
  refine seg 1 (show (1 = 0 → Wp 47 17 [some (vR 4), some (vI r), some (vI w)] [] μ R) ∧ (¬ (1 = 0) → Wp 47 8 [some (vR 4), some (vI r), some (vI w)] [] μ R) from ⟨fun z => absurd z (by decide), fun _ => ?_⟩)
  refine seg 2 (show (w < 0 → Wp 47 17 [some (vR 4), some (vI r), some (vI w)] [] μ R) ∧ (¬ (w < 0) → Wp 47 12 [some (vR 4), some (vI r), some (vI w)] [] μ R) from ⟨fun c1 => ?_, fun c1 => ?_⟩)
  ·
    refine seg 2 (show R (some (vI (-9))) μ from ?_)
    first | exact h | (exfalso; omega)
  ·
    refine seg 3 (show (w < 2 → Wp 47 20 [some (vR 4), some (vI r), some (vI w)] [] μ R) ∧ (¬ (w < 2) → Wp 47 17 [some (vR 4), some (vI r), some (vI w)] [] μ R) from ⟨fun c2 => ?_, fun c2 => ?_⟩)
    ·
      refine seg 9 (show iR (r * 2) ∧ iR ((r * 2) + w) ∧ (0 ≤ ((r * 2) + w) ∧ ((r * 2) + w) < 16) ∧ R (some (vI (μ 5 ((r * 2) + w)))) μ from ⟨by omega, by omega, by omega, ?_⟩)
      first | exact h | (exfalso; omega)
    ·
      refine seg 2 (show R (some (vI (-9))) μ from ?_)
      first | exact h | (exfalso; omega)
theorem s47n_4 {μ : Mu} {R : Po} {r w : Int} (hb : ¬ (0 ≤ r ∧ r < μ 4 0 ∧ r < 8)) (h : R (some (vI (-9))) μ) : Wp 47 0 [some (vR 4), some (vI r), some (vI w)] [] μ R := by
  refine seg 3 (show Wp 44 0 [some (vR 4), some (vI r)] [] μ (fun rr μ' => Wp 47 5 [some (vR 4), some (vI r), some (vI w)] (rr.toList ++ []) μ' R) from ?_)
  refine s44f_4 (by omega) ?_
  refine seg 1 (show (0 = 0 → Wp 47 17 [some (vR 4), some (vI r), some (vI w)] [] μ R) ∧ (¬ (0 = 0) → Wp 47 8 [some (vR 4), some (vI r), some (vI w)] [] μ R) from ⟨fun _ => ?_, fun z => absurd z (by decide)⟩)
  refine seg 2 (show R (some (vI (-9))) μ from ?_)
  first | exact h | (exfalso; omega)
theorem s48v_4 {μ : Mu} {R : Po} {r k : Int} (hb : (0 ≤ r ∧ r < μ 4 0 ∧ r < 8 ∧ 0 ≤ k ∧ k < μ 6 r) ∧ k < 8) (h : R (some (vI (μ 7 (r * 8 + k)))) μ) : Wp 48 0 [some (vR 4), some (vI r), some (vI k)] [] μ R := by
  refine seg 4 (show Wp 45 0 [some (vR 4), some (vI r), some (vI k)] [] μ (fun rr μ' => Wp 48 6 [some (vR 4), some (vI r), some (vI k)] (rr.toList ++ []) μ' R) from ?_)
  refine s45t_4 (by omega) ?_
  refine seg 1 (show (1 = 0 → Wp 48 28 [some (vR 4), some (vI r), some (vI k)] [] μ R) ∧ (¬ (1 = 0) → Wp 48 9 [some (vR 4), some (vI r), some (vI k)] [] μ R) from ⟨fun z => absurd z (by decide), fun _ => ?_⟩)
  refine seg 3 (show (8 ≤ k → Wp 48 28 [some (vR 4), some (vI r), some (vI k)] [] μ R) ∧ (¬ (8 ≤ k) → Wp 48 15 [some (vR 4), some (vI r), some (vI k)] [] μ R) from ⟨fun c1 => ?_, fun c1 => ?_⟩)
  ·
    refine seg 2 (show R (some (vI (-9))) μ from ?_)
    first | exact h | (exfalso; omega)
  ·
    refine seg 5 (show Wp 114 0 [some (vI r), some (vI k)] [] μ (fun rr μ' => Wp 48 24 [some (vR 4), some (vI r), some (vI k)] (rr.toList ++ [vR 7]) μ' R) from ?_)
    refine s114 (by omega) ?_
    refine seg 3 (show (0 ≤ (r * 8 + k) ∧ (r * 8 + k) < 64) ∧ R (some (vI (μ 7 (r * 8 + k)))) μ from ⟨by omega, ?_⟩)
    first | exact h | (exfalso; omega)
theorem s50_4 {μ : Mu} {R : Po} (h : R none (u2 μ 4 0 0)) : Wp 50 0 [some (vR 4)] [] μ R := by
  refine seg 4 (show R none (u2 μ 4 0 0) from ?_)
  first | exact h | (exfalso; omega)
theorem s43_8 {μ : Mu} {R : Po} (h : R (some (vI (μ 8 0))) μ) : Wp 43 0 [some (vR 8)] [] μ R := by
  refine seg 3 (show R (some (vI (μ 8 0))) μ from ?_)
  first | exact h | (exfalso; omega)
theorem s44_8 {μ : Mu} {R : Po} {r : Int} (hy : 0 ≤ r ∧ r < μ 8 0 ∧ r < 8 → R (some (vI 1)) μ) (hn : ¬ (0 ≤ r ∧ r < μ 8 0 ∧ r < 8) → R (some (vI 0)) μ) : Wp 44 0 [some (vR 8), some (vI r)] [] μ R := by
  refine seg 2 (show (r < 0 → Wp 44 22 [some (vR 8), some (vI r)] [] μ R) ∧ (¬ (r < 0) → Wp 44 4 [some (vR 8), some (vI r)] [] μ R) from ⟨fun c1 => ?_, fun c1 => ?_⟩)
  ·
    refine seg 2 (show (0 = 0 ∨ 0 = 1) ∧ R (some (vI 0)) μ from ⟨by decide, ?_⟩)
    first | exact hy (by omega) | exact hn (by omega)
  ·
    refine seg 4 (show (μ 8 0 ≤ r → Wp 44 22 [some (vR 8), some (vI r)] [] μ R) ∧ (¬ (μ 8 0 ≤ r) → Wp 44 12 [some (vR 8), some (vI r)] [] μ R) from ⟨fun c2 => ?_, fun c2 => ?_⟩)
    ·
      refine seg 2 (show (0 = 0 ∨ 0 = 1) ∧ R (some (vI 0)) μ from ⟨by decide, ?_⟩)
      first | exact hy (by omega) | exact hn (by omega)
    ·
      refine seg 3 (show (8 ≤ r → Wp 44 22 [some (vR 8), some (vI r)] [] μ R) ∧ (¬ (8 ≤ r) → Wp 44 18 [some (vR 8), some (vI r)] [] μ R) from ⟨fun c3 => ?_, fun c3 => ?_⟩)
      ·
        refine seg 2 (show (0 = 0 ∨ 0 = 1) ∧ R (some (vI 0)) μ from ⟨by decide, ?_⟩)
        first | exact hy (by omega) | exact hn (by omega)
      ·
        refine seg 3 (show (1 = 0 ∨ 1 = 1) ∧ R (some (vI 1)) μ from ⟨by decide, ?_⟩)
        first | exact hy (by omega) | exact hn (by omega)
theorem s45_8 {μ : Mu} {R : Po} {r k : Int} (hy : 0 ≤ r ∧ r < μ 8 0 ∧ r < 8 ∧ 0 ≤ k ∧ k < μ 10 r → R (some (vI 1)) μ) (hn : ¬ (0 ≤ r ∧ r < μ 8 0 ∧ r < 8 ∧ 0 ≤ k ∧ k < μ 10 r) → R (some (vI 0)) μ) : Wp 45 0 [some (vR 8), some (vI r), some (vI k)] [] μ R := by
  refine seg 2 (show (r < 0 → Wp 45 36 [some (vR 8), some (vI r), some (vI k)] [] μ R) ∧ (¬ (r < 0) → Wp 45 4 [some (vR 8), some (vI r), some (vI k)] [] μ R) from ⟨fun c1 => ?_, fun c1 => ?_⟩)
  ·
    refine seg 2 (show (0 = 0 ∨ 0 = 1) ∧ R (some (vI 0)) μ from ⟨by decide, ?_⟩)
    first | exact hy (by omega) | exact hn (by omega)
  ·
    refine seg 4 (show (μ 8 0 ≤ r → Wp 45 36 [some (vR 8), some (vI r), some (vI k)] [] μ R) ∧ (¬ (μ 8 0 ≤ r) → Wp 45 12 [some (vR 8), some (vI r), some (vI k)] [] μ R) from ⟨fun c2 => ?_, fun c2 => ?_⟩)
    ·
      refine seg 2 (show (0 = 0 ∨ 0 = 1) ∧ R (some (vI 0)) μ from ⟨by decide, ?_⟩)
      first | exact hy (by omega) | exact hn (by omega)
    ·
      refine seg 3 (show (8 ≤ r → Wp 45 36 [some (vR 8), some (vI r), some (vI k)] [] μ R) ∧ (¬ (8 ≤ r) → Wp 45 18 [some (vR 8), some (vI r), some (vI k)] [] μ R) from ⟨fun c3 => ?_, fun c3 => ?_⟩)
      ·
        refine seg 2 (show (0 = 0 ∨ 0 = 1) ∧ R (some (vI 0)) μ from ⟨by decide, ?_⟩)
        first | exact hy (by omega) | exact hn (by omega)
      ·
        refine seg 2 (show (k < 0 → Wp 45 36 [some (vR 8), some (vI r), some (vI k)] [] μ R) ∧ (¬ (k < 0) → Wp 45 22 [some (vR 8), some (vI r), some (vI k)] [] μ R) from ⟨fun c4 => ?_, fun c4 => ?_⟩)
        ·
          refine seg 2 (show (0 = 0 ∨ 0 = 1) ∧ R (some (vI 0)) μ from ⟨by decide, ?_⟩)
          first | exact hy (by omega) | exact hn (by omega)
        ·
          refine seg 6 (show (0 ≤ r ∧ r < 8) ∧ (μ 10 r ≤ k → Wp 45 36 [some (vR 8), some (vI r), some (vI k)] [] μ R) ∧ (¬ (μ 10 r ≤ k) → Wp 45 32 [some (vR 8), some (vI r), some (vI k)] [] μ R) from ⟨by omega, fun c5 => ?_, fun c5 => ?_⟩)
          ·
            refine seg 2 (show (0 = 0 ∨ 0 = 1) ∧ R (some (vI 0)) μ from ⟨by decide, ?_⟩)
            first | exact hy (by omega) | exact hn (by omega)
          ·
            refine seg 3 (show (1 = 0 ∨ 1 = 1) ∧ R (some (vI 1)) μ from ⟨by decide, ?_⟩)
            first | exact hy (by omega) | exact hn (by omega)
theorem s44t_8 {μ : Mu} {R : Po} {r : Int} (hb : 0 ≤ r ∧ r < μ 8 0 ∧ r < 8) (h : R (some (vI 1)) μ) : Wp 44 0 [some (vR 8), some (vI r)] [] μ R := s44_8 (fun _ => h) (fun z => absurd hb z)
theorem s44f_8 {μ : Mu} {R : Po} {r : Int} (hb : ¬ (0 ≤ r ∧ r < μ 8 0 ∧ r < 8)) (h : R (some (vI 0)) μ) : Wp 44 0 [some (vR 8), some (vI r)] [] μ R := s44_8 (fun z => absurd z hb) (fun _ => h)
theorem s45t_8 {μ : Mu} {R : Po} {r k : Int} (hb : 0 ≤ r ∧ r < μ 8 0 ∧ r < 8 ∧ 0 ≤ k ∧ k < μ 10 r) (h : R (some (vI 1)) μ) : Wp 45 0 [some (vR 8), some (vI r), some (vI k)] [] μ R := s45_8 (fun _ => h) (fun z => absurd hb z)
theorem s46v_8 {μ : Mu} {R : Po} {r : Int} (hb : 0 ≤ r ∧ r < μ 8 0 ∧ r < 8) (h : R (some (vI (μ 10 r))) μ) : Wp 46 0 [some (vR 8), some (vI r)] [] μ R := by
  refine seg 3 (show Wp 44 0 [some (vR 8), some (vI r)] [] μ (fun rr μ' => Wp 46 5 [some (vR 8), some (vI r)] (rr.toList ++ []) μ' R) from ?_)
  refine s44t_8 (by omega) ?_
  refine seg 1 (show (1 = 0 → Wp 46 17 [some (vR 8), some (vI r)] [] μ R) ∧ (¬ (1 = 0) → Wp 46 8 [some (vR 8), some (vI r)] [] μ R) from ⟨fun z => absurd z (by decide), fun _ => ?_⟩)
  refine seg 6 (show (0 ≤ r ∧ r < 8) ∧ R (some (vI (μ 10 r))) μ from ⟨by omega, ?_⟩)
  first | exact h | (exfalso; omega)
theorem s46n_8 {μ : Mu} {R : Po} {r : Int} (hb : ¬ (0 ≤ r ∧ r < μ 8 0 ∧ r < 8)) (h : R (some (vI 0)) μ) : Wp 46 0 [some (vR 8), some (vI r)] [] μ R := by
  refine seg 3 (show Wp 44 0 [some (vR 8), some (vI r)] [] μ (fun rr μ' => Wp 46 5 [some (vR 8), some (vI r)] (rr.toList ++ []) μ' R) from ?_)
  refine s44f_8 (by omega) ?_
  refine seg 1 (show (0 = 0 → Wp 46 17 [some (vR 8), some (vI r)] [] μ R) ∧ (¬ (0 = 0) → Wp 46 8 [some (vR 8), some (vI r)] [] μ R) from ⟨fun _ => ?_, fun z => absurd z (by decide)⟩)
  refine seg 2 (show R (some (vI 0)) μ from ?_)
  first | exact h | (exfalso; omega)
theorem s47v_8 {μ : Mu} {R : Po} {r w : Int} (hb : (0 ≤ r ∧ r < μ 8 0 ∧ r < 8) ∧ 0 ≤ w ∧ w < 2) (h : R (some (vI (μ 9 (r * 2 + w)))) μ) : Wp 47 0 [some (vR 8), some (vI r), some (vI w)] [] μ R := by
  refine seg 3 (show Wp 44 0 [some (vR 8), some (vI r)] [] μ (fun rr μ' => Wp 47 5 [some (vR 8), some (vI r), some (vI w)] (rr.toList ++ []) μ' R) from ?_)
  refine s44t_8 (by omega) ?_
  refine seg 1 (show (1 = 0 → Wp 47 17 [some (vR 8), some (vI r), some (vI w)] [] μ R) ∧ (¬ (1 = 0) → Wp 47 8 [some (vR 8), some (vI r), some (vI w)] [] μ R) from ⟨fun z => absurd z (by decide), fun _ => ?_⟩)
  refine seg 2 (show (w < 0 → Wp 47 17 [some (vR 8), some (vI r), some (vI w)] [] μ R) ∧ (¬ (w < 0) → Wp 47 12 [some (vR 8), some (vI r), some (vI w)] [] μ R) from ⟨fun c1 => ?_, fun c1 => ?_⟩)
  ·
    refine seg 2 (show R (some (vI (-9))) μ from ?_)
    first | exact h | (exfalso; omega)
  ·
    refine seg 3 (show (w < 2 → Wp 47 20 [some (vR 8), some (vI r), some (vI w)] [] μ R) ∧ (¬ (w < 2) → Wp 47 17 [some (vR 8), some (vI r), some (vI w)] [] μ R) from ⟨fun c2 => ?_, fun c2 => ?_⟩)
    ·
      refine seg 9 (show iR (r * 2) ∧ iR ((r * 2) + w) ∧ (0 ≤ ((r * 2) + w) ∧ ((r * 2) + w) < 16) ∧ R (some (vI (μ 9 ((r * 2) + w)))) μ from ⟨by omega, by omega, by omega, ?_⟩)
      first | exact h | (exfalso; omega)
    ·
      refine seg 2 (show R (some (vI (-9))) μ from ?_)
      first | exact h | (exfalso; omega)
theorem s47n_8 {μ : Mu} {R : Po} {r w : Int} (hb : ¬ (0 ≤ r ∧ r < μ 8 0 ∧ r < 8)) (h : R (some (vI (-9))) μ) : Wp 47 0 [some (vR 8), some (vI r), some (vI w)] [] μ R := by
  refine seg 3 (show Wp 44 0 [some (vR 8), some (vI r)] [] μ (fun rr μ' => Wp 47 5 [some (vR 8), some (vI r), some (vI w)] (rr.toList ++ []) μ' R) from ?_)
  refine s44f_8 (by omega) ?_
  refine seg 1 (show (0 = 0 → Wp 47 17 [some (vR 8), some (vI r), some (vI w)] [] μ R) ∧ (¬ (0 = 0) → Wp 47 8 [some (vR 8), some (vI r), some (vI w)] [] μ R) from ⟨fun _ => ?_, fun z => absurd z (by decide)⟩)
  refine seg 2 (show R (some (vI (-9))) μ from ?_)
  first | exact h | (exfalso; omega)
theorem s48v_8 {μ : Mu} {R : Po} {r k : Int} (hb : (0 ≤ r ∧ r < μ 8 0 ∧ r < 8 ∧ 0 ≤ k ∧ k < μ 10 r) ∧ k < 8) (h : R (some (vI (μ 11 (r * 8 + k)))) μ) : Wp 48 0 [some (vR 8), some (vI r), some (vI k)] [] μ R := by
  refine seg 4 (show Wp 45 0 [some (vR 8), some (vI r), some (vI k)] [] μ (fun rr μ' => Wp 48 6 [some (vR 8), some (vI r), some (vI k)] (rr.toList ++ []) μ' R) from ?_)
  refine s45t_8 (by omega) ?_
  refine seg 1 (show (1 = 0 → Wp 48 28 [some (vR 8), some (vI r), some (vI k)] [] μ R) ∧ (¬ (1 = 0) → Wp 48 9 [some (vR 8), some (vI r), some (vI k)] [] μ R) from ⟨fun z => absurd z (by decide), fun _ => ?_⟩)
  refine seg 3 (show (8 ≤ k → Wp 48 28 [some (vR 8), some (vI r), some (vI k)] [] μ R) ∧ (¬ (8 ≤ k) → Wp 48 15 [some (vR 8), some (vI r), some (vI k)] [] μ R) from ⟨fun c1 => ?_, fun c1 => ?_⟩)
  ·
    refine seg 2 (show R (some (vI (-9))) μ from ?_)
    first | exact h | (exfalso; omega)
  ·
    refine seg 5 (show Wp 114 0 [some (vI r), some (vI k)] [] μ (fun rr μ' => Wp 48 24 [some (vR 8), some (vI r), some (vI k)] (rr.toList ++ [vR 11]) μ' R) from ?_)
    refine s114 (by omega) ?_
    refine seg 3 (show (0 ≤ (r * 8 + k) ∧ (r * 8 + k) < 64) ∧ R (some (vI (μ 11 (r * 8 + k)))) μ from ⟨by omega, ?_⟩)
    first | exact h | (exfalso; omega)
theorem s50_8 {μ : Mu} {R : Po} (h : R none (u2 μ 8 0 0)) : Wp 50 0 [some (vR 8)] [] μ R := by
  refine seg 4 (show R none (u2 μ 8 0 0) from ?_)
  first | exact h | (exfalso; omega)
theorem s18v_13 {μ : Mu} {R : Po} {r : Int} (hb : 0 ≤ r ∧ r < 8) (h : R (some (vI (μ 14 r))) μ) : Wp 18 0 [some (vR 13), some (vI r)] [] μ R := by
  refine seg 2 (show (r < 0 → Wp 18 19 [some (vR 13), some (vI r)] [] μ R) ∧ (¬ (r < 0) → Wp 18 4 [some (vR 13), some (vI r)] [] μ R) from ⟨fun c1 => ?_, fun c1 => ?_⟩)
  ·
    refine seg 2 (show R (some (vI (-9))) μ from ?_)
    first | exact h | (exfalso; omega)
  ·
    refine seg 3 (show (8 ≤ r → Wp 18 19 [some (vR 13), some (vI r)] [] μ R) ∧ (¬ (8 ≤ r) → Wp 18 10 [some (vR 13), some (vI r)] [] μ R) from ⟨fun c2 => ?_, fun c2 => ?_⟩)
    ·
      refine seg 2 (show R (some (vI (-9))) μ from ?_)
      first | exact h | (exfalso; omega)
    ·
      refine seg 6 (show (0 ≤ r ∧ r < 8) ∧ R (some (vI (μ 14 r))) μ from ⟨by omega, ?_⟩)
      first | exact h | (exfalso; omega)
theorem s19v_13 {μ : Mu} {R : Po} {r k : Int} (hb : 0 ≤ r ∧ r < 8 ∧ 0 ≤ k ∧ k < 8) (h : R (some (vI (μ 15 (r * 8 + k)))) μ) : Wp 19 0 [some (vR 13), some (vI r), some (vI k)] [] μ R := by
  refine seg 3 (show Wp 115 0 [some (vI r), some (vI k)] [] μ (fun rr μ' => Wp 19 5 [some (vR 13), some (vI r), some (vI k)] (rr.toList ++ []) μ' R) from ?_)
  refine s115t (by omega) ?_
  refine seg 1 (show (1 = 0 → Wp 19 21 [some (vR 13), some (vI r), some (vI k)] [] μ R) ∧ (¬ (1 = 0) → Wp 19 8 [some (vR 13), some (vI r), some (vI k)] [] μ R) from ⟨fun z => absurd z (by decide), fun _ => ?_⟩)
  refine seg 5 (show Wp 114 0 [some (vI r), some (vI k)] [] μ (fun rr μ' => Wp 19 17 [some (vR 13), some (vI r), some (vI k)] (rr.toList ++ [vR 15]) μ' R) from ?_)
  refine s114 (by omega) ?_
  refine seg 3 (show (0 ≤ (r * 8 + k) ∧ (r * 8 + k) < 64) ∧ R (some (vI (μ 15 (r * 8 + k)))) μ from ⟨by omega, ?_⟩)
  first | exact h | (exfalso; omega)
theorem s20_13 {μ : Mu} {R : Po} {r k : Int} (hb : 0 ≤ r ∧ r < 8 ∧ 0 ≤ k ∧ k < 8) (h0 : 0 ≤ μ 16 r) (hy : tb (μ 16 r) k → R (some (vI 1)) μ) (hn : ¬ tb (μ 16 r) k → R (some (vI 0)) μ) : Wp 20 0 [some (vR 13), some (vI r), some (vI k)] [] μ R := by
  have hs := sh_nn h0 k
  refine seg 3 (show Wp 115 0 [some (vI r), some (vI k)] [] μ (fun rr μ' => Wp 20 5 [some (vR 13), some (vI r), some (vI k)] (rr.toList ++ []) μ' R) from ?_)
  refine s115t (by omega) ?_
  refine seg 1 (show (1 = 0 → Wp 20 26 [some (vR 13), some (vI r), some (vI k)] [] μ R) ∧ (¬ (1 = 0) → Wp 20 8 [some (vR 13), some (vI r), some (vI k)] [] μ R) from ⟨fun z => absurd z (by decide), fun _ => ?_⟩)
  refine seg 10 (show (0 ≤ r ∧ r < 8) ∧ (0 ≤ (μ 16 r) ∧ 0 ≤ k ∧ k < 31) ∧ (0 ≤ ((μ 16 r) / 2 ^ (k : Int).toNat) ∧ 0 ≤ 1) ∧ (¬ (((Int.toNat ((μ 16 r) / 2 ^ (k : Int).toNat) &&& Int.toNat 1 : Nat) : Int) = 1) → Wp 20 26 [some (vR 13), some (vI r), some (vI k)] [] μ R) ∧ (((Int.toNat ((μ 16 r) / 2 ^ (k : Int).toNat) &&& Int.toNat 1 : Nat) : Int) = 1 → Wp 20 22 [some (vR 13), some (vI r), some (vI k)] [] μ R) from ⟨by omega, by omega, by omega, fun c1 => ?_, fun c1 => ?_⟩)
  ·
    refine seg 2 (show (0 = 0 ∨ 0 = 1) ∧ R (some (vI 0)) μ from ⟨by decide, ?_⟩)
    first | exact hy ((tb_iff h0).mp (by assumption)) | exact hn (fun z => absurd ((tb_iff h0).mpr z) (by assumption)) | (exfalso; omega)
  ·
    refine seg 3 (show (1 = 0 ∨ 1 = 1) ∧ R (some (vI 1)) μ from ⟨by decide, ?_⟩)
    first | exact hy ((tb_iff h0).mp (by assumption)) | exact hn (fun z => absurd ((tb_iff h0).mpr z) (by assumption)) | (exfalso; omega)
theorem s21v_13 {μ : Mu} {R : Po} {r : Int} (hb : 0 ≤ r ∧ r < 8) (h : R (some (vI (μ 17 r))) μ) : Wp 21 0 [some (vR 13), some (vI r)] [] μ R := by
  refine seg 2 (show (r < 0 → Wp 21 19 [some (vR 13), some (vI r)] [] μ R) ∧ (¬ (r < 0) → Wp 21 4 [some (vR 13), some (vI r)] [] μ R) from ⟨fun c1 => ?_, fun c1 => ?_⟩)
  ·
    refine seg 2 (show R (some (vI (-9))) μ from ?_)
    first | exact h | (exfalso; omega)
  ·
    refine seg 3 (show (8 ≤ r → Wp 21 19 [some (vR 13), some (vI r)] [] μ R) ∧ (¬ (8 ≤ r) → Wp 21 10 [some (vR 13), some (vI r)] [] μ R) from ⟨fun c2 => ?_, fun c2 => ?_⟩)
    ·
      refine seg 2 (show R (some (vI (-9))) μ from ?_)
      first | exact h | (exfalso; omega)
    ·
      refine seg 6 (show (0 ≤ r ∧ r < 8) ∧ R (some (vI (μ 17 r))) μ from ⟨by omega, ?_⟩)
      first | exact h | (exfalso; omega)
theorem s25v_13 {μ : Mu} {R : Po} {i j : Int} (hb : 0 ≤ i ∧ i < 9 ∧ 0 ≤ j ∧ j < 9) (h : R (some (vI (μ 18 (i * 9 + j)))) μ) : Wp 25 0 [some (vR 13), some (vI i), some (vI j)] [] μ R := by
  refine seg 2 (show (i < 0 → Wp 25 34 [some (vR 13), some (vI i), some (vI j)] [] μ R) ∧ (¬ (i < 0) → Wp 25 4 [some (vR 13), some (vI i), some (vI j)] [] μ R) from ⟨fun c1 => ?_, fun c1 => ?_⟩)
  ·
    refine seg 2 (show R (some (vI 0)) μ from ?_)
    first | exact h | (exfalso; omega)
  ·
    refine seg 3 (show (9 ≤ i → Wp 25 34 [some (vR 13), some (vI i), some (vI j)] [] μ R) ∧ (¬ (9 ≤ i) → Wp 25 10 [some (vR 13), some (vI i), some (vI j)] [] μ R) from ⟨fun c2 => ?_, fun c2 => ?_⟩)
    ·
      refine seg 2 (show R (some (vI 0)) μ from ?_)
      first | exact h | (exfalso; omega)
    ·
      refine seg 2 (show (j < 0 → Wp 25 34 [some (vR 13), some (vI i), some (vI j)] [] μ R) ∧ (¬ (j < 0) → Wp 25 14 [some (vR 13), some (vI i), some (vI j)] [] μ R) from ⟨fun c3 => ?_, fun c3 => ?_⟩)
      ·
        refine seg 2 (show R (some (vI 0)) μ from ?_)
        first | exact h | (exfalso; omega)
      ·
        refine seg 3 (show (9 ≤ j → Wp 25 34 [some (vR 13), some (vI i), some (vI j)] [] μ R) ∧ (¬ (9 ≤ j) → Wp 25 20 [some (vR 13), some (vI i), some (vI j)] [] μ R) from ⟨fun c4 => ?_, fun c4 => ?_⟩)
        ·
          refine seg 2 (show R (some (vI 0)) μ from ?_)
          first | exact h | (exfalso; omega)
        ·
          refine seg 10 (show iR (i * 9) ∧ iR ((i * 9) + j) ∧ (0 ≤ ((i * 9) + j) ∧ ((i * 9) + j) < 81) ∧ R (some (vI (μ 18 ((i * 9) + j)))) μ from ⟨by omega, by omega, by omega, ?_⟩)
          first | exact h | (exfalso; omega)
theorem s26v_13 {μ : Mu} {R : Po} {i j v : Int} (hb : 0 ≤ i ∧ i < 9 ∧ 0 ≤ j ∧ j < 9) (h : R none (u2 μ 18 (i * 9 + j) v)) : Wp 26 0 [some (vR 13), some (vI i), some (vI j), some (vI v)] [] μ R := by
  refine seg 2 (show (i < 0 → Wp 26 32 [some (vR 13), some (vI i), some (vI j), some (vI v)] [] μ R) ∧ (¬ (i < 0) → Wp 26 4 [some (vR 13), some (vI i), some (vI j), some (vI v)] [] μ R) from ⟨fun c1 => ?_, fun c1 => ?_⟩)
  ·
    refine seg 1 (show R none μ from ?_)
    first | exact h | (exfalso; omega)
  ·
    refine seg 3 (show (9 ≤ i → Wp 26 32 [some (vR 13), some (vI i), some (vI j), some (vI v)] [] μ R) ∧ (¬ (9 ≤ i) → Wp 26 10 [some (vR 13), some (vI i), some (vI j), some (vI v)] [] μ R) from ⟨fun c2 => ?_, fun c2 => ?_⟩)
    ·
      refine seg 1 (show R none μ from ?_)
      first | exact h | (exfalso; omega)
    ·
      refine seg 2 (show (j < 0 → Wp 26 32 [some (vR 13), some (vI i), some (vI j), some (vI v)] [] μ R) ∧ (¬ (j < 0) → Wp 26 14 [some (vR 13), some (vI i), some (vI j), some (vI v)] [] μ R) from ⟨fun c3 => ?_, fun c3 => ?_⟩)
      ·
        refine seg 1 (show R none μ from ?_)
        first | exact h | (exfalso; omega)
      ·
        refine seg 3 (show (9 ≤ j → Wp 26 32 [some (vR 13), some (vI i), some (vI j), some (vI v)] [] μ R) ∧ (¬ (9 ≤ j) → Wp 26 20 [some (vR 13), some (vI i), some (vI j), some (vI v)] [] μ R) from ⟨fun c4 => ?_, fun c4 => ?_⟩)
        ·
          refine seg 1 (show R none μ from ?_)
          first | exact h | (exfalso; omega)
        ·
          refine seg 10 (show iR (i * 9) ∧ iR ((i * 9) + j) ∧ (0 ≤ ((i * 9) + j) ∧ ((i * 9) + j) < 81) ∧ R none (u2 μ 18 ((i * 9) + j) v) from ⟨by omega, by omega, by omega, ?_⟩)
          first | exact h | (exfalso; omega)
theorem s28v_13 {μ : Mu} {R : Po} {r i k : Int} (hb : 0 ≤ r ∧ r < 8 ∧ 0 ≤ k ∧ k < 8 ∧ 0 ≤ i ∧ i < 8) (h0 : 0 ≤ μ 16 r) (h : R none (u2 (u2 μ 15 (r * 8 + k) i) 16 r ((Int.toNat (μ 16 r) ||| Int.toNat (1 * 2 ^ (i : Int).toNat) : Nat) : Int))) : Wp 28 0 [some (vR 13), some (vI r), some (vI i), some (vI k)] [] μ R := by
  have hp := pw_le (k := i) (by omega)
  refine seg 3 (show Wp 115 0 [some (vI r), some (vI k)] [] μ (fun rr μ' => Wp 28 5 [some (vR 13), some (vI r), some (vI i), some (vI k)] (rr.toList ++ []) μ' R) from ?_)
  refine s115t (by omega) ?_
  refine seg 1 (show (1 = 0 → Wp 28 31 [some (vR 13), some (vI r), some (vI i), some (vI k)] [] μ R) ∧ (¬ (1 = 0) → Wp 28 8 [some (vR 13), some (vI r), some (vI i), some (vI k)] [] μ R) from ⟨fun z => absurd z (by decide), fun _ => ?_⟩)
  refine seg 5 (show Wp 114 0 [some (vI r), some (vI k)] [] μ (fun rr μ' => Wp 28 17 [some (vR 13), some (vI r), some (vI i), some (vI k)] (rr.toList ++ [vR 15]) μ' R) from ?_)
  refine s114 (by omega) ?_
  refine seg 13 (show (0 ≤ (r * 8 + k) ∧ (r * 8 + k) < 64) ∧ (0 ≤ r ∧ r < 8) ∧ (0 ≤ 1 ∧ 0 ≤ i ∧ i < 31 ∧ 1 * 2 ^ (i : Int).toNat ≤ 2147483647) ∧ (0 ≤ (μ 16 r) ∧ 0 ≤ (1 * 2 ^ (i : Int).toNat)) ∧ (0 ≤ r ∧ r < 8) ∧ R none (u2 (u2 μ 15 (r * 8 + k) i) 16 r ((Int.toNat (μ 16 r) ||| Int.toNat (1 * 2 ^ (i : Int).toNat) : Nat) : Int)) from ⟨by omega, by omega, by omega, by omega, by omega, ?_⟩)
  first | exact h | (exfalso; omega)
theorem s18v_19 {μ : Mu} {R : Po} {r : Int} (hb : 0 ≤ r ∧ r < 8) (h : R (some (vI (μ 20 r))) μ) : Wp 18 0 [some (vR 19), some (vI r)] [] μ R := by
  refine seg 2 (show (r < 0 → Wp 18 19 [some (vR 19), some (vI r)] [] μ R) ∧ (¬ (r < 0) → Wp 18 4 [some (vR 19), some (vI r)] [] μ R) from ⟨fun c1 => ?_, fun c1 => ?_⟩)
  ·
    refine seg 2 (show R (some (vI (-9))) μ from ?_)
    first | exact h | (exfalso; omega)
  ·
    refine seg 3 (show (8 ≤ r → Wp 18 19 [some (vR 19), some (vI r)] [] μ R) ∧ (¬ (8 ≤ r) → Wp 18 10 [some (vR 19), some (vI r)] [] μ R) from ⟨fun c2 => ?_, fun c2 => ?_⟩)
    ·
      refine seg 2 (show R (some (vI (-9))) μ from ?_)
      first | exact h | (exfalso; omega)
    ·
      refine seg 6 (show (0 ≤ r ∧ r < 8) ∧ R (some (vI (μ 20 r))) μ from ⟨by omega, ?_⟩)
      first | exact h | (exfalso; omega)
theorem s19v_19 {μ : Mu} {R : Po} {r k : Int} (hb : 0 ≤ r ∧ r < 8 ∧ 0 ≤ k ∧ k < 8) (h : R (some (vI (μ 21 (r * 8 + k)))) μ) : Wp 19 0 [some (vR 19), some (vI r), some (vI k)] [] μ R := by
  refine seg 3 (show Wp 115 0 [some (vI r), some (vI k)] [] μ (fun rr μ' => Wp 19 5 [some (vR 19), some (vI r), some (vI k)] (rr.toList ++ []) μ' R) from ?_)
  refine s115t (by omega) ?_
  refine seg 1 (show (1 = 0 → Wp 19 21 [some (vR 19), some (vI r), some (vI k)] [] μ R) ∧ (¬ (1 = 0) → Wp 19 8 [some (vR 19), some (vI r), some (vI k)] [] μ R) from ⟨fun z => absurd z (by decide), fun _ => ?_⟩)
  refine seg 5 (show Wp 114 0 [some (vI r), some (vI k)] [] μ (fun rr μ' => Wp 19 17 [some (vR 19), some (vI r), some (vI k)] (rr.toList ++ [vR 21]) μ' R) from ?_)
  refine s114 (by omega) ?_
  refine seg 3 (show (0 ≤ (r * 8 + k) ∧ (r * 8 + k) < 64) ∧ R (some (vI (μ 21 (r * 8 + k)))) μ from ⟨by omega, ?_⟩)
  first | exact h | (exfalso; omega)
theorem s20_19 {μ : Mu} {R : Po} {r k : Int} (hb : 0 ≤ r ∧ r < 8 ∧ 0 ≤ k ∧ k < 8) (h0 : 0 ≤ μ 22 r) (hy : tb (μ 22 r) k → R (some (vI 1)) μ) (hn : ¬ tb (μ 22 r) k → R (some (vI 0)) μ) : Wp 20 0 [some (vR 19), some (vI r), some (vI k)] [] μ R := by
  have hs := sh_nn h0 k
  refine seg 3 (show Wp 115 0 [some (vI r), some (vI k)] [] μ (fun rr μ' => Wp 20 5 [some (vR 19), some (vI r), some (vI k)] (rr.toList ++ []) μ' R) from ?_)
  refine s115t (by omega) ?_
  refine seg 1 (show (1 = 0 → Wp 20 26 [some (vR 19), some (vI r), some (vI k)] [] μ R) ∧ (¬ (1 = 0) → Wp 20 8 [some (vR 19), some (vI r), some (vI k)] [] μ R) from ⟨fun z => absurd z (by decide), fun _ => ?_⟩)
  refine seg 10 (show (0 ≤ r ∧ r < 8) ∧ (0 ≤ (μ 22 r) ∧ 0 ≤ k ∧ k < 31) ∧ (0 ≤ ((μ 22 r) / 2 ^ (k : Int).toNat) ∧ 0 ≤ 1) ∧ (¬ (((Int.toNat ((μ 22 r) / 2 ^ (k : Int).toNat) &&& Int.toNat 1 : Nat) : Int) = 1) → Wp 20 26 [some (vR 19), some (vI r), some (vI k)] [] μ R) ∧ (((Int.toNat ((μ 22 r) / 2 ^ (k : Int).toNat) &&& Int.toNat 1 : Nat) : Int) = 1 → Wp 20 22 [some (vR 19), some (vI r), some (vI k)] [] μ R) from ⟨by omega, by omega, by omega, fun c1 => ?_, fun c1 => ?_⟩)
  ·
    refine seg 2 (show (0 = 0 ∨ 0 = 1) ∧ R (some (vI 0)) μ from ⟨by decide, ?_⟩)
    first | exact hy ((tb_iff h0).mp (by assumption)) | exact hn (fun z => absurd ((tb_iff h0).mpr z) (by assumption)) | (exfalso; omega)
  ·
    refine seg 3 (show (1 = 0 ∨ 1 = 1) ∧ R (some (vI 1)) μ from ⟨by decide, ?_⟩)
    first | exact hy ((tb_iff h0).mp (by assumption)) | exact hn (fun z => absurd ((tb_iff h0).mpr z) (by assumption)) | (exfalso; omega)
theorem s21v_19 {μ : Mu} {R : Po} {r : Int} (hb : 0 ≤ r ∧ r < 8) (h : R (some (vI (μ 23 r))) μ) : Wp 21 0 [some (vR 19), some (vI r)] [] μ R := by
  refine seg 2 (show (r < 0 → Wp 21 19 [some (vR 19), some (vI r)] [] μ R) ∧ (¬ (r < 0) → Wp 21 4 [some (vR 19), some (vI r)] [] μ R) from ⟨fun c1 => ?_, fun c1 => ?_⟩)
  ·
    refine seg 2 (show R (some (vI (-9))) μ from ?_)
    first | exact h | (exfalso; omega)
  ·
    refine seg 3 (show (8 ≤ r → Wp 21 19 [some (vR 19), some (vI r)] [] μ R) ∧ (¬ (8 ≤ r) → Wp 21 10 [some (vR 19), some (vI r)] [] μ R) from ⟨fun c2 => ?_, fun c2 => ?_⟩)
    ·
      refine seg 2 (show R (some (vI (-9))) μ from ?_)
      first | exact h | (exfalso; omega)
    ·
      refine seg 6 (show (0 ≤ r ∧ r < 8) ∧ R (some (vI (μ 23 r))) μ from ⟨by omega, ?_⟩)
      first | exact h | (exfalso; omega)
theorem s25v_19 {μ : Mu} {R : Po} {i j : Int} (hb : 0 ≤ i ∧ i < 9 ∧ 0 ≤ j ∧ j < 9) (h : R (some (vI (μ 24 (i * 9 + j)))) μ) : Wp 25 0 [some (vR 19), some (vI i), some (vI j)] [] μ R := by
  refine seg 2 (show (i < 0 → Wp 25 34 [some (vR 19), some (vI i), some (vI j)] [] μ R) ∧ (¬ (i < 0) → Wp 25 4 [some (vR 19), some (vI i), some (vI j)] [] μ R) from ⟨fun c1 => ?_, fun c1 => ?_⟩)
  ·
    refine seg 2 (show R (some (vI 0)) μ from ?_)
    first | exact h | (exfalso; omega)
  ·
    refine seg 3 (show (9 ≤ i → Wp 25 34 [some (vR 19), some (vI i), some (vI j)] [] μ R) ∧ (¬ (9 ≤ i) → Wp 25 10 [some (vR 19), some (vI i), some (vI j)] [] μ R) from ⟨fun c2 => ?_, fun c2 => ?_⟩)
    ·
      refine seg 2 (show R (some (vI 0)) μ from ?_)
      first | exact h | (exfalso; omega)
    ·
      refine seg 2 (show (j < 0 → Wp 25 34 [some (vR 19), some (vI i), some (vI j)] [] μ R) ∧ (¬ (j < 0) → Wp 25 14 [some (vR 19), some (vI i), some (vI j)] [] μ R) from ⟨fun c3 => ?_, fun c3 => ?_⟩)
      ·
        refine seg 2 (show R (some (vI 0)) μ from ?_)
        first | exact h | (exfalso; omega)
      ·
        refine seg 3 (show (9 ≤ j → Wp 25 34 [some (vR 19), some (vI i), some (vI j)] [] μ R) ∧ (¬ (9 ≤ j) → Wp 25 20 [some (vR 19), some (vI i), some (vI j)] [] μ R) from ⟨fun c4 => ?_, fun c4 => ?_⟩)
        ·
          refine seg 2 (show R (some (vI 0)) μ from ?_)
          first | exact h | (exfalso; omega)
        ·
          refine seg 10 (show iR (i * 9) ∧ iR ((i * 9) + j) ∧ (0 ≤ ((i * 9) + j) ∧ ((i * 9) + j) < 81) ∧ R (some (vI (μ 24 ((i * 9) + j)))) μ from ⟨by omega, by omega, by omega, ?_⟩)
          first | exact h | (exfalso; omega)
theorem s26v_19 {μ : Mu} {R : Po} {i j v : Int} (hb : 0 ≤ i ∧ i < 9 ∧ 0 ≤ j ∧ j < 9) (h : R none (u2 μ 24 (i * 9 + j) v)) : Wp 26 0 [some (vR 19), some (vI i), some (vI j), some (vI v)] [] μ R := by
  refine seg 2 (show (i < 0 → Wp 26 32 [some (vR 19), some (vI i), some (vI j), some (vI v)] [] μ R) ∧ (¬ (i < 0) → Wp 26 4 [some (vR 19), some (vI i), some (vI j), some (vI v)] [] μ R) from ⟨fun c1 => ?_, fun c1 => ?_⟩)
  ·
    refine seg 1 (show R none μ from ?_)
    first | exact h | (exfalso; omega)
  ·
    refine seg 3 (show (9 ≤ i → Wp 26 32 [some (vR 19), some (vI i), some (vI j), some (vI v)] [] μ R) ∧ (¬ (9 ≤ i) → Wp 26 10 [some (vR 19), some (vI i), some (vI j), some (vI v)] [] μ R) from ⟨fun c2 => ?_, fun c2 => ?_⟩)
    ·
      refine seg 1 (show R none μ from ?_)
      first | exact h | (exfalso; omega)
    ·
      refine seg 2 (show (j < 0 → Wp 26 32 [some (vR 19), some (vI i), some (vI j), some (vI v)] [] μ R) ∧ (¬ (j < 0) → Wp 26 14 [some (vR 19), some (vI i), some (vI j), some (vI v)] [] μ R) from ⟨fun c3 => ?_, fun c3 => ?_⟩)
      ·
        refine seg 1 (show R none μ from ?_)
        first | exact h | (exfalso; omega)
      ·
        refine seg 3 (show (9 ≤ j → Wp 26 32 [some (vR 19), some (vI i), some (vI j), some (vI v)] [] μ R) ∧ (¬ (9 ≤ j) → Wp 26 20 [some (vR 19), some (vI i), some (vI j), some (vI v)] [] μ R) from ⟨fun c4 => ?_, fun c4 => ?_⟩)
        ·
          refine seg 1 (show R none μ from ?_)
          first | exact h | (exfalso; omega)
        ·
          refine seg 10 (show iR (i * 9) ∧ iR ((i * 9) + j) ∧ (0 ≤ ((i * 9) + j) ∧ ((i * 9) + j) < 81) ∧ R none (u2 μ 24 ((i * 9) + j) v) from ⟨by omega, by omega, by omega, ?_⟩)
          first | exact h | (exfalso; omega)
theorem s28v_19 {μ : Mu} {R : Po} {r i k : Int} (hb : 0 ≤ r ∧ r < 8 ∧ 0 ≤ k ∧ k < 8 ∧ 0 ≤ i ∧ i < 8) (h0 : 0 ≤ μ 22 r) (h : R none (u2 (u2 μ 21 (r * 8 + k) i) 22 r ((Int.toNat (μ 22 r) ||| Int.toNat (1 * 2 ^ (i : Int).toNat) : Nat) : Int))) : Wp 28 0 [some (vR 19), some (vI r), some (vI i), some (vI k)] [] μ R := by
  have hp := pw_le (k := i) (by omega)
  refine seg 3 (show Wp 115 0 [some (vI r), some (vI k)] [] μ (fun rr μ' => Wp 28 5 [some (vR 19), some (vI r), some (vI i), some (vI k)] (rr.toList ++ []) μ' R) from ?_)
  refine s115t (by omega) ?_
  refine seg 1 (show (1 = 0 → Wp 28 31 [some (vR 19), some (vI r), some (vI i), some (vI k)] [] μ R) ∧ (¬ (1 = 0) → Wp 28 8 [some (vR 19), some (vI r), some (vI i), some (vI k)] [] μ R) from ⟨fun z => absurd z (by decide), fun _ => ?_⟩)
  refine seg 5 (show Wp 114 0 [some (vI r), some (vI k)] [] μ (fun rr μ' => Wp 28 17 [some (vR 19), some (vI r), some (vI i), some (vI k)] (rr.toList ++ [vR 21]) μ' R) from ?_)
  refine s114 (by omega) ?_
  refine seg 13 (show (0 ≤ (r * 8 + k) ∧ (r * 8 + k) < 64) ∧ (0 ≤ r ∧ r < 8) ∧ (0 ≤ 1 ∧ 0 ≤ i ∧ i < 31 ∧ 1 * 2 ^ (i : Int).toNat ≤ 2147483647) ∧ (0 ≤ (μ 22 r) ∧ 0 ≤ (1 * 2 ^ (i : Int).toNat)) ∧ (0 ≤ r ∧ r < 8) ∧ R none (u2 (u2 μ 21 (r * 8 + k) i) 22 r ((Int.toNat (μ 22 r) ||| Int.toNat (1 * 2 ^ (i : Int).toNat) : Nat) : Int)) from ⟨by omega, by omega, by omega, by omega, by omega, ?_⟩)
  first | exact h | (exfalso; omega)
theorem s11v_25 {μ : Mu} {R : Po} {r k : Int} (hb : 0 ≤ r ∧ r < 8 ∧ 0 ≤ k ∧ k < 8) (h : R (some (vI (μ 26 (r * 8 + k)))) μ) : Wp 11 0 [some (vR 25), some (vI r), some (vI k)] [] μ R := by
  refine seg 3 (show Wp 115 0 [some (vI r), some (vI k)] [] μ (fun rr μ' => Wp 11 5 [some (vR 25), some (vI r), some (vI k)] (rr.toList ++ []) μ' R) from ?_)
  refine s115t (by omega) ?_
  refine seg 1 (show (1 = 0 → Wp 11 21 [some (vR 25), some (vI r), some (vI k)] [] μ R) ∧ (¬ (1 = 0) → Wp 11 8 [some (vR 25), some (vI r), some (vI k)] [] μ R) from ⟨fun z => absurd z (by decide), fun _ => ?_⟩)
  refine seg 5 (show Wp 114 0 [some (vI r), some (vI k)] [] μ (fun rr μ' => Wp 11 17 [some (vR 25), some (vI r), some (vI k)] (rr.toList ++ [vR 26]) μ' R) from ?_)
  refine s114 (by omega) ?_
  refine seg 3 (show (0 ≤ (r * 8 + k) ∧ (r * 8 + k) < 64) ∧ R (some (vI (μ 26 (r * 8 + k)))) μ from ⟨by omega, ?_⟩)
  first | exact h | (exfalso; omega)
theorem s12v_25 {μ : Mu} {R : Po} {r k : Int} (hb : 0 ≤ r ∧ r < 8 ∧ 0 ≤ k ∧ k < 8) (h : R (some (vI (μ 27 (r * 8 + k)))) μ) : Wp 12 0 [some (vR 25), some (vI r), some (vI k)] [] μ R := by
  refine seg 3 (show Wp 115 0 [some (vI r), some (vI k)] [] μ (fun rr μ' => Wp 12 5 [some (vR 25), some (vI r), some (vI k)] (rr.toList ++ []) μ' R) from ?_)
  refine s115t (by omega) ?_
  refine seg 1 (show (1 = 0 → Wp 12 21 [some (vR 25), some (vI r), some (vI k)] [] μ R) ∧ (¬ (1 = 0) → Wp 12 8 [some (vR 25), some (vI r), some (vI k)] [] μ R) from ⟨fun z => absurd z (by decide), fun _ => ?_⟩)
  refine seg 5 (show Wp 114 0 [some (vI r), some (vI k)] [] μ (fun rr μ' => Wp 12 17 [some (vR 25), some (vI r), some (vI k)] (rr.toList ++ [vR 27]) μ' R) from ?_)
  refine s114 (by omega) ?_
  refine seg 3 (show (0 ≤ (r * 8 + k) ∧ (r * 8 + k) < 64) ∧ R (some (vI (μ 27 (r * 8 + k)))) μ from ⟨by omega, ?_⟩)
  first | exact h | (exfalso; omega)
theorem s7v_28 {μ : Mu} {R : Po} {r k : Int} (hb : 0 ≤ r ∧ r < 8 ∧ 0 ≤ k ∧ k < 8) (h : R (some (vI (μ 29 (r * 8 + k)))) μ) : Wp 7 0 [some (vR 28), some (vI r), some (vI k)] [] μ R := by
  refine seg 3 (show Wp 115 0 [some (vI r), some (vI k)] [] μ (fun rr μ' => Wp 7 5 [some (vR 28), some (vI r), some (vI k)] (rr.toList ++ []) μ' R) from ?_)
  refine s115t (by omega) ?_
  refine seg 1 (show (1 = 0 → Wp 7 21 [some (vR 28), some (vI r), some (vI k)] [] μ R) ∧ (¬ (1 = 0) → Wp 7 8 [some (vR 28), some (vI r), some (vI k)] [] μ R) from ⟨fun z => absurd z (by decide), fun _ => ?_⟩)
  refine seg 5 (show Wp 114 0 [some (vI r), some (vI k)] [] μ (fun rr μ' => Wp 7 17 [some (vR 28), some (vI r), some (vI k)] (rr.toList ++ [vR 29]) μ' R) from ?_)
  refine s114 (by omega) ?_
  refine seg 3 (show (0 ≤ (r * 8 + k) ∧ (r * 8 + k) < 64) ∧ R (some (vI (μ 29 (r * 8 + k)))) μ from ⟨by omega, ?_⟩)
  first | exact h | (exfalso; omega)
theorem s82v_32 {μ : Mu} {R : Po} {r k : Int} (hb : 0 ≤ r ∧ r < 8 ∧ 0 ≤ k ∧ k < 8) (h : R (some (vI (μ 33 (r * 8 + k)))) μ) : Wp 82 0 [some (vR 32), some (vI r), some (vI k)] [] μ R := by
  refine seg 3 (show Wp 115 0 [some (vI r), some (vI k)] [] μ (fun rr μ' => Wp 82 5 [some (vR 32), some (vI r), some (vI k)] (rr.toList ++ []) μ' R) from ?_)
  refine s115t (by omega) ?_
  refine seg 1 (show (1 = 0 → Wp 82 21 [some (vR 32), some (vI r), some (vI k)] [] μ R) ∧ (¬ (1 = 0) → Wp 82 8 [some (vR 32), some (vI r), some (vI k)] [] μ R) from ⟨fun z => absurd z (by decide), fun _ => ?_⟩)
  refine seg 5 (show Wp 114 0 [some (vI r), some (vI k)] [] μ (fun rr μ' => Wp 82 17 [some (vR 32), some (vI r), some (vI k)] (rr.toList ++ [vR 33]) μ' R) from ?_)
  refine s114 (by omega) ?_
  refine seg 3 (show (0 ≤ (r * 8 + k) ∧ (r * 8 + k) < 64) ∧ R (some (vI (μ 33 (r * 8 + k)))) μ from ⟨by omega, ?_⟩)
  first | exact h | (exfalso; omega)
theorem s83v_32 {μ : Mu} {R : Po} {r k : Int} (hb : 0 ≤ r ∧ r < 8 ∧ 0 ≤ k ∧ k < 8) (h : R (some (vI (μ 34 (r * 8 + k)))) μ) : Wp 83 0 [some (vR 32), some (vI r), some (vI k)] [] μ R := by
  refine seg 3 (show Wp 115 0 [some (vI r), some (vI k)] [] μ (fun rr μ' => Wp 83 5 [some (vR 32), some (vI r), some (vI k)] (rr.toList ++ []) μ' R) from ?_)
  refine s115t (by omega) ?_
  refine seg 1 (show (1 = 0 → Wp 83 21 [some (vR 32), some (vI r), some (vI k)] [] μ R) ∧ (¬ (1 = 0) → Wp 83 8 [some (vR 32), some (vI r), some (vI k)] [] μ R) from ⟨fun z => absurd z (by decide), fun _ => ?_⟩)
  refine seg 5 (show Wp 114 0 [some (vI r), some (vI k)] [] μ (fun rr μ' => Wp 83 17 [some (vR 32), some (vI r), some (vI k)] (rr.toList ++ [vR 34]) μ' R) from ?_)
  refine s114 (by omega) ?_
  refine seg 3 (show (0 ≤ (r * 8 + k) ∧ (r * 8 + k) < 64) ∧ R (some (vI (μ 34 (r * 8 + k)))) μ from ⟨by omega, ?_⟩)
  first | exact h | (exfalso; omega)
theorem s84v_32 {μ : Mu} {R : Po} {r k : Int} (hb : 0 ≤ r ∧ r < 8 ∧ 0 ≤ k ∧ k < 8) (h : R (some (vI (μ 35 (r * 8 + k)))) μ) : Wp 84 0 [some (vR 32), some (vI r), some (vI k)] [] μ R := by
  refine seg 3 (show Wp 115 0 [some (vI r), some (vI k)] [] μ (fun rr μ' => Wp 84 5 [some (vR 32), some (vI r), some (vI k)] (rr.toList ++ []) μ' R) from ?_)
  refine s115t (by omega) ?_
  refine seg 1 (show (1 = 0 → Wp 84 21 [some (vR 32), some (vI r), some (vI k)] [] μ R) ∧ (¬ (1 = 0) → Wp 84 8 [some (vR 32), some (vI r), some (vI k)] [] μ R) from ⟨fun z => absurd z (by decide), fun _ => ?_⟩)
  refine seg 5 (show Wp 114 0 [some (vI r), some (vI k)] [] μ (fun rr μ' => Wp 84 17 [some (vR 32), some (vI r), some (vI k)] (rr.toList ++ [vR 35]) μ' R) from ?_)
  refine s114 (by omega) ?_
  refine seg 3 (show (0 ≤ (r * 8 + k) ∧ (r * 8 + k) < 64) ∧ R (some (vI (μ 35 (r * 8 + k)))) μ from ⟨by omega, ?_⟩)
  first | exact h | (exfalso; omega)
theorem s82v_36 {μ : Mu} {R : Po} {r k : Int} (hb : 0 ≤ r ∧ r < 8 ∧ 0 ≤ k ∧ k < 8) (h : R (some (vI (μ 37 (r * 8 + k)))) μ) : Wp 82 0 [some (vR 36), some (vI r), some (vI k)] [] μ R := by
  refine seg 3 (show Wp 115 0 [some (vI r), some (vI k)] [] μ (fun rr μ' => Wp 82 5 [some (vR 36), some (vI r), some (vI k)] (rr.toList ++ []) μ' R) from ?_)
  refine s115t (by omega) ?_
  refine seg 1 (show (1 = 0 → Wp 82 21 [some (vR 36), some (vI r), some (vI k)] [] μ R) ∧ (¬ (1 = 0) → Wp 82 8 [some (vR 36), some (vI r), some (vI k)] [] μ R) from ⟨fun z => absurd z (by decide), fun _ => ?_⟩)
  refine seg 5 (show Wp 114 0 [some (vI r), some (vI k)] [] μ (fun rr μ' => Wp 82 17 [some (vR 36), some (vI r), some (vI k)] (rr.toList ++ [vR 37]) μ' R) from ?_)
  refine s114 (by omega) ?_
  refine seg 3 (show (0 ≤ (r * 8 + k) ∧ (r * 8 + k) < 64) ∧ R (some (vI (μ 37 (r * 8 + k)))) μ from ⟨by omega, ?_⟩)
  first | exact h | (exfalso; omega)
theorem s57_30 {μ : Mu} {R : Po} (h : R none (u2 (u2 (u2 μ 30 0 2) 30 1 0) 30 2 15)) : Wp 57 0 [some (vR 30)] [] μ R := by
  refine seg 10 (show R none (u2 (u2 (u2 μ 30 0 2) 30 1 0) 30 2 15) from ?_)
  first | exact h | (exfalso; omega)
theorem s60_30 {μ : Mu} {R : Po} (h : R (some (vI (μ 30 0))) μ) : Wp 60 0 [some (vR 30)] [] μ R := by
  refine seg 3 (show R (some (vI (μ 30 0))) μ from ?_)
  first | exact h | (exfalso; omega)
theorem s63_30 {μ : Mu} {R : Po} (h : R (some (vI (μ 30 1))) μ) : Wp 63 0 [some (vR 30)] [] μ R := by
  refine seg 3 (show R (some (vI (μ 30 1))) μ from ?_)
  first | exact h | (exfalso; omega)
theorem s66_30 {μ : Mu} {R : Po} (h : R (some (vI (μ 30 2))) μ) : Wp 66 0 [some (vR 30)] [] μ R := by
  refine seg 3 (show R (some (vI (μ 30 2))) μ from ?_)
  first | exact h | (exfalso; omega)
theorem s61_30 {μ : Mu} {R : Po} {n : Int} (h : R none (u2 μ 30 0 n)) : Wp 61 0 [some (vR 30), some (vI n)] [] μ R := by
  refine seg 4 (show R none (u2 μ 30 0 n) from ?_)
  first | exact h | (exfalso; omega)
theorem s62_30 {μ : Mu} {R : Po} {x : Int} (hy : 0 < μ 30 0 ∧ μ 30 0 ≤ x → R (some (vI 1)) μ) (hn : ¬ (0 < μ 30 0 ∧ μ 30 0 ≤ x) → R (some (vI 0)) μ) : Wp 62 0 [some (vR 30), some (vI x)] [] μ R := by
  refine seg 3 (show (μ 30 0 ≤ 0 → Wp 62 19 [some (vR 30), some (vI x)] [] μ R) ∧ (¬ (μ 30 0 ≤ 0) → Wp 62 7 [some (vR 30), some (vI x)] [] μ R) from ⟨fun c1 => ?_, fun c1 => ?_⟩)
  ·
    refine seg 2 (show (0 = 0 ∨ 0 = 1) ∧ R (some (vI 0)) μ from ⟨by decide, ?_⟩)
    first | exact hy (by omega) | exact hn (by omega)
  ·
    refine seg 4 (show (x < μ 30 0 → Wp 62 19 [some (vR 30), some (vI x)] [] μ R) ∧ (¬ (x < μ 30 0) → Wp 62 15 [some (vR 30), some (vI x)] [] μ R) from ⟨fun c2 => ?_, fun c2 => ?_⟩)
    ·
      refine seg 2 (show (0 = 0 ∨ 0 = 1) ∧ R (some (vI 0)) μ from ⟨by decide, ?_⟩)
      first | exact hy (by omega) | exact hn (by omega)
    ·
      refine seg 3 (show (1 = 0 ∨ 1 = 1) ∧ R (some (vI 1)) μ from ⟨by decide, ?_⟩)
      first | exact hy (by omega) | exact hn (by omega)
theorem s64_30 {μ : Mu} {R : Po} {r : Int} (hb : 0 ≤ r ∧ r < 8) (h0 : 0 ≤ μ 30 1) (hy : tb (μ 30 1) r → R (some (vI 1)) μ) (hn : ¬ tb (μ 30 1) r → R (some (vI 0)) μ) : Wp 64 0 [some (vR 30), some (vI r)] [] μ R := by
  have hs := sh_nn h0 r
  refine seg 8 (show (0 ≤ (μ 30 1) ∧ 0 ≤ r ∧ r < 31) ∧ (0 ≤ ((μ 30 1) / 2 ^ (r : Int).toNat) ∧ 0 ≤ 1) ∧ (¬ (((Int.toNat ((μ 30 1) / 2 ^ (r : Int).toNat) &&& Int.toNat 1 : Nat) : Int) = 1) → Wp 64 16 [some (vR 30), some (vI r)] [] μ R) ∧ (((Int.toNat ((μ 30 1) / 2 ^ (r : Int).toNat) &&& Int.toNat 1 : Nat) : Int) = 1 → Wp 64 12 [some (vR 30), some (vI r)] [] μ R) from ⟨by omega, by omega, fun c1 => ?_, fun c1 => ?_⟩)
  ·
    refine seg 2 (show (0 = 0 ∨ 0 = 1) ∧ R (some (vI 0)) μ from ⟨by decide, ?_⟩)
    first | exact hy ((tb_iff h0).mp (by assumption)) | exact hn (fun z => absurd ((tb_iff h0).mpr z) (by assumption)) | (exfalso; omega)
  ·
    refine seg 3 (show (1 = 0 ∨ 1 = 1) ∧ R (some (vI 1)) μ from ⟨by decide, ?_⟩)
    first | exact hy ((tb_iff h0).mp (by assumption)) | exact hn (fun z => absurd ((tb_iff h0).mpr z) (by assumption)) | (exfalso; omega)
theorem s67_30 {μ : Mu} {R : Po} {r : Int} (hb : 0 ≤ r ∧ r < 8) (h0 : 0 ≤ μ 30 2) (hy : tb (μ 30 2) r → R (some (vI 1)) μ) (hn : ¬ tb (μ 30 2) r → R (some (vI 0)) μ) : Wp 67 0 [some (vR 30), some (vI r)] [] μ R := by
  have hs := sh_nn h0 r
  refine seg 8 (show (0 ≤ (μ 30 2) ∧ 0 ≤ r ∧ r < 31) ∧ (0 ≤ ((μ 30 2) / 2 ^ (r : Int).toNat) ∧ 0 ≤ 1) ∧ (¬ (((Int.toNat ((μ 30 2) / 2 ^ (r : Int).toNat) &&& Int.toNat 1 : Nat) : Int) = 1) → Wp 67 16 [some (vR 30), some (vI r)] [] μ R) ∧ (((Int.toNat ((μ 30 2) / 2 ^ (r : Int).toNat) &&& Int.toNat 1 : Nat) : Int) = 1 → Wp 67 12 [some (vR 30), some (vI r)] [] μ R) from ⟨by omega, by omega, fun c1 => ?_, fun c1 => ?_⟩)
  ·
    refine seg 2 (show (0 = 0 ∨ 0 = 1) ∧ R (some (vI 0)) μ from ⟨by decide, ?_⟩)
    first | exact hy ((tb_iff h0).mp (by assumption)) | exact hn (fun z => absurd ((tb_iff h0).mpr z) (by assumption)) | (exfalso; omega)
  ·
    refine seg 3 (show (1 = 0 ∨ 1 = 1) ∧ R (some (vI 1)) μ from ⟨by decide, ?_⟩)
    first | exact hy ((tb_iff h0).mp (by assumption)) | exact hn (fun z => absurd ((tb_iff h0).mpr z) (by assumption)) | (exfalso; omega)
theorem s65_30 {μ : Mu} {R : Po} {r : Int} (hb : 0 ≤ r ∧ r < 8) (h0 : 0 ≤ μ 30 1) (h : R none (u2 μ 30 1 ((Int.toNat (μ 30 1) ^^^ Int.toNat (1 * 2 ^ (r : Int).toNat) : Nat) : Int))) : Wp 65 0 [some (vR 30), some (vI r)] [] μ R := by
  have hp := pw_le (k := r) hb
  refine seg 9 (show (0 ≤ 1 ∧ 0 ≤ r ∧ r < 31 ∧ 1 * 2 ^ (r : Int).toNat ≤ 2147483647) ∧ (0 ≤ (μ 30 1) ∧ 0 ≤ (1 * 2 ^ (r : Int).toNat)) ∧ R none (u2 μ 30 1 ((Int.toNat (μ 30 1) ^^^ Int.toNat (1 * 2 ^ (r : Int).toNat) : Nat) : Int)) from ⟨by omega, by omega, ?_⟩)
  first | exact h | (exfalso; omega)
theorem s68_30 {μ : Mu} {R : Po} {r : Int} (hb : 0 ≤ r ∧ r < 8) (h0 : 0 ≤ μ 30 2) (h : R none (u2 μ 30 2 ((Int.toNat (μ 30 2) ^^^ Int.toNat (1 * 2 ^ (r : Int).toNat) : Nat) : Int))) : Wp 68 0 [some (vR 30), some (vI r)] [] μ R := by
  have hp := pw_le (k := r) hb
  refine seg 9 (show (0 ≤ 1 ∧ 0 ≤ r ∧ r < 31 ∧ 1 * 2 ^ (r : Int).toNat ≤ 2147483647) ∧ (0 ≤ (μ 30 2) ∧ 0 ≤ (1 * 2 ^ (r : Int).toNat)) ∧ R none (u2 μ 30 2 ((Int.toNat (μ 30 2) ^^^ Int.toNat (1 * 2 ^ (r : Int).toNat) : Nat) : Int)) from ⟨by omega, by omega, ?_⟩)
  first | exact h | (exfalso; omega)
theorem s57_31 {μ : Mu} {R : Po} (h : R none (u2 (u2 (u2 μ 31 0 2) 31 1 0) 31 2 15)) : Wp 57 0 [some (vR 31)] [] μ R := by
  refine seg 10 (show R none (u2 (u2 (u2 μ 31 0 2) 31 1 0) 31 2 15) from ?_)
  first | exact h | (exfalso; omega)
theorem s60_31 {μ : Mu} {R : Po} (h : R (some (vI (μ 31 0))) μ) : Wp 60 0 [some (vR 31)] [] μ R := by
  refine seg 3 (show R (some (vI (μ 31 0))) μ from ?_)
  first | exact h | (exfalso; omega)
theorem s63_31 {μ : Mu} {R : Po} (h : R (some (vI (μ 31 1))) μ) : Wp 63 0 [some (vR 31)] [] μ R := by
  refine seg 3 (show R (some (vI (μ 31 1))) μ from ?_)
  first | exact h | (exfalso; omega)
theorem s66_31 {μ : Mu} {R : Po} (h : R (some (vI (μ 31 2))) μ) : Wp 66 0 [some (vR 31)] [] μ R := by
  refine seg 3 (show R (some (vI (μ 31 2))) μ from ?_)
  first | exact h | (exfalso; omega)
theorem s61_31 {μ : Mu} {R : Po} {n : Int} (h : R none (u2 μ 31 0 n)) : Wp 61 0 [some (vR 31), some (vI n)] [] μ R := by
  refine seg 4 (show R none (u2 μ 31 0 n) from ?_)
  first | exact h | (exfalso; omega)
theorem s62_31 {μ : Mu} {R : Po} {x : Int} (hy : 0 < μ 31 0 ∧ μ 31 0 ≤ x → R (some (vI 1)) μ) (hn : ¬ (0 < μ 31 0 ∧ μ 31 0 ≤ x) → R (some (vI 0)) μ) : Wp 62 0 [some (vR 31), some (vI x)] [] μ R := by
  refine seg 3 (show (μ 31 0 ≤ 0 → Wp 62 19 [some (vR 31), some (vI x)] [] μ R) ∧ (¬ (μ 31 0 ≤ 0) → Wp 62 7 [some (vR 31), some (vI x)] [] μ R) from ⟨fun c1 => ?_, fun c1 => ?_⟩)
  ·
    refine seg 2 (show (0 = 0 ∨ 0 = 1) ∧ R (some (vI 0)) μ from ⟨by decide, ?_⟩)
    first | exact hy (by omega) | exact hn (by omega)
  ·
    refine seg 4 (show (x < μ 31 0 → Wp 62 19 [some (vR 31), some (vI x)] [] μ R) ∧ (¬ (x < μ 31 0) → Wp 62 15 [some (vR 31), some (vI x)] [] μ R) from ⟨fun c2 => ?_, fun c2 => ?_⟩)
    ·
      refine seg 2 (show (0 = 0 ∨ 0 = 1) ∧ R (some (vI 0)) μ from ⟨by decide, ?_⟩)
      first | exact hy (by omega) | exact hn (by omega)
    ·
      refine seg 3 (show (1 = 0 ∨ 1 = 1) ∧ R (some (vI 1)) μ from ⟨by decide, ?_⟩)
      first | exact hy (by omega) | exact hn (by omega)
theorem s64_31 {μ : Mu} {R : Po} {r : Int} (hb : 0 ≤ r ∧ r < 8) (h0 : 0 ≤ μ 31 1) (hy : tb (μ 31 1) r → R (some (vI 1)) μ) (hn : ¬ tb (μ 31 1) r → R (some (vI 0)) μ) : Wp 64 0 [some (vR 31), some (vI r)] [] μ R := by
  have hs := sh_nn h0 r
  refine seg 8 (show (0 ≤ (μ 31 1) ∧ 0 ≤ r ∧ r < 31) ∧ (0 ≤ ((μ 31 1) / 2 ^ (r : Int).toNat) ∧ 0 ≤ 1) ∧ (¬ (((Int.toNat ((μ 31 1) / 2 ^ (r : Int).toNat) &&& Int.toNat 1 : Nat) : Int) = 1) → Wp 64 16 [some (vR 31), some (vI r)] [] μ R) ∧ (((Int.toNat ((μ 31 1) / 2 ^ (r : Int).toNat) &&& Int.toNat 1 : Nat) : Int) = 1 → Wp 64 12 [some (vR 31), some (vI r)] [] μ R) from ⟨by omega, by omega, fun c1 => ?_, fun c1 => ?_⟩)
  ·
    refine seg 2 (show (0 = 0 ∨ 0 = 1) ∧ R (some (vI 0)) μ from ⟨by decide, ?_⟩)
    first | exact hy ((tb_iff h0).mp (by assumption)) | exact hn (fun z => absurd ((tb_iff h0).mpr z) (by assumption)) | (exfalso; omega)
  ·
    refine seg 3 (show (1 = 0 ∨ 1 = 1) ∧ R (some (vI 1)) μ from ⟨by decide, ?_⟩)
    first | exact hy ((tb_iff h0).mp (by assumption)) | exact hn (fun z => absurd ((tb_iff h0).mpr z) (by assumption)) | (exfalso; omega)
theorem s67_31 {μ : Mu} {R : Po} {r : Int} (hb : 0 ≤ r ∧ r < 8) (h0 : 0 ≤ μ 31 2) (hy : tb (μ 31 2) r → R (some (vI 1)) μ) (hn : ¬ tb (μ 31 2) r → R (some (vI 0)) μ) : Wp 67 0 [some (vR 31), some (vI r)] [] μ R := by
  have hs := sh_nn h0 r
  refine seg 8 (show (0 ≤ (μ 31 2) ∧ 0 ≤ r ∧ r < 31) ∧ (0 ≤ ((μ 31 2) / 2 ^ (r : Int).toNat) ∧ 0 ≤ 1) ∧ (¬ (((Int.toNat ((μ 31 2) / 2 ^ (r : Int).toNat) &&& Int.toNat 1 : Nat) : Int) = 1) → Wp 67 16 [some (vR 31), some (vI r)] [] μ R) ∧ (((Int.toNat ((μ 31 2) / 2 ^ (r : Int).toNat) &&& Int.toNat 1 : Nat) : Int) = 1 → Wp 67 12 [some (vR 31), some (vI r)] [] μ R) from ⟨by omega, by omega, fun c1 => ?_, fun c1 => ?_⟩)
  ·
    refine seg 2 (show (0 = 0 ∨ 0 = 1) ∧ R (some (vI 0)) μ from ⟨by decide, ?_⟩)
    first | exact hy ((tb_iff h0).mp (by assumption)) | exact hn (fun z => absurd ((tb_iff h0).mpr z) (by assumption)) | (exfalso; omega)
  ·
    refine seg 3 (show (1 = 0 ∨ 1 = 1) ∧ R (some (vI 1)) μ from ⟨by decide, ?_⟩)
    first | exact hy ((tb_iff h0).mp (by assumption)) | exact hn (fun z => absurd ((tb_iff h0).mpr z) (by assumption)) | (exfalso; omega)
theorem s65_31 {μ : Mu} {R : Po} {r : Int} (hb : 0 ≤ r ∧ r < 8) (h0 : 0 ≤ μ 31 1) (h : R none (u2 μ 31 1 ((Int.toNat (μ 31 1) ^^^ Int.toNat (1 * 2 ^ (r : Int).toNat) : Nat) : Int))) : Wp 65 0 [some (vR 31), some (vI r)] [] μ R := by
  have hp := pw_le (k := r) hb
  refine seg 9 (show (0 ≤ 1 ∧ 0 ≤ r ∧ r < 31 ∧ 1 * 2 ^ (r : Int).toNat ≤ 2147483647) ∧ (0 ≤ (μ 31 1) ∧ 0 ≤ (1 * 2 ^ (r : Int).toNat)) ∧ R none (u2 μ 31 1 ((Int.toNat (μ 31 1) ^^^ Int.toNat (1 * 2 ^ (r : Int).toNat) : Nat) : Int)) from ⟨by omega, by omega, ?_⟩)
  first | exact h | (exfalso; omega)
theorem s68_31 {μ : Mu} {R : Po} {r : Int} (hb : 0 ≤ r ∧ r < 8) (h0 : 0 ≤ μ 31 2) (h : R none (u2 μ 31 2 ((Int.toNat (μ 31 2) ^^^ Int.toNat (1 * 2 ^ (r : Int).toNat) : Nat) : Int))) : Wp 68 0 [some (vR 31), some (vI r)] [] μ R := by
  have hp := pw_le (k := r) hb
  refine seg 9 (show (0 ≤ 1 ∧ 0 ≤ r ∧ r < 31 ∧ 1 * 2 ^ (r : Int).toNat ≤ 2147483647) ∧ (0 ≤ (μ 31 2) ∧ 0 ≤ (1 * 2 ^ (r : Int).toNat)) ∧ R none (u2 μ 31 2 ((Int.toNat (μ 31 2) ^^^ Int.toNat (1 * 2 ^ (r : Int).toNat) : Nat) : Int)) from ⟨by omega, by omega, ?_⟩)
  first | exact h | (exfalso; omega)
theorem s1 {μ : Mu} {R : Po} (h : R (some (vI (μ 40 1))) μ) : Wp 1 0 [some (vR 40)] [] μ R := by
  refine seg 3 (show R (some (vI (μ 40 1))) μ from ?_)
  first | exact h | (exfalso; omega)
theorem s2 {μ : Mu} {R : Po} (h : R none (u2 μ 40 1 0)) : Wp 2 0 [some (vR 40)] [] μ R := by
  refine seg 4 (show R none (u2 μ 40 1 0) from ?_)
  first | exact h | (exfalso; omega)
theorem s5 {μ : Mu} {R : Po} (hb : 0 < μ 40 1 ∧ μ 40 1 ≤ 10) (h : R (some (vI (μ 41 (μ 40 1 - 1)))) (u2 μ 40 1 (μ 40 1 - 1))) : Wp 5 0 [some (vR 40)] [] μ R := by
  refine seg 3 (show (0 < μ 40 1 → Wp 5 10 [some (vR 40)] [] μ R) ∧ (¬ (0 < μ 40 1) → Wp 5 7 [some (vR 40)] [] μ R) from ⟨fun c1 => ?_, fun c1 => ?_⟩)
  ·
    refine seg 12 (show iR ((μ 40 1) - 1) ∧ (0 ≤ ((μ 40 1) - 1) ∧ ((μ 40 1) - 1) < 10) ∧ R (some (vI (μ 41 ((μ 40 1) - 1)))) (u2 μ 40 1 ((μ 40 1) - 1)) from ⟨by omega, by omega, ?_⟩)
    first | exact h | (exfalso; omega)
  ·
    refine seg 2 (show R (some (vI (-9))) μ from ?_)
    first | exact h | (exfalso; omega)
theorem s70 {μ : Mu} {R : Po} (h : R (some (vI (μ 42 3))) μ) : Wp 70 0 [some (vR 42)] [] μ R := by
  refine seg 3 (show R (some (vI (μ 42 3))) μ from ?_)
  first | exact h | (exfalso; omega)
theorem s71 {μ : Mu} {R : Po} (h : R none (u2 μ 42 3 0)) : Wp 71 0 [some (vR 42)] [] μ R := by
  refine seg 4 (show R none (u2 μ 42 3 0) from ?_)
  first | exact h | (exfalso; omega)
theorem s72 {μ : Mu} {R : Po} {a b z : Int} (hb : 0 ≤ μ 42 3 ∧ μ 42 3 < 6) (hz : z = 0 ∨ z = 1) (h : R none (u2 (u2 (u2 (u2 μ 43 (μ 42 3) a) 44 (μ 42 3) b) 45 (μ 42 3) z) 42 3 (μ 42 3 + 1))) : Wp 72 0 [some (vR 42), some (vI a), some (vI b), some (vI z)] [] μ R := by
  refine seg 4 (show (6 ≤ μ 42 3 → Wp 72 49 [some (vR 42), some (vI a), some (vI b), some (vI z)] [] μ R) ∧ (¬ (6 ≤ μ 42 3) → Wp 72 9 [some (vR 42), some (vI a), some (vI b), some (vI z)] [] μ R) from ⟨fun c1 => ?_, fun c1 => ?_⟩)
  ·
    refine seg 1 (show R none μ from ?_)
    first | exact h | (exfalso; omega)
  ·
    refine seg 25 (show (0 ≤ (μ 42 3) ∧ (μ 42 3) < 6) ∧ (0 ≤ (μ 42 3) ∧ (μ 42 3) < 6) ∧ ((0 ≤ (μ 42 3) ∧ (μ 42 3) < 6) ∧ (z = 0 ∨ z = 1)) ∧ iR ((μ 42 3) + 1) ∧ R none (u2 (u2 (u2 (u2 μ 43 (μ 42 3) a) 44 (μ 42 3) b) 45 (μ 42 3) z) 42 3 ((μ 42 3) + 1)) from ⟨by omega, by omega, by omega, by omega, ?_⟩)
    first | exact h | (exfalso; omega)
theorem s75 {μ : Mu} {R : Po} (h : R (some (vI (μ 1 1))) μ) : Wp 75 0 [some (vR 1)] [] μ R := by
  refine seg 3 (show R (some (vI (μ 1 1))) μ from ?_)
  first | exact h | (exfalso; omega)
theorem s76 {μ : Mu} {R : Po} {v : Int} (hb : 0 ≤ μ 1 1 ∧ μ 1 1 < 120) (h : R none (u2 (u2 μ 2 (μ 1 1) v) 1 1 (μ 1 1 + 1))) : Wp 76 0 [some (vR 1), some (vI v)] [] μ R := by
  refine seg 4 (show (120 ≤ μ 1 1 → Wp 76 29 [some (vR 1), some (vI v)] [] μ R) ∧ (¬ (120 ≤ μ 1 1) → Wp 76 9 [some (vR 1), some (vI v)] [] μ R) from ⟨fun c1 => ?_, fun c1 => ?_⟩)
  ·
    refine seg 1 (show R none μ from ?_)
    first | exact h | (exfalso; omega)
  ·
    refine seg 13 (show (0 ≤ (μ 1 1) ∧ (μ 1 1) < 120) ∧ iR ((μ 1 1) + 1) ∧ R none (u2 (u2 μ 2 (μ 1 1) v) 1 1 ((μ 1 1) + 1)) from ⟨by omega, by omega, ?_⟩)
    first | exact h | (exfalso; omega)
theorem s77 {μ : Mu} {R : Po} (h : R none (u2 μ 1 1 0)) : Wp 77 0 [some (vR 1)] [] μ R := by
  refine seg 4 (show R none (u2 μ 1 1 0) from ?_)
  first | exact h | (exfalso; omega)
theorem s78 {μ : Mu} {R : Po} {i : Int} (hl : μ 1 1 ≤ 120) (hy : 0 ≤ i ∧ i < μ 1 1 → R (some (vI (μ 2 i))) μ) (hn : ¬ (0 ≤ i ∧ i < μ 1 1) → R (some (vI (-9))) μ) : Wp 78 0 [some (vR 1), some (vI i)] [] μ R := by
  refine seg 2 (show (i < 0 → Wp 78 21 [some (vR 1), some (vI i)] [] μ R) ∧ (¬ (i < 0) → Wp 78 4 [some (vR 1), some (vI i)] [] μ R) from ⟨fun c1 => ?_, fun c1 => ?_⟩)
  ·
    refine seg 2 (show R (some (vI (-9))) μ from ?_)
    first | exact hy (by omega) | exact hn (by omega)
  ·
    refine seg 4 (show (μ 1 1 ≤ i → Wp 78 21 [some (vR 1), some (vI i)] [] μ R) ∧ (¬ (μ 1 1 ≤ i) → Wp 78 12 [some (vR 1), some (vI i)] [] μ R) from ⟨fun c2 => ?_, fun c2 => ?_⟩)
    ·
      refine seg 2 (show R (some (vI (-9))) μ from ?_)
      first | exact hy (by omega) | exact hn (by omega)
    ·
      refine seg 6 (show (0 ≤ i ∧ i < 120) ∧ R (some (vI (μ 2 i))) μ from ⟨by omega, ?_⟩)
      first | exact hy (by omega) | exact hn (by omega)
