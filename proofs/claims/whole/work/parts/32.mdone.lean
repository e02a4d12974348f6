/-! the model's public methods: age, counts, what is done -/
theorem l149a {G : Hi} {s : Se} {R : Po} {μ : Mu} {r x l : Int} (hm : MH G μ) (hT : ∀ r2 k2, 0 ≤ r2 → r2 < hN G → 0 ≤ k2 → k2 < hS G r2 → TrM G s (μ 60) (μ 61) r2 k2) (hr : 0 ≤ r ∧ r < hN G) (hl : 0 ≤ l ∧ l < hS G r) (hkk : ∀ o5 o6 o7 : Option PV, Wp 149 110 [some (vR 47), some (vI r), some (vI x), some (vI l), some (vI (OL G s r l)), o5, o6, o7] [] μ R) : ∀ (n k : Nat) (o6 o7 : Option PV), hS G r - (k : Int) = n → Wp 149 36 [some (vR 47), some (vI r), some (vI x), some (vI l), some (vI (cn (fun k => (og G s r k).1 < (og G s r l).1 ∨ ((og G s r k).1 = (og G s r l).1 ∧ k < l)) k)), some (vI (k : Int)), o6, o7] [] μ R := by
  have h8 := hm.1.n
  have hsr := hm.1.s hr
  have er := (hm.2.2 r hr.1 hr.2).1
  have el := (hT r l hr.1 hr.2 hl.1 hl.2).1
  intro n
  induction n with
  | zero =>
    intro k o6 o7 hn0
    have hb := cn_rg (fun k => (og G s r k).1 < (og G s r l).1 ∨ ((og G s r k).1 = (og G s r l).1 ∧ k < l)) k
    refine seg 6 (show (0 ≤ r ∧ r < 8) ∧ (μ 48 r ≤ (k : Int) → Wp 149 110 [some (vR 47), some (vI r), some (vI x), some (vI l), some (vI (cn (fun k => (og G s r k).1 < (og G s r l).1 ∨ ((og G s r k).1 = (og G s r l).1 ∧ k < l)) k)), some (vI (k : Int)), o6, o7] [] μ R) ∧ (¬ (μ 48 r ≤ (k : Int)) → Wp 149 47 [some (vR 47), some (vI r), some (vI x), some (vI l), some (vI (cn (fun k => (og G s r k).1 < (og G s r l).1 ∨ ((og G s r k).1 = (og G s r l).1 ∧ k < l)) k)), some (vI (k : Int)), o6, o7] [] μ R) from ⟨by omega, fun c1 => ?_, fun c1 => ?_⟩)
    ·
      first | (exfalso; omega) | (have := hkk (some (vI (k : Int))) o6 o7; unfold OL at this; rw [show (hS G r).toNat = k by omega] at this; exact this)
    ·
      refine seg 22 (show iR (8 * r) ∧ iR ((8 * r) + (k : Int)) ∧ (0 ≤ ((8 * r) + (k : Int)) ∧ ((8 * r) + (k : Int)) < 64) ∧ iR (8 * r) ∧ iR ((8 * r) + l) ∧ (0 ≤ ((8 * r) + l) ∧ ((8 * r) + l) < 64) ∧ (μ 60 ((8 * r) + (k : Int)) < μ 60 ((8 * r) + l) → Wp 149 96 [some (vR 47), some (vI r), some (vI x), some (vI l), some (vI (cn (fun k => (og G s r k).1 < (og G s r l).1 ∨ ((og G s r k).1 = (og G s r l).1 ∧ k < l)) k)), some (vI (k : Int)), some (vI (μ 60 ((8 * r) + (k : Int)))), some (vI (μ 60 ((8 * r) + l)))] [vI (cn (fun k => (og G s r k).1 < (og G s r l).1 ∨ ((og G s r k).1 = (og G s r l).1 ∧ k < l)) k)] μ R) ∧ (¬ (μ 60 ((8 * r) + (k : Int)) < μ 60 ((8 * r) + l)) → Wp 149 83 [some (vR 47), some (vI r), some (vI x), some (vI l), some (vI (cn (fun k => (og G s r k).1 < (og G s r l).1 ∨ ((og G s r k).1 = (og G s r l).1 ∧ k < l)) k)), some (vI (k : Int)), some (vI (μ 60 ((8 * r) + (k : Int)))), some (vI (μ 60 ((8 * r) + l)))] [vI (cn (fun k => (og G s r k).1 < (og G s r l).1 ∨ ((og G s r k).1 = (og G s r l).1 ∧ k < l)) k)] μ R) from ⟨by omega, by omega, by omega, by omega, by omega, by omega, fun c2 => ?_, fun c2 => ?_⟩)
      ·
        refine seg 6 (show iR ((cn (fun k => (og G s r k).1 < (og G s r l).1 ∨ ((og G s r k).1 = (og G s r l).1 ∧ k < l)) k) + 1) ∧ iR ((k : Int) + 1) ∧ Wp 149 36 [some (vR 47), some (vI r), some (vI x), some (vI l), some (vI ((cn (fun k => (og G s r k).1 < (og G s r l).1 ∨ ((og G s r k).1 = (og G s r l).1 ∧ k < l)) k) + 1)), some (vI ((k : Int) + 1)), some (vI (μ 60 ((8 * r) + (k : Int)))), some (vI (μ 60 ((8 * r) + l)))] [] μ R from ⟨by omega, by omega, ?_⟩)
        exfalso; omega
      ·
        refine seg 3 (show (¬ (μ 60 ((8 * r) + (k : Int)) = μ 60 ((8 * r) + l)) → Wp 149 100 [some (vR 47), some (vI r), some (vI x), some (vI l), some (vI (cn (fun k => (og G s r k).1 < (og G s r l).1 ∨ ((og G s r k).1 = (og G s r l).1 ∧ k < l)) k)), some (vI (k : Int)), some (vI (μ 60 ((8 * r) + (k : Int)))), some (vI (μ 60 ((8 * r) + l)))] [vI (cn (fun k => (og G s r k).1 < (og G s r l).1 ∨ ((og G s r k).1 = (og G s r l).1 ∧ k < l)) k)] μ R) ∧ (μ 60 ((8 * r) + (k : Int)) = μ 60 ((8 * r) + l) → Wp 149 90 [some (vR 47), some (vI r), some (vI x), some (vI l), some (vI (cn (fun k => (og G s r k).1 < (og G s r l).1 ∨ ((og G s r k).1 = (og G s r l).1 ∧ k < l)) k)), some (vI (k : Int)), some (vI (μ 60 ((8 * r) + (k : Int)))), some (vI (μ 60 ((8 * r) + l)))] [vI (cn (fun k => (og G s r k).1 < (og G s r l).1 ∨ ((og G s r k).1 = (og G s r l).1 ∧ k < l)) k)] μ R) from ⟨fun c3 => ?_, fun c3 => ?_⟩)
        ·
          refine seg 5 (show iR ((cn (fun k => (og G s r k).1 < (og G s r l).1 ∨ ((og G s r k).1 = (og G s r l).1 ∧ k < l)) k) + 0) ∧ iR ((k : Int) + 1) ∧ Wp 149 36 [some (vR 47), some (vI r), some (vI x), some (vI l), some (vI ((cn (fun k => (og G s r k).1 < (og G s r l).1 ∨ ((og G s r k).1 = (og G s r l).1 ∧ k < l)) k) + 0)), some (vI ((k : Int) + 1)), some (vI (μ 60 ((8 * r) + (k : Int)))), some (vI (μ 60 ((8 * r) + l)))] [] μ R from ⟨by omega, by omega, ?_⟩)
          exfalso; omega
        ·
          refine seg 3 (show (l ≤ (k : Int) → Wp 149 100 [some (vR 47), some (vI r), some (vI x), some (vI l), some (vI (cn (fun k => (og G s r k).1 < (og G s r l).1 ∨ ((og G s r k).1 = (og G s r l).1 ∧ k < l)) k)), some (vI (k : Int)), some (vI (μ 60 ((8 * r) + (k : Int)))), some (vI (μ 60 ((8 * r) + l)))] [vI (cn (fun k => (og G s r k).1 < (og G s r l).1 ∨ ((og G s r k).1 = (og G s r l).1 ∧ k < l)) k)] μ R) ∧ (¬ (l ≤ (k : Int)) → Wp 149 96 [some (vR 47), some (vI r), some (vI x), some (vI l), some (vI (cn (fun k => (og G s r k).1 < (og G s r l).1 ∨ ((og G s r k).1 = (og G s r l).1 ∧ k < l)) k)), some (vI (k : Int)), some (vI (μ 60 ((8 * r) + (k : Int)))), some (vI (μ 60 ((8 * r) + l)))] [vI (cn (fun k => (og G s r k).1 < (og G s r l).1 ∨ ((og G s r k).1 = (og G s r l).1 ∧ k < l)) k)] μ R) from ⟨fun c4 => ?_, fun c4 => ?_⟩)
          ·
            refine seg 5 (show iR ((cn (fun k => (og G s r k).1 < (og G s r l).1 ∨ ((og G s r k).1 = (og G s r l).1 ∧ k < l)) k) + 0) ∧ iR ((k : Int) + 1) ∧ Wp 149 36 [some (vR 47), some (vI r), some (vI x), some (vI l), some (vI ((cn (fun k => (og G s r k).1 < (og G s r l).1 ∨ ((og G s r k).1 = (og G s r l).1 ∧ k < l)) k) + 0)), some (vI ((k : Int) + 1)), some (vI (μ 60 ((8 * r) + (k : Int)))), some (vI (μ 60 ((8 * r) + l)))] [] μ R from ⟨by omega, by omega, ?_⟩)
            exfalso; omega
          ·
            refine seg 6 (show iR ((cn (fun k => (og G s r k).1 < (og G s r l).1 ∨ ((og G s r k).1 = (og G s r l).1 ∧ k < l)) k) + 1) ∧ iR ((k : Int) + 1) ∧ Wp 149 36 [some (vR 47), some (vI r), some (vI x), some (vI l), some (vI ((cn (fun k => (og G s r k).1 < (og G s r l).1 ∨ ((og G s r k).1 = (og G s r l).1 ∧ k < l)) k) + 1)), some (vI ((k : Int) + 1)), some (vI (μ 60 ((8 * r) + (k : Int)))), some (vI (μ 60 ((8 * r) + l)))] [] μ R from ⟨by omega, by omega, ?_⟩)
            exfalso; omega
  | succ n ih =>
    intro k o6 o7 hn0
    have hb := cn_rg (fun k => (og G s r k).1 < (og G s r l).1 ∨ ((og G s r k).1 = (og G s r l).1 ∧ k < l)) k
    have et := (hT r (k : Int) hr.1 hr.2 (by omega) (by omega)).1
    refine seg 6 (show (0 ≤ r ∧ r < 8) ∧ (μ 48 r ≤ (k : Int) → Wp 149 110 [some (vR 47), some (vI r), some (vI x), some (vI l), some (vI (cn (fun k => (og G s r k).1 < (og G s r l).1 ∨ ((og G s r k).1 = (og G s r l).1 ∧ k < l)) k)), some (vI (k : Int)), o6, o7] [] μ R) ∧ (¬ (μ 48 r ≤ (k : Int)) → Wp 149 47 [some (vR 47), some (vI r), some (vI x), some (vI l), some (vI (cn (fun k => (og G s r k).1 < (og G s r l).1 ∨ ((og G s r k).1 = (og G s r l).1 ∧ k < l)) k)), some (vI (k : Int)), o6, o7] [] μ R) from ⟨by omega, fun c5 => ?_, fun c5 => ?_⟩)
    ·
      first | (exfalso; omega) | (have := hkk (some (vI (k : Int))) o6 o7; unfold OL at this; rw [show (hS G r).toNat = k by omega] at this; exact this)
    ·
      refine seg 22 (show iR (8 * r) ∧ iR ((8 * r) + (k : Int)) ∧ (0 ≤ ((8 * r) + (k : Int)) ∧ ((8 * r) + (k : Int)) < 64) ∧ iR (8 * r) ∧ iR ((8 * r) + l) ∧ (0 ≤ ((8 * r) + l) ∧ ((8 * r) + l) < 64) ∧ (μ 60 ((8 * r) + (k : Int)) < μ 60 ((8 * r) + l) → Wp 149 96 [some (vR 47), some (vI r), some (vI x), some (vI l), some (vI (cn (fun k => (og G s r k).1 < (og G s r l).1 ∨ ((og G s r k).1 = (og G s r l).1 ∧ k < l)) k)), some (vI (k : Int)), some (vI (μ 60 ((8 * r) + (k : Int)))), some (vI (μ 60 ((8 * r) + l)))] [vI (cn (fun k => (og G s r k).1 < (og G s r l).1 ∨ ((og G s r k).1 = (og G s r l).1 ∧ k < l)) k)] μ R) ∧ (¬ (μ 60 ((8 * r) + (k : Int)) < μ 60 ((8 * r) + l)) → Wp 149 83 [some (vR 47), some (vI r), some (vI x), some (vI l), some (vI (cn (fun k => (og G s r k).1 < (og G s r l).1 ∨ ((og G s r k).1 = (og G s r l).1 ∧ k < l)) k)), some (vI (k : Int)), some (vI (μ 60 ((8 * r) + (k : Int)))), some (vI (μ 60 ((8 * r) + l)))] [vI (cn (fun k => (og G s r k).1 < (og G s r l).1 ∨ ((og G s r k).1 = (og G s r l).1 ∧ k < l)) k)] μ R) from ⟨by omega, by omega, by omega, by omega, by omega, by omega, fun c6 => ?_, fun c6 => ?_⟩)
      ·
        refine seg 6 (show iR ((cn (fun k => (og G s r k).1 < (og G s r l).1 ∨ ((og G s r k).1 = (og G s r l).1 ∧ k < l)) k) + 1) ∧ iR ((k : Int) + 1) ∧ Wp 149 36 [some (vR 47), some (vI r), some (vI x), some (vI l), some (vI ((cn (fun k => (og G s r k).1 < (og G s r l).1 ∨ ((og G s r k).1 = (og G s r l).1 ∧ k < l)) k) + 1)), some (vI ((k : Int) + 1)), some (vI (μ 60 ((8 * r) + (k : Int)))), some (vI (μ 60 ((8 * r) + l)))] [] μ R from ⟨by omega, by omega, ?_⟩)
        have := ih (k + 1) (some (vI (μ 60 ((8 * r) + (k : Int))))) (some (vI (μ 60 ((8 * r) + l)))) (by omega)
        first
        | (rw [cn_y (P := (fun k => (og G s r k).1 < (og G s r l).1 ∨ ((og G s r k).1 = (og G s r l).1 ∧ k < l))) (by omega)] at this; exact this)
        | (rw [cn_n (P := (fun k => (og G s r k).1 < (og G s r l).1 ∨ ((og G s r k).1 = (og G s r l).1 ∧ k < l))) (by omega)] at this; rw [Int.add_zero]; exact this)
      ·
        refine seg 3 (show (¬ (μ 60 ((8 * r) + (k : Int)) = μ 60 ((8 * r) + l)) → Wp 149 100 [some (vR 47), some (vI r), some (vI x), some (vI l), some (vI (cn (fun k => (og G s r k).1 < (og G s r l).1 ∨ ((og G s r k).1 = (og G s r l).1 ∧ k < l)) k)), some (vI (k : Int)), some (vI (μ 60 ((8 * r) + (k : Int)))), some (vI (μ 60 ((8 * r) + l)))] [vI (cn (fun k => (og G s r k).1 < (og G s r l).1 ∨ ((og G s r k).1 = (og G s r l).1 ∧ k < l)) k)] μ R) ∧ (μ 60 ((8 * r) + (k : Int)) = μ 60 ((8 * r) + l) → Wp 149 90 [some (vR 47), some (vI r), some (vI x), some (vI l), some (vI (cn (fun k => (og G s r k).1 < (og G s r l).1 ∨ ((og G s r k).1 = (og G s r l).1 ∧ k < l)) k)), some (vI (k : Int)), some (vI (μ 60 ((8 * r) + (k : Int)))), some (vI (μ 60 ((8 * r) + l)))] [vI (cn (fun k => (og G s r k).1 < (og G s r l).1 ∨ ((og G s r k).1 = (og G s r l).1 ∧ k < l)) k)] μ R) from ⟨fun c7 => ?_, fun c7 => ?_⟩)
        ·
          refine seg 5 (show iR ((cn (fun k => (og G s r k).1 < (og G s r l).1 ∨ ((og G s r k).1 = (og G s r l).1 ∧ k < l)) k) + 0) ∧ iR ((k : Int) + 1) ∧ Wp 149 36 [some (vR 47), some (vI r), some (vI x), some (vI l), some (vI ((cn (fun k => (og G s r k).1 < (og G s r l).1 ∨ ((og G s r k).1 = (og G s r l).1 ∧ k < l)) k) + 0)), some (vI ((k : Int) + 1)), some (vI (μ 60 ((8 * r) + (k : Int)))), some (vI (μ 60 ((8 * r) + l)))] [] μ R from ⟨by omega, by omega, ?_⟩)
          have := ih (k + 1) (some (vI (μ 60 ((8 * r) + (k : Int))))) (some (vI (μ 60 ((8 * r) + l)))) (by omega)
          first
          | (rw [cn_y (P := (fun k => (og G s r k).1 < (og G s r l).1 ∨ ((og G s r k).1 = (og G s r l).1 ∧ k < l))) (by omega)] at this; exact this)
          | (rw [cn_n (P := (fun k => (og G s r k).1 < (og G s r l).1 ∨ ((og G s r k).1 = (og G s r l).1 ∧ k < l))) (by omega)] at this; rw [Int.add_zero]; exact this)
        ·
          refine seg 3 (show (l ≤ (k : Int) → Wp 149 100 [some (vR 47), some (vI r), some (vI x), some (vI l), some (vI (cn (fun k => (og G s r k).1 < (og G s r l).1 ∨ ((og G s r k).1 = (og G s r l).1 ∧ k < l)) k)), some (vI (k : Int)), some (vI (μ 60 ((8 * r) + (k : Int)))), some (vI (μ 60 ((8 * r) + l)))] [vI (cn (fun k => (og G s r k).1 < (og G s r l).1 ∨ ((og G s r k).1 = (og G s r l).1 ∧ k < l)) k)] μ R) ∧ (¬ (l ≤ (k : Int)) → Wp 149 96 [some (vR 47), some (vI r), some (vI x), some (vI l), some (vI (cn (fun k => (og G s r k).1 < (og G s r l).1 ∨ ((og G s r k).1 = (og G s r l).1 ∧ k < l)) k)), some (vI (k : Int)), some (vI (μ 60 ((8 * r) + (k : Int)))), some (vI (μ 60 ((8 * r) + l)))] [vI (cn (fun k => (og G s r k).1 < (og G s r l).1 ∨ ((og G s r k).1 = (og G s r l).1 ∧ k < l)) k)] μ R) from ⟨fun c8 => ?_, fun c8 => ?_⟩)
          ·
            refine seg 5 (show iR ((cn (fun k => (og G s r k).1 < (og G s r l).1 ∨ ((og G s r k).1 = (og G s r l).1 ∧ k < l)) k) + 0) ∧ iR ((k : Int) + 1) ∧ Wp 149 36 [some (vR 47), some (vI r), some (vI x), some (vI l), some (vI ((cn (fun k => (og G s r k).1 < (og G s r l).1 ∨ ((og G s r k).1 = (og G s r l).1 ∧ k < l)) k) + 0)), some (vI ((k : Int) + 1)), some (vI (μ 60 ((8 * r) + (k : Int)))), some (vI (μ 60 ((8 * r) + l)))] [] μ R from ⟨by omega, by omega, ?_⟩)
            have := ih (k + 1) (some (vI (μ 60 ((8 * r) + (k : Int))))) (some (vI (μ 60 ((8 * r) + l)))) (by omega)
            first
            | (rw [cn_y (P := (fun k => (og G s r k).1 < (og G s r l).1 ∨ ((og G s r k).1 = (og G s r l).1 ∧ k < l))) (by omega)] at this; exact this)
            | (rw [cn_n (P := (fun k => (og G s r k).1 < (og G s r l).1 ∨ ((og G s r k).1 = (og G s r l).1 ∧ k < l))) (by omega)] at this; rw [Int.add_zero]; exact this)
          ·
            refine seg 6 (show iR ((cn (fun k => (og G s r k).1 < (og G s r l).1 ∨ ((og G s r k).1 = (og G s r l).1 ∧ k < l)) k) + 1) ∧ iR ((k : Int) + 1) ∧ Wp 149 36 [some (vR 47), some (vI r), some (vI x), some (vI l), some (vI ((cn (fun k => (og G s r k).1 < (og G s r l).1 ∨ ((og G s r k).1 = (og G s r l).1 ∧ k < l)) k) + 1)), some (vI ((k : Int) + 1)), some (vI (μ 60 ((8 * r) + (k : Int)))), some (vI (μ 60 ((8 * r) + l)))] [] μ R from ⟨by omega, by omega, ?_⟩)
            have := ih (k + 1) (some (vI (μ 60 ((8 * r) + (k : Int))))) (some (vI (μ 60 ((8 * r) + l)))) (by omega)
            first
            | (rw [cn_y (P := (fun k => (og G s r k).1 < (og G s r l).1 ∨ ((og G s r k).1 = (og G s r l).1 ∧ k < l))) (by omega)] at this; exact this)
            | (rw [cn_n (P := (fun k => (og G s r k).1 < (og G s r l).1 ∨ ((og G s r k).1 = (og G s r l).1 ∧ k < l))) (by omega)] at this; rw [Int.add_zero]; exact this)
theorem l149 {G : Hi} {s : Se} {R : Po} {μ : Mu} {r x : Int} (hm : MH G μ) (hT : ∀ r2 k2, 0 ≤ r2 → r2 < hN G → 0 ≤ k2 → k2 < hS G r2 → TrM G s (μ 60) (μ 61) r2 k2) (hr : 0 ≤ r ∧ r < hN G) (hkk : R (some (vI (agF G s r x (hS G r).toNat 0))) μ) : ∀ (n : Nat) (l : Int) (o4 o5 o6 o7 : Option PV), hS G r - l = n → 0 ≤ l → agF G s r x (hS G r).toNat 0 = agF G s r x n l → Wp 149 20 [some (vR 47), some (vI r), some (vI x), some (vI l), o4, o5, o6, o7] [] μ R := by
  have h8 := hm.1.n
  have hsr := hm.1.s hr
  have er := (hm.2.2 r hr.1 hr.2).1
  intro n
  induction n with
  | zero =>
    intro l o4 o5 o6 o7 hn0 h0 he
    refine seg 6 (show (0 ≤ r ∧ r < 8) ∧ (μ 48 r ≤ l → Wp 149 124 [some (vR 47), some (vI r), some (vI x), some (vI l), o4, o5, o6, o7] [] μ R) ∧ (¬ (μ 48 r ≤ l) → Wp 149 30 [some (vR 47), some (vI r), some (vI x), some (vI l), o4, o5, o6, o7] [] μ R) from ⟨by omega, fun c1 => ?_, fun c1 => ?_⟩)
    ·
      refine seg 2 (show R (some (vI (-9))) μ from ?_)
      first | (exfalso; omega) | (rw [he] at hkk; exact hkk)
    ·
      refine seg 4 (show Wp 149 36 [some (vR 47), some (vI r), some (vI x), some (vI l), some (vI 0), some (vI 0), o6, o7] [] μ R from ?_)
      exfalso; omega
  | succ n ih =>
    intro l o4 o5 o6 o7 hn0 h0 he
    refine seg 6 (show (0 ≤ r ∧ r < 8) ∧ (μ 48 r ≤ l → Wp 149 124 [some (vR 47), some (vI r), some (vI x), some (vI l), o4, o5, o6, o7] [] μ R) ∧ (¬ (μ 48 r ≤ l) → Wp 149 30 [some (vR 47), some (vI r), some (vI x), some (vI l), o4, o5, o6, o7] [] μ R) from ⟨by omega, fun c2 => ?_, fun c2 => ?_⟩)
    ·
      refine seg 2 (show R (some (vI (-9))) μ from ?_)
      first | (exfalso; omega) | (rw [he] at hkk; exact hkk)
    ·
      refine seg 4 (show Wp 149 36 [some (vR 47), some (vI r), some (vI x), some (vI l), some (vI 0), some (vI 0), o6, o7] [] μ R from ?_)
      refine l149a hm hT hr (l := l) (by omega) (fun o5 o6 o7 => ?_) (hS G r).toNat 0 _ _ (by omega)
      refine seg 3 (show (¬ (OL G s r l = x) → Wp 149 118 [some (vR 47), some (vI r), some (vI x), some (vI l), some (vI (OL G s r l)), o5, o6, o7] [] μ R) ∧ (OL G s r l = x → Wp 149 116 [some (vR 47), some (vI r), some (vI x), some (vI l), some (vI (OL G s r l)), o5, o6, o7] [] μ R) from ⟨fun c23 => ?_, fun c23 => ?_⟩)
      ·
        refine seg 2 (show iR (l + 1) ∧ Wp 149 20 [some (vR 47), some (vI r), some (vI x), some (vI (l + 1)), some (vI (OL G s r l)), o5, o6, o7] [] μ R from ⟨by omega, ?_⟩)
        rw [agF, if_neg (by assumption)] at he
        exact ih (l + 1) _ _ _ _ (by omega) (by omega) he
      ·
        refine seg 2 (show R (some (vI l)) μ from ?_)
        rw [he, agF, if_pos (by assumption)] at hkk; exact hkk
theorem d149 {G : Hi} {T : Tx} {s : Se} {U : Un} {im : Int → Option Se} {N : Sn} {R : Po} {μ : Mu} (hrm : RM G T s U im N μ) {r x : Int} (hk : ∀ μ2 : Mu, RM G T s U im N μ2 → (∀ q, q < 47 → μ2 q = μ q) → R (some (vI (aAge G s r x))) μ2) : Wp 149 0 [some (vR 47), some (vI r), some (vI x), none, none, none, none, none] [] μ R := by
  have hg := hrm.1
  have hm := hg.1
  have h8 := hm.1.n
  have hs := hrm.2.1
  have hok := hrm.2.2.1
  refine seg 3 (show Wp 120 0 [some (vR 47), some (vI r)] [] μ (fun rr μ' => Wp 149 5 [some (vR 47), some (vI r), some (vI x), none, none, none, none, none] (rr.toList ++ []) μ' R) from ?_)
  refine n120 hm (fun b1 => ?_) (fun b1 => ?_)
  ·
    refine seg 1 (show (1 = 0 → Wp 149 12 [some (vR 47), some (vI r), some (vI x), none, none, none, none, none] [] μ R) ∧ (¬ (1 = 0) → Wp 149 8 [some (vR 47), some (vI r), some (vI x), none, none, none, none, none] [] μ R) from ⟨fun z => absurd z (by decide), fun _ => ?_⟩)
    refine seg 2 (show (0 ≤ x → Wp 149 14 [some (vR 47), some (vI r), some (vI x), none, none, none, none, none] [] μ R) ∧ (¬ (0 ≤ x) → Wp 149 12 [some (vR 47), some (vI r), some (vI x), none, none, none, none, none] [] μ R) from ⟨fun c2 => ?_, fun c2 => ?_⟩)
    ·
      refine seg 2 (show Wp 139 0 [some (vR 47), none, none, none, none] [] μ (fun rr μ' => Wp 149 18 [some (vR 47), some (vI r), some (vI x), none, none, none, none, none] (rr.toList ++ []) μ' R) from ?_)
      refine n139 hg hs hok (fun μ1 f1 t1 => ?_)
      have hrm1 : RM G T s U im N μ1 := hrm.fr (fun q a b c d e f g => f1 q f g)
      have fr1 : ∀ q, q < 47 → μ1 q = μ q := fun q hq => f1 q (by omega) (by omega)
      have hm1 := hrm1.1.1
      refine seg 2 (show Wp 149 20 [some (vR 47), some (vI r), some (vI x), some (vI 0), none, none, none, none] [] μ1 R from ?_)
      have hsr := hm.1.s (r := r) (by omega)
      have := hk μ1 hrm1 fr1
      unfold aAge at this
      rw [if_pos (by omega)] at this
      exact l149 hm1 t1 (by omega) this (hS G r).toNat 0 _ _ _ _ (by omega) (by decide) rfl
    ·
      refine seg 2 (show R (some (vI (-1))) μ from ?_)
      have e : aAge G s r x = -1 := by
        unfold aAge; rw [if_neg (by omega)]
      have := hk μ hrm (fun _ _ => rfl); rw [e] at this; exact this
  ·
    refine seg 1 (show (0 = 0 → Wp 149 12 [some (vR 47), some (vI r), some (vI x), none, none, none, none, none] [] μ R) ∧ (¬ (0 = 0) → Wp 149 8 [some (vR 47), some (vI r), some (vI x), none, none, none, none, none] [] μ R) from ⟨fun _ => ?_, fun z => absurd z (by decide)⟩)
    refine seg 2 (show R (some (vI (-1))) μ from ?_)
    have e : aAge G s r x = -1 := by
      unfold aAge; rw [if_neg (by omega)]
    have := hk μ hrm (fun _ _ => rfl); rw [e] at this; exact this
theorem l161 {G : Hi} {R : Po} {μ : Mu} (hm : MH G μ) (hk : R (some (vI (SZs G (hN G).toNat))) μ) : ∀ (n r : Nat), hN G - (r : Int) = n → Wp 161 4 [some (vR 47), some (vI (SZs G r)), some (vI (r : Int))] [] μ R := by
  have h8 := hm.1.n
  have e0 := hm.2.1
  intro n
  induction n with
  | zero =>
    intro r hn0
    have hz := SZs_rg hm.1 r (by omega)
    refine seg 4 (show (μ 47 0 ≤ (r : Int) → Wp 161 27 [some (vR 47), some (vI (SZs G r)), some (vI (r : Int))] [] μ R) ∧ (¬ (μ 47 0 ≤ (r : Int)) → Wp 161 12 [some (vR 47), some (vI (SZs G r)), some (vI (r : Int))] [] μ R) from ⟨fun c1 => ?_, fun c1 => ?_⟩)
    ·
      refine seg 2 (show R (some (vI (SZs G r))) μ from ?_)
      first | (exfalso; omega) | (have e : (hN G).toNat = r := (by omega); rw [e] at hk; exact hk)
    ·
      refine seg 9 (show (0 ≤ (r : Int) ∧ (r : Int) < 8) ∧ iR ((SZs G r) + (μ 48 (r : Int))) ∧ iR ((r : Int) + 1) ∧ Wp 161 4 [some (vR 47), some (vI ((SZs G r) + (μ 48 (r : Int)))), some (vI ((r : Int) + 1))] [] μ R from ⟨by omega, by omega, by omega, ?_⟩)
      exfalso; omega
  | succ n ih =>
    intro r hn0
    have hz := SZs_rg hm.1 r (by omega)
    have h10 := (hm.2.2 (r : Int) (by omega) (by omega)).1
    have hsr := hm.1.s (r := (r : Int)) (by omega)
    refine seg 4 (show (μ 47 0 ≤ (r : Int) → Wp 161 27 [some (vR 47), some (vI (SZs G r)), some (vI (r : Int))] [] μ R) ∧ (¬ (μ 47 0 ≤ (r : Int)) → Wp 161 12 [some (vR 47), some (vI (SZs G r)), some (vI (r : Int))] [] μ R) from ⟨fun c2 => ?_, fun c2 => ?_⟩)
    ·
      refine seg 2 (show R (some (vI (SZs G r))) μ from ?_)
      first | (exfalso; omega) | (have e : (hN G).toNat = r := (by omega); rw [e] at hk; exact hk)
    ·
      refine seg 9 (show (0 ≤ (r : Int) ∧ (r : Int) < 8) ∧ iR ((SZs G r) + (μ 48 (r : Int))) ∧ iR ((r : Int) + 1) ∧ Wp 161 4 [some (vR 47), some (vI ((SZs G r) + (μ 48 (r : Int)))), some (vI ((r : Int) + 1))] [] μ R from ⟨by omega, by omega, by omega, ?_⟩)
      have := ih (r + 1) (by omega)
      rw [SZs, ← h10] at this
      exact this
theorem n161 {G : Hi} {R : Po} {μ : Mu} (hm : MH G μ) (hk : R (some (vI (SZs G (hN G).toNat))) μ) : Wp 161 0 [some (vR 47), none, none] [] μ R := by
  have hn := hm.1.n
  refine seg 4 (show Wp 161 4 [some (vR 47), some (vI 0), some (vI 0)] [] μ R from ?_)
  exact l161 hm hk (hN G).toNat 0 (by omega)
theorem l162a {G : Hi} {s : Se} {R : Po} {μ : Mu} (hm : MH G μ) (hT : ∀ r2 k2, 0 ≤ r2 → r2 < hN G → 0 ≤ k2 → k2 < hS G r2 → TrM G s (μ 60) (μ 61) r2 k2) {r : Nat} (hr : (r : Int) < hN G) (hk : ∀ o3 : Option PV, Wp 162 62 [some (vR 47), some (vI (OWs G s (r + 1))), some (vI (r : Int)), o3] [] μ R) : ∀ (n k : Nat), hS G (r : Int) - (k : Int) = n → Wp 162 18 [some (vR 47), some (vI (OWs G s r + OW G s (r : Int) k)), some (vI (r : Int)), some (vI (k : Int))] [] μ R := by
  have h8 := hm.1.n
  have hsr := hm.1.s (r := (r : Int)) (by omega)
  have er := (hm.2.2 (r : Int) (by omega) (by omega)).1
  have hw := OWs_rg hm.1 s r (by omega)
  intro n
  induction n with
  | zero =>
    intro k hn0
    have hb := cn_rg (fun k => (og G s (r : Int) k).1 = (r : Int) * 8 + k) k
    have hb : 0 ≤ OW G s (r : Int) k ∧ OW G s (r : Int) k ≤ k := hb
    refine seg 6 (show (0 ≤ (r : Int) ∧ (r : Int) < 8) ∧ (μ 48 (r : Int) ≤ (k : Int) → Wp 162 62 [some (vR 47), some (vI (OWs G s r + OW G s (r : Int) k)), some (vI (r : Int)), some (vI (k : Int))] [] μ R) ∧ (¬ (μ 48 (r : Int) ≤ (k : Int)) → Wp 162 28 [some (vR 47), some (vI (OWs G s r + OW G s (r : Int) k)), some (vI (r : Int)), some (vI (k : Int))] [] μ R) from ⟨by omega, fun c1 => ?_, fun c1 => ?_⟩)
    ·
      first | (exfalso; omega) | (have := hk (some (vI (k : Int))); rw [OWs, show (hS G (r : Int)).toNat = k by omega] at this; exact this)
    ·
      refine seg 15 (show iR (8 * (r : Int)) ∧ iR ((8 * (r : Int)) + (k : Int)) ∧ (0 ≤ ((8 * (r : Int)) + (k : Int)) ∧ ((8 * (r : Int)) + (k : Int)) < 64) ∧ iR (8 * (r : Int)) ∧ iR ((8 * (r : Int)) + (k : Int)) ∧ (¬ (μ 60 ((8 * (r : Int)) + (k : Int)) = (8 * (r : Int)) + (k : Int)) → Wp 162 53 [some (vR 47), some (vI (OWs G s r + OW G s (r : Int) k)), some (vI (r : Int)), some (vI (k : Int))] [vI (OWs G s r + OW G s (r : Int) k)] μ R) ∧ (μ 60 ((8 * (r : Int)) + (k : Int)) = (8 * (r : Int)) + (k : Int) → Wp 162 49 [some (vR 47), some (vI (OWs G s r + OW G s (r : Int) k)), some (vI (r : Int)), some (vI (k : Int))] [vI (OWs G s r + OW G s (r : Int) k)] μ R) from ⟨by omega, by omega, by omega, by omega, by omega, fun c2 => ?_, fun c2 => ?_⟩)
      ·
        refine seg 5 (show iR ((OWs G s r + OW G s (r : Int) k) + 0) ∧ iR ((k : Int) + 1) ∧ Wp 162 18 [some (vR 47), some (vI ((OWs G s r + OW G s (r : Int) k) + 0)), some (vI (r : Int)), some (vI ((k : Int) + 1))] [] μ R from ⟨by omega, by omega, ?_⟩)
        exfalso; omega
      ·
        refine seg 6 (show iR ((OWs G s r + OW G s (r : Int) k) + 1) ∧ iR ((k : Int) + 1) ∧ Wp 162 18 [some (vR 47), some (vI ((OWs G s r + OW G s (r : Int) k) + 1)), some (vI (r : Int)), some (vI ((k : Int) + 1))] [] μ R from ⟨by omega, by omega, ?_⟩)
        exfalso; omega
  | succ n ih =>
    intro k hn0
    have hb := cn_rg (fun k => (og G s (r : Int) k).1 = (r : Int) * 8 + k) k
    have hb : 0 ≤ OW G s (r : Int) k ∧ OW G s (r : Int) k ≤ k := hb
    have et := (hT (r : Int) (k : Int) (by omega) (by omega) (by omega) (by omega)).1
    refine seg 6 (show (0 ≤ (r : Int) ∧ (r : Int) < 8) ∧ (μ 48 (r : Int) ≤ (k : Int) → Wp 162 62 [some (vR 47), some (vI (OWs G s r + OW G s (r : Int) k)), some (vI (r : Int)), some (vI (k : Int))] [] μ R) ∧ (¬ (μ 48 (r : Int) ≤ (k : Int)) → Wp 162 28 [some (vR 47), some (vI (OWs G s r + OW G s (r : Int) k)), some (vI (r : Int)), some (vI (k : Int))] [] μ R) from ⟨by omega, fun c3 => ?_, fun c3 => ?_⟩)
    ·
      first | (exfalso; omega) | (have := hk (some (vI (k : Int))); rw [OWs, show (hS G (r : Int)).toNat = k by omega] at this; exact this)
    ·
      refine seg 15 (show iR (8 * (r : Int)) ∧ iR ((8 * (r : Int)) + (k : Int)) ∧ (0 ≤ ((8 * (r : Int)) + (k : Int)) ∧ ((8 * (r : Int)) + (k : Int)) < 64) ∧ iR (8 * (r : Int)) ∧ iR ((8 * (r : Int)) + (k : Int)) ∧ (¬ (μ 60 ((8 * (r : Int)) + (k : Int)) = (8 * (r : Int)) + (k : Int)) → Wp 162 53 [some (vR 47), some (vI (OWs G s r + OW G s (r : Int) k)), some (vI (r : Int)), some (vI (k : Int))] [vI (OWs G s r + OW G s (r : Int) k)] μ R) ∧ (μ 60 ((8 * (r : Int)) + (k : Int)) = (8 * (r : Int)) + (k : Int) → Wp 162 49 [some (vR 47), some (vI (OWs G s r + OW G s (r : Int) k)), some (vI (r : Int)), some (vI (k : Int))] [vI (OWs G s r + OW G s (r : Int) k)] μ R) from ⟨by omega, by omega, by omega, by omega, by omega, fun c4 => ?_, fun c4 => ?_⟩)
      ·
        refine seg 5 (show iR ((OWs G s r + OW G s (r : Int) k) + 0) ∧ iR ((k : Int) + 1) ∧ Wp 162 18 [some (vR 47), some (vI ((OWs G s r + OW G s (r : Int) k) + 0)), some (vI (r : Int)), some (vI ((k : Int) + 1))] [] μ R from ⟨by omega, by omega, ?_⟩)
        have := ih (k + 1) (by omega)
        unfold OW at this
        first
        | (rw [cn_y (P := (fun k => (og G s (r : Int) k).1 = (r : Int) * 8 + k)) (by omega), ← Int.add_assoc] at this; exact this)
        | (rw [cn_n (P := (fun k => (og G s (r : Int) k).1 = (r : Int) * 8 + k)) (by omega)] at this; rw [Int.add_zero]; exact this)
      ·
        refine seg 6 (show iR ((OWs G s r + OW G s (r : Int) k) + 1) ∧ iR ((k : Int) + 1) ∧ Wp 162 18 [some (vR 47), some (vI ((OWs G s r + OW G s (r : Int) k) + 1)), some (vI (r : Int)), some (vI ((k : Int) + 1))] [] μ R from ⟨by omega, by omega, ?_⟩)
        have := ih (k + 1) (by omega)
        unfold OW at this
        first
        | (rw [cn_y (P := (fun k => (og G s (r : Int) k).1 = (r : Int) * 8 + k)) (by omega), ← Int.add_assoc] at this; exact this)
        | (rw [cn_n (P := (fun k => (og G s (r : Int) k).1 = (r : Int) * 8 + k)) (by omega)] at this; rw [Int.add_zero]; exact this)
theorem l162 {G : Hi} {s : Se} {R : Po} {μ : Mu} (hm : MH G μ) (hT : ∀ r2 k2, 0 ≤ r2 → r2 < hN G → 0 ≤ k2 → k2 < hS G r2 → TrM G s (μ 60) (μ 61) r2 k2) (hk : R (some (vI (OWs G s (hN G).toNat))) μ) : ∀ (n r : Nat) (o3 : Option PV), hN G - (r : Int) = n → Wp 162 8 [some (vR 47), some (vI (OWs G s r)), some (vI (r : Int)), o3] [] μ R := by
  have h8 := hm.1.n
  have e0 := hm.2.1
  intro n
  induction n with
  | zero =>
    intro r o3 hn0
    refine seg 4 (show (μ 47 0 ≤ (r : Int) → Wp 162 68 [some (vR 47), some (vI (OWs G s r)), some (vI (r : Int)), o3] [] μ R) ∧ (¬ (μ 47 0 ≤ (r : Int)) → Wp 162 16 [some (vR 47), some (vI (OWs G s r)), some (vI (r : Int)), o3] [] μ R) from ⟨fun c1 => ?_, fun c1 => ?_⟩)
    ·
      refine seg 2 (show R (some (vI (OWs G s r))) μ from ?_)
      first | (exfalso; omega) | (have e : (hN G).toNat = r := (by omega); rw [e] at hk; exact hk)
    ·
      refine seg 2 (show Wp 162 18 [some (vR 47), some (vI (OWs G s r)), some (vI (r : Int)), some (vI 0)] [] μ R from ?_)
      exfalso; omega
  | succ n ih =>
    intro r o3 hn0
    refine seg 4 (show (μ 47 0 ≤ (r : Int) → Wp 162 68 [some (vR 47), some (vI (OWs G s r)), some (vI (r : Int)), o3] [] μ R) ∧ (¬ (μ 47 0 ≤ (r : Int)) → Wp 162 16 [some (vR 47), some (vI (OWs G s r)), some (vI (r : Int)), o3] [] μ R) from ⟨fun c2 => ?_, fun c2 => ?_⟩)
    ·
      refine seg 2 (show R (some (vI (OWs G s r))) μ from ?_)
      first | (exfalso; omega) | (have e : (hN G).toNat = r := (by omega); rw [e] at hk; exact hk)
    ·
      refine seg 2 (show Wp 162 18 [some (vR 47), some (vI (OWs G s r)), some (vI (r : Int)), some (vI 0)] [] μ R from ?_)
      have hsr := hm.1.s (r := (r : Int)) (by omega)
      have := l162a (R := R) hm hT (r := r) (by omega) (fun o3 => ?_) (hS G (r : Int)).toNat 0 (by omega)
      · rw [show OWs G s r + OW G s (r : Int) 0 = OWs G s r from Int.add_zero _] at this
        exact this
      refine seg 2 (show iR ((r : Int) + 1) ∧ Wp 162 8 [some (vR 47), some (vI (OWs G s (r + 1))), some (vI ((r : Int) + 1)), o3] [] μ R from ⟨by omega, ?_⟩)
      exact ih (r + 1) _ (by omega)
theorem n162 {G : Hi} {T : Tx} {s : Se} {U : Un} {im : Int → Option Se} {N : Sn} {R : Po} {μ : Mu} (hrm : RM G T s U im N μ) (hk : ∀ μ1 : Mu, RM G T s U im N μ1 → (∀ q, q < 47 → μ1 q = μ q) → R (some (vI (OWs G s (hN G).toNat))) μ1) : Wp 162 0 [some (vR 47), none, none, none] [] μ R := by
  have hg := hrm.1
  have hm := hg.1
  have h8 := hm.1.n
  have hs := hrm.2.1
  have hok := hrm.2.2.1
  refine seg 2 (show Wp 139 0 [some (vR 47), none, none, none, none] [] μ (fun rr μ' => Wp 162 4 [some (vR 47), none, none, none] (rr.toList ++ []) μ' R) from ?_)
  refine n139 hg hs hok (fun μ1 f1 t1 => ?_)
  have hrm1 : RM G T s U im N μ1 := hrm.fr (fun q a b c d e f g => f1 q f g)
  have fr1 : ∀ q, q < 47 → μ1 q = μ q := fun q hq => f1 q (by omega) (by omega)
  have hm1 := hrm1.1.1
  refine seg 4 (show Wp 162 8 [some (vR 47), some (vI 0), some (vI 0), none] [] μ1 R from ?_)
  exact l162 hm1 t1 (hk μ1 hrm1 fr1) (hN G).toNat 0 none (by omega)
theorem d163 {G : Hi} {T : Tx} {s : Se} {U : Un} {im : Int → Option Se} {N : Sn} {R : Po} {μ : Mu} (hrm : RM G T s U im N μ) {what : Int} (hk : ∀ μ2 : Mu, RM G T s U im N μ2 → (∀ q, q < 47 → μ2 q = μ q) → R (some (vI (aCnt G T s U N what))) μ2) : Wp 163 0 [some (vR 47), some (vI what)] [] μ R := by
  have hg := hrm.1
  have hm := hg.1
  have h8 := hm.1.n
  have hs := hrm.2.1
  have hok := hrm.2.2.1
  refine seg 2 (show (∀ j : Nat, j < 9 → what = 0 + (j : Int) → Wp 163 ([91, 52, 57, 57, 57, 66, 71, 76, 81, 86].getD (1 + j) 0) [some (vR 47), some (vI what)] [] μ R) ∧ (what < 0 ∨ 8 < what → Wp 163 91 [some (vR 47), some (vI what)] [] μ R) from ⟨fun j hj c1 => ?_, fun c1 => ?_⟩)
  ·
    rcases (show j = 0 ∨ j = 1 ∨ j = 2 ∨ j = 3 ∨ j = 4 ∨ j = 5 ∨ j = 6 ∨ j = 7 ∨ j = 8 by omega) with rfl | rfl | rfl | rfl | rfl | rfl | rfl | rfl | rfl
    ·
      refine seg 3 (show R (some (vI (μ 47 0))) μ from ?_)
      rw [hm.2.1]
      have e : aCnt G T s U N what = hN G := by
        unfold aCnt
        repeat (first | rw [if_pos (by first | omega | assumption)] | rw [if_neg (by first | omega | assumption)])
      have := hk μ hrm (fun _ _ => rfl); rw [e] at this; exact this
    ·
      refine seg 7 (show iR (what - 1) ∧ (0 ≤ (what - 1) ∧ (what - 1) < 3) ∧ R (some (vI (μ 53 (what - 1)))) μ from ⟨by omega, by omega, ?_⟩)
      have e : aCnt G T s U N what = μ 53 (what - 1) := by
        unfold aCnt
        rcases (show what = 1 ∨ what = 2 ∨ what = 3 by omega) with rfl | rfl | rfl
        · rw [if_neg (by decide), if_pos rfl]; exact hs.1.symm
        · rw [if_neg (by decide), if_neg (by decide), if_pos rfl]; exact hs.2.1.symm
        · rw [if_neg (by decide), if_neg (by decide), if_neg (by decide), if_pos rfl]; exact hs.2.2.symm
      have := hk μ hrm (fun _ _ => rfl); rw [e] at this; exact this
    ·
      refine seg 7 (show iR (what - 1) ∧ (0 ≤ (what - 1) ∧ (what - 1) < 3) ∧ R (some (vI (μ 53 (what - 1)))) μ from ⟨by omega, by omega, ?_⟩)
      have e : aCnt G T s U N what = μ 53 (what - 1) := by
        unfold aCnt
        rcases (show what = 1 ∨ what = 2 ∨ what = 3 by omega) with rfl | rfl | rfl
        · rw [if_neg (by decide), if_pos rfl]; exact hs.1.symm
        · rw [if_neg (by decide), if_neg (by decide), if_pos rfl]; exact hs.2.1.symm
        · rw [if_neg (by decide), if_neg (by decide), if_neg (by decide), if_pos rfl]; exact hs.2.2.symm
      have := hk μ hrm (fun _ _ => rfl); rw [e] at this; exact this
    ·
      refine seg 7 (show iR (what - 1) ∧ (0 ≤ (what - 1) ∧ (what - 1) < 3) ∧ R (some (vI (μ 53 (what - 1)))) μ from ⟨by omega, by omega, ?_⟩)
      have e : aCnt G T s U N what = μ 53 (what - 1) := by
        unfold aCnt
        rcases (show what = 1 ∨ what = 2 ∨ what = 3 by omega) with rfl | rfl | rfl
        · rw [if_neg (by decide), if_pos rfl]; exact hs.1.symm
        · rw [if_neg (by decide), if_neg (by decide), if_pos rfl]; exact hs.2.1.symm
        · rw [if_neg (by decide), if_neg (by decide), if_neg (by decide), if_pos rfl]; exact hs.2.2.symm
      have := hk μ hrm (fun _ _ => rfl); rw [e] at this; exact this
    ·
      refine seg 2 (show Wp 161 0 [some (vR 47), none, none] [] μ (fun rr μ' => Wp 163 70 [some (vR 47), some (vI what)] (rr.toList ++ []) μ' R) from ?_)
      refine n161 hm ?_
      refine seg 1 (show R (some (vI (SZs G (hN G).toNat))) μ from ?_)
      have e : aCnt G T s U N what = SZs G (hN G).toNat := by
        unfold aCnt
        repeat (first | rw [if_pos (by first | omega | assumption)] | rw [if_neg (by first | omega | assumption)])
      have := hk μ hrm (fun _ _ => rfl); rw [e] at this; exact this
    ·
      refine seg 2 (show Wp 162 0 [some (vR 47), none, none, none] [] μ (fun rr μ' => Wp 163 75 [some (vR 47), some (vI what)] (rr.toList ++ []) μ' R) from ?_)
      refine n162 hrm (fun μ1 hrm1 fr1 => ?_)
      refine seg 1 (show R (some (vI (OWs G s (hN G).toNat))) μ1 from ?_)
      have e : aCnt G T s U N what = OWs G s (hN G).toNat := by
        unfold aCnt
        repeat (first | rw [if_pos (by first | omega | assumption)] | rw [if_neg (by first | omega | assumption)])
      have := hk μ1 hrm1 fr1; rw [e] at this; exact this
    ·
      refine seg 3 (show R (some (vI (μ 47 24))) μ from ?_)
      rw [hrm.2.2.2.2.2.2.1]
      have e : aCnt G T s U N what = N.1 := by
        unfold aCnt
        repeat (first | rw [if_pos (by first | omega | assumption)] | rw [if_neg (by first | omega | assumption)])
      have := hk μ hrm (fun _ _ => rfl); rw [e] at this; exact this
    ·
      refine seg 3 (show R (some (vI (μ 47 10))) μ from ?_)
      rw [hrm.2.2.2.1.1]
      have e : aCnt G T s U N what = T.1 := by
        unfold aCnt
        repeat (first | rw [if_pos (by first | omega | assumption)] | rw [if_neg (by first | omega | assumption)])
      have := hk μ hrm (fun _ _ => rfl); rw [e] at this; exact this
    ·
      refine seg 3 (show R (some (vI (μ 47 8))) μ from ?_)
      rw [hrm.2.2.2.2.1.1]
      have e : aCnt G T s U N what = U.1 := by
        unfold aCnt
        repeat (first | rw [if_pos (by first | omega | assumption)] | rw [if_neg (by first | omega | assumption)])
      have := hk μ hrm (fun _ _ => rfl); rw [e] at this; exact this
  ·
    refine seg 2 (show R (some (vI (-1))) μ from ?_)
    have e : aCnt G T s U N what = -1 := by
      unfold aCnt
      repeat (first | rw [if_pos (by first | omega | assumption)] | rw [if_neg (by first | omega | assumption)])
    have := hk μ hrm (fun _ _ => rfl); rw [e] at this; exact this
theorem rm_mk {G : Hi} {T T' : Tx} {s s' : Se} {U U' : Un} {im im' : Int → Option Se} {N N' : Sn} {μ μ' : Mu} (h : RM G T s U im N μ) (h0 : μ' 47 0 = μ 47 0) (hf : ∀ q, 48 ≤ q → q ≤ 52 → μ' q = μ q) (hs : SeC s' (μ' 53)) (hok : SeOK s') (hT : RMT T' μ') (hU : RMU U' μ') (hI : RMI im' μ') (hN : RMN G N' μ') : RM G T' s' U' im' N' μ' :=
  ⟨h.1.fr h0 (hf 48 (by decide) (by decide)) (hf 49 (by decide) (by decide)) (hf 50 (by decide) (by decide)) (hf 51 (by decide) (by decide)) (hf 52 (by decide) (by decide)), hs, hok, hT, hU, hI, hN⟩
theorem RMT.fr {T : Tx} {μ μ' : Mu} (h : RMT T μ) (h1 : μ' 47 10 = μ 47 10) (h2 : μ' 55 = μ 55) : RMT T μ' := by unfold RMT; rw [h1, h2]; exact h
theorem RMU.fr {U : Un} {μ μ' : Mu} (h : RMU U μ) (h1 : μ' 47 8 = μ 47 8) (h2 : μ' 54 = μ 54) : RMU U μ' := by unfold RMU; rw [h1, h2]; exact h
theorem RMI.fr {im : Int → Option Se} {μ μ' : Mu} (h : RMI im μ) (h1 : μ' 63 = μ 63) (h2 : μ' 64 = μ 64) : RMI im μ' := by unfold RMI; rw [h1, h2]; exact h
theorem RMN.fr {G : Hi} {N : Sn} {μ μ' : Mu} (h : RMN G N μ) (h1 : μ' 47 24 = μ 47 24) (h2 : μ' 62 = μ 62) : RMN G N μ' := by unfold RMN; rw [h1, h2]; exact h
theorem d122 {G : Hi} {T : Tx} {s : Se} {U : Un} {im : Int → Option Se} {N : Sn} {R : Po} {μ : Mu} (hrm : RM G T s U im N μ) {c : Int} (h1 : ¬ (0 ≤ c ∧ c ≤ 255) → R (some (vI (-1))) μ) (h2 : (0 ≤ c ∧ c ≤ 255) → 120 ≤ T.1 → R (some (vI (-3))) μ) (h3 : (0 ≤ c ∧ c ≤ 255) → T.1 < 120 → ∀ μ2 : Mu, RM G (T.1 + 1, up1 T.2 T.1 c) s U im N μ2 → (∀ q, q < 47 → μ2 q = μ q) → R (some (vI (T.1 + 1))) μ2) : Wp 122 0 [some (vR 47), some (vI c)] [] μ R := by
  have hg := hrm.1
  have hm := hg.1
  have h8 := hm.1.n
  have hs := hrm.2.1
  have hok := hrm.2.2.1
  have ht := hrm.2.2.2.1
  have e10 := ht.1
  have ht2 := ht.2.1
  refine seg 5 (show Wp 118 0 [some (vL c), none, some (vL 0), none, some (vL 255), none] [] μ (fun rr μ' => Wp 122 9 [some (vR 47), some (vI c)] (rr.toList ++ []) μ' R) from ?_)
  refine m118 (fun b1 => ?_) (fun b1 => ?_)
  ·
    refine seg 1 (show (¬ (1 = 0) → Wp 122 14 [some (vR 47), some (vI c)] [] μ R) ∧ (1 = 0 → Wp 122 12 [some (vR 47), some (vI c)] [] μ R) from ⟨fun _ => ?_, fun z => absurd z (by decide)⟩)
    refine seg 4 (show (¬ (μ 47 10 = 120) → Wp 122 26 [some (vR 47), some (vI c)] [] μ R) ∧ (μ 47 10 = 120 → Wp 122 23 [some (vR 47), some (vI c)] [] μ R) from ⟨fun c2 => ?_, fun c2 => ?_⟩)
    ·
      refine seg 15 (show (0 ≤ (μ 47 10) ∧ (μ 47 10) < 120) ∧ iR ((μ 47 10) + 1) ∧ R (some (vI ((μ 47 10) + 1))) (u2 (u2 μ 55 (μ 47 10) c) 47 10 ((μ 47 10) + 1)) from ⟨by omega, by omega, ?_⟩)
      obtain ⟨μ2, hμ2⟩ : ∃ z, z = u2 (u2 μ 55 (μ 47 10) c) 47 10 ((μ 47 10) + 1) := ⟨_, rfl⟩
      rw [← hμ2, e10]
      have e47 : μ2 47 = up1 (μ 47) 10 (T.1 + 1) := by rw [hμ2, u2_at, u2_ne (by decide), e10]
      have e55 : μ2 55 = up1 (μ 55) T.1 c := by rw [hμ2, u2_ne (by decide), u2_at, e10]
      have ee : ∀ q, q ≠ 47 → q ≠ 55 → μ2 q = μ q := fun q a b => by rw [hμ2, u2_ne a, u2_ne b]
      refine h3 (by omega) (by omega) μ2 (rm_mk hrm (by rw [e47, up1_n (by decide)]) (fun q a b => ee q (by omega) (by omega)) (by rw [ee 53 (by decide) (by decide)]; exact hs) hok ⟨by rw [e47, up1_s], ⟨by show 0 ≤ T.1 + 1; omega, by show T.1 + 1 ≤ 120; omega⟩, fun i a1 a2 => ?_⟩ (hrm.2.2.2.2.1.fr (by rw [e47, up1_n (by decide)]) (ee 54 (by decide) (by decide))) (hrm.2.2.2.2.2.1.fr (ee 63 (by decide) (by decide)) (ee 64 (by decide) (by decide))) (hrm.2.2.2.2.2.2.fr (by rw [e47, up1_n (by decide)]) (ee 62 (by decide) (by decide)))) (fun q hq => ee q (by omega) (by omega))
      have a2 : i < T.1 + 1 := a2
      rw [e55]
      show up1 (μ 55) T.1 c i = up1 T.2 T.1 c i ∧ 0 ≤ up1 T.2 T.1 c i ∧ up1 T.2 T.1 c i ≤ 255
      by_cases hi : i = T.1
      · subst hi; rw [up1_s, up1_s]; exact ⟨rfl, by omega, by omega⟩
      · rw [up1_n hi, up1_n hi]; exact ht.2.2 i a1 (by omega)
    ·
      refine seg 2 (show R (some (vI (-3))) μ from ?_)
      exact h2 (by omega) (by omega)
  ·
    refine seg 1 (show (¬ (0 = 0) → Wp 122 14 [some (vR 47), some (vI c)] [] μ R) ∧ (0 = 0 → Wp 122 12 [some (vR 47), some (vI c)] [] μ R) from ⟨fun z => absurd z (by decide), fun _ => ?_⟩)
    refine seg 2 (show R (some (vI (-1))) μ from ?_)
    exact h1 (by omega)
theorem d123 {G : Hi} {T : Tx} {s : Se} {U : Un} {im : Int → Option Se} {N : Sn} {R : Po} {μ : Mu} (hrm : RM G T s U im N μ) (hk : ∀ μ2 : Mu, RM G (0, T.2) s U im N μ2 → (∀ q, q < 47 → μ2 q = μ q) → R (some (vI T.1)) μ2) : Wp 123 0 [some (vR 47), none] [] μ R := by
  have hg := hrm.1
  have hm := hg.1
  have h8 := hm.1.n
  have hs := hrm.2.1
  have hok := hrm.2.2.1
  refine seg 8 (show R (some (vI (μ 47 10))) (u2 μ 47 10 0) from ?_)
  rw [hrm.2.2.2.1.1]
  exact hk _ (rm_mk hrm (by rw [u2_at, up1_n (by decide)]) (fun q a b => u2_ne (by omega)) (by rw [u2_ne (by decide)]; exact hs) hok ⟨by rw [u2_at, up1_s], ⟨Int.le_refl _, by show (0 : Int) ≤ 120; decide⟩, fun i a1 a2 => absurd (show i < 0 from a2) (by omega)⟩ (hrm.2.2.2.2.1.fr (by rw [u2_at, up1_n (by decide)]) (by rw [u2_ne (by decide)])) (hrm.2.2.2.2.2.1.fr (by rw [u2_ne (by decide)]) (by rw [u2_ne (by decide)])) (hrm.2.2.2.2.2.2.fr (by rw [u2_at, up1_n (by decide)]) (by rw [u2_ne (by decide)]))) (fun q hq => u2_ne (by omega))
theorem d156 {G : Hi} {T : Tx} {s : Se} {U : Un} {im : Int → Option Se} {N : Sn} {R : Po} {μ : Mu} (hrm : RM G T s U im N μ) (hk : ∀ μ2 : Mu, RM G T s U im (0, N.2) μ2 → (∀ q, q < 47 → μ2 q = μ q) → R (some (vI N.1)) μ2) : Wp 156 0 [some (vR 47), none] [] μ R := by
  have hg := hrm.1
  have hm := hg.1
  have h8 := hm.1.n
  have hs := hrm.2.1
  have hok := hrm.2.2.1
  refine seg 8 (show R (some (vI (μ 47 24))) (u2 μ 47 24 0) from ?_)
  rw [hrm.2.2.2.2.2.2.1]
  exact hk _ (rm_mk hrm (by rw [u2_at, up1_n (by decide)]) (fun q a b => u2_ne (by omega)) (by rw [u2_ne (by decide)]; exact hs) hok (hrm.2.2.2.1.fr (by rw [u2_at, up1_n (by decide)]) (by rw [u2_ne (by decide)])) (hrm.2.2.2.2.1.fr (by rw [u2_at, up1_n (by decide)]) (by rw [u2_ne (by decide)])) (hrm.2.2.2.2.2.1.fr (by rw [u2_ne (by decide)]) (by rw [u2_ne (by decide)])) ⟨by rw [u2_at, up1_s], ⟨Int.le_refl _, by show (0 : Int) ≤ 6; decide⟩, fun i a1 a2 => absurd (show i < 0 from a2) (by omega)⟩) (fun q hq => u2_ne (by omega))
theorem l142 {R : Po} {μ0 : Mu} (hk : ∀ (μ : Mu) (o : Option PV), (∀ q, q ≠ 54 → μ q = μ0 q) → (∀ x, μ 54 x = if 0 ≤ x ∧ x < 27 then μ0 54 (x + 3) else μ0 54 x) → Wp 142 37 [some (vR 47), o] [] μ R) : ∀ (n : Nat) (i : Int) (μ : Mu), 27 - i = n → 0 ≤ i → (∀ q, q ≠ 54 → μ q = μ0 q) → (∀ x, μ 54 x = if 0 ≤ x ∧ x < i then μ0 54 (x + 3) else μ0 54 x) → Wp 142 11 [some (vR 47), some (vI i)] [] μ R := by
  intro n
  induction n with
  | zero =>
    intro i μ hn h0 hF hA
    refine seg 3 (show (27 ≤ i → Wp 142 37 [some (vR 47), some (vI i)] [] μ R) ∧ (¬ (27 ≤ i) → Wp 142 17 [some (vR 47), some (vI i)] [] μ R) from ⟨fun c1 => ?_, fun c1 => ?_⟩)
    ·
      first | (exfalso; omega) | (obtain rfl : i = 27 := (by omega); exact hk μ _ hF hA)
    ·
      refine seg 12 (show iR (i + 3) ∧ (0 ≤ (i + 3) ∧ (i + 3) < 30) ∧ (0 ≤ i ∧ i < 30) ∧ iR (i + 1) ∧ Wp 142 11 [some (vR 47), some (vI (i + 1))] [] (u2 μ 54 i (μ 54 (i + 3))) R from ⟨by omega, by omega, by omega, by omega, ?_⟩)
      exfalso; omega
  | succ n ih =>
    intro i μ hn h0 hF hA
    refine seg 3 (show (27 ≤ i → Wp 142 37 [some (vR 47), some (vI i)] [] μ R) ∧ (¬ (27 ≤ i) → Wp 142 17 [some (vR 47), some (vI i)] [] μ R) from ⟨fun c2 => ?_, fun c2 => ?_⟩)
    ·
      first | (exfalso; omega) | (obtain rfl : i = 27 := (by omega); exact hk μ _ hF hA)
    ·
      refine seg 12 (show iR (i + 3) ∧ (0 ≤ (i + 3) ∧ (i + 3) < 30) ∧ (0 ≤ i ∧ i < 30) ∧ iR (i + 1) ∧ Wp 142 11 [some (vR 47), some (vI (i + 1))] [] (u2 μ 54 i (μ 54 (i + 3))) R from ⟨by omega, by omega, by omega, by omega, ?_⟩)
      refine ih (i + 1) _ (by omega) (by omega) (fun q hq => by rw [u2_ne hq]; exact hF q hq) (fun x => ?_)
      rw [u2_at]
      by_cases hx : x = i
      · subst hx; rw [up1_s, if_pos (by omega), hA (x + 3), if_neg (by omega)]
      · rw [up1_n hx, hA x]
        by_cases hq : 0 ≤ x ∧ x < i
        · rw [if_pos hq, if_pos (by omega)]
        · rw [if_neg hq, if_neg (by omega)]
theorem l142b {R : Po} {μ : Mu} {o : Option PV} (hb : 0 ≤ μ 47 8 ∧ μ 47 8 < 10) (hk : ∀ μ2 : Mu, (∀ q, q ≠ 54 → q ≠ 47 → μ2 q = μ q) → (∀ i, i ≠ 8 → μ2 47 i = μ 47 i) → μ2 47 8 = μ 47 8 + 1 → μ2 54 = up1 (up1 (up1 (μ 54) (3 * μ 47 8 + 0) (μ 53 0)) (3 * μ 47 8 + 1) (μ 53 1)) (3 * μ 47 8 + 2) (μ 53 2) → R none μ2) : Wp 142 47 [some (vR 47), o] [] μ R := by
  refine seg 5 (show (3 ≤ 0 → Wp 142 79 [some (vR 47), some (vI 0)] [] μ R) ∧ (¬ (3 ≤ 0) → Wp 142 54 [some (vR 47), some (vI 0)] [] μ R) from ⟨fun z => absurd z (by decide), fun _ => ?_⟩)
  refine seg 18 (show iR (3 * (μ 47 8)) ∧ iR ((3 * (μ 47 8)) + 0) ∧ (0 ≤ 0 ∧ 0 < 3) ∧ (0 ≤ ((3 * (μ 47 8)) + 0) ∧ ((3 * (μ 47 8)) + 0) < 30) ∧ iR (0 + 1) ∧ (3 ≤ 1 → Wp 142 79 [some (vR 47), some (vI 1)] [] (u2 μ 54 ((3 * (μ 47 8)) + 0) (μ 53 0)) R) ∧ (¬ (3 ≤ 1) → Wp 142 54 [some (vR 47), some (vI 1)] [] (u2 μ 54 ((3 * (μ 47 8)) + 0) (μ 53 0)) R) from ⟨by omega, by omega, by omega, by omega, by omega, fun z => absurd z (by decide), fun _ => ?_⟩)
  refine seg 18 (show iR (3 * (μ 47 8)) ∧ iR ((3 * (μ 47 8)) + 1) ∧ (0 ≤ 1 ∧ 1 < 3) ∧ (0 ≤ ((3 * (μ 47 8)) + 1) ∧ ((3 * (μ 47 8)) + 1) < 30) ∧ iR (1 + 1) ∧ (3 ≤ 2 → Wp 142 79 [some (vR 47), some (vI 2)] [] (u2 (u2 μ 54 ((3 * (μ 47 8)) + 0) (μ 53 0)) 54 ((3 * (μ 47 8)) + 1) (μ 53 1)) R) ∧ (¬ (3 ≤ 2) → Wp 142 54 [some (vR 47), some (vI 2)] [] (u2 (u2 μ 54 ((3 * (μ 47 8)) + 0) (μ 53 0)) 54 ((3 * (μ 47 8)) + 1) (μ 53 1)) R) from ⟨by omega, by omega, by omega, by omega, by omega, fun z => absurd z (by decide), fun _ => ?_⟩)
  refine seg 18 (show iR (3 * (μ 47 8)) ∧ iR ((3 * (μ 47 8)) + 2) ∧ (0 ≤ 2 ∧ 2 < 3) ∧ (0 ≤ ((3 * (μ 47 8)) + 2) ∧ ((3 * (μ 47 8)) + 2) < 30) ∧ iR (2 + 1) ∧ (3 ≤ 3 → Wp 142 79 [some (vR 47), some (vI 3)] [] (u2 (u2 (u2 μ 54 ((3 * (μ 47 8)) + 0) (μ 53 0)) 54 ((3 * (μ 47 8)) + 1) (μ 53 1)) 54 ((3 * (μ 47 8)) + 2) (μ 53 2)) R) ∧ (¬ (3 ≤ 3) → Wp 142 54 [some (vR 47), some (vI 3)] [] (u2 (u2 (u2 μ 54 ((3 * (μ 47 8)) + 0) (μ 53 0)) 54 ((3 * (μ 47 8)) + 1) (μ 53 1)) 54 ((3 * (μ 47 8)) + 2) (μ 53 2)) R) from ⟨by omega, by omega, by omega, by omega, by omega, fun _ => ?_, fun z => absurd z (by decide)⟩)
  refine seg 7 (show iR ((μ 47 8) + 1) ∧ R none (u2 (u2 (u2 (u2 μ 54 ((3 * (μ 47 8)) + 0) (μ 53 0)) 54 ((3 * (μ 47 8)) + 1) (μ 53 1)) 54 ((3 * (μ 47 8)) + 2) (μ 53 2)) 47 8 ((μ 47 8) + 1)) from ⟨by omega, ?_⟩)
  obtain ⟨μ2, hμ2⟩ : ∃ z, z = u2 (u2 (u2 (u2 μ 54 ((3 * (μ 47 8)) + 0) (μ 53 0)) 54 ((3 * (μ 47 8)) + 1) (μ 53 1)) 54 ((3 * (μ 47 8)) + 2) (μ 53 2)) 47 8 ((μ 47 8) + 1) := ⟨_, rfl⟩
  rw [← hμ2]
  have e47 : μ2 47 = up1 (μ 47) 8 (μ 47 8 + 1) := by rw [hμ2, u2_at, u2_ne (by decide), u2_ne (by decide), u2_ne (by decide)]
  have e54 : μ2 54 = up1 (up1 (up1 (μ 54) (3 * μ 47 8 + 0) (μ 53 0)) (3 * μ 47 8 + 1) (μ 53 1)) (3 * μ 47 8 + 2) (μ 53 2) := by rw [hμ2, u2_ne (by decide), u2_at, u2_at, u2_at]
  exact hk μ2 (fun q a b => by rw [hμ2, u2_ne b, u2_ne a, u2_ne a, u2_ne a]) (fun i hi => by rw [e47, up1_n hi]) (by rw [e47, up1_s]) e54
theorem n142 {U : Un} {s : Se} {R : Po} {μ : Mu} (hu : RMU U μ) (hs : SeC s (μ 53)) (hok : SeOK s) (hk : ∀ μ2 : Mu, (∀ q, q ≠ 54 → q ≠ 47 → μ2 q = μ q) → (∀ i, i ≠ 8 → μ2 47 i = μ 47 i) → RMU (adU U s) μ2 → R none μ2) : Wp 142 0 [some (vR 47), none] [] μ R := by
  have hu1 := hu.1
  have hu2 := hu.2.1
  refine seg 4 (show (¬ (μ 47 8 = 10) → Wp 142 47 [some (vR 47), none] [] μ R) ∧ (μ 47 8 = 10 → Wp 142 9 [some (vR 47), none] [] μ R) from ⟨fun c1 => ?_, fun c1 => ?_⟩)
  ·
    refine l142b (by omega) (fun μ2 f1 f2 f3 f4 => hk μ2 f1 f2 ?_)
    have hU : ¬ U.1 = 10 := by omega
    unfold adU
    rw [if_neg hU]
    refine ⟨by rw [f3, hu.1], ⟨by show 0 ≤ U.1 + 1; omega, by show U.1 + 1 ≤ 10; omega⟩, fun i a1 a2 => ?_⟩
    have a2 : i < U.1 + 1 := a2
    rw [f4, hu.1]
    show _ = (if i = U.1 then s else U.2 i).1 ∧ _ = (if i = U.1 then s else U.2 i).2.1 ∧ _ = (if i = U.1 then s else U.2 i).2.2 ∧ SeOK (if i = U.1 then s else U.2 i)
    by_cases hi : i = U.1
    · rw [if_pos hi, hi, up1_n (by omega), up1_n (by omega), up1_s, up1_n (by omega), up1_s, up1_s]
      exact ⟨hs.1, hs.2.1, hs.2.2, hok⟩
    · rw [if_neg hi, up1_n (by omega), up1_n (by omega), up1_n (by omega), up1_n (by omega), up1_n (by omega), up1_n (by omega), up1_n (by omega), up1_n (by omega), up1_n (by omega)]
      exact hu.2.2 i a1 (by omega)
  ·
    refine seg 2 (show Wp 142 11 [some (vR 47), some (vI 0)] [] μ R from ?_)
    refine l142 (fun μ1 o f1 f2 => ?_) 27 0 μ (by decide) (by decide) (fun _ _ => rfl) (fun x => by rw [if_neg (by omega)])
    have h1b : μ1 47 8 = 10 := by rw [f1 47 (by decide)]; omega
    refine seg 6 (show iR ((μ1 47 8) - 1) ∧ Wp 142 47 [some (vR 47), o] [] (u2 μ1 47 8 ((μ1 47 8) - 1)) R from ⟨by omega, ?_⟩)
    obtain ⟨μ3, hμ3⟩ : ∃ z, z = u2 μ1 47 8 ((μ1 47 8) - 1) := ⟨_, rfl⟩
    rw [← hμ3]
    have g47 : μ3 47 = up1 (μ 47) 8 9 := by rw [hμ3, u2_at, f1 47 (by decide), hu.1]; congr 1; omega
    have g : ∀ q, q ≠ 47 → μ3 q = μ1 q := fun q hq => by rw [hμ3, u2_ne hq]
    have g8 : μ3 47 8 = 9 := by rw [g47, up1_s]
    refine l142b (by omega) (fun μ2 f3 f4 f5 f6 => hk μ2 (fun q a b => by rw [f3 q a b, g q b, f1 q a]) (fun i hi => by rw [f4 i hi, g47, up1_n hi]) ?_)
    have hU : U.1 = 10 := by omega
    unfold adU
    rw [if_pos hU]
    refine ⟨by rw [f5, g8]; rfl, ⟨by show (0 : Int) ≤ 10; decide, by show (10 : Int) ≤ 10; decide⟩, fun i a1 a2 => ?_⟩
    have a2 : i < 10 := a2
    rw [f6, g8, g 54 (by decide), g 53 (by decide), f1 53 (by decide)]
    show _ = (if i = 9 then s else U.2 (i + 1)).1 ∧ _ = (if i = 9 then s else U.2 (i + 1)).2.1 ∧ _ = (if i = 9 then s else U.2 (i + 1)).2.2 ∧ SeOK (if i = 9 then s else U.2 (i + 1))
    by_cases hi : i = 9
    · rw [if_pos hi, hi, up1_n (by decide), up1_n (by decide), up1_s, up1_n (by decide), up1_s, up1_s]
      exact ⟨hs.1, hs.2.1, hs.2.2, hok⟩
    · rw [if_neg hi, up1_n (by omega), up1_n (by omega), up1_n (by omega), up1_n (by omega), up1_n (by omega), up1_n (by omega), up1_n (by omega), up1_n (by omega), up1_n (by omega), f2, f2, f2, if_pos (by omega), if_pos (by omega), if_pos (by omega)]
      have := hu.2.2 (i + 1) (by omega) (by omega)
      rw [show 3 * i + 0 + 3 = 3 * (i + 1) + 0 by omega, show 3 * i + 1 + 3 = 3 * (i + 1) + 1 by omega, show 3 * i + 2 + 3 = 3 * (i + 1) + 2 by omega]
      exact this
theorem d143 {G : Hi} {T : Tx} {s : Se} {U : Un} {im : Int → Option Se} {N : Sn} {R : Po} {μ : Mu} (hrm : RM G T s U im N μ) {n : Int} (h1 : ¬ (0 ≤ n ∧ n ≤ 4) → R (some (vI (-1))) μ) (h2 : (0 ≤ n ∧ n ≤ 4) → s.1 = n → R (some (vI (-2))) μ) (h3 : (0 ≤ n ∧ n ≤ 4) → s.1 ≠ n → ∀ μ2 : Mu, RM G T (n, s.2) (adU U s) im N μ2 → (∀ q, q < 47 → μ2 q = μ q) → R (some (vI s.1)) μ2) : Wp 143 0 [some (vR 47), some (vI n), none] [] μ R := by
  have hg := hrm.1
  have hm := hg.1
  have h8 := hm.1.n
  have hs := hrm.2.1
  have hok := hrm.2.2.1
  refine seg 5 (show Wp 118 0 [some (vL n), none, some (vL 0), none, some (vL 4), none] [] μ (fun rr μ' => Wp 143 9 [some (vR 47), some (vI n), none] (rr.toList ++ []) μ' R) from ?_)
  refine m118 (fun b1 => ?_) (fun b1 => ?_)
  ·
    refine seg 1 (show (¬ (1 = 0) → Wp 143 14 [some (vR 47), some (vI n), none] [] μ R) ∧ (1 = 0 → Wp 143 12 [some (vR 47), some (vI n), none] [] μ R) from ⟨fun _ => ?_, fun z => absurd z (by decide)⟩)
    refine seg 6 (show (0 ≤ 0 ∧ 0 < 3) ∧ (¬ (μ 53 0 = n) → Wp 143 27 [some (vR 47), some (vI n), none] [] μ R) ∧ (μ 53 0 = n → Wp 143 24 [some (vR 47), some (vI n), none] [] μ R) from ⟨by omega, fun c2 => ?_, fun c2 => ?_⟩)
    ·
      refine seg 2 (show Wp 142 0 [some (vR 47), none] [] μ (fun rr μ' => Wp 143 31 [some (vR 47), some (vI n), none] (rr.toList ++ []) μ' R) from ?_)
      refine n142 hrm.2.2.2.2.1 hs hok (fun μ1 f1 f2 u1 => ?_)
      have e53 := f1 53 (by decide) (by decide)
      refine seg 12 (show (0 ≤ 0 ∧ 0 < 3) ∧ (0 ≤ 0 ∧ 0 < 3) ∧ R (some (vI (μ1 53 0))) (u2 μ1 53 0 n) from ⟨by omega, by omega, ?_⟩)
      obtain ⟨μ2, hμ2⟩ : ∃ z, z = u2 μ1 53 0 n := ⟨_, rfl⟩
      rw [← hμ2]
      have ee : ∀ q, q ≠ 53 → μ2 q = μ1 q := fun q a => by rw [hμ2, u2_ne a]
      have hs2 : SeC (n, s.2) (μ2 53) := by
        rw [hμ2, u2_at, e53]
        refine ⟨?_, ?_, ?_⟩ <;> first | (rw [up1_s]; done) | (rw [up1_s]; rfl) | (rw [up1_s]; show _ = xr _ _; unfold xr; first | rw [hs.2.1] | rw [hs.2.2]) | (rw [up1_n (by decide)]; first | exact hs.1 | exact hs.2.1 | exact hs.2.2)
      have hrm2 : RM G T (n, s.2) (adU U s) im N μ2 := rm_mk hrm (by rw [ee 47 (by decide), f2 0 (by decide)]) (fun q a b => by rw [ee q (by omega), f1 q (by omega) (by omega)]) hs2 (⟨by show 0 ≤ n ∧ n ≤ 4; omega, hok.2⟩) (hrm.2.2.2.1.fr (by rw [ee 47 (by decide), f2 10 (by decide)]) (by rw [ee 55 (by decide), f1 55 (by decide) (by decide)])) (u1.fr (by rw [ee 47 (by decide)]) (ee 54 (by decide))) (hrm.2.2.2.2.2.1.fr (by rw [ee 63 (by decide), f1 63 (by decide) (by decide)]) (by rw [ee 64 (by decide), f1 64 (by decide) (by decide)])) (hrm.2.2.2.2.2.2.fr (by rw [ee 47 (by decide), f2 24 (by decide)]) (by rw [ee 62 (by decide), f1 62 (by decide) (by decide)]))
      have fr2 : ∀ q, q < 47 → μ2 q = μ q := fun q hq => by rw [ee q (by omega), f1 q (by omega) (by omega)]
      rw [e53, hs.1]
      exact h3 (by omega) (by rw [← hs.1]; assumption) μ2 hrm2 fr2
    ·
      refine seg 2 (show R (some (vI (-2))) μ from ?_)
      exact h2 (by omega) (by rw [← hs.1]; assumption)
  ·
    refine seg 1 (show (¬ (0 = 0) → Wp 143 14 [some (vR 47), some (vI n), none] [] μ R) ∧ (0 = 0 → Wp 143 12 [some (vR 47), some (vI n), none] [] μ R) from ⟨fun z => absurd z (by decide), fun _ => ?_⟩)
    refine seg 2 (show R (some (vI (-1))) μ from ?_)
    exact h1 (by omega)
theorem d144 {G : Hi} {T : Tx} {s : Se} {U : Un} {im : Int → Option Se} {N : Sn} {R : Po} {μ : Mu} (hrm : RM G T s U im N μ) {r : Int} (h1 : ¬ (0 ≤ r ∧ r < hN G) → R (some (vI (-1))) μ) (h3 : (0 ≤ r ∧ r < hN G) → ∀ μ2 : Mu, RM G T (tP s r) (adU U s) im N μ2 → (∀ q, q < 47 → μ2 q = μ q) → R (some (vI (if tb (tP s r).2.1 r then 1 else 0))) μ2) : Wp 144 0 [some (vR 47), some (vI r)] [] μ R := by
  have hg := hrm.1
  have hm := hg.1
  have h8 := hm.1.n
  have hs := hrm.2.1
  have hok := hrm.2.2.1
  have b1 := hok.2.1
  have b2 := hok.2.2
  rw [← hs.2.1] at b1
  rw [← hs.2.2] at b2
  refine seg 3 (show Wp 120 0 [some (vR 47), some (vI r)] [] μ (fun rr μ' => Wp 144 5 [some (vR 47), some (vI r)] (rr.toList ++ []) μ' R) from ?_)
  refine n120 hm (fun b1 => ?_) (fun b1 => ?_)
  ·
    refine seg 1 (show (¬ (1 = 0) → Wp 144 10 [some (vR 47), some (vI r)] [] μ R) ∧ (1 = 0 → Wp 144 8 [some (vR 47), some (vI r)] [] μ R) from ⟨fun _ => ?_, fun z => absurd z (by decide)⟩)
    refine seg 2 (show Wp 142 0 [some (vR 47), none] [] μ (fun rr μ' => Wp 144 14 [some (vR 47), some (vI r)] (rr.toList ++ []) μ' R) from ?_)
    refine n142 hrm.2.2.2.2.1 hs hok (fun μ1 f1 f2 u1 => ?_)
    have e53 := f1 53 (by decide) (by decide)
    refine seg 16 (show (0 ≤ 1 ∧ 1 < 3) ∧ (0 ≤ 1 ∧ 0 ≤ r ∧ r < 31 ∧ 1 * 2 ^ (r : Int).toNat ≤ 2147483647) ∧ (0 ≤ (μ1 53 1) ∧ 0 ≤ (1 * 2 ^ (r : Int).toNat)) ∧ (0 ≤ 1 ∧ 1 < 3) ∧ (0 ≤ 1 ∧ 1 < 3) ∧ Wp 119 0 [some (vI ((Int.toNat (μ1 53 1) ^^^ Int.toNat (1 * 2 ^ (r : Int).toNat) : Nat) : Int)), some (vI r)] [] (u2 μ1 53 1 ((Int.toNat (μ1 53 1) ^^^ Int.toNat (1 * 2 ^ (r : Int).toNat) : Nat) : Int)) (fun rr μ' => Wp 144 36 [some (vR 47), some (vI r)] (rr.toList ++ []) μ' R) from ⟨by first | omega | (rw [e53]; have := pw_le (k := r) (by omega); omega) | (have := pw_le (k := r) (by omega); omega), by first | omega | (rw [e53]; have := pw_le (k := r) (by omega); omega) | (have := pw_le (k := r) (by omega); omega), by first | omega | (rw [e53]; have := pw_le (k := r) (by omega); omega) | (have := pw_le (k := r) (by omega); omega), by first | omega | (rw [e53]; have := pw_le (k := r) (by omega); omega) | (have := pw_le (k := r) (by omega); omega), by first | omega | (rw [e53]; have := pw_le (k := r) (by omega); omega) | (have := pw_le (k := r) (by omega); omega), ?_⟩)
    obtain ⟨μ2, hμ2⟩ : ∃ z, z = u2 μ1 53 1 ((Int.toNat (μ1 53 1) ^^^ Int.toNat (1 * 2 ^ (r : Int).toNat) : Nat) : Int) := ⟨_, rfl⟩
    rw [← hμ2]
    have ee : ∀ q, q ≠ 53 → μ2 q = μ1 q := fun q a => by rw [hμ2, u2_ne a]
    have hs2 : SeC (tP s r) (μ2 53) := by
      rw [hμ2, u2_at, e53]
      refine ⟨?_, ?_, ?_⟩ <;> first | (rw [up1_s]; done) | (rw [up1_s]; rfl) | (rw [up1_s]; show _ = xr _ _; unfold xr; first | rw [hs.2.1] | rw [hs.2.2]) | (rw [up1_n (by decide)]; first | exact hs.1 | exact hs.2.1 | exact hs.2.2)
    have hrm2 : RM G T (tP s r) (adU U s) im N μ2 := rm_mk hrm (by rw [ee 47 (by decide), f2 0 (by decide)]) (fun q a b => by rw [ee q (by omega), f1 q (by omega) (by omega)]) hs2 (tP_ok hok (by omega)) (hrm.2.2.2.1.fr (by rw [ee 47 (by decide), f2 10 (by decide)]) (by rw [ee 55 (by decide), f1 55 (by decide) (by decide)])) (u1.fr (by rw [ee 47 (by decide)]) (ee 54 (by decide))) (hrm.2.2.2.2.2.1.fr (by rw [ee 63 (by decide), f1 63 (by decide) (by decide)]) (by rw [ee 64 (by decide), f1 64 (by decide) (by decide)])) (hrm.2.2.2.2.2.2.fr (by rw [ee 47 (by decide), f2 24 (by decide)]) (by rw [ee 62 (by decide), f1 62 (by decide) (by decide)]))
    have fr2 : ∀ q, q < 47 → μ2 q = μ q := fun q hq => by rw [ee q (by omega), f1 q (by omega) (by omega)]
    have ex : ((Int.toNat (μ1 53 1) ^^^ Int.toNat (1 * 2 ^ (r : Int).toNat) : Nat) : Int) = (tP s r).2.1 := by
      have := hs2.2.1
      rw [hμ2] at this
      rw [u2_at, up1_s] at this
      exact this
    rw [ex]
    refine m119 (by have := hrm2.2.2.1.2.1; omega) (by omega) (fun b9 => ?_) (fun b9 => ?_)
    ·
      refine seg 1 (show (1 = 0 → Wp 144 43 [some (vR 47), some (vI r)] [] μ2 R) ∧ (¬ (1 = 0) → Wp 144 39 [some (vR 47), some (vI r)] [] μ2 R) from ⟨fun z => absurd z (by decide), fun _ => ?_⟩)
      refine seg 3 (show R (some (vI 1)) μ2 from ?_)
      have := h3 (by omega) μ2 hrm2 fr2
      first | rw [if_pos b9] at this | rw [if_neg b9] at this
      exact this
    ·
      refine seg 1 (show (0 = 0 → Wp 144 43 [some (vR 47), some (vI r)] [] μ2 R) ∧ (¬ (0 = 0) → Wp 144 39 [some (vR 47), some (vI r)] [] μ2 R) from ⟨fun _ => ?_, fun z => absurd z (by decide)⟩)
      refine seg 2 (show R (some (vI 0)) μ2 from ?_)
      have := h3 (by omega) μ2 hrm2 fr2
      first | rw [if_pos b9] at this | rw [if_neg b9] at this
      exact this
  ·
    refine seg 1 (show (¬ (0 = 0) → Wp 144 10 [some (vR 47), some (vI r)] [] μ R) ∧ (0 = 0 → Wp 144 8 [some (vR 47), some (vI r)] [] μ R) from ⟨fun z => absurd z (by decide), fun _ => ?_⟩)
    refine seg 2 (show R (some (vI (-1))) μ from ?_)
    exact h1 (by omega)
theorem d145 {G : Hi} {T : Tx} {s : Se} {U : Un} {im : Int → Option Se} {N : Sn} {R : Po} {μ : Mu} (hrm : RM G T s U im N μ) {r : Int} (h1 : ¬ (0 ≤ r ∧ r < 4) → R (some (vI (-1))) μ) (h3 : (0 ≤ r ∧ r < 4) → ∀ μ2 : Mu, RM G T (tR s r) (adU U s) im N μ2 → (∀ q, q < 47 → μ2 q = μ q) → R (some (vI (if tb (tR s r).2.2 r then 1 else 0))) μ2) : Wp 145 0 [some (vR 47), some (vI r)] [] μ R := by
  have hg := hrm.1
  have hm := hg.1
  have h8 := hm.1.n
  have hs := hrm.2.1
  have hok := hrm.2.2.1
  have b1 := hok.2.1
  have b2 := hok.2.2
  rw [← hs.2.1] at b1
  rw [← hs.2.2] at b2
  refine seg 5 (show Wp 118 0 [some (vL r), none, some (vL 0), none, some (vL 3), none] [] μ (fun rr μ' => Wp 145 9 [some (vR 47), some (vI r)] (rr.toList ++ []) μ' R) from ?_)
  refine m118 (fun b1 => ?_) (fun b1 => ?_)
  ·
    refine seg 1 (show (¬ (1 = 0) → Wp 145 14 [some (vR 47), some (vI r)] [] μ R) ∧ (1 = 0 → Wp 145 12 [some (vR 47), some (vI r)] [] μ R) from ⟨fun _ => ?_, fun z => absurd z (by decide)⟩)
    refine seg 2 (show Wp 142 0 [some (vR 47), none] [] μ (fun rr μ' => Wp 145 18 [some (vR 47), some (vI r)] (rr.toList ++ []) μ' R) from ?_)
    refine n142 hrm.2.2.2.2.1 hs hok (fun μ1 f1 f2 u1 => ?_)
    have e53 := f1 53 (by decide) (by decide)
    refine seg 16 (show (0 ≤ 2 ∧ 2 < 3) ∧ (0 ≤ 1 ∧ 0 ≤ r ∧ r < 31 ∧ 1 * 2 ^ (r : Int).toNat ≤ 2147483647) ∧ (0 ≤ (μ1 53 2) ∧ 0 ≤ (1 * 2 ^ (r : Int).toNat)) ∧ (0 ≤ 2 ∧ 2 < 3) ∧ (0 ≤ 2 ∧ 2 < 3) ∧ Wp 119 0 [some (vI ((Int.toNat (μ1 53 2) ^^^ Int.toNat (1 * 2 ^ (r : Int).toNat) : Nat) : Int)), some (vI r)] [] (u2 μ1 53 2 ((Int.toNat (μ1 53 2) ^^^ Int.toNat (1 * 2 ^ (r : Int).toNat) : Nat) : Int)) (fun rr μ' => Wp 145 40 [some (vR 47), some (vI r)] (rr.toList ++ []) μ' R) from ⟨by first | omega | (rw [e53]; have := pw_le (k := r) (by omega); omega) | (have := pw_le (k := r) (by omega); omega), by first | omega | (rw [e53]; have := pw_le (k := r) (by omega); omega) | (have := pw_le (k := r) (by omega); omega), by first | omega | (rw [e53]; have := pw_le (k := r) (by omega); omega) | (have := pw_le (k := r) (by omega); omega), by first | omega | (rw [e53]; have := pw_le (k := r) (by omega); omega) | (have := pw_le (k := r) (by omega); omega), by first | omega | (rw [e53]; have := pw_le (k := r) (by omega); omega) | (have := pw_le (k := r) (by omega); omega), ?_⟩)
    obtain ⟨μ2, hμ2⟩ : ∃ z, z = u2 μ1 53 2 ((Int.toNat (μ1 53 2) ^^^ Int.toNat (1 * 2 ^ (r : Int).toNat) : Nat) : Int) := ⟨_, rfl⟩
    rw [← hμ2]
    have ee : ∀ q, q ≠ 53 → μ2 q = μ1 q := fun q a => by rw [hμ2, u2_ne a]
    have hs2 : SeC (tR s r) (μ2 53) := by
      rw [hμ2, u2_at, e53]
      refine ⟨?_, ?_, ?_⟩ <;> first | (rw [up1_s]; done) | (rw [up1_s]; rfl) | (rw [up1_s]; show _ = xr _ _; unfold xr; first | rw [hs.2.1] | rw [hs.2.2]) | (rw [up1_n (by decide)]; first | exact hs.1 | exact hs.2.1 | exact hs.2.2)
    have hrm2 : RM G T (tR s r) (adU U s) im N μ2 := rm_mk hrm (by rw [ee 47 (by decide), f2 0 (by decide)]) (fun q a b => by rw [ee q (by omega), f1 q (by omega) (by omega)]) hs2 (tR_ok hok (by omega)) (hrm.2.2.2.1.fr (by rw [ee 47 (by decide), f2 10 (by decide)]) (by rw [ee 55 (by decide), f1 55 (by decide) (by decide)])) (u1.fr (by rw [ee 47 (by decide)]) (ee 54 (by decide))) (hrm.2.2.2.2.2.1.fr (by rw [ee 63 (by decide), f1 63 (by decide) (by decide)]) (by rw [ee 64 (by decide), f1 64 (by decide) (by decide)])) (hrm.2.2.2.2.2.2.fr (by rw [ee 47 (by decide), f2 24 (by decide)]) (by rw [ee 62 (by decide), f1 62 (by decide) (by decide)]))
    have fr2 : ∀ q, q < 47 → μ2 q = μ q := fun q hq => by rw [ee q (by omega), f1 q (by omega) (by omega)]
    have ex : ((Int.toNat (μ1 53 2) ^^^ Int.toNat (1 * 2 ^ (r : Int).toNat) : Nat) : Int) = (tR s r).2.2 := by
      have := hs2.2.2
      rw [hμ2] at this
      rw [u2_at, up1_s] at this
      exact this
    rw [ex]
    refine m119 (by have := hrm2.2.2.1.2.2; omega) (by omega) (fun b9 => ?_) (fun b9 => ?_)
    ·
      refine seg 1 (show (1 = 0 → Wp 145 47 [some (vR 47), some (vI r)] [] μ2 R) ∧ (¬ (1 = 0) → Wp 145 43 [some (vR 47), some (vI r)] [] μ2 R) from ⟨fun z => absurd z (by decide), fun _ => ?_⟩)
      refine seg 3 (show R (some (vI 1)) μ2 from ?_)
      have := h3 (by omega) μ2 hrm2 fr2
      first | rw [if_pos b9] at this | rw [if_neg b9] at this
      exact this
    ·
      refine seg 1 (show (0 = 0 → Wp 145 47 [some (vR 47), some (vI r)] [] μ2 R) ∧ (¬ (0 = 0) → Wp 145 43 [some (vR 47), some (vI r)] [] μ2 R) from ⟨fun _ => ?_, fun z => absurd z (by decide)⟩)
      refine seg 2 (show R (some (vI 0)) μ2 from ?_)
      have := h3 (by omega) μ2 hrm2 fr2
      first | rw [if_pos b9] at this | rw [if_neg b9] at this
      exact this
  ·
    refine seg 1 (show (¬ (0 = 0) → Wp 145 14 [some (vR 47), some (vI r)] [] μ R) ∧ (0 = 0 → Wp 145 12 [some (vR 47), some (vI r)] [] μ R) from ⟨fun z => absurd z (by decide), fun _ => ?_⟩)
    refine seg 2 (show R (some (vI (-1))) μ from ?_)
    exact h1 (by omega)
