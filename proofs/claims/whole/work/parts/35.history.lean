/-! the class's history -/
def D0 : Hi := (0, fun _ => 0, fun _ _ => 0, fun _ _ => 0)
theorem stD_ok {T : Tx} {i q q2 : Int} {D D2 : Hi} (hd : DOK q D) (h : stD T i q D = some (q2, D2)) : DOK q2 D2 ∧ ¬ (dg T (i + 1) ∧ dg T i) := by
  unfold stD at h
  split at h
  · split at h
    · rename_i a b
      obtain ⟨rfl, rfl⟩ : 1 = q2 ∧ bgD D = D2 := by
        have := Option.some.inj h; exact ⟨congrArg Prod.fst this, congrArg Prod.snd this⟩
      rw [b.1] at hd
      exact ⟨dok_bg hd b.2, by omega⟩
    · exact absurd h (by simp)
  · split at h
    · split at h
      · rename_i a b
        obtain ⟨rfl, rfl⟩ : 2 = q2 ∧ D = D2 := by
          have := Option.some.inj h; exact ⟨congrArg Prod.fst this, congrArg Prod.snd this⟩
        rw [b] at hd
        exact ⟨dok_co hd, by omega⟩
      · exact absurd h (by simp)
    · split at h
      · split at h
        · rename_i a b
          obtain ⟨rfl, rfl⟩ : 0 = q2 ∧ enD D = D2 := by
            have := Option.some.inj h; exact ⟨congrArg Prod.fst this, congrArg Prod.snd this⟩
          rw [b] at hd
          exact ⟨dok_en hd, by omega⟩
        · exact absurd h (by simp)
      · split at h
        · split at h
          · rename_i a b
            obtain ⟨rfl, rfl⟩ : 2 = q2 ∧ lnD D (T.2 i) = D2 := by
              have := Option.some.inj h; exact ⟨congrArg Prod.fst this, congrArg Prod.snd this⟩
            rw [b.1] at hd
            exact ⟨dok_ln hd b.2, by omega⟩
          · exact absurd h (by simp)
        · split at h
          · rename_i a
            have e := a.1
            rw [e] at hd
            split at h
            · obtain ⟨rfl, rfl⟩ : 1 = q2 ∧ paD D 0 (T.2 i - 48) = D2 := by
                have := Option.some.inj h; exact ⟨congrArg Prod.fst this, congrArg Prod.snd this⟩
              exact ⟨dok_pa hd (by omega) (Or.inl rfl), fun z => a.2.2.1 z.1⟩
            · rename_i b
              split at h
              · obtain ⟨rfl, rfl⟩ : 1 = q2 ∧ paD D 1 (T.2 i - 48) = D2 := by
                  have := Option.some.inj h; exact ⟨congrArg Prod.fst this, congrArg Prod.snd this⟩
                exact ⟨dok_pa hd (by omega) (Or.inr ⟨rfl, b⟩), fun z => a.2.2.1 z.1⟩
              · exact absurd h (by simp)
          · exact absurd h (by simp)
theorem l36 {T : Tx} {R : Po} {μ0 : Mu} {ρ : Int ⊕ Hi} (ht0 : RT T μ0) (hf : ∀ f, ρ = .inl f → (0 ≤ f ∧ f ≤ T.1) → ∀ μ2 : Mu, (∀ x, (x < 3 ∨ 8 ≤ x) → μ2 x = μ0 x) → R (some (vI f)) μ2) (hs : ∀ D2, ρ = .inr D2 → DOK 0 D2 → ∀ μ2 : Mu, (∀ x, (x < 3 ∨ 8 ≤ x) → μ2 x = μ0 x) → DC 0 D2 μ2 → R (some (vI (-1))) μ2) : ∀ (n : Nat) (i q : Int) (D : Hi) (μ : Mu), T.1 - i = n → 0 ≤ i → ¬ (dg T i ∧ dg T (i - 1)) → DOK q D → DC q D μ → (∀ x, (x < 3 ∨ 8 ≤ x) → μ x = μ0 x) → prs T i q D = ρ → Wp 36 11 [some (vR 3), some (vR 1), some (vR 4), some (vI i)] [] μ R := by
  intro n
  induction n with
  | zero =>
    intro i q D μ hn h0 hg hd hc hF hp
    have ht : RT T μ := ht0.fr (hF 1 (by omega)) (hF 2 (by omega))
    have e1 := ht.2.1
    have e3 := hc.1
    refine seg 3 (show Wp 75 0 [some (vR 1)] [] μ (fun rr μ' => Wp 36 16 [some (vR 3), some (vR 1), some (vR 4), some (vI i)] (rr.toList ++ [vI i]) μ' R) from ?_)
    refine k75 ht ?_
    refine seg 1 (show (T.1 ≤ i → Wp 36 45 [some (vR 3), some (vR 1), some (vR 4), some (vI i)] [] μ R) ∧ (¬ (T.1 ≤ i) → Wp 36 19 [some (vR 3), some (vR 1), some (vR 4), some (vI i)] [] μ R) from ⟨fun c1 => ?_, fun c1 => ?_⟩)
    ·
      refine seg 3 (show (¬ (μ 3 0 = 0) → Wp 36 56 [some (vR 3), some (vR 1), some (vR 4), some (vI i)] [] μ R) ∧ (μ 3 0 = 0 → Wp 36 52 [some (vR 3), some (vR 1), some (vR 4), some (vI i)] [] μ R) from ⟨fun c2 => ?_, fun c2 => ?_⟩)
      ·
        refine seg 2 (show Wp 75 0 [some (vR 1)] [] μ (fun rr μ' => Wp 36 60 [some (vR 3), some (vR 1), some (vR 4), some (vI i)] (rr.toList ++ []) μ' R) from ?_)
        refine k75 ht ?_
        refine seg 1 (show R (some (vI T.1)) μ from ?_)
        first | (exfalso; omega) | exact hf T.1 (by rw [← hp, prs_e (by omega), if_neg (by omega)]) (by omega) μ hF
      ·
        refine seg 3 (show R (some (vI (-1))) μ from ?_)
        first | (exfalso; omega) | (obtain rfl : q = 0 := (by omega); exact hs D (by rw [← hp, prs_e (by omega), if_pos rfl]) hd μ hF hc)
    ·
      refine seg 3 (show Wp 37 0 [some (vR 1), some (vI i)] [] μ (fun rr μ' => Wp 36 24 [some (vR 3), some (vR 1), some (vR 4), some (vI i)] (rr.toList ++ []) μ' R) from ?_)
      exfalso; omega
  | succ n ih =>
    intro i q D μ hn h0 hg hd hc hF hp
    have ht : RT T μ := ht0.fr (hF 1 (by omega)) (hF 2 (by omega))
    have e1 := ht.2.1
    have e3 := hc.1
    refine seg 3 (show Wp 75 0 [some (vR 1)] [] μ (fun rr μ' => Wp 36 16 [some (vR 3), some (vR 1), some (vR 4), some (vI i)] (rr.toList ++ [vI i]) μ' R) from ?_)
    refine k75 ht ?_
    refine seg 1 (show (T.1 ≤ i → Wp 36 45 [some (vR 3), some (vR 1), some (vR 4), some (vI i)] [] μ R) ∧ (¬ (T.1 ≤ i) → Wp 36 19 [some (vR 3), some (vR 1), some (vR 4), some (vI i)] [] μ R) from ⟨fun c3 => ?_, fun c3 => ?_⟩)
    ·
      refine seg 3 (show (¬ (μ 3 0 = 0) → Wp 36 56 [some (vR 3), some (vR 1), some (vR 4), some (vI i)] [] μ R) ∧ (μ 3 0 = 0 → Wp 36 52 [some (vR 3), some (vR 1), some (vR 4), some (vI i)] [] μ R) from ⟨fun c4 => ?_, fun c4 => ?_⟩)
      ·
        refine seg 2 (show Wp 75 0 [some (vR 1)] [] μ (fun rr μ' => Wp 36 60 [some (vR 3), some (vR 1), some (vR 4), some (vI i)] (rr.toList ++ []) μ' R) from ?_)
        refine k75 ht ?_
        refine seg 1 (show R (some (vI T.1)) μ from ?_)
        first | (exfalso; omega) | exact hf T.1 (by rw [← hp, prs_e (by omega), if_neg (by omega)]) (by omega) μ hF
      ·
        refine seg 3 (show R (some (vI (-1))) μ from ?_)
        first | (exfalso; omega) | (obtain rfl : q = 0 := (by omega); exact hs D (by rw [← hp, prs_e (by omega), if_pos rfl]) hd μ hF hc)
    ·
      refine seg 3 (show Wp 37 0 [some (vR 1), some (vI i)] [] μ (fun rr μ' => Wp 36 24 [some (vR 3), some (vR 1), some (vR 4), some (vI i)] (rr.toList ++ []) μ' R) from ?_)
      refine s37 ht (by omega) hg (fun b5 => ?_) (fun b5 => ?_)
      ·
        refine seg 1 (show (1 = 0 → Wp 36 39 [some (vR 3), some (vR 1), some (vR 4), some (vI i)] [] μ R) ∧ (¬ (1 = 0) → Wp 36 27 [some (vR 3), some (vR 1), some (vR 4), some (vI i)] [] μ R) from ⟨fun z => absurd z (by decide), fun _ => ?_⟩)
        refine seg 5 (show Wp 38 0 [some (vR 3), some (vR 1), some (vI i), some (vR 4), none] [] μ (fun rr μ' => Wp 36 34 [some (vR 3), some (vR 1), some (vR 4), some (vI i)] (rr.toList ++ []) μ' R) from ?_)
        refine s38 ht (by omega) hd hc (fun q2 D2 y2 μ2 f2 d2 => ?_) (fun y2 => ?_)
        ·
          rw [prs_y (by omega) (by assumption) y2] at hp
          refine seg 1 (show (¬ (1 = 0) → Wp 36 39 [some (vR 3), some (vR 1), some (vR 4), some (vI i)] [] μ2 R) ∧ (1 = 0 → Wp 36 37 [some (vR 3), some (vR 1), some (vR 4), some (vI i)] [] μ2 R) from ⟨fun _ => ?_, fun z => absurd z (by decide)⟩)
          refine seg 2 (show iR (i + 1) ∧ Wp 36 11 [some (vR 3), some (vR 1), some (vR 4), some (vI (i + 1))] [] μ2 R from ⟨by omega, ?_⟩)
          exact ih (i + 1) q2 D2 μ2 (by omega) (by omega) (by rw [show i + 1 - 1 = i by omega]; exact (stD_ok hd y2).2) (stD_ok hd y2).1 d2 (fun x hx => by rw [f2 x hx, hF x hx]) hp
        ·
          rw [prs_n (by omega) (by assumption) y2] at hp
          refine seg 1 (show (¬ (0 = 0) → Wp 36 39 [some (vR 3), some (vR 1), some (vR 4), some (vI i)] [] μ R) ∧ (0 = 0 → Wp 36 37 [some (vR 3), some (vR 1), some (vR 4), some (vI i)] [] μ R) from ⟨fun z => absurd z (by decide), fun _ => ?_⟩)
          refine seg 2 (show R (some (vI i)) μ from ?_)
          exact hf i hp.symm (by omega) μ hF
      ·
        rw [prs_s (by omega) b5] at hp
        refine seg 1 (show (0 = 0 → Wp 36 39 [some (vR 3), some (vR 1), some (vR 4), some (vI i)] [] μ R) ∧ (¬ (0 = 0) → Wp 36 27 [some (vR 3), some (vR 1), some (vR 4), some (vI i)] [] μ R) from ⟨fun _ => ?_, fun z => absurd z (by decide)⟩)
        refine seg 2 (show iR (i + 1) ∧ Wp 36 11 [some (vR 3), some (vR 1), some (vR 4), some (vI (i + 1))] [] μ R from ⟨by omega, ?_⟩)
        exact ih (i + 1) q D μ (by omega) (by omega) (by rw [show i + 1 - 1 = i by omega]; omega) hd hc hF hp
theorem s36 {T : Tx} {R : Po} {μ : Mu} {ρ : Int ⊕ Hi} (ht : RT T μ) (hp : prs T 0 0 D0 = ρ) (hf : ∀ f, ρ = .inl f → (0 ≤ f ∧ f ≤ T.1) → ∀ μ2 : Mu, (∀ x, (x < 3 ∨ 8 ≤ x) → μ2 x = μ x) → R (some (vI f)) μ2) (hs : ∀ D2, ρ = .inr D2 → DOK 0 D2 → ∀ μ2 : Mu, (∀ x, (x < 3 ∨ 8 ≤ x) → μ2 x = μ x) → DC 0 D2 μ2 → R (some (vI (-1))) μ2) : Wp 36 0 [some (vR 3), some (vR 1), some (vR 4), none] [] μ R := by
  refine seg 5 (show Wp 50 0 [some (vR 4)] [] (u2 μ 3 0 0) (fun rr μ' => Wp 36 9 [some (vR 3), some (vR 1), some (vR 4), none] (rr.toList ++ []) μ' R) from ?_)
  refine s50_4 ?_
  refine seg 2 (show Wp 36 11 [some (vR 3), some (vR 1), some (vR 4), some (vI 0)] [] (u2 (u2 μ 3 0 0) 4 0 0) R from ?_)
  have hF : ∀ x, (x < 3 ∨ 8 ≤ x) → (u2 (u2 μ 3 0 0) 4 0 0) x = μ x := fun x hx => by rw [u2_ne (by omega), u2_ne (by omega)]
  exact l36 (μ0 := μ) ht hf hs T.1.toNat 0 0 D0 _ (by have := ht.2.1; omega) (by decide) (fun z => absurd z.2.1.1 (by decide)) ⟨⟨by decide, by decide⟩, Or.inl rfl, fun r a b => by exfalso; change r < 0 ∨ ((0 : Int) ≠ 0 ∧ r = 0) at b; omega⟩ ⟨by rw [u2_ne (by decide), u2_at, up1_s], by rw [u2_at, up1_s]; rfl, fun r a b => by exfalso; change r < 0 ∨ ((0 : Int) ≠ 0 ∧ r = 0) at b; omega⟩ hF hp
theorem s55 {μ : Mu} {R : Po} (h : R none (cpM (cpM (cpM (u2 μ 8 0 (μ 4 0)) 5 9 0 0 16) 6 10 0 0 8) 7 11 0 0 64)) : Wp 55 0 [some (vR 8), some (vR 4)] [] μ R := by
  refine seg 29 (show ((0 ≤ 0 ∧ 0 ≤ 0 ∧ 0 ≤ 16 ∧ 0 + 16 ≤ 16 ∧ 0 + 16 ≤ 16) ∧ 0 ≤ 4) ∧ ((0 ≤ 0 ∧ 0 ≤ 0 ∧ 0 ≤ 8 ∧ 0 + 8 ≤ 8 ∧ 0 + 8 ≤ 8) ∧ 0 ≤ 4) ∧ ((0 ≤ 0 ∧ 0 ≤ 0 ∧ 0 ≤ 64 ∧ 0 + 64 ≤ 64 ∧ 0 + 64 ≤ 64) ∧ 0 ≤ 4) ∧ R none (cpM (cpM (cpM (u2 μ 8 0 (μ 4 0)) 5 9 0 0 16) 6 10 0 0 8) 7 11 0 0 64) from ⟨by decide, by decide, by decide, ?_⟩)
  first | exact h | (exfalso; omega)
theorem cpM_n {μ : Mu} {p q z : Nat} {a b n : Int} (h : z ≠ q) : cpM μ p q a b n z = μ z := if_neg h
theorem cpM_i {μ : Mu} {p q : Nat} {n j : Int} (h : 0 ≤ j ∧ j < n) : cpM μ p q 0 0 n q j = μ p j := by
  unfold cpM
  rw [if_pos rfl]
  show (if 0 ≤ j ∧ j < 0 + n then _ else _) = _
  rw [if_pos (by omega), show (0 : Int) + (j - 0) = j by omega]
theorem gc_cp {D : Hi} {μ : Mu} (hd : DOK 0 D) (hc : DC 0 D μ) : GC D (cpM (cpM (cpM (u2 μ 8 0 (μ 4 0)) 5 9 0 0 16) 6 10 0 0 8) 7 11 0 0 64) := by
  have h8 := hd.1
  refine ⟨dok_hi hd, ?_, fun r a b => ?_⟩
  · rw [cpM_n (by decide), cpM_n (by decide), cpM_n (by decide), u2_at, up1_s]; exact hc.2.1
  · have hb := (hd.2.2 r a (Or.inl b)).1
    obtain ⟨z1, z2, z3, z4⟩ := hc.2.2 r a (Or.inl b)
    rw [cpM_n (show 10 ≠ 11 by decide), cpM_i (show 0 ≤ r ∧ r < 8 by omega), cpM_n (show 6 ≠ 9 by decide), u2_ne (by decide), cpM_n (show 9 ≠ 11 by decide), cpM_n (show 9 ≠ 10 by decide), cpM_i (show 0 ≤ r * 2 + 0 ∧ r * 2 + 0 < 16 by omega), cpM_i (show 0 ≤ r * 2 + 1 ∧ r * 2 + 1 < 16 by omega), u2_ne (by decide)]
    refine ⟨z1, z2, z3, fun k k1 k2 => ?_⟩
    rw [cpM_i (show 0 ≤ r * 8 + k ∧ r * 8 + k < 64 by omega), cpM_n (by decide), cpM_n (by decide), u2_ne (by decide)]
    exact z4 k k1 k2
theorem c90 {G : Hi} {T : Tx} {s : Se} {U : Un} {im : Int → Option Se} {N : Sn} {R : Po} {μ : Mu} (hrc : RC G T s U im N μ) (hf : ∀ f, prs T 0 0 D0 = .inl f → ∀ μ2 : Mu, RC G T s U im N μ2 → (∀ q, 47 ≤ q → μ2 q = μ q) → R (some (vI (-10 - f))) μ2) (hs : ∀ D, prs T 0 0 D0 = .inr D → HiOK D → ∀ μ2 : Mu, RC D (0, T.2) (2, 0, 15) (0, U.2) (fun _ => none) (0, N.2) μ2 → (∀ q, 47 ≤ q → μ2 q = μ q) → R (some (vI (hN D))) μ2) : Wp 90 0 [some (vR 0), none, none] [] μ R := by
  have ht := hrc.2.1
  have ht2 := ht.2.1
  refine seg 7 (show Wp 36 0 [some (vR 3), some (vR 1), some (vR 4), none] [] μ (fun rr μ' => Wp 90 15 [some (vR 0), none, none] (rr.toList ++ []) μ' R) from ?_)
  refine s36 (ρ := prs T 0 0 D0) hrc.2.1 rfl (fun f p1 p2 μ1 f1 => ?_) (fun D p1 hd μ1 f1 hc => ?_)
  ·
    refine seg 4 (show (f = -1 → Wp 90 26 [some (vR 0), some (vI f), none] [] μ1 R) ∧ (¬ (f = -1) → Wp 90 21 [some (vR 0), some (vI f), none] [] μ1 R) from ⟨fun c1 => ?_, fun c1 => ?_⟩)
    ·
      refine seg 5 (show Wp 55 0 [some (vR 8), some (vR 4)] [] μ1 (fun rr μ' => Wp 90 37 [some (vR 0), some (vI f), none] (rr.toList ++ []) μ' R) from ?_)
      exfalso; omega
    ·
      refine seg 4 (show iR ((-10) - f) ∧ R (some (vI ((-10) - f))) μ1 from ⟨by omega, ?_⟩)
      refine hf f p1 μ1 ⟨hrc.1.fr (fun q a b _ => f1 q (by omega)), hrc.2.1.fr (f1 1 (by omega)) (f1 2 (by omega)), hrc.2.2.1.fr (f1 40 (by omega)) (f1 41 (by omega)), hrc.2.2.2.1.fr (f1 46 (by omega)), hrc.2.2.2.2.fr (f1 42 (by omega)) (f1 43 (by omega)) (f1 44 (by omega)) (f1 45 (by omega))⟩ (fun q hq => f1 q (by omega))
  ·
    refine seg 4 (show (-1 = -1 → Wp 90 26 [some (vR 0), some (vI (-1)), none] [] μ1 R) ∧ (¬ (-1 = -1) → Wp 90 21 [some (vR 0), some (vI (-1)), none] [] μ1 R) from ⟨fun _ => ?_, fun z => absurd z (by decide)⟩)
    refine seg 5 (show Wp 55 0 [some (vR 8), some (vR 4)] [] μ1 (fun rr μ' => Wp 90 37 [some (vR 0), some (vI (-1)), none] (rr.toList ++ []) μ' R) from ?_)
    refine s55 ?_
    obtain ⟨μ2, hμ2⟩ : ∃ z, z = cpM (cpM (cpM (u2 μ1 8 0 (μ1 4 0)) 5 9 0 0 16) 6 10 0 0 8) 7 11 0 0 64 := ⟨_, rfl⟩
    rw [← hμ2]
    have hgc : GC D μ2 := by rw [hμ2]; exact gc_cp hd hc
    have f2 : ∀ x, (x < 3 ∨ 12 ≤ x) → μ2 x = μ x := fun x hx => by rw [hμ2, cpM_n (by omega), cpM_n (by omega), cpM_n (by omega), u2_ne (by omega), f1 x (by omega)]
    refine seg 5 (show Wp 30 0 [some (vR 12), some (vR 8)] [] μ2 (fun rr μ' => Wp 90 48 [some (vR 0), some (vI (-1)), none] (rr.toList ++ []) μ' R) from ?_)
    refine s30 hgc (by rw [f2 13 (by omega)]; exact hrc.1.2.2.2.2.1) (by rw [f2 19 (by omega)]; exact hrc.1.2.2.2.2.2) (fun μ3 f3 hg3 => ?_)
    refine seg 3 (show Wp 77 0 [some (vR 1)] [] μ3 (fun rr μ' => Wp 90 55 [some (vR 0), some (vI (-1)), none] (rr.toList ++ []) μ' R) from ?_)
    refine s77 ?_
    refine seg 3 (show Wp 57 0 [some (vR 30)] [] (u2 μ3 1 1 0) (fun rr μ' => Wp 90 62 [some (vR 0), some (vI (-1)), none] (rr.toList ++ []) μ' R) from ?_)
    refine s57_30 ?_
    refine seg 3 (show Wp 2 0 [some (vR 40)] [] (u2 (u2 (u2 (u2 μ3 1 1 0) 30 0 2) 30 1 0) 30 2 15) (fun rr μ' => Wp 90 69 [some (vR 0), some (vI (-1)), none] (rr.toList ++ []) μ' R) from ?_)
    refine s2 ?_
    refine seg 3 (show Wp 71 0 [some (vR 42)] [] (u2 (u2 (u2 (u2 (u2 μ3 1 1 0) 30 0 2) 30 1 0) 30 2 15) 40 1 0) (fun rr μ' => Wp 90 76 [some (vR 0), some (vI (-1)), none] (rr.toList ++ []) μ' R) from ?_)
    refine s71 ?_
    refine seg 5 (show (2 ≤ 0 → Wp 90 97 [some (vR 0), some (vI (-1)), some (vI 0)] [] (u2 (u2 (u2 (u2 (u2 (u2 μ3 1 1 0) 30 0 2) 30 1 0) 30 2 15) 40 1 0) 42 3 0) R) ∧ (¬ (2 ≤ 0) → Wp 90 83 [some (vR 0), some (vI (-1)), some (vI 0)] [] (u2 (u2 (u2 (u2 (u2 (u2 μ3 1 1 0) 30 0 2) 30 1 0) 30 2 15) 40 1 0) 42 3 0) R) from ⟨fun z => absurd z (by decide), fun _ => ?_⟩)
    refine seg 10 (show (0 ≤ 0 ∧ 0 < 2) ∧ iR (0 + 1) ∧ (2 ≤ 1 → Wp 90 97 [some (vR 0), some (vI (-1)), some (vI 1)] [] (u2 (u2 (u2 (u2 (u2 (u2 (u2 μ3 1 1 0) 30 0 2) 30 1 0) 30 2 15) 40 1 0) 42 3 0) 46 0 (-9)) R) ∧ (¬ (2 ≤ 1) → Wp 90 83 [some (vR 0), some (vI (-1)), some (vI 1)] [] (u2 (u2 (u2 (u2 (u2 (u2 (u2 μ3 1 1 0) 30 0 2) 30 1 0) 30 2 15) 40 1 0) 42 3 0) 46 0 (-9)) R) from ⟨by omega, by omega, fun z => absurd z (by decide), fun _ => ?_⟩)
    refine seg 10 (show (0 ≤ 1 ∧ 1 < 2) ∧ iR (1 + 1) ∧ (2 ≤ 2 → Wp 90 97 [some (vR 0), some (vI (-1)), some (vI 2)] [] (u2 (u2 (u2 (u2 (u2 (u2 (u2 (u2 μ3 1 1 0) 30 0 2) 30 1 0) 30 2 15) 40 1 0) 42 3 0) 46 0 (-9)) 46 1 (-9)) R) ∧ (¬ (2 ≤ 2) → Wp 90 83 [some (vR 0), some (vI (-1)), some (vI 2)] [] (u2 (u2 (u2 (u2 (u2 (u2 (u2 (u2 μ3 1 1 0) 30 0 2) 30 1 0) 30 2 15) 40 1 0) 42 3 0) 46 0 (-9)) 46 1 (-9)) R) from ⟨by omega, by omega, fun _ => ?_, fun z => absurd z (by decide)⟩)
    refine seg 2 (show Wp 110 0 [some (vR 0)] [] (u2 (u2 (u2 (u2 (u2 (u2 (u2 (u2 μ3 1 1 0) 30 0 2) 30 1 0) 30 2 15) 40 1 0) 42 3 0) 46 0 (-9)) 46 1 (-9)) (fun rr μ' => Wp 90 101 [some (vR 0), some (vI (-1)), some (vI 2)] (rr.toList ++ []) μ' R) from ?_)
    obtain ⟨μ4, hμ4⟩ : ∃ z, z = u2 (u2 (u2 (u2 (u2 (u2 (u2 (u2 μ3 1 1 0) 30 0 2) 30 1 0) 30 2 15) 40 1 0) 42 3 0) 46 0 (-9)) 46 1 (-9) := ⟨_, rfl⟩
    rw [← hμ4]
    have f4 : ∀ x, x ≠ 1 → x ≠ 30 → x ≠ 40 → x ≠ 42 → x ≠ 46 → μ4 x = μ3 x := fun x a1 a2 a3 a4 a5 => by rw [hμ4, u2_ne (by omega), u2_ne (by omega), u2_ne (by omega), u2_ne (by omega), u2_ne (by omega), u2_ne (by omega), u2_ne (by omega), u2_ne (by omega)]
    have s4 : SeC (2, 0, 15) (μ4 30) := by
      rw [hμ4, u2_ne (by decide), u2_ne (by decide), u2_ne (by decide), u2_ne (by decide), u2_at, u2_at, u2_at]
      exact ⟨rfl, rfl, rfl⟩
    have t4 : μ4 1 1 = 0 := by rw [hμ4, u2_ne (by decide), u2_ne (by decide), u2_ne (by decide), u2_ne (by decide), u2_ne (by decide), u2_ne (by decide), u2_ne (by decide), u2_at, up1_s]
    have v4 : μ4 40 1 = 0 := by rw [hμ4, u2_ne (by decide), u2_ne (by decide), u2_ne (by decide), u2_at, up1_s]
    have w4 : μ4 42 3 = 0 := by rw [hμ4, u2_ne (by decide), u2_ne (by decide), u2_at, up1_s]
    have i4 : μ4 46 = up1 (up1 (μ3 46) 0 (-9)) 1 (-9) := by rw [hμ4, u2_at, u2_at, u2_ne (by decide), u2_ne (by decide), u2_ne (by decide), u2_ne (by decide), u2_ne (by decide), u2_ne (by decide)]
    have hok4 : SeOK (2, 0, 15) := ⟨⟨by decide, by decide⟩, ⟨by decide, by decide⟩, ⟨by decide, by decide⟩⟩
    refine s110 (s := (2, 0, 15)) (hg3.fr (fun q a b => f4 q (by omega) (by omega) (by omega) (by omega) (by omega))) s4 hok4 (fun μ5 f5 t5 => ?_)
    have hg5 : PG D μ5 := hg3.fr (fun q a b => by rw [f5 q (by omega) (by omega) (by omega), f4 q (by omega) (by omega) (by omega) (by omega) (by omega)])
    have hrc5 : RC D (0, T.2) (2, 0, 15) (0, U.2) (fun _ => none) (0, N.2) μ5 := by
      refine ⟨⟨hg5, by rw [f5 30 (by decide) (by decide) (by decide)]; exact s4, hok4, t5, ?_, ?_⟩, ⟨by rw [f5 1 (by decide) (by decide) (by decide)]; exact t4, ⟨Int.le_refl _, by show (0 : Int) ≤ 120; decide⟩, fun i a1 a2 => absurd (show i < 0 from a2) (by omega)⟩, ⟨by rw [f5 40 (by decide) (by decide) (by decide)]; exact v4, ⟨Int.le_refl _, by show (0 : Int) ≤ 10; decide⟩, fun i a1 a2 => absurd (show i < 0 from a2) (by omega)⟩, fun i a1 a2 => ?_, ⟨by rw [f5 42 (by decide) (by decide) (by decide)]; exact w4, ⟨Int.le_refl _, by show (0 : Int) ≤ 6; decide⟩, fun i a1 a2 => absurd (show i < 0 from a2) (by omega)⟩⟩
      · rw [f5 13 (by decide) (by decide) (by decide), f4 13 (by decide) (by decide) (by decide) (by decide) (by decide), f3 13 (by omega), f2 13 (by omega)]; exact hrc.1.2.2.2.2.1
      · rw [f5 19 (by decide) (by decide) (by decide), f4 19 (by decide) (by decide) (by decide) (by decide) (by decide), f3 19 (by omega), f2 19 (by omega)]; exact hrc.1.2.2.2.2.2
      · show μ5 46 i = -9
        rw [f5 46 (by decide) (by decide) (by decide), i4]
        by_cases h1 : i = 1
        · rw [h1, up1_s]
        · rw [up1_n h1, show i = 0 by omega, up1_s]
    have hf5 : ∀ q, 47 ≤ q → μ5 q = μ q := fun q hq => by rw [f5 q (by omega) (by omega) (by omega), f4 q (by omega) (by omega) (by omega) (by omega) (by omega), f3 q (by omega), f2 q (by omega)]
    refine seg 3 (show Wp 43 0 [some (vR 8)] [] μ5 (fun rr μ' => Wp 90 108 [some (vR 0), some (vI (-1)), some (vI 2)] (rr.toList ++ []) μ' R) from ?_)
    refine s43_8 ?_
    rw [hg5.1.2.1]
    refine seg 1 (show R (some (vI (hN D))) μ5 from ?_)
    exact hs D p1 (dok_hi hd) μ5 hrc5 hf5
