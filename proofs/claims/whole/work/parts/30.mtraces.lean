/-! what the rules give, and traces, in the model -/
theorem gv_np {G : Hi} (hG : HiOK G) {s : Se} {rule r k : Int} (hr : 0 ≤ r ∧ r < hN G) (h : hP G r 0 < 0) : gv G s rule r k = -9 := by
  have p0 := hG.p (r := r) (w := 0) hr (by decide)
  unfold PaOK at p0
  have p1 := (hG.2.2 r hr.1 hr.2).2.2.2 (by omega)
  unfold gv
  split
  · rw [if_pos (pr_no h)]
  · split
    · rw [if_pos (pr_no (by omega))]
    · split
      · rw [if_pos (Or.inl h)]
      · rw [if_pos (Or.inl h)]
def GM (G : Hi) (s : Se) (rule r k v : Int) : Prop := (v = -9 ∧ gv G s rule r k = -9) ∨ ((0 ≤ v ∧ v < 16) ∧ gv G s rule r k = hP G r (v / 8) * 8 + v % 8 ∧ 0 ≤ gv G s rule r k)
theorem gm0 {G : Hi} {s : Se} {rule r k v : Int} (hp : 0 ≤ hP G r 0) (hv : v = -9 ∨ (0 ≤ v ∧ v < 8)) (h : gv G s rule r k = if v = -9 then -9 else hP G r 0 * 8 + v) : GM G s rule r k v := by
  by_cases hq : v = -9
  · rw [if_pos hq] at h; exact Or.inl ⟨hq, h⟩
  · rw [if_neg hq] at h
    refine Or.inr ⟨by omega, ?_, by omega⟩
    rw [h, show v / 8 = 0 by omega, show v % 8 = v by omega]
theorem n136 {G : Hi} {R : Po} {μ : Mu} {s : Se} {rule r k : Int} (hg : MG G μ) (hs : SeC s (μ 53)) (hok : SeOK s) (hr : 0 ≤ r ∧ r < hN G) (hk8 : 0 ≤ k ∧ k < hS G r) (hu : 0 ≤ rule ∧ rule < 4) (hk : ∀ v, GM G s rule r k v → R (some (vI v)) μ) : Wp 136 0 [some (vR 47), some (vI rule), some (vI r), some (vI k)] [] μ R := by
  have hm := hg.1
  have hq := hg.2 r hr.1 hr.2
  have h8 := hm.1.n
  have hsr := hm.1.s hr
  have ew := (hm.2.2 r hr.1 hr.2).2.1
  have ew1 := (hm.2.2 r hr.1 hr.2).2.2.1
  have p0 := hm.1.p (r := r) (w := 0) hr (by decide)
  have p1 := hm.1.p (r := r) (w := 1) hr (by decide)
  unfold PaOK at p0 p1
  have q0 := pr_rg G r 0 k
  have q1 := pr_rg G r 1 k
  have t0 : 0 ≤ hP G r 0 → hS G (hP G r 0) ≤ 8 := fun z => (hm.1.s (r := hP G r 0) (by omega)).2
  have t1 : 0 ≤ hP G r 1 → hS G (hP G r 1) ≤ 8 := fun z => (hm.1.s (r := hP G r 1) (by omega)).2
  have q1b : pr G r 1 k < 8 := by
    by_cases hz : hP G r 1 < 0
    · rw [pr_no hz]; decide
    · have := t1 (by omega); omega
  refine seg 7 (show iR (2 * r) ∧ (0 ≤ (2 * r) ∧ (2 * r) < 16) ∧ (0 ≤ μ 49 (2 * r) → Wp 136 14 [some (vR 47), some (vI rule), some (vI r), some (vI k)] [] μ R) ∧ (¬ (0 ≤ μ 49 (2 * r)) → Wp 136 11 [some (vR 47), some (vI rule), some (vI r), some (vI k)] [] μ R) from ⟨by omega, by omega, fun c1 => ?_, fun c1 => ?_⟩)
  ·
    refine seg 2 (show (∀ j : Nat, j < 3 → rule = 0 + (j : Int) → Wp 136 ([81, 40, 48, 74].getD (1 + j) 0) [some (vR 47), some (vI rule), some (vI r), some (vI k)] [] μ R) ∧ (rule < 0 ∨ 2 < rule → Wp 136 81 [some (vR 47), some (vI rule), some (vI r), some (vI k)] [] μ R) from ⟨fun j hj c2 => ?_, fun c2 => ?_⟩)
    ·
      rcases (show j = 0 ∨ j = 1 ∨ j = 2 by omega) with rfl | rfl | rfl
      ·
        refine seg 5 (show Wp 132 0 [some (vR 47), some (vI r), some (vI k), some (vI 0)] [] μ (fun rr μ' => Wp 136 47 [some (vR 47), some (vI rule), some (vI r), some (vI k)] (rr.toList ++ []) μ' R) from ?_)
        refine n132 hq (by omega) (by omega) ?_
        refine seg 1 (show R (some (vI (pr G r 0 k))) μ from ?_)
        obtain rfl : rule = 0 := by omega
        exact hk _ (gm0 (by omega) (by omega) (by unfold gv; rw [if_pos rfl]))
      ·
        refine seg 5 (show Wp 132 0 [some (vR 47), some (vI r), some (vI k), some (vI 1)] [] μ (fun rr μ' => Wp 136 55 [some (vR 47), some (vI rule), some (vI r), some (vI k)] (rr.toList ++ []) μ' R) from ?_)
        refine n132w hq (by omega) (by omega) ?_
        refine seg 1 (show (0 ≤ pr G r 1 k → Wp 136 63 [some (vR 47), some (vI rule), some (vI r), some (vI k)] [] μ R) ∧ (¬ (0 ≤ pr G r 1 k) → Wp 136 58 [some (vR 47), some (vI rule), some (vI r), some (vI k)] [] μ R) from ⟨fun c3 => ?_, fun c3 => ?_⟩)
        ·
          refine seg 6 (show Wp 132 0 [some (vR 47), some (vI r), some (vI k), some (vI 1)] [] μ (fun rr μ' => Wp 136 72 [some (vR 47), some (vI rule), some (vI r), some (vI k)] (rr.toList ++ [vI 8]) μ' R) from ?_)
          refine n132w hq (by omega) (by omega) ?_
          refine seg 2 (show iR (8 + (pr G r 1 k)) ∧ R (some (vI (8 + (pr G r 1 k)))) μ from ⟨by omega, ?_⟩)
          obtain rfl : rule = 1 := by omega
          have hp1 : 0 ≤ hP G r 1 := by
            rcases p1 with z | z
            · exact absurd (pr_no (G := G) (r := r) (w := 1) (k := k) (by omega)) (by omega)
            · omega
          have ht := t1 hp1
          have e : gv G s 1 r k = hP G r 1 * 8 + pr G r 1 k := by unfold gv; rw [if_neg (by decide), if_pos rfl, if_neg (by omega)]
          exact hk _ (Or.inr ⟨by omega, by rw [e, show (8 + pr G r 1 k) / 8 = 1 by omega, show (8 + pr G r 1 k) % 8 = pr G r 1 k by omega], by omega⟩)
        ·
          refine seg 3 (show R (some (vI (-9))) μ from ?_)
          first
          | exact hk _ (Or.inl ⟨rfl, gv_np hm.1 hr (by omega)⟩)
          | (obtain rfl : rule = 1 := (by omega)
             exact hk _ (Or.inl ⟨rfl, by unfold gv; rw [if_neg (by decide), if_pos rfl, if_pos (by omega)]⟩))
      ·
        refine seg 4 (show Wp 134 0 [some (vR 47), some (vI r), some (vI k), none, none, none, none, none, none] [] μ (fun rr μ' => Wp 136 80 [some (vR 47), some (vI rule), some (vI r), some (vI k)] (rr.toList ++ []) μ' R) from ?_)
        refine n134 hg hr (by omega) hs hok hk8 ?_
        refine seg 1 (show R (some (vI (mvB G s r k))) μ from ?_)
        obtain rfl : rule = 2 := by omega
        have hv := mvB_rg (G := G) (s := s) (r := r) (k := k) (fun z => (hm.1.s (r := hP G r 0) (by omega)).1)
        exact hk _ (gm0 (by omega) (by have := t0 (by omega); omega) (by unfold gv; rw [if_neg (by decide), if_neg (by decide), if_pos rfl]; by_cases hz : mvB G s r k = -9; rw [if_pos (Or.inr hz), if_pos hz]; rw [if_neg (by omega), if_neg hz]))
    ·
      refine seg 4 (show Wp 135 0 [some (vR 47), some (vI r), some (vI k), none, none, none, none, none, none] [] μ (fun rr μ' => Wp 136 87 [some (vR 47), some (vI rule), some (vI r), some (vI k)] (rr.toList ++ []) μ' R) from ?_)
      refine n135 hg hr (by omega) hs hok hk8 ?_
      refine seg 1 (show R (some (vI (if tb s.2.1 r then gp G r k.toNat else -9))) μ from ?_)
      obtain rfl : rule = 3 := by omega
      have hv := gp_rg (G := G) (r := r) (k := k.toNat) (t0 (by omega))
      have ht := t0 (by omega)
      refine hk _ (gm0 (by omega) ?_ ?_)
      · split <;> omega
      · unfold gv
        rw [if_neg (by decide), if_neg (by decide), if_neg (by decide)]
        by_cases hb : tb s.2.1 r
        · rw [if_pos hb]
          by_cases hz : gp G r k.toNat = -9
          · rw [if_pos (Or.inr (Or.inr hz)), if_pos hz]
          · rw [if_neg (fun z => by rcases z with z | z | z; omega; exact z hb; exact hz z), if_neg hz]
        · rw [if_neg hb, if_pos (Or.inr (Or.inl hb)), if_pos rfl]
  ·
    refine seg 2 (show R (some (vI (-9))) μ from ?_)
    first
    | exact hk _ (Or.inl ⟨rfl, gv_np hm.1 hr (by omega)⟩)
    | (obtain rfl : rule = 1 := (by omega)
       exact hk _ (Or.inl ⟨rfl, by unfold gv; rw [if_neg (by decide), if_pos rfl, if_pos (by omega)]⟩))
theorem n137 {G : Hi} {R : Po} {μ : Mu} {s : Se} {rule r k v : Int} (hg : MG G μ) (hr : 0 ≤ r ∧ r < hN G) (hv : GM G s rule r k v) (hk : R (some (vI (gv G s rule r k))) μ) : Wp 137 0 [some (vR 47), some (vI r), some (vI v)] [] μ R := by
  have h8 := hg.1.1.n
  have hvb : v = -9 ∨ (0 ≤ v ∧ v < 16) := by
    rcases hv with z | z
    · exact Or.inl z.1
    · exact Or.inr z.1
  have hpb : 0 ≤ v → -9 ≤ μ 49 (2 * r + v / 8) ∧ μ 49 (2 * r + v / 8) ≤ 8 := fun z => by
    have ew := hg.1.w (r := r) (w := v / 8) hr (by omega)
    have p0 := hg.1.1.p (r := r) (w := v / 8) hr (by omega)
    unfold PaOK at p0
    rw [ew]; omega
  refine seg 2 (show (0 ≤ v → Wp 137 9 [some (vR 47), some (vI r), some (vI v)] [] μ R) ∧ (¬ (0 ≤ v) → Wp 137 4 [some (vR 47), some (vI r), some (vI v)] [] μ R) from ⟨fun c1 => ?_, fun c1 => ?_⟩)
  ·
    refine seg 17 (show iR (2 * r) ∧ (0 ≤ v ∧ 0 < 8) ∧ iR ((2 * r) + (v / 8)) ∧ (0 ≤ ((2 * r) + (v / 8)) ∧ ((2 * r) + (v / 8)) < 16) ∧ iR (8 * (μ 49 ((2 * r) + (v / 8)))) ∧ (0 ≤ v ∧ 0 < 8) ∧ iR ((8 * (μ 49 ((2 * r) + (v / 8)))) + (v % 8)) ∧ R (some (vI ((8 * (μ 49 ((2 * r) + (v / 8)))) + (v % 8)))) μ from ⟨by omega, by omega, by omega, by omega, by omega, by omega, by omega, ?_⟩)
    rcases hv with ⟨z1, z2⟩ | ⟨z1, z2, z3⟩
    · first | (rw [z2] at hk; exact hk) | (exfalso; omega)
    · first | (exfalso; omega) | (have ew := hg.1.w (r := r) (w := v / 8) hr (by omega); rw [ew, show 8 * hP G r (v / 8) + v % 8 = gv G s rule r k by omega]; exact hk)
  ·
    refine seg 3 (show R (some (vI (-9))) μ from ?_)
    rcases hv with ⟨z1, z2⟩ | ⟨z1, z2, z3⟩
    · first | (rw [z2] at hk; exact hk) | (exfalso; omega)
    · first | (exfalso; omega) | (have ew := hg.1.w (r := r) (w := v / 8) hr (by omega); rw [ew, show 8 * hP G r (v / 8) + v % 8 = gv G s rule r k by omega]; exact hk)
theorem l138 {G : Hi} {R : Po} {μ : Mu} {s : Se} {r k : Int} (hg : MG G μ) (hs : SeC s (μ 53)) (hok : SeOK s) (hr : 0 ≤ r ∧ r < hN G) (hk8 : 0 ≤ k ∧ k < hS G r) (hk : R (some (vI (ru G s r k))) μ) : ∀ (n : Nat) (j : Int), 4 - j = n → 0 ≤ j → ru G s r k = ruF G s r k n j → Wp 138 2 [some (vR 47), some (vI r), some (vI k), some (vI j)] [] μ R := by
  intro n
  induction n with
  | zero =>
    intro j hn h0 hu
    refine seg 3 (show (4 ≤ j → Wp 138 38 [some (vR 47), some (vI r), some (vI k), some (vI j)] [] μ R) ∧ (¬ (4 ≤ j) → Wp 138 7 [some (vR 47), some (vI r), some (vI k), some (vI j)] [] μ R) from ⟨fun c1 => ?_, fun c1 => ?_⟩)
    ·
      refine seg 2 (show R (some (vI (-9))) μ from ?_)
      first | (exfalso; omega) | (rw [hu] at hk; exact hk)
    ·
      refine seg 6 (show (0 ≤ 2 ∧ 2 < 3) ∧ Wp 119 0 [some (vI (μ 53 2)), some (vI j)] [] μ (fun rr μ' => Wp 138 17 [some (vR 47), some (vI r), some (vI k), some (vI j)] (rr.toList ++ []) μ' R) from ⟨by omega, ?_⟩)
      exfalso; omega
  | succ n ih =>
    intro j hn h0 hu
    rw [ruF] at hu
    refine seg 3 (show (4 ≤ j → Wp 138 38 [some (vR 47), some (vI r), some (vI k), some (vI j)] [] μ R) ∧ (¬ (4 ≤ j) → Wp 138 7 [some (vR 47), some (vI r), some (vI k), some (vI j)] [] μ R) from ⟨fun c2 => ?_, fun c2 => ?_⟩)
    ·
      refine seg 2 (show R (some (vI (-9))) μ from ?_)
      first | (exfalso; omega) | (rw [if_pos ⟨by rw [← hs.2.2]; assumption, by omega⟩] at hu; rw [hu] at hk; exact hk)
    ·
      refine seg 6 (show (0 ≤ 2 ∧ 2 < 3) ∧ Wp 119 0 [some (vI (μ 53 2)), some (vI j)] [] μ (fun rr μ' => Wp 138 17 [some (vR 47), some (vI r), some (vI k), some (vI j)] (rr.toList ++ []) μ' R) from ⟨by omega, ?_⟩)
      refine m119 (by rw [hs.2.2]; exact hok.2.2.1) (by omega) (fun b3 => ?_) (fun b3 => ?_)
      ·
        refine seg 1 (show (1 = 0 → Wp 138 32 [some (vR 47), some (vI r), some (vI k), some (vI j)] [] μ R) ∧ (¬ (1 = 0) → Wp 138 20 [some (vR 47), some (vI r), some (vI k), some (vI j)] [] μ R) from ⟨fun z => absurd z (by decide), fun _ => ?_⟩)
        refine seg 5 (show Wp 136 0 [some (vR 47), some (vI j), some (vI r), some (vI k)] [] μ (fun rr μ' => Wp 138 27 [some (vR 47), some (vI r), some (vI k), some (vI j)] (rr.toList ++ []) μ' R) from ?_)
        refine n136 hg hs hok hr hk8 (by omega) (fun v hv => ?_)
        have hvs : (v = -9 ∧ gv G s j r k = -9) ∨ (0 ≤ v ∧ 0 ≤ gv G s j r k) := by
          rcases hv with z | z
          · exact Or.inl z
          · exact Or.inr ⟨z.1.1, z.2.2⟩
        refine seg 1 (show (v < 0 → Wp 138 32 [some (vR 47), some (vI r), some (vI k), some (vI j)] [] μ R) ∧ (¬ (v < 0) → Wp 138 30 [some (vR 47), some (vI r), some (vI k), some (vI j)] [] μ R) from ⟨fun c4 => ?_, fun c4 => ?_⟩)
        ·
          refine seg 2 (show iR (j + 1) ∧ Wp 138 2 [some (vR 47), some (vI r), some (vI k), some (vI (j + 1))] [] μ R from ⟨by omega, ?_⟩)
          rw [if_neg (fun z => by first | exact absurd z.1 (by rw [← hs.2.2]; assumption) | (have := z.2; omega))] at hu
          exact ih (j + 1) (by omega) (by omega) hu
        ·
          refine seg 2 (show R (some (vI j)) μ from ?_)
          first | (exfalso; omega) | (rw [if_pos ⟨by rw [← hs.2.2]; assumption, by omega⟩] at hu; rw [hu] at hk; exact hk)
      ·
        refine seg 1 (show (0 = 0 → Wp 138 32 [some (vR 47), some (vI r), some (vI k), some (vI j)] [] μ R) ∧ (¬ (0 = 0) → Wp 138 20 [some (vR 47), some (vI r), some (vI k), some (vI j)] [] μ R) from ⟨fun _ => ?_, fun z => absurd z (by decide)⟩)
        refine seg 2 (show iR (j + 1) ∧ Wp 138 2 [some (vR 47), some (vI r), some (vI k), some (vI (j + 1))] [] μ R from ⟨by omega, ?_⟩)
        rw [if_neg (fun z => by first | exact absurd z.1 (by rw [← hs.2.2]; assumption) | (have := z.2; omega))] at hu
        exact ih (j + 1) (by omega) (by omega) hu
theorem n138 {G : Hi} {R : Po} {μ : Mu} {s : Se} {r k : Int} (hg : MG G μ) (hs : SeC s (μ 53)) (hok : SeOK s) (hr : 0 ≤ r ∧ r < hN G) (hk8 : 0 ≤ k ∧ k < hS G r) (hk : R (some (vI (ru G s r k))) μ) : Wp 138 0 [some (vR 47), some (vI r), some (vI k), none] [] μ R := by
  refine seg 2 (show Wp 138 2 [some (vR 47), some (vI r), some (vI k), some (vI 0)] [] μ R from ?_)
  exact l138 hg hs hok hr hk8 hk 4 0 (by decide) (by decide) rfl
def TrM (G : Hi) (s : Se) (A B : Int → Int) (r k : Int) : Prop := A (8 * r + k) = (og G s r k).1 ∧ B (8 * r + k) = (og G s r k).2
theorem l139a {G : Hi} {s : Se} {R : Po} {μ0 : Mu} (hg0 : MG G μ0) (hs0 : SeC s (μ0 53)) (hok : SeOK s) {r : Int} (hr : 0 ≤ r ∧ r < hN G) (hk : ∀ (μ : Mu) (o2 o3 o4 : Option PV), (∀ q, q ≠ 60 → q ≠ 61 → μ q = μ0 q) → (∀ r2 k2, 0 ≤ r2 → r2 < r + 1 → 0 ≤ k2 → k2 < hS G r2 → TrM G s (μ 60) (μ 61) r2 k2) → Wp 139 117 [some (vR 47), some (vI r), o2, o3, o4] [] μ R) : ∀ (n : Nat) (k : Int) (μ : Mu) (o3 o4 : Option PV), hS G r - k = n → 0 ≤ k → (∀ q, q ≠ 60 → q ≠ 61 → μ q = μ0 q) → (∀ r2 k2, 0 ≤ r2 → r2 < r → 0 ≤ k2 → k2 < hS G r2 → TrM G s (μ 60) (μ 61) r2 k2) → (∀ k2, 0 ≤ k2 → k2 < k → TrM G s (μ 60) (μ 61) r k2) → Wp 139 12 [some (vR 47), some (vI r), some (vI k), o3, o4] [] μ R := by
  intro n
  induction n with
  | zero =>
    intro k μ o3 o4 hn h0 hF hA hB
    have hg := hg0.fr (μ' := μ) (by rw [hF 47 (by decide) (by decide)]) (hF 48 (by decide) (by decide)) (hF 49 (by decide) (by decide)) (hF 50 (by decide) (by decide)) (hF 51 (by decide) (by decide)) (hF 52 (by decide) (by decide))
    have hs : SeC s (μ 53) := by rw [hF 53 (by decide) (by decide)]; exact hs0
    have hm := hg.1
    have h8 := hm.1.n
    have e0 := hm.2.1
    have hsr := hm.1.s hr
    have er := (hm.2.2 r hr.1 hr.2).1
    refine seg 6 (show (0 ≤ r ∧ r < 8) ∧ (μ 48 r ≤ k → Wp 139 117 [some (vR 47), some (vI r), some (vI k), o3, o4] [] μ R) ∧ (¬ (μ 48 r ≤ k) → Wp 139 22 [some (vR 47), some (vI r), some (vI k), o3, o4] [] μ R) from ⟨by first | omega | (have := hpar (by omega); have := og_lt hm.1 s (r := gv G s (ru G s r k) r k / 8) (k := gv G s (ru G s r k) r k % 8) (by omega) (by omega); first | omega | (rw [u2_ne (by decide)]; omega)), fun c1 => ?_, fun c1 => ?_⟩)
    ·
      first
      | (exfalso; omega)
      | (refine hk μ _ _ _ hF (fun r2 k2 a1 a2 a3 a4 => ?_)
         by_cases hz : r2 = r
         · subst hz; exact hB k2 a3 (by omega)
         · exact hA r2 k2 a1 (by omega) a3 a4)
    ·
      refine seg 4 (show Wp 138 0 [some (vR 47), some (vI r), some (vI k), none] [] μ (fun rr μ' => Wp 139 28 [some (vR 47), some (vI r), some (vI k), o3, o4] (rr.toList ++ []) μ' R) from ?_)
      exfalso; omega
  | succ n ih =>
    intro k μ o3 o4 hn h0 hF hA hB
    have hg := hg0.fr (μ' := μ) (by rw [hF 47 (by decide) (by decide)]) (hF 48 (by decide) (by decide)) (hF 49 (by decide) (by decide)) (hF 50 (by decide) (by decide)) (hF 51 (by decide) (by decide)) (hF 52 (by decide) (by decide))
    have hs : SeC s (μ 53) := by rw [hF 53 (by decide) (by decide)]; exact hs0
    have hm := hg.1
    have h8 := hm.1.n
    have e0 := hm.2.1
    have hsr := hm.1.s hr
    have er := (hm.2.2 r hr.1 hr.2).1
    have hrr := ru_rg G s r k
    have hgr := gv_rg hm.1 (s := s) (rule := ru G s r k) (k := k) hr
    have hpar : 0 ≤ ru G s r k → μ 60 (gv G s (ru G s r k) r k) = (og G s (gv G s (ru G s r k) r k / 8) (gv G s (ru G s r k) r k % 8)).1 ∧ μ 61 (gv G s (ru G s r k) r k) = (og G s (gv G s (ru G s r k) r k / 8) (gv G s (ru G s r k) r k % 8)).2 := fun z => by
      have := hA (gv G s (ru G s r k) r k / 8) (gv G s (ru G s r k) r k % 8) (by omega) (by omega) (by omega) (by omega)
      unfold TrM at this
      rw [show 8 * (gv G s (ru G s r k) r k / 8) + gv G s (ru G s r k) r k % 8 = gv G s (ru G s r k) r k by omega] at this
      exact this
    refine seg 6 (show (0 ≤ r ∧ r < 8) ∧ (μ 48 r ≤ k → Wp 139 117 [some (vR 47), some (vI r), some (vI k), o3, o4] [] μ R) ∧ (¬ (μ 48 r ≤ k) → Wp 139 22 [some (vR 47), some (vI r), some (vI k), o3, o4] [] μ R) from ⟨by first | omega | (have := hpar (by omega); have := og_lt hm.1 s (r := gv G s (ru G s r k) r k / 8) (k := gv G s (ru G s r k) r k % 8) (by omega) (by omega); first | omega | (rw [u2_ne (by decide)]; omega)), fun c2 => ?_, fun c2 => ?_⟩)
    ·
      first
      | (exfalso; omega)
      | (refine hk μ _ _ _ hF (fun r2 k2 a1 a2 a3 a4 => ?_)
         by_cases hz : r2 = r
         · subst hz; exact hB k2 a3 (by omega)
         · exact hA r2 k2 a1 (by omega) a3 a4)
    ·
      refine seg 4 (show Wp 138 0 [some (vR 47), some (vI r), some (vI k), none] [] μ (fun rr μ' => Wp 139 28 [some (vR 47), some (vI r), some (vI k), o3, o4] (rr.toList ++ []) μ' R) from ?_)
      refine n138 hg hs hok hr (by omega) ?_
      refine seg 3 (show (0 ≤ ru G s r k → Wp 139 38 [some (vR 47), some (vI r), some (vI k), some (vI (ru G s r k)), o4] [] μ R) ∧ (¬ (0 ≤ ru G s r k) → Wp 139 33 [some (vR 47), some (vI r), some (vI k), some (vI (ru G s r k)), o4] [] μ R) from ⟨fun c3 => ?_, fun c3 => ?_⟩)
      ·
        refine seg 7 (show Wp 136 0 [some (vR 47), some (vI (ru G s r k)), some (vI r), some (vI k)] [] μ (fun rr μ' => Wp 139 47 [some (vR 47), some (vI r), some (vI k), some (vI (ru G s r k)), o4] (rr.toList ++ [vI r, vR 47]) μ' R) from ?_)
        refine n136 hg hs hok hr (by omega) (by omega) (fun v hv => ?_)
        refine seg 1 (show Wp 137 0 [some (vR 47), some (vI r), some (vI v)] [] μ (fun rr μ' => Wp 139 50 [some (vR 47), some (vI r), some (vI k), some (vI (ru G s r k)), o4] (rr.toList ++ []) μ' R) from ?_)
        refine n137 hg hr hv ?_
        refine seg 10 (show iR (8 * r) ∧ iR ((8 * r) + k) ∧ (0 ≤ ru G s r k → Wp 139 75 [some (vR 47), some (vI r), some (vI k), some (vI (ru G s r k)), some (vI (gv G s (ru G s r k) r k))] [vI ((8 * r) + k), vR 60] μ R) ∧ (¬ (0 ≤ ru G s r k) → Wp 139 66 [some (vR 47), some (vI r), some (vI k), some (vI (ru G s r k)), some (vI (gv G s (ru G s r k) r k))] [vI ((8 * r) + k), vR 60] μ R) from ⟨by first | omega | (have := hpar (by omega); have := og_lt hm.1 s (r := gv G s (ru G s r k) r k / 8) (k := gv G s (ru G s r k) r k % 8) (by omega) (by omega); first | omega | (rw [u2_ne (by decide)]; omega)), by first | omega | (have := hpar (by omega); have := og_lt hm.1 s (r := gv G s (ru G s r k) r k / 8) (k := gv G s (ru G s r k) r k % 8) (by omega) (by omega); first | omega | (rw [u2_ne (by decide)]; omega)), fun c4 => ?_, fun c4 => ?_⟩)
        ·
          refine seg 14 (show (0 ≤ (gv G s (ru G s r k) r k) ∧ (gv G s (ru G s r k) r k) < 64) ∧ (0 ≤ ((8 * r) + k) ∧ ((8 * r) + k) < 64) ∧ iR (8 * r) ∧ iR ((8 * r) + k) ∧ (0 ≤ ru G s r k → Wp 139 101 [some (vR 47), some (vI r), some (vI k), some (vI (ru G s r k)), some (vI (gv G s (ru G s r k) r k))] [vI ((8 * r) + k), vR 61] (u2 μ 60 ((8 * r) + k) (μ 60 (gv G s (ru G s r k) r k))) R) ∧ (¬ (0 ≤ ru G s r k) → Wp 139 97 [some (vR 47), some (vI r), some (vI k), some (vI (ru G s r k)), some (vI (gv G s (ru G s r k) r k))] [vI ((8 * r) + k), vR 61] (u2 μ 60 ((8 * r) + k) (μ 60 (gv G s (ru G s r k) r k))) R) from ⟨by first | omega | (have := hpar (by omega); have := og_lt hm.1 s (r := gv G s (ru G s r k) r k / 8) (k := gv G s (ru G s r k) r k % 8) (by omega) (by omega); first | omega | (rw [u2_ne (by decide)]; omega)), by first | omega | (have := hpar (by omega); have := og_lt hm.1 s (r := gv G s (ru G s r k) r k / 8) (k := gv G s (ru G s r k) r k % 8) (by omega) (by omega); first | omega | (rw [u2_ne (by decide)]; omega)), by first | omega | (have := hpar (by omega); have := og_lt hm.1 s (r := gv G s (ru G s r k) r k / 8) (k := gv G s (ru G s r k) r k % 8) (by omega) (by omega); first | omega | (rw [u2_ne (by decide)]; omega)), by first | omega | (have := hpar (by omega); have := og_lt hm.1 s (r := gv G s (ru G s r k) r k / 8) (k := gv G s (ru G s r k) r k % 8) (by omega) (by omega); first | omega | (rw [u2_ne (by decide)]; omega)), fun c5 => ?_, fun c5 => ?_⟩)
          ·
            refine seg 9 (show (0 ≤ (gv G s (ru G s r k) r k) ∧ (gv G s (ru G s r k) r k) < 64) ∧ iR ((μ 61 (gv G s (ru G s r k) r k)) + 1) ∧ (0 ≤ ((8 * r) + k) ∧ ((8 * r) + k) < 64) ∧ iR (k + 1) ∧ Wp 139 12 [some (vR 47), some (vI r), some (vI (k + 1)), some (vI (ru G s r k)), some (vI (gv G s (ru G s r k) r k))] [] (u2 (u2 μ 60 ((8 * r) + k) (μ 60 (gv G s (ru G s r k) r k))) 61 ((8 * r) + k) ((μ 61 (gv G s (ru G s r k) r k)) + 1)) R from ⟨by first | omega | (have := hpar (by omega); have := og_lt hm.1 s (r := gv G s (ru G s r k) r k / 8) (k := gv G s (ru G s r k) r k % 8) (by omega) (by omega); first | omega | (rw [u2_ne (by decide)]; omega)), by first | omega | (have := hpar (by omega); have := og_lt hm.1 s (r := gv G s (ru G s r k) r k / 8) (k := gv G s (ru G s r k) r k % 8) (by omega) (by omega); first | omega | (rw [u2_ne (by decide)]; omega)), by first | omega | (have := hpar (by omega); have := og_lt hm.1 s (r := gv G s (ru G s r k) r k / 8) (k := gv G s (ru G s r k) r k % 8) (by omega) (by omega); first | omega | (rw [u2_ne (by decide)]; omega)), by first | omega | (have := hpar (by omega); have := og_lt hm.1 s (r := gv G s (ru G s r k) r k / 8) (k := gv G s (ru G s r k) r k % 8) (by omega) (by omega); first | omega | (rw [u2_ne (by decide)]; omega)), ?_⟩)
            obtain ⟨μ1, hμ1⟩ : ∃ z, z = u2 (u2 μ 60 ((8 * r) + k) (μ 60 (gv G s (ru G s r k) r k))) 61 ((8 * r) + k) ((μ 61 (gv G s (ru G s r k) r k)) + 1) := ⟨_, rfl⟩
            rw [← hμ1]
            have f1 : ∀ q, q ≠ 60 → q ≠ 61 → μ1 q = μ q := fun q a1 a2 => by rw [hμ1, u2_ne a2, u2_ne a1]
            have f2 : ∀ y, y ≠ 8 * r + k → μ1 60 y = μ 60 y ∧ μ1 61 y = μ 61 y := fun y hy => by rw [hμ1, u2_ne (by decide), u2_at, u2_at, u2_ne (by decide), up1_n hy, up1_n hy]; exact ⟨rfl, rfl⟩
            have f3 : TrM G s (μ1 60) (μ1 61) r k := by
              unfold TrM
              rw [hμ1, u2_ne (by decide), u2_at, u2_at, u2_ne (by decide), up1_s, up1_s]
              first
              | (exfalso; omega)
              | (rw [og_no (by omega)]; exact ⟨by dsimp only; omega, rfl⟩)
              | (have hp2 := hpar (by omega); have ho := og_in hm.1 (s := s) (k := k) hr (by omega); rw [ho]; exact ⟨hp2.1, by first | (rw [hp2.2]) | (rw [u2_ne (by decide), hp2.2])⟩)
            refine ih (k + 1) μ1 _ _ (by omega) (by omega) (fun q a1 a2 => by rw [f1 q a1 a2]; exact hF q a1 a2) (fun r2 k2 a1 a2 a3 a4 => ?_) (fun k2 a1 a2 => ?_)
            · have := f2 (8 * r2 + k2) (by have := hm.1.s (r := r2) (by omega); omega)
              unfold TrM
              rw [this.1, this.2]
              exact hA r2 k2 a1 a2 a3 a4
            · by_cases hz : k2 = k
              · subst hz; exact f3
              · have := f2 (8 * r + k2) (by omega)
                unfold TrM
                rw [this.1, this.2]
                exact hB k2 a1 (by omega)
          ·
            refine seg 5 (show (0 ≤ ((8 * r) + k) ∧ ((8 * r) + k) < 64) ∧ iR (k + 1) ∧ Wp 139 12 [some (vR 47), some (vI r), some (vI (k + 1)), some (vI (ru G s r k)), some (vI (gv G s (ru G s r k) r k))] [] (u2 (u2 μ 60 ((8 * r) + k) (μ 60 (gv G s (ru G s r k) r k))) 61 ((8 * r) + k) 0) R from ⟨by first | omega | (have := hpar (by omega); have := og_lt hm.1 s (r := gv G s (ru G s r k) r k / 8) (k := gv G s (ru G s r k) r k % 8) (by omega) (by omega); first | omega | (rw [u2_ne (by decide)]; omega)), by first | omega | (have := hpar (by omega); have := og_lt hm.1 s (r := gv G s (ru G s r k) r k / 8) (k := gv G s (ru G s r k) r k % 8) (by omega) (by omega); first | omega | (rw [u2_ne (by decide)]; omega)), ?_⟩)
            obtain ⟨μ1, hμ1⟩ : ∃ z, z = u2 (u2 μ 60 ((8 * r) + k) (μ 60 (gv G s (ru G s r k) r k))) 61 ((8 * r) + k) 0 := ⟨_, rfl⟩
            rw [← hμ1]
            have f1 : ∀ q, q ≠ 60 → q ≠ 61 → μ1 q = μ q := fun q a1 a2 => by rw [hμ1, u2_ne a2, u2_ne a1]
            have f2 : ∀ y, y ≠ 8 * r + k → μ1 60 y = μ 60 y ∧ μ1 61 y = μ 61 y := fun y hy => by rw [hμ1, u2_ne (by decide), u2_at, u2_at, u2_ne (by decide), up1_n hy, up1_n hy]; exact ⟨rfl, rfl⟩
            have f3 : TrM G s (μ1 60) (μ1 61) r k := by
              unfold TrM
              rw [hμ1, u2_ne (by decide), u2_at, u2_at, u2_ne (by decide), up1_s, up1_s]
              first
              | (exfalso; omega)
              | (rw [og_no (by omega)]; exact ⟨by dsimp only; omega, rfl⟩)
              | (have hp2 := hpar (by omega); have ho := og_in hm.1 (s := s) (k := k) hr (by omega); rw [ho]; exact ⟨hp2.1, by first | (rw [hp2.2]) | (rw [u2_ne (by decide), hp2.2])⟩)
            refine ih (k + 1) μ1 _ _ (by omega) (by omega) (fun q a1 a2 => by rw [f1 q a1 a2]; exact hF q a1 a2) (fun r2 k2 a1 a2 a3 a4 => ?_) (fun k2 a1 a2 => ?_)
            · have := f2 (8 * r2 + k2) (by have := hm.1.s (r := r2) (by omega); omega)
              unfold TrM
              rw [this.1, this.2]
              exact hA r2 k2 a1 a2 a3 a4
            · by_cases hz : k2 = k
              · subst hz; exact f3
              · have := f2 (8 * r + k2) (by omega)
                unfold TrM
                rw [this.1, this.2]
                exact hB k2 a1 (by omega)
        ·
          refine seg 16 (show iR (8 * r) ∧ iR ((8 * r) + k) ∧ (0 ≤ ((8 * r) + k) ∧ ((8 * r) + k) < 64) ∧ iR (8 * r) ∧ iR ((8 * r) + k) ∧ (0 ≤ ru G s r k → Wp 139 101 [some (vR 47), some (vI r), some (vI k), some (vI (ru G s r k)), some (vI (gv G s (ru G s r k) r k))] [vI ((8 * r) + k), vR 61] (u2 μ 60 ((8 * r) + k) ((8 * r) + k)) R) ∧ (¬ (0 ≤ ru G s r k) → Wp 139 97 [some (vR 47), some (vI r), some (vI k), some (vI (ru G s r k)), some (vI (gv G s (ru G s r k) r k))] [vI ((8 * r) + k), vR 61] (u2 μ 60 ((8 * r) + k) ((8 * r) + k)) R) from ⟨by first | omega | (have := hpar (by omega); have := og_lt hm.1 s (r := gv G s (ru G s r k) r k / 8) (k := gv G s (ru G s r k) r k % 8) (by omega) (by omega); first | omega | (rw [u2_ne (by decide)]; omega)), by first | omega | (have := hpar (by omega); have := og_lt hm.1 s (r := gv G s (ru G s r k) r k / 8) (k := gv G s (ru G s r k) r k % 8) (by omega) (by omega); first | omega | (rw [u2_ne (by decide)]; omega)), by first | omega | (have := hpar (by omega); have := og_lt hm.1 s (r := gv G s (ru G s r k) r k / 8) (k := gv G s (ru G s r k) r k % 8) (by omega) (by omega); first | omega | (rw [u2_ne (by decide)]; omega)), by first | omega | (have := hpar (by omega); have := og_lt hm.1 s (r := gv G s (ru G s r k) r k / 8) (k := gv G s (ru G s r k) r k % 8) (by omega) (by omega); first | omega | (rw [u2_ne (by decide)]; omega)), by first | omega | (have := hpar (by omega); have := og_lt hm.1 s (r := gv G s (ru G s r k) r k / 8) (k := gv G s (ru G s r k) r k % 8) (by omega) (by omega); first | omega | (rw [u2_ne (by decide)]; omega)), fun c6 => ?_, fun c6 => ?_⟩)
          ·
            refine seg 9 (show (0 ≤ (gv G s (ru G s r k) r k) ∧ (gv G s (ru G s r k) r k) < 64) ∧ iR ((μ 61 (gv G s (ru G s r k) r k)) + 1) ∧ (0 ≤ ((8 * r) + k) ∧ ((8 * r) + k) < 64) ∧ iR (k + 1) ∧ Wp 139 12 [some (vR 47), some (vI r), some (vI (k + 1)), some (vI (ru G s r k)), some (vI (gv G s (ru G s r k) r k))] [] (u2 (u2 μ 60 ((8 * r) + k) ((8 * r) + k)) 61 ((8 * r) + k) ((μ 61 (gv G s (ru G s r k) r k)) + 1)) R from ⟨by first | omega | (have := hpar (by omega); have := og_lt hm.1 s (r := gv G s (ru G s r k) r k / 8) (k := gv G s (ru G s r k) r k % 8) (by omega) (by omega); first | omega | (rw [u2_ne (by decide)]; omega)), by first | omega | (have := hpar (by omega); have := og_lt hm.1 s (r := gv G s (ru G s r k) r k / 8) (k := gv G s (ru G s r k) r k % 8) (by omega) (by omega); first | omega | (rw [u2_ne (by decide)]; omega)), by first | omega | (have := hpar (by omega); have := og_lt hm.1 s (r := gv G s (ru G s r k) r k / 8) (k := gv G s (ru G s r k) r k % 8) (by omega) (by omega); first | omega | (rw [u2_ne (by decide)]; omega)), by first | omega | (have := hpar (by omega); have := og_lt hm.1 s (r := gv G s (ru G s r k) r k / 8) (k := gv G s (ru G s r k) r k % 8) (by omega) (by omega); first | omega | (rw [u2_ne (by decide)]; omega)), ?_⟩)
            obtain ⟨μ1, hμ1⟩ : ∃ z, z = u2 (u2 μ 60 ((8 * r) + k) ((8 * r) + k)) 61 ((8 * r) + k) ((μ 61 (gv G s (ru G s r k) r k)) + 1) := ⟨_, rfl⟩
            rw [← hμ1]
            have f1 : ∀ q, q ≠ 60 → q ≠ 61 → μ1 q = μ q := fun q a1 a2 => by rw [hμ1, u2_ne a2, u2_ne a1]
            have f2 : ∀ y, y ≠ 8 * r + k → μ1 60 y = μ 60 y ∧ μ1 61 y = μ 61 y := fun y hy => by rw [hμ1, u2_ne (by decide), u2_at, u2_at, u2_ne (by decide), up1_n hy, up1_n hy]; exact ⟨rfl, rfl⟩
            have f3 : TrM G s (μ1 60) (μ1 61) r k := by
              unfold TrM
              rw [hμ1, u2_ne (by decide), u2_at, u2_at, u2_ne (by decide), up1_s, up1_s]
              first
              | (exfalso; omega)
              | (rw [og_no (by omega)]; exact ⟨by dsimp only; omega, rfl⟩)
              | (have hp2 := hpar (by omega); have ho := og_in hm.1 (s := s) (k := k) hr (by omega); rw [ho]; exact ⟨hp2.1, by first | (rw [hp2.2]) | (rw [u2_ne (by decide), hp2.2])⟩)
            refine ih (k + 1) μ1 _ _ (by omega) (by omega) (fun q a1 a2 => by rw [f1 q a1 a2]; exact hF q a1 a2) (fun r2 k2 a1 a2 a3 a4 => ?_) (fun k2 a1 a2 => ?_)
            · have := f2 (8 * r2 + k2) (by have := hm.1.s (r := r2) (by omega); omega)
              unfold TrM
              rw [this.1, this.2]
              exact hA r2 k2 a1 a2 a3 a4
            · by_cases hz : k2 = k
              · subst hz; exact f3
              · have := f2 (8 * r + k2) (by omega)
                unfold TrM
                rw [this.1, this.2]
                exact hB k2 a1 (by omega)
          ·
            refine seg 5 (show (0 ≤ ((8 * r) + k) ∧ ((8 * r) + k) < 64) ∧ iR (k + 1) ∧ Wp 139 12 [some (vR 47), some (vI r), some (vI (k + 1)), some (vI (ru G s r k)), some (vI (gv G s (ru G s r k) r k))] [] (u2 (u2 μ 60 ((8 * r) + k) ((8 * r) + k)) 61 ((8 * r) + k) 0) R from ⟨by first | omega | (have := hpar (by omega); have := og_lt hm.1 s (r := gv G s (ru G s r k) r k / 8) (k := gv G s (ru G s r k) r k % 8) (by omega) (by omega); first | omega | (rw [u2_ne (by decide)]; omega)), by first | omega | (have := hpar (by omega); have := og_lt hm.1 s (r := gv G s (ru G s r k) r k / 8) (k := gv G s (ru G s r k) r k % 8) (by omega) (by omega); first | omega | (rw [u2_ne (by decide)]; omega)), ?_⟩)
            obtain ⟨μ1, hμ1⟩ : ∃ z, z = u2 (u2 μ 60 ((8 * r) + k) ((8 * r) + k)) 61 ((8 * r) + k) 0 := ⟨_, rfl⟩
            rw [← hμ1]
            have f1 : ∀ q, q ≠ 60 → q ≠ 61 → μ1 q = μ q := fun q a1 a2 => by rw [hμ1, u2_ne a2, u2_ne a1]
            have f2 : ∀ y, y ≠ 8 * r + k → μ1 60 y = μ 60 y ∧ μ1 61 y = μ 61 y := fun y hy => by rw [hμ1, u2_ne (by decide), u2_at, u2_at, u2_ne (by decide), up1_n hy, up1_n hy]; exact ⟨rfl, rfl⟩
            have f3 : TrM G s (μ1 60) (μ1 61) r k := by
              unfold TrM
              rw [hμ1, u2_ne (by decide), u2_at, u2_at, u2_ne (by decide), up1_s, up1_s]
              first
              | (exfalso; omega)
              | (rw [og_no (by omega)]; exact ⟨by dsimp only; omega, rfl⟩)
              | (have hp2 := hpar (by omega); have ho := og_in hm.1 (s := s) (k := k) hr (by omega); rw [ho]; exact ⟨hp2.1, by first | (rw [hp2.2]) | (rw [u2_ne (by decide), hp2.2])⟩)
            refine ih (k + 1) μ1 _ _ (by omega) (by omega) (fun q a1 a2 => by rw [f1 q a1 a2]; exact hF q a1 a2) (fun r2 k2 a1 a2 a3 a4 => ?_) (fun k2 a1 a2 => ?_)
            · have := f2 (8 * r2 + k2) (by have := hm.1.s (r := r2) (by omega); omega)
              unfold TrM
              rw [this.1, this.2]
              exact hA r2 k2 a1 a2 a3 a4
            · by_cases hz : k2 = k
              · subst hz; exact f3
              · have := f2 (8 * r + k2) (by omega)
                unfold TrM
                rw [this.1, this.2]
                exact hB k2 a1 (by omega)
      ·
        refine seg 12 (show iR (8 * r) ∧ iR ((8 * r) + k) ∧ (0 ≤ ru G s r k → Wp 139 75 [some (vR 47), some (vI r), some (vI k), some (vI (ru G s r k)), some (vI (-9))] [vI ((8 * r) + k), vR 60] μ R) ∧ (¬ (0 ≤ ru G s r k) → Wp 139 66 [some (vR 47), some (vI r), some (vI k), some (vI (ru G s r k)), some (vI (-9))] [vI ((8 * r) + k), vR 60] μ R) from ⟨by first | omega | (have := hpar (by omega); have := og_lt hm.1 s (r := gv G s (ru G s r k) r k / 8) (k := gv G s (ru G s r k) r k % 8) (by omega) (by omega); first | omega | (rw [u2_ne (by decide)]; omega)), by first | omega | (have := hpar (by omega); have := og_lt hm.1 s (r := gv G s (ru G s r k) r k / 8) (k := gv G s (ru G s r k) r k % 8) (by omega) (by omega); first | omega | (rw [u2_ne (by decide)]; omega)), fun c7 => ?_, fun c7 => ?_⟩)
        ·
          refine seg 14 (show (0 ≤ (-9) ∧ (-9) < 64) ∧ (0 ≤ ((8 * r) + k) ∧ ((8 * r) + k) < 64) ∧ iR (8 * r) ∧ iR ((8 * r) + k) ∧ (0 ≤ ru G s r k → Wp 139 101 [some (vR 47), some (vI r), some (vI k), some (vI (ru G s r k)), some (vI (-9))] [vI ((8 * r) + k), vR 61] (u2 μ 60 ((8 * r) + k) (μ 60 (-9))) R) ∧ (¬ (0 ≤ ru G s r k) → Wp 139 97 [some (vR 47), some (vI r), some (vI k), some (vI (ru G s r k)), some (vI (-9))] [vI ((8 * r) + k), vR 61] (u2 μ 60 ((8 * r) + k) (μ 60 (-9))) R) from ⟨by first | omega | (have := hpar (by omega); have := og_lt hm.1 s (r := gv G s (ru G s r k) r k / 8) (k := gv G s (ru G s r k) r k % 8) (by omega) (by omega); first | omega | (rw [u2_ne (by decide)]; omega)), by first | omega | (have := hpar (by omega); have := og_lt hm.1 s (r := gv G s (ru G s r k) r k / 8) (k := gv G s (ru G s r k) r k % 8) (by omega) (by omega); first | omega | (rw [u2_ne (by decide)]; omega)), by first | omega | (have := hpar (by omega); have := og_lt hm.1 s (r := gv G s (ru G s r k) r k / 8) (k := gv G s (ru G s r k) r k % 8) (by omega) (by omega); first | omega | (rw [u2_ne (by decide)]; omega)), by first | omega | (have := hpar (by omega); have := og_lt hm.1 s (r := gv G s (ru G s r k) r k / 8) (k := gv G s (ru G s r k) r k % 8) (by omega) (by omega); first | omega | (rw [u2_ne (by decide)]; omega)), fun c8 => ?_, fun c8 => ?_⟩)
          ·
            refine seg 9 (show (0 ≤ (-9) ∧ (-9) < 64) ∧ iR ((μ 61 (-9)) + 1) ∧ (0 ≤ ((8 * r) + k) ∧ ((8 * r) + k) < 64) ∧ iR (k + 1) ∧ Wp 139 12 [some (vR 47), some (vI r), some (vI (k + 1)), some (vI (ru G s r k)), some (vI (-9))] [] (u2 (u2 μ 60 ((8 * r) + k) (μ 60 (-9))) 61 ((8 * r) + k) ((μ 61 (-9)) + 1)) R from ⟨by first | omega | (have := hpar (by omega); have := og_lt hm.1 s (r := gv G s (ru G s r k) r k / 8) (k := gv G s (ru G s r k) r k % 8) (by omega) (by omega); first | omega | (rw [u2_ne (by decide)]; omega)), by first | omega | (have := hpar (by omega); have := og_lt hm.1 s (r := gv G s (ru G s r k) r k / 8) (k := gv G s (ru G s r k) r k % 8) (by omega) (by omega); first | omega | (rw [u2_ne (by decide)]; omega)), by first | omega | (have := hpar (by omega); have := og_lt hm.1 s (r := gv G s (ru G s r k) r k / 8) (k := gv G s (ru G s r k) r k % 8) (by omega) (by omega); first | omega | (rw [u2_ne (by decide)]; omega)), by first | omega | (have := hpar (by omega); have := og_lt hm.1 s (r := gv G s (ru G s r k) r k / 8) (k := gv G s (ru G s r k) r k % 8) (by omega) (by omega); first | omega | (rw [u2_ne (by decide)]; omega)), ?_⟩)
            obtain ⟨μ1, hμ1⟩ : ∃ z, z = u2 (u2 μ 60 ((8 * r) + k) (μ 60 (-9))) 61 ((8 * r) + k) ((μ 61 (-9)) + 1) := ⟨_, rfl⟩
            rw [← hμ1]
            have f1 : ∀ q, q ≠ 60 → q ≠ 61 → μ1 q = μ q := fun q a1 a2 => by rw [hμ1, u2_ne a2, u2_ne a1]
            have f2 : ∀ y, y ≠ 8 * r + k → μ1 60 y = μ 60 y ∧ μ1 61 y = μ 61 y := fun y hy => by rw [hμ1, u2_ne (by decide), u2_at, u2_at, u2_ne (by decide), up1_n hy, up1_n hy]; exact ⟨rfl, rfl⟩
            have f3 : TrM G s (μ1 60) (μ1 61) r k := by
              unfold TrM
              rw [hμ1, u2_ne (by decide), u2_at, u2_at, u2_ne (by decide), up1_s, up1_s]
              first
              | (exfalso; omega)
              | (rw [og_no (by omega)]; exact ⟨by dsimp only; omega, rfl⟩)
              | (have hp2 := hpar (by omega); have ho := og_in hm.1 (s := s) (k := k) hr (by omega); rw [ho]; exact ⟨hp2.1, by first | (rw [hp2.2]) | (rw [u2_ne (by decide), hp2.2])⟩)
            refine ih (k + 1) μ1 _ _ (by omega) (by omega) (fun q a1 a2 => by rw [f1 q a1 a2]; exact hF q a1 a2) (fun r2 k2 a1 a2 a3 a4 => ?_) (fun k2 a1 a2 => ?_)
            · have := f2 (8 * r2 + k2) (by have := hm.1.s (r := r2) (by omega); omega)
              unfold TrM
              rw [this.1, this.2]
              exact hA r2 k2 a1 a2 a3 a4
            · by_cases hz : k2 = k
              · subst hz; exact f3
              · have := f2 (8 * r + k2) (by omega)
                unfold TrM
                rw [this.1, this.2]
                exact hB k2 a1 (by omega)
          ·
            refine seg 5 (show (0 ≤ ((8 * r) + k) ∧ ((8 * r) + k) < 64) ∧ iR (k + 1) ∧ Wp 139 12 [some (vR 47), some (vI r), some (vI (k + 1)), some (vI (ru G s r k)), some (vI (-9))] [] (u2 (u2 μ 60 ((8 * r) + k) (μ 60 (-9))) 61 ((8 * r) + k) 0) R from ⟨by first | omega | (have := hpar (by omega); have := og_lt hm.1 s (r := gv G s (ru G s r k) r k / 8) (k := gv G s (ru G s r k) r k % 8) (by omega) (by omega); first | omega | (rw [u2_ne (by decide)]; omega)), by first | omega | (have := hpar (by omega); have := og_lt hm.1 s (r := gv G s (ru G s r k) r k / 8) (k := gv G s (ru G s r k) r k % 8) (by omega) (by omega); first | omega | (rw [u2_ne (by decide)]; omega)), ?_⟩)
            obtain ⟨μ1, hμ1⟩ : ∃ z, z = u2 (u2 μ 60 ((8 * r) + k) (μ 60 (-9))) 61 ((8 * r) + k) 0 := ⟨_, rfl⟩
            rw [← hμ1]
            have f1 : ∀ q, q ≠ 60 → q ≠ 61 → μ1 q = μ q := fun q a1 a2 => by rw [hμ1, u2_ne a2, u2_ne a1]
            have f2 : ∀ y, y ≠ 8 * r + k → μ1 60 y = μ 60 y ∧ μ1 61 y = μ 61 y := fun y hy => by rw [hμ1, u2_ne (by decide), u2_at, u2_at, u2_ne (by decide), up1_n hy, up1_n hy]; exact ⟨rfl, rfl⟩
            have f3 : TrM G s (μ1 60) (μ1 61) r k := by
              unfold TrM
              rw [hμ1, u2_ne (by decide), u2_at, u2_at, u2_ne (by decide), up1_s, up1_s]
              first
              | (exfalso; omega)
              | (rw [og_no (by omega)]; exact ⟨by dsimp only; omega, rfl⟩)
              | (have hp2 := hpar (by omega); have ho := og_in hm.1 (s := s) (k := k) hr (by omega); rw [ho]; exact ⟨hp2.1, by first | (rw [hp2.2]) | (rw [u2_ne (by decide), hp2.2])⟩)
            refine ih (k + 1) μ1 _ _ (by omega) (by omega) (fun q a1 a2 => by rw [f1 q a1 a2]; exact hF q a1 a2) (fun r2 k2 a1 a2 a3 a4 => ?_) (fun k2 a1 a2 => ?_)
            · have := f2 (8 * r2 + k2) (by have := hm.1.s (r := r2) (by omega); omega)
              unfold TrM
              rw [this.1, this.2]
              exact hA r2 k2 a1 a2 a3 a4
            · by_cases hz : k2 = k
              · subst hz; exact f3
              · have := f2 (8 * r + k2) (by omega)
                unfold TrM
                rw [this.1, this.2]
                exact hB k2 a1 (by omega)
        ·
          refine seg 16 (show iR (8 * r) ∧ iR ((8 * r) + k) ∧ (0 ≤ ((8 * r) + k) ∧ ((8 * r) + k) < 64) ∧ iR (8 * r) ∧ iR ((8 * r) + k) ∧ (0 ≤ ru G s r k → Wp 139 101 [some (vR 47), some (vI r), some (vI k), some (vI (ru G s r k)), some (vI (-9))] [vI ((8 * r) + k), vR 61] (u2 μ 60 ((8 * r) + k) ((8 * r) + k)) R) ∧ (¬ (0 ≤ ru G s r k) → Wp 139 97 [some (vR 47), some (vI r), some (vI k), some (vI (ru G s r k)), some (vI (-9))] [vI ((8 * r) + k), vR 61] (u2 μ 60 ((8 * r) + k) ((8 * r) + k)) R) from ⟨by first | omega | (have := hpar (by omega); have := og_lt hm.1 s (r := gv G s (ru G s r k) r k / 8) (k := gv G s (ru G s r k) r k % 8) (by omega) (by omega); first | omega | (rw [u2_ne (by decide)]; omega)), by first | omega | (have := hpar (by omega); have := og_lt hm.1 s (r := gv G s (ru G s r k) r k / 8) (k := gv G s (ru G s r k) r k % 8) (by omega) (by omega); first | omega | (rw [u2_ne (by decide)]; omega)), by first | omega | (have := hpar (by omega); have := og_lt hm.1 s (r := gv G s (ru G s r k) r k / 8) (k := gv G s (ru G s r k) r k % 8) (by omega) (by omega); first | omega | (rw [u2_ne (by decide)]; omega)), by first | omega | (have := hpar (by omega); have := og_lt hm.1 s (r := gv G s (ru G s r k) r k / 8) (k := gv G s (ru G s r k) r k % 8) (by omega) (by omega); first | omega | (rw [u2_ne (by decide)]; omega)), by first | omega | (have := hpar (by omega); have := og_lt hm.1 s (r := gv G s (ru G s r k) r k / 8) (k := gv G s (ru G s r k) r k % 8) (by omega) (by omega); first | omega | (rw [u2_ne (by decide)]; omega)), fun c9 => ?_, fun c9 => ?_⟩)
          ·
            refine seg 9 (show (0 ≤ (-9) ∧ (-9) < 64) ∧ iR ((μ 61 (-9)) + 1) ∧ (0 ≤ ((8 * r) + k) ∧ ((8 * r) + k) < 64) ∧ iR (k + 1) ∧ Wp 139 12 [some (vR 47), some (vI r), some (vI (k + 1)), some (vI (ru G s r k)), some (vI (-9))] [] (u2 (u2 μ 60 ((8 * r) + k) ((8 * r) + k)) 61 ((8 * r) + k) ((μ 61 (-9)) + 1)) R from ⟨by first | omega | (have := hpar (by omega); have := og_lt hm.1 s (r := gv G s (ru G s r k) r k / 8) (k := gv G s (ru G s r k) r k % 8) (by omega) (by omega); first | omega | (rw [u2_ne (by decide)]; omega)), by first | omega | (have := hpar (by omega); have := og_lt hm.1 s (r := gv G s (ru G s r k) r k / 8) (k := gv G s (ru G s r k) r k % 8) (by omega) (by omega); first | omega | (rw [u2_ne (by decide)]; omega)), by first | omega | (have := hpar (by omega); have := og_lt hm.1 s (r := gv G s (ru G s r k) r k / 8) (k := gv G s (ru G s r k) r k % 8) (by omega) (by omega); first | omega | (rw [u2_ne (by decide)]; omega)), by first | omega | (have := hpar (by omega); have := og_lt hm.1 s (r := gv G s (ru G s r k) r k / 8) (k := gv G s (ru G s r k) r k % 8) (by omega) (by omega); first | omega | (rw [u2_ne (by decide)]; omega)), ?_⟩)
            obtain ⟨μ1, hμ1⟩ : ∃ z, z = u2 (u2 μ 60 ((8 * r) + k) ((8 * r) + k)) 61 ((8 * r) + k) ((μ 61 (-9)) + 1) := ⟨_, rfl⟩
            rw [← hμ1]
            have f1 : ∀ q, q ≠ 60 → q ≠ 61 → μ1 q = μ q := fun q a1 a2 => by rw [hμ1, u2_ne a2, u2_ne a1]
            have f2 : ∀ y, y ≠ 8 * r + k → μ1 60 y = μ 60 y ∧ μ1 61 y = μ 61 y := fun y hy => by rw [hμ1, u2_ne (by decide), u2_at, u2_at, u2_ne (by decide), up1_n hy, up1_n hy]; exact ⟨rfl, rfl⟩
            have f3 : TrM G s (μ1 60) (μ1 61) r k := by
              unfold TrM
              rw [hμ1, u2_ne (by decide), u2_at, u2_at, u2_ne (by decide), up1_s, up1_s]
              first
              | (exfalso; omega)
              | (rw [og_no (by omega)]; exact ⟨by dsimp only; omega, rfl⟩)
              | (have hp2 := hpar (by omega); have ho := og_in hm.1 (s := s) (k := k) hr (by omega); rw [ho]; exact ⟨hp2.1, by first | (rw [hp2.2]) | (rw [u2_ne (by decide), hp2.2])⟩)
            refine ih (k + 1) μ1 _ _ (by omega) (by omega) (fun q a1 a2 => by rw [f1 q a1 a2]; exact hF q a1 a2) (fun r2 k2 a1 a2 a3 a4 => ?_) (fun k2 a1 a2 => ?_)
            · have := f2 (8 * r2 + k2) (by have := hm.1.s (r := r2) (by omega); omega)
              unfold TrM
              rw [this.1, this.2]
              exact hA r2 k2 a1 a2 a3 a4
            · by_cases hz : k2 = k
              · subst hz; exact f3
              · have := f2 (8 * r + k2) (by omega)
                unfold TrM
                rw [this.1, this.2]
                exact hB k2 a1 (by omega)
          ·
            refine seg 5 (show (0 ≤ ((8 * r) + k) ∧ ((8 * r) + k) < 64) ∧ iR (k + 1) ∧ Wp 139 12 [some (vR 47), some (vI r), some (vI (k + 1)), some (vI (ru G s r k)), some (vI (-9))] [] (u2 (u2 μ 60 ((8 * r) + k) ((8 * r) + k)) 61 ((8 * r) + k) 0) R from ⟨by first | omega | (have := hpar (by omega); have := og_lt hm.1 s (r := gv G s (ru G s r k) r k / 8) (k := gv G s (ru G s r k) r k % 8) (by omega) (by omega); first | omega | (rw [u2_ne (by decide)]; omega)), by first | omega | (have := hpar (by omega); have := og_lt hm.1 s (r := gv G s (ru G s r k) r k / 8) (k := gv G s (ru G s r k) r k % 8) (by omega) (by omega); first | omega | (rw [u2_ne (by decide)]; omega)), ?_⟩)
            obtain ⟨μ1, hμ1⟩ : ∃ z, z = u2 (u2 μ 60 ((8 * r) + k) ((8 * r) + k)) 61 ((8 * r) + k) 0 := ⟨_, rfl⟩
            rw [← hμ1]
            have f1 : ∀ q, q ≠ 60 → q ≠ 61 → μ1 q = μ q := fun q a1 a2 => by rw [hμ1, u2_ne a2, u2_ne a1]
            have f2 : ∀ y, y ≠ 8 * r + k → μ1 60 y = μ 60 y ∧ μ1 61 y = μ 61 y := fun y hy => by rw [hμ1, u2_ne (by decide), u2_at, u2_at, u2_ne (by decide), up1_n hy, up1_n hy]; exact ⟨rfl, rfl⟩
            have f3 : TrM G s (μ1 60) (μ1 61) r k := by
              unfold TrM
              rw [hμ1, u2_ne (by decide), u2_at, u2_at, u2_ne (by decide), up1_s, up1_s]
              first
              | (exfalso; omega)
              | (rw [og_no (by omega)]; exact ⟨by dsimp only; omega, rfl⟩)
              | (have hp2 := hpar (by omega); have ho := og_in hm.1 (s := s) (k := k) hr (by omega); rw [ho]; exact ⟨hp2.1, by first | (rw [hp2.2]) | (rw [u2_ne (by decide), hp2.2])⟩)
            refine ih (k + 1) μ1 _ _ (by omega) (by omega) (fun q a1 a2 => by rw [f1 q a1 a2]; exact hF q a1 a2) (fun r2 k2 a1 a2 a3 a4 => ?_) (fun k2 a1 a2 => ?_)
            · have := f2 (8 * r2 + k2) (by have := hm.1.s (r := r2) (by omega); omega)
              unfold TrM
              rw [this.1, this.2]
              exact hA r2 k2 a1 a2 a3 a4
            · by_cases hz : k2 = k
              · subst hz; exact f3
              · have := f2 (8 * r + k2) (by omega)
                unfold TrM
                rw [this.1, this.2]
                exact hB k2 a1 (by omega)
theorem l139 {G : Hi} {s : Se} {R : Po} {μ0 : Mu} (hg0 : MG G μ0) (hs0 : SeC s (μ0 53)) (hok : SeOK s) (hk : ∀ μ : Mu, (∀ q, q ≠ 60 → q ≠ 61 → μ q = μ0 q) → (∀ r2 k2, 0 ≤ r2 → r2 < hN G → 0 ≤ k2 → k2 < hS G r2 → TrM G s (μ 60) (μ 61) r2 k2) → R none μ) : ∀ (n : Nat) (r : Int) (μ : Mu) (o2 o3 o4 : Option PV), hN G - r = n → 0 ≤ r → (∀ q, q ≠ 60 → q ≠ 61 → μ q = μ0 q) → (∀ r2 k2, 0 ≤ r2 → r2 < r → 0 ≤ k2 → k2 < hS G r2 → TrM G s (μ 60) (μ 61) r2 k2) → Wp 139 2 [some (vR 47), some (vI r), o2, o3, o4] [] μ R := by
  intro n
  induction n with
  | zero =>
    intro r μ o2 o3 o4 hn h0 hF hA
    have hg := hg0.fr (μ' := μ) (by rw [hF 47 (by decide) (by decide)]) (hF 48 (by decide) (by decide)) (hF 49 (by decide) (by decide)) (hF 50 (by decide) (by decide)) (hF 51 (by decide) (by decide)) (hF 52 (by decide) (by decide))
    have hs : SeC s (μ 53) := by rw [hF 53 (by decide) (by decide)]; exact hs0
    have hm := hg.1
    have h8 := hm.1.n
    have e0 := hm.2.1
    refine seg 4 (show (μ 47 0 ≤ r → Wp 139 123 [some (vR 47), some (vI r), o2, o3, o4] [] μ R) ∧ (¬ (μ 47 0 ≤ r) → Wp 139 10 [some (vR 47), some (vI r), o2, o3, o4] [] μ R) from ⟨fun c1 => ?_, fun c1 => ?_⟩)
    ·
      refine seg 1 (show R none μ from ?_)
      first | (exfalso; omega) | exact hk μ hF (fun r2 k2 a1 a2 => hA r2 k2 a1 (by omega))
    ·
      refine seg 2 (show Wp 139 12 [some (vR 47), some (vI r), some (vI 0), o3, o4] [] μ R from ?_)
      exfalso; omega
  | succ n ih =>
    intro r μ o2 o3 o4 hn h0 hF hA
    have hg := hg0.fr (μ' := μ) (by rw [hF 47 (by decide) (by decide)]) (hF 48 (by decide) (by decide)) (hF 49 (by decide) (by decide)) (hF 50 (by decide) (by decide)) (hF 51 (by decide) (by decide)) (hF 52 (by decide) (by decide))
    have hs : SeC s (μ 53) := by rw [hF 53 (by decide) (by decide)]; exact hs0
    have hm := hg.1
    have h8 := hm.1.n
    have e0 := hm.2.1
    refine seg 4 (show (μ 47 0 ≤ r → Wp 139 123 [some (vR 47), some (vI r), o2, o3, o4] [] μ R) ∧ (¬ (μ 47 0 ≤ r) → Wp 139 10 [some (vR 47), some (vI r), o2, o3, o4] [] μ R) from ⟨fun c2 => ?_, fun c2 => ?_⟩)
    ·
      refine seg 1 (show R none μ from ?_)
      first | (exfalso; omega) | exact hk μ hF (fun r2 k2 a1 a2 => hA r2 k2 a1 (by omega))
    ·
      refine seg 2 (show Wp 139 12 [some (vR 47), some (vI r), some (vI 0), o3, o4] [] μ R from ?_)
      have hsr := hm.1.s (r := r) (by omega)
      refine l139a hg0 hs0 hok (r := r) (by omega) (fun μ o2 o3 o4 hF hA => ?_) (hS G r).toNat 0 μ _ _ (by omega) (by decide) hF hA (fun k2 a1 a2 => absurd a2 (by omega))
      refine seg 2 (show iR (r + 1) ∧ Wp 139 2 [some (vR 47), some (vI (r + 1)), o2, o3, o4] [] μ R from ⟨by omega, ?_⟩)
      exact ih (r + 1) μ _ _ _ (by omega) (by omega) hF hA
theorem n139 {G : Hi} {s : Se} {R : Po} {μ : Mu} (hg : MG G μ) (hs : SeC s (μ 53)) (hok : SeOK s) (hk : ∀ μ2 : Mu, (∀ q, q ≠ 60 → q ≠ 61 → μ2 q = μ q) → (∀ r2 k2, 0 ≤ r2 → r2 < hN G → 0 ≤ k2 → k2 < hS G r2 → TrM G s (μ2 60) (μ2 61) r2 k2) → R none μ2) : Wp 139 0 [some (vR 47), none, none, none, none] [] μ R := by
  have h8 := hg.1.1.n
  refine seg 2 (show Wp 139 2 [some (vR 47), some (vI 0), none, none, none] [] μ R from ?_)
  exact l139 hg hs hok hk (hN G).toNat 0 μ none none none (by omega) (by decide) (fun _ _ _ => rfl) (fun r2 k2 a1 a2 => absurd a2 (by omega))
