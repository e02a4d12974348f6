/-! THE MODEL: leaves -/
theorem lc_lt {x y : Int} : ((if y < x then 1 else if x = y then 0 else -1 : Int) < 0) ↔ x < y := by
  split
  · omega
  · split <;> omega
theorem lc_gt {x y : Int} : (0 < (if y < x then 1 else if x = y then 0 else -1 : Int)) ↔ y < x := by
  split
  · omega
  · split <;> omega
theorem m118 {μ : Mu} {R : Po} {v a b : Int} (hy : a ≤ v ∧ v ≤ b → R (some (vI 1)) μ) (hn : ¬ (a ≤ v ∧ v ≤ b) → R (some (vI 0)) μ) : Wp 118 0 [some (vL v), none, some (vL a), none, some (vL b), none] [] μ R := by
  refine seg 4 (show ((if a < v then 1 else if v = a then 0 else -1 : Int) < 0 → Wp 118 17 [some (vL v), none, some (vL a), none, some (vL b), none] [] μ R) ∧ (¬ ((if a < v then 1 else if v = a then 0 else -1 : Int) < 0) → Wp 118 6 [some (vL v), none, some (vL a), none, some (vL b), none] [] μ R) from ⟨fun c1 => ?_, fun c1 => ?_⟩)
  ·
    rw [lc_lt] at c1
    refine seg 2 (show (0 = 0 ∨ 0 = 1) ∧ R (some (vI 0)) μ from ⟨by decide, ?_⟩)
    first | exact hy (by omega) | exact hn (by omega)
  ·
    rw [lc_lt] at c1
    refine seg 4 (show (0 < (if b < v then 1 else if v = b then 0 else -1 : Int) → Wp 118 17 [some (vL v), none, some (vL a), none, some (vL b), none] [] μ R) ∧ (¬ (0 < (if b < v then 1 else if v = b then 0 else -1 : Int)) → Wp 118 13 [some (vL v), none, some (vL a), none, some (vL b), none] [] μ R) from ⟨fun c2 => ?_, fun c2 => ?_⟩)
    ·
      rw [lc_gt] at c2
      refine seg 2 (show (0 = 0 ∨ 0 = 1) ∧ R (some (vI 0)) μ from ⟨by decide, ?_⟩)
      first | exact hy (by omega) | exact hn (by omega)
    ·
      rw [lc_gt] at c2
      refine seg 3 (show (1 = 0 ∨ 1 = 1) ∧ R (some (vI 1)) μ from ⟨by decide, ?_⟩)
      first | exact hy (by omega) | exact hn (by omega)
theorem m119 {μ : Mu} {R : Po} {x k : Int} (h0 : 0 ≤ x) (hk : 0 ≤ k ∧ k < 31) (hy : tb x k → R (some (vI 1)) μ) (hn : ¬ tb x k → R (some (vI 0)) μ) : Wp 119 0 [some (vI x), some (vI k)] [] μ R := by
  have hs := sh_nn h0 k
  refine seg 7 (show (0 ≤ x ∧ 0 ≤ k ∧ k < 31) ∧ (0 ≤ (x / 2 ^ (k : Int).toNat) ∧ 0 ≤ 1) ∧ (¬ (((Int.toNat (x / 2 ^ (k : Int).toNat) &&& Int.toNat 1 : Nat) : Int) = 1) → Wp 119 13 [some (vI x), some (vI k)] [] μ R) ∧ (((Int.toNat (x / 2 ^ (k : Int).toNat) &&& Int.toNat 1 : Nat) : Int) = 1 → Wp 119 9 [some (vI x), some (vI k)] [] μ R) from ⟨by omega, by omega, fun c1 => ?_, fun c1 => ?_⟩)
  ·
    refine seg 2 (show (0 = 0 ∨ 0 = 1) ∧ R (some (vI 0)) μ from ⟨by decide, ?_⟩)
    first | exact hy ((tb_iff h0).mp (by assumption)) | exact hn (fun z => absurd ((tb_iff h0).mpr z) (by assumption))
  ·
    refine seg 3 (show (1 = 0 ∨ 1 = 1) ∧ R (some (vI 1)) μ from ⟨by decide, ?_⟩)
    first | exact hy ((tb_iff h0).mp (by assumption)) | exact hn (fun z => absurd ((tb_iff h0).mpr z) (by assumption))
def MH (G : Hi) (μ : Mu) : Prop := HiOK G ∧ μ 47 0 = hN G ∧ ∀ r, 0 ≤ r → r < hN G → μ 48 r = hS G r ∧ μ 49 (2 * r) = hP G r 0 ∧ μ 49 (2 * r + 1) = hP G r 1 ∧ (∀ k, 0 ≤ k → k < hS G r → μ 50 (8 * r + k) = hL G r k)
def MP (G : Hi) (μ : Mu) (r : Int) : Prop := (∀ k, 0 ≤ k → k < 8 → μ 51 (16 * r + 8 * 0 + k) = pr G r 0 k ∧ μ 51 (16 * r + 8 * 1 + k) = pr G r 1 k) ∧ (∀ i, 0 ≤ i → i < 8 → μ 52 (8 * r + i) = ip G r i)
def MG (G : Hi) (μ : Mu) : Prop := MH G μ ∧ ∀ r, 0 ≤ r → r < hN G → MP G μ r
theorem MH.fr {G : Hi} {μ μ' : Mu} (h : MH G μ) (h0 : μ' 47 0 = μ 47 0) (h1 : μ' 48 = μ 48) (h2 : μ' 49 = μ 49) (h3 : μ' 50 = μ 50) : MH G μ' := by
  unfold MH; rw [h0, h1, h2, h3]; exact h
theorem MG.fr {G : Hi} {μ μ' : Mu} (h : MG G μ) (h0 : μ' 47 0 = μ 47 0) (h1 : μ' 48 = μ 48) (h2 : μ' 49 = μ 49) (h3 : μ' 50 = μ 50) (h4 : μ' 51 = μ 51) (h5 : μ' 52 = μ 52) : MG G μ' := by
  unfold MG MP; rw [h4, h5]; exact ⟨h.1.fr h0 h1 h2 h3, h.2⟩
theorem MH.w {G : Hi} {μ : Mu} (h : MH G μ) {r w : Int} (hr : 0 ≤ r ∧ r < hN G) (hw : w = 0 ∨ w = 1) : μ 49 (2 * r + w) = hP G r w := by
  have h1 := h.2.2 r hr.1 hr.2
  rcases hw with rfl | rfl
  · rw [Int.add_zero]; exact h1.2.1
  · exact h1.2.2.1
theorem n120 {G : Hi} {R : Po} {μ : Mu} {r : Int} (hm : MH G μ) (hy : 0 ≤ r ∧ r < hN G → R (some (vI 1)) μ) (hn : ¬ (0 ≤ r ∧ r < hN G) → R (some (vI 0)) μ) : Wp 120 0 [some (vR 47), some (vI r)] [] μ R := by
  have h0 := hm.2.1
  have h8 := hm.1.n
  refine seg 9 (show iR ((μ 47 0) - 1) ∧ Wp 118 0 [some (vL r), none, some (vL 0), none, some (vL ((μ 47 0) - 1)), none] [] μ (fun rr μ' => Wp 120 13 [some (vR 47), some (vI r)] (rr.toList ++ []) μ' R) from ⟨by omega, ?_⟩)
  refine m118 (fun b1 => ?_) (fun b1 => ?_)
  ·
    refine seg 1 (show (1 = 0 ∨ 1 = 1) ∧ R (some (vI 1)) μ from ⟨by decide, ?_⟩)
    first | exact hy (by omega) | exact hn (by omega)
  ·
    refine seg 1 (show (0 = 0 ∨ 0 = 1) ∧ R (some (vI 0)) μ from ⟨by decide, ?_⟩)
    first | exact hy (by omega) | exact hn (by omega)
theorem n121 {G : Hi} {R : Po} {μ : Mu} {r k : Int} (hm : MH G μ) (hy : vLn G r k → R (some (vI 1)) μ) (hn : ¬ vLn G r k → R (some (vI 0)) μ) : Wp 121 0 [some (vR 47), some (vI r), some (vI k)] [] μ R := by
  have h0 := hm.2.1
  have h8 := hm.1.n
  refine seg 3 (show Wp 120 0 [some (vR 47), some (vI r)] [] μ (fun rr μ' => Wp 121 5 [some (vR 47), some (vI r), some (vI k)] (rr.toList ++ []) μ' R) from ?_)
  refine n120 hm (fun b1 => ?_) (fun b1 => ?_)
  ·
    refine seg 1 (show (1 = 0 → Wp 121 30 [some (vR 47), some (vI r), some (vI k)] [] μ R) ∧ (¬ (1 = 0) → Wp 121 8 [some (vR 47), some (vI r), some (vI k)] [] μ R) from ⟨fun z => absurd z (by decide), fun _ => ?_⟩)
    refine seg 11 (show (0 ≤ r ∧ r < 8) ∧ iR ((μ 48 r) - 1) ∧ Wp 118 0 [some (vL k), none, some (vL 0), none, some (vL ((μ 48 r) - 1)), none] [] μ (fun rr μ' => Wp 121 23 [some (vR 47), some (vI r), some (vI k)] (rr.toList ++ []) μ' R) from ⟨by first | omega | (have hz := (hm.2.2 r (by omega) (by omega)).1; have hz2 := hm.1.s (r := r) (by omega); omega), by first | omega | (have hz := (hm.2.2 r (by omega) (by omega)).1; have hz2 := hm.1.s (r := r) (by omega); omega), ?_⟩)
    refine m118 (fun b2 => ?_) (fun b2 => ?_)
    ·
      refine seg 1 (show (1 = 0 → Wp 121 30 [some (vR 47), some (vI r), some (vI k)] [] μ R) ∧ (¬ (1 = 0) → Wp 121 26 [some (vR 47), some (vI r), some (vI k)] [] μ R) from ⟨fun z => absurd z (by decide), fun _ => ?_⟩)
      refine seg 3 (show (1 = 0 ∨ 1 = 1) ∧ R (some (vI 1)) μ from ⟨by decide, ?_⟩)
      first | exact hn (by omega) | (have hz := (hm.2.2 r (by omega) (by omega)).1; first | exact hy (by omega) | exact hn (by omega))
    ·
      refine seg 1 (show (0 = 0 → Wp 121 30 [some (vR 47), some (vI r), some (vI k)] [] μ R) ∧ (¬ (0 = 0) → Wp 121 26 [some (vR 47), some (vI r), some (vI k)] [] μ R) from ⟨fun _ => ?_, fun z => absurd z (by decide)⟩)
      refine seg 2 (show (0 = 0 ∨ 0 = 1) ∧ R (some (vI 0)) μ from ⟨by decide, ?_⟩)
      first | exact hn (by omega) | (have hz := (hm.2.2 r (by omega) (by omega)).1; first | exact hy (by omega) | exact hn (by omega))
  ·
    refine seg 1 (show (0 = 0 → Wp 121 30 [some (vR 47), some (vI r), some (vI k)] [] μ R) ∧ (¬ (0 = 0) → Wp 121 8 [some (vR 47), some (vI r), some (vI k)] [] μ R) from ⟨fun _ => ?_, fun z => absurd z (by decide)⟩)
    refine seg 2 (show (0 = 0 ∨ 0 = 1) ∧ R (some (vI 0)) μ from ⟨by decide, ?_⟩)
    first | exact hn (by omega) | (have hz := (hm.2.2 r (by omega) (by omega)).1; first | exact hy (by omega) | exact hn (by omega))
theorem n129 {G : Hi} {R : Po} {μ : Mu} {r k : Int} (hm : MH G μ) (hr : 0 ≤ r ∧ r < hN G) (hk : 0 ≤ k ∧ k < hS G r) (h : R (some (vI (hL G r k))) μ) : Wp 129 0 [some (vR 47), some (vI r), some (vI k)] [] μ R := by
  have h8 := hm.1.n
  have hs := hm.1.s hr
  refine seg 9 (show iR (8 * r) ∧ iR ((8 * r) + k) ∧ (0 ≤ ((8 * r) + k) ∧ ((8 * r) + k) < 64) ∧ R (some (vI (μ 50 ((8 * r) + k)))) μ from ⟨by omega, by omega, by omega, ?_⟩)
  rw [(hm.2.2 r hr.1 hr.2).2.2.2 k hk.1 hk.2]; exact h
theorem m132 {μ : Mu} {R : Po} {r k w : Int} (hr : 0 ≤ r ∧ r < 8) (hk : 0 ≤ k ∧ k < 8) (hw : w = 0 ∨ w = 1) (h : R (some (vI (μ 51 (16 * r + 8 * w + k)))) μ) : Wp 132 0 [some (vR 47), some (vI r), some (vI k), some (vI w)] [] μ R := by
  refine seg 13 (show iR (16 * r) ∧ iR (8 * w) ∧ iR ((16 * r) + (8 * w)) ∧ iR (((16 * r) + (8 * w)) + k) ∧ (0 ≤ (((16 * r) + (8 * w)) + k) ∧ (((16 * r) + (8 * w)) + k) < 128) ∧ R (some (vI (μ 51 (((16 * r) + (8 * w)) + k)))) μ from ⟨by omega, by omega, by omega, by omega, by omega, ?_⟩)
  exact h
theorem Tab.step2 {T f g : Int → Int} {R C i j v x : Int} (h : Tab T f g R C i j) (hx : x = i * 9 + j) (hj : 0 ≤ j ∧ j ≤ 8) (hC : C ≤ 8) (hv : v = cm f g R C i j) : Tab (up1 T x v) f g R C i (j + -1) := by
  subst hx; exact h.step hj hC hv
theorem tab_m {T f g : Int → Int} {R C i j : Int} (h : Tab T f g R C i j) (hq : i < R ∧ j < C) (hj : 0 ≤ j) : T (9 * i + 9 + j) = cm f g R C (i + 1) j ∧ T (9 * i + j + 1) = cm f g R C i (j + 1) ∧ T (9 * i + 9 + j + 1) = cm f g R C (i + 1) (j + 1) := by
  refine ⟨?_, ?_, ?_⟩
  · rw [show 9 * i + 9 + j = (i + 1) * 9 + j by omega]; exact h (i + 1) j (by omega) (by omega) (by omega) (by omega)
  · rw [show 9 * i + j + 1 = i * 9 + (j + 1) by omega]; exact h i (j + 1) (by omega) (by omega) (by omega) (by omega)
  · rw [show 9 * i + 9 + j + 1 = (i + 1) * 9 + (j + 1) by omega]; exact h (i + 1) (j + 1) (by omega) (by omega) (by omega) (by omega)
theorem l130a {G : Hi} {p r : Int} {R : Po} {μ0 : Mu} (hm0 : MH G μ0) (hp : 0 ≤ p ∧ p < hN G) (hr : 0 ≤ r ∧ r < hN G) {i : Int} (hi : 0 ≤ i ∧ i ≤ hS G p) (hk : ∀ (μ : Mu) (o4 o5 o6 o7 o8 : Option PV), (∀ q, q ≠ 59 → μ q = μ0 q) → Tab (μ 59) (hL G p) (hL G r) (hS G p) (hS G r) i (-1) → Wp 130 170 [some (vR 47), some (vI p), some (vI r), some (vI i), o4, o5, o6, o7, o8] [] μ R) : ∀ (n : Nat) (j : Int) (μ : Mu) (o5 o6 o7 o8 : Option PV), j + 1 = n → j ≤ hS G r → (∀ q, q ≠ 59 → μ q = μ0 q) → Tab (μ 59) (hL G p) (hL G r) (hS G p) (hS G r) i j → Wp 130 19 [some (vR 47), some (vI p), some (vI r), some (vI i), some (vI j), o5, o6, o7, o8] [] μ R := by
  intro n
  induction n with
  | zero =>
    intro j μ o5 o6 o7 o8 hn hj hF hT
    have hm := hm0.fr (by rw [hF 47 (by decide)]) (hF 48 (by decide)) (hF 49 (by decide)) (hF 50 (by decide))
    have h8 := hm.1.n
    have hsp := hm.1.s hp
    have hsr := hm.1.s hr
    have ep := (hm.2.2 p hp.1 hp.2).1
    have er := (hm.2.2 r hr.1 hr.2).1
    refine seg 2 (show (j < 0 → Wp 130 170 [some (vR 47), some (vI p), some (vI r), some (vI i), some (vI j), o5, o6, o7, o8] [] μ R) ∧ (¬ (j < 0) → Wp 130 24 [some (vR 47), some (vI p), some (vI r), some (vI i), some (vI j), o5, o6, o7, o8] [] μ R) from ⟨fun c1 => ?_, fun c1 => ?_⟩)
    ·
      first | (obtain rfl : j = -1 := (by omega); exact hk μ _ _ _ _ _ hF hT) | (exfalso; omega)
    ·
      refine seg 8 (show (0 ≤ p ∧ p < 8) ∧ (μ 48 p ≤ i → Wp 130 150 [some (vR 47), some (vI p), some (vI r), some (vI i), some (vI j), some (vI 0), o6, o7, o8] [] μ R) ∧ (¬ (μ 48 p ≤ i) → Wp 130 37 [some (vR 47), some (vI p), some (vI r), some (vI i), some (vI j), some (vI 0), o6, o7, o8] [] μ R) from ⟨by first | omega | (have hb := tab_m hT (by omega) (by omega); have g1 := cm_rg (f := hL G p) (g := hL G r) (R := hS G p) (C := hS G r) _ (i + 1) (j + 1) (Nat.le_refl _); omega), fun c2 => ?_, fun c2 => ?_⟩)
      ·
        refine seg 11 (show iR (9 * i) ∧ iR ((9 * i) + j) ∧ (0 ≤ ((9 * i) + j) ∧ ((9 * i) + j) < 81) ∧ iR (j + (-1)) ∧ Wp 130 19 [some (vR 47), some (vI p), some (vI r), some (vI i), some (vI (j + (-1))), some (vI 0), o6, o7, o8] [] (u2 μ 59 ((9 * i) + j) 0) R from ⟨by first | omega | (have hb := tab_m hT (by omega) (by omega); have g1 := cm_rg (f := hL G p) (g := hL G r) (R := hS G p) (C := hS G r) _ (i + 1) (j + 1) (Nat.le_refl _); omega), by first | omega | (have hb := tab_m hT (by omega) (by omega); have g1 := cm_rg (f := hL G p) (g := hL G r) (R := hS G p) (C := hS G r) _ (i + 1) (j + 1) (Nat.le_refl _); omega), by first | omega | (have hb := tab_m hT (by omega) (by omega); have g1 := cm_rg (f := hL G p) (g := hL G r) (R := hS G p) (C := hS G r) _ (i + 1) (j + 1) (Nat.le_refl _); omega), by first | omega | (have hb := tab_m hT (by omega) (by omega); have g1 := cm_rg (f := hL G p) (g := hL G r) (R := hS G p) (C := hS G r) _ (i + 1) (j + 1) (Nat.le_refl _); omega), ?_⟩)
        exfalso; omega
      ·
        refine seg 6 (show (0 ≤ r ∧ r < 8) ∧ (μ 48 r ≤ j → Wp 130 150 [some (vR 47), some (vI p), some (vI r), some (vI i), some (vI j), some (vI 0), o6, o7, o8] [] μ R) ∧ (¬ (μ 48 r ≤ j) → Wp 130 48 [some (vR 47), some (vI p), some (vI r), some (vI i), some (vI j), some (vI 0), o6, o7, o8] [] μ R) from ⟨by first | omega | (have hb := tab_m hT (by omega) (by omega); have g1 := cm_rg (f := hL G p) (g := hL G r) (R := hS G p) (C := hS G r) _ (i + 1) (j + 1) (Nat.le_refl _); omega), fun c3 => ?_, fun c3 => ?_⟩)
        ·
          refine seg 11 (show iR (9 * i) ∧ iR ((9 * i) + j) ∧ (0 ≤ ((9 * i) + j) ∧ ((9 * i) + j) < 81) ∧ iR (j + (-1)) ∧ Wp 130 19 [some (vR 47), some (vI p), some (vI r), some (vI i), some (vI (j + (-1))), some (vI 0), o6, o7, o8] [] (u2 μ 59 ((9 * i) + j) 0) R from ⟨by first | omega | (have hb := tab_m hT (by omega) (by omega); have g1 := cm_rg (f := hL G p) (g := hL G r) (R := hS G p) (C := hS G r) _ (i + 1) (j + 1) (Nat.le_refl _); omega), by first | omega | (have hb := tab_m hT (by omega) (by omega); have g1 := cm_rg (f := hL G p) (g := hL G r) (R := hS G p) (C := hS G r) _ (i + 1) (j + 1) (Nat.le_refl _); omega), by first | omega | (have hb := tab_m hT (by omega) (by omega); have g1 := cm_rg (f := hL G p) (g := hL G r) (R := hS G p) (C := hS G r) _ (i + 1) (j + 1) (Nat.le_refl _); omega), by first | omega | (have hb := tab_m hT (by omega) (by omega); have g1 := cm_rg (f := hL G p) (g := hL G r) (R := hS G p) (C := hS G r) _ (i + 1) (j + 1) (Nat.le_refl _); omega), ?_⟩)
          exfalso; omega
        ·
          refine seg 25 (show iR (9 * i) ∧ iR ((9 * i) + 9) ∧ iR (((9 * i) + 9) + j) ∧ (0 ≤ (((9 * i) + 9) + j) ∧ (((9 * i) + 9) + j) < 81) ∧ iR (9 * i) ∧ iR ((9 * i) + j) ∧ iR (((9 * i) + j) + 1) ∧ (0 ≤ (((9 * i) + j) + 1) ∧ (((9 * i) + j) + 1) < 81) ∧ (μ 59 (((9 * i) + 9) + j) ≤ μ 59 (((9 * i) + j) + 1) → Wp 130 93 [some (vR 47), some (vI p), some (vI r), some (vI i), some (vI j), some (vI 0), some (vI (μ 59 (((9 * i) + 9) + j))), some (vI (μ 59 (((9 * i) + j) + 1))), o8] [] μ R) ∧ (¬ (μ 59 (((9 * i) + 9) + j) ≤ μ 59 (((9 * i) + j) + 1)) → Wp 130 88 [some (vR 47), some (vI p), some (vI r), some (vI i), some (vI j), some (vI 0), some (vI (μ 59 (((9 * i) + 9) + j))), some (vI (μ 59 (((9 * i) + j) + 1))), o8] [] μ R) from ⟨by first | omega | (have hb := tab_m hT (by omega) (by omega); have g1 := cm_rg (f := hL G p) (g := hL G r) (R := hS G p) (C := hS G r) _ (i + 1) (j + 1) (Nat.le_refl _); omega), by first | omega | (have hb := tab_m hT (by omega) (by omega); have g1 := cm_rg (f := hL G p) (g := hL G r) (R := hS G p) (C := hS G r) _ (i + 1) (j + 1) (Nat.le_refl _); omega), by first | omega | (have hb := tab_m hT (by omega) (by omega); have g1 := cm_rg (f := hL G p) (g := hL G r) (R := hS G p) (C := hS G r) _ (i + 1) (j + 1) (Nat.le_refl _); omega), by first | omega | (have hb := tab_m hT (by omega) (by omega); have g1 := cm_rg (f := hL G p) (g := hL G r) (R := hS G p) (C := hS G r) _ (i + 1) (j + 1) (Nat.le_refl _); omega), by first | omega | (have hb := tab_m hT (by omega) (by omega); have g1 := cm_rg (f := hL G p) (g := hL G r) (R := hS G p) (C := hS G r) _ (i + 1) (j + 1) (Nat.le_refl _); omega), by first | omega | (have hb := tab_m hT (by omega) (by omega); have g1 := cm_rg (f := hL G p) (g := hL G r) (R := hS G p) (C := hS G r) _ (i + 1) (j + 1) (Nat.le_refl _); omega), by first | omega | (have hb := tab_m hT (by omega) (by omega); have g1 := cm_rg (f := hL G p) (g := hL G r) (R := hS G p) (C := hS G r) _ (i + 1) (j + 1) (Nat.le_refl _); omega), by first | omega | (have hb := tab_m hT (by omega) (by omega); have g1 := cm_rg (f := hL G p) (g := hL G r) (R := hS G p) (C := hS G r) _ (i + 1) (j + 1) (Nat.le_refl _); omega), fun c4 => ?_, fun c4 => ?_⟩)
          ·
            refine seg 21 (show iR (9 * i) ∧ iR ((9 * i) + 9) ∧ iR (((9 * i) + 9) + j) ∧ iR ((((9 * i) + 9) + j) + 1) ∧ (0 ≤ ((((9 * i) + 9) + j) + 1) ∧ ((((9 * i) + 9) + j) + 1) < 81) ∧ iR ((μ 59 ((((9 * i) + 9) + j) + 1)) + 1) ∧ Wp 129 0 [some (vR 47), some (vI p), some (vI i)] [] μ (fun rr μ' => Wp 130 124 [some (vR 47), some (vI p), some (vI r), some (vI i), some (vI j), some (vI (μ 59 (((9 * i) + j) + 1))), some (vI (μ 59 (((9 * i) + 9) + j))), some (vI (μ 59 (((9 * i) + j) + 1))), some (vI ((μ 59 ((((9 * i) + 9) + j) + 1)) + 1))] (rr.toList ++ []) μ' R) from ⟨by first | omega | (have hb := tab_m hT (by omega) (by omega); have g1 := cm_rg (f := hL G p) (g := hL G r) (R := hS G p) (C := hS G r) _ (i + 1) (j + 1) (Nat.le_refl _); omega), by first | omega | (have hb := tab_m hT (by omega) (by omega); have g1 := cm_rg (f := hL G p) (g := hL G r) (R := hS G p) (C := hS G r) _ (i + 1) (j + 1) (Nat.le_refl _); omega), by first | omega | (have hb := tab_m hT (by omega) (by omega); have g1 := cm_rg (f := hL G p) (g := hL G r) (R := hS G p) (C := hS G r) _ (i + 1) (j + 1) (Nat.le_refl _); omega), by first | omega | (have hb := tab_m hT (by omega) (by omega); have g1 := cm_rg (f := hL G p) (g := hL G r) (R := hS G p) (C := hS G r) _ (i + 1) (j + 1) (Nat.le_refl _); omega), by first | omega | (have hb := tab_m hT (by omega) (by omega); have g1 := cm_rg (f := hL G p) (g := hL G r) (R := hS G p) (C := hS G r) _ (i + 1) (j + 1) (Nat.le_refl _); omega), by first | omega | (have hb := tab_m hT (by omega) (by omega); have g1 := cm_rg (f := hL G p) (g := hL G r) (R := hS G p) (C := hS G r) _ (i + 1) (j + 1) (Nat.le_refl _); omega), ?_⟩)
            refine n129 hm (by omega) (by omega) ?_
            refine seg 4 (show Wp 129 0 [some (vR 47), some (vI r), some (vI j)] [] μ (fun rr μ' => Wp 130 131 [some (vR 47), some (vI p), some (vI r), some (vI i), some (vI j), some (vI (μ 59 (((9 * i) + j) + 1))), some (vI (μ 59 (((9 * i) + 9) + j))), some (vI (μ 59 (((9 * i) + j) + 1))), some (vI ((μ 59 ((((9 * i) + 9) + j) + 1)) + 1))] (rr.toList ++ [vI (hL G p i)]) μ' R) from ?_)
            refine n129 hm (by omega) (by omega) ?_
            refine seg 1 (show (¬ (hL G p i = hL G r j) → Wp 130 146 [some (vR 47), some (vI p), some (vI r), some (vI i), some (vI j), some (vI (μ 59 (((9 * i) + j) + 1))), some (vI (μ 59 (((9 * i) + 9) + j))), some (vI (μ 59 (((9 * i) + j) + 1))), some (vI ((μ 59 ((((9 * i) + 9) + j) + 1)) + 1))] [] μ R) ∧ (hL G p i = hL G r j → Wp 130 134 [some (vR 47), some (vI p), some (vI r), some (vI i), some (vI j), some (vI (μ 59 (((9 * i) + j) + 1))), some (vI (μ 59 (((9 * i) + 9) + j))), some (vI (μ 59 (((9 * i) + j) + 1))), some (vI ((μ 59 ((((9 * i) + 9) + j) + 1)) + 1))] [] μ R) from ⟨fun c5 => ?_, fun c5 => ?_⟩)
            ·
              refine seg 13 (show iR (9 * i) ∧ iR ((9 * i) + j) ∧ (0 ≤ ((9 * i) + j) ∧ ((9 * i) + j) < 81) ∧ iR (j + (-1)) ∧ Wp 130 19 [some (vR 47), some (vI p), some (vI r), some (vI i), some (vI (j + (-1))), some (vI (μ 59 (((9 * i) + j) + 1))), some (vI (μ 59 (((9 * i) + 9) + j))), some (vI (μ 59 (((9 * i) + j) + 1))), some (vI ((μ 59 ((((9 * i) + 9) + j) + 1)) + 1))] [] (u2 μ 59 ((9 * i) + j) (μ 59 (((9 * i) + j) + 1))) R from ⟨by first | omega | (have hb := tab_m hT (by omega) (by omega); have g1 := cm_rg (f := hL G p) (g := hL G r) (R := hS G p) (C := hS G r) _ (i + 1) (j + 1) (Nat.le_refl _); omega), by first | omega | (have hb := tab_m hT (by omega) (by omega); have g1 := cm_rg (f := hL G p) (g := hL G r) (R := hS G p) (C := hS G r) _ (i + 1) (j + 1) (Nat.le_refl _); omega), by first | omega | (have hb := tab_m hT (by omega) (by omega); have g1 := cm_rg (f := hL G p) (g := hL G r) (R := hS G p) (C := hS G r) _ (i + 1) (j + 1) (Nat.le_refl _); omega), by first | omega | (have hb := tab_m hT (by omega) (by omega); have g1 := cm_rg (f := hL G p) (g := hL G r) (R := hS G p) (C := hS G r) _ (i + 1) (j + 1) (Nat.le_refl _); omega), ?_⟩)
              exfalso; omega
            ·
              refine seg 3 (show ((μ 59 ((((9 * i) + 9) + j) + 1)) + 1 ≤ μ 59 (((9 * i) + j) + 1) → Wp 130 146 [some (vR 47), some (vI p), some (vI r), some (vI i), some (vI j), some (vI (μ 59 (((9 * i) + j) + 1))), some (vI (μ 59 (((9 * i) + 9) + j))), some (vI (μ 59 (((9 * i) + j) + 1))), some (vI ((μ 59 ((((9 * i) + 9) + j) + 1)) + 1))] [] μ R) ∧ (¬ ((μ 59 ((((9 * i) + 9) + j) + 1)) + 1 ≤ μ 59 (((9 * i) + j) + 1)) → Wp 130 141 [some (vR 47), some (vI p), some (vI r), some (vI i), some (vI j), some (vI (μ 59 (((9 * i) + j) + 1))), some (vI (μ 59 (((9 * i) + 9) + j))), some (vI (μ 59 (((9 * i) + j) + 1))), some (vI ((μ 59 ((((9 * i) + 9) + j) + 1)) + 1))] [] μ R) from ⟨fun c6 => ?_, fun c6 => ?_⟩)
              ·
                refine seg 13 (show iR (9 * i) ∧ iR ((9 * i) + j) ∧ (0 ≤ ((9 * i) + j) ∧ ((9 * i) + j) < 81) ∧ iR (j + (-1)) ∧ Wp 130 19 [some (vR 47), some (vI p), some (vI r), some (vI i), some (vI (j + (-1))), some (vI (μ 59 (((9 * i) + j) + 1))), some (vI (μ 59 (((9 * i) + 9) + j))), some (vI (μ 59 (((9 * i) + j) + 1))), some (vI ((μ 59 ((((9 * i) + 9) + j) + 1)) + 1))] [] (u2 μ 59 ((9 * i) + j) (μ 59 (((9 * i) + j) + 1))) R from ⟨by first | omega | (have hb := tab_m hT (by omega) (by omega); have g1 := cm_rg (f := hL G p) (g := hL G r) (R := hS G p) (C := hS G r) _ (i + 1) (j + 1) (Nat.le_refl _); omega), by first | omega | (have hb := tab_m hT (by omega) (by omega); have g1 := cm_rg (f := hL G p) (g := hL G r) (R := hS G p) (C := hS G r) _ (i + 1) (j + 1) (Nat.le_refl _); omega), by first | omega | (have hb := tab_m hT (by omega) (by omega); have g1 := cm_rg (f := hL G p) (g := hL G r) (R := hS G p) (C := hS G r) _ (i + 1) (j + 1) (Nat.le_refl _); omega), by first | omega | (have hb := tab_m hT (by omega) (by omega); have g1 := cm_rg (f := hL G p) (g := hL G r) (R := hS G p) (C := hS G r) _ (i + 1) (j + 1) (Nat.le_refl _); omega), ?_⟩)
                exfalso; omega
              ·
                refine seg 14 (show iR (9 * i) ∧ iR ((9 * i) + j) ∧ (0 ≤ ((9 * i) + j) ∧ ((9 * i) + j) < 81) ∧ iR (j + (-1)) ∧ Wp 130 19 [some (vR 47), some (vI p), some (vI r), some (vI i), some (vI (j + (-1))), some (vI ((μ 59 ((((9 * i) + 9) + j) + 1)) + 1)), some (vI (μ 59 (((9 * i) + 9) + j))), some (vI (μ 59 (((9 * i) + j) + 1))), some (vI ((μ 59 ((((9 * i) + 9) + j) + 1)) + 1))] [] (u2 μ 59 ((9 * i) + j) ((μ 59 ((((9 * i) + 9) + j) + 1)) + 1)) R from ⟨by first | omega | (have hb := tab_m hT (by omega) (by omega); have g1 := cm_rg (f := hL G p) (g := hL G r) (R := hS G p) (C := hS G r) _ (i + 1) (j + 1) (Nat.le_refl _); omega), by first | omega | (have hb := tab_m hT (by omega) (by omega); have g1 := cm_rg (f := hL G p) (g := hL G r) (R := hS G p) (C := hS G r) _ (i + 1) (j + 1) (Nat.le_refl _); omega), by first | omega | (have hb := tab_m hT (by omega) (by omega); have g1 := cm_rg (f := hL G p) (g := hL G r) (R := hS G p) (C := hS G r) _ (i + 1) (j + 1) (Nat.le_refl _); omega), by first | omega | (have hb := tab_m hT (by omega) (by omega); have g1 := cm_rg (f := hL G p) (g := hL G r) (R := hS G p) (C := hS G r) _ (i + 1) (j + 1) (Nat.le_refl _); omega), ?_⟩)
                exfalso; omega
          ·
            refine seg 22 (show iR (9 * i) ∧ iR ((9 * i) + 9) ∧ iR (((9 * i) + 9) + j) ∧ iR ((((9 * i) + 9) + j) + 1) ∧ (0 ≤ ((((9 * i) + 9) + j) + 1) ∧ ((((9 * i) + 9) + j) + 1) < 81) ∧ iR ((μ 59 ((((9 * i) + 9) + j) + 1)) + 1) ∧ Wp 129 0 [some (vR 47), some (vI p), some (vI i)] [] μ (fun rr μ' => Wp 130 124 [some (vR 47), some (vI p), some (vI r), some (vI i), some (vI j), some (vI (μ 59 (((9 * i) + 9) + j))), some (vI (μ 59 (((9 * i) + 9) + j))), some (vI (μ 59 (((9 * i) + j) + 1))), some (vI ((μ 59 ((((9 * i) + 9) + j) + 1)) + 1))] (rr.toList ++ []) μ' R) from ⟨by first | omega | (have hb := tab_m hT (by omega) (by omega); have g1 := cm_rg (f := hL G p) (g := hL G r) (R := hS G p) (C := hS G r) _ (i + 1) (j + 1) (Nat.le_refl _); omega), by first | omega | (have hb := tab_m hT (by omega) (by omega); have g1 := cm_rg (f := hL G p) (g := hL G r) (R := hS G p) (C := hS G r) _ (i + 1) (j + 1) (Nat.le_refl _); omega), by first | omega | (have hb := tab_m hT (by omega) (by omega); have g1 := cm_rg (f := hL G p) (g := hL G r) (R := hS G p) (C := hS G r) _ (i + 1) (j + 1) (Nat.le_refl _); omega), by first | omega | (have hb := tab_m hT (by omega) (by omega); have g1 := cm_rg (f := hL G p) (g := hL G r) (R := hS G p) (C := hS G r) _ (i + 1) (j + 1) (Nat.le_refl _); omega), by first | omega | (have hb := tab_m hT (by omega) (by omega); have g1 := cm_rg (f := hL G p) (g := hL G r) (R := hS G p) (C := hS G r) _ (i + 1) (j + 1) (Nat.le_refl _); omega), by first | omega | (have hb := tab_m hT (by omega) (by omega); have g1 := cm_rg (f := hL G p) (g := hL G r) (R := hS G p) (C := hS G r) _ (i + 1) (j + 1) (Nat.le_refl _); omega), ?_⟩)
            refine n129 hm (by omega) (by omega) ?_
            refine seg 4 (show Wp 129 0 [some (vR 47), some (vI r), some (vI j)] [] μ (fun rr μ' => Wp 130 131 [some (vR 47), some (vI p), some (vI r), some (vI i), some (vI j), some (vI (μ 59 (((9 * i) + 9) + j))), some (vI (μ 59 (((9 * i) + 9) + j))), some (vI (μ 59 (((9 * i) + j) + 1))), some (vI ((μ 59 ((((9 * i) + 9) + j) + 1)) + 1))] (rr.toList ++ [vI (hL G p i)]) μ' R) from ?_)
            refine n129 hm (by omega) (by omega) ?_
            refine seg 1 (show (¬ (hL G p i = hL G r j) → Wp 130 146 [some (vR 47), some (vI p), some (vI r), some (vI i), some (vI j), some (vI (μ 59 (((9 * i) + 9) + j))), some (vI (μ 59 (((9 * i) + 9) + j))), some (vI (μ 59 (((9 * i) + j) + 1))), some (vI ((μ 59 ((((9 * i) + 9) + j) + 1)) + 1))] [] μ R) ∧ (hL G p i = hL G r j → Wp 130 134 [some (vR 47), some (vI p), some (vI r), some (vI i), some (vI j), some (vI (μ 59 (((9 * i) + 9) + j))), some (vI (μ 59 (((9 * i) + 9) + j))), some (vI (μ 59 (((9 * i) + j) + 1))), some (vI ((μ 59 ((((9 * i) + 9) + j) + 1)) + 1))] [] μ R) from ⟨fun c7 => ?_, fun c7 => ?_⟩)
            ·
              refine seg 13 (show iR (9 * i) ∧ iR ((9 * i) + j) ∧ (0 ≤ ((9 * i) + j) ∧ ((9 * i) + j) < 81) ∧ iR (j + (-1)) ∧ Wp 130 19 [some (vR 47), some (vI p), some (vI r), some (vI i), some (vI (j + (-1))), some (vI (μ 59 (((9 * i) + 9) + j))), some (vI (μ 59 (((9 * i) + 9) + j))), some (vI (μ 59 (((9 * i) + j) + 1))), some (vI ((μ 59 ((((9 * i) + 9) + j) + 1)) + 1))] [] (u2 μ 59 ((9 * i) + j) (μ 59 (((9 * i) + 9) + j))) R from ⟨by first | omega | (have hb := tab_m hT (by omega) (by omega); have g1 := cm_rg (f := hL G p) (g := hL G r) (R := hS G p) (C := hS G r) _ (i + 1) (j + 1) (Nat.le_refl _); omega), by first | omega | (have hb := tab_m hT (by omega) (by omega); have g1 := cm_rg (f := hL G p) (g := hL G r) (R := hS G p) (C := hS G r) _ (i + 1) (j + 1) (Nat.le_refl _); omega), by first | omega | (have hb := tab_m hT (by omega) (by omega); have g1 := cm_rg (f := hL G p) (g := hL G r) (R := hS G p) (C := hS G r) _ (i + 1) (j + 1) (Nat.le_refl _); omega), by first | omega | (have hb := tab_m hT (by omega) (by omega); have g1 := cm_rg (f := hL G p) (g := hL G r) (R := hS G p) (C := hS G r) _ (i + 1) (j + 1) (Nat.le_refl _); omega), ?_⟩)
              exfalso; omega
            ·
              refine seg 3 (show ((μ 59 ((((9 * i) + 9) + j) + 1)) + 1 ≤ μ 59 (((9 * i) + 9) + j) → Wp 130 146 [some (vR 47), some (vI p), some (vI r), some (vI i), some (vI j), some (vI (μ 59 (((9 * i) + 9) + j))), some (vI (μ 59 (((9 * i) + 9) + j))), some (vI (μ 59 (((9 * i) + j) + 1))), some (vI ((μ 59 ((((9 * i) + 9) + j) + 1)) + 1))] [] μ R) ∧ (¬ ((μ 59 ((((9 * i) + 9) + j) + 1)) + 1 ≤ μ 59 (((9 * i) + 9) + j)) → Wp 130 141 [some (vR 47), some (vI p), some (vI r), some (vI i), some (vI j), some (vI (μ 59 (((9 * i) + 9) + j))), some (vI (μ 59 (((9 * i) + 9) + j))), some (vI (μ 59 (((9 * i) + j) + 1))), some (vI ((μ 59 ((((9 * i) + 9) + j) + 1)) + 1))] [] μ R) from ⟨fun c8 => ?_, fun c8 => ?_⟩)
              ·
                refine seg 13 (show iR (9 * i) ∧ iR ((9 * i) + j) ∧ (0 ≤ ((9 * i) + j) ∧ ((9 * i) + j) < 81) ∧ iR (j + (-1)) ∧ Wp 130 19 [some (vR 47), some (vI p), some (vI r), some (vI i), some (vI (j + (-1))), some (vI (μ 59 (((9 * i) + 9) + j))), some (vI (μ 59 (((9 * i) + 9) + j))), some (vI (μ 59 (((9 * i) + j) + 1))), some (vI ((μ 59 ((((9 * i) + 9) + j) + 1)) + 1))] [] (u2 μ 59 ((9 * i) + j) (μ 59 (((9 * i) + 9) + j))) R from ⟨by first | omega | (have hb := tab_m hT (by omega) (by omega); have g1 := cm_rg (f := hL G p) (g := hL G r) (R := hS G p) (C := hS G r) _ (i + 1) (j + 1) (Nat.le_refl _); omega), by first | omega | (have hb := tab_m hT (by omega) (by omega); have g1 := cm_rg (f := hL G p) (g := hL G r) (R := hS G p) (C := hS G r) _ (i + 1) (j + 1) (Nat.le_refl _); omega), by first | omega | (have hb := tab_m hT (by omega) (by omega); have g1 := cm_rg (f := hL G p) (g := hL G r) (R := hS G p) (C := hS G r) _ (i + 1) (j + 1) (Nat.le_refl _); omega), by first | omega | (have hb := tab_m hT (by omega) (by omega); have g1 := cm_rg (f := hL G p) (g := hL G r) (R := hS G p) (C := hS G r) _ (i + 1) (j + 1) (Nat.le_refl _); omega), ?_⟩)
                exfalso; omega
              ·
                refine seg 14 (show iR (9 * i) ∧ iR ((9 * i) + j) ∧ (0 ≤ ((9 * i) + j) ∧ ((9 * i) + j) < 81) ∧ iR (j + (-1)) ∧ Wp 130 19 [some (vR 47), some (vI p), some (vI r), some (vI i), some (vI (j + (-1))), some (vI ((μ 59 ((((9 * i) + 9) + j) + 1)) + 1)), some (vI (μ 59 (((9 * i) + 9) + j))), some (vI (μ 59 (((9 * i) + j) + 1))), some (vI ((μ 59 ((((9 * i) + 9) + j) + 1)) + 1))] [] (u2 μ 59 ((9 * i) + j) ((μ 59 ((((9 * i) + 9) + j) + 1)) + 1)) R from ⟨by first | omega | (have hb := tab_m hT (by omega) (by omega); have g1 := cm_rg (f := hL G p) (g := hL G r) (R := hS G p) (C := hS G r) _ (i + 1) (j + 1) (Nat.le_refl _); omega), by first | omega | (have hb := tab_m hT (by omega) (by omega); have g1 := cm_rg (f := hL G p) (g := hL G r) (R := hS G p) (C := hS G r) _ (i + 1) (j + 1) (Nat.le_refl _); omega), by first | omega | (have hb := tab_m hT (by omega) (by omega); have g1 := cm_rg (f := hL G p) (g := hL G r) (R := hS G p) (C := hS G r) _ (i + 1) (j + 1) (Nat.le_refl _); omega), by first | omega | (have hb := tab_m hT (by omega) (by omega); have g1 := cm_rg (f := hL G p) (g := hL G r) (R := hS G p) (C := hS G r) _ (i + 1) (j + 1) (Nat.le_refl _); omega), ?_⟩)
                exfalso; omega
  | succ n ih =>
    intro j μ o5 o6 o7 o8 hn hj hF hT
    have hm := hm0.fr (by rw [hF 47 (by decide)]) (hF 48 (by decide)) (hF 49 (by decide)) (hF 50 (by decide))
    have h8 := hm.1.n
    have hsp := hm.1.s hp
    have hsr := hm.1.s hr
    have ep := (hm.2.2 p hp.1 hp.2).1
    have er := (hm.2.2 r hr.1 hr.2).1
    refine seg 2 (show (j < 0 → Wp 130 170 [some (vR 47), some (vI p), some (vI r), some (vI i), some (vI j), o5, o6, o7, o8] [] μ R) ∧ (¬ (j < 0) → Wp 130 24 [some (vR 47), some (vI p), some (vI r), some (vI i), some (vI j), o5, o6, o7, o8] [] μ R) from ⟨fun c9 => ?_, fun c9 => ?_⟩)
    ·
      first | (obtain rfl : j = -1 := (by omega); exact hk μ _ _ _ _ _ hF hT) | (exfalso; omega)
    ·
      refine seg 8 (show (0 ≤ p ∧ p < 8) ∧ (μ 48 p ≤ i → Wp 130 150 [some (vR 47), some (vI p), some (vI r), some (vI i), some (vI j), some (vI 0), o6, o7, o8] [] μ R) ∧ (¬ (μ 48 p ≤ i) → Wp 130 37 [some (vR 47), some (vI p), some (vI r), some (vI i), some (vI j), some (vI 0), o6, o7, o8] [] μ R) from ⟨by first | omega | (have hb := tab_m hT (by omega) (by omega); have g1 := cm_rg (f := hL G p) (g := hL G r) (R := hS G p) (C := hS G r) _ (i + 1) (j + 1) (Nat.le_refl _); omega), fun c10 => ?_, fun c10 => ?_⟩)
      ·
        refine seg 11 (show iR (9 * i) ∧ iR ((9 * i) + j) ∧ (0 ≤ ((9 * i) + j) ∧ ((9 * i) + j) < 81) ∧ iR (j + (-1)) ∧ Wp 130 19 [some (vR 47), some (vI p), some (vI r), some (vI i), some (vI (j + (-1))), some (vI 0), o6, o7, o8] [] (u2 μ 59 ((9 * i) + j) 0) R from ⟨by first | omega | (have hb := tab_m hT (by omega) (by omega); have g1 := cm_rg (f := hL G p) (g := hL G r) (R := hS G p) (C := hS G r) _ (i + 1) (j + 1) (Nat.le_refl _); omega), by first | omega | (have hb := tab_m hT (by omega) (by omega); have g1 := cm_rg (f := hL G p) (g := hL G r) (R := hS G p) (C := hS G r) _ (i + 1) (j + 1) (Nat.le_refl _); omega), by first | omega | (have hb := tab_m hT (by omega) (by omega); have g1 := cm_rg (f := hL G p) (g := hL G r) (R := hS G p) (C := hS G r) _ (i + 1) (j + 1) (Nat.le_refl _); omega), by first | omega | (have hb := tab_m hT (by omega) (by omega); have g1 := cm_rg (f := hL G p) (g := hL G r) (R := hS G p) (C := hS G r) _ (i + 1) (j + 1) (Nat.le_refl _); omega), ?_⟩)
        refine ih (j + -1) _ _ _ _ _ (by omega) (by omega) (fun q hq => by rw [u2_ne hq]; exact hF q hq) ?_
        rw [u2_at]
        refine hT.step2 (by omega) (by omega) (by omega) ?_
        first
        | (rw [cm_out (by omega)])
        | (have hb := tab_m hT (by omega) (by omega)
           rw [cm_in (by omega)]
           unfold mx
           first
           | (rw [if_pos (by assumption), ← hb.1, ← hb.2.1, ← hb.2.2]; repeat' split; all_goals omega)
           | (rw [if_neg (by assumption), ← hb.1, ← hb.2.1]; repeat' split; all_goals omega))
      ·
        refine seg 6 (show (0 ≤ r ∧ r < 8) ∧ (μ 48 r ≤ j → Wp 130 150 [some (vR 47), some (vI p), some (vI r), some (vI i), some (vI j), some (vI 0), o6, o7, o8] [] μ R) ∧ (¬ (μ 48 r ≤ j) → Wp 130 48 [some (vR 47), some (vI p), some (vI r), some (vI i), some (vI j), some (vI 0), o6, o7, o8] [] μ R) from ⟨by first | omega | (have hb := tab_m hT (by omega) (by omega); have g1 := cm_rg (f := hL G p) (g := hL G r) (R := hS G p) (C := hS G r) _ (i + 1) (j + 1) (Nat.le_refl _); omega), fun c11 => ?_, fun c11 => ?_⟩)
        ·
          refine seg 11 (show iR (9 * i) ∧ iR ((9 * i) + j) ∧ (0 ≤ ((9 * i) + j) ∧ ((9 * i) + j) < 81) ∧ iR (j + (-1)) ∧ Wp 130 19 [some (vR 47), some (vI p), some (vI r), some (vI i), some (vI (j + (-1))), some (vI 0), o6, o7, o8] [] (u2 μ 59 ((9 * i) + j) 0) R from ⟨by first | omega | (have hb := tab_m hT (by omega) (by omega); have g1 := cm_rg (f := hL G p) (g := hL G r) (R := hS G p) (C := hS G r) _ (i + 1) (j + 1) (Nat.le_refl _); omega), by first | omega | (have hb := tab_m hT (by omega) (by omega); have g1 := cm_rg (f := hL G p) (g := hL G r) (R := hS G p) (C := hS G r) _ (i + 1) (j + 1) (Nat.le_refl _); omega), by first | omega | (have hb := tab_m hT (by omega) (by omega); have g1 := cm_rg (f := hL G p) (g := hL G r) (R := hS G p) (C := hS G r) _ (i + 1) (j + 1) (Nat.le_refl _); omega), by first | omega | (have hb := tab_m hT (by omega) (by omega); have g1 := cm_rg (f := hL G p) (g := hL G r) (R := hS G p) (C := hS G r) _ (i + 1) (j + 1) (Nat.le_refl _); omega), ?_⟩)
          refine ih (j + -1) _ _ _ _ _ (by omega) (by omega) (fun q hq => by rw [u2_ne hq]; exact hF q hq) ?_
          rw [u2_at]
          refine hT.step2 (by omega) (by omega) (by omega) ?_
          first
          | (rw [cm_out (by omega)])
          | (have hb := tab_m hT (by omega) (by omega)
             rw [cm_in (by omega)]
             unfold mx
             first
             | (rw [if_pos (by assumption), ← hb.1, ← hb.2.1, ← hb.2.2]; repeat' split; all_goals omega)
             | (rw [if_neg (by assumption), ← hb.1, ← hb.2.1]; repeat' split; all_goals omega))
        ·
          refine seg 25 (show iR (9 * i) ∧ iR ((9 * i) + 9) ∧ iR (((9 * i) + 9) + j) ∧ (0 ≤ (((9 * i) + 9) + j) ∧ (((9 * i) + 9) + j) < 81) ∧ iR (9 * i) ∧ iR ((9 * i) + j) ∧ iR (((9 * i) + j) + 1) ∧ (0 ≤ (((9 * i) + j) + 1) ∧ (((9 * i) + j) + 1) < 81) ∧ (μ 59 (((9 * i) + 9) + j) ≤ μ 59 (((9 * i) + j) + 1) → Wp 130 93 [some (vR 47), some (vI p), some (vI r), some (vI i), some (vI j), some (vI 0), some (vI (μ 59 (((9 * i) + 9) + j))), some (vI (μ 59 (((9 * i) + j) + 1))), o8] [] μ R) ∧ (¬ (μ 59 (((9 * i) + 9) + j) ≤ μ 59 (((9 * i) + j) + 1)) → Wp 130 88 [some (vR 47), some (vI p), some (vI r), some (vI i), some (vI j), some (vI 0), some (vI (μ 59 (((9 * i) + 9) + j))), some (vI (μ 59 (((9 * i) + j) + 1))), o8] [] μ R) from ⟨by first | omega | (have hb := tab_m hT (by omega) (by omega); have g1 := cm_rg (f := hL G p) (g := hL G r) (R := hS G p) (C := hS G r) _ (i + 1) (j + 1) (Nat.le_refl _); omega), by first | omega | (have hb := tab_m hT (by omega) (by omega); have g1 := cm_rg (f := hL G p) (g := hL G r) (R := hS G p) (C := hS G r) _ (i + 1) (j + 1) (Nat.le_refl _); omega), by first | omega | (have hb := tab_m hT (by omega) (by omega); have g1 := cm_rg (f := hL G p) (g := hL G r) (R := hS G p) (C := hS G r) _ (i + 1) (j + 1) (Nat.le_refl _); omega), by first | omega | (have hb := tab_m hT (by omega) (by omega); have g1 := cm_rg (f := hL G p) (g := hL G r) (R := hS G p) (C := hS G r) _ (i + 1) (j + 1) (Nat.le_refl _); omega), by first | omega | (have hb := tab_m hT (by omega) (by omega); have g1 := cm_rg (f := hL G p) (g := hL G r) (R := hS G p) (C := hS G r) _ (i + 1) (j + 1) (Nat.le_refl _); omega), by first | omega | (have hb := tab_m hT (by omega) (by omega); have g1 := cm_rg (f := hL G p) (g := hL G r) (R := hS G p) (C := hS G r) _ (i + 1) (j + 1) (Nat.le_refl _); omega), by first | omega | (have hb := tab_m hT (by omega) (by omega); have g1 := cm_rg (f := hL G p) (g := hL G r) (R := hS G p) (C := hS G r) _ (i + 1) (j + 1) (Nat.le_refl _); omega), by first | omega | (have hb := tab_m hT (by omega) (by omega); have g1 := cm_rg (f := hL G p) (g := hL G r) (R := hS G p) (C := hS G r) _ (i + 1) (j + 1) (Nat.le_refl _); omega), fun c12 => ?_, fun c12 => ?_⟩)
          ·
            refine seg 21 (show iR (9 * i) ∧ iR ((9 * i) + 9) ∧ iR (((9 * i) + 9) + j) ∧ iR ((((9 * i) + 9) + j) + 1) ∧ (0 ≤ ((((9 * i) + 9) + j) + 1) ∧ ((((9 * i) + 9) + j) + 1) < 81) ∧ iR ((μ 59 ((((9 * i) + 9) + j) + 1)) + 1) ∧ Wp 129 0 [some (vR 47), some (vI p), some (vI i)] [] μ (fun rr μ' => Wp 130 124 [some (vR 47), some (vI p), some (vI r), some (vI i), some (vI j), some (vI (μ 59 (((9 * i) + j) + 1))), some (vI (μ 59 (((9 * i) + 9) + j))), some (vI (μ 59 (((9 * i) + j) + 1))), some (vI ((μ 59 ((((9 * i) + 9) + j) + 1)) + 1))] (rr.toList ++ []) μ' R) from ⟨by first | omega | (have hb := tab_m hT (by omega) (by omega); have g1 := cm_rg (f := hL G p) (g := hL G r) (R := hS G p) (C := hS G r) _ (i + 1) (j + 1) (Nat.le_refl _); omega), by first | omega | (have hb := tab_m hT (by omega) (by omega); have g1 := cm_rg (f := hL G p) (g := hL G r) (R := hS G p) (C := hS G r) _ (i + 1) (j + 1) (Nat.le_refl _); omega), by first | omega | (have hb := tab_m hT (by omega) (by omega); have g1 := cm_rg (f := hL G p) (g := hL G r) (R := hS G p) (C := hS G r) _ (i + 1) (j + 1) (Nat.le_refl _); omega), by first | omega | (have hb := tab_m hT (by omega) (by omega); have g1 := cm_rg (f := hL G p) (g := hL G r) (R := hS G p) (C := hS G r) _ (i + 1) (j + 1) (Nat.le_refl _); omega), by first | omega | (have hb := tab_m hT (by omega) (by omega); have g1 := cm_rg (f := hL G p) (g := hL G r) (R := hS G p) (C := hS G r) _ (i + 1) (j + 1) (Nat.le_refl _); omega), by first | omega | (have hb := tab_m hT (by omega) (by omega); have g1 := cm_rg (f := hL G p) (g := hL G r) (R := hS G p) (C := hS G r) _ (i + 1) (j + 1) (Nat.le_refl _); omega), ?_⟩)
            refine n129 hm (by omega) (by omega) ?_
            refine seg 4 (show Wp 129 0 [some (vR 47), some (vI r), some (vI j)] [] μ (fun rr μ' => Wp 130 131 [some (vR 47), some (vI p), some (vI r), some (vI i), some (vI j), some (vI (μ 59 (((9 * i) + j) + 1))), some (vI (μ 59 (((9 * i) + 9) + j))), some (vI (μ 59 (((9 * i) + j) + 1))), some (vI ((μ 59 ((((9 * i) + 9) + j) + 1)) + 1))] (rr.toList ++ [vI (hL G p i)]) μ' R) from ?_)
            refine n129 hm (by omega) (by omega) ?_
            refine seg 1 (show (¬ (hL G p i = hL G r j) → Wp 130 146 [some (vR 47), some (vI p), some (vI r), some (vI i), some (vI j), some (vI (μ 59 (((9 * i) + j) + 1))), some (vI (μ 59 (((9 * i) + 9) + j))), some (vI (μ 59 (((9 * i) + j) + 1))), some (vI ((μ 59 ((((9 * i) + 9) + j) + 1)) + 1))] [] μ R) ∧ (hL G p i = hL G r j → Wp 130 134 [some (vR 47), some (vI p), some (vI r), some (vI i), some (vI j), some (vI (μ 59 (((9 * i) + j) + 1))), some (vI (μ 59 (((9 * i) + 9) + j))), some (vI (μ 59 (((9 * i) + j) + 1))), some (vI ((μ 59 ((((9 * i) + 9) + j) + 1)) + 1))] [] μ R) from ⟨fun c13 => ?_, fun c13 => ?_⟩)
            ·
              refine seg 13 (show iR (9 * i) ∧ iR ((9 * i) + j) ∧ (0 ≤ ((9 * i) + j) ∧ ((9 * i) + j) < 81) ∧ iR (j + (-1)) ∧ Wp 130 19 [some (vR 47), some (vI p), some (vI r), some (vI i), some (vI (j + (-1))), some (vI (μ 59 (((9 * i) + j) + 1))), some (vI (μ 59 (((9 * i) + 9) + j))), some (vI (μ 59 (((9 * i) + j) + 1))), some (vI ((μ 59 ((((9 * i) + 9) + j) + 1)) + 1))] [] (u2 μ 59 ((9 * i) + j) (μ 59 (((9 * i) + j) + 1))) R from ⟨by first | omega | (have hb := tab_m hT (by omega) (by omega); have g1 := cm_rg (f := hL G p) (g := hL G r) (R := hS G p) (C := hS G r) _ (i + 1) (j + 1) (Nat.le_refl _); omega), by first | omega | (have hb := tab_m hT (by omega) (by omega); have g1 := cm_rg (f := hL G p) (g := hL G r) (R := hS G p) (C := hS G r) _ (i + 1) (j + 1) (Nat.le_refl _); omega), by first | omega | (have hb := tab_m hT (by omega) (by omega); have g1 := cm_rg (f := hL G p) (g := hL G r) (R := hS G p) (C := hS G r) _ (i + 1) (j + 1) (Nat.le_refl _); omega), by first | omega | (have hb := tab_m hT (by omega) (by omega); have g1 := cm_rg (f := hL G p) (g := hL G r) (R := hS G p) (C := hS G r) _ (i + 1) (j + 1) (Nat.le_refl _); omega), ?_⟩)
              refine ih (j + -1) _ _ _ _ _ (by omega) (by omega) (fun q hq => by rw [u2_ne hq]; exact hF q hq) ?_
              rw [u2_at]
              refine hT.step2 (by omega) (by omega) (by omega) ?_
              first
              | (rw [cm_out (by omega)])
              | (have hb := tab_m hT (by omega) (by omega)
                 rw [cm_in (by omega)]
                 unfold mx
                 first
                 | (rw [if_pos (by assumption), ← hb.1, ← hb.2.1, ← hb.2.2]; repeat' split; all_goals omega)
                 | (rw [if_neg (by assumption), ← hb.1, ← hb.2.1]; repeat' split; all_goals omega))
            ·
              refine seg 3 (show ((μ 59 ((((9 * i) + 9) + j) + 1)) + 1 ≤ μ 59 (((9 * i) + j) + 1) → Wp 130 146 [some (vR 47), some (vI p), some (vI r), some (vI i), some (vI j), some (vI (μ 59 (((9 * i) + j) + 1))), some (vI (μ 59 (((9 * i) + 9) + j))), some (vI (μ 59 (((9 * i) + j) + 1))), some (vI ((μ 59 ((((9 * i) + 9) + j) + 1)) + 1))] [] μ R) ∧ (¬ ((μ 59 ((((9 * i) + 9) + j) + 1)) + 1 ≤ μ 59 (((9 * i) + j) + 1)) → Wp 130 141 [some (vR 47), some (vI p), some (vI r), some (vI i), some (vI j), some (vI (μ 59 (((9 * i) + j) + 1))), some (vI (μ 59 (((9 * i) + 9) + j))), some (vI (μ 59 (((9 * i) + j) + 1))), some (vI ((μ 59 ((((9 * i) + 9) + j) + 1)) + 1))] [] μ R) from ⟨fun c14 => ?_, fun c14 => ?_⟩)
              ·
                refine seg 13 (show iR (9 * i) ∧ iR ((9 * i) + j) ∧ (0 ≤ ((9 * i) + j) ∧ ((9 * i) + j) < 81) ∧ iR (j + (-1)) ∧ Wp 130 19 [some (vR 47), some (vI p), some (vI r), some (vI i), some (vI (j + (-1))), some (vI (μ 59 (((9 * i) + j) + 1))), some (vI (μ 59 (((9 * i) + 9) + j))), some (vI (μ 59 (((9 * i) + j) + 1))), some (vI ((μ 59 ((((9 * i) + 9) + j) + 1)) + 1))] [] (u2 μ 59 ((9 * i) + j) (μ 59 (((9 * i) + j) + 1))) R from ⟨by first | omega | (have hb := tab_m hT (by omega) (by omega); have g1 := cm_rg (f := hL G p) (g := hL G r) (R := hS G p) (C := hS G r) _ (i + 1) (j + 1) (Nat.le_refl _); omega), by first | omega | (have hb := tab_m hT (by omega) (by omega); have g1 := cm_rg (f := hL G p) (g := hL G r) (R := hS G p) (C := hS G r) _ (i + 1) (j + 1) (Nat.le_refl _); omega), by first | omega | (have hb := tab_m hT (by omega) (by omega); have g1 := cm_rg (f := hL G p) (g := hL G r) (R := hS G p) (C := hS G r) _ (i + 1) (j + 1) (Nat.le_refl _); omega), by first | omega | (have hb := tab_m hT (by omega) (by omega); have g1 := cm_rg (f := hL G p) (g := hL G r) (R := hS G p) (C := hS G r) _ (i + 1) (j + 1) (Nat.le_refl _); omega), ?_⟩)
                refine ih (j + -1) _ _ _ _ _ (by omega) (by omega) (fun q hq => by rw [u2_ne hq]; exact hF q hq) ?_
                rw [u2_at]
                refine hT.step2 (by omega) (by omega) (by omega) ?_
                first
                | (rw [cm_out (by omega)])
                | (have hb := tab_m hT (by omega) (by omega)
                   rw [cm_in (by omega)]
                   unfold mx
                   first
                   | (rw [if_pos (by assumption), ← hb.1, ← hb.2.1, ← hb.2.2]; repeat' split; all_goals omega)
                   | (rw [if_neg (by assumption), ← hb.1, ← hb.2.1]; repeat' split; all_goals omega))
              ·
                refine seg 14 (show iR (9 * i) ∧ iR ((9 * i) + j) ∧ (0 ≤ ((9 * i) + j) ∧ ((9 * i) + j) < 81) ∧ iR (j + (-1)) ∧ Wp 130 19 [some (vR 47), some (vI p), some (vI r), some (vI i), some (vI (j + (-1))), some (vI ((μ 59 ((((9 * i) + 9) + j) + 1)) + 1)), some (vI (μ 59 (((9 * i) + 9) + j))), some (vI (μ 59 (((9 * i) + j) + 1))), some (vI ((μ 59 ((((9 * i) + 9) + j) + 1)) + 1))] [] (u2 μ 59 ((9 * i) + j) ((μ 59 ((((9 * i) + 9) + j) + 1)) + 1)) R from ⟨by first | omega | (have hb := tab_m hT (by omega) (by omega); have g1 := cm_rg (f := hL G p) (g := hL G r) (R := hS G p) (C := hS G r) _ (i + 1) (j + 1) (Nat.le_refl _); omega), by first | omega | (have hb := tab_m hT (by omega) (by omega); have g1 := cm_rg (f := hL G p) (g := hL G r) (R := hS G p) (C := hS G r) _ (i + 1) (j + 1) (Nat.le_refl _); omega), by first | omega | (have hb := tab_m hT (by omega) (by omega); have g1 := cm_rg (f := hL G p) (g := hL G r) (R := hS G p) (C := hS G r) _ (i + 1) (j + 1) (Nat.le_refl _); omega), by first | omega | (have hb := tab_m hT (by omega) (by omega); have g1 := cm_rg (f := hL G p) (g := hL G r) (R := hS G p) (C := hS G r) _ (i + 1) (j + 1) (Nat.le_refl _); omega), ?_⟩)
                refine ih (j + -1) _ _ _ _ _ (by omega) (by omega) (fun q hq => by rw [u2_ne hq]; exact hF q hq) ?_
                rw [u2_at]
                refine hT.step2 (by omega) (by omega) (by omega) ?_
                first
                | (rw [cm_out (by omega)])
                | (have hb := tab_m hT (by omega) (by omega)
                   rw [cm_in (by omega)]
                   unfold mx
                   first
                   | (rw [if_pos (by assumption), ← hb.1, ← hb.2.1, ← hb.2.2]; repeat' split; all_goals omega)
                   | (rw [if_neg (by assumption), ← hb.1, ← hb.2.1]; repeat' split; all_goals omega))
          ·
            refine seg 22 (show iR (9 * i) ∧ iR ((9 * i) + 9) ∧ iR (((9 * i) + 9) + j) ∧ iR ((((9 * i) + 9) + j) + 1) ∧ (0 ≤ ((((9 * i) + 9) + j) + 1) ∧ ((((9 * i) + 9) + j) + 1) < 81) ∧ iR ((μ 59 ((((9 * i) + 9) + j) + 1)) + 1) ∧ Wp 129 0 [some (vR 47), some (vI p), some (vI i)] [] μ (fun rr μ' => Wp 130 124 [some (vR 47), some (vI p), some (vI r), some (vI i), some (vI j), some (vI (μ 59 (((9 * i) + 9) + j))), some (vI (μ 59 (((9 * i) + 9) + j))), some (vI (μ 59 (((9 * i) + j) + 1))), some (vI ((μ 59 ((((9 * i) + 9) + j) + 1)) + 1))] (rr.toList ++ []) μ' R) from ⟨by first | omega | (have hb := tab_m hT (by omega) (by omega); have g1 := cm_rg (f := hL G p) (g := hL G r) (R := hS G p) (C := hS G r) _ (i + 1) (j + 1) (Nat.le_refl _); omega), by first | omega | (have hb := tab_m hT (by omega) (by omega); have g1 := cm_rg (f := hL G p) (g := hL G r) (R := hS G p) (C := hS G r) _ (i + 1) (j + 1) (Nat.le_refl _); omega), by first | omega | (have hb := tab_m hT (by omega) (by omega); have g1 := cm_rg (f := hL G p) (g := hL G r) (R := hS G p) (C := hS G r) _ (i + 1) (j + 1) (Nat.le_refl _); omega), by first | omega | (have hb := tab_m hT (by omega) (by omega); have g1 := cm_rg (f := hL G p) (g := hL G r) (R := hS G p) (C := hS G r) _ (i + 1) (j + 1) (Nat.le_refl _); omega), by first | omega | (have hb := tab_m hT (by omega) (by omega); have g1 := cm_rg (f := hL G p) (g := hL G r) (R := hS G p) (C := hS G r) _ (i + 1) (j + 1) (Nat.le_refl _); omega), by first | omega | (have hb := tab_m hT (by omega) (by omega); have g1 := cm_rg (f := hL G p) (g := hL G r) (R := hS G p) (C := hS G r) _ (i + 1) (j + 1) (Nat.le_refl _); omega), ?_⟩)
            refine n129 hm (by omega) (by omega) ?_
            refine seg 4 (show Wp 129 0 [some (vR 47), some (vI r), some (vI j)] [] μ (fun rr μ' => Wp 130 131 [some (vR 47), some (vI p), some (vI r), some (vI i), some (vI j), some (vI (μ 59 (((9 * i) + 9) + j))), some (vI (μ 59 (((9 * i) + 9) + j))), some (vI (μ 59 (((9 * i) + j) + 1))), some (vI ((μ 59 ((((9 * i) + 9) + j) + 1)) + 1))] (rr.toList ++ [vI (hL G p i)]) μ' R) from ?_)
            refine n129 hm (by omega) (by omega) ?_
            refine seg 1 (show (¬ (hL G p i = hL G r j) → Wp 130 146 [some (vR 47), some (vI p), some (vI r), some (vI i), some (vI j), some (vI (μ 59 (((9 * i) + 9) + j))), some (vI (μ 59 (((9 * i) + 9) + j))), some (vI (μ 59 (((9 * i) + j) + 1))), some (vI ((μ 59 ((((9 * i) + 9) + j) + 1)) + 1))] [] μ R) ∧ (hL G p i = hL G r j → Wp 130 134 [some (vR 47), some (vI p), some (vI r), some (vI i), some (vI j), some (vI (μ 59 (((9 * i) + 9) + j))), some (vI (μ 59 (((9 * i) + 9) + j))), some (vI (μ 59 (((9 * i) + j) + 1))), some (vI ((μ 59 ((((9 * i) + 9) + j) + 1)) + 1))] [] μ R) from ⟨fun c15 => ?_, fun c15 => ?_⟩)
            ·
              refine seg 13 (show iR (9 * i) ∧ iR ((9 * i) + j) ∧ (0 ≤ ((9 * i) + j) ∧ ((9 * i) + j) < 81) ∧ iR (j + (-1)) ∧ Wp 130 19 [some (vR 47), some (vI p), some (vI r), some (vI i), some (vI (j + (-1))), some (vI (μ 59 (((9 * i) + 9) + j))), some (vI (μ 59 (((9 * i) + 9) + j))), some (vI (μ 59 (((9 * i) + j) + 1))), some (vI ((μ 59 ((((9 * i) + 9) + j) + 1)) + 1))] [] (u2 μ 59 ((9 * i) + j) (μ 59 (((9 * i) + 9) + j))) R from ⟨by first | omega | (have hb := tab_m hT (by omega) (by omega); have g1 := cm_rg (f := hL G p) (g := hL G r) (R := hS G p) (C := hS G r) _ (i + 1) (j + 1) (Nat.le_refl _); omega), by first | omega | (have hb := tab_m hT (by omega) (by omega); have g1 := cm_rg (f := hL G p) (g := hL G r) (R := hS G p) (C := hS G r) _ (i + 1) (j + 1) (Nat.le_refl _); omega), by first | omega | (have hb := tab_m hT (by omega) (by omega); have g1 := cm_rg (f := hL G p) (g := hL G r) (R := hS G p) (C := hS G r) _ (i + 1) (j + 1) (Nat.le_refl _); omega), by first | omega | (have hb := tab_m hT (by omega) (by omega); have g1 := cm_rg (f := hL G p) (g := hL G r) (R := hS G p) (C := hS G r) _ (i + 1) (j + 1) (Nat.le_refl _); omega), ?_⟩)
              refine ih (j + -1) _ _ _ _ _ (by omega) (by omega) (fun q hq => by rw [u2_ne hq]; exact hF q hq) ?_
              rw [u2_at]
              refine hT.step2 (by omega) (by omega) (by omega) ?_
              first
              | (rw [cm_out (by omega)])
              | (have hb := tab_m hT (by omega) (by omega)
                 rw [cm_in (by omega)]
                 unfold mx
                 first
                 | (rw [if_pos (by assumption), ← hb.1, ← hb.2.1, ← hb.2.2]; repeat' split; all_goals omega)
                 | (rw [if_neg (by assumption), ← hb.1, ← hb.2.1]; repeat' split; all_goals omega))
            ·
              refine seg 3 (show ((μ 59 ((((9 * i) + 9) + j) + 1)) + 1 ≤ μ 59 (((9 * i) + 9) + j) → Wp 130 146 [some (vR 47), some (vI p), some (vI r), some (vI i), some (vI j), some (vI (μ 59 (((9 * i) + 9) + j))), some (vI (μ 59 (((9 * i) + 9) + j))), some (vI (μ 59 (((9 * i) + j) + 1))), some (vI ((μ 59 ((((9 * i) + 9) + j) + 1)) + 1))] [] μ R) ∧ (¬ ((μ 59 ((((9 * i) + 9) + j) + 1)) + 1 ≤ μ 59 (((9 * i) + 9) + j)) → Wp 130 141 [some (vR 47), some (vI p), some (vI r), some (vI i), some (vI j), some (vI (μ 59 (((9 * i) + 9) + j))), some (vI (μ 59 (((9 * i) + 9) + j))), some (vI (μ 59 (((9 * i) + j) + 1))), some (vI ((μ 59 ((((9 * i) + 9) + j) + 1)) + 1))] [] μ R) from ⟨fun c16 => ?_, fun c16 => ?_⟩)
              ·
                refine seg 13 (show iR (9 * i) ∧ iR ((9 * i) + j) ∧ (0 ≤ ((9 * i) + j) ∧ ((9 * i) + j) < 81) ∧ iR (j + (-1)) ∧ Wp 130 19 [some (vR 47), some (vI p), some (vI r), some (vI i), some (vI (j + (-1))), some (vI (μ 59 (((9 * i) + 9) + j))), some (vI (μ 59 (((9 * i) + 9) + j))), some (vI (μ 59 (((9 * i) + j) + 1))), some (vI ((μ 59 ((((9 * i) + 9) + j) + 1)) + 1))] [] (u2 μ 59 ((9 * i) + j) (μ 59 (((9 * i) + 9) + j))) R from ⟨by first | omega | (have hb := tab_m hT (by omega) (by omega); have g1 := cm_rg (f := hL G p) (g := hL G r) (R := hS G p) (C := hS G r) _ (i + 1) (j + 1) (Nat.le_refl _); omega), by first | omega | (have hb := tab_m hT (by omega) (by omega); have g1 := cm_rg (f := hL G p) (g := hL G r) (R := hS G p) (C := hS G r) _ (i + 1) (j + 1) (Nat.le_refl _); omega), by first | omega | (have hb := tab_m hT (by omega) (by omega); have g1 := cm_rg (f := hL G p) (g := hL G r) (R := hS G p) (C := hS G r) _ (i + 1) (j + 1) (Nat.le_refl _); omega), by first | omega | (have hb := tab_m hT (by omega) (by omega); have g1 := cm_rg (f := hL G p) (g := hL G r) (R := hS G p) (C := hS G r) _ (i + 1) (j + 1) (Nat.le_refl _); omega), ?_⟩)
                refine ih (j + -1) _ _ _ _ _ (by omega) (by omega) (fun q hq => by rw [u2_ne hq]; exact hF q hq) ?_
                rw [u2_at]
                refine hT.step2 (by omega) (by omega) (by omega) ?_
                first
                | (rw [cm_out (by omega)])
                | (have hb := tab_m hT (by omega) (by omega)
                   rw [cm_in (by omega)]
                   unfold mx
                   first
                   | (rw [if_pos (by assumption), ← hb.1, ← hb.2.1, ← hb.2.2]; repeat' split; all_goals omega)
                   | (rw [if_neg (by assumption), ← hb.1, ← hb.2.1]; repeat' split; all_goals omega))
              ·
                refine seg 14 (show iR (9 * i) ∧ iR ((9 * i) + j) ∧ (0 ≤ ((9 * i) + j) ∧ ((9 * i) + j) < 81) ∧ iR (j + (-1)) ∧ Wp 130 19 [some (vR 47), some (vI p), some (vI r), some (vI i), some (vI (j + (-1))), some (vI ((μ 59 ((((9 * i) + 9) + j) + 1)) + 1)), some (vI (μ 59 (((9 * i) + 9) + j))), some (vI (μ 59 (((9 * i) + j) + 1))), some (vI ((μ 59 ((((9 * i) + 9) + j) + 1)) + 1))] [] (u2 μ 59 ((9 * i) + j) ((μ 59 ((((9 * i) + 9) + j) + 1)) + 1)) R from ⟨by first | omega | (have hb := tab_m hT (by omega) (by omega); have g1 := cm_rg (f := hL G p) (g := hL G r) (R := hS G p) (C := hS G r) _ (i + 1) (j + 1) (Nat.le_refl _); omega), by first | omega | (have hb := tab_m hT (by omega) (by omega); have g1 := cm_rg (f := hL G p) (g := hL G r) (R := hS G p) (C := hS G r) _ (i + 1) (j + 1) (Nat.le_refl _); omega), by first | omega | (have hb := tab_m hT (by omega) (by omega); have g1 := cm_rg (f := hL G p) (g := hL G r) (R := hS G p) (C := hS G r) _ (i + 1) (j + 1) (Nat.le_refl _); omega), by first | omega | (have hb := tab_m hT (by omega) (by omega); have g1 := cm_rg (f := hL G p) (g := hL G r) (R := hS G p) (C := hS G r) _ (i + 1) (j + 1) (Nat.le_refl _); omega), ?_⟩)
                refine ih (j + -1) _ _ _ _ _ (by omega) (by omega) (fun q hq => by rw [u2_ne hq]; exact hF q hq) ?_
                rw [u2_at]
                refine hT.step2 (by omega) (by omega) (by omega) ?_
                first
                | (rw [cm_out (by omega)])
                | (have hb := tab_m hT (by omega) (by omega)
                   rw [cm_in (by omega)]
                   unfold mx
                   first
                   | (rw [if_pos (by assumption), ← hb.1, ← hb.2.1, ← hb.2.2]; repeat' split; all_goals omega)
                   | (rw [if_neg (by assumption), ← hb.1, ← hb.2.1]; repeat' split; all_goals omega))
theorem l130b {G : Hi} {p r : Int} {R : Po} {μ0 : Mu} (hm0 : MH G μ0) (hp : 0 ≤ p ∧ p < hN G) (hr : 0 ≤ r ∧ r < hN G) (hk : ∀ μ : Mu, (∀ q, q ≠ 59 → μ q = μ0 q) → Tab (μ 59) (hL G p) (hL G r) (hS G p) (hS G r) (-1) (hS G r) → R none μ) : ∀ (n : Nat) (i : Int) (μ : Mu) (o4 o5 o6 o7 o8 : Option PV), i + 1 = n → i ≤ hS G p → (∀ q, q ≠ 59 → μ q = μ0 q) → Tab (μ 59) (hL G p) (hL G r) (hS G p) (hS G r) i (hS G r) → Wp 130 7 [some (vR 47), some (vI p), some (vI r), some (vI i), o4, o5, o6, o7, o8] [] μ R := by
  intro n
  induction n with
  | zero =>
    intro i μ o4 o5 o6 o7 o8 hn hi hF hT
    have hm := hm0.fr (by rw [hF 47 (by decide)]) (hF 48 (by decide)) (hF 49 (by decide)) (hF 50 (by decide))
    have h8 := hm.1.n
    have hsp := hm.1.s hp
    have hsr := hm.1.s hr
    have ep := (hm.2.2 p hp.1 hp.2).1
    have er := (hm.2.2 r hr.1 hr.2).1
    refine seg 2 (show (i < 0 → Wp 130 176 [some (vR 47), some (vI p), some (vI r), some (vI i), o4, o5, o6, o7, o8] [] μ R) ∧ (¬ (i < 0) → Wp 130 11 [some (vR 47), some (vI p), some (vI r), some (vI i), o4, o5, o6, o7, o8] [] μ R) from ⟨fun c1 => ?_, fun c1 => ?_⟩)
    ·
      refine seg 1 (show R none μ from ?_)
      first | (obtain rfl : i = -1 := (by omega); exact hk μ hF hT) | (exfalso; omega)
    ·
      refine seg 5 (show (0 ≤ r ∧ r < 8) ∧ Wp 130 19 [some (vR 47), some (vI p), some (vI r), some (vI i), some (vI (μ 48 r)), o5, o6, o7, o8] [] μ R from ⟨by omega, ?_⟩)
      exfalso; omega
  | succ n ih =>
    intro i μ o4 o5 o6 o7 o8 hn hi hF hT
    have hm := hm0.fr (by rw [hF 47 (by decide)]) (hF 48 (by decide)) (hF 49 (by decide)) (hF 50 (by decide))
    have h8 := hm.1.n
    have hsp := hm.1.s hp
    have hsr := hm.1.s hr
    have ep := (hm.2.2 p hp.1 hp.2).1
    have er := (hm.2.2 r hr.1 hr.2).1
    refine seg 2 (show (i < 0 → Wp 130 176 [some (vR 47), some (vI p), some (vI r), some (vI i), o4, o5, o6, o7, o8] [] μ R) ∧ (¬ (i < 0) → Wp 130 11 [some (vR 47), some (vI p), some (vI r), some (vI i), o4, o5, o6, o7, o8] [] μ R) from ⟨fun c2 => ?_, fun c2 => ?_⟩)
    ·
      refine seg 1 (show R none μ from ?_)
      first | (obtain rfl : i = -1 := (by omega); exact hk μ hF hT) | (exfalso; omega)
    ·
      refine seg 5 (show (0 ≤ r ∧ r < 8) ∧ Wp 130 19 [some (vR 47), some (vI p), some (vI r), some (vI i), some (vI (μ 48 r)), o5, o6, o7, o8] [] μ R from ⟨by omega, ?_⟩)
      rw [er]
      refine l130a hm0 hp hr (i := i) (by omega) (fun μ o4 o5 o6 o7 o8 hF hT => ?_) (hS G r + 1).toNat (hS G r) μ _ _ _ _ (by omega) (Int.le_refl _) hF hT
      refine seg 2 (show iR (i + (-1)) ∧ Wp 130 7 [some (vR 47), some (vI p), some (vI r), some (vI (i + (-1))), o4, o5, o6, o7, o8] [] μ R from ⟨by omega, ?_⟩)
      exact ih (i + -1) μ _ _ _ _ _ (by omega) (by omega) hF hT.row
theorem n130 {G : Hi} {p r : Int} {R : Po} {μ : Mu} (hm : MH G μ) (hp : 0 ≤ p ∧ p < hN G) (hr : 0 ≤ r ∧ r < hN G) (hk : ∀ μ2 : Mu, (∀ q, q ≠ 59 → μ2 q = μ q) → Tab (μ2 59) (hL G p) (hL G r) (hS G p) (hS G r) (-1) (hS G r) → R none μ2) : Wp 130 0 [some (vR 47), some (vI p), some (vI r), none, none, none, none, none, none] [] μ R := by
  have h8 := hm.1.n
  have hsp := hm.1.s hp
  have ep := (hm.2.2 p hp.1 hp.2).1
  refine seg 5 (show (0 ≤ p ∧ p < 8) ∧ Wp 130 7 [some (vR 47), some (vI p), some (vI r), some (vI (μ 48 p)), none, none, none, none, none] [] μ R from ⟨by omega, ?_⟩)
  rw [ep]
  exact l130b hm hp hr hk (hS G p + 1).toNat (hS G p) μ _ _ _ _ _ (by omega) (Int.le_refl _) (fun _ _ => rfl) (fun a b h1 _ h3 h4 => (by exfalso; omega))
