/-! the model's history -/
theorem st0y {T : Tx} {j : Int} {D : Hi} (h : T.2 j = 82) (hn : hN D < 8) : stD T j 0 D = some (1, bgD D) := by
  unfold stD; rw [if_pos h, if_pos ⟨rfl, hn⟩]
theorem st0n {T : Tx} {j : Int} {D : Hi} (h : ¬ (T.2 j = 82 ∧ hN D < 8)) : stD T j 0 D = none := by
  unfold stD; repeat' split
  all_goals first | rfl | (exfalso; omega)
theorem st1c {T : Tx} {j : Int} {D : Hi} (h : T.2 j = 58) : stD T j 1 D = some (2, D) := by
  unfold stD; rw [if_neg (by omega), if_pos h, if_pos rfl]
theorem st1p {T : Tx} {j k : Int} {D : Hi} (h : 48 ≤ T.2 j ∧ T.2 j ≤ 57) (hd : ¬ dg T (j + 1)) (hn : T.2 j - 48 < hN D) (hk : (k = 0 ∧ hP D (hN D) 0 = -9) ∨ (k = 1 ∧ hP D (hN D) 0 ≠ -9 ∧ hP D (hN D) 1 = -9 ∧ hP D (hN D) 0 ≠ T.2 j - 48)) : stD T j 1 D = some (1, paD D k (T.2 j - 48)) := by
  unfold stD
  rw [if_neg (by omega), if_neg (by omega), if_neg (by omega), if_neg (by omega), if_pos ⟨rfl, h, hd, hn⟩]
  rcases hk with ⟨rfl, a⟩ | ⟨rfl, a, b, c⟩
  · rw [if_pos a]
  · rw [if_neg a, if_pos ⟨b, c⟩]
theorem st1n {T : Tx} {j : Int} {D : Hi} (h : T.2 j ≠ 58) (hn : ¬ ((48 ≤ T.2 j ∧ T.2 j ≤ 57) ∧ ¬ dg T (j + 1) ∧ T.2 j - 48 < hN D ∧ (hP D (hN D) 0 = -9 ∨ (hP D (hN D) 1 = -9 ∧ hP D (hN D) 0 ≠ T.2 j - 48)))) : stD T j 1 D = none := by
  unfold stD; repeat' split
  all_goals first | rfl | (exfalso; omega)
theorem st2e {T : Tx} {j : Int} {D : Hi} (h : T.2 j = 59) : stD T j 2 D = some (0, enD D) := by
  unfold stD; rw [if_neg (by omega), if_neg (by omega), if_pos h, if_pos rfl]
theorem st2l {T : Tx} {j : Int} {D : Hi} (h : 97 ≤ T.2 j ∧ T.2 j ≤ 122) (hn : hS D (hN D) < 8) : stD T j 2 D = some (2, lnD D (T.2 j)) := by
  unfold stD; rw [if_neg (by omega), if_neg (by omega), if_neg (by omega), if_pos h, if_pos ⟨rfl, hn⟩]
theorem st2n {T : Tx} {j : Int} {D : Hi} (h : T.2 j ≠ 59) (hn : ¬ ((97 ≤ T.2 j ∧ T.2 j ≤ 122) ∧ hS D (hN D) < 8)) : stD T j 2 D = none := by
  unfold stD; repeat' split
  all_goals first | rfl | (exfalso; omega)
theorem tk_j {T : Tx} {j : Int} {μ : Mu} (h : TK T j μ) : 0 ≤ j ∧ j ≤ T.1 ∧ μ 47 12 = j ∧ 0 ≤ μ 47 11 ∧ μ 47 11 ≤ T.1 := by
  obtain ⟨a, b, c, d⟩ := h; omega
theorem tk_e {T : Tx} {j : Int} {μ : Mu} (h : TK T j μ) (ht : μ 47 13 = -1) : j = T.1 := by
  obtain ⟨a, b, c, d⟩ := h; omega
theorem tk_in {T : Tx} {j : Int} {μ : Mu} (h : TK T j μ) (ht : μ 47 13 ≠ -1) : j < T.1 ∧ T.2 j ≠ 32 := by
  obtain ⟨a, b, c, d⟩ := h; omega
theorem tk_s {T : Tx} {j x : Int} {μ : Mu} (h : TK T j μ) (hx : x = 82 ∨ x = 58 ∨ x = 59) (ht : μ 47 13 = x) : j < T.1 ∧ T.2 j ≠ 32 ∧ T.2 j = x ∧ μ 47 11 = j + 1 := by
  obtain ⟨a, b, c, d⟩ := h; omega
theorem tk_x {T : Tx} {j x : Int} {μ : Mu} (h : TK T j μ) (hx : x = 82 ∨ x = 58 ∨ x = 59) (ht : ¬ μ 47 13 = x) : j < T.1 → T.2 j ≠ x := by
  obtain ⟨a, b, c, d⟩ := h; intro _; omega
theorem tk_a {T : Tx} {j : Int} {μ : Mu} (h : TK T j μ) (ht : μ 47 13 = 97) : j < T.1 ∧ T.2 j ≠ 32 ∧ (97 ≤ T.2 j ∧ T.2 j ≤ 122) ∧ μ 47 14 = T.2 j ∧ μ 47 11 = j + 1 := by
  obtain ⟨a, b, c, d⟩ := h; omega
theorem tk_na {T : Tx} {j : Int} {μ : Mu} (h : TK T j μ) (ht : ¬ μ 47 13 = 97) : j < T.1 → ¬ (97 ≤ T.2 j ∧ T.2 j ≤ 122) := by
  obtain ⟨a, b, c, d⟩ := h; intro _; omega
theorem tk_d {T : Tx} {j : Int} {μ : Mu} (h : TK T j μ) (ht : μ 47 13 = 48) : j < T.1 ∧ T.2 j ≠ 32 ∧ (48 ≤ T.2 j ∧ T.2 j ≤ 57) ∧ ((¬ dg T (j + 1) ∧ μ 47 14 = T.2 j - 48 ∧ μ 47 11 = j + 1) ∨ (dg T (j + 1) ∧ 10 ≤ μ 47 14)) := by
  obtain ⟨a, b, c, d⟩ := h; omega
theorem tk_nd {T : Tx} {j : Int} {μ : Mu} (h : TK T j μ) (ht : ¬ μ 47 13 = 48) : j < T.1 → ¬ (48 ≤ T.2 j ∧ T.2 j ≤ 57) := by
  obtain ⟨a, b, c, d⟩ := h; intro _; omega
theorem pfl {T : Tx} {j q : Int} {D : Hi} {μ : Mu} (h : TK T j μ) (hq : q ≠ 0) (hs : j < T.1 → stD T j q D = none) : prs T j q D = .inl j := by
  obtain ⟨a, b, c, d⟩ := h
  by_cases e : j = T.1
  · rw [prs_e (by omega), if_neg hq, e]
  · exact prs_n (by omega) (by omega) (hs (by omega))
def FM (μ2 μ : Mu) : Prop := (∀ q, q ≠ 47 → q ≠ 56 → q ≠ 57 → q ≠ 58 → μ2 q = μ q) ∧ (∀ i, (i < 11 ∨ 16 < i) → μ2 47 i = μ 47 i)
theorem FM.u {μ2 μ : Mu} {a v : Int} (h : FM μ2 μ) (ha : 11 ≤ a ∧ a ≤ 16) : FM (u2 μ2 47 a v) μ := ⟨fun q h1 h2 h3 h4 => by rw [u2_ne h1]; exact h.1 q h1 h2 h3 h4, fun i hi => by rw [u2_at, up1_n (by omega)]; exact h.2 i hi⟩
theorem FM.v {μ2 μ : Mu} {p : Nat} {a v : Int} (h : FM μ2 μ) (ha : p = 56 ∨ p = 57 ∨ p = 58) : FM (u2 μ2 p a v) μ := ⟨fun q h1 h2 h3 h4 => by rw [u2_ne (by omega)]; exact h.1 q h1 h2 h3 h4, fun i hi => by rw [u2_ne (by omega)]; exact h.2 i hi⟩
theorem FM.f {μ2 μ1 μ : Mu} (h : FM μ1 μ) (hf : FT μ2 μ1) : FM μ2 μ := ⟨fun q h1 h2 h3 h4 => by rw [hf.1 q h1]; exact h.1 q h1 h2 h3 h4, fun i hi => by rw [hf.2 i (by omega)]; exact h.2 i hi⟩
theorem FM.t {T : Tx} {μ2 μ : Mu} (h : FM μ2 μ) (ht : RMT T μ) : RMT T μ2 := ht.fr (h.2 10 (by decide)) (h.1 55 (by decide) (by decide) (by decide) (by decide))
theorem FM.r {μ : Mu} : FM μ μ := ⟨fun _ _ _ _ _ => rfl, fun _ _ => rfl⟩
/-- the model's draft: the revisions below m -/
def DMr (D : Hi) (m : Int) (μ : Mu) : Prop := ∀ r, 0 ≤ r → r < m → μ 56 r = hS D r ∧ μ 57 (2 * r) = hP D r 0 ∧ μ 57 (2 * r + 1) = hP D r 1 ∧ ∀ k, 0 ≤ k → k < hS D r → μ 58 (8 * r + k) = hL D r k
def DMp (D : Hi) (r : Int) (μ : Mu) : Prop := μ 57 (2 * r) = hP D r 0 ∧ μ 57 (2 * r + 1) = hP D r 1
theorem DMr.fr {D : Hi} {m : Int} {μ2 μ : Mu} (h : DMr D m μ) (h6 : μ2 56 = μ 56) (h7 : μ2 57 = μ 57) (h8 : μ2 58 = μ 58) : DMr D m μ2 := by unfold DMr; rw [h6, h7, h8]; exact h
theorem DMr.ft {D : Hi} {m : Int} {μ2 μ : Mu} (h : DMr D m μ) (hf : FT μ2 μ) : DMr D m μ2 := h.fr (hf.1 56 (by decide)) (hf.1 57 (by decide)) (hf.1 58 (by decide))
theorem DMp.ft {D : Hi} {m : Int} {μ2 μ : Mu} (h : DMp D m μ) (hf : FT μ2 μ) : DMp D m μ2 := by unfold DMp; rw [hf.1 57 (by decide)]; exact h
def KP (D : Hi) (k : Int) : Prop := (k = 0 ∧ hP D (hN D) 0 = -9 ∧ hP D (hN D) 1 = -9) ∨ (k = 1 ∧ hP D (hN D) 0 ≠ -9 ∧ hP D (hN D) 1 = -9) ∨ (k = 2 ∧ hP D (hN D) 0 ≠ -9 ∧ hP D (hN D) 1 ≠ -9)
theorem KP.pa {D : Hi} {k v : Int} (h : KP D k) (hk : k = 0 ∨ k = 1) (hv : 0 ≤ v) : KP (paD D k v) (k + 1) := by
  unfold KP at h ⊢
  rw [paN, paP, paP]
  rcases hk with rfl | rfl
  · rw [if_pos ⟨rfl, rfl⟩, if_neg (by omega)]; omega
  · rw [if_neg (by omega), if_pos ⟨rfl, rfl⟩]; omega
theorem DMr.pa {D : Hi} {k v : Int} {μ : Mu} (h : DMr D (hN D) μ) (hk : k = 0 ∨ k = 1) : DMr (paD D k v) (hN D) (u2 μ 57 (2 * hN D + k) v) := by
  intro r a b
  have := h r a b
  rw [u2_ne (by decide), u2_at, u2_ne (by decide), up1_n (by omega), up1_n (by omega), paS, paP, paP, if_neg (by omega), if_neg (by omega)]
  exact this
theorem DMp.pa {D : Hi} {k v : Int} {μ : Mu} (h : DMp D (hN D) μ) (hk : k = 0 ∨ k = 1) : DMp (paD D k v) (hN D) (u2 μ 57 (2 * hN D + k) v) := by
  unfold DMp at h ⊢
  rw [u2_at, paP, paP]
  rcases hk with rfl | rfl
  · rw [show 2 * hN D + 0 = 2 * hN D by omega, up1_s, up1_n (by omega), if_pos ⟨rfl, rfl⟩, if_neg (by omega)]; exact ⟨rfl, h.2⟩
  · rw [up1_n (by omega), up1_s, if_neg (by omega), if_pos ⟨rfl, rfl⟩]; exact ⟨h.1, rfl⟩
theorem DMr.bg {D : Hi} {μ : Mu} (h : DMr D (hN D) μ) : DMr (bgD D) (hN D) (u2 (u2 μ 57 (2 * hN D) (-9)) 57 (2 * hN D + 1) (-9)) := by
  intro r a b
  have := h r a b
  rw [u2_ne (by decide), u2_ne (by decide), u2_at, u2_at, u2_ne (by decide), u2_ne (by decide), up1_n (by omega), up1_n (by omega), up1_n (by omega), up1_n (by omega), bgS, bgP, bgP, if_neg (by omega), if_neg (by omega), if_neg (by omega), if_neg (by omega), if_neg (by omega)]
  exact this
theorem DMp.bg {D : Hi} {μ : Mu} : DMp (bgD D) (hN D) (u2 (u2 μ 57 (2 * hN D) (-9)) 57 (2 * hN D + 1) (-9)) := by
  unfold DMp
  rw [u2_at, u2_at, up1_n (by omega), up1_s, up1_s, bgP, bgP, if_neg (by omega), if_pos ⟨rfl, rfl⟩, if_pos ⟨rfl, rfl⟩]
  exact ⟨rfl, rfl⟩
theorem KP.bg {D : Hi} : KP (bgD D) 0 := by
  left; rw [bgN, bgP, bgP, if_neg (by omega), if_pos ⟨rfl, rfl⟩, if_pos ⟨rfl, rfl⟩]; exact ⟨rfl, rfl, rfl⟩
theorem DMr.ln {D : Hi} {c z : Int} {μ : Mu} (h : DMr D (hN D + 1) μ) (hd : DOK 2 D) (hb : hS D (hN D) < 8) (hz : z = hS D (hN D)) : DMr (lnD D c) (hN D + 1) (u2 (u2 μ 58 (8 * hN D + z) c) 56 (hN D) (z + 1)) := by
  intro r a b
  subst hz
  have hh := h r a b
  have h8 := (hd.2.2 r a (by omega)).1
  have h9 := (hd.2.2 (hN D) (by omega) (by omega)).1
  rw [u2_at, u2_ne (by decide), u2_ne (by decide), u2_ne (by decide), u2_ne (by decide), u2_at, lnS, lnP, lnP]
  refine ⟨?_, hh.2.1, hh.2.2.1, fun k k1 k2 => ?_⟩
  · by_cases e : r = hN D
    · rw [e, up1_s, if_pos rfl]
    · rw [up1_n e, if_neg e]; exact hh.1
  · rw [lnL]
    by_cases e : r = hN D
    · rw [if_pos e] at k2
      by_cases e2 : k = hS D (hN D)
      · rw [e, e2, up1_s, if_pos ⟨rfl, rfl⟩]
      · rw [up1_n (by omega), if_neg (by omega)]; exact hh.2.2.2 k k1 (by rw [e]; omega)
    · rw [if_neg e] at k2
      rw [up1_n (by omega), if_neg (by omega)]; exact hh.2.2.2 k k1 k2
theorem l126 {T : Tx} {R : Po} {μ0 : Mu} {ρ : Int ⊕ Hi} {r : Int} (ht0 : RMT T μ0) (hf : ∀ f, ρ = .inl f → (0 ≤ f ∧ f ≤ T.1) → ∀ μ2 : Mu, FM μ2 μ0 → μ2 47 15 = f → R (some (vI 0)) μ2) (hy : ∀ p D2, ρ = prs T p 2 D2 → DOK 2 D2 → hN D2 = r → hS D2 r = 0 → ∀ μ2 : Mu, FM μ2 μ0 → μ2 47 11 = p → (0 ≤ p ∧ p ≤ T.1) → DMr D2 r μ2 → DMp D2 r μ2 → μ2 47 16 = r → R (some (vI 1)) μ2) : ∀ (n : Nat) (k j : Int) (D : Hi) (μ : Mu), 2 - k = n → 0 ≤ k → FM μ μ0 → TK T j μ → ρ = prs T j 1 D → hN D = r → hS D r = 0 → DOK 1 D → KP D k → DMr D r μ → DMp D r μ → μ 47 16 = r → Wp 126 28 [some (vR 47), some (vI r), some (vI k)] [] μ R := by
  intro n
  induction n with
  | zero =>
    intro k j D μ hn h0 hF hk hp hr hs0 hd hK hm hmp h16
    have ht : RMT T μ := hF.t ht0
    have et := ht.2.1
    obtain ⟨j1, j2, j3, j4, j5⟩ := tk_j hk
    have d1 := hd.1
    have d2 := hd.2.1
    subst hr
    have hK2 := hK
    unfold KP at hK2
    have m1 := hmp.1
    have m2 := hmp.2
    refine seg 3 (show (2 ≤ k → Wp 126 99 [some (vR 47), some (vI (hN D)), some (vI k)] [] μ R) ∧ (¬ (2 ≤ k) → Wp 126 33 [some (vR 47), some (vI (hN D)), some (vI k)] [] μ R) from ⟨fun c1 => ?_, fun c1 => ?_⟩)
    ·
      refine seg 4 (show (μ 47 13 = 58 → Wp 126 115 [some (vR 47), some (vI (hN D)), some (vI k)] [] μ R) ∧ (¬ (μ 47 13 = 58) → Wp 126 108 [some (vR 47), some (vI (hN D)), some (vI k)] [] μ R) from ⟨fun c2 => ?_, fun c2 => ?_⟩)
      ·
        refine seg 3 (show (1 = 0 ∨ 1 = 1) ∧ R (some (vI 1)) μ from ⟨by decide, ?_⟩)
        obtain ⟨w1, w2, w3, w4⟩ := tk_s (x := 58) hk (by omega) (by assumption)
        exact hy (j + 1) D (by rw [hp, prs_y w1 w2 (st1c w3)]) (dok_co hd) rfl hs0 μ hF w4 (by omega) hm hmp h16
      ·
        refine seg 2 (show Wp 125 0 [some (vR 47)] [] μ (fun rr μ' => Wp 126 112 [some (vR 47), some (vI (hN D)), some (vI k)] (rr.toList ++ []) μ' R) from ?_)
        refine n125 ?_
        refine seg 1 (show (0 = 0 → Wp 126 119 [some (vR 47), some (vI (hN D)), some (vI k)] [] (u2 μ 47 15 (μ 47 12)) R) ∧ (¬ (0 = 0) → Wp 126 115 [some (vR 47), some (vI (hN D)), some (vI k)] [] (u2 μ 47 15 (μ 47 12)) R) from ⟨fun _ => ?_, fun z => absurd z (by decide)⟩)
        refine seg 2 (show (0 = 0 ∨ 0 = 1) ∧ R (some (vI 0)) (u2 μ 47 15 (μ 47 12)) from ⟨by decide, ?_⟩)
        first
        | (exfalso; omega)
        | (have w1 := tk_x (x := 58) hk (by omega) (by assumption)
           exact hf j (by rw [hp]; exact pfl hk (by decide) (fun z => st1n (w1 z) (by omega))) (by omega) _ (hF.u (by decide)) j3)
    ·
      refine seg 4 (show (¬ (μ 47 13 = 48) → Wp 126 99 [some (vR 47), some (vI (hN D)), some (vI k)] [] μ R) ∧ (μ 47 13 = 48 → Wp 126 42 [some (vR 47), some (vI (hN D)), some (vI k)] [] μ R) from ⟨fun c3 => ?_, fun c3 => ?_⟩)
      ·
        refine seg 4 (show (μ 47 13 = 58 → Wp 126 115 [some (vR 47), some (vI (hN D)), some (vI k)] [] μ R) ∧ (¬ (μ 47 13 = 58) → Wp 126 108 [some (vR 47), some (vI (hN D)), some (vI k)] [] μ R) from ⟨fun c4 => ?_, fun c4 => ?_⟩)
        ·
          refine seg 3 (show (1 = 0 ∨ 1 = 1) ∧ R (some (vI 1)) μ from ⟨by decide, ?_⟩)
          obtain ⟨w1, w2, w3, w4⟩ := tk_s (x := 58) hk (by omega) (by assumption)
          exact hy (j + 1) D (by rw [hp, prs_y w1 w2 (st1c w3)]) (dok_co hd) rfl hs0 μ hF w4 (by omega) hm hmp h16
        ·
          refine seg 2 (show Wp 125 0 [some (vR 47)] [] μ (fun rr μ' => Wp 126 112 [some (vR 47), some (vI (hN D)), some (vI k)] (rr.toList ++ []) μ' R) from ?_)
          refine n125 ?_
          refine seg 1 (show (0 = 0 → Wp 126 119 [some (vR 47), some (vI (hN D)), some (vI k)] [] (u2 μ 47 15 (μ 47 12)) R) ∧ (¬ (0 = 0) → Wp 126 115 [some (vR 47), some (vI (hN D)), some (vI k)] [] (u2 μ 47 15 (μ 47 12)) R) from ⟨fun _ => ?_, fun z => absurd z (by decide)⟩)
          refine seg 2 (show (0 = 0 ∨ 0 = 1) ∧ R (some (vI 0)) (u2 μ 47 15 (μ 47 12)) from ⟨by decide, ?_⟩)
          first
          | (exfalso; omega)
          | (have w1 := tk_x (x := 58) hk (by omega) (by assumption)
             exact hf j (by rw [hp]; exact pfl hk (by decide) (fun z => st1n (w1 z) (by omega))) (by omega) _ (hF.u (by decide)) j3)
      ·
        refine seg 4 (show (hN D ≤ μ 47 14 → Wp 126 70 [some (vR 47), some (vI (hN D)), some (vI k)] [] μ R) ∧ (¬ (hN D ≤ μ 47 14) → Wp 126 50 [some (vR 47), some (vI (hN D)), some (vI k)] [] μ R) from ⟨fun c5 => ?_, fun c5 => ?_⟩)
        ·
          refine seg 2 (show Wp 125 0 [some (vR 47)] [] μ (fun rr μ' => Wp 126 74 [some (vR 47), some (vI (hN D)), some (vI k)] (rr.toList ++ []) μ' R) from ?_)
          refine n125 ?_
          refine seg 1 (show (0 = 0 ∨ 0 = 1) ∧ R (some (vI 0)) (u2 μ 47 15 (μ 47 12)) from ⟨by decide, ?_⟩)
          first
          | (exfalso; omega)
          | (have w1 := tk_x (x := 58) hk (by omega) (by assumption)
             exact hf j (by rw [hp]; exact pfl hk (by decide) (fun z => st1n (w1 z) (by omega))) (by omega) _ (hF.u (by decide)) j3)
        ·
          refine seg 3 (show (¬ (k = 1) → Wp 126 75 [some (vR 47), some (vI (hN D)), some (vI k)] [] μ R) ∧ (k = 1 → Wp 126 55 [some (vR 47), some (vI (hN D)), some (vI k)] [] μ R) from ⟨fun c6 => ?_, fun c6 => ?_⟩)
          ·
            refine seg 12 (show iR (2 * (hN D)) ∧ iR ((2 * (hN D)) + k) ∧ (0 ≤ ((2 * (hN D)) + k) ∧ ((2 * (hN D)) + k) < 16) ∧ Wp 124 0 [some (vR 47), none] [] (u2 μ 57 ((2 * (hN D)) + k) (μ 47 14)) (fun rr μ' => Wp 126 93 [some (vR 47), some (vI (hN D)), some (vI k)] (rr.toList ++ []) μ' R) from ⟨by omega, by omega, by omega, ?_⟩)
            exfalso; omega
          ·
            refine seg 9 (show iR (2 * (hN D)) ∧ (0 ≤ (2 * (hN D)) ∧ (2 * (hN D)) < 16) ∧ (¬ (μ 47 14 = μ 57 (2 * (hN D))) → Wp 126 75 [some (vR 47), some (vI (hN D)), some (vI k)] [] μ R) ∧ (μ 47 14 = μ 57 (2 * (hN D)) → Wp 126 70 [some (vR 47), some (vI (hN D)), some (vI k)] [] μ R) from ⟨by omega, by omega, fun c7 => ?_, fun c7 => ?_⟩)
            ·
              refine seg 12 (show iR (2 * (hN D)) ∧ iR ((2 * (hN D)) + k) ∧ (0 ≤ ((2 * (hN D)) + k) ∧ ((2 * (hN D)) + k) < 16) ∧ Wp 124 0 [some (vR 47), none] [] (u2 μ 57 ((2 * (hN D)) + k) (μ 47 14)) (fun rr μ' => Wp 126 93 [some (vR 47), some (vI (hN D)), some (vI k)] (rr.toList ++ []) μ' R) from ⟨by omega, by omega, by omega, ?_⟩)
              exfalso; omega
            ·
              refine seg 2 (show Wp 125 0 [some (vR 47)] [] μ (fun rr μ' => Wp 126 74 [some (vR 47), some (vI (hN D)), some (vI k)] (rr.toList ++ []) μ' R) from ?_)
              refine n125 ?_
              refine seg 1 (show (0 = 0 ∨ 0 = 1) ∧ R (some (vI 0)) (u2 μ 47 15 (μ 47 12)) from ⟨by decide, ?_⟩)
              first
              | (exfalso; omega)
              | (have w1 := tk_x (x := 58) hk (by omega) (by assumption)
                 exact hf j (by rw [hp]; exact pfl hk (by decide) (fun z => st1n (w1 z) (by omega))) (by omega) _ (hF.u (by decide)) j3)
  | succ n ih =>
    intro k j D μ hn h0 hF hk hp hr hs0 hd hK hm hmp h16
    have ht : RMT T μ := hF.t ht0
    have et := ht.2.1
    obtain ⟨j1, j2, j3, j4, j5⟩ := tk_j hk
    have d1 := hd.1
    have d2 := hd.2.1
    subst hr
    have hK2 := hK
    unfold KP at hK2
    have m1 := hmp.1
    have m2 := hmp.2
    refine seg 3 (show (2 ≤ k → Wp 126 99 [some (vR 47), some (vI (hN D)), some (vI k)] [] μ R) ∧ (¬ (2 ≤ k) → Wp 126 33 [some (vR 47), some (vI (hN D)), some (vI k)] [] μ R) from ⟨fun c8 => ?_, fun c8 => ?_⟩)
    ·
      refine seg 4 (show (μ 47 13 = 58 → Wp 126 115 [some (vR 47), some (vI (hN D)), some (vI k)] [] μ R) ∧ (¬ (μ 47 13 = 58) → Wp 126 108 [some (vR 47), some (vI (hN D)), some (vI k)] [] μ R) from ⟨fun c9 => ?_, fun c9 => ?_⟩)
      ·
        refine seg 3 (show (1 = 0 ∨ 1 = 1) ∧ R (some (vI 1)) μ from ⟨by decide, ?_⟩)
        obtain ⟨w1, w2, w3, w4⟩ := tk_s (x := 58) hk (by omega) (by assumption)
        exact hy (j + 1) D (by rw [hp, prs_y w1 w2 (st1c w3)]) (dok_co hd) rfl hs0 μ hF w4 (by omega) hm hmp h16
      ·
        refine seg 2 (show Wp 125 0 [some (vR 47)] [] μ (fun rr μ' => Wp 126 112 [some (vR 47), some (vI (hN D)), some (vI k)] (rr.toList ++ []) μ' R) from ?_)
        refine n125 ?_
        refine seg 1 (show (0 = 0 → Wp 126 119 [some (vR 47), some (vI (hN D)), some (vI k)] [] (u2 μ 47 15 (μ 47 12)) R) ∧ (¬ (0 = 0) → Wp 126 115 [some (vR 47), some (vI (hN D)), some (vI k)] [] (u2 μ 47 15 (μ 47 12)) R) from ⟨fun _ => ?_, fun z => absurd z (by decide)⟩)
        refine seg 2 (show (0 = 0 ∨ 0 = 1) ∧ R (some (vI 0)) (u2 μ 47 15 (μ 47 12)) from ⟨by decide, ?_⟩)
        first
        | (exfalso; omega)
        | (have w1 := tk_x (x := 58) hk (by omega) (by assumption)
           have w2 := tk_nd hk (by assumption)
           exact hf j (by rw [hp]; exact pfl hk (by decide) (fun z => st1n (w1 z) (fun y => w2 z y.1))) (by omega) _ (hF.u (by decide)) j3)
        | (obtain ⟨w1, w2, w3, w4⟩ := tk_d hk (by assumption)
           exact hf j (by rw [hp]; exact pfl hk (by decide) (fun z => st1n (by omega) (by omega))) (by omega) _ (hF.u (by decide)) j3)
    ·
      refine seg 4 (show (¬ (μ 47 13 = 48) → Wp 126 99 [some (vR 47), some (vI (hN D)), some (vI k)] [] μ R) ∧ (μ 47 13 = 48 → Wp 126 42 [some (vR 47), some (vI (hN D)), some (vI k)] [] μ R) from ⟨fun c10 => ?_, fun c10 => ?_⟩)
      ·
        refine seg 4 (show (μ 47 13 = 58 → Wp 126 115 [some (vR 47), some (vI (hN D)), some (vI k)] [] μ R) ∧ (¬ (μ 47 13 = 58) → Wp 126 108 [some (vR 47), some (vI (hN D)), some (vI k)] [] μ R) from ⟨fun c11 => ?_, fun c11 => ?_⟩)
        ·
          refine seg 3 (show (1 = 0 ∨ 1 = 1) ∧ R (some (vI 1)) μ from ⟨by decide, ?_⟩)
          obtain ⟨w1, w2, w3, w4⟩ := tk_s (x := 58) hk (by omega) (by assumption)
          exact hy (j + 1) D (by rw [hp, prs_y w1 w2 (st1c w3)]) (dok_co hd) rfl hs0 μ hF w4 (by omega) hm hmp h16
        ·
          refine seg 2 (show Wp 125 0 [some (vR 47)] [] μ (fun rr μ' => Wp 126 112 [some (vR 47), some (vI (hN D)), some (vI k)] (rr.toList ++ []) μ' R) from ?_)
          refine n125 ?_
          refine seg 1 (show (0 = 0 → Wp 126 119 [some (vR 47), some (vI (hN D)), some (vI k)] [] (u2 μ 47 15 (μ 47 12)) R) ∧ (¬ (0 = 0) → Wp 126 115 [some (vR 47), some (vI (hN D)), some (vI k)] [] (u2 μ 47 15 (μ 47 12)) R) from ⟨fun _ => ?_, fun z => absurd z (by decide)⟩)
          refine seg 2 (show (0 = 0 ∨ 0 = 1) ∧ R (some (vI 0)) (u2 μ 47 15 (μ 47 12)) from ⟨by decide, ?_⟩)
          first
          | (exfalso; omega)
          | (have w1 := tk_x (x := 58) hk (by omega) (by assumption)
             have w2 := tk_nd hk (by assumption)
             exact hf j (by rw [hp]; exact pfl hk (by decide) (fun z => st1n (w1 z) (fun y => w2 z y.1))) (by omega) _ (hF.u (by decide)) j3)
          | (obtain ⟨w1, w2, w3, w4⟩ := tk_d hk (by assumption)
             exact hf j (by rw [hp]; exact pfl hk (by decide) (fun z => st1n (by omega) (by omega))) (by omega) _ (hF.u (by decide)) j3)
      ·
        refine seg 4 (show (hN D ≤ μ 47 14 → Wp 126 70 [some (vR 47), some (vI (hN D)), some (vI k)] [] μ R) ∧ (¬ (hN D ≤ μ 47 14) → Wp 126 50 [some (vR 47), some (vI (hN D)), some (vI k)] [] μ R) from ⟨fun c12 => ?_, fun c12 => ?_⟩)
        ·
          refine seg 2 (show Wp 125 0 [some (vR 47)] [] μ (fun rr μ' => Wp 126 74 [some (vR 47), some (vI (hN D)), some (vI k)] (rr.toList ++ []) μ' R) from ?_)
          refine n125 ?_
          refine seg 1 (show (0 = 0 ∨ 0 = 1) ∧ R (some (vI 0)) (u2 μ 47 15 (μ 47 12)) from ⟨by decide, ?_⟩)
          first
          | (exfalso; omega)
          | (have w1 := tk_x (x := 58) hk (by omega) (by assumption)
             have w2 := tk_nd hk (by assumption)
             exact hf j (by rw [hp]; exact pfl hk (by decide) (fun z => st1n (w1 z) (fun y => w2 z y.1))) (by omega) _ (hF.u (by decide)) j3)
          | (obtain ⟨w1, w2, w3, w4⟩ := tk_d hk (by assumption)
             exact hf j (by rw [hp]; exact pfl hk (by decide) (fun z => st1n (by omega) (by omega))) (by omega) _ (hF.u (by decide)) j3)
        ·
          refine seg 3 (show (¬ (k = 1) → Wp 126 75 [some (vR 47), some (vI (hN D)), some (vI k)] [] μ R) ∧ (k = 1 → Wp 126 55 [some (vR 47), some (vI (hN D)), some (vI k)] [] μ R) from ⟨fun c13 => ?_, fun c13 => ?_⟩)
          ·
            refine seg 12 (show iR (2 * (hN D)) ∧ iR ((2 * (hN D)) + k) ∧ (0 ≤ ((2 * (hN D)) + k) ∧ ((2 * (hN D)) + k) < 16) ∧ Wp 124 0 [some (vR 47), none] [] (u2 μ 57 ((2 * (hN D)) + k) (μ 47 14)) (fun rr μ' => Wp 126 93 [some (vR 47), some (vI (hN D)), some (vI k)] (rr.toList ++ []) μ' R) from ⟨by omega, by omega, by omega, ?_⟩)
            obtain ⟨w1, w2, w3, w4⟩ := tk_d hk (by assumption)
            have w5 : ¬ dg T (j + 1) ∧ μ 47 14 = T.2 j - 48 ∧ μ 47 11 = j + 1 := by
              rcases w4 with w4 | w4
              · exact w4
              · exfalso; omega
            have hst : stD T j 1 D = some (1, paD D k (T.2 j - 48)) := st1p w3 w5.1 (by omega) (by omega)
            rw [prs_y w1 w2 hst] at hp
            obtain ⟨μ1, hμ1⟩ : ∃ z, z = u2 μ 57 ((2 * (hN D)) + k) (μ 47 14) := ⟨_, rfl⟩
            rw [← hμ1]
            have hF1 : FM μ1 μ0 := by rw [hμ1]; exact hF.v (by decide)
            have hm1 : DMr (paD D k (T.2 j - 48)) (hN D) μ1 := by rw [hμ1, w5.2.1]; exact hm.pa (by omega)
            have hmp1 : DMp (paD D k (T.2 j - 48)) (hN D) μ1 := by rw [hμ1, w5.2.1]; exact hmp.pa (by omega)
            refine n124 (hF1.t ht0) (p := j + 1) (by rw [hμ1, u2_ne (by decide)]; exact w5.2.2) (by omega) (fun j9 μ2 k2 p2 f2 => ?_)
            refine seg 2 (show iR (k + 1) ∧ Wp 126 28 [some (vR 47), some (vI (hN D)), some (vI (k + 1))] [] μ2 R from ⟨by omega, ?_⟩)
            exact ih (k + 1) j9 (paD D k (T.2 j - 48)) μ2 (by omega) (by omega) (hF1.f f2) k2 (by rw [hp, p2]) rfl hs0 (dok_pa hd (by omega) (by omega)) (hK.pa (by omega) (by omega)) (hm1.ft f2) (hmp1.ft f2) (by rw [f2.2 16 (by decide), hμ1, u2_ne (by decide)]; exact h16)
          ·
            refine seg 9 (show iR (2 * (hN D)) ∧ (0 ≤ (2 * (hN D)) ∧ (2 * (hN D)) < 16) ∧ (¬ (μ 47 14 = μ 57 (2 * (hN D))) → Wp 126 75 [some (vR 47), some (vI (hN D)), some (vI k)] [] μ R) ∧ (μ 47 14 = μ 57 (2 * (hN D)) → Wp 126 70 [some (vR 47), some (vI (hN D)), some (vI k)] [] μ R) from ⟨by omega, by omega, fun c14 => ?_, fun c14 => ?_⟩)
            ·
              refine seg 12 (show iR (2 * (hN D)) ∧ iR ((2 * (hN D)) + k) ∧ (0 ≤ ((2 * (hN D)) + k) ∧ ((2 * (hN D)) + k) < 16) ∧ Wp 124 0 [some (vR 47), none] [] (u2 μ 57 ((2 * (hN D)) + k) (μ 47 14)) (fun rr μ' => Wp 126 93 [some (vR 47), some (vI (hN D)), some (vI k)] (rr.toList ++ []) μ' R) from ⟨by omega, by omega, by omega, ?_⟩)
              obtain ⟨w1, w2, w3, w4⟩ := tk_d hk (by assumption)
              have w5 : ¬ dg T (j + 1) ∧ μ 47 14 = T.2 j - 48 ∧ μ 47 11 = j + 1 := by
                rcases w4 with w4 | w4
                · exact w4
                · exfalso; omega
              have hst : stD T j 1 D = some (1, paD D k (T.2 j - 48)) := st1p w3 w5.1 (by omega) (by omega)
              rw [prs_y w1 w2 hst] at hp
              obtain ⟨μ1, hμ1⟩ : ∃ z, z = u2 μ 57 ((2 * (hN D)) + k) (μ 47 14) := ⟨_, rfl⟩
              rw [← hμ1]
              have hF1 : FM μ1 μ0 := by rw [hμ1]; exact hF.v (by decide)
              have hm1 : DMr (paD D k (T.2 j - 48)) (hN D) μ1 := by rw [hμ1, w5.2.1]; exact hm.pa (by omega)
              have hmp1 : DMp (paD D k (T.2 j - 48)) (hN D) μ1 := by rw [hμ1, w5.2.1]; exact hmp.pa (by omega)
              refine n124 (hF1.t ht0) (p := j + 1) (by rw [hμ1, u2_ne (by decide)]; exact w5.2.2) (by omega) (fun j9 μ2 k2 p2 f2 => ?_)
              refine seg 2 (show iR (k + 1) ∧ Wp 126 28 [some (vR 47), some (vI (hN D)), some (vI (k + 1))] [] μ2 R from ⟨by omega, ?_⟩)
              exact ih (k + 1) j9 (paD D k (T.2 j - 48)) μ2 (by omega) (by omega) (hF1.f f2) k2 (by rw [hp, p2]) rfl hs0 (dok_pa hd (by omega) (by omega)) (hK.pa (by omega) (by omega)) (hm1.ft f2) (hmp1.ft f2) (by rw [f2.2 16 (by decide), hμ1, u2_ne (by decide)]; exact h16)
            ·
              refine seg 2 (show Wp 125 0 [some (vR 47)] [] μ (fun rr μ' => Wp 126 74 [some (vR 47), some (vI (hN D)), some (vI k)] (rr.toList ++ []) μ' R) from ?_)
              refine n125 ?_
              refine seg 1 (show (0 = 0 ∨ 0 = 1) ∧ R (some (vI 0)) (u2 μ 47 15 (μ 47 12)) from ⟨by decide, ?_⟩)
              first
              | (exfalso; omega)
              | (have w1 := tk_x (x := 58) hk (by omega) (by assumption)
                 have w2 := tk_nd hk (by assumption)
                 exact hf j (by rw [hp]; exact pfl hk (by decide) (fun z => st1n (w1 z) (fun y => w2 z y.1))) (by omega) _ (hF.u (by decide)) j3)
              | (obtain ⟨w1, w2, w3, w4⟩ := tk_d hk (by assumption)
                 exact hf j (by rw [hp]; exact pfl hk (by decide) (fun z => st1n (by omega) (by omega))) (by omega) _ (hF.u (by decide)) j3)
theorem n126 {T : Tx} {R : Po} {μ μ0 : Mu} {ρ : Int ⊕ Hi} {r p : Int} {D : Hi} (ht0 : RMT T μ0) (hf : ∀ f, ρ = .inl f → (0 ≤ f ∧ f ≤ T.1) → ∀ μ2 : Mu, FM μ2 μ0 → μ2 47 15 = f → R (some (vI 0)) μ2) (hy : ∀ p D2, ρ = prs T p 2 D2 → DOK 2 D2 → hN D2 = r → hS D2 r = 0 → ∀ μ2 : Mu, FM μ2 μ0 → μ2 47 11 = p → (0 ≤ p ∧ p ≤ T.1) → DMr D2 r μ2 → DMp D2 r μ2 → μ2 47 16 = r → R (some (vI 1)) μ2) (hF : FM μ μ0) (hr : hN D = r) (h8 : r < 8) (hd : DOK 0 D) (hm : DMr D r μ) (h16 : μ 47 16 = r) (h11 : μ 47 11 = p) (hb : 0 ≤ p ∧ p ≤ T.1) (hp : ρ = prs T p 1 (bgD D)) : Wp 126 0 [some (vR 47), some (vI r), none] [] μ R := by
  have d1 := hd.1
  subst hr
  refine seg 18 (show iR (2 * (hN D)) ∧ (0 ≤ (2 * (hN D)) ∧ (2 * (hN D)) < 16) ∧ iR (2 * (hN D)) ∧ iR ((2 * (hN D)) + 1) ∧ (0 ≤ ((2 * (hN D)) + 1) ∧ ((2 * (hN D)) + 1) < 16) ∧ Wp 124 0 [some (vR 47), none] [] (u2 (u2 μ 57 (2 * (hN D)) (-9)) 57 ((2 * (hN D)) + 1) (-9)) (fun rr μ' => Wp 126 26 [some (vR 47), some (vI (hN D)), none] (rr.toList ++ []) μ' R) from ⟨by omega, by omega, by omega, by omega, by omega, ?_⟩)
  obtain ⟨μ1, hμ1⟩ : ∃ z, z = u2 (u2 μ 57 (2 * (hN D)) (-9)) 57 ((2 * (hN D)) + 1) (-9) := ⟨_, rfl⟩
  rw [← hμ1]
  have hF1 : FM μ1 μ0 := by rw [hμ1]; exact (hF.v (by decide)).v (by decide)
  have hm1 : DMr (bgD D) (hN D) μ1 := by rw [hμ1]; exact hm.bg
  have hmp1 : DMp (bgD D) (hN D) μ1 := by rw [hμ1]; exact DMp.bg
  refine n124 (hF1.t ht0) (p := p) (by rw [hμ1, u2_ne (by decide), u2_ne (by decide)]; exact h11) hb (fun j9 μ2 k2 p2 f2 => ?_)
  refine seg 2 (show Wp 126 28 [some (vR 47), some (vI (hN D)), some (vI 0)] [] μ2 R from ?_)
  exact l126 ht0 hf hy 2 0 j9 (bgD D) μ2 (by decide) (by decide) (hF1.f f2) k2 (by rw [hp, p2]) rfl (by rw [bgS, if_pos rfl]) (dok_bg hd h8) KP.bg (hm1.ft f2) (hmp1.ft f2) (by rw [f2.2 16 (by decide), hμ1, u2_ne (by decide), u2_ne (by decide)]; exact h16)
theorem l127 {T : Tx} {R : Po} {μ0 : Mu} {ρ : Int ⊕ Hi} {r : Int} (ht0 : RMT T μ0) (hf : ∀ f, ρ = .inl f → (0 ≤ f ∧ f ≤ T.1) → ∀ μ2 : Mu, FM μ2 μ0 → μ2 47 15 = f → R (some (vI 0)) μ2) (hy : ∀ p D2, ρ = prs T p 0 D2 → DOK 0 D2 → hN D2 = r + 1 → ∀ μ2 : Mu, FM μ2 μ0 → μ2 47 11 = p → (0 ≤ p ∧ p ≤ T.1) → DMr D2 (r + 1) μ2 → μ2 47 16 = r + 1 → R (some (vI 1)) μ2) : ∀ (n : Nat) (j : Int) (D : Hi) (μ : Mu), 8 - hS D r = n → FM μ μ0 → TK T j μ → ρ = prs T j 2 D → hN D = r → DOK 2 D → DMr D (r + 1) μ → μ 47 16 = r + 1 → Wp 127 56 [some (vR 47), some (vI r)] [] μ R := by
  intro n
  induction n with
  | zero =>
    intro j D μ hn hF hk hp hr hd hm h16
    have ht : RMT T μ := hF.t ht0
    have et := ht.2.1
    obtain ⟨j1, j2, j3, j4, j5⟩ := tk_j hk
    have d1 := hd.1
    have d2 := hd.2.1
    subst hr
    have hz := hm (hN D) (by omega) (by omega)
    have hz1 := hz.1
    have h8 := (hd.2.2 (hN D) (by omega) (by omega)).1
    refine seg 4 (show (¬ (μ 47 13 = 97) → Wp 127 113 [some (vR 47), some (vI (hN D))] [] μ R) ∧ (μ 47 13 = 97 → Wp 127 65 [some (vR 47), some (vI (hN D))] [] μ R) from ⟨fun c1 => ?_, fun c1 => ?_⟩)
    ·
      refine seg 4 (show (μ 47 13 = 59 → Wp 127 129 [some (vR 47), some (vI (hN D))] [] μ R) ∧ (¬ (μ 47 13 = 59) → Wp 127 122 [some (vR 47), some (vI (hN D))] [] μ R) from ⟨fun c2 => ?_, fun c2 => ?_⟩)
      ·
        refine seg 3 (show (1 = 0 ∨ 1 = 1) ∧ R (some (vI 1)) μ from ⟨by decide, ?_⟩)
        obtain ⟨w1, w2, w3, w4⟩ := tk_s (x := 59) hk (by omega) (by assumption)
        exact hy (j + 1) (enD D) (by rw [hp, prs_y w1 w2 (st2e w3)]) (dok_en hd) rfl μ hF w4 (by omega) hm h16
      ·
        refine seg 2 (show Wp 125 0 [some (vR 47)] [] μ (fun rr μ' => Wp 127 126 [some (vR 47), some (vI (hN D))] (rr.toList ++ []) μ' R) from ?_)
        refine n125 ?_
        refine seg 1 (show (0 = 0 → Wp 127 133 [some (vR 47), some (vI (hN D))] [] (u2 μ 47 15 (μ 47 12)) R) ∧ (¬ (0 = 0) → Wp 127 129 [some (vR 47), some (vI (hN D))] [] (u2 μ 47 15 (μ 47 12)) R) from ⟨fun _ => ?_, fun z => absurd z (by decide)⟩)
        refine seg 2 (show (0 = 0 ∨ 0 = 1) ∧ R (some (vI 0)) (u2 μ 47 15 (μ 47 12)) from ⟨by decide, ?_⟩)
        first
        | (exfalso; omega)
        | (have w1 := tk_x (x := 59) hk (by omega) (by assumption)
           exact hf j (by rw [hp]; exact pfl hk (by decide) (fun z => st2n (w1 z) (by omega))) (by omega) _ (hF.u (by decide)) j3)
        | (have w1 := tk_x (x := 59) hk (by omega) (by assumption)
           have w2 := tk_na hk (by assumption)
           exact hf j (by rw [hp]; exact pfl hk (by decide) (fun z => st2n (w1 z) (fun y => w2 z y.1))) (by omega) _ (hF.u (by decide)) j3)
    ·
      refine seg 6 (show (0 ≤ (hN D) ∧ (hN D) < 8) ∧ (8 ≤ μ 56 (hN D) → Wp 127 113 [some (vR 47), some (vI (hN D))] [] μ R) ∧ (¬ (8 ≤ μ 56 (hN D)) → Wp 127 76 [some (vR 47), some (vI (hN D))] [] μ R) from ⟨by omega, fun c3 => ?_, fun c3 => ?_⟩)
      ·
        refine seg 4 (show (μ 47 13 = 59 → Wp 127 129 [some (vR 47), some (vI (hN D))] [] μ R) ∧ (¬ (μ 47 13 = 59) → Wp 127 122 [some (vR 47), some (vI (hN D))] [] μ R) from ⟨fun c4 => ?_, fun c4 => ?_⟩)
        ·
          refine seg 3 (show (1 = 0 ∨ 1 = 1) ∧ R (some (vI 1)) μ from ⟨by decide, ?_⟩)
          obtain ⟨w1, w2, w3, w4⟩ := tk_s (x := 59) hk (by omega) (by assumption)
          exact hy (j + 1) (enD D) (by rw [hp, prs_y w1 w2 (st2e w3)]) (dok_en hd) rfl μ hF w4 (by omega) hm h16
        ·
          refine seg 2 (show Wp 125 0 [some (vR 47)] [] μ (fun rr μ' => Wp 127 126 [some (vR 47), some (vI (hN D))] (rr.toList ++ []) μ' R) from ?_)
          refine n125 ?_
          refine seg 1 (show (0 = 0 → Wp 127 133 [some (vR 47), some (vI (hN D))] [] (u2 μ 47 15 (μ 47 12)) R) ∧ (¬ (0 = 0) → Wp 127 129 [some (vR 47), some (vI (hN D))] [] (u2 μ 47 15 (μ 47 12)) R) from ⟨fun _ => ?_, fun z => absurd z (by decide)⟩)
          refine seg 2 (show (0 = 0 ∨ 0 = 1) ∧ R (some (vI 0)) (u2 μ 47 15 (μ 47 12)) from ⟨by decide, ?_⟩)
          first
          | (exfalso; omega)
          | (have w1 := tk_x (x := 59) hk (by omega) (by assumption)
             exact hf j (by rw [hp]; exact pfl hk (by decide) (fun z => st2n (w1 z) (by omega))) (by omega) _ (hF.u (by decide)) j3)
          | (have w1 := tk_x (x := 59) hk (by omega) (by assumption)
             have w2 := tk_na hk (by assumption)
             exact hf j (by rw [hp]; exact pfl hk (by decide) (fun z => st2n (w1 z) (fun y => w2 z y.1))) (by omega) _ (hF.u (by decide)) j3)
      ·
        refine seg 23 (show iR (8 * (hN D)) ∧ (0 ≤ (hN D) ∧ (hN D) < 8) ∧ iR ((8 * (hN D)) + (μ 56 (hN D))) ∧ (0 ≤ ((8 * (hN D)) + (μ 56 (hN D))) ∧ ((8 * (hN D)) + (μ 56 (hN D))) < 64) ∧ (0 ≤ (hN D) ∧ (hN D) < 8) ∧ iR ((μ 56 (hN D)) + 1) ∧ (0 ≤ (hN D) ∧ (hN D) < 8) ∧ Wp 124 0 [some (vR 47), none] [] (u2 (u2 μ 58 ((8 * (hN D)) + (μ 56 (hN D))) (μ 47 14)) 56 (hN D) ((μ 56 (hN D)) + 1)) (fun rr μ' => Wp 127 110 [some (vR 47), some (vI (hN D))] (rr.toList ++ []) μ' R) from ⟨by omega, by omega, by omega, by omega, by omega, by omega, by omega, ?_⟩)
        exfalso; omega
  | succ n ih =>
    intro j D μ hn hF hk hp hr hd hm h16
    have ht : RMT T μ := hF.t ht0
    have et := ht.2.1
    obtain ⟨j1, j2, j3, j4, j5⟩ := tk_j hk
    have d1 := hd.1
    have d2 := hd.2.1
    subst hr
    have hz := hm (hN D) (by omega) (by omega)
    have hz1 := hz.1
    have h8 := (hd.2.2 (hN D) (by omega) (by omega)).1
    refine seg 4 (show (¬ (μ 47 13 = 97) → Wp 127 113 [some (vR 47), some (vI (hN D))] [] μ R) ∧ (μ 47 13 = 97 → Wp 127 65 [some (vR 47), some (vI (hN D))] [] μ R) from ⟨fun c5 => ?_, fun c5 => ?_⟩)
    ·
      refine seg 4 (show (μ 47 13 = 59 → Wp 127 129 [some (vR 47), some (vI (hN D))] [] μ R) ∧ (¬ (μ 47 13 = 59) → Wp 127 122 [some (vR 47), some (vI (hN D))] [] μ R) from ⟨fun c6 => ?_, fun c6 => ?_⟩)
      ·
        refine seg 3 (show (1 = 0 ∨ 1 = 1) ∧ R (some (vI 1)) μ from ⟨by decide, ?_⟩)
        obtain ⟨w1, w2, w3, w4⟩ := tk_s (x := 59) hk (by omega) (by assumption)
        exact hy (j + 1) (enD D) (by rw [hp, prs_y w1 w2 (st2e w3)]) (dok_en hd) rfl μ hF w4 (by omega) hm h16
      ·
        refine seg 2 (show Wp 125 0 [some (vR 47)] [] μ (fun rr μ' => Wp 127 126 [some (vR 47), some (vI (hN D))] (rr.toList ++ []) μ' R) from ?_)
        refine n125 ?_
        refine seg 1 (show (0 = 0 → Wp 127 133 [some (vR 47), some (vI (hN D))] [] (u2 μ 47 15 (μ 47 12)) R) ∧ (¬ (0 = 0) → Wp 127 129 [some (vR 47), some (vI (hN D))] [] (u2 μ 47 15 (μ 47 12)) R) from ⟨fun _ => ?_, fun z => absurd z (by decide)⟩)
        refine seg 2 (show (0 = 0 ∨ 0 = 1) ∧ R (some (vI 0)) (u2 μ 47 15 (μ 47 12)) from ⟨by decide, ?_⟩)
        first
        | (exfalso; omega)
        | (have w1 := tk_x (x := 59) hk (by omega) (by assumption)
           exact hf j (by rw [hp]; exact pfl hk (by decide) (fun z => st2n (w1 z) (by omega))) (by omega) _ (hF.u (by decide)) j3)
        | (have w1 := tk_x (x := 59) hk (by omega) (by assumption)
           have w2 := tk_na hk (by assumption)
           exact hf j (by rw [hp]; exact pfl hk (by decide) (fun z => st2n (w1 z) (fun y => w2 z y.1))) (by omega) _ (hF.u (by decide)) j3)
    ·
      refine seg 6 (show (0 ≤ (hN D) ∧ (hN D) < 8) ∧ (8 ≤ μ 56 (hN D) → Wp 127 113 [some (vR 47), some (vI (hN D))] [] μ R) ∧ (¬ (8 ≤ μ 56 (hN D)) → Wp 127 76 [some (vR 47), some (vI (hN D))] [] μ R) from ⟨by omega, fun c7 => ?_, fun c7 => ?_⟩)
      ·
        refine seg 4 (show (μ 47 13 = 59 → Wp 127 129 [some (vR 47), some (vI (hN D))] [] μ R) ∧ (¬ (μ 47 13 = 59) → Wp 127 122 [some (vR 47), some (vI (hN D))] [] μ R) from ⟨fun c8 => ?_, fun c8 => ?_⟩)
        ·
          refine seg 3 (show (1 = 0 ∨ 1 = 1) ∧ R (some (vI 1)) μ from ⟨by decide, ?_⟩)
          obtain ⟨w1, w2, w3, w4⟩ := tk_s (x := 59) hk (by omega) (by assumption)
          exact hy (j + 1) (enD D) (by rw [hp, prs_y w1 w2 (st2e w3)]) (dok_en hd) rfl μ hF w4 (by omega) hm h16
        ·
          refine seg 2 (show Wp 125 0 [some (vR 47)] [] μ (fun rr μ' => Wp 127 126 [some (vR 47), some (vI (hN D))] (rr.toList ++ []) μ' R) from ?_)
          refine n125 ?_
          refine seg 1 (show (0 = 0 → Wp 127 133 [some (vR 47), some (vI (hN D))] [] (u2 μ 47 15 (μ 47 12)) R) ∧ (¬ (0 = 0) → Wp 127 129 [some (vR 47), some (vI (hN D))] [] (u2 μ 47 15 (μ 47 12)) R) from ⟨fun _ => ?_, fun z => absurd z (by decide)⟩)
          refine seg 2 (show (0 = 0 ∨ 0 = 1) ∧ R (some (vI 0)) (u2 μ 47 15 (μ 47 12)) from ⟨by decide, ?_⟩)
          first
          | (exfalso; omega)
          | (have w1 := tk_x (x := 59) hk (by omega) (by assumption)
             exact hf j (by rw [hp]; exact pfl hk (by decide) (fun z => st2n (w1 z) (by omega))) (by omega) _ (hF.u (by decide)) j3)
          | (have w1 := tk_x (x := 59) hk (by omega) (by assumption)
             have w2 := tk_na hk (by assumption)
             exact hf j (by rw [hp]; exact pfl hk (by decide) (fun z => st2n (w1 z) (fun y => w2 z y.1))) (by omega) _ (hF.u (by decide)) j3)
      ·
        refine seg 23 (show iR (8 * (hN D)) ∧ (0 ≤ (hN D) ∧ (hN D) < 8) ∧ iR ((8 * (hN D)) + (μ 56 (hN D))) ∧ (0 ≤ ((8 * (hN D)) + (μ 56 (hN D))) ∧ ((8 * (hN D)) + (μ 56 (hN D))) < 64) ∧ (0 ≤ (hN D) ∧ (hN D) < 8) ∧ iR ((μ 56 (hN D)) + 1) ∧ (0 ≤ (hN D) ∧ (hN D) < 8) ∧ Wp 124 0 [some (vR 47), none] [] (u2 (u2 μ 58 ((8 * (hN D)) + (μ 56 (hN D))) (μ 47 14)) 56 (hN D) ((μ 56 (hN D)) + 1)) (fun rr μ' => Wp 127 110 [some (vR 47), some (vI (hN D))] (rr.toList ++ []) μ' R) from ⟨by omega, by omega, by omega, by omega, by omega, by omega, by omega, ?_⟩)
        obtain ⟨w1, w2, w3, w4, w5⟩ := tk_a hk (by assumption)
        rw [prs_y w1 w2 (st2l w3 (by omega))] at hp
        obtain ⟨μ1, hμ1⟩ : ∃ z, z = u2 (u2 μ 58 ((8 * (hN D)) + (μ 56 (hN D))) (μ 47 14)) 56 (hN D) ((μ 56 (hN D)) + 1) := ⟨_, rfl⟩
        rw [← hμ1]
        have hF1 : FM μ1 μ0 := by rw [hμ1]; exact (hF.v (by decide)).v (by decide)
        have hm1 : DMr (lnD D (T.2 j)) (hN D + 1) μ1 := by rw [hμ1, w4]; exact hm.ln hd (by omega) hz1
        refine n124 (hF1.t ht0) (p := j + 1) (by rw [hμ1, u2_ne (by decide), u2_ne (by decide)]; exact w5) (by omega) (fun j9 μ2 k2 p2 f2 => ?_)
        refine seg 1 (show Wp 127 56 [some (vR 47), some (vI (hN D))] [] μ2 R from ?_)
        exact ih j9 (lnD D (T.2 j)) μ2 (by rw [lnS, if_pos rfl]; omega) (hF1.f f2) k2 (by rw [hp, p2]) rfl (dok_ln hd (by omega)) (hm1.ft f2) (by rw [f2.2 16 (by decide), hμ1, u2_ne (by decide), u2_ne (by decide)]; exact h16)
theorem n127 {T : Tx} {R : Po} {μ μ0 : Mu} {ρ : Int ⊕ Hi} {r j : Int} {D : Hi} (ht0 : RMT T μ0) (hf : ∀ f, ρ = .inl f → (0 ≤ f ∧ f ≤ T.1) → ∀ μ2 : Mu, FM μ2 μ0 → μ2 47 15 = f → R (some (vI 0)) μ2) (hy : ∀ p D2, ρ = prs T p 0 D2 → DOK 0 D2 → hN D2 = r + 1 → ∀ μ2 : Mu, FM μ2 μ0 → μ2 47 11 = p → (0 ≤ p ∧ p ≤ T.1) → DMr D2 (r + 1) μ2 → μ2 47 16 = r + 1 → R (some (vI 1)) μ2) (hF : FM μ μ0) (hk : TK T j μ) (hne : μ 47 13 ≠ -1) (hr : hN D = r) (hd : DOK 0 D) (hm : DMr D r μ) (h16 : μ 47 16 = r) (hp : ρ = prs T j 0 D) : Wp 127 0 [some (vR 47), none] [] μ R := by
  have ht : RMT T μ := hF.t ht0
  have et := ht.2.1
  obtain ⟨j1, j2, j3, j4, j5⟩ := tk_j hk
  have d1 := hd.1
  have d2 := hd.2.1
  obtain ⟨hj, hj2⟩ := tk_in hk hne
  subst hr
  refine seg 3 (show Wp 127 5 [some (vR 47), some (vI (μ 47 16))] [] μ R from ?_)
  rw [h16]
  refine seg 4 (show (¬ (μ 47 13 = 82) → Wp 127 20 [some (vR 47), some (vI (hN D))] [] μ R) ∧ (μ 47 13 = 82 → Wp 127 14 [some (vR 47), some (vI (hN D))] [] μ R) from ⟨fun c1 => ?_, fun c1 => ?_⟩)
  ·
    refine seg 2 (show Wp 125 0 [some (vR 47)] [] μ (fun rr μ' => Wp 127 24 [some (vR 47), some (vI (hN D))] (rr.toList ++ []) μ' R) from ?_)
    refine n125 ?_
    refine seg 1 (show (0 = 0 ∨ 0 = 1) ∧ R (some (vI 0)) (u2 μ 47 15 (μ 47 12)) from ⟨by decide, ?_⟩)
    have w0 : ¬ (T.2 j = 82 ∧ hN D < 8) := by
      first
      | (have w1 := tk_x (x := 82) hk (by omega) (by assumption) hj; omega)
      | omega
    exact hf j (by rw [hp]; exact prs_n hj hj2 (st0n w0)) (by omega) _ (hF.u (by decide)) j3
  ·
    refine seg 3 (show (¬ (hN D = 8) → Wp 127 25 [some (vR 47), some (vI (hN D))] [] μ R) ∧ (hN D = 8 → Wp 127 20 [some (vR 47), some (vI (hN D))] [] μ R) from ⟨fun c2 => ?_, fun c2 => ?_⟩)
    ·
      refine seg 3 (show Wp 126 0 [some (vR 47), some (vI (hN D)), none] [] μ (fun rr μ' => Wp 127 30 [some (vR 47), some (vI (hN D))] (rr.toList ++ []) μ' R) from ?_)
      obtain ⟨w1, w2, w3, w4⟩ := tk_s (x := 82) hk (by omega) (by assumption)
      rw [prs_y w1 w2 (st0y w3 (by omega))] at hp
      refine n126 (p := j + 1) (D := D) ht0 (ρ := ρ) (r := hN D) (fun f x1 x2 μ1 x3 x4 => ?_) (fun p D2 x1 x2 x3 x4 μ1 x5 x6 x7 x8 x9 x10 => ?_) hF rfl (by omega) hd hm h16 w4 (by omega) hp
      ·
        refine seg 1 (show (¬ (0 = 0) → Wp 127 35 [some (vR 47), some (vI (hN D))] [] μ1 R) ∧ (0 = 0 → Wp 127 33 [some (vR 47), some (vI (hN D))] [] μ1 R) from ⟨fun z => absurd z (by decide), fun _ => ?_⟩)
        refine seg 2 (show (0 = 0 ∨ 0 = 1) ∧ R (some (vI 0)) μ1 from ⟨by decide, ?_⟩)
        exact hf f x1 x2 μ1 x3 x4
      ·
        refine seg 1 (show (¬ (1 = 0) → Wp 127 35 [some (vR 47), some (vI (hN D))] [] μ1 R) ∧ (1 = 0 → Wp 127 33 [some (vR 47), some (vI (hN D))] [] μ1 R) from ⟨fun _ => ?_, fun z => absurd z (by decide)⟩)
        refine seg 13 (show iR ((μ1 47 16) + 1) ∧ (0 ≤ (hN D) ∧ (hN D) < 8) ∧ Wp 124 0 [some (vR 47), none] [] (u2 (u2 μ1 47 16 ((μ1 47 16) + 1)) 56 (hN D) 0) (fun rr μ' => Wp 127 56 [some (vR 47), some (vI (hN D))] (rr.toList ++ []) μ' R) from ⟨by omega, by omega, ?_⟩)
        obtain ⟨μ2, hμ2⟩ : ∃ z, z = u2 (u2 μ1 47 16 ((μ1 47 16) + 1)) 56 (hN D) 0 := ⟨_, rfl⟩
        rw [← hμ2]
        have hF2 : FM μ2 μ0 := by rw [hμ2]; exact (x5.u (by decide)).v (by decide)
        have hm2 : DMr D2 (hN D + 1) μ2 := by
          intro y a b
          rw [hμ2, u2_at, u2_ne (by decide), u2_ne (by decide), u2_ne (by decide), u2_ne (by decide), u2_ne (by decide)]
          by_cases e : y = hN D
          · subst e; rw [up1_s]; exact ⟨x4.symm, x9.1, x9.2, fun k k1 k2 => absurd k2 (by omega)⟩
          · rw [up1_n e]; exact x8 y a (by omega)
        have h162 : μ2 47 16 = hN D + 1 := by rw [hμ2, u2_ne (by decide), u2_at, up1_s, x10]
        refine n124 (hF2.t ht0) (p := p) (by rw [hμ2, u2_ne (by decide), u2_at, up1_n (by decide)]; exact x6) x7 (fun j9 μ3 k3 p3 f3 => ?_)
        exact l127 ht0 hf hy 8 j9 D2 μ3 (by omega) (hF2.f f3) k3 (by rw [x1, p3]) x3 x2 (hm2.ft f3) (by rw [f3.2 16 (by decide)]; exact h162)
    ·
      refine seg 2 (show Wp 125 0 [some (vR 47)] [] μ (fun rr μ' => Wp 127 24 [some (vR 47), some (vI (hN D))] (rr.toList ++ []) μ' R) from ?_)
      refine n125 ?_
      refine seg 1 (show (0 = 0 ∨ 0 = 1) ∧ R (some (vI 0)) (u2 μ 47 15 (μ 47 12)) from ⟨by decide, ?_⟩)
      have w0 : ¬ (T.2 j = 82 ∧ hN D < 8) := by
        first
        | (have w1 := tk_x (x := 82) hk (by omega) (by assumption) hj; omega)
        | omega
      exact hf j (by rw [hp]; exact prs_n hj hj2 (st0n w0)) (by omega) _ (hF.u (by decide)) j3
