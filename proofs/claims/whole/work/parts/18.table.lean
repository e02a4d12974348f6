/-! the class's history, and the rows over it -/
def GC (G : Hi) (μ : Mu) : Prop := HiOK G ∧ μ 8 0 = hN G ∧ ∀ r, 0 ≤ r → r < hN G → μ 10 r = hS G r ∧ μ 9 (r * 2 + 0) = hP G r 0 ∧ μ 9 (r * 2 + 1) = hP G r 1 ∧ ∀ k, 0 ≤ k → k < hS G r → μ 11 (r * 8 + k) = hL G r k
theorem GC.fr {G : Hi} {μ μ' : Mu} (h : GC G μ) (h8 : μ' 8 = μ 8) (h9 : μ' 9 = μ 9) (h10 : μ' 10 = μ 10) (h11 : μ' 11 = μ 11) : GC G μ' := by
  unfold GC
  rw [h8, h9, h10, h11]
  exact h
theorem u2_ne {μ : Mu} {p q : Nat} {i v : Int} (h : q ≠ p) : u2 μ p i v q = μ q := if_neg h
theorem u2_at {μ : Mu} {p : Nat} {i v : Int} : u2 μ p i v p = up1 (μ p) i v := if_pos rfl
theorem HiOK.n {G : Hi} (h : HiOK G) : 0 ≤ hN G ∧ hN G ≤ 8 := ⟨h.1, h.2.1⟩
theorem HiOK.s {G : Hi} (h : HiOK G) {r : Int} (hr : 0 ≤ r ∧ r < hN G) : 0 ≤ hS G r ∧ hS G r ≤ 8 := (h.2.2 r hr.1 hr.2).1
theorem HiOK.p {G : Hi} (h : HiOK G) {r w : Int} (hr : 0 ≤ r ∧ r < hN G) (hw : w = 0 ∨ w = 1) : PaOK r (hP G r w) := by
  rcases hw with rfl | rfl
  · exact (h.2.2 r hr.1 hr.2).2.1
  · exact (h.2.2 r hr.1 hr.2).2.2.1
theorem HiOK.pv {G : Hi} (h : HiOK G) {r w : Int} (hr : 0 ≤ r ∧ r < hN G) (hw : w = 0 ∨ w = 1) (hp : hP G r w ≠ -9) : 0 ≤ hP G r w ∧ hP G r w < r ∧ hP G r w < hN G := by
  rcases h.p hr hw with h1 | h1
  · exact absurd h1 hp
  · omega
theorem g43 {G : Hi} {μ : Mu} {R : Po} (hc : GC G μ) (h : R (some (vI (hN G))) μ) : Wp 43 0 [some (vR 8)] [] μ R := s43_8 (by rw [hc.2.1]; exact h)
theorem g44 {G : Hi} {μ : Mu} {R : Po} {r : Int} (hc : GC G μ) (hy : 0 ≤ r ∧ r < hN G → R (some (vI 1)) μ) (hn : ¬ (0 ≤ r ∧ r < hN G) → R (some (vI 0)) μ) : Wp 44 0 [some (vR 8), some (vI r)] [] μ R := by
  have h1 := hc.2.1; have h2 := hc.1.n
  exact s44_8 (fun z => hy (by omega)) (fun z => hn (by omega))
theorem g45 {G : Hi} {μ : Mu} {R : Po} {r k : Int} (hc : GC G μ) (hy : 0 ≤ r ∧ r < hN G ∧ 0 ≤ k ∧ k < hS G r → R (some (vI 1)) μ) (hn : ¬ (0 ≤ r ∧ r < hN G ∧ 0 ≤ k ∧ k < hS G r) → R (some (vI 0)) μ) : Wp 45 0 [some (vR 8), some (vI r), some (vI k)] [] μ R := by
  have h1 := hc.2.1; have h2 := hc.1.n
  refine s45_8 (fun z => hy ?_) (fun z => hn (fun y => z ?_))
  · have := (hc.2.2 r (by omega) (by omega)).1
    omega
  · have := (hc.2.2 r (by omega) (by omega)).1
    omega
theorem g46 {G : Hi} {μ : Mu} {R : Po} {r : Int} (hc : GC G μ) (hr : 0 ≤ r ∧ r < hN G) (h : R (some (vI (hS G r))) μ) : Wp 46 0 [some (vR 8), some (vI r)] [] μ R := by
  have h1 := hc.2.1; have h2 := hc.1.n
  exact s46v_8 (by omega) (by rw [(hc.2.2 r hr.1 hr.2).1]; exact h)
theorem g46n {G : Hi} {μ : Mu} {R : Po} {r : Int} (hc : GC G μ) (hr : r < 0) (h : R (some (vI 0)) μ) : Wp 46 0 [some (vR 8), some (vI r)] [] μ R := s46n_8 (by omega) h
theorem g47 {G : Hi} {μ : Mu} {R : Po} {r w : Int} (hc : GC G μ) (hr : 0 ≤ r ∧ r < hN G) (hw : w = 0 ∨ w = 1) (h : R (some (vI (hP G r w))) μ) : Wp 47 0 [some (vR 8), some (vI r), some (vI w)] [] μ R := by
  have h1 := hc.2.1; have h2 := hc.1.n
  rcases hw with rfl | rfl
  · exact s47v_8 (by omega) (by rw [(hc.2.2 r hr.1 hr.2).2.1]; exact h)
  · exact s47v_8 (by omega) (by rw [(hc.2.2 r hr.1 hr.2).2.2.1]; exact h)
theorem g47n {G : Hi} {μ : Mu} {R : Po} {r w : Int} (hc : GC G μ) (hr : ¬ (0 ≤ r ∧ r < hN G)) (h : R (some (vI (-9))) μ) : Wp 47 0 [some (vR 8), some (vI r), some (vI w)] [] μ R := by
  have h1 := hc.2.1
  exact s47n_8 (by omega) h
theorem g48 {G : Hi} {μ : Mu} {R : Po} {r k : Int} (hc : GC G μ) (hr : 0 ≤ r ∧ r < hN G) (hk : 0 ≤ k ∧ k < hS G r) (h : R (some (vI (hL G r k))) μ) : Wp 48 0 [some (vR 8), some (vI r), some (vI k)] [] μ R := by
  have h1 := hc.2.1; have h2 := hc.1.n; have h3 := hc.1.s hr; have h4 := hc.2.2 r hr.1 hr.2
  exact s48v_8 (by omega) (by rw [h4.2.2.2 k hk.1 hk.2]; exact h)
/-- the table of COMMON, filled from its end to i, j -/
def Tab (T : Int → Int) (f g : Int → Int) (R C i j : Int) : Prop := ∀ a b, a ≤ R → 0 ≤ b → b ≤ C → (i < a ∨ (a = i ∧ j < b)) → T (a * 9 + b) = cm f g R C a b
theorem Tab.step {T f g : Int → Int} {R C i j v : Int} (h : Tab T f g R C i j) (hj : 0 ≤ j ∧ j ≤ 8) (hC : C ≤ 8) (hv : v = cm f g R C i j) : Tab (up1 T (i * 9 + j) v) f g R C i (j + -1) := by
  intro a b ha hb hbC hq
  by_cases he : a = i ∧ b = j
  · obtain ⟨rfl, rfl⟩ := he
    rw [up1_s]; exact hv
  · rw [up1_n (by omega)]
    exact h a b ha hb hbC (by omega)
theorem Tab.row {T f g : Int → Int} {R C i : Int} (h : Tab T f g R C i (-1)) : Tab T f g R C (i + -1) C := by
  intro a b ha hb hbC hq
  exact h a b ha hb hbC (by omega)
theorem tab_v1 {T f g : Int → Int} {R C i j : Int} (h : Tab T f g R C i j) (hq : i < R ∧ j < C) (hj : 0 ≤ j) (he : f i = g j) :
    (if (if T ((i + 1) * 9 + j) < T (i * 9 + (j + 1)) then T (i * 9 + (j + 1)) else T ((i + 1) * 9 + j)) < T ((i + 1) * 9 + (j + 1)) + 1 then T ((i + 1) * 9 + (j + 1)) + 1 else (if T ((i + 1) * 9 + j) < T (i * 9 + (j + 1)) then T (i * 9 + (j + 1)) else T ((i + 1) * 9 + j))) = cm f g R C i j := by
  rw [h (i + 1) j (by omega) (by omega) (by omega) (by omega), h i (j + 1) (by omega) (by omega) (by omega) (by omega), h (i + 1) (j + 1) (by omega) (by omega) (by omega) (by omega), cm_in hq, if_pos he]
  rfl
theorem tab_v2 {T f g : Int → Int} {R C i j : Int} (h : Tab T f g R C i j) (hq : i < R ∧ j < C) (hj : 0 ≤ j) (he : ¬ f i = g j) :
    (if T ((i + 1) * 9 + j) < T (i * 9 + (j + 1)) then T (i * 9 + (j + 1)) else T ((i + 1) * 9 + j)) = cm f g R C i j := by
  rw [h (i + 1) j (by omega) (by omega) (by omega) (by omega), h i (j + 1) (by omega) (by omega) (by omega) (by omega), cm_in hq, if_neg he]
  rfl
theorem tab_rg {T f g : Int → Int} {R C i j a b : Int} (h : Tab T f g R C i j) (hR : R ≤ 8) (ha : 0 ≤ a ∧ a ≤ R) (hb : 0 ≤ b ∧ b ≤ C) (hq : i < a ∨ (a = i ∧ j < b)) : 0 ≤ T (a * 9 + b) ∧ T (a * 9 + b) ≤ 8 := by
  rw [h a b ha.2 hb.1 hb.2 hq]
  have := cm_rg (f := f) (g := g) (R := R) (C := C) _ a b (Nat.le_refl _)
  omega
theorem l24a_13 {G : Hi} {p r : Int} {R : Po} {μ0 : Mu} (hc0 : GC G μ0) (hp : 0 ≤ p ∧ p < hN G) (hr : 0 ≤ r ∧ r < hN G) {i : Int} (hi : 0 ≤ i ∧ i ≤ hS G p) (hk : ∀ (μ : Mu) (o8 o9 : Option PV), (∀ q, q ≠ 18 → μ q = μ0 q) → Tab (μ 18) (hL G p) (hL G r) (hS G p) (hS G r) i (-1) → Wp 24 145 [some (vR 13), some (vR 8), some (vI p), some (vI r), some (vI (hS G p)), some (vI (hS G r)), some (vI i), some (vI (-1)), o8, o9] [] μ R) : ∀ (n : Nat) (j : Int) (μ : Mu) (o8 o9 : Option PV), j + 1 = n → j ≤ hS G r → (∀ q, q ≠ 18 → μ q = μ0 q) → Tab (μ 18) (hL G p) (hL G r) (hS G p) (hS G r) i j → Wp 24 27 [some (vR 13), some (vR 8), some (vI p), some (vI r), some (vI (hS G p)), some (vI (hS G r)), some (vI i), some (vI j), o8, o9] [] μ R := by
  intro n
  induction n with
  | zero =>
    intro j μ o8 o9 hn hj hF hT
    have hc := hc0.fr (hF 8 (by decide)) (hF 9 (by decide)) (hF 10 (by decide)) (hF 11 (by decide))
    have h2 := hc.1.n
    have hsp := hc.1.s hp
    have hsr := hc.1.s hr
    have hj1 : j = -1 := by omega
    subst hj1
    refine seg 2 (show (-1 < 0 → Wp 24 145 [some (vR 13), some (vR 8), some (vI p), some (vI r), some (vI (hS G p)), some (vI (hS G r)), some (vI i), some (vI (-1)), o8, o9] [] μ R) ∧ (¬ (-1 < 0) → Wp 24 32 [some (vR 13), some (vR 8), some (vI p), some (vI r), some (vI (hS G p)), some (vI (hS G r)), some (vI i), some (vI (-1)), o8, o9] [] μ R) from ⟨fun _ => hk μ o8 o9 hF hT, fun z => absurd z (by decide)⟩)
  | succ n ih =>
    intro j μ o8 o9 hn hj hF hT
    have hc := hc0.fr (hF 8 (by decide)) (hF 9 (by decide)) (hF 10 (by decide)) (hF 11 (by decide))
    have h2 := hc.1.n
    have hsp := hc.1.s hp
    have hsr := hc.1.s hr
    refine seg 2 (show (j < 0 → Wp 24 145 [some (vR 13), some (vR 8), some (vI p), some (vI r), some (vI (hS G p)), some (vI (hS G r)), some (vI i), some (vI j), o8, o9] [] μ R) ∧ (¬ (j < 0) → Wp 24 32 [some (vR 13), some (vR 8), some (vI p), some (vI r), some (vI (hS G p)), some (vI (hS G r)), some (vI i), some (vI j), o8, o9] [] μ R) from ⟨fun c1 => ?_, fun c1 => ?_⟩)
    ·
      exfalso; omega
    ·
      refine seg 5 (show (hS G p ≤ i → Wp 24 129 [some (vR 13), some (vR 8), some (vI p), some (vI r), some (vI (hS G p)), some (vI (hS G r)), some (vI i), some (vI j), some (vI 0), o9] [] μ R) ∧ (¬ (hS G p ≤ i) → Wp 24 42 [some (vR 13), some (vR 8), some (vI p), some (vI r), some (vI (hS G p)), some (vI (hS G r)), some (vI i), some (vI j), some (vI 0), o9] [] μ R) from ⟨fun c2 => ?_, fun c2 => ?_⟩)
      ·
        refine seg 5 (show Wp 26 0 [some (vR 13), some (vI i), some (vI j), some (vI 0)] [] μ (fun rr μ' => Wp 24 139 [some (vR 13), some (vR 8), some (vI p), some (vI r), some (vI (hS G p)), some (vI (hS G r)), some (vI i), some (vI j), some (vI 0), o9] (rr.toList ++ []) μ' R) from ?_)
        refine s26v_13 (by omega) ?_
        refine seg 2 (show iR (j + (-1)) ∧ Wp 24 27 [some (vR 13), some (vR 8), some (vI p), some (vI r), some (vI (hS G p)), some (vI (hS G r)), some (vI i), some (vI (j + (-1))), some (vI 0), o9] [] (u2 μ 18 (i * 9 + j) 0) R from ⟨by omega, ?_⟩)
        refine ih (j + -1) _ _ _ (by omega) (by omega) (fun q hq => by rw [u2_ne hq]; exact hF q hq) ?_
        rw [u2_at]
        exact hT.step (by omega) (by omega) (by first | exact tab_v1 hT (by omega) (by omega) (by assumption) | exact tab_v2 hT (by omega) (by omega) (by assumption) | (rw [cm_out (by omega)]))
      ·
        refine seg 3 (show (hS G r ≤ j → Wp 24 129 [some (vR 13), some (vR 8), some (vI p), some (vI r), some (vI (hS G p)), some (vI (hS G r)), some (vI i), some (vI j), some (vI 0), o9] [] μ R) ∧ (¬ (hS G r ≤ j) → Wp 24 49 [some (vR 13), some (vR 8), some (vI p), some (vI r), some (vI (hS G p)), some (vI (hS G r)), some (vI i), some (vI j), some (vI 0), o9] [] μ R) from ⟨fun c3 => ?_, fun c3 => ?_⟩)
        ·
          refine seg 5 (show Wp 26 0 [some (vR 13), some (vI i), some (vI j), some (vI 0)] [] μ (fun rr μ' => Wp 24 139 [some (vR 13), some (vR 8), some (vI p), some (vI r), some (vI (hS G p)), some (vI (hS G r)), some (vI i), some (vI j), some (vI 0), o9] (rr.toList ++ []) μ' R) from ?_)
          refine s26v_13 (by omega) ?_
          refine seg 2 (show iR (j + (-1)) ∧ Wp 24 27 [some (vR 13), some (vR 8), some (vI p), some (vI r), some (vI (hS G p)), some (vI (hS G r)), some (vI i), some (vI (j + (-1))), some (vI 0), o9] [] (u2 μ 18 (i * 9 + j) 0) R from ⟨by omega, ?_⟩)
          refine ih (j + -1) _ _ _ (by omega) (by omega) (fun q hq => by rw [u2_ne hq]; exact hF q hq) ?_
          rw [u2_at]
          exact hT.step (by omega) (by omega) (by first | exact tab_v1 hT (by omega) (by omega) (by assumption) | exact tab_v2 hT (by omega) (by omega) (by assumption) | (rw [cm_out (by omega)]))
        ·
          refine seg 4 (show Wp 48 0 [some (vR 8), some (vI p), some (vI i)] [] μ (fun rr μ' => Wp 24 56 [some (vR 13), some (vR 8), some (vI p), some (vI r), some (vI (hS G p)), some (vI (hS G r)), some (vI i), some (vI j), some (vI 0), o9] (rr.toList ++ []) μ' R) from ?_)
          refine g48 hc (by omega) (by omega) ?_
          refine seg 4 (show Wp 48 0 [some (vR 8), some (vI r), some (vI j)] [] μ (fun rr μ' => Wp 24 63 [some (vR 13), some (vR 8), some (vI p), some (vI r), some (vI (hS G p)), some (vI (hS G r)), some (vI i), some (vI j), some (vI 0), o9] (rr.toList ++ [vI (hL G p i)]) μ' R) from ?_)
          refine g48 hc (by omega) (by omega) ?_
          refine seg 1 (show (¬ (hL G p i = hL G r j) → Wp 24 70 [some (vR 13), some (vR 8), some (vI p), some (vI r), some (vI (hS G p)), some (vI (hS G r)), some (vI i), some (vI j), some (vI 0), o9] [] μ R) ∧ (hL G p i = hL G r j → Wp 24 66 [some (vR 13), some (vR 8), some (vI p), some (vI r), some (vI (hS G p)), some (vI (hS G r)), some (vI i), some (vI j), some (vI 0), o9] [] μ R) from ⟨fun c4 => ?_, fun c4 => ?_⟩)
          ·
            refine seg 8 (show iR (i + 1) ∧ Wp 25 0 [some (vR 13), some (vI (i + 1)), some (vI j)] [] μ (fun rr μ' => Wp 24 83 [some (vR 13), some (vR 8), some (vI p), some (vI r), some (vI (hS G p)), some (vI (hS G r)), some (vI i), some (vI j), some (vI 0), some (vI 0)] (rr.toList ++ []) μ' R) from ⟨by omega, ?_⟩)
            refine s25v_13 (by omega) ?_
            refine seg 6 (show iR (j + 1) ∧ Wp 25 0 [some (vR 13), some (vI i), some (vI (j + 1))] [] μ (fun rr μ' => Wp 24 93 [some (vR 13), some (vR 8), some (vI p), some (vI r), some (vI (hS G p)), some (vI (hS G r)), some (vI i), some (vI j), some (vI 0), some (vI 0)] (rr.toList ++ [vI (μ 18 ((i + 1) * 9 + j))]) μ' R) from ⟨by omega, ?_⟩)
            refine s25v_13 (by omega) ?_
            refine seg 4 (show 0 ≤ 4 ∧ (0 = 0 → Wp 24 125 [some (vR 13), some (vR 8), some (vI p), some (vI r), some (vI (hS G p)), some (vI (hS G r)), some (vI i), some (vI j), some (vI (if μ 18 ((i + 1) * 9 + j) < μ 18 (i * 9 + (j + 1)) then μ 18 (i * 9 + (j + 1)) else μ 18 ((i + 1) * 9 + j) : Int)), some (vI 0)] [] μ R) ∧ (¬ (0 = 0) → Wp 24 103 [some (vR 13), some (vR 8), some (vI p), some (vI r), some (vI (hS G p)), some (vI (hS G r)), some (vI i), some (vI j), some (vI (if μ 18 ((i + 1) * 9 + j) < μ 18 (i * 9 + (j + 1)) then μ 18 (i * 9 + (j + 1)) else μ 18 ((i + 1) * 9 + j) : Int)), some (vI 0)] [] μ R) from ⟨by decide, fun _ => ?_, fun z => absurd z (by decide)⟩)
            refine seg 7 (show Wp 26 0 [some (vR 13), some (vI i), some (vI j), some (vI (if μ 18 ((i + 1) * 9 + j) < μ 18 (i * 9 + (j + 1)) then μ 18 (i * 9 + (j + 1)) else μ 18 ((i + 1) * 9 + j) : Int))] [] μ (fun rr μ' => Wp 24 139 [some (vR 13), some (vR 8), some (vI p), some (vI r), some (vI (hS G p)), some (vI (hS G r)), some (vI i), some (vI j), some (vI (if μ 18 ((i + 1) * 9 + j) < μ 18 (i * 9 + (j + 1)) then μ 18 (i * 9 + (j + 1)) else μ 18 ((i + 1) * 9 + j) : Int)), some (vI 0)] (rr.toList ++ []) μ' R) from ?_)
            refine s26v_13 (by omega) ?_
            refine seg 2 (show iR (j + (-1)) ∧ Wp 24 27 [some (vR 13), some (vR 8), some (vI p), some (vI r), some (vI (hS G p)), some (vI (hS G r)), some (vI i), some (vI (j + (-1))), some (vI (if μ 18 ((i + 1) * 9 + j) < μ 18 (i * 9 + (j + 1)) then μ 18 (i * 9 + (j + 1)) else μ 18 ((i + 1) * 9 + j) : Int)), some (vI 0)] [] (u2 μ 18 (i * 9 + j) (if μ 18 ((i + 1) * 9 + j) < μ 18 (i * 9 + (j + 1)) then μ 18 (i * 9 + (j + 1)) else μ 18 ((i + 1) * 9 + j) : Int)) R from ⟨by omega, ?_⟩)
            refine ih (j + -1) _ _ _ (by omega) (by omega) (fun q hq => by rw [u2_ne hq]; exact hF q hq) ?_
            rw [u2_at]
            exact hT.step (by omega) (by omega) (by first | exact tab_v1 hT (by omega) (by omega) (by assumption) | exact tab_v2 hT (by omega) (by omega) (by assumption) | (rw [cm_out (by omega)]))
          ·
            refine seg 9 (show iR (i + 1) ∧ Wp 25 0 [some (vR 13), some (vI (i + 1)), some (vI j)] [] μ (fun rr μ' => Wp 24 83 [some (vR 13), some (vR 8), some (vI p), some (vI r), some (vI (hS G p)), some (vI (hS G r)), some (vI i), some (vI j), some (vI 0), some (vI 1)] (rr.toList ++ []) μ' R) from ⟨by omega, ?_⟩)
            refine s25v_13 (by omega) ?_
            refine seg 6 (show iR (j + 1) ∧ Wp 25 0 [some (vR 13), some (vI i), some (vI (j + 1))] [] μ (fun rr μ' => Wp 24 93 [some (vR 13), some (vR 8), some (vI p), some (vI r), some (vI (hS G p)), some (vI (hS G r)), some (vI i), some (vI j), some (vI 0), some (vI 1)] (rr.toList ++ [vI (μ 18 ((i + 1) * 9 + j))]) μ' R) from ⟨by omega, ?_⟩)
            refine s25v_13 (by omega) ?_
            refine seg 4 (show 0 ≤ 4 ∧ (1 = 0 → Wp 24 125 [some (vR 13), some (vR 8), some (vI p), some (vI r), some (vI (hS G p)), some (vI (hS G r)), some (vI i), some (vI j), some (vI (if μ 18 ((i + 1) * 9 + j) < μ 18 (i * 9 + (j + 1)) then μ 18 (i * 9 + (j + 1)) else μ 18 ((i + 1) * 9 + j) : Int)), some (vI 1)] [] μ R) ∧ (¬ (1 = 0) → Wp 24 103 [some (vR 13), some (vR 8), some (vI p), some (vI r), some (vI (hS G p)), some (vI (hS G r)), some (vI i), some (vI j), some (vI (if μ 18 ((i + 1) * 9 + j) < μ 18 (i * 9 + (j + 1)) then μ 18 (i * 9 + (j + 1)) else μ 18 ((i + 1) * 9 + j) : Int)), some (vI 1)] [] μ R) from ⟨by decide, fun z => absurd z (by decide), fun _ => ?_⟩)
            refine seg 9 (show iR (i + 1) ∧ iR (j + 1) ∧ Wp 25 0 [some (vR 13), some (vI (i + 1)), some (vI (j + 1))] [] μ (fun rr μ' => Wp 24 117 [some (vR 13), some (vR 8), some (vI p), some (vI r), some (vI (hS G p)), some (vI (hS G r)), some (vI i), some (vI j), some (vI (if μ 18 ((i + 1) * 9 + j) < μ 18 (i * 9 + (j + 1)) then μ 18 (i * 9 + (j + 1)) else μ 18 ((i + 1) * 9 + j) : Int)), some (vI 1)] (rr.toList ++ [vI (if μ 18 ((i + 1) * 9 + j) < μ 18 (i * 9 + (j + 1)) then μ 18 (i * 9 + (j + 1)) else μ 18 ((i + 1) * 9 + j) : Int)]) μ' R) from ⟨by omega, by omega, ?_⟩)
            refine s25v_13 (by omega) ?_
            refine seg 10 (show iR ((μ 18 ((i + 1) * 9 + (j + 1))) + 1) ∧ 0 ≤ 4 ∧ Wp 26 0 [some (vR 13), some (vI i), some (vI j), some (vI (if (if μ 18 ((i + 1) * 9 + j) < μ 18 (i * 9 + (j + 1)) then μ 18 (i * 9 + (j + 1)) else μ 18 ((i + 1) * 9 + j) : Int) < (μ 18 ((i + 1) * 9 + (j + 1))) + 1 then (μ 18 ((i + 1) * 9 + (j + 1))) + 1 else (if μ 18 ((i + 1) * 9 + j) < μ 18 (i * 9 + (j + 1)) then μ 18 (i * 9 + (j + 1)) else μ 18 ((i + 1) * 9 + j) : Int) : Int))] [] μ (fun rr μ' => Wp 24 139 [some (vR 13), some (vR 8), some (vI p), some (vI r), some (vI (hS G p)), some (vI (hS G r)), some (vI i), some (vI j), some (vI (if (if μ 18 ((i + 1) * 9 + j) < μ 18 (i * 9 + (j + 1)) then μ 18 (i * 9 + (j + 1)) else μ 18 ((i + 1) * 9 + j) : Int) < (μ 18 ((i + 1) * 9 + (j + 1))) + 1 then (μ 18 ((i + 1) * 9 + (j + 1))) + 1 else (if μ 18 ((i + 1) * 9 + j) < μ 18 (i * 9 + (j + 1)) then μ 18 (i * 9 + (j + 1)) else μ 18 ((i + 1) * 9 + j) : Int) : Int)), some (vI 1)] (rr.toList ++ []) μ' R) from ⟨by have := tab_rg (a := i + 1) (b := j + 1) hT (by omega) (by omega) (by omega) (by omega); omega, by decide, ?_⟩)
            refine s26v_13 (by omega) ?_
            refine seg 2 (show iR (j + (-1)) ∧ Wp 24 27 [some (vR 13), some (vR 8), some (vI p), some (vI r), some (vI (hS G p)), some (vI (hS G r)), some (vI i), some (vI (j + (-1))), some (vI (if (if μ 18 ((i + 1) * 9 + j) < μ 18 (i * 9 + (j + 1)) then μ 18 (i * 9 + (j + 1)) else μ 18 ((i + 1) * 9 + j) : Int) < (μ 18 ((i + 1) * 9 + (j + 1))) + 1 then (μ 18 ((i + 1) * 9 + (j + 1))) + 1 else (if μ 18 ((i + 1) * 9 + j) < μ 18 (i * 9 + (j + 1)) then μ 18 (i * 9 + (j + 1)) else μ 18 ((i + 1) * 9 + j) : Int) : Int)), some (vI 1)] [] (u2 μ 18 (i * 9 + j) (if (if μ 18 ((i + 1) * 9 + j) < μ 18 (i * 9 + (j + 1)) then μ 18 (i * 9 + (j + 1)) else μ 18 ((i + 1) * 9 + j) : Int) < (μ 18 ((i + 1) * 9 + (j + 1))) + 1 then (μ 18 ((i + 1) * 9 + (j + 1))) + 1 else (if μ 18 ((i + 1) * 9 + j) < μ 18 (i * 9 + (j + 1)) then μ 18 (i * 9 + (j + 1)) else μ 18 ((i + 1) * 9 + j) : Int) : Int)) R from ⟨by omega, ?_⟩)
            refine ih (j + -1) _ _ _ (by omega) (by omega) (fun q hq => by rw [u2_ne hq]; exact hF q hq) ?_
            rw [u2_at]
            exact hT.step (by omega) (by omega) (by first | exact tab_v1 hT (by omega) (by omega) (by assumption) | exact tab_v2 hT (by omega) (by omega) (by assumption) | (rw [cm_out (by omega)]))
theorem l24b_13 {G : Hi} {p r : Int} {R : Po} {μ0 : Mu} (hc0 : GC G μ0) (hp : 0 ≤ p ∧ p < hN G) (hr : 0 ≤ r ∧ r < hN G) (hk : ∀ (μ : Mu), (∀ q, q ≠ 18 → μ q = μ0 q) → Tab (μ 18) (hL G p) (hL G r) (hS G p) (hS G r) (-1) (hS G r) → R none μ) : ∀ (n : Nat) (i : Int) (μ : Mu) (o7 o8 o9 : Option PV), i + 1 = n → i ≤ hS G p → (∀ q, q ≠ 18 → μ q = μ0 q) → Tab (μ 18) (hL G p) (hL G r) (hS G p) (hS G r) i (hS G r) → Wp 24 18 [some (vR 13), some (vR 8), some (vI p), some (vI r), some (vI (hS G p)), some (vI (hS G r)), some (vI i), o7, o8, o9] [] μ R := by
  intro n
  induction n with
  | zero =>
    intro i μ o7 o8 o9 hn hi hF hT
    have hc := hc0.fr (hF 8 (by decide)) (hF 9 (by decide)) (hF 10 (by decide)) (hF 11 (by decide))
    have h2 := hc.1.n
    have hsp := hc.1.s hp
    have hsr := hc.1.s hr
    refine seg 2 (show (i < 0 → Wp 24 151 [some (vR 13), some (vR 8), some (vI p), some (vI r), some (vI (hS G p)), some (vI (hS G r)), some (vI i), o7, o8, o9] [] μ R) ∧ (¬ (i < 0) → Wp 24 23 [some (vR 13), some (vR 8), some (vI p), some (vI r), some (vI (hS G p)), some (vI (hS G r)), some (vI i), o7, o8, o9] [] μ R) from ⟨fun c1 => ?_, fun c1 => ?_⟩)
    ·
      refine seg 1 (show R none μ from ?_)
      first | (obtain rfl : i = -1 := (by omega); exact hk μ hF hT) | (exfalso; omega)
    ·
      refine seg 2 (show Wp 24 27 [some (vR 13), some (vR 8), some (vI p), some (vI r), some (vI (hS G p)), some (vI (hS G r)), some (vI i), some (vI (hS G r)), o8, o9] [] μ R from ?_)
      exfalso; omega
  | succ n ih =>
    intro i μ o7 o8 o9 hn hi hF hT
    have hc := hc0.fr (hF 8 (by decide)) (hF 9 (by decide)) (hF 10 (by decide)) (hF 11 (by decide))
    have h2 := hc.1.n
    have hsp := hc.1.s hp
    have hsr := hc.1.s hr
    refine seg 2 (show (i < 0 → Wp 24 151 [some (vR 13), some (vR 8), some (vI p), some (vI r), some (vI (hS G p)), some (vI (hS G r)), some (vI i), o7, o8, o9] [] μ R) ∧ (¬ (i < 0) → Wp 24 23 [some (vR 13), some (vR 8), some (vI p), some (vI r), some (vI (hS G p)), some (vI (hS G r)), some (vI i), o7, o8, o9] [] μ R) from ⟨fun c2 => ?_, fun c2 => ?_⟩)
    ·
      refine seg 1 (show R none μ from ?_)
      first | (obtain rfl : i = -1 := (by omega); exact hk μ hF hT) | (exfalso; omega)
    ·
      refine seg 2 (show Wp 24 27 [some (vR 13), some (vR 8), some (vI p), some (vI r), some (vI (hS G p)), some (vI (hS G r)), some (vI i), some (vI (hS G r)), o8, o9] [] μ R from ?_)
      refine l24a_13 hc0 hp hr (i := i) (by omega) (fun μ o8 o9 hF hT => ?_) (hS G r + 1).toNat (hS G r) μ o8 o9 (by omega) (Int.le_refl _) hF hT
      refine seg 2 (show iR (i + (-1)) ∧ Wp 24 18 [some (vR 13), some (vR 8), some (vI p), some (vI r), some (vI (hS G p)), some (vI (hS G r)), some (vI (i + (-1))), some (vI (-1)), o8, o9] [] μ R from ⟨by omega, ?_⟩)
      exact ih (i + -1) μ _ _ _ (by omega) (by omega) hF hT.row
theorem s24_13 {G : Hi} {p r : Int} {R : Po} {μ : Mu} (hc : GC G μ) (hp : 0 ≤ p ∧ p < hN G) (hr : 0 ≤ r ∧ r < hN G) (hk : ∀ (μ2 : Mu), (∀ q, q ≠ 18 → μ2 q = μ q) → Tab (μ2 18) (hL G p) (hL G r) (hS G p) (hS G r) (-1) (hS G r) → R none μ2) : Wp 24 0 [some (vR 13), some (vR 8), some (vI p), some (vI r), none, none, none, none, none, none] [] μ R := by
  have h2 := hc.1.n
  have hsp := hc.1.s hp
  have hsr := hc.1.s hr
  refine seg 3 (show Wp 46 0 [some (vR 8), some (vI p)] [] μ (fun rr μ' => Wp 24 5 [some (vR 13), some (vR 8), some (vI p), some (vI r), none, none, none, none, none, none] (rr.toList ++ []) μ' R) from ?_)
  refine g46 hc (by omega) ?_
  refine seg 4 (show Wp 46 0 [some (vR 8), some (vI r)] [] μ (fun rr μ' => Wp 24 12 [some (vR 13), some (vR 8), some (vI p), some (vI r), some (vI (hS G p)), none, none, none, none, none] (rr.toList ++ []) μ' R) from ?_)
  refine g46 hc (by omega) ?_
  refine seg 3 (show Wp 24 18 [some (vR 13), some (vR 8), some (vI p), some (vI r), some (vI (hS G p)), some (vI (hS G r)), some (vI (hS G p)), none, none, none] [] μ R from ?_)
  exact l24b_13 hc hp hr hk (hS G p + 1).toNat (hS G p) μ _ _ _ (by omega) (Int.le_refl _) (fun _ _ => rfl) (fun a b h1 _ h3 h4 => (by exfalso; omega))
theorem l24a_19 {G : Hi} {p r : Int} {R : Po} {μ0 : Mu} (hc0 : GC G μ0) (hp : 0 ≤ p ∧ p < hN G) (hr : 0 ≤ r ∧ r < hN G) {i : Int} (hi : 0 ≤ i ∧ i ≤ hS G p) (hk : ∀ (μ : Mu) (o8 o9 : Option PV), (∀ q, q ≠ 24 → μ q = μ0 q) → Tab (μ 24) (hL G p) (hL G r) (hS G p) (hS G r) i (-1) → Wp 24 145 [some (vR 19), some (vR 8), some (vI p), some (vI r), some (vI (hS G p)), some (vI (hS G r)), some (vI i), some (vI (-1)), o8, o9] [] μ R) : ∀ (n : Nat) (j : Int) (μ : Mu) (o8 o9 : Option PV), j + 1 = n → j ≤ hS G r → (∀ q, q ≠ 24 → μ q = μ0 q) → Tab (μ 24) (hL G p) (hL G r) (hS G p) (hS G r) i j → Wp 24 27 [some (vR 19), some (vR 8), some (vI p), some (vI r), some (vI (hS G p)), some (vI (hS G r)), some (vI i), some (vI j), o8, o9] [] μ R := by
  intro n
  induction n with
  | zero =>
    intro j μ o8 o9 hn hj hF hT
    have hc := hc0.fr (hF 8 (by decide)) (hF 9 (by decide)) (hF 10 (by decide)) (hF 11 (by decide))
    have h2 := hc.1.n
    have hsp := hc.1.s hp
    have hsr := hc.1.s hr
    have hj1 : j = -1 := by omega
    subst hj1
    refine seg 2 (show (-1 < 0 → Wp 24 145 [some (vR 19), some (vR 8), some (vI p), some (vI r), some (vI (hS G p)), some (vI (hS G r)), some (vI i), some (vI (-1)), o8, o9] [] μ R) ∧ (¬ (-1 < 0) → Wp 24 32 [some (vR 19), some (vR 8), some (vI p), some (vI r), some (vI (hS G p)), some (vI (hS G r)), some (vI i), some (vI (-1)), o8, o9] [] μ R) from ⟨fun _ => hk μ o8 o9 hF hT, fun z => absurd z (by decide)⟩)
  | succ n ih =>
    intro j μ o8 o9 hn hj hF hT
    have hc := hc0.fr (hF 8 (by decide)) (hF 9 (by decide)) (hF 10 (by decide)) (hF 11 (by decide))
    have h2 := hc.1.n
    have hsp := hc.1.s hp
    have hsr := hc.1.s hr
    refine seg 2 (show (j < 0 → Wp 24 145 [some (vR 19), some (vR 8), some (vI p), some (vI r), some (vI (hS G p)), some (vI (hS G r)), some (vI i), some (vI j), o8, o9] [] μ R) ∧ (¬ (j < 0) → Wp 24 32 [some (vR 19), some (vR 8), some (vI p), some (vI r), some (vI (hS G p)), some (vI (hS G r)), some (vI i), some (vI j), o8, o9] [] μ R) from ⟨fun c1 => ?_, fun c1 => ?_⟩)
    ·
      exfalso; omega
    ·
      refine seg 5 (show (hS G p ≤ i → Wp 24 129 [some (vR 19), some (vR 8), some (vI p), some (vI r), some (vI (hS G p)), some (vI (hS G r)), some (vI i), some (vI j), some (vI 0), o9] [] μ R) ∧ (¬ (hS G p ≤ i) → Wp 24 42 [some (vR 19), some (vR 8), some (vI p), some (vI r), some (vI (hS G p)), some (vI (hS G r)), some (vI i), some (vI j), some (vI 0), o9] [] μ R) from ⟨fun c2 => ?_, fun c2 => ?_⟩)
      ·
        refine seg 5 (show Wp 26 0 [some (vR 19), some (vI i), some (vI j), some (vI 0)] [] μ (fun rr μ' => Wp 24 139 [some (vR 19), some (vR 8), some (vI p), some (vI r), some (vI (hS G p)), some (vI (hS G r)), some (vI i), some (vI j), some (vI 0), o9] (rr.toList ++ []) μ' R) from ?_)
        refine s26v_19 (by omega) ?_
        refine seg 2 (show iR (j + (-1)) ∧ Wp 24 27 [some (vR 19), some (vR 8), some (vI p), some (vI r), some (vI (hS G p)), some (vI (hS G r)), some (vI i), some (vI (j + (-1))), some (vI 0), o9] [] (u2 μ 24 (i * 9 + j) 0) R from ⟨by omega, ?_⟩)
        refine ih (j + -1) _ _ _ (by omega) (by omega) (fun q hq => by rw [u2_ne hq]; exact hF q hq) ?_
        rw [u2_at]
        exact hT.step (by omega) (by omega) (by first | exact tab_v1 hT (by omega) (by omega) (by assumption) | exact tab_v2 hT (by omega) (by omega) (by assumption) | (rw [cm_out (by omega)]))
      ·
        refine seg 3 (show (hS G r ≤ j → Wp 24 129 [some (vR 19), some (vR 8), some (vI p), some (vI r), some (vI (hS G p)), some (vI (hS G r)), some (vI i), some (vI j), some (vI 0), o9] [] μ R) ∧ (¬ (hS G r ≤ j) → Wp 24 49 [some (vR 19), some (vR 8), some (vI p), some (vI r), some (vI (hS G p)), some (vI (hS G r)), some (vI i), some (vI j), some (vI 0), o9] [] μ R) from ⟨fun c3 => ?_, fun c3 => ?_⟩)
        ·
          refine seg 5 (show Wp 26 0 [some (vR 19), some (vI i), some (vI j), some (vI 0)] [] μ (fun rr μ' => Wp 24 139 [some (vR 19), some (vR 8), some (vI p), some (vI r), some (vI (hS G p)), some (vI (hS G r)), some (vI i), some (vI j), some (vI 0), o9] (rr.toList ++ []) μ' R) from ?_)
          refine s26v_19 (by omega) ?_
          refine seg 2 (show iR (j + (-1)) ∧ Wp 24 27 [some (vR 19), some (vR 8), some (vI p), some (vI r), some (vI (hS G p)), some (vI (hS G r)), some (vI i), some (vI (j + (-1))), some (vI 0), o9] [] (u2 μ 24 (i * 9 + j) 0) R from ⟨by omega, ?_⟩)
          refine ih (j + -1) _ _ _ (by omega) (by omega) (fun q hq => by rw [u2_ne hq]; exact hF q hq) ?_
          rw [u2_at]
          exact hT.step (by omega) (by omega) (by first | exact tab_v1 hT (by omega) (by omega) (by assumption) | exact tab_v2 hT (by omega) (by omega) (by assumption) | (rw [cm_out (by omega)]))
        ·
          refine seg 4 (show Wp 48 0 [some (vR 8), some (vI p), some (vI i)] [] μ (fun rr μ' => Wp 24 56 [some (vR 19), some (vR 8), some (vI p), some (vI r), some (vI (hS G p)), some (vI (hS G r)), some (vI i), some (vI j), some (vI 0), o9] (rr.toList ++ []) μ' R) from ?_)
          refine g48 hc (by omega) (by omega) ?_
          refine seg 4 (show Wp 48 0 [some (vR 8), some (vI r), some (vI j)] [] μ (fun rr μ' => Wp 24 63 [some (vR 19), some (vR 8), some (vI p), some (vI r), some (vI (hS G p)), some (vI (hS G r)), some (vI i), some (vI j), some (vI 0), o9] (rr.toList ++ [vI (hL G p i)]) μ' R) from ?_)
          refine g48 hc (by omega) (by omega) ?_
          refine seg 1 (show (¬ (hL G p i = hL G r j) → Wp 24 70 [some (vR 19), some (vR 8), some (vI p), some (vI r), some (vI (hS G p)), some (vI (hS G r)), some (vI i), some (vI j), some (vI 0), o9] [] μ R) ∧ (hL G p i = hL G r j → Wp 24 66 [some (vR 19), some (vR 8), some (vI p), some (vI r), some (vI (hS G p)), some (vI (hS G r)), some (vI i), some (vI j), some (vI 0), o9] [] μ R) from ⟨fun c4 => ?_, fun c4 => ?_⟩)
          ·
            refine seg 8 (show iR (i + 1) ∧ Wp 25 0 [some (vR 19), some (vI (i + 1)), some (vI j)] [] μ (fun rr μ' => Wp 24 83 [some (vR 19), some (vR 8), some (vI p), some (vI r), some (vI (hS G p)), some (vI (hS G r)), some (vI i), some (vI j), some (vI 0), some (vI 0)] (rr.toList ++ []) μ' R) from ⟨by omega, ?_⟩)
            refine s25v_19 (by omega) ?_
            refine seg 6 (show iR (j + 1) ∧ Wp 25 0 [some (vR 19), some (vI i), some (vI (j + 1))] [] μ (fun rr μ' => Wp 24 93 [some (vR 19), some (vR 8), some (vI p), some (vI r), some (vI (hS G p)), some (vI (hS G r)), some (vI i), some (vI j), some (vI 0), some (vI 0)] (rr.toList ++ [vI (μ 24 ((i + 1) * 9 + j))]) μ' R) from ⟨by omega, ?_⟩)
            refine s25v_19 (by omega) ?_
            refine seg 4 (show 0 ≤ 4 ∧ (0 = 0 → Wp 24 125 [some (vR 19), some (vR 8), some (vI p), some (vI r), some (vI (hS G p)), some (vI (hS G r)), some (vI i), some (vI j), some (vI (if μ 24 ((i + 1) * 9 + j) < μ 24 (i * 9 + (j + 1)) then μ 24 (i * 9 + (j + 1)) else μ 24 ((i + 1) * 9 + j) : Int)), some (vI 0)] [] μ R) ∧ (¬ (0 = 0) → Wp 24 103 [some (vR 19), some (vR 8), some (vI p), some (vI r), some (vI (hS G p)), some (vI (hS G r)), some (vI i), some (vI j), some (vI (if μ 24 ((i + 1) * 9 + j) < μ 24 (i * 9 + (j + 1)) then μ 24 (i * 9 + (j + 1)) else μ 24 ((i + 1) * 9 + j) : Int)), some (vI 0)] [] μ R) from ⟨by decide, fun _ => ?_, fun z => absurd z (by decide)⟩)
            refine seg 7 (show Wp 26 0 [some (vR 19), some (vI i), some (vI j), some (vI (if μ 24 ((i + 1) * 9 + j) < μ 24 (i * 9 + (j + 1)) then μ 24 (i * 9 + (j + 1)) else μ 24 ((i + 1) * 9 + j) : Int))] [] μ (fun rr μ' => Wp 24 139 [some (vR 19), some (vR 8), some (vI p), some (vI r), some (vI (hS G p)), some (vI (hS G r)), some (vI i), some (vI j), some (vI (if μ 24 ((i + 1) * 9 + j) < μ 24 (i * 9 + (j + 1)) then μ 24 (i * 9 + (j + 1)) else μ 24 ((i + 1) * 9 + j) : Int)), some (vI 0)] (rr.toList ++ []) μ' R) from ?_)
            refine s26v_19 (by omega) ?_
            refine seg 2 (show iR (j + (-1)) ∧ Wp 24 27 [some (vR 19), some (vR 8), some (vI p), some (vI r), some (vI (hS G p)), some (vI (hS G r)), some (vI i), some (vI (j + (-1))), some (vI (if μ 24 ((i + 1) * 9 + j) < μ 24 (i * 9 + (j + 1)) then μ 24 (i * 9 + (j + 1)) else μ 24 ((i + 1) * 9 + j) : Int)), some (vI 0)] [] (u2 μ 24 (i * 9 + j) (if μ 24 ((i + 1) * 9 + j) < μ 24 (i * 9 + (j + 1)) then μ 24 (i * 9 + (j + 1)) else μ 24 ((i + 1) * 9 + j) : Int)) R from ⟨by omega, ?_⟩)
            refine ih (j + -1) _ _ _ (by omega) (by omega) (fun q hq => by rw [u2_ne hq]; exact hF q hq) ?_
            rw [u2_at]
            exact hT.step (by omega) (by omega) (by first | exact tab_v1 hT (by omega) (by omega) (by assumption) | exact tab_v2 hT (by omega) (by omega) (by assumption) | (rw [cm_out (by omega)]))
          ·
            refine seg 9 (show iR (i + 1) ∧ Wp 25 0 [some (vR 19), some (vI (i + 1)), some (vI j)] [] μ (fun rr μ' => Wp 24 83 [some (vR 19), some (vR 8), some (vI p), some (vI r), some (vI (hS G p)), some (vI (hS G r)), some (vI i), some (vI j), some (vI 0), some (vI 1)] (rr.toList ++ []) μ' R) from ⟨by omega, ?_⟩)
            refine s25v_19 (by omega) ?_
            refine seg 6 (show iR (j + 1) ∧ Wp 25 0 [some (vR 19), some (vI i), some (vI (j + 1))] [] μ (fun rr μ' => Wp 24 93 [some (vR 19), some (vR 8), some (vI p), some (vI r), some (vI (hS G p)), some (vI (hS G r)), some (vI i), some (vI j), some (vI 0), some (vI 1)] (rr.toList ++ [vI (μ 24 ((i + 1) * 9 + j))]) μ' R) from ⟨by omega, ?_⟩)
            refine s25v_19 (by omega) ?_
            refine seg 4 (show 0 ≤ 4 ∧ (1 = 0 → Wp 24 125 [some (vR 19), some (vR 8), some (vI p), some (vI r), some (vI (hS G p)), some (vI (hS G r)), some (vI i), some (vI j), some (vI (if μ 24 ((i + 1) * 9 + j) < μ 24 (i * 9 + (j + 1)) then μ 24 (i * 9 + (j + 1)) else μ 24 ((i + 1) * 9 + j) : Int)), some (vI 1)] [] μ R) ∧ (¬ (1 = 0) → Wp 24 103 [some (vR 19), some (vR 8), some (vI p), some (vI r), some (vI (hS G p)), some (vI (hS G r)), some (vI i), some (vI j), some (vI (if μ 24 ((i + 1) * 9 + j) < μ 24 (i * 9 + (j + 1)) then μ 24 (i * 9 + (j + 1)) else μ 24 ((i + 1) * 9 + j) : Int)), some (vI 1)] [] μ R) from ⟨by decide, fun z => absurd z (by decide), fun _ => ?_⟩)
            refine seg 9 (show iR (i + 1) ∧ iR (j + 1) ∧ Wp 25 0 [some (vR 19), some (vI (i + 1)), some (vI (j + 1))] [] μ (fun rr μ' => Wp 24 117 [some (vR 19), some (vR 8), some (vI p), some (vI r), some (vI (hS G p)), some (vI (hS G r)), some (vI i), some (vI j), some (vI (if μ 24 ((i + 1) * 9 + j) < μ 24 (i * 9 + (j + 1)) then μ 24 (i * 9 + (j + 1)) else μ 24 ((i + 1) * 9 + j) : Int)), some (vI 1)] (rr.toList ++ [vI (if μ 24 ((i + 1) * 9 + j) < μ 24 (i * 9 + (j + 1)) then μ 24 (i * 9 + (j + 1)) else μ 24 ((i + 1) * 9 + j) : Int)]) μ' R) from ⟨by omega, by omega, ?_⟩)
            refine s25v_19 (by omega) ?_
            refine seg 10 (show iR ((μ 24 ((i + 1) * 9 + (j + 1))) + 1) ∧ 0 ≤ 4 ∧ Wp 26 0 [some (vR 19), some (vI i), some (vI j), some (vI (if (if μ 24 ((i + 1) * 9 + j) < μ 24 (i * 9 + (j + 1)) then μ 24 (i * 9 + (j + 1)) else μ 24 ((i + 1) * 9 + j) : Int) < (μ 24 ((i + 1) * 9 + (j + 1))) + 1 then (μ 24 ((i + 1) * 9 + (j + 1))) + 1 else (if μ 24 ((i + 1) * 9 + j) < μ 24 (i * 9 + (j + 1)) then μ 24 (i * 9 + (j + 1)) else μ 24 ((i + 1) * 9 + j) : Int) : Int))] [] μ (fun rr μ' => Wp 24 139 [some (vR 19), some (vR 8), some (vI p), some (vI r), some (vI (hS G p)), some (vI (hS G r)), some (vI i), some (vI j), some (vI (if (if μ 24 ((i + 1) * 9 + j) < μ 24 (i * 9 + (j + 1)) then μ 24 (i * 9 + (j + 1)) else μ 24 ((i + 1) * 9 + j) : Int) < (μ 24 ((i + 1) * 9 + (j + 1))) + 1 then (μ 24 ((i + 1) * 9 + (j + 1))) + 1 else (if μ 24 ((i + 1) * 9 + j) < μ 24 (i * 9 + (j + 1)) then μ 24 (i * 9 + (j + 1)) else μ 24 ((i + 1) * 9 + j) : Int) : Int)), some (vI 1)] (rr.toList ++ []) μ' R) from ⟨by have := tab_rg (a := i + 1) (b := j + 1) hT (by omega) (by omega) (by omega) (by omega); omega, by decide, ?_⟩)
            refine s26v_19 (by omega) ?_
            refine seg 2 (show iR (j + (-1)) ∧ Wp 24 27 [some (vR 19), some (vR 8), some (vI p), some (vI r), some (vI (hS G p)), some (vI (hS G r)), some (vI i), some (vI (j + (-1))), some (vI (if (if μ 24 ((i + 1) * 9 + j) < μ 24 (i * 9 + (j + 1)) then μ 24 (i * 9 + (j + 1)) else μ 24 ((i + 1) * 9 + j) : Int) < (μ 24 ((i + 1) * 9 + (j + 1))) + 1 then (μ 24 ((i + 1) * 9 + (j + 1))) + 1 else (if μ 24 ((i + 1) * 9 + j) < μ 24 (i * 9 + (j + 1)) then μ 24 (i * 9 + (j + 1)) else μ 24 ((i + 1) * 9 + j) : Int) : Int)), some (vI 1)] [] (u2 μ 24 (i * 9 + j) (if (if μ 24 ((i + 1) * 9 + j) < μ 24 (i * 9 + (j + 1)) then μ 24 (i * 9 + (j + 1)) else μ 24 ((i + 1) * 9 + j) : Int) < (μ 24 ((i + 1) * 9 + (j + 1))) + 1 then (μ 24 ((i + 1) * 9 + (j + 1))) + 1 else (if μ 24 ((i + 1) * 9 + j) < μ 24 (i * 9 + (j + 1)) then μ 24 (i * 9 + (j + 1)) else μ 24 ((i + 1) * 9 + j) : Int) : Int)) R from ⟨by omega, ?_⟩)
            refine ih (j + -1) _ _ _ (by omega) (by omega) (fun q hq => by rw [u2_ne hq]; exact hF q hq) ?_
            rw [u2_at]
            exact hT.step (by omega) (by omega) (by first | exact tab_v1 hT (by omega) (by omega) (by assumption) | exact tab_v2 hT (by omega) (by omega) (by assumption) | (rw [cm_out (by omega)]))
theorem l24b_19 {G : Hi} {p r : Int} {R : Po} {μ0 : Mu} (hc0 : GC G μ0) (hp : 0 ≤ p ∧ p < hN G) (hr : 0 ≤ r ∧ r < hN G) (hk : ∀ (μ : Mu), (∀ q, q ≠ 24 → μ q = μ0 q) → Tab (μ 24) (hL G p) (hL G r) (hS G p) (hS G r) (-1) (hS G r) → R none μ) : ∀ (n : Nat) (i : Int) (μ : Mu) (o7 o8 o9 : Option PV), i + 1 = n → i ≤ hS G p → (∀ q, q ≠ 24 → μ q = μ0 q) → Tab (μ 24) (hL G p) (hL G r) (hS G p) (hS G r) i (hS G r) → Wp 24 18 [some (vR 19), some (vR 8), some (vI p), some (vI r), some (vI (hS G p)), some (vI (hS G r)), some (vI i), o7, o8, o9] [] μ R := by
  intro n
  induction n with
  | zero =>
    intro i μ o7 o8 o9 hn hi hF hT
    have hc := hc0.fr (hF 8 (by decide)) (hF 9 (by decide)) (hF 10 (by decide)) (hF 11 (by decide))
    have h2 := hc.1.n
    have hsp := hc.1.s hp
    have hsr := hc.1.s hr
    refine seg 2 (show (i < 0 → Wp 24 151 [some (vR 19), some (vR 8), some (vI p), some (vI r), some (vI (hS G p)), some (vI (hS G r)), some (vI i), o7, o8, o9] [] μ R) ∧ (¬ (i < 0) → Wp 24 23 [some (vR 19), some (vR 8), some (vI p), some (vI r), some (vI (hS G p)), some (vI (hS G r)), some (vI i), o7, o8, o9] [] μ R) from ⟨fun c1 => ?_, fun c1 => ?_⟩)
    ·
      refine seg 1 (show R none μ from ?_)
      first | (obtain rfl : i = -1 := (by omega); exact hk μ hF hT) | (exfalso; omega)
    ·
      refine seg 2 (show Wp 24 27 [some (vR 19), some (vR 8), some (vI p), some (vI r), some (vI (hS G p)), some (vI (hS G r)), some (vI i), some (vI (hS G r)), o8, o9] [] μ R from ?_)
      exfalso; omega
  | succ n ih =>
    intro i μ o7 o8 o9 hn hi hF hT
    have hc := hc0.fr (hF 8 (by decide)) (hF 9 (by decide)) (hF 10 (by decide)) (hF 11 (by decide))
    have h2 := hc.1.n
    have hsp := hc.1.s hp
    have hsr := hc.1.s hr
    refine seg 2 (show (i < 0 → Wp 24 151 [some (vR 19), some (vR 8), some (vI p), some (vI r), some (vI (hS G p)), some (vI (hS G r)), some (vI i), o7, o8, o9] [] μ R) ∧ (¬ (i < 0) → Wp 24 23 [some (vR 19), some (vR 8), some (vI p), some (vI r), some (vI (hS G p)), some (vI (hS G r)), some (vI i), o7, o8, o9] [] μ R) from ⟨fun c2 => ?_, fun c2 => ?_⟩)
    ·
      refine seg 1 (show R none μ from ?_)
      first | (obtain rfl : i = -1 := (by omega); exact hk μ hF hT) | (exfalso; omega)
    ·
      refine seg 2 (show Wp 24 27 [some (vR 19), some (vR 8), some (vI p), some (vI r), some (vI (hS G p)), some (vI (hS G r)), some (vI i), some (vI (hS G r)), o8, o9] [] μ R from ?_)
      refine l24a_19 hc0 hp hr (i := i) (by omega) (fun μ o8 o9 hF hT => ?_) (hS G r + 1).toNat (hS G r) μ o8 o9 (by omega) (Int.le_refl _) hF hT
      refine seg 2 (show iR (i + (-1)) ∧ Wp 24 18 [some (vR 19), some (vR 8), some (vI p), some (vI r), some (vI (hS G p)), some (vI (hS G r)), some (vI (i + (-1))), some (vI (-1)), o8, o9] [] μ R from ⟨by omega, ?_⟩)
      exact ih (i + -1) μ _ _ _ (by omega) (by omega) hF hT.row
theorem s24_19 {G : Hi} {p r : Int} {R : Po} {μ : Mu} (hc : GC G μ) (hp : 0 ≤ p ∧ p < hN G) (hr : 0 ≤ r ∧ r < hN G) (hk : ∀ (μ2 : Mu), (∀ q, q ≠ 24 → μ2 q = μ q) → Tab (μ2 24) (hL G p) (hL G r) (hS G p) (hS G r) (-1) (hS G r) → R none μ2) : Wp 24 0 [some (vR 19), some (vR 8), some (vI p), some (vI r), none, none, none, none, none, none] [] μ R := by
  have h2 := hc.1.n
  have hsp := hc.1.s hp
  have hsr := hc.1.s hr
  refine seg 3 (show Wp 46 0 [some (vR 8), some (vI p)] [] μ (fun rr μ' => Wp 24 5 [some (vR 19), some (vR 8), some (vI p), some (vI r), none, none, none, none, none, none] (rr.toList ++ []) μ' R) from ?_)
  refine g46 hc (by omega) ?_
  refine seg 4 (show Wp 46 0 [some (vR 8), some (vI r)] [] μ (fun rr μ' => Wp 24 12 [some (vR 19), some (vR 8), some (vI p), some (vI r), some (vI (hS G p)), none, none, none, none, none] (rr.toList ++ []) μ' R) from ?_)
  refine g46 hc (by omega) ?_
  refine seg 3 (show Wp 24 18 [some (vR 19), some (vR 8), some (vI p), some (vI r), some (vI (hS G p)), some (vI (hS G r)), some (vI (hS G p)), none, none, none] [] μ R from ?_)
  exact l24b_19 hc hp hr hk (hS G p + 1).toNat (hS G p) μ _ _ _ (by omega) (Int.le_refl _) (fun _ _ => rfl) (fun a b h1 _ h3 h4 => (by exfalso; omega))
