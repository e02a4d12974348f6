/-! the reading of a text, one for both; the class's reader -/
abbrev dg (T : Tx) (i : Int) : Prop := (0 ≤ i ∧ i < T.1) ∧ 48 ≤ T.2 i ∧ T.2 i ≤ 57
def p2 (f : Int → Int → Int) (r w v : Int) : Int → Int → Int := fun x y => if x = r ∧ y = w then v else f x y
def bgD (D : Hi) : Hi := (D.1, up1 D.2.1 D.1 0, p2 (p2 D.2.2.1 D.1 0 (-9)) D.1 1 (-9), D.2.2.2)
def enD (D : Hi) : Hi := (D.1 + 1, D.2)
def lnD (D : Hi) (c : Int) : Hi := (D.1, up1 D.2.1 D.1 (D.2.1 D.1 + 1), D.2.2.1, p2 D.2.2.2 D.1 (D.2.1 D.1) c)
def paD (D : Hi) (w v : Int) : Hi := (D.1, D.2.1, p2 D.2.2.1 D.1 w v, D.2.2.2)
def stD (T : Tx) (i q : Int) (D : Hi) : Option (Int × Hi) :=
  if T.2 i = 82 then (if q = 0 ∧ hN D < 8 then some (1, bgD D) else none)
  else if T.2 i = 58 then (if q = 1 then some (2, D) else none)
  else if T.2 i = 59 then (if q = 2 then some (0, enD D) else none)
  else if 97 ≤ T.2 i ∧ T.2 i ≤ 122 then (if q = 2 ∧ hS D (hN D) < 8 then some (2, lnD D (T.2 i)) else none)
  else if q = 1 ∧ (48 ≤ T.2 i ∧ T.2 i ≤ 57) ∧ ¬ dg T (i + 1) ∧ T.2 i - 48 < hN D then
    (if hP D (hN D) 0 = -9 then some (1, paD D 0 (T.2 i - 48)) else if hP D (hN D) 1 = -9 ∧ hP D (hN D) 0 ≠ T.2 i - 48 then some (1, paD D 1 (T.2 i - 48)) else none)
  else none
def rnD (T : Tx) : Nat → Int → Int → Hi → Int ⊕ Hi
  | 0, _, q, D => if q = 0 then .inr D else .inl T.1
  | n + 1, i, q, D => if T.2 i = 32 then rnD T n (i + 1) q D else match stD T i q D with
    | none => .inl i
    | some z => rnD T n (i + 1) z.1 z.2
def prs (T : Tx) (i q : Int) (D : Hi) : Int ⊕ Hi := rnD T (T.1 - i).toNat i q D
theorem prs_e {T : Tx} {i q : Int} {D : Hi} (h : T.1 ≤ i) : prs T i q D = if q = 0 then .inr D else .inl T.1 := by
  unfold prs
  rw [show (T.1 - i).toNat = 0 by omega, rnD]
theorem prs_s {T : Tx} {i q : Int} {D : Hi} (h : i < T.1) (hc : T.2 i = 32) : prs T i q D = prs T (i + 1) q D := by
  unfold prs
  rw [show (T.1 - i).toNat = (T.1 - (i + 1)).toNat + 1 by omega, rnD, if_pos hc]
theorem prs_n {T : Tx} {i q : Int} {D : Hi} (h : i < T.1) (hc : T.2 i ≠ 32) (hs : stD T i q D = none) : prs T i q D = .inl i := by
  unfold prs
  rw [show (T.1 - i).toNat = (T.1 - (i + 1)).toNat + 1 by omega, rnD, if_neg hc, hs]
theorem prs_y {T : Tx} {i q q' : Int} {D D' : Hi} (h : i < T.1) (hc : T.2 i ≠ 32) (hs : stD T i q D = some (q', D')) : prs T i q D = prs T (i + 1) q' D' := by
  unfold prs
  rw [show (T.1 - i).toNat = (T.1 - (i + 1)).toNat + 1 by omega, rnD, if_neg hc, hs]
def HiB (G : Hi) (r : Int) : Prop := (0 ≤ hS G r ∧ hS G r ≤ 8) ∧ PaOK r (hP G r 0) ∧ PaOK r (hP G r 1) ∧ (hP G r 0 = -9 → hP G r 1 = -9)
def DOK (q : Int) (D : Hi) : Prop := (0 ≤ hN D ∧ hN D ≤ 8) ∧ (q = 0 ∨ ((q = 1 ∨ q = 2) ∧ hN D < 8)) ∧ ∀ r, 0 ≤ r → (r < hN D ∨ (q ≠ 0 ∧ r = hN D)) → HiB D r
theorem bgS (D : Hi) (r : Int) : hS (bgD D) r = if r = hN D then 0 else hS D r := rfl
theorem bgP (D : Hi) (r w : Int) : hP (bgD D) r w = if r = hN D ∧ w = 1 then -9 else if r = hN D ∧ w = 0 then -9 else hP D r w := rfl
theorem bgL (D : Hi) (r k : Int) : hL (bgD D) r k = hL D r k := rfl
theorem bgN (D : Hi) : hN (bgD D) = hN D := rfl
theorem lnS (D : Hi) (c r : Int) : hS (lnD D c) r = if r = hN D then hS D (hN D) + 1 else hS D r := rfl
theorem lnP (D : Hi) (c r w : Int) : hP (lnD D c) r w = hP D r w := rfl
theorem lnL (D : Hi) (c r k : Int) : hL (lnD D c) r k = if r = hN D ∧ k = hS D (hN D) then c else hL D r k := rfl
theorem lnN (D : Hi) (c : Int) : hN (lnD D c) = hN D := rfl
theorem paS (D : Hi) (w v r : Int) : hS (paD D w v) r = hS D r := rfl
theorem paP (D : Hi) (w v r x : Int) : hP (paD D w v) r x = if r = hN D ∧ x = w then v else hP D r x := rfl
theorem paL (D : Hi) (w v r k : Int) : hL (paD D w v) r k = hL D r k := rfl
theorem paN (D : Hi) (w v : Int) : hN (paD D w v) = hN D := rfl
theorem enN (D : Hi) : hN (enD D) = hN D + 1 := rfl
theorem enS (D : Hi) (r : Int) : hS (enD D) r = hS D r := rfl
theorem enP (D : Hi) (r w : Int) : hP (enD D) r w = hP D r w := rfl
theorem enL (D : Hi) (r k : Int) : hL (enD D) r k = hL D r k := rfl
theorem dok_bg {D : Hi} (h : DOK 0 D) (hn : hN D < 8) : DOK 1 (bgD D) := by
  obtain ⟨h1, h2, h3⟩ := h
  refine ⟨h1, Or.inr ⟨Or.inl rfl, hn⟩, fun r a b => ?_⟩
  rw [bgN] at b
  by_cases e : r = hN D
  · unfold HiB PaOK; rw [bgS, bgP, bgP, if_pos e, if_neg (by omega), if_pos ⟨e, rfl⟩, if_pos ⟨e, rfl⟩]; omega
  · have := h3 r a (Or.inl (by omega)); unfold HiB; rw [bgS, bgP, bgP, if_neg e, if_neg (by omega), if_neg (by omega), if_neg (by omega), if_neg (by omega)]; exact this
theorem dok_co {D : Hi} (h : DOK 1 D) : DOK 2 D := by
  obtain ⟨h1, h2, h3⟩ := h
  exact ⟨h1, Or.inr ⟨Or.inr rfl, by omega⟩, fun r a b => h3 r a (by omega)⟩
theorem dok_en {D : Hi} (h : DOK 2 D) : DOK 0 (enD D) := by
  obtain ⟨h1, h2, h3⟩ := h
  exact ⟨by rw [enN]; omega, Or.inl rfl, fun r a b => h3 r a (by rw [enN] at b; omega)⟩
theorem dok_ln {D : Hi} {c : Int} (h : DOK 2 D) (hs : hS D (hN D) < 8) : DOK 2 (lnD D c) := by
  obtain ⟨h1, h2, h3⟩ := h
  refine ⟨h1, h2, fun r a b => ?_⟩
  rw [lnN] at b
  have := h3 r a b
  unfold HiB at this ⊢
  rw [lnS, lnP, lnP]
  refine ⟨?_, this.2⟩
  by_cases e : r = hN D
  · rw [if_pos e]; rw [e] at this; omega
  · rw [if_neg e]; exact this.1
theorem dok_pa {D : Hi} {w v : Int} (h : DOK 1 D) (hv : 0 ≤ v ∧ v < hN D) (hw : w = 0 ∨ (w = 1 ∧ hP D (hN D) 0 ≠ -9)) : DOK 1 (paD D w v) := by
  obtain ⟨h1, h2, h3⟩ := h
  refine ⟨h1, h2, fun r a b => ?_⟩
  rw [paN] at b
  have := h3 r a b
  unfold HiB PaOK at this ⊢
  rw [paS, paP, paP]
  by_cases e : r = hN D
  · subst e
    rcases hw with rfl | ⟨rfl, hw⟩
    · rw [if_pos ⟨rfl, rfl⟩, if_neg (by omega)]; omega
    · rw [if_neg (by omega), if_pos ⟨rfl, rfl⟩]; omega
  · rw [if_neg (by omega), if_neg (by omega)]; exact this
theorem dok_hi {D : Hi} (h : DOK 0 D) : HiOK D := ⟨h.1.1, h.1.2, fun r a b => h.2.2 r a (Or.inl b)⟩
/-- the class's draft -/
def DC (q : Int) (D : Hi) (μ : Mu) : Prop := μ 3 0 = q ∧ μ 4 0 = hN D ∧ ∀ r, 0 ≤ r → (r < hN D ∨ (q ≠ 0 ∧ r = hN D)) → μ 6 r = hS D r ∧ μ 5 (r * 2 + 0) = hP D r 0 ∧ μ 5 (r * 2 + 1) = hP D r 1 ∧ ∀ k, 0 ≤ k → k < hS D r → μ 7 (r * 8 + k) = hL D r k
theorem DC.bg {D : Hi} {μ : Mu} (h : DC 0 D μ) : DC 1 (bgD D) (u2 (u2 (u2 (u2 μ 6 (hN D) 0) 5 (hN D * 2 + 0) (-9)) 5 (hN D * 2 + 1) (-9)) 3 0 1) := by
  obtain ⟨h1, h2, h3⟩ := h
  refine ⟨by rw [u2_at, up1_s], by rw [u2_ne (by decide), u2_ne (by decide), u2_ne (by decide), u2_ne (by decide)]; exact h2, fun r a b => ?_⟩
  rw [bgN] at b
  rw [u2_ne (by decide), u2_ne (by decide), u2_ne (by decide), u2_at, u2_ne (by decide), u2_at, u2_at, u2_ne (by decide), u2_ne (by decide), u2_ne (by decide), u2_ne (by decide), u2_ne (by decide)]
  by_cases e : r = hN D
  · subst e
    rw [up1_s, up1_n (by omega), up1_s, up1_s, bgS, bgP, bgP, if_pos rfl, if_neg (by omega), if_pos ⟨rfl, rfl⟩, if_pos ⟨rfl, rfl⟩]
    exact ⟨rfl, rfl, rfl, fun k a b => absurd b (by omega)⟩
  · rw [up1_n e, up1_n (by omega), up1_n (by omega), up1_n (by omega), up1_n (by omega), bgS, bgP, bgP, if_neg e, if_neg (by omega), if_neg (by omega), if_neg (by omega), if_neg (by omega)]
    exact h3 r a (Or.inl (by omega))
theorem DC.co {D : Hi} {μ : Mu} (h : DC 1 D μ) : DC 2 D (u2 μ 3 0 2) := by
  obtain ⟨h1, h2, h3⟩ := h
  refine ⟨by rw [u2_at, up1_s], by rw [u2_ne (by decide)]; exact h2, fun r a b => ?_⟩
  rw [u2_ne (by decide), u2_ne (by decide), u2_ne (by decide)]
  exact h3 r a (by omega)
theorem DC.en {D : Hi} {μ : Mu} (h : DC 2 D μ) : DC 0 (enD D) (u2 (u2 μ 4 0 (hN D + 1)) 3 0 0) := by
  obtain ⟨h1, h2, h3⟩ := h
  refine ⟨by rw [u2_at, up1_s], by rw [u2_ne (by decide), u2_at, up1_s]; rfl, fun r a b => ?_⟩
  rw [u2_ne (by decide), u2_ne (by decide), u2_ne (by decide), u2_ne (by decide), u2_ne (by decide), u2_ne (by decide)]
  rw [enN] at b
  exact h3 r a (by omega)
theorem DC.ln {D : Hi} {μ : Mu} {c : Int} (h : DC 2 D μ) (hs : ∀ r, 0 ≤ r → (r < hN D ∨ ((2 : Int) ≠ 0 ∧ r = hN D)) → HiB D r) (hb : hS D (hN D) < 8) : DC 2 (lnD D c) (u2 (u2 μ 7 (hN D * 8 + hS D (hN D)) c) 6 (hN D) (hS D (hN D) + 1)) := by
  obtain ⟨h1, h2, h3⟩ := h
  refine ⟨by rw [u2_ne (by decide), u2_ne (by decide)]; exact h1, by rw [u2_ne (by decide), u2_ne (by decide)]; exact h2, fun r a b => ?_⟩
  rw [lnN] at b
  have hh := h3 r a b
  have h8 := (hs r a b).1
  rw [u2_at, u2_ne (by decide), u2_ne (by decide), u2_ne (by decide), u2_ne (by decide), u2_at, lnS, lnP, lnP]
  refine ⟨?_, hh.2.1, hh.2.2.1, fun k k1 k2 => ?_⟩
  · by_cases e : r = hN D
    · rw [e, up1_s, if_pos rfl]
    · rw [up1_n e, if_neg e]; exact hh.1
  · rw [lnL]
    by_cases e : r = hN D
    · rw [if_pos e] at k2
      by_cases e2 : k = hS D (hN D)
      · rw [e, e2, up1_s, if_pos ⟨rfl, rfl⟩]
      · rw [up1_n (by omega), if_neg (by omega)]; exact hh.2.2.2 k k1 (by rw [e]; omega)
    · rw [if_neg e] at k2
      have hd := hs (hN D) (by omega) (Or.inr ⟨by decide, rfl⟩)
      have hd2 := hd.1
      rw [up1_n (by omega), if_neg (by omega)]; exact hh.2.2.2 k k1 k2
theorem DC.pa {D : Hi} {μ : Mu} {w v : Int} (h : DC 1 D μ) (hw : w = 0 ∨ w = 1) : DC 1 (paD D w v) (u2 μ 5 (hN D * 2 + w) v) := by
  obtain ⟨h1, h2, h3⟩ := h
  refine ⟨by rw [u2_ne (by decide)]; exact h1, by rw [u2_ne (by decide)]; exact h2, fun r a b => ?_⟩
  rw [paN] at b
  have hh := h3 r a b
  rw [u2_ne (by decide), u2_at, u2_ne (by decide), paS, paP, paP]
  refine ⟨hh.1, ?_, ?_, hh.2.2.2⟩
  · by_cases e : r = hN D ∧ (0 : Int) = w
    · rw [if_pos e, ← e.2, e.1, up1_s]
    · rw [if_neg e, up1_n (by omega)]; exact hh.2.1
  · by_cases e : r = hN D ∧ (1 : Int) = w
    · rw [if_pos e, ← e.2, e.1, up1_s]
    · rw [if_neg e, up1_n (by omega)]; exact hh.2.2.1
theorem s79 {T : Tx} {R : Po} {μ : Mu} (ht : RT T μ) {i : Int} (hy : dg T i → R (some (vI 1)) μ) (hn : ¬ dg T i → R (some (vI 0)) μ) : Wp 79 0 [some (vR 1), some (vI i), none] [] μ R := by
  have e1 := ht.1
  have e2 := ht.2.1
  refine seg 3 (show Wp 78 0 [some (vR 1), some (vI i)] [] μ (fun rr μ' => Wp 79 5 [some (vR 1), some (vI i), none] (rr.toList ++ []) μ' R) from ?_)
  refine s78 (by omega) (fun b1 => ?_) (fun b1 => ?_)
  ·
    obtain ⟨z0, z1, z2⟩ := ht.2.2 i (by omega) (by omega)
    refine seg 4 (show (μ 2 i < 48 → Wp 79 22 [some (vR 1), some (vI i), some (vI (μ 2 i))] [] μ R) ∧ (¬ (μ 2 i < 48) → Wp 79 12 [some (vR 1), some (vI i), some (vI (μ 2 i))] [] μ R) from ⟨fun c2 => ?_, fun c2 => ?_⟩)
    ·
      refine seg 2 (show (0 = 0 ∨ 0 = 1) ∧ R (some (vI 0)) μ from ⟨by decide, ?_⟩)
      first | exact hy (by omega) | exact hn (by omega)
    ·
      refine seg 3 (show (57 < μ 2 i → Wp 79 22 [some (vR 1), some (vI i), some (vI (μ 2 i))] [] μ R) ∧ (¬ (57 < μ 2 i) → Wp 79 18 [some (vR 1), some (vI i), some (vI (μ 2 i))] [] μ R) from ⟨fun c3 => ?_, fun c3 => ?_⟩)
      ·
        refine seg 2 (show (0 = 0 ∨ 0 = 1) ∧ R (some (vI 0)) μ from ⟨by decide, ?_⟩)
        first | exact hy (by omega) | exact hn (by omega)
      ·
        refine seg 3 (show (1 = 0 ∨ 1 = 1) ∧ R (some (vI 1)) μ from ⟨by decide, ?_⟩)
        first | exact hy (by omega) | exact hn (by omega)
  ·
    refine seg 4 (show (-9 < 48 → Wp 79 22 [some (vR 1), some (vI i), some (vI (-9))] [] μ R) ∧ (¬ (-9 < 48) → Wp 79 12 [some (vR 1), some (vI i), some (vI (-9))] [] μ R) from ⟨fun _ => ?_, fun z => absurd z (by decide)⟩)
    refine seg 2 (show (0 = 0 ∨ 0 = 1) ∧ R (some (vI 0)) μ from ⟨by decide, ?_⟩)
    first | exact hy (by omega) | exact hn (by omega)
theorem s80 {T : Tx} {R : Po} {μ : Mu} (ht : RT T μ) {i : Int} (hi : 0 ≤ i ∧ i < T.1) (h0 : ¬ dg T i → R (some (vI (-9))) μ) (h1 : dg T i → ¬ dg T (i + 1) → R (some (vI (T.2 i - 48))) μ) (h2 : dg T i → dg T (i + 1) → ∀ v : Int, (v = -9 ∨ 10 ≤ v) → R (some (vI v)) μ) : Wp 80 0 [some (vR 1), some (vI i), none] [] μ R := by
  have e1 := ht.1
  have e2 := ht.2.1
  have e3 := ht.2.2 i hi.1 hi.2
  refine seg 3 (show Wp 79 0 [some (vR 1), some (vI i), none] [] μ (fun rr μ' => Wp 80 5 [some (vR 1), some (vI i), none] (rr.toList ++ []) μ' R) from ?_)
  refine s79 ht (fun b1 => ?_) (fun b1 => ?_)
  ·
    refine seg 1 (show (¬ (1 = 0) → Wp 80 11 [some (vR 1), some (vI i), none] [] μ R) ∧ (1 = 0 → Wp 80 8 [some (vR 1), some (vI i), none] [] μ R) from ⟨fun _ => ?_, fun z => absurd z (by decide)⟩)
    refine seg 3 (show Wp 78 0 [some (vR 1), some (vI i)] [] μ (fun rr μ' => Wp 80 16 [some (vR 1), some (vI i), none] (rr.toList ++ []) μ' R) from ?_)
    obtain ⟨y0, y1, y2⟩ := ht.2.2 i (by omega) (by omega)
    refine s78 (by omega) (fun _ => ?_) (fun z => absurd z (by omega))
    rw [y0]
    refine seg 8 (show iR ((T.2 i) - 48) ∧ iR (i + 1) ∧ Wp 79 0 [some (vR 1), some (vI (i + 1)), none] [] μ (fun rr μ' => Wp 80 27 [some (vR 1), some (vI i), some (vI ((T.2 i) - 48))] (rr.toList ++ []) μ' R) from ⟨by omega, by omega, ?_⟩)
    refine s79 ht (fun b2 => ?_) (fun b2 => ?_)
    ·
      refine seg 1 (show (¬ (1 = 0) → Wp 80 32 [some (vR 1), some (vI i), some (vI ((T.2 i) - 48))] [] μ R) ∧ (1 = 0 → Wp 80 30 [some (vR 1), some (vI i), some (vI ((T.2 i) - 48))] [] μ R) from ⟨fun _ => ?_, fun z => absurd z (by decide)⟩)
      refine seg 2 (show ((T.2 i) - 48 = 0 → Wp 80 46 [some (vR 1), some (vI i), some (vI ((T.2 i) - 48))] [] μ R) ∧ (¬ ((T.2 i) - 48 = 0) → Wp 80 36 [some (vR 1), some (vI i), some (vI ((T.2 i) - 48))] [] μ R) from ⟨fun c3 => ?_, fun c3 => ?_⟩)
      ·
        refine seg 2 (show R (some (vI (-9))) μ from ?_)
        first | exact h0 (by assumption) | exact h1 (by assumption) (by assumption) | exact h2 (by assumption) (by assumption) _ (Or.inl rfl) | exact h2 (by assumption) (by assumption) _ (Or.inr (by omega))
      ·
        refine seg 5 (show iR (i + 2) ∧ Wp 79 0 [some (vR 1), some (vI (i + 2)), none] [] μ (fun rr μ' => Wp 80 43 [some (vR 1), some (vI i), some (vI ((T.2 i) - 48))] (rr.toList ++ []) μ' R) from ⟨by omega, ?_⟩)
        refine s79 ht (fun b4 => ?_) (fun b4 => ?_)
        ·
          refine seg 1 (show (1 = 0 → Wp 80 49 [some (vR 1), some (vI i), some (vI ((T.2 i) - 48))] [] μ R) ∧ (¬ (1 = 0) → Wp 80 46 [some (vR 1), some (vI i), some (vI ((T.2 i) - 48))] [] μ R) from ⟨fun z => absurd z (by decide), fun _ => ?_⟩)
          refine seg 2 (show R (some (vI (-9))) μ from ?_)
          first | exact h0 (by assumption) | exact h1 (by assumption) (by assumption) | exact h2 (by assumption) (by assumption) _ (Or.inl rfl) | exact h2 (by assumption) (by assumption) _ (Or.inr (by omega))
        ·
          refine seg 1 (show (0 = 0 → Wp 80 49 [some (vR 1), some (vI i), some (vI ((T.2 i) - 48))] [] μ R) ∧ (¬ (0 = 0) → Wp 80 46 [some (vR 1), some (vI i), some (vI ((T.2 i) - 48))] [] μ R) from ⟨fun _ => ?_, fun z => absurd z (by decide)⟩)
          refine seg 8 (show iR (((T.2 i) - 48) * 10) ∧ iR (i + 1) ∧ Wp 78 0 [some (vR 1), some (vI (i + 1))] [] μ (fun rr μ' => Wp 80 60 [some (vR 1), some (vI i), some (vI ((T.2 i) - 48))] (rr.toList ++ [vI (((T.2 i) - 48) * 10)]) μ' R) from ⟨by omega, by omega, ?_⟩)
          obtain ⟨y0, y1, y2⟩ := ht.2.2 (i + 1) (by omega) (by omega)
          refine s78 (by omega) (fun _ => ?_) (fun z => absurd z (by omega))
          rw [y0]
          refine seg 4 (show iR ((((T.2 i) - 48) * 10) + (T.2 (i + 1))) ∧ iR (((((T.2 i) - 48) * 10) + (T.2 (i + 1))) - 48) ∧ R (some (vI (((((T.2 i) - 48) * 10) + (T.2 (i + 1))) - 48))) μ from ⟨by omega, by omega, ?_⟩)
          first | exact h0 (by assumption) | exact h1 (by assumption) (by assumption) | exact h2 (by assumption) (by assumption) _ (Or.inl rfl) | exact h2 (by assumption) (by assumption) _ (Or.inr (by omega))
    ·
      refine seg 1 (show (¬ (0 = 0) → Wp 80 32 [some (vR 1), some (vI i), some (vI ((T.2 i) - 48))] [] μ R) ∧ (0 = 0 → Wp 80 30 [some (vR 1), some (vI i), some (vI ((T.2 i) - 48))] [] μ R) from ⟨fun z => absurd z (by decide), fun _ => ?_⟩)
      refine seg 2 (show R (some (vI ((T.2 i) - 48))) μ from ?_)
      first | exact h0 (by assumption) | exact h1 (by assumption) (by assumption) | exact h2 (by assumption) (by assumption) _ (Or.inl rfl) | exact h2 (by assumption) (by assumption) _ (Or.inr (by omega))
  ·
    refine seg 1 (show (¬ (0 = 0) → Wp 80 11 [some (vR 1), some (vI i), none] [] μ R) ∧ (0 = 0 → Wp 80 8 [some (vR 1), some (vI i), none] [] μ R) from ⟨fun z => absurd z (by decide), fun _ => ?_⟩)
    refine seg 2 (show R (some (vI (-9))) μ from ?_)
    first | exact h0 (by assumption) | exact h1 (by assumption) (by assumption) | exact h2 (by assumption) (by assumption) _ (Or.inl rfl) | exact h2 (by assumption) (by assumption) _ (Or.inr (by omega))
theorem s37 {T : Tx} {R : Po} {μ : Mu} (ht : RT T μ) {i : Int} (hi : 0 ≤ i ∧ i < T.1) (hd : ¬ (dg T i ∧ dg T (i - 1))) (hy : T.2 i ≠ 32 → R (some (vI 1)) μ) (hn : T.2 i = 32 → R (some (vI 0)) μ) : Wp 37 0 [some (vR 1), some (vI i)] [] μ R := by
  have e1 := ht.1
  have e2 := ht.2.1
  refine seg 3 (show Wp 78 0 [some (vR 1), some (vI i)] [] μ (fun rr μ' => Wp 37 5 [some (vR 1), some (vI i)] (rr.toList ++ []) μ' R) from ?_)
  obtain ⟨y0, y1, y2⟩ := ht.2.2 i (by omega) (by omega)
  refine s78 (by omega) (fun _ => ?_) (fun z => absurd z (by omega))
  rw [y0]
  refine seg 2 (show (¬ (T.2 i = 32) → Wp 37 12 [some (vR 1), some (vI i)] [] μ R) ∧ (T.2 i = 32 → Wp 37 10 [some (vR 1), some (vI i)] [] μ R) from ⟨fun c1 => ?_, fun c1 => ?_⟩)
  ·
    refine seg 3 (show Wp 79 0 [some (vR 1), some (vI i), none] [] μ (fun rr μ' => Wp 37 17 [some (vR 1), some (vI i)] (rr.toList ++ []) μ' R) from ?_)
    refine s79 ht (fun b2 => ?_) (fun b2 => ?_)
    ·
      refine seg 1 (show (1 = 0 → Wp 37 30 [some (vR 1), some (vI i)] [] μ R) ∧ (¬ (1 = 0) → Wp 37 20 [some (vR 1), some (vI i)] [] μ R) from ⟨fun z => absurd z (by decide), fun _ => ?_⟩)
      refine seg 5 (show iR (i - 1) ∧ Wp 79 0 [some (vR 1), some (vI (i - 1)), none] [] μ (fun rr μ' => Wp 37 27 [some (vR 1), some (vI i)] (rr.toList ++ []) μ' R) from ⟨by omega, ?_⟩)
      refine s79 ht (fun b3 => ?_) (fun b3 => ?_)
      ·
        refine seg 1 (show (¬ (1 = 0) → Wp 37 34 [some (vR 1), some (vI i)] [] μ R) ∧ (1 = 0 → Wp 37 30 [some (vR 1), some (vI i)] [] μ R) from ⟨fun _ => ?_, fun z => absurd z (by decide)⟩)
        refine seg 2 (show (0 = 0 ∨ 0 = 1) ∧ R (some (vI 0)) μ from ⟨by decide, ?_⟩)
        first | exact hy (by assumption) | exact hn (by assumption) | exact absurd ⟨by assumption, by assumption⟩ hd
      ·
        refine seg 1 (show (¬ (0 = 0) → Wp 37 34 [some (vR 1), some (vI i)] [] μ R) ∧ (0 = 0 → Wp 37 30 [some (vR 1), some (vI i)] [] μ R) from ⟨fun z => absurd z (by decide), fun _ => ?_⟩)
        refine seg 3 (show (1 = 0 ∨ 1 = 1) ∧ R (some (vI 1)) μ from ⟨by decide, ?_⟩)
        first | exact hy (by assumption) | exact hn (by assumption) | exact absurd ⟨by assumption, by assumption⟩ hd
    ·
      refine seg 1 (show (0 = 0 → Wp 37 30 [some (vR 1), some (vI i)] [] μ R) ∧ (¬ (0 = 0) → Wp 37 20 [some (vR 1), some (vI i)] [] μ R) from ⟨fun _ => ?_, fun z => absurd z (by decide)⟩)
      refine seg 3 (show (1 = 0 ∨ 1 = 1) ∧ R (some (vI 1)) μ from ⟨by decide, ?_⟩)
      first | exact hy (by assumption) | exact hn (by assumption) | exact absurd ⟨by assumption, by assumption⟩ hd
  ·
    refine seg 2 (show (0 = 0 ∨ 0 = 1) ∧ R (some (vI 0)) μ from ⟨by decide, ?_⟩)
    first | exact hy (by assumption) | exact hn (by assumption) | exact absurd ⟨by assumption, by assumption⟩ hd
theorem s51 {μ : Mu} {R : Po} (hb : 0 ≤ μ 4 0 ∧ μ 4 0 ≤ 8) (hy : μ 4 0 < 8 → R (some (vI 1)) (u2 (u2 (u2 μ 6 (μ 4 0) 0) 5 (μ 4 0 * 2 + 0) (-9)) 5 (μ 4 0 * 2 + 1) (-9))) (hn : ¬ μ 4 0 < 8 → R (some (vI 0)) μ) : Wp 51 0 [some (vR 4)] [] μ R := by
  refine seg 4 (show (μ 4 0 < 8 → Wp 51 11 [some (vR 4)] [] μ R) ∧ (¬ (μ 4 0 < 8) → Wp 51 9 [some (vR 4)] [] μ R) from ⟨fun c1 => ?_, fun c1 => ?_⟩)
  ·
    refine seg 28 (show (0 ≤ (μ 4 0) ∧ (μ 4 0) < 8) ∧ iR ((μ 4 0) * 2) ∧ iR (((μ 4 0) * 2) + 0) ∧ (0 ≤ (((μ 4 0) * 2) + 0) ∧ (((μ 4 0) * 2) + 0) < 16) ∧ iR ((μ 4 0) * 2) ∧ iR (((μ 4 0) * 2) + 1) ∧ (0 ≤ (((μ 4 0) * 2) + 1) ∧ (((μ 4 0) * 2) + 1) < 16) ∧ (1 = 0 ∨ 1 = 1) ∧ R (some (vI 1)) (u2 (u2 (u2 μ 6 (μ 4 0) 0) 5 (((μ 4 0) * 2) + 0) (-9)) 5 (((μ 4 0) * 2) + 1) (-9)) from ⟨by omega, by omega, by omega, by omega, by omega, by omega, by omega, by decide, ?_⟩)
    first | exact hy (by omega) | exact hn (by omega)
  ·
    refine seg 2 (show (0 = 0 ∨ 0 = 1) ∧ R (some (vI 0)) μ from ⟨by decide, ?_⟩)
    first | exact hy (by omega) | exact hn (by omega)
theorem s52 {μ : Mu} {R : Po} {v : Int} (hb : 0 ≤ μ 4 0 ∧ μ 4 0 < 8) (h0 : ¬ (0 ≤ v ∧ v < μ 4 0) → R (some (vI 0)) μ) (h1 : (0 ≤ v ∧ v < μ 4 0) → μ 5 (μ 4 0 * 2 + 0) = -9 → R (some (vI 1)) (u2 μ 5 (μ 4 0 * 2 + 0) v)) (h2 : (0 ≤ v ∧ v < μ 4 0) → μ 5 (μ 4 0 * 2 + 0) ≠ -9 → (μ 5 (μ 4 0 * 2 + 1) = -9 ∧ μ 5 (μ 4 0 * 2 + 0) ≠ v) → R (some (vI 1)) (u2 μ 5 (μ 4 0 * 2 + 1) v)) (h3 : (0 ≤ v ∧ v < μ 4 0) → μ 5 (μ 4 0 * 2 + 0) ≠ -9 → ¬ (μ 5 (μ 4 0 * 2 + 1) = -9 ∧ μ 5 (μ 4 0 * 2 + 0) ≠ v) → R (some (vI 0)) μ) : Wp 52 0 [some (vR 4), some (vI v), none, none] [] μ R := by
  refine seg 4 (show (8 ≤ μ 4 0 → Wp 52 17 [some (vR 4), some (vI v), none, none] [] μ R) ∧ (¬ (8 ≤ μ 4 0) → Wp 52 9 [some (vR 4), some (vI v), none, none] [] μ R) from ⟨fun c1 => ?_, fun c1 => ?_⟩)
  ·
    refine seg 2 (show (0 = 0 ∨ 0 = 1) ∧ R (some (vI 0)) μ from ⟨by decide, ?_⟩)
    first | exact h0 (by omega) | exact h1 (by omega) (by omega) | exact h2 (by omega) (by omega) (by omega) | exact h3 (by omega) (by omega) (by omega) | (exfalso; omega)
  ·
    refine seg 3 (show Wp 44 0 [some (vR 4), some (vI v)] [] μ (fun rr μ' => Wp 52 14 [some (vR 4), some (vI v), none, none] (rr.toList ++ []) μ' R) from ?_)
    refine s44_4 (fun b2 => ?_) (fun b2 => ?_)
    ·
      refine seg 1 (show (¬ (1 = 0) → Wp 52 19 [some (vR 4), some (vI v), none, none] [] μ R) ∧ (1 = 0 → Wp 52 17 [some (vR 4), some (vI v), none, none] [] μ R) from ⟨fun _ => ?_, fun z => absurd z (by decide)⟩)
      refine seg 20 (show iR ((μ 4 0) * 2) ∧ iR (((μ 4 0) * 2) + 0) ∧ iR ((μ 4 0) * 2) ∧ iR (((μ 4 0) * 2) + 1) ∧ (0 ≤ (((μ 4 0) * 2) + 0) ∧ (((μ 4 0) * 2) + 0) < 16) ∧ (¬ (μ 5 (((μ 4 0) * 2) + 0) = -9) → Wp 52 57 [some (vR 4), some (vI v), some (vI (((μ 4 0) * 2) + 0)), some (vI (((μ 4 0) * 2) + 1))] [] μ R) ∧ (μ 5 (((μ 4 0) * 2) + 0) = -9 → Wp 52 48 [some (vR 4), some (vI v), some (vI (((μ 4 0) * 2) + 0)), some (vI (((μ 4 0) * 2) + 1))] [] μ R) from ⟨by omega, by omega, by omega, by omega, by omega, fun c3 => ?_, fun c3 => ?_⟩)
      ·
        refine seg 6 (show (0 ≤ (((μ 4 0) * 2) + 1) ∧ (((μ 4 0) * 2) + 1) < 16) ∧ (¬ (μ 5 (((μ 4 0) * 2) + 1) = -9) → Wp 52 78 [some (vR 4), some (vI v), some (vI (((μ 4 0) * 2) + 0)), some (vI (((μ 4 0) * 2) + 1))] [] μ R) ∧ (μ 5 (((μ 4 0) * 2) + 1) = -9 → Wp 52 68 [some (vR 4), some (vI v), some (vI (((μ 4 0) * 2) + 0)), some (vI (((μ 4 0) * 2) + 1))] [] μ R) from ⟨by omega, fun c4 => ?_, fun c4 => ?_⟩)
        ·
          refine seg 2 (show (0 = 0 ∨ 0 = 1) ∧ R (some (vI 0)) μ from ⟨by decide, ?_⟩)
          first | exact h0 (by omega) | exact h1 (by omega) (by omega) | exact h2 (by omega) (by omega) (by omega) | exact h3 (by omega) (by omega) (by omega) | (exfalso; omega)
        ·
          refine seg 6 (show (0 ≤ (((μ 4 0) * 2) + 0) ∧ (((μ 4 0) * 2) + 0) < 16) ∧ (¬ (μ 5 (((μ 4 0) * 2) + 0) = v) → Wp 52 80 [some (vR 4), some (vI v), some (vI (((μ 4 0) * 2) + 0)), some (vI (((μ 4 0) * 2) + 1))] [] μ R) ∧ (μ 5 (((μ 4 0) * 2) + 0) = v → Wp 52 78 [some (vR 4), some (vI v), some (vI (((μ 4 0) * 2) + 0)), some (vI (((μ 4 0) * 2) + 1))] [] μ R) from ⟨by omega, fun c5 => ?_, fun c5 => ?_⟩)
          ·
            refine seg 7 (show (0 ≤ (((μ 4 0) * 2) + 1) ∧ (((μ 4 0) * 2) + 1) < 16) ∧ (1 = 0 ∨ 1 = 1) ∧ R (some (vI 1)) (u2 μ 5 (((μ 4 0) * 2) + 1) v) from ⟨by omega, by decide, ?_⟩)
            first | exact h0 (by omega) | exact h1 (by omega) (by omega) | exact h2 (by omega) (by omega) (by omega) | exact h3 (by omega) (by omega) (by omega) | (exfalso; omega)
          ·
            refine seg 2 (show (0 = 0 ∨ 0 = 1) ∧ R (some (vI 0)) μ from ⟨by decide, ?_⟩)
            first | exact h0 (by omega) | exact h1 (by omega) (by omega) | exact h2 (by omega) (by omega) (by omega) | exact h3 (by omega) (by omega) (by omega) | (exfalso; omega)
      ·
        refine seg 7 (show (0 ≤ (((μ 4 0) * 2) + 0) ∧ (((μ 4 0) * 2) + 0) < 16) ∧ (1 = 0 ∨ 1 = 1) ∧ R (some (vI 1)) (u2 μ 5 (((μ 4 0) * 2) + 0) v) from ⟨by omega, by decide, ?_⟩)
        first | exact h0 (by omega) | exact h1 (by omega) (by omega) | exact h2 (by omega) (by omega) (by omega) | exact h3 (by omega) (by omega) (by omega) | (exfalso; omega)
    ·
      refine seg 1 (show (¬ (0 = 0) → Wp 52 19 [some (vR 4), some (vI v), none, none] [] μ R) ∧ (0 = 0 → Wp 52 17 [some (vR 4), some (vI v), none, none] [] μ R) from ⟨fun z => absurd z (by decide), fun _ => ?_⟩)
      refine seg 2 (show (0 = 0 ∨ 0 = 1) ∧ R (some (vI 0)) μ from ⟨by decide, ?_⟩)
      first | exact h0 (by omega) | exact h1 (by omega) (by omega) | exact h2 (by omega) (by omega) (by omega) | exact h3 (by omega) (by omega) (by omega) | (exfalso; omega)
theorem s53 {μ : Mu} {R : Po} {c : Int} (hb : 0 ≤ μ 4 0 ∧ μ 4 0 < 8) (hz : 0 ≤ μ 6 (μ 4 0)) (hy : μ 6 (μ 4 0) < 8 → R (some (vI 1)) (u2 (u2 μ 7 (μ 4 0 * 8 + μ 6 (μ 4 0)) c) 6 (μ 4 0) (μ 6 (μ 4 0) + 1))) (hn : ¬ μ 6 (μ 4 0) < 8 → R (some (vI 0)) μ) : Wp 53 0 [some (vR 4), some (vI c)] [] μ R := by
  refine seg 4 (show (8 ≤ μ 4 0 → Wp 53 23 [some (vR 4), some (vI c)] [] μ R) ∧ (¬ (8 ≤ μ 4 0) → Wp 53 9 [some (vR 4), some (vI c)] [] μ R) from ⟨fun c1 => ?_, fun c1 => ?_⟩)
  ·
    refine seg 2 (show (0 = 0 ∨ 0 = 1) ∧ R (some (vI 0)) μ from ⟨by decide, ?_⟩)
    first | exact hy (by omega) | exact hn (by omega) | (exfalso; omega)
  ·
    refine seg 7 (show (0 ≤ (μ 4 0) ∧ (μ 4 0) < 8) ∧ (μ 6 (μ 4 0) < 8 → Wp 53 25 [some (vR 4), some (vI c)] [] μ R) ∧ (¬ (μ 6 (μ 4 0) < 8) → Wp 53 23 [some (vR 4), some (vI c)] [] μ R) from ⟨by omega, fun c2 => ?_, fun c2 => ?_⟩)
    ·
      refine seg 10 (show (0 ≤ (μ 4 0) ∧ (μ 4 0) < 8) ∧ Wp 114 0 [some (vI (μ 4 0)), some (vI (μ 6 (μ 4 0)))] [] μ (fun rr μ' => Wp 53 45 [some (vR 4), some (vI c)] (rr.toList ++ [vR 7]) μ' R) from ⟨by omega, ?_⟩)
      refine s114 (by omega) ?_
      refine seg 13 (show (0 ≤ ((μ 4 0) * 8 + (μ 6 (μ 4 0))) ∧ ((μ 4 0) * 8 + (μ 6 (μ 4 0))) < 64) ∧ (0 ≤ (μ 4 0) ∧ (μ 4 0) < 8) ∧ iR ((μ 6 (μ 4 0)) + 1) ∧ (0 ≤ (μ 4 0) ∧ (μ 4 0) < 8) ∧ (1 = 0 ∨ 1 = 1) ∧ R (some (vI 1)) (u2 (u2 μ 7 ((μ 4 0) * 8 + (μ 6 (μ 4 0))) c) 6 (μ 4 0) ((μ 6 (μ 4 0)) + 1)) from ⟨by omega, by omega, by omega, by omega, by decide, ?_⟩)
      first | exact hy (by omega) | exact hn (by omega) | (exfalso; omega)
    ·
      refine seg 2 (show (0 = 0 ∨ 0 = 1) ∧ R (some (vI 0)) μ from ⟨by decide, ?_⟩)
      first | exact hy (by omega) | exact hn (by omega) | (exfalso; omega)
theorem s54 {μ : Mu} {R : Po} (hb : 0 ≤ μ 4 0 ∧ μ 4 0 < 8) (h : R none (u2 μ 4 0 (μ 4 0 + 1))) : Wp 54 0 [some (vR 4)] [] μ R := by
  refine seg 4 (show (8 ≤ μ 4 0 → Wp 54 19 [some (vR 4)] [] μ R) ∧ (¬ (8 ≤ μ 4 0) → Wp 54 9 [some (vR 4)] [] μ R) from ⟨fun c1 => ?_, fun c1 => ?_⟩)
  ·
    refine seg 1 (show R none μ from ?_)
    first | exact h | (exfalso; omega)
  ·
    refine seg 7 (show iR ((μ 4 0) + 1) ∧ R none (u2 μ 4 0 ((μ 4 0) + 1)) from ⟨by omega, ?_⟩)
    first | exact h | (exfalso; omega)
theorem s39 {q : Int} {D : Hi} {R : Po} {μ : Mu} (hd : DOK q D) (hc : DC q D μ) (hy : q = 0 ∧ hN D < 8 → ∀ μ2 : Mu, (∀ x, (x < 3 ∨ 8 ≤ x) → μ2 x = μ x) → DC 1 (bgD D) μ2 → R (some (vI 1)) μ2) (hn : ¬ (q = 0 ∧ hN D < 8) → R (some (vI 0)) μ) : Wp 39 0 [some (vR 3), some (vR 4)] [] μ R := by
  have e3 := hc.1
  have e4 := hc.2.1
  have k1 := hd.1
  have k2 := hd.2.1
  refine seg 3 (show (¬ (μ 3 0 = 0) → Wp 39 14 [some (vR 3), some (vR 4)] [] μ R) ∧ (μ 3 0 = 0 → Wp 39 7 [some (vR 3), some (vR 4)] [] μ R) from ⟨fun c1 => ?_, fun c1 => ?_⟩)
  ·
    refine seg 2 (show (0 = 0 ∨ 0 = 1) ∧ R (some (vI 0)) μ from ⟨by decide, ?_⟩)
    first | exact hn (by omega) | (obtain rfl : q = 0 := (by omega); exact hy (by omega) _ (fun x hx => by rw [u2_ne (by omega), u2_ne (by omega), u2_ne (by omega), u2_ne (by omega)]) hc.bg)
  ·
    refine seg 2 (show Wp 51 0 [some (vR 4)] [] μ (fun rr μ' => Wp 39 11 [some (vR 3), some (vR 4)] (rr.toList ++ []) μ' R) from ?_)
    refine s51 (by omega) (fun b2 => ?_) (fun b2 => ?_)
    ·
      rw [e4]
      refine seg 1 (show (¬ (1 = 0) → Wp 39 16 [some (vR 3), some (vR 4)] [] (u2 (u2 (u2 μ 6 (hN D) 0) 5 (hN D * 2 + 0) (-9)) 5 (hN D * 2 + 1) (-9)) R) ∧ (1 = 0 → Wp 39 14 [some (vR 3), some (vR 4)] [] (u2 (u2 (u2 μ 6 (hN D) 0) 5 (hN D * 2 + 0) (-9)) 5 (hN D * 2 + 1) (-9)) R) from ⟨fun _ => ?_, fun z => absurd z (by decide)⟩)
      refine seg 5 (show (1 = 0 ∨ 1 = 1) ∧ R (some (vI 1)) (u2 (u2 (u2 (u2 μ 6 (hN D) 0) 5 (hN D * 2 + 0) (-9)) 5 (hN D * 2 + 1) (-9)) 3 0 1) from ⟨by decide, ?_⟩)
      first | exact hn (by omega) | (obtain rfl : q = 0 := (by omega); exact hy (by omega) _ (fun x hx => by rw [u2_ne (by omega), u2_ne (by omega), u2_ne (by omega), u2_ne (by omega)]) hc.bg)
    ·
      refine seg 1 (show (¬ (0 = 0) → Wp 39 16 [some (vR 3), some (vR 4)] [] μ R) ∧ (0 = 0 → Wp 39 14 [some (vR 3), some (vR 4)] [] μ R) from ⟨fun z => absurd z (by decide), fun _ => ?_⟩)
      refine seg 2 (show (0 = 0 ∨ 0 = 1) ∧ R (some (vI 0)) μ from ⟨by decide, ?_⟩)
      first | exact hn (by omega) | (obtain rfl : q = 0 := (by omega); exact hy (by omega) _ (fun x hx => by rw [u2_ne (by omega), u2_ne (by omega), u2_ne (by omega), u2_ne (by omega)]) hc.bg)
theorem s40 {q : Int} {D : Hi} {R : Po} {μ : Mu} (hd : DOK q D) (hc : DC q D μ) (hy : q = 1 → ∀ μ2 : Mu, (∀ x, (x < 3 ∨ 8 ≤ x) → μ2 x = μ x) → DC 2 D μ2 → R (some (vI 1)) μ2) (hn : ¬ q = 1 → R (some (vI 0)) μ) : Wp 40 0 [some (vR 3)] [] μ R := by
  have e3 := hc.1
  have e4 := hc.2.1
  have k1 := hd.1
  have k2 := hd.2.1
  refine seg 4 (show (μ 3 0 = 1 → Wp 40 10 [some (vR 3)] [] μ R) ∧ (¬ (μ 3 0 = 1) → Wp 40 8 [some (vR 3)] [] μ R) from ⟨fun c1 => ?_, fun c1 => ?_⟩)
  ·
    refine seg 5 (show (1 = 0 ∨ 1 = 1) ∧ R (some (vI 1)) (u2 μ 3 0 2) from ⟨by decide, ?_⟩)
    first | exact hn (by omega) | (obtain rfl : q = 1 := (by omega); exact hy rfl _ (fun x hx => by rw [u2_ne (by omega)]) hc.co)
  ·
    refine seg 2 (show (0 = 0 ∨ 0 = 1) ∧ R (some (vI 0)) μ from ⟨by decide, ?_⟩)
    first | exact hn (by omega) | (obtain rfl : q = 1 := (by omega); exact hy rfl _ (fun x hx => by rw [u2_ne (by omega)]) hc.co)
theorem s41 {q : Int} {D : Hi} {R : Po} {μ : Mu} (hd : DOK q D) (hc : DC q D μ) (hy : q = 2 → ∀ μ2 : Mu, (∀ x, (x < 3 ∨ 8 ≤ x) → μ2 x = μ x) → DC 0 (enD D) μ2 → R (some (vI 1)) μ2) (hn : ¬ q = 2 → R (some (vI 0)) μ) : Wp 41 0 [some (vR 3), some (vR 4)] [] μ R := by
  have e3 := hc.1
  have e4 := hc.2.1
  have k1 := hd.1
  have k2 := hd.2.1
  refine seg 4 (show (μ 3 0 = 2 → Wp 41 10 [some (vR 3), some (vR 4)] [] μ R) ∧ (¬ (μ 3 0 = 2) → Wp 41 8 [some (vR 3), some (vR 4)] [] μ R) from ⟨fun c1 => ?_, fun c1 => ?_⟩)
  ·
    refine seg 2 (show Wp 54 0 [some (vR 4)] [] μ (fun rr μ' => Wp 41 14 [some (vR 3), some (vR 4)] (rr.toList ++ []) μ' R) from ?_)
    refine s54 (by omega) ?_
    rw [e4]
    refine seg 5 (show (1 = 0 ∨ 1 = 1) ∧ R (some (vI 1)) (u2 (u2 μ 4 0 (hN D + 1)) 3 0 0) from ⟨by decide, ?_⟩)
    first | exact hn (by omega) | (obtain rfl : q = 2 := (by omega); exact hy rfl _ (fun x hx => by rw [u2_ne (by omega), u2_ne (by omega)]) hc.en)
  ·
    refine seg 2 (show (0 = 0 ∨ 0 = 1) ∧ R (some (vI 0)) μ from ⟨by decide, ?_⟩)
    first | exact hn (by omega) | (obtain rfl : q = 2 := (by omega); exact hy rfl _ (fun x hx => by rw [u2_ne (by omega), u2_ne (by omega)]) hc.en)
theorem s38 {T : Tx} {i q : Int} {D : Hi} {R : Po} {μ : Mu} (ht : RT T μ) (hi : 0 ≤ i ∧ i < T.1) (hd : DOK q D) (hc : DC q D μ) (hy : ∀ q2 D2, stD T i q D = some (q2, D2) → ∀ μ2 : Mu, (∀ x, (x < 3 ∨ 8 ≤ x) → μ2 x = μ x) → DC q2 D2 μ2 → R (some (vI 1)) μ2) (hn : stD T i q D = none → R (some (vI 0)) μ) : Wp 38 0 [some (vR 3), some (vR 1), some (vI i), some (vR 4), none] [] μ R := by
  have e1 := ht.1
  have e2 := ht.2.1
  have e3 := hc.1
  have e4 := hc.2.1
  have k1 := hd.1
  have k2 := hd.2.1
  refine seg 3 (show Wp 78 0 [some (vR 1), some (vI i)] [] μ (fun rr μ' => Wp 38 5 [some (vR 3), some (vR 1), some (vI i), some (vR 4), none] (rr.toList ++ []) μ' R) from ?_)
  obtain ⟨y0, y1, y2⟩ := ht.2.2 i (by omega) (by omega)
  refine s78 (by omega) (fun _ => ?_) (fun z => absurd z (by omega))
  rw [y0]
  refine seg 4 (show (¬ (T.2 i = 82) → Wp 38 20 [some (vR 3), some (vR 1), some (vI i), some (vR 4), some (vI (T.2 i))] [] μ R) ∧ (T.2 i = 82 → Wp 38 14 [some (vR 3), some (vR 1), some (vI i), some (vR 4), some (vI (T.2 i))] [] μ R) from ⟨fun c1 => ?_, fun c1 => ?_⟩)
  ·
    refine seg 3 (show (¬ (T.2 i = 58) → Wp 38 32 [some (vR 3), some (vR 1), some (vI i), some (vR 4), some (vI (T.2 i))] [] μ R) ∧ (T.2 i = 58 → Wp 38 27 [some (vR 3), some (vR 1), some (vI i), some (vR 4), some (vI (T.2 i))] [] μ R) from ⟨fun c2 => ?_, fun c2 => ?_⟩)
    ·
      refine seg 3 (show (¬ (T.2 i = 59) → Wp 38 45 [some (vR 3), some (vR 1), some (vI i), some (vR 4), some (vI (T.2 i))] [] μ R) ∧ (T.2 i = 59 → Wp 38 39 [some (vR 3), some (vR 1), some (vI i), some (vR 4), some (vI (T.2 i))] [] μ R) from ⟨fun c3 => ?_, fun c3 => ?_⟩)
      ·
        refine seg 3 (show (T.2 i < 97 → Wp 38 82 [some (vR 3), some (vR 1), some (vI i), some (vR 4), some (vI (T.2 i))] [] μ R) ∧ (¬ (T.2 i < 97) → Wp 38 52 [some (vR 3), some (vR 1), some (vI i), some (vR 4), some (vI (T.2 i))] [] μ R) from ⟨fun c4 => ?_, fun c4 => ?_⟩)
        ·
          refine seg 4 (show (¬ (μ 3 0 = 1) → Wp 38 106 [some (vR 3), some (vR 1), some (vI i), some (vR 4), some (vI (T.2 i))] [] μ R) ∧ (μ 3 0 = 1 → Wp 38 90 [some (vR 3), some (vR 1), some (vI i), some (vR 4), some (vI (T.2 i))] [] μ R) from ⟨fun c5 => ?_, fun c5 => ?_⟩)
          ·
            refine seg 2 (show (0 = 0 ∨ 0 = 1) ∧ R (some (vI 0)) μ from ⟨by decide, ?_⟩)
            first
            | (exfalso; omega)
            | (refine hy 1 (bgD D) (by unfold stD; rw [if_pos (by omega), if_pos (by omega)]) μ2 f2 d2; done)
            | (refine hy 2 D (by unfold stD; rw [if_neg (by omega), if_pos (by omega), if_pos (by omega)]) μ2 f2 d2; done)
            | (refine hy 0 (enD D) (by unfold stD; rw [if_neg (by omega), if_neg (by omega), if_pos (by omega), if_pos (by omega)]) μ2 f2 d2; done)
            | (refine hy 2 (lnD D (T.2 i)) (by unfold stD; rw [if_neg (by omega), if_neg (by omega), if_neg (by omega), if_pos (by omega), if_pos (by omega)]) _ (fun x hx => by rw [u2_ne (by omega), u2_ne (by omega)]) (hc.ln hd.2.2 (by omega)); done)
            | (refine hy 1 (paD D 0 (T.2 i - 48)) (by unfold stD; rw [if_neg (by omega), if_neg (by omega), if_neg (by omega), if_neg (by omega), if_pos (by omega), if_pos (by omega)]) _ (fun x hx => by rw [u2_ne (by omega)]) (hc.pa (Or.inl rfl)); done)
            | (refine hy 1 (paD D 1 (T.2 i - 48)) (by unfold stD; rw [if_neg (by omega), if_neg (by omega), if_neg (by omega), if_neg (by omega), if_pos (by omega), if_neg (by omega), if_pos (by omega)]) _ (fun x hx => by rw [u2_ne (by omega)]) (hc.pa (Or.inr rfl)); done)
            | (refine hn ?_; unfold stD; rw [if_pos (by omega), if_neg (by omega)]; done)
            | (refine hn ?_; unfold stD; rw [if_neg (by omega), if_pos (by omega), if_neg (by omega)]; done)
            | (refine hn ?_; unfold stD; rw [if_neg (by omega), if_neg (by omega), if_pos (by omega), if_neg (by omega)]; done)
            | (refine hn ?_; unfold stD; rw [if_neg (by omega), if_neg (by omega), if_neg (by omega), if_pos (by omega), if_neg (by omega)]; done)
            | (refine hn ?_; unfold stD; rw [if_neg (by omega), if_neg (by omega), if_neg (by omega), if_neg (by omega), if_neg (by omega)]; done)
            | (refine hn ?_; unfold stD; rw [if_neg (by omega), if_neg (by omega), if_neg (by omega), if_neg (by omega), if_pos (by omega), if_neg (by omega), if_neg (by omega)])
          ·
            refine seg 4 (show Wp 80 0 [some (vR 1), some (vI i), none] [] μ (fun rr μ' => Wp 38 96 [some (vR 3), some (vR 1), some (vI i), some (vR 4), some (vI (T.2 i))] (rr.toList ++ [vR 4]) μ' R) from ?_)
            obtain rfl : q = 1 := (by omega)
            have hz := hc.2.2 (hN D) (by omega) (Or.inr ⟨by decide, rfl⟩)
            refine s80 ht hi (fun w1 => ?_) (fun w1 w2 => ?_) (fun w1 w2 v hv => ?_)
            ·
              refine seg 1 (show Wp 52 0 [some (vR 4), some (vI (-9)), none, none] [] μ (fun rr μ' => Wp 38 99 [some (vR 3), some (vR 1), some (vI i), some (vR 4), some (vI (T.2 i))] (rr.toList ++ []) μ' R) from ?_)
              refine s52 (by omega) (fun b6 => ?_) (fun b6 g1 => ?_) (fun b6 g1 g2 => ?_) (fun b6 g1 g2 => ?_)
              ·
                refine seg 1 (show (0 = 0 → Wp 38 106 [some (vR 3), some (vR 1), some (vI i), some (vR 4), some (vI (T.2 i))] [] μ R) ∧ (¬ (0 = 0) → Wp 38 102 [some (vR 3), some (vR 1), some (vI i), some (vR 4), some (vI (T.2 i))] [] μ R) from ⟨fun _ => ?_, fun z => absurd z (by decide)⟩)
                refine seg 2 (show (0 = 0 ∨ 0 = 1) ∧ R (some (vI 0)) μ from ⟨by decide, ?_⟩)
                first
                | (exfalso; omega)
                | (refine hy 1 (bgD D) (by unfold stD; rw [if_pos (by omega), if_pos (by omega)]) μ2 f2 d2; done)
                | (refine hy 2 D (by unfold stD; rw [if_neg (by omega), if_pos (by omega), if_pos (by omega)]) μ2 f2 d2; done)
                | (refine hy 0 (enD D) (by unfold stD; rw [if_neg (by omega), if_neg (by omega), if_pos (by omega), if_pos (by omega)]) μ2 f2 d2; done)
                | (refine hy 2 (lnD D (T.2 i)) (by unfold stD; rw [if_neg (by omega), if_neg (by omega), if_neg (by omega), if_pos (by omega), if_pos (by omega)]) _ (fun x hx => by rw [u2_ne (by omega), u2_ne (by omega)]) (hc.ln hd.2.2 (by omega)); done)
                | (refine hy 1 (paD D 0 (T.2 i - 48)) (by unfold stD; rw [if_neg (by omega), if_neg (by omega), if_neg (by omega), if_neg (by omega), if_pos (by omega), if_pos (by omega)]) _ (fun x hx => by rw [u2_ne (by omega)]) (hc.pa (Or.inl rfl)); done)
                | (refine hy 1 (paD D 1 (T.2 i - 48)) (by unfold stD; rw [if_neg (by omega), if_neg (by omega), if_neg (by omega), if_neg (by omega), if_pos (by omega), if_neg (by omega), if_pos (by omega)]) _ (fun x hx => by rw [u2_ne (by omega)]) (hc.pa (Or.inr rfl)); done)
                | (refine hn ?_; unfold stD; rw [if_pos (by omega), if_neg (by omega)]; done)
                | (refine hn ?_; unfold stD; rw [if_neg (by omega), if_pos (by omega), if_neg (by omega)]; done)
                | (refine hn ?_; unfold stD; rw [if_neg (by omega), if_neg (by omega), if_pos (by omega), if_neg (by omega)]; done)
                | (refine hn ?_; unfold stD; rw [if_neg (by omega), if_neg (by omega), if_neg (by omega), if_pos (by omega), if_neg (by omega)]; done)
                | (refine hn ?_; unfold stD; rw [if_neg (by omega), if_neg (by omega), if_neg (by omega), if_neg (by omega), if_neg (by omega)]; done)
                | (refine hn ?_; unfold stD; rw [if_neg (by omega), if_neg (by omega), if_neg (by omega), if_neg (by omega), if_pos (by omega), if_neg (by omega), if_neg (by omega)])
              ·
                rw [e4, hz.2.1] at g1
                rw [e4]
                refine seg 1 (show (1 = 0 → Wp 38 106 [some (vR 3), some (vR 1), some (vI i), some (vR 4), some (vI (T.2 i))] [] (u2 μ 5 (hN D * 2 + 0) (-9)) R) ∧ (¬ (1 = 0) → Wp 38 102 [some (vR 3), some (vR 1), some (vI i), some (vR 4), some (vI (T.2 i))] [] (u2 μ 5 (hN D * 2 + 0) (-9)) R) from ⟨fun z => absurd z (by decide), fun _ => ?_⟩)
                refine seg 3 (show (1 = 0 ∨ 1 = 1) ∧ R (some (vI 1)) (u2 μ 5 (hN D * 2 + 0) (-9)) from ⟨by decide, ?_⟩)
                first
                | (exfalso; omega)
                | (refine hy 1 (bgD D) (by unfold stD; rw [if_pos (by omega), if_pos (by omega)]) μ2 f2 d2; done)
                | (refine hy 2 D (by unfold stD; rw [if_neg (by omega), if_pos (by omega), if_pos (by omega)]) μ2 f2 d2; done)
                | (refine hy 0 (enD D) (by unfold stD; rw [if_neg (by omega), if_neg (by omega), if_pos (by omega), if_pos (by omega)]) μ2 f2 d2; done)
                | (refine hy 2 (lnD D (T.2 i)) (by unfold stD; rw [if_neg (by omega), if_neg (by omega), if_neg (by omega), if_pos (by omega), if_pos (by omega)]) _ (fun x hx => by rw [u2_ne (by omega), u2_ne (by omega)]) (hc.ln hd.2.2 (by omega)); done)
                | (refine hy 1 (paD D 0 (T.2 i - 48)) (by unfold stD; rw [if_neg (by omega), if_neg (by omega), if_neg (by omega), if_neg (by omega), if_pos (by omega), if_pos (by omega)]) _ (fun x hx => by rw [u2_ne (by omega)]) (hc.pa (Or.inl rfl)); done)
                | (refine hy 1 (paD D 1 (T.2 i - 48)) (by unfold stD; rw [if_neg (by omega), if_neg (by omega), if_neg (by omega), if_neg (by omega), if_pos (by omega), if_neg (by omega), if_pos (by omega)]) _ (fun x hx => by rw [u2_ne (by omega)]) (hc.pa (Or.inr rfl)); done)
                | (refine hn ?_; unfold stD; rw [if_pos (by omega), if_neg (by omega)]; done)
                | (refine hn ?_; unfold stD; rw [if_neg (by omega), if_pos (by omega), if_neg (by omega)]; done)
                | (refine hn ?_; unfold stD; rw [if_neg (by omega), if_neg (by omega), if_pos (by omega), if_neg (by omega)]; done)
                | (refine hn ?_; unfold stD; rw [if_neg (by omega), if_neg (by omega), if_neg (by omega), if_pos (by omega), if_neg (by omega)]; done)
                | (refine hn ?_; unfold stD; rw [if_neg (by omega), if_neg (by omega), if_neg (by omega), if_neg (by omega), if_neg (by omega)]; done)
                | (refine hn ?_; unfold stD; rw [if_neg (by omega), if_neg (by omega), if_neg (by omega), if_neg (by omega), if_pos (by omega), if_neg (by omega), if_neg (by omega)])
              ·
                rw [e4, hz.2.1] at g1
                rw [e4, hz.2.2.1, hz.2.1] at g2
                rw [e4]
                refine seg 1 (show (1 = 0 → Wp 38 106 [some (vR 3), some (vR 1), some (vI i), some (vR 4), some (vI (T.2 i))] [] (u2 μ 5 (hN D * 2 + 1) (-9)) R) ∧ (¬ (1 = 0) → Wp 38 102 [some (vR 3), some (vR 1), some (vI i), some (vR 4), some (vI (T.2 i))] [] (u2 μ 5 (hN D * 2 + 1) (-9)) R) from ⟨fun z => absurd z (by decide), fun _ => ?_⟩)
                refine seg 3 (show (1 = 0 ∨ 1 = 1) ∧ R (some (vI 1)) (u2 μ 5 (hN D * 2 + 1) (-9)) from ⟨by decide, ?_⟩)
                first
                | (exfalso; omega)
                | (refine hy 1 (bgD D) (by unfold stD; rw [if_pos (by omega), if_pos (by omega)]) μ2 f2 d2; done)
                | (refine hy 2 D (by unfold stD; rw [if_neg (by omega), if_pos (by omega), if_pos (by omega)]) μ2 f2 d2; done)
                | (refine hy 0 (enD D) (by unfold stD; rw [if_neg (by omega), if_neg (by omega), if_pos (by omega), if_pos (by omega)]) μ2 f2 d2; done)
                | (refine hy 2 (lnD D (T.2 i)) (by unfold stD; rw [if_neg (by omega), if_neg (by omega), if_neg (by omega), if_pos (by omega), if_pos (by omega)]) _ (fun x hx => by rw [u2_ne (by omega), u2_ne (by omega)]) (hc.ln hd.2.2 (by omega)); done)
                | (refine hy 1 (paD D 0 (T.2 i - 48)) (by unfold stD; rw [if_neg (by omega), if_neg (by omega), if_neg (by omega), if_neg (by omega), if_pos (by omega), if_pos (by omega)]) _ (fun x hx => by rw [u2_ne (by omega)]) (hc.pa (Or.inl rfl)); done)
                | (refine hy 1 (paD D 1 (T.2 i - 48)) (by unfold stD; rw [if_neg (by omega), if_neg (by omega), if_neg (by omega), if_neg (by omega), if_pos (by omega), if_neg (by omega), if_pos (by omega)]) _ (fun x hx => by rw [u2_ne (by omega)]) (hc.pa (Or.inr rfl)); done)
                | (refine hn ?_; unfold stD; rw [if_pos (by omega), if_neg (by omega)]; done)
                | (refine hn ?_; unfold stD; rw [if_neg (by omega), if_pos (by omega), if_neg (by omega)]; done)
                | (refine hn ?_; unfold stD; rw [if_neg (by omega), if_neg (by omega), if_pos (by omega), if_neg (by omega)]; done)
                | (refine hn ?_; unfold stD; rw [if_neg (by omega), if_neg (by omega), if_neg (by omega), if_pos (by omega), if_neg (by omega)]; done)
                | (refine hn ?_; unfold stD; rw [if_neg (by omega), if_neg (by omega), if_neg (by omega), if_neg (by omega), if_neg (by omega)]; done)
                | (refine hn ?_; unfold stD; rw [if_neg (by omega), if_neg (by omega), if_neg (by omega), if_neg (by omega), if_pos (by omega), if_neg (by omega), if_neg (by omega)])
              ·
                rw [e4, hz.2.1] at g1
                rw [e4, hz.2.2.1, hz.2.1] at g2
                refine seg 1 (show (0 = 0 → Wp 38 106 [some (vR 3), some (vR 1), some (vI i), some (vR 4), some (vI (T.2 i))] [] μ R) ∧ (¬ (0 = 0) → Wp 38 102 [some (vR 3), some (vR 1), some (vI i), some (vR 4), some (vI (T.2 i))] [] μ R) from ⟨fun _ => ?_, fun z => absurd z (by decide)⟩)
                refine seg 2 (show (0 = 0 ∨ 0 = 1) ∧ R (some (vI 0)) μ from ⟨by decide, ?_⟩)
                first
                | (exfalso; omega)
                | (refine hy 1 (bgD D) (by unfold stD; rw [if_pos (by omega), if_pos (by omega)]) μ2 f2 d2; done)
                | (refine hy 2 D (by unfold stD; rw [if_neg (by omega), if_pos (by omega), if_pos (by omega)]) μ2 f2 d2; done)
                | (refine hy 0 (enD D) (by unfold stD; rw [if_neg (by omega), if_neg (by omega), if_pos (by omega), if_pos (by omega)]) μ2 f2 d2; done)
                | (refine hy 2 (lnD D (T.2 i)) (by unfold stD; rw [if_neg (by omega), if_neg (by omega), if_neg (by omega), if_pos (by omega), if_pos (by omega)]) _ (fun x hx => by rw [u2_ne (by omega), u2_ne (by omega)]) (hc.ln hd.2.2 (by omega)); done)
                | (refine hy 1 (paD D 0 (T.2 i - 48)) (by unfold stD; rw [if_neg (by omega), if_neg (by omega), if_neg (by omega), if_neg (by omega), if_pos (by omega), if_pos (by omega)]) _ (fun x hx => by rw [u2_ne (by omega)]) (hc.pa (Or.inl rfl)); done)
                | (refine hy 1 (paD D 1 (T.2 i - 48)) (by unfold stD; rw [if_neg (by omega), if_neg (by omega), if_neg (by omega), if_neg (by omega), if_pos (by omega), if_neg (by omega), if_pos (by omega)]) _ (fun x hx => by rw [u2_ne (by omega)]) (hc.pa (Or.inr rfl)); done)
                | (refine hn ?_; unfold stD; rw [if_pos (by omega), if_neg (by omega)]; done)
                | (refine hn ?_; unfold stD; rw [if_neg (by omega), if_pos (by omega), if_neg (by omega)]; done)
                | (refine hn ?_; unfold stD; rw [if_neg (by omega), if_neg (by omega), if_pos (by omega), if_neg (by omega)]; done)
                | (refine hn ?_; unfold stD; rw [if_neg (by omega), if_neg (by omega), if_neg (by omega), if_pos (by omega), if_neg (by omega)]; done)
                | (refine hn ?_; unfold stD; rw [if_neg (by omega), if_neg (by omega), if_neg (by omega), if_neg (by omega), if_neg (by omega)]; done)
                | (refine hn ?_; unfold stD; rw [if_neg (by omega), if_neg (by omega), if_neg (by omega), if_neg (by omega), if_pos (by omega), if_neg (by omega), if_neg (by omega)])
            ·
              refine seg 1 (show Wp 52 0 [some (vR 4), some (vI (T.2 i - 48)), none, none] [] μ (fun rr μ' => Wp 38 99 [some (vR 3), some (vR 1), some (vI i), some (vR 4), some (vI (T.2 i))] (rr.toList ++ []) μ' R) from ?_)
              refine s52 (by omega) (fun b7 => ?_) (fun b7 g1 => ?_) (fun b7 g1 g2 => ?_) (fun b7 g1 g2 => ?_)
              ·
                refine seg 1 (show (0 = 0 → Wp 38 106 [some (vR 3), some (vR 1), some (vI i), some (vR 4), some (vI (T.2 i))] [] μ R) ∧ (¬ (0 = 0) → Wp 38 102 [some (vR 3), some (vR 1), some (vI i), some (vR 4), some (vI (T.2 i))] [] μ R) from ⟨fun _ => ?_, fun z => absurd z (by decide)⟩)
                refine seg 2 (show (0 = 0 ∨ 0 = 1) ∧ R (some (vI 0)) μ from ⟨by decide, ?_⟩)
                first
                | (exfalso; omega)
                | (refine hy 1 (bgD D) (by unfold stD; rw [if_pos (by omega), if_pos (by omega)]) μ2 f2 d2; done)
                | (refine hy 2 D (by unfold stD; rw [if_neg (by omega), if_pos (by omega), if_pos (by omega)]) μ2 f2 d2; done)
                | (refine hy 0 (enD D) (by unfold stD; rw [if_neg (by omega), if_neg (by omega), if_pos (by omega), if_pos (by omega)]) μ2 f2 d2; done)
                | (refine hy 2 (lnD D (T.2 i)) (by unfold stD; rw [if_neg (by omega), if_neg (by omega), if_neg (by omega), if_pos (by omega), if_pos (by omega)]) _ (fun x hx => by rw [u2_ne (by omega), u2_ne (by omega)]) (hc.ln hd.2.2 (by omega)); done)
                | (refine hy 1 (paD D 0 (T.2 i - 48)) (by unfold stD; rw [if_neg (by omega), if_neg (by omega), if_neg (by omega), if_neg (by omega), if_pos (by omega), if_pos (by omega)]) _ (fun x hx => by rw [u2_ne (by omega)]) (hc.pa (Or.inl rfl)); done)
                | (refine hy 1 (paD D 1 (T.2 i - 48)) (by unfold stD; rw [if_neg (by omega), if_neg (by omega), if_neg (by omega), if_neg (by omega), if_pos (by omega), if_neg (by omega), if_pos (by omega)]) _ (fun x hx => by rw [u2_ne (by omega)]) (hc.pa (Or.inr rfl)); done)
                | (refine hn ?_; unfold stD; rw [if_pos (by omega), if_neg (by omega)]; done)
                | (refine hn ?_; unfold stD; rw [if_neg (by omega), if_pos (by omega), if_neg (by omega)]; done)
                | (refine hn ?_; unfold stD; rw [if_neg (by omega), if_neg (by omega), if_pos (by omega), if_neg (by omega)]; done)
                | (refine hn ?_; unfold stD; rw [if_neg (by omega), if_neg (by omega), if_neg (by omega), if_pos (by omega), if_neg (by omega)]; done)
                | (refine hn ?_; unfold stD; rw [if_neg (by omega), if_neg (by omega), if_neg (by omega), if_neg (by omega), if_neg (by omega)]; done)
                | (refine hn ?_; unfold stD; rw [if_neg (by omega), if_neg (by omega), if_neg (by omega), if_neg (by omega), if_pos (by omega), if_neg (by omega), if_neg (by omega)])
              ·
                rw [e4, hz.2.1] at g1
                rw [e4]
                refine seg 1 (show (1 = 0 → Wp 38 106 [some (vR 3), some (vR 1), some (vI i), some (vR 4), some (vI (T.2 i))] [] (u2 μ 5 (hN D * 2 + 0) (T.2 i - 48)) R) ∧ (¬ (1 = 0) → Wp 38 102 [some (vR 3), some (vR 1), some (vI i), some (vR 4), some (vI (T.2 i))] [] (u2 μ 5 (hN D * 2 + 0) (T.2 i - 48)) R) from ⟨fun z => absurd z (by decide), fun _ => ?_⟩)
                refine seg 3 (show (1 = 0 ∨ 1 = 1) ∧ R (some (vI 1)) (u2 μ 5 (hN D * 2 + 0) (T.2 i - 48)) from ⟨by decide, ?_⟩)
                first
                | (exfalso; omega)
                | (refine hy 1 (bgD D) (by unfold stD; rw [if_pos (by omega), if_pos (by omega)]) μ2 f2 d2; done)
                | (refine hy 2 D (by unfold stD; rw [if_neg (by omega), if_pos (by omega), if_pos (by omega)]) μ2 f2 d2; done)
                | (refine hy 0 (enD D) (by unfold stD; rw [if_neg (by omega), if_neg (by omega), if_pos (by omega), if_pos (by omega)]) μ2 f2 d2; done)
                | (refine hy 2 (lnD D (T.2 i)) (by unfold stD; rw [if_neg (by omega), if_neg (by omega), if_neg (by omega), if_pos (by omega), if_pos (by omega)]) _ (fun x hx => by rw [u2_ne (by omega), u2_ne (by omega)]) (hc.ln hd.2.2 (by omega)); done)
                | (refine hy 1 (paD D 0 (T.2 i - 48)) (by unfold stD; rw [if_neg (by omega), if_neg (by omega), if_neg (by omega), if_neg (by omega), if_pos (by omega), if_pos (by omega)]) _ (fun x hx => by rw [u2_ne (by omega)]) (hc.pa (Or.inl rfl)); done)
                | (refine hy 1 (paD D 1 (T.2 i - 48)) (by unfold stD; rw [if_neg (by omega), if_neg (by omega), if_neg (by omega), if_neg (by omega), if_pos (by omega), if_neg (by omega), if_pos (by omega)]) _ (fun x hx => by rw [u2_ne (by omega)]) (hc.pa (Or.inr rfl)); done)
                | (refine hn ?_; unfold stD; rw [if_pos (by omega), if_neg (by omega)]; done)
                | (refine hn ?_; unfold stD; rw [if_neg (by omega), if_pos (by omega), if_neg (by omega)]; done)
                | (refine hn ?_; unfold stD; rw [if_neg (by omega), if_neg (by omega), if_pos (by omega), if_neg (by omega)]; done)
                | (refine hn ?_; unfold stD; rw [if_neg (by omega), if_neg (by omega), if_neg (by omega), if_pos (by omega), if_neg (by omega)]; done)
                | (refine hn ?_; unfold stD; rw [if_neg (by omega), if_neg (by omega), if_neg (by omega), if_neg (by omega), if_neg (by omega)]; done)
                | (refine hn ?_; unfold stD; rw [if_neg (by omega), if_neg (by omega), if_neg (by omega), if_neg (by omega), if_pos (by omega), if_neg (by omega), if_neg (by omega)])
              ·
                rw [e4, hz.2.1] at g1
                rw [e4, hz.2.2.1, hz.2.1] at g2
                rw [e4]
                refine seg 1 (show (1 = 0 → Wp 38 106 [some (vR 3), some (vR 1), some (vI i), some (vR 4), some (vI (T.2 i))] [] (u2 μ 5 (hN D * 2 + 1) (T.2 i - 48)) R) ∧ (¬ (1 = 0) → Wp 38 102 [some (vR 3), some (vR 1), some (vI i), some (vR 4), some (vI (T.2 i))] [] (u2 μ 5 (hN D * 2 + 1) (T.2 i - 48)) R) from ⟨fun z => absurd z (by decide), fun _ => ?_⟩)
                refine seg 3 (show (1 = 0 ∨ 1 = 1) ∧ R (some (vI 1)) (u2 μ 5 (hN D * 2 + 1) (T.2 i - 48)) from ⟨by decide, ?_⟩)
                first
                | (exfalso; omega)
                | (refine hy 1 (bgD D) (by unfold stD; rw [if_pos (by omega), if_pos (by omega)]) μ2 f2 d2; done)
                | (refine hy 2 D (by unfold stD; rw [if_neg (by omega), if_pos (by omega), if_pos (by omega)]) μ2 f2 d2; done)
                | (refine hy 0 (enD D) (by unfold stD; rw [if_neg (by omega), if_neg (by omega), if_pos (by omega), if_pos (by omega)]) μ2 f2 d2; done)
                | (refine hy 2 (lnD D (T.2 i)) (by unfold stD; rw [if_neg (by omega), if_neg (by omega), if_neg (by omega), if_pos (by omega), if_pos (by omega)]) _ (fun x hx => by rw [u2_ne (by omega), u2_ne (by omega)]) (hc.ln hd.2.2 (by omega)); done)
                | (refine hy 1 (paD D 0 (T.2 i - 48)) (by unfold stD; rw [if_neg (by omega), if_neg (by omega), if_neg (by omega), if_neg (by omega), if_pos (by omega), if_pos (by omega)]) _ (fun x hx => by rw [u2_ne (by omega)]) (hc.pa (Or.inl rfl)); done)
                | (refine hy 1 (paD D 1 (T.2 i - 48)) (by unfold stD; rw [if_neg (by omega), if_neg (by omega), if_neg (by omega), if_neg (by omega), if_pos (by omega), if_neg (by omega), if_pos (by omega)]) _ (fun x hx => by rw [u2_ne (by omega)]) (hc.pa (Or.inr rfl)); done)
                | (refine hn ?_; unfold stD; rw [if_pos (by omega), if_neg (by omega)]; done)
                | (refine hn ?_; unfold stD; rw [if_neg (by omega), if_pos (by omega), if_neg (by omega)]; done)
                | (refine hn ?_; unfold stD; rw [if_neg (by omega), if_neg (by omega), if_pos (by omega), if_neg (by omega)]; done)
                | (refine hn ?_; unfold stD; rw [if_neg (by omega), if_neg (by omega), if_neg (by omega), if_pos (by omega), if_neg (by omega)]; done)
                | (refine hn ?_; unfold stD; rw [if_neg (by omega), if_neg (by omega), if_neg (by omega), if_neg (by omega), if_neg (by omega)]; done)
                | (refine hn ?_; unfold stD; rw [if_neg (by omega), if_neg (by omega), if_neg (by omega), if_neg (by omega), if_pos (by omega), if_neg (by omega), if_neg (by omega)])
              ·
                rw [e4, hz.2.1] at g1
                rw [e4, hz.2.2.1, hz.2.1] at g2
                refine seg 1 (show (0 = 0 → Wp 38 106 [some (vR 3), some (vR 1), some (vI i), some (vR 4), some (vI (T.2 i))] [] μ R) ∧ (¬ (0 = 0) → Wp 38 102 [some (vR 3), some (vR 1), some (vI i), some (vR 4), some (vI (T.2 i))] [] μ R) from ⟨fun _ => ?_, fun z => absurd z (by decide)⟩)
                refine seg 2 (show (0 = 0 ∨ 0 = 1) ∧ R (some (vI 0)) μ from ⟨by decide, ?_⟩)
                first
                | (exfalso; omega)
                | (refine hy 1 (bgD D) (by unfold stD; rw [if_pos (by omega), if_pos (by omega)]) μ2 f2 d2; done)
                | (refine hy 2 D (by unfold stD; rw [if_neg (by omega), if_pos (by omega), if_pos (by omega)]) μ2 f2 d2; done)
                | (refine hy 0 (enD D) (by unfold stD; rw [if_neg (by omega), if_neg (by omega), if_pos (by omega), if_pos (by omega)]) μ2 f2 d2; done)
                | (refine hy 2 (lnD D (T.2 i)) (by unfold stD; rw [if_neg (by omega), if_neg (by omega), if_neg (by omega), if_pos (by omega), if_pos (by omega)]) _ (fun x hx => by rw [u2_ne (by omega), u2_ne (by omega)]) (hc.ln hd.2.2 (by omega)); done)
                | (refine hy 1 (paD D 0 (T.2 i - 48)) (by unfold stD; rw [if_neg (by omega), if_neg (by omega), if_neg (by omega), if_neg (by omega), if_pos (by omega), if_pos (by omega)]) _ (fun x hx => by rw [u2_ne (by omega)]) (hc.pa (Or.inl rfl)); done)
                | (refine hy 1 (paD D 1 (T.2 i - 48)) (by unfold stD; rw [if_neg (by omega), if_neg (by omega), if_neg (by omega), if_neg (by omega), if_pos (by omega), if_neg (by omega), if_pos (by omega)]) _ (fun x hx => by rw [u2_ne (by omega)]) (hc.pa (Or.inr rfl)); done)
                | (refine hn ?_; unfold stD; rw [if_pos (by omega), if_neg (by omega)]; done)
                | (refine hn ?_; unfold stD; rw [if_neg (by omega), if_pos (by omega), if_neg (by omega)]; done)
                | (refine hn ?_; unfold stD; rw [if_neg (by omega), if_neg (by omega), if_pos (by omega), if_neg (by omega)]; done)
                | (refine hn ?_; unfold stD; rw [if_neg (by omega), if_neg (by omega), if_neg (by omega), if_pos (by omega), if_neg (by omega)]; done)
                | (refine hn ?_; unfold stD; rw [if_neg (by omega), if_neg (by omega), if_neg (by omega), if_neg (by omega), if_neg (by omega)]; done)
                | (refine hn ?_; unfold stD; rw [if_neg (by omega), if_neg (by omega), if_neg (by omega), if_neg (by omega), if_pos (by omega), if_neg (by omega), if_neg (by omega)])
            ·
              refine seg 1 (show Wp 52 0 [some (vR 4), some (vI v), none, none] [] μ (fun rr μ' => Wp 38 99 [some (vR 3), some (vR 1), some (vI i), some (vR 4), some (vI (T.2 i))] (rr.toList ++ []) μ' R) from ?_)
              refine s52 (by omega) (fun b8 => ?_) (fun b8 g1 => ?_) (fun b8 g1 g2 => ?_) (fun b8 g1 g2 => ?_)
              ·
                refine seg 1 (show (0 = 0 → Wp 38 106 [some (vR 3), some (vR 1), some (vI i), some (vR 4), some (vI (T.2 i))] [] μ R) ∧ (¬ (0 = 0) → Wp 38 102 [some (vR 3), some (vR 1), some (vI i), some (vR 4), some (vI (T.2 i))] [] μ R) from ⟨fun _ => ?_, fun z => absurd z (by decide)⟩)
                refine seg 2 (show (0 = 0 ∨ 0 = 1) ∧ R (some (vI 0)) μ from ⟨by decide, ?_⟩)
                first
                | (exfalso; omega)
                | (refine hy 1 (bgD D) (by unfold stD; rw [if_pos (by omega), if_pos (by omega)]) μ2 f2 d2; done)
                | (refine hy 2 D (by unfold stD; rw [if_neg (by omega), if_pos (by omega), if_pos (by omega)]) μ2 f2 d2; done)
                | (refine hy 0 (enD D) (by unfold stD; rw [if_neg (by omega), if_neg (by omega), if_pos (by omega), if_pos (by omega)]) μ2 f2 d2; done)
                | (refine hy 2 (lnD D (T.2 i)) (by unfold stD; rw [if_neg (by omega), if_neg (by omega), if_neg (by omega), if_pos (by omega), if_pos (by omega)]) _ (fun x hx => by rw [u2_ne (by omega), u2_ne (by omega)]) (hc.ln hd.2.2 (by omega)); done)
                | (refine hy 1 (paD D 0 (T.2 i - 48)) (by unfold stD; rw [if_neg (by omega), if_neg (by omega), if_neg (by omega), if_neg (by omega), if_pos (by omega), if_pos (by omega)]) _ (fun x hx => by rw [u2_ne (by omega)]) (hc.pa (Or.inl rfl)); done)
                | (refine hy 1 (paD D 1 (T.2 i - 48)) (by unfold stD; rw [if_neg (by omega), if_neg (by omega), if_neg (by omega), if_neg (by omega), if_pos (by omega), if_neg (by omega), if_pos (by omega)]) _ (fun x hx => by rw [u2_ne (by omega)]) (hc.pa (Or.inr rfl)); done)
                | (refine hn ?_; unfold stD; rw [if_pos (by omega), if_neg (by omega)]; done)
                | (refine hn ?_; unfold stD; rw [if_neg (by omega), if_pos (by omega), if_neg (by omega)]; done)
                | (refine hn ?_; unfold stD; rw [if_neg (by omega), if_neg (by omega), if_pos (by omega), if_neg (by omega)]; done)
                | (refine hn ?_; unfold stD; rw [if_neg (by omega), if_neg (by omega), if_neg (by omega), if_pos (by omega), if_neg (by omega)]; done)
                | (refine hn ?_; unfold stD; rw [if_neg (by omega), if_neg (by omega), if_neg (by omega), if_neg (by omega), if_neg (by omega)]; done)
                | (refine hn ?_; unfold stD; rw [if_neg (by omega), if_neg (by omega), if_neg (by omega), if_neg (by omega), if_pos (by omega), if_neg (by omega), if_neg (by omega)])
              ·
                rw [e4, hz.2.1] at g1
                rw [e4]
                refine seg 1 (show (1 = 0 → Wp 38 106 [some (vR 3), some (vR 1), some (vI i), some (vR 4), some (vI (T.2 i))] [] (u2 μ 5 (hN D * 2 + 0) v) R) ∧ (¬ (1 = 0) → Wp 38 102 [some (vR 3), some (vR 1), some (vI i), some (vR 4), some (vI (T.2 i))] [] (u2 μ 5 (hN D * 2 + 0) v) R) from ⟨fun z => absurd z (by decide), fun _ => ?_⟩)
                refine seg 3 (show (1 = 0 ∨ 1 = 1) ∧ R (some (vI 1)) (u2 μ 5 (hN D * 2 + 0) v) from ⟨by decide, ?_⟩)
                first
                | (exfalso; omega)
                | (refine hy 1 (bgD D) (by unfold stD; rw [if_pos (by omega), if_pos (by omega)]) μ2 f2 d2; done)
                | (refine hy 2 D (by unfold stD; rw [if_neg (by omega), if_pos (by omega), if_pos (by omega)]) μ2 f2 d2; done)
                | (refine hy 0 (enD D) (by unfold stD; rw [if_neg (by omega), if_neg (by omega), if_pos (by omega), if_pos (by omega)]) μ2 f2 d2; done)
                | (refine hy 2 (lnD D (T.2 i)) (by unfold stD; rw [if_neg (by omega), if_neg (by omega), if_neg (by omega), if_pos (by omega), if_pos (by omega)]) _ (fun x hx => by rw [u2_ne (by omega), u2_ne (by omega)]) (hc.ln hd.2.2 (by omega)); done)
                | (refine hy 1 (paD D 0 (T.2 i - 48)) (by unfold stD; rw [if_neg (by omega), if_neg (by omega), if_neg (by omega), if_neg (by omega), if_pos (by omega), if_pos (by omega)]) _ (fun x hx => by rw [u2_ne (by omega)]) (hc.pa (Or.inl rfl)); done)
                | (refine hy 1 (paD D 1 (T.2 i - 48)) (by unfold stD; rw [if_neg (by omega), if_neg (by omega), if_neg (by omega), if_neg (by omega), if_pos (by omega), if_neg (by omega), if_pos (by omega)]) _ (fun x hx => by rw [u2_ne (by omega)]) (hc.pa (Or.inr rfl)); done)
                | (refine hn ?_; unfold stD; rw [if_pos (by omega), if_neg (by omega)]; done)
                | (refine hn ?_; unfold stD; rw [if_neg (by omega), if_pos (by omega), if_neg (by omega)]; done)
                | (refine hn ?_; unfold stD; rw [if_neg (by omega), if_neg (by omega), if_pos (by omega), if_neg (by omega)]; done)
                | (refine hn ?_; unfold stD; rw [if_neg (by omega), if_neg (by omega), if_neg (by omega), if_pos (by omega), if_neg (by omega)]; done)
                | (refine hn ?_; unfold stD; rw [if_neg (by omega), if_neg (by omega), if_neg (by omega), if_neg (by omega), if_neg (by omega)]; done)
                | (refine hn ?_; unfold stD; rw [if_neg (by omega), if_neg (by omega), if_neg (by omega), if_neg (by omega), if_pos (by omega), if_neg (by omega), if_neg (by omega)])
              ·
                rw [e4, hz.2.1] at g1
                rw [e4, hz.2.2.1, hz.2.1] at g2
                rw [e4]
                refine seg 1 (show (1 = 0 → Wp 38 106 [some (vR 3), some (vR 1), some (vI i), some (vR 4), some (vI (T.2 i))] [] (u2 μ 5 (hN D * 2 + 1) v) R) ∧ (¬ (1 = 0) → Wp 38 102 [some (vR 3), some (vR 1), some (vI i), some (vR 4), some (vI (T.2 i))] [] (u2 μ 5 (hN D * 2 + 1) v) R) from ⟨fun z => absurd z (by decide), fun _ => ?_⟩)
                refine seg 3 (show (1 = 0 ∨ 1 = 1) ∧ R (some (vI 1)) (u2 μ 5 (hN D * 2 + 1) v) from ⟨by decide, ?_⟩)
                first
                | (exfalso; omega)
                | (refine hy 1 (bgD D) (by unfold stD; rw [if_pos (by omega), if_pos (by omega)]) μ2 f2 d2; done)
                | (refine hy 2 D (by unfold stD; rw [if_neg (by omega), if_pos (by omega), if_pos (by omega)]) μ2 f2 d2; done)
                | (refine hy 0 (enD D) (by unfold stD; rw [if_neg (by omega), if_neg (by omega), if_pos (by omega), if_pos (by omega)]) μ2 f2 d2; done)
                | (refine hy 2 (lnD D (T.2 i)) (by unfold stD; rw [if_neg (by omega), if_neg (by omega), if_neg (by omega), if_pos (by omega), if_pos (by omega)]) _ (fun x hx => by rw [u2_ne (by omega), u2_ne (by omega)]) (hc.ln hd.2.2 (by omega)); done)
                | (refine hy 1 (paD D 0 (T.2 i - 48)) (by unfold stD; rw [if_neg (by omega), if_neg (by omega), if_neg (by omega), if_neg (by omega), if_pos (by omega), if_pos (by omega)]) _ (fun x hx => by rw [u2_ne (by omega)]) (hc.pa (Or.inl rfl)); done)
                | (refine hy 1 (paD D 1 (T.2 i - 48)) (by unfold stD; rw [if_neg (by omega), if_neg (by omega), if_neg (by omega), if_neg (by omega), if_pos (by omega), if_neg (by omega), if_pos (by omega)]) _ (fun x hx => by rw [u2_ne (by omega)]) (hc.pa (Or.inr rfl)); done)
                | (refine hn ?_; unfold stD; rw [if_pos (by omega), if_neg (by omega)]; done)
                | (refine hn ?_; unfold stD; rw [if_neg (by omega), if_pos (by omega), if_neg (by omega)]; done)
                | (refine hn ?_; unfold stD; rw [if_neg (by omega), if_neg (by omega), if_pos (by omega), if_neg (by omega)]; done)
                | (refine hn ?_; unfold stD; rw [if_neg (by omega), if_neg (by omega), if_neg (by omega), if_pos (by omega), if_neg (by omega)]; done)
                | (refine hn ?_; unfold stD; rw [if_neg (by omega), if_neg (by omega), if_neg (by omega), if_neg (by omega), if_neg (by omega)]; done)
                | (refine hn ?_; unfold stD; rw [if_neg (by omega), if_neg (by omega), if_neg (by omega), if_neg (by omega), if_pos (by omega), if_neg (by omega), if_neg (by omega)])
              ·
                rw [e4, hz.2.1] at g1
                rw [e4, hz.2.2.1, hz.2.1] at g2
                refine seg 1 (show (0 = 0 → Wp 38 106 [some (vR 3), some (vR 1), some (vI i), some (vR 4), some (vI (T.2 i))] [] μ R) ∧ (¬ (0 = 0) → Wp 38 102 [some (vR 3), some (vR 1), some (vI i), some (vR 4), some (vI (T.2 i))] [] μ R) from ⟨fun _ => ?_, fun z => absurd z (by decide)⟩)
                refine seg 2 (show (0 = 0 ∨ 0 = 1) ∧ R (some (vI 0)) μ from ⟨by decide, ?_⟩)
                first
                | (exfalso; omega)
                | (refine hy 1 (bgD D) (by unfold stD; rw [if_pos (by omega), if_pos (by omega)]) μ2 f2 d2; done)
                | (refine hy 2 D (by unfold stD; rw [if_neg (by omega), if_pos (by omega), if_pos (by omega)]) μ2 f2 d2; done)
                | (refine hy 0 (enD D) (by unfold stD; rw [if_neg (by omega), if_neg (by omega), if_pos (by omega), if_pos (by omega)]) μ2 f2 d2; done)
                | (refine hy 2 (lnD D (T.2 i)) (by unfold stD; rw [if_neg (by omega), if_neg (by omega), if_neg (by omega), if_pos (by omega), if_pos (by omega)]) _ (fun x hx => by rw [u2_ne (by omega), u2_ne (by omega)]) (hc.ln hd.2.2 (by omega)); done)
                | (refine hy 1 (paD D 0 (T.2 i - 48)) (by unfold stD; rw [if_neg (by omega), if_neg (by omega), if_neg (by omega), if_neg (by omega), if_pos (by omega), if_pos (by omega)]) _ (fun x hx => by rw [u2_ne (by omega)]) (hc.pa (Or.inl rfl)); done)
                | (refine hy 1 (paD D 1 (T.2 i - 48)) (by unfold stD; rw [if_neg (by omega), if_neg (by omega), if_neg (by omega), if_neg (by omega), if_pos (by omega), if_neg (by omega), if_pos (by omega)]) _ (fun x hx => by rw [u2_ne (by omega)]) (hc.pa (Or.inr rfl)); done)
                | (refine hn ?_; unfold stD; rw [if_pos (by omega), if_neg (by omega)]; done)
                | (refine hn ?_; unfold stD; rw [if_neg (by omega), if_pos (by omega), if_neg (by omega)]; done)
                | (refine hn ?_; unfold stD; rw [if_neg (by omega), if_neg (by omega), if_pos (by omega), if_neg (by omega)]; done)
                | (refine hn ?_; unfold stD; rw [if_neg (by omega), if_neg (by omega), if_neg (by omega), if_pos (by omega), if_neg (by omega)]; done)
                | (refine hn ?_; unfold stD; rw [if_neg (by omega), if_neg (by omega), if_neg (by omega), if_neg (by omega), if_neg (by omega)]; done)
                | (refine hn ?_; unfold stD; rw [if_neg (by omega), if_neg (by omega), if_neg (by omega), if_neg (by omega), if_pos (by omega), if_neg (by omega), if_neg (by omega)])
        ·
          refine seg 3 (show (122 < T.2 i → Wp 38 82 [some (vR 3), some (vR 1), some (vI i), some (vR 4), some (vI (T.2 i))] [] μ R) ∧ (¬ (122 < T.2 i) → Wp 38 59 [some (vR 3), some (vR 1), some (vI i), some (vR 4), some (vI (T.2 i))] [] μ R) from ⟨fun c9 => ?_, fun c9 => ?_⟩)
          ·
            refine seg 4 (show (¬ (μ 3 0 = 1) → Wp 38 106 [some (vR 3), some (vR 1), some (vI i), some (vR 4), some (vI (T.2 i))] [] μ R) ∧ (μ 3 0 = 1 → Wp 38 90 [some (vR 3), some (vR 1), some (vI i), some (vR 4), some (vI (T.2 i))] [] μ R) from ⟨fun c10 => ?_, fun c10 => ?_⟩)
            ·
              refine seg 2 (show (0 = 0 ∨ 0 = 1) ∧ R (some (vI 0)) μ from ⟨by decide, ?_⟩)
              first
              | (exfalso; omega)
              | (refine hy 1 (bgD D) (by unfold stD; rw [if_pos (by omega), if_pos (by omega)]) μ2 f2 d2; done)
              | (refine hy 2 D (by unfold stD; rw [if_neg (by omega), if_pos (by omega), if_pos (by omega)]) μ2 f2 d2; done)
              | (refine hy 0 (enD D) (by unfold stD; rw [if_neg (by omega), if_neg (by omega), if_pos (by omega), if_pos (by omega)]) μ2 f2 d2; done)
              | (refine hy 2 (lnD D (T.2 i)) (by unfold stD; rw [if_neg (by omega), if_neg (by omega), if_neg (by omega), if_pos (by omega), if_pos (by omega)]) _ (fun x hx => by rw [u2_ne (by omega), u2_ne (by omega)]) (hc.ln hd.2.2 (by omega)); done)
              | (refine hy 1 (paD D 0 (T.2 i - 48)) (by unfold stD; rw [if_neg (by omega), if_neg (by omega), if_neg (by omega), if_neg (by omega), if_pos (by omega), if_pos (by omega)]) _ (fun x hx => by rw [u2_ne (by omega)]) (hc.pa (Or.inl rfl)); done)
              | (refine hy 1 (paD D 1 (T.2 i - 48)) (by unfold stD; rw [if_neg (by omega), if_neg (by omega), if_neg (by omega), if_neg (by omega), if_pos (by omega), if_neg (by omega), if_pos (by omega)]) _ (fun x hx => by rw [u2_ne (by omega)]) (hc.pa (Or.inr rfl)); done)
              | (refine hn ?_; unfold stD; rw [if_pos (by omega), if_neg (by omega)]; done)
              | (refine hn ?_; unfold stD; rw [if_neg (by omega), if_pos (by omega), if_neg (by omega)]; done)
              | (refine hn ?_; unfold stD; rw [if_neg (by omega), if_neg (by omega), if_pos (by omega), if_neg (by omega)]; done)
              | (refine hn ?_; unfold stD; rw [if_neg (by omega), if_neg (by omega), if_neg (by omega), if_pos (by omega), if_neg (by omega)]; done)
              | (refine hn ?_; unfold stD; rw [if_neg (by omega), if_neg (by omega), if_neg (by omega), if_neg (by omega), if_neg (by omega)]; done)
              | (refine hn ?_; unfold stD; rw [if_neg (by omega), if_neg (by omega), if_neg (by omega), if_neg (by omega), if_pos (by omega), if_neg (by omega), if_neg (by omega)])
            ·
              refine seg 4 (show Wp 80 0 [some (vR 1), some (vI i), none] [] μ (fun rr μ' => Wp 38 96 [some (vR 3), some (vR 1), some (vI i), some (vR 4), some (vI (T.2 i))] (rr.toList ++ [vR 4]) μ' R) from ?_)
              obtain rfl : q = 1 := (by omega)
              have hz := hc.2.2 (hN D) (by omega) (Or.inr ⟨by decide, rfl⟩)
              refine s80 ht hi (fun w1 => ?_) (fun w1 w2 => ?_) (fun w1 w2 v hv => ?_)
              ·
                refine seg 1 (show Wp 52 0 [some (vR 4), some (vI (-9)), none, none] [] μ (fun rr μ' => Wp 38 99 [some (vR 3), some (vR 1), some (vI i), some (vR 4), some (vI (T.2 i))] (rr.toList ++ []) μ' R) from ?_)
                refine s52 (by omega) (fun b11 => ?_) (fun b11 g1 => ?_) (fun b11 g1 g2 => ?_) (fun b11 g1 g2 => ?_)
                ·
                  refine seg 1 (show (0 = 0 → Wp 38 106 [some (vR 3), some (vR 1), some (vI i), some (vR 4), some (vI (T.2 i))] [] μ R) ∧ (¬ (0 = 0) → Wp 38 102 [some (vR 3), some (vR 1), some (vI i), some (vR 4), some (vI (T.2 i))] [] μ R) from ⟨fun _ => ?_, fun z => absurd z (by decide)⟩)
                  refine seg 2 (show (0 = 0 ∨ 0 = 1) ∧ R (some (vI 0)) μ from ⟨by decide, ?_⟩)
                  first
                  | (exfalso; omega)
                  | (refine hy 1 (bgD D) (by unfold stD; rw [if_pos (by omega), if_pos (by omega)]) μ2 f2 d2; done)
                  | (refine hy 2 D (by unfold stD; rw [if_neg (by omega), if_pos (by omega), if_pos (by omega)]) μ2 f2 d2; done)
                  | (refine hy 0 (enD D) (by unfold stD; rw [if_neg (by omega), if_neg (by omega), if_pos (by omega), if_pos (by omega)]) μ2 f2 d2; done)
                  | (refine hy 2 (lnD D (T.2 i)) (by unfold stD; rw [if_neg (by omega), if_neg (by omega), if_neg (by omega), if_pos (by omega), if_pos (by omega)]) _ (fun x hx => by rw [u2_ne (by omega), u2_ne (by omega)]) (hc.ln hd.2.2 (by omega)); done)
                  | (refine hy 1 (paD D 0 (T.2 i - 48)) (by unfold stD; rw [if_neg (by omega), if_neg (by omega), if_neg (by omega), if_neg (by omega), if_pos (by omega), if_pos (by omega)]) _ (fun x hx => by rw [u2_ne (by omega)]) (hc.pa (Or.inl rfl)); done)
                  | (refine hy 1 (paD D 1 (T.2 i - 48)) (by unfold stD; rw [if_neg (by omega), if_neg (by omega), if_neg (by omega), if_neg (by omega), if_pos (by omega), if_neg (by omega), if_pos (by omega)]) _ (fun x hx => by rw [u2_ne (by omega)]) (hc.pa (Or.inr rfl)); done)
                  | (refine hn ?_; unfold stD; rw [if_pos (by omega), if_neg (by omega)]; done)
                  | (refine hn ?_; unfold stD; rw [if_neg (by omega), if_pos (by omega), if_neg (by omega)]; done)
                  | (refine hn ?_; unfold stD; rw [if_neg (by omega), if_neg (by omega), if_pos (by omega), if_neg (by omega)]; done)
                  | (refine hn ?_; unfold stD; rw [if_neg (by omega), if_neg (by omega), if_neg (by omega), if_pos (by omega), if_neg (by omega)]; done)
                  | (refine hn ?_; unfold stD; rw [if_neg (by omega), if_neg (by omega), if_neg (by omega), if_neg (by omega), if_neg (by omega)]; done)
                  | (refine hn ?_; unfold stD; rw [if_neg (by omega), if_neg (by omega), if_neg (by omega), if_neg (by omega), if_pos (by omega), if_neg (by omega), if_neg (by omega)])
                ·
                  rw [e4, hz.2.1] at g1
                  rw [e4]
                  refine seg 1 (show (1 = 0 → Wp 38 106 [some (vR 3), some (vR 1), some (vI i), some (vR 4), some (vI (T.2 i))] [] (u2 μ 5 (hN D * 2 + 0) (-9)) R) ∧ (¬ (1 = 0) → Wp 38 102 [some (vR 3), some (vR 1), some (vI i), some (vR 4), some (vI (T.2 i))] [] (u2 μ 5 (hN D * 2 + 0) (-9)) R) from ⟨fun z => absurd z (by decide), fun _ => ?_⟩)
                  refine seg 3 (show (1 = 0 ∨ 1 = 1) ∧ R (some (vI 1)) (u2 μ 5 (hN D * 2 + 0) (-9)) from ⟨by decide, ?_⟩)
                  first
                  | (exfalso; omega)
                  | (refine hy 1 (bgD D) (by unfold stD; rw [if_pos (by omega), if_pos (by omega)]) μ2 f2 d2; done)
                  | (refine hy 2 D (by unfold stD; rw [if_neg (by omega), if_pos (by omega), if_pos (by omega)]) μ2 f2 d2; done)
                  | (refine hy 0 (enD D) (by unfold stD; rw [if_neg (by omega), if_neg (by omega), if_pos (by omega), if_pos (by omega)]) μ2 f2 d2; done)
                  | (refine hy 2 (lnD D (T.2 i)) (by unfold stD; rw [if_neg (by omega), if_neg (by omega), if_neg (by omega), if_pos (by omega), if_pos (by omega)]) _ (fun x hx => by rw [u2_ne (by omega), u2_ne (by omega)]) (hc.ln hd.2.2 (by omega)); done)
                  | (refine hy 1 (paD D 0 (T.2 i - 48)) (by unfold stD; rw [if_neg (by omega), if_neg (by omega), if_neg (by omega), if_neg (by omega), if_pos (by omega), if_pos (by omega)]) _ (fun x hx => by rw [u2_ne (by omega)]) (hc.pa (Or.inl rfl)); done)
                  | (refine hy 1 (paD D 1 (T.2 i - 48)) (by unfold stD; rw [if_neg (by omega), if_neg (by omega), if_neg (by omega), if_neg (by omega), if_pos (by omega), if_neg (by omega), if_pos (by omega)]) _ (fun x hx => by rw [u2_ne (by omega)]) (hc.pa (Or.inr rfl)); done)
                  | (refine hn ?_; unfold stD; rw [if_pos (by omega), if_neg (by omega)]; done)
                  | (refine hn ?_; unfold stD; rw [if_neg (by omega), if_pos (by omega), if_neg (by omega)]; done)
                  | (refine hn ?_; unfold stD; rw [if_neg (by omega), if_neg (by omega), if_pos (by omega), if_neg (by omega)]; done)
                  | (refine hn ?_; unfold stD; rw [if_neg (by omega), if_neg (by omega), if_neg (by omega), if_pos (by omega), if_neg (by omega)]; done)
                  | (refine hn ?_; unfold stD; rw [if_neg (by omega), if_neg (by omega), if_neg (by omega), if_neg (by omega), if_neg (by omega)]; done)
                  | (refine hn ?_; unfold stD; rw [if_neg (by omega), if_neg (by omega), if_neg (by omega), if_neg (by omega), if_pos (by omega), if_neg (by omega), if_neg (by omega)])
                ·
                  rw [e4, hz.2.1] at g1
                  rw [e4, hz.2.2.1, hz.2.1] at g2
                  rw [e4]
                  refine seg 1 (show (1 = 0 → Wp 38 106 [some (vR 3), some (vR 1), some (vI i), some (vR 4), some (vI (T.2 i))] [] (u2 μ 5 (hN D * 2 + 1) (-9)) R) ∧ (¬ (1 = 0) → Wp 38 102 [some (vR 3), some (vR 1), some (vI i), some (vR 4), some (vI (T.2 i))] [] (u2 μ 5 (hN D * 2 + 1) (-9)) R) from ⟨fun z => absurd z (by decide), fun _ => ?_⟩)
                  refine seg 3 (show (1 = 0 ∨ 1 = 1) ∧ R (some (vI 1)) (u2 μ 5 (hN D * 2 + 1) (-9)) from ⟨by decide, ?_⟩)
                  first
                  | (exfalso; omega)
                  | (refine hy 1 (bgD D) (by unfold stD; rw [if_pos (by omega), if_pos (by omega)]) μ2 f2 d2; done)
                  | (refine hy 2 D (by unfold stD; rw [if_neg (by omega), if_pos (by omega), if_pos (by omega)]) μ2 f2 d2; done)
                  | (refine hy 0 (enD D) (by unfold stD; rw [if_neg (by omega), if_neg (by omega), if_pos (by omega), if_pos (by omega)]) μ2 f2 d2; done)
                  | (refine hy 2 (lnD D (T.2 i)) (by unfold stD; rw [if_neg (by omega), if_neg (by omega), if_neg (by omega), if_pos (by omega), if_pos (by omega)]) _ (fun x hx => by rw [u2_ne (by omega), u2_ne (by omega)]) (hc.ln hd.2.2 (by omega)); done)
                  | (refine hy 1 (paD D 0 (T.2 i - 48)) (by unfold stD; rw [if_neg (by omega), if_neg (by omega), if_neg (by omega), if_neg (by omega), if_pos (by omega), if_pos (by omega)]) _ (fun x hx => by rw [u2_ne (by omega)]) (hc.pa (Or.inl rfl)); done)
                  | (refine hy 1 (paD D 1 (T.2 i - 48)) (by unfold stD; rw [if_neg (by omega), if_neg (by omega), if_neg (by omega), if_neg (by omega), if_pos (by omega), if_neg (by omega), if_pos (by omega)]) _ (fun x hx => by rw [u2_ne (by omega)]) (hc.pa (Or.inr rfl)); done)
                  | (refine hn ?_; unfold stD; rw [if_pos (by omega), if_neg (by omega)]; done)
                  | (refine hn ?_; unfold stD; rw [if_neg (by omega), if_pos (by omega), if_neg (by omega)]; done)
                  | (refine hn ?_; unfold stD; rw [if_neg (by omega), if_neg (by omega), if_pos (by omega), if_neg (by omega)]; done)
                  | (refine hn ?_; unfold stD; rw [if_neg (by omega), if_neg (by omega), if_neg (by omega), if_pos (by omega), if_neg (by omega)]; done)
                  | (refine hn ?_; unfold stD; rw [if_neg (by omega), if_neg (by omega), if_neg (by omega), if_neg (by omega), if_neg (by omega)]; done)
                  | (refine hn ?_; unfold stD; rw [if_neg (by omega), if_neg (by omega), if_neg (by omega), if_neg (by omega), if_pos (by omega), if_neg (by omega), if_neg (by omega)])
                ·
                  rw [e4, hz.2.1] at g1
                  rw [e4, hz.2.2.1, hz.2.1] at g2
                  refine seg 1 (show (0 = 0 → Wp 38 106 [some (vR 3), some (vR 1), some (vI i), some (vR 4), some (vI (T.2 i))] [] μ R) ∧ (¬ (0 = 0) → Wp 38 102 [some (vR 3), some (vR 1), some (vI i), some (vR 4), some (vI (T.2 i))] [] μ R) from ⟨fun _ => ?_, fun z => absurd z (by decide)⟩)
                  refine seg 2 (show (0 = 0 ∨ 0 = 1) ∧ R (some (vI 0)) μ from ⟨by decide, ?_⟩)
                  first
                  | (exfalso; omega)
                  | (refine hy 1 (bgD D) (by unfold stD; rw [if_pos (by omega), if_pos (by omega)]) μ2 f2 d2; done)
                  | (refine hy 2 D (by unfold stD; rw [if_neg (by omega), if_pos (by omega), if_pos (by omega)]) μ2 f2 d2; done)
                  | (refine hy 0 (enD D) (by unfold stD; rw [if_neg (by omega), if_neg (by omega), if_pos (by omega), if_pos (by omega)]) μ2 f2 d2; done)
                  | (refine hy 2 (lnD D (T.2 i)) (by unfold stD; rw [if_neg (by omega), if_neg (by omega), if_neg (by omega), if_pos (by omega), if_pos (by omega)]) _ (fun x hx => by rw [u2_ne (by omega), u2_ne (by omega)]) (hc.ln hd.2.2 (by omega)); done)
                  | (refine hy 1 (paD D 0 (T.2 i - 48)) (by unfold stD; rw [if_neg (by omega), if_neg (by omega), if_neg (by omega), if_neg (by omega), if_pos (by omega), if_pos (by omega)]) _ (fun x hx => by rw [u2_ne (by omega)]) (hc.pa (Or.inl rfl)); done)
                  | (refine hy 1 (paD D 1 (T.2 i - 48)) (by unfold stD; rw [if_neg (by omega), if_neg (by omega), if_neg (by omega), if_neg (by omega), if_pos (by omega), if_neg (by omega), if_pos (by omega)]) _ (fun x hx => by rw [u2_ne (by omega)]) (hc.pa (Or.inr rfl)); done)
                  | (refine hn ?_; unfold stD; rw [if_pos (by omega), if_neg (by omega)]; done)
                  | (refine hn ?_; unfold stD; rw [if_neg (by omega), if_pos (by omega), if_neg (by omega)]; done)
                  | (refine hn ?_; unfold stD; rw [if_neg (by omega), if_neg (by omega), if_pos (by omega), if_neg (by omega)]; done)
                  | (refine hn ?_; unfold stD; rw [if_neg (by omega), if_neg (by omega), if_neg (by omega), if_pos (by omega), if_neg (by omega)]; done)
                  | (refine hn ?_; unfold stD; rw [if_neg (by omega), if_neg (by omega), if_neg (by omega), if_neg (by omega), if_neg (by omega)]; done)
                  | (refine hn ?_; unfold stD; rw [if_neg (by omega), if_neg (by omega), if_neg (by omega), if_neg (by omega), if_pos (by omega), if_neg (by omega), if_neg (by omega)])
              ·
                refine seg 1 (show Wp 52 0 [some (vR 4), some (vI (T.2 i - 48)), none, none] [] μ (fun rr μ' => Wp 38 99 [some (vR 3), some (vR 1), some (vI i), some (vR 4), some (vI (T.2 i))] (rr.toList ++ []) μ' R) from ?_)
                refine s52 (by omega) (fun b12 => ?_) (fun b12 g1 => ?_) (fun b12 g1 g2 => ?_) (fun b12 g1 g2 => ?_)
                ·
                  refine seg 1 (show (0 = 0 → Wp 38 106 [some (vR 3), some (vR 1), some (vI i), some (vR 4), some (vI (T.2 i))] [] μ R) ∧ (¬ (0 = 0) → Wp 38 102 [some (vR 3), some (vR 1), some (vI i), some (vR 4), some (vI (T.2 i))] [] μ R) from ⟨fun _ => ?_, fun z => absurd z (by decide)⟩)
                  refine seg 2 (show (0 = 0 ∨ 0 = 1) ∧ R (some (vI 0)) μ from ⟨by decide, ?_⟩)
                  first
                  | (exfalso; omega)
                  | (refine hy 1 (bgD D) (by unfold stD; rw [if_pos (by omega), if_pos (by omega)]) μ2 f2 d2; done)
                  | (refine hy 2 D (by unfold stD; rw [if_neg (by omega), if_pos (by omega), if_pos (by omega)]) μ2 f2 d2; done)
                  | (refine hy 0 (enD D) (by unfold stD; rw [if_neg (by omega), if_neg (by omega), if_pos (by omega), if_pos (by omega)]) μ2 f2 d2; done)
                  | (refine hy 2 (lnD D (T.2 i)) (by unfold stD; rw [if_neg (by omega), if_neg (by omega), if_neg (by omega), if_pos (by omega), if_pos (by omega)]) _ (fun x hx => by rw [u2_ne (by omega), u2_ne (by omega)]) (hc.ln hd.2.2 (by omega)); done)
                  | (refine hy 1 (paD D 0 (T.2 i - 48)) (by unfold stD; rw [if_neg (by omega), if_neg (by omega), if_neg (by omega), if_neg (by omega), if_pos (by omega), if_pos (by omega)]) _ (fun x hx => by rw [u2_ne (by omega)]) (hc.pa (Or.inl rfl)); done)
                  | (refine hy 1 (paD D 1 (T.2 i - 48)) (by unfold stD; rw [if_neg (by omega), if_neg (by omega), if_neg (by omega), if_neg (by omega), if_pos (by omega), if_neg (by omega), if_pos (by omega)]) _ (fun x hx => by rw [u2_ne (by omega)]) (hc.pa (Or.inr rfl)); done)
                  | (refine hn ?_; unfold stD; rw [if_pos (by omega), if_neg (by omega)]; done)
                  | (refine hn ?_; unfold stD; rw [if_neg (by omega), if_pos (by omega), if_neg (by omega)]; done)
                  | (refine hn ?_; unfold stD; rw [if_neg (by omega), if_neg (by omega), if_pos (by omega), if_neg (by omega)]; done)
                  | (refine hn ?_; unfold stD; rw [if_neg (by omega), if_neg (by omega), if_neg (by omega), if_pos (by omega), if_neg (by omega)]; done)
                  | (refine hn ?_; unfold stD; rw [if_neg (by omega), if_neg (by omega), if_neg (by omega), if_neg (by omega), if_neg (by omega)]; done)
                  | (refine hn ?_; unfold stD; rw [if_neg (by omega), if_neg (by omega), if_neg (by omega), if_neg (by omega), if_pos (by omega), if_neg (by omega), if_neg (by omega)])
                ·
                  rw [e4, hz.2.1] at g1
                  rw [e4]
                  refine seg 1 (show (1 = 0 → Wp 38 106 [some (vR 3), some (vR 1), some (vI i), some (vR 4), some (vI (T.2 i))] [] (u2 μ 5 (hN D * 2 + 0) (T.2 i - 48)) R) ∧ (¬ (1 = 0) → Wp 38 102 [some (vR 3), some (vR 1), some (vI i), some (vR 4), some (vI (T.2 i))] [] (u2 μ 5 (hN D * 2 + 0) (T.2 i - 48)) R) from ⟨fun z => absurd z (by decide), fun _ => ?_⟩)
                  refine seg 3 (show (1 = 0 ∨ 1 = 1) ∧ R (some (vI 1)) (u2 μ 5 (hN D * 2 + 0) (T.2 i - 48)) from ⟨by decide, ?_⟩)
                  first
                  | (exfalso; omega)
                  | (refine hy 1 (bgD D) (by unfold stD; rw [if_pos (by omega), if_pos (by omega)]) μ2 f2 d2; done)
                  | (refine hy 2 D (by unfold stD; rw [if_neg (by omega), if_pos (by omega), if_pos (by omega)]) μ2 f2 d2; done)
                  | (refine hy 0 (enD D) (by unfold stD; rw [if_neg (by omega), if_neg (by omega), if_pos (by omega), if_pos (by omega)]) μ2 f2 d2; done)
                  | (refine hy 2 (lnD D (T.2 i)) (by unfold stD; rw [if_neg (by omega), if_neg (by omega), if_neg (by omega), if_pos (by omega), if_pos (by omega)]) _ (fun x hx => by rw [u2_ne (by omega), u2_ne (by omega)]) (hc.ln hd.2.2 (by omega)); done)
                  | (refine hy 1 (paD D 0 (T.2 i - 48)) (by unfold stD; rw [if_neg (by omega), if_neg (by omega), if_neg (by omega), if_neg (by omega), if_pos (by omega), if_pos (by omega)]) _ (fun x hx => by rw [u2_ne (by omega)]) (hc.pa (Or.inl rfl)); done)
                  | (refine hy 1 (paD D 1 (T.2 i - 48)) (by unfold stD; rw [if_neg (by omega), if_neg (by omega), if_neg (by omega), if_neg (by omega), if_pos (by omega), if_neg (by omega), if_pos (by omega)]) _ (fun x hx => by rw [u2_ne (by omega)]) (hc.pa (Or.inr rfl)); done)
                  | (refine hn ?_; unfold stD; rw [if_pos (by omega), if_neg (by omega)]; done)
                  | (refine hn ?_; unfold stD; rw [if_neg (by omega), if_pos (by omega), if_neg (by omega)]; done)
                  | (refine hn ?_; unfold stD; rw [if_neg (by omega), if_neg (by omega), if_pos (by omega), if_neg (by omega)]; done)
                  | (refine hn ?_; unfold stD; rw [if_neg (by omega), if_neg (by omega), if_neg (by omega), if_pos (by omega), if_neg (by omega)]; done)
                  | (refine hn ?_; unfold stD; rw [if_neg (by omega), if_neg (by omega), if_neg (by omega), if_neg (by omega), if_neg (by omega)]; done)
                  | (refine hn ?_; unfold stD; rw [if_neg (by omega), if_neg (by omega), if_neg (by omega), if_neg (by omega), if_pos (by omega), if_neg (by omega), if_neg (by omega)])
                ·
                  rw [e4, hz.2.1] at g1
                  rw [e4, hz.2.2.1, hz.2.1] at g2
                  rw [e4]
                  refine seg 1 (show (1 = 0 → Wp 38 106 [some (vR 3), some (vR 1), some (vI i), some (vR 4), some (vI (T.2 i))] [] (u2 μ 5 (hN D * 2 + 1) (T.2 i - 48)) R) ∧ (¬ (1 = 0) → Wp 38 102 [some (vR 3), some (vR 1), some (vI i), some (vR 4), some (vI (T.2 i))] [] (u2 μ 5 (hN D * 2 + 1) (T.2 i - 48)) R) from ⟨fun z => absurd z (by decide), fun _ => ?_⟩)
                  refine seg 3 (show (1 = 0 ∨ 1 = 1) ∧ R (some (vI 1)) (u2 μ 5 (hN D * 2 + 1) (T.2 i - 48)) from ⟨by decide, ?_⟩)
                  first
                  | (exfalso; omega)
                  | (refine hy 1 (bgD D) (by unfold stD; rw [if_pos (by omega), if_pos (by omega)]) μ2 f2 d2; done)
                  | (refine hy 2 D (by unfold stD; rw [if_neg (by omega), if_pos (by omega), if_pos (by omega)]) μ2 f2 d2; done)
                  | (refine hy 0 (enD D) (by unfold stD; rw [if_neg (by omega), if_neg (by omega), if_pos (by omega), if_pos (by omega)]) μ2 f2 d2; done)
                  | (refine hy 2 (lnD D (T.2 i)) (by unfold stD; rw [if_neg (by omega), if_neg (by omega), if_neg (by omega), if_pos (by omega), if_pos (by omega)]) _ (fun x hx => by rw [u2_ne (by omega), u2_ne (by omega)]) (hc.ln hd.2.2 (by omega)); done)
                  | (refine hy 1 (paD D 0 (T.2 i - 48)) (by unfold stD; rw [if_neg (by omega), if_neg (by omega), if_neg (by omega), if_neg (by omega), if_pos (by omega), if_pos (by omega)]) _ (fun x hx => by rw [u2_ne (by omega)]) (hc.pa (Or.inl rfl)); done)
                  | (refine hy 1 (paD D 1 (T.2 i - 48)) (by unfold stD; rw [if_neg (by omega), if_neg (by omega), if_neg (by omega), if_neg (by omega), if_pos (by omega), if_neg (by omega), if_pos (by omega)]) _ (fun x hx => by rw [u2_ne (by omega)]) (hc.pa (Or.inr rfl)); done)
                  | (refine hn ?_; unfold stD; rw [if_pos (by omega), if_neg (by omega)]; done)
                  | (refine hn ?_; unfold stD; rw [if_neg (by omega), if_pos (by omega), if_neg (by omega)]; done)
                  | (refine hn ?_; unfold stD; rw [if_neg (by omega), if_neg (by omega), if_pos (by omega), if_neg (by omega)]; done)
                  | (refine hn ?_; unfold stD; rw [if_neg (by omega), if_neg (by omega), if_neg (by omega), if_pos (by omega), if_neg (by omega)]; done)
                  | (refine hn ?_; unfold stD; rw [if_neg (by omega), if_neg (by omega), if_neg (by omega), if_neg (by omega), if_neg (by omega)]; done)
                  | (refine hn ?_; unfold stD; rw [if_neg (by omega), if_neg (by omega), if_neg (by omega), if_neg (by omega), if_pos (by omega), if_neg (by omega), if_neg (by omega)])
                ·
                  rw [e4, hz.2.1] at g1
                  rw [e4, hz.2.2.1, hz.2.1] at g2
                  refine seg 1 (show (0 = 0 → Wp 38 106 [some (vR 3), some (vR 1), some (vI i), some (vR 4), some (vI (T.2 i))] [] μ R) ∧ (¬ (0 = 0) → Wp 38 102 [some (vR 3), some (vR 1), some (vI i), some (vR 4), some (vI (T.2 i))] [] μ R) from ⟨fun _ => ?_, fun z => absurd z (by decide)⟩)
                  refine seg 2 (show (0 = 0 ∨ 0 = 1) ∧ R (some (vI 0)) μ from ⟨by decide, ?_⟩)
                  first
                  | (exfalso; omega)
                  | (refine hy 1 (bgD D) (by unfold stD; rw [if_pos (by omega), if_pos (by omega)]) μ2 f2 d2; done)
                  | (refine hy 2 D (by unfold stD; rw [if_neg (by omega), if_pos (by omega), if_pos (by omega)]) μ2 f2 d2; done)
                  | (refine hy 0 (enD D) (by unfold stD; rw [if_neg (by omega), if_neg (by omega), if_pos (by omega), if_pos (by omega)]) μ2 f2 d2; done)
                  | (refine hy 2 (lnD D (T.2 i)) (by unfold stD; rw [if_neg (by omega), if_neg (by omega), if_neg (by omega), if_pos (by omega), if_pos (by omega)]) _ (fun x hx => by rw [u2_ne (by omega), u2_ne (by omega)]) (hc.ln hd.2.2 (by omega)); done)
                  | (refine hy 1 (paD D 0 (T.2 i - 48)) (by unfold stD; rw [if_neg (by omega), if_neg (by omega), if_neg (by omega), if_neg (by omega), if_pos (by omega), if_pos (by omega)]) _ (fun x hx => by rw [u2_ne (by omega)]) (hc.pa (Or.inl rfl)); done)
                  | (refine hy 1 (paD D 1 (T.2 i - 48)) (by unfold stD; rw [if_neg (by omega), if_neg (by omega), if_neg (by omega), if_neg (by omega), if_pos (by omega), if_neg (by omega), if_pos (by omega)]) _ (fun x hx => by rw [u2_ne (by omega)]) (hc.pa (Or.inr rfl)); done)
                  | (refine hn ?_; unfold stD; rw [if_pos (by omega), if_neg (by omega)]; done)
                  | (refine hn ?_; unfold stD; rw [if_neg (by omega), if_pos (by omega), if_neg (by omega)]; done)
                  | (refine hn ?_; unfold stD; rw [if_neg (by omega), if_neg (by omega), if_pos (by omega), if_neg (by omega)]; done)
                  | (refine hn ?_; unfold stD; rw [if_neg (by omega), if_neg (by omega), if_neg (by omega), if_pos (by omega), if_neg (by omega)]; done)
                  | (refine hn ?_; unfold stD; rw [if_neg (by omega), if_neg (by omega), if_neg (by omega), if_neg (by omega), if_neg (by omega)]; done)
                  | (refine hn ?_; unfold stD; rw [if_neg (by omega), if_neg (by omega), if_neg (by omega), if_neg (by omega), if_pos (by omega), if_neg (by omega), if_neg (by omega)])
              ·
                refine seg 1 (show Wp 52 0 [some (vR 4), some (vI v), none, none] [] μ (fun rr μ' => Wp 38 99 [some (vR 3), some (vR 1), some (vI i), some (vR 4), some (vI (T.2 i))] (rr.toList ++ []) μ' R) from ?_)
                refine s52 (by omega) (fun b13 => ?_) (fun b13 g1 => ?_) (fun b13 g1 g2 => ?_) (fun b13 g1 g2 => ?_)
                ·
                  refine seg 1 (show (0 = 0 → Wp 38 106 [some (vR 3), some (vR 1), some (vI i), some (vR 4), some (vI (T.2 i))] [] μ R) ∧ (¬ (0 = 0) → Wp 38 102 [some (vR 3), some (vR 1), some (vI i), some (vR 4), some (vI (T.2 i))] [] μ R) from ⟨fun _ => ?_, fun z => absurd z (by decide)⟩)
                  refine seg 2 (show (0 = 0 ∨ 0 = 1) ∧ R (some (vI 0)) μ from ⟨by decide, ?_⟩)
                  first
                  | (exfalso; omega)
                  | (refine hy 1 (bgD D) (by unfold stD; rw [if_pos (by omega), if_pos (by omega)]) μ2 f2 d2; done)
                  | (refine hy 2 D (by unfold stD; rw [if_neg (by omega), if_pos (by omega), if_pos (by omega)]) μ2 f2 d2; done)
                  | (refine hy 0 (enD D) (by unfold stD; rw [if_neg (by omega), if_neg (by omega), if_pos (by omega), if_pos (by omega)]) μ2 f2 d2; done)
                  | (refine hy 2 (lnD D (T.2 i)) (by unfold stD; rw [if_neg (by omega), if_neg (by omega), if_neg (by omega), if_pos (by omega), if_pos (by omega)]) _ (fun x hx => by rw [u2_ne (by omega), u2_ne (by omega)]) (hc.ln hd.2.2 (by omega)); done)
                  | (refine hy 1 (paD D 0 (T.2 i - 48)) (by unfold stD; rw [if_neg (by omega), if_neg (by omega), if_neg (by omega), if_neg (by omega), if_pos (by omega), if_pos (by omega)]) _ (fun x hx => by rw [u2_ne (by omega)]) (hc.pa (Or.inl rfl)); done)
                  | (refine hy 1 (paD D 1 (T.2 i - 48)) (by unfold stD; rw [if_neg (by omega), if_neg (by omega), if_neg (by omega), if_neg (by omega), if_pos (by omega), if_neg (by omega), if_pos (by omega)]) _ (fun x hx => by rw [u2_ne (by omega)]) (hc.pa (Or.inr rfl)); done)
                  | (refine hn ?_; unfold stD; rw [if_pos (by omega), if_neg (by omega)]; done)
                  | (refine hn ?_; unfold stD; rw [if_neg (by omega), if_pos (by omega), if_neg (by omega)]; done)
                  | (refine hn ?_; unfold stD; rw [if_neg (by omega), if_neg (by omega), if_pos (by omega), if_neg (by omega)]; done)
                  | (refine hn ?_; unfold stD; rw [if_neg (by omega), if_neg (by omega), if_neg (by omega), if_pos (by omega), if_neg (by omega)]; done)
                  | (refine hn ?_; unfold stD; rw [if_neg (by omega), if_neg (by omega), if_neg (by omega), if_neg (by omega), if_neg (by omega)]; done)
                  | (refine hn ?_; unfold stD; rw [if_neg (by omega), if_neg (by omega), if_neg (by omega), if_neg (by omega), if_pos (by omega), if_neg (by omega), if_neg (by omega)])
                ·
                  rw [e4, hz.2.1] at g1
                  rw [e4]
                  refine seg 1 (show (1 = 0 → Wp 38 106 [some (vR 3), some (vR 1), some (vI i), some (vR 4), some (vI (T.2 i))] [] (u2 μ 5 (hN D * 2 + 0) v) R) ∧ (¬ (1 = 0) → Wp 38 102 [some (vR 3), some (vR 1), some (vI i), some (vR 4), some (vI (T.2 i))] [] (u2 μ 5 (hN D * 2 + 0) v) R) from ⟨fun z => absurd z (by decide), fun _ => ?_⟩)
                  refine seg 3 (show (1 = 0 ∨ 1 = 1) ∧ R (some (vI 1)) (u2 μ 5 (hN D * 2 + 0) v) from ⟨by decide, ?_⟩)
                  first
                  | (exfalso; omega)
                  | (refine hy 1 (bgD D) (by unfold stD; rw [if_pos (by omega), if_pos (by omega)]) μ2 f2 d2; done)
                  | (refine hy 2 D (by unfold stD; rw [if_neg (by omega), if_pos (by omega), if_pos (by omega)]) μ2 f2 d2; done)
                  | (refine hy 0 (enD D) (by unfold stD; rw [if_neg (by omega), if_neg (by omega), if_pos (by omega), if_pos (by omega)]) μ2 f2 d2; done)
                  | (refine hy 2 (lnD D (T.2 i)) (by unfold stD; rw [if_neg (by omega), if_neg (by omega), if_neg (by omega), if_pos (by omega), if_pos (by omega)]) _ (fun x hx => by rw [u2_ne (by omega), u2_ne (by omega)]) (hc.ln hd.2.2 (by omega)); done)
                  | (refine hy 1 (paD D 0 (T.2 i - 48)) (by unfold stD; rw [if_neg (by omega), if_neg (by omega), if_neg (by omega), if_neg (by omega), if_pos (by omega), if_pos (by omega)]) _ (fun x hx => by rw [u2_ne (by omega)]) (hc.pa (Or.inl rfl)); done)
                  | (refine hy 1 (paD D 1 (T.2 i - 48)) (by unfold stD; rw [if_neg (by omega), if_neg (by omega), if_neg (by omega), if_neg (by omega), if_pos (by omega), if_neg (by omega), if_pos (by omega)]) _ (fun x hx => by rw [u2_ne (by omega)]) (hc.pa (Or.inr rfl)); done)
                  | (refine hn ?_; unfold stD; rw [if_pos (by omega), if_neg (by omega)]; done)
                  | (refine hn ?_; unfold stD; rw [if_neg (by omega), if_pos (by omega), if_neg (by omega)]; done)
                  | (refine hn ?_; unfold stD; rw [if_neg (by omega), if_neg (by omega), if_pos (by omega), if_neg (by omega)]; done)
                  | (refine hn ?_; unfold stD; rw [if_neg (by omega), if_neg (by omega), if_neg (by omega), if_pos (by omega), if_neg (by omega)]; done)
                  | (refine hn ?_; unfold stD; rw [if_neg (by omega), if_neg (by omega), if_neg (by omega), if_neg (by omega), if_neg (by omega)]; done)
                  | (refine hn ?_; unfold stD; rw [if_neg (by omega), if_neg (by omega), if_neg (by omega), if_neg (by omega), if_pos (by omega), if_neg (by omega), if_neg (by omega)])
                ·
                  rw [e4, hz.2.1] at g1
                  rw [e4, hz.2.2.1, hz.2.1] at g2
                  rw [e4]
                  refine seg 1 (show (1 = 0 → Wp 38 106 [some (vR 3), some (vR 1), some (vI i), some (vR 4), some (vI (T.2 i))] [] (u2 μ 5 (hN D * 2 + 1) v) R) ∧ (¬ (1 = 0) → Wp 38 102 [some (vR 3), some (vR 1), some (vI i), some (vR 4), some (vI (T.2 i))] [] (u2 μ 5 (hN D * 2 + 1) v) R) from ⟨fun z => absurd z (by decide), fun _ => ?_⟩)
                  refine seg 3 (show (1 = 0 ∨ 1 = 1) ∧ R (some (vI 1)) (u2 μ 5 (hN D * 2 + 1) v) from ⟨by decide, ?_⟩)
                  first
                  | (exfalso; omega)
                  | (refine hy 1 (bgD D) (by unfold stD; rw [if_pos (by omega), if_pos (by omega)]) μ2 f2 d2; done)
                  | (refine hy 2 D (by unfold stD; rw [if_neg (by omega), if_pos (by omega), if_pos (by omega)]) μ2 f2 d2; done)
                  | (refine hy 0 (enD D) (by unfold stD; rw [if_neg (by omega), if_neg (by omega), if_pos (by omega), if_pos (by omega)]) μ2 f2 d2; done)
                  | (refine hy 2 (lnD D (T.2 i)) (by unfold stD; rw [if_neg (by omega), if_neg (by omega), if_neg (by omega), if_pos (by omega), if_pos (by omega)]) _ (fun x hx => by rw [u2_ne (by omega), u2_ne (by omega)]) (hc.ln hd.2.2 (by omega)); done)
                  | (refine hy 1 (paD D 0 (T.2 i - 48)) (by unfold stD; rw [if_neg (by omega), if_neg (by omega), if_neg (by omega), if_neg (by omega), if_pos (by omega), if_pos (by omega)]) _ (fun x hx => by rw [u2_ne (by omega)]) (hc.pa (Or.inl rfl)); done)
                  | (refine hy 1 (paD D 1 (T.2 i - 48)) (by unfold stD; rw [if_neg (by omega), if_neg (by omega), if_neg (by omega), if_neg (by omega), if_pos (by omega), if_neg (by omega), if_pos (by omega)]) _ (fun x hx => by rw [u2_ne (by omega)]) (hc.pa (Or.inr rfl)); done)
                  | (refine hn ?_; unfold stD; rw [if_pos (by omega), if_neg (by omega)]; done)
                  | (refine hn ?_; unfold stD; rw [if_neg (by omega), if_pos (by omega), if_neg (by omega)]; done)
                  | (refine hn ?_; unfold stD; rw [if_neg (by omega), if_neg (by omega), if_pos (by omega), if_neg (by omega)]; done)
                  | (refine hn ?_; unfold stD; rw [if_neg (by omega), if_neg (by omega), if_neg (by omega), if_pos (by omega), if_neg (by omega)]; done)
                  | (refine hn ?_; unfold stD; rw [if_neg (by omega), if_neg (by omega), if_neg (by omega), if_neg (by omega), if_neg (by omega)]; done)
                  | (refine hn ?_; unfold stD; rw [if_neg (by omega), if_neg (by omega), if_neg (by omega), if_neg (by omega), if_pos (by omega), if_neg (by omega), if_neg (by omega)])
                ·
                  rw [e4, hz.2.1] at g1
                  rw [e4, hz.2.2.1, hz.2.1] at g2
                  refine seg 1 (show (0 = 0 → Wp 38 106 [some (vR 3), some (vR 1), some (vI i), some (vR 4), some (vI (T.2 i))] [] μ R) ∧ (¬ (0 = 0) → Wp 38 102 [some (vR 3), some (vR 1), some (vI i), some (vR 4), some (vI (T.2 i))] [] μ R) from ⟨fun _ => ?_, fun z => absurd z (by decide)⟩)
                  refine seg 2 (show (0 = 0 ∨ 0 = 1) ∧ R (some (vI 0)) μ from ⟨by decide, ?_⟩)
                  first
                  | (exfalso; omega)
                  | (refine hy 1 (bgD D) (by unfold stD; rw [if_pos (by omega), if_pos (by omega)]) μ2 f2 d2; done)
                  | (refine hy 2 D (by unfold stD; rw [if_neg (by omega), if_pos (by omega), if_pos (by omega)]) μ2 f2 d2; done)
                  | (refine hy 0 (enD D) (by unfold stD; rw [if_neg (by omega), if_neg (by omega), if_pos (by omega), if_pos (by omega)]) μ2 f2 d2; done)
                  | (refine hy 2 (lnD D (T.2 i)) (by unfold stD; rw [if_neg (by omega), if_neg (by omega), if_neg (by omega), if_pos (by omega), if_pos (by omega)]) _ (fun x hx => by rw [u2_ne (by omega), u2_ne (by omega)]) (hc.ln hd.2.2 (by omega)); done)
                  | (refine hy 1 (paD D 0 (T.2 i - 48)) (by unfold stD; rw [if_neg (by omega), if_neg (by omega), if_neg (by omega), if_neg (by omega), if_pos (by omega), if_pos (by omega)]) _ (fun x hx => by rw [u2_ne (by omega)]) (hc.pa (Or.inl rfl)); done)
                  | (refine hy 1 (paD D 1 (T.2 i - 48)) (by unfold stD; rw [if_neg (by omega), if_neg (by omega), if_neg (by omega), if_neg (by omega), if_pos (by omega), if_neg (by omega), if_pos (by omega)]) _ (fun x hx => by rw [u2_ne (by omega)]) (hc.pa (Or.inr rfl)); done)
                  | (refine hn ?_; unfold stD; rw [if_pos (by omega), if_neg (by omega)]; done)
                  | (refine hn ?_; unfold stD; rw [if_neg (by omega), if_pos (by omega), if_neg (by omega)]; done)
                  | (refine hn ?_; unfold stD; rw [if_neg (by omega), if_neg (by omega), if_pos (by omega), if_neg (by omega)]; done)
                  | (refine hn ?_; unfold stD; rw [if_neg (by omega), if_neg (by omega), if_neg (by omega), if_pos (by omega), if_neg (by omega)]; done)
                  | (refine hn ?_; unfold stD; rw [if_neg (by omega), if_neg (by omega), if_neg (by omega), if_neg (by omega), if_neg (by omega)]; done)
                  | (refine hn ?_; unfold stD; rw [if_neg (by omega), if_neg (by omega), if_neg (by omega), if_neg (by omega), if_pos (by omega), if_neg (by omega), if_neg (by omega)])
          ·
            refine seg 4 (show (¬ (μ 3 0 = 2) → Wp 38 80 [some (vR 3), some (vR 1), some (vI i), some (vR 4), some (vI (T.2 i))] [] μ R) ∧ (μ 3 0 = 2 → Wp 38 67 [some (vR 3), some (vR 1), some (vI i), some (vR 4), some (vI (T.2 i))] [] μ R) from ⟨fun c14 => ?_, fun c14 => ?_⟩)
            ·
              refine seg 2 (show (0 = 0 ∨ 0 = 1) ∧ R (some (vI 0)) μ from ⟨by decide, ?_⟩)
              first
              | (exfalso; omega)
              | (refine hy 1 (bgD D) (by unfold stD; rw [if_pos (by omega), if_pos (by omega)]) μ2 f2 d2; done)
              | (refine hy 2 D (by unfold stD; rw [if_neg (by omega), if_pos (by omega), if_pos (by omega)]) μ2 f2 d2; done)
              | (refine hy 0 (enD D) (by unfold stD; rw [if_neg (by omega), if_neg (by omega), if_pos (by omega), if_pos (by omega)]) μ2 f2 d2; done)
              | (refine hy 2 (lnD D (T.2 i)) (by unfold stD; rw [if_neg (by omega), if_neg (by omega), if_neg (by omega), if_pos (by omega), if_pos (by omega)]) _ (fun x hx => by rw [u2_ne (by omega), u2_ne (by omega)]) (hc.ln hd.2.2 (by omega)); done)
              | (refine hy 1 (paD D 0 (T.2 i - 48)) (by unfold stD; rw [if_neg (by omega), if_neg (by omega), if_neg (by omega), if_neg (by omega), if_pos (by omega), if_pos (by omega)]) _ (fun x hx => by rw [u2_ne (by omega)]) (hc.pa (Or.inl rfl)); done)
              | (refine hy 1 (paD D 1 (T.2 i - 48)) (by unfold stD; rw [if_neg (by omega), if_neg (by omega), if_neg (by omega), if_neg (by omega), if_pos (by omega), if_neg (by omega), if_pos (by omega)]) _ (fun x hx => by rw [u2_ne (by omega)]) (hc.pa (Or.inr rfl)); done)
              | (refine hn ?_; unfold stD; rw [if_pos (by omega), if_neg (by omega)]; done)
              | (refine hn ?_; unfold stD; rw [if_neg (by omega), if_pos (by omega), if_neg (by omega)]; done)
              | (refine hn ?_; unfold stD; rw [if_neg (by omega), if_neg (by omega), if_pos (by omega), if_neg (by omega)]; done)
              | (refine hn ?_; unfold stD; rw [if_neg (by omega), if_neg (by omega), if_neg (by omega), if_pos (by omega), if_neg (by omega)]; done)
              | (refine hn ?_; unfold stD; rw [if_neg (by omega), if_neg (by omega), if_neg (by omega), if_neg (by omega), if_neg (by omega)]; done)
              | (refine hn ?_; unfold stD; rw [if_neg (by omega), if_neg (by omega), if_neg (by omega), if_neg (by omega), if_pos (by omega), if_neg (by omega), if_neg (by omega)])
            ·
              refine seg 3 (show Wp 53 0 [some (vR 4), some (vI (T.2 i))] [] μ (fun rr μ' => Wp 38 73 [some (vR 3), some (vR 1), some (vI i), some (vR 4), some (vI (T.2 i))] (rr.toList ++ []) μ' R) from ?_)
              obtain rfl : q = 2 := (by omega)
              have hz := hc.2.2 (hN D) (by omega) (Or.inr ⟨by decide, rfl⟩)
              have hz8 := (hd.2.2 (hN D) (by omega) (Or.inr ⟨by decide, rfl⟩)).1
              refine s53 (by omega) (by rw [e4, hz.1]; omega) (fun b15 => ?_) (fun b15 => ?_)
              ·
                rw [e4, hz.1] at b15
                rw [e4, hz.1]
                refine seg 1 (show (1 = 0 → Wp 38 80 [some (vR 3), some (vR 1), some (vI i), some (vR 4), some (vI (T.2 i))] [] (u2 (u2 μ 7 (hN D * 8 + hS D (hN D)) (T.2 i)) 6 (hN D) (hS D (hN D) + 1)) R) ∧ (¬ (1 = 0) → Wp 38 76 [some (vR 3), some (vR 1), some (vI i), some (vR 4), some (vI (T.2 i))] [] (u2 (u2 μ 7 (hN D * 8 + hS D (hN D)) (T.2 i)) 6 (hN D) (hS D (hN D) + 1)) R) from ⟨fun z => absurd z (by decide), fun _ => ?_⟩)
                refine seg 3 (show (1 = 0 ∨ 1 = 1) ∧ R (some (vI 1)) (u2 (u2 μ 7 (hN D * 8 + hS D (hN D)) (T.2 i)) 6 (hN D) (hS D (hN D) + 1)) from ⟨by decide, ?_⟩)
                first
                | (exfalso; omega)
                | (refine hy 1 (bgD D) (by unfold stD; rw [if_pos (by omega), if_pos (by omega)]) μ2 f2 d2; done)
                | (refine hy 2 D (by unfold stD; rw [if_neg (by omega), if_pos (by omega), if_pos (by omega)]) μ2 f2 d2; done)
                | (refine hy 0 (enD D) (by unfold stD; rw [if_neg (by omega), if_neg (by omega), if_pos (by omega), if_pos (by omega)]) μ2 f2 d2; done)
                | (refine hy 2 (lnD D (T.2 i)) (by unfold stD; rw [if_neg (by omega), if_neg (by omega), if_neg (by omega), if_pos (by omega), if_pos (by omega)]) _ (fun x hx => by rw [u2_ne (by omega), u2_ne (by omega)]) (hc.ln hd.2.2 (by omega)); done)
                | (refine hy 1 (paD D 0 (T.2 i - 48)) (by unfold stD; rw [if_neg (by omega), if_neg (by omega), if_neg (by omega), if_neg (by omega), if_pos (by omega), if_pos (by omega)]) _ (fun x hx => by rw [u2_ne (by omega)]) (hc.pa (Or.inl rfl)); done)
                | (refine hy 1 (paD D 1 (T.2 i - 48)) (by unfold stD; rw [if_neg (by omega), if_neg (by omega), if_neg (by omega), if_neg (by omega), if_pos (by omega), if_neg (by omega), if_pos (by omega)]) _ (fun x hx => by rw [u2_ne (by omega)]) (hc.pa (Or.inr rfl)); done)
                | (refine hn ?_; unfold stD; rw [if_pos (by omega), if_neg (by omega)]; done)
                | (refine hn ?_; unfold stD; rw [if_neg (by omega), if_pos (by omega), if_neg (by omega)]; done)
                | (refine hn ?_; unfold stD; rw [if_neg (by omega), if_neg (by omega), if_pos (by omega), if_neg (by omega)]; done)
                | (refine hn ?_; unfold stD; rw [if_neg (by omega), if_neg (by omega), if_neg (by omega), if_pos (by omega), if_neg (by omega)]; done)
                | (refine hn ?_; unfold stD; rw [if_neg (by omega), if_neg (by omega), if_neg (by omega), if_neg (by omega), if_neg (by omega)]; done)
                | (refine hn ?_; unfold stD; rw [if_neg (by omega), if_neg (by omega), if_neg (by omega), if_neg (by omega), if_pos (by omega), if_neg (by omega), if_neg (by omega)])
              ·
                rw [e4, hz.1] at b15
                refine seg 1 (show (0 = 0 → Wp 38 80 [some (vR 3), some (vR 1), some (vI i), some (vR 4), some (vI (T.2 i))] [] μ R) ∧ (¬ (0 = 0) → Wp 38 76 [some (vR 3), some (vR 1), some (vI i), some (vR 4), some (vI (T.2 i))] [] μ R) from ⟨fun _ => ?_, fun z => absurd z (by decide)⟩)
                refine seg 2 (show (0 = 0 ∨ 0 = 1) ∧ R (some (vI 0)) μ from ⟨by decide, ?_⟩)
                first
                | (exfalso; omega)
                | (refine hy 1 (bgD D) (by unfold stD; rw [if_pos (by omega), if_pos (by omega)]) μ2 f2 d2; done)
                | (refine hy 2 D (by unfold stD; rw [if_neg (by omega), if_pos (by omega), if_pos (by omega)]) μ2 f2 d2; done)
                | (refine hy 0 (enD D) (by unfold stD; rw [if_neg (by omega), if_neg (by omega), if_pos (by omega), if_pos (by omega)]) μ2 f2 d2; done)
                | (refine hy 2 (lnD D (T.2 i)) (by unfold stD; rw [if_neg (by omega), if_neg (by omega), if_neg (by omega), if_pos (by omega), if_pos (by omega)]) _ (fun x hx => by rw [u2_ne (by omega), u2_ne (by omega)]) (hc.ln hd.2.2 (by omega)); done)
                | (refine hy 1 (paD D 0 (T.2 i - 48)) (by unfold stD; rw [if_neg (by omega), if_neg (by omega), if_neg (by omega), if_neg (by omega), if_pos (by omega), if_pos (by omega)]) _ (fun x hx => by rw [u2_ne (by omega)]) (hc.pa (Or.inl rfl)); done)
                | (refine hy 1 (paD D 1 (T.2 i - 48)) (by unfold stD; rw [if_neg (by omega), if_neg (by omega), if_neg (by omega), if_neg (by omega), if_pos (by omega), if_neg (by omega), if_pos (by omega)]) _ (fun x hx => by rw [u2_ne (by omega)]) (hc.pa (Or.inr rfl)); done)
                | (refine hn ?_; unfold stD; rw [if_pos (by omega), if_neg (by omega)]; done)
                | (refine hn ?_; unfold stD; rw [if_neg (by omega), if_pos (by omega), if_neg (by omega)]; done)
                | (refine hn ?_; unfold stD; rw [if_neg (by omega), if_neg (by omega), if_pos (by omega), if_neg (by omega)]; done)
                | (refine hn ?_; unfold stD; rw [if_neg (by omega), if_neg (by omega), if_neg (by omega), if_pos (by omega), if_neg (by omega)]; done)
                | (refine hn ?_; unfold stD; rw [if_neg (by omega), if_neg (by omega), if_neg (by omega), if_neg (by omega), if_neg (by omega)]; done)
                | (refine hn ?_; unfold stD; rw [if_neg (by omega), if_neg (by omega), if_neg (by omega), if_neg (by omega), if_pos (by omega), if_neg (by omega), if_neg (by omega)])
      ·
        refine seg 3 (show Wp 41 0 [some (vR 3), some (vR 4)] [] μ (fun rr μ' => Wp 38 44 [some (vR 3), some (vR 1), some (vI i), some (vR 4), some (vI (T.2 i))] (rr.toList ++ []) μ' R) from ?_)
        refine s41 hd hc (fun b16 μ2 f2 d2 => ?_) (fun b16 => ?_)
        ·
          refine seg 1 (show (1 = 0 ∨ 1 = 1) ∧ R (some (vI 1)) μ2 from ⟨by decide, ?_⟩)
          first
          | (exfalso; omega)
          | (refine hy 1 (bgD D) (by unfold stD; rw [if_pos (by omega), if_pos (by omega)]) μ2 f2 d2; done)
          | (refine hy 2 D (by unfold stD; rw [if_neg (by omega), if_pos (by omega), if_pos (by omega)]) μ2 f2 d2; done)
          | (refine hy 0 (enD D) (by unfold stD; rw [if_neg (by omega), if_neg (by omega), if_pos (by omega), if_pos (by omega)]) μ2 f2 d2; done)
          | (refine hy 2 (lnD D (T.2 i)) (by unfold stD; rw [if_neg (by omega), if_neg (by omega), if_neg (by omega), if_pos (by omega), if_pos (by omega)]) _ (fun x hx => by rw [u2_ne (by omega), u2_ne (by omega)]) (hc.ln hd.2.2 (by omega)); done)
          | (refine hy 1 (paD D 0 (T.2 i - 48)) (by unfold stD; rw [if_neg (by omega), if_neg (by omega), if_neg (by omega), if_neg (by omega), if_pos (by omega), if_pos (by omega)]) _ (fun x hx => by rw [u2_ne (by omega)]) (hc.pa (Or.inl rfl)); done)
          | (refine hy 1 (paD D 1 (T.2 i - 48)) (by unfold stD; rw [if_neg (by omega), if_neg (by omega), if_neg (by omega), if_neg (by omega), if_pos (by omega), if_neg (by omega), if_pos (by omega)]) _ (fun x hx => by rw [u2_ne (by omega)]) (hc.pa (Or.inr rfl)); done)
          | (refine hn ?_; unfold stD; rw [if_pos (by omega), if_neg (by omega)]; done)
          | (refine hn ?_; unfold stD; rw [if_neg (by omega), if_pos (by omega), if_neg (by omega)]; done)
          | (refine hn ?_; unfold stD; rw [if_neg (by omega), if_neg (by omega), if_pos (by omega), if_neg (by omega)]; done)
          | (refine hn ?_; unfold stD; rw [if_neg (by omega), if_neg (by omega), if_neg (by omega), if_pos (by omega), if_neg (by omega)]; done)
          | (refine hn ?_; unfold stD; rw [if_neg (by omega), if_neg (by omega), if_neg (by omega), if_neg (by omega), if_neg (by omega)]; done)
          | (refine hn ?_; unfold stD; rw [if_neg (by omega), if_neg (by omega), if_neg (by omega), if_neg (by omega), if_pos (by omega), if_neg (by omega), if_neg (by omega)])
        ·
          refine seg 1 (show (0 = 0 ∨ 0 = 1) ∧ R (some (vI 0)) μ from ⟨by decide, ?_⟩)
          first
          | (exfalso; omega)
          | (refine hy 1 (bgD D) (by unfold stD; rw [if_pos (by omega), if_pos (by omega)]) μ2 f2 d2; done)
          | (refine hy 2 D (by unfold stD; rw [if_neg (by omega), if_pos (by omega), if_pos (by omega)]) μ2 f2 d2; done)
          | (refine hy 0 (enD D) (by unfold stD; rw [if_neg (by omega), if_neg (by omega), if_pos (by omega), if_pos (by omega)]) μ2 f2 d2; done)
          | (refine hy 2 (lnD D (T.2 i)) (by unfold stD; rw [if_neg (by omega), if_neg (by omega), if_neg (by omega), if_pos (by omega), if_pos (by omega)]) _ (fun x hx => by rw [u2_ne (by omega), u2_ne (by omega)]) (hc.ln hd.2.2 (by omega)); done)
          | (refine hy 1 (paD D 0 (T.2 i - 48)) (by unfold stD; rw [if_neg (by omega), if_neg (by omega), if_neg (by omega), if_neg (by omega), if_pos (by omega), if_pos (by omega)]) _ (fun x hx => by rw [u2_ne (by omega)]) (hc.pa (Or.inl rfl)); done)
          | (refine hy 1 (paD D 1 (T.2 i - 48)) (by unfold stD; rw [if_neg (by omega), if_neg (by omega), if_neg (by omega), if_neg (by omega), if_pos (by omega), if_neg (by omega), if_pos (by omega)]) _ (fun x hx => by rw [u2_ne (by omega)]) (hc.pa (Or.inr rfl)); done)
          | (refine hn ?_; unfold stD; rw [if_pos (by omega), if_neg (by omega)]; done)
          | (refine hn ?_; unfold stD; rw [if_neg (by omega), if_pos (by omega), if_neg (by omega)]; done)
          | (refine hn ?_; unfold stD; rw [if_neg (by omega), if_neg (by omega), if_pos (by omega), if_neg (by omega)]; done)
          | (refine hn ?_; unfold stD; rw [if_neg (by omega), if_neg (by omega), if_neg (by omega), if_pos (by omega), if_neg (by omega)]; done)
          | (refine hn ?_; unfold stD; rw [if_neg (by omega), if_neg (by omega), if_neg (by omega), if_neg (by omega), if_neg (by omega)]; done)
          | (refine hn ?_; unfold stD; rw [if_neg (by omega), if_neg (by omega), if_neg (by omega), if_neg (by omega), if_pos (by omega), if_neg (by omega), if_neg (by omega)])
    ·
      refine seg 2 (show Wp 40 0 [some (vR 3)] [] μ (fun rr μ' => Wp 38 31 [some (vR 3), some (vR 1), some (vI i), some (vR 4), some (vI (T.2 i))] (rr.toList ++ []) μ' R) from ?_)
      refine s40 hd hc (fun b17 μ2 f2 d2 => ?_) (fun b17 => ?_)
      ·
        refine seg 1 (show (1 = 0 ∨ 1 = 1) ∧ R (some (vI 1)) μ2 from ⟨by decide, ?_⟩)
        first
        | (exfalso; omega)
        | (refine hy 1 (bgD D) (by unfold stD; rw [if_pos (by omega), if_pos (by omega)]) μ2 f2 d2; done)
        | (refine hy 2 D (by unfold stD; rw [if_neg (by omega), if_pos (by omega), if_pos (by omega)]) μ2 f2 d2; done)
        | (refine hy 0 (enD D) (by unfold stD; rw [if_neg (by omega), if_neg (by omega), if_pos (by omega), if_pos (by omega)]) μ2 f2 d2; done)
        | (refine hy 2 (lnD D (T.2 i)) (by unfold stD; rw [if_neg (by omega), if_neg (by omega), if_neg (by omega), if_pos (by omega), if_pos (by omega)]) _ (fun x hx => by rw [u2_ne (by omega), u2_ne (by omega)]) (hc.ln hd.2.2 (by omega)); done)
        | (refine hy 1 (paD D 0 (T.2 i - 48)) (by unfold stD; rw [if_neg (by omega), if_neg (by omega), if_neg (by omega), if_neg (by omega), if_pos (by omega), if_pos (by omega)]) _ (fun x hx => by rw [u2_ne (by omega)]) (hc.pa (Or.inl rfl)); done)
        | (refine hy 1 (paD D 1 (T.2 i - 48)) (by unfold stD; rw [if_neg (by omega), if_neg (by omega), if_neg (by omega), if_neg (by omega), if_pos (by omega), if_neg (by omega), if_pos (by omega)]) _ (fun x hx => by rw [u2_ne (by omega)]) (hc.pa (Or.inr rfl)); done)
        | (refine hn ?_; unfold stD; rw [if_pos (by omega), if_neg (by omega)]; done)
        | (refine hn ?_; unfold stD; rw [if_neg (by omega), if_pos (by omega), if_neg (by omega)]; done)
        | (refine hn ?_; unfold stD; rw [if_neg (by omega), if_neg (by omega), if_pos (by omega), if_neg (by omega)]; done)
        | (refine hn ?_; unfold stD; rw [if_neg (by omega), if_neg (by omega), if_neg (by omega), if_pos (by omega), if_neg (by omega)]; done)
        | (refine hn ?_; unfold stD; rw [if_neg (by omega), if_neg (by omega), if_neg (by omega), if_neg (by omega), if_neg (by omega)]; done)
        | (refine hn ?_; unfold stD; rw [if_neg (by omega), if_neg (by omega), if_neg (by omega), if_neg (by omega), if_pos (by omega), if_neg (by omega), if_neg (by omega)])
      ·
        refine seg 1 (show (0 = 0 ∨ 0 = 1) ∧ R (some (vI 0)) μ from ⟨by decide, ?_⟩)
        first
        | (exfalso; omega)
        | (refine hy 1 (bgD D) (by unfold stD; rw [if_pos (by omega), if_pos (by omega)]) μ2 f2 d2; done)
        | (refine hy 2 D (by unfold stD; rw [if_neg (by omega), if_pos (by omega), if_pos (by omega)]) μ2 f2 d2; done)
        | (refine hy 0 (enD D) (by unfold stD; rw [if_neg (by omega), if_neg (by omega), if_pos (by omega), if_pos (by omega)]) μ2 f2 d2; done)
        | (refine hy 2 (lnD D (T.2 i)) (by unfold stD; rw [if_neg (by omega), if_neg (by omega), if_neg (by omega), if_pos (by omega), if_pos (by omega)]) _ (fun x hx => by rw [u2_ne (by omega), u2_ne (by omega)]) (hc.ln hd.2.2 (by omega)); done)
        | (refine hy 1 (paD D 0 (T.2 i - 48)) (by unfold stD; rw [if_neg (by omega), if_neg (by omega), if_neg (by omega), if_neg (by omega), if_pos (by omega), if_pos (by omega)]) _ (fun x hx => by rw [u2_ne (by omega)]) (hc.pa (Or.inl rfl)); done)
        | (refine hy 1 (paD D 1 (T.2 i - 48)) (by unfold stD; rw [if_neg (by omega), if_neg (by omega), if_neg (by omega), if_neg (by omega), if_pos (by omega), if_neg (by omega), if_pos (by omega)]) _ (fun x hx => by rw [u2_ne (by omega)]) (hc.pa (Or.inr rfl)); done)
        | (refine hn ?_; unfold stD; rw [if_pos (by omega), if_neg (by omega)]; done)
        | (refine hn ?_; unfold stD; rw [if_neg (by omega), if_pos (by omega), if_neg (by omega)]; done)
        | (refine hn ?_; unfold stD; rw [if_neg (by omega), if_neg (by omega), if_pos (by omega), if_neg (by omega)]; done)
        | (refine hn ?_; unfold stD; rw [if_neg (by omega), if_neg (by omega), if_neg (by omega), if_pos (by omega), if_neg (by omega)]; done)
        | (refine hn ?_; unfold stD; rw [if_neg (by omega), if_neg (by omega), if_neg (by omega), if_neg (by omega), if_neg (by omega)]; done)
        | (refine hn ?_; unfold stD; rw [if_neg (by omega), if_neg (by omega), if_neg (by omega), if_neg (by omega), if_pos (by omega), if_neg (by omega), if_neg (by omega)])
  ·
    refine seg 3 (show Wp 39 0 [some (vR 3), some (vR 4)] [] μ (fun rr μ' => Wp 38 19 [some (vR 3), some (vR 1), some (vI i), some (vR 4), some (vI (T.2 i))] (rr.toList ++ []) μ' R) from ?_)
    refine s39 hd hc (fun b18 μ2 f2 d2 => ?_) (fun b18 => ?_)
    ·
      refine seg 1 (show (1 = 0 ∨ 1 = 1) ∧ R (some (vI 1)) μ2 from ⟨by decide, ?_⟩)
      first
      | (exfalso; omega)
      | (refine hy 1 (bgD D) (by unfold stD; rw [if_pos (by omega), if_pos (by omega)]) μ2 f2 d2; done)
      | (refine hy 2 D (by unfold stD; rw [if_neg (by omega), if_pos (by omega), if_pos (by omega)]) μ2 f2 d2; done)
      | (refine hy 0 (enD D) (by unfold stD; rw [if_neg (by omega), if_neg (by omega), if_pos (by omega), if_pos (by omega)]) μ2 f2 d2; done)
      | (refine hy 2 (lnD D (T.2 i)) (by unfold stD; rw [if_neg (by omega), if_neg (by omega), if_neg (by omega), if_pos (by omega), if_pos (by omega)]) _ (fun x hx => by rw [u2_ne (by omega), u2_ne (by omega)]) (hc.ln hd.2.2 (by omega)); done)
      | (refine hy 1 (paD D 0 (T.2 i - 48)) (by unfold stD; rw [if_neg (by omega), if_neg (by omega), if_neg (by omega), if_neg (by omega), if_pos (by omega), if_pos (by omega)]) _ (fun x hx => by rw [u2_ne (by omega)]) (hc.pa (Or.inl rfl)); done)
      | (refine hy 1 (paD D 1 (T.2 i - 48)) (by unfold stD; rw [if_neg (by omega), if_neg (by omega), if_neg (by omega), if_neg (by omega), if_pos (by omega), if_neg (by omega), if_pos (by omega)]) _ (fun x hx => by rw [u2_ne (by omega)]) (hc.pa (Or.inr rfl)); done)
      | (refine hn ?_; unfold stD; rw [if_pos (by omega), if_neg (by omega)]; done)
      | (refine hn ?_; unfold stD; rw [if_neg (by omega), if_pos (by omega), if_neg (by omega)]; done)
      | (refine hn ?_; unfold stD; rw [if_neg (by omega), if_neg (by omega), if_pos (by omega), if_neg (by omega)]; done)
      | (refine hn ?_; unfold stD; rw [if_neg (by omega), if_neg (by omega), if_neg (by omega), if_pos (by omega), if_neg (by omega)]; done)
      | (refine hn ?_; unfold stD; rw [if_neg (by omega), if_neg (by omega), if_neg (by omega), if_neg (by omega), if_neg (by omega)]; done)
      | (refine hn ?_; unfold stD; rw [if_neg (by omega), if_neg (by omega), if_neg (by omega), if_neg (by omega), if_pos (by omega), if_neg (by omega), if_neg (by omega)])
    ·
      refine seg 1 (show (0 = 0 ∨ 0 = 1) ∧ R (some (vI 0)) μ from ⟨by decide, ?_⟩)
      first
      | (exfalso; omega)
      | (refine hy 1 (bgD D) (by unfold stD; rw [if_pos (by omega), if_pos (by omega)]) μ2 f2 d2; done)
      | (refine hy 2 D (by unfold stD; rw [if_neg (by omega), if_pos (by omega), if_pos (by omega)]) μ2 f2 d2; done)
      | (refine hy 0 (enD D) (by unfold stD; rw [if_neg (by omega), if_neg (by omega), if_pos (by omega), if_pos (by omega)]) μ2 f2 d2; done)
      | (refine hy 2 (lnD D (T.2 i)) (by unfold stD; rw [if_neg (by omega), if_neg (by omega), if_neg (by omega), if_pos (by omega), if_pos (by omega)]) _ (fun x hx => by rw [u2_ne (by omega), u2_ne (by omega)]) (hc.ln hd.2.2 (by omega)); done)
      | (refine hy 1 (paD D 0 (T.2 i - 48)) (by unfold stD; rw [if_neg (by omega), if_neg (by omega), if_neg (by omega), if_neg (by omega), if_pos (by omega), if_pos (by omega)]) _ (fun x hx => by rw [u2_ne (by omega)]) (hc.pa (Or.inl rfl)); done)
      | (refine hy 1 (paD D 1 (T.2 i - 48)) (by unfold stD; rw [if_neg (by omega), if_neg (by omega), if_neg (by omega), if_neg (by omega), if_pos (by omega), if_neg (by omega), if_pos (by omega)]) _ (fun x hx => by rw [u2_ne (by omega)]) (hc.pa (Or.inr rfl)); done)
      | (refine hn ?_; unfold stD; rw [if_pos (by omega), if_neg (by omega)]; done)
      | (refine hn ?_; unfold stD; rw [if_neg (by omega), if_pos (by omega), if_neg (by omega)]; done)
      | (refine hn ?_; unfold stD; rw [if_neg (by omega), if_neg (by omega), if_pos (by omega), if_neg (by omega)]; done)
      | (refine hn ?_; unfold stD; rw [if_neg (by omega), if_neg (by omega), if_neg (by omega), if_pos (by omega), if_neg (by omega)]; done)
      | (refine hn ?_; unfold stD; rw [if_neg (by omega), if_neg (by omega), if_neg (by omega), if_neg (by omega), if_neg (by omega)]; done)
      | (refine hn ?_; unfold stD; rw [if_neg (by omega), if_neg (by omega), if_neg (by omega), if_neg (by omega), if_pos (by omega), if_neg (by omega), if_neg (by omega)])
