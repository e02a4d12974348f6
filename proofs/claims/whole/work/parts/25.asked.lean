/-! the class's public methods: what is asked -/
noncomputable def aRev (G : Hi) (s : Se) (r what : Int) : Int := if 0 ≤ r ∧ r < hN G then (if what = 0 then hS G r else if what = 1 then hP G r 0 else if what = 2 then hP G r 1 else if what = 3 then (if tb s.2.1 r then 1 else 0) else -1) else -1
abbrev vLn (G : Hi) (r k : Int) : Prop := 0 ≤ r ∧ r < hN G ∧ 0 ≤ k ∧ k < hS G r
noncomputable def aLine (G : Hi) (s : Se) (r k what : Int) : Int := if vLn G r k then (if what = 0 then hL G r k else if what = 1 then pr G r 0 k else if what = 2 then pr G r 1 k else if what = 3 then ru G s r k else if what = 4 then (og G s r k).1 / 8 else if what = 5 then (og G s r k).1 % 8 else if what = 6 then (og G s r k).2 else -1) else -1
noncomputable def aGives (G : Hi) (s : Se) (rule r k : Int) : Int := if (0 ≤ rule ∧ rule < 4) ∧ vLn G r k then gv G s rule r k else -1
noncomputable def aBegun (G : Hi) (s : Se) (r f : Int) : Int := if (0 ≤ r ∧ r < hN G) ∧ (0 ≤ f ∧ f < hN G) then bs (fun k => (og G s r k).1 / 8 = f) (hS G r).toNat else -1
noncomputable def agF (G : Hi) (s : Se) (r k : Int) : Nat → Int → Int
  | 0, _ => -9
  | n + 1, l => if OL G s r l = k then l else agF G s r k n (l + 1)
noncomputable def aAge (G : Hi) (s : Se) (r k : Int) : Int := if (0 ≤ r ∧ r < hN G) ∧ 0 ≤ k then agF G s r k (hS G r).toNat 0 else -1
noncomputable def aLike (G : Hi) (s : Se) (r k o : Int) : Int := if vLn G r k ∧ (0 ≤ o ∧ o < hN G) then LF G s (og G s r k).1 o else -1
noncomputable def aCarr (G : Hi) (s : Se) (r k : Int) : Int := if vLn G r k then bs (fun q => LF G s (r * 8 + k) q ≠ 0) (hN G).toNat else -1
noncomputable def aKept (G : Hi) (s : Se) (r o : Int) : Int := if (0 ≤ r ∧ r < hN G) ∧ (0 ≤ o ∧ o < hN G) then cn (fun k => LF G s (r * 8 + k) o ≠ 0) (hS G r).toNat else -1
def aComm (G : Hi) (r w : Int) : Int := if (0 ≤ r ∧ r < hN G) ∧ (0 ≤ w ∧ w < 2) then cmA G r w else -1
noncomputable def aUns (G : Hi) (s : Se) (N : Sn) : Int := bs (fun r => SO G (tP s r) N N.1) (hN G).toNat
noncomputable def aCnt (G : Hi) (T : Tx) (s : Se) (U : Un) (N : Sn) (what : Int) : Int := if what = 0 then hN G else if what = 1 then s.1 else if what = 2 then s.2.1 else if what = 3 then s.2.2 else if what = 4 then SZs G (hN G).toNat else if what = 5 then OWs G s (hN G).toNat else if what = 6 then N.1 else if what = 7 then T.1 else if what = 8 then U.1 else -1
theorem q64 {s : Se} {μ : Mu} {R : Po} {r : Int} (hs : SeC s (μ 30)) (hok : SeOK s) (hb : 0 ≤ r ∧ r < 8) (hy : tb s.2.1 r → R (some (vI 1)) μ) (hn : ¬ tb s.2.1 r → R (some (vI 0)) μ) : Wp 64 0 [some (vR 30), some (vI r)] [] μ R := s64_30 hb (by rw [hs.2.1]; exact hok.2.1.1) (by rw [hs.2.1]; exact hy) (by rw [hs.2.1]; exact hn)
theorem q67 {s : Se} {μ : Mu} {R : Po} {r : Int} (hs : SeC s (μ 30)) (hok : SeOK s) (hb : 0 ≤ r ∧ r < 8) (hy : tb s.2.2 r → R (some (vI 1)) μ) (hn : ¬ tb s.2.2 r → R (some (vI 0)) μ) : Wp 67 0 [some (vR 30), some (vI r)] [] μ R := s67_30 hb (by rw [hs.2.2]; exact hok.2.2.1) (by rw [hs.2.2]; exact hy) (by rw [hs.2.2]; exact hn)
theorem k60 {s : Se} {μ : Mu} {R : Po} (hs : SeC s (μ 30)) (h : R (some (vI s.1)) μ) : Wp 60 0 [some (vR 30)] [] μ R := s60_30 (by rw [hs.1]; exact h)
theorem k63 {s : Se} {μ : Mu} {R : Po} (hs : SeC s (μ 30)) (h : R (some (vI s.2.1)) μ) : Wp 63 0 [some (vR 30)] [] μ R := s63_30 (by rw [hs.2.1]; exact h)
theorem k66 {s : Se} {μ : Mu} {R : Po} (hs : SeC s (μ 30)) (h : R (some (vI s.2.2)) μ) : Wp 66 0 [some (vR 30)] [] μ R := s66_30 (by rw [hs.2.2]; exact h)
theorem k70 {G : Hi} {N : Sn} {μ : Mu} {R : Po} (hs : RN G N μ) (h : R (some (vI N.1)) μ) : Wp 70 0 [some (vR 42)] [] μ R := s70 (by rw [hs.1]; exact h)
theorem k75 {T : Tx} {μ : Mu} {R : Po} (hs : RT T μ) (h : R (some (vI T.1)) μ) : Wp 75 0 [some (vR 1)] [] μ R := s75 (by rw [hs.1]; exact h)
theorem k1 {U : Un} {μ : Mu} {R : Po} (hs : RU U μ) (h : R (some (vI U.1)) μ) : Wp 1 0 [some (vR 40)] [] μ R := s1 (by rw [hs.1]; exact h)
theorem c91 {G : Hi} {T : Tx} {s : Se} {U : Un} {im : Int → Option Se} {N : Sn} {R : Po} {μ : Mu} (hrc : RC G T s U im N μ) {r what : Int} (h : R (some (vI (aRev G s r what))) μ) : Wp 91 0 [some (vR 0), some (vI r), some (vI what)] [] μ R := by
  have hh := hrc.1
  have hg := hh.1
  have hc := hg.1
  have hn := hc.1.n
  have hs := hh.2.1
  have hok := hh.2.2.1
  refine seg 4 (show Wp 44 0 [some (vR 8), some (vI r)] [] μ (fun rr μ' => Wp 91 8 [some (vR 0), some (vI r), some (vI what)] (rr.toList ++ []) μ' R) from ?_)
  refine g44 hc (fun b1 => ?_) (fun b1 => ?_)
  ·
    refine seg 1 (show (¬ (1 = 0) → Wp 91 13 [some (vR 0), some (vI r), some (vI what)] [] μ R) ∧ (1 = 0 → Wp 91 11 [some (vR 0), some (vI r), some (vI what)] [] μ R) from ⟨fun _ => ?_, fun z => absurd z (by decide)⟩)
    refine seg 2 (show (∀ j : Nat, j < 4 → what = 0 + (j : Int) → Wp 91 ([90, 44, 53, 63, 73].getD (1 + j) 0) [some (vR 0), some (vI r), some (vI what)] [] μ R) ∧ (what < 0 ∨ 3 < what → Wp 91 90 [some (vR 0), some (vI r), some (vI what)] [] μ R) from ⟨fun j hj c2 => ?_, fun c2 => ?_⟩)
    ·
      rcases (show j = 0 ∨ j = 1 ∨ j = 2 ∨ j = 3 by omega) with rfl | rfl | rfl | rfl
      ·
        refine seg 4 (show Wp 46 0 [some (vR 8), some (vI r)] [] μ (fun rr μ' => Wp 91 52 [some (vR 0), some (vI r), some (vI what)] (rr.toList ++ []) μ' R) from ?_)
        refine g46 hc (by omega) ?_
        refine seg 1 (show R (some (vI (hS G r))) μ from ?_)
        have e : aRev G s r what = hS G r := by
          unfold aRev
          repeat (first | rw [if_pos (by first | omega | assumption)] | rw [if_neg (by first | omega | assumption)])
        rw [← e]; exact h
      ·
        refine seg 5 (show Wp 47 0 [some (vR 8), some (vI r), some (vI 0)] [] μ (fun rr μ' => Wp 91 62 [some (vR 0), some (vI r), some (vI what)] (rr.toList ++ []) μ' R) from ?_)
        refine g47 hc (by omega) (by decide) ?_
        refine seg 1 (show R (some (vI (hP G r 0))) μ from ?_)
        have e : aRev G s r what = hP G r 0 := by
          unfold aRev
          repeat (first | rw [if_pos (by first | omega | assumption)] | rw [if_neg (by first | omega | assumption)])
        rw [← e]; exact h
      ·
        refine seg 5 (show Wp 47 0 [some (vR 8), some (vI r), some (vI 1)] [] μ (fun rr μ' => Wp 91 72 [some (vR 0), some (vI r), some (vI what)] (rr.toList ++ []) μ' R) from ?_)
        refine g47 hc (by omega) (by decide) ?_
        refine seg 1 (show R (some (vI (hP G r 1))) μ from ?_)
        have e : aRev G s r what = hP G r 1 := by
          unfold aRev
          repeat (first | rw [if_pos (by first | omega | assumption)] | rw [if_neg (by first | omega | assumption)])
        rw [← e]; exact h
      ·
        refine seg 4 (show Wp 64 0 [some (vR 30), some (vI r)] [] μ (fun rr μ' => Wp 91 81 [some (vR 0), some (vI r), some (vI what)] (rr.toList ++ []) μ' R) from ?_)
        refine q64 hs hok (by omega) (fun b3 => ?_) (fun b3 => ?_)
        ·
          refine seg 1 (show (1 = 0 → Wp 91 88 [some (vR 0), some (vI r), some (vI what)] [] μ R) ∧ (¬ (1 = 0) → Wp 91 84 [some (vR 0), some (vI r), some (vI what)] [] μ R) from ⟨fun z => absurd z (by decide), fun _ => ?_⟩)
          refine seg 3 (show R (some (vI 1)) μ from ?_)
          have e : aRev G s r what = 1 := by
            unfold aRev
            repeat (first | rw [if_pos (by first | omega | assumption)] | rw [if_neg (by first | omega | assumption)])
          rw [← e]; exact h
        ·
          refine seg 1 (show (0 = 0 → Wp 91 88 [some (vR 0), some (vI r), some (vI what)] [] μ R) ∧ (¬ (0 = 0) → Wp 91 84 [some (vR 0), some (vI r), some (vI what)] [] μ R) from ⟨fun _ => ?_, fun z => absurd z (by decide)⟩)
          refine seg 2 (show R (some (vI 0)) μ from ?_)
          have e : aRev G s r what = 0 := by
            unfold aRev
            repeat (first | rw [if_pos (by first | omega | assumption)] | rw [if_neg (by first | omega | assumption)])
          rw [← e]; exact h
    ·
      refine seg 2 (show R (some (vI (-1))) μ from ?_)
      have e : aRev G s r what = -1 := by
        unfold aRev
        repeat (first | rw [if_pos (by first | omega | assumption)] | rw [if_neg (by first | omega | assumption)])
      rw [← e]; exact h
  ·
    refine seg 1 (show (¬ (0 = 0) → Wp 91 13 [some (vR 0), some (vI r), some (vI what)] [] μ R) ∧ (0 = 0 → Wp 91 11 [some (vR 0), some (vI r), some (vI what)] [] μ R) from ⟨fun z => absurd z (by decide), fun _ => ?_⟩)
    refine seg 2 (show R (some (vI (-1))) μ from ?_)
    have e : aRev G s r what = -1 := by
      unfold aRev
      repeat (first | rw [if_pos (by first | omega | assumption)] | rw [if_neg (by first | omega | assumption)])
    rw [← e]; exact h
theorem c92 {G : Hi} {T : Tx} {s : Se} {U : Un} {im : Int → Option Se} {N : Sn} {R : Po} {μ : Mu} (hrc : RC G T s U im N μ) {r k what : Int} (h : R (some (vI (aLine G s r k what))) μ) : Wp 92 0 [some (vR 0), some (vI r), some (vI k), some (vI what)] [] μ R := by
  have hh := hrc.1
  have hg := hh.1
  have hc := hg.1
  have hn := hc.1.n
  have hs := hh.2.1
  have hok := hh.2.2.1
  refine seg 5 (show Wp 45 0 [some (vR 8), some (vI r), some (vI k)] [] μ (fun rr μ' => Wp 92 9 [some (vR 0), some (vI r), some (vI k), some (vI what)] (rr.toList ++ []) μ' R) from ?_)
  refine g45 hc (fun b1 => ?_) (fun b1 => ?_)
  ·
    refine seg 1 (show (¬ (1 = 0) → Wp 92 14 [some (vR 0), some (vI r), some (vI k), some (vI what)] [] μ R) ∧ (1 = 0 → Wp 92 12 [some (vR 0), some (vI r), some (vI k), some (vI what)] [] μ R) from ⟨fun _ => ?_, fun z => absurd z (by decide)⟩)
    refine seg 2 (show (∀ j : Nat, j < 7 → what = 0 + (j : Int) → Wp 92 ([134, 56, 66, 77, 88, 98, 111, 124].getD (1 + j) 0) [some (vR 0), some (vI r), some (vI k), some (vI what)] [] μ R) ∧ (what < 0 ∨ 6 < what → Wp 92 134 [some (vR 0), some (vI r), some (vI k), some (vI what)] [] μ R) from ⟨fun j hj c2 => ?_, fun c2 => ?_⟩)
    ·
      rcases (show j = 0 ∨ j = 1 ∨ j = 2 ∨ j = 3 ∨ j = 4 ∨ j = 5 ∨ j = 6 by omega) with rfl | rfl | rfl | rfl | rfl | rfl | rfl
      ·
        refine seg 5 (show Wp 48 0 [some (vR 8), some (vI r), some (vI k)] [] μ (fun rr μ' => Wp 92 65 [some (vR 0), some (vI r), some (vI k), some (vI what)] (rr.toList ++ []) μ' R) from ?_)
        refine g48 hc (by omega) (by omega) ?_
        refine seg 1 (show R (some (vI (hL G r k))) μ from ?_)
        have e : aLine G s r k what = hL G r k := by
          unfold aLine
          repeat (first | rw [if_pos (by first | omega | assumption)] | rw [if_neg (by first | omega | assumption)])
        rw [← e]; exact h
      ·
        refine seg 6 (show Wp 31 0 [some (vR 12), some (vI 0), some (vI r), some (vI k)] [] μ (fun rr μ' => Wp 92 76 [some (vR 0), some (vI r), some (vI k), some (vI what)] (rr.toList ++ []) μ' R) from ?_)
        refine s31 hg (by omega) (by have := hc.1.s (r := r) (by omega); omega) (by decide) ?_
        refine seg 1 (show R (some (vI (pr G r 0 k))) μ from ?_)
        have e : aLine G s r k what = pr G r 0 k := by
          unfold aLine
          repeat (first | rw [if_pos (by first | omega | assumption)] | rw [if_neg (by first | omega | assumption)])
        rw [← e]; exact h
      ·
        refine seg 6 (show Wp 31 0 [some (vR 12), some (vI 1), some (vI r), some (vI k)] [] μ (fun rr μ' => Wp 92 87 [some (vR 0), some (vI r), some (vI k), some (vI what)] (rr.toList ++ []) μ' R) from ?_)
        refine s31 hg (by omega) (by have := hc.1.s (r := r) (by omega); omega) (by decide) ?_
        refine seg 1 (show R (some (vI (pr G r 1 k))) μ from ?_)
        have e : aLine G s r k what = pr G r 1 k := by
          unfold aLine
          repeat (first | rw [if_pos (by first | omega | assumption)] | rw [if_neg (by first | omega | assumption)])
        rw [← e]; exact h
      ·
        refine seg 5 (show Wp 84 0 [some (vR 32), some (vI r), some (vI k)] [] μ (fun rr μ' => Wp 92 97 [some (vR 0), some (vI r), some (vI k), some (vI what)] (rr.toList ++ []) μ' R) from ?_)
        refine s84v_32 (by have := hc.1.s (r := r) (by omega); omega) ?_
        refine seg 1 (show R (some (vI (μ 35 (r * 8 + k)))) μ from ?_)
        have t := (hh.2.2.2.1 r k (by omega) (by omega) (by omega) (by omega)).2.2
        rw [t]
        have e : aLine G s r k what = ru G s r k := by
          unfold aLine
          repeat (first | rw [if_pos (by first | omega | assumption)] | rw [if_neg (by first | omega | assumption)])
        rw [← e]; exact h
      ·
        refine seg 5 (show Wp 82 0 [some (vR 32), some (vI r), some (vI k)] [] μ (fun rr μ' => Wp 92 107 [some (vR 0), some (vI r), some (vI k), some (vI what)] (rr.toList ++ []) μ' R) from ?_)
        refine o82 hh (by omega) (by omega) ?_
        refine seg 3 (show (0 ≤ ((og G s r k).1) ∧ 0 < 8) ∧ R (some (vI (((og G s r k).1) / 8))) μ from ⟨by first | omega | (have := og_lt hc.1 s (r := r) (k := k) (by omega) (by omega); omega), ?_⟩)
        have e : aLine G s r k what = ((og G s r k).1) / 8 := by
          unfold aLine
          repeat (first | rw [if_pos (by first | omega | assumption)] | rw [if_neg (by first | omega | assumption)])
        rw [← e]; exact h
      ·
        refine seg 5 (show Wp 82 0 [some (vR 32), some (vI r), some (vI k)] [] μ (fun rr μ' => Wp 92 120 [some (vR 0), some (vI r), some (vI k), some (vI what)] (rr.toList ++ []) μ' R) from ?_)
        refine o82 hh (by omega) (by omega) ?_
        refine seg 3 (show (0 ≤ ((og G s r k).1) ∧ 0 < 8) ∧ R (some (vI (((og G s r k).1) % 8))) μ from ⟨by first | omega | (have := og_lt hc.1 s (r := r) (k := k) (by omega) (by omega); omega), ?_⟩)
        have e : aLine G s r k what = ((og G s r k).1) % 8 := by
          unfold aLine
          repeat (first | rw [if_pos (by first | omega | assumption)] | rw [if_neg (by first | omega | assumption)])
        rw [← e]; exact h
      ·
        refine seg 5 (show Wp 83 0 [some (vR 32), some (vI r), some (vI k)] [] μ (fun rr μ' => Wp 92 133 [some (vR 0), some (vI r), some (vI k), some (vI what)] (rr.toList ++ []) μ' R) from ?_)
        refine s83v_32 (by have := hc.1.s (r := r) (by omega); omega) ?_
        refine seg 1 (show R (some (vI (μ 34 (r * 8 + k)))) μ from ?_)
        have t := (hh.2.2.2.1 r k (by omega) (by omega) (by omega) (by omega)).2.1
        rw [t]
        have e : aLine G s r k what = (og G s r k).2 := by
          unfold aLine
          repeat (first | rw [if_pos (by first | omega | assumption)] | rw [if_neg (by first | omega | assumption)])
        rw [← e]; exact h
    ·
      refine seg 2 (show R (some (vI (-1))) μ from ?_)
      have e : aLine G s r k what = -1 := by
        unfold aLine
        repeat (first | rw [if_pos (by first | omega | assumption)] | rw [if_neg (by first | omega | assumption)])
      rw [← e]; exact h
  ·
    refine seg 1 (show (¬ (0 = 0) → Wp 92 14 [some (vR 0), some (vI r), some (vI k), some (vI what)] [] μ R) ∧ (0 = 0 → Wp 92 12 [some (vR 0), some (vI r), some (vI k), some (vI what)] [] μ R) from ⟨fun z => absurd z (by decide), fun _ => ?_⟩)
    refine seg 2 (show R (some (vI (-1))) μ from ?_)
    have e : aLine G s r k what = -1 := by
      unfold aLine
      repeat (first | rw [if_pos (by first | omega | assumption)] | rw [if_neg (by first | omega | assumption)])
    rw [← e]; exact h
theorem c97 {G : Hi} {T : Tx} {s : Se} {U : Un} {im : Int → Option Se} {N : Sn} {R : Po} {μ : Mu} (hrc : RC G T s U im N μ) {rule r k : Int} (h : R (some (vI (aGives G s rule r k))) μ) : Wp 97 0 [some (vR 0), some (vI rule), some (vI r), some (vI k)] [] μ R := by
  have hh := hrc.1
  have hg := hh.1
  have hc := hg.1
  have hn := hc.1.n
  have hs := hh.2.1
  have hok := hh.2.2.1
  refine seg 2 (show (rule < 0 → Wp 97 21 [some (vR 0), some (vI rule), some (vI r), some (vI k)] [] μ R) ∧ (¬ (rule < 0) → Wp 97 4 [some (vR 0), some (vI rule), some (vI r), some (vI k)] [] μ R) from ⟨fun c1 => ?_, fun c1 => ?_⟩)
  ·
    refine seg 2 (show R (some (vI (-1))) μ from ?_)
    have e : aGives G s rule r k = -1 := by
      unfold aGives
      repeat (first | rw [if_pos (by first | omega | assumption)] | rw [if_neg (by first | omega | assumption)])
    rw [← e]; exact h
  ·
    refine seg 3 (show (4 ≤ rule → Wp 97 21 [some (vR 0), some (vI rule), some (vI r), some (vI k)] [] μ R) ∧ (¬ (4 ≤ rule) → Wp 97 9 [some (vR 0), some (vI rule), some (vI r), some (vI k)] [] μ R) from ⟨fun c2 => ?_, fun c2 => ?_⟩)
    ·
      refine seg 2 (show R (some (vI (-1))) μ from ?_)
      have e : aGives G s rule r k = -1 := by
        unfold aGives
        repeat (first | rw [if_pos (by first | omega | assumption)] | rw [if_neg (by first | omega | assumption)])
      rw [← e]; exact h
    ·
      refine seg 5 (show Wp 45 0 [some (vR 8), some (vI r), some (vI k)] [] μ (fun rr μ' => Wp 97 18 [some (vR 0), some (vI rule), some (vI r), some (vI k)] (rr.toList ++ []) μ' R) from ?_)
      refine g45 hc (fun b3 => ?_) (fun b3 => ?_)
      ·
        refine seg 1 (show (¬ (1 = 0) → Wp 97 23 [some (vR 0), some (vI rule), some (vI r), some (vI k)] [] μ R) ∧ (1 = 0 → Wp 97 21 [some (vR 0), some (vI rule), some (vI r), some (vI k)] [] μ R) from ⟨fun _ => ?_, fun z => absurd z (by decide)⟩)
        refine seg 8 (show Wp 33 0 [some (vR 12), some (vI rule), some (vI r), some (vI k), some (vR 30), none, none] [] μ (fun rr μ' => Wp 97 37 [some (vR 0), some (vI rule), some (vI r), some (vI k)] (rr.toList ++ []) μ' R) from ?_)
        refine s33_30 hg hs hok (by omega) (by have := hc.1.s (r := r) (by omega); omega) (by omega) ?_
        refine seg 1 (show R (some (vI (gv G s rule r k))) μ from ?_)
        have e : aGives G s rule r k = gv G s rule r k := by
          unfold aGives
          repeat (first | rw [if_pos (by first | omega | assumption)] | rw [if_neg (by first | omega | assumption)])
        rw [← e]; exact h
      ·
        refine seg 1 (show (¬ (0 = 0) → Wp 97 23 [some (vR 0), some (vI rule), some (vI r), some (vI k)] [] μ R) ∧ (0 = 0 → Wp 97 21 [some (vR 0), some (vI rule), some (vI r), some (vI k)] [] μ R) from ⟨fun z => absurd z (by decide), fun _ => ?_⟩)
        refine seg 2 (show R (some (vI (-1))) μ from ?_)
        have e : aGives G s rule r k = -1 := by
          unfold aGives
          repeat (first | rw [if_pos (by first | omega | assumption)] | rw [if_neg (by first | omega | assumption)])
        rw [← e]; exact h
theorem l98 {G : Hi} {s : Se} {R : Po} {μ : Mu} {r f : Int} (hh : RH G s μ) (hr : 0 ≤ r ∧ r < hN G) (hk : R (some (vI (bs (fun k => (og G s r k).1 / 8 = f) (hS G r).toNat))) μ) : ∀ (n k : Nat), hS G r - (k : Int) = n → Wp 98 29 [some (vR 0), some (vI r), some (vI f), some (vI (bs (fun k => (og G s r k).1 / 8 = f) k)), some (vI (k : Int))] [] μ R := by
  have hc := hh.1.1
  have hn := hc.1.n
  have hsr := hc.1.s hr
  intro n
  induction n with
  | zero =>
    intro k hm
    have hp : k < 8 → 1 * 2 ^ ((k : Int)).toNat ≤ (128 : Int) ∧ (0 : Int) ≤ 1 * 2 ^ ((k : Int)).toNat := fun z => pw_le (k := (k : Int)) (by omega)
    have hb := bs_nn (fun k => (og G s r k).1 / 8 = f) k
    refine seg 5 (show Wp 46 0 [some (vR 8), some (vI r)] [] μ (fun rr μ' => Wp 98 39 [some (vR 0), some (vI r), some (vI f), some (vI (bs (fun k => (og G s r k).1 / 8 = f) k)), some (vI (k : Int))] (rr.toList ++ [vI (k : Int)]) μ' R) from ?_)
    refine g46 hc (by omega) ?_
    refine seg 1 (show (hS G r ≤ (k : Int) → Wp 98 72 [some (vR 0), some (vI r), some (vI f), some (vI (bs (fun k => (og G s r k).1 / 8 = f) k)), some (vI (k : Int))] [] μ R) ∧ (¬ (hS G r ≤ (k : Int)) → Wp 98 42 [some (vR 0), some (vI r), some (vI f), some (vI (bs (fun k => (og G s r k).1 / 8 = f) k)), some (vI (k : Int))] [] μ R) from ⟨fun c1 => ?_, fun c1 => ?_⟩)
    ·
      refine seg 2 (show R (some (vI (bs (fun k => (og G s r k).1 / 8 = f) k))) μ from ?_)
      first | (exfalso; omega) | (have e : (hS G r).toNat = k := (by omega); rw [e] at hk; exact hk)
    ·
      refine seg 5 (show Wp 82 0 [some (vR 32), some (vI r), some (vI (k : Int))] [] μ (fun rr μ' => Wp 98 52 [some (vR 0), some (vI r), some (vI f), some (vI (bs (fun k => (og G s r k).1 / 8 = f) k)), some (vI (k : Int))] (rr.toList ++ []) μ' R) from ?_)
      refine o82 hh (by omega) (by omega) ?_
      refine seg 4 (show (0 ≤ ((og G s r (k : Int)).1) ∧ 0 < 8) ∧ (¬ (((og G s r (k : Int)).1) / 8 = f) → Wp 98 66 [some (vR 0), some (vI r), some (vI f), some (vI (bs (fun k => (og G s r k).1 / 8 = f) k)), some (vI (k : Int))] [] μ R) ∧ (((og G s r (k : Int)).1) / 8 = f → Wp 98 59 [some (vR 0), some (vI r), some (vI f), some (vI (bs (fun k => (og G s r k).1 / 8 = f) k)), some (vI (k : Int))] [] μ R) from ⟨by first | omega | (have := og_lt hc.1 s (r := r) (k := (k : Int)) (by omega) (by omega); omega), fun c2 => ?_, fun c2 => ?_⟩)
      ·
        refine seg 2 (show iR ((k : Int) + 1) ∧ Wp 98 29 [some (vR 0), some (vI r), some (vI f), some (vI (bs (fun k => (og G s r k).1 / 8 = f) k)), some (vI ((k : Int) + 1))] [] μ R from ⟨by first | omega | (have := og_lt hc.1 s (r := r) (k := (k : Int)) (by omega) (by omega); omega), ?_⟩)
        exfalso; omega
      ·
        refine seg 8 (show (0 ≤ 1 ∧ 0 ≤ (k : Int) ∧ (k : Int) < 31 ∧ 1 * 2 ^ ((k : Int) : Int).toNat ≤ 2147483647) ∧ (0 ≤ (bs (fun k => (og G s r k).1 / 8 = f) k) ∧ 0 ≤ (1 * 2 ^ ((k : Int) : Int).toNat)) ∧ iR ((k : Int) + 1) ∧ Wp 98 29 [some (vR 0), some (vI r), some (vI f), some (vI ((Int.toNat (bs (fun k => (og G s r k).1 / 8 = f) k) ||| Int.toNat (1 * 2 ^ ((k : Int) : Int).toNat) : Nat) : Int)), some (vI ((k : Int) + 1))] [] μ R from ⟨by first | omega | (have := og_lt hc.1 s (r := r) (k := (k : Int)) (by omega) (by omega); omega), by first | omega | (have := og_lt hc.1 s (r := r) (k := (k : Int)) (by omega) (by omega); omega), by first | omega | (have := og_lt hc.1 s (r := r) (k := (k : Int)) (by omega) (by omega); omega), ?_⟩)
        exfalso; omega
  | succ n ih =>
    intro k hm
    have hp : k < 8 → 1 * 2 ^ ((k : Int)).toNat ≤ (128 : Int) ∧ (0 : Int) ≤ 1 * 2 ^ ((k : Int)).toNat := fun z => pw_le (k := (k : Int)) (by omega)
    have hb := bs_nn (fun k => (og G s r k).1 / 8 = f) k
    refine seg 5 (show Wp 46 0 [some (vR 8), some (vI r)] [] μ (fun rr μ' => Wp 98 39 [some (vR 0), some (vI r), some (vI f), some (vI (bs (fun k => (og G s r k).1 / 8 = f) k)), some (vI (k : Int))] (rr.toList ++ [vI (k : Int)]) μ' R) from ?_)
    refine g46 hc (by omega) ?_
    refine seg 1 (show (hS G r ≤ (k : Int) → Wp 98 72 [some (vR 0), some (vI r), some (vI f), some (vI (bs (fun k => (og G s r k).1 / 8 = f) k)), some (vI (k : Int))] [] μ R) ∧ (¬ (hS G r ≤ (k : Int)) → Wp 98 42 [some (vR 0), some (vI r), some (vI f), some (vI (bs (fun k => (og G s r k).1 / 8 = f) k)), some (vI (k : Int))] [] μ R) from ⟨fun c3 => ?_, fun c3 => ?_⟩)
    ·
      refine seg 2 (show R (some (vI (bs (fun k => (og G s r k).1 / 8 = f) k))) μ from ?_)
      first | (exfalso; omega) | (have e : (hS G r).toNat = k := (by omega); rw [e] at hk; exact hk)
    ·
      refine seg 5 (show Wp 82 0 [some (vR 32), some (vI r), some (vI (k : Int))] [] μ (fun rr μ' => Wp 98 52 [some (vR 0), some (vI r), some (vI f), some (vI (bs (fun k => (og G s r k).1 / 8 = f) k)), some (vI (k : Int))] (rr.toList ++ []) μ' R) from ?_)
      refine o82 hh (by omega) (by omega) ?_
      refine seg 4 (show (0 ≤ ((og G s r (k : Int)).1) ∧ 0 < 8) ∧ (¬ (((og G s r (k : Int)).1) / 8 = f) → Wp 98 66 [some (vR 0), some (vI r), some (vI f), some (vI (bs (fun k => (og G s r k).1 / 8 = f) k)), some (vI (k : Int))] [] μ R) ∧ (((og G s r (k : Int)).1) / 8 = f → Wp 98 59 [some (vR 0), some (vI r), some (vI f), some (vI (bs (fun k => (og G s r k).1 / 8 = f) k)), some (vI (k : Int))] [] μ R) from ⟨by first | omega | (have := og_lt hc.1 s (r := r) (k := (k : Int)) (by omega) (by omega); omega), fun c4 => ?_, fun c4 => ?_⟩)
      ·
        refine seg 2 (show iR ((k : Int) + 1) ∧ Wp 98 29 [some (vR 0), some (vI r), some (vI f), some (vI (bs (fun k => (og G s r k).1 / 8 = f) k)), some (vI ((k : Int) + 1))] [] μ R from ⟨by first | omega | (have := og_lt hc.1 s (r := r) (k := (k : Int)) (by omega) (by omega); omega), ?_⟩)
        have := ih (k + 1) (by omega)
        first | rw [bs_y (P := (fun k => (og G s r k).1 / 8 = f)) (by assumption)] at this | rw [bs_n (P := (fun k => (og G s r k).1 / 8 = f)) (by assumption)] at this
        exact this
      ·
        refine seg 8 (show (0 ≤ 1 ∧ 0 ≤ (k : Int) ∧ (k : Int) < 31 ∧ 1 * 2 ^ ((k : Int) : Int).toNat ≤ 2147483647) ∧ (0 ≤ (bs (fun k => (og G s r k).1 / 8 = f) k) ∧ 0 ≤ (1 * 2 ^ ((k : Int) : Int).toNat)) ∧ iR ((k : Int) + 1) ∧ Wp 98 29 [some (vR 0), some (vI r), some (vI f), some (vI ((Int.toNat (bs (fun k => (og G s r k).1 / 8 = f) k) ||| Int.toNat (1 * 2 ^ ((k : Int) : Int).toNat) : Nat) : Int)), some (vI ((k : Int) + 1))] [] μ R from ⟨by first | omega | (have := og_lt hc.1 s (r := r) (k := (k : Int)) (by omega) (by omega); omega), by first | omega | (have := og_lt hc.1 s (r := r) (k := (k : Int)) (by omega) (by omega); omega), by first | omega | (have := og_lt hc.1 s (r := r) (k := (k : Int)) (by omega) (by omega); omega), ?_⟩)
        have := ih (k + 1) (by omega)
        first | rw [bs_y (P := (fun k => (og G s r k).1 / 8 = f)) (by assumption)] at this | rw [bs_n (P := (fun k => (og G s r k).1 / 8 = f)) (by assumption)] at this
        exact this
theorem c98 {G : Hi} {T : Tx} {s : Se} {U : Un} {im : Int → Option Se} {N : Sn} {R : Po} {μ : Mu} (hrc : RC G T s U im N μ) {r f : Int} (h : R (some (vI (aBegun G s r f))) μ) : Wp 98 0 [some (vR 0), some (vI r), some (vI f), none, none] [] μ R := by
  have hh := hrc.1
  have hg := hh.1
  have hc := hg.1
  have hn := hc.1.n
  have hs := hh.2.1
  have hok := hh.2.2.1
  refine seg 4 (show Wp 44 0 [some (vR 8), some (vI r)] [] μ (fun rr μ' => Wp 98 8 [some (vR 0), some (vI r), some (vI f), none, none] (rr.toList ++ []) μ' R) from ?_)
  refine g44 hc (fun b1 => ?_) (fun b1 => ?_)
  ·
    refine seg 1 (show (1 = 0 → Wp 98 22 [some (vR 0), some (vI r), some (vI f), none, none] [] μ R) ∧ (¬ (1 = 0) → Wp 98 11 [some (vR 0), some (vI r), some (vI f), none, none] [] μ R) from ⟨fun z => absurd z (by decide), fun _ => ?_⟩)
    refine seg 4 (show Wp 44 0 [some (vR 8), some (vI f)] [] μ (fun rr μ' => Wp 98 19 [some (vR 0), some (vI r), some (vI f), none, none] (rr.toList ++ []) μ' R) from ?_)
    refine g44 hc (fun b2 => ?_) (fun b2 => ?_)
    ·
      refine seg 1 (show (¬ (1 = 0) → Wp 98 24 [some (vR 0), some (vI r), some (vI f), none, none] [] μ R) ∧ (1 = 0 → Wp 98 22 [some (vR 0), some (vI r), some (vI f), none, none] [] μ R) from ⟨fun _ => ?_, fun z => absurd z (by decide)⟩)
      refine seg 4 (show Wp 98 29 [some (vR 0), some (vI r), some (vI f), some (vI 0), some (vI 0)] [] μ R from ?_)
      have hsr := hc.1.s (r := r) (by omega)
      unfold aBegun at h
      rw [if_pos (by omega)] at h
      exact l98 hh (by omega) h (hS G r).toNat 0 (by omega)
    ·
      refine seg 1 (show (¬ (0 = 0) → Wp 98 24 [some (vR 0), some (vI r), some (vI f), none, none] [] μ R) ∧ (0 = 0 → Wp 98 22 [some (vR 0), some (vI r), some (vI f), none, none] [] μ R) from ⟨fun z => absurd z (by decide), fun _ => ?_⟩)
      refine seg 2 (show R (some (vI (-1))) μ from ?_)
      have e : aBegun G s r f = -1 := by
        unfold aBegun
        repeat (first | rw [if_pos (by first | omega | assumption)] | rw [if_neg (by first | omega | assumption)])
      rw [← e]; exact h
  ·
    refine seg 1 (show (0 = 0 → Wp 98 22 [some (vR 0), some (vI r), some (vI f), none, none] [] μ R) ∧ (¬ (0 = 0) → Wp 98 11 [some (vR 0), some (vI r), some (vI f), none, none] [] μ R) from ⟨fun _ => ?_, fun z => absurd z (by decide)⟩)
    refine seg 2 (show R (some (vI (-1))) μ from ?_)
    have e : aBegun G s r f = -1 := by
      unfold aBegun
      repeat (first | rw [if_pos (by first | omega | assumption)] | rw [if_neg (by first | omega | assumption)])
    rw [← e]; exact h
theorem s112 {G : Hi} {s : Se} {R : Po} {μ : Mu} {r l : Int} (hh : RH G s μ) (hr : 0 ≤ r ∧ r < hN G) (hl : 0 ≤ l ∧ l < hS G r) (hk : R (some (vI (OL G s r l))) μ) : Wp 112 0 [some (vR 0), some (vI r), some (vI l), none, none, none, none] [] μ R := by
  have hsr := hh.1.1.1.s hr
  refine seg 5 (show Wp 82 0 [some (vR 32), some (vI r), some (vI l)] [] μ (fun rr μ' => Wp 112 9 [some (vR 0), some (vI r), some (vI l), none, none, none, none] (rr.toList ++ []) μ' R) from ?_)
  refine o82 hh (by omega) (by omega) ?_
  refine seg 5 (show Wp 112 16 [some (vR 0), some (vI r), some (vI l), some (vI ((og G s r l).1)), some (vI 0), some (vI 0), none] [] μ R from ?_)
  exact l112 hh hr hk (hS G r).toNat 0 none (by omega)
theorem l99 {G : Hi} {s : Se} {R : Po} {μ : Mu} {r k : Int} (hh : RH G s μ) (hr : 0 ≤ r ∧ r < hN G) (hk : R (some (vI (agF G s r k (hS G r).toNat 0))) μ) : ∀ (n : Nat) (l : Int), hS G r - l = n → 0 ≤ l → agF G s r k (hS G r).toNat 0 = agF G s r k n l → Wp 99 19 [some (vR 0), some (vI r), some (vI k), some (vI l)] [] μ R := by
  have hc := hh.1.1
  have hn := hc.1.n
  have hsr := hc.1.s hr
  intro n
  induction n with
  | zero =>
    intro l hm h0 he
    refine seg 5 (show Wp 46 0 [some (vR 8), some (vI r)] [] μ (fun rr μ' => Wp 99 28 [some (vR 0), some (vI r), some (vI k), some (vI l)] (rr.toList ++ [vI l]) μ' R) from ?_)
    refine g46 hc (by omega) ?_
    refine seg 1 (show (hS G r ≤ l → Wp 99 49 [some (vR 0), some (vI r), some (vI k), some (vI l)] [] μ R) ∧ (¬ (hS G r ≤ l) → Wp 99 31 [some (vR 0), some (vI r), some (vI k), some (vI l)] [] μ R) from ⟨fun c1 => ?_, fun c1 => ?_⟩)
    ·
      refine seg 2 (show R (some (vI (-9))) μ from ?_)
      first | (exfalso; omega) | (rw [he] at hk; exact hk)
    ·
      refine seg 4 (show Wp 112 0 [some (vR 0), some (vI r), some (vI l), none, none, none, none] [] μ (fun rr μ' => Wp 99 37 [some (vR 0), some (vI r), some (vI k), some (vI l)] (rr.toList ++ []) μ' R) from ?_)
      refine s112 hh (by omega) (by omega) ?_
      refine seg 2 (show (¬ (OL G s r l = k) → Wp 99 43 [some (vR 0), some (vI r), some (vI k), some (vI l)] [] μ R) ∧ (OL G s r l = k → Wp 99 41 [some (vR 0), some (vI r), some (vI k), some (vI l)] [] μ R) from ⟨fun c2 => ?_, fun c2 => ?_⟩)
      ·
        refine seg 2 (show iR (l + 1) ∧ Wp 99 19 [some (vR 0), some (vI r), some (vI k), some (vI (l + 1))] [] μ R from ⟨by omega, ?_⟩)
        exfalso; omega
      ·
        refine seg 2 (show R (some (vI l)) μ from ?_)
        first | (exfalso; omega) | (rw [he] at hk; exact hk)
  | succ n ih =>
    intro l hm h0 he
    refine seg 5 (show Wp 46 0 [some (vR 8), some (vI r)] [] μ (fun rr μ' => Wp 99 28 [some (vR 0), some (vI r), some (vI k), some (vI l)] (rr.toList ++ [vI l]) μ' R) from ?_)
    refine g46 hc (by omega) ?_
    refine seg 1 (show (hS G r ≤ l → Wp 99 49 [some (vR 0), some (vI r), some (vI k), some (vI l)] [] μ R) ∧ (¬ (hS G r ≤ l) → Wp 99 31 [some (vR 0), some (vI r), some (vI k), some (vI l)] [] μ R) from ⟨fun c3 => ?_, fun c3 => ?_⟩)
    ·
      refine seg 2 (show R (some (vI (-9))) μ from ?_)
      first | (exfalso; omega) | (rw [he, agF, if_pos (by assumption)] at hk; exact hk)
    ·
      refine seg 4 (show Wp 112 0 [some (vR 0), some (vI r), some (vI l), none, none, none, none] [] μ (fun rr μ' => Wp 99 37 [some (vR 0), some (vI r), some (vI k), some (vI l)] (rr.toList ++ []) μ' R) from ?_)
      refine s112 hh (by omega) (by omega) ?_
      refine seg 2 (show (¬ (OL G s r l = k) → Wp 99 43 [some (vR 0), some (vI r), some (vI k), some (vI l)] [] μ R) ∧ (OL G s r l = k → Wp 99 41 [some (vR 0), some (vI r), some (vI k), some (vI l)] [] μ R) from ⟨fun c4 => ?_, fun c4 => ?_⟩)
      ·
        refine seg 2 (show iR (l + 1) ∧ Wp 99 19 [some (vR 0), some (vI r), some (vI k), some (vI (l + 1))] [] μ R from ⟨by omega, ?_⟩)
        rw [agF, if_neg (by assumption)] at he
        exact ih (l + 1) (by omega) (by omega) he
      ·
        refine seg 2 (show R (some (vI l)) μ from ?_)
        first | (exfalso; omega) | (rw [he, agF, if_pos (by assumption)] at hk; exact hk)
theorem c99 {G : Hi} {T : Tx} {s : Se} {U : Un} {im : Int → Option Se} {N : Sn} {R : Po} {μ : Mu} (hrc : RC G T s U im N μ) {r k : Int} (h : R (some (vI (aAge G s r k))) μ) : Wp 99 0 [some (vR 0), some (vI r), some (vI k), none] [] μ R := by
  have hh := hrc.1
  have hg := hh.1
  have hc := hg.1
  have hn := hc.1.n
  have hs := hh.2.1
  have hok := hh.2.2.1
  refine seg 4 (show Wp 44 0 [some (vR 8), some (vI r)] [] μ (fun rr μ' => Wp 99 8 [some (vR 0), some (vI r), some (vI k), none] (rr.toList ++ []) μ' R) from ?_)
  refine g44 hc (fun b1 => ?_) (fun b1 => ?_)
  ·
    refine seg 1 (show (1 = 0 → Wp 99 15 [some (vR 0), some (vI r), some (vI k), none] [] μ R) ∧ (¬ (1 = 0) → Wp 99 11 [some (vR 0), some (vI r), some (vI k), none] [] μ R) from ⟨fun z => absurd z (by decide), fun _ => ?_⟩)
    refine seg 2 (show (0 ≤ k → Wp 99 17 [some (vR 0), some (vI r), some (vI k), none] [] μ R) ∧ (¬ (0 ≤ k) → Wp 99 15 [some (vR 0), some (vI r), some (vI k), none] [] μ R) from ⟨fun c2 => ?_, fun c2 => ?_⟩)
    ·
      refine seg 2 (show Wp 99 19 [some (vR 0), some (vI r), some (vI k), some (vI 0)] [] μ R from ?_)
      have hsr := hc.1.s (r := r) (by omega)
      unfold aAge at h
      rw [if_pos (by omega)] at h
      exact l99 hh (by omega) h (hS G r).toNat 0 (by omega) (by decide) rfl
    ·
      refine seg 2 (show R (some (vI (-1))) μ from ?_)
      have e : aAge G s r k = -1 := by
        unfold aAge
        repeat (first | rw [if_pos (by first | omega | assumption)] | rw [if_neg (by first | omega | assumption)])
      rw [← e]; exact h
  ·
    refine seg 1 (show (0 = 0 → Wp 99 15 [some (vR 0), some (vI r), some (vI k), none] [] μ R) ∧ (¬ (0 = 0) → Wp 99 11 [some (vR 0), some (vI r), some (vI k), none] [] μ R) from ⟨fun _ => ?_, fun z => absurd z (by decide)⟩)
    refine seg 2 (show R (some (vI (-1))) μ from ?_)
    have e : aAge G s r k = -1 := by
      unfold aAge
      repeat (first | rw [if_pos (by first | omega | assumption)] | rw [if_neg (by first | omega | assumption)])
    rw [← e]; exact h
theorem c100 {G : Hi} {T : Tx} {s : Se} {U : Un} {im : Int → Option Se} {N : Sn} {R : Po} {μ : Mu} (hrc : RC G T s U im N μ) {r k o : Int} (h : R (some (vI (aLike G s r k o))) μ) : Wp 100 0 [some (vR 0), some (vI r), some (vI k), some (vI o)] [] μ R := by
  have hh := hrc.1
  have hg := hh.1
  have hc := hg.1
  have hn := hc.1.n
  have hs := hh.2.1
  have hok := hh.2.2.1
  refine seg 5 (show Wp 45 0 [some (vR 8), some (vI r), some (vI k)] [] μ (fun rr μ' => Wp 100 9 [some (vR 0), some (vI r), some (vI k), some (vI o)] (rr.toList ++ []) μ' R) from ?_)
  refine g45 hc (fun b1 => ?_) (fun b1 => ?_)
  ·
    refine seg 1 (show (1 = 0 → Wp 100 23 [some (vR 0), some (vI r), some (vI k), some (vI o)] [] μ R) ∧ (¬ (1 = 0) → Wp 100 12 [some (vR 0), some (vI r), some (vI k), some (vI o)] [] μ R) from ⟨fun z => absurd z (by decide), fun _ => ?_⟩)
    refine seg 4 (show Wp 44 0 [some (vR 8), some (vI o)] [] μ (fun rr μ' => Wp 100 20 [some (vR 0), some (vI r), some (vI k), some (vI o)] (rr.toList ++ []) μ' R) from ?_)
    refine g44 hc (fun b2 => ?_) (fun b2 => ?_)
    ·
      refine seg 1 (show (¬ (1 = 0) → Wp 100 25 [some (vR 0), some (vI r), some (vI k), some (vI o)] [] μ R) ∧ (1 = 0 → Wp 100 23 [some (vR 0), some (vI r), some (vI k), some (vI o)] [] μ R) from ⟨fun _ => ?_, fun z => absurd z (by decide)⟩)
      refine seg 6 (show Wp 82 0 [some (vR 32), some (vI r), some (vI k)] [] μ (fun rr μ' => Wp 100 35 [some (vR 0), some (vI r), some (vI k), some (vI o)] (rr.toList ++ [vR 0]) μ' R) from ?_)
      refine o82 hh (by omega) (by omega) ?_
      refine seg 2 (show Wp 111 0 [some (vR 0), some (vI ((og G s r k).1)), some (vI o), none, none] [] μ (fun rr μ' => Wp 100 39 [some (vR 0), some (vI r), some (vI k), some (vI o)] (rr.toList ++ []) μ' R) from ?_)
      refine s111 hh (by omega) ?_
      refine seg 1 (show R (some (vI (LF G s ((og G s r k).1) o))) μ from ?_)
      have e : aLike G s r k o = LF G s ((og G s r k).1) o := by
        unfold aLike
        repeat (first | rw [if_pos (by first | omega | assumption)] | rw [if_neg (by first | omega | assumption)])
      rw [← e]; exact h
    ·
      refine seg 1 (show (¬ (0 = 0) → Wp 100 25 [some (vR 0), some (vI r), some (vI k), some (vI o)] [] μ R) ∧ (0 = 0 → Wp 100 23 [some (vR 0), some (vI r), some (vI k), some (vI o)] [] μ R) from ⟨fun z => absurd z (by decide), fun _ => ?_⟩)
      refine seg 2 (show R (some (vI (-1))) μ from ?_)
      have e : aLike G s r k o = -1 := by
        unfold aLike
        repeat (first | rw [if_pos (by first | omega | assumption)] | rw [if_neg (by first | omega | assumption)])
      rw [← e]; exact h
  ·
    refine seg 1 (show (0 = 0 → Wp 100 23 [some (vR 0), some (vI r), some (vI k), some (vI o)] [] μ R) ∧ (¬ (0 = 0) → Wp 100 12 [some (vR 0), some (vI r), some (vI k), some (vI o)] [] μ R) from ⟨fun _ => ?_, fun z => absurd z (by decide)⟩)
    refine seg 2 (show R (some (vI (-1))) μ from ?_)
    have e : aLike G s r k o = -1 := by
      unfold aLike
      repeat (first | rw [if_pos (by first | omega | assumption)] | rw [if_neg (by first | omega | assumption)])
    rw [← e]; exact h
theorem l101 {G : Hi} {s : Se} {R : Po} {μ : Mu} {r k : Int} (hh : RH G s μ) (hr : vLn G r k) (hk : R (some (vI (bs (fun q => LF G s (r * 8 + k) q ≠ 0) (hN G).toNat))) μ) : ∀ (n q : Nat), hN G - (q : Int) = n → Wp 101 19 [some (vR 0), some (vI r), some (vI k), some (vI (bs (fun q => LF G s (r * 8 + k) q ≠ 0) q)), some (vI (q : Int))] [] μ R := by
  have hc := hh.1.1
  have hn := hc.1.n
  have hsr := hc.1.s (r := r) (by omega)
  intro n
  induction n with
  | zero =>
    intro q hm
    have hp : q < 8 → 1 * 2 ^ ((q : Int)).toNat ≤ (128 : Int) ∧ (0 : Int) ≤ 1 * 2 ^ ((q : Int)).toNat := fun z => pw_le (k := (q : Int)) (by omega)
    have hb := bs_nn (fun q => LF G s (r * 8 + k) q ≠ 0) q
    refine seg 4 (show Wp 43 0 [some (vR 8)] [] μ (fun rr μ' => Wp 101 28 [some (vR 0), some (vI r), some (vI k), some (vI (bs (fun q => LF G s (r * 8 + k) q ≠ 0) q)), some (vI (q : Int))] (rr.toList ++ [vI (q : Int)]) μ' R) from ?_)
    refine g43 hc ?_
    refine seg 1 (show (hN G ≤ (q : Int) → Wp 101 58 [some (vR 0), some (vI r), some (vI k), some (vI (bs (fun q => LF G s (r * 8 + k) q ≠ 0) q)), some (vI (q : Int))] [] μ R) ∧ (¬ (hN G ≤ (q : Int)) → Wp 101 31 [some (vR 0), some (vI r), some (vI k), some (vI (bs (fun q => LF G s (r * 8 + k) q ≠ 0) q)), some (vI (q : Int))] [] μ R) from ⟨fun c1 => ?_, fun c1 => ?_⟩)
    ·
      refine seg 2 (show R (some (vI (bs (fun q => LF G s (r * 8 + k) q ≠ 0) q))) μ from ?_)
      first | (exfalso; omega) | (have e : (hN G).toNat = q := (by omega); rw [e] at hk; exact hk)
    ·
      refine seg 4 (show Wp 114 0 [some (vI r), some (vI k)] [] μ (fun rr μ' => Wp 101 37 [some (vR 0), some (vI r), some (vI k), some (vI (bs (fun q => LF G s (r * 8 + k) q ≠ 0) q)), some (vI (q : Int))] (rr.toList ++ [vR 0]) μ' R) from ?_)
      refine s114 (by omega) ?_
      refine seg 2 (show Wp 111 0 [some (vR 0), some (vI (r * 8 + k)), some (vI (q : Int)), none, none] [] μ (fun rr μ' => Wp 101 42 [some (vR 0), some (vI r), some (vI k), some (vI (bs (fun q => LF G s (r * 8 + k) q ≠ 0) q)), some (vI (q : Int))] (rr.toList ++ []) μ' R) from ?_)
      refine s111 hh (by omega) ?_
      refine seg 1 (show (LF G s (r * 8 + k) (q : Int) = 0 → Wp 101 52 [some (vR 0), some (vI r), some (vI k), some (vI (bs (fun q => LF G s (r * 8 + k) q ≠ 0) q)), some (vI (q : Int))] [] μ R) ∧ (¬ (LF G s (r * 8 + k) (q : Int) = 0) → Wp 101 45 [some (vR 0), some (vI r), some (vI k), some (vI (bs (fun q => LF G s (r * 8 + k) q ≠ 0) q)), some (vI (q : Int))] [] μ R) from ⟨fun c2 => ?_, fun c2 => ?_⟩)
      ·
        refine seg 2 (show iR ((q : Int) + 1) ∧ Wp 101 19 [some (vR 0), some (vI r), some (vI k), some (vI (bs (fun q => LF G s (r * 8 + k) q ≠ 0) q)), some (vI ((q : Int) + 1))] [] μ R from ⟨by omega, ?_⟩)
        exfalso; omega
      ·
        refine seg 8 (show (0 ≤ 1 ∧ 0 ≤ (q : Int) ∧ (q : Int) < 31 ∧ 1 * 2 ^ ((q : Int) : Int).toNat ≤ 2147483647) ∧ (0 ≤ (bs (fun q => LF G s (r * 8 + k) q ≠ 0) q) ∧ 0 ≤ (1 * 2 ^ ((q : Int) : Int).toNat)) ∧ iR ((q : Int) + 1) ∧ Wp 101 19 [some (vR 0), some (vI r), some (vI k), some (vI ((Int.toNat (bs (fun q => LF G s (r * 8 + k) q ≠ 0) q) ||| Int.toNat (1 * 2 ^ ((q : Int) : Int).toNat) : Nat) : Int)), some (vI ((q : Int) + 1))] [] μ R from ⟨by omega, by omega, by omega, ?_⟩)
        exfalso; omega
  | succ n ih =>
    intro q hm
    have hp : q < 8 → 1 * 2 ^ ((q : Int)).toNat ≤ (128 : Int) ∧ (0 : Int) ≤ 1 * 2 ^ ((q : Int)).toNat := fun z => pw_le (k := (q : Int)) (by omega)
    have hb := bs_nn (fun q => LF G s (r * 8 + k) q ≠ 0) q
    refine seg 4 (show Wp 43 0 [some (vR 8)] [] μ (fun rr μ' => Wp 101 28 [some (vR 0), some (vI r), some (vI k), some (vI (bs (fun q => LF G s (r * 8 + k) q ≠ 0) q)), some (vI (q : Int))] (rr.toList ++ [vI (q : Int)]) μ' R) from ?_)
    refine g43 hc ?_
    refine seg 1 (show (hN G ≤ (q : Int) → Wp 101 58 [some (vR 0), some (vI r), some (vI k), some (vI (bs (fun q => LF G s (r * 8 + k) q ≠ 0) q)), some (vI (q : Int))] [] μ R) ∧ (¬ (hN G ≤ (q : Int)) → Wp 101 31 [some (vR 0), some (vI r), some (vI k), some (vI (bs (fun q => LF G s (r * 8 + k) q ≠ 0) q)), some (vI (q : Int))] [] μ R) from ⟨fun c3 => ?_, fun c3 => ?_⟩)
    ·
      refine seg 2 (show R (some (vI (bs (fun q => LF G s (r * 8 + k) q ≠ 0) q))) μ from ?_)
      first | (exfalso; omega) | (have e : (hN G).toNat = q := (by omega); rw [e] at hk; exact hk)
    ·
      refine seg 4 (show Wp 114 0 [some (vI r), some (vI k)] [] μ (fun rr μ' => Wp 101 37 [some (vR 0), some (vI r), some (vI k), some (vI (bs (fun q => LF G s (r * 8 + k) q ≠ 0) q)), some (vI (q : Int))] (rr.toList ++ [vR 0]) μ' R) from ?_)
      refine s114 (by omega) ?_
      refine seg 2 (show Wp 111 0 [some (vR 0), some (vI (r * 8 + k)), some (vI (q : Int)), none, none] [] μ (fun rr μ' => Wp 101 42 [some (vR 0), some (vI r), some (vI k), some (vI (bs (fun q => LF G s (r * 8 + k) q ≠ 0) q)), some (vI (q : Int))] (rr.toList ++ []) μ' R) from ?_)
      refine s111 hh (by omega) ?_
      refine seg 1 (show (LF G s (r * 8 + k) (q : Int) = 0 → Wp 101 52 [some (vR 0), some (vI r), some (vI k), some (vI (bs (fun q => LF G s (r * 8 + k) q ≠ 0) q)), some (vI (q : Int))] [] μ R) ∧ (¬ (LF G s (r * 8 + k) (q : Int) = 0) → Wp 101 45 [some (vR 0), some (vI r), some (vI k), some (vI (bs (fun q => LF G s (r * 8 + k) q ≠ 0) q)), some (vI (q : Int))] [] μ R) from ⟨fun c4 => ?_, fun c4 => ?_⟩)
      ·
        refine seg 2 (show iR ((q : Int) + 1) ∧ Wp 101 19 [some (vR 0), some (vI r), some (vI k), some (vI (bs (fun q => LF G s (r * 8 + k) q ≠ 0) q)), some (vI ((q : Int) + 1))] [] μ R from ⟨by omega, ?_⟩)
        have := ih (q + 1) (by omega)
        first | rw [bs_y (P := (fun q => LF G s (r * 8 + k) q ≠ 0)) (by assumption)] at this | rw [bs_n (P := (fun q => LF G s (r * 8 + k) q ≠ 0)) (by intro z; exact z (by assumption))] at this
        exact this
      ·
        refine seg 8 (show (0 ≤ 1 ∧ 0 ≤ (q : Int) ∧ (q : Int) < 31 ∧ 1 * 2 ^ ((q : Int) : Int).toNat ≤ 2147483647) ∧ (0 ≤ (bs (fun q => LF G s (r * 8 + k) q ≠ 0) q) ∧ 0 ≤ (1 * 2 ^ ((q : Int) : Int).toNat)) ∧ iR ((q : Int) + 1) ∧ Wp 101 19 [some (vR 0), some (vI r), some (vI k), some (vI ((Int.toNat (bs (fun q => LF G s (r * 8 + k) q ≠ 0) q) ||| Int.toNat (1 * 2 ^ ((q : Int) : Int).toNat) : Nat) : Int)), some (vI ((q : Int) + 1))] [] μ R from ⟨by omega, by omega, by omega, ?_⟩)
        have := ih (q + 1) (by omega)
        first | rw [bs_y (P := (fun q => LF G s (r * 8 + k) q ≠ 0)) (by assumption)] at this | rw [bs_n (P := (fun q => LF G s (r * 8 + k) q ≠ 0)) (by intro z; exact z (by assumption))] at this
        exact this
theorem c101 {G : Hi} {T : Tx} {s : Se} {U : Un} {im : Int → Option Se} {N : Sn} {R : Po} {μ : Mu} (hrc : RC G T s U im N μ) {r k : Int} (h : R (some (vI (aCarr G s r k))) μ) : Wp 101 0 [some (vR 0), some (vI r), some (vI k), none, none] [] μ R := by
  have hh := hrc.1
  have hg := hh.1
  have hc := hg.1
  have hn := hc.1.n
  have hs := hh.2.1
  have hok := hh.2.2.1
  refine seg 5 (show Wp 45 0 [some (vR 8), some (vI r), some (vI k)] [] μ (fun rr μ' => Wp 101 9 [some (vR 0), some (vI r), some (vI k), none, none] (rr.toList ++ []) μ' R) from ?_)
  refine g45 hc (fun b1 => ?_) (fun b1 => ?_)
  ·
    refine seg 1 (show (¬ (1 = 0) → Wp 101 14 [some (vR 0), some (vI r), some (vI k), none, none] [] μ R) ∧ (1 = 0 → Wp 101 12 [some (vR 0), some (vI r), some (vI k), none, none] [] μ R) from ⟨fun _ => ?_, fun z => absurd z (by decide)⟩)
    refine seg 4 (show Wp 101 19 [some (vR 0), some (vI r), some (vI k), some (vI 0), some (vI 0)] [] μ R from ?_)
    unfold aCarr at h
    rw [if_pos (by omega)] at h
    exact l101 hh (by omega) h (hN G).toNat 0 (by omega)
  ·
    refine seg 1 (show (¬ (0 = 0) → Wp 101 14 [some (vR 0), some (vI r), some (vI k), none, none] [] μ R) ∧ (0 = 0 → Wp 101 12 [some (vR 0), some (vI r), some (vI k), none, none] [] μ R) from ⟨fun z => absurd z (by decide), fun _ => ?_⟩)
    refine seg 2 (show R (some (vI (-1))) μ from ?_)
    have e : aCarr G s r k = -1 := by
      unfold aCarr
      repeat (first | rw [if_pos (by first | omega | assumption)] | rw [if_neg (by first | omega | assumption)])
    rw [← e]; exact h
theorem l102 {G : Hi} {s : Se} {R : Po} {μ : Mu} {r o : Int} (hh : RH G s μ) (hr : 0 ≤ r ∧ r < hN G) (ho : 0 ≤ o ∧ o < hN G) (hk : R (some (vI (cn (fun k => LF G s (r * 8 + k) o ≠ 0) (hS G r).toNat))) μ) : ∀ (n k : Nat), hS G r - (k : Int) = n → Wp 102 29 [some (vR 0), some (vI r), some (vI o), some (vI (cn (fun k => LF G s (r * 8 + k) o ≠ 0) k)), some (vI (k : Int))] [] μ R := by
  have hc := hh.1.1
  have hn := hc.1.n
  have hsr := hc.1.s (r := r) (by omega)
  intro n
  induction n with
  | zero =>
    intro k hm
    have hb := cn_rg (fun k => LF G s (r * 8 + k) o ≠ 0) k
    refine seg 5 (show Wp 46 0 [some (vR 8), some (vI r)] [] μ (fun rr μ' => Wp 102 39 [some (vR 0), some (vI r), some (vI o), some (vI (cn (fun k => LF G s (r * 8 + k) o ≠ 0) k)), some (vI (k : Int))] (rr.toList ++ [vI (k : Int)]) μ' R) from ?_)
    refine g46 hc (by omega) ?_
    refine seg 1 (show (hS G r ≤ (k : Int) → Wp 102 65 [some (vR 0), some (vI r), some (vI o), some (vI (cn (fun k => LF G s (r * 8 + k) o ≠ 0) k)), some (vI (k : Int))] [] μ R) ∧ (¬ (hS G r ≤ (k : Int)) → Wp 102 42 [some (vR 0), some (vI r), some (vI o), some (vI (cn (fun k => LF G s (r * 8 + k) o ≠ 0) k)), some (vI (k : Int))] [] μ R) from ⟨fun c1 => ?_, fun c1 => ?_⟩)
    ·
      refine seg 2 (show R (some (vI (cn (fun k => LF G s (r * 8 + k) o ≠ 0) k))) μ from ?_)
      first | (exfalso; omega) | (have e : (hS G r).toNat = k := (by omega); rw [e] at hk; exact hk)
    ·
      refine seg 4 (show Wp 114 0 [some (vI r), some (vI (k : Int))] [] μ (fun rr μ' => Wp 102 49 [some (vR 0), some (vI r), some (vI o), some (vI (cn (fun k => LF G s (r * 8 + k) o ≠ 0) k)), some (vI (k : Int))] (rr.toList ++ [vR 0]) μ' R) from ?_)
      refine s114 (by omega) ?_
      refine seg 2 (show Wp 111 0 [some (vR 0), some (vI (r * 8 + (k : Int))), some (vI o), none, none] [] μ (fun rr μ' => Wp 102 53 [some (vR 0), some (vI r), some (vI o), some (vI (cn (fun k => LF G s (r * 8 + k) o ≠ 0) k)), some (vI (k : Int))] (rr.toList ++ []) μ' R) from ?_)
      refine s111 hh (by omega) ?_
      refine seg 1 (show (LF G s (r * 8 + (k : Int)) o = 0 → Wp 102 59 [some (vR 0), some (vI r), some (vI o), some (vI (cn (fun k => LF G s (r * 8 + k) o ≠ 0) k)), some (vI (k : Int))] [] μ R) ∧ (¬ (LF G s (r * 8 + (k : Int)) o = 0) → Wp 102 56 [some (vR 0), some (vI r), some (vI o), some (vI (cn (fun k => LF G s (r * 8 + k) o ≠ 0) k)), some (vI (k : Int))] [] μ R) from ⟨fun c2 => ?_, fun c2 => ?_⟩)
      ·
        refine seg 2 (show iR ((k : Int) + 1) ∧ Wp 102 29 [some (vR 0), some (vI r), some (vI o), some (vI (cn (fun k => LF G s (r * 8 + k) o ≠ 0) k)), some (vI ((k : Int) + 1))] [] μ R from ⟨by omega, ?_⟩)
        exfalso; omega
      ·
        refine seg 3 (show iR ((cn (fun k => LF G s (r * 8 + k) o ≠ 0) k) + 1) ∧ iR ((k : Int) + 1) ∧ Wp 102 29 [some (vR 0), some (vI r), some (vI o), some (vI ((cn (fun k => LF G s (r * 8 + k) o ≠ 0) k) + 1)), some (vI ((k : Int) + 1))] [] μ R from ⟨by omega, by omega, ?_⟩)
        exfalso; omega
  | succ n ih =>
    intro k hm
    have hb := cn_rg (fun k => LF G s (r * 8 + k) o ≠ 0) k
    refine seg 5 (show Wp 46 0 [some (vR 8), some (vI r)] [] μ (fun rr μ' => Wp 102 39 [some (vR 0), some (vI r), some (vI o), some (vI (cn (fun k => LF G s (r * 8 + k) o ≠ 0) k)), some (vI (k : Int))] (rr.toList ++ [vI (k : Int)]) μ' R) from ?_)
    refine g46 hc (by omega) ?_
    refine seg 1 (show (hS G r ≤ (k : Int) → Wp 102 65 [some (vR 0), some (vI r), some (vI o), some (vI (cn (fun k => LF G s (r * 8 + k) o ≠ 0) k)), some (vI (k : Int))] [] μ R) ∧ (¬ (hS G r ≤ (k : Int)) → Wp 102 42 [some (vR 0), some (vI r), some (vI o), some (vI (cn (fun k => LF G s (r * 8 + k) o ≠ 0) k)), some (vI (k : Int))] [] μ R) from ⟨fun c3 => ?_, fun c3 => ?_⟩)
    ·
      refine seg 2 (show R (some (vI (cn (fun k => LF G s (r * 8 + k) o ≠ 0) k))) μ from ?_)
      first | (exfalso; omega) | (have e : (hS G r).toNat = k := (by omega); rw [e] at hk; exact hk)
    ·
      refine seg 4 (show Wp 114 0 [some (vI r), some (vI (k : Int))] [] μ (fun rr μ' => Wp 102 49 [some (vR 0), some (vI r), some (vI o), some (vI (cn (fun k => LF G s (r * 8 + k) o ≠ 0) k)), some (vI (k : Int))] (rr.toList ++ [vR 0]) μ' R) from ?_)
      refine s114 (by omega) ?_
      refine seg 2 (show Wp 111 0 [some (vR 0), some (vI (r * 8 + (k : Int))), some (vI o), none, none] [] μ (fun rr μ' => Wp 102 53 [some (vR 0), some (vI r), some (vI o), some (vI (cn (fun k => LF G s (r * 8 + k) o ≠ 0) k)), some (vI (k : Int))] (rr.toList ++ []) μ' R) from ?_)
      refine s111 hh (by omega) ?_
      refine seg 1 (show (LF G s (r * 8 + (k : Int)) o = 0 → Wp 102 59 [some (vR 0), some (vI r), some (vI o), some (vI (cn (fun k => LF G s (r * 8 + k) o ≠ 0) k)), some (vI (k : Int))] [] μ R) ∧ (¬ (LF G s (r * 8 + (k : Int)) o = 0) → Wp 102 56 [some (vR 0), some (vI r), some (vI o), some (vI (cn (fun k => LF G s (r * 8 + k) o ≠ 0) k)), some (vI (k : Int))] [] μ R) from ⟨fun c4 => ?_, fun c4 => ?_⟩)
      ·
        refine seg 2 (show iR ((k : Int) + 1) ∧ Wp 102 29 [some (vR 0), some (vI r), some (vI o), some (vI (cn (fun k => LF G s (r * 8 + k) o ≠ 0) k)), some (vI ((k : Int) + 1))] [] μ R from ⟨by omega, ?_⟩)
        have := ih (k + 1) (by omega)
        first | rw [cn_y (P := (fun k => LF G s (r * 8 + k) o ≠ 0)) (by assumption)] at this | rw [cn_n (P := (fun k => LF G s (r * 8 + k) o ≠ 0)) (by intro z; exact z (by assumption))] at this
        exact this
      ·
        refine seg 3 (show iR ((cn (fun k => LF G s (r * 8 + k) o ≠ 0) k) + 1) ∧ iR ((k : Int) + 1) ∧ Wp 102 29 [some (vR 0), some (vI r), some (vI o), some (vI ((cn (fun k => LF G s (r * 8 + k) o ≠ 0) k) + 1)), some (vI ((k : Int) + 1))] [] μ R from ⟨by omega, by omega, ?_⟩)
        have := ih (k + 1) (by omega)
        first | rw [cn_y (P := (fun k => LF G s (r * 8 + k) o ≠ 0)) (by assumption)] at this | rw [cn_n (P := (fun k => LF G s (r * 8 + k) o ≠ 0)) (by intro z; exact z (by assumption))] at this
        exact this
theorem c102 {G : Hi} {T : Tx} {s : Se} {U : Un} {im : Int → Option Se} {N : Sn} {R : Po} {μ : Mu} (hrc : RC G T s U im N μ) {r o : Int} (h : R (some (vI (aKept G s r o))) μ) : Wp 102 0 [some (vR 0), some (vI r), some (vI o), none, none] [] μ R := by
  have hh := hrc.1
  have hg := hh.1
  have hc := hg.1
  have hn := hc.1.n
  have hs := hh.2.1
  have hok := hh.2.2.1
  refine seg 4 (show Wp 44 0 [some (vR 8), some (vI r)] [] μ (fun rr μ' => Wp 102 8 [some (vR 0), some (vI r), some (vI o), none, none] (rr.toList ++ []) μ' R) from ?_)
  refine g44 hc (fun b1 => ?_) (fun b1 => ?_)
  ·
    refine seg 1 (show (1 = 0 → Wp 102 22 [some (vR 0), some (vI r), some (vI o), none, none] [] μ R) ∧ (¬ (1 = 0) → Wp 102 11 [some (vR 0), some (vI r), some (vI o), none, none] [] μ R) from ⟨fun z => absurd z (by decide), fun _ => ?_⟩)
    refine seg 4 (show Wp 44 0 [some (vR 8), some (vI o)] [] μ (fun rr μ' => Wp 102 19 [some (vR 0), some (vI r), some (vI o), none, none] (rr.toList ++ []) μ' R) from ?_)
    refine g44 hc (fun b2 => ?_) (fun b2 => ?_)
    ·
      refine seg 1 (show (¬ (1 = 0) → Wp 102 24 [some (vR 0), some (vI r), some (vI o), none, none] [] μ R) ∧ (1 = 0 → Wp 102 22 [some (vR 0), some (vI r), some (vI o), none, none] [] μ R) from ⟨fun _ => ?_, fun z => absurd z (by decide)⟩)
      refine seg 4 (show Wp 102 29 [some (vR 0), some (vI r), some (vI o), some (vI 0), some (vI 0)] [] μ R from ?_)
      have hsr := hc.1.s (r := r) (by omega)
      unfold aKept at h
      rw [if_pos (by omega)] at h
      exact l102 hh (by omega) (by omega) h (hS G r).toNat 0 (by omega)
    ·
      refine seg 1 (show (¬ (0 = 0) → Wp 102 24 [some (vR 0), some (vI r), some (vI o), none, none] [] μ R) ∧ (0 = 0 → Wp 102 22 [some (vR 0), some (vI r), some (vI o), none, none] [] μ R) from ⟨fun z => absurd z (by decide), fun _ => ?_⟩)
      refine seg 2 (show R (some (vI (-1))) μ from ?_)
      have e : aKept G s r o = -1 := by
        unfold aKept
        repeat (first | rw [if_pos (by first | omega | assumption)] | rw [if_neg (by first | omega | assumption)])
      rw [← e]; exact h
  ·
    refine seg 1 (show (0 = 0 → Wp 102 22 [some (vR 0), some (vI r), some (vI o), none, none] [] μ R) ∧ (¬ (0 = 0) → Wp 102 11 [some (vR 0), some (vI r), some (vI o), none, none] [] μ R) from ⟨fun _ => ?_, fun z => absurd z (by decide)⟩)
    refine seg 2 (show R (some (vI (-1))) μ from ?_)
    have e : aKept G s r o = -1 := by
      unfold aKept
      repeat (first | rw [if_pos (by first | omega | assumption)] | rw [if_neg (by first | omega | assumption)])
    rw [← e]; exact h
theorem c103 {G : Hi} {T : Tx} {s : Se} {U : Un} {im : Int → Option Se} {N : Sn} {R : Po} {μ : Mu} (hrc : RC G T s U im N μ) {r w : Int} (h : R (some (vI (aComm G r w))) μ) : Wp 103 0 [some (vR 0), some (vI r), some (vI w)] [] μ R := by
  have hh := hrc.1
  have hg := hh.1
  have hc := hg.1
  have hn := hc.1.n
  have hs := hh.2.1
  have hok := hh.2.2.1
  refine seg 4 (show Wp 44 0 [some (vR 8), some (vI r)] [] μ (fun rr μ' => Wp 103 8 [some (vR 0), some (vI r), some (vI w)] (rr.toList ++ []) μ' R) from ?_)
  refine g44 hc (fun b1 => ?_) (fun b1 => ?_)
  ·
    refine seg 1 (show (1 = 0 → Wp 103 20 [some (vR 0), some (vI r), some (vI w)] [] μ R) ∧ (¬ (1 = 0) → Wp 103 11 [some (vR 0), some (vI r), some (vI w)] [] μ R) from ⟨fun z => absurd z (by decide), fun _ => ?_⟩)
    refine seg 2 (show (w < 0 → Wp 103 20 [some (vR 0), some (vI r), some (vI w)] [] μ R) ∧ (¬ (w < 0) → Wp 103 15 [some (vR 0), some (vI r), some (vI w)] [] μ R) from ⟨fun c2 => ?_, fun c2 => ?_⟩)
    ·
      refine seg 2 (show R (some (vI (-1))) μ from ?_)
      have e : aComm G r w = -1 := by
        unfold aComm
        repeat (first | rw [if_pos (by first | omega | assumption)] | rw [if_neg (by first | omega | assumption)])
      rw [← e]; exact h
    ·
      refine seg 3 (show (w < 2 → Wp 103 22 [some (vR 0), some (vI r), some (vI w)] [] μ R) ∧ (¬ (w < 2) → Wp 103 20 [some (vR 0), some (vI r), some (vI w)] [] μ R) from ⟨fun c3 => ?_, fun c3 => ?_⟩)
      ·
        refine seg 5 (show Wp 32 0 [some (vR 12), some (vI w), some (vI r)] [] μ (fun rr μ' => Wp 103 31 [some (vR 0), some (vI r), some (vI w)] (rr.toList ++ []) μ' R) from ?_)
        refine s32 hg (by omega) (by omega) ?_
        refine seg 1 (show R (some (vI (cmA G r w))) μ from ?_)
        have e : aComm G r w = cmA G r w := by
          unfold aComm
          repeat (first | rw [if_pos (by first | omega | assumption)] | rw [if_neg (by first | omega | assumption)])
        rw [← e]; exact h
      ·
        refine seg 2 (show R (some (vI (-1))) μ from ?_)
        have e : aComm G r w = -1 := by
          unfold aComm
          repeat (first | rw [if_pos (by first | omega | assumption)] | rw [if_neg (by first | omega | assumption)])
        rw [← e]; exact h
  ·
    refine seg 1 (show (0 = 0 → Wp 103 20 [some (vR 0), some (vI r), some (vI w)] [] μ R) ∧ (¬ (0 = 0) → Wp 103 11 [some (vR 0), some (vI r), some (vI w)] [] μ R) from ⟨fun _ => ?_, fun z => absurd z (by decide)⟩)
    refine seg 2 (show R (some (vI (-1))) μ from ?_)
    have e : aComm G r w = -1 := by
      unfold aComm
      repeat (first | rw [if_pos (by first | omega | assumption)] | rw [if_neg (by first | omega | assumption)])
    rw [← e]; exact h
theorem l49 {G : Hi} {R : Po} {μ : Mu} (hc : GC G μ) (hk : R (some (vI (SZs G (hN G).toNat))) μ) : ∀ (n r : Nat), hN G - (r : Int) = n → Wp 49 4 [some (vR 8), some (vI (SZs G r)), some (vI (r : Int))] [] μ R := by
  have hn := hc.1.n
  have h80 := hc.2.1
  intro n
  induction n with
  | zero =>
    intro r hm
    have hz := SZs_rg hc.1 r (by omega)
    refine seg 4 (show (μ 8 0 ≤ (r : Int) → Wp 49 33 [some (vR 8), some (vI (SZs G r)), some (vI (r : Int))] [] μ R) ∧ (¬ (μ 8 0 ≤ (r : Int)) → Wp 49 12 [some (vR 8), some (vI (SZs G r)), some (vI (r : Int))] [] μ R) from ⟨fun c1 => ?_, fun c1 => ?_⟩)
    ·
      refine seg 2 (show R (some (vI (SZs G r))) μ from ?_)
      first | (exfalso; omega) | (have e : (hN G).toNat = r := (by omega); rw [e] at hk; exact hk)
    ·
      refine seg 3 (show (8 ≤ (r : Int) → Wp 49 33 [some (vR 8), some (vI (SZs G r)), some (vI (r : Int))] [] μ R) ∧ (¬ (8 ≤ (r : Int)) → Wp 49 18 [some (vR 8), some (vI (SZs G r)), some (vI (r : Int))] [] μ R) from ⟨fun c2 => ?_, fun c2 => ?_⟩)
      ·
        refine seg 2 (show R (some (vI (SZs G r))) μ from ?_)
        first | (exfalso; omega) | (have e : (hN G).toNat = r := (by omega); rw [e] at hk; exact hk)
      ·
        refine seg 9 (show (0 ≤ (r : Int) ∧ (r : Int) < 8) ∧ iR ((SZs G r) + (μ 10 (r : Int))) ∧ iR ((r : Int) + 1) ∧ Wp 49 4 [some (vR 8), some (vI ((SZs G r) + (μ 10 (r : Int)))), some (vI ((r : Int) + 1))] [] μ R from ⟨by omega, by omega, by omega, ?_⟩)
        exfalso; omega
  | succ n ih =>
    intro r hm
    have hz := SZs_rg hc.1 r (by omega)
    have h10 := (hc.2.2 (r : Int) (by omega) (by omega)).1
    have hsr := hc.1.s (r := (r : Int)) (by omega)
    refine seg 4 (show (μ 8 0 ≤ (r : Int) → Wp 49 33 [some (vR 8), some (vI (SZs G r)), some (vI (r : Int))] [] μ R) ∧ (¬ (μ 8 0 ≤ (r : Int)) → Wp 49 12 [some (vR 8), some (vI (SZs G r)), some (vI (r : Int))] [] μ R) from ⟨fun c3 => ?_, fun c3 => ?_⟩)
    ·
      refine seg 2 (show R (some (vI (SZs G r))) μ from ?_)
      first | (exfalso; omega) | (have e : (hN G).toNat = r := (by omega); rw [e] at hk; exact hk)
    ·
      refine seg 3 (show (8 ≤ (r : Int) → Wp 49 33 [some (vR 8), some (vI (SZs G r)), some (vI (r : Int))] [] μ R) ∧ (¬ (8 ≤ (r : Int)) → Wp 49 18 [some (vR 8), some (vI (SZs G r)), some (vI (r : Int))] [] μ R) from ⟨fun c4 => ?_, fun c4 => ?_⟩)
      ·
        refine seg 2 (show R (some (vI (SZs G r))) μ from ?_)
        first | (exfalso; omega) | (have e : (hN G).toNat = r := (by omega); rw [e] at hk; exact hk)
      ·
        refine seg 9 (show (0 ≤ (r : Int) ∧ (r : Int) < 8) ∧ iR ((SZs G r) + (μ 10 (r : Int))) ∧ iR ((r : Int) + 1) ∧ Wp 49 4 [some (vR 8), some (vI ((SZs G r) + (μ 10 (r : Int)))), some (vI ((r : Int) + 1))] [] μ R from ⟨by omega, by omega, by omega, ?_⟩)
        have := ih (r + 1) (by omega)
        rw [SZs, ← h10] at this
        exact this
theorem s49 {G : Hi} {R : Po} {μ : Mu} (hc : GC G μ) (hk : R (some (vI (SZs G (hN G).toNat))) μ) : Wp 49 0 [some (vR 8), none, none] [] μ R := by
  have hn := hc.1.n
  refine seg 4 (show Wp 49 4 [some (vR 8), some (vI 0), some (vI 0)] [] μ R from ?_)
  exact l49 hc hk (hN G).toNat 0 (by omega)
theorem l113a {G : Hi} {s : Se} {R : Po} {μ : Mu} (hh : RH G s μ) {r : Nat} (hr : (r : Int) < hN G) (hk : ∀ o3 : Option PV, Wp 113 55 [some (vR 0), some (vI (OWs G s (r + 1))), some (vI (r : Int)), o3] [] μ R) : ∀ (n k : Nat), hS G (r : Int) - (k : Int) = n → Wp 113 17 [some (vR 0), some (vI (OWs G s r + OW G s (r : Int) k)), some (vI (r : Int)), some (vI (k : Int))] [] μ R := by
  have hc := hh.1.1
  have hn := hc.1.n
  have hsr := hc.1.s (r := (r : Int)) (by omega)
  have hw := OWs_rg hc.1 s r (by omega)
  intro n
  induction n with
  | zero =>
    intro k hm
    have hb := cn_rg (fun k => (og G s (r : Int) k).1 = (r : Int) * 8 + k) k
    have hb : 0 ≤ OW G s (r : Int) k ∧ OW G s (r : Int) k ≤ k := hb
    refine seg 5 (show Wp 46 0 [some (vR 8), some (vI (r : Int))] [] μ (fun rr μ' => Wp 113 26 [some (vR 0), some (vI (OWs G s r + OW G s (r : Int) k)), some (vI (r : Int)), some (vI (k : Int))] (rr.toList ++ [vI (k : Int)]) μ' R) from ?_)
    refine g46 hc (by omega) ?_
    refine seg 1 (show (hS G (r : Int) ≤ (k : Int) → Wp 113 55 [some (vR 0), some (vI (OWs G s r + OW G s (r : Int) k)), some (vI (r : Int)), some (vI (k : Int))] [] μ R) ∧ (¬ (hS G (r : Int) ≤ (k : Int)) → Wp 113 29 [some (vR 0), some (vI (OWs G s r + OW G s (r : Int) k)), some (vI (r : Int)), some (vI (k : Int))] [] μ R) from ⟨fun c1 => ?_, fun c1 => ?_⟩)
    ·
      first | (exfalso; omega) | (have := hk (some (vI (k : Int))); rw [OWs, show (hS G (r : Int)).toNat = k by omega] at this; exact this)
    ·
      refine seg 5 (show Wp 82 0 [some (vR 32), some (vI (r : Int)), some (vI (k : Int))] [] μ (fun rr μ' => Wp 113 38 [some (vR 0), some (vI (OWs G s r + OW G s (r : Int) k)), some (vI (r : Int)), some (vI (k : Int))] (rr.toList ++ []) μ' R) from ?_)
      refine o82 hh (by omega) (by omega) ?_
      refine seg 3 (show Wp 114 0 [some (vI (r : Int)), some (vI (k : Int))] [] μ (fun rr μ' => Wp 113 43 [some (vR 0), some (vI (OWs G s r + OW G s (r : Int) k)), some (vI (r : Int)), some (vI (k : Int))] (rr.toList ++ [vI ((og G s (r : Int) (k : Int)).1)]) μ' R) from ?_)
      refine s114 (by omega) ?_
      refine seg 1 (show (¬ ((og G s (r : Int) (k : Int)).1 = (r : Int) * 8 + (k : Int)) → Wp 113 49 [some (vR 0), some (vI (OWs G s r + OW G s (r : Int) k)), some (vI (r : Int)), some (vI (k : Int))] [] μ R) ∧ ((og G s (r : Int) (k : Int)).1 = (r : Int) * 8 + (k : Int) → Wp 113 46 [some (vR 0), some (vI (OWs G s r + OW G s (r : Int) k)), some (vI (r : Int)), some (vI (k : Int))] [] μ R) from ⟨fun c2 => ?_, fun c2 => ?_⟩)
      ·
        refine seg 2 (show iR ((k : Int) + 1) ∧ Wp 113 17 [some (vR 0), some (vI (OWs G s r + OW G s (r : Int) k)), some (vI (r : Int)), some (vI ((k : Int) + 1))] [] μ R from ⟨by omega, ?_⟩)
        exfalso; omega
      ·
        refine seg 3 (show iR ((OWs G s r + OW G s (r : Int) k) + 1) ∧ iR ((k : Int) + 1) ∧ Wp 113 17 [some (vR 0), some (vI ((OWs G s r + OW G s (r : Int) k) + 1)), some (vI (r : Int)), some (vI ((k : Int) + 1))] [] μ R from ⟨by omega, by omega, ?_⟩)
        exfalso; omega
  | succ n ih =>
    intro k hm
    have hb := cn_rg (fun k => (og G s (r : Int) k).1 = (r : Int) * 8 + k) k
    have hb : 0 ≤ OW G s (r : Int) k ∧ OW G s (r : Int) k ≤ k := hb
    refine seg 5 (show Wp 46 0 [some (vR 8), some (vI (r : Int))] [] μ (fun rr μ' => Wp 113 26 [some (vR 0), some (vI (OWs G s r + OW G s (r : Int) k)), some (vI (r : Int)), some (vI (k : Int))] (rr.toList ++ [vI (k : Int)]) μ' R) from ?_)
    refine g46 hc (by omega) ?_
    refine seg 1 (show (hS G (r : Int) ≤ (k : Int) → Wp 113 55 [some (vR 0), some (vI (OWs G s r + OW G s (r : Int) k)), some (vI (r : Int)), some (vI (k : Int))] [] μ R) ∧ (¬ (hS G (r : Int) ≤ (k : Int)) → Wp 113 29 [some (vR 0), some (vI (OWs G s r + OW G s (r : Int) k)), some (vI (r : Int)), some (vI (k : Int))] [] μ R) from ⟨fun c3 => ?_, fun c3 => ?_⟩)
    ·
      first | (exfalso; omega) | (have := hk (some (vI (k : Int))); rw [OWs, show (hS G (r : Int)).toNat = k by omega] at this; exact this)
    ·
      refine seg 5 (show Wp 82 0 [some (vR 32), some (vI (r : Int)), some (vI (k : Int))] [] μ (fun rr μ' => Wp 113 38 [some (vR 0), some (vI (OWs G s r + OW G s (r : Int) k)), some (vI (r : Int)), some (vI (k : Int))] (rr.toList ++ []) μ' R) from ?_)
      refine o82 hh (by omega) (by omega) ?_
      refine seg 3 (show Wp 114 0 [some (vI (r : Int)), some (vI (k : Int))] [] μ (fun rr μ' => Wp 113 43 [some (vR 0), some (vI (OWs G s r + OW G s (r : Int) k)), some (vI (r : Int)), some (vI (k : Int))] (rr.toList ++ [vI ((og G s (r : Int) (k : Int)).1)]) μ' R) from ?_)
      refine s114 (by omega) ?_
      refine seg 1 (show (¬ ((og G s (r : Int) (k : Int)).1 = (r : Int) * 8 + (k : Int)) → Wp 113 49 [some (vR 0), some (vI (OWs G s r + OW G s (r : Int) k)), some (vI (r : Int)), some (vI (k : Int))] [] μ R) ∧ ((og G s (r : Int) (k : Int)).1 = (r : Int) * 8 + (k : Int) → Wp 113 46 [some (vR 0), some (vI (OWs G s r + OW G s (r : Int) k)), some (vI (r : Int)), some (vI (k : Int))] [] μ R) from ⟨fun c4 => ?_, fun c4 => ?_⟩)
      ·
        refine seg 2 (show iR ((k : Int) + 1) ∧ Wp 113 17 [some (vR 0), some (vI (OWs G s r + OW G s (r : Int) k)), some (vI (r : Int)), some (vI ((k : Int) + 1))] [] μ R from ⟨by omega, ?_⟩)
        have := ih (k + 1) (by omega)
        unfold OW at this
        first | rw [cn_y (P := (fun k => (og G s (r : Int) k).1 = (r : Int) * 8 + k)) (by assumption)] at this | rw [cn_n (P := (fun k => (og G s (r : Int) k).1 = (r : Int) * 8 + k)) (by assumption)] at this
        first | exact this | (rw [← Int.add_assoc] at this; exact this)
      ·
        refine seg 3 (show iR ((OWs G s r + OW G s (r : Int) k) + 1) ∧ iR ((k : Int) + 1) ∧ Wp 113 17 [some (vR 0), some (vI ((OWs G s r + OW G s (r : Int) k) + 1)), some (vI (r : Int)), some (vI ((k : Int) + 1))] [] μ R from ⟨by omega, by omega, ?_⟩)
        have := ih (k + 1) (by omega)
        unfold OW at this
        first | rw [cn_y (P := (fun k => (og G s (r : Int) k).1 = (r : Int) * 8 + k)) (by assumption)] at this | rw [cn_n (P := (fun k => (og G s (r : Int) k).1 = (r : Int) * 8 + k)) (by assumption)] at this
        first | exact this | (rw [← Int.add_assoc] at this; exact this)
theorem l113 {G : Hi} {s : Se} {R : Po} {μ : Mu} (hh : RH G s μ) (hk : R (some (vI (OWs G s (hN G).toNat))) μ) : ∀ (n r : Nat) (o3 : Option PV), hN G - (r : Int) = n → Wp 113 4 [some (vR 0), some (vI (OWs G s r)), some (vI (r : Int)), o3] [] μ R := by
  have hc := hh.1.1
  have hn := hc.1.n
  intro n
  induction n with
  | zero =>
    intro r o3 hm
    refine seg 4 (show Wp 43 0 [some (vR 8)] [] μ (fun rr μ' => Wp 113 12 [some (vR 0), some (vI (OWs G s r)), some (vI (r : Int)), o3] (rr.toList ++ [vI (r : Int)]) μ' R) from ?_)
    refine g43 hc ?_
    refine seg 1 (show (hN G ≤ (r : Int) → Wp 113 61 [some (vR 0), some (vI (OWs G s r)), some (vI (r : Int)), o3] [] μ R) ∧ (¬ (hN G ≤ (r : Int)) → Wp 113 15 [some (vR 0), some (vI (OWs G s r)), some (vI (r : Int)), o3] [] μ R) from ⟨fun c1 => ?_, fun c1 => ?_⟩)
    ·
      refine seg 2 (show R (some (vI (OWs G s r))) μ from ?_)
      first | (exfalso; omega) | (have e : (hN G).toNat = r := (by omega); rw [e] at hk; exact hk)
    ·
      refine seg 2 (show Wp 113 17 [some (vR 0), some (vI (OWs G s r)), some (vI (r : Int)), some (vI 0)] [] μ R from ?_)
      exfalso; omega
  | succ n ih =>
    intro r o3 hm
    refine seg 4 (show Wp 43 0 [some (vR 8)] [] μ (fun rr μ' => Wp 113 12 [some (vR 0), some (vI (OWs G s r)), some (vI (r : Int)), o3] (rr.toList ++ [vI (r : Int)]) μ' R) from ?_)
    refine g43 hc ?_
    refine seg 1 (show (hN G ≤ (r : Int) → Wp 113 61 [some (vR 0), some (vI (OWs G s r)), some (vI (r : Int)), o3] [] μ R) ∧ (¬ (hN G ≤ (r : Int)) → Wp 113 15 [some (vR 0), some (vI (OWs G s r)), some (vI (r : Int)), o3] [] μ R) from ⟨fun c2 => ?_, fun c2 => ?_⟩)
    ·
      refine seg 2 (show R (some (vI (OWs G s r))) μ from ?_)
      first | (exfalso; omega) | (have e : (hN G).toNat = r := (by omega); rw [e] at hk; exact hk)
    ·
      refine seg 2 (show Wp 113 17 [some (vR 0), some (vI (OWs G s r)), some (vI (r : Int)), some (vI 0)] [] μ R from ?_)
      have hsr := hc.1.s (r := (r : Int)) (by omega)
      have := l113a (R := R) hh (r := r) (by omega) (fun o3 => ?_) (hS G (r : Int)).toNat 0 (by omega)
      · rw [show OWs G s r + OW G s (r : Int) 0 = OWs G s r from Int.add_zero _] at this
        exact this
      refine seg 2 (show iR ((r : Int) + 1) ∧ Wp 113 4 [some (vR 0), some (vI (OWs G s (r + 1))), some (vI ((r : Int) + 1)), o3] [] μ R from ⟨by omega, ?_⟩)
      exact ih (r + 1) _ (by omega)
theorem s113 {G : Hi} {s : Se} {R : Po} {μ : Mu} (hh : RH G s μ) (hk : R (some (vI (OWs G s (hN G).toNat))) μ) : Wp 113 0 [some (vR 0), none, none, none] [] μ R := by
  have hn := hh.1.1.1.n
  refine seg 4 (show Wp 113 4 [some (vR 0), some (vI 0), some (vI 0), none] [] μ R from ?_)
  exact l113 hh hk (hN G).toNat 0 none (by omega)
theorem c109 {G : Hi} {T : Tx} {s : Se} {U : Un} {im : Int → Option Se} {N : Sn} {R : Po} {μ : Mu} (hrc : RC G T s U im N μ) {what : Int} (h : R (some (vI (aCnt G T s U N what))) μ) : Wp 109 0 [some (vR 0), some (vI what)] [] μ R := by
  have hh := hrc.1
  have hg := hh.1
  have hc := hg.1
  have hn := hc.1.n
  have hs := hh.2.1
  have hok := hh.2.2.1
  refine seg 2 (show (∀ j : Nat, j < 9 → what = 0 + (j : Int) → Wp 109 ([121, 52, 60, 68, 76, 84, 92, 97, 105, 113].getD (1 + j) 0) [some (vR 0), some (vI what)] [] μ R) ∧ (what < 0 ∨ 8 < what → Wp 109 121 [some (vR 0), some (vI what)] [] μ R) from ⟨fun j hj c1 => ?_, fun c1 => ?_⟩)
  ·
    rcases (show j = 0 ∨ j = 1 ∨ j = 2 ∨ j = 3 ∨ j = 4 ∨ j = 5 ∨ j = 6 ∨ j = 7 ∨ j = 8 by omega) with rfl | rfl | rfl | rfl | rfl | rfl | rfl | rfl | rfl
    ·
      refine seg 3 (show Wp 43 0 [some (vR 8)] [] μ (fun rr μ' => Wp 109 59 [some (vR 0), some (vI what)] (rr.toList ++ []) μ' R) from ?_)
      refine g43 hc ?_
      refine seg 1 (show R (some (vI (hN G))) μ from ?_)
      have e : aCnt G T s U N what = hN G := by
        unfold aCnt
        repeat (first | rw [if_pos (by first | omega | assumption)] | rw [if_neg (by first | omega | assumption)])
      rw [← e]; exact h
    ·
      refine seg 3 (show Wp 60 0 [some (vR 30)] [] μ (fun rr μ' => Wp 109 67 [some (vR 0), some (vI what)] (rr.toList ++ []) μ' R) from ?_)
      refine k60 hs ?_
      refine seg 1 (show R (some (vI s.1)) μ from ?_)
      have e : aCnt G T s U N what = s.1 := by
        unfold aCnt
        repeat (first | rw [if_pos (by first | omega | assumption)] | rw [if_neg (by first | omega | assumption)])
      rw [← e]; exact h
    ·
      refine seg 3 (show Wp 63 0 [some (vR 30)] [] μ (fun rr μ' => Wp 109 75 [some (vR 0), some (vI what)] (rr.toList ++ []) μ' R) from ?_)
      refine k63 hs ?_
      refine seg 1 (show R (some (vI s.2.1)) μ from ?_)
      have e : aCnt G T s U N what = s.2.1 := by
        unfold aCnt
        repeat (first | rw [if_pos (by first | omega | assumption)] | rw [if_neg (by first | omega | assumption)])
      rw [← e]; exact h
    ·
      refine seg 3 (show Wp 66 0 [some (vR 30)] [] μ (fun rr μ' => Wp 109 83 [some (vR 0), some (vI what)] (rr.toList ++ []) μ' R) from ?_)
      refine k66 hs ?_
      refine seg 1 (show R (some (vI s.2.2)) μ from ?_)
      have e : aCnt G T s U N what = s.2.2 := by
        unfold aCnt
        repeat (first | rw [if_pos (by first | omega | assumption)] | rw [if_neg (by first | omega | assumption)])
      rw [← e]; exact h
    ·
      refine seg 3 (show Wp 49 0 [some (vR 8), none, none] [] μ (fun rr μ' => Wp 109 91 [some (vR 0), some (vI what)] (rr.toList ++ []) μ' R) from ?_)
      refine s49 hc ?_
      refine seg 1 (show R (some (vI (SZs G (hN G).toNat))) μ from ?_)
      have e : aCnt G T s U N what = SZs G (hN G).toNat := by
        unfold aCnt
        repeat (first | rw [if_pos (by first | omega | assumption)] | rw [if_neg (by first | omega | assumption)])
      rw [← e]; exact h
    ·
      refine seg 2 (show Wp 113 0 [some (vR 0), none, none, none] [] μ (fun rr μ' => Wp 109 96 [some (vR 0), some (vI what)] (rr.toList ++ []) μ' R) from ?_)
      refine s113 hh ?_
      refine seg 1 (show R (some (vI (OWs G s (hN G).toNat))) μ from ?_)
      have e : aCnt G T s U N what = OWs G s (hN G).toNat := by
        unfold aCnt
        repeat (first | rw [if_pos (by first | omega | assumption)] | rw [if_neg (by first | omega | assumption)])
      rw [← e]; exact h
    ·
      refine seg 3 (show Wp 70 0 [some (vR 42)] [] μ (fun rr μ' => Wp 109 104 [some (vR 0), some (vI what)] (rr.toList ++ []) μ' R) from ?_)
      refine k70 hrc.2.2.2.2 ?_
      refine seg 1 (show R (some (vI N.1)) μ from ?_)
      have e : aCnt G T s U N what = N.1 := by
        unfold aCnt
        repeat (first | rw [if_pos (by first | omega | assumption)] | rw [if_neg (by first | omega | assumption)])
      rw [← e]; exact h
    ·
      refine seg 3 (show Wp 75 0 [some (vR 1)] [] μ (fun rr μ' => Wp 109 112 [some (vR 0), some (vI what)] (rr.toList ++ []) μ' R) from ?_)
      refine k75 hrc.2.1 ?_
      refine seg 1 (show R (some (vI T.1)) μ from ?_)
      have e : aCnt G T s U N what = T.1 := by
        unfold aCnt
        repeat (first | rw [if_pos (by first | omega | assumption)] | rw [if_neg (by first | omega | assumption)])
      rw [← e]; exact h
    ·
      refine seg 3 (show Wp 1 0 [some (vR 40)] [] μ (fun rr μ' => Wp 109 120 [some (vR 0), some (vI what)] (rr.toList ++ []) μ' R) from ?_)
      refine k1 hrc.2.2.1 ?_
      refine seg 1 (show R (some (vI U.1)) μ from ?_)
      have e : aCnt G T s U N what = U.1 := by
        unfold aCnt
        repeat (first | rw [if_pos (by first | omega | assumption)] | rw [if_neg (by first | omega | assumption)])
      rw [← e]; exact h
  ·
    refine seg 2 (show R (some (vI (-1))) μ from ?_)
    have e : aCnt G T s U N what = -1 := by
      unfold aCnt
      repeat (first | rw [if_pos (by first | omega | assumption)] | rw [if_neg (by first | omega | assumption)])
    rw [← e]; exact h
