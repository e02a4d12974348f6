/-! the model's public methods: what is asked -/
def RMT (T : Tx) (μ : Mu) : Prop := μ 47 10 = T.1 ∧ (0 ≤ T.1 ∧ T.1 ≤ 120) ∧ ∀ i, 0 ≤ i → i < T.1 → μ 55 i = T.2 i ∧ 0 ≤ T.2 i ∧ T.2 i ≤ 255
def RMU (U : Un) (μ : Mu) : Prop := μ 47 8 = U.1 ∧ (0 ≤ U.1 ∧ U.1 ≤ 10) ∧ ∀ i, 0 ≤ i → i < U.1 → μ 54 (3 * i + 0) = (U.2 i).1 ∧ μ 54 (3 * i + 1) = (U.2 i).2.1 ∧ μ 54 (3 * i + 2) = (U.2 i).2.2 ∧ SeOK (U.2 i)
def RMI (im : Int → Option Se) (μ : Mu) : Prop := ∀ i, 0 ≤ i → i < 2 → match im i with
  | none => μ 64 i = 0
  | some s => μ 64 i = 1 ∧ μ 63 (3 * i + 0) = s.1 ∧ μ 63 (3 * i + 1) = s.2.1 ∧ μ 63 (3 * i + 2) = s.2.2 ∧ SeOK s
def RMN (G : Hi) (N : Sn) (μ : Mu) : Prop := μ 47 24 = N.1 ∧ (0 ≤ N.1 ∧ N.1 ≤ 6) ∧ ∀ i, 0 ≤ i → i < N.1 → μ 62 (4 * i) = (N.2 i).1 ∧ μ 62 (4 * i + 1) = (N.2 i).2.1 ∧ μ 62 (4 * i + 2) = (N.2 i).2.2.1 ∧ μ 62 (4 * i + 3) = (N.2 i).2.2.2 ∧ SnOK G (N.2 i)
def RM (G : Hi) (T : Tx) (s : Se) (U : Un) (im : Int → Option Se) (N : Sn) (μ : Mu) : Prop := MG G μ ∧ SeC s (μ 53) ∧ SeOK s ∧ RMT T μ ∧ RMU U μ ∧ RMI im μ ∧ RMN G N μ
theorem RM.fr {G : Hi} {T : Tx} {s : Se} {U : Un} {im : Int → Option Se} {N : Sn} {μ μ' : Mu} (h : RM G T s U im N μ) (hf : ∀ q, 47 ≤ q → q ≠ 56 → q ≠ 57 → q ≠ 58 → q ≠ 59 → q ≠ 60 → q ≠ 61 → μ' q = μ q) : RM G T s U im N μ' := by
  have e : ∀ q, 47 ≤ q → (q < 56 ∨ 61 < q) → μ' q = μ q := fun q a b => hf q a (by omega) (by omega) (by omega) (by omega) (by omega) (by omega)
  obtain ⟨h1, h2, h3, h4, h5, h6, h7⟩ := h
  refine ⟨h1.fr (by rw [e 47 (by decide) (by decide)]) (e 48 (by decide) (by decide)) (e 49 (by decide) (by decide)) (e 50 (by decide) (by decide)) (e 51 (by decide) (by decide)) (e 52 (by decide) (by decide)), by rw [e 53 (by decide) (by decide)]; exact h2, h3, ?_, ?_, ?_, ?_⟩
  · unfold RMT; rw [e 47 (by decide) (by decide), e 55 (by decide) (by decide)]; exact h4
  · unfold RMU; rw [e 47 (by decide) (by decide), e 54 (by decide) (by decide)]; exact h5
  · unfold RMI; rw [e 63 (by decide) (by decide), e 64 (by decide) (by decide)]; exact h6
  · unfold RMN; rw [e 47 (by decide) (by decide), e 62 (by decide) (by decide)]; exact h7
theorem or0 {x : Int} (h : 0 ≤ x) : ((Int.toNat x ||| Int.toNat 0 : Nat) : Int) = x := by
  rw [show Int.toNat 0 = 0 from rfl, Nat.or_zero]; omega
theorem bs_ne {P : Int → Prop} : ∀ n : Nat, bs P n ≠ 0 → ∃ k : Nat, k < n ∧ P k := by
  intro n
  induction n with
  | zero => intro h; exact absurd rfl h
  | succ n ih =>
    intro h
    by_cases hp : P n
    · exact ⟨n, Nat.lt_succ_self _, hp⟩
    · rw [bs_n hp] at h
      obtain ⟨k, h1, h2⟩ := ih h
      exact ⟨k, Nat.lt_succ_of_lt h1, h2⟩
theorem og_idem {G : Hi} (hG : HiOK G) {s : Se} : ∀ (n : Nat) (r k : Int), r.toNat < n → 0 ≤ r ∧ r < hN G → 0 ≤ k ∧ k < hS G r → (og G s ((og G s r k).1 / 8) ((og G s r k).1 % 8)).1 = (og G s r k).1 := by
  intro n
  induction n with
  | zero => intro r k h; exact absurd h (Nat.not_lt_zero _)
  | succ n ih =>
    intro r k hn hr hk
    have hs := hG.s hr
    rcases ru_rg G s r k with h1 | h1
    · have e : (og G s r k).1 = r * 8 + k := by rw [og_no h1]
      rw [e, show (r * 8 + k) / 8 = r by omega, show (r * 8 + k) % 8 = k by omega, e]
    · have h2 := gv_rg hG (s := s) (rule := ru G s r k) (k := k) hr
      have e : (og G s r k).1 = (og G s (gv G s (ru G s r k) r k / 8) (gv G s (ru G s r k) r k % 8)).1 := by rw [og_in hG hr h1.1.1]
      rw [e]
      exact ih _ _ (by omega) (by omega) (by omega)
theorem LF_own {G : Hi} (hG : HiOK G) {s : Se} {r k o : Int} (hr : 0 ≤ r ∧ r < hN G) (hk : 0 ≤ k ∧ k < hS G r) (ho : 0 ≤ o ∧ o < hN G) (h : LF G s (r * 8 + k) o ≠ 0) : (og G s r k).1 = r * 8 + k := by
  obtain ⟨k2, h1, h2⟩ := bs_ne _ h
  have hs := hG.s hr
  have hso := hG.s ho
  have e := og_idem hG (s := s) (o.toNat + 1) o k2 (by omega) ho (by omega)
  rw [show (og G s o k2).1 = r * 8 + k from h2, show (r * 8 + k) / 8 = r by omega, show (r * 8 + k) % 8 = k by omega] at e
  exact e
theorem d140 {G : Hi} {T : Tx} {s : Se} {U : Un} {im : Int → Option Se} {N : Sn} {R : Po} {μ : Mu} (hrm : RM G T s U im N μ) {r what : Int} (hk : ∀ μ2 : Mu, RM G T s U im N μ2 → (∀ q, q < 47 → μ2 q = μ q) → R (some (vI (aRev G s r what))) μ2) : Wp 140 0 [some (vR 47), some (vI r), some (vI what)] [] μ R := by
  have hg := hrm.1
  have hm := hg.1
  have h8 := hm.1.n
  have hs := hrm.2.1
  have hok := hrm.2.2.1
  refine seg 3 (show Wp 120 0 [some (vR 47), some (vI r)] [] μ (fun rr μ' => Wp 140 5 [some (vR 47), some (vI r), some (vI what)] (rr.toList ++ []) μ' R) from ?_)
  refine n120 hm (fun b1 => ?_) (fun b1 => ?_)
  ·
    refine seg 1 (show (¬ (1 = 0) → Wp 140 10 [some (vR 47), some (vI r), some (vI what)] [] μ R) ∧ (1 = 0 → Wp 140 8 [some (vR 47), some (vI r), some (vI what)] [] μ R) from ⟨fun _ => ?_, fun z => absurd z (by decide)⟩)
    refine seg 2 (show (∀ j : Nat, j < 4 → what = 0 + (j : Int) → Wp 140 ([79, 40, 47, 47, 60].getD (1 + j) 0) [some (vR 47), some (vI r), some (vI what)] [] μ R) ∧ (what < 0 ∨ 3 < what → Wp 140 79 [some (vR 47), some (vI r), some (vI what)] [] μ R) from ⟨fun j hj c2 => ?_, fun c2 => ?_⟩)
    ·
      rcases (show j = 0 ∨ j = 1 ∨ j = 2 ∨ j = 3 by omega) with rfl | rfl | rfl | rfl
      ·
        refine seg 5 (show (0 ≤ r ∧ r < 8) ∧ R (some (vI (μ 48 r))) μ from ⟨by omega, ?_⟩)
        have e1 := (hm.2.2 r (by omega) (by omega)).1
        rw [e1]
        have e : aRev G s r what = hS G r := by
          unfold aRev
          repeat (first | rw [if_pos (by first | omega | assumption | (rw [← hs.2.1]; assumption))] | rw [if_neg (by first | omega | assumption | (rw [← hs.2.1]; assumption))])
        have := hk μ hrm (fun _ _ => rfl); rw [e] at this; exact this
      ·
        refine seg 11 (show iR (2 * r) ∧ iR ((2 * r) + what) ∧ iR (((2 * r) + what) - 1) ∧ (0 ≤ (((2 * r) + what) - 1) ∧ (((2 * r) + what) - 1) < 16) ∧ R (some (vI (μ 49 (((2 * r) + what) - 1)))) μ from ⟨by omega, by omega, by omega, by omega, ?_⟩)
        have e : aRev G s r what = μ 49 (((2 * r) + what) - 1) := by
          unfold aRev
          rw [if_pos (by omega)]
          rcases (show what = 1 ∨ what = 2 by omega) with rfl | rfl
          · rw [if_neg (by decide), if_pos rfl, show 2 * r + 1 - 1 = 2 * r by omega]; exact (hm.2.2 r (by omega) (by omega)).2.1.symm
          · rw [if_neg (by decide), if_neg (by decide), if_pos rfl, show 2 * r + 2 - 1 = 2 * r + 1 by omega]; exact (hm.2.2 r (by omega) (by omega)).2.2.1.symm
        have := hk μ hrm (fun _ _ => rfl); rw [e] at this; exact this
      ·
        refine seg 11 (show iR (2 * r) ∧ iR ((2 * r) + what) ∧ iR (((2 * r) + what) - 1) ∧ (0 ≤ (((2 * r) + what) - 1) ∧ (((2 * r) + what) - 1) < 16) ∧ R (some (vI (μ 49 (((2 * r) + what) - 1)))) μ from ⟨by omega, by omega, by omega, by omega, ?_⟩)
        have e : aRev G s r what = μ 49 (((2 * r) + what) - 1) := by
          unfold aRev
          rw [if_pos (by omega)]
          rcases (show what = 1 ∨ what = 2 by omega) with rfl | rfl
          · rw [if_neg (by decide), if_pos rfl, show 2 * r + 1 - 1 = 2 * r by omega]; exact (hm.2.2 r (by omega) (by omega)).2.1.symm
          · rw [if_neg (by decide), if_neg (by decide), if_pos rfl, show 2 * r + 2 - 1 = 2 * r + 1 by omega]; exact (hm.2.2 r (by omega) (by omega)).2.2.1.symm
        have := hk μ hrm (fun _ _ => rfl); rw [e] at this; exact this
      ·
        refine seg 6 (show (0 ≤ 1 ∧ 1 < 3) ∧ Wp 119 0 [some (vI (μ 53 1)), some (vI r)] [] μ (fun rr μ' => Wp 140 70 [some (vR 47), some (vI r), some (vI what)] (rr.toList ++ []) μ' R) from ⟨by omega, ?_⟩)
        refine m119 (by rw [hs.2.1]; exact hok.2.1.1) (by omega) (fun b3 => ?_) (fun b3 => ?_)
        ·
          refine seg 1 (show (1 = 0 → Wp 140 77 [some (vR 47), some (vI r), some (vI what)] [] μ R) ∧ (¬ (1 = 0) → Wp 140 73 [some (vR 47), some (vI r), some (vI what)] [] μ R) from ⟨fun z => absurd z (by decide), fun _ => ?_⟩)
          refine seg 3 (show R (some (vI 1)) μ from ?_)
          have e : aRev G s r what = 1 := by
            unfold aRev
            repeat (first | rw [if_pos (by first | omega | assumption | (rw [← hs.2.1]; assumption))] | rw [if_neg (by first | omega | assumption | (rw [← hs.2.1]; assumption))])
          have := hk μ hrm (fun _ _ => rfl); rw [e] at this; exact this
        ·
          refine seg 1 (show (0 = 0 → Wp 140 77 [some (vR 47), some (vI r), some (vI what)] [] μ R) ∧ (¬ (0 = 0) → Wp 140 73 [some (vR 47), some (vI r), some (vI what)] [] μ R) from ⟨fun _ => ?_, fun z => absurd z (by decide)⟩)
          refine seg 2 (show R (some (vI 0)) μ from ?_)
          have e : aRev G s r what = 0 := by
            unfold aRev
            repeat (first | rw [if_pos (by first | omega | assumption | (rw [← hs.2.1]; assumption))] | rw [if_neg (by first | omega | assumption | (rw [← hs.2.1]; assumption))])
          have := hk μ hrm (fun _ _ => rfl); rw [e] at this; exact this
    ·
      refine seg 2 (show R (some (vI (-1))) μ from ?_)
      have e : aRev G s r what = -1 := by
        unfold aRev
        repeat (first | rw [if_pos (by first | omega | assumption | (rw [← hs.2.1]; assumption))] | rw [if_neg (by first | omega | assumption | (rw [← hs.2.1]; assumption))])
      have := hk μ hrm (fun _ _ => rfl); rw [e] at this; exact this
  ·
    refine seg 1 (show (¬ (0 = 0) → Wp 140 10 [some (vR 47), some (vI r), some (vI what)] [] μ R) ∧ (0 = 0 → Wp 140 8 [some (vR 47), some (vI r), some (vI what)] [] μ R) from ⟨fun z => absurd z (by decide), fun _ => ?_⟩)
    refine seg 2 (show R (some (vI (-1))) μ from ?_)
    have e : aRev G s r what = -1 := by
      unfold aRev
      repeat (first | rw [if_pos (by first | omega | assumption | (rw [← hs.2.1]; assumption))] | rw [if_neg (by first | omega | assumption | (rw [← hs.2.1]; assumption))])
    have := hk μ hrm (fun _ _ => rfl); rw [e] at this; exact this
theorem d141 {G : Hi} {T : Tx} {s : Se} {U : Un} {im : Int → Option Se} {N : Sn} {R : Po} {μ : Mu} (hrm : RM G T s U im N μ) {r k what : Int} (hk : ∀ μ2 : Mu, RM G T s U im N μ2 → (∀ q, q < 47 → μ2 q = μ q) → R (some (vI (aLine G s r k what))) μ2) : Wp 141 0 [some (vR 47), some (vI r), some (vI k), some (vI what)] [] μ R := by
  have hg := hrm.1
  have hm := hg.1
  have h8 := hm.1.n
  have hs := hrm.2.1
  have hok := hrm.2.2.1
  refine seg 4 (show Wp 121 0 [some (vR 47), some (vI r), some (vI k)] [] μ (fun rr μ' => Wp 141 6 [some (vR 47), some (vI r), some (vI k), some (vI what)] (rr.toList ++ []) μ' R) from ?_)
  refine n121 hm (fun b1 => ?_) (fun b1 => ?_)
  ·
    refine seg 1 (show (¬ (1 = 0) → Wp 141 11 [some (vR 47), some (vI r), some (vI k), some (vI what)] [] μ R) ∧ (1 = 0 → Wp 141 9 [some (vR 47), some (vI r), some (vI k), some (vI what)] [] μ R) from ⟨fun _ => ?_, fun z => absurd z (by decide)⟩)
    refine seg 2 (show Wp 139 0 [some (vR 47), none, none, none, none] [] μ (fun rr μ' => Wp 141 15 [some (vR 47), some (vI r), some (vI k), some (vI what)] (rr.toList ++ []) μ' R) from ?_)
    refine n139 hg hs hok (fun μ1 f1 t1 => ?_)
    have hrm1 : RM G T s U im N μ1 := hrm.fr (fun q a b c d e f g => f1 q f g)
    have fr1 : ∀ q, q < 47 → μ1 q = μ q := fun q hq => f1 q (by omega) (by omega)
    have hm1 := hrm1.1.1
    refine seg 2 (show (∀ j : Nat, j < 7 → what = 0 + (j : Int) → Wp 141 ([126, 60, 67, 67, 77, 84, 99, 114].getD (1 + j) 0) [some (vR 47), some (vI r), some (vI k), some (vI what)] [] μ1 R) ∧ (what < 0 ∨ 6 < what → Wp 141 126 [some (vR 47), some (vI r), some (vI k), some (vI what)] [] μ1 R) from ⟨fun j hj c2 => ?_, fun c2 => ?_⟩)
    ·
      rcases (show j = 0 ∨ j = 1 ∨ j = 2 ∨ j = 3 ∨ j = 4 ∨ j = 5 ∨ j = 6 by omega) with rfl | rfl | rfl | rfl | rfl | rfl | rfl
      ·
        refine seg 4 (show Wp 129 0 [some (vR 47), some (vI r), some (vI k)] [] μ1 (fun rr μ' => Wp 141 66 [some (vR 47), some (vI r), some (vI k), some (vI what)] (rr.toList ++ []) μ' R) from ?_)
        refine n129 hm1 (by omega) (by omega) ?_
        refine seg 1 (show R (some (vI (hL G r k))) μ1 from ?_)
        have e : aLine G s r k what = hL G r k := by
          unfold aLine
          repeat (first | rw [if_pos (by first | omega | assumption)] | rw [if_neg (by first | omega | assumption)])
        have := hk μ1 hrm1 fr1; rw [e] at this; exact this
      ·
        refine seg 7 (show iR (what - 1) ∧ Wp 132 0 [some (vR 47), some (vI r), some (vI k), some (vI (what - 1))] [] μ1 (fun rr μ' => Wp 141 76 [some (vR 47), some (vI r), some (vI k), some (vI what)] (rr.toList ++ []) μ' R) from ⟨by first | omega | (have hz := hm.1.s (r := r) (by omega); omega) | (have hz := hm.1.s (r := r) (by omega); have e1 := (t1 r k (by omega) (by omega) (by omega) (by omega)).1; have := og_lt hm.1 s (r := r) (k := k) (by omega) (by omega); omega), ?_⟩)
        refine m132 (by omega) (by have hz := hm1.1.s (r := r) (by omega); omega) (by omega) ?_
        refine seg 1 (show R (some (vI (μ1 51 (16 * r + 8 * (what - 1) + k)))) μ1 from ?_)
        have hmp := hrm1.1.2 r (by omega) (by omega)
        have hz := hm1.1.s (r := r) (by omega)
        have e : aLine G s r k what = μ1 51 (16 * r + 8 * (what - 1) + k) := by
          unfold aLine
          rw [if_pos (by omega)]
          rcases (show what = 1 ∨ what = 2 by omega) with rfl | rfl
          · rw [if_neg (by decide), if_pos rfl, ← (hmp.1 k (by omega) (by omega)).1]; rfl
          · rw [if_neg (by decide), if_neg (by decide), if_pos rfl, ← (hmp.1 k (by omega) (by omega)).2]; rfl
        have := hk μ1 hrm1 fr1; rw [e] at this; exact this
      ·
        refine seg 7 (show iR (what - 1) ∧ Wp 132 0 [some (vR 47), some (vI r), some (vI k), some (vI (what - 1))] [] μ1 (fun rr μ' => Wp 141 76 [some (vR 47), some (vI r), some (vI k), some (vI what)] (rr.toList ++ []) μ' R) from ⟨by first | omega | (have hz := hm.1.s (r := r) (by omega); omega) | (have hz := hm.1.s (r := r) (by omega); have e1 := (t1 r k (by omega) (by omega) (by omega) (by omega)).1; have := og_lt hm.1 s (r := r) (k := k) (by omega) (by omega); omega), ?_⟩)
        refine m132 (by omega) (by have hz := hm1.1.s (r := r) (by omega); omega) (by omega) ?_
        refine seg 1 (show R (some (vI (μ1 51 (16 * r + 8 * (what - 1) + k)))) μ1 from ?_)
        have hmp := hrm1.1.2 r (by omega) (by omega)
        have hz := hm1.1.s (r := r) (by omega)
        have e : aLine G s r k what = μ1 51 (16 * r + 8 * (what - 1) + k) := by
          unfold aLine
          rw [if_pos (by omega)]
          rcases (show what = 1 ∨ what = 2 by omega) with rfl | rfl
          · rw [if_neg (by decide), if_pos rfl, ← (hmp.1 k (by omega) (by omega)).1]; rfl
          · rw [if_neg (by decide), if_neg (by decide), if_pos rfl, ← (hmp.1 k (by omega) (by omega)).2]; rfl
        have := hk μ1 hrm1 fr1; rw [e] at this; exact this
      ·
        refine seg 4 (show Wp 138 0 [some (vR 47), some (vI r), some (vI k), none] [] μ1 (fun rr μ' => Wp 141 83 [some (vR 47), some (vI r), some (vI k), some (vI what)] (rr.toList ++ []) μ' R) from ?_)
        refine n138 hrm1.1 hrm1.2.1 hok (by omega) (by omega) ?_
        refine seg 1 (show R (some (vI (ru G s r k))) μ1 from ?_)
        have e : aLine G s r k what = ru G s r k := by
          unfold aLine
          repeat (first | rw [if_pos (by first | omega | assumption)] | rw [if_neg (by first | omega | assumption)])
        have := hk μ1 hrm1 fr1; rw [e] at this; exact this
      ·
        refine seg 11 (show iR (8 * r) ∧ iR ((8 * r) + k) ∧ (0 ≤ ((8 * r) + k) ∧ ((8 * r) + k) < 64) ∧ (0 ≤ (μ1 60 ((8 * r) + k)) ∧ 0 < 8) ∧ R (some (vI ((μ1 60 ((8 * r) + k)) / 8))) μ1 from ⟨by first | omega | (have hz := hm.1.s (r := r) (by omega); omega) | (have hz := hm.1.s (r := r) (by omega); have e1 := (t1 r k (by omega) (by omega) (by omega) (by omega)).1; have := og_lt hm.1 s (r := r) (k := k) (by omega) (by omega); omega), by first | omega | (have hz := hm.1.s (r := r) (by omega); omega) | (have hz := hm.1.s (r := r) (by omega); have e1 := (t1 r k (by omega) (by omega) (by omega) (by omega)).1; have := og_lt hm.1 s (r := r) (k := k) (by omega) (by omega); omega), by first | omega | (have hz := hm.1.s (r := r) (by omega); omega) | (have hz := hm.1.s (r := r) (by omega); have e1 := (t1 r k (by omega) (by omega) (by omega) (by omega)).1; have := og_lt hm.1 s (r := r) (k := k) (by omega) (by omega); omega), by first | omega | (have hz := hm.1.s (r := r) (by omega); omega) | (have hz := hm.1.s (r := r) (by omega); have e1 := (t1 r k (by omega) (by omega) (by omega) (by omega)).1; have := og_lt hm.1 s (r := r) (k := k) (by omega) (by omega); omega), ?_⟩)
        have e1 := (t1 r k (by omega) (by omega) (by omega) (by omega)).1
        rw [e1]
        have e : aLine G s r k what = (og G s r k).1 / 8 := by
          unfold aLine
          repeat (first | rw [if_pos (by first | omega | assumption)] | rw [if_neg (by first | omega | assumption)])
        have := hk μ1 hrm1 fr1; rw [e] at this; exact this
      ·
        refine seg 11 (show iR (8 * r) ∧ iR ((8 * r) + k) ∧ (0 ≤ ((8 * r) + k) ∧ ((8 * r) + k) < 64) ∧ (0 ≤ (μ1 60 ((8 * r) + k)) ∧ 0 < 8) ∧ R (some (vI ((μ1 60 ((8 * r) + k)) % 8))) μ1 from ⟨by first | omega | (have hz := hm.1.s (r := r) (by omega); omega) | (have hz := hm.1.s (r := r) (by omega); have e1 := (t1 r k (by omega) (by omega) (by omega) (by omega)).1; have := og_lt hm.1 s (r := r) (k := k) (by omega) (by omega); omega), by first | omega | (have hz := hm.1.s (r := r) (by omega); omega) | (have hz := hm.1.s (r := r) (by omega); have e1 := (t1 r k (by omega) (by omega) (by omega) (by omega)).1; have := og_lt hm.1 s (r := r) (k := k) (by omega) (by omega); omega), by first | omega | (have hz := hm.1.s (r := r) (by omega); omega) | (have hz := hm.1.s (r := r) (by omega); have e1 := (t1 r k (by omega) (by omega) (by omega) (by omega)).1; have := og_lt hm.1 s (r := r) (k := k) (by omega) (by omega); omega), by first | omega | (have hz := hm.1.s (r := r) (by omega); omega) | (have hz := hm.1.s (r := r) (by omega); have e1 := (t1 r k (by omega) (by omega) (by omega) (by omega)).1; have := og_lt hm.1 s (r := r) (k := k) (by omega) (by omega); omega), ?_⟩)
        have e1 := (t1 r k (by omega) (by omega) (by omega) (by omega)).1
        rw [e1]
        have e : aLine G s r k what = (og G s r k).1 % 8 := by
          unfold aLine
          repeat (first | rw [if_pos (by first | omega | assumption)] | rw [if_neg (by first | omega | assumption)])
        have := hk μ1 hrm1 fr1; rw [e] at this; exact this
      ·
        refine seg 9 (show iR (8 * r) ∧ iR ((8 * r) + k) ∧ (0 ≤ ((8 * r) + k) ∧ ((8 * r) + k) < 64) ∧ R (some (vI (μ1 61 ((8 * r) + k)))) μ1 from ⟨by first | omega | (have hz := hm.1.s (r := r) (by omega); omega) | (have hz := hm.1.s (r := r) (by omega); have e1 := (t1 r k (by omega) (by omega) (by omega) (by omega)).1; have := og_lt hm.1 s (r := r) (k := k) (by omega) (by omega); omega), by first | omega | (have hz := hm.1.s (r := r) (by omega); omega) | (have hz := hm.1.s (r := r) (by omega); have e1 := (t1 r k (by omega) (by omega) (by omega) (by omega)).1; have := og_lt hm.1 s (r := r) (k := k) (by omega) (by omega); omega), by first | omega | (have hz := hm.1.s (r := r) (by omega); omega) | (have hz := hm.1.s (r := r) (by omega); have e1 := (t1 r k (by omega) (by omega) (by omega) (by omega)).1; have := og_lt hm.1 s (r := r) (k := k) (by omega) (by omega); omega), ?_⟩)
        have e1 := (t1 r k (by omega) (by omega) (by omega) (by omega)).2
        rw [e1]
        have e : aLine G s r k what = (og G s r k).2 := by
          unfold aLine
          repeat (first | rw [if_pos (by first | omega | assumption)] | rw [if_neg (by first | omega | assumption)])
        have := hk μ1 hrm1 fr1; rw [e] at this; exact this
    ·
      refine seg 2 (show R (some (vI (-1))) μ1 from ?_)
      have e : aLine G s r k what = -1 := by
        unfold aLine
        repeat (first | rw [if_pos (by first | omega | assumption)] | rw [if_neg (by first | omega | assumption)])
      have := hk μ1 hrm1 fr1; rw [e] at this; exact this
  ·
    refine seg 1 (show (¬ (0 = 0) → Wp 141 11 [some (vR 47), some (vI r), some (vI k), some (vI what)] [] μ R) ∧ (0 = 0 → Wp 141 9 [some (vR 47), some (vI r), some (vI k), some (vI what)] [] μ R) from ⟨fun z => absurd z (by decide), fun _ => ?_⟩)
    refine seg 2 (show R (some (vI (-1))) μ from ?_)
    have e : aLine G s r k what = -1 := by
      unfold aLine
      repeat (first | rw [if_pos (by first | omega | assumption)] | rw [if_neg (by first | omega | assumption)])
    have := hk μ hrm (fun _ _ => rfl); rw [e] at this; exact this
theorem d147 {G : Hi} {T : Tx} {s : Se} {U : Un} {im : Int → Option Se} {N : Sn} {R : Po} {μ : Mu} (hrm : RM G T s U im N μ) {rule r k : Int} (hk : ∀ μ2 : Mu, RM G T s U im N μ2 → (∀ q, q < 47 → μ2 q = μ q) → R (some (vI (aGives G s rule r k))) μ2) : Wp 147 0 [some (vR 47), some (vI rule), some (vI r), some (vI k)] [] μ R := by
  have hg := hrm.1
  have hm := hg.1
  have h8 := hm.1.n
  have hs := hrm.2.1
  have hok := hrm.2.2.1
  refine seg 5 (show Wp 118 0 [some (vL rule), none, some (vL 0), none, some (vL 3), none] [] μ (fun rr μ' => Wp 147 9 [some (vR 47), some (vI rule), some (vI r), some (vI k)] (rr.toList ++ []) μ' R) from ?_)
  refine m118 (fun b1 => ?_) (fun b1 => ?_)
  ·
    refine seg 1 (show (1 = 0 → Wp 147 21 [some (vR 47), some (vI rule), some (vI r), some (vI k)] [] μ R) ∧ (¬ (1 = 0) → Wp 147 12 [some (vR 47), some (vI rule), some (vI r), some (vI k)] [] μ R) from ⟨fun z => absurd z (by decide), fun _ => ?_⟩)
    refine seg 4 (show Wp 121 0 [some (vR 47), some (vI r), some (vI k)] [] μ (fun rr μ' => Wp 147 18 [some (vR 47), some (vI rule), some (vI r), some (vI k)] (rr.toList ++ []) μ' R) from ?_)
    refine n121 hm (fun b2 => ?_) (fun b2 => ?_)
    ·
      refine seg 1 (show (¬ (1 = 0) → Wp 147 23 [some (vR 47), some (vI rule), some (vI r), some (vI k)] [] μ R) ∧ (1 = 0 → Wp 147 21 [some (vR 47), some (vI rule), some (vI r), some (vI k)] [] μ R) from ⟨fun _ => ?_, fun z => absurd z (by decide)⟩)
      refine seg 7 (show Wp 136 0 [some (vR 47), some (vI rule), some (vI r), some (vI k)] [] μ (fun rr μ' => Wp 147 32 [some (vR 47), some (vI rule), some (vI r), some (vI k)] (rr.toList ++ [vI r, vR 47]) μ' R) from ?_)
      refine n136 hg hs hok (by omega) (by omega) (by omega) (fun v hv => ?_)
      refine seg 1 (show Wp 137 0 [some (vR 47), some (vI r), some (vI v)] [] μ (fun rr μ' => Wp 147 35 [some (vR 47), some (vI rule), some (vI r), some (vI k)] (rr.toList ++ []) μ' R) from ?_)
      refine n137 hg (by omega) hv ?_
      refine seg 1 (show R (some (vI (gv G s rule r k))) μ from ?_)
      have e : aGives G s rule r k = gv G s rule r k := by
        unfold aGives
        repeat (first | rw [if_pos (by first | omega | assumption)] | rw [if_neg (by first | omega | assumption)])
      have := hk μ hrm (fun _ _ => rfl); rw [e] at this; exact this
    ·
      refine seg 1 (show (¬ (0 = 0) → Wp 147 23 [some (vR 47), some (vI rule), some (vI r), some (vI k)] [] μ R) ∧ (0 = 0 → Wp 147 21 [some (vR 47), some (vI rule), some (vI r), some (vI k)] [] μ R) from ⟨fun z => absurd z (by decide), fun _ => ?_⟩)
      refine seg 2 (show R (some (vI (-1))) μ from ?_)
      have e : aGives G s rule r k = -1 := by
        unfold aGives
        repeat (first | rw [if_pos (by first | omega | assumption)] | rw [if_neg (by first | omega | assumption)])
      have := hk μ hrm (fun _ _ => rfl); rw [e] at this; exact this
  ·
    refine seg 1 (show (0 = 0 → Wp 147 21 [some (vR 47), some (vI rule), some (vI r), some (vI k)] [] μ R) ∧ (¬ (0 = 0) → Wp 147 12 [some (vR 47), some (vI rule), some (vI r), some (vI k)] [] μ R) from ⟨fun _ => ?_, fun z => absurd z (by decide)⟩)
    refine seg 2 (show R (some (vI (-1))) μ from ?_)
    have e : aGives G s rule r k = -1 := by
      unfold aGives
      repeat (first | rw [if_pos (by first | omega | assumption)] | rw [if_neg (by first | omega | assumption)])
    have := hk μ hrm (fun _ _ => rfl); rw [e] at this; exact this
theorem l148 {G : Hi} {s : Se} {R : Po} {μ : Mu} {r f : Int} (hm : MH G μ) (hT : ∀ r2 k2, 0 ≤ r2 → r2 < hN G → 0 ≤ k2 → k2 < hS G r2 → TrM G s (μ 60) (μ 61) r2 k2) (hr : 0 ≤ r ∧ r < hN G) (hkk : R (some (vI (bs (fun k => (og G s r k).1 / 8 = f) (hS G r).toNat))) μ) : ∀ (n k : Nat), hS G r - (k : Int) = n → Wp 148 27 [some (vR 47), some (vI r), some (vI f), some (vI (bs (fun k => (og G s r k).1 / 8 = f) k)), some (vI (k : Int))] [] μ R := by
  have h8 := hm.1.n
  have hsr := hm.1.s hr
  have er := (hm.2.2 r hr.1 hr.2).1
  intro n
  induction n with
  | zero =>
    intro k hn0
    have hp : k < 8 → 1 * 2 ^ ((k : Int)).toNat ≤ (128 : Int) ∧ (0 : Int) ≤ 1 * 2 ^ ((k : Int)).toNat := fun z => pw_le (k := (k : Int)) (by omega)
    have hb := bs_nn (fun k => (og G s r k).1 / 8 = f) k
    refine seg 6 (show (0 ≤ r ∧ r < 8) ∧ (μ 48 r ≤ (k : Int) → Wp 148 74 [some (vR 47), some (vI r), some (vI f), some (vI (bs (fun k => (og G s r k).1 / 8 = f) k)), some (vI (k : Int))] [] μ R) ∧ (¬ (μ 48 r ≤ (k : Int)) → Wp 148 38 [some (vR 47), some (vI r), some (vI f), some (vI (bs (fun k => (og G s r k).1 / 8 = f) k)), some (vI (k : Int))] [] μ R) from ⟨by omega, fun c1 => ?_, fun c1 => ?_⟩)
    ·
      refine seg 2 (show R (some (vI (bs (fun k => (og G s r k).1 / 8 = f) k))) μ from ?_)
      first | (exfalso; omega) | (rw [show (hS G r).toNat = k by omega] at hkk; exact hkk)
    ·
      refine seg 13 (show iR (8 * r) ∧ iR ((8 * r) + (k : Int)) ∧ (0 ≤ ((8 * r) + (k : Int)) ∧ ((8 * r) + (k : Int)) < 64) ∧ (0 ≤ (μ 60 ((8 * r) + (k : Int))) ∧ 0 < 8) ∧ (¬ ((μ 60 ((8 * r) + (k : Int))) / 8 = f) → Wp 148 65 [some (vR 47), some (vI r), some (vI f), some (vI (bs (fun k => (og G s r k).1 / 8 = f) k)), some (vI (k : Int))] [vI (bs (fun k => (og G s r k).1 / 8 = f) k)] μ R) ∧ ((μ 60 ((8 * r) + (k : Int))) / 8 = f → Wp 148 58 [some (vR 47), some (vI r), some (vI f), some (vI (bs (fun k => (og G s r k).1 / 8 = f) k)), some (vI (k : Int))] [vI (bs (fun k => (og G s r k).1 / 8 = f) k)] μ R) from ⟨by omega, by omega, by omega, by omega, fun c2 => ?_, fun c2 => ?_⟩)
      ·
        refine seg 5 (show (0 ≤ (bs (fun k => (og G s r k).1 / 8 = f) k) ∧ 0 ≤ 0) ∧ iR ((k : Int) + 1) ∧ Wp 148 27 [some (vR 47), some (vI r), some (vI f), some (vI ((Int.toNat (bs (fun k => (og G s r k).1 / 8 = f) k) ||| Int.toNat 0 : Nat) : Int)), some (vI ((k : Int) + 1))] [] μ R from ⟨by omega, by omega, ?_⟩)
        exfalso; omega
      ·
        refine seg 8 (show (0 ≤ 1 ∧ 0 ≤ (k : Int) ∧ (k : Int) < 31 ∧ 1 * 2 ^ ((k : Int) : Int).toNat ≤ 2147483647) ∧ (0 ≤ (bs (fun k => (og G s r k).1 / 8 = f) k) ∧ 0 ≤ (1 * 2 ^ ((k : Int) : Int).toNat)) ∧ iR ((k : Int) + 1) ∧ Wp 148 27 [some (vR 47), some (vI r), some (vI f), some (vI ((Int.toNat (bs (fun k => (og G s r k).1 / 8 = f) k) ||| Int.toNat (1 * 2 ^ ((k : Int) : Int).toNat) : Nat) : Int)), some (vI ((k : Int) + 1))] [] μ R from ⟨by omega, by omega, by omega, ?_⟩)
        exfalso; omega
  | succ n ih =>
    intro k hn0
    have hp : k < 8 → 1 * 2 ^ ((k : Int)).toNat ≤ (128 : Int) ∧ (0 : Int) ≤ 1 * 2 ^ ((k : Int)).toNat := fun z => pw_le (k := (k : Int)) (by omega)
    have hb := bs_nn (fun k => (og G s r k).1 / 8 = f) k
    have et := (hT r (k : Int) hr.1 hr.2 (by omega) (by omega)).1
    have ho := og_lt hm.1 s hr (k := (k : Int)) (by omega)
    refine seg 6 (show (0 ≤ r ∧ r < 8) ∧ (μ 48 r ≤ (k : Int) → Wp 148 74 [some (vR 47), some (vI r), some (vI f), some (vI (bs (fun k => (og G s r k).1 / 8 = f) k)), some (vI (k : Int))] [] μ R) ∧ (¬ (μ 48 r ≤ (k : Int)) → Wp 148 38 [some (vR 47), some (vI r), some (vI f), some (vI (bs (fun k => (og G s r k).1 / 8 = f) k)), some (vI (k : Int))] [] μ R) from ⟨by omega, fun c3 => ?_, fun c3 => ?_⟩)
    ·
      refine seg 2 (show R (some (vI (bs (fun k => (og G s r k).1 / 8 = f) k))) μ from ?_)
      first | (exfalso; omega) | (rw [show (hS G r).toNat = k by omega] at hkk; exact hkk)
    ·
      refine seg 13 (show iR (8 * r) ∧ iR ((8 * r) + (k : Int)) ∧ (0 ≤ ((8 * r) + (k : Int)) ∧ ((8 * r) + (k : Int)) < 64) ∧ (0 ≤ (μ 60 ((8 * r) + (k : Int))) ∧ 0 < 8) ∧ (¬ ((μ 60 ((8 * r) + (k : Int))) / 8 = f) → Wp 148 65 [some (vR 47), some (vI r), some (vI f), some (vI (bs (fun k => (og G s r k).1 / 8 = f) k)), some (vI (k : Int))] [vI (bs (fun k => (og G s r k).1 / 8 = f) k)] μ R) ∧ ((μ 60 ((8 * r) + (k : Int))) / 8 = f → Wp 148 58 [some (vR 47), some (vI r), some (vI f), some (vI (bs (fun k => (og G s r k).1 / 8 = f) k)), some (vI (k : Int))] [vI (bs (fun k => (og G s r k).1 / 8 = f) k)] μ R) from ⟨by omega, by omega, by omega, by omega, fun c4 => ?_, fun c4 => ?_⟩)
      ·
        refine seg 5 (show (0 ≤ (bs (fun k => (og G s r k).1 / 8 = f) k) ∧ 0 ≤ 0) ∧ iR ((k : Int) + 1) ∧ Wp 148 27 [some (vR 47), some (vI r), some (vI f), some (vI ((Int.toNat (bs (fun k => (og G s r k).1 / 8 = f) k) ||| Int.toNat 0 : Nat) : Int)), some (vI ((k : Int) + 1))] [] μ R from ⟨by omega, by omega, ?_⟩)
        have := ih (k + 1) (by omega)
        first
        | (exfalso; omega)
        | (rw [bs_y (P := (fun k => (og G s r k).1 / 8 = f)) (by omega)] at this; exact this)
        | (rw [bs_n (P := (fun k => (og G s r k).1 / 8 = f)) (by omega)] at this; rw [or0 hb]; exact this)
      ·
        refine seg 8 (show (0 ≤ 1 ∧ 0 ≤ (k : Int) ∧ (k : Int) < 31 ∧ 1 * 2 ^ ((k : Int) : Int).toNat ≤ 2147483647) ∧ (0 ≤ (bs (fun k => (og G s r k).1 / 8 = f) k) ∧ 0 ≤ (1 * 2 ^ ((k : Int) : Int).toNat)) ∧ iR ((k : Int) + 1) ∧ Wp 148 27 [some (vR 47), some (vI r), some (vI f), some (vI ((Int.toNat (bs (fun k => (og G s r k).1 / 8 = f) k) ||| Int.toNat (1 * 2 ^ ((k : Int) : Int).toNat) : Nat) : Int)), some (vI ((k : Int) + 1))] [] μ R from ⟨by omega, by omega, by omega, ?_⟩)
        have := ih (k + 1) (by omega)
        first
        | (exfalso; omega)
        | (rw [bs_y (P := (fun k => (og G s r k).1 / 8 = f)) (by omega)] at this; exact this)
        | (rw [bs_n (P := (fun k => (og G s r k).1 / 8 = f)) (by omega)] at this; rw [or0 hb]; exact this)
theorem l150 {G : Hi} {s : Se} {R : Po} {μ : Mu} {r o : Int} (hm : MH G μ) (hT : ∀ r2 k2, 0 ≤ r2 → r2 < hN G → 0 ≤ k2 → k2 < hS G r2 → TrM G s (μ 60) (μ 61) r2 k2) (hr : 0 ≤ r ∧ r < hN G) (hkk : R (some (vI (bs (fun k => (og G s r k).1 = o) (hS G r).toNat))) μ) : ∀ (n k : Nat), hS G r - (k : Int) = n → Wp 150 5 [some (vR 47), some (vI r), some (vI o), some (vI (bs (fun k => (og G s r k).1 = o) k)), some (vI (k : Int))] [] μ R := by
  have h8 := hm.1.n
  have hsr := hm.1.s hr
  have er := (hm.2.2 r hr.1 hr.2).1
  intro n
  induction n with
  | zero =>
    intro k hn0
    have hp : k < 8 → 1 * 2 ^ ((k : Int)).toNat ≤ (128 : Int) ∧ (0 : Int) ≤ 1 * 2 ^ ((k : Int)).toNat := fun z => pw_le (k := (k : Int)) (by omega)
    have hb := bs_nn (fun k => (og G s r k).1 = o) k
    refine seg 6 (show (0 ≤ r ∧ r < 8) ∧ (μ 48 r ≤ (k : Int) → Wp 150 49 [some (vR 47), some (vI r), some (vI o), some (vI (bs (fun k => (og G s r k).1 = o) k)), some (vI (k : Int))] [] μ R) ∧ (¬ (μ 48 r ≤ (k : Int)) → Wp 150 16 [some (vR 47), some (vI r), some (vI o), some (vI (bs (fun k => (og G s r k).1 = o) k)), some (vI (k : Int))] [] μ R) from ⟨by omega, fun c1 => ?_, fun c1 => ?_⟩)
    ·
      refine seg 2 (show R (some (vI (bs (fun k => (og G s r k).1 = o) k))) μ from ?_)
      first | (exfalso; omega) | (rw [show (hS G r).toNat = k by omega] at hkk; exact hkk)
    ·
      refine seg 11 (show iR (8 * r) ∧ iR ((8 * r) + (k : Int)) ∧ (0 ≤ ((8 * r) + (k : Int)) ∧ ((8 * r) + (k : Int)) < 64) ∧ (¬ (μ 60 ((8 * r) + (k : Int)) = o) → Wp 150 40 [some (vR 47), some (vI r), some (vI o), some (vI (bs (fun k => (og G s r k).1 = o) k)), some (vI (k : Int))] [vI (bs (fun k => (og G s r k).1 = o) k)] μ R) ∧ (μ 60 ((8 * r) + (k : Int)) = o → Wp 150 33 [some (vR 47), some (vI r), some (vI o), some (vI (bs (fun k => (og G s r k).1 = o) k)), some (vI (k : Int))] [vI (bs (fun k => (og G s r k).1 = o) k)] μ R) from ⟨by omega, by omega, by omega, fun c2 => ?_, fun c2 => ?_⟩)
      ·
        refine seg 5 (show (0 ≤ (bs (fun k => (og G s r k).1 = o) k) ∧ 0 ≤ 0) ∧ iR ((k : Int) + 1) ∧ Wp 150 5 [some (vR 47), some (vI r), some (vI o), some (vI ((Int.toNat (bs (fun k => (og G s r k).1 = o) k) ||| Int.toNat 0 : Nat) : Int)), some (vI ((k : Int) + 1))] [] μ R from ⟨by omega, by omega, ?_⟩)
        exfalso; omega
      ·
        refine seg 8 (show (0 ≤ 1 ∧ 0 ≤ (k : Int) ∧ (k : Int) < 31 ∧ 1 * 2 ^ ((k : Int) : Int).toNat ≤ 2147483647) ∧ (0 ≤ (bs (fun k => (og G s r k).1 = o) k) ∧ 0 ≤ (1 * 2 ^ ((k : Int) : Int).toNat)) ∧ iR ((k : Int) + 1) ∧ Wp 150 5 [some (vR 47), some (vI r), some (vI o), some (vI ((Int.toNat (bs (fun k => (og G s r k).1 = o) k) ||| Int.toNat (1 * 2 ^ ((k : Int) : Int).toNat) : Nat) : Int)), some (vI ((k : Int) + 1))] [] μ R from ⟨by omega, by omega, by omega, ?_⟩)
        exfalso; omega
  | succ n ih =>
    intro k hn0
    have hp : k < 8 → 1 * 2 ^ ((k : Int)).toNat ≤ (128 : Int) ∧ (0 : Int) ≤ 1 * 2 ^ ((k : Int)).toNat := fun z => pw_le (k := (k : Int)) (by omega)
    have hb := bs_nn (fun k => (og G s r k).1 = o) k
    have et := (hT r (k : Int) hr.1 hr.2 (by omega) (by omega)).1
    have ho := og_lt hm.1 s hr (k := (k : Int)) (by omega)
    refine seg 6 (show (0 ≤ r ∧ r < 8) ∧ (μ 48 r ≤ (k : Int) → Wp 150 49 [some (vR 47), some (vI r), some (vI o), some (vI (bs (fun k => (og G s r k).1 = o) k)), some (vI (k : Int))] [] μ R) ∧ (¬ (μ 48 r ≤ (k : Int)) → Wp 150 16 [some (vR 47), some (vI r), some (vI o), some (vI (bs (fun k => (og G s r k).1 = o) k)), some (vI (k : Int))] [] μ R) from ⟨by omega, fun c3 => ?_, fun c3 => ?_⟩)
    ·
      refine seg 2 (show R (some (vI (bs (fun k => (og G s r k).1 = o) k))) μ from ?_)
      first | (exfalso; omega) | (rw [show (hS G r).toNat = k by omega] at hkk; exact hkk)
    ·
      refine seg 11 (show iR (8 * r) ∧ iR ((8 * r) + (k : Int)) ∧ (0 ≤ ((8 * r) + (k : Int)) ∧ ((8 * r) + (k : Int)) < 64) ∧ (¬ (μ 60 ((8 * r) + (k : Int)) = o) → Wp 150 40 [some (vR 47), some (vI r), some (vI o), some (vI (bs (fun k => (og G s r k).1 = o) k)), some (vI (k : Int))] [vI (bs (fun k => (og G s r k).1 = o) k)] μ R) ∧ (μ 60 ((8 * r) + (k : Int)) = o → Wp 150 33 [some (vR 47), some (vI r), some (vI o), some (vI (bs (fun k => (og G s r k).1 = o) k)), some (vI (k : Int))] [vI (bs (fun k => (og G s r k).1 = o) k)] μ R) from ⟨by omega, by omega, by omega, fun c4 => ?_, fun c4 => ?_⟩)
      ·
        refine seg 5 (show (0 ≤ (bs (fun k => (og G s r k).1 = o) k) ∧ 0 ≤ 0) ∧ iR ((k : Int) + 1) ∧ Wp 150 5 [some (vR 47), some (vI r), some (vI o), some (vI ((Int.toNat (bs (fun k => (og G s r k).1 = o) k) ||| Int.toNat 0 : Nat) : Int)), some (vI ((k : Int) + 1))] [] μ R from ⟨by omega, by omega, ?_⟩)
        have := ih (k + 1) (by omega)
        first
        | (exfalso; omega)
        | (rw [bs_y (P := (fun k => (og G s r k).1 = o)) (by omega)] at this; exact this)
        | (rw [bs_n (P := (fun k => (og G s r k).1 = o)) (by omega)] at this; rw [or0 hb]; exact this)
      ·
        refine seg 8 (show (0 ≤ 1 ∧ 0 ≤ (k : Int) ∧ (k : Int) < 31 ∧ 1 * 2 ^ ((k : Int) : Int).toNat ≤ 2147483647) ∧ (0 ≤ (bs (fun k => (og G s r k).1 = o) k) ∧ 0 ≤ (1 * 2 ^ ((k : Int) : Int).toNat)) ∧ iR ((k : Int) + 1) ∧ Wp 150 5 [some (vR 47), some (vI r), some (vI o), some (vI ((Int.toNat (bs (fun k => (og G s r k).1 = o) k) ||| Int.toNat (1 * 2 ^ ((k : Int) : Int).toNat) : Nat) : Int)), some (vI ((k : Int) + 1))] [] μ R from ⟨by omega, by omega, by omega, ?_⟩)
        have := ih (k + 1) (by omega)
        first
        | (exfalso; omega)
        | (rw [bs_y (P := (fun k => (og G s r k).1 = o)) (by omega)] at this; exact this)
        | (rw [bs_n (P := (fun k => (og G s r k).1 = o)) (by omega)] at this; rw [or0 hb]; exact this)
theorem n150 {G : Hi} {s : Se} {R : Po} {μ : Mu} {r o : Int} (hm : MH G μ) (hT : ∀ r2 k2, 0 ≤ r2 → r2 < hN G → 0 ≤ k2 → k2 < hS G r2 → TrM G s (μ 60) (μ 61) r2 k2) (hr : 0 ≤ r ∧ r < hN G) (hk : R (some (vI (LF G s o r))) μ) : Wp 150 0 [some (vR 47), some (vI r), some (vI o), none, none] [] μ R := by
  have hsr := hm.1.s hr
  refine seg 4 (show Wp 150 5 [some (vR 47), some (vI r), some (vI o), some (vI 0), some (vI 0)] [] μ R from ?_)
  exact l150 hm hT hr hk (hS G r).toNat 0 (by omega)
theorem d148 {G : Hi} {T : Tx} {s : Se} {U : Un} {im : Int → Option Se} {N : Sn} {R : Po} {μ : Mu} (hrm : RM G T s U im N μ) {r f : Int} (hk : ∀ μ2 : Mu, RM G T s U im N μ2 → (∀ q, q < 47 → μ2 q = μ q) → R (some (vI (aBegun G s r f))) μ2) : Wp 148 0 [some (vR 47), some (vI r), some (vI f), none, none] [] μ R := by
  have hg := hrm.1
  have hm := hg.1
  have h8 := hm.1.n
  have hs := hrm.2.1
  have hok := hrm.2.2.1
  refine seg 3 (show Wp 120 0 [some (vR 47), some (vI r)] [] μ (fun rr μ' => Wp 148 5 [some (vR 47), some (vI r), some (vI f), none, none] (rr.toList ++ []) μ' R) from ?_)
  refine n120 hm (fun b1 => ?_) (fun b1 => ?_)
  ·
    refine seg 1 (show (1 = 0 → Wp 148 16 [some (vR 47), some (vI r), some (vI f), none, none] [] μ R) ∧ (¬ (1 = 0) → Wp 148 8 [some (vR 47), some (vI r), some (vI f), none, none] [] μ R) from ⟨fun z => absurd z (by decide), fun _ => ?_⟩)
    refine seg 3 (show Wp 120 0 [some (vR 47), some (vI f)] [] μ (fun rr μ' => Wp 148 13 [some (vR 47), some (vI r), some (vI f), none, none] (rr.toList ++ []) μ' R) from ?_)
    refine n120 hm (fun b2 => ?_) (fun b2 => ?_)
    ·
      refine seg 1 (show (¬ (1 = 0) → Wp 148 18 [some (vR 47), some (vI r), some (vI f), none, none] [] μ R) ∧ (1 = 0 → Wp 148 16 [some (vR 47), some (vI r), some (vI f), none, none] [] μ R) from ⟨fun _ => ?_, fun z => absurd z (by decide)⟩)
      refine seg 2 (show Wp 139 0 [some (vR 47), none, none, none, none] [] μ (fun rr μ' => Wp 148 22 [some (vR 47), some (vI r), some (vI f), none, none] (rr.toList ++ []) μ' R) from ?_)
      refine n139 hg hs hok (fun μ1 f1 t1 => ?_)
      have hrm1 : RM G T s U im N μ1 := hrm.fr (fun q a b c d e f g => f1 q f g)
      have fr1 : ∀ q, q < 47 → μ1 q = μ q := fun q hq => f1 q (by omega) (by omega)
      have hm1 := hrm1.1.1
      refine seg 4 (show Wp 148 27 [some (vR 47), some (vI r), some (vI f), some (vI 0), some (vI 0)] [] μ1 R from ?_)
      have hsr := hm.1.s (r := r) (by omega)
      have := hk μ1 hrm1 fr1
      unfold aBegun at this
      rw [if_pos (by omega)] at this
      exact l148 hm1 t1 (by omega) this (hS G r).toNat 0 (by omega)
    ·
      refine seg 1 (show (¬ (0 = 0) → Wp 148 18 [some (vR 47), some (vI r), some (vI f), none, none] [] μ R) ∧ (0 = 0 → Wp 148 16 [some (vR 47), some (vI r), some (vI f), none, none] [] μ R) from ⟨fun z => absurd z (by decide), fun _ => ?_⟩)
      refine seg 2 (show R (some (vI (-1))) μ from ?_)
      have e : aBegun G s r f = -1 := by
        unfold aBegun
        repeat (first | rw [if_pos (by first | omega | assumption)] | rw [if_neg (by first | omega | assumption)])
      have := hk μ hrm (fun _ _ => rfl); rw [e] at this; exact this
  ·
    refine seg 1 (show (0 = 0 → Wp 148 16 [some (vR 47), some (vI r), some (vI f), none, none] [] μ R) ∧ (¬ (0 = 0) → Wp 148 8 [some (vR 47), some (vI r), some (vI f), none, none] [] μ R) from ⟨fun _ => ?_, fun z => absurd z (by decide)⟩)
    refine seg 2 (show R (some (vI (-1))) μ from ?_)
    have e : aBegun G s r f = -1 := by
      unfold aBegun
      repeat (first | rw [if_pos (by first | omega | assumption)] | rw [if_neg (by first | omega | assumption)])
    have := hk μ hrm (fun _ _ => rfl); rw [e] at this; exact this
theorem d151 {G : Hi} {T : Tx} {s : Se} {U : Un} {im : Int → Option Se} {N : Sn} {R : Po} {μ : Mu} (hrm : RM G T s U im N μ) {r k o : Int} (hk : ∀ μ2 : Mu, RM G T s U im N μ2 → (∀ q, q < 47 → μ2 q = μ q) → R (some (vI (aLike G s r k o))) μ2) : Wp 151 0 [some (vR 47), some (vI r), some (vI k), some (vI o)] [] μ R := by
  have hg := hrm.1
  have hm := hg.1
  have h8 := hm.1.n
  have hs := hrm.2.1
  have hok := hrm.2.2.1
  refine seg 4 (show Wp 121 0 [some (vR 47), some (vI r), some (vI k)] [] μ (fun rr μ' => Wp 151 6 [some (vR 47), some (vI r), some (vI k), some (vI o)] (rr.toList ++ []) μ' R) from ?_)
  refine n121 hm (fun b1 => ?_) (fun b1 => ?_)
  ·
    refine seg 1 (show (1 = 0 → Wp 151 17 [some (vR 47), some (vI r), some (vI k), some (vI o)] [] μ R) ∧ (¬ (1 = 0) → Wp 151 9 [some (vR 47), some (vI r), some (vI k), some (vI o)] [] μ R) from ⟨fun z => absurd z (by decide), fun _ => ?_⟩)
    refine seg 3 (show Wp 120 0 [some (vR 47), some (vI o)] [] μ (fun rr μ' => Wp 151 14 [some (vR 47), some (vI r), some (vI k), some (vI o)] (rr.toList ++ []) μ' R) from ?_)
    refine n120 hm (fun b2 => ?_) (fun b2 => ?_)
    ·
      refine seg 1 (show (¬ (1 = 0) → Wp 151 19 [some (vR 47), some (vI r), some (vI k), some (vI o)] [] μ R) ∧ (1 = 0 → Wp 151 17 [some (vR 47), some (vI r), some (vI k), some (vI o)] [] μ R) from ⟨fun _ => ?_, fun z => absurd z (by decide)⟩)
      refine seg 2 (show Wp 139 0 [some (vR 47), none, none, none, none] [] μ (fun rr μ' => Wp 151 23 [some (vR 47), some (vI r), some (vI k), some (vI o)] (rr.toList ++ []) μ' R) from ?_)
      refine n139 hg hs hok (fun μ1 f1 t1 => ?_)
      have hrm1 : RM G T s U im N μ1 := hrm.fr (fun q a b c d e f g => f1 q f g)
      have fr1 : ∀ q, q < 47 → μ1 q = μ q := fun q hq => f1 q (by omega) (by omega)
      have hm1 := hrm1.1.1
      refine seg 11 (show iR (8 * r) ∧ iR ((8 * r) + k) ∧ (0 ≤ ((8 * r) + k) ∧ ((8 * r) + k) < 64) ∧ Wp 150 0 [some (vR 47), some (vI o), some (vI (μ1 60 ((8 * r) + k))), none, none] [] μ1 (fun rr μ' => Wp 151 39 [some (vR 47), some (vI r), some (vI k), some (vI o)] (rr.toList ++ []) μ' R) from ⟨by first | omega | (have hz := hm.1.s (r := r) (by omega); omega), by first | omega | (have hz := hm.1.s (r := r) (by omega); omega), by first | omega | (have hz := hm.1.s (r := r) (by omega); omega), ?_⟩)
      refine n150 hm1 t1 (by omega) ?_
      refine seg 1 (show R (some (vI (LF G s (μ1 60 ((8 * r) + k)) o))) μ1 from ?_)
      have e1 := (t1 r k (by omega) (by omega) (by omega) (by omega)).1
      rw [e1]
      have e : aLike G s r k o = LF G s (og G s r k).1 o := by
        unfold aLike; rw [if_pos (by omega)]
      have := hk μ1 hrm1 fr1; rw [e] at this; exact this
    ·
      refine seg 1 (show (¬ (0 = 0) → Wp 151 19 [some (vR 47), some (vI r), some (vI k), some (vI o)] [] μ R) ∧ (0 = 0 → Wp 151 17 [some (vR 47), some (vI r), some (vI k), some (vI o)] [] μ R) from ⟨fun z => absurd z (by decide), fun _ => ?_⟩)
      refine seg 2 (show R (some (vI (-1))) μ from ?_)
      have e : aLike G s r k o = -1 := by
        unfold aLike; rw [if_neg (by omega)]
      have := hk μ hrm (fun _ _ => rfl); rw [e] at this; exact this
  ·
    refine seg 1 (show (0 = 0 → Wp 151 17 [some (vR 47), some (vI r), some (vI k), some (vI o)] [] μ R) ∧ (¬ (0 = 0) → Wp 151 9 [some (vR 47), some (vI r), some (vI k), some (vI o)] [] μ R) from ⟨fun _ => ?_, fun z => absurd z (by decide)⟩)
    refine seg 2 (show R (some (vI (-1))) μ from ?_)
    have e : aLike G s r k o = -1 := by
      unfold aLike; rw [if_neg (by omega)]
    have := hk μ hrm (fun _ _ => rfl); rw [e] at this; exact this
theorem l152 {G : Hi} {s : Se} {R : Po} {μ : Mu} {r k : Int} (hm : MH G μ) (hT : ∀ r2 k2, 0 ≤ r2 → r2 < hN G → 0 ≤ k2 → k2 < hS G r2 → TrM G s (μ 60) (μ 61) r2 k2) (hr : vLn G r k) (hkk : R (some (vI (bs (fun q => LF G s (r * 8 + k) q ≠ 0) (hN G).toNat))) μ) : ∀ (n q : Nat), hN G - (q : Int) = n → Wp 152 20 [some (vR 47), some (vI r), some (vI k), some (vI (bs (fun q => LF G s (r * 8 + k) q ≠ 0) q)), some (vI (q : Int))] [] μ R := by
  have h8 := hm.1.n
  have hsr := hm.1.s (r := r) (by omega)
  have e0 := hm.2.1
  have e8 : 8 * r + k = r * 8 + k := by omega
  intro n
  induction n with
  | zero =>
    intro q hn0
    have hp : q < 8 → 1 * 2 ^ ((q : Int)).toNat ≤ (128 : Int) ∧ (0 : Int) ≤ 1 * 2 ^ ((q : Int)).toNat := fun z => pw_le (k := (q : Int)) (by omega)
    have hb := bs_nn (fun q => LF G s (r * 8 + k) q ≠ 0) q
    refine seg 4 (show (μ 47 0 ≤ (q : Int) → Wp 152 61 [some (vR 47), some (vI r), some (vI k), some (vI (bs (fun q => LF G s (r * 8 + k) q ≠ 0) q)), some (vI (q : Int))] [] μ R) ∧ (¬ (μ 47 0 ≤ (q : Int)) → Wp 152 29 [some (vR 47), some (vI r), some (vI k), some (vI (bs (fun q => LF G s (r * 8 + k) q ≠ 0) q)), some (vI (q : Int))] [] μ R) from ⟨fun c1 => ?_, fun c1 => ?_⟩)
    ·
      refine seg 2 (show R (some (vI (bs (fun q => LF G s (r * 8 + k) q ≠ 0) q))) μ from ?_)
      first | (exfalso; omega) | (rw [show (hN G).toNat = q by omega] at hkk; exact hkk)
    ·
      refine seg 9 (show iR (8 * r) ∧ iR ((8 * r) + k) ∧ Wp 150 0 [some (vR 47), some (vI (q : Int)), some (vI ((8 * r) + k)), none, none] [] μ (fun rr μ' => Wp 152 42 [some (vR 47), some (vI r), some (vI k), some (vI (bs (fun q => LF G s (r * 8 + k) q ≠ 0) q)), some (vI (q : Int))] (rr.toList ++ [vI (bs (fun q => LF G s (r * 8 + k) q ≠ 0) q)]) μ' R) from ⟨by omega, by omega, ?_⟩)
      refine n150 hm hT (by omega) ?_
      refine seg 1 (show (LF G s ((8 * r) + k) (q : Int) = 0 → Wp 152 52 [some (vR 47), some (vI r), some (vI k), some (vI (bs (fun q => LF G s (r * 8 + k) q ≠ 0) q)), some (vI (q : Int))] [vI (bs (fun q => LF G s (r * 8 + k) q ≠ 0) q)] μ R) ∧ (¬ (LF G s ((8 * r) + k) (q : Int) = 0) → Wp 152 45 [some (vR 47), some (vI r), some (vI k), some (vI (bs (fun q => LF G s (r * 8 + k) q ≠ 0) q)), some (vI (q : Int))] [vI (bs (fun q => LF G s (r * 8 + k) q ≠ 0) q)] μ R) from ⟨fun c2 => ?_, fun c2 => ?_⟩)
      ·
        refine seg 5 (show (0 ≤ (bs (fun q => LF G s (r * 8 + k) q ≠ 0) q) ∧ 0 ≤ 0) ∧ iR ((q : Int) + 1) ∧ Wp 152 20 [some (vR 47), some (vI r), some (vI k), some (vI ((Int.toNat (bs (fun q => LF G s (r * 8 + k) q ≠ 0) q) ||| Int.toNat 0 : Nat) : Int)), some (vI ((q : Int) + 1))] [] μ R from ⟨by omega, by omega, ?_⟩)
        exfalso; omega
      ·
        refine seg 8 (show (0 ≤ 1 ∧ 0 ≤ (q : Int) ∧ (q : Int) < 31 ∧ 1 * 2 ^ ((q : Int) : Int).toNat ≤ 2147483647) ∧ (0 ≤ (bs (fun q => LF G s (r * 8 + k) q ≠ 0) q) ∧ 0 ≤ (1 * 2 ^ ((q : Int) : Int).toNat)) ∧ iR ((q : Int) + 1) ∧ Wp 152 20 [some (vR 47), some (vI r), some (vI k), some (vI ((Int.toNat (bs (fun q => LF G s (r * 8 + k) q ≠ 0) q) ||| Int.toNat (1 * 2 ^ ((q : Int) : Int).toNat) : Nat) : Int)), some (vI ((q : Int) + 1))] [] μ R from ⟨by omega, by omega, by omega, ?_⟩)
        exfalso; omega
  | succ n ih =>
    intro q hn0
    have hp : q < 8 → 1 * 2 ^ ((q : Int)).toNat ≤ (128 : Int) ∧ (0 : Int) ≤ 1 * 2 ^ ((q : Int)).toNat := fun z => pw_le (k := (q : Int)) (by omega)
    have hb := bs_nn (fun q => LF G s (r * 8 + k) q ≠ 0) q
    refine seg 4 (show (μ 47 0 ≤ (q : Int) → Wp 152 61 [some (vR 47), some (vI r), some (vI k), some (vI (bs (fun q => LF G s (r * 8 + k) q ≠ 0) q)), some (vI (q : Int))] [] μ R) ∧ (¬ (μ 47 0 ≤ (q : Int)) → Wp 152 29 [some (vR 47), some (vI r), some (vI k), some (vI (bs (fun q => LF G s (r * 8 + k) q ≠ 0) q)), some (vI (q : Int))] [] μ R) from ⟨fun c3 => ?_, fun c3 => ?_⟩)
    ·
      refine seg 2 (show R (some (vI (bs (fun q => LF G s (r * 8 + k) q ≠ 0) q))) μ from ?_)
      first | (exfalso; omega) | (rw [show (hN G).toNat = q by omega] at hkk; exact hkk)
    ·
      refine seg 9 (show iR (8 * r) ∧ iR ((8 * r) + k) ∧ Wp 150 0 [some (vR 47), some (vI (q : Int)), some (vI ((8 * r) + k)), none, none] [] μ (fun rr μ' => Wp 152 42 [some (vR 47), some (vI r), some (vI k), some (vI (bs (fun q => LF G s (r * 8 + k) q ≠ 0) q)), some (vI (q : Int))] (rr.toList ++ [vI (bs (fun q => LF G s (r * 8 + k) q ≠ 0) q)]) μ' R) from ⟨by omega, by omega, ?_⟩)
      refine n150 hm hT (by omega) ?_
      refine seg 1 (show (LF G s ((8 * r) + k) (q : Int) = 0 → Wp 152 52 [some (vR 47), some (vI r), some (vI k), some (vI (bs (fun q => LF G s (r * 8 + k) q ≠ 0) q)), some (vI (q : Int))] [vI (bs (fun q => LF G s (r * 8 + k) q ≠ 0) q)] μ R) ∧ (¬ (LF G s ((8 * r) + k) (q : Int) = 0) → Wp 152 45 [some (vR 47), some (vI r), some (vI k), some (vI (bs (fun q => LF G s (r * 8 + k) q ≠ 0) q)), some (vI (q : Int))] [vI (bs (fun q => LF G s (r * 8 + k) q ≠ 0) q)] μ R) from ⟨fun c4 => ?_, fun c4 => ?_⟩)
      ·
        refine seg 5 (show (0 ≤ (bs (fun q => LF G s (r * 8 + k) q ≠ 0) q) ∧ 0 ≤ 0) ∧ iR ((q : Int) + 1) ∧ Wp 152 20 [some (vR 47), some (vI r), some (vI k), some (vI ((Int.toNat (bs (fun q => LF G s (r * 8 + k) q ≠ 0) q) ||| Int.toNat 0 : Nat) : Int)), some (vI ((q : Int) + 1))] [] μ R from ⟨by omega, by omega, ?_⟩)
        have := ih (q + 1) (by omega)
        first
        | (exfalso; omega)
        | (rw [bs_y (P := (fun q => LF G s (r * 8 + k) q ≠ 0)) (by rw [← e8]; assumption)] at this; exact this)
        | (rw [bs_n (P := (fun q => LF G s (r * 8 + k) q ≠ 0)) (by rw [← e8]; intro z; exact z (by assumption))] at this; rw [or0 hb]; exact this)
      ·
        refine seg 8 (show (0 ≤ 1 ∧ 0 ≤ (q : Int) ∧ (q : Int) < 31 ∧ 1 * 2 ^ ((q : Int) : Int).toNat ≤ 2147483647) ∧ (0 ≤ (bs (fun q => LF G s (r * 8 + k) q ≠ 0) q) ∧ 0 ≤ (1 * 2 ^ ((q : Int) : Int).toNat)) ∧ iR ((q : Int) + 1) ∧ Wp 152 20 [some (vR 47), some (vI r), some (vI k), some (vI ((Int.toNat (bs (fun q => LF G s (r * 8 + k) q ≠ 0) q) ||| Int.toNat (1 * 2 ^ ((q : Int) : Int).toNat) : Nat) : Int)), some (vI ((q : Int) + 1))] [] μ R from ⟨by omega, by omega, by omega, ?_⟩)
        have := ih (q + 1) (by omega)
        first
        | (exfalso; omega)
        | (rw [bs_y (P := (fun q => LF G s (r * 8 + k) q ≠ 0)) (by rw [← e8]; assumption)] at this; exact this)
        | (rw [bs_n (P := (fun q => LF G s (r * 8 + k) q ≠ 0)) (by rw [← e8]; intro z; exact z (by assumption))] at this; rw [or0 hb]; exact this)
theorem d152 {G : Hi} {T : Tx} {s : Se} {U : Un} {im : Int → Option Se} {N : Sn} {R : Po} {μ : Mu} (hrm : RM G T s U im N μ) {r k : Int} (hk : ∀ μ2 : Mu, RM G T s U im N μ2 → (∀ q, q < 47 → μ2 q = μ q) → R (some (vI (aCarr G s r k))) μ2) : Wp 152 0 [some (vR 47), some (vI r), some (vI k), none, none] [] μ R := by
  have hg := hrm.1
  have hm := hg.1
  have h8 := hm.1.n
  have hs := hrm.2.1
  have hok := hrm.2.2.1
  refine seg 4 (show Wp 121 0 [some (vR 47), some (vI r), some (vI k)] [] μ (fun rr μ' => Wp 152 6 [some (vR 47), some (vI r), some (vI k), none, none] (rr.toList ++ []) μ' R) from ?_)
  refine n121 hm (fun b1 => ?_) (fun b1 => ?_)
  ·
    refine seg 1 (show (¬ (1 = 0) → Wp 152 11 [some (vR 47), some (vI r), some (vI k), none, none] [] μ R) ∧ (1 = 0 → Wp 152 9 [some (vR 47), some (vI r), some (vI k), none, none] [] μ R) from ⟨fun _ => ?_, fun z => absurd z (by decide)⟩)
    refine seg 2 (show Wp 139 0 [some (vR 47), none, none, none, none] [] μ (fun rr μ' => Wp 152 15 [some (vR 47), some (vI r), some (vI k), none, none] (rr.toList ++ []) μ' R) from ?_)
    refine n139 hg hs hok (fun μ1 f1 t1 => ?_)
    have hrm1 : RM G T s U im N μ1 := hrm.fr (fun q a b c d e f g => f1 q f g)
    have fr1 : ∀ q, q < 47 → μ1 q = μ q := fun q hq => f1 q (by omega) (by omega)
    have hm1 := hrm1.1.1
    refine seg 4 (show Wp 152 20 [some (vR 47), some (vI r), some (vI k), some (vI 0), some (vI 0)] [] μ1 R from ?_)
    have := hk μ1 hrm1 fr1
    unfold aCarr at this
    rw [if_pos (by omega)] at this
    exact l152 hm1 t1 (by omega) this (hN G).toNat 0 (by omega)
  ·
    refine seg 1 (show (¬ (0 = 0) → Wp 152 11 [some (vR 47), some (vI r), some (vI k), none, none] [] μ R) ∧ (0 = 0 → Wp 152 9 [some (vR 47), some (vI r), some (vI k), none, none] [] μ R) from ⟨fun z => absurd z (by decide), fun _ => ?_⟩)
    refine seg 2 (show R (some (vI (-1))) μ from ?_)
    have e : aCarr G s r k = -1 := by
      unfold aCarr
      repeat (first | rw [if_pos (by first | omega | assumption)] | rw [if_neg (by first | omega | assumption)])
    have := hk μ hrm (fun _ _ => rfl); rw [e] at this; exact this
theorem l153 {G : Hi} {s : Se} {R : Po} {μ : Mu} {r o : Int} (hm : MH G μ) (hT : ∀ r2 k2, 0 ≤ r2 → r2 < hN G → 0 ≤ k2 → k2 < hS G r2 → TrM G s (μ 60) (μ 61) r2 k2) (hr : 0 ≤ r ∧ r < hN G) (ho : 0 ≤ o ∧ o < hN G) (hkk : R (some (vI (cn (fun k => LF G s (r * 8 + k) o ≠ 0) (hS G r).toNat))) μ) : ∀ (n k : Nat) (o5 : Option PV), hS G r - (k : Int) = n → Wp 153 27 [some (vR 47), some (vI r), some (vI o), some (vI (cn (fun k => LF G s (r * 8 + k) o ≠ 0) k)), some (vI (k : Int)), o5] [] μ R := by
  have h8 := hm.1.n
  have hsr := hm.1.s hr
  have er := (hm.2.2 r hr.1 hr.2).1
  intro n
  induction n with
  | zero =>
    intro k o5 hn0
    have hb := cn_rg (fun k => LF G s (r * 8 + k) o ≠ 0) k
    refine seg 6 (show (0 ≤ r ∧ r < 8) ∧ (μ 48 r ≤ (k : Int) → Wp 153 101 [some (vR 47), some (vI r), some (vI o), some (vI (cn (fun k => LF G s (r * 8 + k) o ≠ 0) k)), some (vI (k : Int)), o5] [] μ R) ∧ (¬ (μ 48 r ≤ (k : Int)) → Wp 153 38 [some (vR 47), some (vI r), some (vI o), some (vI (cn (fun k => LF G s (r * 8 + k) o ≠ 0) k)), some (vI (k : Int)), o5] [] μ R) from ⟨by omega, fun c1 => ?_, fun c1 => ?_⟩)
    ·
      refine seg 2 (show R (some (vI (cn (fun k => LF G s (r * 8 + k) o ≠ 0) k))) μ from ?_)
      first | (exfalso; omega) | (rw [show (hS G r).toNat = k by omega] at hkk; exact hkk)
    ·
      refine seg 14 (show iR (8 * r) ∧ iR ((8 * r) + (k : Int)) ∧ (0 ≤ ((8 * r) + (k : Int)) ∧ ((8 * r) + (k : Int)) < 64) ∧ iR (8 * r) ∧ iR ((8 * r) + (k : Int)) ∧ (¬ (μ 60 ((8 * r) + (k : Int)) = (8 * r) + (k : Int)) → Wp 153 64 [some (vR 47), some (vI r), some (vI o), some (vI (cn (fun k => LF G s (r * 8 + k) o ≠ 0) k)), some (vI (k : Int)), o5] [] μ R) ∧ (μ 60 ((8 * r) + (k : Int)) = (8 * r) + (k : Int) → Wp 153 60 [some (vR 47), some (vI r), some (vI o), some (vI (cn (fun k => LF G s (r * 8 + k) o ≠ 0) k)), some (vI (k : Int)), o5] [] μ R) from ⟨by omega, by omega, by omega, by omega, by omega, fun c2 => ?_, fun c2 => ?_⟩)
      ·
        refine seg 5 (show (0 = 0 → Wp 153 92 [some (vR 47), some (vI r), some (vI o), some (vI (cn (fun k => LF G s (r * 8 + k) o ≠ 0) k)), some (vI (k : Int)), some (vI 0)] [vI (cn (fun k => LF G s (r * 8 + k) o ≠ 0) k)] μ R) ∧ (¬ (0 = 0) → Wp 153 73 [some (vR 47), some (vI r), some (vI o), some (vI (cn (fun k => LF G s (r * 8 + k) o ≠ 0) k)), some (vI (k : Int)), some (vI 0)] [vI (cn (fun k => LF G s (r * 8 + k) o ≠ 0) k)] μ R) from ⟨fun _ => ?_, fun z => absurd z (by decide)⟩)
        refine seg 5 (show iR ((cn (fun k => LF G s (r * 8 + k) o ≠ 0) k) + 0) ∧ iR ((k : Int) + 1) ∧ Wp 153 27 [some (vR 47), some (vI r), some (vI o), some (vI ((cn (fun k => LF G s (r * 8 + k) o ≠ 0) k) + 0)), some (vI ((k : Int) + 1)), some (vI 0)] [] μ R from ⟨by omega, by omega, ?_⟩)
        exfalso; omega
      ·
        refine seg 6 (show (1 = 0 → Wp 153 92 [some (vR 47), some (vI r), some (vI o), some (vI (cn (fun k => LF G s (r * 8 + k) o ≠ 0) k)), some (vI (k : Int)), some (vI 1)] [vI (cn (fun k => LF G s (r * 8 + k) o ≠ 0) k)] μ R) ∧ (¬ (1 = 0) → Wp 153 73 [some (vR 47), some (vI r), some (vI o), some (vI (cn (fun k => LF G s (r * 8 + k) o ≠ 0) k)), some (vI (k : Int)), some (vI 1)] [vI (cn (fun k => LF G s (r * 8 + k) o ≠ 0) k)] μ R) from ⟨fun z => absurd z (by decide), fun _ => ?_⟩)
        refine seg 8 (show iR (8 * r) ∧ iR ((8 * r) + (k : Int)) ∧ Wp 150 0 [some (vR 47), some (vI o), some (vI ((8 * r) + (k : Int))), none, none] [] μ (fun rr μ' => Wp 153 85 [some (vR 47), some (vI r), some (vI o), some (vI (cn (fun k => LF G s (r * 8 + k) o ≠ 0) k)), some (vI (k : Int)), some (vI 1)] (rr.toList ++ [vI (cn (fun k => LF G s (r * 8 + k) o ≠ 0) k)]) μ' R) from ⟨by omega, by omega, ?_⟩)
        refine n150 hm hT (by omega) ?_
        refine seg 1 (show (LF G s ((8 * r) + (k : Int)) o = 0 → Wp 153 92 [some (vR 47), some (vI r), some (vI o), some (vI (cn (fun k => LF G s (r * 8 + k) o ≠ 0) k)), some (vI (k : Int)), some (vI 1)] [vI (cn (fun k => LF G s (r * 8 + k) o ≠ 0) k)] μ R) ∧ (¬ (LF G s ((8 * r) + (k : Int)) o = 0) → Wp 153 88 [some (vR 47), some (vI r), some (vI o), some (vI (cn (fun k => LF G s (r * 8 + k) o ≠ 0) k)), some (vI (k : Int)), some (vI 1)] [vI (cn (fun k => LF G s (r * 8 + k) o ≠ 0) k)] μ R) from ⟨fun c3 => ?_, fun c3 => ?_⟩)
        ·
          refine seg 5 (show iR ((cn (fun k => LF G s (r * 8 + k) o ≠ 0) k) + 0) ∧ iR ((k : Int) + 1) ∧ Wp 153 27 [some (vR 47), some (vI r), some (vI o), some (vI ((cn (fun k => LF G s (r * 8 + k) o ≠ 0) k) + 0)), some (vI ((k : Int) + 1)), some (vI 1)] [] μ R from ⟨by omega, by omega, ?_⟩)
          exfalso; omega
        ·
          refine seg 6 (show iR ((cn (fun k => LF G s (r * 8 + k) o ≠ 0) k) + 1) ∧ iR ((k : Int) + 1) ∧ Wp 153 27 [some (vR 47), some (vI r), some (vI o), some (vI ((cn (fun k => LF G s (r * 8 + k) o ≠ 0) k) + 1)), some (vI ((k : Int) + 1)), some (vI 1)] [] μ R from ⟨by omega, by omega, ?_⟩)
          exfalso; omega
  | succ n ih =>
    intro k o5 hn0
    have hb := cn_rg (fun k => LF G s (r * 8 + k) o ≠ 0) k
    have et := (hT r (k : Int) hr.1 hr.2 (by omega) (by omega)).1
    have hoo := og_lt hm.1 s hr (k := (k : Int)) (by omega)
    have e8 : 8 * r + (k : Int) = r * 8 + (k : Int) := by omega
    have hown := LF_own hm.1 (s := s) (r := r) (k := (k : Int)) (o := o) hr (by omega) ho
    refine seg 6 (show (0 ≤ r ∧ r < 8) ∧ (μ 48 r ≤ (k : Int) → Wp 153 101 [some (vR 47), some (vI r), some (vI o), some (vI (cn (fun k => LF G s (r * 8 + k) o ≠ 0) k)), some (vI (k : Int)), o5] [] μ R) ∧ (¬ (μ 48 r ≤ (k : Int)) → Wp 153 38 [some (vR 47), some (vI r), some (vI o), some (vI (cn (fun k => LF G s (r * 8 + k) o ≠ 0) k)), some (vI (k : Int)), o5] [] μ R) from ⟨by omega, fun c4 => ?_, fun c4 => ?_⟩)
    ·
      refine seg 2 (show R (some (vI (cn (fun k => LF G s (r * 8 + k) o ≠ 0) k))) μ from ?_)
      first | (exfalso; omega) | (rw [show (hS G r).toNat = k by omega] at hkk; exact hkk)
    ·
      refine seg 14 (show iR (8 * r) ∧ iR ((8 * r) + (k : Int)) ∧ (0 ≤ ((8 * r) + (k : Int)) ∧ ((8 * r) + (k : Int)) < 64) ∧ iR (8 * r) ∧ iR ((8 * r) + (k : Int)) ∧ (¬ (μ 60 ((8 * r) + (k : Int)) = (8 * r) + (k : Int)) → Wp 153 64 [some (vR 47), some (vI r), some (vI o), some (vI (cn (fun k => LF G s (r * 8 + k) o ≠ 0) k)), some (vI (k : Int)), o5] [] μ R) ∧ (μ 60 ((8 * r) + (k : Int)) = (8 * r) + (k : Int) → Wp 153 60 [some (vR 47), some (vI r), some (vI o), some (vI (cn (fun k => LF G s (r * 8 + k) o ≠ 0) k)), some (vI (k : Int)), o5] [] μ R) from ⟨by omega, by omega, by omega, by omega, by omega, fun c5 => ?_, fun c5 => ?_⟩)
      ·
        refine seg 5 (show (0 = 0 → Wp 153 92 [some (vR 47), some (vI r), some (vI o), some (vI (cn (fun k => LF G s (r * 8 + k) o ≠ 0) k)), some (vI (k : Int)), some (vI 0)] [vI (cn (fun k => LF G s (r * 8 + k) o ≠ 0) k)] μ R) ∧ (¬ (0 = 0) → Wp 153 73 [some (vR 47), some (vI r), some (vI o), some (vI (cn (fun k => LF G s (r * 8 + k) o ≠ 0) k)), some (vI (k : Int)), some (vI 0)] [vI (cn (fun k => LF G s (r * 8 + k) o ≠ 0) k)] μ R) from ⟨fun _ => ?_, fun z => absurd z (by decide)⟩)
        refine seg 5 (show iR ((cn (fun k => LF G s (r * 8 + k) o ≠ 0) k) + 0) ∧ iR ((k : Int) + 1) ∧ Wp 153 27 [some (vR 47), some (vI r), some (vI o), some (vI ((cn (fun k => LF G s (r * 8 + k) o ≠ 0) k) + 0)), some (vI ((k : Int) + 1)), some (vI 0)] [] μ R from ⟨by omega, by omega, ?_⟩)
        have := ih (k + 1) (some (vI 0)) (by omega)
        first
        | (exfalso; omega)
        | (rw [cn_y (P := (fun k => LF G s (r * 8 + k) o ≠ 0)) (by rw [← e8]; assumption)] at this; exact this)
        | (rw [cn_n (P := (fun k => LF G s (r * 8 + k) o ≠ 0)) (fun z => by first | exact z (by rw [← e8]; assumption) | (have := hown z; omega))] at this; rw [Int.add_zero]; exact this)
      ·
        refine seg 6 (show (1 = 0 → Wp 153 92 [some (vR 47), some (vI r), some (vI o), some (vI (cn (fun k => LF G s (r * 8 + k) o ≠ 0) k)), some (vI (k : Int)), some (vI 1)] [vI (cn (fun k => LF G s (r * 8 + k) o ≠ 0) k)] μ R) ∧ (¬ (1 = 0) → Wp 153 73 [some (vR 47), some (vI r), some (vI o), some (vI (cn (fun k => LF G s (r * 8 + k) o ≠ 0) k)), some (vI (k : Int)), some (vI 1)] [vI (cn (fun k => LF G s (r * 8 + k) o ≠ 0) k)] μ R) from ⟨fun z => absurd z (by decide), fun _ => ?_⟩)
        refine seg 8 (show iR (8 * r) ∧ iR ((8 * r) + (k : Int)) ∧ Wp 150 0 [some (vR 47), some (vI o), some (vI ((8 * r) + (k : Int))), none, none] [] μ (fun rr μ' => Wp 153 85 [some (vR 47), some (vI r), some (vI o), some (vI (cn (fun k => LF G s (r * 8 + k) o ≠ 0) k)), some (vI (k : Int)), some (vI 1)] (rr.toList ++ [vI (cn (fun k => LF G s (r * 8 + k) o ≠ 0) k)]) μ' R) from ⟨by omega, by omega, ?_⟩)
        refine n150 hm hT (by omega) ?_
        refine seg 1 (show (LF G s ((8 * r) + (k : Int)) o = 0 → Wp 153 92 [some (vR 47), some (vI r), some (vI o), some (vI (cn (fun k => LF G s (r * 8 + k) o ≠ 0) k)), some (vI (k : Int)), some (vI 1)] [vI (cn (fun k => LF G s (r * 8 + k) o ≠ 0) k)] μ R) ∧ (¬ (LF G s ((8 * r) + (k : Int)) o = 0) → Wp 153 88 [some (vR 47), some (vI r), some (vI o), some (vI (cn (fun k => LF G s (r * 8 + k) o ≠ 0) k)), some (vI (k : Int)), some (vI 1)] [vI (cn (fun k => LF G s (r * 8 + k) o ≠ 0) k)] μ R) from ⟨fun c6 => ?_, fun c6 => ?_⟩)
        ·
          refine seg 5 (show iR ((cn (fun k => LF G s (r * 8 + k) o ≠ 0) k) + 0) ∧ iR ((k : Int) + 1) ∧ Wp 153 27 [some (vR 47), some (vI r), some (vI o), some (vI ((cn (fun k => LF G s (r * 8 + k) o ≠ 0) k) + 0)), some (vI ((k : Int) + 1)), some (vI 1)] [] μ R from ⟨by omega, by omega, ?_⟩)
          have := ih (k + 1) (some (vI 1)) (by omega)
          first
          | (exfalso; omega)
          | (rw [cn_y (P := (fun k => LF G s (r * 8 + k) o ≠ 0)) (by rw [← e8]; assumption)] at this; exact this)
          | (rw [cn_n (P := (fun k => LF G s (r * 8 + k) o ≠ 0)) (fun z => by first | exact z (by rw [← e8]; assumption) | (have := hown z; omega))] at this; rw [Int.add_zero]; exact this)
        ·
          refine seg 6 (show iR ((cn (fun k => LF G s (r * 8 + k) o ≠ 0) k) + 1) ∧ iR ((k : Int) + 1) ∧ Wp 153 27 [some (vR 47), some (vI r), some (vI o), some (vI ((cn (fun k => LF G s (r * 8 + k) o ≠ 0) k) + 1)), some (vI ((k : Int) + 1)), some (vI 1)] [] μ R from ⟨by omega, by omega, ?_⟩)
          have := ih (k + 1) (some (vI 1)) (by omega)
          first
          | (exfalso; omega)
          | (rw [cn_y (P := (fun k => LF G s (r * 8 + k) o ≠ 0)) (by rw [← e8]; assumption)] at this; exact this)
          | (rw [cn_n (P := (fun k => LF G s (r * 8 + k) o ≠ 0)) (fun z => by first | exact z (by rw [← e8]; assumption) | (have := hown z; omega))] at this; rw [Int.add_zero]; exact this)
theorem d153 {G : Hi} {T : Tx} {s : Se} {U : Un} {im : Int → Option Se} {N : Sn} {R : Po} {μ : Mu} (hrm : RM G T s U im N μ) {r o : Int} (hk : ∀ μ2 : Mu, RM G T s U im N μ2 → (∀ q, q < 47 → μ2 q = μ q) → R (some (vI (aKept G s r o))) μ2) : Wp 153 0 [some (vR 47), some (vI r), some (vI o), none, none, none] [] μ R := by
  have hg := hrm.1
  have hm := hg.1
  have h8 := hm.1.n
  have hs := hrm.2.1
  have hok := hrm.2.2.1
  refine seg 3 (show Wp 120 0 [some (vR 47), some (vI r)] [] μ (fun rr μ' => Wp 153 5 [some (vR 47), some (vI r), some (vI o), none, none, none] (rr.toList ++ []) μ' R) from ?_)
  refine n120 hm (fun b1 => ?_) (fun b1 => ?_)
  ·
    refine seg 1 (show (1 = 0 → Wp 153 16 [some (vR 47), some (vI r), some (vI o), none, none, none] [] μ R) ∧ (¬ (1 = 0) → Wp 153 8 [some (vR 47), some (vI r), some (vI o), none, none, none] [] μ R) from ⟨fun z => absurd z (by decide), fun _ => ?_⟩)
    refine seg 3 (show Wp 120 0 [some (vR 47), some (vI o)] [] μ (fun rr μ' => Wp 153 13 [some (vR 47), some (vI r), some (vI o), none, none, none] (rr.toList ++ []) μ' R) from ?_)
    refine n120 hm (fun b2 => ?_) (fun b2 => ?_)
    ·
      refine seg 1 (show (¬ (1 = 0) → Wp 153 18 [some (vR 47), some (vI r), some (vI o), none, none, none] [] μ R) ∧ (1 = 0 → Wp 153 16 [some (vR 47), some (vI r), some (vI o), none, none, none] [] μ R) from ⟨fun _ => ?_, fun z => absurd z (by decide)⟩)
      refine seg 2 (show Wp 139 0 [some (vR 47), none, none, none, none] [] μ (fun rr μ' => Wp 153 22 [some (vR 47), some (vI r), some (vI o), none, none, none] (rr.toList ++ []) μ' R) from ?_)
      refine n139 hg hs hok (fun μ1 f1 t1 => ?_)
      have hrm1 : RM G T s U im N μ1 := hrm.fr (fun q a b c d e f g => f1 q f g)
      have fr1 : ∀ q, q < 47 → μ1 q = μ q := fun q hq => f1 q (by omega) (by omega)
      have hm1 := hrm1.1.1
      refine seg 4 (show Wp 153 27 [some (vR 47), some (vI r), some (vI o), some (vI 0), some (vI 0), none] [] μ1 R from ?_)
      have hsr := hm.1.s (r := r) (by omega)
      have := hk μ1 hrm1 fr1
      unfold aKept at this
      rw [if_pos (by omega)] at this
      exact l153 hm1 t1 (by omega) (by omega) this (hS G r).toNat 0 none (by omega)
    ·
      refine seg 1 (show (¬ (0 = 0) → Wp 153 18 [some (vR 47), some (vI r), some (vI o), none, none, none] [] μ R) ∧ (0 = 0 → Wp 153 16 [some (vR 47), some (vI r), some (vI o), none, none, none] [] μ R) from ⟨fun z => absurd z (by decide), fun _ => ?_⟩)
      refine seg 2 (show R (some (vI (-1))) μ from ?_)
      have e : aKept G s r o = -1 := by
        unfold aKept
        repeat (first | rw [if_pos (by first | omega | assumption)] | rw [if_neg (by first | omega | assumption)])
      have := hk μ hrm (fun _ _ => rfl); rw [e] at this; exact this
  ·
    refine seg 1 (show (0 = 0 → Wp 153 16 [some (vR 47), some (vI r), some (vI o), none, none, none] [] μ R) ∧ (¬ (0 = 0) → Wp 153 8 [some (vR 47), some (vI r), some (vI o), none, none, none] [] μ R) from ⟨fun _ => ?_, fun z => absurd z (by decide)⟩)
    refine seg 2 (show R (some (vI (-1))) μ from ?_)
    have e : aKept G s r o = -1 := by
      unfold aKept
      repeat (first | rw [if_pos (by first | omega | assumption)] | rw [if_neg (by first | omega | assumption)])
    have := hk μ hrm (fun _ _ => rfl); rw [e] at this; exact this
theorem d154 {G : Hi} {T : Tx} {s : Se} {U : Un} {im : Int → Option Se} {N : Sn} {R : Po} {μ : Mu} (hrm : RM G T s U im N μ) {r w : Int} (hk : ∀ μ2 : Mu, RM G T s U im N μ2 → (∀ q, q < 47 → μ2 q = μ q) → R (some (vI (aComm G r w))) μ2) : Wp 154 0 [some (vR 47), some (vI r), some (vI w), none] [] μ R := by
  have hg := hrm.1
  have hm := hg.1
  have h8 := hm.1.n
  have hs := hrm.2.1
  have hok := hrm.2.2.1
  refine seg 3 (show Wp 120 0 [some (vR 47), some (vI r)] [] μ (fun rr μ' => Wp 154 5 [some (vR 47), some (vI r), some (vI w), none] (rr.toList ++ []) μ' R) from ?_)
  refine n120 hm (fun b1 => ?_) (fun b1 => ?_)
  ·
    refine seg 1 (show (1 = 0 → Wp 154 18 [some (vR 47), some (vI r), some (vI w), none] [] μ R) ∧ (¬ (1 = 0) → Wp 154 8 [some (vR 47), some (vI r), some (vI w), none] [] μ R) from ⟨fun z => absurd z (by decide), fun _ => ?_⟩)
    refine seg 5 (show Wp 118 0 [some (vL w), none, some (vL 0), none, some (vL 1), none] [] μ (fun rr μ' => Wp 154 15 [some (vR 47), some (vI r), some (vI w), none] (rr.toList ++ []) μ' R) from ?_)
    refine m118 (fun b2 => ?_) (fun b2 => ?_)
    ·
      refine seg 1 (show (¬ (1 = 0) → Wp 154 20 [some (vR 47), some (vI r), some (vI w), none] [] μ R) ∧ (1 = 0 → Wp 154 18 [some (vR 47), some (vI r), some (vI w), none] [] μ R) from ⟨fun _ => ?_, fun z => absurd z (by decide)⟩)
      refine seg 9 (show iR (2 * r) ∧ iR ((2 * r) + w) ∧ (0 ≤ ((2 * r) + w) ∧ ((2 * r) + w) < 16) ∧ Wp 154 31 [some (vR 47), some (vI r), some (vI w), some (vI (μ 49 ((2 * r) + w)))] [] μ R from ⟨by omega, by omega, by omega, ?_⟩)
      rw [hm.w (r := r) (w := w) (by omega) (by omega)]
      refine seg 2 (show (0 ≤ hP G r w → Wp 154 38 [some (vR 47), some (vI r), some (vI w), some (vI (hP G r w))] [] μ R) ∧ (¬ (0 ≤ hP G r w) → Wp 154 35 [some (vR 47), some (vI r), some (vI w), some (vI (hP G r w))] [] μ R) from ⟨fun c3 => ?_, fun c3 => ?_⟩)
      ·
        refine seg 4 (show Wp 130 0 [some (vR 47), some (vI (hP G r w)), some (vI r), none, none, none, none, none, none] [] μ (fun rr μ' => Wp 154 44 [some (vR 47), some (vI r), some (vI w), some (vI (hP G r w))] (rr.toList ++ []) μ' R) from ?_)
        have hpv := hm.1.pv (r := r) (w := w) (by omega) (by omega) (by omega)
        refine n130 hm (by omega) (by omega) (fun μ1 f1 hT => ?_)
        have hrm1 : RM G T s U im N μ1 := hrm.fr (fun q a b c d e f g => f1 q e)
        have fr1 : ∀ q, q < 47 → μ1 q = μ q := fun q hq => f1 q (by omega)
        refine seg 5 (show (0 ≤ 0 ∧ 0 < 81) ∧ R (some (vI (μ1 59 0))) μ1 from ⟨by omega, ?_⟩)
        have hz1 := hm.1.s (r := r) (by omega)
        have hz2 := hm.1.s (r := hP G r w) (by omega)
        have e1 := hT.all (a := 0) (b := 0) (by omega) (by omega)
        have e1 : μ1 59 0 = _ := e1
        rw [e1]
        have e : aComm G r w = cm (hL G (hP G r w)) (hL G r) (hS G (hP G r w)) (hS G r) 0 0 := by
          unfold aComm cmA; rw [if_pos (by omega), if_neg (by omega)]
        have := hk μ1 hrm1 fr1; rw [e] at this; exact this
      ·
        refine seg 2 (show R (some (vI (-9))) μ from ?_)
        have e : aComm G r w = -9 := by
          unfold aComm cmA; rw [if_pos (by omega), if_pos (by omega)]
        have := hk μ hrm (fun _ _ => rfl); rw [e] at this; exact this
    ·
      refine seg 1 (show (¬ (0 = 0) → Wp 154 20 [some (vR 47), some (vI r), some (vI w), none] [] μ R) ∧ (0 = 0 → Wp 154 18 [some (vR 47), some (vI r), some (vI w), none] [] μ R) from ⟨fun z => absurd z (by decide), fun _ => ?_⟩)
      refine seg 2 (show R (some (vI (-1))) μ from ?_)
      have e : aComm G r w = -1 := by
        unfold aComm; rw [if_neg (by omega)]
      have := hk μ hrm (fun _ _ => rfl); rw [e] at this; exact this
  ·
    refine seg 1 (show (0 = 0 → Wp 154 18 [some (vR 47), some (vI r), some (vI w), none] [] μ R) ∧ (¬ (0 = 0) → Wp 154 8 [some (vR 47), some (vI r), some (vI w), none] [] μ R) from ⟨fun _ => ?_, fun z => absurd z (by decide)⟩)
    refine seg 2 (show R (some (vI (-1))) μ from ?_)
    have e : aComm G r w = -1 := by
      unfold aComm; rw [if_neg (by omega)]
    have := hk μ hrm (fun _ _ => rfl); rw [e] at this; exact this
