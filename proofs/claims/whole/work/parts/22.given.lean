/-! what the rules give, and traces, in the class -/
theorem allM_rg {G : Hi} {r k : Int} (hp : 0 ≤ hS G (hP G r 0)) {m : Nat} : ∀ (i : Nat), (i : Int) ≤ hS G (hP G r 0) → 0 < (allM G r k m i (0, -9)).1 → 0 ≤ (allM G r k m i (0, -9)).2 ∧ (allM G r k m i (0, -9)).2 < hS G (hP G r 0) := by
  have st : ∀ (q : Int × Int) (i j : Nat), (0 < q.1 → 0 ≤ q.2 ∧ q.2 < hS G (hP G r 0)) → 0 < (stM k q i j (rl G r i j)).1 → 0 ≤ (stM k q i j (rl G r i j)).2 ∧ (stM k q i j (rl G r i j)).2 < hS G (hP G r 0) := by
    intro q i j h
    have h2 := rl_rg (G := G) (r := r) _ (i : Int) (j : Int) (Nat.le_refl _)
    unfold stM
    split
    · intro _; dsimp only; omega
    · exact h
  have row : ∀ (q : Int × Int) (i : Nat), (0 < q.1 → 0 ≤ q.2 ∧ q.2 < hS G (hP G r 0)) → ∀ j : Nat, 0 < (rowM G r k i j q).1 → 0 ≤ (rowM G r k i j q).2 ∧ (rowM G r k i j q).2 < hS G (hP G r 0) := by
    intro q i h j
    induction j with
    | zero => exact h
    | succ j ih => exact st _ i j ih
  intro i
  induction i with
  | zero => intro _ h; exact absurd (show (0 : Int) < 0 from h) (by decide)
  | succ i ih => intro hi; exact row _ i (ih (by omega)) m
theorem mvB_rg {G : Hi} {s : Se} {r k : Int} (hp : 0 ≤ hP G r 0 → 0 ≤ hS G (hP G r 0)) : mvB G s r k = -9 ∨ (0 ≤ hP G r 0 ∧ 0 ≤ mvB G s r k ∧ mvB G s r k < hS G (hP G r 0)) := by
  unfold mvB
  split
  · rename_i h
    by_cases hq : hP G r 0 < 0
    · unfold mv at h
      rw [if_pos hq] at h
      have h2 : s.1 ≤ 0 := h.2
      omega
    · have e : mv G r k = allM G r k (hS G r).toNat (hS G (hP G r 0)).toNat (0, -9) := by unfold mv; rw [if_neg hq]
      rw [e] at h ⊢
      exact Or.inr ⟨by omega, allM_rg (hp (by omega)) _ (by have := hp (by omega); omega) (by omega)⟩
  · exact Or.inl rfl
theorem ahd_rg (G : Hi) (r : Int) (h8 : hS G (hP G r 0) ≤ 8) (k : Nat) : (-1 ≤ (ahd G r k).1 ∧ (ahd G r k).1 < k) ∧ (-1 ≤ (ahd G r k).2 ∧ (ahd G r k).2 < 8) := by
  rw [ahd_P]
  exact ahP_rg (fun k => by have := pr_rg G r 0 k; omega) k
theorem gp_rg {G : Hi} {r : Int} {k : Nat} (h8 : hS G (hP G r 0) ≤ 8) : gp G r k = -9 ∨ (0 ≤ gp G r k ∧ gp G r k < hS G (hP G r 0)) := by
  have h := ahd_rg G r h8 k
  unfold gp
  split
  · rename_i hq
    exact Or.inr ⟨by omega, hq.1⟩
  · exact Or.inl rfl
theorem gv_rg {G : Hi} (hG : HiOK G) {s : Se} {rule r k : Int} (hr : 0 ≤ r ∧ r < hN G) : gv G s rule r k = -9 ∨ ((0 ≤ gv G s rule r k ∧ gv G s rule r k < 64) ∧ (0 ≤ gv G s rule r k / 8 ∧ gv G s rule r k / 8 < r) ∧ (0 ≤ gv G s rule r k % 8 ∧ gv G s rule r k % 8 < hS G (gv G s rule r k / 8))) := by
  have key : ∀ (p l : Int), 0 ≤ p → p < r → 0 ≤ l → l < hS G p → hS G p ≤ 8 → ((0 ≤ p * 8 + l ∧ p * 8 + l < 64) ∧ (0 ≤ (p * 8 + l) / 8 ∧ (p * 8 + l) / 8 < r) ∧ (0 ≤ (p * 8 + l) % 8 ∧ (p * 8 + l) % 8 < hS G ((p * 8 + l) / 8))) := by
    intro p l h1 h2 h3 h4 h5
    have hn := hG.n
    have e : (p * 8 + l) / 8 = p := by omega
    rw [e]
    omega
  have p0 := hG.p (r := r) (w := 0) hr (by decide)
  have p1 := hG.p (r := r) (w := 1) hr (by decide)
  have s0 : 0 ≤ hP G r 0 → 0 ≤ hS G (hP G r 0) ∧ hS G (hP G r 0) ≤ 8 := fun h => hG.s (by rcases p0 with h1 | h1 <;> omega)
  have s1 : 0 ≤ hP G r 1 → 0 ≤ hS G (hP G r 1) ∧ hS G (hP G r 1) ≤ 8 := fun h => hG.s (by rcases p1 with h1 | h1 <;> omega)
  unfold gv
  split
  · split
    · exact Or.inl rfl
    · rename_i h
      have h2 := pr_rg G r 0 k
      have h3 : 0 ≤ hP G r 0 := by
        rcases p0 with h1 | h1
        · exact absurd (pr_no (by omega)) h
        · omega
      have h4 := s0 h3
      exact Or.inr (key _ _ h3 (by rcases p0 with h1 | h1 <;> omega) (by omega) (by omega) (by omega))
  · split
    · split
      · exact Or.inl rfl
      · rename_i h
        have h2 := pr_rg G r 1 k
        have h3 : 0 ≤ hP G r 1 := by
          rcases p1 with h1 | h1
          · exact absurd (pr_no (by omega)) h
          · omega
        have h4 := s1 h3
        exact Or.inr (key _ _ h3 (by rcases p1 with h1 | h1 <;> omega) (by omega) (by omega) (by omega))
    · split
      · split
        · exact Or.inl rfl
        · rename_i h
          have h2 := mvB_rg (G := G) (s := s) (r := r) (k := k) (fun h => (s0 h).1)
          have h3 : 0 ≤ hP G r 0 := by omega
          have h4 := s0 h3
          exact Or.inr (key _ _ h3 (by rcases p0 with h1 | h1 <;> omega) (by omega) (by omega) (by omega))
      · split
        · exact Or.inl rfl
        · rename_i h
          have h3 : 0 ≤ hP G r 0 := by omega
          have h4 := s0 h3
          have h2 := gp_rg (G := G) (r := r) (k := k.toNat) (by omega)
          exact Or.inr (key _ _ h3 (by rcases p0 with h1 | h1 <;> omega) (by omega) (by omega) (by omega))
theorem ruF_rg {G : Hi} {s : Se} {r k : Int} : ∀ (n : Nat) (j : Int), ruF G s r k n j = -9 ∨ ((j ≤ ruF G s r k n j ∧ ruF G s r k n j < j + n) ∧ 0 ≤ gv G s (ruF G s r k n j) r k) := by
  intro n
  induction n with
  | zero => intro j; exact Or.inl rfl
  | succ n ih =>
    intro j
    rw [ruF]
    split
    · rename_i h
      exact Or.inr ⟨by omega, h.2⟩
    · rcases ih (j + 1) with h | h
      · exact Or.inl h
      · exact Or.inr ⟨by omega, h.2⟩
theorem ru_rg (G : Hi) (s : Se) (r k : Int) : ru G s r k = -9 ∨ ((0 ≤ ru G s r k ∧ ru G s r k < 4) ∧ 0 ≤ gv G s (ru G s r k) r k) := by
  rcases ruF_rg (G := G) (s := s) (r := r) (k := k) 4 0 with h | h
  · exact Or.inl h
  · exact Or.inr ⟨⟨h.1.1, by have := h.1.2; unfold ru; omega⟩, h.2⟩
theorem og_no {G : Hi} {s : Se} {r k : Int} (h : ru G s r k = -9) : og G s r k = (r * 8 + k, 0) := by
  rw [og, dif_neg (fun z => by have := z.1; omega)]
theorem og_in {G : Hi} (hG : HiOK G) {s : Se} {r k : Int} (hr : 0 ≤ r ∧ r < hN G) (h : 0 ≤ ru G s r k) : og G s r k = ((og G s (gv G s (ru G s r k) r k / 8) (gv G s (ru G s r k) r k % 8)).1, (og G s (gv G s (ru G s r k) r k / 8) (gv G s (ru G s r k) r k % 8)).2 + 1) := by
  have h1 := ru_rg G s r k
  have h2 := gv_rg hG (s := s) (rule := ru G s r k) (k := k) hr
  rw [og, dif_pos ⟨h, by omega, by omega⟩]
theorem og_rg {G : Hi} (hG : HiOK G) {s : Se} : ∀ (n : Nat) (r k : Int), r.toNat < n → 0 ≤ r ∧ r < hN G → 0 ≤ k ∧ k < hS G r → (0 ≤ (og G s r k).1 ∧ (og G s r k).1 / 8 ≤ r ∧ (og G s r k).1 % 8 < hS G ((og G s r k).1 / 8)) ∧ (0 ≤ (og G s r k).2 ∧ (og G s r k).2 ≤ r) := by
  intro n
  induction n with
  | zero => intro r k h; exact absurd h (Nat.not_lt_zero _)
  | succ n ih =>
    intro r k hn hr hk
    have h1 := ru_rg G s r k
    have hs := hG.s hr
    rcases h1 with h1 | h1
    · rw [og_no h1]
      have e : (r * 8 + k) / 8 = r := by omega
      dsimp only
      rw [e]
      omega
    · have h2 := gv_rg hG (s := s) (rule := ru G s r k) (k := k) hr
      have h3 := ih (gv G s (ru G s r k) r k / 8) (gv G s (ru G s r k) r k % 8) (by omega) (by omega) (by omega)
      rw [og_in hG hr h1.1.1]
      dsimp only
      omega
theorem og_lt {G : Hi} (hG : HiOK G) (s : Se) {r k : Int} (hr : 0 ≤ r ∧ r < hN G) (hk : 0 ≤ k ∧ k < hS G r) : (0 ≤ (og G s r k).1 ∧ (og G s r k).1 < 64) ∧ (0 ≤ (og G s r k).1 / 8 ∧ (og G s r k).1 / 8 ≤ r) ∧ (0 ≤ (og G s r k).1 % 8 ∧ (og G s r k).1 % 8 < hS G ((og G s r k).1 / 8)) ∧ (0 ≤ (og G s r k).2 ∧ (og G s r k).2 ≤ r) := by
  have h := og_rg hG (s := s) (r.toNat + 1) r k (by omega) hr hk
  have hn := hG.n
  omega
def PG (G : Hi) (μ : Mu) : Prop := GC G μ ∧ ∀ x, 0 ≤ x → x < hN G → PrC13 G μ x ∧ PrC19 G μ x ∧ (∀ k, 0 ≤ k → k < 8 → MvC (μ 26) (μ 27) x k = mv G x k) ∧ (0 ≤ hP G x 0 → ∀ k : Nat, k < 8 → μ 29 (x * 8 + k) = gp G x k)
theorem PG.fr {G : Hi} {μ μ' : Mu} (h : PG G μ) (hf : ∀ q, 8 ≤ q → q ≤ 29 → μ' q = μ q) : PG G μ' := by
  unfold PG PrC13 PrC19
  rw [hf 14 (by decide) (by decide), hf 15 (by decide) (by decide), hf 16 (by decide) (by decide), hf 17 (by decide) (by decide), hf 20 (by decide) (by decide), hf 21 (by decide) (by decide), hf 22 (by decide) (by decide), hf 23 (by decide) (by decide), hf 26 (by decide) (by decide), hf 27 (by decide) (by decide), hf 29 (by decide) (by decide)]
  exact ⟨h.1.fr (hf 8 (by decide) (by decide)) (hf 9 (by decide) (by decide)) (hf 10 (by decide) (by decide)) (hf 11 (by decide) (by decide)), h.2⟩
def SeC (s : Se) (m : Int → Int) : Prop := m 0 = s.1 ∧ m 1 = s.2.1 ∧ m 2 = s.2.2
def SB (G : Hi) (s : Se) (rule r k v : Int) : Prop := (rule = 0 → v = pr G r 0 k) ∧ (rule = 1 → v = pr G r 1 k) ∧ (rule = 2 → v = mvB G s r k) ∧ (rule = 3 → 0 ≤ hP G r 0 → v = if tb s.2.1 r then gp G r k.toNat else -9)
theorem p18v {G : Hi} {μ : Mu} {R : Po} {r : Int} (hI : PrC13 G μ r) (hb : 0 ≤ r ∧ r < 8) (h : R (some (vI (hP G r 0))) μ) : Wp 18 0 [some (vR 13), some (vI r)] [] μ R := s18v_13 hb (by rw [hI.1]; exact h)
theorem p18w {G : Hi} {μ : Mu} {R : Po} {r : Int} (hI : PrC19 G μ r) (hb : 0 ≤ r ∧ r < 8) (h : R (some (vI (hP G r 1))) μ) : Wp 18 0 [some (vR 19), some (vI r)] [] μ R := s18v_19 hb (by rw [hI.1]; exact h)
theorem sb_rg {G : Hi} (hG : HiOK G) {s : Se} {rule r k v : Int} (hr : 0 ≤ r ∧ r < hN G) (hu : 0 ≤ rule ∧ rule < 4) (hv : SB G s rule r k v) (hp : (rule = 1 ∧ 0 ≤ hP G r 1) ∨ (rule ≠ 1 ∧ 0 ≤ hP G r 0)) : -9 ≤ v ∧ v ≤ 8 := by
  have p0 := hG.p (r := r) (w := 0) hr (by decide)
  have p1 := hG.p (r := r) (w := 1) hr (by decide)
  unfold PaOK at p0 p1
  rcases (show rule = 0 ∨ rule = 1 ∨ rule = 2 ∨ rule = 3 by omega) with rfl | rfl | rfl | rfl
  · have h1 := hv.1 rfl
    have h2 := pr_rg G r 0 k
    have h3 := hG.s (r := hP G r 0) (by omega)
    omega
  · have h1 := hv.2.1 rfl
    have h2 := pr_rg G r 1 k
    have h3 := hG.s (r := hP G r 1) (by omega)
    omega
  · have h1 := hv.2.2.1 rfl
    have h3 := hG.s (r := hP G r 0) (by omega)
    have h2 := mvB_rg (G := G) (s := s) (r := r) (k := k) (fun _ => h3.1)
    omega
  · have h1 := hv.2.2.2 rfl (by omega)
    have h3 := hG.s (r := hP G r 0) (by omega)
    have h2 := gp_rg (G := G) (r := r) (k := k.toNat) h3.2
    split at h1 <;> omega
theorem gv_sb {G : Hi} (hG : HiOK G) {s : Se} {rule r k v par : Int} (hr : 0 ≤ r ∧ r < hN G) (hu : 0 ≤ rule ∧ rule < 4) (hv : SB G s rule r k v) (hp : (rule = 1 ∧ par = hP G r 1) ∨ (rule ≠ 1 ∧ par = hP G r 0)) : gv G s rule r k = if par = -9 ∨ v = -9 then -9 else par * 8 + v := by
  have p0 := hG.p (r := r) (w := 0) hr (by decide)
  have p1 := hG.p (r := r) (w := 1) hr (by decide)
  unfold PaOK at p0 p1
  unfold gv
  rcases (show rule = 0 ∨ rule = 1 ∨ rule = 2 ∨ rule = 3 by omega) with rfl | rfl | rfl | rfl
  · have h1 := hv.1 rfl
    obtain rfl : par = hP G r 0 := by omega
    rw [if_pos rfl]
    by_cases hq : hP G r 0 = -9
    · rw [if_pos (pr_no (by omega)), if_pos (Or.inl hq)]
    · by_cases hq2 : v = -9
      · rw [if_pos (by omega), if_pos (Or.inr hq2)]
      · rw [if_neg (by omega), if_neg (by omega), h1]
  · have h1 := hv.2.1 rfl
    obtain rfl : par = hP G r 1 := by omega
    rw [if_neg (by decide), if_pos rfl]
    by_cases hq : hP G r 1 = -9
    · rw [if_pos (pr_no (by omega)), if_pos (Or.inl hq)]
    · by_cases hq2 : v = -9
      · rw [if_pos (by omega), if_pos (Or.inr hq2)]
      · rw [if_neg (by omega), if_neg (by omega), h1]
  · have h1 := hv.2.2.1 rfl
    obtain rfl : par = hP G r 0 := by omega
    rw [if_neg (by decide), if_neg (by decide), if_pos rfl, ← h1]
    by_cases hq : hP G r 0 = -9 ∨ v = -9
    · rw [if_pos (by omega), if_pos hq]
    · rw [if_neg (by omega), if_neg hq]
  · obtain rfl : par = hP G r 0 := by omega
    rw [if_neg (by decide), if_neg (by decide), if_neg (by decide)]
    by_cases hq : hP G r 0 = -9
    · rw [if_pos (by omega), if_pos (Or.inl hq)]
    · have h1 := hv.2.2.2 rfl (by omega)
      by_cases hb : tb s.2.1 r
      · rw [if_pos hb] at h1
        by_cases hq2 : v = -9
        · rw [if_pos (Or.inr (Or.inr (by omega))), if_pos (Or.inr hq2)]
        · rw [if_neg (fun z => by rcases z with z | z | z; omega; exact z hb; omega), if_neg (by omega), h1]
      · rw [if_neg hb] at h1
        rw [if_pos (Or.inr (Or.inl hb)), if_pos (Or.inr h1)]
theorem s30 {G : Hi} {R : Po} {μ : Mu} (hc : GC G μ) (hw0 : μ 13 0 = 0) (hw1 : μ 19 0 = 1) (hk : ∀ μ2 : Mu, (∀ q, (q ≤ 13 ∨ 30 ≤ q ∨ q = 19) → μ2 q = μ q) → PG G μ2 → R none μ2) : Wp 30 0 [some (vR 12), some (vR 8)] [] μ R := by
  refine seg 4 (show Wp 22 0 [some (vR 13), some (vR 8), none, none] [] μ (fun rr μ' => Wp 30 8 [some (vR 12), some (vR 8)] (rr.toList ++ []) μ' R) from ?_)
  refine s22_13 hc hw0 (fun μ1 f1 a1 j1 => ?_)
  have hc1 := hc.fr (f1 8 (by decide) (by decide) (by decide) (by decide) (by decide)) (f1 9 (by decide) (by decide) (by decide) (by decide) (by decide)) (f1 10 (by decide) (by decide) (by decide) (by decide) (by decide)) (f1 11 (by decide) (by decide) (by decide) (by decide) (by decide))
  refine seg 4 (show Wp 22 0 [some (vR 19), some (vR 8), none, none] [] μ1 (fun rr μ' => Wp 30 16 [some (vR 12), some (vR 8)] (rr.toList ++ []) μ' R) from ?_)
  refine s22_19 hc1 (by rw [f1 19 (by decide) (by decide) (by decide) (by decide) (by decide)]; exact hw1) (fun μ2 f2 a2 _ => ?_)
  have hc2 := hc1.fr (f2 8 (by decide) (by decide) (by decide) (by decide) (by decide)) (f2 9 (by decide) (by decide) (by decide) (by decide) (by decide)) (f2 10 (by decide) (by decide) (by decide) (by decide) (by decide)) (f2 11 (by decide) (by decide) (by decide) (by decide) (by decide))
  have b1 : ∀ x, 0 ≤ x → x < hN G → PrC13 G μ2 x := fun x h1 h2 => by
    unfold PrC13
    rw [f2 14 (by decide) (by decide) (by decide) (by decide) (by decide), f2 15 (by decide) (by decide) (by decide) (by decide) (by decide), f2 16 (by decide) (by decide) (by decide) (by decide) (by decide), f2 17 (by decide) (by decide) (by decide) (by decide) (by decide)]
    exact a1 x h1 h2
  refine seg 6 (show Wp 13 0 [some (vR 25), some (vR 8), some (vR 13), none, none] [] μ2 (fun rr μ' => Wp 30 28 [some (vR 12), some (vR 8)] (rr.toList ++ []) μ' R) from ?_)
  refine s13 hc2 b1 (fun μ3 f3 a3 => ?_)
  have hc3 := hc2.fr (f3 8 (by decide) (by decide)) (f3 9 (by decide) (by decide)) (f3 10 (by decide) (by decide)) (f3 11 (by decide) (by decide))
  have b2 : ∀ x, 0 ≤ x → x < hN G → PrC13 G μ3 x := fun x h1 h2 => by
    unfold PrC13
    rw [f3 14 (by decide) (by decide), f3 15 (by decide) (by decide), f3 16 (by decide) (by decide), f3 17 (by decide) (by decide)]
    exact b1 x h1 h2
  refine seg 6 (show Wp 8 0 [some (vR 28), some (vR 8), some (vR 13), none, none, none, none, none, none] [] μ3 (fun rr μ' => Wp 30 40 [some (vR 12), some (vR 8)] (rr.toList ++ []) μ' R) from ?_)
  refine s8 hc3 b2 (fun x k h1 h2 h3 h4 h5 => by rw [f3 15 (by decide) (by decide), f2 15 (by decide) (by decide) (by decide) (by decide) (by decide)]; exact j1 x k h1 h2 h3 h4 h5) (fun μ4 f4 a4 => ?_)
  have hc4 := hc3.fr (f4 8 (by decide)) (f4 9 (by decide)) (f4 10 (by decide)) (f4 11 (by decide))
  refine seg 1 (show R none μ4 from ?_)
  refine hk μ4 (fun q hq => ?_) ⟨hc4, fun x h1 h2 => ⟨?_, ?_, fun k h3 h4 => ?_, fun h3 k h4 => a4 x h1 h2 h3 k h4⟩⟩
  · rw [f4 q (by omega), f3 q (by omega) (by omega), f2 q (by omega) (by omega) (by omega) (by omega) (by omega), f1 q (by omega) (by omega) (by omega) (by omega) (by omega)]
  · unfold PrC13
    rw [f4 14 (by decide), f4 15 (by decide), f4 16 (by decide), f4 17 (by decide)]
    exact b2 x h1 h2
  · unfold PrC19
    rw [f4 20 (by decide), f4 21 (by decide), f4 22 (by decide), f4 23 (by decide), f3 20 (by decide) (by decide), f3 21 (by decide) (by decide), f3 22 (by decide) (by decide), f3 23 (by decide) (by decide)]
    exact a2 x h1 h2
  · rw [f4 26 (by decide), f4 27 (by decide)]
    exact a3 x k h1 h2 h3 h4
theorem s31 {G : Hi} {R : Po} {μ : Mu} {w r k : Int} (hg : PG G μ) (hr : 0 ≤ r ∧ r < hN G) (hk8 : 0 ≤ k ∧ k < 8) (hw : w = 0 ∨ w = 1) (h : R (some (vI (pr G r w k))) μ) : Wp 31 0 [some (vR 12), some (vI w), some (vI r), some (vI k)] [] μ R := by
  have hn := hg.1.1.n
  have hI := (hg.2 r hr.1 hr.2).1
  have hJ := (hg.2 r hr.1 hr.2).2.1
  refine seg 2 (show (¬ (w = 0) → Wp 31 16 [some (vR 12), some (vI w), some (vI r), some (vI k)] [] μ R) ∧ (w = 0 → Wp 31 4 [some (vR 12), some (vI w), some (vI r), some (vI k)] [] μ R) from ⟨fun c1 => ?_, fun c1 => ?_⟩)
  ·
    refine seg 5 (show Wp 19 0 [some (vR 19), some (vI r), some (vI k)] [] μ (fun rr μ' => Wp 31 25 [some (vR 12), some (vI w), some (vI r), some (vI k)] (rr.toList ++ []) μ' R) from ?_)
    refine p19w hJ (by omega) ?_
    refine seg 1 (show R (some (vI (pr G r 1 k))) μ from ?_)
    first | (obtain rfl : w = 0 := (by omega); exact h) | (obtain rfl : w = 1 := (by omega); exact h)
  ·
    refine seg 5 (show Wp 19 0 [some (vR 13), some (vI r), some (vI k)] [] μ (fun rr μ' => Wp 31 13 [some (vR 12), some (vI w), some (vI r), some (vI k)] (rr.toList ++ []) μ' R) from ?_)
    refine p19v hI (by omega) ?_
    refine seg 2 (show R (some (vI (pr G r 0 k))) μ from ?_)
    first | (obtain rfl : w = 0 := (by omega); exact h) | (obtain rfl : w = 1 := (by omega); exact h)
theorem s32 {G : Hi} {R : Po} {μ : Mu} {w r : Int} (hg : PG G μ) (hr : 0 ≤ r ∧ r < hN G) (hw : w = 0 ∨ w = 1) (h : R (some (vI (cmA G r w))) μ) : Wp 32 0 [some (vR 12), some (vI w), some (vI r)] [] μ R := by
  have hn := hg.1.1.n
  have hI := (hg.2 r hr.1 hr.2).1
  have hJ := (hg.2 r hr.1 hr.2).2.1
  refine seg 2 (show (¬ (w = 0) → Wp 32 15 [some (vR 12), some (vI w), some (vI r)] [] μ R) ∧ (w = 0 → Wp 32 4 [some (vR 12), some (vI w), some (vI r)] [] μ R) from ⟨fun c1 => ?_, fun c1 => ?_⟩)
  ·
    refine seg 4 (show Wp 21 0 [some (vR 19), some (vI r)] [] μ (fun rr μ' => Wp 32 23 [some (vR 12), some (vI w), some (vI r)] (rr.toList ++ []) μ' R) from ?_)
    refine s21v_19 (by omega) ?_
    refine seg 1 (show R (some (vI (μ 23 r))) μ from ?_)
    first | (obtain rfl : w = 0 := (by omega); rw [hI.2.2]; exact h) | (obtain rfl : w = 1 := (by omega); rw [hJ.2.2]; exact h)
  ·
    refine seg 4 (show Wp 21 0 [some (vR 13), some (vI r)] [] μ (fun rr μ' => Wp 32 12 [some (vR 12), some (vI w), some (vI r)] (rr.toList ++ []) μ' R) from ?_)
    refine s21v_13 (by omega) ?_
    refine seg 2 (show R (some (vI (μ 17 r))) μ from ?_)
    first | (obtain rfl : w = 0 := (by omega); rw [hI.2.2]; exact h) | (obtain rfl : w = 1 := (by omega); rw [hJ.2.2]; exact h)
theorem s34_30 {G : Hi} {s : Se} {R : Po} {μ : Mu} {rule r k : Int} (hg : PG G μ) (hs : SeC s (μ 30)) (hok : SeOK s) (hr : 0 ≤ r ∧ r < hN G) (hk8 : 0 ≤ k ∧ k < 8) (hu : 0 ≤ rule ∧ rule < 4) (hk : ∀ v, SB G s rule r k v → R (some (vI v)) μ) : Wp 34 0 [some (vR 12), some (vI rule), some (vI r), some (vI k), some (vR 30)] [] μ R := by
  have hn := hg.1.1.n
  have hI := (hg.2 r hr.1 hr.2).1
  have hJ := (hg.2 r hr.1 hr.2).2.1
  have hM := (hg.2 r hr.1 hr.2).2.2.1 k hk8.1 hk8.2
  have hM1 : μ 26 (r * 8 + k) = (mv G r k).1 := congrArg Prod.fst hM
  have hM2 : μ 27 (r * 8 + k) = (mv G r k).2 := congrArg Prod.snd hM
  have hok2 := hok.2.1
  refine seg 2 (show (∀ j : Nat, j < 4 → rule = 0 + (j : Int) → Wp 34 ([108, 32, 42, 52, 84].getD (1 + j) 0) [some (vR 12), some (vI rule), some (vI r), some (vI k), some (vR 30)] [] μ R) ∧ (rule < 0 ∨ 3 < rule → Wp 34 108 [some (vR 12), some (vI rule), some (vI r), some (vI k), some (vR 30)] [] μ R) from ⟨fun j hj c1 => ?_, fun c1 => ?_⟩)
  ·
    rcases (show j = 0 ∨ j = 1 ∨ j = 2 ∨ j = 3 by omega) with rfl | rfl | rfl | rfl
    ·
      refine seg 5 (show Wp 19 0 [some (vR 13), some (vI r), some (vI k)] [] μ (fun rr μ' => Wp 34 41 [some (vR 12), some (vI rule), some (vI r), some (vI k), some (vR 30)] (rr.toList ++ []) μ' R) from ?_)
      refine p19v hI (by omega) ?_
      refine seg 1 (show R (some (vI (pr G r 0 k))) μ from ?_)
      refine hk _ ⟨fun z => ?_, fun z => ?_, fun z => ?_, fun z hz => ?_⟩ <;> first
      | (exfalso; omega)
      | rfl
      | (unfold mvB; rw [if_pos (by rw [← hs.1, ← hM1]; assumption), hM2])
      | (unfold mvB; rw [if_neg (by rw [← hs.1, ← hM1]; assumption)])
      | (rw [if_pos (by rw [← hs.2.1]; assumption), ← (hg.2 r hr.1 hr.2).2.2.2 hz k.toNat (by omega), Int.toNat_of_nonneg hk8.1])
      | (rw [if_neg (by rw [← hs.2.1]; assumption)])
    ·
      refine seg 5 (show Wp 19 0 [some (vR 19), some (vI r), some (vI k)] [] μ (fun rr μ' => Wp 34 51 [some (vR 12), some (vI rule), some (vI r), some (vI k), some (vR 30)] (rr.toList ++ []) μ' R) from ?_)
      refine p19w hJ (by omega) ?_
      refine seg 1 (show R (some (vI (pr G r 1 k))) μ from ?_)
      refine hk _ ⟨fun z => ?_, fun z => ?_, fun z => ?_, fun z hz => ?_⟩ <;> first
      | (exfalso; omega)
      | rfl
      | (unfold mvB; rw [if_pos (by rw [← hs.1, ← hM1]; assumption), hM2])
      | (unfold mvB; rw [if_neg (by rw [← hs.1, ← hM1]; assumption)])
      | (rw [if_pos (by rw [← hs.2.1]; assumption), ← (hg.2 r hr.1 hr.2).2.2.2 hz k.toNat (by omega), Int.toNat_of_nonneg hk8.1])
      | (rw [if_neg (by rw [← hs.2.1]; assumption)])
    ·
      refine seg 6 (show Wp 11 0 [some (vR 25), some (vI r), some (vI k)] [] μ (fun rr μ' => Wp 34 63 [some (vR 12), some (vI rule), some (vI r), some (vI k), some (vR 30)] (rr.toList ++ [vR 30]) μ' R) from ?_)
      refine s11v_25 (by omega) ?_
      refine seg 1 (show Wp 62 0 [some (vR 30), some (vI (μ 26 (r * 8 + k)))] [] μ (fun rr μ' => Wp 34 66 [some (vR 12), some (vI rule), some (vI r), some (vI k), some (vR 30)] (rr.toList ++ []) μ' R) from ?_)
      refine s62_30 (fun b2 => ?_) (fun b2 => ?_)
      ·
        refine seg 1 (show (1 = 0 → Wp 34 81 [some (vR 12), some (vI rule), some (vI r), some (vI k), some (vR 30)] [] μ R) ∧ (¬ (1 = 0) → Wp 34 69 [some (vR 12), some (vI rule), some (vI r), some (vI k), some (vR 30)] [] μ R) from ⟨fun z => absurd z (by decide), fun _ => ?_⟩)
        refine seg 5 (show Wp 12 0 [some (vR 25), some (vI r), some (vI k)] [] μ (fun rr μ' => Wp 34 78 [some (vR 12), some (vI rule), some (vI r), some (vI k), some (vR 30)] (rr.toList ++ []) μ' R) from ?_)
        refine s12v_25 (by omega) ?_
        refine seg 2 (show R (some (vI (μ 27 (r * 8 + k)))) μ from ?_)
        refine hk _ ⟨fun z => ?_, fun z => ?_, fun z => ?_, fun z hz => ?_⟩ <;> first
        | (exfalso; omega)
        | rfl
        | (unfold mvB; rw [if_pos (by rw [← hs.1, ← hM1]; assumption), hM2])
        | (unfold mvB; rw [if_neg (by rw [← hs.1, ← hM1]; assumption)])
        | (rw [if_pos (by rw [← hs.2.1]; assumption), ← (hg.2 r hr.1 hr.2).2.2.2 hz k.toNat (by omega), Int.toNat_of_nonneg hk8.1])
        | (rw [if_neg (by rw [← hs.2.1]; assumption)])
      ·
        refine seg 1 (show (0 = 0 → Wp 34 81 [some (vR 12), some (vI rule), some (vI r), some (vI k), some (vR 30)] [] μ R) ∧ (¬ (0 = 0) → Wp 34 69 [some (vR 12), some (vI rule), some (vI r), some (vI k), some (vR 30)] [] μ R) from ⟨fun _ => ?_, fun z => absurd z (by decide)⟩)
        refine seg 2 (show R (some (vI (-9))) μ from ?_)
        refine hk _ ⟨fun z => ?_, fun z => ?_, fun z => ?_, fun z hz => ?_⟩ <;> first
        | (exfalso; omega)
        | rfl
        | (unfold mvB; rw [if_pos (by rw [← hs.1, ← hM1]; assumption), hM2])
        | (unfold mvB; rw [if_neg (by rw [← hs.1, ← hM1]; assumption)])
        | (rw [if_pos (by rw [← hs.2.1]; assumption), ← (hg.2 r hr.1 hr.2).2.2.2 hz k.toNat (by omega), Int.toNat_of_nonneg hk8.1])
        | (rw [if_neg (by rw [← hs.2.1]; assumption)])
    ·
      refine seg 3 (show Wp 64 0 [some (vR 30), some (vI r)] [] μ (fun rr μ' => Wp 34 90 [some (vR 12), some (vI rule), some (vI r), some (vI k), some (vR 30)] (rr.toList ++ []) μ' R) from ?_)
      refine s64_30 (by omega) (by rw [hs.2.1]; exact hok2.1) (fun b3 => ?_) (fun b3 => ?_)
      ·
        refine seg 1 (show (1 = 0 → Wp 34 105 [some (vR 12), some (vI rule), some (vI r), some (vI k), some (vR 30)] [] μ R) ∧ (¬ (1 = 0) → Wp 34 93 [some (vR 12), some (vI rule), some (vI r), some (vI k), some (vR 30)] [] μ R) from ⟨fun z => absurd z (by decide), fun _ => ?_⟩)
        refine seg 5 (show Wp 7 0 [some (vR 28), some (vI r), some (vI k)] [] μ (fun rr μ' => Wp 34 102 [some (vR 12), some (vI rule), some (vI r), some (vI k), some (vR 30)] (rr.toList ++ []) μ' R) from ?_)
        refine s7v_28 (by omega) ?_
        refine seg 2 (show R (some (vI (μ 29 (r * 8 + k)))) μ from ?_)
        refine hk _ ⟨fun z => ?_, fun z => ?_, fun z => ?_, fun z hz => ?_⟩ <;> first
        | (exfalso; omega)
        | rfl
        | (unfold mvB; rw [if_pos (by rw [← hs.1, ← hM1]; assumption), hM2])
        | (unfold mvB; rw [if_neg (by rw [← hs.1, ← hM1]; assumption)])
        | (rw [if_pos (by rw [← hs.2.1]; assumption), ← (hg.2 r hr.1 hr.2).2.2.2 hz k.toNat (by omega), Int.toNat_of_nonneg hk8.1])
        | (rw [if_neg (by rw [← hs.2.1]; assumption)])
      ·
        refine seg 1 (show (0 = 0 → Wp 34 105 [some (vR 12), some (vI rule), some (vI r), some (vI k), some (vR 30)] [] μ R) ∧ (¬ (0 = 0) → Wp 34 93 [some (vR 12), some (vI rule), some (vI r), some (vI k), some (vR 30)] [] μ R) from ⟨fun _ => ?_, fun z => absurd z (by decide)⟩)
        refine seg 2 (show R (some (vI (-9))) μ from ?_)
        refine hk _ ⟨fun z => ?_, fun z => ?_, fun z => ?_, fun z hz => ?_⟩ <;> first
        | (exfalso; omega)
        | rfl
        | (unfold mvB; rw [if_pos (by rw [← hs.1, ← hM1]; assumption), hM2])
        | (unfold mvB; rw [if_neg (by rw [← hs.1, ← hM1]; assumption)])
        | (rw [if_pos (by rw [← hs.2.1]; assumption), ← (hg.2 r hr.1 hr.2).2.2.2 hz k.toNat (by omega), Int.toNat_of_nonneg hk8.1])
        | (rw [if_neg (by rw [← hs.2.1]; assumption)])
  ·
    refine seg 2 (show R (some (vI (-9))) μ from ?_)
    refine hk _ ⟨fun z => ?_, fun z => ?_, fun z => ?_, fun z hz => ?_⟩ <;> first
    | (exfalso; omega)
    | rfl
    | (unfold mvB; rw [if_pos (by rw [← hs.1, ← hM1]; assumption), hM2])
    | (unfold mvB; rw [if_neg (by rw [← hs.1, ← hM1]; assumption)])
    | (rw [if_pos (by rw [← hs.2.1]; assumption), ← (hg.2 r hr.1 hr.2).2.2.2 hz k.toNat (by omega), Int.toNat_of_nonneg hk8.1])
    | (rw [if_neg (by rw [← hs.2.1]; assumption)])
theorem s33_30 {G : Hi} {s : Se} {R : Po} {μ : Mu} {rule r k : Int} (hg : PG G μ) (hs : SeC s (μ 30)) (hok : SeOK s) (hr : 0 ≤ r ∧ r < hN G) (hk8 : 0 ≤ k ∧ k < 8) (hu : 0 ≤ rule ∧ rule < 4) (h : R (some (vI (gv G s rule r k))) μ) : Wp 33 0 [some (vR 12), some (vI rule), some (vI r), some (vI k), some (vR 30), none, none] [] μ R := by
  have hn := hg.1.1.n
  have hI := (hg.2 r hr.1 hr.2).1
  have hJ := (hg.2 r hr.1 hr.2).2.1
  have q0 : PaOK r (hP G r 0) := hg.1.1.p hr (by decide)
  have q1 : PaOK r (hP G r 1) := hg.1.1.p hr (by decide)
  unfold PaOK at q0 q1
  have w0 := fun v => (fun h : SB G s rule r k v => h)
  refine seg 3 (show (¬ (rule = 1) → Wp 33 16 [some (vR 12), some (vI rule), some (vI r), some (vI k), some (vR 30), none, none] [] μ R) ∧ (rule = 1 → Wp 33 5 [some (vR 12), some (vI rule), some (vI r), some (vI k), some (vR 30), none, none] [] μ R) from ⟨fun c1 => ?_, fun c1 => ?_⟩)
  ·
    refine seg 4 (show Wp 18 0 [some (vR 13), some (vI r)] [] μ (fun rr μ' => Wp 33 24 [some (vR 12), some (vI rule), some (vI r), some (vI k), some (vR 30), none, none] (rr.toList ++ []) μ' R) from ?_)
    refine p18v hI (by omega) ?_
    refine seg 7 (show Wp 34 0 [some (vR 12), some (vI rule), some (vI r), some (vI k), some (vR 30)] [] μ (fun rr μ' => Wp 33 35 [some (vR 12), some (vI rule), some (vI r), some (vI k), some (vR 30), some (vI (hP G r 0)), none] (rr.toList ++ []) μ' R) from ?_)
    refine s34_30 hg hs hok hr hk8 hu (fun v hv => ?_)
    refine seg 4 (show (hP G r 0 = -9 → Wp 33 51 [some (vR 12), some (vI rule), some (vI r), some (vI k), some (vR 30), some (vI (hP G r 0)), some (vI v)] [] μ R) ∧ (¬ (hP G r 0 = -9) → Wp 33 44 [some (vR 12), some (vI rule), some (vI r), some (vI k), some (vR 30), some (vI (hP G r 0)), some (vI v)] [] μ R) from ⟨fun c2 => ?_, fun c2 => ?_⟩)
    ·
      refine seg 3 (show R (some (vI (-9))) μ from ?_)
      have e := gv_sb (par := if rule = 1 then hP G r 1 else hP G r 0) hg.1.1 hr hu hv (by by_cases hq : rule = 1 <;> simp [hq])
      first | rw [if_pos (by assumption : rule = 1)] at e | rw [if_neg (by assumption : ¬ rule = 1)] at e
      first | rw [if_pos (by omega)] at e | rw [if_neg (by omega)] at e
      rw [← e]; exact h
    ·
      refine seg 3 (show (¬ (v = -9) → Wp 33 56 [some (vR 12), some (vI rule), some (vI r), some (vI k), some (vR 30), some (vI (hP G r 0)), some (vI v)] [] μ R) ∧ (v = -9 → Wp 33 51 [some (vR 12), some (vI rule), some (vI r), some (vI k), some (vR 30), some (vI (hP G r 0)), some (vI v)] [] μ R) from ⟨fun c3 => ?_, fun c3 => ?_⟩)
      ·
        refine seg 3 (show Wp 114 0 [some (vI (hP G r 0)), some (vI v)] [] μ (fun rr μ' => Wp 33 63 [some (vR 12), some (vI rule), some (vI r), some (vI k), some (vR 30), some (vI (hP G r 0)), some (vI v)] (rr.toList ++ []) μ' R) from ?_)
        refine s114 (by have := sb_rg hg.1.1 hr hu hv (by omega); omega) ?_
        refine seg 1 (show R (some (vI ((hP G r 0) * 8 + v))) μ from ?_)
        have e := gv_sb (par := if rule = 1 then hP G r 1 else hP G r 0) hg.1.1 hr hu hv (by by_cases hq : rule = 1 <;> simp [hq])
        first | rw [if_pos (by assumption : rule = 1)] at e | rw [if_neg (by assumption : ¬ rule = 1)] at e
        first | rw [if_pos (by omega)] at e | rw [if_neg (by omega)] at e
        rw [← e]; exact h
      ·
        refine seg 3 (show R (some (vI (-9))) μ from ?_)
        have e := gv_sb (par := if rule = 1 then hP G r 1 else hP G r 0) hg.1.1 hr hu hv (by by_cases hq : rule = 1 <;> simp [hq])
        first | rw [if_pos (by assumption : rule = 1)] at e | rw [if_neg (by assumption : ¬ rule = 1)] at e
        first | rw [if_pos (by omega)] at e | rw [if_neg (by omega)] at e
        rw [← e]; exact h
  ·
    refine seg 4 (show Wp 18 0 [some (vR 19), some (vI r)] [] μ (fun rr μ' => Wp 33 13 [some (vR 12), some (vI rule), some (vI r), some (vI k), some (vR 30), none, none] (rr.toList ++ []) μ' R) from ?_)
    refine p18w hJ (by omega) ?_
    refine seg 8 (show Wp 34 0 [some (vR 12), some (vI rule), some (vI r), some (vI k), some (vR 30)] [] μ (fun rr μ' => Wp 33 35 [some (vR 12), some (vI rule), some (vI r), some (vI k), some (vR 30), some (vI (hP G r 1)), none] (rr.toList ++ []) μ' R) from ?_)
    refine s34_30 hg hs hok hr hk8 hu (fun v hv => ?_)
    refine seg 4 (show (hP G r 1 = -9 → Wp 33 51 [some (vR 12), some (vI rule), some (vI r), some (vI k), some (vR 30), some (vI (hP G r 1)), some (vI v)] [] μ R) ∧ (¬ (hP G r 1 = -9) → Wp 33 44 [some (vR 12), some (vI rule), some (vI r), some (vI k), some (vR 30), some (vI (hP G r 1)), some (vI v)] [] μ R) from ⟨fun c4 => ?_, fun c4 => ?_⟩)
    ·
      refine seg 3 (show R (some (vI (-9))) μ from ?_)
      have e := gv_sb (par := if rule = 1 then hP G r 1 else hP G r 0) hg.1.1 hr hu hv (by by_cases hq : rule = 1 <;> simp [hq])
      first | rw [if_pos (by assumption : rule = 1)] at e | rw [if_neg (by assumption : ¬ rule = 1)] at e
      first | rw [if_pos (by omega)] at e | rw [if_neg (by omega)] at e
      rw [← e]; exact h
    ·
      refine seg 3 (show (¬ (v = -9) → Wp 33 56 [some (vR 12), some (vI rule), some (vI r), some (vI k), some (vR 30), some (vI (hP G r 1)), some (vI v)] [] μ R) ∧ (v = -9 → Wp 33 51 [some (vR 12), some (vI rule), some (vI r), some (vI k), some (vR 30), some (vI (hP G r 1)), some (vI v)] [] μ R) from ⟨fun c5 => ?_, fun c5 => ?_⟩)
      ·
        refine seg 3 (show Wp 114 0 [some (vI (hP G r 1)), some (vI v)] [] μ (fun rr μ' => Wp 33 63 [some (vR 12), some (vI rule), some (vI r), some (vI k), some (vR 30), some (vI (hP G r 1)), some (vI v)] (rr.toList ++ []) μ' R) from ?_)
        refine s114 (by have := sb_rg hg.1.1 hr hu hv (by omega); omega) ?_
        refine seg 1 (show R (some (vI ((hP G r 1) * 8 + v))) μ from ?_)
        have e := gv_sb (par := if rule = 1 then hP G r 1 else hP G r 0) hg.1.1 hr hu hv (by by_cases hq : rule = 1 <;> simp [hq])
        first | rw [if_pos (by assumption : rule = 1)] at e | rw [if_neg (by assumption : ¬ rule = 1)] at e
        first | rw [if_pos (by omega)] at e | rw [if_neg (by omega)] at e
        rw [← e]; exact h
      ·
        refine seg 3 (show R (some (vI (-9))) μ from ?_)
        have e := gv_sb (par := if rule = 1 then hP G r 1 else hP G r 0) hg.1.1 hr hu hv (by by_cases hq : rule = 1 <;> simp [hq])
        first | rw [if_pos (by assumption : rule = 1)] at e | rw [if_neg (by assumption : ¬ rule = 1)] at e
        first | rw [if_pos (by omega)] at e | rw [if_neg (by omega)] at e
        rw [← e]; exact h
theorem s34_31 {G : Hi} {s : Se} {R : Po} {μ : Mu} {rule r k : Int} (hg : PG G μ) (hs : SeC s (μ 31)) (hok : SeOK s) (hr : 0 ≤ r ∧ r < hN G) (hk8 : 0 ≤ k ∧ k < 8) (hu : 0 ≤ rule ∧ rule < 4) (hk : ∀ v, SB G s rule r k v → R (some (vI v)) μ) : Wp 34 0 [some (vR 12), some (vI rule), some (vI r), some (vI k), some (vR 31)] [] μ R := by
  have hn := hg.1.1.n
  have hI := (hg.2 r hr.1 hr.2).1
  have hJ := (hg.2 r hr.1 hr.2).2.1
  have hM := (hg.2 r hr.1 hr.2).2.2.1 k hk8.1 hk8.2
  have hM1 : μ 26 (r * 8 + k) = (mv G r k).1 := congrArg Prod.fst hM
  have hM2 : μ 27 (r * 8 + k) = (mv G r k).2 := congrArg Prod.snd hM
  have hok2 := hok.2.1
  refine seg 2 (show (∀ j : Nat, j < 4 → rule = 0 + (j : Int) → Wp 34 ([108, 32, 42, 52, 84].getD (1 + j) 0) [some (vR 12), some (vI rule), some (vI r), some (vI k), some (vR 31)] [] μ R) ∧ (rule < 0 ∨ 3 < rule → Wp 34 108 [some (vR 12), some (vI rule), some (vI r), some (vI k), some (vR 31)] [] μ R) from ⟨fun j hj c1 => ?_, fun c1 => ?_⟩)
  ·
    rcases (show j = 0 ∨ j = 1 ∨ j = 2 ∨ j = 3 by omega) with rfl | rfl | rfl | rfl
    ·
      refine seg 5 (show Wp 19 0 [some (vR 13), some (vI r), some (vI k)] [] μ (fun rr μ' => Wp 34 41 [some (vR 12), some (vI rule), some (vI r), some (vI k), some (vR 31)] (rr.toList ++ []) μ' R) from ?_)
      refine p19v hI (by omega) ?_
      refine seg 1 (show R (some (vI (pr G r 0 k))) μ from ?_)
      refine hk _ ⟨fun z => ?_, fun z => ?_, fun z => ?_, fun z hz => ?_⟩ <;> first
      | (exfalso; omega)
      | rfl
      | (unfold mvB; rw [if_pos (by rw [← hs.1, ← hM1]; assumption), hM2])
      | (unfold mvB; rw [if_neg (by rw [← hs.1, ← hM1]; assumption)])
      | (rw [if_pos (by rw [← hs.2.1]; assumption), ← (hg.2 r hr.1 hr.2).2.2.2 hz k.toNat (by omega), Int.toNat_of_nonneg hk8.1])
      | (rw [if_neg (by rw [← hs.2.1]; assumption)])
    ·
      refine seg 5 (show Wp 19 0 [some (vR 19), some (vI r), some (vI k)] [] μ (fun rr μ' => Wp 34 51 [some (vR 12), some (vI rule), some (vI r), some (vI k), some (vR 31)] (rr.toList ++ []) μ' R) from ?_)
      refine p19w hJ (by omega) ?_
      refine seg 1 (show R (some (vI (pr G r 1 k))) μ from ?_)
      refine hk _ ⟨fun z => ?_, fun z => ?_, fun z => ?_, fun z hz => ?_⟩ <;> first
      | (exfalso; omega)
      | rfl
      | (unfold mvB; rw [if_pos (by rw [← hs.1, ← hM1]; assumption), hM2])
      | (unfold mvB; rw [if_neg (by rw [← hs.1, ← hM1]; assumption)])
      | (rw [if_pos (by rw [← hs.2.1]; assumption), ← (hg.2 r hr.1 hr.2).2.2.2 hz k.toNat (by omega), Int.toNat_of_nonneg hk8.1])
      | (rw [if_neg (by rw [← hs.2.1]; assumption)])
    ·
      refine seg 6 (show Wp 11 0 [some (vR 25), some (vI r), some (vI k)] [] μ (fun rr μ' => Wp 34 63 [some (vR 12), some (vI rule), some (vI r), some (vI k), some (vR 31)] (rr.toList ++ [vR 31]) μ' R) from ?_)
      refine s11v_25 (by omega) ?_
      refine seg 1 (show Wp 62 0 [some (vR 31), some (vI (μ 26 (r * 8 + k)))] [] μ (fun rr μ' => Wp 34 66 [some (vR 12), some (vI rule), some (vI r), some (vI k), some (vR 31)] (rr.toList ++ []) μ' R) from ?_)
      refine s62_31 (fun b2 => ?_) (fun b2 => ?_)
      ·
        refine seg 1 (show (1 = 0 → Wp 34 81 [some (vR 12), some (vI rule), some (vI r), some (vI k), some (vR 31)] [] μ R) ∧ (¬ (1 = 0) → Wp 34 69 [some (vR 12), some (vI rule), some (vI r), some (vI k), some (vR 31)] [] μ R) from ⟨fun z => absurd z (by decide), fun _ => ?_⟩)
        refine seg 5 (show Wp 12 0 [some (vR 25), some (vI r), some (vI k)] [] μ (fun rr μ' => Wp 34 78 [some (vR 12), some (vI rule), some (vI r), some (vI k), some (vR 31)] (rr.toList ++ []) μ' R) from ?_)
        refine s12v_25 (by omega) ?_
        refine seg 2 (show R (some (vI (μ 27 (r * 8 + k)))) μ from ?_)
        refine hk _ ⟨fun z => ?_, fun z => ?_, fun z => ?_, fun z hz => ?_⟩ <;> first
        | (exfalso; omega)
        | rfl
        | (unfold mvB; rw [if_pos (by rw [← hs.1, ← hM1]; assumption), hM2])
        | (unfold mvB; rw [if_neg (by rw [← hs.1, ← hM1]; assumption)])
        | (rw [if_pos (by rw [← hs.2.1]; assumption), ← (hg.2 r hr.1 hr.2).2.2.2 hz k.toNat (by omega), Int.toNat_of_nonneg hk8.1])
        | (rw [if_neg (by rw [← hs.2.1]; assumption)])
      ·
        refine seg 1 (show (0 = 0 → Wp 34 81 [some (vR 12), some (vI rule), some (vI r), some (vI k), some (vR 31)] [] μ R) ∧ (¬ (0 = 0) → Wp 34 69 [some (vR 12), some (vI rule), some (vI r), some (vI k), some (vR 31)] [] μ R) from ⟨fun _ => ?_, fun z => absurd z (by decide)⟩)
        refine seg 2 (show R (some (vI (-9))) μ from ?_)
        refine hk _ ⟨fun z => ?_, fun z => ?_, fun z => ?_, fun z hz => ?_⟩ <;> first
        | (exfalso; omega)
        | rfl
        | (unfold mvB; rw [if_pos (by rw [← hs.1, ← hM1]; assumption), hM2])
        | (unfold mvB; rw [if_neg (by rw [← hs.1, ← hM1]; assumption)])
        | (rw [if_pos (by rw [← hs.2.1]; assumption), ← (hg.2 r hr.1 hr.2).2.2.2 hz k.toNat (by omega), Int.toNat_of_nonneg hk8.1])
        | (rw [if_neg (by rw [← hs.2.1]; assumption)])
    ·
      refine seg 3 (show Wp 64 0 [some (vR 31), some (vI r)] [] μ (fun rr μ' => Wp 34 90 [some (vR 12), some (vI rule), some (vI r), some (vI k), some (vR 31)] (rr.toList ++ []) μ' R) from ?_)
      refine s64_31 (by omega) (by rw [hs.2.1]; exact hok2.1) (fun b3 => ?_) (fun b3 => ?_)
      ·
        refine seg 1 (show (1 = 0 → Wp 34 105 [some (vR 12), some (vI rule), some (vI r), some (vI k), some (vR 31)] [] μ R) ∧ (¬ (1 = 0) → Wp 34 93 [some (vR 12), some (vI rule), some (vI r), some (vI k), some (vR 31)] [] μ R) from ⟨fun z => absurd z (by decide), fun _ => ?_⟩)
        refine seg 5 (show Wp 7 0 [some (vR 28), some (vI r), some (vI k)] [] μ (fun rr μ' => Wp 34 102 [some (vR 12), some (vI rule), some (vI r), some (vI k), some (vR 31)] (rr.toList ++ []) μ' R) from ?_)
        refine s7v_28 (by omega) ?_
        refine seg 2 (show R (some (vI (μ 29 (r * 8 + k)))) μ from ?_)
        refine hk _ ⟨fun z => ?_, fun z => ?_, fun z => ?_, fun z hz => ?_⟩ <;> first
        | (exfalso; omega)
        | rfl
        | (unfold mvB; rw [if_pos (by rw [← hs.1, ← hM1]; assumption), hM2])
        | (unfold mvB; rw [if_neg (by rw [← hs.1, ← hM1]; assumption)])
        | (rw [if_pos (by rw [← hs.2.1]; assumption), ← (hg.2 r hr.1 hr.2).2.2.2 hz k.toNat (by omega), Int.toNat_of_nonneg hk8.1])
        | (rw [if_neg (by rw [← hs.2.1]; assumption)])
      ·
        refine seg 1 (show (0 = 0 → Wp 34 105 [some (vR 12), some (vI rule), some (vI r), some (vI k), some (vR 31)] [] μ R) ∧ (¬ (0 = 0) → Wp 34 93 [some (vR 12), some (vI rule), some (vI r), some (vI k), some (vR 31)] [] μ R) from ⟨fun _ => ?_, fun z => absurd z (by decide)⟩)
        refine seg 2 (show R (some (vI (-9))) μ from ?_)
        refine hk _ ⟨fun z => ?_, fun z => ?_, fun z => ?_, fun z hz => ?_⟩ <;> first
        | (exfalso; omega)
        | rfl
        | (unfold mvB; rw [if_pos (by rw [← hs.1, ← hM1]; assumption), hM2])
        | (unfold mvB; rw [if_neg (by rw [← hs.1, ← hM1]; assumption)])
        | (rw [if_pos (by rw [← hs.2.1]; assumption), ← (hg.2 r hr.1 hr.2).2.2.2 hz k.toNat (by omega), Int.toNat_of_nonneg hk8.1])
        | (rw [if_neg (by rw [← hs.2.1]; assumption)])
  ·
    refine seg 2 (show R (some (vI (-9))) μ from ?_)
    refine hk _ ⟨fun z => ?_, fun z => ?_, fun z => ?_, fun z hz => ?_⟩ <;> first
    | (exfalso; omega)
    | rfl
    | (unfold mvB; rw [if_pos (by rw [← hs.1, ← hM1]; assumption), hM2])
    | (unfold mvB; rw [if_neg (by rw [← hs.1, ← hM1]; assumption)])
    | (rw [if_pos (by rw [← hs.2.1]; assumption), ← (hg.2 r hr.1 hr.2).2.2.2 hz k.toNat (by omega), Int.toNat_of_nonneg hk8.1])
    | (rw [if_neg (by rw [← hs.2.1]; assumption)])
theorem s33_31 {G : Hi} {s : Se} {R : Po} {μ : Mu} {rule r k : Int} (hg : PG G μ) (hs : SeC s (μ 31)) (hok : SeOK s) (hr : 0 ≤ r ∧ r < hN G) (hk8 : 0 ≤ k ∧ k < 8) (hu : 0 ≤ rule ∧ rule < 4) (h : R (some (vI (gv G s rule r k))) μ) : Wp 33 0 [some (vR 12), some (vI rule), some (vI r), some (vI k), some (vR 31), none, none] [] μ R := by
  have hn := hg.1.1.n
  have hI := (hg.2 r hr.1 hr.2).1
  have hJ := (hg.2 r hr.1 hr.2).2.1
  have q0 : PaOK r (hP G r 0) := hg.1.1.p hr (by decide)
  have q1 : PaOK r (hP G r 1) := hg.1.1.p hr (by decide)
  unfold PaOK at q0 q1
  have w0 := fun v => (fun h : SB G s rule r k v => h)
  refine seg 3 (show (¬ (rule = 1) → Wp 33 16 [some (vR 12), some (vI rule), some (vI r), some (vI k), some (vR 31), none, none] [] μ R) ∧ (rule = 1 → Wp 33 5 [some (vR 12), some (vI rule), some (vI r), some (vI k), some (vR 31), none, none] [] μ R) from ⟨fun c1 => ?_, fun c1 => ?_⟩)
  ·
    refine seg 4 (show Wp 18 0 [some (vR 13), some (vI r)] [] μ (fun rr μ' => Wp 33 24 [some (vR 12), some (vI rule), some (vI r), some (vI k), some (vR 31), none, none] (rr.toList ++ []) μ' R) from ?_)
    refine p18v hI (by omega) ?_
    refine seg 7 (show Wp 34 0 [some (vR 12), some (vI rule), some (vI r), some (vI k), some (vR 31)] [] μ (fun rr μ' => Wp 33 35 [some (vR 12), some (vI rule), some (vI r), some (vI k), some (vR 31), some (vI (hP G r 0)), none] (rr.toList ++ []) μ' R) from ?_)
    refine s34_31 hg hs hok hr hk8 hu (fun v hv => ?_)
    refine seg 4 (show (hP G r 0 = -9 → Wp 33 51 [some (vR 12), some (vI rule), some (vI r), some (vI k), some (vR 31), some (vI (hP G r 0)), some (vI v)] [] μ R) ∧ (¬ (hP G r 0 = -9) → Wp 33 44 [some (vR 12), some (vI rule), some (vI r), some (vI k), some (vR 31), some (vI (hP G r 0)), some (vI v)] [] μ R) from ⟨fun c2 => ?_, fun c2 => ?_⟩)
    ·
      refine seg 3 (show R (some (vI (-9))) μ from ?_)
      have e := gv_sb (par := if rule = 1 then hP G r 1 else hP G r 0) hg.1.1 hr hu hv (by by_cases hq : rule = 1 <;> simp [hq])
      first | rw [if_pos (by assumption : rule = 1)] at e | rw [if_neg (by assumption : ¬ rule = 1)] at e
      first | rw [if_pos (by omega)] at e | rw [if_neg (by omega)] at e
      rw [← e]; exact h
    ·
      refine seg 3 (show (¬ (v = -9) → Wp 33 56 [some (vR 12), some (vI rule), some (vI r), some (vI k), some (vR 31), some (vI (hP G r 0)), some (vI v)] [] μ R) ∧ (v = -9 → Wp 33 51 [some (vR 12), some (vI rule), some (vI r), some (vI k), some (vR 31), some (vI (hP G r 0)), some (vI v)] [] μ R) from ⟨fun c3 => ?_, fun c3 => ?_⟩)
      ·
        refine seg 3 (show Wp 114 0 [some (vI (hP G r 0)), some (vI v)] [] μ (fun rr μ' => Wp 33 63 [some (vR 12), some (vI rule), some (vI r), some (vI k), some (vR 31), some (vI (hP G r 0)), some (vI v)] (rr.toList ++ []) μ' R) from ?_)
        refine s114 (by have := sb_rg hg.1.1 hr hu hv (by omega); omega) ?_
        refine seg 1 (show R (some (vI ((hP G r 0) * 8 + v))) μ from ?_)
        have e := gv_sb (par := if rule = 1 then hP G r 1 else hP G r 0) hg.1.1 hr hu hv (by by_cases hq : rule = 1 <;> simp [hq])
        first | rw [if_pos (by assumption : rule = 1)] at e | rw [if_neg (by assumption : ¬ rule = 1)] at e
        first | rw [if_pos (by omega)] at e | rw [if_neg (by omega)] at e
        rw [← e]; exact h
      ·
        refine seg 3 (show R (some (vI (-9))) μ from ?_)
        have e := gv_sb (par := if rule = 1 then hP G r 1 else hP G r 0) hg.1.1 hr hu hv (by by_cases hq : rule = 1 <;> simp [hq])
        first | rw [if_pos (by assumption : rule = 1)] at e | rw [if_neg (by assumption : ¬ rule = 1)] at e
        first | rw [if_pos (by omega)] at e | rw [if_neg (by omega)] at e
        rw [← e]; exact h
  ·
    refine seg 4 (show Wp 18 0 [some (vR 19), some (vI r)] [] μ (fun rr μ' => Wp 33 13 [some (vR 12), some (vI rule), some (vI r), some (vI k), some (vR 31), none, none] (rr.toList ++ []) μ' R) from ?_)
    refine p18w hJ (by omega) ?_
    refine seg 8 (show Wp 34 0 [some (vR 12), some (vI rule), some (vI r), some (vI k), some (vR 31)] [] μ (fun rr μ' => Wp 33 35 [some (vR 12), some (vI rule), some (vI r), some (vI k), some (vR 31), some (vI (hP G r 1)), none] (rr.toList ++ []) μ' R) from ?_)
    refine s34_31 hg hs hok hr hk8 hu (fun v hv => ?_)
    refine seg 4 (show (hP G r 1 = -9 → Wp 33 51 [some (vR 12), some (vI rule), some (vI r), some (vI k), some (vR 31), some (vI (hP G r 1)), some (vI v)] [] μ R) ∧ (¬ (hP G r 1 = -9) → Wp 33 44 [some (vR 12), some (vI rule), some (vI r), some (vI k), some (vR 31), some (vI (hP G r 1)), some (vI v)] [] μ R) from ⟨fun c4 => ?_, fun c4 => ?_⟩)
    ·
      refine seg 3 (show R (some (vI (-9))) μ from ?_)
      have e := gv_sb (par := if rule = 1 then hP G r 1 else hP G r 0) hg.1.1 hr hu hv (by by_cases hq : rule = 1 <;> simp [hq])
      first | rw [if_pos (by assumption : rule = 1)] at e | rw [if_neg (by assumption : ¬ rule = 1)] at e
      first | rw [if_pos (by omega)] at e | rw [if_neg (by omega)] at e
      rw [← e]; exact h
    ·
      refine seg 3 (show (¬ (v = -9) → Wp 33 56 [some (vR 12), some (vI rule), some (vI r), some (vI k), some (vR 31), some (vI (hP G r 1)), some (vI v)] [] μ R) ∧ (v = -9 → Wp 33 51 [some (vR 12), some (vI rule), some (vI r), some (vI k), some (vR 31), some (vI (hP G r 1)), some (vI v)] [] μ R) from ⟨fun c5 => ?_, fun c5 => ?_⟩)
      ·
        refine seg 3 (show Wp 114 0 [some (vI (hP G r 1)), some (vI v)] [] μ (fun rr μ' => Wp 33 63 [some (vR 12), some (vI rule), some (vI r), some (vI k), some (vR 31), some (vI (hP G r 1)), some (vI v)] (rr.toList ++ []) μ' R) from ?_)
        refine s114 (by have := sb_rg hg.1.1 hr hu hv (by omega); omega) ?_
        refine seg 1 (show R (some (vI ((hP G r 1) * 8 + v))) μ from ?_)
        have e := gv_sb (par := if rule = 1 then hP G r 1 else hP G r 0) hg.1.1 hr hu hv (by by_cases hq : rule = 1 <;> simp [hq])
        first | rw [if_pos (by assumption : rule = 1)] at e | rw [if_neg (by assumption : ¬ rule = 1)] at e
        first | rw [if_pos (by omega)] at e | rw [if_neg (by omega)] at e
        rw [← e]; exact h
      ·
        refine seg 3 (show R (some (vI (-9))) μ from ?_)
        have e := gv_sb (par := if rule = 1 then hP G r 1 else hP G r 0) hg.1.1 hr hu hv (by by_cases hq : rule = 1 <;> simp [hq])
        first | rw [if_pos (by assumption : rule = 1)] at e | rw [if_neg (by assumption : ¬ rule = 1)] at e
        first | rw [if_pos (by omega)] at e | rw [if_neg (by omega)] at e
        rw [← e]; exact h
