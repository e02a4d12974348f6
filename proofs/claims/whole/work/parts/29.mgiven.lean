/-! MOVED, PASSED, traces in the model -/
theorem rl_mem {G : Hi} {r : Int} : ∀ (d : Nat) (i j : Int), (d : Int) < rl G r i j → rc G r (i + d) (j + d) := by
  intro d
  induction d with
  | zero =>
    intro i j h
    by_cases hq : rc G r i j
    · show rc G r (i + 0) (j + 0)
      rw [Int.add_zero, Int.add_zero]; exact hq
    · rw [rl_out hq] at h; exact absurd h (by omega)
  | succ d ih =>
    intro i j h
    by_cases hq : rc G r i j
    · rw [rl_in hq] at h
      have := ih (i + 1) (j + 1) (by omega)
      rw [show i + ((d + 1 : Nat) : Int) = i + 1 + (d : Int) by omega, show j + ((d + 1 : Nat) : Int) = j + 1 + (d : Int) by omega]
      exact this
    · rw [rl_out hq] at h; exact absurd h (by omega)
theorem rowM_ext {G : Hi} {r k i : Int} (q : Int × Int) : ∀ (m : Nat), rowM G r k i ((k + 1).toNat + m) q = rowM G r k i (k + 1).toNat q := by
  intro m
  induction m with
  | zero => rfl
  | succ m ih =>
    show stM k (rowM G r k i ((k + 1).toNat + m) q) i ((((k + 1).toNat + m : Nat)) : Int) (rl G r i (((k + 1).toNat + m : Nat) : Int)) = _
    rw [ih]
    unfold stM
    rw [if_neg (by omega)]
theorem allM_ext {G : Hi} {r k : Int} (q : Int × Int) {m : Nat} (h : (k + 1).toNat ≤ m) : ∀ i : Nat, allM G r k m i q = allM G r k (k + 1).toNat i q := by
  intro i
  obtain ⟨d, rfl⟩ := Nat.exists_eq_add_of_le h
  induction i with
  | zero => rfl
  | succ i ih => rw [allM, allM, ih, rowM_ext]
theorem allM_cmp {G : Hi} {r k b : Int} (hb : 1 ≤ b) {m : Nat} : ∀ i : Nat, 0 ≤ (allM G r k m i (0, -9)).1 ∧ (((allM G r k m i (0, -9)).1 ≤ b - 1 ∧ allM G r k m i (b - 1, -9) = (b - 1, -9)) ∨ (b ≤ (allM G r k m i (0, -9)).1 ∧ allM G r k m i (b - 1, -9) = allM G r k m i (0, -9))) := by
  have st : ∀ (q0 qb : Int × Int) (i j n : Int), 0 ≤ q0.1 ∧ ((q0.1 ≤ b - 1 ∧ qb = (b - 1, -9)) ∨ (b ≤ q0.1 ∧ qb = q0)) → 0 ≤ (stM k q0 i j n).1 ∧ (((stM k q0 i j n).1 ≤ b - 1 ∧ stM k qb i j n = (b - 1, -9)) ∨ (b ≤ (stM k q0 i j n).1 ∧ stM k qb i j n = stM k q0 i j n)) := by
    intro q0 qb i j n h
    obtain ⟨h0, h⟩ := h
    rcases h with ⟨h1, rfl⟩ | ⟨h1, rfl⟩
    · unfold stM
      by_cases hc : j ≤ k ∧ k < j + n
      · by_cases hn : q0.1 < n
        · rw [if_pos ⟨hc.1, hc.2, hn⟩]
          by_cases hn2 : b - 1 < n
          · rw [if_pos ⟨hc.1, hc.2, hn2⟩]
            exact ⟨by dsimp only; omega, Or.inr ⟨by dsimp only; omega, rfl⟩⟩
          · rw [if_neg (fun z => hn2 z.2.2)]
            exact ⟨by dsimp only; omega, Or.inl ⟨by dsimp only; omega, rfl⟩⟩
        · rw [if_neg (fun z => hn z.2.2), if_neg (fun z => by have := z.2.2; dsimp only at this; omega)]
          exact ⟨h0, Or.inl ⟨h1, rfl⟩⟩
      · rw [if_neg (fun z => hc ⟨z.1, z.2.1⟩), if_neg (fun z => hc ⟨z.1, z.2.1⟩)]
        exact ⟨h0, Or.inl ⟨h1, rfl⟩⟩
    · refine ⟨?_, Or.inr ⟨?_, rfl⟩⟩ <;>
      · unfold stM
        split
        · dsimp only; omega
        · omega
  have row : ∀ (q0 qb : Int × Int) (i : Int), 0 ≤ q0.1 ∧ ((q0.1 ≤ b - 1 ∧ qb = (b - 1, -9)) ∨ (b ≤ q0.1 ∧ qb = q0)) → ∀ j : Nat, 0 ≤ (rowM G r k i j q0).1 ∧ (((rowM G r k i j q0).1 ≤ b - 1 ∧ rowM G r k i j qb = (b - 1, -9)) ∨ (b ≤ (rowM G r k i j q0).1 ∧ rowM G r k i j qb = rowM G r k i j q0)) := by
    intro q0 qb i h j
    induction j with
    | zero => exact h
    | succ j ih => exact st _ _ _ _ _ ih
  intro i
  induction i with
  | zero => exact ⟨Int.le_refl _, Or.inl ⟨by show (0 : Int) ≤ b - 1; omega, rfl⟩⟩
  | succ i ih => exact row _ _ _ ih m
theorem mvB_m {G : Hi} {s : Se} {r k : Int} (hp : 0 ≤ hP G r 0) (hk : 0 ≤ k ∧ k < hS G r) (hb : 1 ≤ s.1) : (allM G r k (k + 1).toNat (hS G (hP G r 0)).toNat (s.1 - 1, -9)).2 = mvB G s r k := by
  have e : mv G r k = allM G r k (k + 1).toNat (hS G (hP G r 0)).toNat (0, -9) := by
    unfold mv
    rw [if_neg (by omega), allM_ext (m := (hS G r).toNat) (0, -9) (by omega)]
  unfold mvB
  rw [e]
  have h := allM_cmp (G := G) (r := r) (k := k) hb (m := (k + 1).toNat) (hS G (hP G r 0)).toNat
  rcases h.2 with ⟨h1, h2⟩ | ⟨h1, h2⟩
  · rw [h2, if_neg (by omega)]
  · rw [h2, if_pos (by omega)]
theorem mvB_pr {G : Hi} {s : Se} {r k : Int} (h : pr G r 0 k ≠ -9) : mvB G s r k = -9 := by
  have st : ∀ (i j : Nat), stM k (0, -9) i j (rl G r i j) = (0, -9) := by
    intro i j
    unfold stM
    by_cases hc : (j : Int) ≤ k ∧ k < j + rl G r i j
    · have := rl_mem (G := G) (r := r) (k - j).toNat i j (by omega)
      have h2 := this.2.2.2
      rw [show (j : Int) + ((k - j).toNat : Nat) = k by omega] at h2
      exact absurd h2 h
    · rw [if_neg (fun z => hc ⟨z.1, z.2.1⟩)]
  have row : ∀ (i j : Nat), rowM G r k i j (0, -9) = (0, -9) := by
    intro i j
    induction j with
    | zero => rfl
    | succ j ih => rw [rowM, ih, st]
  have all : ∀ (m i : Nat), allM G r k m i (0, -9) = (0, -9) := by
    intro m i
    induction i with
    | zero => rfl
    | succ i ih => rw [allM, ih, row]
  have e : (mv G r k).1 = 0 := by
    unfold mv
    split
    · rfl
    · rw [all]
  unfold mvB
  rw [e, if_neg (by omega)]
theorem n132 {G : Hi} {R : Po} {μ : Mu} {r k : Int} (hq : MP G μ r) (hr : 0 ≤ r ∧ r < 8) (hk : 0 ≤ k ∧ k < 8) (h : R (some (vI (pr G r 0 k))) μ) : Wp 132 0 [some (vR 47), some (vI r), some (vI k), some (vI 0)] [] μ R := m132 hr hk (by decide) (by rw [(hq.1 k hk.1 hk.2).1]; exact h)
theorem n132w {G : Hi} {R : Po} {μ : Mu} {r k : Int} (hq : MP G μ r) (hr : 0 ≤ r ∧ r < 8) (hk : 0 ≤ k ∧ k < 8) (h : R (some (vI (pr G r 1 k))) μ) : Wp 132 0 [some (vR 47), some (vI r), some (vI k), some (vI 1)] [] μ R := m132 hr hk (by decide) (by rw [(hq.1 k hk.1 hk.2).2]; exact h)
theorem l133 {G : Hi} {R : Po} {μ : Mu} {r : Int} (hg : MG G μ) (hr : 0 ≤ r ∧ r < hN G) (hp : 0 ≤ hP G r 0 ∧ hP G r 0 < hN G) {i j : Int} (hi : 0 ≤ i ∧ i ≤ 8) (hj : 0 ≤ j ∧ j ≤ 8) (hk : R (some (vI (rl G r i j))) μ) : ∀ (n : Nat) (m : Int), 9 - m = n → 0 ≤ m → rl G r i j = m + rl G r (i + m) (j + m) → Wp 133 3 [some (vR 47), some (vI r), some (vI (hP G r 0)), some (vI j), some (vI i), some (vI m)] [] μ R := by
  have hm := hg.1
  have hq := hg.2 r hr.1 hr.2
  have h8 := hm.1.n
  have hsp := hm.1.s hp
  have hsr := hm.1.s hr
  have ep := (hm.2.2 _ hp.1 hp.2).1
  have er := (hm.2.2 r hr.1 hr.2).1
  have ew := (hm.2.2 r hr.1 hr.2).2.1
  intro n
  induction n with
  | zero =>
    intro m hn h0 he
    have hip : i + m < 8 → μ 52 (8 * r + i + m) = ip G r (i + m) := fun z => by rw [Int.add_assoc]; exact hq.2 (i + m) (by omega) z
    refine seg 8 (show iR (i + m) ∧ (0 ≤ (hP G r 0) ∧ (hP G r 0) < 8) ∧ (μ 48 (hP G r 0) ≤ i + m → Wp 133 89 [some (vR 47), some (vI r), some (vI (hP G r 0)), some (vI j), some (vI i), some (vI m)] [] μ R) ∧ (¬ (μ 48 (hP G r 0) ≤ i + m) → Wp 133 17 [some (vR 47), some (vI r), some (vI (hP G r 0)), some (vI j), some (vI i), some (vI m)] [] μ R) from ⟨by omega, by omega, fun c1 => ?_, fun c1 => ?_⟩)
    ·
      refine seg 2 (show R (some (vI m)) μ from ?_)
      have e0 := rl_out (G := G) (r := r) (i := i + m) (j := j + m) (fun z => by first | (have := z.1; omega) | exact absurd z.2.1 (by assumption) | (have z3 := z.2.2.1; have := hip (by omega); omega) | (have z4 := z.2.2.2; omega))
      have e1 : m = rl G r i j := by omega
      rw [e1]; exact hk
    ·
      refine seg 8 (show iR (j + m) ∧ (0 ≤ r ∧ r < 8) ∧ (μ 48 r ≤ j + m → Wp 133 89 [some (vR 47), some (vI r), some (vI (hP G r 0)), some (vI j), some (vI i), some (vI m)] [] μ R) ∧ (¬ (μ 48 r ≤ j + m) → Wp 133 30 [some (vR 47), some (vI r), some (vI (hP G r 0)), some (vI j), some (vI i), some (vI m)] [] μ R) from ⟨by omega, by omega, fun c2 => ?_, fun c2 => ?_⟩)
      ·
        refine seg 2 (show R (some (vI m)) μ from ?_)
        have e0 := rl_out (G := G) (r := r) (i := i + m) (j := j + m) (fun z => by first | (have := z.1; omega) | exact absurd z.2.1 (by assumption) | (have z3 := z.2.2.1; have := hip (by omega); omega) | (have z4 := z.2.2.2; omega))
        have e1 : m = rl G r i j := by omega
        rw [e1]; exact hk
      ·
        refine seg 11 (show iR (8 * r) ∧ iR ((8 * r) + i) ∧ iR (((8 * r) + i) + m) ∧ (0 ≤ (((8 * r) + i) + m) ∧ (((8 * r) + i) + m) < 64) ∧ (¬ (μ 52 (((8 * r) + i) + m) = 0) → Wp 133 89 [some (vR 47), some (vI r), some (vI (hP G r 0)), some (vI j), some (vI i), some (vI m)] [] μ R) ∧ (μ 52 (((8 * r) + i) + m) = 0 → Wp 133 48 [some (vR 47), some (vI r), some (vI (hP G r 0)), some (vI j), some (vI i), some (vI m)] [] μ R) from ⟨by omega, by omega, by omega, by omega, fun c3 => ?_, fun c3 => ?_⟩)
        ·
          refine seg 2 (show R (some (vI m)) μ from ?_)
          have e0 := rl_out (G := G) (r := r) (i := i + m) (j := j + m) (fun z => by first | (have := z.1; omega) | exact absurd z.2.1 (by assumption) | (have z3 := z.2.2.1; have := hip (by omega); omega) | (have z4 := z.2.2.2; omega))
          have e1 : m = rl G r i j := by omega
          rw [e1]; exact hk
        ·
          refine seg 7 (show iR (j + m) ∧ Wp 132 0 [some (vR 47), some (vI r), some (vI (j + m)), some (vI 0)] [] μ (fun rr μ' => Wp 133 58 [some (vR 47), some (vI r), some (vI (hP G r 0)), some (vI j), some (vI i), some (vI m)] (rr.toList ++ []) μ' R) from ⟨by omega, ?_⟩)
          refine n132 hq (by omega) (by omega) ?_
          refine seg 1 (show (0 ≤ pr G r 0 (j + m) → Wp 133 89 [some (vR 47), some (vI r), some (vI (hP G r 0)), some (vI j), some (vI i), some (vI m)] [] μ R) ∧ (¬ (0 ≤ pr G r 0 (j + m)) → Wp 133 61 [some (vR 47), some (vI r), some (vI (hP G r 0)), some (vI j), some (vI i), some (vI m)] [] μ R) from ⟨fun c4 => ?_, fun c4 => ?_⟩)
          ·
            refine seg 2 (show R (some (vI m)) μ from ?_)
            have e0 := rl_out (G := G) (r := r) (i := i + m) (j := j + m) (fun z => by first | (have := z.1; omega) | exact absurd z.2.1 (by assumption) | (have z3 := z.2.2.1; have := hip (by omega); omega) | (have z4 := z.2.2.2; omega))
            have e1 : m = rl G r i j := by omega
            rw [e1]; exact hk
          ·
            refine seg 6 (show iR (i + m) ∧ Wp 129 0 [some (vR 47), some (vI (hP G r 0)), some (vI (i + m))] [] μ (fun rr μ' => Wp 133 71 [some (vR 47), some (vI r), some (vI (hP G r 0)), some (vI j), some (vI i), some (vI m)] (rr.toList ++ []) μ' R) from ⟨by omega, ?_⟩)
            refine n129 hm (by omega) (by omega) ?_
            refine seg 6 (show iR (j + m) ∧ Wp 129 0 [some (vR 47), some (vI r), some (vI (j + m))] [] μ (fun rr μ' => Wp 133 80 [some (vR 47), some (vI r), some (vI (hP G r 0)), some (vI j), some (vI i), some (vI m)] (rr.toList ++ [vI (hL G (hP G r 0) (i + m))]) μ' R) from ⟨by omega, ?_⟩)
            refine n129 hm (by omega) (by omega) ?_
            refine seg 1 (show (¬ (hL G (hP G r 0) (i + m) = hL G r (j + m)) → Wp 133 89 [some (vR 47), some (vI r), some (vI (hP G r 0)), some (vI j), some (vI i), some (vI m)] [] μ R) ∧ (hL G (hP G r 0) (i + m) = hL G r (j + m) → Wp 133 83 [some (vR 47), some (vI r), some (vI (hP G r 0)), some (vI j), some (vI i), some (vI m)] [] μ R) from ⟨fun c5 => ?_, fun c5 => ?_⟩)
            ·
              refine seg 2 (show R (some (vI m)) μ from ?_)
              have e0 := rl_out (G := G) (r := r) (i := i + m) (j := j + m) (fun z => by first | (have := z.1; omega) | exact absurd z.2.1 (by assumption) | (have z3 := z.2.2.1; have := hip (by omega); omega) | (have z4 := z.2.2.2; omega))
              have e1 : m = rl G r i j := by omega
              rw [e1]; exact hk
            ·
              refine seg 2 (show iR (m + 1) ∧ Wp 133 3 [some (vR 47), some (vI r), some (vI (hP G r 0)), some (vI j), some (vI i), some (vI (m + 1))] [] μ R from ⟨by omega, ?_⟩)
              exfalso; omega
  | succ n ih =>
    intro m hn h0 he
    have hip : i + m < 8 → μ 52 (8 * r + i + m) = ip G r (i + m) := fun z => by rw [Int.add_assoc]; exact hq.2 (i + m) (by omega) z
    refine seg 8 (show iR (i + m) ∧ (0 ≤ (hP G r 0) ∧ (hP G r 0) < 8) ∧ (μ 48 (hP G r 0) ≤ i + m → Wp 133 89 [some (vR 47), some (vI r), some (vI (hP G r 0)), some (vI j), some (vI i), some (vI m)] [] μ R) ∧ (¬ (μ 48 (hP G r 0) ≤ i + m) → Wp 133 17 [some (vR 47), some (vI r), some (vI (hP G r 0)), some (vI j), some (vI i), some (vI m)] [] μ R) from ⟨by omega, by omega, fun c6 => ?_, fun c6 => ?_⟩)
    ·
      refine seg 2 (show R (some (vI m)) μ from ?_)
      have e0 := rl_out (G := G) (r := r) (i := i + m) (j := j + m) (fun z => by first | (have := z.1; omega) | exact absurd z.2.1 (by assumption) | (have z3 := z.2.2.1; have := hip (by omega); omega) | (have z4 := z.2.2.2; omega))
      have e1 : m = rl G r i j := by omega
      rw [e1]; exact hk
    ·
      refine seg 8 (show iR (j + m) ∧ (0 ≤ r ∧ r < 8) ∧ (μ 48 r ≤ j + m → Wp 133 89 [some (vR 47), some (vI r), some (vI (hP G r 0)), some (vI j), some (vI i), some (vI m)] [] μ R) ∧ (¬ (μ 48 r ≤ j + m) → Wp 133 30 [some (vR 47), some (vI r), some (vI (hP G r 0)), some (vI j), some (vI i), some (vI m)] [] μ R) from ⟨by omega, by omega, fun c7 => ?_, fun c7 => ?_⟩)
      ·
        refine seg 2 (show R (some (vI m)) μ from ?_)
        have e0 := rl_out (G := G) (r := r) (i := i + m) (j := j + m) (fun z => by first | (have := z.1; omega) | exact absurd z.2.1 (by assumption) | (have z3 := z.2.2.1; have := hip (by omega); omega) | (have z4 := z.2.2.2; omega))
        have e1 : m = rl G r i j := by omega
        rw [e1]; exact hk
      ·
        refine seg 11 (show iR (8 * r) ∧ iR ((8 * r) + i) ∧ iR (((8 * r) + i) + m) ∧ (0 ≤ (((8 * r) + i) + m) ∧ (((8 * r) + i) + m) < 64) ∧ (¬ (μ 52 (((8 * r) + i) + m) = 0) → Wp 133 89 [some (vR 47), some (vI r), some (vI (hP G r 0)), some (vI j), some (vI i), some (vI m)] [] μ R) ∧ (μ 52 (((8 * r) + i) + m) = 0 → Wp 133 48 [some (vR 47), some (vI r), some (vI (hP G r 0)), some (vI j), some (vI i), some (vI m)] [] μ R) from ⟨by omega, by omega, by omega, by omega, fun c8 => ?_, fun c8 => ?_⟩)
        ·
          refine seg 2 (show R (some (vI m)) μ from ?_)
          have e0 := rl_out (G := G) (r := r) (i := i + m) (j := j + m) (fun z => by first | (have := z.1; omega) | exact absurd z.2.1 (by assumption) | (have z3 := z.2.2.1; have := hip (by omega); omega) | (have z4 := z.2.2.2; omega))
          have e1 : m = rl G r i j := by omega
          rw [e1]; exact hk
        ·
          refine seg 7 (show iR (j + m) ∧ Wp 132 0 [some (vR 47), some (vI r), some (vI (j + m)), some (vI 0)] [] μ (fun rr μ' => Wp 133 58 [some (vR 47), some (vI r), some (vI (hP G r 0)), some (vI j), some (vI i), some (vI m)] (rr.toList ++ []) μ' R) from ⟨by omega, ?_⟩)
          refine n132 hq (by omega) (by omega) ?_
          refine seg 1 (show (0 ≤ pr G r 0 (j + m) → Wp 133 89 [some (vR 47), some (vI r), some (vI (hP G r 0)), some (vI j), some (vI i), some (vI m)] [] μ R) ∧ (¬ (0 ≤ pr G r 0 (j + m)) → Wp 133 61 [some (vR 47), some (vI r), some (vI (hP G r 0)), some (vI j), some (vI i), some (vI m)] [] μ R) from ⟨fun c9 => ?_, fun c9 => ?_⟩)
          ·
            refine seg 2 (show R (some (vI m)) μ from ?_)
            have e0 := rl_out (G := G) (r := r) (i := i + m) (j := j + m) (fun z => by first | (have := z.1; omega) | exact absurd z.2.1 (by assumption) | (have z3 := z.2.2.1; have := hip (by omega); omega) | (have z4 := z.2.2.2; omega))
            have e1 : m = rl G r i j := by omega
            rw [e1]; exact hk
          ·
            refine seg 6 (show iR (i + m) ∧ Wp 129 0 [some (vR 47), some (vI (hP G r 0)), some (vI (i + m))] [] μ (fun rr μ' => Wp 133 71 [some (vR 47), some (vI r), some (vI (hP G r 0)), some (vI j), some (vI i), some (vI m)] (rr.toList ++ []) μ' R) from ⟨by omega, ?_⟩)
            refine n129 hm (by omega) (by omega) ?_
            refine seg 6 (show iR (j + m) ∧ Wp 129 0 [some (vR 47), some (vI r), some (vI (j + m))] [] μ (fun rr μ' => Wp 133 80 [some (vR 47), some (vI r), some (vI (hP G r 0)), some (vI j), some (vI i), some (vI m)] (rr.toList ++ [vI (hL G (hP G r 0) (i + m))]) μ' R) from ⟨by omega, ?_⟩)
            refine n129 hm (by omega) (by omega) ?_
            refine seg 1 (show (¬ (hL G (hP G r 0) (i + m) = hL G r (j + m)) → Wp 133 89 [some (vR 47), some (vI r), some (vI (hP G r 0)), some (vI j), some (vI i), some (vI m)] [] μ R) ∧ (hL G (hP G r 0) (i + m) = hL G r (j + m) → Wp 133 83 [some (vR 47), some (vI r), some (vI (hP G r 0)), some (vI j), some (vI i), some (vI m)] [] μ R) from ⟨fun c10 => ?_, fun c10 => ?_⟩)
            ·
              refine seg 2 (show R (some (vI m)) μ from ?_)
              have e0 := rl_out (G := G) (r := r) (i := i + m) (j := j + m) (fun z => by first | (have := z.1; omega) | exact absurd z.2.1 (by assumption) | (have z3 := z.2.2.1; have := hip (by omega); omega) | (have z4 := z.2.2.2; omega))
              have e1 : m = rl G r i j := by omega
              rw [e1]; exact hk
            ·
              refine seg 2 (show iR (m + 1) ∧ Wp 133 3 [some (vR 47), some (vI r), some (vI (hP G r 0)), some (vI j), some (vI i), some (vI (m + 1))] [] μ R from ⟨by omega, ?_⟩)
              have g4 := pr_rg G r 0 (j + m)
              have e0 := rl_in (G := G) (r := r) (i := i + m) (j := j + m) ⟨⟨by omega, by omega⟩, by assumption, by have := hip (by omega); omega, by omega⟩
              rw [show i + m + 1 = i + (m + 1) by omega, show j + m + 1 = j + (m + 1) by omega] at e0
              exact ih (m + 1) (by omega) (by omega) (by omega)
theorem n133 {G : Hi} {R : Po} {μ : Mu} {r : Int} (hg : MG G μ) (hr : 0 ≤ r ∧ r < hN G) (hp : 0 ≤ hP G r 0 ∧ hP G r 0 < hN G) {i j : Int} (hi : 0 ≤ i ∧ i ≤ 8) (hj : 0 ≤ j ∧ j ≤ 8) (hk : R (some (vI (rl G r i j))) μ) : Wp 133 0 [some (vR 47), some (vI r), some (vI (hP G r 0)), some (vI j), some (vI i), none] [] μ R := by
  refine seg 2 (show Wp 133 3 [some (vR 47), some (vI r), some (vI (hP G r 0)), some (vI j), some (vI i), some (vI 0)] [] μ R from ?_)
  exact l133 hg hr hp hi hj hk 9 0 (by decide) (by decide) (by rw [Int.add_zero, Int.add_zero, Int.zero_add])
theorem rowM_b {G : Hi} {s : Se} {r k : Int} (hok : SeOK s) (h8 : hS G (hP G r 0) ≤ 8) (hb : 1 ≤ s.1) (i j m : Nat) : 0 ≤ (rowM G r k i j (allM G r k m i (s.1 - 1, -9))).1 ∧ (rowM G r k i j (allM G r k m i (s.1 - 1, -9))).1 ≤ 100 := by
  have st : ∀ (q : Int × Int) (i j : Nat), 0 ≤ q.1 ∧ q.1 ≤ 100 → 0 ≤ (stM k q i j (rl G r i j)).1 ∧ (stM k q i j (rl G r i j)).1 ≤ 100 := by
    intro q i j h
    have h2 := rl_rg (G := G) (r := r) _ (i : Int) (j : Int) (Nat.le_refl _)
    unfold stM
    split
    · dsimp only; omega
    · exact h
  have row : ∀ (q : Int × Int) (i : Nat), 0 ≤ q.1 ∧ q.1 ≤ 100 → ∀ j : Nat, 0 ≤ (rowM G r k i j q).1 ∧ (rowM G r k i j q).1 ≤ 100 := by
    intro q i h j
    induction j with
    | zero => exact h
    | succ j ih => exact st _ i j ih
  have all : ∀ i : Nat, 0 ≤ (allM G r k m i (s.1 - 1, -9)).1 ∧ (allM G r k m i (s.1 - 1, -9)).1 ≤ 100 := by
    intro i
    induction i with
    | zero => have := hok.1; show 0 ≤ s.1 - 1 ∧ s.1 - 1 ≤ 100; omega
    | succ i ih => exact row _ i ih m
  exact row _ i (all i) j
theorem l134a {G : Hi} {R : Po} {μ : Mu} {r : Int} (hg : MG G μ) (hr : 0 ≤ r ∧ r < hN G) (hp : 0 ≤ hP G r 0 ∧ hP G r 0 < hN G) {s : Se} {k : Int} (hs : SeC s (μ 53)) (hok : SeOK s) (hk8 : 0 ≤ k ∧ k < hS G r) (hb : 1 ≤ s.1) {i : Nat} (hi : (i : Int) < hS G (hP G r 0)) (hk : ∀ (o7 o8 : Option PV), Wp 134 115 [some (vR 47), some (vI r), some (vI k), some (vI (hP G r 0)), some (vI (allM G r k (k + 1).toNat (i + 1) (s.1 - 1, -9)).2), some (vI (allM G r k (k + 1).toNat (i + 1) (s.1 - 1, -9)).1), some (vI (i : Int)), o7, o8] [] μ R) : ∀ (n j : Nat) (o8 : Option PV), k + 1 - (j : Int) = n → Wp 134 62 [some (vR 47), some (vI r), some (vI k), some (vI (hP G r 0)), some (vI ((rowM G r k i j (allM G r k (k + 1).toNat i (s.1 - 1, -9))).2)), some (vI ((rowM G r k i j (allM G r k (k + 1).toNat i (s.1 - 1, -9))).1)), some (vI (i : Int)), some (vI (j : Int)), o8] [] μ R := by
  have hm := hg.1
  have hq := hg.2 r hr.1 hr.2
  have h8 := hm.1.n
  have hsp := hm.1.s hp
  have hsr := hm.1.s hr
  have ep := (hm.2.2 _ hp.1 hp.2).1
  have er := (hm.2.2 r hr.1 hr.2).1
  have ew := (hm.2.2 r hr.1 hr.2).2.1
  intro n
  induction n with
  | zero =>
    intro j o8 hn
    have hw := rowM_b (r := r) (k := k) hok hsp.2 hb i j (k + 1).toNat
    have hl := rl_rg (G := G) (r := r) _ (i : Int) (j : Int) (Nat.le_refl _)
    refine seg 3 (show (k < (j : Int) → Wp 134 115 [some (vR 47), some (vI r), some (vI k), some (vI (hP G r 0)), some (vI ((rowM G r k i j (allM G r k (k + 1).toNat i (s.1 - 1, -9))).2)), some (vI ((rowM G r k i j (allM G r k (k + 1).toNat i (s.1 - 1, -9))).1)), some (vI (i : Int)), some (vI (j : Int)), o8] [] μ R) ∧ (¬ (k < (j : Int)) → Wp 134 68 [some (vR 47), some (vI r), some (vI k), some (vI (hP G r 0)), some (vI ((rowM G r k i j (allM G r k (k + 1).toNat i (s.1 - 1, -9))).2)), some (vI ((rowM G r k i j (allM G r k (k + 1).toNat i (s.1 - 1, -9))).1)), some (vI (i : Int)), some (vI (j : Int)), o8] [] μ R) from ⟨fun c1 => ?_, fun c1 => ?_⟩)
    ·
      first | (exfalso; omega) | (have := hk (some (vI (j : Int))) o8; rw [allM, show (k + 1).toNat = j by omega] at this; rw [show (k + 1).toNat = j by omega]; exact this)
    ·
      refine seg 6 (show Wp 133 0 [some (vR 47), some (vI r), some (vI (hP G r 0)), some (vI (j : Int)), some (vI (i : Int)), none] [] μ (fun rr μ' => Wp 134 78 [some (vR 47), some (vI r), some (vI k), some (vI (hP G r 0)), some (vI ((rowM G r k i j (allM G r k (k + 1).toNat i (s.1 - 1, -9))).2)), some (vI ((rowM G r k i j (allM G r k (k + 1).toNat i (s.1 - 1, -9))).1)), some (vI (i : Int)), some (vI (j : Int)), o8] (rr.toList ++ []) μ' R) from ?_)
      refine n133 hg hr hp (by omega) (by omega) ?_
      refine seg 6 (show iR ((j : Int) + (rl G r (i : Int) (j : Int))) ∧ ((j : Int) + (rl G r (i : Int) (j : Int)) ≤ k → Wp 134 109 [some (vR 47), some (vI r), some (vI k), some (vI (hP G r 0)), some (vI ((rowM G r k i j (allM G r k (k + 1).toNat i (s.1 - 1, -9))).2)), some (vI ((rowM G r k i j (allM G r k (k + 1).toNat i (s.1 - 1, -9))).1)), some (vI (i : Int)), some (vI (j : Int)), some (vI (rl G r (i : Int) (j : Int)))] [] μ R) ∧ (¬ ((j : Int) + (rl G r (i : Int) (j : Int)) ≤ k) → Wp 134 89 [some (vR 47), some (vI r), some (vI k), some (vI (hP G r 0)), some (vI ((rowM G r k i j (allM G r k (k + 1).toNat i (s.1 - 1, -9))).2)), some (vI ((rowM G r k i j (allM G r k (k + 1).toNat i (s.1 - 1, -9))).1)), some (vI (i : Int)), some (vI (j : Int)), some (vI (rl G r (i : Int) (j : Int)))] [] μ R) from ⟨by omega, fun c2 => ?_, fun c2 => ?_⟩)
      ·
        refine seg 2 (show iR ((j : Int) + 1) ∧ Wp 134 62 [some (vR 47), some (vI r), some (vI k), some (vI (hP G r 0)), some (vI ((rowM G r k i j (allM G r k (k + 1).toNat i (s.1 - 1, -9))).2)), some (vI ((rowM G r k i j (allM G r k (k + 1).toNat i (s.1 - 1, -9))).1)), some (vI (i : Int)), some (vI ((j : Int) + 1)), some (vI (rl G r (i : Int) (j : Int)))] [] μ R from ⟨by omega, ?_⟩)
        exfalso; omega
      ·
        refine seg 3 (show (rl G r (i : Int) (j : Int) ≤ (rowM G r k i j (allM G r k (k + 1).toNat i (s.1 - 1, -9))).1 → Wp 134 109 [some (vR 47), some (vI r), some (vI k), some (vI (hP G r 0)), some (vI ((rowM G r k i j (allM G r k (k + 1).toNat i (s.1 - 1, -9))).2)), some (vI ((rowM G r k i j (allM G r k (k + 1).toNat i (s.1 - 1, -9))).1)), some (vI (i : Int)), some (vI (j : Int)), some (vI (rl G r (i : Int) (j : Int)))] [] μ R) ∧ (¬ (rl G r (i : Int) (j : Int) ≤ (rowM G r k i j (allM G r k (k + 1).toNat i (s.1 - 1, -9))).1) → Wp 134 96 [some (vR 47), some (vI r), some (vI k), some (vI (hP G r 0)), some (vI ((rowM G r k i j (allM G r k (k + 1).toNat i (s.1 - 1, -9))).2)), some (vI ((rowM G r k i j (allM G r k (k + 1).toNat i (s.1 - 1, -9))).1)), some (vI (i : Int)), some (vI (j : Int)), some (vI (rl G r (i : Int) (j : Int)))] [] μ R) from ⟨fun c3 => ?_, fun c3 => ?_⟩)
        ·
          refine seg 2 (show iR ((j : Int) + 1) ∧ Wp 134 62 [some (vR 47), some (vI r), some (vI k), some (vI (hP G r 0)), some (vI ((rowM G r k i j (allM G r k (k + 1).toNat i (s.1 - 1, -9))).2)), some (vI ((rowM G r k i j (allM G r k (k + 1).toNat i (s.1 - 1, -9))).1)), some (vI (i : Int)), some (vI ((j : Int) + 1)), some (vI (rl G r (i : Int) (j : Int)))] [] μ R from ⟨by omega, ?_⟩)
          exfalso; omega
        ·
          refine seg 10 (show iR ((i : Int) + k) ∧ iR (((i : Int) + k) - (j : Int)) ∧ iR ((j : Int) + 1) ∧ Wp 134 62 [some (vR 47), some (vI r), some (vI k), some (vI (hP G r 0)), some (vI (((i : Int) + k) - (j : Int))), some (vI (rl G r (i : Int) (j : Int))), some (vI (i : Int)), some (vI ((j : Int) + 1)), some (vI (rl G r (i : Int) (j : Int)))] [] μ R from ⟨by omega, by omega, by omega, ?_⟩)
          exfalso; omega
  | succ n ih =>
    intro j o8 hn
    have hw := rowM_b (r := r) (k := k) hok hsp.2 hb i j (k + 1).toNat
    have hl := rl_rg (G := G) (r := r) _ (i : Int) (j : Int) (Nat.le_refl _)
    refine seg 3 (show (k < (j : Int) → Wp 134 115 [some (vR 47), some (vI r), some (vI k), some (vI (hP G r 0)), some (vI ((rowM G r k i j (allM G r k (k + 1).toNat i (s.1 - 1, -9))).2)), some (vI ((rowM G r k i j (allM G r k (k + 1).toNat i (s.1 - 1, -9))).1)), some (vI (i : Int)), some (vI (j : Int)), o8] [] μ R) ∧ (¬ (k < (j : Int)) → Wp 134 68 [some (vR 47), some (vI r), some (vI k), some (vI (hP G r 0)), some (vI ((rowM G r k i j (allM G r k (k + 1).toNat i (s.1 - 1, -9))).2)), some (vI ((rowM G r k i j (allM G r k (k + 1).toNat i (s.1 - 1, -9))).1)), some (vI (i : Int)), some (vI (j : Int)), o8] [] μ R) from ⟨fun c4 => ?_, fun c4 => ?_⟩)
    ·
      first | (exfalso; omega) | (have := hk (some (vI (j : Int))) o8; rw [allM, show (k + 1).toNat = j by omega] at this; rw [show (k + 1).toNat = j by omega]; exact this)
    ·
      refine seg 6 (show Wp 133 0 [some (vR 47), some (vI r), some (vI (hP G r 0)), some (vI (j : Int)), some (vI (i : Int)), none] [] μ (fun rr μ' => Wp 134 78 [some (vR 47), some (vI r), some (vI k), some (vI (hP G r 0)), some (vI ((rowM G r k i j (allM G r k (k + 1).toNat i (s.1 - 1, -9))).2)), some (vI ((rowM G r k i j (allM G r k (k + 1).toNat i (s.1 - 1, -9))).1)), some (vI (i : Int)), some (vI (j : Int)), o8] (rr.toList ++ []) μ' R) from ?_)
      refine n133 hg hr hp (by omega) (by omega) ?_
      refine seg 6 (show iR ((j : Int) + (rl G r (i : Int) (j : Int))) ∧ ((j : Int) + (rl G r (i : Int) (j : Int)) ≤ k → Wp 134 109 [some (vR 47), some (vI r), some (vI k), some (vI (hP G r 0)), some (vI ((rowM G r k i j (allM G r k (k + 1).toNat i (s.1 - 1, -9))).2)), some (vI ((rowM G r k i j (allM G r k (k + 1).toNat i (s.1 - 1, -9))).1)), some (vI (i : Int)), some (vI (j : Int)), some (vI (rl G r (i : Int) (j : Int)))] [] μ R) ∧ (¬ ((j : Int) + (rl G r (i : Int) (j : Int)) ≤ k) → Wp 134 89 [some (vR 47), some (vI r), some (vI k), some (vI (hP G r 0)), some (vI ((rowM G r k i j (allM G r k (k + 1).toNat i (s.1 - 1, -9))).2)), some (vI ((rowM G r k i j (allM G r k (k + 1).toNat i (s.1 - 1, -9))).1)), some (vI (i : Int)), some (vI (j : Int)), some (vI (rl G r (i : Int) (j : Int)))] [] μ R) from ⟨by omega, fun c5 => ?_, fun c5 => ?_⟩)
      ·
        refine seg 2 (show iR ((j : Int) + 1) ∧ Wp 134 62 [some (vR 47), some (vI r), some (vI k), some (vI (hP G r 0)), some (vI ((rowM G r k i j (allM G r k (k + 1).toNat i (s.1 - 1, -9))).2)), some (vI ((rowM G r k i j (allM G r k (k + 1).toNat i (s.1 - 1, -9))).1)), some (vI (i : Int)), some (vI ((j : Int) + 1)), some (vI (rl G r (i : Int) (j : Int)))] [] μ R from ⟨by omega, ?_⟩)
        have := ih (j + 1) (some (vI (rl G r (i : Int) (j : Int)))) (by omega)
        have e : rowM G r k i (j + 1) (allM G r k (k + 1).toNat i (s.1 - 1, -9)) = rowM G r k i j (allM G r k (k + 1).toNat i (s.1 - 1, -9)) := by
          rw [rowM]; unfold stM
          first | (rw [if_pos ⟨by omega, by omega, by omega⟩]) | (rw [if_neg (by omega)])
        rw [e] at this
        exact this
      ·
        refine seg 3 (show (rl G r (i : Int) (j : Int) ≤ (rowM G r k i j (allM G r k (k + 1).toNat i (s.1 - 1, -9))).1 → Wp 134 109 [some (vR 47), some (vI r), some (vI k), some (vI (hP G r 0)), some (vI ((rowM G r k i j (allM G r k (k + 1).toNat i (s.1 - 1, -9))).2)), some (vI ((rowM G r k i j (allM G r k (k + 1).toNat i (s.1 - 1, -9))).1)), some (vI (i : Int)), some (vI (j : Int)), some (vI (rl G r (i : Int) (j : Int)))] [] μ R) ∧ (¬ (rl G r (i : Int) (j : Int) ≤ (rowM G r k i j (allM G r k (k + 1).toNat i (s.1 - 1, -9))).1) → Wp 134 96 [some (vR 47), some (vI r), some (vI k), some (vI (hP G r 0)), some (vI ((rowM G r k i j (allM G r k (k + 1).toNat i (s.1 - 1, -9))).2)), some (vI ((rowM G r k i j (allM G r k (k + 1).toNat i (s.1 - 1, -9))).1)), some (vI (i : Int)), some (vI (j : Int)), some (vI (rl G r (i : Int) (j : Int)))] [] μ R) from ⟨fun c6 => ?_, fun c6 => ?_⟩)
        ·
          refine seg 2 (show iR ((j : Int) + 1) ∧ Wp 134 62 [some (vR 47), some (vI r), some (vI k), some (vI (hP G r 0)), some (vI ((rowM G r k i j (allM G r k (k + 1).toNat i (s.1 - 1, -9))).2)), some (vI ((rowM G r k i j (allM G r k (k + 1).toNat i (s.1 - 1, -9))).1)), some (vI (i : Int)), some (vI ((j : Int) + 1)), some (vI (rl G r (i : Int) (j : Int)))] [] μ R from ⟨by omega, ?_⟩)
          have := ih (j + 1) (some (vI (rl G r (i : Int) (j : Int)))) (by omega)
          have e : rowM G r k i (j + 1) (allM G r k (k + 1).toNat i (s.1 - 1, -9)) = rowM G r k i j (allM G r k (k + 1).toNat i (s.1 - 1, -9)) := by
            rw [rowM]; unfold stM
            first | (rw [if_pos ⟨by omega, by omega, by omega⟩]) | (rw [if_neg (by omega)])
          rw [e] at this
          exact this
        ·
          refine seg 10 (show iR ((i : Int) + k) ∧ iR (((i : Int) + k) - (j : Int)) ∧ iR ((j : Int) + 1) ∧ Wp 134 62 [some (vR 47), some (vI r), some (vI k), some (vI (hP G r 0)), some (vI (((i : Int) + k) - (j : Int))), some (vI (rl G r (i : Int) (j : Int))), some (vI (i : Int)), some (vI ((j : Int) + 1)), some (vI (rl G r (i : Int) (j : Int)))] [] μ R from ⟨by omega, by omega, by omega, ?_⟩)
          have := ih (j + 1) (some (vI (rl G r (i : Int) (j : Int)))) (by omega)
          have e : rowM G r k i (j + 1) (allM G r k (k + 1).toNat i (s.1 - 1, -9)) = (rl G r (i : Int) (j : Int), (i : Int) + k - (j : Int)) := by
            rw [rowM]; unfold stM
            first | (rw [if_pos ⟨by omega, by omega, by omega⟩]) | (rw [if_neg (by omega)])
          rw [e] at this
          exact this
theorem l134 {G : Hi} {R : Po} {μ : Mu} {r : Int} (hg : MG G μ) (hr : 0 ≤ r ∧ r < hN G) (hp : 0 ≤ hP G r 0 ∧ hP G r 0 < hN G) {s : Se} {k : Int} (hs : SeC s (μ 53)) (hok : SeOK s) (hk8 : 0 ≤ k ∧ k < hS G r) (hb : 1 ≤ s.1) (hk : R (some (vI (mvB G s r k))) μ) : ∀ (n i : Nat) (o7 o8 : Option PV), hS G (hP G r 0) - (i : Int) = n → Wp 134 48 [some (vR 47), some (vI r), some (vI k), some (vI (hP G r 0)), some (vI ((allM G r k (k + 1).toNat i (s.1 - 1, -9)).2)), some (vI ((allM G r k (k + 1).toNat i (s.1 - 1, -9)).1)), some (vI (i : Int)), o7, o8] [] μ R := by
  have hm := hg.1
  have hq := hg.2 r hr.1 hr.2
  have h8 := hm.1.n
  have hsp := hm.1.s hp
  have hsr := hm.1.s hr
  have ep := (hm.2.2 _ hp.1 hp.2).1
  have er := (hm.2.2 r hr.1 hr.2).1
  have ew := (hm.2.2 r hr.1 hr.2).2.1
  intro n
  induction n with
  | zero =>
    intro i o7 o8 hn
    refine seg 6 (show (0 ≤ (hP G r 0) ∧ (hP G r 0) < 8) ∧ (μ 48 (hP G r 0) ≤ (i : Int) → Wp 134 121 [some (vR 47), some (vI r), some (vI k), some (vI (hP G r 0)), some (vI ((allM G r k (k + 1).toNat i (s.1 - 1, -9)).2)), some (vI ((allM G r k (k + 1).toNat i (s.1 - 1, -9)).1)), some (vI (i : Int)), o7, o8] [] μ R) ∧ (¬ (μ 48 (hP G r 0) ≤ (i : Int)) → Wp 134 59 [some (vR 47), some (vI r), some (vI k), some (vI (hP G r 0)), some (vI ((allM G r k (k + 1).toNat i (s.1 - 1, -9)).2)), some (vI ((allM G r k (k + 1).toNat i (s.1 - 1, -9)).1)), some (vI (i : Int)), o7, o8] [] μ R) from ⟨by omega, fun c1 => ?_, fun c1 => ?_⟩)
    ·
      refine seg 2 (show R (some (vI ((allM G r k (k + 1).toNat i (s.1 - 1, -9)).2))) μ from ?_)
      first | (exfalso; omega) | (rw [← mvB_m hp.1 hk8 hb, show (hS G (hP G r 0)).toNat = i by omega] at hk; exact hk)
    ·
      refine seg 2 (show Wp 134 62 [some (vR 47), some (vI r), some (vI k), some (vI (hP G r 0)), some (vI ((allM G r k (k + 1).toNat i (s.1 - 1, -9)).2)), some (vI ((allM G r k (k + 1).toNat i (s.1 - 1, -9)).1)), some (vI (i : Int)), some (vI 0), o8] [] μ R from ?_)
      exfalso; omega
  | succ n ih =>
    intro i o7 o8 hn
    refine seg 6 (show (0 ≤ (hP G r 0) ∧ (hP G r 0) < 8) ∧ (μ 48 (hP G r 0) ≤ (i : Int) → Wp 134 121 [some (vR 47), some (vI r), some (vI k), some (vI (hP G r 0)), some (vI ((allM G r k (k + 1).toNat i (s.1 - 1, -9)).2)), some (vI ((allM G r k (k + 1).toNat i (s.1 - 1, -9)).1)), some (vI (i : Int)), o7, o8] [] μ R) ∧ (¬ (μ 48 (hP G r 0) ≤ (i : Int)) → Wp 134 59 [some (vR 47), some (vI r), some (vI k), some (vI (hP G r 0)), some (vI ((allM G r k (k + 1).toNat i (s.1 - 1, -9)).2)), some (vI ((allM G r k (k + 1).toNat i (s.1 - 1, -9)).1)), some (vI (i : Int)), o7, o8] [] μ R) from ⟨by omega, fun c2 => ?_, fun c2 => ?_⟩)
    ·
      refine seg 2 (show R (some (vI ((allM G r k (k + 1).toNat i (s.1 - 1, -9)).2))) μ from ?_)
      first | (exfalso; omega) | (rw [← mvB_m hp.1 hk8 hb, show (hS G (hP G r 0)).toNat = i by omega] at hk; exact hk)
    ·
      refine seg 2 (show Wp 134 62 [some (vR 47), some (vI r), some (vI k), some (vI (hP G r 0)), some (vI ((allM G r k (k + 1).toNat i (s.1 - 1, -9)).2)), some (vI ((allM G r k (k + 1).toNat i (s.1 - 1, -9)).1)), some (vI (i : Int)), some (vI 0), o8] [] μ R from ?_)
      refine l134a hg hr hp hs hok hk8 hb (i := i) (by omega) (fun o7 o8 => ?_) (k + 1).toNat 0 o8 (by omega)
      refine seg 2 (show iR ((i : Int) + 1) ∧ Wp 134 48 [some (vR 47), some (vI r), some (vI k), some (vI (hP G r 0)), some (vI ((allM G r k (k + 1).toNat (i + 1) (s.1 - 1, -9)).2)), some (vI ((allM G r k (k + 1).toNat (i + 1) (s.1 - 1, -9)).1)), some (vI ((i : Int) + 1)), o7, o8] [] μ R from ⟨by omega, ?_⟩)
      exact ih (i + 1) _ _ (by omega)
theorem n134 {G : Hi} {R : Po} {μ : Mu} {r : Int} (hg : MG G μ) (hr : 0 ≤ r ∧ r < hN G) (hp : 0 ≤ hP G r 0 ∧ hP G r 0 < hN G) {s : Se} {k : Int} (hs : SeC s (μ 53)) (hok : SeOK s) (hk8 : 0 ≤ k ∧ k < hS G r) (hk : R (some (vI (mvB G s r k))) μ) : Wp 134 0 [some (vR 47), some (vI r), some (vI k), none, none, none, none, none, none] [] μ R := by
  have hm := hg.1
  have hq := hg.2 r hr.1 hr.2
  have h8 := hm.1.n
  have hsp := hm.1.s hp
  have hsr := hm.1.s hr
  have ep := (hm.2.2 _ hp.1 hp.2).1
  have er := (hm.2.2 r hr.1 hr.2).1
  have ew := (hm.2.2 r hr.1 hr.2).2.1
  have es := hs.1
  have hb0 := hok.1
  have g0 := pr_rg G r 0 k
  refine seg 7 (show iR (2 * r) ∧ (0 ≤ (2 * r) ∧ (2 * r) < 16) ∧ Wp 134 9 [some (vR 47), some (vI r), some (vI k), some (vI (μ 49 (2 * r))), none, none, none, none, none] [] μ R from ⟨by omega, by omega, ?_⟩)
  rw [ew]
  refine seg 5 (show (0 ≤ 0 ∧ 0 < 3) ∧ (μ 53 0 = 0 → Wp 134 28 [some (vR 47), some (vI r), some (vI k), some (vI (hP G r 0)), none, none, none, none, none] [] μ R) ∧ (¬ (μ 53 0 = 0) → Wp 134 18 [some (vR 47), some (vI r), some (vI k), some (vI (hP G r 0)), none, none, none, none, none] [] μ R) from ⟨by omega, fun c1 => ?_, fun c1 => ?_⟩)
  ·
    refine seg 2 (show R (some (vI (-9))) μ from ?_)
    have e : mvB G s r k = -9 := by first | exact mvB_pr (by omega) | (unfold mvB; rw [if_neg (by omega)])
    rw [e] at hk; exact hk
  ·
    refine seg 5 (show Wp 132 0 [some (vR 47), some (vI r), some (vI k), some (vI 0)] [] μ (fun rr μ' => Wp 134 25 [some (vR 47), some (vI r), some (vI k), some (vI (hP G r 0)), none, none, none, none, none] (rr.toList ++ []) μ' R) from ?_)
    refine n132 hq (by omega) (by omega) ?_
    refine seg 1 (show (pr G r 0 k < 0 → Wp 134 31 [some (vR 47), some (vI r), some (vI k), some (vI (hP G r 0)), none, none, none, none, none] [] μ R) ∧ (¬ (pr G r 0 k < 0) → Wp 134 28 [some (vR 47), some (vI r), some (vI k), some (vI (hP G r 0)), none, none, none, none, none] [] μ R) from ⟨fun c2 => ?_, fun c2 => ?_⟩)
    ·
      refine seg 9 (show (0 ≤ 0 ∧ 0 < 3) ∧ iR ((μ 53 0) - 1) ∧ Wp 134 45 [some (vR 47), some (vI r), some (vI k), some (vI (hP G r 0)), some (vI (-9)), some (vI ((μ 53 0) - 1)), none, none, none] [] μ R from ⟨by omega, by omega, ?_⟩)
      rw [es]
      refine seg 2 (show Wp 134 48 [some (vR 47), some (vI r), some (vI k), some (vI (hP G r 0)), some (vI (-9)), some (vI (s.1 - 1)), some (vI 0), none, none] [] μ R from ?_)
      exact l134 hg hr hp hs hok hk8 (by omega) hk (hS G (hP G r 0)).toNat 0 none none (by omega)
    ·
      refine seg 2 (show R (some (vI (-9))) μ from ?_)
      have e : mvB G s r k = -9 := by first | exact mvB_pr (by omega) | (unfold mvB; rw [if_neg (by omega)])
      rw [e] at hk; exact hk
theorem ahd_step {G : Hi} {r a : Int} (h0 : 0 ≤ a) (h : pr G r 0 a = -9) : ahd G r (a + 1).toNat = ahd G r a.toNat := by
  rw [show (a + 1).toNat = a.toNat + 1 by omega, ahd, if_pos (by rw [Int.toNat_of_nonneg h0]; exact h)]
theorem ahd_hit {G : Hi} {r a : Int} (h0 : 0 ≤ a) (h : pr G r 0 a ≠ -9) : ahd G r (a + 1).toNat = (a, pr G r 0 a) := by
  rw [show (a + 1).toNat = a.toNat + 1 by omega, ahd, if_neg (by rw [Int.toNat_of_nonneg h0]; exact h), Int.toNat_of_nonneg h0]
noncomputable def gpq (G : Hi) (r b : Int) (at' : Int) : Int := @ite _ (at' < hS G (hP G r 0) ∧ ∀ i, b + 1 ≤ i → i ≤ at' → ip G r i = 0) (Classical.propDecidable _) at' (-9)
theorem gpq_gp {G : Hi} {r : Int} {k : Nat} {a b : Int} (h : ahd G r k = (a, b)) : gp G r k = gpq G r b (b + k - a) := by
  unfold gp gpq; rw [h]
theorem l135b {G : Hi} {R : Po} {μ : Mu} {r : Int} (hg : MG G μ) (hr : 0 ≤ r ∧ r < hN G) (hp : 0 ≤ hP G r 0 ∧ hP G r 0 < hN G) {k a b z : Int} (hbb : -1 ≤ b ∧ b < 8) (hz : b + 1 ≤ z ∧ z ≤ 100) (hk : R (some (vI (gpq G r b z))) μ) : ∀ (n : Nat) (i f : Int), 200 - i = n → b + 1 ≤ i → ((f = 1 ∧ z < hS G (hP G r 0) ∧ i ≤ z + 1 ∧ ∀ x, b + 1 ≤ x → x < i → ip G r x = 0) ∨ (f = 0 ∧ ¬ (z < hS G (hP G r 0) ∧ ∀ x, b + 1 ≤ x → x ≤ z → ip G r x = 0))) → Wp 135 104 [some (vR 47), some (vI r), some (vI k), some (vI (hP G r 0)), some (vI a), some (vI b), some (vI z), some (vI f), some (vI i)] [] μ R := by
  have hm := hg.1
  have hq := hg.2 r hr.1 hr.2
  have h8 := hm.1.n
  have hsp := hm.1.s hp
  have hsr := hm.1.s hr
  have ep := (hm.2.2 _ hp.1 hp.2).1
  have er := (hm.2.2 r hr.1 hr.2).1
  have ew := (hm.2.2 r hr.1 hr.2).2.1
  intro n
  induction n with
  | zero =>
    intro i f hn h0 hf
    rcases hf with ⟨rfl, f1, f2, f3⟩ | ⟨rfl, f1⟩
    · exfalso; omega
    ·
      refine seg 3 (show (z < i → Wp 135 144 [some (vR 47), some (vI r), some (vI k), some (vI (hP G r 0)), some (vI a), some (vI b), some (vI z), some (vI 0), some (vI i)] [] μ R) ∧ (¬ (z < i) → Wp 135 111 [some (vR 47), some (vI r), some (vI k), some (vI (hP G r 0)), some (vI a), some (vI b), some (vI z), some (vI 0), some (vI i)] [] μ R) from ⟨fun c1 => ?_, fun c1 => ?_⟩)
      ·
        refine seg 2 (show (0 = 0 → Wp 135 154 [some (vR 47), some (vI r), some (vI k), some (vI (hP G r 0)), some (vI a), some (vI b), some (vI z), some (vI 0), some (vI i)] [] μ R) ∧ (¬ (0 = 0) → Wp 135 149 [some (vR 47), some (vI r), some (vI k), some (vI (hP G r 0)), some (vI a), some (vI b), some (vI z), some (vI 0), some (vI i)] [] μ R) from ⟨fun _ => ?_, fun z => absurd z (by decide)⟩)
        refine seg 2 (show R (some (vI (-9))) μ from ?_)
        first | (exfalso; omega) | (have e : gpq G r b z = -9 := if_neg f1; rw [e] at hk; exact hk)
      ·
        refine seg 2 (show (0 = 0 → Wp 135 144 [some (vR 47), some (vI r), some (vI k), some (vI (hP G r 0)), some (vI a), some (vI b), some (vI z), some (vI 0), some (vI i)] [] μ R) ∧ (¬ (0 = 0) → Wp 135 116 [some (vR 47), some (vI r), some (vI k), some (vI (hP G r 0)), some (vI a), some (vI b), some (vI z), some (vI 0), some (vI i)] [] μ R) from ⟨fun _ => ?_, fun z => absurd z (by decide)⟩)
        refine seg 2 (show (0 = 0 → Wp 135 154 [some (vR 47), some (vI r), some (vI k), some (vI (hP G r 0)), some (vI a), some (vI b), some (vI z), some (vI 0), some (vI i)] [] μ R) ∧ (¬ (0 = 0) → Wp 135 149 [some (vR 47), some (vI r), some (vI k), some (vI (hP G r 0)), some (vI a), some (vI b), some (vI z), some (vI 0), some (vI i)] [] μ R) from ⟨fun _ => ?_, fun z => absurd z (by decide)⟩)
        refine seg 2 (show R (some (vI (-9))) μ from ?_)
        first | (exfalso; omega) | (have e : gpq G r b z = -9 := if_neg f1; rw [e] at hk; exact hk)
  | succ n ih =>
    intro i f hn h0 hf
    have hip : 0 ≤ i → i < 8 → μ 52 (8 * r + i) = ip G r i := fun y1 y2 => hq.2 i y1 y2
    have hi2 := ip_rg G r i
    rcases hf with ⟨rfl, f1, f2, f3⟩ | ⟨rfl, f1⟩
    ·
      refine seg 3 (show (z < i → Wp 135 144 [some (vR 47), some (vI r), some (vI k), some (vI (hP G r 0)), some (vI a), some (vI b), some (vI z), some (vI 1), some (vI i)] [] μ R) ∧ (¬ (z < i) → Wp 135 111 [some (vR 47), some (vI r), some (vI k), some (vI (hP G r 0)), some (vI a), some (vI b), some (vI z), some (vI 1), some (vI i)] [] μ R) from ⟨fun c1 => ?_, fun c1 => ?_⟩)
      ·
        refine seg 2 (show (1 = 0 → Wp 135 154 [some (vR 47), some (vI r), some (vI k), some (vI (hP G r 0)), some (vI a), some (vI b), some (vI z), some (vI 1), some (vI i)] [] μ R) ∧ (¬ (1 = 0) → Wp 135 149 [some (vR 47), some (vI r), some (vI k), some (vI (hP G r 0)), some (vI a), some (vI b), some (vI z), some (vI 1), some (vI i)] [] μ R) from ⟨fun z => absurd z (by decide), fun _ => ?_⟩)
        refine seg 3 (show R (some (vI z)) μ from ?_)
        first | (exfalso; omega) | (have e : gpq G r b z = z := if_pos ⟨f1, fun x y1 y2 => f3 x y1 (by omega)⟩; rw [e] at hk; exact hk)
      ·
        refine seg 2 (show (1 = 0 → Wp 135 144 [some (vR 47), some (vI r), some (vI k), some (vI (hP G r 0)), some (vI a), some (vI b), some (vI z), some (vI 1), some (vI i)] [] μ R) ∧ (¬ (1 = 0) → Wp 135 116 [some (vR 47), some (vI r), some (vI k), some (vI (hP G r 0)), some (vI a), some (vI b), some (vI z), some (vI 1), some (vI i)] [] μ R) from ⟨fun z => absurd z (by decide), fun _ => ?_⟩)
        refine seg 9 (show iR (8 * r) ∧ iR ((8 * r) + i) ∧ (0 ≤ ((8 * r) + i) ∧ ((8 * r) + i) < 64) ∧ (¬ (μ 52 ((8 * r) + i) = 0) → Wp 135 135 [some (vR 47), some (vI r), some (vI k), some (vI (hP G r 0)), some (vI a), some (vI b), some (vI z), some (vI 1), some (vI i)] [] μ R) ∧ (μ 52 ((8 * r) + i) = 0 → Wp 135 131 [some (vR 47), some (vI r), some (vI k), some (vI (hP G r 0)), some (vI a), some (vI b), some (vI z), some (vI 1), some (vI i)] [] μ R) from ⟨by omega, by omega, by omega, fun c2 => ?_, fun c2 => ?_⟩)
        ·
          refine seg 4 (show iR (i + 1) ∧ Wp 135 104 [some (vR 47), some (vI r), some (vI k), some (vI (hP G r 0)), some (vI a), some (vI b), some (vI z), some (vI 0), some (vI (i + 1))] [] μ R from ⟨by omega, ?_⟩)
          have hv := hip (by omega) (by omega)
          refine ih (i + 1) _ (by omega) (by omega) ?_
          first
          | exact Or.inl ⟨rfl, f1, by omega, fun x y1 y2 => by
              by_cases hx : x = i
              · subst hx; omega
              · exact f3 x y1 (by omega)⟩
          | exact Or.inr ⟨rfl, fun y => by have := y.2 i h0 (by omega); omega⟩
        ·
          refine seg 5 (show iR (i + 1) ∧ Wp 135 104 [some (vR 47), some (vI r), some (vI k), some (vI (hP G r 0)), some (vI a), some (vI b), some (vI z), some (vI 1), some (vI (i + 1))] [] μ R from ⟨by omega, ?_⟩)
          have hv := hip (by omega) (by omega)
          refine ih (i + 1) _ (by omega) (by omega) ?_
          first
          | exact Or.inl ⟨rfl, f1, by omega, fun x y1 y2 => by
              by_cases hx : x = i
              · subst hx; omega
              · exact f3 x y1 (by omega)⟩
          | exact Or.inr ⟨rfl, fun y => by have := y.2 i h0 (by omega); omega⟩
    ·
      refine seg 3 (show (z < i → Wp 135 144 [some (vR 47), some (vI r), some (vI k), some (vI (hP G r 0)), some (vI a), some (vI b), some (vI z), some (vI 0), some (vI i)] [] μ R) ∧ (¬ (z < i) → Wp 135 111 [some (vR 47), some (vI r), some (vI k), some (vI (hP G r 0)), some (vI a), some (vI b), some (vI z), some (vI 0), some (vI i)] [] μ R) from ⟨fun c41 => ?_, fun c41 => ?_⟩)
      ·
        refine seg 2 (show (0 = 0 → Wp 135 154 [some (vR 47), some (vI r), some (vI k), some (vI (hP G r 0)), some (vI a), some (vI b), some (vI z), some (vI 0), some (vI i)] [] μ R) ∧ (¬ (0 = 0) → Wp 135 149 [some (vR 47), some (vI r), some (vI k), some (vI (hP G r 0)), some (vI a), some (vI b), some (vI z), some (vI 0), some (vI i)] [] μ R) from ⟨fun _ => ?_, fun z => absurd z (by decide)⟩)
        refine seg 2 (show R (some (vI (-9))) μ from ?_)
        first | (exfalso; omega) | (have e : gpq G r b z = -9 := if_neg f1; rw [e] at hk; exact hk)
      ·
        refine seg 2 (show (0 = 0 → Wp 135 144 [some (vR 47), some (vI r), some (vI k), some (vI (hP G r 0)), some (vI a), some (vI b), some (vI z), some (vI 0), some (vI i)] [] μ R) ∧ (¬ (0 = 0) → Wp 135 116 [some (vR 47), some (vI r), some (vI k), some (vI (hP G r 0)), some (vI a), some (vI b), some (vI z), some (vI 0), some (vI i)] [] μ R) from ⟨fun _ => ?_, fun z => absurd z (by decide)⟩)
        refine seg 2 (show (0 = 0 → Wp 135 154 [some (vR 47), some (vI r), some (vI k), some (vI (hP G r 0)), some (vI a), some (vI b), some (vI z), some (vI 0), some (vI i)] [] μ R) ∧ (¬ (0 = 0) → Wp 135 149 [some (vR 47), some (vI r), some (vI k), some (vI (hP G r 0)), some (vI a), some (vI b), some (vI z), some (vI 0), some (vI i)] [] μ R) from ⟨fun _ => ?_, fun z => absurd z (by decide)⟩)
        refine seg 2 (show R (some (vI (-9))) μ from ?_)
        first | (exfalso; omega) | (have e : gpq G r b z = -9 := if_neg f1; rw [e] at hk; exact hk)
theorem l135c {G : Hi} {R : Po} {μ : Mu} {r : Int} (hg : MG G μ) (hr : 0 ≤ r ∧ r < hN G) (hp : 0 ≤ hP G r 0 ∧ hP G r 0 < hN G) {k a b : Int} (hk8 : 0 ≤ k ∧ k < hS G r) (hA : ahd G r k.toNat = (a, b)) (hB : (a = -1 ∧ b = -1) ∨ (0 ≤ a ∧ b = pr G r 0 a)) (hbb : -1 ≤ b ∧ b < 8) (hk : R (some (vI (gp G r k.toNat))) μ) : Wp 135 52 [some (vR 47), some (vI r), some (vI k), some (vI (hP G r 0)), some (vI a), none, none, none, none] [] μ R := by
  have hm := hg.1
  have hq := hg.2 r hr.1 hr.2
  have h8 := hm.1.n
  have hsp := hm.1.s hp
  have hsr := hm.1.s hr
  have ep := (hm.2.2 _ hp.1 hp.2).1
  have er := (hm.2.2 r hr.1 hr.2).1
  have ew := (hm.2.2 r hr.1 hr.2).2.1
  have h9 := ahd_rg G r hsp.2 k.toNat
  rw [hA] at h9
  dsimp only at h9
  rw [gpq_gp hA, Int.toNat_of_nonneg hk8.1] at hk
  refine seg 2 (show (0 ≤ a → Wp 135 61 [some (vR 47), some (vI r), some (vI k), some (vI (hP G r 0)), some (vI a), none, none, none, none] [] μ R) ∧ (¬ (0 ≤ a) → Wp 135 57 [some (vR 47), some (vI r), some (vI k), some (vI (hP G r 0)), some (vI a), none, none, none, none] [] μ R) from ⟨fun c1 => ?_, fun c1 => ?_⟩)
  ·
    refine seg 5 (show Wp 132 0 [some (vR 47), some (vI r), some (vI a), some (vI 0)] [] μ (fun rr μ' => Wp 135 69 [some (vR 47), some (vI r), some (vI k), some (vI (hP G r 0)), some (vI a), none, none, none, none] (rr.toList ++ []) μ' R) from ?_)
    refine n132 hq (by omega) (by omega) ?_
    refine seg 13 (show iR ((pr G r 0 a) + k) ∧ iR (((pr G r 0 a) + k) - a) ∧ (0 ≤ (hP G r 0) ∧ (hP G r 0) < 8) ∧ (μ 48 (hP G r 0) ≤ ((pr G r 0 a) + k) - a → Wp 135 95 [some (vR 47), some (vI r), some (vI k), some (vI (hP G r 0)), some (vI a), some (vI (pr G r 0 a)), some (vI (((pr G r 0 a) + k) - a)), none, none] [] μ R) ∧ (¬ (μ 48 (hP G r 0) ≤ ((pr G r 0 a) + k) - a) → Wp 135 91 [some (vR 47), some (vI r), some (vI k), some (vI (hP G r 0)), some (vI a), some (vI (pr G r 0 a)), some (vI (((pr G r 0 a) + k) - a)), none, none] [] μ R) from ⟨by first | omega | (rcases hB with ⟨q1, q2⟩ | ⟨q1, q2⟩ <;> omega), by first | omega | (rcases hB with ⟨q1, q2⟩ | ⟨q1, q2⟩ <;> omega), by first | omega | (rcases hB with ⟨q1, q2⟩ | ⟨q1, q2⟩ <;> omega), fun c2 => ?_, fun c2 => ?_⟩)
    ·
      refine seg 6 (show iR ((pr G r 0 a) + 1) ∧ Wp 135 104 [some (vR 47), some (vI r), some (vI k), some (vI (hP G r 0)), some (vI a), some (vI (pr G r 0 a)), some (vI (((pr G r 0 a) + k) - a)), some (vI 0), some (vI ((pr G r 0 a) + 1))] [] μ R from ⟨by first | omega | (rcases hB with ⟨q1, q2⟩ | ⟨q1, q2⟩ <;> omega), ?_⟩)
      have eb : b = pr G r 0 a := by first | omega | (rcases hB with ⟨q1, q2⟩ | ⟨q1, q2⟩ <;> omega)
      rw [eb] at hk hbb
      refine l135b hg hr hp (a := a) (b := pr G r 0 a) hbb (by rw [eb] at h9; omega) hk (200 - (pr G r 0 a + 1)).toNat _ _ (by omega) (by omega) ?_
      first
      | exact Or.inl ⟨rfl, by rw [ep] at *; omega, by rw [eb] at h9; omega, fun x y1 y2 => absurd y2 (by omega)⟩
      | exact Or.inr ⟨rfl, fun y => by have := y.1; rw [ep] at *; omega⟩
    ·
      refine seg 7 (show iR ((pr G r 0 a) + 1) ∧ Wp 135 104 [some (vR 47), some (vI r), some (vI k), some (vI (hP G r 0)), some (vI a), some (vI (pr G r 0 a)), some (vI (((pr G r 0 a) + k) - a)), some (vI 1), some (vI ((pr G r 0 a) + 1))] [] μ R from ⟨by first | omega | (rcases hB with ⟨q1, q2⟩ | ⟨q1, q2⟩ <;> omega), ?_⟩)
      have eb : b = pr G r 0 a := by first | omega | (rcases hB with ⟨q1, q2⟩ | ⟨q1, q2⟩ <;> omega)
      rw [eb] at hk hbb
      refine l135b hg hr hp (a := a) (b := pr G r 0 a) hbb (by rw [eb] at h9; omega) hk (200 - (pr G r 0 a + 1)).toNat _ _ (by omega) (by omega) ?_
      first
      | exact Or.inl ⟨rfl, by rw [ep] at *; omega, by rw [eb] at h9; omega, fun x y1 y2 => absurd y2 (by omega)⟩
      | exact Or.inr ⟨rfl, fun y => by have := y.1; rw [ep] at *; omega⟩
  ·
    refine seg 15 (show iR ((-1) + k) ∧ iR (((-1) + k) - a) ∧ (0 ≤ (hP G r 0) ∧ (hP G r 0) < 8) ∧ (μ 48 (hP G r 0) ≤ ((-1) + k) - a → Wp 135 95 [some (vR 47), some (vI r), some (vI k), some (vI (hP G r 0)), some (vI a), some (vI (-1)), some (vI (((-1) + k) - a)), none, none] [] μ R) ∧ (¬ (μ 48 (hP G r 0) ≤ ((-1) + k) - a) → Wp 135 91 [some (vR 47), some (vI r), some (vI k), some (vI (hP G r 0)), some (vI a), some (vI (-1)), some (vI (((-1) + k) - a)), none, none] [] μ R) from ⟨by first | omega | (rcases hB with ⟨q1, q2⟩ | ⟨q1, q2⟩ <;> omega), by first | omega | (rcases hB with ⟨q1, q2⟩ | ⟨q1, q2⟩ <;> omega), by first | omega | (rcases hB with ⟨q1, q2⟩ | ⟨q1, q2⟩ <;> omega), fun c3 => ?_, fun c3 => ?_⟩)
    ·
      refine seg 6 (show iR ((-1) + 1) ∧ Wp 135 104 [some (vR 47), some (vI r), some (vI k), some (vI (hP G r 0)), some (vI a), some (vI (-1)), some (vI (((-1) + k) - a)), some (vI 0), some (vI ((-1) + 1))] [] μ R from ⟨by first | omega | (rcases hB with ⟨q1, q2⟩ | ⟨q1, q2⟩ <;> omega), ?_⟩)
      have eb : b = -1 := by first | omega | (rcases hB with ⟨q1, q2⟩ | ⟨q1, q2⟩ <;> omega)
      rw [eb] at hk hbb
      refine l135b hg hr hp (a := a) (b := -1) hbb (by rw [eb] at h9; omega) hk (200 - (-1 + 1)).toNat _ _ (by omega) (by omega) ?_
      first
      | exact Or.inl ⟨rfl, by rw [ep] at *; omega, by rw [eb] at h9; omega, fun x y1 y2 => absurd y2 (by omega)⟩
      | exact Or.inr ⟨rfl, fun y => by have := y.1; rw [ep] at *; omega⟩
    ·
      refine seg 7 (show iR ((-1) + 1) ∧ Wp 135 104 [some (vR 47), some (vI r), some (vI k), some (vI (hP G r 0)), some (vI a), some (vI (-1)), some (vI (((-1) + k) - a)), some (vI 1), some (vI ((-1) + 1))] [] μ R from ⟨by first | omega | (rcases hB with ⟨q1, q2⟩ | ⟨q1, q2⟩ <;> omega), ?_⟩)
      have eb : b = -1 := by first | omega | (rcases hB with ⟨q1, q2⟩ | ⟨q1, q2⟩ <;> omega)
      rw [eb] at hk hbb
      refine l135b hg hr hp (a := a) (b := -1) hbb (by rw [eb] at h9; omega) hk (200 - (-1 + 1)).toNat _ _ (by omega) (by omega) ?_
      first
      | exact Or.inl ⟨rfl, by rw [ep] at *; omega, by rw [eb] at h9; omega, fun x y1 y2 => absurd y2 (by omega)⟩
      | exact Or.inr ⟨rfl, fun y => by have := y.1; rw [ep] at *; omega⟩
theorem l135a {G : Hi} {R : Po} {μ : Mu} {r : Int} (hg : MG G μ) (hr : 0 ≤ r ∧ r < hN G) (hp : 0 ≤ hP G r 0 ∧ hP G r 0 < hN G) {k : Int} (hk8 : 0 ≤ k ∧ k < hS G r) (hk : R (some (vI (gp G r k.toNat))) μ) : ∀ (n : Nat) (a : Int), a + 1 = n → a < k → ahd G r k.toNat = ahd G r (a + 1).toNat → Wp 135 30 [some (vR 47), some (vI r), some (vI k), some (vI (hP G r 0)), some (vI a), none, none, none, none] [] μ R := by
  have hm := hg.1
  have hq := hg.2 r hr.1 hr.2
  have h8 := hm.1.n
  have hsp := hm.1.s hp
  have hsr := hm.1.s hr
  have ep := (hm.2.2 _ hp.1 hp.2).1
  have er := (hm.2.2 r hr.1 hr.2).1
  have ew := (hm.2.2 r hr.1 hr.2).2.1
  intro n
  induction n with
  | zero =>
    intro a hn h0 hA
    have g0 := pr_rg G r 0 a
    refine seg 2 (show (a < 0 → Wp 135 52 [some (vR 47), some (vI r), some (vI k), some (vI (hP G r 0)), some (vI a), none, none, none, none] [] μ R) ∧ (¬ (a < 0) → Wp 135 35 [some (vR 47), some (vI r), some (vI k), some (vI (hP G r 0)), some (vI a), none, none, none, none] [] μ R) from ⟨fun c1 => ?_, fun c1 => ?_⟩)
    ·
      first
      | (exfalso; omega)
      | (rw [ahd_hit (a := a) (by omega) (by omega)] at hA; exact l135c hg hr hp hk8 hA (Or.inr ⟨by omega, rfl⟩) (by omega) hk)
      | (obtain rfl : a = -1 := (by omega); exact l135c hg hr hp hk8 (a := -1) (b := -1) hA (Or.inl ⟨rfl, rfl⟩) (by decide) hk)
    ·
      refine seg 5 (show Wp 132 0 [some (vR 47), some (vI r), some (vI a), some (vI 0)] [] μ (fun rr μ' => Wp 135 43 [some (vR 47), some (vI r), some (vI k), some (vI (hP G r 0)), some (vI a), none, none, none, none] (rr.toList ++ []) μ' R) from ?_)
      refine n132 hq (by omega) (by omega) ?_
      refine seg 1 (show (0 ≤ pr G r 0 a → Wp 135 52 [some (vR 47), some (vI r), some (vI k), some (vI (hP G r 0)), some (vI a), none, none, none, none] [] μ R) ∧ (¬ (0 ≤ pr G r 0 a) → Wp 135 46 [some (vR 47), some (vI r), some (vI k), some (vI (hP G r 0)), some (vI a), none, none, none, none] [] μ R) from ⟨fun c2 => ?_, fun c2 => ?_⟩)
      ·
        first
        | (exfalso; omega)
        | (rw [ahd_hit (a := a) (by omega) (by omega)] at hA; exact l135c hg hr hp hk8 hA (Or.inr ⟨by omega, rfl⟩) (by omega) hk)
        | (obtain rfl : a = -1 := (by omega); exact l135c hg hr hp hk8 (a := -1) (b := -1) hA (Or.inl ⟨rfl, rfl⟩) (by decide) hk)
      ·
        refine seg 2 (show iR (a + (-1)) ∧ Wp 135 30 [some (vR 47), some (vI r), some (vI k), some (vI (hP G r 0)), some (vI (a + (-1))), none, none, none, none] [] μ R from ⟨by omega, ?_⟩)
        exfalso; omega
  | succ n ih =>
    intro a hn h0 hA
    have g0 := pr_rg G r 0 a
    refine seg 2 (show (a < 0 → Wp 135 52 [some (vR 47), some (vI r), some (vI k), some (vI (hP G r 0)), some (vI a), none, none, none, none] [] μ R) ∧ (¬ (a < 0) → Wp 135 35 [some (vR 47), some (vI r), some (vI k), some (vI (hP G r 0)), some (vI a), none, none, none, none] [] μ R) from ⟨fun c3 => ?_, fun c3 => ?_⟩)
    ·
      first
      | (exfalso; omega)
      | (rw [ahd_hit (a := a) (by omega) (by omega)] at hA; exact l135c hg hr hp hk8 hA (Or.inr ⟨by omega, rfl⟩) (by omega) hk)
      | (obtain rfl : a = -1 := (by omega); exact l135c hg hr hp hk8 (a := -1) (b := -1) hA (Or.inl ⟨rfl, rfl⟩) (by decide) hk)
    ·
      refine seg 5 (show Wp 132 0 [some (vR 47), some (vI r), some (vI a), some (vI 0)] [] μ (fun rr μ' => Wp 135 43 [some (vR 47), some (vI r), some (vI k), some (vI (hP G r 0)), some (vI a), none, none, none, none] (rr.toList ++ []) μ' R) from ?_)
      refine n132 hq (by omega) (by omega) ?_
      refine seg 1 (show (0 ≤ pr G r 0 a → Wp 135 52 [some (vR 47), some (vI r), some (vI k), some (vI (hP G r 0)), some (vI a), none, none, none, none] [] μ R) ∧ (¬ (0 ≤ pr G r 0 a) → Wp 135 46 [some (vR 47), some (vI r), some (vI k), some (vI (hP G r 0)), some (vI a), none, none, none, none] [] μ R) from ⟨fun c4 => ?_, fun c4 => ?_⟩)
      ·
        first
        | (exfalso; omega)
        | (rw [ahd_hit (a := a) (by omega) (by omega)] at hA; exact l135c hg hr hp hk8 hA (Or.inr ⟨by omega, rfl⟩) (by omega) hk)
        | (obtain rfl : a = -1 := (by omega); exact l135c hg hr hp hk8 (a := -1) (b := -1) hA (Or.inl ⟨rfl, rfl⟩) (by decide) hk)
      ·
        refine seg 2 (show iR (a + (-1)) ∧ Wp 135 30 [some (vR 47), some (vI r), some (vI k), some (vI (hP G r 0)), some (vI (a + (-1))), none, none, none, none] [] μ R from ⟨by omega, ?_⟩)
        rw [ahd_step (a := a) (by omega) (by omega)] at hA
        exact ih (a + -1) (by omega) (by omega) (by rw [show a + -1 + 1 = a by omega]; exact hA)
theorem n135 {G : Hi} {R : Po} {μ : Mu} {r : Int} (hg : MG G μ) (hr : 0 ≤ r ∧ r < hN G) (hp : 0 ≤ hP G r 0 ∧ hP G r 0 < hN G) {s : Se} {k : Int} (hs : SeC s (μ 53)) (hok : SeOK s) (hk8 : 0 ≤ k ∧ k < hS G r) (hk : R (some (vI (if tb s.2.1 r then gp G r k.toNat else -9))) μ) : Wp 135 0 [some (vR 47), some (vI r), some (vI k), none, none, none, none, none, none] [] μ R := by
  have hm := hg.1
  have hq := hg.2 r hr.1 hr.2
  have h8 := hm.1.n
  have hsp := hm.1.s hp
  have hsr := hm.1.s hr
  have ep := (hm.2.2 _ hp.1 hp.2).1
  have er := (hm.2.2 r hr.1 hr.2).1
  have ew := (hm.2.2 r hr.1 hr.2).2.1
  refine seg 7 (show iR (2 * r) ∧ (0 ≤ (2 * r) ∧ (2 * r) < 16) ∧ Wp 135 9 [some (vR 47), some (vI r), some (vI k), some (vI (μ 49 (2 * r))), none, none, none, none, none] [] μ R from ⟨by omega, by omega, ?_⟩)
  rw [ew]
  refine seg 6 (show (0 ≤ 1 ∧ 1 < 3) ∧ Wp 119 0 [some (vI (μ 53 1)), some (vI r)] [] μ (fun rr μ' => Wp 135 19 [some (vR 47), some (vI r), some (vI k), some (vI (hP G r 0)), none, none, none, none, none] (rr.toList ++ []) μ' R) from ⟨by omega, ?_⟩)
  refine m119 (by rw [hs.2.1]; exact hok.2.1.1) (by omega) (fun b1 => ?_) (fun b1 => ?_)
  ·
    refine seg 1 (show (¬ (1 = 0) → Wp 135 25 [some (vR 47), some (vI r), some (vI k), some (vI (hP G r 0)), none, none, none, none, none] [] μ R) ∧ (1 = 0 → Wp 135 22 [some (vR 47), some (vI r), some (vI k), some (vI (hP G r 0)), none, none, none, none, none] [] μ R) from ⟨fun _ => ?_, fun z => absurd z (by decide)⟩)
    refine seg 4 (show iR (k - 1) ∧ Wp 135 30 [some (vR 47), some (vI r), some (vI k), some (vI (hP G r 0)), some (vI (k - 1)), none, none, none, none] [] μ R from ⟨by omega, ?_⟩)
    rw [if_pos (by rw [← hs.2.1]; assumption)] at hk
    exact l135a hg hr hp hk8 hk k.toNat (k - 1) (by omega) (by omega) (by rw [show k - 1 + 1 = k by omega])
  ·
    refine seg 1 (show (¬ (0 = 0) → Wp 135 25 [some (vR 47), some (vI r), some (vI k), some (vI (hP G r 0)), none, none, none, none, none] [] μ R) ∧ (0 = 0 → Wp 135 22 [some (vR 47), some (vI r), some (vI k), some (vI (hP G r 0)), none, none, none, none, none] [] μ R) from ⟨fun z => absurd z (by decide), fun _ => ?_⟩)
    refine seg 2 (show R (some (vI (-9))) μ from ?_)
    rw [if_neg (by rw [← hs.2.1]; assumption)] at hk; exact hk
