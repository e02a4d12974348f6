/-! the model's reader -/
def FT (μ2 μ : Mu) : Prop := (∀ q, q ≠ 47 → μ2 q = μ q) ∧ (∀ i, (i < 11 ∨ 14 < i) → μ2 47 i = μ 47 i)
theorem FT.u {μ2 μ : Mu} {a v : Int} (h : FT μ2 μ) (ha : 11 ≤ a ∧ a ≤ 14) : FT (u2 μ2 47 a v) μ := ⟨fun q hq => by rw [u2_ne hq]; exact h.1 q hq, fun i hi => by rw [u2_at, up1_n (by omega)]; exact h.2 i hi⟩
theorem FT.r {μ : Mu} : FT μ μ := ⟨fun _ _ => rfl, fun _ _ => rfl⟩
theorem FT.t {T : Tx} {μ2 μ : Mu} (h : FT μ2 μ) (ht : RMT T μ) : RMT T μ2 := ht.fr (h.2 10 (by decide)) (h.1 55 (by decide))
/-- a token that begins at j: the place behind it, its sign, its number -/
def TKv (T : Tx) (j p t m : Int) : Prop := (0 ≤ j ∧ j ≤ T.1) ∧ (0 ≤ p ∧ p ≤ T.1) ∧ ((j = T.1 ∧ t = -1) ∨ (j < T.1 ∧ T.2 j ≠ 32 ∧ (((T.2 j = 82 ∨ T.2 j = 58 ∨ T.2 j = 59) ∧ t = T.2 j ∧ p = j + 1) ∨ ((97 ≤ T.2 j ∧ T.2 j ≤ 122) ∧ t = 97 ∧ m = T.2 j ∧ p = j + 1) ∨ ((48 ≤ T.2 j ∧ T.2 j ≤ 57) ∧ t = 48 ∧ ((¬ dg T (j + 1) ∧ m = T.2 j - 48 ∧ p = j + 1) ∨ (dg T (j + 1) ∧ 10 ≤ m))) ∨ (T.2 j ≠ 82 ∧ T.2 j ≠ 58 ∧ T.2 j ≠ 59 ∧ ¬ (97 ≤ T.2 j ∧ T.2 j ≤ 122) ∧ ¬ (48 ≤ T.2 j ∧ T.2 j ≤ 57) ∧ t = -2))))
def TK (T : Tx) (j : Int) (μ : Mu) : Prop := μ 47 12 = j ∧ TKv T j (μ 47 11) (μ 47 13) (μ 47 14)
theorem l124b {T : Tx} {R : Po} {μ0 : Mu} {j c : Int} (ht0 : RMT T μ0) (hj : 0 ≤ j ∧ j < T.1) (hc : c = T.2 j ∧ 48 ≤ c ∧ c ≤ 57) (hk : ∀ μ2 : Mu, TK T j μ2 → FT μ2 μ0 → R none μ2) : ∀ (n : Nat) (p m : Int) (μ : Mu), T.1 - p = n → FT μ μ0 → μ 47 11 = p → μ 47 14 = m → μ 47 12 = j → μ 47 13 = 48 → ((p = j + 1 ∧ m = c - 48) ∨ (j + 1 < p ∧ dg T (j + 1) ∧ 10 ≤ m ∧ m ≤ 1000)) → Wp 124 180 [some (vR 47), some (vI c)] [] μ R := by
  intro n
  induction n with
  | zero =>
    intro p m μ hn hF h11 h14 h12 h13 hp
    have ht : RMT T μ := hF.t ht0
    have e10 := ht.1
    have eb := ht.2.1
    refine seg 5 (show (μ 47 10 ≤ μ 47 11 → Wp 124 271 [some (vR 47), some (vI c)] [] μ R) ∧ (¬ (μ 47 10 ≤ μ 47 11) → Wp 124 191 [some (vR 47), some (vI c)] [] μ R) from ⟨fun c1 => ?_, fun c1 => ?_⟩)
    ·
      refine seg 1 (show R none μ from ?_)
      first
      | (exfalso; omega)
      | (refine hk μ ⟨h12, ?_⟩ hF
         unfold TKv
         rw [h11, h13, h14]
         have ep : p = T.1 ∨ (p < T.1 ∧ ¬ (48 ≤ T.2 p ∧ T.2 p ≤ 57)) := by
           rw [h11] at *
           omega
         rcases hp with ⟨e1, e2⟩ | e
         · subst e1; omega
         · omega)
    ·
      refine seg 9 (show (0 ≤ (μ 47 11) ∧ (μ 47 11) < 120) ∧ Wp 118 0 [some (vL (μ 55 (μ 47 11))), none, some (vL 48), none, some (vL 57), none] [] μ (fun rr μ' => Wp 124 210 [some (vR 47), some (vI c)] (rr.toList ++ []) μ' R) from ⟨by omega, ?_⟩)
      refine m118 (fun b2 => ?_) (fun b2 => ?_)
      ·
        refine seg 1 (show (1 = 0 → Wp 124 271 [some (vR 47), some (vI c)] [] μ R) ∧ (¬ (1 = 0) → Wp 124 213 [some (vR 47), some (vI c)] [] μ R) from ⟨fun z => absurd z (by decide), fun _ => ?_⟩)
        refine seg 4 (show (c = 48 → Wp 124 229 [some (vR 47), some (vI c)] [vR 47] μ R) ∧ (¬ (c = 48) → Wp 124 220 [some (vR 47), some (vI c)] [vR 47] μ R) from ⟨fun c3 => ?_, fun c3 => ?_⟩)
        ·
          refine seg 10 (show iR ((μ 47 11) + 1) ∧ Wp 124 180 [some (vR 47), some (vI c)] [] (u2 (u2 μ 47 14 1000) 47 11 ((μ 47 11) + 1)) R from ⟨by omega, ?_⟩)
          exfalso; omega
        ·
          refine seg 4 (show (μ 47 14 ≤ 99 → Wp 124 235 [some (vR 47), some (vI c)] [vR 47] μ R) ∧ (¬ (μ 47 14 ≤ 99) → Wp 124 229 [some (vR 47), some (vI c)] [vR 47] μ R) from ⟨fun c4 => ?_, fun c4 => ?_⟩)
          ·
            refine seg 20 (show iR (10 * (μ 47 14)) ∧ (0 ≤ (μ 47 11) ∧ (μ 47 11) < 120) ∧ iR ((10 * (μ 47 14)) + (μ 55 (μ 47 11))) ∧ iR (((10 * (μ 47 14)) + (μ 55 (μ 47 11))) - 48) ∧ iR ((μ 47 11) + 1) ∧ Wp 124 180 [some (vR 47), some (vI c)] [] (u2 (u2 μ 47 14 (((10 * (μ 47 14)) + (μ 55 (μ 47 11))) - 48)) 47 11 ((μ 47 11) + 1)) R from ⟨by omega, by omega, by omega, by omega, by omega, ?_⟩)
            exfalso; omega
          ·
            refine seg 10 (show iR ((μ 47 11) + 1) ∧ Wp 124 180 [some (vR 47), some (vI c)] [] (u2 (u2 μ 47 14 1000) 47 11 ((μ 47 11) + 1)) R from ⟨by omega, ?_⟩)
            exfalso; omega
      ·
        refine seg 1 (show (0 = 0 → Wp 124 271 [some (vR 47), some (vI c)] [] μ R) ∧ (¬ (0 = 0) → Wp 124 213 [some (vR 47), some (vI c)] [] μ R) from ⟨fun _ => ?_, fun z => absurd z (by decide)⟩)
        refine seg 1 (show R none μ from ?_)
        first
        | (exfalso; omega)
        | (refine hk μ ⟨h12, ?_⟩ hF
           unfold TKv
           rw [h11, h13, h14]
           have ep : p = T.1 ∨ (p < T.1 ∧ ¬ (48 ≤ T.2 p ∧ T.2 p ≤ 57)) := by
             rw [h11] at *
             omega
           rcases hp with ⟨e1, e2⟩ | e
           · subst e1; omega
           · omega)
  | succ n ih =>
    intro p m μ hn hF h11 h14 h12 h13 hp
    have ht : RMT T μ := hF.t ht0
    have e10 := ht.1
    have eb := ht.2.1
    obtain ⟨z0, z1, z2⟩ := ht.2.2 (μ 47 11) (by omega) (by omega)
    rw [h11] at z1 z2
    rw [h11] at z0
    refine seg 5 (show (μ 47 10 ≤ μ 47 11 → Wp 124 271 [some (vR 47), some (vI c)] [] μ R) ∧ (¬ (μ 47 10 ≤ μ 47 11) → Wp 124 191 [some (vR 47), some (vI c)] [] μ R) from ⟨fun c5 => ?_, fun c5 => ?_⟩)
    ·
      refine seg 1 (show R none μ from ?_)
      first
      | (exfalso; omega)
      | (refine hk μ ⟨h12, ?_⟩ hF
         unfold TKv
         rw [h11, h13, h14]
         have ep : p = T.1 ∨ (p < T.1 ∧ ¬ (48 ≤ T.2 p ∧ T.2 p ≤ 57)) := by
           rw [h11] at *
           omega
         rcases hp with ⟨e1, e2⟩ | e
         · subst e1; omega
         · omega)
    ·
      refine seg 9 (show (0 ≤ (μ 47 11) ∧ (μ 47 11) < 120) ∧ Wp 118 0 [some (vL (μ 55 (μ 47 11))), none, some (vL 48), none, some (vL 57), none] [] μ (fun rr μ' => Wp 124 210 [some (vR 47), some (vI c)] (rr.toList ++ []) μ' R) from ⟨by omega, ?_⟩)
      refine m118 (fun b6 => ?_) (fun b6 => ?_)
      ·
        refine seg 1 (show (1 = 0 → Wp 124 271 [some (vR 47), some (vI c)] [] μ R) ∧ (¬ (1 = 0) → Wp 124 213 [some (vR 47), some (vI c)] [] μ R) from ⟨fun z => absurd z (by decide), fun _ => ?_⟩)
        refine seg 4 (show (c = 48 → Wp 124 229 [some (vR 47), some (vI c)] [vR 47] μ R) ∧ (¬ (c = 48) → Wp 124 220 [some (vR 47), some (vI c)] [vR 47] μ R) from ⟨fun c7 => ?_, fun c7 => ?_⟩)
        ·
          refine seg 10 (show iR ((μ 47 11) + 1) ∧ Wp 124 180 [some (vR 47), some (vI c)] [] (u2 (u2 μ 47 14 1000) 47 11 ((μ 47 11) + 1)) R from ⟨by omega, ?_⟩)
          refine ih (p + 1) (1000) _ (by omega) (by repeat (first | exact hF | refine FT.u ?_ (by decide))) ?_ ?_ ?_ ?_ ?_
          · show μ 47 11 + 1 = p + 1; omega
          · rfl
          · exact h12
          · exact h13
          · right
            rw [h11] at *
            refine ⟨by omega, ?_, by omega, by omega⟩
            rcases hp with ⟨e1, e2⟩ | e
            · subst e1; omega
            · exact e.2.1
        ·
          refine seg 4 (show (μ 47 14 ≤ 99 → Wp 124 235 [some (vR 47), some (vI c)] [vR 47] μ R) ∧ (¬ (μ 47 14 ≤ 99) → Wp 124 229 [some (vR 47), some (vI c)] [vR 47] μ R) from ⟨fun c8 => ?_, fun c8 => ?_⟩)
          ·
            refine seg 20 (show iR (10 * (μ 47 14)) ∧ (0 ≤ (μ 47 11) ∧ (μ 47 11) < 120) ∧ iR ((10 * (μ 47 14)) + (μ 55 (μ 47 11))) ∧ iR (((10 * (μ 47 14)) + (μ 55 (μ 47 11))) - 48) ∧ iR ((μ 47 11) + 1) ∧ Wp 124 180 [some (vR 47), some (vI c)] [] (u2 (u2 μ 47 14 (((10 * (μ 47 14)) + (μ 55 (μ 47 11))) - 48)) 47 11 ((μ 47 11) + 1)) R from ⟨by omega, by omega, by omega, by omega, by omega, ?_⟩)
            refine ih (p + 1) (((10 * (μ 47 14)) + (μ 55 (μ 47 11))) - 48) _ (by omega) (by repeat (first | exact hF | refine FT.u ?_ (by decide))) ?_ ?_ ?_ ?_ ?_
            · show μ 47 11 + 1 = p + 1; omega
            · rfl
            · exact h12
            · exact h13
            · right
              rw [h11] at *
              refine ⟨by omega, ?_, by omega, by omega⟩
              rcases hp with ⟨e1, e2⟩ | e
              · subst e1; omega
              · exact e.2.1
          ·
            refine seg 10 (show iR ((μ 47 11) + 1) ∧ Wp 124 180 [some (vR 47), some (vI c)] [] (u2 (u2 μ 47 14 1000) 47 11 ((μ 47 11) + 1)) R from ⟨by omega, ?_⟩)
            refine ih (p + 1) (1000) _ (by omega) (by repeat (first | exact hF | refine FT.u ?_ (by decide))) ?_ ?_ ?_ ?_ ?_
            · show μ 47 11 + 1 = p + 1; omega
            · rfl
            · exact h12
            · exact h13
            · right
              rw [h11] at *
              refine ⟨by omega, ?_, by omega, by omega⟩
              rcases hp with ⟨e1, e2⟩ | e
              · subst e1; omega
              · exact e.2.1
      ·
        refine seg 1 (show (0 = 0 → Wp 124 271 [some (vR 47), some (vI c)] [] μ R) ∧ (¬ (0 = 0) → Wp 124 213 [some (vR 47), some (vI c)] [] μ R) from ⟨fun _ => ?_, fun z => absurd z (by decide)⟩)
        refine seg 1 (show R none μ from ?_)
        first
        | (exfalso; omega)
        | (refine hk μ ⟨h12, ?_⟩ hF
           unfold TKv
           rw [h11, h13, h14]
           have ep : p = T.1 ∨ (p < T.1 ∧ ¬ (48 ≤ T.2 p ∧ T.2 p ≤ 57)) := by
             rw [h11] at *
             omega
           rcases hp with ⟨e1, e2⟩ | e
           · subst e1; omega
           · omega)
theorem l124c {T : Tx} {R : Po} {μ : Mu} {j c : Int} (ht : RMT T μ) (h12 : μ 47 12 = j) (h11 : μ 47 11 = j) (hj : 0 ≤ j ∧ j ≤ T.1) (hc : (c = -1 ∧ j = T.1) ∨ (c = T.2 j ∧ 0 ≤ c ∧ j < T.1 ∧ c ≠ 32)) (hk : ∀ μ2 : Mu, TK T j μ2 → FT μ2 μ → R none μ2) : Wp 124 71 [some (vR 47), some (vI c)] [] μ R := by
  have hF : FT μ μ := FT.r
  have eb := ht.2.1
  rcases hc with ⟨rfl, hc⟩ | hc
  ·
    refine seg 5 (show (0 ≤ -1 → Wp 124 84 [some (vR 47), some (vI (-1))] [vI (μ 47 11), vR 47] μ R) ∧ (¬ (0 ≤ -1) → Wp 124 80 [some (vR 47), some (vI (-1))] [vI (μ 47 11), vR 47] μ R) from ⟨fun z => absurd z (by decide), fun _ => ?_⟩)
    refine seg 8 (show iR ((μ 47 11) + 0) ∧ (-1 = 82 → Wp 124 112 [some (vR 47), some (vI (-1))] [vR 47] (u2 μ 47 11 ((μ 47 11) + 0)) R) ∧ (¬ (-1 = 82) → Wp 124 96 [some (vR 47), some (vI (-1))] [vR 47] (u2 μ 47 11 ((μ 47 11) + 0)) R) from ⟨by omega, fun z => absurd z (by decide), fun _ => ?_⟩)
    refine seg 3 (show (-1 = 58 → Wp 124 112 [some (vR 47), some (vI (-1))] [vR 47] (u2 μ 47 11 ((μ 47 11) + 0)) R) ∧ (¬ (-1 = 58) → Wp 124 102 [some (vR 47), some (vI (-1))] [vR 47] (u2 μ 47 11 ((μ 47 11) + 0)) R) from ⟨fun z => absurd z (by decide), fun _ => ?_⟩)
    refine seg 3 (show (-1 = 59 → Wp 124 112 [some (vR 47), some (vI (-1))] [vR 47] (u2 μ 47 11 ((μ 47 11) + 0)) R) ∧ (¬ (-1 = 59) → Wp 124 108 [some (vR 47), some (vI (-1))] [vR 47] (u2 μ 47 11 ((μ 47 11) + 0)) R) from ⟨fun z => absurd z (by decide), fun _ => ?_⟩)
    refine seg 2 (show (0 ≤ -1 → Wp 124 116 [some (vR 47), some (vI (-1))] [vR 47] (u2 μ 47 11 ((μ 47 11) + 0)) R) ∧ (¬ (0 ≤ -1) → Wp 124 112 [some (vR 47), some (vI (-1))] [vR 47] (u2 μ 47 11 ((μ 47 11) + 0)) R) from ⟨fun z => absurd z (by decide), fun _ => ?_⟩)
    refine seg 11 (show Wp 118 0 [some (vL (-1)), none, some (vL 97), none, some (vL 122), none] [] (u2 (u2 (u2 μ 47 11 ((μ 47 11) + 0)) 47 13 (-1)) 47 14 (-9)) (fun rr μ' => Wp 124 138 [some (vR 47), some (vI (-1))] (rr.toList ++ []) μ' R) from ?_)
    refine m118 (fun b1 => ?_) (fun b1 => ?_)
    ·
      refine seg 1 (show (1 = 0 → Wp 124 152 [some (vR 47), some (vI (-1))] [] (u2 (u2 (u2 μ 47 11 ((μ 47 11) + 0)) 47 13 (-1)) 47 14 (-9)) R) ∧ (¬ (1 = 0) → Wp 124 141 [some (vR 47), some (vI (-1))] [] (u2 (u2 (u2 μ 47 11 ((μ 47 11) + 0)) 47 13 (-1)) 47 14 (-9)) R) from ⟨fun z => absurd z (by decide), fun _ => ?_⟩)
      refine seg 11 (show Wp 118 0 [some (vL (-1)), none, some (vL 48), none, some (vL 57), none] [] (u2 (u2 (u2 (u2 (u2 μ 47 11 ((μ 47 11) + 0)) 47 13 (-1)) 47 14 (-9)) 47 13 97) 47 14 (-1)) (fun rr μ' => Wp 124 163 [some (vR 47), some (vI (-1))] (rr.toList ++ []) μ' R) from ?_)
      refine m118 (fun b2 => ?_) (fun b2 => ?_)
      ·
        refine seg 1 (show (1 = 0 → Wp 124 271 [some (vR 47), some (vI (-1))] [] (u2 (u2 (u2 (u2 (u2 μ 47 11 ((μ 47 11) + 0)) 47 13 (-1)) 47 14 (-9)) 47 13 97) 47 14 (-1)) R) ∧ (¬ (1 = 0) → Wp 124 166 [some (vR 47), some (vI (-1))] [] (u2 (u2 (u2 (u2 (u2 μ 47 11 ((μ 47 11) + 0)) 47 13 (-1)) 47 14 (-9)) 47 13 97) 47 14 (-1)) R) from ⟨fun z => absurd z (by decide), fun _ => ?_⟩)
        refine seg 8 (show iR ((-1) - 48) ∧ Wp 124 180 [some (vR 47), some (vI (-1))] [] (u2 (u2 (u2 (u2 (u2 (u2 (u2 μ 47 11 ((μ 47 11) + 0)) 47 13 (-1)) 47 14 (-9)) 47 13 97) 47 14 (-1)) 47 13 48) 47 14 (-49)) R from ⟨by omega, ?_⟩)
        first
        | (exfalso; omega)
        | exact l124b ht (by omega) (by omega) hk (T.1 - (j + 1)).toNat (j + 1) (c - 48) _ (by omega) (by repeat (first | exact hF | refine FT.u ?_ (by decide))) (show (μ 47 11) + 0 = j + 1 by omega) rfl h12 rfl (Or.inl ⟨rfl, rfl⟩)
      ·
        refine seg 1 (show (0 = 0 → Wp 124 271 [some (vR 47), some (vI (-1))] [] (u2 (u2 (u2 (u2 (u2 μ 47 11 ((μ 47 11) + 0)) 47 13 (-1)) 47 14 (-9)) 47 13 97) 47 14 (-1)) R) ∧ (¬ (0 = 0) → Wp 124 166 [some (vR 47), some (vI (-1))] [] (u2 (u2 (u2 (u2 (u2 μ 47 11 ((μ 47 11) + 0)) 47 13 (-1)) 47 14 (-9)) 47 13 97) 47 14 (-1)) R) from ⟨fun _ => ?_, fun z => absurd z (by decide)⟩)
        refine seg 1 (show R none (u2 (u2 (u2 (u2 (u2 μ 47 11 ((μ 47 11) + 0)) 47 13 (-1)) 47 14 (-9)) 47 13 97) 47 14 (-1)) from ?_)
        first
        | (exfalso; omega)
        | (refine hk _ ⟨h12, show TKv T j ((μ 47 11) + 0) (97) (-1) from ?_⟩ (by repeat (first | exact hF | refine FT.u ?_ (by decide)))
           unfold TKv
           omega)
    ·
      refine seg 1 (show (0 = 0 → Wp 124 152 [some (vR 47), some (vI (-1))] [] (u2 (u2 (u2 μ 47 11 ((μ 47 11) + 0)) 47 13 (-1)) 47 14 (-9)) R) ∧ (¬ (0 = 0) → Wp 124 141 [some (vR 47), some (vI (-1))] [] (u2 (u2 (u2 μ 47 11 ((μ 47 11) + 0)) 47 13 (-1)) 47 14 (-9)) R) from ⟨fun _ => ?_, fun z => absurd z (by decide)⟩)
      refine seg 5 (show Wp 118 0 [some (vL (-1)), none, some (vL 48), none, some (vL 57), none] [] (u2 (u2 (u2 μ 47 11 ((μ 47 11) + 0)) 47 13 (-1)) 47 14 (-9)) (fun rr μ' => Wp 124 163 [some (vR 47), some (vI (-1))] (rr.toList ++ []) μ' R) from ?_)
      refine m118 (fun b3 => ?_) (fun b3 => ?_)
      ·
        refine seg 1 (show (1 = 0 → Wp 124 271 [some (vR 47), some (vI (-1))] [] (u2 (u2 (u2 μ 47 11 ((μ 47 11) + 0)) 47 13 (-1)) 47 14 (-9)) R) ∧ (¬ (1 = 0) → Wp 124 166 [some (vR 47), some (vI (-1))] [] (u2 (u2 (u2 μ 47 11 ((μ 47 11) + 0)) 47 13 (-1)) 47 14 (-9)) R) from ⟨fun z => absurd z (by decide), fun _ => ?_⟩)
        refine seg 8 (show iR ((-1) - 48) ∧ Wp 124 180 [some (vR 47), some (vI (-1))] [] (u2 (u2 (u2 (u2 (u2 μ 47 11 ((μ 47 11) + 0)) 47 13 (-1)) 47 14 (-9)) 47 13 48) 47 14 (-49)) R from ⟨by omega, ?_⟩)
        first
        | (exfalso; omega)
        | exact l124b ht (by omega) (by omega) hk (T.1 - (j + 1)).toNat (j + 1) (c - 48) _ (by omega) (by repeat (first | exact hF | refine FT.u ?_ (by decide))) (show (μ 47 11) + 0 = j + 1 by omega) rfl h12 rfl (Or.inl ⟨rfl, rfl⟩)
      ·
        refine seg 1 (show (0 = 0 → Wp 124 271 [some (vR 47), some (vI (-1))] [] (u2 (u2 (u2 μ 47 11 ((μ 47 11) + 0)) 47 13 (-1)) 47 14 (-9)) R) ∧ (¬ (0 = 0) → Wp 124 166 [some (vR 47), some (vI (-1))] [] (u2 (u2 (u2 μ 47 11 ((μ 47 11) + 0)) 47 13 (-1)) 47 14 (-9)) R) from ⟨fun _ => ?_, fun z => absurd z (by decide)⟩)
        refine seg 1 (show R none (u2 (u2 (u2 μ 47 11 ((μ 47 11) + 0)) 47 13 (-1)) 47 14 (-9)) from ?_)
        first
        | (exfalso; omega)
        | (refine hk _ ⟨h12, show TKv T j ((μ 47 11) + 0) (-1) (-9) from ?_⟩ (by repeat (first | exact hF | refine FT.u ?_ (by decide)))
           unfold TKv
           omega)
  ·
    refine seg 5 (show (0 ≤ c → Wp 124 84 [some (vR 47), some (vI c)] [vI (μ 47 11), vR 47] μ R) ∧ (¬ (0 ≤ c) → Wp 124 80 [some (vR 47), some (vI c)] [vI (μ 47 11), vR 47] μ R) from ⟨fun c4 => ?_, fun c4 => ?_⟩)
    ·
      refine seg 7 (show iR ((μ 47 11) + 1) ∧ (c = 82 → Wp 124 112 [some (vR 47), some (vI c)] [vR 47] (u2 μ 47 11 ((μ 47 11) + 1)) R) ∧ (¬ (c = 82) → Wp 124 96 [some (vR 47), some (vI c)] [vR 47] (u2 μ 47 11 ((μ 47 11) + 1)) R) from ⟨by omega, fun c5 => ?_, fun c5 => ?_⟩)
      ·
        refine seg 11 (show Wp 118 0 [some (vL c), none, some (vL 97), none, some (vL 122), none] [] (u2 (u2 (u2 μ 47 11 ((μ 47 11) + 1)) 47 13 c) 47 14 (-9)) (fun rr μ' => Wp 124 138 [some (vR 47), some (vI c)] (rr.toList ++ []) μ' R) from ?_)
        refine m118 (fun b6 => ?_) (fun b6 => ?_)
        ·
          refine seg 1 (show (1 = 0 → Wp 124 152 [some (vR 47), some (vI c)] [] (u2 (u2 (u2 μ 47 11 ((μ 47 11) + 1)) 47 13 c) 47 14 (-9)) R) ∧ (¬ (1 = 0) → Wp 124 141 [some (vR 47), some (vI c)] [] (u2 (u2 (u2 μ 47 11 ((μ 47 11) + 1)) 47 13 c) 47 14 (-9)) R) from ⟨fun z => absurd z (by decide), fun _ => ?_⟩)
          refine seg 11 (show Wp 118 0 [some (vL c), none, some (vL 48), none, some (vL 57), none] [] (u2 (u2 (u2 (u2 (u2 μ 47 11 ((μ 47 11) + 1)) 47 13 c) 47 14 (-9)) 47 13 97) 47 14 c) (fun rr μ' => Wp 124 163 [some (vR 47), some (vI c)] (rr.toList ++ []) μ' R) from ?_)
          refine m118 (fun b7 => ?_) (fun b7 => ?_)
          ·
            refine seg 1 (show (1 = 0 → Wp 124 271 [some (vR 47), some (vI c)] [] (u2 (u2 (u2 (u2 (u2 μ 47 11 ((μ 47 11) + 1)) 47 13 c) 47 14 (-9)) 47 13 97) 47 14 c) R) ∧ (¬ (1 = 0) → Wp 124 166 [some (vR 47), some (vI c)] [] (u2 (u2 (u2 (u2 (u2 μ 47 11 ((μ 47 11) + 1)) 47 13 c) 47 14 (-9)) 47 13 97) 47 14 c) R) from ⟨fun z => absurd z (by decide), fun _ => ?_⟩)
            refine seg 8 (show iR (c - 48) ∧ Wp 124 180 [some (vR 47), some (vI c)] [] (u2 (u2 (u2 (u2 (u2 (u2 (u2 μ 47 11 ((μ 47 11) + 1)) 47 13 c) 47 14 (-9)) 47 13 97) 47 14 c) 47 13 48) 47 14 (c - 48)) R from ⟨by omega, ?_⟩)
            first
            | (exfalso; omega)
            | exact l124b ht (by omega) (by omega) hk (T.1 - (j + 1)).toNat (j + 1) (c - 48) _ (by omega) (by repeat (first | exact hF | refine FT.u ?_ (by decide))) (show (μ 47 11) + 1 = j + 1 by omega) rfl h12 rfl (Or.inl ⟨rfl, rfl⟩)
          ·
            refine seg 1 (show (0 = 0 → Wp 124 271 [some (vR 47), some (vI c)] [] (u2 (u2 (u2 (u2 (u2 μ 47 11 ((μ 47 11) + 1)) 47 13 c) 47 14 (-9)) 47 13 97) 47 14 c) R) ∧ (¬ (0 = 0) → Wp 124 166 [some (vR 47), some (vI c)] [] (u2 (u2 (u2 (u2 (u2 μ 47 11 ((μ 47 11) + 1)) 47 13 c) 47 14 (-9)) 47 13 97) 47 14 c) R) from ⟨fun _ => ?_, fun z => absurd z (by decide)⟩)
            refine seg 1 (show R none (u2 (u2 (u2 (u2 (u2 μ 47 11 ((μ 47 11) + 1)) 47 13 c) 47 14 (-9)) 47 13 97) 47 14 c) from ?_)
            first
            | (exfalso; omega)
            | (refine hk _ ⟨h12, show TKv T j ((μ 47 11) + 1) (97) (c) from ?_⟩ (by repeat (first | exact hF | refine FT.u ?_ (by decide)))
               unfold TKv
               omega)
        ·
          refine seg 1 (show (0 = 0 → Wp 124 152 [some (vR 47), some (vI c)] [] (u2 (u2 (u2 μ 47 11 ((μ 47 11) + 1)) 47 13 c) 47 14 (-9)) R) ∧ (¬ (0 = 0) → Wp 124 141 [some (vR 47), some (vI c)] [] (u2 (u2 (u2 μ 47 11 ((μ 47 11) + 1)) 47 13 c) 47 14 (-9)) R) from ⟨fun _ => ?_, fun z => absurd z (by decide)⟩)
          refine seg 5 (show Wp 118 0 [some (vL c), none, some (vL 48), none, some (vL 57), none] [] (u2 (u2 (u2 μ 47 11 ((μ 47 11) + 1)) 47 13 c) 47 14 (-9)) (fun rr μ' => Wp 124 163 [some (vR 47), some (vI c)] (rr.toList ++ []) μ' R) from ?_)
          refine m118 (fun b8 => ?_) (fun b8 => ?_)
          ·
            refine seg 1 (show (1 = 0 → Wp 124 271 [some (vR 47), some (vI c)] [] (u2 (u2 (u2 μ 47 11 ((μ 47 11) + 1)) 47 13 c) 47 14 (-9)) R) ∧ (¬ (1 = 0) → Wp 124 166 [some (vR 47), some (vI c)] [] (u2 (u2 (u2 μ 47 11 ((μ 47 11) + 1)) 47 13 c) 47 14 (-9)) R) from ⟨fun z => absurd z (by decide), fun _ => ?_⟩)
            refine seg 8 (show iR (c - 48) ∧ Wp 124 180 [some (vR 47), some (vI c)] [] (u2 (u2 (u2 (u2 (u2 μ 47 11 ((μ 47 11) + 1)) 47 13 c) 47 14 (-9)) 47 13 48) 47 14 (c - 48)) R from ⟨by omega, ?_⟩)
            first
            | (exfalso; omega)
            | exact l124b ht (by omega) (by omega) hk (T.1 - (j + 1)).toNat (j + 1) (c - 48) _ (by omega) (by repeat (first | exact hF | refine FT.u ?_ (by decide))) (show (μ 47 11) + 1 = j + 1 by omega) rfl h12 rfl (Or.inl ⟨rfl, rfl⟩)
          ·
            refine seg 1 (show (0 = 0 → Wp 124 271 [some (vR 47), some (vI c)] [] (u2 (u2 (u2 μ 47 11 ((μ 47 11) + 1)) 47 13 c) 47 14 (-9)) R) ∧ (¬ (0 = 0) → Wp 124 166 [some (vR 47), some (vI c)] [] (u2 (u2 (u2 μ 47 11 ((μ 47 11) + 1)) 47 13 c) 47 14 (-9)) R) from ⟨fun _ => ?_, fun z => absurd z (by decide)⟩)
            refine seg 1 (show R none (u2 (u2 (u2 μ 47 11 ((μ 47 11) + 1)) 47 13 c) 47 14 (-9)) from ?_)
            first
            | (exfalso; omega)
            | (refine hk _ ⟨h12, show TKv T j ((μ 47 11) + 1) (c) (-9) from ?_⟩ (by repeat (first | exact hF | refine FT.u ?_ (by decide)))
               unfold TKv
               omega)
      ·
        refine seg 3 (show (c = 58 → Wp 124 112 [some (vR 47), some (vI c)] [vR 47] (u2 μ 47 11 ((μ 47 11) + 1)) R) ∧ (¬ (c = 58) → Wp 124 102 [some (vR 47), some (vI c)] [vR 47] (u2 μ 47 11 ((μ 47 11) + 1)) R) from ⟨fun c9 => ?_, fun c9 => ?_⟩)
        ·
          refine seg 11 (show Wp 118 0 [some (vL c), none, some (vL 97), none, some (vL 122), none] [] (u2 (u2 (u2 μ 47 11 ((μ 47 11) + 1)) 47 13 c) 47 14 (-9)) (fun rr μ' => Wp 124 138 [some (vR 47), some (vI c)] (rr.toList ++ []) μ' R) from ?_)
          refine m118 (fun b10 => ?_) (fun b10 => ?_)
          ·
            refine seg 1 (show (1 = 0 → Wp 124 152 [some (vR 47), some (vI c)] [] (u2 (u2 (u2 μ 47 11 ((μ 47 11) + 1)) 47 13 c) 47 14 (-9)) R) ∧ (¬ (1 = 0) → Wp 124 141 [some (vR 47), some (vI c)] [] (u2 (u2 (u2 μ 47 11 ((μ 47 11) + 1)) 47 13 c) 47 14 (-9)) R) from ⟨fun z => absurd z (by decide), fun _ => ?_⟩)
            refine seg 11 (show Wp 118 0 [some (vL c), none, some (vL 48), none, some (vL 57), none] [] (u2 (u2 (u2 (u2 (u2 μ 47 11 ((μ 47 11) + 1)) 47 13 c) 47 14 (-9)) 47 13 97) 47 14 c) (fun rr μ' => Wp 124 163 [some (vR 47), some (vI c)] (rr.toList ++ []) μ' R) from ?_)
            refine m118 (fun b11 => ?_) (fun b11 => ?_)
            ·
              refine seg 1 (show (1 = 0 → Wp 124 271 [some (vR 47), some (vI c)] [] (u2 (u2 (u2 (u2 (u2 μ 47 11 ((μ 47 11) + 1)) 47 13 c) 47 14 (-9)) 47 13 97) 47 14 c) R) ∧ (¬ (1 = 0) → Wp 124 166 [some (vR 47), some (vI c)] [] (u2 (u2 (u2 (u2 (u2 μ 47 11 ((μ 47 11) + 1)) 47 13 c) 47 14 (-9)) 47 13 97) 47 14 c) R) from ⟨fun z => absurd z (by decide), fun _ => ?_⟩)
              refine seg 8 (show iR (c - 48) ∧ Wp 124 180 [some (vR 47), some (vI c)] [] (u2 (u2 (u2 (u2 (u2 (u2 (u2 μ 47 11 ((μ 47 11) + 1)) 47 13 c) 47 14 (-9)) 47 13 97) 47 14 c) 47 13 48) 47 14 (c - 48)) R from ⟨by omega, ?_⟩)
              first
              | (exfalso; omega)
              | exact l124b ht (by omega) (by omega) hk (T.1 - (j + 1)).toNat (j + 1) (c - 48) _ (by omega) (by repeat (first | exact hF | refine FT.u ?_ (by decide))) (show (μ 47 11) + 1 = j + 1 by omega) rfl h12 rfl (Or.inl ⟨rfl, rfl⟩)
            ·
              refine seg 1 (show (0 = 0 → Wp 124 271 [some (vR 47), some (vI c)] [] (u2 (u2 (u2 (u2 (u2 μ 47 11 ((μ 47 11) + 1)) 47 13 c) 47 14 (-9)) 47 13 97) 47 14 c) R) ∧ (¬ (0 = 0) → Wp 124 166 [some (vR 47), some (vI c)] [] (u2 (u2 (u2 (u2 (u2 μ 47 11 ((μ 47 11) + 1)) 47 13 c) 47 14 (-9)) 47 13 97) 47 14 c) R) from ⟨fun _ => ?_, fun z => absurd z (by decide)⟩)
              refine seg 1 (show R none (u2 (u2 (u2 (u2 (u2 μ 47 11 ((μ 47 11) + 1)) 47 13 c) 47 14 (-9)) 47 13 97) 47 14 c) from ?_)
              first
              | (exfalso; omega)
              | (refine hk _ ⟨h12, show TKv T j ((μ 47 11) + 1) (97) (c) from ?_⟩ (by repeat (first | exact hF | refine FT.u ?_ (by decide)))
                 unfold TKv
                 omega)
          ·
            refine seg 1 (show (0 = 0 → Wp 124 152 [some (vR 47), some (vI c)] [] (u2 (u2 (u2 μ 47 11 ((μ 47 11) + 1)) 47 13 c) 47 14 (-9)) R) ∧ (¬ (0 = 0) → Wp 124 141 [some (vR 47), some (vI c)] [] (u2 (u2 (u2 μ 47 11 ((μ 47 11) + 1)) 47 13 c) 47 14 (-9)) R) from ⟨fun _ => ?_, fun z => absurd z (by decide)⟩)
            refine seg 5 (show Wp 118 0 [some (vL c), none, some (vL 48), none, some (vL 57), none] [] (u2 (u2 (u2 μ 47 11 ((μ 47 11) + 1)) 47 13 c) 47 14 (-9)) (fun rr μ' => Wp 124 163 [some (vR 47), some (vI c)] (rr.toList ++ []) μ' R) from ?_)
            refine m118 (fun b12 => ?_) (fun b12 => ?_)
            ·
              refine seg 1 (show (1 = 0 → Wp 124 271 [some (vR 47), some (vI c)] [] (u2 (u2 (u2 μ 47 11 ((μ 47 11) + 1)) 47 13 c) 47 14 (-9)) R) ∧ (¬ (1 = 0) → Wp 124 166 [some (vR 47), some (vI c)] [] (u2 (u2 (u2 μ 47 11 ((μ 47 11) + 1)) 47 13 c) 47 14 (-9)) R) from ⟨fun z => absurd z (by decide), fun _ => ?_⟩)
              refine seg 8 (show iR (c - 48) ∧ Wp 124 180 [some (vR 47), some (vI c)] [] (u2 (u2 (u2 (u2 (u2 μ 47 11 ((μ 47 11) + 1)) 47 13 c) 47 14 (-9)) 47 13 48) 47 14 (c - 48)) R from ⟨by omega, ?_⟩)
              first
              | (exfalso; omega)
              | exact l124b ht (by omega) (by omega) hk (T.1 - (j + 1)).toNat (j + 1) (c - 48) _ (by omega) (by repeat (first | exact hF | refine FT.u ?_ (by decide))) (show (μ 47 11) + 1 = j + 1 by omega) rfl h12 rfl (Or.inl ⟨rfl, rfl⟩)
            ·
              refine seg 1 (show (0 = 0 → Wp 124 271 [some (vR 47), some (vI c)] [] (u2 (u2 (u2 μ 47 11 ((μ 47 11) + 1)) 47 13 c) 47 14 (-9)) R) ∧ (¬ (0 = 0) → Wp 124 166 [some (vR 47), some (vI c)] [] (u2 (u2 (u2 μ 47 11 ((μ 47 11) + 1)) 47 13 c) 47 14 (-9)) R) from ⟨fun _ => ?_, fun z => absurd z (by decide)⟩)
              refine seg 1 (show R none (u2 (u2 (u2 μ 47 11 ((μ 47 11) + 1)) 47 13 c) 47 14 (-9)) from ?_)
              first
              | (exfalso; omega)
              | (refine hk _ ⟨h12, show TKv T j ((μ 47 11) + 1) (c) (-9) from ?_⟩ (by repeat (first | exact hF | refine FT.u ?_ (by decide)))
                 unfold TKv
                 omega)
        ·
          refine seg 3 (show (c = 59 → Wp 124 112 [some (vR 47), some (vI c)] [vR 47] (u2 μ 47 11 ((μ 47 11) + 1)) R) ∧ (¬ (c = 59) → Wp 124 108 [some (vR 47), some (vI c)] [vR 47] (u2 μ 47 11 ((μ 47 11) + 1)) R) from ⟨fun c13 => ?_, fun c13 => ?_⟩)
          ·
            refine seg 11 (show Wp 118 0 [some (vL c), none, some (vL 97), none, some (vL 122), none] [] (u2 (u2 (u2 μ 47 11 ((μ 47 11) + 1)) 47 13 c) 47 14 (-9)) (fun rr μ' => Wp 124 138 [some (vR 47), some (vI c)] (rr.toList ++ []) μ' R) from ?_)
            refine m118 (fun b14 => ?_) (fun b14 => ?_)
            ·
              refine seg 1 (show (1 = 0 → Wp 124 152 [some (vR 47), some (vI c)] [] (u2 (u2 (u2 μ 47 11 ((μ 47 11) + 1)) 47 13 c) 47 14 (-9)) R) ∧ (¬ (1 = 0) → Wp 124 141 [some (vR 47), some (vI c)] [] (u2 (u2 (u2 μ 47 11 ((μ 47 11) + 1)) 47 13 c) 47 14 (-9)) R) from ⟨fun z => absurd z (by decide), fun _ => ?_⟩)
              refine seg 11 (show Wp 118 0 [some (vL c), none, some (vL 48), none, some (vL 57), none] [] (u2 (u2 (u2 (u2 (u2 μ 47 11 ((μ 47 11) + 1)) 47 13 c) 47 14 (-9)) 47 13 97) 47 14 c) (fun rr μ' => Wp 124 163 [some (vR 47), some (vI c)] (rr.toList ++ []) μ' R) from ?_)
              refine m118 (fun b15 => ?_) (fun b15 => ?_)
              ·
                refine seg 1 (show (1 = 0 → Wp 124 271 [some (vR 47), some (vI c)] [] (u2 (u2 (u2 (u2 (u2 μ 47 11 ((μ 47 11) + 1)) 47 13 c) 47 14 (-9)) 47 13 97) 47 14 c) R) ∧ (¬ (1 = 0) → Wp 124 166 [some (vR 47), some (vI c)] [] (u2 (u2 (u2 (u2 (u2 μ 47 11 ((μ 47 11) + 1)) 47 13 c) 47 14 (-9)) 47 13 97) 47 14 c) R) from ⟨fun z => absurd z (by decide), fun _ => ?_⟩)
                refine seg 8 (show iR (c - 48) ∧ Wp 124 180 [some (vR 47), some (vI c)] [] (u2 (u2 (u2 (u2 (u2 (u2 (u2 μ 47 11 ((μ 47 11) + 1)) 47 13 c) 47 14 (-9)) 47 13 97) 47 14 c) 47 13 48) 47 14 (c - 48)) R from ⟨by omega, ?_⟩)
                first
                | (exfalso; omega)
                | exact l124b ht (by omega) (by omega) hk (T.1 - (j + 1)).toNat (j + 1) (c - 48) _ (by omega) (by repeat (first | exact hF | refine FT.u ?_ (by decide))) (show (μ 47 11) + 1 = j + 1 by omega) rfl h12 rfl (Or.inl ⟨rfl, rfl⟩)
              ·
                refine seg 1 (show (0 = 0 → Wp 124 271 [some (vR 47), some (vI c)] [] (u2 (u2 (u2 (u2 (u2 μ 47 11 ((μ 47 11) + 1)) 47 13 c) 47 14 (-9)) 47 13 97) 47 14 c) R) ∧ (¬ (0 = 0) → Wp 124 166 [some (vR 47), some (vI c)] [] (u2 (u2 (u2 (u2 (u2 μ 47 11 ((μ 47 11) + 1)) 47 13 c) 47 14 (-9)) 47 13 97) 47 14 c) R) from ⟨fun _ => ?_, fun z => absurd z (by decide)⟩)
                refine seg 1 (show R none (u2 (u2 (u2 (u2 (u2 μ 47 11 ((μ 47 11) + 1)) 47 13 c) 47 14 (-9)) 47 13 97) 47 14 c) from ?_)
                first
                | (exfalso; omega)
                | (refine hk _ ⟨h12, show TKv T j ((μ 47 11) + 1) (97) (c) from ?_⟩ (by repeat (first | exact hF | refine FT.u ?_ (by decide)))
                   unfold TKv
                   omega)
            ·
              refine seg 1 (show (0 = 0 → Wp 124 152 [some (vR 47), some (vI c)] [] (u2 (u2 (u2 μ 47 11 ((μ 47 11) + 1)) 47 13 c) 47 14 (-9)) R) ∧ (¬ (0 = 0) → Wp 124 141 [some (vR 47), some (vI c)] [] (u2 (u2 (u2 μ 47 11 ((μ 47 11) + 1)) 47 13 c) 47 14 (-9)) R) from ⟨fun _ => ?_, fun z => absurd z (by decide)⟩)
              refine seg 5 (show Wp 118 0 [some (vL c), none, some (vL 48), none, some (vL 57), none] [] (u2 (u2 (u2 μ 47 11 ((μ 47 11) + 1)) 47 13 c) 47 14 (-9)) (fun rr μ' => Wp 124 163 [some (vR 47), some (vI c)] (rr.toList ++ []) μ' R) from ?_)
              refine m118 (fun b16 => ?_) (fun b16 => ?_)
              ·
                refine seg 1 (show (1 = 0 → Wp 124 271 [some (vR 47), some (vI c)] [] (u2 (u2 (u2 μ 47 11 ((μ 47 11) + 1)) 47 13 c) 47 14 (-9)) R) ∧ (¬ (1 = 0) → Wp 124 166 [some (vR 47), some (vI c)] [] (u2 (u2 (u2 μ 47 11 ((μ 47 11) + 1)) 47 13 c) 47 14 (-9)) R) from ⟨fun z => absurd z (by decide), fun _ => ?_⟩)
                refine seg 8 (show iR (c - 48) ∧ Wp 124 180 [some (vR 47), some (vI c)] [] (u2 (u2 (u2 (u2 (u2 μ 47 11 ((μ 47 11) + 1)) 47 13 c) 47 14 (-9)) 47 13 48) 47 14 (c - 48)) R from ⟨by omega, ?_⟩)
                first
                | (exfalso; omega)
                | exact l124b ht (by omega) (by omega) hk (T.1 - (j + 1)).toNat (j + 1) (c - 48) _ (by omega) (by repeat (first | exact hF | refine FT.u ?_ (by decide))) (show (μ 47 11) + 1 = j + 1 by omega) rfl h12 rfl (Or.inl ⟨rfl, rfl⟩)
              ·
                refine seg 1 (show (0 = 0 → Wp 124 271 [some (vR 47), some (vI c)] [] (u2 (u2 (u2 μ 47 11 ((μ 47 11) + 1)) 47 13 c) 47 14 (-9)) R) ∧ (¬ (0 = 0) → Wp 124 166 [some (vR 47), some (vI c)] [] (u2 (u2 (u2 μ 47 11 ((μ 47 11) + 1)) 47 13 c) 47 14 (-9)) R) from ⟨fun _ => ?_, fun z => absurd z (by decide)⟩)
                refine seg 1 (show R none (u2 (u2 (u2 μ 47 11 ((μ 47 11) + 1)) 47 13 c) 47 14 (-9)) from ?_)
                first
                | (exfalso; omega)
                | (refine hk _ ⟨h12, show TKv T j ((μ 47 11) + 1) (c) (-9) from ?_⟩ (by repeat (first | exact hF | refine FT.u ?_ (by decide)))
                   unfold TKv
                   omega)
          ·
            refine seg 2 (show (0 ≤ c → Wp 124 116 [some (vR 47), some (vI c)] [vR 47] (u2 μ 47 11 ((μ 47 11) + 1)) R) ∧ (¬ (0 ≤ c) → Wp 124 112 [some (vR 47), some (vI c)] [vR 47] (u2 μ 47 11 ((μ 47 11) + 1)) R) from ⟨fun c17 => ?_, fun c17 => ?_⟩)
            ·
              refine seg 10 (show Wp 118 0 [some (vL c), none, some (vL 97), none, some (vL 122), none] [] (u2 (u2 (u2 μ 47 11 ((μ 47 11) + 1)) 47 13 (-2)) 47 14 (-9)) (fun rr μ' => Wp 124 138 [some (vR 47), some (vI c)] (rr.toList ++ []) μ' R) from ?_)
              refine m118 (fun b18 => ?_) (fun b18 => ?_)
              ·
                refine seg 1 (show (1 = 0 → Wp 124 152 [some (vR 47), some (vI c)] [] (u2 (u2 (u2 μ 47 11 ((μ 47 11) + 1)) 47 13 (-2)) 47 14 (-9)) R) ∧ (¬ (1 = 0) → Wp 124 141 [some (vR 47), some (vI c)] [] (u2 (u2 (u2 μ 47 11 ((μ 47 11) + 1)) 47 13 (-2)) 47 14 (-9)) R) from ⟨fun z => absurd z (by decide), fun _ => ?_⟩)
                refine seg 11 (show Wp 118 0 [some (vL c), none, some (vL 48), none, some (vL 57), none] [] (u2 (u2 (u2 (u2 (u2 μ 47 11 ((μ 47 11) + 1)) 47 13 (-2)) 47 14 (-9)) 47 13 97) 47 14 c) (fun rr μ' => Wp 124 163 [some (vR 47), some (vI c)] (rr.toList ++ []) μ' R) from ?_)
                refine m118 (fun b19 => ?_) (fun b19 => ?_)
                ·
                  refine seg 1 (show (1 = 0 → Wp 124 271 [some (vR 47), some (vI c)] [] (u2 (u2 (u2 (u2 (u2 μ 47 11 ((μ 47 11) + 1)) 47 13 (-2)) 47 14 (-9)) 47 13 97) 47 14 c) R) ∧ (¬ (1 = 0) → Wp 124 166 [some (vR 47), some (vI c)] [] (u2 (u2 (u2 (u2 (u2 μ 47 11 ((μ 47 11) + 1)) 47 13 (-2)) 47 14 (-9)) 47 13 97) 47 14 c) R) from ⟨fun z => absurd z (by decide), fun _ => ?_⟩)
                  refine seg 8 (show iR (c - 48) ∧ Wp 124 180 [some (vR 47), some (vI c)] [] (u2 (u2 (u2 (u2 (u2 (u2 (u2 μ 47 11 ((μ 47 11) + 1)) 47 13 (-2)) 47 14 (-9)) 47 13 97) 47 14 c) 47 13 48) 47 14 (c - 48)) R from ⟨by omega, ?_⟩)
                  first
                  | (exfalso; omega)
                  | exact l124b ht (by omega) (by omega) hk (T.1 - (j + 1)).toNat (j + 1) (c - 48) _ (by omega) (by repeat (first | exact hF | refine FT.u ?_ (by decide))) (show (μ 47 11) + 1 = j + 1 by omega) rfl h12 rfl (Or.inl ⟨rfl, rfl⟩)
                ·
                  refine seg 1 (show (0 = 0 → Wp 124 271 [some (vR 47), some (vI c)] [] (u2 (u2 (u2 (u2 (u2 μ 47 11 ((μ 47 11) + 1)) 47 13 (-2)) 47 14 (-9)) 47 13 97) 47 14 c) R) ∧ (¬ (0 = 0) → Wp 124 166 [some (vR 47), some (vI c)] [] (u2 (u2 (u2 (u2 (u2 μ 47 11 ((μ 47 11) + 1)) 47 13 (-2)) 47 14 (-9)) 47 13 97) 47 14 c) R) from ⟨fun _ => ?_, fun z => absurd z (by decide)⟩)
                  refine seg 1 (show R none (u2 (u2 (u2 (u2 (u2 μ 47 11 ((μ 47 11) + 1)) 47 13 (-2)) 47 14 (-9)) 47 13 97) 47 14 c) from ?_)
                  first
                  | (exfalso; omega)
                  | (refine hk _ ⟨h12, show TKv T j ((μ 47 11) + 1) (97) (c) from ?_⟩ (by repeat (first | exact hF | refine FT.u ?_ (by decide)))
                     unfold TKv
                     omega)
              ·
                refine seg 1 (show (0 = 0 → Wp 124 152 [some (vR 47), some (vI c)] [] (u2 (u2 (u2 μ 47 11 ((μ 47 11) + 1)) 47 13 (-2)) 47 14 (-9)) R) ∧ (¬ (0 = 0) → Wp 124 141 [some (vR 47), some (vI c)] [] (u2 (u2 (u2 μ 47 11 ((μ 47 11) + 1)) 47 13 (-2)) 47 14 (-9)) R) from ⟨fun _ => ?_, fun z => absurd z (by decide)⟩)
                refine seg 5 (show Wp 118 0 [some (vL c), none, some (vL 48), none, some (vL 57), none] [] (u2 (u2 (u2 μ 47 11 ((μ 47 11) + 1)) 47 13 (-2)) 47 14 (-9)) (fun rr μ' => Wp 124 163 [some (vR 47), some (vI c)] (rr.toList ++ []) μ' R) from ?_)
                refine m118 (fun b20 => ?_) (fun b20 => ?_)
                ·
                  refine seg 1 (show (1 = 0 → Wp 124 271 [some (vR 47), some (vI c)] [] (u2 (u2 (u2 μ 47 11 ((μ 47 11) + 1)) 47 13 (-2)) 47 14 (-9)) R) ∧ (¬ (1 = 0) → Wp 124 166 [some (vR 47), some (vI c)] [] (u2 (u2 (u2 μ 47 11 ((μ 47 11) + 1)) 47 13 (-2)) 47 14 (-9)) R) from ⟨fun z => absurd z (by decide), fun _ => ?_⟩)
                  refine seg 8 (show iR (c - 48) ∧ Wp 124 180 [some (vR 47), some (vI c)] [] (u2 (u2 (u2 (u2 (u2 μ 47 11 ((μ 47 11) + 1)) 47 13 (-2)) 47 14 (-9)) 47 13 48) 47 14 (c - 48)) R from ⟨by omega, ?_⟩)
                  first
                  | (exfalso; omega)
                  | exact l124b ht (by omega) (by omega) hk (T.1 - (j + 1)).toNat (j + 1) (c - 48) _ (by omega) (by repeat (first | exact hF | refine FT.u ?_ (by decide))) (show (μ 47 11) + 1 = j + 1 by omega) rfl h12 rfl (Or.inl ⟨rfl, rfl⟩)
                ·
                  refine seg 1 (show (0 = 0 → Wp 124 271 [some (vR 47), some (vI c)] [] (u2 (u2 (u2 μ 47 11 ((μ 47 11) + 1)) 47 13 (-2)) 47 14 (-9)) R) ∧ (¬ (0 = 0) → Wp 124 166 [some (vR 47), some (vI c)] [] (u2 (u2 (u2 μ 47 11 ((μ 47 11) + 1)) 47 13 (-2)) 47 14 (-9)) R) from ⟨fun _ => ?_, fun z => absurd z (by decide)⟩)
                  refine seg 1 (show R none (u2 (u2 (u2 μ 47 11 ((μ 47 11) + 1)) 47 13 (-2)) 47 14 (-9)) from ?_)
                  first
                  | (exfalso; omega)
                  | (refine hk _ ⟨h12, show TKv T j ((μ 47 11) + 1) (-2) (-9) from ?_⟩ (by repeat (first | exact hF | refine FT.u ?_ (by decide)))
                     unfold TKv
                     omega)
            ·
              exfalso; omega
    ·
      exfalso; omega
theorem l124 {T : Tx} {R : Po} {μ0 : Mu} {p0 : Int} (ht0 : RMT T μ0) (hk : ∀ j μ2, TK T j μ2 → (∀ q D, prs T p0 q D = prs T j q D) → FT μ2 μ0 → R none μ2) : ∀ (n : Nat) (p : Int) (μ : Mu), T.1 - p = n → 0 ≤ p → FT μ μ0 → μ 47 11 = p → (∀ q D, prs T p0 q D = prs T p q D) → Wp 124 0 [some (vR 47), none] [] μ R := by
  intro n
  induction n with
  | zero =>
    intro p μ hn h0 hF h11 hp
    have ht : RMT T μ := hF.t ht0
    have e10 := ht.1
    have eb := ht.2.1
    refine seg 5 (show (μ 47 10 ≤ μ 47 11 → Wp 124 38 [some (vR 47), none] [] μ R) ∧ (¬ (μ 47 10 ≤ μ 47 11) → Wp 124 11 [some (vR 47), none] [] μ R) from ⟨fun c1 => ?_, fun c1 => ?_⟩)
    ·
      refine seg 9 (show (μ 47 10 ≤ μ 47 11 → Wp 124 69 [some (vR 47), none] [] (u2 μ 47 12 (μ 47 11)) R) ∧ (¬ (μ 47 10 ≤ μ 47 11) → Wp 124 57 [some (vR 47), none] [] (u2 μ 47 12 (μ 47 11)) R) from ⟨fun c2 => ?_, fun c2 => ?_⟩)
      ·
        refine seg 2 (show Wp 124 71 [some (vR 47), some (vI (-1))] [] (u2 μ 47 12 (μ 47 11)) R from ?_)
        first
        | (exfalso; omega)
        | exact l124c (j := p) ((FT.u hF (by decide)).t ht0) h11 h11 (by omega) (by first | exact Or.inl ⟨rfl, by omega⟩ | exact Or.inr ⟨z0, by omega, by omega, by omega⟩) (fun μ2 k f => hk p μ2 k hp ⟨fun q hq => by rw [f.1 q hq, u2_ne hq, hF.1 q hq], fun i hi => by rw [f.2 i hi, u2_at, up1_n (by omega), hF.2 i hi]⟩)
      ·
        refine seg 7 (show (0 ≤ (μ 47 11) ∧ (μ 47 11) < 120) ∧ Wp 124 71 [some (vR 47), some (vI (μ 55 (μ 47 11)))] [] (u2 μ 47 12 (μ 47 11)) R from ⟨by omega, ?_⟩)
        first
        | (exfalso; omega)
        | exact l124c (j := p) ((FT.u hF (by decide)).t ht0) h11 h11 (by omega) (by first | exact Or.inl ⟨rfl, by omega⟩ | exact Or.inr ⟨z0, by omega, by omega, by omega⟩) (fun μ2 k f => hk p μ2 k hp ⟨fun q hq => by rw [f.1 q hq, u2_ne hq, hF.1 q hq], fun i hi => by rw [f.2 i hi, u2_at, up1_n (by omega), hF.2 i hi]⟩)
    ·
      refine seg 7 (show (0 ≤ (μ 47 11) ∧ (μ 47 11) < 120) ∧ (¬ (μ 55 (μ 47 11) = 32) → Wp 124 38 [some (vR 47), none] [] μ R) ∧ (μ 55 (μ 47 11) = 32 → Wp 124 25 [some (vR 47), none] [] μ R) from ⟨by omega, fun c3 => ?_, fun c3 => ?_⟩)
      ·
        refine seg 9 (show (μ 47 10 ≤ μ 47 11 → Wp 124 69 [some (vR 47), none] [] (u2 μ 47 12 (μ 47 11)) R) ∧ (¬ (μ 47 10 ≤ μ 47 11) → Wp 124 57 [some (vR 47), none] [] (u2 μ 47 12 (μ 47 11)) R) from ⟨fun c4 => ?_, fun c4 => ?_⟩)
        ·
          refine seg 2 (show Wp 124 71 [some (vR 47), some (vI (-1))] [] (u2 μ 47 12 (μ 47 11)) R from ?_)
          first
          | (exfalso; omega)
          | exact l124c (j := p) ((FT.u hF (by decide)).t ht0) h11 h11 (by omega) (by first | exact Or.inl ⟨rfl, by omega⟩ | exact Or.inr ⟨z0, by omega, by omega, by omega⟩) (fun μ2 k f => hk p μ2 k hp ⟨fun q hq => by rw [f.1 q hq, u2_ne hq, hF.1 q hq], fun i hi => by rw [f.2 i hi, u2_at, up1_n (by omega), hF.2 i hi]⟩)
        ·
          refine seg 7 (show (0 ≤ (μ 47 11) ∧ (μ 47 11) < 120) ∧ Wp 124 71 [some (vR 47), some (vI (μ 55 (μ 47 11)))] [] (u2 μ 47 12 (μ 47 11)) R from ⟨by omega, ?_⟩)
          first
          | (exfalso; omega)
          | exact l124c (j := p) ((FT.u hF (by decide)).t ht0) h11 h11 (by omega) (by first | exact Or.inl ⟨rfl, by omega⟩ | exact Or.inr ⟨z0, by omega, by omega, by omega⟩) (fun μ2 k f => hk p μ2 k hp ⟨fun q hq => by rw [f.1 q hq, u2_ne hq, hF.1 q hq], fun i hi => by rw [f.2 i hi, u2_at, up1_n (by omega), hF.2 i hi]⟩)
      ·
        refine seg 7 (show iR ((μ 47 11) + 1) ∧ Wp 124 0 [some (vR 47), none] [] (u2 μ 47 11 ((μ 47 11) + 1)) R from ⟨by omega, ?_⟩)
        exfalso; omega
  | succ n ih =>
    intro p μ hn h0 hF h11 hp
    have ht : RMT T μ := hF.t ht0
    have e10 := ht.1
    have eb := ht.2.1
    obtain ⟨z0, z1, z2⟩ := ht.2.2 p (by omega) (by omega)
    replace z0 : μ 55 (μ 47 11) = T.2 p := by rw [h11]; exact z0
    refine seg 5 (show (μ 47 10 ≤ μ 47 11 → Wp 124 38 [some (vR 47), none] [] μ R) ∧ (¬ (μ 47 10 ≤ μ 47 11) → Wp 124 11 [some (vR 47), none] [] μ R) from ⟨fun c5 => ?_, fun c5 => ?_⟩)
    ·
      refine seg 9 (show (μ 47 10 ≤ μ 47 11 → Wp 124 69 [some (vR 47), none] [] (u2 μ 47 12 (μ 47 11)) R) ∧ (¬ (μ 47 10 ≤ μ 47 11) → Wp 124 57 [some (vR 47), none] [] (u2 μ 47 12 (μ 47 11)) R) from ⟨fun c6 => ?_, fun c6 => ?_⟩)
      ·
        refine seg 2 (show Wp 124 71 [some (vR 47), some (vI (-1))] [] (u2 μ 47 12 (μ 47 11)) R from ?_)
        first
        | (exfalso; omega)
        | exact l124c (j := p) ((FT.u hF (by decide)).t ht0) h11 h11 (by omega) (by first | exact Or.inl ⟨rfl, by omega⟩ | exact Or.inr ⟨z0, by omega, by omega, by omega⟩) (fun μ2 k f => hk p μ2 k hp ⟨fun q hq => by rw [f.1 q hq, u2_ne hq, hF.1 q hq], fun i hi => by rw [f.2 i hi, u2_at, up1_n (by omega), hF.2 i hi]⟩)
      ·
        refine seg 7 (show (0 ≤ (μ 47 11) ∧ (μ 47 11) < 120) ∧ Wp 124 71 [some (vR 47), some (vI (μ 55 (μ 47 11)))] [] (u2 μ 47 12 (μ 47 11)) R from ⟨by omega, ?_⟩)
        first
        | (exfalso; omega)
        | exact l124c (j := p) ((FT.u hF (by decide)).t ht0) h11 h11 (by omega) (by first | exact Or.inl ⟨rfl, by omega⟩ | exact Or.inr ⟨z0, by omega, by omega, by omega⟩) (fun μ2 k f => hk p μ2 k hp ⟨fun q hq => by rw [f.1 q hq, u2_ne hq, hF.1 q hq], fun i hi => by rw [f.2 i hi, u2_at, up1_n (by omega), hF.2 i hi]⟩)
    ·
      refine seg 7 (show (0 ≤ (μ 47 11) ∧ (μ 47 11) < 120) ∧ (¬ (μ 55 (μ 47 11) = 32) → Wp 124 38 [some (vR 47), none] [] μ R) ∧ (μ 55 (μ 47 11) = 32 → Wp 124 25 [some (vR 47), none] [] μ R) from ⟨by omega, fun c7 => ?_, fun c7 => ?_⟩)
      ·
        refine seg 9 (show (μ 47 10 ≤ μ 47 11 → Wp 124 69 [some (vR 47), none] [] (u2 μ 47 12 (μ 47 11)) R) ∧ (¬ (μ 47 10 ≤ μ 47 11) → Wp 124 57 [some (vR 47), none] [] (u2 μ 47 12 (μ 47 11)) R) from ⟨fun c8 => ?_, fun c8 => ?_⟩)
        ·
          refine seg 2 (show Wp 124 71 [some (vR 47), some (vI (-1))] [] (u2 μ 47 12 (μ 47 11)) R from ?_)
          first
          | (exfalso; omega)
          | exact l124c (j := p) ((FT.u hF (by decide)).t ht0) h11 h11 (by omega) (by first | exact Or.inl ⟨rfl, by omega⟩ | exact Or.inr ⟨z0, by omega, by omega, by omega⟩) (fun μ2 k f => hk p μ2 k hp ⟨fun q hq => by rw [f.1 q hq, u2_ne hq, hF.1 q hq], fun i hi => by rw [f.2 i hi, u2_at, up1_n (by omega), hF.2 i hi]⟩)
        ·
          refine seg 7 (show (0 ≤ (μ 47 11) ∧ (μ 47 11) < 120) ∧ Wp 124 71 [some (vR 47), some (vI (μ 55 (μ 47 11)))] [] (u2 μ 47 12 (μ 47 11)) R from ⟨by omega, ?_⟩)
          first
          | (exfalso; omega)
          | exact l124c (j := p) ((FT.u hF (by decide)).t ht0) h11 h11 (by omega) (by first | exact Or.inl ⟨rfl, by omega⟩ | exact Or.inr ⟨z0, by omega, by omega, by omega⟩) (fun μ2 k f => hk p μ2 k hp ⟨fun q hq => by rw [f.1 q hq, u2_ne hq, hF.1 q hq], fun i hi => by rw [f.2 i hi, u2_at, up1_n (by omega), hF.2 i hi]⟩)
      ·
        refine seg 7 (show iR ((μ 47 11) + 1) ∧ Wp 124 0 [some (vR 47), none] [] (u2 μ 47 11 ((μ 47 11) + 1)) R from ⟨by omega, ?_⟩)
        exact ih (p + 1) _ (by omega) (by omega) (FT.u hF (by decide)) (show μ 47 11 + 1 = p + 1 by omega) (fun q D => by rw [hp, prs_s (by omega) (by rw [← z0]; assumption)])
theorem n124 {T : Tx} {R : Po} {μ : Mu} (ht : RMT T μ) {p : Int} (hp : μ 47 11 = p) (h0 : 0 ≤ p ∧ p ≤ T.1) (hk : ∀ j μ2, TK T j μ2 → (∀ q D, prs T p q D = prs T j q D) → FT μ2 μ → R none μ2) : Wp 124 0 [some (vR 47), none] [] μ R := l124 ht hk (T.1 - p).toNat p μ (by omega) (by omega) FT.r hp (fun _ _ => rfl)
theorem n125 {μ : Mu} {R : Po} (h : R (some (vI 0)) (u2 μ 47 15 (μ 47 12))) : Wp 125 0 [some (vR 47)] [] μ R := by
  refine seg 6 (show (0 = 0 ∨ 0 = 1) ∧ R (some (vI 0)) (u2 μ 47 15 (μ 47 12)) from ⟨by decide, ?_⟩)
  first | exact h | (exfalso; omega)
