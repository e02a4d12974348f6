/-! sets of bits and numbers of things; codes of settings; the class's other parts -/
noncomputable def bs (P : Int → Prop) : Nat → Int
  | 0 => 0
  | n + 1 => @ite _ (P n) (Classical.propDecidable _) ((Int.toNat (bs P n) ||| Int.toNat (1 * 2 ^ ((n : Int) : Int).toNat) : Nat) : Int) (bs P n)
noncomputable def cn (P : Int → Prop) : Nat → Int
  | 0 => 0
  | n + 1 => @ite _ (P n) (Classical.propDecidable _) (cn P n + 1) (cn P n)
theorem bs_y {P : Int → Prop} {n : Nat} (h : P n) : bs P (n + 1) = ((Int.toNat (bs P n) ||| Int.toNat (1 * 2 ^ ((n : Int) : Int).toNat) : Nat) : Int) := by rw [bs]; exact if_pos h
theorem bs_n {P : Int → Prop} {n : Nat} (h : ¬ P n) : bs P (n + 1) = bs P n := by rw [bs]; exact if_neg h
theorem cn_y {P : Int → Prop} {n : Nat} (h : P n) : cn P (n + 1) = cn P n + 1 := by rw [cn]; exact if_pos h
theorem cn_n {P : Int → Prop} {n : Nat} (h : ¬ P n) : cn P (n + 1) = cn P n := by rw [cn]; exact if_neg h
theorem bs_nn (P : Int → Prop) : ∀ n, 0 ≤ bs P n := by
  intro n
  induction n with
  | zero => exact Int.le_refl _
  | succ n ih =>
    rw [bs]
    split
    · exact Int.natCast_nonneg _
    · exact ih
theorem bs_lt (P : Int → Prop) : ∀ n, n ≤ 8 → bs P n < 256 := by
  intro n
  induction n with
  | zero => intro _; show (0 : Int) < 256; decide
  | succ n ih =>
    intro hn
    have h0 := bs_nn P n
    have h1 := ih (by omega)
    rw [bs]
    split
    · obtain ⟨X, hX⟩ := Int.eq_ofNat_of_zero_le h0
      have e : Int.toNat (1 * 2 ^ ((n : Int) : Int).toNat) = 1 * 2 ^ n := by
        rw [Int.toNat_natCast, show ((1 : Int) * 2 ^ n) = ((1 * 2 ^ n : Nat) : Int) by simp]
        rfl
      rw [e, hX, Int.toNat_natCast]
      have := (or_fact X (by omega) n (by omega)).1
      omega
    · exact h1
theorem cn_rg (P : Int → Prop) : ∀ n : Nat, 0 ≤ cn P n ∧ cn P n ≤ n := by
  intro n
  induction n with
  | zero => exact ⟨Int.le_refl _, Int.le_refl _⟩
  | succ n ih =>
    rw [cn]
    split <;> omega
def cod (s : Se) : Int := (s.2.1 * 16 + s.2.2) * 8 + s.1
theorem cod_rg {s : Se} (h : SeOK s) : 0 ≤ cod s ∧ cod s < 32768 := by
  obtain ⟨h1, h2, h3⟩ := h
  unfold cod
  omega
theorem cod_or {a b c : Int} (ha : 0 ≤ a ∧ a < 256) (hb : 0 ≤ b ∧ b < 16) (hc : 0 ≤ c ∧ c < 8) : ((Int.toNat (((Int.toNat (a * 2 ^ (4 : Int).toNat) ||| Int.toNat b : Nat) : Int) * 2 ^ (3 : Int).toNat) ||| Int.toNat c : Nat) : Int) = (a * 16 + b) * 8 + c := by
  obtain ⟨a, rfl⟩ := Int.eq_ofNat_of_zero_le ha.1
  obtain ⟨b, rfl⟩ := Int.eq_ofNat_of_zero_le hb.1
  obtain ⟨c, rfl⟩ := Int.eq_ofNat_of_zero_le hc.1
  have e1 : Int.toNat ((a : Int) * 2 ^ (4 : Int).toNat) = a * 2 ^ 4 := by
    show Int.toNat ((a : Int) * 2 ^ 4) = _
    omega
  rw [e1, Int.toNat_natCast, or_lo a b 4 (by omega)]
  have e2 : Int.toNat (((a * 2 ^ 4 + b : Nat) : Int) * 2 ^ (3 : Int).toNat) = (a * 2 ^ 4 + b) * 2 ^ 3 := by
    show Int.toNat (((a * 2 ^ 4 + b : Nat) : Int) * 2 ^ 3) = _
    omega
  rw [e2, Int.toNat_natCast, or_lo _ c 3 (by omega)]
  omega
theorem and_mod {x : Int} (hx : 0 ≤ x) (n : Nat) {m : Int} (hm : Int.toNat m = 2 ^ n - 1) : ((Int.toNat x &&& Int.toNat m : Nat) : Int) = x % ((2 ^ n : Nat) : Int) := by
  obtain ⟨x, rfl⟩ := Int.eq_ofNat_of_zero_le hx
  rw [hm, Int.toNat_natCast, Nat.and_two_pow_sub_one_eq_mod]
  exact Int.natCast_emod x (2 ^ n)
theorem un_cod {s : Se} (h : SeOK s) : ((Int.toNat (cod s) &&& Int.toNat 7 : Nat) : Int) = s.1 ∧ ((Int.toNat (cod s / 2 ^ (3 : Int).toNat) &&& Int.toNat 15 : Nat) : Int) = s.2.2 ∧ ((Int.toNat (cod s / 2 ^ (7 : Int).toNat) &&& Int.toNat 255 : Nat) : Int) = s.2.1 := by
  have h0 := cod_rg h
  obtain ⟨h1, h2, h3⟩ := h
  refine ⟨?_, ?_, ?_⟩
  · rw [and_mod h0.1 3 rfl]
    show cod s % 8 = _
    unfold cod
    omega
  · rw [and_mod (show 0 ≤ cod s / 2 ^ (3 : Int).toNat from sh_nn h0.1 3) 4 rfl]
    show cod s / 8 % 16 = _
    unfold cod
    omega
  · rw [and_mod (show 0 ≤ cod s / 2 ^ (7 : Int).toNat from sh_nn h0.1 7) 8 rfl]
    show cod s / 128 % 256 = _
    unfold cod
    omega
theorem xor_fact : ∀ x, x < 256 → ∀ i, i < 8 → (x ^^^ 1 * 2 ^ i) < 256 := by decide +kernel
theorem xor_fact4 : ∀ x, x < 16 → ∀ i, i < 4 → (x ^^^ 1 * 2 ^ i) < 16 := by decide +kernel
def xr (x r : Int) : Int := ((Int.toNat x ^^^ Int.toNat (1 * 2 ^ (r : Int).toNat) : Nat) : Int)
theorem xr_rg {x r : Int} (hx : 0 ≤ x ∧ x < 256) (hr : 0 ≤ r ∧ r < 8) : 0 ≤ xr x r ∧ xr x r < 256 := by
  obtain ⟨x, rfl⟩ := Int.eq_ofNat_of_zero_le hx.1
  obtain ⟨r, rfl⟩ := Int.eq_ofNat_of_zero_le hr.1
  have e : Int.toNat (1 * 2 ^ ((r : Int) : Int).toNat) = 1 * 2 ^ r := by
    rw [Int.toNat_natCast, show ((1 : Int) * 2 ^ r) = ((1 * 2 ^ r : Nat) : Int) by simp]
    rfl
  unfold xr
  rw [e, Int.toNat_natCast]
  have := xor_fact x (by omega) r (by omega)
  omega
theorem xr_rg4 {x r : Int} (hx : 0 ≤ x ∧ x < 16) (hr : 0 ≤ r ∧ r < 4) : 0 ≤ xr x r ∧ xr x r < 16 := by
  obtain ⟨x, rfl⟩ := Int.eq_ofNat_of_zero_le hx.1
  obtain ⟨r, rfl⟩ := Int.eq_ofNat_of_zero_le hr.1
  have e : Int.toNat (1 * 2 ^ ((r : Int) : Int).toNat) = 1 * 2 ^ r := by
    rw [Int.toNat_natCast, show ((1 : Int) * 2 ^ r) = ((1 * 2 ^ r : Nat) : Int) by simp]
    rfl
  unfold xr
  rw [e, Int.toNat_natCast]
  have := xor_fact4 x (by omega) r (by omega)
  omega
def tP (s : Se) (r : Int) : Se := (s.1, xr s.2.1 r, s.2.2)
def tR (s : Se) (r : Int) : Se := (s.1, s.2.1, xr s.2.2 r)
theorem tP_ok {s : Se} {r : Int} (h : SeOK s) (hr : 0 ≤ r ∧ r < 8) : SeOK (tP s r) := ⟨h.1, xr_rg h.2.1 hr, h.2.2⟩
theorem tR_ok {s : Se} {r : Int} (h : SeOK s) (hr : 0 ≤ r ∧ r < 4) : SeOK (tR s r) := ⟨h.1, h.2.1, xr_rg4 h.2.2 hr⟩
/-- the class: history, settings, traces -/
def RH (G : Hi) (s : Se) (μ : Mu) : Prop := PG G μ ∧ SeC s (μ 30) ∧ SeOK s ∧ (∀ r k, 0 ≤ r → r < hN G → 0 ≤ k → k < hS G r → TrC G s (μ 33) (μ 34) (μ 35) r k) ∧ μ 13 0 = 0 ∧ μ 19 0 = 1
theorem RH.fr {G : Hi} {s : Se} {μ μ' : Mu} (h : RH G s μ) (hf : ∀ q, 8 ≤ q → q ≤ 35 → q ≠ 31 → μ' q = μ q) : RH G s μ' := by
  obtain ⟨h1, h2, h3, h4, h5, h6⟩ := h
  refine ⟨h1.fr (fun q a b => hf q a (by omega) (by omega)), ?_, h3, ?_, ?_, ?_⟩
  · rw [hf 30 (by decide) (by decide) (by decide)]; exact h2
  · rw [hf 33 (by decide) (by decide) (by decide), hf 34 (by decide) (by decide) (by decide), hf 35 (by decide) (by decide) (by decide)]; exact h4
  · rw [hf 13 (by decide) (by decide) (by decide)]; exact h5
  · rw [hf 19 (by decide) (by decide) (by decide)]; exact h6
abbrev Tx : Type := Int × (Int → Int)
def RT (T : Tx) (μ : Mu) : Prop := μ 1 1 = T.1 ∧ (0 ≤ T.1 ∧ T.1 ≤ 120) ∧ ∀ i, 0 ≤ i → i < T.1 → μ 2 i = T.2 i ∧ 0 ≤ T.2 i ∧ T.2 i ≤ 255
abbrev Un : Type := Int × (Int → Se)
def RU (U : Un) (μ : Mu) : Prop := μ 40 1 = U.1 ∧ (0 ≤ U.1 ∧ U.1 ≤ 10) ∧ ∀ i, 0 ≤ i → i < U.1 → μ 41 i = cod (U.2 i) ∧ SeOK (U.2 i)
def RI (im : Int → Option Se) (μ : Mu) : Prop := ∀ i, 0 ≤ i → i < 2 → match im i with
  | none => μ 46 i = -9
  | some s => μ 46 i = cod s ∧ SeOK s
abbrev Sn : Type := Int × (Int → Int × Int × Int × Int)
def SnOK (G : Hi) (z : Int × Int × Int × Int) : Prop := (0 ≤ z.1 ∧ z.1 < hN G) ∧ (0 ≤ z.2.1 ∧ z.2.1 < hS G z.1) ∧ (0 ≤ z.2.2.1 ∧ z.2.2.1 < hN G) ∧ (z.2.2.2 = 0 ∨ z.2.2.2 = 1)
def RN (G : Hi) (N : Sn) (μ : Mu) : Prop := μ 42 3 = N.1 ∧ (0 ≤ N.1 ∧ N.1 ≤ 6) ∧ ∀ i, 0 ≤ i → i < N.1 → μ 43 i = (N.2 i).1 * 8 + (N.2 i).2.1 ∧ μ 44 i = (N.2 i).2.2.1 ∧ μ 45 i = (N.2 i).2.2.2 ∧ SnOK G (N.2 i)
def RC (G : Hi) (T : Tx) (s : Se) (U : Un) (im : Int → Option Se) (N : Sn) (μ : Mu) : Prop := RH G s μ ∧ RT T μ ∧ RU U μ ∧ RI im μ ∧ RN G N μ
theorem RT.fr {T : Tx} {μ μ' : Mu} (h : RT T μ) (h1 : μ' 1 = μ 1) (h2 : μ' 2 = μ 2) : RT T μ' := by unfold RT; rw [h1, h2]; exact h
theorem RU.fr {T : Un} {μ μ' : Mu} (h : RU T μ) (h1 : μ' 40 = μ 40) (h2 : μ' 41 = μ 41) : RU T μ' := by unfold RU; rw [h1, h2]; exact h
theorem RI.fr {im : Int → Option Se} {μ μ' : Mu} (h : RI im μ) (h1 : μ' 46 = μ 46) : RI im μ' := by unfold RI; rw [h1]; exact h
theorem RN.fr {G : Hi} {N : Sn} {μ μ' : Mu} (h : RN G N μ) (h1 : μ' 42 = μ 42) (h2 : μ' 43 = μ 43) (h3 : μ' 44 = μ 44) (h4 : μ' 45 = μ 45) : RN G N μ' := by unfold RN; rw [h1, h2, h3, h4]; exact h
theorem o82 {G : Hi} {s : Se} {μ : Mu} {R : Po} {r k : Int} (hh : RH G s μ) (hr : 0 ≤ r ∧ r < hN G) (hk8 : 0 ≤ k ∧ k < hS G r) (h : R (some (vI (og G s r k).1)) μ) : Wp 82 0 [some (vR 32), some (vI r), some (vI k)] [] μ R := by
  have h1 := hh.1.1.1.n; have h2 := hh.1.1.1.s hr
  exact s82v_32 (by omega) (by rw [(hh.2.2.2.1 r k hr.1 hr.2 hk8.1 hk8.2).1]; exact h)
/-- lines of r whose origin is o -/
noncomputable def LF (G : Hi) (s : Se) (o r : Int) : Int := bs (fun k => (og G s r k).1 = o) (hS G r).toNat
noncomputable def OL (G : Hi) (s : Se) (r l : Int) : Int := cn (fun k => (og G s r k).1 < (og G s r l).1 ∨ ((og G s r k).1 = (og G s r l).1 ∧ k < l)) (hS G r).toNat
noncomputable def OW (G : Hi) (s : Se) (r : Int) (k : Nat) : Int := cn (fun k => (og G s r k).1 = r * 8 + k) k
noncomputable def OWs (G : Hi) (s : Se) : Nat → Int
  | 0 => 0
  | r + 1 => OWs G s r + OW G s r (hS G r).toNat
def SZs (G : Hi) : Nat → Int
  | 0 => 0
  | r + 1 => SZs G r + hS G r
def SO (G : Hi) (s : Se) (N : Sn) (n : Int) : Prop := ∀ i, 0 ≤ i → i < n → ((og G s (N.2 i).1 (N.2 i).2.1).1 / 8 = (N.2 i).2.2.1 ↔ (N.2 i).2.2.2 = 1)
theorem SZs_rg {G : Hi} (hG : HiOK G) : ∀ r : Nat, (r : Int) ≤ hN G → 0 ≤ SZs G r ∧ SZs G r ≤ 8 * r := by
  intro r
  induction r with
  | zero => intro _; exact ⟨Int.le_refl _, Int.le_refl _⟩
  | succ r ih =>
    intro h
    have h1 := ih (by omega)
    have h2 := hG.s (r := (r : Int)) (by omega)
    rw [SZs]
    omega
theorem OWs_rg {G : Hi} (hG : HiOK G) (s : Se) : ∀ r : Nat, (r : Int) ≤ hN G → 0 ≤ OWs G s r ∧ OWs G s r ≤ 8 * r := by
  intro r
  induction r with
  | zero => intro _; exact ⟨Int.le_refl _, Int.le_refl _⟩
  | succ r ih =>
    intro h
    have h1 := ih (by omega)
    have h2 := hG.s (r := (r : Int)) (by omega)
    have h3 := cn_rg (fun k => (og G s r k).1 = r * 8 + k) (hS G r).toNat
    rw [OWs]
    unfold OW
    omega
theorem s58_30 {s : Se} {R : Po} {μ : Mu} (hs : SeC s (μ 30)) (hok : SeOK s) (h : R (some (vI (cod s))) μ) : Wp 58 0 [some (vR 30)] [] μ R := by
  have a1 := hok.1; have a2 := hok.2.1; have a3 := hok.2.2
  rw [← hs.1] at a1; rw [← hs.2.1] at a2; rw [← hs.2.2] at a3
  have e1 : μ 30 1 * 2 ^ (4 : Int).toNat = μ 30 1 * 16 := rfl
  have e2 : (Int.toNat (μ 30 1 * 2 ^ (4 : Int).toNat) ||| Int.toNat (μ 30 2) : Nat) = (μ 30 1).toNat * 16 + (μ 30 2).toNat := by
    have := or_lo (μ 30 1).toNat (μ 30 2).toNat 4 (by omega)
    rw [show Int.toNat (μ 30 1 * 2 ^ (4 : Int).toNat) = (μ 30 1).toNat * 2 ^ 4 by rw [e1]; omega, this]
  have e3 : ((Int.toNat (μ 30 1 * 2 ^ (4 : Int).toNat) ||| Int.toNat (μ 30 2) : Nat) : Int) * 2 ^ (3 : Int).toNat = ((Int.toNat (μ 30 1 * 2 ^ (4 : Int).toNat) ||| Int.toNat (μ 30 2) : Nat) : Int) * 8 := rfl
  refine seg 13 (show (0 ≤ (μ 30 1) ∧ 0 ≤ 4 ∧ 4 < 31 ∧ (μ 30 1) * 2 ^ (4 : Int).toNat ≤ 2147483647) ∧ (0 ≤ ((μ 30 1) * 2 ^ (4 : Int).toNat) ∧ 0 ≤ (μ 30 2)) ∧ (0 ≤ ((Int.toNat ((μ 30 1) * 2 ^ (4 : Int).toNat) ||| Int.toNat (μ 30 2) : Nat) : Int) ∧ 0 ≤ 3 ∧ 3 < 31 ∧ ((Int.toNat ((μ 30 1) * 2 ^ (4 : Int).toNat) ||| Int.toNat (μ 30 2) : Nat) : Int) * 2 ^ (3 : Int).toNat ≤ 2147483647) ∧ (0 ≤ (((Int.toNat ((μ 30 1) * 2 ^ (4 : Int).toNat) ||| Int.toNat (μ 30 2) : Nat) : Int) * 2 ^ (3 : Int).toNat) ∧ 0 ≤ (μ 30 0)) ∧ R (some (vI ((Int.toNat (((Int.toNat ((μ 30 1) * 2 ^ (4 : Int).toNat) ||| Int.toNat (μ 30 2) : Nat) : Int) * 2 ^ (3 : Int).toNat) ||| Int.toNat (μ 30 0) : Nat) : Int))) μ from ⟨by omega, by omega, by omega, by omega, ?_⟩)
  rw [cod_or (by omega) (by omega) (by omega), hs.1, hs.2.1, hs.2.2]; exact h
theorem s59_30 {s : Se} {R : Po} {μ : Mu} {c : Int} (hc : c = cod s) (hok : SeOK s) (hk : ∀ μ2 : Mu, (∀ q, q ≠ 30 → μ2 q = μ q) → SeC s (μ2 30) → R none μ2) : Wp 59 0 [some (vR 30), some (vI c)] [] μ R := by
  have h0 := cod_rg hok
  have g3 : 0 ≤ c / 2 ^ (3 : Int).toNat := sh_nn (by omega) 3
  have g7 : 0 ≤ c / 2 ^ (7 : Int).toNat := sh_nn (by omega) 7
  refine seg 20 (show (0 ≤ c ∧ 0 ≤ 7) ∧ (0 ≤ c ∧ 0 ≤ 3 ∧ 3 < 31) ∧ (0 ≤ (c / 2 ^ (3 : Int).toNat) ∧ 0 ≤ 15) ∧ (0 ≤ c ∧ 0 ≤ 7 ∧ 7 < 31) ∧ (0 ≤ (c / 2 ^ (7 : Int).toNat) ∧ 0 ≤ 255) ∧ R none (u2 (u2 (u2 μ 30 0 ((Int.toNat c &&& Int.toNat 7 : Nat) : Int)) 30 2 ((Int.toNat (c / 2 ^ (3 : Int).toNat) &&& Int.toNat 15 : Nat) : Int)) 30 1 ((Int.toNat (c / 2 ^ (7 : Int).toNat) &&& Int.toNat 255 : Nat) : Int)) from ⟨by omega, by omega, by omega, by omega, by omega, ?_⟩)
  subst hc
  have e := un_cod hok
  refine hk _ (fun q hq => by rw [u2_ne hq, u2_ne hq, u2_ne hq]) ⟨?_, ?_, ?_⟩
  · rw [u2_at, up1_n (by decide), u2_at, up1_n (by decide), u2_at, up1_s]; exact e.1
  · rw [u2_at, up1_s]; exact e.2.2
  · rw [u2_at, up1_n (by decide), u2_at, up1_s]; exact e.2.1
theorem s58_31 {s : Se} {R : Po} {μ : Mu} (hs : SeC s (μ 31)) (hok : SeOK s) (h : R (some (vI (cod s))) μ) : Wp 58 0 [some (vR 31)] [] μ R := by
  have a1 := hok.1; have a2 := hok.2.1; have a3 := hok.2.2
  rw [← hs.1] at a1; rw [← hs.2.1] at a2; rw [← hs.2.2] at a3
  have e1 : μ 31 1 * 2 ^ (4 : Int).toNat = μ 31 1 * 16 := rfl
  have e2 : (Int.toNat (μ 31 1 * 2 ^ (4 : Int).toNat) ||| Int.toNat (μ 31 2) : Nat) = (μ 31 1).toNat * 16 + (μ 31 2).toNat := by
    have := or_lo (μ 31 1).toNat (μ 31 2).toNat 4 (by omega)
    rw [show Int.toNat (μ 31 1 * 2 ^ (4 : Int).toNat) = (μ 31 1).toNat * 2 ^ 4 by rw [e1]; omega, this]
  have e3 : ((Int.toNat (μ 31 1 * 2 ^ (4 : Int).toNat) ||| Int.toNat (μ 31 2) : Nat) : Int) * 2 ^ (3 : Int).toNat = ((Int.toNat (μ 31 1 * 2 ^ (4 : Int).toNat) ||| Int.toNat (μ 31 2) : Nat) : Int) * 8 := rfl
  refine seg 13 (show (0 ≤ (μ 31 1) ∧ 0 ≤ 4 ∧ 4 < 31 ∧ (μ 31 1) * 2 ^ (4 : Int).toNat ≤ 2147483647) ∧ (0 ≤ ((μ 31 1) * 2 ^ (4 : Int).toNat) ∧ 0 ≤ (μ 31 2)) ∧ (0 ≤ ((Int.toNat ((μ 31 1) * 2 ^ (4 : Int).toNat) ||| Int.toNat (μ 31 2) : Nat) : Int) ∧ 0 ≤ 3 ∧ 3 < 31 ∧ ((Int.toNat ((μ 31 1) * 2 ^ (4 : Int).toNat) ||| Int.toNat (μ 31 2) : Nat) : Int) * 2 ^ (3 : Int).toNat ≤ 2147483647) ∧ (0 ≤ (((Int.toNat ((μ 31 1) * 2 ^ (4 : Int).toNat) ||| Int.toNat (μ 31 2) : Nat) : Int) * 2 ^ (3 : Int).toNat) ∧ 0 ≤ (μ 31 0)) ∧ R (some (vI ((Int.toNat (((Int.toNat ((μ 31 1) * 2 ^ (4 : Int).toNat) ||| Int.toNat (μ 31 2) : Nat) : Int) * 2 ^ (3 : Int).toNat) ||| Int.toNat (μ 31 0) : Nat) : Int))) μ from ⟨by omega, by omega, by omega, by omega, ?_⟩)
  rw [cod_or (by omega) (by omega) (by omega), hs.1, hs.2.1, hs.2.2]; exact h
theorem s59_31 {s : Se} {R : Po} {μ : Mu} {c : Int} (hc : c = cod s) (hok : SeOK s) (hk : ∀ μ2 : Mu, (∀ q, q ≠ 31 → μ2 q = μ q) → SeC s (μ2 31) → R none μ2) : Wp 59 0 [some (vR 31), some (vI c)] [] μ R := by
  have h0 := cod_rg hok
  have g3 : 0 ≤ c / 2 ^ (3 : Int).toNat := sh_nn (by omega) 3
  have g7 : 0 ≤ c / 2 ^ (7 : Int).toNat := sh_nn (by omega) 7
  refine seg 20 (show (0 ≤ c ∧ 0 ≤ 7) ∧ (0 ≤ c ∧ 0 ≤ 3 ∧ 3 < 31) ∧ (0 ≤ (c / 2 ^ (3 : Int).toNat) ∧ 0 ≤ 15) ∧ (0 ≤ c ∧ 0 ≤ 7 ∧ 7 < 31) ∧ (0 ≤ (c / 2 ^ (7 : Int).toNat) ∧ 0 ≤ 255) ∧ R none (u2 (u2 (u2 μ 31 0 ((Int.toNat c &&& Int.toNat 7 : Nat) : Int)) 31 2 ((Int.toNat (c / 2 ^ (3 : Int).toNat) &&& Int.toNat 15 : Nat) : Int)) 31 1 ((Int.toNat (c / 2 ^ (7 : Int).toNat) &&& Int.toNat 255 : Nat) : Int)) from ⟨by omega, by omega, by omega, by omega, by omega, ?_⟩)
  subst hc
  have e := un_cod hok
  refine hk _ (fun q hq => by rw [u2_ne hq, u2_ne hq, u2_ne hq]) ⟨?_, ?_, ?_⟩
  · rw [u2_at, up1_n (by decide), u2_at, up1_n (by decide), u2_at, up1_s]; exact e.1
  · rw [u2_at, up1_s]; exact e.2.2
  · rw [u2_at, up1_n (by decide), u2_at, up1_s]; exact e.2.1
theorem l4 {R : Po} {μ0 : Mu} (hk : ∀ μ : Mu, (∀ q, q ≠ 41 → μ q = μ0 q) → (∀ x, μ 41 x = if 0 ≤ x ∧ x < 10 - 1 then μ0 41 (x + 1) else μ0 41 x) → R none (u2 μ 40 1 9)) : ∀ (n : Nat) (i : Int) (μ : Mu), 10 - i = n → 1 ≤ i → (∀ q, q ≠ 41 → μ q = μ0 q) → (∀ x, μ 41 x = if 0 ≤ x ∧ x < i - 1 then μ0 41 (x + 1) else μ0 41 x) → Wp 4 2 [some (vR 40), some (vI i)] [] μ R := by
  intro n
  induction n with
  | zero =>
    intro i μ hn h1 hF hA
    refine seg 3 (show (10 ≤ i → Wp 4 28 [some (vR 40), some (vI i)] [] μ R) ∧ (¬ (10 ≤ i) → Wp 4 8 [some (vR 40), some (vI i)] [] μ R) from ⟨fun c1 => ?_, fun c1 => ?_⟩)
    ·
      refine seg 4 (show R none (u2 μ 40 1 9) from ?_)
      first | (obtain rfl : i = 10 := (by omega); exact hk μ hF hA) | (exfalso; omega)
    ·
      refine seg 12 (show iR (i - 1) ∧ (0 ≤ i ∧ i < 10) ∧ (0 ≤ (i - 1) ∧ (i - 1) < 10) ∧ iR (i + 1) ∧ Wp 4 2 [some (vR 40), some (vI (i + 1))] [] (u2 μ 41 (i - 1) (μ 41 i)) R from ⟨by omega, by omega, by omega, by omega, ?_⟩)
      exfalso; omega
  | succ n ih =>
    intro i μ hn h1 hF hA
    refine seg 3 (show (10 ≤ i → Wp 4 28 [some (vR 40), some (vI i)] [] μ R) ∧ (¬ (10 ≤ i) → Wp 4 8 [some (vR 40), some (vI i)] [] μ R) from ⟨fun c2 => ?_, fun c2 => ?_⟩)
    ·
      refine seg 4 (show R none (u2 μ 40 1 9) from ?_)
      first | (obtain rfl : i = 10 := (by omega); exact hk μ hF hA) | (exfalso; omega)
    ·
      refine seg 12 (show iR (i - 1) ∧ (0 ≤ i ∧ i < 10) ∧ (0 ≤ (i - 1) ∧ (i - 1) < 10) ∧ iR (i + 1) ∧ Wp 4 2 [some (vR 40), some (vI (i + 1))] [] (u2 μ 41 (i - 1) (μ 41 i)) R from ⟨by omega, by omega, by omega, by omega, ?_⟩)
      refine ih (i + 1) _ (by omega) (by omega) (fun q hq => by rw [u2_ne hq]; exact hF q hq) (fun x => ?_)
      rw [u2_at]
      by_cases hx : x = i - 1
      · subst hx
        rw [up1_s, if_pos (by omega), hA i, if_neg (by omega)]
        congr 1
        omega
      · rw [up1_n hx, hA x]
        by_cases hq : 0 ≤ x ∧ x < i - 1
        · rw [if_pos hq, if_pos (by omega)]
        · rw [if_neg hq, if_neg (by omega)]
theorem s4 {R : Po} {μ : Mu} (hk : ∀ μ2 : Mu, (∀ q, q ≠ 41 → μ2 q = μ q) → (∀ x, μ2 41 x = if 0 ≤ x ∧ x < 10 - 1 then μ 41 (x + 1) else μ 41 x) → R none (u2 μ2 40 1 9)) : Wp 4 0 [some (vR 40), none] [] μ R := by
  refine seg 2 (show Wp 4 2 [some (vR 40), some (vI 1)] [] μ R from ?_)
  exact l4 hk 9 1 μ (by decide) (by decide) (fun _ _ => rfl) (fun x => by rw [if_neg (by omega)])
def adU (U : Un) (s : Se) : Un := if U.1 = 10 then (10, fun i => if i = 9 then s else U.2 (i + 1)) else (U.1 + 1, fun i => if i = U.1 then s else U.2 i)
theorem s3 {U : Un} {s : Se} {R : Po} {μ : Mu} {c : Int} (hu : RU U μ) (hc : c = cod s) (hok : SeOK s) (hk : ∀ μ2 : Mu, (∀ q, q ≠ 40 → q ≠ 41 → μ2 q = μ q) → RU (adU U s) μ2 → R none μ2) : Wp 3 0 [some (vR 40), some (vI c)] [] μ R := by
  have h1 := hu.1; have h2 := hu.2.1
  refine seg 4 (show (μ 40 1 < 10 → Wp 3 13 [some (vR 40), some (vI c)] [] μ R) ∧ (¬ (μ 40 1 < 10) → Wp 3 9 [some (vR 40), some (vI c)] [] μ R) from ⟨fun c1 => ?_, fun c1 => ?_⟩)
  ·
    refine seg 13 (show (0 ≤ (μ 40 1) ∧ (μ 40 1) < 10) ∧ iR ((μ 40 1) + 1) ∧ R none (u2 (u2 μ 41 (μ 40 1) c) 40 1 ((μ 40 1) + 1)) from ⟨by omega, by omega, ?_⟩)
    have hU : ¬ U.1 = 10 := by omega
    refine hk _ (fun q a1 a2 => by rw [u2_ne a1, u2_ne a2]) ?_
    unfold adU
    rw [if_neg hU]
    refine ⟨by rw [u2_at, up1_s, hu.1], ⟨by show (0 : Int) ≤ U.1 + 1; omega, by show U.1 + 1 ≤ 10; omega⟩, fun i a1 a2 => ?_⟩
    have a2 : i < U.1 + 1 := a2
    rw [u2_ne (by decide), u2_at]
    by_cases hi : i = U.1
    · rw [hu.1, hi, up1_s]
      show _ = cod (if U.1 = U.1 then s else U.2 U.1) ∧ SeOK (if U.1 = U.1 then s else U.2 U.1)
      rw [if_pos rfl]; exact ⟨hc, hok⟩
    · rw [hu.1, up1_n hi]
      show _ = cod (if i = U.1 then s else U.2 i) ∧ SeOK (if i = U.1 then s else U.2 i)
      rw [if_neg hi]
      exact hu.2.2 i a1 (by omega)
  ·
    refine seg 2 (show Wp 4 0 [some (vR 40), none] [] μ (fun rr μ' => Wp 3 13 [some (vR 40), some (vI c)] (rr.toList ++ []) μ' R) from ?_)
    refine s4 (fun μ2 f1 f2 => ?_)
    refine seg 13 (show (0 ≤ 9 ∧ 9 < 10) ∧ iR (9 + 1) ∧ R none (u2 (u2 (u2 μ2 40 1 9) 41 9 c) 40 1 (9 + 1)) from ⟨by omega, by omega, ?_⟩)
    have hU : U.1 = 10 := by omega
    refine hk _ (fun q a1 a2 => by rw [u2_ne a1, u2_ne a2, u2_ne a1, f1 q a2]) ?_
    unfold adU
    rw [if_pos hU]
    refine ⟨by rw [u2_at, up1_s]; rfl, ⟨by show (0 : Int) ≤ 10; decide, by show (10 : Int) ≤ 10; decide⟩, fun i a1 a2 => ?_⟩
    have a2 : i < 10 := a2
    rw [u2_ne (by decide), u2_at, u2_ne (by decide)]
    by_cases hi : i = 9
    · subst hi; rw [up1_s]; exact ⟨hc, hok⟩
    · rw [up1_n hi, f2 i, if_pos (by omega)]
      show _ = cod (if i = 9 then s else U.2 (i + 1)) ∧ SeOK (if i = 9 then s else U.2 (i + 1))
      rw [if_neg hi]
      exact hu.2.2 (i + 1) (by omega) (by omega)
theorem l111 {G : Hi} {s : Se} {R : Po} {μ : Mu} {o r : Int} (hh : RH G s μ) (hr : 0 ≤ r ∧ r < hN G) (hk : R (some (vI (LF G s o r))) μ) : ∀ (n k : Nat), hS G r - (k : Int) = n → Wp 111 5 [some (vR 0), some (vI o), some (vI r), some (vI (bs (fun k => (og G s r k).1 = o) k)), some (vI (k : Int))] [] μ R := by
  have hn := hh.1.1.1.n
  have hsr := hh.1.1.1.s hr
  intro n
  induction n with
  | zero =>
    intro k  hm
    have hp : k < 8 → 1 * 2 ^ ((k : Int)).toNat ≤ (128 : Int) ∧ (0 : Int) ≤ 1 * 2 ^ ((k : Int)).toNat := fun z => pw_le (k := (k : Int)) (by omega)
    have hb := bs_nn (fun k => (og G s r k).1 = o) k
    refine seg 5 (show Wp 46 0 [some (vR 8), some (vI r)] [] μ (fun rr μ' => Wp 111 15 [some (vR 0), some (vI o), some (vI r), some (vI (bs (fun k => (og G s r k).1 = o) k)), some (vI (k : Int))] (rr.toList ++ [vI (k : Int)]) μ' R) from ?_)
    refine g46 hh.1.1 (by omega) ?_
    refine seg 1 (show (hS G r ≤ (k : Int) → Wp 111 45 [some (vR 0), some (vI o), some (vI r), some (vI (bs (fun k => (og G s r k).1 = o) k)), some (vI (k : Int))] [] μ R) ∧ (¬ (hS G r ≤ (k : Int)) → Wp 111 18 [some (vR 0), some (vI o), some (vI r), some (vI (bs (fun k => (og G s r k).1 = o) k)), some (vI (k : Int))] [] μ R) from ⟨fun c1 => ?_, fun c1 => ?_⟩)
    ·
      refine seg 2 (show R (some (vI (bs (fun k => (og G s r k).1 = o) k))) μ from ?_)
      first | (exfalso; omega) | (have e : (hS G r).toNat = k := (by omega); unfold LF at hk; rw [e] at hk; exact hk)
    ·
      refine seg 5 (show Wp 82 0 [some (vR 32), some (vI r), some (vI (k : Int))] [] μ (fun rr μ' => Wp 111 28 [some (vR 0), some (vI o), some (vI r), some (vI (bs (fun k => (og G s r k).1 = o) k)), some (vI (k : Int))] (rr.toList ++ []) μ' R) from ?_)
      refine o82 hh (by omega) (by omega) ?_
      refine seg 2 (show (¬ ((og G s r (k : Int)).1 = o) → Wp 111 39 [some (vR 0), some (vI o), some (vI r), some (vI (bs (fun k => (og G s r k).1 = o) k)), some (vI (k : Int))] [] μ R) ∧ ((og G s r (k : Int)).1 = o → Wp 111 32 [some (vR 0), some (vI o), some (vI r), some (vI (bs (fun k => (og G s r k).1 = o) k)), some (vI (k : Int))] [] μ R) from ⟨fun c2 => ?_, fun c2 => ?_⟩)
      ·
        refine seg 2 (show iR ((k : Int) + 1) ∧ Wp 111 5 [some (vR 0), some (vI o), some (vI r), some (vI (bs (fun k => (og G s r k).1 = o) k)), some (vI ((k : Int) + 1))] [] μ R from ⟨by omega, ?_⟩)
        exfalso; omega
      ·
        refine seg 8 (show (0 ≤ 1 ∧ 0 ≤ (k : Int) ∧ (k : Int) < 31 ∧ 1 * 2 ^ ((k : Int) : Int).toNat ≤ 2147483647) ∧ (0 ≤ (bs (fun k => (og G s r k).1 = o) k) ∧ 0 ≤ (1 * 2 ^ ((k : Int) : Int).toNat)) ∧ iR ((k : Int) + 1) ∧ Wp 111 5 [some (vR 0), some (vI o), some (vI r), some (vI ((Int.toNat (bs (fun k => (og G s r k).1 = o) k) ||| Int.toNat (1 * 2 ^ ((k : Int) : Int).toNat) : Nat) : Int)), some (vI ((k : Int) + 1))] [] μ R from ⟨by omega, by omega, by omega, ?_⟩)
        exfalso; omega
  | succ n ih =>
    intro k  hm
    have hp : k < 8 → 1 * 2 ^ ((k : Int)).toNat ≤ (128 : Int) ∧ (0 : Int) ≤ 1 * 2 ^ ((k : Int)).toNat := fun z => pw_le (k := (k : Int)) (by omega)
    have hb := bs_nn (fun k => (og G s r k).1 = o) k
    refine seg 5 (show Wp 46 0 [some (vR 8), some (vI r)] [] μ (fun rr μ' => Wp 111 15 [some (vR 0), some (vI o), some (vI r), some (vI (bs (fun k => (og G s r k).1 = o) k)), some (vI (k : Int))] (rr.toList ++ [vI (k : Int)]) μ' R) from ?_)
    refine g46 hh.1.1 (by omega) ?_
    refine seg 1 (show (hS G r ≤ (k : Int) → Wp 111 45 [some (vR 0), some (vI o), some (vI r), some (vI (bs (fun k => (og G s r k).1 = o) k)), some (vI (k : Int))] [] μ R) ∧ (¬ (hS G r ≤ (k : Int)) → Wp 111 18 [some (vR 0), some (vI o), some (vI r), some (vI (bs (fun k => (og G s r k).1 = o) k)), some (vI (k : Int))] [] μ R) from ⟨fun c3 => ?_, fun c3 => ?_⟩)
    ·
      refine seg 2 (show R (some (vI (bs (fun k => (og G s r k).1 = o) k))) μ from ?_)
      first | (exfalso; omega) | (have e : (hS G r).toNat = k := (by omega); unfold LF at hk; rw [e] at hk; exact hk)
    ·
      refine seg 5 (show Wp 82 0 [some (vR 32), some (vI r), some (vI (k : Int))] [] μ (fun rr μ' => Wp 111 28 [some (vR 0), some (vI o), some (vI r), some (vI (bs (fun k => (og G s r k).1 = o) k)), some (vI (k : Int))] (rr.toList ++ []) μ' R) from ?_)
      refine o82 hh (by omega) (by omega) ?_
      refine seg 2 (show (¬ ((og G s r (k : Int)).1 = o) → Wp 111 39 [some (vR 0), some (vI o), some (vI r), some (vI (bs (fun k => (og G s r k).1 = o) k)), some (vI (k : Int))] [] μ R) ∧ ((og G s r (k : Int)).1 = o → Wp 111 32 [some (vR 0), some (vI o), some (vI r), some (vI (bs (fun k => (og G s r k).1 = o) k)), some (vI (k : Int))] [] μ R) from ⟨fun c4 => ?_, fun c4 => ?_⟩)
      ·
        refine seg 2 (show iR ((k : Int) + 1) ∧ Wp 111 5 [some (vR 0), some (vI o), some (vI r), some (vI (bs (fun k => (og G s r k).1 = o) k)), some (vI ((k : Int) + 1))] [] μ R from ⟨by omega, ?_⟩)
        have := ih (k + 1)  (by omega)
        first | rw [bs_y (P := (fun k => (og G s r k).1 = o)) (by first | assumption | exact Or.inl (by assumption) | exact Or.inr ⟨by assumption, by omega⟩)] at this | rw [bs_n (P := (fun k => (og G s r k).1 = o)) (by first | assumption | (intro z; rcases z with z | z <;> omega) | omega)] at this
        exact this
      ·
        refine seg 8 (show (0 ≤ 1 ∧ 0 ≤ (k : Int) ∧ (k : Int) < 31 ∧ 1 * 2 ^ ((k : Int) : Int).toNat ≤ 2147483647) ∧ (0 ≤ (bs (fun k => (og G s r k).1 = o) k) ∧ 0 ≤ (1 * 2 ^ ((k : Int) : Int).toNat)) ∧ iR ((k : Int) + 1) ∧ Wp 111 5 [some (vR 0), some (vI o), some (vI r), some (vI ((Int.toNat (bs (fun k => (og G s r k).1 = o) k) ||| Int.toNat (1 * 2 ^ ((k : Int) : Int).toNat) : Nat) : Int)), some (vI ((k : Int) + 1))] [] μ R from ⟨by omega, by omega, by omega, ?_⟩)
        have := ih (k + 1)  (by omega)
        first | rw [bs_y (P := (fun k => (og G s r k).1 = o)) (by first | assumption | exact Or.inl (by assumption) | exact Or.inr ⟨by assumption, by omega⟩)] at this | rw [bs_n (P := (fun k => (og G s r k).1 = o)) (by first | assumption | (intro z; rcases z with z | z <;> omega) | omega)] at this
        exact this
theorem s111 {G : Hi} {s : Se} {R : Po} {μ : Mu} {o r : Int} (hh : RH G s μ) (hr : 0 ≤ r ∧ r < hN G) (hk : R (some (vI (LF G s o r))) μ) : Wp 111 0 [some (vR 0), some (vI o), some (vI r), none, none] [] μ R := by
  have hsr := hh.1.1.1.s hr
  refine seg 4 (show Wp 111 5 [some (vR 0), some (vI o), some (vI r), some (vI 0), some (vI 0)] [] μ R from ?_)
  exact l111 hh hr hk (hS G r).toNat 0 (by omega)
theorem l112 {G : Hi} {s : Se} {R : Po} {μ : Mu} {r l : Int} (hh : RH G s μ) (hr : 0 ≤ r ∧ r < hN G) (hk : R (some (vI (OL G s r l))) μ) : ∀ (n k : Nat) (o6 : Option PV), hS G r - (k : Int) = n → Wp 112 16 [some (vR 0), some (vI r), some (vI l), some (vI ((og G s r l).1)), some (vI (cn (fun k => (og G s r k).1 < (og G s r l).1 ∨ ((og G s r k).1 = (og G s r l).1 ∧ k < l)) k)), some (vI (k : Int)), o6] [] μ R := by
  have hn := hh.1.1.1.n
  have hsr := hh.1.1.1.s hr
  intro n
  induction n with
  | zero =>
    intro k o6 hm
    have hb := cn_rg (fun k => (og G s r k).1 < (og G s r l).1 ∨ ((og G s r k).1 = (og G s r l).1 ∧ k < l)) k
    refine seg 5 (show Wp 46 0 [some (vR 8), some (vI r)] [] μ (fun rr μ' => Wp 112 26 [some (vR 0), some (vI r), some (vI l), some (vI ((og G s r l).1)), some (vI (cn (fun k => (og G s r k).1 < (og G s r l).1 ∨ ((og G s r k).1 = (og G s r l).1 ∧ k < l)) k)), some (vI (k : Int)), o6] (rr.toList ++ [vI (k : Int)]) μ' R) from ?_)
    refine g46 hh.1.1 (by omega) ?_
    refine seg 1 (show (hS G r ≤ (k : Int) → Wp 112 68 [some (vR 0), some (vI r), some (vI l), some (vI ((og G s r l).1)), some (vI (cn (fun k => (og G s r k).1 < (og G s r l).1 ∨ ((og G s r k).1 = (og G s r l).1 ∧ k < l)) k)), some (vI (k : Int)), o6] [] μ R) ∧ (¬ (hS G r ≤ (k : Int)) → Wp 112 29 [some (vR 0), some (vI r), some (vI l), some (vI ((og G s r l).1)), some (vI (cn (fun k => (og G s r k).1 < (og G s r l).1 ∨ ((og G s r k).1 = (og G s r l).1 ∧ k < l)) k)), some (vI (k : Int)), o6] [] μ R) from ⟨fun c1 => ?_, fun c1 => ?_⟩)
    ·
      refine seg 2 (show R (some (vI (cn (fun k => (og G s r k).1 < (og G s r l).1 ∨ ((og G s r k).1 = (og G s r l).1 ∧ k < l)) k))) μ from ?_)
      first | (exfalso; omega) | (have e : (hS G r).toNat = k := (by omega); unfold OL at hk; rw [e] at hk; exact hk)
    ·
      refine seg 5 (show Wp 82 0 [some (vR 32), some (vI r), some (vI (k : Int))] [] μ (fun rr μ' => Wp 112 39 [some (vR 0), some (vI r), some (vI l), some (vI ((og G s r l).1)), some (vI (cn (fun k => (og G s r k).1 < (og G s r l).1 ∨ ((og G s r k).1 = (og G s r l).1 ∧ k < l)) k)), some (vI (k : Int)), o6] (rr.toList ++ []) μ' R) from ?_)
      refine o82 hh (by omega) (by omega) ?_
      refine seg 4 (show ((og G s r (k : Int)).1 < (og G s r l).1 → Wp 112 59 [some (vR 0), some (vI r), some (vI l), some (vI ((og G s r l).1)), some (vI (cn (fun k => (og G s r k).1 < (og G s r l).1 ∨ ((og G s r k).1 = (og G s r l).1 ∧ k < l)) k)), some (vI (k : Int)), some (vI ((og G s r (k : Int)).1))] [] μ R) ∧ (¬ ((og G s r (k : Int)).1 < (og G s r l).1) → Wp 112 47 [some (vR 0), some (vI r), some (vI l), some (vI ((og G s r l).1)), some (vI (cn (fun k => (og G s r k).1 < (og G s r l).1 ∨ ((og G s r k).1 = (og G s r l).1 ∧ k < l)) k)), some (vI (k : Int)), some (vI ((og G s r (k : Int)).1))] [] μ R) from ⟨fun c2 => ?_, fun c2 => ?_⟩)
      ·
        refine seg 3 (show iR ((cn (fun k => (og G s r k).1 < (og G s r l).1 ∨ ((og G s r k).1 = (og G s r l).1 ∧ k < l)) k) + 1) ∧ iR ((k : Int) + 1) ∧ Wp 112 16 [some (vR 0), some (vI r), some (vI l), some (vI ((og G s r l).1)), some (vI ((cn (fun k => (og G s r k).1 < (og G s r l).1 ∨ ((og G s r k).1 = (og G s r l).1 ∧ k < l)) k) + 1)), some (vI ((k : Int) + 1)), some (vI ((og G s r (k : Int)).1))] [] μ R from ⟨by omega, by omega, ?_⟩)
        exfalso; omega
      ·
        refine seg 3 (show (¬ ((og G s r (k : Int)).1 = (og G s r l).1) → Wp 112 62 [some (vR 0), some (vI r), some (vI l), some (vI ((og G s r l).1)), some (vI (cn (fun k => (og G s r k).1 < (og G s r l).1 ∨ ((og G s r k).1 = (og G s r l).1 ∧ k < l)) k)), some (vI (k : Int)), some (vI ((og G s r (k : Int)).1))] [] μ R) ∧ ((og G s r (k : Int)).1 = (og G s r l).1 → Wp 112 53 [some (vR 0), some (vI r), some (vI l), some (vI ((og G s r l).1)), some (vI (cn (fun k => (og G s r k).1 < (og G s r l).1 ∨ ((og G s r k).1 = (og G s r l).1 ∧ k < l)) k)), some (vI (k : Int)), some (vI ((og G s r (k : Int)).1))] [] μ R) from ⟨fun c3 => ?_, fun c3 => ?_⟩)
        ·
          refine seg 2 (show iR ((k : Int) + 1) ∧ Wp 112 16 [some (vR 0), some (vI r), some (vI l), some (vI ((og G s r l).1)), some (vI (cn (fun k => (og G s r k).1 < (og G s r l).1 ∨ ((og G s r k).1 = (og G s r l).1 ∧ k < l)) k)), some (vI ((k : Int) + 1)), some (vI ((og G s r (k : Int)).1))] [] μ R from ⟨by omega, ?_⟩)
          exfalso; omega
        ·
          refine seg 3 (show (l ≤ (k : Int) → Wp 112 62 [some (vR 0), some (vI r), some (vI l), some (vI ((og G s r l).1)), some (vI (cn (fun k => (og G s r k).1 < (og G s r l).1 ∨ ((og G s r k).1 = (og G s r l).1 ∧ k < l)) k)), some (vI (k : Int)), some (vI ((og G s r (k : Int)).1))] [] μ R) ∧ (¬ (l ≤ (k : Int)) → Wp 112 59 [some (vR 0), some (vI r), some (vI l), some (vI ((og G s r l).1)), some (vI (cn (fun k => (og G s r k).1 < (og G s r l).1 ∨ ((og G s r k).1 = (og G s r l).1 ∧ k < l)) k)), some (vI (k : Int)), some (vI ((og G s r (k : Int)).1))] [] μ R) from ⟨fun c4 => ?_, fun c4 => ?_⟩)
          ·
            refine seg 2 (show iR ((k : Int) + 1) ∧ Wp 112 16 [some (vR 0), some (vI r), some (vI l), some (vI ((og G s r l).1)), some (vI (cn (fun k => (og G s r k).1 < (og G s r l).1 ∨ ((og G s r k).1 = (og G s r l).1 ∧ k < l)) k)), some (vI ((k : Int) + 1)), some (vI ((og G s r (k : Int)).1))] [] μ R from ⟨by omega, ?_⟩)
            exfalso; omega
          ·
            refine seg 3 (show iR ((cn (fun k => (og G s r k).1 < (og G s r l).1 ∨ ((og G s r k).1 = (og G s r l).1 ∧ k < l)) k) + 1) ∧ iR ((k : Int) + 1) ∧ Wp 112 16 [some (vR 0), some (vI r), some (vI l), some (vI ((og G s r l).1)), some (vI ((cn (fun k => (og G s r k).1 < (og G s r l).1 ∨ ((og G s r k).1 = (og G s r l).1 ∧ k < l)) k) + 1)), some (vI ((k : Int) + 1)), some (vI ((og G s r (k : Int)).1))] [] μ R from ⟨by omega, by omega, ?_⟩)
            exfalso; omega
  | succ n ih =>
    intro k o6 hm
    have hb := cn_rg (fun k => (og G s r k).1 < (og G s r l).1 ∨ ((og G s r k).1 = (og G s r l).1 ∧ k < l)) k
    refine seg 5 (show Wp 46 0 [some (vR 8), some (vI r)] [] μ (fun rr μ' => Wp 112 26 [some (vR 0), some (vI r), some (vI l), some (vI ((og G s r l).1)), some (vI (cn (fun k => (og G s r k).1 < (og G s r l).1 ∨ ((og G s r k).1 = (og G s r l).1 ∧ k < l)) k)), some (vI (k : Int)), o6] (rr.toList ++ [vI (k : Int)]) μ' R) from ?_)
    refine g46 hh.1.1 (by omega) ?_
    refine seg 1 (show (hS G r ≤ (k : Int) → Wp 112 68 [some (vR 0), some (vI r), some (vI l), some (vI ((og G s r l).1)), some (vI (cn (fun k => (og G s r k).1 < (og G s r l).1 ∨ ((og G s r k).1 = (og G s r l).1 ∧ k < l)) k)), some (vI (k : Int)), o6] [] μ R) ∧ (¬ (hS G r ≤ (k : Int)) → Wp 112 29 [some (vR 0), some (vI r), some (vI l), some (vI ((og G s r l).1)), some (vI (cn (fun k => (og G s r k).1 < (og G s r l).1 ∨ ((og G s r k).1 = (og G s r l).1 ∧ k < l)) k)), some (vI (k : Int)), o6] [] μ R) from ⟨fun c5 => ?_, fun c5 => ?_⟩)
    ·
      refine seg 2 (show R (some (vI (cn (fun k => (og G s r k).1 < (og G s r l).1 ∨ ((og G s r k).1 = (og G s r l).1 ∧ k < l)) k))) μ from ?_)
      first | (exfalso; omega) | (have e : (hS G r).toNat = k := (by omega); unfold OL at hk; rw [e] at hk; exact hk)
    ·
      refine seg 5 (show Wp 82 0 [some (vR 32), some (vI r), some (vI (k : Int))] [] μ (fun rr μ' => Wp 112 39 [some (vR 0), some (vI r), some (vI l), some (vI ((og G s r l).1)), some (vI (cn (fun k => (og G s r k).1 < (og G s r l).1 ∨ ((og G s r k).1 = (og G s r l).1 ∧ k < l)) k)), some (vI (k : Int)), o6] (rr.toList ++ []) μ' R) from ?_)
      refine o82 hh (by omega) (by omega) ?_
      refine seg 4 (show ((og G s r (k : Int)).1 < (og G s r l).1 → Wp 112 59 [some (vR 0), some (vI r), some (vI l), some (vI ((og G s r l).1)), some (vI (cn (fun k => (og G s r k).1 < (og G s r l).1 ∨ ((og G s r k).1 = (og G s r l).1 ∧ k < l)) k)), some (vI (k : Int)), some (vI ((og G s r (k : Int)).1))] [] μ R) ∧ (¬ ((og G s r (k : Int)).1 < (og G s r l).1) → Wp 112 47 [some (vR 0), some (vI r), some (vI l), some (vI ((og G s r l).1)), some (vI (cn (fun k => (og G s r k).1 < (og G s r l).1 ∨ ((og G s r k).1 = (og G s r l).1 ∧ k < l)) k)), some (vI (k : Int)), some (vI ((og G s r (k : Int)).1))] [] μ R) from ⟨fun c6 => ?_, fun c6 => ?_⟩)
      ·
        refine seg 3 (show iR ((cn (fun k => (og G s r k).1 < (og G s r l).1 ∨ ((og G s r k).1 = (og G s r l).1 ∧ k < l)) k) + 1) ∧ iR ((k : Int) + 1) ∧ Wp 112 16 [some (vR 0), some (vI r), some (vI l), some (vI ((og G s r l).1)), some (vI ((cn (fun k => (og G s r k).1 < (og G s r l).1 ∨ ((og G s r k).1 = (og G s r l).1 ∧ k < l)) k) + 1)), some (vI ((k : Int) + 1)), some (vI ((og G s r (k : Int)).1))] [] μ R from ⟨by omega, by omega, ?_⟩)
        have := ih (k + 1) (some (vI ((og G s r (k : Int)).1))) (by omega)
        first | rw [cn_y (P := (fun k => (og G s r k).1 < (og G s r l).1 ∨ ((og G s r k).1 = (og G s r l).1 ∧ k < l))) (by first | assumption | exact Or.inl (by assumption) | exact Or.inr ⟨by assumption, by omega⟩)] at this | rw [cn_n (P := (fun k => (og G s r k).1 < (og G s r l).1 ∨ ((og G s r k).1 = (og G s r l).1 ∧ k < l))) (by first | assumption | (intro z; rcases z with z | z <;> omega) | omega)] at this
        exact this
      ·
        refine seg 3 (show (¬ ((og G s r (k : Int)).1 = (og G s r l).1) → Wp 112 62 [some (vR 0), some (vI r), some (vI l), some (vI ((og G s r l).1)), some (vI (cn (fun k => (og G s r k).1 < (og G s r l).1 ∨ ((og G s r k).1 = (og G s r l).1 ∧ k < l)) k)), some (vI (k : Int)), some (vI ((og G s r (k : Int)).1))] [] μ R) ∧ ((og G s r (k : Int)).1 = (og G s r l).1 → Wp 112 53 [some (vR 0), some (vI r), some (vI l), some (vI ((og G s r l).1)), some (vI (cn (fun k => (og G s r k).1 < (og G s r l).1 ∨ ((og G s r k).1 = (og G s r l).1 ∧ k < l)) k)), some (vI (k : Int)), some (vI ((og G s r (k : Int)).1))] [] μ R) from ⟨fun c7 => ?_, fun c7 => ?_⟩)
        ·
          refine seg 2 (show iR ((k : Int) + 1) ∧ Wp 112 16 [some (vR 0), some (vI r), some (vI l), some (vI ((og G s r l).1)), some (vI (cn (fun k => (og G s r k).1 < (og G s r l).1 ∨ ((og G s r k).1 = (og G s r l).1 ∧ k < l)) k)), some (vI ((k : Int) + 1)), some (vI ((og G s r (k : Int)).1))] [] μ R from ⟨by omega, ?_⟩)
          have := ih (k + 1) (some (vI ((og G s r (k : Int)).1))) (by omega)
          first | rw [cn_y (P := (fun k => (og G s r k).1 < (og G s r l).1 ∨ ((og G s r k).1 = (og G s r l).1 ∧ k < l))) (by first | assumption | exact Or.inl (by assumption) | exact Or.inr ⟨by assumption, by omega⟩)] at this | rw [cn_n (P := (fun k => (og G s r k).1 < (og G s r l).1 ∨ ((og G s r k).1 = (og G s r l).1 ∧ k < l))) (by first | assumption | (intro z; rcases z with z | z <;> omega) | omega)] at this
          exact this
        ·
          refine seg 3 (show (l ≤ (k : Int) → Wp 112 62 [some (vR 0), some (vI r), some (vI l), some (vI ((og G s r l).1)), some (vI (cn (fun k => (og G s r k).1 < (og G s r l).1 ∨ ((og G s r k).1 = (og G s r l).1 ∧ k < l)) k)), some (vI (k : Int)), some (vI ((og G s r (k : Int)).1))] [] μ R) ∧ (¬ (l ≤ (k : Int)) → Wp 112 59 [some (vR 0), some (vI r), some (vI l), some (vI ((og G s r l).1)), some (vI (cn (fun k => (og G s r k).1 < (og G s r l).1 ∨ ((og G s r k).1 = (og G s r l).1 ∧ k < l)) k)), some (vI (k : Int)), some (vI ((og G s r (k : Int)).1))] [] μ R) from ⟨fun c8 => ?_, fun c8 => ?_⟩)
          ·
            refine seg 2 (show iR ((k : Int) + 1) ∧ Wp 112 16 [some (vR 0), some (vI r), some (vI l), some (vI ((og G s r l).1)), some (vI (cn (fun k => (og G s r k).1 < (og G s r l).1 ∨ ((og G s r k).1 = (og G s r l).1 ∧ k < l)) k)), some (vI ((k : Int) + 1)), some (vI ((og G s r (k : Int)).1))] [] μ R from ⟨by omega, ?_⟩)
            have := ih (k + 1) (some (vI ((og G s r (k : Int)).1))) (by omega)
            first | rw [cn_y (P := (fun k => (og G s r k).1 < (og G s r l).1 ∨ ((og G s r k).1 = (og G s r l).1 ∧ k < l))) (by first | assumption | exact Or.inl (by assumption) | exact Or.inr ⟨by assumption, by omega⟩)] at this | rw [cn_n (P := (fun k => (og G s r k).1 < (og G s r l).1 ∨ ((og G s r k).1 = (og G s r l).1 ∧ k < l))) (by first | assumption | (intro z; rcases z with z | z <;> omega) | omega)] at this
            exact this
          ·
            refine seg 3 (show iR ((cn (fun k => (og G s r k).1 < (og G s r l).1 ∨ ((og G s r k).1 = (og G s r l).1 ∧ k < l)) k) + 1) ∧ iR ((k : Int) + 1) ∧ Wp 112 16 [some (vR 0), some (vI r), some (vI l), some (vI ((og G s r l).1)), some (vI ((cn (fun k => (og G s r k).1 < (og G s r l).1 ∨ ((og G s r k).1 = (og G s r l).1 ∧ k < l)) k) + 1)), some (vI ((k : Int) + 1)), some (vI ((og G s r (k : Int)).1))] [] μ R from ⟨by omega, by omega, ?_⟩)
            have := ih (k + 1) (some (vI ((og G s r (k : Int)).1))) (by omega)
            first | rw [cn_y (P := (fun k => (og G s r k).1 < (og G s r l).1 ∨ ((og G s r k).1 = (og G s r l).1 ∧ k < l))) (by first | assumption | exact Or.inl (by assumption) | exact Or.inr ⟨by assumption, by omega⟩)] at this | rw [cn_n (P := (fun k => (og G s r k).1 < (og G s r l).1 ∨ ((og G s r k).1 = (og G s r l).1 ∧ k < l))) (by first | assumption | (intro z; rcases z with z | z <;> omega) | omega)] at this
            exact this
