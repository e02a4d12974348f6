/-! whole numbers in range and the machine's ints -/
abbrev oI (x : Int) : Int32 := Int32.ofInt x
theorem oI_to {x : Int} (h : iR x) : (oI x).toInt = x := Int32.toInt_ofInt_of_le (by omega) (by omega)
theorem oL_to {x : Int} (h : iR x) : (Int64.ofInt x).toInt = x := Int64.toInt_ofInt_of_le (by omega) (by omega)
theorem oI_lt {x y : Int} (hx : iR x) (hy : iR y) : oI x < oI y ↔ x < y := by rw [Int32.lt_iff_toInt_lt, oI_to hx, oI_to hy]
theorem oI_le {x y : Int} (hx : iR x) (hy : iR y) : oI x ≤ oI y ↔ x ≤ y := by rw [Int32.le_iff_toInt_le, oI_to hx, oI_to hy]
theorem oI_eq {x y : Int} (hx : iR x) (hy : iR y) : oI x = oI y ↔ x = y := by rw [← Int32.toInt_inj, oI_to hx, oI_to hy]
theorem oL_lt {x y : Int} (hx : iR x) (hy : iR y) : Int64.ofInt x < Int64.ofInt y ↔ x < y := by rw [Int64.lt_iff_toInt_lt, oL_to hx, oL_to hy]
theorem oL_eq {x y : Int} (hx : iR x) (hy : iR y) : Int64.ofInt x = Int64.ofInt y ↔ x = y := by rw [← Int64.toInt_inj, oL_to hx, oL_to hy]
theorem oI_0 : oI 0 = 0 := by decide +kernel
theorem oI_add (x y : Int) : oI (x + y) = oI x + oI y := Int32.ofInt_add ..
theorem oI_mul (x y : Int) : oI (x * y) = oI x * oI y := Int32.ofInt_mul ..
theorem oI_sub (x y : Int) : oI (x - y) = oI x - oI y := by
  apply Int32.toInt_inj.mp
  rw [Int32.toInt_sub, Int32.toInt_ofInt, Int32.toInt_ofInt, Int32.toInt_ofInt, Int.sub_bmod_bmod, Int.bmod_sub_bmod]
theorem oI_nat (n : Nat) : oI (n : Int) = nI n := by
  first | rfl | exact Int32.ofInt_natCast | exact Int32.ofInt_eq_ofNat | simp [oI, nI]
theorem oI_pos {x : Int} (h : 0 ≤ x) : oI x = nI x.toNat := by
  rw [← oI_nat, Int.toNat_of_nonneg h]
theorem oI_cl {x : Int} (hx : iR x) : (oI x).toNatClampNeg = x.toNat := by
  show (oI x).toInt.toNat = _
  rw [oI_to hx]
theorem oI_in {x : Int} {n : Nat} (hx : iR x) (h : 0 ≤ x ∧ x < n) : vp_in (oI x) n := by
  rw [vp_in_iff, oI_to hx]; exact h
theorem oI_div {x y : Int} (hx : iR x) (hy : iR y) (h : 0 ≤ x ∧ 0 < y) : oI (x / y) = oI x / oI y := by
  obtain ⟨a, rfl⟩ := Int.eq_ofNat_of_zero_le h.1
  obtain ⟨b, rfl⟩ := Int.eq_ofNat_of_zero_le (Int.le_of_lt h.2)
  rw [← Int.natCast_ediv, oI_nat, oI_nat, oI_nat, pk_div (by omega) (by omega) (by omega)]
theorem oI_rem {x y : Int} (hx : iR x) (hy : iR y) (h : 0 ≤ x ∧ 0 < y) : oI (x % y) = oI x - oI x / oI y * oI y := by
  obtain ⟨a, rfl⟩ := Int.eq_ofNat_of_zero_le h.1
  obtain ⟨b, rfl⟩ := Int.eq_ofNat_of_zero_le (Int.le_of_lt h.2)
  rw [← Int.natCast_emod, oI_nat, oI_nat, oI_nat, pk_rem (by omega) (by omega) (by omega)]
theorem oI_bv {n : Nat} (h : n < 2 ^ 32) : (nI n).toBitVec.toNat = n := pk_tn h
theorem oI_and {x y : Int} (hx : iR x) (hy : iR y) (h : 0 ≤ x ∧ 0 ≤ y) : oI ((x.toNat &&& y.toNat : Nat) : Int) = oI x &&& oI y := by
  have h1 : x.toNat &&& y.toNat < 2 ^ 31 := Nat.lt_of_le_of_lt Nat.and_le_left (by omega)
  rw [oI_nat, oI_pos h.1, oI_pos h.2]
  apply Int32.toBitVec_inj.mp
  apply BitVec.eq_of_toNat_eq
  rw [Int32.toBitVec_and, BitVec.toNat_and, oI_bv (by omega), oI_bv (by omega), oI_bv (by omega)]
theorem or_lt31 {a b : Nat} (ha : a < 2 ^ 31) (hb : b < 2 ^ 31) : a ||| b < 2 ^ 31 := Nat.or_lt_two_pow ha hb
theorem xor_lt31 {a b : Nat} (ha : a < 2 ^ 31) (hb : b < 2 ^ 31) : a ^^^ b < 2 ^ 31 := Nat.xor_lt_two_pow ha hb
theorem oI_or {x y : Int} (hx : iR x) (hy : iR y) (h : 0 ≤ x ∧ 0 ≤ y) : oI ((x.toNat ||| y.toNat : Nat) : Int) = oI x ||| oI y := by
  have h1 : x.toNat ||| y.toNat < 2 ^ 31 := or_lt31 (by omega) (by omega)
  rw [oI_nat, oI_pos h.1, oI_pos h.2]
  apply Int32.toBitVec_inj.mp
  apply BitVec.eq_of_toNat_eq
  rw [Int32.toBitVec_or, BitVec.toNat_or, oI_bv (by omega), oI_bv (by omega), oI_bv (by omega)]
theorem oI_xor {x y : Int} (hx : iR x) (hy : iR y) (h : 0 ≤ x ∧ 0 ≤ y) : oI ((x.toNat ^^^ y.toNat : Nat) : Int) = oI x ^^^ oI y := by
  have h1 : x.toNat ^^^ y.toNat < 2 ^ 31 := xor_lt31 (by omega) (by omega)
  rw [oI_nat, oI_pos h.1, oI_pos h.2]
  apply Int32.toBitVec_inj.mp
  apply BitVec.eq_of_toNat_eq
  rw [Int32.toBitVec_xor, BitVec.toNat_xor, oI_bv (by omega), oI_bv (by omega), oI_bv (by omega)]
theorem oI_sh {y : Nat} (h : y < 31) : ((nI y &&& 31).toBitVec.smod 32).toNat = y := by
  have h2 : ∀ y, y < 31 → ((nI y &&& 31).toBitVec.smod 32).toNat = y := by decide +kernel
  exact h2 y h
theorem oI_shl {x y : Int} (hx : iR x) (h : 0 ≤ x ∧ 0 ≤ y ∧ y < 31 ∧ x * 2 ^ y.toNat ≤ 2147483647) : oI (x * 2 ^ y.toNat) = oI x <<< (oI y &&& 31) := by
  obtain ⟨a, rfl⟩ := Int.eq_ofNat_of_zero_le h.1
  obtain ⟨b, rfl⟩ := Int.eq_ofNat_of_zero_le h.2.1
  have h3 := h.2.2.2
  have e : (a : Int) * 2 ^ (b : Int).toNat = ((a * 2 ^ b : Nat) : Int) := by simp
  rw [e] at h3
  rw [e, oI_nat, oI_nat, oI_nat, pk_shlN (nI b &&& 31) b (oI_sh (by omega)) (by omega)]
theorem oI_shr {x y : Int} (hx : iR x) (h : 0 ≤ x ∧ 0 ≤ y ∧ y < 31) : oI (x / 2 ^ y.toNat) = oI x >>> (oI y &&& 31) := by
  obtain ⟨a, rfl⟩ := Int.eq_ofNat_of_zero_le h.1
  obtain ⟨b, rfl⟩ := Int.eq_ofNat_of_zero_le h.2.1
  have e : (a : Int) / 2 ^ (b : Int).toNat = ((a / 2 ^ b : Nat) : Int) := by simp
  rw [e, oI_nat, oI_nat, oI_nat, pk_shrN (by omega) (nI b &&& 31) b (oI_sh (by omega))]
theorem oI_long {x : Int} (h : iR x) : (oI x).toInt64 = Int64.ofInt x := by
  apply Int64.toInt_inj.mp
  rw [Int32.toInt_toInt64, oI_to h, oL_to h]
theorem oI_bit {x : Int} (h : x = 0 ∨ x = 1) : oI x &&& 1 = oI x := by
  rcases h with rfl | rfl <;> decide +kernel
theorem oI_cmp {x y : Int} (hx : iR x) (hy : iR y) : lg_cmp (Int64.ofInt x) (Int64.ofInt y) = oI (if y < x then 1 else if x = y then 0 else -1) := by
  unfold lg_cmp
  by_cases h : y < x
  · rw [if_pos h, if_pos ((oL_lt hy hx).mpr h)]; decide +kernel
  · rw [if_neg h, if_neg (fun z => h ((oL_lt hy hx).mp z))]
    by_cases h2 : x = y
    · rw [if_pos h2, if_pos ((oL_eq hx hy).mpr h2)]; decide +kernel
    · rw [if_neg h2, if_neg (fun z => h2 ((oL_eq hx hy).mp z))]; decide +kernel
theorem oI_max {x y : Int} (hx : iR x) (hy : iR y) : (if oI x < oI y then oI y else oI x) = oI (if x < y then y else x) := by
  by_cases h : x < y
  · rw [if_pos h, if_pos ((oI_lt hx hy).mpr h)]
  · rw [if_neg h, if_neg (fun z => h ((oI_lt hx hy).mp z))]
