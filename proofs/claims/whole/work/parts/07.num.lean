/-! numbers: an int of the machine is an Int modulo 2^32; vi x, vl x: an int, a long on the stack; vr b k: the k-th of our cells, which begin at b -/
abbrev inR (x : Int) : Prop := -2147483648 ≤ x ∧ x ≤ 2147483647
def vi (x : Int) : Value := .int (Int32.ofInt x)
def vl (x : Int) : Value := .long (Int64.ofInt x)
def vr (b k : Nat) : Value := .ref (b + k)
theorem oi_toInt {x : Int} (h : inR x) : (Int32.ofInt x).toInt = x := Int32.toInt_ofInt_of_le (by omega) (by omega)
theorem oi_lt {x y : Int} (hx : inR x) (hy : inR y) : Int32.ofInt x < Int32.ofInt y ↔ x < y := by
  rw [Int32.lt_iff_toInt_lt, oi_toInt hx, oi_toInt hy]
theorem oi_le {x y : Int} (hx : inR x) (hy : inR y) : Int32.ofInt x ≤ Int32.ofInt y ↔ x ≤ y := by
  rw [Int32.le_iff_toInt_le, oi_toInt hx, oi_toInt hy]
theorem oi_eq {x y : Int} (hx : inR x) (hy : inR y) : Int32.ofInt x = Int32.ofInt y ↔ x = y := by
  rw [← Int32.toInt_inj, oi_toInt hx, oi_toInt hy]
theorem oi_0 : (0 : Int32) = Int32.ofInt 0 := rfl
theorem oi_in {x : Int} {n : Nat} (h : 0 ≤ x ∧ x < (n : Int) ∧ x ≤ 100000) : vp_in (Int32.ofInt x) n := by
  have hr : inR x := by omega
  rw [vp_in_iff, oi_toInt hr]
  omega
theorem oi_cl {x : Int} (h : 0 ≤ x ∧ x ≤ 2147483647) : (Int32.ofInt x).toNatClampNeg = x.toNat := by
  rw [Int32.toNatClampNeg_ofInt_of_le (by omega) (by omega)]
theorem oi_nat (n : Nat) : Int32.ofNat n = Int32.ofInt (n : Int) := by
  first | exact (Int32.ofInt_natCast n).symm | rfl | exact Int32.ofInt_eq_ofNat.symm
theorem oi_div {x y : Int} (hx : 0 ≤ x ∧ x ≤ 2147483647) (hy : 0 < y ∧ y ≤ 2147483647) : Int32.ofInt x / Int32.ofInt y = Int32.ofInt (x / y) := by
  have h1 : Int32.minValue.toInt = -2147483648 := by decide
  have h2 : Int32.maxValue.toInt = 2147483647 := by decide
  rw [← Int.tdiv_eq_ediv_of_nonneg hx.1]
  exact (Int32.ofInt_tdiv (by omega) (by omega) (by omega) (by omega)).symm
theorem oi_rem {x y : Int} (hx : 0 ≤ x ∧ x ≤ 2147483647) (hy : 0 < y ∧ y ≤ 2147483647) : Int32.ofInt x - Int32.ofInt x / Int32.ofInt y * Int32.ofInt y = Int32.ofInt (x % y) := by
  rw [oi_div hx hy, ← Int32.ofInt_mul, ← Int32.ofInt_sub]
  congr 1
  have := Int.mul_ediv_add_emod x y
  have h3 : x / y * y = y * (x / y) := Int.mul_comm _ _
  omega
theorem oi_inj_ne {y : Int} (hy : 0 < y ∧ y ≤ 2147483647) : ¬ Int32.ofInt y = 0 := by
  rw [oi_0, oi_eq (by omega) (by omega)]
  omega
theorem oi_bv (x : Int) : (Int32.ofInt x).toBitVec = BitVec.ofInt 32 x := Int32.toBitVec_ofInt x
theorem oi_bvN (x : Int) : (Int32.ofInt x).toBitVec.toNat = (x % 4294967296).toNat := by
  rw [oi_bv, BitVec.toNat_ofInt]
  rfl
/-- a mask of low ones -/
theorem oi_and {x : Int} {m : Int} (k : Nat) (hk : k ≤ 30) (hm : m = 2 ^ k - 1) : Int32.ofInt x &&& Int32.ofInt m = Int32.ofInt (x % 2 ^ k) := by
  have hp : (2 : Int) ^ k ≤ 1073741824 := by
    have h1 : (2 : Nat) ^ k ≤ 2 ^ 30 := Nat.pow_le_pow_right (by omega) hk
    have h2 : (2 : Nat) ^ 30 = 1073741824 := by decide
    have h3 : ((2 ^ k : Nat) : Int) = (2 : Int) ^ k := by simp
    omega
  have hp0 : (0 : Int) < 2 ^ k := Int.pow_pos (by omega)
  have hmm : (Int32.ofInt m).toBitVec.toNat = 2 ^ k - 1 := by
    rw [oi_bvN]
    have h1 : m % 4294967296 = m := Int.emod_eq_of_lt (by omega) (by omega)
    rw [h1, hm]
    have h2 : ((2 : Int) ^ k - 1).toNat = 2 ^ k - 1 := by
      have : ((2 ^ k : Nat) : Int) = (2 : Int) ^ k := by simp
      omega
    exact h2
  rw [pk_and _ k hmm, show nI = Int32.ofNat from rfl, oi_nat, oi_bvN]
  congr 1
  have hx0 : 0 ≤ x % 4294967296 := Int.emod_nonneg _ (by omega)
  have h3 : (((x % 4294967296).toNat % 2 ^ k : Nat) : Int) = (x % 4294967296) % 2 ^ k := by
    rw [Int.natCast_emod, Int.toNat_of_nonneg hx0]
    simp
  rw [h3]
  refine Int.emod_emod_of_dvd x ?_
  refine ⟨2 ^ (32 - k), ?_⟩
  rw [← Int.pow_add, show k + (32 - k) = 32 by omega]
  rfl
theorem oi_shc : ∀ k : Fin 32, ((Int32.ofInt (k.val : Int) &&& 31).toBitVec.smod 32).toNat = k.val := by decide +kernel
/-- 'x >> y' -/
theorem oi_shr {x y : Int} (hx : inR x) (hy : 0 ≤ y ∧ y < 32) : Int32.ofInt x >>> (Int32.ofInt y &&& 31) = Int32.ofInt (x / 2 ^ y.toNat) := by
  obtain ⟨k, rfl⟩ : ∃ k : Nat, y = (k : Int) := ⟨y.toNat, by omega⟩
  have hk : k < 32 := by omega
  rw [← Int32.toInt_inj, pk_shr _ _ k (oi_shc ⟨k, hk⟩), oi_toInt hx, Int.shiftRight_eq_div_pow]
  have e1 : ((2 ^ k : Nat) : Int) = (2 : Int) ^ k := by simp
  have hp0 : (0 : Int) < 2 ^ k := Int.pow_pos (by omega)
  simp only [Int.toNat_natCast, e1]
  rw [oi_toInt]
  have h1 : x / 2 ^ k ≤ 2147483647 := by
    by_cases h0 : 0 ≤ x
    · exact Int.le_trans (Int.ediv_le_self _ h0) hx.2
    · have : x / 2 ^ k < 0 := Int.ediv_neg_of_neg_of_pos (by omega) hp0
      omega
  have h2 : -2147483648 ≤ x / 2 ^ k := by
    refine (Int.le_ediv_iff_mul_le hp0).mpr ?_
    have : (1 : Int) ≤ 2 ^ k := by omega
    omega
  exact ⟨h2, h1⟩
/-- 'x << y' -/
theorem oi_shl {x y : Int} (hx : 0 ≤ x) (hy : 0 ≤ y ∧ y < 32) (hb : x * 2 ^ y.toNat ≤ 2147483647) : Int32.ofInt x <<< (Int32.ofInt y &&& 31) = Int32.ofInt (x * 2 ^ y.toNat) := by
  obtain ⟨k, rfl⟩ : ∃ k : Nat, y = (k : Int) := ⟨y.toNat, by omega⟩
  obtain ⟨n, rfl⟩ : ∃ n : Nat, x = (n : Int) := ⟨x.toNat, by omega⟩
  have hk : k < 32 := by omega
  simp only [Int.toNat_natCast] at hb ⊢
  have e1 : ((n * 2 ^ k : Nat) : Int) = (n : Int) * 2 ^ k := by simp
  rw [← oi_nat, ← e1, ← oi_nat]
  exact pk_shlN _ k (oi_shc ⟨k, hk⟩) (by have : ((n * 2 ^ k : Nat) : Int) ≤ 2147483647 := by rw [e1]; exact hb
                                         omega)
theorem oi_tn {n : Nat} (h : n < 4294967296) : (Int32.ofInt (n : Int)).toBitVec.toNat = n := by
  rw [oi_bvN]
  omega
theorem oi_orN (a c : Nat) (ha : a < 4294967296) (hc : c < 4294967296) : Int32.ofInt (a : Int) ||| Int32.ofInt (c : Int) = Int32.ofInt ((a ||| c : Nat) : Int) := by
  apply Int32.toBitVec.inj
  apply BitVec.eq_of_toNat_eq
  show (_ ||| _ : BitVec 32).toNat = _
  have hac : a ||| c < 2 ^ 32 := Nat.or_lt_two_pow (by omega) (by omega)
  rw [BitVec.toNat_or, oi_tn ha, oi_tn hc, oi_tn (by omega)]
theorem oi_xorN (a c : Nat) (ha : a < 4294967296) (hc : c < 4294967296) : Int32.ofInt (a : Int) ^^^ Int32.ofInt (c : Int) = Int32.ofInt ((a ^^^ c : Nat) : Int) := by
  apply Int32.toBitVec.inj
  apply BitVec.eq_of_toNat_eq
  show (_ ^^^ _ : BitVec 32).toNat = _
  have hac : a ^^^ c < 2 ^ 32 := Nat.xor_lt_two_pow (by omega) (by omega)
  rw [BitVec.toNat_xor, oi_tn ha, oi_tn hc, oi_tn (by omega)]
abbrev inL (x : Int) : Prop := -9223372036854775808 ≤ x ∧ x ≤ 9223372036854775807
theorem ol_toInt {x : Int} (h : inL x) : (Int64.ofInt x).toInt = x := Int64.toInt_ofInt_of_le (by omega) (by omega)
theorem ol_i {x : Int} (h : inR x) : (Int32.ofInt x).toInt64 = Int64.ofInt x := by
  have h1 : Int32.minValue.toInt = -2147483648 := by decide
  have h2 : Int32.maxValue.toInt = 2147483647 := by decide
  exact Int32.toInt64_ofInt (by omega) (by omega)
theorem ol_div {x y : Int} (hx : 0 ≤ x ∧ x ≤ 9223372036854775807) (hy : 0 < y ∧ y ≤ 9223372036854775807) : Int64.ofInt x / Int64.ofInt y = Int64.ofInt (x / y) := by
  have h1 : Int64.minValue.toInt = -9223372036854775808 := by decide
  have h2 : Int64.maxValue.toInt = 9223372036854775807 := by decide
  rw [← Int.tdiv_eq_ediv_of_nonneg hx.1]
  exact (Int64.ofInt_tdiv (by omega) (by omega) (by omega) (by omega)).symm
theorem ol_rem {x y : Int} (hx : 0 ≤ x ∧ x ≤ 9223372036854775807) (hy : 0 < y ∧ y ≤ 9223372036854775807) : Int64.ofInt x - Int64.ofInt x / Int64.ofInt y * Int64.ofInt y = Int64.ofInt (x % y) := by
  rw [ol_div hx hy, ← Int64.ofInt_mul, ← Int64.ofInt_sub]
  congr 1
  have := Int.mul_ediv_add_emod x y
  have h3 : x / y * y = y * (x / y) := Int.mul_comm _ _
  omega
theorem ol_ne {y : Int} (hy : 0 < y ∧ y ≤ 9223372036854775807) : ¬ Int64.ofInt y = 0 := by
  intro h
  have := congrArg Int64.toInt h
  rw [ol_toInt (by omega)] at this
  have h0 : (0 : Int64).toInt = 0 := by decide
  omega
theorem ol_lt {x y : Int} (hx : inL x) (hy : inL y) : Int64.ofInt x < Int64.ofInt y ↔ x < y := by
  rw [Int64.lt_iff_toInt_lt, ol_toInt hx, ol_toInt hy]
theorem ol_eq {x y : Int} (hx : inL x) (hy : inL y) : Int64.ofInt x = Int64.ofInt y ↔ x = y := by
  rw [← Int64.toInt_inj, ol_toInt hx, ol_toInt hy]
