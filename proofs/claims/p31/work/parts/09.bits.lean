/-! shifts and masks of iZ, lZ -/
theorem sh_c64 : ∀ s : Nat, s < 64 → ((iZ s).toInt64 &&& 63).toBitVec.smod 64 = BitVec.ofNat 64 s := by decide +kernel
theorem sh_c32 : ∀ s : Nat, s < 32 → (iZ s &&& 31).toBitVec.smod 32 = BitVec.ofNat 32 s := by decide +kernel
theorem lZ_bv (a : Int) : (lZ a).toBitVec = BitVec.ofInt 64 a := rfl
theorem iZ_bv (a : Int) : (iZ a).toBitVec = BitVec.ofInt 32 a := rfl
theorem lZ_shl (a : Int) {s : Nat} (hs : s < 64) : lZ a <<< ((iZ s).toInt64 &&& 63) = lZ (a * 2 ^ s) := by
  apply Int64.toBitVec_inj.mp
  rw [Int64.toBitVec_shiftLeft, sh_c64 s hs, lZ_bv, lZ_bv, BitVec.shiftLeft_eq', BitVec.toNat_ofNat, Nat.mod_eq_of_lt (by omega), BitVec.shiftLeft_eq_mul_twoPow, BitVec.ofInt_mul]
  congr 1
  apply BitVec.eq_of_toNat_eq
  rw [BitVec.toNat_twoPow, BitVec.toNat_ofInt]
  have e : (2 : Int) ^ s = ((2 ^ s : Nat) : Int) := by push_cast; rfl
  rw [e]
  omega
theorem iZ_shl (a : Int) {s : Nat} (hs : s < 32) : iZ a <<< (iZ s &&& 31) = iZ (a * 2 ^ s) := by
  apply Int32.toBitVec_inj.mp
  rw [Int32.toBitVec_shiftLeft, sh_c32 s hs, iZ_bv, iZ_bv, BitVec.shiftLeft_eq', BitVec.toNat_ofNat, Nat.mod_eq_of_lt (by omega), BitVec.shiftLeft_eq_mul_twoPow, BitVec.ofInt_mul]
  congr 1
  apply BitVec.eq_of_toNat_eq
  rw [BitVec.toNat_twoPow, BitVec.toNat_ofInt]
  have e : (2 : Int) ^ s = ((2 ^ s : Nat) : Int) := by push_cast; rfl
  rw [e]
  omega
theorem lZ_shr {a : Int} (ha : -9223372036854775808 ≤ a ∧ a < 9223372036854775808) {s : Nat} (hs : s < 64) : lZ a >>> ((iZ s).toInt64 &&& 63) = lZ (a / 2 ^ s) := by
  have h0 : (lZ a).toBitVec.toInt = a := lZ_toInt ha
  apply Int64.toBitVec_inj.mp
  rw [Int64.toBitVec_shiftRight, sh_c64 s hs, BitVec.sshiftRight_eq', BitVec.toNat_ofNat, Nat.mod_eq_of_lt (by omega)]
  apply BitVec.eq_of_toInt_eq
  have h1 : a / 2 ^ s ≤ a ∨ a < 0 := by
    by_cases h : 0 ≤ a
    · exact Or.inl (Int.ediv_le_self _ h)
    · exact Or.inr (by omega)
  have hp : (0 : Int) < 2 ^ s := Int.pow_pos (by decide)
  have h2 : -9223372036854775808 ≤ a / 2 ^ s ∧ a / 2 ^ s < 9223372036854775808 := by
    by_cases h : 0 ≤ a
    · have := Int.ediv_nonneg h (Int.le_of_lt hp)
      have := Int.ediv_le_self (2 ^ s) h
      omega
    · have := Int.ediv_neg_of_neg_of_pos (show a < 0 by omega) hp
      have h3 : a ≤ a / 2 ^ s := by
        rw [Int.le_ediv_iff_mul_le hp]
        have : a * 2 ^ s ≤ a * 1 := Int.mul_le_mul_of_nonpos_left (by omega) (by omega)
        omega
      omega
  rw [BitVec.toInt_sshiftRight, h0, Int.shiftRight_eq_div_pow]
  exact (lZ_toInt h2).symm
theorem iZ_shr {a : Int} (ha : -2147483648 ≤ a ∧ a < 2147483648) {s : Nat} (hs : s < 32) : iZ a >>> (iZ s &&& 31) = iZ (a / 2 ^ s) := by
  have h0 : (iZ a).toBitVec.toInt = a := iZ_toInt ha
  apply Int32.toBitVec_inj.mp
  rw [Int32.toBitVec_shiftRight, sh_c32 s hs, BitVec.sshiftRight_eq', BitVec.toNat_ofNat, Nat.mod_eq_of_lt (by omega)]
  apply BitVec.eq_of_toInt_eq
  have hp : (0 : Int) < 2 ^ s := Int.pow_pos (by decide)
  have h2 : -2147483648 ≤ a / 2 ^ s ∧ a / 2 ^ s < 2147483648 := by
    by_cases h : 0 ≤ a
    · have := Int.ediv_nonneg h (Int.le_of_lt hp)
      have := Int.ediv_le_self (2 ^ s) h
      omega
    · have := Int.ediv_neg_of_neg_of_pos (show a < 0 by omega) hp
      have h3 : a ≤ a / 2 ^ s := by
        rw [Int.le_ediv_iff_mul_le hp]
        have : a * 2 ^ s ≤ a * 1 := Int.mul_le_mul_of_nonpos_left (by omega) (by omega)
        omega
      omega
  rw [BitVec.toInt_sshiftRight, h0, Int.shiftRight_eq_div_pow]
  exact (iZ_toInt h2).symm
theorem iZ_and31 (a : Int) : iZ a &&& iZ 31 = iZ (a % 32) := by
  apply Int32.toBitVec_inj.mp
  rw [Int32.toBitVec_and, iZ_bv, iZ_bv, iZ_bv]
  apply BitVec.eq_of_toNat_eq
  rw [BitVec.toNat_and, BitVec.toNat_ofInt, BitVec.toNat_ofInt, BitVec.toNat_ofInt]
  have e : ((31 : Int) % ((2 ^ 32 : Nat) : Int)).toNat = 2 ^ 5 - 1 := by decide
  rw [e, Nat.and_two_pow_sub_one_eq_mod]
  omega
theorem lZ_and255 {a : Int} (ha : 0 ≤ a) : lZ a &&& lZ 255 = lZ (a % 256) := by
  apply Int64.toBitVec_inj.mp
  rw [Int64.toBitVec_and, lZ_bv, lZ_bv, lZ_bv]
  apply BitVec.eq_of_toNat_eq
  rw [BitVec.toNat_and, BitVec.toNat_ofInt, BitVec.toNat_ofInt, BitVec.toNat_ofInt]
  have e : ((255 : Int) % ((2 ^ 64 : Nat) : Int)).toNat = 2 ^ 8 - 1 := by decide
  rw [e, Nat.and_two_pow_sub_one_eq_mod]
  omega
theorem iZ_xor (a b : Nat) : iZ a ^^^ iZ b = iZ ((a ^^^ b : Nat) : Int) := by
  apply Int32.toBitVec_inj.mp
  rw [Int32.toBitVec_xor, iZ_bv, iZ_bv, iZ_bv]
  apply BitVec.eq_of_toNat_eq
  rw [BitVec.toNat_xor, BitVec.toNat_ofInt, BitVec.toNat_ofInt, BitVec.toNat_ofInt]
  norm_cast
  simp only [Int.toNat_natCast]
  rw [Nat.xor_mod_two_pow]
theorem neg_bits : ∀ z : Nat, z < 5 → ∀ i : Nat, i < 64 → (BitVec.ofInt 64 (-(2 ^ (8 * z)))).getLsbD i = decide (8 * z ≤ i) := by decide +kernel
/-- the multiples of 256^z: a number without its lower bits -/
theorem lZ_mult {a : Int} (ha : 0 ≤ a ∧ a < 9223372036854775808) {z : Nat} (hz : z < 5) : lZ a &&& lZ (-(2 ^ (8 * z))) = lZ (a / 2 ^ (8 * z) * 2 ^ (8 * z)) := by
  obtain ⟨n, rfl⟩ : ∃ n : Nat, a = n := ⟨a.toNat, by omega⟩
  apply Int64.toBitVec_inj.mp
  rw [Int64.toBitVec_and, lZ_bv, lZ_bv, lZ_bv]
  have e : ((n : Int) / 2 ^ (8 * z) * 2 ^ (8 * z)) = ((n / 2 ^ (8 * z) * 2 ^ (8 * z) : Nat) : Int) := by norm_cast
  rw [e]
  apply BitVec.eq_of_getLsbD_eq
  intro i hi
  rw [BitVec.getLsbD_and, neg_bits z hz i hi, BitVec.ofInt_natCast, BitVec.ofInt_natCast, BitVec.getLsbD_ofNat, BitVec.getLsbD_ofNat, Nat.mul_comm (n / 2 ^ (8 * z)), Nat.testBit_two_pow_mul, Nat.testBit_div_two_pow]
  by_cases h : 8 * z ≤ i
  · simp [h, hi, show i - 8 * z + 8 * z = i by omega]
  · simp [h]
