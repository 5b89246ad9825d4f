/-! bits of ints by whole numbers -/
def U (a : Int) : Nat := (a % 4294967296).toNat
theorem U_lt (a : Int) : U a < 4294967296 := by unfold U; omega
theorem U_nat {a : Nat} (h : a < 4294967296) : U (a : Int) = a := by unfold U; omega
theorem iz_bv (a : Int) : (iz a).toBitVec.toNat = U a := by
  show (BitVec.ofInt 32 a).toNat = U a
  rw [BitVec.toNat_ofInt]
  rfl
theorem iz_of {x : Int32} {n : Nat} (h : x.toBitVec.toNat = n) : x = iz (n : Int) := by
  apply Int32.toBitVec_inj.mp
  apply BitVec.eq_of_toNat_eq
  rw [h, iz_bv, U_nat]
  rw [← h]
  exact x.toBitVec.isLt
theorem iz_and (a b : Int) : iz a &&& iz b = iz ((U a &&& U b : Nat) : Int) := iz_of (by rw [Int32.toBitVec_and, BitVec.toNat_and, iz_bv, iz_bv])
theorem iz_or (a b : Int) : iz a ||| iz b = iz ((U a ||| U b : Nat) : Int) := iz_of (by rw [Int32.toBitVec_or, BitVec.toNat_or, iz_bv, iz_bv])
theorem iz_xor (a b : Int) : iz a ^^^ iz b = iz ((U a ^^^ U b : Nat) : Int) := iz_of (by rw [Int32.toBitVec_xor, BitVec.toNat_xor, iz_bv, iz_bv])
theorem iz_s31 : ∀ b : Nat, b < 32 → ((iz (b : Int) &&& 31).toBitVec.smod 32).toNat = b := by decide
theorem iz_shl {a : Int} {b : Nat} (hb : b < 32) : iz a <<< (iz (b : Int) &&& 31) = iz (a * 2 ^ b) := by
  have h := pk_shl (iz a) (iz (b : Int) &&& 31) b (iz_s31 b hb)
  rw [iz_bv] at h
  apply Int32.toBitVec_inj.mp
  apply BitVec.eq_of_toNat_eq
  rw [h, iz_bv]
  unfold U
  apply Int.ofNat.inj
  show ((((a % 4294967296).toNat * 2 ^ b % 2 ^ 32 : Nat)) : Int) = (((a * 2 ^ b % 4294967296).toNat : Nat) : Int)
  rw [Int.natCast_emod, Int.natCast_mul, Int.toNat_of_nonneg (Int.emod_nonneg _ (by decide)), Int.toNat_of_nonneg (Int.emod_nonneg _ (by decide))]
  rw [show (((2 ^ 32 : Nat)) : Int) = 4294967296 from rfl, show (((2 ^ b : Nat)) : Int) = 2 ^ b by simp]
  rw [Int.mul_emod, Int.emod_emod, ← Int.mul_emod]
theorem iz_and3 (a : Int) : iz a &&& iz 3 = iz (a % 4) := by
  rw [iz_and]
  congr 1
  have e : U a &&& U 3 = U a % 4 := by
    show U a &&& (2 ^ 2 - 1) = _
    rw [Nat.and_two_pow_sub_one_eq_mod]
  rw [e]
  unfold U
  omega
/-- the bits of one below those of the other -/
theorem iz_orS {a b : Nat} {k : Nat} (ha : a < 2 ^ k) (hk : a + b * 2 ^ k < 4294967296) : iz (a : Int) ||| iz ((b : Int) * 2 ^ k) = iz ((a : Int) + (b : Int) * 2 ^ k) := by
  have e : (b : Int) * 2 ^ k = ((b * 2 ^ k : Nat) : Int) := by simp
  rw [e, iz_or, U_nat (by omega), U_nat (by omega)]
  have h := Nat.two_pow_add_eq_or_of_lt ha b
  rw [Nat.or_comm, Nat.mul_comm b, ← h]
  congr 1
  rw [Nat.mul_comm]
  omega

