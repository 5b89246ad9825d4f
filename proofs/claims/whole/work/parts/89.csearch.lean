/-! longs as bits -/
def U6 (a : Int) : Nat := (a % 18446744073709551616).toNat
theorem U6_nat {a : Nat} (h : a < 18446744073709551616) : U6 (a : Int) = a := by unfold U6; omega
theorem lz_bv (a : Int) : (lz a).toBitVec.toNat = U6 a := by
  show (BitVec.ofInt 64 a).toNat = U6 a
  rw [BitVec.toNat_ofInt]
  rfl
theorem lz_of {x : Int64} {n : Nat} (h : x.toBitVec.toNat = n) : x = lz (n : Int) := by
  apply Int64.toBitVec_inj.mp
  apply BitVec.eq_of_toNat_eq
  rw [h, lz_bv, U6_nat]
  rw [← h]
  exact x.toBitVec.isLt
theorem lz_or (a b : Int) : lz a ||| lz b = lz ((U6 a ||| U6 b : Nat) : Int) := lz_of (by rw [Int64.toBitVec_or, BitVec.toNat_or, lz_bv, lz_bv])
theorem lz_and (a b : Int) : lz a &&& lz b = lz ((U6 a &&& U6 b : Nat) : Int) := lz_of (by rw [Int64.toBitVec_and, BitVec.toNat_and, lz_bv, lz_bv])
theorem lz_shlN {a b : Nat} (hb : b < 64) (h : a * 2 ^ b < 18446744073709551616) (ha : a < 18446744073709551616) : lz (a : Int) <<< ((iz (b : Int)).toInt64 &&& 63) = lz ((a * 2 ^ b : Nat) : Int) := by
  apply lz_of
  show ((lz (a : Int)).toBitVec <<< (((iz (b : Int)).toInt64 &&& 63).toBitVec.smod 64)).toNat = _
  rw [BitVec.shiftLeft_eq', BitVec.toNat_shiftLeft, lz_s63 b hb, lz_bv, U6_nat ha, Nat.shiftLeft_eq, Nat.mod_eq_of_lt h]
theorem lz_orS {a b : Nat} {k : Nat} (ha : a < 2 ^ k) (hk : a + b * 2 ^ k < 18446744073709551616) : lz ((b * 2 ^ k : Nat) : Int) ||| lz (a : Int) = lz ((b * 2 ^ k + a : Nat) : Int) := by
  rw [lz_or, U6_nat (by omega), U6_nat (by omega)]
  have h := Nat.two_pow_add_eq_or_of_lt ha b
  rw [Nat.mul_comm b, ← h]
theorem lz_and24 {a : Nat} (h : a < 18446744073709551616) : lz (a : Int) &&& lz 16777215 = lz ((a % 16777216 : Nat) : Int) := by
  rw [lz_and, U6_nat h]
  congr 1
  have e : U6 16777215 = 2 ^ 24 - 1 := by decide
  rw [e, Nat.and_two_pow_sub_one_eq_mod]
/-- a way one stretch longer, as the class has it -/
theorem ext_bits {W t p : Nat} (hW : W < 1099511627776) (hd : W % 16777216 < 1048576) (ht : t ≤ 1980) (hp : 1 ≤ p ∧ p ≤ 9) :
    lz (W : Int) >>> ((iz 24).toInt64 &&& 63) = lz ((W / 16777216 : Nat) : Int) ∧ lz (W : Int) <<< ((iz 4).toInt64 &&& 63) = lz ((W * 16 : Nat) : Int) ∧ lz ((W * 16 : Nat) : Int) &&& lz 16777215 = lz ((W % 16777216 * 16 : Nat) : Int) ∧ lz ((W % 16777216 * 16 : Nat) : Int) ||| lz (p : Int) = lz ((W % 16777216 * 16 + p : Nat) : Int) ∧ lz ((W / 16777216 + t : Nat) : Int) <<< ((iz 24).toInt64 &&& 63) = lz (((W / 16777216 + t) * 16777216 : Nat) : Int) ∧ lz (((W / 16777216 + t) * 16777216 : Nat) : Int) ||| lz ((W % 16777216 * 16 + p : Nat) : Int) = lz (ext (t : Int) (p : Int) (W : Int)) := by
  have h4 := lz_shlN (a := W) (b := 4) (by omega) (by omega) (by omega)
  have h24 := lz_shlN (a := W / 16777216 + t) (b := 24) (by omega) (by omega) (by omega)
  have o1 := lz_orS (a := p) (b := W % 16777216) (k := 4) (by omega) (by omega)
  have o2 := lz_orS (a := W % 16777216 * 16 + p) (b := W / 16777216 + t) (k := 24) (by omega) (by omega)
  refine ⟨?_, h4, ?_, o1, h24, ?_⟩
  · have := lz_shr (a := (W : Int)) (b := 24) (by unfold rl; omega) (by omega)
    rw [show ((24 : Nat) : Int) = 24 from rfl] at this
    rw [this]
    congr 1
  · rw [lz_and24 (by omega)]
    congr 2
    omega
  · have e : ext (t : Int) (p : Int) (W : Int) = (((W / 16777216 + t) * 2 ^ 24 + (W % 16777216 * 16 + p) : Nat) : Int) := by unfold ext; omega
    rw [e]
    exact o2

