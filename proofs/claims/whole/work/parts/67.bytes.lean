/-! the model shifts with the sign, the program without: the byte is the same -/
theorem bv_byte (x : BitVec 64) (n : Nat) (h : n ≤ 56) : x.sshiftRight n &&& 255#64 = x >>> n &&& 255#64 := by
  apply BitVec.eq_of_getLsbD_eq
  intro j hj
  rw [BitVec.getLsbD_and, BitVec.getLsbD_and]
  by_cases h8 : j < 8
  · rw [BitVec.getLsbD_sshiftRight, BitVec.getLsbD_ushiftRight, if_pos (by omega), decide_eq_false (by omega)]
    rfl
  · have e : (255#64).getLsbD j = false := by
      show Nat.testBit 255 j = false
      exact Nat.testBit_lt_two_pow (Nat.lt_of_lt_of_le (show 255 < 2 ^ 8 by decide) (Nat.pow_le_pow_right (by decide) (by omega)))
    rw [e, Bool.and_false, Bool.and_false]
theorem by_eq1 {ch i : Int} {n : Nat} (h : n ≤ 56) (h1 : (((xi_ (8 * i)).toInt64 &&& 63).toBitVec.smod 64#64).toNat = n) (h2 : (((xi_ (8 * i)).toInt64.toUInt64 &&& Int64.toUInt64 63).toBitVec % 64#64).toNat = n) : ((xl_ ch >>> ((xi_ (8 * i)).toInt64 &&& 63)) &&& xl_ 255) = xl_ (by_ ch i) := by
  unfold by_
  rw [xl_of]
  apply Int64.toBitVec_inj.mp
  show (xl_ ch).toBitVec.sshiftRight (((xi_ (8 * i)).toInt64 &&& 63).toBitVec.smod 64#64).toNat &&& 255#64 = (xl_ ch).toBitVec >>> (((xi_ (8 * i)).toInt64.toUInt64 &&& Int64.toUInt64 63).toBitVec % 64#64).toNat &&& 255#64
  rw [h1, h2]
  exact bv_byte _ n h
theorem by_eq {ch i : Int} (hi : 0 ≤ i ∧ i ≤ 7) : ((xl_ ch >>> ((xi_ (8 * i)).toInt64 &&& 63)) &&& xl_ 255) = xl_ (by_ ch i) := by
  have h : i = 0 ∨ i = 1 ∨ i = 2 ∨ i = 3 ∨ i = 4 ∨ i = 5 ∨ i = 6 ∨ i = 7 := by omega
  rcases h with rfl | rfl | rfl | rfl | rfl | rfl | rfl | rfl
  · exact by_eq1 (n := 0) (by decide) (by decide) (by decide)
  · exact by_eq1 (n := 8) (by decide) (by decide) (by decide)
  · exact by_eq1 (n := 16) (by decide) (by decide) (by decide)
  · exact by_eq1 (n := 24) (by decide) (by decide) (by decide)
  · exact by_eq1 (n := 32) (by decide) (by decide) (by decide)
  · exact by_eq1 (n := 40) (by decide) (by decide) (by decide)
  · exact by_eq1 (n := 48) (by decide) (by decide) (by decide)
  · exact by_eq1 (n := 56) (by decide) (by decide) (by decide)
