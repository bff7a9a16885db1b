theorem q_shl {a b : Nat} (hb : b < 32) : nI a <<< (nI b &&& 31) = nI ((a * 2 ^ b) % 4294967296) := by
  rw [q_nmod]
  have h31 : nI b &&& 31 = nI b := by
    show nI b &&& nI 31 = nI b
    rw [q_and]
    congr 1
    rw [show (31 : Nat) = 2 ^ 5 - 1 from rfl, Nat.and_two_pow_sub_one_eq_mod]
    exact Nat.mod_eq_of_lt hb
  rw [h31]
  apply Int32.toBitVec_inj.mp
  rw [Int32.toBitVec_shiftLeft, q_bI, q_bI, q_bI]
  have hs : ((BitVec.ofNat 32 b).smod 32#32) = BitVec.ofNat 32 b := by
    have : b = 0 ∨ b = 1 ∨ b = 2 ∨ b = 3 ∨ b = 4 ∨ b = 5 ∨ b = 6 ∨ b = 7 ∨ b = 8 ∨ b = 9 ∨ b = 10 ∨ b = 11 ∨ b = 12 ∨ b = 13 ∨ b = 14 ∨ b = 15 ∨ b = 16 ∨ b = 17 ∨ b = 18 ∨ b = 19 ∨ b = 20 ∨ b = 21 ∨ b = 22 ∨ b = 23 ∨ b = 24 ∨ b = 25 ∨ b = 26 ∨ b = 27 ∨ b = 28 ∨ b = 29 ∨ b = 30 ∨ b = 31 := by omega
    rcases this with rfl | rfl | rfl | rfl | rfl | rfl | rfl | rfl | rfl | rfl | rfl | rfl | rfl | rfl | rfl | rfl | rfl | rfl | rfl | rfl | rfl | rfl | rfl | rfl | rfl | rfl | rfl | rfl | rfl | rfl | rfl | rfl <;> decide +kernel
  rw [show ((32#32 : BitVec 32)) = 32 from rfl] at hs
  rw [hs]
  apply BitVec.eq_of_toNat_eq
  rw [BitVec.shiftLeft_eq', BitVec.toNat_shiftLeft, BitVec.toNat_ofNat, BitVec.toNat_ofNat, BitVec.toNat_ofNat, Nat.shiftLeft_eq]
  rw [Nat.mod_eq_of_lt (show b < 2 ^ 32 by omega)]
  rw [Nat.mod_mul_mod]
theorem q_shr {a b : Nat} (ha : a < 2147483648) (hb : b < 32) : nI a >>> (nI b &&& 31) = nI (a / 2 ^ b) := by
  have h31 : nI b &&& 31 = nI b := by
    show nI b &&& nI 31 = nI b
    rw [q_and]
    congr 1
    rw [show (31 : Nat) = 2 ^ 5 - 1 from rfl, Nat.and_two_pow_sub_one_eq_mod]
    exact Nat.mod_eq_of_lt hb
  rw [h31]
  apply Int32.toBitVec_inj.mp
  rw [Int32.toBitVec_shiftRight, q_bI, q_bI, q_bI]
  have hs : ((BitVec.ofNat 32 b).smod 32#32) = BitVec.ofNat 32 b := by
    have : b = 0 ∨ b = 1 ∨ b = 2 ∨ b = 3 ∨ b = 4 ∨ b = 5 ∨ b = 6 ∨ b = 7 ∨ b = 8 ∨ b = 9 ∨ b = 10 ∨ b = 11 ∨ b = 12 ∨ b = 13 ∨ b = 14 ∨ b = 15 ∨ b = 16 ∨ b = 17 ∨ b = 18 ∨ b = 19 ∨ b = 20 ∨ b = 21 ∨ b = 22 ∨ b = 23 ∨ b = 24 ∨ b = 25 ∨ b = 26 ∨ b = 27 ∨ b = 28 ∨ b = 29 ∨ b = 30 ∨ b = 31 := by omega
    rcases this with rfl | rfl | rfl | rfl | rfl | rfl | rfl | rfl | rfl | rfl | rfl | rfl | rfl | rfl | rfl | rfl | rfl | rfl | rfl | rfl | rfl | rfl | rfl | rfl | rfl | rfl | rfl | rfl | rfl | rfl | rfl | rfl <;> decide +kernel
  rw [show ((32#32 : BitVec 32)) = 32 from rfl] at hs
  rw [hs]
  apply BitVec.eq_of_toNat_eq
  have hm : (BitVec.ofNat 32 a).msb = false := by
    rw [BitVec.msb_eq_decide]
    simp only [BitVec.toNat_ofNat]
    rw [Nat.mod_eq_of_lt (show a < 2 ^ 32 by omega)]
    simp
    omega
  rw [BitVec.sshiftRight_eq', BitVec.sshiftRight_eq_of_msb_false hm, BitVec.toNat_ushiftRight, BitVec.toNat_ofNat, BitVec.toNat_ofNat, BitVec.toNat_ofNat, Nat.shiftRight_eq_div_pow]
  rw [Nat.mod_eq_of_lt (show b < 2 ^ 32 by omega), Nat.mod_eq_of_lt (show a < 2 ^ 32 by omega)]
  exact (Nat.mod_eq_of_lt (Nat.lt_of_le_of_lt (Nat.div_le_self _ _) (by omega))).symm
theorem q_ushrL {a b : Nat} (hb : b < 64) : ((lN a).toUInt64 >>> ((nI b).toInt64.toUInt64 &&& Int64.toUInt64 63)).toInt64 = lN ((a % 18446744073709551616) / 2 ^ b) := by
  rw [nI_l (show b < 2 ^ 31 by omega)]
  have h63 : (lN b).toUInt64 &&& Int64.toUInt64 63 = (lN b).toUInt64 := by
    show (lN b).toUInt64 &&& (lN 63).toUInt64 = _
    have h := q_andL b 63
    have h2 : b &&& 63 = b := by
      rw [show (63 : Nat) = 2 ^ 6 - 1 from rfl, Nat.and_two_pow_sub_one_eq_mod]
      exact Nat.mod_eq_of_lt hb
    rw [h2] at h
    exact congrArg Int64.toUInt64 h
  rw [h63]
  apply Int64.toBitVec_inj.mp
  show ((lN a).toUInt64 >>> (lN b).toUInt64).toBitVec = _
  rw [UInt64.toBitVec_shiftRight]
  show (lN a).toBitVec >>> ((lN b).toBitVec % 64) = _
  rw [q_bL, q_bL, q_bL]
  apply BitVec.eq_of_toNat_eq
  have h64 : ((BitVec.ofNat 64 b) % 64).toNat = b := by
    rw [BitVec.toNat_umod, BitVec.toNat_ofNat]
    show b % 2 ^ 64 % 64 = b
    omega
  rw [BitVec.ushiftRight_eq', BitVec.toNat_ushiftRight, h64, BitVec.toNat_ofNat, BitVec.toNat_ofNat, Nat.shiftRight_eq_div_pow]
  symm
  apply Nat.mod_eq_of_lt
  exact Nat.lt_of_le_of_lt (Nat.div_le_self _ _) (Nat.mod_lt _ (by decide))
/-- the i-th word of a row of words of 64 bits -/
def q_rd (d i : Nat) : Nat := (d >>> (64 * i)) % 18446744073709551616
def q_wr (d i v : Nat) : Nat := d ^^^ ((q_rd d i ^^^ v) <<< (64 * i))
theorem q_rd_bit (d i b : Nat) : (q_rd d i).testBit b = (decide (b < 64) && d.testBit (64 * i + b)) := by
  unfold q_rd
  rw [show (18446744073709551616 : Nat) = 2 ^ 64 from rfl, Nat.testBit_mod_two_pow, Nat.testBit_shiftRight]
theorem q_rd_wr {d i j v : Nat} (hv : v < 18446744073709551616) : q_rd (q_wr d i v) j = if j = i then v else q_rd d j := by
  apply Nat.eq_of_testBit_eq
  intro b
  rw [q_rd_bit]
  unfold q_wr
  rw [Nat.testBit_xor, Nat.testBit_shiftLeft, Nat.testBit_xor, q_rd_bit]
  by_cases hb : b < 64
  · by_cases h : j = i
    · subst h
      rw [if_pos rfl]
      have h1 : 64 * j + b - 64 * j = b := by omega
      have h2 : 64 * j + b ≥ 64 * j := by omega
      simp [hb, h1, h2]
    · rw [if_neg h, q_rd_bit]
      by_cases h2 : 64 * j + b ≥ 64 * i
      · have h3 : ¬ (64 * j + b - 64 * i < 64) := by omega
        have h4 : v.testBit (64 * j + b - 64 * i) = false := Nat.testBit_lt_two_pow (Nat.lt_of_lt_of_le hv (Nat.le_trans (show 18446744073709551616 ≤ 2 ^ 64 by decide) (Nat.pow_le_pow_right (by decide) (by omega))))
        simp [hb, h3, h4]
      · simp [hb, h2]
  · have h4 : ∀ w, w < 18446744073709551616 → w.testBit b = false := fun w hw => Nat.testBit_lt_two_pow (Nat.lt_of_lt_of_le hw (Nat.le_trans (show 18446744073709551616 ≤ 2 ^ 64 by decide) (Nat.pow_le_pow_right (by decide) (by omega))))
    split
    · simp [hb, h4 v hv]
    · rw [q_rd_bit]
      simp [hb]
theorem q_rd_zero (i : Nat) : q_rd 0 i = 0 := by simp [q_rd]
