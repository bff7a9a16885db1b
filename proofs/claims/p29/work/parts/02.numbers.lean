/-! numbers: an int is a Nat code n, read as nI n; a long a Nat code n, read as lN n -/
theorem q_bI (a : Nat) : (nI a).toBitVec = BitVec.ofNat 32 a := rfl
theorem q_bL (a : Nat) : (lN a).toBitVec = BitVec.ofNat 64 a := rfl
theorem q_nmod (a : Nat) : nI (a % 4294967296) = nI a := by
  apply Int32.toBitVec_inj.mp
  rw [q_bI, q_bI]
  apply BitVec.eq_of_toNat_eq
  simp
theorem q_lmod (a : Nat) : lN (a % 18446744073709551616) = lN a := by
  apply Int64.toBitVec_inj.mp
  rw [q_bL, q_bL]
  apply BitVec.eq_of_toNat_eq
  simp
theorem q_nI_eq {a b : Nat} : nI a = nI b ↔ a % 4294967296 = b % 4294967296 := by
  constructor
  · intro h
    have h1 := congrArg (fun x => x.toBitVec.toNat) h
    simpa [q_bI] using h1
  · intro h
    rw [← q_nmod a, ← q_nmod b, h]
/-- the signed order, moved up by half: a Nat order -/
def q_bi (a : Nat) : Nat := (a + 2147483648) % 4294967296
def q_bl (a : Nat) : Nat := (a + 9223372036854775808) % 18446744073709551616
theorem q_toInt (a : Nat) : (nI a).toInt = (q_bi a : Int) - 2147483648 := by
  show (nI a).toBitVec.toInt = _
  rw [q_bI, BitVec.toInt_eq_toNat_cond, BitVec.toNat_ofNat]
  unfold q_bi
  split <;> omega
theorem q_toIntL (a : Nat) : (lN a).toInt = (q_bl a : Int) - 9223372036854775808 := by
  show (lN a).toBitVec.toInt = _
  rw [q_bL, BitVec.toInt_eq_toNat_cond, BitVec.toNat_ofNat]
  unfold q_bl
  split <;> omega
theorem q_lt {a b : Nat} : nI a < nI b ↔ q_bi a < q_bi b := by
  rw [Int32.lt_iff_toInt_lt, q_toInt, q_toInt]; omega
theorem q_le {a b : Nat} : nI a ≤ nI b ↔ q_bi a ≤ q_bi b := by
  rw [Int32.le_iff_toInt_le, q_toInt, q_toInt]; omega
theorem q_eq {a b : Nat} : nI a = nI b ↔ q_bi a = q_bi b := by
  rw [← Int32.toInt_inj, q_toInt, q_toInt]; omega
theorem q_ltL {a b : Nat} : lN a < lN b ↔ q_bl a < q_bl b := by
  rw [Int64.lt_iff_toInt_lt, q_toIntL, q_toIntL]; omega
theorem q_eqL {a b : Nat} : lN a = lN b ↔ q_bl a = q_bl b := by
  rw [← Int64.toInt_inj, q_toIntL, q_toIntL]; omega
theorem q_add (a b : Nat) : nI a + nI b = nI ((a + b) % 4294967296) := by rw [q_nmod, nI_add]
theorem q_sub (a b : Nat) : nI a - nI b = nI ((a + (4294967296 - b % 4294967296)) % 4294967296) := by
  rw [q_nmod]
  apply Int32.toBitVec_inj.mp
  rw [Int32.toBitVec_sub, q_bI, q_bI, q_bI]
  apply BitVec.eq_of_toNat_eq
  simp only [BitVec.toNat_sub, BitVec.toNat_ofNat]
  omega
theorem q_mul (a b : Nat) : nI a * nI b = nI ((a * b) % 4294967296) := by rw [q_nmod]; exact (Int32.ofNat_mul a b).symm
theorem q_and (a b : Nat) : nI a &&& nI b = nI (a &&& b) := by
  apply Int32.toBitVec_inj.mp
  rw [Int32.toBitVec_and, q_bI, q_bI, q_bI]
  apply BitVec.eq_of_toNat_eq
  simp only [BitVec.toNat_and, BitVec.toNat_ofNat]
  rw [Nat.and_mod_two_pow]
theorem q_or (a b : Nat) : nI a ||| nI b = nI (a ||| b) := by
  apply Int32.toBitVec_inj.mp
  rw [Int32.toBitVec_or, q_bI, q_bI, q_bI]
  apply BitVec.eq_of_toNat_eq
  simp only [BitVec.toNat_or, BitVec.toNat_ofNat]
  rw [Nat.or_mod_two_pow]
theorem q_andL (a b : Nat) : lN a &&& lN b = lN (a &&& b) := by
  apply Int64.toBitVec_inj.mp
  rw [Int64.toBitVec_and, q_bL, q_bL, q_bL]
  apply BitVec.eq_of_toNat_eq
  simp only [BitVec.toNat_and, BitVec.toNat_ofNat]
  rw [Nat.and_mod_two_pow]
theorem q_orL (a b : Nat) : lN a ||| lN b = lN (a ||| b) := by
  apply Int64.toBitVec_inj.mp
  rw [Int64.toBitVec_or, q_bL, q_bL, q_bL]
  apply BitVec.eq_of_toNat_eq
  simp only [BitVec.toNat_or, BitVec.toNat_ofNat]
  rw [Nat.or_mod_two_pow]
theorem q_xorL (a b : Nat) : lN a ^^^ lN b = lN (a ^^^ b) := by
  apply Int64.toBitVec_inj.mp
  rw [Int64.toBitVec_xor, q_bL, q_bL, q_bL]
  apply BitVec.eq_of_toNat_eq
  simp only [BitVec.toNat_xor, BitVec.toNat_ofNat]
  rw [Nat.xor_mod_two_pow]
theorem q_i2l (a : Nat) : (nI a).toInt64 = lN ((q_bi a + 18446744071562067968) % 18446744073709551616) := by
  rw [q_lmod]
  apply Int64.toInt_inj.mp
  rw [Int32.toInt_toInt64, q_toInt, q_toIntL]
  unfold q_bl q_bi
  omega
theorem q_l2i (a : Nat) : (lN a).toInt32 = nI (a % 4294967296) := by rw [q_nmod]; exact lN_i a
theorem q_i2c (a : Nat) : ((nI a).toUInt32 % 65536).toInt32 = nI (a % 65536) := by
  apply Int32.toBitVec_inj.mp
  rw [q_bI]
  show ((nI a).toUInt32 % 65536).toBitVec = _
  rw [UInt32.toBitVec_mod]
  show (nI a).toBitVec % _ = _
  rw [q_bI]
  apply BitVec.eq_of_toNat_eq
  simp only [BitVec.toNat_umod, BitVec.toNat_ofNat]
  show a % 4294967296 % 65536 = _
  omega
theorem q_div {a b : Nat} (ha : a < 2147483648) (hb : b < 2147483648) : nI a / nI b = nI (a / b) := by
  apply Int32.toInt_inj.mp
  rw [Int32.toInt_div, nI_toInt ha, nI_toInt hb, nI_toInt (Nat.lt_of_le_of_lt (Nat.div_le_self a b) ha)]
  rw [show ((a : Int).tdiv (b : Int)) = ((a / b : Nat) : Int) from rfl]
  apply Int.bmod_eq_of_le
  · have : (0 : Int) ≤ ((a / b : Nat) : Int) := Int.natCast_nonneg _
    omega
  · have := Nat.lt_of_le_of_lt (Nat.div_le_self a b) ha
    omega
theorem q_rem {a b : Nat} (ha : a < 2147483648) (hb : b < 2147483648) : nI a - nI a / nI b * nI b = nI (a % b) := by
  rw [q_div ha hb, q_mul, q_nmod, q_sub, q_nmod]
  apply q_nI_eq.mpr
  have h := Nat.div_add_mod a b
  have h2 : a / b * b ≤ a := Nat.div_mul_le_self a b
  have h3 : a / b * b + a % b = a := by rw [Nat.mul_comm]; exact h
  generalize a / b * b = z at h2 h3
  generalize a % b = w at h3
  omega
