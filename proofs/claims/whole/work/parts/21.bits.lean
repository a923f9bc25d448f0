/-! the machine's words and natural numbers -/
theorem bt_i32 (b : BitVec 32) (h : b.toNat < 2147483648) : (Int32.ofBitVec b).toInt = (b.toNat : Int) := by
  show b.toInt = _
  rw [BitVec.toInt_eq_toNat_cond, if_pos (by omega)]
theorem bt_i64 (b : BitVec 64) (h : b.toNat < 9223372036854775808) : (Int64.ofBitVec b).toInt = (b.toNat : Int) := by
  show b.toInt = _
  rw [BitVec.toInt_eq_toNat_cond, if_pos (by omega)]
theorem bt_of32 (n : Nat) : Int32.ofInt (n : Int) = Int32.ofBitVec (BitVec.ofNat 32 n) := by
  apply Int32.toBitVec_inj.mp
  simp
theorem bt_of64 (n : Nat) : Int64.ofInt (n : Int) = Int64.ofBitVec (BitVec.ofNat 64 n) := by
  apply Int64.toBitVec_inj.mp
  simp
theorem bv_andN {m n : Nat} (hm : m < 2147483648) (hn : n < 2147483648) : bv_and m n = ((m &&& n : Nat) : Int) := by
  have hlt : m &&& n < 2147483648 := Nat.lt_of_le_of_lt Nat.and_le_left hm
  unfold bv_and
  rw [bt_of32, bt_of32, show Int32.ofBitVec (BitVec.ofNat 32 m) &&& Int32.ofBitVec (BitVec.ofNat 32 n) = Int32.ofBitVec (BitVec.ofNat 32 m &&& BitVec.ofNat 32 n) from rfl]
  have e : (BitVec.ofNat 32 m &&& BitVec.ofNat 32 n).toNat = m &&& n := by
    rw [BitVec.toNat_and, BitVec.toNat_ofNat, BitVec.toNat_ofNat, Nat.mod_eq_of_lt (by omega), Nat.mod_eq_of_lt (by omega)]
  rw [bt_i32 _ (by rw [e]; exact hlt), e]
theorem bt_or_lt {m n k : Nat} (hm : m < 2 ^ k) (hn : n < 2 ^ k) : m ||| n < 2 ^ k := Nat.or_lt_two_pow hm hn
theorem bv_orN {m n : Nat} (hm : m < 2147483648) (hn : n < 2147483648) : bv_or m n = ((m ||| n : Nat) : Int) := by
  have hlt : m ||| n < 2147483648 := bt_or_lt (k := 31) hm hn
  unfold bv_or
  rw [bt_of32, bt_of32, show Int32.ofBitVec (BitVec.ofNat 32 m) ||| Int32.ofBitVec (BitVec.ofNat 32 n) = Int32.ofBitVec (BitVec.ofNat 32 m ||| BitVec.ofNat 32 n) from rfl]
  have e : (BitVec.ofNat 32 m ||| BitVec.ofNat 32 n).toNat = m ||| n := by
    rw [BitVec.toNat_or, BitVec.toNat_ofNat, BitVec.toNat_ofNat, Nat.mod_eq_of_lt (by omega), Nat.mod_eq_of_lt (by omega)]
  rw [bt_i32 _ (by rw [e]; exact hlt), e]
theorem bw_andN {m n : Nat} (hm : m < 9223372036854775808) (hn : n < 9223372036854775808) : bw_and m n = ((m &&& n : Nat) : Int) := by
  have hlt : m &&& n < 9223372036854775808 := Nat.lt_of_le_of_lt Nat.and_le_left hm
  unfold bw_and
  rw [bt_of64, bt_of64, show Int64.ofBitVec (BitVec.ofNat 64 m) &&& Int64.ofBitVec (BitVec.ofNat 64 n) = Int64.ofBitVec (BitVec.ofNat 64 m &&& BitVec.ofNat 64 n) from rfl]
  have e : (BitVec.ofNat 64 m &&& BitVec.ofNat 64 n).toNat = m &&& n := by
    rw [BitVec.toNat_and, BitVec.toNat_ofNat, BitVec.toNat_ofNat, Nat.mod_eq_of_lt (by omega), Nat.mod_eq_of_lt (by omega)]
  rw [bt_i64 _ (by rw [e]; exact hlt), e]
theorem bw_orN {m n : Nat} (hm : m < 9223372036854775808) (hn : n < 9223372036854775808) : bw_or m n = ((m ||| n : Nat) : Int) := by
  have hlt : m ||| n < 9223372036854775808 := bt_or_lt (k := 63) hm hn
  unfold bw_or
  rw [bt_of64, bt_of64, show Int64.ofBitVec (BitVec.ofNat 64 m) ||| Int64.ofBitVec (BitVec.ofNat 64 n) = Int64.ofBitVec (BitVec.ofNat 64 m ||| BitVec.ofNat 64 n) from rfl]
  have e : (BitVec.ofNat 64 m ||| BitVec.ofNat 64 n).toNat = m ||| n := by
    rw [BitVec.toNat_or, BitVec.toNat_ofNat, BitVec.toNat_ofNat, Nat.mod_eq_of_lt (by omega), Nat.mod_eq_of_lt (by omega)]
  rw [bt_i64 _ (by rw [e]; exact hlt), e]
/-- a shift's amount -/
theorem bt_amt {k : Nat} (h : k < 32) : (Int32.ofInt (k : Int) &&& 31) = Int32.ofBitVec (BitVec.ofNat 32 k) := by
  rw [bt_of32]
  revert h; revert k; decide +kernel
theorem bt_amt64 {k : Nat} (h : k < 64) : ((Int32.ofInt (k : Int)).toInt64 &&& 63) = Int64.ofBitVec (BitVec.ofNat 64 k) := by
  rw [bt_of32]
  revert h; revert k; decide +kernel
theorem bt_smod32 : ∀ k : Nat, k < 32 → BitVec.smod (BitVec.ofNat 32 k) 32 = BitVec.ofNat 32 k := by decide +kernel
theorem bt_smod64 : ∀ k : Nat, k < 64 → BitVec.smod (BitVec.ofNat 64 k) 64 = BitVec.ofNat 64 k := by decide +kernel
theorem bv_shlN {m k : Nat} (hk : k < 32) (h : m * 2 ^ k < 2147483648) : bv_shl m k = ((m * 2 ^ k : Nat) : Int) := by
  have hm : m < 2147483648 := Nat.lt_of_le_of_lt (Nat.le_mul_of_pos_right m (Nat.two_pow_pos k)) h
  unfold bv_shl
  rw [bt_amt hk, bt_of32]
  have e2 : Int32.ofBitVec (BitVec.ofNat 32 m) <<< Int32.ofBitVec (BitVec.ofNat 32 k) = Int32.ofBitVec (BitVec.ofNat 32 m <<< k) := by
    apply Int32.toBitVec_inj.mp
    rw [Int32.toBitVec_shiftLeft]
    show BitVec.ofNat 32 m <<< (BitVec.smod (BitVec.ofNat 32 k) 32) = _
    rw [bt_smod32 k hk]
    show BitVec.ofNat 32 m <<< (BitVec.ofNat 32 k).toNat = _
    rw [BitVec.toNat_ofNat, Nat.mod_eq_of_lt (by omega)]
    rfl
  rw [e2]
  have e : (BitVec.ofNat 32 m <<< k).toNat = m * 2 ^ k := by
    rw [BitVec.toNat_shiftLeft, BitVec.toNat_ofNat, Nat.shiftLeft_eq, show m % 2 ^ 32 = m from Nat.mod_eq_of_lt (by omega)]
    exact Nat.mod_eq_of_lt (by omega)
  rw [bt_i32 _ (by rw [e]; exact h), e]
theorem bt_ofInt32 (b : BitVec 32) : Int32.ofBitVec b = Int32.ofInt b.toInt := by
  apply Int32.toBitVec_inj.mp
  simp
theorem bw_shlN {m k : Nat} (hk : k < 64) (h : m * 2 ^ k < 9223372036854775808) : bw_shl m k = ((m * 2 ^ k : Nat) : Int) := by
  have hm : m < 9223372036854775808 := Nat.lt_of_le_of_lt (Nat.le_mul_of_pos_right m (Nat.two_pow_pos k)) h
  unfold bw_shl
  rw [bt_amt64 hk, bt_of64]
  have e2 : Int64.ofBitVec (BitVec.ofNat 64 m) <<< Int64.ofBitVec (BitVec.ofNat 64 k) = Int64.ofBitVec (BitVec.ofNat 64 m <<< k) := by
    apply Int64.toBitVec_inj.mp
    rw [Int64.toBitVec_shiftLeft]
    show BitVec.ofNat 64 m <<< (BitVec.smod (BitVec.ofNat 64 k) 64) = _
    rw [bt_smod64 k hk]
    show BitVec.ofNat 64 m <<< (BitVec.ofNat 64 k).toNat = _
    rw [BitVec.toNat_ofNat, Nat.mod_eq_of_lt (by omega)]
    rfl
  rw [e2]
  have e : (BitVec.ofNat 64 m <<< k).toNat = m * 2 ^ k := by
    rw [BitVec.toNat_shiftLeft, BitVec.toNat_ofNat, Nat.shiftLeft_eq, show m % 2 ^ 64 = m from Nat.mod_eq_of_lt (by omega)]
    exact Nat.mod_eq_of_lt (by omega)
  rw [bt_i64 _ (by rw [e]; exact h), e]
theorem bt_u32 (m : Nat) : (Int32.ofInt (m : Int)).toUInt32 = UInt32.ofBitVec (BitVec.ofNat 32 m) := by
  rw [bt_of32]
  rfl
theorem bt_u64 (m : Nat) : (Int64.ofInt (m : Int)).toUInt64 = UInt64.ofBitVec (BitVec.ofNat 64 m) := by
  rw [bt_of64]
  rfl
theorem bt_ushr32 : ∀ k : Nat, k < 32 → (UInt32.ofBitVec (BitVec.ofNat 32 k) &&& Int32.toUInt32 31).toBitVec = BitVec.ofNat 32 k ∧ (BitVec.ofNat 32 k).toNat % 32 = k := by decide +kernel
theorem bv_ushrB {x : Int} {k : Nat} (hk : k < 32) : bv_ushr x k = (Int32.ofBitVec ((BitVec.ofInt 32 x) >>> k)).toInt := by
  unfold bv_ushr
  have e : (Int32.ofInt x).toUInt32 >>> ((Int32.ofInt (k : Int)).toUInt32 &&& Int32.toUInt32 31) = UInt32.ofBitVec ((BitVec.ofInt 32 x) >>> k) := by
    apply UInt32.toBitVec_inj.mp
    rw [UInt32.toBitVec_shiftRight, bt_u32, (bt_ushr32 k hk).1]
    show (BitVec.ofInt 32 x) >>> (BitVec.ofNat 32 k % 32) = _
    rw [BitVec.ushiftRight_eq', BitVec.toNat_umod]
    show BitVec.ofInt 32 x >>> ((BitVec.ofNat 32 k).toNat % 32) = _
    rw [(bt_ushr32 k hk).2]
  rw [e]
  rfl
theorem bv_ushrN {m k : Nat} (hm : m < 2147483648) (hk : k < 32) : bv_ushr m k = ((m / 2 ^ k : Nat) : Int) := by
  rw [bv_ushrB hk]
  have e : ((BitVec.ofInt 32 (m : Int)) >>> k).toNat = m / 2 ^ k := by
    rw [BitVec.toNat_ushiftRight, BitVec.toNat_ofInt, Nat.shiftRight_eq_div_pow]
    congr 1
    omega
  have hle : m / 2 ^ k ≤ m := Nat.div_le_self _ _
  rw [bt_i32 _ (by rw [e]; omega), e]
theorem bt_ushr64 : ∀ k : Nat, k < 64 → ((Int32.ofInt (k : Int)).toInt64.toUInt64 &&& Int64.toUInt64 63).toBitVec = BitVec.ofNat 64 k ∧ (BitVec.ofNat 64 k).toNat % 64 = k := by decide +kernel
theorem bw_ushrB {x : Int} {k : Nat} (hk : k < 64) : bw_ushr x k = (Int64.ofBitVec ((BitVec.ofInt 64 x) >>> k)).toInt := by
  unfold bw_ushr
  have e : (Int64.ofInt x).toUInt64 >>> ((Int32.ofInt (k : Int)).toInt64.toUInt64 &&& Int64.toUInt64 63) = UInt64.ofBitVec ((BitVec.ofInt 64 x) >>> k) := by
    apply UInt64.toBitVec_inj.mp
    rw [UInt64.toBitVec_shiftRight, (bt_ushr64 k hk).1]
    show (BitVec.ofInt 64 x) >>> (BitVec.ofNat 64 k % 64) = _
    rw [BitVec.ushiftRight_eq', BitVec.toNat_umod]
    show BitVec.ofInt 64 x >>> ((BitVec.ofNat 64 k).toNat % 64) = _
    rw [(bt_ushr64 k hk).2]
  rw [e]
  rfl
theorem bw_ushrN {m k : Nat} (hm : m < 9223372036854775808) (hk : k < 64) : bw_ushr m k = ((m / 2 ^ k : Nat) : Int) := by
  rw [bw_ushrB hk]
  have e : ((BitVec.ofInt 64 (m : Int)) >>> k).toNat = m / 2 ^ k := by
    rw [BitVec.toNat_ushiftRight, BitVec.toNat_ofInt, Nat.shiftRight_eq_div_pow]
    congr 1
    omega
  have hle : m / 2 ^ k ≤ m := Nat.div_le_self _ _
  rw [bt_i64 _ (by rw [e]; omega), e]
theorem bt_amtS : ∀ k : Nat, k < 32 → BitVec.smod ((Int32.ofInt (k : Int) &&& 31).toBitVec) 32 = BitVec.ofNat 32 k := by decide +kernel
theorem bv_shrB {x : Int} {k : Nat} (hk : k < 32) : bv_shr x k = (Int32.ofBitVec ((BitVec.ofInt 32 x).sshiftRight k)).toInt := by
  unfold bv_shr
  have e : Int32.ofInt x >>> (Int32.ofInt (k : Int) &&& 31) = Int32.ofBitVec ((BitVec.ofInt 32 x).sshiftRight k) := by
    apply Int32.toBitVec_inj.mp
    rw [Int32.toBitVec_shiftRight, bt_amtS k hk]
    show (BitVec.ofInt 32 x).sshiftRight' (BitVec.ofNat 32 k) = _
    rw [BitVec.sshiftRight_eq', BitVec.toNat_ofNat, Nat.mod_eq_of_lt (by omega)]
    rfl
  rw [e]
theorem bv_shrN {m k : Nat} (hm : m < 2147483648) (hk : k < 32) : bv_shr m k = ((m / 2 ^ k : Nat) : Int) := by
  rw [bv_shrB hk]
  show ((BitVec.ofInt 32 (m : Int)).sshiftRight k).toInt = _
  rw [BitVec.toInt_sshiftRight, BitVec.toInt_ofInt]
  have : (m : Int).bmod (2 ^ 32) = m := by
    apply Int.bmod_eq_of_le <;> omega
  rw [this, Int.shiftRight_eq_div_pow]
  rfl
theorem bt_amtS64 : ∀ k : Nat, k < 64 → BitVec.smod (((Int32.ofInt (k : Int)).toInt64 &&& 63).toBitVec) 64 = BitVec.ofNat 64 k := by decide +kernel
theorem bw_shrN {m k : Nat} (hm : m < 9223372036854775808) (hk : k < 64) : bw_shr m k = ((m / 2 ^ k : Nat) : Int) := by
  unfold bw_shr
  have e : Int64.ofInt (m : Int) >>> ((Int32.ofInt (k : Int)).toInt64 &&& 63) = Int64.ofBitVec ((BitVec.ofInt 64 (m : Int)).sshiftRight k) := by
    apply Int64.toBitVec_inj.mp
    rw [Int64.toBitVec_shiftRight, bt_amtS64 k hk]
    show (BitVec.ofInt 64 (m : Int)).sshiftRight' (BitVec.ofNat 64 k) = _
    rw [BitVec.sshiftRight_eq', BitVec.toNat_ofNat, Nat.mod_eq_of_lt (by omega)]
    rfl
  rw [e]
  show ((BitVec.ofInt 64 (m : Int)).sshiftRight k).toInt = _
  rw [BitVec.toInt_sshiftRight, BitVec.toInt_ofInt]
  have : (m : Int).bmod (2 ^ 64) = m := by
    apply Int.bmod_eq_of_le <;> omega
  rw [this, Int.shiftRight_eq_div_pow]
  rfl
/-- what is in one set of bits and not in another -/
def bt_dif (m n : Nat) : Nat := m ^^^ (m &&& n)
theorem bt_dif_bit (m n i : Nat) : (bt_dif m n).testBit i = (m.testBit i && !n.testBit i) := by
  unfold bt_dif
  rw [Nat.testBit_xor, Nat.testBit_and]
  cases m.testBit i <;> cases n.testBit i <;> rfl
theorem bt_dif_le (m n : Nat) : bt_dif m n ≤ m := by
  have h : bt_dif m n = m &&& bt_dif m n := by
    apply Nat.eq_of_testBit_eq
    intro i
    rw [Nat.testBit_and, bt_dif_bit]
    cases m.testBit i <;> rfl
  rw [h]
  exact Nat.and_le_left
theorem bv_andnot {m n : Nat} (hm : m < 2147483648) (hn : n < 2147483648) : bv_and m (bv_xor n (-1)) = (bt_dif m n : Int) := by
  unfold bv_and bv_xor
  rw [Int32.ofInt_toInt]
  have e : Int32.ofInt (m : Int) &&& (Int32.ofInt (n : Int) ^^^ Int32.ofInt (-1)) = Int32.ofBitVec (BitVec.ofNat 32 (bt_dif m n)) := by
    apply Int32.toBitVec_inj.mp
    rw [bt_of32, bt_of32]
    show BitVec.ofNat 32 m &&& (BitVec.ofNat 32 n ^^^ BitVec.ofInt 32 (-1)) = BitVec.ofNat 32 (bt_dif m n)
    apply BitVec.eq_of_getLsbD_eq
    intro i hi
    rw [BitVec.getLsbD_and, BitVec.getLsbD_xor, BitVec.getLsbD_ofNat, BitVec.getLsbD_ofNat, BitVec.getLsbD_ofNat, bt_dif_bit, show BitVec.ofInt 32 (-1) = BitVec.allOnes 32 from by decide, BitVec.getLsbD_allOnes]
    simp [hi]
  have hlt : bt_dif m n < 2147483648 := Nat.lt_of_le_of_lt (bt_dif_le m n) hm
  have e2 : (BitVec.ofNat 32 (bt_dif m n)).toNat = bt_dif m n := by rw [BitVec.toNat_ofNat]; exact Nat.mod_eq_of_lt (by omega)
  rw [e, bt_i32 _ (by rw [e2]; exact hlt), e2]
theorem bw_andnot {m n : Nat} (hm : m < 9223372036854775808) (hn : n < 9223372036854775808) : bw_and m (bw_xor n (-1)) = (bt_dif m n : Int) := by
  unfold bw_and bw_xor
  rw [Int64.ofInt_toInt]
  have e : Int64.ofInt (m : Int) &&& (Int64.ofInt (n : Int) ^^^ Int64.ofInt (-1)) = Int64.ofBitVec (BitVec.ofNat 64 (bt_dif m n)) := by
    apply Int64.toBitVec_inj.mp
    rw [bt_of64, bt_of64]
    show BitVec.ofNat 64 m &&& (BitVec.ofNat 64 n ^^^ BitVec.ofInt 64 (-1)) = BitVec.ofNat 64 (bt_dif m n)
    apply BitVec.eq_of_getLsbD_eq
    intro i hi
    rw [BitVec.getLsbD_and, BitVec.getLsbD_xor, BitVec.getLsbD_ofNat, BitVec.getLsbD_ofNat, BitVec.getLsbD_ofNat, bt_dif_bit, show BitVec.ofInt 64 (-1) = BitVec.allOnes 64 from by decide, BitVec.getLsbD_allOnes]
    simp [hi]
  have hlt : bt_dif m n < 9223372036854775808 := Nat.lt_of_le_of_lt (bt_dif_le m n) hm
  have e2 : (BitVec.ofNat 64 (bt_dif m n)).toNat = bt_dif m n := by rw [BitVec.toNat_ofNat]; exact Nat.mod_eq_of_lt (by omega)
  rw [e, bt_i64 _ (by rw [e2]; exact hlt), e2]
/-- a byte of an int, by either shift -/
def bt_byte (x : Int) (k : Nat) : Nat := (x % 4294967296).toNat / 2 ^ k % 256
theorem bt_and255 {b : BitVec 32} : (Int32.ofBitVec b &&& Int32.ofInt 255).toInt = ((b.toNat % 256 : Nat) : Int) := by
  have e : Int32.ofBitVec b &&& Int32.ofInt 255 = Int32.ofBitVec (b &&& BitVec.ofNat 32 255) := rfl
  have e2 : (b &&& BitVec.ofNat 32 255).toNat = b.toNat % 256 := by
    rw [BitVec.toNat_and]
    show b.toNat &&& 255 = _
    exact Nat.and_two_pow_sub_one_eq_mod b.toNat 8
  rw [e, bt_i32 _ (by rw [e2]; omega), e2]
theorem bt_byteU {x : Int} {k : Nat} (hk : k < 32) : bv_and (bv_ushr x k) 255 = (bt_byte x k : Int) := by
  rw [bv_ushrB hk]
  unfold bv_and
  rw [Int32.ofInt_toInt, bt_and255, BitVec.toNat_ushiftRight, BitVec.toNat_ofInt, Nat.shiftRight_eq_div_pow]
  rfl
theorem bt_byteS {x : Int} {k : Nat} (hk : k ≤ 24) : bv_and (bv_shr x k) 255 = (bt_byte x k : Int) := by
  rw [bv_shrB (by omega)]
  unfold bv_and
  rw [Int32.ofInt_toInt, bt_and255]
  congr 1
  have e : ((BitVec.ofInt 32 x).sshiftRight k) &&& BitVec.ofNat 32 255 = ((BitVec.ofInt 32 x) >>> k) &&& BitVec.ofNat 32 255 := by
    apply BitVec.eq_of_getLsbD_eq
    intro i hi
    rw [BitVec.getLsbD_and, BitVec.getLsbD_and, BitVec.getLsbD_sshiftRight, BitVec.getLsbD_ushiftRight, BitVec.getLsbD_ofNat]
    by_cases h8 : i < 8
    · have h1 : ¬ (32 ≤ i) := by omega
      have h2 : k + i < 32 := by omega
      simp [h1, h2]
    · have : Nat.testBit 255 i = false := Nat.testBit_lt_two_pow (Nat.lt_of_lt_of_le (by decide : 255 < 2 ^ 8) (Nat.pow_le_pow_right (by decide) (by omega)))
      simp [this]
  have e3 := congrArg BitVec.toNat e
  rw [BitVec.toNat_and, BitVec.toNat_and] at e3
  have e4 : ∀ n : Nat, n &&& (BitVec.ofNat 32 255).toNat = n % 256 := fun n => Nat.and_two_pow_sub_one_eq_mod n 8
  rw [e4, e4] at e3
  rw [e3, BitVec.toNat_ushiftRight, BitVec.toNat_ofInt, Nat.shiftRight_eq_div_pow]
  rfl
