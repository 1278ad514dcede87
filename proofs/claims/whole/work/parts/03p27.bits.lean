/-! BITS OF INTS -/
def bi (a : Int) (k : Nat) : Bool := (Int32.ofInt a).toBitVec.getLsbD k
theorem bi_or (a b : Int) (k : Nat) : bi (oor a b) k = (bi a k || bi b k) := by
  unfold bi oor; rw [Int32.ofInt_toInt, Int32.toBitVec_or, BitVec.getLsbD_or]
theorem bi_and (a b : Int) (k : Nat) : bi (oand a b) k = (bi a k && bi b k) := by
  unfold bi oand; rw [Int32.ofInt_toInt, Int32.toBitVec_and, BitVec.getLsbD_and]
theorem bi_xor (a b : Int) (k : Nat) : bi (oxor a b) k = (bi a k ^^ bi b k) := by
  unfold bi oxor; rw [Int32.ofInt_toInt, Int32.toBitVec_xor, BitVec.getLsbD_xor]
theorem bi_big {a : Int} {k : Nat} (h : 32 ≤ k) : bi a k = false := BitVec.getLsbD_of_ge _ _ h
theorem bi_ext {a b : Int} (ha : rg a) (hb : rg b) (h : ∀ k, k < 32 → bi a k = bi b k) : a = b := by
  have e : Int32.ofInt a = Int32.ofInt b := Int32.toBitVec_inj.mp (BitVec.eq_of_getLsbD_eq (fun i hi => h i hi))
  have h1 := i32_to (z := a) ha
  have h2 := i32_to (z := b) hb
  rw [← h1, ← h2, e]
theorem oor_rg (a b : Int) : rg (oor a b) := in32_toInt _
theorem oand_rg (a b : Int) : rg (oand a b) := in32_toInt _
theorem oxor_rg (a b : Int) : rg (oxor a b) := in32_toInt _
theorem oshl_rg (a b : Int) : rg (oshl a b) := in32_toInt _
theorem oshr_rg (a b : Int) : rg (oshr a b) := in32_toInt _
theorem bi_nat {m : Nat} (h : m < 2147483648) (k : Nat) : bi (m : Int) k = m.testBit k := by
  unfold bi
  show (Int32.ofInt (m : Int)).toBitVec.getLsbD k = m.testBit k
  rw [← n_nat]
  show (BitVec.ofNat 32 m).getLsbD k = m.testBit k
  rw [BitVec.getLsbD_ofNat]
  rcases Nat.lt_or_ge k 32 with hk | hk
  · simp [hk]
  · have : m < 2 ^ k := Nat.lt_of_lt_of_le (Nat.lt_trans h (by decide)) (Nat.pow_le_pow_right (by decide) hk)
    rw [Nat.testBit_lt_two_pow this]
    simp
theorem bi_int {a : Int} (h0 : 0 ≤ a) (h : a < 2147483648) (k : Nat) : bi a k = a.toNat.testBit k := by
  have := bi_nat (m := a.toNat) (by omega) k
  rw [Int.toNat_of_nonneg h0] at this
  exact this
theorem nat_rg {m : Nat} (h : m < 2147483648) : rg (m : Int) := by unfold rg; omega
theorem oor_nat {a b : Nat} (ha : a < 2147483648) (hb : b < 2147483648) : oor (a : Int) (b : Int) = ((a ||| b : Nat) : Int) := by
  have hc : a ||| b < 2147483648 := Nat.or_lt_two_pow (n := 31) ha hb
  refine bi_ext (oor_rg _ _) (nat_rg hc) fun k _ => ?_
  rw [bi_or, bi_nat ha, bi_nat hb, bi_nat hc, Nat.testBit_or]
theorem oand_nat {a b : Nat} (ha : a < 2147483648) (hb : b < 2147483648) : oand (a : Int) (b : Int) = ((a &&& b : Nat) : Int) := by
  have hc : a &&& b < 2147483648 := Nat.lt_of_le_of_lt Nat.and_le_left ha
  refine bi_ext (oand_rg _ _) (nat_rg hc) fun k _ => ?_
  rw [bi_and, bi_nat ha, bi_nat hb, bi_nat hc, Nat.testBit_and]
theorem bi_1 : ∀ k, k < 32 → bi 1 k = decide (k = 0) := by decide +kernel
theorem bi_0 (k : Nat) : bi 0 k = false := by
  rcases Nat.lt_or_ge k 32 with h | h
  · exact (by decide +kernel : ∀ k, k < 32 → bi 0 k = false) k h
  · exact bi_big h
theorem bi_m1 : ∀ k, k < 32 → bi (-1) k = true := by decide +kernel
theorem bi_not {a : Int} {k : Nat} (h : k < 32) : bi (oxor a (-1)) k = !bi a k := by
  rw [bi_xor, bi_m1 k h, Bool.xor_true]
theorem sl_n : ∀ n : Nat, n < 32 → ((Int32.ofInt (n : Int) &&& 31).toBitVec.smod 32).toNat = n := by decide +kernel
theorem bi_shr {n : Nat} (hn : n < 32) (a : Int) {i : Nat} (hi : i < 32) : bi (oshr a (n : Int)) i = if n + i < 32 then bi a (n + i) else bi a 31 := by
  unfold bi oshr
  rw [Int32.ofInt_toInt, Int32.toBitVec_shiftRight]
  show ((Int32.ofInt a).toBitVec.sshiftRight ((Int32.ofInt (n : Int) &&& 31).toBitVec.smod 32).toNat).getLsbD i = _
  rw [sl_n n hn, BitVec.getLsbD_sshiftRight, BitVec.msb_eq_getLsbD_last]
  simp [hi]
theorem bi_shl {n : Nat} (hn : n < 32) (a : Int) {i : Nat} (hi : i < 32) : bi (oshl a (n : Int)) i = (decide (n ≤ i) && bi a (i - n)) := by
  unfold bi oshl
  rw [Int32.ofInt_toInt, Int32.toBitVec_shiftLeft]
  show ((Int32.ofInt a).toBitVec <<< ((Int32.ofInt (n : Int) &&& 31).toBitVec.smod 32).toNat).getLsbD i = _
  rw [sl_n n hn, BitVec.getLsbD_shiftLeft]
  rcases Nat.lt_or_ge i n with h | h
  · simp [h, Nat.not_le.mpr h]
  · simp [hi, h, Nat.not_lt.mpr h]
theorem oshr_toInt {n : Nat} (hn : n < 32) {a : Int} (ha : rg a) : oshr a (n : Int) = a / 2 ^ n := by
  unfold oshr
  show ((Int32.ofInt a).toBitVec.sshiftRight ((Int32.ofInt (n : Int) &&& 31).toBitVec.smod 32).toNat).toInt = _
  rw [sl_n n hn, BitVec.toInt_sshiftRight, Int.shiftRight_eq_div_pow]
  show (Int32.ofInt a).toInt / _ = _
  rw [i32_to (z := a) ha]
  simp
/-- a bit, asked as the programs ask it -/
theorem shr1 {n : Nat} (hn : n < 32) (a : Int) : oand (oshr a (n : Int)) 1 = if bi a n then 1 else 0 := by
  refine bi_ext (oand_rg _ _) (by split <;> (unfold rg; omega)) fun i hi => ?_
  rw [bi_and, bi_1 i hi, bi_shr hn a hi]
  rcases Nat.eq_zero_or_pos i with rfl | h0
  · simp only [Nat.add_zero, hn, if_true, decide_true, Bool.and_true]
    cases bi a n <;> decide +kernel
  · have : decide (i = 0) = false := decide_eq_false (by omega)
    rw [this, Bool.and_false]
    split
    · rw [bi_1 i hi, this]
    · rw [bi_0]
theorem shl1 {n : Nat} (hn : n < 32) {i : Nat} (hi : i < 32) : bi (oshl 1 (n : Int)) i = decide (i = n) := by
  rw [bi_shl hn 1 hi]
  rcases Nat.lt_or_ge i n with h | h
  · rw [decide_eq_false (by omega), Bool.false_and, decide_eq_false (by omega)]
  · rw [decide_eq_true h, Bool.true_and, bi_1 _ (by omega)]
    rcases Nat.eq_or_lt_of_le h with e | e
    · rw [decide_eq_true (by omega), decide_eq_true (by omega)]
    · rw [decide_eq_false (by omega), decide_eq_false (by omega)]
theorem shl1_val : ∀ n : Nat, n < 31 → oshl 1 (n : Int) = ((2 ^ n : Nat) : Int) := by decide +kernel
theorem and_bit {a : Int} {n : Nat} (hn : n < 32) : oand a (oshl 1 (n : Int)) = 0 ↔ bi a n = false := by
  constructor
  · intro h
    have h1 := bi_and a (oshl 1 (n : Int)) n
    rw [h, bi_0, shl1 hn hn, decide_eq_true rfl, Bool.and_true] at h1
    exact h1.symm
  · intro h
    refine bi_ext (oand_rg _ _) (by unfold rg; omega) fun k hk => ?_
    rw [bi_and, bi_0, shl1 hn hk]
    rcases Nat.decEq k n with e | e
    · rw [decide_eq_false e, Bool.and_false]
    · rw [e, h, Bool.false_and]
theorem oand_mod {j : Nat} (hj : j < 31) {z : Int} : oand z ((2 ^ j - 1 : Nat) : Int) = z % ((2 ^ j : Nat) : Int) := by
  have hp : 2 ^ j ≤ 2 ^ 30 := Nat.pow_le_pow_right (by decide) (by omega)
  have hp0 : 0 < 2 ^ j := Nat.pow_pos (by decide)
  have e1 : (Int32.ofInt z).toBitVec.toNat = (z % 4294967296).toNat := by
    show (BitVec.ofInt 32 z).toNat = _
    rw [BitVec.toNat_ofInt]; rfl
  have e2 : (Int32.ofInt ((2 ^ j - 1 : Nat) : Int)).toBitVec.toNat = 2 ^ j - 1 := by
    show (BitVec.ofInt 32 _).toNat = _
    rw [BitVec.toNat_ofInt]
    have : (((2 ^ j - 1 : Nat) : Int) % ((2 ^ 32 : Nat) : Int)) = ((2 ^ j - 1 : Nat) : Int) := Int.emod_eq_of_lt (by omega) (by
      have : (2 ^ j - 1 : Nat) < 2 ^ 32 := by have : 2 ^ 30 < 2 ^ 32 := by decide
                                              omega
      exact_mod_cast this)
    rw [this]; rfl
  unfold oand
  show ((Int32.ofInt z).toBitVec &&& (Int32.ofInt ((2 ^ j - 1 : Nat) : Int)).toBitVec).toInt = _
  have e3 : ((Int32.ofInt z).toBitVec &&& (Int32.ofInt ((2 ^ j - 1 : Nat) : Int)).toBitVec).toNat = (z % 4294967296).toNat % 2 ^ j := by
    rw [BitVec.toNat_and, e1, e2, Nat.and_two_pow_sub_one_eq_mod]
  have hlt : (z % 4294967296).toNat % 2 ^ j < 2 ^ j := Nat.mod_lt _ hp0
  rw [BitVec.toInt_eq_toNat_of_lt (by rw [e3]; have : 2 * 2 ^ 30 < 2 ^ 32 := by decide
                                      omega), e3]
  have hd : ((2 ^ j : Nat) : Int) ∣ 4294967296 := by
    have : 2 ^ j ∣ 2 ^ 32 := Nat.pow_dvd_pow 2 (by omega)
    exact Int.ofNat_dvd.mpr this
  have h5 : ((z % 4294967296).toNat : Int) = z % 4294967296 := Int.toNat_of_nonneg (Int.emod_nonneg _ (by decide))
  rw [Int.natCast_emod, h5, Int.emod_emod_of_dvd _ hd]
theorem oand_255 (z : Int) : oand z 255 = z % 256 := oand_mod (j := 8) (by omega)
theorem oand_63 (z : Int) : oand z 63 = z % 64 := oand_mod (j := 6) (by omega)
theorem oand_1 (z : Int) : oand z 1 = z % 2 := oand_mod (j := 1) (by omega)
