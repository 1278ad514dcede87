/-! NUMBERS: the machine's ints and longs as mathematical integers -/
def in32 (z : Int) : Prop := -2147483648 ≤ z ∧ z < 2147483648
def in64 (z : Int) : Prop := -9223372036854775808 ≤ z ∧ z < 9223372036854775808
theorem i32_to {z : Int} (h : in32 z) : (Int32.ofInt z).toInt = z := Int32.toInt_ofInt_of_le h.1 h.2
theorem i64_to {z : Int} (h : in64 z) : (Int64.ofInt z).toInt = z := Int64.toInt_ofInt_of_le h.1 h.2
theorem in32_toInt (x : Int32) : in32 x.toInt := ⟨x.le_toInt, x.toInt_lt⟩
theorem in64_toInt (x : Int64) : in64 x.toInt := ⟨x.le_toInt, x.toInt_lt⟩
theorem w32_in (z : Int) : in32 (w32 z) := by
  have h1 := Int.le_bmod (x := z) (m := 4294967296) (by decide)
  have h2 := Int.bmod_lt (x := z) (m := 4294967296) (by decide)
  unfold in32 w32
  constructor <;> omega
theorem w64_in (z : Int) : in64 (w64 z) := by
  have h1 := Int.le_bmod (x := z) (m := 18446744073709551616) (by decide)
  have h2 := Int.bmod_lt (x := z) (m := 18446744073709551616) (by decide)
  unfold in64 w64
  constructor <;> omega
theorem w8_in (z : Int) : -128 ≤ w8 z ∧ w8 z < 128 := by
  have h1 := Int.le_bmod (x := z) (m := 256) (by decide)
  have h2 := Int.bmod_lt (x := z) (m := 256) (by decide)
  unfold w8
  constructor <;> omega
theorem w32_of (z : Int) : Int32.ofInt (w32 z) = Int32.ofInt z := Int32.toInt_inj.1 (by simp [w32, Int32.size])
theorem w64_of (z : Int) : Int64.ofInt (w64 z) = Int64.ofInt z := Int64.toInt_inj.1 (by simp [w64, Int64.size])
theorem n_lt {a b : Int} (ha : in32 a) (hb : in32 b) : Int32.ofInt a < Int32.ofInt b ↔ a < b := by rw [Int32.lt_iff_toInt_lt, i32_to ha, i32_to hb]
theorem n_le {a b : Int} (ha : in32 a) (hb : in32 b) : Int32.ofInt a ≤ Int32.ofInt b ↔ a ≤ b := by rw [Int32.le_iff_toInt_le, i32_to ha, i32_to hb]
theorem n_eq {a b : Int} (ha : in32 a) (hb : in32 b) : Int32.ofInt a = Int32.ofInt b ↔ a = b := by rw [← Int32.toInt_inj, i32_to ha, i32_to hb]
theorem m_lt {a b : Int} (ha : in64 a) (hb : in64 b) : Int64.ofInt a < Int64.ofInt b ↔ a < b := by rw [Int64.lt_iff_toInt_lt, i64_to ha, i64_to hb]
theorem m_le {a b : Int} (ha : in64 a) (hb : in64 b) : Int64.ofInt a ≤ Int64.ofInt b ↔ a ≤ b := by rw [Int64.le_iff_toInt_le, i64_to ha, i64_to hb]
theorem m_eq {a b : Int} (ha : in64 a) (hb : in64 b) : Int64.ofInt a = Int64.ofInt b ↔ a = b := by rw [← Int64.toInt_inj, i64_to ha, i64_to hb]
theorem in32_0 : in32 0 := by constructor <;> decide
theorem in64_0 : in64 0 := by constructor <;> decide
theorem in64_32 {z : Int} (h : in32 z) : in64 z := by unfold in32 at h; unfold in64; omega
theorem n_0 : Int32.ofInt 0 = 0 := rfl
theorem n_add (a b : Int) : Int32.ofInt a + Int32.ofInt b = Int32.ofInt (w32 (a + b)) := by rw [w32_of, Int32.ofInt_add]
theorem n_sub (a b : Int) : Int32.ofInt a - Int32.ofInt b = Int32.ofInt (w32 (a - b)) := by rw [w32_of, Int32.ofInt_sub]
theorem n_mul (a b : Int) : Int32.ofInt a * Int32.ofInt b = Int32.ofInt (w32 (a * b)) := by rw [w32_of, Int32.ofInt_mul]
theorem n_neg (a : Int) : -Int32.ofInt a = Int32.ofInt (w32 (-a)) := by rw [w32_of, Int32.ofInt_neg]
theorem m_add (a b : Int) : Int64.ofInt a + Int64.ofInt b = Int64.ofInt (w64 (a + b)) := by rw [w64_of, Int64.ofInt_add]
theorem m_sub (a b : Int) : Int64.ofInt a - Int64.ofInt b = Int64.ofInt (w64 (a - b)) := by rw [w64_of, Int64.ofInt_sub]
theorem m_mul (a b : Int) : Int64.ofInt a * Int64.ofInt b = Int64.ofInt (w64 (a * b)) := by rw [w64_of, Int64.ofInt_mul]
theorem m_neg (a : Int) : -Int64.ofInt a = Int64.ofInt (w64 (-a)) := by rw [w64_of, Int64.ofInt_neg]
theorem n_div {a b : Int} (ha : in32 a) (hb : in32 b) : Int32.ofInt a / Int32.ofInt b = Int32.ofInt (w32 (a.tdiv b)) := by
  rw [← Int32.toInt_inj, Int32.toInt_div, i32_to ha, i32_to hb, i32_to (w32_in _)]
  rfl
theorem m_div {a b : Int} (ha : in64 a) (hb : in64 b) : Int64.ofInt a / Int64.ofInt b = Int64.ofInt (w64 (a.tdiv b)) := by
  rw [← Int64.toInt_inj, Int64.toInt_div, i64_to ha, i64_to hb, i64_to (w64_in _)]
  rfl
theorem tm_eq (a b : Int) : a.tmod b = a - a.tdiv b * b := by
  have := Int.mul_tdiv_add_tmod a b
  rw [Int.mul_comm] at this
  omega
theorem n_rem {a b : Int} (ha : in32 a) (hb : in32 b) : Int32.ofInt a - Int32.ofInt a / Int32.ofInt b * Int32.ofInt b = Int32.ofInt (a.tmod b) := by
  rw [n_div ha hb, w32_of, ← Int32.ofInt_mul, ← Int32.ofInt_sub, tm_eq]
theorem m_rem {a b : Int} (ha : in64 a) (hb : in64 b) : Int64.ofInt a - Int64.ofInt a / Int64.ofInt b * Int64.ofInt b = Int64.ofInt (a.tmod b) := by
  rw [m_div ha hb, w64_of, ← Int64.ofInt_mul, ← Int64.ofInt_sub, tm_eq]
theorem tmod_in {a b : Int} (ha : in32 a) : in32 (a.tmod b) := by
  have h := Int.natAbs_tmod a b
  have h2 : a.natAbs % b.natAbs ≤ a.natAbs := Nat.mod_le _ _
  have h3 : 0 ≤ a → 0 ≤ a.tmod b := fun h => Int.tmod_nonneg b h
  have h4 : a ≤ 0 → a.tmod b ≤ 0 := fun h => by
    have q := Int.tmod_nonneg b (show 0 ≤ -a by omega)
    rw [Int.neg_tmod] at q
    omega
  unfold in32 at *
  omega
theorem tmod_in64 {a b : Int} (ha : in64 a) : in64 (a.tmod b) := by
  have h := Int.natAbs_tmod a b
  have h2 : a.natAbs % b.natAbs ≤ a.natAbs := Nat.mod_le _ _
  have h3 : 0 ≤ a → 0 ≤ a.tmod b := fun h => Int.tmod_nonneg b h
  have h4 : a ≤ 0 → a.tmod b ≤ 0 := fun h => by
    have q := Int.tmod_nonneg b (show 0 ≤ -a by omega)
    rw [Int.neg_tmod] at q
    omega
  unfold in64 at *
  omega
theorem n_in {i : Int} (hi : in32 i) {n : Nat} (h : 0 ≤ i ∧ i < n) : vp_in (Int32.ofInt i) n := vp_in_iff.mpr (by rw [i32_to hi]; exact h)
theorem n_cl {i : Int} (hi : in32 i) : (Int32.ofInt i).toNatClampNeg = i.toNat := Int32.toNatClampNeg_ofInt_of_le hi.1 hi.2
theorem n_and (a b : Int) : Int32.ofInt (oand a b) = Int32.ofInt a &&& Int32.ofInt b := Int32.ofInt_toInt _
theorem n_or (a b : Int) : Int32.ofInt (oor a b) = Int32.ofInt a ||| Int32.ofInt b := Int32.ofInt_toInt _
theorem n_xor (a b : Int) : Int32.ofInt (oxor a b) = Int32.ofInt a ^^^ Int32.ofInt b := Int32.ofInt_toInt _
theorem n_shl (a b : Int) : Int32.ofInt (oshl a b) = Int32.ofInt a <<< (Int32.ofInt b &&& 31) := Int32.ofInt_toInt _
theorem n_shr (a b : Int) : Int32.ofInt (oshr a b) = Int32.ofInt a >>> (Int32.ofInt b &&& 31) := Int32.ofInt_toInt _
theorem n_ushr (a b : Int) : Int32.ofInt (oushr a b) = ((Int32.ofInt a).toUInt32 >>> ((Int32.ofInt b).toUInt32 &&& Int32.toUInt32 31)).toInt32 := Int32.ofInt_toInt _
theorem m_and (a b : Int) : Int64.ofInt (oland a b) = Int64.ofInt a &&& Int64.ofInt b := Int64.ofInt_toInt _
theorem n_l {a : Int} (ha : in32 a) : (Int32.ofInt a).toInt64 = Int64.ofInt a := by
  rw [← Int64.toInt_inj, Int32.toInt_toInt64, i32_to ha, i64_to (in64_32 ha)]
theorem m_i (a : Int) : (Int64.ofInt a).toInt32 = Int32.ofInt (w32 a) := by rw [w32_of, Int64.toInt32_ofInt]
theorem n_b (a : Int) : (Int32.ofInt a).toInt8.toInt32 = Int32.ofInt (w8 a) := by
  rw [← Int32.toInt_inj, Int8.toInt_toInt32, Int32.toInt8_ofInt, i32_to (by have := w8_in a; unfold in32; omega), Int8.toInt_ofInt]
  rfl
theorem n_i8 {n : Int} (h : -128 ≤ n ∧ n < 128) : (Int8.ofInt n).toInt32 = Int32.ofInt n := by
  rw [← Int32.toInt_inj, Int8.toInt_toInt32, i32_to (by unfold in32; omega), Int8.toInt_ofInt_of_le h.1 h.2]
theorem n_i16 {n : Int} (h : -32768 ≤ n ∧ n < 32768) : (Int16.ofInt n).toInt32 = Int32.ofInt n := by
  rw [← Int32.toInt_inj, Int16.toInt_toInt32, i32_to (by unfold in32; omega), Int16.toInt_ofInt_of_le h.1 h.2]
theorem m_nat (n : Nat) : Int64.ofNat n = Int64.ofInt (n : Int) := Int64.ofInt_eq_ofNat.symm
theorem n_nat (n : Nat) : Int32.ofNat n = Int32.ofInt (n : Int) := Int32.ofInt_eq_ofNat.symm
