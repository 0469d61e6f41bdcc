/-! NUMBERS: Java's ints and longs as mathematical integers -/
def wrap (x : Int) : Int := (Int32.ofInt x).toInt
def wrapL (x : Int) : Int := (Int64.ofInt x).toInt
def in32 (x : Int) : Prop := -2147483648 ≤ x ∧ x ≤ 2147483647
def in64 (x : Int) : Prop := -9223372036854775808 ≤ x ∧ x ≤ 9223372036854775807
def andI (a b : Int) : Int := (Int32.ofInt a &&& Int32.ofInt b).toInt
def orI (a b : Int) : Int := (Int32.ofInt a ||| Int32.ofInt b).toInt
def xorI (a b : Int) : Int := (Int32.ofInt a ^^^ Int32.ofInt b).toInt
def shlI (a b : Int) : Int := (Int32.ofInt a <<< (Int32.ofInt b &&& 31)).toInt
def shrI (a b : Int) : Int := (Int32.ofInt a >>> (Int32.ofInt b &&& 31)).toInt
def ushrI (a b : Int) : Int := ((Int32.ofInt a).toUInt32 >>> ((Int32.ofInt b).toUInt32 &&& Int32.toUInt32 31)).toInt32.toInt
def andL (a b : Int) : Int := (Int64.ofInt a &&& Int64.ofInt b).toInt
def orL (a b : Int) : Int := (Int64.ofInt a ||| Int64.ofInt b).toInt
def shlL (a b : Int) : Int := (Int64.ofInt a <<< ((Int32.ofInt b).toInt64 &&& 63)).toInt
def shrL (a b : Int) : Int := (Int64.ofInt a >>> ((Int32.ofInt b).toInt64 &&& 63)).toInt
def wrapB (a : Int) : Int := (Int32.ofInt a).toInt8.toInt32.toInt
def cmpL (a b : Int) : Int := if a < b then -1 else if a = b then 0 else 1
theorem in32_toInt (x : Int32) : in32 x.toInt := by
  have h1 := x.toInt_lt
  have h2 := x.le_toInt
  unfold in32
  omega
theorem in64_toInt (x : Int64) : in64 x.toInt := by
  have h1 := x.toInt_lt
  have h2 := x.le_toInt
  unfold in64
  omega
theorem toInt_ofInt32 {x : Int} (h : in32 x) : (Int32.ofInt x).toInt = x := Int32.toInt_ofInt_of_le (by have := h.1; omega) (by have := h.2; omega)
theorem toInt_ofInt64 {x : Int} (h : in64 x) : (Int64.ofInt x).toInt = x := Int64.toInt_ofInt_of_le (by have := h.1; omega) (by have := h.2; omega)
theorem wrap_id {x : Int} (h : in32 x) : wrap x = x := toInt_ofInt32 h
theorem wrapL_id {x : Int} (h : in64 x) : wrapL x = x := toInt_ofInt64 h
theorem ofInt_wrap (x : Int) : Int32.ofInt (wrap x) = Int32.ofInt x := Int32.ofInt_toInt _
theorem ofInt_wrapL (x : Int) : Int64.ofInt (wrapL x) = Int64.ofInt x := Int64.ofInt_toInt _
theorem in32_wrap (x : Int) : in32 (wrap x) := in32_toInt _
theorem in64_wrapL (x : Int) : in64 (wrapL x) := in64_toInt _
theorem ofInt_andI (a b : Int) : Int32.ofInt (andI a b) = Int32.ofInt a &&& Int32.ofInt b := Int32.ofInt_toInt _
theorem ofInt_orI (a b : Int) : Int32.ofInt (orI a b) = Int32.ofInt a ||| Int32.ofInt b := Int32.ofInt_toInt _
theorem ofInt_xorI (a b : Int) : Int32.ofInt (xorI a b) = Int32.ofInt a ^^^ Int32.ofInt b := Int32.ofInt_toInt _
theorem ofInt_shlI (a b : Int) : Int32.ofInt (shlI a b) = Int32.ofInt a <<< (Int32.ofInt b &&& 31) := Int32.ofInt_toInt _
theorem ofInt_shrI (a b : Int) : Int32.ofInt (shrI a b) = Int32.ofInt a >>> (Int32.ofInt b &&& 31) := Int32.ofInt_toInt _
theorem ofInt_ushrI (a b : Int) : Int32.ofInt (ushrI a b) = ((Int32.ofInt a).toUInt32 >>> ((Int32.ofInt b).toUInt32 &&& Int32.toUInt32 31)).toInt32 := Int32.ofInt_toInt _
theorem ofInt_wrapB (a : Int) : Int32.ofInt (wrapB a) = (Int32.ofInt a).toInt8.toInt32 := Int32.ofInt_toInt _
theorem ofInt_andL (a b : Int) : Int64.ofInt (andL a b) = Int64.ofInt a &&& Int64.ofInt b := Int64.ofInt_toInt _
theorem ofInt_orL (a b : Int) : Int64.ofInt (orL a b) = Int64.ofInt a ||| Int64.ofInt b := Int64.ofInt_toInt _
theorem ofInt_shlL (a b : Int) : Int64.ofInt (shlL a b) = Int64.ofInt a <<< ((Int32.ofInt b).toInt64 &&& 63) := Int64.ofInt_toInt _
theorem ofInt_shrL (a b : Int) : Int64.ofInt (shrL a b) = Int64.ofInt a >>> ((Int32.ofInt b).toInt64 &&& 63) := Int64.ofInt_toInt _
theorem ofInt_add32 (a b : Int) : Int32.ofInt (wrap (a + b)) = Int32.ofInt a + Int32.ofInt b := by rw [ofInt_wrap]; exact Int32.ofInt_add _ _
theorem ofInt_sub32 (a b : Int) : Int32.ofInt (wrap (a - b)) = Int32.ofInt a - Int32.ofInt b := by rw [ofInt_wrap]; exact Int32.ofInt_sub _ _
theorem ofInt_mul32 (a b : Int) : Int32.ofInt (wrap (a * b)) = Int32.ofInt a * Int32.ofInt b := by rw [ofInt_wrap]; exact Int32.ofInt_mul _ _
theorem lt32 {a b : Int} (ha : in32 a) (hb : in32 b) : Int32.ofInt a < Int32.ofInt b ↔ a < b := by
  rw [Int32.lt_iff_toInt_lt, toInt_ofInt32 ha, toInt_ofInt32 hb]
theorem le32 {a b : Int} (ha : in32 a) (hb : in32 b) : Int32.ofInt a ≤ Int32.ofInt b ↔ a ≤ b := by
  rw [Int32.le_iff_toInt_le, toInt_ofInt32 ha, toInt_ofInt32 hb]
theorem eq32 {a b : Int} (ha : in32 a) (hb : in32 b) : Int32.ofInt a = Int32.ofInt b ↔ a = b := by
  rw [← Int32.toInt_inj, toInt_ofInt32 ha, toInt_ofInt32 hb]
theorem lt64 {a b : Int} (ha : in64 a) (hb : in64 b) : Int64.ofInt a < Int64.ofInt b ↔ a < b := by
  rw [Int64.lt_iff_toInt_lt, toInt_ofInt64 ha, toInt_ofInt64 hb]
theorem eq64 {a b : Int} (ha : in64 a) (hb : in64 b) : Int64.ofInt a = Int64.ofInt b ↔ a = b := by
  rw [← Int64.toInt_inj, toInt_ofInt64 ha, toInt_ofInt64 hb]
theorem in64_of32 {a : Int} (h : in32 a) : in64 a := by unfold in32 in64 at *; omega
theorem i2l32 {a : Int} (h : in32 a) : (Int32.ofInt a).toInt64 = Int64.ofInt a := by
  rw [← Int64.toInt_inj, Int32.toInt_toInt64, toInt_ofInt32 h, toInt_ofInt64 (in64_of32 h)]
theorem ofInt_div32 {a b : Int} (ha : in32 a) (hb : in32 b) : Int32.ofInt (wrap (a.tdiv b)) = Int32.ofInt a / Int32.ofInt b := by
  rw [ofInt_wrap, ← Int32.toInt_inj, Int32.toInt_div, toInt_ofInt32 ha, toInt_ofInt32 hb, Int32.toInt_ofInt]
theorem ofInt_rem32 {a b : Int} (ha : in32 a) (hb : in32 b) : Int32.ofInt (a.tmod b) = Int32.ofInt a - Int32.ofInt a / Int32.ofInt b * Int32.ofInt b := by
  rw [← ofInt_div32 ha hb, ofInt_wrap, ← Int32.ofInt_mul, ← Int32.ofInt_sub, Int.tmod_def, Int.mul_comm]
theorem in32_tmod {a b : Int} (ha : in32 a) : in32 (a.tmod b) := by
  have h1 : (a.tmod b).natAbs ≤ a.natAbs := by rw [Int.natAbs_tmod]; exact Nat.mod_le _ _
  unfold in32 at *
  by_cases h : 0 ≤ a
  · have := Int.tmod_nonneg b h
    omega
  · have h2 : a.tmod b ≤ 0 := by
      have := Int.tmod_nonneg (a := -a) b (by omega)
      rw [Int.neg_tmod] at this
      omega
    omega
theorem cmpL_eq {a b : Int} (ha : in64 a) (hb : in64 b) : Int32.ofInt (cmpL a b) = lg_cmp (Int64.ofInt a) (Int64.ofInt b) := by
  unfold cmpL lg_cmp
  simp only [gt_iff_lt, lt64 ha hb, lt64 hb ha, eq64 ha hb]
  by_cases h : a < b
  · rw [if_pos h, if_neg (show ¬ b < a by omega), if_neg (show ¬ a = b by omega)]
    rfl
  · by_cases h2 : a = b
    · rw [if_neg h, if_pos h2, if_neg (show ¬ b < a by omega), if_pos h2]
      rfl
    · rw [if_neg h, if_neg h2, if_pos (show b < a by omega)]
      rfl
theorem in32_cmpL (a b : Int) : in32 (cmpL a b) := by
  unfold cmpL in32
  split
  · omega
  · split <;> omega
theorem clamp32 {a : Int} (h0 : 0 ≤ a) (h : in32 a) : (Int32.ofInt a).toNatClampNeg = a.toNat := by
  show (Int32.ofInt a).toInt.toNat = _
  rw [toInt_ofInt32 h]
theorem vin32 {a : Int} {n : Nat} (h0 : 0 ≤ a) (h : in32 a) (hn : a < n) : vp_in (Int32.ofInt a) n := by
  rw [vp_in_iff, toInt_ofInt32 h]
  exact ⟨h0, hn⟩
