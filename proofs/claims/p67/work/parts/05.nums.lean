/-! ===== numbers: ints and longs as integers ===== -/
def iI (z : Int) : Int32 := Int32.ofInt z
def lL (z : Int) : Int64 := Int64.ofInt z
def InR (z : Int) : Prop := -2147483648 ≤ z ∧ z ≤ 2147483647
def InL (z : Int) : Prop := -9223372036854775808 ≤ z ∧ z ≤ 9223372036854775807
theorem iI_toInt {z : Int} (h : InR z) : (iI z).toInt = z := Int32.toInt_ofInt_of_le h.1 (Int.lt_of_le_of_lt h.2 (by decide))
theorem iI_self (x : Int32) : iI x.toInt = x := Int32.ofInt_toInt x
theorem inR_toInt (x : Int32) : InR x.toInt := ⟨Int32.le_toInt x, Int.le_of_lt_add_one (Int32.toInt_lt x)⟩
theorem iI_add (a b : Int) : iI a + iI b = iI (a + b) := (Int32.ofInt_add a b).symm
theorem iI_sub (a b : Int) : iI a - iI b = iI (a - b) := (Int32.ofInt_sub a b).symm
theorem iI_mul (a b : Int) : iI a * iI b = iI (a * b) := (Int32.ofInt_mul a b).symm
theorem iI_lt {a b : Int} (ha : InR a) (hb : InR b) : iI a < iI b ↔ a < b := by rw [Int32.lt_iff_toInt_lt, iI_toInt ha, iI_toInt hb]
theorem iI_le {a b : Int} (ha : InR a) (hb : InR b) : iI a ≤ iI b ↔ a ≤ b := by rw [Int32.le_iff_toInt_le, iI_toInt ha, iI_toInt hb]
theorem iI_eq {a b : Int} (ha : InR a) (hb : InR b) : iI a = iI b ↔ a = b := by rw [← Int32.toInt_inj, iI_toInt ha, iI_toInt hb]
theorem iI_0 : (0 : Int32) = iI 0 := rfl
theorem iI_1 : (1 : Int32) = iI 1 := rfl
theorem inR_0 : InR 0 := ⟨by decide, by decide⟩
theorem iI_clamp {a : Int} (ha : InR a) : (iI a).toNatClampNeg = a.toNat := Int32.toNatClampNeg_ofInt_of_le ha.1 (Int.lt_of_le_of_lt ha.2 (by decide))
theorem iI_in {a : Int} {n : Nat} (h0 : 0 ≤ a) (h1 : a < n) (ha : a ≤ 2147483647) : vp_in (iI a) n := by
  have hR : InR a := ⟨by omega, ha⟩
  rintro (h | h)
  · rw [iI_0, iI_lt hR inR_0] at h; omega
  · rw [iI_clamp hR] at h; omega
theorem iI_nat (n : Nat) : nI n = iI n := (Int32.ofInt_eq_ofNat).symm
theorem iI_div {a b : Int} (ha : 0 ≤ a) (ha2 : a ≤ 2147483647) (hb : 0 < b) (hb2 : b ≤ 2147483647) : iI a / iI b = iI (a / b) := by
  have h1 : (iI a / iI b).toInt = a / b := by
    rw [Int32.toInt_div_of_ne_right _ _ (fun h => by
      have : (iI b).toInt = (-1 : Int32).toInt := by rw [h]
      rw [iI_toInt ⟨by omega, hb2⟩] at this
      have h9 : (-1 : Int32).toInt = -1 := by decide
      omega), iI_toInt ⟨by omega, ha2⟩, iI_toInt ⟨by omega, hb2⟩, Int.tdiv_eq_ediv_of_nonneg ha]
  rw [← iI_self (iI a / iI b), h1]
theorem iI_rem {a b : Int} (ha : 0 ≤ a) (ha2 : a ≤ 2147483647) (hb : 0 < b) (hb2 : b ≤ 2147483647) : iI a - iI a / iI b * iI b = iI (a % b) := by
  rw [iI_div ha ha2 hb hb2, iI_mul, iI_sub]
  congr 1
  rw [Int.emod_def, Int.mul_comm]
theorem iI_ne0 {b : Int} (hb : 0 < b) (hb2 : b ≤ 2147483647) : ¬ iI b = 0 := by
  rw [iI_0, iI_eq ⟨by omega, hb2⟩ inR_0]; omega
/-! longs -/
theorem lL_toInt {z : Int} (h : InL z) : (lL z).toInt = z := Int64.toInt_ofInt_of_le h.1 (Int.lt_of_le_of_lt h.2 (by decide))
theorem lL_add (a b : Int) : lL a + lL b = lL (a + b) := (Int64.ofInt_add a b).symm
theorem lL_lt {a b : Int} (ha : InL a) (hb : InL b) : lL a < lL b ↔ a < b := by rw [Int64.lt_iff_toInt_lt, lL_toInt ha, lL_toInt hb]
theorem lL_eq {a b : Int} (ha : InL a) (hb : InL b) : lL a = lL b ↔ a = b := by rw [← Int64.toInt_inj, lL_toInt ha, lL_toInt hb]
theorem iI_long {a : Int} (ha : InR a) : (iI a).toInt64 = lL a := by
  apply Int64.toInt_inj.mp
  rw [Int32.toInt_toInt64, iI_toInt ha, lL_toInt ⟨by have := ha.1; omega, by have := ha.2; omega⟩]
/-- what lcmp answers -/
def cmpZ (a b : Int) : Int := if b < a then 1 else if a = b then 0 else -1
theorem lL_cmp {a b : Int} (ha : InL a) (hb : InL b) : lg_cmp (lL a) (lL b) = iI (cmpZ a b) := by
  unfold lg_cmp cmpZ
  by_cases h : b < a
  · rw [if_pos ((lL_lt hb ha).mpr h), if_pos h]; rfl
  · rw [if_neg (fun z => h ((lL_lt hb ha).mp z)), if_neg h]
    by_cases h2 : a = b
    · rw [if_pos ((lL_eq ha hb).mpr h2), if_pos h2]; rfl
    · rw [if_neg (fun z => h2 ((lL_eq ha hb).mp z)), if_neg h2]; rfl
