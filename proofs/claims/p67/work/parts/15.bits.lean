/-! ===== bits, as integers ===== -/
theorem iI_bv (a : Int) : (iI a).toBitVec.toNat = (a % 4294967296).toNat := by
  show (BitVec.ofInt 32 a).toNat = _
  rw [BitVec.toNat_ofInt]
  rfl
theorem iI_ext {x : Int32} {z : Int} (h : x.toBitVec.toNat = (z % 4294967296).toNat) : x = iI z := by
  apply Int32.toBitVec_inj.mp
  apply BitVec.eq_of_toNat_eq
  rw [h, iI_bv]
theorem iI_and (a : Int) {m : Int} (k : Nat) (hk : k ≤ 30) (hm : m = 2 ^ k - 1) : iI a &&& iI m = iI (a % 2 ^ k) := by
  have hp : (2 : Int) ^ k ≤ 1073741824 := by
    have h1 : (2 : Nat) ^ k ≤ 2 ^ 30 := Nat.pow_le_pow_right (by decide) hk
    have h2 : ((2 ^ k : Nat) : Int) ≤ ((2 ^ 30 : Nat) : Int) := Int.ofNat_le.mpr h1
    have h3 : ((2 ^ k : Nat) : Int) = (2 : Int) ^ k := by push_cast; rfl
    have h4 : ((2 ^ 30 : Nat) : Int) = 1073741824 := by decide
    rw [h3, h4] at h2
    exact h2
  have hp0 : (0 : Int) < 2 ^ k := Int.pow_pos (by decide)
  have hmm : (iI m).toBitVec.toNat = 2 ^ k - 1 := by
    rw [iI_bv, hm, Int.emod_eq_of_lt (by omega) (by omega)]
    have h3 : ((2 ^ k : Nat) : Int) = (2 : Int) ^ k := by push_cast; rfl
    rw [← h3]
    have h5 : 0 < 2 ^ k := Nat.pow_pos (by decide)
    omega
  rw [pk_and (iI a) k hmm, iI_bv, iI_nat]
  congr 1
  have h3 : ((2 ^ k : Nat) : Int) = (2 : Int) ^ k := by push_cast; rfl
  have h6 : (2 : Int) ^ k ∣ 4294967296 := ⟨2 ^ (32 - k), by
    rw [← Int.pow_add, show k + (32 - k) = 32 from by omega]; decide⟩
  rw [Int.natCast_emod, Int.toNat_of_nonneg (Int.emod_nonneg _ (by decide)), h3, Int.emod_emod_of_dvd _ h6]
theorem iI_smod : ∀ s : Fin 32, ((iI (s.val : Int) &&& 31).toBitVec.smod 32).toNat = s.val := by decide +kernel
theorem iI_smod' {s : Int} (h0 : 0 ≤ s) (h1 : s ≤ 31) : ((iI s &&& 31).toBitVec.smod 32).toNat = s.toNat := by
  have := iI_smod ⟨s.toNat, by omega⟩
  rw [show ((⟨s.toNat, by omega⟩ : Fin 32).val : Int) = s from by show (s.toNat : Int) = s; omega] at this
  exact this
theorem iI_shr {a s : Int} (ha : InR a) (h0 : 0 ≤ s) (h1 : s ≤ 31) : iI a >>> (iI s &&& 31) = iI (a / 2 ^ s.toNat) := by
  have h := pk_shr (iI a) (iI s &&& 31) s.toNat (iI_smod' h0 h1)
  rw [iI_toInt ha, Int.shiftRight_eq_div_pow] at h
  rw [← iI_self (iI a >>> (iI s &&& 31)), h]
  rfl
theorem iI_shl {a s : Int} (h0 : 0 ≤ s) (h1 : s ≤ 31) : iI a <<< (iI s &&& 31) = iI (a * 2 ^ s.toNat) := by
  apply iI_ext
  rw [pk_shl (iI a) (iI s &&& 31) s.toNat (iI_smod' h0 h1), iI_bv]
  have h3 : ((2 ^ s.toNat : Nat) : Int) = (2 : Int) ^ s.toNat := by push_cast; rfl
  have h4 : (((a % 4294967296).toNat * 2 ^ s.toNat % 2 ^ 32 : Nat) : Int) = a * 2 ^ s.toNat % 4294967296 := by
    rw [Int.natCast_emod, Int.natCast_mul, h3, Int.toNat_of_nonneg (Int.emod_nonneg _ (by decide)), show ((2 ^ 32 : Nat) : Int) = 4294967296 from by decide, Int.mul_emod, Int.emod_emod_of_dvd _ (Int.dvd_refl _), ← Int.mul_emod]
  have h5 : 0 ≤ a * 2 ^ s.toNat % 4294967296 := Int.emod_nonneg _ (by decide)
  omega
theorem iI_ushr_s : ∀ s : Fin 32, (((iI (s.val : Int)).toUInt32 &&& Int32.toUInt32 31).toBitVec % 32).toNat = s.val := by decide +kernel
theorem iI_ushr {a s : Int} (h0 : 0 ≤ s) (h1 : s ≤ 31) : ((iI a).toUInt32 >>> ((iI s).toUInt32 &&& Int32.toUInt32 31)).toInt32 = iI (a % 4294967296 / 2 ^ s.toNat) := by
  have hs : (((iI s).toUInt32 &&& Int32.toUInt32 31).toBitVec % 32).toNat = s.toNat := by
    have := iI_ushr_s ⟨s.toNat, by omega⟩
    rw [show ((⟨s.toNat, by omega⟩ : Fin 32).val : Int) = s from by show (s.toNat : Int) = s; omega] at this
    exact this
  apply iI_ext
  rw [pk_ushr (iI a) (iI s) s.toNat hs, iI_bv]
  have hp : (0 : Int) < 2 ^ s.toNat := Int.pow_pos (by decide)
  have h0' : 0 ≤ a % 4294967296 := Int.emod_nonneg _ (by decide)
  have h1' : a % 4294967296 < 4294967296 := Int.emod_lt_of_pos _ (by decide)
  have h2' : 0 ≤ a % 4294967296 / 2 ^ s.toNat := Int.ediv_nonneg h0' (by omega)
  have h3' : a % 4294967296 / 2 ^ s.toNat ≤ a % 4294967296 := Int.ediv_le_self _ h0'
  rw [Int.emod_eq_of_lt h2' (by omega)]
  have h4 : (((a % 4294967296).toNat / 2 ^ s.toNat : Nat) : Int) = a % 4294967296 / 2 ^ s.toNat := by
    push_cast
    rw [Int.toNat_of_nonneg h0']
  omega
def xorZ (a b : Int) : Int := ((a.toNat ^^^ b.toNat : Nat) : Int)
theorem iI_xor {a b : Int} (ha : 0 ≤ a) (ha2 : a ≤ 2147483647) (hb : 0 ≤ b) (hb2 : b ≤ 2147483647) : iI a ^^^ iI b = iI (xorZ a b) := by
  apply iI_ext
  have hx : (a.toNat ^^^ b.toNat) < 2 ^ 31 := Nat.xor_lt_two_pow (by omega) (by omega)
  rw [Int32.toBitVec_xor, BitVec.toNat_xor, iI_bv, iI_bv, Int.emod_eq_of_lt ha (by omega), Int.emod_eq_of_lt hb (by omega)]
  unfold xorZ
  rw [Int.emod_eq_of_lt (by omega) (by omega)]
  rfl
theorem xorZ_r {a b : Int} {k : Nat} (ha : 0 ≤ a) (ha2 : a < 2 ^ k) (hb : 0 ≤ b) (hb2 : b < 2 ^ k) : 0 ≤ xorZ a b ∧ xorZ a b < 2 ^ k := by
  have h3 : ((2 ^ k : Nat) : Int) = (2 : Int) ^ k := by push_cast; rfl
  rw [← h3] at ha2 hb2 ⊢
  have hx : (a.toNat ^^^ b.toNat) < 2 ^ k := Nat.xor_lt_two_pow (by omega) (by omega)
  unfold xorZ
  omega
theorem iI_and8 (a : Int) : iI a &&& iI 255 = iI (a % 256) := iI_and a 8 (by decide) (by decide)
theorem iI_and4 (a : Int) : iI a &&& iI 15 = iI (a % 16) := iI_and a 4 (by decide) (by decide)
theorem iI_and6 (a : Int) : iI a &&& iI 63 = iI (a % 64) := iI_and a 6 (by decide) (by decide)
theorem iI_and1 (a : Int) : iI a &&& iI 1 = iI (a % 2) := iI_and a 1 (by decide) (by decide)
