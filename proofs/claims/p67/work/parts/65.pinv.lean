/-! ===== what holds of a modem in the law, beside AINV ===== -/
theorem sumF_s (g : Int → Int) (n : Nat) : sumF g (n + 1) = sumF g n + g n := rfl
/-- the frames of m messages -/
def ffM (A : AV) (m : Int) : Int := sumF (fun i => (A 4 i + 3) / 4) m.toNat
def PIb (A : AV) : Prop := (A 0 0 ≤ 5 ∧ A 0 2 ≤ 40 ∧ A 0 3 ≤ 5) ∧ A 0 8 ≤ A 0 7 + 320
def PIm (A : AV) : Prop := (∀ m, 0 ≤ m → m < A 0 5 → A 5 m = ffM A m) ∧ A 0 6 = ffM A (A 0 5)
def PIf (A : AV) : Prop := ∀ f, 0 ≤ f → f < A 0 6 → A 10 (6 * f) = f % 16 * 16 + (A 6 f - 2) ∧ crcF (SfA A f) (A 6 f).toNat = 0
def PIa (A : AV) : Prop := ∀ f, 0 ≤ f → f < A 0 6 → (A 9 f = 0 ∨ A 9 f = 1) ∧ (A 9 f = 1 → 0 < A 8 f) ∧ (A 7 f = 1 → 0 < A 8 f)
def PIc (A : AV) : Prop := A 0 10 = A 0 11 + A 0 12 + A 0 13 ∧ A 0 10 = triA A ∧ A 0 7 = (A 0 16 + 8 * A 0 10) * A 0 0 + A 0 15 + A 0 17
def PI (A : AV) : Prop := PIb A ∧ PIm A ∧ PIf A ∧ PIa A ∧ PIc A
theorem crcS_0 : crcS 0 = 0 := by decide
theorem crc8_0 : ∀ n : Nat, crc8 n 0 = 0
  | 0 => rfl
  | n + 1 => by show crc8 n (crcS 0) = 0; rw [crcS_0]; exact crc8_0 n
theorem xorZ_s {a : Int} : xorZ a a = 0 := by unfold xorZ; rw [Nat.xor_self]; rfl
theorem crcB_s (a : Int) : crcB a a = 0 := by unfold crcB; rw [xorZ_s]; exact crc8_0 8
/-- the rest of all bytes is 0: the last is the others' checksum -/
theorem crcF_all {B : Int → Int} {n : Nat} (h : B n = crcF B n) : crcF B (n + 1) = 0 := by
  show crcB (crcF B n) (B n) = 0
  rw [h]
  exact crcB_s _
theorem crcS_z : ∀ x : Nat, x < 256 → crcSn x = 0 → x = 0 := by decide +kernel
theorem crcS_i {x : Int} (h0 : 0 ≤ x) (h1 : x ≤ 255) (h : crcS x = 0) : x = 0 := by
  obtain ⟨n, rfl⟩ := toN h0
  rw [crcSn_i (by omega)] at h
  have := crcS_z n (by omega) (by omega)
  omega
theorem crc8_i : ∀ (n : Nat) {x : Int}, 0 ≤ x → x ≤ 255 → crc8 n x = 0 → x = 0
  | 0, _, _, _, h => h
  | n + 1, x, h0, h1, h => crcS_i h0 h1 (crc8_i n (crcS_b h0 h1).1 (crcS_b h0 h1).2 h)
theorem xorZ_0 {a b : Int} (ha : 0 ≤ a) (hb : 0 ≤ b) (h : xorZ a b = 0) : a = b := by
  obtain ⟨n, rfl⟩ := toN ha
  obtain ⟨p, rfl⟩ := toN hb
  rw [xorZ_n] at h
  have h2 : n ^^^ p = 0 := by omega
  have : n = p := by
    have h3 : n ^^^ p ^^^ p = 0 ^^^ p := by rw [h2]
    rw [Nat.xor_assoc, Nat.xor_self, Nat.xor_zero, Nat.zero_xor] at h3
    exact h3
  omega
theorem crcB_i {a b : Int} (ha : 0 ≤ a) (ha2 : a ≤ 255) (hb : 0 ≤ b) (hb2 : b ≤ 255) (h : crcB a b = 0) : a = b :=
  xorZ_0 ha hb (crc8_i 8 (xorZ_b ha ha2 hb hb2).1 (xorZ_b ha ha2 hb hb2).2 h)
/-- .. and the other way -/
theorem crcF_last {B : Int → Int} {n : Nat} (hB : ∀ i : Int, 0 ≤ i → i < n + 1 → 0 ≤ B i ∧ B i ≤ 255) : crcF B (n + 1) = 0 ↔ B n = crcF B n := by
  have h1 := crcF_b (B := B) n (fun i h0 h1 => hB i h0 (by omega))
  have h2 := hB n (by omega) (by omega)
  refine ⟨fun h => (crcB_i h1.1 h1.2 h2.1 h2.2 h).symm, crcF_all⟩
theorem ffM_s {A : AV} {m : Int} (h : 0 ≤ m) : ffM A (m + 1) = ffM A m + (A 4 m + 3) / 4 := by
  unfold ffM
  rw [show (m + 1).toNat = m.toNat + 1 from by omega, sumF_s, show ((m.toNat : Nat) : Int) = m from by omega]
theorem ffM_0 {A : AV} : ffM A 0 = 0 := rfl
theorem ffM_congr {A C : AV} {m : Int} (h : ∀ i, 0 ≤ i → i < m → A 4 i = C 4 i) : ffM A m = ffM C m := sumF_congr _ fun i i0 i1 => by rw [h i i0 (by omega)]
theorem ffM_up {A : AV} {m : Int} (h : ∀ i, 0 ≤ i → i < A 0 5 → 1 ≤ A 4 i) : ∀ j : Nat, (m + j ≤ A 0 5) → 0 ≤ m → ffM A m ≤ ffM A (m + j)
  | 0, _, _ => by rw [show m + ((0 : Nat) : Int) = m from by omega]; exact Int.le_refl _
  | j + 1, h1, h0 => by
    have ih := ffM_up h j (by omega) h0
    rw [show m + ((j + 1 : Nat) : Int) = m + j + 1 from by omega, ffM_s (by omega)]
    have := h (m + j) (by omega) (by omega)
    omega
theorem ffM_le {A : AV} {m : Int} (h : ∀ i, 0 ≤ i → i < A 0 5 → 1 ≤ A 4 i) (h0 : 0 ≤ m) (h1 : m ≤ A 0 5) : ffM A m ≤ ffM A (A 0 5) := by
  have := ffM_up h (A 0 5 - m).toNat (by omega) h0
  rw [show m + (((A 0 5 - m).toNat : Nat) : Int) = A 0 5 from by omega] at this
  exact this
