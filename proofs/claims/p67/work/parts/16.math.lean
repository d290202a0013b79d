/-! ===== what both sides compute ===== -/
theorem p28 : (2 : Int) ^ 8 = 256 := by decide
def crcS (s : Int) : Int := if 128 ≤ s then xorZ (s * 2 % 256) 7 else s * 2
def crc8 : Nat → Int → Int
  | 0, s => s
  | n + 1, s => crc8 n (crcS s)
def crcB (s b : Int) : Int := crc8 8 (xorZ s b)
def crcF (B : Int → Int) : Nat → Int
  | 0 => 0
  | n + 1 => crcB (crcF B n) (B n)
theorem xorZ_b {a b : Int} (ha : 0 ≤ a) (ha2 : a ≤ 255) (hb : 0 ≤ b) (hb2 : b ≤ 255) : 0 ≤ xorZ a b ∧ xorZ a b ≤ 255 := by
  have h := xorZ_r (k := 8) ha (by rw [p28]; omega) hb (by rw [p28]; omega)
  rw [p28] at h
  omega
theorem crcS_b {s : Int} (h0 : 0 ≤ s) (h1 : s ≤ 255) : 0 ≤ crcS s ∧ crcS s ≤ 255 := by
  unfold crcS
  split
  · exact xorZ_b (by omega) (by omega) (by decide) (by decide)
  · omega
theorem crc8_b : ∀ (n : Nat) {s : Int}, 0 ≤ s → s ≤ 255 → 0 ≤ crc8 n s ∧ crc8 n s ≤ 255
  | 0, _, h0, h1 => ⟨h0, h1⟩
  | n + 1, _, h0, h1 => crc8_b n (crcS_b h0 h1).1 (crcS_b h0 h1).2
theorem crcB_b {s b : Int} (h0 : 0 ≤ s) (h1 : s ≤ 255) (hb : 0 ≤ b) (hb2 : b ≤ 255) : 0 ≤ crcB s b ∧ crcB s b ≤ 255 := crc8_b 8 (xorZ_b h0 h1 hb hb2).1 (xorZ_b h0 h1 hb hb2).2
theorem crcF_b {B : Int → Int} : ∀ (n : Nat), (∀ i : Int, 0 ≤ i → i < n → 0 ≤ B i ∧ B i ≤ 255) → 0 ≤ crcF B n ∧ crcF B n ≤ 255
  | 0, _ => ⟨Int.le_refl 0, (by decide : (0 : Int) ≤ 255)⟩
  | n + 1, h => by
    have ih := crcF_b n (fun i h0 h1 => h i h0 (by omega))
    have hb := h n (by omega) (by omega)
    exact crcB_b ih.1 ih.2 hb.1 hb.2
theorem crcF_congr {B C : Int → Int} : ∀ (n : Nat), (∀ i : Int, 0 ≤ i → i < n → B i = C i) → crcF B n = crcF C n
  | 0, _ => rfl
  | n + 1, h => by
    show crcB (crcF B n) (B n) = crcB (crcF C n) (C n)
    rw [crcF_congr n (fun i h0 h1 => h i h0 (by omega)), h n (by omega) (by omega)]
/-- bit b of bytes S -/
def bitZ (S : Int → Int) (b : Int) : Int := S (b / 8) / 2 ^ (7 - b % 8).toNat % 2
theorem bitZ_r (S : Int → Int) (b : Int) : bitZ S b = 0 ∨ bitZ S b = 1 := by unfold bitZ; omega
/-- .. on the cable -/
def cabZ (S : Int → Int) (ch : Int → Bool) (b : Int) : Int := if ch b then 1 - bitZ S b else bitZ S b
theorem cabZ_r (S : Int → Int) (ch : Int → Bool) (b : Int) : cabZ S ch b = 0 ∨ cabZ S ch b = 1 := by
  unfold cabZ
  have := bitZ_r S b
  split <;> omega
def tkI (b dr : Int) : Int := (2 * b + 1) * (1000 + dr) / 2000
/-- the bit that is taken for bit b of n -/
def takZ (cab : Int → Int) (n dr b : Int) : Int := if tkI b dr < n then cab (tkI b dr) else 0
/-- byte k of the bits t -/
def byteN (t : Int → Int) (k : Int) : Nat → Int
  | 0 => 0
  | i + 1 => 2 * byteN t k i + t (8 * k + i)
def byteZ (t : Int → Int) (k : Int) : Int := byteN t k 8
theorem byteN_b {t : Int → Int} (ht : ∀ b, t b = 0 ∨ t b = 1) (k : Int) : ∀ n : Nat, 0 ≤ byteN t k n ∧ byteN t k n < 2 ^ n
  | 0 => ⟨Int.le_refl 0, (by decide : (0 : Int) < 2 ^ 0)⟩
  | n + 1 => by
    have ih := byteN_b ht k n
    have := ht (8 * k + n)
    show 0 ≤ 2 * byteN t k n + t (8 * k + n) ∧ 2 * byteN t k n + t (8 * k + n) < 2 ^ (n + 1)
    rw [Int.pow_succ]
    omega
theorem byteZ_b {t : Int → Int} (ht : ∀ b, t b = 0 ∨ t b = 1) (k : Int) : 0 ≤ byteZ t k ∧ byteZ t k ≤ 255 := by
  have h : byteN t k 8 < 2 ^ 8 := (byteN_b ht k 8).2
  rw [p28] at h
  have h0 := (byteN_b ht k 8).1
  unfold byteZ
  omega
/-- n bytes as they should be -/
def readZ (B : Int → Int) (n : Nat) : Bool := decide (B ((n : Int) - 1) = crcF B (n - 1)) && decide (B 0 % 16 = (n : Int) - 2)
theorem readZ_congr {B C : Int → Int} {n : Nat} (hn : 1 ≤ n) (h : ∀ i : Int, 0 ≤ i → i < n → B i = C i) : readZ B n = readZ C n := by
  unfold readZ
  rw [crcF_congr (n - 1) (fun i h0 h1 => h i h0 (by omega)), h ((n : Int) - 1) (by omega) (by omega), h 0 (by omega) (by omega)]
/-- is the acknowledgement lost -/
def ackZ (ch : Int → Bool) (n : Int) : Bool := (List.range 8).any (fun i => ch (n + i))
/-- the result of an attempt: a frame of n bytes S, chewed bits ch -/
def resZ (S : Int → Int) (n : Nat) (ch : Int → Bool) (dr : Int) : Int :=
  if readZ (byteZ (takZ (cabZ S ch) (8 * n) dr)) n then (if ackZ ch (8 * n) then 2 else 0) else 1
