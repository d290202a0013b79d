/-! ===== quotients of whole numbers are no NaN ===== -/
section Fp
theorem fp_log {n : Nat} (h : n ≠ 0) : Jvm.FP.Core.leading n 1 = (n.log2 : Int) := by
  have e1 : Nat.log2 1 = 0 := by decide
  have h2 : 2 ^ n.log2 ≤ n := Nat.log2_self_le h
  unfold Jvm.FP.Core.leading
  rw [e1]
  have k1 : (((n.log2 : Nat) : Int) - ((0 : Nat) : Int)).toNat = n.log2 := by omega
  have k2 : (-(((n.log2 : Nat) : Int) - ((0 : Nat) : Int))).toNat = 0 := by omega
  dsimp only
  rw [k1, k2, Nat.one_mul, Nat.pow_zero, Nat.mul_one, if_pos h2]
  omega
theorem fp_int {f : Jvm.FP.Core.Fmt} {n : Nat} (hn : n ≠ 0) (h2 : n < 2 ^ f.p) (hp : 1 ≤ f.p) (hq : f.qmin ≤ 1 - (f.p : Int)) (hm : 0 ≤ f.qmax) : Jvm.FP.Core.round f (Jvm.FP.Core.ofInt (n : Int)) = .fin false (n * 2 ^ (f.p - 1 - n.log2)) ((n.log2 : Int) - ((f.p : Int) - 1)) ∧ 2 ^ (f.p - 1) ≤ n * 2 ^ (f.p - 1 - n.log2) ∧ n * 2 ^ (f.p - 1 - n.log2) < 2 ^ f.p ∧ n.log2 < f.p := by
  have hl : n.log2 < f.p := (Nat.log2_lt hn).mpr h2
  have l1 : 2 ^ n.log2 ≤ n := Nat.log2_self_le hn
  have l2 : n < 2 ^ (n.log2 + 1) := Nat.lt_log2_self
  have b1 : 2 ^ (f.p - 1) ≤ n * 2 ^ (f.p - 1 - n.log2) := by
    have e : 2 ^ (f.p - 1) = 2 ^ n.log2 * 2 ^ (f.p - 1 - n.log2) := by rw [← Nat.pow_add]; congr 1; omega
    rw [e]
    exact Nat.mul_le_mul_right _ l1
  have b2 : n * 2 ^ (f.p - 1 - n.log2) < 2 ^ f.p := by
    have e : 2 ^ f.p = 2 ^ (n.log2 + 1) * 2 ^ (f.p - 1 - n.log2) := by rw [← Nat.pow_add]; congr 1; omega
    rw [e]
    exact Nat.mul_lt_mul_of_pos_right l2 (Nat.pow_pos (by decide))
  refine ⟨?_, b1, b2, hl⟩
  have hs : decide ((n : Int) < 0) = false := decide_eq_false (by omega)
  show Jvm.FP.Core.roundRatio f (decide ((n : Int) < 0)) (n : Int).natAbs 1 0 = _
  rw [hs, Int.natAbs_natCast]
  unfold Jvm.FP.Core.roundRatio
  rw [if_neg hn]
  have hqu : Jvm.FP.Core.quantum f n 1 0 = (n.log2 : Int) - ((f.p : Int) - 1) := by
    unfold Jvm.FP.Core.quantum
    rw [fp_log hn]
    omega
  unfold Jvm.FP.Core.roundAt
  rw [hqu]
  have un : Jvm.FP.Core.unitsNum n 0 ((n.log2 : Int) - ((f.p : Int) - 1)) = n * 2 ^ (f.p - 1 - n.log2) := by
    unfold Jvm.FP.Core.unitsNum
    rw [show (0 - ((n.log2 : Int) - ((f.p : Int) - 1))).toNat = f.p - 1 - n.log2 from by omega]
  have ud : Jvm.FP.Core.unitsDen 1 0 ((n.log2 : Int) - ((f.p : Int) - 1)) = 1 := by
    unfold Jvm.FP.Core.unitsDen
    rw [show ((n.log2 : Int) - ((f.p : Int) - 1) - 0).toNat = 0 from by omega]
  rw [un, ud]
  have ne : Jvm.FP.Core.nearest (n * 2 ^ (f.p - 1 - n.log2)) 1 = n * 2 ^ (f.p - 1 - n.log2) := by
    unfold Jvm.FP.Core.nearest
    rw [Nat.mod_one, if_pos (by decide), Nat.div_one]
  rw [ne]
  unfold Jvm.FP.Core.settle
  rw [if_pos b2]
  unfold Jvm.FP.Core.bound
  rw [if_pos (by omega)]
/-- what a rounded number is -/
def OKd (f : Jvm.FP.Core.Fmt) : Jvm.FP.Core.Datum → Prop
  | .nan => False
  | .inf _ => True
  | .fin _ c q => c < 2 ^ f.p ∧ q ≤ f.qmax
theorem fp_round {f : Jvm.FP.Core.Fmt} (ht : f.tails < 2 ^ f.p) (hq : f.qmin ≤ f.qmax) (s : Bool) (a b : Nat) (e : Int) : OKd f (Jvm.FP.Core.roundRatio f s a b e) := by
  unfold Jvm.FP.Core.roundRatio
  split
  · exact ⟨Nat.pow_pos (by decide), hq⟩
  · unfold Jvm.FP.Core.roundAt Jvm.FP.Core.settle
    split
    · rename_i h
      unfold Jvm.FP.Core.bound
      split
      · exact ⟨h, by assumption⟩
      · exact True.intro
    · unfold Jvm.FP.Core.bound
      split
      · exact ⟨ht, by assumption⟩
      · exact True.intro
theorem fp_quot {f : Jvm.FP.Core.Fmt} (ht : f.tails < 2 ^ f.p) (hq : f.qmin ≤ f.qmax) {s t : Bool} {c d : Nat} {q r : Int} (hd : d ≠ 0) : OKd f (Jvm.FP.Core.quotient f (.fin s c q) (.fin t d r)) := by
  show OKd f (if d = 0 then (if c = 0 then .nan else .inf (s != t)) else Jvm.FP.Core.roundRatio f (s != t) c d (q - r))
  rw [if_neg hd]
  exact fp_round ht hq _ _ _ _
theorem fp_dec32 {n : Nat} (h2 : n < 16777216) : Jvm.FP.Core.fromInt Jvm.FP.Core.b32 (n : Int) < 4294967296 ∧ ∃ c q, Jvm.FP.Core.decode Jvm.FP.Core.b32 (Jvm.FP.Core.fromInt Jvm.FP.Core.b32 (n : Int)) = .fin false c q ∧ (n ≠ 0 → c ≠ 0) := by
  by_cases hn : n = 0
  · subst hn
    refine ⟨by decide +kernel, 0, Jvm.FP.Core.b32.qmin, by decide +kernel, fun z => absurd rfl z⟩
  obtain ⟨e, b1, b2, hl⟩ := fp_int (f := Jvm.FP.Core.b32) hn h2 (by decide) (by decide +kernel) (by decide +kernel)
  have b1 : 8388608 ≤ n * 2 ^ (Jvm.FP.Core.b32.p - 1 - n.log2) := b1
  have b2 : n * 2 ^ (Jvm.FP.Core.b32.p - 1 - n.log2) < 16777216 := b2
  have hl : n.log2 < 24 := hl
  unfold Jvm.FP.Core.fromInt
  rw [e]
  obtain ⟨m, hm⟩ : ∃ m, m = n * 2 ^ (Jvm.FP.Core.b32.p - 1 - n.log2) := ⟨_, rfl⟩
  rw [← hm] at b1 b2 ⊢
  have en : Jvm.FP.Core.encode Jvm.FP.Core.b32 (.fin false m ((n.log2 : Int) - ((Jvm.FP.Core.b32.p : Nat) - 1 : Int))) = (n.log2 + 127) * 8388608 + (m - 8388608) := by
    show (if m < 8388608 then _ else Jvm.FP.Core.assemble Jvm.FP.Core.b32 false (((n.log2 : Int) - ((24 : Nat) - 1 : Int)) - Jvm.FP.Core.b32.qmin).toNat.succ (m - 8388608)) = _
    rw [if_neg (by omega), show Jvm.FP.Core.b32.qmin = -149 from by decide +kernel]
    show (0 * 256 + (((n.log2 : Int) - ((24 : Nat) - 1 : Int)) - -149).toNat.succ) * 8388608 + (m - 8388608) = _
    rw [show (((n.log2 : Int) - ((24 : Nat) - 1 : Int)) - -149).toNat.succ = n.log2 + 127 from by omega]
    omega
  rw [en]
  refine ⟨by omega, ?_⟩
  have fE : Jvm.FP.Core.fieldE Jvm.FP.Core.b32 ((n.log2 + 127) * 8388608 + (m - 8388608)) = n.log2 + 127 := by
    show ((n.log2 + 127) * 8388608 + (m - 8388608)) / 8388608 % 256 = _
    omega
  have fS : Jvm.FP.Core.fieldS Jvm.FP.Core.b32 ((n.log2 + 127) * 8388608 + (m - 8388608)) = false := by
    show (((n.log2 + 127) * 8388608 + (m - 8388608)) / 8388608 / 256 % 2 == 1) = false
    rw [show ((n.log2 + 127) * 8388608 + (m - 8388608)) / 8388608 / 256 % 2 = 0 from by omega]
    rfl
  unfold Jvm.FP.Core.decode
  rw [fE, fS, if_neg (by show ¬ n.log2 + 127 = 256 - 1; omega), if_neg (by omega)]
  exact ⟨_, _, rfl, fun _ => by show 8388608 + _ ≠ 0; omega⟩
theorem fp_enc32 {d : Jvm.FP.Core.Datum} (h : OKd Jvm.FP.Core.b32 d) : Jvm.FP.Core.encode Jvm.FP.Core.b32 d < 4294967296 ∧ Jvm.FP.Core.encode Jvm.FP.Core.b32 d % 2147483648 ≤ 2139095040 := by
  match d, h with
  | .inf s, _ =>
    have hs : s.toNat ≤ 1 := Bool.toNat_le s
    show (s.toNat * 256 + 255) * 8388608 + 0 < 4294967296 ∧ ((s.toNat * 256 + 255) * 8388608 + 0) % 2147483648 ≤ 2139095040
    omega
  | .fin s c q, h =>
    have hs : s.toNat ≤ 1 := Bool.toNat_le s
    have h1 : c < 16777216 := h.1
    have h2 : q ≤ Jvm.FP.Core.b32.qmax := h.2
    rw [show Jvm.FP.Core.b32.qmax = 104 from by decide +kernel] at h2
    show (if c < 8388608 then (s.toNat * 256 + 0) * 8388608 + c else (s.toNat * 256 + ((q - Jvm.FP.Core.b32.qmin).toNat + 1)) * 8388608 + (c - 8388608)) < 4294967296 ∧ (if c < 8388608 then (s.toNat * 256 + 0) * 8388608 + c else (s.toNat * 256 + ((q - Jvm.FP.Core.b32.qmin).toNat + 1)) * 8388608 + (c - 8388608)) % 2147483648 ≤ 2139095040
    rw [show Jvm.FP.Core.b32.qmin = -149 from by decide +kernel]
    split <;> omega
theorem fp_div32 {a b : Nat} (ha : a < 16777216) (hb : b < 16777216) (h0 : b ≠ 0) : Jvm.FP.Core.encode Jvm.FP.Core.b32 (Jvm.FP.Core.quotient Jvm.FP.Core.b32 (Jvm.FP.Core.decode Jvm.FP.Core.b32 (Jvm.FP.Core.fromInt Jvm.FP.Core.b32 (a : Int))) (Jvm.FP.Core.decode Jvm.FP.Core.b32 (Jvm.FP.Core.fromInt Jvm.FP.Core.b32 (b : Int)))) < 4294967296 ∧ Jvm.FP.Core.encode Jvm.FP.Core.b32 (Jvm.FP.Core.quotient Jvm.FP.Core.b32 (Jvm.FP.Core.decode Jvm.FP.Core.b32 (Jvm.FP.Core.fromInt Jvm.FP.Core.b32 (a : Int))) (Jvm.FP.Core.decode Jvm.FP.Core.b32 (Jvm.FP.Core.fromInt Jvm.FP.Core.b32 (b : Int)))) % 2147483648 ≤ 2139095040 := by
  obtain ⟨_, c, q, ea, _⟩ := fp_dec32 ha
  obtain ⟨_, d, r, eb, hd⟩ := fp_dec32 hb
  rw [ea, eb]
  exact fp_enc32 (fp_quot (by decide +kernel) (by decide +kernel) (hd h0))
theorem fp_dec64 {n : Nat} (h2 : n < 9007199254740992) : Jvm.FP.Core.fromInt Jvm.FP.Core.b64 (n : Int) < 18446744073709551616 ∧ ∃ c q, Jvm.FP.Core.decode Jvm.FP.Core.b64 (Jvm.FP.Core.fromInt Jvm.FP.Core.b64 (n : Int)) = .fin false c q ∧ (n ≠ 0 → c ≠ 0) := by
  by_cases hn : n = 0
  · subst hn
    refine ⟨by decide +kernel, 0, Jvm.FP.Core.b64.qmin, by decide +kernel, fun z => absurd rfl z⟩
  obtain ⟨e, b1, b2, hl⟩ := fp_int (f := Jvm.FP.Core.b64) hn h2 (by decide) (by decide +kernel) (by decide +kernel)
  have b1 : 4503599627370496 ≤ n * 2 ^ (Jvm.FP.Core.b64.p - 1 - n.log2) := b1
  have b2 : n * 2 ^ (Jvm.FP.Core.b64.p - 1 - n.log2) < 9007199254740992 := b2
  have hl : n.log2 < 53 := hl
  unfold Jvm.FP.Core.fromInt
  rw [e]
  obtain ⟨m, hm⟩ : ∃ m, m = n * 2 ^ (Jvm.FP.Core.b64.p - 1 - n.log2) := ⟨_, rfl⟩
  rw [← hm] at b1 b2 ⊢
  have en : Jvm.FP.Core.encode Jvm.FP.Core.b64 (.fin false m ((n.log2 : Int) - ((Jvm.FP.Core.b64.p : Nat) - 1 : Int))) = (n.log2 + 1023) * 4503599627370496 + (m - 4503599627370496) := by
    show (if m < 4503599627370496 then _ else Jvm.FP.Core.assemble Jvm.FP.Core.b64 false (((n.log2 : Int) - ((53 : Nat) - 1 : Int)) - Jvm.FP.Core.b64.qmin).toNat.succ (m - 4503599627370496)) = _
    rw [if_neg (by omega), show Jvm.FP.Core.b64.qmin = -1074 from by decide +kernel]
    show (0 * 2048 + (((n.log2 : Int) - ((53 : Nat) - 1 : Int)) - -1074).toNat.succ) * 4503599627370496 + (m - 4503599627370496) = _
    rw [show (((n.log2 : Int) - ((53 : Nat) - 1 : Int)) - -1074).toNat.succ = n.log2 + 1023 from by omega]
    omega
  rw [en]
  refine ⟨by omega, ?_⟩
  have fE : Jvm.FP.Core.fieldE Jvm.FP.Core.b64 ((n.log2 + 1023) * 4503599627370496 + (m - 4503599627370496)) = n.log2 + 1023 := by
    show ((n.log2 + 1023) * 4503599627370496 + (m - 4503599627370496)) / 4503599627370496 % 2048 = _
    omega
  have fS : Jvm.FP.Core.fieldS Jvm.FP.Core.b64 ((n.log2 + 1023) * 4503599627370496 + (m - 4503599627370496)) = false := by
    show (((n.log2 + 1023) * 4503599627370496 + (m - 4503599627370496)) / 4503599627370496 / 2048 % 2 == 1) = false
    rw [show ((n.log2 + 1023) * 4503599627370496 + (m - 4503599627370496)) / 4503599627370496 / 2048 % 2 = 0 from by omega]
    rfl
  unfold Jvm.FP.Core.decode
  rw [fE, fS, if_neg (by show ¬ n.log2 + 1023 = 2048 - 1; omega), if_neg (by omega)]
  exact ⟨_, _, rfl, fun _ => by show 4503599627370496 + _ ≠ 0; omega⟩
theorem fp_enc64 {d : Jvm.FP.Core.Datum} (h : OKd Jvm.FP.Core.b64 d) : Jvm.FP.Core.encode Jvm.FP.Core.b64 d < 18446744073709551616 ∧ Jvm.FP.Core.encode Jvm.FP.Core.b64 d % 9223372036854775808 ≤ 9218868437227405312 := by
  match d, h with
  | .inf s, _ =>
    have hs : s.toNat ≤ 1 := Bool.toNat_le s
    show (s.toNat * 2048 + 2047) * 4503599627370496 + 0 < 18446744073709551616 ∧ ((s.toNat * 2048 + 2047) * 4503599627370496 + 0) % 9223372036854775808 ≤ 9218868437227405312
    omega
  | .fin s c q, h =>
    have hs : s.toNat ≤ 1 := Bool.toNat_le s
    have h1 : c < 9007199254740992 := h.1
    have h2 : q ≤ Jvm.FP.Core.b64.qmax := h.2
    rw [show Jvm.FP.Core.b64.qmax = 971 from by decide +kernel] at h2
    show (if c < 4503599627370496 then (s.toNat * 2048 + 0) * 4503599627370496 + c else (s.toNat * 2048 + ((q - Jvm.FP.Core.b64.qmin).toNat + 1)) * 4503599627370496 + (c - 4503599627370496)) < 18446744073709551616 ∧ (if c < 4503599627370496 then (s.toNat * 2048 + 0) * 4503599627370496 + c else (s.toNat * 2048 + ((q - Jvm.FP.Core.b64.qmin).toNat + 1)) * 4503599627370496 + (c - 4503599627370496)) % 9223372036854775808 ≤ 9218868437227405312
    rw [show Jvm.FP.Core.b64.qmin = -1074 from by decide +kernel]
    split <;> omega
theorem fp_div64 {a b : Nat} (ha : a < 9007199254740992) (hb : b < 9007199254740992) (h0 : b ≠ 0) : Jvm.FP.Core.encode Jvm.FP.Core.b64 (Jvm.FP.Core.quotient Jvm.FP.Core.b64 (Jvm.FP.Core.decode Jvm.FP.Core.b64 (Jvm.FP.Core.fromInt Jvm.FP.Core.b64 (a : Int))) (Jvm.FP.Core.decode Jvm.FP.Core.b64 (Jvm.FP.Core.fromInt Jvm.FP.Core.b64 (b : Int)))) < 18446744073709551616 ∧ Jvm.FP.Core.encode Jvm.FP.Core.b64 (Jvm.FP.Core.quotient Jvm.FP.Core.b64 (Jvm.FP.Core.decode Jvm.FP.Core.b64 (Jvm.FP.Core.fromInt Jvm.FP.Core.b64 (a : Int))) (Jvm.FP.Core.decode Jvm.FP.Core.b64 (Jvm.FP.Core.fromInt Jvm.FP.Core.b64 (b : Int)))) % 9223372036854775808 ≤ 9218868437227405312 := by
  obtain ⟨_, c, q, ea, _⟩ := fp_dec64 ha
  obtain ⟨_, d, r, eb, hd⟩ := fp_dec64 hb
  rw [ea, eb]
  exact fp_enc64 (fp_quot (by decide +kernel) (by decide +kernel) (hd h0))
end Fp
theorem fdiv_ok {a b : Int} (ha : 0 ≤ a ∧ a < 16777216) (hb : 0 < b ∧ b < 16777216) : vf_n32 (FP.fdiv (FP.i2f (iI a)) (FP.i2f (iI b))) := by
  have ia : (iI a).toInt = a := iI_toInt ⟨by omega, by omega⟩
  have ib : (iI b).toInt = b := iI_toInt ⟨by omega, by omega⟩
  obtain ⟨m, rfl⟩ : ∃ m : Nat, a = m := ⟨a.toNat, by omega⟩
  obtain ⟨n, rfl⟩ : ∃ n : Nat, b = n := ⟨b.toNat, by omega⟩
  obtain ⟨e1, e2⟩ := fp_div32 (a := m) (b := n) (by omega) (by omega) (by omega)
  have f1 := (fp_dec32 (n := m) (by omega)).1
  have f2 := (fp_dec32 (n := n) (by omega)).1
  have t : ∀ N : Nat, N < 4294967296 → (UInt32.ofNat N).toNat = N := fun N h => by rw [UInt32.toNat_ofNat']; exact Nat.mod_eq_of_lt h
  show (UInt32.ofNat (Jvm.FP.Core.encode Jvm.FP.Core.b32 (Jvm.FP.Core.quotient Jvm.FP.Core.b32 (Jvm.FP.Core.decode Jvm.FP.Core.b32 (UInt32.ofNat (Jvm.FP.Core.fromInt Jvm.FP.Core.b32 (iI (m : Int)).toInt)).toNat) (Jvm.FP.Core.decode Jvm.FP.Core.b32 (UInt32.ofNat (Jvm.FP.Core.fromInt Jvm.FP.Core.b32 (iI (n : Int)).toInt)).toNat)))) &&& 0x7fffffff ≤ 0x7f800000
  rw [ia, ib, t _ f1, t _ f2, UInt32.le_iff_toNat_le, UInt32.toNat_and, t _ e1]
  have k := Nat.and_two_pow_sub_one_eq_mod (Jvm.FP.Core.encode Jvm.FP.Core.b32 (Jvm.FP.Core.quotient Jvm.FP.Core.b32 (Jvm.FP.Core.decode Jvm.FP.Core.b32 (Jvm.FP.Core.fromInt Jvm.FP.Core.b32 (m : Int))) (Jvm.FP.Core.decode Jvm.FP.Core.b32 (Jvm.FP.Core.fromInt Jvm.FP.Core.b32 (n : Int))))) 31
  exact Nat.le_trans (Nat.le_of_eq k) e2
theorem ddiv_ok {a b : Int} (ha : 0 ≤ a ∧ a < 2147483648) (hb : 0 < b ∧ b < 2147483648) : vf_n64 (FP.ddiv (FP.i2d (iI a)) (FP.i2d (iI b))) := by
  have ia : (iI a).toInt = a := iI_toInt ⟨by omega, by omega⟩
  have ib : (iI b).toInt = b := iI_toInt ⟨by omega, by omega⟩
  obtain ⟨m, rfl⟩ : ∃ m : Nat, a = m := ⟨a.toNat, by omega⟩
  obtain ⟨n, rfl⟩ : ∃ n : Nat, b = n := ⟨b.toNat, by omega⟩
  obtain ⟨e1, e2⟩ := fp_div64 (a := m) (b := n) (by omega) (by omega) (by omega)
  have f1 := (fp_dec64 (n := m) (by omega)).1
  have f2 := (fp_dec64 (n := n) (by omega)).1
  have t : ∀ N : Nat, N < 18446744073709551616 → (UInt64.ofNat N).toNat = N := fun N h => by rw [UInt64.toNat_ofNat']; exact Nat.mod_eq_of_lt h
  show (UInt64.ofNat (Jvm.FP.Core.encode Jvm.FP.Core.b64 (Jvm.FP.Core.quotient Jvm.FP.Core.b64 (Jvm.FP.Core.decode Jvm.FP.Core.b64 (UInt64.ofNat (Jvm.FP.Core.fromInt Jvm.FP.Core.b64 (iI (m : Int)).toInt)).toNat) (Jvm.FP.Core.decode Jvm.FP.Core.b64 (UInt64.ofNat (Jvm.FP.Core.fromInt Jvm.FP.Core.b64 (iI (n : Int)).toInt)).toNat)))) &&& 0x7fffffffffffffff ≤ 0x7ff0000000000000
  rw [ia, ib, t _ f1, t _ f2, UInt64.le_iff_toNat_le, UInt64.toNat_and, t _ e1]
  have k := Nat.and_two_pow_sub_one_eq_mod (Jvm.FP.Core.encode Jvm.FP.Core.b64 (Jvm.FP.Core.quotient Jvm.FP.Core.b64 (Jvm.FP.Core.decode Jvm.FP.Core.b64 (Jvm.FP.Core.fromInt Jvm.FP.Core.b64 (m : Int))) (Jvm.FP.Core.decode Jvm.FP.Core.b64 (Jvm.FP.Core.fromInt Jvm.FP.Core.b64 (n : Int))))) 63
  exact Nat.le_trans (Nat.le_of_eq k) e2
def errV (A : AV) : UInt32 := if A 0 10 = 0 then FP.fconst0 else FP.fdiv (FP.i2f (iI (A 0 11 + A 0 14))) (FP.i2f (iI (A 0 10)))
def thrV (A : AV) (z : Int) : UInt64 := if A 0 7 = 0 then FP.dconst0 else FP.ddiv (FP.i2d (iI z)) (FP.i2d (iI (A 0 7)))
section FpAsk
variable {l : LX} {q : Nat} {I : Nat → Int → Int} {v : Int} {S : GS}
theorem ack_b {A : AV} {c : Int} (h : AINV A c) : 0 ≤ ackA A ∧ ackA A ≤ 192 := by
  have hf := h.fr; have hm := h.ms
  have := sumF_b (g := fun f => if A 7 f = 1 then A 6 f - 2 else 0) (z := 4) (by decide) (A 0 6).toNat (fun i h0 h1 => by
    have := (h.frm i h0 (by omega)).1
    split <;> omega)
  unfold ackA
  omega
theorem dt125 (hl : l.1.stackTraces = false) (hq : 181 ≤ q) (h : CREL I S) (hS : GOK S) : DT l 125 [.ref 0] (mm q I v false) 0 0 (.inl (some (.float (errV (gA S)))), mm q I v false) := by
  have hi := h.inv hS
  have hs := hi.sc
  have hcB : cB = 2450880 := rfl
  have k0 : 0 ≤ I 150 0 ∧ I 150 0 ≤ I 136 4 := hi.ct 0 (by decide)
  have k1 : 0 ≤ I 150 1 ∧ I 150 1 ≤ I 136 4 := hi.ct 1 (by decide)
  have k4 : 0 ≤ I 150 4 ∧ I 150 4 ≤ I 136 4 := hi.ct 4 (by decide)
  have e0 : gA S 0 10 = I 150 0 := by rw [← h.1.1, vr10]
  have e1 : gA S 0 11 = I 150 1 := by rw [← h.1.1, vr11]
  have e2 : gA S 0 14 = I 150 4 := by rw [← h.1.1, vr14]
  unfold errV
  rw [e0, e1, e2]
  refine mkdt hl (by decide) (Nat.le_of_ble_eq_true rfl) (L := [some (.ref 0), none]) rfl ?_
  refine x_aload_n (pc := 0) rfl d125_0 ?_
  refine m_getR (pc := 1) f125_54 (by decide +kernel) (ko0 (by omega)) rr0_6 d125_1 ?_
  refine m_getR (pc := 4) f125_267 (by decide +kernel) (ko136 (by omega)) rr136_12 d125_4 ?_
  refine x_astore_n (pc := 7) (by decide +kernel) rfl d125_7 ?_
  dsimp only [List.set]
  refine x_aload_n (pc := 8) rfl d125_8 ?_
  refine m_getI (pc := 9) (z := 0) f125_271 (by decide +kernel) rfl (ko150 (by omega)) d125_9 ?_
  refine x_if_ne (pc := 12) (tgt := 17) ⟨by omega, by omega⟩ d125_12 (by decide) (fun g12 => ?_) (fun g12 => ?_)
  · refine x_aload_n (pc := 17) rfl d125_17 ?_
    refine m_getI (pc := 18) (z := 1) f125_276 (by decide +kernel) rfl (ko150 (by omega)) d125_18 ?_
    refine x_aload_n (pc := 21) rfl d125_21 ?_
    refine m_getI (pc := 22) (z := 4) f125_282 (by decide +kernel) rfl (ko150 (by omega)) d125_22 ?_
    refine x_iadd (pc := 25) d125_25 ?_
    refine x_i2f (pc := 26) d125_26 ?_
    refine x_aload_n (pc := 27) rfl d125_27 ?_
    refine m_getI (pc := 28) (z := 0) f125_271 (by decide +kernel) rfl (ko150 (by omega)) d125_28 ?_
    refine x_i2f (pc := 31) d125_31 ?_
    refine x_fdiv (pc := 32) (fdiv_ok ⟨by omega, by omega⟩ ⟨by omega, by omega⟩) d125_32 ?_
    refine x_fret (pc := 33) rfl (fun z => Bool.noConfusion z) d125_33 ?_
    rw [if_neg (by omega)]
  · refine x_fconst (pc := 15) d125_15 ?_
    refine x_fret (pc := 16) rfl (fun z => Bool.noConfusion z) d125_16 ?_
    rw [if_pos (by omega)]
theorem dt126 (hl : l.1.stackTraces = false) (hq : 181 ≤ q) (h : CREL I S) (hS : GOK S) : DT l 126 [.ref 0] (mm q I v false) 0 0 (.inl (some (.double (thrV (gA S) (ackA (gA S))))), mm q I v false) := by
  have hi := h.inv hS
  have hs := hi.sc
  have hcB : cB = 2450880 := rfl
  have ha := ack_b hi.1
  have e0 : gA S 0 7 = I 136 4 := by rw [← h.1.1, vr7]
  have e1 : gA S = Vc I 136 := h.1.1.symm
  unfold thrV
  rw [e0, e1]
  refine mkdt hl (by decide) (Nat.le_of_ble_eq_true rfl) (L := [some (.ref 0)]) rfl ?_
  refine x_aload_n (pc := 0) rfl d126_0 ?_
  refine m_getR (pc := 1) f126_54 (by decide +kernel) (ko0 (by omega)) rr0_6 d126_1 ?_
  refine m_getI (pc := 4) (z := 4) f126_143 (by decide +kernel) rfl (ko136 (by omega)) d126_4 ?_
  refine x_if_ne (pc := 7) (tgt := 12) ⟨by omega, by omega⟩ d126_7 (by decide) (fun g7 => ?_) (fun g7 => ?_)
  · refine x_aload_n (pc := 12) rfl d126_12 ?_
    refine m_getR (pc := 13) f126_54 (by decide +kernel) (ko0 (by omega)) rr0_6 d126_13 ?_
    refine m_getR (pc := 16) f126_180 (by decide +kernel) (ko136 (by omega)) rr136_11 d126_16 ?_
    refine x_cVs (pc := 19) c126_308 (dt_ackB hl (la136 (by omega)) hi) (ko143 (by omega)) rfl rfl (Nat.le_of_ble_eq_true rfl) (by decide +kernel) (by decide +kernel) rfl d126_19 ?_
    refine x_i2d (pc := 22) d126_22 ?_
    refine x_aload_n (pc := 23) rfl d126_23 ?_
    refine m_getR (pc := 24) f126_54 (by decide +kernel) (ko0 (by omega)) rr0_6 d126_24 ?_
    refine m_getI (pc := 27) (z := 4) f126_143 (by decide +kernel) rfl (ko136 (by omega)) d126_27 ?_
    refine x_i2d (pc := 30) d126_30 ?_
    refine x_ddiv (pc := 31) (ddiv_ok ⟨by omega, by omega⟩ ⟨by omega, by omega⟩) d126_31 ?_
    refine x_dret (pc := 32) rfl (fun z => Bool.noConfusion z) d126_32 ?_
    rw [if_neg (by omega)]
  · refine x_dconst (pc := 10) d126_10 ?_
    refine x_dret (pc := 11) rfl (fun z => Bool.noConfusion z) d126_11 ?_
    rw [if_pos (by omega)]
end FpAsk
