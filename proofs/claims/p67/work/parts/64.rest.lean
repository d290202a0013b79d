/-! ===== the law's long division, a byte at a time: it is the checksum's ===== -/
def crcSn (a : Nat) : Nat := if 128 ≤ a then a * 2 % 256 ^^^ 7 else a * 2
theorem crcSn_i {a : Nat} (h : a < 256) : crcS (a : Int) = ((crcSn a : Nat) : Int) := by
  unfold crcS crcSn xorZ
  by_cases g : 128 ≤ a
  · rw [if_pos (by omega), if_pos g, show ((a : Int) * 2 % 256).toNat = a * 2 % 256 from by omega]
    rfl
  · rw [if_neg (by omega), if_neg g]
    omega
theorem xorZ_n (a b : Nat) : xorZ (a : Int) (b : Int) = ((a ^^^ b : Nat) : Int) := rfl
set_option maxRecDepth 100000 in
theorem stp_n0 : (List.range 256).all (fun x => (List.range 256).all (fun y => Nat.beq ((x ^^^ y) * 2 % 256 ^^^ (if ((x ^^^ y) / 128 ^^^ y / 128) = 1 then 7 else 0)) (crcSn x ^^^ y * 2 % 256))) = true := by decide +kernel
set_option maxRecDepth 100000 in
theorem lin_n0 : (List.range 256).all (fun x => (List.range 256).all (fun y => Nat.beq (crcSn (x ^^^ y)) (crcSn x ^^^ crcSn y))) = true := by decide +kernel
theorem stp_n {x y : Nat} (hx : x < 256) (hy : y < 256) : (x ^^^ y) * 2 % 256 ^^^ (if ((x ^^^ y) / 128 ^^^ y / 128) = 1 then 7 else 0) = crcSn x ^^^ y * 2 % 256 := Nat.eq_of_beq_eq_true (List.all_eq_true.mp (List.all_eq_true.mp stp_n0 x (List.mem_range.mpr hx)) y (List.mem_range.mpr hy))
theorem lin_n {x y : Nat} (hx : x < 256) (hy : y < 256) : crcSn (x ^^^ y) = crcSn x ^^^ crcSn y := Nat.eq_of_beq_eq_true (List.all_eq_true.mp (List.all_eq_true.mp lin_n0 x (List.mem_range.mpr hx)) y (List.mem_range.mpr hy))
theorem toN {a : Int} (h : 0 ≤ a) : ∃ n : Nat, a = n := ⟨a.toNat, by omega⟩
/-- a step of the law's: bit k of b comes in -/
def stpZ (b x : Int) (k : Nat) : Int := xorZ (x * 2 % 256) (if xorZ (x / 128) (b / 2 ^ k % 2) = 1 then 7 else 0)
def rstN (b : Int) : Nat → Int → Int
  | 0, x => x
  | m + 1, x => rstN b m (stpZ b x m)
def restZ (r b : Int) : Int := rstN b 8 r
theorem stpZ_b {b x : Int} {k : Nat} (h0 : 0 ≤ x) (h1 : x ≤ 255) : 0 ≤ stpZ b x k ∧ stpZ b x k ≤ 255 := by
  unfold stpZ
  refine xorZ_b (by omega) (by omega) ?_ ?_ <;> split <;> decide
theorem rstN_b {b : Int} : ∀ (m : Nat) {x : Int}, 0 ≤ x → x ≤ 255 → 0 ≤ rstN b m x ∧ rstN b m x ≤ 255
  | 0, _, h0, h1 => ⟨h0, h1⟩
  | m + 1, _, h0, h1 => rstN_b m (stpZ_b h0 h1).1 (stpZ_b h0 h1).2
theorem restZ_b {r b : Int} (h0 : 0 ≤ r) (h1 : r ≤ 255) : 0 ≤ restZ r b ∧ restZ r b ≤ 255 := rstN_b 8 h0 h1
theorem xorZ_c (a b : Int) : xorZ a b = xorZ b a := by unfold xorZ; rw [Nat.xor_comm]
theorem stpZ_x {b x : Int} {y : Int} {k : Nat} (h0 : 0 ≤ x) (h1 : x ≤ 255) (hy0 : 0 ≤ y) (hy1 : y ≤ 255) (hb : b / 2 ^ k % 2 = y / 128) : stpZ b (xorZ x y) k = xorZ (crcS x) (y * 2 % 256) := by
  obtain ⟨n, rfl⟩ := toN h0
  obtain ⟨p, rfl⟩ := toN hy0
  unfold stpZ
  rw [hb, crcSn_i (by omega), xorZ_n n p]
  have h := stp_n (x := n) (y := p) (by omega) (by omega)
  rw [show ((p : Nat) : Int) / 128 = ((p / 128 : Nat) : Int) from by omega, show (((n ^^^ p : Nat) : Int) / 128) = (((n ^^^ p) / 128 : Nat) : Int) from by omega, show ((n ^^^ p : Nat) : Int) * 2 % 256 = (((n ^^^ p) * 2 % 256 : Nat) : Int) from by omega, show ((p : Nat) : Int) * 2 % 256 = ((p * 2 % 256 : Nat) : Int) from by omega, xorZ_n, xorZ_n, ← h]
  by_cases g : ((n ^^^ p) / 128 ^^^ p / 128) = 1
  · rw [if_pos (by omega), if_pos g]
    exact xorZ_n _ 7
  · rw [if_neg (by omega), if_neg g]
    exact xorZ_n _ 0
theorem crc8_s : ∀ (n : Nat) (s : Int), crc8 (n + 1) s = crcS (crc8 n s)
  | 0, _ => rfl
  | n + 1, s => crc8_s n (crcS s)
theorem rstN_x {r b : Int} (h0 : 0 ≤ r) (h1 : r ≤ 255) (hb0 : 0 ≤ b) (hb1 : b ≤ 255) : rstN b 8 r = crcB r b := by
  have hx := xorZ_b h0 h1 hb0 hb1
  have e0 : r = xorZ (crc8 0 (xorZ r b)) (b * 1 % 256) := by
    obtain ⟨n, rfl⟩ := toN h0
    obtain ⟨p, rfl⟩ := toN hb0
    show (n : Int) = xorZ (xorZ n p) ((p : Int) * 1 % 256)
    rw [xorZ_n, show (p : Int) * 1 % 256 = p from by omega, xorZ_n, Nat.xor_assoc, Nat.xor_self, Nat.xor_zero]
  have st : ∀ (j : Nat) (P : Int), (b / 2 ^ (7 - j) % 2 = b * P % 256 / 128) → ∀ x, x = xorZ (crc8 j (xorZ r b)) (b * P % 256) → stpZ b x (7 - j) = xorZ (crc8 (j + 1) (xorZ r b)) (b * (P * 2) % 256) := fun j P hP x hx9 => by
    have hc := crc8_b j hx.1 hx.2
    rw [hx9, stpZ_x hc.1 hc.2 (by omega) (by omega) hP, crc8_s, show b * (P * 2) % 256 = b * P % 256 * 2 % 256 from by rw [← Int.mul_assoc]; omega]
  have e1 := st 0 1 (by omega) _ e0
  have e2 := st 1 (1 * 2) (by omega) _ e1
  have e3 := st 2 (1 * 2 * 2) (by omega) _ e2
  have e4 := st 3 (1 * 2 * 2 * 2) (by omega) _ e3
  have e5 := st 4 (1 * 2 * 2 * 2 * 2) (by omega) _ e4
  have e6 := st 5 (1 * 2 * 2 * 2 * 2 * 2) (by omega) _ e5
  have e7 := st 6 (1 * 2 * 2 * 2 * 2 * 2 * 2) (by omega) _ e6
  have e8 := st 7 (1 * 2 * 2 * 2 * 2 * 2 * 2 * 2) (by omega) _ e7
  show stpZ b (stpZ b (stpZ b (stpZ b (stpZ b (stpZ b (stpZ b (stpZ b r 7) 6) 5) 4) 3) 2) 1) 0 = crc8 8 (xorZ r b)
  rw [e8, show b * (1 * 2 * 2 * 2 * 2 * 2 * 2 * 2 * 2) % 256 = 0 from by omega]
  have hc := crc8_b 8 hx.1 hx.2
  obtain ⟨n, hn⟩ := toN hc.1
  rw [hn]
  show xorZ (n : Int) ((0 : Nat) : Int) = n
  rw [xorZ_n, Nat.xor_zero]
theorem restZ_x {r b : Int} (h0 : 0 ≤ r) (h1 : r ≤ 255) (hb0 : 0 ≤ b) (hb1 : b ≤ 255) : restZ r b = crcB r b := rstN_x h0 h1 hb0 hb1
section Rest
variable {l : LX} {q : Nat} {I : Nat → Int → Int} {v : Int} {fr : Bool}
theorem lp_rest (hl : l.1.stackTraces = false) {b : Int} (hb0 : 0 ≤ b) (hb1 : b ≤ 255) : ∀ (m : Nat) (x : Int), m ≤ 8 → 0 ≤ x → x ≤ 255 →
    Ex l 306 0 0 5 [none, some (.int (iI b)), some (.int (iI x)), some (.int (iI ((m : Int) - 1))), none] [] (mm q I v fr) (fun o => o = (.inl (some (.int (iI (rstN b m x)))), mm q I v fr)) := by
  have p1 : (2 : Int) ^ (1 : Int).toNat = 2 := by decide
  have p7 : (2 : Int) ^ (7 : Int).toNat = 128 := by decide
  intro m
  induction m with
  | zero =>
    intro x hm h0 h1
    refine x_iload_n (pc := 5) rfl d306_5 ?_
    refine x_if_lt (pc := 6) (tgt := 48) ⟨by omega, by omega⟩ d306_6 (by decide) (fun g6 => ?_) (fun g6 => ?_)
    · refine x_iload_n (pc := 48) rfl d306_48 ?_
      refine x_iret (pc := 49) rfl (fun _ => rfl) d306_49 ?_
      rfl
    · refine x_iload_n (pc := 9) rfl d306_9 ?_
      refine x_bipush (pc := 10) (by decide) d306_10 ?_
      refine x_ishr (pc := 12) (iI_shr ⟨by omega, by omega⟩ (by omega) (by omega)) d306_12 ?_
      refine x_iload_n (pc := 13) rfl d306_13 ?_
      refine x_iload_n (pc := 14) rfl d306_14 ?_
      refine x_ishr (pc := 15) (iI_shr ⟨by omega, by omega⟩ (by omega) (by omega)) d306_15 ?_
      refine x_iconst (pc := 16) d306_16 ?_
      refine x_iand (pc := 17) (iI_and1 _) d306_17 ?_
      refine x_ixor (pc := 18) (iI_xor (by omega) (by omega) (by omega) (by omega)) d306_18 ?_
      refine x_istore (pc := 19) (by decide +kernel) rfl d306_19 ?_
      dsimp only [List.set]
      refine x_iload_n (pc := 21) rfl d306_21 ?_
      refine x_iconst (pc := 22) d306_22 ?_
      refine x_ishl (pc := 23) (iI_shl (by omega) (by omega)) d306_23 ?_
      refine x_sipush (pc := 24) (by decide) d306_24 ?_
      refine x_iand (pc := 27) (iI_and8 _) d306_27 ?_
      refine x_iload (pc := 28) rfl d306_28 ?_
      refine x_iconst (pc := 30) d306_30 ?_
      refine x_icmp_ne (pc := 31) (tgt := 39) ⟨by omega, by omega⟩ ⟨by omega, by omega⟩ d306_31 (by decide) (fun g31 => ?_) (fun g31 => ?_)
      · refine x_iconst (pc := 39) d306_39 ?_
        refine x_ixor (pc := 40) (iI_xor (by omega) (by omega) (by omega) (by omega)) d306_40 ?_
        refine x_istore_n (pc := 41) (by decide +kernel) rfl d306_41 ?_
        dsimp only [List.set]
        refine x_iinc (pc := 42) rfl (by decide +kernel) rfl d306_42 ?_
        dsimp only [List.set]
        refine x_goto (pc := 45) (tgt := 5) d306_45 (by decide) ?_
        refine x_mask [true, true, true, true, false] ?_
        dsimp only [mask]
        exfalso; omega
      · refine x_bipush (pc := 34) (by decide) d306_34 ?_
        refine x_goto (pc := 36) (tgt := 40) d306_36 (by decide) ?_
        refine x_ixor (pc := 40) (iI_xor (by omega) (by omega) (by omega) (by omega)) d306_40 ?_
        refine x_istore_n (pc := 41) (by decide +kernel) rfl d306_41 ?_
        dsimp only [List.set]
        refine x_iinc (pc := 42) rfl (by decide +kernel) rfl d306_42 ?_
        dsimp only [List.set]
        refine x_goto (pc := 45) (tgt := 5) d306_45 (by decide) ?_
        refine x_mask [true, true, true, true, false] ?_
        dsimp only [mask]
        exfalso; omega
  | succ m ih =>
    intro x hm h0 h1
    have hk : ((m + 1 : Nat) : Int) - 1 = m := by omega
    have hs := stpZ_b (b := b) (x := x) (k := m) h0 h1
    have ht := ih _ (by omega) hs.1 hs.2
    have hk2 : (m : Int) + -1 = (m : Int) - 1 := by omega
    have pm : (2 : Int) ^ ((m : Int)).toNat = 2 ^ m := by rw [Int.toNat_natCast]
    have pp : 0 < (2 : Int) ^ ((m : Int)).toNat := Int.pow_pos (by decide)
    have hg : 0 ≤ x / 2 ^ (7 : Int).toNat ∧ x / 2 ^ (7 : Int).toNat ≤ 1 := by rw [p7]; omega
    have hxr := xorZ_b (a := x / 2 ^ (7 : Int).toNat) (b := b / 2 ^ ((m : Int)).toNat % 2) hg.1 (by omega) (by omega) (by omega)
    rw [hk]
    refine x_iload_n (pc := 5) rfl d306_5 ?_
    refine x_if_lt (pc := 6) (tgt := 48) ⟨by omega, by omega⟩ d306_6 (by decide) (fun g6 => ?_) (fun g6 => ?_)
    · refine x_iload_n (pc := 48) rfl d306_48 ?_
      refine x_iret (pc := 49) rfl (fun _ => rfl) d306_49 ?_
      exfalso; omega
    · refine x_iload_n (pc := 9) rfl d306_9 ?_
      refine x_bipush (pc := 10) (by decide) d306_10 ?_
      refine x_ishr (pc := 12) (iI_shr ⟨by omega, by omega⟩ (by omega) (by omega)) d306_12 ?_
      refine x_iload_n (pc := 13) rfl d306_13 ?_
      refine x_iload_n (pc := 14) rfl d306_14 ?_
      refine x_ishr (pc := 15) (iI_shr ⟨by omega, by omega⟩ (by omega) (by omega)) d306_15 ?_
      refine x_iconst (pc := 16) d306_16 ?_
      refine x_iand (pc := 17) (iI_and1 _) d306_17 ?_
      refine x_ixor (pc := 18) (iI_xor (by omega) (by omega) (by omega) (by omega)) d306_18 ?_
      refine x_istore (pc := 19) (by decide +kernel) rfl d306_19 ?_
      dsimp only [List.set]
      refine x_iload_n (pc := 21) rfl d306_21 ?_
      refine x_iconst (pc := 22) d306_22 ?_
      refine x_ishl (pc := 23) (iI_shl (by omega) (by omega)) d306_23 ?_
      refine x_sipush (pc := 24) (by decide) d306_24 ?_
      refine x_iand (pc := 27) (iI_and8 _) d306_27 ?_
      refine x_iload (pc := 28) rfl d306_28 ?_
      refine x_iconst (pc := 30) d306_30 ?_
      refine x_icmp_ne (pc := 31) (tgt := 39) ⟨by omega, by omega⟩ ⟨by omega, by omega⟩ d306_31 (by decide) (fun g31 => ?_) (fun g31 => ?_)
      · refine x_iconst (pc := 39) d306_39 ?_
        refine x_ixor (pc := 40) (iI_xor (by omega) (by omega) (by omega) (by omega)) d306_40 ?_
        refine x_istore_n (pc := 41) (by decide +kernel) rfl d306_41 ?_
        dsimp only [List.set]
        refine x_iinc (pc := 42) rfl (by decide +kernel) rfl d306_42 ?_
        dsimp only [List.set]
        refine x_goto (pc := 45) (tgt := 5) d306_45 (by decide) ?_
        refine x_mask [true, true, true, true, false] ?_
        dsimp only [mask]
        have e : xorZ (x * 2 ^ (1 : Int).toNat % 256) 0 = stpZ b x m := by
          unfold stpZ
          rw [p7, pm] at g31
          rw [p1, if_neg g31]
        rw [e, hk2]
        exact ht
      · refine x_bipush (pc := 34) (by decide) d306_34 ?_
        refine x_goto (pc := 36) (tgt := 40) d306_36 (by decide) ?_
        refine x_ixor (pc := 40) (iI_xor (by omega) (by omega) (by omega) (by omega)) d306_40 ?_
        refine x_istore_n (pc := 41) (by decide +kernel) rfl d306_41 ?_
        dsimp only [List.set]
        refine x_iinc (pc := 42) rfl (by decide +kernel) rfl d306_42 ?_
        dsimp only [List.set]
        refine x_goto (pc := 45) (tgt := 5) d306_45 (by decide) ?_
        refine x_mask [true, true, true, true, false] ?_
        dsimp only [mask]
        have e : xorZ (x * 2 ^ (1 : Int).toNat % 256) 7 = stpZ b x m := by
          unfold stpZ
          rw [p7, pm] at g31
          rw [p1, if_pos g31]
        rw [e, hk2]
        exact ht
theorem dt_rest (hl : l.1.stackTraces = false) {r b : Int} (h0 : 0 ≤ r) (h1 : r ≤ 255) (hb0 : 0 ≤ b) (hb1 : b ≤ 255) : DT l 306 [.int (iI r), .int (iI b)] (mm q I v fr) 0 0 (.inl (some (.int (iI (crcB r b)))), mm q I v fr) := by
  have hp := lp_rest (q := q) (I := I) (v := v) (fr := fr) hl hb0 hb1 8 r (by decide) h0 h1
  rw [show rstN b 8 r = crcB r b from rstN_x h0 h1 hb0 hb1, show ((8 : Nat) : Int) - 1 = 7 from by decide] at hp
  refine mkdt hl (by decide) (Nat.le_of_ble_eq_true rfl) (L := [some (.int (iI r)), some (.int (iI b)), none, none, none]) rfl ?_
  refine x_iload_n (pc := 0) rfl d306_0 ?_
  refine x_istore_n (pc := 1) (by decide +kernel) rfl d306_1 ?_
  dsimp only [List.set]
  refine x_bipush (pc := 2) (by decide) d306_2 ?_
  refine x_istore_n (pc := 4) (by decide +kernel) rfl d306_4 ?_
  dsimp only [List.set]
  refine x_mask [false, true, true, true, true] ?_
  dsimp only [mask]
  exact hp
end Rest
