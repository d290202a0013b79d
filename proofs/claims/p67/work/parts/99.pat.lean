/-! ===== a pattern that the checksum doesn't see, and others ===== -/
theorem xor2 {x y a b : Nat} (ha : a < 2) (hb : b < 2) : (2 * x + a) ^^^ (2 * y + b) = 2 * (x ^^^ y) + (a ^^^ b) := by
  have hab : a ^^^ b < 2 ^ 1 := Nat.xor_lt_two_pow ha hb
  have hab : a ^^^ b < 2 := hab
  apply Nat.eq_of_testBit_eq
  intro i
  cases i with
  | zero =>
    rw [Nat.testBit_xor, Nat.testBit_zero, Nat.testBit_zero, Nat.testBit_zero, show (2 * x + a) % 2 = a from by omega, show (2 * y + b) % 2 = b from by omega, show (2 * (x ^^^ y) + (a ^^^ b)) % 2 = a ^^^ b from by omega]
    have h1 : a = 0 ∨ a = 1 := by omega
    have h2 : b = 0 ∨ b = 1 := by omega
    rcases h1 with rfl | rfl <;> rcases h2 with rfl | rfl <;> decide
  | succ i =>
    rw [Nat.testBit_xor, Nat.testBit_succ, Nat.testBit_succ, Nat.testBit_succ, show (2 * x + a) / 2 = x from by omega, show (2 * y + b) / 2 = y from by omega, show (2 * (x ^^^ y) + (a ^^^ b)) / 2 = x ^^^ y from by omega, Nat.testBit_xor]
theorem byteN_x {u w : Int → Int} (hu : ∀ b, u b = 0 ∨ u b = 1) (hw : ∀ b, w b = 0 ∨ w b = 1) (k : Int) : ∀ n : Nat, byteN (fun b => xorZ (u b) (w b)) k n = xorZ (byteN u k n) (byteN w k n)
  | 0 => (xorZ_s (a := 0)).symm
  | n + 1 => by
    have ih := byteN_x hu hw k n
    have b1 := (byteN_b hu k n).1
    have b2 := (byteN_b hw k n).1
    have h1 := hu (8 * k + n)
    have h2 := hw (8 * k + n)
    show 2 * byteN (fun b => xorZ (u b) (w b)) k n + xorZ (u (8 * k + n)) (w (8 * k + n)) = xorZ (2 * byteN u k n + u (8 * k + n)) (2 * byteN w k n + w (8 * k + n))
    rw [ih]
    obtain ⟨x, hx⟩ := toN b1
    obtain ⟨y, hy⟩ := toN b2
    obtain ⟨a, ha⟩ := toN (show 0 ≤ u (8 * k + n) by omega)
    obtain ⟨b, hb⟩ := toN (show 0 ≤ w (8 * k + n) by omega)
    rw [hx, hy, ha, hb, show 2 * (x : Int) + (a : Int) = ((2 * x + a : Nat) : Int) from by omega, show 2 * (y : Int) + (b : Int) = ((2 * y + b : Nat) : Int) from by omega, xorZ_n, xorZ_n, xorZ_n, xor2 (by omega) (by omega)]
    omega
theorem byteN_0 {w : Int → Int} {k : Int} : ∀ n : Nat, (∀ i : Nat, i < n → w (8 * k + i) = 0) → byteN w k n = 0
  | 0, _ => rfl
  | n + 1, h => by
    show 2 * byteN w k n + w (8 * k + n) = 0
    rw [byteN_0 n (fun i hi => h i (by omega)), h n (by omega)]
    rfl
theorem byteZ_bit1 {S : Int → Int} {k : Int} (h : 0 ≤ S k ∧ S k ≤ 255) : byteZ (bitZ S) k = S k := by
  have hb : ∀ (i : Nat) (p : Int), i < 8 → (2 : Int) ^ (7 - (i : Int)).toNat = p → bitZ S (8 * k + (i : Int)) = S k / p % 2 := fun i p hi hp => by
    rw [bit_at (by omega) (by omega), hp]
  show 2 * (2 * (2 * (2 * (2 * (2 * (2 * (2 * 0 + bitZ S (8 * k + ((0 : Nat) : Int))) + bitZ S (8 * k + ((1 : Nat) : Int))) + bitZ S (8 * k + ((2 : Nat) : Int))) + bitZ S (8 * k + ((3 : Nat) : Int))) + bitZ S (8 * k + ((4 : Nat) : Int))) + bitZ S (8 * k + ((5 : Nat) : Int))) + bitZ S (8 * k + ((6 : Nat) : Int))) + bitZ S (8 * k + ((7 : Nat) : Int)) = S k
  rw [hb 0 128 (by decide) rfl, hb 1 64 (by decide) rfl, hb 2 32 (by decide) rfl, hb 3 16 (by decide) rfl, hb 4 8 (by decide) rfl, hb 5 4 (by decide) rfl, hb 6 2 (by decide) rfl, hb 7 1 (by decide) rfl]
  omega
theorem xorZ_z {a : Int} (h : 0 ≤ a) : xorZ a 0 = a := by
  obtain ⟨n, rfl⟩ := toN h
  show (((n ^^^ 0 : Nat)) : Int) = n
  rw [Nat.xor_zero]
theorem zxorZ {a : Int} (h : 0 ≤ a) : xorZ 0 a = a := by
  obtain ⟨n, rfl⟩ := toN h
  show (((0 ^^^ n : Nat)) : Int) = n
  rw [Nat.zero_xor]
theorem crcS_x {u w : Int} (u0 : 0 ≤ u) (u1 : u ≤ 255) (w0 : 0 ≤ w) (w1 : w ≤ 255) : crcS (xorZ u w) = xorZ (crcS u) (crcS w) := by
  obtain ⟨a, rfl⟩ := toN u0
  obtain ⟨b, rfl⟩ := toN w0
  have hab : a ^^^ b < 2 ^ 8 := Nat.xor_lt_two_pow (by omega) (by omega)
  rw [xorZ_n, crcSn_i hab, crcSn_i (by omega), crcSn_i (by omega), xorZ_n, lin_n (by omega) (by omega)]
theorem crc8_x : ∀ (n : Nat) {u w : Int}, 0 ≤ u → u ≤ 255 → 0 ≤ w → w ≤ 255 → crc8 n (xorZ u w) = xorZ (crc8 n u) (crc8 n w)
  | 0, _, _, _, _, _, _ => rfl
  | n + 1, u, w, u0, u1, w0, w1 => by
    show crc8 n (crcS (xorZ u w)) = xorZ (crc8 n (crcS u)) (crc8 n (crcS w))
    rw [crcS_x u0 u1 w0 w1]
    exact crc8_x n (crcS_b u0 u1).1 (crcS_b u0 u1).2 (crcS_b w0 w1).1 (crcS_b w0 w1).2
theorem crcB_x {a b s x : Int} (a0 : 0 ≤ a) (a1 : a ≤ 255) (b0 : 0 ≤ b) (b1 : b ≤ 255) (s0 : 0 ≤ s) (s1 : s ≤ 255) (x0 : 0 ≤ x) (x1 : x ≤ 255) : crcB (xorZ a b) (xorZ s x) = xorZ (crcB a s) (crcB b x) := by
  have h1 := xorZ_b a0 a1 s0 s1
  have h2 := xorZ_b b0 b1 x0 x1
  show crc8 8 (xorZ (xorZ a b) (xorZ s x)) = xorZ (crc8 8 (xorZ a s)) (crc8 8 (xorZ b x))
  rw [← crc8_x 8 h1.1 h1.2 h2.1 h2.2]
  congr 1
  obtain ⟨a, rfl⟩ := toN a0
  obtain ⟨b, rfl⟩ := toN b0
  obtain ⟨s, rfl⟩ := toN s0
  obtain ⟨x, rfl⟩ := toN x0
  rw [xorZ_n, xorZ_n, xorZ_n, xorZ_n, xorZ_n, xorZ_n]
  congr 1
  rw [Nat.xor_assoc, Nat.xor_assoc, ← Nat.xor_assoc b s x, Nat.xor_comm b s, Nat.xor_assoc s b x]
theorem crcF_x {S X : Int → Int} (hS : ∀ i, 0 ≤ S i ∧ S i ≤ 255) (hX : ∀ i, 0 ≤ X i ∧ X i ≤ 255) : ∀ n : Nat, crcF (fun k => xorZ (S k) (X k)) n = xorZ (crcF S n) (crcF X n)
  | 0 => (xorZ_s (a := 0)).symm
  | n + 1 => by
    have h1 := crcF_b (B := S) n (fun i _ _ => hS i)
    have h2 := crcF_b (B := X) n (fun i _ _ => hX i)
    show crcB (crcF (fun k => xorZ (S k) (X k)) n) (xorZ (S n) (X n)) = xorZ (crcB (crcF S n) (S n)) (crcB (crcF X n) (X n))
    rw [crcF_x hS hX n]
    exact crcB_x h1.1 h1.2 h2.1 h2.2 (hS n).1 (hS n).2 (hX n).1 (hX n).2
/-- what a pattern does to a byte -/
theorem flp_byte {S : Int → Int} (hS : ∀ i, 0 ≤ S i ∧ S i ≤ 255) {pat dg : Int} : byteZ (flpZ S pat dg 8) = fun k => xorZ (S k) (byteZ (flp pat dg 8) k) := by
  funext k
  have h := byteN_x (u := bitZ S) (w := flp pat dg 8) (bitZ_r S) (flp_r pat dg 8) k 8
  have e : byteN (bitZ S) k 8 = S k := byteZ_bit1 (hS k)
  rw [e] at h
  exact h
theorem flp_0 {pat dg k : Int} (h : k < 1 ∨ 8 + dg ≤ 8 * k) : byteZ (flp pat dg 8) k = 0 := byteN_0 8 fun i hi => by
  unfold flp
  rw [if_neg (by omega)]
theorem flp_b {pat dg k : Int} : 0 ≤ byteZ (flp pat dg 8) k ∧ byteZ (flp pat dg 8) k ≤ 255 := byteZ_b (flp_r pat dg 8) k
/-- read back: when all bytes' rest is 0 -/
theorem read_x {S : Int → Int} {n : Nat} {pat dg : Int} (hS : ∀ i, 0 ≤ S i ∧ S i ≤ 255) (hn : 3 ≤ n) (hc : crcF S n = 0) (h0 : S 0 % 16 = (n : Int) - 2) : readZ (byteZ (flpZ S pat dg 8)) n = decide (crcF (byteZ (flp pat dg 8)) n = 0) := by
  have hb : ∀ i : Int, 0 ≤ xorZ (S i) (byteZ (flp pat dg 8) i) ∧ xorZ (S i) (byteZ (flp pat dg 8) i) ≤ 255 := fun i => xorZ_b (hS i).1 (hS i).2 flp_b.1 flp_b.2
  have hx := crcF_x (X := byteZ (flp pat dg 8)) hS (fun i => flp_b) n
  have h2 := crcF_b (B := byteZ (flp pat dg 8)) n (fun i _ _ => flp_b)
  rw [hc, zxorZ h2.1] at hx
  have e : n = (n - 1) + 1 := by omega
  have h := crcF_last (B := fun i => xorZ (S i) (byteZ (flp pat dg 8) i)) (n := n - 1) (fun i _ _ => hb i)
  rw [← e, hx] at h
  rw [flp_byte hS]
  unfold readZ
  rw [show ((n : Int) - 1) = ((n - 1 : Nat) : Int) from by omega]
  have h16 : xorZ (S 0) (byteZ (flp pat dg 8) 0) % 16 = (n : Int) - 2 := by
    rw [flp_0 (Or.inl (by decide)), xorZ_z (hS 0).1]
    exact h0
  have d2 : decide (xorZ (S 0) (byteZ (flp pat dg 8) 0) % 16 = (n : Int) - 2) = true := decide_eq_true h16
  show (decide (xorZ (S ((n - 1 : Nat) : Int)) (byteZ (flp pat dg 8) ((n - 1 : Nat) : Int)) = crcF (fun i => xorZ (S i) (byteZ (flp pat dg 8) i)) (n - 1)) && decide (xorZ (S 0) (byteZ (flp pat dg 8) 0) % 16 = (n : Int) - 2)) = _
  rw [d2, Bool.and_true]
  exact decide_eq_decide.mpr h.symm
theorem flp263 : byteZ (flp 263 9 8) 1 = 131 ∧ byteZ (flp 263 9 8) 2 = 128 := by decide +kernel
theorem crc263 : crcB (crcB (crcB 0 0) 131) 128 = 0 := by decide +kernel
theorem wp_yes : ∀ m : Nat, crcF (byteZ (flp 263 9 8)) (3 + m) = 0
  | 0 => by
    show crcB (crcB (crcB 0 (byteZ (flp 263 9 8) ((0 : Nat) : Int))) (byteZ (flp 263 9 8) ((1 : Nat) : Int))) (byteZ (flp 263 9 8) ((2 : Nat) : Int)) = 0
    rw [show ((0 : Nat) : Int) = 0 from rfl, show ((1 : Nat) : Int) = 1 from rfl, show ((2 : Nat) : Int) = 2 from rfl, flp263.1, flp263.2, flp_0 (Or.inl (by decide)), crc263]
  | m + 1 => by
    show crcB (crcF (byteZ (flp 263 9 8)) (3 + m)) (byteZ (flp 263 9 8) ((3 + m : Nat) : Int)) = 0
    rw [wp_yes m, flp_0 (Or.inr (by omega))]
    exact crcB_s 0
set_option maxRecDepth 100000 in
theorem pat_all : (List.range 127).all (fun p => decide (bdig ((p : Int) + 1) 16 ≤ 7) && decide (1 ≤ bdig ((p : Int) + 1) 16) && decide (byteZ (flp ((p : Int) + 1) (bdig ((p : Int) + 1) 16) 8) 1 ≠ 0)) = true := by decide +kernel
theorem pat_r {pat : Int} (h0 : 1 ≤ pat) (h1 : pat ≤ 127) : bdig pat 16 ≤ 7 ∧ 1 ≤ bdig pat 16 ∧ byteZ (flp pat (bdig pat 16) 8) 1 ≠ 0 := by
  have h := List.all_eq_true.mp pat_all (pat - 1).toNat (List.mem_range.mpr (by omega))
  rw [show (((pat - 1).toNat : Nat) : Int) + 1 = pat from by omega] at h
  simp only [Bool.and_eq_true, decide_eq_true_eq] at h
  exact ⟨h.1.1, h.1.2, h.2⟩
theorem wp_no {pat : Int} (h0 : 1 ≤ pat) (h1 : pat ≤ 127) : ∀ m : Nat, crcF (byteZ (flp pat (bdig pat 16) 8)) (2 + m) ≠ 0
  | 0 => by
    obtain ⟨p1, -, p2⟩ := pat_r h0 h1
    have e0 : byteZ (flp pat (bdig pat 16) 8) 0 = 0 := flp_0 (Or.inl (by decide))
    show crcB (crcB 0 (byteZ (flp pat (bdig pat 16) 8) ((0 : Nat) : Int))) (byteZ (flp pat (bdig pat 16) 8) ((1 : Nat) : Int)) ≠ 0
    rw [show ((0 : Nat) : Int) = 0 from rfl, show ((1 : Nat) : Int) = 1 from rfl, e0, crcB_s]
    intro h
    have hb := flp_b (pat := pat) (dg := bdig pat 16) (k := 1)
    exact p2 (crcB_i (by decide) (by decide) hb.1 hb.2 h).symm
  | m + 1 => by
    obtain ⟨p1, -, -⟩ := pat_r h0 h1
    have hb := crcF_b (B := byteZ (flp pat (bdig pat 16) 8)) (2 + m) (fun i _ _ => flp_b)
    show crcB (crcF (byteZ (flp pat (bdig pat 16) 8)) (2 + m)) (byteZ (flp pat (bdig pat 16) 8) ((2 + m : Nat) : Int)) ≠ 0
    rw [flp_0 (k := ((2 + m : Nat) : Int)) (Or.inr (by omega))]
    intro h
    exact wp_no h0 h1 m (crcB_i hb.1 hb.2 (by decide) (by decide) h)
section Wp
variable {l : LX} {v : Int} {S : GS} {Q : OO → Prop} {B : Nat}
theorem law_wp (hl : l.1.stackTraces = false) (hn : l.2.1 ≤ 2147483647) (hS : GOK S) (hP : PI (gA S)) {f : Int} (f0 : 0 ≤ f) (f1 : f < gA S 0 6) {I : Nat → Int → Int} (hI : CREL I S)
    (kk : ∀ I, CREL I S → Ex l 332 B (6 * B) 545 [none, none, none, some (.ref 0), none, none, none, none, none, none, none, none, none] [] (mm 181 I v false) Q) :
    Ex l 332 (B + 2) (6 * (B + 2)) 502 [some (.ref scr), none, none, some (.ref 0), some (.int (iI f)), none, none, none, none, none, none, none, none] [] (mm 181 I v false) Q := by
  have h48 := fr48 hS
  have hf := hS.1.frm f f0 f1
  obtain ⟨hb0, hcr⟩ := hP.2.2.1 f f0 f1
  have hSb : ∀ i, 0 ≤ SfA (gA S) f i ∧ SfA (gA S) f i ≤ 255 := fun i => hS.1.byt (6 * f + i)
  have h16 : SfA (gA S) f 0 % 16 = ((gA S 6 f).toNat : Int) - 2 := by
    show gA S 10 (6 * f + 0) % 16 = _
    rw [Int.add_zero, hb0]
    omega
  have q70 := celZ_r (l := l) (i := 70)
  obtain ⟨pt, hpt⟩ : ∃ pt, pt = 1 + celZ l 70 % 127 := ⟨_, rfl⟩
  have hpt1 : 1 ≤ pt ∧ pt ≤ 127 := by omega
  obtain ⟨p1, p2, -⟩ := pat_r hpt1.1 hpt1.2
  have d263 : bdig 263 16 = 9 := by decide
  have hF : isF S f = true := isF_t f0 f1
  have e1 : oAsk2 S (isF S f) (decide ((1 ≤ (263 : Int) ∧ (263 : Int) ≤ 65535) ∧ 0 ≤ (8 : Int) ∧ 8 + ((bdig 263 16 : Nat) : Int) ≤ gA S 6 f * 8)) (b01 (wpA (gA S) f 263 8)) = (0, 1, S) := by
    have hw : wpA (gA S) f 263 8 = true := by
      unfold wpA
      rw [d263]
      refine (read_x (pat := 263) (dg := 9) hSb (by omega) hcr h16).trans (decide_eq_true ?_)
      have := wp_yes ((gA S 6 f).toNat - 3)
      rw [show 3 + ((gA S 6 f).toNat - 3) = (gA S 6 f).toNat from by omega] at this
      exact this
    unfold oAsk2
    rw [hF, if_pos rfl, if_pos (decide_eq_true ⟨by decide, by decide, by rw [d263]; omega⟩), hw]
    rfl
  have e2 : oAsk2 S (isF S f) (decide ((1 ≤ pt ∧ pt ≤ 65535) ∧ 0 ≤ (8 : Int) ∧ 8 + ((bdig pt 16 : Nat) : Int) ≤ gA S 6 f * 8)) (b01 (wpA (gA S) f pt 8)) = (0, 0, S) := by
    have hw : wpA (gA S) f pt 8 = false := by
      unfold wpA
      refine (read_x (pat := pt) (dg := bdig pt 16) hSb (by omega) hcr h16).trans (decide_eq_false ?_)
      have := wp_no hpt1.1 hpt1.2 ((gA S 6 f).toNat - 2)
      rw [show 2 + ((gA S 6 f).toNat - 2) = (gA S 6 f).toNat from by omega] at this
      exact this
    unfold oAsk2
    rw [hF, if_pos rfl, if_pos (decide_eq_true ⟨by omega, by decide, by omega⟩), hw]
    rfl
  have h110 := cm110 (q := 181) (v := v) (f := f) (pat := 263) (b := 8) hl (by decide) hI hS ⟨by omega, by omega⟩ ⟨by omega, by omega⟩ ⟨by omega, by omega⟩
  rw [e1] at h110
  refine ex_le (B' := (B + 1) + 1) (by omega) rfl ?_
  refine x_aload_n (pc := 502) rfl d332_502 ?_
  refine x_bipush (pc := 503) (by decide) d332_503 ?_
  refine x_iload (pc := 505) rfl d332_505 ?_
  refine x_sipush (pc := 507) (by decide) d332_507 ?_
  refine x_bipush (pc := 510) (by decide) d332_510 ?_
  refine x_qW (pc := 512) (As := [.ref 0, .int (iI 8), .int (iI f), .int (iI 263), .int (iI 8)]) (rest := []) c332_240 (ct_do8 (a := f) (b := 263) (c := 8) (v := v) hl (E := fun c => if c = 1 then 2 else 0) (r := (0, 1, S)) (Or.inr rfl) (Or.inl rfl) h110) rfl rfl (Nat.le_of_ble_eq_true rfl) (by decide +kernel) (by decide +kernel) d332_512 (fun K1 h1 => ?_)
  refine x_val (pc := 515) (w := 1) rfl ?_
  refine x_iconst (pc := 515) d332_515 ?_
  refine x_icmp_ne (pc := 516) (tgt := 543) ⟨by omega, by omega⟩ ⟨by omega, by omega⟩ d332_516 (by decide) (fun h => absurd rfl h) (fun _ => ?_)
  have h110b := cm110 (q := 181) (v := v) (f := f) (pat := pt) (b := 8) hl (by decide) h1 hS ⟨by omega, by omega⟩ ⟨by omega, by omega⟩ ⟨by omega, by omega⟩
  rw [e2] at h110b
  refine x_aload_n (pc := 519) rfl d332_519 ?_
  refine x_bipush (pc := 520) (by decide) d332_520 ?_
  refine x_iload (pc := 522) rfl d332_522 ?_
  refine x_iconst (pc := 524) d332_524 ?_
  refine x_aload_n (pc := 525) rfl d332_525 ?_
  refine x_bipush (pc := 526) (by decide) d332_526 ?_
  refine x_cSs (pc := 528) (As := [.ref scr, .int (iI 70)]) (rest := [.int (iI 1), .int (iI f), .int (iI 8), .ref 0]) c332_275 (ct_cell hl hn (by omega) (by omega)) rfl rfl (Nat.le_of_ble_eq_true rfl) (by decide +kernel) (by decide +kernel) (by decide +kernel) rfl d332_528 ?_
  refine x_bipush (pc := 531) (by decide) d332_531 ?_
  refine x_irem (pc := 533) (by omega) (by omega) (by omega) (by omega) d332_533 ?_
  refine x_iadd (pc := 534) d332_534 ?_
  refine x_val (pc := 535) (w := pt) hpt.symm ?_
  refine x_bipush (pc := 535) (by decide) d332_535 ?_
  refine x_qW (pc := 537) (As := [.ref 0, .int (iI 8), .int (iI f), .int (iI pt), .int (iI 8)]) (rest := []) c332_240 (ct_do8 (a := f) (b := pt) (c := 8) (v := v) hl (E := fun c => if c = 1 then 2 else 0) (r := (0, 0, S)) (Or.inl rfl) (Or.inl rfl) h110b) rfl rfl (Nat.le_of_ble_eq_true rfl) (by decide +kernel) (by decide +kernel) d332_537 (fun K2 h2 => ?_)
  refine x_val (pc := 540) (w := 0) rfl ?_
  refine x_if_eq (pc := 540) (tgt := 545) ⟨by omega, by omega⟩ d332_540 (by decide) (fun _ => ?_) (fun h => absurd rfl h)
  refine x_mask [false, false, false, true, false, true, true, true, true, true, true, true, true] ?_
  dsimp only [mask]
  exact kk K2 h2
end Wp
