/-! ===== texts ===== -/
def atT (T : Int → Int) (n i : Int) : Int := if 0 ≤ i ∧ i < n then T i else -1
section Text
variable {l : LX} {q : Nat} {I : Nat → Int → Int} {v : Int} {fr : Bool}
theorem dt_at1 (hl : l.1.stackTraces = false) (hq : 181 ≤ q) {n : Int} (hn : I 1 1 = n) (h0 : 0 ≤ n) (h1 : n ≤ 500) {i : Int} (hi : InR i) : DT l 63 [.ref 1, .int (iI i)] (mm q I v fr) 0 0 (.inl (some (.int (iI (atT (I 2) n i)))), mm q I v fr) := by
  obtain ⟨hi1, hi2⟩ := hi
  refine mkdt hl (by decide) (Nat.le_of_ble_eq_true rfl) (L := [some (.ref 1), some (.int (iI i))]) rfl ?_
  refine x_iload_n (pc := 0) rfl d63_0 ?_
  refine x_if_lt (pc := 1) (tgt := 21) ⟨by omega, by omega⟩ d63_1 (by decide) (fun g1 => ?_) (fun g1 => ?_)
  · refine x_iconst (pc := 21) d63_21 ?_
    refine x_goto (pc := 22) (tgt := 31) d63_22 (by decide) ?_
    refine x_iret (pc := 31) rfl (fun _ => rfl) d63_31 ?_
    unfold atT; rw [if_neg (by omega)]
  · refine x_iload_n (pc := 4) rfl d63_4 ?_
    refine x_aload_n (pc := 5) rfl d63_5 ?_
    refine m_getI (pc := 6) (z := 1) f63_21 (by decide +kernel) rfl (ko1 (by omega)) d63_6 ?_
    refine x_val (pc := 9) (w := n) (hn) ?_
    refine x_icmp_ge (pc := 9) (tgt := 21) ⟨by omega, by omega⟩ ⟨by omega, by omega⟩ d63_9 (by decide) (fun g9 => ?_) (fun g9 => ?_)
    · refine x_iconst (pc := 21) d63_21 ?_
      refine x_goto (pc := 22) (tgt := 31) d63_22 (by decide) ?_
      refine x_iret (pc := 31) rfl (fun _ => rfl) d63_31 ?_
      unfold atT; rw [if_neg (by omega)]
    · refine x_iload_n (pc := 12) rfl d63_12 ?_
      refine x_aload_n (pc := 13) rfl d63_13 ?_
      refine m_getR (pc := 14) f63_15 (by decide +kernel) (ko1 (by omega)) rr1_0 d63_14 ?_
      refine m_alen (pc := 17) (z := 500) (ka2 (by omega)) rfl d63_17 ?_
      refine x_icmp_lt (pc := 18) (tgt := 25) ⟨by omega, by omega⟩ ⟨by omega, by omega⟩ d63_18 (by decide) (fun g18 => ?_) (fun g18 => ?_)
      · refine x_aload_n (pc := 25) rfl d63_25 ?_
        refine m_getR (pc := 26) f63_15 (by decide +kernel) (ko1 (by omega)) rr1_0 d63_26 ?_
        refine x_iload_n (pc := 29) rfl d63_29 ?_
        refine m_iald (pc := 30) (ka2 (by omega)) (by omega) (by omega) (by omega) d63_30 ?_
        refine x_iret (pc := 31) rfl (fun _ => rfl) d63_31 ?_
        unfold atT; rw [if_pos (by omega)]
      · refine x_iconst (pc := 21) d63_21 ?_
        refine x_goto (pc := 22) (tgt := 31) d63_22 (by decide) ?_
        refine x_iret (pc := 31) rfl (fun _ => rfl) d63_31 ?_
        exfalso; omega
theorem dt_at3 (hl : l.1.stackTraces = false) (hq : 181 ≤ q) {n : Int} (hn : I 3 1 = n) (h0 : 0 ≤ n) (h1 : n ≤ 53) {i : Int} (hi : InR i) : DT l 63 [.ref 3, .int (iI i)] (mm q I v fr) 0 0 (.inl (some (.int (iI (atT (I 4) n i)))), mm q I v fr) := by
  obtain ⟨hi1, hi2⟩ := hi
  refine mkdt hl (by decide) (Nat.le_of_ble_eq_true rfl) (L := [some (.ref 3), some (.int (iI i))]) rfl ?_
  refine x_iload_n (pc := 0) rfl d63_0 ?_
  refine x_if_lt (pc := 1) (tgt := 21) ⟨by omega, by omega⟩ d63_1 (by decide) (fun g1 => ?_) (fun g1 => ?_)
  · refine x_iconst (pc := 21) d63_21 ?_
    refine x_goto (pc := 22) (tgt := 31) d63_22 (by decide) ?_
    refine x_iret (pc := 31) rfl (fun _ => rfl) d63_31 ?_
    unfold atT; rw [if_neg (by omega)]
  · refine x_iload_n (pc := 4) rfl d63_4 ?_
    refine x_aload_n (pc := 5) rfl d63_5 ?_
    refine m_getI (pc := 6) (z := 1) f63_21 (by decide +kernel) rfl (ko3 (by omega)) d63_6 ?_
    refine x_val (pc := 9) (w := n) (hn) ?_
    refine x_icmp_ge (pc := 9) (tgt := 21) ⟨by omega, by omega⟩ ⟨by omega, by omega⟩ d63_9 (by decide) (fun g9 => ?_) (fun g9 => ?_)
    · refine x_iconst (pc := 21) d63_21 ?_
      refine x_goto (pc := 22) (tgt := 31) d63_22 (by decide) ?_
      refine x_iret (pc := 31) rfl (fun _ => rfl) d63_31 ?_
      unfold atT; rw [if_neg (by omega)]
    · refine x_iload_n (pc := 12) rfl d63_12 ?_
      refine x_aload_n (pc := 13) rfl d63_13 ?_
      refine m_getR (pc := 14) f63_15 (by decide +kernel) (ko3 (by omega)) rr3_0 d63_14 ?_
      refine m_alen (pc := 17) (z := 53) (ka4 (by omega)) rfl d63_17 ?_
      refine x_icmp_lt (pc := 18) (tgt := 25) ⟨by omega, by omega⟩ ⟨by omega, by omega⟩ d63_18 (by decide) (fun g18 => ?_) (fun g18 => ?_)
      · refine x_aload_n (pc := 25) rfl d63_25 ?_
        refine m_getR (pc := 26) f63_15 (by decide +kernel) (ko3 (by omega)) rr3_0 d63_26 ?_
        refine x_iload_n (pc := 29) rfl d63_29 ?_
        refine m_iald (pc := 30) (ka4 (by omega)) (by omega) (by omega) (by omega) d63_30 ?_
        refine x_iret (pc := 31) rfl (fun _ => rfl) d63_31 ?_
        unfold atT; rw [if_pos (by omega)]
      · refine x_iconst (pc := 21) d63_21 ?_
        refine x_goto (pc := 22) (tgt := 31) d63_22 (by decide) ?_
        refine x_iret (pc := 31) rfl (fun _ => rfl) d63_31 ?_
        exfalso; omega
theorem dt_put1 (hl : l.1.stackTraces = false) (hq : 181 ≤ q) {n z : Int} (hn : I 1 1 = n) (h0 : 0 ≤ n) (h1 : n < 500) : DT l 64 [.ref 1, .int (iI z)] (mm q I v fr) 0 0 (.inl none, mm q (up2 (up2 I 2 n (z % 256)) 1 1 (n + 1)) v fr) := by
  refine mkdt hl (by decide) (Nat.le_of_ble_eq_true rfl) (L := [some (.ref 1), some (.int (iI z))]) rfl ?_
  refine x_aload_n (pc := 0) rfl d64_0 ?_
  refine m_getI (pc := 1) (z := 1) f64_21 (by decide +kernel) rfl (ko1 (by omega)) d64_1 ?_
  refine x_val (pc := 4) (w := n) (hn) ?_
  refine x_if_lt (pc := 4) (tgt := 43) ⟨by omega, by omega⟩ d64_4 (by decide) (fun g4 => ?_) (fun g4 => ?_)
  · refine x_vret (pc := 43) rfl (fun _ => rfl) d64_43 ?_
    exfalso; omega
  · refine x_aload_n (pc := 7) rfl d64_7 ?_
    refine m_getI (pc := 8) (z := 1) f64_21 (by decide +kernel) rfl (ko1 (by omega)) d64_8 ?_
    refine x_val (pc := 11) (w := n) (hn) ?_
    refine x_aload_n (pc := 11) rfl d64_11 ?_
    refine m_getR (pc := 12) f64_15 (by decide +kernel) (ko1 (by omega)) rr1_0 d64_12 ?_
    refine m_alen (pc := 15) (z := 500) (ka2 (by omega)) rfl d64_15 ?_
    refine x_icmp_ge (pc := 16) (tgt := 43) ⟨by omega, by omega⟩ ⟨by omega, by omega⟩ d64_16 (by decide) (fun g16 => ?_) (fun g16 => ?_)
    · refine x_vret (pc := 43) rfl (fun _ => rfl) d64_43 ?_
      exfalso; omega
    · refine x_aload_n (pc := 19) rfl d64_19 ?_
      refine m_getR (pc := 20) f64_15 (by decide +kernel) (ko1 (by omega)) rr1_0 d64_20 ?_
      refine x_aload_n (pc := 23) rfl d64_23 ?_
      refine m_getI (pc := 24) (z := 1) f64_21 (by decide +kernel) rfl (ko1 (by omega)) d64_24 ?_
      refine x_val (pc := 27) (w := n) (hn) ?_
      refine x_iload_n (pc := 27) rfl d64_27 ?_
      refine x_sipush (pc := 28) (by decide) d64_28 ?_
      refine x_iand (pc := 31) (iI_and8 _) d64_31 ?_
      refine m_iast (pc := 32) (ka2 (by omega)) (by omega) (by omega) (by omega) d64_32 ?_
      refine x_aload_n (pc := 33) rfl d64_33 ?_
      refine x_dup (pc := 34) rfl d64_34 ?_
      refine m_getW (pc := 35) (z := 1) (w := (I 1 1)) f64_21 (by decide +kernel) rfl (ko1 (by omega)) (by rw [up2_p (by omega)]) d64_35 ?_
      refine x_val (pc := 38) (w := n) (hn) ?_
      refine x_iconst (pc := 38) d64_38 ?_
      refine x_iadd (pc := 39) d64_39 ?_
      refine m_putI (pc := 40) (z := 1) f64_21 (by decide +kernel) (by decide +kernel) rfl (ko1 (by omega)) d64_40 ?_
      refine x_vret (pc := 43) rfl (fun _ => rfl) d64_43 ?_
      first | rfl | (exfalso; omega)
theorem dt_put3 (hl : l.1.stackTraces = false) (hq : 181 ≤ q) {n z : Int} (hn : I 3 1 = n) (h0 : 0 ≤ n) (h1 : n < 53) : DT l 64 [.ref 3, .int (iI z)] (mm q I v fr) 0 0 (.inl none, mm q (up2 (up2 I 4 n (z % 256)) 3 1 (n + 1)) v fr) := by
  refine mkdt hl (by decide) (Nat.le_of_ble_eq_true rfl) (L := [some (.ref 3), some (.int (iI z))]) rfl ?_
  refine x_aload_n (pc := 0) rfl d64_0 ?_
  refine m_getI (pc := 1) (z := 1) f64_21 (by decide +kernel) rfl (ko3 (by omega)) d64_1 ?_
  refine x_val (pc := 4) (w := n) (hn) ?_
  refine x_if_lt (pc := 4) (tgt := 43) ⟨by omega, by omega⟩ d64_4 (by decide) (fun g4 => ?_) (fun g4 => ?_)
  · refine x_vret (pc := 43) rfl (fun _ => rfl) d64_43 ?_
    exfalso; omega
  · refine x_aload_n (pc := 7) rfl d64_7 ?_
    refine m_getI (pc := 8) (z := 1) f64_21 (by decide +kernel) rfl (ko3 (by omega)) d64_8 ?_
    refine x_val (pc := 11) (w := n) (hn) ?_
    refine x_aload_n (pc := 11) rfl d64_11 ?_
    refine m_getR (pc := 12) f64_15 (by decide +kernel) (ko3 (by omega)) rr3_0 d64_12 ?_
    refine m_alen (pc := 15) (z := 53) (ka4 (by omega)) rfl d64_15 ?_
    refine x_icmp_ge (pc := 16) (tgt := 43) ⟨by omega, by omega⟩ ⟨by omega, by omega⟩ d64_16 (by decide) (fun g16 => ?_) (fun g16 => ?_)
    · refine x_vret (pc := 43) rfl (fun _ => rfl) d64_43 ?_
      exfalso; omega
    · refine x_aload_n (pc := 19) rfl d64_19 ?_
      refine m_getR (pc := 20) f64_15 (by decide +kernel) (ko3 (by omega)) rr3_0 d64_20 ?_
      refine x_aload_n (pc := 23) rfl d64_23 ?_
      refine m_getI (pc := 24) (z := 1) f64_21 (by decide +kernel) rfl (ko3 (by omega)) d64_24 ?_
      refine x_val (pc := 27) (w := n) (hn) ?_
      refine x_iload_n (pc := 27) rfl d64_27 ?_
      refine x_sipush (pc := 28) (by decide) d64_28 ?_
      refine x_iand (pc := 31) (iI_and8 _) d64_31 ?_
      refine m_iast (pc := 32) (ka4 (by omega)) (by omega) (by omega) (by omega) d64_32 ?_
      refine x_aload_n (pc := 33) rfl d64_33 ?_
      refine x_dup (pc := 34) rfl d64_34 ?_
      refine m_getW (pc := 35) (z := 1) (w := (I 3 1)) f64_21 (by decide +kernel) rfl (ko3 (by omega)) (by rw [up2_p (by omega)]) d64_35 ?_
      refine x_val (pc := 38) (w := n) (hn) ?_
      refine x_iconst (pc := 38) d64_38 ?_
      refine x_iadd (pc := 39) d64_39 ?_
      refine m_putI (pc := 40) (z := 1) f64_21 (by decide +kernel) (by decide +kernel) rfl (ko3 (by omega)) d64_40 ?_
      refine x_vret (pc := 43) rfl (fun _ => rfl) d64_43 ?_
      first | rfl | (exfalso; omega)
/-- the four bytes of a number -/
def byt4 (z : Int) (k : Int) : Int := z / 2 ^ (24 - 8 * k).toNat % 256
def four4 (I : Nat → Int → Int) (n z : Int) : Nat → Int → Int := up2 (up2 (up2 (up2 (up2 (up2 (up2 (up2 I 2 n (byt4 z 0)) 1 1 (n + 1)) 2 (n + 1) (byt4 z 1)) 1 1 (n + 2)) 2 (n + 2) (byt4 z 2)) 1 1 (n + 3)) 2 (n + 3) (byt4 z 3)) 1 1 (n + 4)
theorem byt4_u (z : Int) : z % 4294967296 / 2 ^ ((24 : Int)).toNat % 256 = byt4 z 0 ∧ z % 4294967296 / 2 ^ ((16 : Int)).toNat % 256 = byt4 z 1 ∧ z % 4294967296 / 2 ^ ((8 : Int)).toNat % 256 = byt4 z 2 ∧ z % 256 = byt4 z 3 := by
  unfold byt4
  rw [show ((24 : Int)).toNat = 24 from rfl, show ((16 : Int)).toNat = 16 from rfl, show ((8 : Int)).toNat = 8 from rfl, show (24 - 8 * (0 : Int)).toNat = 24 from rfl, show (24 - 8 * (1 : Int)).toNat = 16 from rfl, show (24 - 8 * (2 : Int)).toNat = 8 from rfl, show (24 - 8 * (3 : Int)).toNat = 0 from rfl, show (2 : Int) ^ 24 = 16777216 from rfl, show (2 : Int) ^ 16 = 65536 from rfl, show (2 : Int) ^ 8 = 256 from rfl, show (2 : Int) ^ 0 = 1 from rfl]
  omega
theorem dt_four (hl : l.1.stackTraces = false) (hq : 181 ≤ q) {n z : Int} (hn : I 1 1 = n) (h0 : 0 ≤ n) (h1 : n ≤ 496) : DT l 65 [.ref 1, .int (iI z)] (mm q I v fr) 0 0 (.inl none, mm q (four4 I n z) v fr) := by
  have h4 := byt4_u z
  have e1 : n + 1 + 1 = n + 2 := by omega
  have e2 : n + 2 + 1 = n + 3 := by omega
  have e3 : n + 3 + 1 = n + 4 := by omega
  unfold four4
  rw [← h4.1, ← h4.2.1, ← h4.2.2.1, ← h4.2.2.2]
  refine mkdt hl (by decide) (Nat.le_of_ble_eq_true rfl) (L := [some (.ref 1), some (.int (iI z))]) rfl ?_
  refine x_aload_n (pc := 0) rfl d65_0 ?_
  refine x_iload_n (pc := 1) rfl d65_1 ?_
  refine x_bipush (pc := 2) (by decide) d65_2 ?_
  refine x_iushr (pc := 4) (iI_ushr (by omega) (by omega)) d65_4 ?_
  refine x_cVv (pc := 5) c65_25 (dt_put1 hl hq (n := n) (z := _) hn h0 (by omega)) (ko1 (by omega)) rfl rfl (Nat.le_of_ble_eq_true rfl) (by decide +kernel) (by decide +kernel) rfl d65_5 ?_
  refine x_aload_n (pc := 8) rfl d65_8 ?_
  refine x_iload_n (pc := 9) rfl d65_9 ?_
  refine x_bipush (pc := 10) (by decide) d65_10 ?_
  refine x_iushr (pc := 12) (iI_ushr (by omega) (by omega)) d65_12 ?_
  refine x_cVv (pc := 13) c65_25 (dt_put1 hl hq (n := n + 1) (z := _) up2_s (by omega) (by omega)) (ko1 (by omega)) rfl rfl (Nat.le_of_ble_eq_true rfl) (by decide +kernel) (by decide +kernel) rfl d65_13 ?_
  rw [e1]
  refine x_aload_n (pc := 16) rfl d65_16 ?_
  refine x_iload_n (pc := 17) rfl d65_17 ?_
  refine x_bipush (pc := 18) (by decide) d65_18 ?_
  refine x_iushr (pc := 20) (iI_ushr (by omega) (by omega)) d65_20 ?_
  refine x_cVv (pc := 21) c65_25 (dt_put1 hl hq (n := n + 2) (z := _) up2_s (by omega) (by omega)) (ko1 (by omega)) rfl rfl (Nat.le_of_ble_eq_true rfl) (by decide +kernel) (by decide +kernel) rfl d65_21 ?_
  rw [e2]
  refine x_aload_n (pc := 24) rfl d65_24 ?_
  refine x_iload_n (pc := 25) rfl d65_25 ?_
  refine x_cVv (pc := 26) c65_25 (dt_put1 hl hq (n := n + 3) (z := z) up2_s (by omega) (by omega)) (ko1 (by omega)) rfl rfl (Nat.le_of_ble_eq_true rfl) (by decide +kernel) (by decide +kernel) rfl d65_26 ?_
  rw [e3]
  exact x_vret (pc := 29) rfl (fun _ => rfl) d65_29 rfl
end Text
