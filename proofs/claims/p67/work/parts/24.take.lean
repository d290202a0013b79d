/-! ===== Sending: what is taken ===== -/
theorem tkI_r {b dr : Int} (h0 : 0 ≤ b) (h1 : b ≤ 1000) (h2 : -99 ≤ dr) (h3 : dr ≤ 99) : 0 ≤ tkI b dr ∧ tkI b dr ≤ 1100 := by
  have hm1 : 0 ≤ (2 * b + 1) * (1000 + dr) := Int.mul_nonneg (by omega) (by omega)
  have hm2 : (2 * b + 1) * (1000 + dr) ≤ 2001 * 1099 := Int.mul_le_mul (by omega) (by omega) (by omega) (by omega)
  unfold tkI
  omega
/-- n bits cb lie on the cable -/
def CabI (J : Nat → Int → Int) (n : Int) (cb : Int → Int) : Prop := J 11 2 = n ∧ ∀ b : Int, 0 ≤ b → b < n → J 12 b = cb b
theorem takZ_r {cb : Int → Int} (h : ∀ b, cb b = 0 ∨ cb b = 1) (n dr b : Int) : takZ cb n dr b = 0 ∨ takZ cb n dr b = 1 := by
  unfold takZ
  split
  · exact h _
  · exact Or.inl rfl
def clN8 (i : Nat) (k : Int) : Nat := (min (max ((i : Int) - 8 * k) 0) 8).toNat
/-- i bits are taken -/
def TakI (I J : Nat → Int → Int) (n : Int) (cb t : Int → Int) (i : Nat) : Prop := offC I J ∧ CabI J n cb ∧ J 11 3 = I 11 3 ∧ J 11 4 = I 11 4 ∧ ∀ k : Int, 0 ≤ k → k < 6 → J 13 k = byteN t k (clN8 i k)
theorem tak_step {I J : Nat → Int → Int} {n : Int} {cb t : Int → Int} {i : Nat} (h : TakI I J n cb t i) (hi : i < 48) : TakI I (up2 J 13 ((i : Int) / 8) (J 13 ((i : Int) / 8) * 2 + t i)) n cb t (i + 1) := by
  obtain ⟨j0, ⟨j1, j2⟩, j3, j4, j5⟩ := h
  refine ⟨j0.up (by decide), ⟨by rw [up2_p (by decide)]; exact j1, fun b hb hb2 => by rw [up2_p (by decide)]; exact j2 b hb hb2⟩, by rw [up2_p (by decide)]; exact j3, by rw [up2_p (by decide)]; exact j4, fun k hk hk2 => ?_⟩
  by_cases e : k = (i : Int) / 8
  · rw [up2_e rfl e, j5 _ (by omega) (by omega)]
    have e1 : clN8 i ((i : Int) / 8) = i % 8 := by unfold clN8; omega
    have e2 : clN8 (i + 1) k = i % 8 + 1 := by unfold clN8; omega
    rw [e1, e2, e]
    show _ = 2 * byteN t ((i : Int) / 8) (i % 8) + t (8 * ((i : Int) / 8) + ((i % 8 : Nat) : Int))
    rw [show 8 * ((i : Int) / 8) + ((i % 8 : Nat) : Int) = i from by omega, Int.mul_comm]
  · rw [up2_i e, j5 k hk hk2]
    congr 1
    unfold clN8
    omega
/-- the memory behind take -/
def GotI (I J : Nat → Int → Int) (n : Int) (cb t : Int → Int) : Prop := offC I J ∧ CabI J n cb ∧ J 11 3 = I 11 3 ∧ J 11 4 = I 11 4 ∧ (∀ k : Int, 0 ≤ k → 8 * k + 8 ≤ n → J 13 k = byteZ t k) ∧ ∀ k : Int, 0 ≤ k → k < 6 → 0 ≤ J 13 k ∧ J 13 k ≤ 255
section Take
variable {l : LX} {q p : Nat} {I : Nat → Int → Int} {v : Int} {fr : Bool}
/-- takenBit -/
theorem dt_takenBit (hl : l.1.stackTraces = false) (hq : 181 ≤ q) {n : Int} {cb : Int → Int} (hC : CabI I n cb) (hn : n ≤ 48) {b dr : Int} (h0 : 0 ≤ b) (h1 : b ≤ 1000) (h2 : -99 ≤ dr) (h3 : dr ≤ 99) (hn0 : 0 ≤ n) : DT l 57 [.ref 11, .int (iI b), .int (iI dr)] (mm q I v fr) 0 0 (.inl (some (.int (iI (takZ cb n dr b)))), mm q I v fr) := by
  have hr := tkI_r h0 h1 h2 h3
  obtain ⟨c1, c2⟩ := hC
  refine mkdt hl (by decide) (Nat.le_of_ble_eq_true rfl) (L := [some (.ref 11), some (.int (iI b)), some (.int (iI dr)), none]) rfl ?_
  refine x_iload_n (pc := 0) rfl d57_0 ?_
  refine x_iload_n (pc := 1) rfl d57_1 ?_
  refine x_cSNs (pc := 2) c57_59 (dt_tkI hl (b := b) (dr := dr) (by omega) (by omega) (by omega) (by omega)) rfl rfl (Nat.le_of_ble_eq_true rfl) (by decide +kernel) (by decide +kernel) rfl d57_2 ?_
  refine x_istore_n (pc := 5) (by decide +kernel) rfl d57_5 ?_
  dsimp only [List.set]
  refine x_iload_n (pc := 6) rfl d57_6 ?_
  refine x_if_lt (pc := 7) (tgt := 33) ⟨by omega, by omega⟩ d57_7 (by decide) (fun g7 => ?_) (fun g7 => ?_)
  · refine x_iconst (pc := 33) d57_33 ?_
    refine x_iret (pc := 34) rfl (fun _ => rfl) d57_34 ?_
    exfalso; omega
  · refine x_iload_n (pc := 10) rfl d57_10 ?_
    refine x_aload_n (pc := 11) rfl d57_11 ?_
    refine m_getI (pc := 12) (z := 2) f57_30 (by decide +kernel) rfl (ko11 (by omega)) d57_12 ?_
    refine x_val (pc := 15) (w := n) (c1) ?_
    refine x_icmp_ge (pc := 15) (tgt := 33) ⟨by omega, by omega⟩ ⟨by omega, by omega⟩ d57_15 (by decide) (fun g15 => ?_) (fun g15 => ?_)
    · refine x_iconst (pc := 33) d57_33 ?_
      refine x_iret (pc := 34) rfl (fun _ => rfl) d57_34 ?_
      unfold takZ; rw [if_neg (by omega)]
    · refine x_iload_n (pc := 18) rfl d57_18 ?_
      refine x_bipush (pc := 19) (by decide) d57_19 ?_
      refine x_icmp_ge (pc := 21) (tgt := 33) ⟨by omega, by omega⟩ ⟨by omega, by omega⟩ d57_21 (by decide) (fun g21 => ?_) (fun g21 => ?_)
      · refine x_iconst (pc := 33) d57_33 ?_
        refine x_iret (pc := 34) rfl (fun _ => rfl) d57_34 ?_
        exfalso; omega
      · refine x_aload_n (pc := 24) rfl d57_24 ?_
        refine m_getR (pc := 25) f57_9 (by decide +kernel) (ko11 (by omega)) rr11_0 d57_25 ?_
        refine x_iload_n (pc := 28) rfl d57_28 ?_
        refine m_iald (pc := 29) (ka12 (by omega)) (by omega) (by omega) (by omega) d57_29 ?_
        refine x_val (pc := 30) (w := (cb (tkI b dr))) (c2 _ hr.1 g15) ?_
        refine x_goto (pc := 30) (tgt := 34) d57_30 (by decide) ?_
        refine x_iret (pc := 34) rfl (fun _ => rfl) d57_34 ?_
        unfold takZ; rw [if_pos (by omega)]
theorem lp_take0 (hl : l.1.stackTraces = false) (hq : 181 ≤ q) {dr : Int} {Q : OO → Prop} {J0 : Nat → Int → Int} : ∀ (m i : Nat) (J : Nat → Int → Int), m + i = 6 → (∀ a, a ≠ 13 → J a = J0 a) → (∀ k : Int, 0 ≤ k → k < i → J 13 k = 0) →
    (∀ J : Nat → Int → Int, (∀ a, a ≠ 13 → J a = J0 a) → (∀ k : Int, 0 ≤ k → k < 6 → J 13 k = 0) → Ex l 58 0 0 23 [some (.ref 11), some (.int (iI dr)), some (.int (iI 0))] [] (mm q J v fr) Q) →
    Ex l 58 0 0 2 [some (.ref 11), some (.int (iI dr)), some (.int (iI i))] [] (mm q J v fr) Q := by
  intro m
  induction m with
  | zero =>
    intro i J h1 h2 h3 hk
    refine x_iload_n (pc := 2) rfl d58_2 ?_
    refine x_bipush (pc := 3) (by decide) d58_3 ?_
    refine x_icmp_ge (pc := 5) (tgt := 21) ⟨by omega, by omega⟩ ⟨by omega, by omega⟩ d58_5 (by decide) (fun g5 => ?_) (fun g5 => ?_)
    · refine x_iconst (pc := 21) d58_21 ?_
      refine x_istore_n (pc := 22) (by decide +kernel) rfl d58_22 ?_
      dsimp only [List.set]
      exact hk J h2 (fun k hk0 hk1 => h3 k hk0 (by omega))
    · refine x_aload_n (pc := 8) rfl d58_8 ?_
      refine m_getR (pc := 9) f58_15 (by decide +kernel) (ko11 (by omega)) rr11_1 d58_9 ?_
      refine x_iload_n (pc := 12) rfl d58_12 ?_
      refine x_iconst (pc := 13) d58_13 ?_
      refine m_iast (pc := 14) (ka13 (by omega)) (by omega) (by omega) (by omega) d58_14 ?_
      refine x_iinc (pc := 15) rfl (by decide +kernel) rfl d58_15 ?_
      dsimp only [List.set]
      refine x_goto (pc := 18) (tgt := 2) d58_18 (by decide) ?_
      exfalso; omega
  | succ m ih =>
    intro i J h1 h2 h3 hk
    refine x_iload_n (pc := 2) rfl d58_2 ?_
    refine x_bipush (pc := 3) (by decide) d58_3 ?_
    refine x_icmp_ge (pc := 5) (tgt := 21) ⟨by omega, by omega⟩ ⟨by omega, by omega⟩ d58_5 (by decide) (fun g5 => ?_) (fun g5 => ?_)
    · refine x_iconst (pc := 21) d58_21 ?_
      refine x_istore_n (pc := 22) (by decide +kernel) rfl d58_22 ?_
      dsimp only [List.set]
      exfalso; omega
    · refine x_aload_n (pc := 8) rfl d58_8 ?_
      refine m_getR (pc := 9) f58_15 (by decide +kernel) (ko11 (by omega)) rr11_1 d58_9 ?_
      refine x_iload_n (pc := 12) rfl d58_12 ?_
      refine x_iconst (pc := 13) d58_13 ?_
      refine m_iast (pc := 14) (ka13 (by omega)) (by omega) (by omega) (by omega) d58_14 ?_
      refine x_iinc (pc := 15) rfl (by decide +kernel) rfl d58_15 ?_
      dsimp only [List.set]
      refine x_goto (pc := 18) (tgt := 2) d58_18 (by decide) ?_
      refine ih (i + 1) _ (by omega) (fun a ha => ?_) (fun k hk0 hk1 => ?_) hk
      · rw [← h2 a ha]; funext b; exact up2_p ha
      · by_cases e : k = i
        · rw [up2_e rfl e]
        · rw [up2_i e]; exact h3 k hk0 (by omega)
theorem lp_take (hl : l.1.stackTraces = false) (hq : 181 ≤ q) {n : Nat} {cb : Int → Int} (hcb : ∀ b, cb b = 0 ∨ cb b = 1) (hn : n ≤ 48) {dr : Int} (h2 : -99 ≤ dr) (h3 : dr ≤ 99) : ∀ (m i : Nat) (J : Nat → Int → Int), m + i = n → TakI I J n cb (takZ cb n dr) i →
    Ex l 58 0 0 23 [some (.ref 11), some (.int (iI dr)), some (.int (iI i))] [] (mm q J v fr) (oE q v fr none (fun K => GotI I K n cb (takZ cb n dr))) := by
  intro m
  induction m with
  | zero =>
    intro i J h1 hJ
    obtain ⟨j0, ⟨j1, j2⟩, j3, j4, j5⟩ := id hJ
    refine x_iload_n (pc := 23) rfl d58_23 ?_
    refine x_aload_n (pc := 24) rfl d58_24 ?_
    refine m_getI (pc := 25) (z := 2) f58_30 (by decide +kernel) rfl (ko11 (by omega)) d58_25 ?_
    refine x_val (pc := 28) (w := (n : Int)) (j1) ?_
    refine x_icmp_ge (pc := 28) (tgt := 70) ⟨by omega, by omega⟩ ⟨by omega, by omega⟩ d58_28 (by decide) (fun g28 => ?_) (fun g28 => ?_)
    · refine x_vret (pc := 70) rfl (fun _ => rfl) d58_70 ?_
      refine ⟨J, rfl, j0, ⟨j1, j2⟩, j3, j4, fun k hk hk2 => ?_, fun k hk hk2 => ?_⟩
      · rw [j5 k hk (by omega)]
        unfold byteZ
        congr 1
        unfold clN8
        omega
      · rw [j5 k hk hk2]
        have h8 := byteN_b (takZ_r hcb n dr) k (clN8 i k)
        have h9 : (2 : Int) ^ clN8 i k ≤ 2 ^ 8 := by
          have : (2 : Nat) ^ clN8 i k ≤ 2 ^ 8 := Nat.pow_le_pow_right (by decide) (by unfold clN8; omega)
          have := Int.ofNat_le.mpr this
          rw [Int.natCast_pow, Int.natCast_pow] at this
          exact this
        rw [p28] at h9
        omega
    · exfalso; omega
  | succ m ih =>
    intro i J h1 hJ
    obtain ⟨j0, ⟨j1, j2⟩, j3, j4, j5⟩ := id hJ
    refine x_iload_n (pc := 23) rfl d58_23 ?_
    refine x_aload_n (pc := 24) rfl d58_24 ?_
    refine m_getI (pc := 25) (z := 2) f58_30 (by decide +kernel) rfl (ko11 (by omega)) d58_25 ?_
    refine x_val (pc := 28) (w := (n : Int)) (j1) ?_
    refine x_icmp_ge (pc := 28) (tgt := 70) ⟨by omega, by omega⟩ ⟨by omega, by omega⟩ d58_28 (by decide) (fun g28 => ?_) (fun g28 => ?_)
    · refine x_vret (pc := 70) rfl (fun _ => rfl) d58_70 ?_
      exfalso; omega
    · refine x_iload_n (pc := 31) rfl d58_31 ?_
      refine x_bipush (pc := 32) (by decide) d58_32 ?_
      refine x_icmp_ge (pc := 34) (tgt := 70) ⟨by omega, by omega⟩ ⟨by omega, by omega⟩ d58_34 (by decide) (fun g34 => ?_) (fun g34 => ?_)
      · refine x_vret (pc := 70) rfl (fun _ => rfl) d58_70 ?_
        exfalso; omega
      · refine x_aload_n (pc := 37) rfl d58_37 ?_
        refine m_getR (pc := 38) f58_15 (by decide +kernel) (ko11 (by omega)) rr11_1 d58_38 ?_
        refine x_iload_n (pc := 41) rfl d58_41 ?_
        refine x_bipush (pc := 42) (by decide) d58_42 ?_
        refine x_idiv (pc := 44) (by omega) (by omega) (by omega) (by omega) d58_44 ?_
        refine x_aload_n (pc := 45) rfl d58_45 ?_
        refine m_getR (pc := 46) f58_15 (by decide +kernel) (ko11 (by omega)) rr11_1 d58_46 ?_
        refine x_iload_n (pc := 49) rfl d58_49 ?_
        refine x_bipush (pc := 50) (by decide) d58_50 ?_
        refine x_idiv (pc := 52) (by omega) (by omega) (by omega) (by omega) d58_52 ?_
        refine m_iald (pc := 53) (ka13 (by omega)) (by omega) (by omega) (by omega) d58_53 ?_
        refine x_iconst (pc := 54) d58_54 ?_
        refine x_imul (pc := 55) d58_55 ?_
        refine x_aload_n (pc := 56) rfl d58_56 ?_
        refine x_iload_n (pc := 57) rfl d58_57 ?_
        refine x_iload_n (pc := 58) rfl d58_58 ?_
        refine x_cVs (pc := 59) c58_62 (dt_takenBit hl hq (n := n) (cb := cb) ⟨j1, j2⟩ (by omega) (b := i) (dr := dr) (by omega) (by omega) (by omega) (by omega) (by omega)) (ko11 (by omega)) rfl rfl (Nat.le_of_ble_eq_true rfl) (by decide +kernel) (by decide +kernel) rfl d58_59 ?_
        refine x_iadd (pc := 62) d58_62 ?_
        refine m_iast (pc := 63) (ka13 (by omega)) (by omega) (by omega) (by omega) d58_63 ?_
        refine x_iinc (pc := 64) rfl (by decide +kernel) rfl d58_64 ?_
        dsimp only [List.set]
        refine x_goto (pc := 67) (tgt := 23) d58_67 (by decide) ?_
        exact ih (i + 1) _ (by omega) (tak_step hJ (by omega))
/-- take -/
theorem ct_take (hl : l.1.stackTraces = false) (hq : 181 ≤ q) {n : Nat} {cb : Int → Int} (hcb : ∀ b, cb b = 0 ∨ cb b = 1) (hn : n ≤ 48) {dr : Int} (h2 : -99 ≤ dr) (h3 : dr ≤ 99) (hC : CabI I n cb) : CT l 58 [.ref 11, .int (iI dr)] (mm q I v fr) 0 0 (oE q v fr none (fun K => GotI I K n cb (takZ cb n dr))) := by
  refine mkct2 hl (by decide) (Nat.le_of_ble_eq_true rfl) (L := [some (.ref 11), some (.int (iI dr)), none]) rfl ?_
  refine x_iconst (pc := 0) d58_0 ?_
  refine x_istore_n (pc := 1) (by decide +kernel) rfl d58_1 ?_
  dsimp only [List.set]
  refine lp_take0 hl hq 6 0 I rfl (fun _ _ => rfl) (fun k h0 h1 => by omega) (fun J hJ hz => ?_)
  refine lp_take hl hq hcb hn h2 h3 n 0 J (by omega) ⟨fun a _ _ h9 => hJ a h9, ⟨by rw [hJ 11 (by decide)]; exact hC.1, by rw [hJ 12 (by decide)]; exact hC.2⟩, by rw [hJ 11 (by decide)], by rw [hJ 11 (by decide)], fun k hk hk2 => ?_⟩
  rw [hz k hk hk2, show clN8 0 k = 0 from by unfold clN8; omega]
  rfl
end Take
