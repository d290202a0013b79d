/-! ===== Sending: readable, send, takeInverted ===== -/
section Read
variable {l : LX} {q p : Nat} {I : Nat → Int → Int} {v : Int} {fr : Bool}
/-- readable -/
theorem dt_readable (hl : l.1.stackTraces = false) (hq : 181 ≤ q) {n : Nat} (h1 : 3 ≤ n) (h2 : n ≤ 6) {B : Int → Int} (hn : I 11 2 = 8 * n) (hB : ∀ k : Int, 0 ≤ k → k < n → I 13 k = B k) (hB2 : ∀ k : Int, 0 ≤ k → k < 6 → 0 ≤ I 13 k ∧ I 13 k ≤ 255) : DT l 60 [.ref 11] (mm q I v fr) 0 0 (.inl (some (.int (iI (b01 (readZ B n))))), mm q I v fr) := by
  have e1 := crcF_b (B := fun k => I 13 (0 + k)) (n - 1) (fun j hj hj2 => hB2 (0 + j) (by omega) (by omega))
  have e2 := hB2 ((n : Int) - 1) (by omega) (by omega)
  have e3 := hB2 0 (by omega) (by omega)
  have e4 : crcF (fun k => I 13 (0 + k)) (n - 1) = crcF B (n - 1) := crcF_congr _ (fun i hi hi2 => by rw [Int.zero_add]; exact hB i hi (by omega))
  refine mkdt hl (by decide) (Nat.le_of_ble_eq_true rfl) (L := [some (.ref 11), none]) rfl ?_
  refine x_aload_n (pc := 0) rfl d60_0 ?_
  refine m_getI (pc := 1) (z := 2) f60_30 (by decide +kernel) rfl (ko11 (by omega)) d60_1 ?_
  refine x_val (pc := 4) (w := (8 * (n : Int))) (hn) ?_
  refine x_bipush (pc := 4) (by decide) d60_4 ?_
  refine x_idiv (pc := 6) (by omega) (by omega) (by omega) (by omega) d60_6 ?_
  refine x_iconst (pc := 7) d60_7 ?_
  refine x_isub (pc := 8) d60_8 ?_
  refine x_val (pc := 9) (w := ((n : Int) - 1)) (by omega) ?_
  refine x_istore_n (pc := 9) (by decide +kernel) rfl d60_9 ?_
  dsimp only [List.set]
  refine x_iload_n (pc := 10) rfl d60_10 ?_
  refine x_if_lt (pc := 11) (tgt := 57) ⟨by omega, by omega⟩ d60_11 (by decide) (fun g11 => ?_) (fun g11 => ?_)
  · refine x_iconst (pc := 57) d60_57 ?_
    refine x_zret (pc := 58) rfl (Or.inl rfl) (fun _ => rfl) d60_58 ?_
    exfalso; omega
  · refine x_iload_n (pc := 14) rfl d60_14 ?_
    refine x_bipush (pc := 15) (by decide) d60_15 ?_
    refine x_icmp_ge (pc := 17) (tgt := 57) ⟨by omega, by omega⟩ ⟨by omega, by omega⟩ d60_17 (by decide) (fun g17 => ?_) (fun g17 => ?_)
    · refine x_iconst (pc := 57) d60_57 ?_
      refine x_zret (pc := 58) rfl (Or.inl rfl) (fun _ => rfl) d60_58 ?_
      exfalso; omega
    · refine x_aload_n (pc := 20) rfl d60_20 ?_
      refine m_getR (pc := 21) f60_15 (by decide +kernel) (ko11 (by omega)) rr11_1 d60_21 ?_
      refine x_iload_n (pc := 24) rfl d60_24 ?_
      refine m_iald (pc := 25) (ka13 (by omega)) (by omega) (by omega) (by omega) d60_25 ?_
      refine x_aload_n (pc := 26) rfl d60_26 ?_
      refine m_getR (pc := 27) f60_15 (by decide +kernel) (ko11 (by omega)) rr11_1 d60_27 ?_
      refine x_iconst (pc := 30) d60_30 ?_
      refine x_iload_n (pc := 31) rfl d60_31 ?_
      refine x_cSNs (pc := 32) c60_69 (dt_sum hl (m0 := 6) ⟨by omega, by decide +kernel⟩ (by decide) (fm := 0) (to := (n : Int) - 1) (by omega) (by omega) (by omega) (fun j hj hj2 => hB2 j (by omega) (by omega))) rfl rfl (Nat.le_of_ble_eq_true rfl) (by decide +kernel) (by decide +kernel) rfl d60_32 ?_
      refine x_val (pc := 35) (w := (crcF B (n - 1))) (by rw [show ((n : Int) - 1 - 0).toNat = n - 1 from by omega]; exact e4) ?_
      rw [e4] at e1
      refine x_icmp_ne (pc := 35) (tgt := 57) ⟨by omega, by omega⟩ ⟨by omega, by omega⟩ d60_35 (by decide) (fun g35 => ?_) (fun g35 => ?_)
      · refine x_iconst (pc := 57) d60_57 ?_
        refine x_zret (pc := 58) rfl (Or.inl rfl) (fun _ => rfl) d60_58 ?_
        rw [show readZ B n = false from ?_]; rfl
        unfold readZ
        rw [decide_eq_false (by rw [← hB _ (by omega) (by omega)]; exact g35), Bool.false_and]
      · refine x_aload_n (pc := 38) rfl d60_38 ?_
        refine m_getR (pc := 39) f60_15 (by decide +kernel) (ko11 (by omega)) rr11_1 d60_39 ?_
        refine x_iconst (pc := 42) d60_42 ?_
        refine m_iald (pc := 43) (ka13 (by omega)) (by omega) (by omega) (by omega) d60_43 ?_
        refine x_bipush (pc := 44) (by decide) d60_44 ?_
        refine x_iand (pc := 46) (iI_and4 _) d60_46 ?_
        refine x_iload_n (pc := 47) rfl d60_47 ?_
        refine x_iconst (pc := 48) d60_48 ?_
        refine x_isub (pc := 49) d60_49 ?_
        refine x_icmp_ne (pc := 50) (tgt := 57) ⟨by omega, by omega⟩ ⟨by omega, by omega⟩ d60_50 (by decide) (fun g50 => ?_) (fun g50 => ?_)
        · refine x_iconst (pc := 57) d60_57 ?_
          refine x_zret (pc := 58) rfl (Or.inl rfl) (fun _ => rfl) d60_58 ?_
          rw [show readZ B n = false from ?_]; rfl
          unfold readZ
          rw [decide_eq_false (p := B 0 % 16 = _) (by rw [← hB 0 (by omega) (by omega)]; omega), Bool.and_false]
        · refine x_iconst (pc := 53) d60_53 ?_
          refine x_goto (pc := 54) (tgt := 58) d60_54 (by decide) ?_
          refine x_zret (pc := 58) rfl (Or.inr rfl) (fun _ => rfl) d60_58 ?_
          rw [show readZ B n = true from ?_]; rfl
          unfold readZ
          rw [decide_eq_true (by rw [← hB _ (by omega) (by omega)]; exact g35), decide_eq_true (p := B 0 % 16 = _) (by rw [← hB 0 (by omega) (by omega)]; omega)]
          rfl
/-- what send leaves: the bits' number, the bytes taken -/
def SndI (I K : Nat → Int → Int) (p : Nat) (f t bt dr : Int) : Prop := offC I K ∧ K 11 2 = I (p + 8) f * 8 ∧ (∀ k : Int, 0 ≤ k → k < I (p + 8) f → K 13 k = byteZ (takZ (cabF I p f t bt) (I (p + 8) f * 8) dr) k) ∧ ∀ k : Int, 0 ≤ k → k < 6 → 0 ≤ K 13 k ∧ K 13 k ≤ 255
def resF (I : Nat → Int → Int) (p : Nat) (f t bt dr : Int) : Int := resZ (Sf I p f) (I (p + 8) f).toNat (chF I p t bt) dr
theorem ack_no {ch : Int → Bool} {n : Int} {i : Nat} (hi : 8 ≤ i) (h : ∀ j : Nat, j < i → ch (n + j) = false) : ackZ ch n = false := by
  unfold ackZ
  rw [List.any_eq_false]
  intro j hj
  rw [h j (by have := List.mem_range.mp hj; omega)]
  decide
theorem ack_yes {ch : Int → Bool} {n : Int} {i : Nat} (hi : i < 8) (h : ch (n + i) = true) : ackZ ch n = true := by
  unfold ackZ
  rw [List.any_eq_true]
  exact ⟨i, List.mem_range.mpr hi, h⟩
theorem lp_ack (hl : l.1.stackTraces = false) (hq : 181 ≤ q) (hp : LineAt q p) (hD : DogsOK I p) {f t bt n : Int} {P : (Nat → Int → Int) → Prop} (ht : 0 ≤ t) (ht2 : t ≤ 50000000) (hb1 : 1 ≤ bt) (hb2 : bt ≤ 9) (hn : 0 ≤ n) (hn2 : n ≤ 48) {K : Nat → Int → Int} (j0 : offC I K) (hK : K 11 2 = n) (hP : P K) : ∀ (m i : Nat), m + i = 8 → (∀ j : Nat, j < i → chF I p t bt (n + j) = false) →
    Ex l 61 0 0 32 [some (.ref 11), some (.ref p), none, some (.int (iI t)), some (.int (iI bt)), some (.int (iI (n + i)))] [] (mm q K v fr) (oE q v fr (some (.int (iI (if ackZ (chF I p t bt) n then 2 else 0)))) P) := by
  have hpb := hp.b
  intro m
  induction m with
  | zero =>
    intro i h1 hno
    refine x_iload (pc := 32) rfl d61_32 ?_
    refine x_aload_n (pc := 34) rfl d61_34 ?_
    refine m_getI (pc := 35) (z := 2) f61_30 (by decide +kernel) rfl (ko11 (by omega)) d61_35 ?_
    refine x_val (pc := 38) (w := n) (hK) ?_
    refine x_bipush (pc := 38) (by decide) d61_38 ?_
    refine x_iadd (pc := 40) d61_40 ?_
    refine x_icmp_ge (pc := 41) (tgt := 69) ⟨by omega, by omega⟩ ⟨by omega, by omega⟩ d61_41 (by decide) (fun g41 => ?_) (fun g41 => ?_)
    · refine x_iconst (pc := 69) d61_69 ?_
      refine x_iret (pc := 70) rfl (fun _ => rfl) d61_70 ?_
      rw [ack_no (by omega) hno]; exact ⟨K, rfl, hP⟩
    · exfalso; omega
  | succ m ih =>
    intro i h1 hno
    have hm0 : 0 ≤ (n + i) * bt := Int.mul_nonneg (by omega) (by omega)
    have hm1 : (n + i) * bt ≤ 56 * 9 := Int.mul_le_mul (by omega) (by omega) (by omega) (by omega)
    refine x_iload (pc := 32) rfl d61_32 ?_
    refine x_aload_n (pc := 34) rfl d61_34 ?_
    refine m_getI (pc := 35) (z := 2) f61_30 (by decide +kernel) rfl (ko11 (by omega)) d61_35 ?_
    refine x_val (pc := 38) (w := n) (hK) ?_
    refine x_bipush (pc := 38) (by decide) d61_38 ?_
    refine x_iadd (pc := 40) d61_40 ?_
    refine x_icmp_ge (pc := 41) (tgt := 69) ⟨by omega, by omega⟩ ⟨by omega, by omega⟩ d61_41 (by decide) (fun g41 => ?_) (fun g41 => ?_)
    · refine x_iconst (pc := 69) d61_69 ?_
      refine x_iret (pc := 70) rfl (fun _ => rfl) d61_70 ?_
      exfalso; omega
    · refine x_aload_n (pc := 44) rfl d61_44 ?_
      refine m_getR (pc := 45) f61_44 (by decide +kernel) hp.o0 hp.r0_10 d61_45 ?_
      refine x_iload_n (pc := 48) rfl d61_48 ?_
      refine x_iload (pc := 49) rfl d61_49 ?_
      refine x_iload (pc := 51) rfl d61_51 ?_
      refine x_imul (pc := 53) d61_53 ?_
      refine x_iadd (pc := 54) d61_54 ?_
      refine x_cVs (pc := 55) c61_48 (dt_chewJ hl hp hD j0 (t := (t + ((n + i) * bt))) (by omega) (by omega)) hp.o3 rfl rfl (Nat.le_of_ble_eq_true rfl) (by decide +kernel) (by decide +kernel) rfl d61_55 ?_
      refine x_ifB_eq (pc := 58) (tgt := 63) d61_58 (by decide) (fun g58 => ?_) (fun g58 => ?_)
      · refine x_iinc (pc := 63) rfl (by decide +kernel) rfl d61_63 ?_
        dsimp only [List.set]
        refine x_goto (pc := 66) (tgt := 32) d61_66 (by decide) ?_
        rw [show n + (i : Int) + 1 = n + ((i + 1 : Nat) : Int) from by omega]
        refine ih (i + 1) (by omega) (fun j hj => ?_)
        by_cases e : j = i
        · rw [e]; exact g58
        · exact hno j (by omega)
      · refine x_iconst (pc := 61) d61_61 ?_
        refine x_iret (pc := 62) rfl (fun _ => rfl) d61_62 ?_
        rw [ack_yes (i := i) (by omega) g58]; exact ⟨K, rfl, hP⟩
/-- send -/
theorem ct_send (hl : l.1.stackTraces = false) (hq : 181 ≤ q) (hp : LineAt q p) (hD : DogsOK I p) (hF : FramesOK I p) {J0 : Nat → Int → Int} (hJ0 : offC I J0) {f t bt : Int} (h0 : 0 ≤ f) (h1 : f < I (p + 7) 0) (ht : 0 ≤ t) (ht2 : t ≤ 50000000) (hb1 : 1 ≤ bt) (hb2 : bt ≤ 9) (hd0 : -99 ≤ I p 1) (hd1 : I p 1 ≤ 99) : CT l 61 [.ref 11, .ref p, .int (iI f), .int (iI t), .int (iI bt)] (mm q J0 v fr) 0 0 (oE q v fr (some (.int (iI (resF I p f t bt (I p 1))))) (fun K => SndI I K p f t bt (I p 1))) := by
  have hpb := hp.b
  have hc := hF.1
  have hf := hF.2.1 f h0 h1
  refine mkct2 hl (by decide) (Nat.le_of_ble_eq_true rfl) (L := [some (.ref 11), some (.ref p), some (.int (iI f)), some (.int (iI t)), some (.int (iI bt)), none]) rfl ?_
  refine x_aload_n (pc := 0) rfl d61_0 ?_
  refine x_aload_n (pc := 1) rfl d61_1 ?_
  refine x_iload_n (pc := 2) rfl d61_2 ?_
  refine x_iload_n (pc := 3) rfl d61_3 ?_
  refine x_iload (pc := 4) rfl d61_4 ?_
  refine x_cVev (pc := 6) c61_73 (ct_put hl hq hp hD hF hJ0 h0 h1 ht ht2 hb1 hb2) (ko11 (by omega)) rfl rfl (Nat.le_of_ble_eq_true rfl) (by decide +kernel) (by decide +kernel) d61_6 (fun J1 hJ1 => ?_)
  obtain ⟨a0, a1, a2, a3, a4⟩ := hJ1
  have hC1 : CabI J1 ((I (p + 8) f * 8).toNat : Int) (cabF I p f t bt) := ⟨by rw [a1]; omega, a4⟩
  refine x_aload_n (pc := 9) rfl d61_9 ?_
  refine x_aload_n (pc := 10) rfl d61_10 ?_
  refine m_getI (pc := 11) (z := 1) f61_77 (by decide +kernel) rfl hp.o0 d61_11 ?_
  refine x_val (pc := 14) (w := (I p 1)) (by rw [a0 p (by omega) (by omega) (by omega)]) ?_
  refine x_cVev (pc := 14) c61_65 (ct_take hl hq (n := (I (p + 8) f * 8).toNat) (cb := cabF I p f t bt) (cabZ_r _ _) (by omega) (dr := I p 1) hd0 hd1 hC1) (ko11 (by omega)) rfl rfl (Nat.le_of_ble_eq_true rfl) (by decide +kernel) (by decide +kernel) d61_14 (fun J2 hJ2 => ?_)
  obtain ⟨b0, ⟨b1, b2⟩, b3, b4, b5, b6⟩ := hJ2
  have e8 : ((I (p + 8) f * 8).toNat : Int) = I (p + 8) f * 8 := by omega
  rw [e8] at b1 b2 b5
  have hn2 : J2 11 2 = 8 * (((I (p + 8) f).toNat : Nat) : Int) := by rw [b1]; omega
  have hB : ∀ k : Int, 0 ≤ k → k < ((I (p + 8) f).toNat : Nat) → J2 13 k = byteZ (takZ (cabF I p f t bt) (I (p + 8) f * 8) (I p 1)) k := fun k hk hk2 => b5 k hk (by omega)
  have hB2 := b6
  have hS : SndI I J2 p f t bt (I p 1) := ⟨a0.trans b0, b1, fun k hk hk2 => b5 k hk (by omega), b6⟩
  have e7 : resF I p f t bt (I p 1) = if readZ (byteZ (takZ (cabF I p f t bt) (I (p + 8) f * 8) (I p 1))) (I (p + 8) f).toNat then (if ackZ (chF I p t bt) (I (p + 8) f * 8) then 2 else 0) else 1 := by unfold resF resZ; rw [show 8 * (((I (p + 8) f).toNat : Nat) : Int) = I (p + 8) f * 8 from by omega]; rfl
  rw [e7]
  refine x_aload_n (pc := 17) rfl d61_17 ?_
  refine x_cVs (pc := 18) c61_80 (dt_readable hl hq (n := (I (p + 8) f).toNat) (B := byteZ (takZ (cabF I p f t bt) (I (p + 8) f * 8) (I p 1))) (by omega) (by omega) hn2 hB hB2) (ko11 (by omega)) rfl rfl (Nat.le_of_ble_eq_true rfl) (by decide +kernel) (by decide +kernel) rfl d61_18 ?_
  refine x_ifB_ne (pc := 21) (tgt := 26) d61_21 (by decide) (fun g21 => ?_) (fun g21 => ?_)
  · refine x_aload_n (pc := 26) rfl d61_26 ?_
    refine m_getI (pc := 27) (z := 2) f61_30 (by decide +kernel) rfl (ko11 (by omega)) d61_27 ?_
    refine x_val (pc := 30) (w := (I (p + 8) f * 8 + ((0 : Nat) : Int))) (by rw [b1]; omega) ?_
    refine x_istore (pc := 30) (by decide +kernel) rfl d61_30 ?_
    dsimp only [List.set]
    refine x_mask [true, true, false, true, true, true] ?_
    dsimp only [mask]
    rw [if_pos g21]
    exact lp_ack hl hq hp hD ht ht2 hb1 hb2 (f := f) (by omega) (by omega) (a0.trans b0) b1 hS 8 0 rfl (fun j hj => absurd hj (Nat.not_lt_zero _))
  · refine x_iconst (pc := 24) d61_24 ?_
    refine x_iret (pc := 25) rfl (fun _ => rfl) d61_25 ?_
    rw [g21]; exact ⟨_, rfl, hS⟩
end Read
