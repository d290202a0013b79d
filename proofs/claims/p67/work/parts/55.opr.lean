/-! ===== the class's operations ===== -/
theorem CREL.len {I : Nat → Int → Int} {S : GS} (h : CREL I S) (z : Int) : CREL (up2 I 1 1 z) (sL S (z, gT S)) :=
  ⟨h.1.cg fun a h0 h1 => up2_off' _ _ _ (by omega), h.2.1.cg (up2_off' _ _ _ (by decide)) fun a h0 h1 => up2_off' _ _ _ (by omega), h.2.2.1.cg (by rw [up2_p (by decide)]) fun a h0 h1 => up2_off' _ _ _ (by omega), h.2.2.2.1.cg fun a h0 h1 => up2_off' _ _ _ (by omega), ⟨up2_s, by rw [up2_off' _ _ _ (by decide)]; exact h.2.2.2.2.1.2⟩, h.2.2.2.2.2.1.cg (by rw [up2_p (by decide)]) (by rw [up2_p (by decide)]), h.2.2.2.2.2.2.cg (up2_off' _ _ _ (by decide)) (up2_off' _ _ _ (by decide))⟩
section Opr
variable {l : LX} {q : Nat} {I : Nat → Int → Int} {v : Int} {S : GS}
theorem ct_keepX (hl : l.1.stackTraces = false) (hq : 181 ≤ q) (h : CREL I S) (hS : GOK S) : CT l 29 [.ref 14, .ref 136] (mm q I v false) 0 0 (oE q v false none (fun K => CREL K (keepG S) ∧ CINV K 136 cB ∧ (∀ a, 136 ≤ a → K a = I a) ∧ ∀ a, a < 14 → K a = I a)) := by
  have hN := hS.2.1.1
  have h14 := h.2.1
  refine ct_mono (ct_keep hl hq (la136 (by omega)) (h.inv hS) (by decide) (n := I 14 1) rfl h14.2.1.1 h14.2.1.2 (by rw [h14.1]; exact hN.1) (by rw [h14.1]; exact hN.2)) ?_
  rintro o ⟨K, ho, k0, k1, k2, k3, k4⟩
  have hb := rowP_b (n := I 14 1) h14.2.1.1 h14.2.1.2
  have hk := h.keep hS rfl k0 k1 k2 k3 k4
  exact ⟨K, ho, hk, hk.inv hS.keep, fun a ha => k0 a (by omega) (by omega), fun a ha => k0 a (by omega) (by omega)⟩
theorem cm128 (hl : l.1.stackTraces = false) (hq : 181 ≤ q) (h : CREL I S) (hS : GOK S) {z : Int} (hz : InR z) : CT l 128 [.ref 0, .int (iI z)] (mm q I v false) 1 6 (QC q v (fun c => if c = 1 then 0 else 1) I (oTransmit S z)) := by
  have hi := h.inv hS
  have hs := hi.sc
  have e7 : gA S 0 7 = I 136 4 := by rw [← h.1.1, vr7]
  obtain ⟨hz1, hz2⟩ := hz
  unfold oTransmit
  by_cases c : 1 ≤ z ∧ z ≤ 60
  · obtain ⟨w, hw⟩ : ∃ w : Nat, z = w := ⟨z.toNat, by omega⟩
    subst hw
    rw [if_pos c, e7, Int.toNat_natCast]
    refine mkct2 hl (by decide) (Nat.le_of_ble_eq_true rfl) (L := [some (.ref 0), some (.int (iI (w : Int)))]) rfl ?_
    refine x_iload_n (pc := 0) rfl d128_0 ?_
    refine x_iconst (pc := 1) d128_1 ?_
    refine x_icmp_lt (pc := 2) (tgt := 11) ⟨by omega, by omega⟩ ⟨by omega, by omega⟩ d128_2 (by decide) (fun g2 => ?_) (fun g2 => ?_)
    · refine x_throw (pc := 11) x128_11 (Nat.le_of_ble_eq_true rfl) (by decide +kernel) rfl (by decide) (by decide) rfl ?_
      exfalso; omega
    · refine x_iload_n (pc := 5) rfl d128_5 ?_
      refine x_bipush (pc := 6) (by decide) d128_6 ?_
      refine x_icmp_le (pc := 8) (tgt := 22) ⟨by omega, by omega⟩ ⟨by omega, by omega⟩ d128_8 (by decide) (fun g8 => ?_) (fun g8 => ?_)
      · refine x_aload_n (pc := 22) rfl d128_22 ?_
        refine m_getR (pc := 23) f128_54 (by decide +kernel) (ko0 (by omega)) rr0_6 d128_23 ?_
        refine x_cVs (pc := 26) c128_320 (dt_mayAtt hl (la136 (by omega)) hi (by decide)) (ko136 (by omega)) rfl rfl (Nat.le_of_ble_eq_true rfl) (by decide +kernel) (by decide +kernel) rfl d128_26 ?_
        refine x_ifB_ne (pc := 29) (tgt := 43) d128_29 (by decide) (fun g29 => ?_) (fun g29 => ?_)
        · refine x_aload_n (pc := 43) rfl d128_43 ?_
          refine m_getR (pc := 44) f128_47 (by decide +kernel) (ko0 (by omega)) rr0_5 d128_44 ?_
          refine x_aload_n (pc := 47) rfl d128_47 ?_
          refine m_getR (pc := 48) f128_54 (by decide +kernel) (ko0 (by omega)) rr0_6 d128_48 ?_
          refine x_cVev (pc := 51) c128_129 (ct_keepX hl hq h hS) (ko14 (by omega)) rfl rfl (Nat.le_of_ble_eq_true rfl) (by decide +kernel) (by decide +kernel) d128_51 (fun J1 hJ1 => ?_)
          obtain ⟨j0, hi1, j2, j3⟩ := hJ1
          refine x_aload_n (pc := 54) rfl d128_54 ?_
          refine m_getR (pc := 55) f128_54 (by decide +kernel) (ko0 (by omega)) rr0_6 d128_55 ?_
          refine x_iload_n (pc := 58) rfl d128_58 ?_
          refine x_aload_n (pc := 59) rfl d128_59 ?_
          refine m_getR (pc := 60) f128_40 (by decide +kernel) (ko0 (by omega)) rr0_4 d128_60 ?_
          refine x_cVes (pc := 63) c128_263 (ct_make hl hq (la136 (by omega)) hi1 (n := w) (by omega) (by decide)) (ko136 (by omega)) rfl rfl (Nat.le_of_ble_eq_true rfl) (by decide +kernel) (by decide +kernel) d128_63 (fun J2 hJ2 => ?_)
          refine x_iret (pc := 66) rfl (fun z => Bool.noConfusion z) d128_66 ?_
          have c2 := of_decide_eq_true g29
          obtain ⟨k0, k1, k2⟩ := hJ2
          have ea : Vc J1 136 = gA S := j0.1.1
          rw [if_pos c2]
          rw [ea] at k1 ⊢
          exact qc_ok (j0.line k0 k1 k2) (fun a ha => by rw [k0 a (by omega) (by omega) (by omega) (by omega), j2 a (by omega)])
        · refine x_throw (pc := 32) x128_32 (Nat.le_of_ble_eq_true rfl) (by decide +kernel) rfl (by decide) (by decide) rfl ?_
          have c2 := of_decide_eq_false g29
          rw [if_neg c2]; exact qc_no (by decide) rfl h (fun _ _ => rfl)
      · refine x_throw (pc := 11) x128_11 (Nat.le_of_ble_eq_true rfl) (by decide +kernel) rfl (by decide) (by decide) rfl ?_
        exfalso; omega
  · rw [if_neg c]
    refine mkct2 hl (by decide) (Nat.le_of_ble_eq_true rfl) (L := [some (.ref 0), some (.int (iI z))]) rfl ?_
    refine x_iload_n (pc := 0) rfl d128_0 ?_
    refine x_iconst (pc := 1) d128_1 ?_
    refine x_icmp_lt (pc := 2) (tgt := 11) ⟨by omega, by omega⟩ ⟨by omega, by omega⟩ d128_2 (by decide) (fun g2 => ?_) (fun g2 => ?_)
    · refine x_throw (pc := 11) x128_11 (Nat.le_of_ble_eq_true rfl) (by decide +kernel) rfl (by decide) (by decide) rfl ?_
      exact qc_no (by decide) rfl h (fun _ _ => rfl)
    · refine x_iload_n (pc := 5) rfl d128_5 ?_
      refine x_bipush (pc := 6) (by decide) d128_6 ?_
      refine x_icmp_le (pc := 8) (tgt := 22) ⟨by omega, by omega⟩ ⟨by omega, by omega⟩ d128_8 (by decide) (fun g8 => ?_) (fun g8 => ?_)
      · exfalso; omega
      · refine x_throw (pc := 11) x128_11 (Nat.le_of_ble_eq_true rfl) (by decide +kernel) rfl (by decide) (by decide) rfl ?_
        exact qc_no (by decide) rfl h (fun _ _ => rfl)
theorem cm131 (hl : l.1.stackTraces = false) (hq : 181 ≤ q) (h : CREL I S) (hS : GOK S) {z : Int} (hz : InR z) : CT l 131 [.ref 0, .int (iI z)] (mm q I v false) 1 6 (QC q v (fun c => if c = 1 then 0 else 1) I (oWait S z)) := by
  have hi := h.inv hS
  have hs := hi.sc
  have e7 : gA S 0 7 = I 136 4 := by rw [← h.1.1, vr7]
  obtain ⟨hz1, hz2⟩ := hz
  unfold oWait
  by_cases c : 1 ≤ z ∧ z ≤ 999
  · rw [if_pos c, e7]
    refine mkct2 hl (by decide) (Nat.le_of_ble_eq_true rfl) (L := [some (.ref 0), some (.int (iI z))]) rfl ?_
    refine x_iload_n (pc := 0) rfl d131_0 ?_
    refine x_iconst (pc := 1) d131_1 ?_
    refine x_icmp_lt (pc := 2) (tgt := 12) ⟨by omega, by omega⟩ ⟨by omega, by omega⟩ d131_2 (by decide) (fun g2 => ?_) (fun g2 => ?_)
    · refine x_throw (pc := 12) x131_12 (Nat.le_of_ble_eq_true rfl) (by decide +kernel) rfl (by decide) (by decide) rfl ?_
      exfalso; omega
    · refine x_iload_n (pc := 5) rfl d131_5 ?_
      refine x_sipush (pc := 6) (by decide) d131_6 ?_
      refine x_icmp_le (pc := 9) (tgt := 23) ⟨by omega, by omega⟩ ⟨by omega, by omega⟩ d131_9 (by decide) (fun g9 => ?_) (fun g9 => ?_)
      · refine x_aload_n (pc := 23) rfl d131_23 ?_
        refine m_getR (pc := 24) f131_54 (by decide +kernel) (ko0 (by omega)) rr0_6 d131_24 ?_
        refine x_iload_n (pc := 27) rfl d131_27 ?_
        refine x_cVs (pc := 28) c131_343 (dt_mayWait hl (la136 (by omega)) hi (by decide) (t := z) (by omega) (by omega)) (ko136 (by omega)) rfl rfl (Nat.le_of_ble_eq_true rfl) (by decide +kernel) (by decide +kernel) rfl d131_28 ?_
        refine x_ifB_ne (pc := 31) (tgt := 45) d131_31 (by decide) (fun g31 => ?_) (fun g31 => ?_)
        · refine x_aload_n (pc := 45) rfl d131_45 ?_
          refine m_getR (pc := 46) f131_47 (by decide +kernel) (ko0 (by omega)) rr0_5 d131_46 ?_
          refine x_aload_n (pc := 49) rfl d131_49 ?_
          refine m_getR (pc := 50) f131_54 (by decide +kernel) (ko0 (by omega)) rr0_6 d131_50 ?_
          refine x_cVev (pc := 53) c131_129 (ct_keepX hl hq h hS) (ko14 (by omega)) rfl rfl (Nat.le_of_ble_eq_true rfl) (by decide +kernel) (by decide +kernel) d131_53 (fun J1 hJ1 => ?_)
          obtain ⟨j0, hi1, j2, j3⟩ := hJ1
          refine x_aload_n (pc := 56) rfl d131_56 ?_
          refine m_getR (pc := 57) f131_54 (by decide +kernel) (ko0 (by omega)) rr0_6 d131_57 ?_
          refine x_iload_n (pc := 60) rfl d131_60 ?_
          refine x_cVes (pc := 61) c131_348 (ct_letPass hl (la136 (by omega)) hi1 (by decide) (t := z) (by omega) (by omega)) (ko136 (by omega)) rfl rfl (Nat.le_of_ble_eq_true rfl) (by decide +kernel) (by decide +kernel) d131_61 (fun J2 hJ2 => ?_)
          refine x_pop (pc := 64) rfl d131_64 ?_
          refine x_aload_n (pc := 65) rfl d131_65 ?_
          refine m_getR (pc := 66) f131_54 (by decide +kernel) (ko0 (by omega)) rr0_6 d131_66 ?_
          refine m_getI (pc := 69) (z := 4) f131_143 (by decide +kernel) rfl (ko136 (by omega)) d131_69 ?_
          refine x_iret (pc := 72) rfl (fun z => Bool.noConfusion z) d131_72 ?_
          have c2 := of_decide_eq_true g31
          obtain ⟨k0, k1, k2⟩ := hJ2
          have ej : J1 136 4 = I 136 4 := by rw [j2 136 (by omega)]
          have ea : Vc J1 136 = gA S := j0.1.1
          rw [if_pos (by rw [ej]; exact c2), ea] at k1
          have e4 : J2 136 4 = I 136 4 + z := by
            have : Vc J2 136 0 7 = gA S 0 7 + z := by rw [k1]; unfold waitA; rw [up2_i (by decide), up2_s]
            rw [vr7, e7] at this
            exact this
          rw [if_pos c2, e4]
          exact qc_ok (j0.line k0.offL k1 k2) (fun a ha => by rw [k0 a (by omega), j2 a (by omega)])
        · refine x_throw (pc := 34) x131_34 (Nat.le_of_ble_eq_true rfl) (by decide +kernel) rfl (by decide) (by decide) rfl ?_
          have c2 := of_decide_eq_false g31
          rw [if_neg c2]; exact qc_no (by decide) rfl h (fun _ _ => rfl)
      · refine x_throw (pc := 12) x131_12 (Nat.le_of_ble_eq_true rfl) (by decide +kernel) rfl (by decide) (by decide) rfl ?_
        exfalso; omega
  · rw [if_neg c]
    refine mkct2 hl (by decide) (Nat.le_of_ble_eq_true rfl) (L := [some (.ref 0), some (.int (iI z))]) rfl ?_
    refine x_iload_n (pc := 0) rfl d131_0 ?_
    refine x_iconst (pc := 1) d131_1 ?_
    refine x_icmp_lt (pc := 2) (tgt := 12) ⟨by omega, by omega⟩ ⟨by omega, by omega⟩ d131_2 (by decide) (fun g2 => ?_) (fun g2 => ?_)
    · refine x_throw (pc := 12) x131_12 (Nat.le_of_ble_eq_true rfl) (by decide +kernel) rfl (by decide) (by decide) rfl ?_
      exact qc_no (by decide) rfl h (fun _ _ => rfl)
    · refine x_iload_n (pc := 5) rfl d131_5 ?_
      refine x_sipush (pc := 6) (by decide) d131_6 ?_
      refine x_icmp_le (pc := 9) (tgt := 23) ⟨by omega, by omega⟩ ⟨by omega, by omega⟩ d131_9 (by decide) (fun g9 => ?_) (fun g9 => ?_)
      · exfalso; omega
      · refine x_throw (pc := 12) x131_12 (Nat.le_of_ble_eq_true rfl) (by decide +kernel) rfl (by decide) (by decide) rfl ?_
        exact qc_no (by decide) rfl h (fun _ _ => rfl)
theorem cm132 (hl : l.1.stackTraces = false) (hq : 181 ≤ q) (h : CREL I S) (hS : GOK S) {z : Int} (hz : InR z) : CT l 132 [.ref 0, .int (iI z)] (mm q I v false) 1 6 (QC q v (fun _ => 0) I (oDrift S z)) := by
  have hi := h.inv hS
  have e1 : gA S 0 1 = I 136 1 := by rw [← h.1.1, vr1]
  obtain ⟨hz1, hz2⟩ := hz
  unfold oDrift
  by_cases c : -99 ≤ z ∧ z ≤ 99
  · rw [if_pos c]
    refine mkct2 hl (by decide) (Nat.le_of_ble_eq_true rfl) (L := [some (.ref 0), some (.int (iI z)), none]) rfl ?_
    refine x_iload_n (pc := 0) rfl d132_0 ?_
    refine x_bipush (pc := 1) (by decide) d132_1 ?_
    refine x_icmp_lt (pc := 3) (tgt := 12) ⟨by omega, by omega⟩ ⟨by omega, by omega⟩ d132_3 (by decide) (fun g3 => ?_) (fun g3 => ?_)
    · refine x_throw (pc := 12) x132_12 (Nat.le_of_ble_eq_true rfl) (by decide +kernel) rfl (by decide) (by decide) rfl ?_
      exfalso; omega
    · refine x_iload_n (pc := 6) rfl d132_6 ?_
      refine x_bipush (pc := 7) (by decide) d132_7 ?_
      refine x_icmp_le (pc := 9) (tgt := 23) ⟨by omega, by omega⟩ ⟨by omega, by omega⟩ d132_9 (by decide) (fun g9 => ?_) (fun g9 => ?_)
      · refine x_aload_n (pc := 23) rfl d132_23 ?_
        refine m_getR (pc := 24) f132_47 (by decide +kernel) (ko0 (by omega)) rr0_5 d132_24 ?_
        refine x_aload_n (pc := 27) rfl d132_27 ?_
        refine m_getR (pc := 28) f132_54 (by decide +kernel) (ko0 (by omega)) rr0_6 d132_28 ?_
        refine x_cVev (pc := 31) c132_129 (ct_keepX hl hq h hS) (ko14 (by omega)) rfl rfl (Nat.le_of_ble_eq_true rfl) (by decide +kernel) (by decide +kernel) d132_31 (fun J1 hJ1 => ?_)
        obtain ⟨j0, hi1, j2, j3⟩ := hJ1
        refine x_aload_n (pc := 34) rfl d132_34 ?_
        refine m_getR (pc := 35) f132_54 (by decide +kernel) (ko0 (by omega)) rr0_6 d132_35 ?_
        refine m_getI (pc := 38) (z := 1) f132_149 (by decide +kernel) rfl (ko136 (by omega)) d132_38 ?_
        refine x_val (pc := 41) (w := (I 136 1)) (by rw [j2 136 (by omega)]) ?_
        refine x_istore_n (pc := 41) (by decide +kernel) rfl d132_41 ?_
        dsimp only [List.set]
        refine x_aload_n (pc := 42) rfl d132_42 ?_
        refine m_getR (pc := 43) f132_54 (by decide +kernel) (ko0 (by omega)) rr0_6 d132_43 ?_
        refine x_iload_n (pc := 46) rfl d132_46 ?_
        refine m_putI (pc := 47) (z := 1) f132_149 (by decide +kernel) (by decide +kernel) rfl (ko136 (by omega)) d132_47 ?_
        refine x_iload_n (pc := 50) rfl d132_50 ?_
        refine x_iret (pc := 51) rfl (fun z => Bool.noConfusion z) d132_51 ?_
        rw [← e1]
        exact qc_ok (j0.line (fun a a0 _ _ _ => up2_off' _ _ _ (by omega)) (by rw [vw1, j0.1.1]; rfl) (j0.1.2.up (by omega) (by omega) (fun _ => by decide))) (fun a ha => by rw [up2_off' _ _ _ (by omega), j2 a (by omega)])
      · refine x_throw (pc := 12) x132_12 (Nat.le_of_ble_eq_true rfl) (by decide +kernel) rfl (by decide) (by decide) rfl ?_
        exfalso; omega
  · rw [if_neg c]
    refine mkct2 hl (by decide) (Nat.le_of_ble_eq_true rfl) (L := [some (.ref 0), some (.int (iI z)), none]) rfl ?_
    refine x_iload_n (pc := 0) rfl d132_0 ?_
    refine x_bipush (pc := 1) (by decide) d132_1 ?_
    refine x_icmp_lt (pc := 3) (tgt := 12) ⟨by omega, by omega⟩ ⟨by omega, by omega⟩ d132_3 (by decide) (fun g3 => ?_) (fun g3 => ?_)
    · refine x_throw (pc := 12) x132_12 (Nat.le_of_ble_eq_true rfl) (by decide +kernel) rfl (by decide) (by decide) rfl ?_
      exact qc_no (by decide) rfl h (fun _ _ => rfl)
    · refine x_iload_n (pc := 6) rfl d132_6 ?_
      refine x_bipush (pc := 7) (by decide) d132_7 ?_
      refine x_icmp_le (pc := 9) (tgt := 23) ⟨by omega, by omega⟩ ⟨by omega, by omega⟩ d132_9 (by decide) (fun g9 => ?_) (fun g9 => ?_)
      · exfalso; omega
      · refine x_throw (pc := 12) x132_12 (Nat.le_of_ble_eq_true rfl) (by decide +kernel) rfl (by decide) (by decide) rfl ?_
        exact qc_no (by decide) rfl h (fun _ _ => rfl)
theorem cm129 (hl : l.1.stackTraces = false) (hq : 181 ≤ q) (h : CREL I S) (hS : GOK S) {m : Int} (hm : InR m) : CT l 129 [.ref 0, .int (iI m)] (mm q I v false) 1 6 (QC q v (fun c => if c = 1 then 2 else 1) I (oCancel S m)) := by
  have hi := h.inv hS
  have hs := hi.sc
  have hs5 := hs.2.2.2.2.2.1
  unfold oCancel
  by_cases c : 0 ≤ m ∧ m < gA S 0 5
  · rw [if_pos c]
    obtain ⟨c0, c1⟩ := id c
    have c9 : m < I 136 7 := by rw [← h.1.1, vr5] at c1; exact c1
    have e5 : gA S 0 5 = I 136 7 := by rw [← h.1.1, vr5]
    refine mkct2 hl (by decide) (Nat.le_of_ble_eq_true rfl) (L := [some (.ref 0), some (.int (iI m))]) rfl ?_
    refine x_aload_n (pc := 0) rfl d129_0 ?_
    refine x_iload_n (pc := 1) rfl d129_1 ?_
    refine x_cVv (pc := 2) c129_167 (dt_rm hl hq h hS c.1 c.2) (ko0 (by omega)) rfl rfl (Nat.le_of_ble_eq_true rfl) (by decide +kernel) (by decide +kernel) rfl d129_2 ?_
    refine x_aload_n (pc := 5) rfl d129_5 ?_
    refine m_getR (pc := 6) f129_54 (by decide +kernel) (ko0 (by omega)) rr0_6 d129_6 ?_
    refine x_iload_n (pc := 9) rfl d129_9 ?_
    refine x_cVs (pc := 10) c129_325 (dt_mayGive hl (la136 (by omega)) hi (m := m) hm) (ko136 (by omega)) rfl rfl (Nat.le_of_ble_eq_true rfl) (by decide +kernel) (by decide +kernel) rfl d129_10 ?_
    refine x_ifB_ne (pc := 13) (tgt := 27) d129_13 (by decide) (fun g13 => ?_) (fun g13 => ?_)
    · refine x_aload_n (pc := 27) rfl d129_27 ?_
      refine m_getR (pc := 28) f129_47 (by decide +kernel) (ko0 (by omega)) rr0_5 d129_28 ?_
      refine x_aload_n (pc := 31) rfl d129_31 ?_
      refine m_getR (pc := 32) f129_54 (by decide +kernel) (ko0 (by omega)) rr0_6 d129_32 ?_
      refine x_cVev (pc := 35) c129_129 (ct_keepX hl hq h hS) (ko14 (by omega)) rfl rfl (Nat.le_of_ble_eq_true rfl) (by decide +kernel) (by decide +kernel) d129_35 (fun J1 hJ1 => ?_)
      obtain ⟨j0, hi1, j2, j3⟩ := hJ1
      refine x_aload_n (pc := 38) rfl d129_38 ?_
      refine m_getR (pc := 39) f129_54 (by decide +kernel) (ko0 (by omega)) rr0_6 d129_39 ?_
      refine x_iload_n (pc := 42) rfl d129_42 ?_
      refine x_cVes (pc := 43) c129_330 (ct_give hl (la136 (by omega)) hi1 (m := m) hm) (ko136 (by omega)) rfl rfl (Nat.le_of_ble_eq_true rfl) (by decide +kernel) (by decide +kernel) d129_43 (fun J2 hJ2 => ?_)
      refine x_iret (pc := 46) rfl (fun z => Bool.noConfusion z) d129_46 ?_
      have c2 := of_decide_eq_true g13
      obtain ⟨k0, k1⟩ := hJ2
      have ea : Vc J1 136 = gA S := j0.1.1
      rw [h.1.1] at c2
      rw [ea, if_pos c2] at k1
      rw [ea, if_pos c2, if_pos c2]
      exact qc_ok (j0.line (fun a a0 _ _ _ => k0 a (by omega)) k1 (by
        unfold CX
        rw [k0 (136 + 12) (by omega), k0 (136 + 13) (by omega), k0 (136 + 7) (by omega), k0 (136 + 11) (by omega), k0 (136 + 10) (by omega), k0 (136 + 14) (by omega), k0 136 (by omega)]
        exact j0.1.2)) (fun a ha => by rw [k0 a (by omega), j2 a (by omega)])
    · refine x_throw (pc := 16) x129_16 (Nat.le_of_ble_eq_true rfl) (by decide +kernel) rfl (by decide) (by decide) rfl ?_
      have c2 := of_decide_eq_false g13
      rw [h.1.1] at c2
      rw [if_neg c2]; exact qc_no (by decide) rfl h (fun _ _ => rfl)
  · rw [if_neg c]
    refine mkct2 hl (by decide) (Nat.le_of_ble_eq_true rfl) (L := [some (.ref 0), some (.int (iI m))]) rfl ?_
    refine x_aload_n (pc := 0) rfl d129_0 ?_
    refine x_iload_n (pc := 1) rfl d129_1 ?_
    refine x_cVt (pc := 2) c129_167 (dt_rmX hl hq h hS hm c) (ko0 (by omega)) rfl rfl (Nat.le_of_ble_eq_true rfl) (by decide +kernel) (by decide +kernel) rfl d129_2 ?_
    exact qc_no (by decide) rfl h (fun _ _ => rfl)
theorem cm130 (hl : l.1.stackTraces = false) (hq : 181 ≤ q) (h : CREL I S) (hS : GOK S) {m : Int} (hm : InR m) : CT l 130 [.ref 0, .int (iI m)] (mm q I v false) 1 6 (QC q v (fun c => if c = 1 then 2 else 1) I (oResend S m)) := by
  have hi := h.inv hS
  have hs := hi.sc
  have hs5 := hs.2.2.2.2.2.1
  unfold oResend
  by_cases c : 0 ≤ m ∧ m < gA S 0 5
  · rw [if_pos c]
    obtain ⟨c0, c1⟩ := id c
    have c9 : m < I 136 7 := by rw [← h.1.1, vr5] at c1; exact c1
    have e5 : gA S 0 5 = I 136 7 := by rw [← h.1.1, vr5]
    refine mkct2 hl (by decide) (Nat.le_of_ble_eq_true rfl) (L := [some (.ref 0), some (.int (iI m))]) rfl ?_
    refine x_aload_n (pc := 0) rfl d130_0 ?_
    refine x_iload_n (pc := 1) rfl d130_1 ?_
    refine x_cVv (pc := 2) c130_167 (dt_rm hl hq h hS c.1 c.2) (ko0 (by omega)) rfl rfl (Nat.le_of_ble_eq_true rfl) (by decide +kernel) (by decide +kernel) rfl d130_2 ?_
    refine x_aload_n (pc := 5) rfl d130_5 ?_
    refine m_getR (pc := 6) f130_54 (by decide +kernel) (ko0 (by omega)) rr0_6 d130_6 ?_
    refine x_iload_n (pc := 9) rfl d130_9 ?_
    refine x_cVs (pc := 10) c130_333 (dt_maySend hl (la136 (by omega)) hi (m := m) hm) (ko136 (by omega)) rfl rfl (Nat.le_of_ble_eq_true rfl) (by decide +kernel) (by decide +kernel) rfl d130_10 ?_
    refine x_ifB_ne (pc := 13) (tgt := 27) d130_13 (by decide) (fun g13 => ?_) (fun g13 => ?_)
    · refine x_aload_n (pc := 27) rfl d130_27 ?_
      refine m_getR (pc := 28) f130_47 (by decide +kernel) (ko0 (by omega)) rr0_5 d130_28 ?_
      refine x_aload_n (pc := 31) rfl d130_31 ?_
      refine m_getR (pc := 32) f130_54 (by decide +kernel) (ko0 (by omega)) rr0_6 d130_32 ?_
      refine x_cVev (pc := 35) c130_129 (ct_keepX hl hq h hS) (ko14 (by omega)) rfl rfl (Nat.le_of_ble_eq_true rfl) (by decide +kernel) (by decide +kernel) d130_35 (fun J1 hJ1 => ?_)
      obtain ⟨j0, hi1, j2, j3⟩ := hJ1
      refine x_aload_n (pc := 38) rfl d130_38 ?_
      refine m_getR (pc := 39) f130_54 (by decide +kernel) (ko0 (by omega)) rr0_6 d130_39 ?_
      refine x_iload_n (pc := 42) rfl d130_42 ?_
      refine x_cVes (pc := 43) c130_338 (ct_again hl (la136 (by omega)) hi1 (m := m) hm) (ko136 (by omega)) rfl rfl (Nat.le_of_ble_eq_true rfl) (by decide +kernel) (by decide +kernel) d130_43 (fun J2 hJ2 => ?_)
      refine x_iret (pc := 46) rfl (fun z => Bool.noConfusion z) d130_46 ?_
      have c2 := of_decide_eq_true g13
      obtain ⟨k0, k1, k2⟩ := hJ2
      have ea : Vc J1 136 = gA S := j0.1.1
      have ej : J1 136 7 = gA S 0 5 := by rw [j2 136 (by omega), e5]
      rw [h.1.1, ← e5] at c2
      rw [ea, ej, if_pos c2] at k1
      rw [ea, ej, if_pos c2, if_pos c2]
      exact qc_ok (j0.line k0.offL k1 k2) (fun a ha => by rw [k0 a (by omega), j2 a (by omega)])
    · refine x_throw (pc := 16) x130_16 (Nat.le_of_ble_eq_true rfl) (by decide +kernel) rfl (by decide) (by decide) rfl ?_
      have c2 := of_decide_eq_false g13
      rw [h.1.1, ← e5] at c2
      rw [if_neg c2]; exact qc_no (by decide) rfl h (fun _ _ => rfl)
  · rw [if_neg c]
    refine mkct2 hl (by decide) (Nat.le_of_ble_eq_true rfl) (L := [some (.ref 0), some (.int (iI m))]) rfl ?_
    refine x_aload_n (pc := 0) rfl d130_0 ?_
    refine x_iload_n (pc := 1) rfl d130_1 ?_
    refine x_cVt (pc := 2) c130_167 (dt_rmX hl hq h hS hm c) (ko0 (by omega)) rfl rfl (Nat.le_of_ble_eq_true rfl) (by decide +kernel) (by decide +kernel) rfl d130_2 ?_
    exact qc_no (by decide) rfl h (fun _ _ => rfl)
end Opr
