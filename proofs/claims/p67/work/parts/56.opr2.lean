/-! ===== .. of dogs, states, texts ===== -/
theorem CREL.hist {I K : Nat → Int → Int} {S : GS} {A : AV} {N : Int} (h : CREL I S) (hS : GOK S) (k0 : ∀ b, (b < 136 ∨ 150 < b) → b ≠ 14 → K b = I b) (hv : Vc K 136 = A) (hx : CX K 136) (h1 : 0 ≤ K 14 1 ∧ K 14 1 < 8) (h2 : K 14 0 = N) (hN : N = 0 ∨ (K 14 1 = (I 14 1 + 8 - (gN S - N)) % 8 ∧ 0 ≤ N ∧ N ≤ gN S)) : CREL K (sH (sA S A) (gH S, N)) := by
  obtain ⟨g1, g2, g3, g4, g5, g6, g7⟩ := h
  have h8 := hS.2.1.1
  refine ⟨⟨hv, hx⟩, ⟨h2, h1, fun k k0' k1 => ?_⟩, g3.cg (by rw [k0 0 (by decide) (by decide)]) fun a h0 h1 => k0 a (by omega) (by omega), g4.cg fun a h0 h1 => k0 a (by omega) (by omega), g5.cg (k0 1 (by decide) (by decide)) (k0 2 (by decide) (by decide)), g6.cg (by rw [k0 5 (by decide) (by decide)]) (by rw [k0 5 (by decide) (by decide)]), g7.cg (k0 3 (by decide) (by decide)) (k0 4 (by decide) (by decide))⟩
  have k1 : k < N := k1
  rcases hN with hN | ⟨hN, hN0, hN1⟩
  · omega
  have g := g2.2.2 k k0' (by omega)
  have e : (K 14 1 + 8 - N + k) % 8 = (I 14 1 + 8 - gN S + k) % 8 := by rw [hN]; omega
  show Vc K (rowP ((K 14 1 + 8 - N + k) % 8)) = gH S k ∧ CX K (rowP ((K 14 1 + 8 - N + k) % 8))
  rw [e]
  have hb := rowP_b (n := (I 14 1 + 8 - gN S + k) % 8) (by omega) (by omega)
  exact ⟨by rw [vc_congr fun a h0 h1 => k0 a (by omega) (by omega)]; exact g.1, g.2.cong fun a h0 h1 => k0 a (by omega) (by omega)⟩
section Opr2
variable {l : LX} {q : Nat} {I : Nat → Int → Int} {v : Int} {S : GS}
theorem cm133 (hl : l.1.stackTraces = false) (hq : 181 ≤ q) (h : CREL I S) (hS : GOK S) {a b c : Int} (ha : InR a) (hb : InR b) (hc : InR c) : CT l 133 [.ref 0, .int (iI a), .int (iI b), .int (iI c)] (mm q I v false) 1 6 (QC q v (fun c => if c = 1 then 0 else 1) I (oDog S a b c)) := by
  have hi := h.inv hS
  have hs : 0 ≤ I 139 0 ∧ I 139 0 ≤ 3 := hi.sc.2.2.2.2.1
  have e4 : gA S 0 4 = I 139 0 := by rw [← h.1.1, vr4]
  obtain ⟨ha1, ha2⟩ := ha
  obtain ⟨hb1, hb2⟩ := hb
  obtain ⟨hc1, hc2⟩ := hc
  unfold oDog
  by_cases d : (2 ≤ a ∧ a ≤ 999) ∧ (1 ≤ b ∧ b < a) ∧ (0 ≤ c ∧ c ≤ 999)
  · rw [if_pos d, e4]
    refine mkct2 hl (by decide) (Nat.le_of_ble_eq_true rfl) (L := [some (.ref 0), some (.int (iI a)), some (.int (iI b)), some (.int (iI c))]) rfl ?_
    refine x_iload_n (pc := 0) rfl d133_0 ?_
    refine x_iconst (pc := 1) d133_1 ?_
    refine x_icmp_lt (pc := 2) (tgt := 33) ⟨by omega, by omega⟩ ⟨by omega, by omega⟩ d133_2 (by decide) (fun g2 => ?_) (fun g2 => ?_)
    · refine x_mask [false, false, false, false] ?_
      dsimp only [mask]
      exfalso; omega
    · refine x_iload_n (pc := 5) rfl d133_5 ?_
      refine x_sipush (pc := 6) (by decide) d133_6 ?_
      refine x_icmp_gt (pc := 9) (tgt := 33) ⟨by omega, by omega⟩ ⟨by omega, by omega⟩ d133_9 (by decide) (fun g9 => ?_) (fun g9 => ?_)
      · refine x_mask [false, false, false, false] ?_
        dsimp only [mask]
        exfalso; omega
      · refine x_iload_n (pc := 12) rfl d133_12 ?_
        refine x_iconst (pc := 13) d133_13 ?_
        refine x_icmp_lt (pc := 14) (tgt := 33) ⟨by omega, by omega⟩ ⟨by omega, by omega⟩ d133_14 (by decide) (fun g14 => ?_) (fun g14 => ?_)
        · refine x_mask [false, false, false, false] ?_
          dsimp only [mask]
          exfalso; omega
        · refine x_iload_n (pc := 17) rfl d133_17 ?_
          refine x_iload_n (pc := 18) rfl d133_18 ?_
          refine x_icmp_ge (pc := 19) (tgt := 33) ⟨by omega, by omega⟩ ⟨by omega, by omega⟩ d133_19 (by decide) (fun g19 => ?_) (fun g19 => ?_)
          · refine x_mask [false, false, false, false] ?_
            dsimp only [mask]
            exfalso; omega
          · refine x_iload_n (pc := 22) rfl d133_22 ?_
            refine x_if_lt (pc := 23) (tgt := 33) ⟨by omega, by omega⟩ d133_23 (by decide) (fun g23 => ?_) (fun g23 => ?_)
            · refine x_mask [false, false, false, false] ?_
              dsimp only [mask]
              exfalso; omega
            · refine x_iload_n (pc := 26) rfl d133_26 ?_
              refine x_sipush (pc := 27) (by decide) d133_27 ?_
              refine x_icmp_le (pc := 30) (tgt := 44) ⟨by omega, by omega⟩ ⟨by omega, by omega⟩ d133_30 (by decide) (fun g30 => ?_) (fun g30 => ?_)
              · refine x_aload_n (pc := 44) rfl d133_44 ?_
                refine m_getR (pc := 45) f133_54 (by decide +kernel) (ko0 (by omega)) rr0_6 d133_45 ?_
                refine m_getR (pc := 48) f133_68 (by decide +kernel) (ko136 (by omega)) rr136_10 d133_48 ?_
                refine m_getI (pc := 51) (z := 0) f133_121 (by decide +kernel) rfl (ko139 (by omega)) d133_51 ?_
                refine x_iconst (pc := 54) d133_54 ?_
                refine x_icmp_lt (pc := 55) (tgt := 69) ⟨by omega, by omega⟩ ⟨by omega, by omega⟩ d133_55 (by decide) (fun g55 => ?_) (fun g55 => ?_)
                · refine x_aload_n (pc := 69) rfl d133_69 ?_
                  refine m_getR (pc := 70) f133_47 (by decide +kernel) (ko0 (by omega)) rr0_5 d133_70 ?_
                  refine x_aload_n (pc := 73) rfl d133_73 ?_
                  refine m_getR (pc := 74) f133_54 (by decide +kernel) (ko0 (by omega)) rr0_6 d133_74 ?_
                  refine x_cVev (pc := 77) c133_129 (ct_keepX hl hq h hS) (ko14 (by omega)) rfl rfl (Nat.le_of_ble_eq_true rfl) (by decide +kernel) (by decide +kernel) d133_77 (fun J1 hJ1 => ?_)
                  obtain ⟨j0, hi1, j2, j3⟩ := hJ1
                  have ej : J1 139 0 = I 139 0 := by rw [j2 139 (by omega)]
                  refine x_aload_n (pc := 80) rfl d133_80 ?_
                  refine m_getR (pc := 81) f133_54 (by decide +kernel) (ko0 (by omega)) rr0_6 d133_81 ?_
                  refine m_getR (pc := 84) f133_68 (by decide +kernel) (ko136 (by omega)) rr136_10 d133_84 ?_
                  refine x_iload_n (pc := 87) rfl d133_87 ?_
                  refine x_iload_n (pc := 88) rfl d133_88 ?_
                  refine x_iload_n (pc := 89) rfl d133_89 ?_
                  refine x_cVs (pc := 90) c133_72 (dt_dogAdd hl (la136 (by omega)) (show 0 ≤ J1 139 0 by omega) (show J1 139 0 < 3 by omega)) (ko139 (by omega)) rfl rfl (Nat.le_of_ble_eq_true rfl) (by decide +kernel) (by decide +kernel) rfl d133_90 ?_
                  refine x_pop (pc := 93) rfl d133_93 ?_
                  refine x_aload_n (pc := 94) rfl d133_94 ?_
                  refine m_getR (pc := 95) f133_54 (by decide +kernel) (ko0 (by omega)) rr0_6 d133_95 ?_
                  refine m_getR (pc := 98) f133_68 (by decide +kernel) (ko136 (by omega)) rr136_10 d133_98 ?_
                  refine m_getW (pc := 101) (z := 0) (w := (J1 139 0 + 1)) f133_121 (by decide +kernel) rfl (ko139 (by omega)) (by rw [up2_s]) d133_101 ?_
                  refine x_iconst (pc := 104) d133_104 ?_
                  refine x_isub (pc := 105) d133_105 ?_
                  refine x_iret (pc := 106) rfl (fun z => Bool.noConfusion z) d133_106 ?_
                  rw [if_pos g55, show J1 139 0 + 1 - 1 = I 139 0 from by omega]
                  exact qc_ok (j0.line (fun a a0 _ _ _ => by rw [up2_off' _ _ _ (by omega), up2_off' _ _ _ (by omega), up2_off' _ _ _ (by omega), up2_off' _ _ _ (by omega)]) (by
                    have := vc_dog (I := J1) (p := 136) (a := a) (b := b) (d := c) (show 0 ≤ J1 139 0 by omega)
                    rw [j0.1.1] at this
                    exact this) ((((j0.1.2.up (by omega) (by omega) (by omega)).up (by omega) (by omega) (by omega)).up (by omega) (by omega) (by omega)).up (by omega) (by omega) (by omega))) (fun a ha => by rw [up2_off' _ _ _ (by omega), up2_off' _ _ _ (by omega), up2_off' _ _ _ (by omega), up2_off' _ _ _ (by omega), j2 a (by omega)])
                · refine x_throw (pc := 58) x133_58 (Nat.le_of_ble_eq_true rfl) (by decide +kernel) rfl (by decide) (by decide) rfl ?_
                  rw [if_neg (by omega)]; exact qc_no (by decide) rfl h (fun _ _ => rfl)
              · refine x_mask [false, false, false, false] ?_
                dsimp only [mask]
                exfalso; omega
  · rw [if_neg d]
    refine mkct2 hl (by decide) (Nat.le_of_ble_eq_true rfl) (L := [some (.ref 0), some (.int (iI a)), some (.int (iI b)), some (.int (iI c))]) rfl ?_
    refine x_iload_n (pc := 0) rfl d133_0 ?_
    refine x_iconst (pc := 1) d133_1 ?_
    refine x_icmp_lt (pc := 2) (tgt := 33) ⟨by omega, by omega⟩ ⟨by omega, by omega⟩ d133_2 (by decide) (fun g2 => ?_) (fun g2 => ?_)
    · refine x_throw (pc := 33) x133_33 (Nat.le_of_ble_eq_true rfl) (by decide +kernel) rfl (by decide) (by decide) rfl ?_
      exact qc_no (by decide) rfl h (fun _ _ => rfl)
    · refine x_iload_n (pc := 5) rfl d133_5 ?_
      refine x_sipush (pc := 6) (by decide) d133_6 ?_
      refine x_icmp_gt (pc := 9) (tgt := 33) ⟨by omega, by omega⟩ ⟨by omega, by omega⟩ d133_9 (by decide) (fun g9 => ?_) (fun g9 => ?_)
      · refine x_throw (pc := 33) x133_33 (Nat.le_of_ble_eq_true rfl) (by decide +kernel) rfl (by decide) (by decide) rfl ?_
        exact qc_no (by decide) rfl h (fun _ _ => rfl)
      · refine x_iload_n (pc := 12) rfl d133_12 ?_
        refine x_iconst (pc := 13) d133_13 ?_
        refine x_icmp_lt (pc := 14) (tgt := 33) ⟨by omega, by omega⟩ ⟨by omega, by omega⟩ d133_14 (by decide) (fun g14 => ?_) (fun g14 => ?_)
        · refine x_throw (pc := 33) x133_33 (Nat.le_of_ble_eq_true rfl) (by decide +kernel) rfl (by decide) (by decide) rfl ?_
          exact qc_no (by decide) rfl h (fun _ _ => rfl)
        · refine x_iload_n (pc := 17) rfl d133_17 ?_
          refine x_iload_n (pc := 18) rfl d133_18 ?_
          refine x_icmp_ge (pc := 19) (tgt := 33) ⟨by omega, by omega⟩ ⟨by omega, by omega⟩ d133_19 (by decide) (fun g19 => ?_) (fun g19 => ?_)
          · refine x_throw (pc := 33) x133_33 (Nat.le_of_ble_eq_true rfl) (by decide +kernel) rfl (by decide) (by decide) rfl ?_
            exact qc_no (by decide) rfl h (fun _ _ => rfl)
          · refine x_iload_n (pc := 22) rfl d133_22 ?_
            refine x_if_lt (pc := 23) (tgt := 33) ⟨by omega, by omega⟩ d133_23 (by decide) (fun g23 => ?_) (fun g23 => ?_)
            · refine x_throw (pc := 33) x133_33 (Nat.le_of_ble_eq_true rfl) (by decide +kernel) rfl (by decide) (by decide) rfl ?_
              exact qc_no (by decide) rfl h (fun _ _ => rfl)
            · refine x_iload_n (pc := 26) rfl d133_26 ?_
              refine x_sipush (pc := 27) (by decide) d133_27 ?_
              refine x_icmp_le (pc := 30) (tgt := 44) ⟨by omega, by omega⟩ ⟨by omega, by omega⟩ d133_30 (by decide) (fun g30 => ?_) (fun g30 => ?_)
              · exfalso; omega
              · refine x_throw (pc := 33) x133_33 (Nat.le_of_ble_eq_true rfl) (by decide +kernel) rfl (by decide) (by decide) rfl ?_
                exact qc_no (by decide) rfl h (fun _ _ => rfl)
theorem cm134 (hl : l.1.stackTraces = false) (hq : 181 ≤ q) (h : CREL I S) (hS : GOK S) {d : Int} (hd : InR d) : CT l 134 [.ref 0, .int (iI d)] (mm q I v false) 1 6 (QC q v (fun _ => 2) I (oRemove S d)) := by
  have hi := h.inv hS
  have hs : 0 ≤ I 139 0 ∧ I 139 0 ≤ 3 := hi.sc.2.2.2.2.1
  have e4 : gA S 0 4 = I 139 0 := by rw [← h.1.1, vr4]
  obtain ⟨hd1, hd2⟩ := hd
  unfold oRemove
  by_cases c : 0 ≤ d ∧ d < gA S 0 4
  · rw [if_pos c]
    rw [e4] at c ⊢
    refine mkct2 hl (by decide) (Nat.le_of_ble_eq_true rfl) (L := [some (.ref 0), some (.int (iI d))]) rfl ?_
    refine x_iload_n (pc := 0) rfl d134_0 ?_
    refine x_if_lt (pc := 1) (tgt := 18) ⟨by omega, by omega⟩ d134_1 (by decide) (fun g1 => ?_) (fun g1 => ?_)
    · refine x_mask [false, false] ?_
      dsimp only [mask]
      exfalso; omega
    · refine x_iload_n (pc := 4) rfl d134_4 ?_
      refine x_aload_n (pc := 5) rfl d134_5 ?_
      refine m_getR (pc := 6) f134_54 (by decide +kernel) (ko0 (by omega)) rr0_6 d134_6 ?_
      refine m_getR (pc := 9) f134_68 (by decide +kernel) (ko136 (by omega)) rr136_10 d134_9 ?_
      refine m_getI (pc := 12) (z := 0) f134_121 (by decide +kernel) rfl (ko139 (by omega)) d134_12 ?_
      refine x_icmp_lt (pc := 15) (tgt := 29) ⟨by omega, by omega⟩ ⟨by omega, by omega⟩ d134_15 (by decide) (fun g15 => ?_) (fun g15 => ?_)
      · refine x_aload_n (pc := 29) rfl d134_29 ?_
        refine m_getR (pc := 30) f134_47 (by decide +kernel) (ko0 (by omega)) rr0_5 d134_30 ?_
        refine x_aload_n (pc := 33) rfl d134_33 ?_
        refine m_getR (pc := 34) f134_54 (by decide +kernel) (ko0 (by omega)) rr0_6 d134_34 ?_
        refine x_cVev (pc := 37) c134_129 (ct_keepX hl hq h hS) (ko14 (by omega)) rfl rfl (Nat.le_of_ble_eq_true rfl) (by decide +kernel) (by decide +kernel) d134_37 (fun J1 hJ1 => ?_)
        obtain ⟨j0, hi1, j2, j3⟩ := hJ1
        have ej : J1 139 0 = I 139 0 := by rw [j2 139 (by omega)]
        refine x_aload_n (pc := 40) rfl d134_40 ?_
        refine m_getR (pc := 41) f134_54 (by decide +kernel) (ko0 (by omega)) rr0_6 d134_41 ?_
        refine m_getR (pc := 44) f134_68 (by decide +kernel) (ko136 (by omega)) rr136_10 d134_44 ?_
        refine x_iload_n (pc := 47) rfl d134_47 ?_
        refine x_cVes (pc := 48) c134_362 (ct_rm hl (la136 (by omega)) hi1 (d := d) (by omega) (show d < J1 139 0 by omega)) (ko139 (by omega)) rfl rfl (Nat.le_of_ble_eq_true rfl) (by decide +kernel) (by decide +kernel) d134_48 (fun J2 hJ2 => ?_)
        refine x_pop (pc := 51) rfl d134_51 ?_
        refine x_aload_n (pc := 52) rfl d134_52 ?_
        refine m_getR (pc := 53) f134_54 (by decide +kernel) (ko0 (by omega)) rr0_6 d134_53 ?_
        refine m_getR (pc := 56) f134_68 (by decide +kernel) (ko136 (by omega)) rr136_10 d134_56 ?_
        refine m_getI (pc := 59) (z := 0) f134_121 (by decide +kernel) rfl (ko139 (by omega)) d134_59 ?_
        refine x_iret (pc := 62) rfl (fun z => Bool.noConfusion z) d134_62 ?_
        obtain ⟨r0, r1, r2, r3, r4⟩ := hJ2
        have hvr := vc_rm (I := J1) (p := 136) (K := J2) (d := d) c.1 (show d < J1 139 0 by omega) r0 r1 r2 r3 r4
        rw [j0.1.1] at hvr
        have e9 : J2 139 0 = I 139 0 - 1 := by rw [show J2 139 = _ from r1]; exact (if_pos rfl).trans (by rw [show J1 (136 + 3) 0 = I 139 0 from ej])
        rw [e9]
        exact qc_ok (j0.line (fun a a0 _ _ _ => r0 a (by omega) (by omega) (by omega) (by omega)) hvr (cx_rm j0.1.2 r0)) (fun a ha => by rw [r0 a (by omega) (by omega) (by omega) (by omega), j2 a (by omega)])
      · refine x_mask [false, false] ?_
        dsimp only [mask]
        exfalso; omega
  · rw [if_neg c]
    rw [e4] at c
    refine mkct2 hl (by decide) (Nat.le_of_ble_eq_true rfl) (L := [some (.ref 0), some (.int (iI d))]) rfl ?_
    refine x_iload_n (pc := 0) rfl d134_0 ?_
    refine x_if_lt (pc := 1) (tgt := 18) ⟨by omega, by omega⟩ d134_1 (by decide) (fun g1 => ?_) (fun g1 => ?_)
    · refine x_throw (pc := 18) x134_18 (Nat.le_of_ble_eq_true rfl) (by decide +kernel) rfl (by decide) (by decide) rfl ?_
      exact qc_no (by decide) rfl h (fun _ _ => rfl)
    · refine x_iload_n (pc := 4) rfl d134_4 ?_
      refine x_aload_n (pc := 5) rfl d134_5 ?_
      refine m_getR (pc := 6) f134_54 (by decide +kernel) (ko0 (by omega)) rr0_6 d134_6 ?_
      refine m_getR (pc := 9) f134_68 (by decide +kernel) (ko136 (by omega)) rr136_10 d134_9 ?_
      refine m_getI (pc := 12) (z := 0) f134_121 (by decide +kernel) rfl (ko139 (by omega)) d134_12 ?_
      refine x_icmp_lt (pc := 15) (tgt := 29) ⟨by omega, by omega⟩ ⟨by omega, by omega⟩ d134_15 (by decide) (fun g15 => ?_) (fun g15 => ?_)
      · exfalso; omega
      · refine x_throw (pc := 18) x134_18 (Nat.le_of_ble_eq_true rfl) (by decide +kernel) rfl (by decide) (by decide) rfl ?_
        exact qc_no (by decide) rfl h (fun _ _ => rfl)
theorem cm135 (hl : l.1.stackTraces = false) (hq : 181 ≤ q) (h : CREL I S) (hS : GOK S) : CT l 135 [.ref 0] (mm q I v false) 1 6 (QC q v (fun _ => 1) I (oUndo S)) := by
  have h14 := h.2.1
  have h8 := hS.2.1.1
  have eN := h14.1
  unfold oUndo
  by_cases c : 0 < gN S
  · rw [if_pos c]
    have g := h14.2.2 (gN S - 1) (by omega) (by omega)
    rw [show (I 14 1 + 8 - gN S + (gN S - 1)) % 8 = (I 14 1 + 7) % 8 from by omega] at g
    have hrow : CINV I (rowP ((I 14 1 + 7) % 8)) cB := ⟨by rw [g.1]; exact hS.2.1.2 _ (by omega) (by omega), g.2⟩
    refine mkct2 hl (by decide) (Nat.le_of_ble_eq_true rfl) (L := [some (.ref 0)]) rfl ?_
    refine x_aload_n (pc := 0) rfl d135_0 ?_
    refine m_getR (pc := 1) f135_47 (by decide +kernel) (ko0 (by omega)) rr0_5 d135_1 ?_
    refine m_getI (pc := 4) (z := 0) f135_365 (by decide +kernel) rfl (ko14 (by omega)) d135_4 ?_
    refine x_if_ne (pc := 7) (tgt := 21) ⟨by omega, by omega⟩ d135_7 (by decide) (fun g7 => ?_) (fun g7 => ?_)
    · refine x_aload_n (pc := 21) rfl d135_21 ?_
      refine m_getR (pc := 22) f135_47 (by decide +kernel) (ko0 (by omega)) rr0_5 d135_22 ?_
      refine x_aload_n (pc := 25) rfl d135_25 ?_
      refine m_getR (pc := 26) f135_54 (by decide +kernel) (ko0 (by omega)) rr0_6 d135_26 ?_
      refine x_cVev (pc := 29) c135_368 (ct_back hl hq (la136 (by omega)) (by decide) (n := I 14 1) rfl h14.2.1.1 h14.2.1.2 (by omega) (by omega) hrow) (ko14 (by omega)) rfl rfl (Nat.le_of_ble_eq_true rfl) (by decide +kernel) (by decide +kernel) d135_29 (fun J1 hJ1 => ?_)
      refine x_aload_n (pc := 32) rfl d135_32 ?_
      refine m_getR (pc := 33) f135_47 (by decide +kernel) (ko0 (by omega)) rr0_5 d135_33 ?_
      refine m_getI (pc := 36) (z := 0) f135_365 (by decide +kernel) rfl (ko14 (by omega)) d135_36 ?_
      refine x_iret (pc := 39) rfl (fun z => Bool.noConfusion z) d135_39 ?_
      obtain ⟨j0, j1, j2, j3, j4⟩ := hJ1
      rw [j4, eN]
      exact qc_ok (h.hist hS j0 (by rw [j1, g.1]) j2 (by omega) (by rw [j4, eN]) (Or.inr ⟨by rw [j3]; omega, by omega, by omega⟩)) (fun a ha => j0 a (by omega) (by omega))
    · refine x_mask [false] ?_
      dsimp only [mask]
      exfalso; omega
  · rw [if_neg c]
    refine mkct2 hl (by decide) (Nat.le_of_ble_eq_true rfl) (L := [some (.ref 0)]) rfl ?_
    refine x_aload_n (pc := 0) rfl d135_0 ?_
    refine m_getR (pc := 1) f135_47 (by decide +kernel) (ko0 (by omega)) rr0_5 d135_1 ?_
    refine m_getI (pc := 4) (z := 0) f135_365 (by decide +kernel) rfl (ko14 (by omega)) d135_4 ?_
    refine x_if_ne (pc := 7) (tgt := 21) ⟨by omega, by omega⟩ d135_7 (by decide) (fun g7 => ?_) (fun g7 => ?_)
    · exfalso; omega
    · refine x_throw (pc := 10) x135_10 (Nat.le_of_ble_eq_true rfl) (by decide +kernel) rfl (by decide) (by decide) rfl ?_
      exact qc_no (by decide) rfl h (fun _ _ => rfl)
theorem cm136 (hl : l.1.stackTraces = false) (hq : 181 ≤ q) (h : CREL I S) (hS : GOK S) {E : Int → Nat} : CT l 136 [.ref 0] (mm q I v false) 1 6 (QC q v E I (oSave S)) := by
  have hi := h.inv hS
  have e7 : gA S 0 7 = I 136 4 := by rw [← h.1.1, vr7]
  unfold oSave
  rw [e7]
  refine mkct2 hl (by decide) (Nat.le_of_ble_eq_true rfl) (L := [some (.ref 0)]) rfl ?_
  refine x_aload_n (pc := 0) rfl d136_0 ?_
  refine m_getR (pc := 1) f136_58 (by decide +kernel) (ko0 (by omega)) rr0_7 d136_1 ?_
  refine x_aload_n (pc := 4) rfl d136_4 ?_
  refine m_getR (pc := 5) f136_54 (by decide +kernel) (ko0 (by omega)) rr0_6 d136_5 ?_
  refine x_cVev (pc := 8) c136_114 (ct_copyV hl (la151 (by omega)) (la136 (by omega)) (by decide) hi) (ko151 (by omega)) rfl rfl (Nat.le_of_ble_eq_true rfl) (by decide +kernel) (by decide +kernel) d136_8 (fun J1 hJ1 => ?_)
  refine x_aload_n (pc := 11) rfl d136_11 ?_
  refine x_iconst (pc := 12) d136_12 ?_
  refine m_putZ (pc := 13) (z := 9) f136_371 (by decide +kernel) (by decide +kernel) rfl (ko0 (by omega)) (Or.inr rfl) d136_13 ?_
  obtain ⟨j0, j1, j2⟩ := hJ1
  refine x_aload_n (pc := 16) rfl d136_16 ?_
  refine m_getR (pc := 17) f136_54 (by decide +kernel) (ko0 (by omega)) rr0_6 d136_17 ?_
  refine m_getW (pc := 20) (z := 4) (w := (J1 136 4)) f136_143 (by decide +kernel) rfl (ko136 (by omega)) (by rw [up2_p (by omega)]) d136_20 ?_
  refine x_val (pc := 23) (w := (I 136 4)) (by rw [j0 136 (by decide)]) ?_
  refine x_iret (pc := 23) rfl (fun z => Bool.noConfusion z) d136_23 ?_
  obtain ⟨g1, g2, g3, g4, g5, g6, g7⟩ := h
  have ko : ∀ a, (a < 151 ∨ 165 < a) → a ≠ 0 → up2 J1 0 9 1 a = I a := fun a ha h0 => by rw [up2_off' _ _ _ h0, j0 a ha]
  refine qc_ok ⟨g1.cg fun a h0 h1 => ko a (by omega) (by omega), g2.cg (ko 14 (by decide) (by decide)) fun a h0 h1 => ko a (by omega) (by omega), ⟨up2_s, fun _ => ⟨by rw [vc_out (by omega), j1]; exact g1.1, j2.cong fun a h0 h1 => up2_off' _ _ _ (by omega)⟩⟩, g4.cg fun a h0 h1 => ko a (by omega) (by omega), g5.cg (ko 1 (by decide) (by decide)) (ko 2 (by decide) (by decide)), g6.cg (by rw [ko 5 (by decide) (by decide)]) (by rw [ko 5 (by decide) (by decide)]), g7.cg (ko 3 (by decide) (by decide)) (ko 4 (by decide) (by decide))⟩ (fun a ha => ko a (by omega) (by omega))
theorem cm137 (hl : l.1.stackTraces = false) (hq : 181 ≤ q) (h : CREL I S) (hS : GOK S) : CT l 137 [.ref 0] (mm q I v false) 1 6 (QC q v (fun _ => 1) I (oRestore S)) := by
  have e9 := h.2.2.1.1
  unfold oRestore
  by_cases c : gV S = true
  · have g := h.2.2.1.2 c
    have hw : CINV I 151 cB := ⟨by rw [g.1]; exact hS.2.2.1 c, g.2⟩
    have e1 : I 0 9 = 1 := by rw [e9, c]; rfl
    rw [if_pos c]
    refine mkct2 hl (by decide) (Nat.le_of_ble_eq_true rfl) (L := [some (.ref 0)]) rfl ?_
    refine x_aload_n (pc := 0) rfl d137_0 ?_
    refine m_getI (pc := 1) (z := 9) f137_371 (by decide +kernel) rfl (ko0 (by omega)) d137_1 ?_
    refine x_if_ne (pc := 4) (tgt := 18) ⟨by omega, by omega⟩ d137_4 (by decide) (fun g4 => ?_) (fun g4 => ?_)
    · refine x_aload_n (pc := 18) rfl d137_18 ?_
      refine m_getR (pc := 19) f137_54 (by decide +kernel) (ko0 (by omega)) rr0_6 d137_19 ?_
      refine x_aload_n (pc := 22) rfl d137_22 ?_
      refine m_getR (pc := 23) f137_58 (by decide +kernel) (ko0 (by omega)) rr0_7 d137_23 ?_
      refine x_cVev (pc := 26) c137_114 (ct_copyV hl (la136 (by omega)) (la151 (by omega)) (by decide) hw) (ko136 (by omega)) rfl rfl (Nat.le_of_ble_eq_true rfl) (by decide +kernel) (by decide +kernel) d137_26 (fun J1 hJ1 => ?_)
      obtain ⟨j0, j1, j2⟩ := hJ1
      refine x_aload_n (pc := 29) rfl d137_29 ?_
      refine m_getR (pc := 30) f137_47 (by decide +kernel) (ko0 (by omega)) rr0_5 d137_30 ?_
      refine x_cVv (pc := 33) c137_118 (dt_forget hl hq) (ko14 (by omega)) rfl rfl (Nat.le_of_ble_eq_true rfl) (by decide +kernel) (by decide +kernel) rfl d137_33 ?_
      refine x_aload_n (pc := 36) rfl d137_36 ?_
      refine m_getR (pc := 37) f137_54 (by decide +kernel) (ko0 (by omega)) rr0_6 d137_37 ?_
      refine m_getW (pc := 40) (z := 4) (w := (J1 136 4)) f137_143 (by decide +kernel) rfl (ko136 (by omega)) (by rw [up2_p (by omega)]) d137_40 ?_
      refine x_iret (pc := 43) rfl (fun z => Bool.noConfusion z) d137_43 ?_
      have e4 : J1 136 4 = gW S 0 7 := by rw [← g.1, ← j1, vr7]
      rw [e4]
      exact qc_ok (h.hist hS (fun b hb h14 => by rw [up2_off' _ _ _ h14]; exact j0 b (by omega)) (by rw [vc_out (by omega), j1]; exact g.1) (j2.cong fun a h0 h1 => up2_off' _ _ _ (by omega)) (by rw [up2_i (by decide), j0 14 (by decide)]; exact h.2.1.2.1) up2_s (Or.inl rfl)) (fun a ha => by rw [up2_off' _ _ _ (by omega)]; exact j0 a (by omega))
    · refine x_mask [false] ?_
      dsimp only [mask]
      exfalso; omega
  · have e1 : I 0 9 = 0 := by rw [e9]; cases hv : gV S; rfl; exact absurd hv c
    rw [if_neg c]
    refine mkct2 hl (by decide) (Nat.le_of_ble_eq_true rfl) (L := [some (.ref 0)]) rfl ?_
    refine x_aload_n (pc := 0) rfl d137_0 ?_
    refine m_getI (pc := 1) (z := 9) f137_371 (by decide +kernel) rfl (ko0 (by omega)) d137_1 ?_
    refine x_if_ne (pc := 4) (tgt := 18) ⟨by omega, by omega⟩ d137_4 (by decide) (fun g4 => ?_) (fun g4 => ?_)
    · exfalso; omega
    · refine x_throw (pc := 7) x137_7 (Nat.le_of_ble_eq_true rfl) (by decide +kernel) rfl (by decide) (by decide) rfl ?_
      exact qc_no (by decide) rfl h (fun _ _ => rfl)
end Opr2
