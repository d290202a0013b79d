/-! ===== .. texts, commands, the output ===== -/
theorem CREL.err {I K : Nat → Int → Int} {S : GS} {e at_ : Int} (h : CREL I S) (hh : ∀ a, (a < 5 ∨ 13 < a) → (a < 166 ∨ 180 < a) → K a = I a) (hb : BX K 166) (h4 : K 5 4 = e) (h5 : K 5 5 = at_) : CREL K (sE S (e, at_)) :=
  ⟨h.1.cg fun a h0 h1 => hh a (by omega) (by omega), h.2.1.cg (hh 14 (by decide) (by decide)) fun a h0 h1 => hh a (by omega) (by omega), h.2.2.1.cg (by rw [hh 0 (by decide) (by decide)]) fun a h0 h1 => hh a (by omega) (by omega), hb, h.2.2.2.2.1.cg (hh 1 (by decide) (by decide)) (hh 2 (by decide) (by decide)), ⟨h4, h5⟩, h.2.2.2.2.2.2.cg (hh 3 (by decide) (by decide)) (hh 4 (by decide) (by decide))⟩
theorem CREL.out {I K : Nat → Int → Int} {S : GS} {M : Int × (Int → Int)} (h : CREL I S) (hh : ∀ a, a ≠ 3 → a ≠ 4 → a ≠ 11 → a ≠ 12 → a ≠ 13 → K a = I a) (h3 : K 3 1 = M.1) (h4 : ∀ i : Int, 0 ≤ i → i < M.1 → K 4 i = M.2 i) : CREL K (sM S M) :=
  ⟨h.1.cg fun a h0 h1 => hh a (by omega) (by omega) (by omega) (by omega) (by omega), h.2.1.cg (hh 14 (by decide) (by decide) (by decide) (by decide) (by decide)) fun a h0 h1 => hh a (by omega) (by omega) (by omega) (by omega) (by omega), h.2.2.1.cg (by rw [hh 0 (by decide) (by decide) (by decide) (by decide) (by decide)]) fun a h0 h1 => hh a (by omega) (by omega) (by omega) (by omega) (by omega), h.2.2.2.1.cg fun a h0 h1 => hh a (by omega) (by omega) (by omega) (by omega) (by omega), h.2.2.2.2.1.cg (hh 1 (by decide) (by decide) (by decide) (by decide) (by decide)) (hh 2 (by decide) (by decide) (by decide) (by decide) (by decide)), h.2.2.2.2.2.1.cg (by rw [hh 5 (by decide) (by decide) (by decide) (by decide) (by decide)]) (by rw [hh 5 (by decide) (by decide) (by decide) (by decide) (by decide)]), ⟨h3, h4⟩⟩
theorem GOK.e0 {S : GS} (h : GOK S) (E : Int × Int) : GOK (sE S E) := h
theorem GOK.l0 {S : GS} (h : GOK S) : GOK (sL S (0, gT S)) := ⟨h.1, h.2.1, h.2.2.1, ⟨(show (0 : Int) ≤ 0 ∧ (0 : Int) ≤ 500 from by decide), fun i h0 h1 => absurd (show i < 0 from h1) (by omega)⟩, h.2.2.2.2⟩
theorem CREL.txt {I : Nat → Int → Int} {S : GS} (h : CREL I S) (hS : GOK S) : TXT I (gT S) (gL S) := ⟨h.2.2.2.2.1.2, h.2.2.2.2.1.1, hS.2.2.2.1.1, hS.2.2.2.1.2⟩
theorem four4_2 {I : Nat → Int → Int} {n z : Int} : four4 I n z 2 = txtG (I 2) n z := by
  funext i
  unfold four4 txtG
  rw [up2_p (by decide), up2_q, up2_p (by decide), up2_q, up2_p (by decide), up2_q, up2_p (by decide), up2_q]
  by_cases c3 : i = n + 3
  · rw [if_pos c3, if_pos (by omega), show i - n = 3 from by omega]
  rw [if_neg c3]
  by_cases c2 : i = n + 2
  · rw [if_pos c2, if_pos (by omega), show i - n = 2 from by omega]
  rw [if_neg c2]
  by_cases c1 : i = n + 1
  · rw [if_pos c1, if_pos (by omega), show i - n = 1 from by omega]
  rw [if_neg c1]
  by_cases c0 : i = n
  · rw [if_pos c0, if_pos (by omega), show i - n = 0 from by omega]
  rw [if_neg c0, if_neg (by omega)]
theorem four4_1 {I : Nat → Int → Int} {n z : Int} : four4 I n z 1 1 = n + 4 := up2_s
theorem four4_o {I : Nat → Int → Int} {n z : Int} {a : Nat} (h1 : a ≠ 1) (h2 : a ≠ 2) : four4 I n z a = I a := by
  unfold four4
  rw [up2_off' _ _ _ h1, up2_off' _ _ _ h2, up2_off' _ _ _ h1, up2_off' _ _ _ h2, up2_off' _ _ _ h1, up2_off' _ _ _ h2, up2_off' _ _ _ h1, up2_off' _ _ _ h2]
section Opr3
variable {l : LX} {q : Nat} {I : Nat → Int → Int} {v : Int} {S : GS}
theorem cm76 (hl : l.1.stackTraces = false) (hq : 181 ≤ q) (h : CREL I S) (hS : GOK S) {a b c d e : Int} : CT l 76 [.ref 0, .int (iI a), .int (iI b), .int (iI c), .int (iI d), .int (iI e)] (mm q I v false) 1 6 (QC q v (fun _ => 1) I (oAppend S a b c d e)) := by
  obtain ⟨n, hne⟩ : ∃ n, n = gL S := ⟨_, rfl⟩
  have hn : I 1 1 = n := by rw [hne]; exact h.2.2.2.2.1.1
  have hL := hS.2.2.2.1.1
  rw [← hne] at hL
  unfold oAppend
  rw [← hne]
  by_cases cc : n + 20 ≤ 500
  · rw [if_pos cc]
    refine mkct2 hl (by decide) (Nat.le_of_ble_eq_true rfl) (L := [some (.ref 0), some (.int (iI a)), some (.int (iI b)), some (.int (iI c)), some (.int (iI d)), some (.int (iI e))]) rfl ?_
    refine x_aload_n (pc := 0) rfl d76_0 ?_
    refine m_getR (pc := 1) f76_14 (by decide +kernel) (ko0 (by omega)) rr0_0 d76_1 ?_
    refine m_getI (pc := 4) (z := 1) f76_85 (by decide +kernel) rfl (ko1 (by omega)) d76_4 ?_
    refine x_val (pc := 7) (w := n) (hn) ?_
    refine x_bipush (pc := 7) (by decide) d76_7 ?_
    refine x_iadd (pc := 9) d76_9 ?_
    refine x_sipush (pc := 10) (by decide) d76_10 ?_
    refine x_icmp_le (pc := 13) (tgt := 26) ⟨by omega, by omega⟩ ⟨by omega, by omega⟩ d76_13 (by decide) (fun g13 => ?_) (fun g13 => ?_)
    · refine x_aload_n (pc := 26) rfl d76_26 ?_
      refine m_getR (pc := 27) f76_14 (by decide +kernel) (ko0 (by omega)) rr0_0 d76_27 ?_
      refine x_iload_n (pc := 30) rfl d76_30 ?_
      refine x_cVv (pc := 31) c76_100 (dt_four hl hq (n := n) (z := a) hn (by omega) (by omega)) (ko1 (by omega)) rfl rfl (Nat.le_of_ble_eq_true rfl) (by decide +kernel) (by decide +kernel) rfl d76_31 ?_
      obtain ⟨X1, hX1⟩ : ∃ Z : Nat → Int → Int, Z = (four4 I n a) := ⟨_, rfl⟩
      refine x_mem (J := X1) (pc := 34) hX1 ?_
      refine x_aload_n (pc := 34) rfl d76_34 ?_
      refine m_getR (pc := 35) f76_14 (by decide +kernel) (ko0 (by omega)) rr0_0 d76_35 ?_
      refine x_iload_n (pc := 38) rfl d76_38 ?_
      refine x_cVv (pc := 39) c76_100 (dt_four hl hq (n := (n + 4)) (z := b) (by rw [hX1, four4_1]) (by omega) (by omega)) (ko1 (by omega)) rfl rfl (Nat.le_of_ble_eq_true rfl) (by decide +kernel) (by decide +kernel) rfl d76_39 ?_
      obtain ⟨X2, hX2⟩ : ∃ Z : Nat → Int → Int, Z = (four4 X1 (n + 4) b) := ⟨_, rfl⟩
      refine x_mem (J := X2) (pc := 42) hX2 ?_
      refine x_aload_n (pc := 42) rfl d76_42 ?_
      refine m_getR (pc := 43) f76_14 (by decide +kernel) (ko0 (by omega)) rr0_0 d76_43 ?_
      refine x_iload_n (pc := 46) rfl d76_46 ?_
      refine x_cVv (pc := 47) c76_100 (dt_four hl hq (n := (n + 8)) (z := c) (by rw [hX2, four4_1]; omega) (by omega) (by omega)) (ko1 (by omega)) rfl rfl (Nat.le_of_ble_eq_true rfl) (by decide +kernel) (by decide +kernel) rfl d76_47 ?_
      obtain ⟨X3, hX3⟩ : ∃ Z : Nat → Int → Int, Z = (four4 X2 (n + 8) c) := ⟨_, rfl⟩
      refine x_mem (J := X3) (pc := 50) hX3 ?_
      refine x_aload_n (pc := 50) rfl d76_50 ?_
      refine m_getR (pc := 51) f76_14 (by decide +kernel) (ko0 (by omega)) rr0_0 d76_51 ?_
      refine x_iload (pc := 54) rfl d76_54 ?_
      refine x_cVv (pc := 56) c76_100 (dt_four hl hq (n := (n + 12)) (z := d) (by rw [hX3, four4_1]; omega) (by omega) (by omega)) (ko1 (by omega)) rfl rfl (Nat.le_of_ble_eq_true rfl) (by decide +kernel) (by decide +kernel) rfl d76_56 ?_
      obtain ⟨X4, hX4⟩ : ∃ Z : Nat → Int → Int, Z = (four4 X3 (n + 12) d) := ⟨_, rfl⟩
      refine x_mem (J := X4) (pc := 59) hX4 ?_
      refine x_aload_n (pc := 59) rfl d76_59 ?_
      refine m_getR (pc := 60) f76_14 (by decide +kernel) (ko0 (by omega)) rr0_0 d76_60 ?_
      refine x_iload (pc := 63) rfl d76_63 ?_
      refine x_cVv (pc := 65) c76_100 (dt_four hl hq (n := (n + 16)) (z := e) (by rw [hX4, four4_1]; omega) (by omega) (by omega)) (ko1 (by omega)) rfl rfl (Nat.le_of_ble_eq_true rfl) (by decide +kernel) (by decide +kernel) rfl d76_65 ?_
      obtain ⟨X5, hX5⟩ : ∃ Z : Nat → Int → Int, Z = (four4 X4 (n + 16) e) := ⟨_, rfl⟩
      refine x_mem (J := X5) (pc := 68) hX5 ?_
      refine x_aload_n (pc := 68) rfl d76_68 ?_
      refine m_getR (pc := 69) f76_14 (by decide +kernel) (ko0 (by omega)) rr0_0 d76_69 ?_
      refine m_getI (pc := 72) (z := 1) f76_85 (by decide +kernel) rfl (ko1 (by omega)) d76_72 ?_
      refine x_iret (pc := 75) rfl (fun z => Bool.noConfusion z) d76_75 ?_
      have ko : ∀ x, x ≠ 1 → x ≠ 2 → X5 x = I x := fun x h1 h2 => by rw [hX5, four4_o h1 h2, hX4, four4_o h1 h2, hX3, four4_o h1 h2, hX2, four4_o h1 h2, hX1, four4_o h1 h2]
      have k1 : X5 1 1 = n + 20 := by rw [hX5, four4_1]; omega
      rw [k1]
      obtain ⟨g1, g2, g3, g4, g5, g6, g7⟩ := h
      refine qc_ok ⟨g1.cg fun a h0 h1 => ko a (by omega) (by omega), g2.cg (ko 14 (by decide) (by decide)) fun a h0 h1 => ko a (by omega) (by omega), g3.cg (by rw [ko 0 (by decide) (by decide)]) fun a h0 h1 => ko a (by omega) (by omega), g4.cg fun a h0 h1 => ko a (by omega) (by omega), ⟨k1, ?_⟩, g6.cg (by rw [ko 5 (by decide) (by decide)]) (by rw [ko 5 (by decide) (by decide)]), g7.cg (ko 3 (by decide) (by decide)) (ko 4 (by decide) (by decide))⟩ (fun a ha => ko a (by omega) (by omega))
      rw [hX5, four4_2, hX4, four4_2, hX3, four4_2, hX2, four4_2, hX1, four4_2, g5.2]
      rfl
    · refine x_mask [false, false, false, false, false, false] ?_
      dsimp only [mask]
      exfalso; omega
  · rw [if_neg cc]
    refine mkct2 hl (by decide) (Nat.le_of_ble_eq_true rfl) (L := [some (.ref 0), some (.int (iI a)), some (.int (iI b)), some (.int (iI c)), some (.int (iI d)), some (.int (iI e))]) rfl ?_
    refine x_aload_n (pc := 0) rfl d76_0 ?_
    refine m_getR (pc := 1) f76_14 (by decide +kernel) (ko0 (by omega)) rr0_0 d76_1 ?_
    refine m_getI (pc := 4) (z := 1) f76_85 (by decide +kernel) rfl (ko1 (by omega)) d76_4 ?_
    refine x_val (pc := 7) (w := n) (hn) ?_
    refine x_bipush (pc := 7) (by decide) d76_7 ?_
    refine x_iadd (pc := 9) d76_9 ?_
    refine x_sipush (pc := 10) (by decide) d76_10 ?_
    refine x_icmp_le (pc := 13) (tgt := 26) ⟨by omega, by omega⟩ ⟨by omega, by omega⟩ d76_13 (by decide) (fun g13 => ?_) (fun g13 => ?_)
    · exfalso; omega
    · refine x_throw (pc := 16) x76_16 (Nat.le_of_ble_eq_true rfl) (by decide +kernel) rfl (by decide) (by decide) rfl ?_
      exact qc_no (by decide) rfl h (fun _ _ => rfl)
theorem cm77 (hl : l.1.stackTraces = false) (hq : 181 ≤ q) (h : CREL I S) (hS : GOK S) {z : Int} (hz : InR z) : CT l 77 [.ref 0, .int (iI z)] (mm q I v false) 1 6 (QC q v (fun _ => 0) I (oTruncate S z)) := by
  have e1 : I 1 1 = gL S := h.2.2.2.2.1.1
  have hL := hS.2.2.2.1.1
  obtain ⟨hz1, hz2⟩ := hz
  unfold oTruncate
  by_cases c : 0 ≤ z ∧ z ≤ gL S
  · rw [if_pos c]
    refine mkct2 hl (by decide) (Nat.le_of_ble_eq_true rfl) (L := [some (.ref 0), some (.int (iI z))]) rfl ?_
    refine x_iload_n (pc := 0) rfl d77_0 ?_
    refine x_if_lt (pc := 1) (tgt := 15) ⟨by omega, by omega⟩ d77_1 (by decide) (fun g1 => ?_) (fun g1 => ?_)
    · refine x_mask [false, false] ?_
      dsimp only [mask]
      exfalso; omega
    · refine x_iload_n (pc := 4) rfl d77_4 ?_
      refine x_aload_n (pc := 5) rfl d77_5 ?_
      refine m_getR (pc := 6) f77_14 (by decide +kernel) (ko0 (by omega)) rr0_0 d77_6 ?_
      refine m_getI (pc := 9) (z := 1) f77_85 (by decide +kernel) rfl (ko1 (by omega)) d77_9 ?_
      refine x_val (pc := 12) (w := (gL S)) (e1) ?_
      refine x_icmp_le (pc := 12) (tgt := 25) ⟨by omega, by omega⟩ ⟨by omega, by omega⟩ d77_12 (by decide) (fun g12 => ?_) (fun g12 => ?_)
      · refine x_aload_n (pc := 25) rfl d77_25 ?_
        refine m_getR (pc := 26) f77_14 (by decide +kernel) (ko0 (by omega)) rr0_0 d77_26 ?_
        refine x_iload_n (pc := 29) rfl d77_29 ?_
        refine m_putI (pc := 30) (z := 1) f77_85 (by decide +kernel) (by decide +kernel) rfl (ko1 (by omega)) d77_30 ?_
        refine x_iload_n (pc := 33) rfl d77_33 ?_
        refine x_iret (pc := 34) rfl (fun z => Bool.noConfusion z) d77_34 ?_
        exact qc_ok (h.len z) (fun a ha => up2_off' _ _ _ (by omega))
      · refine x_mask [false, false] ?_
        dsimp only [mask]
        exfalso; omega
  · rw [if_neg c]
    refine mkct2 hl (by decide) (Nat.le_of_ble_eq_true rfl) (L := [some (.ref 0), some (.int (iI z))]) rfl ?_
    refine x_iload_n (pc := 0) rfl d77_0 ?_
    refine x_if_lt (pc := 1) (tgt := 15) ⟨by omega, by omega⟩ d77_1 (by decide) (fun g1 => ?_) (fun g1 => ?_)
    · refine x_throw (pc := 15) x77_15 (Nat.le_of_ble_eq_true rfl) (by decide +kernel) rfl (by decide) (by decide) rfl ?_
      exact qc_no (by decide) rfl h (fun _ _ => rfl)
    · refine x_iload_n (pc := 4) rfl d77_4 ?_
      refine x_aload_n (pc := 5) rfl d77_5 ?_
      refine m_getR (pc := 6) f77_14 (by decide +kernel) (ko0 (by omega)) rr0_0 d77_6 ?_
      refine m_getI (pc := 9) (z := 1) f77_85 (by decide +kernel) rfl (ko1 (by omega)) d77_9 ?_
      refine x_val (pc := 12) (w := (gL S)) (e1) ?_
      refine x_icmp_le (pc := 12) (tgt := 25) ⟨by omega, by omega⟩ ⟨by omega, by omega⟩ d77_12 (by decide) (fun g12 => ?_) (fun g12 => ?_)
      · exfalso; omega
      · refine x_throw (pc := 15) x77_15 (Nat.le_of_ble_eq_true rfl) (by decide +kernel) rfl (by decide) (by decide) rfl ?_
        exact qc_no (by decide) rfl h (fun _ _ => rfl)
theorem cm78 (hl : l.1.stackTraces = false) (hq : 181 ≤ q) (h : CREL I S) (hS : GOK S) : CT l 78 [.ref 0] (mm q I v false) 1 6 (QC q v (fun _ => 0) I (oLoad S)) := by
  have hL := hS.2.2.2.1.1
  unfold oLoad
  refine mkct2 hl (by decide) (Nat.le_of_ble_eq_true rfl) (L := [some (.ref 0), none]) rfl ?_
  refine x_aload_n (pc := 0) rfl d78_0 ?_
  refine m_getR (pc := 1) f78_61 (by decide +kernel) (ko0 (by omega)) rr0_8 d78_1 ?_
  refine x_aload_n (pc := 4) rfl d78_4 ?_
  refine m_getR (pc := 5) f78_26 (by decide +kernel) (ko0 (by omega)) rr0_2 d78_5 ?_
  refine x_cVes (pc := 8) c78_108 (ct_rconf hl hq (la166 (by omega)) (h.txt hS) h.2.2.2.1) (ko166 (by omega)) rfl rfl (Nat.le_of_ble_eq_true rfl) (by decide +kernel) (by decide +kernel) d78_8 (fun J1 hJ1 => ?_)
  refine x_istore_n (pc := 11) (by decide +kernel) rfl d78_11 ?_
  dsimp only [List.set]
  refine x_aload_n (pc := 12) rfl d78_12 ?_
  refine m_getR (pc := 13) f78_14 (by decide +kernel) (ko0 (by omega)) rr0_0 d78_13 ?_
  refine x_iconst (pc := 16) d78_16 ?_
  refine m_putI (pc := 17) (z := 1) f78_85 (by decide +kernel) (by decide +kernel) rfl (ko1 (by omega)) d78_17 ?_
  obtain ⟨j0, j1, j2, j3⟩ := hJ1
  refine x_iload_n (pc := 20) rfl d78_20 ?_
  refine x_ifB_ne (pc := 21) (tgt := 34) d78_21 (by decide) (fun g21 => ?_) (fun g21 => ?_)
  · refine x_aload_n (pc := 34) rfl d78_34 ?_
    refine m_getR (pc := 35) f78_54 (by decide +kernel) (ko0 (by omega)) rr0_6 d78_35 ?_
    refine x_aload_n (pc := 38) rfl d78_38 ?_
    refine m_getR (pc := 39) f78_61 (by decide +kernel) (ko0 (by omega)) rr0_8 d78_39 ?_
    obtain ⟨B, hB⟩ : ∃ Z : Nat → Int → Int, Z = (up2 J1 1 1 0) := ⟨_, rfl⟩
    refine x_mem (J := B) (pc := 42) hB ?_
    have c1 := of_decide_eq_true g21
    obtain ⟨k1, k2, k3, k4⟩ := j2 c1
    have hw : CINV B 166 0 := ⟨by rw [hB, vc_out (by decide), k1]; exact conf_r hL.1 c1, by rw [hB]; exact k2.cong fun a h0 h1 => up2_off' _ _ _ (by omega)⟩
    have hE : CREL B (sL (sE S (0, -1)) (0, gT S)) := by rw [hB]; exact (h.err (fun a h0 h1 => j0 a (by omega) (by omega)) j1 k3 k4).len 0
    refine x_cVev (pc := 42) c78_114 (ct_copyV hl (la136 (by omega)) (la166 (by omega)) (by decide) hw) (ko136 (by omega)) rfl rfl (Nat.le_of_ble_eq_true rfl) (by decide +kernel) (by decide +kernel) d78_42 (fun J2 hJ2 => ?_)
    refine x_aload_n (pc := 45) rfl d78_45 ?_
    refine m_getR (pc := 46) f78_47 (by decide +kernel) (ko0 (by omega)) rr0_5 d78_46 ?_
    refine x_cVv (pc := 49) c78_118 (dt_forget hl hq) (ko14 (by omega)) rfl rfl (Nat.le_of_ble_eq_true rfl) (by decide +kernel) (by decide +kernel) rfl d78_49 ?_
    refine x_aload_n (pc := 52) rfl d78_52 ?_
    refine m_getR (pc := 53) f78_54 (by decide +kernel) (ko0 (by omega)) rr0_6 d78_53 ?_
    refine m_getR (pc := 56) f78_68 (by decide +kernel) (ko136 (by omega)) rr136_10 d78_56 ?_
    refine m_getW (pc := 59) (z := 0) (w := (J2 139 0)) f78_121 (by decide +kernel) rfl (ko139 (by omega)) (by rw [up2_p (by omega)]) d78_59 ?_
    refine x_iret (pc := 62) rfl (fun z => Bool.noConfusion z) d78_62 ?_
    obtain ⟨m0, m1, m2⟩ := hJ2
    have e9 : J2 139 0 = (confP (gT S) (gL S)).2.2 0 4 := by
      rw [← k1, ← vc_out (I := J1) (p := 166) (k := 1) (j := 1) (z := 0) (by decide), ← hB, ← m1, vr4]
    rw [if_pos c1, e9]
    refine qc_ok (hE.hist (hS.e0 (0, -1)).l0 (fun b hb h14 => by rw [up2_off' _ _ _ h14]; exact m0 b (by omega)) (by rw [vc_out (by decide), m1, hB, vc_out (by decide)]; exact k1) (m2.cong fun a h0 h1 => up2_off' _ _ _ (by omega)) (by rw [up2_i (by decide), m0 14 (by decide)]; exact hE.2.1.2.1) up2_s (Or.inl rfl)) (fun a ha => by rw [up2_off' _ _ _ (by omega), m0 a (by omega), hB, up2_off' _ _ _ (by omega)]; exact j0 a (by omega) (by omega))
  · refine x_throw (pc := 24) x78_24 (Nat.le_of_ble_eq_true rfl) (by decide +kernel) rfl (by decide) (by decide) rfl ?_
    have c1 := of_decide_eq_false g21
    obtain ⟨k3, k4⟩ := j3 c1
    rw [if_neg c1]
    exact qc_no (by decide) rfl ((h.err (fun a h0 h1 => j0 a (by omega) (by omega)) j1 k3 k4).len 0) (fun a ha => by rw [up2_off' _ _ _ (by omega)]; exact j0 a (by omega) (by omega))
theorem cm127 (hl : l.1.stackTraces = false) (hq : 181 ≤ q) (h : CREL I S) (hS : GOK S) : CT l 127 [.ref 0] (mm q I v false) 1 6 (QC q v (fun c => if c = 1 then 0 else 1) I (oSend S)) := by
  have hi := h.inv hS
  have e1 : I 1 1 = gL S := h.2.2.2.2.1.1
  have e2 : I 2 = gT S := h.2.2.2.2.1.2
  have hL := hS.2.2.2.1.1
  have hTb := hS.2.2.2.1.2
  have e5 : gA S 0 5 = I 136 7 := by rw [← h.1.1, vr5]
  unfold oSend
  by_cases c : 1 ≤ gL S ∧ gL S ≤ 16
  · rw [if_pos c]
    refine mkct2 hl (by decide) (Nat.le_of_ble_eq_true rfl) (L := [some (.ref 0), none]) rfl ?_
    refine x_aload_n (pc := 0) rfl d127_0 ?_
    refine m_getR (pc := 1) f127_14 (by decide +kernel) (ko0 (by omega)) rr0_0 d127_1 ?_
    refine m_getI (pc := 4) (z := 1) f127_85 (by decide +kernel) rfl (ko1 (by omega)) d127_4 ?_
    refine x_val (pc := 7) (w := (gL S)) (e1) ?_
    refine x_iconst (pc := 7) d127_7 ?_
    refine x_icmp_lt (pc := 8) (tgt := 23) ⟨by omega, by omega⟩ ⟨by omega, by omega⟩ d127_8 (by decide) (fun g8 => ?_) (fun g8 => ?_)
    · refine x_mask [false, true] ?_
      dsimp only [mask]
      exfalso; omega
    · refine x_aload_n (pc := 11) rfl d127_11 ?_
      refine m_getR (pc := 12) f127_14 (by decide +kernel) (ko0 (by omega)) rr0_0 d127_12 ?_
      refine m_getI (pc := 15) (z := 1) f127_85 (by decide +kernel) rfl (ko1 (by omega)) d127_15 ?_
      refine x_val (pc := 18) (w := (gL S)) (e1) ?_
      refine x_bipush (pc := 18) (by decide) d127_18 ?_
      refine x_icmp_le (pc := 20) (tgt := 34) ⟨by omega, by omega⟩ ⟨by omega, by omega⟩ d127_20 (by decide) (fun g20 => ?_) (fun g20 => ?_)
      · refine x_aload_n (pc := 34) rfl d127_34 ?_
        refine m_getR (pc := 35) f127_54 (by decide +kernel) (ko0 (by omega)) rr0_6 d127_35 ?_
        refine x_cVs (pc := 38) c127_313 (dt_room hl (la136 (by omega)) hi) (ko136 (by omega)) rfl rfl (Nat.le_of_ble_eq_true rfl) (by decide +kernel) (by decide +kernel) rfl d127_38 ?_
        refine x_ifB_ne (pc := 41) (tgt := 55) d127_41 (by decide) (fun g41 => ?_) (fun g41 => ?_)
        · refine x_aload_n (pc := 55) rfl d127_55 ?_
          refine m_getR (pc := 56) f127_47 (by decide +kernel) (ko0 (by omega)) rr0_5 d127_56 ?_
          refine x_aload_n (pc := 59) rfl d127_59 ?_
          refine m_getR (pc := 60) f127_54 (by decide +kernel) (ko0 (by omega)) rr0_6 d127_60 ?_
          refine x_cVev (pc := 63) c127_129 (ct_keepX hl hq h hS) (ko14 (by omega)) rfl rfl (Nat.le_of_ble_eq_true rfl) (by decide +kernel) (by decide +kernel) d127_63 (fun J1 hJ1 => ?_)
          obtain ⟨j0, hi1, j2, j3⟩ := hJ1
          have h2r : 2 < q ∧ K0 2 = 10 * 500 := ka2 (by omega) (I := I) (v := v) (fr := false)
          have hBk : ∀ k, 0 ≤ k → k < gL S → J1 2 (0 + k) = bfA (gT S) 0 (gL S) k := fun k k0 k1 => by rw [j3 2 (by decide), e2, Int.zero_add]; unfold bfA; rw [if_pos ⟨k0, k1⟩, Int.zero_add]
          refine x_aload_n (pc := 66) rfl d127_66 ?_
          refine m_getR (pc := 67) f127_54 (by decide +kernel) (ko0 (by omega)) rr0_6 d127_67 ?_
          refine x_aload_n (pc := 70) rfl d127_70 ?_
          refine m_getR (pc := 71) f127_14 (by decide +kernel) (ko0 (by omega)) rr0_0 d127_71 ?_
          refine m_getR (pc := 74) f127_81 (by decide +kernel) (ko1 (by omega)) rr1_0 d127_74 ?_
          refine x_iconst (pc := 77) d127_77 ?_
          refine x_aload_n (pc := 78) rfl d127_78 ?_
          refine m_getR (pc := 79) f127_14 (by decide +kernel) (ko0 (by omega)) rr0_0 d127_79 ?_
          refine m_getI (pc := 82) (z := 1) f127_85 (by decide +kernel) rfl (ko1 (by omega)) d127_82 ?_
          refine x_val (pc := 85) (w := (gL S)) (by rw [j3 1 (by decide)]; exact e1) ?_
          refine x_cVes (pc := 85) c127_89 (ct_addMsg hl (la136 (by omega)) hi1 (s := 2) h2r (by decide) (by decide) (fm := 0) (n := gL S) (B := bfA (gT S) 0 (gL S)) (by omega) (by omega) (by omega) (by omega) hBk (bfA_r hTb (by omega) (by omega))) (ko136 (by omega)) rfl rfl (Nat.le_of_ble_eq_true rfl) (by decide +kernel) (by decide +kernel) d127_85 (fun J2 hJ2 => ?_)
          refine x_istore_n (pc := 88) (by decide +kernel) rfl d127_88 ?_
          dsimp only [List.set]
          refine x_aload_n (pc := 89) rfl d127_89 ?_
          refine m_getR (pc := 90) f127_14 (by decide +kernel) (ko0 (by omega)) rr0_0 d127_90 ?_
          refine x_iconst (pc := 93) d127_93 ?_
          refine m_putI (pc := 94) (z := 1) f127_85 (by decide +kernel) (by decide +kernel) rfl (ko1 (by omega)) d127_94 ?_
          refine x_iload_n (pc := 97) rfl d127_97 ?_
          refine x_iret (pc := 98) rfl (fun z => Bool.noConfusion z) d127_98 ?_
          have c2 := of_decide_eq_true g41
          obtain ⟨k0, k1, k2⟩ := hJ2
          have ej : J1 136 7 = gA S 0 5 := by rw [j2 136 (by omega), e5]
          rw [← e5] at c2
          rw [ej, if_pos c2, j0.1.1] at k1
          rw [ej, if_pos c2, if_pos c2]
          exact qc_ok ((j0.line k0.offL k1 k2).len 0) (fun a ha => by rw [up2_off' _ _ _ (by omega), k0 a (by omega), j2 a (by omega)])
        · refine x_throw (pc := 44) x127_44 (Nat.le_of_ble_eq_true rfl) (by decide +kernel) rfl (by decide) (by decide) rfl ?_
          have c2 := of_decide_eq_false g41
          rw [← e5] at c2
          rw [if_neg c2]; exact qc_no (by decide) rfl h (fun _ _ => rfl)
      · refine x_mask [false, true] ?_
        dsimp only [mask]
        exfalso; omega
  · rw [if_neg c]
    refine mkct2 hl (by decide) (Nat.le_of_ble_eq_true rfl) (L := [some (.ref 0), none]) rfl ?_
    refine x_aload_n (pc := 0) rfl d127_0 ?_
    refine m_getR (pc := 1) f127_14 (by decide +kernel) (ko0 (by omega)) rr0_0 d127_1 ?_
    refine m_getI (pc := 4) (z := 1) f127_85 (by decide +kernel) rfl (ko1 (by omega)) d127_4 ?_
    refine x_val (pc := 7) (w := (gL S)) (e1) ?_
    refine x_iconst (pc := 7) d127_7 ?_
    refine x_icmp_lt (pc := 8) (tgt := 23) ⟨by omega, by omega⟩ ⟨by omega, by omega⟩ d127_8 (by decide) (fun g8 => ?_) (fun g8 => ?_)
    · refine x_throw (pc := 23) x127_23 (Nat.le_of_ble_eq_true rfl) (by decide +kernel) rfl (by decide) (by decide) rfl ?_
      exact qc_no (by decide) rfl h (fun _ _ => rfl)
    · refine x_aload_n (pc := 11) rfl d127_11 ?_
      refine m_getR (pc := 12) f127_14 (by decide +kernel) (ko0 (by omega)) rr0_0 d127_12 ?_
      refine m_getI (pc := 15) (z := 1) f127_85 (by decide +kernel) rfl (ko1 (by omega)) d127_15 ?_
      refine x_val (pc := 18) (w := (gL S)) (e1) ?_
      refine x_bipush (pc := 18) (by decide) d127_18 ?_
      refine x_icmp_le (pc := 20) (tgt := 34) ⟨by omega, by omega⟩ ⟨by omega, by omega⟩ d127_20 (by decide) (fun g20 => ?_) (fun g20 => ?_)
      · exfalso; omega
      · refine x_throw (pc := 23) x127_23 (Nat.le_of_ble_eq_true rfl) (by decide +kernel) rfl (by decide) (by decide) rfl ?_
        exact qc_no (by decide) rfl h (fun _ _ => rfl)
end Opr3
