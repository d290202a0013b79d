/-! ===== .. executeCommands, formatFrame ===== -/
section Opr4
variable {l : LX} {q : Nat} {I : Nat → Int → Int} {v : Int} {S : GS}
theorem runG_t {T : Int → Int} {C : AV} {m : Nat} {k : Int} {A : AV} (c : (stepC A T (C 0 k) (C 1 k) (C 2 k) (C 3 k)).1 = true) : runG T C (m + 1) k A = runG T C m (k + 1) (stepC A T (C 0 k) (C 1 k) (C 2 k) (C 3 k)).2 := if_pos c
theorem runG_f {T : Int → Int} {C : AV} {m : Nat} {k : Int} {A : AV} (c : (stepC A T (C 0 k) (C 1 k) (C 2 k) (C 3 k)).1 = false) : runG T C (m + 1) k A = (k, (stepC A T (C 0 k) (C 1 k) (C 2 k) (C 3 k)).2) := if_neg (by rw [c]; decide)
theorem lp79 (hl : l.1.stackTraces = false) (hq : 181 ≤ q) {T : Int → Int} {n cnt : Int} {C : AV} (hC : CMOK n cnt C) (hcnt : cnt ≤ 30) {Q : OO → Prop} : ∀ (m k : Nat) (J : Nat → Int → Int), (k : Int) + m = cnt → TXT J T n → CMI J cnt C → CINV J 136 cB → (∀ K, offL 136 J K → Vc K 136 = (runG T C m k (Vc J 136)).2 → CX K 136 → Q (.inl (some (.int (iI (runG T C m k (Vc J 136)).1))), mm q (up2 K 1 1 0) v false)) →
    Ex l 79 1 6 45 [some (.ref 0), some (.int (iI k))] [] (mm q J v false) Q := by
  intro m
  induction m with
  | zero =>
    intro k J hk hX hI hi hQ
    refine x_iload_n (pc := 45) rfl d79_45 ?_
    refine x_aload_n (pc := 46) rfl d79_46 ?_
    refine m_getR (pc := 47) f79_33 (by decide +kernel) (ko0 (by omega)) rr0_3 d79_47 ?_
    refine m_getI (pc := 50) (z := 0) f79_132 (by decide +kernel) rfl (ko6 (by omega)) d79_50 ?_
    refine x_val (pc := 53) (w := cnt) (hI.1) ?_
    refine x_icmp_ge (pc := 53) (tgt := 85) ⟨by omega, by omega⟩ ⟨by omega, by omega⟩ d79_53 (by decide) (fun g53 => ?_) (fun g53 => ?_)
    · refine x_aload_n (pc := 85) rfl d79_85 ?_
      refine m_getR (pc := 86) f79_14 (by decide +kernel) (ko0 (by omega)) rr0_0 d79_86 ?_
      refine x_iconst (pc := 89) d79_89 ?_
      refine m_putI (pc := 90) (z := 1) f79_85 (by decide +kernel) (by decide +kernel) rfl (ko1 (by omega)) d79_90 ?_
      refine x_iload_n (pc := 93) rfl d79_93 ?_
      refine x_iret (pc := 94) rfl (fun z => Bool.noConfusion z) d79_94 ?_
      exact hQ J offL.refl rfl hi.2
    · exfalso; omega
  | succ m ih =>
    intro k J hk hX hI hi hQ
    refine x_iload_n (pc := 45) rfl d79_45 ?_
    refine x_aload_n (pc := 46) rfl d79_46 ?_
    refine m_getR (pc := 47) f79_33 (by decide +kernel) (ko0 (by omega)) rr0_3 d79_47 ?_
    refine m_getI (pc := 50) (z := 0) f79_132 (by decide +kernel) rfl (ko6 (by omega)) d79_50 ?_
    refine x_val (pc := 53) (w := cnt) (hI.1) ?_
    refine x_icmp_ge (pc := 53) (tgt := 85) ⟨by omega, by omega⟩ ⟨by omega, by omega⟩ d79_53 (by decide) (fun g53 => ?_) (fun g53 => ?_)
    · refine x_aload_n (pc := 85) rfl d79_85 ?_
      refine m_getR (pc := 86) f79_14 (by decide +kernel) (ko0 (by omega)) rr0_0 d79_86 ?_
      refine x_iconst (pc := 89) d79_89 ?_
      refine m_putI (pc := 90) (z := 1) f79_85 (by decide +kernel) (by decide +kernel) rfl (ko1 (by omega)) d79_90 ?_
      refine x_iload_n (pc := 93) rfl d79_93 ?_
      refine x_iret (pc := 94) rfl (fun z => Bool.noConfusion z) d79_94 ?_
      exfalso; omega
    · refine x_aload_n (pc := 56) rfl d79_56 ?_
      refine m_getR (pc := 57) f79_33 (by decide +kernel) (ko0 (by omega)) rr0_3 d79_57 ?_
      refine x_iload_n (pc := 60) rfl d79_60 ?_
      refine x_aload_n (pc := 61) rfl d79_61 ?_
      refine m_getR (pc := 62) f79_54 (by decide +kernel) (ko0 (by omega)) rr0_6 d79_62 ?_
      refine x_aload_n (pc := 65) rfl d79_65 ?_
      refine m_getR (pc := 66) f79_14 (by decide +kernel) (ko0 (by omega)) rr0_0 d79_66 ?_
      refine x_aload_n (pc := 69) rfl d79_69 ?_
      refine m_getR (pc := 70) f79_40 (by decide +kernel) (ko0 (by omega)) rr0_4 d79_70 ?_
      refine x_cVes (pc := 73) c79_133 (ct_run hl hq (la136 (by omega)) (by decide) hi hX hC hI hcnt (k := (k : Int)) (by omega) (by omega)) (ko6 (by omega)) rfl rfl (Nat.le_of_ble_eq_true rfl) (by decide +kernel) (by decide +kernel) d79_73 (fun J1 hJ1 => ?_)
      refine x_ifB_eq (pc := 76) (tgt := 85) d79_76 (by decide) (fun g76 => ?_) (fun g76 => ?_)
      · refine x_aload_n (pc := 85) rfl d79_85 ?_
        refine m_getR (pc := 86) f79_14 (by decide +kernel) (ko0 (by omega)) rr0_0 d79_86 ?_
        refine x_iconst (pc := 89) d79_89 ?_
        refine m_putI (pc := 90) (z := 1) f79_85 (by decide +kernel) (by decide +kernel) rfl (ko1 (by omega)) d79_90 ?_
        refine x_iload_n (pc := 93) rfl d79_93 ?_
        refine x_iret (pc := 94) rfl (fun z => Bool.noConfusion z) d79_94 ?_
        obtain ⟨k0, k1, k2⟩ := hJ1
        rw [runG_f g76] at hQ
        exact hQ J1 k0 k1 k2
      · refine x_iinc (pc := 79) rfl (by decide +kernel) rfl d79_79 ?_
        dsimp only [List.set]
        refine x_goto (pc := 82) (tgt := 45) d79_82 (by decide) ?_
        obtain ⟨k0, k1, k2⟩ := hJ1
        rw [runG_t g76] at hQ
        have o : ∀ a, a < 11 → J1 a = J a := fun a ha => k0 a (by omega) (by omega) (by omega) (by omega)
        refine ih (k + 1) J1 (by omega) (hX.of (o 2 (by decide)) (o 1 (by decide))) ⟨by rw [o 6 (by decide)]; exact hI.1, fun x x0 x1 => by rw [o 7 (by decide), o 8 (by decide), o 9 (by decide), o 10 (by decide)]; exact hI.2 x x0 x1⟩ ⟨by rw [k1]; exact AI.step hi.1 hX.2.2.2 (hC k (by omega) (by omega)).2.1 (hC k (by omega) (by omega)).2.2.1 (hC k (by omega) (by omega)).2.2.2, k2⟩ ?_
        rw [k1]
        exact fun K a0 a1 a2 => hQ K (k0.trans a0) a1 a2
theorem cm79 (hl : l.1.stackTraces = false) (hq : 181 ≤ q) (h : CREL I S) (hS : GOK S) : CT l 79 [.ref 0] (mm q I v false) 1 6 (QC q v (fun _ => 0) I (oExec S)) := by
  have hL := hS.2.2.2.1.1
  unfold oExec
  refine mkct2 hl (by decide) (Nat.le_of_ble_eq_true rfl) (L := [some (.ref 0), none]) rfl ?_
  refine x_aload_n (pc := 0) rfl d79_0 ?_
  refine m_getR (pc := 1) f79_33 (by decide +kernel) (ko0 (by omega)) rr0_3 d79_1 ?_
  refine x_aload_n (pc := 4) rfl d79_4 ?_
  refine m_getR (pc := 5) f79_26 (by decide +kernel) (ko0 (by omega)) rr0_2 d79_5 ?_
  refine x_cVes (pc := 8) c79_124 (ct_read hl hq (h.txt hS)) (ko6 (by omega)) rfl rfl (Nat.le_of_ble_eq_true rfl) (by decide +kernel) (by decide +kernel) d79_8 (fun J1 hJ1 => ?_)
  refine x_ifB_ne (pc := 11) (tgt := 32) d79_11 (by decide) (fun g11 => ?_) (fun g11 => ?_)
  · obtain ⟨j0, j1, j2⟩ := hJ1
    have c1 := of_decide_eq_true g11
    have hE : CREL J1 (sE S (0, -1)) := h.err (fun a h0 h1 => j0 a (by omega)) (h.2.2.2.1.cg fun a h0 h1 => j0 a (by omega)) (j1 c1).1 (j1 c1).2.1
    refine x_aload_n (pc := 32) rfl d79_32 ?_
    refine m_getR (pc := 33) f79_47 (by decide +kernel) (ko0 (by omega)) rr0_5 d79_33 ?_
    refine x_aload_n (pc := 36) rfl d79_36 ?_
    refine m_getR (pc := 37) f79_54 (by decide +kernel) (ko0 (by omega)) rr0_6 d79_37 ?_
    refine x_cVev (pc := 40) c79_129 (ct_keepX hl hq hE (hS.e0 (0, -1))) (ko14 (by omega)) rfl rfl (Nat.le_of_ble_eq_true rfl) (by decide +kernel) (by decide +kernel) d79_40 (fun J2 hJ2 => ?_)
    refine x_iconst (pc := 43) d79_43 ?_
    refine x_istore_n (pc := 44) (by decide +kernel) rfl d79_44 ?_
    dsimp only [List.set]
    obtain ⟨m0, m1, m2, m3⟩ := hJ2
    obtain ⟨i0, i1⟩ := (j1 c1).2.2
    obtain ⟨r0, r1, r2⟩ := cmds_r (T := gT S) (n := gL S) 31 0 0 (fun _ _ => 0) (fun x x0 x1 => by omega) (by decide) (by decide) (by decide) hL.1 c1
    rw [if_pos c1]
    refine lp79 hl hq (T := gT S) (n := gL S) r0 r2 (allP (gT S) (gL S)).2.2.1.toNat 0 J2 ?_ ((h.txt hS).of (by rw [m3 2 (by decide), j0 2 (by decide)]) (by rw [m3 1 (by decide), j0 1 (by decide)])) ⟨by rw [m3 6 (by decide)]; exact i0, fun x x0 x1 => by rw [m3 7 (by decide), m3 8 (by decide), m3 9 (by decide), m3 10 (by decide)]; exact i1 x x0 x1⟩ m1 ?_
    · show ((0 : Nat) : Int) + (((allP (gT S) (gL S)).2.2.1.toNat : Nat) : Int) = (allP (gT S) (gL S)).2.2.1
      have r1 : 0 ≤ (allP (gT S) (gL S)).2.2.1 := r1
      omega
    · intro K o0 o1 o2
      have ea : Vc J2 136 = gA S := m0.1.1
      rw [ea] at o1 ⊢
      exact qc_ok ((m0.line o0 o1 o2).len 0) (fun a ha => by rw [up2_off' _ _ _ (by omega), o0 a (by omega) (by omega) (by omega) (by omega), m2 a (by omega), j0 a (by omega)])
  · refine x_aload_n (pc := 14) rfl d79_14 ?_
    refine m_getR (pc := 15) f79_14 (by decide +kernel) (ko0 (by omega)) rr0_0 d79_15 ?_
    refine x_iconst (pc := 18) d79_18 ?_
    refine m_putI (pc := 19) (z := 1) f79_85 (by decide +kernel) (by decide +kernel) rfl (ko1 (by omega)) d79_19 ?_
    refine x_throw (pc := 22) x79_22 (Nat.le_of_ble_eq_true rfl) (by decide +kernel) rfl (by decide) (by decide) rfl ?_
    have c1 := of_decide_eq_false g11
    obtain ⟨j0, j1, j2⟩ := hJ1
    rw [if_neg c1]
    exact qc_no (by decide) rfl ((h.err (fun a h0 h1 => j0 a (by omega)) (h.2.2.2.1.cg fun a h0 h1 => j0 a (by omega)) (j2 c1).1 (j2 c1).2).len 0) (fun a ha => by rw [up2_off' _ _ _ (by omega)]; exact j0 a (by omega))
/-- the output has so many places -/
theorem outN_len (cb g : Int → Int) : ∀ b : Nat, (outN cb b (0, g)).1 = b + (((b - 1) / 8 : Nat) : Int)
  | 0 => rfl
  | b + 1 => by
    have e := outN_len cb g b
    show (if 0 < b ∧ b % 8 = 0 then ((outN cb b (0, g)).1 + 1, fun i => if i = (outN cb b (0, g)).1 then 32 else (outN cb b (0, g)).2 i) else outN cb b (0, g)).1 + 1 = _
    by_cases c : 0 < b ∧ b % 8 = 0
    · rw [if_pos c]; show (outN cb b (0, g)).1 + 1 + 1 = _; rw [e]; omega
    · rw [if_neg c, e]; omega
/-- one letter more -/
def putG (J : Nat → Int → Int) (n z : Int) : Nat → Int → Int := up2 (up2 J 4 n (z % 256)) 3 1 (n + 1)
theorem st138 (hl : l.1.stackTraces = false) (hq : 181 ≤ q) {Q : OO → Prop} {J : Nat → Int → Int} {b n c nb : Int} (hn : J 3 1 = n) (h0 : 0 ≤ n) (h1 : n < 53) (hb : J 11 2 = nb) (hnb : nb ≤ 48) (hb0 : 0 ≤ b) (hb1 : b < nb) (hc : J 12 b = c) (hcr : c = 0 ∨ c = 1) (hK : Ex l 138 1 6 39 [some (.ref 0), none, none, some (.int (iI (b + 1)))] [] (mm q (putG J n (if c = 0 then 46 else 42)) v false) Q) : Ex l 138 1 6 70 [some (.ref 0), none, none, some (.int (iI b))] [] (mm q J v false) Q := by
  unfold putG at hK
  by_cases c0 : c = 0
  · rw [if_pos c0] at hK
    refine x_aload_n (pc := 70) rfl d138_70 ?_
    refine m_getR (pc := 71) f138_18 (by decide +kernel) (ko0 (by omega)) rr0_1 d138_71 ?_
    refine x_aload_n (pc := 74) rfl d138_74 ?_
    refine m_getR (pc := 75) f138_40 (by decide +kernel) (ko0 (by omega)) rr0_4 d138_75 ?_
    refine m_getR (pc := 78) f138_377 (by decide +kernel) (ko11 (by omega)) rr11_0 d138_78 ?_
    refine x_iload_n (pc := 81) rfl d138_81 ?_
    refine m_iald (pc := 82) (ka12 (by omega)) (by omega) (by omega) (by omega) d138_82 ?_
    refine x_val (pc := 83) (w := c) (hc) ?_
    refine x_if_ne (pc := 83) (tgt := 91) ⟨by omega, by omega⟩ d138_83 (by decide) (fun g83 => ?_) (fun g83 => ?_)
    · refine x_bipush (pc := 91) (by decide) d138_91 ?_
      refine x_cVv (pc := 93) c138_78 (dt_put3 hl hq (n := n) (z := 42) hn (by omega) (by omega)) (ko3 (by omega)) rfl rfl (Nat.le_of_ble_eq_true rfl) (by decide +kernel) (by decide +kernel) rfl d138_93 ?_
      refine x_iinc (pc := 96) rfl (by decide +kernel) rfl d138_96 ?_
      dsimp only [List.set]
      refine x_goto (pc := 99) (tgt := 39) d138_99 (by decide) ?_
      exfalso; omega
    · refine x_bipush (pc := 86) (by decide) d138_86 ?_
      refine x_goto (pc := 88) (tgt := 93) d138_88 (by decide) ?_
      refine x_cVv (pc := 93) c138_78 (dt_put3 hl hq (n := n) (z := 46) hn (by omega) (by omega)) (ko3 (by omega)) rfl rfl (Nat.le_of_ble_eq_true rfl) (by decide +kernel) (by decide +kernel) rfl d138_93 ?_
      refine x_iinc (pc := 96) rfl (by decide +kernel) rfl d138_96 ?_
      dsimp only [List.set]
      refine x_goto (pc := 99) (tgt := 39) d138_99 (by decide) ?_
      exact hK
  · rw [if_neg c0] at hK
    refine x_aload_n (pc := 70) rfl d138_70 ?_
    refine m_getR (pc := 71) f138_18 (by decide +kernel) (ko0 (by omega)) rr0_1 d138_71 ?_
    refine x_aload_n (pc := 74) rfl d138_74 ?_
    refine m_getR (pc := 75) f138_40 (by decide +kernel) (ko0 (by omega)) rr0_4 d138_75 ?_
    refine m_getR (pc := 78) f138_377 (by decide +kernel) (ko11 (by omega)) rr11_0 d138_78 ?_
    refine x_iload_n (pc := 81) rfl d138_81 ?_
    refine m_iald (pc := 82) (ka12 (by omega)) (by omega) (by omega) (by omega) d138_82 ?_
    refine x_val (pc := 83) (w := c) (hc) ?_
    refine x_if_ne (pc := 83) (tgt := 91) ⟨by omega, by omega⟩ d138_83 (by decide) (fun g83 => ?_) (fun g83 => ?_)
    · refine x_bipush (pc := 91) (by decide) d138_91 ?_
      refine x_cVv (pc := 93) c138_78 (dt_put3 hl hq (n := n) (z := 42) hn (by omega) (by omega)) (ko3 (by omega)) rfl rfl (Nat.le_of_ble_eq_true rfl) (by decide +kernel) (by decide +kernel) rfl d138_93 ?_
      refine x_iinc (pc := 96) rfl (by decide +kernel) rfl d138_96 ?_
      dsimp only [List.set]
      refine x_goto (pc := 99) (tgt := 39) d138_99 (by decide) ?_
      exact hK
    · refine x_bipush (pc := 86) (by decide) d138_86 ?_
      refine x_goto (pc := 88) (tgt := 93) d138_88 (by decide) ?_
      refine x_cVv (pc := 93) c138_78 (dt_put3 hl hq (n := n) (z := 46) hn (by omega) (by omega)) (ko3 (by omega)) rfl rfl (Nat.le_of_ble_eq_true rfl) (by decide +kernel) (by decide +kernel) rfl d138_93 ?_
      refine x_iinc (pc := 96) rfl (by decide +kernel) rfl d138_96 ?_
      dsimp only [List.set]
      refine x_goto (pc := 99) (tgt := 39) d138_99 (by decide) ?_
      exfalso; omega
theorem putG_r {J : Nat → Int → Int} {n z : Int} {g : Int → Int} (hg : ∀ i : Int, 0 ≤ i → i < n → J 4 i = g i) (hz : 0 ≤ z ∧ z ≤ 255) : putG J n z 3 1 = n + 1 ∧ (∀ i : Int, 0 ≤ i → i < n + 1 → putG J n z 4 i = if i = n then z else g i) ∧ ∀ a, a ≠ 3 → a ≠ 4 → putG J n z a = J a := by
  unfold putG
  refine ⟨up2_s, fun i i0 i1 => ?_, fun a a0 a1 => by rw [up2_off' _ _ _ a0, up2_off' _ _ _ a1]⟩
  rw [up2_p (by decide), up2_q]
  by_cases c : i = n
  · rw [if_pos c, if_pos c]; omega
  · rw [if_neg c, if_neg c]; exact hg i i0 (by omega)
theorem lp138 (hl : l.1.stackTraces = false) (hq : 181 ≤ q) {cb g : Int → Int} {nb : Nat} (hcb : ∀ i, cb i = 0 ∨ cb i = 1) (hnb : nb ≤ 48) {Q : OO → Prop} : ∀ (m b : Nat) (J : Nat → Int → Int), b + m = nb → J 3 1 = (outN cb b (0, g)).1 → (∀ i : Int, 0 ≤ i → i < (outN cb b (0, g)).1 → J 4 i = (outN cb b (0, g)).2 i) → J 11 2 = nb → (∀ i : Int, 0 ≤ i → i < nb → J 12 i = cb i) → (∀ K, (∀ a, a ≠ 3 → a ≠ 4 → K a = J a) → K 3 1 = (outN cb nb (0, g)).1 → (∀ i : Int, 0 ≤ i → i < (outN cb nb (0, g)).1 → K 4 i = (outN cb nb (0, g)).2 i) → Q (.inl (some (.int (iI (outN cb nb (0, g)).1))), mm q K v false)) →
    Ex l 138 1 6 39 [some (.ref 0), none, none, some (.int (iI b))] [] (mm q J v false) Q := by
  intro m
  induction m with
  | zero =>
    intro b J hm e3 e4 hb hc hQ
    have hb2 : b = nb := by omega
    subst hb2
    refine x_iload_n (pc := 39) rfl d138_39 ?_
    refine x_aload_n (pc := 40) rfl d138_40 ?_
    refine m_getR (pc := 41) f138_40 (by decide +kernel) (ko0 (by omega)) rr0_4 d138_41 ?_
    refine m_getI (pc := 44) (z := 2) f138_224 (by decide +kernel) rfl (ko11 (by omega)) d138_44 ?_
    refine x_val (pc := 47) (w := (b : Int)) (hb) ?_
    refine x_icmp_ge (pc := 47) (tgt := 102) ⟨by omega, by omega⟩ ⟨by omega, by omega⟩ d138_47 (by decide) (fun g47 => ?_) (fun g47 => ?_)
    · refine x_aload_n (pc := 102) rfl d138_102 ?_
      refine m_getR (pc := 103) f138_18 (by decide +kernel) (ko0 (by omega)) rr0_1 d138_103 ?_
      refine m_getI (pc := 106) (z := 1) f138_85 (by decide +kernel) rfl (ko3 (by omega)) d138_106 ?_
      refine x_iret (pc := 109) rfl (fun z => Bool.noConfusion z) d138_109 ?_
      rw [e3]; exact hQ J (fun _ _ _ => rfl) e3 e4
    · exfalso; omega
  | succ m ih =>
    intro b J hm e3 e4 hb hc hQ
    have en := outN_len cb g b
    obtain ⟨n, hne⟩ : ∃ n, n = (outN cb b (0, g)).1 := ⟨_, rfl⟩
    rw [← hne] at e3 e4 en
    have hn := e3
    have nx : ∀ (J2 : Nat → Int → Int) (n2 : Int) (g2 : Int → Int), (∀ a, a ≠ 3 → a ≠ 4 → J2 a = J a) → J2 3 1 = n2 → 0 ≤ n2 → n2 < 53 → (∀ i : Int, 0 ≤ i → i < n2 → J2 4 i = g2 i) → outN cb (b + 1) (0, g) = (n2 + 1, fun i => if i = n2 then (if cb b = 0 then 46 else 42) else g2 i) → Ex l 138 1 6 70 [some (.ref 0), none, none, some (.int (iI b))] [] (mm q J2 v false) Q := fun J2 n2 g2 o q1 q2 q3 q4 q5 => by
      obtain ⟨r1, r2, r3⟩ := putG_r (J := J2) (n := n2) (z := if cb b = 0 then 46 else 42) (g := g2) q4 (by split <;> decide)
      refine st138 hl hq q1 q2 q3 (nb := nb) (by rw [o 11 (by decide) (by decide)]; exact hb) (by omega) (by omega) (by omega) (c := cb b) (by rw [o 12 (by decide) (by decide)]; exact hc b (by omega) (by omega)) (hcb b) ?_
      refine ih (b + 1) _ (by omega) (by rw [q5]; exact r1) (by rw [q5]; exact r2) (by rw [r3 11 (by decide) (by decide), o 11 (by decide) (by decide)]; exact hb) (fun i i0 i1 => by rw [r3 12 (by decide) (by decide), o 12 (by decide) (by decide)]; exact hc i i0 i1) fun K a0 a1 a2 => hQ K (fun a h3 h4 => by rw [a0 a h3 h4, r3 a h3 h4, o a h3 h4]) a1 a2
    have eP : outN cb (b + 1) (0, g) = ((if 0 < b ∧ b % 8 = 0 then ((outN cb b (0, g)).1 + 1, fun i => if i = (outN cb b (0, g)).1 then 32 else (outN cb b (0, g)).2 i) else outN cb b (0, g)).1 + 1, fun i => if i = (if 0 < b ∧ b % 8 = 0 then ((outN cb b (0, g)).1 + 1, fun i => if i = (outN cb b (0, g)).1 then 32 else (outN cb b (0, g)).2 i) else outN cb b (0, g)).1 then (if cb b = 0 then 46 else 42) else (if 0 < b ∧ b % 8 = 0 then ((outN cb b (0, g)).1 + 1, fun i => if i = (outN cb b (0, g)).1 then 32 else (outN cb b (0, g)).2 i) else outN cb b (0, g)).2 i) := rfl
    refine x_iload_n (pc := 39) rfl d138_39 ?_
    refine x_aload_n (pc := 40) rfl d138_40 ?_
    refine m_getR (pc := 41) f138_40 (by decide +kernel) (ko0 (by omega)) rr0_4 d138_41 ?_
    refine m_getI (pc := 44) (z := 2) f138_224 (by decide +kernel) rfl (ko11 (by omega)) d138_44 ?_
    refine x_val (pc := 47) (w := (nb : Int)) (hb) ?_
    refine x_icmp_ge (pc := 47) (tgt := 102) ⟨by omega, by omega⟩ ⟨by omega, by omega⟩ d138_47 (by decide) (fun g47 => ?_) (fun g47 => ?_)
    · refine x_aload_n (pc := 102) rfl d138_102 ?_
      refine m_getR (pc := 103) f138_18 (by decide +kernel) (ko0 (by omega)) rr0_1 d138_103 ?_
      refine m_getI (pc := 106) (z := 1) f138_85 (by decide +kernel) rfl (ko3 (by omega)) d138_106 ?_
      refine x_iret (pc := 109) rfl (fun z => Bool.noConfusion z) d138_109 ?_
      exfalso; omega
    · refine x_iload_n (pc := 50) rfl d138_50 ?_
      refine x_if_le (pc := 51) (tgt := 70) ⟨by omega, by omega⟩ d138_51 (by decide) (fun g51 => ?_) (fun g51 => ?_)
      · rw [if_neg (by omega), ← hne] at eP
        exact nx J n _ (fun _ _ _ => rfl) hn (by omega) (by omega) e4 eP
      · refine x_iload_n (pc := 54) rfl d138_54 ?_
        refine x_bipush (pc := 55) (by decide) d138_55 ?_
        refine x_irem (pc := 57) (by omega) (by omega) (by omega) (by omega) d138_57 ?_
        refine x_if_ne (pc := 58) (tgt := 70) ⟨by omega, by omega⟩ d138_58 (by decide) (fun g58 => ?_) (fun g58 => ?_)
        · rw [if_neg (by omega), ← hne] at eP
          exact nx J n _ (fun _ _ _ => rfl) hn (by omega) (by omega) e4 eP
        · refine x_aload_n (pc := 61) rfl d138_61 ?_
          refine m_getR (pc := 62) f138_18 (by decide +kernel) (ko0 (by omega)) rr0_1 d138_62 ?_
          refine x_bipush (pc := 65) (by decide) d138_65 ?_
          refine x_cVv (pc := 67) c138_78 (dt_put3 hl hq (n := n) (z := 32) hn (by omega) (by omega)) (ko3 (by omega)) rfl rfl (Nat.le_of_ble_eq_true rfl) (by decide +kernel) (by decide +kernel) rfl d138_67 ?_
          rw [if_pos (by omega), ← hne] at eP
          obtain ⟨r1, r2, r3⟩ := putG_r (J := J) (n := n) (z := 32) e4 (by decide)
          exact nx (putG J n 32) (n + 1) _ r3 r1 (by omega) (by omega) r2 eP
theorem cm138 (hl : l.1.stackTraces = false) (hq : 181 ≤ q) (h : CREL I S) (hS : GOK S) {f t : Int} (hf : InR f) (ht : InR t) : CT l 138 [.ref 0, .int (iI f), .int (iI t)] (mm q I v false) 1 6 (QC q v (fun c => if c = 1 then 2 else 0) I (oFormat S f t)) := by
  have hi := h.inv hS
  have hs := hi.sc
  have hs7 : 0 ≤ I 143 0 ∧ I 143 0 ≤ 4 * I 136 7 := hs.2.2.2.2.2.2.1
  have hs5 := hs.2.2.2.2.2.1
  unfold oFormat
  by_cases c : 0 ≤ f ∧ f < gA S 0 6
  · rw [show isF S f = true from decide_eq_true c, if_pos rfl]
    obtain ⟨c0, c1⟩ := id c
    have c9 : f < I 143 0 := by rw [← h.1.1, vr6] at c1; exact c1
    by_cases d : 0 ≤ t ∧ t ≤ 999999
    · rw [show isT t = true from decide_eq_true d, if_pos rfl]
      obtain ⟨q1, q2, q3, q4, q5⟩ := ask_cab h hS c0 c9 t (I 136 0)
      have e0 : I 136 0 = gA S 0 0 := by rw [← h.1.1, vr0]
      have hb0 := hs.1
      rw [q3]
      refine mkct2 hl (by decide) (Nat.le_of_ble_eq_true rfl) (L := [some (.ref 0), some (.int (iI f)), some (.int (iI t)), none]) rfl ?_
      refine x_aload_n (pc := 0) rfl d138_0 ?_
      refine x_iload_n (pc := 1) rfl d138_1 ?_
      refine x_cVv (pc := 2) c138_187 (dt_rf hl hq h hS c.1 c.2) (ko0 (by omega)) rfl rfl (Nat.le_of_ble_eq_true rfl) (by decide +kernel) (by decide +kernel) rfl d138_2 ?_
      refine x_iload_n (pc := 5) rfl d138_5 ?_
      refine x_cSv (pc := 6) c138_152 (dt_rt hl d.1 d.2) rfl rfl (Nat.le_of_ble_eq_true rfl) (by decide +kernel) (by decide +kernel) (by decide +kernel) rfl d138_6 ?_
      refine x_aload_n (pc := 9) rfl d138_9 ?_
      refine m_getR (pc := 10) f138_40 (by decide +kernel) (ko0 (by omega)) rr0_4 d138_10 ?_
      refine x_aload_n (pc := 13) rfl d138_13 ?_
      refine m_getR (pc := 14) f138_54 (by decide +kernel) (ko0 (by omega)) rr0_6 d138_14 ?_
      refine x_iload_n (pc := 17) rfl d138_17 ?_
      refine x_iload_n (pc := 18) rfl d138_18 ?_
      refine x_aload_n (pc := 19) rfl d138_19 ?_
      refine m_getR (pc := 20) f138_54 (by decide +kernel) (ko0 (by omega)) rr0_6 d138_20 ?_
      refine m_getI (pc := 23) (z := 0) f138_146 (by decide +kernel) rfl (ko136 (by omega)) d138_23 ?_
      refine x_cVev (pc := 26) c138_220 (ct_put hl hq (la136 (by omega)) hi.dogs hi.frames offC.rf (f := f) (t := t) c0 c9 d.1 (by omega) hb0.1 hb0.2) (ko11 (by omega)) rfl rfl (Nat.le_of_ble_eq_true rfl) (by decide +kernel) (by decide +kernel) d138_26 (fun J1 hJ1 => ?_)
      refine x_aload_n (pc := 29) rfl d138_29 ?_
      refine m_getR (pc := 30) f138_18 (by decide +kernel) (ko0 (by omega)) rr0_1 d138_30 ?_
      refine x_iconst (pc := 33) d138_33 ?_
      refine m_putI (pc := 34) (z := 1) f138_85 (by decide +kernel) (by decide +kernel) rfl (ko3 (by omega)) d138_34 ?_
      refine x_iconst (pc := 37) d138_37 ?_
      refine x_istore_n (pc := 38) (by decide +kernel) rfl d138_38 ?_
      dsimp only [List.set]
      refine x_mask [true, false, false, true] ?_
      dsimp only [mask]
      obtain ⟨j0, j1, j2, j3, j4⟩ := hJ1
      refine lp138 hl hq (cb := cabZ (SfA (gA S) f) (chA (gA S) t (gA S 0 0))) (g := gO S) (nb := (I 144 f * 8).toNat) (cabZ_r _ _) (by omega) (I 144 f * 8).toNat 0 (up2 J1 3 1 0) (by omega) up2_s (fun i i0 i1 => absurd (show i < 0 from i1) (by omega)) ?_ ?_ ?_
      · rw [up2_p (by decide), j1]; show I 144 f * 8 = (((I 144 f * 8).toNat : Nat) : Int); omega
      · intro i i0 i1
        rw [up2_p (by decide), ← e0]
        exact (j4 i i0 i1).trans (q1 i i0 (by omega))
      · intro K o0 o1 o2
        exact qc_ok ((h.offC j0).out (fun a a3 a4 a11 a12 a13 => by rw [o0 a a3 a4, up2_off' _ _ _ a3]) o1 o2) (fun a ha => by rw [o0 a (by omega) (by omega), up2_off' _ _ _ (by omega)]; exact j0 a (by omega) (by omega) (by omega))
    · rw [show isT t = false from decide_eq_false d, if_neg Bool.false_ne_true]
      refine mkct2 hl (by decide) (Nat.le_of_ble_eq_true rfl) (L := [some (.ref 0), some (.int (iI f)), some (.int (iI t)), none]) rfl ?_
      refine x_aload_n (pc := 0) rfl d138_0 ?_
      refine x_iload_n (pc := 1) rfl d138_1 ?_
      refine x_cVv (pc := 2) c138_187 (dt_rf hl hq h hS c.1 c.2) (ko0 (by omega)) rfl rfl (Nat.le_of_ble_eq_true rfl) (by decide +kernel) (by decide +kernel) rfl d138_2 ?_
      refine x_iload_n (pc := 5) rfl d138_5 ?_
      refine x_cSt (pc := 6) c138_152 (dt_rtX hl ht d) rfl rfl (Nat.le_of_ble_eq_true rfl) (by decide +kernel) (by decide +kernel) (by decide +kernel) rfl d138_6 ?_
      exact qc_no (by decide) rfl h (fun _ _ => rfl)
  · rw [show isF S f = false from decide_eq_false c, if_neg Bool.false_ne_true]
    refine mkct2 hl (by decide) (Nat.le_of_ble_eq_true rfl) (L := [some (.ref 0), some (.int (iI f)), some (.int (iI t)), none]) rfl ?_
    refine x_aload_n (pc := 0) rfl d138_0 ?_
    refine x_iload_n (pc := 1) rfl d138_1 ?_
    refine x_cVt (pc := 2) c138_187 (dt_rfX hl hq h hS hf c) (ko0 (by omega)) rfl rfl (Nat.le_of_ble_eq_true rfl) (by decide +kernel) (by decide +kernel) rfl d138_2 ?_
    exact qc_no (by decide) rfl h (fun _ _ => rfl)
end Opr4
