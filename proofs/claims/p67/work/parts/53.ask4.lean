/-! ===== the class's questions with loops ===== -/
theorem CREL.scr {I K : Nat → Int → Int} {S : GS} (h : CREL I S) (hh : ∀ a, (a < 166 ∨ 180 < a) → a ≠ 11 → a ≠ 12 → a ≠ 13 → K a = I a) (hb : BX K 166) : CREL K S :=
  ⟨h.1.cg fun a h0 h1 => hh a (by omega) (by omega) (by omega) (by omega), h.2.1.cg (hh 14 (by decide) (by decide) (by decide) (by decide)) fun a h0 h1 => hh a (by omega) (by omega) (by omega) (by omega), h.2.2.1.cg (by rw [hh 0 (by decide) (by decide) (by decide) (by decide)]) fun a h0 h1 => hh a (by omega) (by omega) (by omega) (by omega), hb, h.2.2.2.2.1.cg (hh 1 (by decide) (by decide) (by decide) (by decide)) (hh 2 (by decide) (by decide) (by decide) (by decide)), h.2.2.2.2.2.1.cg (by rw [hh 5 (by decide) (by decide) (by decide) (by decide)]) (by rw [hh 5 (by decide) (by decide) (by decide) (by decide)]), h.2.2.2.2.2.2.cg (hh 3 (by decide) (by decide) (by decide) (by decide)) (hh 4 (by decide) (by decide) (by decide) (by decide))⟩
def absZ (z : Int) : Int := if 0 ≤ z then z else -z
def impA (A : AV) : Int := absZ (A 0 10 - (A 0 11 + A 0 12 + A 0 13)) + absZ (A 0 10 - triA A) + untA A
def ckiA (A : AV) : Int := A 0 7 - (A 0 16 + 8 * A 0 10) * A 0 0 - A 0 15 - A 0 17
section Ask4
variable {l : LX} {q : Nat} {I : Nat → Int → Int} {v : Int} {S : GS}
theorem cm86 (hl : l.1.stackTraces = false) (hq : 181 ≤ q) (h : CREL I S) (hS : GOK S) {t : Int} (ht : InR t) : CT l 86 [.ref 0, .int (iI t)] (mm q I v false) 1 6 (QC q v (fun _ => 0) I (oAsk S (isT t) (b01 (chewA (gA S) t)))) := by
  have hi := h.inv hS
  have hch := chew_vc hi
  rw [h.1.1] at hch
  unfold oAsk
  by_cases d : 0 ≤ t ∧ t ≤ 999999
  · rw [show isT t = true from decide_eq_true d, if_pos rfl]
    refine mkct2 hl (by decide) (Nat.le_of_ble_eq_true rfl) (L := [some (.ref 0), some (.int (iI t))]) rfl ?_
    refine x_iload_n (pc := 0) rfl d86_0 ?_
    refine x_cSv (pc := 1) c86_152 (dt_rt hl d.1 d.2) rfl rfl (Nat.le_of_ble_eq_true rfl) (by decide +kernel) (by decide +kernel) (by decide +kernel) rfl d86_1 ?_
    refine x_aload_n (pc := 4) rfl d86_4 ?_
    refine m_getR (pc := 5) f86_54 (by decide +kernel) (ko0 (by omega)) rr0_6 d86_5 ?_
    refine m_getR (pc := 8) f86_68 (by decide +kernel) (ko136 (by omega)) rr136_10 d86_8 ?_
    refine x_iload_n (pc := 11) rfl d86_11 ?_
    refine x_cVs (pc := 12) c86_155 (dt_chewIn hl (la136 (by omega)) hi.dogs (t := t) (by omega) (by omega)) (ko139 (by omega)) rfl rfl (Nat.le_of_ble_eq_true rfl) (by decide +kernel) (by decide +kernel) rfl d86_12 ?_
    refine x_zret (pc := 15) rfl (b01_or _) (fun z => Bool.noConfusion z) d86_15 ?_
    rw [hch]; exact qc_ok h (fun _ _ => rfl)
  · rw [show isT t = false from decide_eq_false d, if_neg Bool.false_ne_true]
    refine mkct2 hl (by decide) (Nat.le_of_ble_eq_true rfl) (L := [some (.ref 0), some (.int (iI t))]) rfl ?_
    refine x_iload_n (pc := 0) rfl d86_0 ?_
    refine x_cSt (pc := 1) c86_152 (dt_rtX hl ht d) rfl rfl (Nat.le_of_ble_eq_true rfl) (by decide +kernel) (by decide +kernel) (by decide +kernel) rfl d86_1 ?_
    exact qc_no (by decide) rfl h (fun _ _ => rfl)
theorem lp_nct (hl : l.1.stackTraces = false) (hq : 181 ≤ q) (h : CREL I S) (hS : GOK S) {t : Int} (h0 : 0 ≤ t) (h1 : t ≤ 999999) {E : Int → Nat} : ∀ (m i : Nat), m + i = 1001 →
    Ex l 87 1 6 6 [some (.ref 0), some (.int (iI t)), some (.int (iI i))] [] (mm q I v false) (QC q v E I (0, fstN (chewA (gA S)) (-1) m (t + i), S)) := by
  have hi := h.inv hS
  have hch := chew_vc hi
  rw [h.1.1] at hch
  intro m
  induction m with
  | zero =>
    intro i hm
    refine x_iload_n (pc := 6) rfl d87_6 ?_
    refine x_sipush (pc := 7) (by decide) d87_7 ?_
    refine x_icmp_gt (pc := 10) (tgt := 39) ⟨by omega, by omega⟩ ⟨by omega, by omega⟩ d87_10 (by decide) (fun g10 => ?_) (fun g10 => ?_)
    · refine x_iconst (pc := 39) d87_39 ?_
      refine x_iret (pc := 40) rfl (fun z => Bool.noConfusion z) d87_40 ?_
      exact qc_ok h (fun _ _ => rfl)
    · exfalso; omega
  | succ m ih =>
    intro i hm
    refine x_iload_n (pc := 6) rfl d87_6 ?_
    refine x_sipush (pc := 7) (by decide) d87_7 ?_
    refine x_icmp_gt (pc := 10) (tgt := 39) ⟨by omega, by omega⟩ ⟨by omega, by omega⟩ d87_10 (by decide) (fun g10 => ?_) (fun g10 => ?_)
    · refine x_iconst (pc := 39) d87_39 ?_
      refine x_iret (pc := 40) rfl (fun z => Bool.noConfusion z) d87_40 ?_
      exfalso; omega
    · refine x_aload_n (pc := 13) rfl d87_13 ?_
      refine m_getR (pc := 14) f87_54 (by decide +kernel) (ko0 (by omega)) rr0_6 d87_14 ?_
      refine m_getR (pc := 17) f87_68 (by decide +kernel) (ko136 (by omega)) rr136_10 d87_17 ?_
      refine x_iload_n (pc := 20) rfl d87_20 ?_
      refine x_iload_n (pc := 21) rfl d87_21 ?_
      refine x_iadd (pc := 22) d87_22 ?_
      refine x_cVs (pc := 23) c87_155 (dt_chewIn hl (la136 (by omega)) hi.dogs (t := (t + i)) (by omega) (by omega)) (ko139 (by omega)) rfl rfl (Nat.le_of_ble_eq_true rfl) (by decide +kernel) (by decide +kernel) rfl d87_23 ?_
      refine x_ifB_eq (pc := 26) (tgt := 33) d87_26 (by decide) (fun g26 => ?_) (fun g26 => ?_)
      · refine x_iinc (pc := 33) rfl (by decide +kernel) rfl d87_33 ?_
        dsimp only [List.set]
        refine x_goto (pc := 36) (tgt := 6) d87_36 (by decide) ?_
        rw [show fstN (chewA (gA S)) (-1) (m + 1) (t + i) = fstN (chewA (gA S)) (-1) m (t + ((i + 1 : Nat) : Int)) from by rw [show t + ((i + 1 : Nat) : Int) = t + i + 1 from by omega]; exact if_neg (by rw [hch, g26]; decide)]
        exact ih (i + 1) (by omega)
      · refine x_iload_n (pc := 29) rfl d87_29 ?_
        refine x_iload_n (pc := 30) rfl d87_30 ?_
        refine x_iadd (pc := 31) d87_31 ?_
        refine x_iret (pc := 32) rfl (fun z => Bool.noConfusion z) d87_32 ?_
        rw [show fstN (chewA (gA S)) (-1) (m + 1) (t + i) = t + i from if_pos (by rw [hch]; exact g26)]
        exact qc_ok h (fun _ _ => rfl)
theorem cm87 (hl : l.1.stackTraces = false) (hq : 181 ≤ q) (h : CREL I S) (hS : GOK S) {t : Int} (ht : InR t) : CT l 87 [.ref 0, .int (iI t)] (mm q I v false) 1 6 (QC q v (fun _ => 0) I (oAsk S (isT t) (fstN (chewA (gA S)) (-1) 1001 t))) := by
  unfold oAsk
  by_cases d : 0 ≤ t ∧ t ≤ 999999
  · rw [show isT t = true from decide_eq_true d, if_pos rfl]
    refine mkct2 hl (by decide) (Nat.le_of_ble_eq_true rfl) (L := [some (.ref 0), some (.int (iI t)), none]) rfl ?_
    refine x_iload_n (pc := 0) rfl d87_0 ?_
    refine x_cSv (pc := 1) c87_152 (dt_rt hl d.1 d.2) rfl rfl (Nat.le_of_ble_eq_true rfl) (by decide +kernel) (by decide +kernel) (by decide +kernel) rfl d87_1 ?_
    refine x_iconst (pc := 4) d87_4 ?_
    refine x_istore_n (pc := 5) (by decide +kernel) rfl d87_5 ?_
    dsimp only [List.set]
    have g := lp_nct (v := v) (E := fun _ => 0) hl hq h hS d.1 d.2 1001 0 rfl
    rw [show t + ((0 : Nat) : Int) = t from Int.add_zero t] at g
    exact g
  · rw [show isT t = false from decide_eq_false d, if_neg Bool.false_ne_true]
    refine mkct2 hl (by decide) (Nat.le_of_ble_eq_true rfl) (L := [some (.ref 0), some (.int (iI t)), none]) rfl ?_
    refine x_iload_n (pc := 0) rfl d87_0 ?_
    refine x_cSt (pc := 1) c87_152 (dt_rtX hl ht d) rfl rfl (Nat.le_of_ble_eq_true rfl) (by decide +kernel) (by decide +kernel) (by decide +kernel) rfl d87_1 ?_
    exact qc_no (by decide) rfl h (fun _ _ => rfl)
theorem lp_nqt (hl : l.1.stackTraces = false) (hq : 181 ≤ q) (h : CREL I S) (hS : GOK S) {k : Int} (h0 : 1 ≤ k) (h1 : k ≤ 500) {E : Int → Nat} {en : Int} (hen : en ≤ 10000000) : ∀ (m : Nat) (t r : Int), t + m = en → 0 ≤ t → 0 ≤ r → r < k →
    Ex l 88 1 6 56 [some (.ref 0), some (.int (iI k)), some (.int (iI (t - r))), some (.int (iI r)), some (.int (iI en)), some (.int (iI t))] [] (mm q I v false) (QC q v E I (0, quiN (chewA (gA S)) k m t r, S)) := by
  have hi := h.inv hS
  have hch := chew_vc hi
  rw [h.1.1] at hch
  intro m
  induction m with
  | zero =>
    intro t r hm ht hr hrk
    refine x_iload (pc := 56) rfl d88_56 ?_
    refine x_iload (pc := 58) rfl d88_58 ?_
    refine x_icmp_ge (pc := 60) (tgt := 104) ⟨by omega, by omega⟩ ⟨by omega, by omega⟩ d88_60 (by decide) (fun g60 => ?_) (fun g60 => ?_)
    · refine x_iconst (pc := 104) d88_104 ?_
      refine x_iret (pc := 105) rfl (fun z => Bool.noConfusion z) d88_105 ?_
      exact qc_ok h (fun _ _ => rfl)
    · exfalso; omega
  | succ m ih =>
    intro t r hm ht hr hrk
    have es : quiN (chewA (gA S)) k (m + 1) t r = if (if chewA (gA S) t = true then 0 else r + 1) = k then t - k + 1 else quiN (chewA (gA S)) k m (t + 1) (if chewA (gA S) t = true then 0 else r + 1) := rfl
    refine x_iload (pc := 56) rfl d88_56 ?_
    refine x_iload (pc := 58) rfl d88_58 ?_
    refine x_icmp_ge (pc := 60) (tgt := 104) ⟨by omega, by omega⟩ ⟨by omega, by omega⟩ d88_60 (by decide) (fun g60 => ?_) (fun g60 => ?_)
    · refine x_iconst (pc := 104) d88_104 ?_
      refine x_iret (pc := 105) rfl (fun z => Bool.noConfusion z) d88_105 ?_
      exfalso; omega
    · refine x_aload_n (pc := 63) rfl d88_63 ?_
      refine m_getR (pc := 64) f88_54 (by decide +kernel) (ko0 (by omega)) rr0_6 d88_64 ?_
      refine m_getR (pc := 67) f88_68 (by decide +kernel) (ko136 (by omega)) rr136_10 d88_67 ?_
      refine x_iload (pc := 70) rfl d88_70 ?_
      refine x_cVs (pc := 72) c88_155 (dt_chewIn hl (la136 (by omega)) hi.dogs (t := t) (by omega) (by omega)) (ko139 (by omega)) rfl rfl (Nat.le_of_ble_eq_true rfl) (by decide +kernel) (by decide +kernel) rfl d88_72 ?_
      refine x_ifB_eq (pc := 75) (tgt := 88) d88_75 (by decide) (fun g75 => ?_) (fun g75 => ?_)
      · refine x_iinc (pc := 88) rfl (by decide +kernel) rfl d88_88 ?_
        dsimp only [List.set]
        refine x_iload_n (pc := 91) rfl d88_91 ?_
        refine x_iload_n (pc := 92) rfl d88_92 ?_
        refine x_icmp_ne (pc := 93) (tgt := 98) ⟨by omega, by omega⟩ ⟨by omega, by omega⟩ d88_93 (by decide) (fun g93 => ?_) (fun g93 => ?_)
        · refine x_iinc (pc := 98) rfl (by decide +kernel) rfl d88_98 ?_
          dsimp only [List.set]
          refine x_goto (pc := 101) (tgt := 56) d88_101 (by decide) ?_
          have hc : ¬ chewA (gA S) t = true := by rw [hch, g75]; decide
          rw [es, if_neg hc, if_neg g93, show t - r = t + 1 - (r + 1) from by omega]
          exact ih (t + 1) (r + 1) (by omega) (by omega) (by omega) (by omega)
        · refine x_iload_n (pc := 96) rfl d88_96 ?_
          refine x_iret (pc := 97) rfl (fun z => Bool.noConfusion z) d88_97 ?_
          have hc : ¬ chewA (gA S) t = true := by rw [hch, g75]; decide
          rw [es, if_neg hc, if_pos g93, show t - r = t - k + 1 from by omega]
          exact qc_ok h (fun _ _ => rfl)
      · refine x_iload (pc := 78) rfl d88_78 ?_
        refine x_iconst (pc := 80) d88_80 ?_
        refine x_iadd (pc := 81) d88_81 ?_
        refine x_istore_n (pc := 82) (by decide +kernel) rfl d88_82 ?_
        dsimp only [List.set]
        refine x_iconst (pc := 83) d88_83 ?_
        refine x_istore_n (pc := 84) (by decide +kernel) rfl d88_84 ?_
        dsimp only [List.set]
        refine x_goto (pc := 85) (tgt := 91) d88_85 (by decide) ?_
        refine x_iload_n (pc := 91) rfl d88_91 ?_
        refine x_iload_n (pc := 92) rfl d88_92 ?_
        refine x_icmp_ne (pc := 93) (tgt := 98) ⟨by omega, by omega⟩ ⟨by omega, by omega⟩ d88_93 (by decide) (fun g93 => ?_) (fun g93 => ?_)
        · refine x_iinc (pc := 98) rfl (by decide +kernel) rfl d88_98 ?_
          dsimp only [List.set]
          refine x_goto (pc := 101) (tgt := 56) d88_101 (by decide) ?_
          have hc : chewA (gA S) t = true := by rw [hch]; exact g75
          rw [es, if_pos hc, if_neg (by omega)]
          have g := ih (t + 1) 0 (by omega) (by omega) (by omega) (by omega)
          rw [Int.sub_zero] at g
          exact g
        · refine x_iload_n (pc := 96) rfl d88_96 ?_
          refine x_iret (pc := 97) rfl (fun z => Bool.noConfusion z) d88_97 ?_
          exfalso; omega
theorem cm88 (hl : l.1.stackTraces = false) (hq : 181 ≤ q) (h : CREL I S) (hS : GOK S) {k : Int} (hk : InR k) : CT l 88 [.ref 0, .int (iI k)] (mm q I v false) 1 6 (QC q v (fun _ => 0) I (oAsk S (decide (1 ≤ k ∧ k ≤ 500)) (quiN (chewA (gA S)) k (2000 + k).toNat (gA S 0 7) 0))) := by
  have hi := h.inv hS
  have hs := hi.sc
  have hcB : cB = 2450880 := rfl
  have e7 : I 136 4 = gA S 0 7 := by rw [← h.1.1, vr7]
  obtain ⟨hk1, hk2⟩ := hk
  unfold oAsk
  refine mkct2 hl (by decide) (Nat.le_of_ble_eq_true rfl) (L := [some (.ref 0), some (.int (iI k)), none, none, none, none]) rfl ?_
  refine x_iload_n (pc := 0) rfl d88_0 ?_
  refine x_iconst (pc := 1) d88_1 ?_
  refine x_icmp_lt (pc := 2) (tgt := 12) ⟨by omega, by omega⟩ ⟨by omega, by omega⟩ d88_2 (by decide) (fun g2 => ?_) (fun g2 => ?_)
  · refine x_throw (pc := 12) x88_12 (Nat.le_of_ble_eq_true rfl) (by decide +kernel) rfl (by decide) (by decide) rfl ?_
    rw [decide_eq_false (by omega)]; exact qc_no (by decide) rfl h (fun _ _ => rfl)
  · refine x_iload_n (pc := 5) rfl d88_5 ?_
    refine x_sipush (pc := 6) (by decide) d88_6 ?_
    refine x_icmp_le (pc := 9) (tgt := 22) ⟨by omega, by omega⟩ ⟨by omega, by omega⟩ d88_9 (by decide) (fun g9 => ?_) (fun g9 => ?_)
    · refine x_aload_n (pc := 22) rfl d88_22 ?_
      refine m_getR (pc := 23) f88_54 (by decide +kernel) (ko0 (by omega)) rr0_6 d88_23 ?_
      refine m_getI (pc := 26) (z := 4) f88_143 (by decide +kernel) rfl (ko136 (by omega)) d88_26 ?_
      refine x_val (pc := 29) (w := (gA S 0 7)) (e7) ?_
      refine x_istore_n (pc := 29) (by decide +kernel) rfl d88_29 ?_
      dsimp only [List.set]
      refine x_iconst (pc := 30) d88_30 ?_
      refine x_istore_n (pc := 31) (by decide +kernel) rfl d88_31 ?_
      dsimp only [List.set]
      refine x_aload_n (pc := 32) rfl d88_32 ?_
      refine m_getR (pc := 33) f88_54 (by decide +kernel) (ko0 (by omega)) rr0_6 d88_33 ?_
      refine m_getI (pc := 36) (z := 4) f88_143 (by decide +kernel) rfl (ko136 (by omega)) d88_36 ?_
      refine x_val (pc := 39) (w := (gA S 0 7)) (e7) ?_
      refine x_sipush (pc := 39) (by decide) d88_39 ?_
      refine x_iadd (pc := 42) d88_42 ?_
      refine x_iload_n (pc := 43) rfl d88_43 ?_
      refine x_iadd (pc := 44) d88_44 ?_
      refine x_istore (pc := 45) (by decide +kernel) rfl d88_45 ?_
      dsimp only [List.set]
      refine x_aload_n (pc := 47) rfl d88_47 ?_
      refine m_getR (pc := 48) f88_54 (by decide +kernel) (ko0 (by omega)) rr0_6 d88_48 ?_
      refine m_getI (pc := 51) (z := 4) f88_143 (by decide +kernel) rfl (ko136 (by omega)) d88_51 ?_
      refine x_val (pc := 54) (w := (gA S 0 7)) (e7) ?_
      refine x_istore (pc := 54) (by decide +kernel) rfl d88_54 ?_
      dsimp only [List.set]
      rw [decide_eq_true (by omega), if_pos rfl]
      have g := lp_nqt (v := v) (E := fun _ => 0) hl hq h hS (k := k) (by omega) (by omega) (en := gA S 0 7 + 2000 + k) (by omega) (2000 + k).toNat (gA S 0 7) 0 (by omega) (by omega) (by omega) (by omega)
      rw [Int.sub_zero] at g
      exact g
    · refine x_throw (pc := 12) x88_12 (Nat.le_of_ble_eq_true rfl) (by decide +kernel) rfl (by decide) (by decide) rfl ?_
      rw [decide_eq_false (by omega)]; exact qc_no (by decide) rfl h (fun _ _ => rfl)
theorem cm113 (hl : l.1.stackTraces = false) (hq : 181 ≤ q) (h : CREL I S) (hS : GOK S) {E : Int → Nat} : CT l 113 [.ref 0] (mm q I v false) 1 6 (QC q v E I (0, pendA (gA S), S)) := by
  have hi := h.inv hS
  refine mkct2 hl (by decide) (Nat.le_of_ble_eq_true rfl) (L := [some (.ref 0)]) rfl ?_
  refine x_aload_n (pc := 0) rfl d113_0 ?_
  refine m_getR (pc := 1) f113_54 (by decide +kernel) (ko0 (by omega)) rr0_6 d113_1 ?_
  refine m_getR (pc := 4) f113_180 (by decide +kernel) (ko136 (by omega)) rr136_11 d113_4 ?_
  refine x_cVs (pc := 7) c113_256 (dt_pend hl (la136 (by omega)) hi) (ko143 (by omega)) rfl rfl (Nat.le_of_ble_eq_true rfl) (by decide +kernel) (by decide +kernel) rfl d113_7 ?_
  refine x_iret (pc := 10) rfl (fun z => Bool.noConfusion z) d113_10 ?_
  rw [h.1.1]; exact qc_ok h (fun _ _ => rfl)
theorem atT_cg {T U : Int → Int} {n i : Int} (hT : ∀ i, 0 ≤ i → i < n → T i = U i) : atT T n i = atT U n i := by
  unfold atT
  split
  · exact hT i (by omega) (by omega)
  · rfl
theorem cm115 (hl : l.1.stackTraces = false) (hq : 181 ≤ q) (h : CREL I S) (hS : GOK S) {E : Int → Nat} : CT l 115 [.ref 0] (mm q I v false) 1 6 (QC q v E I (0, (mkS 432 (gA S)).1, S)) := by
  have hi := h.inv hS
  refine mkct2 hl (by decide) (Nat.le_of_ble_eq_true rfl) (L := [some (.ref 0)]) rfl ?_
  refine x_aload_n (pc := 0) rfl d115_0 ?_
  refine m_getR (pc := 1) f115_61 (by decide +kernel) (ko0 (by omega)) rr0_8 d115_1 ?_
  refine x_aload_n (pc := 4) rfl d115_4 ?_
  refine m_getR (pc := 5) f115_54 (by decide +kernel) (ko0 (by omega)) rr0_6 d115_5 ?_
  refine x_cVev (pc := 8) c115_114 (ct_copyV hl (la166 (by omega)) (la136 (by omega)) (by decide) hi) (ko166 (by omega)) rfl rfl (Nat.le_of_ble_eq_true rfl) (by decide +kernel) (by decide +kernel) d115_8 (fun J1 hJ1 => ?_)
  refine x_aload_n (pc := 11) rfl d115_11 ?_
  refine m_getR (pc := 12) f115_61 (by decide +kernel) (ko0 (by omega)) rr0_8 d115_12 ?_
  refine x_sipush (pc := 15) (by decide) d115_15 ?_
  refine x_aload_n (pc := 18) rfl d115_18 ?_
  refine m_getR (pc := 19) f115_40 (by decide +kernel) (ko0 (by omega)) rr0_4 d115_19 ?_
  have hi1 : CINV J1 166 cB := ⟨by rw [hJ1.2.1]; exact hi.1, hJ1.2.2⟩
  refine x_cVes (pc := 22) c115_263 (ct_make hl hq (la166 (by omega)) hi1 (n := 432) (by decide) (by decide)) (ko166 (by omega)) rfl rfl (Nat.le_of_ble_eq_true rfl) (by decide +kernel) (by decide +kernel) d115_22 (fun J2 hJ2 => ?_)
  refine x_iret (pc := 25) rfl (fun z => Bool.noConfusion z) d115_25 ?_
  rw [hJ1.2.1, h.1.1]
  exact qc_ok (h.scr (fun a a0 a1 a2 a3 => by rw [hJ2.1 a (by omega) a1 a2 a3, hJ1.1 a (by omega)]) hJ2.2.2.1) (fun a ha => by rw [hJ2.1 a (by omega) (by omega) (by omega) (by omega), hJ1.1 a (by omega)])
theorem cm116 (hl : l.1.stackTraces = false) (hq : 181 ≤ q) (h : CREL I S) (hS : GOK S) {E : Int → Nat} : CT l 116 [.ref 0] (mm q I v false) 1 6 (QC q v E I (0, (mkS 432 (gA S)).2 0 7, S)) := by
  have hi := h.inv hS
  refine mkct2 hl (by decide) (Nat.le_of_ble_eq_true rfl) (L := [some (.ref 0)]) rfl ?_
  refine x_aload_n (pc := 0) rfl d116_0 ?_
  refine m_getR (pc := 1) f116_61 (by decide +kernel) (ko0 (by omega)) rr0_8 d116_1 ?_
  refine x_aload_n (pc := 4) rfl d116_4 ?_
  refine m_getR (pc := 5) f116_54 (by decide +kernel) (ko0 (by omega)) rr0_6 d116_5 ?_
  refine x_cVev (pc := 8) c116_114 (ct_copyV hl (la166 (by omega)) (la136 (by omega)) (by decide) hi) (ko166 (by omega)) rfl rfl (Nat.le_of_ble_eq_true rfl) (by decide +kernel) (by decide +kernel) d116_8 (fun J1 hJ1 => ?_)
  refine x_aload_n (pc := 11) rfl d116_11 ?_
  refine m_getR (pc := 12) f116_61 (by decide +kernel) (ko0 (by omega)) rr0_8 d116_12 ?_
  refine x_sipush (pc := 15) (by decide) d116_15 ?_
  refine x_aload_n (pc := 18) rfl d116_18 ?_
  refine m_getR (pc := 19) f116_40 (by decide +kernel) (ko0 (by omega)) rr0_4 d116_19 ?_
  have hi1 : CINV J1 166 cB := ⟨by rw [hJ1.2.1]; exact hi.1, hJ1.2.2⟩
  refine x_cVes (pc := 22) c116_263 (ct_make hl hq (la166 (by omega)) hi1 (n := 432) (by decide) (by decide)) (ko166 (by omega)) rfl rfl (Nat.le_of_ble_eq_true rfl) (by decide +kernel) (by decide +kernel) d116_22 (fun J2 hJ2 => ?_)
  refine x_pop (pc := 25) rfl d116_25 ?_
  refine x_aload_n (pc := 26) rfl d116_26 ?_
  refine m_getR (pc := 27) f116_61 (by decide +kernel) (ko0 (by omega)) rr0_8 d116_27 ?_
  refine m_getI (pc := 30) (z := 4) f116_143 (by decide +kernel) rfl (ko166 (by omega)) d116_30 ?_
  refine x_iret (pc := 33) rfl (fun z => Bool.noConfusion z) d116_33 ?_
  rw [show J2 166 4 = (mkS 432 (gA S)).2 0 7 from by rw [← h.1.1, ← hJ1.2.1, ← hJ2.2.1, vr7]]
  exact qc_ok (h.scr (fun a a0 a1 a2 a3 => by rw [hJ2.1 a (by omega) a1 a2 a3, hJ1.1 a (by omega)]) hJ2.2.2.1) (fun a ha => by rw [hJ2.1 a (by omega) (by omega) (by omega) (by omega), hJ1.1 a (by omega)])
theorem tri_b {A : AV} {c : Int} (h : AINV A c) : 0 ≤ triA A ∧ triA A ≤ 432 := by
  have hf := h.fr; have hm := h.ms
  have := sumF_b (g := A 8) (z := 9) (by decide) (A 0 6).toNat (fun i h0 h1 => (h.frm i h0 (by omega)).2.2.1)
  unfold triA
  omega
theorem cm123 (hl : l.1.stackTraces = false) (hq : 181 ≤ q) (h : CREL I S) (hS : GOK S) {E : Int → Nat} : CT l 123 [.ref 0] (mm q I v false) 1 6 (QC q v E I (0, impA (gA S), S)) := by
  have hi := h.inv hS
  have hs := hi.sc
  have hcB : cB = 2450880 := rfl
  have ht := tri_b hi.1
  have k0 : 0 ≤ I 150 0 ∧ I 150 0 ≤ I 136 4 := hi.ct 0 (by decide)
  have k1 : 0 ≤ I 150 1 ∧ I 150 1 ≤ I 136 4 := hi.ct 1 (by decide)
  have k2 : 0 ≤ I 150 2 ∧ I 150 2 ≤ I 136 4 := hi.ct 2 (by decide)
  have k3 : 0 ≤ I 150 3 ∧ I 150 3 ≤ I 136 4 := hi.ct 3 (by decide)
  have e0 : gA S 0 10 = I 150 0 := by rw [← h.1.1, vr10]
  have e1 : gA S 0 11 = I 150 1 := by rw [← h.1.1, vr11]
  have e2 : gA S 0 12 = I 150 2 := by rw [← h.1.1, vr12]
  have e3 : gA S 0 13 = I 150 3 := by rw [← h.1.1, vr13]
  have e9 : impA (gA S) = (if 0 ≤ I 150 0 - (I 150 1 + I 150 2 + I 150 3) then I 150 0 - (I 150 1 + I 150 2 + I 150 3) else -(I 150 0 - (I 150 1 + I 150 2 + I 150 3))) + (if 0 ≤ I 150 0 - triA (Vc I 136) then I 150 0 - triA (Vc I 136) else -(I 150 0 - triA (Vc I 136))) + untA (Vc I 136) := by unfold impA absZ; rw [e0, e1, e2, e3, h.1.1]
  rw [e9]
  refine mkct2 hl (by decide) (Nat.le_of_ble_eq_true rfl) (L := [some (.ref 0), none, none]) rfl ?_
  refine x_aload_n (pc := 0) rfl d123_0 ?_
  refine m_getR (pc := 1) f123_54 (by decide +kernel) (ko0 (by omega)) rr0_6 d123_1 ?_
  refine m_getR (pc := 4) f123_267 (by decide +kernel) (ko136 (by omega)) rr136_12 d123_4 ?_
  refine x_astore_n (pc := 7) (by decide +kernel) rfl d123_7 ?_
  dsimp only [List.set]
  refine x_aload_n (pc := 8) rfl d123_8 ?_
  refine m_getI (pc := 9) (z := 1) f123_276 (by decide +kernel) rfl (ko150 (by omega)) d123_9 ?_
  refine x_aload_n (pc := 12) rfl d123_12 ?_
  refine m_getI (pc := 13) (z := 2) f123_279 (by decide +kernel) rfl (ko150 (by omega)) d123_13 ?_
  refine x_iadd (pc := 16) d123_16 ?_
  refine x_aload_n (pc := 17) rfl d123_17 ?_
  refine m_getI (pc := 18) (z := 3) f123_289 (by decide +kernel) rfl (ko150 (by omega)) d123_18 ?_
  refine x_iadd (pc := 21) d123_21 ?_
  refine x_istore_n (pc := 22) (by decide +kernel) rfl d123_22 ?_
  dsimp only [List.set]
  refine x_aload_n (pc := 23) rfl d123_23 ?_
  refine m_getI (pc := 24) (z := 0) f123_271 (by decide +kernel) rfl (ko150 (by omega)) d123_24 ?_
  refine x_iload_n (pc := 27) rfl d123_27 ?_
  refine x_isub (pc := 28) d123_28 ?_
  refine x_abs (pc := 29) ⟨by omega, by omega⟩ c123_291 (by decide +kernel) (Nat.le_of_ble_eq_true rfl) d123_29 ?_
  refine x_aload_n (pc := 32) rfl d123_32 ?_
  refine m_getI (pc := 33) (z := 0) f123_271 (by decide +kernel) rfl (ko150 (by omega)) d123_33 ?_
  refine x_aload_n (pc := 36) rfl d123_36 ?_
  refine m_getR (pc := 37) f123_54 (by decide +kernel) (ko0 (by omega)) rr0_6 d123_37 ?_
  refine m_getR (pc := 40) f123_180 (by decide +kernel) (ko136 (by omega)) rr136_11 d123_40 ?_
  refine x_cVs (pc := 43) c123_296 (dt_tries hl (la136 (by omega)) hi) (ko143 (by omega)) rfl rfl (Nat.le_of_ble_eq_true rfl) (by decide +kernel) (by decide +kernel) rfl d123_43 ?_
  refine x_isub (pc := 46) d123_46 ?_
  refine x_abs (pc := 47) ⟨by omega, by omega⟩ c123_291 (by decide +kernel) (Nat.le_of_ble_eq_true rfl) d123_47 ?_
  refine x_iadd (pc := 50) d123_50 ?_
  refine x_aload_n (pc := 51) rfl d123_51 ?_
  refine m_getR (pc := 52) f123_54 (by decide +kernel) (ko0 (by omega)) rr0_6 d123_52 ?_
  refine m_getR (pc := 55) f123_180 (by decide +kernel) (ko136 (by omega)) rr136_11 d123_55 ?_
  refine x_cVs (pc := 58) c123_299 (dt_unt hl (la136 (by omega)) hi) (ko143 (by omega)) rfl rfl (Nat.le_of_ble_eq_true rfl) (by decide +kernel) (by decide +kernel) rfl d123_58 ?_
  refine x_iadd (pc := 61) d123_61 ?_
  refine x_iret (pc := 62) rfl (fun z => Bool.noConfusion z) d123_62 ?_
  exact qc_ok h (fun _ _ => rfl)
theorem cm124 (hl : l.1.stackTraces = false) (hq : 181 ≤ q) (h : CREL I S) (hS : GOK S) {E : Int → Nat} : CT l 124 [.ref 0] (mm q I v false) 1 6 (QC q v E I (0, ckiA (gA S), S)) := by
  have hi := h.inv hS
  have e9 : ckiA (gA S) = I 136 4 - I 150 6 - I 150 7 - I 150 8 := by
    have := hi.2.2.2
    unfold ckiA
    rw [← h.1.1, vr7, vr16, vr10, vr0, vr15, vr17, ← this]
  rw [e9]
  refine mkct2 hl (by decide) (Nat.le_of_ble_eq_true rfl) (L := [some (.ref 0), none]) rfl ?_
  refine x_aload_n (pc := 0) rfl d124_0 ?_
  refine m_getR (pc := 1) f124_54 (by decide +kernel) (ko0 (by omega)) rr0_6 d124_1 ?_
  refine m_getR (pc := 4) f124_267 (by decide +kernel) (ko136 (by omega)) rr136_12 d124_4 ?_
  refine x_astore_n (pc := 7) (by decide +kernel) rfl d124_7 ?_
  dsimp only [List.set]
  refine x_aload_n (pc := 8) rfl d124_8 ?_
  refine m_getR (pc := 9) f124_54 (by decide +kernel) (ko0 (by omega)) rr0_6 d124_9 ?_
  refine m_getI (pc := 12) (z := 4) f124_143 (by decide +kernel) rfl (ko136 (by omega)) d124_12 ?_
  refine x_aload_n (pc := 15) rfl d124_15 ?_
  refine m_getI (pc := 16) (z := 6) f124_302 (by decide +kernel) rfl (ko150 (by omega)) d124_16 ?_
  refine x_isub (pc := 19) d124_19 ?_
  refine x_aload_n (pc := 20) rfl d124_20 ?_
  refine m_getI (pc := 21) (z := 7) f124_285 (by decide +kernel) rfl (ko150 (by omega)) d124_21 ?_
  refine x_isub (pc := 24) d124_24 ?_
  refine x_aload_n (pc := 25) rfl d124_25 ?_
  refine m_getI (pc := 26) (z := 8) f124_305 (by decide +kernel) rfl (ko150 (by omega)) d124_26 ?_
  refine x_isub (pc := 29) d124_29 ?_
  refine x_iret (pc := 30) rfl (fun z => Bool.noConfusion z) d124_30 ?_
  exact qc_ok h (fun _ _ => rfl)
end Ask4
