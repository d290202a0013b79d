/-! ===== the class's questions ===== -/
section Ask
variable {l : LX} {q : Nat} {I : Nat → Int → Int} {v : Int} {S : GS}
theorem cm82 (hl : l.1.stackTraces = false) (hq : 181 ≤ q) (h : CREL I S) {E : Int → Nat} : CT l 82 [.ref 0] (mm q I v false) 1 6 (QC q v E I (0, gA S 0 7, S)) := by
  have e : I 136 4 = gA S 0 7 := by rw [← h.1.1, vr7]
  refine mkct2 hl (by decide) (Nat.le_of_ble_eq_true rfl) (L := [some (.ref 0)]) rfl ?_
  refine x_aload_n (pc := 0) rfl d82_0 ?_
  refine m_getR (pc := 1) f82_54 (by decide +kernel) (ko0 (by omega)) rr0_6 d82_1 ?_
  refine m_getI (pc := 4) (z := 4) f82_143 (by decide +kernel) rfl (ko136 (by omega)) d82_4 ?_
  refine x_iret (pc := 7) rfl (fun z => Bool.noConfusion z) d82_7 ?_
  rw [e]; exact qc_ok h (fun _ _ => rfl)
theorem cm83 (hl : l.1.stackTraces = false) (hq : 181 ≤ q) (h : CREL I S) {E : Int → Nat} : CT l 83 [.ref 0] (mm q I v false) 1 6 (QC q v E I (0, gA S 0 0, S)) := by
  have e : I 136 0 = gA S 0 0 := by rw [← h.1.1, vr0]
  refine mkct2 hl (by decide) (Nat.le_of_ble_eq_true rfl) (L := [some (.ref 0)]) rfl ?_
  refine x_aload_n (pc := 0) rfl d83_0 ?_
  refine m_getR (pc := 1) f83_54 (by decide +kernel) (ko0 (by omega)) rr0_6 d83_1 ?_
  refine m_getI (pc := 4) (z := 0) f83_146 (by decide +kernel) rfl (ko136 (by omega)) d83_4 ?_
  refine x_iret (pc := 7) rfl (fun z => Bool.noConfusion z) d83_7 ?_
  rw [e]; exact qc_ok h (fun _ _ => rfl)
theorem cm84 (hl : l.1.stackTraces = false) (hq : 181 ≤ q) (h : CREL I S) {E : Int → Nat} : CT l 84 [.ref 0] (mm q I v false) 1 6 (QC q v E I (0, gA S 0 1, S)) := by
  have e : I 136 1 = gA S 0 1 := by rw [← h.1.1, vr1]
  refine mkct2 hl (by decide) (Nat.le_of_ble_eq_true rfl) (L := [some (.ref 0)]) rfl ?_
  refine x_aload_n (pc := 0) rfl d84_0 ?_
  refine m_getR (pc := 1) f84_54 (by decide +kernel) (ko0 (by omega)) rr0_6 d84_1 ?_
  refine m_getI (pc := 4) (z := 1) f84_149 (by decide +kernel) rfl (ko136 (by omega)) d84_4 ?_
  refine x_iret (pc := 7) rfl (fun z => Bool.noConfusion z) d84_7 ?_
  rw [e]; exact qc_ok h (fun _ _ => rfl)
theorem cm85 (hl : l.1.stackTraces = false) (hq : 181 ≤ q) (h : CREL I S) {E : Int → Nat} : CT l 85 [.ref 0] (mm q I v false) 1 6 (QC q v E I (0, gA S 0 4, S)) := by
  have e : I 139 0 = gA S 0 4 := by rw [← h.1.1, vr4]
  refine mkct2 hl (by decide) (Nat.le_of_ble_eq_true rfl) (L := [some (.ref 0)]) rfl ?_
  refine x_aload_n (pc := 0) rfl d85_0 ?_
  refine m_getR (pc := 1) f85_54 (by decide +kernel) (ko0 (by omega)) rr0_6 d85_1 ?_
  refine m_getR (pc := 4) f85_68 (by decide +kernel) (ko136 (by omega)) rr136_10 d85_4 ?_
  refine m_getI (pc := 7) (z := 0) f85_121 (by decide +kernel) rfl (ko139 (by omega)) d85_7 ?_
  refine x_iret (pc := 10) rfl (fun z => Bool.noConfusion z) d85_10 ?_
  rw [e]; exact qc_ok h (fun _ _ => rfl)
theorem cm90 (hl : l.1.stackTraces = false) (hq : 181 ≤ q) (h : CREL I S) {E : Int → Nat} : CT l 90 [.ref 0] (mm q I v false) 1 6 (QC q v E I (0, gA S 0 5, S)) := by
  have e : I 136 7 = gA S 0 5 := by rw [← h.1.1, vr5]
  refine mkct2 hl (by decide) (Nat.le_of_ble_eq_true rfl) (L := [some (.ref 0)]) rfl ?_
  refine x_aload_n (pc := 0) rfl d90_0 ?_
  refine m_getR (pc := 1) f90_54 (by decide +kernel) (ko0 (by omega)) rr0_6 d90_1 ?_
  refine m_getI (pc := 4) (z := 7) f90_164 (by decide +kernel) rfl (ko136 (by omega)) d90_4 ?_
  refine x_iret (pc := 7) rfl (fun z => Bool.noConfusion z) d90_7 ?_
  rw [e]; exact qc_ok h (fun _ _ => rfl)
theorem cm94 (hl : l.1.stackTraces = false) (hq : 181 ≤ q) (h : CREL I S) {E : Int → Nat} : CT l 94 [.ref 0] (mm q I v false) 1 6 (QC q v E I (0, gA S 0 6, S)) := by
  have e : I 143 0 = gA S 0 6 := by rw [← h.1.1, vr6]
  refine mkct2 hl (by decide) (Nat.le_of_ble_eq_true rfl) (L := [some (.ref 0)]) rfl ?_
  refine x_aload_n (pc := 0) rfl d94_0 ?_
  refine m_getR (pc := 1) f94_54 (by decide +kernel) (ko0 (by omega)) rr0_6 d94_1 ?_
  refine m_getR (pc := 4) f94_180 (by decide +kernel) (ko136 (by omega)) rr136_11 d94_4 ?_
  refine m_getI (pc := 7) (z := 0) f94_184 (by decide +kernel) rfl (ko143 (by omega)) d94_7 ?_
  refine x_iret (pc := 10) rfl (fun z => Bool.noConfusion z) d94_10 ?_
  rw [e]; exact qc_ok h (fun _ _ => rfl)
theorem cm114 (hl : l.1.stackTraces = false) (hq : 181 ≤ q) (h : CREL I S) {E : Int → Nat} : CT l 114 [.ref 0] (mm q I v false) 1 6 (QC q v E I (0, gA S 0 8, S)) := by
  have e : I 136 5 = gA S 0 8 := by rw [← h.1.1, vr8]
  refine mkct2 hl (by decide) (Nat.le_of_ble_eq_true rfl) (L := [some (.ref 0)]) rfl ?_
  refine x_aload_n (pc := 0) rfl d114_0 ?_
  refine m_getR (pc := 1) f114_54 (by decide +kernel) (ko0 (by omega)) rr0_6 d114_1 ?_
  refine m_getI (pc := 4) (z := 5) f114_260 (by decide +kernel) rfl (ko136 (by omega)) d114_4 ?_
  refine x_iret (pc := 7) rfl (fun z => Bool.noConfusion z) d114_7 ?_
  rw [e]; exact qc_ok h (fun _ _ => rfl)
theorem cm117 (hl : l.1.stackTraces = false) (hq : 181 ≤ q) (h : CREL I S) {E : Int → Nat} : CT l 117 [.ref 0] (mm q I v false) 1 6 (QC q v E I (0, gA S 0 10, S)) := by
  have e : I 150 0 = gA S 0 10 := by rw [← h.1.1, vr10]
  refine mkct2 hl (by decide) (Nat.le_of_ble_eq_true rfl) (L := [some (.ref 0)]) rfl ?_
  refine x_aload_n (pc := 0) rfl d117_0 ?_
  refine m_getR (pc := 1) f117_54 (by decide +kernel) (ko0 (by omega)) rr0_6 d117_1 ?_
  refine m_getR (pc := 4) f117_267 (by decide +kernel) (ko136 (by omega)) rr136_12 d117_4 ?_
  refine m_getI (pc := 7) (z := 0) f117_271 (by decide +kernel) rfl (ko150 (by omega)) d117_7 ?_
  refine x_iret (pc := 10) rfl (fun z => Bool.noConfusion z) d117_10 ?_
  rw [e]; exact qc_ok h (fun _ _ => rfl)
theorem cm118 (hl : l.1.stackTraces = false) (hq : 181 ≤ q) (h : CREL I S) {E : Int → Nat} : CT l 118 [.ref 0] (mm q I v false) 1 6 (QC q v E I (0, gA S 0 11, S)) := by
  have e : I 150 1 = gA S 0 11 := by rw [← h.1.1, vr11]
  refine mkct2 hl (by decide) (Nat.le_of_ble_eq_true rfl) (L := [some (.ref 0)]) rfl ?_
  refine x_aload_n (pc := 0) rfl d118_0 ?_
  refine m_getR (pc := 1) f118_54 (by decide +kernel) (ko0 (by omega)) rr0_6 d118_1 ?_
  refine m_getR (pc := 4) f118_267 (by decide +kernel) (ko136 (by omega)) rr136_12 d118_4 ?_
  refine m_getI (pc := 7) (z := 1) f118_276 (by decide +kernel) rfl (ko150 (by omega)) d118_7 ?_
  refine x_iret (pc := 10) rfl (fun z => Bool.noConfusion z) d118_10 ?_
  rw [e]; exact qc_ok h (fun _ _ => rfl)
theorem cm119 (hl : l.1.stackTraces = false) (hq : 181 ≤ q) (h : CREL I S) {E : Int → Nat} : CT l 119 [.ref 0] (mm q I v false) 1 6 (QC q v E I (0, gA S 0 12, S)) := by
  have e : I 150 2 = gA S 0 12 := by rw [← h.1.1, vr12]
  refine mkct2 hl (by decide) (Nat.le_of_ble_eq_true rfl) (L := [some (.ref 0)]) rfl ?_
  refine x_aload_n (pc := 0) rfl d119_0 ?_
  refine m_getR (pc := 1) f119_54 (by decide +kernel) (ko0 (by omega)) rr0_6 d119_1 ?_
  refine m_getR (pc := 4) f119_267 (by decide +kernel) (ko136 (by omega)) rr136_12 d119_4 ?_
  refine m_getI (pc := 7) (z := 2) f119_279 (by decide +kernel) rfl (ko150 (by omega)) d119_7 ?_
  refine x_iret (pc := 10) rfl (fun z => Bool.noConfusion z) d119_10 ?_
  rw [e]; exact qc_ok h (fun _ _ => rfl)
theorem cm120 (hl : l.1.stackTraces = false) (hq : 181 ≤ q) (h : CREL I S) {E : Int → Nat} : CT l 120 [.ref 0] (mm q I v false) 1 6 (QC q v E I (0, gA S 0 14, S)) := by
  have e : I 150 4 = gA S 0 14 := by rw [← h.1.1, vr14]
  refine mkct2 hl (by decide) (Nat.le_of_ble_eq_true rfl) (L := [some (.ref 0)]) rfl ?_
  refine x_aload_n (pc := 0) rfl d120_0 ?_
  refine m_getR (pc := 1) f120_54 (by decide +kernel) (ko0 (by omega)) rr0_6 d120_1 ?_
  refine m_getR (pc := 4) f120_267 (by decide +kernel) (ko136 (by omega)) rr136_12 d120_4 ?_
  refine m_getI (pc := 7) (z := 4) f120_282 (by decide +kernel) rfl (ko150 (by omega)) d120_7 ?_
  refine x_iret (pc := 10) rfl (fun z => Bool.noConfusion z) d120_10 ?_
  rw [e]; exact qc_ok h (fun _ _ => rfl)
theorem cm121 (hl : l.1.stackTraces = false) (hq : 181 ≤ q) (h : CREL I S) {E : Int → Nat} : CT l 121 [.ref 0] (mm q I v false) 1 6 (QC q v E I (0, gA S 0 15, S)) := by
  have e : I 150 7 = gA S 0 15 := by rw [← h.1.1, vr15]
  refine mkct2 hl (by decide) (Nat.le_of_ble_eq_true rfl) (L := [some (.ref 0)]) rfl ?_
  refine x_aload_n (pc := 0) rfl d121_0 ?_
  refine m_getR (pc := 1) f121_54 (by decide +kernel) (ko0 (by omega)) rr0_6 d121_1 ?_
  refine m_getR (pc := 4) f121_267 (by decide +kernel) (ko136 (by omega)) rr136_12 d121_4 ?_
  refine m_getI (pc := 7) (z := 7) f121_285 (by decide +kernel) rfl (ko150 (by omega)) d121_7 ?_
  refine x_iret (pc := 10) rfl (fun z => Bool.noConfusion z) d121_10 ?_
  rw [e]; exact qc_ok h (fun _ _ => rfl)
theorem cm122 (hl : l.1.stackTraces = false) (hq : 181 ≤ q) (h : CREL I S) {E : Int → Nat} : CT l 122 [.ref 0] (mm q I v false) 1 6 (QC q v E I (0, gA S 0 16, S)) := by
  have e : I 150 5 = gA S 0 16 := by rw [← h.1.1, vr16]
  refine mkct2 hl (by decide) (Nat.le_of_ble_eq_true rfl) (L := [some (.ref 0)]) rfl ?_
  refine x_aload_n (pc := 0) rfl d122_0 ?_
  refine m_getR (pc := 1) f122_54 (by decide +kernel) (ko0 (by omega)) rr0_6 d122_1 ?_
  refine m_getR (pc := 4) f122_267 (by decide +kernel) (ko136 (by omega)) rr136_12 d122_4 ?_
  refine m_getI (pc := 7) (z := 5) f122_288 (by decide +kernel) rfl (ko150 (by omega)) d122_7 ?_
  refine x_iret (pc := 10) rfl (fun z => Bool.noConfusion z) d122_10 ?_
  rw [e]; exact qc_ok h (fun _ _ => rfl)
theorem dt_rf (hl : l.1.stackTraces = false) (hq : 181 ≤ q) (h : CREL I S) (hS : GOK S) {f : Int} (h0 : 0 ≤ f) (h1 : f < gA S 0 6) : DT l 140 [.ref 0, .int (iI f)] (mm q I v false) 0 0 (.inl none, mm q I v false) := by
  have hi := (h.inv hS).sc
  have e : I 143 0 = gA S 0 6 := by rw [← h.1.1, vr6]
  have hi2 : 0 ≤ I 143 0 ∧ I 143 0 ≤ 4 * I 136 7 := hi.2.2.2.2.2.2.1
  have hi3 := hi.2.2.2.2.2.1
  refine mkdt hl (by decide) (Nat.le_of_ble_eq_true rfl) (L := [some (.ref 0), some (.int (iI f))]) rfl ?_
  refine x_iload_n (pc := 0) rfl d140_0 ?_
  refine x_if_lt (pc := 1) (tgt := 18) ⟨by omega, by omega⟩ d140_1 (by decide) (fun g1 => ?_) (fun g1 => ?_)
  · refine x_mask [false, false] ?_
    dsimp only [mask]
    exfalso; omega
  · refine x_iload_n (pc := 4) rfl d140_4 ?_
    refine x_aload_n (pc := 5) rfl d140_5 ?_
    refine m_getR (pc := 6) f140_54 (by decide +kernel) (ko0 (by omega)) rr0_6 d140_6 ?_
    refine m_getR (pc := 9) f140_180 (by decide +kernel) (ko136 (by omega)) rr136_11 d140_9 ?_
    refine m_getI (pc := 12) (z := 0) f140_184 (by decide +kernel) rfl (ko143 (by omega)) d140_12 ?_
    refine x_icmp_lt (pc := 15) (tgt := 29) ⟨by omega, by omega⟩ ⟨by omega, by omega⟩ d140_15 (by decide) (fun g15 => ?_) (fun g15 => ?_)
    · refine x_vret (pc := 29) rfl (fun z => Bool.noConfusion z) d140_29 ?_
      rfl
    · refine x_mask [false, false] ?_
      dsimp only [mask]
      exfalso; omega
theorem dt_rfX (hl : l.1.stackTraces = false) (hq : 181 ≤ q) (h : CREL I S) (hS : GOK S) {f : Int} (hf : InR f) (h1 : ¬ (0 ≤ f ∧ f < gA S 0 6)) : DT l 140 [.ref 0, .int (iI f)] (mm q I v false) 1 6 (.inr 2, mm q I v false) := by
  have hi := (h.inv hS).sc
  have e : I 143 0 = gA S 0 6 := by rw [← h.1.1, vr6]
  have hi2 : 0 ≤ I 143 0 ∧ I 143 0 ≤ 4 * I 136 7 := hi.2.2.2.2.2.2.1
  have hi3 := hi.2.2.2.2.2.1
  obtain ⟨hf1, hf2⟩ := hf
  refine mkdt hl (by decide) (Nat.le_of_ble_eq_true rfl) (L := [some (.ref 0), some (.int (iI f))]) rfl ?_
  refine x_iload_n (pc := 0) rfl d140_0 ?_
  refine x_if_lt (pc := 1) (tgt := 18) ⟨by omega, by omega⟩ d140_1 (by decide) (fun g1 => ?_) (fun g1 => ?_)
  · refine x_throw (pc := 18) x140_18 (Nat.le_of_ble_eq_true rfl) (by decide +kernel) rfl (by decide) (by decide) rfl ?_
    first | rfl | (exfalso; omega)
  · refine x_iload_n (pc := 4) rfl d140_4 ?_
    refine x_aload_n (pc := 5) rfl d140_5 ?_
    refine m_getR (pc := 6) f140_54 (by decide +kernel) (ko0 (by omega)) rr0_6 d140_6 ?_
    refine m_getR (pc := 9) f140_180 (by decide +kernel) (ko136 (by omega)) rr136_11 d140_9 ?_
    refine m_getI (pc := 12) (z := 0) f140_184 (by decide +kernel) rfl (ko143 (by omega)) d140_12 ?_
    refine x_icmp_lt (pc := 15) (tgt := 29) ⟨by omega, by omega⟩ ⟨by omega, by omega⟩ d140_15 (by decide) (fun g15 => ?_) (fun g15 => ?_)
    · refine x_vret (pc := 29) rfl (fun z => Bool.noConfusion z) d140_29 ?_
      first | rfl | (exfalso; omega)
    · refine x_throw (pc := 18) x140_18 (Nat.le_of_ble_eq_true rfl) (by decide +kernel) rfl (by decide) (by decide) rfl ?_
      first | rfl | (exfalso; omega)
theorem dt_rm (hl : l.1.stackTraces = false) (hq : 181 ≤ q) (h : CREL I S) (hS : GOK S) {f : Int} (h0 : 0 ≤ f) (h1 : f < gA S 0 5) : DT l 141 [.ref 0, .int (iI f)] (mm q I v false) 0 0 (.inl none, mm q I v false) := by
  have hi := (h.inv hS).sc
  have e : I 136 7 = gA S 0 5 := by rw [← h.1.1, vr5]
  have hi3 := hi.2.2.2.2.2.1
  refine mkdt hl (by decide) (Nat.le_of_ble_eq_true rfl) (L := [some (.ref 0), some (.int (iI f))]) rfl ?_
  refine x_iload_n (pc := 0) rfl d141_0 ?_
  refine x_if_lt (pc := 1) (tgt := 15) ⟨by omega, by omega⟩ d141_1 (by decide) (fun g1 => ?_) (fun g1 => ?_)
  · refine x_mask [false, false] ?_
    dsimp only [mask]
    exfalso; omega
  · refine x_iload_n (pc := 4) rfl d141_4 ?_
    refine x_aload_n (pc := 5) rfl d141_5 ?_
    refine m_getR (pc := 6) f141_54 (by decide +kernel) (ko0 (by omega)) rr0_6 d141_6 ?_
    refine m_getI (pc := 9) (z := 7) f141_164 (by decide +kernel) rfl (ko136 (by omega)) d141_9 ?_
    refine x_icmp_lt (pc := 12) (tgt := 26) ⟨by omega, by omega⟩ ⟨by omega, by omega⟩ d141_12 (by decide) (fun g12 => ?_) (fun g12 => ?_)
    · refine x_vret (pc := 26) rfl (fun z => Bool.noConfusion z) d141_26 ?_
      rfl
    · refine x_mask [false, false] ?_
      dsimp only [mask]
      exfalso; omega
theorem dt_rmX (hl : l.1.stackTraces = false) (hq : 181 ≤ q) (h : CREL I S) (hS : GOK S) {f : Int} (hf : InR f) (h1 : ¬ (0 ≤ f ∧ f < gA S 0 5)) : DT l 141 [.ref 0, .int (iI f)] (mm q I v false) 1 6 (.inr 2, mm q I v false) := by
  have hi := (h.inv hS).sc
  have e : I 136 7 = gA S 0 5 := by rw [← h.1.1, vr5]
  have hi3 := hi.2.2.2.2.2.1
  obtain ⟨hf1, hf2⟩ := hf
  refine mkdt hl (by decide) (Nat.le_of_ble_eq_true rfl) (L := [some (.ref 0), some (.int (iI f))]) rfl ?_
  refine x_iload_n (pc := 0) rfl d141_0 ?_
  refine x_if_lt (pc := 1) (tgt := 15) ⟨by omega, by omega⟩ d141_1 (by decide) (fun g1 => ?_) (fun g1 => ?_)
  · refine x_throw (pc := 15) x141_15 (Nat.le_of_ble_eq_true rfl) (by decide +kernel) rfl (by decide) (by decide) rfl ?_
    first | rfl | (exfalso; omega)
  · refine x_iload_n (pc := 4) rfl d141_4 ?_
    refine x_aload_n (pc := 5) rfl d141_5 ?_
    refine m_getR (pc := 6) f141_54 (by decide +kernel) (ko0 (by omega)) rr0_6 d141_6 ?_
    refine m_getI (pc := 9) (z := 7) f141_164 (by decide +kernel) rfl (ko136 (by omega)) d141_9 ?_
    refine x_icmp_lt (pc := 12) (tgt := 26) ⟨by omega, by omega⟩ ⟨by omega, by omega⟩ d141_12 (by decide) (fun g12 => ?_) (fun g12 => ?_)
    · refine x_vret (pc := 26) rfl (fun z => Bool.noConfusion z) d141_26 ?_
      first | rfl | (exfalso; omega)
    · refine x_throw (pc := 15) x141_15 (Nat.le_of_ble_eq_true rfl) (by decide +kernel) rfl (by decide) (by decide) rfl ?_
      first | rfl | (exfalso; omega)
theorem dt_rt (hl : l.1.stackTraces = false) {t : Int} (h0 : 0 ≤ t) (h1 : t ≤ 999999) : DT l 142 [.int (iI t)] (mm q I v false) 0 0 (.inl none, mm q I v false) := by
  refine mkdt hl (by decide) (Nat.le_of_ble_eq_true rfl) (L := [some (.int (iI t))]) rfl ?_
  refine x_iload_n (pc := 0) rfl d142_0 ?_
  refine x_if_lt (pc := 1) (tgt := 11) ⟨by omega, by omega⟩ d142_1 (by decide) (fun g1 => ?_) (fun g1 => ?_)
  · refine x_mask [false] ?_
    dsimp only [mask]
    exfalso; omega
  · refine x_iload_n (pc := 4) rfl d142_4 ?_
    refine x_ldcw (pc := 5) (z := 999999) k142_387 (by decide) d142_5 ?_
    refine x_icmp_le (pc := 8) (tgt := 22) ⟨by omega, by omega⟩ ⟨by omega, by omega⟩ d142_8 (by decide) (fun g8 => ?_) (fun g8 => ?_)
    · refine x_vret (pc := 22) rfl (fun z => Bool.noConfusion z) d142_22 ?_
      rfl
    · refine x_mask [false] ?_
      dsimp only [mask]
      exfalso; omega
theorem dt_rtX (hl : l.1.stackTraces = false) {t : Int} (hf : InR t) (h1 : ¬ (0 ≤ t ∧ t ≤ 999999)) : DT l 142 [.int (iI t)] (mm q I v false) 1 6 (.inr 0, mm q I v false) := by
  obtain ⟨hf1, hf2⟩ := hf
  refine mkdt hl (by decide) (Nat.le_of_ble_eq_true rfl) (L := [some (.int (iI t))]) rfl ?_
  refine x_iload_n (pc := 0) rfl d142_0 ?_
  refine x_if_lt (pc := 1) (tgt := 11) ⟨by omega, by omega⟩ d142_1 (by decide) (fun g1 => ?_) (fun g1 => ?_)
  · refine x_throw (pc := 11) x142_11 (Nat.le_of_ble_eq_true rfl) (by decide +kernel) rfl (by decide) (by decide) rfl ?_
    first | rfl | (exfalso; omega)
  · refine x_iload_n (pc := 4) rfl d142_4 ?_
    refine x_ldcw (pc := 5) (z := 999999) k142_387 (by decide) d142_5 ?_
    refine x_icmp_le (pc := 8) (tgt := 22) ⟨by omega, by omega⟩ ⟨by omega, by omega⟩ d142_8 (by decide) (fun g8 => ?_) (fun g8 => ?_)
    · refine x_vret (pc := 22) rfl (fun z => Bool.noConfusion z) d142_22 ?_
      first | rfl | (exfalso; omega)
    · refine x_throw (pc := 11) x142_11 (Nat.le_of_ble_eq_true rfl) (by decide +kernel) rfl (by decide) (by decide) rfl ?_
      first | rfl | (exfalso; omega)
end Ask
