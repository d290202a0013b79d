/-! ===== the class's questions of messages and frames ===== -/
section Ask2
variable {l : LX} {q : Nat} {I : Nat → Int → Int} {v : Int} {S : GS}
theorem cm91 (hl : l.1.stackTraces = false) (hq : 181 ≤ q) (h : CREL I S) (hS : GOK S) {m : Int} (hm : InR m) : CT l 91 [.ref 0, .int (iI m)] (mm q I v false) 1 6 (QC q v (fun _ => 2) I (oAsk S (isM S m) (gA S 4 m))) := by
  have hi := h.inv hS
  have hs := hi.sc
  have hs7 : 0 ≤ I 143 0 ∧ I 143 0 ≤ 4 * I 136 7 := hs.2.2.2.2.2.2.1
  have hs5 := hs.2.2.2.2.2.1
  unfold oAsk
  by_cases c : 0 ≤ m ∧ m < gA S 0 5
  · rw [show isM S m = true from decide_eq_true c, if_pos rfl]
    obtain ⟨c0, c1⟩ := id c
    have c9 : m < I 136 7 := by rw [← h.1.1, vr5] at c1; exact c1
    have e : I 137 m = gA S 4 m := by rw [← h.1.1, vc4, ent_in c0 c9]
    refine mkct2 hl (by decide) (Nat.le_of_ble_eq_true rfl) (L := [some (.ref 0), some (.int (iI m))]) rfl ?_
    refine x_aload_n (pc := 0) rfl d91_0 ?_
    refine x_iload_n (pc := 1) rfl d91_1 ?_
    refine x_cVv (pc := 2) c91_167 (dt_rm hl hq h hS c.1 c.2) (ko0 (by omega)) rfl rfl (Nat.le_of_ble_eq_true rfl) (by decide +kernel) (by decide +kernel) rfl d91_2 ?_
    refine x_aload_n (pc := 5) rfl d91_5 ?_
    refine m_getR (pc := 6) f91_54 (by decide +kernel) (ko0 (by omega)) rr0_6 d91_6 ?_
    refine m_getR (pc := 9) f91_170 (by decide +kernel) (ko136 (by omega)) rr136_8 d91_9 ?_
    refine x_iload_n (pc := 12) rfl d91_12 ?_
    refine m_iald (pc := 13) (ka137 (by omega)) (by omega) (by omega) (by omega) d91_13 ?_
    refine x_iret (pc := 14) rfl (fun z => Bool.noConfusion z) d91_14 ?_
    rw [e]; exact qc_ok h (fun _ _ => rfl)
  · rw [show isM S m = false from decide_eq_false c, if_neg Bool.false_ne_true]
    refine mkct2 hl (by decide) (Nat.le_of_ble_eq_true rfl) (L := [some (.ref 0), some (.int (iI m))]) rfl ?_
    refine x_aload_n (pc := 0) rfl d91_0 ?_
    refine x_iload_n (pc := 1) rfl d91_1 ?_
    refine x_cVt (pc := 2) c91_167 (dt_rmX hl hq h hS hm c) (ko0 (by omega)) rfl rfl (Nat.le_of_ble_eq_true rfl) (by decide +kernel) (by decide +kernel) rfl d91_2 ?_
    exact qc_no (by decide) rfl h (fun _ _ => rfl)
theorem cm93 (hl : l.1.stackTraces = false) (hq : 181 ≤ q) (h : CREL I S) (hS : GOK S) {m : Int} (hm : InR m) : CT l 93 [.ref 0, .int (iI m)] (mm q I v false) 1 6 (QC q v (fun _ => 2) I (oAsk S (isM S m) (gA S 5 m))) := by
  have hi := h.inv hS
  have hs := hi.sc
  have hs7 : 0 ≤ I 143 0 ∧ I 143 0 ≤ 4 * I 136 7 := hs.2.2.2.2.2.2.1
  have hs5 := hs.2.2.2.2.2.1
  unfold oAsk
  by_cases c : 0 ≤ m ∧ m < gA S 0 5
  · rw [show isM S m = true from decide_eq_true c, if_pos rfl]
    obtain ⟨c0, c1⟩ := id c
    have c9 : m < I 136 7 := by rw [← h.1.1, vr5] at c1; exact c1
    have e : I 138 m = gA S 5 m := by rw [← h.1.1, vc5, ent_in c0 c9]
    refine mkct2 hl (by decide) (Nat.le_of_ble_eq_true rfl) (L := [some (.ref 0), some (.int (iI m))]) rfl ?_
    refine x_aload_n (pc := 0) rfl d93_0 ?_
    refine x_iload_n (pc := 1) rfl d93_1 ?_
    refine x_cVv (pc := 2) c93_167 (dt_rm hl hq h hS c.1 c.2) (ko0 (by omega)) rfl rfl (Nat.le_of_ble_eq_true rfl) (by decide +kernel) (by decide +kernel) rfl d93_2 ?_
    refine x_aload_n (pc := 5) rfl d93_5 ?_
    refine m_getR (pc := 6) f93_54 (by decide +kernel) (ko0 (by omega)) rr0_6 d93_6 ?_
    refine m_getR (pc := 9) f93_177 (by decide +kernel) (ko136 (by omega)) rr136_9 d93_9 ?_
    refine x_iload_n (pc := 12) rfl d93_12 ?_
    refine m_iald (pc := 13) (ka138 (by omega)) (by omega) (by omega) (by omega) d93_13 ?_
    refine x_iret (pc := 14) rfl (fun z => Bool.noConfusion z) d93_14 ?_
    rw [e]; exact qc_ok h (fun _ _ => rfl)
  · rw [show isM S m = false from decide_eq_false c, if_neg Bool.false_ne_true]
    refine mkct2 hl (by decide) (Nat.le_of_ble_eq_true rfl) (L := [some (.ref 0), some (.int (iI m))]) rfl ?_
    refine x_aload_n (pc := 0) rfl d93_0 ?_
    refine x_iload_n (pc := 1) rfl d93_1 ?_
    refine x_cVt (pc := 2) c93_167 (dt_rmX hl hq h hS hm c) (ko0 (by omega)) rfl rfl (Nat.le_of_ble_eq_true rfl) (by decide +kernel) (by decide +kernel) rfl d93_2 ?_
    exact qc_no (by decide) rfl h (fun _ _ => rfl)
theorem cm95 (hl : l.1.stackTraces = false) (hq : 181 ≤ q) (h : CREL I S) (hS : GOK S) {f : Int} (hf : InR f) : CT l 95 [.ref 0, .int (iI f)] (mm q I v false) 1 6 (QC q v (fun _ => 2) I (oAsk S (isF S f) (gA S 6 f))) := by
  have hi := h.inv hS
  have hs := hi.sc
  have hs7 : 0 ≤ I 143 0 ∧ I 143 0 ≤ 4 * I 136 7 := hs.2.2.2.2.2.2.1
  have hs5 := hs.2.2.2.2.2.1
  unfold oAsk
  by_cases c : 0 ≤ f ∧ f < gA S 0 6
  · rw [show isF S f = true from decide_eq_true c, if_pos rfl]
    obtain ⟨c0, c1⟩ := id c
    have c9 : f < I 143 0 := by rw [← h.1.1, vr6] at c1; exact c1
    have e : I 144 f = gA S 6 f := by rw [← h.1.1, vc6, ent_in c0 c9]
    refine mkct2 hl (by decide) (Nat.le_of_ble_eq_true rfl) (L := [some (.ref 0), some (.int (iI f))]) rfl ?_
    refine x_aload_n (pc := 0) rfl d95_0 ?_
    refine x_iload_n (pc := 1) rfl d95_1 ?_
    refine x_cVv (pc := 2) c95_187 (dt_rf hl hq h hS c.1 c.2) (ko0 (by omega)) rfl rfl (Nat.le_of_ble_eq_true rfl) (by decide +kernel) (by decide +kernel) rfl d95_2 ?_
    refine x_aload_n (pc := 5) rfl d95_5 ?_
    refine m_getR (pc := 6) f95_54 (by decide +kernel) (ko0 (by omega)) rr0_6 d95_6 ?_
    refine m_getR (pc := 9) f95_180 (by decide +kernel) (ko136 (by omega)) rr136_11 d95_9 ?_
    refine m_getR (pc := 12) f95_190 (by decide +kernel) (ko143 (by omega)) rr143_1 d95_12 ?_
    refine x_iload_n (pc := 15) rfl d95_15 ?_
    refine m_iald (pc := 16) (ka144 (by omega)) (by omega) (by omega) (by omega) d95_16 ?_
    refine x_iret (pc := 17) rfl (fun z => Bool.noConfusion z) d95_17 ?_
    rw [e]; exact qc_ok h (fun _ _ => rfl)
  · rw [show isF S f = false from decide_eq_false c, if_neg Bool.false_ne_true]
    refine mkct2 hl (by decide) (Nat.le_of_ble_eq_true rfl) (L := [some (.ref 0), some (.int (iI f))]) rfl ?_
    refine x_aload_n (pc := 0) rfl d95_0 ?_
    refine x_iload_n (pc := 1) rfl d95_1 ?_
    refine x_cVt (pc := 2) c95_187 (dt_rfX hl hq h hS hf c) (ko0 (by omega)) rfl rfl (Nat.le_of_ble_eq_true rfl) (by decide +kernel) (by decide +kernel) rfl d95_2 ?_
    exact qc_no (by decide) rfl h (fun _ _ => rfl)
theorem cm98 (hl : l.1.stackTraces = false) (hq : 181 ≤ q) (h : CREL I S) (hS : GOK S) {f : Int} (hf : InR f) : CT l 98 [.ref 0, .int (iI f)] (mm q I v false) 1 6 (QC q v (fun _ => 2) I (oAsk S (isF S f) (gA S 7 f))) := by
  have hi := h.inv hS
  have hs := hi.sc
  have hs7 : 0 ≤ I 143 0 ∧ I 143 0 ≤ 4 * I 136 7 := hs.2.2.2.2.2.2.1
  have hs5 := hs.2.2.2.2.2.1
  unfold oAsk
  by_cases c : 0 ≤ f ∧ f < gA S 0 6
  · rw [show isF S f = true from decide_eq_true c, if_pos rfl]
    obtain ⟨c0, c1⟩ := id c
    have c9 : f < I 143 0 := by rw [← h.1.1, vr6] at c1; exact c1
    have e : I 145 f = gA S 7 f := by rw [← h.1.1, vc7, ent_in c0 c9]
    refine mkct2 hl (by decide) (Nat.le_of_ble_eq_true rfl) (L := [some (.ref 0), some (.int (iI f))]) rfl ?_
    refine x_aload_n (pc := 0) rfl d98_0 ?_
    refine x_iload_n (pc := 1) rfl d98_1 ?_
    refine x_cVv (pc := 2) c98_187 (dt_rf hl hq h hS c.1 c.2) (ko0 (by omega)) rfl rfl (Nat.le_of_ble_eq_true rfl) (by decide +kernel) (by decide +kernel) rfl d98_2 ?_
    refine x_aload_n (pc := 5) rfl d98_5 ?_
    refine m_getR (pc := 6) f98_54 (by decide +kernel) (ko0 (by omega)) rr0_6 d98_6 ?_
    refine m_getR (pc := 9) f98_180 (by decide +kernel) (ko136 (by omega)) rr136_11 d98_9 ?_
    refine m_getR (pc := 12) f98_200 (by decide +kernel) (ko143 (by omega)) rr143_2 d98_12 ?_
    refine x_iload_n (pc := 15) rfl d98_15 ?_
    refine m_iald (pc := 16) (ka145 (by omega)) (by omega) (by omega) (by omega) d98_16 ?_
    refine x_iret (pc := 17) rfl (fun z => Bool.noConfusion z) d98_17 ?_
    rw [e]; exact qc_ok h (fun _ _ => rfl)
  · rw [show isF S f = false from decide_eq_false c, if_neg Bool.false_ne_true]
    refine mkct2 hl (by decide) (Nat.le_of_ble_eq_true rfl) (L := [some (.ref 0), some (.int (iI f))]) rfl ?_
    refine x_aload_n (pc := 0) rfl d98_0 ?_
    refine x_iload_n (pc := 1) rfl d98_1 ?_
    refine x_cVt (pc := 2) c98_187 (dt_rfX hl hq h hS hf c) (ko0 (by omega)) rfl rfl (Nat.le_of_ble_eq_true rfl) (by decide +kernel) (by decide +kernel) rfl d98_2 ?_
    exact qc_no (by decide) rfl h (fun _ _ => rfl)
theorem cm99 (hl : l.1.stackTraces = false) (hq : 181 ≤ q) (h : CREL I S) (hS : GOK S) {f : Int} (hf : InR f) : CT l 99 [.ref 0, .int (iI f)] (mm q I v false) 1 6 (QC q v (fun _ => 2) I (oAsk S (isF S f) (gA S 8 f))) := by
  have hi := h.inv hS
  have hs := hi.sc
  have hs7 : 0 ≤ I 143 0 ∧ I 143 0 ≤ 4 * I 136 7 := hs.2.2.2.2.2.2.1
  have hs5 := hs.2.2.2.2.2.1
  unfold oAsk
  by_cases c : 0 ≤ f ∧ f < gA S 0 6
  · rw [show isF S f = true from decide_eq_true c, if_pos rfl]
    obtain ⟨c0, c1⟩ := id c
    have c9 : f < I 143 0 := by rw [← h.1.1, vr6] at c1; exact c1
    have e : I 146 f = gA S 8 f := by rw [← h.1.1, vc8, ent_in c0 c9]
    refine mkct2 hl (by decide) (Nat.le_of_ble_eq_true rfl) (L := [some (.ref 0), some (.int (iI f))]) rfl ?_
    refine x_aload_n (pc := 0) rfl d99_0 ?_
    refine x_iload_n (pc := 1) rfl d99_1 ?_
    refine x_cVv (pc := 2) c99_187 (dt_rf hl hq h hS c.1 c.2) (ko0 (by omega)) rfl rfl (Nat.le_of_ble_eq_true rfl) (by decide +kernel) (by decide +kernel) rfl d99_2 ?_
    refine x_aload_n (pc := 5) rfl d99_5 ?_
    refine m_getR (pc := 6) f99_54 (by decide +kernel) (ko0 (by omega)) rr0_6 d99_6 ?_
    refine m_getR (pc := 9) f99_180 (by decide +kernel) (ko136 (by omega)) rr136_11 d99_9 ?_
    refine m_getR (pc := 12) f99_203 (by decide +kernel) (ko143 (by omega)) rr143_3 d99_12 ?_
    refine x_iload_n (pc := 15) rfl d99_15 ?_
    refine m_iald (pc := 16) (ka146 (by omega)) (by omega) (by omega) (by omega) d99_16 ?_
    refine x_iret (pc := 17) rfl (fun z => Bool.noConfusion z) d99_17 ?_
    rw [e]; exact qc_ok h (fun _ _ => rfl)
  · rw [show isF S f = false from decide_eq_false c, if_neg Bool.false_ne_true]
    refine mkct2 hl (by decide) (Nat.le_of_ble_eq_true rfl) (L := [some (.ref 0), some (.int (iI f))]) rfl ?_
    refine x_aload_n (pc := 0) rfl d99_0 ?_
    refine x_iload_n (pc := 1) rfl d99_1 ?_
    refine x_cVt (pc := 2) c99_187 (dt_rfX hl hq h hS hf c) (ko0 (by omega)) rfl rfl (Nat.le_of_ble_eq_true rfl) (by decide +kernel) (by decide +kernel) rfl d99_2 ?_
    exact qc_no (by decide) rfl h (fun _ _ => rfl)
theorem cm92 (hl : l.1.stackTraces = false) (hq : 181 ≤ q) (h : CREL I S) (hS : GOK S) {m : Int} (hm : InR m) : CT l 92 [.ref 0, .int (iI m)] (mm q I v false) 1 6 (QC q v (fun _ => 2) I (oAsk S (isM S m) (stA (gA S) m))) := by
  have hi := h.inv hS
  have hs := hi.sc
  have hs7 : 0 ≤ I 143 0 ∧ I 143 0 ≤ 4 * I 136 7 := hs.2.2.2.2.2.2.1
  have hs5 := hs.2.2.2.2.2.1
  unfold oAsk
  by_cases c : 0 ≤ m ∧ m < gA S 0 5
  · rw [show isM S m = true from decide_eq_true c, if_pos rfl]
    obtain ⟨c0, c1⟩ := id c
    have c9 : m < I 136 7 := by rw [← h.1.1, vr5] at c1; exact c1
    have e : stD (Vc I 136) m = stA (gA S) m := by rw [h.1.1]; exact if_pos c
    refine mkct2 hl (by decide) (Nat.le_of_ble_eq_true rfl) (L := [some (.ref 0), some (.int (iI m))]) rfl ?_
    refine x_aload_n (pc := 0) rfl d92_0 ?_
    refine x_iload_n (pc := 1) rfl d92_1 ?_
    refine x_cVv (pc := 2) c92_167 (dt_rm hl hq h hS c.1 c.2) (ko0 (by omega)) rfl rfl (Nat.le_of_ble_eq_true rfl) (by decide +kernel) (by decide +kernel) rfl d92_2 ?_
    refine x_aload_n (pc := 5) rfl d92_5 ?_
    refine m_getR (pc := 6) f92_54 (by decide +kernel) (ko0 (by omega)) rr0_6 d92_6 ?_
    refine x_iload_n (pc := 9) rfl d92_9 ?_
    refine x_cVs (pc := 10) c92_173 (dt_state hl (la136 (by omega)) hi (m := m) hm) (ko136 (by omega)) rfl rfl (Nat.le_of_ble_eq_true rfl) (by decide +kernel) (by decide +kernel) rfl d92_10 ?_
    refine x_iret (pc := 13) rfl (fun z => Bool.noConfusion z) d92_13 ?_
    rw [e]; exact qc_ok h (fun _ _ => rfl)
  · rw [show isM S m = false from decide_eq_false c, if_neg Bool.false_ne_true]
    refine mkct2 hl (by decide) (Nat.le_of_ble_eq_true rfl) (L := [some (.ref 0), some (.int (iI m))]) rfl ?_
    refine x_aload_n (pc := 0) rfl d92_0 ?_
    refine x_iload_n (pc := 1) rfl d92_1 ?_
    refine x_cVt (pc := 2) c92_167 (dt_rmX hl hq h hS hm c) (ko0 (by omega)) rfl rfl (Nat.le_of_ble_eq_true rfl) (by decide +kernel) (by decide +kernel) rfl d92_2 ?_
    exact qc_no (by decide) rfl h (fun _ _ => rfl)
theorem cm100 (hl : l.1.stackTraces = false) (hq : 181 ≤ q) (h : CREL I S) (hS : GOK S) {f : Int} (hf : InR f) : CT l 100 [.ref 0, .int (iI f)] (mm q I v false) 1 6 (QC q v (fun _ => 2) I (oAsk S (isF S f) (b01 (decide (gA S 9 f = 1))))) := by
  have hi := h.inv hS
  have hs := hi.sc
  have hs7 : 0 ≤ I 143 0 ∧ I 143 0 ≤ 4 * I 136 7 := hs.2.2.2.2.2.2.1
  have hs5 := hs.2.2.2.2.2.1
  unfold oAsk
  by_cases c : 0 ≤ f ∧ f < gA S 0 6
  · rw [show isF S f = true from decide_eq_true c, if_pos rfl]
    obtain ⟨c0, c1⟩ := id c
    have c9 : f < I 143 0 := by rw [← h.1.1, vr6] at c1; exact c1
    have e : gA S 9 f = flag (I 147 f) := by rw [← h.1.1]; exact vc_ent9 c0 c9
    have ha : 0 ≤ I 147 f ∧ I 147 f ≤ I 146 f := hi.2.2.1 f c0 c9
    have hf2 : 0 ≤ I 146 f ∧ I 146 f ≤ 9 := (hi.fr c0 c9).2.2.1
    rw [e]
    refine mkct2 hl (by decide) (Nat.le_of_ble_eq_true rfl) (L := [some (.ref 0), some (.int (iI f))]) rfl ?_
    refine x_aload_n (pc := 0) rfl d100_0 ?_
    refine x_iload_n (pc := 1) rfl d100_1 ?_
    refine x_cVv (pc := 2) c100_187 (dt_rf hl hq h hS c.1 c.2) (ko0 (by omega)) rfl rfl (Nat.le_of_ble_eq_true rfl) (by decide +kernel) (by decide +kernel) rfl d100_2 ?_
    refine x_aload_n (pc := 5) rfl d100_5 ?_
    refine m_getR (pc := 6) f100_54 (by decide +kernel) (ko0 (by omega)) rr0_6 d100_6 ?_
    refine m_getR (pc := 9) f100_180 (by decide +kernel) (ko136 (by omega)) rr136_11 d100_9 ?_
    refine m_getR (pc := 12) f100_206 (by decide +kernel) (ko143 (by omega)) rr143_4 d100_12 ?_
    refine x_iload_n (pc := 15) rfl d100_15 ?_
    refine m_iald (pc := 16) (ka147 (by omega)) (by omega) (by omega) (by omega) d100_16 ?_
    refine x_if_le (pc := 17) (tgt := 24) ⟨by omega, by omega⟩ d100_17 (by decide) (fun g17 => ?_) (fun g17 => ?_)
    · refine x_iconst (pc := 24) d100_24 ?_
      refine x_zret (pc := 25) rfl (Or.inl rfl) (fun z => Bool.noConfusion z) d100_25 ?_
      rw [show flag (I 147 f) = 0 from if_neg (by omega)]; exact qc_ok h (fun _ _ => rfl)
    · refine x_iconst (pc := 20) d100_20 ?_
      refine x_goto (pc := 21) (tgt := 25) d100_21 (by decide) ?_
      refine x_zret (pc := 25) rfl (Or.inr rfl) (fun z => Bool.noConfusion z) d100_25 ?_
      rw [show flag (I 147 f) = 1 from if_pos (by omega)]; exact qc_ok h (fun _ _ => rfl)
  · rw [show isF S f = false from decide_eq_false c, if_neg Bool.false_ne_true]
    refine mkct2 hl (by decide) (Nat.le_of_ble_eq_true rfl) (L := [some (.ref 0), some (.int (iI f))]) rfl ?_
    refine x_aload_n (pc := 0) rfl d100_0 ?_
    refine x_iload_n (pc := 1) rfl d100_1 ?_
    refine x_cVt (pc := 2) c100_187 (dt_rfX hl hq h hS hf c) (ko0 (by omega)) rfl rfl (Nat.le_of_ble_eq_true rfl) (by decide +kernel) (by decide +kernel) rfl d100_2 ?_
    exact qc_no (by decide) rfl h (fun _ _ => rfl)
theorem cm96 (hl : l.1.stackTraces = false) (hq : 181 ≤ q) (h : CREL I S) (hS : GOK S) {f i : Int} (hf : InR f) (hi9 : InR i) : CT l 96 [.ref 0, .int (iI f), .int (iI i)] (mm q I v false) 1 6 (QC q v (fun _ => 2) I (oAsk S (isF S f) (if 0 ≤ i ∧ i < gA S 6 f then gA S 10 (6 * f + i) else -1))) := by
  have hi := h.inv hS
  have hs := hi.sc
  have hs7 : 0 ≤ I 143 0 ∧ I 143 0 ≤ 4 * I 136 7 := hs.2.2.2.2.2.2.1
  have hs5 := hs.2.2.2.2.2.1
  unfold oAsk
  by_cases c : 0 ≤ f ∧ f < gA S 0 6
  · rw [show isF S f = true from decide_eq_true c, if_pos rfl]
    obtain ⟨c0, c1⟩ := id c
    have c9 : f < I 143 0 := by rw [← h.1.1, vr6] at c1; exact c1
    have e6 : gA S 6 f = I 144 f := by rw [← h.1.1]; exact (vrow c0 c9).1
    have hf2 : 3 ≤ I 144 f ∧ I 144 f ≤ 6 := (hi.fr c0 c9).1
    obtain ⟨hi1, hi2⟩ := hi9
    rw [e6]
    refine mkct2 hl (by decide) (Nat.le_of_ble_eq_true rfl) (L := [some (.ref 0), some (.int (iI f)), some (.int (iI i))]) rfl ?_
    refine x_aload_n (pc := 0) rfl d96_0 ?_
    refine x_iload_n (pc := 1) rfl d96_1 ?_
    refine x_cVv (pc := 2) c96_187 (dt_rf hl hq h hS c.1 c.2) (ko0 (by omega)) rfl rfl (Nat.le_of_ble_eq_true rfl) (by decide +kernel) (by decide +kernel) rfl d96_2 ?_
    refine x_iload_n (pc := 5) rfl d96_5 ?_
    refine x_if_lt (pc := 6) (tgt := 25) ⟨by omega, by omega⟩ d96_6 (by decide) (fun g6 => ?_) (fun g6 => ?_)
    · refine x_iconst (pc := 25) d96_25 ?_
      refine x_iret (pc := 26) rfl (fun z => Bool.noConfusion z) d96_26 ?_
      rw [if_neg (by omega)]; exact qc_ok h (fun _ _ => rfl)
    · refine x_iload_n (pc := 9) rfl d96_9 ?_
      refine x_aload_n (pc := 10) rfl d96_10 ?_
      refine m_getR (pc := 11) f96_54 (by decide +kernel) (ko0 (by omega)) rr0_6 d96_11 ?_
      refine m_getR (pc := 14) f96_180 (by decide +kernel) (ko136 (by omega)) rr136_11 d96_14 ?_
      refine m_getR (pc := 17) f96_190 (by decide +kernel) (ko143 (by omega)) rr143_1 d96_17 ?_
      refine x_iload_n (pc := 20) rfl d96_20 ?_
      refine m_iald (pc := 21) (ka144 (by omega)) (by omega) (by omega) (by omega) d96_21 ?_
      refine x_icmp_lt (pc := 22) (tgt := 27) ⟨by omega, by omega⟩ ⟨by omega, by omega⟩ d96_22 (by decide) (fun g22 => ?_) (fun g22 => ?_)
      · refine x_aload_n (pc := 27) rfl d96_27 ?_
        refine m_getR (pc := 28) f96_54 (by decide +kernel) (ko0 (by omega)) rr0_6 d96_28 ?_
        refine m_getR (pc := 31) f96_180 (by decide +kernel) (ko136 (by omega)) rr136_11 d96_31 ?_
        refine m_getR (pc := 34) f96_193 (by decide +kernel) (ko143 (by omega)) rr143_5 d96_34 ?_
        refine x_iload_n (pc := 37) rfl d96_37 ?_
        refine x_bipush (pc := 38) (by decide) d96_38 ?_
        refine x_imul (pc := 40) d96_40 ?_
        refine x_iload_n (pc := 41) rfl d96_41 ?_
        refine x_iadd (pc := 42) d96_42 ?_
        refine m_iald (pc := 43) (ka148 (by omega)) (by omega) (by omega) (by omega) d96_43 ?_
        refine x_iret (pc := 44) rfl (fun z => Bool.noConfusion z) d96_44 ?_
        have e : I 148 (f * 6 + i) = gA S 10 (6 * f + i) := by rw [← h.1.1]; exact (vc_ent10 hi c0 c9 (by omega) g22).symm
        rw [if_pos (by omega), e]; exact qc_ok h (fun _ _ => rfl)
      · refine x_iconst (pc := 25) d96_25 ?_
        refine x_iret (pc := 26) rfl (fun z => Bool.noConfusion z) d96_26 ?_
        rw [if_neg (by omega)]; exact qc_ok h (fun _ _ => rfl)
  · rw [show isF S f = false from decide_eq_false c, if_neg Bool.false_ne_true]
    refine mkct2 hl (by decide) (Nat.le_of_ble_eq_true rfl) (L := [some (.ref 0), some (.int (iI f)), some (.int (iI i))]) rfl ?_
    refine x_aload_n (pc := 0) rfl d96_0 ?_
    refine x_iload_n (pc := 1) rfl d96_1 ?_
    refine x_cVt (pc := 2) c96_187 (dt_rfX hl hq h hS hf c) (ko0 (by omega)) rfl rfl (Nat.le_of_ble_eq_true rfl) (by decide +kernel) (by decide +kernel) rfl d96_2 ?_
    exact qc_no (by decide) rfl h (fun _ _ => rfl)
theorem cm101 (hl : l.1.stackTraces = false) (hq : 181 ≤ q) (h : CREL I S) (hS : GOK S) {f i : Int} (hf : InR f) (hi9 : InR i) : CT l 101 [.ref 0, .int (iI f), .int (iI i)] (mm q I v false) 1 6 (QC q v (fun _ => 2) I (oAsk S (isF S f) (if gA S 9 f = 1 ∧ 0 ≤ i ∧ i < gA S 6 f then gA S 11 (6 * f + i) else -1))) := by
  have hi := h.inv hS
  have hs := hi.sc
  have hs7 : 0 ≤ I 143 0 ∧ I 143 0 ≤ 4 * I 136 7 := hs.2.2.2.2.2.2.1
  have hs5 := hs.2.2.2.2.2.1
  unfold oAsk
  by_cases c : 0 ≤ f ∧ f < gA S 0 6
  · rw [show isF S f = true from decide_eq_true c, if_pos rfl]
    obtain ⟨c0, c1⟩ := id c
    have c9 : f < I 143 0 := by rw [← h.1.1, vr6] at c1; exact c1
    have e6 : gA S 6 f = I 144 f := by rw [← h.1.1]; exact (vrow c0 c9).1
    have hf2 : 3 ≤ I 144 f ∧ I 144 f ≤ 6 := (hi.fr c0 c9).1
    have e9 : gA S 9 f = flag (I 147 f) := by rw [← h.1.1]; exact vc_ent9 c0 c9
    have ha : 0 ≤ I 147 f ∧ I 147 f ≤ I 146 f := hi.2.2.1 f c0 c9
    have hf3 : 0 ≤ I 146 f ∧ I 146 f ≤ 9 := (hi.fr c0 c9).2.2.1
    obtain ⟨hi1, hi2⟩ := hi9
    rw [e6, e9]
    refine mkct2 hl (by decide) (Nat.le_of_ble_eq_true rfl) (L := [some (.ref 0), some (.int (iI f)), some (.int (iI i))]) rfl ?_
    refine x_aload_n (pc := 0) rfl d101_0 ?_
    refine x_iload_n (pc := 1) rfl d101_1 ?_
    refine x_cVv (pc := 2) c101_187 (dt_rf hl hq h hS c.1 c.2) (ko0 (by omega)) rfl rfl (Nat.le_of_ble_eq_true rfl) (by decide +kernel) (by decide +kernel) rfl d101_2 ?_
    refine x_aload_n (pc := 5) rfl d101_5 ?_
    refine m_getR (pc := 6) f101_54 (by decide +kernel) (ko0 (by omega)) rr0_6 d101_6 ?_
    refine m_getR (pc := 9) f101_180 (by decide +kernel) (ko136 (by omega)) rr136_11 d101_9 ?_
    refine m_getR (pc := 12) f101_206 (by decide +kernel) (ko143 (by omega)) rr143_4 d101_12 ?_
    refine x_iload_n (pc := 15) rfl d101_15 ?_
    refine m_iald (pc := 16) (ka147 (by omega)) (by omega) (by omega) (by omega) d101_16 ?_
    refine x_if_eq (pc := 17) (tgt := 40) ⟨by omega, by omega⟩ d101_17 (by decide) (fun g17 => ?_) (fun g17 => ?_)
    · refine x_iconst (pc := 40) d101_40 ?_
      refine x_iret (pc := 41) rfl (fun z => Bool.noConfusion z) d101_41 ?_
      rw [show flag (I 147 f) = 0 from if_neg (by omega), if_neg (by omega)]; exact qc_ok h (fun _ _ => rfl)
    · refine x_iload_n (pc := 20) rfl d101_20 ?_
      refine x_if_lt (pc := 21) (tgt := 40) ⟨by omega, by omega⟩ d101_21 (by decide) (fun g21 => ?_) (fun g21 => ?_)
      · refine x_iconst (pc := 40) d101_40 ?_
        refine x_iret (pc := 41) rfl (fun z => Bool.noConfusion z) d101_41 ?_
        rw [show flag (I 147 f) = 1 from if_pos (by omega), if_neg (by omega)]; exact qc_ok h (fun _ _ => rfl)
      · refine x_iload_n (pc := 24) rfl d101_24 ?_
        refine x_aload_n (pc := 25) rfl d101_25 ?_
        refine m_getR (pc := 26) f101_54 (by decide +kernel) (ko0 (by omega)) rr0_6 d101_26 ?_
        refine m_getR (pc := 29) f101_180 (by decide +kernel) (ko136 (by omega)) rr136_11 d101_29 ?_
        refine m_getR (pc := 32) f101_190 (by decide +kernel) (ko143 (by omega)) rr143_1 d101_32 ?_
        refine x_iload_n (pc := 35) rfl d101_35 ?_
        refine m_iald (pc := 36) (ka144 (by omega)) (by omega) (by omega) (by omega) d101_36 ?_
        refine x_icmp_lt (pc := 37) (tgt := 42) ⟨by omega, by omega⟩ ⟨by omega, by omega⟩ d101_37 (by decide) (fun g37 => ?_) (fun g37 => ?_)
        · refine x_aload_n (pc := 42) rfl d101_42 ?_
          refine m_getR (pc := 43) f101_54 (by decide +kernel) (ko0 (by omega)) rr0_6 d101_43 ?_
          refine m_getR (pc := 46) f101_180 (by decide +kernel) (ko136 (by omega)) rr136_11 d101_46 ?_
          refine m_getR (pc := 49) f101_209 (by decide +kernel) (ko143 (by omega)) rr143_6 d101_49 ?_
          refine x_iload_n (pc := 52) rfl d101_52 ?_
          refine x_bipush (pc := 53) (by decide) d101_53 ?_
          refine x_imul (pc := 55) d101_55 ?_
          refine x_iload_n (pc := 56) rfl d101_56 ?_
          refine x_iadd (pc := 57) d101_57 ?_
          refine m_iald (pc := 58) (ka149 (by omega)) (by omega) (by omega) (by omega) d101_58 ?_
          refine x_iret (pc := 59) rfl (fun z => Bool.noConfusion z) d101_59 ?_
          have e : I 149 (f * 6 + i) = gA S 11 (6 * f + i) := by rw [← h.1.1]; exact (vc_ent11 hi c0 c9 (by omega) g37 (show 0 < I 147 f by omega)).symm
          rw [show flag (I 147 f) = 1 from if_pos (by omega), if_pos (by omega), e]; exact qc_ok h (fun _ _ => rfl)
        · refine x_iconst (pc := 40) d101_40 ?_
          refine x_iret (pc := 41) rfl (fun z => Bool.noConfusion z) d101_41 ?_
          rw [show flag (I 147 f) = 1 from if_pos (by omega), if_neg (by omega)]; exact qc_ok h (fun _ _ => rfl)
  · rw [show isF S f = false from decide_eq_false c, if_neg Bool.false_ne_true]
    refine mkct2 hl (by decide) (Nat.le_of_ble_eq_true rfl) (L := [some (.ref 0), some (.int (iI f)), some (.int (iI i))]) rfl ?_
    refine x_aload_n (pc := 0) rfl d101_0 ?_
    refine x_iload_n (pc := 1) rfl d101_1 ?_
    refine x_cVt (pc := 2) c101_187 (dt_rfX hl hq h hS hf c) (ko0 (by omega)) rfl rfl (Nat.le_of_ble_eq_true rfl) (by decide +kernel) (by decide +kernel) rfl d101_2 ?_
    exact qc_no (by decide) rfl h (fun _ _ => rfl)
theorem cm102 (hl : l.1.stackTraces = false) (hq : 181 ≤ q) (h : CREL I S) (hS : GOK S) {f : Int} (hf : InR f) : CT l 102 [.ref 0, .int (iI f)] (mm q I v false) 1 6 (QC q v (fun _ => 2) I (oAsk S (isF S f) (b01 (intA (gA S) f)))) := by
  have hi := h.inv hS
  have hs := hi.sc
  have hs7 : 0 ≤ I 143 0 ∧ I 143 0 ≤ 4 * I 136 7 := hs.2.2.2.2.2.2.1
  have hs5 := hs.2.2.2.2.2.1
  unfold oAsk
  by_cases c : 0 ≤ f ∧ f < gA S 0 6
  · rw [show isF S f = true from decide_eq_true c, if_pos rfl]
    obtain ⟨c0, c1⟩ := id c
    have c9 : f < I 143 0 := by rw [← h.1.1, vr6] at c1; exact c1
    refine mkct2 hl (by decide) (Nat.le_of_ble_eq_true rfl) (L := [some (.ref 0), some (.int (iI f))]) rfl ?_
    refine x_aload_n (pc := 0) rfl d102_0 ?_
    refine x_iload_n (pc := 1) rfl d102_1 ?_
    refine x_cVv (pc := 2) c102_187 (dt_rf hl hq h hS c.1 c.2) (ko0 (by omega)) rfl rfl (Nat.le_of_ble_eq_true rfl) (by decide +kernel) (by decide +kernel) rfl d102_2 ?_
    refine x_aload_n (pc := 5) rfl d102_5 ?_
    refine m_getR (pc := 6) f102_54 (by decide +kernel) (ko0 (by omega)) rr0_6 d102_6 ?_
    refine m_getR (pc := 9) f102_180 (by decide +kernel) (ko136 (by omega)) rr136_11 d102_9 ?_
    refine x_iload_n (pc := 12) rfl d102_12 ?_
    refine x_cVs (pc := 13) c102_212 (dt_intact hl (la136 (by omega)) hi (f := f) c0 c9) (ko143 (by omega)) rfl rfl (Nat.le_of_ble_eq_true rfl) (by decide +kernel) (by decide +kernel) rfl d102_13 ?_
    refine x_zret (pc := 16) rfl (b01_or _) (fun z => Bool.noConfusion z) d102_16 ?_
    rw [h.1.1]; exact qc_ok h (fun _ _ => rfl)
  · rw [show isF S f = false from decide_eq_false c, if_neg Bool.false_ne_true]
    refine mkct2 hl (by decide) (Nat.le_of_ble_eq_true rfl) (L := [some (.ref 0), some (.int (iI f))]) rfl ?_
    refine x_aload_n (pc := 0) rfl d102_0 ?_
    refine x_iload_n (pc := 1) rfl d102_1 ?_
    refine x_cVt (pc := 2) c102_187 (dt_rfX hl hq h hS hf c) (ko0 (by omega)) rfl rfl (Nat.le_of_ble_eq_true rfl) (by decide +kernel) (by decide +kernel) rfl d102_2 ?_
    exact qc_no (by decide) rfl h (fun _ _ => rfl)
theorem cm97 (hl : l.1.stackTraces = false) (hq : 181 ≤ q) (h : CREL I S) (hS : GOK S) {f b : Int} (hf : InR f) (hb : InR b) : CT l 97 [.ref 0, .int (iI f), .int (iI b)] (mm q I v false) 1 6 (QC q v (fun _ => 2) I (oAsk S (isF S f) (if 0 ≤ b ∧ b < gA S 6 f * 8 then bitZ (SfA (gA S) f) b else -1))) := by
  have hi := h.inv hS
  have hs := hi.sc
  have hs7 : 0 ≤ I 143 0 ∧ I 143 0 ≤ 4 * I 136 7 := hs.2.2.2.2.2.2.1
  have hs5 := hs.2.2.2.2.2.1
  unfold oAsk
  by_cases c : 0 ≤ f ∧ f < gA S 0 6
  · rw [show isF S f = true from decide_eq_true c, if_pos rfl]
    obtain ⟨c0, c1⟩ := id c
    have c9 : f < I 143 0 := by rw [← h.1.1, vr6] at c1; exact c1
    have e6 : gA S 6 f = I 144 f := by rw [← h.1.1]; exact (vrow c0 c9).1
    have hf2 : 3 ≤ I 144 f ∧ I 144 f ≤ 6 := (hi.fr c0 c9).1
    rw [e6]
    by_cases cb : 0 ≤ b ∧ b < I 144 f * 8
    · rw [if_pos cb]
      have eS : bitZ (fun k => I 148 (f * 6 + k)) b = bitZ (SfA (gA S) f) b := bitZ_congr (n := I 144 f) (fun k k0 k1 => by
        unfold SfA
        rw [← h.1.1]
        exact (vc_ent10 hi c0 c9 k0 k1).symm) cb.1 (by omega)
      refine mkct2 hl (by decide) (Nat.le_of_ble_eq_true rfl) (L := [some (.ref 0), some (.int (iI f)), some (.int (iI b))]) rfl ?_
      refine x_aload_n (pc := 0) rfl d97_0 ?_
      refine x_iload_n (pc := 1) rfl d97_1 ?_
      refine x_cVv (pc := 2) c97_187 (dt_rf hl hq h hS c.1 c.2) (ko0 (by omega)) rfl rfl (Nat.le_of_ble_eq_true rfl) (by decide +kernel) (by decide +kernel) rfl d97_2 ?_
      refine x_aload_n (pc := 5) rfl d97_5 ?_
      refine m_getR (pc := 6) f97_54 (by decide +kernel) (ko0 (by omega)) rr0_6 d97_6 ?_
      refine m_getR (pc := 9) f97_180 (by decide +kernel) (ko136 (by omega)) rr136_11 d97_9 ?_
      refine x_iload_n (pc := 12) rfl d97_12 ?_
      refine x_iload_n (pc := 13) rfl d97_13 ?_
      refine x_cVs (pc := 14) c97_196 (dt_bitOf hl (la136 (by omega)) hi.frames (f := f) (b := b) c0 c9 cb.1 cb.2) (ko143 (by omega)) rfl rfl (Nat.le_of_ble_eq_true rfl) (by decide +kernel) (by decide +kernel) rfl d97_14 ?_
      refine x_iret (pc := 17) rfl (fun z => Bool.noConfusion z) d97_17 ?_
      rw [eS]; exact qc_ok h (fun _ _ => rfl)
    · rw [if_neg cb]
      refine mkct2 hl (by decide) (Nat.le_of_ble_eq_true rfl) (L := [some (.ref 0), some (.int (iI f)), some (.int (iI b))]) rfl ?_
      refine x_aload_n (pc := 0) rfl d97_0 ?_
      refine x_iload_n (pc := 1) rfl d97_1 ?_
      refine x_cVv (pc := 2) c97_187 (dt_rf hl hq h hS c.1 c.2) (ko0 (by omega)) rfl rfl (Nat.le_of_ble_eq_true rfl) (by decide +kernel) (by decide +kernel) rfl d97_2 ?_
      refine x_aload_n (pc := 5) rfl d97_5 ?_
      refine m_getR (pc := 6) f97_54 (by decide +kernel) (ko0 (by omega)) rr0_6 d97_6 ?_
      refine m_getR (pc := 9) f97_180 (by decide +kernel) (ko136 (by omega)) rr136_11 d97_9 ?_
      refine x_iload_n (pc := 12) rfl d97_12 ?_
      refine x_iload_n (pc := 13) rfl d97_13 ?_
      refine x_cVs (pc := 14) c97_196 (dt_bitOut hl (la136 (by omega)) hi.frames (f := f) (b := b) c0 c9 hb (show b < 0 ∨ I 144 f * 8 ≤ b from by omega)) (ko143 (by omega)) rfl rfl (Nat.le_of_ble_eq_true rfl) (by decide +kernel) (by decide +kernel) rfl d97_14 ?_
      refine x_iret (pc := 17) rfl (fun z => Bool.noConfusion z) d97_17 ?_
      exact qc_ok h (fun _ _ => rfl)
  · rw [show isF S f = false from decide_eq_false c, if_neg Bool.false_ne_true]
    refine mkct2 hl (by decide) (Nat.le_of_ble_eq_true rfl) (L := [some (.ref 0), some (.int (iI f)), some (.int (iI b))]) rfl ?_
    refine x_aload_n (pc := 0) rfl d97_0 ?_
    refine x_iload_n (pc := 1) rfl d97_1 ?_
    refine x_cVt (pc := 2) c97_187 (dt_rfX hl hq h hS hf c) (ko0 (by omega)) rfl rfl (Nat.le_of_ble_eq_true rfl) (by decide +kernel) (by decide +kernel) rfl d97_2 ?_
    exact qc_no (by decide) rfl h (fun _ _ => rfl)
theorem cm103 (hl : l.1.stackTraces = false) (hq : 181 ≤ q) (h : CREL I S) (hS : GOK S) {b : Int} (hb : InR b) : CT l 103 [.ref 0, .int (iI b)] (mm q I v false) 1 6 (QC q v (fun _ => 0) I (oAsk S (decide (0 ≤ b ∧ b < 100)) (tkI b (gA S 0 1)))) := by
  have hi := h.inv hS
  have hs := hi.sc
  obtain ⟨hb1, hb2⟩ := hb
  have e : I 136 1 = gA S 0 1 := by rw [← h.1.1, vr1]
  unfold oAsk
  refine mkct2 hl (by decide) (Nat.le_of_ble_eq_true rfl) (L := [some (.ref 0), some (.int (iI b))]) rfl ?_
  refine x_iload_n (pc := 0) rfl d103_0 ?_
  refine x_if_lt (pc := 1) (tgt := 10) ⟨by omega, by omega⟩ d103_1 (by decide) (fun g1 => ?_) (fun g1 => ?_)
  · refine x_throw (pc := 10) x103_10 (Nat.le_of_ble_eq_true rfl) (by decide +kernel) rfl (by decide) (by decide) rfl ?_
    rw [decide_eq_false (by omega)]; exact qc_no (by decide) rfl h (fun _ _ => rfl)
  · refine x_iload_n (pc := 4) rfl d103_4 ?_
    refine x_bipush (pc := 5) (by decide) d103_5 ?_
    refine x_icmp_lt (pc := 7) (tgt := 20) ⟨by omega, by omega⟩ ⟨by omega, by omega⟩ d103_7 (by decide) (fun g7 => ?_) (fun g7 => ?_)
    · refine x_iload_n (pc := 20) rfl d103_20 ?_
      refine x_aload_n (pc := 21) rfl d103_21 ?_
      refine m_getR (pc := 22) f103_54 (by decide +kernel) (ko0 (by omega)) rr0_6 d103_22 ?_
      refine m_getI (pc := 25) (z := 1) f103_149 (by decide +kernel) rfl (ko136 (by omega)) d103_25 ?_
      refine x_val (pc := 28) (w := (gA S 0 1)) (e) ?_
      refine x_cSs (pc := 28) c103_217 (dt_tkI hl (b := b) (dr := gA S 0 1) (by omega) (by omega) (by omega) (by omega)) rfl rfl (Nat.le_of_ble_eq_true rfl) (by decide +kernel) (by decide +kernel) (by decide +kernel) rfl d103_28 ?_
      refine x_iret (pc := 31) rfl (fun z => Bool.noConfusion z) d103_31 ?_
      rw [decide_eq_true (by omega)]; exact qc_ok h (fun _ _ => rfl)
    · refine x_throw (pc := 10) x103_10 (Nat.le_of_ble_eq_true rfl) (by decide +kernel) rfl (by decide) (by decide) rfl ?_
      rw [decide_eq_false (by omega)]; exact qc_no (by decide) rfl h (fun _ _ => rfl)
end Ask2
