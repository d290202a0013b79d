/-! ===== the class's questions of sending ===== -/
section Ask3
variable {l : LX} {q : Nat} {I : Nat → Int → Int} {v : Int} {S : GS}
theorem ask_cab (h : CREL I S) (hS : GOK S) {f : Int} (c0 : 0 ≤ f) (c9 : f < I 143 0) (t bt : Int) : (∀ b : Int, 0 ≤ b → b < I 144 f * 8 → cabF I 136 f t bt b = cabZ (SfA (gA S) f) (chA (gA S) t bt) b) ∧ chF I 136 t bt = chA (gA S) t bt ∧ gA S 6 f = I 144 f ∧ (3 ≤ I 144 f ∧ I 144 f ≤ 6) ∧ resA (gA S) f t bt = resF I 136 f t bt (I 136 1) := by
  have hi := h.inv hS
  have hch : chF I 136 t bt = chA (gA S) t bt := by
    funext b
    unfold chF chA
    rw [← h.1.1, chew_vc hi]
  refine ⟨fun b b0 b1 => ?_, hch, by rw [← h.1.1]; exact (vrow c0 c9).1, (hi.fr c0 c9).1, ?_⟩
  · unfold cabF cabZ
    rw [hch, bitZ_congr (S := Sf I 136 f) (T := SfA (gA S) f) (n := I 144 f) (fun k k0 k1 => by
      unfold SfA Sf
      rw [← h.1.1]
      exact (vc_ent10 hi c0 c9 k0 k1).symm) b0 (by omega)]
  · rw [← h.1.1]; exact (res_vc hi c0 c9).1
theorem cm106 (hl : l.1.stackTraces = false) (hq : 181 ≤ q) (h : CREL I S) (hS : GOK S) {f t : Int} (hf : InR f) (ht : InR t) : CT l 106 [.ref 0, .int (iI f), .int (iI t)] (mm q I v false) 1 6 (QC q v (fun c => if c = 1 then 2 else 0) I (oAsk2 S (isF S f) (isT t) (invN (chA (gA S) t (gA S 0 0)) (gA S 6 f * 8).toNat))) := by
  have hi := h.inv hS
  have hs := hi.sc
  have hs7 : 0 ≤ I 143 0 ∧ I 143 0 ≤ 4 * I 136 7 := hs.2.2.2.2.2.2.1
  have hs5 := hs.2.2.2.2.2.1
  unfold oAsk2
  by_cases c : 0 ≤ f ∧ f < gA S 0 6
  · rw [show isF S f = true from decide_eq_true c, if_pos rfl]
    obtain ⟨c0, c1⟩ := id c
    have c9 : f < I 143 0 := by rw [← h.1.1, vr6] at c1; exact c1
    by_cases d : 0 ≤ t ∧ t ≤ 999999
    · rw [show isT t = true from decide_eq_true d, if_pos rfl]
      obtain ⟨q1, q2, q3, q4, q5⟩ := ask_cab h hS c0 c9 t (I 136 0)
      have e0 : I 136 0 = gA S 0 0 := by rw [← h.1.1, vr0]
      have e1 : I 136 1 = gA S 0 1 := by rw [← h.1.1, vr1]
      have hb0 := hs.1
      have hb1 := hs.2.1
      refine mkct2 hl (by decide) (Nat.le_of_ble_eq_true rfl) (L := [some (.ref 0), some (.int (iI f)), some (.int (iI t))]) rfl ?_
      refine x_aload_n (pc := 0) rfl d106_0 ?_
      refine x_iload_n (pc := 1) rfl d106_1 ?_
      refine x_cVv (pc := 2) c106_187 (dt_rf hl hq h hS c.1 c.2) (ko0 (by omega)) rfl rfl (Nat.le_of_ble_eq_true rfl) (by decide +kernel) (by decide +kernel) rfl d106_2 ?_
      refine x_iload_n (pc := 5) rfl d106_5 ?_
      refine x_cSv (pc := 6) c106_152 (dt_rt hl d.1 d.2) rfl rfl (Nat.le_of_ble_eq_true rfl) (by decide +kernel) (by decide +kernel) (by decide +kernel) rfl d106_6 ?_
      refine x_aload_n (pc := 9) rfl d106_9 ?_
      refine m_getR (pc := 10) f106_40 (by decide +kernel) (ko0 (by omega)) rr0_4 d106_10 ?_
      refine x_aload_n (pc := 13) rfl d106_13 ?_
      refine m_getR (pc := 14) f106_54 (by decide +kernel) (ko0 (by omega)) rr0_6 d106_14 ?_
      refine x_iload_n (pc := 17) rfl d106_17 ?_
      refine x_iload_n (pc := 18) rfl d106_18 ?_
      refine x_aload_n (pc := 19) rfl d106_19 ?_
      refine m_getR (pc := 20) f106_54 (by decide +kernel) (ko0 (by omega)) rr0_6 d106_20 ?_
      refine m_getI (pc := 23) (z := 0) f106_146 (by decide +kernel) rfl (ko136 (by omega)) d106_23 ?_
      refine x_cVev (pc := 26) c106_220 (ct_put hl hq (la136 (by omega)) hi.dogs hi.frames offC.rf (f := f) (t := t) c0 c9 d.1 (by omega) hb0.1 hb0.2) (ko11 (by omega)) rfl rfl (Nat.le_of_ble_eq_true rfl) (by decide +kernel) (by decide +kernel) d106_26 (fun J1 hJ1 => ?_)
      refine x_aload_n (pc := 29) rfl d106_29 ?_
      refine m_getR (pc := 30) f106_40 (by decide +kernel) (ko0 (by omega)) rr0_4 d106_30 ?_
      refine m_getI (pc := 33) (z := 3) f106_230 (by decide +kernel) rfl (ko11 (by omega)) d106_33 ?_
      refine x_iret (pc := 36) rfl (fun z => Bool.noConfusion z) d106_36 ?_
      obtain ⟨j0, j1, j2, j3, j4⟩ := hJ1
      rw [j2, q2, q3, ← e0]
      exact qc_ok (h.offC j0) (fun a ha => j0 a (by omega) (by omega) (by omega))
    · rw [show isT t = false from decide_eq_false d, if_neg Bool.false_ne_true]
      refine mkct2 hl (by decide) (Nat.le_of_ble_eq_true rfl) (L := [some (.ref 0), some (.int (iI f)), some (.int (iI t))]) rfl ?_
      refine x_aload_n (pc := 0) rfl d106_0 ?_
      refine x_iload_n (pc := 1) rfl d106_1 ?_
      refine x_cVv (pc := 2) c106_187 (dt_rf hl hq h hS c.1 c.2) (ko0 (by omega)) rfl rfl (Nat.le_of_ble_eq_true rfl) (by decide +kernel) (by decide +kernel) rfl d106_2 ?_
      refine x_iload_n (pc := 5) rfl d106_5 ?_
      refine x_cSt (pc := 6) c106_152 (dt_rtX hl ht d) rfl rfl (Nat.le_of_ble_eq_true rfl) (by decide +kernel) (by decide +kernel) (by decide +kernel) rfl d106_6 ?_
      exact qc_no (by decide) rfl h (fun _ _ => rfl)
  · rw [show isF S f = false from decide_eq_false c, if_neg Bool.false_ne_true]
    refine mkct2 hl (by decide) (Nat.le_of_ble_eq_true rfl) (L := [some (.ref 0), some (.int (iI f)), some (.int (iI t))]) rfl ?_
    refine x_aload_n (pc := 0) rfl d106_0 ?_
    refine x_iload_n (pc := 1) rfl d106_1 ?_
    refine x_cVt (pc := 2) c106_187 (dt_rfX hl hq h hS hf c) (ko0 (by omega)) rfl rfl (Nat.le_of_ble_eq_true rfl) (by decide +kernel) (by decide +kernel) rfl d106_2 ?_
    exact qc_no (by decide) rfl h (fun _ _ => rfl)
theorem cm107 (hl : l.1.stackTraces = false) (hq : 181 ≤ q) (h : CREL I S) (hS : GOK S) {f t : Int} (hf : InR f) (ht : InR t) : CT l 107 [.ref 0, .int (iI f), .int (iI t)] (mm q I v false) 1 6 (QC q v (fun c => if c = 1 then 2 else 0) I (oAsk2 S (isF S f) (isT t) (bstN (chA (gA S) t (gA S 0 0)) (gA S 6 f * 8).toNat))) := by
  have hi := h.inv hS
  have hs := hi.sc
  have hs7 : 0 ≤ I 143 0 ∧ I 143 0 ≤ 4 * I 136 7 := hs.2.2.2.2.2.2.1
  have hs5 := hs.2.2.2.2.2.1
  unfold oAsk2
  by_cases c : 0 ≤ f ∧ f < gA S 0 6
  · rw [show isF S f = true from decide_eq_true c, if_pos rfl]
    obtain ⟨c0, c1⟩ := id c
    have c9 : f < I 143 0 := by rw [← h.1.1, vr6] at c1; exact c1
    by_cases d : 0 ≤ t ∧ t ≤ 999999
    · rw [show isT t = true from decide_eq_true d, if_pos rfl]
      obtain ⟨q1, q2, q3, q4, q5⟩ := ask_cab h hS c0 c9 t (I 136 0)
      have e0 : I 136 0 = gA S 0 0 := by rw [← h.1.1, vr0]
      have e1 : I 136 1 = gA S 0 1 := by rw [← h.1.1, vr1]
      have hb0 := hs.1
      have hb1 := hs.2.1
      refine mkct2 hl (by decide) (Nat.le_of_ble_eq_true rfl) (L := [some (.ref 0), some (.int (iI f)), some (.int (iI t))]) rfl ?_
      refine x_aload_n (pc := 0) rfl d107_0 ?_
      refine x_iload_n (pc := 1) rfl d107_1 ?_
      refine x_cVv (pc := 2) c107_187 (dt_rf hl hq h hS c.1 c.2) (ko0 (by omega)) rfl rfl (Nat.le_of_ble_eq_true rfl) (by decide +kernel) (by decide +kernel) rfl d107_2 ?_
      refine x_iload_n (pc := 5) rfl d107_5 ?_
      refine x_cSv (pc := 6) c107_152 (dt_rt hl d.1 d.2) rfl rfl (Nat.le_of_ble_eq_true rfl) (by decide +kernel) (by decide +kernel) (by decide +kernel) rfl d107_6 ?_
      refine x_aload_n (pc := 9) rfl d107_9 ?_
      refine m_getR (pc := 10) f107_40 (by decide +kernel) (ko0 (by omega)) rr0_4 d107_10 ?_
      refine x_aload_n (pc := 13) rfl d107_13 ?_
      refine m_getR (pc := 14) f107_54 (by decide +kernel) (ko0 (by omega)) rr0_6 d107_14 ?_
      refine x_iload_n (pc := 17) rfl d107_17 ?_
      refine x_iload_n (pc := 18) rfl d107_18 ?_
      refine x_aload_n (pc := 19) rfl d107_19 ?_
      refine m_getR (pc := 20) f107_54 (by decide +kernel) (ko0 (by omega)) rr0_6 d107_20 ?_
      refine m_getI (pc := 23) (z := 0) f107_146 (by decide +kernel) rfl (ko136 (by omega)) d107_23 ?_
      refine x_cVev (pc := 26) c107_220 (ct_put hl hq (la136 (by omega)) hi.dogs hi.frames offC.rf (f := f) (t := t) c0 c9 d.1 (by omega) hb0.1 hb0.2) (ko11 (by omega)) rfl rfl (Nat.le_of_ble_eq_true rfl) (by decide +kernel) (by decide +kernel) d107_26 (fun J1 hJ1 => ?_)
      refine x_aload_n (pc := 29) rfl d107_29 ?_
      refine m_getR (pc := 30) f107_40 (by decide +kernel) (ko0 (by omega)) rr0_4 d107_30 ?_
      refine m_getI (pc := 33) (z := 4) f107_233 (by decide +kernel) rfl (ko11 (by omega)) d107_33 ?_
      refine x_iret (pc := 36) rfl (fun z => Bool.noConfusion z) d107_36 ?_
      obtain ⟨j0, j1, j2, j3, j4⟩ := hJ1
      rw [j3, q2, q3, ← e0]
      exact qc_ok (h.offC j0) (fun a ha => j0 a (by omega) (by omega) (by omega))
    · rw [show isT t = false from decide_eq_false d, if_neg Bool.false_ne_true]
      refine mkct2 hl (by decide) (Nat.le_of_ble_eq_true rfl) (L := [some (.ref 0), some (.int (iI f)), some (.int (iI t))]) rfl ?_
      refine x_aload_n (pc := 0) rfl d107_0 ?_
      refine x_iload_n (pc := 1) rfl d107_1 ?_
      refine x_cVv (pc := 2) c107_187 (dt_rf hl hq h hS c.1 c.2) (ko0 (by omega)) rfl rfl (Nat.le_of_ble_eq_true rfl) (by decide +kernel) (by decide +kernel) rfl d107_2 ?_
      refine x_iload_n (pc := 5) rfl d107_5 ?_
      refine x_cSt (pc := 6) c107_152 (dt_rtX hl ht d) rfl rfl (Nat.le_of_ble_eq_true rfl) (by decide +kernel) (by decide +kernel) (by decide +kernel) rfl d107_6 ?_
      exact qc_no (by decide) rfl h (fun _ _ => rfl)
  · rw [show isF S f = false from decide_eq_false c, if_neg Bool.false_ne_true]
    refine mkct2 hl (by decide) (Nat.le_of_ble_eq_true rfl) (L := [some (.ref 0), some (.int (iI f)), some (.int (iI t))]) rfl ?_
    refine x_aload_n (pc := 0) rfl d107_0 ?_
    refine x_iload_n (pc := 1) rfl d107_1 ?_
    refine x_cVt (pc := 2) c107_187 (dt_rfX hl hq h hS hf c) (ko0 (by omega)) rfl rfl (Nat.le_of_ble_eq_true rfl) (by decide +kernel) (by decide +kernel) rfl d107_2 ?_
    exact qc_no (by decide) rfl h (fun _ _ => rfl)
theorem cm109 (hl : l.1.stackTraces = false) (hq : 181 ≤ q) (h : CREL I S) (hS : GOK S) {f t : Int} (hf : InR f) (ht : InR t) : CT l 109 [.ref 0, .int (iI f), .int (iI t)] (mm q I v false) 1 6 (QC q v (fun c => if c = 1 then 2 else 0) I (oAsk2 S (isF S f) (isT t) (resA (gA S) f t (gA S 0 0)))) := by
  have hi := h.inv hS
  have hs := hi.sc
  have hs7 : 0 ≤ I 143 0 ∧ I 143 0 ≤ 4 * I 136 7 := hs.2.2.2.2.2.2.1
  have hs5 := hs.2.2.2.2.2.1
  unfold oAsk2
  by_cases c : 0 ≤ f ∧ f < gA S 0 6
  · rw [show isF S f = true from decide_eq_true c, if_pos rfl]
    obtain ⟨c0, c1⟩ := id c
    have c9 : f < I 143 0 := by rw [← h.1.1, vr6] at c1; exact c1
    by_cases d : 0 ≤ t ∧ t ≤ 999999
    · rw [show isT t = true from decide_eq_true d, if_pos rfl]
      obtain ⟨q1, q2, q3, q4, q5⟩ := ask_cab h hS c0 c9 t (I 136 0)
      have e0 : I 136 0 = gA S 0 0 := by rw [← h.1.1, vr0]
      have e1 : I 136 1 = gA S 0 1 := by rw [← h.1.1, vr1]
      have hb0 := hs.1
      have hb1 := hs.2.1
      refine mkct2 hl (by decide) (Nat.le_of_ble_eq_true rfl) (L := [some (.ref 0), some (.int (iI f)), some (.int (iI t))]) rfl ?_
      refine x_aload_n (pc := 0) rfl d109_0 ?_
      refine x_iload_n (pc := 1) rfl d109_1 ?_
      refine x_cVv (pc := 2) c109_187 (dt_rf hl hq h hS c.1 c.2) (ko0 (by omega)) rfl rfl (Nat.le_of_ble_eq_true rfl) (by decide +kernel) (by decide +kernel) rfl d109_2 ?_
      refine x_iload_n (pc := 5) rfl d109_5 ?_
      refine x_cSv (pc := 6) c109_152 (dt_rt hl d.1 d.2) rfl rfl (Nat.le_of_ble_eq_true rfl) (by decide +kernel) (by decide +kernel) (by decide +kernel) rfl d109_6 ?_
      refine x_aload_n (pc := 9) rfl d109_9 ?_
      refine m_getR (pc := 10) f109_40 (by decide +kernel) (ko0 (by omega)) rr0_4 d109_10 ?_
      refine x_aload_n (pc := 13) rfl d109_13 ?_
      refine m_getR (pc := 14) f109_54 (by decide +kernel) (ko0 (by omega)) rr0_6 d109_14 ?_
      refine x_iload_n (pc := 17) rfl d109_17 ?_
      refine x_iload_n (pc := 18) rfl d109_18 ?_
      refine x_aload_n (pc := 19) rfl d109_19 ?_
      refine m_getR (pc := 20) f109_54 (by decide +kernel) (ko0 (by omega)) rr0_6 d109_20 ?_
      refine m_getI (pc := 23) (z := 0) f109_146 (by decide +kernel) rfl (ko136 (by omega)) d109_23 ?_
      refine x_cVes (pc := 26) c109_236 (ct_send hl hq (la136 (by omega)) hi.dogs hi.frames offC.rf (f := f) (t := t) (bt := I 136 0) c0 c9 d.1 (by omega) hb0.1 hb0.2 hb1.1 hb1.2) (ko11 (by omega)) rfl rfl (Nat.le_of_ble_eq_true rfl) (by decide +kernel) (by decide +kernel) d109_26 (fun J1 hJ1 => ?_)
      refine x_iret (pc := 29) rfl (fun z => Bool.noConfusion z) d109_29 ?_
      rw [← q5, ← e0]
      exact qc_ok (h.offC hJ1.1) (fun a ha => hJ1.1 a (by omega) (by omega) (by omega))
    · rw [show isT t = false from decide_eq_false d, if_neg Bool.false_ne_true]
      refine mkct2 hl (by decide) (Nat.le_of_ble_eq_true rfl) (L := [some (.ref 0), some (.int (iI f)), some (.int (iI t))]) rfl ?_
      refine x_aload_n (pc := 0) rfl d109_0 ?_
      refine x_iload_n (pc := 1) rfl d109_1 ?_
      refine x_cVv (pc := 2) c109_187 (dt_rf hl hq h hS c.1 c.2) (ko0 (by omega)) rfl rfl (Nat.le_of_ble_eq_true rfl) (by decide +kernel) (by decide +kernel) rfl d109_2 ?_
      refine x_iload_n (pc := 5) rfl d109_5 ?_
      refine x_cSt (pc := 6) c109_152 (dt_rtX hl ht d) rfl rfl (Nat.le_of_ble_eq_true rfl) (by decide +kernel) (by decide +kernel) (by decide +kernel) rfl d109_6 ?_
      exact qc_no (by decide) rfl h (fun _ _ => rfl)
  · rw [show isF S f = false from decide_eq_false c, if_neg Bool.false_ne_true]
    refine mkct2 hl (by decide) (Nat.le_of_ble_eq_true rfl) (L := [some (.ref 0), some (.int (iI f)), some (.int (iI t))]) rfl ?_
    refine x_aload_n (pc := 0) rfl d109_0 ?_
    refine x_iload_n (pc := 1) rfl d109_1 ?_
    refine x_cVt (pc := 2) c109_187 (dt_rfX hl hq h hS hf c) (ko0 (by omega)) rfl rfl (Nat.le_of_ble_eq_true rfl) (by decide +kernel) (by decide +kernel) rfl d109_2 ?_
    exact qc_no (by decide) rfl h (fun _ _ => rfl)
theorem cm105 (hl : l.1.stackTraces = false) (hq : 181 ≤ q) (h : CREL I S) (hS : GOK S) {f b t : Int} (hf : InR f) (hb : InR b) (ht : InR t) : CT l 105 [.ref 0, .int (iI f), .int (iI b), .int (iI t)] (mm q I v false) 1 6 (QC q v (fun c => if c = 1 then 2 else 0) I (oAsk2 S (isF S f) (isT t) (if 0 ≤ b ∧ b < gA S 6 f * 8 then takB (gA S) f t b else -1))) := by
  have hi := h.inv hS
  have hs := hi.sc
  have hs7 : 0 ≤ I 143 0 ∧ I 143 0 ≤ 4 * I 136 7 := hs.2.2.2.2.2.2.1
  have hs5 := hs.2.2.2.2.2.1
  unfold oAsk2
  by_cases c : 0 ≤ f ∧ f < gA S 0 6
  · rw [show isF S f = true from decide_eq_true c, if_pos rfl]
    obtain ⟨c0, c1⟩ := id c
    have c9 : f < I 143 0 := by rw [← h.1.1, vr6] at c1; exact c1
    by_cases d : 0 ≤ t ∧ t ≤ 999999
    · rw [show isT t = true from decide_eq_true d, if_pos rfl]
      obtain ⟨q1, q2, q3, q4, q5⟩ := ask_cab h hS c0 c9 t (I 136 0)
      have e0 : I 136 0 = gA S 0 0 := by rw [← h.1.1, vr0]
      have e1 : I 136 1 = gA S 0 1 := by rw [← h.1.1, vr1]
      have hb0 := hs.1
      have hb1 := hs.2.1
      obtain ⟨hb2, hb3⟩ := hb
      refine mkct2 hl (by decide) (Nat.le_of_ble_eq_true rfl) (L := [some (.ref 0), some (.int (iI f)), some (.int (iI b)), some (.int (iI t))]) rfl ?_
      refine x_aload_n (pc := 0) rfl d105_0 ?_
      refine x_iload_n (pc := 1) rfl d105_1 ?_
      refine x_cVv (pc := 2) c105_187 (dt_rf hl hq h hS c.1 c.2) (ko0 (by omega)) rfl rfl (Nat.le_of_ble_eq_true rfl) (by decide +kernel) (by decide +kernel) rfl d105_2 ?_
      refine x_iload_n (pc := 5) rfl d105_5 ?_
      refine x_cSv (pc := 6) c105_152 (dt_rt hl d.1 d.2) rfl rfl (Nat.le_of_ble_eq_true rfl) (by decide +kernel) (by decide +kernel) (by decide +kernel) rfl d105_6 ?_
      refine x_aload_n (pc := 9) rfl d105_9 ?_
      refine m_getR (pc := 10) f105_40 (by decide +kernel) (ko0 (by omega)) rr0_4 d105_10 ?_
      refine x_aload_n (pc := 13) rfl d105_13 ?_
      refine m_getR (pc := 14) f105_54 (by decide +kernel) (ko0 (by omega)) rr0_6 d105_14 ?_
      refine x_iload_n (pc := 17) rfl d105_17 ?_
      refine x_iload_n (pc := 18) rfl d105_18 ?_
      refine x_aload_n (pc := 19) rfl d105_19 ?_
      refine m_getR (pc := 20) f105_54 (by decide +kernel) (ko0 (by omega)) rr0_6 d105_20 ?_
      refine m_getI (pc := 23) (z := 0) f105_146 (by decide +kernel) rfl (ko136 (by omega)) d105_23 ?_
      refine x_cVev (pc := 26) c105_220 (ct_put hl hq (la136 (by omega)) hi.dogs hi.frames offC.rf (f := f) (t := t) c0 c9 d.1 (by omega) hb0.1 hb0.2) (ko11 (by omega)) rfl rfl (Nat.le_of_ble_eq_true rfl) (by decide +kernel) (by decide +kernel) d105_26 (fun J1 hJ1 => ?_)
      obtain ⟨j0, j1, j2, j3, j4⟩ := hJ1
      have hC : CabI J1 (I 144 f * 8) (cabF I 136 f t (I 136 0)) := ⟨j1, fun b b0 b1 => j4 b b0 (show b < (((I 144 f * 8).toNat : Nat) : Int) from by omega)⟩
      refine x_iload_n (pc := 29) rfl d105_29 ?_
      refine x_if_lt (pc := 30) (tgt := 44) ⟨by omega, by omega⟩ d105_30 (by decide) (fun g30 => ?_) (fun g30 => ?_)
      · refine x_iconst (pc := 44) d105_44 ?_
        refine x_iret (pc := 45) rfl (fun z => Bool.noConfusion z) d105_45 ?_
        rw [q3, if_neg (by omega)]; exact qc_ok (h.offC j0) (fun a ha => j0 a (by omega) (by omega) (by omega))
      · refine x_iload_n (pc := 33) rfl d105_33 ?_
        refine x_aload_n (pc := 34) rfl d105_34 ?_
        refine m_getR (pc := 35) f105_40 (by decide +kernel) (ko0 (by omega)) rr0_4 d105_35 ?_
        refine m_getI (pc := 38) (z := 2) f105_224 (by decide +kernel) rfl (ko11 (by omega)) d105_38 ?_
        refine x_val (pc := 41) (w := (I 144 f * 8)) (j1) ?_
        refine x_icmp_lt (pc := 41) (tgt := 46) ⟨by omega, by omega⟩ ⟨by omega, by omega⟩ d105_41 (by decide) (fun g41 => ?_) (fun g41 => ?_)
        · refine x_aload_n (pc := 46) rfl d105_46 ?_
          refine m_getR (pc := 47) f105_40 (by decide +kernel) (ko0 (by omega)) rr0_4 d105_47 ?_
          refine x_iload_n (pc := 50) rfl d105_50 ?_
          refine x_aload_n (pc := 51) rfl d105_51 ?_
          refine m_getR (pc := 52) f105_54 (by decide +kernel) (ko0 (by omega)) rr0_6 d105_52 ?_
          refine m_getI (pc := 55) (z := 1) f105_149 (by decide +kernel) rfl (ko136 (by omega)) d105_55 ?_
          refine x_val (pc := 58) (w := (I 136 1)) (by rw [j0 136 (by decide) (by decide) (by decide)]) ?_
          refine x_cVs (pc := 58) c105_227 (dt_takenBit hl hq (n := I 144 f * 8) (cb := cabF I 136 f t (I 136 0)) hC (by omega) (b := b) (dr := I 136 1) (by omega) (by omega) hb1.1 hb1.2 (by omega)) (ko11 (by omega)) rfl rfl (Nat.le_of_ble_eq_true rfl) (by decide +kernel) (by decide +kernel) rfl d105_58 ?_
          refine x_iret (pc := 61) rfl (fun z => Bool.noConfusion z) d105_61 ?_
          have e : takZ (cabF I 136 f t (I 136 0)) (I 144 f * 8) (I 136 1) b = takB (gA S) f t b := by
            unfold takB
            rw [q3, ← e0, ← e1]
            exact takZ_congr (fun x x0 x1 => q1 x x0 x1) hb1.1 hb1.2 (by omega) (by omega)
          rw [q3, if_pos (by omega), e]; exact qc_ok (h.offC j0) (fun a ha => j0 a (by omega) (by omega) (by omega))
        · refine x_iconst (pc := 44) d105_44 ?_
          refine x_iret (pc := 45) rfl (fun z => Bool.noConfusion z) d105_45 ?_
          rw [q3, if_neg (by omega)]; exact qc_ok (h.offC j0) (fun a ha => j0 a (by omega) (by omega) (by omega))
    · rw [show isT t = false from decide_eq_false d, if_neg Bool.false_ne_true]
      refine mkct2 hl (by decide) (Nat.le_of_ble_eq_true rfl) (L := [some (.ref 0), some (.int (iI f)), some (.int (iI b)), some (.int (iI t))]) rfl ?_
      refine x_aload_n (pc := 0) rfl d105_0 ?_
      refine x_iload_n (pc := 1) rfl d105_1 ?_
      refine x_cVv (pc := 2) c105_187 (dt_rf hl hq h hS c.1 c.2) (ko0 (by omega)) rfl rfl (Nat.le_of_ble_eq_true rfl) (by decide +kernel) (by decide +kernel) rfl d105_2 ?_
      refine x_iload_n (pc := 5) rfl d105_5 ?_
      refine x_cSt (pc := 6) c105_152 (dt_rtX hl ht d) rfl rfl (Nat.le_of_ble_eq_true rfl) (by decide +kernel) (by decide +kernel) (by decide +kernel) rfl d105_6 ?_
      exact qc_no (by decide) rfl h (fun _ _ => rfl)
  · rw [show isF S f = false from decide_eq_false c, if_neg Bool.false_ne_true]
    refine mkct2 hl (by decide) (Nat.le_of_ble_eq_true rfl) (L := [some (.ref 0), some (.int (iI f)), some (.int (iI b)), some (.int (iI t))]) rfl ?_
    refine x_aload_n (pc := 0) rfl d105_0 ?_
    refine x_iload_n (pc := 1) rfl d105_1 ?_
    refine x_cVt (pc := 2) c105_187 (dt_rfX hl hq h hS hf c) (ko0 (by omega)) rfl rfl (Nat.le_of_ble_eq_true rfl) (by decide +kernel) (by decide +kernel) rfl d105_2 ?_
    exact qc_no (by decide) rfl h (fun _ _ => rfl)
end Ask3
