/-! ===== the law's load ===== -/
section Load
variable {l : LX} {v : Int} {S : GS}
theorem ct_reads (hl : l.1.stackTraces = false) (hS : GOK S) {I : Nat → Int → Int} (hI : CREL I S) (hr : (oLoad S).1 = 0) : CT l 301 [.ref 0] (mm 181 I v false) 1 6 (oE 181 v false (some (.int (iI (oLoad S).2.1))) (fun K => CREL K (oLoad S).2.2)) := by
  refine mkct2 hl (by decide) (Nat.le_of_ble_eq_true rfl) (L := [some (.ref 0), none]) rfl ?_
  refine x_aload_n (pc := 0) rfl d301_0 ?_
  refine x_doV (B := 0) (pc := 1) (As := []) (rest := []) c301_14 (cm78 (q := 181) (v := v) hl (by decide) hI hS) (ko0 (by omega)) rfl rfl (Nat.le_of_ble_eq_true rfl) (by decide +kernel) (by decide +kernel) d301_1 (fun K h0 hK => ?_) (fun K h0 hK => absurd hr h0)
  exact x_iret rfl (fun z => Bool.noConfusion z) d301_4 ⟨K, rfl, hK⟩
theorem ct_load {len : Nat} {T W : Int → Int} (hl : l.1.stackTraces = false) (hlen : len ≤ 60) (hT : ∀ i : Int, 0 ≤ i → i < len → 0 ≤ T i ∧ T i ≤ 127) {I : Nat → Int → Int} (hg : gL S = 0) (hS : GOK S) (hI : CREL I S) {C : AV} (hC : ∀ T2 : Int → Int, (∀ i : Int, 0 ≤ i → i < len → T2 i = T i) → (confP T2 len).1 = 0 ∧ (confP T2 len).2.2 = C) : CT l 303 [.ref 0, .ref 181] (tm 183 len I T W v) 8 (6 * 8) (oE 181 v false (some (.int (iI (C 0 4)))) (fun K => ∃ S2 : GS, CREL K S2 ∧ GOK S2 ∧ gL S2 = 0 ∧ gA S2 = C)) := by
  refine mkct2 hl (by decide) (Nat.le_of_ble_eq_true rfl) (L := [some (.ref 0), some (.ref 181)]) rfl ?_
  refine x_aload_n (pc := 0) rfl d303_0 ?_
  refine x_aload_n (pc := 1) rfl d303_1 ?_
  refine x_callS2 (k := 0 + 1) (n := 6 * (0 + 1)) (pc := 2) (t := 302) (As := [.ref 0, .ref 181]) (rest := []) c303_41 (ct_comes (S := S) (W := W) hl hlen hT hg hS hI) rfl rfl (Nat.le_of_ble_eq_true rfl) (by decide +kernel) (by decide +kernel) d303_2 (Or.inr fun v' τ' e => by obtain ⟨J, e1, -⟩ := e; cases e1; rfl) (fun v' τ' e => ?_) (fun E τ' e _ => by obtain ⟨J, e1, -⟩ := e; cases e1)
  obtain ⟨K, e1, T2, h2, hK⟩ := e
  cases e1
  obtain ⟨c1, c2⟩ := hC T2 h2
  have hS1 : GOK (sL S ((len : Int), T2)) := ⟨hS.1, hS.2.1, hS.2.2.1, ⟨(show 0 ≤ (len : Int) ∧ (len : Int) ≤ 500 by omega), fun i i0 i1 => by
    show 0 ≤ T2 i ∧ T2 i ≤ 255
    rw [h2 i i0 i1]
    have := hT i i0 i1
    omega⟩, hS.2.2.2.2⟩
  have e : oLoad (sL S ((len : Int), T2)) = (0, C 0 4, sH (sA (sE (sL S (0, T2)) (0, -1)) C) (gH S, 0)) := by
    unfold oLoad
    rw [if_pos (show (confP (gT (sL S ((len : Int), T2))) (gL (sL S ((len : Int), T2)))).1 = 0 from c1)]
    show (0, (confP T2 len).2.2 0 4, sH (sA (sE (sL (sL S ((len : Int), T2)) (0, T2)) (0, -1)) (confP T2 len).2.2) (gH S, 0)) = _
    rw [c2]
    rfl
  have hr := ct_reads (v := v) hl hS1 hK (by rw [e])
  have hgk := gok_load hS1
  rw [e] at hr hgk
  refine x_aload_n (pc := 5) rfl d303_5 ?_
  refine x_qW (pc := 6) (B := 0) (B0 := 1) (As := [.ref 0]) (rest := []) c303_47 hr rfl rfl (Nat.le_of_ble_eq_true rfl) (by decide +kernel) (by decide +kernel) d303_6 (fun K2 hK2 => ?_)
  exact x_iret rfl (fun z => Bool.noConfusion z) d303_9 ⟨K2, rfl, _, hK2, hgk, rfl, rfl⟩
end Load
