/-! ===== the law's acts: a text is sent, on ===== -/
section Acts5
variable {l : LX} {v x y z : Int} {S : GS} {Q : OO → Prop}
def a1A (A : AV) (x y z : Int) : AV := if A 0 5 < 12 then addA A (ltB y z (1 + x % 10)) (1 + x % 10) else A
theorem bfA_lt {T : Int → Int} {m : Int} (h : ∀ j : Int, 0 ≤ j → j < m → T j = lttr y z j) : bfA T 0 m = ltB y z m := by
  funext k
  unfold bfA ltB
  by_cases d : 0 ≤ k ∧ k < m
  · rw [if_pos d, if_pos d, Int.zero_add, h k d.1 d.2]
  · rw [if_neg d, if_neg d]
theorem new_st {A : AV} {m n : Int} (h5 : A 5 m = n) (h7 : A 7 n = 0) (h4 : 1 ≤ A 4 m) : stA A m = 0 := by
  have e : hasA A m 0 = true := by
    unfold hasA
    rw [h5, show ((A 4 m + 3) / 4).toNat = ((A 4 m + 3) / 4).toNat - 1 + 1 from by omega]
    show (decide (A 7 n = 0) || _) = true
    rw [decide_eq_true h7]
    rfl
  unfold stA
  rw [e]
  rfl
/-- the text is sent -/
theorem a1_send (hl : l.1.stackTraces = false) (hS : GOK S) (hL : gL S = 0) (hPi : PI (gA S)) (hc : gA S 0 7 ≤ 600000) (x0 : 0 ≤ x) (x1 : x ≤ 99999) (y0 : 0 ≤ y) (y1 : y ≤ 99999) (z0 : 0 ≤ z) (z1 : z ≤ 99999) {K : Nat → Int → Int} {T2 : Int → Int} (hT : ∀ j : Int, 0 ≤ j → j < 1 + x % 10 → T2 j = lttr y z j) (hK : CREL K (sL S (1 + x % 10, T2))) : Ex l 311 16 (6 * 16) 130 [some (.ref 0), none, some (.int (iI x)), none, none, some (.int (iI (gA S 0 5))), none, none, none, none] [] (mm 181 K v false) (oE 181 v false (some (.int (iI 1))) (AC S (a1A (gA S) x y z))) := by
  have h48 := fr48 hS
  obtain ⟨r1, r2, r3, r4, r5, r6, r7, r8, r9, r10⟩ := hS.1.rg
  have hcb := cB_v
  have hS1 : GOK (sL S (1 + x % 10, T2)) := ⟨hS.1, hS.2.1, hS.2.2.1, ⟨(show 0 ≤ 1 + x % 10 ∧ 1 + x % 10 ≤ 500 by omega), fun i i0 i1 => by
    show 0 ≤ T2 i ∧ T2 i ≤ 255
    rw [hT i i0 i1]
    have := lttr_r (y := y) (z := z) (k := i)
    omega⟩, hS.2.2.2.2⟩
  have hx1 : 1 ≤ 1 + x % 10 ∧ 1 + x % 10 ≤ 16 := by omega
  have h127 := ct_do0 (a := 0) (b := 0) (c := 0) (v := v) hl (E := fun c => if c = 1 then 0 else 1) (r := oSend (sL S (1 + x % 10, T2))) (by by_cases e : (oSend (sL S (1 + x % 10, T2))).1 = 1 <;> simp [e]) (cm127 (q := 181) (v := v) hl (by decide) hK hS1)
  have hgk := gok_send hS1
  refine x_aload_n (pc := 130) rfl d311_130 ?_
  refine x_iconst (pc := 131) d311_131 ?_
  refine x_iconst (pc := 132) d311_132 ?_
  refine x_iconst (pc := 133) d311_133 ?_
  refine x_iconst (pc := 134) d311_134 ?_
  refine ex_le (B' := 12 + 1) (by omega) rfl ?_
  by_cases d : gA S 0 5 < 12
  · have eo : oSend (sL S (1 + x % 10, T2)) = (0, gA S 0 5, sL (sA (keepG (sL S (1 + x % 10, T2))) (addA (gA S) (ltB y z (1 + x % 10)) (1 + x % 10))) (0, T2)) := by
      unfold oSend
      rw [if_pos (show 1 ≤ gL (sL S (1 + x % 10, T2)) ∧ gL (sL S (1 + x % 10, T2)) ≤ 16 from hx1), if_pos (show gA (sL S (1 + x % 10, T2)) 0 5 < 12 from d)]
      show (0, gA S 0 5, sL (sA (keepG (sL S (1 + x % 10, T2))) (addA (gA S) (bfA T2 0 (1 + x % 10)) (1 + x % 10))) (0, T2)) = _
      rw [bfA_lt hT]
    rw [eo] at h127 hgk
    obtain ⟨a1, a2, a3, a4, a5, a6, a7, a8, a9, a10⟩ := add_ok (B := ltB y z (1 + x % 10)) (n := 1 + x % 10) hS.1 hPi hx1
    rw [show a1A (gA S) x y z = addA (gA S) (ltB y z (1 + x % 10)) (1 + x % 10) from if_pos d]
    refine x_qW (pc := 135) (B0 := 1) (As := [.ref 0, .int (iI 0), .int (iI 0), .int (iI 0), .int (iI 0)]) (rest := []) c311_240 h127 rfl rfl (Nat.le_of_ble_eq_true rfl) (by decide +kernel) (by decide +kernel) d311_135 (fun K2 hK2 => ?_)
    have a4p : 1 ≤ addA (gA S) (ltB y z (1 + x % 10)) (1 + x % 10) 4 (gA S 0 5) := by rw [a4]; omega
    have kh := keep_h (sL S (1 + x % 10, T2)) 0 (addA (gA S) (ltB y z (1 + x % 10)) (1 + x % 10)) hS1
    exact a1_ok hl hgk x0 x1 (fun K3 h3 => ⟨_, h3, hgk, rfl, rfl, Or.inr kh⟩) hK2 ⟨by omega, d⟩ rfl (show gA S 0 5 < addA (gA S) (ltB y z (1 + x % 10)) (1 + x % 10) 0 5 by omega) a4 (new_st a5 a6 a4p)
  · have eo : oSend (sL S (1 + x % 10, T2)) = (2, 0, sL S (1 + x % 10, T2)) := by
      unfold oSend
      rw [if_pos (show 1 ≤ gL (sL S (1 + x % 10, T2)) ∧ gL (sL S (1 + x % 10, T2)) ≤ 16 from hx1), if_neg (show ¬ gA (sL S (1 + x % 10, T2)) 0 5 < 12 from d)]
    rw [show a1A (gA S) x y z = gA S from if_neg d]
    refine x_qW (pc := 135) (B0 := 1) (As := [.ref 0, .int (iI 0), .int (iI 0), .int (iI 0), .int (iI 0)]) (rest := []) c311_240 (dd_no h127 eo (by decide) rfl) rfl rfl (Nat.le_of_ble_eq_true rfl) (by decide +kernel) (by decide +kernel) d311_135 (fun K2 hK2 => ?_)
    refine x_val (pc := 138) (w := -1003) (by decide) ?_
    refine a1_no hl hS1 x0 x1 (fun K3 h3 => ⟨_, h3, ?_, rfl, rfl, Or.inl rfl⟩) hK2 ⟨by show 0 ≤ 1 + x % 10; omega, by show 1 + x % 10 ≤ 500; omega⟩ (by omega) rfl
    exact ⟨hS.1, hS.2.1, hS.2.2.1, ⟨by show (0 : Int) ≤ 0 ∧ (0 : Int) ≤ 500; decide, fun i i0 i1 => absurd (show i < 0 from i1) (by omega)⟩, hS.2.2.2.2⟩
theorem act_n0 (hl : l.1.stackTraces = false) (hS : GOK S) (hL : gL S = 0) (hPi : PI (gA S)) (hc : gA S 0 7 ≤ 600000) {I : Nat → Int → Int} (hI : CREL I S) (x0 : 0 ≤ x) (x1 : x ≤ 99999) (y0 : 0 ≤ y) (y1 : y ≤ 99999) (z0 : 0 ≤ z) (z1 : z ≤ 99999) : Ex l 311 40 (6 * 40) 22 [some (.ref 0), none, some (.int (iI x)), some (.int (iI y)), some (.int (iI z)), some (.int (iI (gA S 0 5))), some (.int (iI (if gA S 0 5 = 0 then 0 else x % gA S 0 5))), none, none, none] [.int (iI 0)] (mm 181 I v false) (oE 181 v false (some (.int (iI 1))) (AC S (a1A (gA S) x y z))) := by
  have h48 := fr48 hS
  obtain ⟨r1, r2, r3, r4, r5, r6, r7, r8, r9, r10⟩ := hS.1.rg
  have hcb := cB_v
  refine x_tabIn (pc := 22) (tgt := 72) ⟨by omega, by omega⟩ d311_22 (by decide) (by decide) rfl (by decide) ?_
  refine x_mask [true, true, true, true, true, true, false, true, true, true] ?_
  dsimp only [mask]
  refine x_less (k2 := 39 + 1) (n2 := 6 * 39 + nf 15) (by omega) (by decide) rfl ?_
  refine x_newTC (pc := 72) (n0 := 181) n311_244 (show 181 < scr by decide) rfl pin_ac (show 181 ≤ 181 by decide) r0_rf rfl rfl d311_72 ?_
  refine x_cut (σ' := sh 181 (mm 181 I v false) nb0) (show 182 ≤ 182 by decide) rfl (fun i hi => ?_) ?_
  · have hi : i < 182 := hi
    by_cases g : i < 181
    · refine ⟨funext fun j => ?_, funext fun j => ?_, ?_⟩
      · exact (if_pos g).trans (if_neg (show ¬ i = 181 by omega)).symm
      · exact (if_pos g).trans (if_neg (show ¬ i = 181 by omega)).symm
      · exact (if_pos g).trans (if_neg (show ¬ i = 181 by omega)).symm
    · have e : i = 181 := by omega
      subst e
      exact ⟨rfl, rfl, rfl⟩
  · refine x_dup (pc := 75) rfl d311_75 ?_
    refine x_less (k2 := 1 + 36) (n2 := 16 + 6 * 36) (by omega) (by omega) rfl ?_
    refine x_bI (pc := 76) (b := 181) (n0 := 181) (rest := [.ref 181]) hl c311_246 (by decide) r0_rf (Nat.le_of_ble_eq_true rfl) rfl rfl pin_ac (by decide) (by decide +kernel) (by decide +kernel) d311_76 (fun τ hB hn => ?_)
    refine x_astore (pc := 79) (by decide +kernel) rfl d311_79 ?_
    dsimp only [List.set]
    refine x_iconst (pc := 81) d311_81 ?_
    refine x_istore (pc := 82) (by decide +kernel) rfl d311_82 ?_
    dsimp only [List.set]
    refine x_mask [true, true, true, true, true, true, false, true, true, true] ?_
    dsimp only [mask]
    refine lp_lt hl pin_ac x0 x1 y0 y1 z0 z1 (1 + x % 10).toNat 0 τ _ (by omega) hB (by omega) (fun j j0 j1 => by omega) (fun τ T hB hn hT => ?_)
    have hbn := bs_n hB
    refine x_aload_n (pc := 121) rfl d311_121 ?_
    refine x_aload (pc := 122) rfl d311_122 ?_
    refine x_mask [true, true, true, false, false, true, true, false, true, true] ?_
    dsimp only [mask]
    refine x_less (k2 := 2 + (7 + 16)) (n2 := (1 + x % 10).toNat + 4 + (6 * 7 + 6 * 16)) (by omega) (by omega) rfl ?_
    refine x_bT (pc := 124) (m := (1 + x % 10).toNat) (b := 181) (n0 := 181) (rest := [.ref 0]) hl c311_250 hB (by omega) (by omega) (by omega) (by decide) r0_rf (Nat.le_of_ble_eq_true rfl) rfl rfl pin_ac (by decide) (by decide +kernel) (by decide +kernel) d311_124 (fun w hw hT2 hr => ?_)
    refine x_text (by omega) (by omega) pin_ac (fun q hq => ?_) ?_
    · simp only [List.mem_cons, Option.some.injEq, List.not_mem_nil, or_false, reduceCtorEq, false_or] at hq
      rcases hq with rfl | rfl | rfl
      · exact Or.inr rfl
      · exact Or.inl ⟨_, rfl⟩
      · exact Or.inl ⟨_, rfl⟩
    · have hTT : ∀ j : Int, 0 ≤ j → j < (((1 + x % 10).toNat : Nat) : Int) → (stM (mkC τ 125) τ.2.2.2.1 w (1 + x % 10).toNat).1 (τ.2.2.2.1 + 1) j = lttr y z j := fun j j0 j1 => by
        rw [stM_T hw j0 j1, hT2 j j0 j1]
        exact hT j j0 (by omega)
      refine x_callS2 (k := 16) (n := 6 * 16) (pc := 127) (t := 302) (As := [.ref 0, .ref 181]) (rest := []) c311_41 (ct_comes (len := (1 + x % 10).toNat) (S := S) (W := fun _ => 0) hl (by omega) (fun i i0 i1 => by rw [hTT i i0 i1]; have := lttr_r (y := y) (z := z) (k := i); omega) hL hS hI) rfl rfl (Nat.le_of_ble_eq_true rfl) (by decide +kernel) (by decide +kernel) d311_127 (Or.inr fun v' τ' e => by obtain ⟨J, e1, -⟩ := e; cases e1; rfl) (fun v' τ' e => ?_) (fun E τ' e _ => by obtain ⟨J, e1, -⟩ := e; cases e1)
      obtain ⟨K, e1, T2, h2, hK⟩ := e
      cases e1
      rw [show (((1 + x % 10).toNat : Nat) : Int) = 1 + x % 10 from by omega] at h2 hK hTT
      exact a1_send hl hS hL hPi hc x0 x1 y0 y1 z0 z1 (fun j j0 j1 => (h2 j j0 j1).trans (hTT j j0 j1)) hK
theorem act_n1 (hl : l.1.stackTraces = false) (hS : GOK S) (hL : gL S = 0) (hPi : PI (gA S)) (hc : gA S 0 7 ≤ 600000) {I : Nat → Int → Int} (hI : CREL I S) (x0 : 0 ≤ x) (x1 : x ≤ 99999) (y0 : 0 ≤ y) (y1 : y ≤ 99999) (z0 : 0 ≤ z) (z1 : z ≤ 99999) : Ex l 311 40 (6 * 40) 22 [some (.ref 0), none, some (.int (iI x)), some (.int (iI y)), some (.int (iI z)), some (.int (iI (gA S 0 5))), some (.int (iI (if gA S 0 5 = 0 then 0 else x % gA S 0 5))), none, none, none] [.int (iI 1)] (mm 181 I v false) (oE 181 v false (some (.int (iI 1))) (AC S (a1A (gA S) x y z))) := by
  have h48 := fr48 hS
  obtain ⟨r1, r2, r3, r4, r5, r6, r7, r8, r9, r10⟩ := hS.1.rg
  have hcb := cB_v
  refine x_tabIn (pc := 22) (tgt := 72) ⟨by omega, by omega⟩ d311_22 (by decide) (by decide) rfl (by decide) ?_
  refine x_mask [true, true, true, true, true, true, false, true, true, true] ?_
  dsimp only [mask]
  refine x_less (k2 := 39 + 1) (n2 := 6 * 39 + nf 15) (by omega) (by decide) rfl ?_
  refine x_newTC (pc := 72) (n0 := 181) n311_244 (show 181 < scr by decide) rfl pin_ac (show 181 ≤ 181 by decide) r0_rf rfl rfl d311_72 ?_
  refine x_cut (σ' := sh 181 (mm 181 I v false) nb0) (show 182 ≤ 182 by decide) rfl (fun i hi => ?_) ?_
  · have hi : i < 182 := hi
    by_cases g : i < 181
    · refine ⟨funext fun j => ?_, funext fun j => ?_, ?_⟩
      · exact (if_pos g).trans (if_neg (show ¬ i = 181 by omega)).symm
      · exact (if_pos g).trans (if_neg (show ¬ i = 181 by omega)).symm
      · exact (if_pos g).trans (if_neg (show ¬ i = 181 by omega)).symm
    · have e : i = 181 := by omega
      subst e
      exact ⟨rfl, rfl, rfl⟩
  · refine x_dup (pc := 75) rfl d311_75 ?_
    refine x_less (k2 := 1 + 36) (n2 := 16 + 6 * 36) (by omega) (by omega) rfl ?_
    refine x_bI (pc := 76) (b := 181) (n0 := 181) (rest := [.ref 181]) hl c311_246 (by decide) r0_rf (Nat.le_of_ble_eq_true rfl) rfl rfl pin_ac (by decide) (by decide +kernel) (by decide +kernel) d311_76 (fun τ hB hn => ?_)
    refine x_astore (pc := 79) (by decide +kernel) rfl d311_79 ?_
    dsimp only [List.set]
    refine x_iconst (pc := 81) d311_81 ?_
    refine x_istore (pc := 82) (by decide +kernel) rfl d311_82 ?_
    dsimp only [List.set]
    refine x_mask [true, true, true, true, true, true, false, true, true, true] ?_
    dsimp only [mask]
    refine lp_lt hl pin_ac x0 x1 y0 y1 z0 z1 (1 + x % 10).toNat 0 τ _ (by omega) hB (by omega) (fun j j0 j1 => by omega) (fun τ T hB hn hT => ?_)
    have hbn := bs_n hB
    refine x_aload_n (pc := 121) rfl d311_121 ?_
    refine x_aload (pc := 122) rfl d311_122 ?_
    refine x_mask [true, true, true, false, false, true, true, false, true, true] ?_
    dsimp only [mask]
    refine x_less (k2 := 2 + (7 + 16)) (n2 := (1 + x % 10).toNat + 4 + (6 * 7 + 6 * 16)) (by omega) (by omega) rfl ?_
    refine x_bT (pc := 124) (m := (1 + x % 10).toNat) (b := 181) (n0 := 181) (rest := [.ref 0]) hl c311_250 hB (by omega) (by omega) (by omega) (by decide) r0_rf (Nat.le_of_ble_eq_true rfl) rfl rfl pin_ac (by decide) (by decide +kernel) (by decide +kernel) d311_124 (fun w hw hT2 hr => ?_)
    refine x_text (by omega) (by omega) pin_ac (fun q hq => ?_) ?_
    · simp only [List.mem_cons, Option.some.injEq, List.not_mem_nil, or_false, reduceCtorEq, false_or] at hq
      rcases hq with rfl | rfl | rfl
      · exact Or.inr rfl
      · exact Or.inl ⟨_, rfl⟩
      · exact Or.inl ⟨_, rfl⟩
    · have hTT : ∀ j : Int, 0 ≤ j → j < (((1 + x % 10).toNat : Nat) : Int) → (stM (mkC τ 125) τ.2.2.2.1 w (1 + x % 10).toNat).1 (τ.2.2.2.1 + 1) j = lttr y z j := fun j j0 j1 => by
        rw [stM_T hw j0 j1, hT2 j j0 j1]
        exact hT j j0 (by omega)
      refine x_callS2 (k := 16) (n := 6 * 16) (pc := 127) (t := 302) (As := [.ref 0, .ref 181]) (rest := []) c311_41 (ct_comes (len := (1 + x % 10).toNat) (S := S) (W := fun _ => 0) hl (by omega) (fun i i0 i1 => by rw [hTT i i0 i1]; have := lttr_r (y := y) (z := z) (k := i); omega) hL hS hI) rfl rfl (Nat.le_of_ble_eq_true rfl) (by decide +kernel) (by decide +kernel) d311_127 (Or.inr fun v' τ' e => by obtain ⟨J, e1, -⟩ := e; cases e1; rfl) (fun v' τ' e => ?_) (fun E τ' e _ => by obtain ⟨J, e1, -⟩ := e; cases e1)
      obtain ⟨K, e1, T2, h2, hK⟩ := e
      cases e1
      rw [show (((1 + x % 10).toNat : Nat) : Int) = 1 + x % 10 from by omega] at h2 hK hTT
      exact a1_send hl hS hL hPi hc x0 x1 y0 y1 z0 z1 (fun j j0 j1 => (h2 j j0 j1).trans (hTT j j0 j1)) hK
end Acts5
