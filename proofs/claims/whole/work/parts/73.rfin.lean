/-! ===== the reference: a message sent, undo, save, restore, the output ===== -/
section Rfin
variable {l : LX} {q : Nat} {I : Nat → Int → Int} {v : Int} {fr : Bool} {S : GS} {A : AV} {c e : Int}
theorem RQ.base {I J : Nat → Int → Int} {r : Int × Int × GS} {o : OO} (h : RQ q v fr J r o) (b : ∀ a, a < 181 ∨ 192 ≤ a → J a = I a) : RQ q v fr I r o := by
  obtain ⟨z, K, h1, h2, h3, h4, h5⟩ := h
  exact ⟨z, K, h1, h2, h3, h4, fun a ha => by rw [h5 a ha]; exact b a ha⟩
theorem rm288 (hl : l.1.stackTraces = false) (hq : 192 ≤ q) (h : RREL I S) (hS : GOK S) : CT l 288 [.ref 181] (mm q I v fr) 0 0 (RQ q v fr I (oUndo S)) := by
  have hA : AINV (gA S) cB := hS.1
  have hr := hA.rg
  have hcB : cB = 2450880 := rfl
  have hg := hS.2.1
  refine mkct2 hl (by decide) (Nat.le_of_ble_eq_true rfl) (L := [some (.ref 181)]) rfl ?_
  refine x_aload_n (pc := 0) rfl d288_0 ?_
  refine x_aload_n (pc := 1) rfl d288_1 ?_
  refine m_getI (pc := 2) (z := 5) f288_278 (by decide +kernel) rfl (xo181 (by omega)) d288_2 ?_
  refine x_val (pc := 5) (w := (gN S)) (h.2.1.1) ?_
  refine x_if_le (pc := 5) (tgt := 12) ⟨by omega, by omega⟩ d288_5 (by decide) (fun g5 => ?_) (fun g5 => ?_)
  · refine x_iconst (pc := 12) d288_12 ?_
    refine x_cVs (pc := 13) c288_198 (rt_passes hl hq (b := false)) (xo181 (by omega)) rfl rfl (Nat.le_of_ble_eq_true rfl) (by decide +kernel) (by decide +kernel) rfl d288_13 ?_
    obtain ⟨K, hK⟩ : ∃ Z : Nat → Int → Int, Z = (up2 I 181 6 (b01 (!false))) := ⟨_, rfl⟩
    refine x_mem (J := K) (pc := 16) hK ?_
    refine x_ifB_ne (pc := 16) (tgt := 21) d288_16 (by decide) (fun z => absurd z (by decide)) (fun _ => ?_)
    refine x_iconst (pc := 19) d288_19 ?_
    refine x_iret (pc := 20) rfl (fun _ => rfl) d288_20 ?_
    unfold oUndo
    rw [if_neg (by omega)]
    exact rq_n (by decide) h (TH.of hK)
  · refine x_iconst (pc := 8) d288_8 ?_
    refine x_goto (pc := 9) (tgt := 13) d288_9 (by decide) ?_
    refine x_cVs (pc := 13) c288_198 (rt_passes hl hq (b := true)) (xo181 (by omega)) rfl rfl (Nat.le_of_ble_eq_true rfl) (by decide +kernel) (by decide +kernel) rfl d288_13 ?_
    obtain ⟨K, hK⟩ : ∃ Z : Nat → Int → Int, Z = (up2 I 181 6 (b01 (!true))) := ⟨_, rfl⟩
    refine x_mem (J := K) (pc := 16) hK ?_
    refine x_ifB_ne (pc := 16) (tgt := 21) d288_16 (by decide) (fun _ => ?_) (fun z => absurd z (by decide))
    refine x_aload_n (pc := 21) rfl d288_21 ?_
    refine x_dup (pc := 22) rfl d288_22 ?_
    refine m_getI (pc := 23) (z := 5) f288_278 (by decide +kernel) rfl (xo181 (by omega)) d288_23 ?_
    refine x_val (pc := 26) (w := (gN S)) (by rw [hK, up2_i (by decide)]; exact h.2.1.1) ?_
    refine x_iconst (pc := 26) d288_26 ?_
    refine x_isub (pc := 27) d288_27 ?_
    refine m_putI (pc := 28) (z := 5) f288_278 (by decide +kernel) (by decide +kernel) rfl (xo181 (by omega)) d288_28 ?_
    refine x_aload_n (pc := 31) rfl d288_31 ?_
    refine m_getR (pc := 32) f288_22 (by decide +kernel) (xo181 (by omega)) rr181_4 d288_32 ?_
    refine x_sipush (pc := 35) (by decide) d288_35 ?_
    refine x_aload_n (pc := 38) rfl d288_38 ?_
    refine m_getW (pc := 39) (z := 5) (w := ((gN S) - 1)) f288_278 (by decide +kernel) rfl (xo181 (by omega)) (by rw [up2_s]) d288_39 ?_
    refine x_imul (pc := 42) d288_42 ?_
    refine x_aload_n (pc := 43) rfl d288_43 ?_
    refine m_getR (pc := 44) f288_9 (by decide +kernel) (xo181 (by omega)) rr181_0 d288_44 ?_
    refine x_iconst (pc := 47) d288_47 ?_
    refine x_cSv (pc := 48) c288_68 (rt_copies (q := q) hl (m0 := 8088) (n0 := 1011) (xa186 (by omega) (I := I) (v := v) (fr := fr)) (xa182 (by omega) (I := I) (v := v) (fr := fr)) (by decide) (a := (1011 * ((gN S) - 1))) (b := 0) (by omega) (by omega) (by omega) (by omega) (by decide) (by decide)) rfl rfl (Nat.le_of_ble_eq_true rfl) (by decide +kernel) (by decide +kernel) (by decide +kernel) rfl d288_48 ?_
    refine x_aload_n (pc := 51) rfl d288_51 ?_
    refine m_getI (pc := 52) (z := 5) f288_278 (by decide +kernel) rfl (xo181 (by omega)) d288_52 ?_
    refine x_iret (pc := 55) rfl (fun _ => rfl) d288_55 ?_
    have hr := (TH.of hK : TH I 0 K).rel h
    unfold oUndo
    rw [if_pos (by omega)]
    have o : ∀ a, a ≠ 181 → a ≠ 182 → cp2 (up2 K 181 5 (gN S - 1)) 186 (1011 * (gN S - 1)) 182 0 1011 a = K a := fun a a1 a2 => by rw [← up2_off' K 5 (gN S - 1) a1]; exact funext fun b => cp2_p a2
    have o1 : ∀ j, cp2 (up2 K 181 5 (gN S - 1)) 186 (1011 * (gN S - 1)) 182 0 1011 181 j = up2 K 181 5 (gN S - 1) 181 j := fun j => cp2_p (by decide)
    have o2 : ∀ j, j ≠ 5 → cp2 (up2 K 181 5 (gN S - 1)) 186 (1011 * (gN S - 1)) 182 0 1011 181 j = K 181 j := fun j hj => by rw [o1, up2_i hj]
    refine ⟨_, _, rfl, by rw [o2 6 (by decide), hK, up2_s]; rfl, fun _ => rfl, ?_, fun a ha => by rw [o a (by omega) (by omega), hK, up2_off' _ _ _ (by omega)]⟩
    refine ⟨(hr.2.1.2 (gN S - 1) (by omega) (by omega)).cg (hg.2 _ (by omega) (by omega)) fun i i0 i1 => ?_, ⟨by rw [o1, up2_s]; rfl, fun k k0 k1 => ?_⟩, ⟨by rw [o2 7 (by decide)]; exact hr.2.2.1.1, by rw [o 183 (by decide) (by decide)]; exact hr.2.2.1.2⟩, ⟨by rw [o2 12 (by decide)]; exact hr.2.2.2.1.1, by rw [o 189 (by decide) (by decide)]; exact hr.2.2.2.1.2⟩, ⟨by rw [o2 18 (by decide)]; exact hr.2.2.2.2.1.1, by rw [o2 19 (by decide)]; exact hr.2.2.2.2.1.2⟩, ⟨by rw [o2 23 (by decide)]; exact hr.2.2.2.2.2.1, by rw [o 191 (by decide) (by decide)]; exact hr.2.2.2.2.2.2⟩⟩
    · unfold cp2
      rw [if_pos ⟨rfl, i0, by omega⟩, up2_p (by decide), show 1011 * (gN S - 1) + (i - 0) = 1011 * (gN S - 1) + i from by omega]
    · rw [o 186 (by decide) (by decide)]
      have k1 : k < gN S - 1 := k1
      exact hr.2.1.2 k k0 (by omega)
theorem rm289 (hl : l.1.stackTraces = false) (hq : 192 ≤ q) (h : RREL I S) (hS : GOK S) : CT l 289 [.ref 181] (mm q I v fr) 0 0 (RQ q v fr I (oSave S)) := by
  have hA : AINV (gA S) cB := hS.1
  have hr := hA.rg
  have hcB : cB = 2450880 := rfl
  refine mkct2 hl (by decide) (Nat.le_of_ble_eq_true rfl) (L := [some (.ref 181)]) rfl ?_
  refine x_aload_n (pc := 0) rfl d289_0 ?_
  refine x_iconst (pc := 1) d289_1 ?_
  refine m_putI (pc := 2) (z := 6) f289_65 (by decide +kernel) (by decide +kernel) rfl (xo181 (by omega)) d289_2 ?_
  refine x_aload_n (pc := 5) rfl d289_5 ?_
  refine m_getR (pc := 6) f289_9 (by decide +kernel) (xo181 (by omega)) rr181_0 d289_6 ?_
  refine x_iconst (pc := 9) d289_9 ?_
  refine x_aload_n (pc := 10) rfl d289_10 ?_
  refine m_getR (pc := 11) f289_13 (by decide +kernel) (xo181 (by omega)) rr181_1 d289_11 ?_
  refine x_iconst (pc := 14) d289_14 ?_
  refine x_cSv (pc := 15) c289_68 (rt_copies (q := q) hl (m0 := 1011) (n0 := 1011) (xa182 (by omega) (I := I) (v := v) (fr := fr)) (xa183 (by omega) (I := I) (v := v) (fr := fr)) (by decide) (a := 0) (b := 0) (by omega) (by omega) (by omega) (by omega) (by decide) (by decide)) rfl rfl (Nat.le_of_ble_eq_true rfl) (by decide +kernel) (by decide +kernel) (by decide +kernel) rfl d289_15 ?_
  refine x_aload_n (pc := 18) rfl d289_18 ?_
  refine x_iconst (pc := 19) d289_19 ?_
  refine m_putZ (pc := 20) (z := 7) f289_411 (by decide +kernel) (by decide +kernel) rfl (xo181 (by omega)) (Or.inr rfl) d289_20 ?_
  refine x_aload_n (pc := 23) rfl d289_23 ?_
  refine m_getR (pc := 24) f289_9 (by decide +kernel) (xo181 (by omega)) rr181_0 d289_24 ?_
  refine x_bipush (pc := 27) (by decide) d289_27 ?_
  refine m_ialdW (pc := 29) (w := ((cp2 (up2 I 181 6 0) 182 0 183 0 1011) 182 7)) (xa182 (by omega)) (by omega) (by omega) (by omega) (by rw [up2_p (by omega)]) d289_29 ?_
  refine x_val (pc := 30) (w := (gA S 0 7)) (by rw [cp2_p (by decide), up2_p (by decide)]; exact h.1.sc (by decide) (by decide)) ?_
  refine x_iret (pc := 30) rfl (fun _ => rfl) d289_30 ?_
  have o : ∀ a, a ≠ 181 → a ≠ 183 → up2 (cp2 (up2 I 181 6 0) 182 0 183 0 1011) 181 7 1 a = I a := fun a a1 a3 => by rw [up2_off' _ _ _ a1, ← up2_off' I 6 0 a1]; exact funext fun b => cp2_p a3
  have o2 : ∀ j, j ≠ 6 → j ≠ 7 → up2 (cp2 (up2 I 181 6 0) 182 0 183 0 1011) 181 7 1 181 j = I 181 j := fun j h6 h7 => by rw [up2_i h7, cp2_p (by decide), up2_i h6]
  refine ⟨_, _, rfl, by rw [up2_i (by decide), cp2_p (by decide), up2_s]; rfl, fun _ => rfl, ?_, fun a ha => o a (by omega) (by omega)⟩
  refine ⟨by rw [o 182 (by decide) (by decide)]; exact h.1, ⟨by rw [o2 5 (by decide) (by decide)]; exact h.2.1.1, by rw [o 186 (by decide) (by decide)]; exact h.2.1.2⟩, ⟨by rw [up2_s]; rfl, fun _ => h.1.cg hA fun i i0 i1 => ?_⟩, ⟨by rw [o2 12 (by decide) (by decide)]; exact h.2.2.2.1.1, by rw [o 189 (by decide) (by decide)]; exact h.2.2.2.1.2⟩, ⟨by rw [o2 18 (by decide) (by decide)]; exact h.2.2.2.2.1.1, by rw [o2 19 (by decide) (by decide)]; exact h.2.2.2.2.1.2⟩, ⟨by rw [o2 23 (by decide) (by decide)]; exact h.2.2.2.2.2.1, by rw [o 191 (by decide) (by decide)]; exact h.2.2.2.2.2.2⟩⟩
  rw [up2_off' _ _ _ (by decide), cp2_y i0 i1, up2_p (by decide)]
theorem rm290 (hl : l.1.stackTraces = false) (hq : 192 ≤ q) (h : RREL I S) (hS : GOK S) : CT l 290 [.ref 181] (mm q I v fr) 0 0 (RQ q v fr I (oRestore S)) := by
  have hA : AINV (gA S) cB := hS.1
  have hr := hA.rg
  have hcB : cB = 2450880 := rfl
  refine mkct2 hl (by decide) (Nat.le_of_ble_eq_true rfl) (L := [some (.ref 181)]) rfl ?_
  refine x_aload_n (pc := 0) rfl d290_0 ?_
  refine x_aload_n (pc := 1) rfl d290_1 ?_
  refine m_getI (pc := 2) (z := 7) f290_411 (by decide +kernel) rfl (xo181 (by omega)) d290_2 ?_
  refine x_val (pc := 5) (w := b01 (gV S)) (h.2.2.1.1) ?_
  refine x_cVs (pc := 5) c290_198 (rt_passes hl hq (b := (gV S))) (xo181 (by omega)) rfl rfl (Nat.le_of_ble_eq_true rfl) (by decide +kernel) (by decide +kernel) rfl d290_5 ?_
  obtain ⟨K, hK⟩ : ∃ Z : Nat → Int → Int, Z = (up2 I 181 6 (b01 (!(gV S)))) := ⟨_, rfl⟩
  refine x_mem (J := K) (pc := 8) hK ?_
  refine x_ifB_ne (pc := 8) (tgt := 13) d290_8 (by decide) (fun g8 => ?_) (fun g8 => ?_)
  · refine x_aload_n (pc := 13) rfl d290_13 ?_
    refine m_getR (pc := 14) f290_13 (by decide +kernel) (xo181 (by omega)) rr181_1 d290_14 ?_
    refine x_iconst (pc := 17) d290_17 ?_
    refine x_aload_n (pc := 18) rfl d290_18 ?_
    refine m_getR (pc := 19) f290_9 (by decide +kernel) (xo181 (by omega)) rr181_0 d290_19 ?_
    refine x_iconst (pc := 22) d290_22 ?_
    refine x_cSv (pc := 23) c290_68 (rt_copies (q := q) hl (m0 := 1011) (n0 := 1011) (xa183 (by omega) (I := I) (v := v) (fr := fr)) (xa182 (by omega) (I := I) (v := v) (fr := fr)) (by decide) (a := 0) (b := 0) (by omega) (by omega) (by omega) (by omega) (by decide) (by decide)) rfl rfl (Nat.le_of_ble_eq_true rfl) (by decide +kernel) (by decide +kernel) (by decide +kernel) rfl d290_23 ?_
    refine x_aload_n (pc := 26) rfl d290_26 ?_
    refine x_iconst (pc := 27) d290_27 ?_
    refine m_putI (pc := 28) (z := 5) f290_278 (by decide +kernel) (by decide +kernel) rfl (xo181 (by omega)) d290_28 ?_
    refine x_aload_n (pc := 31) rfl d290_31 ?_
    refine m_getR (pc := 32) f290_9 (by decide +kernel) (xo181 (by omega)) rr181_0 d290_32 ?_
    refine x_bipush (pc := 35) (by decide) d290_35 ?_
    refine m_ialdW (pc := 37) (w := ((cp2 K 183 0 182 0 1011) 182 7)) (xa182 (by omega)) (by omega) (by omega) (by omega) (by rw [up2_p (by omega)]) d290_37 ?_
    refine x_val (pc := 38) (w := (gW S 0 7)) (by rw [cp2_y (by decide) (by decide)]; exact (((TH.of hK).rel h).2.2.1.2 g8).sc (by decide) (by decide)) ?_
    refine x_iret (pc := 38) rfl (fun _ => rfl) d290_38 ?_
    have hr := (TH.of hK).rel h
    unfold oRestore
    rw [if_pos g8]
    have o : ∀ a, a ≠ 181 → a ≠ 182 → up2 (cp2 K 183 0 182 0 1011) 181 5 0 a = K a := fun a a1 a2 => by rw [up2_off' _ _ _ a1]; exact funext fun b => cp2_p a2
    have o2 : ∀ j, j ≠ 5 → up2 (cp2 K 183 0 182 0 1011) 181 5 0 181 j = K 181 j := fun j hj => by rw [up2_i hj, cp2_p (by decide)]
    refine ⟨_, _, rfl, by rw [o2 6 (by decide), hK, up2_s, g8]; rfl, fun _ => rfl, ?_, fun a ha => by rw [o a (by omega) (by omega), hK, up2_off' _ _ _ (by omega)]⟩
    refine ⟨(hr.2.2.1.2 g8).cg (hS.2.2.1 g8) fun i i0 i1 => ?_, ⟨by rw [up2_s]; rfl, fun k k0 k1 => absurd (show k < 0 from k1) (by omega)⟩, ⟨by rw [o2 7 (by decide)]; exact hr.2.2.1.1, by rw [o 183 (by decide) (by decide)]; exact hr.2.2.1.2⟩, ⟨by rw [o2 12 (by decide)]; exact hr.2.2.2.1.1, by rw [o 189 (by decide) (by decide)]; exact hr.2.2.2.1.2⟩, ⟨by rw [o2 18 (by decide)]; exact hr.2.2.2.2.1.1, by rw [o2 19 (by decide)]; exact hr.2.2.2.2.1.2⟩, ⟨by rw [o2 23 (by decide)]; exact hr.2.2.2.2.2.1, by rw [o 191 (by decide) (by decide)]; exact hr.2.2.2.2.2.2⟩⟩
    rw [up2_off' _ _ _ (by decide), cp2_y i0 i1]
  · refine x_iconst (pc := 11) d290_11 ?_
    refine x_iret (pc := 12) rfl (fun _ => rfl) d290_12 ?_
    unfold oRestore
    rw [if_neg (by rw [g8]; decide)]
    exact rq_n (by decide) h ((TH.of hK).ch (by rw [g8]; rfl))
theorem lp_rsl (hl : l.1.stackTraces = false) (hq : 192 ≤ q) {n : Nat} (hn : I 181 12 = n) (n16 : n ≤ 16) {Q : OO → Prop} (hQ : ∀ K : Nat → Int → Int, (∀ a, a ≠ 187 → K a = I a) → (∀ k : Int, 0 ≤ k → k < n → K 187 k = I 189 k) → Ex l 280 0 0 69 [some (.ref 181), none] [] (mm q K v fr) Q) : ∀ (m j : Nat) (J : Nat → Int → Int), m + j = n → (∀ a, a ≠ 187 → J a = I a) → (∀ k : Int, 0 ≤ k → k < j → J 187 k = I 189 k) →
    Ex l 280 0 0 43 [some (.ref 181), some (.int (iI j))] [] (mm q J v fr) Q := by
  intro m
  induction m with
  | zero =>
    intro j J hj o z
    refine x_iload_n (pc := 43) rfl d280_43 ?_
    refine x_aload_n (pc := 44) rfl d280_44 ?_
    refine m_getI (pc := 45) (z := 12) f280_56 (by decide +kernel) rfl (xo181 (by omega)) d280_45 ?_
    refine x_val (pc := 48) (w := (n : Int)) (by rw [o 181 (by decide)]; exact hn) ?_
    refine x_icmp_ge (pc := 48) (tgt := 69) ⟨by omega, by omega⟩ ⟨by omega, by omega⟩ d280_48 (by decide) (fun g48 => ?_) (fun g48 => ?_)
    · refine x_mask [true, false] ?_
      dsimp only [mask]
      exact hQ J o (fun k k0 k1 => z k k0 (by omega))
    · exfalso; omega
  | succ m ih =>
    intro j J hj o z
    refine x_iload_n (pc := 43) rfl d280_43 ?_
    refine x_aload_n (pc := 44) rfl d280_44 ?_
    refine m_getI (pc := 45) (z := 12) f280_56 (by decide +kernel) rfl (xo181 (by omega)) d280_45 ?_
    refine x_val (pc := 48) (w := (n : Int)) (by rw [o 181 (by decide)]; exact hn) ?_
    refine x_icmp_ge (pc := 48) (tgt := 69) ⟨by omega, by omega⟩ ⟨by omega, by omega⟩ d280_48 (by decide) (fun g48 => ?_) (fun g48 => ?_)
    · refine x_mask [true, false] ?_
      dsimp only [mask]
      exfalso; omega
    · refine x_aload_n (pc := 51) rfl d280_51 ?_
      refine m_getR (pc := 52) f280_25 (by decide +kernel) (xo181 (by omega)) rr181_8 d280_52 ?_
      refine x_iload_n (pc := 55) rfl d280_55 ?_
      refine x_aload_n (pc := 56) rfl d280_56 ?_
      refine m_getR (pc := 57) f280_31 (by decide +kernel) (xo181 (by omega)) rr181_11 d280_57 ?_
      refine x_iload_n (pc := 60) rfl d280_60 ?_
      refine m_iald (pc := 61) (xa189 (by omega)) (by omega) (by omega) (by omega) d280_61 ?_
      refine x_val (pc := 62) (w := (I 189 j)) (by rw [o 189 (by decide)]) ?_
      refine m_iast (pc := 62) (xa187 (by omega)) (by omega) (by omega) (by omega) d280_62 ?_
      refine x_iinc (pc := 63) rfl (by decide +kernel) rfl d280_63 ?_
      dsimp only [List.set]
      refine x_goto (pc := 66) (tgt := 43) d280_66 (by decide) ?_
      refine ih (j + 1) _ (by omega) (fun a ha => by rw [up2_off' _ _ _ ha]; exact o a ha) (fun k k0 k1 => ?_)
      by_cases ek : k = j
      · rw [ek, up2_s]
      · rw [up2_i ek]; exact z k k0 (by omega)
theorem lp_rs2 (hl : l.1.stackTraces = false) (hq : 192 ≤ q) (h : RREL I S) (hS : GOK S) {n : Nat} (hn : gL S = n) (n1 : 1 ≤ n) (n16 : n ≤ 16) (h12 : gA S 0 5 < 12) (h6 : I 181 6 = 0) (h4 : ∀ i : Int, 0 ≤ i → i < 1011 → I 184 i = I 182 i) (hB : ∀ k : Int, 0 ≤ k → k < n → I 187 k = I 189 k) : Ex l 280 0 0 69 [some (.ref 181), none] [] (mm q I v fr) (RQ q v fr I (oSend S)) := by
  have hA : AINV (gA S) cB := hS.1
  have hr := hA.rg
  have hg := hS.2.2.2.1
  have hS2 : GOK (sL S (0, gT S)) := hS.l0
  refine x_aload_n (pc := 69) rfl d280_69 ?_
  refine m_getI (pc := 70) (z := 12) f280_56 (by decide +kernel) rfl (xo181 (by omega)) d280_70 ?_
  refine x_val (pc := 73) (w := (n : Int)) (by rw [← hn]; exact h.2.2.2.1.1) ?_
  refine x_istore_n (pc := 73) (by decide +kernel) rfl d280_73 ?_
  dsimp only [List.set]
  refine x_aload_n (pc := 74) rfl d280_74 ?_
  refine x_iconst (pc := 75) d280_75 ?_
  refine m_putI (pc := 76) (z := 12) f280_56 (by decide +kernel) (by decide +kernel) rfl (xo181 (by omega)) d280_76 ?_
  refine x_aload_n (pc := 79) rfl d280_79 ?_
  refine x_aload_n (pc := 80) rfl d280_80 ?_
  refine x_iload_n (pc := 81) rfl d280_81 ?_
  obtain ⟨K3, hK3⟩ : ∃ Z : Nat → Int → Int, Z = (up2 I 181 12 0) := ⟨_, rfl⟩
  refine x_mem (J := K3) (pc := 82) hK3 ?_
  have o3 : ∀ a, a ≠ 181 → K3 a = I a := fun a ha => by rw [hK3, up2_off' _ _ _ ha]
  have p3 : ∀ j, j ≠ 12 → K3 181 j = I 181 j := fun j hj => by rw [hK3, up2_i hj]
  have hRK3 : RV (K3 182) (gA S) := by rw [o3 182 (by decide)]; exact h.1
  have hB3 : ∀ k : Int, 0 ≤ k → k < n → K3 187 k = bfA (gT S) 0 (gL S) k ∧ 0 ≤ bfA (gT S) 0 (gL S) k ∧ bfA (gT S) 0 (gL S) k ≤ 255 := fun k k0 k1 => by
    have e : bfA (gT S) 0 (gL S) k = gT S k := by unfold bfA; rw [if_pos ⟨k0, by omega⟩, Int.zero_add]
    rw [e, o3 187 (by decide), hB k k0 k1, h.2.2.2.1.2 k k0 (by omega)]
    exact ⟨rfl, hg.2 k k0 (by omega)⟩
  have h3 : RREL K3 (sL S (0, gT S)) := ⟨hRK3, ⟨by rw [p3 5 (by decide)]; exact h.2.1.1, by rw [o3 186 (by decide)]; exact h.2.1.2⟩, ⟨by rw [p3 7 (by decide)]; exact h.2.2.1.1, by rw [o3 183 (by decide)]; exact h.2.2.1.2⟩, ⟨by rw [hK3, up2_s]; rfl, fun i i0 i1 => absurd (show i < 0 from i1) (by omega)⟩, ⟨by rw [p3 18 (by decide)]; exact h.2.2.2.2.1.1, by rw [p3 19 (by decide)]; exact h.2.2.2.2.1.2⟩, ⟨by rw [p3 23 (by decide)]; exact h.2.2.2.2.2.1, by rw [o3 191 (by decide)]; exact h.2.2.2.2.2.2⟩⟩
  have t3 : TH K3 0 K3 := ⟨fun _ _ _ => rfl, fun _ _ => rfl, by rw [p3 6 (by decide)]; exact h6⟩
  have c3 : CPY K3 K3 true := ⟨fun _ _ => rfl, fun _ i i0 i1 => by rw [o3 184 (by decide), o3 182 (by decide)]; exact h4 i i0 i1⟩
  refine x_cVes (pc := 82) c280_192 (rt_sendT hl hq (A := gA S) hRK3 hA (by omega) (n := n) (B := bfA (gT S) 0 (gL S)) (by omega) (by omega) hB3) (xo181 (by omega)) rfl rfl (Nat.le_of_ble_eq_true rfl) (by decide +kernel) (by decide +kernel) d280_82 (fun J1 hJ1 => ?_)
  have pp := op_pre (S := sL S (0, gT S)) h3 hS2 t3 c3 rfl hJ1.lt
  refine x_cVes (pc := 85) c280_398 (rt_done hl hq (S := S) (z := (gA S 0 5)) pp.1 pp.2.1 pp.2.2 hS) (xo181 (by omega)) rfl rfl (Nat.le_of_ble_eq_true rfl) (by decide +kernel) (by decide +kernel) d280_85 (fun J2 hJ2 => ?_)
  refine x_iret (pc := 88) rfl (fun _ => rfl) d280_88 ?_
  have e : oSend S = oDo (sL S (0, gT S)) (gA S 0 5) (addA (gA S) (bfA (gT S) 0 (gL S)) (gL S)) := by
    unfold oSend
    rw [if_pos (by omega), if_pos (by omega)]
    rfl
  rw [e, hn]
  rw [hn] at hJ1
  exact (op_rel (S := sL S (0, gT S)) h3 t3 c3 hJ1.lt hJ2).base fun a ha => o3 a (by omega)
theorem rm280 (hl : l.1.stackTraces = false) (hq : 192 ≤ q) (h : RREL I S) (hS : GOK S) : CT l 280 [.ref 181] (mm q I v fr) 0 0 (RQ q v fr I (oSend S)) := by
  have hA : AINV (gA S) cB := hS.1
  have hr := hA.rg
  have hcB : cB = 2450880 := rfl
  have hg := hS.2.2.2.1
  refine mkct2 hl (by decide) (Nat.le_of_ble_eq_true rfl) (L := [some (.ref 181), none]) rfl ?_
  refine x_aload_n (pc := 0) rfl d280_0 ?_
  refine x_aload_n (pc := 1) rfl d280_1 ?_
  refine x_aload_n (pc := 2) rfl d280_2 ?_
  refine m_getI (pc := 3) (z := 12) f280_56 (by decide +kernel) rfl (xo181 (by omega)) d280_3 ?_
  refine x_val (pc := 6) (w := (gL S)) (h.2.2.2.1.1) ?_
  refine x_i2l (pc := 6) ⟨by omega, by omega⟩ d280_6 ?_
  refine x_lconst (pc := 7) (z := 1) (by decide) d280_7 ?_
  refine x_ldc2 (pc := 8) (z := 16) k280_393 (by decide) d280_8 ?_
  refine x_cSs (pc := 11) c280_72 (rt_in hl (a := (gL S)) (b := 1) (c := 16) ⟨by omega, by omega⟩ ⟨by omega, by omega⟩ ⟨by omega, by omega⟩) rfl rfl (Nat.le_of_ble_eq_true rfl) (by decide +kernel) (by decide +kernel) (by decide +kernel) rfl d280_11 ?_
  refine x_aload_n (pc := 14) rfl d280_14 ?_
  refine m_getR (pc := 15) f280_9 (by decide +kernel) (xo181 (by omega)) rr181_0 d280_15 ?_
  refine x_iconst (pc := 18) d280_18 ?_
  refine m_ialdW (pc := 19) (w := ((gA S) 0 5)) (xa182 (by omega)) (by omega) (by omega) (by omega) (by rw [h.1.sc (i := 5) (by decide) (by decide)]) d280_19 ?_
  refine x_bipush (pc := 20) (by decide) d280_20 ?_
  refine x_icmp_ge (pc := 22) (tgt := 29) ⟨by omega, by omega⟩ ⟨by omega, by omega⟩ d280_22 (by decide) (fun g22 => ?_) (fun g22 => ?_)
  · refine x_iconst (pc := 29) d280_29 ?_
    refine x_cVs (pc := 30) c280_360 (rt_p2F hl hq (a := (decide (1 ≤ (gL S) ∧ (gL S) ≤ 16)))) (xo181 (by omega)) rfl rfl (Nat.le_of_ble_eq_true rfl) (by decide +kernel) (by decide +kernel) rfl d280_30 ?_
    obtain ⟨K, hK⟩ : ∃ Z : Nat → Int → Int, Z = (up2 I 181 6 (th2 (decide (1 ≤ (gL S) ∧ (gL S) ≤ 16)) false)) := ⟨_, rfl⟩
    refine x_mem (J := K) (pc := 33) hK ?_
    have tK := TH.of hK
    have hRK := tK.rv h.1
    refine x_cVes (pc := 33) c280_395 (rt_tried hl hq (b := false)) (xo181 (by omega)) rfl rfl (Nat.le_of_ble_eq_true rfl) (by decide +kernel) (by decide +kernel) d280_33 (fun K2 hK2 => ?_)
    have hRK2 : RV (K2 182) (gA S) := by rw [hK2.1 182 (by decide)]; exact hRK
    refine x_ifB_ne (pc := 36) (tgt := 41) d280_36 (by decide) (fun z => absurd z (by decide)) (fun _ => ?_)
    refine x_iconst (pc := 39) d280_39 ?_
    refine x_iret (pc := 40) rfl (fun _ => rfl) d280_40 ?_
    unfold oSend
    by_cases ca : 1 ≤ gL S ∧ gL S ≤ 16
    · rw [if_pos ca, if_neg (by omega)]; exact rq_fail (by decide) h (tK.ch (by rw [decide_eq_true ca]; rfl)) hK2
    · rw [if_neg ca]; exact rq_fail (by decide) h (tK.ch (by rw [decide_eq_false ca]; rfl)) hK2
  · refine x_iconst (pc := 25) d280_25 ?_
    refine x_goto (pc := 26) (tgt := 30) d280_26 (by decide) ?_
    refine x_cVs (pc := 30) c280_360 (rt_p2T hl hq (a := (decide (1 ≤ (gL S) ∧ (gL S) ≤ 16)))) (xo181 (by omega)) rfl rfl (Nat.le_of_ble_eq_true rfl) (by decide +kernel) (by decide +kernel) rfl d280_30 ?_
    obtain ⟨K, hK⟩ : ∃ Z : Nat → Int → Int, Z = (up2 I 181 6 (th2 (decide (1 ≤ (gL S) ∧ (gL S) ≤ 16)) true)) := ⟨_, rfl⟩
    refine x_mem (J := K) (pc := 33) hK ?_
    have tK := TH.of hK
    have hRK := tK.rv h.1
    refine x_cVes (pc := 33) c280_395 (rt_tried hl hq (b := (decide (1 ≤ (gL S) ∧ (gL S) ≤ 16)))) (xo181 (by omega)) rfl rfl (Nat.le_of_ble_eq_true rfl) (by decide +kernel) (by decide +kernel) d280_33 (fun K2 hK2 => ?_)
    have hRK2 : RV (K2 182) (gA S) := by rw [hK2.1 182 (by decide)]; exact hRK
    refine x_ifB_ne (pc := 36) (tgt := 41) d280_36 (by decide) (fun g36 => ?_) (fun g36 => ?_)
    · refine x_iconst (pc := 41) d280_41 ?_
      refine x_istore_n (pc := 42) (by decide +kernel) rfl d280_42 ?_
      dsimp only [List.set]
      have b0 := of_decide_eq_true g36
      have t0 : TH I 0 K := tK.ch (by rw [decide_eq_true b0]; rfl)
      have hr2 := t0.rel h
      obtain ⟨n, hn⟩ : ∃ n : Nat, gL S = n := ⟨(gL S).toNat, by omega⟩
      refine lp_rsl (n := n) hl hq (by rw [hK2.1 181 (by decide), hr2.2.2.2.1.1, hn]) (by omega) (fun K4 o4 z4 => ?_) n 0 K2 (by omega) (fun _ _ => rfl) (fun k k0 k1 => absurd (show k < 0 from k1) (by omega))
      have o5 : ∀ a, a ≠ 184 → a ≠ 187 → K4 a = K a := fun a a4 a7 => by rw [o4 a a7, hK2.1 a a4]
      have h5 : RREL K4 S := by
        obtain ⟨h1, ⟨a1, a2⟩, ⟨b1, b2⟩, ⟨c1, c2⟩, ⟨d1, d2⟩, ⟨e1, e2⟩⟩ := hr2
        have f := o5 181 (by decide) (by decide)
        exact ⟨by rw [o5 182 (by decide) (by decide)]; exact h1, ⟨by rw [f]; exact a1, by rw [o5 186 (by decide) (by decide)]; exact a2⟩, ⟨by rw [f]; exact b1, by rw [o5 183 (by decide) (by decide)]; exact b2⟩, ⟨by rw [f]; exact c1, by rw [o5 189 (by decide) (by decide)]; exact c2⟩, ⟨by rw [f]; exact d1, by rw [f]; exact d2⟩, ⟨by rw [f]; exact e1, by rw [o5 191 (by decide) (by decide)]; exact e2⟩⟩
      refine ex_mono (lp_rs2 (v := v) (fr := fr) hl hq h5 hS hn (by omega) (by omega) (by omega) (by rw [o5 181 (by decide) (by decide)]; exact t0.2.2) (fun i i0 i1 => by rw [o4 184 (by decide), o4 182 (by decide), hK2.1 182 (by decide)]; exact hK2.2 g36 i i0 i1) (fun k k0 k1 => by rw [z4 k k0 k1, o4 189 (by decide)])) fun o ho => ?_
      exact ho.base fun a ha => by rw [o5 a (by omega) (by omega)]; exact t0.1 a (by omega) (by omega)
    · refine x_iconst (pc := 39) d280_39 ?_
      refine x_iret (pc := 40) rfl (fun _ => rfl) d280_40 ?_
      have ca := of_decide_eq_false g36
      unfold oSend
      rw [if_neg ca]; exact rq_fail (by decide) h (tK.ch (by rw [decide_eq_false ca]; rfl)) hK2
theorem rm293 (hl : l.1.stackTraces = false) (hq : 192 ≤ q) (h : RREL I S) (hS : GOK S) {i : Int} (hi : InR i) : CT l 293 [.ref 181, .int (iI i)] (mm q I v fr) 0 0 (RQ q v fr I (0, atT (gO S) (gM S) i, S)) := by
  have hA : AINV (gA S) cB := hS.1
  have hr := hA.rg
  have hcB : cB = 2450880 := rfl
  obtain ⟨hi0, hi1⟩ := id hi
  have hg := hS.2.2.2.2
  refine mkct2 hl (by decide) (Nat.le_of_ble_eq_true rfl) (L := [some (.ref 181), some (.int (iI i))]) rfl ?_
  refine x_aload_n (pc := 0) rfl d293_0 ?_
  refine x_iconst (pc := 1) d293_1 ?_
  refine m_putI (pc := 2) (z := 6) f293_65 (by decide +kernel) (by decide +kernel) rfl (xo181 (by omega)) d293_2 ?_
  refine x_iload_n (pc := 5) rfl d293_5 ?_
  refine x_i2l (pc := 6) ⟨by omega, by omega⟩ d293_6 ?_
  refine x_lconst (pc := 7) (z := 0) (by decide) d293_7 ?_
  refine x_aload_n (pc := 8) rfl d293_8 ?_
  refine m_getW (pc := 9) (z := 23) (w := (I 181 23)) f293_415 (by decide +kernel) rfl (xo181 (by omega)) (by rw [up2_i (by decide)]) d293_9 ?_
  refine x_val (pc := 12) (w := (gM S)) (by exact h.2.2.2.2.2.1) ?_
  refine x_iconst (pc := 12) d293_12 ?_
  refine x_isub (pc := 13) d293_13 ?_
  refine x_i2l (pc := 14) ⟨by omega, by omega⟩ d293_14 ?_
  refine x_cSs (pc := 15) c293_72 (rt_in hl (a := i) (b := 0) (c := ((gM S) - 1)) ⟨by omega, by omega⟩ ⟨by omega, by omega⟩ ⟨by omega, by omega⟩) rfl rfl (Nat.le_of_ble_eq_true rfl) (by decide +kernel) (by decide +kernel) (by decide +kernel) rfl d293_15 ?_
  refine x_ifB_eq (pc := 18) (tgt := 30) d293_18 (by decide) (fun g18 => ?_) (fun g18 => ?_)
  · refine x_iconst (pc := 30) d293_30 ?_
    refine x_iret (pc := 31) rfl (fun _ => rfl) d293_31 ?_
    have b := of_decide_eq_false g18
    exact rq_0 h TH.mk (by unfold atT; rw [if_neg (by omega)])
  · have b := of_decide_eq_true g18
    refine x_aload_n (pc := 21) rfl d293_21 ?_
    refine m_getR (pc := 22) f293_41 (by decide +kernel) (xo181 (by omega)) rr181_22 d293_22 ?_
    refine x_iload_n (pc := 25) rfl d293_25 ?_
    refine m_ialdW (pc := 26) (w := (I 191 i)) (xa191 (by omega)) (by omega) (by omega) (by omega) (by rw [up2_p (by omega)]) d293_26 ?_
    refine x_goto (pc := 27) (tgt := 31) d293_27 (by decide) ?_
    refine x_iret (pc := 31) rfl (fun _ => rfl) d293_31 ?_
    have b := of_decide_eq_true g18
    exact rq_0 h TH.mk (by unfold atT; rw [if_pos (by omega)]; exact h.2.2.2.2.2.2 i b.1 (by omega))
/-- the output shows M -/
def oO (I : Nat → Int → Int) (M : Int × (Int → Int)) (K : Nat → Int → Int) : Prop := (∀ a, a ≠ 181 → a ≠ 191 → K a = I a) ∧ (∀ j, j ≠ 23 → K 181 j = I 181 j) ∧ K 181 23 = M.1 ∧ ∀ i : Int, 0 ≤ i → i < M.1 → K 191 i = M.2 i
theorem oO.wr {I J : Nat → Int → Int} {M : Int × (Int → Int)} {z n : Int} (h : oO I M J) (hn : n = M.1) (h0 : 0 ≤ n) : oO I (n + 1, fun i => if i = n then z else M.2 i) (up2 (up2 J 191 n z) 181 23 (n + 1)) := by
  obtain ⟨o, o1, o2, o3⟩ := h
  refine ⟨fun a a1 a9 => by rw [up2_off' _ _ _ a1, up2_off' _ _ _ a9]; exact o a a1 a9, fun j hj => by rw [up2_i hj, up2_p (by decide)]; exact o1 j hj, up2_s, fun i i0 i1 => ?_⟩
  have i1 : i < n + 1 := i1
  rw [up2_p (by decide), up2_q]
  dsimp only
  by_cases e : i = n
  · rw [if_pos e, if_pos e]
  · rw [if_neg e, if_neg e]; exact o3 i i0 (by omega)
theorem outN_b (cb g : Int → Int) (b : Nat) : outN cb (b + 1) (0, g) = ((if 0 < b ∧ b % 8 = 0 then ((outN cb b (0, g)).1 + 1, fun i => if i = (outN cb b (0, g)).1 then 32 else (outN cb b (0, g)).2 i) else outN cb b (0, g)).1 + 1, fun i => if i = (if 0 < b ∧ b % 8 = 0 then ((outN cb b (0, g)).1 + 1, fun i => if i = (outN cb b (0, g)).1 then 32 else (outN cb b (0, g)).2 i) else outN cb b (0, g)).1 then (if cb b = 0 then 46 else 42) else (if 0 < b ∧ b % 8 = 0 then ((outN cb b (0, g)).1 + 1, fun i => if i = (outN cb b (0, g)).1 then 32 else (outN cb b (0, g)).2 i) else outN cb b (0, g)).2 i) := rfl
theorem lp_rfm1 (hl : l.1.stackTraces = false) (hq : 192 ≤ q) (hR : RV (I 182) A) (hA : AI A c e) {f t : Int} (f0 : 0 ≤ f) (f1 : f < A 0 6) (t0 : 0 ≤ t) (t1 : t ≤ 999999) {k : Nat} (k1 : (k : Int) < 8 * A 6 f) {J : Nat → Int → Int} {M : Int × (Int → Int)} (hJ : oO I M J) (M0 : 0 ≤ M.1) (M1 : M.1 ≤ 53) {Q : OO → Prop} (hQ : ∀ K : Nat → Int → Int, oO I (M.1 + 1, fun i => if i = M.1 then (if cabZ (SfA A f) (chA A t (A 0 0)) k = 0 then 46 else 42) else M.2 i) K → Ex l 292 0 0 18 [some (.ref 181), some (.int (iI f)), some (.int (iI t)), some (.int (iI ((k : Int) + 1)))] [] (mm q K v fr) Q) : Ex l 292 0 0 44 [some (.ref 181), some (.int (iI f)), some (.int (iI t)), some (.int (iI k))] [] (mm q J v fr) Q := by
  have hr := hA.rg
  have hf := hA.frm f f0 f1
  have hRJ : RV (J 182) A := by rw [hJ.1 182 (by decide) (by decide)]; exact hR
  have hcz := cabZ_r (SfA A f) (chA A t (A 0 0)) k
  obtain ⟨n1, hn1⟩ : ∃ n, n = M.1 := ⟨_, rfl⟩
  have hj : J 181 23 = n1 := by rw [hJ.2.2.1, hn1]
  have w := fun z => hJ.wr (z := z) hn1 (by omega)
  rw [hn1] at w
  refine x_aload_n (pc := 44) rfl d292_44 ?_
  refine x_aload_n (pc := 45) rfl d292_45 ?_
  refine x_iload_n (pc := 46) rfl d292_46 ?_
  refine x_iload_n (pc := 47) rfl d292_47 ?_
  refine x_iload_n (pc := 48) rfl d292_48 ?_
  refine x_cVs (pc := 49) c292_140 (rt_cable hl hq (A := A) hRJ hA (f := f) (b := k) (t := t) (by omega) (by omega) (by omega) (by omega) (by omega) (by omega)) (xo181 (by omega)) rfl rfl (Nat.le_of_ble_eq_true rfl) (by decide +kernel) (by decide +kernel) rfl d292_49 ?_
  refine x_iconst (pc := 52) d292_52 ?_
  refine x_icmp_ne (pc := 53) (tgt := 61) ⟨by omega, by omega⟩ ⟨by omega, by omega⟩ d292_53 (by decide) (fun g53 => ?_) (fun g53 => ?_)
  · refine x_bipush (pc := 61) (by decide) d292_61 ?_
    refine x_cVv (pc := 63) c292_418 (rt_writes hl hq (n := n1) (z := 46) hj (by omega) (by omega)) (xo181 (by omega)) rfl rfl (Nat.le_of_ble_eq_true rfl) (by decide +kernel) (by decide +kernel) rfl d292_63 ?_
    refine x_iinc (pc := 66) rfl (by decide +kernel) rfl d292_66 ?_
    dsimp only [List.set]
    refine x_goto (pc := 69) (tgt := 18) d292_69 (by decide) ?_
    refine hQ _ ?_
    rw [hn1, if_pos (by omega)]
    exact w 46
  · refine x_bipush (pc := 56) (by decide) d292_56 ?_
    refine x_goto (pc := 58) (tgt := 63) d292_58 (by decide) ?_
    refine x_cVv (pc := 63) c292_418 (rt_writes hl hq (n := n1) (z := 42) hj (by omega) (by omega)) (xo181 (by omega)) rfl rfl (Nat.le_of_ble_eq_true rfl) (by decide +kernel) (by decide +kernel) rfl d292_63 ?_
    refine x_iinc (pc := 66) rfl (by decide +kernel) rfl d292_66 ?_
    dsimp only [List.set]
    refine x_goto (pc := 69) (tgt := 18) d292_69 (by decide) ?_
    refine hQ _ ?_
    rw [hn1, if_neg (by omega)]
    exact w 42
theorem lp_rfm (hl : l.1.stackTraces = false) (hq : 192 ≤ q) (hR : RV (I 182) A) (hA : AI A c e) {f t : Int} (f0 : 0 ≤ f) (f1 : f < A 0 6) (t0 : 0 ≤ t) (t1 : t ≤ 999999) {g : Int → Int} : ∀ (m k : Nat) (J : Nat → Int → Int), (m : Int) + k = 8 * A 6 f → oO I (outN (cabZ (SfA A f) (chA A t (A 0 0))) k (0, g)) J → Ex l 292 0 0 18 [some (.ref 181), some (.int (iI f)), some (.int (iI t)), some (.int (iI k))] [] (mm q J v fr) (oE q v fr (some (.int (iI (outN (cabZ (SfA A f) (chA A t (A 0 0))) (8 * A 6 f).toNat (0, g)).1))) (oO I (outN (cabZ (SfA A f) (chA A t (A 0 0))) (8 * A 6 f).toNat (0, g)))) := by
  have hr := hA.rg
  have hf := hA.frm f f0 f1
  intro m
  induction m with
  | zero =>
    intro k J hk hJ
    have hRJ : RV (J 182) A := by rw [hJ.1 182 (by decide) (by decide)]; exact hR
    rw [show (8 * A 6 f).toNat = k from by omega]
    refine x_iload_n (pc := 18) rfl d292_18 ?_
    refine x_aload_n (pc := 19) rfl d292_19 ?_
    refine x_iload_n (pc := 20) rfl d292_20 ?_
    refine x_cVs (pc := 21) c292_137 (rt_bitsOf hl hq (A := A) hRJ (f := f) (by omega) (by omega) (by omega)) (xo181 (by omega)) rfl rfl (Nat.le_of_ble_eq_true rfl) (by decide +kernel) (by decide +kernel) rfl d292_21 ?_
    refine x_icmp_ge (pc := 24) (tgt := 72) ⟨by omega, by omega⟩ ⟨by omega, by omega⟩ d292_24 (by decide) (fun g24 => ?_) (fun g24 => ?_)
    · refine x_aload_n (pc := 72) rfl d292_72 ?_
      refine m_getI (pc := 73) (z := 23) f292_415 (by decide +kernel) rfl (xo181 (by omega)) d292_73 ?_
      refine x_val (pc := 76) (w := ((outN (cabZ (SfA A f) (chA A t (A 0 0))) k (0, g)).1)) (hJ.2.2.1) ?_
      refine x_iret (pc := 76) rfl (fun _ => rfl) d292_76 ?_
      exact ⟨J, rfl, hJ⟩
    · exfalso; omega
  | succ m ih =>
    intro k J hk hJ
    have hRJ : RV (J 182) A := by rw [hJ.1 182 (by decide) (by decide)]; exact hR
    have hlen := outN_len (cabZ (SfA A f) (chA A t (A 0 0))) g k
    obtain ⟨n1, hn1⟩ : ∃ n, n = (outN (cabZ (SfA A f) (chA A t (A 0 0))) k (0, g)).1 := ⟨_, rfl⟩
    have hj : J 181 23 = n1 := by rw [hJ.2.2.1, hn1]
    have hb := outN_b (cabZ (SfA A f) (chA A t (A 0 0))) g k
    have nx : ∀ (J2 : Nat → Int → Int) (M : Int × (Int → Int)), oO I M J2 → 0 ≤ M.1 → M.1 ≤ 53 → outN (cabZ (SfA A f) (chA A t (A 0 0))) (k + 1) (0, g) = (M.1 + 1, fun i => if i = M.1 then (if cabZ (SfA A f) (chA A t (A 0 0)) k = 0 then 46 else 42) else M.2 i) → Ex l 292 0 0 44 [some (.ref 181), some (.int (iI f)), some (.int (iI t)), some (.int (iI k))] [] (mm q J2 v fr) (oE q v fr (some (.int (iI (outN (cabZ (SfA A f) (chA A t (A 0 0))) (8 * A 6 f).toNat (0, g)).1))) (oO I (outN (cabZ (SfA A f) (chA A t (A 0 0))) (8 * A 6 f).toNat (0, g)))) := fun J2 M hJ2 m0 m1 eM => lp_rfm1 hl hq hR hA f0 f1 t0 t1 (by omega) hJ2 m0 m1 fun K hK => ih (k + 1) K (by omega) (by rw [eM]; exact hK)
    refine x_iload_n (pc := 18) rfl d292_18 ?_
    refine x_aload_n (pc := 19) rfl d292_19 ?_
    refine x_iload_n (pc := 20) rfl d292_20 ?_
    refine x_cVs (pc := 21) c292_137 (rt_bitsOf hl hq (A := A) hRJ (f := f) (by omega) (by omega) (by omega)) (xo181 (by omega)) rfl rfl (Nat.le_of_ble_eq_true rfl) (by decide +kernel) (by decide +kernel) rfl d292_21 ?_
    refine x_icmp_ge (pc := 24) (tgt := 72) ⟨by omega, by omega⟩ ⟨by omega, by omega⟩ d292_24 (by decide) (fun g24 => ?_) (fun g24 => ?_)
    · refine x_mask [true, false, false, false] ?_
      dsimp only [mask]
      exfalso; omega
    · refine x_iload_n (pc := 27) rfl d292_27 ?_
      refine x_if_le (pc := 28) (tgt := 44) ⟨by omega, by omega⟩ d292_28 (by decide) (fun g28 => ?_) (fun g28 => ?_)
      · rw [if_neg (by omega)] at hb
        exact nx J _ hJ (by omega) (by omega) hb
      · refine x_iload_n (pc := 31) rfl d292_31 ?_
        refine x_bipush (pc := 32) (by decide) d292_32 ?_
        refine x_irem (pc := 34) (by omega) (by omega) (by omega) (by omega) d292_34 ?_
        refine x_if_ne (pc := 35) (tgt := 44) ⟨by omega, by omega⟩ d292_35 (by decide) (fun g35 => ?_) (fun g35 => ?_)
        · rw [if_neg (by omega)] at hb
          exact nx J _ hJ (by omega) (by omega) hb
        · refine x_aload_n (pc := 38) rfl d292_38 ?_
          refine x_bipush (pc := 39) (by decide) d292_39 ?_
          refine x_cVv (pc := 41) c292_418 (rt_writes hl hq (n := n1) (z := 32) hj (by omega) (by omega)) (xo181 (by omega)) rfl rfl (Nat.le_of_ble_eq_true rfl) (by decide +kernel) (by decide +kernel) rfl d292_41 ?_
          rw [if_pos (by omega), ← hn1] at hb
          have hw := hJ.wr (z := 32) hn1 (by omega)
          exact nx _ _ hw (by show 0 ≤ n1 + 1; omega) (by show n1 + 1 ≤ 53; omega) hb
theorem rm292 (hl : l.1.stackTraces = false) (hq : 192 ≤ q) (h : RREL I S) (hS : GOK S) {f : Int} (hf : InR f) {t : Int} (ht : InR t) : CT l 292 [.ref 181, .int (iI f), .int (iI t)] (mm q I v fr) 0 0 (RQ q v fr I (oFormat S f t)) := by
  have hA : AINV (gA S) cB := hS.1
  have hr := hA.rg
  have hcB : cB = 2450880 := rfl
  obtain ⟨hf0, hf1⟩ := id hf
  obtain ⟨ht0, ht1⟩ := id ht
  refine mkct2 hl (by decide) (Nat.le_of_ble_eq_true rfl) (L := [some (.ref 181), some (.int (iI f)), some (.int (iI t)), none]) rfl ?_
  refine x_aload_n (pc := 0) rfl d292_0 ?_
  refine x_iload_n (pc := 1) rfl d292_1 ?_
  refine x_iload_n (pc := 2) rfl d292_2 ?_
  refine x_cVs (pc := 3) c292_364 (rt_pf hl hq (A := (gA S)) h.1 hA (f := f) (t := t) ⟨by omega, by omega⟩ ⟨by omega, by omega⟩) (xo181 (by omega)) rfl rfl (Nat.le_of_ble_eq_true rfl) (by decide +kernel) (by decide +kernel) rfl d292_3 ?_
  obtain ⟨K, hK⟩ : ∃ Z : Nat → Int → Int, Z = (up2 I 181 6 (th2 (decide (0 ≤ f ∧ f < (gA S) 0 6)) (decide (0 ≤ t ∧ t ≤ 999999)))) := ⟨_, rfl⟩
  refine x_mem (J := K) (pc := 6) hK ?_
  have tK := TH.of hK
  have hRK := tK.rv h.1
  refine x_ifB_ne (pc := 6) (tgt := 11) d292_6 (by decide) (fun g6 => ?_) (fun g6 => ?_)
  · have b0 := of_decide_eq_true (Bool.and_eq_true_iff.mp g6).1
    have b1 := of_decide_eq_true (Bool.and_eq_true_iff.mp g6).2
    have hf := hA.frm f b0.1 b0.2
    refine x_aload_n (pc := 11) rfl d292_11 ?_
    refine x_iconst (pc := 12) d292_12 ?_
    refine m_putI (pc := 13) (z := 23) f292_415 (by decide +kernel) (by decide +kernel) rfl (xo181 (by omega)) d292_13 ?_
    refine x_iconst (pc := 16) d292_16 ?_
    refine x_istore_n (pc := 17) (by decide +kernel) rfl d292_17 ?_
    dsimp only [List.set]
    have t0 : TH I 0 K := tK.ch (by rw [decide_eq_true b0, decide_eq_true b1]; rfl)
    refine ex_mono (lp_rfm (I := K) (v := v) (fr := fr) hl hq hRK hA b0.1 b0.2 b1.1 b1.2 (g := gO S) (8 * gA S 6 f).toNat 0 (up2 K 181 23 0) (by omega) ⟨fun a a1 _ => up2_off' _ _ _ a1, fun j hj => up2_i hj, up2_s, fun i i0 i1 => absurd (show i < 0 from i1) (by omega)⟩) fun o ho => ?_
    obtain ⟨J, ho, o1, o2, o3, o4⟩ := ho
    have hr := t0.rel h
    unfold oFormat
    rw [show isF S f = true from decide_eq_true b0, if_pos rfl, show isT t = true from decide_eq_true b1, if_pos rfl, Int.mul_comm (gA S 6 f) 8]
    refine ⟨_, J, ho, by rw [o2 6 (by decide)]; exact t0.2.2, fun _ => rfl, ?_, fun a ha => by rw [o1 a (by omega) (by omega)]; exact t0.1 a (by omega) (by omega)⟩
    exact ⟨by rw [o1 182 (by decide) (by decide)]; exact hr.1, ⟨by rw [o2 5 (by decide)]; exact hr.2.1.1, by rw [o1 186 (by decide) (by decide)]; exact hr.2.1.2⟩, ⟨by rw [o2 7 (by decide)]; exact hr.2.2.1.1, by rw [o1 183 (by decide) (by decide)]; exact hr.2.2.1.2⟩, ⟨by rw [o2 12 (by decide)]; exact hr.2.2.2.1.1, by rw [o1 189 (by decide) (by decide)]; exact hr.2.2.2.1.2⟩, ⟨by rw [o2 18 (by decide)]; exact hr.2.2.2.2.1.1, by rw [o2 19 (by decide)]; exact hr.2.2.2.2.1.2⟩, ⟨o3, o4⟩⟩
  · refine x_iconst (pc := 9) d292_9 ?_
    refine x_iret (pc := 10) rfl (fun _ => rfl) d292_10 ?_
    unfold oFormat
    by_cases ca : 0 ≤ f ∧ f < gA S 0 6
    · by_cases cb : 0 ≤ t ∧ t ≤ 999999
      · rw [decide_eq_true ca, decide_eq_true cb] at g6; exact absurd g6 (by decide)
      · rw [show isF S f = true from decide_eq_true ca, if_pos rfl, show isT t = false from decide_eq_false cb, if_neg Bool.false_ne_true]
        exact rq_n (by decide) h (tK.ch (by rw [decide_eq_true ca, decide_eq_false cb]; rfl))
    · rw [show isF S f = false from decide_eq_false ca, if_neg Bool.false_ne_true]
      exact rq_n (by decide) h (tK.ch (by rw [decide_eq_false ca]; rfl))
end Rfin
