/-! ===== the reference: the questions that search ===== -/
section Rsea
variable {l : LX} {q : Nat} {I : Nat → Int → Int} {v : Int} {fr : Bool} {S : GS} {A : AV} {c e : Int}
theorem lp_rnct (hl : l.1.stackTraces = false) (hq : 192 ≤ q) (hR : RV (I 182) A) (hA : AI A c e) {t : Int} (t0 : 0 ≤ t) (t1 : t ≤ 999999) : ∀ m i : Nat, m + i = 1001 → Ex l 233 0 0 15 [some (.ref 181), some (.int (iI t)), some (.int (iI (t + i)))] [] (mm q I v fr) (fun o => o = (.inl (some (.int (iI (fstN (chewA A) (-1) m (t + i))))), mm q I v fr)) := by
  intro m
  induction m with
  | zero =>
    intro i hi
    refine x_iload_n (pc := 15) rfl d233_15 ?_
    refine x_iload_n (pc := 16) rfl d233_16 ?_
    refine x_sipush (pc := 17) (by decide) d233_17 ?_
    refine x_iadd (pc := 20) d233_20 ?_
    refine x_icmp_gt (pc := 21) (tgt := 40) ⟨by omega, by omega⟩ ⟨by omega, by omega⟩ d233_21 (by decide) (fun g21 => ?_) (fun g21 => ?_)
    · refine x_iconst (pc := 40) d233_40 ?_
      refine x_iret (pc := 41) rfl (fun _ => rfl) d233_41 ?_
      rfl
    · exfalso; omega
  | succ m ih =>
    intro i hi
    refine x_iload_n (pc := 15) rfl d233_15 ?_
    refine x_iload_n (pc := 16) rfl d233_16 ?_
    refine x_sipush (pc := 17) (by decide) d233_17 ?_
    refine x_iadd (pc := 20) d233_20 ?_
    refine x_icmp_gt (pc := 21) (tgt := 40) ⟨by omega, by omega⟩ ⟨by omega, by omega⟩ d233_21 (by decide) (fun g21 => ?_) (fun g21 => ?_)
    · refine x_iconst (pc := 40) d233_40 ?_
      refine x_iret (pc := 41) rfl (fun _ => rfl) d233_41 ?_
      exfalso; omega
    · refine x_aload_n (pc := 24) rfl d233_24 ?_
      refine x_iload_n (pc := 25) rfl d233_25 ?_
      refine x_cVs (pc := 26) c233_120 (rt_chewed hl hq (A := A) hR hA (t := (t + i)) (by omega) (by omega)) (xo181 (by omega)) rfl rfl (Nat.le_of_ble_eq_true rfl) (by decide +kernel) (by decide +kernel) rfl d233_26 ?_
      refine x_ifB_eq (pc := 29) (tgt := 34) d233_29 (by decide) (fun g29 => ?_) (fun g29 => ?_)
      · refine x_iinc (pc := 34) rfl (by decide +kernel) rfl d233_34 ?_
        dsimp only [List.set]
        refine x_goto (pc := 37) (tgt := 15) d233_37 (by decide) ?_
        rw [show fstN (chewA A) (-1) (m + 1) (t + i) = fstN (chewA A) (-1) m (t + i + 1) from if_neg (by rw [g29]; decide), show t + (i : Int) + 1 = t + ((i + 1 : Nat) : Int) from by omega]
        exact ih (i + 1) (by omega)
      · refine x_iload_n (pc := 32) rfl d233_32 ?_
        refine x_iret (pc := 33) rfl (fun _ => rfl) d233_33 ?_
        rw [show fstN (chewA A) (-1) (m + 1) (t + i) = t + i from if_pos g29]
theorem rm233 (hl : l.1.stackTraces = false) (hq : 192 ≤ q) (h : RREL I S) (hS : GOK S) {t : Int} (ht : InR t) : CT l 233 [.ref 181, .int (iI t)] (mm q I v fr) 0 0 (RQ q v fr I (oAsk S (isT t) (fstN (chewA (gA S)) (-1) 1001 t))) := by
  have hA : AINV (gA S) cB := hS.1
  have hr := hA.rg
  have hcB : cB = 2450880 := rfl
  obtain ⟨ht0, ht1⟩ := id ht
  refine mkct2 hl (by decide) (Nat.le_of_ble_eq_true rfl) (L := [some (.ref 181), some (.int (iI t)), none]) rfl ?_
  refine x_aload_n (pc := 0) rfl d233_0 ?_
  refine x_iload_n (pc := 1) rfl d233_1 ?_
  refine x_cSs (pc := 2) c233_347 (rt_isTick hl (d := t) ⟨by omega, by omega⟩) rfl rfl (Nat.le_of_ble_eq_true rfl) (by decide +kernel) (by decide +kernel) (by decide +kernel) rfl d233_2 ?_
  refine x_cVs (pc := 5) c233_198 (rt_passes hl hq (b := (decide (0 ≤ t ∧ t ≤ 999999)))) (xo181 (by omega)) rfl rfl (Nat.le_of_ble_eq_true rfl) (by decide +kernel) (by decide +kernel) rfl d233_5 ?_
  obtain ⟨K, hK⟩ : ∃ Z : Nat → Int → Int, Z = (up2 I 181 6 (b01 (!(decide (0 ≤ t ∧ t ≤ 999999))))) := ⟨_, rfl⟩
  refine x_mem (J := K) (pc := 8) hK ?_
  have tK := TH.of hK
  have hRK := tK.rv h.1
  refine x_ifB_ne (pc := 8) (tgt := 13) d233_8 (by decide) (fun g8 => ?_) (fun g8 => ?_)
  · have b0 := of_decide_eq_true g8
    refine x_iload_n (pc := 13) rfl d233_13 ?_
    refine x_istore_n (pc := 14) (by decide +kernel) rfl d233_14 ?_
    dsimp only [List.set]
    have := lp_rnct (v := v) (fr := fr) hl hq hRK hA b0.1 b0.2 1001 0 (by decide)
    rw [show t + ((0 : Nat) : Int) = t from Int.add_zero t] at this
    exact ex_mono this fun o ho => by rw [ho]; exact rq_t h tK g8 rfl rfl
  · refine x_iconst (pc := 11) d233_11 ?_
    refine x_iret (pc := 12) rfl (fun _ => rfl) d233_12 ?_
    exact rq_f h tK g8 rfl
theorem lp_rnqt (hl : l.1.stackTraces = false) (hq : 192 ≤ q) (hR : RV (I 182) A) (hA : AI A c e) (hc : c ≤ 10000000) {n : Int} (n0 : 1 ≤ n) (n1 : n ≤ 500) : ∀ (m i : Nat) (r : Int), (m : Int) + i = 2000 + n → 0 ≤ r → r ≤ i → Ex l 234 0 0 28 [some (.ref 181), some (.int (iI n)), some (.int (iI r)), some (.int (iI (A 0 7 + i)))] [] (mm q I v fr) (fun o => o = (.inl (some (.int (iI (quiN (chewA A) n m (A 0 7 + i) r)))), mm q I v fr)) := by
  have hr := hA.rg
  intro m
  induction m with
  | zero =>
    intro i r hi r0 r1
    refine x_iload_n (pc := 28) rfl d234_28 ?_
    refine x_aload_n (pc := 29) rfl d234_29 ?_
    refine m_getR (pc := 30) f234_9 (by decide +kernel) (xo181 (by omega)) rr181_0 d234_30 ?_
    refine x_bipush (pc := 33) (by decide) d234_33 ?_
    refine m_ialdW (pc := 35) (w := (A 0 7)) (xa182 (by omega)) (by omega) (by omega) (by omega) (by rw [hR.sc (i := 7) (by decide) (by decide)]) d234_35 ?_
    refine x_sipush (pc := 36) (by decide) d234_36 ?_
    refine x_iadd (pc := 39) d234_39 ?_
    refine x_iload_n (pc := 40) rfl d234_40 ?_
    refine x_iadd (pc := 41) d234_41 ?_
    refine x_icmp_ge (pc := 42) (tgt := 78) ⟨by omega, by omega⟩ ⟨by omega, by omega⟩ d234_42 (by decide) (fun g42 => ?_) (fun g42 => ?_)
    · refine x_iconst (pc := 78) d234_78 ?_
      refine x_iret (pc := 79) rfl (fun _ => rfl) d234_79 ?_
      rfl
    · exfalso; omega
  | succ m ih =>
    intro i r hi r0 r1
    refine x_iload_n (pc := 28) rfl d234_28 ?_
    refine x_aload_n (pc := 29) rfl d234_29 ?_
    refine m_getR (pc := 30) f234_9 (by decide +kernel) (xo181 (by omega)) rr181_0 d234_30 ?_
    refine x_bipush (pc := 33) (by decide) d234_33 ?_
    refine m_ialdW (pc := 35) (w := (A 0 7)) (xa182 (by omega)) (by omega) (by omega) (by omega) (by rw [hR.sc (i := 7) (by decide) (by decide)]) d234_35 ?_
    refine x_sipush (pc := 36) (by decide) d234_36 ?_
    refine x_iadd (pc := 39) d234_39 ?_
    refine x_iload_n (pc := 40) rfl d234_40 ?_
    refine x_iadd (pc := 41) d234_41 ?_
    refine x_icmp_ge (pc := 42) (tgt := 78) ⟨by omega, by omega⟩ ⟨by omega, by omega⟩ d234_42 (by decide) (fun g42 => ?_) (fun g42 => ?_)
    · refine x_iconst (pc := 78) d234_78 ?_
      refine x_iret (pc := 79) rfl (fun _ => rfl) d234_79 ?_
      exfalso; omega
    · refine x_aload_n (pc := 45) rfl d234_45 ?_
      refine x_iload_n (pc := 46) rfl d234_46 ?_
      refine x_cVs (pc := 47) c234_120 (rt_chewed hl hq (A := A) hR hA (t := (A 0 7 + i)) (by omega) (by omega)) (xo181 (by omega)) rfl rfl (Nat.le_of_ble_eq_true rfl) (by decide +kernel) (by decide +kernel) rfl d234_47 ?_
      refine x_ifB_eq (pc := 50) (tgt := 57) d234_50 (by decide) (fun g50 => ?_) (fun g50 => ?_)
      · refine x_iload_n (pc := 57) rfl d234_57 ?_
        refine x_iconst (pc := 58) d234_58 ?_
        refine x_iadd (pc := 59) d234_59 ?_
        refine x_istore_n (pc := 60) (by decide +kernel) rfl d234_60 ?_
        dsimp only [List.set]
        refine x_iload_n (pc := 61) rfl d234_61 ?_
        refine x_iload_n (pc := 62) rfl d234_62 ?_
        refine x_icmp_ne (pc := 63) (tgt := 72) ⟨by omega, by omega⟩ ⟨by omega, by omega⟩ d234_63 (by decide) (fun g63 => ?_) (fun g63 => ?_)
        · refine x_iinc (pc := 72) rfl (by decide +kernel) rfl d234_72 ?_
          dsimp only [List.set]
          refine x_goto (pc := 75) (tgt := 28) d234_75 (by decide) ?_
          rw [show quiN (chewA A) n (m + 1) (A 0 7 + i) r = quiN (chewA A) n m (A 0 7 + i + 1) (r + 1) from by
            show (if (if chewA A (A 0 7 + i) then 0 else r + 1) = n then _ else quiN _ _ _ _ (if chewA A (A 0 7 + i) then 0 else r + 1)) = _
            rw [g50, if_neg Bool.false_ne_true, if_neg (by omega)], show A 0 7 + (i : Int) + 1 = A 0 7 + ((i + 1 : Nat) : Int) from by omega]
          exact ih (i + 1) (r + 1) (by omega) (by omega) (by omega)
        · refine x_iload_n (pc := 66) rfl d234_66 ?_
          refine x_iload_n (pc := 67) rfl d234_67 ?_
          refine x_isub (pc := 68) d234_68 ?_
          refine x_iconst (pc := 69) d234_69 ?_
          refine x_iadd (pc := 70) d234_70 ?_
          refine x_iret (pc := 71) rfl (fun _ => rfl) d234_71 ?_
          rw [show quiN (chewA A) n (m + 1) (A 0 7 + i) r = A 0 7 + i - n + 1 from by
            show (if (if chewA A (A 0 7 + i) then 0 else r + 1) = n then _ else quiN _ _ _ _ (if chewA A (A 0 7 + i) then 0 else r + 1)) = _
            rw [g50, if_neg Bool.false_ne_true, if_pos (by omega)]]
      · refine x_iconst (pc := 53) d234_53 ?_
        refine x_goto (pc := 54) (tgt := 60) d234_54 (by decide) ?_
        refine x_istore_n (pc := 60) (by decide +kernel) rfl d234_60 ?_
        dsimp only [List.set]
        refine x_iload_n (pc := 61) rfl d234_61 ?_
        refine x_iload_n (pc := 62) rfl d234_62 ?_
        refine x_icmp_ne (pc := 63) (tgt := 72) ⟨by omega, by omega⟩ ⟨by omega, by omega⟩ d234_63 (by decide) (fun g63 => ?_) (fun g63 => ?_)
        · refine x_iinc (pc := 72) rfl (by decide +kernel) rfl d234_72 ?_
          dsimp only [List.set]
          refine x_goto (pc := 75) (tgt := 28) d234_75 (by decide) ?_
          rw [show quiN (chewA A) n (m + 1) (A 0 7 + i) r = quiN (chewA A) n m (A 0 7 + i + 1) 0 from by
            show (if (if chewA A (A 0 7 + i) then 0 else r + 1) = n then _ else quiN _ _ _ _ (if chewA A (A 0 7 + i) then 0 else r + 1)) = _
            rw [g50, if_pos rfl, if_neg (by omega)], show A 0 7 + (i : Int) + 1 = A 0 7 + ((i + 1 : Nat) : Int) from by omega]
          exact ih (i + 1) 0 (by omega) (by omega) (by omega)
        · refine x_iload_n (pc := 66) rfl d234_66 ?_
          refine x_iload_n (pc := 67) rfl d234_67 ?_
          refine x_isub (pc := 68) d234_68 ?_
          refine x_iconst (pc := 69) d234_69 ?_
          refine x_iadd (pc := 70) d234_70 ?_
          refine x_iret (pc := 71) rfl (fun _ => rfl) d234_71 ?_
          exfalso; omega
theorem rm234 (hl : l.1.stackTraces = false) (hq : 192 ≤ q) (h : RREL I S) (hS : GOK S) {k : Int} (hk : InR k) : CT l 234 [.ref 181, .int (iI k)] (mm q I v fr) 0 0 (RQ q v fr I (oAsk S (decide (1 ≤ k ∧ k ≤ 500)) (quiN (chewA (gA S)) k (2000 + k).toNat (gA S 0 7) 0))) := by
  have hA : AINV (gA S) cB := hS.1
  have hr := hA.rg
  have hcB : cB = 2450880 := rfl
  obtain ⟨hk0, hk1⟩ := id hk
  refine mkct2 hl (by decide) (Nat.le_of_ble_eq_true rfl) (L := [some (.ref 181), some (.int (iI k)), none, none]) rfl ?_
  refine x_aload_n (pc := 0) rfl d234_0 ?_
  refine x_iload_n (pc := 1) rfl d234_1 ?_
  refine x_i2l (pc := 2) ⟨by omega, by omega⟩ d234_2 ?_
  refine x_lconst (pc := 3) (z := 1) (by decide) d234_3 ?_
  refine x_ldc2 (pc := 4) (z := 500) k234_350 (by decide) d234_4 ?_
  refine x_cSs (pc := 7) c234_72 (rt_in hl (a := k) (b := 1) (c := 500) ⟨by omega, by omega⟩ ⟨by omega, by omega⟩ ⟨by omega, by omega⟩) rfl rfl (Nat.le_of_ble_eq_true rfl) (by decide +kernel) (by decide +kernel) (by decide +kernel) rfl d234_7 ?_
  refine x_cVs (pc := 10) c234_198 (rt_passes hl hq (b := (decide (1 ≤ k ∧ k ≤ 500)))) (xo181 (by omega)) rfl rfl (Nat.le_of_ble_eq_true rfl) (by decide +kernel) (by decide +kernel) rfl d234_10 ?_
  obtain ⟨K, hK⟩ : ∃ Z : Nat → Int → Int, Z = (up2 I 181 6 (b01 (!(decide (1 ≤ k ∧ k ≤ 500))))) := ⟨_, rfl⟩
  refine x_mem (J := K) (pc := 13) hK ?_
  have tK := TH.of hK
  have hRK := tK.rv h.1
  refine x_ifB_ne (pc := 13) (tgt := 18) d234_13 (by decide) (fun g13 => ?_) (fun g13 => ?_)
  · have b0 := of_decide_eq_true g13
    refine x_iconst (pc := 18) d234_18 ?_
    refine x_istore_n (pc := 19) (by decide +kernel) rfl d234_19 ?_
    dsimp only [List.set]
    refine x_aload_n (pc := 20) rfl d234_20 ?_
    refine m_getR (pc := 21) f234_9 (by decide +kernel) (xo181 (by omega)) rr181_0 d234_21 ?_
    refine x_bipush (pc := 24) (by decide) d234_24 ?_
    refine m_ialdW (pc := 26) (w := ((gA S) 0 7)) (xa182 (by omega)) (by omega) (by omega) (by omega) (by rw [hRK.sc (i := 7) (by decide) (by decide)]) d234_26 ?_
    refine x_istore_n (pc := 27) (by decide +kernel) rfl d234_27 ?_
    dsimp only [List.set]
    have := lp_rnqt (v := v) (fr := fr) hl hq hRK hA (by omega) b0.1 b0.2 (2000 + k).toNat 0 0 (by omega) (by omega) (by omega)
    rw [show gA S 0 7 + ((0 : Nat) : Int) = gA S 0 7 from Int.add_zero _] at this
    exact ex_mono this fun o ho => by rw [ho]; exact rq_t h tK g13 rfl rfl
  · refine x_iconst (pc := 16) d234_16 ?_
    refine x_iret (pc := 17) rfl (fun _ => rfl) d234_17 ?_
    exact rq_f h tK g13 rfl
theorem lp_rcs (hl : l.1.stackTraces = false) (hq : 192 ≤ q) {n : Nat} {T : Int → Int} (hn : I 181 12 = n) (hn5 : n ≤ 500) (hT : ∀ i : Int, 0 ≤ i → i < n → I 189 i = T i ∧ 0 ≤ T i ∧ T i ≤ 255) : ∀ (m i : Nat), m + i = n →
    Ex l 235 0 0 9 [some (.ref 181), some (.int (iI (crcF T i))), some (.int (iI i))] [] (mm q I v fr) (fun o => o = (.inl (some (.int (iI (crcF T n)))), mm q I v fr)) := by
  intro m
  induction m with
  | zero =>
    intro i hi
    refine x_iload_n (pc := 9) rfl d235_9 ?_
    refine x_aload_n (pc := 10) rfl d235_10 ?_
    refine m_getI (pc := 11) (z := 12) f235_56 (by decide +kernel) rfl (xo181 (by omega)) d235_11 ?_
    refine x_val (pc := 14) (w := (n : Int)) (hn) ?_
    refine x_icmp_ge (pc := 14) (tgt := 34) ⟨by omega, by omega⟩ ⟨by omega, by omega⟩ d235_14 (by decide) (fun g14 => ?_) (fun g14 => ?_)
    · refine x_iload_n (pc := 34) rfl d235_34 ?_
      refine x_iret (pc := 35) rfl (fun _ => rfl) d235_35 ?_
      rw [show i = n from by omega]
    · exfalso; omega
  | succ m ih =>
    intro i hi
    have hb := crcF_b (B := T) i (fun j h0 h1 => (hT j h0 (by omega)).2)
    have hc := hT i (by omega) (by omega)
    refine x_iload_n (pc := 9) rfl d235_9 ?_
    refine x_aload_n (pc := 10) rfl d235_10 ?_
    refine m_getI (pc := 11) (z := 12) f235_56 (by decide +kernel) rfl (xo181 (by omega)) d235_11 ?_
    refine x_val (pc := 14) (w := (n : Int)) (hn) ?_
    refine x_icmp_ge (pc := 14) (tgt := 34) ⟨by omega, by omega⟩ ⟨by omega, by omega⟩ d235_14 (by decide) (fun g14 => ?_) (fun g14 => ?_)
    · refine x_iload_n (pc := 34) rfl d235_34 ?_
      refine x_iret (pc := 35) rfl (fun _ => rfl) d235_35 ?_
      exfalso; omega
    · refine x_iload_n (pc := 17) rfl d235_17 ?_
      refine x_aload_n (pc := 18) rfl d235_18 ?_
      refine m_getR (pc := 19) f235_31 (by decide +kernel) (xo181 (by omega)) rr181_11 d235_19 ?_
      refine x_iload_n (pc := 22) rfl d235_22 ?_
      refine m_iald (pc := 23) (xa189 (by omega)) (by omega) (by omega) (by omega) d235_23 ?_
      refine x_val (pc := 24) (w := (T i)) (hc.1) ?_
      refine x_cSs (pc := 24) c235_89 (rt_sum8 hl (s := (crcF T i)) (b := (T i)) (by omega) (by omega) (by omega) (by omega)) rfl rfl (Nat.le_of_ble_eq_true rfl) (by decide +kernel) (by decide +kernel) (by decide +kernel) rfl d235_24 ?_
      refine x_istore_n (pc := 27) (by decide +kernel) rfl d235_27 ?_
      dsimp only [List.set]
      refine x_iinc (pc := 28) rfl (by decide +kernel) rfl d235_28 ?_
      dsimp only [List.set]
      refine x_goto (pc := 31) (tgt := 9) d235_31 (by decide) ?_
      exact ih (i + 1) (by omega)
theorem rm235 (hl : l.1.stackTraces = false) (hq : 192 ≤ q) (h : RREL I S) (hS : GOK S) : CT l 235 [.ref 181] (mm q I v fr) 0 0 (RQ q v fr I (0, crcF (gT S) (gL S).toNat, S)) := by
  have hA : AINV (gA S) cB := hS.1
  have hr := hA.rg
  have hcB : cB = 2450880 := rfl
  refine mkct2 hl (by decide) (Nat.le_of_ble_eq_true rfl) (L := [some (.ref 181), none, none]) rfl ?_
  refine x_aload_n (pc := 0) rfl d235_0 ?_
  refine x_iconst (pc := 1) d235_1 ?_
  refine m_putI (pc := 2) (z := 6) f235_65 (by decide +kernel) (by decide +kernel) rfl (xo181 (by omega)) d235_2 ?_
  refine x_iconst (pc := 5) d235_5 ?_
  refine x_istore_n (pc := 6) (by decide +kernel) rfl d235_6 ?_
  dsimp only [List.set]
  refine x_iconst (pc := 7) d235_7 ?_
  refine x_istore_n (pc := 8) (by decide +kernel) rfl d235_8 ?_
  dsimp only [List.set]
  have hg := hS.2.2.2.1
  have t : TH I 0 (up2 I 181 6 0) := TH.mk
  have := lp_rcs (I := up2 I 181 6 0) (v := v) (fr := fr) hl hq (n := (gL S).toNat) (T := gT S) (by rw [up2_i (by decide), h.2.2.2.1.1]; omega) (by omega) (fun i i0 i1 => ⟨by rw [up2_p (by decide)]; exact h.2.2.2.1.2 i i0 (by omega), hg.2 i i0 (by omega)⟩) (gL S).toNat 0 (by omega)
  exact ex_mono this fun o ho => by rw [ho]; exact rq_0 h t rfl
theorem lp_intF (hl : l.1.stackTraces = false) (hq : 192 ≤ q) (hR : RV (I 182) A) (hA : AI A c e) {f : Int} (f0 : 0 ≤ f) (f1 : f < A 0 6) : ∀ m k : Nat, (m : Int) + k = A 6 f → Ex l 249 0 0 32 [some (.ref 181), some (.int (iI f)), some (.int (iI 0)), some (.int (iI k))] [] (mm q I v fr) (fun o => o = (.inl (some (.int (iI 0))), mm q I v fr)) := by
  have hr := hA.rg
  have hf := hA.frm f f0 f1
  intro m
  induction m with
  | zero =>
    intro k hk
    refine x_iload_n (pc := 32) rfl d249_32 ?_
    refine x_aload_n (pc := 33) rfl d249_33 ?_
    refine x_iload_n (pc := 34) rfl d249_34 ?_
    refine x_iconst (pc := 35) d249_35 ?_
    refine x_cVs (pc := 36) c249_78 (rt_of6 hl hq (A := A) hR (f := f) (by omega) (by omega) (by omega)) (xo181 (by omega)) rfl rfl (Nat.le_of_ble_eq_true rfl) (by decide +kernel) (by decide +kernel) rfl d249_36 ?_
    refine x_icmp_ge (pc := 39) (tgt := 78) ⟨by omega, by omega⟩ ⟨by omega, by omega⟩ d249_39 (by decide) (fun g39 => ?_) (fun g39 => ?_)
    · refine x_iload_n (pc := 78) rfl d249_78 ?_
      refine x_zret (pc := 79) rfl (Or.inl rfl) (fun _ => rfl) d249_79 ?_
      rfl
    · exfalso; omega
  | succ m ih =>
    intro k hk
    refine x_iload_n (pc := 32) rfl d249_32 ?_
    refine x_aload_n (pc := 33) rfl d249_33 ?_
    refine x_iload_n (pc := 34) rfl d249_34 ?_
    refine x_iconst (pc := 35) d249_35 ?_
    refine x_cVs (pc := 36) c249_78 (rt_of6 hl hq (A := A) hR (f := f) (by omega) (by omega) (by omega)) (xo181 (by omega)) rfl rfl (Nat.le_of_ble_eq_true rfl) (by decide +kernel) (by decide +kernel) rfl d249_36 ?_
    refine x_icmp_ge (pc := 39) (tgt := 78) ⟨by omega, by omega⟩ ⟨by omega, by omega⟩ d249_39 (by decide) (fun g39 => ?_) (fun g39 => ?_)
    · refine x_iload_n (pc := 78) rfl d249_78 ?_
      refine x_zret (pc := 79) rfl (Or.inl rfl) (fun _ => rfl) d249_79 ?_
      exfalso; omega
    · refine x_iload_n (pc := 42) rfl d249_42 ?_
      refine x_if_eq (pc := 43) (tgt := 70) ⟨by omega, by omega⟩ d249_43 (by decide) (fun _ => ?_) (fun z => absurd z (by decide))
      refine x_iconst (pc := 70) d249_70 ?_
      refine x_istore_n (pc := 71) (by decide +kernel) rfl d249_71 ?_
      dsimp only [List.set]
      refine x_iinc (pc := 72) rfl (by decide +kernel) rfl d249_72 ?_
      dsimp only [List.set]
      refine x_goto (pc := 75) (tgt := 32) d249_75 (by decide) ?_
      exact ih (k + 1) (by omega)
theorem lp_intT (hl : l.1.stackTraces = false) (hq : 192 ≤ q) (hR : RV (I 182) A) (hA : AI A c e) {f : Int} (f0 : 0 ≤ f) (f1 : f < A 0 6) (h9 : A 9 f = 1) (h11 : ∀ i, 0 ≤ A 11 i ∧ A 11 i ≤ 255) : ∀ m k : Nat, (m : Int) + k = A 6 f → (∀ j : Nat, j < k → decide (A 11 (6 * f + j) = A 10 (6 * f + j)) = true) → Ex l 249 0 0 32 [some (.ref 181), some (.int (iI f)), some (.int (iI 1)), some (.int (iI k))] [] (mm q I v fr) (fun o => o = (.inl (some (.int (iI (b01 (intA A f))))), mm q I v fr)) := by
  have hr := hA.rg
  have hf := hA.frm f f0 f1
  intro m
  induction m with
  | zero =>
    intro k hk hy
    refine x_iload_n (pc := 32) rfl d249_32 ?_
    refine x_aload_n (pc := 33) rfl d249_33 ?_
    refine x_iload_n (pc := 34) rfl d249_34 ?_
    refine x_iconst (pc := 35) d249_35 ?_
    refine x_cVs (pc := 36) c249_78 (rt_of6 hl hq (A := A) hR (f := f) (by omega) (by omega) (by omega)) (xo181 (by omega)) rfl rfl (Nat.le_of_ble_eq_true rfl) (by decide +kernel) (by decide +kernel) rfl d249_36 ?_
    refine x_icmp_ge (pc := 39) (tgt := 78) ⟨by omega, by omega⟩ ⟨by omega, by omega⟩ d249_39 (by decide) (fun g39 => ?_) (fun g39 => ?_)
    · refine x_iload_n (pc := 78) rfl d249_78 ?_
      refine x_zret (pc := 79) rfl (Or.inr rfl) (fun _ => rfl) d249_79 ?_
      have e : intA A f = true := by unfold intA; rw [decide_eq_true (by omega), allD_yes (i := k) (by omega) hy]; rfl
      rw [e]; rfl
    · exfalso; omega
  | succ m ih =>
    intro k hk hy
    have hb := hA.byt (6 * f + k)
    have hg := h11 (6 * f + k)
    refine x_iload_n (pc := 32) rfl d249_32 ?_
    refine x_aload_n (pc := 33) rfl d249_33 ?_
    refine x_iload_n (pc := 34) rfl d249_34 ?_
    refine x_iconst (pc := 35) d249_35 ?_
    refine x_cVs (pc := 36) c249_78 (rt_of6 hl hq (A := A) hR (f := f) (by omega) (by omega) (by omega)) (xo181 (by omega)) rfl rfl (Nat.le_of_ble_eq_true rfl) (by decide +kernel) (by decide +kernel) rfl d249_36 ?_
    refine x_icmp_ge (pc := 39) (tgt := 78) ⟨by omega, by omega⟩ ⟨by omega, by omega⟩ d249_39 (by decide) (fun g39 => ?_) (fun g39 => ?_)
    · refine x_iload_n (pc := 78) rfl d249_78 ?_
      refine x_zret (pc := 79) rfl (Or.inr rfl) (fun _ => rfl) d249_79 ?_
      exfalso; omega
    · refine x_iload_n (pc := 42) rfl d249_42 ?_
      refine x_if_eq (pc := 43) (tgt := 70) ⟨by omega, by omega⟩ d249_43 (by decide) (fun z => absurd z (by decide)) (fun _ => ?_)
      refine x_aload_n (pc := 46) rfl d249_46 ?_
      refine x_iload_n (pc := 47) rfl d249_47 ?_
      refine x_bipush (pc := 48) (by decide) d249_48 ?_
      refine x_iload_n (pc := 50) rfl d249_50 ?_
      refine x_iadd (pc := 51) d249_51 ?_
      refine x_cVs (pc := 52) c249_78 (rt_ofG hl hq (A := A) hR (f := f) (k := k) (by omega) (by omega) (by omega) (by omega) (by omega) (by omega) (by omega)) (xo181 (by omega)) rfl rfl (Nat.le_of_ble_eq_true rfl) (by decide +kernel) (by decide +kernel) rfl d249_52 ?_
      refine x_aload_n (pc := 55) rfl d249_55 ?_
      refine x_iload_n (pc := 56) rfl d249_56 ?_
      refine x_iconst (pc := 57) d249_57 ?_
      refine x_iload_n (pc := 58) rfl d249_58 ?_
      refine x_iadd (pc := 59) d249_59 ?_
      refine x_cVs (pc := 60) c249_78 (rt_ofS hl hq (A := A) hR (f := f) (k := k) (by omega) (by omega) (by omega) (by omega) (by omega) (by omega)) (xo181 (by omega)) rfl rfl (Nat.le_of_ble_eq_true rfl) (by decide +kernel) (by decide +kernel) rfl d249_60 ?_
      refine x_icmp_ne (pc := 63) (tgt := 70) ⟨by omega, by omega⟩ ⟨by omega, by omega⟩ d249_63 (by decide) (fun g63 => ?_) (fun g63 => ?_)
      · refine x_iconst (pc := 70) d249_70 ?_
        refine x_istore_n (pc := 71) (by decide +kernel) rfl d249_71 ?_
        dsimp only [List.set]
        refine x_iinc (pc := 72) rfl (by decide +kernel) rfl d249_72 ?_
        dsimp only [List.set]
        refine x_goto (pc := 75) (tgt := 32) d249_75 (by decide) ?_
        have e : intA A f = false := by unfold intA; rw [allD_no (i := k) (by omega) (decide_eq_false g63), Bool.and_false]
        rw [e]
        exact lp_intF hl hq hR hA f0 f1 m (k + 1) (by omega)
      · refine x_iconst (pc := 66) d249_66 ?_
        refine x_goto (pc := 67) (tgt := 71) d249_67 (by decide) ?_
        refine x_istore_n (pc := 71) (by decide +kernel) rfl d249_71 ?_
        dsimp only [List.set]
        refine x_iinc (pc := 72) rfl (by decide +kernel) rfl d249_72 ?_
        dsimp only [List.set]
        refine x_goto (pc := 75) (tgt := 32) d249_75 (by decide) ?_
        refine ih (k + 1) (by omega) fun j hj => ?_
        by_cases ej : j = k
        · rw [ej]; exact decide_eq_true g63
        · exact hy j (by omega)
theorem rm249 (hl : l.1.stackTraces = false) (hq : 192 ≤ q) (h : RREL I S) (hS : GOK S) {f : Int} (hf : InR f) (h9 : ∀ f, gA S 9 f = 0 ∨ gA S 9 f = 1) (h11 : ∀ i, 0 ≤ gA S 11 i ∧ gA S 11 i ≤ 255) : CT l 249 [.ref 181, .int (iI f)] (mm q I v fr) 0 0 (RQ q v fr I (oAsk S (isF S f) (b01 (intA (gA S) f)))) := by
  have hA : AINV (gA S) cB := hS.1
  have hr := hA.rg
  have hcB : cB = 2450880 := rfl
  obtain ⟨hf0, hf1⟩ := id hf
  refine mkct2 hl (by decide) (Nat.le_of_ble_eq_true rfl) (L := [some (.ref 181), some (.int (iI f)), none, none]) rfl ?_
  refine x_aload_n (pc := 0) rfl d249_0 ?_
  refine x_aload_n (pc := 1) rfl d249_1 ?_
  refine x_iload_n (pc := 2) rfl d249_2 ?_
  refine x_cVs (pc := 3) c249_352 (rt_isFrm hl hq (A := (gA S)) h.1 hA (d := f) ⟨by omega, by omega⟩) (xo181 (by omega)) rfl rfl (Nat.le_of_ble_eq_true rfl) (by decide +kernel) (by decide +kernel) rfl d249_3 ?_
  refine x_cVs (pc := 6) c249_198 (rt_passes hl hq (b := (decide (0 ≤ f ∧ f < (gA S) 0 6)))) (xo181 (by omega)) rfl rfl (Nat.le_of_ble_eq_true rfl) (by decide +kernel) (by decide +kernel) rfl d249_6 ?_
  obtain ⟨K, hK⟩ : ∃ Z : Nat → Int → Int, Z = (up2 I 181 6 (b01 (!(decide (0 ≤ f ∧ f < (gA S) 0 6))))) := ⟨_, rfl⟩
  refine x_mem (J := K) (pc := 9) hK ?_
  have tK := TH.of hK
  have hRK := tK.rv h.1
  refine x_ifB_ne (pc := 9) (tgt := 14) d249_9 (by decide) (fun g9 => ?_) (fun g9 => ?_)
  · have b0 := of_decide_eq_true g9
    have hf := hA.frm f b0.1 b0.2
    refine x_aload_n (pc := 14) rfl d249_14 ?_
    refine x_iload_n (pc := 15) rfl d249_15 ?_
    refine x_iconst (pc := 16) d249_16 ?_
    refine x_cVs (pc := 17) c249_78 (rt_of9 hl hq (A := (gA S)) hRK (f := f) (by omega) (by omega) (by omega)) (xo181 (by omega)) rfl rfl (Nat.le_of_ble_eq_true rfl) (by decide +kernel) (by decide +kernel) rfl d249_17 ?_
    refine x_iconst (pc := 20) d249_20 ?_
    have n9 := h9 f
    refine x_icmp_ne (pc := 21) (tgt := 28) ⟨by omega, by omega⟩ ⟨by omega, by omega⟩ d249_21 (by decide) (fun g21 => ?_) (fun g21 => ?_)
    · refine x_iconst (pc := 28) d249_28 ?_
      refine x_istore_n (pc := 29) (by decide +kernel) rfl d249_29 ?_
      dsimp only [List.set]
      refine x_iconst (pc := 30) d249_30 ?_
      refine x_istore_n (pc := 31) (by decide +kernel) rfl d249_31 ?_
      dsimp only [List.set]
      have e : intA (gA S) f = false := by unfold intA; rw [decide_eq_false (by omega)]; rfl
      exact ex_mono (lp_intF (v := v) (fr := fr) hl hq hRK hA b0.1 b0.2 (gA S 6 f).toNat 0 (by omega)) fun o ho => by rw [ho]; exact rq_t h tK g9 rfl (by rw [e]; rfl)
    · refine x_iconst (pc := 24) d249_24 ?_
      refine x_goto (pc := 25) (tgt := 29) d249_25 (by decide) ?_
      refine x_istore_n (pc := 29) (by decide +kernel) rfl d249_29 ?_
      dsimp only [List.set]
      refine x_iconst (pc := 30) d249_30 ?_
      refine x_istore_n (pc := 31) (by decide +kernel) rfl d249_31 ?_
      dsimp only [List.set]
      exact ex_mono (lp_intT (v := v) (fr := fr) hl hq hRK hA b0.1 b0.2 g21 h11 (gA S 6 f).toNat 0 (by omega) (fun j hj => absurd hj (Nat.not_lt_zero j))) fun o ho => by rw [ho]; exact rq_t h tK g9 rfl rfl
  · refine x_iconst (pc := 12) d249_12 ?_
    refine x_zret (pc := 13) rfl (Or.inl rfl) (fun _ => rfl) d249_13 ?_
    exact rq_f h tK g9 rfl
theorem lp_rsafe (hl : l.1.stackTraces = false) (hq : 192 ≤ q) (hR : RV (I 182) A) (hA : AI A c e) : ∀ m i : Nat, m + i = 100 → Ex l 251 0 0 7 [some (.ref 181), some (.int (iI i))] [] (mm q I v fr) (fun o => o = (.inl (some (.int (iI (safN (A 0 1) m i)))), mm q I v fr)) := by
  have hr := hA.rg
  intro m
  induction m with
  | zero =>
    intro i hi
    refine x_iload_n (pc := 7) rfl d251_7 ?_
    refine x_bipush (pc := 8) (by decide) d251_8 ?_
    refine x_icmp_ge (pc := 10) (tgt := 28) ⟨by omega, by omega⟩ ⟨by omega, by omega⟩ d251_10 (by decide) (fun g10 => ?_) (fun g10 => ?_)
    · refine x_iload_n (pc := 28) rfl d251_28 ?_
      refine x_iret (pc := 29) rfl (fun _ => rfl) d251_29 ?_
      rfl
    · exfalso; omega
  | succ m ih =>
    intro i hi
    have hk := tkI_r (b := i) (dr := A 0 1) (by omega) (by omega) (by omega) (by omega)
    refine x_iload_n (pc := 7) rfl d251_7 ?_
    refine x_bipush (pc := 8) (by decide) d251_8 ?_
    refine x_icmp_ge (pc := 10) (tgt := 28) ⟨by omega, by omega⟩ ⟨by omega, by omega⟩ d251_10 (by decide) (fun g10 => ?_) (fun g10 => ?_)
    · refine x_iload_n (pc := 28) rfl d251_28 ?_
      refine x_iret (pc := 29) rfl (fun _ => rfl) d251_29 ?_
      exfalso; omega
    · refine x_aload_n (pc := 13) rfl d251_13 ?_
      refine x_iload_n (pc := 14) rfl d251_14 ?_
      refine x_cVs (pc := 15) c251_134 (rt_tkI hl hq (A := A) hR hA (b := i) (by omega) (by omega)) (xo181 (by omega)) rfl rfl (Nat.le_of_ble_eq_true rfl) (by decide +kernel) (by decide +kernel) rfl d251_15 ?_
      refine x_iload_n (pc := 18) rfl d251_18 ?_
      refine x_icmp_ne (pc := 19) (tgt := 28) ⟨by omega, by omega⟩ ⟨by omega, by omega⟩ d251_19 (by decide) (fun g19 => ?_) (fun g19 => ?_)
      · refine x_iload_n (pc := 28) rfl d251_28 ?_
        refine x_iret (pc := 29) rfl (fun _ => rfl) d251_29 ?_
        rw [show safN (A 0 1) (m + 1) i = i from if_neg g19]
      · refine x_iinc (pc := 22) rfl (by decide +kernel) rfl d251_22 ?_
        dsimp only [List.set]
        refine x_goto (pc := 25) (tgt := 7) d251_25 (by decide) ?_
        rw [show safN (A 0 1) (m + 1) i = safN (A 0 1) m ((i + 1 : Nat) : Int) from if_pos g19]
        exact ih (i + 1) (by omega)
theorem rm251 (hl : l.1.stackTraces = false) (hq : 192 ≤ q) (h : RREL I S) (hS : GOK S) : CT l 251 [.ref 181] (mm q I v fr) 0 0 (RQ q v fr I (0, safN (gA S 0 1) 100 0, S)) := by
  have hA : AINV (gA S) cB := hS.1
  have hr := hA.rg
  have hcB : cB = 2450880 := rfl
  refine mkct2 hl (by decide) (Nat.le_of_ble_eq_true rfl) (L := [some (.ref 181), none]) rfl ?_
  refine x_aload_n (pc := 0) rfl d251_0 ?_
  refine x_iconst (pc := 1) d251_1 ?_
  refine m_putI (pc := 2) (z := 6) f251_65 (by decide +kernel) (by decide +kernel) rfl (xo181 (by omega)) d251_2 ?_
  refine x_iconst (pc := 5) d251_5 ?_
  refine x_istore_n (pc := 6) (by decide +kernel) rfl d251_6 ?_
  dsimp only [List.set]
  have t : TH I 0 (up2 I 181 6 0) := TH.mk
  exact ex_mono (lp_rsafe (v := v) (fr := fr) hl hq (t.rv h.1) hA 100 0 (by decide)) fun o ho => by rw [ho]; exact rq_0 h t rfl
theorem lp_rinv (hl : l.1.stackTraces = false) (hq : 192 ≤ q) (hR : RV (I 182) A) (hA : AI A c e) {f t : Int} (f0 : 0 ≤ f) (f1 : f < A 0 6) (t0 : 0 ≤ t) (t1 : t ≤ 999999) : ∀ m k : Nat, (m : Int) + k = 8 * A 6 f → Ex l 254 0 0 16 [some (.ref 181), some (.int (iI f)), some (.int (iI t)), some (.int (iI (invN (chA A t (A 0 0)) k))), some (.int (iI k))] [] (mm q I v fr) (fun o => o = (.inl (some (.int (iI (invN (chA A t (A 0 0)) (8 * A 6 f).toNat)))), mm q I v fr)) := by
  have hr := hA.rg
  have hf := hA.frm f f0 f1
  intro m
  induction m with
  | zero =>
    intro k hk
    refine x_iload (pc := 16) rfl d254_16 ?_
    refine x_aload_n (pc := 18) rfl d254_18 ?_
    refine x_iload_n (pc := 19) rfl d254_19 ?_
    refine x_cVs (pc := 20) c254_137 (rt_bitsOf hl hq (A := A) hR (f := f) (by omega) (by omega) (by omega)) (xo181 (by omega)) rfl rfl (Nat.le_of_ble_eq_true rfl) (by decide +kernel) (by decide +kernel) rfl d254_20 ?_
    refine x_icmp_ge (pc := 23) (tgt := 45) ⟨by omega, by omega⟩ ⟨by omega, by omega⟩ d254_23 (by decide) (fun g23 => ?_) (fun g23 => ?_)
    · refine x_iload_n (pc := 45) rfl d254_45 ?_
      refine x_iret (pc := 46) rfl (fun _ => rfl) d254_46 ?_
      rw [show (8 * A 6 f).toNat = k from by omega]
    · exfalso; omega
  | succ m ih =>
    intro k hk
    have hv := invN_r (chA A t (A 0 0)) k
    have hb := b01_or (chA A t (A 0 0) k)
    refine x_iload (pc := 16) rfl d254_16 ?_
    refine x_aload_n (pc := 18) rfl d254_18 ?_
    refine x_iload_n (pc := 19) rfl d254_19 ?_
    refine x_cVs (pc := 20) c254_137 (rt_bitsOf hl hq (A := A) hR (f := f) (by omega) (by omega) (by omega)) (xo181 (by omega)) rfl rfl (Nat.le_of_ble_eq_true rfl) (by decide +kernel) (by decide +kernel) rfl d254_20 ?_
    refine x_icmp_ge (pc := 23) (tgt := 45) ⟨by omega, by omega⟩ ⟨by omega, by omega⟩ d254_23 (by decide) (fun g23 => ?_) (fun g23 => ?_)
    · refine x_iload_n (pc := 45) rfl d254_45 ?_
      refine x_iret (pc := 46) rfl (fun _ => rfl) d254_46 ?_
      exfalso; omega
    · refine x_iload_n (pc := 26) rfl d254_26 ?_
      refine x_aload_n (pc := 27) rfl d254_27 ?_
      refine x_iload (pc := 28) rfl d254_28 ?_
      refine x_iload_n (pc := 30) rfl d254_30 ?_
      refine x_cVs (pc := 31) c254_127 (rt_inv hl hq (A := A) hR hA (b := k) (t := t) (by omega) (by omega) (by omega) (by omega)) (xo181 (by omega)) rfl rfl (Nat.le_of_ble_eq_true rfl) (by decide +kernel) (by decide +kernel) rfl d254_31 ?_
      refine x_cSs (pc := 34) c254_130 (rt_truth hl (b := (chA A t (A 0 0) k))) rfl rfl (Nat.le_of_ble_eq_true rfl) (by decide +kernel) (by decide +kernel) (by decide +kernel) rfl d254_34 ?_
      refine x_iadd (pc := 37) d254_37 ?_
      refine x_istore_n (pc := 38) (by decide +kernel) rfl d254_38 ?_
      dsimp only [List.set]
      refine x_iinc (pc := 39) rfl (by decide +kernel) rfl d254_39 ?_
      dsimp only [List.set]
      refine x_goto (pc := 42) (tgt := 16) d254_42 (by decide) ?_
      exact ih (k + 1) (by omega)
theorem lp_rbst (hl : l.1.stackTraces = false) (hq : 192 ≤ q) (hR : RV (I 182) A) (hA : AI A c e) {f t : Int} (f0 : 0 ≤ f) (f1 : f < A 0 6) (t0 : 0 ≤ t) (t1 : t ≤ 999999) : ∀ m k : Nat, (m : Int) + k = 8 * A 6 f → Ex l 255 0 0 19 [some (.ref 181), some (.int (iI f)), some (.int (iI t)), some (.int (iI (bstN (chA A t (A 0 0)) k))), some (.int (iI (runN (chA A t (A 0 0)) k))), some (.int (iI k))] [] (mm q I v fr) (fun o => o = (.inl (some (.int (iI (bstN (chA A t (A 0 0)) (8 * A 6 f).toNat)))), mm q I v fr)) := by
  have hr := hA.rg
  have hf := hA.frm f f0 f1
  intro m
  induction m with
  | zero =>
    intro k hk
    refine x_iload (pc := 19) rfl d255_19 ?_
    refine x_aload_n (pc := 21) rfl d255_21 ?_
    refine x_iload_n (pc := 22) rfl d255_22 ?_
    refine x_cVs (pc := 23) c255_137 (rt_bitsOf hl hq (A := A) hR (f := f) (by omega) (by omega) (by omega)) (xo181 (by omega)) rfl rfl (Nat.le_of_ble_eq_true rfl) (by decide +kernel) (by decide +kernel) rfl d255_23 ?_
    refine x_icmp_ge (pc := 26) (tgt := 62) ⟨by omega, by omega⟩ ⟨by omega, by omega⟩ d255_26 (by decide) (fun g26 => ?_) (fun g26 => ?_)
    · refine x_iload_n (pc := 62) rfl d255_62 ?_
      refine x_iret (pc := 63) rfl (fun _ => rfl) d255_63 ?_
      rw [show (8 * A 6 f).toNat = k from by omega]
    · exfalso; omega
  | succ m ih =>
    intro k hk
    have hv := bstN_r (chA A t (A 0 0)) k
    have hw := runN_r (chA A t (A 0 0)) k
    refine x_iload (pc := 19) rfl d255_19 ?_
    refine x_aload_n (pc := 21) rfl d255_21 ?_
    refine x_iload_n (pc := 22) rfl d255_22 ?_
    refine x_cVs (pc := 23) c255_137 (rt_bitsOf hl hq (A := A) hR (f := f) (by omega) (by omega) (by omega)) (xo181 (by omega)) rfl rfl (Nat.le_of_ble_eq_true rfl) (by decide +kernel) (by decide +kernel) rfl d255_23 ?_
    refine x_icmp_ge (pc := 26) (tgt := 62) ⟨by omega, by omega⟩ ⟨by omega, by omega⟩ d255_26 (by decide) (fun g26 => ?_) (fun g26 => ?_)
    · refine x_iload_n (pc := 62) rfl d255_62 ?_
      refine x_iret (pc := 63) rfl (fun _ => rfl) d255_63 ?_
      exfalso; omega
    · refine x_aload_n (pc := 29) rfl d255_29 ?_
      refine x_iload (pc := 30) rfl d255_30 ?_
      refine x_iload_n (pc := 32) rfl d255_32 ?_
      refine x_cVs (pc := 33) c255_127 (rt_inv hl hq (A := A) hR hA (b := k) (t := t) (by omega) (by omega) (by omega) (by omega)) (xo181 (by omega)) rfl rfl (Nat.le_of_ble_eq_true rfl) (by decide +kernel) (by decide +kernel) rfl d255_33 ?_
      refine x_ifB_eq (pc := 36) (tgt := 46) d255_36 (by decide) (fun g36 => ?_) (fun g36 => ?_)
      · refine x_iconst (pc := 46) d255_46 ?_
        refine x_istore (pc := 47) (by decide +kernel) rfl d255_47 ?_
        dsimp only [List.set]
        refine x_iload_n (pc := 49) rfl d255_49 ?_
        refine x_iload (pc := 50) rfl d255_50 ?_
        refine x_max (pc := 52) ⟨by omega, by omega⟩ ⟨by omega, by omega⟩ c255_367 (by decide +kernel) (Nat.le_of_ble_eq_true rfl) d255_52 ?_
        refine x_istore_n (pc := 55) (by decide +kernel) rfl d255_55 ?_
        dsimp only [List.set]
        refine x_iinc (pc := 56) rfl (by decide +kernel) rfl d255_56 ?_
        dsimp only [List.set]
        refine x_goto (pc := 59) (tgt := 19) d255_59 (by decide) ?_
        have := ih (k + 1) (by omega)
        rw [show bstN (chA A t (A 0 0)) (k + 1) = max (bstN (chA A t (A 0 0)) k) 0 from by
          rw [Int.max_eq_left (by omega)]
          exact if_neg (by rw [g36]; decide), show runN (chA A t (A 0 0)) (k + 1) = 0 from if_neg (by rw [g36]; decide)] at this
        exact this
      · refine x_iload (pc := 39) rfl d255_39 ?_
        refine x_iconst (pc := 41) d255_41 ?_
        refine x_iadd (pc := 42) d255_42 ?_
        refine x_goto (pc := 43) (tgt := 47) d255_43 (by decide) ?_
        refine x_istore (pc := 47) (by decide +kernel) rfl d255_47 ?_
        dsimp only [List.set]
        refine x_iload_n (pc := 49) rfl d255_49 ?_
        refine x_iload (pc := 50) rfl d255_50 ?_
        refine x_max (pc := 52) ⟨by omega, by omega⟩ ⟨by omega, by omega⟩ c255_367 (by decide +kernel) (Nat.le_of_ble_eq_true rfl) d255_52 ?_
        refine x_istore_n (pc := 55) (by decide +kernel) rfl d255_55 ?_
        dsimp only [List.set]
        refine x_iinc (pc := 56) rfl (by decide +kernel) rfl d255_56 ?_
        dsimp only [List.set]
        refine x_goto (pc := 59) (tgt := 19) d255_59 (by decide) ?_
        have := ih (k + 1) (by omega)
        rw [show bstN (chA A t (A 0 0)) (k + 1) = max (bstN (chA A t (A 0 0)) k) (runN (chA A t (A 0 0)) k + 1) from if_pos g36, show runN (chA A t (A 0 0)) (k + 1) = runN (chA A t (A 0 0)) k + 1 from if_pos g36] at this
        exact this
theorem lp_rwrg (hl : l.1.stackTraces = false) (hq : 192 ≤ q) (hR : RV (I 182) A) (hA : AI A c e) {f t : Int} (f0 : 0 ≤ f) (f1 : f < A 0 6) (t0 : 0 ≤ t) (t1 : t ≤ 999999) : ∀ m k : Nat, (m : Int) + k = 8 * A 6 f → Ex l 256 0 0 16 [some (.ref 181), some (.int (iI f)), some (.int (iI t)), some (.int (iI (sumF (fun b => if tkA A f t b = bitZ (SfA A f) b then 0 else 1) k))), some (.int (iI k))] [] (mm q I v fr) (fun o => o = (.inl (some (.int (iI (sumF (fun b => if tkA A f t b = bitZ (SfA A f) b then 0 else 1) (8 * A 6 f).toNat)))), mm q I v fr)) := by
  have hr := hA.rg
  have hf := hA.frm f f0 f1
  intro m
  induction m with
  | zero =>
    intro k hk
    refine x_iload (pc := 16) rfl d256_16 ?_
    refine x_aload_n (pc := 18) rfl d256_18 ?_
    refine x_iload_n (pc := 19) rfl d256_19 ?_
    refine x_cVs (pc := 20) c256_137 (rt_bitsOf hl hq (A := A) hR (f := f) (by omega) (by omega) (by omega)) (xo181 (by omega)) rfl rfl (Nat.le_of_ble_eq_true rfl) (by decide +kernel) (by decide +kernel) rfl d256_20 ?_
    refine x_icmp_ge (pc := 23) (tgt := 61) ⟨by omega, by omega⟩ ⟨by omega, by omega⟩ d256_23 (by decide) (fun g23 => ?_) (fun g23 => ?_)
    · refine x_iload_n (pc := 61) rfl d256_61 ?_
      refine x_iret (pc := 62) rfl (fun _ => rfl) d256_62 ?_
      rw [show (8 * A 6 f).toNat = k from by omega]
    · exfalso; omega
  | succ m ih =>
    intro k hk
    have hv := sumF_b (g := fun b => if tkA A f t b = bitZ (SfA A f) b then 0 else 1) (z := 1) (by decide) k (fun i _ _ => by split <;> decide)
    have ht := tkA_r A f t k
    have hb := bitZ_r (SfA A f) k
    have es : ∀ z : Int, z = (if tkA A f t k = bitZ (SfA A f) k then 0 else 1) → sumF (fun b => if tkA A f t b = bitZ (SfA A f) b then 0 else 1) k + z = sumF (fun b => if tkA A f t b = bitZ (SfA A f) b then 0 else 1) (k + 1) := fun z hz => by rw [hz]; rfl
    refine x_iload (pc := 16) rfl d256_16 ?_
    refine x_aload_n (pc := 18) rfl d256_18 ?_
    refine x_iload_n (pc := 19) rfl d256_19 ?_
    refine x_cVs (pc := 20) c256_137 (rt_bitsOf hl hq (A := A) hR (f := f) (by omega) (by omega) (by omega)) (xo181 (by omega)) rfl rfl (Nat.le_of_ble_eq_true rfl) (by decide +kernel) (by decide +kernel) rfl d256_20 ?_
    refine x_icmp_ge (pc := 23) (tgt := 61) ⟨by omega, by omega⟩ ⟨by omega, by omega⟩ d256_23 (by decide) (fun g23 => ?_) (fun g23 => ?_)
    · refine x_iload_n (pc := 61) rfl d256_61 ?_
      refine x_iret (pc := 62) rfl (fun _ => rfl) d256_62 ?_
      exfalso; omega
    · refine x_iload_n (pc := 26) rfl d256_26 ?_
      refine x_aload_n (pc := 27) rfl d256_27 ?_
      refine x_iload_n (pc := 28) rfl d256_28 ?_
      refine x_iload (pc := 29) rfl d256_29 ?_
      refine x_iload_n (pc := 31) rfl d256_31 ?_
      refine x_cVs (pc := 32) c256_144 (rt_recv hl hq (A := A) hR hA (f := f) (b := k) (t := t) (by omega) (by omega) (by omega) (by omega) (by omega) (by omega)) (xo181 (by omega)) rfl rfl (Nat.le_of_ble_eq_true rfl) (by decide +kernel) (by decide +kernel) rfl d256_32 ?_
      refine x_aload_n (pc := 35) rfl d256_35 ?_
      refine x_iload_n (pc := 36) rfl d256_36 ?_
      refine x_iload (pc := 37) rfl d256_37 ?_
      refine x_cVs (pc := 39) c256_124 (rt_bit hl hq (A := A) hR hA (f := f) (b := k) (by omega) (by omega) (by omega) (by omega)) (xo181 (by omega)) rfl rfl (Nat.le_of_ble_eq_true rfl) (by decide +kernel) (by decide +kernel) rfl d256_39 ?_
      refine x_icmp_eq (pc := 42) (tgt := 49) ⟨by omega, by omega⟩ ⟨by omega, by omega⟩ d256_42 (by decide) (fun g42 => ?_) (fun g42 => ?_)
      · refine x_iconst (pc := 49) d256_49 ?_
        refine x_cSs (pc := 50) c256_130 (rt_truth hl (b := false)) rfl rfl (Nat.le_of_ble_eq_true rfl) (by decide +kernel) (by decide +kernel) (by decide +kernel) rfl d256_50 ?_
        refine x_iadd (pc := 53) d256_53 ?_
        refine x_istore_n (pc := 54) (by decide +kernel) rfl d256_54 ?_
        dsimp only [List.set]
        refine x_iinc (pc := 55) rfl (by decide +kernel) rfl d256_55 ?_
        dsimp only [List.set]
        refine x_goto (pc := 58) (tgt := 16) d256_58 (by decide) ?_
        rw [es (b01 false) (by rw [if_pos g42]; rfl)]
        exact ih (k + 1) (by omega)
      · refine x_iconst (pc := 45) d256_45 ?_
        refine x_goto (pc := 46) (tgt := 50) d256_46 (by decide) ?_
        refine x_cSs (pc := 50) c256_130 (rt_truth hl (b := true)) rfl rfl (Nat.le_of_ble_eq_true rfl) (by decide +kernel) (by decide +kernel) (by decide +kernel) rfl d256_50 ?_
        refine x_iadd (pc := 53) d256_53 ?_
        refine x_istore_n (pc := 54) (by decide +kernel) rfl d256_54 ?_
        dsimp only [List.set]
        refine x_iinc (pc := 55) rfl (by decide +kernel) rfl d256_55 ?_
        dsimp only [List.set]
        refine x_goto (pc := 58) (tgt := 16) d256_58 (by decide) ?_
        rw [es (b01 true) (by rw [if_neg g42]; rfl)]
        exact ih (k + 1) (by omega)
theorem rm254 (hl : l.1.stackTraces = false) (hq : 192 ≤ q) (h : RREL I S) (hS : GOK S) {f : Int} (hf : InR f) {t : Int} (ht : InR t) : CT l 254 [.ref 181, .int (iI f), .int (iI t)] (mm q I v fr) 0 0 (RQ q v fr I (oAsk2 S (isF S f) (isT t) (invN (chA (gA S) t (gA S 0 0)) (gA S 6 f * 8).toNat))) := by
  have hA : AINV (gA S) cB := hS.1
  have hr := hA.rg
  have hcB : cB = 2450880 := rfl
  obtain ⟨hf0, hf1⟩ := id hf
  obtain ⟨ht0, ht1⟩ := id ht
  refine mkct2 hl (by decide) (Nat.le_of_ble_eq_true rfl) (L := [some (.ref 181), some (.int (iI f)), some (.int (iI t)), none, none]) rfl ?_
  refine x_aload_n (pc := 0) rfl d254_0 ?_
  refine x_iload_n (pc := 1) rfl d254_1 ?_
  refine x_iload_n (pc := 2) rfl d254_2 ?_
  refine x_cVs (pc := 3) c254_364 (rt_pf hl hq (A := (gA S)) h.1 hA (f := f) (t := t) ⟨by omega, by omega⟩ ⟨by omega, by omega⟩) (xo181 (by omega)) rfl rfl (Nat.le_of_ble_eq_true rfl) (by decide +kernel) (by decide +kernel) rfl d254_3 ?_
  obtain ⟨K, hK⟩ : ∃ Z : Nat → Int → Int, Z = (up2 I 181 6 (th2 (decide (0 ≤ f ∧ f < (gA S) 0 6)) (decide (0 ≤ t ∧ t ≤ 999999)))) := ⟨_, rfl⟩
  refine x_mem (J := K) (pc := 6) hK ?_
  have tK := TH.of hK
  have hRK := tK.rv h.1
  refine x_ifB_ne (pc := 6) (tgt := 11) d254_6 (by decide) (fun g6 => ?_) (fun g6 => ?_)
  · have b0 := of_decide_eq_true (Bool.and_eq_true_iff.mp g6).1
    have b1 := of_decide_eq_true (Bool.and_eq_true_iff.mp g6).2
    have hf := hA.frm f b0.1 b0.2
    refine x_iconst (pc := 11) d254_11 ?_
    refine x_istore_n (pc := 12) (by decide +kernel) rfl d254_12 ?_
    dsimp only [List.set]
    refine x_iconst (pc := 13) d254_13 ?_
    refine x_istore (pc := 14) (by decide +kernel) rfl d254_14 ?_
    dsimp only [List.set]
    exact ex_mono (lp_rinv (v := v) (fr := fr) hl hq hRK hA b0.1 b0.2 b1.1 b1.2 (8 * gA S 6 f).toNat 0 (by omega)) fun o ho => by rw [ho]; exact rq2_t h tK g6 rfl rfl (by rw [Int.mul_comm 8])
  · refine x_iconst (pc := 9) d254_9 ?_
    refine x_iret (pc := 10) rfl (fun _ => rfl) d254_10 ?_
    exact rq2_f h tK g6 rfl fun _ => rfl
theorem rm255 (hl : l.1.stackTraces = false) (hq : 192 ≤ q) (h : RREL I S) (hS : GOK S) {f : Int} (hf : InR f) {t : Int} (ht : InR t) : CT l 255 [.ref 181, .int (iI f), .int (iI t)] (mm q I v fr) 0 0 (RQ q v fr I (oAsk2 S (isF S f) (isT t) (bstN (chA (gA S) t (gA S 0 0)) (gA S 6 f * 8).toNat))) := by
  have hA : AINV (gA S) cB := hS.1
  have hr := hA.rg
  have hcB : cB = 2450880 := rfl
  obtain ⟨hf0, hf1⟩ := id hf
  obtain ⟨ht0, ht1⟩ := id ht
  refine mkct2 hl (by decide) (Nat.le_of_ble_eq_true rfl) (L := [some (.ref 181), some (.int (iI f)), some (.int (iI t)), none, none, none]) rfl ?_
  refine x_aload_n (pc := 0) rfl d255_0 ?_
  refine x_iload_n (pc := 1) rfl d255_1 ?_
  refine x_iload_n (pc := 2) rfl d255_2 ?_
  refine x_cVs (pc := 3) c255_364 (rt_pf hl hq (A := (gA S)) h.1 hA (f := f) (t := t) ⟨by omega, by omega⟩ ⟨by omega, by omega⟩) (xo181 (by omega)) rfl rfl (Nat.le_of_ble_eq_true rfl) (by decide +kernel) (by decide +kernel) rfl d255_3 ?_
  obtain ⟨K, hK⟩ : ∃ Z : Nat → Int → Int, Z = (up2 I 181 6 (th2 (decide (0 ≤ f ∧ f < (gA S) 0 6)) (decide (0 ≤ t ∧ t ≤ 999999)))) := ⟨_, rfl⟩
  refine x_mem (J := K) (pc := 6) hK ?_
  have tK := TH.of hK
  have hRK := tK.rv h.1
  refine x_ifB_ne (pc := 6) (tgt := 11) d255_6 (by decide) (fun g6 => ?_) (fun g6 => ?_)
  · have b0 := of_decide_eq_true (Bool.and_eq_true_iff.mp g6).1
    have b1 := of_decide_eq_true (Bool.and_eq_true_iff.mp g6).2
    have hf := hA.frm f b0.1 b0.2
    refine x_iconst (pc := 11) d255_11 ?_
    refine x_istore_n (pc := 12) (by decide +kernel) rfl d255_12 ?_
    dsimp only [List.set]
    refine x_iconst (pc := 13) d255_13 ?_
    refine x_istore (pc := 14) (by decide +kernel) rfl d255_14 ?_
    dsimp only [List.set]
    refine x_iconst (pc := 16) d255_16 ?_
    refine x_istore (pc := 17) (by decide +kernel) rfl d255_17 ?_
    dsimp only [List.set]
    exact ex_mono (lp_rbst (v := v) (fr := fr) hl hq hRK hA b0.1 b0.2 b1.1 b1.2 (8 * gA S 6 f).toNat 0 (by omega)) fun o ho => by rw [ho]; exact rq2_t h tK g6 rfl rfl (by rw [Int.mul_comm 8])
  · refine x_iconst (pc := 9) d255_9 ?_
    refine x_iret (pc := 10) rfl (fun _ => rfl) d255_10 ?_
    exact rq2_f h tK g6 rfl fun _ => rfl
theorem rm256 (hl : l.1.stackTraces = false) (hq : 192 ≤ q) (h : RREL I S) (hS : GOK S) {f : Int} (hf : InR f) {t : Int} (ht : InR t) : CT l 256 [.ref 181, .int (iI f), .int (iI t)] (mm q I v fr) 0 0 (RQ q v fr I (oAsk2 S (isF S f) (isT t) (wrgA (gA S) f t))) := by
  have hA : AINV (gA S) cB := hS.1
  have hr := hA.rg
  have hcB : cB = 2450880 := rfl
  obtain ⟨hf0, hf1⟩ := id hf
  obtain ⟨ht0, ht1⟩ := id ht
  refine mkct2 hl (by decide) (Nat.le_of_ble_eq_true rfl) (L := [some (.ref 181), some (.int (iI f)), some (.int (iI t)), none, none]) rfl ?_
  refine x_aload_n (pc := 0) rfl d256_0 ?_
  refine x_iload_n (pc := 1) rfl d256_1 ?_
  refine x_iload_n (pc := 2) rfl d256_2 ?_
  refine x_cVs (pc := 3) c256_364 (rt_pf hl hq (A := (gA S)) h.1 hA (f := f) (t := t) ⟨by omega, by omega⟩ ⟨by omega, by omega⟩) (xo181 (by omega)) rfl rfl (Nat.le_of_ble_eq_true rfl) (by decide +kernel) (by decide +kernel) rfl d256_3 ?_
  obtain ⟨K, hK⟩ : ∃ Z : Nat → Int → Int, Z = (up2 I 181 6 (th2 (decide (0 ≤ f ∧ f < (gA S) 0 6)) (decide (0 ≤ t ∧ t ≤ 999999)))) := ⟨_, rfl⟩
  refine x_mem (J := K) (pc := 6) hK ?_
  have tK := TH.of hK
  have hRK := tK.rv h.1
  refine x_ifB_ne (pc := 6) (tgt := 11) d256_6 (by decide) (fun g6 => ?_) (fun g6 => ?_)
  · have b0 := of_decide_eq_true (Bool.and_eq_true_iff.mp g6).1
    have b1 := of_decide_eq_true (Bool.and_eq_true_iff.mp g6).2
    have hf := hA.frm f b0.1 b0.2
    refine x_iconst (pc := 11) d256_11 ?_
    refine x_istore_n (pc := 12) (by decide +kernel) rfl d256_12 ?_
    dsimp only [List.set]
    refine x_iconst (pc := 13) d256_13 ?_
    refine x_istore (pc := 14) (by decide +kernel) rfl d256_14 ?_
    dsimp only [List.set]
    exact ex_mono (lp_rwrg (v := v) (fr := fr) hl hq hRK hA b0.1 b0.2 b1.1 b1.2 (8 * gA S 6 f).toNat 0 (by omega)) fun o ho => by rw [ho]; exact rq2_t h tK g6 rfl rfl (by unfold wrgA takB tkA; rw [Int.mul_comm 8])
  · refine x_iconst (pc := 9) d256_9 ?_
    refine x_iret (pc := 10) rfl (fun _ => rfl) d256_10 ?_
    exact rq2_f h tK g6 rfl fun _ => rfl
end Rsea
