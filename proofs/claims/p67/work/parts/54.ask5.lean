/-! ===== .. frames on the cable ===== -/
section Ask5
variable {l : LX} {q : Nat} {I : Nat → Int → Int} {v : Int} {S : GS}
theorem lp_safe (hl : l.1.stackTraces = false) (hq : 181 ≤ q) (h : CREL I S) (hS : GOK S) {E : Int → Nat} : ∀ (m i : Nat), m + i = 100 →
    Ex l 104 1 6 2 [some (.ref 0), some (.int (iI i))] [] (mm q I v false) (QC q v E I (0, safN (gA S 0 1) m i, S)) := by
  have hi := h.inv hS
  have hs := hi.sc
  have e : I 136 1 = gA S 0 1 := by rw [← h.1.1, vr1]
  have hd := hs.2.1
  intro m
  induction m with
  | zero =>
    intro i hm
    refine x_iload_n (pc := 2) rfl d104_2 ?_
    refine x_bipush (pc := 3) (by decide) d104_3 ?_
    refine x_icmp_ge (pc := 5) (tgt := 31) ⟨by omega, by omega⟩ ⟨by omega, by omega⟩ d104_5 (by decide) (fun g5 => ?_) (fun g5 => ?_)
    · refine x_bipush (pc := 31) (by decide) d104_31 ?_
      refine x_iret (pc := 33) rfl (fun z => Bool.noConfusion z) d104_33 ?_
      rw [show (i : Int) = 100 from by omega]; exact qc_ok h (fun _ _ => rfl)
    · exfalso; omega
  | succ m ih =>
    intro i hm
    have ht := tkI_r (b := i) (dr := gA S 0 1) (by omega) (by omega) (by omega) (by omega)
    refine x_iload_n (pc := 2) rfl d104_2 ?_
    refine x_bipush (pc := 3) (by decide) d104_3 ?_
    refine x_icmp_ge (pc := 5) (tgt := 31) ⟨by omega, by omega⟩ ⟨by omega, by omega⟩ d104_5 (by decide) (fun g5 => ?_) (fun g5 => ?_)
    · refine x_bipush (pc := 31) (by decide) d104_31 ?_
      refine x_iret (pc := 33) rfl (fun z => Bool.noConfusion z) d104_33 ?_
      exfalso; omega
    · refine x_iload_n (pc := 8) rfl d104_8 ?_
      refine x_aload_n (pc := 9) rfl d104_9 ?_
      refine m_getR (pc := 10) f104_54 (by decide +kernel) (ko0 (by omega)) rr0_6 d104_10 ?_
      refine m_getI (pc := 13) (z := 1) f104_149 (by decide +kernel) rfl (ko136 (by omega)) d104_13 ?_
      refine x_val (pc := 16) (w := (gA S 0 1)) (e) ?_
      refine x_cSs (pc := 16) c104_217 (dt_tkI hl (b := (i : Int)) (dr := gA S 0 1) (by omega) (by omega) (by omega) (by omega)) rfl rfl (Nat.le_of_ble_eq_true rfl) (by decide +kernel) (by decide +kernel) (by decide +kernel) rfl d104_16 ?_
      refine x_iload_n (pc := 19) rfl d104_19 ?_
      refine x_icmp_eq (pc := 20) (tgt := 25) ⟨by omega, by omega⟩ ⟨by omega, by omega⟩ d104_20 (by decide) (fun g20 => ?_) (fun g20 => ?_)
      · refine x_iinc (pc := 25) rfl (by decide +kernel) rfl d104_25 ?_
        dsimp only [List.set]
        refine x_goto (pc := 28) (tgt := 2) d104_28 (by decide) ?_
        rw [show safN (gA S 0 1) (m + 1) i = safN (gA S 0 1) m ((i + 1 : Nat) : Int) from if_pos g20]
        exact ih (i + 1) (by omega)
      · refine x_iload_n (pc := 23) rfl d104_23 ?_
        refine x_iret (pc := 24) rfl (fun z => Bool.noConfusion z) d104_24 ?_
        rw [show safN (gA S 0 1) (m + 1) i = i from if_neg g20]
        exact qc_ok h (fun _ _ => rfl)
theorem cm104 (hl : l.1.stackTraces = false) (hq : 181 ≤ q) (h : CREL I S) (hS : GOK S) {E : Int → Nat} : CT l 104 [.ref 0] (mm q I v false) 1 6 (QC q v E I (0, safN (gA S 0 1) 100 0, S)) := by
  refine mkct2 hl (by decide) (Nat.le_of_ble_eq_true rfl) (L := [some (.ref 0), none]) rfl ?_
  refine x_iconst (pc := 0) d104_0 ?_
  refine x_istore_n (pc := 1) (by decide +kernel) rfl d104_1 ?_
  dsimp only [List.set]
  exact lp_safe hl hq h hS 100 0 rfl
theorem lp_early (hl : l.1.stackTraces = false) (hq : 181 ≤ q) (h : CREL I S) (hS : GOK S) {f : Int} (c0 : 0 ≤ f) (c9 : f < I 143 0) {E : Int → Nat} : ∀ (m i : Nat) (J : Nat → Int → Int), m + i = 601 → offC I J →
    Ex l 111 1 6 7 [some (.ref 0), some (.int (iI f)), some (.int (iI i))] [] (mm q J v false) (QC q v E I (0, sucN (fun n => resA (gA S) f (gA S 0 7 + n) (gA S 0 0)) m i, S)) := by
  have hi := h.inv hS
  have hs := hi.sc
  have hcB : cB = 2450880 := rfl
  have hb1 := hs.2.1
  have e0 : I 136 0 = gA S 0 0 := by rw [← h.1.1, vr0]
  have e7 : I 136 4 = gA S 0 7 := by rw [← h.1.1, vr7]
  intro m
  induction m with
  | zero =>
    intro i J hm hJ
    refine x_iload_n (pc := 7) rfl d111_7 ?_
    refine x_sipush (pc := 8) (by decide) d111_8 ?_
    refine x_icmp_gt (pc := 11) (tgt := 53) ⟨by omega, by omega⟩ ⟨by omega, by omega⟩ d111_11 (by decide) (fun g11 => ?_) (fun g11 => ?_)
    · refine x_iconst (pc := 53) d111_53 ?_
      refine x_iret (pc := 54) rfl (fun z => Bool.noConfusion z) d111_54 ?_
      exact qc_ok (h.offC hJ) (fun a ha => hJ a (by omega) (by omega) (by omega))
    · exfalso; omega
  | succ m ih =>
    intro i J hm hJ
    obtain ⟨q1, q2, q3, q4, q5⟩ := ask_cab h hS c0 c9 (gA S 0 7 + i) (gA S 0 0)
    have er := res_r (Sf I 136 f) (I 144 f).toNat (chF I 136 (gA S 0 7 + i) (gA S 0 0)) (I 136 1)
    have er2 : 0 ≤ resF I 136 f (gA S 0 7 + i) (gA S 0 0) (I 136 1) ∧ resF I 136 f (gA S 0 7 + i) (gA S 0 0) (I 136 1) ≤ 2 := er
    refine x_iload_n (pc := 7) rfl d111_7 ?_
    refine x_sipush (pc := 8) (by decide) d111_8 ?_
    refine x_icmp_gt (pc := 11) (tgt := 53) ⟨by omega, by omega⟩ ⟨by omega, by omega⟩ d111_11 (by decide) (fun g11 => ?_) (fun g11 => ?_)
    · refine x_iconst (pc := 53) d111_53 ?_
      refine x_iret (pc := 54) rfl (fun z => Bool.noConfusion z) d111_54 ?_
      exfalso; omega
    · refine x_aload_n (pc := 14) rfl d111_14 ?_
      refine m_getR (pc := 15) f111_40 (by decide +kernel) (ko0 (by omega)) rr0_4 d111_15 ?_
      refine x_aload_n (pc := 18) rfl d111_18 ?_
      refine m_getR (pc := 19) f111_54 (by decide +kernel) (ko0 (by omega)) rr0_6 d111_19 ?_
      refine x_iload_n (pc := 22) rfl d111_22 ?_
      refine x_aload_n (pc := 23) rfl d111_23 ?_
      refine m_getR (pc := 24) f111_54 (by decide +kernel) (ko0 (by omega)) rr0_6 d111_24 ?_
      refine m_getI (pc := 27) (z := 4) f111_143 (by decide +kernel) rfl (ko136 (by omega)) d111_27 ?_
      refine x_val (pc := 30) (w := (gA S 0 7)) (by rw [hJ 136 (by decide) (by decide) (by decide), e7]) ?_
      refine x_iload_n (pc := 30) rfl d111_30 ?_
      refine x_iadd (pc := 31) d111_31 ?_
      refine x_aload_n (pc := 32) rfl d111_32 ?_
      refine m_getR (pc := 33) f111_54 (by decide +kernel) (ko0 (by omega)) rr0_6 d111_33 ?_
      refine m_getI (pc := 36) (z := 0) f111_146 (by decide +kernel) rfl (ko136 (by omega)) d111_36 ?_
      refine x_val (pc := 39) (w := (gA S 0 0)) (by rw [hJ 136 (by decide) (by decide) (by decide), e0]) ?_
      refine x_cVes (pc := 39) c111_236 (ct_send hl hq (la136 (by omega)) hi.dogs hi.frames hJ (f := f) (t := ((gA S 0 7) + i)) (bt := (gA S 0 0)) c0 c9 (by omega) (by omega) (by omega) (by omega) hb1.1 hb1.2) (ko11 (by omega)) rfl rfl (Nat.le_of_ble_eq_true rfl) (by decide +kernel) (by decide +kernel) d111_39 (fun J1 hJ1 => ?_)
      refine x_if_ne (pc := 42) (tgt := 47) ⟨by omega, by omega⟩ d111_42 (by decide) (fun g42 => ?_) (fun g42 => ?_)
      · refine x_iinc (pc := 47) rfl (by decide +kernel) rfl d111_47 ?_
        dsimp only [List.set]
        refine x_goto (pc := 50) (tgt := 7) d111_50 (by decide) ?_
        rw [show sucN (fun n => resA (gA S) f (gA S 0 7 + n) (gA S 0 0)) (m + 1) i = sucN (fun n => resA (gA S) f (gA S 0 7 + n) (gA S 0 0)) m ((i + 1 : Nat) : Int) from if_neg (by show ¬ resA (gA S) f (gA S 0 7 + i) (gA S 0 0) = 0; rw [q5]; exact g42)]
        exact ih (i + 1) J1 (by omega) hJ1.1
      · refine x_iload_n (pc := 45) rfl d111_45 ?_
        refine x_iret (pc := 46) rfl (fun z => Bool.noConfusion z) d111_46 ?_
        rw [show sucN (fun n => resA (gA S) f (gA S 0 7 + n) (gA S 0 0)) (m + 1) i = i from if_pos (by show resA (gA S) f (gA S 0 7 + i) (gA S 0 0) = 0; rw [q5]; exact g42)]
        exact qc_ok (h.offC hJ1.1) (fun a ha => hJ1.1 a (by omega) (by omega) (by omega))
theorem cm111 (hl : l.1.stackTraces = false) (hq : 181 ≤ q) (h : CREL I S) (hS : GOK S) {f : Int} (hf : InR f) : CT l 111 [.ref 0, .int (iI f)] (mm q I v false) 1 6 (QC q v (fun _ => 2) I (oAsk S (isF S f) (sucN (fun n => resA (gA S) f (gA S 0 7 + n) (gA S 0 0)) 601 0))) := by
  have hi := h.inv hS
  have hs := hi.sc
  have hs7 : 0 ≤ I 143 0 ∧ I 143 0 ≤ 4 * I 136 7 := hs.2.2.2.2.2.2.1
  have hs5 := hs.2.2.2.2.2.1
  unfold oAsk
  by_cases c : 0 ≤ f ∧ f < gA S 0 6
  · rw [show isF S f = true from decide_eq_true c, if_pos rfl]
    obtain ⟨c0, c1⟩ := id c
    have c9 : f < I 143 0 := by rw [← h.1.1, vr6] at c1; exact c1
    refine mkct2 hl (by decide) (Nat.le_of_ble_eq_true rfl) (L := [some (.ref 0), some (.int (iI f)), none]) rfl ?_
    refine x_aload_n (pc := 0) rfl d111_0 ?_
    refine x_iload_n (pc := 1) rfl d111_1 ?_
    refine x_cVv (pc := 2) c111_187 (dt_rf hl hq h hS c.1 c.2) (ko0 (by omega)) rfl rfl (Nat.le_of_ble_eq_true rfl) (by decide +kernel) (by decide +kernel) rfl d111_2 ?_
    refine x_iconst (pc := 5) d111_5 ?_
    refine x_istore_n (pc := 6) (by decide +kernel) rfl d111_6 ?_
    dsimp only [List.set]
    exact lp_early hl hq h hS c0 c9 601 0 I rfl offC.rf
  · rw [show isF S f = false from decide_eq_false c, if_neg Bool.false_ne_true]
    refine mkct2 hl (by decide) (Nat.le_of_ble_eq_true rfl) (L := [some (.ref 0), some (.int (iI f)), none]) rfl ?_
    refine x_aload_n (pc := 0) rfl d111_0 ?_
    refine x_iload_n (pc := 1) rfl d111_1 ?_
    refine x_cVt (pc := 2) c111_187 (dt_rfX hl hq h hS hf c) (ko0 (by omega)) rfl rfl (Nat.le_of_ble_eq_true rfl) (by decide +kernel) (by decide +kernel) rfl d111_2 ?_
    exact qc_no (by decide) rfl h (fun _ _ => rfl)
theorem lp_wrong (hl : l.1.stackTraces = false) (hq : 181 ≤ q) (h : CREL I S) (hS : GOK S) {f t : Int} (c0 : 0 ≤ f) (c9 : f < I 143 0) (d0 : 0 ≤ t) {E : Int → Nat} {J : Nat → Int → Int} (hJ : offC I J) (hJ2 : J 11 2 = I 144 f * 8) (hJc : ∀ b : Int, 0 ≤ b → b < I 144 f * 8 → J 12 b = cabF I 136 f t (I 136 0) b) : ∀ (m i : Nat), (m : Int) + i = I 144 f * 8 →
    Ex l 108 1 6 34 [some (.ref 0), some (.int (iI f)), none, some (.int (iI (sumF (fun b => if takB (gA S) f t b = bitZ (SfA (gA S) f) b then 0 else 1) i))), some (.int (iI i))] [] (mm q J v false) (QC q v E I (0, wrgA (gA S) f t, S)) := by
  have hi := h.inv hS
  have hs := hi.sc
  have hb1 := hs.2.1
  obtain ⟨q1, q2, q3, q4, q5⟩ := ask_cab h hS c0 c9 t (I 136 0)
  have e0 : I 136 0 = gA S 0 0 := by rw [← h.1.1, vr0]
  have e1 : I 136 1 = gA S 0 1 := by rw [← h.1.1, vr1]
  intro m
  induction m with
  | zero =>
    intro i hm
    refine x_iload (pc := 34) rfl d108_34 ?_
    refine x_aload_n (pc := 36) rfl d108_36 ?_
    refine m_getR (pc := 37) f108_40 (by decide +kernel) (ko0 (by omega)) rr0_4 d108_37 ?_
    refine m_getI (pc := 40) (z := 2) f108_224 (by decide +kernel) rfl (ko11 (by omega)) d108_40 ?_
    refine x_val (pc := 43) (w := (I 144 f * 8)) (hJ2) ?_
    refine x_icmp_ge (pc := 43) (tgt := 87) ⟨by omega, by omega⟩ ⟨by omega, by omega⟩ d108_43 (by decide) (fun g43 => ?_) (fun g43 => ?_)
    · refine x_iload_n (pc := 87) rfl d108_87 ?_
      refine x_iret (pc := 88) rfl (fun z => Bool.noConfusion z) d108_88 ?_
      rw [show wrgA (gA S) f t = sumF (fun b => if takB (gA S) f t b = bitZ (SfA (gA S) f) b then 0 else 1) i from by unfold wrgA; rw [q3, show (I 144 f * 8).toNat = i from by omega]]
      exact qc_ok (h.offC hJ) (fun a ha => hJ a (by omega) (by omega) (by omega))
    · exfalso; omega
  | succ m ih =>
    intro i hm
    have htb : DT l 57 [.ref 11, .int (iI (i : Int)), .int (iI (I 136 1))] (mm q J v false) 0 0 (.inl (some (.int (iI (takB (gA S) f t i)))), mm q J v false) := by
      have g := dt_takenBit (v := v) (fr := false) hl hq (n := I 144 f * 8) (cb := cabF I 136 f t (I 136 0)) ⟨hJ2, hJc⟩ (by omega) (b := (i : Int)) (dr := I 136 1) (by omega) (by omega) hb1.1 hb1.2 (by omega)
      rw [show takZ (cabF I 136 f t (I 136 0)) (I 144 f * 8) (I 136 1) i = takB (gA S) f t i from by
        unfold takB
        rw [q3, ← e0, ← e1]
        exact takZ_congr (fun x x0 x1 => q1 x x0 x1) hb1.1 hb1.2 (by omega) (by omega)] at g
      exact g
    have hbo : DT l 21 [.ref 143, .int (iI f), .int (iI (i : Int))] (mm q J v false) 0 0 (.inl (some (.int (iI (bitZ (SfA (gA S) f) i)))), mm q J v false) := by
      have j144 : J 144 = I 144 := hJ 144 (by decide) (by decide) (by decide)
      have j143 : J 143 = I 143 := hJ 143 (by decide) (by decide) (by decide)
      have j148 : J 148 = I 148 := hJ 148 (by decide) (by decide) (by decide)
      have g := dt_bitOf (v := v) (fr := false) hl (la136 (q := q) (by omega)) (hi.frames.off hJ (by decide)) (f := f) (b := (i : Int)) c0 (by rw [show 136 + 7 = 143 from rfl, j143]; exact c9) (by omega) (by rw [show 136 + 8 = 144 from rfl, j144]; omega)
      rw [show bitZ (fun k => J (136 + 12) (f * 6 + k)) i = bitZ (SfA (gA S) f) i from bitZ_congr (n := I 144 f) (fun k k0 k1 => by
        show J 148 (f * 6 + k) = _
        unfold SfA
        rw [j148, ← h.1.1]
        exact (vc_ent10 hi c0 c9 k0 k1).symm) (by omega) (by omega)] at g
      exact g
    have hr1 := takZ_r (cabZ_r (SfA (gA S) f) (chA (gA S) t (gA S 0 0))) (gA S 6 f * 8) (gA S 0 1) i
    have hr1 : takB (gA S) f t i = 0 ∨ takB (gA S) f t i = 1 := hr1
    have hr2 := bitZ_r (SfA (gA S) f) i
    have es : ∀ z : Int, z = (if takB (gA S) f t i = bitZ (SfA (gA S) f) i then 0 else 1) → sumF (fun b => if takB (gA S) f t b = bitZ (SfA (gA S) f) b then 0 else 1) i + z = sumF (fun b => if takB (gA S) f t b = bitZ (SfA (gA S) f) b then 0 else 1) (i + 1) := fun z hz => by rw [hz]; rfl
    refine x_iload (pc := 34) rfl d108_34 ?_
    refine x_aload_n (pc := 36) rfl d108_36 ?_
    refine m_getR (pc := 37) f108_40 (by decide +kernel) (ko0 (by omega)) rr0_4 d108_37 ?_
    refine m_getI (pc := 40) (z := 2) f108_224 (by decide +kernel) rfl (ko11 (by omega)) d108_40 ?_
    refine x_val (pc := 43) (w := (I 144 f * 8)) (hJ2) ?_
    refine x_icmp_ge (pc := 43) (tgt := 87) ⟨by omega, by omega⟩ ⟨by omega, by omega⟩ d108_43 (by decide) (fun g43 => ?_) (fun g43 => ?_)
    · refine x_iload_n (pc := 87) rfl d108_87 ?_
      refine x_iret (pc := 88) rfl (fun z => Bool.noConfusion z) d108_88 ?_
      exfalso; omega
    · refine x_aload_n (pc := 46) rfl d108_46 ?_
      refine m_getR (pc := 47) f108_40 (by decide +kernel) (ko0 (by omega)) rr0_4 d108_47 ?_
      refine x_iload (pc := 50) rfl d108_50 ?_
      refine x_aload_n (pc := 52) rfl d108_52 ?_
      refine m_getR (pc := 53) f108_54 (by decide +kernel) (ko0 (by omega)) rr0_6 d108_53 ?_
      refine m_getI (pc := 56) (z := 1) f108_149 (by decide +kernel) rfl (ko136 (by omega)) d108_56 ?_
      refine x_val (pc := 59) (w := (I 136 1)) (by rw [hJ 136 (by decide) (by decide) (by decide)]) ?_
      refine x_cVs (pc := 59) c108_227 htb (ko11 (by omega)) rfl rfl (Nat.le_of_ble_eq_true rfl) (by decide +kernel) (by decide +kernel) rfl d108_59 ?_
      refine x_aload_n (pc := 62) rfl d108_62 ?_
      refine m_getR (pc := 63) f108_54 (by decide +kernel) (ko0 (by omega)) rr0_6 d108_63 ?_
      refine m_getR (pc := 66) f108_180 (by decide +kernel) (ko136 (by omega)) rr136_11 d108_66 ?_
      refine x_iload_n (pc := 69) rfl d108_69 ?_
      refine x_iload (pc := 70) rfl d108_70 ?_
      refine x_cVs (pc := 72) c108_196 hbo (ko143 (by omega)) rfl rfl (Nat.le_of_ble_eq_true rfl) (by decide +kernel) (by decide +kernel) rfl d108_72 ?_
      refine x_icmp_eq (pc := 75) (tgt := 81) ⟨by omega, by omega⟩ ⟨by omega, by omega⟩ d108_75 (by decide) (fun g75 => ?_) (fun g75 => ?_)
      · refine x_iinc (pc := 81) rfl (by decide +kernel) rfl d108_81 ?_
        dsimp only [List.set]
        refine x_goto (pc := 84) (tgt := 34) d108_84 (by decide) ?_
        rw [← Int.add_zero (sumF _ i), es 0 (by rw [if_pos g75])]
        exact ih (i + 1) (by omega)
      · refine x_iinc (pc := 78) rfl (by decide +kernel) rfl d108_78 ?_
        dsimp only [List.set]
        refine x_iinc (pc := 81) rfl (by decide +kernel) rfl d108_81 ?_
        dsimp only [List.set]
        refine x_goto (pc := 84) (tgt := 34) d108_84 (by decide) ?_
        rw [es 1 (by rw [if_neg g75])]
        exact ih (i + 1) (by omega)
theorem cm108 (hl : l.1.stackTraces = false) (hq : 181 ≤ q) (h : CREL I S) (hS : GOK S) {f t : Int} (hf : InR f) (ht : InR t) : CT l 108 [.ref 0, .int (iI f), .int (iI t)] (mm q I v false) 1 6 (QC q v (fun c => if c = 1 then 2 else 0) I (oAsk2 S (isF S f) (isT t) (wrgA (gA S) f t))) := by
  have hi := h.inv hS
  have hs := hi.sc
  have hs7 : 0 ≤ I 143 0 ∧ I 143 0 ≤ 4 * I 136 7 := hs.2.2.2.2.2.2.1
  have hs5 := hs.2.2.2.2.2.1
  unfold oAsk2
  by_cases c : 0 ≤ f ∧ f < gA S 0 6
  · rw [show isF S f = true from decide_eq_true c, if_pos rfl]
    obtain ⟨c0, c1⟩ := id c
    have c9 : f < I 143 0 := by rw [← h.1.1, vr6] at c1; exact c1
    by_cases d : 0 ≤ t ∧ t ≤ 999999
    · rw [show isT t = true from decide_eq_true d, if_pos rfl]
      obtain ⟨q1, q2, q3, q4, q5⟩ := ask_cab h hS c0 c9 t (I 136 0)
      have e0 : I 136 0 = gA S 0 0 := by rw [← h.1.1, vr0]
      have e1 : I 136 1 = gA S 0 1 := by rw [← h.1.1, vr1]
      have hb0 := hs.1
      have hb1 := hs.2.1
      refine mkct2 hl (by decide) (Nat.le_of_ble_eq_true rfl) (L := [some (.ref 0), some (.int (iI f)), some (.int (iI t)), none, none]) rfl ?_
      refine x_aload_n (pc := 0) rfl d108_0 ?_
      refine x_iload_n (pc := 1) rfl d108_1 ?_
      refine x_cVv (pc := 2) c108_187 (dt_rf hl hq h hS c.1 c.2) (ko0 (by omega)) rfl rfl (Nat.le_of_ble_eq_true rfl) (by decide +kernel) (by decide +kernel) rfl d108_2 ?_
      refine x_iload_n (pc := 5) rfl d108_5 ?_
      refine x_cSv (pc := 6) c108_152 (dt_rt hl d.1 d.2) rfl rfl (Nat.le_of_ble_eq_true rfl) (by decide +kernel) (by decide +kernel) (by decide +kernel) rfl d108_6 ?_
      refine x_aload_n (pc := 9) rfl d108_9 ?_
      refine m_getR (pc := 10) f108_40 (by decide +kernel) (ko0 (by omega)) rr0_4 d108_10 ?_
      refine x_aload_n (pc := 13) rfl d108_13 ?_
      refine m_getR (pc := 14) f108_54 (by decide +kernel) (ko0 (by omega)) rr0_6 d108_14 ?_
      refine x_iload_n (pc := 17) rfl d108_17 ?_
      refine x_iload_n (pc := 18) rfl d108_18 ?_
      refine x_aload_n (pc := 19) rfl d108_19 ?_
      refine m_getR (pc := 20) f108_54 (by decide +kernel) (ko0 (by omega)) rr0_6 d108_20 ?_
      refine m_getI (pc := 23) (z := 0) f108_146 (by decide +kernel) rfl (ko136 (by omega)) d108_23 ?_
      refine x_cVev (pc := 26) c108_220 (ct_put hl hq (la136 (by omega)) hi.dogs hi.frames offC.rf (f := f) (t := t) c0 c9 d.1 (by omega) hb0.1 hb0.2) (ko11 (by omega)) rfl rfl (Nat.le_of_ble_eq_true rfl) (by decide +kernel) (by decide +kernel) d108_26 (fun J1 hJ1 => ?_)
      refine x_iconst (pc := 29) d108_29 ?_
      refine x_istore_n (pc := 30) (by decide +kernel) rfl d108_30 ?_
      dsimp only [List.set]
      refine x_iconst (pc := 31) d108_31 ?_
      refine x_istore (pc := 32) (by decide +kernel) rfl d108_32 ?_
      dsimp only [List.set]
      refine x_mask [true, true, false, true, true] ?_
      dsimp only [mask]
      obtain ⟨j0, j1, j2, j3, j4⟩ := hJ1
      exact lp_wrong hl hq h hS c0 c9 d.1 j0 j1 (fun b b0 b1 => j4 b b0 (show b < (((I 144 f * 8).toNat : Nat) : Int) from by omega)) (I 144 f * 8).toNat 0 (by omega)
    · rw [show isT t = false from decide_eq_false d, if_neg Bool.false_ne_true]
      refine mkct2 hl (by decide) (Nat.le_of_ble_eq_true rfl) (L := [some (.ref 0), some (.int (iI f)), some (.int (iI t)), none, none]) rfl ?_
      refine x_aload_n (pc := 0) rfl d108_0 ?_
      refine x_iload_n (pc := 1) rfl d108_1 ?_
      refine x_cVv (pc := 2) c108_187 (dt_rf hl hq h hS c.1 c.2) (ko0 (by omega)) rfl rfl (Nat.le_of_ble_eq_true rfl) (by decide +kernel) (by decide +kernel) rfl d108_2 ?_
      refine x_iload_n (pc := 5) rfl d108_5 ?_
      refine x_cSt (pc := 6) c108_152 (dt_rtX hl ht d) rfl rfl (Nat.le_of_ble_eq_true rfl) (by decide +kernel) (by decide +kernel) (by decide +kernel) rfl d108_6 ?_
      exact qc_no (by decide) rfl h (fun _ _ => rfl)
  · rw [show isF S f = false from decide_eq_false c, if_neg Bool.false_ne_true]
    refine mkct2 hl (by decide) (Nat.le_of_ble_eq_true rfl) (L := [some (.ref 0), some (.int (iI f)), some (.int (iI t)), none, none]) rfl ?_
    refine x_aload_n (pc := 0) rfl d108_0 ?_
    refine x_iload_n (pc := 1) rfl d108_1 ?_
    refine x_cVt (pc := 2) c108_187 (dt_rfX hl hq h hS hf c) (ko0 (by omega)) rfl rfl (Nat.le_of_ble_eq_true rfl) (by decide +kernel) (by decide +kernel) rfl d108_2 ?_
    exact qc_no (by decide) rfl h (fun _ _ => rfl)
theorem cm110 (hl : l.1.stackTraces = false) (hq : 181 ≤ q) (h : CREL I S) (hS : GOK S) {f pat b : Int} (hf : InR f) (hpat : InR pat) (hb : InR b) : CT l 110 [.ref 0, .int (iI f), .int (iI pat), .int (iI b)] (mm q I v false) 1 6 (QC q v (fun c => if c = 1 then 2 else 0) I (oAsk2 S (isF S f) (decide ((1 ≤ pat ∧ pat ≤ 65535) ∧ 0 ≤ b ∧ b + bdig pat 16 ≤ gA S 6 f * 8)) (b01 (wpA (gA S) f pat b)))) := by
  have hi := h.inv hS
  have hs := hi.sc
  have hs7 : 0 ≤ I 143 0 ∧ I 143 0 ≤ 4 * I 136 7 := hs.2.2.2.2.2.2.1
  have hs5 := hs.2.2.2.2.2.1
  unfold oAsk2
  by_cases c : 0 ≤ f ∧ f < gA S 0 6
  · rw [show isF S f = true from decide_eq_true c, if_pos rfl]
    obtain ⟨c0, c1⟩ := id c
    have c9 : f < I 143 0 := by rw [← h.1.1, vr6] at c1; exact c1
    obtain ⟨q1, q2, q3, q4, q5⟩ := ask_cab h hS c0 c9 0 (I 136 0)
    obtain ⟨hp1, hp2⟩ := hpat
    obtain ⟨hb2, hb3⟩ := hb
    have hdg := bdig_r pat 16
    rw [q3]
    refine mkct2 hl (by decide) (Nat.le_of_ble_eq_true rfl) (L := [some (.ref 0), some (.int (iI f)), some (.int (iI pat)), some (.int (iI b)), none]) rfl ?_
    refine x_aload_n (pc := 0) rfl d110_0 ?_
    refine x_iload_n (pc := 1) rfl d110_1 ?_
    refine x_cVv (pc := 2) c110_187 (dt_rf hl hq h hS c.1 c.2) (ko0 (by omega)) rfl rfl (Nat.le_of_ble_eq_true rfl) (by decide +kernel) (by decide +kernel) rfl d110_2 ?_
    refine x_iload_n (pc := 5) rfl d110_5 ?_
    refine x_iconst (pc := 6) d110_6 ?_
    refine x_icmp_lt (pc := 7) (tgt := 16) ⟨by omega, by omega⟩ ⟨by omega, by omega⟩ d110_7 (by decide) (fun g7 => ?_) (fun g7 => ?_)
    · refine x_throw (pc := 16) x110_16 (Nat.le_of_ble_eq_true rfl) (by decide +kernel) rfl (by decide) (by decide) rfl ?_
      rw [decide_eq_false (by omega), if_neg Bool.false_ne_true]; exact qc_no (by decide) rfl h (fun _ _ => rfl)
    · refine x_iload_n (pc := 10) rfl d110_10 ?_
      refine x_ldc (pc := 11) (z := 65535) k110_240 (by decide) d110_11 ?_
      refine x_icmp_le (pc := 13) (tgt := 26) ⟨by omega, by omega⟩ ⟨by omega, by omega⟩ d110_13 (by decide) (fun g13 => ?_) (fun g13 => ?_)
      · refine x_iload_n (pc := 26) rfl d110_26 ?_
        refine x_cSs (pc := 27) c110_243 (dt_digits hl (z := pat) (by omega) (by omega)) rfl rfl (Nat.le_of_ble_eq_true rfl) (by decide +kernel) (by decide +kernel) (by decide +kernel) rfl d110_27 ?_
        refine x_istore (pc := 30) (by decide +kernel) rfl d110_30 ?_
        dsimp only [List.set]
        refine x_iload_n (pc := 32) rfl d110_32 ?_
        refine x_if_lt (pc := 33) (tgt := 58) ⟨by omega, by omega⟩ d110_33 (by decide) (fun g33 => ?_) (fun g33 => ?_)
        · refine x_throw (pc := 58) x110_58 (Nat.le_of_ble_eq_true rfl) (by decide +kernel) rfl (by decide) (by decide) rfl ?_
          rw [decide_eq_false (by omega), if_neg Bool.false_ne_true]; exact qc_no (by decide) rfl h (fun _ _ => rfl)
        · refine x_iload_n (pc := 36) rfl d110_36 ?_
          refine x_aload_n (pc := 37) rfl d110_37 ?_
          refine m_getR (pc := 38) f110_54 (by decide +kernel) (ko0 (by omega)) rr0_6 d110_38 ?_
          refine m_getR (pc := 41) f110_180 (by decide +kernel) (ko136 (by omega)) rr136_11 d110_41 ?_
          refine m_getR (pc := 44) f110_190 (by decide +kernel) (ko143 (by omega)) rr143_1 d110_44 ?_
          refine x_iload_n (pc := 47) rfl d110_47 ?_
          refine m_iald (pc := 48) (ka144 (by omega)) (by omega) (by omega) (by omega) d110_48 ?_
          refine x_bipush (pc := 49) (by decide) d110_49 ?_
          refine x_imul (pc := 51) d110_51 ?_
          refine x_iload (pc := 52) rfl d110_52 ?_
          refine x_isub (pc := 54) d110_54 ?_
          refine x_icmp_le (pc := 55) (tgt := 68) ⟨by omega, by omega⟩ ⟨by omega, by omega⟩ d110_55 (by decide) (fun g55 => ?_) (fun g55 => ?_)
          · refine x_aload_n (pc := 68) rfl d110_68 ?_
            refine m_getR (pc := 69) f110_40 (by decide +kernel) (ko0 (by omega)) rr0_4 d110_69 ?_
            refine x_aload_n (pc := 72) rfl d110_72 ?_
            refine m_getR (pc := 73) f110_54 (by decide +kernel) (ko0 (by omega)) rr0_6 d110_73 ?_
            refine m_getR (pc := 76) f110_180 (by decide +kernel) (ko136 (by omega)) rr136_11 d110_76 ?_
            refine x_iload_n (pc := 79) rfl d110_79 ?_
            refine x_iload_n (pc := 80) rfl d110_80 ?_
            refine x_iload (pc := 81) rfl d110_81 ?_
            refine x_iload_n (pc := 83) rfl d110_83 ?_
            refine x_cVev (pc := 84) c110_248 (ct_inverted hl hq (la136 (by omega)) hi.frames (f := f) (pat := pat) (dg := (bdig pat 16 : Int)) (frm := b) c0 c9 (by omega) (by omega) (by omega) (by omega) (by omega) (by omega)) (ko11 (by omega)) rfl rfl (Nat.le_of_ble_eq_true rfl) (by decide +kernel) (by decide +kernel) d110_84 (fun J1 hJ1 => ?_)
            refine x_aload_n (pc := 87) rfl d110_87 ?_
            refine m_getR (pc := 88) f110_40 (by decide +kernel) (ko0 (by omega)) rr0_4 d110_88 ?_
            obtain ⟨j0, j1, j2, j3⟩ := hJ1
            have hn2 : J1 11 2 = 8 * (((I 144 f).toNat : Nat) : Int) := by rw [show ((((I 144 f).toNat : Nat)) : Int) = I 144 f from by omega]; rw [j1]; show I 144 f * 8 = 8 * I 144 f; omega
            have hBk : ∀ k : Int, 0 ≤ k → k < ((I 144 f).toNat : Nat) → J1 13 k = byteZ (flpZ (Sf I 136 f) pat (bdig pat 16) b) k := fun k k0 k1 => j2 k k0 (show k < I 144 f from by omega)
            refine x_cVs (pc := 91) c110_252 (dt_readable hl hq (n := (I 144 f).toNat) (B := byteZ (flpZ (Sf I 136 f) pat (bdig pat 16) b)) (by omega) (by omega) hn2 hBk j3) (ko11 (by omega)) rfl rfl (Nat.le_of_ble_eq_true rfl) (by decide +kernel) (by decide +kernel) rfl d110_91 ?_
            refine x_zret (pc := 94) rfl (b01_or _) (fun z => Bool.noConfusion z) d110_94 ?_
            rw [decide_eq_true (by omega), if_pos rfl]
            have e : readZ (byteZ (flpZ (Sf I 136 f) pat (bdig pat 16) b)) (I 144 f).toNat = wpA (gA S) f pat b := by
              unfold wpA
              rw [q3]
              refine readZ_congr (by omega) fun k k0 k1 => ?_
              unfold byteZ
              refine byteN_congr 8 fun i i0 i1 => ?_
              unfold flpZ
              rw [bitZ_congr (S := Sf I 136 f) (T := SfA (gA S) f) (n := I 144 f) (fun k k0 k1 => by
                unfold SfA Sf
                rw [← h.1.1]
                exact (vc_ent10 (h.inv hS) c0 c9 k0 k1).symm) (by omega) (by omega)]
            rw [e]
            exact qc_ok (h.offC j0) (fun a ha => j0 a (by omega) (by omega) (by omega))
          · refine x_throw (pc := 58) x110_58 (Nat.le_of_ble_eq_true rfl) (by decide +kernel) rfl (by decide) (by decide) rfl ?_
            rw [decide_eq_false (by omega), if_neg Bool.false_ne_true]; exact qc_no (by decide) rfl h (fun _ _ => rfl)
      · refine x_throw (pc := 16) x110_16 (Nat.le_of_ble_eq_true rfl) (by decide +kernel) rfl (by decide) (by decide) rfl ?_
        rw [decide_eq_false (by omega), if_neg Bool.false_ne_true]; exact qc_no (by decide) rfl h (fun _ _ => rfl)
  · rw [show isF S f = false from decide_eq_false c, if_neg Bool.false_ne_true]
    refine mkct2 hl (by decide) (Nat.le_of_ble_eq_true rfl) (L := [some (.ref 0), some (.int (iI f)), some (.int (iI pat)), some (.int (iI b)), none]) rfl ?_
    refine x_aload_n (pc := 0) rfl d110_0 ?_
    refine x_iload_n (pc := 1) rfl d110_1 ?_
    refine x_cVt (pc := 2) c110_187 (dt_rfX hl hq h hS hf c) (ko0 (by omega)) rfl rfl (Nat.le_of_ble_eq_true rfl) (by decide +kernel) (by decide +kernel) rfl d110_2 ?_
    exact qc_no (by decide) rfl h (fun _ _ => rfl)
end Ask5
