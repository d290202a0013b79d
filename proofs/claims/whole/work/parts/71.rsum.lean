/-! ===== the reference: until idle, the sums, the text, the output ===== -/
section Rsum
variable {l : LX} {q : Nat} {I : Nat → Int → Int} {v : Int} {fr : Bool} {S : GS} {A : AV} {c e : Int}
theorem rm266 (hl : l.1.stackTraces = false) (hq : 192 ≤ q) (h : RREL I S) (hS : GOK S) : CT l 266 [.ref 181] (mm q I v fr) 0 0 (RQ q v fr I (0, (mkS 432 (gA S)).1, S)) := by
  have hA : AINV (gA S) cB := hS.1
  have hr := hA.rg
  have hcB : cB = 2450880 := rfl
  refine mkct2 hl (by decide) (Nat.le_of_ble_eq_true rfl) (L := [some (.ref 181)]) rfl ?_
  refine x_aload_n (pc := 0) rfl d266_0 ?_
  refine x_iconst (pc := 1) d266_1 ?_
  refine m_putI (pc := 2) (z := 6) f266_65 (by decide +kernel) (by decide +kernel) rfl (xo181 (by omega)) d266_2 ?_
  refine x_aload_n (pc := 5) rfl d266_5 ?_
  refine x_cVv (pc := 6) c266_384 (rt_tries hl hq) (xo181 (by omega)) rfl rfl (Nat.le_of_ble_eq_true rfl) (by decide +kernel) (by decide +kernel) rfl d266_6 ?_
  obtain ⟨K, hK⟩ : ∃ Z : Nat → Int → Int, Z = (cp2 (up2 I 181 6 0) 182 0 185 0 1011) := ⟨_, rfl⟩
  refine x_mem (J := K) (pc := 9) hK ?_
  have kK : ∀ a, a ≠ 185 → K a = up2 I 181 6 0 a := fun a ha => by rw [hK]; exact funext fun b => cp2_p ha
  have hRK : RV (K 182) (gA S) := by rw [kK 182 (by decide), up2_off' _ _ _ (by decide)]; exact h.1
  have k5 : ∀ i : Int, 0 ≤ i → i < 1011 → K 185 i = I 182 i := fun i i0 i1 => by rw [hK, cp2_y i0 i1, up2_p (by decide)]
  refine x_aload_n (pc := 9) rfl d266_9 ?_
  refine x_aload_n (pc := 10) rfl d266_10 ?_
  refine x_sipush (pc := 11) (by decide) d266_11 ?_
  refine x_cVes (pc := 14) c266_180 (rt_once hl hq (A := gA S) hRK hA (n := 432) (by omega) (by omega)) (xo181 (by omega)) rfl rfl (Nat.le_of_ble_eq_true rfl) (by decide +kernel) (by decide +kernel) d266_14 (fun J1 hJ1 => ?_)
  refine x_cVs (pc := 17) c266_387 (rt_laid hl hq (z := (mkS 432 (gA S)).1)) (xo181 (by omega)) rfl rfl (Nat.le_of_ble_eq_true rfl) (by decide +kernel) (by decide +kernel) rfl d266_17 ?_
  refine x_iret (pc := 20) rfl (fun _ => rfl) d266_20 ?_
  have o : ∀ a, a ≠ 182 → cp2 J1 185 0 182 0 1011 a = J1 a := fun a ha => funext fun b => cp2_p ha
  have o2 : ∀ a, a ≠ 182 → a ≠ 185 → a ≠ 188 → cp2 J1 185 0 182 0 1011 a = up2 I 181 6 0 a := fun a a2 a5 a8 => by rw [o a a2, hJ1.1 a a2 a8, kK a a5]
  exact rw_0 h ⟨fun a a1 a2 a5 a8 => by rw [o2 a a2 a5 a8, up2_off' _ _ _ a1], fun j hj => by rw [o2 181 (by decide) (by decide) (by decide), up2_i hj], by rw [o2 181 (by decide) (by decide) (by decide), up2_s], h.1.cg hA fun i i0 i1 => by rw [cp2_y i0 i1, hJ1.1 185 (by decide) (by decide), k5 i i0 i1]⟩ rfl
theorem rm267 (hl : l.1.stackTraces = false) (hq : 192 ≤ q) (h : RREL I S) (hS : GOK S) : CT l 267 [.ref 181] (mm q I v fr) 0 0 (RQ q v fr I (0, (mkS 432 (gA S)).2 0 7, S)) := by
  have hA : AINV (gA S) cB := hS.1
  have hr := hA.rg
  have hcB : cB = 2450880 := rfl
  refine mkct2 hl (by decide) (Nat.le_of_ble_eq_true rfl) (L := [some (.ref 181), none]) rfl ?_
  refine x_aload_n (pc := 0) rfl d267_0 ?_
  refine x_iconst (pc := 1) d267_1 ?_
  refine m_putI (pc := 2) (z := 6) f267_65 (by decide +kernel) (by decide +kernel) rfl (xo181 (by omega)) d267_2 ?_
  refine x_aload_n (pc := 5) rfl d267_5 ?_
  refine x_cVv (pc := 6) c267_384 (rt_tries hl hq) (xo181 (by omega)) rfl rfl (Nat.le_of_ble_eq_true rfl) (by decide +kernel) (by decide +kernel) rfl d267_6 ?_
  obtain ⟨K, hK⟩ : ∃ Z : Nat → Int → Int, Z = (cp2 (up2 I 181 6 0) 182 0 185 0 1011) := ⟨_, rfl⟩
  refine x_mem (J := K) (pc := 9) hK ?_
  have kK : ∀ a, a ≠ 185 → K a = up2 I 181 6 0 a := fun a ha => by rw [hK]; exact funext fun b => cp2_p ha
  have hRK : RV (K 182) (gA S) := by rw [kK 182 (by decide), up2_off' _ _ _ (by decide)]; exact h.1
  have k5 : ∀ i : Int, 0 ≤ i → i < 1011 → K 185 i = I 182 i := fun i i0 i1 => by rw [hK, cp2_y i0 i1, up2_p (by decide)]
  refine x_aload_n (pc := 9) rfl d267_9 ?_
  refine x_sipush (pc := 10) (by decide) d267_10 ?_
  refine x_cVes (pc := 13) c267_180 (rt_once hl hq (A := gA S) hRK hA (n := 432) (by omega) (by omega)) (xo181 (by omega)) rfl rfl (Nat.le_of_ble_eq_true rfl) (by decide +kernel) (by decide +kernel) d267_13 (fun J1 hJ1 => ?_)
  refine x_istore_n (pc := 16) (by decide +kernel) rfl d267_16 ?_
  dsimp only [List.set]
  refine x_aload_n (pc := 17) rfl d267_17 ?_
  refine x_aload_n (pc := 18) rfl d267_18 ?_
  refine m_getR (pc := 19) f267_9 (by decide +kernel) (xo181 (by omega)) rr181_0 d267_19 ?_
  refine x_bipush (pc := 22) (by decide) d267_22 ?_
  refine m_ialdW (pc := 24) (w := ((mkS 432 (gA S)).2 0 7)) (xa182 (by omega)) (by omega) (by omega) (by omega) (by rw [hJ1.2.sc (i := 7) (by decide) (by decide)]) d267_24 ?_
  refine x_cVs (pc := 25) c267_387 (rt_laid hl hq (z := ((mkS 432 (gA S)).2 0 7))) (xo181 (by omega)) rfl rfl (Nat.le_of_ble_eq_true rfl) (by decide +kernel) (by decide +kernel) rfl d267_25 ?_
  refine x_iret (pc := 28) rfl (fun _ => rfl) d267_28 ?_
  have o : ∀ a, a ≠ 182 → cp2 J1 185 0 182 0 1011 a = J1 a := fun a ha => funext fun b => cp2_p ha
  have o2 : ∀ a, a ≠ 182 → a ≠ 185 → a ≠ 188 → cp2 J1 185 0 182 0 1011 a = up2 I 181 6 0 a := fun a a2 a5 a8 => by rw [o a a2, hJ1.1 a a2 a8, kK a a5]
  exact rw_0 h ⟨fun a a1 a2 a5 a8 => by rw [o2 a a2 a5 a8, up2_off' _ _ _ a1], fun j hj => by rw [o2 181 (by decide) (by decide) (by decide), up2_i hj], by rw [o2 181 (by decide) (by decide) (by decide), up2_s], h.1.cg hA fun i i0 i1 => by rw [cp2_y i0 i1, hJ1.1 185 (by decide) (by decide), k5 i i0 i1]⟩ rfl
theorem lp_rimb (hl : l.1.stackTraces = false) (hq : 192 ≤ q) (hc : c ≤ 10000000) (hR : RV (I 182) A) (hA : AI A c e) : ∀ m k : Nat, (m : Int) + k = A 0 6 → Ex l 274 0 0 11 [some (.ref 181), some (.int (iI (sumF (A 8) k))), some (.int (iI (sumF (fun f => if A 7 f = 1 ∧ A 8 f = 0 then 1 else 0) k))), some (.int (iI k))] [] (mm q I v fr) (fun o => o = (.inl (some (.int (iI (impA A)))), mm q I v fr)) := by
  have hr := hA.rg
  have ht : ∀ j : Int, 10 ≤ j → j ≤ 17 → 0 ≤ A 0 j ∧ A 0 j ≤ A 0 7 := hA.ct
  have t0 := ht 10 (by decide) (by decide); have t1 := ht 11 (by decide) (by decide); have t2 := ht 12 (by decide) (by decide); have t3 := ht 13 (by decide) (by decide)
  intro m
  induction m with
  | zero =>
    intro k hk
    have hv := sumF_b (g := A 8) (z := 9) (by decide) k (fun i i0 i1 => (hA.frm i i0 (by omega)).2.2.1)
    have ek : (A 0 6).toNat = k := by omega
    unfold impA absZ triA untA
    rw [ek]
    refine x_iload_n (pc := 11) rfl d274_11 ?_
    refine x_aload_n (pc := 12) rfl d274_12 ?_
    refine m_getR (pc := 13) f274_9 (by decide +kernel) (xo181 (by omega)) rr181_0 d274_13 ?_
    refine x_bipush (pc := 16) (by decide) d274_16 ?_
    refine m_ialdW (pc := 18) (w := (A 0 6)) (xa182 (by omega)) (by omega) (by omega) (by omega) (by rw [hR.sc (i := 6) (by decide) (by decide)]) d274_18 ?_
    refine x_icmp_ge (pc := 19) (tgt := 67) ⟨by omega, by omega⟩ ⟨by omega, by omega⟩ d274_19 (by decide) (fun g19 => ?_) (fun g19 => ?_)
    · refine x_aload_n (pc := 67) rfl d274_67 ?_
      refine m_getR (pc := 68) f274_9 (by decide +kernel) (xo181 (by omega)) rr181_0 d274_68 ?_
      refine x_bipush (pc := 71) (by decide) d274_71 ?_
      refine m_ialdW (pc := 73) (w := (A 0 11)) (xa182 (by omega)) (by omega) (by omega) (by omega) (by rw [hR.sc (i := 11) (by decide) (by decide)]) d274_73 ?_
      refine x_aload_n (pc := 74) rfl d274_74 ?_
      refine m_getR (pc := 75) f274_9 (by decide +kernel) (xo181 (by omega)) rr181_0 d274_75 ?_
      refine x_bipush (pc := 78) (by decide) d274_78 ?_
      refine m_ialdW (pc := 80) (w := (A 0 12)) (xa182 (by omega)) (by omega) (by omega) (by omega) (by rw [hR.sc (i := 12) (by decide) (by decide)]) d274_80 ?_
      refine x_iadd (pc := 81) d274_81 ?_
      refine x_aload_n (pc := 82) rfl d274_82 ?_
      refine m_getR (pc := 83) f274_9 (by decide +kernel) (xo181 (by omega)) rr181_0 d274_83 ?_
      refine x_bipush (pc := 86) (by decide) d274_86 ?_
      refine m_ialdW (pc := 88) (w := (A 0 13)) (xa182 (by omega)) (by omega) (by omega) (by omega) (by rw [hR.sc (i := 13) (by decide) (by decide)]) d274_88 ?_
      refine x_iadd (pc := 89) d274_89 ?_
      refine x_istore_n (pc := 90) (by decide +kernel) rfl d274_90 ?_
      dsimp only [List.set]
      refine x_aload_n (pc := 91) rfl d274_91 ?_
      refine m_getR (pc := 92) f274_9 (by decide +kernel) (xo181 (by omega)) rr181_0 d274_92 ?_
      refine x_bipush (pc := 95) (by decide) d274_95 ?_
      refine m_ialdW (pc := 97) (w := (A 0 10)) (xa182 (by omega)) (by omega) (by omega) (by omega) (by rw [hR.sc (i := 10) (by decide) (by decide)]) d274_97 ?_
      refine x_iload_n (pc := 98) rfl d274_98 ?_
      refine x_isub (pc := 99) d274_99 ?_
      refine x_abs (pc := 100) ⟨by omega, by omega⟩ c274_390 (by decide +kernel) (Nat.le_of_ble_eq_true rfl) d274_100 ?_
      refine x_aload_n (pc := 103) rfl d274_103 ?_
      refine m_getR (pc := 104) f274_9 (by decide +kernel) (xo181 (by omega)) rr181_0 d274_104 ?_
      refine x_bipush (pc := 107) (by decide) d274_107 ?_
      refine m_ialdW (pc := 109) (w := (A 0 10)) (xa182 (by omega)) (by omega) (by omega) (by omega) (by rw [hR.sc (i := 10) (by decide) (by decide)]) d274_109 ?_
      refine x_iload_n (pc := 110) rfl d274_110 ?_
      refine x_isub (pc := 111) d274_111 ?_
      refine x_abs (pc := 112) ⟨by omega, by omega⟩ c274_390 (by decide +kernel) (Nat.le_of_ble_eq_true rfl) d274_112 ?_
      refine x_iadd (pc := 115) d274_115 ?_
      refine x_iload_n (pc := 116) rfl d274_116 ?_
      refine x_iadd (pc := 117) d274_117 ?_
      refine x_iret (pc := 118) rfl (fun _ => rfl) d274_118 ?_
      rfl
    · exfalso; omega
  | succ m ih =>
    intro k hk
    have hf := hA.frm k (by omega) (by omega)
    have es : ∀ z : Int, z = (if A 7 k = 1 ∧ A 8 k = 0 then 1 else 0) → sumF (fun f => if A 7 f = 1 ∧ A 8 f = 0 then 1 else 0) k + z = sumF (fun f => if A 7 f = 1 ∧ A 8 f = 0 then 1 else 0) (k + 1) := fun z hz => by rw [hz]; rfl
    refine x_iload_n (pc := 11) rfl d274_11 ?_
    refine x_aload_n (pc := 12) rfl d274_12 ?_
    refine m_getR (pc := 13) f274_9 (by decide +kernel) (xo181 (by omega)) rr181_0 d274_13 ?_
    refine x_bipush (pc := 16) (by decide) d274_16 ?_
    refine m_ialdW (pc := 18) (w := (A 0 6)) (xa182 (by omega)) (by omega) (by omega) (by omega) (by rw [hR.sc (i := 6) (by decide) (by decide)]) d274_18 ?_
    refine x_icmp_ge (pc := 19) (tgt := 67) ⟨by omega, by omega⟩ ⟨by omega, by omega⟩ d274_19 (by decide) (fun g19 => ?_) (fun g19 => ?_)
    · refine x_mask [true, true, true, false] ?_
      dsimp only [mask]
      exfalso; omega
    · refine x_iload_n (pc := 22) rfl d274_22 ?_
      refine x_aload_n (pc := 23) rfl d274_23 ?_
      refine x_iload_n (pc := 24) rfl d274_24 ?_
      refine x_iconst (pc := 25) d274_25 ?_
      refine x_cVs (pc := 26) c274_78 (rt_of8 hl hq (A := A) hR (f := k) (by omega) (by omega) (by omega)) (xo181 (by omega)) rfl rfl (Nat.le_of_ble_eq_true rfl) (by decide +kernel) (by decide +kernel) rfl d274_26 ?_
      refine x_iadd (pc := 29) d274_29 ?_
      refine x_istore_n (pc := 30) (by decide +kernel) rfl d274_30 ?_
      dsimp only [List.set]
      refine x_iload_n (pc := 31) rfl d274_31 ?_
      refine x_aload_n (pc := 32) rfl d274_32 ?_
      refine x_iload_n (pc := 33) rfl d274_33 ?_
      refine x_iconst (pc := 34) d274_34 ?_
      refine x_cVs (pc := 35) c274_78 (rt_of7 hl hq (A := A) hR (f := k) (by omega) (by omega) (by omega)) (xo181 (by omega)) rfl rfl (Nat.le_of_ble_eq_true rfl) (by decide +kernel) (by decide +kernel) rfl d274_35 ?_
      refine x_iconst (pc := 38) d274_38 ?_
      refine x_icmp_ne (pc := 39) (tgt := 55) ⟨by omega, by omega⟩ ⟨by omega, by omega⟩ d274_39 (by decide) (fun g39 => ?_) (fun g39 => ?_)
      · refine x_iconst (pc := 55) d274_55 ?_
        refine x_cSs (pc := 56) c274_130 (rt_truth hl (b := false)) rfl rfl (Nat.le_of_ble_eq_true rfl) (by decide +kernel) (by decide +kernel) (by decide +kernel) rfl d274_56 ?_
        refine x_iadd (pc := 59) d274_59 ?_
        refine x_istore_n (pc := 60) (by decide +kernel) rfl d274_60 ?_
        dsimp only [List.set]
        refine x_iinc (pc := 61) rfl (by decide +kernel) rfl d274_61 ?_
        dsimp only [List.set]
        refine x_goto (pc := 64) (tgt := 11) d274_64 (by decide) ?_
        rw [es (b01 false) (by rw [if_neg (by omega)]; rfl)]
        exact ih (k + 1) (by omega)
      · refine x_aload_n (pc := 42) rfl d274_42 ?_
        refine x_iload_n (pc := 43) rfl d274_43 ?_
        refine x_iconst (pc := 44) d274_44 ?_
        refine x_cVs (pc := 45) c274_78 (rt_of8 hl hq (A := A) hR (f := k) (by omega) (by omega) (by omega)) (xo181 (by omega)) rfl rfl (Nat.le_of_ble_eq_true rfl) (by decide +kernel) (by decide +kernel) rfl d274_45 ?_
        refine x_if_ne (pc := 48) (tgt := 55) ⟨by omega, by omega⟩ d274_48 (by decide) (fun g48 => ?_) (fun g48 => ?_)
        · refine x_iconst (pc := 55) d274_55 ?_
          refine x_cSs (pc := 56) c274_130 (rt_truth hl (b := false)) rfl rfl (Nat.le_of_ble_eq_true rfl) (by decide +kernel) (by decide +kernel) (by decide +kernel) rfl d274_56 ?_
          refine x_iadd (pc := 59) d274_59 ?_
          refine x_istore_n (pc := 60) (by decide +kernel) rfl d274_60 ?_
          dsimp only [List.set]
          refine x_iinc (pc := 61) rfl (by decide +kernel) rfl d274_61 ?_
          dsimp only [List.set]
          refine x_goto (pc := 64) (tgt := 11) d274_64 (by decide) ?_
          rw [es (b01 false) (by rw [if_neg (by omega)]; rfl)]
          exact ih (k + 1) (by omega)
        · refine x_iconst (pc := 51) d274_51 ?_
          refine x_goto (pc := 52) (tgt := 56) d274_52 (by decide) ?_
          refine x_cSs (pc := 56) c274_130 (rt_truth hl (b := true)) rfl rfl (Nat.le_of_ble_eq_true rfl) (by decide +kernel) (by decide +kernel) (by decide +kernel) rfl d274_56 ?_
          refine x_iadd (pc := 59) d274_59 ?_
          refine x_istore_n (pc := 60) (by decide +kernel) rfl d274_60 ?_
          dsimp only [List.set]
          refine x_iinc (pc := 61) rfl (by decide +kernel) rfl d274_61 ?_
          dsimp only [List.set]
          refine x_goto (pc := 64) (tgt := 11) d274_64 (by decide) ?_
          rw [es (b01 true) (by rw [if_pos (by omega)]; rfl)]
          exact ih (k + 1) (by omega)
theorem rm274 (hl : l.1.stackTraces = false) (hq : 192 ≤ q) (h : RREL I S) (hS : GOK S) : CT l 274 [.ref 181] (mm q I v fr) 0 0 (RQ q v fr I (0, impA (gA S), S)) := by
  have hA : AINV (gA S) cB := hS.1
  have hr := hA.rg
  have hcB : cB = 2450880 := rfl
  refine mkct2 hl (by decide) (Nat.le_of_ble_eq_true rfl) (L := [some (.ref 181), none, none, none]) rfl ?_
  refine x_aload_n (pc := 0) rfl d274_0 ?_
  refine x_iconst (pc := 1) d274_1 ?_
  refine m_putI (pc := 2) (z := 6) f274_65 (by decide +kernel) (by decide +kernel) rfl (xo181 (by omega)) d274_2 ?_
  refine x_iconst (pc := 5) d274_5 ?_
  refine x_istore_n (pc := 6) (by decide +kernel) rfl d274_6 ?_
  dsimp only [List.set]
  refine x_iconst (pc := 7) d274_7 ?_
  refine x_istore_n (pc := 8) (by decide +kernel) rfl d274_8 ?_
  dsimp only [List.set]
  refine x_iconst (pc := 9) d274_9 ?_
  refine x_istore_n (pc := 10) (by decide +kernel) rfl d274_10 ?_
  dsimp only [List.set]
  have t : TH I 0 (up2 I 181 6 0) := TH.mk
  exact ex_mono (lp_rimb (v := v) (fr := fr) hl hq (by omega) (t.rv h.1) hA (gA S 0 6).toNat 0 (by omega)) fun o ho => by rw [ho]; exact rq_0 h t rfl
theorem rm275 (hl : l.1.stackTraces = false) (hq : 192 ≤ q) (h : RREL I S) (hS : GOK S) : CT l 275 [.ref 181] (mm q I v fr) 0 0 (RQ q v fr I (0, ckiA (gA S), S)) := by
  have hA : AINV (gA S) cB := hS.1
  have hr := hA.rg
  have hcB : cB = 2450880 := rfl
  refine mkct2 hl (by decide) (Nat.le_of_ble_eq_true rfl) (L := [some (.ref 181), none]) rfl ?_
  refine x_aload_n (pc := 0) rfl d275_0 ?_
  refine m_getR (pc := 1) f275_9 (by decide +kernel) (xo181 (by omega)) rr181_0 d275_1 ?_
  refine x_bipush (pc := 4) (by decide) d275_4 ?_
  refine m_ialdW (pc := 6) (w := ((gA S) 0 16)) (xa182 (by omega)) (by omega) (by omega) (by omega) (by rw [h.1.sc (i := 16) (by decide) (by decide)]) d275_6 ?_
  refine x_bipush (pc := 7) (by decide) d275_7 ?_
  refine x_aload_n (pc := 9) rfl d275_9 ?_
  refine m_getR (pc := 10) f275_9 (by decide +kernel) (xo181 (by omega)) rr181_0 d275_10 ?_
  refine x_bipush (pc := 13) (by decide) d275_13 ?_
  refine m_ialdW (pc := 15) (w := ((gA S) 0 10)) (xa182 (by omega)) (by omega) (by omega) (by omega) (by rw [h.1.sc (i := 10) (by decide) (by decide)]) d275_15 ?_
  refine x_imul (pc := 16) d275_16 ?_
  refine x_iadd (pc := 17) d275_17 ?_
  refine x_aload_n (pc := 18) rfl d275_18 ?_
  refine m_getR (pc := 19) f275_9 (by decide +kernel) (xo181 (by omega)) rr181_0 d275_19 ?_
  refine x_iconst (pc := 22) d275_22 ?_
  refine m_ialdW (pc := 23) (w := ((gA S) 0 0)) (xa182 (by omega)) (by omega) (by omega) (by omega) (by rw [h.1.sc (i := 0) (by decide) (by decide)]) d275_23 ?_
  refine x_imul (pc := 24) d275_24 ?_
  refine x_istore_n (pc := 25) (by decide +kernel) rfl d275_25 ?_
  dsimp only [List.set]
  refine x_aload_n (pc := 26) rfl d275_26 ?_
  refine x_aload_n (pc := 27) rfl d275_27 ?_
  refine m_getR (pc := 28) f275_9 (by decide +kernel) (xo181 (by omega)) rr181_0 d275_28 ?_
  refine x_bipush (pc := 31) (by decide) d275_31 ?_
  refine m_ialdW (pc := 33) (w := ((gA S) 0 7)) (xa182 (by omega)) (by omega) (by omega) (by omega) (by rw [h.1.sc (i := 7) (by decide) (by decide)]) d275_33 ?_
  refine x_iload_n (pc := 34) rfl d275_34 ?_
  refine x_isub (pc := 35) d275_35 ?_
  refine x_aload_n (pc := 36) rfl d275_36 ?_
  refine m_getR (pc := 37) f275_9 (by decide +kernel) (xo181 (by omega)) rr181_0 d275_37 ?_
  refine x_bipush (pc := 40) (by decide) d275_40 ?_
  refine m_ialdW (pc := 42) (w := ((gA S) 0 15)) (xa182 (by omega)) (by omega) (by omega) (by omega) (by rw [h.1.sc (i := 15) (by decide) (by decide)]) d275_42 ?_
  refine x_isub (pc := 43) d275_43 ?_
  refine x_aload_n (pc := 44) rfl d275_44 ?_
  refine m_getR (pc := 45) f275_9 (by decide +kernel) (xo181 (by omega)) rr181_0 d275_45 ?_
  refine x_bipush (pc := 48) (by decide) d275_48 ?_
  refine m_ialdW (pc := 50) (w := ((gA S) 0 17)) (xa182 (by omega)) (by omega) (by omega) (by omega) (by rw [h.1.sc (i := 17) (by decide) (by decide)]) d275_50 ?_
  refine x_isub (pc := 51) d275_51 ?_
  refine x_cVs (pc := 52) c275_344 (rt_tells hl hq (z := (((((gA S) 0 7) - ((((gA S) 0 16) + (8 * ((gA S) 0 10))) * ((gA S) 0 0))) - ((gA S) 0 15)) - ((gA S) 0 17)))) (xo181 (by omega)) rfl rfl (Nat.le_of_ble_eq_true rfl) (by decide +kernel) (by decide +kernel) rfl d275_52 ?_
  refine x_iret (pc := 55) rfl (fun _ => rfl) d275_55 ?_
  exact rq_0 h TH.mk rfl
theorem rd276 (hl : l.1.stackTraces = false) (hq : 192 ≤ q) (h : RREL I S) (hS : GOK S) : DT l 276 [.ref 181] (mm q I v fr) 0 0 (.inl (some (.float (errV (gA S)))), mm q (up2 I 181 6 0) v fr) := by
  have hA : AINV (gA S) cB := hS.1
  have hr := hA.rg
  have hcB : cB = 2450880 := rfl
  have t0 := hA.ct 10 (by decide) (by decide); have t1 := hA.ct 11 (by decide) (by decide); have t4 := hA.ct 14 (by decide) (by decide)
  unfold errV
  refine mkdt hl (by decide) (Nat.le_of_ble_eq_true rfl) (L := [some (.ref 181)]) rfl ?_
  refine x_aload_n (pc := 0) rfl d276_0 ?_
  refine x_iconst (pc := 1) d276_1 ?_
  refine m_putI (pc := 2) (z := 6) f276_65 (by decide +kernel) (by decide +kernel) rfl (xo181 (by omega)) d276_2 ?_
  refine x_aload_n (pc := 5) rfl d276_5 ?_
  refine m_getR (pc := 6) f276_9 (by decide +kernel) (xo181 (by omega)) rr181_0 d276_6 ?_
  refine x_bipush (pc := 9) (by decide) d276_9 ?_
  refine m_ialdW (pc := 11) (w := ((gA S) 0 10)) (xa182 (by omega)) (by omega) (by omega) (by omega) (by rw [up2_p (by omega), h.1.sc (i := 10) (by decide) (by decide)]) d276_11 ?_
  refine x_if_ne (pc := 12) (tgt := 19) ⟨by omega, by omega⟩ d276_12 (by decide) (fun g12 => ?_) (fun g12 => ?_)
  · refine x_aload_n (pc := 19) rfl d276_19 ?_
    refine m_getR (pc := 20) f276_9 (by decide +kernel) (xo181 (by omega)) rr181_0 d276_20 ?_
    refine x_bipush (pc := 23) (by decide) d276_23 ?_
    refine m_ialdW (pc := 25) (w := ((gA S) 0 11)) (xa182 (by omega)) (by omega) (by omega) (by omega) (by rw [up2_p (by omega), h.1.sc (i := 11) (by decide) (by decide)]) d276_25 ?_
    refine x_aload_n (pc := 26) rfl d276_26 ?_
    refine m_getR (pc := 27) f276_9 (by decide +kernel) (xo181 (by omega)) rr181_0 d276_27 ?_
    refine x_bipush (pc := 30) (by decide) d276_30 ?_
    refine m_ialdW (pc := 32) (w := ((gA S) 0 14)) (xa182 (by omega)) (by omega) (by omega) (by omega) (by rw [up2_p (by omega), h.1.sc (i := 14) (by decide) (by decide)]) d276_32 ?_
    refine x_iadd (pc := 33) d276_33 ?_
    refine x_i2f (pc := 34) d276_34 ?_
    refine x_aload_n (pc := 35) rfl d276_35 ?_
    refine m_getR (pc := 36) f276_9 (by decide +kernel) (xo181 (by omega)) rr181_0 d276_36 ?_
    refine x_bipush (pc := 39) (by decide) d276_39 ?_
    refine m_ialdW (pc := 41) (w := ((gA S) 0 10)) (xa182 (by omega)) (by omega) (by omega) (by omega) (by rw [up2_p (by omega), h.1.sc (i := 10) (by decide) (by decide)]) d276_41 ?_
    refine x_i2f (pc := 42) d276_42 ?_
    refine x_fdiv (pc := 43) (fdiv_ok ⟨by omega, by omega⟩ ⟨by omega, by omega⟩) d276_43 ?_
    refine x_fret (pc := 44) rfl (fun _ => rfl) d276_44 ?_
    rw [if_neg (by omega)]
  · refine x_fconst (pc := 15) d276_15 ?_
    refine x_goto (pc := 16) (tgt := 44) d276_16 (by decide) ?_
    refine x_fret (pc := 44) rfl (fun _ => rfl) d276_44 ?_
    rw [if_pos (by omega)]
theorem lp_rthr (hl : l.1.stackTraces = false) (hq : 192 ≤ q) (hR : RV (I 182) A) (hA : AI A c e) (hc : c ≤ 10000000) : ∀ m k : Nat, (m : Int) + k = A 0 6 → Ex l 277 0 0 9 [some (.ref 181), some (.int (iI (sumF (fun f => if A 7 f = 1 then A 6 f - 2 else 0) k))), some (.int (iI k))] [] (mm q I v fr) (fun o => o = (.inl (some (.double (thrV A (ackA A)))), mm q I v fr)) := by
  have hr := hA.rg
  intro m
  induction m with
  | zero =>
    intro k hk
    have hv := sumF_b (g := fun f => if A 7 f = 1 then A 6 f - 2 else 0) (z := 4) (by decide) k (fun i i0 i1 => by have := (hA.frm i i0 (by omega)).1; split <;> omega)
    unfold thrV ackA
    rw [show (A 0 6).toNat = k from by omega]
    refine x_iload_n (pc := 9) rfl d277_9 ?_
    refine x_aload_n (pc := 10) rfl d277_10 ?_
    refine m_getR (pc := 11) f277_9 (by decide +kernel) (xo181 (by omega)) rr181_0 d277_11 ?_
    refine x_bipush (pc := 14) (by decide) d277_14 ?_
    refine m_ialdW (pc := 16) (w := (A 0 6)) (xa182 (by omega)) (by omega) (by omega) (by omega) (by rw [hR.sc (i := 6) (by decide) (by decide)]) d277_16 ?_
    refine x_icmp_ge (pc := 17) (tgt := 51) ⟨by omega, by omega⟩ ⟨by omega, by omega⟩ d277_17 (by decide) (fun g17 => ?_) (fun g17 => ?_)
    · refine x_aload_n (pc := 51) rfl d277_51 ?_
      refine m_getR (pc := 52) f277_9 (by decide +kernel) (xo181 (by omega)) rr181_0 d277_52 ?_
      refine x_bipush (pc := 55) (by decide) d277_55 ?_
      refine m_ialdW (pc := 57) (w := (A 0 7)) (xa182 (by omega)) (by omega) (by omega) (by omega) (by rw [hR.sc (i := 7) (by decide) (by decide)]) d277_57 ?_
      refine x_if_ne (pc := 58) (tgt := 65) ⟨by omega, by omega⟩ d277_58 (by decide) (fun g58 => ?_) (fun g58 => ?_)
      · refine x_iload_n (pc := 65) rfl d277_65 ?_
        refine x_i2d (pc := 66) d277_66 ?_
        refine x_aload_n (pc := 67) rfl d277_67 ?_
        refine m_getR (pc := 68) f277_9 (by decide +kernel) (xo181 (by omega)) rr181_0 d277_68 ?_
        refine x_bipush (pc := 71) (by decide) d277_71 ?_
        refine m_ialdW (pc := 73) (w := (A 0 7)) (xa182 (by omega)) (by omega) (by omega) (by omega) (by rw [hR.sc (i := 7) (by decide) (by decide)]) d277_73 ?_
        refine x_i2d (pc := 74) d277_74 ?_
        refine x_ddiv (pc := 75) (ddiv_ok ⟨by omega, by omega⟩ ⟨by omega, by omega⟩) d277_75 ?_
        refine x_dret (pc := 76) rfl (fun _ => rfl) d277_76 ?_
        rw [if_neg (by omega)]
      · refine x_dconst (pc := 61) d277_61 ?_
        refine x_goto (pc := 62) (tgt := 76) d277_62 (by decide) ?_
        refine x_dret (pc := 76) rfl (fun _ => rfl) d277_76 ?_
        rw [if_pos (by omega)]
    · exfalso; omega
  | succ m ih =>
    intro k hk
    have hf := hA.frm k (by omega) (by omega)
    have es : ∀ z : Int, z = (if A 7 k = 1 then A 6 k - 2 else 0) → sumF (fun f => if A 7 f = 1 then A 6 f - 2 else 0) k + z = sumF (fun f => if A 7 f = 1 then A 6 f - 2 else 0) (k + 1) := fun z hz => by rw [hz]; rfl
    refine x_iload_n (pc := 9) rfl d277_9 ?_
    refine x_aload_n (pc := 10) rfl d277_10 ?_
    refine m_getR (pc := 11) f277_9 (by decide +kernel) (xo181 (by omega)) rr181_0 d277_11 ?_
    refine x_bipush (pc := 14) (by decide) d277_14 ?_
    refine m_ialdW (pc := 16) (w := (A 0 6)) (xa182 (by omega)) (by omega) (by omega) (by omega) (by rw [hR.sc (i := 6) (by decide) (by decide)]) d277_16 ?_
    refine x_icmp_ge (pc := 17) (tgt := 51) ⟨by omega, by omega⟩ ⟨by omega, by omega⟩ d277_17 (by decide) (fun g17 => ?_) (fun g17 => ?_)
    · refine x_mask [true, true, false] ?_
      dsimp only [mask]
      exfalso; omega
    · refine x_iload_n (pc := 20) rfl d277_20 ?_
      refine x_aload_n (pc := 21) rfl d277_21 ?_
      refine x_iload_n (pc := 22) rfl d277_22 ?_
      refine x_iconst (pc := 23) d277_23 ?_
      refine x_cVs (pc := 24) c277_78 (rt_of7 hl hq (A := A) hR (f := k) (by omega) (by omega) (by omega)) (xo181 (by omega)) rfl rfl (Nat.le_of_ble_eq_true rfl) (by decide +kernel) (by decide +kernel) rfl d277_24 ?_
      refine x_iconst (pc := 27) d277_27 ?_
      refine x_icmp_ne (pc := 28) (tgt := 42) ⟨by omega, by omega⟩ ⟨by omega, by omega⟩ d277_28 (by decide) (fun g28 => ?_) (fun g28 => ?_)
      · refine x_iconst (pc := 42) d277_42 ?_
        refine x_iadd (pc := 43) d277_43 ?_
        refine x_istore_n (pc := 44) (by decide +kernel) rfl d277_44 ?_
        dsimp only [List.set]
        refine x_iinc (pc := 45) rfl (by decide +kernel) rfl d277_45 ?_
        dsimp only [List.set]
        refine x_goto (pc := 48) (tgt := 9) d277_48 (by decide) ?_
        rw [es 0 (by rw [if_neg (by omega)])]
        exact ih (k + 1) (by omega)
      · refine x_aload_n (pc := 31) rfl d277_31 ?_
        refine x_iload_n (pc := 32) rfl d277_32 ?_
        refine x_iconst (pc := 33) d277_33 ?_
        refine x_cVs (pc := 34) c277_78 (rt_of6 hl hq (A := A) hR (f := k) (by omega) (by omega) (by omega)) (xo181 (by omega)) rfl rfl (Nat.le_of_ble_eq_true rfl) (by decide +kernel) (by decide +kernel) rfl d277_34 ?_
        refine x_iconst (pc := 37) d277_37 ?_
        refine x_isub (pc := 38) d277_38 ?_
        refine x_goto (pc := 39) (tgt := 43) d277_39 (by decide) ?_
        refine x_iadd (pc := 43) d277_43 ?_
        refine x_istore_n (pc := 44) (by decide +kernel) rfl d277_44 ?_
        dsimp only [List.set]
        refine x_iinc (pc := 45) rfl (by decide +kernel) rfl d277_45 ?_
        dsimp only [List.set]
        refine x_goto (pc := 48) (tgt := 9) d277_48 (by decide) ?_
        rw [es _ (by rw [if_pos (by omega)])]
        exact ih (k + 1) (by omega)
theorem rd277 (hl : l.1.stackTraces = false) (hq : 192 ≤ q) (h : RREL I S) (hS : GOK S) : DT l 277 [.ref 181] (mm q I v fr) 0 0 (.inl (some (.double (thrV (gA S) (ackA (gA S))))), mm q (up2 I 181 6 0) v fr) := by
  have hA : AINV (gA S) cB := hS.1
  have hr := hA.rg
  have hcB : cB = 2450880 := rfl
  refine mkdt hl (by decide) (Nat.le_of_ble_eq_true rfl) (L := [some (.ref 181), none, none]) rfl ?_
  refine x_aload_n (pc := 0) rfl d277_0 ?_
  refine x_iconst (pc := 1) d277_1 ?_
  refine m_putI (pc := 2) (z := 6) f277_65 (by decide +kernel) (by decide +kernel) rfl (xo181 (by omega)) d277_2 ?_
  refine x_iconst (pc := 5) d277_5 ?_
  refine x_istore_n (pc := 6) (by decide +kernel) rfl d277_6 ?_
  dsimp only [List.set]
  refine x_iconst (pc := 7) d277_7 ?_
  refine x_istore_n (pc := 8) (by decide +kernel) rfl d277_8 ?_
  dsimp only [List.set]
  exact lp_rthr hl hq ((TH.mk (I := I)).rv h.1) hA (by omega) (gA S 0 6).toNat 0 (by omega)
theorem rt_writes (hl : l.1.stackTraces = false) (hq : 192 ≤ q) {n z : Int} (hn : I 181 23 = n) (h0 : 0 ≤ n) (h1 : n < 60) : DT l 291 [.ref 181, .int (iI z)] (mm q I v fr) 0 0 (.inl none, mm q (up2 (up2 I 191 n z) 181 23 (n + 1)) v fr) := by
  refine mkdt hl (by decide) (Nat.le_of_ble_eq_true rfl) (L := [some (.ref 181), some (.int (iI z))]) rfl ?_
  refine x_aload_n (pc := 0) rfl d291_0 ?_
  refine m_getR (pc := 1) f291_41 (by decide +kernel) (xo181 (by omega)) rr181_22 d291_1 ?_
  refine x_aload_n (pc := 4) rfl d291_4 ?_
  refine m_getI (pc := 5) (z := 23) f291_415 (by decide +kernel) rfl (xo181 (by omega)) d291_5 ?_
  refine x_val (pc := 8) (w := n) (hn) ?_
  refine x_iload_n (pc := 8) rfl d291_8 ?_
  refine m_iast (pc := 9) (xa191 (by omega)) (by omega) (by omega) (by omega) d291_9 ?_
  refine x_aload_n (pc := 10) rfl d291_10 ?_
  refine x_dup (pc := 11) rfl d291_11 ?_
  refine m_getW (pc := 12) (z := 23) (w := (I 181 23)) f291_415 (by decide +kernel) rfl (xo181 (by omega)) (by rw [up2_p (by omega)]) d291_12 ?_
  refine x_val (pc := 15) (w := n) (hn) ?_
  refine x_iconst (pc := 15) d291_15 ?_
  refine x_iadd (pc := 16) d291_16 ?_
  refine m_putI (pc := 17) (z := 23) f291_415 (by decide +kernel) (by decide +kernel) rfl (xo181 (by omega)) d291_17 ?_
  refine x_vret (pc := 20) rfl (fun _ => rfl) d291_20 ?_
  first | rfl | (exfalso; omega)
/-- the text has changed -/
def oT (I : Nat → Int → Int) (n : Int) (T : Int → Int) (K : Nat → Int → Int) : Prop := (∀ a, a ≠ 181 → a ≠ 189 → K a = I a) ∧ (∀ j, j ≠ 12 → K 181 j = I 181 j) ∧ K 181 12 = n ∧ ∀ i, K 189 i = T i
theorem lp_rfour (hl : l.1.stackTraces = false) (hq : 192 ≤ q) {n z : Int} (hz : InR z) (h0 : 0 ≤ n) (h1 : n + 4 ≤ 500) : ∀ (m j : Nat) (J : Nat → Int → Int), m + j = 4 → oT I (n + j) (fun i => if n ≤ i ∧ i < n + j then byt4 z (i - n) else I 189 i) J → Ex l 199 0 0 3 [some (.ref 181), some (.int (iI z)), some (.int (iI (24 - 8 * (j : Int))))] [] (mm q J v fr) (oE q v fr none (oT I (n + 4) (txtG (I 189) n z))) := by
  obtain ⟨hz0, hz1⟩ := id hz
  intro m
  induction m with
  | zero =>
    intro j J hj hJ
    have ej : (j : Int) = 4 := by omega
    rw [ej] at hJ
    refine x_iload_n (pc := 3) rfl d199_3 ?_
    refine x_if_lt (pc := 4) (tgt := 39) ⟨by omega, by omega⟩ d199_4 (by decide) (fun g4 => ?_) (fun g4 => ?_)
    · refine x_vret (pc := 39) rfl (fun _ => rfl) d199_39 ?_
      exact ⟨J, rfl, hJ⟩
    · exfalso; omega
  | succ m ih =>
    intro j J hj hJ
    obtain ⟨o, o1, o2, o3⟩ := hJ
    refine x_iload_n (pc := 3) rfl d199_3 ?_
    refine x_if_lt (pc := 4) (tgt := 39) ⟨by omega, by omega⟩ d199_4 (by decide) (fun g4 => ?_) (fun g4 => ?_)
    · refine x_vret (pc := 39) rfl (fun _ => rfl) d199_39 ?_
      exfalso; omega
    · refine x_aload_n (pc := 7) rfl d199_7 ?_
      refine m_getR (pc := 8) f199_31 (by decide +kernel) (xo181 (by omega)) rr181_11 d199_8 ?_
      refine x_aload_n (pc := 11) rfl d199_11 ?_
      refine m_getI (pc := 12) (z := 12) f199_56 (by decide +kernel) rfl (xo181 (by omega)) d199_12 ?_
      refine x_val (pc := 15) (w := (n + j)) (o2) ?_
      refine x_iload_n (pc := 15) rfl d199_15 ?_
      refine x_iload_n (pc := 16) rfl d199_16 ?_
      refine x_ishr (pc := 17) (iI_shr ⟨by omega, by omega⟩ (by omega) (by omega)) d199_17 ?_
      refine x_sipush (pc := 18) (by decide) d199_18 ?_
      refine x_iand (pc := 21) (iI_and8 _) d199_21 ?_
      refine m_iast (pc := 22) (xa189 (by omega)) (by omega) (by omega) (by omega) d199_22 ?_
      refine x_aload_n (pc := 23) rfl d199_23 ?_
      refine x_dup (pc := 24) rfl d199_24 ?_
      refine m_getW (pc := 25) (z := 12) (w := (J 181 12)) f199_56 (by decide +kernel) rfl (xo181 (by omega)) (by rw [up2_p (by omega)]) d199_25 ?_
      refine x_val (pc := 28) (w := (n + j)) (o2) ?_
      refine x_iconst (pc := 28) d199_28 ?_
      refine x_iadd (pc := 29) d199_29 ?_
      refine m_putI (pc := 30) (z := 12) f199_56 (by decide +kernel) (by decide +kernel) rfl (xo181 (by omega)) d199_30 ?_
      refine x_iinc (pc := 33) rfl (by decide +kernel) rfl d199_33 ?_
      dsimp only [List.set]
      refine x_goto (pc := 36) (tgt := 3) d199_36 (by decide) ?_
      rw [show 24 - 8 * (j : Int) + (-8) = 24 - 8 * ((j + 1 : Nat) : Int) from by omega]
      refine ih (j + 1) _ (by omega) ⟨fun a a1 a9 => by rw [up2_off' _ _ _ a1, up2_off' _ _ _ a9]; exact o a a1 a9, fun i hi => by rw [up2_i hi, up2_p (by decide)]; exact o1 i hi, by rw [up2_s]; omega, fun i => ?_⟩
      rw [up2_p (by decide), up2_q, o3]
      dsimp only
      by_cases ei : i = n + j
      · rw [if_pos ei, if_pos (by omega), show i - n = j from by omega]; rfl
      · rw [if_neg ei]
        by_cases ec : n ≤ i ∧ i < n + j
        · rw [if_pos ec, if_pos (by omega)]
        · rw [if_neg ec, if_neg (by omega)]
theorem rt_four (hl : l.1.stackTraces = false) (hq : 192 ≤ q) {n z : Int} (hz : InR z) (hn : I 181 12 = n) (h0 : 0 ≤ n) (h1 : n + 4 ≤ 500) : CT l 199 [.ref 181, .int (iI z)] (mm q I v fr) 0 0 (oE q v fr none (oT I (n + 4) (txtG (I 189) n z))) := by
  refine mkct2 hl (by decide) (Nat.le_of_ble_eq_true rfl) (L := [some (.ref 181), some (.int (iI z)), none]) rfl ?_
  refine x_bipush (pc := 0) (by decide) d199_0 ?_
  refine x_istore_n (pc := 2) (by decide +kernel) rfl d199_2 ?_
  dsimp only [List.set]
  exact lp_rfour hl hq hz h0 h1 4 0 I (by decide) ⟨fun _ _ _ => rfl, fun _ _ => rfl, by rw [hn]; exact (Int.add_zero n).symm, fun i => by dsimp only; rw [if_neg (by omega)]⟩
theorem txtG_cg {T U : Int → Int} {n z : Int} (h : ∀ i : Int, 0 ≤ i → i < n → T i = U i) : ∀ i : Int, 0 ≤ i → i < n + 4 → txtG T n z i = txtG U n z i := fun i i0 i1 => by
  unfold txtG
  split
  · rfl
  · exact h i i0 (by omega)
theorem oT.t {I J K : Nat → Int → Int} {n m p z : Int} {T : Int → Int} (h : oT I n T J) (h2 : oT J m (txtG (J 189) p z) K) : oT I m (txtG T p z) K := ⟨fun a a1 a9 => by rw [h2.1 a a1 a9]; exact h.1 a a1 a9, fun j hj => by rw [h2.2.1 j hj]; exact h.2.1 j hj, h2.2.2.1, fun i => by rw [h2.2.2.2 i]; unfold txtG; split; rfl; exact h.2.2.2 i⟩
theorem rm200 (hl : l.1.stackTraces = false) (hq : 192 ≤ q) (h : RREL I S) (hS : GOK S) {a : Int} (ha : InR a) {b : Int} (hb : InR b) {c : Int} (hc : InR c) {d : Int} (hd : InR d) {e : Int} (he : InR e) : CT l 200 [.ref 181, .int (iI a), .int (iI b), .int (iI c), .int (iI d), .int (iI e)] (mm q I v fr) 0 0 (RQ q v fr I (oAppend S a b c d e)) := by
  have hA : AINV (gA S) cB := hS.1
  have hr := hA.rg
  have hcB : cB = 2450880 := rfl
  obtain ⟨ha0, ha1⟩ := id ha
  obtain ⟨hb0, hb1⟩ := id hb
  obtain ⟨hc0, hc1⟩ := id hc
  obtain ⟨hd0, hd1⟩ := id hd
  obtain ⟨he0, he1⟩ := id he
  obtain ⟨n, hgn⟩ : ∃ n, n = gL S := ⟨_, rfl⟩
  have hn : I 181 12 = n := by rw [hgn]; exact h.2.2.2.1.1
  have hg := hS.2.2.2.1.1
  refine mkct2 hl (by decide) (Nat.le_of_ble_eq_true rfl) (L := [some (.ref 181), some (.int (iI a)), some (.int (iI b)), some (.int (iI c)), some (.int (iI d)), some (.int (iI e))]) rfl ?_
  refine x_aload_n (pc := 0) rfl d200_0 ?_
  refine x_aload_n (pc := 1) rfl d200_1 ?_
  refine m_getI (pc := 2) (z := 12) f200_56 (by decide +kernel) rfl (xo181 (by omega)) d200_2 ?_
  refine x_val (pc := 5) (w := n) (hn) ?_
  refine x_bipush (pc := 5) (by decide) d200_5 ?_
  refine x_iadd (pc := 7) d200_7 ?_
  refine x_sipush (pc := 8) (by decide) d200_8 ?_
  refine x_icmp_gt (pc := 11) (tgt := 18) ⟨by omega, by omega⟩ ⟨by omega, by omega⟩ d200_11 (by decide) (fun g11 => ?_) (fun g11 => ?_)
  · refine x_iconst (pc := 18) d200_18 ?_
    refine x_cVs (pc := 19) c200_198 (rt_passes hl hq (b := false)) (xo181 (by omega)) rfl rfl (Nat.le_of_ble_eq_true rfl) (by decide +kernel) (by decide +kernel) rfl d200_19 ?_
    obtain ⟨K, hK⟩ : ∃ Z : Nat → Int → Int, Z = (up2 I 181 6 (b01 (!false))) := ⟨_, rfl⟩
    refine x_mem (J := K) (pc := 22) hK ?_
    refine x_ifB_ne (pc := 22) (tgt := 27) d200_22 (by decide) (fun z => absurd z (by decide)) (fun _ => ?_)
    refine x_iconst (pc := 25) d200_25 ?_
    refine x_iret (pc := 26) rfl (fun _ => rfl) d200_26 ?_
    unfold oAppend
    rw [← hgn, if_neg (by omega)]
    exact rq_n (by decide) h (TH.of hK)
  · refine x_iconst (pc := 14) d200_14 ?_
    refine x_goto (pc := 15) (tgt := 19) d200_15 (by decide) ?_
    refine x_cVs (pc := 19) c200_198 (rt_passes hl hq (b := true)) (xo181 (by omega)) rfl rfl (Nat.le_of_ble_eq_true rfl) (by decide +kernel) (by decide +kernel) rfl d200_19 ?_
    obtain ⟨K, hK⟩ : ∃ Z : Nat → Int → Int, Z = (up2 I 181 6 (b01 (!true))) := ⟨_, rfl⟩
    refine x_mem (J := K) (pc := 22) hK ?_
    refine x_ifB_ne (pc := 22) (tgt := 27) d200_22 (by decide) (fun _ => ?_) (fun z => absurd z (by decide))
    have e0 : K 181 12 = n := by rw [hK, up2_i (by decide), hn]
    refine x_aload_n (pc := 27) rfl d200_27 ?_
    refine x_iload_n (pc := 28) rfl d200_28 ?_
    refine x_cVev (pc := 29) c200_202 (rt_four hl hq (n := n) (z := a) ha e0 (by omega) (by omega)) (xo181 (by omega)) rfl rfl (Nat.le_of_ble_eq_true rfl) (by decide +kernel) (by decide +kernel) d200_29 (fun X1 hX1 => ?_)
    have e1 : X1 181 12 = n + 4 := hX1.2.2.1
    refine x_aload_n (pc := 32) rfl d200_32 ?_
    refine x_iload_n (pc := 33) rfl d200_33 ?_
    refine x_cVev (pc := 34) c200_202 (rt_four hl hq (n := n + 4) (z := b) hb e1 (by omega) (by omega)) (xo181 (by omega)) rfl rfl (Nat.le_of_ble_eq_true rfl) (by decide +kernel) (by decide +kernel) d200_34 (fun X2 hX2 => ?_)
    have e2 : X2 181 12 = n + 8 := by rw [hX2.2.2.1]; omega
    refine x_aload_n (pc := 37) rfl d200_37 ?_
    refine x_iload_n (pc := 38) rfl d200_38 ?_
    refine x_cVev (pc := 39) c200_202 (rt_four hl hq (n := n + 8) (z := c) hc e2 (by omega) (by omega)) (xo181 (by omega)) rfl rfl (Nat.le_of_ble_eq_true rfl) (by decide +kernel) (by decide +kernel) d200_39 (fun X3 hX3 => ?_)
    have e3 : X3 181 12 = n + 12 := by rw [hX3.2.2.1]; omega
    refine x_aload_n (pc := 42) rfl d200_42 ?_
    refine x_iload (pc := 43) rfl d200_43 ?_
    refine x_cVev (pc := 45) c200_202 (rt_four hl hq (n := n + 12) (z := d) hd e3 (by omega) (by omega)) (xo181 (by omega)) rfl rfl (Nat.le_of_ble_eq_true rfl) (by decide +kernel) (by decide +kernel) d200_45 (fun X4 hX4 => ?_)
    have e4 : X4 181 12 = n + 16 := by rw [hX4.2.2.1]; omega
    refine x_aload_n (pc := 48) rfl d200_48 ?_
    refine x_iload (pc := 49) rfl d200_49 ?_
    refine x_cVev (pc := 51) c200_202 (rt_four hl hq (n := n + 16) (z := e) he e4 (by omega) (by omega)) (xo181 (by omega)) rfl rfl (Nat.le_of_ble_eq_true rfl) (by decide +kernel) (by decide +kernel) d200_51 (fun X5 hX5 => ?_)
    refine x_aload_n (pc := 54) rfl d200_54 ?_
    refine m_getI (pc := 55) (z := 12) f200_56 (by decide +kernel) rfl (xo181 (by omega)) d200_55 ?_
    refine x_iret (pc := 58) rfl (fun _ => rfl) d200_58 ?_
    have tK : TH I 0 K := TH.of hK
    have t5 := (((hX1.t hX2).t hX3).t hX4).t hX5
    obtain ⟨o, o1, o2, o3⟩ := t5
    have hr := tK.rel h
    unfold oAppend
    rw [← hgn, if_pos (by omega)]
    refine ⟨_, _, rfl, by rw [o1 6 (by decide)]; exact tK.2.2, fun _ => (by show X5 181 12 = n + 20; rw [o2]; omega), ?_, fun a ha => by rw [o a (by omega) (by omega)]; exact tK.1 a (by omega) (by omega)⟩
    refine ⟨by rw [o 182 (by decide) (by decide)]; exact hr.1, ⟨by rw [o1 5 (by decide)]; exact hr.2.1.1, by rw [o 186 (by decide) (by decide)]; exact hr.2.1.2⟩, ⟨by rw [o1 7 (by decide)]; exact hr.2.2.1.1, by rw [o 183 (by decide) (by decide)]; exact hr.2.2.1.2⟩, ⟨by rw [o2]; show n + 16 + 4 = n + 20; omega, fun i i0 i1 => ?_⟩, ⟨by rw [o1 18 (by decide)]; exact hr.2.2.2.2.1.1, by rw [o1 19 (by decide)]; exact hr.2.2.2.2.1.2⟩, ⟨by rw [o1 23 (by decide)]; exact hr.2.2.2.2.2.1, by rw [o 191 (by decide) (by decide)]; exact hr.2.2.2.2.2.2⟩⟩
    have i1 : i < n + 20 := i1
    rw [o3]
    have q0 : ∀ i, 0 ≤ i → i < n → K 189 i = gT S i := fun i i0 i1 => hr.2.2.2.1.2 i i0 (by rw [← hgn]; exact i1)
    have q1 := txtG_cg (z := a) q0
    have q2 := txtG_cg (z := b) q1
    have q3 := txtG_cg (n := n + 8) (z := c) fun i x y => q2 i x (by omega)
    have q4 := txtG_cg (n := n + 12) (z := d) fun i x y => q3 i x (by omega)
    exact txtG_cg (n := n + 16) (z := e) (fun i x y => q4 i x (by omega)) i i0 (by omega)
theorem rm201 (hl : l.1.stackTraces = false) (hq : 192 ≤ q) (h : RREL I S) (hS : GOK S) {z : Int} (hz : InR z) : CT l 201 [.ref 181, .int (iI z)] (mm q I v fr) 0 0 (RQ q v fr I (oTruncate S z)) := by
  have hA : AINV (gA S) cB := hS.1
  have hr := hA.rg
  have hcB : cB = 2450880 := rfl
  obtain ⟨hz0, hz1⟩ := id hz
  have hg := hS.2.2.2.1.1
  refine mkct2 hl (by decide) (Nat.le_of_ble_eq_true rfl) (L := [some (.ref 181), some (.int (iI z))]) rfl ?_
  refine x_aload_n (pc := 0) rfl d201_0 ?_
  refine x_iload_n (pc := 1) rfl d201_1 ?_
  refine x_i2l (pc := 2) ⟨by omega, by omega⟩ d201_2 ?_
  refine x_lconst (pc := 3) (z := 0) (by decide) d201_3 ?_
  refine x_aload_n (pc := 4) rfl d201_4 ?_
  refine m_getI (pc := 5) (z := 12) f201_56 (by decide +kernel) rfl (xo181 (by omega)) d201_5 ?_
  refine x_val (pc := 8) (w := (gL S)) (h.2.2.2.1.1) ?_
  refine x_i2l (pc := 8) ⟨by omega, by omega⟩ d201_8 ?_
  refine x_cSs (pc := 9) c201_72 (rt_in hl (a := z) (b := 0) (c := (gL S)) ⟨by omega, by omega⟩ ⟨by omega, by omega⟩ ⟨by omega, by omega⟩) rfl rfl (Nat.le_of_ble_eq_true rfl) (by decide +kernel) (by decide +kernel) (by decide +kernel) rfl d201_9 ?_
  refine x_cVs (pc := 12) c201_198 (rt_passes hl hq (b := (decide (0 ≤ z ∧ z ≤ (gL S))))) (xo181 (by omega)) rfl rfl (Nat.le_of_ble_eq_true rfl) (by decide +kernel) (by decide +kernel) rfl d201_12 ?_
  obtain ⟨K, hK⟩ : ∃ Z : Nat → Int → Int, Z = (up2 I 181 6 (b01 (!(decide (0 ≤ z ∧ z ≤ (gL S)))))) := ⟨_, rfl⟩
  refine x_mem (J := K) (pc := 15) hK ?_
  have tK := TH.of hK
  have hRK := tK.rv h.1
  refine x_ifB_ne (pc := 15) (tgt := 20) d201_15 (by decide) (fun g15 => ?_) (fun g15 => ?_)
  · have b0 := of_decide_eq_true g15
    refine x_aload_n (pc := 20) rfl d201_20 ?_
    refine x_iload_n (pc := 21) rfl d201_21 ?_
    refine m_putI (pc := 22) (z := 12) f201_56 (by decide +kernel) (by decide +kernel) rfl (xo181 (by omega)) d201_22 ?_
    refine x_iload_n (pc := 25) rfl d201_25 ?_
    refine x_iret (pc := 26) rfl (fun _ => rfl) d201_26 ?_
    unfold oTruncate
    rw [if_pos b0]
    have t : TH I 0 K := by rw [g15] at tK; exact tK
    refine ⟨z, _, rfl, by rw [up2_i (by decide)]; exact t.2.2, fun _ => rfl, ?_, fun a ha => by rw [up2_off' _ _ _ (by omega)]; exact t.1 a (by omega) (by omega)⟩
    have hr := t.rel h
    exact ⟨by rw [up2_off' _ _ _ (by decide)]; exact hr.1, ⟨by rw [up2_i (by decide)]; exact hr.2.1.1, by rw [up2_off' _ _ _ (by decide)]; exact hr.2.1.2⟩, ⟨by rw [up2_i (by decide)]; exact hr.2.2.1.1, by rw [up2_off' _ _ _ (by decide)]; exact hr.2.2.1.2⟩, ⟨up2_s, fun i i0 i1 => by rw [up2_p (by decide)]; exact hr.2.2.2.1.2 i i0 (Int.lt_of_lt_of_le i1 b0.2)⟩, ⟨by rw [up2_i (by decide)]; exact hr.2.2.2.2.1.1, by rw [up2_i (by decide)]; exact hr.2.2.2.2.1.2⟩, ⟨by rw [up2_i (by decide)]; exact hr.2.2.2.2.2.1, by rw [up2_off' _ _ _ (by decide)]; exact hr.2.2.2.2.2.2⟩⟩
  · refine x_iconst (pc := 18) d201_18 ?_
    refine x_iret (pc := 19) rfl (fun _ => rfl) d201_19 ?_
    have b0 := of_decide_eq_false g15
    unfold oTruncate
    rw [if_neg b0]
    exact rq_n (by decide) h (by rw [g15] at tK; exact tK)
end Rsum
