/-! ===== numbers, semicolons, dogs; a configuration ===== -/
section Conf
variable {l : LX} {q p : Nat} {I : Nat → Int → Int} {v : Int} {fr : Bool} {T : Int → Int} {n : Int}
theorem ct_nextX (hl : l.1.stackTraces = false) (hq : 181 ≤ q) (hX : TXT I T n) {e : Int} (he : I 5 3 = e) (he0 : 0 ≤ e) (he1 : e ≤ n) : CT l 69 [.ref 5] (mm q I v fr) 0 0 (oE q v fr none (fun K => TKI I K ∧ K 5 1 = tK T n e ∧ K 5 2 = tS T n e ∧ K 5 3 = tE T n e)) := ct_next hl hq hX.2.2.2 hX.2.2.1.1 hX.2.2.1.2 hX.1 hX.2.1 he he0 he1
theorem TXT.tk {I K : Nat → Int → Int} {T : Int → Int} {n : Int} (h : TXT I T n) (hk : TKI I K) : TXT K T n := h.of (hk.1 2 (by decide)) (hk.1 1 (by decide))
theorem TXT.po {I K : Nat → Int → Int} {T : Int → Int} {n c a e : Int} (h : TXT I T n) (hk : PO I K c a e) : TXT K T n := h.of (hk.1 2 (by decide)) (hk.1 1 (by decide))
theorem po_fail {I K : Nat → Int → Int} {c s e : Int} (hk : TKI I K) (hc : c ≠ 0) : PO I (up2 (up2 K 5 4 c) 5 5 s) c s e :=
  ⟨fun a ha => by rw [up2_off' _ _ _ ha, up2_off' _ _ _ ha]; exact hk.1 a ha, fun j hj => by rw [up2_i (by omega), up2_i (by omega)]; exact hk.2 j (by omega) (by omega) (by omega), fun z => absurd z hc, fun _ => ⟨by rw [up2_i (by decide), up2_s], up2_s⟩⟩
theorem po_ok {I K : Nat → Int → Int} {s e : Int} (hk : TKI I K) (he : K 5 3 = e) : PO I K 0 s e := ⟨hk.1, fun j hj => hk.2 j (by omega) (by omega) (by omega), fun _ => ⟨he, hk.2 4 (by decide) (by decide) (by decide), hk.2 5 (by decide) (by decide) (by decide)⟩, fun z => absurd rfl z⟩
theorem lp_num (hl : l.1.stackTraces = false) (hq : 181 ≤ q) {J : Nat → Int → Int} (hXJ : TXT J T n) {lo hi s e : Int} (hlo : 0 ≤ lo ∧ lo ≤ 1000) (hhi : 0 ≤ hi ∧ hi ≤ 1000) (he : J 5 3 = e) (hs2 : J 5 2 = s) (hs0 : 0 ≤ s) (hs1 : s ≤ e) (he1 : e ≤ n) (hd : ∀ i : Int, s ≤ i → i < e → 48 ≤ T i ∧ T i ≤ 57) (hdv : 0 ≤ dvN T s (e - s).toNat ∧ dvN T s (e - s).toNat ≤ 999) : ∀ (m j : Nat), s + (j : Int) + m = e →
    Ex l 72 0 0 41 [some (.ref 5), some (.int (iI lo)), some (.int (iI hi)), some (.int (iI (dvN T s j))), some (.int (iI (s + j)))] [] (mm q J v fr) (oE q v fr (some (.int (iI (if dvN T s (e - s).toNat < lo ∨ hi < dvN T s (e - s).toNat then -1 else dvN T s (e - s).toNat)))) (fun K => K = if dvN T s (e - s).toNat < lo ∨ hi < dvN T s (e - s).toNat then up2 (up2 J 5 4 2) 5 5 s else J)) := by
  obtain ⟨hn0, hn1⟩ := hXJ.2.2.1
  have hTb := hXJ.2.2.2
  intro m
  induction m with
  | zero =>
    intro j hj
    rw [show (e - s).toNat = j from by omega] at hdv ⊢
    refine x_iload (pc := 41) rfl d72_41 ?_
    refine x_aload_n (pc := 43) rfl d72_43 ?_
    refine m_getI (pc := 44) (z := 3) f72_25 (by decide +kernel) rfl (ko5 (by omega)) d72_44 ?_
    refine x_val (pc := 47) (w := e) (he) ?_
    refine x_icmp_ge (pc := 47) (tgt := 74) ⟨by omega, by omega⟩ ⟨by omega, by omega⟩ d72_47 (by decide) (fun g47 => ?_) (fun g47 => ?_)
    · refine x_iload_n (pc := 74) rfl d72_74 ?_
      refine x_iload_n (pc := 75) rfl d72_75 ?_
      refine x_icmp_lt (pc := 76) (tgt := 84) ⟨by omega, by omega⟩ ⟨by omega, by omega⟩ d72_76 (by decide) (fun g76 => ?_) (fun g76 => ?_)
      · refine x_aload_n (pc := 84) rfl d72_84 ?_
        refine x_iconst (pc := 85) d72_85 ?_
        refine x_cVs (pc := 86) c72_55 (dt_fail hl hq (s := s) (hs2)) (ko5 (by omega)) rfl rfl (Nat.le_of_ble_eq_true rfl) (by decide +kernel) (by decide +kernel) rfl d72_86 ?_
        refine x_pop (pc := 89) rfl d72_89 ?_
        refine x_iconst (pc := 90) d72_90 ?_
        refine x_iret (pc := 91) rfl (fun _ => rfl) d72_91 ?_
        rw [if_pos (by omega), if_pos (by omega)]; exact ⟨_, rfl, rfl⟩
      · refine x_iload_n (pc := 79) rfl d72_79 ?_
        refine x_iload_n (pc := 80) rfl d72_80 ?_
        refine x_icmp_le (pc := 81) (tgt := 92) ⟨by omega, by omega⟩ ⟨by omega, by omega⟩ d72_81 (by decide) (fun g81 => ?_) (fun g81 => ?_)
        · refine x_iload_n (pc := 92) rfl d72_92 ?_
          refine x_iret (pc := 93) rfl (fun _ => rfl) d72_93 ?_
          rw [if_neg (by omega), if_neg (by omega)]; exact ⟨_, rfl, rfl⟩
        · refine x_aload_n (pc := 84) rfl d72_84 ?_
          refine x_iconst (pc := 85) d72_85 ?_
          refine x_cVs (pc := 86) c72_55 (dt_fail hl hq (s := s) (hs2)) (ko5 (by omega)) rfl rfl (Nat.le_of_ble_eq_true rfl) (by decide +kernel) (by decide +kernel) rfl d72_86 ?_
          refine x_pop (pc := 89) rfl d72_89 ?_
          refine x_iconst (pc := 90) d72_90 ?_
          refine x_iret (pc := 91) rfl (fun _ => rfl) d72_91 ?_
          rw [if_pos (by omega), if_pos (by omega)]; exact ⟨_, rfl, rfl⟩
    · exfalso; omega
  | succ m ih =>
    intro j hj
    have ea : atT T n (s + j) = T (s + j) := if_pos ⟨by omega, by omega⟩
    refine x_iload (pc := 41) rfl d72_41 ?_
    refine x_aload_n (pc := 43) rfl d72_43 ?_
    refine m_getI (pc := 44) (z := 3) f72_25 (by decide +kernel) rfl (ko5 (by omega)) d72_44 ?_
    refine x_val (pc := 47) (w := e) (he) ?_
    refine x_icmp_ge (pc := 47) (tgt := 74) ⟨by omega, by omega⟩ ⟨by omega, by omega⟩ d72_47 (by decide) (fun g47 => ?_) (fun g47 => ?_)
    · refine x_mask [true, true, true, true, false] ?_
      dsimp only [mask]
      exfalso; omega
    · refine x_iload_n (pc := 50) rfl d72_50 ?_
      refine x_bipush (pc := 51) (by decide) d72_51 ?_
      refine x_imul (pc := 53) d72_53 ?_
      refine x_aload_n (pc := 54) rfl d72_54 ?_
      refine m_getR (pc := 55) f72_15 (by decide +kernel) (ko5 (by omega)) rr5_0 d72_55 ?_
      refine x_iload (pc := 58) rfl d72_58 ?_
      refine x_cVs (pc := 60) c72_36 (dt_atT hl hq (T := T) (n := n) (i := (s + j)) hXJ.1 hXJ.2.1 hn0 hn1 ⟨by omega, by omega⟩) (ko1 (by omega)) rfl rfl (Nat.le_of_ble_eq_true rfl) (by decide +kernel) (by decide +kernel) rfl d72_60 ?_
      have hat := atT_r hTb (s + j)
      refine x_iadd (pc := 63) d72_63 ?_
      refine x_bipush (pc := 64) (by decide) d72_64 ?_
      refine x_isub (pc := 66) d72_66 ?_
      refine x_istore_n (pc := 67) (by decide +kernel) rfl d72_67 ?_
      dsimp only [List.set]
      refine x_iinc (pc := 68) rfl (by decide +kernel) rfl d72_68 ?_
      dsimp only [List.set]
      refine x_goto (pc := 71) (tgt := 41) d72_71 (by decide) ?_
      rw [ea, show s + (j : Int) + 1 = s + ((j + 1 : Nat) : Int) from by omega]
      exact ih (j + 1) (by omega)
theorem ct_num (hl : l.1.stackTraces = false) (hq : 181 ≤ q) (hX : TXT I T n) {lo hi e : Int} (hlo : 0 ≤ lo ∧ lo ≤ 1000) (hhi : 0 ≤ hi ∧ hi ≤ 1000) (he : I 5 3 = e) (he0 : 0 ≤ e) (he1 : e ≤ n) : CT l 72 [.ref 5, .int (iI lo), .int (iI hi)] (mm q I v fr) 0 0 (oE q v fr (some (.int (iI (if (numP T n lo hi e).1 = 0 then (numP T n lo hi e).2.2.1 else -1)))) (fun K => PO I K (numP T n lo hi e).1 (numP T n lo hi e).2.1 (numP T n lo hi e).2.2.2)) := by
  have hr := tok_r (T := T) he1
  obtain ⟨hn0, hn1⟩ := hX.2.2.1
  refine mkct2 hl (by decide) (Nat.le_of_ble_eq_true rfl) (L := [some (.ref 5), some (.int (iI lo)), some (.int (iI hi)), none, none]) rfl ?_
  refine x_aload_n (pc := 0) rfl d72_0 ?_
  refine x_cVev (pc := 1) c72_52 (ct_nextX hl hq hX he he0 he1) (ko5 (by omega)) rfl rfl (Nat.le_of_ble_eq_true rfl) (by decide +kernel) (by decide +kernel) d72_1 (fun J hJ => ?_)
  obtain ⟨j1, j2, j3, j4⟩ := hJ
  have hXJ := hX.tk j1
  refine x_aload_n (pc := 4) rfl d72_4 ?_
  refine m_getI (pc := 5) (z := 1) f72_19 (by decide +kernel) rfl (ko5 (by omega)) d72_5 ?_
  refine x_val (pc := 8) (w := (tK T n e)) (j2) ?_
  refine x_iconst (pc := 8) d72_8 ?_
  refine x_icmp_ne (pc := 9) (tgt := 25) ⟨by omega, by omega⟩ ⟨by omega, by omega⟩ d72_9 (by decide) (fun g9 => ?_) (fun g9 => ?_)
  · refine x_aload_n (pc := 25) rfl d72_25 ?_
    refine x_iconst (pc := 26) d72_26 ?_
    refine x_cVs (pc := 27) c72_55 (dt_fail hl hq (s := (tS T n e)) (j3)) (ko5 (by omega)) rfl rfl (Nat.le_of_ble_eq_true rfl) (by decide +kernel) (by decide +kernel) rfl d72_27 ?_
    refine x_pop (pc := 30) rfl d72_30 ?_
    refine x_iconst (pc := 31) d72_31 ?_
    refine x_iret (pc := 32) rfl (fun _ => rfl) d72_32 ?_
    have e1 : numP T n lo hi e = (1, tS T n e, 0, 0) := if_pos (by omega)
    rw [e1]
    exact ⟨_, rfl, po_fail j1 (by decide)⟩
  · refine x_aload_n (pc := 12) rfl d72_12 ?_
    refine m_getI (pc := 13) (z := 3) f72_25 (by decide +kernel) rfl (ko5 (by omega)) d72_13 ?_
    refine x_val (pc := 16) (w := (tE T n e)) (j4) ?_
    refine x_aload_n (pc := 16) rfl d72_16 ?_
    refine m_getI (pc := 17) (z := 2) f72_22 (by decide +kernel) rfl (ko5 (by omega)) d72_17 ?_
    refine x_val (pc := 20) (w := (tS T n e)) (j3) ?_
    refine x_isub (pc := 20) d72_20 ?_
    refine x_iconst (pc := 21) d72_21 ?_
    refine x_icmp_le (pc := 22) (tgt := 33) ⟨by omega, by omega⟩ ⟨by omega, by omega⟩ d72_22 (by decide) (fun g22 => ?_) (fun g22 => ?_)
    · refine x_iconst (pc := 33) d72_33 ?_
      refine x_istore_n (pc := 34) (by decide +kernel) rfl d72_34 ?_
      dsimp only [List.set]
      refine x_aload_n (pc := 35) rfl d72_35 ?_
      refine m_getI (pc := 36) (z := 2) f72_22 (by decide +kernel) rfl (ko5 (by omega)) d72_36 ?_
      refine x_val (pc := 39) (w := (tS T n e)) (j3) ?_
      refine x_istore (pc := 39) (by decide +kernel) rfl d72_39 ?_
      dsimp only [List.set]
      have hdv := num_dv (T := T) he0 he1 (by omega) (by omega)
      have g0 := lp_num hl hq (v := v) (fr := fr) hXJ hlo hhi j4 j3 (by omega) (by omega) (by omega) (fun i i0 i1 => kdZ_2 (by rw [← g9]; exact tok_k he1 he0 (Or.inr (by omega)) i0 i1)) hdv (tE T n e - tS T n e).toNat 0 (by omega)
      rw [show tS T n e + ((0 : Nat) : Int) = tS T n e from Int.add_zero _] at g0
      refine ex_mono g0 ?_
      rintro o ⟨K, ho, hK⟩
      by_cases c2 : dvN T (tS T n e) (tE T n e - tS T n e).toNat < lo ∨ hi < dvN T (tS T n e) (tE T n e - tS T n e).toNat
      · have e1 : numP T n lo hi e = (2, tS T n e, 0, 0) := by unfold numP; rw [if_neg (by omega), if_pos c2]
        rw [e1]
        rw [if_pos c2] at ho hK
        exact ⟨K, ho, by rw [hK]; exact po_fail j1 (by decide)⟩
      · have e1 : numP T n lo hi e = (0, 0, dvN T (tS T n e) (tE T n e - tS T n e).toNat, tE T n e) := by unfold numP; rw [if_neg (by omega), if_neg c2]
        rw [e1]
        rw [if_neg c2] at ho hK
        exact ⟨K, ho, by rw [hK]; exact po_ok j1 j4⟩
    · refine x_aload_n (pc := 25) rfl d72_25 ?_
      refine x_iconst (pc := 26) d72_26 ?_
      refine x_cVs (pc := 27) c72_55 (dt_fail hl hq (s := (tS T n e)) (j3)) (ko5 (by omega)) rfl rfl (Nat.le_of_ble_eq_true rfl) (by decide +kernel) (by decide +kernel) rfl d72_27 ?_
      refine x_pop (pc := 30) rfl d72_30 ?_
      refine x_iconst (pc := 31) d72_31 ?_
      refine x_iret (pc := 32) rfl (fun _ => rfl) d72_32 ?_
      have e1 : numP T n lo hi e = (1, tS T n e, 0, 0) := if_pos (by omega)
      rw [e1]
      exact ⟨_, rfl, po_fail j1 (by decide)⟩
theorem ct_semi (hl : l.1.stackTraces = false) (hq : 181 ≤ q) (hX : TXT I T n) {e : Int} (he : I 5 3 = e) (he0 : 0 ≤ e) (he1 : e ≤ n) : CT l 73 [.ref 5] (mm q I v fr) 0 0 (oE q v fr (some (.int (iI (b01 (decide ((semP T n e).1 = 0)))))) (fun K => PO I K (semP T n e).1 (semP T n e).2.1 (semP T n e).2.2)) := by
  have hr := tok_r (T := T) he1
  obtain ⟨hn0, hn1⟩ := hX.2.2.1
  refine mkct2 hl (by decide) (Nat.le_of_ble_eq_true rfl) (L := [some (.ref 5)]) rfl ?_
  refine x_aload_n (pc := 0) rfl d73_0 ?_
  refine x_cVev (pc := 1) c73_52 (ct_nextX hl hq hX he he0 he1) (ko5 (by omega)) rfl rfl (Nat.le_of_ble_eq_true rfl) (by decide +kernel) (by decide +kernel) d73_1 (fun J hJ => ?_)
  obtain ⟨j1, j2, j3, j4⟩ := hJ
  refine x_aload_n (pc := 4) rfl d73_4 ?_
  refine m_getI (pc := 5) (z := 1) f73_19 (by decide +kernel) rfl (ko5 (by omega)) d73_5 ?_
  refine x_val (pc := 8) (w := (tK T n e)) (j2) ?_
  refine x_iconst (pc := 8) d73_8 ?_
  refine x_icmp_eq (pc := 9) (tgt := 20) ⟨by omega, by omega⟩ ⟨by omega, by omega⟩ d73_9 (by decide) (fun g9 => ?_) (fun g9 => ?_)
  · refine x_iconst (pc := 20) d73_20 ?_
    refine x_goto (pc := 21) (tgt := 25) d73_21 (by decide) ?_
    refine x_zret (pc := 25) rfl (Or.inr rfl) (fun _ => rfl) d73_25 ?_
    have e1 : semP T n e = (0, 0, tE T n e) := if_pos g9
    rw [e1]
    exact ⟨_, rfl, po_ok j1 j4⟩
  · refine x_aload_n (pc := 12) rfl d73_12 ?_
    refine x_iconst (pc := 13) d73_13 ?_
    refine x_cVs (pc := 14) c73_55 (dt_fail hl hq (s := (tS T n e)) (j3)) (ko5 (by omega)) rfl rfl (Nat.le_of_ble_eq_true rfl) (by decide +kernel) (by decide +kernel) rfl d73_14 ?_
    refine x_if_eq (pc := 17) (tgt := 24) ⟨by omega, by omega⟩ d73_17 (by decide) (fun _ => ?_) (fun z => absurd z (by decide))
    refine x_iconst (pc := 24) d73_24 ?_
    refine x_zret (pc := 25) rfl (Or.inl rfl) (fun _ => rfl) d73_25 ?_
    have e1 : semP T n e = (1, tS T n e, 0) := if_neg g9
    rw [e1]
    exact ⟨_, rfl, po_fail j1 (by decide)⟩
end Conf
