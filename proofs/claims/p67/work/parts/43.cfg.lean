/-! ===== a configuration is read ===== -/
/-- the memory behind a reading of line p -/
def CO (I K : Nat → Int → Int) (p : Nat) (r : Int × Int × AV) : Prop := (∀ a, a ≠ 5 → (a < p ∨ p + 14 < a) → K a = I a) ∧ BX K p ∧ (r.1 = 0 → Vc K p = r.2.2 ∧ CX K p ∧ K 5 4 = 0 ∧ K 5 5 = -1) ∧ (r.1 ≠ 0 → K 5 4 = r.1 ∧ K 5 5 = r.2.1)
theorem vc_cg {I K : Nat → Int → Int} {p : Nat} (hp : 16 ≤ p) (h : ∀ a, a ≠ 5 → K a = I a) : Vc K p = Vc I p := vc_congr fun a h0 _ => h a (by omega)
theorem cx_cg {I K : Nat → Int → Int} {p : Nat} (hp : 16 ≤ p) (h : ∀ a, a ≠ 5 → K a = I a) (g : CX I p) : CX K p := g.cong fun a h0 _ => h a (by omega)
theorem bx_cg {I K : Nat → Int → Int} {p : Nat} (hp : 16 ≤ p) (h : ∀ a, a ≠ 5 → K a = I a) (g : BX I p) : BX K p := by
  unfold BX
  rw [h (p + 12) (by omega), h (p + 13) (by omega)]
  exact g
theorem dgsP_s {T : Int → Int} {n : Int} {m : Nat} {A : AV} {e : Int} : dgsP T n (m + 1) A e = if tK T n e = 0 then (0, 0, A) else if splZ T n (tS T n e) (tK T n e) (tE T n e) 1 = false then (1, tS T n e, A) else if 3 ≤ A 0 4 then (3, tS T n e, A)
    else pbind (dogP T n (tE T n e)) A fun d => pbind (semP T n d.2.2.2) A fun e2 => dgsP T n m (dogA A d.1 d.2.1 d.2.2.1) e2 := rfl
section Cfg
variable {l : LX} {q p : Nat} {I : Nat → Int → Int} {v : Int} {fr : Bool} {T : Int → Int} {n : Int}
theorem lp_dogs (hl : l.1.stackTraces = false) (hq : 181 ≤ q) (hp : LineAt q p) {c : Int} : ∀ (m i : Nat) (A : AV) (e : Int) (J : Nat → Int → Int), i + m = 4 → A 0 4 = i → AINV A c → TXT J T n → J 5 3 = e → 0 ≤ e → e ≤ n → J 5 4 = 0 → J 5 5 = -1 → Vc J p = A → CX J p →
    Ex l 37 0 0 2 [some (.ref p), some (.ref 5), some (.int (iI i))] [] (mm q J v fr) (oE q v fr (some (.int (iI (b01 (decide ((dgsP T n m A e).1 = 0)))))) (fun K => CO J K p (dgsP T n m A e))) := by
  have hpb := hp.b
  intro m
  induction m with
  | zero =>
    intro i A e J hi h4 hA
    have := hA.dg
    omega
  | succ m ih =>
    intro i A e J hi h4 hA hX he he0 he1 j54 j55 hV hC
    obtain ⟨hn0, hn1⟩ := hX.2.2.1
    have hr := tok_r (T := T) he1
    have hdg := hA.dg
    refine x_iload_n (pc := 2) rfl d37_2 ?_
    refine x_iconst (pc := 3) d37_3 ?_
    refine x_icmp_gt (pc := 4) (tgt := 94) ⟨by omega, by omega⟩ ⟨by omega, by omega⟩ d37_4 (by decide) (fun g4 => ?_) (fun g4 => ?_)
    · refine x_iconst (pc := 94) d37_94 ?_
      refine x_zret (pc := 95) rfl (Or.inl rfl) (fun _ => rfl) d37_95 ?_
      exfalso; omega
    · refine x_aload_n (pc := 7) rfl d37_7 ?_
      refine x_cVev (pc := 8) c37_92 (ct_nextX hl hq hX he he0 he1) (ko5 (by omega)) rfl rfl (Nat.le_of_ble_eq_true rfl) (by decide +kernel) (by decide +kernel) d37_8 (fun J1 hJ1 => ?_)
      obtain ⟨j1, j2, j3, j4⟩ := hJ1
      have hX1 := hX.tk j1
      have hV1 : Vc J1 p = A := by rw [vc_cg (by omega) j1.1]; exact hV
      have hC1 := cx_cg (p := p) (by omega) j1.1 hC
      have hdc : J1 (p + 3) 0 = A 0 4 := by rw [← hV1, vr4]
      refine x_aload_n (pc := 11) rfl d37_11 ?_
      refine m_getI (pc := 12) (z := 1) f37_124 (by decide +kernel) rfl (ko5 (by omega)) d37_12 ?_
      refine x_val (pc := 15) (w := (tK T n e)) (j2) ?_
      refine x_if_ne (pc := 15) (tgt := 20) ⟨by omega, by omega⟩ d37_15 (by decide) (fun g15 => ?_) (fun g15 => ?_)
      · refine x_aload_n (pc := 20) rfl d37_20 ?_
        refine x_ldcS (pc := 21) k37_127 d37_21 ?_
        refine x_cVs (pc := 23) c37_104 (dt_spells hl hq hX1 (i := 1) (by decide) j2 j3 j4 (by omega) (by omega) (by omega) (by omega)) (ko5 (by omega)) rfl rfl (Nat.le_of_ble_eq_true rfl) (by decide +kernel) (by decide +kernel) rfl d37_23 ?_
        refine x_ifB_ne (pc := 26) (tgt := 35) d37_26 (by decide) (fun g26 => ?_) (fun g26 => ?_)
        · refine x_aload_n (pc := 35) rfl d37_35 ?_
          refine m_getR (pc := 36) f37_21 (by decide +kernel) hp.o0 hp.r0_10 d37_36 ?_
          refine m_getI (pc := 39) (z := 0) f37_64 (by decide +kernel) rfl hp.o3 d37_39 ?_
          refine x_val (pc := 42) (w := (A 0 4)) (hdc) ?_
          refine x_iconst (pc := 42) d37_42 ?_
          refine x_icmp_lt (pc := 43) (tgt := 52) ⟨by omega, by omega⟩ ⟨by omega, by omega⟩ d37_43 (by decide) (fun g43 => ?_) (fun g43 => ?_)
          · refine x_aload_n (pc := 52) rfl d37_52 ?_
            refine x_cVes (pc := 53) c37_129 (ct_dog hl hq hX1 (e := tE T n e) j4 (by omega) (by omega)) (ko5 (by omega)) rfl rfl (Nat.le_of_ble_eq_true rfl) (by decide +kernel) (by decide +kernel) d37_53 (fun J2 hJ2 => ?_)
            refine x_ifB_eq (pc := 56) (tgt := 66) d37_56 (by decide) (fun g56 => ?_) (fun g56 => ?_)
            · refine x_iconst (pc := 66) d37_66 ?_
              refine x_zret (pc := 67) rfl (Or.inl rfl) (fun _ => rfl) d37_67 ?_
              have c1 := of_decide_eq_false g56
              obtain ⟨d0, d1, d2⟩ := hJ2
              have hj2 : ∀ a, a ≠ 5 → J2 a = J a := fun a ha => by rw [d0 a ha, j1.1 a ha]
              have e1 : dgsP T n (m + 1) A e = ((dogP T n (tE T n e)).1, (dogP T n (tE T n e)).2.1, A) := by rw [dgsP_s, if_neg g15, if_neg (by rw [g26]; decide), if_neg (by omega), pbind_no c1]
              rw [e1, decide_eq_false c1]
              exact ⟨_, rfl, fun a h5 _ => hj2 a h5, bx_cg (by omega) hj2 hC.1, fun z => absurd z c1, fun _ => d2 c1⟩
            · have c1 := of_decide_eq_true g56
              have hdr := dogP_r (T := T) (e := tE T n e) (by omega) (by omega) c1
              obtain ⟨d0, d1, d2⟩ := hJ2
              obtain ⟨k3, k4, k5, k6, k7, k8⟩ := d1 c1
              have hX2 : TXT J2 T n := hX1.of (d0 2 (by decide)) (d0 1 (by decide))
              have k0 : 0 ≤ (dogP T n (tE T n e)).2.2.2.2.2 := by omega
              have k1 : (dogP T n (tE T n e)).2.2.2.2.2 ≤ n := by omega
              refine x_aload_n (pc := 59) rfl d37_59 ?_
              refine x_cVes (pc := 60) c37_116 (ct_semi hl hq hX2 (e := (dogP T n (tE T n e)).2.2.2.2.2) k3 k0 k1) (ko5 (by omega)) rfl rfl (Nat.le_of_ble_eq_true rfl) (by decide +kernel) (by decide +kernel) d37_60 (fun J3 hJ3 => ?_)
              refine x_ifB_ne (pc := 63) (tgt := 68) d37_63 (by decide) (fun g63 => ?_) (fun g63 => ?_)
              · have c2 := of_decide_eq_true g63
                have hj3 : ∀ a, a ≠ 5 → J3 a = J a := fun a ha => by rw [hJ3.1 a ha, d0 a ha, j1.1 a ha]
                have hV3 : Vc J3 p = A := by rw [vc_cg (by omega) hj3]; exact hV
                have hd3 : J3 (p + 3) 0 = A 0 4 := by rw [← hV3, vr4]
                refine x_aload_n (pc := 68) rfl d37_68 ?_
                refine m_getR (pc := 69) f37_21 (by decide +kernel) hp.o0 hp.r0_10 d37_69 ?_
                refine x_aload_n (pc := 72) rfl d37_72 ?_
                refine m_getI (pc := 73) (z := 6) f37_131 (by decide +kernel) rfl (ko5 (by omega)) d37_73 ?_
                refine x_val (pc := 76) (w := ((dogP T n (tE T n e)).2.2.1)) (by rw [hJ3.2.1 6 (by decide), k6]) ?_
                refine x_aload_n (pc := 76) rfl d37_76 ?_
                refine m_getI (pc := 77) (z := 7) f37_134 (by decide +kernel) rfl (ko5 (by omega)) d37_77 ?_
                refine x_val (pc := 80) (w := ((dogP T n (tE T n e)).2.2.2.1)) (by rw [hJ3.2.1 7 (by decide), k7]) ?_
                refine x_aload_n (pc := 80) rfl d37_80 ?_
                refine m_getI (pc := 81) (z := 8) f37_137 (by decide +kernel) rfl (ko5 (by omega)) d37_81 ?_
                refine x_val (pc := 84) (w := ((dogP T n (tE T n e)).2.2.2.2.1)) (by rw [hJ3.2.1 8 (by decide), k8]) ?_
                refine x_cVs (pc := 84) c37_140 (dt_dogAdd hl hp (by omega) (by omega)) hp.o3 rfl rfl (Nat.le_of_ble_eq_true rfl) (by decide +kernel) (by decide +kernel) rfl d37_84 ?_
                refine x_pop (pc := 87) rfl d37_87 ?_
                refine x_iinc (pc := 88) rfl (by decide +kernel) rfl d37_88 ?_
                dsimp only [List.set]
                refine x_goto (pc := 91) (tgt := 2) d37_91 (by decide) ?_
                have e1 : dgsP T n (m + 1) A e = dgsP T n m (dogA A (dogP T n (tE T n e)).2.2.1 (dogP T n (tE T n e)).2.2.2.1 (dogP T n (tE T n e)).2.2.2.2.1) (semP T n (dogP T n (tE T n e)).2.2.2.2.2).2.2 := by rw [dgsP_s, if_neg g15, if_neg (by rw [g26]; decide), if_neg (by omega), pbind_ok c1, pbind_ok c2]
                have hsr := (semP_r (T := T) k0 k1).1 c2
                obtain ⟨s3, s4, s5⟩ := hJ3.2.2.1 c2
                have hC3 := cx_cg (p := p) (by omega) hj3 hC
                rw [e1]
                refine ex_mono (ih (i + 1) _ _ _ (by omega) (by rw [(dogA_e (i := 0)).2.2.2]; omega) (hA.dg1 (by omega) hdr.1 hdr.2.1 hdr.2.2.1) (hX.of ?_ ?_) ?_ hsr.1 hsr.2 ?_ ?_ ?_ ((((hC3.up (by omega) (by omega) (by omega)).up (by omega) (by omega) (by omega)).up (by omega) (by omega) (by omega)).up (by omega) (by omega) (by omega))) ?_
                · rw [up2_off' _ _ _ (by omega), up2_off' _ _ _ (by omega), up2_off' _ _ _ (by omega), up2_off' _ _ _ (by omega)]; exact hj3 2 (by decide)
                · rw [up2_off' _ _ _ (by omega), up2_off' _ _ _ (by omega), up2_off' _ _ _ (by omega), up2_off' _ _ _ (by omega)]; exact hj3 1 (by decide)
                · rw [up2_p (by omega), up2_p (by omega), up2_p (by omega), up2_p (by omega)]; exact s3
                · rw [up2_p (by omega), up2_p (by omega), up2_p (by omega), up2_p (by omega), s4, k4, j1.2 4 (by decide) (by decide) (by decide)]; exact j54
                · rw [up2_p (by omega), up2_p (by omega), up2_p (by omega), up2_p (by omega), s5, k5, j1.2 5 (by decide) (by decide) (by decide)]; exact j55
                · rw [vc_dog (by omega), hV3]
                · rintro o ⟨K, ho, h0, h1, h2, h3⟩
                  refine ⟨K, ho, fun a h5 hpp => ?_, h1, h2, h3⟩
                  rw [h0 a h5 hpp, up2_off' _ _ _ (by omega), up2_off' _ _ _ (by omega), up2_off' _ _ _ (by omega), up2_off' _ _ _ (by omega)]; exact hj3 a h5
              · refine x_iconst (pc := 66) d37_66 ?_
                refine x_zret (pc := 67) rfl (Or.inl rfl) (fun _ => rfl) d37_67 ?_
                have c2 := of_decide_eq_false g63
                have hj3 : ∀ a, a ≠ 5 → J3 a = J a := fun a ha => by rw [hJ3.1 a ha, d0 a ha, j1.1 a ha]
                have e1 : dgsP T n (m + 1) A e = ((semP T n (dogP T n (tE T n e)).2.2.2.2.2).1, (semP T n (dogP T n (tE T n e)).2.2.2.2.2).2.1, A) := by rw [dgsP_s, if_neg g15, if_neg (by rw [g26]; decide), if_neg (by omega), pbind_ok c1, pbind_no c2]
                rw [e1, decide_eq_false c2]
                exact ⟨_, rfl, fun a h5 _ => hj3 a h5, bx_cg (by omega) hj3 hC.1, fun z => absurd z c2, fun _ => hJ3.2.2.2 c2⟩
          · refine x_aload_n (pc := 46) rfl d37_46 ?_
            refine x_iconst (pc := 47) d37_47 ?_
            refine x_cVs (pc := 48) c37_108 (dt_fail hl hq (s := (tS T n e)) (j3)) (ko5 (by omega)) rfl rfl (Nat.le_of_ble_eq_true rfl) (by decide +kernel) (by decide +kernel) rfl d37_48 ?_
            refine x_zret (pc := 51) rfl (Or.inl rfl) (fun _ => rfl) d37_51 ?_
            have e1 : dgsP T n (m + 1) A e = (3, tS T n e, A) := by rw [dgsP_s, if_neg g15, if_neg (by rw [g26]; decide), if_pos (by omega)]
            rw [e1]
            refine ⟨_, rfl, fun a h5 _ => by rw [up2_off' _ _ _ h5, up2_off' _ _ _ h5]; exact j1.1 a h5, bx_cg (by omega) (fun a h5 => by rw [up2_off' _ _ _ h5, up2_off' _ _ _ h5]; exact j1.1 a h5) hC.1, fun z => absurd (show (3 : Int) = 0 from z) (by decide), fun _ => ⟨by rw [up2_i (by decide), up2_s], up2_s⟩⟩
        · refine x_aload_n (pc := 29) rfl d37_29 ?_
          refine x_iconst (pc := 30) d37_30 ?_
          refine x_cVs (pc := 31) c37_108 (dt_fail hl hq (s := (tS T n e)) (j3)) (ko5 (by omega)) rfl rfl (Nat.le_of_ble_eq_true rfl) (by decide +kernel) (by decide +kernel) rfl d37_31 ?_
          refine x_zret (pc := 34) rfl (Or.inl rfl) (fun _ => rfl) d37_34 ?_
          have e1 : dgsP T n (m + 1) A e = (1, tS T n e, A) := by rw [dgsP_s, if_neg g15, if_pos g26]
          rw [e1]
          refine ⟨_, rfl, fun a h5 _ => by rw [up2_off' _ _ _ h5, up2_off' _ _ _ h5]; exact j1.1 a h5, bx_cg (by omega) (fun a h5 => by rw [up2_off' _ _ _ h5, up2_off' _ _ _ h5]; exact j1.1 a h5) hC.1, fun z => absurd (show (1 : Int) = 0 from z) (by decide), fun _ => ⟨by rw [up2_i (by decide), up2_s], up2_s⟩⟩
      · refine x_iconst (pc := 18) d37_18 ?_
        refine x_zret (pc := 19) rfl (Or.inr rfl) (fun _ => rfl) d37_19 ?_
        have e1 : dgsP T n (m + 1) A e = (0, 0, A) := by rw [dgsP_s, if_pos g15]
        rw [e1]
        exact ⟨_, rfl, fun a h5 _ => j1.1 a h5, bx_cg (by omega) j1.1 hC.1, fun _ => ⟨hV1, hC1, by rw [j1.2 4 (by decide) (by decide) (by decide)]; exact j54, by rw [j1.2 5 (by decide) (by decide) (by decide)]; exact j55⟩, fun z => absurd rfl z⟩
/-- readDogs -/
theorem ct_rdogs (hl : l.1.stackTraces = false) (hq : 181 ≤ q) (hp : LineAt q p) {A : AV} {e c : Int} (h4 : A 0 4 = 0) (hA : AINV A c) (hX : TXT I T n) (he : I 5 3 = e) (he0 : 0 ≤ e) (he1 : e ≤ n) (j4 : I 5 4 = 0) (j5 : I 5 5 = -1) (hV : Vc I p = A) (hC : CX I p) : CT l 37 [.ref p, .ref 5] (mm q I v fr) 0 0 (oE q v fr (some (.int (iI (b01 (decide ((dgsP T n 4 A e).1 = 0)))))) (fun K => CO I K p (dgsP T n 4 A e))) := by
  refine mkct2 hl (by decide) (Nat.le_of_ble_eq_true rfl) (L := [some (.ref p), some (.ref 5), none]) rfl ?_
  refine x_iconst (pc := 0) d37_0 ?_
  refine x_istore_n (pc := 1) (by decide +kernel) rfl d37_1 ?_
  dsimp only [List.set]
  exact lp_dogs hl hq hp 4 0 A e I rfl h4 hA hX he he0 he1 j4 j5 hV hC
/-- readModem: what it leaves -/
def MO (I K : Nat → Int → Int) (p : Nat) (r : Int × Int × AV × Int) : Prop := (∀ a, a ≠ 5 → (a < p ∨ p + 14 < a) → K a = I a) ∧ BX K p ∧ (r.1 = 0 → Vc K p = r.2.2.1 ∧ CX K p ∧ K 5 3 = r.2.2.2 ∧ K 5 4 = I 5 4 ∧ K 5 5 = I 5 5) ∧ (r.1 ≠ 0 → K 5 4 = r.1 ∧ K 5 5 = r.2.1)
def mdmP (T : Int → Int) (n : Int) : Int × Int × AV × Int :=
  if splZ T n (tS T n 0) (tK T n 0) (tE T n 0) 0 = false then (1, tS T n 0, fun _ _ => 0, 0) else
  pbind (numP T n 1 9 (tE T n 0)) (fun _ _ => 0, 0) fun b => pbind (numP T n 1 199 b.2) (fun _ _ => 0, 0) fun d => pbind (numP T n 1 99 d.2) (fun _ _ => 0, 0) fun a => pbind (numP T n 1 9 a.2) (fun _ _ => 0, 0) fun i => pbind (semP T n i.2) (fun _ _ => 0, 0) fun e => (0, 0, cfgA b.1 (d.1 - 100) a.1 i.1, e)
theorem ct_modem (hl : l.1.stackTraces = false) (hq : 181 ≤ q) (hp : LineAt q p) (hX : TXT I T n) (hB : BX I p) (j2 : I 5 1 = tK T n 0) (j3 : I 5 2 = tS T n 0) (j4 : I 5 3 = tE T n 0) : CT l 36 [.ref p, .ref 5] (mm q I v fr) 0 0 (oE q v fr (some (.int (iI (b01 (decide ((mdmP T n).1 = 0)))))) (fun K => MO I K p (mdmP T n))) := by
  have hpb := hp.b
  obtain ⟨hn0, hn1⟩ := hX.2.2.1
  have hr := tok_r (T := T) hn0
  refine mkct2 hl (by decide) (Nat.le_of_ble_eq_true rfl) (L := [some (.ref p), some (.ref 5), none, none, none, none]) rfl ?_
  refine x_aload_n (pc := 0) rfl d36_0 ?_
  refine x_ldcS (pc := 1) k36_102 d36_1 ?_
  refine x_cVs (pc := 3) c36_104 (dt_spells hl hq hX (i := 0) (by decide) j2 j3 j4 (by omega) (by omega) (by omega) (by omega)) (ko5 (by omega)) rfl rfl (Nat.le_of_ble_eq_true rfl) (by decide +kernel) (by decide +kernel) rfl d36_3 ?_
  refine x_ifB_ne (pc := 6) (tgt := 15) d36_6 (by decide) (fun g6 => ?_) (fun g6 => ?_)
  · refine x_aload_n (pc := 15) rfl d36_15 ?_
    refine x_iconst (pc := 16) d36_16 ?_
    refine x_bipush (pc := 17) (by decide) d36_17 ?_
    refine x_cVes (pc := 19) c36_112 (ct_num hl hq hX (lo := 1) (hi := 9) (e := (tE T n 0)) (by omega) (by omega) j4 (by omega) (by omega)) (ko5 (by omega)) rfl rfl (Nat.le_of_ble_eq_true rfl) (by decide +kernel) (by decide +kernel) d36_19 (fun J1 hJ1 => ?_)
    obtain ⟨z1, hz1⟩ : ∃ z : Int, z = (if (numP T n 1 9 (tE T n 0)).1 = 0 then (numP T n 1 9 (tE T n 0)).2.2.1 else -1) := ⟨_, rfl⟩
    rw [← hz1]
    have wz1 := num_z (by omega) (by omega) hz1
    refine x_istore_n (pc := 22) (by decide +kernel) rfl d36_22 ?_
    dsimp only [List.set]
    refine x_iload_n (pc := 23) rfl d36_23 ?_
    refine x_iconst (pc := 24) d36_24 ?_
    refine x_icmp_ne (pc := 25) (tgt := 30) ⟨by omega, by omega⟩ ⟨by omega, by omega⟩ d36_25 (by decide) (fun g25 => ?_) (fun g25 => ?_)
    · have k1 := (hJ1.2.2.1 (by omega)).1
      refine x_aload_n (pc := 30) rfl d36_30 ?_
      refine x_iconst (pc := 31) d36_31 ?_
      refine x_sipush (pc := 32) (by decide) d36_32 ?_
      refine x_cVes (pc := 35) c36_112 (ct_num hl hq (hX.po hJ1) (lo := 1) (hi := 199) (e := (numP T n 1 9 (tE T n 0)).2.2.2) (by omega) (by omega) k1 (by omega) (by omega)) (ko5 (by omega)) rfl rfl (Nat.le_of_ble_eq_true rfl) (by decide +kernel) (by decide +kernel) d36_35 (fun J2 hJ2 => ?_)
      obtain ⟨z2, hz2⟩ : ∃ z : Int, z = (if (numP T n 1 199 ((numP T n 1 9 (tE T n 0)).2.2.2)).1 = 0 then (numP T n 1 199 ((numP T n 1 9 (tE T n 0)).2.2.2)).2.2.1 else -1) := ⟨_, rfl⟩
      rw [← hz2]
      have wz2 := num_z (by omega) (by omega) hz2
      refine x_istore_n (pc := 38) (by decide +kernel) rfl d36_38 ?_
      dsimp only [List.set]
      refine x_iload_n (pc := 39) rfl d36_39 ?_
      refine x_iconst (pc := 40) d36_40 ?_
      refine x_icmp_ne (pc := 41) (tgt := 46) ⟨by omega, by omega⟩ ⟨by omega, by omega⟩ d36_41 (by decide) (fun g41 => ?_) (fun g41 => ?_)
      · have k2 := (hJ2.2.2.1 (by omega)).1
        refine x_aload_n (pc := 46) rfl d36_46 ?_
        refine x_iconst (pc := 47) d36_47 ?_
        refine x_bipush (pc := 48) (by decide) d36_48 ?_
        refine x_cVes (pc := 50) c36_112 (ct_num hl hq ((hX.po hJ1).po hJ2) (lo := 1) (hi := 99) (e := (numP T n 1 199 (numP T n 1 9 (tE T n 0)).2.2.2).2.2.2) (by omega) (by omega) k2 (by omega) (by omega)) (ko5 (by omega)) rfl rfl (Nat.le_of_ble_eq_true rfl) (by decide +kernel) (by decide +kernel) d36_50 (fun J3 hJ3 => ?_)
        obtain ⟨z3, hz3⟩ : ∃ z : Int, z = (if (numP T n 1 99 ((numP T n 1 199 (numP T n 1 9 (tE T n 0)).2.2.2).2.2.2)).1 = 0 then (numP T n 1 99 ((numP T n 1 199 (numP T n 1 9 (tE T n 0)).2.2.2).2.2.2)).2.2.1 else -1) := ⟨_, rfl⟩
        rw [← hz3]
        have wz3 := num_z (by omega) (by omega) hz3
        refine x_istore (pc := 53) (by decide +kernel) rfl d36_53 ?_
        dsimp only [List.set]
        refine x_iload (pc := 55) rfl d36_55 ?_
        refine x_iconst (pc := 57) d36_57 ?_
        refine x_icmp_ne (pc := 58) (tgt := 63) ⟨by omega, by omega⟩ ⟨by omega, by omega⟩ d36_58 (by decide) (fun g58 => ?_) (fun g58 => ?_)
        · have k3 := (hJ3.2.2.1 (by omega)).1
          refine x_aload_n (pc := 63) rfl d36_63 ?_
          refine x_iconst (pc := 64) d36_64 ?_
          refine x_bipush (pc := 65) (by decide) d36_65 ?_
          refine x_cVes (pc := 67) c36_112 (ct_num hl hq (((hX.po hJ1).po hJ2).po hJ3) (lo := 1) (hi := 9) (e := (numP T n 1 99 (numP T n 1 199 (numP T n 1 9 (tE T n 0)).2.2.2).2.2.2).2.2.2) (by omega) (by omega) k3 (by omega) (by omega)) (ko5 (by omega)) rfl rfl (Nat.le_of_ble_eq_true rfl) (by decide +kernel) (by decide +kernel) d36_67 (fun J4 hJ4 => ?_)
          obtain ⟨z4, hz4⟩ : ∃ z : Int, z = (if (numP T n 1 9 ((numP T n 1 99 (numP T n 1 199 (numP T n 1 9 (tE T n 0)).2.2.2).2.2.2).2.2.2)).1 = 0 then (numP T n 1 9 ((numP T n 1 99 (numP T n 1 199 (numP T n 1 9 (tE T n 0)).2.2.2).2.2.2).2.2.2)).2.2.1 else -1) := ⟨_, rfl⟩
          rw [← hz4]
          have wz4 := num_z (by omega) (by omega) hz4
          refine x_istore (pc := 70) (by decide +kernel) rfl d36_70 ?_
          dsimp only [List.set]
          refine x_iload (pc := 72) rfl d36_72 ?_
          refine x_iconst (pc := 74) d36_74 ?_
          refine x_icmp_eq (pc := 75) (tgt := 85) ⟨by omega, by omega⟩ ⟨by omega, by omega⟩ d36_75 (by decide) (fun g75 => ?_) (fun g75 => ?_)
          · refine x_iconst (pc := 85) d36_85 ?_
            refine x_zret (pc := 86) rfl (Or.inl rfl) (fun _ => rfl) d36_86 ?_
            have c1 : (numP T n 1 9 (tE T n 0)).1 = 0 := by omega
            have c2 : (numP T n 1 199 (numP T n 1 9 (tE T n 0)).2.2.2).1 = 0 := by omega
            have c3 : (numP T n 1 99 (numP T n 1 199 (numP T n 1 9 (tE T n 0)).2.2.2).2.2.2).1 = 0 := by omega
            have c4 : (numP T n 1 9 (numP T n 1 99 (numP T n 1 199 (numP T n 1 9 (tE T n 0)).2.2.2).2.2.2).2.2.2).1 ≠ 0 := by omega
            have e1 : mdmP T n = ((numP T n 1 9 (numP T n 1 99 (numP T n 1 199 (numP T n 1 9 (tE T n 0)).2.2.2).2.2.2).2.2.2).1, (numP T n 1 9 (numP T n 1 99 (numP T n 1 199 (numP T n 1 9 (tE T n 0)).2.2.2).2.2.2).2.2.2).2.1, fun _ _ => 0, 0) := by unfold mdmP; rw [if_neg (by rw [g6]; decide), pbind_ok c1, pbind_ok c2, pbind_ok c3, pbind_no c4]
            have hj : ∀ a, a ≠ 5 → J4 a = I a := fun a ha => by rw [hJ4.1 a ha, hJ3.1 a ha, hJ2.1 a ha, hJ1.1 a ha]
            rw [e1, decide_eq_false c4]
            exact ⟨_, rfl, fun a h5 _ => hj a h5, bx_cg (by omega) hj hB, fun z => absurd z c4, fun _ => hJ4.2.2.2 c4⟩
          · have k4 := (hJ4.2.2.1 (by omega)).1
            refine x_aload_n (pc := 78) rfl d36_78 ?_
            refine x_cVes (pc := 79) c36_116 (ct_semi hl hq ((((hX.po hJ1).po hJ2).po hJ3).po hJ4) (e := (numP T n 1 9 (numP T n 1 99 (numP T n 1 199 (numP T n 1 9 (tE T n 0)).2.2.2).2.2.2).2.2.2).2.2.2) k4 (by omega) (by omega)) (ko5 (by omega)) rfl rfl (Nat.le_of_ble_eq_true rfl) (by decide +kernel) (by decide +kernel) d36_79 (fun J5 hJ5 => ?_)
            refine x_ifB_ne (pc := 82) (tgt := 87) d36_82 (by decide) (fun g82 => ?_) (fun g82 => ?_)
            · refine x_aload_n (pc := 87) rfl d36_87 ?_
              refine x_iload_n (pc := 88) rfl d36_88 ?_
              refine x_iload_n (pc := 89) rfl d36_89 ?_
              refine x_bipush (pc := 90) (by decide) d36_90 ?_
              refine x_isub (pc := 92) d36_92 ?_
              refine x_iload (pc := 93) rfl d36_93 ?_
              refine x_iload (pc := 95) rfl d36_95 ?_
              have hj5 : ∀ a, a ≠ 5 → J5 a = I a := fun a ha => by rw [hJ5.1 a ha, hJ4.1 a ha, hJ3.1 a ha, hJ2.1 a ha, hJ1.1 a ha]
              have hB5 := bx_cg (p := p) (by omega) hj5 hB
              refine x_cVev (pc := 97) c36_120 (ct_config hl hp hB5) hp.o0 rfl rfl (Nat.le_of_ble_eq_true rfl) (by decide +kernel) (by decide +kernel) d36_97 (fun J6 hJ6 => ?_)
              refine x_iconst (pc := 100) d36_100 ?_
              refine x_zret (pc := 101) rfl (Or.inr rfl) (fun _ => rfl) d36_101 ?_
              have c1 : (numP T n 1 9 (tE T n 0)).1 = 0 := by omega
              have e1z : (numP T n 1 9 (tE T n 0)).2.2.1 = z1 := by omega
              have c2 : (numP T n 1 199 (numP T n 1 9 (tE T n 0)).2.2.2).1 = 0 := by omega
              have e2z : (numP T n 1 199 (numP T n 1 9 (tE T n 0)).2.2.2).2.2.1 = z2 := by omega
              have c3 : (numP T n 1 99 (numP T n 1 199 (numP T n 1 9 (tE T n 0)).2.2.2).2.2.2).1 = 0 := by omega
              have e3z : (numP T n 1 99 (numP T n 1 199 (numP T n 1 9 (tE T n 0)).2.2.2).2.2.2).2.2.1 = z3 := by omega
              have c4 : (numP T n 1 9 (numP T n 1 99 (numP T n 1 199 (numP T n 1 9 (tE T n 0)).2.2.2).2.2.2).2.2.2).1 = 0 := by omega
              have e4z : (numP T n 1 9 (numP T n 1 99 (numP T n 1 199 (numP T n 1 9 (tE T n 0)).2.2.2).2.2.2).2.2.2).2.2.1 = z4 := by omega
              have c5 := of_decide_eq_true g82
              have e1 : mdmP T n = (0, 0, cfgA z1 (z2 - 100) z3 z4, (semP T n (numP T n 1 9 (numP T n 1 99 (numP T n 1 199 (numP T n 1 9 (tE T n 0)).2.2.2).2.2.2).2.2.2).2.2.2).2.2) := by unfold mdmP; rw [if_neg (by rw [g6]; decide), pbind_ok c1, pbind_ok c2, pbind_ok c3, pbind_ok c4, pbind_ok c5, e1z, e2z, e3z, e4z]
              obtain ⟨m0, m1, m2⟩ := hJ6
              have q1 := hJ1.2.2.1 c1; have q2 := hJ2.2.2.1 c2; have q3 := hJ3.2.2.1 c3; have q4 := hJ4.2.2.1 c4; have q5 := hJ5.2.2.1 c5
              rw [e1]
              refine ⟨_, rfl, fun a h5 hpp => by rw [m0 a hpp]; exact hj5 a h5, m2.1, fun _ => ⟨m1, m2, ?_, ?_, ?_⟩, fun z => absurd rfl z⟩
              · rw [m0 5 (by omega)]; exact q5.1
              · rw [m0 5 (by omega), q5.2.1, q4.2.1, q3.2.1, q2.2.1, q1.2.1]
              · rw [m0 5 (by omega), q5.2.2, q4.2.2, q3.2.2, q2.2.2, q1.2.2]
            · refine x_iconst (pc := 85) d36_85 ?_
              refine x_zret (pc := 86) rfl (Or.inl rfl) (fun _ => rfl) d36_86 ?_
              have c1 : (numP T n 1 9 (tE T n 0)).1 = 0 := by omega
              have c2 : (numP T n 1 199 (numP T n 1 9 (tE T n 0)).2.2.2).1 = 0 := by omega
              have c3 : (numP T n 1 99 (numP T n 1 199 (numP T n 1 9 (tE T n 0)).2.2.2).2.2.2).1 = 0 := by omega
              have c4 : (numP T n 1 9 (numP T n 1 99 (numP T n 1 199 (numP T n 1 9 (tE T n 0)).2.2.2).2.2.2).2.2.2).1 = 0 := by omega
              have c5 := of_decide_eq_false g82
              have e1 : mdmP T n = ((semP T n (numP T n 1 9 (numP T n 1 99 (numP T n 1 199 (numP T n 1 9 (tE T n 0)).2.2.2).2.2.2).2.2.2).2.2.2).1, (semP T n (numP T n 1 9 (numP T n 1 99 (numP T n 1 199 (numP T n 1 9 (tE T n 0)).2.2.2).2.2.2).2.2.2).2.2.2).2.1, fun _ _ => 0, 0) := by unfold mdmP; rw [if_neg (by rw [g6]; decide), pbind_ok c1, pbind_ok c2, pbind_ok c3, pbind_ok c4, pbind_no c5]
              have hj : ∀ a, a ≠ 5 → J5 a = I a := fun a ha => by rw [hJ5.1 a ha, hJ4.1 a ha, hJ3.1 a ha, hJ2.1 a ha, hJ1.1 a ha]
              rw [e1, decide_eq_false c5]
              exact ⟨_, rfl, fun a h5 _ => hj a h5, bx_cg (by omega) hj hB, fun z => absurd z c5, fun _ => hJ5.2.2.2 c5⟩
        · refine x_iconst (pc := 61) d36_61 ?_
          refine x_zret (pc := 62) rfl (Or.inl rfl) (fun _ => rfl) d36_62 ?_
          have c1 : (numP T n 1 9 (tE T n 0)).1 = 0 := by omega
          have c2 : (numP T n 1 199 (numP T n 1 9 (tE T n 0)).2.2.2).1 = 0 := by omega
          have c3 : (numP T n 1 99 (numP T n 1 199 (numP T n 1 9 (tE T n 0)).2.2.2).2.2.2).1 ≠ 0 := by omega
          have e1 : mdmP T n = ((numP T n 1 99 (numP T n 1 199 (numP T n 1 9 (tE T n 0)).2.2.2).2.2.2).1, (numP T n 1 99 (numP T n 1 199 (numP T n 1 9 (tE T n 0)).2.2.2).2.2.2).2.1, fun _ _ => 0, 0) := by unfold mdmP; rw [if_neg (by rw [g6]; decide), pbind_ok c1, pbind_ok c2, pbind_no c3]
          have hj : ∀ a, a ≠ 5 → J3 a = I a := fun a ha => by rw [hJ3.1 a ha, hJ2.1 a ha, hJ1.1 a ha]
          rw [e1, decide_eq_false c3]
          exact ⟨_, rfl, fun a h5 _ => hj a h5, bx_cg (by omega) hj hB, fun z => absurd z c3, fun _ => hJ3.2.2.2 c3⟩
      · refine x_iconst (pc := 44) d36_44 ?_
        refine x_zret (pc := 45) rfl (Or.inl rfl) (fun _ => rfl) d36_45 ?_
        have c1 : (numP T n 1 9 (tE T n 0)).1 = 0 := by omega
        have c2 : (numP T n 1 199 (numP T n 1 9 (tE T n 0)).2.2.2).1 ≠ 0 := by omega
        have e1 : mdmP T n = ((numP T n 1 199 (numP T n 1 9 (tE T n 0)).2.2.2).1, (numP T n 1 199 (numP T n 1 9 (tE T n 0)).2.2.2).2.1, fun _ _ => 0, 0) := by unfold mdmP; rw [if_neg (by rw [g6]; decide), pbind_ok c1, pbind_no c2]
        have hj : ∀ a, a ≠ 5 → J2 a = I a := fun a ha => by rw [hJ2.1 a ha, hJ1.1 a ha]
        rw [e1, decide_eq_false c2]
        exact ⟨_, rfl, fun a h5 _ => hj a h5, bx_cg (by omega) hj hB, fun z => absurd z c2, fun _ => hJ2.2.2.2 c2⟩
    · refine x_iconst (pc := 28) d36_28 ?_
      refine x_zret (pc := 29) rfl (Or.inl rfl) (fun _ => rfl) d36_29 ?_
      have c1 : (numP T n 1 9 (tE T n 0)).1 ≠ 0 := by omega
      have e1 : mdmP T n = ((numP T n 1 9 (tE T n 0)).1, (numP T n 1 9 (tE T n 0)).2.1, fun _ _ => 0, 0) := by unfold mdmP; rw [if_neg (by rw [g6]; decide), pbind_no c1]
      have hj : ∀ a, a ≠ 5 → J1 a = I a := fun a ha => by rw [hJ1.1 a ha]
      rw [e1, decide_eq_false c1]
      exact ⟨_, rfl, fun a h5 _ => hj a h5, bx_cg (by omega) hj hB, fun z => absurd z c1, fun _ => hJ1.2.2.2 c1⟩
  · refine x_aload_n (pc := 9) rfl d36_9 ?_
    refine x_iconst (pc := 10) d36_10 ?_
    refine x_cVs (pc := 11) c36_108 (dt_fail hl hq (s := (tS T n 0)) (j3)) (ko5 (by omega)) rfl rfl (Nat.le_of_ble_eq_true rfl) (by decide +kernel) (by decide +kernel) rfl d36_11 ?_
    refine x_zret (pc := 14) rfl (Or.inl rfl) (fun _ => rfl) d36_14 ?_
    have e1 : mdmP T n = (1, tS T n 0, fun _ _ => 0, 0) := if_pos g6
    rw [e1]
    exact ⟨_, rfl, fun a h5 _ => by rw [up2_off' _ _ _ h5, up2_off' _ _ _ h5], bx_cg (by omega) (fun a h5 => by rw [up2_off' _ _ _ h5, up2_off' _ _ _ h5]) hB, fun z => absurd (show (1 : Int) = 0 from z) (by decide), fun _ => ⟨by rw [up2_i (by decide), up2_s], up2_s⟩⟩
end Cfg
