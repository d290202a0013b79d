/-! ===== the reference: commands are read ===== -/
theorem argP_c (T : Int → Int) (n kd e : Int) : 0 ≤ (argP T n kd e).1 ∧ (argP T n kd e).1 ≤ 3 := by
  unfold argP
  by_cases c0 : kd = 0
  · rw [if_pos c0]
    split
    · exact ⟨(by decide : (0 : Int) ≤ 1), (by decide : (1 : Int) ≤ 3)⟩
    · split
      · exact ⟨(by decide : (0 : Int) ≤ 3), (by decide : (3 : Int) ≤ 3)⟩
      · exact ⟨(by decide : (0 : Int) ≤ 0), (by decide : (0 : Int) ≤ 3)⟩
  rw [if_neg c0]
  by_cases c6 : kd = 6
  · rw [if_pos c6]
    unfold dogP
    exact cmin T n (numP_c _ _ _ _ _) fun _ => cmin T n (numP_c _ _ _ _ _) fun _ => cmin T n (numP_c _ _ _ _ _) fun _ => ⟨(by decide : (0 : Int) ≤ 0), (by decide : (0 : Int) ≤ 3)⟩
  · rw [if_neg c6]
    exact cmin T n (numP_c _ _ _ _ _) fun _ => ⟨(by decide : (0 : Int) ≤ 0), (by decide : (0 : Int) ≤ 3)⟩
theorem TLD.cg {J K : Nat → Int → Int} {T : Int → Int} {t kd a b c : Int} (h : TLD J T t kd a b c) (hb : kd = 0 → b ≤ 16) (hh : ∀ i : Int, t ≤ i → i < t + 17 → K 190 i = J 190 i) : TLD K T t kd a b c := by
  obtain ⟨h0, h6, h5, h1⟩ := h
  refine ⟨fun z => ⟨?_, fun k k0 k1 => ?_⟩, fun z => ⟨?_, ?_, ?_⟩, fun z => ?_, fun z0 z5 z6 => ?_⟩
  · rw [hh _ (by omega) (by omega)]; exact (h0 z).1
  · have := hb z
    rw [hh _ (by omega) (by omega)]; exact (h0 z).2 k k0 k1
  · rw [hh _ (by omega) (by omega)]; exact (h6 z).1
  · rw [hh _ (by omega) (by omega)]; exact (h6 z).2.1
  · rw [hh _ (by omega) (by omega)]; exact (h6 z).2.2
  · rw [hh _ (by omega) (by omega)]; exact h5 z
  · rw [hh _ (by omega) (by omega)]; exact h1 z0 z5 z6
section Rone
variable {l : LX} {q : Nat} {I : Nat → Int → Int} {v : Int} {fr : Bool} {T : Int → Int} {n : Int}
/-- the frame of reading commands -/
def PC (I K : Nat → Int → Int) (t : Int) : Prop := (∀ a, a ≠ 181 → a ≠ 190 → K a = I a) ∧ (∀ j : Int, j < 13 ∨ 17 < j → j ≠ 21 → K 181 j = I 181 j) ∧ ∀ i : Int, i < t → K 190 i = I 190 i
theorem PTT.c {I K : Nat → Int → Int} {t : Int} (h : PTT I K t) : PC I K t := ⟨h.1, fun j hj _ => h.2.1 j hj, h.2.2⟩
theorem PC.trans {I J K : Nat → Int → Int} {t : Int} (h : PC I J t) (h2 : PC J K t) : PC I K t := ⟨fun a a1 a2 => by rw [h2.1 a a1 a2]; exact h.1 a a1 a2, fun j hj hk => by rw [h2.2.1 j hj hk]; exact h.2.1 j hj hk, fun i hi => by rw [h2.2.2 i hi]; exact h.2.2 i hi⟩
theorem PC.le {I K : Nat → Int → Int} {t u : Int} (h : PC I K t) (hu : u ≤ t) : PC I K u := ⟨h.1, h.2.1, fun i hi => h.2.2 i (by omega)⟩
theorem RTX.c {I K : Nat → Int → Int} {t : Int} (h : RTX I T n) (p : PC I K t) : RTX K T n := ⟨by rw [p.2.1 12 (by decide) (by decide)]; exact h.1, fun i i0 i1 => by rw [p.1 189 (by decide) (by decide)]; exact h.2.1 i i0 i1, h.2.2⟩
/-- behind a command: r is what oneP reads -/
def OQ (I K : Nat → Int → Int) (T : Int → Int) (cnt : Int) (r : Int × Int × Int × Int × Int × Int × Int) : Prop := PC I K (18 * cnt) ∧ (r.1 = 0 → K 181 16 = 0 ∧ K 181 17 = I 181 17 ∧ K 181 13 = r.2.2.2.2.2.2 ∧ K 181 21 = cnt + 1 ∧ K 190 (18 * cnt) = r.2.2.1 ∧ TLD K T (18 * cnt + 1) r.2.2.1 r.2.2.2.1 r.2.2.2.2.1 r.2.2.2.2.2.1) ∧ (r.1 ≠ 0 → K 181 16 = r.1 ∧ K 181 17 = r.2.1)
theorem OQ.ef {I K : Nat → Int → Int} {cnt : Int} {r : Int × Int × Int × Int × Int × Int × Int} (p : PC I K (18 * cnt)) (h : EF K r.1 r.2.1) : OQ I K T cnt r := ⟨p, fun z => absurd z h.1, fun _ => h.2⟩
theorem lp_one47 (hl : l.1.stackTraces = false) (hq : 192 ≤ q) (hX : RTX I T n) {e cnt nm : Int} (e0 : 0 ≤ e) (e1 : e ≤ n) (h16 : I 181 16 = 0) (h14 : I 181 14 = tS T n e) (h15 : I 181 15 = wlZ T n (tS T n e)) (hk : tK T n e = 1) (hnm : 0 ≤ nm ∧ nm ≤ 7) (hc : I 181 21 = cnt) (c0 : 0 ≤ cnt) (c1 : cnt < 30) (hn : nameZ T n (tS T n e) (tK T n e) (tE T n e) = nm) : Ex l 222 0 0 47 [some (.ref 181), some (.int (iI nm))] [] (mm q I v fr) (oE q v fr none (fun K => OQ I K T cnt (oneP T n cnt e))) := by
  have hx := hX.2.2
  have hr := tok_r (T := T) e1
  have wl := wl_1 e0 e1 hk
  have eo : oneP T n cnt e = pbind (argP T n nm (tE T n e)) (0, 0, 0, 0, 0) fun x => pbind (semP T n x.2.2.2) (0, 0, 0, 0, 0) fun e2 => (0, 0, nm, x.1, x.2.1, x.2.2.1, e2) := by unfold oneP; rw [hn, if_neg (by omega), if_neg (by omega)]
  rw [eo]
  refine x_aload_n (pc := 47) rfl d222_47 ?_
  refine x_cVv (pc := 48) c222_247 (rt_past hl hq (s := tS T n e) (w := wlZ T n (tS T n e)) (h14) (h15)) (xo181 (by omega)) rfl rfl (Nat.le_of_ble_eq_true rfl) (by decide +kernel) (by decide +kernel) rfl d222_48 ?_
  refine x_aload_n (pc := 51) rfl d222_51 ?_
  refine m_getR (pc := 52) f222_38 (by decide +kernel) (xo181 (by omega)) rr181_20 d222_52 ?_
  refine x_bipush (pc := 55) (by decide) d222_55 ?_
  refine x_aload_n (pc := 57) rfl d222_57 ?_
  refine m_getW (pc := 58) (z := 21) (w := (I 181 21)) f222_307 (by decide +kernel) rfl (xo181 (by omega)) (by rw [up2_i (by decide)]) d222_58 ?_
  refine x_val (pc := 61) (w := cnt) (hc) ?_
  refine x_imul (pc := 61) d222_61 ?_
  refine x_iload_n (pc := 62) rfl d222_62 ?_
  refine m_iast (pc := 63) (xa190 (by omega)) (by omega) (by omega) (by omega) d222_63 ?_
  obtain ⟨M, hM⟩ : ∃ Z : Nat → Int → Int, Z = (up2 (up2 I 181 13 (tS T n e + wlZ T n (tS T n e))) 190 (18 * cnt) nm) := ⟨_, rfl⟩
  refine x_mem (J := M) (pc := 64) hM ?_
  have mo : ∀ a, a ≠ 181 → a ≠ 190 → M a = I a := fun a a1 a2 => by rw [hM, up2_off' _ _ _ a2, up2_off' _ _ _ a1]
  have mj : ∀ j : Int, j ≠ 13 → M 181 j = I 181 j := fun j hj => by rw [hM, up2_p (by decide), up2_i hj]
  have m13 : M 181 13 = tE T n e := by rw [hM, up2_p (by decide), up2_s, wl]; omega
  have m16 : M 181 16 = 0 := by rw [mj 16 (by decide)]; exact h16
  have hXM : RTX M T n := ⟨by rw [mj 12 (by decide)]; exact hX.1, fun i i0 i1 => by rw [mo 189 (by decide) (by decide)]; exact hX.2.1 i i0 i1, hX.2.2⟩
  refine x_aload_n (pc := 64) rfl d222_64 ?_
  refine x_iload_n (pc := 65) rfl d222_65 ?_
  refine x_bipush (pc := 66) (by decide) d222_66 ?_
  refine x_aload_n (pc := 68) rfl d222_68 ?_
  refine m_getI (pc := 69) (z := 21) f222_307 (by decide +kernel) rfl (xo181 (by omega)) d222_69 ?_
  refine x_val (pc := 72) (w := cnt) (by rw [mj 21 (by decide)]; exact hc) ?_
  refine x_imul (pc := 72) d222_72 ?_
  refine x_iconst (pc := 73) d222_73 ?_
  refine x_iadd (pc := 74) d222_74 ?_
  refine x_cVev (pc := 75) c222_310 (rt_parts hl hq hXM (e := tE T n e) (t := (18 * cnt + 1)) (kd := nm) m16 m13 (by omega) (by omega) (by omega) (by omega) hnm) (xo181 (by omega)) rfl rfl (Nat.le_of_ble_eq_true rfl) (by decide +kernel) (by decide +kernel) d222_75 (fun J4 hJ4 => ?_)
  refine x_aload_n (pc := 78) rfl d222_78 ?_
  refine x_dup (pc := 79) rfl d222_79 ?_
  refine m_getI (pc := 80) (z := 21) f222_307 (by decide +kernel) rfl (xo181 (by omega)) d222_80 ?_
  refine x_val (pc := 83) (w := cnt) (by rw [hJ4.1.2.1 21 (by decide), mj 21 (by decide)]; exact hc) ?_
  refine x_iconst (pc := 83) d222_83 ?_
  refine x_iadd (pc := 84) d222_84 ?_
  refine m_putI (pc := 85) (z := 21) f222_307 (by decide +kernel) (by decide +kernel) rfl (xo181 (by omega)) d222_85 ?_
  refine x_aload_n (pc := 88) rfl d222_88 ?_
  obtain ⟨M5, hM5⟩ : ∃ Z : Nat → Int → Int, Z = (up2 J4 181 21 (cnt + 1)) := ⟨_, rfl⟩
  refine x_mem (J := M5) (pc := 89) hM5 ?_
  have n5 : ∀ j : Int, j ≠ 21 → M5 181 j = J4 181 j := fun j hj => by rw [hM5]; exact up2_i hj
  have o5 : ∀ a, a ≠ 181 → M5 a = J4 a := fun a ha => by rw [hM5]; exact up2_off' _ _ _ ha
  have p5 : PC I M5 (18 * cnt) := ⟨fun a a1 a2 => by rw [o5 a a1, hJ4.1.1 a a1 a2]; exact mo a a1 a2, fun j hj hk => by rw [n5 j hk, hJ4.1.2.1 j hj]; exact mj j (by omega), fun i hi => by rw [o5 190 (by decide), hJ4.1.2.2 i (by omega), hM, up2_i (by omega), up2_p (by decide)]⟩
  have hX5 := hX.c p5
  have rc := argP_c T n nm (tE T n e)
  have hr5 : 0 ≤ M5 181 16 ∧ M5 181 16 ≤ 3 := by
    rw [n5 16 (by decide)]
    by_cases z : (argP T n nm (tE T n e)).1 = 0
    · rw [(hJ4.2.1 z).1]; decide
    · rw [(hJ4.2.2 z).1]; exact rc
  have z5 : M5 181 16 = 0 → (argP T n nm (tE T n e)).1 = 0 := fun y => by
    by_cases z : (argP T n nm (tE T n e)).1 = 0
    · exact z
    · rw [n5 16 (by decide), (hJ4.2.2 z).1] at y; exact y
  have he5 : M5 181 16 = 0 → M5 181 13 = (argP T n nm (tE T n e)).2.2.2.2.2 ∧ 0 ≤ (argP T n nm (tE T n e)).2.2.2.2.2 ∧ (argP T n nm (tE T n e)).2.2.2.2.2 ≤ n := fun y => by
    have ar := argP_r (T := T) (n := n) (nm := nm) (e := tE T n e) (by omega) (by omega) (z5 y)
    exact ⟨by rw [n5 13 (by decide)]; exact (hJ4.2.1 (z5 y)).2.2.1, ar.1, ar.2.1⟩
  refine x_cVev (pc := 89) c222_256 (rt_semi hl hq hX5 (e := (argP T n nm (tE T n e)).2.2.2.2.2) hr5 he5) (xo181 (by omega)) rfl rfl (Nat.le_of_ble_eq_true rfl) (by decide +kernel) (by decide +kernel) d222_89 (fun J6 hJ6 => ?_)
  refine x_vret (pc := 92) rfl (fun _ => rfl) d222_92 ?_
  have p6 : PC I J6 (18 * cnt) := p5.trans (hJ6.1.tt _).c
  refine ⟨J6, rfl, ?_⟩
  by_cases z : (argP T n nm (tE T n e)).1 = 0
  · obtain ⟨k16, k17, k13, kT⟩ := hJ4.2.1 z
    have ar := argP_r (T := T) (n := n) (nm := nm) (e := tE T n e) (by omega) (by omega) z
    have m5 : M5 181 16 = 0 := by rw [n5 16 (by decide)]; exact k16
    rw [pbind_ok z]
    by_cases z2 : (semP T n (argP T n nm (tE T n e)).2.2.2.2.2).1 = 0
    · have o6 := hJ6.ok m5 z2
      rw [pbind_ok z2]
      have e190 : J6 190 = J4 190 := by rw [hJ6.1.1 190 (by decide)]; exact o5 190 (by decide)
      refine ⟨p6, fun _ => ⟨o6.1, by rw [o6.2.1, n5 17 (by decide), k17, mj 17 (by decide)], o6.2.2, by rw [hJ6.1.2 21 (by decide), hM5, up2_s], ?_, ?_⟩, fun y => absurd rfl y⟩
      · rw [e190, hJ4.1.2.2 _ (by omega), hM, up2_s]
      · exact kT.cg (fun y => (ar.2.2.1 y).2.2.1) fun i i0 i1 => by rw [e190]
    · rw [pbind_no z2]
      exact OQ.ef p6 (hJ6.er m5 z2)
  · rw [pbind_no z]
    have g : EF J4 (argP T n nm (tE T n e)).1 (argP T n nm (tE T n e)).2.1 := ⟨z, hJ4.2.2 z⟩
    exact OQ.ef p6 (hJ6.ef (g.of (n5 16 (by decide)) (n5 17 (by decide))))
theorem nam_k {e : Int} (h : nameZ T n (tS T n e) (tK T n e) (tE T n e) ≠ -1) : tK T n e = 1 := by
  by_cases k : tK T n e = 1
  · exact k
  · exfalso
    apply h
    have f : ∀ i, ¬ splZ T n (tS T n e) (tK T n e) (tE T n e) i = true := fun i z => k (spl_k z)
    unfold nameZ
    rw [if_neg (f 0), if_neg (f 1), if_neg (f 2), if_neg (f 3), if_neg (f 4), if_neg (f 5), if_neg (f 6), if_neg (f 7)]
theorem rt_one (hl : l.1.stackTraces = false) (hq : 192 ≤ q) (hX : RTX I T n) {e cnt : Int} (h16 : I 181 16 = 0) (he : I 181 13 = e) (e0 : 0 ≤ e) (e1 : e ≤ n) (hc : I 181 21 = cnt) (c0 : 0 ≤ cnt) (c1 : cnt ≤ 30) : CT l 222 [.ref 181] (mm q I v fr) 0 0 (oE q v fr none (fun K => OQ I K T cnt (oneP T n cnt e))) := by
  have hnr := nameZ_r T n (tS T n e) (tK T n e) (tE T n e)
  obtain ⟨nm, hn⟩ : ∃ nm, nm = nameZ T n (tS T n e) (tK T n e) (tE T n e) := ⟨_, rfl⟩
  rw [← hn] at hnr
  refine mkct2 hl (by decide) (Nat.le_of_ble_eq_true rfl) (L := [some (.ref 181), none]) rfl ?_
  refine x_aload_n (pc := 0) rfl d222_0 ?_
  refine x_cVes (pc := 1) c222_304 (rt_name hl hq hX (e := e) h16 he e0 e1) (xo181 (by omega)) rfl rfl (Nat.le_of_ble_eq_true rfl) (by decide +kernel) (by decide +kernel) d222_1 (fun J1 hJ1 => ?_)
  refine x_val (pc := 4) (w := nm) (hn.symm) ?_
  have k1 : J1 181 16 = 0 := by rw [hJ1.2.2.2.2.1]; exact h16
  refine x_istore_n (pc := 4) (by decide +kernel) rfl d222_4 ?_
  dsimp only [List.set]
  refine x_aload_n (pc := 5) rfl d222_5 ?_
  refine x_iload_n (pc := 6) rfl d222_6 ?_
  refine x_iconst (pc := 7) d222_7 ?_
  refine x_icmp_eq (pc := 8) (tgt := 15) ⟨by omega, by omega⟩ ⟨by omega, by omega⟩ d222_8 (by decide) (fun g8 => ?_) (fun g8 => ?_)
  · refine x_iconst (pc := 15) d222_15 ?_
    refine x_iconst (pc := 16) d222_16 ?_
    refine x_cVev (pc := 17) c222_230 (rt_must hl hq (b := false) (code := 1) (by rw [k1]; decide) (by decide)) (xo181 (by omega)) rfl rfl (Nat.le_of_ble_eq_true rfl) (by decide +kernel) (by decide +kernel) d222_17 (fun J2 hJ2 => ?_)
    have rg2 := hJ2.1.rg (by rw [k1]; decide) (by decide)
    refine x_aload_n (pc := 20) rfl d222_20 ?_
    refine x_aload_n (pc := 21) rfl d222_21 ?_
    refine m_getI (pc := 22) (z := 21) f222_307 (by decide +kernel) rfl (xo181 (by omega)) d222_22 ?_
    refine x_val (pc := 25) (w := cnt) (by rw [hJ2.2 21 (by decide) (by decide), hJ1.1.2 21 (by decide)]; exact hc) ?_
    refine x_bipush (pc := 25) (by decide) d222_25 ?_
    refine x_icmp_ge (pc := 27) (tgt := 34) ⟨by omega, by omega⟩ ⟨by omega, by omega⟩ d222_27 (by decide) (fun g27 => ?_) (fun g27 => ?_)
    · refine x_iconst (pc := 34) d222_34 ?_
      refine x_iconst (pc := 35) d222_35 ?_
      refine x_cVev (pc := 36) c222_230 (rt_must hl hq (b := false) (code := 3) rg2 (by decide)) (xo181 (by omega)) rfl rfl (Nat.le_of_ble_eq_true rfl) (by decide +kernel) (by decide +kernel) d222_36 (fun J3 hJ3 => ?_)
      have rg3 := hJ3.1.rg rg2 (by decide)
      have pt3 : PT I J3 := hJ1.1.trans (hJ2.1.1.trans hJ3.1.1)
      have b2 : J2 181 14 = tS T n e := by rw [hJ2.2 14 (by decide) (by decide)]; exact hJ1.2.2.1
      refine x_aload_n (pc := 39) rfl d222_39 ?_
      refine m_getI (pc := 40) (z := 16) f222_221 (by decide +kernel) rfl (xo181 (by omega)) d222_40 ?_
      refine x_if_eq (pc := 43) (tgt := 47) ⟨by omega, by omega⟩ d222_43 (by decide) (fun g43 => ?_) (fun g43 => ?_)
      · have g : EF J2 1 (J1 181 14) := hJ2.1.er k1 (by decide)
        exact absurd ((hJ3.1.ef g).2.1.symm.trans g43) (by decide)
      · refine x_vret (pc := 46) rfl (fun _ => rfl) d222_46 ?_
        have g : EF J2 1 (J1 181 14) := hJ2.1.er k1 (by decide)
        have g3 := hJ3.1.ef g
        rw [hJ1.2.2.1] at g3
        unfold oneP
        rw [if_pos (by rw [← hn]; exact g8)]
        exact ⟨J3, rfl, OQ.ef (pt3.tt _).c g3⟩
    · refine x_iconst (pc := 30) d222_30 ?_
      refine x_goto (pc := 31) (tgt := 35) d222_31 (by decide) ?_
      refine x_iconst (pc := 35) d222_35 ?_
      refine x_cVev (pc := 36) c222_230 (rt_must hl hq (b := true) (code := 3) rg2 (by decide)) (xo181 (by omega)) rfl rfl (Nat.le_of_ble_eq_true rfl) (by decide +kernel) (by decide +kernel) d222_36 (fun J3 hJ3 => ?_)
      have rg3 := hJ3.1.rg rg2 (by decide)
      have pt3 : PT I J3 := hJ1.1.trans (hJ2.1.1.trans hJ3.1.1)
      have b2 : J2 181 14 = tS T n e := by rw [hJ2.2 14 (by decide) (by decide)]; exact hJ1.2.2.1
      refine x_aload_n (pc := 39) rfl d222_39 ?_
      refine m_getI (pc := 40) (z := 16) f222_221 (by decide +kernel) rfl (xo181 (by omega)) d222_40 ?_
      refine x_if_eq (pc := 43) (tgt := 47) ⟨by omega, by omega⟩ d222_43 (by decide) (fun g43 => ?_) (fun g43 => ?_)
      · have g : EF J2 1 (J1 181 14) := hJ2.1.er k1 (by decide)
        exact absurd ((hJ3.1.ef g).2.1.symm.trans g43) (by decide)
      · refine x_vret (pc := 46) rfl (fun _ => rfl) d222_46 ?_
        have g : EF J2 1 (J1 181 14) := hJ2.1.er k1 (by decide)
        have g3 := hJ3.1.ef g
        rw [hJ1.2.2.1] at g3
        unfold oneP
        rw [if_pos (by rw [← hn]; exact g8)]
        exact ⟨J3, rfl, OQ.ef (pt3.tt _).c g3⟩
  · refine x_iconst (pc := 11) d222_11 ?_
    refine x_goto (pc := 12) (tgt := 16) d222_12 (by decide) ?_
    refine x_iconst (pc := 16) d222_16 ?_
    refine x_cVev (pc := 17) c222_230 (rt_must hl hq (b := true) (code := 1) (by rw [k1]; decide) (by decide)) (xo181 (by omega)) rfl rfl (Nat.le_of_ble_eq_true rfl) (by decide +kernel) (by decide +kernel) d222_17 (fun J2 hJ2 => ?_)
    have rg2 := hJ2.1.rg (by rw [k1]; decide) (by decide)
    refine x_aload_n (pc := 20) rfl d222_20 ?_
    refine x_aload_n (pc := 21) rfl d222_21 ?_
    refine m_getI (pc := 22) (z := 21) f222_307 (by decide +kernel) rfl (xo181 (by omega)) d222_22 ?_
    refine x_val (pc := 25) (w := cnt) (by rw [hJ2.2 21 (by decide) (by decide), hJ1.1.2 21 (by decide)]; exact hc) ?_
    refine x_bipush (pc := 25) (by decide) d222_25 ?_
    refine x_icmp_ge (pc := 27) (tgt := 34) ⟨by omega, by omega⟩ ⟨by omega, by omega⟩ d222_27 (by decide) (fun g27 => ?_) (fun g27 => ?_)
    · refine x_iconst (pc := 34) d222_34 ?_
      refine x_iconst (pc := 35) d222_35 ?_
      refine x_cVev (pc := 36) c222_230 (rt_must hl hq (b := false) (code := 3) rg2 (by decide)) (xo181 (by omega)) rfl rfl (Nat.le_of_ble_eq_true rfl) (by decide +kernel) (by decide +kernel) d222_36 (fun J3 hJ3 => ?_)
      have rg3 := hJ3.1.rg rg2 (by decide)
      have pt3 : PT I J3 := hJ1.1.trans (hJ2.1.1.trans hJ3.1.1)
      have b2 : J2 181 14 = tS T n e := by rw [hJ2.2 14 (by decide) (by decide)]; exact hJ1.2.2.1
      refine x_aload_n (pc := 39) rfl d222_39 ?_
      refine m_getI (pc := 40) (z := 16) f222_221 (by decide +kernel) rfl (xo181 (by omega)) d222_40 ?_
      refine x_if_eq (pc := 43) (tgt := 47) ⟨by omega, by omega⟩ d222_43 (by decide) (fun g43 => ?_) (fun g43 => ?_)
      · have o2 : J2 181 16 = 0 ∧ _ ∧ _ := hJ2.1.ok k1 rfl
        have g : EF J3 3 (J2 181 14) := hJ3.1.er o2.1 (by decide)
        exact absurd (g.2.1.symm.trans g43) (by decide)
      · refine x_vret (pc := 46) rfl (fun _ => rfl) d222_46 ?_
        have o2 : J2 181 16 = 0 ∧ _ ∧ _ := hJ2.1.ok k1 rfl
        have g : EF J3 3 (J2 181 14) := hJ3.1.er o2.1 (by decide)
        rw [b2] at g
        unfold oneP
        rw [if_neg (by rw [← hn]; exact g8), if_pos (by omega)]
        exact ⟨J3, rfl, OQ.ef (pt3.tt _).c g⟩
    · refine x_iconst (pc := 30) d222_30 ?_
      refine x_goto (pc := 31) (tgt := 35) d222_31 (by decide) ?_
      refine x_iconst (pc := 35) d222_35 ?_
      refine x_cVev (pc := 36) c222_230 (rt_must hl hq (b := true) (code := 3) rg2 (by decide)) (xo181 (by omega)) rfl rfl (Nat.le_of_ble_eq_true rfl) (by decide +kernel) (by decide +kernel) d222_36 (fun J3 hJ3 => ?_)
      have rg3 := hJ3.1.rg rg2 (by decide)
      have pt3 : PT I J3 := hJ1.1.trans (hJ2.1.1.trans hJ3.1.1)
      have b2 : J2 181 14 = tS T n e := by rw [hJ2.2 14 (by decide) (by decide)]; exact hJ1.2.2.1
      refine x_aload_n (pc := 39) rfl d222_39 ?_
      refine m_getI (pc := 40) (z := 16) f222_221 (by decide +kernel) rfl (xo181 (by omega)) d222_40 ?_
      refine x_if_eq (pc := 43) (tgt := 47) ⟨by omega, by omega⟩ d222_43 (by decide) (fun g43 => ?_) (fun g43 => ?_)
      · have o2 : J2 181 16 = 0 ∧ _ ∧ _ := hJ2.1.ok k1 rfl
        have o3 : J3 181 16 = 0 ∧ _ ∧ _ := hJ3.1.ok o2.1 rfl
        have q14 : J3 181 14 = tS T n e := by rw [hJ3.2 14 (by decide) (by decide)]; exact b2
        have q15 : J3 181 15 = wlZ T n (tS T n e) := by rw [hJ3.2 15 (by decide) (by decide), hJ2.2 15 (by decide) (by decide)]; exact hJ1.2.2.2.1
        refine ex_mono (lp_one47 (v := v) (fr := fr) hl hq (hX.pt pt3) e0 e1 g43 q14 q15 (nam_k (by rw [← hn]; exact g8)) (by omega) (by rw [pt3.2 21 (by decide)]; exact hc) c0 g27 hn.symm) fun o9 ho => ?_
        obtain ⟨K, ho, d0, d1, d2⟩ := ho
        exact ⟨K, ho, (pt3.tt _).c.trans d0, fun z => by
          have w := d1 z
          exact ⟨w.1, by rw [w.2.1, o3.2.1, o2.2.1]; exact hJ1.2.2.2.2.2, w.2.2⟩, d2⟩
      · refine x_vret (pc := 46) rfl (fun _ => rfl) d222_46 ?_
        have o2 : J2 181 16 = 0 ∧ _ ∧ _ := hJ2.1.ok k1 rfl
        have o3 : J3 181 16 = 0 ∧ _ ∧ _ := hJ3.1.ok o2.1 rfl
        exact absurd o3.1 g43
/-- what is told shows the commands C -/
def CMR (K : Nat → Int → Int) (T : Int → Int) (C : AV) (cnt : Int) : Prop := ∀ x : Int, 0 ≤ x → x < cnt → K 190 (18 * x) = C 0 x ∧ TLD K T (18 * x + 1) (C 0 x) (C 1 x) (C 2 x) (C 3 x)
/-- commands read -/
def CQ (J K : Nat → Int → Int) (T : Int → Int) (r : Int × Int × Int × AV) : Prop := PC J K 0 ∧ (r.1 = 0 → K 181 16 = 0 ∧ K 181 17 = J 181 17 ∧ K 181 21 = r.2.2.1 ∧ CMR K T r.2.2.2 r.2.2.1) ∧ (r.1 ≠ 0 → K 181 16 = r.1 ∧ K 181 17 = r.2.1)
theorem lp_c9E (hl : l.1.stackTraces = false) (hq : 192 ≤ q) {Q : OO → Prop} (h : I 181 16 ≠ 0) (hr : 0 ≤ I 181 16 ∧ I 181 16 ≤ 3) (hQ : Ex l 226 0 0 31 [some (.ref 181), none] [] (mm q I v fr) Q) : Ex l 226 0 0 9 [some (.ref 181), none] [] (mm q I v fr) Q := by
  refine x_aload_n (pc := 9) rfl d226_9 ?_
  refine m_getI (pc := 10) (z := 16) f226_221 (by decide +kernel) rfl (xo181 (by omega)) d226_10 ?_
  refine x_if_ne (pc := 13) (tgt := 31) ⟨by omega, by omega⟩ d226_13 (by decide) (fun g13 => ?_) (fun g13 => ?_)
  · exact hQ
  · exfalso; omega
theorem oneP_i {e cnt : Int} (h : e ≤ n) : oneP T n cnt (tS T n e) = oneP T n cnt e := by
  unfold oneP
  rw [(tS_i h).1, (tS_i h).2.1, (tS_i h).2.2]
theorem oneP_c (T : Int → Int) (n cnt e : Int) : 0 ≤ (oneP T n cnt e).1 ∧ (oneP T n cnt e).1 ≤ 3 := by
  unfold oneP
  split
  · exact ⟨(by decide : (0 : Int) ≤ 1), (by decide : (1 : Int) ≤ 3)⟩
  split
  · exact ⟨(by decide : (0 : Int) ≤ 3), (by decide : (3 : Int) ≤ 3)⟩
  exact cmin T n (argP_c _ _ _ _) fun _ => cmin T n (semP_c _ _ _) fun _ => ⟨(by decide : (0 : Int) ≤ 0), (by decide : (0 : Int) ≤ 3)⟩
theorem lp_cmds (hl : l.1.stackTraces = false) (hq : 192 ≤ q) {Q : OO → Prop} : ∀ (m : Nat) (cnt e : Int) (C : AV) (J : Nat → Int → Int), (m : Int) + cnt = 31 → 0 ≤ cnt → cnt ≤ 30 → J 181 16 = 0 → J 181 13 = e → 0 ≤ e → e ≤ n → J 181 21 = cnt → CMOK n cnt C → CMR J T C cnt → RTX J T n →
    (∀ K : Nat → Int → Int, CQ J K T (cmdsP T n m cnt C e) → Ex l 226 0 0 31 [some (.ref 181), none] [] (mm q K v fr) Q) →
    Ex l 226 0 0 9 [some (.ref 181), none] [] (mm q J v fr) Q := by
  intro m
  induction m with
  | zero => intro cnt e C J hm c0 c1; omega
  | succ m ih =>
    intro cnt e C J hm c0 c1 h16 h13 e0 e1 h21 hC hR hXJ hQ
    have hx := hXJ.2.2
    have hr := tok_r (T := T) e1
    have hk : tK T n e = kdZ (atT T n (tS T n e)) := rfl
    refine x_aload_n (pc := 9) rfl d226_9 ?_
    refine m_getI (pc := 10) (z := 16) f226_221 (by decide +kernel) rfl (xo181 (by omega)) d226_10 ?_
    refine x_val (pc := 13) (w := 0) (h16) ?_
    refine x_if_ne (pc := 13) (tgt := 31) ⟨by omega, by omega⟩ d226_13 (by decide) (fun z => absurd z (by decide)) (fun _ => ?_)
    refine x_aload_n (pc := 16) rfl d226_16 ?_
    refine x_cVes (pc := 17) c226_227 (rt_next hl hq hXJ (e := e) h13 (by omega) (by omega)) (xo181 (by omega)) rfl rfl (Nat.le_of_ble_eq_true rfl) (by decide +kernel) (by decide +kernel) d226_17 (fun J1 hJ1 => ?_)
    have hat1 := atT_r hx.2 (tS T n e)
    have hX1 := hXJ.pt hJ1.1
    have k16 : J1 181 16 = 0 := by rw [hJ1.2.2.2.2.1]; exact h16
    have k21 : J1 181 21 = cnt := by rw [hJ1.1.2 21 (by decide)]; exact h21
    refine x_iconst (pc := 20) d226_20 ?_
    refine x_icmp_eq (pc := 21) (tgt := 31) ⟨by omega, by omega⟩ ⟨by omega, by omega⟩ d226_21 (by decide) (fun g21 => ?_) (fun g21 => ?_)
    · have k0 : tK T n e = 0 := by rw [hk]; exact kdZ_e0.mpr g21
      refine hQ J1 ?_
      rw [cmdsP_s, if_pos k0]
      have e190 : J1 190 = J 190 := hJ1.1.1 190 (by decide)
      exact ⟨(hJ1.1.tt 0).c, fun _ => ⟨k16, hJ1.2.2.2.2.2, k21, fun x x0 x1 => by rw [e190]; exact ⟨(hR x x0 x1).1, (hR x x0 x1).2.cg (fun z => ((hC x x0 x1).2.1 z).2.2.1) fun i i0 i1 => by rw [e190]⟩⟩, fun z => absurd rfl z⟩
    · refine x_aload_n (pc := 24) rfl d226_24 ?_
      refine x_cVev (pc := 25) c226_334 (rt_one hl hq hX1 (e := tS T n e) (cnt := cnt) k16 hJ1.2.1 (by omega) (by omega) k21 (by omega) (by omega)) (xo181 (by omega)) rfl rfl (Nat.le_of_ble_eq_true rfl) (by decide +kernel) (by decide +kernel) d226_25 (fun J2 hJ2 => ?_)
      refine x_goto (pc := 28) (tgt := 9) d226_28 (by decide) ?_
      have k0 : ¬ tK T n e = 0 := fun z => g21 (kdZ_e0.mp (by rw [← hk]; exact z))
      rw [cmdsP_s, if_neg k0] at hQ
      rw [oneP_i e1] at hJ2
      obtain ⟨d0, d1, d2⟩ := hJ2
      have pz : PC J J2 (18 * cnt) := (hJ1.1.tt _).c.trans d0
      by_cases cr : (oneP T n cnt e).1 = 0
      · rw [pbind_ok cr] at hQ
        have g := d1 cr
        have r := oneP_r (T := T) (n := n) e0 e1 cr
        refine ih (cnt + 1) _ _ J2 (by omega) (by omega) (by omega) g.1 g.2.2.1 r.2.1 r.2.2.1 g.2.2.2.1 (cmok_step e0 e1 cr hC) (fun x x0 x1 => ?_) (hXJ.c pz) fun K hK => hQ K ⟨(pz.le (by omega)).trans hK.1, fun z => ?_, hK.2.2⟩
        · have ae := addC_e (C := C) (cnt := cnt) (nm := (oneP T n cnt e).2.2.1) (a := (oneP T n cnt e).2.2.2.1) (b := (oneP T n cnt e).2.2.2.2.1) (c := (oneP T n cnt e).2.2.2.2.2.1) (i := x)
          rw [ae.1, ae.2.1, ae.2.2.1, ae.2.2.2]
          by_cases ex : x = cnt
          · rw [if_pos ex, if_pos ex, if_pos ex, if_pos ex, ex]
            exact ⟨g.2.2.2.2.1, g.2.2.2.2.2⟩
          · rw [if_neg ex, if_neg ex, if_neg ex, if_neg ex]
            have hx2 := hR x x0 (by omega)
            exact ⟨by rw [pz.2.2 _ (by omega)]; exact hx2.1, hx2.2.cg (fun z => ((hC x x0 (by omega)).2.1 z).2.2.1) fun i i0 i1 => pz.2.2 i (by omega)⟩
        · have w := hK.2.1 z
          exact ⟨w.1, by rw [w.2.1, g.2.1]; exact hJ1.2.2.2.2.2, w.2.2⟩
      · rw [pbind_no cr] at hQ
        have g := d2 cr
        have rc := oneP_c T n cnt e
        exact lp_c9E hl hq (by rw [g.1]; exact cr) (by rw [g.1]; exact rc) (hQ J2 ⟨pz.le (by omega), fun z => absurd z cr, fun _ => g⟩)
end Rone
