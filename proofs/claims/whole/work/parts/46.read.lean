/-! ===== all commands are read ===== -/
/-- what holds of the commands that are read -/
def CMOK (n cnt : Int) (C : AV) : Prop := ∀ x : Int, 0 ≤ x → x < cnt → (0 ≤ C 0 x ∧ C 0 x ≤ 7) ∧ (C 0 x = 0 → 0 ≤ C 1 x ∧ 1 ≤ C 2 x ∧ C 2 x ≤ 16 ∧ C 1 x + C 2 x ≤ n) ∧ (C 0 x = 6 → (2 ≤ C 1 x ∧ C 1 x ≤ 999) ∧ (1 ≤ C 2 x ∧ C 2 x < C 1 x) ∧ (0 ≤ C 3 x ∧ C 3 x ≤ 999)) ∧ (C 0 x ≠ 0 → C 0 x ≠ 6 → (numR (C 0 x)).1 ≤ C 1 x ∧ C 1 x ≤ (numR (C 0 x)).2 ∧ 0 ≤ C 1 x ∧ C 1 x ≤ 999)
theorem addC_e {C : AV} {cnt nm a b c i : Int} : addC C cnt nm a b c 0 i = (if i = cnt then nm else C 0 i) ∧ addC C cnt nm a b c 1 i = (if i = cnt then a else C 1 i) ∧ addC C cnt nm a b c 2 i = (if i = cnt then b else C 2 i) ∧ addC C cnt nm a b c 3 i = (if i = cnt then c else C 3 i) := by
  unfold addC
  refine ⟨?_, ?_, ?_, ?_⟩
  · rw [up2_p (by decide), up2_p (by decide), up2_p (by decide), up2_q]
  · rw [up2_p (by decide), up2_p (by decide), up2_q, up2_p (by decide)]
  · rw [up2_p (by decide), up2_q, up2_p (by decide), up2_p (by decide)]
  · rw [up2_q, up2_p (by decide), up2_p (by decide), up2_p (by decide)]
theorem oneP_r {T : Int → Int} {n cnt e : Int} (h0 : 0 ≤ e) (h1 : e ≤ n) (hc : (oneP T n cnt e).1 = 0) : cnt < 30 ∧ 0 ≤ (oneP T n cnt e).2.2.2.2.2.2 ∧ (oneP T n cnt e).2.2.2.2.2.2 ≤ n ∧ nameZ T n (tS T n e) (tK T n e) (tE T n e) ≠ -1 ∧
    (oneP T n cnt e).2.2.1 = nameZ T n (tS T n e) (tK T n e) (tE T n e) ∧ (argP T n (nameZ T n (tS T n e) (tK T n e) (tE T n e)) (tE T n e)).1 = 0 ∧ (oneP T n cnt e).2.2.2.1 = (argP T n (nameZ T n (tS T n e) (tK T n e) (tE T n e)) (tE T n e)).2.2.1 ∧ (oneP T n cnt e).2.2.2.2.1 = (argP T n (nameZ T n (tS T n e) (tK T n e) (tE T n e)) (tE T n e)).2.2.2.1 ∧ (oneP T n cnt e).2.2.2.2.2.1 = (argP T n (nameZ T n (tS T n e) (tK T n e) (tE T n e)) (tE T n e)).2.2.2.2.1 := by
  have hr := tok_r (T := T) h1
  obtain ⟨nm, hnm⟩ : ∃ z, z = nameZ T n (tS T n e) (tK T n e) (tE T n e) := ⟨_, rfl⟩
  have eo : oneP T n cnt e = if nm = -1 then (1, tS T n e, 0, 0, 0, 0, 0) else if 30 ≤ cnt then (3, tS T n e, 0, 0, 0, 0, 0) else pbind (argP T n nm (tE T n e)) (0, 0, 0, 0, 0) fun x => pbind (semP T n x.2.2.2) (0, 0, 0, 0, 0) fun e2 => (0, 0, nm, x.1, x.2.1, x.2.2.1, e2) := by rw [hnm]; rfl
  rw [← hnm]
  rw [eo] at hc ⊢
  by_cases c0 : nm = -1
  · rw [if_pos c0] at hc; exact absurd (show (1 : Int) = 0 from hc) (by decide)
  rw [if_neg c0] at hc ⊢
  by_cases c3 : 30 ≤ cnt
  · rw [if_pos c3] at hc; exact absurd (show (3 : Int) = 0 from hc) (by decide)
  rw [if_neg c3] at hc ⊢
  by_cases c1 : ¬ (argP T n nm (tE T n e)).1 = 0
  · rw [pbind_no c1] at hc; exact absurd hc c1
  have c1 := Decidable.of_not_not c1
  have ha := argP_r (T := T) (nm := nm) (e := tE T n e) (by omega) (by omega) c1
  rw [pbind_ok c1] at hc ⊢
  by_cases c2 : ¬ (semP T n (argP T n nm (tE T n e)).2.2.2.2.2).1 = 0
  · rw [pbind_no c2] at hc; exact absurd hc c2
  have c2 := Decidable.of_not_not c2
  have hs := (semP_r (T := T) ha.1 ha.2.1).1 c2
  rw [pbind_ok c2]
  exact ⟨by omega, hs.1, hs.2, c0, rfl, c1, rfl, rfl, rfl⟩
theorem cmok_step {T : Int → Int} {n cnt e : Int} {C : AV} (h0 : 0 ≤ e) (h1 : e ≤ n) (hc : (oneP T n cnt e).1 = 0) (h : CMOK n cnt C) : CMOK n (cnt + 1) (addC C cnt (oneP T n cnt e).2.2.1 (oneP T n cnt e).2.2.2.1 (oneP T n cnt e).2.2.2.2.1 (oneP T n cnt e).2.2.2.2.2.1) := by
  have hr := tok_r (T := T) h1
  obtain ⟨-, -, -, o0, o1, o2, o3, o4, o5⟩ := oneP_r h0 h1 hc
  have hn := nameZ_r T n (tS T n e) (tK T n e) (tE T n e)
  have ha := argP_r (T := T) (e := tE T n e) (by omega) (by omega) o2
  intro x x0 x1
  obtain ⟨e0, e1, e2, e3⟩ := addC_e (C := C) (cnt := cnt) (nm := (oneP T n cnt e).2.2.1) (a := (oneP T n cnt e).2.2.2.1) (b := (oneP T n cnt e).2.2.2.2.1) (c := (oneP T n cnt e).2.2.2.2.2.1) (i := x)
  rw [e0, e1, e2, e3]
  by_cases hx : x = cnt
  · rw [if_pos hx, if_pos hx, if_pos hx, if_pos hx, o1, o3, o4, o5]
    exact ⟨by omega, ha.2.2.1, ha.2.2.2.1, ha.2.2.2.2⟩
  · rw [if_neg hx, if_neg hx, if_neg hx, if_neg hx]
    exact h x x0 (by omega)
theorem cmds_r {T : Int → Int} {n : Int} : ∀ (m : Nat) (cnt e : Int) (C : AV), CMOK n cnt C → 0 ≤ cnt → cnt ≤ 30 → 0 ≤ e → e ≤ n → (cmdsP T n m cnt C e).1 = 0 → CMOK n (cmdsP T n m cnt C e).2.2.1 (cmdsP T n m cnt C e).2.2.2 ∧ 0 ≤ (cmdsP T n m cnt C e).2.2.1 ∧ (cmdsP T n m cnt C e).2.2.1 ≤ 30
  | 0, cnt, e, C, _, _, _, _, _, h => absurd (show (3 : Int) = 0 from h) (by decide)
  | m + 1, cnt, e, C, hC, hc0, hc1, he0, he1, h => by
    rw [cmdsP_s] at h ⊢
    by_cases c0 : tK T n e = 0
    · rw [if_pos c0]; exact ⟨hC, hc0, hc1⟩
    rw [if_neg c0] at h ⊢
    by_cases c1 : ¬ (oneP T n cnt e).1 = 0
    · rw [pbind_no c1] at h; exact absurd h c1
    have c1 := Decidable.of_not_not c1
    have ho := oneP_r he0 he1 c1
    rw [pbind_ok c1] at h ⊢
    exact cmds_r m _ _ _ (cmok_step he0 he1 c1 hC) (by omega) (by omega) ho.2.1 ho.2.2.1 h
/-- the memory behind a command; behind all -/
def OP (I K : Nat → Int → Int) (cnt : Int) (r : Int × Int × Int × Int × Int × Int × Int) : Prop := (∀ a, a < 5 ∨ 10 < a → K a = I a) ∧ (r.1 = 0 → K 5 3 = r.2.2.2.2.2.2 ∧ K 5 4 = I 5 4 ∧ K 5 5 = I 5 5 ∧ K 6 0 = cnt + 1 ∧ (∀ i, K 7 i = if i = cnt then r.2.2.1 else I 7 i) ∧ (∀ i, K 8 i = if i = cnt then r.2.2.2.1 else I 8 i) ∧ (∀ i, K 9 i = if i = cnt then r.2.2.2.2.1 else I 9 i) ∧ ∀ i, K 10 i = if i = cnt then r.2.2.2.2.2.1 else I 10 i) ∧ (r.1 ≠ 0 → K 5 4 = r.1 ∧ K 5 5 = r.2.1)
/-- the memory holds the commands C -/
def CMI (K : Nat → Int → Int) (cnt : Int) (C : AV) : Prop := K 6 0 = cnt ∧ ∀ x : Int, 0 ≤ x → x < cnt → K 7 x = C 0 x ∧ K 8 x = C 1 x ∧ K 9 x = C 2 x ∧ K 10 x = C 3 x
def RO (I K : Nat → Int → Int) (r : Int × Int × Int × AV) : Prop := (∀ a, a < 5 ∨ 10 < a → K a = I a) ∧ (r.1 = 0 → K 5 4 = 0 ∧ K 5 5 = -1 ∧ CMI K r.2.2.1 r.2.2.2) ∧ (r.1 ≠ 0 → K 5 4 = r.1 ∧ K 5 5 = r.2.1)
section Read
variable {l : LX} {q p : Nat} {I : Nat → Int → Int} {v : Int} {fr : Bool} {T : Int → Int} {n : Int}
theorem ct_one (hl : l.1.stackTraces = false) (hq : 181 ≤ q) (hX : TXT I T n) {e0 cnt : Int} (he0 : 0 ≤ e0) (he1 : e0 ≤ n) (hc : I 6 0 = cnt) (h0 : 0 ≤ cnt) (h30 : cnt ≤ 30) (j2 : I 5 1 = tK T n e0) (j3 : I 5 2 = tS T n e0) (j4 : I 5 3 = tE T n e0) : CT l 2 [.ref 6, .ref 5] (mm q I v fr) 0 0 (oE q v fr (some (.int (iI (b01 (decide ((oneP T n cnt e0).1 = 0)))))) (fun K => OP I K cnt (oneP T n cnt e0))) := by
  have hr := tok_r (T := T) he1
  obtain ⟨hn0, hn1⟩ := hX.2.2.1
  have hnr := nameZ_r T n (tS T n e0) (tK T n e0) (tE T n e0)
  have hnmS := dt_name (v := v) (fr := fr) hl hq hX (s := tS T n e0) (k := tK T n e0) (e := tE T n e0) j2 j3 j4 (by omega) (by omega) (by omega) (by omega)
  obtain ⟨nm, hnm⟩ : ∃ z, z = nameZ T n (tS T n e0) (tK T n e0) (tE T n e0) := ⟨_, rfl⟩
  have eo : oneP T n cnt e0 = if nm = -1 then (1, tS T n e0, 0, 0, 0, 0, 0) else if 30 ≤ cnt then (3, tS T n e0, 0, 0, 0, 0, 0) else pbind (argP T n nm (tE T n e0)) (0, 0, 0, 0, 0) fun x => pbind (semP T n x.2.2.2) (0, 0, 0, 0, 0) fun e2 => (0, 0, nm, x.1, x.2.1, x.2.2.1, e2) := by rw [hnm]; rfl
  rw [← hnm] at hnmS hnr
  refine mkct2 hl (by decide) (Nat.le_of_ble_eq_true rfl) (L := [some (.ref 6), some (.ref 5), none]) rfl ?_
  refine x_aload_n (pc := 0) rfl d2_0 ?_
  refine x_cSs (pc := 1) c2_43 hnmS rfl rfl (Nat.le_of_ble_eq_true rfl) (by decide +kernel) (by decide +kernel) (by decide +kernel) rfl d2_1 ?_
  refine x_istore_n (pc := 4) (by decide +kernel) rfl d2_4 ?_
  dsimp only [List.set]
  refine x_iload_n (pc := 5) rfl d2_5 ?_
  refine x_iconst (pc := 6) d2_6 ?_
  refine x_icmp_ne (pc := 7) (tgt := 16) ⟨by omega, by omega⟩ ⟨by omega, by omega⟩ d2_7 (by decide) (fun g7 => ?_) (fun g7 => ?_)
  · refine x_aload_n (pc := 16) rfl d2_16 ?_
    refine m_getI (pc := 17) (z := 0) f2_24 (by decide +kernel) rfl (ko6 (by omega)) d2_17 ?_
    refine x_val (pc := 20) (w := cnt) (hc) ?_
    refine x_if_lt (pc := 20) (tgt := 32) ⟨by omega, by omega⟩ d2_20 (by decide) (fun g20 => ?_) (fun g20 => ?_)
    · refine x_aload_n (pc := 32) rfl d2_32 ?_
      refine x_iconst (pc := 33) d2_33 ?_
      refine x_cVs (pc := 34) c2_47 (dt_fail hl hq (s := (tS T n e0)) (j3)) (ko5 (by omega)) rfl rfl (Nat.le_of_ble_eq_true rfl) (by decide +kernel) (by decide +kernel) rfl d2_34 ?_
      refine x_zret (pc := 37) rfl (Or.inl rfl) (fun _ => rfl) d2_37 ?_
      exfalso; omega
    · refine x_aload_n (pc := 23) rfl d2_23 ?_
      refine m_getI (pc := 24) (z := 0) f2_24 (by decide +kernel) rfl (ko6 (by omega)) d2_24 ?_
      refine x_val (pc := 27) (w := cnt) (hc) ?_
      refine x_bipush (pc := 27) (by decide) d2_27 ?_
      refine x_icmp_lt (pc := 29) (tgt := 38) ⟨by omega, by omega⟩ ⟨by omega, by omega⟩ d2_29 (by decide) (fun g29 => ?_) (fun g29 => ?_)
      · refine x_aload_n (pc := 38) rfl d2_38 ?_
        refine x_aload_n (pc := 39) rfl d2_39 ?_
        refine x_iload_n (pc := 40) rfl d2_40 ?_
        refine x_cVes (pc := 41) c2_51 (ct_args hl hq hX hc h0 (by omega) (e := tE T n e0) j4 (by omega) (by omega) (nm := nm) (by omega) (by omega)) (ko6 (by omega)) rfl rfl (Nat.le_of_ble_eq_true rfl) (by decide +kernel) (by decide +kernel) d2_41 (fun J1 hJ1 => ?_)
        refine x_ifB_eq (pc := 44) (tgt := 54) d2_44 (by decide) (fun g44 => ?_) (fun g44 => ?_)
        · refine x_iconst (pc := 54) d2_54 ?_
          refine x_zret (pc := 55) rfl (Or.inl rfl) (fun _ => rfl) d2_55 ?_
          have c1 := of_decide_eq_false g44
          obtain ⟨a0, a1, a2⟩ := hJ1
          have e1 : oneP T n cnt e0 = ((argP T n nm (tE T n e0)).1, (argP T n nm (tE T n e0)).2.1, 0, 0, 0, 0, 0) := by rw [eo, if_neg g7, if_neg (by omega), pbind_no c1]
          rw [e1, decide_eq_false c1]
          exact ⟨_, rfl, fun a ha => a0 a (by omega) (by omega) (by omega) (by omega), fun z => absurd z c1, fun _ => a2 c1⟩
        · have c1 := of_decide_eq_true g44
          have ha := argP_r (T := T) (nm := nm) (e := tE T n e0) (by omega) (by omega) c1
          obtain ⟨a0, a1, a2⟩ := hJ1
          obtain ⟨k3, k4, k5, k8, k9, k10⟩ := a1 c1
          have hX2 : TXT J1 T n := hX.of (a0 2 (by decide) (by decide) (by decide) (by decide)) (a0 1 (by decide) (by decide) (by decide) (by decide))
          refine x_aload_n (pc := 47) rfl d2_47 ?_
          refine x_cVes (pc := 48) c2_55 (ct_semi hl hq hX2 (e := (argP T n nm (tE T n e0)).2.2.2.2.2) k3 ha.1 ha.2.1) (ko5 (by omega)) rfl rfl (Nat.le_of_ble_eq_true rfl) (by decide +kernel) (by decide +kernel) d2_48 (fun J2 hJ2 => ?_)
          refine x_ifB_ne (pc := 51) (tgt := 56) d2_51 (by decide) (fun g51 => ?_) (fun g51 => ?_)
          · have m6 : J2 6 0 = cnt := by rw [hJ2.1 6 (by decide), a0 6 (by decide) (by decide) (by decide) (by decide)]; exact hc
            refine x_aload_n (pc := 56) rfl d2_56 ?_
            refine m_getR (pc := 57) f2_9 (by decide +kernel) (ko6 (by omega)) rr6_1 d2_57 ?_
            refine x_aload_n (pc := 60) rfl d2_60 ?_
            refine m_getI (pc := 61) (z := 0) f2_24 (by decide +kernel) rfl (ko6 (by omega)) d2_61 ?_
            refine x_val (pc := 64) (w := cnt) (m6) ?_
            refine x_iload_n (pc := 64) rfl d2_64 ?_
            refine m_iast (pc := 65) (ka7 (by omega)) (by omega) (by omega) (by omega) d2_65 ?_
            refine x_aload_n (pc := 66) rfl d2_66 ?_
            refine x_dup (pc := 67) rfl d2_67 ?_
            refine m_getW (pc := 68) (z := 0) (w := (J2 6 0)) f2_24 (by decide +kernel) rfl (ko6 (by omega)) (by rw [up2_p (by omega)]) d2_68 ?_
            refine x_val (pc := 71) (w := cnt) (m6) ?_
            refine x_iconst (pc := 71) d2_71 ?_
            refine x_iadd (pc := 72) d2_72 ?_
            refine m_putI (pc := 73) (z := 0) f2_24 (by decide +kernel) (by decide +kernel) rfl (ko6 (by omega)) d2_73 ?_
            refine x_iconst (pc := 76) d2_76 ?_
            refine x_zret (pc := 77) rfl (Or.inr rfl) (fun _ => rfl) d2_77 ?_
            have c2 := of_decide_eq_true g51
            have q2 := hJ2.2.2.1 c2
            have e1 : oneP T n cnt e0 = (0, 0, nm, (argP T n nm (tE T n e0)).2.2.1, (argP T n nm (tE T n e0)).2.2.2.1, (argP T n nm (tE T n e0)).2.2.2.2.1, (semP T n (argP T n nm (tE T n e0)).2.2.2.2.2).2.2) := by rw [eo, if_neg g7, if_neg (by omega), pbind_ok c1, pbind_ok c2]
            rw [e1]
            refine ⟨_, rfl, fun a ha => ?_, fun _ => ⟨?_, ?_, ?_, up2_s, fun i => ?_, fun i => ?_, fun i => ?_, fun i => ?_⟩, fun z => absurd rfl z⟩
            · rw [up2_off' _ _ _ (by omega), up2_off' _ _ _ (by omega), hJ2.1 a (by omega)]; exact a0 a (by omega) (by omega) (by omega) (by omega)
            · rw [up2_p (by decide), up2_p (by decide)]; exact q2.1
            · rw [up2_p (by decide), up2_p (by decide), q2.2.1]; exact k4
            · rw [up2_p (by decide), up2_p (by decide), q2.2.2]; exact k5
            · rw [up2_p (by decide), up2_q, hJ2.1 7 (by decide), a0 7 (by decide) (by decide) (by decide) (by decide)]
            · rw [up2_p (by decide), up2_p (by decide), hJ2.1 8 (by decide)]; exact k8 i
            · rw [up2_p (by decide), up2_p (by decide), hJ2.1 9 (by decide)]; exact k9 i
            · rw [up2_p (by decide), up2_p (by decide), hJ2.1 10 (by decide)]; exact k10 i
          · refine x_iconst (pc := 54) d2_54 ?_
            refine x_zret (pc := 55) rfl (Or.inl rfl) (fun _ => rfl) d2_55 ?_
            have c2 := of_decide_eq_false g51
            have e1 : oneP T n cnt e0 = ((semP T n (argP T n nm (tE T n e0)).2.2.2.2.2).1, (semP T n (argP T n nm (tE T n e0)).2.2.2.2.2).2.1, 0, 0, 0, 0, 0) := by rw [eo, if_neg g7, if_neg (by omega), pbind_ok c1, pbind_no c2]
            rw [e1, decide_eq_false c2]
            exact ⟨_, rfl, fun a ha => by rw [hJ2.1 a (by omega)]; exact a0 a (by omega) (by omega) (by omega) (by omega), fun z => absurd z c2, fun _ => hJ2.2.2.2 c2⟩
      · refine x_aload_n (pc := 32) rfl d2_32 ?_
        refine x_iconst (pc := 33) d2_33 ?_
        refine x_cVs (pc := 34) c2_47 (dt_fail hl hq (s := (tS T n e0)) (j3)) (ko5 (by omega)) rfl rfl (Nat.le_of_ble_eq_true rfl) (by decide +kernel) (by decide +kernel) rfl d2_34 ?_
        refine x_zret (pc := 37) rfl (Or.inl rfl) (fun _ => rfl) d2_37 ?_
        have e1 : oneP T n cnt e0 = (3, tS T n e0, 0, 0, 0, 0, 0) := by rw [eo, if_neg g7, if_pos (by omega)]
        rw [e1]
        refine ⟨_, rfl, fun a ha => by rw [up2_off' _ _ _ (by omega), up2_off' _ _ _ (by omega)], fun z => absurd (show (3 : Int) = 0 from z) (by decide), fun _ => ⟨by rw [up2_i (by decide), up2_s], up2_s⟩⟩
  · refine x_aload_n (pc := 10) rfl d2_10 ?_
    refine x_iconst (pc := 11) d2_11 ?_
    refine x_cVs (pc := 12) c2_47 (dt_fail hl hq (s := (tS T n e0)) (j3)) (ko5 (by omega)) rfl rfl (Nat.le_of_ble_eq_true rfl) (by decide +kernel) (by decide +kernel) rfl d2_12 ?_
    refine x_zret (pc := 15) rfl (Or.inl rfl) (fun _ => rfl) d2_15 ?_
    have e1 : oneP T n cnt e0 = (1, tS T n e0, 0, 0, 0, 0, 0) := by rw [eo, if_pos g7]
    rw [e1]
    refine ⟨_, rfl, fun a ha => by rw [up2_off' _ _ _ (by omega), up2_off' _ _ _ (by omega)], fun z => absurd (show (1 : Int) = 0 from z) (by decide), fun _ => ⟨by rw [up2_i (by decide), up2_s], up2_s⟩⟩
theorem lp_read (hl : l.1.stackTraces = false) (hq : 181 ≤ q) : ∀ (m i : Nat) (e : Int) (C : AV) (J : Nat → Int → Int), i + m = 31 → i ≤ 30 → TXT J T n → J 5 3 = e → 0 ≤ e → e ≤ n → J 5 4 = 0 → J 5 5 = -1 → CMI J i C →
    Ex l 1 0 0 11 [some (.ref 6), some (.ref 5), some (.int (iI i))] [] (mm q J v fr) (oE q v fr (some (.int (iI (b01 (decide ((cmdsP T n m i C e).1 = 0)))))) (fun K => RO J K (cmdsP T n m i C e))) := by
  intro m
  induction m with
  | zero => intro i e C J hi hi2; omega
  | succ m ih =>
    intro i e C J hi hi2 hX he he0 he1 j54 j55 hC
    obtain ⟨hn0, hn1⟩ := hX.2.2.1
    have hr := tok_r (T := T) he1
    refine x_iload_n (pc := 11) rfl d1_11 ?_
    refine x_bipush (pc := 12) (by decide) d1_12 ?_
    refine x_icmp_gt (pc := 14) (tgt := 46) ⟨by omega, by omega⟩ ⟨by omega, by omega⟩ d1_14 (by decide) (fun g14 => ?_) (fun g14 => ?_)
    · refine x_iconst (pc := 46) d1_46 ?_
      refine x_zret (pc := 47) rfl (Or.inl rfl) (fun _ => rfl) d1_47 ?_
      exfalso; omega
    · refine x_aload_n (pc := 17) rfl d1_17 ?_
      refine x_cVev (pc := 18) c1_33 (ct_nextX hl hq hX he he0 he1) (ko5 (by omega)) rfl rfl (Nat.le_of_ble_eq_true rfl) (by decide +kernel) (by decide +kernel) d1_18 (fun J1 hJ1 => ?_)
      obtain ⟨j1, j2, j3, j4⟩ := hJ1
      have hX1 := hX.tk j1
      have hc1 : J1 6 0 = i := by rw [j1.1 6 (by decide)]; exact hC.1
      refine x_aload_n (pc := 21) rfl d1_21 ?_
      refine m_getI (pc := 22) (z := 1) f1_36 (by decide +kernel) rfl (ko5 (by omega)) d1_22 ?_
      refine x_val (pc := 25) (w := (tK T n e)) (j2) ?_
      refine x_if_ne (pc := 25) (tgt := 30) ⟨by omega, by omega⟩ d1_25 (by decide) (fun g25 => ?_) (fun g25 => ?_)
      · refine x_aload_n (pc := 30) rfl d1_30 ?_
        refine x_aload_n (pc := 31) rfl d1_31 ?_
        refine x_cVes (pc := 32) c1_39 (ct_one hl hq hX1 he0 he1 (cnt := i) hc1 (by omega) (by omega) j2 j3 j4) (ko6 (by omega)) rfl rfl (Nat.le_of_ble_eq_true rfl) (by decide +kernel) (by decide +kernel) d1_32 (fun J2 hJ2 => ?_)
        refine x_ifB_ne (pc := 35) (tgt := 40) d1_35 (by decide) (fun g35 => ?_) (fun g35 => ?_)
        · refine x_iinc (pc := 40) rfl (by decide +kernel) rfl d1_40 ?_
          dsimp only [List.set]
          refine x_goto (pc := 43) (tgt := 11) d1_43 (by decide) ?_
          have c1 := of_decide_eq_true g35
          have ho := oneP_r he0 he1 c1
          obtain ⟨o0, o1, o2⟩ := hJ2
          obtain ⟨k3, k4, k5, k6, k7, k8, k9, k10⟩ := o1 c1
          have e1 : cmdsP T n (m + 1) i C e = cmdsP T n m (i + 1) (addC C i (oneP T n i e).2.2.1 (oneP T n i e).2.2.2.1 (oneP T n i e).2.2.2.2.1 (oneP T n i e).2.2.2.2.2.1) (oneP T n i e).2.2.2.2.2.2 := by rw [cmdsP_s, if_neg g25, pbind_ok c1]
          rw [e1]
          have hC2 : CMI J2 ((i : Int) + 1) (addC C i (oneP T n i e).2.2.1 (oneP T n i e).2.2.2.1 (oneP T n i e).2.2.2.2.1 (oneP T n i e).2.2.2.2.2.1) := by
            refine ⟨k6, fun x x0 x1 => ?_⟩
            obtain ⟨e0, e1, e2, e3⟩ := addC_e (C := C) (cnt := i) (nm := (oneP T n i e).2.2.1) (a := (oneP T n i e).2.2.2.1) (b := (oneP T n i e).2.2.2.2.1) (c := (oneP T n i e).2.2.2.2.2.1) (i := x)
            rw [e0, e1, e2, e3, k7, k8, k9, k10, j1.1 7 (by decide), j1.1 8 (by decide), j1.1 9 (by decide), j1.1 10 (by decide)]
            by_cases hx : x = i
            · rw [if_pos hx, if_pos hx, if_pos hx, if_pos hx, if_pos hx, if_pos hx, if_pos hx, if_pos hx]; exact ⟨rfl, rfl, rfl, rfl⟩
            · rw [if_neg hx, if_neg hx, if_neg hx, if_neg hx, if_neg hx, if_neg hx, if_neg hx, if_neg hx]; exact hC.2 x x0 (by omega)
          have ei : (((i + 1 : Nat)) : Int) = (i : Int) + 1 := by omega
          have g := ih (i + 1) (oneP T n i e).2.2.2.2.2.2 (addC C i (oneP T n i e).2.2.1 (oneP T n i e).2.2.2.1 (oneP T n i e).2.2.2.2.1 (oneP T n i e).2.2.2.2.2.1) J2 (by omega) (by omega) (hX1.of (o0 2 (by omega)) (o0 1 (by omega))) k3 ho.2.1 ho.2.2.1 (by rw [k4, j1.2 4 (by decide) (by decide) (by decide)]; exact j54) (by rw [k5, j1.2 5 (by decide) (by decide) (by decide)]; exact j55) (by rw [ei]; exact hC2)
          rw [ei] at g
          refine ex_mono g ?_
          rintro o ⟨K, ho2, r0, r1, r2⟩
          exact ⟨K, ho2, fun a ha => by rw [r0 a ha, o0 a ha, j1.1 a (by omega)], r1, r2⟩
        · refine x_iconst (pc := 38) d1_38 ?_
          refine x_zret (pc := 39) rfl (Or.inl rfl) (fun _ => rfl) d1_39 ?_
          have c1 := of_decide_eq_false g35
          obtain ⟨o0, o1, o2⟩ := hJ2
          have e1 : cmdsP T n (m + 1) i C e = ((oneP T n i e).1, (oneP T n i e).2.1, (i : Int), C) := by rw [cmdsP_s, if_neg g25, pbind_no c1]
          rw [e1, decide_eq_false c1]
          exact ⟨_, rfl, fun a ha => by rw [o0 a ha, j1.1 a (by omega)], fun z => absurd z c1, fun _ => o2 c1⟩
      · refine x_iconst (pc := 28) d1_28 ?_
        refine x_zret (pc := 29) rfl (Or.inr rfl) (fun _ => rfl) d1_29 ?_
        have e1 : cmdsP T n (m + 1) i C e = ((0 : Int), (0 : Int), (i : Int), C) := by rw [cmdsP_s, if_pos g25]
        rw [e1]
        refine ⟨_, rfl, fun a ha => j1.1 a (by omega), fun _ => ⟨by rw [j1.2 4 (by decide) (by decide) (by decide)]; exact j54, by rw [j1.2 5 (by decide) (by decide) (by decide)]; exact j55, hc1, fun x x0 x1 => ?_⟩, fun z => absurd rfl z⟩
        rw [j1.1 7 (by decide), j1.1 8 (by decide), j1.1 9 (by decide), j1.1 10 (by decide)]
        exact hC.2 x x0 x1
/-- Commands.read -/
def allP (T : Int → Int) (n : Int) : Int × Int × Int × AV := cmdsP T n 31 0 (fun _ _ => 0) 0
theorem ct_read (hl : l.1.stackTraces = false) (hq : 181 ≤ q) (hX : TXT I T n) : CT l 1 [.ref 6, .ref 5] (mm q I v fr) 0 0 (oE q v fr (some (.int (iI (b01 (decide ((allP T n).1 = 0)))))) (fun K => RO I K (allP T n))) := by
  obtain ⟨hn0, hn1⟩ := hX.2.2.1
  refine mkct2 hl (by decide) (Nat.le_of_ble_eq_true rfl) (L := [some (.ref 6), some (.ref 5), none]) rfl ?_
  refine x_aload_n (pc := 0) rfl d1_0 ?_
  refine x_iconst (pc := 1) d1_1 ?_
  refine m_putI (pc := 2) (z := 0) f1_24 (by decide +kernel) (by decide +kernel) rfl (ko6 (by omega)) d1_2 ?_
  refine x_aload_n (pc := 5) rfl d1_5 ?_
  refine x_cVv (pc := 6) c1_28 (dt_begin hl hq) (ko5 (by omega)) rfl rfl (Nat.le_of_ble_eq_true rfl) (by decide +kernel) (by decide +kernel) rfl d1_6 ?_
  refine x_iconst (pc := 9) d1_9 ?_
  refine x_istore_n (pc := 10) (by decide +kernel) rfl d1_10 ?_
  dsimp only [List.set]
  refine ex_mono (lp_read hl hq (T := T) (n := n) 31 0 0 (fun _ _ => 0) _ rfl (by decide) (hX.of ?_ ?_) ?_ (Int.le_refl 0) hn0 ?_ ?_ ⟨?_, fun x x0 x1 => by omega⟩) ?_
  · rw [up2_off' _ _ _ (by decide), up2_off' _ _ _ (by decide), up2_off' _ _ _ (by decide), up2_off' _ _ _ (by decide), up2_off' _ _ _ (by decide), up2_off' _ _ _ (by decide)]
  · rw [up2_off' _ _ _ (by decide), up2_off' _ _ _ (by decide), up2_off' _ _ _ (by decide), up2_off' _ _ _ (by decide), up2_off' _ _ _ (by decide), up2_off' _ _ _ (by decide)]
  · rw [up2_i (by decide), up2_i (by decide), up2_s]
  · rw [up2_i (by decide), up2_s]
  · rw [up2_s]
  · rw [up2_p (by decide), up2_p (by decide), up2_p (by decide), up2_p (by decide), up2_p (by decide), up2_s]; rfl
  · rintro o ⟨K, ho, r0, r1, r2⟩
    refine ⟨K, ho, fun a ha => ?_, r1, r2⟩
    rw [r0 a ha, up2_off' _ _ _ (by omega), up2_off' _ _ _ (by omega), up2_off' _ _ _ (by omega), up2_off' _ _ _ (by omega), up2_off' _ _ _ (by omega), up2_off' _ _ _ (by omega)]
end Read
