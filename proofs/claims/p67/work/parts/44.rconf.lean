/-! ===== readConfiguration ===== -/
def confP (T : Int → Int) (n : Int) : Int × Int × AV := pbind (mdmP T n) (fun _ _ => 0) fun x => dgsP T n 4 x.1 x.2
theorem mdm_r {T : Int → Int} {n : Int} (hn : 0 ≤ n) (hc : (mdmP T n).1 = 0) : AINV (mdmP T n).2.2.1 0 ∧ (mdmP T n).2.2.1 0 4 = 0 ∧ 0 ≤ (mdmP T n).2.2.2 ∧ (mdmP T n).2.2.2 ≤ n := by
  have hr := tok_r (T := T) hn
  by_cases g6 : splZ T n (tS T n 0) (tK T n 0) (tE T n 0) 0 = false
  · exfalso; unfold mdmP at hc; rw [if_pos g6] at hc; exact absurd (show (1 : Int) = 0 from hc) (by decide)
  have r1 := numP_r (T := T) (n := n) (lo := 1) (hi := 9) (e := tE T n 0) (by omega) (by omega)
  by_cases c1 : ¬ (numP T n 1 9 (tE T n 0)).1 = 0
  · exfalso; unfold mdmP at hc; rw [if_neg g6, pbind_no c1] at hc; exact c1 hc
  have c1 := Decidable.of_not_not c1
  have q1 := r1.1 c1
  have r2 := numP_r (T := T) (n := n) (lo := 1) (hi := 199) (e := (numP T n 1 9 (tE T n 0)).2.2.2) (by omega) (by omega)
  obtain ⟨x1, hx1⟩ : ∃ x, x = numP T n 1 9 (tE T n 0) := ⟨_, rfl⟩
  rw [← hx1] at c1 q1 r2
  by_cases c2 : ¬ (numP T n 1 199 x1.2.2.2).1 = 0
  · exfalso; unfold mdmP at hc; rw [if_neg g6, ← hx1, pbind_ok c1, pbind_no c2] at hc; exact c2 hc
  have c2 := Decidable.of_not_not c2
  have q2 := r2.1 c2
  have r3 := numP_r (T := T) (n := n) (lo := 1) (hi := 99) (e := (numP T n 1 199 x1.2.2.2).2.2.2) (by omega) (by omega)
  obtain ⟨x2, hx2⟩ : ∃ x, x = numP T n 1 199 x1.2.2.2 := ⟨_, rfl⟩
  rw [← hx2] at c2 q2 r3
  by_cases c3 : ¬ (numP T n 1 99 x2.2.2.2).1 = 0
  · exfalso; unfold mdmP at hc; rw [if_neg g6, ← hx1, pbind_ok c1, ← hx2, pbind_ok c2, pbind_no c3] at hc; exact c3 hc
  have c3 := Decidable.of_not_not c3
  have q3 := r3.1 c3
  have r4 := numP_r (T := T) (n := n) (lo := 1) (hi := 9) (e := (numP T n 1 99 x2.2.2.2).2.2.2) (by omega) (by omega)
  obtain ⟨x3, hx3⟩ : ∃ x, x = numP T n 1 99 x2.2.2.2 := ⟨_, rfl⟩
  rw [← hx3] at c3 q3 r4
  by_cases c4 : ¬ (numP T n 1 9 x3.2.2.2).1 = 0
  · exfalso; unfold mdmP at hc; rw [if_neg g6, ← hx1, pbind_ok c1, ← hx2, pbind_ok c2, ← hx3, pbind_ok c3, pbind_no c4] at hc; exact c4 hc
  have c4 := Decidable.of_not_not c4
  have q4 := r4.1 c4
  have r5 := semP_r (T := T) (n := n) (e := (numP T n 1 9 x3.2.2.2).2.2.2) (by omega) (by omega)
  obtain ⟨x4, hx4⟩ : ∃ x, x = numP T n 1 9 x3.2.2.2 := ⟨_, rfl⟩
  rw [← hx4] at c4 q4 r5
  by_cases c5 : ¬ (semP T n x4.2.2.2).1 = 0
  · exfalso; unfold mdmP at hc; rw [if_neg g6, ← hx1, pbind_ok c1, ← hx2, pbind_ok c2, ← hx3, pbind_ok c3, ← hx4, pbind_ok c4, pbind_no c5] at hc; exact c5 hc
  have c5 := Decidable.of_not_not c5
  have q5 := r5.1 c5
  have e1 : mdmP T n = (0, 0, cfgA x1.2.2.1 (x2.2.2.1 - 100) x3.2.2.1 x4.2.2.1, (semP T n x4.2.2.2).2.2) := by unfold mdmP; rw [if_neg g6, ← hx1, pbind_ok c1, ← hx2, pbind_ok c2, ← hx3, pbind_ok c3, ← hx4, pbind_ok c4, pbind_ok c5]
  rw [e1]
  exact ⟨AI.cfg (by omega) (by omega) (by omega) (by omega) (Int.le_refl 0), rfl, q5.1, q5.2⟩
theorem dgs_r {T : Int → Int} {n c : Int} : ∀ (m : Nat) (A : AV) (e : Int), AINV A c → 0 ≤ e → e ≤ n → (dgsP T n m A e).1 = 0 → AINV (dgsP T n m A e).2.2 c
  | 0, A, e, _, _, _, h => absurd (show (3 : Int) = 0 from h) (by decide)
  | m + 1, A, e, hA, he0, he1, hc => by
    have hr := tok_r (T := T) he1
    have hdg := hA.dg
    rw [dgsP_s] at hc ⊢
    by_cases g1 : tK T n e = 0
    · rw [if_pos g1]; exact hA
    rw [if_neg g1] at hc ⊢
    by_cases g2 : splZ T n (tS T n e) (tK T n e) (tE T n e) 1 = false
    · rw [if_pos g2] at hc; exact absurd (show (1 : Int) = 0 from hc) (by decide)
    rw [if_neg g2] at hc ⊢
    by_cases g3 : 3 ≤ A 0 4
    · rw [if_pos g3] at hc; exact absurd (show (3 : Int) = 0 from hc) (by decide)
    rw [if_neg g3] at hc ⊢
    by_cases c1 : ¬ (dogP T n (tE T n e)).1 = 0
    · rw [pbind_no c1] at hc; exact absurd hc c1
    have c1 := Decidable.of_not_not c1
    have hdr := dogP_r (T := T) (e := tE T n e) (by omega) (by omega) c1
    rw [pbind_ok c1] at hc ⊢
    by_cases c2 : ¬ (semP T n (dogP T n (tE T n e)).2.2.2.2.2).1 = 0
    · rw [pbind_no c2] at hc; exact absurd hc c2
    have c2 := Decidable.of_not_not c2
    have hsr := (semP_r (T := T) hdr.2.2.2.1 hdr.2.2.2.2).1 c2
    rw [pbind_ok c2] at hc ⊢
    exact dgs_r m _ _ (hA.dg1 (by omega) hdr.1 hdr.2.1 hdr.2.2.1) hsr.1 hsr.2 hc
theorem conf_r {T : Int → Int} {n : Int} (hn : 0 ≤ n) (hc : (confP T n).1 = 0) : AINV (confP T n).2.2 0 := by
  by_cases c1 : (mdmP T n).1 = 0
  · have hm := mdm_r hn c1
    unfold confP at hc ⊢
    rw [pbind_ok c1] at hc ⊢
    exact dgs_r 4 _ _ hm.1 hm.2.2.1 hm.2.2.2 hc
  · exfalso; unfold confP at hc; rw [pbind_no c1] at hc; exact c1 hc
section RConf
variable {l : LX} {q p : Nat} {I : Nat → Int → Int} {v : Int} {fr : Bool} {T : Int → Int} {n : Int}
theorem ct_rconf (hl : l.1.stackTraces = false) (hq : 181 ≤ q) (hp : LineAt q p) (hX : TXT I T n) (hbx : BX I p) : CT l 35 [.ref p, .ref 5] (mm q I v fr) 0 0 (oE q v fr (some (.int (iI (b01 (decide ((confP T n).1 = 0)))))) (fun K => CO I K p (confP T n))) := by
  have hpb := hp.b
  obtain ⟨hn0, hn1⟩ := hX.2.2.1
  refine mkct2 hl (by decide) (Nat.le_of_ble_eq_true rfl) (L := [some (.ref p), some (.ref 5)]) rfl ?_
  refine x_aload_n (pc := 0) rfl d35_0 ?_
  refine x_cVv (pc := 1) c35_87 (dt_begin hl hq) (ko5 (by omega)) rfl rfl (Nat.le_of_ble_eq_true rfl) (by decide +kernel) (by decide +kernel) rfl d35_1 ?_
  obtain ⟨B, hB⟩ : ∃ Z : Nat → Int → Int, Z = (up2 (up2 (up2 (up2 (up2 I 5 1 0) 5 2 0) 5 3 0) 5 4 0) 5 5 (-1)) := ⟨_, rfl⟩
  refine x_mem (J := B) (pc := 4) hB ?_
  have hBo : ∀ a, a ≠ 5 → B a = I a := fun a ha => by rw [hB, up2_off' _ _ _ ha, up2_off' _ _ _ ha, up2_off' _ _ _ ha, up2_off' _ _ _ ha, up2_off' _ _ _ ha]
  have hXB : TXT B T n := hX.of (hBo 2 (by decide)) (hBo 1 (by decide))
  have hB3 : B 5 3 = 0 := by rw [hB, up2_i (by decide), up2_i (by decide), up2_s]
  have hB4 : B 5 4 = 0 := by rw [hB, up2_i (by decide), up2_s]
  have hB5 : B 5 5 = -1 := by rw [hB, up2_s]
  refine x_aload_n (pc := 4) rfl d35_4 ?_
  refine x_cVev (pc := 5) c35_92 (ct_nextX hl hq hXB (e := 0) hB3 (by decide) hn0) (ko5 (by omega)) rfl rfl (Nat.le_of_ble_eq_true rfl) (by decide +kernel) (by decide +kernel) d35_5 (fun J1 hJ1 => ?_)
  obtain ⟨j1, j2, j3, j4⟩ := hJ1
  have hX1 := hXB.tk j1
  have hjo : ∀ a, a ≠ 5 → J1 a = I a := fun a ha => by rw [j1.1 a ha, hBo a ha]
  have hB1 := bx_cg (p := p) (by omega) hjo hbx
  refine x_aload_n (pc := 8) rfl d35_8 ?_
  refine x_aload_n (pc := 9) rfl d35_9 ?_
  refine x_cVes (pc := 10) c35_95 (ct_modem hl hq hp hX1 hB1 j2 j3 j4) hp.o0 rfl rfl (Nat.le_of_ble_eq_true rfl) (by decide +kernel) (by decide +kernel) d35_10 (fun J2 hJ2 => ?_)
  refine x_ifB_eq (pc := 13) (tgt := 28) d35_13 (by decide) (fun g13 => ?_) (fun g13 => ?_)
  · refine x_iconst (pc := 28) d35_28 ?_
    refine x_zret (pc := 29) rfl (Or.inl rfl) (fun _ => rfl) d35_29 ?_
    have c1 := of_decide_eq_false g13
    obtain ⟨m0, m1, m2, m3⟩ := hJ2
    have e1 : confP T n = ((mdmP T n).1, (mdmP T n).2.1, fun _ _ => 0) := pbind_no c1
    rw [e1, decide_eq_false c1]
    exact ⟨_, rfl, fun a h5 hpp => by rw [m0 a h5 hpp, hjo a h5], m1, fun z => absurd z c1, fun _ => m3 c1⟩
  · have c1 := of_decide_eq_true g13
    have hm := mdm_r (T := T) hn0 c1
    obtain ⟨m0, m1, m2, m3⟩ := hJ2
    obtain ⟨k1, k2, k3, k4, k5⟩ := m2 c1
    have hX2 : TXT J2 T n := hX1.of (m0 2 (by decide) (by omega)) (m0 1 (by decide) (by omega))
    rw [j1.2 4 (by decide) (by decide) (by decide), hB4] at k4
    rw [j1.2 5 (by decide) (by decide) (by decide), hB5] at k5
    refine x_aload_n (pc := 16) rfl d35_16 ?_
    refine x_aload_n (pc := 17) rfl d35_17 ?_
    refine x_cVes (pc := 18) c35_99 (ct_rdogs hl hq hp (A := (mdmP T n).2.2.1) (e := (mdmP T n).2.2.2) hm.2.1 hm.1 hX2 k3 hm.2.2.1 hm.2.2.2 k4 k5 k1 k2) hp.o0 rfl rfl (Nat.le_of_ble_eq_true rfl) (by decide +kernel) (by decide +kernel) d35_18 (fun J3 hJ3 => ?_)
    refine x_ifB_eq (pc := 21) (tgt := 28) d35_21 (by decide) (fun g21 => ?_) (fun g21 => ?_)
    · refine x_iconst (pc := 28) d35_28 ?_
      refine x_zret (pc := 29) rfl (Or.inl rfl) (fun _ => rfl) d35_29 ?_
      have c2 := of_decide_eq_false g21
      have e1 : confP T n = dgsP T n 4 (mdmP T n).2.2.1 (mdmP T n).2.2.2 := pbind_ok c1
      obtain ⟨d0, d1, d2, d3⟩ := hJ3
      rw [e1, decide_eq_false c2]
      exact ⟨_, rfl, fun a h5 hpp => by rw [d0 a h5 hpp, m0 a h5 hpp, hjo a h5], d1, fun z => absurd z c2, fun _ => d3 c2⟩
    · refine x_iconst (pc := 24) d35_24 ?_
      refine x_goto (pc := 25) (tgt := 29) d35_25 (by decide) ?_
      refine x_zret (pc := 29) rfl (Or.inr rfl) (fun _ => rfl) d35_29 ?_
      have c2 := of_decide_eq_true g21
      have e1 : confP T n = dgsP T n 4 (mdmP T n).2.2.1 (mdmP T n).2.2.2 := pbind_ok c1
      obtain ⟨d0, d1, d2, d3⟩ := hJ3
      rw [e1, decide_eq_true c2]
      exact ⟨_, rfl, fun a h5 hpp => by rw [d0 a h5 hpp, m0 a h5 hpp, hjo a h5], d1, d2, d3⟩
end RConf
