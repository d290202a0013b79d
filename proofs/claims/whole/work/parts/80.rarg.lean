/-! ===== the reference: a command's name and arguments ===== -/
theorem NX.tr {I J K : Nat → Int → Int} {T : Int → Int} {n e : Int} (h1 : NX I J T n e) (h2 : NX J K T n e) : NX I K T n e := ⟨h1.1.trans h2.1, h2.2.1, h2.2.2.1, h2.2.2.2.1, h2.2.2.2.2.1.trans h1.2.2.2.2.1, h2.2.2.2.2.2.trans h1.2.2.2.2.2⟩
theorem NX_i {I K : Nat → Int → Int} {T : Int → Int} {n e : Int} (h : e ≤ n) : NX I K T n (tS T n e) = NX I K T n e := by unfold NX; rw [(tS_i h).1]
section Rarg
variable {l : LX} {q : Nat} {I : Nat → Int → Int} {v : Int} {fr : Bool} {T : Int → Int} {n : Int}
theorem rt_sees2 (hl : l.1.stackTraces = false) (hq : 192 ≤ q) (hX : RTX I T n) {i : Nat} (hti : i < nTC) {e : Int} (h16 : I 181 16 = 0) (he : I 181 13 = tS T n e) (e0 : 0 ≤ e) (e1 : e ≤ n) : CT l 205 [.ref 181, .ref (scr + 1 + i)] (mm q I v fr) 0 0 (oE q v fr (some (.int (iI (b01 (splZ T n (tS T n e) (tK T n e) (tE T n e) i))))) (fun K => NX I K T n e)) := by
  have hr := tok_r (T := T) e1
  have h := rt_sees (v := v) (fr := fr) hl hq hX hti (e := tS T n e) h16 he (by omega) (by omega)
  rw [(tS_i e1).1, (tS_i e1).2.1, (tS_i e1).2.2, show (fun K => NX I K T n (tS T n e)) = fun K => NX I K T n e from funext fun K => NX_i e1] at h
  exact h
/-- the names of the second four -/
def nam2 (T : Int → Int) (n s k e : Int) : Int := if splZ T n s k e 4 = true then 4 else if splZ T n s k e 5 = true then 5 else if splZ T n s k e 6 = true then 6 else if splZ T n s k e 7 = true then 7 else -1
theorem rt_other (hl : l.1.stackTraces = false) (hq : 192 ≤ q) (hX : RTX I T n) {e : Int} (h16 : I 181 16 = 0) (he : I 181 13 = tS T n e) (e0 : 0 ≤ e) (e1 : e ≤ n) : CT l 216 [.ref 181] (mm q I v fr) 0 0 (oE q v fr (some (.int (iI (nam2 T n (tS T n e) (tK T n e) (tE T n e))))) (fun K => NX I K T n e)) := by
  obtain ⟨_, _, s6, s4, s5, s7, _⟩ := spl8 T n (tS T n e) (tK T n e) (tE T n e)
  unfold nam2
  rw [← s4, ← s5, ← s6, ← s7]
  refine mkct2 hl (by decide) (Nat.le_of_ble_eq_true rfl) (L := [some (.ref 181)]) rfl ?_
  refine x_aload_n (pc := 0) rfl d216_0 ?_
  refine x_ldcwS (pc := 1) k216_281 d216_1 ?_
  refine x_cVes (pc := 4) c216_243 (rt_sees2 hl hq hX (i := 13) (by decide) (e := e) h16 he e0 e1) (xo181 (by omega)) rfl rfl (Nat.le_of_ble_eq_true rfl) (by decide +kernel) (by decide +kernel) d216_4 (fun J1 hJ1 => ?_)
  have hX1 := hX.pt hJ1.1
  have a1 : J1 181 16 = 0 := hJ1.2.2.2.2.1.trans h16
  refine x_ifB_eq (pc := 7) (tgt := 12) d216_7 (by decide) (fun g7 => ?_) (fun g7 => ?_)
  · refine x_aload_n (pc := 12) rfl d216_12 ?_
    refine x_ldcwS (pc := 13) k216_283 d216_13 ?_
    refine x_cVes (pc := 16) c216_243 (rt_sees2 hl hq hX1 (i := 14) (by decide) (e := e) a1 hJ1.2.1 e0 e1) (xo181 (by omega)) rfl rfl (Nat.le_of_ble_eq_true rfl) (by decide +kernel) (by decide +kernel) d216_16 (fun J2 hJ2 => ?_)
    have hX2 := hX1.pt hJ2.1
    have a2 : J2 181 16 = 0 := hJ2.2.2.2.2.1.trans a1
    refine x_ifB_eq (pc := 19) (tgt := 24) d216_19 (by decide) (fun g19 => ?_) (fun g19 => ?_)
    · refine x_aload_n (pc := 24) rfl d216_24 ?_
      refine x_ldcwS (pc := 25) k216_259 d216_25 ?_
      refine x_cVes (pc := 28) c216_243 (rt_sees2 hl hq hX2 (i := 12) (by decide) (e := e) a2 hJ2.2.1 e0 e1) (xo181 (by omega)) rfl rfl (Nat.le_of_ble_eq_true rfl) (by decide +kernel) (by decide +kernel) d216_28 (fun J3 hJ3 => ?_)
      have hX3 := hX2.pt hJ3.1
      have a3 : J3 181 16 = 0 := hJ3.2.2.2.2.1.trans a2
      refine x_ifB_eq (pc := 31) (tgt := 37) d216_31 (by decide) (fun g31 => ?_) (fun g31 => ?_)
      · refine x_aload_n (pc := 37) rfl d216_37 ?_
        refine x_ldcwS (pc := 38) k216_285 d216_38 ?_
        refine x_cVes (pc := 41) c216_243 (rt_sees2 hl hq hX3 (i := 15) (by decide) (e := e) a3 hJ3.2.1 e0 e1) (xo181 (by omega)) rfl rfl (Nat.le_of_ble_eq_true rfl) (by decide +kernel) (by decide +kernel) d216_41 (fun J4 hJ4 => ?_)
        have hX4 := hX3.pt hJ4.1
        have a4 : J4 181 16 = 0 := hJ4.2.2.2.2.1.trans a3
        refine x_ifB_eq (pc := 44) (tgt := 52) d216_44 (by decide) (fun g44 => ?_) (fun g44 => ?_)
        · refine x_iconst (pc := 52) d216_52 ?_
          refine x_iret (pc := 53) rfl (fun _ => rfl) d216_53 ?_
          rw [if_neg (by rw [g7]; decide), if_neg (by rw [g19]; decide), if_neg (by rw [g31]; decide), if_neg (by rw [g44]; decide)]; exact ⟨J4, rfl, ((hJ1.tr hJ2).tr hJ3).tr hJ4⟩
        · refine x_bipush (pc := 47) (by decide) d216_47 ?_
          refine x_goto (pc := 49) (tgt := 53) d216_49 (by decide) ?_
          refine x_iret (pc := 53) rfl (fun _ => rfl) d216_53 ?_
          rw [if_neg (by rw [g7]; decide), if_neg (by rw [g19]; decide), if_neg (by rw [g31]; decide), if_pos g44]; exact ⟨J4, rfl, ((hJ1.tr hJ2).tr hJ3).tr hJ4⟩
      · refine x_bipush (pc := 34) (by decide) d216_34 ?_
        refine x_iret (pc := 36) rfl (fun _ => rfl) d216_36 ?_
        rw [if_neg (by rw [g7]; decide), if_neg (by rw [g19]; decide), if_pos g31]; exact ⟨J3, rfl, (hJ1.tr hJ2).tr hJ3⟩
    · refine x_iconst (pc := 22) d216_22 ?_
      refine x_iret (pc := 23) rfl (fun _ => rfl) d216_23 ?_
      rw [if_neg (by rw [g7]; decide), if_pos g19]; exact ⟨J2, rfl, hJ1.tr hJ2⟩
  · refine x_iconst (pc := 10) d216_10 ?_
    refine x_iret (pc := 11) rfl (fun _ => rfl) d216_11 ?_
    rw [if_pos g7]; exact ⟨J1, rfl, hJ1⟩
theorem rt_name (hl : l.1.stackTraces = false) (hq : 192 ≤ q) (hX : RTX I T n) {e : Int} (h16 : I 181 16 = 0) (he : I 181 13 = e) (e0 : 0 ≤ e) (e1 : e ≤ n) : CT l 217 [.ref 181] (mm q I v fr) 0 0 (oE q v fr (some (.int (iI (nameZ T n (tS T n e) (tK T n e) (tE T n e))))) (fun K => NX I K T n e)) := by
  obtain ⟨_, _, _, _, _, _, s0, s1, s2, s3⟩ := spl8 T n (tS T n e) (tK T n e) (tE T n e)
  have en : nameZ T n (tS T n e) (tK T n e) (tE T n e) = if splZ T n (tS T n e) (tK T n e) (tE T n e) 16 = true then 0 else if splZ T n (tS T n e) (tK T n e) (tE T n e) 17 = true then 1 else if splZ T n (tS T n e) (tK T n e) (tE T n e) 18 = true then 2 else if splZ T n (tS T n e) (tK T n e) (tE T n e) 19 = true then 3 else nam2 T n (tS T n e) (tK T n e) (tE T n e) := by rw [s0, s1, s2, s3]; rfl
  rw [en]
  refine mkct2 hl (by decide) (Nat.le_of_ble_eq_true rfl) (L := [some (.ref 181)]) rfl ?_
  refine x_aload_n (pc := 0) rfl d217_0 ?_
  refine x_ldcwS (pc := 1) k217_287 d217_1 ?_
  refine x_cVes (pc := 4) c217_243 (rt_sees hl hq hX (i := 16) (by decide) (e := e) h16 he e0 e1) (xo181 (by omega)) rfl rfl (Nat.le_of_ble_eq_true rfl) (by decide +kernel) (by decide +kernel) d217_4 (fun J1 hJ1 => ?_)
  have hX1 := hX.pt hJ1.1
  have a1 : J1 181 16 = 0 := hJ1.2.2.2.2.1.trans h16
  refine x_ifB_eq (pc := 7) (tgt := 12) d217_7 (by decide) (fun g7 => ?_) (fun g7 => ?_)
  · refine x_aload_n (pc := 12) rfl d217_12 ?_
    refine x_ldcwS (pc := 13) k217_289 d217_13 ?_
    refine x_cVes (pc := 16) c217_243 (rt_sees2 hl hq hX1 (i := 17) (by decide) (e := e) a1 hJ1.2.1 e0 e1) (xo181 (by omega)) rfl rfl (Nat.le_of_ble_eq_true rfl) (by decide +kernel) (by decide +kernel) d217_16 (fun J2 hJ2 => ?_)
    have hX2 := hX1.pt hJ2.1
    have a2 : J2 181 16 = 0 := hJ2.2.2.2.2.1.trans a1
    refine x_ifB_eq (pc := 19) (tgt := 24) d217_19 (by decide) (fun g19 => ?_) (fun g19 => ?_)
    · refine x_aload_n (pc := 24) rfl d217_24 ?_
      refine x_ldcwS (pc := 25) k217_291 d217_25 ?_
      refine x_cVes (pc := 28) c217_243 (rt_sees2 hl hq hX2 (i := 18) (by decide) (e := e) a2 hJ2.2.1 e0 e1) (xo181 (by omega)) rfl rfl (Nat.le_of_ble_eq_true rfl) (by decide +kernel) (by decide +kernel) d217_28 (fun J3 hJ3 => ?_)
      have hX3 := hX2.pt hJ3.1
      have a3 : J3 181 16 = 0 := hJ3.2.2.2.2.1.trans a2
      refine x_ifB_eq (pc := 31) (tgt := 36) d217_31 (by decide) (fun g31 => ?_) (fun g31 => ?_)
      · refine x_aload_n (pc := 36) rfl d217_36 ?_
        refine x_ldcwS (pc := 37) k217_293 d217_37 ?_
        refine x_cVes (pc := 40) c217_243 (rt_sees2 hl hq hX3 (i := 19) (by decide) (e := e) a3 hJ3.2.1 e0 e1) (xo181 (by omega)) rfl rfl (Nat.le_of_ble_eq_true rfl) (by decide +kernel) (by decide +kernel) d217_40 (fun J4 hJ4 => ?_)
        have hX4 := hX3.pt hJ4.1
        have a4 : J4 181 16 = 0 := hJ4.2.2.2.2.1.trans a3
        refine x_ifB_eq (pc := 43) (tgt := 50) d217_43 (by decide) (fun g43 => ?_) (fun g43 => ?_)
        · refine x_aload_n (pc := 50) rfl d217_50 ?_
          refine x_cVes (pc := 51) c217_295 (rt_other hl hq hX4 (e := e) a4 hJ4.2.1 e0 e1) (xo181 (by omega)) rfl rfl (Nat.le_of_ble_eq_true rfl) (by decide +kernel) (by decide +kernel) d217_51 (fun J5 hJ5 => ?_)
          refine x_iret (pc := 54) rfl (fun _ => rfl) d217_54 ?_
          rw [if_neg (by rw [g7]; decide), if_neg (by rw [g19]; decide), if_neg (by rw [g31]; decide), if_neg (by rw [g43]; decide)]; exact ⟨J5, rfl, (((hJ1.tr hJ2).tr hJ3).tr hJ4).tr hJ5⟩
        · refine x_iconst (pc := 46) d217_46 ?_
          refine x_goto (pc := 47) (tgt := 54) d217_47 (by decide) ?_
          refine x_iret (pc := 54) rfl (fun _ => rfl) d217_54 ?_
          rw [if_neg (by rw [g7]; decide), if_neg (by rw [g19]; decide), if_neg (by rw [g31]; decide), if_pos g43]; exact ⟨J4, rfl, ((hJ1.tr hJ2).tr hJ3).tr hJ4⟩
      · refine x_iconst (pc := 34) d217_34 ?_
        refine x_iret (pc := 35) rfl (fun _ => rfl) d217_35 ?_
        rw [if_neg (by rw [g7]; decide), if_neg (by rw [g19]; decide), if_pos g31]; exact ⟨J3, rfl, (hJ1.tr hJ2).tr hJ3⟩
    · refine x_iconst (pc := 22) d217_22 ?_
      refine x_iret (pc := 23) rfl (fun _ => rfl) d217_23 ?_
      rw [if_neg (by rw [g7]; decide), if_pos g19]; exact ⟨J2, rfl, hJ1.tr hJ2⟩
  · refine x_iconst (pc := 10) d217_10 ?_
    refine x_iret (pc := 11) rfl (fun _ => rfl) d217_11 ?_
    rw [if_pos g7]; exact ⟨J1, rfl, hJ1⟩
/-- only what reading needs has changed, and what is told from t on -/
def PTT (I K : Nat → Int → Int) (t : Int) : Prop := (∀ a, a ≠ 181 → a ≠ 190 → K a = I a) ∧ (∀ j : Int, j < 13 ∨ 17 < j → K 181 j = I 181 j) ∧ ∀ i : Int, i < t → K 190 i = I 190 i
theorem PT.tt {I K : Nat → Int → Int} (h : PT I K) (t : Int) : PTT I K t := ⟨fun a a1 _ => h.1 a a1, h.2, fun i _ => by rw [h.1 190 (by decide)]⟩
theorem PTT.trans {I J K : Nat → Int → Int} {t : Int} (h : PTT I J t) (h2 : PTT J K t) : PTT I K t := ⟨fun a a1 a2 => by rw [h2.1 a a1 a2]; exact h.1 a a1 a2, fun j hj => by rw [h2.2.1 j hj]; exact h.2.1 j hj, fun i hi => by rw [h2.2.2 i hi]; exact h.2.2 i hi⟩
theorem PTT.up {I J : Nat → Int → Int} {t j z : Int} (h : PTT I J t) (hj : t ≤ j) : PTT I (up2 J 190 j z) t := ⟨fun a a1 a2 => by rw [up2_off' _ _ _ a2]; exact h.1 a a1 a2, fun i hi => by rw [up2_p (by decide)]; exact h.2.1 i hi, fun i hi => by rw [up2_i (by omega)]; exact h.2.2 i hi⟩
theorem PTT.le {I J : Nat → Int → Int} {t u : Int} (h : PTT I J t) (hu : u ≤ t) : PTT I J u := ⟨h.1, h.2.1, fun i hi => h.2.2 i (by omega)⟩
theorem RTX.tt {I K : Nat → Int → Int} {T : Int → Int} {n t : Int} (h : RTX I T n) (p : PTT I K t) : RTX K T n := ⟨by rw [p.2.1 12 (by decide)]; exact h.1, fun i i0 i1 => by rw [p.1 189 (by decide) (by decide)]; exact h.2.1 i i0 i1, h.2.2⟩
/-- what is told at t of a command: its arguments -/
def TLD (K : Nat → Int → Int) (T : Int → Int) (t kd a b c : Int) : Prop :=
  (kd = 0 → K 190 t = b ∧ ∀ k : Int, 0 ≤ k → k < b → K 190 (t + 1 + k) = T (a + k)) ∧ (kd = 6 → K 190 t = a ∧ K 190 (t + 1) = b ∧ K 190 (t + 2) = c) ∧ (kd = 5 → K 190 t = a - 100) ∧ (kd ≠ 0 → kd ≠ 5 → kd ≠ 6 → K 190 t = a)
/-- arguments read -/
def AQ (I K : Nat → Int → Int) (T : Int → Int) (t kd : Int) (r : Int × Int × Int × Int × Int × Int) : Prop := PTT I K t ∧ (r.1 = 0 → K 181 16 = 0 ∧ K 181 17 = I 181 17 ∧ K 181 13 = r.2.2.2.2.2 ∧ TLD K T t kd r.2.2.1 r.2.2.2.1 r.2.2.2.2.1) ∧ (r.1 ≠ 0 → K 181 16 = r.1 ∧ K 181 17 = r.2.1)
theorem AQ.ef {I K : Nat → Int → Int} {T : Int → Int} {t kd : Int} {r : Int × Int × Int × Int × Int × Int} (p : PTT I K t) (h : EF K r.1 r.2.1) : AQ I K T t kd r := ⟨p, fun z => absurd z h.1, fun _ => h.2⟩
theorem TLD1 {K : Nat → Int → Int} {T : Int → Int} {t kd a b c : Int} (h0 : kd ≠ 0) (h5 : kd ≠ 5) (h6 : kd ≠ 6) (h : K 190 t = a) : TLD K T t kd a b c := ⟨fun z => absurd z h0, fun z => absurd z h6, fun z => absurd z h5, fun _ _ _ => h⟩
theorem rt_dogH (hl : l.1.stackTraces = false) (hq : 192 ≤ q) (hX : RTX I T n) {e t : Int} (h16 : I 181 16 = 0) (he : I 181 13 = e) (e0 : 0 ≤ e) (e1 : e ≤ n) (t0 : 0 ≤ t) (t1 : t ≤ 523) : CT l 219 [.ref 181, .int (iI t)] (mm q I v fr) 0 0 (oE q v fr none (fun K => AQ I K T t 6 (dogP T n e))) := by
  have heI : I 181 16 = 0 → I 181 13 = e ∧ 0 ≤ e ∧ e ≤ n := fun _ => ⟨he, e0, e1⟩
  refine mkct2 hl (by decide) (Nat.le_of_ble_eq_true rfl) (L := [some (.ref 181), some (.int (iI t))]) rfl ?_
  refine x_aload_n (pc := 0) rfl d219_0 ?_
  refine m_getR (pc := 1) f219_38 (by decide +kernel) (xo181 (by omega)) rr181_20 d219_1 ?_
  refine x_iload_n (pc := 4) rfl d219_4 ?_
  refine x_aload_n (pc := 5) rfl d219_5 ?_
  refine x_iconst (pc := 6) d219_6 ?_
  refine x_sipush (pc := 7) (by decide) d219_7 ?_
  refine x_cVes (pc := 10) c219_250 (rt_num hl hq hX (e := e) (lo := 2) (hi := 999) ⟨by omega, by omega⟩ ⟨by omega, by omega⟩ (by omega) heI) (xo181 (by omega)) rfl rfl (Nat.le_of_ble_eq_true rfl) (by decide +kernel) (by decide +kernel) d219_10 (fun J1 hJ1 => ?_)
  obtain ⟨z1, hz1⟩ : ∃ z : Int, z = (numV I T n 2 999 e) := ⟨_, rfl⟩
  rw [← hz1]
  have wz1 : 2 ≤ z1 ∧ z1 ≤ 999 := by rw [hz1]; exact numV_r (by omega) (fun y => (heI y).2)
  refine m_iast (pc := 13) (xa190 (by omega)) (by omega) (by omega) (by omega) d219_13 ?_
  obtain ⟨M1, hM1⟩ : ∃ Z : Nat → Int → Int, Z = (up2 J1 190 t z1) := ⟨_, rfl⟩
  refine x_mem (J := M1) (pc := 14) hM1 ?_
  have m1 : M1 181 = J1 181 := by rw [hM1]; exact up2_off' _ _ _ (by decide)
  have p1 : PTT I M1 t := by rw [hM1]; exact (hJ1.1.tt t).up (Int.le_refl t)
  have hXM1 := hX.tt p1
  have hr1 : 0 ≤ M1 181 16 ∧ M1 181 16 ≤ 3 := by rw [m1]; exact hJ1.rg (by omega) (numP_c _ _ _ _ _)
  have he1 := hJ1.nx (fun _ => ⟨he, e0, e1⟩) m1
  refine x_aload_n (pc := 14) rfl d219_14 ?_
  refine m_getR (pc := 15) f219_38 (by decide +kernel) (xo181 (by omega)) rr181_20 d219_15 ?_
  refine x_iload_n (pc := 18) rfl d219_18 ?_
  refine x_iconst (pc := 19) d219_19 ?_
  refine x_iadd (pc := 20) d219_20 ?_
  refine x_aload_n (pc := 21) rfl d219_21 ?_
  refine x_iconst (pc := 22) d219_22 ?_
  refine x_aload_n (pc := 23) rfl d219_23 ?_
  refine m_getR (pc := 24) f219_38 (by decide +kernel) (xo181 (by omega)) rr181_20 d219_24 ?_
  refine x_iload_n (pc := 27) rfl d219_27 ?_
  refine m_iald (pc := 28) (xa190 (by omega)) (by omega) (by omega) (by omega) d219_28 ?_
  refine x_val (pc := 29) (w := z1) (by rw [hM1, up2_s]) ?_
  refine x_iconst (pc := 29) d219_29 ?_
  refine x_isub (pc := 30) d219_30 ?_
  refine x_cVes (pc := 31) c219_250 (rt_num hl hq hXM1 (e := (numP T n 2 999 e).2.2.2) (lo := 1) (hi := (z1 - 1)) ⟨by omega, by omega⟩ ⟨by omega, by omega⟩ hr1 he1) (xo181 (by omega)) rfl rfl (Nat.le_of_ble_eq_true rfl) (by decide +kernel) (by decide +kernel) d219_31 (fun J2 hJ2 => ?_)
  obtain ⟨z2, hz2⟩ : ∃ z : Int, z = (numV M1 T n 1 (z1 - 1) ((numP T n 2 999 e).2.2.2)) := ⟨_, rfl⟩
  rw [← hz2]
  have wz2 : 1 ≤ z2 ∧ z2 ≤ (z1 - 1) := by rw [hz2]; exact numV_r (by omega) (fun y => (he1 y).2)
  refine m_iast (pc := 34) (xa190 (by omega)) (by omega) (by omega) (by omega) d219_34 ?_
  obtain ⟨M2, hM2⟩ : ∃ Z : Nat → Int → Int, Z = (up2 J2 190 (t + 1) z2) := ⟨_, rfl⟩
  refine x_mem (J := M2) (pc := 35) hM2 ?_
  have m2 : M2 181 = J2 181 := by rw [hM2]; exact up2_off' _ _ _ (by decide)
  have p2 : PTT I M2 t := by rw [hM2]; exact (p1.trans (hJ2.1.tt t)).up (by omega)
  have hXM2 := hX.tt p2
  have hr2 : 0 ≤ M2 181 16 ∧ M2 181 16 ≤ 3 := by rw [m2]; exact hJ2.rg hr1 (numP_c _ _ _ _ _)
  have he2 := hJ2.nx he1 m2
  refine x_aload_n (pc := 35) rfl d219_35 ?_
  refine m_getR (pc := 36) f219_38 (by decide +kernel) (xo181 (by omega)) rr181_20 d219_36 ?_
  refine x_iload_n (pc := 39) rfl d219_39 ?_
  refine x_iconst (pc := 40) d219_40 ?_
  refine x_iadd (pc := 41) d219_41 ?_
  refine x_aload_n (pc := 42) rfl d219_42 ?_
  refine x_iconst (pc := 43) d219_43 ?_
  refine x_sipush (pc := 44) (by decide) d219_44 ?_
  refine x_cVes (pc := 47) c219_250 (rt_num hl hq hXM2 (e := (numP T n 1 (z1 - 1) (numP T n 2 999 e).2.2.2).2.2.2) (lo := 0) (hi := 999) ⟨by omega, by omega⟩ ⟨by omega, by omega⟩ hr2 he2) (xo181 (by omega)) rfl rfl (Nat.le_of_ble_eq_true rfl) (by decide +kernel) (by decide +kernel) d219_47 (fun J3 hJ3 => ?_)
  obtain ⟨z3, hz3⟩ : ∃ z : Int, z = (numV M2 T n 0 999 ((numP T n 1 (z1 - 1) (numP T n 2 999 e).2.2.2).2.2.2)) := ⟨_, rfl⟩
  rw [← hz3]
  have wz3 : 0 ≤ z3 ∧ z3 ≤ 999 := by rw [hz3]; exact numV_r (by omega) (fun y => (he2 y).2)
  refine m_iast (pc := 50) (xa190 (by omega)) (by omega) (by omega) (by omega) d219_50 ?_
  refine x_vret (pc := 51) rfl (fun _ => rfl) d219_51 ?_
  have p3 : PTT I (up2 J3 190 (t + 2) z3) t := (p2.trans (hJ3.1.tt t)).up (by omega)
  refine ⟨_, rfl, ?_⟩
  have r3 : up2 J3 190 (t + 2) z3 181 = J3 181 := up2_off' _ _ _ (by decide)
  by_cases c1 : (numP T n 2 999 e).1 = 0
  · have o1 := hJ1.ok h16 c1
    have k1 : M1 181 16 = 0 := by rw [m1]; exact o1.1
    have v1 : z1 = (numP T n 2 999 e).2.2.1 := by rw [hz1, numV_ok h16 c1]
    have ed : dogP T n e = pbind (numP T n 1 ((numP T n 2 999 e).2.2.1 - 1) (numP T n 2 999 e).2.2.2) (0, 0, 0, 0) fun b => pbind (numP T n 0 999 b.2) (0, 0, 0, 0) fun c => (0, 0, (numP T n 2 999 e).2.2.1, b.1, c.1, c.2) := by unfold dogP; rw [pbind_ok c1]
    rw [← v1] at ed
    by_cases c2 : (numP T n 1 (z1 - 1) (numP T n 2 999 e).2.2.2).1 = 0
    · have o2 := hJ2.ok k1 c2
      have k2 : M2 181 16 = 0 := by rw [m2]; exact o2.1
      have v2 : z2 = (numP T n 1 (z1 - 1) (numP T n 2 999 e).2.2.2).2.2.1 := by rw [hz2, numV_ok k1 c2]
      rw [pbind_ok c2] at ed
      by_cases c3 : (numP T n 0 999 (numP T n 1 (z1 - 1) (numP T n 2 999 e).2.2.2).2.2.2).1 = 0
      · have o3 := hJ3.ok k2 c3
        have v3 : z3 = (numP T n 0 999 (numP T n 1 (z1 - 1) (numP T n 2 999 e).2.2.2).2.2.2).2.2.1 := by rw [hz3, numV_ok k2 c3]
        rw [pbind_ok c3, ← v2, ← v3] at ed
        rw [ed]
        refine ⟨p3, fun _ => ⟨by rw [r3]; exact o3.1, by rw [r3, o3.2.1, m2, o2.2.1, m1, o1.2.1], by rw [r3]; exact o3.2.2, fun z => absurd z (by decide), fun _ => ⟨?_, ?_, up2_s⟩, fun z => absurd z (by decide), fun _ _ z => absurd rfl z⟩, fun z => absurd rfl z⟩
        · rw [up2_i (by omega), hJ3.1.1 190 (by decide), hM2, up2_i (by omega), hJ2.1.1 190 (by decide), hM1, up2_s]
        · rw [up2_i (by omega), hJ3.1.1 190 (by decide), hM2, up2_s]
      · rw [pbind_no c3] at ed
        rw [ed]
        exact AQ.ef p3 ((hJ3.er k2 c3).row r3)
    · rw [pbind_no c2] at ed
      rw [ed]
      exact AQ.ef p3 ((hJ3.ef ((hJ2.er k1 c2).row m2)).row r3)
  · have ed : dogP T n e = ((numP T n 2 999 e).1, (numP T n 2 999 e).2.1, 0, 0, 0, 0) := by unfold dogP; rw [pbind_no c1]
    rw [ed]
    exact AQ.ef p3 ((hJ3.ef ((hJ2.ef ((hJ1.er h16 c1).row m1)).row m2)).row r3)
theorem lp_word (hl : l.1.stackTraces = false) (hq : 192 ≤ q) (hX : RTX I T n) {t s : Int} {w : Nat} (t0 : 0 ≤ t) (t1 : t ≤ 523) (s0 : 0 ≤ s) (s1 : s + w ≤ n) (w16 : w ≤ 16) (h14 : I 181 14 = s) (h15 : I 181 15 = w) {Q : OO → Prop} (hQ : ∀ K : Nat → Int → Int, (∀ a, a ≠ 190 → K a = I a) → (∀ k : Int, 0 ≤ k → k < w → K 190 (t + 1 + k) = T (s + k)) → (∀ i : Int, i < t + 1 → K 190 i = I 190 i) → Ex l 218 0 0 103 [some (.ref 181), none, none, none] [] (mm q K v fr) Q) : ∀ (m j : Nat) (J : Nat → Int → Int), m + j = w → (∀ a, a ≠ 190 → J a = I a) → (∀ k : Int, 0 ≤ k → k < j → J 190 (t + 1 + k) = T (s + k)) → (∀ i : Int, i < t + 1 → J 190 i = I 190 i) →
    Ex l 218 0 0 69 [some (.ref 181), some (.int (iI t)), none, some (.int (iI j))] [] (mm q J v fr) Q := by
  have hx := hX.2.2
  intro m
  induction m with
  | zero =>
    intro j J hj o z u
    refine x_iload_n (pc := 69) rfl d218_69 ?_
    refine x_aload_n (pc := 70) rfl d218_70 ?_
    refine m_getI (pc := 71) (z := 15) f218_214 (by decide +kernel) rfl (xo181 (by omega)) d218_71 ?_
    refine x_val (pc := 74) (w := (w : Int)) (by rw [o 181 (by decide)]; exact h15) ?_
    refine x_icmp_ge (pc := 74) (tgt := 103) ⟨by omega, by omega⟩ ⟨by omega, by omega⟩ d218_74 (by decide) (fun g74 => ?_) (fun g74 => ?_)
    · refine x_mask [true, false, true, false] ?_
      dsimp only [mask]
      exact hQ J o (fun k k0 k1 => z k k0 (by omega)) u
    · exfalso; omega
  | succ m ih =>
    intro j J hj o z u
    have hXJ : RTX J T n := ⟨by rw [o 181 (by decide)]; exact hX.1, fun i i0 i1 => by rw [o 189 (by decide)]; exact hX.2.1 i i0 i1, hX.2.2⟩
    refine x_iload_n (pc := 69) rfl d218_69 ?_
    refine x_aload_n (pc := 70) rfl d218_70 ?_
    refine m_getI (pc := 71) (z := 15) f218_214 (by decide +kernel) rfl (xo181 (by omega)) d218_71 ?_
    refine x_val (pc := 74) (w := (w : Int)) (by rw [o 181 (by decide)]; exact h15) ?_
    refine x_icmp_ge (pc := 74) (tgt := 103) ⟨by omega, by omega⟩ ⟨by omega, by omega⟩ d218_74 (by decide) (fun g74 => ?_) (fun g74 => ?_)
    · refine x_mask [true, false, true, false] ?_
      dsimp only [mask]
      exfalso; omega
    · refine x_aload_n (pc := 77) rfl d218_77 ?_
      refine m_getR (pc := 78) f218_38 (by decide +kernel) (xo181 (by omega)) rr181_20 d218_78 ?_
      refine x_iload_n (pc := 81) rfl d218_81 ?_
      refine x_iconst (pc := 82) d218_82 ?_
      refine x_iadd (pc := 83) d218_83 ?_
      refine x_iload_n (pc := 84) rfl d218_84 ?_
      refine x_iadd (pc := 85) d218_85 ?_
      refine x_aload_n (pc := 86) rfl d218_86 ?_
      refine x_aload_n (pc := 87) rfl d218_87 ?_
      refine m_getI (pc := 88) (z := 14) f218_211 (by decide +kernel) rfl (xo181 (by omega)) d218_88 ?_
      refine x_val (pc := 91) (w := s) (by rw [o 181 (by decide)]; exact h14) ?_
      refine x_iload_n (pc := 91) rfl d218_91 ?_
      refine x_iadd (pc := 92) d218_92 ?_
      refine x_cVs (pc := 93) c218_208 (rt_byte hl hq hXJ (i := (s + j)) (by omega) (by omega)) (xo181 (by omega)) rfl rfl (Nat.le_of_ble_eq_true rfl) (by decide +kernel) (by decide +kernel) rfl d218_93 ?_
      have hat1 := atT_r hXJ.2.2.2 (s + j)
      refine x_val (pc := 96) (w := (T (s + j))) (atT_in (by omega) (by omega)) ?_
      refine m_iast (pc := 96) (xa190 (by omega)) (by omega) (by omega) (by omega) d218_96 ?_
      refine x_iinc (pc := 97) rfl (by decide +kernel) rfl d218_97 ?_
      dsimp only [List.set]
      refine x_goto (pc := 100) (tgt := 69) d218_100 (by decide) ?_
      refine ih (j + 1) _ (by omega) (fun a ha => by rw [up2_off' _ _ _ ha]; exact o a ha) (fun k k0 k1 => ?_) (fun i hi => by rw [up2_i (by omega)]; exact u i hi)
      by_cases ek : k = j
      · rw [ek, up2_s]
      · rw [up2_i (by omega)]; exact z k k0 (by omega)
theorem lp_w103 (hl : l.1.stackTraces = false) (hq : 192 ≤ q) {K : Nat → Int → Int} {s w : Int} (q14 : K 181 14 = s) (q15 : K 181 15 = w) : Ex l 218 0 0 103 [some (.ref 181), none, none, none] [] (mm q K v fr) (fun o => o = (.inl none, mm q (up2 K 181 13 (s + w)) v fr)) := by
  refine x_aload_n (pc := 103) rfl d218_103 ?_
  refine x_cVv (pc := 104) c218_247 (rt_past hl hq (s := s) (w := w) (q14) (q15)) (xo181 (by omega)) rfl rfl (Nat.le_of_ble_eq_true rfl) (by decide +kernel) (by decide +kernel) rfl d218_104 ?_
  refine x_vret (pc := 107) rfl (fun _ => rfl) d218_107 ?_
  first | rfl | (exfalso; omega)
theorem rt_word (hl : l.1.stackTraces = false) (hq : 192 ≤ q) (hX : RTX I T n) {e t : Int} (h16 : I 181 16 = 0) (he : I 181 13 = e) (e0 : 0 ≤ e) (e1 : e ≤ n) (t0 : 0 ≤ t) (t1 : t ≤ 523) : CT l 218 [.ref 181, .int (iI t)] (mm q I v fr) 0 0 (oE q v fr none (fun K => AQ I K T t 0 (argP T n 0 e))) := by
  have hx := hX.2.2
  have hr := tok_r (T := T) e1
  have hw : (tK T n e = 1 ∧ wlZ T n (tS T n e) = tE T n e - tS T n e) ∨ (tK T n e ≠ 1 ∧ wlZ T n (tS T n e) = 0) := by
    by_cases c : tK T n e = 1
    · exact Or.inl ⟨c, wl_1 e0 e1 c⟩
    · exact Or.inr ⟨c, wl_0 e0 e1 c⟩
  obtain ⟨w, ew⟩ : ∃ w, w = wlZ T n (tS T n e) := ⟨_, rfl⟩
  rw [← ew] at hw
  have ea : argP T n 0 e = if tK T n e ≠ 1 then (1, tS T n e, 0, 0, 0, 0) else if 16 < tE T n e - tS T n e then (3, tS T n e, 0, 0, 0, 0) else (0, 0, tS T n e, tE T n e - tS T n e, 0, tE T n e) := rfl
  rw [ea]
  refine mkct2 hl (by decide) (Nat.le_of_ble_eq_true rfl) (L := [some (.ref 181), some (.int (iI t)), none, none]) rfl ?_
  refine x_aload_n (pc := 0) rfl d218_0 ?_
  refine m_getI (pc := 1) (z := 16) f218_221 (by decide +kernel) rfl (xo181 (by omega)) d218_1 ?_
  refine x_val (pc := 4) (w := 0) (h16) ?_
  refine x_if_eq (pc := 4) (tgt := 8) ⟨by omega, by omega⟩ d218_4 (by decide) (fun _ => ?_) (fun z => absurd z (by decide))
  refine x_aload_n (pc := 8) rfl d218_8 ?_
  refine x_cVes (pc := 9) c218_227 (rt_next hl hq hX (e := e) he (by omega) (by omega)) (xo181 (by omega)) rfl rfl (Nat.le_of_ble_eq_true rfl) (by decide +kernel) (by decide +kernel) d218_9 (fun J1 hJ1 => ?_)
  have hat2 := atT_r hx.2 (tS T n e)
  have k1 : J1 181 16 = 0 := by rw [hJ1.2.2.2.2.1]; exact h16
  refine x_istore_n (pc := 12) (by decide +kernel) rfl d218_12 ?_
  dsimp only [List.set]
  refine x_aload_n (pc := 13) rfl d218_13 ?_
  refine x_aload_n (pc := 14) rfl d218_14 ?_
  refine m_getI (pc := 15) (z := 15) f218_214 (by decide +kernel) rfl (xo181 (by omega)) d218_15 ?_
  refine x_val (pc := 18) (w := w) (by rw [ew]; exact hJ1.2.2.2.1) ?_
  refine x_if_le (pc := 18) (tgt := 25) ⟨by omega, by omega⟩ d218_18 (by decide) (fun g18 => ?_) (fun g18 => ?_)
  · refine x_iconst (pc := 25) d218_25 ?_
    refine x_iconst (pc := 26) d218_26 ?_
    refine x_cVev (pc := 27) c218_230 (rt_must hl hq (b := false) (code := 1) (by rw [k1]; decide) (by decide)) (xo181 (by omega)) rfl rfl (Nat.le_of_ble_eq_true rfl) (by decide +kernel) (by decide +kernel) d218_27 (fun J2 hJ2 => ?_)
    have rg2 := hJ2.1.rg (by rw [k1]; decide) (by decide)
    refine x_aload_n (pc := 30) rfl d218_30 ?_
    refine x_aload_n (pc := 31) rfl d218_31 ?_
    refine m_getI (pc := 32) (z := 15) f218_214 (by decide +kernel) rfl (xo181 (by omega)) d218_32 ?_
    refine x_val (pc := 35) (w := w) (by rw [ew, hJ2.2 15 (by decide) (by decide)]; exact hJ1.2.2.2.1) ?_
    refine x_bipush (pc := 35) (by decide) d218_35 ?_
    refine x_icmp_gt (pc := 37) (tgt := 44) ⟨by omega, by omega⟩ ⟨by omega, by omega⟩ d218_37 (by decide) (fun g37 => ?_) (fun g37 => ?_)
    · refine x_iconst (pc := 44) d218_44 ?_
      refine x_iconst (pc := 45) d218_45 ?_
      refine x_cVev (pc := 46) c218_230 (rt_must hl hq (b := false) (code := 3) rg2 (by decide)) (xo181 (by omega)) rfl rfl (Nat.le_of_ble_eq_true rfl) (by decide +kernel) (by decide +kernel) d218_46 (fun J3 hJ3 => ?_)
      have rg3 := hJ3.1.rg rg2 (by decide)
      have q14 : J3 181 14 = tS T n e := by rw [hJ3.2 14 (by decide) (by decide), hJ2.2 14 (by decide) (by decide)]; exact hJ1.2.2.1
      have q15 : J3 181 15 = w := by rw [ew, hJ3.2 15 (by decide) (by decide), hJ2.2 15 (by decide) (by decide)]; exact hJ1.2.2.2.1
      have b2 : J2 181 14 = tS T n e := by rw [hJ2.2 14 (by decide) (by decide)]; exact hJ1.2.2.1
      have pt3 : PT I J3 := hJ1.1.trans (hJ2.1.1.trans hJ3.1.1)
      refine x_aload_n (pc := 49) rfl d218_49 ?_
      refine m_getI (pc := 50) (z := 16) f218_221 (by decide +kernel) rfl (xo181 (by omega)) d218_50 ?_
      refine x_if_eq (pc := 53) (tgt := 57) ⟨by omega, by omega⟩ d218_53 (by decide) (fun g53 => ?_) (fun g53 => ?_)
      · refine x_aload_n (pc := 57) rfl d218_57 ?_
        refine m_getR (pc := 58) f218_38 (by decide +kernel) (xo181 (by omega)) rr181_20 d218_58 ?_
        refine x_iload_n (pc := 61) rfl d218_61 ?_
        refine x_aload_n (pc := 62) rfl d218_62 ?_
        refine m_getI (pc := 63) (z := 15) f218_214 (by decide +kernel) rfl (xo181 (by omega)) d218_63 ?_
        refine x_val (pc := 66) (w := w) (q15) ?_
        refine m_iast (pc := 66) (xa190 (by omega)) (by omega) (by omega) (by omega) d218_66 ?_
        refine x_iconst (pc := 67) d218_67 ?_
        refine x_istore_n (pc := 68) (by decide +kernel) rfl d218_68 ?_
        dsimp only [List.set]
        refine x_mask [true, true, false, true] ?_
        dsimp only [mask]
        exfalso; omega
      · refine x_vret (pc := 56) rfl (fun _ => rfl) d218_56 ?_
        exfalso; omega
    · refine x_iconst (pc := 40) d218_40 ?_
      refine x_goto (pc := 41) (tgt := 45) d218_41 (by decide) ?_
      refine x_iconst (pc := 45) d218_45 ?_
      refine x_cVev (pc := 46) c218_230 (rt_must hl hq (b := true) (code := 3) rg2 (by decide)) (xo181 (by omega)) rfl rfl (Nat.le_of_ble_eq_true rfl) (by decide +kernel) (by decide +kernel) d218_46 (fun J3 hJ3 => ?_)
      have rg3 := hJ3.1.rg rg2 (by decide)
      have q14 : J3 181 14 = tS T n e := by rw [hJ3.2 14 (by decide) (by decide), hJ2.2 14 (by decide) (by decide)]; exact hJ1.2.2.1
      have q15 : J3 181 15 = w := by rw [ew, hJ3.2 15 (by decide) (by decide), hJ2.2 15 (by decide) (by decide)]; exact hJ1.2.2.2.1
      have b2 : J2 181 14 = tS T n e := by rw [hJ2.2 14 (by decide) (by decide)]; exact hJ1.2.2.1
      have pt3 : PT I J3 := hJ1.1.trans (hJ2.1.1.trans hJ3.1.1)
      refine x_aload_n (pc := 49) rfl d218_49 ?_
      refine m_getI (pc := 50) (z := 16) f218_221 (by decide +kernel) rfl (xo181 (by omega)) d218_50 ?_
      refine x_if_eq (pc := 53) (tgt := 57) ⟨by omega, by omega⟩ d218_53 (by decide) (fun g53 => ?_) (fun g53 => ?_)
      · refine x_aload_n (pc := 57) rfl d218_57 ?_
        refine m_getR (pc := 58) f218_38 (by decide +kernel) (xo181 (by omega)) rr181_20 d218_58 ?_
        refine x_iload_n (pc := 61) rfl d218_61 ?_
        refine x_aload_n (pc := 62) rfl d218_62 ?_
        refine m_getI (pc := 63) (z := 15) f218_214 (by decide +kernel) rfl (xo181 (by omega)) d218_63 ?_
        refine x_val (pc := 66) (w := w) (q15) ?_
        refine m_iast (pc := 66) (xa190 (by omega)) (by omega) (by omega) (by omega) d218_66 ?_
        refine x_iconst (pc := 67) d218_67 ?_
        refine x_istore_n (pc := 68) (by decide +kernel) rfl d218_68 ?_
        dsimp only [List.set]
        refine x_mask [true, true, false, true] ?_
        dsimp only [mask]
        have g : EF J2 1 (J1 181 14) := hJ2.1.er k1 (by decide)
        exact absurd ((hJ3.1.ef g).2.1.symm.trans g53) (by decide)
      · refine x_vret (pc := 56) rfl (fun _ => rfl) d218_56 ?_
        have g : EF J2 1 (J1 181 14) := hJ2.1.er k1 (by decide)
        rw [if_pos (show tK T n e ≠ 1 from fun z => by have := hr.2.2.2.2.1 (by omega); omega)]
        have g3 := hJ3.1.ef g
        rw [hJ1.2.2.1] at g3
        exact ⟨J3, rfl, AQ.ef (pt3.tt t) g3⟩
  · refine x_iconst (pc := 21) d218_21 ?_
    refine x_goto (pc := 22) (tgt := 26) d218_22 (by decide) ?_
    refine x_iconst (pc := 26) d218_26 ?_
    refine x_cVev (pc := 27) c218_230 (rt_must hl hq (b := true) (code := 1) (by rw [k1]; decide) (by decide)) (xo181 (by omega)) rfl rfl (Nat.le_of_ble_eq_true rfl) (by decide +kernel) (by decide +kernel) d218_27 (fun J2 hJ2 => ?_)
    have rg2 := hJ2.1.rg (by rw [k1]; decide) (by decide)
    refine x_aload_n (pc := 30) rfl d218_30 ?_
    refine x_aload_n (pc := 31) rfl d218_31 ?_
    refine m_getI (pc := 32) (z := 15) f218_214 (by decide +kernel) rfl (xo181 (by omega)) d218_32 ?_
    refine x_val (pc := 35) (w := w) (by rw [ew, hJ2.2 15 (by decide) (by decide)]; exact hJ1.2.2.2.1) ?_
    refine x_bipush (pc := 35) (by decide) d218_35 ?_
    refine x_icmp_gt (pc := 37) (tgt := 44) ⟨by omega, by omega⟩ ⟨by omega, by omega⟩ d218_37 (by decide) (fun g37 => ?_) (fun g37 => ?_)
    · refine x_iconst (pc := 44) d218_44 ?_
      refine x_iconst (pc := 45) d218_45 ?_
      refine x_cVev (pc := 46) c218_230 (rt_must hl hq (b := false) (code := 3) rg2 (by decide)) (xo181 (by omega)) rfl rfl (Nat.le_of_ble_eq_true rfl) (by decide +kernel) (by decide +kernel) d218_46 (fun J3 hJ3 => ?_)
      have rg3 := hJ3.1.rg rg2 (by decide)
      have q14 : J3 181 14 = tS T n e := by rw [hJ3.2 14 (by decide) (by decide), hJ2.2 14 (by decide) (by decide)]; exact hJ1.2.2.1
      have q15 : J3 181 15 = w := by rw [ew, hJ3.2 15 (by decide) (by decide), hJ2.2 15 (by decide) (by decide)]; exact hJ1.2.2.2.1
      have b2 : J2 181 14 = tS T n e := by rw [hJ2.2 14 (by decide) (by decide)]; exact hJ1.2.2.1
      have pt3 : PT I J3 := hJ1.1.trans (hJ2.1.1.trans hJ3.1.1)
      refine x_aload_n (pc := 49) rfl d218_49 ?_
      refine m_getI (pc := 50) (z := 16) f218_221 (by decide +kernel) rfl (xo181 (by omega)) d218_50 ?_
      refine x_if_eq (pc := 53) (tgt := 57) ⟨by omega, by omega⟩ d218_53 (by decide) (fun g53 => ?_) (fun g53 => ?_)
      · refine x_aload_n (pc := 57) rfl d218_57 ?_
        refine m_getR (pc := 58) f218_38 (by decide +kernel) (xo181 (by omega)) rr181_20 d218_58 ?_
        refine x_iload_n (pc := 61) rfl d218_61 ?_
        refine x_aload_n (pc := 62) rfl d218_62 ?_
        refine m_getI (pc := 63) (z := 15) f218_214 (by decide +kernel) rfl (xo181 (by omega)) d218_63 ?_
        refine x_val (pc := 66) (w := w) (q15) ?_
        refine m_iast (pc := 66) (xa190 (by omega)) (by omega) (by omega) (by omega) d218_66 ?_
        refine x_iconst (pc := 67) d218_67 ?_
        refine x_istore_n (pc := 68) (by decide +kernel) rfl d218_68 ?_
        dsimp only [List.set]
        refine x_mask [true, true, false, true] ?_
        dsimp only [mask]
        have o2 : J2 181 16 = 0 ∧ _ ∧ _ := hJ2.1.ok k1 rfl
        have g : EF J3 3 (J2 181 14) := hJ3.1.er o2.1 (by decide)
        exact absurd (g.2.1.symm.trans g53) (by decide)
      · refine x_vret (pc := 56) rfl (fun _ => rfl) d218_56 ?_
        have o2 : J2 181 16 = 0 ∧ _ ∧ _ := hJ2.1.ok k1 rfl
        have g : EF J3 3 (J2 181 14) := hJ3.1.er o2.1 (by decide)
        rw [if_neg (show ¬ tK T n e ≠ 1 from by omega), if_pos (by omega)]
        rw [b2] at g
        exact ⟨J3, rfl, AQ.ef (pt3.tt t) g⟩
    · refine x_iconst (pc := 40) d218_40 ?_
      refine x_goto (pc := 41) (tgt := 45) d218_41 (by decide) ?_
      refine x_iconst (pc := 45) d218_45 ?_
      refine x_cVev (pc := 46) c218_230 (rt_must hl hq (b := true) (code := 3) rg2 (by decide)) (xo181 (by omega)) rfl rfl (Nat.le_of_ble_eq_true rfl) (by decide +kernel) (by decide +kernel) d218_46 (fun J3 hJ3 => ?_)
      have rg3 := hJ3.1.rg rg2 (by decide)
      have q14 : J3 181 14 = tS T n e := by rw [hJ3.2 14 (by decide) (by decide), hJ2.2 14 (by decide) (by decide)]; exact hJ1.2.2.1
      have q15 : J3 181 15 = w := by rw [ew, hJ3.2 15 (by decide) (by decide), hJ2.2 15 (by decide) (by decide)]; exact hJ1.2.2.2.1
      have b2 : J2 181 14 = tS T n e := by rw [hJ2.2 14 (by decide) (by decide)]; exact hJ1.2.2.1
      have pt3 : PT I J3 := hJ1.1.trans (hJ2.1.1.trans hJ3.1.1)
      refine x_aload_n (pc := 49) rfl d218_49 ?_
      refine m_getI (pc := 50) (z := 16) f218_221 (by decide +kernel) rfl (xo181 (by omega)) d218_50 ?_
      refine x_if_eq (pc := 53) (tgt := 57) ⟨by omega, by omega⟩ d218_53 (by decide) (fun g53 => ?_) (fun g53 => ?_)
      · refine x_aload_n (pc := 57) rfl d218_57 ?_
        refine m_getR (pc := 58) f218_38 (by decide +kernel) (xo181 (by omega)) rr181_20 d218_58 ?_
        refine x_iload_n (pc := 61) rfl d218_61 ?_
        refine x_aload_n (pc := 62) rfl d218_62 ?_
        refine m_getI (pc := 63) (z := 15) f218_214 (by decide +kernel) rfl (xo181 (by omega)) d218_63 ?_
        refine x_val (pc := 66) (w := w) (q15) ?_
        refine m_iast (pc := 66) (xa190 (by omega)) (by omega) (by omega) (by omega) d218_66 ?_
        refine x_iconst (pc := 67) d218_67 ?_
        refine x_istore_n (pc := 68) (by decide +kernel) rfl d218_68 ?_
        dsimp only [List.set]
        refine x_mask [true, true, false, true] ?_
        dsimp only [mask]
        have o2 : J2 181 16 = 0 ∧ _ ∧ _ := hJ2.1.ok k1 rfl
        have o3 : J3 181 16 = 0 ∧ _ ∧ _ := hJ3.1.ok o2.1 rfl
        have kk : tK T n e = 1 := by omega
        have wl : w = tE T n e - tS T n e := by omega
        obtain ⟨m, hm⟩ : ∃ m : Nat, (m : Int) = w := ⟨w.toNat, by omega⟩
        rw [if_neg (show ¬ tK T n e ≠ 1 from by omega), if_neg (by omega)]
        have pM : PTT I (up2 J3 190 t w) t := (pt3.tt t).up (Int.le_refl t)
        have r3 : up2 J3 190 t w 181 = J3 181 := up2_off' _ _ _ (by decide)
        refine lp_word (w := m) hl hq (hX.tt pM) t0 t1 (s := tS T n e) (by omega) (by omega) (by omega) (by rw [r3]; exact q14) (by rw [r3, hm]; exact q15) (fun K o z u => ?_) m 0 _ (by omega) (fun _ _ => rfl) (fun k k0 k1 => absurd (show k < 0 from k1) (by omega)) (fun _ _ => rfl)
        have k181 : K 181 = J3 181 := by rw [o 181 (by decide), r3]
        refine ex_mono (lp_w103 hl hq (s := tS T n e) (w := w) (by rw [k181]; exact q14) (by rw [k181]; exact q15)) fun o9 ho => ?_
        have pK : PTT I K t := ⟨fun a a1 a2 => by rw [o a a2]; exact pM.1 a a1 a2, fun j hj => by rw [k181]; exact (pt3.2 j hj), fun i hi => by rw [u i (by omega)]; exact pM.2.2 i hi⟩
        refine ⟨_, ho, ⟨fun a a1 a2 => by rw [up2_off' _ _ _ a1]; exact pK.1 a a1 a2, fun j hj => by rw [up2_i (by omega)]; exact pK.2.1 j hj, fun i hi => by rw [up2_p (by decide)]; exact pK.2.2 i hi⟩, fun _ => ⟨by rw [up2_i (by decide), k181]; exact o3.1, by rw [up2_i (by decide), k181, o3.2.1, o2.2.1]; exact hJ1.2.2.2.2.2, by rw [up2_s]; show tS T n e + w = tE T n e; omega, ?_⟩, fun z => absurd rfl z⟩
        refine ⟨fun _ => ⟨?_, fun k k0 k1 => ?_⟩, fun z => absurd z (by decide), fun z => absurd z (by decide), fun z => absurd rfl z⟩
        · rw [up2_p (by decide), u t (by omega), up2_s]; exact wl
        · rw [up2_p (by decide)]; exact z k k0 (by show k < (m : Int); have k1 : k < tE T n e - tS T n e := k1; omega)
      · refine x_vret (pc := 56) rfl (fun _ => rfl) d218_56 ?_
        have o2 : J2 181 16 = 0 ∧ _ ∧ _ := hJ2.1.ok k1 rfl
        have o3 : J3 181 16 = 0 ∧ _ ∧ _ := hJ3.1.ok o2.1 rfl
        exact absurd o3.1 g53
theorem rt_parts (hl : l.1.stackTraces = false) (hq : 192 ≤ q) (hX : RTX I T n) {e t kd : Int} (h16 : I 181 16 = 0) (he : I 181 13 = e) (e0 : 0 ≤ e) (e1 : e ≤ n) (t0 : 0 ≤ t) (t1 : t ≤ 523) (hk : 0 ≤ kd ∧ kd ≤ 7) : CT l 221 [.ref 181, .int (iI kd), .int (iI t)] (mm q I v fr) 0 0 (oE q v fr none (fun K => AQ I K T t kd (argP T n kd e))) := by
  have heI : I 181 16 = 0 → I 181 13 = e ∧ 0 ≤ e ∧ e ≤ n := fun _ => ⟨he, e0, e1⟩
  have one : ∀ (k lo hi : Int) (K : Nat → Int → Int) (z : Int), k ≠ 0 → k ≠ 5 → k ≠ 6 → numR k = (lo, hi) → z = numV I T n lo hi e → RR I K (numP T n lo hi e).1 (numP T n lo hi e).2.1 (numP T n lo hi e).2.2.2 → AQ I (up2 K 190 t z) T t k (argP T n k e) := fun k lo hi K z k0 k5 k6 hn hz hK => by
    have p : PTT I (up2 K 190 t z) t := (hK.1.tt t).up (Int.le_refl t)
    have r3 : up2 K 190 t z 181 = K 181 := up2_off' _ _ _ (by decide)
    have ea : argP T n k e = pbind (numP T n lo hi e) (0, 0, 0, 0) fun x => (0, 0, x.1, 0, 0, x.2) := by unfold argP; rw [if_neg k0, if_neg k6, hn]
    rw [ea]
    by_cases c : (numP T n lo hi e).1 = 0
    · have o := hK.ok h16 c
      rw [pbind_ok c]
      exact ⟨p, fun _ => ⟨by rw [r3]; exact o.1, by rw [r3]; exact o.2.1, by rw [r3]; exact o.2.2, TLD1 k0 k5 k6 (by rw [up2_s, hz, numV_ok h16 c])⟩, fun z => absurd rfl z⟩
    · rw [pbind_no c]
      exact AQ.ef p ((hK.er h16 c).row r3)
  have : kd = 0 ∨ kd = 1 ∨ kd = 2 ∨ kd = 3 ∨ kd = 4 ∨ kd = 5 ∨ kd = 6 ∨ kd = 7 := by omega
  rcases this with c | c | c | c | c | c | c | c <;> subst c
  · have _h := h16
    refine mkct2 hl (by decide) (Nat.le_of_ble_eq_true rfl) (L := [some (.ref 181), some (.int (iI 0)), some (.int (iI t))]) rfl ?_
    refine x_iload_n (pc := 0) rfl d221_0 ?_
    refine x_tabIn (pc := 1) (tgt := 44) ⟨by omega, by omega⟩ d221_1 (by decide) (by decide) rfl (by decide) ?_
    refine x_aload_n (pc := 44) rfl d221_44 ?_
    refine x_iload_n (pc := 45) rfl d221_45 ?_
    refine x_cVev (pc := 46) c221_298 (rt_word hl hq hX h16 he e0 e1 t0 t1) (xo181 (by omega)) rfl rfl (Nat.le_of_ble_eq_true rfl) (by decide +kernel) (by decide +kernel) d221_46 (fun J1 hJ1 => ?_)
    refine x_vret (pc := 49) rfl (fun _ => rfl) d221_49 ?_
    exact ⟨J1, rfl, hJ1⟩

  · have _h := h16
    refine mkct2 hl (by decide) (Nat.le_of_ble_eq_true rfl) (L := [some (.ref 181), some (.int (iI 1)), some (.int (iI t))]) rfl ?_
    refine x_iload_n (pc := 0) rfl d221_0 ?_
    refine x_tabIn (pc := 1) (tgt := 50) ⟨by omega, by omega⟩ d221_1 (by decide) (by decide) rfl (by decide) ?_
    refine x_aload_n (pc := 50) rfl d221_50 ?_
    refine m_getR (pc := 51) f221_38 (by decide +kernel) (xo181 (by omega)) rr181_20 d221_51 ?_
    refine x_iload_n (pc := 54) rfl d221_54 ?_
    refine x_aload_n (pc := 55) rfl d221_55 ?_
    refine x_iconst (pc := 56) d221_56 ?_
    refine x_bipush (pc := 57) (by decide) d221_57 ?_
    refine x_cVes (pc := 59) c221_250 (rt_num hl hq hX (e := e) (lo := 1) (hi := 60) ⟨by omega, by omega⟩ ⟨by omega, by omega⟩ (by omega) heI) (xo181 (by omega)) rfl rfl (Nat.le_of_ble_eq_true rfl) (by decide +kernel) (by decide +kernel) d221_59 (fun J1 hJ1 => ?_)
    obtain ⟨z1, hz1⟩ : ∃ z : Int, z = (numV I T n 1 60 e) := ⟨_, rfl⟩
    rw [← hz1]
    have wz1 : 1 ≤ z1 ∧ z1 ≤ 60 := by rw [hz1]; exact numV_r (by omega) (fun y => (heI y).2)
    refine m_iast (pc := 62) (xa190 (by omega)) (by omega) (by omega) (by omega) d221_62 ?_
    refine x_vret (pc := 63) rfl (fun _ => rfl) d221_63 ?_
    exact ⟨_, rfl, one 1 1 60 J1 z1 (by decide) (by decide) (by decide) rfl hz1 hJ1⟩
  · have _h := h16
    refine mkct2 hl (by decide) (Nat.le_of_ble_eq_true rfl) (L := [some (.ref 181), some (.int (iI 2)), some (.int (iI t))]) rfl ?_
    refine x_iload_n (pc := 0) rfl d221_0 ?_
    refine x_tabIn (pc := 1) (tgt := 64) ⟨by omega, by omega⟩ d221_1 (by decide) (by decide) rfl (by decide) ?_
    refine x_aload_n (pc := 64) rfl d221_64 ?_
    refine m_getR (pc := 65) f221_38 (by decide +kernel) (xo181 (by omega)) rr181_20 d221_65 ?_
    refine x_iload_n (pc := 68) rfl d221_68 ?_
    refine x_aload_n (pc := 69) rfl d221_69 ?_
    refine x_iconst (pc := 70) d221_70 ?_
    refine x_bipush (pc := 71) (by decide) d221_71 ?_
    refine x_cVes (pc := 73) c221_250 (rt_num hl hq hX (e := e) (lo := 0) (hi := 11) ⟨by omega, by omega⟩ ⟨by omega, by omega⟩ (by omega) heI) (xo181 (by omega)) rfl rfl (Nat.le_of_ble_eq_true rfl) (by decide +kernel) (by decide +kernel) d221_73 (fun J1 hJ1 => ?_)
    obtain ⟨z1, hz1⟩ : ∃ z : Int, z = (numV I T n 0 11 e) := ⟨_, rfl⟩
    rw [← hz1]
    have wz1 : 0 ≤ z1 ∧ z1 ≤ 11 := by rw [hz1]; exact numV_r (by omega) (fun y => (heI y).2)
    refine m_iast (pc := 76) (xa190 (by omega)) (by omega) (by omega) (by omega) d221_76 ?_
    refine x_vret (pc := 77) rfl (fun _ => rfl) d221_77 ?_
    exact ⟨_, rfl, one 2 0 11 J1 z1 (by decide) (by decide) (by decide) rfl hz1 hJ1⟩
  · have _h := h16
    refine mkct2 hl (by decide) (Nat.le_of_ble_eq_true rfl) (L := [some (.ref 181), some (.int (iI 3)), some (.int (iI t))]) rfl ?_
    refine x_iload_n (pc := 0) rfl d221_0 ?_
    refine x_tabIn (pc := 1) (tgt := 64) ⟨by omega, by omega⟩ d221_1 (by decide) (by decide) rfl (by decide) ?_
    refine x_aload_n (pc := 64) rfl d221_64 ?_
    refine m_getR (pc := 65) f221_38 (by decide +kernel) (xo181 (by omega)) rr181_20 d221_65 ?_
    refine x_iload_n (pc := 68) rfl d221_68 ?_
    refine x_aload_n (pc := 69) rfl d221_69 ?_
    refine x_iconst (pc := 70) d221_70 ?_
    refine x_bipush (pc := 71) (by decide) d221_71 ?_
    refine x_cVes (pc := 73) c221_250 (rt_num hl hq hX (e := e) (lo := 0) (hi := 11) ⟨by omega, by omega⟩ ⟨by omega, by omega⟩ (by omega) heI) (xo181 (by omega)) rfl rfl (Nat.le_of_ble_eq_true rfl) (by decide +kernel) (by decide +kernel) d221_73 (fun J1 hJ1 => ?_)
    obtain ⟨z1, hz1⟩ : ∃ z : Int, z = (numV I T n 0 11 e) := ⟨_, rfl⟩
    rw [← hz1]
    have wz1 : 0 ≤ z1 ∧ z1 ≤ 11 := by rw [hz1]; exact numV_r (by omega) (fun y => (heI y).2)
    refine m_iast (pc := 76) (xa190 (by omega)) (by omega) (by omega) (by omega) d221_76 ?_
    refine x_vret (pc := 77) rfl (fun _ => rfl) d221_77 ?_
    exact ⟨_, rfl, one 3 0 11 J1 z1 (by decide) (by decide) (by decide) rfl hz1 hJ1⟩
  · have _h := h16
    refine mkct2 hl (by decide) (Nat.le_of_ble_eq_true rfl) (L := [some (.ref 181), some (.int (iI 4)), some (.int (iI t))]) rfl ?_
    refine x_iload_n (pc := 0) rfl d221_0 ?_
    refine x_tabIn (pc := 1) (tgt := 78) ⟨by omega, by omega⟩ d221_1 (by decide) (by decide) rfl (by decide) ?_
    refine x_aload_n (pc := 78) rfl d221_78 ?_
    refine m_getR (pc := 79) f221_38 (by decide +kernel) (xo181 (by omega)) rr181_20 d221_79 ?_
    refine x_iload_n (pc := 82) rfl d221_82 ?_
    refine x_aload_n (pc := 83) rfl d221_83 ?_
    refine x_iconst (pc := 84) d221_84 ?_
    refine x_sipush (pc := 85) (by decide) d221_85 ?_
    refine x_cVes (pc := 88) c221_250 (rt_num hl hq hX (e := e) (lo := 1) (hi := 999) ⟨by omega, by omega⟩ ⟨by omega, by omega⟩ (by omega) heI) (xo181 (by omega)) rfl rfl (Nat.le_of_ble_eq_true rfl) (by decide +kernel) (by decide +kernel) d221_88 (fun J1 hJ1 => ?_)
    obtain ⟨z1, hz1⟩ : ∃ z : Int, z = (numV I T n 1 999 e) := ⟨_, rfl⟩
    rw [← hz1]
    have wz1 : 1 ≤ z1 ∧ z1 ≤ 999 := by rw [hz1]; exact numV_r (by omega) (fun y => (heI y).2)
    refine m_iast (pc := 91) (xa190 (by omega)) (by omega) (by omega) (by omega) d221_91 ?_
    refine x_vret (pc := 92) rfl (fun _ => rfl) d221_92 ?_
    exact ⟨_, rfl, one 4 1 999 J1 z1 (by decide) (by decide) (by decide) rfl hz1 hJ1⟩
  · have _h := h16
    refine mkct2 hl (by decide) (Nat.le_of_ble_eq_true rfl) (L := [some (.ref 181), some (.int (iI 5)), some (.int (iI t))]) rfl ?_
    refine x_iload_n (pc := 0) rfl d221_0 ?_
    refine x_tabIn (pc := 1) (tgt := 93) ⟨by omega, by omega⟩ d221_1 (by decide) (by decide) rfl (by decide) ?_
    refine x_aload_n (pc := 93) rfl d221_93 ?_
    refine m_getR (pc := 94) f221_38 (by decide +kernel) (xo181 (by omega)) rr181_20 d221_94 ?_
    refine x_iload_n (pc := 97) rfl d221_97 ?_
    refine x_aload_n (pc := 98) rfl d221_98 ?_
    refine x_cVes (pc := 99) c221_253 (rt_drift hl hq hX (e := e) (by omega) heI) (xo181 (by omega)) rfl rfl (Nat.le_of_ble_eq_true rfl) (by decide +kernel) (by decide +kernel) d221_99 (fun J1 hJ1 => ?_)
    obtain ⟨z1, hz1⟩ : ∃ z : Int, z = (numV I T n 1 199 e) := ⟨_, rfl⟩
    rw [← hz1]
    have wz1 : 1 ≤ z1 ∧ z1 ≤ 199 := by rw [hz1]; exact numV_r (by omega) (fun y => (heI y).2)
    refine m_iast (pc := 102) (xa190 (by omega)) (by omega) (by omega) (by omega) d221_102 ?_
    refine x_vret (pc := 103) rfl (fun _ => rfl) d221_103 ?_
    have p : PTT I (up2 J1 190 t (z1 - 100)) t := (hJ1.1.tt t).up (Int.le_refl t)
    have r3 : up2 J1 190 t (z1 - 100) 181 = J1 181 := up2_off' _ _ _ (by decide)
    have ea : argP T n 5 e = pbind (numP T n 1 199 e) (0, 0, 0, 0) fun x => (0, 0, x.1, 0, 0, x.2) := rfl
    rw [ea]
    refine ⟨_, rfl, ?_⟩
    by_cases c : (numP T n 1 199 e).1 = 0
    · have o := hJ1.ok h16 c
      rw [pbind_ok c]
      exact ⟨p, fun _ => ⟨by rw [r3]; exact o.1, by rw [r3]; exact o.2.1, by rw [r3]; exact o.2.2, fun z => absurd z (by decide), fun z => absurd z (by decide), fun _ => by rw [up2_s, hz1, numV_ok h16 c], fun _ z => absurd rfl z⟩, fun z => absurd rfl z⟩
    · rw [pbind_no c]
      exact AQ.ef p ((hJ1.er h16 c).row r3)
  · have _h := h16
    refine mkct2 hl (by decide) (Nat.le_of_ble_eq_true rfl) (L := [some (.ref 181), some (.int (iI 6)), some (.int (iI t))]) rfl ?_
    refine x_iload_n (pc := 0) rfl d221_0 ?_
    refine x_tabIn (pc := 1) (tgt := 104) ⟨by omega, by omega⟩ d221_1 (by decide) (by decide) rfl (by decide) ?_
    refine x_aload_n (pc := 104) rfl d221_104 ?_
    refine x_iload_n (pc := 105) rfl d221_105 ?_
    refine x_cVev (pc := 106) c221_301 (rt_dogH hl hq hX h16 he e0 e1 t0 t1) (xo181 (by omega)) rfl rfl (Nat.le_of_ble_eq_true rfl) (by decide +kernel) (by decide +kernel) d221_106 (fun J1 hJ1 => ?_)
    refine x_vret (pc := 109) rfl (fun _ => rfl) d221_109 ?_
    exact ⟨J1, rfl, hJ1⟩
  · have _h := h16
    refine mkct2 hl (by decide) (Nat.le_of_ble_eq_true rfl) (L := [some (.ref 181), some (.int (iI 7)), some (.int (iI t))]) rfl ?_
    refine x_iload_n (pc := 0) rfl d221_0 ?_
    refine x_tabOut (pc := 1) (tgt := 110) ⟨by omega, by omega⟩ d221_1 (by decide) (by decide) ?_
    refine x_aload_n (pc := 110) rfl d221_110 ?_
    refine m_getR (pc := 111) f221_38 (by decide +kernel) (xo181 (by omega)) rr181_20 d221_111 ?_
    refine x_iload_n (pc := 114) rfl d221_114 ?_
    refine x_aload_n (pc := 115) rfl d221_115 ?_
    refine x_iconst (pc := 116) d221_116 ?_
    refine x_iconst (pc := 117) d221_117 ?_
    refine x_cVes (pc := 118) c221_250 (rt_num hl hq hX (e := e) (lo := 0) (hi := 2) ⟨by omega, by omega⟩ ⟨by omega, by omega⟩ (by omega) heI) (xo181 (by omega)) rfl rfl (Nat.le_of_ble_eq_true rfl) (by decide +kernel) (by decide +kernel) d221_118 (fun J1 hJ1 => ?_)
    obtain ⟨z1, hz1⟩ : ∃ z : Int, z = (numV I T n 0 2 e) := ⟨_, rfl⟩
    rw [← hz1]
    have wz1 : 0 ≤ z1 ∧ z1 ≤ 2 := by rw [hz1]; exact numV_r (by omega) (fun y => (heI y).2)
    refine m_iast (pc := 121) (xa190 (by omega)) (by omega) (by omega) (by omega) d221_121 ?_
    refine x_vret (pc := 122) rfl (fun _ => rfl) d221_122 ?_
    exact ⟨_, rfl, one 7 0 2 J1 z1 (by decide) (by decide) (by decide) rfl hz1 hJ1⟩
end Rarg
