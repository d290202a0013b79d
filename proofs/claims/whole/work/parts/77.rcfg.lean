/-! ===== the reference: the configuration ===== -/
theorem RR.at {I K : Nat → Int → Int} {c p e : Int} (h : RR I K c p e) (hk : K 181 16 = 0) : I 181 16 = 0 ∧ c = 0 ∧ K 181 17 = I 181 17 ∧ K 181 13 = e := by
  by_cases h0 : I 181 16 = 0
  · by_cases hc : c = 0
    · exact ⟨h0, hc, ((h.2.2 h0).1 hc).2⟩
    · exact absurd (((h.2.2 h0).2 hc).1.symm.trans hk) hc
  · exact absurd ((h.2.1 h0).1.symm.trans hk) h0
theorem RR.rg {I K : Nat → Int → Int} {c p e : Int} (h : RR I K c p e) (hI : 0 ≤ I 181 16 ∧ I 181 16 ≤ 3) (hc : 0 ≤ c ∧ c ≤ 3) : 0 ≤ K 181 16 ∧ K 181 16 ≤ 3 := by
  by_cases h0 : I 181 16 = 0
  · by_cases hc0 : c = 0
    · rw [((h.2.2 h0).1 hc0).1]; decide
    · rw [((h.2.2 h0).2 hc0).1]; exact hc
  · rw [(h.2.1 h0).1]; exact hI
/-- in error: c at p -/
def EF (K : Nat → Int → Int) (c p : Int) : Prop := c ≠ 0 ∧ K 181 16 = c ∧ K 181 17 = p
theorem RR.ef {I K : Nat → Int → Int} {c p e c2 p2 : Int} (h : RR I K c p e) (hj : EF I c2 p2) : EF K c2 p2 := by
  have g := h.2.1 (by rw [hj.2.1]; exact hj.1)
  exact ⟨hj.1, by rw [g.1]; exact hj.2.1, by rw [g.2]; exact hj.2.2⟩
theorem RR.er {I K : Nat → Int → Int} {c p e : Int} (h : RR I K c p e) (h0 : I 181 16 = 0) (hc : c ≠ 0) : EF K c p := ⟨hc, (h.2.2 h0).2 hc⟩
theorem RR.ok {I K : Nat → Int → Int} {c p e : Int} (h : RR I K c p e) (h0 : I 181 16 = 0) (hc : c = 0) : K 181 16 = 0 ∧ K 181 17 = I 181 17 ∧ K 181 13 = e := (h.2.2 h0).1 hc
theorem EF.row {J K : Nat → Int → Int} {c p : Int} (h : EF J c p) (e : K 181 = J 181) : EF K c p := by unfold EF; rw [e]; exact h
theorem numP_c (T : Int → Int) (n lo hi e : Int) : 0 ≤ (numP T n lo hi e).1 ∧ (numP T n lo hi e).1 ≤ 3 := by
  unfold numP
  split
  · exact ⟨(by decide : (0 : Int) ≤ 1), (by decide : (1 : Int) ≤ 3)⟩
  · split
    · exact ⟨(by decide : (0 : Int) ≤ 2), (by decide : (2 : Int) ≤ 3)⟩
    · exact ⟨(by decide : (0 : Int) ≤ 0), (by decide : (0 : Int) ≤ 3)⟩
theorem semP_c (T : Int → Int) (n e : Int) : 0 ≤ (semP T n e).1 ∧ (semP T n e).1 ≤ 3 := by
  unfold semP
  split
  · exact ⟨(by decide : (0 : Int) ≤ 0), (by decide : (0 : Int) ≤ 3)⟩
  · exact ⟨(by decide : (0 : Int) ≤ 1), (by decide : (1 : Int) ≤ 3)⟩
theorem numV_ok {I : Nat → Int → Int} {T : Int → Int} {n lo hi e : Int} (h0 : I 181 16 = 0) (hc : (numP T n lo hi e).1 = 0) : numV I T n lo hi e = (numP T n lo hi e).2.2.1 := by
  unfold numV
  rw [if_neg (fun z => z h0), if_pos hc]
theorem numV_r {I : Nat → Int → Int} {T : Int → Int} {n lo hi e : Int} (hl : lo ≤ hi) (he : I 181 16 = 0 → 0 ≤ e ∧ e ≤ n) : lo ≤ numV I T n lo hi e ∧ numV I T n lo hi e ≤ hi := by
  unfold numV
  split
  · exact ⟨Int.le_refl _, hl⟩
  · rename_i h0
    have h0 := Decidable.of_not_not h0
    split
    · rename_i hc
      have := (numP_r (T := T) (n := n) (lo := lo) (hi := hi) (he h0).1 (he h0).2).1 hc
      exact ⟨this.1, this.2.1⟩
    · exact ⟨Int.le_refl _, hl⟩
theorem RTX.row {I : Nat → Int → Int} {T : Int → Int} {n j z : Int} {a : Nat} (h : RTX I T n) (h1 : a ≠ 181) (h2 : a ≠ 189) : RTX (up2 I a j z) T n := ⟨by rw [up2_p (Ne.symm h1)]; exact h.1, fun i i0 i1 => by rw [up2_p (Ne.symm h2)]; exact h.2.1 i i0 i1, h.2.2⟩
theorem spl8 (T : Int → Int) (n s k e : Int) : splZ T n s k e 11 = splZ T n s k e 8 ∧ splZ T n s k e 12 = splZ T n s k e 9 ∧ splZ T n s k e 12 = splZ T n s k e 6 ∧ splZ T n s k e 13 = splZ T n s k e 4 ∧ splZ T n s k e 14 = splZ T n s k e 5 ∧ splZ T n s k e 15 = splZ T n s k e 7 ∧ splZ T n s k e 16 = splZ T n s k e 0 ∧ splZ T n s k e 17 = splZ T n s k e 1 ∧ splZ T n s k e 18 = splZ T n s k e 2 ∧ splZ T n s k e 19 = splZ T n s k e 3 := ⟨rfl, rfl, rfl, rfl, rfl, rfl, rfl, rfl, rfl, rfl⟩
theorem spl_k {T : Int → Int} {n s k e : Int} {i : Nat} (h : splZ T n s k e i = true) : k = 1 := by
  unfold splZ at h
  exact of_decide_eq_true (Bool.and_eq_true_iff.mp (Bool.and_eq_true_iff.mp h).1).1
theorem RR.nx {J K M : Nat → Int → Int} {T : Int → Int} {n lo hi e : Int} (h : RR J K (numP T n lo hi e).1 (numP T n lo hi e).2.1 (numP T n lo hi e).2.2.2) (he : J 181 16 = 0 → J 181 13 = e ∧ 0 ≤ e ∧ e ≤ n) (m : M 181 = K 181) : M 181 16 = 0 → M 181 13 = (numP T n lo hi e).2.2.2 ∧ 0 ≤ (numP T n lo hi e).2.2.2 ∧ (numP T n lo hi e).2.2.2 ≤ n := fun z => by
  rw [m] at z ⊢
  have g := h.at z
  have q1 := (numP_r (T := T) (n := n) (lo := lo) (hi := hi) (he g.1).2.1 (he g.1).2.2).1 g.2.1
  exact ⟨g.2.2.2, by omega, by omega⟩
theorem EF.of {J K : Nat → Int → Int} {c p : Int} (h : EF J c p) (e6 : K 181 16 = J 181 16) (e7 : K 181 17 = J 181 17) : EF K c p := ⟨h.1, by rw [e6]; exact h.2.1, by rw [e7]; exact h.2.2⟩
section Rcfg
variable {l : LX} {q : Nat} {I : Nat → Int → Int} {v : Int} {fr : Bool} {T : Int → Int} {n : Int} {A : AV}
/-- must() -/
def MU (I : Nat → Int → Int) (b : Bool) (code : Int) (K : Nat → Int → Int) : Prop := RR I K (if b then 0 else code) (I 181 14) (I 181 13) ∧ ∀ j : Int, j ≠ 16 → j ≠ 17 → K 181 j = I 181 j
theorem rt_must (hl : l.1.stackTraces = false) (hq : 192 ≤ q) {b : Bool} {code : Int} (hr : 0 ≤ I 181 16 ∧ I 181 16 ≤ 3) (hc : code ≠ 0) : CT l 204 [.ref 181, .int (iI (b01 b)), .int (iI code)] (mm q I v fr) 0 0 (oE q v fr none (MU I b code)) := by
  refine mkct2 hl (by decide) (Nat.le_of_ble_eq_true rfl) (L := [some (.ref 181), some (.int (iI (b01 b))), some (.int (iI code))]) rfl ?_
  refine x_iload_n (pc := 0) rfl d204_0 ?_
  refine x_ifB_ne (pc := 1) (tgt := 11) d204_1 (by decide) (fun g1 => ?_) (fun g1 => ?_)
  · refine x_vret (pc := 11) rfl (fun _ => rfl) d204_11 ?_
    rw [g1]
    exact ⟨I, rfl, ⟨PT.refl, fun _ => ⟨rfl, rfl⟩, fun z => ⟨fun _ => ⟨z, rfl, rfl⟩, fun y => absurd rfl y⟩⟩, fun _ _ _ => rfl⟩
  · refine x_aload_n (pc := 4) rfl d204_4 ?_
    refine m_getI (pc := 5) (z := 16) f204_221 (by decide +kernel) rfl (xo181 (by omega)) d204_5 ?_
    refine x_if_eq (pc := 8) (tgt := 12) ⟨by omega, by omega⟩ d204_8 (by decide) (fun g8 => ?_) (fun g8 => ?_)
    · refine x_aload_n (pc := 12) rfl d204_12 ?_
      refine x_iload_n (pc := 13) rfl d204_13 ?_
      refine m_putI (pc := 14) (z := 16) f204_221 (by decide +kernel) (by decide +kernel) rfl (xo181 (by omega)) d204_14 ?_
      refine x_aload_n (pc := 17) rfl d204_17 ?_
      refine x_aload_n (pc := 18) rfl d204_18 ?_
      refine m_getW (pc := 19) (z := 14) (w := (I 181 14)) f204_211 (by decide +kernel) rfl (xo181 (by omega)) (by rw [up2_i (by decide)]) d204_19 ?_
      refine m_putI (pc := 22) (z := 17) f204_224 (by decide +kernel) (by decide +kernel) rfl (xo181 (by omega)) d204_22 ?_
      refine x_vret (pc := 25) rfl (fun _ => rfl) d204_25 ?_
      rw [g1]
      exact ⟨_, rfl, ⟨(PT.refl.up (by decide)).up (by decide), fun z => absurd g8 z, fun _ => ⟨fun y => absurd y hc, fun _ => ⟨by rw [up2_i (by decide), up2_s]; rfl, up2_s⟩⟩⟩, fun j h6 h7 => by rw [up2_i h7, up2_i h6]⟩
    · refine x_vret (pc := 11) rfl (fun _ => rfl) d204_11 ?_
      exact ⟨I, rfl, ⟨PT.refl, fun _ => ⟨rfl, rfl⟩, fun z => absurd z g8⟩, fun _ _ _ => rfl⟩
theorem rt_drift (hl : l.1.stackTraces = false) (hq : 192 ≤ q) (hX : RTX I T n) {e : Int} (hr : 0 ≤ I 181 16 ∧ I 181 16 ≤ 3) (he : I 181 16 = 0 → I 181 13 = e ∧ 0 ≤ e ∧ e ≤ n) : CT l 220 [.ref 181] (mm q I v fr) 0 0 (oE q v fr (some (.int (iI (numV I T n 1 199 e - 100)))) (fun K => RR I K (numP T n 1 199 e).1 (numP T n 1 199 e).2.1 (numP T n 1 199 e).2.2.2)) := by
  refine mkct2 hl (by decide) (Nat.le_of_ble_eq_true rfl) (L := [some (.ref 181)]) rfl ?_
  refine x_aload_n (pc := 0) rfl d220_0 ?_
  refine x_iconst (pc := 1) d220_1 ?_
  refine x_sipush (pc := 2) (by decide) d220_2 ?_
  refine x_cVes (pc := 5) c220_250 (rt_num hl hq hX (e := e) (lo := 1) (hi := 199) ⟨by omega, by omega⟩ ⟨by omega, by omega⟩ hr he) (xo181 (by omega)) rfl rfl (Nat.le_of_ble_eq_true rfl) (by decide +kernel) (by decide +kernel) d220_5 (fun J1 hJ1 => ?_)
  obtain ⟨z1, hz1⟩ : ∃ z : Int, z = (numV I T n 1 199 e) := ⟨_, rfl⟩
  rw [← hz1]
  have wz1 : 1 ≤ z1 ∧ z1 ≤ 199 := by rw [hz1]; exact numV_r (by omega) (fun y => (he y).2)
  refine x_bipush (pc := 8) (by decide) d220_8 ?_
  refine x_isub (pc := 10) d220_10 ?_
  refine x_iret (pc := 11) rfl (fun _ => rfl) d220_11 ?_
  exact ⟨J1, rfl, hJ1⟩
/-- frame of reading with the row -/
def PRW (I K : Nat → Int → Int) : Prop := (∀ a, a ≠ 181 → a ≠ 182 → K a = I a) ∧ ∀ j : Int, j < 13 ∨ 17 < j → K 181 j = I 181 j
theorem PT.rw {I J : Nat → Int → Int} (h : PT I J) : PRW I J := ⟨fun a a1 _ => h.1 a a1, h.2⟩
theorem PRW.trans {I J K : Nat → Int → Int} (h : PRW I J) (h2 : PRW J K) : PRW I K := ⟨fun a ha hb => by rw [h2.1 a ha hb, h.1 a ha hb], fun j hj => by rw [h2.2 j hj, h.2 j hj]⟩
theorem PRW.up {I J : Nat → Int → Int} {j z : Int} (h : PRW I J) : PRW I (up2 J 182 j z) := ⟨fun a ha hb => by rw [up2_off' _ _ _ hb]; exact h.1 a ha hb, fun i hi => by rw [up2_p (by decide)]; exact h.2 i hi⟩
/-- behind the modem's line -/
def MDL (I K : Nat → Int → Int) (r : Int × Int × AV × Int) : Prop := PRW I K ∧ (r.1 = 0 → K 181 16 = 0 ∧ K 181 17 = I 181 17 ∧ K 181 13 = r.2.2.2 ∧ (∀ i : Int, 4 ≤ i → K 182 i = I 182 i) ∧ ∀ i : Int, 0 ≤ i → i < 4 → K 182 i = r.2.2.1 0 i) ∧ (r.1 ≠ 0 → K 181 16 = r.1 ∧ K 181 17 = r.2.1)
theorem MDL.ef {I K : Nat → Int → Int} {r : Int × Int × AV × Int} (p : PRW I K) (h : EF K r.1 r.2.1) : MDL I K r := ⟨p, fun z => absurd z h.1, fun _ => h.2⟩
theorem rt_modem (hl : l.1.stackTraces = false) (hq : 192 ≤ q) (hX : RTX I T n) (h16 : I 181 16 = 0) (h13 : I 181 13 = 0) : CT l 213 [.ref 181] (mm q I v fr) 0 0 (oE q v fr none (fun K => MDL I K (mdmP T n))) := by
  have hx := hX.2.2
  have hr := tok_r (T := T) (n := n) (e := 0) hx.1.1
  refine mkct2 hl (by decide) (Nat.le_of_ble_eq_true rfl) (L := [some (.ref 181)]) rfl ?_
  refine x_aload_n (pc := 0) rfl d213_0 ?_
  refine x_aload_n (pc := 1) rfl d213_1 ?_
  refine x_ldcS (pc := 2) k213_241 d213_2 ?_
  refine x_cVes (pc := 4) c213_243 (rt_sees hl hq hX (i := 11) (by decide) (e := (0 : Int)) h16 h13 (by decide) (by omega)) (xo181 (by omega)) rfl rfl (Nat.le_of_ble_eq_true rfl) (by decide +kernel) (by decide +kernel) d213_4 (fun J1 hJ1 => ?_)
  refine x_iconst (pc := 7) d213_7 ?_
  refine x_cVev (pc := 8) c213_230 (rt_must hl hq (b := (splZ T n (tS T n (0 : Int)) (tK T n (0 : Int)) (tE T n (0 : Int)) 11)) (code := 1) (by rw [hJ1.2.2.2.2.1, h16]; decide) (by decide)) (xo181 (by omega)) rfl rfl (Nat.le_of_ble_eq_true rfl) (by decide +kernel) (by decide +kernel) d213_8 (fun J2 hJ2 => ?_)
  refine x_aload_n (pc := 11) rfl d213_11 ?_
  refine x_cVv (pc := 12) c213_247 (rt_past hl hq (s := tS T n 0) (w := wlZ T n (tS T n 0)) ((hJ2.2 14 (by decide) (by decide)).trans hJ1.2.2.1) ((hJ2.2 15 (by decide) (by decide)).trans hJ1.2.2.2.1)) (xo181 (by omega)) rfl rfl (Nat.le_of_ble_eq_true rfl) (by decide +kernel) (by decide +kernel) rfl d213_12 ?_
  obtain ⟨J3, hJ3⟩ : ∃ Z : Nat → Int → Int, Z = (up2 J2 181 13 (tS T n 0 + wlZ T n (tS T n 0))) := ⟨_, rfl⟩
  refine x_mem (J := J3) (pc := 15) hJ3 ?_
  have k1 : J1 181 16 = 0 := by rw [hJ1.2.2.2.2.1]; exact h16
  have rg2 := hJ2.1.rg (by rw [k1]; decide) (by split <;> decide)
  have m36 : J3 181 16 = J2 181 16 := by rw [hJ3]; exact up2_i (by decide)
  have m37 : J3 181 17 = J2 181 17 := by rw [hJ3]; exact up2_i (by decide)
  have pt3 : PT I J3 := by rw [hJ3]; exact (hJ1.1.trans hJ2.1.1).up (by decide)
  have hX3 := hX.pt pt3
  have hr3 : 0 ≤ J3 181 16 ∧ J3 181 16 ≤ 3 := by rw [m36]; exact rg2
  have ok3 : J3 181 16 = 0 → splZ T n (tS T n 0) (tK T n 0) (tE T n 0) 11 = true := fun z => by
    have g := (hJ2.1.at (by rw [← m36]; exact z)).2.1
    by_cases c : splZ T n (tS T n 0) (tK T n 0) (tE T n 0) 11 = true
    · exact c
    · rw [if_neg c] at g; exact absurd g (by decide)
  have he3 : J3 181 16 = 0 → J3 181 13 = tE T n 0 ∧ 0 ≤ tE T n 0 ∧ tE T n 0 ≤ n := fun z => ⟨by rw [hJ3, up2_s, wl_1 (by decide) hx.1.1 (spl_k (ok3 z))]; omega, by omega, by omega⟩
  refine x_aload_n (pc := 15) rfl d213_15 ?_
  refine m_getR (pc := 16) f213_9 (by decide +kernel) (xo181 (by omega)) rr181_0 d213_16 ?_
  refine x_iconst (pc := 19) d213_19 ?_
  refine x_aload_n (pc := 20) rfl d213_20 ?_
  refine x_iconst (pc := 21) d213_21 ?_
  refine x_bipush (pc := 22) (by decide) d213_22 ?_
  refine x_cVes (pc := 24) c213_250 (rt_num hl hq hX3 (e := (tE T n 0)) (lo := 1) (hi := 9) ⟨by omega, by omega⟩ ⟨by omega, by omega⟩ hr3 he3) (xo181 (by omega)) rfl rfl (Nat.le_of_ble_eq_true rfl) (by decide +kernel) (by decide +kernel) d213_24 (fun J4 hJ4 => ?_)
  obtain ⟨z1, hz1⟩ : ∃ z : Int, z = (numV J3 T n 1 9 (tE T n 0)) := ⟨_, rfl⟩
  rw [← hz1]
  have wz1 : 1 ≤ z1 ∧ z1 ≤ 9 := by rw [hz1]; exact numV_r (by omega) (fun y => (he3 y).2)
  refine m_iast (pc := 27) (xa182 (by omega)) (by omega) (by omega) (by omega) d213_27 ?_
  obtain ⟨M4, hM4⟩ : ∃ Z : Nat → Int → Int, Z = (up2 J4 182 0 z1) := ⟨_, rfl⟩
  refine x_mem (J := M4) (pc := 28) hM4 ?_
  have m4 : M4 181 = J4 181 := by rw [hM4]; exact up2_off' _ _ _ (by decide)
  have hX4 : RTX M4 T n := by rw [hM4]; exact (hX3.pt hJ4.1).row (by decide) (by decide)
  have hr4 : 0 ≤ M4 181 16 ∧ M4 181 16 ≤ 3 := by rw [m4]; exact hJ4.rg hr3 (numP_c _ _ _ _ _)
  have he4 := hJ4.nx he3 m4
  have p4 : PRW I M4 := by rw [hM4]; exact ((pt3.rw).trans hJ4.1.rw).up
  refine x_aload_n (pc := 28) rfl d213_28 ?_
  refine m_getR (pc := 29) f213_9 (by decide +kernel) (xo181 (by omega)) rr181_0 d213_29 ?_
  refine x_iconst (pc := 32) d213_32 ?_
  refine x_aload_n (pc := 33) rfl d213_33 ?_
  refine x_cVes (pc := 34) c213_253 (rt_drift hl hq hX4 (e := (numP T n 1 9 (tE T n 0)).2.2.2) hr4 he4) (xo181 (by omega)) rfl rfl (Nat.le_of_ble_eq_true rfl) (by decide +kernel) (by decide +kernel) d213_34 (fun J5 hJ5 => ?_)
  obtain ⟨z2, hz2⟩ : ∃ z : Int, z = (numV M4 T n 1 199 ((numP T n 1 9 (tE T n 0)).2.2.2)) := ⟨_, rfl⟩
  rw [← hz2]
  have wz2 : 1 ≤ z2 ∧ z2 ≤ 199 := by rw [hz2]; exact numV_r (by omega) (fun y => (he4 y).2)
  refine m_iast (pc := 37) (xa182 (by omega)) (by omega) (by omega) (by omega) d213_37 ?_
  obtain ⟨M5, hM5⟩ : ∃ Z : Nat → Int → Int, Z = (up2 J5 182 1 (z2 - 100)) := ⟨_, rfl⟩
  refine x_mem (J := M5) (pc := 38) hM5 ?_
  have m5 : M5 181 = J5 181 := by rw [hM5]; exact up2_off' _ _ _ (by decide)
  have hX5 : RTX M5 T n := by rw [hM5]; exact (hX4.pt hJ5.1).row (by decide) (by decide)
  have hr5 : 0 ≤ M5 181 16 ∧ M5 181 16 ≤ 3 := by rw [m5]; exact hJ5.rg hr4 (numP_c _ _ _ _ _)
  have he5 := hJ5.nx he4 m5
  have p5 : PRW I M5 := by rw [hM5]; exact ((p4).trans hJ5.1.rw).up
  refine x_aload_n (pc := 38) rfl d213_38 ?_
  refine m_getR (pc := 39) f213_9 (by decide +kernel) (xo181 (by omega)) rr181_0 d213_39 ?_
  refine x_iconst (pc := 42) d213_42 ?_
  refine x_aload_n (pc := 43) rfl d213_43 ?_
  refine x_iconst (pc := 44) d213_44 ?_
  refine x_bipush (pc := 45) (by decide) d213_45 ?_
  refine x_cVes (pc := 47) c213_250 (rt_num hl hq hX5 (e := (numP T n 1 199 (numP T n 1 9 (tE T n 0)).2.2.2).2.2.2) (lo := 1) (hi := 99) ⟨by omega, by omega⟩ ⟨by omega, by omega⟩ hr5 he5) (xo181 (by omega)) rfl rfl (Nat.le_of_ble_eq_true rfl) (by decide +kernel) (by decide +kernel) d213_47 (fun J6 hJ6 => ?_)
  obtain ⟨z3, hz3⟩ : ∃ z : Int, z = (numV M5 T n 1 99 ((numP T n 1 199 (numP T n 1 9 (tE T n 0)).2.2.2).2.2.2)) := ⟨_, rfl⟩
  rw [← hz3]
  have wz3 : 1 ≤ z3 ∧ z3 ≤ 99 := by rw [hz3]; exact numV_r (by omega) (fun y => (he5 y).2)
  refine m_iast (pc := 50) (xa182 (by omega)) (by omega) (by omega) (by omega) d213_50 ?_
  obtain ⟨M6, hM6⟩ : ∃ Z : Nat → Int → Int, Z = (up2 J6 182 2 z3) := ⟨_, rfl⟩
  refine x_mem (J := M6) (pc := 51) hM6 ?_
  have m6 : M6 181 = J6 181 := by rw [hM6]; exact up2_off' _ _ _ (by decide)
  have hX6 : RTX M6 T n := by rw [hM6]; exact (hX5.pt hJ6.1).row (by decide) (by decide)
  have hr6 : 0 ≤ M6 181 16 ∧ M6 181 16 ≤ 3 := by rw [m6]; exact hJ6.rg hr5 (numP_c _ _ _ _ _)
  have he6 := hJ6.nx he5 m6
  have p6 : PRW I M6 := by rw [hM6]; exact ((p5).trans hJ6.1.rw).up
  refine x_aload_n (pc := 51) rfl d213_51 ?_
  refine m_getR (pc := 52) f213_9 (by decide +kernel) (xo181 (by omega)) rr181_0 d213_52 ?_
  refine x_iconst (pc := 55) d213_55 ?_
  refine x_aload_n (pc := 56) rfl d213_56 ?_
  refine x_iconst (pc := 57) d213_57 ?_
  refine x_bipush (pc := 58) (by decide) d213_58 ?_
  refine x_cVes (pc := 60) c213_250 (rt_num hl hq hX6 (e := (numP T n 1 99 (numP T n 1 199 (numP T n 1 9 (tE T n 0)).2.2.2).2.2.2).2.2.2) (lo := 1) (hi := 9) ⟨by omega, by omega⟩ ⟨by omega, by omega⟩ hr6 he6) (xo181 (by omega)) rfl rfl (Nat.le_of_ble_eq_true rfl) (by decide +kernel) (by decide +kernel) d213_60 (fun J7 hJ7 => ?_)
  obtain ⟨z4, hz4⟩ : ∃ z : Int, z = (numV M6 T n 1 9 ((numP T n 1 99 (numP T n 1 199 (numP T n 1 9 (tE T n 0)).2.2.2).2.2.2).2.2.2)) := ⟨_, rfl⟩
  rw [← hz4]
  have wz4 : 1 ≤ z4 ∧ z4 ≤ 9 := by rw [hz4]; exact numV_r (by omega) (fun y => (he6 y).2)
  refine m_iast (pc := 63) (xa182 (by omega)) (by omega) (by omega) (by omega) d213_63 ?_
  obtain ⟨M7, hM7⟩ : ∃ Z : Nat → Int → Int, Z = (up2 J7 182 3 z4) := ⟨_, rfl⟩
  refine x_mem (J := M7) (pc := 64) hM7 ?_
  have m7 : M7 181 = J7 181 := by rw [hM7]; exact up2_off' _ _ _ (by decide)
  have hX7 : RTX M7 T n := by rw [hM7]; exact (hX6.pt hJ7.1).row (by decide) (by decide)
  have hr7 : 0 ≤ M7 181 16 ∧ M7 181 16 ≤ 3 := by rw [m7]; exact hJ7.rg hr6 (numP_c _ _ _ _ _)
  have he7 := hJ7.nx he6 m7
  have p7 : PRW I M7 := by rw [hM7]; exact ((p6).trans hJ7.1.rw).up
  refine x_aload_n (pc := 64) rfl d213_64 ?_
  refine x_cVev (pc := 65) c213_256 (rt_semi hl hq hX7 (e := (numP T n 1 9 (numP T n 1 99 (numP T n 1 199 (numP T n 1 9 (tE T n 0)).2.2.2).2.2.2).2.2.2).2.2.2) hr7 he7) (xo181 (by omega)) rfl rfl (Nat.le_of_ble_eq_true rfl) (by decide +kernel) (by decide +kernel) d213_65 (fun J8 hJ8 => ?_)
  refine x_vret (pc := 68) rfl (fun _ => rfl) d213_68 ?_
  have p8 : PRW I J8 := p7.trans hJ8.1.rw
  have f7 : ∀ c p, EF J7 c p → EF J8 c p := fun c p g => hJ8.ef (g.row m7)
  have f6 : ∀ c p, EF J6 c p → EF J8 c p := fun c p g => f7 c p (hJ7.ef (g.row m6))
  have f5 : ∀ c p, EF J5 c p → EF J8 c p := fun c p g => f6 c p (hJ6.ef (g.row m5))
  have f4 : ∀ c p, EF J4 c p → EF J8 c p := fun c p g => f5 c p (hJ5.ef (g.row m4))
  have f2 : ∀ c p, EF J2 c p → EF J8 c p := fun c p g => f4 c p (hJ4.ef (g.of m36 m37))
  refine ⟨J8, rfl, ?_⟩
  have e8 := (spl8 T n (tS T n 0) (tK T n 0) (tE T n 0)).1
  by_cases s : splZ T n (tS T n 0) (tK T n 0) (tE T n 0) 11 = true
  · have s9 : ¬ splZ T n (tS T n 0) (tK T n 0) (tE T n 0) 8 = false := by rw [← e8, s]; decide
    have k3 : J3 181 16 = 0 := by rw [m36]; exact (hJ2.1.ok k1 (if_pos s)).1
    have t3 : J3 181 17 = I 181 17 := by rw [m37, (hJ2.1.ok k1 (if_pos s)).2.1]; exact hJ1.2.2.2.2.2
    by_cases c1 : (numP T n 1 9 (tE T n 0)).1 = 0
    · have o4 := hJ4.ok k3 c1
      have k4 : M4 181 16 = 0 := by rw [m4]; exact o4.1
      by_cases c2 : (numP T n 1 199 (numP T n 1 9 (tE T n 0)).2.2.2).1 = 0
      · have o5 := hJ5.ok k4 c2
        have k5 : M5 181 16 = 0 := by rw [m5]; exact o5.1
        by_cases c3 : (numP T n 1 99 (numP T n 1 199 (numP T n 1 9 (tE T n 0)).2.2.2).2.2.2).1 = 0
        · have o6 := hJ6.ok k5 c3
          have k6 : M6 181 16 = 0 := by rw [m6]; exact o6.1
          by_cases c4 : (numP T n 1 9 (numP T n 1 99 (numP T n 1 199 (numP T n 1 9 (tE T n 0)).2.2.2).2.2.2).2.2.2).1 = 0
          · have o7 := hJ7.ok k6 c4
            have k7 : M7 181 16 = 0 := by rw [m7]; exact o7.1
            by_cases c5 : (semP T n (numP T n 1 9 (numP T n 1 99 (numP T n 1 199 (numP T n 1 9 (tE T n 0)).2.2.2).2.2.2).2.2.2).2.2.2).1 = 0
            · have o8 := hJ8.ok k7 c5
              have em : mdmP T n = (0, 0, cfgA (numP T n 1 9 (tE T n 0)).2.2.1 ((numP T n 1 199 (numP T n 1 9 (tE T n 0)).2.2.2).2.2.1 - 100) (numP T n 1 99 (numP T n 1 199 (numP T n 1 9 (tE T n 0)).2.2.2).2.2.2).2.2.1 (numP T n 1 9 (numP T n 1 99 (numP T n 1 199 (numP T n 1 9 (tE T n 0)).2.2.2).2.2.2).2.2.2).2.2.1, (semP T n (numP T n 1 9 (numP T n 1 99 (numP T n 1 199 (numP T n 1 9 (tE T n 0)).2.2.2).2.2.2).2.2.2).2.2.2).2.2) := by
                unfold mdmP
                rw [if_neg s9, pbind_ok c1, pbind_ok c2, pbind_ok c3, pbind_ok c4, pbind_ok c5]
              rw [em]
              have v1 : z1 = (numP T n 1 9 (tE T n 0)).2.2.1 := by rw [hz1, numV_ok k3 c1]
              have v2 : z2 = (numP T n 1 199 (numP T n 1 9 (tE T n 0)).2.2.2).2.2.1 := by rw [hz2, numV_ok k4 c2]
              have v3 : z3 = (numP T n 1 99 (numP T n 1 199 (numP T n 1 9 (tE T n 0)).2.2.2).2.2.2).2.2.1 := by rw [hz3, numV_ok k5 c3]
              have v4 : z4 = (numP T n 1 9 (numP T n 1 99 (numP T n 1 199 (numP T n 1 9 (tE T n 0)).2.2.2).2.2.2).2.2.2).2.2.1 := by rw [hz4, numV_ok k6 c4]
              have row : ∀ i, J8 182 i = if i = 3 then z4 else if i = 2 then z3 else if i = 1 then z2 - 100 else if i = 0 then z1 else I 182 i := fun i => by
                rw [hJ8.1.1 182 (by decide), hM7, up2_q, hJ7.1.1 182 (by decide), hM6, up2_q, hJ6.1.1 182 (by decide), hM5, up2_q, hJ5.1.1 182 (by decide), hM4, up2_q, hJ4.1.1 182 (by decide), pt3.1 182 (by decide)]
              refine ⟨p8, fun _ => ⟨o8.1, by rw [o8.2.1, m7, o7.2.1, m6, o6.2.1, m5, o5.2.1, m4, o4.2.1, t3], o8.2.2, fun i i0 => ?_, fun i i0 i1 => ?_⟩, fun z => absurd rfl z⟩
              · rw [row, if_neg (by omega), if_neg (by omega), if_neg (by omega), if_neg (by omega)]
              · rw [row, ← v1, ← v2, ← v3, ← v4]
                have : i = 0 ∨ i = 1 ∨ i = 2 ∨ i = 3 := by omega
                rcases this with e | e | e | e <;> subst e <;> rfl
            · refine MDL.ef p8 ?_
              unfold mdmP
              rw [if_neg s9, pbind_ok c1, pbind_ok c2, pbind_ok c3, pbind_ok c4, pbind_no c5]
              exact hJ8.er k7 c5
          · refine MDL.ef p8 ?_
            unfold mdmP
            rw [if_neg s9, pbind_ok c1, pbind_ok c2, pbind_ok c3, pbind_no c4]
            exact f7 _ _ (hJ7.er k6 c4)
        · refine MDL.ef p8 ?_
          unfold mdmP
          rw [if_neg s9, pbind_ok c1, pbind_ok c2, pbind_no c3]
          exact f6 _ _ (hJ6.er k5 c3)
      · refine MDL.ef p8 ?_
        unfold mdmP
        rw [if_neg s9, pbind_ok c1, pbind_no c2]
        exact f5 _ _ (hJ5.er k4 c2)
    · refine MDL.ef p8 ?_
      unfold mdmP
      rw [if_neg s9, pbind_no c1]
      exact f4 _ _ (hJ4.er k3 c1)
  · have s9 : splZ T n (tS T n 0) (tK T n 0) (tE T n 0) 8 = false := by rw [← e8]; exact Bool.eq_false_iff.mpr s
    refine MDL.ef p8 ?_
    unfold mdmP
    rw [if_pos s9]
    have g := hJ2.1.er k1 (by rw [if_neg s]; decide)
    rw [if_neg s, hJ1.2.2.1] at g
    exact f2 _ _ g
end Rcfg
