/-! ===== the reference: numbers, words, semicolons ===== -/
section Rnum
variable {l : LX} {q : Nat} {I : Nat → Int → Int} {v : Int} {fr : Bool} {T : Int → Int} {n : Int}
theorem rt_mustT (hl : l.1.stackTraces = false) (hq : 192 ≤ q) {b : Bool} {code : Int} (hr : InR (I 181 16)) (h : b = true ∨ I 181 16 ≠ 0) : DT l 204 [.ref 181, .int (iI (b01 b)), .int (iI code)] (mm q I v fr) 0 0 (.inl none, mm q I v fr) := by
  obtain ⟨hr0, hr1⟩ := hr
  refine mkdt hl (by decide) (Nat.le_of_ble_eq_true rfl) (L := [some (.ref 181), some (.int (iI (b01 b))), some (.int (iI code))]) rfl ?_
  refine x_iload_n (pc := 0) rfl d204_0 ?_
  refine x_ifB_ne (pc := 1) (tgt := 11) d204_1 (by decide) (fun g1 => ?_) (fun g1 => ?_)
  · refine x_vret (pc := 11) rfl (fun _ => rfl) d204_11 ?_
    rfl
  · refine x_aload_n (pc := 4) rfl d204_4 ?_
    refine m_getI (pc := 5) (z := 16) f204_221 (by decide +kernel) rfl (xo181 (by omega)) d204_5 ?_
    refine x_if_eq (pc := 8) (tgt := 12) ⟨by omega, by omega⟩ d204_8 (by decide) (fun g8 => ?_) (fun g8 => ?_)
    · refine x_mask [true, false, true] ?_
      dsimp only [mask]
      exfalso
      rcases h with h | h
      · rw [h] at g1; cases g1
      · exact h g8
    · refine x_vret (pc := 11) rfl (fun _ => rfl) d204_11 ?_
      rfl
theorem rt_mustF (hl : l.1.stackTraces = false) (hq : 192 ≤ q) {b : Bool} {code s : Int} (hb : b = false) (h0 : I 181 16 = 0) (hs : I 181 14 = s) : DT l 204 [.ref 181, .int (iI (b01 b)), .int (iI code)] (mm q I v fr) 0 0 (.inl none, mm q (up2 (up2 I 181 16 code) 181 17 s) v fr) := by
  subst hb
  refine mkdt hl (by decide) (Nat.le_of_ble_eq_true rfl) (L := [some (.ref 181), some (.int (iI (b01 false))), some (.int (iI code))]) rfl ?_
  refine x_iload_n (pc := 0) rfl d204_0 ?_
  refine x_ifB_ne (pc := 1) (tgt := 11) d204_1 (by decide) (fun z => absurd z (by decide)) (fun _ => ?_)
  refine x_aload_n (pc := 4) rfl d204_4 ?_
  refine m_getI (pc := 5) (z := 16) f204_221 (by decide +kernel) rfl (xo181 (by omega)) d204_5 ?_
  refine x_val (pc := 8) (w := 0) (h0) ?_
  refine x_if_eq (pc := 8) (tgt := 12) ⟨by omega, by omega⟩ d204_8 (by decide) (fun _ => ?_) (fun z => absurd z (by decide))
  refine x_aload_n (pc := 12) rfl d204_12 ?_
  refine x_iload_n (pc := 13) rfl d204_13 ?_
  refine m_putI (pc := 14) (z := 16) f204_221 (by decide +kernel) (by decide +kernel) rfl (xo181 (by omega)) d204_14 ?_
  refine x_aload_n (pc := 17) rfl d204_17 ?_
  refine x_aload_n (pc := 18) rfl d204_18 ?_
  refine m_getW (pc := 19) (z := 14) (w := (I 181 14)) f204_211 (by decide +kernel) rfl (xo181 (by omega)) (by rw [up2_i (by decide)]) d204_19 ?_
  refine x_val (pc := 22) (w := s) (hs) ?_
  refine m_putI (pc := 22) (z := 17) f204_224 (by decide +kernel) (by decide +kernel) rfl (xo181 (by omega)) d204_22 ?_
  refine x_vret (pc := 25) rfl (fun _ => rfl) d204_25 ?_
  first | rfl | (exfalso; omega)
theorem rt_start (hl : l.1.stackTraces = false) (hq : 192 ≤ q) : DT l 209 [.ref 181] (mm q I v fr) 0 0 (.inl none, mm q (up2 (up2 (up2 (up2 I 181 13 0) 181 14 0) 181 16 0) 181 17 (-1)) v fr) := by
  refine mkdt hl (by decide) (Nat.le_of_ble_eq_true rfl) (L := [some (.ref 181)]) rfl ?_
  refine x_aload_n (pc := 0) rfl d209_0 ?_
  refine x_iconst (pc := 1) d209_1 ?_
  refine m_putI (pc := 2) (z := 13) f209_205 (by decide +kernel) (by decide +kernel) rfl (xo181 (by omega)) d209_2 ?_
  refine x_aload_n (pc := 5) rfl d209_5 ?_
  refine x_iconst (pc := 6) d209_6 ?_
  refine m_putI (pc := 7) (z := 14) f209_211 (by decide +kernel) (by decide +kernel) rfl (xo181 (by omega)) d209_7 ?_
  refine x_aload_n (pc := 10) rfl d209_10 ?_
  refine x_iconst (pc := 11) d209_11 ?_
  refine m_putI (pc := 12) (z := 16) f209_221 (by decide +kernel) (by decide +kernel) rfl (xo181 (by omega)) d209_12 ?_
  refine x_aload_n (pc := 15) rfl d209_15 ?_
  refine x_iconst (pc := 16) d209_16 ?_
  refine m_putI (pc := 17) (z := 17) f209_224 (by decide +kernel) (by decide +kernel) rfl (xo181 (by omega)) d209_17 ?_
  refine x_vret (pc := 20) rfl (fun _ => rfl) d209_20 ?_
  first | rfl | (exfalso; omega)
theorem rt_past (hl : l.1.stackTraces = false) (hq : 192 ≤ q) {s w : Int} (hs : I 181 14 = s) (hw : I 181 15 = w) : DT l 206 [.ref 181] (mm q I v fr) 0 0 (.inl none, mm q (up2 I 181 13 (s + w)) v fr) := by
  refine mkdt hl (by decide) (Nat.le_of_ble_eq_true rfl) (L := [some (.ref 181)]) rfl ?_
  refine x_aload_n (pc := 0) rfl d206_0 ?_
  refine x_aload_n (pc := 1) rfl d206_1 ?_
  refine m_getI (pc := 2) (z := 14) f206_211 (by decide +kernel) rfl (xo181 (by omega)) d206_2 ?_
  refine x_val (pc := 5) (w := s) (hs) ?_
  refine x_aload_n (pc := 5) rfl d206_5 ?_
  refine m_getI (pc := 6) (z := 15) f206_214 (by decide +kernel) rfl (xo181 (by omega)) d206_6 ?_
  refine x_val (pc := 9) (w := w) (hw) ?_
  refine x_iadd (pc := 9) d206_9 ?_
  refine m_putI (pc := 10) (z := 13) f206_205 (by decide +kernel) (by decide +kernel) rfl (xo181 (by omega)) d206_10 ?_
  refine x_vret (pc := 13) rfl (fun _ => rfl) d206_13 ?_
  first | rfl | (exfalso; omega)
theorem rt_ends0 (hl : l.1.stackTraces = false) (hq : 192 ≤ q) {c p : Int} (hc : I 181 16 = c) (hp : I 181 17 = p) (hr : 0 ≤ c ∧ c ≤ 3) : DT l 210 [.ref 181] (mm q I v fr) 0 0 (.inl (some (.int (iI (b01 (decide (c = 0)))))), mm q (up2 (up2 (up2 I 181 12 0) 181 18 c) 181 19 p) v fr) := by
  refine mkdt hl (by decide) (Nat.le_of_ble_eq_true rfl) (L := [some (.ref 181)]) rfl ?_
  refine x_aload_n (pc := 0) rfl d210_0 ?_
  refine x_iconst (pc := 1) d210_1 ?_
  refine m_putI (pc := 2) (z := 12) f210_56 (by decide +kernel) (by decide +kernel) rfl (xo181 (by omega)) d210_2 ?_
  refine x_aload_n (pc := 5) rfl d210_5 ?_
  refine x_aload_n (pc := 6) rfl d210_6 ?_
  refine m_getW (pc := 7) (z := 16) (w := (I 181 16)) f210_221 (by decide +kernel) rfl (xo181 (by omega)) (by rw [up2_i (by decide)]) d210_7 ?_
  refine x_val (pc := 10) (w := c) (hc) ?_
  refine m_putI (pc := 10) (z := 18) f210_238 (by decide +kernel) (by decide +kernel) rfl (xo181 (by omega)) d210_10 ?_
  refine x_aload_n (pc := 13) rfl d210_13 ?_
  refine x_aload_n (pc := 14) rfl d210_14 ?_
  refine m_getW (pc := 15) (z := 17) (w := (I 181 17)) f210_224 (by decide +kernel) rfl (xo181 (by omega)) (by rw [up2_i (by decide), up2_i (by decide)]) d210_15 ?_
  refine x_val (pc := 18) (w := p) (hp) ?_
  refine m_putI (pc := 18) (z := 19) f210_34 (by decide +kernel) (by decide +kernel) rfl (xo181 (by omega)) d210_18 ?_
  refine x_aload_n (pc := 21) rfl d210_21 ?_
  refine m_getW (pc := 22) (z := 16) (w := (I 181 16)) f210_221 (by decide +kernel) rfl (xo181 (by omega)) (by rw [up2_i (by decide), up2_i (by decide), up2_i (by decide)]) d210_22 ?_
  refine x_val (pc := 25) (w := c) (hc) ?_
  refine x_if_ne (pc := 25) (tgt := 32) ⟨by omega, by omega⟩ d210_25 (by decide) (fun g25 => ?_) (fun g25 => ?_)
  · refine x_iconst (pc := 32) d210_32 ?_
    refine x_zret (pc := 33) rfl (Or.inl rfl) (fun _ => rfl) d210_33 ?_
    rw [decide_eq_false g25]; rfl
  · refine x_iconst (pc := 28) d210_28 ?_
    refine x_goto (pc := 29) (tgt := 33) d210_29 (by decide) ?_
    refine x_zret (pc := 33) rfl (Or.inr rfl) (fun _ => rfl) d210_33 ?_
    rw [decide_eq_true g25]; rfl
/-- what a reading does: to the code c at p, or to e -/
def RR (I K : Nat → Int → Int) (c p e : Int) : Prop := PT I K ∧ (I 181 16 ≠ 0 → K 181 16 = I 181 16 ∧ K 181 17 = I 181 17) ∧ (I 181 16 = 0 → (c = 0 → K 181 16 = 0 ∧ K 181 17 = I 181 17 ∧ K 181 13 = e) ∧ (c ≠ 0 → K 181 16 = c ∧ K 181 17 = p))
theorem rt_semi1 (hl : l.1.stackTraces = false) (hq : 192 ≤ q) {c : Int} (hc : I 181 16 = c) (h0 : c ≠ 0) (hr : 0 ≤ c ∧ c ≤ 3) : DT l 207 [.ref 181] (mm q I v fr) 0 0 (.inl none, mm q I v fr) := by
  refine mkdt hl (by decide) (Nat.le_of_ble_eq_true rfl) (L := [some (.ref 181)]) rfl ?_
  refine x_aload_n (pc := 0) rfl d207_0 ?_
  refine m_getI (pc := 1) (z := 16) f207_221 (by decide +kernel) rfl (xo181 (by omega)) d207_1 ?_
  refine x_val (pc := 4) (w := c) (hc) ?_
  refine x_if_eq (pc := 4) (tgt := 8) ⟨by omega, by omega⟩ d207_4 (by decide) (fun g4 => ?_) (fun g4 => ?_)
  · exfalso; omega
  · refine x_vret (pc := 7) rfl (fun _ => rfl) d207_7 ?_
    rfl
theorem rt_semi0 (hl : l.1.stackTraces = false) (hq : 192 ≤ q) (hX : RTX I T n) {e : Int} (h16 : I 181 16 = 0) (he : I 181 13 = e) (e0 : 0 ≤ e) (e1 : e ≤ n) : CT l 207 [.ref 181] (mm q I v fr) 0 0 (oE q v fr none (fun K => RR I K (semP T n e).1 (semP T n e).2.1 (semP T n e).2.2)) := by
  have hr := tok_r (T := T) e1
  have hx := hX.2.2
  have hk : tK T n e = kdZ (atT T n (tS T n e)) := rfl
  unfold semP
  refine mkct2 hl (by decide) (Nat.le_of_ble_eq_true rfl) (L := [some (.ref 181)]) rfl ?_
  refine x_aload_n (pc := 0) rfl d207_0 ?_
  refine m_getI (pc := 1) (z := 16) f207_221 (by decide +kernel) rfl (xo181 (by omega)) d207_1 ?_
  refine x_val (pc := 4) (w := 0) (h16) ?_
  refine x_if_eq (pc := 4) (tgt := 8) ⟨by omega, by omega⟩ d207_4 (by decide) (fun _ => ?_) (fun z => absurd z (by decide))
  refine x_aload_n (pc := 8) rfl d207_8 ?_
  refine x_aload_n (pc := 9) rfl d207_9 ?_
  refine x_cVes (pc := 10) c207_227 (rt_next hl hq hX (e := e) he (by omega) (by omega)) (xo181 (by omega)) rfl rfl (Nat.le_of_ble_eq_true rfl) (by decide +kernel) (by decide +kernel) d207_10 (fun J1 hJ1 => ?_)
  have hat1 := atT_r hx.2 (tS T n e)
  refine x_bipush (pc := 13) (by decide) d207_13 ?_
  refine x_icmp_ne (pc := 15) (tgt := 22) ⟨by omega, by omega⟩ ⟨by omega, by omega⟩ d207_15 (by decide) (fun g15 => ?_) (fun g15 => ?_)
  · refine x_iconst (pc := 22) d207_22 ?_
    refine x_iconst (pc := 23) d207_23 ?_
    refine x_cVv (pc := 24) c207_230 (rt_mustF hl hq (b := false) (code := 1) (s := tS T n e) rfl (by rw [hJ1.2.2.2.2.1]; exact h16) hJ1.2.2.1) (xo181 (by omega)) rfl rfl (Nat.le_of_ble_eq_true rfl) (by decide +kernel) (by decide +kernel) rfl d207_24 ?_
    refine x_aload_n (pc := 27) rfl d207_27 ?_
    refine x_dup (pc := 28) rfl d207_28 ?_
    refine m_getW (pc := 29) (z := 13) (w := (J1 181 13)) f207_205 (by decide +kernel) rfl (xo181 (by omega)) (by rw [up2_i (by decide), up2_i (by decide)]) d207_29 ?_
    refine x_val (pc := 32) (w := (tS T n e)) (hJ1.2.1) ?_
    refine x_iconst (pc := 32) d207_32 ?_
    refine x_iadd (pc := 33) d207_33 ?_
    refine m_putI (pc := 34) (z := 13) f207_205 (by decide +kernel) (by decide +kernel) rfl (xo181 (by omega)) d207_34 ?_
    refine x_vret (pc := 37) rfl (fun _ => rfl) d207_37 ?_
    have c3 : ¬ tK T n e = 3 := fun z => g15 (kdZ_e3.mp (by rw [← hk]; exact z))
    rw [if_neg c3]
    refine ⟨_, rfl, ((hJ1.1.up (by decide)).up (by decide)).up (by decide), fun z => absurd h16 z, fun _ => ⟨fun z => absurd (show (1 : Int) = 0 from z) (by decide), fun _ => ⟨by rw [up2_i (by decide), up2_i (by decide), up2_s], by rw [up2_i (by decide), up2_s]⟩⟩⟩
  · refine x_iconst (pc := 18) d207_18 ?_
    refine x_goto (pc := 19) (tgt := 23) d207_19 (by decide) ?_
    refine x_iconst (pc := 23) d207_23 ?_
    refine x_cVv (pc := 24) c207_230 (rt_mustT hl hq (b := true) (code := 1) ⟨by rw [hJ1.2.2.2.2.1, h16]; decide, by rw [hJ1.2.2.2.2.1, h16]; decide⟩ (Or.inl rfl)) (xo181 (by omega)) rfl rfl (Nat.le_of_ble_eq_true rfl) (by decide +kernel) (by decide +kernel) rfl d207_24 ?_
    refine x_aload_n (pc := 27) rfl d207_27 ?_
    refine x_dup (pc := 28) rfl d207_28 ?_
    refine m_getI (pc := 29) (z := 13) f207_205 (by decide +kernel) rfl (xo181 (by omega)) d207_29 ?_
    refine x_val (pc := 32) (w := (tS T n e)) (hJ1.2.1) ?_
    refine x_iconst (pc := 32) d207_32 ?_
    refine x_iadd (pc := 33) d207_33 ?_
    refine m_putI (pc := 34) (z := 13) f207_205 (by decide +kernel) (by decide +kernel) rfl (xo181 (by omega)) d207_34 ?_
    refine x_vret (pc := 37) rfl (fun _ => rfl) d207_37 ?_
    have c3 : tK T n e = 3 := by rw [hk]; exact kdZ_e3.mpr g15
    rw [if_pos c3]
    refine ⟨_, rfl, hJ1.1.up (by decide), fun z => absurd h16 z, fun _ => ⟨fun _ => ⟨by rw [up2_i (by decide), hJ1.2.2.2.2.1]; exact h16, by rw [up2_i (by decide), hJ1.2.2.2.2.2], ?_⟩, fun z => absurd rfl z⟩⟩
    rw [up2_s]
    show tS T n e + 1 = tE T n e
    unfold tE
    rw [if_neg (by omega), if_neg (by omega)]
/-- a semicolon -/
theorem rt_semi (hl : l.1.stackTraces = false) (hq : 192 ≤ q) (hX : RTX I T n) {e : Int} (hr : 0 ≤ I 181 16 ∧ I 181 16 ≤ 3) (he : I 181 16 = 0 → I 181 13 = e ∧ 0 ≤ e ∧ e ≤ n) : CT l 207 [.ref 181] (mm q I v fr) 0 0 (oE q v fr none (fun K => RR I K (semP T n e).1 (semP T n e).2.1 (semP T n e).2.2)) := by
  by_cases h : I 181 16 = 0
  · exact rt_semi0 hl hq hX h (he h).1 (he h).2.1 (he h).2.2
  · have _h := h
    refine mkct2 hl (by decide) (Nat.le_of_ble_eq_true rfl) (L := [some (.ref 181)]) rfl ?_
    refine x_aload_n (pc := 0) rfl d207_0 ?_
    refine m_getI (pc := 1) (z := 16) f207_221 (by decide +kernel) rfl (xo181 (by omega)) d207_1 ?_
    refine x_if_eq (pc := 4) (tgt := 8) ⟨by omega, by omega⟩ d207_4 (by decide) (fun g4 => ?_) (fun g4 => ?_)
    · exact absurd g4 h
    · refine x_vret (pc := 7) rfl (fun _ => rfl) d207_7 ?_
      exact ⟨I, rfl, PT.refl, fun _ => ⟨rfl, rfl⟩, fun z => absurd z h⟩
/-! words -/
theorem lp_sees (hl : l.1.stackTraces = false) (hq : 192 ≤ q) (hX : RTX I T n) {i : Nat} (hti : i < nTC) {s w : Int} (hs : I 181 14 = s) (hs0 : 0 ≤ s) (hs1 : s ≤ n) (hw : I 181 15 = w) (hwl : w = ksLen i) : ∀ (m j : Nat), m + j = ksLen i → (∀ z : Nat, z < j → decide (atT T n (s + z) = tB i z) = true) →
    Ex l 205 0 0 27 [some (.ref 181), some (.ref (scr + 1 + i)), none, some (.int (iI j))] [] (mm q I v fr) (fun o => o = (.inl (some (.int (iI (b01 (allD (ksLen i) (fun j => decide (atT T n (s + j) = tB i j))))))), mm q I v fr)) := by
  have hx := hX.2.2
  have hlen := ksLen_b hti
  intro m
  induction m with
  | zero =>
    intro j hj hno
    refine x_iload_n (pc := 27) rfl d205_27 ?_
    refine x_aload_n (pc := 28) rfl d205_28 ?_
    refine m_getI (pc := 29) (z := 15) f205_214 (by decide +kernel) rfl (xo181 (by omega)) d205_29 ?_
    refine x_val (pc := 32) (w := w) (hw) ?_
    refine x_icmp_ge (pc := 32) (tgt := 61) ⟨by omega, by omega⟩ ⟨by omega, by omega⟩ d205_32 (by decide) (fun g32 => ?_) (fun g32 => ?_)
    · refine x_iconst (pc := 61) d205_61 ?_
      refine x_zret (pc := 62) rfl (Or.inr rfl) (fun _ => rfl) d205_62 ?_
      rw [allD_yes (i := j) (by omega) hno]; rfl
    · exfalso; omega
  | succ m ih =>
    intro j hj hno
    have ht := tB_r (i := i) (j := j) hti (by omega) (by omega)
    refine x_iload_n (pc := 27) rfl d205_27 ?_
    refine x_aload_n (pc := 28) rfl d205_28 ?_
    refine m_getI (pc := 29) (z := 15) f205_214 (by decide +kernel) rfl (xo181 (by omega)) d205_29 ?_
    refine x_val (pc := 32) (w := w) (hw) ?_
    refine x_icmp_ge (pc := 32) (tgt := 61) ⟨by omega, by omega⟩ ⟨by omega, by omega⟩ d205_32 (by decide) (fun g32 => ?_) (fun g32 => ?_)
    · refine x_iconst (pc := 61) d205_61 ?_
      refine x_zret (pc := 62) rfl (Or.inr rfl) (fun _ => rfl) d205_62 ?_
      exfalso; omega
    · refine x_aload_n (pc := 35) rfl d205_35 ?_
      refine x_aload_n (pc := 36) rfl d205_36 ?_
      refine m_getI (pc := 37) (z := 14) f205_211 (by decide +kernel) rfl (xo181 (by omega)) d205_37 ?_
      refine x_val (pc := 40) (w := s) (hs) ?_
      refine x_iload_n (pc := 40) rfl d205_40 ?_
      refine x_iadd (pc := 41) d205_41 ?_
      refine x_cVs (pc := 42) c205_208 (rt_byte hl hq hX (i := (s + j)) (by omega) (by omega)) (xo181 (by omega)) rfl rfl (Nat.le_of_ble_eq_true rfl) (by decide +kernel) (by decide +kernel) rfl d205_42 ?_
      have hat2 := atT_r hX.2.2.2 (s + j)
      refine x_aload_n (pc := 45) rfl d205_45 ?_
      refine x_iload_n (pc := 46) rfl d205_46 ?_
      refine x_schT (pc := 47) (i := i) (j := j) hl c205_52 hti (by omega) (by omega) (Nat.le_of_ble_eq_true rfl) (by decide +kernel) (by decide +kernel) d205_47 ?_
      refine x_icmp_eq (pc := 50) (tgt := 55) ⟨by omega, by omega⟩ ⟨by omega, by omega⟩ d205_50 (by decide) (fun g50 => ?_) (fun g50 => ?_)
      · refine x_iinc (pc := 55) rfl (by decide +kernel) rfl d205_55 ?_
        dsimp only [List.set]
        refine x_goto (pc := 58) (tgt := 27) d205_58 (by decide) ?_
        refine ih (j + 1) (by omega) (fun z hz => ?_)
        by_cases e : z = j
        · rw [e]; exact decide_eq_true g50
        · exact hno z (by omega)
      · refine x_iconst (pc := 53) d205_53 ?_
        refine x_zret (pc := 54) rfl (Or.inl rfl) (fun _ => rfl) d205_54 ?_
        rw [allD_no (i := j) (by omega) (decide_eq_false g50)]; rfl
theorem ksLen_p : ∀ i : Fin 20, 1 ≤ ksLen i := by decide +kernel
theorem rt_sees (hl : l.1.stackTraces = false) (hq : 192 ≤ q) (hX : RTX I T n) {i : Nat} (hti : i < nTC) {e : Int} (h16 : I 181 16 = 0) (he : I 181 13 = e) (e0 : 0 ≤ e) (e1 : e ≤ n) : CT l 205 [.ref 181, .ref (scr + 1 + i)] (mm q I v fr) 0 0 (oE q v fr (some (.int (iI (b01 (splZ T n (tS T n e) (tK T n e) (tE T n e) i))))) (fun K => NX I K T n e)) := by
  have hr := tok_r (T := T) e1
  have hx := hX.2.2
  have hlen := ksLen_b hti
  have hlp : 1 ≤ ksLen i := ksLen_p ⟨i, hti⟩
  have hw : (tK T n e = 1 ∧ wlZ T n (tS T n e) = tE T n e - tS T n e) ∨ (tK T n e ≠ 1 ∧ wlZ T n (tS T n e) = 0) := by
    by_cases c : tK T n e = 1
    · exact Or.inl ⟨c, wl_1 e0 e1 c⟩
    · exact Or.inr ⟨c, wl_0 e0 e1 c⟩
  obtain ⟨w, ew⟩ : ∃ w, w = wlZ T n (tS T n e) := ⟨_, rfl⟩
  rw [← ew] at hw
  unfold splZ
  refine mkct2 hl (by decide) (Nat.le_of_ble_eq_true rfl) (L := [some (.ref 181), some (.ref (scr + 1 + i)), none, none]) rfl ?_
  refine x_aload_n (pc := 0) rfl d205_0 ?_
  refine x_cVes (pc := 1) c205_227 (rt_next hl hq hX (e := e) he (by omega) (by omega)) (xo181 (by omega)) rfl rfl (Nat.le_of_ble_eq_true rfl) (by decide +kernel) (by decide +kernel) d205_1 (fun J1 hJ1 => ?_)
  have hat3 := atT_r hx.2 (tS T n e)
  have hX1 := hX.pt hJ1.1
  refine x_istore_n (pc := 4) (by decide +kernel) rfl d205_4 ?_
  dsimp only [List.set]
  refine x_aload_n (pc := 5) rfl d205_5 ?_
  refine m_getI (pc := 6) (z := 16) f205_221 (by decide +kernel) rfl (xo181 (by omega)) d205_6 ?_
  refine x_val (pc := 9) (w := 0) (by rw [hJ1.2.2.2.2.1]; exact h16) ?_
  refine x_if_ne (pc := 9) (tgt := 23) ⟨by omega, by omega⟩ d205_9 (by decide) (fun z => absurd z (by decide)) (fun _ => ?_)
  refine x_aload_n (pc := 12) rfl d205_12 ?_
  refine m_getI (pc := 13) (z := 15) f205_214 (by decide +kernel) rfl (xo181 (by omega)) d205_13 ?_
  refine x_val (pc := 16) (w := w) (by rw [ew]; exact hJ1.2.2.2.1) ?_
  refine x_aload_n (pc := 16) rfl d205_16 ?_
  refine x_slenT (pc := 17) (i := i) hl c205_46 hti (Nat.le_of_ble_eq_true rfl) (by decide +kernel) (by decide +kernel) d205_17 ?_
  refine x_icmp_eq (pc := 20) (tgt := 25) ⟨by omega, by omega⟩ ⟨by omega, by omega⟩ d205_20 (by decide) (fun g20 => ?_) (fun g20 => ?_)
  · refine x_iconst (pc := 25) d205_25 ?_
    refine x_istore_n (pc := 26) (by decide +kernel) rfl d205_26 ?_
    dsimp only [List.set]
    refine x_mask [true, true, false, true] ?_
    dsimp only [mask]
    rcases hw with c | c
    · rw [decide_eq_true c.1, decide_eq_true (p := tE T n e - tS T n e = _) (by omega), Bool.true_and, Bool.true_and]
      refine ex_mono (lp_sees hl hq hX1 hti hJ1.2.2.1 (by omega) (by omega) (w := w) (by rw [ew]; exact hJ1.2.2.2.1) g20 (ksLen i) 0 rfl (fun z hz => absurd hz (Nat.not_lt_zero _))) fun o ho => ?_
      exact ⟨J1, ho, hJ1⟩
    · exfalso; omega
  · refine x_iconst (pc := 23) d205_23 ?_
    refine x_zret (pc := 24) rfl (Or.inl rfl) (fun _ => rfl) d205_24 ?_
    rw [show (decide (tK T n e = 1) && decide (tE T n e - tS T n e = (ksLen i : Int)) && allD (ksLen i) fun j => decide (atT T n (tS T n e + j) = tB i j)) = false from by
      rcases hw with c | c
      · rw [decide_eq_false (p := tE T n e - tS T n e = _) (by omega), Bool.and_false, Bool.false_and]
      · rw [decide_eq_false c.1, Bool.false_and, Bool.false_and]]
    exact ⟨J1, rfl, hJ1⟩
end Rnum
