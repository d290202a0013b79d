/-! ===== the class's attempt ===== -/
theorem cp2_p {I : Nat → Int → Int} {s d a : Nat} {sp dp w b : Int} (h : a ≠ d) : cp2 I s sp d dp w a b = I a b := if_neg (fun z => h z.1)
section Line
variable {l : LX} {q p : Nat} {I : Nat → Int → Int} {v : Int} {fr : Bool} {c : Int}
theorem dt_nap (hl : l.1.stackTraces = false) (hp : LineAt q p) (h : CINV I p c) (hc : c ≤ 20000000) : DT l 52 [.ref p] (mm q I v fr) 0 0 (.inl none, mm q (napC I p) v fr) := by
  have hpb := hp.b
  have hs := h.sc
  have hk := h.ct 7 (by decide)
  refine mkdt hl (by decide) (Nat.le_of_ble_eq_true rfl) (L := [some (.ref p)]) rfl ?_
  refine x_aload_n (pc := 0) rfl d52_0 ?_
  refine m_getI (pc := 1) (z := 4) f52_52 (by decide +kernel) rfl hp.o0 d52_1 ?_
  refine x_aload_n (pc := 4) rfl d52_4 ?_
  refine m_getI (pc := 5) (z := 5) f52_55 (by decide +kernel) rfl hp.o0 d52_5 ?_
  refine x_icmp_ge (pc := 8) (tgt := 40) ⟨by omega, by omega⟩ ⟨by omega, by omega⟩ d52_8 (by decide) (fun g8 => ?_) (fun g8 => ?_)
  · refine x_vret (pc := 40) rfl (fun _ => rfl) d52_40 ?_
    unfold napC; rw [if_neg (by omega)]
  · refine x_aload_n (pc := 11) rfl d52_11 ?_
    refine m_getR (pc := 12) f52_35 (by decide +kernel) hp.o0 hp.r0_12 d52_12 ?_
    refine x_dup (pc := 15) rfl d52_15 ?_
    refine m_getI (pc := 16) (z := 7) f52_231 (by decide +kernel) rfl hp.o14 d52_16 ?_
    refine x_aload_n (pc := 19) rfl d52_19 ?_
    refine m_getI (pc := 20) (z := 5) f52_55 (by decide +kernel) rfl hp.o0 d52_20 ?_
    refine x_aload_n (pc := 23) rfl d52_23 ?_
    refine m_getI (pc := 24) (z := 4) f52_52 (by decide +kernel) rfl hp.o0 d52_24 ?_
    refine x_isub (pc := 27) d52_27 ?_
    refine x_iadd (pc := 28) d52_28 ?_
    refine m_putI (pc := 29) (z := 7) f52_231 (by decide +kernel) (by decide +kernel) rfl hp.o14 d52_29 ?_
    refine x_aload_n (pc := 32) rfl d52_32 ?_
    refine x_aload_n (pc := 33) rfl d52_33 ?_
    refine m_getW (pc := 34) (z := 5) (w := (I p 5)) f52_55 (by decide +kernel) rfl hp.o0 (by rw [up2_p (by omega)]) d52_34 ?_
    refine m_putI (pc := 37) (z := 4) f52_52 (by decide +kernel) (by decide +kernel) rfl hp.o0 d52_37 ?_
    refine x_vret (pc := 40) rfl (fun _ => rfl) d52_40 ?_
    unfold napC; rw [if_pos (by omega)]
theorem dt_arrive (hl : l.1.stackTraces = false) (hq : 181 ≤ q) (hp : LineAt q p) {f z : Int} (h0 : 0 ≤ f) (h1 : f < 48) (hz : I (p + 11) f = z) : DT l 23 [.ref (p + 7), .int (iI f), .ref 13] (mm q I v fr) 0 0 (.inl none, mm q (cp2 (up2 I (p + 11) f (z + 1)) 13 0 (p + 13) (f * 6) 6) v fr) := by
  have hpb := hp.b
  subst hz
  refine mkdt hl (by decide) (Nat.le_of_ble_eq_true rfl) (L := [some (.ref (p + 7)), some (.int (iI f)), some (.ref 13)]) rfl ?_
  refine x_iload_n (pc := 0) rfl d23_0 ?_
  refine x_if_lt (pc := 1) (tgt := 17) ⟨by omega, by omega⟩ d23_1 (by decide) (fun g1 => ?_) (fun g1 => ?_)
  · refine x_vret (pc := 17) rfl (fun _ => rfl) d23_17 ?_
    first | rfl | (exfalso; omega)
  · refine x_iload_n (pc := 4) rfl d23_4 ?_
    refine x_bipush (pc := 5) (by decide) d23_5 ?_
    refine x_icmp_ge (pc := 7) (tgt := 17) ⟨by omega, by omega⟩ ⟨by omega, by omega⟩ d23_7 (by decide) (fun g7 => ?_) (fun g7 => ?_)
    · refine x_vret (pc := 17) rfl (fun _ => rfl) d23_17 ?_
      first | rfl | (exfalso; omega)
    · refine x_aload_n (pc := 10) rfl d23_10 ?_
      refine m_alen (pc := 11) (z := 6) (ka13 (by omega)) rfl d23_11 ?_
      refine x_bipush (pc := 12) (by decide) d23_12 ?_
      refine x_icmp_ge (pc := 14) (tgt := 18) ⟨by omega, by omega⟩ ⟨by omega, by omega⟩ d23_14 (by decide) (fun _ => ?_) (fun z => absurd z (by decide))
      refine x_aload_n (pc := 18) rfl d23_18 ?_
      refine m_getR (pc := 19) f23_21 (by decide +kernel) hp.o7 hp.r7_4 d23_19 ?_
      refine x_iload_n (pc := 22) rfl d23_22 ?_
      refine x_dup2 (pc := 23) rfl rfl d23_23 ?_
      refine m_iald (pc := 24) hp.a11 (by omega) (by omega) (by omega) d23_24 ?_
      refine x_iconst (pc := 25) d23_25 ?_
      refine x_iadd (pc := 26) d23_26 ?_
      refine m_iast (pc := 27) hp.a11 (by omega) (by omega) (by omega) d23_27 ?_
      refine x_aload_n (pc := 28) rfl d23_28 ?_
      refine x_iconst (pc := 29) d23_29 ?_
      refine x_aload_n (pc := 30) rfl d23_30 ?_
      refine m_getR (pc := 31) f23_27 (by decide +kernel) hp.o7 hp.r7_6 d23_31 ?_
      refine x_iload_n (pc := 34) rfl d23_34 ?_
      refine x_bipush (pc := 35) (by decide) d23_35 ?_
      refine x_imul (pc := 37) d23_37 ?_
      refine x_bipush (pc := 38) (by decide) d23_38 ?_
      refine m_copy (pc := 40) c23_34 (ka13 (by omega)) hp.a13 (by omega) (by omega) (by omega) (by omega) (by omega) (by omega) (by omega) (by decide +kernel) (Nat.le_of_ble_eq_true rfl) d23_40 ?_
      refine x_vret (pc := 43) rfl (fun _ => rfl) d23_43 ?_
      first | rfl | (exfalso; omega)
theorem dt_settle (hl : l.1.stackTraces = false) (hp : LineAt q p) {f r : Int} (h0 : 0 ≤ f) (h1 : f < 48) (hr : 0 ≤ r ∧ r ≤ 2) (hs : (1 ≤ I p 2 ∧ I p 2 ≤ 99) ∧ (1 ≤ I p 3 ∧ I p 3 ≤ 9) ∧ (0 ≤ I p 4 ∧ I p 4 ≤ 30000000) ∧ (1 ≤ I (p + 10) f ∧ I (p + 10) f ≤ 20)) : DT l 54 [.ref p, .int (iI f), .int (iI r)] (mm q I v fr) 0 0 (.inl none, mm q (setC I p f r) v fr) := by
  have hpb := hp.b
  refine mkdt hl (by decide) (Nat.le_of_ble_eq_true rfl) (L := [some (.ref p), some (.int (iI f)), some (.int (iI r))]) rfl ?_
  refine x_iload_n (pc := 0) rfl d54_0 ?_
  refine x_if_ne (pc := 1) (tgt := 17) ⟨by omega, by omega⟩ d54_1 (by decide) (fun g1 => ?_) (fun g1 => ?_)
  · refine x_aload_n (pc := 17) rfl d54_17 ?_
    refine m_getR (pc := 18) f54_28 (by decide +kernel) hp.o0 hp.r0_11 d54_18 ?_
    refine m_getR (pc := 21) f54_207 (by decide +kernel) hp.o7 hp.r7_3 d54_21 ?_
    refine x_iload_n (pc := 24) rfl d54_24 ?_
    refine m_iald (pc := 25) hp.a10 (by omega) (by omega) (by omega) d54_25 ?_
    refine x_aload_n (pc := 26) rfl d54_26 ?_
    refine m_getI (pc := 27) (z := 3) f54_49 (by decide +kernel) rfl hp.o0 d54_27 ?_
    refine x_icmp_lt (pc := 30) (tgt := 46) ⟨by omega, by omega⟩ ⟨by omega, by omega⟩ d54_30 (by decide) (fun g30 => ?_) (fun g30 => ?_)
    · refine x_aload_n (pc := 46) rfl d54_46 ?_
      refine x_aload_n (pc := 47) rfl d54_47 ?_
      refine m_getI (pc := 48) (z := 4) f54_52 (by decide +kernel) rfl hp.o0 d54_48 ?_
      refine x_aload_n (pc := 51) rfl d54_51 ?_
      refine m_getI (pc := 52) (z := 2) f54_46 (by decide +kernel) rfl hp.o0 d54_52 ?_
      refine x_aload_n (pc := 55) rfl d54_55 ?_
      refine m_getR (pc := 56) f54_28 (by decide +kernel) hp.o0 hp.r0_11 d54_56 ?_
      refine m_getR (pc := 59) f54_207 (by decide +kernel) hp.o7 hp.r7_3 d54_59 ?_
      refine x_iload_n (pc := 62) rfl d54_62 ?_
      refine m_iald (pc := 63) hp.a10 (by omega) (by omega) (by omega) d54_63 ?_
      refine x_iconst (pc := 64) d54_64 ?_
      refine x_isub (pc := 65) d54_65 ?_
      refine x_ishl (pc := 66) (iI_shl (by omega) (by omega)) d54_66 ?_
      refine x_iadd (pc := 67) d54_67 ?_
      refine m_putI (pc := 68) (z := 5) f54_55 (by decide +kernel) (by decide +kernel) rfl hp.o0 d54_68 ?_
      refine x_vret (pc := 71) rfl (fun _ => rfl) d54_71 ?_
      unfold setC; rw [if_neg (by omega), if_neg (by omega)]
    · refine x_aload_n (pc := 33) rfl d54_33 ?_
      refine m_getR (pc := 34) f54_28 (by decide +kernel) hp.o0 hp.r0_11 d54_34 ?_
      refine m_getR (pc := 37) f54_165 (by decide +kernel) hp.o7 hp.r7_2 d54_37 ?_
      refine x_iload_n (pc := 40) rfl d54_40 ?_
      refine x_iconst (pc := 41) d54_41 ?_
      refine m_iast (pc := 42) hp.a9 (by omega) (by omega) (by omega) d54_42 ?_
      refine x_goto (pc := 43) (tgt := 71) d54_43 (by decide) ?_
      refine x_vret (pc := 71) rfl (fun _ => rfl) d54_71 ?_
      unfold setC; rw [if_neg (by omega), if_pos (by omega)]
  · refine x_aload_n (pc := 4) rfl d54_4 ?_
    refine m_getR (pc := 5) f54_28 (by decide +kernel) hp.o0 hp.r0_11 d54_5 ?_
    refine m_getR (pc := 8) f54_165 (by decide +kernel) hp.o7 hp.r7_2 d54_8 ?_
    refine x_iload_n (pc := 11) rfl d54_11 ?_
    refine x_iconst (pc := 12) d54_12 ?_
    refine m_iast (pc := 13) hp.a9 (by omega) (by omega) (by omega) d54_13 ?_
    refine x_goto (pc := 14) (tgt := 71) d54_14 (by decide) ?_
    refine x_vret (pc := 71) rfl (fun _ => rfl) d54_71 ?_
    unfold setC; rw [if_pos (by omega)]
theorem dt_receive (hl : l.1.stackTraces = false) (hq : 181 ≤ q) (hp : LineAt q p) {f r : Int} (h0 : 0 ≤ f) (h1 : f < 48) (hr : 0 ≤ r ∧ r ≤ 2) (hs : (∀ k : Int, 0 ≤ k → k < 6 → 0 ≤ I 13 k ∧ I 13 k ≤ 255) ∧ (-1 ≤ I p 6 ∧ I p 6 ≤ 15)) : DT l 53 [.ref p, .int (iI f), .int (iI r), .ref 13] (mm q I v fr) 0 0 (.inl none, mm q (recC I p f r) v fr) := by
  have hpb := hp.b
  have hg := hs.1 0 (by decide) (by decide)
  refine mkdt hl (by decide) (Nat.le_of_ble_eq_true rfl) (L := [some (.ref p), some (.int (iI f)), some (.int (iI r)), some (.ref 13), none]) rfl ?_
  refine x_iload_n (pc := 0) rfl d53_0 ?_
  refine x_iconst (pc := 1) d53_1 ?_
  refine x_icmp_ne (pc := 2) (tgt := 19) ⟨by omega, by omega⟩ ⟨by omega, by omega⟩ d53_2 (by decide) (fun g2 => ?_) (fun g2 => ?_)
  · refine x_aload_n (pc := 19) rfl d53_19 ?_
    refine x_iconst (pc := 20) d53_20 ?_
    refine m_iald (pc := 21) (ka13 (by omega)) (by omega) (by omega) (by omega) d53_21 ?_
    refine x_bipush (pc := 22) (by decide) d53_22 ?_
    refine x_idiv (pc := 24) (by omega) (by omega) (by omega) (by omega) d53_24 ?_
    refine x_istore (pc := 25) (by decide +kernel) rfl d53_25 ?_
    dsimp only [List.set]
    refine x_iload (pc := 27) rfl d53_27 ?_
    refine x_aload_n (pc := 29) rfl d53_29 ?_
    refine m_getI (pc := 30) (z := 6) f53_58 (by decide +kernel) rfl hp.o0 d53_30 ?_
    refine x_icmp_ne (pc := 33) (tgt := 52) ⟨by omega, by omega⟩ ⟨by omega, by omega⟩ d53_33 (by decide) (fun g33 => ?_) (fun g33 => ?_)
    · refine x_aload_n (pc := 52) rfl d53_52 ?_
      refine m_getR (pc := 53) f53_35 (by decide +kernel) hp.o0 hp.r0_12 d53_53 ?_
      refine x_dup (pc := 56) rfl d53_56 ?_
      refine m_getI (pc := 57) (z := 3) f53_240 (by decide +kernel) rfl hp.o14 d53_57 ?_
      refine x_iconst (pc := 60) d53_60 ?_
      refine x_iadd (pc := 61) d53_61 ?_
      refine m_putI (pc := 62) (z := 3) f53_240 (by decide +kernel) (by decide +kernel) rfl hp.o14 d53_62 ?_
      refine x_aload_n (pc := 65) rfl d53_65 ?_
      refine m_getR (pc := 66) f53_28 (by decide +kernel) hp.o0 hp.r0_11 d53_66 ?_
      refine x_iload_n (pc := 69) rfl d53_69 ?_
      refine x_aload_n (pc := 70) rfl d53_70 ?_
      refine x_cVv (pc := 71) c53_243 (dt_arrive hl hq hp h0 h1 (z := I (p + 11) f) (up2_p (by omega))) hp.o7 rfl rfl (Nat.le_of_ble_eq_true rfl) (by decide +kernel) (by decide +kernel) rfl d53_71 ?_
      refine x_aload_n (pc := 74) rfl d53_74 ?_
      refine x_iload (pc := 75) rfl d53_75 ?_
      refine m_putI (pc := 77) (z := 6) f53_58 (by decide +kernel) (by decide +kernel) rfl hp.o0 d53_77 ?_
      refine x_iload_n (pc := 80) rfl d53_80 ?_
      refine x_iconst (pc := 81) d53_81 ?_
      refine x_icmp_ne (pc := 82) (tgt := 98) ⟨by omega, by omega⟩ ⟨by omega, by omega⟩ d53_82 (by decide) (fun g82 => ?_) (fun g82 => ?_)
      · refine x_vret (pc := 98) rfl (fun _ => rfl) d53_98 ?_
        unfold recC recC0; rw [if_neg (by omega : ¬ r = 1), if_neg (by omega : ¬ r = 2), if_neg (by omega : ¬ I 13 0 / 16 = I p 6)]
      · refine x_aload_n (pc := 85) rfl d53_85 ?_
        refine m_getR (pc := 86) f53_35 (by decide +kernel) hp.o0 hp.r0_12 d53_86 ?_
        refine x_dup (pc := 89) rfl d53_89 ?_
        refine m_getW (pc := 90) (z := 4) (w := ((cp2 (up2 (up2 I (p + 14) 3 ((I (p + 14) 3) + 1)) (p + 11) f (I (p + 11) f + 1)) 13 0 (p + 13) (f * 6) 6) (p + 14) 4)) f53_247 (by decide +kernel) rfl hp.o14 (by rw [up2_p (by omega)]) d53_90 ?_
        refine x_iconst (pc := 93) d53_93 ?_
        refine x_iadd (pc := 94) d53_94 ?_
        refine m_putI (pc := 95) (z := 4) f53_247 (by decide +kernel) (by decide +kernel) rfl hp.o14 d53_95 ?_
        refine x_vret (pc := 98) rfl (fun _ => rfl) d53_98 ?_
        unfold recC recC0; rw [if_neg (by omega : ¬ r = 1), if_pos (by omega : r = 2), if_neg (by omega : ¬ I 13 0 / 16 = I p 6), cp2_p (by omega), up2_p (by omega), up2_i (by decide)]
    · refine x_aload_n (pc := 36) rfl d53_36 ?_
      refine m_getR (pc := 37) f53_35 (by decide +kernel) hp.o0 hp.r0_12 d53_37 ?_
      refine x_dup (pc := 40) rfl d53_40 ?_
      refine m_getI (pc := 41) (z := 2) f53_237 (by decide +kernel) rfl hp.o14 d53_41 ?_
      refine x_iconst (pc := 44) d53_44 ?_
      refine x_iadd (pc := 45) d53_45 ?_
      refine m_putI (pc := 46) (z := 2) f53_237 (by decide +kernel) (by decide +kernel) rfl hp.o14 d53_46 ?_
      refine x_goto (pc := 49) (tgt := 74) d53_49 (by decide) ?_
      refine x_aload_n (pc := 74) rfl d53_74 ?_
      refine x_iload (pc := 75) rfl d53_75 ?_
      refine m_putI (pc := 77) (z := 6) f53_58 (by decide +kernel) (by decide +kernel) rfl hp.o0 d53_77 ?_
      refine x_iload_n (pc := 80) rfl d53_80 ?_
      refine x_iconst (pc := 81) d53_81 ?_
      refine x_icmp_ne (pc := 82) (tgt := 98) ⟨by omega, by omega⟩ ⟨by omega, by omega⟩ d53_82 (by decide) (fun g82 => ?_) (fun g82 => ?_)
      · refine x_vret (pc := 98) rfl (fun _ => rfl) d53_98 ?_
        unfold recC recC0; rw [if_neg (by omega : ¬ r = 1), if_neg (by omega : ¬ r = 2), if_pos (by omega : I 13 0 / 16 = I p 6)]
      · refine x_aload_n (pc := 85) rfl d53_85 ?_
        refine m_getR (pc := 86) f53_35 (by decide +kernel) hp.o0 hp.r0_12 d53_86 ?_
        refine x_dup (pc := 89) rfl d53_89 ?_
        refine m_getW (pc := 90) (z := 4) (w := (I (p + 14) 4)) f53_247 (by decide +kernel) rfl hp.o14 (by rw [up2_p (by omega), up2_i (by decide)]) d53_90 ?_
        refine x_iconst (pc := 93) d53_93 ?_
        refine x_iadd (pc := 94) d53_94 ?_
        refine m_putI (pc := 95) (z := 4) f53_247 (by decide +kernel) (by decide +kernel) rfl hp.o14 d53_95 ?_
        refine x_vret (pc := 98) rfl (fun _ => rfl) d53_98 ?_
        unfold recC recC0; rw [if_neg (by omega : ¬ r = 1), if_pos (by omega : r = 2), if_pos (by omega : I 13 0 / 16 = I p 6)]
  · refine x_aload_n (pc := 5) rfl d53_5 ?_
    refine m_getR (pc := 6) f53_35 (by decide +kernel) hp.o0 hp.r0_12 d53_6 ?_
    refine x_dup (pc := 9) rfl d53_9 ?_
    refine m_getI (pc := 10) (z := 1) f53_234 (by decide +kernel) rfl hp.o14 d53_10 ?_
    refine x_iconst (pc := 13) d53_13 ?_
    refine x_iadd (pc := 14) d53_14 ?_
    refine m_putI (pc := 15) (z := 1) f53_234 (by decide +kernel) (by decide +kernel) rfl hp.o14 d53_15 ?_
    refine x_vret (pc := 18) rfl (fun _ => rfl) d53_18 ?_
    unfold recC; rw [if_pos (by omega : r = 1)]
/-- all places but those of the line and of what is sent -/
def offL (p : Nat) (I J : Nat → Int → Int) : Prop := ∀ a, (a < p ∨ p + 14 < a) → a ≠ 11 → a ≠ 12 → a ≠ 13 → J a = I a
theorem x_mem {y k n pc : Nat} {L : LL} {st : List Value} {Q : OO → Prop} {I J : Nat → Int → Int} (h : J = I) (kk : Ex l y k n pc L st (mm q J v fr) Q) : Ex l y k n pc L st (mm q I v fr) Q := by rw [← h]; exact kk
theorem CX.cong {I J : Nat → Int → Int} (h : CX I p) (hh : ∀ a, p ≤ a → a ≤ p + 14 → J a = I a) : CX J p := by
  unfold CX
  rw [hh (p + 12) (by omega) (by omega), hh (p + 13) (by omega) (by omega), hh (p + 7) (by omega) (by omega), hh (p + 11) (by omega) (by omega), hh (p + 10) (by omega) (by omega), hh (p + 14) (by omega) (by omega), hh p (by omega) (by omega)]
  exact h
theorem CINV.off {I J : Nat → Int → Int} (h : CINV I p c) (hh : ∀ a, p ≤ a → a ≤ p + 14 → J a = I a) : CINV J p c := by
  refine ⟨?_, h.2.cong hh⟩
  rw [vc_congr hh]
  exact h.1
theorem CINV.nap (h : CINV I p c) : CINV (napC I p) p (c + 25344) := by
  refine ⟨?_, ?_⟩
  · rw [vc_nap]; exact h.1.nap
  · have g := h.2
    unfold napC
    split
    · unfold CX
      rw [up2_off' _ _ _ (by omega), up2_off' _ _ _ (by omega), up2_off' _ _ _ (by omega), up2_off' _ _ _ (by omega), up2_off' _ _ _ (by omega), up2_off' _ _ _ (by omega), up2_off' _ _ _ (by omega), up2_off' _ _ _ (by omega), up2_off' _ _ _ (by omega), up2_off' _ _ _ (by omega), up2_p (by omega), up2_i (by decide), up2_p (by omega), up2_i (by decide), up2_p (by omega), up2_i (by decide), up2_i (by decide), up2_p (by omega)]
      exact g
    · exact g
/-! the memory behind an attempt -/
def cntC (J : Nat → Int → Int) (p : Nat) (f : Int) : Nat → Int → Int := up2 (up2 (up2 (up2 (up2 J (p + 10) f ((J (p + 10) f) + 1)) (p + 14) 0 ((J (p + 14) 0) + 1)) (p + 14) 5 ((J (p + 14) 5) + (J (p + 8) f * 8))) (p + 14) 6 ((J (p + 14) 6) + (((J (p + 8) f * 8) + 8) * (J p 0)))) p 4 ((J p 4) + (((J (p + 8) f * 8) + 8) * (J p 0)))
theorem cntC_a {J : Nat → Int → Int} {f : Int} {a : Nat} (h : a ≠ p) (h2 : a ≠ p + 10) (h3 : a ≠ p + 14) : cntC J p f a = J a := by
  unfold cntC
  rw [up2_off' _ _ _ h, up2_off' _ _ _ h3, up2_off' _ _ _ h3, up2_off' _ _ _ h3, up2_off' _ _ _ h2]
theorem cntC_p {J : Nat → Int → Int} {f j : Int} (h : j ≠ 4) : cntC J p f p j = J p j := by
  unfold cntC
  rw [up2_i h, up2_p (by omega), up2_p (by omega), up2_p (by omega), up2_p (by omega)]
theorem vc_cnt {J : Nat → Int → Int} {f : Int} (h0 : 0 ≤ f) (h1 : f < J (p + 7) 0) : Vc (cntC J p f) p = cntA (Vc J p) f := by
  unfold cntC cntA
  rw [vw7, vc_b, vw16, vw10, vc_tr h0 h1, vr7, vr16, vr10, vr0, (vrow h0 h1).1, (vrow h0 h1).2.2]
theorem recC_p {Y : Nat → Int → Int} {f r j : Int} (h : j ≠ 6) : recC Y p f r p j = Y p j := by
  have e : recC0 Y p f p j = Y p j := by
    unfold recC0
    rw [up2_i h]
    split
    · exact up2_p (by omega)
    · rw [cp2_p (by omega), up2_p (by omega), up2_p (by omega)]
  unfold recC
  split
  · exact up2_p (by omega)
  · split
    · rw [up2_p (by omega)]; exact e
    · exact e
theorem recC_a {Y : Nat → Int → Int} {f r : Int} {a : Nat} (h : a ≠ p) (h2 : a ≠ p + 11) (h3 : a ≠ p + 13) (h4 : a ≠ p + 14) : recC Y p f r a = Y a := by
  have e : recC0 Y p f a = Y a := by
    unfold recC0
    rw [up2_off' _ _ _ h]
    split
    · exact up2_off' _ _ _ h4
    · funext b
      rw [cp2_p h3, up2_p h2, up2_p h4]
  unfold recC
  split
  · exact up2_off' _ _ _ h4
  · split
    · rw [up2_off' _ _ _ h4]; exact e
    · exact e
theorem recC_14 {Y : Nat → Int → Int} {f r j : Int} (h : j = 0 ∨ j = 5 ∨ j = 6) : recC Y p f r (p + 14) j = Y (p + 14) j := by
  have e : recC0 Y p f (p + 14) j = Y (p + 14) j := by
    unfold recC0
    rw [up2_p (by omega)]
    split
    · exact up2_i (by omega)
    · rw [cp2_p (by omega), up2_p (by omega), up2_i (by omega)]
  unfold recC
  split
  · exact up2_i (by omega)
  · split
    · rw [up2_i (by omega)]; exact e
    · exact e
theorem recC_11 {Y : Nat → Int → Int} {f r g : Int} : recC Y p f r (p + 11) g = Y (p + 11) g ∨ g = f ∧ recC Y p f r (p + 11) g = Y (p + 11) g + 1 := by
  have e : recC0 Y p f (p + 11) g = Y (p + 11) g ∨ g = f ∧ recC0 Y p f (p + 11) g = Y (p + 11) g + 1 := by
    unfold recC0
    rw [up2_p (by omega)]
    split
    · exact Or.inl (up2_p (by omega))
    · rw [cp2_p (by omega)]
      by_cases e : g = f
      · exact Or.inr ⟨e, by rw [e, up2_s]⟩
      · exact Or.inl (by rw [up2_i e, up2_p (by omega)])
  unfold recC
  split
  · exact Or.inl (up2_p (by omega))
  · split
    · rw [up2_p (by omega)]; exact e
    · exact e
theorem recC_13 {Y : Nat → Int → Int} {f r : Int} (hy : ∀ i : Int, 0 ≤ i → i < 288 → 0 ≤ Y (p + 13) i ∧ Y (p + 13) i ≤ 255) (hb : ∀ k : Int, 0 ≤ k → k < 6 → 0 ≤ Y 13 k ∧ Y 13 k ≤ 255) (hp : 16 ≤ p) : ∀ i : Int, 0 ≤ i → i < 288 → 0 ≤ recC Y p f r (p + 13) i ∧ recC Y p f r (p + 13) i ≤ 255 := by
  intro i h0 h1
  have e : 0 ≤ recC0 Y p f (p + 13) i ∧ recC0 Y p f (p + 13) i ≤ 255 := by
    unfold recC0
    rw [up2_p (by omega)]
    split
    · rw [up2_p (by omega)]; exact hy i h0 h1
    · unfold cp2
      split
      · rw [up2_p (by omega), up2_p (by omega)]
        exact hb _ (by omega) (by omega)
      · rw [up2_p (by omega), up2_p (by omega)]; exact hy i h0 h1
  unfold recC
  split
  · rw [up2_p (by omega)]; exact hy i h0 h1
  · split
    · rw [up2_p (by omega)]; exact e
    · exact e
theorem setC_a {R : Nat → Int → Int} {f r : Int} {a : Nat} (h : a ≠ p) (h2 : a ≠ p + 9) : setC R p f r a = R a := by
  unfold setC
  split
  · exact up2_off' _ _ _ h2
  · split
    · exact up2_off' _ _ _ h2
    · exact up2_off' _ _ _ h
theorem setC_p {R : Nat → Int → Int} {f r j : Int} (h : j ≠ 5) : setC R p f r p j = R p j := by
  unfold setC
  split
  · exact up2_p (by omega)
  · split
    · exact up2_p (by omega)
    · exact up2_i h
theorem CX.att {J : Nat → Int → Int} {f r : Int} (h : CX J p) (hb : ∀ k : Int, 0 ≤ k → k < 6 → 0 ≤ J 13 k ∧ J 13 k ≤ 255) (hp : 16 ≤ p) : CX (setC (recC (cntC J p f) p f r) p f r) p := by
  obtain ⟨g1, g2, g3⟩ := h
  have e13 : cntC J p f (p + 13) = J (p + 13) := cntC_a (by omega) (by omega) (by omega)
  have e013 : cntC J p f 13 = J 13 := cntC_a (by omega) (by omega) (by omega)
  refine ⟨fun i h0 h1 => ⟨?_, ?_⟩, fun g h0 h1 => ?_, ?_⟩
  · rw [setC_a (by omega) (by omega), recC_a (by omega) (by omega) (by omega) (by omega), cntC_a (by omega) (by omega) (by omega)]
    exact (g1 i h0 h1).1
  · rw [setC_a (by omega) (by omega)]
    exact recC_13 (by rw [e13]; exact fun i h0 h1 => (g1 i h0 h1).2) (by rw [e013]; exact hb) hp i h0 h1
  · rw [setC_a (by omega) (by omega), recC_a (by omega) (by omega) (by omega) (by omega), cntC_a (by omega) (by omega) (by omega)] at h1
    have g9 := g2 g h0 h1
    rw [setC_a (by omega) (by omega), setC_a (by omega) (by omega), recC_a (a := p + 10) (by omega) (by omega) (by omega) (by omega)]
    have e10 : cntC J p f (p + 10) g = if g = f then J (p + 10) f + 1 else J (p + 10) g := by
      unfold cntC
      rw [up2_p (by omega), up2_p (by omega), up2_p (by omega), up2_p (by omega), up2_at]
    have e11 : cntC J p f (p + 11) g = J (p + 11) g := congrFun (cntC_a (by omega) (by omega) (by omega)) g
    rcases recC_11 (Y := cntC J p f) (p := p) (f := f) (r := r) (g := g) with e | ⟨e0, e⟩
    · rw [e, e10, e11]
      split
      · rename_i z; rw [← z]; omega
      · exact g9
    · rw [e, e10, e11, if_pos e0, ← e0]; omega
  · rw [setC_a (by omega) (by omega), setC_p (by decide), recC_14 (by decide), recC_14 (by decide), recC_14 (by decide), recC_p (by decide), cntC_p (by decide)]
    have e0 : cntC J p f (p + 14) 0 = J (p + 14) 0 + 1 := by unfold cntC; rw [up2_p (by omega), up2_i (by decide), up2_i (by decide), up2_s]
    have e5 : cntC J p f (p + 14) 5 = J (p + 14) 5 + J (p + 8) f * 8 := by unfold cntC; rw [up2_p (by omega), up2_i (by decide), up2_s]
    have e6 : cntC J p f (p + 14) 6 = J (p + 14) 6 + (J (p + 8) f * 8 + 8) * J p 0 := by unfold cntC; rw [up2_p (by omega), up2_s]
    rw [e0, e5, e6, g3, ← Int.add_mul]
    congr 1
    omega
theorem att_off {J : Nat → Int → Int} {f r : Int} (hp : 16 ≤ p) : offL p J (setC (recC (cntC J p f) p f r) p f r) := fun a h0 _ _ h3 => by
  rw [setC_a (by omega) (by omega), recC_a (by omega) (by omega) (by omega) (by omega), cntC_a (by omega) (by omega) (by omega)]
theorem ct_attempt (hl : l.1.stackTraces = false) (hq : 181 ≤ q) (hp : LineAt q p) (h : CINV I p c) (hc : c ≤ 20000000) {f : Int} (h0 : 0 ≤ f) (h1 : f < I (p + 7) 0) (hz : I (p + 9) f = 0) : CT l 51 [.ref p, .int (iI f), .ref 11] (mm q I v fr) 0 0 (oE q v fr none (fun K => offL p I K ∧ Vc K p = attA (Vc I p) f ∧ CX K p)) := by
  have hpb := hp.b
  obtain ⟨N, hN⟩ : ∃ N, N = napC I p := ⟨_, rfl⟩
  have hnap : DT l 52 [.ref p] (mm q I v fr) 0 0 (.inl none, mm q N v fr) := by rw [hN]; exact dt_nap hl hp h hc
  have n1 : CINV N p (c + 25344) := by rw [hN]; exact h.nap
  have n2 : N (p + 7) = I (p + 7) := by rw [hN]; unfold napC; split; rw [up2_off' _ _ _ (by omega), up2_off' _ _ _ (by omega)]; rfl
  have ns := n1.sc
  obtain ⟨r, hr⟩ : ∃ r, r = resF N p f (N p 4) (N p 0) (N p 1) := ⟨_, rfl⟩
  have hsnd : CT l 61 [.ref 11, .ref p, .int (iI f), .int (iI (N p 4)), .int (iI (N p 0))] (mm q N v fr) 0 0 (oE q v fr (some (.int (iI r))) (fun K => SndI N K p f (N p 4) (N p 0) (N p 1))) := by
    rw [hr]
    exact ct_send hl hq hp n1.dogs n1.frames (fun _ _ _ _ => rfl) h0 (by rw [n2]; exact h1) (by omega) (by omega) (by omega) (by omega) (by omega) (by omega)
  have hrr : 0 ≤ r ∧ r ≤ 2 := by rw [hr]; exact res_r _ _ _ _
  refine mkct2 hl (by decide) (Nat.le_of_ble_eq_true rfl) (L := [some (.ref p), some (.int (iI f)), some (.ref 11), none, none]) rfl ?_
  refine x_aload_n (pc := 0) rfl d51_0 ?_
  refine x_cVv (pc := 1) c51_198 hnap hp.o0 rfl rfl (Nat.le_of_ble_eq_true rfl) (by decide +kernel) (by decide +kernel) rfl d51_1 ?_
  refine x_aload_n (pc := 4) rfl d51_4 ?_
  refine x_aload_n (pc := 5) rfl d51_5 ?_
  refine x_iload_n (pc := 6) rfl d51_6 ?_
  refine x_aload_n (pc := 7) rfl d51_7 ?_
  refine m_getI (pc := 8) (z := 4) f51_52 (by decide +kernel) rfl hp.o0 d51_8 ?_
  refine x_aload_n (pc := 11) rfl d51_11 ?_
  refine m_getI (pc := 12) (z := 0) f51_39 (by decide +kernel) rfl hp.o0 d51_12 ?_
  refine x_cVes (pc := 15) c51_201 hsnd (ko11 (by omega)) rfl rfl (Nat.le_of_ble_eq_true rfl) (by decide +kernel) (by decide +kernel) d51_15 (fun J1 hJ1 => ?_)
  obtain ⟨a0, a1, a2, a3⟩ := hJ1
  have j1 : CINV J1 p (c + 25344) := n1.off fun a g0 g1 => a0 a (by omega) (by omega) (by omega)
  have j2 : J1 (p + 7) = I (p + 7) := by rw [a0 (p + 7) (by omega) (by omega) (by omega), n2]
  have jf := j1.fr h0 (by rw [j2]; exact h1)
  have js := j1.sc
  have h48 : f < 48 := by rw [← j2] at h1; omega
  refine x_istore_n (pc := 18) (by decide +kernel) rfl d51_18 ?_
  dsimp only [List.set]
  refine x_aload_n (pc := 19) rfl d51_19 ?_
  refine m_getR (pc := 20) f51_28 (by decide +kernel) hp.o0 hp.r0_11 d51_20 ?_
  refine m_getR (pc := 23) f51_207 (by decide +kernel) hp.o7 hp.r7_3 d51_23 ?_
  refine x_iload_n (pc := 26) rfl d51_26 ?_
  refine x_dup2 (pc := 27) rfl rfl d51_27 ?_
  refine m_iald (pc := 28) hp.a10 (by omega) (by omega) (by omega) d51_28 ?_
  refine x_iconst (pc := 29) d51_29 ?_
  refine x_iadd (pc := 30) d51_30 ?_
  refine m_iast (pc := 31) hp.a10 (by omega) (by omega) (by omega) d51_31 ?_
  refine x_aload_n (pc := 32) rfl d51_32 ?_
  refine m_getR (pc := 33) f51_35 (by decide +kernel) hp.o0 hp.r0_12 d51_33 ?_
  refine x_dup (pc := 36) rfl d51_36 ?_
  refine m_getW (pc := 37) (z := 0) (w := (J1 (p + 14) 0)) f51_210 (by decide +kernel) rfl hp.o14 (by rw [up2_p (by omega)]) d51_37 ?_
  refine x_iconst (pc := 40) d51_40 ?_
  refine x_iadd (pc := 41) d51_41 ?_
  refine m_putI (pc := 42) (z := 0) f51_210 (by decide +kernel) (by decide +kernel) rfl hp.o14 d51_42 ?_
  refine x_aload_n (pc := 45) rfl d51_45 ?_
  refine m_getR (pc := 46) f51_35 (by decide +kernel) hp.o0 hp.r0_12 d51_46 ?_
  refine x_dup (pc := 49) rfl d51_49 ?_
  refine m_getW (pc := 50) (z := 5) (w := (J1 (p + 14) 5)) f51_213 (by decide +kernel) rfl hp.o14 (by rw [up2_i (by decide), up2_p (by omega)]) d51_50 ?_
  refine x_aload_n (pc := 53) rfl d51_53 ?_
  refine m_getW (pc := 54) (z := 2) (w := (J1 11 2)) f51_216 (by decide +kernel) rfl (ko11 (by omega)) (by rw [up2_p (by omega), up2_p (by omega)]) d51_54 ?_
  refine x_val (pc := 57) (w := (J1 (p + 8) f * 8)) (by rw [a1, a0 (p + 8) (by omega) (by omega) (by omega)]) ?_
  refine x_iadd (pc := 57) d51_57 ?_
  refine m_putI (pc := 58) (z := 5) f51_213 (by decide +kernel) (by decide +kernel) rfl hp.o14 d51_58 ?_
  refine x_aload_n (pc := 61) rfl d51_61 ?_
  refine m_getW (pc := 62) (z := 2) (w := (J1 11 2)) f51_216 (by decide +kernel) rfl (ko11 (by omega)) (by rw [up2_p (by omega), up2_p (by omega), up2_p (by omega)]) d51_62 ?_
  refine x_val (pc := 65) (w := (J1 (p + 8) f * 8)) (by rw [a1, a0 (p + 8) (by omega) (by omega) (by omega)]) ?_
  refine x_bipush (pc := 65) (by decide) d51_65 ?_
  refine x_iadd (pc := 67) d51_67 ?_
  refine x_aload_n (pc := 68) rfl d51_68 ?_
  refine m_getW (pc := 69) (z := 0) (w := (J1 p 0)) f51_39 (by decide +kernel) rfl hp.o0 (by rw [up2_p (by omega), up2_p (by omega), up2_p (by omega)]) d51_69 ?_
  refine x_imul (pc := 72) d51_72 ?_
  refine x_istore (pc := 73) (by decide +kernel) rfl d51_73 ?_
  dsimp only [List.set]
  refine x_aload_n (pc := 75) rfl d51_75 ?_
  refine m_getR (pc := 76) f51_35 (by decide +kernel) hp.o0 hp.r0_12 d51_76 ?_
  refine x_dup (pc := 79) rfl d51_79 ?_
  refine m_getW (pc := 80) (z := 6) (w := (J1 (p + 14) 6)) f51_217 (by decide +kernel) rfl hp.o14 (by rw [up2_i (by decide), up2_i (by decide), up2_p (by omega)]) d51_80 ?_
  refine x_iload (pc := 83) rfl d51_83 ?_
  refine x_iadd (pc := 85) d51_85 ?_
  refine m_putI (pc := 86) (z := 6) f51_217 (by decide +kernel) (by decide +kernel) rfl hp.o14 d51_86 ?_
  refine x_aload_n (pc := 89) rfl d51_89 ?_
  refine x_dup (pc := 90) rfl d51_90 ?_
  refine m_getW (pc := 91) (z := 4) (w := (J1 p 4)) f51_52 (by decide +kernel) rfl hp.o0 (by rw [up2_p (by omega), up2_p (by omega), up2_p (by omega), up2_p (by omega)]) d51_91 ?_
  refine x_iload (pc := 94) rfl d51_94 ?_
  refine x_iadd (pc := 96) d51_96 ?_
  refine m_putI (pc := 97) (z := 4) f51_52 (by decide +kernel) (by decide +kernel) rfl hp.o0 d51_97 ?_
  refine x_aload_n (pc := 100) rfl d51_100 ?_
  refine x_iload_n (pc := 101) rfl d51_101 ?_
  refine x_iload_n (pc := 102) rfl d51_102 ?_
  refine x_aload_n (pc := 103) rfl d51_103 ?_
  refine m_getR (pc := 104) f51_220 (by decide +kernel) (ko11 (by omega)) rr11_1 d51_104 ?_
  obtain ⟨Y, hY⟩ : ∃ Z : Nat → Int → Int, Z = (up2 (up2 (up2 (up2 (up2 J1 (p + 10) f ((J1 (p + 10) f) + 1)) (p + 14) 0 ((J1 (p + 14) 0) + 1)) (p + 14) 5 ((J1 (p + 14) 5) + (J1 (p + 8) f * 8))) (p + 14) 6 ((J1 (p + 14) 6) + (((J1 (p + 8) f * 8) + 8) * (J1 p 0)))) p 4 ((J1 p 4) + (((J1 (p + 8) f * 8) + 8) * (J1 p 0)))) := ⟨_, rfl⟩
  refine x_mem (J := Y) (pc := 107) hY ?_
  have hY2 : Y = cntC J1 p f := hY
  have m1 : 0 ≤ (J1 (p + 8) f * 8 + 8) * J1 p 0 := Int.mul_nonneg (by omega) (by omega)
  have m2 : (J1 (p + 8) f * 8 + 8) * J1 p 0 ≤ 56 * 9 := Int.mul_le_mul (by omega) (by omega) (by omega) (by omega)
  have y13 : Y 13 = J1 13 := by rw [hY2]; exact cntC_a (by omega) (by omega) (by omega)
  have hY53 : (∀ k : Int, 0 ≤ k → k < 6 → 0 ≤ Y 13 k ∧ Y 13 k ≤ 255) ∧ (-1 ≤ Y p 6 ∧ Y p 6 ≤ 15) := ⟨by rw [y13]; exact a3, by rw [hY2, cntC_p (by decide)]; omega⟩
  refine x_cVv (pc := 107) c51_223 (dt_receive hl hq hp h0 h48 hrr hY53) hp.o0 rfl rfl (Nat.le_of_ble_eq_true rfl) (by decide +kernel) (by decide +kernel) rfl d51_107 ?_
  refine x_aload_n (pc := 110) rfl d51_110 ?_
  refine x_iload_n (pc := 111) rfl d51_111 ?_
  refine x_iload_n (pc := 112) rfl d51_112 ?_
  obtain ⟨R, hR⟩ : ∃ Z : Nat → Int → Int, Z = (recC Y p f r) := ⟨_, rfl⟩
  refine x_mem (J := R) (pc := 113) hR ?_
  have hR54 : (1 ≤ R p 2 ∧ R p 2 ≤ 99) ∧ (1 ≤ R p 3 ∧ R p 3 ≤ 9) ∧ (0 ≤ R p 4 ∧ R p 4 ≤ 30000000) ∧ (1 ≤ R (p + 10) f ∧ R (p + 10) f ≤ 20) := by rw [hR, recC_p (by decide), recC_p (by decide), recC_p (by decide), recC_a (by omega) (by omega) (by omega) (by omega), hY2, cntC_p (by decide), cntC_p (by decide), show cntC J1 p f p 4 = J1 p 4 + (J1 (p + 8) f * 8 + 8) * J1 p 0 from up2_s, show cntC J1 p f (p + 10) f = J1 (p + 10) f + 1 from by unfold cntC; rw [up2_p (by omega), up2_p (by omega), up2_p (by omega), up2_p (by omega), up2_s]]; omega
  refine x_cVv (pc := 113) c51_227 (dt_settle hl hp h0 h48 hrr hR54) hp.o0 rfl rfl (Nat.le_of_ble_eq_true rfl) (by decide +kernel) (by decide +kernel) rfl d51_113 ?_
  refine x_vret (pc := 116) rfl (fun _ => rfl) d51_116 ?_
  refine ⟨setC R p f r, rfl, ?_, ?_, ?_⟩
  · rw [hR, hY2]
    intro a g0 g1 g2 g3
    rw [att_off (by omega) a g0 g1 g2 g3, a0 a g1 g2 g3, hN]
    unfold napC
    split
    · rw [up2_off' _ _ _ (by omega), up2_off' _ _ _ (by omega)]
    · rfl
  · have hv : Vc J1 p = napA (Vc I p) := by rw [← vc_nap, ← hN]; exact vc_off a0 (by omega)
    have hv2 : Vc N p = napA (Vc I p) := by rw [← vc_nap, ← hN]
    have hf1 : f < J1 (p + 7) 0 := by rw [j2]; exact h1
    have hf2 : f < N (p + 7) 0 := by rw [n2]; exact h1
    have hfN := (n1.fr h0 hf2).1
    have e8 : Y (p + 8) = J1 (p + 8) := by rw [hY2]; exact cntC_a (by omega) (by omega) (by omega)
    have e7 : Y (p + 7) = J1 (p + 7) := by rw [hY2]; exact cntC_a (by omega) (by omega) (by omega)
    have e11 : Y (p + 11) = J1 (p + 11) := by rw [hY2]; exact cntC_a (by omega) (by omega) (by omega)
    have ja := j1.2.2.1 f h0 hf1
    have hR7 : f < R (p + 7) 0 := by rw [hR, recC_a (by omega) (by omega) (by omega) (by omega), e7]; exact hf1
    have hw := res_vc n1 (t := N p 4) (bt := N p 0) h0 hf2
    rw [vc_set h0 hR7, hR, vc_rec (by omega) h0 (by rw [e7]; exact hf1) (by rw [e8]; omega) (by rw [e11]; exact ja.1), hY2, vc_cnt h0 hf1, hv]
    unfold attA
    rw [show napA (Vc I p) 0 7 = N p 4 from by rw [← hv2, vr7], show napA (Vc I p) 0 0 = N p 0 from by rw [← hv2, vr0], ← hv2, hw.1, ← hr]
    have e9 : cntA (Vc N p) f 6 f = N (p + 8) f := (vrow h0 hf2).1
    rw [rec_congr (C := takA (Vc N p) f (N p 4) (N p 0)) (by rw [e9]; omega) (fun _ k k0 k1 => by
      rw [e9] at k1
      rw [hw.2 k k0 k1, ← hY2, y13]
      exact a2 k k0 k1)]
  · rw [hR, hY2]
    exact j1.2.att a3 (by omega)
end Line
