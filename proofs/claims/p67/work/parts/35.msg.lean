/-! ===== messages come ===== -/
section Msg
variable {l : LX} {q p s : Nat} {I : Nat → Int → Int} {v : Int} {fr : Bool} {c : Int}
theorem ent_snoc {m n i : Int} {g : Int → Int} (h0 : 0 ≤ m) (hg : g m = n) : ent (m + 1) g i = if i = m then n else ent m g i := by
  unfold ent
  by_cases e : i = m
  · rw [if_pos e, if_pos (by omega), e, hg]
  · rw [if_neg e]
    by_cases e2 : 0 ≤ i ∧ i < m
    · rw [if_pos e2, if_pos (by omega)]
    · rw [if_neg e2, if_neg (by omega)]
theorem vc_msg {J : Nat → Int → Int} {m n g : Int} (h0 : 0 ≤ m) (hm : J p 7 = m) (h1 : J (p + 1) m = n) (h2 : J (p + 2) m = g) : Vc (up2 J p 7 (m + 1)) p = msgW (Vc J p) m n g := by
  have h : ∀ a, a ≠ p → up2 J p 7 (m + 1) a = J a := fun a ha => up2_off' J 7 _ ha
  funext k i
  by_cases hk0 : k = 0
  · subst hk0
    by_cases h5 : i = 5
    · subst h5; rw [(msgW_e (i := 0)).2.2, vr5, up2_s]
    · rw [msgW_0 h5]
      have := scal_up (I := J) (p := p) (n := 5) (z := m + 1) (by decide) i
      rw [if_neg (show ¬ i = ((5 : Nat) : Int) from h5)] at this
      exact this
  by_cases hk4 : k = 4
  · subst hk4; rw [msgW_e.1, vc4, vc4, up2_s, h (p + 1) (by omega), hm]; exact ent_snoc h0 h1
  by_cases hk5 : k = 5
  · subst hk5; rw [msgW_e.2.1, vc5, vc5, up2_s, h (p + 2) (by omega), hm]; exact ent_snoc h0 h2
  rw [msgW_k ⟨hk0, hk4, hk5⟩]
  unfold Vc
  rw [h (p + 3) (by omega), h (p + 4) (by omega), h (p + 5) (by omega), h (p + 6) (by omega), h (p + 7) (by omega), h (p + 8) (by omega), h (p + 9) (by omega), h (p + 10) (by omega), h (p + 11) (by omega), h (p + 12) (by omega), h (p + 13) (by omega)]
  match k, hk0, hk4, hk5 with
  | 0, h, _, _ => exact absurd rfl h
  | 4, _, h, _ => exact absurd rfl h
  | 5, _, _, h => exact absurd rfl h
  | 1, _, _, _ | 2, _, _, _ | 3, _, _, _ | 6, _, _, _ | 7, _, _, _ | 8, _, _, _ | 9, _, _, _ | 10, _, _, _ | 11, _, _, _ => rfl
  | k + 12, _, _, _ => rfl
/-- row 1 or 2 at the number of messages isn't seen -/
theorem vc_row {J : Nat → Int → Int} {o : Nat} {z m : Int} (ho : o = 1 ∨ o = 2) (hm : J p 7 ≤ m) : Vc (up2 J (p + o) m z) p = Vc J p := by
  have h : ∀ a, a ≠ p + o → up2 J (p + o) m z a = J a := fun a ha => up2_off' J m _ ha
  have hs : ∀ i, scalC (up2 J (p + o) m z) p i = scalC J p i := fun i => scal_off fun n => h _ (by have := sO_out n; omega)
  have he : ∀ (b : Nat), ent (J p 7) (up2 J (p + o) m z (p + b)) = ent (J p 7) (J (p + b)) := fun b => ent_congr fun i h0 h1 => up2_i (by omega)
  funext k i
  unfold Vc
  rw [hs, h p (by omega), he 1, he 2, h (p + 3) (by omega), h (p + 4) (by omega), h (p + 5) (by omega), h (p + 6) (by omega), h (p + 7) (by omega), h (p + 8) (by omega), h (p + 9) (by omega), h (p + 10) (by omega), h (p + 11) (by omega), h (p + 12) (by omega), h (p + 13) (by omega)]
/-- the memory while j of a message's frames have come -/
def AddI (I : Nat → Int → Int) (p : Nat) (B : Int → Int) (n : Int) (j : Nat) (J : Nat → Int → Int) : Prop :=
  offP p I J ∧ Vc J p = frsA (Vc I p) B n j ∧ CX J p ∧ J p = I p ∧ J (p + 1) (I p 7) = n ∧ J (p + 2) (I p 7) = I (p + 7) 0 ∧ J (p + 7) 0 = I (p + 7) 0 + j ∧ ∀ f : Int, f < I (p + 7) 0 → J (p + 8) f = I (p + 8) f ∧ ∀ i : Int, i < 6 * I (p + 7) 0 → J (p + 12) i = I (p + 12) i
theorem add_step {J K : Nat → Int → Int} {B : Int → Int} {n : Int} {j : Nat} (h : AddI I p B n j J) (k0 : offP p J K) (k1 : Vc K p = fAddA (Vc J p) (fun k => B (4 * j + k)) (min 4 (n - 4 * j))) (k2 : CX J p → CX K p) (k3 : ∀ a, a < p + 7 ∨ p + 13 ≤ a → K a = J a) (k4 : K (p + 7) 0 = J (p + 7) 0 + 1) (k5 : ∀ f : Int, f < J (p + 7) 0 → K (p + 8) f = J (p + 8) f ∧ ∀ i : Int, i < 6 * J (p + 7) 0 → K (p + 12) i = J (p + 12) i) : AddI I p B n (j + 1) K := by
  obtain ⟨j0, j1, j2, j3, j4, j5, j6, j7⟩ := h
  refine ⟨j0.trans k0, ?_, k2 j2, by rw [k3 p (by omega), j3], by rw [k3 _ (by omega), j4], by rw [k3 _ (by omega), j5], by rw [k4, j6]; omega, fun f hf => ?_⟩
  · rw [k1, j1]; rfl
  · have a1 := k5 f (by omega)
    have a2 := j7 f hf
    exact ⟨by rw [a1.1, a2.1], fun i hi => by rw [a1.2 i (by omega), a2.2 i hi]⟩
theorem add_end {J : Nat → Int → Int} {B : Int → Int} {n : Int} {j : Nat} (h : AddI I p B n j J) (hj : (j : Int) = (n + 3) / 4) (h7 : 0 ≤ I p 7) : offP p I (up2 J p 7 (I p 7 + 1)) ∧ Vc (up2 J p 7 (I p 7 + 1)) p = addA (Vc I p) B n ∧ CX (up2 J p 7 (I p 7 + 1)) p := by
  obtain ⟨j0, j1, j2, j3, j4, j5, j6, j7⟩ := h
  refine ⟨fun a ha => by rw [up2_off' _ _ _ (by omega)]; exact j0 a ha, ?_, j2.up (by omega) (by omega) (fun _ => by decide)⟩
  rw [vc_msg h7 (by rw [j3]) j4 j5, j1]
  unfold addA
  rw [vr5, vr6, show ((n + 3) / 4).toNat = j from by omega, commW]
theorem add_start (h : CINV I p c) {B : Int → Int} {n : Int} : AddI I p B n 0 (up2 (up2 I (p + 1) (I p 7) n) (p + 2) (I p 7) (I (p + 7) 0)) := by
  refine ⟨fun a ha => by rw [up2_off' _ _ _ (by omega), up2_off' _ _ _ (by omega)], ?_, (h.2.up (by omega) (by omega) (by omega)).up (by omega) (by omega) (by omega), ?_, ?_, ?_, ?_, fun f hf => ⟨?_, fun i hi => ?_⟩⟩
  · rw [vc_row (Or.inr rfl) (by rw [up2_p (by omega)]; exact Int.le_refl _), vc_row (Or.inl rfl) (Int.le_refl _)]; rfl
  · rw [up2_off' _ _ _ (by omega), up2_off' _ _ _ (by omega)]
  · rw [up2_p (by omega), up2_s]
  · rw [up2_s]
  · rw [up2_p (by omega), up2_p (by omega)]; exact (Int.add_zero _).symm
  · rw [up2_p (by omega), up2_p (by omega)]
  · rw [up2_p (by omega), up2_p (by omega)]
/-- addMessage: its frames -/
theorem lp_addMsg (hl : l.1.stackTraces = false) (hp : LineAt q p) (h : CINV I p c) {ns : Nat} (hsr : s < q ∧ K0 s = 10 * ns) (hns : ns ≤ 1000) (hsp : s < p ∨ p + 14 < s) {fm n : Int} {B : Int → Int} (hn1 : 1 ≤ n) (hn2 : n ≤ 16) (hm0 : 0 ≤ fm) (hm1 : fm + n ≤ ns) (hB : ∀ k : Int, 0 ≤ k → k < n → I s (fm + k) = B k) (hB2 : ∀ k : Int, 0 ≤ B k ∧ B k ≤ 255) (h12 : I p 7 < 12) : ∀ (m j : Nat) (J : Nat → Int → Int), (m : Int) + j = (n + 3) / 4 → AddI I p B n j J →
    Ex l 40 0 0 49 [some (.ref p), some (.ref s), some (.int (iI fm)), some (.int (iI n)), some (.int (iI (4 * (j : Int))))] [] (mm q J v fr) (oE q v fr (some (.int (iI (I p 7)))) (fun K => offP p I K ∧ Vc K p = addA (Vc I p) B n ∧ CX K p)) := by
  have hpb := hp.b
  have hs := h.sc
  intro m
  induction m with
  | zero =>
    intro j J h1 hJ
    have e7 : J p 7 = I p 7 := by rw [hJ.2.2.2.1]
    refine x_iload (pc := 49) rfl d40_49 ?_
    refine x_iload_n (pc := 51) rfl d40_51 ?_
    refine x_icmp_ge (pc := 52) (tgt := 81) ⟨by omega, by omega⟩ ⟨by omega, by omega⟩ d40_52 (by decide) (fun g52 => ?_) (fun g52 => ?_)
    · refine x_aload_n (pc := 81) rfl d40_81 ?_
      refine x_dup (pc := 82) rfl d40_82 ?_
      refine m_getI (pc := 83) (z := 7) f40_61 (by decide +kernel) rfl hp.o0 d40_83 ?_
      refine x_iconst (pc := 86) d40_86 ?_
      refine x_iadd (pc := 87) d40_87 ?_
      refine m_putI (pc := 88) (z := 7) f40_61 (by decide +kernel) (by decide +kernel) rfl hp.o0 d40_88 ?_
      refine x_aload_n (pc := 91) rfl d40_91 ?_
      refine m_getW (pc := 92) (z := 7) (w := ((J p 7) + 1)) f40_61 (by decide +kernel) rfl hp.o0 (by rw [up2_s]) d40_92 ?_
      refine x_iconst (pc := 95) d40_95 ?_
      refine x_isub (pc := 96) d40_96 ?_
      refine x_iret (pc := 97) rfl (fun _ => rfl) d40_97 ?_
      rw [e7, show I p 7 + 1 - 1 = I p 7 from by omega]
      exact ⟨_, rfl, add_end hJ (by omega) (by omega)⟩
    · exfalso; omega
  | succ m ih =>
    intro j J h1 hJ
    obtain ⟨j0, j1, j2, j3, j4, j5, j6, j7⟩ := id hJ
    have jc : 0 ≤ J (p + 7) 0 ∧ J (p + 7) 0 < 48 := by rw [j6]; omega
    refine x_iload (pc := 49) rfl d40_49 ?_
    refine x_iload_n (pc := 51) rfl d40_51 ?_
    refine x_icmp_ge (pc := 52) (tgt := 81) ⟨by omega, by omega⟩ ⟨by omega, by omega⟩ d40_52 (by decide) (fun g52 => ?_) (fun g52 => ?_)
    · refine x_aload_n (pc := 81) rfl d40_81 ?_
      refine x_dup (pc := 82) rfl d40_82 ?_
      refine m_getI (pc := 83) (z := 7) f40_61 (by decide +kernel) rfl hp.o0 d40_83 ?_
      refine x_iconst (pc := 86) d40_86 ?_
      refine x_iadd (pc := 87) d40_87 ?_
      refine m_putI (pc := 88) (z := 7) f40_61 (by decide +kernel) (by decide +kernel) rfl hp.o0 d40_88 ?_
      refine x_aload_n (pc := 91) rfl d40_91 ?_
      refine m_getW (pc := 92) (z := 7) (w := ((J p 7) + 1)) f40_61 (by decide +kernel) rfl hp.o0 (by rw [up2_s]) d40_92 ?_
      refine x_iconst (pc := 95) d40_95 ?_
      refine x_isub (pc := 96) d40_96 ?_
      refine x_iret (pc := 97) rfl (fun _ => rfl) d40_97 ?_
      exfalso; omega
    · refine x_aload_n (pc := 55) rfl d40_55 ?_
      refine m_getR (pc := 56) f40_28 (by decide +kernel) hp.o0 hp.r0_11 d40_56 ?_
      refine x_aload_n (pc := 59) rfl d40_59 ?_
      refine x_iload_n (pc := 60) rfl d40_60 ?_
      refine x_iload (pc := 61) rfl d40_61 ?_
      refine x_iadd (pc := 63) d40_63 ?_
      refine x_iload_n (pc := 64) rfl d40_64 ?_
      refine x_iload (pc := 65) rfl d40_65 ?_
      refine x_isub (pc := 67) d40_67 ?_
      refine x_iconst (pc := 68) d40_68 ?_
      refine x_min (pc := 69) ⟨by omega, by omega⟩ ⟨by omega, by omega⟩ c40_147 (by decide +kernel) (Nat.le_of_ble_eq_true rfl) d40_69 ?_
      refine x_cVev (pc := 72) c40_152 (ct_fadd hl hp hsr hns j2.1 (fm := fm + 4 * (j : Int)) (n := min (n - 4 * (j : Int)) 4) (B := fun k => B (4 * j + k)) jc.1 jc.2 (by omega) (by omega) (by omega) (by omega) (fun z k g0 g1 => by rw [up2_p (by omega), j0 s hsp, ← hB _ (by omega) (by omega)]; congr 1; omega) (fun k _ _ => hB2 _)) hp.o7 rfl rfl (Nat.le_of_ble_eq_true rfl) (by decide +kernel) (by decide +kernel) d40_72 (fun J1 hJ1 => ?_)
      refine x_iinc (pc := 75) rfl (by decide +kernel) rfl d40_75 ?_
      dsimp only [List.set]
      refine x_goto (pc := 78) (tgt := 49) d40_78 (by decide) ?_
      obtain ⟨k0, k1, k2, k3, k4, k5⟩ := hJ1
      rw [show 4 * (j : Int) + 4 = 4 * ((j + 1 : Nat) : Int) from by omega]
      exact ih (j + 1) J1 (by omega) (add_step hJ k0 (by rw [k1, Int.min_comm]) k2 k3 k4 k5)
/-- addMessage -/
theorem ct_addMsg (hl : l.1.stackTraces = false) (hp : LineAt q p) (h : CINV I p c) {ns : Nat} (hsr : s < q ∧ K0 s = 10 * ns) (hns : ns ≤ 1000) (hsp : s < p ∨ p + 14 < s) {fm n : Int} {B : Int → Int} (hn1 : 1 ≤ n) (hn2 : n ≤ 16) (hm0 : 0 ≤ fm) (hm1 : fm + n ≤ ns) (hB : ∀ k : Int, 0 ≤ k → k < n → I s (fm + k) = B k) (hB2 : ∀ k : Int, 0 ≤ B k ∧ B k ≤ 255) : CT l 40 [.ref p, .ref s, .int (iI fm), .int (iI n)] (mm q I v fr) 0 0 (oE q v fr (some (.int (iI (if I p 7 < 12 then I p 7 else -1)))) (fun K => offP p I K ∧ Vc K p = (if I p 7 < 12 then addA (Vc I p) B n else Vc I p) ∧ CX K p)) := by
  have hpb := hp.b
  have hs := h.sc
  refine mkct2 hl (by decide) (Nat.le_of_ble_eq_true rfl) (L := [some (.ref p), some (.ref s), some (.int (iI fm)), some (.int (iI n)), none]) rfl ?_
  refine x_aload_n (pc := 0) rfl d40_0 ?_
  refine x_cVs (pc := 1) c40_144 (dt_room hl hp h) hp.o0 rfl rfl (Nat.le_of_ble_eq_true rfl) (by decide +kernel) (by decide +kernel) rfl d40_1 ?_
  refine x_ifB_eq (pc := 4) (tgt := 18) d40_4 (by decide) (fun g4 => ?_) (fun g4 => ?_)
  · refine x_iconst (pc := 18) d40_18 ?_
    refine x_iret (pc := 19) rfl (fun _ => rfl) d40_19 ?_
    have hr := of_decide_eq_false g4
    rw [if_neg hr, if_neg hr]
    exact ⟨I, rfl, offP.refl, rfl, h.2⟩
  · refine x_iload_n (pc := 7) rfl d40_7 ?_
    refine x_iconst (pc := 8) d40_8 ?_
    refine x_icmp_lt (pc := 9) (tgt := 18) ⟨by omega, by omega⟩ ⟨by omega, by omega⟩ d40_9 (by decide) (fun g9 => ?_) (fun g9 => ?_)
    · refine x_iconst (pc := 18) d40_18 ?_
      refine x_iret (pc := 19) rfl (fun _ => rfl) d40_19 ?_
      exfalso; omega
    · refine x_iload_n (pc := 12) rfl d40_12 ?_
      refine x_bipush (pc := 13) (by decide) d40_13 ?_
      refine x_icmp_le (pc := 15) (tgt := 20) ⟨by omega, by omega⟩ ⟨by omega, by omega⟩ d40_15 (by decide) (fun g15 => ?_) (fun g15 => ?_)
      · refine x_aload_n (pc := 20) rfl d40_20 ?_
        refine m_getR (pc := 21) f40_9 (by decide +kernel) hp.o0 hp.r0_8 d40_21 ?_
        refine x_aload_n (pc := 24) rfl d40_24 ?_
        refine m_getI (pc := 25) (z := 7) f40_61 (by decide +kernel) rfl hp.o0 d40_25 ?_
        refine x_iload_n (pc := 28) rfl d40_28 ?_
        have hr := of_decide_eq_true g4
        refine m_iast (pc := 29) hp.a1 (by omega) (by omega) (by omega) d40_29 ?_
        refine x_aload_n (pc := 30) rfl d40_30 ?_
        refine m_getR (pc := 31) f40_15 (by decide +kernel) hp.o0 hp.r0_9 d40_31 ?_
        refine x_aload_n (pc := 34) rfl d40_34 ?_
        refine m_getW (pc := 35) (z := 7) (w := (I p 7)) f40_61 (by decide +kernel) rfl hp.o0 (by rw [up2_p (by omega)]) d40_35 ?_
        refine x_aload_n (pc := 38) rfl d40_38 ?_
        refine m_getR (pc := 39) f40_28 (by decide +kernel) hp.o0 hp.r0_11 d40_39 ?_
        refine m_getW (pc := 42) (z := 0) (w := (I (p + 7) 0)) f40_67 (by decide +kernel) rfl hp.o7 (by rw [up2_p (by omega)]) d40_42 ?_
        refine m_iast (pc := 45) hp.a2 (by omega) (by omega) (by omega) d40_45 ?_
        refine x_iconst (pc := 46) d40_46 ?_
        refine x_istore (pc := 47) (by decide +kernel) rfl d40_47 ?_
        dsimp only [List.set]
        have hr := of_decide_eq_true g4
        rw [if_pos hr, if_pos hr]
        exact lp_addMsg hl hp h hsr hns hsp hn1 hn2 hm0 hm1 hB hB2 hr ((n + 3) / 4).toNat 0 _ (by omega) (add_start h)
      · refine x_iconst (pc := 18) d40_18 ?_
        refine x_iret (pc := 19) rfl (fun _ => rfl) d40_19 ?_
        exfalso; omega
/-- the bytes of message m in its frames -/
def txtA (A : AV) (m : Int) : Int → Int := fun k => A 10 (6 * (A 5 m + k / 4) + 1 + k % 4)
theorem lp_again (hl : l.1.stackTraces = false) (hp : LineAt q p) (h : CINV I p c) {mo : Int} (hmo0 : 0 ≤ mo) (hmo1 : mo < I p 7) {n g : Int} (hn : n = I (p + 1) mo) (hg : g = I (p + 2) mo) (h12 : I p 7 < 12) : ∀ (m j : Nat) (J : Nat → Int → Int), (m : Int) + j = (n + 3) / 4 → AddI I p (txtA (Vc I p) mo) n j J →
    Ex l 46 0 0 58 [some (.ref p), none, some (.int (iI (g + (n + 3) / 4))), some (.int (iI (g + j)))] [] (mm q J v fr) (oE q v fr (some (.int (iI (I p 7)))) (fun K => offP p I K ∧ Vc K p = addA (Vc I p) (txtA (Vc I p) mo) n ∧ CX K p)) := by
  have hpb := hp.b
  have hs := h.sc
  have hm := h.ms hmo0 hmo1
  intro m
  induction m with
  | zero =>
    intro j J h1 hJ
    have e7 : J p 7 = I p 7 := by rw [hJ.2.2.2.1]
    refine x_iload_n (pc := 58) rfl d46_58 ?_
    refine x_iload_n (pc := 59) rfl d46_59 ?_
    refine x_icmp_ge (pc := 60) (tgt := 100) ⟨by omega, by omega⟩ ⟨by omega, by omega⟩ d46_60 (by decide) (fun g60 => ?_) (fun g60 => ?_)
    · refine x_aload_n (pc := 100) rfl d46_100 ?_
      refine x_dup (pc := 101) rfl d46_101 ?_
      refine m_getI (pc := 102) (z := 7) f46_61 (by decide +kernel) rfl hp.o0 d46_102 ?_
      refine x_iconst (pc := 105) d46_105 ?_
      refine x_iadd (pc := 106) d46_106 ?_
      refine m_putI (pc := 107) (z := 7) f46_61 (by decide +kernel) (by decide +kernel) rfl hp.o0 d46_107 ?_
      refine x_aload_n (pc := 110) rfl d46_110 ?_
      refine m_getW (pc := 111) (z := 7) (w := ((J p 7) + 1)) f46_61 (by decide +kernel) rfl hp.o0 (by rw [up2_s]) d46_111 ?_
      refine x_iconst (pc := 114) d46_114 ?_
      refine x_isub (pc := 115) d46_115 ?_
      refine x_iret (pc := 116) rfl (fun _ => rfl) d46_116 ?_
      rw [e7, show I p 7 + 1 - 1 = I p 7 from by omega]
      exact ⟨_, rfl, add_end hJ (by omega) (by omega)⟩
    · exfalso; omega
  | succ m ih =>
    intro j J h1 hJ
    obtain ⟨j0, j1, j2, j3, j4, j5, j6, j7⟩ := id hJ
    have jc : 0 ≤ J (p + 7) 0 ∧ J (p + 7) 0 < 48 := by rw [j6]; omega
    have js : J (p + 8) (g + j) = min 4 (n - 4 * j) + 2 := by
      rw [(j7 (g + j) (by omega)).1, hg, hn]
      exact hm.2.2.2 j (by omega) (by omega)
    have ht : ∀ z k : Int, 0 ≤ k → k < min 4 (n - 4 * j) → up2 J (p + 12) (J (p + 7) 0 * 6) z (p + 12) ((g + j) * 6 + 1 + k) = txtA (Vc I p) mo (4 * j + k) := fun z k g0 g1 => by
      rw [up2_i (by omega), (j7 (g + j) (by omega)).2 _ (by omega)]
      unfold txtA
      rw [vc5, ent_in hmo0 hmo1, vc10, ← hg, show 6 * (g + (4 * (j : Int) + k) / 4) + 1 + (4 * (j : Int) + k) % 4 = (g + j) * 6 + 1 + k from by omega, entB_pos (by omega) (by omega) (by
        rw [show ((g + j) * 6 + 1 + k) / 6 = g + (j : Int) from by omega, ← (j7 (g + j) (by omega)).1, js]; omega)]
    have h12' : p + 12 < q ∧ K0 (p + 12) = 10 * 288 := hp.a12 (I := I) (v := v) (fr := fr)
    refine x_iload_n (pc := 58) rfl d46_58 ?_
    refine x_iload_n (pc := 59) rfl d46_59 ?_
    refine x_icmp_ge (pc := 60) (tgt := 100) ⟨by omega, by omega⟩ ⟨by omega, by omega⟩ d46_60 (by decide) (fun g60 => ?_) (fun g60 => ?_)
    · refine x_aload_n (pc := 100) rfl d46_100 ?_
      refine x_dup (pc := 101) rfl d46_101 ?_
      refine m_getI (pc := 102) (z := 7) f46_61 (by decide +kernel) rfl hp.o0 d46_102 ?_
      refine x_iconst (pc := 105) d46_105 ?_
      refine x_iadd (pc := 106) d46_106 ?_
      refine m_putI (pc := 107) (z := 7) f46_61 (by decide +kernel) (by decide +kernel) rfl hp.o0 d46_107 ?_
      refine x_aload_n (pc := 110) rfl d46_110 ?_
      refine m_getW (pc := 111) (z := 7) (w := ((J p 7) + 1)) f46_61 (by decide +kernel) rfl hp.o0 (by rw [up2_s]) d46_111 ?_
      refine x_iconst (pc := 114) d46_114 ?_
      refine x_isub (pc := 115) d46_115 ?_
      refine x_iret (pc := 116) rfl (fun _ => rfl) d46_116 ?_
      exfalso; omega
    · refine x_aload_n (pc := 63) rfl d46_63 ?_
      refine m_getR (pc := 64) f46_28 (by decide +kernel) hp.o0 hp.r0_11 d46_64 ?_
      refine x_aload_n (pc := 67) rfl d46_67 ?_
      refine m_getR (pc := 68) f46_28 (by decide +kernel) hp.o0 hp.r0_11 d46_68 ?_
      refine m_getR (pc := 71) f46_177 (by decide +kernel) hp.o7 hp.r7_5 d46_71 ?_
      refine x_iload_n (pc := 74) rfl d46_74 ?_
      refine x_bipush (pc := 75) (by decide) d46_75 ?_
      refine x_imul (pc := 77) d46_77 ?_
      refine x_iconst (pc := 78) d46_78 ?_
      refine x_iadd (pc := 79) d46_79 ?_
      refine x_aload_n (pc := 80) rfl d46_80 ?_
      refine m_getR (pc := 81) f46_28 (by decide +kernel) hp.o0 hp.r0_11 d46_81 ?_
      refine m_getR (pc := 84) f46_180 (by decide +kernel) hp.o7 hp.r7_1 d46_84 ?_
      refine x_iload_n (pc := 87) rfl d46_87 ?_
      refine m_iald (pc := 88) hp.a8 (by omega) (by omega) (by omega) d46_88 ?_
      refine x_val (pc := 89) (w := (min 4 (n - 4 * (j : Int)) + 2)) (js) ?_
      refine x_iconst (pc := 89) d46_89 ?_
      refine x_isub (pc := 90) d46_90 ?_
      refine x_val (pc := 91) (w := (min 4 (n - 4 * (j : Int)))) (by omega) ?_
      refine x_cVev (pc := 91) c46_152 (ct_fadd hl hp (s := p + 12) h12' (by decide) j2.1 (fm := (g + (j : Int)) * 6 + 1) (n := min 4 (n - 4 * (j : Int))) (B := fun k => txtA (Vc I p) mo (4 * j + k)) jc.1 jc.2 (by omega) (by omega) (by omega) (by omega) ht (fun k _ _ => h.1.byt _)) hp.o7 rfl rfl (Nat.le_of_ble_eq_true rfl) (by decide +kernel) (by decide +kernel) d46_91 (fun J1 hJ1 => ?_)
      refine x_iinc (pc := 94) rfl (by decide +kernel) rfl d46_94 ?_
      dsimp only [List.set]
      refine x_goto (pc := 97) (tgt := 58) d46_97 (by decide) ?_
      obtain ⟨k0, k1, k2, k3, k4, k5⟩ := hJ1
      rw [show g + (j : Int) + 1 = g + ((j + 1 : Nat) : Int) from by omega]
      exact ih (j + 1) J1 (by omega) (add_step hJ k0 k1 k2 k3 k4 k5)
/-- sendAgain -/
theorem ct_again (hl : l.1.stackTraces = false) (hp : LineAt q p) (h : CINV I p c) {m : Int} (hm : InR m) : CT l 46 [.ref p, .int (iI m)] (mm q I v fr) 0 0 (oE q v fr (some (.int (iI (if stD (Vc I p) m = 2 ∧ I p 7 < 12 then I p 7 else -1)))) (fun K => offP p I K ∧ Vc K p = (if stD (Vc I p) m = 2 ∧ I p 7 < 12 then addA (Vc I p) (txtA (Vc I p) m) (Vc I p 4 m) else Vc I p) ∧ CX K p)) := by
  have hpb := hp.b
  have hs := h.sc
  have e5 : Vc I p 0 5 = I p 7 := vr5
  obtain ⟨hm1, hm2⟩ := hm
  refine mkct2 hl (by decide) (Nat.le_of_ble_eq_true rfl) (L := [some (.ref p), some (.int (iI m)), none, none]) rfl ?_
  refine x_aload_n (pc := 0) rfl d46_0 ?_
  refine x_iload_n (pc := 1) rfl d46_1 ?_
  refine x_cVs (pc := 2) c46_174 (dt_maySend hl hp h (m := m) ⟨by omega, by omega⟩) hp.o0 rfl rfl (Nat.le_of_ble_eq_true rfl) (by decide +kernel) (by decide +kernel) rfl d46_2 ?_
  refine x_ifB_ne (pc := 5) (tgt := 10) d46_5 (by decide) (fun g5 => ?_) (fun g5 => ?_)
  · have hv0 := of_decide_eq_true g5
    have hval := stD_valid (A := Vc I p) (m := m) (by omega)
    have h0 := hval.1
    have h1 : m < I p 7 := by omega
    have hms := h.ms h0 h1
    refine x_aload_n (pc := 10) rfl d46_10 ?_
    refine x_iload_n (pc := 11) rfl d46_11 ?_
    refine x_cVs (pc := 12) c46_158 (dt_endOf hl hp h h0 h1) hp.o0 rfl rfl (Nat.le_of_ble_eq_true rfl) (by decide +kernel) (by decide +kernel) rfl d46_12 ?_
    refine x_istore_n (pc := 15) (by decide +kernel) rfl d46_15 ?_
    dsimp only [List.set]
    refine x_aload_n (pc := 16) rfl d46_16 ?_
    refine m_getR (pc := 17) f46_9 (by decide +kernel) hp.o0 hp.r0_8 d46_17 ?_
    refine x_aload_n (pc := 20) rfl d46_20 ?_
    refine m_getI (pc := 21) (z := 7) f46_61 (by decide +kernel) rfl hp.o0 d46_21 ?_
    refine x_aload_n (pc := 24) rfl d46_24 ?_
    refine m_getR (pc := 25) f46_9 (by decide +kernel) hp.o0 hp.r0_8 d46_25 ?_
    refine x_iload_n (pc := 28) rfl d46_28 ?_
    refine m_iald (pc := 29) hp.a1 (by omega) (by omega) (by omega) d46_29 ?_
    refine m_iast (pc := 30) hp.a1 (by omega) (by omega) (by omega) d46_30 ?_
    refine x_aload_n (pc := 31) rfl d46_31 ?_
    refine m_getR (pc := 32) f46_15 (by decide +kernel) hp.o0 hp.r0_9 d46_32 ?_
    refine x_aload_n (pc := 35) rfl d46_35 ?_
    refine m_getW (pc := 36) (z := 7) (w := (I p 7)) f46_61 (by decide +kernel) rfl hp.o0 (by rw [up2_p (by omega)]) d46_36 ?_
    refine x_aload_n (pc := 39) rfl d46_39 ?_
    refine m_getR (pc := 40) f46_28 (by decide +kernel) hp.o0 hp.r0_11 d46_40 ?_
    refine m_getW (pc := 43) (z := 0) (w := (I (p + 7) 0)) f46_67 (by decide +kernel) rfl hp.o7 (by rw [up2_p (by omega)]) d46_43 ?_
    refine m_iast (pc := 46) hp.a2 (by omega) (by omega) (by omega) d46_46 ?_
    refine x_aload_n (pc := 47) rfl d46_47 ?_
    refine m_getR (pc := 48) f46_15 (by decide +kernel) hp.o0 hp.r0_9 d46_48 ?_
    refine x_iload_n (pc := 51) rfl d46_51 ?_
    refine m_iald (pc := 52) hp.a2 (by omega) (by omega) (by omega) d46_52 ?_
    refine x_val (pc := 53) (w := (I (p + 2) m)) (by rw [up2_i (by omega), up2_p (by omega)]) ?_
    refine x_iconst (pc := 53) d46_53 ?_
    refine x_max (pc := 54) ⟨by omega, by omega⟩ ⟨by omega, by omega⟩ c46_162 (by decide +kernel) (Nat.le_of_ble_eq_true rfl) d46_54 ?_
    refine x_istore_n (pc := 57) (by decide +kernel) rfl d46_57 ?_
    dsimp only [List.set]
    refine x_mask [true, false, true, true] ?_
    dsimp only [mask]
    rw [if_pos hv0, if_pos hv0, show max (I (p + 2) m) 0 = I (p + 2) m from by omega, vc4, ent_in h0 h1]
    have g := lp_again hl hp (v := v) (fr := fr) h h0 h1 rfl rfl hv0.2 ((I (p + 1) m + 3) / 4).toNat 0 _ (by omega) (add_start h)
    rw [show I (p + 2) m + ((0 : Nat) : Int) = I (p + 2) m from Int.add_zero _] at g
    exact g
  · refine x_iconst (pc := 8) d46_8 ?_
    refine x_iret (pc := 9) rfl (fun _ => rfl) d46_9 ?_
    have := of_decide_eq_false g5
    rw [if_neg this, if_neg this]
    exact ⟨I, rfl, offP.refl, rfl, h.2⟩
end Msg
