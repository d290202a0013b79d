/-! ===== the class's operations on a line ===== -/
theorem CX.up {I : Nat → Int → Int} {p a : Nat} {j z : Int} (h : CX I p) (hj : a ≠ p + 7 ∧ a ≠ p + 10 ∧ a ≠ p + 11 ∧ a ≠ p + 12 ∧ a ≠ p + 13) (h14 : a = p + 14 → j ≠ 0 ∧ j ≠ 5 ∧ j ≠ 6) (h0 : a = p → j ≠ 0) : CX (up2 I a j z) p := by
  have r : ∀ (b : Nat) (i : Int), (b = a → i ≠ j) → up2 I a j z b i = I b i := fun b i hb => if_neg (fun q => hb q.1 q.2)
  unfold CX
  rw [up2_off' _ _ _ (by omega : p + 12 ≠ a), up2_off' _ _ _ (by omega : p + 13 ≠ a), up2_off' _ _ _ (by omega : p + 7 ≠ a), up2_off' _ _ _ (by omega : p + 11 ≠ a), up2_off' _ _ _ (by omega : p + 10 ≠ a), r (p + 14) 6 (by omega), r (p + 14) 5 (by omega), r (p + 14) 0 (by omega), r p 0 (by omega)]
  exact h
/-- the bytes of a line -/
def BX (I : Nat → Int → Int) (p : Nat) : Prop := ∀ i : Int, 0 ≤ i → i < 288 → (0 ≤ I (p + 12) i ∧ I (p + 12) i ≤ 255) ∧ (0 ≤ I (p + 13) i ∧ I (p + 13) i ≤ 255)
theorem vc_cfg {K : Nat → Int → Int} {p : Nat} {b dr ba li : Int} (h0 : K p 0 = b) (h1 : K p 1 = dr) (h2 : K p 2 = ba) (h3 : K p 3 = li) (h4 : K p 4 = 0) (h5 : K p 5 = 0) (h6 : K p 6 = -1) (h7 : K p 7 = 0) (hd : K (p + 3) 0 = 0) (hf : K (p + 7) 0 = 0) (hc : ∀ j : Int, 0 ≤ j → j < 9 → K (p + 14) j = 0) : Vc K p = cfgA b dr ba li := by
  have hn : ∀ (g : Int → Int) i, ent 0 g i = 0 := fun g i => if_neg (by omega)
  have hb : ∀ (S g : Int → Int) i, entB 0 S g i = 0 := fun S g i => if_neg (by omega)
  funext k i
  by_cases hk : k = 0
  · subst hk
    show _ = if i = 0 then b else if i = 1 then dr else if i = 2 then ba else if i = 3 then li else 0
    by_cases hi : 0 ≤ i ∧ i < 18
    · have : i = 0 ∨ i = 1 ∨ i = 2 ∨ i = 3 ∨ i = 4 ∨ i = 5 ∨ i = 6 ∨ i = 7 ∨ i = 8 ∨ i = 9 ∨ i = 10 ∨ i = 11 ∨ i = 12 ∨ i = 13 ∨ i = 14 ∨ i = 15 ∨ i = 16 ∨ i = 17 := by omega
      rcases this with rfl | rfl | rfl | rfl | rfl | rfl | rfl | rfl | rfl | rfl | rfl | rfl | rfl | rfl | rfl | rfl | rfl | rfl
      · rw [vr0, h0]; rfl
      · rw [vr1, h1]; rfl
      · rw [vr2, h2]; rfl
      · rw [vr3, h3]; rfl
      · rw [vr4, hd]; rfl
      · rw [vr5, h7]; rfl
      · rw [vr6, hf]; rfl
      · rw [vr7, h4]; rfl
      · rw [vr8, h5]; rfl
      · rw [vr9, h6]; rfl
      · rw [vr10, hc 0 (by decide) (by decide)]; rfl
      · rw [vr11, hc 1 (by decide) (by decide)]; rfl
      · rw [vr12, hc 2 (by decide) (by decide)]; rfl
      · rw [vr13, hc 3 (by decide) (by decide)]; rfl
      · rw [vr14, hc 4 (by decide) (by decide)]; rfl
      · rw [vr15, hc 7 (by decide) (by decide)]; rfl
      · rw [vr16, hc 5 (by decide) (by decide)]; rfl
      · rw [vr17, hc 8 (by decide) (by decide)]; rfl
    · rw [if_neg (by omega), if_neg (by omega), if_neg (by omega), if_neg (by omega)]
      exact if_neg hi
  · unfold Vc
    rw [hd, h7, hf]
    have e : cfgA b dr ba li k i = 0 := if_neg hk
    rw [e]
    match k, hk with
    | 0, hk => exact absurd rfl hk
    | 1, _ | 2, _ | 3, _ | 4, _ | 5, _ | 6, _ | 7, _ | 8, _ | 9, _ => exact hn _ _
    | 10, _ | 11, _ => exact hb _ _ _
    | k + 12, _ => rfl
theorem scan_e (St : Int → Int) (n : Nat) (i st : Int) : (if hasN St 0 (n + 1) i then 0 else if hasN St 2 (n + 1) i then 2 else st) = if St i = 0 then 0 else if hasN St 0 n (i + 1) then 0 else if hasN St 2 n (i + 1) then 2 else (if St i = 2 then 2 else st) := by
  have e1 : ∀ c, hasN St c (n + 1) i = (decide (St i = c) || hasN St c n (i + 1)) := fun _ => rfl
  rw [e1, e1]
  by_cases e0 : St i = 0
  · rw [decide_eq_true e0, if_pos e0]; rfl
  · rw [decide_eq_false e0, if_neg e0, Bool.false_or]
    by_cases h0 : hasN St 0 n (i + 1) = true
    · rw [if_pos h0, if_pos h0]
    · rw [if_neg h0, if_neg h0]
      by_cases e2 : St i = 2
      · rw [decide_eq_true e2, if_pos e2, Bool.true_or, if_pos rfl]; split <;> rfl
      · rw [decide_eq_false e2, if_neg e2, Bool.false_or]
theorem hasN_congr {St St2 : Int → Int} {c : Int} : ∀ (m : Nat) (i : Int), (∀ j : Int, i ≤ j → j < i + m → St j = St2 j) → hasN St c m i = hasN St2 c m i
  | 0, _, _ => rfl
  | m + 1, i, h => by
    unfold hasN
    rw [h i (Int.le_refl i) (by omega), hasN_congr m (i + 1) (fun j h0 h1 => h j (by omega) (by omega))]
/-- the state of a message, -1 if there is none -/
def stD (A : AV) (m : Int) : Int := if 0 ≤ m ∧ m < A 0 5 then stA A m else -1
section Cls
variable {l : LX} {q p : Nat} {I : Nat → Int → Int} {v : Int} {fr : Bool} {c : Int}
theorem ct_clear (hl : l.1.stackTraces = false) (hp : LineAt q p) : CT l 10 [.ref (p + 14)] (mm q I v fr) 0 0 (oE q v fr none (fun K => (∀ b, b ≠ p + 14 → K b = I b) ∧ ∀ j : Int, 0 ≤ j → j < 9 → K (p + 14) j = 0)) := by
  have hpb := hp.b
  refine mkct2 hl (by decide) (Nat.le_of_ble_eq_true rfl) (L := [some (.ref (p + 14))]) rfl ?_
  refine x_aload_n (pc := 0) rfl d10_0 ?_
  refine x_iconst (pc := 1) d10_1 ?_
  refine m_putI (pc := 2) (z := 0) f10_7 (by decide +kernel) (by decide +kernel) rfl hp.o14 d10_2 ?_
  refine x_aload_n (pc := 5) rfl d10_5 ?_
  refine x_iconst (pc := 6) d10_6 ?_
  refine m_putI (pc := 7) (z := 1) f10_13 (by decide +kernel) (by decide +kernel) rfl hp.o14 d10_7 ?_
  refine x_aload_n (pc := 10) rfl d10_10 ?_
  refine x_iconst (pc := 11) d10_11 ?_
  refine m_putI (pc := 12) (z := 2) f10_16 (by decide +kernel) (by decide +kernel) rfl hp.o14 d10_12 ?_
  refine x_aload_n (pc := 15) rfl d10_15 ?_
  refine x_iconst (pc := 16) d10_16 ?_
  refine m_putI (pc := 17) (z := 3) f10_19 (by decide +kernel) (by decide +kernel) rfl hp.o14 d10_17 ?_
  refine x_aload_n (pc := 20) rfl d10_20 ?_
  refine x_iconst (pc := 21) d10_21 ?_
  refine m_putI (pc := 22) (z := 4) f10_22 (by decide +kernel) (by decide +kernel) rfl hp.o14 d10_22 ?_
  refine x_aload_n (pc := 25) rfl d10_25 ?_
  refine x_iconst (pc := 26) d10_26 ?_
  refine m_putI (pc := 27) (z := 5) f10_25 (by decide +kernel) (by decide +kernel) rfl hp.o14 d10_27 ?_
  refine x_aload_n (pc := 30) rfl d10_30 ?_
  refine x_iconst (pc := 31) d10_31 ?_
  refine m_putI (pc := 32) (z := 6) f10_28 (by decide +kernel) (by decide +kernel) rfl hp.o14 d10_32 ?_
  refine x_aload_n (pc := 35) rfl d10_35 ?_
  refine x_iconst (pc := 36) d10_36 ?_
  refine m_putI (pc := 37) (z := 7) f10_31 (by decide +kernel) (by decide +kernel) rfl hp.o14 d10_37 ?_
  refine x_aload_n (pc := 40) rfl d10_40 ?_
  refine x_iconst (pc := 41) d10_41 ?_
  refine m_putI (pc := 42) (z := 8) f10_34 (by decide +kernel) (by decide +kernel) rfl hp.o14 d10_42 ?_
  refine x_vret (pc := 45) rfl (fun _ => rfl) d10_45 ?_
  refine ⟨_, rfl, fun b hb => ?_, fun i h0 h1 => ?_⟩
  · funext j
    rw [up2_p hb, up2_p hb, up2_p hb, up2_p hb, up2_p hb, up2_p hb, up2_p hb, up2_p hb, up2_p hb]
  · rcases z9 h0 h1 with rfl | rfl | rfl | rfl | rfl | rfl | rfl | rfl | rfl <;> simp [up2]
theorem ct_config (hl : l.1.stackTraces = false) (hp : LineAt q p) (hb : BX I p) {b dr ba li : Int} : CT l 33 [.ref p, .int (iI b), .int (iI dr), .int (iI ba), .int (iI li)] (mm q I v fr) 0 0 (oE q v fr none (fun K => offP p I K ∧ Vc K p = cfgA b dr ba li ∧ CX K p)) := by
  have hpb := hp.b
  refine mkct2 hl (by decide) (Nat.le_of_ble_eq_true rfl) (L := [some (.ref p), some (.int (iI b)), some (.int (iI dr)), some (.int (iI ba)), some (.int (iI li))]) rfl ?_
  refine x_aload_n (pc := 0) rfl d33_0 ?_
  refine x_iload_n (pc := 1) rfl d33_1 ?_
  refine m_putI (pc := 2) (z := 0) f33_39 (by decide +kernel) (by decide +kernel) rfl hp.o0 d33_2 ?_
  refine x_aload_n (pc := 5) rfl d33_5 ?_
  refine x_iload_n (pc := 6) rfl d33_6 ?_
  refine m_putI (pc := 7) (z := 1) f33_43 (by decide +kernel) (by decide +kernel) rfl hp.o0 d33_7 ?_
  refine x_aload_n (pc := 10) rfl d33_10 ?_
  refine x_iload_n (pc := 11) rfl d33_11 ?_
  refine m_putI (pc := 12) (z := 2) f33_46 (by decide +kernel) (by decide +kernel) rfl hp.o0 d33_12 ?_
  refine x_aload_n (pc := 15) rfl d33_15 ?_
  refine x_iload (pc := 16) rfl d33_16 ?_
  refine m_putI (pc := 18) (z := 3) f33_49 (by decide +kernel) (by decide +kernel) rfl hp.o0 d33_18 ?_
  refine x_aload_n (pc := 21) rfl d33_21 ?_
  refine x_iconst (pc := 22) d33_22 ?_
  refine m_putI (pc := 23) (z := 4) f33_52 (by decide +kernel) (by decide +kernel) rfl hp.o0 d33_23 ?_
  refine x_aload_n (pc := 26) rfl d33_26 ?_
  refine x_iconst (pc := 27) d33_27 ?_
  refine m_putI (pc := 28) (z := 5) f33_55 (by decide +kernel) (by decide +kernel) rfl hp.o0 d33_28 ?_
  refine x_aload_n (pc := 31) rfl d33_31 ?_
  refine x_iconst (pc := 32) d33_32 ?_
  refine m_putI (pc := 33) (z := 6) f33_58 (by decide +kernel) (by decide +kernel) rfl hp.o0 d33_33 ?_
  refine x_aload_n (pc := 36) rfl d33_36 ?_
  refine x_iconst (pc := 37) d33_37 ?_
  refine m_putI (pc := 38) (z := 7) f33_61 (by decide +kernel) (by decide +kernel) rfl hp.o0 d33_38 ?_
  refine x_aload_n (pc := 41) rfl d33_41 ?_
  refine m_getR (pc := 42) f33_21 (by decide +kernel) hp.o0 hp.r0_10 d33_42 ?_
  refine x_iconst (pc := 45) d33_45 ?_
  refine m_putI (pc := 46) (z := 0) f33_64 (by decide +kernel) (by decide +kernel) rfl hp.o3 d33_46 ?_
  refine x_aload_n (pc := 49) rfl d33_49 ?_
  refine m_getR (pc := 50) f33_28 (by decide +kernel) hp.o0 hp.r0_11 d33_50 ?_
  refine x_iconst (pc := 53) d33_53 ?_
  refine m_putI (pc := 54) (z := 0) f33_67 (by decide +kernel) (by decide +kernel) rfl hp.o7 d33_54 ?_
  refine x_aload_n (pc := 57) rfl d33_57 ?_
  refine m_getR (pc := 58) f33_35 (by decide +kernel) hp.o0 hp.r0_12 d33_58 ?_
  obtain ⟨Y, hY⟩ : ∃ Z : Nat → Int → Int, Z = (up2 (up2 (up2 (up2 (up2 (up2 (up2 (up2 (up2 (up2 I p 0 b) p 1 dr) p 2 ba) p 3 li) p 4 0) p 5 0) p 6 (-1)) p 7 0) (p + 3) 0 0) (p + 7) 0 0) := ⟨_, rfl⟩
  refine x_mem (J := Y) (pc := 61) hY ?_
  refine x_cVev (pc := 61) c33_68 (ct_clear hl hp) hp.o14 rfl rfl (Nat.le_of_ble_eq_true rfl) (by decide +kernel) (by decide +kernel) d33_61 (fun J1 hJ1 => ?_)
  refine x_vret (pc := 64) rfl (fun _ => rfl) d33_64 ?_
  obtain ⟨d0, d1⟩ := hJ1
  have yo : ∀ b, b ≠ p → b ≠ p + 3 → b ≠ p + 7 → Y b = I b := fun b h0 h1 h2 => by
    rw [hY]; funext j
    rw [up2_p h2, up2_p h1, up2_p h0, up2_p h0, up2_p h0, up2_p h0, up2_p h0, up2_p h0, up2_p h0, up2_p h0]
  have jp : ∀ i, J1 p i = Y p i := fun i => by rw [d0 p (by omega)]
  have e0 : J1 p 0 = b := by rw [jp, hY]; simp [up2]
  have ef : J1 (p + 7) 0 = 0 := by rw [d0 _ (by omega), hY]; simp [up2]
  refine ⟨J1, rfl, fun b hb => ?_, vc_cfg e0 ?_ ?_ ?_ ?_ ?_ ?_ ?_ ?_ ef d1, fun i h0 h1 => ?_, fun f h0 h1 => ?_, ?_⟩
  · rw [d0 b (by omega), yo b (by omega) (by omega) (by omega)]
  · rw [jp, hY]; simp [up2]
  · rw [jp, hY]; simp [up2]
  · rw [jp, hY]; simp [up2]
  · rw [jp, hY]; simp [up2]
  · rw [jp, hY]; simp [up2]
  · rw [jp, hY]; simp [up2]
  · rw [jp, hY]; simp [up2]
  · rw [d0 _ (by omega), hY]; simp [up2]
  · rw [d0 _ (by omega), d0 _ (by omega), yo _ (by omega) (by omega) (by omega), yo _ (by omega) (by omega) (by omega)]
    exact hb i h0 h1
  · rw [ef] at h1; omega
  · rw [d1 6 (by decide) (by decide), d1 5 (by decide) (by decide), d1 0 (by decide) (by decide)]
    exact (Int.zero_mul _).symm
theorem dt_mayWait (hl : l.1.stackTraces = false) (hp : LineAt q p) (h : CINV I p c) (hc : c ≤ 20000000) {t : Int} (h0 : 0 ≤ t) (h1 : t ≤ 1000000) : DT l 47 [.ref p, .int (iI t)] (mm q I v fr) 0 0 (.inl (some (.int (iI (b01 (decide (I p 4 + t ≤ 900000)))))), mm q I v fr) := by
  have hpb := hp.b
  have hs := h.sc
  refine mkdt hl (by decide) (Nat.le_of_ble_eq_true rfl) (L := [some (.ref p), some (.int (iI t))]) rfl ?_
  refine x_aload_n (pc := 0) rfl d47_0 ?_
  refine m_getI (pc := 1) (z := 4) f47_52 (by decide +kernel) rfl hp.o0 d47_1 ?_
  refine x_ldc (pc := 4) (z := 900000) k47_183 (by decide) d47_4 ?_
  refine x_iload_n (pc := 6) rfl d47_6 ?_
  refine x_isub (pc := 7) d47_7 ?_
  refine x_icmp_gt (pc := 8) (tgt := 15) ⟨by omega, by omega⟩ ⟨by omega, by omega⟩ d47_8 (by decide) (fun g8 => ?_) (fun g8 => ?_)
  · refine x_iconst (pc := 15) d47_15 ?_
    refine x_zret (pc := 16) rfl (Or.inl rfl) (fun _ => rfl) d47_16 ?_
    rw [decide_eq_false (by omega)]; rfl
  · refine x_iconst (pc := 11) d47_11 ?_
    refine x_goto (pc := 12) (tgt := 16) d47_12 (by decide) ?_
    refine x_zret (pc := 16) rfl (Or.inr rfl) (fun _ => rfl) d47_16 ?_
    rw [decide_eq_true (by omega)]; rfl
theorem dt_mayAtt (hl : l.1.stackTraces = false) (hp : LineAt q p) (h : CINV I p c) (hc : c ≤ 20000000) : DT l 49 [.ref p] (mm q I v fr) 0 0 (.inl (some (.int (iI (b01 (decide (I p 4 ≤ 900000)))))), mm q I v fr) := by
  have hpb := hp.b
  have hs := h.sc
  refine mkdt hl (by decide) (Nat.le_of_ble_eq_true rfl) (L := [some (.ref p)]) rfl ?_
  refine x_aload_n (pc := 0) rfl d49_0 ?_
  refine m_getI (pc := 1) (z := 4) f49_52 (by decide +kernel) rfl hp.o0 d49_1 ?_
  refine x_ldc (pc := 4) (z := 900000) k49_183 (by decide) d49_4 ?_
  refine x_icmp_gt (pc := 6) (tgt := 13) ⟨by omega, by omega⟩ ⟨by omega, by omega⟩ d49_6 (by decide) (fun g6 => ?_) (fun g6 => ?_)
  · refine x_iconst (pc := 13) d49_13 ?_
    refine x_zret (pc := 14) rfl (Or.inl rfl) (fun _ => rfl) d49_14 ?_
    rw [decide_eq_false (by omega)]; rfl
  · refine x_iconst (pc := 9) d49_9 ?_
    refine x_goto (pc := 10) (tgt := 14) d49_10 (by decide) ?_
    refine x_zret (pc := 14) rfl (Or.inr rfl) (fun _ => rfl) d49_14 ?_
    rw [decide_eq_true (by omega)]; rfl
theorem ct_letPass (hl : l.1.stackTraces = false) (hp : LineAt q p) (h : CINV I p c) (hc : c ≤ 20000000) {t : Int} (h0 : 0 ≤ t) (h1 : t ≤ 1000000) : CT l 48 [.ref p, .int (iI t)] (mm q I v fr) 0 0 (oE q v fr (some (.int (iI (b01 (decide (I p 4 + t ≤ 900000)))))) (fun K => offP p I K ∧ Vc K p = (if I p 4 + t ≤ 900000 then waitA (Vc I p) t else Vc I p) ∧ CX K p)) := by
  have hpb := hp.b
  refine mkct2 hl (by decide) (Nat.le_of_ble_eq_true rfl) (L := [some (.ref p), some (.int (iI t))]) rfl ?_
  refine x_aload_n (pc := 0) rfl d48_0 ?_
  refine x_iload_n (pc := 1) rfl d48_1 ?_
  refine x_cVs (pc := 2) c48_184 (dt_mayWait hl hp h hc h0 h1) hp.o0 rfl rfl (Nat.le_of_ble_eq_true rfl) (by decide +kernel) (by decide +kernel) rfl d48_2 ?_
  refine x_ifB_ne (pc := 5) (tgt := 10) d48_5 (by decide) (fun g5 => ?_) (fun g5 => ?_)
  · refine x_aload_n (pc := 10) rfl d48_10 ?_
    refine x_dup (pc := 11) rfl d48_11 ?_
    refine m_getI (pc := 12) (z := 4) f48_52 (by decide +kernel) rfl hp.o0 d48_12 ?_
    refine x_iload_n (pc := 15) rfl d48_15 ?_
    refine x_iadd (pc := 16) d48_16 ?_
    refine m_putI (pc := 17) (z := 4) f48_52 (by decide +kernel) (by decide +kernel) rfl hp.o0 d48_17 ?_
    refine x_aload_n (pc := 20) rfl d48_20 ?_
    refine m_getR (pc := 21) f48_35 (by decide +kernel) hp.o0 hp.r0_12 d48_21 ?_
    refine x_dup (pc := 24) rfl d48_24 ?_
    refine m_getW (pc := 25) (z := 8) (w := (I (p + 14) 8)) f48_187 (by decide +kernel) rfl hp.o14 (by rw [up2_p (by omega)]) d48_25 ?_
    refine x_iload_n (pc := 28) rfl d48_28 ?_
    refine x_iadd (pc := 29) d48_29 ?_
    refine m_putI (pc := 30) (z := 8) f48_187 (by decide +kernel) (by decide +kernel) rfl hp.o14 d48_30 ?_
    refine x_iconst (pc := 33) d48_33 ?_
    refine x_zret (pc := 34) rfl (Or.inr rfl) (fun _ => rfl) d48_34 ?_
    refine ⟨_, by rw [g5]; rfl, fun b hb => ?_, ?_, ?_⟩
    · rw [up2_off' _ _ _ (by omega), up2_off' _ _ _ (by omega)]
    · rw [if_pos (of_decide_eq_true g5), vw17, vw7]; unfold waitA; rw [vr7, vr17]
    · exact (h.2.up (by omega) (by omega) (fun _ => by decide)).up (by omega) (fun _ => by decide) (by omega)
  · refine x_iconst (pc := 8) d48_8 ?_
    refine x_zret (pc := 9) rfl (Or.inl rfl) (fun _ => rfl) d48_9 ?_
    exact ⟨I, by rw [g5]; rfl, offP.refl, by rw [if_neg (of_decide_eq_false g5)], h.2⟩
theorem dt_has (hl : l.1.stackTraces = false) (hp : LineAt q p) (h : CINV I p c) {m : Int} (hm : InR m) : DT l 38 [.ref p, .int (iI m)] (mm q I v fr) 0 0 (.inl (some (.int (iI (b01 (decide (0 ≤ m ∧ m < I p 7)))))), mm q I v fr) := by
  have hpb := hp.b
  have hs := h.sc
  obtain ⟨hm1, hm2⟩ := hm
  refine mkdt hl (by decide) (Nat.le_of_ble_eq_true rfl) (L := [some (.ref p), some (.int (iI m))]) rfl ?_
  refine x_iload_n (pc := 0) rfl d38_0 ?_
  refine x_if_lt (pc := 1) (tgt := 22) ⟨by omega, by omega⟩ d38_1 (by decide) (fun g1 => ?_) (fun g1 => ?_)
  · refine x_iconst (pc := 22) d38_22 ?_
    refine x_zret (pc := 23) rfl (Or.inl rfl) (fun _ => rfl) d38_23 ?_
    rw [decide_eq_false (by omega)]; rfl
  · refine x_iload_n (pc := 4) rfl d38_4 ?_
    refine x_aload_n (pc := 5) rfl d38_5 ?_
    refine m_getI (pc := 6) (z := 7) f38_61 (by decide +kernel) rfl hp.o0 d38_6 ?_
    refine x_icmp_ge (pc := 9) (tgt := 22) ⟨by omega, by omega⟩ ⟨by omega, by omega⟩ d38_9 (by decide) (fun g9 => ?_) (fun g9 => ?_)
    · refine x_iconst (pc := 22) d38_22 ?_
      refine x_zret (pc := 23) rfl (Or.inl rfl) (fun _ => rfl) d38_23 ?_
      rw [decide_eq_false (by omega)]; rfl
    · refine x_iload_n (pc := 12) rfl d38_12 ?_
      refine x_bipush (pc := 13) (by decide) d38_13 ?_
      refine x_icmp_ge (pc := 15) (tgt := 22) ⟨by omega, by omega⟩ ⟨by omega, by omega⟩ d38_15 (by decide) (fun g15 => ?_) (fun g15 => ?_)
      · refine x_iconst (pc := 22) d38_22 ?_
        refine x_zret (pc := 23) rfl (Or.inl rfl) (fun _ => rfl) d38_23 ?_
        exfalso; omega
      · refine x_iconst (pc := 18) d38_18 ?_
        refine x_goto (pc := 19) (tgt := 23) d38_19 (by decide) ?_
        refine x_zret (pc := 23) rfl (Or.inr rfl) (fun _ => rfl) d38_23 ?_
        rw [decide_eq_true (by omega)]; rfl
theorem dt_room (hl : l.1.stackTraces = false) (hp : LineAt q p) (h : CINV I p c) : DT l 39 [.ref p] (mm q I v fr) 0 0 (.inl (some (.int (iI (b01 (decide (I p 7 < 12)))))), mm q I v fr) := by
  have hpb := hp.b
  have hs := h.sc
  refine mkdt hl (by decide) (Nat.le_of_ble_eq_true rfl) (L := [some (.ref p)]) rfl ?_
  refine x_aload_n (pc := 0) rfl d39_0 ?_
  refine m_getI (pc := 1) (z := 7) f39_61 (by decide +kernel) rfl hp.o0 d39_1 ?_
  refine x_if_lt (pc := 4) (tgt := 20) ⟨by omega, by omega⟩ d39_4 (by decide) (fun g4 => ?_) (fun g4 => ?_)
  · refine x_iconst (pc := 20) d39_20 ?_
    refine x_zret (pc := 21) rfl (Or.inl rfl) (fun _ => rfl) d39_21 ?_
    exfalso; omega
  · refine x_aload_n (pc := 7) rfl d39_7 ?_
    refine m_getI (pc := 8) (z := 7) f39_61 (by decide +kernel) rfl hp.o0 d39_8 ?_
    refine x_bipush (pc := 11) (by decide) d39_11 ?_
    refine x_icmp_ge (pc := 13) (tgt := 20) ⟨by omega, by omega⟩ ⟨by omega, by omega⟩ d39_13 (by decide) (fun g13 => ?_) (fun g13 => ?_)
    · refine x_iconst (pc := 20) d39_20 ?_
      refine x_zret (pc := 21) rfl (Or.inl rfl) (fun _ => rfl) d39_21 ?_
      rw [decide_eq_false (by omega)]; rfl
    · refine x_iconst (pc := 16) d39_16 ?_
      refine x_goto (pc := 17) (tgt := 21) d39_17 (by decide) ?_
      refine x_zret (pc := 21) rfl (Or.inr rfl) (fun _ => rfl) d39_21 ?_
      rw [decide_eq_true (by omega)]; rfl
theorem dt_endOf (hl : l.1.stackTraces = false) (hp : LineAt q p) (h : CINV I p c) {m : Int} (h0 : 0 ≤ m) (h1 : m < I p 7) : DT l 41 [.ref p, .int (iI m)] (mm q I v fr) 0 0 (.inl (some (.int (iI (I (p + 2) m + (I (p + 1) m + 3) / 4)))), mm q I v fr) := by
  have hpb := hp.b
  have hs := h.sc
  have hm := h.ms h0 h1
  refine mkdt hl (by decide) (Nat.le_of_ble_eq_true rfl) (L := [some (.ref p), some (.int (iI m)), none]) rfl ?_
  refine x_aload_n (pc := 0) rfl d41_0 ?_
  refine x_iload_n (pc := 1) rfl d41_1 ?_
  refine x_cVs (pc := 2) c41_155 (dt_has hl hp h (m := m) ⟨by omega, by omega⟩) hp.o0 rfl rfl (Nat.le_of_ble_eq_true rfl) (by decide +kernel) (by decide +kernel) rfl d41_2 ?_
  refine x_ifB_ne (pc := 5) (tgt := 10) d41_5 (by decide) (fun g5 => ?_) (fun g5 => ?_)
  · refine x_aload_n (pc := 10) rfl d41_10 ?_
    refine m_getR (pc := 11) f41_9 (by decide +kernel) hp.o0 hp.r0_8 d41_11 ?_
    refine x_iload_n (pc := 14) rfl d41_14 ?_
    refine m_iald (pc := 15) hp.a1 (by omega) (by omega) (by omega) d41_15 ?_
    refine x_iconst (pc := 16) d41_16 ?_
    refine x_iadd (pc := 17) d41_17 ?_
    refine x_iconst (pc := 18) d41_18 ?_
    refine x_isub (pc := 19) d41_19 ?_
    refine x_iconst (pc := 20) d41_20 ?_
    refine x_idiv (pc := 21) (by omega) (by omega) (by omega) (by omega) d41_21 ?_
    refine x_istore_n (pc := 22) (by decide +kernel) rfl d41_22 ?_
    dsimp only [List.set]
    refine x_aload_n (pc := 23) rfl d41_23 ?_
    refine m_getR (pc := 24) f41_15 (by decide +kernel) hp.o0 hp.r0_9 d41_24 ?_
    refine x_iload_n (pc := 27) rfl d41_27 ?_
    refine m_iald (pc := 28) hp.a2 (by omega) (by omega) (by omega) d41_28 ?_
    refine x_iload_n (pc := 29) rfl d41_29 ?_
    refine x_iadd (pc := 30) d41_30 ?_
    refine x_bipush (pc := 31) (by decide) d41_31 ?_
    refine x_min (pc := 33) ⟨by omega, by omega⟩ ⟨by omega, by omega⟩ c41_147 (by decide +kernel) (Nat.le_of_ble_eq_true rfl) d41_33 ?_
    refine x_iret (pc := 36) rfl (fun _ => rfl) d41_36 ?_
    rw [show min (I (p + 2) m + (I (p + 1) m + 4 - 1) / 4) 48 = I (p + 2) m + (I (p + 1) m + 3) / 4 from by omega]
  · refine x_iconst (pc := 8) d41_8 ?_
    refine x_iret (pc := 9) rfl (fun _ => rfl) d41_9 ?_
    exfalso; have := of_decide_eq_false g5; omega
theorem lp_state (hl : l.1.stackTraces = false) (hp : LineAt q p) (h : CINV I p c) {m : Int} : ∀ (n : Nat) (i e st : Int), 0 ≤ i → e = i + n → e ≤ I (p + 7) 0 →
    Ex l 42 0 0 30 [some (.ref p), none, some (.int (iI st)), some (.int (iI e)), some (.int (iI i))] [] (mm q I v fr) (fun o => o = (.inl (some (.int (iI (if hasN (I (p + 9)) 0 n i then 0 else if hasN (I (p + 9)) 2 n i then 2 else st)))), mm q I v fr)) := by
  have hpb := hp.b
  have hs := h.sc
  intro n
  induction n with
  | zero =>
    intro i e st h0 h1 h2
    refine x_iload (pc := 30) rfl d42_30 ?_
    refine x_iload_n (pc := 32) rfl d42_32 ?_
    refine x_icmp_ge (pc := 33) (tgt := 73) ⟨by omega, by omega⟩ ⟨by omega, by omega⟩ d42_33 (by decide) (fun g33 => ?_) (fun g33 => ?_)
    · refine x_iload_n (pc := 73) rfl d42_73 ?_
      refine x_iret (pc := 74) rfl (fun _ => rfl) d42_74 ?_
      rfl
    · exfalso; omega
  | succ n ih =>
    intro i e st h0 h1 h2
    rw [scan_e]
    refine x_iload (pc := 30) rfl d42_30 ?_
    refine x_iload_n (pc := 32) rfl d42_32 ?_
    refine x_icmp_ge (pc := 33) (tgt := 73) ⟨by omega, by omega⟩ ⟨by omega, by omega⟩ d42_33 (by decide) (fun g33 => ?_) (fun g33 => ?_)
    · refine x_iload_n (pc := 73) rfl d42_73 ?_
      refine x_iret (pc := 74) rfl (fun _ => rfl) d42_74 ?_
      exfalso; omega
    · refine x_aload_n (pc := 36) rfl d42_36 ?_
      refine m_getR (pc := 37) f42_28 (by decide +kernel) hp.o0 hp.r0_11 d42_37 ?_
      refine m_getR (pc := 40) f42_165 (by decide +kernel) hp.o7 hp.r7_2 d42_40 ?_
      refine x_iload (pc := 43) rfl d42_43 ?_
      refine m_iald (pc := 45) hp.a9 (by omega) (by omega) (by omega) d42_45 ?_
      have hf := h.fr (f := i) h0 (by omega)
      refine x_if_ne (pc := 46) (tgt := 51) ⟨by omega, by omega⟩ d42_46 (by decide) (fun g46 => ?_) (fun g46 => ?_)
      · refine x_aload_n (pc := 51) rfl d42_51 ?_
        refine m_getR (pc := 52) f42_28 (by decide +kernel) hp.o0 hp.r0_11 d42_52 ?_
        refine m_getR (pc := 55) f42_165 (by decide +kernel) hp.o7 hp.r7_2 d42_55 ?_
        refine x_iload (pc := 58) rfl d42_58 ?_
        refine m_iald (pc := 60) hp.a9 (by omega) (by omega) (by omega) d42_60 ?_
        refine x_iconst (pc := 61) d42_61 ?_
        refine x_icmp_ne (pc := 62) (tgt := 67) ⟨by omega, by omega⟩ ⟨by omega, by omega⟩ d42_62 (by decide) (fun g62 => ?_) (fun g62 => ?_)
        · refine x_iinc (pc := 67) rfl (by decide +kernel) rfl d42_67 ?_
          dsimp only [List.set]
          refine x_goto (pc := 70) (tgt := 30) d42_70 (by decide) ?_
          rw [if_neg g46, if_neg g62]
          exact ih (i + 1) e st (by omega) (by omega) h2
        · refine x_iconst (pc := 65) d42_65 ?_
          refine x_istore_n (pc := 66) (by decide +kernel) rfl d42_66 ?_
          dsimp only [List.set]
          refine x_iinc (pc := 67) rfl (by decide +kernel) rfl d42_67 ?_
          dsimp only [List.set]
          refine x_goto (pc := 70) (tgt := 30) d42_70 (by decide) ?_
          rw [if_neg g46, if_pos g62]
          exact ih (i + 1) e 2 (by omega) (by omega) h2
      · refine x_iconst (pc := 49) d42_49 ?_
        refine x_iret (pc := 50) rfl (fun _ => rfl) d42_50 ?_
        rw [if_pos g46]
theorem st_vc (h : CINV I p c) {m : Int} (h0 : 0 ≤ m) (h1 : m < I p 7) : stA (Vc I p) m = if hasN (I (p + 9)) 0 ((I (p + 1) m + 3) / 4).toNat (I (p + 2) m) then 0 else if hasN (I (p + 9)) 2 ((I (p + 1) m + 3) / 4).toNat (I (p + 2) m) then 2 else 1 := by
  have hm := h.ms h0 h1
  unfold stA hasA
  rw [vc4, vc5, ent_in h0 h1, ent_in h0 h1]
  have e : ∀ s : Int, hasN (Vc I p 7) s ((I (p + 1) m + 3) / 4).toNat (I (p + 2) m) = hasN (I (p + 9)) s ((I (p + 1) m + 3) / 4).toNat (I (p + 2) m) := fun s => hasN_congr _ _ fun j g0 g1 => ent_in (by omega) (by omega)
  rw [e, e]
theorem dt_state (hl : l.1.stackTraces = false) (hp : LineAt q p) (h : CINV I p c) {m : Int} (hm : InR m) : DT l 42 [.ref p, .int (iI m)] (mm q I v fr) 0 0 (.inl (some (.int (iI (stD (Vc I p) m)))), mm q I v fr) := by
  have hpb := hp.b
  have hs := h.sc
  obtain ⟨hm1, hm2⟩ := hm
  have e5 : Vc I p 0 5 = I p 7 := vr5
  refine mkdt hl (by decide) (Nat.le_of_ble_eq_true rfl) (L := [some (.ref p), some (.int (iI m)), none, none, none]) rfl ?_
  refine x_aload_n (pc := 0) rfl d42_0 ?_
  refine x_iload_n (pc := 1) rfl d42_1 ?_
  refine x_cVs (pc := 2) c42_155 (dt_has hl hp h (m := m) ⟨by omega, by omega⟩) hp.o0 rfl rfl (Nat.le_of_ble_eq_true rfl) (by decide +kernel) (by decide +kernel) rfl d42_2 ?_
  refine x_ifB_ne (pc := 5) (tgt := 10) d42_5 (by decide) (fun g5 => ?_) (fun g5 => ?_)
  · have hm := of_decide_eq_true g5
    have h0 := hm.1
    have h1 := hm.2
    have hms := h.ms h0 h1
    refine x_iconst (pc := 10) d42_10 ?_
    refine x_istore_n (pc := 11) (by decide +kernel) rfl d42_11 ?_
    dsimp only [List.set]
    refine x_aload_n (pc := 12) rfl d42_12 ?_
    refine x_iload_n (pc := 13) rfl d42_13 ?_
    refine x_cVs (pc := 14) c42_158 (dt_endOf hl hp h h0 h1) hp.o0 rfl rfl (Nat.le_of_ble_eq_true rfl) (by decide +kernel) (by decide +kernel) rfl d42_14 ?_
    refine x_istore_n (pc := 17) (by decide +kernel) rfl d42_17 ?_
    dsimp only [List.set]
    refine x_aload_n (pc := 18) rfl d42_18 ?_
    refine m_getR (pc := 19) f42_15 (by decide +kernel) hp.o0 hp.r0_9 d42_19 ?_
    refine x_iload_n (pc := 22) rfl d42_22 ?_
    refine m_iald (pc := 23) hp.a2 (by omega) (by omega) (by omega) d42_23 ?_
    refine x_iconst (pc := 24) d42_24 ?_
    refine x_max (pc := 25) ⟨by omega, by omega⟩ ⟨by omega, by omega⟩ c42_162 (by decide +kernel) (Nat.le_of_ble_eq_true rfl) d42_25 ?_
    refine x_istore (pc := 28) (by decide +kernel) rfl d42_28 ?_
    dsimp only [List.set]
    refine x_mask [true, false, true, true, true] ?_
    dsimp only [mask]
    rw [show max (I (p + 2) m) 0 = I (p + 2) m from by omega]
    unfold stD
    rw [if_pos (by omega), st_vc h h0 h1]
    exact lp_state hl hp h (m := m) _ _ _ _ (by omega) (by omega) (by omega)
  · refine x_iconst (pc := 8) d42_8 ?_
    refine x_iret (pc := 9) rfl (fun _ => rfl) d42_9 ?_
    have := of_decide_eq_false g5
    unfold stD
    rw [if_neg (by omega)]
theorem stD_r (A : AV) (m : Int) : -1 ≤ stD A m ∧ stD A m ≤ 2 := by
  unfold stD stA
  split
  · split
    · decide
    · split <;> decide
  · decide
theorem dt_mayGive (hl : l.1.stackTraces = false) (hp : LineAt q p) (h : CINV I p c) {m : Int} (hm : InR m) : DT l 43 [.ref p, .int (iI m)] (mm q I v fr) 0 0 (.inl (some (.int (iI (b01 (decide (stD (Vc I p) m = 0)))))), mm q I v fr) := by
  have hpb := hp.b
  have hr := stD_r (Vc I p) m
  obtain ⟨hm1, hm2⟩ := hm
  refine mkdt hl (by decide) (Nat.le_of_ble_eq_true rfl) (L := [some (.ref p), some (.int (iI m))]) rfl ?_
  refine x_aload_n (pc := 0) rfl d43_0 ?_
  refine x_iload_n (pc := 1) rfl d43_1 ?_
  refine x_cVs (pc := 2) c43_168 (dt_state hl hp h (m := m) ⟨by omega, by omega⟩) hp.o0 rfl rfl (Nat.le_of_ble_eq_true rfl) (by decide +kernel) (by decide +kernel) rfl d43_2 ?_
  refine x_if_ne (pc := 5) (tgt := 12) ⟨by omega, by omega⟩ d43_5 (by decide) (fun g5 => ?_) (fun g5 => ?_)
  · refine x_iconst (pc := 12) d43_12 ?_
    refine x_zret (pc := 13) rfl (Or.inl rfl) (fun _ => rfl) d43_13 ?_
    rw [decide_eq_false (by omega)]; rfl
  · refine x_iconst (pc := 8) d43_8 ?_
    refine x_goto (pc := 9) (tgt := 13) d43_9 (by decide) ?_
    refine x_zret (pc := 13) rfl (Or.inr rfl) (fun _ => rfl) d43_13 ?_
    rw [decide_eq_true (by omega)]; rfl
theorem dt_maySend (hl : l.1.stackTraces = false) (hp : LineAt q p) (h : CINV I p c) {m : Int} (hm : InR m) : DT l 45 [.ref p, .int (iI m)] (mm q I v fr) 0 0 (.inl (some (.int (iI (b01 (decide (stD (Vc I p) m = 2 ∧ I p 7 < 12)))))), mm q I v fr) := by
  have hpb := hp.b
  have hr := stD_r (Vc I p) m
  obtain ⟨hm1, hm2⟩ := hm
  refine mkdt hl (by decide) (Nat.le_of_ble_eq_true rfl) (L := [some (.ref p), some (.int (iI m))]) rfl ?_
  refine x_aload_n (pc := 0) rfl d45_0 ?_
  refine x_iload_n (pc := 1) rfl d45_1 ?_
  refine x_cVs (pc := 2) c45_168 (dt_state hl hp h (m := m) ⟨by omega, by omega⟩) hp.o0 rfl rfl (Nat.le_of_ble_eq_true rfl) (by decide +kernel) (by decide +kernel) rfl d45_2 ?_
  refine x_iconst (pc := 5) d45_5 ?_
  refine x_icmp_ne (pc := 6) (tgt := 20) ⟨by omega, by omega⟩ ⟨by omega, by omega⟩ d45_6 (by decide) (fun g6 => ?_) (fun g6 => ?_)
  · refine x_iconst (pc := 20) d45_20 ?_
    refine x_zret (pc := 21) rfl (Or.inl rfl) (fun _ => rfl) d45_21 ?_
    rw [decide_eq_false (by omega)]; rfl
  · refine x_aload_n (pc := 9) rfl d45_9 ?_
    refine x_cVs (pc := 10) c45_144 (dt_room hl hp h) hp.o0 rfl rfl (Nat.le_of_ble_eq_true rfl) (by decide +kernel) (by decide +kernel) rfl d45_10 ?_
    refine x_ifB_eq (pc := 13) (tgt := 20) d45_13 (by decide) (fun g13 => ?_) (fun g13 => ?_)
    · refine x_iconst (pc := 20) d45_20 ?_
      refine x_zret (pc := 21) rfl (Or.inl rfl) (fun _ => rfl) d45_21 ?_
      rw [decide_eq_false (fun z => of_decide_eq_false g13 z.2)]; rfl
    · refine x_iconst (pc := 16) d45_16 ?_
      refine x_goto (pc := 17) (tgt := 21) d45_17 (by decide) ?_
      refine x_zret (pc := 21) rfl (Or.inr rfl) (fun _ => rfl) d45_21 ?_
      rw [decide_eq_true ⟨by omega, of_decide_eq_true g13⟩]; rfl
theorem stD_valid {A : AV} {m : Int} (h : stD A m ≠ -1) : 0 ≤ m ∧ m < A 0 5 := by
  unfold stD at h
  by_cases e : 0 ≤ m ∧ m < A 0 5
  · exact e
  · rw [if_neg e] at h; exact absurd rfl h
theorem lp_give (hl : l.1.stackTraces = false) (hp : LineAt q p) {N g n : Int} (hg : 0 ≤ g) {I : Nat → Int → Int} (h : CINV I p c) (hN : N = I (p + 7) 0) (hn : g + n ≤ N) : ∀ (m i : Nat) (J : Nat → Int → Int), m + i = n → (∀ a, a ≠ p + 9 → J a = I a) → Vc J p = (gvS (Vc I p) g i).2 →
    Ex l 44 0 0 30 [some (.ref p), none, some (.int (iI (gvS (Vc I p) g i).1)), some (.int (iI (g + n))), some (.int (iI (g + i)))] [] (mm q J v fr) (oE q v fr (some (.int (iI (gvS (Vc I p) g n.toNat).1))) (fun K => (∀ a, a ≠ p + 9 → K a = I a) ∧ Vc K p = (gvS (Vc I p) g n.toNat).2)) := by
  have hpb := hp.b
  have hs := h.sc
  intro m
  induction m with
  | zero =>
    intro i J h1 hJ hv
    refine x_iload (pc := 30) rfl d44_30 ?_
    refine x_iload_n (pc := 32) rfl d44_32 ?_
    refine x_icmp_ge (pc := 33) (tgt := 69) ⟨by omega, by omega⟩ ⟨by omega, by omega⟩ d44_33 (by decide) (fun g33 => ?_) (fun g33 => ?_)
    · refine x_iload_n (pc := 69) rfl d44_69 ?_
      refine x_iret (pc := 70) rfl (fun _ => rfl) d44_70 ?_
      rw [show n.toNat = i from by omega]
      exact ⟨J, rfl, hJ, hv⟩
    · exfalso; omega
  | succ m ih =>
    intro i J h1 hJ hv
    have j7 : J (p + 7) = I (p + 7) := hJ _ (by omega)
    have hvi : Vc J p 7 (g + i) = J (p + 9) (g + i) := ent_in (by omega) (by rw [j7]; omega)
    have hv7 : J (p + 9) (g + i) = Vc I p 7 (g + i) := by rw [← hvi, hv]; exact gvS_7 i (Int.le_refl _)
    have hr : 0 ≤ J (p + 9) (g + i) ∧ J (p + 9) (g + i) ≤ 2 := by
      rw [hv7]
      exact (h.1.frm (g + i) (by omega) (by rw [vr6]; omega)).2.1
    have hgr := gvS_r (A := Vc I p) (g := g) i
    refine x_iload (pc := 30) rfl d44_30 ?_
    refine x_iload_n (pc := 32) rfl d44_32 ?_
    refine x_icmp_ge (pc := 33) (tgt := 69) ⟨by omega, by omega⟩ ⟨by omega, by omega⟩ d44_33 (by decide) (fun g33 => ?_) (fun g33 => ?_)
    · refine x_iload_n (pc := 69) rfl d44_69 ?_
      refine x_iret (pc := 70) rfl (fun _ => rfl) d44_70 ?_
      exfalso; omega
    · refine x_aload_n (pc := 36) rfl d44_36 ?_
      refine m_getR (pc := 37) f44_28 (by decide +kernel) hp.o0 hp.r0_11 d44_37 ?_
      refine m_getR (pc := 40) f44_165 (by decide +kernel) hp.o7 hp.r7_2 d44_40 ?_
      refine x_iload (pc := 43) rfl d44_43 ?_
      refine m_iald (pc := 45) hp.a9 (by omega) (by omega) (by omega) d44_45 ?_
      refine x_if_ne (pc := 46) (tgt := 63) ⟨by omega, by omega⟩ d44_46 (by decide) (fun g46 => ?_) (fun g46 => ?_)
      · refine x_iinc (pc := 63) rfl (by decide +kernel) rfl d44_63 ?_
        dsimp only [List.set]
        refine x_goto (pc := 66) (tgt := 30) d44_66 (by decide) ?_
        have e : gvS (Vc I p) g (i + 1) = gvS (Vc I p) g i := if_neg (by rw [← hv7]; exact g46)
        rw [← e, show g + (i : Int) + 1 = g + ((i + 1 : Nat) : Int) from by omega]
        exact ih (i + 1) J (by omega) hJ (by rw [e]; exact hv)
      · refine x_aload_n (pc := 49) rfl d44_49 ?_
        refine m_getR (pc := 50) f44_28 (by decide +kernel) hp.o0 hp.r0_11 d44_50 ?_
        refine m_getR (pc := 53) f44_165 (by decide +kernel) hp.o7 hp.r7_2 d44_53 ?_
        refine x_iload (pc := 56) rfl d44_56 ?_
        refine x_iconst (pc := 58) d44_58 ?_
        refine m_iast (pc := 59) hp.a9 (by omega) (by omega) (by omega) d44_59 ?_
        refine x_iinc (pc := 60) rfl (by decide +kernel) rfl d44_60 ?_
        dsimp only [List.set]
        refine x_iinc (pc := 63) rfl (by decide +kernel) rfl d44_63 ?_
        dsimp only [List.set]
        refine x_goto (pc := 66) (tgt := 30) d44_66 (by decide) ?_
        have e : gvS (Vc I p) g (i + 1) = ((gvS (Vc I p) g i).1 + 1, up2 (gvS (Vc I p) g i).2 7 (g + i) 2) := if_pos (by rw [← hv7]; exact g46)
        rw [show (gvS (Vc I p) g i).1 + 1 = (gvS (Vc I p) g (i + 1)).1 from by rw [e], show g + (i : Int) + 1 = g + ((i + 1 : Nat) : Int) from by omega]
        refine ih (i + 1) _ (by omega) (fun a ha => by rw [up2_off' _ _ _ ha]; exact hJ a ha) ?_
        rw [vc_st (by omega) (by rw [j7]; omega), hv, e]
theorem ct_give (hl : l.1.stackTraces = false) (hp : LineAt q p) (h : CINV I p c) {m : Int} (hm : InR m) : CT l 44 [.ref p, .int (iI m)] (mm q I v fr) 0 0 (oE q v fr (some (.int (iI (if stD (Vc I p) m = 0 then (gvA (Vc I p) m).1 else 0)))) (fun K => (∀ a, a ≠ p + 9 → K a = I a) ∧ Vc K p = if stD (Vc I p) m = 0 then (gvA (Vc I p) m).2 else Vc I p)) := by
  have hpb := hp.b
  have hs := h.sc
  have e5 : Vc I p 0 5 = I p 7 := vr5
  obtain ⟨hm1, hm2⟩ := hm
  refine mkct2 hl (by decide) (Nat.le_of_ble_eq_true rfl) (L := [some (.ref p), some (.int (iI m)), none, none, none]) rfl ?_
  refine x_aload_n (pc := 0) rfl d44_0 ?_
  refine x_iload_n (pc := 1) rfl d44_1 ?_
  refine x_cVs (pc := 2) c44_171 (dt_mayGive hl hp h (m := m) ⟨by omega, by omega⟩) hp.o0 rfl rfl (Nat.le_of_ble_eq_true rfl) (by decide +kernel) (by decide +kernel) rfl d44_2 ?_
  refine x_ifB_ne (pc := 5) (tgt := 10) d44_5 (by decide) (fun g5 => ?_) (fun g5 => ?_)
  · have hv0 := of_decide_eq_true g5
    have hval := stD_valid (A := Vc I p) (m := m) (by omega)
    have h0 := hval.1
    have h1 : m < I p 7 := by omega
    have hms := h.ms h0 h1
    refine x_iconst (pc := 10) d44_10 ?_
    refine x_istore_n (pc := 11) (by decide +kernel) rfl d44_11 ?_
    dsimp only [List.set]
    refine x_aload_n (pc := 12) rfl d44_12 ?_
    refine x_iload_n (pc := 13) rfl d44_13 ?_
    refine x_cVs (pc := 14) c44_158 (dt_endOf hl hp h h0 h1) hp.o0 rfl rfl (Nat.le_of_ble_eq_true rfl) (by decide +kernel) (by decide +kernel) rfl d44_14 ?_
    refine x_istore_n (pc := 17) (by decide +kernel) rfl d44_17 ?_
    dsimp only [List.set]
    refine x_aload_n (pc := 18) rfl d44_18 ?_
    refine m_getR (pc := 19) f44_15 (by decide +kernel) hp.o0 hp.r0_9 d44_19 ?_
    refine x_iload_n (pc := 22) rfl d44_22 ?_
    refine m_iald (pc := 23) hp.a2 (by omega) (by omega) (by omega) d44_23 ?_
    refine x_iconst (pc := 24) d44_24 ?_
    refine x_max (pc := 25) ⟨by omega, by omega⟩ ⟨by omega, by omega⟩ c44_162 (by decide +kernel) (Nat.le_of_ble_eq_true rfl) d44_25 ?_
    refine x_istore (pc := 28) (by decide +kernel) rfl d44_28 ?_
    dsimp only [List.set]
    refine x_mask [true, false, true, true, true] ?_
    dsimp only [mask]
    rw [if_pos hv0, if_pos hv0, show max (I (p + 2) m) 0 = I (p + 2) m from by omega]
    unfold gvA
    rw [vc4, vc5, ent_in h0 h1, ent_in h0 h1]
    have g := lp_give hl hp (v := v) (fr := fr) (g := I (p + 2) m) (n := (I (p + 1) m + 3) / 4) hms.2.1 h rfl (by omega) ((I (p + 1) m + 3) / 4).toNat 0 I (by omega) (fun _ _ => rfl) rfl
    rw [show I (p + 2) m + ((0 : Nat) : Int) = I (p + 2) m from Int.add_zero _] at g
    exact g
  · refine x_iconst (pc := 8) d44_8 ?_
    refine x_iret (pc := 9) rfl (fun _ => rfl) d44_9 ?_
    have := of_decide_eq_false g5
    rw [if_neg this, if_neg this]
    exact ⟨I, rfl, fun _ _ => rfl, rfl⟩
/-- Dogs.add -/
theorem vc_dog {a b d : Int} (h0 : 0 ≤ I (p + 3) 0) : Vc (up2 (up2 (up2 (up2 I (p + 4) (I (p + 3) 0) a) (p + 5) (I (p + 3) 0) b) (p + 6) (I (p + 3) 0) d) (p + 3) 0 (I (p + 3) 0 + 1)) p = dogA (Vc I p) a b d := by
  obtain ⟨K, hK⟩ : ∃ K, K = up2 (up2 (up2 (up2 I (p + 4) (I (p + 3) 0) a) (p + 5) (I (p + 3) 0) b) (p + 6) (I (p + 3) 0) d) (p + 3) 0 (I (p + 3) 0 + 1) := ⟨_, rfl⟩
  rw [← hK]
  have k3 : K (p + 3) 0 = I (p + 3) 0 + 1 := by rw [hK, up2_s]
  have k4 : K (p + 4) = fun i => if i = I (p + 3) 0 then a else I (p + 4) i := by rw [hK, up2_off' _ _ _ (by omega), up2_off' _ _ _ (by omega), up2_off' _ _ _ (by omega), up2_at]
  have k5 : K (p + 5) = fun i => if i = I (p + 3) 0 then b else I (p + 5) i := by rw [hK, up2_off' _ _ _ (by omega), up2_off' _ _ _ (by omega), up2_at, up2_off' _ _ _ (by omega)]
  have k6 : K (p + 6) = fun i => if i = I (p + 3) 0 then d else I (p + 6) i := by rw [hK, up2_off' _ _ _ (by omega), up2_at, up2_off' _ _ _ (by omega), up2_off' _ _ _ (by omega)]
  have ko : ∀ a, a ≠ p + 3 → a ≠ p + 4 → a ≠ p + 5 → a ≠ p + 6 → K a = I a := fun a h3 h4 h5 h6 => by rw [hK, up2_off' _ _ _ h3, up2_off' _ _ _ h6, up2_off' _ _ _ h5, up2_off' _ _ _ h4]
  have e4 : Vc I p 0 4 = I (p + 3) 0 := vr4
  have ee : ∀ (g : Int → Int) (z i : Int), ent (I (p + 3) 0 + 1) (fun i => if i = I (p + 3) 0 then z else g i) i = if i = I (p + 3) 0 then z else ent (I (p + 3) 0) g i := fun g z i => by
    show (if 0 ≤ i ∧ i < I (p + 3) 0 + 1 then (if i = I (p + 3) 0 then z else g i) else 0) = if i = I (p + 3) 0 then z else (if 0 ≤ i ∧ i < I (p + 3) 0 then g i else 0)
    by_cases e : i = I (p + 3) 0
    · rw [if_pos e, if_pos e, if_pos (by omega)]
    · rw [if_neg e, if_neg e]
      by_cases e2 : 0 ≤ i ∧ i < I (p + 3) 0
      · rw [if_pos e2, if_pos (by omega)]
      · rw [if_neg e2, if_neg (by omega)]
  funext k i
  by_cases h1 : k = 1
  · subst h1; rw [dogA_e.1, e4]; show ent (K (p + 3) 0) (K (p + 4)) i = _; rw [k3, k4]; exact ee _ _ _
  by_cases h2 : k = 2
  · subst h2; rw [dogA_e.2.1, e4]; show ent (K (p + 3) 0) (K (p + 5)) i = _; rw [k3, k5]; exact ee _ _ _
  by_cases h3 : k = 3
  · subst h3; rw [dogA_e.2.2.1, e4]; show ent (K (p + 3) 0) (K (p + 6)) i = _; rw [k3, k6]; exact ee _ _ _
  by_cases hk : k = 0
  · subst hk
    by_cases h4 : i = 4
    · subst h4; rw [(dogA_e (i := 0)).2.2.2, e4, vr4, k3]
    · rw [dogA_o (by decide) (fun _ => h4)]
      show scalC K p i = scalC I p i
      unfold scalC
      by_cases hi : 0 ≤ i ∧ i < 18
      · rw [if_pos hi, if_pos hi]
        have ho : sO i.toNat ≠ 1 ∧ sO i.toNat ≠ 2 ∧ sO i.toNat ≠ 4 ∧ sO i.toNat ≠ 5 ∧ sO i.toNat ≠ 6 ∧ _ := sO_out ⟨i.toNat, by omega⟩
        by_cases e : sO i.toNat = 3
        · have hj : ¬ (sO i.toNat = 3 ∧ sJ i.toNat = 0) := fun z => by
            have := s_inj ⟨i.toNat, by omega⟩ ⟨4, by decide⟩ z.1 z.2
            have := congrArg Fin.val this
            dsimp only at this
            omega
          rw [e, hK, up2_i (fun z => hj ⟨e, z⟩), up2_p (by omega), up2_p (by omega), up2_p (by omega)]
        · rw [ko (p + sO i.toNat) (by omega) (by have := ho.2.2.1; omega) (by have := ho.2.2.2.1; omega) (by have := ho.2.2.2.2.1; omega)]
      · rw [if_neg hi, if_neg hi]
  · rw [dogA_o ⟨h1, h2, h3⟩ (fun z => absurd z hk)]
    unfold Vc
    rw [ko p (by omega) (by omega) (by omega) (by omega), ko (p + 1) (by omega) (by omega) (by omega) (by omega), ko (p + 2) (by omega) (by omega) (by omega) (by omega), ko (p + 7) (by omega) (by omega) (by omega) (by omega), ko (p + 8) (by omega) (by omega) (by omega) (by omega), ko (p + 9) (by omega) (by omega) (by omega) (by omega), ko (p + 10) (by omega) (by omega) (by omega) (by omega), ko (p + 11) (by omega) (by omega) (by omega) (by omega), ko (p + 12) (by omega) (by omega) (by omega) (by omega), ko (p + 13) (by omega) (by omega) (by omega) (by omega)]
    match k, hk, h1, h2, h3 with
    | 0, hk, _, _, _ => exact absurd rfl hk
    | 1, _, hk, _, _ => exact absurd rfl hk
    | 2, _, _, hk, _ => exact absurd rfl hk
    | 3, _, _, _, hk => exact absurd rfl hk
    | 4, _, _, _, _ | 5, _, _, _, _ | 6, _, _, _, _ | 7, _, _, _, _ | 8, _, _, _, _ | 9, _, _, _, _ | 10, _, _, _, _ | 11, _, _, _, _ => rfl
    | k + 12, _, _, _, _ => rfl
end Cls
