/-! ===== a command is run ===== -/
/-- the clock's bound between calls -/
def cB : Int := 2450880
def bfA (T : Int → Int) (a b : Int) : Int → Int := fun k => if 0 ≤ k ∧ k < b then T (a + k) else 0
def stepC (A : AV) (T : Int → Int) (nm a b c : Int) : Bool × AV :=
  if nm = 0 then (if A 0 5 < 12 then (true, addA A (bfA T a b) b) else (false, A))
  else if nm = 1 then (if A 0 7 ≤ 900000 then (true, (mkS a.toNat A).2) else (false, A))
  else if nm = 2 then (if stD A a = 0 then (true, (gvA A a).2) else (false, A))
  else if nm = 3 then (if stD A a = 2 ∧ A 0 5 < 12 then (true, addA A (txtA A a) (A 4 a)) else (false, A))
  else if nm = 4 then (if A 0 7 + a ≤ 900000 then (true, waitA A a) else (false, A))
  else if nm = 5 then (true, up2 A 0 1 (a - 100))
  else if nm = 6 then (if A 0 4 < 3 then (true, dogA A a b c) else (false, A))
  else (if a < A 0 4 then (true, rmA A a) else (false, A))
theorem hasN_ex {St : Int → Int} {c : Int} : ∀ (m : Nat) (i : Int), hasN St c m i = true → ∃ x : Int, i ≤ x ∧ x < i + m ∧ St x = c
  | 0, _, h => by cases h
  | m + 1, i, h => by
    unfold hasN at h
    simp only [Bool.or_eq_true, decide_eq_true_eq] at h
    rcases h with h | h
    · exact ⟨i, Int.le_refl i, by omega, h⟩
    · obtain ⟨x, h0, h1, h2⟩ := hasN_ex m (i + 1) h
      exact ⟨x, by omega, by omega, h2⟩
theorem gvS_pos {A : AV} {g x : Int} (hg : g ≤ x) (hx : A 7 x = 0) : ∀ j : Nat, x < g + j → 0 < (gvS A g j).1
  | 0, h => by omega
  | j + 1, h => by
    have hr := gvS_r (A := A) (g := g) j
    unfold gvS
    by_cases e : A 7 (g + j) = 0
    · rw [if_pos e]; dsimp only; omega
    · rw [if_neg e]
      exact gvS_pos hg hx j (by
        have : x ≠ g + j := fun z => e (by rw [← z]; exact hx)
        omega)
theorem gv_pos {A : AV} {m : Int} (h : stD A m = 0) : 0 < (gvA A m).1 := by
  unfold stD stA at h
  split at h
  · split at h
    · rename_i h2
      obtain ⟨x, x0, x1, x2⟩ := hasN_ex _ _ h2
      exact gvS_pos x0 x2 _ x1
    · split at h <;> cases h
  · cases h
theorem bfA_r {T : Int → Int} {a b n : Int} (hT : ∀ i, 0 ≤ i → i < n → 0 ≤ T i ∧ T i ≤ 255) (h0 : 0 ≤ a) (h1 : a + b ≤ n) (k : Int) : 0 ≤ bfA T a b k ∧ bfA T a b k ≤ 255 := by
  unfold bfA
  split
  · exact hT _ (by omega) (by omega)
  · decide
theorem txtA_r {A : AV} {c m : Int} (h : AINV A c) (k : Int) : 0 ≤ txtA A m k ∧ txtA A m k ≤ 255 := h.byt _
theorem AI.step {A : AV} {T : Int → Int} {n nm a b c : Int} (h : AINV A cB) (hT : ∀ i, 0 ≤ i → i < n → 0 ≤ T i ∧ T i ≤ 255) (h0 : nm = 0 → 0 ≤ a ∧ 1 ≤ b ∧ b ≤ 16 ∧ a + b ≤ n) (h6 : nm = 6 → (2 ≤ a ∧ a ≤ 999) ∧ (1 ≤ b ∧ b < a) ∧ (0 ≤ c ∧ c ≤ 999)) (h9 : nm ≠ 0 → nm ≠ 6 → (numR nm).1 ≤ a ∧ a ≤ (numR nm).2 ∧ 0 ≤ a ∧ a ≤ 999) : AINV (stepC A T nm a b c).2 cB := by
  unfold stepC
  by_cases c0 : nm = 0
  · rw [if_pos c0]
    have := h0 c0
    split
    · exact h.add (by assumption) (by omega) (bfA_r hT (by omega) (by omega))
    · exact h
  rw [if_neg c0]
  by_cases c1 : nm = 1
  · rw [if_pos c1]
    have g := h9 c0 (by omega)
    rw [c1] at g
    have g1 : a ≤ 60 := g.2.1
    split
    · rename_i hc
      have := mkS_inv a.toNat A 900000 (h.mono hc)
      exact AI.mono this (by have := this.ck; show (mkS a.toNat A).2 0 7 ≤ 2450880; omega)
    · exact h
  rw [if_neg c1]
  by_cases c2 : nm = 2
  · rw [if_pos c2]
    split
    · exact AI.gv h _
    · exact h
  rw [if_neg c2]
  by_cases c3 : nm = 3
  · rw [if_pos c3]
    split
    · rename_i hc
      have hv := stD_valid (A := A) (m := a) (by omega)
      exact h.add hc.2 (h.msg a hv.1 hv.2).1 (txtA_r h)
    · exact h
  rw [if_neg c3]
  by_cases c4 : nm = 4
  · rw [if_pos c4]
    have g := h9 c0 (by omega)
    split
    · rename_i hc
      exact h.wait g.2.2.1 (by unfold cB; omega)
    · exact h
  rw [if_neg c4]
  by_cases c5 : nm = 5
  · rw [if_pos c5]
    have g := h9 c0 (by omega)
    rw [c5] at g
    have g1 : 1 ≤ a := g.1
    have g2 : a ≤ 199 := g.2.1
    exact h.drift (by omega)
  rw [if_neg c5]
  by_cases c6 : nm = 6
  · rw [if_pos c6]
    have g := h6 c6
    split
    · exact h.dg1 (by assumption) g.1 g.2.1 g.2.2
    · exact h
  rw [if_neg c6]
  have g := h9 c0 c6
  split
  · exact h.rm g.2.2.1 (by assumption)
  · exact h
section Step
variable {l : LX} {q p : Nat} {I : Nat → Int → Int} {v : Int} {fr : Bool} {T : Int → Int} {n : Int}
theorem vc_rm {K : Nat → Int → Int} {d : Int} (h0 : 0 ≤ d) (h1 : d < I (p + 3) 0) (ko : ∀ a, a ≠ p + 3 → a ≠ p + 4 → a ≠ p + 5 → a ≠ p + 6 → K a = I a) (k3 : K (p + 3) = (fun b => if b = 0 then I (p + 3) 0 - 1 else I (p + 3) b)) (k4 : K (p + 4) = rmF (I (p + 4)) d (I (p + 3) 0 - 1)) (k5 : K (p + 5) = rmF (I (p + 5)) d (I (p + 3) 0 - 1)) (k6 : K (p + 6) = rmF (I (p + 6)) d (I (p + 3) 0 - 1)) : Vc K p = rmA (Vc I p) d := by
  have e4 : Vc I p 0 4 = I (p + 3) 0 := vr4
  have k30 : K (p + 3) 0 = I (p + 3) 0 - 1 := by rw [k3]; exact if_pos rfl
  have ee : ∀ (g : Int → Int) (i : Int), ent (I (p + 3) 0 - 1) (rmF g d (I (p + 3) 0 - 1)) i = if d ≤ i then (if i + 1 < I (p + 3) 0 then ent (I (p + 3) 0) g (i + 1) else 0) else ent (I (p + 3) 0) g i := fun g i => by
    unfold ent rmF
    by_cases c1 : d ≤ i
    · rw [if_pos c1]
      by_cases c2 : i + 1 < I (p + 3) 0
      · rw [if_pos c2, if_pos (by omega), if_pos (by omega), if_pos (by omega)]
      · rw [if_neg c2, if_neg (by omega)]
    · rw [if_neg c1]
      by_cases c2 : 0 ≤ i ∧ i < I (p + 3) 0
      · rw [if_pos c2, if_pos (by omega), if_neg (by omega)]
      · rw [if_neg c2, if_neg (by omega)]
  funext k i
  by_cases h1 : k = 1
  · subst h1; rw [rmA_d (by decide), e4, vc1, vc1, k30, k4]; exact ee _ _
  by_cases h2 : k = 2
  · subst h2; rw [rmA_d (by decide), e4, vc2, vc2, k30, k5]; exact ee _ _
  by_cases h3 : k = 3
  · subst h3; rw [rmA_d (by decide), e4, vc3, vc3, k30, k6]; exact ee _ _
  by_cases hk : k = 0
  · subst hk
    by_cases h4 : i = 4
    · subst h4; show Vc K p 0 4 = Vc I p 0 4 - 1; rw [vr4, k30, e4]
    · rw [rmA_o (by decide) (fun _ => h4)]
      exact scal_at (o := 3) (n0 := 4) (by decide) rfl (by decide +kernel) (fun a ha ⟨m, hm⟩ => ko a (by omega) (by have := sO_out m; omega) (by have := sO_out m; omega) (by have := sO_out m; omega)) i h4
  rw [rmA_o ⟨h1, h2, h3⟩ (fun z => absurd z hk)]
  unfold Vc
  rw [ko p (by omega) (by omega) (by omega) (by omega), ko (p + 1) (by omega) (by omega) (by omega) (by omega), ko (p + 2) (by omega) (by omega) (by omega) (by omega), ko (p + 7) (by omega) (by omega) (by omega) (by omega), ko (p + 8) (by omega) (by omega) (by omega) (by omega), ko (p + 9) (by omega) (by omega) (by omega) (by omega), ko (p + 10) (by omega) (by omega) (by omega) (by omega), ko (p + 11) (by omega) (by omega) (by omega) (by omega), ko (p + 12) (by omega) (by omega) (by omega) (by omega), ko (p + 13) (by omega) (by omega) (by omega) (by omega)]
  match k, hk, h1, h2, h3 with
  | 0, hk, _, _, _ => exact absurd rfl hk
  | 1, _, hk, _, _ => exact absurd rfl hk
  | 2, _, _, hk, _ => exact absurd rfl hk
  | 3, _, _, _, hk => exact absurd rfl hk
  | 4, _, _, _, _ | 5, _, _, _, _ | 6, _, _, _, _ | 7, _, _, _, _ | 8, _, _, _, _ | 9, _, _, _, _ | 10, _, _, _, _ | 11, _, _, _, _ => rfl
  | k + 12, _, _, _, _ => rfl
theorem cx_rm {K : Nat → Int → Int} (h : CX I p) (ko : ∀ a, a ≠ p + 3 → a ≠ p + 4 → a ≠ p + 5 → a ≠ p + 6 → K a = I a) : CX K p := by
  unfold CX
  rw [ko (p + 12) (by omega) (by omega) (by omega) (by omega), ko (p + 13) (by omega) (by omega) (by omega) (by omega), ko (p + 7) (by omega) (by omega) (by omega) (by omega), ko (p + 11) (by omega) (by omega) (by omega) (by omega), ko (p + 10) (by omega) (by omega) (by omega) (by omega), ko (p + 14) (by omega) (by omega) (by omega) (by omega), ko p (by omega) (by omega) (by omega) (by omega)]
  exact h
theorem ct_run0 (hl : l.1.stackTraces = false) (hq : 181 ≤ q) (hp : LineAt q p) (hp2 : 136 ≤ p) (h : CINV I p cB) (hX : TXT I T n) {cnt k a b c : Int} (hk0 : 0 ≤ k) (hk1 : k < cnt) (hcnt : cnt ≤ 30) (hc : I 6 0 = cnt) (ha : I 8 k = a) (hb : I 9 k = b) (hcc : I 10 k = c) (hnm : I 7 k = 0) (hr : 0 ≤ a ∧ 1 ≤ b ∧ b ≤ 16 ∧ a + b ≤ n) : CT l 8 [.ref 6, .int (iI k), .ref p, .ref 1, .ref 11] (mm q I v fr) 0 0 (oE q v fr (some (.int (iI (b01 (stepC (Vc I p) T 0 a b c).1)))) (fun K => offL p I K ∧ Vc K p = (stepC (Vc I p) T 0 a b c).2 ∧ CX K p)) := by
  have hpb := hp.b
  have hcB : cB = 2450880 := rfl
  have hs := h.sc
  obtain ⟨hn0, hn1⟩ := hX.2.2.1
  have es : stepC (Vc I p) T 0 a b c = if I p 7 < 12 then (true, addA (Vc I p) (bfA T a b) b) else (false, Vc I p) := by rw [← vr5 (I := I) (p := p)]; rfl
  rw [es]
  refine mkct2 hl (by decide) (Nat.le_of_ble_eq_true rfl) (L := [some (.ref 6), some (.int (iI k)), some (.ref p), some (.ref 1), some (.ref 11), none]) rfl ?_
  refine x_iload_n (pc := 0) rfl d8_0 ?_
  refine x_if_lt (pc := 1) (tgt := 18) ⟨by omega, by omega⟩ d8_1 (by decide) (fun g1 => ?_) (fun g1 => ?_)
  · refine x_iconst (pc := 18) d8_18 ?_
    refine x_zret (pc := 19) rfl (Or.inl rfl) (fun _ => rfl) d8_19 ?_
    exfalso; omega
  · refine x_iload_n (pc := 4) rfl d8_4 ?_
    refine x_aload_n (pc := 5) rfl d8_5 ?_
    refine m_getI (pc := 6) (z := 0) f8_24 (by decide +kernel) rfl (ko6 (by omega)) d8_6 ?_
    refine x_val (pc := 9) (w := cnt) (hc) ?_
    refine x_icmp_ge (pc := 9) (tgt := 18) ⟨by omega, by omega⟩ ⟨by omega, by omega⟩ d8_9 (by decide) (fun g9 => ?_) (fun g9 => ?_)
    · refine x_iconst (pc := 18) d8_18 ?_
      refine x_zret (pc := 19) rfl (Or.inl rfl) (fun _ => rfl) d8_19 ?_
      exfalso; omega
    · refine x_iload_n (pc := 12) rfl d8_12 ?_
      refine x_bipush (pc := 13) (by decide) d8_13 ?_
      refine x_icmp_lt (pc := 15) (tgt := 20) ⟨by omega, by omega⟩ ⟨by omega, by omega⟩ d8_15 (by decide) (fun g15 => ?_) (fun g15 => ?_)
      · refine x_aload_n (pc := 20) rfl d8_20 ?_
        refine m_getR (pc := 21) f8_15 (by decide +kernel) (ko6 (by omega)) rr6_2 d8_21 ?_
        refine x_iload_n (pc := 24) rfl d8_24 ?_
        refine m_iald (pc := 25) (ka8 (by omega)) (by omega) (by omega) (by omega) d8_25 ?_
        refine x_val (pc := 26) (w := a) (ha) ?_
        refine x_istore (pc := 26) (by decide +kernel) rfl d8_26 ?_
        dsimp only [List.set]
        refine x_aload_n (pc := 28) rfl d8_28 ?_
        refine m_getR (pc := 29) f8_9 (by decide +kernel) (ko6 (by omega)) rr6_1 d8_29 ?_
        refine x_iload_n (pc := 32) rfl d8_32 ?_
        refine m_iald (pc := 33) (ka7 (by omega)) (by omega) (by omega) (by omega) d8_33 ?_
        refine x_val (pc := 34) (w := 0) (hnm) ?_
        refine x_tabIn (pc := 34) (tgt := 76) ⟨by omega, by omega⟩ d8_34 (by decide) (by decide) rfl (by decide) ?_
        refine x_aload_n (pc := 76) rfl d8_76 ?_
        refine x_aload_n (pc := 77) rfl d8_77 ?_
        refine m_getR (pc := 78) f8_111 (by decide +kernel) (ko1 (by omega)) rr1_0 d8_78 ?_
        refine x_iload (pc := 81) rfl d8_81 ?_
        refine x_aload_n (pc := 83) rfl d8_83 ?_
        refine m_getR (pc := 84) f8_18 (by decide +kernel) (ko6 (by omega)) rr6_3 d8_84 ?_
        refine x_iload_n (pc := 87) rfl d8_87 ?_
        refine m_iald (pc := 88) (ka9 (by omega)) (by omega) (by omega) (by omega) d8_88 ?_
        refine x_val (pc := 89) (w := b) (hb) ?_
        refine x_cVes (pc := 89) c8_116 (ct_addMsg hl hp h (s := 2) (ka2 (by omega) (I := I) (v := v) (fr := fr)) (by decide) (by omega) (fm := a) (n := b) (B := bfA T a b) (by omega) (by omega) (by omega) (by omega) (fun k k0 k1 => by rw [hX.1]; exact (if_pos ⟨k0, k1⟩).symm) (bfA_r hX.2.2.2 (by omega) (by omega))) hp.o0 rfl rfl (Nat.le_of_ble_eq_true rfl) (by decide +kernel) (by decide +kernel) d8_89 (fun J1 hJ1 => ?_)
        refine x_iconst (pc := 92) d8_92 ?_
        refine x_icmp_eq (pc := 93) (tgt := 100) ⟨by omega, by omega⟩ ⟨by omega, by omega⟩ d8_93 (by decide) (fun g93 => ?_) (fun g93 => ?_)
        · refine x_iconst (pc := 100) d8_100 ?_
          refine x_zret (pc := 101) rfl (Or.inl rfl) (fun _ => rfl) d8_101 ?_
          obtain ⟨j0, j1, j2⟩ := hJ1
          have hn : ¬ I p 7 < 12 := fun z => by rw [if_pos z] at g93; omega
          rw [if_neg hn] at j1
          rw [if_neg hn]
          exact ⟨_, rfl, j0.offL, j1, j2⟩
        · refine x_iconst (pc := 96) d8_96 ?_
          refine x_goto (pc := 97) (tgt := 101) d8_97 (by decide) ?_
          refine x_zret (pc := 101) rfl (Or.inr rfl) (fun _ => rfl) d8_101 ?_
          obtain ⟨j0, j1, j2⟩ := hJ1
          have hn : I p 7 < 12 := by
            by_cases z : I p 7 < 12
            · exact z
            · exact absurd (if_neg z) g93
          rw [if_pos hn] at j1
          rw [if_pos hn]
          exact ⟨_, rfl, j0.offL, j1, j2⟩
      · refine x_iconst (pc := 18) d8_18 ?_
        refine x_zret (pc := 19) rfl (Or.inl rfl) (fun _ => rfl) d8_19 ?_
        exfalso; omega
theorem ct_run1 (hl : l.1.stackTraces = false) (hq : 181 ≤ q) (hp : LineAt q p) (hp2 : 136 ≤ p) (h : CINV I p cB) (hX : TXT I T n) {cnt k a b c : Int} (hk0 : 0 ≤ k) (hk1 : k < cnt) (hcnt : cnt ≤ 30) (hc : I 6 0 = cnt) (ha : I 8 k = a) (hb : I 9 k = b) (hcc : I 10 k = c) (hnm : I 7 k = 1) (hr : 1 ≤ a ∧ a ≤ 60) : CT l 8 [.ref 6, .int (iI k), .ref p, .ref 1, .ref 11] (mm q I v fr) 0 0 (oE q v fr (some (.int (iI (b01 (stepC (Vc I p) T 1 a b c).1)))) (fun K => offL p I K ∧ Vc K p = (stepC (Vc I p) T 1 a b c).2 ∧ CX K p)) := by
  have hpb := hp.b
  have hcB : cB = 2450880 := rfl
  have hs := h.sc
  obtain ⟨hn0, hn1⟩ := hX.2.2.1
  obtain ⟨w, hw⟩ : ∃ w : Nat, a = w := ⟨a.toNat, by omega⟩
  have es : stepC (Vc I p) T 1 a b c = if I p 4 ≤ 900000 then (true, (mkS w (Vc I p)).2) else (false, Vc I p) := by rw [← vr7 (I := I) (p := p), show w = a.toNat from by omega]; rfl
  rw [es]
  refine mkct2 hl (by decide) (Nat.le_of_ble_eq_true rfl) (L := [some (.ref 6), some (.int (iI k)), some (.ref p), some (.ref 1), some (.ref 11), none]) rfl ?_
  refine x_iload_n (pc := 0) rfl d8_0 ?_
  refine x_if_lt (pc := 1) (tgt := 18) ⟨by omega, by omega⟩ d8_1 (by decide) (fun g1 => ?_) (fun g1 => ?_)
  · refine x_iconst (pc := 18) d8_18 ?_
    refine x_zret (pc := 19) rfl (Or.inl rfl) (fun _ => rfl) d8_19 ?_
    exfalso; omega
  · refine x_iload_n (pc := 4) rfl d8_4 ?_
    refine x_aload_n (pc := 5) rfl d8_5 ?_
    refine m_getI (pc := 6) (z := 0) f8_24 (by decide +kernel) rfl (ko6 (by omega)) d8_6 ?_
    refine x_val (pc := 9) (w := cnt) (hc) ?_
    refine x_icmp_ge (pc := 9) (tgt := 18) ⟨by omega, by omega⟩ ⟨by omega, by omega⟩ d8_9 (by decide) (fun g9 => ?_) (fun g9 => ?_)
    · refine x_iconst (pc := 18) d8_18 ?_
      refine x_zret (pc := 19) rfl (Or.inl rfl) (fun _ => rfl) d8_19 ?_
      exfalso; omega
    · refine x_iload_n (pc := 12) rfl d8_12 ?_
      refine x_bipush (pc := 13) (by decide) d8_13 ?_
      refine x_icmp_lt (pc := 15) (tgt := 20) ⟨by omega, by omega⟩ ⟨by omega, by omega⟩ d8_15 (by decide) (fun g15 => ?_) (fun g15 => ?_)
      · refine x_aload_n (pc := 20) rfl d8_20 ?_
        refine m_getR (pc := 21) f8_15 (by decide +kernel) (ko6 (by omega)) rr6_2 d8_21 ?_
        refine x_iload_n (pc := 24) rfl d8_24 ?_
        refine m_iald (pc := 25) (ka8 (by omega)) (by omega) (by omega) (by omega) d8_25 ?_
        refine x_val (pc := 26) (w := (w : Int)) (by rw [ha, hw]) ?_
        refine x_istore (pc := 26) (by decide +kernel) rfl d8_26 ?_
        dsimp only [List.set]
        refine x_aload_n (pc := 28) rfl d8_28 ?_
        refine m_getR (pc := 29) f8_9 (by decide +kernel) (ko6 (by omega)) rr6_1 d8_29 ?_
        refine x_iload_n (pc := 32) rfl d8_32 ?_
        refine m_iald (pc := 33) (ka7 (by omega)) (by omega) (by omega) (by omega) d8_33 ?_
        refine x_val (pc := 34) (w := 1) (hnm) ?_
        refine x_tabIn (pc := 34) (tgt := 102) ⟨by omega, by omega⟩ d8_34 (by decide) (by decide) rfl (by decide) ?_
        refine x_aload_n (pc := 102) rfl d8_102 ?_
        refine x_cVs (pc := 103) c8_122 (dt_mayAtt hl hp h (by omega)) hp.o0 rfl rfl (Nat.le_of_ble_eq_true rfl) (by decide +kernel) (by decide +kernel) rfl d8_103 ?_
        refine x_ifB_ne (pc := 106) (tgt := 111) d8_106 (by decide) (fun g106 => ?_) (fun g106 => ?_)
        · refine x_aload_n (pc := 111) rfl d8_111 ?_
          refine x_iload (pc := 112) rfl d8_112 ?_
          refine x_aload (pc := 114) rfl d8_114 ?_
          refine x_cVes (pc := 116) c8_125 (ct_make hl hq hp h (n := w) (by omega) (by omega)) hp.o0 rfl rfl (Nat.le_of_ble_eq_true rfl) (by decide +kernel) (by decide +kernel) d8_116 (fun J1 hJ1 => ?_)
          refine x_pop (pc := 119) rfl d8_119 ?_
          refine x_iconst (pc := 120) d8_120 ?_
          refine x_zret (pc := 121) rfl (Or.inr rfl) (fun _ => rfl) d8_121 ?_
          obtain ⟨j0, j1, j2⟩ := hJ1
          have hn := of_decide_eq_true g106
          rw [if_pos hn]
          exact ⟨_, rfl, j0, j1, j2⟩
        · refine x_iconst (pc := 109) d8_109 ?_
          refine x_zret (pc := 110) rfl (Or.inl rfl) (fun _ => rfl) d8_110 ?_
          have hn := of_decide_eq_false g106
          rw [if_neg hn]
          exact ⟨_, rfl, offL.refl, rfl, h.2⟩
      · refine x_iconst (pc := 18) d8_18 ?_
        refine x_zret (pc := 19) rfl (Or.inl rfl) (fun _ => rfl) d8_19 ?_
        exfalso; omega
theorem ct_run2 (hl : l.1.stackTraces = false) (hq : 181 ≤ q) (hp : LineAt q p) (hp2 : 136 ≤ p) (h : CINV I p cB) (hX : TXT I T n) {cnt k a b c : Int} (hk0 : 0 ≤ k) (hk1 : k < cnt) (hcnt : cnt ≤ 30) (hc : I 6 0 = cnt) (ha : I 8 k = a) (hb : I 9 k = b) (hcc : I 10 k = c) (hnm : I 7 k = 2) (hr : 0 ≤ a ∧ a ≤ 11) : CT l 8 [.ref 6, .int (iI k), .ref p, .ref 1, .ref 11] (mm q I v fr) 0 0 (oE q v fr (some (.int (iI (b01 (stepC (Vc I p) T 2 a b c).1)))) (fun K => offL p I K ∧ Vc K p = (stepC (Vc I p) T 2 a b c).2 ∧ CX K p)) := by
  have hpb := hp.b
  have hcB : cB = 2450880 := rfl
  have hs := h.sc
  obtain ⟨hn0, hn1⟩ := hX.2.2.1
  have es : stepC (Vc I p) T 2 a b c = if stD (Vc I p) a = 0 then (true, (gvA (Vc I p) a).2) else (false, Vc I p) := rfl
  have hgr := gvS_r (A := Vc I p) (g := Vc I p 5 a) ((Vc I p 4 a + 3) / 4).toNat
  have hgb : (gvA (Vc I p) a).1 = (gvS (Vc I p) (Vc I p 5 a) ((Vc I p 4 a + 3) / 4).toNat).1 := rfl
  have hz : stD (Vc I p) a = 0 → (Vc I p 4 a + 3) / 4 ≤ 5 := fun z => by
    have hv := stD_valid (A := Vc I p) (m := a) (by omega)
    have := (h.1.msg a hv.1 hv.2).1
    omega
  rw [es]
  by_cases c0 : stD (Vc I p) a = 0
  · have hgp := gv_pos c0
    have hz := hz c0
    rw [if_pos c0]
    refine mkct2 hl (by decide) (Nat.le_of_ble_eq_true rfl) (L := [some (.ref 6), some (.int (iI k)), some (.ref p), some (.ref 1), some (.ref 11), none]) rfl ?_
    refine x_iload_n (pc := 0) rfl d8_0 ?_
    refine x_if_lt (pc := 1) (tgt := 18) ⟨by omega, by omega⟩ d8_1 (by decide) (fun g1 => ?_) (fun g1 => ?_)
    · refine x_iconst (pc := 18) d8_18 ?_
      refine x_zret (pc := 19) rfl (Or.inl rfl) (fun _ => rfl) d8_19 ?_
      exfalso; omega
    · refine x_iload_n (pc := 4) rfl d8_4 ?_
      refine x_aload_n (pc := 5) rfl d8_5 ?_
      refine m_getI (pc := 6) (z := 0) f8_24 (by decide +kernel) rfl (ko6 (by omega)) d8_6 ?_
      refine x_val (pc := 9) (w := cnt) (hc) ?_
      refine x_icmp_ge (pc := 9) (tgt := 18) ⟨by omega, by omega⟩ ⟨by omega, by omega⟩ d8_9 (by decide) (fun g9 => ?_) (fun g9 => ?_)
      · refine x_iconst (pc := 18) d8_18 ?_
        refine x_zret (pc := 19) rfl (Or.inl rfl) (fun _ => rfl) d8_19 ?_
        exfalso; omega
      · refine x_iload_n (pc := 12) rfl d8_12 ?_
        refine x_bipush (pc := 13) (by decide) d8_13 ?_
        refine x_icmp_lt (pc := 15) (tgt := 20) ⟨by omega, by omega⟩ ⟨by omega, by omega⟩ d8_15 (by decide) (fun g15 => ?_) (fun g15 => ?_)
        · refine x_aload_n (pc := 20) rfl d8_20 ?_
          refine m_getR (pc := 21) f8_15 (by decide +kernel) (ko6 (by omega)) rr6_2 d8_21 ?_
          refine x_iload_n (pc := 24) rfl d8_24 ?_
          refine m_iald (pc := 25) (ka8 (by omega)) (by omega) (by omega) (by omega) d8_25 ?_
          refine x_val (pc := 26) (w := a) (ha) ?_
          refine x_istore (pc := 26) (by decide +kernel) rfl d8_26 ?_
          dsimp only [List.set]
          refine x_aload_n (pc := 28) rfl d8_28 ?_
          refine m_getR (pc := 29) f8_9 (by decide +kernel) (ko6 (by omega)) rr6_1 d8_29 ?_
          refine x_iload_n (pc := 32) rfl d8_32 ?_
          refine m_iald (pc := 33) (ka7 (by omega)) (by omega) (by omega) (by omega) d8_33 ?_
          refine x_val (pc := 34) (w := 2) (hnm) ?_
          refine x_tabIn (pc := 34) (tgt := 122) ⟨by omega, by omega⟩ d8_34 (by decide) (by decide) rfl (by decide) ?_
          refine x_aload_n (pc := 122) rfl d8_122 ?_
          refine x_iload (pc := 123) rfl d8_123 ?_
          refine x_cVes (pc := 125) c8_129 (show CT l 44 [.ref p, .int (iI a)] (mm q I v fr) 0 0 (oE q v fr (some (.int (iI (gvA (Vc I p) a).1))) (fun K => (∀ a, a ≠ p + 9 → K a = I a) ∧ Vc K p = (gvA (Vc I p) a).2)) from by have := ct_give hl hp h (m := a) ⟨by omega, by omega⟩ (v := v) (fr := fr); rw [if_pos c0, if_pos c0] at this; exact this) hp.o0 rfl rfl (Nat.le_of_ble_eq_true rfl) (by decide +kernel) (by decide +kernel) d8_125 (fun J1 hJ1 => ?_)
          refine x_if_le (pc := 128) (tgt := 135) ⟨by omega, by omega⟩ d8_128 (by decide) (fun g128 => ?_) (fun g128 => ?_)
          · refine x_iconst (pc := 135) d8_135 ?_
            refine x_zret (pc := 136) rfl (Or.inl rfl) (fun _ => rfl) d8_136 ?_
            exfalso; omega
          · refine x_iconst (pc := 131) d8_131 ?_
            refine x_goto (pc := 132) (tgt := 136) d8_132 (by decide) ?_
            refine x_zret (pc := 136) rfl (Or.inr rfl) (fun _ => rfl) d8_136 ?_
            obtain ⟨j0, j1⟩ := hJ1
            refine ⟨_, rfl, fun b b0 _ _ _ => j0 b (by omega), j1, ?_⟩
            unfold CX
            rw [j0 (p + 12) (by omega), j0 (p + 13) (by omega), j0 (p + 7) (by omega), j0 (p + 11) (by omega), j0 (p + 10) (by omega), j0 (p + 14) (by omega), j0 p (by omega)]
            exact h.2
        · refine x_iconst (pc := 18) d8_18 ?_
          refine x_zret (pc := 19) rfl (Or.inl rfl) (fun _ => rfl) d8_19 ?_
          exfalso; omega
  · rw [if_neg c0]
    refine mkct2 hl (by decide) (Nat.le_of_ble_eq_true rfl) (L := [some (.ref 6), some (.int (iI k)), some (.ref p), some (.ref 1), some (.ref 11), none]) rfl ?_
    refine x_iload_n (pc := 0) rfl d8_0 ?_
    refine x_if_lt (pc := 1) (tgt := 18) ⟨by omega, by omega⟩ d8_1 (by decide) (fun g1 => ?_) (fun g1 => ?_)
    · refine x_iconst (pc := 18) d8_18 ?_
      refine x_zret (pc := 19) rfl (Or.inl rfl) (fun _ => rfl) d8_19 ?_
      exfalso; omega
    · refine x_iload_n (pc := 4) rfl d8_4 ?_
      refine x_aload_n (pc := 5) rfl d8_5 ?_
      refine m_getI (pc := 6) (z := 0) f8_24 (by decide +kernel) rfl (ko6 (by omega)) d8_6 ?_
      refine x_val (pc := 9) (w := cnt) (hc) ?_
      refine x_icmp_ge (pc := 9) (tgt := 18) ⟨by omega, by omega⟩ ⟨by omega, by omega⟩ d8_9 (by decide) (fun g9 => ?_) (fun g9 => ?_)
      · refine x_iconst (pc := 18) d8_18 ?_
        refine x_zret (pc := 19) rfl (Or.inl rfl) (fun _ => rfl) d8_19 ?_
        exfalso; omega
      · refine x_iload_n (pc := 12) rfl d8_12 ?_
        refine x_bipush (pc := 13) (by decide) d8_13 ?_
        refine x_icmp_lt (pc := 15) (tgt := 20) ⟨by omega, by omega⟩ ⟨by omega, by omega⟩ d8_15 (by decide) (fun g15 => ?_) (fun g15 => ?_)
        · refine x_aload_n (pc := 20) rfl d8_20 ?_
          refine m_getR (pc := 21) f8_15 (by decide +kernel) (ko6 (by omega)) rr6_2 d8_21 ?_
          refine x_iload_n (pc := 24) rfl d8_24 ?_
          refine m_iald (pc := 25) (ka8 (by omega)) (by omega) (by omega) (by omega) d8_25 ?_
          refine x_val (pc := 26) (w := a) (ha) ?_
          refine x_istore (pc := 26) (by decide +kernel) rfl d8_26 ?_
          dsimp only [List.set]
          refine x_aload_n (pc := 28) rfl d8_28 ?_
          refine m_getR (pc := 29) f8_9 (by decide +kernel) (ko6 (by omega)) rr6_1 d8_29 ?_
          refine x_iload_n (pc := 32) rfl d8_32 ?_
          refine m_iald (pc := 33) (ka7 (by omega)) (by omega) (by omega) (by omega) d8_33 ?_
          refine x_val (pc := 34) (w := 2) (hnm) ?_
          refine x_tabIn (pc := 34) (tgt := 122) ⟨by omega, by omega⟩ d8_34 (by decide) (by decide) rfl (by decide) ?_
          refine x_aload_n (pc := 122) rfl d8_122 ?_
          refine x_iload (pc := 123) rfl d8_123 ?_
          refine x_cVes (pc := 125) c8_129 (show CT l 44 [.ref p, .int (iI a)] (mm q I v fr) 0 0 (oE q v fr (some (.int (iI 0))) (fun K => (∀ a, a ≠ p + 9 → K a = I a) ∧ Vc K p = Vc I p)) from by have := ct_give hl hp h (m := a) ⟨by omega, by omega⟩ (v := v) (fr := fr); rw [if_neg c0, if_neg c0] at this; exact this) hp.o0 rfl rfl (Nat.le_of_ble_eq_true rfl) (by decide +kernel) (by decide +kernel) d8_125 (fun J1 hJ1 => ?_)
          refine x_if_le (pc := 128) (tgt := 135) ⟨by omega, by omega⟩ d8_128 (by decide) (fun _ => ?_) (fun z => absurd z (by decide))
          refine x_iconst (pc := 135) d8_135 ?_
          refine x_zret (pc := 136) rfl (Or.inl rfl) (fun _ => rfl) d8_136 ?_
          obtain ⟨j0, j1⟩ := hJ1
          refine ⟨_, rfl, fun b b0 _ _ _ => j0 b (by omega), j1, ?_⟩
          unfold CX
          rw [j0 (p + 12) (by omega), j0 (p + 13) (by omega), j0 (p + 7) (by omega), j0 (p + 11) (by omega), j0 (p + 10) (by omega), j0 (p + 14) (by omega), j0 p (by omega)]
          exact h.2
        · refine x_iconst (pc := 18) d8_18 ?_
          refine x_zret (pc := 19) rfl (Or.inl rfl) (fun _ => rfl) d8_19 ?_
          exfalso; omega
theorem ct_run3 (hl : l.1.stackTraces = false) (hq : 181 ≤ q) (hp : LineAt q p) (hp2 : 136 ≤ p) (h : CINV I p cB) (hX : TXT I T n) {cnt k a b c : Int} (hk0 : 0 ≤ k) (hk1 : k < cnt) (hcnt : cnt ≤ 30) (hc : I 6 0 = cnt) (ha : I 8 k = a) (hb : I 9 k = b) (hcc : I 10 k = c) (hnm : I 7 k = 3) (hr : 0 ≤ a ∧ a ≤ 11) : CT l 8 [.ref 6, .int (iI k), .ref p, .ref 1, .ref 11] (mm q I v fr) 0 0 (oE q v fr (some (.int (iI (b01 (stepC (Vc I p) T 3 a b c).1)))) (fun K => offL p I K ∧ Vc K p = (stepC (Vc I p) T 3 a b c).2 ∧ CX K p)) := by
  have hpb := hp.b
  have hcB : cB = 2450880 := rfl
  have hs := h.sc
  obtain ⟨hn0, hn1⟩ := hX.2.2.1
  have es : stepC (Vc I p) T 3 a b c = if stD (Vc I p) a = 2 ∧ I p 7 < 12 then (true, addA (Vc I p) (txtA (Vc I p) a) (Vc I p 4 a)) else (false, Vc I p) := by rw [← vr5 (I := I) (p := p)]; rfl
  rw [es]
  refine mkct2 hl (by decide) (Nat.le_of_ble_eq_true rfl) (L := [some (.ref 6), some (.int (iI k)), some (.ref p), some (.ref 1), some (.ref 11), none]) rfl ?_
  refine x_iload_n (pc := 0) rfl d8_0 ?_
  refine x_if_lt (pc := 1) (tgt := 18) ⟨by omega, by omega⟩ d8_1 (by decide) (fun g1 => ?_) (fun g1 => ?_)
  · refine x_iconst (pc := 18) d8_18 ?_
    refine x_zret (pc := 19) rfl (Or.inl rfl) (fun _ => rfl) d8_19 ?_
    exfalso; omega
  · refine x_iload_n (pc := 4) rfl d8_4 ?_
    refine x_aload_n (pc := 5) rfl d8_5 ?_
    refine m_getI (pc := 6) (z := 0) f8_24 (by decide +kernel) rfl (ko6 (by omega)) d8_6 ?_
    refine x_val (pc := 9) (w := cnt) (hc) ?_
    refine x_icmp_ge (pc := 9) (tgt := 18) ⟨by omega, by omega⟩ ⟨by omega, by omega⟩ d8_9 (by decide) (fun g9 => ?_) (fun g9 => ?_)
    · refine x_iconst (pc := 18) d8_18 ?_
      refine x_zret (pc := 19) rfl (Or.inl rfl) (fun _ => rfl) d8_19 ?_
      exfalso; omega
    · refine x_iload_n (pc := 12) rfl d8_12 ?_
      refine x_bipush (pc := 13) (by decide) d8_13 ?_
      refine x_icmp_lt (pc := 15) (tgt := 20) ⟨by omega, by omega⟩ ⟨by omega, by omega⟩ d8_15 (by decide) (fun g15 => ?_) (fun g15 => ?_)
      · refine x_aload_n (pc := 20) rfl d8_20 ?_
        refine m_getR (pc := 21) f8_15 (by decide +kernel) (ko6 (by omega)) rr6_2 d8_21 ?_
        refine x_iload_n (pc := 24) rfl d8_24 ?_
        refine m_iald (pc := 25) (ka8 (by omega)) (by omega) (by omega) (by omega) d8_25 ?_
        refine x_val (pc := 26) (w := a) (ha) ?_
        refine x_istore (pc := 26) (by decide +kernel) rfl d8_26 ?_
        dsimp only [List.set]
        refine x_aload_n (pc := 28) rfl d8_28 ?_
        refine m_getR (pc := 29) f8_9 (by decide +kernel) (ko6 (by omega)) rr6_1 d8_29 ?_
        refine x_iload_n (pc := 32) rfl d8_32 ?_
        refine m_iald (pc := 33) (ka7 (by omega)) (by omega) (by omega) (by omega) d8_33 ?_
        refine x_val (pc := 34) (w := 3) (hnm) ?_
        refine x_tabIn (pc := 34) (tgt := 137) ⟨by omega, by omega⟩ d8_34 (by decide) (by decide) rfl (by decide) ?_
        refine x_aload_n (pc := 137) rfl d8_137 ?_
        refine x_iload (pc := 138) rfl d8_138 ?_
        refine x_cVes (pc := 140) c8_133 (ct_again hl hp h (m := a) ⟨by omega, by omega⟩) hp.o0 rfl rfl (Nat.le_of_ble_eq_true rfl) (by decide +kernel) (by decide +kernel) d8_140 (fun J1 hJ1 => ?_)
        refine x_iconst (pc := 143) d8_143 ?_
        refine x_icmp_eq (pc := 144) (tgt := 151) ⟨by omega, by omega⟩ ⟨by omega, by omega⟩ d8_144 (by decide) (fun g144 => ?_) (fun g144 => ?_)
        · refine x_iconst (pc := 151) d8_151 ?_
          refine x_zret (pc := 152) rfl (Or.inl rfl) (fun _ => rfl) d8_152 ?_
          obtain ⟨j0, j1, j2⟩ := hJ1
          have hn : ¬ (stD (Vc I p) a = 2 ∧ I p 7 < 12) := fun z => by rw [if_pos z] at g144; omega
          rw [if_neg hn] at j1
          rw [if_neg hn]
          exact ⟨_, rfl, j0.offL, j1, j2⟩
        · refine x_iconst (pc := 147) d8_147 ?_
          refine x_goto (pc := 148) (tgt := 152) d8_148 (by decide) ?_
          refine x_zret (pc := 152) rfl (Or.inr rfl) (fun _ => rfl) d8_152 ?_
          obtain ⟨j0, j1, j2⟩ := hJ1
          have hn : stD (Vc I p) a = 2 ∧ I p 7 < 12 := by
            by_cases z : stD (Vc I p) a = 2 ∧ I p 7 < 12
            · exact z
            · exact absurd (if_neg z) g144
          rw [if_pos hn] at j1
          rw [if_pos hn]
          exact ⟨_, rfl, j0.offL, j1, j2⟩
      · refine x_iconst (pc := 18) d8_18 ?_
        refine x_zret (pc := 19) rfl (Or.inl rfl) (fun _ => rfl) d8_19 ?_
        exfalso; omega
theorem ct_run4 (hl : l.1.stackTraces = false) (hq : 181 ≤ q) (hp : LineAt q p) (hp2 : 136 ≤ p) (h : CINV I p cB) (hX : TXT I T n) {cnt k a b c : Int} (hk0 : 0 ≤ k) (hk1 : k < cnt) (hcnt : cnt ≤ 30) (hc : I 6 0 = cnt) (ha : I 8 k = a) (hb : I 9 k = b) (hcc : I 10 k = c) (hnm : I 7 k = 4) (hr : 1 ≤ a ∧ a ≤ 999) : CT l 8 [.ref 6, .int (iI k), .ref p, .ref 1, .ref 11] (mm q I v fr) 0 0 (oE q v fr (some (.int (iI (b01 (stepC (Vc I p) T 4 a b c).1)))) (fun K => offL p I K ∧ Vc K p = (stepC (Vc I p) T 4 a b c).2 ∧ CX K p)) := by
  have hpb := hp.b
  have hcB : cB = 2450880 := rfl
  have hs := h.sc
  obtain ⟨hn0, hn1⟩ := hX.2.2.1
  have es : stepC (Vc I p) T 4 a b c = if I p 4 + a ≤ 900000 then (true, waitA (Vc I p) a) else (false, Vc I p) := by rw [← vr7 (I := I) (p := p)]; rfl
  rw [es]
  refine mkct2 hl (by decide) (Nat.le_of_ble_eq_true rfl) (L := [some (.ref 6), some (.int (iI k)), some (.ref p), some (.ref 1), some (.ref 11), none]) rfl ?_
  refine x_iload_n (pc := 0) rfl d8_0 ?_
  refine x_if_lt (pc := 1) (tgt := 18) ⟨by omega, by omega⟩ d8_1 (by decide) (fun g1 => ?_) (fun g1 => ?_)
  · refine x_iconst (pc := 18) d8_18 ?_
    refine x_zret (pc := 19) rfl (Or.inl rfl) (fun _ => rfl) d8_19 ?_
    exfalso; omega
  · refine x_iload_n (pc := 4) rfl d8_4 ?_
    refine x_aload_n (pc := 5) rfl d8_5 ?_
    refine m_getI (pc := 6) (z := 0) f8_24 (by decide +kernel) rfl (ko6 (by omega)) d8_6 ?_
    refine x_val (pc := 9) (w := cnt) (hc) ?_
    refine x_icmp_ge (pc := 9) (tgt := 18) ⟨by omega, by omega⟩ ⟨by omega, by omega⟩ d8_9 (by decide) (fun g9 => ?_) (fun g9 => ?_)
    · refine x_iconst (pc := 18) d8_18 ?_
      refine x_zret (pc := 19) rfl (Or.inl rfl) (fun _ => rfl) d8_19 ?_
      exfalso; omega
    · refine x_iload_n (pc := 12) rfl d8_12 ?_
      refine x_bipush (pc := 13) (by decide) d8_13 ?_
      refine x_icmp_lt (pc := 15) (tgt := 20) ⟨by omega, by omega⟩ ⟨by omega, by omega⟩ d8_15 (by decide) (fun g15 => ?_) (fun g15 => ?_)
      · refine x_aload_n (pc := 20) rfl d8_20 ?_
        refine m_getR (pc := 21) f8_15 (by decide +kernel) (ko6 (by omega)) rr6_2 d8_21 ?_
        refine x_iload_n (pc := 24) rfl d8_24 ?_
        refine m_iald (pc := 25) (ka8 (by omega)) (by omega) (by omega) (by omega) d8_25 ?_
        refine x_val (pc := 26) (w := a) (ha) ?_
        refine x_istore (pc := 26) (by decide +kernel) rfl d8_26 ?_
        dsimp only [List.set]
        refine x_aload_n (pc := 28) rfl d8_28 ?_
        refine m_getR (pc := 29) f8_9 (by decide +kernel) (ko6 (by omega)) rr6_1 d8_29 ?_
        refine x_iload_n (pc := 32) rfl d8_32 ?_
        refine m_iald (pc := 33) (ka7 (by omega)) (by omega) (by omega) (by omega) d8_33 ?_
        refine x_val (pc := 34) (w := 4) (hnm) ?_
        refine x_tabIn (pc := 34) (tgt := 153) ⟨by omega, by omega⟩ d8_34 (by decide) (by decide) rfl (by decide) ?_
        refine x_aload_n (pc := 153) rfl d8_153 ?_
        refine x_iload (pc := 154) rfl d8_154 ?_
        refine x_cVes (pc := 156) c8_136 (ct_letPass hl hp h (by omega) (t := a) (by omega) (by omega)) hp.o0 rfl rfl (Nat.le_of_ble_eq_true rfl) (by decide +kernel) (by decide +kernel) d8_156 (fun J1 hJ1 => ?_)
        refine x_zret (pc := 159) rfl (b01_or _) (fun _ => rfl) d8_159 ?_
        obtain ⟨j0, j1, j2⟩ := hJ1
        by_cases hn : I p 4 + a ≤ 900000
        · rw [if_pos hn] at j1
          rw [if_pos hn, decide_eq_true hn]
          exact ⟨_, rfl, j0.offL, j1, j2⟩
        · rw [if_neg hn] at j1
          rw [if_neg hn, decide_eq_false hn]
          exact ⟨_, rfl, j0.offL, j1, j2⟩
      · refine x_iconst (pc := 18) d8_18 ?_
        refine x_zret (pc := 19) rfl (Or.inl rfl) (fun _ => rfl) d8_19 ?_
        exfalso; omega
theorem ct_run5 (hl : l.1.stackTraces = false) (hq : 181 ≤ q) (hp : LineAt q p) (hp2 : 136 ≤ p) (h : CINV I p cB) (hX : TXT I T n) {cnt k a b c : Int} (hk0 : 0 ≤ k) (hk1 : k < cnt) (hcnt : cnt ≤ 30) (hc : I 6 0 = cnt) (ha : I 8 k = a) (hb : I 9 k = b) (hcc : I 10 k = c) (hnm : I 7 k = 5) (hr : 1 ≤ a ∧ a ≤ 199) : CT l 8 [.ref 6, .int (iI k), .ref p, .ref 1, .ref 11] (mm q I v fr) 0 0 (oE q v fr (some (.int (iI (b01 (stepC (Vc I p) T 5 a b c).1)))) (fun K => offL p I K ∧ Vc K p = (stepC (Vc I p) T 5 a b c).2 ∧ CX K p)) := by
  have hpb := hp.b
  have hcB : cB = 2450880 := rfl
  have hs := h.sc
  obtain ⟨hn0, hn1⟩ := hX.2.2.1
  have es : stepC (Vc I p) T 5 a b c = (true, up2 (Vc I p) 0 1 (a - 100)) := rfl
  rw [es]
  refine mkct2 hl (by decide) (Nat.le_of_ble_eq_true rfl) (L := [some (.ref 6), some (.int (iI k)), some (.ref p), some (.ref 1), some (.ref 11), none]) rfl ?_
  refine x_iload_n (pc := 0) rfl d8_0 ?_
  refine x_if_lt (pc := 1) (tgt := 18) ⟨by omega, by omega⟩ d8_1 (by decide) (fun g1 => ?_) (fun g1 => ?_)
  · refine x_iconst (pc := 18) d8_18 ?_
    refine x_zret (pc := 19) rfl (Or.inl rfl) (fun _ => rfl) d8_19 ?_
    exfalso; omega
  · refine x_iload_n (pc := 4) rfl d8_4 ?_
    refine x_aload_n (pc := 5) rfl d8_5 ?_
    refine m_getI (pc := 6) (z := 0) f8_24 (by decide +kernel) rfl (ko6 (by omega)) d8_6 ?_
    refine x_val (pc := 9) (w := cnt) (hc) ?_
    refine x_icmp_ge (pc := 9) (tgt := 18) ⟨by omega, by omega⟩ ⟨by omega, by omega⟩ d8_9 (by decide) (fun g9 => ?_) (fun g9 => ?_)
    · refine x_iconst (pc := 18) d8_18 ?_
      refine x_zret (pc := 19) rfl (Or.inl rfl) (fun _ => rfl) d8_19 ?_
      exfalso; omega
    · refine x_iload_n (pc := 12) rfl d8_12 ?_
      refine x_bipush (pc := 13) (by decide) d8_13 ?_
      refine x_icmp_lt (pc := 15) (tgt := 20) ⟨by omega, by omega⟩ ⟨by omega, by omega⟩ d8_15 (by decide) (fun g15 => ?_) (fun g15 => ?_)
      · refine x_aload_n (pc := 20) rfl d8_20 ?_
        refine m_getR (pc := 21) f8_15 (by decide +kernel) (ko6 (by omega)) rr6_2 d8_21 ?_
        refine x_iload_n (pc := 24) rfl d8_24 ?_
        refine m_iald (pc := 25) (ka8 (by omega)) (by omega) (by omega) (by omega) d8_25 ?_
        refine x_val (pc := 26) (w := a) (ha) ?_
        refine x_istore (pc := 26) (by decide +kernel) rfl d8_26 ?_
        dsimp only [List.set]
        refine x_aload_n (pc := 28) rfl d8_28 ?_
        refine m_getR (pc := 29) f8_9 (by decide +kernel) (ko6 (by omega)) rr6_1 d8_29 ?_
        refine x_iload_n (pc := 32) rfl d8_32 ?_
        refine m_iald (pc := 33) (ka7 (by omega)) (by omega) (by omega) (by omega) d8_33 ?_
        refine x_val (pc := 34) (w := 5) (hnm) ?_
        refine x_tabIn (pc := 34) (tgt := 160) ⟨by omega, by omega⟩ d8_34 (by decide) (by decide) rfl (by decide) ?_
        refine x_aload_n (pc := 160) rfl d8_160 ?_
        refine x_iload (pc := 161) rfl d8_161 ?_
        refine x_bipush (pc := 163) (by decide) d8_163 ?_
        refine x_isub (pc := 165) d8_165 ?_
        refine m_putI (pc := 166) (z := 1) f8_139 (by decide +kernel) (by decide +kernel) rfl hp.o0 d8_166 ?_
        refine x_iconst (pc := 169) d8_169 ?_
        refine x_zret (pc := 170) rfl (Or.inr rfl) (fun _ => rfl) d8_170 ?_
        exact ⟨_, rfl, fun b b0 _ _ _ => up2_off' _ _ _ (by omega), vw1, h.2.up (by omega) (by omega) (fun _ => by decide)⟩
      · refine x_iconst (pc := 18) d8_18 ?_
        refine x_zret (pc := 19) rfl (Or.inl rfl) (fun _ => rfl) d8_19 ?_
        exfalso; omega
theorem ct_run6 (hl : l.1.stackTraces = false) (hq : 181 ≤ q) (hp : LineAt q p) (hp2 : 136 ≤ p) (h : CINV I p cB) (hX : TXT I T n) {cnt k a b c : Int} (hk0 : 0 ≤ k) (hk1 : k < cnt) (hcnt : cnt ≤ 30) (hc : I 6 0 = cnt) (ha : I 8 k = a) (hb : I 9 k = b) (hcc : I 10 k = c) (hnm : I 7 k = 6) (hr : (2 ≤ a ∧ a ≤ 999) ∧ (1 ≤ b ∧ b < a) ∧ (0 ≤ c ∧ c ≤ 999)) : CT l 8 [.ref 6, .int (iI k), .ref p, .ref 1, .ref 11] (mm q I v fr) 0 0 (oE q v fr (some (.int (iI (b01 (stepC (Vc I p) T 6 a b c).1)))) (fun K => offL p I K ∧ Vc K p = (stepC (Vc I p) T 6 a b c).2 ∧ CX K p)) := by
  have hpb := hp.b
  have hcB : cB = 2450880 := rfl
  have hs := h.sc
  obtain ⟨hn0, hn1⟩ := hX.2.2.1
  have es : stepC (Vc I p) T 6 a b c = if I (p + 3) 0 < 3 then (true, dogA (Vc I p) a b c) else (false, Vc I p) := by rw [← vr4 (I := I) (p := p)]; rfl
  rw [es]
  by_cases c0 : I (p + 3) 0 < 3
  · rw [if_pos c0]
    refine mkct2 hl (by decide) (Nat.le_of_ble_eq_true rfl) (L := [some (.ref 6), some (.int (iI k)), some (.ref p), some (.ref 1), some (.ref 11), none]) rfl ?_
    refine x_iload_n (pc := 0) rfl d8_0 ?_
    refine x_if_lt (pc := 1) (tgt := 18) ⟨by omega, by omega⟩ d8_1 (by decide) (fun g1 => ?_) (fun g1 => ?_)
    · refine x_iconst (pc := 18) d8_18 ?_
      refine x_zret (pc := 19) rfl (Or.inl rfl) (fun _ => rfl) d8_19 ?_
      exfalso; omega
    · refine x_iload_n (pc := 4) rfl d8_4 ?_
      refine x_aload_n (pc := 5) rfl d8_5 ?_
      refine m_getI (pc := 6) (z := 0) f8_24 (by decide +kernel) rfl (ko6 (by omega)) d8_6 ?_
      refine x_val (pc := 9) (w := cnt) (hc) ?_
      refine x_icmp_ge (pc := 9) (tgt := 18) ⟨by omega, by omega⟩ ⟨by omega, by omega⟩ d8_9 (by decide) (fun g9 => ?_) (fun g9 => ?_)
      · refine x_iconst (pc := 18) d8_18 ?_
        refine x_zret (pc := 19) rfl (Or.inl rfl) (fun _ => rfl) d8_19 ?_
        exfalso; omega
      · refine x_iload_n (pc := 12) rfl d8_12 ?_
        refine x_bipush (pc := 13) (by decide) d8_13 ?_
        refine x_icmp_lt (pc := 15) (tgt := 20) ⟨by omega, by omega⟩ ⟨by omega, by omega⟩ d8_15 (by decide) (fun g15 => ?_) (fun g15 => ?_)
        · refine x_aload_n (pc := 20) rfl d8_20 ?_
          refine m_getR (pc := 21) f8_15 (by decide +kernel) (ko6 (by omega)) rr6_2 d8_21 ?_
          refine x_iload_n (pc := 24) rfl d8_24 ?_
          refine m_iald (pc := 25) (ka8 (by omega)) (by omega) (by omega) (by omega) d8_25 ?_
          refine x_val (pc := 26) (w := a) (ha) ?_
          refine x_istore (pc := 26) (by decide +kernel) rfl d8_26 ?_
          dsimp only [List.set]
          refine x_aload_n (pc := 28) rfl d8_28 ?_
          refine m_getR (pc := 29) f8_9 (by decide +kernel) (ko6 (by omega)) rr6_1 d8_29 ?_
          refine x_iload_n (pc := 32) rfl d8_32 ?_
          refine m_iald (pc := 33) (ka7 (by omega)) (by omega) (by omega) (by omega) d8_33 ?_
          refine x_val (pc := 34) (w := 6) (hnm) ?_
          refine x_tabIn (pc := 34) (tgt := 171) ⟨by omega, by omega⟩ d8_34 (by decide) (by decide) rfl (by decide) ?_
          refine x_aload_n (pc := 171) rfl d8_171 ?_
          refine m_getR (pc := 172) f8_142 (by decide +kernel) hp.o0 hp.r0_10 d8_172 ?_
          refine x_iload (pc := 175) rfl d8_175 ?_
          refine x_aload_n (pc := 177) rfl d8_177 ?_
          refine m_getR (pc := 178) f8_18 (by decide +kernel) (ko6 (by omega)) rr6_3 d8_178 ?_
          refine x_iload_n (pc := 181) rfl d8_181 ?_
          refine m_iald (pc := 182) (ka9 (by omega)) (by omega) (by omega) (by omega) d8_182 ?_
          refine x_val (pc := 183) (w := b) (hb) ?_
          refine x_aload_n (pc := 183) rfl d8_183 ?_
          refine m_getR (pc := 184) f8_21 (by decide +kernel) (ko6 (by omega)) rr6_4 d8_184 ?_
          refine x_iload_n (pc := 187) rfl d8_187 ?_
          refine m_iald (pc := 188) (ka10 (by omega)) (by omega) (by omega) (by omega) d8_188 ?_
          refine x_val (pc := 189) (w := c) (hcc) ?_
          refine x_cVs (pc := 189) c8_146 (dt_dogAdd hl hp (by omega) (by omega)) hp.o3 rfl rfl (Nat.le_of_ble_eq_true rfl) (by decide +kernel) (by decide +kernel) rfl d8_189 ?_
          refine x_zret (pc := 192) rfl (Or.inr rfl) (fun _ => rfl) d8_192 ?_
          exact ⟨_, rfl, fun b b0 _ _ _ => by rw [up2_off' _ _ _ (by omega), up2_off' _ _ _ (by omega), up2_off' _ _ _ (by omega), up2_off' _ _ _ (by omega)], vc_dog (by omega), (((h.2.up (by omega) (by omega) (by omega)).up (by omega) (by omega) (by omega)).up (by omega) (by omega) (by omega)).up (by omega) (by omega) (by omega)⟩
        · refine x_iconst (pc := 18) d8_18 ?_
          refine x_zret (pc := 19) rfl (Or.inl rfl) (fun _ => rfl) d8_19 ?_
          exfalso; omega
  · rw [if_neg c0]
    refine mkct2 hl (by decide) (Nat.le_of_ble_eq_true rfl) (L := [some (.ref 6), some (.int (iI k)), some (.ref p), some (.ref 1), some (.ref 11), none]) rfl ?_
    refine x_iload_n (pc := 0) rfl d8_0 ?_
    refine x_if_lt (pc := 1) (tgt := 18) ⟨by omega, by omega⟩ d8_1 (by decide) (fun g1 => ?_) (fun g1 => ?_)
    · refine x_iconst (pc := 18) d8_18 ?_
      refine x_zret (pc := 19) rfl (Or.inl rfl) (fun _ => rfl) d8_19 ?_
      exfalso; omega
    · refine x_iload_n (pc := 4) rfl d8_4 ?_
      refine x_aload_n (pc := 5) rfl d8_5 ?_
      refine m_getI (pc := 6) (z := 0) f8_24 (by decide +kernel) rfl (ko6 (by omega)) d8_6 ?_
      refine x_val (pc := 9) (w := cnt) (hc) ?_
      refine x_icmp_ge (pc := 9) (tgt := 18) ⟨by omega, by omega⟩ ⟨by omega, by omega⟩ d8_9 (by decide) (fun g9 => ?_) (fun g9 => ?_)
      · refine x_iconst (pc := 18) d8_18 ?_
        refine x_zret (pc := 19) rfl (Or.inl rfl) (fun _ => rfl) d8_19 ?_
        exfalso; omega
      · refine x_iload_n (pc := 12) rfl d8_12 ?_
        refine x_bipush (pc := 13) (by decide) d8_13 ?_
        refine x_icmp_lt (pc := 15) (tgt := 20) ⟨by omega, by omega⟩ ⟨by omega, by omega⟩ d8_15 (by decide) (fun g15 => ?_) (fun g15 => ?_)
        · refine x_aload_n (pc := 20) rfl d8_20 ?_
          refine m_getR (pc := 21) f8_15 (by decide +kernel) (ko6 (by omega)) rr6_2 d8_21 ?_
          refine x_iload_n (pc := 24) rfl d8_24 ?_
          refine m_iald (pc := 25) (ka8 (by omega)) (by omega) (by omega) (by omega) d8_25 ?_
          refine x_val (pc := 26) (w := a) (ha) ?_
          refine x_istore (pc := 26) (by decide +kernel) rfl d8_26 ?_
          dsimp only [List.set]
          refine x_aload_n (pc := 28) rfl d8_28 ?_
          refine m_getR (pc := 29) f8_9 (by decide +kernel) (ko6 (by omega)) rr6_1 d8_29 ?_
          refine x_iload_n (pc := 32) rfl d8_32 ?_
          refine m_iald (pc := 33) (ka7 (by omega)) (by omega) (by omega) (by omega) d8_33 ?_
          refine x_val (pc := 34) (w := 6) (hnm) ?_
          refine x_tabIn (pc := 34) (tgt := 171) ⟨by omega, by omega⟩ d8_34 (by decide) (by decide) rfl (by decide) ?_
          refine x_aload_n (pc := 171) rfl d8_171 ?_
          refine m_getR (pc := 172) f8_142 (by decide +kernel) hp.o0 hp.r0_10 d8_172 ?_
          refine x_iload (pc := 175) rfl d8_175 ?_
          refine x_aload_n (pc := 177) rfl d8_177 ?_
          refine m_getR (pc := 178) f8_18 (by decide +kernel) (ko6 (by omega)) rr6_3 d8_178 ?_
          refine x_iload_n (pc := 181) rfl d8_181 ?_
          refine m_iald (pc := 182) (ka9 (by omega)) (by omega) (by omega) (by omega) d8_182 ?_
          refine x_val (pc := 183) (w := b) (hb) ?_
          refine x_aload_n (pc := 183) rfl d8_183 ?_
          refine m_getR (pc := 184) f8_21 (by decide +kernel) (ko6 (by omega)) rr6_4 d8_184 ?_
          refine x_iload_n (pc := 187) rfl d8_187 ?_
          refine m_iald (pc := 188) (ka10 (by omega)) (by omega) (by omega) (by omega) d8_188 ?_
          refine x_val (pc := 189) (w := c) (hcc) ?_
          refine x_cVs (pc := 189) c8_146 (dt_dogFull hl hp (by omega)) hp.o3 rfl rfl (Nat.le_of_ble_eq_true rfl) (by decide +kernel) (by decide +kernel) rfl d8_189 ?_
          refine x_zret (pc := 192) rfl (Or.inl rfl) (fun _ => rfl) d8_192 ?_
          exact ⟨_, rfl, offL.refl, rfl, h.2⟩
        · refine x_iconst (pc := 18) d8_18 ?_
          refine x_zret (pc := 19) rfl (Or.inl rfl) (fun _ => rfl) d8_19 ?_
          exfalso; omega
theorem ct_run7 (hl : l.1.stackTraces = false) (hq : 181 ≤ q) (hp : LineAt q p) (hp2 : 136 ≤ p) (h : CINV I p cB) (hX : TXT I T n) {cnt k a b c : Int} (hk0 : 0 ≤ k) (hk1 : k < cnt) (hcnt : cnt ≤ 30) (hc : I 6 0 = cnt) (ha : I 8 k = a) (hb : I 9 k = b) (hcc : I 10 k = c) (hnm : I 7 k = 7) (hr : 0 ≤ a ∧ a ≤ 2) : CT l 8 [.ref 6, .int (iI k), .ref p, .ref 1, .ref 11] (mm q I v fr) 0 0 (oE q v fr (some (.int (iI (b01 (stepC (Vc I p) T 7 a b c).1)))) (fun K => offL p I K ∧ Vc K p = (stepC (Vc I p) T 7 a b c).2 ∧ CX K p)) := by
  have hpb := hp.b
  have hcB : cB = 2450880 := rfl
  have hs := h.sc
  obtain ⟨hn0, hn1⟩ := hX.2.2.1
  have es : stepC (Vc I p) T 7 a b c = if a < I (p + 3) 0 then (true, rmA (Vc I p) a) else (false, Vc I p) := by rw [← vr4 (I := I) (p := p)]; rfl
  rw [es]
  by_cases c0 : a < I (p + 3) 0
  · rw [if_pos c0]
    refine mkct2 hl (by decide) (Nat.le_of_ble_eq_true rfl) (L := [some (.ref 6), some (.int (iI k)), some (.ref p), some (.ref 1), some (.ref 11), none]) rfl ?_
    refine x_iload_n (pc := 0) rfl d8_0 ?_
    refine x_if_lt (pc := 1) (tgt := 18) ⟨by omega, by omega⟩ d8_1 (by decide) (fun g1 => ?_) (fun g1 => ?_)
    · refine x_iconst (pc := 18) d8_18 ?_
      refine x_zret (pc := 19) rfl (Or.inl rfl) (fun _ => rfl) d8_19 ?_
      exfalso; omega
    · refine x_iload_n (pc := 4) rfl d8_4 ?_
      refine x_aload_n (pc := 5) rfl d8_5 ?_
      refine m_getI (pc := 6) (z := 0) f8_24 (by decide +kernel) rfl (ko6 (by omega)) d8_6 ?_
      refine x_val (pc := 9) (w := cnt) (hc) ?_
      refine x_icmp_ge (pc := 9) (tgt := 18) ⟨by omega, by omega⟩ ⟨by omega, by omega⟩ d8_9 (by decide) (fun g9 => ?_) (fun g9 => ?_)
      · refine x_iconst (pc := 18) d8_18 ?_
        refine x_zret (pc := 19) rfl (Or.inl rfl) (fun _ => rfl) d8_19 ?_
        exfalso; omega
      · refine x_iload_n (pc := 12) rfl d8_12 ?_
        refine x_bipush (pc := 13) (by decide) d8_13 ?_
        refine x_icmp_lt (pc := 15) (tgt := 20) ⟨by omega, by omega⟩ ⟨by omega, by omega⟩ d8_15 (by decide) (fun g15 => ?_) (fun g15 => ?_)
        · refine x_aload_n (pc := 20) rfl d8_20 ?_
          refine m_getR (pc := 21) f8_15 (by decide +kernel) (ko6 (by omega)) rr6_2 d8_21 ?_
          refine x_iload_n (pc := 24) rfl d8_24 ?_
          refine m_iald (pc := 25) (ka8 (by omega)) (by omega) (by omega) (by omega) d8_25 ?_
          refine x_val (pc := 26) (w := a) (ha) ?_
          refine x_istore (pc := 26) (by decide +kernel) rfl d8_26 ?_
          dsimp only [List.set]
          refine x_aload_n (pc := 28) rfl d8_28 ?_
          refine m_getR (pc := 29) f8_9 (by decide +kernel) (ko6 (by omega)) rr6_1 d8_29 ?_
          refine x_iload_n (pc := 32) rfl d8_32 ?_
          refine m_iald (pc := 33) (ka7 (by omega)) (by omega) (by omega) (by omega) d8_33 ?_
          refine x_val (pc := 34) (w := 7) (hnm) ?_
          refine x_tabOut (pc := 34) (tgt := 193) ⟨by omega, by omega⟩ d8_34 (by decide) (by decide) ?_
          refine x_aload_n (pc := 193) rfl d8_193 ?_
          refine m_getR (pc := 194) f8_142 (by decide +kernel) hp.o0 hp.r0_10 d8_194 ?_
          refine x_iload (pc := 197) rfl d8_197 ?_
          refine x_cVes (pc := 199) c8_151 (ct_rm hl hp h (d := a) (by omega) c0) hp.o3 rfl rfl (Nat.le_of_ble_eq_true rfl) (by decide +kernel) (by decide +kernel) d8_199 (fun J1 hJ1 => ?_)
          refine x_zret (pc := 202) rfl (Or.inr rfl) (fun _ => rfl) d8_202 ?_
          obtain ⟨j0, j1, j2, j3, j4⟩ := hJ1
          exact ⟨_, rfl, fun b b0 _ _ _ => j0 b (by omega) (by omega) (by omega) (by omega), vc_rm hr.1 c0 j0 j1 j2 j3 j4, cx_rm h.2 j0⟩
        · refine x_iconst (pc := 18) d8_18 ?_
          refine x_zret (pc := 19) rfl (Or.inl rfl) (fun _ => rfl) d8_19 ?_
          exfalso; omega
  · rw [if_neg c0]
    refine mkct2 hl (by decide) (Nat.le_of_ble_eq_true rfl) (L := [some (.ref 6), some (.int (iI k)), some (.ref p), some (.ref 1), some (.ref 11), none]) rfl ?_
    refine x_iload_n (pc := 0) rfl d8_0 ?_
    refine x_if_lt (pc := 1) (tgt := 18) ⟨by omega, by omega⟩ d8_1 (by decide) (fun g1 => ?_) (fun g1 => ?_)
    · refine x_iconst (pc := 18) d8_18 ?_
      refine x_zret (pc := 19) rfl (Or.inl rfl) (fun _ => rfl) d8_19 ?_
      exfalso; omega
    · refine x_iload_n (pc := 4) rfl d8_4 ?_
      refine x_aload_n (pc := 5) rfl d8_5 ?_
      refine m_getI (pc := 6) (z := 0) f8_24 (by decide +kernel) rfl (ko6 (by omega)) d8_6 ?_
      refine x_val (pc := 9) (w := cnt) (hc) ?_
      refine x_icmp_ge (pc := 9) (tgt := 18) ⟨by omega, by omega⟩ ⟨by omega, by omega⟩ d8_9 (by decide) (fun g9 => ?_) (fun g9 => ?_)
      · refine x_iconst (pc := 18) d8_18 ?_
        refine x_zret (pc := 19) rfl (Or.inl rfl) (fun _ => rfl) d8_19 ?_
        exfalso; omega
      · refine x_iload_n (pc := 12) rfl d8_12 ?_
        refine x_bipush (pc := 13) (by decide) d8_13 ?_
        refine x_icmp_lt (pc := 15) (tgt := 20) ⟨by omega, by omega⟩ ⟨by omega, by omega⟩ d8_15 (by decide) (fun g15 => ?_) (fun g15 => ?_)
        · refine x_aload_n (pc := 20) rfl d8_20 ?_
          refine m_getR (pc := 21) f8_15 (by decide +kernel) (ko6 (by omega)) rr6_2 d8_21 ?_
          refine x_iload_n (pc := 24) rfl d8_24 ?_
          refine m_iald (pc := 25) (ka8 (by omega)) (by omega) (by omega) (by omega) d8_25 ?_
          refine x_val (pc := 26) (w := a) (ha) ?_
          refine x_istore (pc := 26) (by decide +kernel) rfl d8_26 ?_
          dsimp only [List.set]
          refine x_aload_n (pc := 28) rfl d8_28 ?_
          refine m_getR (pc := 29) f8_9 (by decide +kernel) (ko6 (by omega)) rr6_1 d8_29 ?_
          refine x_iload_n (pc := 32) rfl d8_32 ?_
          refine m_iald (pc := 33) (ka7 (by omega)) (by omega) (by omega) (by omega) d8_33 ?_
          refine x_val (pc := 34) (w := 7) (hnm) ?_
          refine x_tabOut (pc := 34) (tgt := 193) ⟨by omega, by omega⟩ d8_34 (by decide) (by decide) ?_
          refine x_aload_n (pc := 193) rfl d8_193 ?_
          refine m_getR (pc := 194) f8_142 (by decide +kernel) hp.o0 hp.r0_10 d8_194 ?_
          refine x_iload (pc := 197) rfl d8_197 ?_
          refine x_cVs (pc := 199) c8_151 (dt_rmNo hl hp h (d := a) ⟨by omega, by omega⟩ (by omega)) hp.o3 rfl rfl (Nat.le_of_ble_eq_true rfl) (by decide +kernel) (by decide +kernel) rfl d8_199 ?_
          refine x_zret (pc := 202) rfl (Or.inl rfl) (fun _ => rfl) d8_202 ?_
          exact ⟨_, rfl, offL.refl, rfl, h.2⟩
        · refine x_iconst (pc := 18) d8_18 ?_
          refine x_zret (pc := 19) rfl (Or.inl rfl) (fun _ => rfl) d8_19 ?_
          exfalso; omega
/-- Commands.run -/
theorem ct_run (hl : l.1.stackTraces = false) (hq : 181 ≤ q) (hp : LineAt q p) (hp2 : 136 ≤ p) (h : CINV I p cB) (hX : TXT I T n) {cnt : Int} {C : AV} (hC : CMOK n cnt C) (hI : CMI I cnt C) (hcnt : cnt ≤ 30) {k : Int} (hk0 : 0 ≤ k) (hk1 : k < cnt) : CT l 8 [.ref 6, .int (iI k), .ref p, .ref 1, .ref 11] (mm q I v fr) 0 0 (oE q v fr (some (.int (iI (b01 (stepC (Vc I p) T (C 0 k) (C 1 k) (C 2 k) (C 3 k)).1)))) (fun K => offL p I K ∧ Vc K p = (stepC (Vc I p) T (C 0 k) (C 1 k) (C 2 k) (C 3 k)).2 ∧ CX K p)) := by
  obtain ⟨i7, i8, i9, i10⟩ := hI.2 k hk0 hk1
  obtain ⟨m0, m1, m6, m9⟩ := hC k hk0 hk1
  obtain ⟨nm, hnm⟩ : ∃ z, z = C 0 k := ⟨_, rfl⟩
  rw [← hnm] at i7 m0 m1 m6 m9 ⊢
  have : nm = 0 ∨ nm = 1 ∨ nm = 2 ∨ nm = 3 ∨ nm = 4 ∨ nm = 5 ∨ nm = 6 ∨ nm = 7 := by omega
  rcases this with rfl | rfl | rfl | rfl | rfl | rfl | rfl | rfl
  · exact ct_run0 hl hq hp hp2 h hX hk0 hk1 hcnt hI.1 i8 i9 i10 i7 (m1 rfl)
  · exact ct_run1 hl hq hp hp2 h hX hk0 hk1 hcnt hI.1 i8 i9 i10 i7 ⟨(m9 (by decide) (by decide)).1, (m9 (by decide) (by decide)).2.1⟩
  · exact ct_run2 hl hq hp hp2 h hX hk0 hk1 hcnt hI.1 i8 i9 i10 i7 ⟨(m9 (by decide) (by decide)).1, (m9 (by decide) (by decide)).2.1⟩
  · exact ct_run3 hl hq hp hp2 h hX hk0 hk1 hcnt hI.1 i8 i9 i10 i7 ⟨(m9 (by decide) (by decide)).1, (m9 (by decide) (by decide)).2.1⟩
  · exact ct_run4 hl hq hp hp2 h hX hk0 hk1 hcnt hI.1 i8 i9 i10 i7 ⟨(m9 (by decide) (by decide)).1, (m9 (by decide) (by decide)).2.1⟩
  · exact ct_run5 hl hq hp hp2 h hX hk0 hk1 hcnt hI.1 i8 i9 i10 i7 ⟨(m9 (by decide) (by decide)).1, (m9 (by decide) (by decide)).2.1⟩
  · exact ct_run6 hl hq hp hp2 h hX hk0 hk1 hcnt hI.1 i8 i9 i10 i7 (m6 rfl)
  · exact ct_run7 hl hq hp hp2 h hX hk0 hk1 hcnt hI.1 i8 i9 i10 i7 ⟨(m9 (by decide) (by decide)).1, (m9 (by decide) (by decide)).2.1⟩
end Step
