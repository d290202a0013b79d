/-! ===== what a text says ===== -/
def splZ (T : Int → Int) (n s k e : Int) (i : Nat) : Bool := decide (k = 1) && decide (e - s = ksLen i) && allD (ksLen i) (fun j => decide (atT T n (s + j) = tB i j))
def dvN (T : Int → Int) (s : Int) : Nat → Int
  | 0 => 0
  | m + 1 => dvN T s m * 10 + T (s + m) - 48
/-- results: the error's code, 0 if there is none; where it is; else what is read -/
def pbind {α β : Type} (r : Int × Int × α) (d : β) (f : α → Int × Int × β) : Int × Int × β := if r.1 = 0 then f r.2.2 else (r.1, r.2.1, d)
theorem pbind_ok {α β : Type} {r : Int × Int × α} {d : β} {f : α → Int × Int × β} (h : r.1 = 0) : pbind r d f = f r.2.2 := if_pos h
theorem pbind_no {α β : Type} {r : Int × Int × α} {d : β} {f : α → Int × Int × β} (h : r.1 ≠ 0) : pbind r d f = (r.1, r.2.1, d) := if_neg h
/-- a number of lo to hi behind e, and where it ends -/
def numP (T : Int → Int) (n lo hi e : Int) : Int × Int × Int × Int :=
  if tK T n e ≠ 2 ∨ 3 < tE T n e - tS T n e then (1, tS T n e, 0, 0)
  else if dvN T (tS T n e) (tE T n e - tS T n e).toNat < lo ∨ hi < dvN T (tS T n e) (tE T n e - tS T n e).toNat then (2, tS T n e, 0, 0)
  else (0, 0, dvN T (tS T n e) (tE T n e - tS T n e).toNat, tE T n e)
def semP (T : Int → Int) (n e : Int) : Int × Int × Int := if tK T n e = 3 then (0, 0, tE T n e) else (1, tS T n e, 0)
def dogP (T : Int → Int) (n e : Int) : Int × Int × Int × Int × Int × Int :=
  pbind (numP T n 2 999 e) (0, 0, 0, 0) fun a => pbind (numP T n 1 (a.1 - 1) a.2) (0, 0, 0, 0) fun b => pbind (numP T n 0 999 b.2) (0, 0, 0, 0) fun c => (0, 0, a.1, b.1, c.1, c.2)
theorem rnN_k {T : Int → Int} {n k : Int} : ∀ (m : Nat) (e i : Int), e ≤ i → i < rnN T n k m e → kdZ (T i) = k
  | 0, e, i, h0, h1 => by exfalso; have : i < e := h1; omega
  | m + 1, e, i, h0, h1 => by
    unfold rnN at h1
    split at h1
    · rename_i hc
      by_cases h : i = e
      · rw [h]; exact hc.2
      · exact rnN_k m (e + 1) i (by omega) h1
    · omega
/-- the bytes of a word, of a number -/
theorem tok_k {T : Int → Int} {n e i : Int} (h1 : e ≤ n) (h0 : 0 ≤ e) (hk : tK T n e = 1 ∨ tK T n e = 2) (h2 : tS T n e ≤ i) (h3 : i < tE T n e) : kdZ (T i) = tK T n e := by
  have hr := tok_r (T := T) h1
  unfold tE at h3
  rw [if_neg (by omega), if_pos hk] at h3
  by_cases h : i = tS T n e
  · rw [h]
    unfold tK atT
    rw [if_pos (by have := hr.2.2.2.2.1 (by omega); omega)]
  · exact rnN_k _ _ _ (by omega) h3
theorem kdZ_2 {c : Int} (h : kdZ c = 2) : 48 ≤ c ∧ c ≤ 57 := by
  unfold kdZ at h
  split at h
  · cases h
  · split at h
    · cases h
    · split at h
      · assumption
      · split at h <;> cases h
theorem kdZ_1 {c : Int} (h : kdZ c = 1) : 97 ≤ c ∧ c ≤ 122 := by
  unfold kdZ at h
  split at h
  · cases h
  · split at h
    · assumption
    · split at h
      · cases h
      · split at h <;> cases h
theorem dvN_r {T : Int → Int} {s : Int} : ∀ m : Nat, (∀ j : Int, 0 ≤ j → j < m → 48 ≤ T (s + j) ∧ T (s + j) ≤ 57) → 0 ≤ dvN T s m ∧ dvN T s m < 10 ^ m
  | 0, _ => ⟨Int.le_refl 0, (by decide : (0 : Int) < 10 ^ 0)⟩
  | m + 1, h => by
    have ih := dvN_r m (fun j h0 h1 => h j h0 (by omega))
    have := h m (by omega) (by omega)
    show 0 ≤ dvN T s m * 10 + T (s + m) - 48 ∧ dvN T s m * 10 + T (s + m) - 48 < 10 ^ (m + 1)
    rw [Int.pow_succ]
    omega
theorem num_dv {T : Int → Int} {n e : Int} (h0 : 0 ≤ e) (h1 : e ≤ n) (hk : tK T n e = 2) (h3 : tE T n e - tS T n e ≤ 3) : 0 ≤ dvN T (tS T n e) (tE T n e - tS T n e).toNat ∧ dvN T (tS T n e) (tE T n e - tS T n e).toNat ≤ 999 := by
  have hr := tok_r (T := T) h1
  have h := dvN_r (T := T) (s := tS T n e) (tE T n e - tS T n e).toNat (fun j g0 g1 => kdZ_2 (by rw [← hk]; exact tok_k h1 h0 (Or.inr hk) (by omega) (by omega)))
  have h4 : (10 : Int) ^ (tE T n e - tS T n e).toNat ≤ 10 ^ 3 := by
    have : (10 : Nat) ^ (tE T n e - tS T n e).toNat ≤ 10 ^ 3 := Nat.pow_le_pow_right (by decide) (by omega)
    have := Int.ofNat_le.mpr this
    rw [Int.natCast_pow, Int.natCast_pow] at this
    exact this
  rw [show (10 : Int) ^ 3 = 1000 from rfl] at h4
  omega
theorem numP_r {T : Int → Int} {n lo hi e : Int} (h0 : 0 ≤ e) (h1 : e ≤ n) : ((numP T n lo hi e).1 = 0 → lo ≤ (numP T n lo hi e).2.2.1 ∧ (numP T n lo hi e).2.2.1 ≤ hi ∧ 0 ≤ (numP T n lo hi e).2.2.1 ∧ (numP T n lo hi e).2.2.1 ≤ 999 ∧ 0 ≤ (numP T n lo hi e).2.2.2 ∧ (numP T n lo hi e).2.2.2 ≤ n) ∧ 0 ≤ (numP T n lo hi e).1 ∧ (numP T n lo hi e).1 ≤ 2 := by
  have hr := tok_r (T := T) h1
  by_cases c1 : tK T n e ≠ 2 ∨ 3 < tE T n e - tS T n e
  · have e1 : numP T n lo hi e = (1, tS T n e, 0, 0) := if_pos c1
    rw [e1]
    exact ⟨fun h => absurd (show (1 : Int) = 0 from h) (by decide), (by decide : (0 : Int) ≤ 1), (by decide : (1 : Int) ≤ 2)⟩
  · have hk2 : tK T n e = 2 := by omega
    have hd := num_dv (T := T) h0 h1 hk2 (by omega)
    by_cases c2 : dvN T (tS T n e) (tE T n e - tS T n e).toNat < lo ∨ hi < dvN T (tS T n e) (tE T n e - tS T n e).toNat
    · have e1 : numP T n lo hi e = (2, tS T n e, 0, 0) := by unfold numP; rw [if_neg c1, if_pos c2]
      rw [e1]
      exact ⟨fun h => absurd (show (2 : Int) = 0 from h) (by decide), (by decide : (0 : Int) ≤ 2), (by decide : (2 : Int) ≤ 2)⟩
    · have e1 : numP T n lo hi e = (0, 0, dvN T (tS T n e) (tE T n e - tS T n e).toNat, tE T n e) := by unfold numP; rw [if_neg c1, if_neg c2]
      rw [e1]
      refine ⟨fun _ => ?_, (by decide : (0 : Int) ≤ 0), (by decide : (0 : Int) ≤ 2)⟩
      dsimp only
      omega
theorem semP_r {T : Int → Int} {n e : Int} (h0 : 0 ≤ e) (h1 : e ≤ n) : ((semP T n e).1 = 0 → 0 ≤ (semP T n e).2.2 ∧ (semP T n e).2.2 ≤ n) ∧ 0 ≤ (semP T n e).1 ∧ (semP T n e).1 ≤ 1 := by
  have hr := tok_r (T := T) h1
  by_cases c1 : tK T n e = 3
  · have e1 : semP T n e = (0, 0, tE T n e) := if_pos c1
    rw [e1]
    refine ⟨fun _ => ?_, (by decide : (0 : Int) ≤ 0), (by decide : (0 : Int) ≤ 1)⟩
    dsimp only
    omega
  · have e1 : semP T n e = (1, tS T n e, 0) := if_neg c1
    rw [e1]
    exact ⟨fun h => absurd (show (1 : Int) = 0 from h) (by decide), (by decide : (0 : Int) ≤ 1), (by decide : (1 : Int) ≤ 1)⟩
/-- the memory holds the text T of n bytes -/
def TXT (I : Nat → Int → Int) (T : Int → Int) (n : Int) : Prop := I 2 = T ∧ I 1 1 = n ∧ (0 ≤ n ∧ n ≤ 500) ∧ ∀ i, 0 ≤ i → i < n → 0 ≤ T i ∧ T i ≤ 255
theorem TXT.of {I K : Nat → Int → Int} {T : Int → Int} {n : Int} (h : TXT I T n) (h2 : K 2 = I 2) (h1 : K 1 = I 1) : TXT K T n := ⟨by rw [h2]; exact h.1, by rw [h1]; exact h.2.1, h.2.2⟩
/-- the memory behind a reading -/
def PO (I K : Nat → Int → Int) (code at_ e : Int) : Prop := (∀ a, a ≠ 5 → K a = I a) ∧ (∀ j : Int, 6 ≤ j → K 5 j = I 5 j) ∧ (code = 0 → K 5 3 = e ∧ K 5 4 = I 5 4 ∧ K 5 5 = I 5 5) ∧ (code ≠ 0 → K 5 4 = code ∧ K 5 5 = at_)
section Parse
variable {l : LX} {q : Nat} {I : Nat → Int → Int} {v : Int} {fr : Bool} {T : Int → Int} {n : Int}
theorem dt_begin (hl : l.1.stackTraces = false) (hq : 181 ≤ q) : DT l 67 [.ref 5] (mm q I v fr) 0 0 (.inl none, mm q (up2 (up2 (up2 (up2 (up2 I 5 1 0) 5 2 0) 5 3 0) 5 4 0) 5 5 (-1)) v fr) := by
  refine mkdt hl (by decide) (Nat.le_of_ble_eq_true rfl) (L := [some (.ref 5)]) rfl ?_
  refine x_aload_n (pc := 0) rfl d67_0 ?_
  refine x_iconst (pc := 1) d67_1 ?_
  refine m_putI (pc := 2) (z := 1) f67_19 (by decide +kernel) (by decide +kernel) rfl (ko5 (by omega)) d67_2 ?_
  refine x_aload_n (pc := 5) rfl d67_5 ?_
  refine x_iconst (pc := 6) d67_6 ?_
  refine m_putI (pc := 7) (z := 2) f67_22 (by decide +kernel) (by decide +kernel) rfl (ko5 (by omega)) d67_7 ?_
  refine x_aload_n (pc := 10) rfl d67_10 ?_
  refine x_iconst (pc := 11) d67_11 ?_
  refine m_putI (pc := 12) (z := 3) f67_25 (by decide +kernel) (by decide +kernel) rfl (ko5 (by omega)) d67_12 ?_
  refine x_aload_n (pc := 15) rfl d67_15 ?_
  refine x_iconst (pc := 16) d67_16 ?_
  refine m_putI (pc := 17) (z := 4) f67_28 (by decide +kernel) (by decide +kernel) rfl (ko5 (by omega)) d67_17 ?_
  refine x_aload_n (pc := 20) rfl d67_20 ?_
  refine x_iconst (pc := 21) d67_21 ?_
  refine m_putI (pc := 22) (z := 5) f67_9 (by decide +kernel) (by decide +kernel) rfl (ko5 (by omega)) d67_22 ?_
  refine x_vret (pc := 25) rfl (fun _ => rfl) d67_25 ?_
  first | rfl | (exfalso; omega)
theorem dt_fail (hl : l.1.stackTraces = false) (hq : 181 ≤ q) {c s : Int} (hs : I 5 2 = s) : DT l 68 [.ref 5, .int (iI c)] (mm q I v fr) 0 0 (.inl (some (.int (iI 0))), mm q (up2 (up2 I 5 4 c) 5 5 s) v fr) := by
  subst hs
  refine mkdt hl (by decide) (Nat.le_of_ble_eq_true rfl) (L := [some (.ref 5), some (.int (iI c))]) rfl ?_
  refine x_aload_n (pc := 0) rfl d68_0 ?_
  refine x_iload_n (pc := 1) rfl d68_1 ?_
  refine m_putI (pc := 2) (z := 4) f68_28 (by decide +kernel) (by decide +kernel) rfl (ko5 (by omega)) d68_2 ?_
  refine x_aload_n (pc := 5) rfl d68_5 ?_
  refine x_aload_n (pc := 6) rfl d68_6 ?_
  refine m_getW (pc := 7) (z := 2) (w := (I 5 2)) f68_22 (by decide +kernel) rfl (ko5 (by omega)) (by rw [up2_i (by decide)]) d68_7 ?_
  refine m_putI (pc := 10) (z := 5) f68_9 (by decide +kernel) (by decide +kernel) rfl (ko5 (by omega)) d68_10 ?_
  refine x_iconst (pc := 13) d68_13 ?_
  refine x_zret (pc := 14) rfl (Or.inl rfl) (fun _ => rfl) d68_14 ?_
  first | rfl | (exfalso; omega)
theorem lp_spell (hl : l.1.stackTraces = false) (hq : 181 ≤ q) (hX : TXT I T n) {i : Nat} (hti : i < nTC) {s : Int} (hs : I 5 2 = s) (hs0 : 0 ≤ s) (hs1 : s ≤ n) : ∀ (m j : Nat), m + j = ksLen i → (∀ z : Nat, z < j → decide (atT T n (s + z) = tB i z) = true) →
    Ex l 71 0 0 28 [some (.ref 5), some (.ref (scr + 1 + i)), some (.int (iI j))] [] (mm q I v fr) (fun o => o = (.inl (some (.int (iI (b01 (allD (ksLen i) (fun j => decide (atT T n (s + j) = tB i j))))))), mm q I v fr)) := by
  obtain ⟨hn0, hn1⟩ := hX.2.2.1
  have hTb := hX.2.2.2
  have hlen := ksLen_b hti
  intro m
  induction m with
  | zero =>
    intro j hj hno
    refine x_iload_n (pc := 28) rfl d71_28 ?_
    refine x_aload_n (pc := 29) rfl d71_29 ?_
    refine x_slenT (pc := 30) (i := i) hl c71_43 hti (Nat.le_of_ble_eq_true rfl) (by decide +kernel) (by decide +kernel) d71_30 ?_
    refine x_icmp_ge (pc := 33) (tgt := 65) ⟨by omega, by omega⟩ ⟨by omega, by omega⟩ d71_33 (by decide) (fun g33 => ?_) (fun g33 => ?_)
    · refine x_iconst (pc := 65) d71_65 ?_
      refine x_zret (pc := 66) rfl (Or.inr rfl) (fun _ => rfl) d71_66 ?_
      rw [allD_yes (i := j) (by omega) hno]; rfl
    · exfalso; omega
  | succ m ih =>
    intro j hj hno
    have ht := tB_r (i := i) (j := j) hti (by omega) (by omega)
    refine x_iload_n (pc := 28) rfl d71_28 ?_
    refine x_aload_n (pc := 29) rfl d71_29 ?_
    refine x_slenT (pc := 30) (i := i) hl c71_43 hti (Nat.le_of_ble_eq_true rfl) (by decide +kernel) (by decide +kernel) d71_30 ?_
    refine x_icmp_ge (pc := 33) (tgt := 65) ⟨by omega, by omega⟩ ⟨by omega, by omega⟩ d71_33 (by decide) (fun g33 => ?_) (fun g33 => ?_)
    · refine x_iconst (pc := 65) d71_65 ?_
      refine x_zret (pc := 66) rfl (Or.inr rfl) (fun _ => rfl) d71_66 ?_
      exfalso; omega
    · refine x_aload_n (pc := 36) rfl d71_36 ?_
      refine m_getR (pc := 37) f71_15 (by decide +kernel) (ko5 (by omega)) rr5_0 d71_37 ?_
      refine x_aload_n (pc := 40) rfl d71_40 ?_
      refine m_getI (pc := 41) (z := 2) f71_22 (by decide +kernel) rfl (ko5 (by omega)) d71_41 ?_
      refine x_val (pc := 44) (w := s) (hs) ?_
      refine x_iload_n (pc := 44) rfl d71_44 ?_
      refine x_iadd (pc := 45) d71_45 ?_
      refine x_cVs (pc := 46) c71_36 (dt_atT hl hq (T := T) (n := n) (i := (s + j)) hX.1 hX.2.1 hn0 hn1 ⟨by omega, by omega⟩) (ko1 (by omega)) rfl rfl (Nat.le_of_ble_eq_true rfl) (by decide +kernel) (by decide +kernel) rfl d71_46 ?_
      have hat := atT_r hTb (s + j)
      refine x_aload_n (pc := 49) rfl d71_49 ?_
      refine x_iload_n (pc := 50) rfl d71_50 ?_
      refine x_schT (pc := 51) (i := i) (j := j) hl c71_48 hti (by omega) (by omega) (Nat.le_of_ble_eq_true rfl) (by decide +kernel) (by decide +kernel) d71_51 ?_
      refine x_icmp_eq (pc := 54) (tgt := 59) ⟨by omega, by omega⟩ ⟨by omega, by omega⟩ d71_54 (by decide) (fun g54 => ?_) (fun g54 => ?_)
      · refine x_iinc (pc := 59) rfl (by decide +kernel) rfl d71_59 ?_
        dsimp only [List.set]
        refine x_goto (pc := 62) (tgt := 28) d71_62 (by decide) ?_
        refine ih (j + 1) (by omega) (fun z hz => ?_)
        by_cases e : z = j
        · rw [e]; exact decide_eq_true g54
        · exact hno z (by omega)
      · refine x_iconst (pc := 57) d71_57 ?_
        refine x_zret (pc := 58) rfl (Or.inl rfl) (fun _ => rfl) d71_58 ?_
        rw [allD_no (i := j) (by omega) (decide_eq_false g54)]; rfl
theorem dt_spells (hl : l.1.stackTraces = false) (hq : 181 ≤ q) (hX : TXT I T n) {i : Nat} (hti : i < nTC) {s k e : Int} (hk : I 5 1 = k) (hs : I 5 2 = s) (he : I 5 3 = e) (hs0 : 0 ≤ s) (hs1 : s ≤ e) (he1 : e ≤ n) (hk1 : 0 ≤ k ∧ k ≤ 4) : DT l 71 [.ref 5, .ref (scr + 1 + i)] (mm q I v fr) 0 0 (.inl (some (.int (iI (b01 (splZ T n s k e i))))), mm q I v fr) := by
  obtain ⟨hn0, hn1⟩ := hX.2.2.1
  have hlen := ksLen_b hti
  unfold splZ
  refine mkdt hl (by decide) (Nat.le_of_ble_eq_true rfl) (L := [some (.ref 5), some (.ref (scr + 1 + i)), none]) rfl ?_
  refine x_aload_n (pc := 0) rfl d71_0 ?_
  refine m_getI (pc := 1) (z := 1) f71_19 (by decide +kernel) rfl (ko5 (by omega)) d71_1 ?_
  refine x_val (pc := 4) (w := k) (hk) ?_
  refine x_iconst (pc := 4) d71_4 ?_
  refine x_icmp_ne (pc := 5) (tgt := 24) ⟨by omega, by omega⟩ ⟨by omega, by omega⟩ d71_5 (by decide) (fun g5 => ?_) (fun g5 => ?_)
  · refine x_iconst (pc := 24) d71_24 ?_
    refine x_zret (pc := 25) rfl (Or.inl rfl) (fun _ => rfl) d71_25 ?_
    rw [decide_eq_false g5, Bool.false_and, Bool.false_and]; rfl
  · refine x_aload_n (pc := 8) rfl d71_8 ?_
    refine m_getI (pc := 9) (z := 3) f71_25 (by decide +kernel) rfl (ko5 (by omega)) d71_9 ?_
    refine x_val (pc := 12) (w := e) (he) ?_
    refine x_aload_n (pc := 12) rfl d71_12 ?_
    refine m_getI (pc := 13) (z := 2) f71_22 (by decide +kernel) rfl (ko5 (by omega)) d71_13 ?_
    refine x_val (pc := 16) (w := s) (hs) ?_
    refine x_isub (pc := 16) d71_16 ?_
    refine x_aload_n (pc := 17) rfl d71_17 ?_
    refine x_slenT (pc := 18) (i := i) hl c71_43 hti (Nat.le_of_ble_eq_true rfl) (by decide +kernel) (by decide +kernel) d71_18 ?_
    refine x_icmp_eq (pc := 21) (tgt := 26) ⟨by omega, by omega⟩ ⟨by omega, by omega⟩ d71_21 (by decide) (fun g21 => ?_) (fun g21 => ?_)
    · refine x_iconst (pc := 26) d71_26 ?_
      refine x_istore_n (pc := 27) (by decide +kernel) rfl d71_27 ?_
      dsimp only [List.set]
      rw [decide_eq_true g5, decide_eq_true (p := e - s = _) (by omega), Bool.true_and, Bool.true_and]
      exact lp_spell hl hq hX hti hs hs0 (by omega) (ksLen i) 0 rfl (fun z hz => absurd hz (Nat.not_lt_zero _))
    · refine x_iconst (pc := 24) d71_24 ?_
      refine x_zret (pc := 25) rfl (Or.inl rfl) (fun _ => rfl) d71_25 ?_
      rw [decide_eq_false (p := e - s = _) (by omega), Bool.and_false, Bool.false_and]; rfl
end Parse
