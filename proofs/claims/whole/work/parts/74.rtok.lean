/-! ===== the reference: tokens ===== -/
def RTX (I : Nat → Int → Int) (T : Int → Int) (n : Int) : Prop := I 181 12 = n ∧ (∀ i : Int, 0 ≤ i → i < n → I 189 i = T i) ∧ (0 ≤ n ∧ n ≤ 500) ∧ ∀ i : Int, 0 ≤ i → i < n → 0 ≤ T i ∧ T i ≤ 255
/-- only what reading needs has changed -/
def PT (I K : Nat → Int → Int) : Prop := (∀ a, a ≠ 181 → K a = I a) ∧ ∀ j : Int, j < 13 ∨ 17 < j → K 181 j = I 181 j
theorem PT.refl {I : Nat → Int → Int} : PT I I := ⟨fun _ _ => rfl, fun _ _ => rfl⟩
theorem PT.trans {I J K : Nat → Int → Int} (h : PT I J) (h2 : PT J K) : PT I K := ⟨fun a ha => by rw [h2.1 a ha, h.1 a ha], fun j hj => by rw [h2.2 j hj, h.2 j hj]⟩
theorem PT.up {I J : Nat → Int → Int} {j z : Int} (h : PT I J) (hj : 13 ≤ j ∧ j ≤ 17) : PT I (up2 J 181 j z) := ⟨fun a ha => by rw [up2_off' _ _ _ ha]; exact h.1 a ha, fun i hi => by rw [up2_i (by omega)]; exact h.2 i hi⟩
theorem RTX.pt {I K : Nat → Int → Int} {T : Int → Int} {n : Int} (h : RTX I T n) (p : PT I K) : RTX K T n := ⟨by rw [p.2 12 (by decide)]; exact h.1, fun i i0 i1 => by rw [p.1 189 (by decide)]; exact h.2.1 i i0 i1, h.2.2⟩
/-- the length of the word at s -/
def wlZ (T : Int → Int) (n s : Int) : Int := rnN T n 1 (n - s).toNat s - s
theorem atT_in {T : Int → Int} {n i : Int} (h0 : 0 ≤ i) (h1 : i < n) : atT T n i = T i := if_pos ⟨h0, h1⟩
theorem atT_out {T : Int → Int} {n i : Int} (h : ¬ i < n) : atT T n i = -1 := if_neg fun z => h z.2
theorem kdZ_e1 {c : Int} : kdZ c = 1 ↔ 97 ≤ c ∧ c ≤ 122 := ⟨kdZ_1, fun h => by unfold kdZ; rw [if_neg (by omega), if_pos h]⟩
theorem kdZ_e2 {c : Int} : kdZ c = 2 ↔ 48 ≤ c ∧ c ≤ 57 := ⟨kdZ_2, fun h => by unfold kdZ; rw [if_neg (by omega), if_neg (by omega), if_pos h]⟩
theorem kdZ_e0 {c : Int} : kdZ c = 0 ↔ c = -1 := ⟨kdZ_0, fun h => by unfold kdZ; rw [if_pos h]⟩
theorem kdZ_e3 {c : Int} : kdZ c = 3 ↔ c = 59 := by
  constructor
  · intro h
    unfold kdZ at h
    split at h
    · cases h
    split at h
    · cases h
    split at h
    · cases h
    split at h
    · assumption
    · cases h
  · intro h
    unfold kdZ
    rw [if_neg (by omega), if_neg (by omega), if_neg (by omega), if_pos h]
theorem skN_end {T : Int → Int} {n : Int} : ∀ (m : Nat) (i : Int), i + m = n → skN T n m i = n ∨ (skN T n m i < n ∧ T (skN T n m i) ≠ 32)
  | 0, i, h => Or.inl (by show i = n; omega)
  | m + 1, i, h => by
    unfold skN
    split
    · exact skN_end m (i + 1) (by omega)
    · rename_i c
      exact Or.inr ⟨by omega, fun z => c ⟨by omega, z⟩⟩
theorem tS_i {T : Int → Int} {n e : Int} (h : e ≤ n) : tS T n (tS T n e) = tS T n e ∧ tK T n (tS T n e) = tK T n e ∧ tE T n (tS T n e) = tE T n e := by
  have h1 : tS T n (tS T n e) = tS T n e := by
    have he := skN_end (T := T) (n := n) (n - e).toNat e (by omega)
    have hs : tS T n e = skN T n (n - e).toNat e := rfl
    rw [← hs] at he
    show skN T n (n - tS T n e).toNat (tS T n e) = _
    rcases he with c | c
    · rw [show (n - tS T n e).toNat = 0 from by omega]; rfl
    · obtain ⟨m, hm⟩ : ∃ m, (n - tS T n e).toNat = m + 1 := ⟨(n - tS T n e).toNat - 1, by omega⟩
      rw [hm]
      exact if_neg fun z => c.2 z.2
  have h2 : tK T n (tS T n e) = tK T n e := by unfold tK; rw [h1]
  refine ⟨h1, h2, ?_⟩
  unfold tE
  rw [h1, h2]
theorem wl_1 {T : Int → Int} {n e : Int} (h0 : 0 ≤ e) (h1 : e ≤ n) (hk : tK T n e = 1) : wlZ T n (tS T n e) = tE T n e - tS T n e := by
  have hr := tok_r (T := T) h1
  have hs := hr.2.2.2.2.1 (by omega)
  have hc : kdZ (T (tS T n e)) = 1 := by rw [← atT_in (T := T) (n := n) (by omega) hs.1]; exact hk
  unfold wlZ tE
  rw [if_neg (by omega), if_pos (by omega), hk]
  obtain ⟨m, hm⟩ : ∃ m, (n - tS T n e).toNat = m + 1 := ⟨(n - tS T n e).toNat - 1, by omega⟩
  rw [hm, show (n - (tS T n e + 1)).toNat = m from by omega, show rnN T n 1 (m + 1) (tS T n e) = rnN T n 1 m (tS T n e + 1) from if_pos ⟨hs.1, hc⟩]
theorem wl_0 {T : Int → Int} {n e : Int} (h0 : 0 ≤ e) (h1 : e ≤ n) (hk : tK T n e ≠ 1) : wlZ T n (tS T n e) = 0 := by
  have hr := tok_r (T := T) h1
  unfold wlZ
  cases hm : (n - tS T n e).toNat with
  | zero => show tS T n e - tS T n e = 0; omega
  | succ m =>
    rw [show rnN T n 1 (m + 1) (tS T n e) = tS T n e from if_neg fun z => hk (by
      show kdZ (atT T n (tS T n e)) = 1
      rw [atT_in (by omega) z.1]; exact z.2)]
    omega
section Rtok
variable {l : LX} {q : Nat} {I : Nat → Int → Int} {v : Int} {fr : Bool} {T : Int → Int} {n : Int}
theorem rt_byte (hl : l.1.stackTraces = false) (hq : 192 ≤ q) (hX : RTX I T n) {i : Int} (i0 : 0 ≤ i) (i1 : i ≤ 2000) : DT l 202 [.ref 181, .int (iI i)] (mm q I v fr) 0 0 (.inl (some (.int (iI (atT T n i)))), mm q I v fr) := by
  obtain ⟨x1, x2, x3, x4⟩ := hX
  refine mkdt hl (by decide) (Nat.le_of_ble_eq_true rfl) (L := [some (.ref 181), some (.int (iI i))]) rfl ?_
  refine x_iload_n (pc := 0) rfl d202_0 ?_
  refine x_aload_n (pc := 1) rfl d202_1 ?_
  refine m_getI (pc := 2) (z := 12) f202_56 (by decide +kernel) rfl (xo181 (by omega)) d202_2 ?_
  refine x_val (pc := 5) (w := n) (x1) ?_
  refine x_icmp_ge (pc := 5) (tgt := 17) ⟨by omega, by omega⟩ ⟨by omega, by omega⟩ d202_5 (by decide) (fun g5 => ?_) (fun g5 => ?_)
  · refine x_iconst (pc := 17) d202_17 ?_
    refine x_iret (pc := 18) rfl (fun _ => rfl) d202_18 ?_
    rw [atT_out (by omega)]
  · refine x_aload_n (pc := 8) rfl d202_8 ?_
    refine m_getR (pc := 9) f202_31 (by decide +kernel) (xo181 (by omega)) rr181_11 d202_9 ?_
    refine x_iload_n (pc := 12) rfl d202_12 ?_
    refine m_iald (pc := 13) (xa189 (by omega)) (by omega) (by omega) (by omega) d202_13 ?_
    refine x_goto (pc := 14) (tgt := 18) d202_14 (by decide) ?_
    refine x_iret (pc := 18) rfl (fun _ => rfl) d202_18 ?_
    rw [atT_in i0 g5, x2 i i0 g5]
theorem lp_nx1 (hl : l.1.stackTraces = false) (hq : 192 ≤ q) (hX : RTX I T n) {Q : OO → Prop} : ∀ (m : Nat) (a : Int) (J : Nat → Int → Int), a + m = n → 0 ≤ a → PT I J → J 181 13 = a → J 181 16 = I 181 16 → J 181 17 = I 181 17 →
    (∀ K : Nat → Int → Int, PT I K → K 181 13 = skN T n m a → K 181 16 = I 181 16 → K 181 17 = I 181 17 → Ex l 203 0 0 26 [some (.ref 181)] [] (mm q K v fr) Q) →
    Ex l 203 0 0 0 [some (.ref 181)] [] (mm q J v fr) Q := by
  intro m
  induction m with
  | zero =>
    intro a J hm a0 hJ h13 h16 h17 hQ
    have hXJ := hX.pt hJ
    have hx := hX.2.2
    refine x_aload_n (pc := 0) rfl d203_0 ?_
    refine x_aload_n (pc := 1) rfl d203_1 ?_
    refine m_getI (pc := 2) (z := 13) f203_205 (by decide +kernel) rfl (xo181 (by omega)) d203_2 ?_
    refine x_val (pc := 5) (w := a) (h13) ?_
    refine x_cVs (pc := 5) c203_208 (rt_byte hl hq hXJ (i := a) (by omega) (by omega)) (xo181 (by omega)) rfl rfl (Nat.le_of_ble_eq_true rfl) (by decide +kernel) (by decide +kernel) rfl d203_5 ?_
    have hat1 := atT_r hXJ.2.2.2 a
    refine x_bipush (pc := 8) (by decide) d203_8 ?_
    refine x_icmp_ne (pc := 10) (tgt := 26) ⟨by omega, by omega⟩ ⟨by omega, by omega⟩ d203_10 (by decide) (fun g10 => ?_) (fun g10 => ?_)
    · exact hQ J hJ h13 h16 h17
    · exfalso
      rw [atT_out (by omega)] at g10
      omega
  | succ m ih =>
    intro a J hm a0 hJ h13 h16 h17 hQ
    have hXJ := hX.pt hJ
    have hx := hX.2.2
    refine x_aload_n (pc := 0) rfl d203_0 ?_
    refine x_aload_n (pc := 1) rfl d203_1 ?_
    refine m_getI (pc := 2) (z := 13) f203_205 (by decide +kernel) rfl (xo181 (by omega)) d203_2 ?_
    refine x_val (pc := 5) (w := a) (h13) ?_
    refine x_cVs (pc := 5) c203_208 (rt_byte hl hq hXJ (i := a) (by omega) (by omega)) (xo181 (by omega)) rfl rfl (Nat.le_of_ble_eq_true rfl) (by decide +kernel) (by decide +kernel) rfl d203_5 ?_
    have hat2 := atT_r hXJ.2.2.2 a
    refine x_bipush (pc := 8) (by decide) d203_8 ?_
    refine x_icmp_ne (pc := 10) (tgt := 26) ⟨by omega, by omega⟩ ⟨by omega, by omega⟩ d203_10 (by decide) (fun g10 => ?_) (fun g10 => ?_)
    · refine hQ J hJ ?_ h16 h17
      rw [h13]
      exact (if_neg fun z => g10 (by rw [atT_in a0 z.1]; exact z.2)).symm
    · refine x_aload_n (pc := 13) rfl d203_13 ?_
      refine x_dup (pc := 14) rfl d203_14 ?_
      refine m_getI (pc := 15) (z := 13) f203_205 (by decide +kernel) rfl (xo181 (by omega)) d203_15 ?_
      refine x_val (pc := 18) (w := a) (h13) ?_
      refine x_iconst (pc := 18) d203_18 ?_
      refine x_iadd (pc := 19) d203_19 ?_
      refine m_putI (pc := 20) (z := 13) f203_205 (by decide +kernel) (by decide +kernel) rfl (xo181 (by omega)) d203_20 ?_
      refine x_goto (pc := 23) (tgt := 0) d203_23 (by decide) ?_
      have g : a < n ∧ T a = 32 := by
        by_cases c : a < n
        · exact ⟨c, by rw [← atT_in (T := T) (n := n) a0 c]; exact g10⟩
        · rw [atT_out c] at g10; omega
      refine ih (a + 1) _ (by omega) (by omega) (hJ.up (by decide)) up2_s (by rw [up2_i (by decide)]; exact h16) (by rw [up2_i (by decide)]; exact h17) fun K k0 k1 => ?_
      rw [show skN T n m (a + 1) = skN T n (m + 1) a from (if_pos g).symm] at k1
      exact hQ K k0 k1
theorem lp_nx2 (hl : l.1.stackTraces = false) (hq : 192 ≤ q) (hX : RTX I T n) {s : Int} (s0 : 0 ≤ s) {Q : OO → Prop} : ∀ (m : Nat) (a : Int) (J : Nat → Int → Int), a + m = n → s ≤ a → PT I J → J 181 13 = s → J 181 14 = s → J 181 15 = a - s → J 181 16 = I 181 16 → J 181 17 = I 181 17 →
    (∀ K : Nat → Int → Int, PT I K → K 181 13 = s → K 181 14 = s → K 181 15 = rnN T n 1 m a - s → K 181 16 = I 181 16 → K 181 17 = I 181 17 → Ex l 203 0 0 78 [some (.ref 181)] [] (mm q K v fr) Q) →
    Ex l 203 0 0 39 [some (.ref 181)] [] (mm q J v fr) Q := by
  intro m
  induction m with
  | zero =>
    intro a J hm a0 hJ h13 h14 h15 h16 h17 hQ
    have hXJ := hX.pt hJ
    have hx := hX.2.2
    have e : s + (a - s) = a := by omega
    refine x_aload_n (pc := 39) rfl d203_39 ?_
    refine x_aload_n (pc := 40) rfl d203_40 ?_
    refine m_getI (pc := 41) (z := 14) f203_211 (by decide +kernel) rfl (xo181 (by omega)) d203_41 ?_
    refine x_val (pc := 44) (w := s) (h14) ?_
    refine x_aload_n (pc := 44) rfl d203_44 ?_
    refine m_getI (pc := 45) (z := 15) f203_214 (by decide +kernel) rfl (xo181 (by omega)) d203_45 ?_
    refine x_val (pc := 48) (w := (a - s)) (h15) ?_
    refine x_iadd (pc := 48) d203_48 ?_
    refine x_cVs (pc := 49) c203_208 (rt_byte hl hq hXJ (i := (s + (a - s))) (by omega) (by omega)) (xo181 (by omega)) rfl rfl (Nat.le_of_ble_eq_true rfl) (by decide +kernel) (by decide +kernel) rfl d203_49 ?_
    have hat3 := atT_r hXJ.2.2.2 (s + (a - s))
    refine x_i2l (pc := 52) ⟨by omega, by omega⟩ d203_52 ?_
    refine x_ldc2 (pc := 53) (z := 97) k203_217 (by decide) d203_53 ?_
    refine x_ldc2 (pc := 56) (z := 122) k203_219 (by decide) d203_56 ?_
    refine x_cSs (pc := 59) c203_72 (rt_in hl (a := (atT T n (s + (a - s)))) (b := 97) (c := 122) ⟨by omega, by omega⟩ ⟨by omega, by omega⟩ ⟨by omega, by omega⟩) rfl rfl (Nat.le_of_ble_eq_true rfl) (by decide +kernel) (by decide +kernel) (by decide +kernel) rfl d203_59 ?_
    refine x_ifB_eq (pc := 62) (tgt := 78) d203_62 (by decide) (fun g62 => ?_) (fun g62 => ?_)
    · exact hQ J hJ h13 h14 h15 h16 h17
    · exfalso
      have g := of_decide_eq_true g62
      rw [e, atT_out (by omega)] at g
      omega
  | succ m ih =>
    intro a J hm a0 hJ h13 h14 h15 h16 h17 hQ
    have hXJ := hX.pt hJ
    have hx := hX.2.2
    have e : s + (a - s) = a := by omega
    refine x_aload_n (pc := 39) rfl d203_39 ?_
    refine x_aload_n (pc := 40) rfl d203_40 ?_
    refine m_getI (pc := 41) (z := 14) f203_211 (by decide +kernel) rfl (xo181 (by omega)) d203_41 ?_
    refine x_val (pc := 44) (w := s) (h14) ?_
    refine x_aload_n (pc := 44) rfl d203_44 ?_
    refine m_getI (pc := 45) (z := 15) f203_214 (by decide +kernel) rfl (xo181 (by omega)) d203_45 ?_
    refine x_val (pc := 48) (w := (a - s)) (h15) ?_
    refine x_iadd (pc := 48) d203_48 ?_
    refine x_cVs (pc := 49) c203_208 (rt_byte hl hq hXJ (i := (s + (a - s))) (by omega) (by omega)) (xo181 (by omega)) rfl rfl (Nat.le_of_ble_eq_true rfl) (by decide +kernel) (by decide +kernel) rfl d203_49 ?_
    have hat4 := atT_r hXJ.2.2.2 (s + (a - s))
    refine x_i2l (pc := 52) ⟨by omega, by omega⟩ d203_52 ?_
    refine x_ldc2 (pc := 53) (z := 97) k203_217 (by decide) d203_53 ?_
    refine x_ldc2 (pc := 56) (z := 122) k203_219 (by decide) d203_56 ?_
    refine x_cSs (pc := 59) c203_72 (rt_in hl (a := (atT T n (s + (a - s)))) (b := 97) (c := 122) ⟨by omega, by omega⟩ ⟨by omega, by omega⟩ ⟨by omega, by omega⟩) rfl rfl (Nat.le_of_ble_eq_true rfl) (by decide +kernel) (by decide +kernel) (by decide +kernel) rfl d203_59 ?_
    refine x_ifB_eq (pc := 62) (tgt := 78) d203_62 (by decide) (fun g62 => ?_) (fun g62 => ?_)
    · have g := of_decide_eq_false g62
      rw [e] at g
      refine hQ J hJ h13 h14 ?_ h16 h17
      rw [h15, show rnN T n 1 (m + 1) a = a from if_neg fun z => g (by rw [atT_in (by omega) z.1]; exact kdZ_1 z.2)]
    · refine x_aload_n (pc := 65) rfl d203_65 ?_
      refine x_dup (pc := 66) rfl d203_66 ?_
      refine m_getI (pc := 67) (z := 15) f203_214 (by decide +kernel) rfl (xo181 (by omega)) d203_67 ?_
      refine x_val (pc := 70) (w := (a - s)) (h15) ?_
      refine x_iconst (pc := 70) d203_70 ?_
      refine x_iadd (pc := 71) d203_71 ?_
      refine m_putI (pc := 72) (z := 15) f203_214 (by decide +kernel) (by decide +kernel) rfl (xo181 (by omega)) d203_72 ?_
      refine x_goto (pc := 75) (tgt := 39) d203_75 (by decide) ?_
      have g := of_decide_eq_true g62
      rw [e] at g
      have g2 : a < n ∧ kdZ (T a) = 1 := by
        by_cases c : a < n
        · exact ⟨c, by rw [← atT_in (T := T) (n := n) (by omega) c]; exact kdZ_e1.mpr g⟩
        · rw [atT_out c] at g; omega
      refine ih (a + 1) _ (by omega) (by omega) (hJ.up (by decide)) (by rw [up2_i (by decide)]; exact h13) (by rw [up2_i (by decide)]; exact h14) (by rw [up2_s]; omega) (by rw [up2_i (by decide)]; exact h16) (by rw [up2_i (by decide)]; exact h17) fun K k0 k1 k2 k3 => ?_
      rw [show rnN T n 1 m (a + 1) = rnN T n 1 (m + 1) a from (if_pos g2).symm] at k3
      exact hQ K k0 k1 k2 k3
/-- behind next() from e on -/
def NX (I K : Nat → Int → Int) (T : Int → Int) (n e : Int) : Prop := PT I K ∧ K 181 13 = tS T n e ∧ K 181 14 = tS T n e ∧ K 181 15 = wlZ T n (tS T n e) ∧ K 181 16 = I 181 16 ∧ K 181 17 = I 181 17
theorem lp_nx4 (hl : l.1.stackTraces = false) (hq : 192 ≤ q) {s z16 z17 e : Int} {K : Nat → Int → Int} (hX : RTX K T n) (s0 : 0 ≤ s) (s1 : s ≤ n) (k0 : PT I K) (k1 : K 181 13 = s) (k2 : K 181 14 = s) (k3 : K 181 15 = wlZ T n s) (k4 : K 181 16 = I 181 16) (k5 : K 181 17 = I 181 17) (hs : s = tS T n e) : Ex l 203 0 0 78 [some (.ref 181)] [] (mm q K v fr) (oE q v fr (some (.int (iI (atT T n s)))) (fun K => NX I K T n e)) := by
  have hx := hX.2.2
  have hXK := hX
  refine x_aload_n (pc := 78) rfl d203_78 ?_
  refine x_aload_n (pc := 79) rfl d203_79 ?_
  refine m_getI (pc := 80) (z := 13) f203_205 (by decide +kernel) rfl (xo181 (by omega)) d203_80 ?_
  refine x_val (pc := 83) (w := s) (k1) ?_
  refine x_cVs (pc := 83) c203_208 (rt_byte hl hq hXK (i := s) (by omega) (by omega)) (xo181 (by omega)) rfl rfl (Nat.le_of_ble_eq_true rfl) (by decide +kernel) (by decide +kernel) rfl d203_83 ?_
  have hat5 := atT_r hXK.2.2.2 s
  refine x_iret (pc := 86) rfl (fun _ => rfl) d203_86 ?_
  rw [hs] at k1 k2 k3; exact ⟨K, rfl, k0, k1, k2, k3, k4, k5⟩
theorem lp_nx3 (hl : l.1.stackTraces = false) (hq : 192 ≤ q) (hX : RTX I T n) {s e : Int} (s0 : 0 ≤ s) (s1 : s ≤ n) (hs : s = tS T n e) {K : Nat → Int → Int} (k0 : PT I K) (k1 : K 181 13 = s) (k2 : K 181 16 = I 181 16) (k3 : K 181 17 = I 181 17) : Ex l 203 0 0 26 [some (.ref 181)] [] (mm q K v fr) (oE q v fr (some (.int (iI (atT T n s)))) (fun K => NX I K T n e)) := by
  refine x_aload_n (pc := 26) rfl d203_26 ?_
  refine x_aload_n (pc := 27) rfl d203_27 ?_
  refine m_getI (pc := 28) (z := 13) f203_205 (by decide +kernel) rfl (xo181 (by omega)) d203_28 ?_
  refine x_val (pc := 31) (w := s) (k1) ?_
  refine m_putI (pc := 31) (z := 14) f203_211 (by decide +kernel) (by decide +kernel) rfl (xo181 (by omega)) d203_31 ?_
  refine x_aload_n (pc := 34) rfl d203_34 ?_
  refine x_iconst (pc := 35) d203_35 ?_
  refine m_putI (pc := 36) (z := 15) f203_214 (by decide +kernel) (by decide +kernel) rfl (xo181 (by omega)) d203_36 ?_
  refine lp_nx2 hl hq hX s0 (n - s).toNat s _ (by omega) (Int.le_refl _) ((k0.up (by decide)).up (by decide)) (by rw [up2_i (by decide), up2_i (by decide)]; exact k1) (by rw [up2_i (by decide), up2_s]) (by rw [up2_s]; omega) (by rw [up2_i (by decide), up2_i (by decide)]; exact k2) (by rw [up2_i (by decide), up2_i (by decide)]; exact k3) fun K2 q0 q1 q2 q3 q4 q5 => ?_
  exact lp_nx4 (z16 := 0) (z17 := 0) hl hq (hX.pt q0) s0 s1 q0 q1 q2 q3 q4 q5 hs
theorem rt_next (hl : l.1.stackTraces = false) (hq : 192 ≤ q) (hX : RTX I T n) {e : Int} (he : I 181 13 = e) (e0 : 0 ≤ e) (e1 : e ≤ n) : CT l 203 [.ref 181] (mm q I v fr) 0 0 (oE q v fr (some (.int (iI (atT T n (tS T n e))))) (fun K => NX I K T n e)) := by
  have hr := tok_r (T := T) e1
  have hx := hX.2.2
  refine mkct2 hl (by decide) (Nat.le_of_ble_eq_true rfl) (L := [some (.ref 181)]) rfl ?_
  refine lp_nx1 hl hq hX (n - e).toNat e I (by omega) e0 PT.refl he rfl rfl fun K k0 k1 k2 k3 => ?_
  have k1 : K 181 13 = tS T n e := k1
  exact lp_nx3 hl hq hX (by omega) (by omega) rfl k0 k1 k2 k3
end Rtok
