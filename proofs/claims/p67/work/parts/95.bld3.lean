/-! ===== the law's text, as it grows ===== -/
section Grw
variable {T T2 : Int → Int} {len z e c : Int} {i : Nat}
theorem snoc_o {j : Int} (h : j < len) : snoc T len c j = T j := if_neg (by omega)
theorem snoc_n : snoc T len c len = c := if_pos rfl
theorem apS_o {j : Int} (h : j < len) : apS T len i j = T j := if_neg (fun q => by omega)
theorem apS_n {j : Int} (h0 : 0 ≤ j) (h1 : j < ksLen i) : apS T len i (len + j) = tB i j := by
  unfold apS
  rw [if_pos ⟨by omega, by omega⟩, show len + j - len = j from by omega]
theorem apN_o {j : Int} (h : j < len) : apN T len z j = T j := by
  unfold apN
  by_cases g : z < 10
  · rw [if_pos g]
    exact snoc_o h
  · rw [if_neg g]
    by_cases g2 : z < 100
    · rw [if_pos g2]
      exact (snoc_o (by omega)).trans (snoc_o h)
    · rw [if_neg g2]
      exact (snoc_o (by omega)).trans ((snoc_o (by omega)).trans (snoc_o h))
theorem apN_n {j : Int} (j0 : 0 ≤ j) (j1 : j < ndg z) : apN T len z (len + j) = dch z j := by
  unfold ndg at j1
  unfold apN dch
  by_cases g : z < 10
  · rw [if_pos g] at j1
    rw [if_pos g, if_pos g, show j = 0 from by omega, Int.add_zero]
    exact snoc_n
  · rw [if_neg g] at j1
    rw [if_neg g, if_neg g]
    by_cases g2 : z < 100
    · rw [if_pos g2] at j1
      rw [if_pos g2, if_pos g2]
      by_cases q : j = 0
      · rw [if_pos q, q, Int.add_zero]
        exact (snoc_o (by omega)).trans snoc_n
      · rw [if_neg q, show j = 1 from by omega]
        exact snoc_n
    · rw [if_neg g2] at j1
      rw [if_neg g2, if_neg g2]
      by_cases q : j = 0
      · rw [if_pos q, q, Int.add_zero]
        exact (snoc_o (by omega)).trans ((snoc_o (by omega)).trans snoc_n)
      · rw [if_neg q]
        by_cases q2 : j = 1
        · rw [if_pos q2, q2]
          exact (snoc_o (by omega)).trans snoc_n
        · rw [if_neg q2, show j = 2 from by omega]
          exact snoc_n
theorem ndg_1 (h : z < 10) : ndg z = 1 := if_pos h
theorem ndg_2 (h : z < 100) : ndg z ≤ 2 := by
  unfold ndg
  by_cases g : z < 10
  · rw [if_pos g]; decide
  · rw [if_neg g, if_pos h]; decide
/-- what stays -/
def agT (T T2 : Int → Int) (len : Int) : Prop := ∀ j : Int, 0 ≤ j → j < len → T2 j = T j
theorem agT_t {T1 T2 T3 : Int → Int} {a b c : Int} (h1 : agT T1 T2 a) (h2 : agT T2 T3 b) (ha : c ≤ a) (hb : c ≤ b) : agT T1 T3 c := fun j j0 hj => (h2 j j0 (by omega)).trans (h1 j j0 (by omega))
theorem agT_s : agT T (snoc T len c) len := fun _ _ h => snoc_o h
theorem agT_S : agT T (apS T len i) len := fun _ _ h => apS_o h
theorem agT_N : agT T (apN T len z) len := fun _ _ h => apN_o h
theorem nm_st (h : T e = 32) (he : e + 1 = len) : isNm (apN T len z) e z := ⟨(apN_o (by omega)).trans h, fun j j0 j1 => by rw [he]; exact apN_n j0 j1⟩
theorem nm_w (h : isNm T e z) (ha : agT T T2 len) (hl : eN e z ≤ len) (e0 : 0 ≤ e) : isNm T2 e z := by
  have r := eN_r (e := e) (z := z)
  refine ⟨(ha e e0 (by omega)).trans h.1, fun j j0 j1 => (ha _ (by omega) ?_).trans (h.2 j j0 j1)⟩
  unfold eN at hl
  omega
def HdT (T : Int → Int) (b f k g : Int) : Prop := (∀ j : Int, 0 ≤ j → j < 5 → T j = tB 0 j) ∧ isNm T 5 b ∧ isNm T (eN 5 b) f ∧ isNm T (eN (eN 5 b) f) k ∧ isNm T (eN (eN (eN 5 b) f) k) g ∧ T (eN (eN (eN (eN 5 b) f) k) g) = 59
def hdE (b f k g : Int) : Int := eN (eN (eN (eN 5 b) f) k) g + 1
theorem hd_w {b f k g : Int} (h : HdT T b f k g) (ha : agT T T2 len) (hl : hdE b f k g ≤ len) : HdT T2 b f k g := by
  obtain ⟨h0, h1, h2, h3, h4, h5⟩ := h
  have r1 := eN_r (e := 5) (z := b)
  have r2 := eN_r (e := eN 5 b) (z := f)
  have r3 := eN_r (e := eN (eN 5 b) f) (z := k)
  have r4 := eN_r (e := eN (eN (eN 5 b) f) k) (z := g)
  unfold hdE at hl
  exact ⟨fun j j0 j1 => (ha j j0 (by omega)).trans (h0 j j0 j1), nm_w h1 ha (by omega) (by decide), nm_w h2 ha (by omega) (by omega), nm_w h3 ha (by omega) (by omega), nm_w h4 ha (by omega) (by omega), (ha _ (by omega) (by omega)).trans h5⟩
theorem dg_w {p q o : Int} (h : isDg T e p q o) (ha : agT T T2 len) (hl : dgE e p q o ≤ len) (e0 : 0 ≤ e) : isDg T2 e p q o := by
  obtain ⟨h0, h1, h2, h3, h4⟩ := h
  have r1 := eN_r (e := e + 3) (z := p)
  have r2 := eN_r (e := eN (e + 3) p) (z := q)
  have r3 := eN_r (e := eN (eN (e + 3) p) q) (z := o)
  unfold dgE at hl
  exact ⟨fun j j0 j1 => (ha _ (by omega) (by omega)).trans (h0 j j0 j1), nm_w h1 ha (by omega) (by omega), nm_w h2 ha (by omega) (by omega), nm_w h3 ha (by omega) (by omega), (ha _ (by omega) (by omega)).trans h4⟩
theorem tB2_0 : ∀ m : Nat, m < 5 → tB 2 (m : Int) = tB 0 (m : Int) := by decide +kernel
theorem tB3_1 : ∀ m : Nat, m < 3 → tB 3 (m : Int) = tB 1 (m : Int) := by decide +kernel
theorem hd_ap {b f k g : Int} {T0 T1 T2 T3 T4 T5 T6 T7 T8 : Int → Int} (e0 : T0 = apS (fun _ => 0) 0 2) (e1 : T1 = apN T0 6 b) (e2 : T2 = snoc T1 (eN 5 b) 32) (e3 : T3 = apN T2 (eN 5 b + 1) f) (e4 : T4 = snoc T3 (eN (eN 5 b) f) 32) (e5 : T5 = apN T4 (eN (eN 5 b) f + 1) k) (e6 : T6 = snoc T5 (eN (eN (eN 5 b) f) k) 32) (e7 : T7 = apN T6 (eN (eN (eN 5 b) f) k + 1) g) (e8 : T8 = snoc T7 (eN (eN (eN (eN 5 b) f) k) g) 59) : HdT T8 b f k g := by
  have r1 := eN_r (e := 5) (z := b)
  have r2 := eN_r (e := eN 5 b) (z := f)
  have r3 := eN_r (e := eN (eN 5 b) f) (z := k)
  have r4 := eN_r (e := eN (eN (eN 5 b) f) k) (z := g)
  have t0 : ∀ j : Int, 0 ≤ j → j < 5 → T0 j = tB 0 j := fun j j0 j1 => by
    have h := apS_n (T := fun _ => 0) (len := 0) (i := 2) j0 (show j < ((ksLen 2 : Nat) : Int) from by show j < 6; omega)
    rw [Int.zero_add] at h
    have h2 := tB2_0 j.toNat (by omega)
    rw [show ((j.toNat : Nat) : Int) = j from by omega] at h2
    rw [e0, h, h2]
  have t5 : T0 5 = 32 := by rw [e0]; decide +kernel
  have a1 : agT T0 T1 6 := by rw [e1]; exact agT_N
  have a2 : agT T1 T2 (eN 5 b) := by rw [e2]; exact agT_s
  have a3 : agT T2 T3 (eN 5 b + 1) := by rw [e3]; exact agT_N
  have a4 : agT T3 T4 (eN (eN 5 b) f) := by rw [e4]; exact agT_s
  have a5 : agT T4 T5 (eN (eN 5 b) f + 1) := by rw [e5]; exact agT_N
  have a6 : agT T5 T6 (eN (eN (eN 5 b) f) k) := by rw [e6]; exact agT_s
  have a7 : agT T6 T7 (eN (eN (eN 5 b) f) k + 1) := by rw [e7]; exact agT_N
  have a8 : agT T7 T8 (eN (eN (eN (eN 5 b) f) k) g) := by rw [e8]; exact agT_s
  have n1 : isNm T1 5 b := by rw [e1]; exact nm_st t5 rfl
  have n3 : isNm T3 (eN 5 b) f := by rw [e3]; exact nm_st (by rw [e2]; exact snoc_n) rfl
  have n5 : isNm T5 (eN (eN 5 b) f) k := by rw [e5]; exact nm_st (by rw [e4]; exact snoc_n) rfl
  have n7 : isNm T7 (eN (eN (eN 5 b) f) k) g := by rw [e7]; exact nm_st (by rw [e6]; exact snoc_n) rfl
  have w5 : agT T5 T8 (eN (eN (eN 5 b) f) k) := agT_t (agT_t a6 a7 (c := eN (eN (eN 5 b) f) k) (by omega) (by omega)) a8 (by omega) (by omega)
  have w3 : agT T3 T8 (eN (eN 5 b) f) := agT_t (agT_t a4 a5 (c := eN (eN 5 b) f) (by omega) (by omega)) w5 (by omega) (by omega)
  have w1 : agT T1 T8 (eN 5 b) := agT_t (agT_t a2 a3 (c := eN 5 b) (by omega) (by omega)) w3 (by omega) (by omega)
  exact ⟨fun j j0 j1 => (w1 j j0 (by omega)).trans ((a1 j j0 (by omega)).trans (t0 j j0 j1)), nm_w n1 w1 (Int.le_refl _) (by decide), nm_w n3 w3 (Int.le_refl _) (by omega), nm_w n5 w5 (Int.le_refl _) (by omega), nm_w n7 a8 (Int.le_refl _) (by omega), by rw [e8]; exact snoc_n⟩
theorem dg_ap {p q o : Int} {T1 T2 T3 T4 T5 T6 T7 : Int → Int} (l0 : 0 ≤ len) (e1 : T1 = apS T len 3) (e2 : T2 = apN T1 (len + 4) p) (e3 : T3 = snoc T2 (eN (len + 3) p) 32) (e4 : T4 = apN T3 (eN (len + 3) p + 1) q) (e5 : T5 = snoc T4 (eN (eN (len + 3) p) q) 32) (e6 : T6 = apN T5 (eN (eN (len + 3) p) q + 1) o) (e7 : T7 = snoc T6 (eN (eN (eN (len + 3) p) q) o) 59) : isDg T7 len p q o ∧ agT T T7 len := by
  have r1 := eN_r (e := len + 3) (z := p)
  have r2 := eN_r (e := eN (len + 3) p) (z := q)
  have r3 := eN_r (e := eN (eN (len + 3) p) q) (z := o)
  have t0 : ∀ j : Int, 0 ≤ j → j < 3 → T1 (len + j) = tB 1 j := fun j j0 j1 => by
    have h := apS_n (T := T) (len := len) (i := 3) j0 (show j < ((ksLen 3 : Nat) : Int) from by show j < 4; omega)
    have h2 := tB3_1 j.toNat (by omega)
    rw [show ((j.toNat : Nat) : Int) = j from by omega] at h2
    rw [e1, h, h2]
  have t3 : T1 (len + 3) = 32 := by
    have h := apS_n (T := T) (len := len) (i := 3) (show (0 : Int) ≤ 3 by decide) (show (3 : Int) < ((ksLen 3 : Nat) : Int) by decide)
    rw [e1, h]
    decide +kernel
  have a1 : agT T T1 len := by rw [e1]; exact agT_S
  have a2 : agT T1 T2 (len + 4) := by rw [e2]; exact agT_N
  have a3 : agT T2 T3 (eN (len + 3) p) := by rw [e3]; exact agT_s
  have a4 : agT T3 T4 (eN (len + 3) p + 1) := by rw [e4]; exact agT_N
  have a5 : agT T4 T5 (eN (eN (len + 3) p) q) := by rw [e5]; exact agT_s
  have a6 : agT T5 T6 (eN (eN (len + 3) p) q + 1) := by rw [e6]; exact agT_N
  have a7 : agT T6 T7 (eN (eN (eN (len + 3) p) q) o) := by rw [e7]; exact agT_s
  have n2 : isNm T2 (len + 3) p := by rw [e2]; exact nm_st t3 (by omega)
  have n4 : isNm T4 (eN (len + 3) p) q := by rw [e4]; exact nm_st (by rw [e3]; exact snoc_n) rfl
  have n6 : isNm T6 (eN (eN (len + 3) p) q) o := by rw [e6]; exact nm_st (by rw [e5]; exact snoc_n) rfl
  have w4 : agT T4 T7 (eN (eN (len + 3) p) q) := agT_t (agT_t a5 a6 (c := eN (eN (len + 3) p) q) (by omega) (by omega)) a7 (by omega) (by omega)
  have w2 : agT T2 T7 (eN (len + 3) p) := agT_t (agT_t a3 a4 (c := eN (len + 3) p) (by omega) (by omega)) w4 (by omega) (by omega)
  have w1 : agT T1 T7 (len + 4) := agT_t a2 w2 (by omega) (by omega)
  exact ⟨⟨fun j j0 j1 => (w1 _ (by omega) (by omega)).trans (t0 j j0 j1), nm_w n2 w2 (Int.le_refl _) (by omega), nm_w n4 w4 (Int.le_refl _) (by omega), nm_w n6 a7 (Int.le_refl _) (by omega), by rw [e7]; exact snoc_n⟩, agT_t a1 w1 (by omega) (by omega)⟩
/-- the builder's room -/
def capF (len : Int) : Nat := if len ≤ 22 then 22 else if len ≤ 46 then 46 else 94
theorem capF_r : 22 ≤ capF len ∧ capF len ≤ 94 := by
  unfold capF
  by_cases g1 : len ≤ 22
  · rw [if_pos g1]; decide
  · rw [if_neg g1]
    by_cases g2 : len ≤ 46
    · rw [if_pos g2]; decide
    · rw [if_neg g2]; decide
theorem growF_c {d : Int} (hd : 0 ≤ d ∧ d ≤ 24) (h : len + d ≤ 94) : grow (capF len) (len + d) = capF (len + d) := by
  unfold grow capF
  by_cases g1 : len ≤ 22
  · rw [if_pos g1]
    by_cases g2 : len + d ≤ 22
    · rw [if_pos g2, if_neg (show ¬ ((22 : Nat) : Int) < len + d by omega)]
    · rw [if_neg g2, if_pos (show ((22 : Nat) : Int) < len + d by omega), if_pos (show len + d ≤ 46 by omega)]
  · rw [if_neg g1, if_neg (show ¬ len + d ≤ 22 by omega)]
    by_cases g3 : len ≤ 46
    · rw [if_pos g3]
      by_cases g4 : len + d ≤ 46
      · rw [if_pos g4, if_neg (show ¬ ((46 : Nat) : Int) < len + d by omega)]
      · rw [if_neg g4, if_pos (show ((46 : Nat) : Int) < len + d by omega)]
    · rw [if_neg g3, if_neg (show ¬ len + d ≤ 46 by omega), if_neg (show ¬ ((94 : Nat) : Int) < len + d by omega)]
theorem grK_1 {cap : Nat} {need : Int} : grK cap need ≤ 1 := by
  unfold grK
  split <;> omega
theorem grN_1 {cap : Nat} {need : Int} (h : cap ≤ 94) : grN cap need ≤ 190 := by
  unfold grN
  split <;> omega
end Grw
/-- the law's builder: n places at most, as many as letters -/
def WB (τ : MM) (len : Int) (T : Int → Int) : Prop := BS τ (capF len) len T ∧ (τ.2.2.2.1 : Int) ≤ len ∧ 0 ≤ len ∧ len ≤ 60
section Wb
variable {l : LX} {k n pc : Nat} {L : LL} {rest : List Value} {σ0 τ : MM} {Q : OO → Prop} {len len2 : Int} {T : Int → Int}
theorem xw_C {c : Int} (hl : l.1.stackTraces = false) (hQ : ∀ o, Q o → PIN 0 o) (h : WB τ len T) (hcc : 0 ≤ c ∧ c ≤ 127) (he : len + 1 = len2) (h60 : len2 ≤ 60) (hcat : cats rest ≤ 8) (hrest : rbS 1 rest = true) (hLL : rbL 1 L = true) (hd : decode (cdN 332) pc = .ok (.invokevirtual 247, 3))
    (kk : ∀ τ', WB τ' len2 (snoc T len c) → Ex l 332 k n (pc + 3) L (.ref 0 :: rest) (sh 0 σ0 τ') Q) : Ex l 332 (k + 1) (n + 190) pc L (.int (iI c) :: .ref 0 :: rest) (sh 0 σ0 τ) Q := by
  obtain ⟨hB, hn, h0, -⟩ := h
  have hc := capF_r (len := len)
  have g1 := grK_1 (cap := capF len) (need := len + 1)
  have g2 := grN_1 (cap := capF len) (need := len + 1) hc.2
  have g3 := growF_c (len := len) (d := 1) (by decide) (by omega)
  refine x_less (k2 := grK (capF len) (len + 1) + k) (n2 := grN (capF len) (len + 1) + n) (by omega) (by omega) rfl ?_
  refine x_bC (b := 0) (n0 := 0) hl c332_247 hB hcc (by omega) (by omega) (by decide) (fun i hi => absurd hi (Nat.not_lt_zero i)) hcat hrest hLL hQ (by decide) (by decide +kernel) (by decide +kernel) hd (fun τ' hB' hn' => kk τ' ⟨?_, by omega, by omega, h60⟩)
  rw [g3, he] at hB'
  exact hB'
theorem xw_N {z : Int} (hl : l.1.stackTraces = false) (hQ : ∀ o, Q o → PIN 0 o) (h : WB τ len T) (hz : 0 ≤ z ∧ z ≤ 999) (he : len + ndg z = len2) (h60 : len2 ≤ 60) (hcat : cats rest ≤ 8) (hrest : rbS 1 rest = true) (hLL : rbL 1 L = true) (hd : decode (cdN 332) pc = .ok (.invokevirtual 279, 3))
    (kk : ∀ τ', WB τ' len2 (apN T len z) → Ex l 332 k n (pc + 3) L (.ref 0 :: rest) (sh 0 σ0 τ') Q) : Ex l 332 (k + 1) (n + 190) pc L (.int (iI z) :: .ref 0 :: rest) (sh 0 σ0 τ) Q := by
  obtain ⟨hB, hn, h0, -⟩ := h
  have hc := capF_r (len := len)
  have hnd := ndg_r (z := z)
  have g1 := grK_1 (cap := capF len) (need := len + ndg z)
  have g2 := grN_1 (cap := capF len) (need := len + ndg z) hc.2
  have g3 := growF_c (len := len) (d := ndg z) (by omega) (by omega)
  refine x_less (k2 := grK (capF len) (len + ndg z) + k) (n2 := grN (capF len) (len + ndg z) + n) (by omega) (by omega) rfl ?_
  refine x_bN (b := 0) (n0 := 0) hl c332_279 hB hz.1 hz.2 (by omega) (by omega) (by omega) (by decide) (fun i hi => absurd hi (Nat.not_lt_zero i)) hcat hrest hLL hQ (by decide) (by decide +kernel) (by decide +kernel) hd (fun τ' hB' hn' => kk τ' ⟨?_, by omega, by omega, h60⟩)
  rw [g3, he] at hB'
  exact hB'
theorem xw_S (hl : l.1.stackTraces = false) (hQ : ∀ o, Q o → PIN 0 o) (h : WB τ len T) (he : len + 4 = len2) (h60 : len2 ≤ 60) (hcat : cats rest ≤ 8) (hrest : rbS 1 rest = true) (hLL : rbL 1 L = true) (hd : decode (cdN 332) pc = .ok (.invokevirtual 284, 3))
    (kk : ∀ τ', WB τ' len2 (apS T len 3) → Ex l 332 k n (pc + 3) L (.ref 0 :: rest) (sh 0 σ0 τ') Q) : Ex l 332 (k + 1) (n + 190) pc L (.ref (scr + 1 + 3) :: .ref 0 :: rest) (sh 0 σ0 τ) Q := by
  obtain ⟨hB, hn, h0, -⟩ := h
  have hc := capF_r (len := len)
  have g1 := grK_1 (cap := capF len) (need := len + ksLen 3)
  have g2 := grN_1 (cap := capF len) (need := len + ksLen 3) hc.2
  have hk : ((ksLen 3 : Nat) : Int) = 4 := rfl
  have g3 := growF_c (len := len) (d := ksLen 3) (by rw [hk]; decide) (by omega)
  refine x_less (k2 := grK (capF len) (len + ksLen 3) + k) (n2 := grN (capF len) (len + ksLen 3) + n) (by omega) (by omega) rfl ?_
  refine x_bS (b := 0) (n0 := 0) (i := 3) hl c332_284 hB (by decide) (by omega) (by omega) (by omega) (by decide) (fun i hi => absurd hi (Nat.not_lt_zero i)) hcat hrest hLL hQ (by decide) (by decide +kernel) (by decide +kernel) hd (fun τ' hB' hn' => kk τ' ⟨?_, by omega, by omega, h60⟩)
  rw [g3, hk, he] at hB'
  exact hB'
theorem law_head (hl : l.1.stackTraces = false) (hn : l.2.1 ≤ 2147483647) (hQ : ∀ o, Q o → PIN 0 o)
    (kk : ∀ (τ : MM) (T : Int → Int) (f : Int), 80 ≤ f → f ≤ 120 → HdT T (1 + celZ l 0 % 5) f (1 + celZ l 3 % 40) (1 + celZ l 4 % 5) → WB τ (hdE (1 + celZ l 0 % 5) f (1 + celZ l 3 % 40) (1 + celZ l 4 % 5)) T → Ex l 332 k n 107 [some (.ref scr), some (.ref 0), some (.int (iI (celZ l 5 % 4))), some (.int (iI 0)), none, none, none, none, none, none, none, none, none] [] (sh 0 mZ τ) Q) :
    Ex l 332 (k + 10) (n + 1600) 0 [some (.ref scr), none, none, none, none, none, none, none, none, none, none, none, none] [] mZ Q := by
  have q0 := celZ_r (l := l) (i := 0)
  have q1 := celZ_r (l := l) (i := 1)
  have q2 := celZ_r (l := l) (i := 2)
  have q3 := celZ_r (l := l) (i := 3)
  have q4 := celZ_r (l := l) (i := 4)
  have q5 := celZ_r (l := l) (i := 5)
  have r1 := eN_r (e := 5) (z := 1 + celZ l 0 % 5)
  have n1 : eN 5 (1 + celZ l 0 % 5) = 7 := by
    unfold eN
    rw [ndg_1 (by omega)]
    rfl
  refine x_less (k2 := k + 9 + 1) (n2 := n + 1590 + nf 15) (by omega) (by show n + 1590 + nf 15 ≤ n + 1600; rw [show nf 15 = 4 from rfl]; omega) rfl ?_
  refine x_newTC (pc := 0) (n0 := 0) n332_244 (show 0 < scr by decide) rfl hQ (show 0 ≤ 0 by decide) (fun i hi => absurd hi (Nat.not_lt_zero i)) rfl rfl d332_0 ?_
  refine x_cut (σ' := sh 0 mZ nb0) (show 1 ≤ 1 by decide) rfl (fun i hi => ?_) ?_
  · have hi : i < 1 := hi
    have e : i = 0 := by omega
    subst e
    exact ⟨rfl, rfl, rfl⟩
  · refine x_dup (pc := 3) rfl d332_3 ?_
    refine x_ldcwS (pc := 4) k332_270 d332_4 ?_
    refine x_less (k2 := 1 + (k + 8)) (n2 := ksLen 2 + 16 + (n + 1520)) (by omega) (by rw [show ksLen 2 = 6 from rfl]; omega) rfl ?_
    refine x_bJ (pc := 7) (b := 0) (n0 := 0) (i := 2) (rest := [.ref 0]) hl c332_272 (by decide) (by decide) (fun i hi => absurd hi (Nat.not_lt_zero i)) (Nat.le_of_ble_eq_true rfl) rfl rfl hQ (by decide) (by decide +kernel) (by decide +kernel) d332_7 (fun τ0 hB0 hn0 => ?_)
    have hB : WB τ0 6 (apS (fun _ => 0) 0 2) := ⟨hB0, by omega, by decide, by decide⟩
    obtain ⟨T0, e0⟩ : ∃ T0, T0 = apS (fun _ => 0) 0 2 := ⟨_, rfl⟩
    rw [← e0] at hB
    refine x_iconst (pc := 10) d332_10 ?_
    refine x_aload_n (pc := 11) rfl d332_11 ?_
    refine x_iconst (pc := 12) d332_12 ?_
    refine x_cSs (pc := 13) (As := [.ref scr, .int (iI 0)]) (rest := [.int (iI 1), .ref 0]) c332_275 (ct_cell hl hn (by omega) (by omega)) rfl rfl (Nat.le_of_ble_eq_true rfl) (by decide +kernel) (by decide +kernel) (by decide +kernel) rfl d332_13 ?_
    refine x_iconst (pc := 16) d332_16 ?_
    refine x_irem (pc := 17) (by omega) (by omega) (by omega) (by omega) d332_17 ?_
    refine x_iadd (pc := 18) d332_18 ?_
    refine xw_N (pc := 19) hl hQ hB (by omega) (len2 := eN 5 (1 + celZ l 0 % 5)) rfl (by omega) (Nat.le_of_ble_eq_true rfl) rfl rfl d332_19 (fun τ1 hB => ?_)
    obtain ⟨T1, e1⟩ : ∃ T1, T1 = apN T0 6 (1 + celZ l 0 % 5) := ⟨_, rfl⟩
    rw [← e1] at hB
    refine x_bipush (pc := 22) (by decide) d332_22 ?_
    refine xw_C (pc := 24) hl hQ hB (by omega) rfl (by omega) (Nat.le_of_ble_eq_true rfl) rfl rfl d332_24 (fun τ2 hB => ?_)
    obtain ⟨T2, e2⟩ : ∃ T2, T2 = snoc T1 (eN 5 (1 + celZ l 0 % 5)) 32 := ⟨_, rfl⟩
    rw [← e2] at hB
    have at53 : ∀ f : Int, 80 ≤ f → f ≤ 120 → Ex l 332 (k + 6) (n + 1140) 53 [some (.ref scr), none, none, none, none, none, none, none, none, none, none, none, none] [.int (iI f), .ref 0] (sh 0 mZ τ2) Q := fun f f0 f1 => by
      have n2 := eN_r (e := eN 5 (1 + celZ l 0 % 5)) (z := f)
      have n3 := eN_r (e := eN (eN 5 (1 + celZ l 0 % 5)) f) (z := 1 + celZ l 3 % 40)
      have n4 := eN_r (e := eN (eN (eN 5 (1 + celZ l 0 % 5)) f) (1 + celZ l 3 % 40)) (z := 1 + celZ l 4 % 5)
      refine xw_N (pc := 53) hl hQ hB (by omega) (len2 := eN (eN 5 (1 + celZ l 0 % 5)) f) rfl (by omega) (Nat.le_of_ble_eq_true rfl) rfl rfl d332_53 (fun τ3 hB => ?_)
      obtain ⟨T3, e3⟩ : ∃ T3, T3 = apN T2 (eN 5 (1 + celZ l 0 % 5) + 1) f := ⟨_, rfl⟩
      rw [← e3] at hB
      refine x_bipush (pc := 56) (by decide) d332_56 ?_
      refine xw_C (pc := 58) hl hQ hB (by omega) rfl (by omega) (Nat.le_of_ble_eq_true rfl) rfl rfl d332_58 (fun τ4 hB => ?_)
      obtain ⟨T4, e4⟩ : ∃ T4, T4 = snoc T3 (eN (eN 5 (1 + celZ l 0 % 5)) f) 32 := ⟨_, rfl⟩
      rw [← e4] at hB
      refine x_iconst (pc := 61) d332_61 ?_
      refine x_aload_n (pc := 62) rfl d332_62 ?_
      refine x_iconst (pc := 63) d332_63 ?_
      refine x_cSs (pc := 64) (As := [.ref scr, .int (iI 3)]) (rest := [.int (iI 1), .ref 0]) c332_275 (ct_cell hl hn (by omega) (by omega)) rfl rfl (Nat.le_of_ble_eq_true rfl) (by decide +kernel) (by decide +kernel) (by decide +kernel) rfl d332_64 ?_
      refine x_bipush (pc := 67) (by decide) d332_67 ?_
      refine x_irem (pc := 69) (by omega) (by omega) (by omega) (by omega) d332_69 ?_
      refine x_iadd (pc := 70) d332_70 ?_
      refine xw_N (pc := 71) hl hQ hB (by omega) (len2 := eN (eN (eN 5 (1 + celZ l 0 % 5)) f) (1 + celZ l 3 % 40)) rfl (by omega) (Nat.le_of_ble_eq_true rfl) rfl rfl d332_71 (fun τ5 hB => ?_)
      obtain ⟨T5, e5⟩ : ∃ T5, T5 = apN T4 (eN (eN 5 (1 + celZ l 0 % 5)) f + 1) (1 + celZ l 3 % 40) := ⟨_, rfl⟩
      rw [← e5] at hB
      refine x_bipush (pc := 74) (by decide) d332_74 ?_
      refine xw_C (pc := 76) hl hQ hB (by omega) rfl (by omega) (Nat.le_of_ble_eq_true rfl) rfl rfl d332_76 (fun τ6 hB => ?_)
      obtain ⟨T6, e6⟩ : ∃ T6, T6 = snoc T5 (eN (eN (eN 5 (1 + celZ l 0 % 5)) f) (1 + celZ l 3 % 40)) 32 := ⟨_, rfl⟩
      rw [← e6] at hB
      refine x_iconst (pc := 79) d332_79 ?_
      refine x_aload_n (pc := 80) rfl d332_80 ?_
      refine x_iconst (pc := 81) d332_81 ?_
      refine x_cSs (pc := 82) (As := [.ref scr, .int (iI 4)]) (rest := [.int (iI 1), .ref 0]) c332_275 (ct_cell hl hn (by omega) (by omega)) rfl rfl (Nat.le_of_ble_eq_true rfl) (by decide +kernel) (by decide +kernel) (by decide +kernel) rfl d332_82 ?_
      refine x_iconst (pc := 85) d332_85 ?_
      refine x_irem (pc := 86) (by omega) (by omega) (by omega) (by omega) d332_86 ?_
      refine x_iadd (pc := 87) d332_87 ?_
      refine xw_N (pc := 88) hl hQ hB (by omega) (len2 := eN (eN (eN (eN 5 (1 + celZ l 0 % 5)) f) (1 + celZ l 3 % 40)) (1 + celZ l 4 % 5)) rfl (by omega) (Nat.le_of_ble_eq_true rfl) rfl rfl d332_88 (fun τ7 hB => ?_)
      obtain ⟨T7, e7⟩ : ∃ T7, T7 = apN T6 (eN (eN (eN 5 (1 + celZ l 0 % 5)) f) (1 + celZ l 3 % 40) + 1) (1 + celZ l 4 % 5) := ⟨_, rfl⟩
      rw [← e7] at hB
      refine x_bipush (pc := 91) (by decide) d332_91 ?_
      refine xw_C (pc := 93) hl hQ hB (by omega) (len2 := hdE (1 + celZ l 0 % 5) f (1 + celZ l 3 % 40) (1 + celZ l 4 % 5)) rfl (by unfold hdE; omega) (Nat.le_of_ble_eq_true rfl) rfl rfl d332_93 (fun τ8 hB => ?_)
      refine x_astore_n (pc := 96) (by decide +kernel) rfl d332_96 ?_
      dsimp only [List.set]
      refine x_aload_n (pc := 97) rfl d332_97 ?_
      refine x_iconst (pc := 98) d332_98 ?_
      refine x_cSs (pc := 99) (As := [.ref scr, .int (iI 5)]) (rest := []) c332_275 (ct_cell hl hn (by omega) (by omega)) rfl rfl (Nat.le_of_ble_eq_true rfl) (by decide +kernel) (by decide +kernel) (by decide +kernel) rfl d332_99 ?_
      refine x_iconst (pc := 102) d332_102 ?_
      refine x_irem (pc := 103) (by omega) (by omega) (by omega) (by omega) d332_103 ?_
      refine x_istore_n (pc := 104) (by decide +kernel) rfl d332_104 ?_
      dsimp only [List.set]
      refine x_iconst (pc := 105) d332_105 ?_
      refine x_istore_n (pc := 106) (by decide +kernel) rfl d332_106 ?_
      dsimp only [List.set]
      exact kk τ8 _ f f0 f1 (hd_ap e0 e1 e2 e3 e4 e5 e6 e7 rfl) hB
    refine x_aload_n (pc := 27) rfl d332_27 ?_
    refine x_iconst (pc := 28) d332_28 ?_
    refine x_cSs (pc := 29) (As := [.ref scr, .int (iI 1)]) (rest := [.ref 0]) c332_275 (ct_cell hl hn (by omega) (by omega)) rfl rfl (Nat.le_of_ble_eq_true rfl) (by decide +kernel) (by decide +kernel) (by decide +kernel) rfl d332_29 ?_
    refine x_iconst (pc := 32) d332_32 ?_
    refine x_irem (pc := 33) (by omega) (by omega) (by omega) (by omega) d332_33 ?_
    refine x_if_ne (pc := 34) (tgt := 51) ⟨by omega, by omega⟩ d332_34 (by decide) (fun _ => ?_) (fun _ => ?_)
    · refine x_bipush (pc := 51) (by decide) d332_51 ?_
      exact at53 100 (by decide) (by decide)
    · refine x_bipush (pc := 37) (by decide) d332_37 ?_
      refine x_aload_n (pc := 39) rfl d332_39 ?_
      refine x_iconst (pc := 40) d332_40 ?_
      refine x_cSs (pc := 41) (As := [.ref scr, .int (iI 2)]) (rest := [.int (iI 80), .ref 0]) c332_275 (ct_cell hl hn (by omega) (by omega)) rfl rfl (Nat.le_of_ble_eq_true rfl) (by decide +kernel) (by decide +kernel) (by decide +kernel) rfl d332_41 ?_
      refine x_bipush (pc := 44) (by decide) d332_44 ?_
      refine x_irem (pc := 46) (by omega) (by omega) (by omega) (by omega) d332_46 ?_
      refine x_iadd (pc := 47) d332_47 ?_
      refine x_goto (pc := 48) (tgt := 53) d332_48 (by decide) ?_
      exact at53 (80 + celZ l 2 % 41) (by omega) (by omega)
end Wb
