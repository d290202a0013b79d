/-! ===== a builder's rows, on ===== -/
section Bld2
variable {l : LX} {y k n pc b n0 : Nat} {L : LL} {rest : List Value} {σ0 τ : MM} {Q : OO → Prop}
theorem x_bJ {ix i : Nat} {ps : List Nat} (hl : l.1.stackTraces = false) (hc : ctN (owN y) ix = some (2, 147, ps)) (hi : i < nTC) (hb : b ≤ 5000) (hr0 : ∀ i, i < b → RF b σ0 i) (hcat : cats rest ≤ 8) (hrest : rbS (b + 1) rest = true) (hLL : rbL (b + 1) L = true) (hQ : ∀ o, Q o → PIN n0 o) (h0 : n0 ≤ b + 1) (hh : htN 147 + 1 ≤ htN y) (hlo : 8 + (mlN 147 + 11) + loN 147 ≤ loN y) (hd : decode (cdN y) pc = .ok (.invokespecial ix, 3))
    (kk : ∀ τ, BS τ (ksLen i + 16) (0 + ksLen i) (apS (fun _ => 0) 0 i) → τ.2.2.2.1 ≤ 3 → Ex l y k n (pc + 3) L rest (sh b σ0 τ) Q) : Ex l y (1 + k) (ksLen i + 16 + n) pc L (.ref (scr + 1 + i) :: .ref b :: rest) (sh b σ0 nb0) Q := by
  have hs : scr = 1000000 := rfl
  have hsv : shv b (.ref 0) = .ref b := by
    show Value.ref (shr b 0) = _
    rw [shr_lt (by omega), Nat.zero_add]
  have hsv2 : shv b (.ref (scr + 1 + i)) = .ref (scr + 1 + i) := by
    show Value.ref (shr b (scr + 1 + i)) = _
    rw [shr_ge (by omega)]
  refine x_jdk (τ0 := nb0) (As := [.ref 0, .ref (scr + 1 + i)]) (rest := rest) (Q1 := fun o => ∃ τ, o = (.inl none, τ) ∧ BS τ (ksLen i + 16) (0 + ksLen i) (apS (fun _ => 0) 0 i) ∧ τ.2.2.2.1 ≤ 3) (run_I hc (ct_sbS hl hi nb0_ok) (by omega) rfl hh hlo hd) (show b + 1 ≤ scr by omega) hr0 (fun i hi j r h => by cases h) (by rw [List.map_cons, List.map_cons, List.map_nil, hsv, hsv2]; rfl) hcat (by
    show ((decide (0 < 1) || decide (scr ≤ 0)) && ((decide (scr + 1 + i < 1) || decide (scr ≤ scr + 1 + i)) && true)) = true
    rw [decide_eq_true (by omega : scr ≤ scr + 1 + i), Bool.or_true]
    rfl) hrest hLL hQ h0 (fun E τ h => by obtain ⟨_, e, -⟩ := h; cases e) (fun v τ h => ?_) (fun v τ h => ?_)
  · obtain ⟨τ1, e, hB, hn⟩ := h
    cases e
    have := bs_n hB
    exact ⟨by omega, this.2.2, fun w hw => by cases hw⟩
  · obtain ⟨τ1, e, hB, hn⟩ := h
    cases e
    exact kk τ hB hn
theorem x_bN {ix cap : Nat} {ps : List Nat} {len z : Int} {T : Int → Int} (hl : l.1.stackTraces = false) (hc : ctN (owN y) ix = some (0, 150, ps)) (h : BS τ cap len T) (hz0 : 0 ≤ z) (hz1 : z ≤ 999) (hc1 : 2 ≤ cap) (hc2 : cap ≤ 140) (hn2 : τ.2.2.2.1 < 900) (hb : b ≤ 5000) (hr0 : ∀ i, i < b → RF b σ0 i) (hcat : cats rest ≤ 8) (hrest : rbS (b + 1) rest = true) (hLL : rbL (b + 1) L = true) (hQ : ∀ o, Q o → PIN n0 o) (h0 : n0 ≤ b + 1) (hh : htN 150 + 1 ≤ htN y) (hlo : 8 + (mlN 150 + 11) + loN 150 ≤ loN y) (hd : decode (cdN y) pc = .ok (.invokevirtual ix, 3))
    (kk : ∀ τ', BS τ' (grow cap (len + ndg z)) (len + ndg z) (apN T len z) → τ'.2.2.2.1 ≤ τ.2.2.2.1 + 1 → Ex l y k n (pc + 3) L (.ref b :: rest) (sh b σ0 τ') Q) : Ex l y (grK cap (len + ndg z) + k) (grN cap (len + ndg z) + n) pc L (.int (iI z) :: .ref b :: rest) (sh b σ0 τ) Q := by
  have hs : scr = 1000000 := rfl
  have hsv : shv b (.ref 0) = .ref b := by
    show Value.ref (shr b 0) = _
    rw [shr_lt (by omega), Nat.zero_add]
  have hN := bs_n h
  have hfr : τ.2.2.2.2.2 = true := h.1
  have ho : isO τ 0 15 := by obtain ⟨-, ⟨w, hb, -⟩, -⟩ := h; exact hb.1
  refine x_jdk (τ0 := τ) (As := [.ref 0, .int (iI z)]) (rest := rest) (Q1 := fun o => ∃ τ', o = (.inl (some (.ref 0)), τ') ∧ BS τ' (grow cap (len + ndg z)) (len + ndg z) (apN T len z) ∧ τ'.2.2.2.1 ≤ τ.2.2.2.1 + 1) (run_V hc (ct_apN hl h hz0 hz1 hc2 hc1 (by omega)) ho rfl hh hlo hd) (by omega) hr0 hN.2.2 (by rw [List.map_cons, List.map_cons, List.map_nil, hsv]; rfl) hcat (by
    show (decide (0 < τ.2.2.2.1) || decide (scr ≤ 0)) && true = true
    rw [decide_eq_true (by omega : 0 < τ.2.2.2.1)]
    rfl) (rbS_mono hrest (by omega)) (rbL_mono hLL (by omega)) hQ (by omega) (fun E τ h => by obtain ⟨_, e, -⟩ := h; cases e) (fun v τ' h => ?_) (fun v τ' h => ?_)
  · obtain ⟨τ1, e, hB, hn⟩ := h
    cases e
    have := bs_n hB
    exact ⟨by omega, this.2.2, fun w hw r hr => by
      cases Option.some.inj hw
      cases hr
      exact Or.inl (by omega)⟩
  · obtain ⟨τ1, e, hB, hn⟩ := h
    cases e
    show Ex l y k n (pc + 3) L ([shv b (.ref 0)] ++ rest) (sh b σ0 τ') Q
    rw [hsv]
    exact kk τ' hB hn
theorem x_bS {ix cap i : Nat} {ps : List Nat} {len : Int} {T : Int → Int} (hl : l.1.stackTraces = false) (hc : ctN (owN y) ix = some (0, 148, ps)) (h : BS τ cap len T) (hi : i < nTC) (hk : (ksLen i : Int) ≤ cap + 2) (hc2 : cap ≤ 140) (hn2 : τ.2.2.2.1 < 900) (hb : b ≤ 5000) (hr0 : ∀ i, i < b → RF b σ0 i) (hcat : cats rest ≤ 8) (hrest : rbS (b + 1) rest = true) (hLL : rbL (b + 1) L = true) (hQ : ∀ o, Q o → PIN n0 o) (h0 : n0 ≤ b + 1) (hh : htN 148 + 1 ≤ htN y) (hlo : 8 + (mlN 148 + 11) + loN 148 ≤ loN y) (hd : decode (cdN y) pc = .ok (.invokevirtual ix, 3))
    (kk : ∀ τ', BS τ' (grow cap (len + ksLen i)) (len + ksLen i) (apS T len i) → τ'.2.2.2.1 ≤ τ.2.2.2.1 + 1 → Ex l y k n (pc + 3) L (.ref b :: rest) (sh b σ0 τ') Q) : Ex l y (grK cap (len + ksLen i) + k) (grN cap (len + ksLen i) + n) pc L (.ref (scr + 1 + i) :: .ref b :: rest) (sh b σ0 τ) Q := by
  have hs : scr = 1000000 := rfl
  have hsv : shv b (.ref 0) = .ref b := by
    show Value.ref (shr b 0) = _
    rw [shr_lt (by omega), Nat.zero_add]
  have hN := bs_n h
  have hsv2 : shv b (.ref (scr + 1 + i)) = .ref (scr + 1 + i) := by
    show Value.ref (shr b (scr + 1 + i)) = _
    rw [shr_ge (by omega)]
  have hfr : τ.2.2.2.2.2 = true := h.1
  have ho : isO τ 0 15 := by obtain ⟨-, ⟨w, hb, -⟩, -⟩ := h; exact hb.1
  refine x_jdk (τ0 := τ) (As := [.ref 0, .ref (scr + 1 + i)]) (rest := rest) (Q1 := fun o => ∃ τ', o = (.inl (some (.ref 0)), τ') ∧ BS τ' (grow cap (len + ksLen i)) (len + ksLen i) (apS T len i) ∧ τ'.2.2.2.1 ≤ τ.2.2.2.1 + 1) (run_V hc (ct_apS hl hi h hk hc2 (by omega)) ho rfl hh hlo hd) (by omega) hr0 hN.2.2 (by rw [List.map_cons, List.map_cons, List.map_nil, hsv, hsv2]; rfl) hcat (by
    show ((decide (0 < τ.2.2.2.1) || decide (scr ≤ 0)) && ((decide (scr + 1 + i < τ.2.2.2.1) || decide (scr ≤ scr + 1 + i)) && true)) = true
    rw [decide_eq_true (by omega : 0 < τ.2.2.2.1), decide_eq_true (by omega : scr ≤ scr + 1 + i), Bool.or_true]
    rfl) (rbS_mono hrest (by omega)) (rbL_mono hLL (by omega)) hQ (by omega) (fun E τ h => by obtain ⟨_, e, -⟩ := h; cases e) (fun v τ' h => ?_) (fun v τ' h => ?_)
  · obtain ⟨τ1, e, hB, hn⟩ := h
    cases e
    have := bs_n hB
    exact ⟨by omega, this.2.2, fun w hw r hr => by
      cases Option.some.inj hw
      cases hr
      exact Or.inl (by omega)⟩
  · obtain ⟨τ1, e, hB, hn⟩ := h
    cases e
    show Ex l y k n (pc + 3) L ([shv b (.ref 0)] ++ rest) (sh b σ0 τ') Q
    rw [hsv]
    exact kk τ' hB hn
end Bld2
