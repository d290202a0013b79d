/-! ===== a builder above the other places ===== -/
theorem rbL_mono {n m : Nat} {L : LL} (h : rbL n L = true) (hm : n ≤ m) : rbL m L = true := by
  refine List.all_eq_true.mpr fun x hx => ?_
  have := List.all_eq_true.mp h x hx
  cases x with
  | none => rfl
  | some v =>
    cases v <;> first | rfl | skip
    case ref r =>
      have h2 : (decide (r < n) || decide (scr ≤ r)) = true := this
      show (decide (r < m) || decide (scr ≤ r)) = true
      rw [Bool.or_eq_true, decide_eq_true_eq, decide_eq_true_eq] at h2 ⊢
      rcases h2 with h2 | h2
      · exact Or.inl (Nat.lt_of_lt_of_le h2 hm)
      · exact Or.inr h2
theorem rbS_mono {n m : Nat} {st : List Value} (h : rbS n st = true) (hm : n ≤ m) : rbS m st = true := by
  refine List.all_eq_true.mpr fun v hv => ?_
  have := List.all_eq_true.mp h v hv
  cases v <;> first | rfl | skip
  case ref r =>
    have h2 : (decide (r < n) || decide (scr ≤ r)) = true := this
    show (decide (r < m) || decide (scr ≤ r)) = true
    rw [Bool.or_eq_true, decide_eq_true_eq, decide_eq_true_eq] at h2 ⊢
    rcases h2 with h2 | h2
    · exact Or.inl (Nat.lt_of_lt_of_le h2 hm)
    · exact Or.inr h2
theorem bs_n {τ : MM} {cap : Nat} {len : Int} {T : Int → Int} (h : BS τ cap len T) : 1 ≤ τ.2.2.2.1 ∧ τ.2.2.2.1 ≤ 1000 ∧ ∀ i, i < τ.2.2.2.1 → RF τ.2.2.2.1 τ i := ⟨by obtain ⟨-, ⟨w, hb, -⟩, -⟩ := h; exact hb.1.1, h.2.2.2.2.2, h.2.2.2.2.1⟩
/-- a builder just made, by itself -/
def nb0 : MM := (fun _ _ => 0, fun _ _ => none, fun _ => 155, 1, 0, true)
theorem nb0_ok : NB nb0 := ⟨rfl, ⟨Nat.zero_lt_one, rfl⟩, fun _ => rfl, fun _ => rfl, rfl⟩
section Sb3
variable {l : LX} {σ : MM} {T : Int → Int}
theorem ct_absI3 (hl : l.1.stackTraces = false) (h : NB σ) : CT l 153 [.ref 0, .int (iI 16)] σ 1 16 (fun o => ∃ τ, o = (.inl none, τ) ∧ BS τ 16 0 T ∧ τ.2.2.2.1 ≤ 2) := by
  obtain ⟨hf, ho, hz, hnn, hn1⟩ := id h
  refine mkct2 hl (by decide) (Nat.le_of_ble_eq_true rfl) (L := [some (.ref 0), some (.int (iI 16))]) rfl ?_
  refine x_aload_n (pc := 0) rfl d153_0 ?_
  refine x_obj (pc := 1) c153_3 (by decide +kernel) (Nat.le_of_ble_eq_true rfl) d153_1 ?_
  refine x_bCS (pc := 4) rfl d153_4 ?_
  refine x_if_eq (pc := 7) (tgt := 25) ⟨by omega, by omega⟩ d153_7 (by decide) (fun _ => by exfalso; omega) (fun _ => ?_)
  refine x_aload_n (pc := 10) rfl d153_10 ?_
  refine x_iload_n (pc := 11) rfl d153_11 ?_
  refine ex_k1 (k := 0) (n := 0) (m := 16) ?_
  refine x_newL (pc := 12) (m0 := 16) rfl (by decide) (by rw [hn1]; decide) hf d153_12 ?_
  refine x_putR (pc := 14) f153_15 (mk_isO ho) (by decide) (by decide) d153_14 ?_
  refine x_aload_n (pc := 17) rfl d153_17 ?_
  refine x_iconst (pc := 18) d153_18 ?_
  refine x_putI (pc := 19) (z := 1) f153_22 (mk_isO ho) (Or.inr (Or.inr ⟨by decide, rfl⟩)) (by decide) rfl d153_19 ?_
  refine x_goto (pc := 22) (tgt := 38) d153_22 (by decide) ?_
  refine x_vret rfl (fun _ => rfl) d153_38 ⟨_, rfl, bs_of h (fun a j => ?_) (by decide), (show σ.2.2.2.1 + 1 ≤ 2 by omega)⟩
  show up2 (mkC σ (10 * 16 + 2)).1 0 1 0 a j = _
  rw [up2_t]
  split
  · rename_i q
    rw [q.1, q.2, mk_I ho.1, hz]
  · rfl
theorem ct_sbI3 (hl : l.1.stackTraces = false) (h : NB σ) : CT l 146 [.ref 0] σ 1 16 (fun o => ∃ τ, o = (.inl none, τ) ∧ BS τ 16 0 T ∧ τ.2.2.2.1 ≤ 2) := by
  refine mkct2 hl (by decide) (Nat.le_of_ble_eq_true rfl) (L := [some (.ref 0)]) rfl ?_
  refine x_aload_n (pc := 0) rfl d146_0 ?_
  refine x_bipush (pc := 1) (by decide) d146_1 ?_
  refine x_callI (k := 0) (n := 0) (pc := 3) (t := 153) (As := [.int (iI 16)]) (rest := []) c146_1 (ct_absI3 (T := T) hl h) (by decide) rfl rfl (Nat.le_of_ble_eq_true rfl) (by decide +kernel) (by decide +kernel) d146_3 (Or.inl h.1) (fun v τ e => ?_) (fun E τ e _ => by obtain ⟨_, e1, _⟩ := e; cases e1)
  obtain ⟨τ1, e1, hB, hn⟩ := e
  cases e1
  exact x_vret rfl (fun _ => rfl) d146_6 ⟨_, rfl, hB, hn⟩
end Sb3
section Bld
variable {l : LX} {y k n pc b n0 : Nat} {L : LL} {rest : List Value} {σ0 τ : MM} {Q : OO → Prop}
theorem x_bI {ix : Nat} {ps : List Nat} (hl : l.1.stackTraces = false) (hc : ctN (owN y) ix = some (2, 146, ps)) (hb : b ≤ 5000) (hr0 : ∀ i, i < b → RF b σ0 i) (hcat : cats rest ≤ 8) (hrest : rbS (b + 1) rest = true) (hLL : rbL (b + 1) L = true) (hQ : ∀ o, Q o → PIN n0 o) (h0 : n0 ≤ b + 1) (hh : htN 146 + 1 ≤ htN y) (hlo : 8 + (mlN 146 + 11) + loN 146 ≤ loN y) (hd : decode (cdN y) pc = .ok (.invokespecial ix, 3))
    (kk : ∀ τ, BS τ 16 0 (fun _ => 0) → τ.2.2.2.1 ≤ 2 → Ex l y k n (pc + 3) L rest (sh b σ0 τ) Q) : Ex l y (1 + k) (16 + n) pc L (.ref b :: rest) (sh b σ0 nb0) Q := by
  have hs : scr = 1000000 := rfl
  have hsv : shv b (.ref 0) = .ref b := by
    show Value.ref (shr b 0) = _
    rw [shr_lt (by omega), Nat.zero_add]
  refine x_jdk (τ0 := nb0) (As := [.ref 0]) (rest := rest) (Q1 := fun o => ∃ τ, o = (.inl none, τ) ∧ BS τ 16 0 (fun _ => 0) ∧ τ.2.2.2.1 ≤ 2) (run_I hc (ct_sbI3 (T := fun _ => 0) hl nb0_ok) (by omega) rfl hh hlo hd) (show b + 1 ≤ scr by omega) hr0 (fun i hi j r h => by cases h) (by rw [List.map_cons, List.map_nil, hsv]; rfl) hcat rfl hrest hLL hQ h0 (fun E τ h => by obtain ⟨_, e, -⟩ := h; cases e) (fun v τ h => ?_) (fun v τ h => ?_)
  · obtain ⟨τ1, e, hB, hn⟩ := h
    cases e
    have := bs_n hB
    exact ⟨by omega, this.2.2, fun w hw => by cases hw⟩
  · obtain ⟨τ1, e, hB, hn⟩ := h
    cases e
    exact kk τ hB hn
theorem x_bC {ix cap : Nat} {ps : List Nat} {len c : Int} {T : Int → Int} (hl : l.1.stackTraces = false) (hc : ctN (owN y) ix = some (0, 149, ps)) (h : BS τ cap len T) (hcc : 0 ≤ c ∧ c ≤ 127) (hc2 : cap ≤ 140) (hn2 : τ.2.2.2.1 < 900) (hb : b ≤ 5000) (hr0 : ∀ i, i < b → RF b σ0 i) (hcat : cats rest ≤ 8) (hrest : rbS (b + 1) rest = true) (hLL : rbL (b + 1) L = true) (hQ : ∀ o, Q o → PIN n0 o) (h0 : n0 ≤ b + 1) (hh : htN 149 + 1 ≤ htN y) (hlo : 8 + (mlN 149 + 11) + loN 149 ≤ loN y) (hd : decode (cdN y) pc = .ok (.invokevirtual ix, 3))
    (kk : ∀ τ', BS τ' (grow cap (len + 1)) (len + 1) (snoc T len c) → τ'.2.2.2.1 ≤ τ.2.2.2.1 + 1 → Ex l y k n (pc + 3) L (.ref b :: rest) (sh b σ0 τ') Q) : Ex l y (grK cap (len + 1) + k) (grN cap (len + 1) + n) pc L (.int (iI c) :: .ref b :: rest) (sh b σ0 τ) Q := by
  have hs : scr = 1000000 := rfl
  have hsv : shv b (.ref 0) = .ref b := by
    show Value.ref (shr b 0) = _
    rw [shr_lt (by omega), Nat.zero_add]
  have hN := bs_n h
  have hfr : τ.2.2.2.2.2 = true := h.1
  have ho : isO τ 0 15 := by obtain ⟨-, ⟨w, hb, -⟩, -⟩ := h; exact hb.1
  refine x_jdk (τ0 := τ) (As := [.ref 0, .int (iI c)]) (rest := rest) (Q1 := fun o => ∃ τ', o = (.inl (some (.ref 0)), τ') ∧ BS τ' (grow cap (len + 1)) (len + 1) (snoc T len c) ∧ τ'.2.2.2.1 ≤ τ.2.2.2.1 + 1) (run_V hc (ct_apC hl h hcc hc2 (by omega)) ho rfl hh hlo hd) (by omega) hr0 hN.2.2 (by rw [List.map_cons, List.map_cons, List.map_nil, hsv]; rfl) hcat (by
    show (decide (0 < τ.2.2.2.1) || decide (scr ≤ 0)) && true = true
    rw [decide_eq_true (by omega : 0 < τ.2.2.2.1)]
    rfl) (rbS_mono hrest (by omega)) (rbL_mono hLL (by omega)) hQ (by omega) (fun E τ h => by obtain ⟨_, e, -⟩ := h; cases e) (fun v τ' h => ?_) (fun v τ' h => ?_)
  · obtain ⟨τ1, e, hB, hn⟩ := h
    cases e
    have := bs_n hB
    exact ⟨by omega, this.2.2, fun w hw r hr => by
      cases Option.some.inj hw
      cases hr
      exact Or.inl (by omega)⟩
  · obtain ⟨τ1, e, hB, hn⟩ := h
    cases e
    show Ex l y k n (pc + 3) L ([shv b (.ref 0)] ++ rest) (sh b σ0 τ') Q
    rw [hsv]
    exact kk τ' hB hn
end Bld
/-! the text of a builder -/
section StM
variable {σ : MM} {w m : Nat}
theorem stM_n : (stM (mkC σ 125) σ.2.2.2.1 w m).2.2.2.1 = σ.2.2.2.1 + 2 := rfl
theorem stM_K {i : Nat} : (stM (mkC σ 125) σ.2.2.2.1 w m).2.2.1 i = if i = σ.2.2.2.1 + 1 then 10 * m + 2 else if i = σ.2.2.2.1 then 125 else σ.2.2.1 i := rfl
theorem stM_R {i j : Nat} : (stM (mkC σ 125) σ.2.2.2.1 w m).2.1 i j = if i = σ.2.2.2.1 ∧ j = 0 then some (σ.2.2.2.1 + 1) else if i = σ.2.2.2.1 + 1 then none else if i = σ.2.2.2.1 then none else σ.2.1 i j := rfl
theorem stM_I {j : Int} : (stM (mkC σ 125) σ.2.2.2.1 w m).1 σ.2.2.2.1 j = 0 := by
  show cp2 (mkC (up2 (mkC σ 125).1 σ.2.2.2.1 1 0, (mkC σ 125).2) (10 * m + 2)).1 w 0 (σ.2.2.2.1 + 1) 0 m σ.2.2.2.1 j = 0
  rw [cp2_p (by omega)]
  show (if σ.2.2.2.1 = σ.2.2.2.1 + 1 then 0 else up2 (mkC σ 125).1 σ.2.2.2.1 1 0 σ.2.2.2.1 j) = 0
  rw [if_neg (by omega)]
  by_cases e : j = 1
  · rw [e]; exact up2_s
  · rw [up2_i e]; exact mk_new j
theorem stM_T {j : Int} (hw : w < σ.2.2.2.1) (h0 : 0 ≤ j) (h1 : j < m) : (stM (mkC σ 125) σ.2.2.2.1 w m).1 (σ.2.2.2.1 + 1) j = σ.1 w j := by
  show cp2 (mkC (up2 (mkC σ 125).1 σ.2.2.2.1 1 0, (mkC σ 125).2) (10 * m + 2)).1 w 0 (σ.2.2.2.1 + 1) 0 m (σ.2.2.2.1 + 1) j = _
  rw [cp2_y h0 h1]
  show (if w = σ.2.2.2.1 + 1 then 0 else up2 (mkC σ 125).1 σ.2.2.2.1 1 0 w j) = _
  rw [if_neg (by omega), up2_p (by omega)]
  exact mk_I hw j
end StM
