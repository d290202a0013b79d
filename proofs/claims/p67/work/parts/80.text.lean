/-! ===== a builder's text, numbered anew ===== -/
section Txt
variable {l : LX} {y k n pc b n0 : Nat} {L : LL} {rest : List Value} {σ0 τ : MM} {Q : OO → Prop}
theorem x_bT {ix cap m : Nat} {ps : List Nat} {len : Int} {T : Int → Int} (hl : l.1.stackTraces = false) (hc : ctN (owN y) ix = some (0, 151, ps)) (h : BS τ cap len T) (hm : (m : Int) = len) (h1 : m < cap) (hn2 : τ.2.2.2.1 < 900) (hb : b ≤ 5000) (hr0 : ∀ i, i < b → RF b σ0 i) (hcat : cats rest ≤ 8) (hrest : rbS (b + 1) rest = true) (hLL : rbL (b + 1) L = true) (hQ : ∀ o, Q o → PIN n0 o) (h0 : n0 ≤ b + 1) (hh : htN 151 + 1 ≤ htN y) (hlo : 8 + (mlN 151 + 11) + loN 151 ≤ loN y) (hd : decode (cdN y) pc = .ok (.invokevirtual ix, 3))
    (kk : ∀ w, w < τ.2.2.2.1 → (∀ j : Int, 0 ≤ j → j < m → τ.1 w j = T j) → (∀ j : Int, 0 ≤ j → j < m → 0 ≤ τ.1 w j ∧ τ.1 w j ≤ 127) → Ex l y k n (pc + 3) L (.ref (b + τ.2.2.2.1) :: rest) (sh b σ0 (stM (mkC τ 125) τ.2.2.2.1 w m)) Q) : Ex l y (2 + k) (m + 4 + n) pc L (.ref b :: rest) (sh b σ0 τ) Q := by
  have hs : scr = 1000000 := rfl
  have hsv : shv b (.ref 0) = .ref b := by
    show Value.ref (shr b 0) = _
    rw [shr_lt (by omega), Nat.zero_add]
  have hN := bs_n h
  have ho : isO τ 0 15 := by obtain ⟨-, ⟨w, hb, -⟩, -⟩ := h; exact hb.1
  have hw0 : ∀ w, isSB τ 0 w cap → ∀ j : Int, 0 ≤ j → j < m → 0 ≤ τ.1 w j ∧ τ.1 w j ≤ 127 := fun w hw j j0 j1 => by
    obtain ⟨-, ⟨w2, hb, -, -, hr⟩, -⟩ := h
    have e : w2 = w := Option.some.inj (hb.2.1.symm.trans hw.2.1)
    rw [← e]
    exact hr j j0 (by omega)
  refine x_jdk (τ0 := τ) (As := [.ref 0]) (rest := rest) (Q1 := fun o => ∃ w, (w < τ.2.2.2.1 ∧ isSB τ 0 w cap ∧ ∀ j : Int, 0 ≤ j → j < len → τ.1 w j = T j) ∧ o = (.inl (some (.ref τ.2.2.2.1)), stM (mkC τ 125) τ.2.2.2.1 w m)) (run_V hc (ct_toS hl h hm h1 (by omega)) ho rfl hh hlo hd) (by omega) hr0 hN.2.2 (by rw [List.map_cons, List.map_nil, hsv]; rfl) hcat (by
    show (decide (0 < τ.2.2.2.1) || decide (scr ≤ 0)) && true = true
    rw [decide_eq_true (by omega : 0 < τ.2.2.2.1)]
    rfl) (rbS_mono hrest (by omega)) (rbL_mono hLL (by omega)) hQ (by omega) (fun E τ h => by obtain ⟨_, _, e⟩ := h; cases e) (fun v τ' h => ?_) (fun v τ' h => ?_)
  · obtain ⟨w, ⟨q1, q2, q3⟩, e⟩ := h
    cases e
    refine ⟨by rw [stM_n]; omega, fun i hi j r hr => ?_, fun w hw r hr => ?_⟩
    · rw [stM_n] at hi ⊢
      rw [stM_R] at hr
      split at hr
      · have := Option.some.inj hr
        omega
      · split at hr
        · cases hr
        · split at hr
          · cases hr
          · rcases hN.2.2 i (by omega) j r hr with g | g
            · exact Or.inl (by omega)
            · exact Or.inr g
    · cases Option.some.inj hw
      cases hr
      exact Or.inl (by rw [stM_n]; omega)
  · obtain ⟨w, ⟨q1, q2, q3⟩, e⟩ := h
    cases e
    show Ex l y k n (pc + 3) L (.ref (shr b τ.2.2.2.1) :: rest) _ Q
    rw [shr_lt (by omega), Nat.add_comm τ.2.2.2.1 b]
    exact kk w q1 (fun j j0 j1 => q3 j j0 (by omega)) (hw0 w q2)
/-- the modem and the text alone -/
theorem x_text {I : Nat → Int → Int} {v : Int} {w m : Nat} (h1 : 1 ≤ τ.2.2.2.1) (hn : τ.2.2.2.1 ≤ 900) (hQ : ∀ o, Q o → PIN 181 o) (hL : ∀ x, some x ∈ L → (∃ z, x = .int z) ∨ x = .ref 0) (kk : Ex l y k n pc L [.ref 181, .ref 0] (tm 183 m I (fun j => (stM (mkC τ 125) τ.2.2.2.1 w m).1 (τ.2.2.2.1 + 1) j) (fun _ => 0) v) Q) : Ex l y k n pc L [.ref (181 + τ.2.2.2.1), .ref 0] (sh 181 (mm 181 I v false) (stM (mkC τ 125) τ.2.2.2.1 w m)) Q := by
  have hs : scr = 1000000 := rfl
  have hi2 : ∀ i, i < 183 → ¬ i < 181 → i = 181 ∨ i = 182 := fun i a b => by omega
  obtain ⟨M, hM⟩ : ∃ M, M = stM (mkC τ 125) τ.2.2.2.1 w m := ⟨_, rfl⟩
  obtain ⟨F, hF⟩ : ∃ F : Nat → Nat, F = fun i => if i < 181 then i else i + τ.2.2.2.1 := ⟨_, rfl⟩
  have F0 : ∀ i, i < 181 → F i = i := fun i hi => by rw [hF]; exact if_pos hi
  have F1 : F 181 = 181 + τ.2.2.2.1 := by rw [hF]; rfl
  have F2 : F 182 = 182 + τ.2.2.2.1 := by rw [hF]; rfl
  have shK : ∀ k, 181 ≤ k → (sh 181 (mm 181 I v false) M).2.2.1 k = M.2.2.1 (k - 181) := fun k hk => if_neg (by omega)
  have shI : ∀ k x, 181 ≤ k → (sh 181 (mm 181 I v false) M).1 k x = M.1 (k - 181) x := fun k x hk => if_neg (by omega)
  have shR : ∀ k x, 181 ≤ k → (sh 181 (mm 181 I v false) M).2.1 k x = (M.2.1 (k - 181) x).map (shr 181) := fun k x hk => if_neg (by omega)
  have n1 : 181 + τ.2.2.2.1 - 181 = τ.2.2.2.1 := by omega
  have n2 : 182 + τ.2.2.2.1 - 181 = τ.2.2.2.1 + 1 := by omega
  have Mn : M.2.2.2.1 = τ.2.2.2.1 + 2 := by rw [hM, stM_n]
  rw [← hM] at kk ⊢
  refine x_re (σ' := tm 183 m I (fun j => M.1 (τ.2.2.2.1 + 1) j) (fun _ => 0) v) (L' := L) (st' := [.ref 181, .ref 0]) (n0 := 181) F rfl (show 183 ≤ scr by omega) (show 181 ≤ 183 by omega) hQ F0 (fun i hi => ?_) (fun i j hi hj e => ?_) (fun i hi => ?_) (fun i hi j => ?_) (fun i hi j => ?_) rfl (fun i x hx => ?_) (fun G ad had => ?_) kk
  · have hi : i < 183 := hi
    show F i < 181 + M.2.2.2.1
    rw [Mn]
    by_cases g : i < 181
    · rw [F0 i g]; omega
    · rcases hi2 i hi g with rfl | rfl
      · rw [F1]; omega
      · rw [F2]; omega
  · have hi : i < 183 := hi
    have hj : j < 183 := hj
    rw [hF] at e
    have e : (if i < 181 then i else i + τ.2.2.2.1) = (if j < 181 then j else j + τ.2.2.2.1) := e
    split at e <;> split at e <;> omega
  · have hi : i < 183 := hi
    by_cases g : i < 181
    · rw [F0 i g]
      exact (if_pos g).trans (if_pos g).symm
    · rcases hi2 i hi g with rfl | rfl
      · rw [F1, shK _ (by omega), n1, hM, stM_K, if_neg (by omega), if_pos rfl]
        rfl
      · rw [F2, shK _ (by omega), n2, hM, stM_K, if_pos rfl]
        rfl
  · have hi : i < 183 := hi
    by_cases g : i < 181
    · rw [F0 i g]
      exact (if_pos g).trans (if_pos g).symm
    · rcases hi2 i hi g with rfl | rfl
      · rw [F1, shI _ _ (by omega), n1, hM, stM_I]
        rfl
      · rw [F2, shI _ _ (by omega), n2]
        rfl
  · have hi : i < 183 := hi
    refine ⟨fun r hr => ?_, ?_⟩
    · have hr : (if i < 181 then R0 i j else if i = 181 ∧ j = 0 then some 182 else none) = some r := hr
      show r < 183
      by_cases g : i < 181
      · rw [if_pos g] at hr
        have := r0_n g hr
        omega
      · rw [if_neg g] at hr
        by_cases g2 : i = 181 ∧ j = 0
        · rw [if_pos g2] at hr
          have := Option.some.inj hr
          omega
        · rw [if_neg g2] at hr
          cases hr
    · by_cases g : i < 181
      · rw [F0 i g]
        have e1 : (tm 183 m I (fun j => M.1 (τ.2.2.2.1 + 1) j) (fun _ => 0) v).2.1 i j = R0 i j := if_pos g
        have e2 : (sh 181 (mm 181 I v false) M).2.1 i j = R0 i j := if_pos g
        rw [e1, e2]
        cases e : R0 i j with
        | none => rfl
        | some r => exact congrArg some (F0 r (r0_n g e))
      · rcases hi2 i hi g with rfl | rfl
        · rw [F1, shR _ _ (by omega), n1, hM, stM_R]
          by_cases e : j = 0
          · subst e
            rw [if_pos ⟨rfl, rfl⟩]
            show some (F 182) = some (shr 181 (τ.2.2.2.1 + 1))
            rw [F2, shr_lt (by omega)]
            exact congrArg some (by omega)
          · rw [if_neg (fun z => e z.2), if_neg (by omega), if_pos rfl]
            have e1 : (tm 183 m I (fun j => (stM (mkC τ 125) τ.2.2.2.1 w m).1 (τ.2.2.2.1 + 1) j) (fun _ => 0) v).2.1 181 j = none := if_neg (fun z => e z.2)
            rw [e1]
            rfl
        · rw [F2, shR _ _ (by omega), n2, hM, stM_R, if_neg (fun z => by omega), if_pos rfl]
          rfl
  · rcases hL x (List.mem_of_getElem? hx) with ⟨z, rfl⟩ | rfl
    · exact Or.inl ⟨hx, fun r hr => by cases hr⟩
    · exact Or.inr ⟨0, (show 0 < 183 by omega), rfl, by rw [F0 0 (by omega)]; exact hx⟩
  · have a1 : ad 181 = G.2.2.2.2.2 (181 + τ.2.2.2.1) := (had 181 (show 181 < 183 by omega)).trans (by rw [F1])
    have a0 : ad 0 = G.2.2.2.2.2 0 := (had 0 (show 0 < 183 by omega)).trans (by rw [F0 0 (by omega)])
    show [Value.ref (adr (G.at ad) 181), Value.ref (adr (G.at ad) 0)] = [Value.ref (adr G (181 + τ.2.2.2.1)), Value.ref (adr G 0)]
    rw [adr_lt (G := G.at ad) (by omega), adr_lt (G := G.at ad) (by omega), adr_lt (G := G) (by omega), adr_lt (G := G) (by omega)]
    show [Value.ref (ad 181), Value.ref (ad 0)] = _
    rw [a1, a0]
end Txt
