/-! ===== a builder: texts, the constructors, toString ===== -/
section Jt
variable {l : LX} {σ : MM} {cap i : Nat} {len : Int} {T : Int → Int}
theorem fr_or9 {τ0 : MM} (h : τ0.2.2.2.2.2 = σ.2.2.2.2.2) {w : Option Value} : σ.2.2.2.2.2 = true ∨ ∀ (v : Option Value) (τ' : MM), ((Sum.inl v, τ') : OO) = (.inl w, τ0) → τ'.2.2.2.2.2 = false := by
  cases hs : σ.2.2.2.2.2 with
  | true => exact Or.inl rfl
  | false => exact Or.inr fun v τ' e => by rw [show τ' = τ0 from congrArg Prod.snd e, h]; exact hs
/-- a text's own method -/
theorem x_callT2 {y k n pc ix t : Nat} {L : LL} {st : List Value} {Q : OO → Prop} {As rest : List Value} {Q1 : OO → Prop} (ht : t < 332) (hh0 : hhN t = []) (hS : (ynN t).cls = "java/lang/String") (hcp : cdW t ∈ T0) (w1 : Cond.methodLink (clsN (owN y)) ix (ynN t) ∈ T0) (w2 : Cond.instanceMethod (ynN t) ∈ T0) (w3 : Cond.selects (ynN t).cls (ynN t) (ynN t) ∈ T0) (w4 : Cond.initialized (ynN t).cls ∈ T0) (hi : i < nTC) (hCT : CT l t (.ref (scr + 1 + i) :: As) σ 0 0 Q1) (hst : st = As.reverse ++ .ref (scr + 1 + i) :: rest) (hlen : As.length = naN t) (hcat : cats rest ≤ 8) (hh : htN t + 1 ≤ htN y) (hlo : 8 + (mlN t + 11) + loN t ≤ loN y) (hd : decode (cdN y) pc = .ok (.invokevirtual ix, 3))
    (hu : σ.2.2.2.2.2 = true ∨ ∀ (v : Option Value) (τ : MM), Q1 (.inl v, τ) → τ.2.2.2.2.2 = false) (kk : ∀ (v : Option Value) (τ : MM), Q1 (.inl v, τ) → Ex l y k n (pc + 3) L (v.toList ++ rest) τ Q) (kx : ∀ (E : Nat) (τ : MM), Q1 (.inr E, τ) → τ.2.2.2.2.2 = false → XH l y k n pc L Q E τ) : Ex l y (0 + k) (0 + n) pc L st σ Q := by
  have hmt := mtOk (y := t) (by omega)
  simp only [mtC, Bool.and_eq_true, decide_eq_true_eq] at hmt
  refine x_call (rest := rest) (As := .ref (scr + 1 + i) :: As) (Q1 := Q1) (fun G p e R s m args below meth c A H locs cells slots ls hA h1 h2 hL hW hsz => ?_) hu kk kx
  have hts := hA.2.2.2.2.2.2.2.2.1
  have hST := hA.2.2.2.2.2.2.2.2.2.2.2.2.2
  have hpre := (pre_of hA hW).2 (cvs G (.ref (scr + 1 + i) :: As))
  have ha : adr G (scr + 1 + i) = G.2.2.2.1 i := adr_tx (Nat.lt_of_lt_of_le hi (by decide))
  obtain ⟨cell, c1, c2, c3, -⟩ := (hST.2.2.1 i hi).1.kept hW.2.2.2.2.1
  have e1 : cvs G (.ref (scr + 1 + i) :: As) = .ref (G.2.2.2.1 i) :: cvs G As := by
    show Value.ref (adr G (scr + 1 + i)) :: cvs G As = _
    rw [ha]
  have hM := hCT G H.size hsz hA.1.2
  rw [e1] at hM hpre ⊢
  refine vx_runV (Ts := cdW t :: T0) (own := clsN (owN y)) (C := "java/lang/String") (cc := cdN y) (nL := mlN y) (y := ynN t) (bytes := cdN t) (maxL := mlN t) (ret := rtN t) (ws := cdW t :: T0) (index := ix) (n := naN t) (b := G.2.2.2.1 i) (As := cvs G As) ⟨hA.2.1, hA.2.2.1, hA.2.2.2.1, hA.2.2.2.2.2.1, ?_⟩ hM ?_ ⟨hpre.1, ⟨cell, c1, c2, c3⟩, hpre.2⟩ rfl (by unfold cvs; rw [List.length_map]; exact hlen) hL.1 ?_ ?_ hd ⟨h1, h2⟩
  · intro w hw2
    rcases List.mem_cons.mp hw2 with rfl | h
    · exact hts _ hcp
    · exact hts w h
  · refine cwV (naN t) (Ts := T0) (ws' := T0) hts (fun w hw2 => ?_) (by rw [cdW_plain hh0]) rfl rfl ⟨hS, hmt.2.1, hmt.2.2, hmt.1.1.2⟩ ⟨by rw [hA.2.2.2.2.2.2.2.2.2.2.1]; exact hh, by rw [hA.2.2.2.2.2.2.2.2.2.2.2.1]; exact hlo⟩
    refine T0_good w ?_
    rcases List.mem_append.mp hw2 with h | h
    · rw [← hS] at h
      simp only [List.mem_cons, List.not_mem_nil, or_false] at h
      rcases h with rfl | rfl | rfl | rfl
      · exact w1
      · exact w2
      · exact w3
      · exact w4
    · rcases List.mem_cons.mp h with rfl | h
      · exact hcp
      · exact h
  · rw [hst]
    show (As.reverse ++ Value.ref (scr + 1 + i) :: rest).map (cv G) = _
    rw [List.map_append, List.map_reverse]
    show _ ++ Value.ref (adr G (scr + 1 + i)) :: _ = _
    rw [ha]
    rfl
  · show 2 * 0 + ((cvs G rest).map fun v => v.category).sum ≤ 8
    rw [cvs_cats]
    omega
/-- String.getBytes of a text -/
theorem ct_getB (hl : l.1.stackTraces = false) (hi : i < nTC) {w m0 : Nat} (h : isB σ w m0) {d : Int} (h0 : 0 ≤ d) (h1 : d + ksLen i ≤ m0) (hm : m0 ≤ 1000) : CT l 169 [.ref (scr + 1 + i), .ref w, .int (iI d), .int (iI 0)] σ 0 0 (fun o => o = (.inl none, (cpT σ.1 i w d (ksLen i), σ.2))) := by
  have hb := ksLen_b hi
  refine mkct2 hl (by decide) (Nat.le_of_ble_eq_true rfl) (L := [some (.ref (scr + 1 + i)), some (.ref w), some (.int (iI d)), some (.int (iI 0))]) rfl ?_
  refine x_aload_n (pc := 0) rfl d169_0 ?_
  refine ex_00 ?_
  refine x_callT (k := 0) (n := 0) (pc := 1) (t := 334) (As := []) (rest := []) (by decide) (by decide) rfl jc334 (inT_any (by decide +kernel)) (inT_any (by decide +kernel)) (inT_any (by decide +kernel)) (inT_any (by decide +kernel)) hi (ct_coder hl hi) rfl rfl (Nat.le_of_ble_eq_true rfl) (by decide +kernel) (by decide +kernel) d169_1 fr_or' (fun v τ e => ?_) (fun E τ e _ => by cases e)
  cases e
  refine x_iload_n (pc := 4) rfl d169_4 ?_
  refine x_icmp_ne (pc := 5) (tgt := 28) ⟨by omega, by omega⟩ ⟨by omega, by omega⟩ d169_5 (by decide) (fun _ => by exfalso; omega) (fun _ => ?_)
  refine x_aload_n (pc := 8) rfl d169_8 ?_
  refine x_tval (pc := 9) rfl hi d169_9 ?_
  refine x_iconst (pc := 12) d169_12 ?_
  refine x_aload_n (pc := 13) rfl d169_13 ?_
  refine x_iload_n (pc := 14) rfl d169_14 ?_
  refine x_iload_n (pc := 15) rfl d169_15 ?_
  refine x_ishl (pc := 16) (z := d) (shl0 _) d169_16 ?_
  refine x_aload_n (pc := 17) rfl d169_17 ?_
  refine x_tval (pc := 18) rfl hi d169_18 ?_
  refine x_tlen (pc := 21) hi d169_21 ?_
  refine x_tcopy (pc := 22) hi h h0 rfl h1 (by omega) c169_212 (by decide +kernel) (Nat.le_of_ble_eq_true rfl) d169_22 ?_
  refine x_goto (pc := 25) (tgt := 43) d169_25 (by decide) ?_
  exact x_vret rfl (fun _ => rfl) d169_43 rfl
theorem ct_infl (hl : l.1.stackTraces = false) (hi : i < nTC) {w : Nat} (h : isSB σ 0 w cap) : CT l 162 [.ref 0, .ref (scr + 1 + i)] σ 0 0 (fun o => o = (.inl none, σ)) := by
  refine mkct2 hl (by decide) (Nat.le_of_ble_eq_true rfl) (L := [some (.ref 0), some (.ref (scr + 1 + i))]) rfl ?_
  refine x_bCS (pc := 0) rfl d162_0 ?_
  refine x_if_eq (pc := 3) (tgt := 21) ⟨by omega, by omega⟩ d162_3 (by decide) (fun _ => by exfalso; omega) (fun _ => ?_)
  refine x_aload_n (pc := 6) rfl d162_6 ?_
  refine x_getI (pc := 7) f162_22 h.1 (by decide) (z := 1) rfl d162_7 ?_
  refine x_val h.2.2.2 ?_
  refine x_aload_n (pc := 10) rfl d162_10 ?_
  refine ex_00 ?_
  refine x_callT (k := 0) (n := 0) (pc := 11) (t := 334) (As := []) (rest := [.int (iI 0)]) (by decide) (by decide) rfl jc334 (inT_any (by decide +kernel)) (inT_any (by decide +kernel)) (inT_any (by decide +kernel)) (inT_any (by decide +kernel)) hi (ct_coder hl hi) rfl rfl (Nat.le_of_ble_eq_true rfl) (by decide +kernel) (by decide +kernel) d162_11 fr_or' (fun v τ e => ?_) (fun E τ e _ => by cases e)
  cases e
  refine x_icmp_eq (pc := 14) (tgt := 21) ⟨by omega, by omega⟩ ⟨by omega, by omega⟩ d162_14 (by decide) (fun _ => ?_) (fun _ => by exfalso; omega)
  exact x_vret rfl (fun _ => rfl) d162_21 rfl
theorem ct_putS (hl : l.1.stackTraces = false) (hi : i < nTC) {w : Nat} (h : isSB σ 0 w cap) (hc : cap ≤ 1000) {d : Int} (h0 : 0 ≤ d) (h1 : d + ksLen i ≤ cap) : CT l 161 [.ref 0, .int (iI d), .ref (scr + 1 + i)] σ 0 0 (fun o => o = (.inl none, (cpT σ.1 i w d (ksLen i), σ.2))) := by
  refine mkct2 hl (by decide) (Nat.le_of_ble_eq_true rfl) (L := [some (.ref 0), some (.int (iI d)), some (.ref (scr + 1 + i))]) rfl ?_
  refine x_aload_n (pc := 0) rfl d161_0 ?_
  refine x_aload_n (pc := 1) rfl d161_1 ?_
  refine ex_00 ?_
  refine x_callP (k := 0) (n := 0) (pc := 2) (t := 162) (As := [.ref (scr + 1 + i)]) (rest := []) c161_397 rfl (ct_infl hl hi h) h.1 rfl rfl (Nat.le_of_ble_eq_true rfl) (by decide +kernel) (by decide +kernel) d161_2 fr_or' (fun v τ e => ?_) (fun E τ e _ => by cases e)
  cases e
  refine x_aload_n (pc := 5) rfl d161_5 ?_
  refine x_aload_n (pc := 6) rfl d161_6 ?_
  refine x_getR (pc := 7) f161_15 h.1 (by decide) h.2.1 d161_7 ?_
  refine x_iload_n (pc := 10) rfl d161_10 ?_
  refine x_aload_n (pc := 11) rfl d161_11 ?_
  refine x_getI (pc := 12) f161_22 h.1 (by decide) (z := 1) rfl d161_12 ?_
  refine x_val h.2.2.2 ?_
  refine ex_00 ?_
  refine x_callT2 (k := 0) (n := 0) (pc := 15) (t := 169) (As := [.ref w, .int (iI d), .int (iI 0)]) (rest := []) (by decide) rfl rfl (cpOk (by decide)) (inT_any (by decide +kernel)) (inT_any (by decide +kernel)) (inT_any (by decide +kernel)) (inT_any (by decide +kernel)) hi (ct_getB hl hi h.2.2.1 h0 h1 hc) rfl rfl (Nat.le_of_ble_eq_true rfl) (by decide +kernel) (by decide +kernel) d161_15 (fr_or9 (σ := σ) (τ0 := (cpT σ.1 i w d (ksLen i), σ.2)) rfl) (fun v τ e => ?_) (fun E τ e _ => by cases e)
  cases e
  exact x_vret rfl (fun _ => rfl) d161_18 rfl
/-- a text behind what there is -/
def apS (T : Int → Int) (len : Int) (i : Nat) : Int → Int := fun j => if len ≤ j ∧ j < len + ksLen i then tB i (j - len) else T j
theorem ct_apS0 (hl : l.1.stackTraces = false) (hi : i < nTC) (h : BS σ cap len T) (hk : (ksLen i : Int) ≤ cap + 2) (hc2 : cap ≤ 140) (hn2 : σ.2.2.2.1 < 1000) :
    CT l 155 [.ref 0, .ref (scr + 1 + i)] σ (grK cap (len + ksLen i)) (grN cap (len + ksLen i)) (fun o => ∃ τ, o = (.inl (some (.ref 0)), τ) ∧ BS τ (grow cap (len + ksLen i)) (len + ksLen i) (apS T len i) ∧ τ.2.2.2.1 ≤ σ.2.2.2.1 + 1) := by
  have hb := ksLen_b hi
  obtain ⟨hf, ⟨w0, hb0, -, -, -⟩, hlen0, hc0, -, -⟩ := id h
  have hg := grow_ge cap (need := len + ksLen i) (by omega)
  refine mkct2 hl (by decide) (Nat.le_of_ble_eq_true rfl) (L := [some (.ref 0), some (.ref (scr + 1 + i)), none]) rfl ?_
  refine ex_kn ?_
  refine x_aload_n (pc := 0) rfl d155_0 ?_
  refine x_ifnn (pc := 1) (tgt := 9) d155_1 (by decide) ?_
  refine x_aload_n (pc := 9) rfl d155_9 ?_
  refine ex_00 ?_
  refine x_callT (k := grK cap (len + ksLen i) + 0) (n := grN cap (len + ksLen i) + 0) (pc := 10) (t := 333) (As := []) (rest := []) (by decide) (by decide) rfl jc333 (inT_any (by decide +kernel)) (inT_any (by decide +kernel)) (inT_any (by decide +kernel)) (inT_any (by decide +kernel)) hi (ct_slen hl hi) rfl rfl (Nat.le_of_ble_eq_true rfl) (by decide +kernel) (by decide +kernel) d155_10 fr_or' (fun v τ e => ?_) (fun E τ e _ => by cases e)
  cases e
  refine x_istore_n (pc := 13) (by decide +kernel) rfl d155_13 ?_
  refine x_aload_n (pc := 14) rfl d155_14 ?_
  refine x_aload_n (pc := 15) rfl d155_15 ?_
  refine x_getI (pc := 16) f155_79 hb0.1 (by decide) (z := 3) rfl d155_16 ?_
  refine x_val hlen0 ?_
  refine x_iload_n (pc := 19) rfl d155_19 ?_
  refine x_iadd (pc := 20) d155_20 ?_
  refine x_callP (k := 0) (n := 0) (pc := 21) (t := 158) (As := [.int (iI (len + ksLen i))]) (rest := []) c155_100 rfl (ct_ens hl h (need := len + ksLen i) (by omega) (by omega) hc2 hn2) hb0.1 rfl rfl (Nat.le_of_ble_eq_true rfl) (by decide +kernel) (by decide +kernel) d155_21 (Or.inl hf) (fun v τ e => ?_) (fun E τ e _ => by obtain ⟨_, e1, _⟩ := e; cases e1)
  obtain ⟨τ1, e1, hB, hn1⟩ := e
  cases e1
  obtain ⟨hf1, ⟨w, hb, hw0, hT, hr⟩, hlen, hcl, hRF, hn⟩ := id hB
  have hcap := grow_cap cap (len + ksLen i) hc2
  refine x_aload_n (pc := 24) rfl d155_24 ?_
  refine x_aload_n (pc := 25) rfl d155_25 ?_
  refine x_getI (pc := 26) f155_79 hb.1 (by decide) (z := 3) rfl d155_26 ?_
  refine x_val hlen ?_
  refine x_aload_n (pc := 29) rfl d155_29 ?_
  refine ex_00 ?_
  refine x_callP (k := 0) (n := 0) (pc := 30) (t := 161) (As := [.int (iI len), .ref (scr + 1 + i)]) (rest := []) c155_208 rfl (ct_putS hl hi hb (by omega) (d := len) (by omega) (by omega)) hb.1 rfl rfl (Nat.le_of_ble_eq_true rfl) (by decide +kernel) (by decide +kernel) d155_30 (Or.inl hf1) (fun v τ e => ?_) (fun E τ e _ => by cases e)
  cases e
  refine x_aload_n (pc := 33) rfl d155_33 ?_
  refine x_dup (pc := 34) rfl d155_34 ?_
  refine x_getI (pc := 35) f155_79 hb.1 (by decide) (z := 3) rfl d155_35 ?_
  refine x_val (w := len) (by show (if (0 : Nat) = w ∧ _ then _ else τ.1 0 3) = len; rw [if_neg (fun q => hw0 q.1.symm)]; exact hlen) ?_
  refine x_iload_n (pc := 38) rfl d155_38 ?_
  refine x_iadd (pc := 39) d155_39 ?_
  refine x_putI (pc := 40) (z := 3) f155_79 hb.1 (Or.inl (by decide)) (by decide) rfl d155_40 ?_
  refine x_aload_n (pc := 43) rfl d155_43 ?_
  refine x_aret rfl (Or.inl ⟨_, rfl⟩) (fun _ => rfl) d155_44 ⟨_, rfl, ⟨hf1, ⟨w, ⟨hb.1, hb.2.1, hb.2.2.1, ?_⟩, hw0, fun j j0 j1 => ?_, fun j j0 j1 => ?_⟩, ?_, ⟨by omega, by omega, by omega⟩, hRF, hn⟩, hn1⟩
  · show up2 (cpT τ.1 i w len (ksLen i)) 0 3 (len + ksLen i) 0 1 = 0
    rw [up2_t, if_neg (fun q => by have := q.2; omega)]
    show (if (0 : Nat) = w ∧ _ then _ else τ.1 0 1) = 0
    rw [if_neg (fun q => hw0 q.1.symm)]
    exact hb.2.2.2
  · show up2 (cpT τ.1 i w len (ksLen i)) 0 3 (len + ksLen i) w j = apS T len i j
    rw [up2_t, if_neg (fun q => hw0 q.1)]
    show (if w = w ∧ len ≤ j ∧ j < len + (ksLen i : Int) then tB i (0 + (j - len)) else τ.1 w j) = _
    unfold apS
    by_cases e : len ≤ j ∧ j < len + (ksLen i : Int)
    · rw [if_pos ⟨rfl, e⟩, if_pos e, Int.zero_add]
    · rw [if_neg (fun q => e q.2), if_neg e]
      exact hT j j0 (by omega)
  · show 0 ≤ up2 (cpT τ.1 i w len (ksLen i)) 0 3 (len + ksLen i) w j ∧ up2 (cpT τ.1 i w len (ksLen i)) 0 3 (len + ksLen i) w j ≤ 127
    rw [up2_t, if_neg (fun q => hw0 q.1)]
    show 0 ≤ (if w = w ∧ len ≤ j ∧ j < len + (ksLen i : Int) then tB i (0 + (j - len)) else τ.1 w j) ∧ (if w = w ∧ len ≤ j ∧ j < len + (ksLen i : Int) then tB i (0 + (j - len)) else τ.1 w j) ≤ 127
    split
    · rename_i q
      exact tB_r hi (by omega) (by omega)
    · exact hr j j0 j1
  · show up2 (cpT τ.1 i w len (ksLen i)) 0 3 (len + ksLen i) 0 3 = len + ksLen i
    rw [up2_t, if_pos ⟨rfl, rfl⟩]
theorem ct_apS (hl : l.1.stackTraces = false) (hi : i < nTC) (h : BS σ cap len T) (hk : (ksLen i : Int) ≤ cap + 2) (hc2 : cap ≤ 140) (hn2 : σ.2.2.2.1 < 1000) :
    CT l 148 [.ref 0, .ref (scr + 1 + i)] σ (grK cap (len + ksLen i)) (grN cap (len + ksLen i)) (fun o => ∃ τ, o = (.inl (some (.ref 0)), τ) ∧ BS τ (grow cap (len + ksLen i)) (len + ksLen i) (apS T len i) ∧ τ.2.2.2.1 ≤ σ.2.2.2.1 + 1) := by
  obtain ⟨hf, ⟨w0, hb0, -, -, -⟩, -⟩ := id h
  refine mkct2 hl (by decide) (Nat.le_of_ble_eq_true rfl) (L := [some (.ref 0), some (.ref (scr + 1 + i))]) rfl ?_
  refine ex_kn ?_
  refine x_aload_n (pc := 0) rfl d148_0 ?_
  refine x_aload_n (pc := 1) rfl d148_1 ?_
  refine x_callSU (k := 0) (n := 0) (pc := 2) (t := 155) (As := [.ref (scr + 1 + i)]) (rest := []) c148_29 rfl rfl (ct_apS0 hl hi h hk hc2 hn2) hb0.1 rfl rfl (Nat.le_of_ble_eq_true rfl) (by decide +kernel) (by decide +kernel) d148_2 (Or.inl hf) (fun v τ e => ?_) (fun E τ e _ => by obtain ⟨_, e1, _⟩ := e; cases e1)
  obtain ⟨τ1, e1, hB, hn1⟩ := e
  cases e1
  refine x_pop (pc := 5) rfl d148_5 ?_
  refine x_aload_n (pc := 6) rfl d148_6 ?_
  exact x_aret rfl (Or.inl ⟨_, rfl⟩) (fun _ => rfl) d148_7 ⟨_, rfl, hB, hn1⟩
theorem ct_apS2 (hl : l.1.stackTraces = false) (hi : i < nTC) (h : BS σ cap len T) (hk : (ksLen i : Int) ≤ cap + 2) (hc2 : cap ≤ 140) (hn2 : σ.2.2.2.1 < 1000) :
    CT l 152 [.ref 0, .ref (scr + 1 + i)] σ (grK cap (len + ksLen i)) (grN cap (len + ksLen i)) (fun o => ∃ τ, o = (.inl (some (.ref 0)), τ) ∧ BS τ (grow cap (len + ksLen i)) (len + ksLen i) (apS T len i) ∧ τ.2.2.2.1 ≤ σ.2.2.2.1 + 1) := by
  obtain ⟨hf, ⟨w0, hb0, -, -, -⟩, -⟩ := id h
  refine mkct2 hl (by decide) (Nat.le_of_ble_eq_true rfl) (L := [some (.ref 0), some (.ref (scr + 1 + i))]) rfl ?_
  refine ex_kn ?_
  refine x_aload_n (pc := 0) rfl d152_0 ?_
  refine x_aload_n (pc := 1) rfl d152_1 ?_
  refine x_callV (k := 0) (n := 0) (pc := 2) (t := 148) (As := [.ref (scr + 1 + i)]) (rest := []) c152_23 (ct_apS hl hi h hk hc2 hn2) hb0.1 rfl rfl (Nat.le_of_ble_eq_true rfl) (by decide +kernel) (by decide +kernel) d152_2 (Or.inl hf) (fun v τ e => ?_) (fun E τ e _ => by obtain ⟨_, e1, _⟩ := e; cases e1)
  obtain ⟨τ1, e1, hB, hn1⟩ := e
  cases e1
  exact x_aret rfl (Or.inl ⟨_, rfl⟩) (fun _ => rfl) d152_5 ⟨_, rfl, hB, hn1⟩
/-- a builder that is just made -/
def NB (σ : MM) : Prop := σ.2.2.2.2.2 = true ∧ isO σ 0 15 ∧ (∀ j, σ.1 0 j = 0) ∧ (∀ j, σ.2.1 0 j = none) ∧ σ.2.2.2.1 = 1
/-- .. with its bytes -/
def NB1 (σ : MM) (m1 : Nat) : MM := ((up2 (mkC σ (10 * m1 + 2)).1 0 1 0), upr (mkC σ (10 * m1 + 2)).2.1 0 0 σ.2.2.2.1, (mkC σ (10 * m1 + 2)).2.2)
theorem bs_of {m1 : Nat} {I : Nat → Int → Int} (h : NB σ) (hI : ∀ a j, I a j = (mkC σ (10 * m1 + 2)).1 a j) (hm : m1 ≤ 140) : BS (I, upr (mkC σ (10 * m1 + 2)).2.1 0 0 σ.2.2.2.1, (mkC σ (10 * m1 + 2)).2.2) m1 0 T := by
  obtain ⟨hf, ho, hz, hn, h1⟩ := h
  have q0 : 0 < σ.2.2.2.1 := ho.1
  have hz2 : ∀ j, I 0 j = 0 := fun j => by rw [hI, mk_I q0]; exact hz j
  refine ⟨hf, ⟨σ.2.2.2.1, ⟨⟨Nat.lt_succ_of_lt q0, (mk_K q0).trans ho.2⟩, ?_, ⟨Nat.lt_succ_self _, mk_Kn⟩, hz2 1⟩, by omega, fun j j0 j1 => by omega, fun j j0 j1 => ?_⟩, hz2 3, ⟨by omega, by omega, by omega⟩, fun i hi j r hj => ?_, by show σ.2.2.2.1 + 1 ≤ 1000; omega⟩
  · show (if (0 : Nat) = 0 ∧ (0 : Nat) = 0 then some σ.2.2.2.1 else (mkC σ (10 * m1 + 2)).2.1 0 0) = some σ.2.2.2.1
    exact if_pos ⟨rfl, rfl⟩
  · show 0 ≤ I σ.2.2.2.1 j ∧ I σ.2.2.2.1 j ≤ 127
    rw [hI, mk_new]
    exact ⟨by decide, by decide⟩
  · have hj2 : (if i = 0 ∧ j = 0 then some σ.2.2.2.1 else (mkC σ (10 * m1 + 2)).2.1 i j) = some r := hj
    show r < σ.2.2.2.1 + 1 ∨ scr ≤ r
    split at hj2
    · have := Option.some.inj hj2
      omega
    · have hi2 : i < σ.2.2.2.1 + 1 := hi
      by_cases e : i = σ.2.2.2.1
      · subst e
        rw [mk_Rn] at hj2
        cases hj2
      · rw [mk_R (by omega), show i = 0 from by omega, hn] at hj2
        cases hj2
theorem ct_absI (hl : l.1.stackTraces = false) (h : NB σ) : CT l 153 [.ref 0, .int (iI 16)] σ 1 16 (fun o => ∃ τ, o = (.inl none, τ) ∧ BS τ 16 0 T) := by
  obtain ⟨hf, ho, hz, hnn, hn1⟩ := id h
  refine mkct2 hl (by decide) (Nat.le_of_ble_eq_true rfl) (L := [some (.ref 0), some (.int (iI 16))]) rfl ?_
  refine x_aload_n (pc := 0) rfl d153_0 ?_
  refine x_obj (pc := 1) c153_3 (by decide +kernel) (Nat.le_of_ble_eq_true rfl) d153_1 ?_
  refine x_bCS (pc := 4) rfl d153_4 ?_
  refine x_if_eq (pc := 7) (tgt := 25) ⟨by omega, by omega⟩ d153_7 (by decide) (fun _ => by exfalso; omega) (fun _ => ?_)
  refine x_aload_n (pc := 10) rfl d153_10 ?_
  refine x_iload_n (pc := 11) rfl d153_11 ?_
  refine ex_k1 (k := 0) (n := 0) (m := 16) ?_
  refine x_newL (pc := 12) (m0 := 16) rfl (by decide) (by rw [hn1]; decide) hf d153_12 ?_
  refine x_putR (pc := 14) f153_15 (mk_isO ho) (by decide) (by decide) d153_14 ?_
  refine x_aload_n (pc := 17) rfl d153_17 ?_
  refine x_iconst (pc := 18) d153_18 ?_
  refine x_putI (pc := 19) (z := 1) f153_22 (mk_isO ho) (Or.inr (Or.inr ⟨by decide, rfl⟩)) (by decide) rfl d153_19 ?_
  refine x_goto (pc := 22) (tgt := 38) d153_22 (by decide) ?_
  refine x_vret rfl (fun _ => rfl) d153_38 ⟨_, rfl, bs_of h (fun a j => ?_) (by decide)⟩
  show up2 (mkC σ (10 * 16 + 2)).1 0 1 0 a j = _
  rw [up2_t]
  split
  · rename_i q
    rw [q.1, q.2, mk_I ho.1, hz]
  · rfl
theorem ct_sbI (hl : l.1.stackTraces = false) (h : NB σ) : CT l 146 [.ref 0] σ 1 16 (fun o => ∃ τ, o = (.inl none, τ) ∧ BS τ 16 0 T) := by
  refine mkct2 hl (by decide) (Nat.le_of_ble_eq_true rfl) (L := [some (.ref 0)]) rfl ?_
  refine x_aload_n (pc := 0) rfl d146_0 ?_
  refine x_bipush (pc := 1) (by decide) d146_1 ?_
  refine x_callI (k := 0) (n := 0) (pc := 3) (t := 153) (As := [.int (iI 16)]) (rest := []) c146_1 (ct_absI (T := T) hl h) (by decide) rfl rfl (Nat.le_of_ble_eq_true rfl) (by decide +kernel) (by decide +kernel) d146_3 (Or.inl h.1) (fun v τ e => ?_) (fun E τ e _ => by obtain ⟨_, e1, _⟩ := e; cases e1)
  obtain ⟨τ1, e1, hB⟩ := e
  cases e1
  exact x_vret rfl (fun _ => rfl) d146_6 ⟨_, rfl, hB⟩
theorem ct_absS (hl : l.1.stackTraces = false) (hi : i < nTC) (h : NB σ) : CT l 154 [.ref 0, .ref (scr + 1 + i)] σ 1 (ksLen i + 16) (fun o => ∃ τ, o = (.inl none, τ) ∧ BS τ (ksLen i + 16) (0 + ksLen i) (apS (fun _ => 0) 0 i) ∧ τ.2.2.2.1 ≤ 3) := by
  have hb := ksLen_b hi
  obtain ⟨hf, ho, hz, hnn, hn1⟩ := id h
  have hB0 : ∀ I : Nat → Int → Int, (∀ a j, I a j = (mkC σ (10 * (ksLen i + 16) + 2)).1 a j) → BS (I, upr (mkC σ (10 * (ksLen i + 16) + 2)).2.1 0 0 σ.2.2.2.1, (mkC σ (10 * (ksLen i + 16) + 2)).2.2) (ksLen i + 16) 0 (fun _ => 0) := fun I hI => bs_of h hI (by omega)
  refine mkct2 hl (by decide) (Nat.le_of_ble_eq_true rfl) (L := [some (.ref 0), some (.ref (scr + 1 + i)), none, none, none]) rfl ?_
  refine x_aload_n (pc := 0) rfl d154_0 ?_
  refine x_obj (pc := 1) c154_3 (by decide +kernel) (Nat.le_of_ble_eq_true rfl) d154_1 ?_
  refine x_aload_n (pc := 4) rfl d154_4 ?_
  refine ex_00 ?_
  refine x_callT (k := 1) (n := ksLen i + 16) (pc := 5) (t := 333) (As := []) (rest := []) (by decide) (by decide) rfl jc333 (inT_any (by decide +kernel)) (inT_any (by decide +kernel)) (inT_any (by decide +kernel)) (inT_any (by decide +kernel)) hi (ct_slen hl hi) rfl rfl (Nat.le_of_ble_eq_true rfl) (by decide +kernel) (by decide +kernel) d154_5 fr_or' (fun v τ e => ?_) (fun E τ e _ => by cases e)
  cases e
  refine x_istore_n (pc := 8) (by decide +kernel) rfl d154_8 ?_
  refine x_iload_n (pc := 9) rfl d154_9 ?_
  refine x_ldc (pc := 10) (z := 2147483631) k154_38 (by decide) d154_10 ?_
  refine x_icmp_ge (pc := 12) (tgt := 22) ⟨by omega, by omega⟩ ⟨by omega, by omega⟩ d154_12 (by decide) (fun _ => by exfalso; omega) (fun _ => ?_)
  refine x_iload_n (pc := 15) rfl d154_15 ?_
  refine x_bipush (pc := 16) (by decide) d154_16 ?_
  refine x_iadd (pc := 18) d154_18 ?_
  refine x_goto (pc := 19) (tgt := 24) d154_19 (by decide) ?_
  refine x_istore_n (pc := 24) (by decide +kernel) rfl d154_24 ?_
  refine x_aload_n (pc := 25) rfl d154_25 ?_
  refine ex_00 ?_
  refine x_callT (k := 1) (n := ksLen i + 16) (pc := 26) (t := 334) (As := []) (rest := []) (by decide) (by decide) rfl jc334 (inT_any (by decide +kernel)) (inT_any (by decide +kernel)) (inT_any (by decide +kernel)) (inT_any (by decide +kernel)) hi (ct_coder hl hi) rfl rfl (Nat.le_of_ble_eq_true rfl) (by decide +kernel) (by decide +kernel) d154_26 fr_or' (fun v τ e => ?_) (fun E τ e _ => by cases e)
  cases e
  refine x_istore (pc := 29) (by decide +kernel) rfl d154_29 ?_
  refine x_aload_n (pc := 31) rfl d154_31 ?_
  refine x_iload (pc := 32) rfl d154_32 ?_
  refine x_putI (pc := 34) (z := 1) f154_22 ho (Or.inr (Or.inr ⟨by decide, rfl⟩)) (by decide) rfl d154_34 ?_
  refine x_aload_n (pc := 37) rfl d154_37 ?_
  refine x_iload (pc := 38) rfl d154_38 ?_
  refine x_if_ne (pc := 40) (tgt := 49) ⟨by omega, by omega⟩ d154_40 (by decide) (fun _ => by exfalso; omega) (fun _ => ?_)
  refine x_iload_n (pc := 43) rfl d154_43 ?_
  refine ex_k1 (k := 0) (n := 0) (m := ksLen i + 16) ?_
  refine x_newL (pc := 44) (σ := (up2 σ.1 0 1 0, σ.2)) (m0 := ksLen i + 16) (by omega) (by omega) (by show σ.2.2.2.1 < scr; rw [hn1]; decide) hf d154_44 ?_
  refine x_goto (pc := 46) (tgt := 53) d154_46 (by decide) ?_
  refine x_putR (pc := 53) f154_15 ⟨Nat.lt_succ_of_lt ho.1, (mk_K (σ := σ) ho.1).trans ho.2⟩ (by decide) (by decide) d154_53 ?_
  refine x_aload_n (pc := 56) rfl d154_56 ?_
  refine x_aload_n (pc := 57) rfl d154_57 ?_
  have hB := hB0 (mkC (up2 σ.1 0 1 0, σ.2) (10 * (ksLen i + 16) + 2)).1 (fun a j => by
    show (if a = σ.2.2.2.1 then 0 else up2 σ.1 0 1 0 a j) = if a = σ.2.2.2.1 then 0 else σ.1 a j
    rw [up2_t]
    split
    · rfl
    · split
      · rename_i q
        rw [q.1, q.2, hz]
      · rfl)
  obtain ⟨w0, hb0, -⟩ := hB.2.1
  have hgk : grK (ksLen i + 16) (0 + ksLen i) = 0 := if_neg (by omega)
  have hgn : grN (ksLen i + 16) (0 + ksLen i) = 0 := if_neg (by omega)
  have hgc : grow (ksLen i + 16) (0 + ksLen i) = ksLen i + 16 := if_neg (by omega)
  have hct := ct_apS2 hl hi hB (by omega) (by omega) (by show σ.2.2.2.1 + 1 < 1000; omega)
  rw [hgk, hgn, hgc] at hct
  refine ex_00 ?_
  refine x_callU (k := 0) (n := 0) (pc := 58) (t := 152) (As := [.ref (scr + 1 + i)]) (rest := []) c154_43 (u := 155) (by decide) rfl (inT_any (by decide +kernel)) rfl jIni4 hct hb0.1 rfl rfl (Nat.le_of_ble_eq_true rfl) (by decide +kernel) (by decide +kernel) d154_58 (Or.inl hB.1) (fun v τ e => ?_) (fun E τ e _ => by obtain ⟨_, e1, _⟩ := e; cases e1)
  obtain ⟨τ1, e1, hB1, hn9⟩ := e
  cases e1
  refine x_pop (pc := 61) rfl d154_61 ?_
  refine x_vret rfl (fun _ => rfl) d154_62 ⟨_, rfl, hB1, ?_⟩
  have : τ.2.2.2.1 ≤ (σ.2.2.2.1 + 1) + 1 := hn9
  omega
theorem ct_sbS (hl : l.1.stackTraces = false) (hi : i < nTC) (h : NB σ) : CT l 147 [.ref 0, .ref (scr + 1 + i)] σ 1 (ksLen i + 16) (fun o => ∃ τ, o = (.inl none, τ) ∧ BS τ (ksLen i + 16) (0 + ksLen i) (apS (fun _ => 0) 0 i) ∧ τ.2.2.2.1 ≤ 3) := by
  refine mkct2 hl (by decide) (Nat.le_of_ble_eq_true rfl) (L := [some (.ref 0), some (.ref (scr + 1 + i))]) rfl ?_
  refine ex_kn ?_
  refine x_aload_n (pc := 0) rfl d147_0 ?_
  refine x_aload_n (pc := 1) rfl d147_1 ?_
  refine x_callI (k := 0) (n := 0) (pc := 2) (t := 154) (As := [.ref (scr + 1 + i)]) (rest := []) c147_7 (ct_absS hl hi h) (by decide) rfl rfl (Nat.le_of_ble_eq_true rfl) (by decide +kernel) (by decide +kernel) d147_2 (Or.inl h.1) (fun v τ e => ?_) (fun E τ e _ => by obtain ⟨_, e1, _⟩ := e; cases e1)
  obtain ⟨τ1, e1, hB, hn9⟩ := e
  cases e1
  exact x_vret rfl (fun _ => rfl) d147_5 ⟨_, rfl, hB, hn9⟩
end Jt
