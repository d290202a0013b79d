/-! ===== a builder: append, the constructors, toString ===== -/
section Ja
variable {l : LX} {σ : MM} {cap : Nat} {len : Int} {T : Int → Int}
/-- the cells that growth makes, the bytes -/
def grK (cap : Nat) (need : Int) : Nat := if (cap : Int) < need then 1 else 0
def grN (cap : Nat) (need : Int) : Nat := if (cap : Int) < need then cap + (cap + 2) else 0
theorem ct_ens (hl : l.1.stackTraces = false) (h : BS σ cap len T) {need : Int} (h0 : 0 ≤ need) (h1 : need ≤ 2 * cap + 2) (hc2 : cap ≤ 140) (hn2 : σ.2.2.2.1 < 1000) : CT l 158 [.ref 0, .int (iI need)] σ (grK cap need) (grN cap need) (fun o => ∃ τ, o = (.inl none, τ) ∧ BS τ (grow cap need) len T ∧ τ.2.2.2.1 ≤ σ.2.2.2.1 + 1) := by
  unfold grK grN grow
  by_cases g : (cap : Int) < need
  · rw [if_pos g, if_pos g, if_pos g]
    refine ct_mono (ct_ens1 hl h g h1 hc2 hn2) fun o ho => ?_
    obtain ⟨τ, a, b, c⟩ := ho
    exact ⟨τ, a, b, by omega⟩
  · rw [if_neg g, if_neg g, if_neg g]
    refine ct_mono (ct_ens0 hl h h0 (by omega)) fun o ho => ?_
    exact ⟨σ, ho, h, by omega⟩
theorem grow_ge (cap : Nat) {need : Int} (h1 : need ≤ 2 * cap + 2) : need ≤ grow cap need := by
  unfold grow
  split <;> omega
theorem grow_cap (cap : Nat) (need : Int) (hc : cap ≤ 140) : grow cap need ≤ 300 ∧ cap ≤ grow cap need := by
  unfold grow
  split <;> omega
theorem ex_kn {y k n pc : Nat} {L : LL} {st : List Value} {Q : OO → Prop} (h : Ex l y (k + 0) (n + 0) pc L st σ Q) : Ex l y k n pc L st σ Q := h
theorem up2_t {I : Nat → Int → Int} {k a : Nat} {j v b : Int} : up2 I k j v a b = if a = k ∧ b = j then v else I a b := rfl
theorem isSB.up {w a : Nat} {j v : Int} (h : isSB σ 0 w cap) (hj : ¬ (a = 0 ∧ j = 1)) : isSB (up2 σ.1 a j v, σ.2) 0 w cap := ⟨h.1, h.2.1, h.2.2.1, by
  show up2 σ.1 a j v 0 1 = 0
  rw [up2_t, if_neg (fun z => hj ⟨z.1.symm, z.2.symm⟩)]
  exact h.2.2.2⟩
/-- a letter behind the others -/
def snoc (T : Int → Int) (len c : Int) : Int → Int := fun j => if j = len then c else T j
theorem ct_apC0 (hl : l.1.stackTraces = false) (h : BS σ cap len T) {c : Int} (hc : 0 ≤ c ∧ c ≤ 127) (hc2 : cap ≤ 140) (hn2 : σ.2.2.2.1 < 1000) :
    CT l 156 [.ref 0, .int (iI c)] σ (grK cap (len + 1)) (grN cap (len + 1)) (fun o => ∃ τ, o = (.inl (some (.ref 0)), τ) ∧ BS τ (grow cap (len + 1)) (len + 1) (snoc T len c) ∧ τ.2.2.2.1 ≤ σ.2.2.2.1 + 1) := by
  have hh := h
  obtain ⟨hf, ⟨w0, hb0, -, -, -⟩, hlen0, hc0, -, -⟩ := hh
  have hg := grow_ge cap (need := len + 1) (by omega)
  refine mkct2 hl (by decide) (Nat.le_of_ble_eq_true rfl) (L := [some (.ref 0), some (.int (iI c))]) rfl ?_
  refine ex_kn ?_
  refine x_aload_n (pc := 0) rfl d156_0 ?_
  refine x_aload_n (pc := 1) rfl d156_1 ?_
  refine x_getI (pc := 2) f156_79 hb0.1 (by decide) (z := 3) rfl d156_2 ?_
  refine x_val hlen0 ?_
  refine x_iconst (pc := 5) d156_5 ?_
  refine x_iadd (pc := 6) d156_6 ?_
  refine x_callP (k := 0) (n := 0) (pc := 7) (t := 158) (As := [.int (iI (len + 1))]) (rest := []) c156_100 rfl (ct_ens hl h (need := len + 1) (by omega) (by omega) hc2 hn2) hb0.1 rfl rfl (Nat.le_of_ble_eq_true rfl) (by decide +kernel) (by decide +kernel) d156_7 (Or.inl hf) (fun v τ e => ?_) (fun E τ e _ => by obtain ⟨_, e1, _⟩ := e; cases e1)
  obtain ⟨τ1, e1, hB, hn1⟩ := e
  cases e1
  obtain ⟨hf1, ⟨w, hb, hw0, hT, hr⟩, hlen, hcl, hRF, hn⟩ := id hB
  have hcap := grow_cap cap (len + 1) hc2
  refine x_aload_n (pc := 10) rfl d156_10 ?_
  refine x_callU (k := 0) (n := 0) (pc := 11) (t := 160) (As := []) (rest := []) c156_83 (u := 160) (by decide) rfl (inT_any (by decide +kernel)) rfl jIni (ct_sbLat hl hb) hb.1 rfl rfl (Nat.le_of_ble_eq_true rfl) (by decide +kernel) (by decide +kernel) d156_11 fr_or' (fun v τ e => ?_) (fun E τ e _ => by cases e)
  cases e
  refine x_if_eq (pc := 14) (tgt := 45) ⟨by omega, by omega⟩ d156_14 (by decide) (fun _ => by exfalso; omega) (fun _ => ?_)
  refine x_iload_n (pc := 17) rfl d156_17 ?_
  refine x_callS2 (k := 0) (n := 0) (pc := 18) (t := 174) (As := [.int (iI c)]) (rest := []) c156_191 (ct_canE hl hc.1 hc.2) rfl rfl (Nat.le_of_ble_eq_true rfl) (by decide +kernel) (by decide +kernel) d156_18 fr_or' (fun v τ e => ?_) (fun E τ e _ => by cases e)
  cases e
  refine x_if_eq (pc := 21) (tgt := 45) ⟨by omega, by omega⟩ d156_21 (by decide) (fun _ => by exfalso; omega) (fun _ => ?_)
  refine x_aload_n (pc := 24) rfl d156_24 ?_
  refine x_getR (pc := 25) f156_15 hb.1 (by decide) hb.2.1 d156_25 ?_
  refine x_aload_n (pc := 28) rfl d156_28 ?_
  refine x_dup (pc := 29) rfl d156_29 ?_
  refine x_getI (pc := 30) f156_79 hb.1 (by decide) (z := 3) rfl d156_30 ?_
  refine x_val hlen ?_
  refine x_dupx (pc := 33) rfl rfl d156_33 ?_
  refine x_iconst (pc := 34) d156_34 ?_
  refine x_iadd (pc := 35) d156_35 ?_
  refine x_putI (pc := 36) (z := 3) f156_79 hb.1 (Or.inl (by decide)) (by decide) rfl d156_36 ?_
  refine x_iload_n (pc := 39) rfl d156_39 ?_
  refine x_i2b (pc := 40) hc.1 hc.2 d156_40 ?_
  refine x_bast (pc := 41) (a := w) (m0 := grow cap (len + 1)) hb.2.2.1 (by omega) (by omega) (by omega) hc.1 hc.2 d156_41 ?_
  refine x_goto (pc := 42) (tgt := 75) d156_42 (by decide) ?_
  refine x_aload_n (pc := 75) rfl d156_75 ?_
  refine x_aret rfl (Or.inl ⟨_, rfl⟩) (fun _ => rfl) d156_76 ⟨_, rfl, ⟨hf1, ⟨w, (hb.up (by omega)).up (by omega), hw0, fun j j0 j1 => ?_, fun j j0 j1 => ?_⟩, ?_, ⟨by omega, by omega, by omega⟩, hRF, hn⟩, hn1⟩
  · show up2 (up2 _ 0 3 _) w len c w j = snoc T len c j
    unfold snoc
    rw [up2_t]
    by_cases e : j = len
    · rw [if_pos ⟨rfl, e⟩, if_pos e]
    · rw [if_neg (fun z => e z.2), if_neg e, up2_t, if_neg (fun z => hw0 z.1)]
      exact hT j j0 (by omega)
  · show 0 ≤ up2 (up2 _ 0 3 _) w len c w j ∧ up2 (up2 _ 0 3 _) w len c w j ≤ 127
    rw [up2_t]
    split
    · exact hc
    · rw [up2_t, if_neg (fun z => hw0 z.1)]
      exact hr j j0 j1
  · show up2 (up2 _ 0 3 (len + 1)) w len c 0 3 = len + 1
    rw [up2_t, if_neg (fun z => hw0 z.1.symm), up2_t, if_pos ⟨rfl, rfl⟩]
theorem ct_apC (hl : l.1.stackTraces = false) (h : BS σ cap len T) {c : Int} (hc : 0 ≤ c ∧ c ≤ 127) (hc2 : cap ≤ 140) (hn2 : σ.2.2.2.1 < 1000) :
    CT l 149 [.ref 0, .int (iI c)] σ (grK cap (len + 1)) (grN cap (len + 1)) (fun o => ∃ τ, o = (.inl (some (.ref 0)), τ) ∧ BS τ (grow cap (len + 1)) (len + 1) (snoc T len c) ∧ τ.2.2.2.1 ≤ σ.2.2.2.1 + 1) := by
  obtain ⟨hf, ⟨w0, hb0, -, -, -⟩, -⟩ := id h
  refine mkct2 hl (by decide) (Nat.le_of_ble_eq_true rfl) (L := [some (.ref 0), some (.int (iI c))]) rfl ?_
  refine ex_kn ?_
  refine x_aload_n (pc := 0) rfl d149_0 ?_
  refine x_iload_n (pc := 1) rfl d149_1 ?_
  refine x_callSU (k := 0) (n := 0) (pc := 2) (t := 156) (As := [.int (iI c)]) (rest := []) c149_50 rfl rfl (ct_apC0 hl h hc hc2 hn2) hb0.1 rfl rfl (Nat.le_of_ble_eq_true rfl) (by decide +kernel) (by decide +kernel) d149_2 (Or.inl hf) (fun v τ e => ?_) (fun E τ e _ => by obtain ⟨_, e1, _⟩ := e; cases e1)
  obtain ⟨τ1, e1, hB, hn1⟩ := e
  cases e1
  refine x_pop (pc := 5) rfl d149_5 ?_
  refine x_aload_n (pc := 6) rfl d149_6 ?_
  exact x_aret rfl (Or.inl ⟨_, rfl⟩) (fun _ => rfl) d149_7 ⟨_, rfl, hB, hn1⟩
end Ja
