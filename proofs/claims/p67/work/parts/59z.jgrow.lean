/-! ===== a builder: growth, what is appended ===== -/
section Jb
variable {l : LX} {σ : MM} {cap : Nat} {len : Int} {T : Int → Int}
theorem upr_s {R : Nat → Nat → Option Nat} {a j r : Nat} : upr R a j r a j = some r := if_pos ⟨rfl, rfl⟩
theorem mk_isO {κ a c : Nat} (h : isO σ a c) : isO (mkC σ κ) a c := ⟨Nat.lt_succ_of_lt h.1, by
  show (if a = σ.2.2.2.1 then κ else σ.2.2.1 a) = _
  rw [if_neg (Nat.ne_of_lt h.1)]
  exact h.2⟩
theorem mk_isB {κ a c : Nat} (h : isB σ a c) : isB (mkC σ κ) a c := ⟨Nat.lt_succ_of_lt h.1, by
  show (if a = σ.2.2.2.1 then κ else σ.2.2.1 a) = _
  rw [if_neg (Nat.ne_of_lt h.1)]
  exact h.2⟩
theorem mk_I {κ a : Nat} (h : a < σ.2.2.2.1) (j : Int) : (mkC σ κ).1 a j = σ.1 a j := if_neg (Nat.ne_of_lt h)
theorem mk_new {κ : Nat} (j : Int) : (mkC σ κ).1 σ.2.2.2.1 j = 0 := if_pos rfl
theorem mk_R {κ a : Nat} (h : a < σ.2.2.2.1) (j : Nat) : (mkC σ κ).2.1 a j = σ.2.1 a j := if_neg (Nat.ne_of_lt h)
theorem mk_Rn {κ : Nat} (j : Nat) : (mkC σ κ).2.1 σ.2.2.2.1 j = none := if_pos rfl
theorem mk_K {κ a : Nat} (h : a < σ.2.2.2.1) : (mkC σ κ).2.2.1 a = σ.2.2.1 a := if_neg (Nat.ne_of_lt h)
theorem mk_Kn {κ : Nat} : (mkC σ κ).2.2.1 σ.2.2.2.1 = κ := if_pos rfl
/-- .. with a builder at place 0 of so many bytes, the first len of which are T's; cells are counted -/
def BS (σ : MM) (cap : Nat) (len : Int) (T : Int → Int) : Prop :=
  σ.2.2.2.2.2 = true ∧ (∃ w, isSB σ 0 w cap ∧ w ≠ 0 ∧ (∀ j : Int, 0 ≤ j → j < len → σ.1 w j = T j) ∧ ∀ j : Int, 0 ≤ j → j < cap → 0 ≤ σ.1 w j ∧ σ.1 w j ≤ 127) ∧ σ.1 0 3 = len ∧ (0 ≤ len ∧ len ≤ cap ∧ cap ≤ 300) ∧ (∀ i, i < σ.2.2.2.1 → RF σ.2.2.2.1 σ i) ∧ σ.2.2.2.1 ≤ 1000
/-- Arrays.copyOf of bytes, to a longer row -/
theorem ct_copyOf (hl : l.1.stackTraces = false) {w m1 : Nat} (h : isB σ w cap) (hf : σ.2.2.2.2.2 = true) (hr : ∀ j : Int, 0 ≤ j → j < cap → 0 ≤ σ.1 w j ∧ σ.1 w j ≤ 127) (hm : cap < m1) (hm1 : m1 ≤ 1000) (hn : σ.2.2.2.1 ≤ 1000) :
    CT l 178 [.ref w, .int (iI m1)] σ 1 m1 (fun o => o = (.inl (some (.ref σ.2.2.2.1)), (cp2 (mkC σ (10 * m1 + 2)).1 w 0 σ.2.2.2.1 0 cap, (mkC σ (10 * m1 + 2)).2))) := by
  have hw : w < σ.2.2.2.1 := h.1
  refine mkct2 hl (by decide) (Nat.le_of_ble_eq_true rfl) (L := [some (.ref w), some (.int (iI m1)), none]) rfl ?_
  refine x_iload_n (pc := 0) rfl d178_0 ?_
  refine x_aload_n (pc := 1) rfl d178_1 ?_
  refine x_blen (pc := 2) h d178_2 ?_
  refine x_icmp_ne (pc := 3) (tgt := 14) ⟨by omega, by omega⟩ ⟨by omega, by omega⟩ d178_3 (by decide) (fun _ => ?_) (fun _ => by exfalso; omega)
  refine x_iload_n (pc := 14) rfl d178_14 ?_
  refine ex_k1 (k := 0) (n := 0) (m := m1) ?_
  refine x_newL (pc := 15) (m0 := m1) rfl (by omega) (by show σ.2.2.2.1 < 1000000; omega) hf d178_15 ?_
  refine x_astore_n (pc := 17) (by decide +kernel) rfl d178_17 ?_
  refine x_aload_n (pc := 18) rfl d178_18 ?_
  refine x_iconst (pc := 19) d178_19 ?_
  refine x_aload_n (pc := 20) rfl d178_20 ?_
  refine x_iconst (pc := 21) d178_21 ?_
  refine x_aload_n (pc := 22) rfl d178_22 ?_
  refine x_blen (pc := 23) (mk_isB h) d178_23 ?_
  refine x_iload_n (pc := 24) rfl d178_24 ?_
  refine x_min (pc := 25) ⟨by omega, by omega⟩ ⟨by omega, by omega⟩ c178_304 (by decide +kernel) (Nat.le_of_ble_eq_true rfl) d178_25 ?_
  refine x_val (show min (cap : Int) m1 = cap from by omega) ?_
  refine x_bcopy (pc := 28) (a := w) (d := σ.2.2.2.1) (m0 := cap) (m1 := m1) (mk_isB h) ⟨Nat.lt_succ_self _, mk_Kn⟩ (by decide) (by decide) (by omega) (by omega) (by omega) (by omega) (by omega) (fun i i0 i1 => by rw [mk_I hw]; exact hr i i0 (by omega)) c178_150 (by decide +kernel) (Nat.le_of_ble_eq_true rfl) d178_28 ?_
  refine x_aload_n (pc := 31) rfl d178_31 ?_
  exact x_aret rfl (Or.inr ⟨_, rfl⟩) (fun _ => rfl) d178_32 rfl
/-- growth -/
def grow (cap : Nat) (need : Int) : Nat := if (cap : Int) < need then 2 * cap + 2 else cap
theorem ct_ens0 (hl : l.1.stackTraces = false) (h : BS σ cap len T) {need : Int} (h0 : 0 ≤ need) (h1 : need ≤ cap) : CT l 158 [.ref 0, .int (iI need)] σ 0 0 (fun o => o = (.inl none, σ)) := by
  obtain ⟨hf, ⟨w, hb, hw0, hT, hr⟩, hlen, hc, hRF, hn⟩ := h
  refine mkct2 hl (by decide) (Nat.le_of_ble_eq_true rfl) (L := [some (.ref 0), some (.int (iI need)), none]) rfl ?_
  refine x_aload_n (pc := 0) rfl d158_0 ?_
  refine x_getR (pc := 1) f158_15 hb.1 (by decide) hb.2.1 d158_1 ?_
  refine x_blen (pc := 4) hb.2.2.1 d158_4 ?_
  refine x_aload_n (pc := 5) rfl d158_5 ?_
  refine x_getI (pc := 6) f158_22 hb.1 (by decide) (z := 1) rfl d158_6 ?_
  refine x_val hb.2.2.2 ?_
  refine x_ishr (pc := 9) (z := cap) (shr0 ⟨by omega, by omega⟩) d158_9 ?_
  refine x_istore_n (pc := 10) (by decide +kernel) rfl d158_10 ?_
  refine x_iload_n (pc := 11) rfl d158_11 ?_
  refine x_iload_n (pc := 12) rfl d158_12 ?_
  refine x_isub (pc := 13) d158_13 ?_
  refine x_if_le (pc := 14) (tgt := 38) ⟨by omega, by omega⟩ d158_14 (by decide) (fun _ => ?_) (fun _ => by exfalso; omega)
  exact x_vret rfl (fun _ => rfl) d158_38 rfl
theorem ct_ens1 (hl : l.1.stackTraces = false) (h : BS σ cap len T) {need : Int} (h0 : (cap : Int) < need) (h1 : need ≤ 2 * cap + 2) (hc2 : cap ≤ 140) (hn2 : σ.2.2.2.1 < 1000) : CT l 158 [.ref 0, .int (iI need)] σ 1 (cap + (cap + 2)) (fun o => ∃ τ, o = (.inl none, τ) ∧ BS τ (2 * cap + 2) len T ∧ τ.2.2.2.1 = σ.2.2.2.1 + 1) := by
  obtain ⟨hf, ⟨w, hb, hw0, hT, hr⟩, hlen, hc, hRF, hn⟩ := h
  refine mkct2 hl (by decide) (Nat.le_of_ble_eq_true rfl) (L := [some (.ref 0), some (.int (iI need)), none]) rfl ?_
  refine x_aload_n (pc := 0) rfl d158_0 ?_
  refine x_getR (pc := 1) f158_15 hb.1 (by decide) hb.2.1 d158_1 ?_
  refine x_blen (pc := 4) hb.2.2.1 d158_4 ?_
  refine x_aload_n (pc := 5) rfl d158_5 ?_
  refine x_getI (pc := 6) f158_22 hb.1 (by decide) (z := 1) rfl d158_6 ?_
  refine x_val hb.2.2.2 ?_
  refine x_ishr (pc := 9) (z := cap) (shr0 ⟨by omega, by omega⟩) d158_9 ?_
  refine x_istore_n (pc := 10) (by decide +kernel) rfl d158_10 ?_
  refine x_iload_n (pc := 11) rfl d158_11 ?_
  refine x_iload_n (pc := 12) rfl d158_12 ?_
  refine x_isub (pc := 13) d158_13 ?_
  refine x_if_le (pc := 14) (tgt := 38) ⟨by omega, by omega⟩ d158_14 (by decide) (fun _ => by exfalso; omega) (fun _ => ?_)
  refine x_aload_n (pc := 17) rfl d158_17 ?_
  refine x_aload_n (pc := 18) rfl d158_18 ?_
  refine x_getR (pc := 19) f158_15 hb.1 (by decide) hb.2.1 d158_19 ?_
  refine x_aload_n (pc := 22) rfl d158_22 ?_
  refine x_iload_n (pc := 23) rfl d158_23 ?_
  refine ex_00 ?_
  refine x_callP (k := 1) (n := cap + (cap + 2)) (pc := 24) (t := 159) (As := [.int (iI need)]) (rest := [.ref w, .ref 0]) c158_104 rfl (ct_newCap hl hb h0 h1 (by omega)) hb.1 rfl rfl (Nat.le_of_ble_eq_true rfl) (by decide +kernel) (by decide +kernel) d158_24 fr_or' (fun v τ e => ?_) (fun E τ e _ => by cases e)
  cases e
  refine x_aload_n (pc := 27) rfl d158_27 ?_
  refine x_getI (pc := 28) f158_22 hb.1 (by decide) (z := 1) rfl d158_28 ?_
  refine x_val hb.2.2.2 ?_
  refine x_ishl (pc := 31) (z := cap + (cap + 2)) (shl0 _) d158_31 ?_
  refine x_callS2 (k := 0) (n := 0) (pc := 32) (t := 178) (As := [.ref w, .int (iI ((cap + (cap + 2) : Nat) : Int))]) (rest := [.ref 0]) c158_108 (ct_copyOf hl (m1 := cap + (cap + 2)) hb.2.2.1 hf hr (by omega) (by omega) hn) rfl rfl (Nat.le_of_ble_eq_true rfl) (by decide +kernel) (by decide +kernel) d158_32 (Or.inl hf) (fun v τ e => ?_) (fun E τ e _ => by cases e)
  cases e
  refine x_putR (pc := 35) f158_15 ⟨Nat.lt_succ_of_lt hb.1.1, (mk_K hb.1.1).trans hb.1.2⟩ (by decide) (by decide) d158_35 ?_
  refine x_vret rfl (fun _ => rfl) d158_38 ⟨_, rfl, ?_, rfl⟩
  have q0 : 0 < σ.2.2.2.1 := hb.1.1
  have qw : w < σ.2.2.2.1 := hb.2.2.1.1
  have hne : ¬ (0 : Nat) = σ.2.2.2.1 := Nat.ne_of_lt q0
  refine ⟨hf, ⟨σ.2.2.2.1, ⟨⟨Nat.lt_succ_of_lt q0, (mk_K q0).trans hb.1.2⟩, ?_, ⟨Nat.lt_succ_self _, ?_⟩, ?_⟩, fun z => hne z.symm, fun j j0 j1 => ?_, fun j j0 j1 => ?_⟩, ?_, ⟨hc.1, by omega, by omega⟩, fun i hi j r hj => ?_, by show σ.2.2.2.1 + 1 ≤ 1000; omega⟩
  · show (if (0 : Nat) = 0 ∧ (0 : Nat) = 0 then some σ.2.2.2.1 else (mkC σ (10 * (cap + (cap + 2)) + 2)).2.1 0 0) = some σ.2.2.2.1
    exact if_pos ⟨rfl, rfl⟩
  · show (mkC σ (10 * (cap + (cap + 2)) + 2)).2.2.1 σ.2.2.2.1 = _
    rw [mk_Kn, show 2 * cap + 2 = cap + (cap + 2) from by omega]
  · show (if (0 : Nat) = σ.2.2.2.1 ∧ _ then _ else (mkC σ _).1 0 1) = 0
    rw [if_neg (fun z => hne z.1), mk_I q0]
    exact hb.2.2.2
  · show (if σ.2.2.2.1 = σ.2.2.2.1 ∧ 0 ≤ j ∧ j < 0 + (cap : Int) then (mkC σ _).1 w (0 + (j - 0)) else _) = T j
    rw [if_pos ⟨rfl, j0, by omega⟩, mk_I qw, show 0 + (j - 0) = j from by omega]
    exact hT j j0 j1
  · show 0 ≤ (if σ.2.2.2.1 = σ.2.2.2.1 ∧ 0 ≤ j ∧ j < 0 + (cap : Int) then (mkC σ _).1 w (0 + (j - 0)) else (mkC σ _).1 σ.2.2.2.1 j) ∧ (if σ.2.2.2.1 = σ.2.2.2.1 ∧ 0 ≤ j ∧ j < 0 + (cap : Int) then (mkC σ _).1 w (0 + (j - 0)) else (mkC σ _).1 σ.2.2.2.1 j) ≤ 127
    split
    · rename_i z
      rw [mk_I qw, show 0 + (j - 0) = j from by omega]
      exact hr j j0 (by omega)
    · rw [mk_new]
      exact ⟨by decide, by decide⟩
  · show (if (0 : Nat) = σ.2.2.2.1 ∧ _ then _ else (mkC σ _).1 0 3) = len
    rw [if_neg (fun z => hne z.1), mk_I q0]
    exact hlen
  · have hj2 : (if i = 0 ∧ j = 0 then some σ.2.2.2.1 else (mkC σ (10 * (cap + (cap + 2)) + 2)).2.1 i j) = some r := hj
    show r < σ.2.2.2.1 + 1 ∨ scr ≤ r
    split at hj2
    · have := Option.some.inj hj2
      omega
    · have hi2 : i < σ.2.2.2.1 + 1 := hi
      by_cases e : i = σ.2.2.2.1
      · subst e
        rw [mk_Rn] at hj2
        cases hj2
      · rw [mk_R (by omega)] at hj2
        have := hRF i (by omega) j r hj2
        omega
end Jb
