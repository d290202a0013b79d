/-! ===== a builder's text as a String ===== -/
section Js
variable {l : LX} {σ : MM} {cap w s m : Nat} {len : Int} {T : Int → Int}
theorem ct_chkL (hl : l.1.stackTraces = false) {a b : Int} (h0 : 0 ≤ a) (h1 : a ≤ b) (h2 : b ≤ 1000) : CT l 181 [.int (iI a), .int (iI b)] σ 0 0 (fun o => o = (.inl none, σ)) := by
  refine mkct2 hl (by decide) (Nat.le_of_ble_eq_true rfl) (L := [some (.int (iI a)), some (.int (iI b))]) rfl ?_
  refine x_iload_n (pc := 0) rfl d181_0 ?_
  refine x_iload_n (pc := 1) rfl d181_1 ?_
  refine x_icmp_ge (pc := 2) (tgt := 37) ⟨by omega, by omega⟩ ⟨by omega, by omega⟩ d181_2 (by decide) (fun _ => ?_) (fun _ => by exfalso; omega)
  exact x_vret rfl (fun _ => rfl) d181_37 rfl
/-- the first m bytes of w, in a new row -/
def cpM (σ : MM) (w m : Nat) : MM := (cp2 (mkC σ (10 * m + 2)).1 w 0 σ.2.2.2.1 0 m, (mkC σ (10 * m + 2)).2)
theorem ct_corB (hl : l.1.stackTraces = false) (h : isB σ w cap) (hf : σ.2.2.2.2.2 = true) (hr : ∀ j : Int, 0 ≤ j → j < cap → 0 ≤ σ.1 w j ∧ σ.1 w j ≤ 127) (h1 : m ≤ cap) (hc : cap ≤ 1000) (hn : σ.2.2.2.1 ≤ 1000) :
    CT l 180 [.ref w, .int (iI 0), .int (iI m)] σ 1 m (fun o => o = (.inl (some (.ref σ.2.2.2.1)), cpM σ w m)) := by
  have hw : w < σ.2.2.2.1 := h.1
  refine mkct2 hl (by decide) (Nat.le_of_ble_eq_true rfl) (L := [some (.ref w), some (.int (iI 0)), some (.int (iI m)), none, none]) rfl ?_
  refine x_iload_n (pc := 0) rfl d180_0 ?_
  refine x_iload_n (pc := 1) rfl d180_1 ?_
  refine ex_00 ?_
  refine x_callS2 (k := 1) (n := m) (pc := 2) (t := 181) (As := [.int (iI 0), .int (iI m)]) (rest := []) c180_343 (ct_chkL hl (a := 0) (b := m) (by decide) (by omega) (by omega)) rfl rfl (Nat.le_of_ble_eq_true rfl) (by decide +kernel) (by decide +kernel) d180_2 fr_or' (fun v τ e => ?_) (fun E τ e _ => by cases e)
  cases e
  refine x_iload_n (pc := 5) rfl d180_5 ?_
  refine x_iload_n (pc := 6) rfl d180_6 ?_
  refine x_isub (pc := 7) d180_7 ?_
  refine x_val (show (m : Int) - 0 = m from by omega) ?_
  refine x_istore_n (pc := 8) (by decide +kernel) rfl d180_8 ?_
  refine x_iload_n (pc := 9) rfl d180_9 ?_
  refine ex_k1 (k := 0) (n := 0) (m := m) ?_
  refine x_newL (pc := 10) (m0 := m) rfl (by omega) (by show σ.2.2.2.1 < 1000000; omega) hf d180_10 ?_
  refine x_astore (pc := 12) (by decide +kernel) rfl d180_12 ?_
  refine x_aload_n (pc := 14) rfl d180_14 ?_
  refine x_iload_n (pc := 15) rfl d180_15 ?_
  refine x_aload (pc := 16) rfl d180_16 ?_
  refine x_iconst (pc := 18) d180_18 ?_
  refine x_aload_n (pc := 19) rfl d180_19 ?_
  refine x_blen (pc := 20) (mk_isB h) d180_20 ?_
  refine x_iload_n (pc := 21) rfl d180_21 ?_
  refine x_isub (pc := 22) d180_22 ?_
  refine x_val (show (cap : Int) - 0 = cap from by omega) ?_
  refine x_iload_n (pc := 23) rfl d180_23 ?_
  refine x_min (pc := 24) ⟨by omega, by omega⟩ ⟨by omega, by omega⟩ c180_304 (by decide +kernel) (Nat.le_of_ble_eq_true rfl) d180_24 ?_
  refine x_val (show min (cap : Int) m = m from by omega) ?_
  refine x_bcopy (pc := 27) (a := w) (d := σ.2.2.2.1) (m0 := cap) (m1 := m) (mk_isB h) ⟨Nat.lt_succ_self _, mk_Kn⟩ (by decide) (by decide) (by omega) (by omega) (by omega) (by omega) (by omega) (fun i i0 i1 => by rw [mk_I hw]; exact hr i i0 (by omega)) c180_150 (by decide +kernel) (Nat.le_of_ble_eq_true rfl) d180_27 ?_
  refine x_aload (pc := 30) rfl d180_30 ?_
  exact x_aret rfl (Or.inr ⟨_, rfl⟩) (fun _ => rfl) d180_32 rfl
theorem ct_cor (hl : l.1.stackTraces = false) (h : isB σ w cap) (hf : σ.2.2.2.2.2 = true) (hr : ∀ j : Int, 0 ≤ j → j < cap → 0 ≤ σ.1 w j ∧ σ.1 w j ≤ 127) (h1 : m < cap) (hc : cap ≤ 1000) (hn : σ.2.2.2.1 ≤ 1000) :
    CT l 179 [.ref w, .int (iI 0), .int (iI m)] σ 1 m (fun o => o = (.inl (some (.ref σ.2.2.2.1)), cpM σ w m)) := by
  refine mkct2 hl (by decide) (Nat.le_of_ble_eq_true rfl) (L := [some (.ref w), some (.int (iI 0)), some (.int (iI m))]) rfl ?_
  refine ex_kn ?_
  refine x_iload_n (pc := 0) rfl d179_0 ?_
  refine x_if_ne (pc := 1) (tgt := 10) ⟨by omega, by omega⟩ d179_1 (by decide) (fun _ => by exfalso; omega) (fun _ => ?_)
  refine x_iload_n (pc := 4) rfl d179_4 ?_
  refine x_aload_n (pc := 5) rfl d179_5 ?_
  refine x_blen (pc := 6) h d179_6 ?_
  refine x_icmp_eq (pc := 7) (tgt := 17) ⟨by omega, by omega⟩ ⟨by omega, by omega⟩ d179_7 (by decide) (fun _ => by exfalso; omega) (fun _ => ?_)
  refine x_aload_n (pc := 10) rfl d179_10 ?_
  refine x_iload_n (pc := 11) rfl d179_11 ?_
  refine x_iload_n (pc := 12) rfl d179_12 ?_
  refine x_callS2 (k := 0) (n := 0) (pc := 13) (t := 180) (As := [.ref w, .int (iI 0), .int (iI m)]) (rest := []) c179_339 (ct_corB hl h hf hr (Nat.le_of_lt h1) hc hn) rfl rfl (Nat.le_of_ble_eq_true rfl) (by decide +kernel) (by decide +kernel) d179_13 (Or.inl hf) (fun v τ e => ?_) (fun E τ e _ => by cases e)
  cases e
  exact x_aret rfl (Or.inr ⟨_, rfl⟩) (fun _ => rfl) d179_16 rfl
/-- .. of which the String s is made -/
def stM (σ : MM) (s w m : Nat) : MM := ((cpM (up2 σ.1 s 1 0, σ.2) w m).1, upr (cpM (up2 σ.1 s 1 0, σ.2) w m).2.1 s 0 σ.2.2.2.1, (cpM (up2 σ.1 s 1 0, σ.2) w m).2.2)
theorem ct_strI (hl : l.1.stackTraces = false) (hb : isSB σ 0 w cap) (hlen : σ.1 0 3 = m) (hs : isO σ s 12) (hs0 : s ≠ 0) (hsw : s ≠ w) (h1 : m < cap) (hc : cap ≤ 300) (hr : ∀ j : Int, 0 ≤ j → j < cap → 0 ≤ σ.1 w j ∧ σ.1 w j ≤ 127) (hf : σ.2.2.2.2.2 = true) (hn : σ.2.2.2.1 ≤ 1000) :
    CT l 166 [.ref s, .ref 0, .null] σ 1 m (fun o => o = (.inl none, stM σ s w m)) := by
  refine mkct2 hl (by decide) (Nat.le_of_ble_eq_true rfl) (L := [some (.ref s), some (.ref 0), some .null, none, none]) rfl ?_
  refine x_aload_n (pc := 0) rfl d166_0 ?_
  refine x_obj (pc := 1) c166_1 (by decide +kernel) (Nat.le_of_ble_eq_true rfl) d166_1 ?_
  refine x_aload_n (pc := 4) rfl d166_4 ?_
  refine ex_00 ?_
  refine x_callU (k := 1) (n := m) (pc := 5) (t := 163) (As := []) (rest := []) c166_552 (u := 163) (by decide) rfl (inT_any (by decide +kernel)) rfl jIni (ct_sbVal hl hb) hb.1 rfl rfl (Nat.le_of_ble_eq_true rfl) (by decide +kernel) (by decide +kernel) d166_5 (Or.inl hf) (fun v τ e => ?_) (fun E τ e _ => by cases e)
  cases e
  refine x_astore_n (pc := 8) (by decide +kernel) rfl d166_8 ?_
  refine x_aload_n (pc := 9) rfl d166_9 ?_
  refine ex_00 ?_
  refine ex_kn ?_
  refine x_callU (k := 1) (n := m) (pc := 10) (t := 183) (As := []) (rest := []) c166_549 (u := 164) (by decide) rfl (inT_any (by decide +kernel)) rfl jIni4 (ct_sbLen2 hl hb hlen) hb.1 rfl rfl (Nat.le_of_ble_eq_true rfl) (by decide +kernel) (by decide +kernel) d166_10 (Or.inl hf) (fun v τ e => ?_) (fun E τ e _ => by cases e)
  cases e
  refine x_istore (pc := 13) (by decide +kernel) rfl d166_13 ?_
  refine x_aload_n (pc := 15) rfl d166_15 ?_
  refine ex_00 ?_
  refine x_callU (k := 1) (n := m) (pc := 16) (t := 160) (As := []) (rest := []) c166_1047 (u := 160) (by decide) rfl (inT_any (by decide +kernel)) rfl jIni (ct_sbLat hl hb) hb.1 rfl rfl (Nat.le_of_ble_eq_true rfl) (by decide +kernel) (by decide +kernel) d166_16 (Or.inl hf) (fun v τ e => ?_) (fun E τ e _ => by cases e)
  cases e
  refine x_if_eq (pc := 19) (tgt := 41) ⟨by omega, by omega⟩ d166_19 (by decide) (fun _ => by exfalso; omega) (fun _ => ?_)
  refine x_aload_n (pc := 22) rfl d166_22 ?_
  refine x_iconst (pc := 23) d166_23 ?_
  refine x_putFB (pc := 24) f166_15 hs (by decide) (by decide) rfl rfl (by decide) (z := 1) rfl d166_24 ?_
  refine x_aload_n (pc := 27) rfl d166_27 ?_
  refine x_aload_n (pc := 28) rfl d166_28 ?_
  refine x_iconst (pc := 29) d166_29 ?_
  refine x_iload (pc := 30) rfl d166_30 ?_
  refine x_callS2 (k := 0) (n := 0) (pc := 32) (t := 179) (As := [.ref w, .int (iI 0), .int (iI m)]) (rest := [.ref s]) c166_54 (ct_cor (σ := (up2 σ.1 s 1 0, σ.2)) (m := m) hl hb.2.2.1 hf (fun j j0 j1 => by show 0 ≤ up2 σ.1 s 1 0 w j ∧ up2 σ.1 s 1 0 w j ≤ 127; rw [up2_t, if_neg (fun q => hsw q.1.symm)]; exact hr j j0 j1) h1 (by omega) hn) rfl rfl (Nat.le_of_ble_eq_true rfl) (by decide +kernel) (by decide +kernel) d166_32 (Or.inl hf) (fun v τ e => ?_) (fun E τ e _ => by cases e)
  cases e
  refine x_putF (pc := 35) f166_9 ⟨Nat.lt_succ_of_lt hs.1, (mk_K (σ := σ) hs.1).trans hs.2⟩ (by decide) (by decide) rfl rfl d166_35 ?_
  refine x_goto (pc := 38) (tgt := 97) d166_38 (by decide) ?_
  exact x_vret rfl (fun _ => rfl) d166_97 rfl
theorem ct_strJ (hl : l.1.stackTraces = false) (hb : isSB σ 0 w cap) (hlen : σ.1 0 3 = m) (hs : isO σ s 12) (hs0 : s ≠ 0) (hsw : s ≠ w) (h1 : m < cap) (hc : cap ≤ 300) (hr : ∀ j : Int, 0 ≤ j → j < cap → 0 ≤ σ.1 w j ∧ σ.1 w j ≤ 127) (hf : σ.2.2.2.2.2 = true) (hn : σ.2.2.2.1 ≤ 1000) :
    CT l 165 [.ref s, .ref 0] σ 1 m (fun o => o = (.inl none, stM σ s w m)) := by
  refine mkct2 hl (by decide) (Nat.le_of_ble_eq_true rfl) (L := [some (.ref s), some (.ref 0)]) rfl ?_
  refine ex_kn ?_
  refine x_aload_n (pc := 0) rfl d165_0 ?_
  refine x_aload_n (pc := 1) rfl d165_1 ?_
  refine x_null (pc := 2) d165_2 ?_
  refine x_callI (k := 0) (n := 0) (pc := 3) (t := 166) (As := [.ref 0, .null]) (rest := []) c165_489 (ct_strI hl hb hlen hs hs0 hsw h1 hc hr hf hn) (Nat.lt_of_lt_of_le hs.1 (Nat.le_trans hn (by decide))) rfl rfl (Nat.le_of_ble_eq_true rfl) (by decide +kernel) (by decide +kernel) d165_3 (Or.inl hf) (fun v τ e => ?_) (fun E τ e _ => by cases e)
  cases e
  exact x_vret rfl (fun _ => rfl) d165_6 rfl
theorem ct_toS (hl : l.1.stackTraces = false) (h : BS σ cap len T) (hm : (m : Int) = len) (h1 : m < cap) (hn2 : σ.2.2.2.1 < 1000) : CT l 151 [.ref 0] σ 2 (m + 4) (fun o => ∃ w, (w < σ.2.2.2.1 ∧ isSB σ 0 w cap ∧ ∀ j : Int, 0 ≤ j → j < len → σ.1 w j = T j) ∧ o = (.inl (some (.ref σ.2.2.2.1)), stM (mkC σ 125) σ.2.2.2.1 w m)) := by
  obtain ⟨hf, ⟨w, hb, hw0, hT, hr⟩, hlen, hc, hRF, hn⟩ := id h
  have q0 : 0 < σ.2.2.2.1 := hb.1.1
  have qw : w < σ.2.2.2.1 := hb.2.2.1.1
  refine mkct2 hl (by decide) (Nat.le_of_ble_eq_true rfl) (L := [some (.ref 0)]) rfl ?_
  refine x_new (pc := 0) (k := 1) (n := m) n151_18 (by show σ.2.2.2.1 < 1000000; omega) hf d151_0 ?_
  refine ex_kn ?_
  refine x_dup (pc := 3) rfl d151_3 ?_
  refine x_aload_n (pc := 4) rfl d151_4 ?_
  refine x_callI (k := 0) (n := 0) (pc := 5) (t := 165) (As := [.ref 0]) (rest := [.ref σ.2.2.2.1]) c151_137 (ct_strJ (σ := mkC σ 125) (s := σ.2.2.2.1) (w := w) (cap := cap) (m := m) hl ⟨mk_isO hb.1, (mk_R q0 0).trans hb.2.1, mk_isB hb.2.2.1, (mk_I q0 1).trans hb.2.2.2⟩ (by rw [mk_I q0, hlen, hm]) ⟨Nat.lt_succ_self _, mk_Kn⟩ (by omega) (by omega) h1 hc.2.2 (fun j j0 j1 => by rw [mk_I qw]; exact hr j j0 j1) hf (by show σ.2.2.2.1 + 1 ≤ 1000; omega)) (by show σ.2.2.2.1 < 1000000; omega) rfl rfl (Nat.le_of_ble_eq_true rfl) (by decide +kernel) (by decide +kernel) d151_5 (Or.inl hf) (fun v τ e => ?_) (fun E τ e _ => by cases e)
  cases e
  exact x_aret rfl (Or.inl ⟨_, rfl⟩) (fun _ => rfl) d151_8 ⟨w, ⟨qw, hb, hT⟩, rfl⟩
end Js
