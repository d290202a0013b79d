/-! ===== a builder: append, the constructors, toString ===== -/
section Ja
variable {l : LX} {σ : MM} {cap : Nat} {len : Int} {T : Int → Int}
/-- the cells that growth makes, the bytes -/
def grK (cap : Nat) (need : Int) : Nat := if (cap : Int) < need then 1 else 0
def grN (cap : Nat) (need : Int) : Nat := if (cap : Int) < need then cap + (cap + 2) else 0
theorem ct_ens (hl : l.1.stackTraces = false) (h : BS σ cap len T) {need : Int} (h0 : 0 ≤ need) (h1 : need ≤ 2 * cap + 2) (hc2 : cap ≤ 140) (hn2 : σ.2.2.2.1 < 1000) : CT l 158 [.ref 0, .int (iI need)] σ (grK cap need) (grN cap need) (fun o => ∃ τ, o = (.inl none, τ) ∧ BS τ (grow cap need) len T ∧ τ.2.2.2.1 ≤ σ.2.2.2.1 + 1) := by
  unfold grK grN grow
  by_cases g : (cap : Int) < need
  · rw [if_pos g, if_pos g, if_pos g]
    refine ct_mono (ct_ens1 hl h g h1 hc2 hn2) fun o ho => ?_
    obtain ⟨τ, a, b, c⟩ := ho
    exact ⟨τ, a, b, by omega⟩
  · rw [if_neg g, if_neg g, if_neg g]
    refine ct_mono (ct_ens0 hl h h0 (by omega)) fun o ho => ?_
    exact ⟨σ, ho, h, by omega⟩
theorem grow_ge (cap : Nat) {need : Int} (h1 : need ≤ 2 * cap + 2) : need ≤ grow cap need := by
  unfold grow
  split <;> omega
theorem grow_cap (cap : Nat) (need : Int) (hc : cap ≤ 140) : grow cap need ≤ 300 ∧ cap ≤ grow cap need := by
  unfold grow
  split <;> omega
theorem ex_kn {y k n pc : Nat} {L : LL} {st : List Value} {Q : OO → Prop} (h : Ex l y (k + 0) (n + 0) pc L st σ Q) : Ex l y k n pc L st σ Q := h
theorem up2_t {I : Nat → Int → Int} {k a : Nat} {j v b : Int} : up2 I k j v a b = if a = k ∧ b = j then v else I a b := rfl
theorem isSB.up {w a : Nat} {j v : Int} (h : isSB σ 0 w cap) (hj : ¬ (a = 0 ∧ j = 1)) : isSB (up2 σ.1 a j v, σ.2) 0 w cap := ⟨h.1, h.2.1, h.2.2.1, by
  show up2 σ.1 a j v 0 1 = 0
  rw [up2_t, if_neg (fun z => hj ⟨z.1.symm, z.2.symm⟩)]
  exact h.2.2.2⟩
/-- a letter behind the others -/
def snoc (T : Int → Int) (len c : Int) : Int → Int := fun j => if j = len then c else T j
theorem ct_apC0 (hl : l.1.stackTraces = false) (h : BS σ cap len T) {c : Int} (hc : 0 ≤ c ∧ c ≤ 127) (hc2 : cap ≤ 140) (hn2 : σ.2.2.2.1 < 1000) :
    CT l 156 [.ref 0, .int (iI c)] σ (grK cap (len + 1)) (grN cap (len + 1)) (fun o => ∃ τ, o = (.inl (some (.ref 0)), τ) ∧ BS τ (grow cap (len + 1)) (len + 1) (snoc T len c) ∧ τ.2.2.2.1 ≤ σ.2.2.2.1 + 1) := by
  have hh := h
  obtain ⟨hf, ⟨w0, hb0, -, -, -⟩, hlen0, hc0, -, -⟩ := hh
  have hg := grow_ge cap (need := len + 1) (by omega)
  refine mkct2 hl (by decide) (Nat.le_of_ble_eq_true rfl) (L := [some (.ref 0), some (.int (iI c))]) rfl ?_
  refine ex_kn ?_
  refine x_aload_n (pc := 0) rfl d156_0 ?_
  refine x_aload_n (pc := 1) rfl d156_1 ?_
  refine x_getI (pc := 2) f156_79 hb0.1 (by decide) (z := 3) rfl d156_2 ?_
  refine x_val hlen0 ?_
  refine x_iconst (pc := 5) d156_5 ?_
  refine x_iadd (pc := 6) d156_6 ?_
  refine x_callP (k := 0) (n := 0) (pc := 7) (t := 158) (As := [.int (iI (len + 1))]) (rest := []) c156_100 rfl (ct_ens hl h (need := len + 1) (by omega) (by omega) hc2 hn2) hb0.1 rfl rfl (Nat.le_of_ble_eq_true rfl) (by decide +kernel) (by decide +kernel) d156_7 (Or.inl hf) (fun v τ e => ?_) (fun E τ e _ => by obtain ⟨_, e1, _⟩ := e; cases e1)
  obtain ⟨τ1, e1, hB, hn1⟩ := e
  cases e1
  obtain ⟨hf1, ⟨w, hb, hw0, hT, hr⟩, hlen, hcl, hRF, hn⟩ := id hB
  have hcap := grow_cap cap (len + 1) hc2
  refine x_aload_n (pc := 10) rfl d156_10 ?_
  refine x_callU (k := 0) (n := 0) (pc := 11) (t := 160) (As := []) (rest := []) c156_83 (u := 160) (by decide) rfl (inT_any (by decide +kernel)) rfl jIni (ct_sbLat hl hb) hb.1 rfl rfl (Nat.le_of_ble_eq_true rfl) (by decide +kernel) (by decide +kernel) d156_11 fr_or' (fun v τ e => ?_) (fun E τ e _ => by cases e)
  cases e
  refine x_if_eq (pc := 14) (tgt := 45) ⟨by omega, by omega⟩ d156_14 (by decide) (fun _ => by exfalso; omega) (fun _ => ?_)
  refine x_iload_n (pc := 17) rfl d156_17 ?_
  refine x_callS2 (k := 0) (n := 0) (pc := 18) (t := 174) (As := [.int (iI c)]) (rest := []) c156_191 (ct_canE hl hc.1 hc.2) rfl rfl (Nat.le_of_ble_eq_true rfl) (by decide +kernel) (by decide +kernel) d156_18 fr_or' (fun v τ e => ?_) (fun E τ e _ => by cases e)
  cases e
  refine x_if_eq (pc := 21) (tgt := 45) ⟨by omega, by omega⟩ d156_21 (by decide) (fun _ => by exfalso; omega) (fun _ => ?_)
  refine x_aload_n (pc := 24) rfl d156_24 ?_
  refine x_getR (pc := 25) f156_15 hb.1 (by decide) hb.2.1 d156_25 ?_
  refine x_aload_n (pc := 28) rfl d156_28 ?_
  refine x_dup (pc := 29) rfl d156_29 ?_
  refine x_getI (pc := 30) f156_79 hb.1 (by decide) (z := 3) rfl d156_30 ?_
  refine x_val hlen ?_
  refine x_dupx (pc := 33) rfl rfl d156_33 ?_
  refine x_iconst (pc := 34) d156_34 ?_
  refine x_iadd (pc := 35) d156_35 ?_
  refine x_putI (pc := 36) (z := 3) f156_79 hb.1 (Or.inl (by decide)) (by decide) rfl d156_36 ?_
  refine x_iload_n (pc := 39) rfl d156_39 ?_
  refine x_i2b (pc := 40) hc.1 hc.2 d156_40 ?_
  refine x_bast (pc := 41) (a := w) (m0 := grow cap (len + 1)) hb.2.2.1 (by omega) (by omega) (by omega) hc.1 hc.2 d156_41 ?_
  refine x_goto (pc := 42) (tgt := 75) d156_42 (by decide) ?_
  refine x_aload_n (pc := 75) rfl d156_75 ?_
  refine x_aret rfl (Or.inl ⟨_, rfl⟩) (fun _ => rfl) d156_76 ⟨_, rfl, ⟨hf1, ⟨w, (hb.up (by omega)).up (by omega), hw0, fun j j0 j1 => ?_, fun j j0 j1 => ?_⟩, ?_, ⟨by omega, by omega, by omega⟩, hRF, hn⟩, hn1⟩
  · show up2 (up2 τ.1 0 3 (len + 1)) w len c w j = snoc T len c j
    unfold snoc
    rw [up2_t]
    by_cases e : j = len
    · rw [if_pos ⟨rfl, e⟩, if_pos e]
    · rw [if_neg (fun z => e z.2), if_neg e, up2_t, if_neg (fun z => hw0 z.1)]
      exact hT j j0 (by omega)
  · show 0 ≤ up2 (up2 τ.1 0 3 (len + 1)) w len c w j ∧ up2 (up2 τ.1 0 3 (len + 1)) w len c w j ≤ 127
    rw [up2_t]
    split
    · exact hc
    · rw [up2_t, if_neg (fun z => hw0 z.1)]
      exact hr j j0 j1
  · show up2 (up2 τ.1 0 3 (len + 1)) w len c 0 3 = len + 1
    rw [up2_t, if_neg (fun z => hw0 z.1.symm), up2_t, if_pos ⟨rfl, rfl⟩]
theorem ct_apC (hl : l.1.stackTraces = false) (h : BS σ cap len T) {c : Int} (hc : 0 ≤ c ∧ c ≤ 127) (hc2 : cap ≤ 140) (hn2 : σ.2.2.2.1 < 1000) :
    CT l 149 [.ref 0, .int (iI c)] σ (grK cap (len + 1)) (grN cap (len + 1)) (fun o => ∃ τ, o = (.inl (some (.ref 0)), τ) ∧ BS τ (grow cap (len + 1)) (len + 1) (snoc T len c) ∧ τ.2.2.2.1 ≤ σ.2.2.2.1 + 1) := by
  obtain ⟨hf, ⟨w0, hb0, -, -, -⟩, -⟩ := id h
  refine mkct2 hl (by decide) (Nat.le_of_ble_eq_true rfl) (L := [some (.ref 0), some (.int (iI c))]) rfl ?_
  refine ex_kn ?_
  refine x_aload_n (pc := 0) rfl d149_0 ?_
  refine x_iload_n (pc := 1) rfl d149_1 ?_
  refine x_callSU (k := 0) (n := 0) (pc := 2) (t := 156) (As := [.int (iI c)]) (rest := []) c149_50 rfl rfl (ct_apC0 hl h hc hc2 hn2) hb0.1 rfl rfl (Nat.le_of_ble_eq_true rfl) (by decide +kernel) (by decide +kernel) d149_2 (Or.inl hf) (fun v τ e => ?_) (fun E τ e _ => by obtain ⟨_, e1, _⟩ := e; cases e1)
  obtain ⟨τ1, e1, hB, hn1⟩ := e
  cases e1
  refine x_pop (pc := 5) rfl d149_5 ?_
  refine x_aload_n (pc := 6) rfl d149_6 ?_
  exact x_aret rfl (Or.inl ⟨_, rfl⟩) (fun _ => rfl) d149_7 ⟨_, rfl, hB, hn1⟩
def gcM (I : Nat → Int → Int) (w : Nat) (i z : Int) : Nat → Int → Int :=
  if z < 10 then up2 I w (i + -1) (48 + z % 10) else if z < 100 then up2 (up2 I w (i + -1) (48 + z % 10)) w (i + -1 + -1) (48 + z / 10) else up2 (up2 (up2 I w (i + -1) (48 + z % 100 % 10)) w (i + -1 + -1) (48 + z % 100 / 10)) w (i + -1 + -1 + -1) (48 + z / 100 % 10)
theorem ct_gch (hl : l.1.stackTraces = false) {w m0 : Nat} (h : isB σ w m0) {z i : Int} (h0 : 0 ≤ z) (h1 : z ≤ 999) (h2 : ndg z ≤ i) (h3 : i ≤ m0) (h4 : m0 ≤ 1000) : CT l 176 [.int (iI z), .int (iI i), .ref w] σ 0 0 (fun o => o.2 = (gcM σ.1 w i z, σ.2) ∧ ∃ p : Int32, o.1 = .inl (some (.int p))) := by
  refine mkct2 hl (by decide) (Nat.le_of_ble_eq_true rfl) (L := [some (.int (iI z)), some (.int (iI i)), some (.ref w), none, none, none, none]) rfl ?_
  refine x_iload_n (pc := 0) rfl d176_0 ?_
  refine x_istore (pc := 1) (by decide +kernel) rfl d176_1 ?_
  refine x_iload_n (pc := 3) rfl d176_3 ?_
  refine x_if_ge (pc := 4) (tgt := 11) ⟨by omega, by omega⟩ d176_4 (by decide) (fun _ => ?_) (fun _ => by exfalso; omega)
  refine x_iconst (pc := 11) d176_11 ?_
  refine x_istore (pc := 12) (by decide +kernel) rfl d176_12 ?_
  refine x_iload (pc := 14) rfl d176_14 ?_
  refine x_if_ne (pc := 16) (tgt := 22) ⟨by omega, by omega⟩ d176_16 (by decide) (fun _ => by exfalso; omega) (fun _ => ?_)
  refine x_iload_n (pc := 19) rfl d176_19 ?_
  refine x_ineg (pc := 20) d176_20 ?_
  refine x_istore_n (pc := 21) (by decide +kernel) rfl d176_21 ?_
  refine x_iload_n (pc := 22) rfl d176_22 ?_
  refine x_bipush (pc := 23) (by decide) d176_23 ?_
  unfold ndg at h2
  refine x_icmp_gt (pc := 25) (tgt := 72) ⟨by omega, by omega⟩ ⟨by omega, by omega⟩ d176_25 (by decide) (fun g => ?_) (fun g => ?_)
  · by_cases g1 : z < 10
    · rw [if_pos g1] at h2
      refine x_aload_n (pc := 72) rfl d176_72 ?_
      refine x_iinc (pc := 73) (z := i) rfl (by decide +kernel) rfl d176_73 ?_
      refine x_iload (pc := 76) rfl d176_76 ?_
      refine x_gO (pc := 78) rfl d176_78 ?_
      refine x_iload_n (pc := 81) rfl d176_81 ?_
      refine x_ineg (pc := 82) d176_82 ?_
      refine x_val (show - -(z) = z from by omega) ?_
      refine x_dO (pc := 83) (by omega) (by omega) d176_83 ?_
      refine x_bast (pc := 84) (a := w) (m0 := m0) h (by omega) (by omega) (by omega) (by omega) (by omega) d176_84 ?_
      refine x_iload_n (pc := 85) rfl d176_85 ?_
      refine x_bipush (pc := 86) (by decide) d176_86 ?_
      refine x_icmp_ge (pc := 88) (tgt := 104) ⟨by omega, by omega⟩ ⟨by omega, by omega⟩ d176_88 (by decide) (fun _ => ?_) (fun _ => by exfalso; omega)
      refine x_iload (pc := 104) rfl d176_104 ?_
      refine x_if_eq (pc := 106) (tgt := 118) ⟨by omega, by omega⟩ d176_106 (by decide) (fun _ => ?_) (fun _ => by exfalso; omega)
      refine x_iload (pc := 118) rfl d176_118 ?_
      refine x_iret rfl (fun _ => rfl) d176_120 ⟨?_, _, rfl⟩
      unfold gcM
      rw [if_pos g1]
    · rw [if_neg g1, if_pos (by omega)] at h2
      refine x_aload_n (pc := 72) rfl d176_72 ?_
      refine x_iinc (pc := 73) (z := i) rfl (by decide +kernel) rfl d176_73 ?_
      refine x_iload (pc := 76) rfl d176_76 ?_
      refine x_gO (pc := 78) rfl d176_78 ?_
      refine x_iload_n (pc := 81) rfl d176_81 ?_
      refine x_ineg (pc := 82) d176_82 ?_
      refine x_val (show - -(z) = z from by omega) ?_
      refine x_dO (pc := 83) (by omega) (by omega) d176_83 ?_
      refine x_bast (pc := 84) (a := w) (m0 := m0) h (by omega) (by omega) (by omega) (by omega) (by omega) d176_84 ?_
      refine x_iload_n (pc := 85) rfl d176_85 ?_
      refine x_bipush (pc := 86) (by decide) d176_86 ?_
      refine x_icmp_ge (pc := 88) (tgt := 104) ⟨by omega, by omega⟩ ⟨by omega, by omega⟩ d176_88 (by decide) (fun _ => by exfalso; omega) (fun _ => ?_)
      refine x_aload_n (pc := 91) rfl d176_91 ?_
      refine x_iinc (pc := 92) (z := i + -1) rfl (by decide +kernel) rfl d176_92 ?_
      refine x_iload (pc := 95) rfl d176_95 ?_
      refine x_gT (pc := 97) rfl d176_97 ?_
      refine x_iload_n (pc := 100) rfl d176_100 ?_
      refine x_ineg (pc := 101) d176_101 ?_
      refine x_val (show - -(z) = z from by omega) ?_
      refine x_dT (pc := 102) (by omega) (by omega) d176_102 ?_
      refine x_bast (pc := 103) (a := w) (m0 := m0) h (by omega) (by omega) (by omega) (by omega) (by omega) d176_103 ?_
      refine x_iload (pc := 104) rfl d176_104 ?_
      refine x_if_eq (pc := 106) (tgt := 118) ⟨by omega, by omega⟩ d176_106 (by decide) (fun _ => ?_) (fun _ => by exfalso; omega)
      refine x_iload (pc := 118) rfl d176_118 ?_
      refine x_iret rfl (fun _ => rfl) d176_120 ⟨?_, _, rfl⟩
      unfold gcM
      rw [if_neg g1, if_pos (by omega)]
  · rw [if_neg (by omega), if_neg (by omega)] at h2
    refine x_iload_n (pc := 28) rfl d176_28 ?_
    refine x_bipush (pc := 29) (by decide) d176_29 ?_
    refine x_ndiv (pc := 31) h0 (by omega) (by decide) (by decide) d176_31 ?_
    refine x_istore_n (pc := 32) (by decide +kernel) rfl d176_32 ?_
    refine x_iload_n (pc := 33) rfl d176_33 ?_
    refine x_bipush (pc := 34) (by decide) d176_34 ?_
    refine x_imul (pc := 36) d176_36 ?_
    refine x_iload_n (pc := 37) rfl d176_37 ?_
    refine x_isub (pc := 38) d176_38 ?_
    refine x_val (show -(z / 100) * 100 - -z = z % 100 from by omega) ?_
    refine x_istore (pc := 39) (by decide +kernel) rfl d176_39 ?_
    refine x_iload_n (pc := 41) rfl d176_41 ?_
    refine x_istore_n (pc := 42) (by decide +kernel) rfl d176_42 ?_
    refine x_aload_n (pc := 43) rfl d176_43 ?_
    refine x_iinc (pc := 44) (z := i) rfl (by decide +kernel) rfl d176_44 ?_
    refine x_iload (pc := 47) rfl d176_47 ?_
    refine x_gO (pc := 49) rfl d176_49 ?_
    refine x_iload (pc := 52) rfl d176_52 ?_
    refine x_dO (pc := 54) (by omega) (by omega) d176_54 ?_
    refine x_bast (pc := 55) (a := w) (m0 := m0) h (by omega) (by omega) (by omega) (by omega) (by omega) d176_55 ?_
    refine x_aload_n (pc := 56) rfl d176_56 ?_
    refine x_iinc (pc := 57) (z := i + -1) rfl (by decide +kernel) rfl d176_57 ?_
    refine x_iload (pc := 60) rfl d176_60 ?_
    refine x_gT (pc := 62) rfl d176_62 ?_
    refine x_iload (pc := 65) rfl d176_65 ?_
    refine x_dT (pc := 67) (by omega) (by omega) d176_67 ?_
    refine x_bast (pc := 68) (a := w) (m0 := m0) h (by omega) (by omega) (by omega) (by omega) (by omega) d176_68 ?_
    refine x_goto (pc := 69) (tgt := 22) d176_69 (by decide) ?_
    refine x_iload_n (pc := 22) rfl d176_22 ?_
    refine x_bipush (pc := 23) (by decide) d176_23 ?_
    refine x_icmp_gt (pc := 25) (tgt := 72) ⟨by omega, by omega⟩ ⟨by omega, by omega⟩ d176_25 (by decide) (fun _ => ?_) (fun _ => by exfalso; omega)
    refine x_aload_n (pc := 72) rfl d176_72 ?_
    refine x_iinc (pc := 73) (z := i + -1 + -1) rfl (by decide +kernel) rfl d176_73 ?_
    refine x_iload (pc := 76) rfl d176_76 ?_
    refine x_gO (pc := 78) rfl d176_78 ?_
    refine x_iload_n (pc := 81) rfl d176_81 ?_
    refine x_ineg (pc := 82) d176_82 ?_
    refine x_val (show - -(z / 100) = z / 100 from by omega) ?_
    refine x_dO (pc := 83) (by omega) (by omega) d176_83 ?_
    refine x_bast (pc := 84) (a := w) (m0 := m0) h (by omega) (by omega) (by omega) (by omega) (by omega) d176_84 ?_
    refine x_iload_n (pc := 85) rfl d176_85 ?_
    refine x_bipush (pc := 86) (by decide) d176_86 ?_
    refine x_icmp_ge (pc := 88) (tgt := 104) ⟨by omega, by omega⟩ ⟨by omega, by omega⟩ d176_88 (by decide) (fun _ => ?_) (fun _ => by exfalso; omega)
    refine x_iload (pc := 104) rfl d176_104 ?_
    refine x_if_eq (pc := 106) (tgt := 118) ⟨by omega, by omega⟩ d176_106 (by decide) (fun _ => ?_) (fun _ => by exfalso; omega)
    refine x_iload (pc := 118) rfl d176_118 ?_
    refine x_iret rfl (fun _ => rfl) d176_120 ⟨?_, _, rfl⟩
    unfold gcM
    rw [if_neg (by omega), if_neg (by omega)]
/-- a number behind the others -/
def apN (T : Int → Int) (len z : Int) : Int → Int :=
  if z < 10 then snoc T len (48 + z) else if z < 100 then snoc (snoc T len (48 + z / 10)) (len + 1) (48 + z % 10) else snoc (snoc (snoc T len (48 + z / 100)) (len + 1) (48 + z / 10 % 10)) (len + 2) (48 + z % 10)
theorem ndg_r {z : Int} : 1 ≤ ndg z ∧ ndg z ≤ 3 := by unfold ndg; split; omega; split <;> omega
theorem gcM_o {I : Nat → Int → Int} {w a : Nat} {i z j : Int} (h : a ≠ w) : gcM I w i z a j = I a j := by
  unfold gcM
  split
  · rw [up2_t, if_neg (fun q => h q.1)]
  · split
    · rw [up2_t, if_neg (fun q => h q.1), up2_t, if_neg (fun q => h q.1)]
    · rw [up2_t, if_neg (fun q => h q.1), up2_t, if_neg (fun q => h q.1), up2_t, if_neg (fun q => h q.1)]
theorem gcM_T {I : Nat → Int → Int} {w : Nat} {z j : Int} (h0 : 0 ≤ z) (h1 : z ≤ 999) (hT : ∀ j : Int, 0 ≤ j → j < len → I w j = T j) (j0 : 0 ≤ j) (j1 : j < len + ndg z) : gcM I w (len + ndg z) z w j = apN T len z j := by
  unfold ndg at j1 ⊢
  unfold gcM apN
  by_cases g1 : z < 10
  · rw [if_pos g1, if_pos g1]
    rw [if_pos g1] at j1 ⊢
    unfold snoc
    rw [up2_t]
    by_cases e : j = len
    · rw [if_pos ⟨rfl, by omega⟩, if_pos e]; omega
    · rw [if_neg (fun q => e (by have := q.2; omega)), if_neg e]; exact hT j j0 (by omega)
  · rw [if_neg g1, if_neg g1]
    rw [if_neg g1] at j1 ⊢
    by_cases g2 : z < 100
    · rw [if_pos g2, if_pos g2]
      rw [if_pos g2] at j1 ⊢
      unfold snoc
      rw [up2_t, up2_t]
      by_cases e : j = len
      · rw [if_pos ⟨rfl, by omega⟩, if_neg (by omega), if_pos e]
      · rw [if_neg (fun q => e (by have := q.2; omega))]
        by_cases e2 : j = len + 1
        · rw [if_pos ⟨rfl, by omega⟩, if_pos e2]
        · rw [if_neg (fun q => e2 (by have := q.2; omega)), if_neg e2, if_neg e]; exact hT j j0 (by omega)
    · rw [if_neg g2, if_neg g2]
      rw [if_neg g2] at j1 ⊢
      unfold snoc
      rw [up2_t, up2_t, up2_t]
      by_cases e : j = len
      · rw [if_pos ⟨rfl, by omega⟩, if_neg (by omega), if_neg (by omega), if_pos e]; omega
      · rw [if_neg (fun q => e (by have := q.2; omega))]
        by_cases e2 : j = len + 1
        · rw [if_pos ⟨rfl, by omega⟩, if_neg (by omega), if_pos e2]; omega
        · rw [if_neg (fun q => e2 (by have := q.2; omega))]
          by_cases e3 : j = len + 2
          · rw [if_pos ⟨rfl, by omega⟩, if_pos e3]; omega
          · rw [if_neg (fun q => e3 (by have := q.2; omega)), if_neg e3, if_neg e2, if_neg e]; exact hT j j0 (by omega)
theorem gcM_r {I : Nat → Int → Int} {w m0 : Nat} {i z : Int} (h0 : 0 ≤ z) (h1 : z ≤ 999) (hr : ∀ j : Int, 0 ≤ j → j < m0 → 0 ≤ I w j ∧ I w j ≤ 127) : ∀ j : Int, 0 ≤ j → j < m0 → 0 ≤ gcM I w i z w j ∧ gcM I w i z w j ≤ 127 := by
  intro j j0 j1
  have := hr j j0 j1
  unfold gcM
  split
  · rw [up2_t]; split <;> omega
  · split
    · rw [up2_t, up2_t]; split; omega; split <;> omega
    · rw [up2_t, up2_t, up2_t]; split; omega; split; omega; split <;> omega
theorem ct_apN0 (hl : l.1.stackTraces = false) (h : BS σ cap len T) {z : Int} (hz0 : 0 ≤ z) (hz1 : z ≤ 999) (hc2 : cap ≤ 140) (hc1 : 2 ≤ cap) (hn2 : σ.2.2.2.1 < 1000) :
    CT l 157 [.ref 0, .int (iI z)] σ (grK cap (len + ndg z)) (grN cap (len + ndg z)) (fun o => ∃ τ, o = (.inl (some (.ref 0)), τ) ∧ BS τ (grow cap (len + ndg z)) (len + ndg z) (apN T len z) ∧ τ.2.2.2.1 ≤ σ.2.2.2.1 + 1) := by
  obtain ⟨hf, ⟨w0, hb0, -, -, -⟩, hlen0, hc0, -, -⟩ := id h
  have hd := ndg_r (z := z)
  have hg := grow_ge cap (need := len + ndg z) (by omega)
  refine mkct2 hl (by decide) (Nat.le_of_ble_eq_true rfl) (L := [some (.ref 0), some (.int (iI z)), none, none]) rfl ?_
  refine ex_kn ?_
  refine x_aload_n (pc := 0) rfl d157_0 ?_
  refine x_getI (pc := 1) f157_79 hb0.1 (by decide) (z := 3) rfl d157_1 ?_
  refine x_val hlen0 ?_
  refine x_istore_n (pc := 4) (by decide +kernel) rfl d157_4 ?_
  refine x_iload_n (pc := 5) rfl d157_5 ?_
  refine x_iload_n (pc := 6) rfl d157_6 ?_
  refine ex_00 ?_
  refine x_callS2 (k := grK cap (len + ndg z) + 0) (n := grN cap (len + ndg z) + 0) (pc := 7) (t := 177) (As := [.int (iI z)]) (rest := [.int (iI len)]) c157_245 (ct_ssz hl hz0 hz1) rfl rfl (Nat.le_of_ble_eq_true rfl) (by decide +kernel) (by decide +kernel) d157_7 fr_or' (fun v τ e => ?_) (fun E τ e _ => by cases e)
  cases e
  refine x_iadd (pc := 10) d157_10 ?_
  refine x_istore_n (pc := 11) (by decide +kernel) rfl d157_11 ?_
  refine x_aload_n (pc := 12) rfl d157_12 ?_
  refine x_iload_n (pc := 13) rfl d157_13 ?_
  refine x_callP (k := 0) (n := 0) (pc := 14) (t := 158) (As := [.int (iI (len + ndg z))]) (rest := []) c157_100 rfl (ct_ens hl h (need := len + ndg z) (by omega) (by omega) hc2 hn2) hb0.1 rfl rfl (Nat.le_of_ble_eq_true rfl) (by decide +kernel) (by decide +kernel) d157_14 (Or.inl hf) (fun v τ e => ?_) (fun E τ e _ => by obtain ⟨_, e1, _⟩ := e; cases e1)
  obtain ⟨τ1, e1, hB, hn1⟩ := e
  cases e1
  obtain ⟨hf1, ⟨w, hb, hw0, hT, hr⟩, hlen, hcl, hRF, hn⟩ := id hB
  have hcap := grow_cap cap (len + ndg z) hc2
  refine x_aload_n (pc := 17) rfl d157_17 ?_
  refine x_callU (k := 0) (n := 0) (pc := 18) (t := 160) (As := []) (rest := []) c157_83 (u := 160) (by decide) rfl (inT_any (by decide +kernel)) rfl jIni (ct_sbLat hl hb) hb.1 rfl rfl (Nat.le_of_ble_eq_true rfl) (by decide +kernel) (by decide +kernel) d157_18 fr_or' (fun v τ e => ?_) (fun E τ e _ => by cases e)
  cases e
  refine x_if_eq (pc := 21) (tgt := 37) ⟨by omega, by omega⟩ d157_21 (by decide) (fun _ => by exfalso; omega) (fun _ => ?_)
  refine x_iload_n (pc := 24) rfl d157_24 ?_
  refine x_iload_n (pc := 25) rfl d157_25 ?_
  refine x_aload_n (pc := 26) rfl d157_26 ?_
  refine x_getR (pc := 27) f157_15 hb.1 (by decide) hb.2.1 d157_27 ?_
  refine x_callS2 (k := 0) (n := 0) (pc := 30) (t := 176) (As := [.int (iI z), .int (iI (len + ndg z)), .ref w]) (rest := []) c157_248 (ct_gch hl (m0 := grow cap (len + ndg z)) hb.2.2.1 hz0 hz1 (i := len + ndg z) (by omega) (by omega) (by omega)) rfl rfl (Nat.le_of_ble_eq_true rfl) (by decide +kernel) (by decide +kernel) d157_30 (Or.inl hf1) (fun v τ e => ?_) (fun E τ e _ => by obtain ⟨_, _, e1⟩ := e; cases e1)
  obtain ⟨e1, p1, e2⟩ := e
  dsimp only at e1 e2
  cases e2
  subst e1
  refine x_pop (pc := 33) rfl d157_33 ?_
  refine x_goto (pc := 34) (tgt := 48) d157_34 (by decide) ?_
  refine x_aload_n (pc := 48) rfl d157_48 ?_
  refine x_iload_n (pc := 49) rfl d157_49 ?_
  refine x_putI (pc := 50) (z := 3) f157_79 hb.1 (Or.inl (by decide)) (by decide) rfl d157_50 ?_
  refine x_aload_n (pc := 53) rfl d157_53 ?_
  refine x_aret rfl (Or.inl ⟨_, rfl⟩) (fun _ => rfl) d157_54 ⟨_, rfl, ⟨hf1, ⟨w, ⟨hb.1, hb.2.1, hb.2.2.1, ?_⟩, hw0, fun j j0 j1 => ?_, fun j j0 j1 => ?_⟩, ?_, ⟨by omega, by omega, by omega⟩, hRF, hn⟩, hn1⟩
  · show up2 (gcM τ.1 w (len + ndg z) z) 0 3 (len + ndg z) 0 1 = 0
    rw [up2_t, if_neg (fun q => by have := q.2; omega), gcM_o hw0.symm]
    exact hb.2.2.2
  · show up2 (gcM τ.1 w (len + ndg z) z) 0 3 (len + ndg z) w j = apN T len z j
    rw [up2_t, if_neg (fun q => hw0 q.1)]
    exact gcM_T hz0 hz1 hT j0 j1
  · show 0 ≤ up2 (gcM τ.1 w (len + ndg z) z) 0 3 (len + ndg z) w j ∧ up2 (gcM τ.1 w (len + ndg z) z) 0 3 (len + ndg z) w j ≤ 127
    rw [up2_t, if_neg (fun q => hw0 q.1)]
    exact gcM_r hz0 hz1 hr j j0 j1
  · show up2 (gcM τ.1 w (len + ndg z) z) 0 3 (len + ndg z) 0 3 = len + ndg z
    rw [up2_t, if_pos ⟨rfl, rfl⟩]
theorem ct_apN (hl : l.1.stackTraces = false) (h : BS σ cap len T) {z : Int} (hz0 : 0 ≤ z) (hz1 : z ≤ 999) (hc2 : cap ≤ 140) (hc1 : 2 ≤ cap) (hn2 : σ.2.2.2.1 < 1000) :
    CT l 150 [.ref 0, .int (iI z)] σ (grK cap (len + ndg z)) (grN cap (len + ndg z)) (fun o => ∃ τ, o = (.inl (some (.ref 0)), τ) ∧ BS τ (grow cap (len + ndg z)) (len + ndg z) (apN T len z) ∧ τ.2.2.2.1 ≤ σ.2.2.2.1 + 1) := by
  obtain ⟨hf, ⟨w0, hb0, -, -, -⟩, -⟩ := id h
  refine mkct2 hl (by decide) (Nat.le_of_ble_eq_true rfl) (L := [some (.ref 0), some (.int (iI z))]) rfl ?_
  refine ex_kn ?_
  refine x_aload_n (pc := 0) rfl d150_0 ?_
  refine x_iload_n (pc := 1) rfl d150_1 ?_
  refine x_callSU (k := 0) (n := 0) (pc := 2) (t := 157) (As := [.int (iI z)]) (rest := []) c150_53 rfl rfl (ct_apN0 hl h hz0 hz1 hc2 hc1 hn2) hb0.1 rfl rfl (Nat.le_of_ble_eq_true rfl) (by decide +kernel) (by decide +kernel) d150_2 (Or.inl hf) (fun v τ e => ?_) (fun E τ e _ => by obtain ⟨_, e1, _⟩ := e; cases e1)
  obtain ⟨τ1, e1, hB, hn1⟩ := e
  cases e1
  refine x_pop (pc := 5) rfl d150_5 ?_
  refine x_aload_n (pc := 6) rfl d150_6 ?_
  exact x_aret rfl (Or.inl ⟨_, rfl⟩) (fun _ => rfl) d150_7 ⟨_, rfl, hB, hn1⟩
end Ja
