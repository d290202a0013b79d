/-! ===== tokens ===== -/
def kdZ (c : Int) : Int := if c = -1 then 0 else if 97 ≤ c ∧ c ≤ 122 then 1 else if 48 ≤ c ∧ c ≤ 57 then 2 else if c = 59 then 3 else 4
def skN (T : Int → Int) (n : Int) : Nat → Int → Int
  | 0, i => i
  | m + 1, i => if i < n ∧ T i = 32 then skN T n m (i + 1) else i
def rnN (T : Int → Int) (n k : Int) : Nat → Int → Int
  | 0, e => e
  | m + 1, e => if e < n ∧ kdZ (T e) = k then rnN T n k m (e + 1) else e
/-- the token behind e: its start, kind, end -/
def tS (T : Int → Int) (n e : Int) : Int := skN T n (n - e).toNat e
def tK (T : Int → Int) (n e : Int) : Int := kdZ (atT T n (tS T n e))
def tE (T : Int → Int) (n e : Int) : Int := if tK T n e = 0 then tS T n e else if tK T n e = 1 ∨ tK T n e = 2 then rnN T n (tK T n e) (n - (tS T n e + 1)).toNat (tS T n e + 1) else tS T n e + 1
theorem skN_r {T : Int → Int} {n : Int} : ∀ (m : Nat) (i : Int), i + m ≤ n → i ≤ skN T n m i ∧ skN T n m i ≤ n
  | 0, i, h => ⟨Int.le_refl i, by show i ≤ n; omega⟩
  | m + 1, i, h => by
    unfold skN
    split
    · have := skN_r (T := T) (n := n) m (i + 1) (by omega); omega
    · omega
theorem rnN_r {T : Int → Int} {n k : Int} : ∀ (m : Nat) (i : Int), i + m ≤ n → i ≤ rnN T n k m i ∧ rnN T n k m i ≤ n
  | 0, i, h => ⟨Int.le_refl i, by show i ≤ n; omega⟩
  | m + 1, i, h => by
    unfold rnN
    split
    · have := rnN_r (T := T) (n := n) (k := k) m (i + 1) (by omega); omega
    · omega
theorem kdZ_r (c : Int) : 0 ≤ kdZ c ∧ kdZ c ≤ 4 := by
  unfold kdZ
  split
  · decide
  · split
    · decide
    · split
      · decide
      · split <;> decide
theorem kdZ_0 {c : Int} (h : kdZ c = 0) : c = -1 := by
  unfold kdZ at h
  split at h
  · assumption
  · split at h
    · omega
    · split at h
      · omega
      · split at h <;> omega
theorem atT_r {T : Int → Int} {n : Int} (hT : ∀ i, 0 ≤ i → i < n → 0 ≤ T i ∧ T i ≤ 255) (i : Int) : -1 ≤ atT T n i ∧ atT T n i ≤ 255 := by
  unfold atT
  split
  · have := hT i (by omega) (by omega); omega
  · decide
theorem tok_r {T : Int → Int} {n e : Int} (h1 : e ≤ n) : e ≤ tS T n e ∧ tS T n e ≤ n ∧ tS T n e ≤ tE T n e ∧ tE T n e ≤ n ∧ (tK T n e ≠ 0 → tS T n e < n ∧ tS T n e < tE T n e) ∧ 0 ≤ tK T n e ∧ tK T n e ≤ 4 := by
  have hs := skN_r (T := T) (n := n) (n - e).toNat e (by omega)
  have hk := kdZ_r (atT T n (tS T n e))
  have h3 : tK T n e ≠ 0 → tS T n e < n := fun hne => by
    by_cases hlt : 0 ≤ tS T n e ∧ tS T n e < n
    · exact hlt.2
    · exfalso
      refine hne ?_
      unfold tK atT
      rw [if_neg hlt]
      rfl
  have hS : tS T n e = skN T n (n - e).toNat e := rfl
  refine ⟨hs.1, hs.2, ?_, ?_, fun hne => ⟨h3 hne, ?_⟩, hk.1, hk.2⟩
  · unfold tE
    split
    · exact Int.le_refl _
    · rename_i hne
      have := h3 hne
      split
      · have := rnN_r (T := T) (n := n) (k := tK T n e) (n - (tS T n e + 1)).toNat (tS T n e + 1) (by omega); omega
      · omega
  · unfold tE
    split
    · exact hs.2
    · rename_i hne
      have := h3 hne
      split
      · have := rnN_r (T := T) (n := n) (k := tK T n e) (n - (tS T n e + 1)).toNat (tS T n e + 1) (by omega); omega
      · omega
  · have := h3 hne
    unfold tE
    rw [if_neg hne]
    split
    · have := rnN_r (T := T) (n := n) (k := tK T n e) (n - (tS T n e + 1)).toNat (tS T n e + 1) (by omega); omega
    · omega
/-- nothing but the token has changed -/
def TKI (I J : Nat → Int → Int) : Prop := (∀ a, a ≠ 5 → J a = I a) ∧ ∀ j : Int, j ≠ 1 → j ≠ 2 → j ≠ 3 → J 5 j = I 5 j
theorem TKI.up {I J : Nat → Int → Int} (h : TKI I J) {j z : Int} (hj : j = 1 ∨ j = 2 ∨ j = 3) : TKI I (up2 J 5 j z) := ⟨fun a ha => by rw [up2_off' _ _ _ ha]; exact h.1 a ha, fun i h1 h2 h3 => by rw [up2_i (by omega)]; exact h.2 i h1 h2 h3⟩
section Tok
variable {l : LX} {q : Nat} {I : Nat → Int → Int} {v : Int} {fr : Bool} {T : Int → Int} {n : Int}
theorem dt_atT (hl : l.1.stackTraces = false) (hq : 181 ≤ q) (hT : I 2 = T) (hn : I 1 1 = n) (h0 : 0 ≤ n) (h1 : n ≤ 500) {i : Int} (hi : InR i) : DT l 63 [.ref 1, .int (iI i)] (mm q I v fr) 0 0 (.inl (some (.int (iI (atT T n i)))), mm q I v fr) := by
  rw [← hT]; exact dt_at1 hl hq hn h0 h1 hi
theorem dt_kind (hl : l.1.stackTraces = false) {c : Int} (hc : InR c) : DT l 70 [.int (iI c)] (mm q I v fr) 0 0 (.inl (some (.int (iI (kdZ c)))), mm q I v fr) := by
  obtain ⟨hc1, hc2⟩ := hc
  refine mkdt hl (by decide) (Nat.le_of_ble_eq_true rfl) (L := [some (.int (iI c))]) rfl ?_
  refine x_iload_n (pc := 0) rfl d70_0 ?_
  refine x_iconst (pc := 1) d70_1 ?_
  refine x_icmp_ne (pc := 2) (tgt := 7) ⟨by omega, by omega⟩ ⟨by omega, by omega⟩ d70_2 (by decide) (fun g2 => ?_) (fun g2 => ?_)
  · refine x_iload_n (pc := 7) rfl d70_7 ?_
    refine x_bipush (pc := 8) (by decide) d70_8 ?_
    refine x_icmp_lt (pc := 10) (tgt := 21) ⟨by omega, by omega⟩ ⟨by omega, by omega⟩ d70_10 (by decide) (fun g10 => ?_) (fun g10 => ?_)
    · refine x_iload_n (pc := 21) rfl d70_21 ?_
      refine x_bipush (pc := 22) (by decide) d70_22 ?_
      refine x_icmp_lt (pc := 24) (tgt := 35) ⟨by omega, by omega⟩ ⟨by omega, by omega⟩ d70_24 (by decide) (fun g24 => ?_) (fun g24 => ?_)
      · refine x_iload_n (pc := 35) rfl d70_35 ?_
        refine x_bipush (pc := 36) (by decide) d70_36 ?_
        refine x_icmp_ne (pc := 38) (tgt := 45) ⟨by omega, by omega⟩ ⟨by omega, by omega⟩ d70_38 (by decide) (fun g38 => ?_) (fun g38 => ?_)
        · refine x_iconst (pc := 45) d70_45 ?_
          refine x_iret (pc := 46) rfl (fun _ => rfl) d70_46 ?_
          first | (exfalso; omega) | exact congrArg (fun z => ((Sum.inl (some (Value.int (iI z))), mm q I v fr) : OO)) (by unfold kdZ; repeat (first | rw [if_pos (by omega)] | rw [if_neg (by omega)]))
        · refine x_iconst (pc := 41) d70_41 ?_
          refine x_goto (pc := 42) (tgt := 46) d70_42 (by decide) ?_
          refine x_iret (pc := 46) rfl (fun _ => rfl) d70_46 ?_
          first | (exfalso; omega) | exact congrArg (fun z => ((Sum.inl (some (Value.int (iI z))), mm q I v fr) : OO)) (by unfold kdZ; repeat (first | rw [if_pos (by omega)] | rw [if_neg (by omega)]))
      · refine x_iload_n (pc := 27) rfl d70_27 ?_
        refine x_bipush (pc := 28) (by decide) d70_28 ?_
        refine x_icmp_gt (pc := 30) (tgt := 35) ⟨by omega, by omega⟩ ⟨by omega, by omega⟩ d70_30 (by decide) (fun g30 => ?_) (fun g30 => ?_)
        · refine x_iload_n (pc := 35) rfl d70_35 ?_
          refine x_bipush (pc := 36) (by decide) d70_36 ?_
          refine x_icmp_ne (pc := 38) (tgt := 45) ⟨by omega, by omega⟩ ⟨by omega, by omega⟩ d70_38 (by decide) (fun g38 => ?_) (fun g38 => ?_)
          · refine x_iconst (pc := 45) d70_45 ?_
            refine x_iret (pc := 46) rfl (fun _ => rfl) d70_46 ?_
            first | (exfalso; omega) | exact congrArg (fun z => ((Sum.inl (some (Value.int (iI z))), mm q I v fr) : OO)) (by unfold kdZ; repeat (first | rw [if_pos (by omega)] | rw [if_neg (by omega)]))
          · refine x_iconst (pc := 41) d70_41 ?_
            refine x_goto (pc := 42) (tgt := 46) d70_42 (by decide) ?_
            refine x_iret (pc := 46) rfl (fun _ => rfl) d70_46 ?_
            first | (exfalso; omega) | exact congrArg (fun z => ((Sum.inl (some (Value.int (iI z))), mm q I v fr) : OO)) (by unfold kdZ; repeat (first | rw [if_pos (by omega)] | rw [if_neg (by omega)]))
        · refine x_iconst (pc := 33) d70_33 ?_
          refine x_iret (pc := 34) rfl (fun _ => rfl) d70_34 ?_
          first | (exfalso; omega) | exact congrArg (fun z => ((Sum.inl (some (Value.int (iI z))), mm q I v fr) : OO)) (by unfold kdZ; repeat (first | rw [if_pos (by omega)] | rw [if_neg (by omega)]))
    · refine x_iload_n (pc := 13) rfl d70_13 ?_
      refine x_bipush (pc := 14) (by decide) d70_14 ?_
      refine x_icmp_gt (pc := 16) (tgt := 21) ⟨by omega, by omega⟩ ⟨by omega, by omega⟩ d70_16 (by decide) (fun g16 => ?_) (fun g16 => ?_)
      · refine x_iload_n (pc := 21) rfl d70_21 ?_
        refine x_bipush (pc := 22) (by decide) d70_22 ?_
        refine x_icmp_lt (pc := 24) (tgt := 35) ⟨by omega, by omega⟩ ⟨by omega, by omega⟩ d70_24 (by decide) (fun g24 => ?_) (fun g24 => ?_)
        · refine x_iload_n (pc := 35) rfl d70_35 ?_
          refine x_bipush (pc := 36) (by decide) d70_36 ?_
          refine x_icmp_ne (pc := 38) (tgt := 45) ⟨by omega, by omega⟩ ⟨by omega, by omega⟩ d70_38 (by decide) (fun g38 => ?_) (fun g38 => ?_)
          · refine x_iconst (pc := 45) d70_45 ?_
            refine x_iret (pc := 46) rfl (fun _ => rfl) d70_46 ?_
            first | (exfalso; omega) | exact congrArg (fun z => ((Sum.inl (some (Value.int (iI z))), mm q I v fr) : OO)) (by unfold kdZ; repeat (first | rw [if_pos (by omega)] | rw [if_neg (by omega)]))
          · refine x_iconst (pc := 41) d70_41 ?_
            refine x_goto (pc := 42) (tgt := 46) d70_42 (by decide) ?_
            refine x_iret (pc := 46) rfl (fun _ => rfl) d70_46 ?_
            first | (exfalso; omega) | exact congrArg (fun z => ((Sum.inl (some (Value.int (iI z))), mm q I v fr) : OO)) (by unfold kdZ; repeat (first | rw [if_pos (by omega)] | rw [if_neg (by omega)]))
        · refine x_iload_n (pc := 27) rfl d70_27 ?_
          refine x_bipush (pc := 28) (by decide) d70_28 ?_
          refine x_icmp_gt (pc := 30) (tgt := 35) ⟨by omega, by omega⟩ ⟨by omega, by omega⟩ d70_30 (by decide) (fun g30 => ?_) (fun g30 => ?_)
          · refine x_iload_n (pc := 35) rfl d70_35 ?_
            refine x_bipush (pc := 36) (by decide) d70_36 ?_
            refine x_icmp_ne (pc := 38) (tgt := 45) ⟨by omega, by omega⟩ ⟨by omega, by omega⟩ d70_38 (by decide) (fun g38 => ?_) (fun g38 => ?_)
            · refine x_iconst (pc := 45) d70_45 ?_
              refine x_iret (pc := 46) rfl (fun _ => rfl) d70_46 ?_
              first | (exfalso; omega) | exact congrArg (fun z => ((Sum.inl (some (Value.int (iI z))), mm q I v fr) : OO)) (by unfold kdZ; repeat (first | rw [if_pos (by omega)] | rw [if_neg (by omega)]))
            · refine x_iconst (pc := 41) d70_41 ?_
              refine x_goto (pc := 42) (tgt := 46) d70_42 (by decide) ?_
              refine x_iret (pc := 46) rfl (fun _ => rfl) d70_46 ?_
              first | (exfalso; omega) | exact congrArg (fun z => ((Sum.inl (some (Value.int (iI z))), mm q I v fr) : OO)) (by unfold kdZ; repeat (first | rw [if_pos (by omega)] | rw [if_neg (by omega)]))
          · refine x_iconst (pc := 33) d70_33 ?_
            refine x_iret (pc := 34) rfl (fun _ => rfl) d70_34 ?_
            first | (exfalso; omega) | exact congrArg (fun z => ((Sum.inl (some (Value.int (iI z))), mm q I v fr) : OO)) (by unfold kdZ; repeat (first | rw [if_pos (by omega)] | rw [if_neg (by omega)]))
      · refine x_iconst (pc := 19) d70_19 ?_
        refine x_iret (pc := 20) rfl (fun _ => rfl) d70_20 ?_
        first | (exfalso; omega) | exact congrArg (fun z => ((Sum.inl (some (Value.int (iI z))), mm q I v fr) : OO)) (by unfold kdZ; repeat (first | rw [if_pos (by omega)] | rw [if_neg (by omega)]))
  · refine x_iconst (pc := 5) d70_5 ?_
    refine x_iret (pc := 6) rfl (fun _ => rfl) d70_6 ?_
    first | (exfalso; omega) | exact congrArg (fun z => ((Sum.inl (some (Value.int (iI z))), mm q I v fr) : OO)) (by unfold kdZ; repeat (first | rw [if_pos (by omega)] | rw [if_neg (by omega)]))
theorem lp_skip (hl : l.1.stackTraces = false) (hq : 181 ≤ q) (hTb : ∀ i, 0 ≤ i → i < n → 0 ≤ T i ∧ T i ≤ 255) (hn0 : 0 ≤ n) (hn1 : n ≤ 500) (hI2 : I 2 = T) (hI1 : I 1 1 = n) {Q : OO → Prop} : ∀ (m : Nat) (i : Int) (J : Nat → Int → Int), i + m = n → 0 ≤ i → TKI I J → J 5 2 = i →
    (∀ K : Nat → Int → Int, TKI I K → K 5 2 = skN T n m i → Ex l 69 0 0 51 [some (.ref 5)] [] (mm q K v fr) Q) →
    Ex l 69 0 0 8 [some (.ref 5)] [] (mm q J v fr) Q := by
  intro m
  induction m with
  | zero =>
    intro i J h1 h2 hJ h5 kk
    have hT : J 2 = T := by rw [hJ.1 2 (by decide)]; exact hI2
    have hn : J 1 1 = n := by rw [hJ.1 1 (by decide)]; exact hI1
    refine x_aload_n (pc := 8) rfl d69_8 ?_
    refine m_getI (pc := 9) (z := 2) f69_22 (by decide +kernel) rfl (ko5 (by omega)) d69_9 ?_
    refine x_val (pc := 12) (w := i) (h5) ?_
    refine x_aload_n (pc := 12) rfl d69_12 ?_
    refine m_getR (pc := 13) f69_15 (by decide +kernel) (ko5 (by omega)) rr5_0 d69_13 ?_
    refine m_getI (pc := 16) (z := 1) f69_31 (by decide +kernel) rfl (ko1 (by omega)) d69_16 ?_
    refine x_val (pc := 19) (w := n) (hn) ?_
    refine x_icmp_ge (pc := 19) (tgt := 51) ⟨by omega, by omega⟩ ⟨by omega, by omega⟩ d69_19 (by decide) (fun g19 => ?_) (fun g19 => ?_)
    · exact kk J hJ h5
    · exfalso; omega
  | succ m ih =>
    intro i J h1 h2 hJ h5 kk
    have hT : J 2 = T := by rw [hJ.1 2 (by decide)]; exact hI2
    have hn : J 1 1 = n := by rw [hJ.1 1 (by decide)]; exact hI1
    have ea : atT T n i = T i := if_pos ⟨h2, by omega⟩
    refine x_aload_n (pc := 8) rfl d69_8 ?_
    refine m_getI (pc := 9) (z := 2) f69_22 (by decide +kernel) rfl (ko5 (by omega)) d69_9 ?_
    refine x_val (pc := 12) (w := i) (h5) ?_
    refine x_aload_n (pc := 12) rfl d69_12 ?_
    refine m_getR (pc := 13) f69_15 (by decide +kernel) (ko5 (by omega)) rr5_0 d69_13 ?_
    refine m_getI (pc := 16) (z := 1) f69_31 (by decide +kernel) rfl (ko1 (by omega)) d69_16 ?_
    refine x_val (pc := 19) (w := n) (hn) ?_
    refine x_icmp_ge (pc := 19) (tgt := 51) ⟨by omega, by omega⟩ ⟨by omega, by omega⟩ d69_19 (by decide) (fun g19 => ?_) (fun g19 => ?_)
    · exfalso; omega
    · refine x_aload_n (pc := 22) rfl d69_22 ?_
      refine m_getR (pc := 23) f69_15 (by decide +kernel) (ko5 (by omega)) rr5_0 d69_23 ?_
      refine x_aload_n (pc := 26) rfl d69_26 ?_
      refine m_getI (pc := 27) (z := 2) f69_22 (by decide +kernel) rfl (ko5 (by omega)) d69_27 ?_
      refine x_val (pc := 30) (w := i) (h5) ?_
      refine x_cVs (pc := 30) c69_36 (dt_atT hl hq (T := T) (n := n) (i := i) hT hn hn0 hn1 ⟨by omega, by omega⟩) (ko1 (by omega)) rfl rfl (Nat.le_of_ble_eq_true rfl) (by decide +kernel) (by decide +kernel) rfl d69_30 ?_
      have hat := atT_r hTb i
      refine x_bipush (pc := 33) (by decide) d69_33 ?_
      refine x_icmp_ne (pc := 35) (tgt := 51) ⟨by omega, by omega⟩ ⟨by omega, by omega⟩ d69_35 (by decide) (fun g35 => ?_) (fun g35 => ?_)
      · refine kk J hJ ?_
        rw [h5]
        exact (if_neg (by rw [← ea]; omega)).symm
      · refine x_aload_n (pc := 38) rfl d69_38 ?_
        refine x_dup (pc := 39) rfl d69_39 ?_
        refine m_getI (pc := 40) (z := 2) f69_22 (by decide +kernel) rfl (ko5 (by omega)) d69_40 ?_
        refine x_val (pc := 43) (w := i) (h5) ?_
        refine x_iconst (pc := 43) d69_43 ?_
        refine x_iadd (pc := 44) d69_44 ?_
        refine m_putI (pc := 45) (z := 2) f69_22 (by decide +kernel) (by decide +kernel) rfl (ko5 (by omega)) d69_45 ?_
        refine x_goto (pc := 48) (tgt := 8) d69_48 (by decide) ?_
        refine ih (i + 1) _ (by omega) (by omega) (hJ.up (by decide)) up2_s (fun K k1 k2 => kk K k1 ?_)
        rw [k2]
        exact (if_pos ⟨by omega, by rw [← ea]; exact g35⟩).symm
theorem lp_run (hl : l.1.stackTraces = false) (hq : 181 ≤ q) (hTb : ∀ i, 0 ≤ i → i < n → 0 ≤ T i ∧ T i ≤ 255) (hn0 : 0 ≤ n) (hn1 : n ≤ 500) (hI2 : I 2 = T) (hI1 : I 1 1 = n) {k s : Int} (hk : 0 ≤ k ∧ k ≤ 4) : ∀ (m : Nat) (e : Int) (J : Nat → Int → Int), e + m = n → 0 ≤ e → TKI I J → J 5 3 = e → J 5 1 = k → J 5 2 = s →
    Ex l 69 0 0 111 [some (.ref 5)] [] (mm q J v fr) (oE q v fr none (fun K => TKI I K ∧ K 5 1 = k ∧ K 5 2 = s ∧ K 5 3 = rnN T n k m e)) := by
  intro m
  induction m with
  | zero =>
    intro e J h1 h2 hJ h5 hk1 hs1
    have hT : J 2 = T := by rw [hJ.1 2 (by decide)]; exact hI2
    have hn : J 1 1 = n := by rw [hJ.1 1 (by decide)]; exact hI1
    refine x_aload_n (pc := 111) rfl d69_111 ?_
    refine m_getI (pc := 112) (z := 3) f69_25 (by decide +kernel) rfl (ko5 (by omega)) d69_112 ?_
    refine x_val (pc := 115) (w := e) (h5) ?_
    refine x_aload_n (pc := 115) rfl d69_115 ?_
    refine m_getR (pc := 116) f69_15 (by decide +kernel) (ko5 (by omega)) rr5_0 d69_116 ?_
    refine m_getI (pc := 119) (z := 1) f69_31 (by decide +kernel) rfl (ko1 (by omega)) d69_119 ?_
    refine x_val (pc := 122) (w := n) (hn) ?_
    refine x_icmp_ge (pc := 122) (tgt := 159) ⟨by omega, by omega⟩ ⟨by omega, by omega⟩ d69_122 (by decide) (fun g122 => ?_) (fun g122 => ?_)
    · refine x_vret (pc := 159) rfl (fun _ => rfl) d69_159 ?_
      exact ⟨J, rfl, hJ, hk1, hs1, h5⟩
    · exfalso; omega
  | succ m ih =>
    intro e J h1 h2 hJ h5 hk1 hs1
    have hT : J 2 = T := by rw [hJ.1 2 (by decide)]; exact hI2
    have hn : J 1 1 = n := by rw [hJ.1 1 (by decide)]; exact hI1
    have ea : atT T n e = T e := if_pos ⟨h2, by omega⟩
    have hkr := kdZ_r (atT T n e)
    refine x_aload_n (pc := 111) rfl d69_111 ?_
    refine m_getI (pc := 112) (z := 3) f69_25 (by decide +kernel) rfl (ko5 (by omega)) d69_112 ?_
    refine x_val (pc := 115) (w := e) (h5) ?_
    refine x_aload_n (pc := 115) rfl d69_115 ?_
    refine m_getR (pc := 116) f69_15 (by decide +kernel) (ko5 (by omega)) rr5_0 d69_116 ?_
    refine m_getI (pc := 119) (z := 1) f69_31 (by decide +kernel) rfl (ko1 (by omega)) d69_119 ?_
    refine x_val (pc := 122) (w := n) (hn) ?_
    refine x_icmp_ge (pc := 122) (tgt := 159) ⟨by omega, by omega⟩ ⟨by omega, by omega⟩ d69_122 (by decide) (fun g122 => ?_) (fun g122 => ?_)
    · refine x_vret (pc := 159) rfl (fun _ => rfl) d69_159 ?_
      exfalso; omega
    · refine x_aload_n (pc := 125) rfl d69_125 ?_
      refine m_getR (pc := 126) f69_15 (by decide +kernel) (ko5 (by omega)) rr5_0 d69_126 ?_
      refine x_aload_n (pc := 129) rfl d69_129 ?_
      refine m_getI (pc := 130) (z := 3) f69_25 (by decide +kernel) rfl (ko5 (by omega)) d69_130 ?_
      refine x_val (pc := 133) (w := e) (h5) ?_
      refine x_cVs (pc := 133) c69_36 (dt_atT hl hq (T := T) (n := n) (i := e) hT hn hn0 hn1 ⟨by omega, by omega⟩) (ko1 (by omega)) rfl rfl (Nat.le_of_ble_eq_true rfl) (by decide +kernel) (by decide +kernel) rfl d69_133 ?_
      have hat := atT_r hTb e
      refine x_cSs (pc := 136) c69_40 (dt_kind hl (c := (atT T n e)) ⟨by omega, by omega⟩) rfl rfl (Nat.le_of_ble_eq_true rfl) (by decide +kernel) (by decide +kernel) (by decide +kernel) rfl d69_136 ?_
      refine x_aload_n (pc := 139) rfl d69_139 ?_
      refine m_getI (pc := 140) (z := 1) f69_19 (by decide +kernel) rfl (ko5 (by omega)) d69_140 ?_
      refine x_val (pc := 143) (w := k) (hk1) ?_
      refine x_icmp_ne (pc := 143) (tgt := 159) ⟨by omega, by omega⟩ ⟨by omega, by omega⟩ d69_143 (by decide) (fun g143 => ?_) (fun g143 => ?_)
      · refine x_vret (pc := 159) rfl (fun _ => rfl) d69_159 ?_
        refine ⟨J, rfl, hJ, hk1, hs1, ?_⟩
        rw [h5]
        exact (if_neg (by rw [← ea]; omega)).symm
      · refine x_aload_n (pc := 146) rfl d69_146 ?_
        refine x_dup (pc := 147) rfl d69_147 ?_
        refine m_getI (pc := 148) (z := 3) f69_25 (by decide +kernel) rfl (ko5 (by omega)) d69_148 ?_
        refine x_val (pc := 151) (w := e) (h5) ?_
        refine x_iconst (pc := 151) d69_151 ?_
        refine x_iadd (pc := 152) d69_152 ?_
        refine m_putI (pc := 153) (z := 3) f69_25 (by decide +kernel) (by decide +kernel) rfl (ko5 (by omega)) d69_153 ?_
        refine x_goto (pc := 156) (tgt := 111) d69_156 (by decide) ?_
        rw [show rnN T n k (m + 1) e = rnN T n k m (e + 1) from if_pos ⟨by omega, by rw [← ea]; exact g143⟩]
        exact ih (e + 1) _ (by omega) (by omega) (hJ.up (by decide)) up2_s (by rw [up2_i (by decide)]; exact hk1) (by rw [up2_i (by decide)]; exact hs1)
theorem ct_next (hl : l.1.stackTraces = false) (hq : 181 ≤ q) (hTb : ∀ i, 0 ≤ i → i < n → 0 ≤ T i ∧ T i ≤ 255) (hn0 : 0 ≤ n) (hn1 : n ≤ 500) (hI2 : I 2 = T) (hI1 : I 1 1 = n) {e : Int} (he : I 5 3 = e) (he0 : 0 ≤ e) (he1 : e ≤ n) : CT l 69 [.ref 5] (mm q I v fr) 0 0 (oE q v fr none (fun K => TKI I K ∧ K 5 1 = tK T n e ∧ K 5 2 = tS T n e ∧ K 5 3 = tE T n e)) := by
  have hr := tok_r (T := T) (n := n) he1
  obtain ⟨s, hs⟩ : ∃ s, s = tS T n e := ⟨_, rfl⟩
  obtain ⟨k, hk⟩ : ∃ k, k = tK T n e := ⟨_, rfl⟩
  have hk2 : kdZ (atT T n s) = k := by rw [hs, hk]; rfl
  rw [← hs, ← hk] at hr
  rw [← hs, ← hk]
  refine mkct2 hl (by decide) (Nat.le_of_ble_eq_true rfl) (L := [some (.ref 5)]) rfl ?_
  refine x_aload_n (pc := 0) rfl d69_0 ?_
  refine x_aload_n (pc := 1) rfl d69_1 ?_
  refine m_getI (pc := 2) (z := 3) f69_25 (by decide +kernel) rfl (ko5 (by omega)) d69_2 ?_
  refine x_val (pc := 5) (w := e) (he) ?_
  refine m_putI (pc := 5) (z := 2) f69_22 (by decide +kernel) (by decide +kernel) rfl (ko5 (by omega)) d69_5 ?_
  refine lp_skip hl hq hTb hn0 hn1 hI2 hI1 (n - e).toNat e _ (by omega) he0 (TKI.up ⟨fun _ _ => rfl, fun _ _ _ _ => rfl⟩ (by decide)) up2_s (fun K hK h5 => ?_)
  have h5 : K 5 2 = s := by rw [hs]; exact h5
  have hT : K 2 = T := by rw [hK.1 2 (by decide)]; exact hI2
  have hn : K 1 1 = n := by rw [hK.1 1 (by decide)]; exact hI1
  have hT2 : up2 K 5 3 s 2 = T := by rw [up2_off' _ _ _ (by decide)]; exact hT
  have hn2 : up2 K 5 3 s 1 1 = n := by rw [up2_p (by decide)]; exact hn
  refine x_aload_n (pc := 51) rfl d69_51 ?_
  refine x_aload_n (pc := 52) rfl d69_52 ?_
  refine m_getI (pc := 53) (z := 2) f69_22 (by decide +kernel) rfl (ko5 (by omega)) d69_53 ?_
  refine x_val (pc := 56) (w := s) (h5) ?_
  refine m_putI (pc := 56) (z := 3) f69_25 (by decide +kernel) (by decide +kernel) rfl (ko5 (by omega)) d69_56 ?_
  refine x_aload_n (pc := 59) rfl d69_59 ?_
  refine x_aload_n (pc := 60) rfl d69_60 ?_
  refine m_getR (pc := 61) f69_15 (by decide +kernel) (ko5 (by omega)) rr5_0 d69_61 ?_
  refine x_aload_n (pc := 64) rfl d69_64 ?_
  refine m_getW (pc := 65) (z := 2) (w := (K 5 2)) f69_22 (by decide +kernel) rfl (ko5 (by omega)) (by rw [up2_i (by decide)]) d69_65 ?_
  refine x_val (pc := 68) (w := s) (h5) ?_
  refine x_cVs (pc := 68) c69_36 (dt_atT hl hq (T := T) (n := n) (i := s) hT2 hn2 hn0 hn1 ⟨by omega, by omega⟩) (ko1 (by omega)) rfl rfl (Nat.le_of_ble_eq_true rfl) (by decide +kernel) (by decide +kernel) rfl d69_68 ?_
  have hat := atT_r hTb s
  refine x_cSs (pc := 71) c69_40 (dt_kind hl (c := (atT T n s)) ⟨by omega, by omega⟩) rfl rfl (Nat.le_of_ble_eq_true rfl) (by decide +kernel) (by decide +kernel) (by decide +kernel) rfl d69_71 ?_
  refine x_val (pc := 74) (w := k) (hk2) ?_
  refine m_putI (pc := 74) (z := 1) f69_19 (by decide +kernel) (by decide +kernel) rfl (ko5 (by omega)) d69_74 ?_
  refine x_aload_n (pc := 77) rfl d69_77 ?_
  refine m_getW (pc := 78) (z := 1) (w := k) f69_19 (by decide +kernel) rfl (ko5 (by omega)) (by rw [up2_s]) d69_78 ?_
  refine x_if_ne (pc := 81) (tgt := 85) ⟨by omega, by omega⟩ d69_81 (by decide) (fun g81 => ?_) (fun g81 => ?_)
  · refine x_aload_n (pc := 85) rfl d69_85 ?_
    refine x_dup (pc := 86) rfl d69_86 ?_
    refine m_getW (pc := 87) (z := 3) (w := s) f69_25 (by decide +kernel) rfl (ko5 (by omega)) (by rw [up2_i (by decide), up2_s]) d69_87 ?_
    refine x_iconst (pc := 90) d69_90 ?_
    refine x_iadd (pc := 91) d69_91 ?_
    refine m_putI (pc := 92) (z := 3) f69_25 (by decide +kernel) (by decide +kernel) rfl (ko5 (by omega)) d69_92 ?_
    refine x_aload_n (pc := 95) rfl d69_95 ?_
    refine m_getW (pc := 96) (z := 1) (w := k) f69_19 (by decide +kernel) rfl (ko5 (by omega)) (by rw [up2_i (by decide), up2_s]) d69_96 ?_
    refine x_iconst (pc := 99) d69_99 ?_
    refine x_icmp_eq (pc := 100) (tgt := 111) ⟨by omega, by omega⟩ ⟨by omega, by omega⟩ d69_100 (by decide) (fun g100 => ?_) (fun g100 => ?_)
    · have e1 : tE T n e = rnN T n k (n - (s + 1)).toNat (s + 1) := by unfold tE; rw [← hk, ← hs, if_neg g81, if_pos (by omega)]
      rw [e1]
      exact lp_run hl hq hTb hn0 hn1 hI2 hI1 (by omega) (n - (s + 1)).toNat (s + 1) _ (by omega) (by omega) (((hK.up (by decide)).up (by decide)).up (by decide)) up2_s (by rw [up2_i (by decide), up2_s]) (by rw [up2_i (by decide), up2_i (by decide), up2_i (by decide)]; exact h5)
    · refine x_aload_n (pc := 103) rfl d69_103 ?_
      refine m_getW (pc := 104) (z := 1) (w := k) f69_19 (by decide +kernel) rfl (ko5 (by omega)) (by rw [up2_i (by decide), up2_s]) d69_104 ?_
      refine x_iconst (pc := 107) d69_107 ?_
      refine x_icmp_ne (pc := 108) (tgt := 159) ⟨by omega, by omega⟩ ⟨by omega, by omega⟩ d69_108 (by decide) (fun g108 => ?_) (fun g108 => ?_)
      · refine x_vret (pc := 159) rfl (fun _ => rfl) d69_159 ?_
        have e1 : tE T n e = s + 1 := by unfold tE; rw [← hk, ← hs, if_neg g81, if_neg (by omega)]
        rw [e1]
        exact ⟨_, rfl, ((hK.up (by decide)).up (by decide)).up (by decide), by rw [up2_i (by decide), up2_s], by rw [up2_i (by decide), up2_i (by decide), up2_i (by decide)]; exact h5, up2_s⟩
      · have e1 : tE T n e = rnN T n k (n - (s + 1)).toNat (s + 1) := by unfold tE; rw [← hk, ← hs, if_neg g81, if_pos (by omega)]
        rw [e1]
        exact lp_run hl hq hTb hn0 hn1 hI2 hI1 (by omega) (n - (s + 1)).toNat (s + 1) _ (by omega) (by omega) (((hK.up (by decide)).up (by decide)).up (by decide)) up2_s (by rw [up2_i (by decide), up2_s]) (by rw [up2_i (by decide), up2_i (by decide), up2_i (by decide)]; exact h5)
  · refine x_vret (pc := 84) rfl (fun _ => rfl) d69_84 ?_
    have e1 : tE T n e = s := by unfold tE; rw [← hk, ← hs, if_pos g81]
    rw [e1]
    exact ⟨_, rfl, (hK.up (by decide)).up (by decide), up2_s, by rw [up2_i (by decide), up2_i (by decide)]; exact h5, by rw [up2_i (by decide), up2_s]⟩
end Tok
