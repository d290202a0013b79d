/-! ===== the reference: the questions that try ===== -/
section Rtry
variable {l : LX} {q : Nat} {I : Nat → Int → Int} {v : Int} {fr : Bool} {S : GS} {A : AV} {c e : Int}
theorem lp_rdig (hl : l.1.stackTraces = false) : ∀ (m : Nat) (n z : Int), 0 ≤ z → z < 2 ^ m → z ≤ 65535 → 0 ≤ n → n + m ≤ 16 → Ex l 258 0 0 4 [none, some (.int (iI n)), some (.int (iI z))] [] (mm q I v fr) (fun o => o = (.inl (some (.int (iI (n + bdig z m)))), mm q I v fr)) := by
  intro m
  induction m with
  | zero =>
    intro n z z0 z1 z2 n0 n1
    have e1 : (2 : Int) ^ 0 = 1 := by decide
    rw [e1] at z1
    refine x_iload_n (pc := 4) rfl d258_4 ?_
    refine x_if_le (pc := 5) (tgt := 18) ⟨by omega, by omega⟩ d258_5 (by decide) (fun g5 => ?_) (fun g5 => ?_)
    · refine x_iload_n (pc := 18) rfl d258_18 ?_
      refine x_iret (pc := 19) rfl (fun _ => rfl) d258_19 ?_
      rw [show n + ((bdig z 0 : Nat) : Int) = n from Int.add_zero n]
    · exfalso; omega
  | succ m ih =>
    intro n z z0 z1 z2 n0 n1
    rw [Int.pow_succ] at z1
    refine x_iload_n (pc := 4) rfl d258_4 ?_
    refine x_if_le (pc := 5) (tgt := 18) ⟨by omega, by omega⟩ d258_5 (by decide) (fun g5 => ?_) (fun g5 => ?_)
    · refine x_iload_n (pc := 18) rfl d258_18 ?_
      refine x_iret (pc := 19) rfl (fun _ => rfl) d258_19 ?_
      rw [show bdig z (m + 1) = 0 from if_neg (by omega), show n + ((0 : Nat) : Int) = n from Int.add_zero n]
    · refine x_iinc (pc := 8) rfl (by decide +kernel) rfl d258_8 ?_
      dsimp only [List.set]
      refine x_iload_n (pc := 11) rfl d258_11 ?_
      refine x_iconst (pc := 12) d258_12 ?_
      refine x_idiv (pc := 13) (by omega) (by omega) (by omega) (by omega) d258_13 ?_
      refine x_istore_n (pc := 14) (by decide +kernel) rfl d258_14 ?_
      dsimp only [List.set]
      refine x_goto (pc := 15) (tgt := 4) d258_15 (by decide) ?_
      have := ih (n + 1) (z / 2) (by omega) (by omega) (by omega) (by omega) (by omega)
      rw [show bdig z (m + 1) = 1 + bdig (z / 2) m from if_pos (by omega), show n + ((1 + bdig (z / 2) m : Nat) : Int) = n + 1 + (bdig (z / 2) m : Nat) from by omega]
      exact this
theorem rt_dig (hl : l.1.stackTraces = false) {z : Int} (z0 : 0 ≤ z) (z1 : z ≤ 65535) : DT l 258 [.int (iI z)] (mm q I v fr) 0 0 (.inl (some (.int (iI (bdig z 16)))), mm q I v fr) := by
  refine mkdt hl (by decide) (Nat.le_of_ble_eq_true rfl) (L := [some (.int (iI z)), none, none]) rfl ?_
  refine x_iconst (pc := 0) d258_0 ?_
  refine x_istore_n (pc := 1) (by decide +kernel) rfl d258_1 ?_
  dsimp only [List.set]
  refine x_iload_n (pc := 2) rfl d258_2 ?_
  refine x_istore_n (pc := 3) (by decide +kernel) rfl d258_3 ?_
  dsimp only [List.set]
  refine x_mask [false, true, true] ?_
  dsimp only [mask]
  have := lp_rdig (l := l) (q := q) (I := I) (v := v) (fr := fr) hl 16 0 z z0 (by have : (2 : Int) ^ 16 = 65536 := by decide
                                                                                  omega) z1 (by decide) (by decide)
  rw [Int.zero_add] at this
  exact this
theorem rt_isIn (hl : l.1.stackTraces = false) {z p b : Int} (z0 : 0 ≤ z) (z1 : z ≤ 65535) (p0 : 0 ≤ p) (p1 : p ≤ 100) (b0 : 0 ≤ b) (b1 : b ≤ 100) : DT l 259 [.int (iI z), .int (iI p), .int (iI b)] (mm q I v fr) 0 0 (.inl (some (.int (iI (b01 (decide (flp z (bdig z 16) p b = 1)))))), mm q I v fr) := by
  have hd := bdig_r z 16
  have ep : ((bdig z 16 : Nat) : Int) - 1 - (b - p) = p + (bdig z 16 : Nat) - 1 - b := by omega
  unfold flp
  refine mkdt hl (by decide) (Nat.le_of_ble_eq_true rfl) (L := [some (.int (iI z)), some (.int (iI p)), some (.int (iI b)), none]) rfl ?_
  refine x_iload_n (pc := 0) rfl d259_0 ?_
  refine x_cSs (pc := 1) c259_373 (rt_dig hl (z := z) (by omega) (by omega)) rfl rfl (Nat.le_of_ble_eq_true rfl) (by decide +kernel) (by decide +kernel) (by decide +kernel) rfl d259_1 ?_
  refine x_iconst (pc := 4) d259_4 ?_
  refine x_isub (pc := 5) d259_5 ?_
  refine x_iload_n (pc := 6) rfl d259_6 ?_
  refine x_iload_n (pc := 7) rfl d259_7 ?_
  refine x_isub (pc := 8) d259_8 ?_
  refine x_isub (pc := 9) d259_9 ?_
  refine x_istore_n (pc := 10) (by decide +kernel) rfl d259_10 ?_
  dsimp only [List.set]
  refine x_iload_n (pc := 11) rfl d259_11 ?_
  refine x_iload_n (pc := 12) rfl d259_12 ?_
  refine x_icmp_lt (pc := 13) (tgt := 33) ⟨by omega, by omega⟩ ⟨by omega, by omega⟩ d259_13 (by decide) (fun g13 => ?_) (fun g13 => ?_)
  · refine x_iconst (pc := 33) d259_33 ?_
    refine x_zret (pc := 34) rfl (Or.inl rfl) (fun _ => rfl) d259_34 ?_
    rw [if_neg (by omega)]; rfl
  · refine x_iload_n (pc := 16) rfl d259_16 ?_
    refine x_if_lt (pc := 17) (tgt := 33) ⟨by omega, by omega⟩ d259_17 (by decide) (fun g17 => ?_) (fun g17 => ?_)
    · refine x_iconst (pc := 33) d259_33 ?_
      refine x_zret (pc := 34) rfl (Or.inl rfl) (fun _ => rfl) d259_34 ?_
      rw [if_neg (by omega)]; rfl
    · refine x_iload_n (pc := 20) rfl d259_20 ?_
      refine x_iload_n (pc := 21) rfl d259_21 ?_
      refine x_ishr (pc := 22) (iI_shr ⟨by omega, by omega⟩ (by omega) (by omega)) d259_22 ?_
      refine x_iconst (pc := 23) d259_23 ?_
      refine x_iand (pc := 24) (iI_and1 _) d259_24 ?_
      refine x_iconst (pc := 25) d259_25 ?_
      refine x_icmp_ne (pc := 26) (tgt := 33) ⟨by omega, by omega⟩ ⟨by omega, by omega⟩ d259_26 (by decide) (fun g26 => ?_) (fun g26 => ?_)
      · refine x_iconst (pc := 33) d259_33 ?_
        refine x_zret (pc := 34) rfl (Or.inl rfl) (fun _ => rfl) d259_34 ?_
        rw [ep] at g26
        rw [if_pos (by omega), decide_eq_false g26]; rfl
      · refine x_iconst (pc := 29) d259_29 ?_
        refine x_goto (pc := 30) (tgt := 34) d259_30 (by decide) ?_
        refine x_zret (pc := 34) rfl (Or.inr rfl) (fun _ => rfl) d259_34 ?_
        rw [ep] at g26
        rw [if_pos (by omega), decide_eq_true g26]; rfl
theorem rt_fits (hl : l.1.stackTraces = false) (hq : 192 ≤ q) (hR : RV (I 182) A) (hA : AI A c e) {f z b : Int} (f0 : 0 ≤ f) (f1 : f < A 0 6) (hz : InR z) (hb : InR b) : DT l 260 [.ref 181, .int (iI f), .int (iI z), .int (iI b)] (mm q I v fr) 0 0 (.inl (some (.int (iI (b01 (decide ((1 ≤ z ∧ z ≤ 65535) ∧ 0 ≤ b ∧ b + bdig z 16 ≤ A 6 f * 8)))))), mm q I v fr) := by
  have hr := hA.rg
  have hf := hA.frm f f0 f1
  have hd := bdig_r z 16
  obtain ⟨hz0, hz1⟩ := hz
  obtain ⟨hb0, hb1⟩ := hb
  refine mkdt hl (by decide) (Nat.le_of_ble_eq_true rfl) (L := [some (.ref 181), some (.int (iI f)), some (.int (iI z)), some (.int (iI b))]) rfl ?_
  refine x_iload_n (pc := 0) rfl d260_0 ?_
  refine x_i2l (pc := 1) ⟨by omega, by omega⟩ d260_1 ?_
  refine x_lconst (pc := 2) (z := 1) (by decide) d260_2 ?_
  refine x_ldc2 (pc := 3) (z := 65535) k260_376 (by decide) d260_3 ?_
  refine x_cSs (pc := 6) c260_72 (rt_in hl (a := z) (b := 1) (c := 65535) ⟨by omega, by omega⟩ ⟨by omega, by omega⟩ ⟨by omega, by omega⟩) rfl rfl (Nat.le_of_ble_eq_true rfl) (by decide +kernel) (by decide +kernel) (by decide +kernel) rfl d260_6 ?_
  refine x_ifB_eq (pc := 9) (tgt := 38) d260_9 (by decide) (fun g9 => ?_) (fun g9 => ?_)
  · refine x_iconst (pc := 38) d260_38 ?_
    refine x_zret (pc := 39) rfl (Or.inl rfl) (fun _ => rfl) d260_39 ?_
    have z2 := of_decide_eq_false g9
    rw [decide_eq_false (by omega)]; rfl
  · have z2 := of_decide_eq_true g9
    refine x_iload_n (pc := 12) rfl d260_12 ?_
    refine x_if_lt (pc := 13) (tgt := 38) ⟨by omega, by omega⟩ d260_13 (by decide) (fun g13 => ?_) (fun g13 => ?_)
    · refine x_iconst (pc := 38) d260_38 ?_
      refine x_zret (pc := 39) rfl (Or.inl rfl) (fun _ => rfl) d260_39 ?_
      rw [decide_eq_false (by omega)]; rfl
    · refine x_iload_n (pc := 16) rfl d260_16 ?_
      refine x_i2l (pc := 17) ⟨by omega, by omega⟩ d260_17 ?_
      refine x_iload_n (pc := 18) rfl d260_18 ?_
      refine x_cSs (pc := 19) c260_373 (rt_dig hl (z := z) (by omega) (by omega)) rfl rfl (Nat.le_of_ble_eq_true rfl) (by decide +kernel) (by decide +kernel) (by decide +kernel) rfl d260_19 ?_
      refine x_i2l (pc := 22) ⟨by omega, by omega⟩ d260_22 ?_
      refine x_ladd (pc := 23) d260_23 ?_
      refine x_aload_n (pc := 24) rfl d260_24 ?_
      refine x_iload_n (pc := 25) rfl d260_25 ?_
      refine x_cVs (pc := 26) c260_137 (rt_bitsOf hl hq (A := A) hR (f := f) (by omega) (by omega) (by omega)) (xo181 (by omega)) rfl rfl (Nat.le_of_ble_eq_true rfl) (by decide +kernel) (by decide +kernel) rfl d260_26 ?_
      refine x_i2l (pc := 29) ⟨by omega, by omega⟩ d260_29 ?_
      refine x_lc_gt (pc := 30) (tgt := 38) ⟨by omega, by omega⟩ ⟨by omega, by omega⟩ d260_30 d260_31 (by decide) (fun g30 => ?_) (fun g30 => ?_)
      · refine x_iconst (pc := 38) d260_38 ?_
        refine x_zret (pc := 39) rfl (Or.inl rfl) (fun _ => rfl) d260_39 ?_
        rw [decide_eq_false (by omega)]; rfl
      · refine x_iconst (pc := 34) d260_34 ?_
        refine x_goto (pc := 35) (tgt := 39) d260_35 (by decide) ?_
        refine x_zret (pc := 39) rfl (Or.inr rfl) (fun _ => rfl) d260_39 ?_
        rw [decide_eq_true (by omega)]; rfl
theorem b01_flp (z : Int) (d p b : Int) : b01 (decide (flp z d p b = 1)) = flp z d p b := by
  rcases flp_r z d p b with e | e <;> rw [e] <;> decide
theorem lp_rwp1 (hl : l.1.stackTraces = false) (hq : 192 ≤ q) (hR : RV (I 182) A) (hA : AI A c e) {f z b k : Int} (f0 : 0 ≤ f) (f1 : f < A 0 6) (k0 : 0 ≤ k) (k1 : k < A 6 f) (z0 : 0 ≤ z) (z1 : z ≤ 65535) (b0 : 0 ≤ b) (b1 : b ≤ 48) {Q : OO → Prop} : ∀ (m i : Nat) (J : Nat → Int → Int), m + i = 8 → (∀ a, a ≠ 188 → J a = I a) → J 188 k = byteN (flpZ (SfA A f) z (bdig z 16) b) k i →
    (∀ K : Nat → Int → Int, (∀ a, a ≠ 188 → K a = I a) → K 188 k = byteZ (flpZ (SfA A f) z (bdig z 16) b) k → (∀ j : Int, j ≠ k → K 188 j = J 188 j) → Ex l 261 0 0 49 [some (.ref 181), some (.int (iI f)), some (.int (iI z)), some (.int (iI b)), none, some (.int (iI (A 6 f))), some (.int (iI (k + 1))), none] [] (mm q K v fr) Q) →
    Ex l 261 0 0 71 [some (.ref 181), some (.int (iI f)), some (.int (iI z)), some (.int (iI b)), none, some (.int (iI (A 6 f))), some (.int (iI k)), some (.int (iI (8 * k + i)))] [] (mm q J v fr) Q := by
  have hr := hA.rg
  have hf := hA.frm f f0 f1
  intro m
  induction m with
  | zero =>
    intro i J hm hJ hB hk
    refine x_iload (pc := 71) rfl d261_71 ?_
    refine x_bipush (pc := 73) (by decide) d261_73 ?_
    refine x_iload (pc := 75) rfl d261_75 ?_
    refine x_imul (pc := 77) d261_77 ?_
    refine x_bipush (pc := 78) (by decide) d261_78 ?_
    refine x_iadd (pc := 80) d261_80 ?_
    refine x_icmp_ge (pc := 81) (tgt := 125) ⟨by omega, by omega⟩ ⟨by omega, by omega⟩ d261_81 (by decide) (fun g81 => ?_) (fun g81 => ?_)
    · refine x_iinc (pc := 125) rfl (by decide +kernel) rfl d261_125 ?_
      dsimp only [List.set]
      refine x_goto (pc := 128) (tgt := 49) d261_128 (by decide) ?_
      refine x_mask [true, true, true, true, true, true, true, false] ?_
      dsimp only [mask]
      exact hk J hJ (by rw [hB, show i = 8 from by omega]; rfl) (fun _ _ => rfl)
    · exfalso; omega
  | succ m ih =>
    intro i J hm hJ hB hk
    have hRJ := cg188 hJ hR
    have hn := byteN_b (flpZ_r (SfA A f) z (bdig z 16) b) k i
    have hbz := bitZ_r (SfA A f) (8 * k + i)
    have hbo := b01_or (decide (flp z (bdig z 16) b (8 * k + i) = 1))
    have hn2 : (2 : Int) ^ i ≤ 2 ^ 8 := by
      have : (2 : Nat) ^ i ≤ 2 ^ 8 := Nat.pow_le_pow_right (by decide) (by omega)
      have := Int.ofNat_le.mpr this
      rw [Int.natCast_pow, Int.natCast_pow] at this
      exact this
    rw [p28] at hn2
    refine x_iload (pc := 71) rfl d261_71 ?_
    refine x_bipush (pc := 73) (by decide) d261_73 ?_
    refine x_iload (pc := 75) rfl d261_75 ?_
    refine x_imul (pc := 77) d261_77 ?_
    refine x_bipush (pc := 78) (by decide) d261_78 ?_
    refine x_iadd (pc := 80) d261_80 ?_
    refine x_icmp_ge (pc := 81) (tgt := 125) ⟨by omega, by omega⟩ ⟨by omega, by omega⟩ d261_81 (by decide) (fun g81 => ?_) (fun g81 => ?_)
    · refine x_iinc (pc := 125) rfl (by decide +kernel) rfl d261_125 ?_
      dsimp only [List.set]
      refine x_goto (pc := 128) (tgt := 49) d261_128 (by decide) ?_
      refine x_mask [true, true, true, true, true, true, true, false] ?_
      dsimp only [mask]
      exfalso; omega
    · refine x_aload_n (pc := 84) rfl d261_84 ?_
      refine m_getR (pc := 85) f261_28 (by decide +kernel) (xo181 (by omega)) rr181_9 d261_85 ?_
      refine x_iload (pc := 88) rfl d261_88 ?_
      refine x_iconst (pc := 90) d261_90 ?_
      refine x_aload_n (pc := 91) rfl d261_91 ?_
      refine m_getR (pc := 92) f261_28 (by decide +kernel) (xo181 (by omega)) rr181_9 d261_92 ?_
      refine x_iload (pc := 95) rfl d261_95 ?_
      refine m_iald (pc := 97) (xa188 (by omega)) (by omega) (by omega) (by omega) d261_97 ?_
      refine x_val (pc := 98) (w := (byteN (flpZ (SfA A f) z (bdig z 16) b) k i)) (hB) ?_
      refine x_imul (pc := 98) d261_98 ?_
      refine x_aload_n (pc := 99) rfl d261_99 ?_
      refine x_iload_n (pc := 100) rfl d261_100 ?_
      refine x_iload (pc := 101) rfl d261_101 ?_
      refine x_cVs (pc := 103) c261_124 (rt_bit hl hq (A := A) hRJ hA (f := f) (b := (8 * k + i)) (by omega) (by omega) (by omega) (by omega)) (xo181 (by omega)) rfl rfl (Nat.le_of_ble_eq_true rfl) (by decide +kernel) (by decide +kernel) rfl d261_103 ?_
      refine x_iload_n (pc := 106) rfl d261_106 ?_
      refine x_iload_n (pc := 107) rfl d261_107 ?_
      refine x_iload (pc := 108) rfl d261_108 ?_
      refine x_cSs (pc := 110) c261_381 (rt_isIn hl (z := z) (p := b) (b := (8 * k + i)) (by omega) (by omega) (by omega) (by omega) (by omega) (by omega)) rfl rfl (Nat.le_of_ble_eq_true rfl) (by decide +kernel) (by decide +kernel) (by decide +kernel) rfl d261_110 ?_
      refine x_cSs (pc := 113) c261_130 (rt_truth hl (b := (decide (flp z (bdig z 16) b (8 * k + i) = 1)))) rfl rfl (Nat.le_of_ble_eq_true rfl) (by decide +kernel) (by decide +kernel) (by decide +kernel) rfl d261_113 ?_
      refine x_ixor (pc := 116) (iI_xor (by omega) (by omega) (by omega) (by omega)) d261_116 ?_
      refine x_val (pc := 117) (w := (flpZ (SfA A f) z (bdig z 16) b (8 * k + i))) (by rw [b01_flp]; rfl) ?_
      refine x_iadd (pc := 117) d261_117 ?_
      refine m_iast (pc := 118) (xa188 (by omega)) (by omega) (by omega) (by omega) d261_118 ?_
      refine x_iinc (pc := 119) rfl (by decide +kernel) rfl d261_119 ?_
      dsimp only [List.set]
      refine x_goto (pc := 122) (tgt := 71) d261_122 (by decide) ?_
      rw [show 8 * k + (i : Int) + 1 = 8 * k + ((i + 1 : Nat) : Int) from by omega]
      refine ih (i + 1) _ (by omega) (fun a ha => by rw [up2_off' _ _ _ ha]; exact hJ a ha) (by rw [up2_s]; rfl) fun K a0 a1 a2 => hk K a0 a1 fun j hj => by rw [a2 j hj, up2_i hj]
theorem lp_rwp (hl : l.1.stackTraces = false) (hq : 192 ≤ q) (hR : RV (I 182) A) (hA : AI A c e) {f z b : Int} (f0 : 0 ≤ f) (f1 : f < A 0 6) (z0 : 0 ≤ z) (z1 : z ≤ 65535) (b0 : 0 ≤ b) (b1 : b ≤ 48) {n : Nat} (hn : (n : Int) = A 6 f) : ∀ (m k : Nat) (J : Nat → Int → Int), (m : Int) + k = n → (∀ a, a ≠ 188 → J a = I a) → (∀ j : Int, 0 ≤ j → j < k → J 188 j = byteZ (flpZ (SfA A f) z (bdig z 16) b) j) →
    Ex l 261 0 0 49 [some (.ref 181), some (.int (iI f)), some (.int (iI z)), some (.int (iI b)), none, some (.int (iI n)), some (.int (iI k)), none] [] (mm q J v fr) (oE q v fr (some (.int (iI (b01 (wpA A f z b))))) (fun K => ∀ a, a ≠ 188 → K a = I a)) := by
  have hr := hA.rg
  have hf := hA.frm f f0 f1
  intro m
  induction m with
  | zero =>
    intro k J hm hJ hB
    have hB1 : ∀ j : Int, 0 ≤ j → j < n → 0 ≤ J 188 j ∧ J 188 j ≤ 255 := fun j j0 j1 => by rw [hB j j0 (by omega)]; exact byteZ_b (flpZ_r _ _ _ _) j
    refine x_iload (pc := 49) rfl d261_49 ?_
    refine x_iload (pc := 51) rfl d261_51 ?_
    refine x_icmp_ge (pc := 53) (tgt := 131) ⟨by omega, by omega⟩ ⟨by omega, by omega⟩ d261_53 (by decide) (fun g53 => ?_) (fun g53 => ?_)
    · refine x_aload_n (pc := 131) rfl d261_131 ?_
      refine x_iload (pc := 132) rfl d261_132 ?_
      refine x_cVs (pc := 134) c261_151 (rt_rd hl hq (I := J) (n := n) (by omega) (by omega) hB1) (xo181 (by omega)) rfl rfl (Nat.le_of_ble_eq_true rfl) (by decide +kernel) (by decide +kernel) rfl d261_134 ?_
      refine x_zret (pc := 137) rfl (b01_or _) (fun _ => rfl) d261_137 ?_
      have e : readZ (J 188) n = wpA A f z b := by
        unfold wpA
        rw [show (A 6 f).toNat = n from by omega]
        exact readZ_congr (by omega) fun j j0 j1 => hB j j0 (by omega)
      rw [e]
      exact ⟨J, rfl, hJ⟩
    · exfalso; omega
  | succ m ih =>
    intro k J hm hJ hB
    refine x_iload (pc := 49) rfl d261_49 ?_
    refine x_iload (pc := 51) rfl d261_51 ?_
    refine x_icmp_ge (pc := 53) (tgt := 131) ⟨by omega, by omega⟩ ⟨by omega, by omega⟩ d261_53 (by decide) (fun g53 => ?_) (fun g53 => ?_)
    · refine x_mask [true, false, false, false, true, true, false, true] ?_
      dsimp only [mask]
      exfalso; omega
    · refine x_aload_n (pc := 56) rfl d261_56 ?_
      refine m_getR (pc := 57) f261_28 (by decide +kernel) (xo181 (by omega)) rr181_9 d261_57 ?_
      refine x_iload (pc := 60) rfl d261_60 ?_
      refine x_iconst (pc := 62) d261_62 ?_
      refine m_iast (pc := 63) (xa188 (by omega)) (by omega) (by omega) (by omega) d261_63 ?_
      refine x_bipush (pc := 64) (by decide) d261_64 ?_
      refine x_iload (pc := 66) rfl d261_66 ?_
      refine x_imul (pc := 68) d261_68 ?_
      refine x_istore (pc := 69) (by decide +kernel) rfl d261_69 ?_
      dsimp only [List.set]
      have := lp_rwp1 (J := up2 J 188 k 0) (v := v) (fr := fr) (k := k) hl hq hR hA f0 f1 (by omega) (by omega) z0 z1 b0 b1 8 0 (by decide) (fun a ha => by rw [up2_off' _ _ _ ha]; exact hJ a ha) up2_s fun K a0 a1 a2 => by
        have := ih (k + 1) K (by omega) a0 fun j j0 j1 => by
          by_cases ej : j = k
          · rw [ej]; exact a1
          · rw [a2 j ej, up2_i ej]; exact hB j j0 (by omega)
        rw [hn] at this
        exact this
      rw [← hn, show 8 * (k : Int) + ((0 : Nat) : Int) = 8 * k from Int.add_zero _] at this
      exact this
theorem rm261 (hl : l.1.stackTraces = false) (hq : 192 ≤ q) (h : RREL I S) (hS : GOK S) {f : Int} (hf : InR f) {z : Int} (hz : InR z) {b : Int} (hb : InR b) : CT l 261 [.ref 181, .int (iI f), .int (iI z), .int (iI b)] (mm q I v fr) 0 0 (RQ q v fr I (oAsk2 S (isF S f) (decide ((1 ≤ z ∧ z ≤ 65535) ∧ 0 ≤ b ∧ b + bdig z 16 ≤ gA S 6 f * 8)) (b01 (wpA (gA S) f z b)))) := by
  have hA : AINV (gA S) cB := hS.1
  have hr := hA.rg
  have hcB : cB = 2450880 := rfl
  obtain ⟨hf0, hf1⟩ := id hf
  obtain ⟨hz0, hz1⟩ := id hz
  obtain ⟨hb0, hb1⟩ := id hb
  refine mkct2 hl (by decide) (Nat.le_of_ble_eq_true rfl) (L := [some (.ref 181), some (.int (iI f)), some (.int (iI z)), some (.int (iI b)), none, none, none, none]) rfl ?_
  refine x_aload_n (pc := 0) rfl d261_0 ?_
  refine x_iload_n (pc := 1) rfl d261_1 ?_
  refine x_cVs (pc := 2) c261_352 (rt_isFrm hl hq (A := (gA S)) h.1 hA (d := f) ⟨by omega, by omega⟩) (xo181 (by omega)) rfl rfl (Nat.le_of_ble_eq_true rfl) (by decide +kernel) (by decide +kernel) rfl d261_2 ?_
  refine x_istore (pc := 5) (by decide +kernel) rfl d261_5 ?_
  dsimp only [List.set]
  refine x_aload_n (pc := 7) rfl d261_7 ?_
  refine x_iload (pc := 8) rfl d261_8 ?_
  refine x_iload (pc := 10) rfl d261_10 ?_
  refine x_ifB_eq (pc := 12) (tgt := 29) d261_12 (by decide) (fun g12 => ?_) (fun g12 => ?_)
  · refine x_iconst (pc := 29) d261_29 ?_
    refine x_cVs (pc := 30) c261_360 (rt_passes2 hl hq (a := (decide (0 ≤ f ∧ f < (gA S) 0 6))) (b := false)) (xo181 (by omega)) rfl rfl (Nat.le_of_ble_eq_true rfl) (by decide +kernel) (by decide +kernel) rfl d261_30 ?_
    obtain ⟨K, hK⟩ : ∃ Z : Nat → Int → Int, Z = (up2 I 181 6 (th2 (decide (0 ≤ f ∧ f < (gA S) 0 6)) false)) := ⟨_, rfl⟩
    refine x_mem (J := K) (pc := 33) hK ?_
    have tK := TH.of hK
    have hRK := tK.rv h.1
    refine x_ifB_ne (pc := 33) (tgt := 38) d261_33 (by decide) (fun g33 => ?_) (fun g33 => ?_)
    · have b0 := of_decide_eq_true (Bool.and_eq_true_iff.mp g33).1
      have hf := hA.frm f b0.1 b0.2
      refine x_aload_n (pc := 38) rfl d261_38 ?_
      refine x_iload_n (pc := 39) rfl d261_39 ?_
      refine x_iconst (pc := 40) d261_40 ?_
      refine x_cVs (pc := 41) c261_78 (rt_of6 hl hq (A := (gA S)) hRK (f := f) (by omega) (by omega) (by omega)) (xo181 (by omega)) rfl rfl (Nat.le_of_ble_eq_true rfl) (by decide +kernel) (by decide +kernel) rfl d261_41 ?_
      refine x_val (pc := 44) (w := (((gA S 6 f).toNat : Nat) : Int)) (by omega) ?_
      refine x_istore (pc := 44) (by decide +kernel) rfl d261_44 ?_
      dsimp only [List.set]
      refine x_iconst (pc := 46) d261_46 ?_
      refine x_istore (pc := 47) (by decide +kernel) rfl d261_47 ?_
      dsimp only [List.set]
      refine x_mask [true, true, true, true, false, true, true, true] ?_
      dsimp only [mask]
      exact absurd (Bool.and_eq_true_iff.mp g33).2 (by decide)
    · refine x_iconst (pc := 36) d261_36 ?_
      refine x_zret (pc := 37) rfl (Or.inl rfl) (fun _ => rfl) d261_37 ?_
      exact rq2_f h tK g33 rfl (fun e => Bool.noConfusion (e.symm.trans g12))
  · have c0 := of_decide_eq_true g12
    refine x_aload_n (pc := 15) rfl d261_15 ?_
    refine x_iload_n (pc := 16) rfl d261_16 ?_
    refine x_iload_n (pc := 17) rfl d261_17 ?_
    refine x_iload_n (pc := 18) rfl d261_18 ?_
    refine x_cVs (pc := 19) c261_378 (rt_fits hl hq (A := (gA S)) h.1 hA (f := f) (z := z) (b := b) (by omega) (by omega) ⟨by omega, by omega⟩ ⟨by omega, by omega⟩) (xo181 (by omega)) rfl rfl (Nat.le_of_ble_eq_true rfl) (by decide +kernel) (by decide +kernel) rfl d261_19 ?_
    refine x_ifB_eq (pc := 22) (tgt := 29) d261_22 (by decide) (fun g22 => ?_) (fun g22 => ?_)
    · refine x_iconst (pc := 29) d261_29 ?_
      refine x_cVs (pc := 30) c261_360 (rt_passes2 hl hq (a := (decide (0 ≤ f ∧ f < (gA S) 0 6))) (b := false)) (xo181 (by omega)) rfl rfl (Nat.le_of_ble_eq_true rfl) (by decide +kernel) (by decide +kernel) rfl d261_30 ?_
      obtain ⟨K, hK⟩ : ∃ Z : Nat → Int → Int, Z = (up2 I 181 6 (th2 (decide (0 ≤ f ∧ f < (gA S) 0 6)) false)) := ⟨_, rfl⟩
      refine x_mem (J := K) (pc := 33) hK ?_
      have tK := TH.of hK
      have hRK := tK.rv h.1
      refine x_ifB_ne (pc := 33) (tgt := 38) d261_33 (by decide) (fun g33 => ?_) (fun g33 => ?_)
      · have b0 := of_decide_eq_true (Bool.and_eq_true_iff.mp g33).1
        have hf := hA.frm f b0.1 b0.2
        refine x_aload_n (pc := 38) rfl d261_38 ?_
        refine x_iload_n (pc := 39) rfl d261_39 ?_
        refine x_iconst (pc := 40) d261_40 ?_
        refine x_cVs (pc := 41) c261_78 (rt_of6 hl hq (A := (gA S)) hRK (f := f) (by omega) (by omega) (by omega)) (xo181 (by omega)) rfl rfl (Nat.le_of_ble_eq_true rfl) (by decide +kernel) (by decide +kernel) rfl d261_41 ?_
        refine x_val (pc := 44) (w := (((gA S 6 f).toNat : Nat) : Int)) (by omega) ?_
        refine x_istore (pc := 44) (by decide +kernel) rfl d261_44 ?_
        dsimp only [List.set]
        refine x_iconst (pc := 46) d261_46 ?_
        refine x_istore (pc := 47) (by decide +kernel) rfl d261_47 ?_
        dsimp only [List.set]
        refine x_mask [true, true, true, true, false, true, true, true] ?_
        dsimp only [mask]
        exact absurd (Bool.and_eq_true_iff.mp g33).2 (by decide)
      · refine x_iconst (pc := 36) d261_36 ?_
        refine x_zret (pc := 37) rfl (Or.inl rfl) (fun _ => rfl) d261_37 ?_
        exact rq2_f h tK g33 rfl (fun _ => g22)
    · have b1 := of_decide_eq_true g22
      refine x_iconst (pc := 25) d261_25 ?_
      refine x_goto (pc := 26) (tgt := 30) d261_26 (by decide) ?_
      refine x_cVs (pc := 30) c261_360 (rt_passes2 hl hq (a := (decide (0 ≤ f ∧ f < (gA S) 0 6))) (b := true)) (xo181 (by omega)) rfl rfl (Nat.le_of_ble_eq_true rfl) (by decide +kernel) (by decide +kernel) rfl d261_30 ?_
      obtain ⟨K, hK⟩ : ∃ Z : Nat → Int → Int, Z = (up2 I 181 6 (th2 (decide (0 ≤ f ∧ f < (gA S) 0 6)) true)) := ⟨_, rfl⟩
      refine x_mem (J := K) (pc := 33) hK ?_
      have tK := TH.of hK
      have hRK := tK.rv h.1
      refine x_ifB_ne (pc := 33) (tgt := 38) d261_33 (by decide) (fun g33 => ?_) (fun g33 => ?_)
      · have b0 := of_decide_eq_true (Bool.and_eq_true_iff.mp g33).1
        have hf := hA.frm f b0.1 b0.2
        refine x_aload_n (pc := 38) rfl d261_38 ?_
        refine x_iload_n (pc := 39) rfl d261_39 ?_
        refine x_iconst (pc := 40) d261_40 ?_
        refine x_cVs (pc := 41) c261_78 (rt_of6 hl hq (A := (gA S)) hRK (f := f) (by omega) (by omega) (by omega)) (xo181 (by omega)) rfl rfl (Nat.le_of_ble_eq_true rfl) (by decide +kernel) (by decide +kernel) rfl d261_41 ?_
        refine x_val (pc := 44) (w := (((gA S 6 f).toNat : Nat) : Int)) (by omega) ?_
        refine x_istore (pc := 44) (by decide +kernel) rfl d261_44 ?_
        dsimp only [List.set]
        refine x_iconst (pc := 46) d261_46 ?_
        refine x_istore (pc := 47) (by decide +kernel) rfl d261_47 ?_
        dsimp only [List.set]
        refine x_mask [true, true, true, true, false, true, true, true] ?_
        dsimp only [mask]
        refine ex_mono (lp_rwp (v := v) (fr := fr) hl hq hRK hA b0.1 b0.2 (by omega) (by omega) (by omega) (by omega) (n := (gA S 6 f).toNat) (by omega) (gA S 6 f).toNat 0 K (by omega) (fun _ _ => rfl) (fun j j0 j1 => absurd (show j < 0 from j1) (by omega))) fun o ho => ?_
        obtain ⟨K2, ho, k1⟩ := ho
        rw [ho]
        exact rq2_t h (tK.res k1) g33 rfl g22 rfl
      · refine x_iconst (pc := 36) d261_36 ?_
        refine x_zret (pc := 37) rfl (Or.inl rfl) (fun _ => rfl) d261_37 ?_
        rw [g12] at g33
        exact absurd g33 (by decide)
/-- the row may have been tried with -/
def TW (I : Nat → Int → Int) (c : Int) (A : AV) (K : Nat → Int → Int) : Prop := (∀ a, a ≠ 181 → a ≠ 182 → a ≠ 185 → a ≠ 188 → K a = I a) ∧ (∀ j, j ≠ 6 → K 181 j = I 181 j) ∧ K 181 6 = c ∧ RV (K 182) A
theorem TW.rel {I K : Nat → Int → Int} {c : Int} (h : TW I c (gA S) K) (hR : RREL I S) : RREL K S := by
  obtain ⟨h1, ⟨a1, a2⟩, ⟨b1, b2⟩, ⟨c1, c2⟩, ⟨d1, d2⟩, ⟨e1, e2⟩⟩ := hR
  obtain ⟨o, o1, o2, o3⟩ := h
  exact ⟨o3, ⟨by rw [o1 5 (by decide)]; exact a1, by rw [o 186 (by decide) (by decide) (by decide) (by decide)]; exact a2⟩, ⟨by rw [o1 7 (by decide)]; exact b1, by rw [o 183 (by decide) (by decide) (by decide) (by decide)]; exact b2⟩, ⟨by rw [o1 12 (by decide)]; exact c1, by rw [o 189 (by decide) (by decide) (by decide) (by decide)]; exact c2⟩, ⟨by rw [o1 18 (by decide)]; exact d1, by rw [o1 19 (by decide)]; exact d2⟩, ⟨by rw [o1 23 (by decide)]; exact e1, by rw [o 191 (by decide) (by decide) (by decide) (by decide)]; exact e2⟩⟩
theorem rw_0 {K : Nat → Int → Int} {z w : Int} (h : RREL I S) (t : TW I 0 (gA S) K) (e : w = z) : RQ q v fr I (0, z, S) (.inl (some (.int (iI w))), mm q K v fr) := ⟨w, K, rfl, t.2.2.1, fun _ => e, t.rel h, fun a ha => t.1 a (by omega) (by omega) (by omega) (by omega)⟩
theorem rw_t {K : Nat → Int → Int} {z w : Int} {c d : Bool} (h : RREL I S) (t : TW I (b01 (!c)) (gA S) K) (g : c = true) (hd : d = c) (e : w = z) : RQ q v fr I (oAsk S d z) (.inl (some (.int (iI w))), mm q K v fr) := by
  subst hd; subst g
  exact rw_0 h t e
theorem lp_rear (hl : l.1.stackTraces = false) (hq : 192 ≤ q) (hR : RV (I 182) A) (hA : AI A c e) (hc : c ≤ 10000000) {f : Int} (f0 : 0 ≤ f) (f1 : f < A 0 6) : ∀ (m i : Nat) (J : Nat → Int → Int), m + i = 601 → (∀ a, a ≠ 188 → J a = I a) → Ex l 262 0 0 16 [some (.ref 181), some (.int (iI f)), some (.int (iI i))] [] (mm q J v fr) (oE q v fr (some (.int (iI (sucN (fun n => resA A f (A 0 7 + n) (A 0 0)) m i)))) (fun K => ∀ a, a ≠ 188 → K a = I a)) := by
  have hr := hA.rg
  intro m
  induction m with
  | zero =>
    intro i J hi hJ
    refine x_iload_n (pc := 16) rfl d262_16 ?_
    refine x_sipush (pc := 17) (by decide) d262_17 ?_
    refine x_icmp_gt (pc := 20) (tgt := 48) ⟨by omega, by omega⟩ ⟨by omega, by omega⟩ d262_20 (by decide) (fun g20 => ?_) (fun g20 => ?_)
    · refine x_iconst (pc := 48) d262_48 ?_
      refine x_iret (pc := 49) rfl (fun _ => rfl) d262_49 ?_
      exact ⟨J, rfl, hJ⟩
    · exfalso; omega
  | succ m ih =>
    intro i J hi hJ
    have hRJ := cg188 hJ hR
    have hrs := res_r (SfA A f) (A 6 f).toNat (chA A (A 0 7 + i) (A 0 0)) (A 0 1)
    have hrs : 0 ≤ resA A f (A 0 7 + i) (A 0 0) ∧ resA A f (A 0 7 + i) (A 0 0) ≤ 2 := hrs
    refine x_iload_n (pc := 16) rfl d262_16 ?_
    refine x_sipush (pc := 17) (by decide) d262_17 ?_
    refine x_icmp_gt (pc := 20) (tgt := 48) ⟨by omega, by omega⟩ ⟨by omega, by omega⟩ d262_20 (by decide) (fun g20 => ?_) (fun g20 => ?_)
    · refine x_iconst (pc := 48) d262_48 ?_
      refine x_iret (pc := 49) rfl (fun _ => rfl) d262_49 ?_
      exfalso; omega
    · refine x_aload_n (pc := 23) rfl d262_23 ?_
      refine x_iload_n (pc := 24) rfl d262_24 ?_
      refine x_aload_n (pc := 25) rfl d262_25 ?_
      refine m_getR (pc := 26) f262_9 (by decide +kernel) (xo181 (by omega)) rr181_0 d262_26 ?_
      refine x_bipush (pc := 29) (by decide) d262_29 ?_
      refine m_ialdW (pc := 31) (w := (A 0 7)) (xa182 (by omega)) (by omega) (by omega) (by omega) (by rw [hRJ.sc (i := 7) (by decide) (by decide)]) d262_31 ?_
      refine x_iload_n (pc := 32) rfl d262_32 ?_
      refine x_iadd (pc := 33) d262_33 ?_
      refine x_cVes (pc := 34) c262_370 (rt_res hl hq (A := A) hRJ hA (f := f) (t := ((A 0 7) + i)) (by omega) (by omega) (by omega) (by omega)) (xo181 (by omega)) rfl rfl (Nat.le_of_ble_eq_true rfl) (by decide +kernel) (by decide +kernel) d262_34 (fun J1 hJ1 => ?_)
      refine x_if_ne (pc := 37) (tgt := 42) ⟨by omega, by omega⟩ d262_37 (by decide) (fun g37 => ?_) (fun g37 => ?_)
      · refine x_iinc (pc := 42) rfl (by decide +kernel) rfl d262_42 ?_
        dsimp only [List.set]
        refine x_goto (pc := 45) (tgt := 16) d262_45 (by decide) ?_
        rw [show sucN (fun n => resA A f (A 0 7 + n) (A 0 0)) (m + 1) i = sucN (fun n => resA A f (A 0 7 + n) (A 0 0)) m ((i + 1 : Nat) : Int) from if_neg g37]
        exact ih (i + 1) J1 (by omega) fun a ha => by rw [hJ1 a ha, hJ a ha]
      · refine x_iload_n (pc := 40) rfl d262_40 ?_
        refine x_iret (pc := 41) rfl (fun _ => rfl) d262_41 ?_
        rw [show sucN (fun n => resA A f (A 0 7 + n) (A 0 0)) (m + 1) i = i from if_pos g37]
        exact ⟨J1, rfl, fun a ha => by rw [hJ1 a ha, hJ a ha]⟩
theorem rm262 (hl : l.1.stackTraces = false) (hq : 192 ≤ q) (h : RREL I S) (hS : GOK S) {f : Int} (hf : InR f) : CT l 262 [.ref 181, .int (iI f)] (mm q I v fr) 0 0 (RQ q v fr I (oAsk S (isF S f) (sucN (fun n => resA (gA S) f (gA S 0 7 + n) (gA S 0 0)) 601 0))) := by
  have hA : AINV (gA S) cB := hS.1
  have hr := hA.rg
  have hcB : cB = 2450880 := rfl
  obtain ⟨hf0, hf1⟩ := id hf
  refine mkct2 hl (by decide) (Nat.le_of_ble_eq_true rfl) (L := [some (.ref 181), some (.int (iI f)), none]) rfl ?_
  refine x_aload_n (pc := 0) rfl d262_0 ?_
  refine x_aload_n (pc := 1) rfl d262_1 ?_
  refine x_iload_n (pc := 2) rfl d262_2 ?_
  refine x_cVs (pc := 3) c262_352 (rt_isFrm hl hq (A := (gA S)) h.1 hA (d := f) ⟨by omega, by omega⟩) (xo181 (by omega)) rfl rfl (Nat.le_of_ble_eq_true rfl) (by decide +kernel) (by decide +kernel) rfl d262_3 ?_
  refine x_cVs (pc := 6) c262_198 (rt_passes hl hq (b := (decide (0 ≤ f ∧ f < (gA S) 0 6)))) (xo181 (by omega)) rfl rfl (Nat.le_of_ble_eq_true rfl) (by decide +kernel) (by decide +kernel) rfl d262_6 ?_
  obtain ⟨K, hK⟩ : ∃ Z : Nat → Int → Int, Z = (up2 I 181 6 (b01 (!(decide (0 ≤ f ∧ f < (gA S) 0 6))))) := ⟨_, rfl⟩
  refine x_mem (J := K) (pc := 9) hK ?_
  have tK := TH.of hK
  have hRK := tK.rv h.1
  refine x_ifB_ne (pc := 9) (tgt := 14) d262_9 (by decide) (fun g9 => ?_) (fun g9 => ?_)
  · have b0 := of_decide_eq_true g9
    refine x_iconst (pc := 14) d262_14 ?_
    refine x_istore_n (pc := 15) (by decide +kernel) rfl d262_15 ?_
    dsimp only [List.set]
    refine ex_mono (lp_rear (v := v) (fr := fr) hl hq hRK hA (by omega) b0.1 b0.2 601 0 K (by decide) (fun _ _ => rfl)) fun o ho => ?_
    obtain ⟨K2, ho, k1⟩ := ho
    rw [ho]
    exact rq_t h (tK.res k1) g9 rfl rfl
  · refine x_iconst (pc := 12) d262_12 ?_
    refine x_iret (pc := 13) rfl (fun _ => rfl) d262_13 ?_
    exact rq_f h tK g9 rfl
theorem AI.bt {A : AV} {c e z : Int} (h : AI A c e) (hz : 1 ≤ z ∧ z ≤ 9) : AI (up2 A 0 0 z) c e :=
  AI.mk hz h.dr h.ba h.li h.dg h.ms h.fr h.ck h.np h.la (fun j h0 h1 => by rw [up2_i (by omega), up2_i (by decide)]; exact h.ct j h0 h1) h.dog h.frm h.msg h.byt
theorem up2_up2 {A : AV} {k : Nat} {j x y : Int} : up2 (up2 A k j x) k j y = up2 A k j y := by
  funext a b
  unfold up2
  split <;> rfl
/-- while bit times are tried -/
def BtI (I J : Nat → Int → Int) (A : AV) (x : Int) : Prop := (∀ a, a ≠ 182 → a ≠ 188 → J a = I a) ∧ RV (J 182) (up2 A 0 0 x)
theorem lp_rbbt (hl : l.1.stackTraces = false) (hq : 192 ≤ q) (hA : AI A c e) (hc : c ≤ 10000000) {f : Int} (f0 : 0 ≤ f) (f1 : f < A 0 6) (h5 : ∀ i : Int, 0 ≤ i → i < 1011 → I 185 i = I 182 i) (hR : RV (I 182) A) : ∀ (m : Nat) (i x : Int) (J : Nat → Int → Int), m + i = 10 → 1 ≤ i → 1 ≤ x ∧ x ≤ 9 → BtI I J A x → Ex l 263 0 0 20 [some (.ref 181), some (.int (iI f)), some (.int (iI i))] [] (mm q J v fr) (oE q v fr (some (.int (iI (sucN (fun b => resA A f (A 0 7) b) m i)))) (fun K => (∀ a, a ≠ 182 → a ≠ 188 → K a = I a) ∧ RV (K 182) A)) := by
  have hr := hA.rg
  have back : ∀ J : Nat → Int → Int, (∀ a, a ≠ 182 → a ≠ 188 → J a = I a) → (∀ a, a ≠ 182 → a ≠ 188 → cp2 J 185 0 182 0 1011 a = I a) ∧ RV (cp2 J 185 0 182 0 1011 182) A := fun J o => ⟨fun a a2 a8 => by rw [show cp2 J 185 0 182 0 1011 a = J a from funext fun b => cp2_p a2]; exact o a a2 a8, hR.cg hA fun i i0 i1 => by rw [cp2_y i0 i1, o 185 (by decide) (by decide)]; exact h5 i i0 i1⟩
  intro m
  induction m with
  | zero =>
    intro i x J hi i1 hx hJ
    refine x_iload_n (pc := 20) rfl d263_20 ?_
    refine x_bipush (pc := 21) (by decide) d263_21 ?_
    refine x_icmp_gt (pc := 23) (tgt := 60) ⟨by omega, by omega⟩ ⟨by omega, by omega⟩ d263_23 (by decide) (fun g23 => ?_) (fun g23 => ?_)
    · refine x_aload_n (pc := 60) rfl d263_60 ?_
      refine x_iconst (pc := 61) d263_61 ?_
      refine x_cVs (pc := 62) c263_387 (rt_laid hl hq (z := (-1))) (xo181 (by omega)) rfl rfl (Nat.le_of_ble_eq_true rfl) (by decide +kernel) (by decide +kernel) rfl d263_62 ?_
      refine x_iret (pc := 65) rfl (fun _ => rfl) d263_65 ?_
      exact ⟨_, rfl, back J hJ.1⟩
    · exfalso; omega
  | succ m ih =>
    intro i x J hi i1 hx hJ
    have hRJ := hJ.2
    have hA := hA.bt (z := i) (by omega)
    have e6 : up2 A 0 0 i 0 6 = A 0 6 := rfl
    have e7 : up2 A 0 0 i 0 7 = A 0 7 := rfl
    have hrs := res_r (SfA A f) (A 6 f).toNat (chA A (A 0 7) i) (A 0 1)
    have hrs : 0 ≤ resA A f (A 0 7) i ∧ resA A f (A 0 7) i ≤ 2 := hrs
    have er : resA (up2 A 0 0 i) f (up2 A 0 0 i 0 7) (up2 A 0 0 i 0 0) = resA A f (A 0 7) i := by rw [show up2 A 0 0 i 0 0 = i from up2_s]; rfl
    refine x_iload_n (pc := 20) rfl d263_20 ?_
    refine x_bipush (pc := 21) (by decide) d263_21 ?_
    refine x_icmp_gt (pc := 23) (tgt := 60) ⟨by omega, by omega⟩ ⟨by omega, by omega⟩ d263_23 (by decide) (fun g23 => ?_) (fun g23 => ?_)
    · refine x_aload_n (pc := 60) rfl d263_60 ?_
      refine x_iconst (pc := 61) d263_61 ?_
      refine x_cVs (pc := 62) c263_387 (rt_laid hl hq (z := (-1))) (xo181 (by omega)) rfl rfl (Nat.le_of_ble_eq_true rfl) (by decide +kernel) (by decide +kernel) rfl d263_62 ?_
      refine x_iret (pc := 65) rfl (fun _ => rfl) d263_65 ?_
      exfalso; omega
    · refine x_aload_n (pc := 26) rfl d263_26 ?_
      refine m_getR (pc := 27) f263_9 (by decide +kernel) (xo181 (by omega)) rr181_0 d263_27 ?_
      refine x_iconst (pc := 30) d263_30 ?_
      refine x_iload_n (pc := 31) rfl d263_31 ?_
      refine m_iast (pc := 32) (xa182 (by omega)) (by omega) (by omega) (by omega) d263_32 ?_
      obtain ⟨K, hK⟩ : ∃ Z : Nat → Int → Int, Z = (up2 J 182 0 i) := ⟨_, rfl⟩
      refine x_mem (J := K) (pc := 33) hK ?_
      have hRK : RV (K 182) (up2 A 0 0 i) := by
        have h1 := hRJ.w (hA.rb.of rfl rfl rfl rfl rfl) 0 i (by decide) (by decide) (by decide) (by decide) (by decide)
        rw [up2_up2] at h1
        rw [hK]; exact h1
      refine x_aload_n (pc := 33) rfl d263_33 ?_
      refine x_iload_n (pc := 34) rfl d263_34 ?_
      refine x_aload_n (pc := 35) rfl d263_35 ?_
      refine m_getR (pc := 36) f263_9 (by decide +kernel) (xo181 (by omega)) rr181_0 d263_36 ?_
      refine x_bipush (pc := 39) (by decide) d263_39 ?_
      refine m_ialdW (pc := 41) (w := ((up2 A 0 0 i) 0 7)) (xa182 (by omega)) (by omega) (by omega) (by omega) (by rw [hRK.sc (i := 7) (by decide) (by decide)]) d263_41 ?_
      refine x_cVes (pc := 42) c263_370 (rt_res hl hq (A := (up2 A 0 0 i)) hRK hA (f := f) (t := ((up2 A 0 0 i) 0 7)) (by omega) (by omega) (by omega) (by omega)) (xo181 (by omega)) rfl rfl (Nat.le_of_ble_eq_true rfl) (by decide +kernel) (by decide +kernel) d263_42 (fun J1 hJ1 => ?_)
      refine x_val (pc := 45) (w := (resA A f (A 0 7) i)) (er) ?_
      have o1 : ∀ a, a ≠ 182 → a ≠ 188 → J1 a = I a := fun a a2 a8 => by rw [hJ1 a a8, hK, up2_off' _ _ _ a2]; exact hJ.1 a a2 a8
      refine x_if_ne (pc := 45) (tgt := 54) ⟨by omega, by omega⟩ d263_45 (by decide) (fun g45 => ?_) (fun g45 => ?_)
      · refine x_iinc (pc := 54) rfl (by decide +kernel) rfl d263_54 ?_
        dsimp only [List.set]
        refine x_goto (pc := 57) (tgt := 20) d263_57 (by decide) ?_
        rw [show sucN (fun b => resA A f (A 0 7) b) (m + 1) i = sucN (fun b => resA A f (A 0 7) b) m (i + 1) from if_neg g45]
        exact ih (i + 1) i J1 (by omega) (by omega) (by omega) ⟨o1, by rw [hJ1 182 (by decide)]; exact hRK⟩
      · refine x_aload_n (pc := 48) rfl d263_48 ?_
        refine x_iload_n (pc := 49) rfl d263_49 ?_
        refine x_cVs (pc := 50) c263_387 (rt_laid hl hq (z := i)) (xo181 (by omega)) rfl rfl (Nat.le_of_ble_eq_true rfl) (by decide +kernel) (by decide +kernel) rfl d263_50 ?_
        refine x_iret (pc := 53) rfl (fun _ => rfl) d263_53 ?_
        rw [show sucN (fun b => resA A f (A 0 7) b) (m + 1) i = i from if_pos g45]
        exact ⟨_, rfl, back J1 o1⟩
theorem rm263 (hl : l.1.stackTraces = false) (hq : 192 ≤ q) (h : RREL I S) (hS : GOK S) {f : Int} (hf : InR f) : CT l 263 [.ref 181, .int (iI f)] (mm q I v fr) 0 0 (RQ q v fr I (oAsk S (isF S f) (sucN (fun b => resA (gA S) f (gA S 0 7) b) 9 1))) := by
  have hA : AINV (gA S) cB := hS.1
  have hr := hA.rg
  have hcB : cB = 2450880 := rfl
  obtain ⟨hf0, hf1⟩ := id hf
  refine mkct2 hl (by decide) (Nat.le_of_ble_eq_true rfl) (L := [some (.ref 181), some (.int (iI f)), none]) rfl ?_
  refine x_aload_n (pc := 0) rfl d263_0 ?_
  refine x_aload_n (pc := 1) rfl d263_1 ?_
  refine x_iload_n (pc := 2) rfl d263_2 ?_
  refine x_cVs (pc := 3) c263_352 (rt_isFrm hl hq (A := (gA S)) h.1 hA (d := f) ⟨by omega, by omega⟩) (xo181 (by omega)) rfl rfl (Nat.le_of_ble_eq_true rfl) (by decide +kernel) (by decide +kernel) rfl d263_3 ?_
  refine x_cVs (pc := 6) c263_198 (rt_passes hl hq (b := (decide (0 ≤ f ∧ f < (gA S) 0 6)))) (xo181 (by omega)) rfl rfl (Nat.le_of_ble_eq_true rfl) (by decide +kernel) (by decide +kernel) rfl d263_6 ?_
  obtain ⟨K, hK⟩ : ∃ Z : Nat → Int → Int, Z = (up2 I 181 6 (b01 (!(decide (0 ≤ f ∧ f < (gA S) 0 6))))) := ⟨_, rfl⟩
  refine x_mem (J := K) (pc := 9) hK ?_
  have tK := TH.of hK
  have hRK := tK.rv h.1
  refine x_ifB_ne (pc := 9) (tgt := 14) d263_9 (by decide) (fun g9 => ?_) (fun g9 => ?_)
  · have b0 := of_decide_eq_true g9
    refine x_aload_n (pc := 14) rfl d263_14 ?_
    refine x_cVv (pc := 15) c263_384 (rt_tries hl hq) (xo181 (by omega)) rfl rfl (Nat.le_of_ble_eq_true rfl) (by decide +kernel) (by decide +kernel) rfl d263_15 ?_
    refine x_iconst (pc := 18) d263_18 ?_
    refine x_istore_n (pc := 19) (by decide +kernel) rfl d263_19 ?_
    dsimp only [List.set]
    have hR2 : RV (cp2 K 182 0 185 0 1011 182) (gA S) := by rw [show cp2 K 182 0 185 0 1011 182 = K 182 from funext fun b => cp2_p (by decide)]; exact hRK
    refine ex_mono (lp_rbbt (I := cp2 K 182 0 185 0 1011) (v := v) (fr := fr) hl hq hA (by omega) b0.1 b0.2 (fun i i0 i1 => by rw [cp2_y i0 i1, cp2_p (by decide)]) hR2 9 1 (gA S 0 0) _ (by decide) (by decide) (by omega) ⟨fun _ _ _ => rfl, by rw [up2_same rfl]; exact hR2⟩) fun o ho => ?_
    obtain ⟨K2, ho, k1, k2⟩ := ho
    rw [ho]
    have k3 : ∀ a, a ≠ 182 → a ≠ 185 → a ≠ 188 → K2 a = K a := fun a a2 a5 a8 => by rw [k1 a a2 a8]; exact funext fun b => cp2_p a5
    exact rw_t h ⟨fun a a1 a2 a5 a8 => by rw [k3 a a2 a5 a8]; exact tK.1 a a1 a8, fun j hj => by rw [k3 181 (by decide) (by decide) (by decide)]; exact tK.2.1 j hj, by rw [k3 181 (by decide) (by decide) (by decide)]; exact tK.2.2, k2⟩ g9 rfl rfl
  · refine x_iconst (pc := 12) d263_12 ?_
    refine x_iret (pc := 13) rfl (fun _ => rfl) d263_13 ?_
    exact rq_f h tK g9 rfl
end Rtry
