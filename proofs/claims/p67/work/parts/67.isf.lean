/-! ===== the law's check of a frame ===== -/
theorem allD_s {i : Int} {P : Int → Bool} (h : 0 ≤ i) : allD (i + 1) P = (allD i P && P i) := by
  unfold allD
  rw [show (i + 1).toNat = i.toNat + 1 from by omega, List.range_succ, List.all_append]
  simp only [List.all_cons, List.all_nil, Bool.and_true]
  rw [show ((i.toNat : Nat) : Int) = i from by omega]
/-- has it arrived, with the first i bytes as sent -/
def smA (A : AV) (f i : Int) : Bool := decide (A 9 f = 1) && allD i (fun j => decide (abA A f j = A 10 (6 * f + j)))
theorem smA_s {A : AV} {f i : Int} (h : 0 ≤ i) : smA A f (i + 1) = (smA A f i && decide (abA A f i = A 10 (6 * f + i))) := by
  unfold smA
  rw [allD_s h, Bool.and_assoc]
theorem allD_w {n : Int} {P P2 : Int → Bool} (h : ∀ i : Int, 0 ≤ i → i < n → P i = P2 i) : allD n P = allD n P2 := allD_congr h
theorem smA_int {A : AV} {f : Int} (h9 : A 9 f = 0 ∨ A 9 f = 1) : smA A f (A 6 f) = intA A f := by
  unfold smA intA
  rcases h9 with e | e
  · rw [decide_eq_false (by omega : ¬ A 9 f = 1), decide_eq_false (by omega : ¬ A 9 f ≠ 0)]
    rfl
  · rw [decide_eq_true e, decide_eq_true (by omega : A 9 f ≠ 0)]
    congr 1
    refine allD_w fun i i0 i1 => ?_
    unfold abA
    rw [if_pos ⟨e, i0, i1⟩]
theorem bit_at {S : Int → Int} {i n : Int} (n0 : 0 ≤ n) (n1 : n < 8) : bitZ S (8 * i + n) = S i / 2 ^ (7 - n).toNat % 2 := by
  unfold bitZ
  rw [show (8 * i + n) / 8 = i from by omega, show 7 - (8 * i + n) % 8 = 7 - n from by omega]
section Quest2
variable {l : LX} {I : Nat → Int → Int} {v : Int} {S : GS}
theorem qBit (hl : l.1.stackTraces = false) (h : CREL I S) (hS : GOK S) {f b : Int} (h0 : 0 ≤ f) (h1 : f < gA S 0 6) (b0 : 0 ≤ b) (b1 : b < gA S 6 f * 8) (hf : InR f) (hb : InR b) : CT l 97 [.ref 0, .int (iI f), .int (iI b)] (mm 181 I v false) 1 6 (oE 181 v false (some (.int (iI (bitZ (SfA (gA S) f) b)))) (fun K => CREL K S)) := by
  have := qb (isF_t h0 h1) (cm97 (v := v) hl (by decide) h hS hf hb)
  rw [if_pos ⟨b0, b1⟩] at this
  exact this
theorem qBitO (hl : l.1.stackTraces = false) (h : CREL I S) (hS : GOK S) {f b : Int} (h0 : 0 ≤ f) (h1 : f < gA S 0 6) (b1 : gA S 6 f * 8 ≤ b) (hf : InR f) (hb : InR b) : CT l 97 [.ref 0, .int (iI f), .int (iI b)] (mm 181 I v false) 1 6 (oE 181 v false (some (.int (iI (-1)))) (fun K => CREL K S)) := by
  have := qb (isF_t h0 h1) (cm97 (v := v) hl (by decide) h hS hf hb)
  rw [if_neg (by omega)] at this
  exact this
theorem qFBO (hl : l.1.stackTraces = false) (h : CREL I S) (hS : GOK S) {f i : Int} (h0 : 0 ≤ f) (h1 : f < gA S 0 6) (i1 : gA S 6 f ≤ i) (hf : InR f) (hi : InR i) : CT l 96 [.ref 0, .int (iI f), .int (iI i)] (mm 181 I v false) 1 6 (oE 181 v false (some (.int (iI (-1)))) (fun K => CREL K S)) := by
  have := qb (isF_t h0 h1) (cm96 (v := v) hl (by decide) h hS hf hi)
  rw [if_neg (by omega)] at this
  exact this
end Quest2
section Isf
variable {l : LX} {v : Int} {S : GS} {Q : OO → Prop}
theorem lp_bits (hl : l.1.stackTraces = false) (hS : GOK S) {B2 : Nat} {k i r s : Int} (k0 : 0 ≤ k) (k1 : k < gA S 0 6) (i0 : 0 ≤ i) (i1 : i < gA S 6 k) : ∀ (m : Nat) (n : Int) (I : Nat → Int → Int), m + n = 8 → 0 ≤ n → CREL I S →
    (∀ I, CREL I S → Ex l 307 B2 (6 * B2) 108 [some (.ref 0), some (.int (iI k)), some (.int (iI (gA S 6 k))), some (.int (iI r)), some (.int (iI s)), some (.int (iI i)), none, none] [] (mm 181 I v false) Q) →
    Ex l 307 (B2 + m) (6 * (B2 + m)) 67 [some (.ref 0), some (.int (iI k)), some (.int (iI (gA S 6 k))), some (.int (iI r)), some (.int (iI s)), some (.int (iI i)), some (.int (iI (gA S 10 (6 * k + i)))), some (.int (iI n))] [] (mm 181 I v false) Q := by
  have h48 := fr48 hS
  have hF := frm hS k0 k1
  have hb := hS.1.byt (6 * k + i)
  intro m
  induction m with
  | zero =>
    intro n I hm h0 hI hk
    refine ex_le (B' := B2) (by omega) rfl ?_
    refine x_iload (pc := 67) rfl d307_67 ?_
    refine x_bipush (pc := 69) (by decide) d307_69 ?_
    refine x_icmp_ge (pc := 71) (tgt := 108) ⟨by omega, by omega⟩ ⟨by omega, by omega⟩ d307_71 (by decide) (fun _ => ?_) (fun _ => by exfalso; omega)
    refine x_mask [true, true, true, true, true, true, false, false] ?_
    exact hk I hI
  | succ m ih =>
    intro n I hm h0 hI hk
    have hbit : n < 8 → bitZ (SfA (gA S) k) (8 * i + n) = gA S 10 (6 * k + i) / 2 ^ (7 - n).toNat % 2 := fun h => bit_at h0 h
    have hbr := bitZ_r (SfA (gA S) k) (8 * i + n)
    have hr2 : 0 ≤ gA S 10 (6 * k + i) / 2 ^ (7 - n).toNat % 2 ∧ gA S 10 (6 * k + i) / 2 ^ (7 - n).toNat % 2 ≤ 1 := by omega
    refine x_iload (pc := 67) rfl d307_67 ?_
    refine x_bipush (pc := 69) (by decide) d307_69 ?_
    refine x_icmp_ge (pc := 71) (tgt := 108) ⟨by omega, by omega⟩ ⟨by omega, by omega⟩ d307_71 (by decide) (fun g71 => ?_) (fun g71 => ?_)
    · refine x_mask [true, true, true, true, true, true, false, false] ?_
      dsimp only [mask]
      exfalso; omega
    · refine x_aload_n (pc := 74) rfl d307_74 ?_
      refine x_iload_n (pc := 75) rfl d307_75 ?_
      refine x_bipush (pc := 76) (by decide) d307_76 ?_
      refine x_iload (pc := 78) rfl d307_78 ?_
      refine x_imul (pc := 80) d307_80 ?_
      refine x_iload (pc := 81) rfl d307_81 ?_
      refine x_iadd (pc := 83) d307_83 ?_
      refine x_qVs (pc := 84) c307_176 (qBit hl hI hS (by omega) (by omega) (by omega) (by omega) ⟨by omega, by omega⟩ ⟨by omega, by omega⟩) (ko0 (by omega)) rfl rfl (Nat.le_of_ble_eq_true rfl) (by decide +kernel) (by decide +kernel) d307_84 (fun I hI => ?_)
      refine x_iload (pc := 87) rfl d307_87 ?_
      refine x_bipush (pc := 89) (by decide) d307_89 ?_
      refine x_iload (pc := 91) rfl d307_91 ?_
      refine x_isub (pc := 93) d307_93 ?_
      refine x_ishr (pc := 94) (iI_shr ⟨by omega, by omega⟩ (by omega) (by omega)) d307_94 ?_
      refine x_iconst (pc := 95) d307_95 ?_
      refine x_iand (pc := 96) (iI_and1 _) d307_96 ?_
      refine x_icmp_eq (pc := 97) (tgt := 102) ⟨by omega, by omega⟩ ⟨by omega, by omega⟩ d307_97 (by decide) (fun g97 => ?_) (fun g97 => ?_)
      · refine x_iinc (pc := 102) rfl (by decide +kernel) rfl d307_102 ?_
        dsimp only [List.set]
        refine x_goto (pc := 105) (tgt := 67) d307_105 (by decide) ?_
        exact ih (n + 1) I (by omega) (by omega) hI hk
      · refine x_iconst (pc := 100) d307_100 ?_
        refine x_zret (pc := 101) rfl (Or.inl rfl) (fun z => Bool.noConfusion z) d307_101 ?_
        exfalso; exact g97 (hbit (by omega))
theorem lp_byts (hl : l.1.stackTraces = false) (hS : GOK S) {B2 : Nat} {k : Int} (k0 : 0 ≤ k) (k1 : k < gA S 0 6) : ∀ (m : Nat) (i : Int) (I : Nat → Int → Int), m + i = gA S 6 k → 0 ≤ i → CREL I S →
    (∀ I, CREL I S → Ex l 307 B2 (6 * B2) 114 [some (.ref 0), some (.int (iI k)), some (.int (iI (gA S 6 k))), some (.int (iI (crcF (SfA (gA S) k) (gA S 6 k).toNat))), some (.int (iI (b01 (smA (gA S) k (gA S 6 k))))), none, none, none] [] (mm 181 I v false) Q) →
    Ex l 307 (B2 + 10 * m) (6 * (B2 + 10 * m)) 18 [some (.ref 0), some (.int (iI k)), some (.int (iI (gA S 6 k))), some (.int (iI (crcF (SfA (gA S) k) i.toNat))), some (.int (iI (b01 (smA (gA S) k i)))), some (.int (iI i)), none, none] [] (mm 181 I v false) Q := by
  have h48 := fr48 hS
  have hF := frm hS k0 k1
  intro m
  induction m with
  | zero =>
    intro i I hm h0 hI hk
    have e : i = gA S 6 k := by omega
    subst e
    refine ex_le (B' := B2) (by omega) rfl ?_
    refine x_iload (pc := 18) rfl d307_18 ?_
    refine x_iload_n (pc := 20) rfl d307_20 ?_
    refine x_icmp_ge (pc := 21) (tgt := 114) ⟨by omega, by omega⟩ ⟨by omega, by omega⟩ d307_21 (by decide) (fun _ => ?_) (fun _ => by exfalso; omega)
    refine x_mask [true, true, true, true, true, false, true, true] ?_
    exact hk I hI
  | succ m ih =>
    intro i I hm h0 hI hk
    have hb := hS.1.byt (6 * k + i)
    have ha := abA_r hI hS k i
    have hcr := crcF_b (B := SfA (gA S) k) i.toNat (fun j _ _ => hS.1.byt _)
    have hcs : crcF (SfA (gA S) k) (i + 1).toNat = crcB (crcF (SfA (gA S) k) i.toNat) (gA S 10 (6 * k + i)) := by
      rw [show (i + 1).toNat = i.toNat + 1 from by omega]
      show crcB (crcF (SfA (gA S) k) i.toNat) (gA S 10 (6 * k + ((i.toNat : Nat) : Int))) = _
      rw [show ((i.toNat : Nat) : Int) = i from by omega]
    have hss := smA_s (A := gA S) (f := k) h0
    have go : ∀ (s : Int) (I : Nat → Int → Int), s = b01 (smA (gA S) k (i + 1)) → CREL I S → Ex l 307 (B2 + 10 * m) (6 * (B2 + 10 * m)) 108 [some (.ref 0), some (.int (iI k)), some (.int (iI (gA S 6 k))), some (.int (iI (crcB (crcF (SfA (gA S) k) i.toNat) (gA S 10 (6 * k + i))))), some (.int (iI s)), some (.int (iI i)), none, none] [] (mm 181 I v false) Q := fun s I hs hI => by
      refine x_iinc (pc := 108) (z := i) rfl (by decide +kernel) rfl d307_108 ?_
      dsimp only [List.set]
      refine x_goto (pc := 111) (tgt := 18) d307_111 (by decide) ?_
      have := ih (i + 1) I (by omega) (by omega) hI hk
      rw [hcs] at this
      rw [hs]
      exact this
    refine ex_le (B' := B2 + 10 * m + 8 + 2) (by omega) rfl ?_
    refine x_iload (pc := 18) rfl d307_18 ?_
    refine x_iload_n (pc := 20) rfl d307_20 ?_
    refine x_icmp_ge (pc := 21) (tgt := 114) ⟨by omega, by omega⟩ ⟨by omega, by omega⟩ d307_21 (by decide) (fun g21 => ?_) (fun g21 => ?_)
    · refine x_mask [true, true, true, true, true, false, true, true] ?_
      dsimp only [mask]
      exfalso; omega
    · refine x_aload_n (pc := 24) rfl d307_24 ?_
      refine x_iload_n (pc := 25) rfl d307_25 ?_
      refine x_iload (pc := 26) rfl d307_26 ?_
      refine x_qVs (pc := 28) c307_157 (qFB hl hI hS (by omega) (by omega) (by omega) (by omega) ⟨by omega, by omega⟩ ⟨by omega, by omega⟩) (ko0 (by omega)) rfl rfl (Nat.le_of_ble_eq_true rfl) (by decide +kernel) (by decide +kernel) d307_28 (fun I hI => ?_)
      refine x_istore (pc := 31) (by decide +kernel) rfl d307_31 ?_
      dsimp only [List.set]
      refine x_iload_n (pc := 33) rfl d307_33 ?_
      refine x_iload (pc := 34) rfl d307_34 ?_
      refine x_cSs (pc := 36) c307_173 (dt_rest (q := 181) (I := I) (v := v) (fr := false) hl (by omega) (by omega) (by omega) (by omega)) rfl rfl (Nat.le_of_ble_eq_true rfl) (by decide +kernel) (by decide +kernel) (by decide +kernel) rfl d307_36 ?_
      refine x_istore_n (pc := 39) (by decide +kernel) rfl d307_39 ?_
      dsimp only [List.set]
      refine x_iload (pc := 40) rfl d307_40 ?_
      refine x_ifB_eq (pc := 42) (tgt := 61) d307_42 (by decide) (fun g42 => ?_) (fun g42 => ?_)
      · refine x_iconst (pc := 61) d307_61 ?_
        refine x_istore (pc := 62) (by decide +kernel) rfl d307_62 ?_
        dsimp only [List.set]
        refine x_iconst (pc := 64) d307_64 ?_
        refine x_istore (pc := 65) (by decide +kernel) rfl d307_65 ?_
        dsimp only [List.set]
        refine ex_le (B' := B2 + 10 * m + 8) (by omega) rfl ?_
        refine lp_bits hl hS k0 k1 h0 (by omega) 8 0 I (by omega) (by decide) hI (fun I hI => go _ I ?_ hI)
        rw [hss, g42]
        rfl
      · refine x_aload_n (pc := 45) rfl d307_45 ?_
        refine x_iload_n (pc := 46) rfl d307_46 ?_
        refine x_iload (pc := 47) rfl d307_47 ?_
        refine x_qVs (pc := 49) c307_163 (qAB hl hI hS (by omega) (by omega) ⟨by omega, by omega⟩ ⟨by omega, by omega⟩) (ko0 (by omega)) rfl rfl (Nat.le_of_ble_eq_true rfl) (by decide +kernel) (by decide +kernel) d307_49 (fun I hI => ?_)
        refine x_iload (pc := 52) rfl d307_52 ?_
        refine x_icmp_ne (pc := 54) (tgt := 61) ⟨by omega, by omega⟩ ⟨by omega, by omega⟩ d307_54 (by decide) (fun g54 => ?_) (fun g54 => ?_)
        · refine x_iconst (pc := 61) d307_61 ?_
          refine x_istore (pc := 62) (by decide +kernel) rfl d307_62 ?_
          dsimp only [List.set]
          refine x_iconst (pc := 64) d307_64 ?_
          refine x_istore (pc := 65) (by decide +kernel) rfl d307_65 ?_
          dsimp only [List.set]
          refine lp_bits hl hS k0 k1 h0 (by omega) 8 0 I (by omega) (by decide) hI (fun I hI => go _ I ?_ hI)
          rw [hss, g42, decide_eq_false g54]
          rfl
        · refine x_iconst (pc := 57) d307_57 ?_
          refine x_goto (pc := 58) (tgt := 62) d307_58 (by decide) ?_
          refine x_istore (pc := 62) (by decide +kernel) rfl d307_62 ?_
          dsimp only [List.set]
          refine x_iconst (pc := 64) d307_64 ?_
          refine x_istore (pc := 65) (by decide +kernel) rfl d307_65 ?_
          dsimp only [List.set]
          refine lp_bits hl hS k0 k1 h0 (by omega) 8 0 I (by omega) (by decide) hI (fun I hI => go _ I ?_ hI)
          rw [hss, g42, decide_eq_true g54]
          rfl
theorem isf_end (hl : l.1.stackTraces = false) (hS : GOK S) (hP : PI (gA S)) {I : Nat → Int → Int} (hI : CREL I S) {k : Int} (k0 : 0 ≤ k) (k1 : k < gA S 0 6) : Ex l 307 15 (6 * 15) 114 [some (.ref 0), some (.int (iI k)), some (.int (iI (gA S 6 k))), some (.int (iI (crcF (SfA (gA S) k) (gA S 6 k).toNat))), some (.int (iI (b01 (smA (gA S) k (gA S 6 k))))), none, none, none] [] (mm 181 I v false) (oE 181 v false (some (.int (iI 1))) (fun K => CREL K S)) := by
  have h48 := fr48 hS
  have hF := frm hS k0 k1
  have hpf := hP.2.2.1 k k0 k1
  have hpa := hP.2.2.2.1 k k0 k1
  have e0 : gA S 10 (6 * k + 0) = k % 16 * 16 + (gA S 6 k - 2) := by rw [show 6 * k + 0 = 6 * k from by omega]; exact hpf.1
  have hcr := hpf.2
  have hint := congrArg b01 (smA_int (A := gA S) (f := k) hpa.1)
  have hbi := b01_or (intA (gA S) k)
  have hbs := b01_or (smA (gA S) k (gA S 6 k))
  refine x_aload_n (pc := 114) rfl d307_114 ?_
  refine x_iload_n (pc := 115) rfl d307_115 ?_
  refine x_qVs (pc := 116) c307_151 (qb (isF_t (by omega) (by omega)) (cm99 hl (by decide) hI hS ⟨by omega, by omega⟩)) (ko0 (by omega)) rfl rfl (Nat.le_of_ble_eq_true rfl) (by decide +kernel) (by decide +kernel) d307_116 (fun I hI => ?_)
  refine x_if_le (pc := 119) (tgt := 126) ⟨by omega, by omega⟩ d307_119 (by decide) (fun g119 => ?_) (fun g119 => ?_)
  · refine x_iconst (pc := 126) d307_126 ?_
    refine x_istore (pc := 127) (by decide +kernel) rfl d307_127 ?_
    dsimp only [List.set]
    refine x_aload_n (pc := 129) rfl d307_129 ?_
    refine x_iload_n (pc := 130) rfl d307_130 ?_
    refine x_iconst (pc := 131) d307_131 ?_
    refine x_qVs (pc := 132) c307_157 (qFB hl hI hS (by omega) (by omega) (by omega) (by omega) ⟨by omega, by omega⟩ ⟨by omega, by omega⟩) (ko0 (by omega)) rfl rfl (Nat.le_of_ble_eq_true rfl) (by decide +kernel) (by decide +kernel) d307_132 (fun I hI => ?_)
    refine x_bipush (pc := 135) (by decide) d307_135 ?_
    refine x_iload_n (pc := 137) rfl d307_137 ?_
    refine x_bipush (pc := 138) (by decide) d307_138 ?_
    refine x_irem (pc := 140) (by omega) (by omega) (by omega) (by omega) d307_140 ?_
    refine x_imul (pc := 141) d307_141 ?_
    refine x_iload_n (pc := 142) rfl d307_142 ?_
    refine x_iadd (pc := 143) d307_143 ?_
    refine x_iconst (pc := 144) d307_144 ?_
    refine x_isub (pc := 145) d307_145 ?_
    refine x_icmp_ne (pc := 146) (tgt := 228) ⟨by omega, by omega⟩ ⟨by omega, by omega⟩ d307_146 (by decide) (fun g146 => ?_) (fun g146 => ?_)
    · refine x_iconst (pc := 228) d307_228 ?_
      refine x_zret (pc := 229) rfl (Or.inl rfl) (fun z => Bool.noConfusion z) d307_229 ?_
      exfalso; omega
    · refine x_iload_n (pc := 149) rfl d307_149 ?_
      refine x_if_ne (pc := 150) (tgt := 228) ⟨by omega, by omega⟩ d307_150 (by decide) (fun g150 => ?_) (fun g150 => ?_)
      · refine x_iconst (pc := 228) d307_228 ?_
        refine x_zret (pc := 229) rfl (Or.inl rfl) (fun z => Bool.noConfusion z) d307_229 ?_
        exfalso; omega
      · refine x_aload_n (pc := 153) rfl d307_153 ?_
        refine x_iload_n (pc := 154) rfl d307_154 ?_
        refine x_iload_n (pc := 155) rfl d307_155 ?_
        refine x_qVs (pc := 156) c307_157 (qFBO hl hI hS (by omega) (by omega) (by omega) ⟨by omega, by omega⟩ ⟨by omega, by omega⟩) (ko0 (by omega)) rfl rfl (Nat.le_of_ble_eq_true rfl) (by decide +kernel) (by decide +kernel) d307_156 (fun I hI => ?_)
        refine x_iconst (pc := 159) d307_159 ?_
        refine x_icmp_ne (pc := 160) (tgt := 228) ⟨by omega, by omega⟩ ⟨by omega, by omega⟩ d307_160 (by decide) (fun z => absurd z (by decide)) (fun _ => ?_)
        refine x_aload_n (pc := 163) rfl d307_163 ?_
        refine x_iload_n (pc := 164) rfl d307_164 ?_
        refine x_bipush (pc := 165) (by decide) d307_165 ?_
        refine x_iload_n (pc := 167) rfl d307_167 ?_
        refine x_imul (pc := 168) d307_168 ?_
        refine x_qVs (pc := 169) c307_176 (qBitO hl hI hS (by omega) (by omega) (by omega) ⟨by omega, by omega⟩ ⟨by omega, by omega⟩) (ko0 (by omega)) rfl rfl (Nat.le_of_ble_eq_true rfl) (by decide +kernel) (by decide +kernel) d307_169 (fun I hI => ?_)
        refine x_iconst (pc := 172) d307_172 ?_
        refine x_icmp_ne (pc := 173) (tgt := 228) ⟨by omega, by omega⟩ ⟨by omega, by omega⟩ d307_173 (by decide) (fun z => absurd z (by decide)) (fun _ => ?_)
        refine x_aload_n (pc := 176) rfl d307_176 ?_
        refine x_iload_n (pc := 177) rfl d307_177 ?_
        refine x_qVs (pc := 178) c307_179 (qb (isF_t (by omega) (by omega)) (cm102 hl (by decide) hI hS ⟨by omega, by omega⟩)) (ko0 (by omega)) rfl rfl (Nat.le_of_ble_eq_true rfl) (by decide +kernel) (by decide +kernel) d307_178 (fun I hI => ?_)
        refine x_iload (pc := 181) rfl d307_181 ?_
        refine x_icmp_ne (pc := 183) (tgt := 228) ⟨by omega, by omega⟩ ⟨by omega, by omega⟩ d307_183 (by decide) (fun g183 => ?_) (fun g183 => ?_)
        · refine x_iconst (pc := 228) d307_228 ?_
          refine x_zret (pc := 229) rfl (Or.inl rfl) (fun z => Bool.noConfusion z) d307_229 ?_
          exfalso; omega
        · refine x_aload_n (pc := 186) rfl d307_186 ?_
          refine x_iload_n (pc := 187) rfl d307_187 ?_
          refine x_qVs (pc := 188) c307_148 (qb (isF_t (by omega) (by omega)) (cm98 hl (by decide) hI hS ⟨by omega, by omega⟩)) (ko0 (by omega)) rfl rfl (Nat.le_of_ble_eq_true rfl) (by decide +kernel) (by decide +kernel) d307_188 (fun I hI => ?_)
          refine x_iconst (pc := 191) d307_191 ?_
          refine x_icmp_ne (pc := 192) (tgt := 200) ⟨by omega, by omega⟩ ⟨by omega, by omega⟩ d307_192 (by decide) (fun g192 => ?_) (fun g192 => ?_)
          · refine x_iload (pc := 200) rfl d307_200 ?_
            refine x_if_ne (pc := 202) (tgt := 213) ⟨by omega, by omega⟩ d307_202 (by decide) (fun z => absurd z (by decide)) (fun _ => ?_)
            refine x_aload_n (pc := 205) rfl d307_205 ?_
            refine x_iload_n (pc := 206) rfl d307_206 ?_
            refine x_qVs (pc := 207) c307_170 (qb (isF_t (by omega) (by omega)) (cm100 hl (by decide) hI hS ⟨by omega, by omega⟩)) (ko0 (by omega)) rfl rfl (Nat.le_of_ble_eq_true rfl) (by decide +kernel) (by decide +kernel) d307_207 (fun I hI => ?_)
            refine x_ifB_ne (pc := 210) (tgt := 228) d307_210 (by decide) (fun g210 => ?_) (fun g210 => ?_)
            · refine x_iconst (pc := 228) d307_228 ?_
              refine x_zret (pc := 229) rfl (Or.inl rfl) (fun z => Bool.noConfusion z) d307_229 ?_
              exact absurd (hpa.2.1 (of_decide_eq_true g210)) (by omega)
            · refine x_iload_n (pc := 213) rfl d307_213 ?_
              refine x_iconst (pc := 214) d307_214 ?_
              refine x_icmp_lt (pc := 215) (tgt := 228) ⟨by omega, by omega⟩ ⟨by omega, by omega⟩ d307_215 (by decide) (fun g215 => ?_) (fun g215 => ?_)
              · refine x_iconst (pc := 228) d307_228 ?_
                refine x_zret (pc := 229) rfl (Or.inl rfl) (fun z => Bool.noConfusion z) d307_229 ?_
                exfalso; omega
              · refine x_iload_n (pc := 218) rfl d307_218 ?_
                refine x_bipush (pc := 219) (by decide) d307_219 ?_
                refine x_icmp_gt (pc := 221) (tgt := 228) ⟨by omega, by omega⟩ ⟨by omega, by omega⟩ d307_221 (by decide) (fun g221 => ?_) (fun g221 => ?_)
                · refine x_iconst (pc := 228) d307_228 ?_
                  refine x_zret (pc := 229) rfl (Or.inl rfl) (fun z => Bool.noConfusion z) d307_229 ?_
                  exfalso; omega
                · refine x_iconst (pc := 224) d307_224 ?_
                  refine x_goto (pc := 225) (tgt := 229) d307_225 (by decide) ?_
                  refine x_zret (pc := 229) rfl (Or.inr rfl) (fun z => Bool.noConfusion z) d307_229 ?_
                  exact ⟨I, rfl, hI⟩
          · refine x_iload (pc := 195) rfl d307_195 ?_
            refine x_if_eq (pc := 197) (tgt := 228) ⟨by omega, by omega⟩ d307_197 (by decide) (fun _ => ?_) (fun z => absurd z (by decide))
            refine x_iconst (pc := 228) d307_228 ?_
            refine x_zret (pc := 229) rfl (Or.inl rfl) (fun z => Bool.noConfusion z) d307_229 ?_
            exact absurd (hpa.2.2 g192) (by omega)
  · refine x_iconst (pc := 122) d307_122 ?_
    refine x_goto (pc := 123) (tgt := 127) d307_123 (by decide) ?_
    refine x_istore (pc := 127) (by decide +kernel) rfl d307_127 ?_
    dsimp only [List.set]
    refine x_aload_n (pc := 129) rfl d307_129 ?_
    refine x_iload_n (pc := 130) rfl d307_130 ?_
    refine x_iconst (pc := 131) d307_131 ?_
    refine x_qVs (pc := 132) c307_157 (qFB hl hI hS (by omega) (by omega) (by omega) (by omega) ⟨by omega, by omega⟩ ⟨by omega, by omega⟩) (ko0 (by omega)) rfl rfl (Nat.le_of_ble_eq_true rfl) (by decide +kernel) (by decide +kernel) d307_132 (fun I hI => ?_)
    refine x_bipush (pc := 135) (by decide) d307_135 ?_
    refine x_iload_n (pc := 137) rfl d307_137 ?_
    refine x_bipush (pc := 138) (by decide) d307_138 ?_
    refine x_irem (pc := 140) (by omega) (by omega) (by omega) (by omega) d307_140 ?_
    refine x_imul (pc := 141) d307_141 ?_
    refine x_iload_n (pc := 142) rfl d307_142 ?_
    refine x_iadd (pc := 143) d307_143 ?_
    refine x_iconst (pc := 144) d307_144 ?_
    refine x_isub (pc := 145) d307_145 ?_
    refine x_icmp_ne (pc := 146) (tgt := 228) ⟨by omega, by omega⟩ ⟨by omega, by omega⟩ d307_146 (by decide) (fun g146 => ?_) (fun g146 => ?_)
    · refine x_iconst (pc := 228) d307_228 ?_
      refine x_zret (pc := 229) rfl (Or.inl rfl) (fun z => Bool.noConfusion z) d307_229 ?_
      exfalso; omega
    · refine x_iload_n (pc := 149) rfl d307_149 ?_
      refine x_if_ne (pc := 150) (tgt := 228) ⟨by omega, by omega⟩ d307_150 (by decide) (fun g150 => ?_) (fun g150 => ?_)
      · refine x_iconst (pc := 228) d307_228 ?_
        refine x_zret (pc := 229) rfl (Or.inl rfl) (fun z => Bool.noConfusion z) d307_229 ?_
        exfalso; omega
      · refine x_aload_n (pc := 153) rfl d307_153 ?_
        refine x_iload_n (pc := 154) rfl d307_154 ?_
        refine x_iload_n (pc := 155) rfl d307_155 ?_
        refine x_qVs (pc := 156) c307_157 (qFBO hl hI hS (by omega) (by omega) (by omega) ⟨by omega, by omega⟩ ⟨by omega, by omega⟩) (ko0 (by omega)) rfl rfl (Nat.le_of_ble_eq_true rfl) (by decide +kernel) (by decide +kernel) d307_156 (fun I hI => ?_)
        refine x_iconst (pc := 159) d307_159 ?_
        refine x_icmp_ne (pc := 160) (tgt := 228) ⟨by omega, by omega⟩ ⟨by omega, by omega⟩ d307_160 (by decide) (fun z => absurd z (by decide)) (fun _ => ?_)
        refine x_aload_n (pc := 163) rfl d307_163 ?_
        refine x_iload_n (pc := 164) rfl d307_164 ?_
        refine x_bipush (pc := 165) (by decide) d307_165 ?_
        refine x_iload_n (pc := 167) rfl d307_167 ?_
        refine x_imul (pc := 168) d307_168 ?_
        refine x_qVs (pc := 169) c307_176 (qBitO hl hI hS (by omega) (by omega) (by omega) ⟨by omega, by omega⟩ ⟨by omega, by omega⟩) (ko0 (by omega)) rfl rfl (Nat.le_of_ble_eq_true rfl) (by decide +kernel) (by decide +kernel) d307_169 (fun I hI => ?_)
        refine x_iconst (pc := 172) d307_172 ?_
        refine x_icmp_ne (pc := 173) (tgt := 228) ⟨by omega, by omega⟩ ⟨by omega, by omega⟩ d307_173 (by decide) (fun z => absurd z (by decide)) (fun _ => ?_)
        refine x_aload_n (pc := 176) rfl d307_176 ?_
        refine x_iload_n (pc := 177) rfl d307_177 ?_
        refine x_qVs (pc := 178) c307_179 (qb (isF_t (by omega) (by omega)) (cm102 hl (by decide) hI hS ⟨by omega, by omega⟩)) (ko0 (by omega)) rfl rfl (Nat.le_of_ble_eq_true rfl) (by decide +kernel) (by decide +kernel) d307_178 (fun I hI => ?_)
        refine x_iload (pc := 181) rfl d307_181 ?_
        refine x_icmp_ne (pc := 183) (tgt := 228) ⟨by omega, by omega⟩ ⟨by omega, by omega⟩ d307_183 (by decide) (fun g183 => ?_) (fun g183 => ?_)
        · refine x_iconst (pc := 228) d307_228 ?_
          refine x_zret (pc := 229) rfl (Or.inl rfl) (fun z => Bool.noConfusion z) d307_229 ?_
          exfalso; omega
        · refine x_aload_n (pc := 186) rfl d307_186 ?_
          refine x_iload_n (pc := 187) rfl d307_187 ?_
          refine x_qVs (pc := 188) c307_148 (qb (isF_t (by omega) (by omega)) (cm98 hl (by decide) hI hS ⟨by omega, by omega⟩)) (ko0 (by omega)) rfl rfl (Nat.le_of_ble_eq_true rfl) (by decide +kernel) (by decide +kernel) d307_188 (fun I hI => ?_)
          refine x_iconst (pc := 191) d307_191 ?_
          refine x_icmp_ne (pc := 192) (tgt := 200) ⟨by omega, by omega⟩ ⟨by omega, by omega⟩ d307_192 (by decide) (fun g192 => ?_) (fun g192 => ?_)
          · refine x_iload (pc := 200) rfl d307_200 ?_
            refine x_if_ne (pc := 202) (tgt := 213) ⟨by omega, by omega⟩ d307_202 (by decide) (fun _ => ?_) (fun z => absurd z (by decide))
            refine x_iload_n (pc := 213) rfl d307_213 ?_
            refine x_iconst (pc := 214) d307_214 ?_
            refine x_icmp_lt (pc := 215) (tgt := 228) ⟨by omega, by omega⟩ ⟨by omega, by omega⟩ d307_215 (by decide) (fun g215 => ?_) (fun g215 => ?_)
            · refine x_iconst (pc := 228) d307_228 ?_
              refine x_zret (pc := 229) rfl (Or.inl rfl) (fun z => Bool.noConfusion z) d307_229 ?_
              exfalso; omega
            · refine x_iload_n (pc := 218) rfl d307_218 ?_
              refine x_bipush (pc := 219) (by decide) d307_219 ?_
              refine x_icmp_gt (pc := 221) (tgt := 228) ⟨by omega, by omega⟩ ⟨by omega, by omega⟩ d307_221 (by decide) (fun g221 => ?_) (fun g221 => ?_)
              · refine x_iconst (pc := 228) d307_228 ?_
                refine x_zret (pc := 229) rfl (Or.inl rfl) (fun z => Bool.noConfusion z) d307_229 ?_
                exfalso; omega
              · refine x_iconst (pc := 224) d307_224 ?_
                refine x_goto (pc := 225) (tgt := 229) d307_225 (by decide) ?_
                refine x_zret (pc := 229) rfl (Or.inr rfl) (fun z => Bool.noConfusion z) d307_229 ?_
                exact ⟨I, rfl, hI⟩
          · refine x_iload (pc := 195) rfl d307_195 ?_
            refine x_if_eq (pc := 197) (tgt := 228) ⟨by omega, by omega⟩ d307_197 (by decide) (fun z => absurd z (by decide)) (fun _ => ?_)
            refine x_iload (pc := 200) rfl d307_200 ?_
            refine x_if_ne (pc := 202) (tgt := 213) ⟨by omega, by omega⟩ d307_202 (by decide) (fun _ => ?_) (fun z => absurd z (by decide))
            refine x_iload_n (pc := 213) rfl d307_213 ?_
            refine x_iconst (pc := 214) d307_214 ?_
            refine x_icmp_lt (pc := 215) (tgt := 228) ⟨by omega, by omega⟩ ⟨by omega, by omega⟩ d307_215 (by decide) (fun g215 => ?_) (fun g215 => ?_)
            · refine x_iconst (pc := 228) d307_228 ?_
              refine x_zret (pc := 229) rfl (Or.inl rfl) (fun z => Bool.noConfusion z) d307_229 ?_
              exfalso; omega
            · refine x_iload_n (pc := 218) rfl d307_218 ?_
              refine x_bipush (pc := 219) (by decide) d307_219 ?_
              refine x_icmp_gt (pc := 221) (tgt := 228) ⟨by omega, by omega⟩ ⟨by omega, by omega⟩ d307_221 (by decide) (fun g221 => ?_) (fun g221 => ?_)
              · refine x_iconst (pc := 228) d307_228 ?_
                refine x_zret (pc := 229) rfl (Or.inl rfl) (fun z => Bool.noConfusion z) d307_229 ?_
                exfalso; omega
              · refine x_iconst (pc := 224) d307_224 ?_
                refine x_goto (pc := 225) (tgt := 229) d307_225 (by decide) ?_
                refine x_zret (pc := 229) rfl (Or.inr rfl) (fun z => Bool.noConfusion z) d307_229 ?_
                exact ⟨I, rfl, hI⟩
theorem ct_isf (hl : l.1.stackTraces = false) (hS : GOK S) (hP : PI (gA S)) {I : Nat → Int → Int} (hI : CREL I S) {k : Int} (k0 : 0 ≤ k) (k1 : k < gA S 0 6) : CT l 307 [.ref 0, .int (iI k)] (mm 181 I v false) 80 (6 * 80) (oE 181 v false (some (.int (iI 1))) (fun K => CREL K S)) := by
  have h48 := fr48 hS
  have hF := frm hS k0 k1
  have hpf := hP.2.2.1 k k0 k1
  have hpa := hP.2.2.2.1 k k0 k1
  have e0 : gA S 10 (6 * k + 0) = k % 16 * 16 + (gA S 6 k - 2) := by rw [show 6 * k + 0 = 6 * k from by omega]; exact hpf.1
  have hcr := hpf.2
  have hint := congrArg b01 (smA_int (A := gA S) (f := k) hpa.1)
  have hbi := b01_or (intA (gA S) k)
  have hbs := b01_or (smA (gA S) k (gA S 6 k))
  refine mkct2 hl (by decide) (Nat.le_of_ble_eq_true rfl) (L := [some (.ref 0), some (.int (iI k)), none, none, none, none, none, none]) rfl ?_
  refine x_aload_n (pc := 0) rfl d307_0 ?_
  refine x_iload_n (pc := 1) rfl d307_1 ?_
  refine x_qVs (pc := 2) c307_154 (qb (isF_t (by omega) (by omega)) (cm95 hl (by decide) hI hS ⟨by omega, by omega⟩)) (ko0 (by omega)) rfl rfl (Nat.le_of_ble_eq_true rfl) (by decide +kernel) (by decide +kernel) d307_2 (fun I hI => ?_)
  refine x_istore_n (pc := 5) (by decide +kernel) rfl d307_5 ?_
  dsimp only [List.set]
  refine x_iconst (pc := 6) d307_6 ?_
  refine x_istore_n (pc := 7) (by decide +kernel) rfl d307_7 ?_
  dsimp only [List.set]
  refine x_aload_n (pc := 8) rfl d307_8 ?_
  refine x_iload_n (pc := 9) rfl d307_9 ?_
  refine x_qVs (pc := 10) c307_170 (qb (isF_t (by omega) (by omega)) (cm100 hl (by decide) hI hS ⟨by omega, by omega⟩)) (ko0 (by omega)) rfl rfl (Nat.le_of_ble_eq_true rfl) (by decide +kernel) (by decide +kernel) d307_10 (fun I hI => ?_)
  refine x_istore (pc := 13) (by decide +kernel) rfl d307_13 ?_
  dsimp only [List.set]
  refine x_iconst (pc := 15) d307_15 ?_
  refine x_istore (pc := 16) (by decide +kernel) rfl d307_16 ?_
  dsimp only [List.set]
  have := lp_byts (v := v) (Q := oE 181 v false (some (.int (iI 1))) (fun K => CREL K S)) (B2 := 15) hl hS k0 k1 (gA S 6 k).toNat 0 I (by omega) (by decide) hI (fun I hI => ?_)
  · refine ex_le (B' := 15 + 10 * (gA S 6 k).toNat) (by omega) rfl ?_
    rw [show smA (gA S) k 0 = decide (gA S 9 k = 1) from Bool.and_true _] at this
    exact this
  exact isf_end hl hS hP hI k0 k1
end Isf
