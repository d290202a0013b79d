/-! ===== the law's check of an attempt ===== -/
theorem xz0 {a : Int} (h : a = 0 ∨ a = 1) : xorZ a 0 = a := by rcases h with e | e <;> rw [e] <;> rfl
theorem xz1 {a : Int} (h : a = 0 ∨ a = 1) : xorZ a 1 = 1 - a := by rcases h with e | e <;> rw [e] <;> rfl
section Quest3
variable {l : LX} {I : Nat → Int → Int} {v : Int} {S : GS}
theorem qRB (hl : l.1.stackTraces = false) (h : CREL I S) (hS : GOK S) {f b t : Int} (h0 : 0 ≤ f) (h1 : f < gA S 0 6) (b0 : 0 ≤ b) (b1 : b < gA S 6 f * 8) (t0 : 0 ≤ t) (t1 : t ≤ 900000) (hf : InR f) (hb : InR b) (ht : InR t) : CT l 105 [.ref 0, .int (iI f), .int (iI b), .int (iI t)] (mm 181 I v false) 1 6 (oE 181 v false (some (.int (iI (takB (gA S) f t b)))) (fun K => CREL K S)) := by
  have := qc (isF_t h0 h1) (isT_t t0 (by omega)) (cm105 (v := v) hl (by decide) h hS hf hb ht)
  rw [if_pos ⟨b0, b1⟩] at this
  exact this
end Quest3
section Isr
variable {l : LX} {v : Int} {S : GS} {Q : OO → Prop}
def wrB2 (A : AV) (f t : Int) (n : Nat) : Int := sumF (fun b => if takB A f t b = bitZ (SfA A f) b then 0 else 1) n
theorem wrB2_s {A : AV} {f t : Int} {n : Nat} : wrB2 A f t (n + 1) = wrB2 A f t n + (if takB A f t n = bitZ (SfA A f) n then 0 else 1) := rfl
theorem wrB2_r (A : AV) (f t : Int) : ∀ n : Nat, 0 ≤ wrB2 A f t n ∧ wrB2 A f t n ≤ n
  | 0 => ⟨Int.le_refl 0, Int.le_refl 0⟩
  | n + 1 => by
    have := wrB2_r A f t n
    rw [wrB2_s]
    split <;> omega
theorem takB_r (A : AV) (f t b : Int) : takB A f t b = 0 ∨ takB A f t b = 1 := takZ_r (fun b => cabZ_r _ _ b) _ _ _
/-- the bytes that are received -/
abbrev rcB (A : AV) (f t : Int) : Int → Int := byteZ (takB A f t)
theorem rcB_b (A : AV) (f t k : Int) : 0 ≤ rcB A f t k ∧ rcB A f t k ≤ 255 := byteZ_b (takB_r A f t) k
theorem max_0 {a : Int} (h : 0 ≤ a) : max a 0 = a := by omega
/-- a bit: chewed -/
theorem sr_a (hl : l.1.stackTraces = false) (hS : GOK S) {B : Nat} {k t n x4 x5 x6 x8 : Int} (k0 : 0 ≤ k) (k1 : k < gA S 0 6) (t0 : 0 ≤ t) (t1 : t ≤ 900000) (hbt : 0 ≤ gA S 0 0 ∧ gA S 0 0 ≤ 5) {b : Nat} (hb : (b : Int) < n) (hn : n ≤ 48) {I : Nat → Int → Int} (hI : CREL I S)
    (hk : ∀ I, CREL I S → Ex l 308 B (6 * B) 93 [some (.ref 0), some (.int (iI k)), some (.int (iI t)), some (.int (iI n)), some (.int (iI x4)), some (.int (iI x5)), some (.int (iI x6)), some (.int (iI (invN (chA (gA S) t (gA S 0 0)) (b + 1)))), some (.int (iI x8)), some (.int (iI (runN (chA (gA S) t (gA S 0 0)) (b + 1)))), some (.int (iI (bstN (chA (gA S) t (gA S 0 0)) (b + 1)))), some (.int (iI b)), none, none, none] [] (mm 181 I v false) Q) :
    Ex l 308 (B + 2) (6 * (B + 2)) 33 [some (.ref 0), some (.int (iI k)), some (.int (iI t)), some (.int (iI n)), some (.int (iI x4)), some (.int (iI x5)), some (.int (iI x6)), some (.int (iI (invN (chA (gA S) t (gA S 0 0)) b))), some (.int (iI x8)), some (.int (iI (runN (chA (gA S) t (gA S 0 0)) b))), some (.int (iI (bstN (chA (gA S) t (gA S 0 0)) b))), some (.int (iI b)), none, none, none] [] (mm 181 I v false) Q := by
  have h1 := invN_r (chA (gA S) t (gA S 0 0)) b
  have h2 := runN_r (chA (gA S) t (gA S 0 0)) b
  have h3 := bstN_r (chA (gA S) t (gA S 0 0)) b
  have hm : 0 ≤ (b : Int) * gA S 0 0 ∧ (b : Int) * gA S 0 0 ≤ 240 := by
    refine ⟨Int.mul_nonneg (by omega) hbt.1, ?_⟩
    have : (b : Int) * gA S 0 0 ≤ 48 * 5 := Int.mul_le_mul (by omega) hbt.2 hbt.1 (by decide)
    omega
  have hi : invN (chA (gA S) t (gA S 0 0)) (b + 1) = invN (chA (gA S) t (gA S 0 0)) b + b01 (chewA (gA S) (t + b * gA S 0 0)) := rfl
  have hr : runN (chA (gA S) t (gA S 0 0)) (b + 1) = if chewA (gA S) (t + b * gA S 0 0) = true then runN (chA (gA S) t (gA S 0 0)) b + 1 else 0 := rfl
  have hs : bstN (chA (gA S) t (gA S 0 0)) (b + 1) = if chewA (gA S) (t + b * gA S 0 0) = true then max (bstN (chA (gA S) t (gA S 0 0)) b) (runN (chA (gA S) t (gA S 0 0)) b + 1) else bstN (chA (gA S) t (gA S 0 0)) b := rfl
  have go := hk
  rw [hi, hr, hs] at go
  refine x_iload (pc := 33) rfl d308_33 ?_
  refine x_iload_n (pc := 35) rfl d308_35 ?_
  refine x_icmp_ge (pc := 36) (tgt := 235) ⟨by omega, by omega⟩ ⟨by omega, by omega⟩ d308_36 (by decide) (fun g36 => ?_) (fun g36 => ?_)
  · refine x_mask [true, true, true, true, true, false, true, true, true, false, true, false, true, true, true] ?_
    dsimp only [mask]
    exfalso; omega
  · refine x_aload_n (pc := 39) rfl d308_39 ?_
    refine x_iload_n (pc := 40) rfl d308_40 ?_
    refine x_iload (pc := 41) rfl d308_41 ?_
    refine x_aload_n (pc := 43) rfl d308_43 ?_
    refine x_qVs (pc := 44) c308_182 (qa (cm83 (E := fun _ => 0) hl (by decide) hI)) (ko0 (by omega)) rfl rfl (Nat.le_of_ble_eq_true rfl) (by decide +kernel) (by decide +kernel) d308_44 (fun I hI => ?_)
    refine x_imul (pc := 47) d308_47 ?_
    refine x_iadd (pc := 48) d308_48 ?_
    refine x_qVs (pc := 49) c308_166 (qb (isT_t (by omega) (by omega)) (cm86 hl (by decide) hI hS ⟨by omega, by omega⟩)) (ko0 (by omega)) rfl rfl (Nat.le_of_ble_eq_true rfl) (by decide +kernel) (by decide +kernel) d308_49 (fun I hI => ?_)
    refine x_istore (pc := 52) (by decide +kernel) rfl d308_52 ?_
    dsimp only [List.set]
    refine x_iload (pc := 54) rfl d308_54 ?_
    refine x_iload (pc := 56) rfl d308_56 ?_
    refine x_ifB_eq (pc := 58) (tgt := 65) d308_58 (by decide) (fun g58 => ?_) (fun g58 => ?_)
    · refine x_iconst (pc := 65) d308_65 ?_
      refine x_iadd (pc := 66) d308_66 ?_
      refine x_istore (pc := 67) (by decide +kernel) rfl d308_67 ?_
      dsimp only [List.set]
      refine x_iload (pc := 69) rfl d308_69 ?_
      refine x_ifB_eq (pc := 71) (tgt := 81) d308_71 (by decide) (fun g71 => ?_) (fun g71 => ?_)
      · refine x_iconst (pc := 81) d308_81 ?_
        refine x_istore (pc := 82) (by decide +kernel) rfl d308_82 ?_
        dsimp only [List.set]
        refine x_iload (pc := 84) rfl d308_84 ?_
        refine x_iload (pc := 86) rfl d308_86 ?_
        refine x_max (pc := 88) ⟨by omega, by omega⟩ ⟨by omega, by omega⟩ c308_185 (by decide +kernel) (Nat.le_of_ble_eq_true rfl) d308_88 ?_
        refine x_istore (pc := 91) (by decide +kernel) rfl d308_91 ?_
        dsimp only [List.set]
        refine x_mask [true, true, true, true, true, true, true, true, true, true, true, true, false, true, true] ?_
        dsimp only [mask]
        have := go I hI
        rw [g58, if_neg Bool.false_ne_true, if_neg Bool.false_ne_true] at this
        rw [max_0 h3.1]
        exact this
      · refine x_iload (pc := 74) rfl d308_74 ?_
        refine x_iconst (pc := 76) d308_76 ?_
        refine x_iadd (pc := 77) d308_77 ?_
        refine x_goto (pc := 78) (tgt := 82) d308_78 (by decide) ?_
        refine x_istore (pc := 82) (by decide +kernel) rfl d308_82 ?_
        dsimp only [List.set]
        refine x_iload (pc := 84) rfl d308_84 ?_
        refine x_iload (pc := 86) rfl d308_86 ?_
        refine x_max (pc := 88) ⟨by omega, by omega⟩ ⟨by omega, by omega⟩ c308_185 (by decide +kernel) (Nat.le_of_ble_eq_true rfl) d308_88 ?_
        refine x_istore (pc := 91) (by decide +kernel) rfl d308_91 ?_
        dsimp only [List.set]
        refine x_mask [true, true, true, true, true, true, true, true, true, true, true, true, false, true, true] ?_
        dsimp only [mask]
        exact absurd (g58.symm.trans g71) (by decide)
    · refine x_iconst (pc := 61) d308_61 ?_
      refine x_goto (pc := 62) (tgt := 66) d308_62 (by decide) ?_
      refine x_iadd (pc := 66) d308_66 ?_
      refine x_istore (pc := 67) (by decide +kernel) rfl d308_67 ?_
      dsimp only [List.set]
      refine x_iload (pc := 69) rfl d308_69 ?_
      refine x_ifB_eq (pc := 71) (tgt := 81) d308_71 (by decide) (fun g71 => ?_) (fun g71 => ?_)
      · refine x_iconst (pc := 81) d308_81 ?_
        refine x_istore (pc := 82) (by decide +kernel) rfl d308_82 ?_
        dsimp only [List.set]
        refine x_iload (pc := 84) rfl d308_84 ?_
        refine x_iload (pc := 86) rfl d308_86 ?_
        refine x_max (pc := 88) ⟨by omega, by omega⟩ ⟨by omega, by omega⟩ c308_185 (by decide +kernel) (Nat.le_of_ble_eq_true rfl) d308_88 ?_
        refine x_istore (pc := 91) (by decide +kernel) rfl d308_91 ?_
        dsimp only [List.set]
        refine x_mask [true, true, true, true, true, true, true, true, true, true, true, true, false, true, true] ?_
        dsimp only [mask]
        exact absurd (g58.symm.trans g71) (by decide)
      · refine x_iload (pc := 74) rfl d308_74 ?_
        refine x_iconst (pc := 76) d308_76 ?_
        refine x_iadd (pc := 77) d308_77 ?_
        refine x_goto (pc := 78) (tgt := 82) d308_78 (by decide) ?_
        refine x_istore (pc := 82) (by decide +kernel) rfl d308_82 ?_
        dsimp only [List.set]
        refine x_iload (pc := 84) rfl d308_84 ?_
        refine x_iload (pc := 86) rfl d308_86 ?_
        refine x_max (pc := 88) ⟨by omega, by omega⟩ ⟨by omega, by omega⟩ c308_185 (by decide +kernel) (Nat.le_of_ble_eq_true rfl) d308_88 ?_
        refine x_istore (pc := 91) (by decide +kernel) rfl d308_91 ?_
        dsimp only [List.set]
        refine x_mask [true, true, true, true, true, true, true, true, true, true, true, true, false, true, true] ?_
        dsimp only [mask]
        have := go I hI
        rw [g58, if_pos rfl, if_pos rfl] at this
        exact this
/-- .. taken -/
theorem sr_b (hl : l.1.stackTraces = false) (hS : GOK S) {B : Nat} {k t x4 x5 x6 x7 x9 x10 : Int} (k0 : 0 ≤ k) (k1 : k < gA S 0 6) (t0 : 0 ≤ t) (t1 : t ≤ 900000) (hbt : 0 ≤ gA S 0 0 ∧ gA S 0 0 ≤ 5) {b : Nat} (hb : (b : Int) < 8 * gA S 6 k) {I : Nat → Int → Int} (hI : CREL I S)
    (hk : ∀ I, CREL I S → Ex l 308 B (6 * B) 179 [some (.ref 0), some (.int (iI k)), some (.int (iI t)), some (.int (iI (8 * gA S 6 k))), some (.int (iI x4)), some (.int (iI x5)), some (.int (iI x6)), some (.int (iI x7)), some (.int (iI (wrB2 (gA S) k t (b + 1)))), some (.int (iI x9)), some (.int (iI x10)), some (.int (iI b)), none, none, some (.int (iI (takB (gA S) k t b)))] [] (mm 181 I v false) Q) :
    Ex l 308 (B + 6) (6 * (B + 6)) 93 [some (.ref 0), some (.int (iI k)), some (.int (iI t)), some (.int (iI (8 * gA S 6 k))), some (.int (iI x4)), some (.int (iI x5)), some (.int (iI x6)), some (.int (iI x7)), some (.int (iI (wrB2 (gA S) k t b))), some (.int (iI x9)), some (.int (iI x10)), some (.int (iI b)), none, none, none] [] (mm 181 I v false) Q := by
  have h48 := fr48 hS
  have hF := frm hS k0 k1
  have hw := wrB2_r (gA S) k t b
  have htb := takB_r (gA S) k t b
  have hdr := hS.1.rg.2.1
  have htk := tkI_r (b := b) (dr := gA S 0 1) (by omega) (by omega) (by omega) (by omega)
  have hbr := bitZ_r (SfA (gA S) k) (tkI b (gA S 0 1))
  have hbr2 := bitZ_r (SfA (gA S) k) b
  have hm : 0 ≤ (tkI b (gA S 0 1)) * gA S 0 0 ∧ (tkI b (gA S 0 1)) * gA S 0 0 ≤ 5500 := by
    refine ⟨Int.mul_nonneg (by omega) hbt.1, ?_⟩
    have : (tkI b (gA S 0 1)) * gA S 0 0 ≤ 1100 * 5 := Int.mul_le_mul (by omega) hbt.2 hbt.1 (by decide)
    omega
  have hT : takB (gA S) k t b = if tkI b (gA S 0 1) < gA S 6 k * 8 then (if chewA (gA S) (t + tkI b (gA S 0 1) * gA S 0 0) = true then 1 - bitZ (SfA (gA S) k) (tkI b (gA S 0 1)) else bitZ (SfA (gA S) k) (tkI b (gA S 0 1))) else 0 := rfl
  have go : ∀ (x : Int) (I : Nat → Int → Int), x = takB (gA S) k t b → CREL I S → Ex l 308 (B + 2) (6 * (B + 2)) 142 [some (.ref 0), some (.int (iI k)), some (.int (iI t)), some (.int (iI (8 * gA S 6 k))), some (.int (iI x4)), some (.int (iI x5)), some (.int (iI x6)), some (.int (iI x7)), some (.int (iI (wrB2 (gA S) k t b))), some (.int (iI x9)), some (.int (iI x10)), some (.int (iI b)), none, none, some (.int (iI x))] [] (mm 181 I v false) Q := fun x I hx hI => by
    subst hx
    have hk := hk
    rw [wrB2_s] at hk
    refine x_aload_n (pc := 142) rfl d308_142 ?_
    refine x_iload_n (pc := 143) rfl d308_143 ?_
    refine x_iload (pc := 144) rfl d308_144 ?_
    refine x_iload_n (pc := 146) rfl d308_146 ?_
    refine x_qVs (pc := 147) c308_191 (qRB hl hI hS (by omega) (by omega) (by omega) (by omega) (by omega) (by omega) ⟨by omega, by omega⟩ ⟨by omega, by omega⟩ ⟨by omega, by omega⟩) (ko0 (by omega)) rfl rfl (Nat.le_of_ble_eq_true rfl) (by decide +kernel) (by decide +kernel) d308_147 (fun I hI => ?_)
    refine x_iload (pc := 150) rfl d308_150 ?_
    refine x_icmp_eq (pc := 152) (tgt := 157) ⟨by omega, by omega⟩ ⟨by omega, by omega⟩ d308_152 (by decide) (fun g152 => ?_) (fun g152 => ?_)
    · refine x_iload (pc := 157) rfl d308_157 ?_
      refine x_iload (pc := 159) rfl d308_159 ?_
      refine x_aload_n (pc := 161) rfl d308_161 ?_
      refine x_iload_n (pc := 162) rfl d308_162 ?_
      refine x_iload (pc := 163) rfl d308_163 ?_
      refine x_qVs (pc := 165) c308_176 (qBit hl hI hS (by omega) (by omega) (by omega) (by omega) ⟨by omega, by omega⟩ ⟨by omega, by omega⟩) (ko0 (by omega)) rfl rfl (Nat.le_of_ble_eq_true rfl) (by decide +kernel) (by decide +kernel) d308_165 (fun I hI => ?_)
      refine x_icmp_eq (pc := 168) (tgt := 175) ⟨by omega, by omega⟩ ⟨by omega, by omega⟩ d308_168 (by decide) (fun g168 => ?_) (fun g168 => ?_)
      · refine x_iconst (pc := 175) d308_175 ?_
        refine x_iadd (pc := 176) d308_176 ?_
        refine x_istore (pc := 177) (by decide +kernel) rfl d308_177 ?_
        dsimp only [List.set]
        have := hk I hI
        rw [if_pos g168] at this
        exact this
      · refine x_iconst (pc := 171) d308_171 ?_
        refine x_goto (pc := 172) (tgt := 176) d308_172 (by decide) ?_
        refine x_iadd (pc := 176) d308_176 ?_
        refine x_istore (pc := 177) (by decide +kernel) rfl d308_177 ?_
        dsimp only [List.set]
        have := hk I hI
        rw [if_neg g168] at this
        exact this
    · refine x_iconst (pc := 155) d308_155 ?_
      refine x_zret (pc := 156) rfl (Or.inl rfl) (fun z => Bool.noConfusion z) d308_156 ?_
      exact absurd rfl g152
  refine x_aload_n (pc := 93) rfl d308_93 ?_
  refine x_iload (pc := 94) rfl d308_94 ?_
  refine x_qVs (pc := 96) c308_188 (qb (dT ⟨by omega, by omega⟩) (cm103 hl (by decide) hI hS ⟨by omega, by omega⟩)) (ko0 (by omega)) rfl rfl (Nat.le_of_ble_eq_true rfl) (by decide +kernel) (by decide +kernel) d308_96 (fun I hI => ?_)
  refine x_istore (pc := 99) (by decide +kernel) rfl d308_99 ?_
  dsimp only [List.set]
  refine x_iload (pc := 101) rfl d308_101 ?_
  refine x_iload_n (pc := 103) rfl d308_103 ?_
  refine x_icmp_lt (pc := 104) (tgt := 111) ⟨by omega, by omega⟩ ⟨by omega, by omega⟩ d308_104 (by decide) (fun g104 => ?_) (fun g104 => ?_)
  · refine x_aload_n (pc := 111) rfl d308_111 ?_
    refine x_iload_n (pc := 112) rfl d308_112 ?_
    refine x_iload (pc := 113) rfl d308_113 ?_
    refine x_qVs (pc := 115) c308_176 (qBit hl hI hS (by omega) (by omega) (by omega) (by omega) ⟨by omega, by omega⟩ ⟨by omega, by omega⟩) (ko0 (by omega)) rfl rfl (Nat.le_of_ble_eq_true rfl) (by decide +kernel) (by decide +kernel) d308_115 (fun I hI => ?_)
    refine x_aload_n (pc := 118) rfl d308_118 ?_
    refine x_iload_n (pc := 119) rfl d308_119 ?_
    refine x_iload (pc := 120) rfl d308_120 ?_
    refine x_aload_n (pc := 122) rfl d308_122 ?_
    refine x_qVs (pc := 123) c308_182 (qa (cm83 (E := fun _ => 0) hl (by decide) hI)) (ko0 (by omega)) rfl rfl (Nat.le_of_ble_eq_true rfl) (by decide +kernel) (by decide +kernel) d308_123 (fun I hI => ?_)
    refine x_imul (pc := 126) d308_126 ?_
    refine x_iadd (pc := 127) d308_127 ?_
    refine x_qVs (pc := 128) c308_166 (qb (isT_t (by omega) (by omega)) (cm86 hl (by decide) hI hS ⟨by omega, by omega⟩)) (ko0 (by omega)) rfl rfl (Nat.le_of_ble_eq_true rfl) (by decide +kernel) (by decide +kernel) d308_128 (fun I hI => ?_)
    refine x_ifB_eq (pc := 131) (tgt := 138) d308_131 (by decide) (fun g131 => ?_) (fun g131 => ?_)
    · refine x_iconst (pc := 138) d308_138 ?_
      refine x_ixor (pc := 139) (iI_xor (by omega) (by omega) (by omega) (by omega)) d308_139 ?_
      refine x_istore (pc := 140) (by decide +kernel) rfl d308_140 ?_
      dsimp only [List.set]
      refine x_mask [true, true, true, true, true, true, true, true, true, true, true, true, true, false, true] ?_
      dsimp only [mask]
      refine go _ I ?_ hI
      rw [xz0 hbr, hT, if_pos (by omega), g131, if_neg Bool.false_ne_true]
    · refine x_iconst (pc := 134) d308_134 ?_
      refine x_goto (pc := 135) (tgt := 139) d308_135 (by decide) ?_
      refine x_ixor (pc := 139) (iI_xor (by omega) (by omega) (by omega) (by omega)) d308_139 ?_
      refine x_istore (pc := 140) (by decide +kernel) rfl d308_140 ?_
      dsimp only [List.set]
      refine x_mask [true, true, true, true, true, true, true, true, true, true, true, true, true, false, true] ?_
      dsimp only [mask]
      refine go _ I ?_ hI
      rw [xz1 hbr, hT, if_pos (by omega), g131, if_pos rfl]
  · refine x_iconst (pc := 107) d308_107 ?_
    refine x_goto (pc := 108) (tgt := 140) d308_108 (by decide) ?_
    refine x_istore (pc := 140) (by decide +kernel) rfl d308_140 ?_
    dsimp only [List.set]
    refine x_mask [true, true, true, true, true, true, true, true, true, true, true, true, true, false, true] ?_
    dsimp only [mask]
    refine ex_le (B' := B + 2) (by omega) rfl (go _ I ?_ hI)
    rw [hT, if_neg (by omega)]
/-- .. put down -/
theorem sr_c (hl : l.1.stackTraces = false) {B : Nat} {k t n x4 x5 x6 x7 x8 x9 x10 w : Int} (h4 : 0 ≤ x4 ∧ x4 ≤ 255) (h5 : 0 ≤ x5 ∧ x5 ≤ 127) (hw : w = 0 ∨ w = 1) {b : Nat} (hb : (b : Int) < 100) {I : Nat → Int → Int}
    (ka : b % 8 < 7 → Ex l 308 B (6 * B) 33 [some (.ref 0), some (.int (iI k)), some (.int (iI t)), some (.int (iI n)), some (.int (iI x4)), some (.int (iI (2 * x5 + w))), some (.int (iI x6)), some (.int (iI x7)), some (.int (iI x8)), some (.int (iI x9)), some (.int (iI x10)), some (.int (iI (b + 1))), none, none, none] [] (mm 181 I v false) Q)
    (kb : b % 8 = 7 → Ex l 308 B (6 * B) 33 [some (.ref 0), some (.int (iI k)), some (.int (iI t)), some (.int (iI n)), some (.int (iI (crcB x4 (2 * x5 + w)))), some (.int (iI 0)), some (.int (iI (if b = 7 then 2 * x5 + w else x6))), some (.int (iI x7)), some (.int (iI x8)), some (.int (iI x9)), some (.int (iI x10)), some (.int (iI (b + 1))), none, none, none] [] (mm 181 I v false) Q) :
    Ex l 308 B (6 * B) 179 [some (.ref 0), some (.int (iI k)), some (.int (iI t)), some (.int (iI n)), some (.int (iI x4)), some (.int (iI x5)), some (.int (iI x6)), some (.int (iI x7)), some (.int (iI x8)), some (.int (iI x9)), some (.int (iI x10)), some (.int (iI b)), none, none, some (.int (iI w))] [] (mm 181 I v false) Q := by
  refine x_iconst (pc := 179) d308_179 ?_
  refine x_iload (pc := 180) rfl d308_180 ?_
  refine x_imul (pc := 182) d308_182 ?_
  refine x_iload (pc := 183) rfl d308_183 ?_
  refine x_iadd (pc := 185) d308_185 ?_
  refine x_istore (pc := 186) (by decide +kernel) rfl d308_186 ?_
  dsimp only [List.set]
  refine x_iload (pc := 188) rfl d308_188 ?_
  refine x_bipush (pc := 190) (by decide) d308_190 ?_
  refine x_irem (pc := 192) (by omega) (by omega) (by omega) (by omega) d308_192 ?_
  refine x_bipush (pc := 193) (by decide) d308_193 ?_
  refine x_icmp_ge (pc := 195) (tgt := 201) ⟨by omega, by omega⟩ ⟨by omega, by omega⟩ d308_195 (by decide) (fun g195 => ?_) (fun g195 => ?_)
  · refine x_iload (pc := 201) rfl d308_201 ?_
    refine x_bipush (pc := 203) (by decide) d308_203 ?_
    refine x_icmp_ne (pc := 205) (tgt := 213) ⟨by omega, by omega⟩ ⟨by omega, by omega⟩ d308_205 (by decide) (fun g205 => ?_) (fun g205 => ?_)
    · refine x_iload (pc := 213) rfl d308_213 ?_
      refine x_istore (pc := 215) (by decide +kernel) rfl d308_215 ?_
      dsimp only [List.set]
      refine x_iload (pc := 217) rfl d308_217 ?_
      refine x_iload (pc := 219) rfl d308_219 ?_
      refine x_cSs (pc := 221) c308_173 (dt_rest (q := 181) (I := I) (v := v) (fr := false) hl (by omega) (by omega) (by omega) (by omega)) rfl rfl (Nat.le_of_ble_eq_true rfl) (by decide +kernel) (by decide +kernel) (by decide +kernel) rfl d308_221 ?_
      refine x_istore (pc := 224) (by decide +kernel) rfl d308_224 ?_
      dsimp only [List.set]
      refine x_iconst (pc := 226) d308_226 ?_
      refine x_istore (pc := 227) (by decide +kernel) rfl d308_227 ?_
      dsimp only [List.set]
      refine x_iinc (pc := 229) rfl (by decide +kernel) rfl d308_229 ?_
      dsimp only [List.set]
      refine x_goto (pc := 232) (tgt := 33) d308_232 (by decide) ?_
      refine x_mask [true, true, true, true, true, true, true, true, true, true, true, true, true, true, false] ?_
      dsimp only [mask]
      have := kb (by omega)
      rw [if_neg (by omega)] at this
      exact this
    · refine x_iload (pc := 208) rfl d308_208 ?_
      refine x_goto (pc := 210) (tgt := 215) d308_210 (by decide) ?_
      refine x_istore (pc := 215) (by decide +kernel) rfl d308_215 ?_
      dsimp only [List.set]
      refine x_iload (pc := 217) rfl d308_217 ?_
      refine x_iload (pc := 219) rfl d308_219 ?_
      refine x_cSs (pc := 221) c308_173 (dt_rest (q := 181) (I := I) (v := v) (fr := false) hl (by omega) (by omega) (by omega) (by omega)) rfl rfl (Nat.le_of_ble_eq_true rfl) (by decide +kernel) (by decide +kernel) (by decide +kernel) rfl d308_221 ?_
      refine x_istore (pc := 224) (by decide +kernel) rfl d308_224 ?_
      dsimp only [List.set]
      refine x_iconst (pc := 226) d308_226 ?_
      refine x_istore (pc := 227) (by decide +kernel) rfl d308_227 ?_
      dsimp only [List.set]
      refine x_iinc (pc := 229) rfl (by decide +kernel) rfl d308_229 ?_
      dsimp only [List.set]
      refine x_goto (pc := 232) (tgt := 33) d308_232 (by decide) ?_
      refine x_mask [true, true, true, true, true, true, true, true, true, true, true, true, true, true, false] ?_
      dsimp only [mask]
      have := kb (by omega)
      rw [if_pos (by omega)] at this
      exact this
  · refine x_goto (pc := 198) (tgt := 229) d308_198 (by decide) ?_
    refine x_iinc (pc := 229) rfl (by decide +kernel) rfl d308_229 ?_
    dsimp only [List.set]
    refine x_goto (pc := 232) (tgt := 33) d308_232 (by decide) ?_
    refine x_mask [true, true, true, true, true, true, true, true, true, true, true, true, true, true, false] ?_
    dsimp only [mask]
    exact ka (by omega)
theorem lp_isr (hl : l.1.stackTraces = false) (hS : GOK S) {B : Nat} {k t : Int} (k0 : 0 ≤ k) (k1 : k < gA S 0 6) (t0 : 0 ≤ t) (t1 : t ≤ 900000) (hbt : 0 ≤ gA S 0 0 ∧ gA S 0 0 ≤ 5) : ∀ (m b : Nat) (I : Nat → Int → Int), ((m + b : Nat) : Int) = 8 * gA S 6 k → CREL I S →
    (∀ I, CREL I S → Ex l 308 B (6 * B) 235 [some (.ref 0), some (.int (iI k)), some (.int (iI t)), some (.int (iI (8 * gA S 6 k))), some (.int (iI (crcF (rcB (gA S) k t) (gA S 6 k).toNat))), none, some (.int (iI (rcB (gA S) k t 0))), some (.int (iI (invN (chA (gA S) t (gA S 0 0)) (gA S 6 k * 8).toNat))), some (.int (iI (wrgA (gA S) k t))), none, some (.int (iI (bstN (chA (gA S) t (gA S 0 0)) (gA S 6 k * 8).toNat))), none, none, none, none] [] (mm 181 I v false) Q) →
    Ex l 308 (B + 8 * m) (6 * (B + 8 * m)) 33 [some (.ref 0), some (.int (iI k)), some (.int (iI t)), some (.int (iI (8 * gA S 6 k))), some (.int (iI (crcF (rcB (gA S) k t) (b / 8)))), some (.int (iI (byteN (takB (gA S) k t) ((b / 8 : Nat) : Int) (b % 8)))), some (.int (iI (if 8 ≤ b then rcB (gA S) k t 0 else 0))), some (.int (iI (invN (chA (gA S) t (gA S 0 0)) b))), some (.int (iI (wrB2 (gA S) k t b))), some (.int (iI (runN (chA (gA S) t (gA S 0 0)) b))), some (.int (iI (bstN (chA (gA S) t (gA S 0 0)) b))), some (.int (iI b)), none, none, none] [] (mm 181 I v false) Q := by
  have hF := frm hS k0 k1
  intro m
  induction m with
  | zero =>
    intro b I hm hI hk
    have e1 : b = (gA S 6 k * 8).toNat := by omega
    have e2 : b / 8 = (gA S 6 k).toNat := by omega
    refine ex_le (B' := B) (by omega) rfl ?_
    refine x_iload (pc := 33) rfl d308_33 ?_
    refine x_iload_n (pc := 35) rfl d308_35 ?_
    refine x_icmp_ge (pc := 36) (tgt := 235) ⟨by omega, by omega⟩ ⟨by omega, by omega⟩ d308_36 (by decide) (fun _ => ?_) (fun _ => by exfalso; omega)
    refine x_mask [true, true, true, true, true, false, true, true, true, false, true, false, true, true, true] ?_
    have := hk I hI
    rw [← e1, ← e2, show wrgA (gA S) k t = wrB2 (gA S) k t b from by rw [e1]; rfl] at this
    rw [if_pos (by omega)]
    exact this
  | succ m ih =>
    intro b I hm hI hk
    have hc := crcF_b (B := rcB (gA S) k t) (b / 8) (fun i _ _ => rcB_b _ _ _ i)
    have h7 : 0 ≤ byteN (takB (gA S) k t) ((b / 8 : Nat) : Int) (b % 8) ∧ byteN (takB (gA S) k t) ((b / 8 : Nat) : Int) (b % 8) ≤ 127 := by
      have h := byteN_b (takB_r (gA S) k t) ((b / 8 : Nat) : Int) (b % 8)
      have h2 : ∀ j : Nat, j < 8 → (2 : Int) ^ j ≤ 128 := by decide
      have h3 := h2 (b % 8) (by omega)
      omega
    refine ex_le (B' := B + 8 * m + 6 + 2) (by omega) rfl ?_
    refine sr_a hl hS k0 k1 t0 t1 hbt (by omega) (by omega) hI (fun I hI => ?_)
    refine sr_b hl hS k0 k1 t0 t1 hbt (by omega) hI (fun I hI => ?_)
    have step : ∀ j : Nat, j = b % 8 → byteN (takB (gA S) k t) ((b / 8 : Nat) : Int) (j + 1) = 2 * byteN (takB (gA S) k t) ((b / 8 : Nat) : Int) (b % 8) + takB (gA S) k t b := fun j hj => by
      show 2 * byteN (takB (gA S) k t) ((b / 8 : Nat) : Int) j + takB (gA S) k t (8 * ((b / 8 : Nat) : Int) + (j : Int)) = _
      rw [hj, show 8 * ((b / 8 : Nat) : Int) + ((b % 8 : Nat) : Int) = b from by omega]
    refine sr_c hl hc h7 (takB_r _ _ _ _) (by omega) (fun g => ?_) (fun g => ?_)
    · have := ih (b + 1) I (by omega) hI hk
      rw [show (b + 1) / 8 = b / 8 from by omega, show (b + 1) % 8 = b % 8 + 1 from by omega, step _ rfl, show (if 8 ≤ b + 1 then rcB (gA S) k t 0 else 0) = (if 8 ≤ b then rcB (gA S) k t 0 else 0) from by
        by_cases d : 8 ≤ b
        · rw [if_pos d, if_pos (by omega)]
        · rw [if_neg d, if_neg (by omega)]] at this
      exact this
    · have := ih (b + 1) I (by omega) hI hk
      have hb7 : rcB (gA S) k t ((b / 8 : Nat) : Int) = 2 * byteN (takB (gA S) k t) ((b / 8 : Nat) : Int) (b % 8) + takB (gA S) k t b := step 7 g.symm
      rw [show (b + 1) / 8 = b / 8 + 1 from by omega, show (b + 1) % 8 = 0 from by omega, show crcF (rcB (gA S) k t) (b / 8 + 1) = crcB (crcF (rcB (gA S) k t) (b / 8)) (rcB (gA S) k t ((b / 8 : Nat) : Int)) from rfl, hb7, show (if 8 ≤ b + 1 then rcB (gA S) k t 0 else 0) = (if b = 7 then 2 * byteN (takB (gA S) k t) ((b / 8 : Nat) : Int) (b % 8) + takB (gA S) k t b else if 8 ≤ b then rcB (gA S) k t 0 else 0) from by
        by_cases d : b = 7
        · rw [if_pos (by omega), if_pos d, ← hb7, show b / 8 = 0 from by omega]
          rfl
        · rw [if_neg d]
          by_cases d : 8 ≤ b
          · rw [if_pos d, if_pos (by omega)]
          · rw [if_neg d, if_neg (by omega)]] at this
      exact this
theorem nbf {b : Bool} (h : (!b) = false) : b = true := by cases b <;> first | rfl | cases h
theorem nbt {b : Bool} (h : (!b) = true) : b = false := by cases b <;> first | rfl | cases h
/-- the first i bits of the acknowledgement aren't chewed -/
def akN (ch : Int → Bool) (n : Int) (i : Nat) : Bool := (List.range i).any (fun i => ch (n + i))
theorem akN_s {ch : Int → Bool} {n : Int} {i : Nat} : akN ch n (i + 1) = (akN ch n i || ch (n + i)) := by
  unfold akN
  rw [List.range_succ, List.any_append]
  simp only [List.any_cons, List.any_nil, Bool.or_false]
theorem lp_ak (hl : l.1.stackTraces = false) (hS : GOK S) {B : Nat} {k t n x4 x6 x7 x8 x10 : Int} (k0 : 0 ≤ k) (k1 : k < gA S 0 6) (t0 : 0 ≤ t) (t1 : t ≤ 900000) (hbt : 0 ≤ gA S 0 0 ∧ gA S 0 0 ≤ 5) (n0 : 0 ≤ n) (n1 : n ≤ 48) : ∀ (m i : Nat) (I : Nat → Int → Int), m + i = 8 → CREL I S →
    (∀ I, CREL I S → Ex l 308 B (6 * B) 284 [some (.ref 0), some (.int (iI k)), some (.int (iI t)), none, some (.int (iI x4)), none, some (.int (iI x6)), some (.int (iI x7)), some (.int (iI x8)), none, some (.int (iI x10)), some (.int (iI (b01 (!(ackZ (chA (gA S) t (gA S 0 0)) n))))), none, none, none] [] (mm 181 I v false) Q) →
    Ex l 308 (B + 2 * m) (6 * (B + 2 * m)) 241 [some (.ref 0), some (.int (iI k)), some (.int (iI t)), some (.int (iI n)), some (.int (iI x4)), none, some (.int (iI x6)), some (.int (iI x7)), some (.int (iI x8)), none, some (.int (iI x10)), some (.int (iI (b01 (!(akN (chA (gA S) t (gA S 0 0)) n i))))), some (.int (iI i)), none, none] [] (mm 181 I v false) Q := by
  intro m
  induction m with
  | zero =>
    intro i I hm hI hk
    have e : i = 8 := by omega
    subst e
    refine ex_le (B' := B) (by omega) rfl ?_
    refine x_iload (pc := 241) rfl d308_241 ?_
    refine x_bipush (pc := 243) (by decide) d308_243 ?_
    refine x_icmp_ge (pc := 245) (tgt := 284) ⟨by omega, by omega⟩ ⟨by omega, by omega⟩ d308_245 (by decide) (fun _ => ?_) (fun _ => by exfalso; omega)
    refine x_mask [true, true, true, false, true, true, true, true, true, true, true, true, false, true, true] ?_
    exact hk I hI
  | succ m ih =>
    intro i I hm hI hk
    have hm2 : 0 ≤ (n + i) * gA S 0 0 ∧ (n + i) * gA S 0 0 ≤ 280 := by
      refine ⟨Int.mul_nonneg (by omega) hbt.1, ?_⟩
      have : (n + i) * gA S 0 0 ≤ 56 * 5 := Int.mul_le_mul (by omega) hbt.2 hbt.1 (by decide)
      omega
    have hs : akN (chA (gA S) t (gA S 0 0)) n (i + 1) = (akN (chA (gA S) t (gA S 0 0)) n i || chewA (gA S) (t + (n + i) * gA S 0 0)) := akN_s
    have go := fun I hI => ih (i + 1) I (by omega) hI hk
    rw [hs] at go
    refine ex_le (B' := B + 2 * m + 2) (by omega) rfl ?_
    refine x_iload (pc := 241) rfl d308_241 ?_
    refine x_bipush (pc := 243) (by decide) d308_243 ?_
    refine x_icmp_ge (pc := 245) (tgt := 284) ⟨by omega, by omega⟩ ⟨by omega, by omega⟩ d308_245 (by decide) (fun g245 => ?_) (fun g245 => ?_)
    · refine x_mask [true, true, true, false, true, true, true, true, true, true, true, true, false, true, true] ?_
      dsimp only [mask]
      exfalso; omega
    · refine x_iload (pc := 248) rfl d308_248 ?_
      refine x_ifB_eq (pc := 250) (tgt := 275) d308_250 (by decide) (fun g250 => ?_) (fun g250 => ?_)
      · refine x_iconst (pc := 275) d308_275 ?_
        refine x_istore (pc := 276) (by decide +kernel) rfl d308_276 ?_
        dsimp only [List.set]
        refine x_iinc (pc := 278) rfl (by decide +kernel) rfl d308_278 ?_
        dsimp only [List.set]
        refine x_goto (pc := 281) (tgt := 241) d308_281 (by decide) ?_
        refine ex_le (B' := B + 2 * m) (by omega) rfl ?_
        have := go I hI
        rw [show akN (chA (gA S) t (gA S 0 0)) n i = true from by
          cases e : akN (chA (gA S) t (gA S 0 0)) n i
          · rw [e] at g250
            exact absurd g250 (by decide)
          · rfl, Bool.true_or] at this
        exact this
      · refine x_aload_n (pc := 253) rfl d308_253 ?_
        refine x_iload_n (pc := 254) rfl d308_254 ?_
        refine x_iload_n (pc := 255) rfl d308_255 ?_
        refine x_iload (pc := 256) rfl d308_256 ?_
        refine x_iadd (pc := 258) d308_258 ?_
        refine x_aload_n (pc := 259) rfl d308_259 ?_
        refine x_qVs (pc := 260) c308_182 (qa (cm83 (E := fun _ => 0) hl (by decide) hI)) (ko0 (by omega)) rfl rfl (Nat.le_of_ble_eq_true rfl) (by decide +kernel) (by decide +kernel) d308_260 (fun I hI => ?_)
        refine x_imul (pc := 263) d308_263 ?_
        refine x_iadd (pc := 264) d308_264 ?_
        refine x_qVs (pc := 265) c308_166 (qb (isT_t (by omega) (by omega)) (cm86 hl (by decide) hI hS ⟨by omega, by omega⟩)) (ko0 (by omega)) rfl rfl (Nat.le_of_ble_eq_true rfl) (by decide +kernel) (by decide +kernel) d308_265 (fun I hI => ?_)
        refine x_ifB_ne (pc := 268) (tgt := 275) d308_268 (by decide) (fun g268 => ?_) (fun g268 => ?_)
        · refine x_iconst (pc := 275) d308_275 ?_
          refine x_istore (pc := 276) (by decide +kernel) rfl d308_276 ?_
          dsimp only [List.set]
          refine x_iinc (pc := 278) rfl (by decide +kernel) rfl d308_278 ?_
          dsimp only [List.set]
          refine x_goto (pc := 281) (tgt := 241) d308_281 (by decide) ?_
          have := go I hI
          rw [g268, Bool.or_true] at this
          exact this
        · refine x_iconst (pc := 271) d308_271 ?_
          refine x_goto (pc := 272) (tgt := 276) d308_272 (by decide) ?_
          refine x_istore (pc := 276) (by decide +kernel) rfl d308_276 ?_
          dsimp only [List.set]
          refine x_iinc (pc := 278) rfl (by decide +kernel) rfl d308_278 ?_
          dsimp only [List.set]
          refine x_goto (pc := 281) (tgt := 241) d308_281 (by decide) ?_
          have := go I hI
          rw [g268, show akN (chA (gA S) t (gA S 0 0)) n i = false from by
            cases e : akN (chA (gA S) t (gA S 0 0)) n i
            · rfl
            · rw [e] at g250
              exact absurd g250 (by decide)] at this
          exact this
/-- what is taken right is read right -/
theorem byt_bits {x : Int} (h0 : 0 ≤ x) (h1 : x ≤ 255) : 2 * (2 * (2 * (2 * (2 * (2 * (2 * (2 * 0 + x / 128 % 2) + x / 64 % 2) + x / 32 % 2) + x / 16 % 2) + x / 8 % 2) + x / 4 % 2) + x / 2 % 2) + x % 2 = x := by omega
theorem byteZ_bit {T B : Int → Int} {k : Int} (hT : ∀ b, 8 * k ≤ b → b < 8 * k + 8 → T b = bitZ B b) (h0 : 0 ≤ B k) (h1 : B k ≤ 255) : byteZ T k = B k := by
  have e : ∀ i : Int, 0 ≤ i → i < 8 → T (8 * k + i) = B k / 2 ^ (7 - i).toNat % 2 := fun i i0 i1 => by
    rw [hT _ (by omega) (by omega)]
    exact bit_at i0 i1
  have p : (2 * (2 * (2 * (2 * (2 * (2 * (2 * (2 * 0 + T (8 * k + 0)) + T (8 * k + 1)) + T (8 * k + 2)) + T (8 * k + 3)) + T (8 * k + 4)) + T (8 * k + 5)) + T (8 * k + 6)) + T (8 * k + 7)) = B k := by
    rw [e 0 (by decide) (by decide), e 1 (by decide) (by decide), e 2 (by decide) (by decide), e 3 (by decide) (by decide), e 4 (by decide) (by decide), e 5 (by decide) (by decide), e 6 (by decide) (by decide), e 7 (by decide) (by decide)]
    rw [show (2 : Int) ^ ((7 : Int) - 0).toNat = 128 from by decide, show (2 : Int) ^ ((7 : Int) - 1).toNat = 64 from by decide, show (2 : Int) ^ ((7 : Int) - 2).toNat = 32 from by decide, show (2 : Int) ^ ((7 : Int) - 3).toNat = 16 from by decide, show (2 : Int) ^ ((7 : Int) - 4).toNat = 8 from by decide, show (2 : Int) ^ ((7 : Int) - 5).toNat = 4 from by decide, show (2 : Int) ^ ((7 : Int) - 6).toNat = 2 from by decide, show (2 : Int) ^ ((7 : Int) - 7).toNat = 1 from by decide]
    omega
  exact p
theorem wrB2_0 {A : AV} {f t : Int} : ∀ n : Nat, wrB2 A f t n ≤ 0 → ∀ b : Nat, b < n → takB A f t b = bitZ (SfA A f) b
  | 0, _, _, hb => absurd hb (by omega)
  | n + 1, h, b, hb => by
    rw [wrB2_s] at h
    have h2 := wrB2_r A f t n
    by_cases e : takB A f t n = bitZ (SfA A f) n
    · rw [if_pos e] at h
      by_cases d : b = n
      · rw [d]; exact e
      · exact wrB2_0 n (by omega) b (by omega)
    · rw [if_neg e] at h
      omega
theorem read_iff {A : AV} {f t : Int} (h3 : 3 ≤ A 6 f) : readZ (rcB A f t) (A 6 f).toNat = decide (crcF (rcB A f t) (A 6 f).toNat = 0 ∧ rcB A f t 0 % 16 = A 6 f - 2) := by
  have e : (A 6 f).toNat = ((A 6 f).toNat - 1) + 1 := by omega
  have h := crcF_last (B := rcB A f t) (n := (A 6 f).toNat - 1) (fun i _ _ => rcB_b A f t i)
  rw [← e] at h
  unfold readZ
  rw [show (((A 6 f).toNat : Int) - 1) = (((A 6 f).toNat - 1 : Nat) : Int) from by omega, Bool.decide_and, show (((A 6 f).toNat : Int) - 2) = A 6 f - 2 from by omega]
  congr 1
  exact decide_eq_decide.mpr h.symm
theorem resA_eq {A : AV} {f t : Int} (h3 : 3 ≤ A 6 f) : resA A f t (A 0 0) = if crcF (rcB A f t) (A 6 f).toNat = 0 ∧ rcB A f t 0 % 16 = A 6 f - 2 then (if ackZ (chA A t (A 0 0)) (8 * A 6 f) = true then 2 else 0) else 1 := by
  show (if readZ (byteZ (takZ (cabZ (SfA A f) (chA A t (A 0 0))) (8 * ((A 6 f).toNat : Int)) (A 0 1))) (A 6 f).toNat = true then (if ackZ (chA A t (A 0 0)) (8 * ((A 6 f).toNat : Int)) = true then 2 else 0) else 1) = _
  rw [show 8 * ((A 6 f).toNat : Int) = A 6 f * 8 from by omega, show byteZ (takZ (cabZ (SfA A f) (chA A t (A 0 0))) (A 6 f * 8) (A 0 1)) = rcB A f t from rfl, read_iff h3, show A 6 f * 8 = 8 * A 6 f from by omega]
  by_cases e : crcF (rcB A f t) (A 6 f).toNat = 0 ∧ rcB A f t 0 % 16 = A 6 f - 2
  · rw [if_pos e, if_pos (decide_eq_true e)]
  · rw [if_neg e, if_neg (by rw [decide_eq_false e]; decide)]
/-- no wrong bit: no lost frame -/
theorem wr0_read {A : AV} {f t : Int} (hb : ∀ i, 0 ≤ A 10 i ∧ A 10 i ≤ 255) (h3 : 3 ≤ A 6 f ∧ A 6 f ≤ 6) (hpf : A 10 (6 * f) = f % 16 * 16 + (A 6 f - 2) ∧ crcF (SfA A f) (A 6 f).toNat = 0) (hw : wrgA A f t ≤ 0) : crcF (rcB A f t) (A 6 f).toNat = 0 ∧ rcB A f t 0 % 16 = A 6 f - 2 := by
  have h := wrB2_0 (A := A) (f := f) (t := t) (A 6 f * 8).toNat hw
  have e : ∀ i : Int, 0 ≤ i → i < A 6 f → rcB A f t i = SfA A f i := fun i i0 i1 => byteZ_bit (fun b b0 b1 => by
    have := h b.toNat (by omega)
    rw [show ((b.toNat : Nat) : Int) = b from by omega] at this
    exact this) (hb _).1 (hb _).2
  refine ⟨?_, ?_⟩
  · rw [crcF_congr _ (fun i i0 i1 => e i i0 (by omega))]
    exact hpf.2
  · rw [e 0 (by decide) (by omega)]
    show A 10 (6 * f + 0) % 16 = _
    rw [show 6 * f + 0 = 6 * f from by omega, hpf.1]
    omega
theorem isr_end (hl : l.1.stackTraces = false) (hS : GOK S) (hP : PI (gA S)) {I : Nat → Int → Int} (hI : CREL I S) {k t : Int} (k0 : 0 ≤ k) (k1 : k < gA S 0 6) (t0 : 0 ≤ t) (t1 : t ≤ 900000) : Ex l 308 5 (6 * 5) 284 [some (.ref 0), some (.int (iI k)), some (.int (iI t)), none, some (.int (iI (crcF (rcB (gA S) k t) (gA S 6 k).toNat))), none, some (.int (iI (rcB (gA S) k t 0))), some (.int (iI (invN (chA (gA S) t (gA S 0 0)) (gA S 6 k * 8).toNat))), some (.int (iI (wrgA (gA S) k t))), none, some (.int (iI (bstN (chA (gA S) t (gA S 0 0)) (gA S 6 k * 8).toNat))), some (.int (iI (b01 (!(ackZ (chA (gA S) t (gA S 0 0)) (8 * gA S 6 k)))))), none, none, none] [] (mm 181 I v false) (oE 181 v false (some (.int (iI 1))) (fun K => CREL K S)) := by
  have h48 := fr48 hS
  have hF := frm hS k0 k1
  have hpf := hP.2.2.1 k k0 k1
  have hw0 := wr0_read (t := t) hS.1.byt hF.1 hpf
  have hre := resA_eq (A := gA S) (f := k) (t := t) hF.1.1
  have hcr := crcF_b (B := rcB (gA S) k t) (gA S 6 k).toNat (fun i _ _ => rcB_b _ _ _ i)
  have hrb := rcB_b (gA S) k t 0
  have hir := invN_r (chA (gA S) t (gA S 0 0)) (gA S 6 k * 8).toNat
  have hsr := bstN_r (chA (gA S) t (gA S 0 0)) (gA S 6 k * 8).toNat
  have hwr : 0 ≤ wrgA (gA S) k t ∧ wrgA (gA S) k t ≤ ((gA S 6 k * 8).toNat : Int) := wrB2_r (gA S) k t (gA S 6 k * 8).toNat
  have hrr : 0 ≤ resA (gA S) k t (gA S 0 0) ∧ resA (gA S) k t (gA S 0 0) ≤ 2 := by
    rw [hre]
    split
    · split <;> decide
    · decide
  refine x_iload (pc := 284) rfl d308_284 ?_
  refine x_if_ne (pc := 286) (tgt := 304) ⟨by omega, by omega⟩ d308_286 (by decide) (fun g286 => ?_) (fun g286 => ?_)
  · refine x_iconst (pc := 304) d308_304 ?_
    refine x_goto (pc := 305) (tgt := 318) d308_305 (by decide) ?_
    refine x_istore (pc := 318) (by decide +kernel) rfl d308_318 ?_
    dsimp only [List.set]
    refine x_aload_n (pc := 320) rfl d308_320 ?_
    refine x_iload_n (pc := 321) rfl d308_321 ?_
    refine x_iload_n (pc := 322) rfl d308_322 ?_
    refine x_qVs (pc := 323) c308_194 (qc (isF_t (by omega) (by omega)) (isT_t (by omega) (by omega)) (cm109 hl (by decide) hI hS ⟨by omega, by omega⟩ ⟨by omega, by omega⟩)) (ko0 (by omega)) rfl rfl (Nat.le_of_ble_eq_true rfl) (by decide +kernel) (by decide +kernel) d308_323 (fun I hI => ?_)
    refine x_iload (pc := 326) rfl d308_326 ?_
    refine x_icmp_ne (pc := 328) (tgt := 379) ⟨by omega, by omega⟩ ⟨by omega, by omega⟩ d308_328 (by decide) (fun g328 => ?_) (fun g328 => ?_)
    · refine x_iconst (pc := 379) d308_379 ?_
      refine x_zret (pc := 380) rfl (Or.inl rfl) (fun z => Bool.noConfusion z) d308_380 ?_
      exact absurd (hre.trans (if_neg (fun h => g286 h.1))) g328
    · refine x_aload_n (pc := 331) rfl d308_331 ?_
      refine x_iload_n (pc := 332) rfl d308_332 ?_
      refine x_iload_n (pc := 333) rfl d308_333 ?_
      refine x_qVs (pc := 334) c308_197 (qc (isF_t (by omega) (by omega)) (isT_t (by omega) (by omega)) (cm106 hl (by decide) hI hS ⟨by omega, by omega⟩ ⟨by omega, by omega⟩)) (ko0 (by omega)) rfl rfl (Nat.le_of_ble_eq_true rfl) (by decide +kernel) (by decide +kernel) d308_334 (fun I hI => ?_)
      refine x_iload (pc := 337) rfl d308_337 ?_
      refine x_icmp_ne (pc := 339) (tgt := 379) ⟨by omega, by omega⟩ ⟨by omega, by omega⟩ d308_339 (by decide) (fun g339 => ?_) (fun g339 => ?_)
      · refine x_iconst (pc := 379) d308_379 ?_
        refine x_zret (pc := 380) rfl (Or.inl rfl) (fun z => Bool.noConfusion z) d308_380 ?_
        exact absurd rfl g339
      · refine x_aload_n (pc := 342) rfl d308_342 ?_
        refine x_iload_n (pc := 343) rfl d308_343 ?_
        refine x_iload_n (pc := 344) rfl d308_344 ?_
        refine x_qVs (pc := 345) c308_200 (qc (isF_t (by omega) (by omega)) (isT_t (by omega) (by omega)) (cm108 hl (by decide) hI hS ⟨by omega, by omega⟩ ⟨by omega, by omega⟩)) (ko0 (by omega)) rfl rfl (Nat.le_of_ble_eq_true rfl) (by decide +kernel) (by decide +kernel) d308_345 (fun I hI => ?_)
        refine x_iload (pc := 348) rfl d308_348 ?_
        refine x_icmp_ne (pc := 350) (tgt := 379) ⟨by omega, by omega⟩ ⟨by omega, by omega⟩ d308_350 (by decide) (fun g350 => ?_) (fun g350 => ?_)
        · refine x_iconst (pc := 379) d308_379 ?_
          refine x_zret (pc := 380) rfl (Or.inl rfl) (fun z => Bool.noConfusion z) d308_380 ?_
          exact absurd rfl g350
        · refine x_aload_n (pc := 353) rfl d308_353 ?_
          refine x_iload_n (pc := 354) rfl d308_354 ?_
          refine x_iload_n (pc := 355) rfl d308_355 ?_
          refine x_qVs (pc := 356) c308_203 (qc (isF_t (by omega) (by omega)) (isT_t (by omega) (by omega)) (cm107 hl (by decide) hI hS ⟨by omega, by omega⟩ ⟨by omega, by omega⟩)) (ko0 (by omega)) rfl rfl (Nat.le_of_ble_eq_true rfl) (by decide +kernel) (by decide +kernel) d308_356 (fun I hI => ?_)
          refine x_iload (pc := 359) rfl d308_359 ?_
          refine x_icmp_ne (pc := 361) (tgt := 379) ⟨by omega, by omega⟩ ⟨by omega, by omega⟩ d308_361 (by decide) (fun g361 => ?_) (fun g361 => ?_)
          · refine x_iconst (pc := 379) d308_379 ?_
            refine x_zret (pc := 380) rfl (Or.inl rfl) (fun z => Bool.noConfusion z) d308_380 ?_
            exact absurd rfl g361
          · refine x_iload (pc := 364) rfl d308_364 ?_
            refine x_if_gt (pc := 366) (tgt := 375) ⟨by omega, by omega⟩ d308_366 (by decide) (fun g366 => ?_) (fun g366 => ?_)
            · refine x_iconst (pc := 375) d308_375 ?_
              refine x_goto (pc := 376) (tgt := 380) d308_376 (by decide) ?_
              refine x_zret (pc := 380) rfl (Or.inr rfl) (fun z => Bool.noConfusion z) d308_380 ?_
              exact ⟨I, rfl, hI⟩
            · refine x_iload (pc := 369) rfl d308_369 ?_
              refine x_iconst (pc := 371) d308_371 ?_
              refine x_icmp_eq (pc := 372) (tgt := 379) ⟨by omega, by omega⟩ ⟨by omega, by omega⟩ d308_372 (by decide) (fun _ => ?_) (fun z => absurd z (by decide))
              refine x_iconst (pc := 379) d308_379 ?_
              refine x_zret (pc := 380) rfl (Or.inl rfl) (fun z => Bool.noConfusion z) d308_380 ?_
              exact absurd (hw0 g366).1 g286
  · refine x_iload (pc := 289) rfl d308_289 ?_
    refine x_bipush (pc := 291) (by decide) d308_291 ?_
    refine x_irem (pc := 293) (by omega) (by omega) (by omega) (by omega) d308_293 ?_
    refine x_aload_n (pc := 294) rfl d308_294 ?_
    refine x_iload_n (pc := 295) rfl d308_295 ?_
    refine x_qVs (pc := 296) c308_154 (qb (isF_t (by omega) (by omega)) (cm95 hl (by decide) hI hS ⟨by omega, by omega⟩)) (ko0 (by omega)) rfl rfl (Nat.le_of_ble_eq_true rfl) (by decide +kernel) (by decide +kernel) d308_296 (fun I hI => ?_)
    refine x_iconst (pc := 299) d308_299 ?_
    refine x_isub (pc := 300) d308_300 ?_
    refine x_icmp_eq (pc := 301) (tgt := 308) ⟨by omega, by omega⟩ ⟨by omega, by omega⟩ d308_301 (by decide) (fun g301 => ?_) (fun g301 => ?_)
    · refine x_iload (pc := 308) rfl d308_308 ?_
      refine x_ifB_eq (pc := 310) (tgt := 317) d308_310 (by decide) (fun g310 => ?_) (fun g310 => ?_)
      · refine x_iconst (pc := 317) d308_317 ?_
        refine x_istore (pc := 318) (by decide +kernel) rfl d308_318 ?_
        dsimp only [List.set]
        refine x_aload_n (pc := 320) rfl d308_320 ?_
        refine x_iload_n (pc := 321) rfl d308_321 ?_
        refine x_iload_n (pc := 322) rfl d308_322 ?_
        refine x_qVs (pc := 323) c308_194 (qc (isF_t (by omega) (by omega)) (isT_t (by omega) (by omega)) (cm109 hl (by decide) hI hS ⟨by omega, by omega⟩ ⟨by omega, by omega⟩)) (ko0 (by omega)) rfl rfl (Nat.le_of_ble_eq_true rfl) (by decide +kernel) (by decide +kernel) d308_323 (fun I hI => ?_)
        refine x_iload (pc := 326) rfl d308_326 ?_
        refine x_icmp_ne (pc := 328) (tgt := 379) ⟨by omega, by omega⟩ ⟨by omega, by omega⟩ d308_328 (by decide) (fun g328 => ?_) (fun g328 => ?_)
        · refine x_iconst (pc := 379) d308_379 ?_
          refine x_zret (pc := 380) rfl (Or.inl rfl) (fun z => Bool.noConfusion z) d308_380 ?_
          exact absurd (hre.trans ((if_pos ⟨g286, g301⟩).trans (if_pos (nbf g310)))) g328
        · refine x_aload_n (pc := 331) rfl d308_331 ?_
          refine x_iload_n (pc := 332) rfl d308_332 ?_
          refine x_iload_n (pc := 333) rfl d308_333 ?_
          refine x_qVs (pc := 334) c308_197 (qc (isF_t (by omega) (by omega)) (isT_t (by omega) (by omega)) (cm106 hl (by decide) hI hS ⟨by omega, by omega⟩ ⟨by omega, by omega⟩)) (ko0 (by omega)) rfl rfl (Nat.le_of_ble_eq_true rfl) (by decide +kernel) (by decide +kernel) d308_334 (fun I hI => ?_)
          refine x_iload (pc := 337) rfl d308_337 ?_
          refine x_icmp_ne (pc := 339) (tgt := 379) ⟨by omega, by omega⟩ ⟨by omega, by omega⟩ d308_339 (by decide) (fun g339 => ?_) (fun g339 => ?_)
          · refine x_iconst (pc := 379) d308_379 ?_
            refine x_zret (pc := 380) rfl (Or.inl rfl) (fun z => Bool.noConfusion z) d308_380 ?_
            exact absurd rfl g339
          · refine x_aload_n (pc := 342) rfl d308_342 ?_
            refine x_iload_n (pc := 343) rfl d308_343 ?_
            refine x_iload_n (pc := 344) rfl d308_344 ?_
            refine x_qVs (pc := 345) c308_200 (qc (isF_t (by omega) (by omega)) (isT_t (by omega) (by omega)) (cm108 hl (by decide) hI hS ⟨by omega, by omega⟩ ⟨by omega, by omega⟩)) (ko0 (by omega)) rfl rfl (Nat.le_of_ble_eq_true rfl) (by decide +kernel) (by decide +kernel) d308_345 (fun I hI => ?_)
            refine x_iload (pc := 348) rfl d308_348 ?_
            refine x_icmp_ne (pc := 350) (tgt := 379) ⟨by omega, by omega⟩ ⟨by omega, by omega⟩ d308_350 (by decide) (fun g350 => ?_) (fun g350 => ?_)
            · refine x_iconst (pc := 379) d308_379 ?_
              refine x_zret (pc := 380) rfl (Or.inl rfl) (fun z => Bool.noConfusion z) d308_380 ?_
              exact absurd rfl g350
            · refine x_aload_n (pc := 353) rfl d308_353 ?_
              refine x_iload_n (pc := 354) rfl d308_354 ?_
              refine x_iload_n (pc := 355) rfl d308_355 ?_
              refine x_qVs (pc := 356) c308_203 (qc (isF_t (by omega) (by omega)) (isT_t (by omega) (by omega)) (cm107 hl (by decide) hI hS ⟨by omega, by omega⟩ ⟨by omega, by omega⟩)) (ko0 (by omega)) rfl rfl (Nat.le_of_ble_eq_true rfl) (by decide +kernel) (by decide +kernel) d308_356 (fun I hI => ?_)
              refine x_iload (pc := 359) rfl d308_359 ?_
              refine x_icmp_ne (pc := 361) (tgt := 379) ⟨by omega, by omega⟩ ⟨by omega, by omega⟩ d308_361 (by decide) (fun g361 => ?_) (fun g361 => ?_)
              · refine x_iconst (pc := 379) d308_379 ?_
                refine x_zret (pc := 380) rfl (Or.inl rfl) (fun z => Bool.noConfusion z) d308_380 ?_
                exact absurd rfl g361
              · refine x_iload (pc := 364) rfl d308_364 ?_
                refine x_if_gt (pc := 366) (tgt := 375) ⟨by omega, by omega⟩ d308_366 (by decide) (fun g366 => ?_) (fun g366 => ?_)
                · refine x_iconst (pc := 375) d308_375 ?_
                  refine x_goto (pc := 376) (tgt := 380) d308_376 (by decide) ?_
                  refine x_zret (pc := 380) rfl (Or.inr rfl) (fun z => Bool.noConfusion z) d308_380 ?_
                  exact ⟨I, rfl, hI⟩
                · refine x_iload (pc := 369) rfl d308_369 ?_
                  refine x_iconst (pc := 371) d308_371 ?_
                  refine x_icmp_eq (pc := 372) (tgt := 379) ⟨by omega, by omega⟩ ⟨by omega, by omega⟩ d308_372 (by decide) (fun z => absurd z (by decide)) (fun _ => ?_)
                  refine x_iconst (pc := 375) d308_375 ?_
                  refine x_goto (pc := 376) (tgt := 380) d308_376 (by decide) ?_
                  refine x_zret (pc := 380) rfl (Or.inr rfl) (fun z => Bool.noConfusion z) d308_380 ?_
                  exact ⟨I, rfl, hI⟩
      · refine x_iconst (pc := 313) d308_313 ?_
        refine x_goto (pc := 314) (tgt := 318) d308_314 (by decide) ?_
        refine x_istore (pc := 318) (by decide +kernel) rfl d308_318 ?_
        dsimp only [List.set]
        refine x_aload_n (pc := 320) rfl d308_320 ?_
        refine x_iload_n (pc := 321) rfl d308_321 ?_
        refine x_iload_n (pc := 322) rfl d308_322 ?_
        refine x_qVs (pc := 323) c308_194 (qc (isF_t (by omega) (by omega)) (isT_t (by omega) (by omega)) (cm109 hl (by decide) hI hS ⟨by omega, by omega⟩ ⟨by omega, by omega⟩)) (ko0 (by omega)) rfl rfl (Nat.le_of_ble_eq_true rfl) (by decide +kernel) (by decide +kernel) d308_323 (fun I hI => ?_)
        refine x_iload (pc := 326) rfl d308_326 ?_
        refine x_icmp_ne (pc := 328) (tgt := 379) ⟨by omega, by omega⟩ ⟨by omega, by omega⟩ d308_328 (by decide) (fun g328 => ?_) (fun g328 => ?_)
        · refine x_iconst (pc := 379) d308_379 ?_
          refine x_zret (pc := 380) rfl (Or.inl rfl) (fun z => Bool.noConfusion z) d308_380 ?_
          exact absurd (hre.trans ((if_pos ⟨g286, g301⟩).trans (if_neg (by rw [nbt g310]; decide)))) g328
        · refine x_aload_n (pc := 331) rfl d308_331 ?_
          refine x_iload_n (pc := 332) rfl d308_332 ?_
          refine x_iload_n (pc := 333) rfl d308_333 ?_
          refine x_qVs (pc := 334) c308_197 (qc (isF_t (by omega) (by omega)) (isT_t (by omega) (by omega)) (cm106 hl (by decide) hI hS ⟨by omega, by omega⟩ ⟨by omega, by omega⟩)) (ko0 (by omega)) rfl rfl (Nat.le_of_ble_eq_true rfl) (by decide +kernel) (by decide +kernel) d308_334 (fun I hI => ?_)
          refine x_iload (pc := 337) rfl d308_337 ?_
          refine x_icmp_ne (pc := 339) (tgt := 379) ⟨by omega, by omega⟩ ⟨by omega, by omega⟩ d308_339 (by decide) (fun g339 => ?_) (fun g339 => ?_)
          · refine x_iconst (pc := 379) d308_379 ?_
            refine x_zret (pc := 380) rfl (Or.inl rfl) (fun z => Bool.noConfusion z) d308_380 ?_
            exact absurd rfl g339
          · refine x_aload_n (pc := 342) rfl d308_342 ?_
            refine x_iload_n (pc := 343) rfl d308_343 ?_
            refine x_iload_n (pc := 344) rfl d308_344 ?_
            refine x_qVs (pc := 345) c308_200 (qc (isF_t (by omega) (by omega)) (isT_t (by omega) (by omega)) (cm108 hl (by decide) hI hS ⟨by omega, by omega⟩ ⟨by omega, by omega⟩)) (ko0 (by omega)) rfl rfl (Nat.le_of_ble_eq_true rfl) (by decide +kernel) (by decide +kernel) d308_345 (fun I hI => ?_)
            refine x_iload (pc := 348) rfl d308_348 ?_
            refine x_icmp_ne (pc := 350) (tgt := 379) ⟨by omega, by omega⟩ ⟨by omega, by omega⟩ d308_350 (by decide) (fun g350 => ?_) (fun g350 => ?_)
            · refine x_iconst (pc := 379) d308_379 ?_
              refine x_zret (pc := 380) rfl (Or.inl rfl) (fun z => Bool.noConfusion z) d308_380 ?_
              exact absurd rfl g350
            · refine x_aload_n (pc := 353) rfl d308_353 ?_
              refine x_iload_n (pc := 354) rfl d308_354 ?_
              refine x_iload_n (pc := 355) rfl d308_355 ?_
              refine x_qVs (pc := 356) c308_203 (qc (isF_t (by omega) (by omega)) (isT_t (by omega) (by omega)) (cm107 hl (by decide) hI hS ⟨by omega, by omega⟩ ⟨by omega, by omega⟩)) (ko0 (by omega)) rfl rfl (Nat.le_of_ble_eq_true rfl) (by decide +kernel) (by decide +kernel) d308_356 (fun I hI => ?_)
              refine x_iload (pc := 359) rfl d308_359 ?_
              refine x_icmp_ne (pc := 361) (tgt := 379) ⟨by omega, by omega⟩ ⟨by omega, by omega⟩ d308_361 (by decide) (fun g361 => ?_) (fun g361 => ?_)
              · refine x_iconst (pc := 379) d308_379 ?_
                refine x_zret (pc := 380) rfl (Or.inl rfl) (fun z => Bool.noConfusion z) d308_380 ?_
                exact absurd rfl g361
              · refine x_iload (pc := 364) rfl d308_364 ?_
                refine x_if_gt (pc := 366) (tgt := 375) ⟨by omega, by omega⟩ d308_366 (by decide) (fun g366 => ?_) (fun g366 => ?_)
                · refine x_iconst (pc := 375) d308_375 ?_
                  refine x_goto (pc := 376) (tgt := 380) d308_376 (by decide) ?_
                  refine x_zret (pc := 380) rfl (Or.inr rfl) (fun z => Bool.noConfusion z) d308_380 ?_
                  exact ⟨I, rfl, hI⟩
                · refine x_iload (pc := 369) rfl d308_369 ?_
                  refine x_iconst (pc := 371) d308_371 ?_
                  refine x_icmp_eq (pc := 372) (tgt := 379) ⟨by omega, by omega⟩ ⟨by omega, by omega⟩ d308_372 (by decide) (fun z => absurd z (by decide)) (fun _ => ?_)
                  refine x_iconst (pc := 375) d308_375 ?_
                  refine x_goto (pc := 376) (tgt := 380) d308_376 (by decide) ?_
                  refine x_zret (pc := 380) rfl (Or.inr rfl) (fun z => Bool.noConfusion z) d308_380 ?_
                  exact ⟨I, rfl, hI⟩
    · refine x_iconst (pc := 304) d308_304 ?_
      refine x_goto (pc := 305) (tgt := 318) d308_305 (by decide) ?_
      refine x_istore (pc := 318) (by decide +kernel) rfl d308_318 ?_
      dsimp only [List.set]
      refine x_aload_n (pc := 320) rfl d308_320 ?_
      refine x_iload_n (pc := 321) rfl d308_321 ?_
      refine x_iload_n (pc := 322) rfl d308_322 ?_
      refine x_qVs (pc := 323) c308_194 (qc (isF_t (by omega) (by omega)) (isT_t (by omega) (by omega)) (cm109 hl (by decide) hI hS ⟨by omega, by omega⟩ ⟨by omega, by omega⟩)) (ko0 (by omega)) rfl rfl (Nat.le_of_ble_eq_true rfl) (by decide +kernel) (by decide +kernel) d308_323 (fun I hI => ?_)
      refine x_iload (pc := 326) rfl d308_326 ?_
      refine x_icmp_ne (pc := 328) (tgt := 379) ⟨by omega, by omega⟩ ⟨by omega, by omega⟩ d308_328 (by decide) (fun g328 => ?_) (fun g328 => ?_)
      · refine x_iconst (pc := 379) d308_379 ?_
        refine x_zret (pc := 380) rfl (Or.inl rfl) (fun z => Bool.noConfusion z) d308_380 ?_
        exact absurd (hre.trans (if_neg (fun h => g301 h.2))) g328
      · refine x_aload_n (pc := 331) rfl d308_331 ?_
        refine x_iload_n (pc := 332) rfl d308_332 ?_
        refine x_iload_n (pc := 333) rfl d308_333 ?_
        refine x_qVs (pc := 334) c308_197 (qc (isF_t (by omega) (by omega)) (isT_t (by omega) (by omega)) (cm106 hl (by decide) hI hS ⟨by omega, by omega⟩ ⟨by omega, by omega⟩)) (ko0 (by omega)) rfl rfl (Nat.le_of_ble_eq_true rfl) (by decide +kernel) (by decide +kernel) d308_334 (fun I hI => ?_)
        refine x_iload (pc := 337) rfl d308_337 ?_
        refine x_icmp_ne (pc := 339) (tgt := 379) ⟨by omega, by omega⟩ ⟨by omega, by omega⟩ d308_339 (by decide) (fun g339 => ?_) (fun g339 => ?_)
        · refine x_iconst (pc := 379) d308_379 ?_
          refine x_zret (pc := 380) rfl (Or.inl rfl) (fun z => Bool.noConfusion z) d308_380 ?_
          exact absurd rfl g339
        · refine x_aload_n (pc := 342) rfl d308_342 ?_
          refine x_iload_n (pc := 343) rfl d308_343 ?_
          refine x_iload_n (pc := 344) rfl d308_344 ?_
          refine x_qVs (pc := 345) c308_200 (qc (isF_t (by omega) (by omega)) (isT_t (by omega) (by omega)) (cm108 hl (by decide) hI hS ⟨by omega, by omega⟩ ⟨by omega, by omega⟩)) (ko0 (by omega)) rfl rfl (Nat.le_of_ble_eq_true rfl) (by decide +kernel) (by decide +kernel) d308_345 (fun I hI => ?_)
          refine x_iload (pc := 348) rfl d308_348 ?_
          refine x_icmp_ne (pc := 350) (tgt := 379) ⟨by omega, by omega⟩ ⟨by omega, by omega⟩ d308_350 (by decide) (fun g350 => ?_) (fun g350 => ?_)
          · refine x_iconst (pc := 379) d308_379 ?_
            refine x_zret (pc := 380) rfl (Or.inl rfl) (fun z => Bool.noConfusion z) d308_380 ?_
            exact absurd rfl g350
          · refine x_aload_n (pc := 353) rfl d308_353 ?_
            refine x_iload_n (pc := 354) rfl d308_354 ?_
            refine x_iload_n (pc := 355) rfl d308_355 ?_
            refine x_qVs (pc := 356) c308_203 (qc (isF_t (by omega) (by omega)) (isT_t (by omega) (by omega)) (cm107 hl (by decide) hI hS ⟨by omega, by omega⟩ ⟨by omega, by omega⟩)) (ko0 (by omega)) rfl rfl (Nat.le_of_ble_eq_true rfl) (by decide +kernel) (by decide +kernel) d308_356 (fun I hI => ?_)
            refine x_iload (pc := 359) rfl d308_359 ?_
            refine x_icmp_ne (pc := 361) (tgt := 379) ⟨by omega, by omega⟩ ⟨by omega, by omega⟩ d308_361 (by decide) (fun g361 => ?_) (fun g361 => ?_)
            · refine x_iconst (pc := 379) d308_379 ?_
              refine x_zret (pc := 380) rfl (Or.inl rfl) (fun z => Bool.noConfusion z) d308_380 ?_
              exact absurd rfl g361
            · refine x_iload (pc := 364) rfl d308_364 ?_
              refine x_if_gt (pc := 366) (tgt := 375) ⟨by omega, by omega⟩ d308_366 (by decide) (fun g366 => ?_) (fun g366 => ?_)
              · refine x_iconst (pc := 375) d308_375 ?_
                refine x_goto (pc := 376) (tgt := 380) d308_376 (by decide) ?_
                refine x_zret (pc := 380) rfl (Or.inr rfl) (fun z => Bool.noConfusion z) d308_380 ?_
                exact ⟨I, rfl, hI⟩
              · refine x_iload (pc := 369) rfl d308_369 ?_
                refine x_iconst (pc := 371) d308_371 ?_
                refine x_icmp_eq (pc := 372) (tgt := 379) ⟨by omega, by omega⟩ ⟨by omega, by omega⟩ d308_372 (by decide) (fun _ => ?_) (fun z => absurd z (by decide))
                refine x_iconst (pc := 379) d308_379 ?_
                refine x_zret (pc := 380) rfl (Or.inl rfl) (fun z => Bool.noConfusion z) d308_380 ?_
                exact absurd (hw0 g366).2 g301
theorem ct_isr (hl : l.1.stackTraces = false) (hS : GOK S) (hP : PI (gA S)) {I : Nat → Int → Int} (hI : CREL I S) {k t : Int} (k0 : 0 ≤ k) (k1 : k < gA S 0 6) (t0 : 0 ≤ t) (t1 : t ≤ 900000) : CT l 308 [.ref 0, .int (iI k), .int (iI t)] (mm 181 I v false) 410 (6 * 410) (oE 181 v false (some (.int (iI 1))) (fun K => CREL K S)) := by
  have h48 := fr48 hS
  have hF := frm hS k0 k1
  have hbt : 0 ≤ gA S 0 0 ∧ gA S 0 0 ≤ 5 := ⟨by have := hS.1.rg.1; omega, hP.1.1.1⟩
  refine mkct2 hl (by decide) (Nat.le_of_ble_eq_true rfl) (L := [some (.ref 0), some (.int (iI k)), some (.int (iI t)), none, none, none, none, none, none, none, none, none, none, none, none]) rfl ?_
  refine x_bipush (pc := 0) (by decide) d308_0 ?_
  refine x_aload_n (pc := 2) rfl d308_2 ?_
  refine x_iload_n (pc := 3) rfl d308_3 ?_
  refine x_qVs (pc := 4) c308_154 (qb (isF_t (by omega) (by omega)) (cm95 hl (by decide) hI hS ⟨by omega, by omega⟩)) (ko0 (by omega)) rfl rfl (Nat.le_of_ble_eq_true rfl) (by decide +kernel) (by decide +kernel) d308_4 (fun I hI => ?_)
  refine x_imul (pc := 7) d308_7 ?_
  refine x_istore_n (pc := 8) (by decide +kernel) rfl d308_8 ?_
  dsimp only [List.set]
  refine x_iconst (pc := 9) d308_9 ?_
  refine x_istore (pc := 10) (by decide +kernel) rfl d308_10 ?_
  dsimp only [List.set]
  refine x_iconst (pc := 12) d308_12 ?_
  refine x_istore (pc := 13) (by decide +kernel) rfl d308_13 ?_
  dsimp only [List.set]
  refine x_iconst (pc := 15) d308_15 ?_
  refine x_istore (pc := 16) (by decide +kernel) rfl d308_16 ?_
  dsimp only [List.set]
  refine x_iconst (pc := 18) d308_18 ?_
  refine x_istore (pc := 19) (by decide +kernel) rfl d308_19 ?_
  dsimp only [List.set]
  refine x_iconst (pc := 21) d308_21 ?_
  refine x_istore (pc := 22) (by decide +kernel) rfl d308_22 ?_
  dsimp only [List.set]
  refine x_iconst (pc := 24) d308_24 ?_
  refine x_istore (pc := 25) (by decide +kernel) rfl d308_25 ?_
  dsimp only [List.set]
  refine x_iconst (pc := 27) d308_27 ?_
  refine x_istore (pc := 28) (by decide +kernel) rfl d308_28 ?_
  dsimp only [List.set]
  refine x_iconst (pc := 30) d308_30 ?_
  refine x_istore (pc := 31) (by decide +kernel) rfl d308_31 ?_
  dsimp only [List.set]
  refine ex_le (B' := 5 + 2 * 8 + 8 * (8 * gA S 6 k).toNat) (by omega) rfl ?_
  refine lp_isr hl hS k0 k1 t0 t1 hbt (8 * gA S 6 k).toNat 0 I (by omega) hI (fun I hI => ?_)
  refine x_iconst (pc := 235) d308_235 ?_
  refine x_istore (pc := 236) (by decide +kernel) rfl d308_236 ?_
  dsimp only [List.set]
  refine x_iconst (pc := 238) d308_238 ?_
  refine x_istore (pc := 239) (by decide +kernel) rfl d308_239 ?_
  dsimp only [List.set]
  exact lp_ak hl hS k0 k1 t0 t1 hbt (by omega) (by omega) 8 0 I (by decide) hI (fun I hI => isr_end hl hS hP hI k0 k1 t0 t1)
end Isr
