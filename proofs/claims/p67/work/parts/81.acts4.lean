/-! ===== the law's acts: a text is sent ===== -/
/-- the letters of a text -/
def lttr (y z : Int) (k : Int) : Int := 97 + (y + k * z) % 26
def ltB (y z m : Int) : Int → Int := fun k => if 0 ≤ k ∧ k < m then lttr y z k else 0
theorem lttr_r {y z k : Int} : 97 ≤ lttr y z k ∧ lttr y z k ≤ 122 := by unfold lttr; omega
theorem r0_rf {I : Nat → Int → Int} {v : Int} : ∀ i, i < 181 → RF 181 (mm 181 I v false) i := fun i hi j r h => Or.inl (r0_n hi h)
theorem pin_ac {v : Int} {P : (Nat → Int → Int) → Prop} : ∀ o, oE 181 v false (some (.int (iI 1))) P o → PIN 181 o := pin_oE (fun x r h e => by cases Option.some.inj h; cases e)
section Acts4
variable {l : LX} {v x y z : Int} {S : GS} {Q : OO → Prop}
theorem lp_lt (hl : l.1.stackTraces = false) {B : Nat} {I : Nat → Int → Int} {mn : Int} (hQ : ∀ o, Q o → PIN 181 o) (x0 : 0 ≤ x) (x1 : x ≤ 99999) (y0 : 0 ≤ y) (y1 : y ≤ 99999) (z0 : 0 ≤ z) (z1 : z ≤ 99999) : ∀ (m k : Nat) (τ : MM) (T : Int → Int), ((m + k : Nat) : Int) = 1 + x % 10 → BS τ 16 k T → τ.2.2.2.1 < 800 + k → (∀ j : Int, 0 ≤ j → j < k → T j = lttr y z j) →
    (∀ (τ : MM) (T : Int → Int), BS τ 16 (1 + x % 10) T → τ.2.2.2.1 < 850 → (∀ j : Int, 0 ≤ j → j < 1 + x % 10 → T j = lttr y z j) → Ex l 311 B (6 * B) 121 [some (.ref 0), none, some (.int (iI x)), some (.int (iI y)), some (.int (iI z)), some (.int (iI mn)), none, some (.ref 181), none, none] [] (sh 181 (mm 181 I v false) τ) Q) →
    Ex l 311 B (6 * B) 84 [some (.ref 0), none, some (.int (iI x)), some (.int (iI y)), some (.int (iI z)), some (.int (iI mn)), none, some (.ref 181), some (.int (iI k)), none] [] (sh 181 (mm 181 I v false) τ) Q := by
  intro m
  induction m with
  | zero =>
    intro k τ T hm hB hn hT hk
    have e : (k : Int) = 1 + x % 10 := by omega
    refine x_iload (pc := 84) rfl d311_84 ?_
    refine x_iconst (pc := 86) d311_86 ?_
    refine x_iload_n (pc := 87) rfl d311_87 ?_
    refine x_bipush (pc := 88) (by decide) d311_88 ?_
    refine x_irem (pc := 90) (by omega) (by omega) (by omega) (by omega) d311_90 ?_
    refine x_iadd (pc := 91) d311_91 ?_
    refine x_icmp_ge (pc := 92) (tgt := 121) ⟨by omega, by omega⟩ ⟨by omega, by omega⟩ d311_92 (by decide) (fun _ => ?_) (fun _ => by exfalso; omega)
    refine x_mask [true, true, true, true, true, true, true, true, false, true] ?_
    dsimp only [mask]
    rw [e] at hB hT
    exact hk τ T hB (by omega) hT
  | succ m ih =>
    intro k τ T hm hB hn hT hk
    have hkz : 0 ≤ (k : Int) * z ∧ (k : Int) * z ≤ 9 * 99999 := ⟨Int.mul_nonneg (by omega) z0, Int.mul_le_mul (by omega) z1 z0 (by decide)⟩
    have eK : grK 16 ((k : Int) + 1) = 0 := if_neg (by omega)
    have eN : grN 16 ((k : Int) + 1) = 0 := if_neg (by omega)
    have eG : grow 16 ((k : Int) + 1) = 16 := if_neg (by omega)
    refine x_iload (pc := 84) rfl d311_84 ?_
    refine x_iconst (pc := 86) d311_86 ?_
    refine x_iload_n (pc := 87) rfl d311_87 ?_
    refine x_bipush (pc := 88) (by decide) d311_88 ?_
    refine x_irem (pc := 90) (by omega) (by omega) (by omega) (by omega) d311_90 ?_
    refine x_iadd (pc := 91) d311_91 ?_
    refine x_icmp_ge (pc := 92) (tgt := 121) ⟨by omega, by omega⟩ ⟨by omega, by omega⟩ d311_92 (by decide) (fun _ => by exfalso; omega) (fun _ => ?_)
    · refine (show _ from ?_)
      refine x_aload (pc := 95) rfl d311_95 ?_
      refine x_bipush (pc := 97) (by decide) d311_97 ?_
      refine x_iload_n (pc := 99) rfl d311_99 ?_
      refine x_iload (pc := 100) rfl d311_100 ?_
      refine x_iload (pc := 102) rfl d311_102 ?_
      refine x_imul (pc := 104) d311_104 ?_
      refine x_iadd (pc := 105) d311_105 ?_
      refine x_bipush (pc := 106) (by decide) d311_106 ?_
      refine x_irem (pc := 108) (by omega) (by omega) (by omega) (by omega) d311_108 ?_
      refine x_iadd (pc := 109) d311_109 ?_
      refine x_i2c (pc := 110) (by omega) (by omega) d311_110 ?_
      refine x_less (k2 := grK 16 ((k : Int) + 1) + B) (n2 := grN 16 ((k : Int) + 1) + 6 * B) (by omega) (by omega) rfl ?_
      refine x_bC (b := 181) (n0 := 181) (rest := []) (pc := 111) hl c311_247 hB (by omega) (by decide) (by omega) (by decide) r0_rf (Nat.le_of_ble_eq_true rfl) rfl rfl hQ (by decide) (by decide +kernel) (by decide +kernel) d311_111 (fun τ1 hB1 hn1 => ?_)
      refine x_pop (pc := 114) rfl d311_114 ?_
      refine x_iinc (pc := 115) rfl (by decide +kernel) rfl d311_115 ?_
      dsimp only [List.set]
      refine x_goto (pc := 118) (tgt := 84) d311_118 (by decide) ?_
      rw [eG] at hB1
      refine ih (k + 1) τ1 _ (by omega) (by rw [show (((k + 1 : Nat)) : Int) = (k : Int) + 1 from by omega]; exact hB1) (by omega) (fun j j0 j1 => ?_) hk
      show (if j = (k : Int) then 97 + (y + (k : Int) * z) % 26 else T j) = _
      by_cases d : j = k
      · rw [if_pos d, d]
        rfl
      · rw [if_neg d]
        exact hT j j0 (by omega)
theorem a1_ok (hl : l.1.stackTraces = false) (hS : GOK S) (x0 : 0 ≤ x) (x1 : x ≤ 99999) {P : (Nat → Int → Int) → Prop} (hP : ∀ K, CREL K S → P K) {I : Nat → Int → Int} (hI : CREL I S) {is many : Int} (hm : 0 ≤ many ∧ many < 12) (h1 : is = many) (h2 : many < gA S 0 5) (h3 : gA S 4 many = 1 + x % 10) (h4 : stA (gA S) many = 0) : Ex l 311 12 (6 * 12) 138 [some (.ref 0), none, some (.int (iI x)), none, none, some (.int (iI many)), none, none, none, none] [.int (iI is)] (mm 181 I v false) (oE 181 v false (some (.int (iI 1))) P) := by
  have h48 := fr48 hS
  obtain ⟨r1, r2, r3, r4, r5, r6, r7, r8, r9, r10⟩ := hS.1.rg
  have hcb := cB_v
  refine x_istore (pc := 138) (by decide +kernel) rfl d311_138 ?_
  dsimp only [List.set]
  refine x_iload (pc := 140) rfl d311_140 ?_
  refine x_bipush (pc := 142) (by decide) d311_142 ?_
  refine x_icmp_ne (pc := 144) (tgt := 169) ⟨by omega, by omega⟩ ⟨by omega, by omega⟩ d311_144 (by decide) (fun g144 => ?_) (fun g144 => ?_)
  · refine x_iload (pc := 169) rfl d311_169 ?_
    refine x_iload (pc := 171) rfl d311_171 ?_
    refine x_icmp_ne (pc := 173) (tgt := 204) ⟨by omega, by omega⟩ ⟨by omega, by omega⟩ d311_173 (by decide) (fun g173 => ?_) (fun g173 => ?_)
    · refine x_iconst (pc := 204) d311_204 ?_
      refine x_zret (pc := 205) rfl (Or.inl rfl) (fun z => Bool.noConfusion z) d311_205 ?_
      first | exact ⟨I, rfl, hP I hI⟩ | (exfalso; omega)
    · refine x_aload_n (pc := 176) rfl d311_176 ?_
      refine x_iload (pc := 177) rfl d311_177 ?_
      refine x_qVs (pc := 179) c311_139 (qb (isM_t (by omega) (by omega)) (cm91 hl (by decide) hI hS ⟨by omega, by omega⟩)) (ko0 (by omega)) rfl rfl (Nat.le_of_ble_eq_true rfl) (by decide +kernel) (by decide +kernel) d311_179 (fun I hI => ?_)
      refine x_iconst (pc := 182) d311_182 ?_
      refine x_iload_n (pc := 183) rfl d311_183 ?_
      refine x_bipush (pc := 184) (by decide) d311_184 ?_
      refine x_irem (pc := 186) (by omega) (by omega) (by omega) (by omega) d311_186 ?_
      refine x_iadd (pc := 187) d311_187 ?_
      refine x_icmp_ne (pc := 188) (tgt := 204) ⟨by omega, by omega⟩ ⟨by omega, by omega⟩ d311_188 (by decide) (fun g188 => ?_) (fun g188 => ?_)
      · refine x_iconst (pc := 204) d311_204 ?_
        refine x_zret (pc := 205) rfl (Or.inl rfl) (fun z => Bool.noConfusion z) d311_205 ?_
        first | exact ⟨I, rfl, hP I hI⟩ | (exfalso; omega)
      · refine x_aload_n (pc := 191) rfl d311_191 ?_
        refine x_iload (pc := 192) rfl d311_192 ?_
        refine x_qVs (pc := 194) c311_142 (qb (isM_t (by omega) (by omega)) (cm92 hl (by decide) hI hS ⟨by omega, by omega⟩)) (ko0 (by omega)) rfl rfl (Nat.le_of_ble_eq_true rfl) (by decide +kernel) (by decide +kernel) d311_194 (fun I hI => ?_)
        refine x_if_ne (pc := 197) (tgt := 204) ⟨by omega, by omega⟩ d311_197 (by decide) (fun g197 => ?_) (fun g197 => ?_)
        · refine x_iconst (pc := 204) d311_204 ?_
          refine x_zret (pc := 205) rfl (Or.inl rfl) (fun z => Bool.noConfusion z) d311_205 ?_
          first | exact ⟨I, rfl, hP I hI⟩ | (exfalso; omega)
        · refine x_iconst (pc := 200) d311_200 ?_
          refine x_goto (pc := 201) (tgt := 205) d311_201 (by decide) ?_
          refine x_zret (pc := 205) rfl (Or.inr rfl) (fun z => Bool.noConfusion z) d311_205 ?_
          first | exact ⟨I, rfl, hP I hI⟩ | (exfalso; omega)
  · refine x_iload (pc := 147) rfl d311_147 ?_
    refine x_sipush (pc := 149) (by decide) d311_149 ?_
    refine x_icmp_ne (pc := 152) (tgt := 167) ⟨by omega, by omega⟩ ⟨by omega, by omega⟩ d311_152 (by decide) (fun g152 => ?_) (fun g152 => ?_)
    · refine x_iconst (pc := 167) d311_167 ?_
      refine x_zret (pc := 168) rfl (Or.inl rfl) (fun z => Bool.noConfusion z) d311_168 ?_
      first | exact ⟨I, rfl, hP I hI⟩ | (exfalso; omega)
    · refine x_aload_n (pc := 155) rfl d311_155 ?_
      refine x_iconst (pc := 156) d311_156 ?_
      refine x_mask [false, true, false, true, true, false, true, true, false, true] ?_
      dsimp only [mask]
      first | exact ⟨I, rfl, hP I hI⟩ | (exfalso; omega)
theorem a1_no (hl : l.1.stackTraces = false) (hS : GOK S) (x0 : 0 ≤ x) (x1 : x ≤ 99999) {P : (Nat → Int → Int) → Prop} (hP : ∀ K, CREL K (sL S (0, gT S)) → P K) {I : Nat → Int → Int} (hI : CREL I S) (hL : 0 ≤ gL S ∧ gL S ≤ 500) {is many : Int} (hm : many = 12) (h1 : is = -1003) : Ex l 311 12 (6 * 12) 138 [some (.ref 0), none, some (.int (iI x)), none, none, some (.int (iI many)), none, none, none, none] [.int (iI is)] (mm 181 I v false) (oE 181 v false (some (.int (iI 1))) P) := by
  have h48 := fr48 hS
  obtain ⟨r1, r2, r3, r4, r5, r6, r7, r8, r9, r10⟩ := hS.1.rg
  have hcb := cB_v
  have hsr := stA_r (gA S) many
  refine x_istore (pc := 138) (by decide +kernel) rfl d311_138 ?_
  dsimp only [List.set]
  refine x_iload (pc := 140) rfl d311_140 ?_
  refine x_bipush (pc := 142) (by decide) d311_142 ?_
  refine x_icmp_ne (pc := 144) (tgt := 169) ⟨by omega, by omega⟩ ⟨by omega, by omega⟩ d311_144 (by decide) (fun g144 => ?_) (fun g144 => ?_)
  · refine x_iload (pc := 169) rfl d311_169 ?_
    refine x_iload (pc := 171) rfl d311_171 ?_
    refine x_icmp_ne (pc := 173) (tgt := 204) ⟨by omega, by omega⟩ ⟨by omega, by omega⟩ d311_173 (by decide) (fun g173 => ?_) (fun g173 => ?_)
    · refine x_iconst (pc := 204) d311_204 ?_
      refine x_zret (pc := 205) rfl (Or.inl rfl) (fun z => Bool.noConfusion z) d311_205 ?_
      exfalso; omega
    · refine x_aload_n (pc := 176) rfl d311_176 ?_
      refine x_iload (pc := 177) rfl d311_177 ?_
      refine x_qVs (pc := 179) c311_139 (qb (isM_t (by omega) (by omega)) (cm91 hl (by decide) hI hS ⟨by omega, by omega⟩)) (ko0 (by omega)) rfl rfl (Nat.le_of_ble_eq_true rfl) (by decide +kernel) (by decide +kernel) d311_179 (fun I hI => ?_)
      refine x_iconst (pc := 182) d311_182 ?_
      refine x_iload_n (pc := 183) rfl d311_183 ?_
      refine x_bipush (pc := 184) (by decide) d311_184 ?_
      refine x_irem (pc := 186) (by omega) (by omega) (by omega) (by omega) d311_186 ?_
      refine x_iadd (pc := 187) d311_187 ?_
      refine x_icmp_ne (pc := 188) (tgt := 204) ⟨by omega, by omega⟩ ⟨by omega, by omega⟩ d311_188 (by decide) (fun g188 => ?_) (fun g188 => ?_)
      · refine x_iconst (pc := 204) d311_204 ?_
        refine x_zret (pc := 205) rfl (Or.inl rfl) (fun z => Bool.noConfusion z) d311_205 ?_
        exfalso; omega
      · refine x_aload_n (pc := 191) rfl d311_191 ?_
        refine x_iload (pc := 192) rfl d311_192 ?_
        refine x_qVs (pc := 194) c311_142 (qb (isM_t (by omega) (by omega)) (cm92 hl (by decide) hI hS ⟨by omega, by omega⟩)) (ko0 (by omega)) rfl rfl (Nat.le_of_ble_eq_true rfl) (by decide +kernel) (by decide +kernel) d311_194 (fun I hI => ?_)
        refine x_if_ne (pc := 197) (tgt := 204) ⟨by omega, by omega⟩ d311_197 (by decide) (fun g197 => ?_) (fun g197 => ?_)
        · refine x_iconst (pc := 204) d311_204 ?_
          refine x_zret (pc := 205) rfl (Or.inl rfl) (fun z => Bool.noConfusion z) d311_205 ?_
          exfalso; omega
        · refine x_iconst (pc := 200) d311_200 ?_
          refine x_goto (pc := 201) (tgt := 205) d311_201 (by decide) ?_
          refine x_zret (pc := 205) rfl (Or.inr rfl) (fun z => Bool.noConfusion z) d311_205 ?_
          exfalso; omega
  · refine x_iload (pc := 147) rfl d311_147 ?_
    refine x_sipush (pc := 149) (by decide) d311_149 ?_
    refine x_icmp_ne (pc := 152) (tgt := 167) ⟨by omega, by omega⟩ ⟨by omega, by omega⟩ d311_152 (by decide) (fun g152 => ?_) (fun g152 => ?_)
    · refine x_iconst (pc := 167) d311_167 ?_
      refine x_zret (pc := 168) rfl (Or.inl rfl) (fun z => Bool.noConfusion z) d311_168 ?_
      exfalso; omega
    · refine x_aload_n (pc := 155) rfl d311_155 ?_
      refine x_iconst (pc := 156) d311_156 ?_
      refine x_mask [false, true, false, true, true, false, true, true, false, true] ?_
      dsimp only [mask]
      have h77 := cm77 (q := 181) (v := v) (z := 0) hl (by decide) hI hS ⟨by omega, by omega⟩
      rw [show oTruncate S 0 = (0, 0, sL S (0, gT S)) from if_pos ⟨by decide, hL.1⟩] at h77
      refine ex_le (B' := 5 + 1) (by omega) rfl ?_
      refine x_qVs (pc := 157) (As := [.int (iI 0)]) (rest := []) c311_38 (qa h77) (ko0 (by omega)) rfl rfl (Nat.le_of_ble_eq_true rfl) (by decide +kernel) (by decide +kernel) d311_157 (fun K hK => ?_)
      refine x_if_ne (pc := 160) (tgt := 167) ⟨by omega, by omega⟩ d311_160 (by decide) (fun z => absurd rfl z) (fun _ => ?_)
      refine x_iconst (pc := 163) d311_163 ?_
      refine x_goto (pc := 164) (tgt := 168) d311_164 (by decide) ?_
      exact x_zret rfl (Or.inr rfl) (fun z => Bool.noConfusion z) d311_168 ⟨K, rfl, hP K hK⟩
end Acts4
