/-! ===== the law's attempt ===== -/
section TryR
variable {l : LX} {y k n pc B : Nat} {L : LL} {st : List Value} {Q : OO → Prop} {I : Nat → Int → Int} {v : Int}
/-- the law's does is called -/
theorem x_qW {ix t B0 : Nat} {ps : List Nat} {As rest : List Value} {w : Value} {P : (Nat → Int → Int) → Prop} (hc : ctN (owN y) ix = some (12, t, ps)) (hCT : CT l t As (mm 181 I v false) B0 (6 * B0) (oE 181 v false (some w) P)) (hst : st = As.reverse ++ rest) (hlen : As.length = naN t) (hcat : cats rest ≤ 8) (hh : htN t + 1 ≤ htN y) (hlo : 8 + (mlN t + 11) + loN t ≤ loN y) (hd : decode (cdN y) pc = .ok (.invokestatic ix, 3))
    (kk : ∀ J, P J → Ex l y B (6 * B) (pc + 3) L (w :: rest) (mm 181 J v false) Q) : Ex l y (B + B0) (6 * (B + B0)) pc L st (mm 181 I v false) Q := by
  have := x_callSW (k := B) (n := 6 * B) hc hCT hst hlen hcat hh hlo hd (Or.inr fun v' τ' e => by obtain ⟨J, e1, -⟩ := e; cases e1; rfl) (fun v' τ' e => by
    obtain ⟨J, e1, hJ⟩ := e
    cases e1
    exact kk J hJ) (fun E τ' e _ => by obtain ⟨J, e1, -⟩ := e; cases e1)
  rw [Nat.add_comm B0 B, show 6 * B0 + 6 * B = 6 * (B + B0) from by omega] at this
  exact this
end TryR
/-- what an act of the law's leaves behind -/
def AC (S : GS) (A' : AV) (K : Nat → Int → Int) : Prop := ∃ S2 : GS, CREL K S2 ∧ GOK S2 ∧ gL S2 = 0 ∧ gA S2 = A' ∧ (gA S2 = gA S ∨ (1 ≤ gN S2 ∧ gH S2 (gN S2 - 1) = gA S))
theorem keep_h (S : GS) (z : Int) (A : AV) (hS : GOK S) : 1 ≤ gN (oDo S z A).2.2 ∧ gH (oDo S z A).2.2 (gN (oDo S z A).2.2 - 1) = gA S := by
  have hn := hS.2.1.1
  show 1 ≤ (hpush S).2 ∧ (hpush S).1 ((hpush S).2 - 1) = gA S
  unfold hpush
  by_cases e : gN S = 8
  · rw [if_pos e]
    refine ⟨(show (1 : Int) ≤ 8 by decide), ?_⟩
    show (if (8 : Int) - 1 = 7 then gA S else gH S (8 - 1 + 1)) = gA S
    exact if_pos (by decide)
  · rw [if_neg e]
    refine ⟨(show 1 ≤ gN S + 1 by omega), ?_⟩
    show (if gN S + 1 - 1 = gN S then gA S else gH S (gN S + 1 - 1)) = gA S
    exact if_pos (by omega)
theorem ac_do {S : GS} {z : Int} {A : AV} {K : Nat → Int → Int} (hS : GOK S) (h2 : GOK (oDo S z A).2.2) (hL : gL S = 0) (hK : CREL K (oDo S z A).2.2) : AC S A K := ⟨_, hK, h2, hL, rfl, Or.inr (keep_h S z A hS)⟩
theorem ac_no {S : GS} {K : Nat → Int → Int} (hS : GOK S) (hL : gL S = 0) (hK : CREL K S) : AC S (gA S) K := ⟨S, hK, hS, hL, rfl, Or.inl rfl⟩
section Tries
variable {l : LX} {v : Int} {S : GS}
theorem tr_b (hl : l.1.stackTraces = false) (hS : GOK S) {P : (Nat → Int → Int) → Prop} (hP : ∀ K, CREL K S → P K) {I : Nat → Int → Int} (hI : CREL I S) {k start r before bad lost bits : Int} (k0 : 0 ≤ k) (k1 : k < gA S 0 6) (hr : 0 ≤ r ∧ r ≤ 2) (hs : 0 ≤ start ∧ start ≤ 900000) (hb : 0 ≤ before ∧ before ≤ 9) (hx : 0 ≤ bad ∧ bad ≤ 2450880) (hl2 : 0 ≤ lost ∧ lost ≤ 2450880) (hbi : 0 ≤ bits ∧ bits ≤ 2450880)
    (e8 : gA S 8 k = before + 1) (e7 : gA S 0 7 = start + (gA S 0 0) * ((8 * gA S 6 k) + 8)) (e16 : gA S 0 16 = bits + 8 * gA S 6 k) (e11 : gA S 0 11 = bad + (if r = 1 then 1 else 0)) (e14 : gA S 0 14 = lost + (if r = 2 then 1 else 0)) (es : gA S 7 k = 1 ↔ r = 0) (en : gA S 7 k = 0 → gA S 0 7 < gA S 0 8) :
    Ex l 310 6 (6 * 6) 139 [some (.ref 0), some (.int (iI k)), none, some (.int (iI r)), none, some (.int (iI bad)), some (.int (iI lost)), none] [] (mm 181 I v false) (oE 181 v false (some (.int (iI 1))) P) := by
  have hF := frm hS k0 k1
  have e11a : r = 1 → gA S 0 11 = bad + 1 := fun e => by rw [if_pos e] at e11; exact e11
  have e11b : r ≠ 1 → gA S 0 11 = bad + 0 := fun e => by rw [if_neg e] at e11; exact e11
  have e14a : r = 2 → gA S 0 14 = lost + 1 := fun e => by rw [if_pos e] at e14; exact e14
  have e14b : r ≠ 2 → gA S 0 14 = lost + 0 := fun e => by rw [if_neg e] at e14; exact e14
  have h48 := fr48 hS
  obtain ⟨r1, r2, r3, r4, r5, r6, r7, r8, r9, r10⟩ := hS.1.rg
  have hc := cB_v
  have c11 := hS.1.ct 11 (by decide) (by decide)
  have c14 := hS.1.ct 14 (by decide) (by decide)
  have c16 := hS.1.ct 16 (by decide) (by decide)
  have hm : 0 ≤ (gA S 0 0) * ((8 * gA S 6 k) + 8) ∧ (gA S 0 0) * ((8 * gA S 6 k) + 8) ≤ 9 * 56 := by
    refine ⟨Int.mul_nonneg (by omega) (by omega), Int.mul_le_mul r1.2 (by omega) (by omega) (by decide)⟩
  refine x_aload_n (pc := 139) rfl d310_139 ?_
  refine x_qVs (pc := 140) c310_113 (qa (cm118 (E := fun _ => 0) hl (by decide) hI)) (ko0 (by omega)) rfl rfl (Nat.le_of_ble_eq_true rfl) (by decide +kernel) (by decide +kernel) d310_140 (fun I hI => ?_)
  refine x_iload (pc := 143) rfl d310_143 ?_
  refine x_iload_n (pc := 145) rfl d310_145 ?_
  refine x_iconst (pc := 146) d310_146 ?_
  refine x_icmp_ne (pc := 147) (tgt := 154) ⟨by omega, by omega⟩ ⟨by omega, by omega⟩ d310_147 (by decide) (fun g147 => ?_) (fun g147 => ?_)
  · refine x_iconst (pc := 154) d310_154 ?_
    refine x_iadd (pc := 155) d310_155 ?_
    refine x_icmp_ne (pc := 156) (tgt := 228) ⟨by omega, by omega⟩ ⟨by omega, by omega⟩ d310_156 (by decide) (fun g156 => ?_) (fun g156 => ?_)
    · refine x_iconst (pc := 228) d310_228 ?_
      refine x_zret (pc := 229) rfl (Or.inl rfl) (fun z => Bool.noConfusion z) d310_229 ?_
      first | exact ⟨I, rfl, hP I hI⟩ | (exfalso; omega)
    · refine x_aload_n (pc := 159) rfl d310_159 ?_
      refine x_qVs (pc := 160) c310_123 (qa (cm120 (E := fun _ => 0) hl (by decide) hI)) (ko0 (by omega)) rfl rfl (Nat.le_of_ble_eq_true rfl) (by decide +kernel) (by decide +kernel) d310_160 (fun I hI => ?_)
      refine x_iload (pc := 163) rfl d310_163 ?_
      refine x_iload_n (pc := 165) rfl d310_165 ?_
      refine x_iconst (pc := 166) d310_166 ?_
      refine x_icmp_ne (pc := 167) (tgt := 174) ⟨by omega, by omega⟩ ⟨by omega, by omega⟩ d310_167 (by decide) (fun g167 => ?_) (fun g167 => ?_)
      · refine x_iconst (pc := 174) d310_174 ?_
        refine x_iadd (pc := 175) d310_175 ?_
        refine x_icmp_ne (pc := 176) (tgt := 228) ⟨by omega, by omega⟩ ⟨by omega, by omega⟩ d310_176 (by decide) (fun g176 => ?_) (fun g176 => ?_)
        · refine x_iconst (pc := 228) d310_228 ?_
          refine x_zret (pc := 229) rfl (Or.inl rfl) (fun z => Bool.noConfusion z) d310_229 ?_
          first | exact ⟨I, rfl, hP I hI⟩ | (exfalso; omega)
        · refine x_aload_n (pc := 179) rfl d310_179 ?_
          refine x_iload_n (pc := 180) rfl d310_180 ?_
          refine x_qVs (pc := 181) c310_148 (qb (isF_t (by omega) (by omega)) (cm98 hl (by decide) hI hS ⟨by omega, by omega⟩)) (ko0 (by omega)) rfl rfl (Nat.le_of_ble_eq_true rfl) (by decide +kernel) (by decide +kernel) d310_181 (fun I hI => ?_)
          refine x_iconst (pc := 184) d310_184 ?_
          refine x_icmp_ne (pc := 185) (tgt := 192) ⟨by omega, by omega⟩ ⟨by omega, by omega⟩ d310_185 (by decide) (fun g185 => ?_) (fun g185 => ?_)
          · refine x_iconst (pc := 192) d310_192 ?_
            refine x_iload_n (pc := 193) rfl d310_193 ?_
            refine x_if_ne (pc := 194) (tgt := 201) ⟨by omega, by omega⟩ d310_194 (by decide) (fun g194 => ?_) (fun g194 => ?_)
            · refine x_iconst (pc := 201) d310_201 ?_
              refine x_icmp_ne (pc := 202) (tgt := 228) ⟨by omega, by omega⟩ ⟨by omega, by omega⟩ d310_202 (by decide) (fun z => absurd z (by decide)) (fun _ => ?_)
              refine x_aload_n (pc := 205) rfl d310_205 ?_
              refine x_iload_n (pc := 206) rfl d310_206 ?_
              refine x_qVs (pc := 207) c310_148 (qb (isF_t (by omega) (by omega)) (cm98 hl (by decide) hI hS ⟨by omega, by omega⟩)) (ko0 (by omega)) rfl rfl (Nat.le_of_ble_eq_true rfl) (by decide +kernel) (by decide +kernel) d310_207 (fun I hI => ?_)
              refine x_if_ne (pc := 210) (tgt := 224) ⟨by omega, by omega⟩ d310_210 (by decide) (fun g210 => ?_) (fun g210 => ?_)
              · refine x_iconst (pc := 224) d310_224 ?_
                refine x_goto (pc := 225) (tgt := 229) d310_225 (by decide) ?_
                refine x_zret (pc := 229) rfl (Or.inr rfl) (fun z => Bool.noConfusion z) d310_229 ?_
                first | exact ⟨I, rfl, hP I hI⟩ | (exfalso; omega)
              · refine x_aload_n (pc := 213) rfl d310_213 ?_
                refine x_qVs (pc := 214) c310_95 (qa (cm114 (E := fun _ => 0) hl (by decide) hI)) (ko0 (by omega)) rfl rfl (Nat.le_of_ble_eq_true rfl) (by decide +kernel) (by decide +kernel) d310_214 (fun I hI => ?_)
                refine x_aload_n (pc := 217) rfl d310_217 ?_
                refine x_qVs (pc := 218) c310_92 (qa (cm82 (E := fun _ => 0) hl (by decide) hI)) (ko0 (by omega)) rfl rfl (Nat.le_of_ble_eq_true rfl) (by decide +kernel) (by decide +kernel) d310_218 (fun I hI => ?_)
                refine x_icmp_le (pc := 221) (tgt := 228) ⟨by omega, by omega⟩ ⟨by omega, by omega⟩ d310_221 (by decide) (fun g221 => ?_) (fun g221 => ?_)
                · refine x_iconst (pc := 228) d310_228 ?_
                  refine x_zret (pc := 229) rfl (Or.inl rfl) (fun z => Bool.noConfusion z) d310_229 ?_
                  first | exact ⟨I, rfl, hP I hI⟩ | (exfalso; omega)
                · refine x_iconst (pc := 224) d310_224 ?_
                  refine x_goto (pc := 225) (tgt := 229) d310_225 (by decide) ?_
                  refine x_zret (pc := 229) rfl (Or.inr rfl) (fun z => Bool.noConfusion z) d310_229 ?_
                  first | exact ⟨I, rfl, hP I hI⟩ | (exfalso; omega)
            · refine x_iconst (pc := 197) d310_197 ?_
              refine x_goto (pc := 198) (tgt := 202) d310_198 (by decide) ?_
              refine x_icmp_ne (pc := 202) (tgt := 228) ⟨by omega, by omega⟩ ⟨by omega, by omega⟩ d310_202 (by decide) (fun _ => ?_) (fun z => absurd z (by decide))
              refine x_iconst (pc := 228) d310_228 ?_
              refine x_zret (pc := 229) rfl (Or.inl rfl) (fun z => Bool.noConfusion z) d310_229 ?_
              first | exact ⟨I, rfl, hP I hI⟩ | (exfalso; omega)
          · refine x_iconst (pc := 188) d310_188 ?_
            refine x_goto (pc := 189) (tgt := 193) d310_189 (by decide) ?_
            refine x_iload_n (pc := 193) rfl d310_193 ?_
            refine x_if_ne (pc := 194) (tgt := 201) ⟨by omega, by omega⟩ d310_194 (by decide) (fun g194 => ?_) (fun g194 => ?_)
            · refine x_iconst (pc := 201) d310_201 ?_
              refine x_icmp_ne (pc := 202) (tgt := 228) ⟨by omega, by omega⟩ ⟨by omega, by omega⟩ d310_202 (by decide) (fun _ => ?_) (fun z => absurd z (by decide))
              refine x_iconst (pc := 228) d310_228 ?_
              refine x_zret (pc := 229) rfl (Or.inl rfl) (fun z => Bool.noConfusion z) d310_229 ?_
              first | exact ⟨I, rfl, hP I hI⟩ | (exfalso; omega)
            · refine x_iconst (pc := 197) d310_197 ?_
              refine x_goto (pc := 198) (tgt := 202) d310_198 (by decide) ?_
              refine x_icmp_ne (pc := 202) (tgt := 228) ⟨by omega, by omega⟩ ⟨by omega, by omega⟩ d310_202 (by decide) (fun z => absurd z (by decide)) (fun _ => ?_)
              refine x_aload_n (pc := 205) rfl d310_205 ?_
              refine x_iload_n (pc := 206) rfl d310_206 ?_
              refine x_qVs (pc := 207) c310_148 (qb (isF_t (by omega) (by omega)) (cm98 hl (by decide) hI hS ⟨by omega, by omega⟩)) (ko0 (by omega)) rfl rfl (Nat.le_of_ble_eq_true rfl) (by decide +kernel) (by decide +kernel) d310_207 (fun I hI => ?_)
              refine x_if_ne (pc := 210) (tgt := 224) ⟨by omega, by omega⟩ d310_210 (by decide) (fun g210 => ?_) (fun g210 => ?_)
              · refine x_iconst (pc := 224) d310_224 ?_
                refine x_goto (pc := 225) (tgt := 229) d310_225 (by decide) ?_
                refine x_zret (pc := 229) rfl (Or.inr rfl) (fun z => Bool.noConfusion z) d310_229 ?_
                first | exact ⟨I, rfl, hP I hI⟩ | (exfalso; omega)
              · refine x_aload_n (pc := 213) rfl d310_213 ?_
                refine x_qVs (pc := 214) c310_95 (qa (cm114 (E := fun _ => 0) hl (by decide) hI)) (ko0 (by omega)) rfl rfl (Nat.le_of_ble_eq_true rfl) (by decide +kernel) (by decide +kernel) d310_214 (fun I hI => ?_)
                refine x_aload_n (pc := 217) rfl d310_217 ?_
                refine x_qVs (pc := 218) c310_92 (qa (cm82 (E := fun _ => 0) hl (by decide) hI)) (ko0 (by omega)) rfl rfl (Nat.le_of_ble_eq_true rfl) (by decide +kernel) (by decide +kernel) d310_218 (fun I hI => ?_)
                refine x_icmp_le (pc := 221) (tgt := 228) ⟨by omega, by omega⟩ ⟨by omega, by omega⟩ d310_221 (by decide) (fun g221 => ?_) (fun g221 => ?_)
                · refine x_iconst (pc := 228) d310_228 ?_
                  refine x_zret (pc := 229) rfl (Or.inl rfl) (fun z => Bool.noConfusion z) d310_229 ?_
                  first | exact ⟨I, rfl, hP I hI⟩ | (exfalso; omega)
                · refine x_iconst (pc := 224) d310_224 ?_
                  refine x_goto (pc := 225) (tgt := 229) d310_225 (by decide) ?_
                  refine x_zret (pc := 229) rfl (Or.inr rfl) (fun z => Bool.noConfusion z) d310_229 ?_
                  first | exact ⟨I, rfl, hP I hI⟩ | (exfalso; omega)
      · refine x_iconst (pc := 170) d310_170 ?_
        refine x_goto (pc := 171) (tgt := 175) d310_171 (by decide) ?_
        refine x_iadd (pc := 175) d310_175 ?_
        refine x_icmp_ne (pc := 176) (tgt := 228) ⟨by omega, by omega⟩ ⟨by omega, by omega⟩ d310_176 (by decide) (fun g176 => ?_) (fun g176 => ?_)
        · refine x_iconst (pc := 228) d310_228 ?_
          refine x_zret (pc := 229) rfl (Or.inl rfl) (fun z => Bool.noConfusion z) d310_229 ?_
          first | exact ⟨I, rfl, hP I hI⟩ | (exfalso; omega)
        · refine x_aload_n (pc := 179) rfl d310_179 ?_
          refine x_iload_n (pc := 180) rfl d310_180 ?_
          refine x_qVs (pc := 181) c310_148 (qb (isF_t (by omega) (by omega)) (cm98 hl (by decide) hI hS ⟨by omega, by omega⟩)) (ko0 (by omega)) rfl rfl (Nat.le_of_ble_eq_true rfl) (by decide +kernel) (by decide +kernel) d310_181 (fun I hI => ?_)
          refine x_iconst (pc := 184) d310_184 ?_
          refine x_icmp_ne (pc := 185) (tgt := 192) ⟨by omega, by omega⟩ ⟨by omega, by omega⟩ d310_185 (by decide) (fun g185 => ?_) (fun g185 => ?_)
          · refine x_iconst (pc := 192) d310_192 ?_
            refine x_iload_n (pc := 193) rfl d310_193 ?_
            refine x_if_ne (pc := 194) (tgt := 201) ⟨by omega, by omega⟩ d310_194 (by decide) (fun g194 => ?_) (fun g194 => ?_)
            · refine x_iconst (pc := 201) d310_201 ?_
              refine x_icmp_ne (pc := 202) (tgt := 228) ⟨by omega, by omega⟩ ⟨by omega, by omega⟩ d310_202 (by decide) (fun z => absurd z (by decide)) (fun _ => ?_)
              refine x_aload_n (pc := 205) rfl d310_205 ?_
              refine x_iload_n (pc := 206) rfl d310_206 ?_
              refine x_qVs (pc := 207) c310_148 (qb (isF_t (by omega) (by omega)) (cm98 hl (by decide) hI hS ⟨by omega, by omega⟩)) (ko0 (by omega)) rfl rfl (Nat.le_of_ble_eq_true rfl) (by decide +kernel) (by decide +kernel) d310_207 (fun I hI => ?_)
              refine x_if_ne (pc := 210) (tgt := 224) ⟨by omega, by omega⟩ d310_210 (by decide) (fun g210 => ?_) (fun g210 => ?_)
              · refine x_iconst (pc := 224) d310_224 ?_
                refine x_goto (pc := 225) (tgt := 229) d310_225 (by decide) ?_
                refine x_zret (pc := 229) rfl (Or.inr rfl) (fun z => Bool.noConfusion z) d310_229 ?_
                first | exact ⟨I, rfl, hP I hI⟩ | (exfalso; omega)
              · refine x_aload_n (pc := 213) rfl d310_213 ?_
                refine x_qVs (pc := 214) c310_95 (qa (cm114 (E := fun _ => 0) hl (by decide) hI)) (ko0 (by omega)) rfl rfl (Nat.le_of_ble_eq_true rfl) (by decide +kernel) (by decide +kernel) d310_214 (fun I hI => ?_)
                refine x_aload_n (pc := 217) rfl d310_217 ?_
                refine x_qVs (pc := 218) c310_92 (qa (cm82 (E := fun _ => 0) hl (by decide) hI)) (ko0 (by omega)) rfl rfl (Nat.le_of_ble_eq_true rfl) (by decide +kernel) (by decide +kernel) d310_218 (fun I hI => ?_)
                refine x_icmp_le (pc := 221) (tgt := 228) ⟨by omega, by omega⟩ ⟨by omega, by omega⟩ d310_221 (by decide) (fun g221 => ?_) (fun g221 => ?_)
                · refine x_iconst (pc := 228) d310_228 ?_
                  refine x_zret (pc := 229) rfl (Or.inl rfl) (fun z => Bool.noConfusion z) d310_229 ?_
                  first | exact ⟨I, rfl, hP I hI⟩ | (exfalso; omega)
                · refine x_iconst (pc := 224) d310_224 ?_
                  refine x_goto (pc := 225) (tgt := 229) d310_225 (by decide) ?_
                  refine x_zret (pc := 229) rfl (Or.inr rfl) (fun z => Bool.noConfusion z) d310_229 ?_
                  first | exact ⟨I, rfl, hP I hI⟩ | (exfalso; omega)
            · refine x_iconst (pc := 197) d310_197 ?_
              refine x_goto (pc := 198) (tgt := 202) d310_198 (by decide) ?_
              refine x_icmp_ne (pc := 202) (tgt := 228) ⟨by omega, by omega⟩ ⟨by omega, by omega⟩ d310_202 (by decide) (fun _ => ?_) (fun z => absurd z (by decide))
              refine x_iconst (pc := 228) d310_228 ?_
              refine x_zret (pc := 229) rfl (Or.inl rfl) (fun z => Bool.noConfusion z) d310_229 ?_
              first | exact ⟨I, rfl, hP I hI⟩ | (exfalso; omega)
          · refine x_iconst (pc := 188) d310_188 ?_
            refine x_goto (pc := 189) (tgt := 193) d310_189 (by decide) ?_
            refine x_iload_n (pc := 193) rfl d310_193 ?_
            refine x_if_ne (pc := 194) (tgt := 201) ⟨by omega, by omega⟩ d310_194 (by decide) (fun g194 => ?_) (fun g194 => ?_)
            · refine x_iconst (pc := 201) d310_201 ?_
              refine x_icmp_ne (pc := 202) (tgt := 228) ⟨by omega, by omega⟩ ⟨by omega, by omega⟩ d310_202 (by decide) (fun _ => ?_) (fun z => absurd z (by decide))
              refine x_iconst (pc := 228) d310_228 ?_
              refine x_zret (pc := 229) rfl (Or.inl rfl) (fun z => Bool.noConfusion z) d310_229 ?_
              first | exact ⟨I, rfl, hP I hI⟩ | (exfalso; omega)
            · refine x_iconst (pc := 197) d310_197 ?_
              refine x_goto (pc := 198) (tgt := 202) d310_198 (by decide) ?_
              refine x_icmp_ne (pc := 202) (tgt := 228) ⟨by omega, by omega⟩ ⟨by omega, by omega⟩ d310_202 (by decide) (fun z => absurd z (by decide)) (fun _ => ?_)
              refine x_aload_n (pc := 205) rfl d310_205 ?_
              refine x_iload_n (pc := 206) rfl d310_206 ?_
              refine x_qVs (pc := 207) c310_148 (qb (isF_t (by omega) (by omega)) (cm98 hl (by decide) hI hS ⟨by omega, by omega⟩)) (ko0 (by omega)) rfl rfl (Nat.le_of_ble_eq_true rfl) (by decide +kernel) (by decide +kernel) d310_207 (fun I hI => ?_)
              refine x_if_ne (pc := 210) (tgt := 224) ⟨by omega, by omega⟩ d310_210 (by decide) (fun g210 => ?_) (fun g210 => ?_)
              · refine x_iconst (pc := 224) d310_224 ?_
                refine x_goto (pc := 225) (tgt := 229) d310_225 (by decide) ?_
                refine x_zret (pc := 229) rfl (Or.inr rfl) (fun z => Bool.noConfusion z) d310_229 ?_
                first | exact ⟨I, rfl, hP I hI⟩ | (exfalso; omega)
              · refine x_aload_n (pc := 213) rfl d310_213 ?_
                refine x_qVs (pc := 214) c310_95 (qa (cm114 (E := fun _ => 0) hl (by decide) hI)) (ko0 (by omega)) rfl rfl (Nat.le_of_ble_eq_true rfl) (by decide +kernel) (by decide +kernel) d310_214 (fun I hI => ?_)
                refine x_aload_n (pc := 217) rfl d310_217 ?_
                refine x_qVs (pc := 218) c310_92 (qa (cm82 (E := fun _ => 0) hl (by decide) hI)) (ko0 (by omega)) rfl rfl (Nat.le_of_ble_eq_true rfl) (by decide +kernel) (by decide +kernel) d310_218 (fun I hI => ?_)
                refine x_icmp_le (pc := 221) (tgt := 228) ⟨by omega, by omega⟩ ⟨by omega, by omega⟩ d310_221 (by decide) (fun g221 => ?_) (fun g221 => ?_)
                · refine x_iconst (pc := 228) d310_228 ?_
                  refine x_zret (pc := 229) rfl (Or.inl rfl) (fun z => Bool.noConfusion z) d310_229 ?_
                  first | exact ⟨I, rfl, hP I hI⟩ | (exfalso; omega)
                · refine x_iconst (pc := 224) d310_224 ?_
                  refine x_goto (pc := 225) (tgt := 229) d310_225 (by decide) ?_
                  refine x_zret (pc := 229) rfl (Or.inr rfl) (fun z => Bool.noConfusion z) d310_229 ?_
                  first | exact ⟨I, rfl, hP I hI⟩ | (exfalso; omega)
  · refine x_iconst (pc := 150) d310_150 ?_
    refine x_goto (pc := 151) (tgt := 155) d310_151 (by decide) ?_
    refine x_iadd (pc := 155) d310_155 ?_
    refine x_icmp_ne (pc := 156) (tgt := 228) ⟨by omega, by omega⟩ ⟨by omega, by omega⟩ d310_156 (by decide) (fun g156 => ?_) (fun g156 => ?_)
    · refine x_iconst (pc := 228) d310_228 ?_
      refine x_zret (pc := 229) rfl (Or.inl rfl) (fun z => Bool.noConfusion z) d310_229 ?_
      first | exact ⟨I, rfl, hP I hI⟩ | (exfalso; omega)
    · refine x_aload_n (pc := 159) rfl d310_159 ?_
      refine x_qVs (pc := 160) c310_123 (qa (cm120 (E := fun _ => 0) hl (by decide) hI)) (ko0 (by omega)) rfl rfl (Nat.le_of_ble_eq_true rfl) (by decide +kernel) (by decide +kernel) d310_160 (fun I hI => ?_)
      refine x_iload (pc := 163) rfl d310_163 ?_
      refine x_iload_n (pc := 165) rfl d310_165 ?_
      refine x_iconst (pc := 166) d310_166 ?_
      refine x_icmp_ne (pc := 167) (tgt := 174) ⟨by omega, by omega⟩ ⟨by omega, by omega⟩ d310_167 (by decide) (fun g167 => ?_) (fun g167 => ?_)
      · refine x_iconst (pc := 174) d310_174 ?_
        refine x_iadd (pc := 175) d310_175 ?_
        refine x_icmp_ne (pc := 176) (tgt := 228) ⟨by omega, by omega⟩ ⟨by omega, by omega⟩ d310_176 (by decide) (fun g176 => ?_) (fun g176 => ?_)
        · refine x_iconst (pc := 228) d310_228 ?_
          refine x_zret (pc := 229) rfl (Or.inl rfl) (fun z => Bool.noConfusion z) d310_229 ?_
          first | exact ⟨I, rfl, hP I hI⟩ | (exfalso; omega)
        · refine x_aload_n (pc := 179) rfl d310_179 ?_
          refine x_iload_n (pc := 180) rfl d310_180 ?_
          refine x_qVs (pc := 181) c310_148 (qb (isF_t (by omega) (by omega)) (cm98 hl (by decide) hI hS ⟨by omega, by omega⟩)) (ko0 (by omega)) rfl rfl (Nat.le_of_ble_eq_true rfl) (by decide +kernel) (by decide +kernel) d310_181 (fun I hI => ?_)
          refine x_iconst (pc := 184) d310_184 ?_
          refine x_icmp_ne (pc := 185) (tgt := 192) ⟨by omega, by omega⟩ ⟨by omega, by omega⟩ d310_185 (by decide) (fun g185 => ?_) (fun g185 => ?_)
          · refine x_iconst (pc := 192) d310_192 ?_
            refine x_iload_n (pc := 193) rfl d310_193 ?_
            refine x_if_ne (pc := 194) (tgt := 201) ⟨by omega, by omega⟩ d310_194 (by decide) (fun g194 => ?_) (fun g194 => ?_)
            · refine x_iconst (pc := 201) d310_201 ?_
              refine x_icmp_ne (pc := 202) (tgt := 228) ⟨by omega, by omega⟩ ⟨by omega, by omega⟩ d310_202 (by decide) (fun z => absurd z (by decide)) (fun _ => ?_)
              refine x_aload_n (pc := 205) rfl d310_205 ?_
              refine x_iload_n (pc := 206) rfl d310_206 ?_
              refine x_qVs (pc := 207) c310_148 (qb (isF_t (by omega) (by omega)) (cm98 hl (by decide) hI hS ⟨by omega, by omega⟩)) (ko0 (by omega)) rfl rfl (Nat.le_of_ble_eq_true rfl) (by decide +kernel) (by decide +kernel) d310_207 (fun I hI => ?_)
              refine x_if_ne (pc := 210) (tgt := 224) ⟨by omega, by omega⟩ d310_210 (by decide) (fun g210 => ?_) (fun g210 => ?_)
              · refine x_iconst (pc := 224) d310_224 ?_
                refine x_goto (pc := 225) (tgt := 229) d310_225 (by decide) ?_
                refine x_zret (pc := 229) rfl (Or.inr rfl) (fun z => Bool.noConfusion z) d310_229 ?_
                first | exact ⟨I, rfl, hP I hI⟩ | (exfalso; omega)
              · refine x_aload_n (pc := 213) rfl d310_213 ?_
                refine x_qVs (pc := 214) c310_95 (qa (cm114 (E := fun _ => 0) hl (by decide) hI)) (ko0 (by omega)) rfl rfl (Nat.le_of_ble_eq_true rfl) (by decide +kernel) (by decide +kernel) d310_214 (fun I hI => ?_)
                refine x_aload_n (pc := 217) rfl d310_217 ?_
                refine x_qVs (pc := 218) c310_92 (qa (cm82 (E := fun _ => 0) hl (by decide) hI)) (ko0 (by omega)) rfl rfl (Nat.le_of_ble_eq_true rfl) (by decide +kernel) (by decide +kernel) d310_218 (fun I hI => ?_)
                refine x_icmp_le (pc := 221) (tgt := 228) ⟨by omega, by omega⟩ ⟨by omega, by omega⟩ d310_221 (by decide) (fun g221 => ?_) (fun g221 => ?_)
                · refine x_iconst (pc := 228) d310_228 ?_
                  refine x_zret (pc := 229) rfl (Or.inl rfl) (fun z => Bool.noConfusion z) d310_229 ?_
                  first | exact ⟨I, rfl, hP I hI⟩ | (exfalso; omega)
                · refine x_iconst (pc := 224) d310_224 ?_
                  refine x_goto (pc := 225) (tgt := 229) d310_225 (by decide) ?_
                  refine x_zret (pc := 229) rfl (Or.inr rfl) (fun z => Bool.noConfusion z) d310_229 ?_
                  first | exact ⟨I, rfl, hP I hI⟩ | (exfalso; omega)
            · refine x_iconst (pc := 197) d310_197 ?_
              refine x_goto (pc := 198) (tgt := 202) d310_198 (by decide) ?_
              refine x_icmp_ne (pc := 202) (tgt := 228) ⟨by omega, by omega⟩ ⟨by omega, by omega⟩ d310_202 (by decide) (fun _ => ?_) (fun z => absurd z (by decide))
              refine x_iconst (pc := 228) d310_228 ?_
              refine x_zret (pc := 229) rfl (Or.inl rfl) (fun z => Bool.noConfusion z) d310_229 ?_
              first | exact ⟨I, rfl, hP I hI⟩ | (exfalso; omega)
          · refine x_iconst (pc := 188) d310_188 ?_
            refine x_goto (pc := 189) (tgt := 193) d310_189 (by decide) ?_
            refine x_iload_n (pc := 193) rfl d310_193 ?_
            refine x_if_ne (pc := 194) (tgt := 201) ⟨by omega, by omega⟩ d310_194 (by decide) (fun g194 => ?_) (fun g194 => ?_)
            · refine x_iconst (pc := 201) d310_201 ?_
              refine x_icmp_ne (pc := 202) (tgt := 228) ⟨by omega, by omega⟩ ⟨by omega, by omega⟩ d310_202 (by decide) (fun _ => ?_) (fun z => absurd z (by decide))
              refine x_iconst (pc := 228) d310_228 ?_
              refine x_zret (pc := 229) rfl (Or.inl rfl) (fun z => Bool.noConfusion z) d310_229 ?_
              first | exact ⟨I, rfl, hP I hI⟩ | (exfalso; omega)
            · refine x_iconst (pc := 197) d310_197 ?_
              refine x_goto (pc := 198) (tgt := 202) d310_198 (by decide) ?_
              refine x_icmp_ne (pc := 202) (tgt := 228) ⟨by omega, by omega⟩ ⟨by omega, by omega⟩ d310_202 (by decide) (fun z => absurd z (by decide)) (fun _ => ?_)
              refine x_aload_n (pc := 205) rfl d310_205 ?_
              refine x_iload_n (pc := 206) rfl d310_206 ?_
              refine x_qVs (pc := 207) c310_148 (qb (isF_t (by omega) (by omega)) (cm98 hl (by decide) hI hS ⟨by omega, by omega⟩)) (ko0 (by omega)) rfl rfl (Nat.le_of_ble_eq_true rfl) (by decide +kernel) (by decide +kernel) d310_207 (fun I hI => ?_)
              refine x_if_ne (pc := 210) (tgt := 224) ⟨by omega, by omega⟩ d310_210 (by decide) (fun g210 => ?_) (fun g210 => ?_)
              · refine x_iconst (pc := 224) d310_224 ?_
                refine x_goto (pc := 225) (tgt := 229) d310_225 (by decide) ?_
                refine x_zret (pc := 229) rfl (Or.inr rfl) (fun z => Bool.noConfusion z) d310_229 ?_
                first | exact ⟨I, rfl, hP I hI⟩ | (exfalso; omega)
              · refine x_aload_n (pc := 213) rfl d310_213 ?_
                refine x_qVs (pc := 214) c310_95 (qa (cm114 (E := fun _ => 0) hl (by decide) hI)) (ko0 (by omega)) rfl rfl (Nat.le_of_ble_eq_true rfl) (by decide +kernel) (by decide +kernel) d310_214 (fun I hI => ?_)
                refine x_aload_n (pc := 217) rfl d310_217 ?_
                refine x_qVs (pc := 218) c310_92 (qa (cm82 (E := fun _ => 0) hl (by decide) hI)) (ko0 (by omega)) rfl rfl (Nat.le_of_ble_eq_true rfl) (by decide +kernel) (by decide +kernel) d310_218 (fun I hI => ?_)
                refine x_icmp_le (pc := 221) (tgt := 228) ⟨by omega, by omega⟩ ⟨by omega, by omega⟩ d310_221 (by decide) (fun g221 => ?_) (fun g221 => ?_)
                · refine x_iconst (pc := 228) d310_228 ?_
                  refine x_zret (pc := 229) rfl (Or.inl rfl) (fun z => Bool.noConfusion z) d310_229 ?_
                  first | exact ⟨I, rfl, hP I hI⟩ | (exfalso; omega)
                · refine x_iconst (pc := 224) d310_224 ?_
                  refine x_goto (pc := 225) (tgt := 229) d310_225 (by decide) ?_
                  refine x_zret (pc := 229) rfl (Or.inr rfl) (fun z => Bool.noConfusion z) d310_229 ?_
                  first | exact ⟨I, rfl, hP I hI⟩ | (exfalso; omega)
      · refine x_iconst (pc := 170) d310_170 ?_
        refine x_goto (pc := 171) (tgt := 175) d310_171 (by decide) ?_
        refine x_iadd (pc := 175) d310_175 ?_
        refine x_icmp_ne (pc := 176) (tgt := 228) ⟨by omega, by omega⟩ ⟨by omega, by omega⟩ d310_176 (by decide) (fun g176 => ?_) (fun g176 => ?_)
        · refine x_iconst (pc := 228) d310_228 ?_
          refine x_zret (pc := 229) rfl (Or.inl rfl) (fun z => Bool.noConfusion z) d310_229 ?_
          first | exact ⟨I, rfl, hP I hI⟩ | (exfalso; omega)
        · refine x_aload_n (pc := 179) rfl d310_179 ?_
          refine x_iload_n (pc := 180) rfl d310_180 ?_
          refine x_qVs (pc := 181) c310_148 (qb (isF_t (by omega) (by omega)) (cm98 hl (by decide) hI hS ⟨by omega, by omega⟩)) (ko0 (by omega)) rfl rfl (Nat.le_of_ble_eq_true rfl) (by decide +kernel) (by decide +kernel) d310_181 (fun I hI => ?_)
          refine x_iconst (pc := 184) d310_184 ?_
          refine x_icmp_ne (pc := 185) (tgt := 192) ⟨by omega, by omega⟩ ⟨by omega, by omega⟩ d310_185 (by decide) (fun g185 => ?_) (fun g185 => ?_)
          · refine x_iconst (pc := 192) d310_192 ?_
            refine x_iload_n (pc := 193) rfl d310_193 ?_
            refine x_if_ne (pc := 194) (tgt := 201) ⟨by omega, by omega⟩ d310_194 (by decide) (fun g194 => ?_) (fun g194 => ?_)
            · refine x_iconst (pc := 201) d310_201 ?_
              refine x_icmp_ne (pc := 202) (tgt := 228) ⟨by omega, by omega⟩ ⟨by omega, by omega⟩ d310_202 (by decide) (fun z => absurd z (by decide)) (fun _ => ?_)
              refine x_aload_n (pc := 205) rfl d310_205 ?_
              refine x_iload_n (pc := 206) rfl d310_206 ?_
              refine x_qVs (pc := 207) c310_148 (qb (isF_t (by omega) (by omega)) (cm98 hl (by decide) hI hS ⟨by omega, by omega⟩)) (ko0 (by omega)) rfl rfl (Nat.le_of_ble_eq_true rfl) (by decide +kernel) (by decide +kernel) d310_207 (fun I hI => ?_)
              refine x_if_ne (pc := 210) (tgt := 224) ⟨by omega, by omega⟩ d310_210 (by decide) (fun g210 => ?_) (fun g210 => ?_)
              · refine x_iconst (pc := 224) d310_224 ?_
                refine x_goto (pc := 225) (tgt := 229) d310_225 (by decide) ?_
                refine x_zret (pc := 229) rfl (Or.inr rfl) (fun z => Bool.noConfusion z) d310_229 ?_
                first | exact ⟨I, rfl, hP I hI⟩ | (exfalso; omega)
              · refine x_aload_n (pc := 213) rfl d310_213 ?_
                refine x_qVs (pc := 214) c310_95 (qa (cm114 (E := fun _ => 0) hl (by decide) hI)) (ko0 (by omega)) rfl rfl (Nat.le_of_ble_eq_true rfl) (by decide +kernel) (by decide +kernel) d310_214 (fun I hI => ?_)
                refine x_aload_n (pc := 217) rfl d310_217 ?_
                refine x_qVs (pc := 218) c310_92 (qa (cm82 (E := fun _ => 0) hl (by decide) hI)) (ko0 (by omega)) rfl rfl (Nat.le_of_ble_eq_true rfl) (by decide +kernel) (by decide +kernel) d310_218 (fun I hI => ?_)
                refine x_icmp_le (pc := 221) (tgt := 228) ⟨by omega, by omega⟩ ⟨by omega, by omega⟩ d310_221 (by decide) (fun g221 => ?_) (fun g221 => ?_)
                · refine x_iconst (pc := 228) d310_228 ?_
                  refine x_zret (pc := 229) rfl (Or.inl rfl) (fun z => Bool.noConfusion z) d310_229 ?_
                  first | exact ⟨I, rfl, hP I hI⟩ | (exfalso; omega)
                · refine x_iconst (pc := 224) d310_224 ?_
                  refine x_goto (pc := 225) (tgt := 229) d310_225 (by decide) ?_
                  refine x_zret (pc := 229) rfl (Or.inr rfl) (fun z => Bool.noConfusion z) d310_229 ?_
                  first | exact ⟨I, rfl, hP I hI⟩ | (exfalso; omega)
            · refine x_iconst (pc := 197) d310_197 ?_
              refine x_goto (pc := 198) (tgt := 202) d310_198 (by decide) ?_
              refine x_icmp_ne (pc := 202) (tgt := 228) ⟨by omega, by omega⟩ ⟨by omega, by omega⟩ d310_202 (by decide) (fun _ => ?_) (fun z => absurd z (by decide))
              refine x_iconst (pc := 228) d310_228 ?_
              refine x_zret (pc := 229) rfl (Or.inl rfl) (fun z => Bool.noConfusion z) d310_229 ?_
              first | exact ⟨I, rfl, hP I hI⟩ | (exfalso; omega)
          · refine x_iconst (pc := 188) d310_188 ?_
            refine x_goto (pc := 189) (tgt := 193) d310_189 (by decide) ?_
            refine x_iload_n (pc := 193) rfl d310_193 ?_
            refine x_if_ne (pc := 194) (tgt := 201) ⟨by omega, by omega⟩ d310_194 (by decide) (fun g194 => ?_) (fun g194 => ?_)
            · refine x_iconst (pc := 201) d310_201 ?_
              refine x_icmp_ne (pc := 202) (tgt := 228) ⟨by omega, by omega⟩ ⟨by omega, by omega⟩ d310_202 (by decide) (fun _ => ?_) (fun z => absurd z (by decide))
              refine x_iconst (pc := 228) d310_228 ?_
              refine x_zret (pc := 229) rfl (Or.inl rfl) (fun z => Bool.noConfusion z) d310_229 ?_
              first | exact ⟨I, rfl, hP I hI⟩ | (exfalso; omega)
            · refine x_iconst (pc := 197) d310_197 ?_
              refine x_goto (pc := 198) (tgt := 202) d310_198 (by decide) ?_
              refine x_icmp_ne (pc := 202) (tgt := 228) ⟨by omega, by omega⟩ ⟨by omega, by omega⟩ d310_202 (by decide) (fun z => absurd z (by decide)) (fun _ => ?_)
              refine x_aload_n (pc := 205) rfl d310_205 ?_
              refine x_iload_n (pc := 206) rfl d310_206 ?_
              refine x_qVs (pc := 207) c310_148 (qb (isF_t (by omega) (by omega)) (cm98 hl (by decide) hI hS ⟨by omega, by omega⟩)) (ko0 (by omega)) rfl rfl (Nat.le_of_ble_eq_true rfl) (by decide +kernel) (by decide +kernel) d310_207 (fun I hI => ?_)
              refine x_if_ne (pc := 210) (tgt := 224) ⟨by omega, by omega⟩ d310_210 (by decide) (fun g210 => ?_) (fun g210 => ?_)
              · refine x_iconst (pc := 224) d310_224 ?_
                refine x_goto (pc := 225) (tgt := 229) d310_225 (by decide) ?_
                refine x_zret (pc := 229) rfl (Or.inr rfl) (fun z => Bool.noConfusion z) d310_229 ?_
                first | exact ⟨I, rfl, hP I hI⟩ | (exfalso; omega)
              · refine x_aload_n (pc := 213) rfl d310_213 ?_
                refine x_qVs (pc := 214) c310_95 (qa (cm114 (E := fun _ => 0) hl (by decide) hI)) (ko0 (by omega)) rfl rfl (Nat.le_of_ble_eq_true rfl) (by decide +kernel) (by decide +kernel) d310_214 (fun I hI => ?_)
                refine x_aload_n (pc := 217) rfl d310_217 ?_
                refine x_qVs (pc := 218) c310_92 (qa (cm82 (E := fun _ => 0) hl (by decide) hI)) (ko0 (by omega)) rfl rfl (Nat.le_of_ble_eq_true rfl) (by decide +kernel) (by decide +kernel) d310_218 (fun I hI => ?_)
                refine x_icmp_le (pc := 221) (tgt := 228) ⟨by omega, by omega⟩ ⟨by omega, by omega⟩ d310_221 (by decide) (fun g221 => ?_) (fun g221 => ?_)
                · refine x_iconst (pc := 228) d310_228 ?_
                  refine x_zret (pc := 229) rfl (Or.inl rfl) (fun z => Bool.noConfusion z) d310_229 ?_
                  first | exact ⟨I, rfl, hP I hI⟩ | (exfalso; omega)
                · refine x_iconst (pc := 224) d310_224 ?_
                  refine x_goto (pc := 225) (tgt := 229) d310_225 (by decide) ?_
                  refine x_zret (pc := 229) rfl (Or.inr rfl) (fun z => Bool.noConfusion z) d310_229 ?_
                  first | exact ⟨I, rfl, hP I hI⟩ | (exfalso; omega)
theorem tr_end (hl : l.1.stackTraces = false) (hS : GOK S) {P : (Nat → Int → Int) → Prop} (hP : ∀ K, CREL K S → P K) {I : Nat → Int → Int} (hI : CREL I S) {k start r before bad lost bits : Int} (k0 : 0 ≤ k) (k1 : k < gA S 0 6) (hr : 0 ≤ r ∧ r ≤ 2) (hs : 0 ≤ start ∧ start ≤ 900000) (hb : 0 ≤ before ∧ before ≤ 9) (hx : 0 ≤ bad ∧ bad ≤ 2450880) (hl2 : 0 ≤ lost ∧ lost ≤ 2450880) (hbi : 0 ≤ bits ∧ bits ≤ 2450880)
    (e8 : gA S 8 k = before + 1) (e7 : gA S 0 7 = start + (gA S 0 0) * ((8 * gA S 6 k) + 8)) (e16 : gA S 0 16 = bits + 8 * gA S 6 k) (e11 : gA S 0 11 = bad + (if r = 1 then 1 else 0)) (e14 : gA S 0 14 = lost + (if r = 2 then 1 else 0)) (es : gA S 7 k = 1 ↔ r = 0) (en : gA S 7 k = 0 → gA S 0 7 < gA S 0 8) :
    Ex l 310 12 (6 * 12) 78 [some (.ref 0), some (.int (iI k)), some (.int (iI start)), some (.int (iI r)), some (.int (iI before)), some (.int (iI bad)), some (.int (iI lost)), some (.int (iI bits))] [.int (iI 1)] (mm 181 I v false) (oE 181 v false (some (.int (iI 1))) P) := by
  have hF := frm hS k0 k1
  have e11a : r = 1 → gA S 0 11 = bad + 1 := fun e => by rw [if_pos e] at e11; exact e11
  have e11b : r ≠ 1 → gA S 0 11 = bad + 0 := fun e => by rw [if_neg e] at e11; exact e11
  have e14a : r = 2 → gA S 0 14 = lost + 1 := fun e => by rw [if_pos e] at e14; exact e14
  have e14b : r ≠ 2 → gA S 0 14 = lost + 0 := fun e => by rw [if_neg e] at e14; exact e14
  have h48 := fr48 hS
  obtain ⟨r1, r2, r3, r4, r5, r6, r7, r8, r9, r10⟩ := hS.1.rg
  have hc := cB_v
  have c11 := hS.1.ct 11 (by decide) (by decide)
  have c14 := hS.1.ct 14 (by decide) (by decide)
  have c16 := hS.1.ct 16 (by decide) (by decide)
  have hm : 0 ≤ (gA S 0 0) * ((8 * gA S 6 k) + 8) ∧ (gA S 0 0) * ((8 * gA S 6 k) + 8) ≤ 9 * 56 := by
    refine ⟨Int.mul_nonneg (by omega) (by omega), Int.mul_le_mul r1.2 (by omega) (by omega) (by decide)⟩
  refine x_iconst (pc := 78) d310_78 ?_
  refine x_icmp_ne (pc := 79) (tgt := 137) ⟨by omega, by omega⟩ ⟨by omega, by omega⟩ d310_79 (by decide) (fun z => absurd z (by decide)) (fun _ => ?_)
  refine x_aload_n (pc := 82) rfl d310_82 ?_
  refine x_iload_n (pc := 83) rfl d310_83 ?_
  refine x_qVs (pc := 84) c310_151 (qb (isF_t (by omega) (by omega)) (cm99 hl (by decide) hI hS ⟨by omega, by omega⟩)) (ko0 (by omega)) rfl rfl (Nat.le_of_ble_eq_true rfl) (by decide +kernel) (by decide +kernel) d310_84 (fun I hI => ?_)
  refine x_iload (pc := 87) rfl d310_87 ?_
  refine x_iconst (pc := 89) d310_89 ?_
  refine x_iadd (pc := 90) d310_90 ?_
  refine x_icmp_ne (pc := 91) (tgt := 137) ⟨by omega, by omega⟩ ⟨by omega, by omega⟩ d310_91 (by decide) (fun g91 => ?_) (fun g91 => ?_)
  · refine x_iconst (pc := 137) d310_137 ?_
    refine x_zret (pc := 138) rfl (Or.inl rfl) (fun z => Bool.noConfusion z) d310_138 ?_
    exfalso; omega
  · refine x_aload_n (pc := 94) rfl d310_94 ?_
    refine x_qVs (pc := 95) c310_92 (qa (cm82 (E := fun _ => 0) hl (by decide) hI)) (ko0 (by omega)) rfl rfl (Nat.le_of_ble_eq_true rfl) (by decide +kernel) (by decide +kernel) d310_95 (fun I hI => ?_)
    refine x_iload_n (pc := 98) rfl d310_98 ?_
    refine x_aload_n (pc := 99) rfl d310_99 ?_
    refine x_qVs (pc := 100) c310_182 (qa (cm83 (E := fun _ => 0) hl (by decide) hI)) (ko0 (by omega)) rfl rfl (Nat.le_of_ble_eq_true rfl) (by decide +kernel) (by decide +kernel) d310_100 (fun I hI => ?_)
    refine x_bipush (pc := 103) (by decide) d310_103 ?_
    refine x_aload_n (pc := 105) rfl d310_105 ?_
    refine x_iload_n (pc := 106) rfl d310_106 ?_
    refine x_qVs (pc := 107) c310_154 (qb (isF_t (by omega) (by omega)) (cm95 hl (by decide) hI hS ⟨by omega, by omega⟩)) (ko0 (by omega)) rfl rfl (Nat.le_of_ble_eq_true rfl) (by decide +kernel) (by decide +kernel) d310_107 (fun I hI => ?_)
    refine x_imul (pc := 110) d310_110 ?_
    refine x_bipush (pc := 111) (by decide) d310_111 ?_
    refine x_iadd (pc := 113) d310_113 ?_
    refine x_imul (pc := 114) d310_114 ?_
    refine x_iadd (pc := 115) d310_115 ?_
    refine x_icmp_ne (pc := 116) (tgt := 137) ⟨by omega, by omega⟩ ⟨by omega, by omega⟩ d310_116 (by decide) (fun g116 => ?_) (fun g116 => ?_)
    · refine x_iconst (pc := 137) d310_137 ?_
      refine x_zret (pc := 138) rfl (Or.inl rfl) (fun z => Bool.noConfusion z) d310_138 ?_
      exfalso; omega
    · refine x_aload_n (pc := 119) rfl d310_119 ?_
      refine x_qVs (pc := 120) c310_133 (qa (cm122 (E := fun _ => 0) hl (by decide) hI)) (ko0 (by omega)) rfl rfl (Nat.le_of_ble_eq_true rfl) (by decide +kernel) (by decide +kernel) d310_120 (fun I hI => ?_)
      refine x_iload (pc := 123) rfl d310_123 ?_
      refine x_bipush (pc := 125) (by decide) d310_125 ?_
      refine x_aload_n (pc := 127) rfl d310_127 ?_
      refine x_iload_n (pc := 128) rfl d310_128 ?_
      refine x_qVs (pc := 129) c310_154 (qb (isF_t (by omega) (by omega)) (cm95 hl (by decide) hI hS ⟨by omega, by omega⟩)) (ko0 (by omega)) rfl rfl (Nat.le_of_ble_eq_true rfl) (by decide +kernel) (by decide +kernel) d310_129 (fun I hI => ?_)
      refine x_imul (pc := 132) d310_132 ?_
      refine x_iadd (pc := 133) d310_133 ?_
      refine x_icmp_eq (pc := 134) (tgt := 139) ⟨by omega, by omega⟩ ⟨by omega, by omega⟩ d310_134 (by decide) (fun g134 => ?_) (fun g134 => ?_)
      · refine x_mask [true, true, false, true, false, true, true, false] ?_
        dsimp only [mask]
        refine ex_le (B' := 6) (by omega) rfl ?_
        exact tr_b hl hS hP hI k0 k1 hr hs hb hx hl2 hbi e8 e7 e16 e11 e14 es en
      · refine x_iconst (pc := 137) d310_137 ?_
        refine x_zret (pc := 138) rfl (Or.inl rfl) (fun z => Bool.noConfusion z) d310_138 ?_
        exfalso; omega
theorem ct_trans (hl : l.1.stackTraces = false) (hS : GOK S) (hL : gL S = 0) {z : Nat} (hz : 1 ≤ z ∧ z ≤ 60) (hc : gA S 0 7 ≤ 900000) {I : Nat → Int → Int} (hI : CREL I S) {b c : Int} : CT l 304 [.ref 0, .int (iI 1), .int (iI z), .int (iI b), .int (iI c)] (mm 181 I v false) 1 6 (oE 181 v false (some (.int (iI (mkS z (gA S)).1))) (fun K => ∃ S2, CREL K S2 ∧ GOK S2 ∧ gL S2 = 0 ∧ gA S2 = (mkS z (gA S)).2 ∧ (1 ≤ gN S2 ∧ gH S2 (gN S2 - 1) = gA S))) := by
  have h := ct_do1 (b := b) (c := c) hl (E := fun c => if c = 1 then 0 else 1) (r := oTransmit S z) (by by_cases e : (oTransmit S z).1 = 1 <;> simp [e]) (cm128 (v := v) hl (by decide) hI hS ⟨by omega, by omega⟩)
  have hg := gok_transmit (z := z) hS
  have e : oTransmit S z = oDo S (mkS z (gA S)).1 (mkS z (gA S)).2 := by
    unfold oTransmit
    rw [if_pos (by omega), if_pos (by omega), Int.toNat_natCast]
  rw [e] at h hg
  refine ct_mono h fun o ho => ?_
  obtain ⟨K, rfl, hK⟩ := ho
  exact ⟨K, rfl, _, hK, hg, hL, rfl, keep_h S _ _ hS⟩
theorem ct_tries (hl : l.1.stackTraces = false) (hS : GOK S) (hL : gL S = 0) (hPi : PI (gA S)) (hc : gA S 0 7 ≤ 600000) {I : Nat → Int → Int} (hI : CREL I S) : CT l 310 [.ref 0] (mm 181 I v false) 24 (6 * 24) (oE 181 v false (some (.int (iI 1))) (AC S (mkS 1 (gA S)).2)) := by
  have h48 := fr48 hS
  obtain ⟨r1, r2, r3, r4, r5, r6, r7, r8, r9, r10⟩ := hS.1.rg
  have hcb := cB_v
  have c11 := hS.1.ct 11 (by decide) (by decide)
  have c14 := hS.1.ct 14 (by decide) (by decide)
  have c16 := hS.1.ct 16 (by decide) (by decide)
  have hpb := hPi.1.2
  have hpr : -1 ≤ pendA (gA S) ∧ pendA (gA S) < 49 := by
    have := pdS_r (A := gA S) (n := gA S 0 6) (by omega)
    have e : pdS (gA S) (gA S 0 6) = pendA (gA S) := rfl
    omega
  have hp0 : 0 ≤ pendA (gA S) → pendA (gA S) < gA S 0 6 ∧ gA S 7 (pendA (gA S)) = 0 := fun h => by
    have := pendA_r (A := gA S) (by omega)
    exact this.2
  have hp1 := fun h => (hp0 h).1
  have hre := resA_r (gA S) (pendA (gA S)) (max (gA S 0 7) (gA S 0 8)) (gA S 0 0)
  have hfr : 0 ≤ pendA (gA S) → (0 ≤ gA S 8 (pendA (gA S)) ∧ gA S 8 (pendA (gA S)) ≤ 9) := fun h => (frm hS h (hp1 h)).2.2
  refine mkct2 hl (by decide) (Nat.le_of_ble_eq_true rfl) (L := [some (.ref 0), none, none, none, none, none, none, none]) rfl ?_
  refine x_aload_n (pc := 0) rfl d310_0 ?_
  refine x_qVs (pc := 1) c310_223 (qa (cm113 (E := fun _ => 0) hl (by decide) hI hS)) (ko0 (by omega)) rfl rfl (Nat.le_of_ble_eq_true rfl) (by decide +kernel) (by decide +kernel) d310_1 (fun I hI => ?_)
  refine x_istore_n (pc := 4) (by decide +kernel) rfl d310_4 ?_
  dsimp only [List.set]
  refine x_iload_n (pc := 5) rfl d310_5 ?_
  refine x_if_ge (pc := 6) (tgt := 26) ⟨by omega, by omega⟩ d310_6 (by decide) (fun g6 => ?_) (fun g6 => ?_)
  · refine x_aload_n (pc := 26) rfl d310_26 ?_
    refine x_qVs (pc := 27) c310_92 (qa (cm82 (E := fun _ => 0) hl (by decide) hI)) (ko0 (by omega)) rfl rfl (Nat.le_of_ble_eq_true rfl) (by decide +kernel) (by decide +kernel) d310_27 (fun I hI => ?_)
    refine x_aload_n (pc := 30) rfl d310_30 ?_
    refine x_qVs (pc := 31) c310_95 (qa (cm114 (E := fun _ => 0) hl (by decide) hI)) (ko0 (by omega)) rfl rfl (Nat.le_of_ble_eq_true rfl) (by decide +kernel) (by decide +kernel) d310_31 (fun I hI => ?_)
    refine x_max (pc := 34) ⟨by omega, by omega⟩ ⟨by omega, by omega⟩ c310_185 (by decide +kernel) (Nat.le_of_ble_eq_true rfl) d310_34 ?_
    refine x_istore_n (pc := 37) (by decide +kernel) rfl d310_37 ?_
    dsimp only [List.set]
    refine x_aload_n (pc := 38) rfl d310_38 ?_
    refine x_iload_n (pc := 39) rfl d310_39 ?_
    refine x_iload_n (pc := 40) rfl d310_40 ?_
    refine x_qVs (pc := 41) c310_194 (qc (isF_t (by omega) (by omega)) (isT_t (by omega) (by omega)) (cm109 hl (by decide) hI hS ⟨by omega, by omega⟩ ⟨by omega, by omega⟩)) (ko0 (by omega)) rfl rfl (Nat.le_of_ble_eq_true rfl) (by decide +kernel) (by decide +kernel) d310_41 (fun I hI => ?_)
    refine x_istore_n (pc := 44) (by decide +kernel) rfl d310_44 ?_
    dsimp only [List.set]
    refine x_aload_n (pc := 45) rfl d310_45 ?_
    refine x_iload_n (pc := 46) rfl d310_46 ?_
    refine x_qVs (pc := 47) c310_151 (qb (isF_t (by omega) (by omega)) (cm99 hl (by decide) hI hS ⟨by omega, by omega⟩)) (ko0 (by omega)) rfl rfl (Nat.le_of_ble_eq_true rfl) (by decide +kernel) (by decide +kernel) d310_47 (fun I hI => ?_)
    refine x_istore (pc := 50) (by decide +kernel) rfl d310_50 ?_
    dsimp only [List.set]
    refine x_aload_n (pc := 52) rfl d310_52 ?_
    refine x_qVs (pc := 53) c310_113 (qa (cm118 (E := fun _ => 0) hl (by decide) hI)) (ko0 (by omega)) rfl rfl (Nat.le_of_ble_eq_true rfl) (by decide +kernel) (by decide +kernel) d310_53 (fun I hI => ?_)
    refine x_istore (pc := 56) (by decide +kernel) rfl d310_56 ?_
    dsimp only [List.set]
    refine x_aload_n (pc := 58) rfl d310_58 ?_
    refine x_qVs (pc := 59) c310_123 (qa (cm120 (E := fun _ => 0) hl (by decide) hI)) (ko0 (by omega)) rfl rfl (Nat.le_of_ble_eq_true rfl) (by decide +kernel) (by decide +kernel) d310_59 (fun I hI => ?_)
    refine x_istore (pc := 62) (by decide +kernel) rfl d310_62 ?_
    dsimp only [List.set]
    refine x_aload_n (pc := 64) rfl d310_64 ?_
    refine x_qVs (pc := 65) c310_133 (qa (cm122 (E := fun _ => 0) hl (by decide) hI)) (ko0 (by omega)) rfl rfl (Nat.le_of_ble_eq_true rfl) (by decide +kernel) (by decide +kernel) d310_65 (fun I hI => ?_)
    refine x_istore (pc := 68) (by decide +kernel) rfl d310_68 ?_
    dsimp only [List.set]
    refine x_aload_n (pc := 70) rfl d310_70 ?_
    refine x_iconst (pc := 71) d310_71 ?_
    refine x_iconst (pc := 72) d310_72 ?_
    refine x_iconst (pc := 73) d310_73 ?_
    refine x_iconst (pc := 74) d310_74 ?_
    obtain ⟨q1, q2, q3⟩ := pendA_r (A := gA S) (by omega)
    have em : mkS 1 (gA S) = (1, attA (gA S) (pendA (gA S))) := by
      show (if pendA (gA S) = -1 then (0, gA S) else ((0 : Int) + 1, attA (gA S) (pendA (gA S)))) = _
      rw [if_neg (by omega)]
      rfl
    have ha := att_ok hS.1 hPi q1 q2 q3
    refine ex_le (B' := 12 + 1) (by omega) rfl ?_
    refine x_qW (pc := 75) (B0 := 1) (As := [.ref 0, .int (iI 1), .int (iI 1), .int (iI 0), .int (iI 0)]) (rest := []) c310_240 (ct_trans (z := 1) hl hS hL (by decide) (by omega) hI) rfl rfl (Nat.le_of_ble_eq_true rfl) (by decide +kernel) (by decide +kernel) d310_75 (fun K hK => ?_)
    obtain ⟨S2, m1, m2, m3, m4, m5⟩ := hK
    rw [em] at m4 ⊢
    have m4 : gA S2 = attA (gA S) (pendA (gA S)) := m4
    rw [← m4] at ha
    refine tr_end hl m2 (fun K h => ⟨S2, h, m2, m3, m4, Or.inr m5⟩) m1 q1 (by rw [ha.f6]; exact q2) hre (by omega) (hfr q1) (by omega) (by omega) (by omega) ha.at8 ?_ ?_ ha.un ha.la ?_ ha.np
    · rw [ha.ck, ha.c6, ha.b0, Int.mul_comm (gA S 6 (pendA (gA S)) * 8 + 8), show gA S 6 (pendA (gA S)) * 8 + 8 = 8 * gA S 6 (pendA (gA S)) + 8 from by omega]
    · rw [ha.bs, ha.c6]; omega
    · rw [ha.st]
      by_cases d : resA (gA S) (pendA (gA S)) (max (gA S 0 7) (gA S 0 8)) (gA S 0 0) = 0
      · rw [if_pos d]; exact ⟨fun _ => d, fun _ => rfl⟩
      · rw [if_neg d]
        refine ⟨fun h => ?_, fun h => absurd h d⟩
        exfalso
        split at h <;> omega
  · refine x_aload_n (pc := 9) rfl d310_9 ?_
    refine x_iconst (pc := 10) d310_10 ?_
    refine x_iconst (pc := 11) d310_11 ?_
    refine x_iconst (pc := 12) d310_12 ?_
    refine x_iconst (pc := 13) d310_13 ?_
    refine x_mask [false, false, true, true, true, true, true, true] ?_
    dsimp only [mask]
    have em : mkS 1 (gA S) = (0, gA S) := by
      show (if pendA (gA S) = -1 then (0, gA S) else ((0 : Int) + 1, attA (gA S) (pendA (gA S)))) = _
      rw [if_pos (by omega)]
    refine ex_le (B' := 12 + 1) (by omega) rfl ?_
    refine x_qW (pc := 14) (B0 := 1) (As := [.ref 0, .int (iI 1), .int (iI 1), .int (iI 0), .int (iI 0)]) (rest := []) c310_240 (ct_trans (z := 1) hl hS hL (by decide) (by omega) hI) rfl rfl (Nat.le_of_ble_eq_true rfl) (by decide +kernel) (by decide +kernel) d310_14 (fun K hK => ?_)
    obtain ⟨S2, m1, m2, m3, m4, m5⟩ := hK
    rw [em]
    refine x_if_ne (pc := 17) (tgt := 24) ⟨by omega, by omega⟩ d310_17 (by decide) (fun z => absurd rfl z) (fun _ => ?_)
    refine x_iconst (pc := 20) d310_20 ?_
    refine x_goto (pc := 21) (tgt := 25) d310_21 (by decide) ?_
    refine x_zret rfl (Or.inr rfl) (fun z => Bool.noConfusion z) d310_25 ?_
    rw [em] at m4
    exact ⟨K, rfl, S2, m1, m2, m3, m4, Or.inr m5⟩
end Tries
