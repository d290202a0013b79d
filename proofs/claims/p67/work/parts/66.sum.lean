/-! ===== the law's sum of what can be asked ===== -/
section LSt
variable {y k n pc B : Nat} {L : LL} {st : List Value} {l : LX} {σ : MM} {Q : OO → Prop}
theorem x_lstore_n {i : Fin 4} {x : Int64} (hn : (i : Nat) + 1 < mlN y) (hi : ncA L i = true) (hd : decode (cdN y) pc = .ok (.lstore_n i, 1)) (kk : Ex l y k n (pc + 1) ((L.set i (some (.long x))).set ((i : Nat) + 1) none) st σ Q) : Ex l y k n pc L (.long x :: st) σ Q := by
  intro G p e R s m args below meth c A CE SE Qf hA hC hS hF H locs cells slots ls h1 h2 hL hW hR
  exact lv_lstore_n hA.2.1 hA.2.2.1 hd rfl hL.has hn rfl (fun ls' h' => kk G p e R s m args below meth c A CE SE Qf hA hC hS hF H locs cells slots ls' h1 h2 (hL.st2 hi h') hW hR)
theorem x_lstore {i : Nat} {x : Int64} (hn : i + 1 < mlN y) (hi : ncA L i = true) (hd : decode (cdN y) pc = .ok (.lstore i, 2)) (kk : Ex l y k n (pc + 2) ((L.set i (some (.long x))).set (i + 1) none) st σ Q) : Ex l y k n pc L (.long x :: st) σ Q := by
  intro G p e R s m args below meth c A CE SE Qf hA hC hS hF H locs cells slots ls h1 h2 hL hW hR
  exact lv_lstore hA.2.1 hA.2.2.1 hd hL.has hn rfl (fun ls' h' => kk G p e R s m args below meth c A CE SE Qf hA hC hS hF H locs cells slots ls' h1 h2 (hL.st2 hi h') hW hR)
end LSt
section Quest
variable {l : LX} {I : Nat → Int → Int} {v : Int} {S : GS}
/-- the byte with which a frame has arrived -/
def abA (A : AV) (f i : Int) : Int := if A 9 f = 1 ∧ 0 ≤ i ∧ i < A 6 f then A 11 (6 * f + i) else -1
theorem qFB (hl : l.1.stackTraces = false) (h : CREL I S) (hS : GOK S) {f i : Int} (h0 : 0 ≤ f) (h1 : f < gA S 0 6) (i0 : 0 ≤ i) (i1 : i < gA S 6 f) (hf : InR f) (hi : InR i) : CT l 96 [.ref 0, .int (iI f), .int (iI i)] (mm 181 I v false) 1 6 (oE 181 v false (some (.int (iI (gA S 10 (6 * f + i))))) (fun K => CREL K S)) := by
  have := qb (isF_t h0 h1) (cm96 (v := v) hl (by decide) h hS hf hi)
  rw [if_pos ⟨i0, i1⟩] at this
  exact this
theorem qAB (hl : l.1.stackTraces = false) (h : CREL I S) (hS : GOK S) {f i : Int} (h0 : 0 ≤ f) (h1 : f < gA S 0 6) (hf : InR f) (hi : InR i) : CT l 101 [.ref 0, .int (iI f), .int (iI i)] (mm 181 I v false) 1 6 (oE 181 v false (some (.int (iI (abA (gA S) f i)))) (fun K => CREL K S)) := qb (isF_t h0 h1) (cm101 (v := v) hl (by decide) h hS hf hi)
theorem fr48 (hS : GOK S) : gA S 0 6 ≤ 48 := by
  have := hS.1.fr; have := hS.1.ms; omega
theorem frm {f : Int} (hS : GOK S) (h0 : 0 ≤ f) (h1 : f < gA S 0 6) : (3 ≤ gA S 6 f ∧ gA S 6 f ≤ 6) ∧ (0 ≤ gA S 7 f ∧ gA S 7 f ≤ 2) ∧ (0 ≤ gA S 8 f ∧ gA S 8 f ≤ 9) := by
  have g := hS.1.frm f h0 h1
  exact ⟨g.1, g.2.1, g.2.2.1⟩
theorem abA_r (h : CREL I S) (hS : GOK S) (f i : Int) : -1 ≤ abA (gA S) f i ∧ abA (gA S) f i ≤ 255 := by
  have := h.h11 hS (6 * f + i)
  unfold abA
  split <;> omega
theorem stA_r (A : AV) (m : Int) : 0 ≤ stA A m ∧ stA A m ≤ 2 := by
  unfold stA
  split
  · decide
  · split <;> decide
theorem cB_v : cB = 2450880 := rfl
end Quest
def sum0 (A : AV) : Int := 31 * (31 * A 0 7 + A 0 8) + A 0 1 + 7 * A 0 4 + 11 * A 0 10 + 13 * A 0 11 + 17 * A 0 12 + 19 * A 0 14 + 23 * A 0 15 + 29 * A 0 16
def sumM (A : AV) : Nat → Int → Int → Int
  | 0, _, s => s
  | n + 1, k, s => sumM A n (k + 1) (31 * s + A 4 k + 7 * stA A k)
def sumI (A : AV) (f : Int) : Nat → Int → Int → Int
  | 0, _, s => s
  | n + 1, i, s => sumI A f n (i + 1) (31 * s + A 10 (6 * f + i) + 257 * abA A f i)
def sumR (A : AV) : Nat → Int → Int → Int
  | 0, _, s => s
  | n + 1, k, s => sumR A n (k + 1) (sumI A k (A 6 k).toNat 0 (31 * s + A 7 k + 7 * A 8 k))
def sumT (A : AV) : Nat → Int → Int → Int
  | 0, _, s => s
  | n + 1, t, s => sumT A n (t + 1) (31 * s + (if chewA A (7 * t) = true then 1 else 0))
def sumA (A : AV) : Int := sumT A 60 0 (sumR A (A 0 6).toNat 0 (sumM A (A 0 5).toNat 0 (sum0 A)))
section Sum
variable {l : LX} {v : Int} {S : GS} {Q : OO → Prop}
theorem lp_sumT (hl : l.1.stackTraces = false) (hS : GOK S) {B2 : Nat} : ∀ (m : Nat) (t s : Int) (I : Nat → Int → Int), m + t = 60 → 0 ≤ t → CREL I S →
    (∀ I, CREL I S → Ex l 305 B2 (6 * B2) 263 [none, some (.long (lL (sumT (gA S) m t s))), none, none, none] [] (mm 181 I v false) Q) → Ex l 305 (B2 + m) (6 * (B2 + m)) 227 [some (.ref 0), some (.long (lL s)), none, some (.int (iI t)), none] [] (mm 181 I v false) Q := by
  intro m
  induction m with
  | zero =>
    intro t s I hm h0 hI hk
    refine ex_le (B' := B2) (by omega) rfl ?_
    refine x_iload_n (pc := 227) rfl d305_227 ?_
    refine x_bipush (pc := 228) (by decide) d305_228 ?_
    refine x_icmp_ge (pc := 230) (tgt := 263) ⟨by omega, by omega⟩ ⟨by omega, by omega⟩ d305_230 (by decide) (fun _ => ?_) (fun _ => by exfalso; omega)
    refine x_mask [false, true, true, false, true] ?_
    exact hk I hI
  | succ m ih =>
    intro t s I hm h0 hI hk
    refine x_iload_n (pc := 227) rfl d305_227 ?_
    refine x_bipush (pc := 228) (by decide) d305_228 ?_
    refine x_icmp_ge (pc := 230) (tgt := 263) ⟨by omega, by omega⟩ ⟨by omega, by omega⟩ d305_230 (by decide) (fun g230 => ?_) (fun g230 => ?_)
    · refine x_mask [false, true, true, false, true] ?_
      dsimp only [mask]
      exfalso; omega
    · refine x_ldc2 (pc := 233) (z := 31) k305_90 (by decide) d305_233 ?_
      refine x_lload_n (pc := 236) rfl d305_236 ?_
      refine x_lmul (pc := 237) d305_237 ?_
      refine x_aload_n (pc := 238) rfl d305_238 ?_
      refine x_bipush (pc := 239) (by decide) d305_239 ?_
      refine x_iload_n (pc := 241) rfl d305_241 ?_
      refine x_imul (pc := 242) d305_242 ?_
      refine x_qVs (pc := 243) c305_166 (qb (isT_t (by omega) (by omega)) (cm86 hl (by decide) hI hS ⟨by omega, by omega⟩)) (ko0 (by omega)) rfl rfl (Nat.le_of_ble_eq_true rfl) (by decide +kernel) (by decide +kernel) d305_243 (fun I hI => ?_)
      refine x_ifB_eq (pc := 246) (tgt := 253) d305_246 (by decide) (fun g246 => ?_) (fun g246 => ?_)
      · refine x_iconst (pc := 253) d305_253 ?_
        refine x_i2l (pc := 254) ⟨by omega, by omega⟩ d305_254 ?_
        refine x_ladd (pc := 255) d305_255 ?_
        refine x_lstore_n (pc := 256) (by decide +kernel) rfl d305_256 ?_
        dsimp only [List.set]
        refine x_iinc (pc := 257) rfl (by decide +kernel) rfl d305_257 ?_
        dsimp only [List.set]
        refine x_goto (pc := 260) (tgt := 227) d305_260 (by decide) ?_
        refine ih (t + 1) _ I (by omega) (by omega) hI (fun I hI => ?_)
        have := hk I hI
        rw [show sumT (gA S) (m + 1) t s = sumT (gA S) m (t + 1) (31 * s + (if chewA (gA S) (7 * t) = true then 1 else 0)) from rfl, if_neg (by rw [g246]; decide)] at this
        exact this
      · refine x_iconst (pc := 249) d305_249 ?_
        refine x_goto (pc := 250) (tgt := 254) d305_250 (by decide) ?_
        refine x_i2l (pc := 254) ⟨by omega, by omega⟩ d305_254 ?_
        refine x_ladd (pc := 255) d305_255 ?_
        refine x_lstore_n (pc := 256) (by decide +kernel) rfl d305_256 ?_
        dsimp only [List.set]
        refine x_iinc (pc := 257) rfl (by decide +kernel) rfl d305_257 ?_
        dsimp only [List.set]
        refine x_goto (pc := 260) (tgt := 227) d305_260 (by decide) ?_
        refine ih (t + 1) _ I (by omega) (by omega) hI (fun I hI => ?_)
        have := hk I hI
        rw [show sumT (gA S) (m + 1) t s = sumT (gA S) m (t + 1) (31 * s + (if chewA (gA S) (7 * t) = true then 1 else 0)) from rfl, if_pos g246] at this
        exact this
theorem lp_sumM (hl : l.1.stackTraces = false) (hS : GOK S) {B2 : Nat} : ∀ (m : Nat) (k s : Int) (I : Nat → Int → Int), m + k = gA S 0 5 → 0 ≤ k → CREL I S →
    (∀ I, CREL I S → Ex l 305 B2 (6 * B2) 138 [some (.ref 0), some (.long (lL (sumM (gA S) m k s))), none, none, none] [] (mm 181 I v false) Q) → Ex l 305 (B2 + (3 * m + 1)) (6 * (B2 + (3 * m + 1))) 100 [some (.ref 0), some (.long (lL s)), none, some (.int (iI k)), none] [] (mm 181 I v false) Q := by
  have hms := hS.1.ms
  intro m
  induction m with
  | zero =>
    intro k s I hm h0 hI hk
    refine ex_le (B' := B2 + 1) (by omega) rfl ?_
    refine x_iload_n (pc := 100) rfl d305_100 ?_
    refine x_aload_n (pc := 101) rfl d305_101 ?_
    refine x_qVs (pc := 102) c305_136 (qa (cm90 (E := fun _ => 0) hl (by decide) hI)) (ko0 (by omega)) rfl rfl (Nat.le_of_ble_eq_true rfl) (by decide +kernel) (by decide +kernel) d305_102 (fun I hI => ?_)
    refine x_icmp_ge (pc := 105) (tgt := 138) ⟨by omega, by omega⟩ ⟨by omega, by omega⟩ d305_105 (by decide) (fun _ => ?_) (fun _ => by exfalso; omega)
    refine x_mask [true, true, true, false, true] ?_
    exact hk I hI
  | succ m ih =>
    intro k s I hm h0 hI hk
    have hml := (hS.1.msg k h0 (by omega)).1
    have hst := stA_r (gA S) k
    refine ex_le (B' := B2 + (3 * m + 1) + 3) (by omega) rfl ?_
    refine x_iload_n (pc := 100) rfl d305_100 ?_
    refine x_aload_n (pc := 101) rfl d305_101 ?_
    refine x_qVs (pc := 102) c305_136 (qa (cm90 (E := fun _ => 0) hl (by decide) hI)) (ko0 (by omega)) rfl rfl (Nat.le_of_ble_eq_true rfl) (by decide +kernel) (by decide +kernel) d305_102 (fun I hI => ?_)
    refine x_icmp_ge (pc := 105) (tgt := 138) ⟨by omega, by omega⟩ ⟨by omega, by omega⟩ d305_105 (by decide) (fun g105 => ?_) (fun g105 => ?_)
    · refine x_mask [true, true, true, false, true] ?_
      dsimp only [mask]
      exfalso; omega
    · refine x_ldc2 (pc := 108) (z := 31) k305_90 (by decide) d305_108 ?_
      refine x_lload_n (pc := 111) rfl d305_111 ?_
      refine x_lmul (pc := 112) d305_112 ?_
      refine x_aload_n (pc := 113) rfl d305_113 ?_
      refine x_iload_n (pc := 114) rfl d305_114 ?_
      refine x_qVs (pc := 115) c305_139 (qb (isM_t (by omega) (by omega)) (cm91 hl (by decide) hI hS ⟨by omega, by omega⟩)) (ko0 (by omega)) rfl rfl (Nat.le_of_ble_eq_true rfl) (by decide +kernel) (by decide +kernel) d305_115 (fun I hI => ?_)
      refine x_i2l (pc := 118) ⟨by omega, by omega⟩ d305_118 ?_
      refine x_ladd (pc := 119) d305_119 ?_
      refine x_ldc2 (pc := 120) (z := 7) k305_101 (by decide) d305_120 ?_
      refine x_aload_n (pc := 123) rfl d305_123 ?_
      refine x_iload_n (pc := 124) rfl d305_124 ?_
      refine x_qVs (pc := 125) c305_142 (qb (isM_t (by omega) (by omega)) (cm92 hl (by decide) hI hS ⟨by omega, by omega⟩)) (ko0 (by omega)) rfl rfl (Nat.le_of_ble_eq_true rfl) (by decide +kernel) (by decide +kernel) d305_125 (fun I hI => ?_)
      refine x_i2l (pc := 128) ⟨by omega, by omega⟩ d305_128 ?_
      refine x_lmul (pc := 129) d305_129 ?_
      refine x_ladd (pc := 130) d305_130 ?_
      refine x_lstore_n (pc := 131) (by decide +kernel) rfl d305_131 ?_
      dsimp only [List.set]
      refine x_iinc (pc := 132) rfl (by decide +kernel) rfl d305_132 ?_
      dsimp only [List.set]
      refine x_goto (pc := 135) (tgt := 100) d305_135 (by decide) ?_
      exact ih (k + 1) _ I (by omega) (by omega) hI hk
theorem lp_sumI (hl : l.1.stackTraces = false) (hS : GOK S) {B2 : Nat} {f : Int} (f0 : 0 ≤ f) (f1 : f < gA S 0 6) : ∀ (m : Nat) (i s : Int) (I : Nat → Int → Int), m + i = gA S 6 f → 0 ≤ i → CREL I S →
    (∀ I, CREL I S → Ex l 305 B2 (6 * B2) 219 [some (.ref 0), some (.long (lL (sumI (gA S) f m i s))), none, some (.int (iI f)), none] [] (mm 181 I v false) Q) → Ex l 305 (B2 + (3 * m + 1)) (6 * (B2 + (3 * m + 1))) 175 [some (.ref 0), some (.long (lL s)), none, some (.int (iI f)), some (.int (iI i))] [] (mm 181 I v false) Q := by
  have hF := frm hS f0 f1
  have h48 := fr48 hS
  intro m
  induction m with
  | zero =>
    intro i s I hm h0 hI hk
    refine ex_le (B' := B2 + 1) (by omega) rfl ?_
    refine x_iload (pc := 175) rfl d305_175 ?_
    refine x_aload_n (pc := 177) rfl d305_177 ?_
    refine x_iload_n (pc := 178) rfl d305_178 ?_
    refine x_qVs (pc := 179) c305_154 (qb (isF_t (by omega) (by omega)) (cm95 hl (by decide) hI hS ⟨by omega, by omega⟩)) (ko0 (by omega)) rfl rfl (Nat.le_of_ble_eq_true rfl) (by decide +kernel) (by decide +kernel) d305_179 (fun I hI => ?_)
    refine x_icmp_ge (pc := 182) (tgt := 219) ⟨by omega, by omega⟩ ⟨by omega, by omega⟩ d305_182 (by decide) (fun _ => ?_) (fun _ => by exfalso; omega)
    refine x_mask [true, true, true, true, false] ?_
    exact hk I hI
  | succ m ih =>
    intro i s I hm h0 hI hk
    have hb := hS.1.byt (6 * f + i)
    have ha := abA_r hI hS f i
    refine ex_le (B' := B2 + (3 * m + 1) + 3) (by omega) rfl ?_
    refine x_iload (pc := 175) rfl d305_175 ?_
    refine x_aload_n (pc := 177) rfl d305_177 ?_
    refine x_iload_n (pc := 178) rfl d305_178 ?_
    refine x_qVs (pc := 179) c305_154 (qb (isF_t (by omega) (by omega)) (cm95 hl (by decide) hI hS ⟨by omega, by omega⟩)) (ko0 (by omega)) rfl rfl (Nat.le_of_ble_eq_true rfl) (by decide +kernel) (by decide +kernel) d305_179 (fun I hI => ?_)
    refine x_icmp_ge (pc := 182) (tgt := 219) ⟨by omega, by omega⟩ ⟨by omega, by omega⟩ d305_182 (by decide) (fun g182 => ?_) (fun g182 => ?_)
    · refine x_mask [true, true, true, true, false] ?_
      dsimp only [mask]
      exfalso; omega
    · refine x_ldc2 (pc := 185) (z := 31) k305_90 (by decide) d305_185 ?_
      refine x_lload_n (pc := 188) rfl d305_188 ?_
      refine x_lmul (pc := 189) d305_189 ?_
      refine x_aload_n (pc := 190) rfl d305_190 ?_
      refine x_iload_n (pc := 191) rfl d305_191 ?_
      refine x_iload (pc := 192) rfl d305_192 ?_
      refine x_qVs (pc := 194) c305_157 (qFB hl hI hS (by omega) (by omega) (by omega) (by omega) ⟨by omega, by omega⟩ ⟨by omega, by omega⟩) (ko0 (by omega)) rfl rfl (Nat.le_of_ble_eq_true rfl) (by decide +kernel) (by decide +kernel) d305_194 (fun I hI => ?_)
      refine x_i2l (pc := 197) ⟨by omega, by omega⟩ d305_197 ?_
      refine x_ladd (pc := 198) d305_198 ?_
      refine x_ldc2 (pc := 199) (z := 257) k305_161 (by decide) d305_199 ?_
      refine x_aload_n (pc := 202) rfl d305_202 ?_
      refine x_iload_n (pc := 203) rfl d305_203 ?_
      refine x_iload (pc := 204) rfl d305_204 ?_
      refine x_qVs (pc := 206) c305_163 (qAB hl hI hS (by omega) (by omega) ⟨by omega, by omega⟩ ⟨by omega, by omega⟩) (ko0 (by omega)) rfl rfl (Nat.le_of_ble_eq_true rfl) (by decide +kernel) (by decide +kernel) d305_206 (fun I hI => ?_)
      refine x_i2l (pc := 209) ⟨by omega, by omega⟩ d305_209 ?_
      refine x_lmul (pc := 210) d305_210 ?_
      refine x_ladd (pc := 211) d305_211 ?_
      refine x_lstore_n (pc := 212) (by decide +kernel) rfl d305_212 ?_
      dsimp only [List.set]
      refine x_iinc (pc := 213) rfl (by decide +kernel) rfl d305_213 ?_
      dsimp only [List.set]
      refine x_goto (pc := 216) (tgt := 175) d305_216 (by decide) ?_
      exact ih (i + 1) _ I (by omega) (by omega) hI hk
theorem lp_sumR (hl : l.1.stackTraces = false) (hS : GOK S) {B2 : Nat} : ∀ (m : Nat) (k s : Int) (I : Nat → Int → Int), m + k = gA S 0 6 → 0 ≤ k → CREL I S →
    (∀ I, CREL I S → Ex l 305 B2 (6 * B2) 225 [some (.ref 0), some (.long (lL (sumR (gA S) m k s))), none, none, none] [] (mm 181 I v false) Q) → Ex l 305 (B2 + (22 * m + 1)) (6 * (B2 + (22 * m + 1))) 140 [some (.ref 0), some (.long (lL s)), none, some (.int (iI k)), none] [] (mm 181 I v false) Q := by
  have h48 := fr48 hS
  intro m
  induction m with
  | zero =>
    intro k s I hm h0 hI hk
    refine ex_le (B' := B2 + 1) (by omega) rfl ?_
    refine x_iload_n (pc := 140) rfl d305_140 ?_
    refine x_aload_n (pc := 141) rfl d305_141 ?_
    refine x_qVs (pc := 142) c305_145 (qa (cm94 (E := fun _ => 0) hl (by decide) hI)) (ko0 (by omega)) rfl rfl (Nat.le_of_ble_eq_true rfl) (by decide +kernel) (by decide +kernel) d305_142 (fun I hI => ?_)
    refine x_icmp_ge (pc := 145) (tgt := 225) ⟨by omega, by omega⟩ ⟨by omega, by omega⟩ d305_145 (by decide) (fun _ => ?_) (fun _ => by exfalso; omega)
    refine x_mask [true, true, true, false, true] ?_
    exact hk I hI
  | succ m ih =>
    intro k s I hm h0 hI hk
    have hF := frm hS h0 (by omega : k < gA S 0 6)
    refine ex_le (B' := B2 + (22 * m + 1) + (3 * (gA S 6 k).toNat + 1) + 3) (by omega) rfl ?_
    refine x_iload_n (pc := 140) rfl d305_140 ?_
    refine x_aload_n (pc := 141) rfl d305_141 ?_
    refine x_qVs (pc := 142) c305_145 (qa (cm94 (E := fun _ => 0) hl (by decide) hI)) (ko0 (by omega)) rfl rfl (Nat.le_of_ble_eq_true rfl) (by decide +kernel) (by decide +kernel) d305_142 (fun I hI => ?_)
    refine x_icmp_ge (pc := 145) (tgt := 225) ⟨by omega, by omega⟩ ⟨by omega, by omega⟩ d305_145 (by decide) (fun g145 => ?_) (fun g145 => ?_)
    · refine x_mask [true, true, true, false, true] ?_
      dsimp only [mask]
      exfalso; omega
    · refine x_ldc2 (pc := 148) (z := 31) k305_90 (by decide) d305_148 ?_
      refine x_lload_n (pc := 151) rfl d305_151 ?_
      refine x_lmul (pc := 152) d305_152 ?_
      refine x_aload_n (pc := 153) rfl d305_153 ?_
      refine x_iload_n (pc := 154) rfl d305_154 ?_
      refine x_qVs (pc := 155) c305_148 (qb (isF_t (by omega) (by omega)) (cm98 hl (by decide) hI hS ⟨by omega, by omega⟩)) (ko0 (by omega)) rfl rfl (Nat.le_of_ble_eq_true rfl) (by decide +kernel) (by decide +kernel) d305_155 (fun I hI => ?_)
      refine x_i2l (pc := 158) ⟨by omega, by omega⟩ d305_158 ?_
      refine x_ladd (pc := 159) d305_159 ?_
      refine x_ldc2 (pc := 160) (z := 7) k305_101 (by decide) d305_160 ?_
      refine x_aload_n (pc := 163) rfl d305_163 ?_
      refine x_iload_n (pc := 164) rfl d305_164 ?_
      refine x_qVs (pc := 165) c305_151 (qb (isF_t (by omega) (by omega)) (cm99 hl (by decide) hI hS ⟨by omega, by omega⟩)) (ko0 (by omega)) rfl rfl (Nat.le_of_ble_eq_true rfl) (by decide +kernel) (by decide +kernel) d305_165 (fun I hI => ?_)
      refine x_i2l (pc := 168) ⟨by omega, by omega⟩ d305_168 ?_
      refine x_lmul (pc := 169) d305_169 ?_
      refine x_ladd (pc := 170) d305_170 ?_
      refine x_lstore_n (pc := 171) (by decide +kernel) rfl d305_171 ?_
      dsimp only [List.set]
      refine x_iconst (pc := 172) d305_172 ?_
      refine x_istore (pc := 173) (by decide +kernel) rfl d305_173 ?_
      dsimp only [List.set]
      refine lp_sumI hl hS h0 (by omega) (gA S 6 k).toNat 0 _ I (by omega) (by decide) hI (fun I hI => ?_)
      refine x_iinc (pc := 219) (z := k) rfl (by decide +kernel) rfl d305_219 ?_
      dsimp only [List.set]
      refine x_goto (pc := 222) (tgt := 140) d305_222 (by decide) ?_
      exact ih (k + 1) _ I (by omega) (by omega) hI hk
theorem ct_sum (hl : l.1.stackTraces = false) (hS : GOK S) {I : Nat → Int → Int} (hI : CREL I S) : CT l 305 [.ref 0] (mm 181 I v false) 1200 (6 * 1200) (oE 181 v false (some (.long (lL (sumA (gA S))))) (fun K => CREL K S)) := by
  have h48 := fr48 hS
  obtain ⟨r1, r2, r3, r4, r5, r6, r7, r8, r9, r10⟩ := hS.1.rg
  have hc := cB_v
  have c10 := hS.1.ct 10 (by decide) (by decide)
  have c11 := hS.1.ct 11 (by decide) (by decide)
  have c12 := hS.1.ct 12 (by decide) (by decide)
  have c14 := hS.1.ct 14 (by decide) (by decide)
  have c15 := hS.1.ct 15 (by decide) (by decide)
  have c16 := hS.1.ct 16 (by decide) (by decide)
  refine mkct2 hl (by decide) (Nat.le_of_ble_eq_true rfl) (L := [some (.ref 0), none, none, none, none]) rfl ?_
  refine x_ldc2 (pc := 0) (z := 31) k305_90 (by decide) d305_0 ?_
  refine x_aload_n (pc := 3) rfl d305_3 ?_
  refine x_qVs (pc := 4) c305_92 (qa (cm82 (E := fun _ => 0) hl (by decide) hI)) (ko0 (by omega)) rfl rfl (Nat.le_of_ble_eq_true rfl) (by decide +kernel) (by decide +kernel) d305_4 (fun I hI => ?_)
  refine x_i2l (pc := 7) ⟨by omega, by omega⟩ d305_7 ?_
  refine x_lmul (pc := 8) d305_8 ?_
  refine x_aload_n (pc := 9) rfl d305_9 ?_
  refine x_qVs (pc := 10) c305_95 (qa (cm114 (E := fun _ => 0) hl (by decide) hI)) (ko0 (by omega)) rfl rfl (Nat.le_of_ble_eq_true rfl) (by decide +kernel) (by decide +kernel) d305_10 (fun I hI => ?_)
  refine x_i2l (pc := 13) ⟨by omega, by omega⟩ d305_13 ?_
  refine x_ladd (pc := 14) d305_14 ?_
  refine x_lstore_n (pc := 15) (by decide +kernel) rfl d305_15 ?_
  dsimp only [List.set]
  refine x_ldc2 (pc := 16) (z := 31) k305_90 (by decide) d305_16 ?_
  refine x_lload_n (pc := 19) rfl d305_19 ?_
  refine x_lmul (pc := 20) d305_20 ?_
  refine x_aload_n (pc := 21) rfl d305_21 ?_
  refine x_qVs (pc := 22) c305_98 (qa (cm84 (E := fun _ => 0) hl (by decide) hI)) (ko0 (by omega)) rfl rfl (Nat.le_of_ble_eq_true rfl) (by decide +kernel) (by decide +kernel) d305_22 (fun I hI => ?_)
  refine x_i2l (pc := 25) ⟨by omega, by omega⟩ d305_25 ?_
  refine x_ladd (pc := 26) d305_26 ?_
  refine x_ldc2 (pc := 27) (z := 7) k305_101 (by decide) d305_27 ?_
  refine x_aload_n (pc := 30) rfl d305_30 ?_
  refine x_qVs (pc := 31) c305_103 (qa (cm85 (E := fun _ => 0) hl (by decide) hI)) (ko0 (by omega)) rfl rfl (Nat.le_of_ble_eq_true rfl) (by decide +kernel) (by decide +kernel) d305_31 (fun I hI => ?_)
  refine x_i2l (pc := 34) ⟨by omega, by omega⟩ d305_34 ?_
  refine x_lmul (pc := 35) d305_35 ?_
  refine x_ladd (pc := 36) d305_36 ?_
  refine x_ldc2 (pc := 37) (z := 11) k305_106 (by decide) d305_37 ?_
  refine x_aload_n (pc := 40) rfl d305_40 ?_
  refine x_qVs (pc := 41) c305_108 (qa (cm117 (E := fun _ => 0) hl (by decide) hI)) (ko0 (by omega)) rfl rfl (Nat.le_of_ble_eq_true rfl) (by decide +kernel) (by decide +kernel) d305_41 (fun I hI => ?_)
  refine x_i2l (pc := 44) ⟨by omega, by omega⟩ d305_44 ?_
  refine x_lmul (pc := 45) d305_45 ?_
  refine x_ladd (pc := 46) d305_46 ?_
  refine x_ldc2 (pc := 47) (z := 13) k305_111 (by decide) d305_47 ?_
  refine x_aload_n (pc := 50) rfl d305_50 ?_
  refine x_qVs (pc := 51) c305_113 (qa (cm118 (E := fun _ => 0) hl (by decide) hI)) (ko0 (by omega)) rfl rfl (Nat.le_of_ble_eq_true rfl) (by decide +kernel) (by decide +kernel) d305_51 (fun I hI => ?_)
  refine x_i2l (pc := 54) ⟨by omega, by omega⟩ d305_54 ?_
  refine x_lmul (pc := 55) d305_55 ?_
  refine x_ladd (pc := 56) d305_56 ?_
  refine x_ldc2 (pc := 57) (z := 17) k305_116 (by decide) d305_57 ?_
  refine x_aload_n (pc := 60) rfl d305_60 ?_
  refine x_qVs (pc := 61) c305_118 (qa (cm119 (E := fun _ => 0) hl (by decide) hI)) (ko0 (by omega)) rfl rfl (Nat.le_of_ble_eq_true rfl) (by decide +kernel) (by decide +kernel) d305_61 (fun I hI => ?_)
  refine x_i2l (pc := 64) ⟨by omega, by omega⟩ d305_64 ?_
  refine x_lmul (pc := 65) d305_65 ?_
  refine x_ladd (pc := 66) d305_66 ?_
  refine x_ldc2 (pc := 67) (z := 19) k305_121 (by decide) d305_67 ?_
  refine x_aload_n (pc := 70) rfl d305_70 ?_
  refine x_qVs (pc := 71) c305_123 (qa (cm120 (E := fun _ => 0) hl (by decide) hI)) (ko0 (by omega)) rfl rfl (Nat.le_of_ble_eq_true rfl) (by decide +kernel) (by decide +kernel) d305_71 (fun I hI => ?_)
  refine x_i2l (pc := 74) ⟨by omega, by omega⟩ d305_74 ?_
  refine x_lmul (pc := 75) d305_75 ?_
  refine x_ladd (pc := 76) d305_76 ?_
  refine x_ldc2 (pc := 77) (z := 23) k305_126 (by decide) d305_77 ?_
  refine x_aload_n (pc := 80) rfl d305_80 ?_
  refine x_qVs (pc := 81) c305_128 (qa (cm121 (E := fun _ => 0) hl (by decide) hI)) (ko0 (by omega)) rfl rfl (Nat.le_of_ble_eq_true rfl) (by decide +kernel) (by decide +kernel) d305_81 (fun I hI => ?_)
  refine x_i2l (pc := 84) ⟨by omega, by omega⟩ d305_84 ?_
  refine x_lmul (pc := 85) d305_85 ?_
  refine x_ladd (pc := 86) d305_86 ?_
  refine x_ldc2 (pc := 87) (z := 29) k305_131 (by decide) d305_87 ?_
  refine x_aload_n (pc := 90) rfl d305_90 ?_
  refine x_qVs (pc := 91) c305_133 (qa (cm122 (E := fun _ => 0) hl (by decide) hI)) (ko0 (by omega)) rfl rfl (Nat.le_of_ble_eq_true rfl) (by decide +kernel) (by decide +kernel) d305_91 (fun I hI => ?_)
  refine x_i2l (pc := 94) ⟨by omega, by omega⟩ d305_94 ?_
  refine x_lmul (pc := 95) d305_95 ?_
  refine x_ladd (pc := 96) d305_96 ?_
  refine x_lstore_n (pc := 97) (by decide +kernel) rfl d305_97 ?_
  dsimp only [List.set]
  refine x_iconst (pc := 98) d305_98 ?_
  refine x_istore_n (pc := 99) (by decide +kernel) rfl d305_99 ?_
  dsimp only [List.set]
  refine ex_le (B' := 60 + (22 * (gA S 0 6).toNat + 1) + (3 * (gA S 0 5).toNat + 1)) (by omega) rfl ?_
  refine lp_sumM hl hS (gA S 0 5).toNat 0 _ I (by omega) (by decide) hI (fun I hI => ?_)
  refine x_iconst (pc := 138) d305_138 ?_
  refine x_istore_n (pc := 139) (by decide +kernel) rfl d305_139 ?_
  refine lp_sumR hl hS (gA S 0 6).toNat 0 _ I (by omega) (by decide) hI (fun I hI => ?_)
  refine x_iconst (pc := 225) d305_225 ?_
  refine x_istore_n (pc := 226) (by decide +kernel) rfl d305_226 ?_
  refine ex_le (B' := 0 + 60) (by omega) rfl ?_
  refine lp_sumT hl hS 60 0 _ I (by decide) (by decide) hI (fun I hI => ?_)
  refine x_lload_n (pc := 263) rfl d305_263 ?_
  exact x_lret rfl (fun z => Bool.noConfusion z) d305_264 ⟨I, rfl, hI⟩
end Sum
