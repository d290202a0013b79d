/-! ===== the law's look at all that stands ===== -/
theorem order_self {d : Jvm.FP.Core.Datum} (h : d ≠ .nan) : Jvm.FP.Core.order d d = some .eq := by
  have c : ∀ x : Int, compare x x = Ordering.eq := fun x => by
    show compareOfLessAndEq x x = Ordering.eq
    unfold compareOfLessAndEq
    rw [if_neg (Int.lt_irrefl x), if_pos rfl]
  cases d with
  | nan => exact absurd rfl h
  | inf s => exact congrArg some (c _)
  | fin s m q => exact congrArg some (c _)
theorem dc_self {a : UInt64} (h : vf_n64 a) : Op.cmpValue (FP.dcmp a a) .l = iI 0 := by
  have e : FP.dcmp a a = some .eq := order_self (fun hn => by
    have h1 : a &&& 0x7fffffffffffffff ≤ 0x7ff0000000000000 := h
    rw [UInt64.le_iff_toNat_le, UInt64.toNat_and] at h1
    have h1 : a.toNat &&& 2 ^ 63 - 1 ≤ 9218868437227405312 := h1
    rw [Nat.and_two_pow_sub_one_eq_mod] at h1
    unfold Jvm.FP.Core.decode at hn
    by_cases g : Jvm.FP.Core.fieldE Jvm.FP.Core.b64 a.toNat = Jvm.FP.Core.b64.exps - 1
    · rw [if_pos g] at hn
      have g2 : a.toNat / 4503599627370496 % 2048 = 2047 := g
      have g3 : Jvm.FP.Core.fieldT Jvm.FP.Core.b64 a.toNat = 0 := by
        show a.toNat % 4503599627370496 = 0
        omega
      rw [if_pos g3] at hn
      cases hn
    · rw [if_neg g] at hn
      split at hn <;> cases hn)
  rw [e]
  rfl
theorem fc_self {a : UInt32} (h : vf_n32 a) : Op.cmpValue (FP.fcmp a a) .l = iI 0 := by
  have e : FP.fcmp a a = some .eq := order_self (fun hn => by
    have h1 : a &&& 0x7fffffff ≤ 0x7f800000 := h
    rw [UInt32.le_iff_toNat_le, UInt32.toNat_and] at h1
    have h1 : a.toNat &&& 2 ^ 31 - 1 ≤ 2139095040 := h1
    rw [Nat.and_two_pow_sub_one_eq_mod] at h1
    unfold Jvm.FP.Core.decode at hn
    by_cases g : Jvm.FP.Core.fieldE Jvm.FP.Core.b32 a.toNat = Jvm.FP.Core.b32.exps - 1
    · rw [if_pos g] at hn
      have g2 : a.toNat / 8388608 % 256 = 255 := g
      have g3 : Jvm.FP.Core.fieldT Jvm.FP.Core.b32 a.toNat = 0 := by
        show a.toNat % 8388608 = 0
        omega
      rw [if_pos g3] at hn
      cases hn
    · rw [if_neg g] at hn
      split at hn <;> cases hn)
  rw [e]
  rfl
section Cmp
variable {l : LX} {y k n pc B : Nat} {L : LL} {st : List Value} {σ : MM} {Q : OO → Prop}
theorem x_dceq {a b : UInt64} (e : a = b) (hn : vf_n64 b) (hd : decode (cdN y) pc = .ok (.dcmp .l, 1)) (kk : Ex l y k n (pc + 1) L (.int (iI 0) :: st) σ Q) : Ex l y k n pc L (.double b :: .double a :: st) σ Q := by
  subst e
  refine x_dcmp hd ?_
  rw [dc_self hn]
  exact kk
theorem x_fceq {a b : UInt32} (e : a = b) (hn : vf_n32 b) (hd : decode (cdN y) pc = .ok (.fcmp .l, 1)) (kk : Ex l y k n (pc + 1) L (.int (iI 0) :: st) σ Q) : Ex l y k n pc L (.float b :: .float a :: st) σ Q := by
  subst e
  refine x_fcmp hd ?_
  rw [fc_self hn]
  exact kk
end Cmp
theorem hasN_s {St : Int → Int} {c : Int} : ∀ (m : Nat) (i : Int), hasN St c (m + 1) i = (hasN St c m i || decide (St (i + m) = c))
  | 0, i => by
    show (decide (St i = c) || false) = (false || decide (St (i + ((0 : Nat) : Int)) = c))
    rw [Bool.or_false, Bool.false_or, show i + ((0 : Nat) : Int) = i from by omega]
  | m + 1, i => by
    show (decide (St i = c) || hasN St c (m + 1) (i + 1)) = ((decide (St i = c) || hasN St c m (i + 1)) || decide (St (i + ((m + 1 : Nat) : Int)) = c))
    rw [hasN_s m (i + 1), Bool.or_assoc, show i + 1 + (m : Int) = i + ((m + 1 : Nat) : Int) from by omega]
theorem pdN_s {St : Int → Int} : ∀ (m : Nat) (i : Int), 0 ≤ i → pdN St (m + 1) i = if pdN St m i < 0 then (if St (i + m) = 0 then i + m else -1) else pdN St m i
  | 0, i, h => by
    show (if St i = 0 then i else -1) = if (-1 : Int) < 0 then (if St (i + ((0 : Nat) : Int)) = 0 then i + ((0 : Nat) : Int) else -1) else -1
    rw [if_pos (show (-1 : Int) < 0 from by decide), show i + ((0 : Nat) : Int) = i from by omega]
  | m + 1, i, h => by
    show (if St i = 0 then i else pdN St (m + 1) (i + 1)) = if (if St i = 0 then i else pdN St m (i + 1)) < 0 then (if St (i + ((m + 1 : Nat) : Int)) = 0 then i + ((m + 1 : Nat) : Int) else -1) else (if St i = 0 then i else pdN St m (i + 1))
    by_cases d : St i = 0
    · rw [if_pos d, if_pos d, if_neg (by omega)]
    · rw [if_neg d, if_neg d, pdN_s m (i + 1) (by omega), show i + 1 + (m : Int) = i + ((m + 1 : Nat) : Int) from by omega]
def trS (A : AV) (n : Int) : Int := sumF (A 8) n.toNat
def akS (A : AV) (n : Int) : Int := sumF (fun f => if A 7 f = 1 then A 6 f - 2 else 0) n.toNat
def pdS (A : AV) (n : Int) : Int := pendD n (A 7)
theorem trS_s {A : AV} {n : Int} (h : 0 ≤ n) : trS A (n + 1) = trS A n + A 8 n := by
  unfold trS
  rw [show (n + 1).toNat = n.toNat + 1 from by omega, sumF_s, show ((n.toNat : Nat) : Int) = n from by omega]
theorem akS_s {A : AV} {n : Int} (h : 0 ≤ n) : akS A (n + 1) = akS A n + (if A 7 n = 1 then A 6 n - 2 else 0) := by
  unfold akS
  rw [show (n + 1).toNat = n.toNat + 1 from by omega, sumF_s, show ((n.toNat : Nat) : Int) = n from by omega]
theorem pdS_s {A : AV} {n : Int} (h : 0 ≤ n) : pdS A (n + 1) = if pdS A n < 0 then (if A 7 n = 0 then n else -1) else pdS A n := by
  unfold pdS pendD
  rw [show (n + 1).toNat = n.toNat + 1 from by omega, pdN_s _ _ (Int.le_refl 0), show 0 + ((n.toNat : Nat) : Int) = n from by omega]
theorem pdS_r {A : AV} {n : Int} (h : 0 ≤ n) : -1 ≤ pdS A n ∧ pdS A n < n + 1 := by
  rcases pendD_r n (A 7) with e | e
  · unfold pdS; omega
  · unfold pdS; omega
theorem fstN_r {c : Int → Bool} : ∀ (m : Nat) (t : Int), fstN c (-1) m t = -1 ∨ (t ≤ fstN c (-1) m t ∧ fstN c (-1) m t < t + m ∧ c (fstN c (-1) m t) = true ∧ ∀ j, t ≤ j → j < fstN c (-1) m t → c j = false)
  | 0, _ => Or.inl rfl
  | m + 1, t => by
    unfold fstN
    by_cases e : c t = true
    · rw [if_pos e]
      exact Or.inr ⟨Int.le_refl t, by omega, e, fun j a b => absurd a (by omega)⟩
    · rw [if_neg e]
      rcases fstN_r m (t + 1) with h | ⟨h1, h2, h3, h4⟩
      · exact Or.inl h
      · exact Or.inr ⟨by omega, by omega, h3, fun j a b => by
          by_cases d : j = t
          · subst d
            exact Bool.eq_false_iff.mpr e
          · exact h4 j (by omega) b⟩
theorem quiN_r {c : Int → Bool} {k : Int} (hk : 1 ≤ k) : ∀ (m : Nat) (t r : Int), 0 ≤ r → r < k → (∀ j, t - r ≤ j → j < t → c j = false) → quiN c k m t r = -1 ∨ (t - r ≤ quiN c k m t r ∧ quiN c k m t r + k ≤ t + m ∧ ∀ j, quiN c k m t r ≤ j → j < quiN c k m t r + k → c j = false)
  | 0, _, _, _, _, _ => Or.inl rfl
  | m + 1, t, r, h0, h1, h => by
    unfold quiN
    by_cases e : c t = true
    · rw [if_pos e, if_neg (by omega)]
      rcases quiN_r hk m (t + 1) 0 (by decide) (by omega) (fun j a b => absurd a (by omega)) with g | ⟨g1, g2, g3⟩
      · exact Or.inl g
      · exact Or.inr ⟨by omega, by omega, g3⟩
    · have e' := Bool.eq_false_iff.mpr e
      have hx : ∀ j, t + 1 - (r + 1) ≤ j → j < t + 1 → c j = false := fun j a b => by
        by_cases d : j = t
        · rw [d]; exact e'
        · exact h j (by omega) (by omega)
      rw [if_neg e]
      by_cases d : r + 1 = k
      · rw [if_pos d]
        exact Or.inr ⟨by omega, by omega, fun j a b => hx j (by omega) (by omega)⟩
      · rw [if_neg d]
        rcases quiN_r hk m (t + 1) (r + 1) (by omega) (by omega) hx with g | ⟨g1, g2, g3⟩
        · exact Or.inl g
        · exact Or.inr ⟨by omega, by omega, g3⟩
section Std
variable {l : LX} {v : Int} {S : GS} {Q : OO → Prop}
theorem b01_o {a b : Bool} : b01 (a || b) = if a = true then 1 else b01 b := by cases a <;> rfl

theorem trS_r (hS : GOK S) {n : Int} (h0 : 0 ≤ n) (h1 : n ≤ gA S 0 6) : 0 ≤ trS (gA S) n ∧ trS (gA S) n ≤ 432 := by
  have := fr48 hS
  have := sumF_b (g := gA S 8) (z := 9) (by decide) n.toNat (fun i i0 i1 => (frm hS i0 (by omega)).2.2)
  unfold trS
  omega
theorem akS_r (hS : GOK S) {n : Int} (h0 : 0 ≤ n) (h1 : n ≤ gA S 0 6) : 0 ≤ akS (gA S) n ∧ akS (gA S) n ≤ 192 := by
  have := fr48 hS
  have := sumF_b (g := fun f => if gA S 7 f = 1 then gA S 6 f - 2 else 0) (z := 4) (by decide) n.toNat (fun i i0 i1 => by
    have := (frm hS i0 (by omega)).1
    split <;> omega)
  unfold akS
  omega

/-- .. the counts of a frame -/
theorem sd_4 (hl : l.1.stackTraces = false) (hS : GOK S) (hP : PI (gA S)) {B : Nat} {z m : Int} {j : Nat} (m0 : 0 ≤ m) (m1 : m < gA S 0 5) (hj : (j : Int) < (gA S 4 m + 3) / 4) (f0 : 0 ≤ ffM (gA S) m) (f1 : ffM (gA S) m + (gA S 4 m + 3) / 4 ≤ gA S 0 6) {x8 x9 : Int} {I : Nat → Int → Int} (hI : CREL I S)
    (hk : ∀ I, CREL I S → Ex l 309 B (6 * B) 55 [some (.ref 0), some (.int (iI z)), some (.int (iI (ffM (gA S) m))), some (.int (iI (trS (gA S) (ffM (gA S) m + j + 1)))), some (.int (iI (pdS (gA S) (ffM (gA S) m + j + 1)))), some (.int (iI (akS (gA S) (ffM (gA S) m + j + 1)))), some (.int (iI m)), some (.int (iI ((gA S 4 m + 3) / 4))), some (.int (iI x8)), some (.int (iI x9)), some (.int (iI (ffM (gA S) m + j + 1))), none] [] (mm 181 I v false) Q) :
    Ex l 309 (B + 2) (6 * (B + 2)) 137 [some (.ref 0), some (.int (iI z)), some (.int (iI (ffM (gA S) m))), some (.int (iI (trS (gA S) (ffM (gA S) m + j)))), some (.int (iI (pdS (gA S) (ffM (gA S) m + j + 1)))), some (.int (iI (akS (gA S) (ffM (gA S) m + j)))), some (.int (iI m)), some (.int (iI ((gA S 4 m + 3) / 4))), some (.int (iI x8)), some (.int (iI x9)), some (.int (iI (ffM (gA S) m + j))), some (.int (iI (gA S 7 (ffM (gA S) m + j))))] [] (mm 181 I v false) Q := by
  have hml := (hS.1.msg m m0 m1).1
  have h48 := fr48 hS
  have hF := frm hS (f := ffM (gA S) m + j) (by omega) (by omega)
  have htr := trS_r hS (n := ffM (gA S) m + j) (by omega) (by omega)
  have hak := akS_r hS (n := ffM (gA S) m + j) (by omega) (by omega)
  have hpd := pdS_r (A := gA S) (n := ffM (gA S) m + j) (by omega)
  have e1 := trS_s (A := gA S) (n := ffM (gA S) m + j) (by omega)
  have e2 := akS_s (A := gA S) (n := ffM (gA S) m + j) (by omega)
  rw [e1, e2] at hk
  refine x_iload_n (pc := 137) rfl d309_137 ?_
  refine x_aload_n (pc := 138) rfl d309_138 ?_
  refine x_iload (pc := 139) rfl d309_139 ?_
  refine x_qVs (pc := 141) c309_151 (qb (isF_t (by omega) (by omega)) (cm99 hl (by decide) hI hS ⟨by omega, by omega⟩)) (ko0 (by omega)) rfl rfl (Nat.le_of_ble_eq_true rfl) (by decide +kernel) (by decide +kernel) d309_141 (fun I hI => ?_)
  refine x_iadd (pc := 144) d309_144 ?_
  refine x_istore_n (pc := 145) (by decide +kernel) rfl d309_145 ?_
  dsimp only [List.set]
  refine x_iload (pc := 146) rfl d309_146 ?_
  refine x_iload (pc := 148) rfl d309_148 ?_
  refine x_iconst (pc := 150) d309_150 ?_
  refine x_icmp_ne (pc := 151) (tgt := 165) ⟨by omega, by omega⟩ ⟨by omega, by omega⟩ d309_151 (by decide) (fun g151 => ?_) (fun g151 => ?_)
  · refine x_iconst (pc := 165) d309_165 ?_
    refine x_iadd (pc := 166) d309_166 ?_
    refine x_istore (pc := 167) (by decide +kernel) rfl d309_167 ?_
    dsimp only [List.set]
    refine x_iinc (pc := 169) rfl (by decide +kernel) rfl d309_169 ?_
    dsimp only [List.set]
    refine x_goto (pc := 172) (tgt := 55) d309_172 (by decide) ?_
    refine x_mask [true, true, true, true, true, true, true, true, true, true, true, false] ?_
    dsimp only [mask]
    refine ex_le (B' := B) (by omega) rfl ?_
    have := hk I hI
    rw [if_neg g151] at this
    exact this
  · refine x_aload_n (pc := 154) rfl d309_154 ?_
    refine x_iload (pc := 155) rfl d309_155 ?_
    refine x_qVs (pc := 157) c309_154 (qb (isF_t (by omega) (by omega)) (cm95 hl (by decide) hI hS ⟨by omega, by omega⟩)) (ko0 (by omega)) rfl rfl (Nat.le_of_ble_eq_true rfl) (by decide +kernel) (by decide +kernel) d309_157 (fun I hI => ?_)
    refine x_iconst (pc := 160) d309_160 ?_
    refine x_isub (pc := 161) d309_161 ?_
    refine x_goto (pc := 162) (tgt := 166) d309_162 (by decide) ?_
    refine x_iadd (pc := 166) d309_166 ?_
    refine x_istore (pc := 167) (by decide +kernel) rfl d309_167 ?_
    dsimp only [List.set]
    refine x_iinc (pc := 169) rfl (by decide +kernel) rfl d309_169 ?_
    dsimp only [List.set]
    refine x_goto (pc := 172) (tgt := 55) d309_172 (by decide) ?_
    refine x_mask [true, true, true, true, true, true, true, true, true, true, true, false] ?_
    dsimp only [mask]
    have := hk I hI
    rw [if_pos g151] at this
    exact this
/-- .. is it the first that is pending -/
theorem sd_3 (hl : l.1.stackTraces = false) (hS : GOK S) (hP : PI (gA S)) {B : Nat} {z m : Int} {j : Nat} (m0 : 0 ≤ m) (m1 : m < gA S 0 5) (hj : (j : Int) < (gA S 4 m + 3) / 4) (f0 : 0 ≤ ffM (gA S) m) (f1 : ffM (gA S) m + (gA S 4 m + 3) / 4 ≤ gA S 0 6) {x8 x9 : Int} {I : Nat → Int → Int} (hI : CREL I S)
    (hk : ∀ I, CREL I S → Ex l 309 B (6 * B) 137 [some (.ref 0), some (.int (iI z)), some (.int (iI (ffM (gA S) m))), some (.int (iI (trS (gA S) (ffM (gA S) m + j)))), some (.int (iI (pdS (gA S) (ffM (gA S) m + j + 1)))), some (.int (iI (akS (gA S) (ffM (gA S) m + j)))), some (.int (iI m)), some (.int (iI ((gA S 4 m + 3) / 4))), some (.int (iI x8)), some (.int (iI x9)), some (.int (iI (ffM (gA S) m + j))), some (.int (iI (gA S 7 (ffM (gA S) m + j))))] [] (mm 181 I v false) Q) :
    Ex l 309 B (6 * B) 118 [some (.ref 0), some (.int (iI z)), some (.int (iI (ffM (gA S) m))), some (.int (iI (trS (gA S) (ffM (gA S) m + j)))), some (.int (iI (pdS (gA S) (ffM (gA S) m + j)))), some (.int (iI (akS (gA S) (ffM (gA S) m + j)))), some (.int (iI m)), some (.int (iI ((gA S 4 m + 3) / 4))), some (.int (iI x8)), some (.int (iI x9)), some (.int (iI (ffM (gA S) m + j))), some (.int (iI (gA S 7 (ffM (gA S) m + j))))] [] (mm 181 I v false) Q := by
  have hml := (hS.1.msg m m0 m1).1
  have h48 := fr48 hS
  have hF := frm hS (f := ffM (gA S) m + j) (by omega) (by omega)
  have htr := trS_r hS (n := ffM (gA S) m + j) (by omega) (by omega)
  have hak := akS_r hS (n := ffM (gA S) m + j) (by omega) (by omega)
  have hpd := pdS_r (A := gA S) (n := ffM (gA S) m + j) (by omega)
  have e1 := pdS_s (A := gA S) (n := ffM (gA S) m + j) (by omega)
  rw [e1] at hk
  refine x_iload (pc := 118) rfl d309_118 ?_
  refine x_if_ne (pc := 120) (tgt := 133) ⟨by omega, by omega⟩ d309_120 (by decide) (fun g120 => ?_) (fun g120 => ?_)
  · refine x_iload (pc := 133) rfl d309_133 ?_
    refine x_istore (pc := 135) (by decide +kernel) rfl d309_135 ?_
    dsimp only [List.set]
    have := hk I hI
    by_cases d : pdS (gA S) (ffM (gA S) m + j) < 0
    · rw [if_pos d, if_neg g120] at this
      rw [show pdS (gA S) (ffM (gA S) m + j) = -1 from by omega]
      exact this
    · rw [if_neg d] at this
      exact this
  · refine x_iload (pc := 123) rfl d309_123 ?_
    refine x_if_ge (pc := 125) (tgt := 133) ⟨by omega, by omega⟩ d309_125 (by decide) (fun g125 => ?_) (fun g125 => ?_)
    · refine x_iload (pc := 133) rfl d309_133 ?_
      refine x_istore (pc := 135) (by decide +kernel) rfl d309_135 ?_
      dsimp only [List.set]
      have := hk I hI
      rw [if_neg (by omega)] at this
      exact this
    · refine x_iload (pc := 128) rfl d309_128 ?_
      refine x_goto (pc := 130) (tgt := 135) d309_130 (by decide) ?_
      refine x_istore (pc := 135) (by decide +kernel) rfl d309_135 ?_
      dsimp only [List.set]
      have := hk I hI
      rw [if_pos g125, if_pos g120] at this
      exact this
/-- .. is one lost -/
theorem sd_2 (hl : l.1.stackTraces = false) (hS : GOK S) (hP : PI (gA S)) {B : Nat} {z m : Int} {j : Nat} (m0 : 0 ≤ m) (m1 : m < gA S 0 5) (hj : (j : Int) < (gA S 4 m + 3) / 4) (f0 : 0 ≤ ffM (gA S) m) (f1 : ffM (gA S) m + (gA S 4 m + 3) / 4 ≤ gA S 0 6) {x8 : Int} {I : Nat → Int → Int} (hI : CREL I S)
    (hk : ∀ I, CREL I S → Ex l 309 B (6 * B) 118 [some (.ref 0), some (.int (iI z)), some (.int (iI (ffM (gA S) m))), some (.int (iI (trS (gA S) (ffM (gA S) m + j)))), some (.int (iI (pdS (gA S) (ffM (gA S) m + j)))), some (.int (iI (akS (gA S) (ffM (gA S) m + j)))), some (.int (iI m)), some (.int (iI ((gA S 4 m + 3) / 4))), some (.int (iI x8)), some (.int (iI (b01 (hasN (gA S 7) 2 (j + 1) (ffM (gA S) m))))), some (.int (iI (ffM (gA S) m + j))), some (.int (iI (gA S 7 (ffM (gA S) m + j))))] [] (mm 181 I v false) Q) :
    Ex l 309 B (6 * B) 100 [some (.ref 0), some (.int (iI z)), some (.int (iI (ffM (gA S) m))), some (.int (iI (trS (gA S) (ffM (gA S) m + j)))), some (.int (iI (pdS (gA S) (ffM (gA S) m + j)))), some (.int (iI (akS (gA S) (ffM (gA S) m + j)))), some (.int (iI m)), some (.int (iI ((gA S 4 m + 3) / 4))), some (.int (iI x8)), some (.int (iI (b01 (hasN (gA S 7) 2 j (ffM (gA S) m))))), some (.int (iI (ffM (gA S) m + j))), some (.int (iI (gA S 7 (ffM (gA S) m + j))))] [] (mm 181 I v false) Q := by
  have hml := (hS.1.msg m m0 m1).1
  have h48 := fr48 hS
  have hF := frm hS (f := ffM (gA S) m + j) (by omega) (by omega)
  have e1 : b01 (hasN (gA S 7) 2 (j + 1) (ffM (gA S) m)) = _ := (congrArg b01 (hasN_s j _)).trans b01_o
  rw [e1] at hk
  refine x_iload (pc := 100) rfl d309_100 ?_
  refine x_ifB_ne (pc := 102) (tgt := 111) d309_102 (by decide) (fun g102 => ?_) (fun g102 => ?_)
  · refine x_iconst (pc := 111) d309_111 ?_
    refine x_goto (pc := 112) (tgt := 116) d309_112 (by decide) ?_
    refine x_istore (pc := 116) (by decide +kernel) rfl d309_116 ?_
    dsimp only [List.set]
    have := hk I hI
    rw [if_pos g102] at this
    exact this
  · refine x_iload (pc := 105) rfl d309_105 ?_
    refine x_iconst (pc := 107) d309_107 ?_
    refine x_icmp_ne (pc := 108) (tgt := 115) ⟨by omega, by omega⟩ ⟨by omega, by omega⟩ d309_108 (by decide) (fun g108 => ?_) (fun g108 => ?_)
    · refine x_iconst (pc := 115) d309_115 ?_
      refine x_istore (pc := 116) (by decide +kernel) rfl d309_116 ?_
      dsimp only [List.set]
      have := hk I hI
      rw [if_neg (by rw [g102]; decide), decide_eq_false g108] at this
      exact this
    · refine x_iconst (pc := 111) d309_111 ?_
      refine x_goto (pc := 112) (tgt := 116) d309_112 (by decide) ?_
      refine x_istore (pc := 116) (by decide +kernel) rfl d309_116 ?_
      dsimp only [List.set]
      have := hk I hI
      rw [if_neg (by rw [g102]; decide), decide_eq_true g108] at this
      exact this
/-- .. a frame -/
theorem sd_1 (hl : l.1.stackTraces = false) (hS : GOK S) (hP : PI (gA S)) {B : Nat} {z m : Int} {j : Nat} (m0 : 0 ≤ m) (m1 : m < gA S 0 5) (hj : (j : Int) < (gA S 4 m + 3) / 4) (f0 : 0 ≤ ffM (gA S) m) (f1 : ffM (gA S) m + (gA S 4 m + 3) / 4 ≤ gA S 0 6) {I : Nat → Int → Int} (hI : CREL I S)
    (hk : ∀ I, CREL I S → Ex l 309 B (6 * B) 100 [some (.ref 0), some (.int (iI z)), some (.int (iI (ffM (gA S) m))), some (.int (iI (trS (gA S) (ffM (gA S) m + j)))), some (.int (iI (pdS (gA S) (ffM (gA S) m + j)))), some (.int (iI (akS (gA S) (ffM (gA S) m + j)))), some (.int (iI m)), some (.int (iI ((gA S 4 m + 3) / 4))), some (.int (iI (b01 (hasN (gA S 7) 0 (j + 1) (ffM (gA S) m))))), some (.int (iI (b01 (hasN (gA S 7) 2 j (ffM (gA S) m))))), some (.int (iI (ffM (gA S) m + j))), some (.int (iI (gA S 7 (ffM (gA S) m + j))))] [] (mm 181 I v false) Q) :
    Ex l 309 (B + 81) (6 * (B + 81)) 55 [some (.ref 0), some (.int (iI z)), some (.int (iI (ffM (gA S) m))), some (.int (iI (trS (gA S) (ffM (gA S) m + j)))), some (.int (iI (pdS (gA S) (ffM (gA S) m + j)))), some (.int (iI (akS (gA S) (ffM (gA S) m + j)))), some (.int (iI m)), some (.int (iI ((gA S 4 m + 3) / 4))), some (.int (iI (b01 (hasN (gA S 7) 0 j (ffM (gA S) m))))), some (.int (iI (b01 (hasN (gA S 7) 2 j (ffM (gA S) m))))), some (.int (iI (ffM (gA S) m + j))), none] [] (mm 181 I v false) Q := by
  have hml := (hS.1.msg m m0 m1).1
  have h48 := fr48 hS
  have hF := frm hS (f := ffM (gA S) m + j) (by omega) (by omega)
  have e1 : b01 (hasN (gA S 7) 0 (j + 1) (ffM (gA S) m)) = _ := (congrArg b01 (hasN_s j _)).trans b01_o
  rw [e1] at hk
  refine ex_le (B' := B + 1 + 80) (by omega) rfl ?_
  refine x_iload (pc := 55) rfl d309_55 ?_
  refine x_iload_n (pc := 57) rfl d309_57 ?_
  refine x_iload (pc := 58) rfl d309_58 ?_
  refine x_iadd (pc := 60) d309_60 ?_
  refine x_icmp_ge (pc := 61) (tgt := 175) ⟨by omega, by omega⟩ ⟨by omega, by omega⟩ d309_61 (by decide) (fun g61 => ?_) (fun g61 => ?_)
  · refine x_mask [true, true, true, true, true, true, true, true, true, true, false, true] ?_
    dsimp only [mask]
    exfalso; omega
  · refine x_aload_n (pc := 64) rfl d309_64 ?_
    refine x_iload (pc := 65) rfl d309_65 ?_
    refine x_qSs (pc := 67) c309_209 (ct_isf hl hS hP hI (by omega) (by omega)) rfl rfl (Nat.le_of_ble_eq_true rfl) (by decide +kernel) (by decide +kernel) d309_67 (fun I hI => ?_)
    refine x_if_ne (pc := 70) (tgt := 75) ⟨by omega, by omega⟩ d309_70 (by decide) (fun _ => ?_) (fun z => absurd z (by decide))
    refine x_aload_n (pc := 75) rfl d309_75 ?_
    refine x_iload (pc := 76) rfl d309_76 ?_
    refine x_qVs (pc := 78) c309_148 (qb (isF_t (by omega) (by omega)) (cm98 hl (by decide) hI hS ⟨by omega, by omega⟩)) (ko0 (by omega)) rfl rfl (Nat.le_of_ble_eq_true rfl) (by decide +kernel) (by decide +kernel) d309_78 (fun I hI => ?_)
    refine x_istore (pc := 81) (by decide +kernel) rfl d309_81 ?_
    dsimp only [List.set]
    refine x_iload (pc := 83) rfl d309_83 ?_
    refine x_ifB_ne (pc := 85) (tgt := 93) d309_85 (by decide) (fun g85 => ?_) (fun g85 => ?_)
    · refine x_iconst (pc := 93) d309_93 ?_
      refine x_goto (pc := 94) (tgt := 98) d309_94 (by decide) ?_
      refine x_istore (pc := 98) (by decide +kernel) rfl d309_98 ?_
      dsimp only [List.set]
      have := hk I hI
      rw [if_pos g85] at this
      exact this
    · refine x_iload (pc := 88) rfl d309_88 ?_
      refine x_if_ne (pc := 90) (tgt := 97) ⟨by omega, by omega⟩ d309_90 (by decide) (fun g90 => ?_) (fun g90 => ?_)
      · refine x_iconst (pc := 97) d309_97 ?_
        refine x_istore (pc := 98) (by decide +kernel) rfl d309_98 ?_
        dsimp only [List.set]
        have := hk I hI
        rw [if_neg (by rw [g85]; decide), decide_eq_false g90] at this
        exact this
      · refine x_iconst (pc := 93) d309_93 ?_
        refine x_goto (pc := 94) (tgt := 98) d309_94 (by decide) ?_
        refine x_istore (pc := 98) (by decide +kernel) rfl d309_98 ?_
        dsimp only [List.set]
        have := hk I hI
        rw [if_neg (by rw [g85]; decide), decide_eq_true g90] at this
        exact this
/-- the state of a message -/
theorem sd_m (hl : l.1.stackTraces = false) (hS : GOK S) {B : Nat} {z m x3 x4 x5 : Int} {I : Nat → Int → Int} (hI : CREL I S) (m0 : 0 ≤ m) (m1 : m < gA S 0 5)
    (hk : ∀ I, CREL I S → Ex l 309 B (6 * B) 13 [some (.ref 0), some (.int (iI z)), some (.int (iI (ffM (gA S) m + (gA S 4 m + 3) / 4))), some (.int (iI x3)), some (.int (iI x4)), some (.int (iI x5)), some (.int (iI (m + 1))), none, none, none, none, none] [] (mm 181 I v false) Q) :
    Ex l 309 (B + 1) (6 * (B + 1)) 175 [some (.ref 0), some (.int (iI z)), some (.int (iI (ffM (gA S) m))), some (.int (iI x3)), some (.int (iI x4)), some (.int (iI x5)), some (.int (iI m)), some (.int (iI ((gA S 4 m + 3) / 4))), some (.int (iI (b01 (hasA (gA S) m 0)))), some (.int (iI (b01 (hasA (gA S) m 2)))), none, none] [] (mm 181 I v false) Q := by
  have hml := (hS.1.msg m m0 m1).1
  have hms := hS.1.ms
  have hst : stA (gA S) m = if hasA (gA S) m 0 = true then 0 else if hasA (gA S) m 2 = true then 2 else 1 := rfl
  have hsr := stA_r (gA S) m
  refine x_aload_n (pc := 175) rfl d309_175 ?_
  refine x_iload (pc := 176) rfl d309_176 ?_
  refine x_qVs (pc := 178) c309_142 (qb (isM_t (by omega) (by omega)) (cm92 hl (by decide) hI hS ⟨by omega, by omega⟩)) (ko0 (by omega)) rfl rfl (Nat.le_of_ble_eq_true rfl) (by decide +kernel) (by decide +kernel) d309_178 (fun I hI => ?_)
  refine x_iload (pc := 181) rfl d309_181 ?_
  refine x_ifB_eq (pc := 183) (tgt := 190) d309_183 (by decide) (fun g183 => ?_) (fun g183 => ?_)
  · refine x_iload (pc := 190) rfl d309_190 ?_
    refine x_ifB_eq (pc := 192) (tgt := 199) d309_192 (by decide) (fun g192 => ?_) (fun g192 => ?_)
    · refine x_iconst (pc := 199) d309_199 ?_
      refine x_icmp_eq (pc := 200) (tgt := 205) ⟨by omega, by omega⟩ ⟨by omega, by omega⟩ d309_200 (by decide) (fun g200 => ?_) (fun g200 => ?_)
      · refine x_iload_n (pc := 205) rfl d309_205 ?_
        refine x_iload (pc := 206) rfl d309_206 ?_
        refine x_iadd (pc := 208) d309_208 ?_
        refine x_istore_n (pc := 209) (by decide +kernel) rfl d309_209 ?_
        dsimp only [List.set]
        refine x_iinc (pc := 210) rfl (by decide +kernel) rfl d309_210 ?_
        dsimp only [List.set]
        refine x_goto (pc := 213) (tgt := 13) d309_213 (by decide) ?_
        refine x_mask [true, true, true, true, true, true, true, false, false, false, true, true] ?_
        dsimp only [mask]
        exact hk I hI
      · refine x_iconst (pc := 203) d309_203 ?_
        refine x_zret (pc := 204) rfl (Or.inl rfl) (fun z => Bool.noConfusion z) d309_204 ?_
        rw [g183, g192, if_neg Bool.false_ne_true, if_neg Bool.false_ne_true] at hst
        exact absurd hst g200
    · refine x_iconst (pc := 195) d309_195 ?_
      refine x_goto (pc := 196) (tgt := 200) d309_196 (by decide) ?_
      refine x_icmp_eq (pc := 200) (tgt := 205) ⟨by omega, by omega⟩ ⟨by omega, by omega⟩ d309_200 (by decide) (fun g200 => ?_) (fun g200 => ?_)
      · refine x_iload_n (pc := 205) rfl d309_205 ?_
        refine x_iload (pc := 206) rfl d309_206 ?_
        refine x_iadd (pc := 208) d309_208 ?_
        refine x_istore_n (pc := 209) (by decide +kernel) rfl d309_209 ?_
        dsimp only [List.set]
        refine x_iinc (pc := 210) rfl (by decide +kernel) rfl d309_210 ?_
        dsimp only [List.set]
        refine x_goto (pc := 213) (tgt := 13) d309_213 (by decide) ?_
        refine x_mask [true, true, true, true, true, true, true, false, false, false, true, true] ?_
        dsimp only [mask]
        exact hk I hI
      · refine x_iconst (pc := 203) d309_203 ?_
        refine x_zret (pc := 204) rfl (Or.inl rfl) (fun z => Bool.noConfusion z) d309_204 ?_
        rw [g183, g192, if_neg Bool.false_ne_true, if_pos rfl] at hst
        exact absurd hst g200
  · refine x_iconst (pc := 186) d309_186 ?_
    refine x_goto (pc := 187) (tgt := 200) d309_187 (by decide) ?_
    refine x_icmp_eq (pc := 200) (tgt := 205) ⟨by omega, by omega⟩ ⟨by omega, by omega⟩ d309_200 (by decide) (fun g200 => ?_) (fun g200 => ?_)
    · refine x_iload_n (pc := 205) rfl d309_205 ?_
      refine x_iload (pc := 206) rfl d309_206 ?_
      refine x_iadd (pc := 208) d309_208 ?_
      refine x_istore_n (pc := 209) (by decide +kernel) rfl d309_209 ?_
      dsimp only [List.set]
      refine x_iinc (pc := 210) rfl (by decide +kernel) rfl d309_210 ?_
      dsimp only [List.set]
      refine x_goto (pc := 213) (tgt := 13) d309_213 (by decide) ?_
      refine x_mask [true, true, true, true, true, true, true, false, false, false, true, true] ?_
      dsimp only [mask]
      exact hk I hI
    · refine x_iconst (pc := 203) d309_203 ?_
      refine x_zret (pc := 204) rfl (Or.inl rfl) (fun z => Bool.noConfusion z) d309_204 ?_
      rw [g183, if_pos rfl] at hst
      exact absurd hst g200

/-- the frames of a message -/
theorem lp_sdf (hl : l.1.stackTraces = false) (hS : GOK S) (hP : PI (gA S)) {B : Nat} {z m : Int} (m0 : 0 ≤ m) (m1 : m < gA S 0 5) (f0 : 0 ≤ ffM (gA S) m) (f1 : ffM (gA S) m + (gA S 4 m + 3) / 4 ≤ gA S 0 6) : ∀ (n j : Nat) (I : Nat → Int → Int), ((n + j : Nat) : Int) = (gA S 4 m + 3) / 4 → CREL I S →
    (∀ I, CREL I S → Ex l 309 B (6 * B) 175 [some (.ref 0), some (.int (iI z)), some (.int (iI (ffM (gA S) m))), some (.int (iI (trS (gA S) (ffM (gA S) (m + 1))))), some (.int (iI (pdS (gA S) (ffM (gA S) (m + 1))))), some (.int (iI (akS (gA S) (ffM (gA S) (m + 1))))), some (.int (iI m)), some (.int (iI ((gA S 4 m + 3) / 4))), some (.int (iI (b01 (hasA (gA S) m 0)))), some (.int (iI (b01 (hasA (gA S) m 2)))), none, none] [] (mm 181 I v false) Q) →
    Ex l 309 (B + 83 * n) (6 * (B + 83 * n)) 55 [some (.ref 0), some (.int (iI z)), some (.int (iI (ffM (gA S) m))), some (.int (iI (trS (gA S) (ffM (gA S) m + j)))), some (.int (iI (pdS (gA S) (ffM (gA S) m + j)))), some (.int (iI (akS (gA S) (ffM (gA S) m + j)))), some (.int (iI m)), some (.int (iI ((gA S 4 m + 3) / 4))), some (.int (iI (b01 (hasN (gA S 7) 0 j (ffM (gA S) m))))), some (.int (iI (b01 (hasN (gA S 7) 2 j (ffM (gA S) m))))), some (.int (iI (ffM (gA S) m + j))), none] [] (mm 181 I v false) Q := by
  have hml := (hS.1.msg m m0 m1).1
  have h48 := fr48 hS
  intro n
  induction n with
  | zero =>
    intro j I hn hI hk
    refine ex_le (B' := B) (by omega) rfl ?_
    refine x_iload (pc := 55) rfl d309_55 ?_
    refine x_iload_n (pc := 57) rfl d309_57 ?_
    refine x_iload (pc := 58) rfl d309_58 ?_
    refine x_iadd (pc := 60) d309_60 ?_
    refine x_icmp_ge (pc := 61) (tgt := 175) ⟨by omega, by omega⟩ ⟨by omega, by omega⟩ d309_61 (by decide) (fun _ => ?_) (fun _ => by exfalso; omega)
    refine x_mask [true, true, true, true, true, true, true, true, true, true, false, true] ?_
    have e : ffM (gA S) (m + 1) = ffM (gA S) m + j := by rw [ffM_s m0]; omega
    have a : ∀ c, hasA (gA S) m c = hasN (gA S 7) c j (ffM (gA S) m) := fun c => by
      show hasN (gA S 7) c ((gA S 4 m + 3) / 4).toNat (gA S 5 m) = _
      rw [hP.2.1.1 m m0 m1, show ((gA S 4 m + 3) / 4).toNat = j from by omega]
    have := hk I hI
    rw [e, a, a] at this
    exact this
  | succ n ih =>
    intro j I hn hI hk
    have hs : ffM (gA S) m + ((j + 1 : Nat) : Int) = ffM (gA S) m + j + 1 := by omega
    refine ex_le (B' := B + 83 * n + 2 + 81) (by omega) rfl ?_
    refine sd_1 hl hS hP m0 m1 (by omega) f0 f1 hI (fun I hI => ?_)
    refine sd_2 hl hS hP m0 m1 (by omega) f0 f1 hI (fun I hI => ?_)
    refine sd_3 hl hS hP m0 m1 (by omega) f0 f1 hI (fun I hI => ?_)
    refine sd_4 hl hS hP m0 m1 (by omega) f0 f1 hI (fun I hI => ?_)
    have := ih (j + 1) I (by omega) hI hk
    rw [hs] at this
    exact this
/-- the messages -/
theorem lp_sdm (hl : l.1.stackTraces = false) (hS : GOK S) (hP : PI (gA S)) {B : Nat} {z : Int} : ∀ (n : Nat) (m : Int) (I : Nat → Int → Int), n + m = gA S 0 5 → 0 ≤ m → CREL I S →
    (∀ I, CREL I S → Ex l 309 B (6 * B) 216 [some (.ref 0), some (.int (iI z)), some (.int (iI (gA S 0 6))), some (.int (iI (gA S 0 10))), some (.int (iI (pendA (gA S)))), some (.int (iI (ackA (gA S)))), none, none, none, none, none, none] [] (mm 181 I v false) Q) →
    Ex l 309 (B + (83 * (gA S 0 6 - ffM (gA S) m).toNat + 4 * n + 1)) (6 * (B + (83 * (gA S 0 6 - ffM (gA S) m).toNat + 4 * n + 1))) 13 [some (.ref 0), some (.int (iI z)), some (.int (iI (ffM (gA S) m))), some (.int (iI (trS (gA S) (ffM (gA S) m)))), some (.int (iI (pdS (gA S) (ffM (gA S) m)))), some (.int (iI (akS (gA S) (ffM (gA S) m)))), some (.int (iI m)), none, none, none, none, none] [] (mm 181 I v false) Q := by
  have hms := hS.1.ms
  have h48 := fr48 hS
  intro n
  induction n with
  | zero =>
    intro m I hn h0 hI hk
    have e : m = gA S 0 5 := by omega
    refine ex_le (B' := B + 1) (by omega) rfl ?_
    refine x_iload (pc := 13) rfl d309_13 ?_
    refine x_aload_n (pc := 15) rfl d309_15 ?_
    refine x_qVs (pc := 16) c309_136 (qa (cm90 (E := fun _ => 0) hl (by decide) hI)) (ko0 (by omega)) rfl rfl (Nat.le_of_ble_eq_true rfl) (by decide +kernel) (by decide +kernel) d309_16 (fun I hI => ?_)
    refine x_icmp_ge (pc := 19) (tgt := 216) ⟨by omega, by omega⟩ ⟨by omega, by omega⟩ d309_19 (by decide) (fun _ => ?_) (fun _ => by exfalso; omega)
    refine x_mask [true, true, true, true, true, true, false, true, true, true, true, true] ?_
    have e1 : ffM (gA S) m = gA S 0 6 := by rw [e]; exact hP.2.1.2.symm
    have e2 : trS (gA S) (gA S 0 6) = gA S 0 10 := hP.2.2.2.2.2.1.symm
    rw [e1, e2]
    exact hk I hI
  | succ n ih =>
    intro m I hn h0 hI hk
    have hml := (hS.1.msg m h0 (by omega)).1
    have hmf := (hS.1.msg m h0 (by omega)).2
    have hff := hP.2.1.1 m h0 (by omega)
    have f0 : 0 ≤ ffM (gA S) m := by omega
    have f1 : ffM (gA S) m + (gA S 4 m + 3) / 4 ≤ gA S 0 6 := by omega
    have hst := stA_r (gA S) m
    have hs := ffM_s (A := gA S) h0
    have htr := trS_r hS (n := ffM (gA S) m) (by omega) (by omega)
    have hak := akS_r hS (n := ffM (gA S) m) (by omega) (by omega)
    have hpd := pdS_r (A := gA S) (n := ffM (gA S) m) (by omega)
    have htr1 := trS_r hS (n := ffM (gA S) (m + 1)) (by omega) (by omega)
    have hak1 := akS_r hS (n := ffM (gA S) (m + 1)) (by omega) (by omega)
    have hpd1 := pdS_r (A := gA S) (n := ffM (gA S) (m + 1)) (by omega)
    obtain ⟨B3, hB3⟩ : ∃ B3, B3 = B + (83 * (gA S 0 6 - ffM (gA S) (m + 1)).toNat + 4 * n + 1) := ⟨_, rfl⟩
    have e0 : ffM (gA S) m + ((0 : Nat) : Int) = ffM (gA S) m := by omega
    refine ex_le (B' := B3 + 1 + 83 * ((gA S 4 m + 3) / 4).toNat + 3) (by omega) rfl ?_
    refine x_iload (pc := 13) rfl d309_13 ?_
    refine x_aload_n (pc := 15) rfl d309_15 ?_
    refine x_qVs (pc := 16) c309_136 (qa (cm90 (E := fun _ => 0) hl (by decide) hI)) (ko0 (by omega)) rfl rfl (Nat.le_of_ble_eq_true rfl) (by decide +kernel) (by decide +kernel) d309_16 (fun I hI => ?_)
    refine x_icmp_ge (pc := 19) (tgt := 216) ⟨by omega, by omega⟩ ⟨by omega, by omega⟩ d309_19 (by decide) (fun g19 => ?_) (fun g19 => ?_)
    · refine x_mask [true, true, true, true, true, true, false, true, true, true, true, true] ?_
      dsimp only [mask]
      exfalso; omega
    · refine x_aload_n (pc := 22) rfl d309_22 ?_
      refine x_iload (pc := 23) rfl d309_23 ?_
      refine x_qVs (pc := 25) c309_139 (qb (isM_t (by omega) (by omega)) (cm91 hl (by decide) hI hS ⟨by omega, by omega⟩)) (ko0 (by omega)) rfl rfl (Nat.le_of_ble_eq_true rfl) (by decide +kernel) (by decide +kernel) d309_25 (fun I hI => ?_)
      refine x_iconst (pc := 28) d309_28 ?_
      refine x_iadd (pc := 29) d309_29 ?_
      refine x_iconst (pc := 30) d309_30 ?_
      refine x_idiv (pc := 31) (by omega) (by omega) (by omega) (by omega) d309_31 ?_
      refine x_istore (pc := 32) (by decide +kernel) rfl d309_32 ?_
      dsimp only [List.set]
      refine x_iconst (pc := 34) d309_34 ?_
      refine x_istore (pc := 35) (by decide +kernel) rfl d309_35 ?_
      dsimp only [List.set]
      refine x_iconst (pc := 37) d309_37 ?_
      refine x_istore (pc := 38) (by decide +kernel) rfl d309_38 ?_
      dsimp only [List.set]
      refine x_aload_n (pc := 40) rfl d309_40 ?_
      refine x_iload (pc := 41) rfl d309_41 ?_
      refine x_qVs (pc := 43) c309_206 (qb (isM_t (by omega) (by omega)) (cm93 hl (by decide) hI hS ⟨by omega, by omega⟩)) (ko0 (by omega)) rfl rfl (Nat.le_of_ble_eq_true rfl) (by decide +kernel) (by decide +kernel) d309_43 (fun I hI => ?_)
      refine x_iload_n (pc := 46) rfl d309_46 ?_
      refine x_icmp_eq (pc := 47) (tgt := 52) ⟨by omega, by omega⟩ ⟨by omega, by omega⟩ d309_47 (by decide) (fun g47 => ?_) (fun g47 => ?_)
      · refine x_iload_n (pc := 52) rfl d309_52 ?_
        refine x_istore (pc := 53) (by decide +kernel) rfl d309_53 ?_
        dsimp only [List.set]
        have go := lp_sdf (v := v) (Q := Q) (B := B3 + 1) (z := z) hl hS hP h0 (by omega) f0 f1 ((gA S 4 m + 3) / 4).toNat 0 I (by omega) hI (fun I hI => ?_)
        · rw [e0] at go
          exact go
        exact sd_m hl hS hI h0 (by omega) (fun I hI => by
          have := ih (m + 1) I (by omega) (by omega) hI hk
          rw [← hB3] at this
          rw [← hs]
          exact this)
      · refine x_iconst (pc := 50) d309_50 ?_
        refine x_zret (pc := 51) rfl (Or.inl rfl) (fun z => Bool.noConfusion z) d309_51 ?_
        exfalso; exact g47 hff

theorem imp0 {A : AV} (hP : PI A) : impA A = 0 := by
  have h1 := hP.2.2.2.2.1
  have h2 := hP.2.2.2.2.2.1
  have h3 : untA A = 0 := by
    unfold untA
    have : ∀ n : Nat, (n : Int) ≤ A 0 6 → sumF (fun f => if A 7 f = 1 ∧ A 8 f = 0 then 1 else 0) n = 0 := fun n => by
      induction n with
      | zero => intro _; rfl
      | succ n ih =>
        intro h
        show sumF _ n + (if A 7 n = 1 ∧ A 8 n = 0 then 1 else 0) = 0
        rw [ih (by omega), if_neg (fun ⟨a, b⟩ => by
          have := (hP.2.2.2.1 n (by omega) (by omega)).2.2 a
          omega)]
        rfl
    by_cases d : 0 ≤ A 0 6
    · exact this _ (by omega)
    · rw [show (A 0 6).toNat = 0 from by omega]
      rfl
  unfold impA absZ
  rw [h3, show A 0 10 - (A 0 11 + A 0 12 + A 0 13) = 0 from by omega, show A 0 10 - triA A = 0 from by omega]
  rfl
theorem cki0 {A : AV} (hP : PI A) : ckiA A = 0 := by
  have h1 := hP.2.2.2.2.2.2
  unfold ckiA
  omega
theorem std_c (hl : l.1.stackTraces = false) (hS : GOK S) (hP : PI (gA S)) {I : Nat → Int → Int} (hI : CREL I S) {z : Int} (z0 : 0 ≤ z) (z1 : z ≤ 99999) (hc : gA S 0 7 ≤ 600000) : Ex l 309 20 (6 * 20) 328 [some (.ref 0), none, some (.int (iI (gA S 0 6))), some (.int (iI (gA S 0 10))), some (.int (iI (pendA (gA S)))), some (.int (iI (ackA (gA S)))), none, none, none, none, none, none] [] (mm 181 I v false) (oE 181 v false (some (.int (iI 1))) (fun K => CREL K S)) := by
  have h48 := fr48 hS
  obtain ⟨r1, r2, r3, r4, r5, r6, r7, r8, r9, r10⟩ := hS.1.rg
  have hcb := cB_v
  have c10 := hS.1.ct 10 (by decide) (by decide)
  have c11 := hS.1.ct 11 (by decide) (by decide)
  have c14 := hS.1.ct 14 (by decide) (by decide)
  have c15 := hS.1.ct 15 (by decide) (by decide)
  have c16 := hS.1.ct 16 (by decide) (by decide)
  have c17 := hS.1.ct 17 (by decide) (by decide)
  have hi0 := imp0 hP
  have hk0 := cki0 hP
  have hac := ack_b hS.1
  have htr := trS_r hS (n := gA S 0 6) (by omega) (by omega)
  have e10 : gA S 0 10 = trS (gA S) (gA S 0 6) := hP.2.2.2.2.2.1
  have hcl : gA S 0 7 = (gA S 0 0) * ((gA S 0 16) + 8 * (gA S 0 10)) + gA S 0 15 + gA S 0 17 := by
    have := hP.2.2.2.2.2.2
    rw [Int.mul_comm (gA S 0 0)]
    exact this
  have hpr : -1 ≤ pendA (gA S) ∧ pendA (gA S) < 49 := by
    have := pdS_r (A := gA S) (n := gA S 0 6) (by omega)
    have e : pdS (gA S) (gA S 0 6) = pendA (gA S) := rfl
    omega
  have hz0 := Int.emod_nonneg z (b := gA S 0 6)
  have hz1 := Int.emod_lt_of_pos z (b := gA S 0 6)
  refine x_iload_n (pc := 328) rfl d309_328 ?_
  refine x_aload_n (pc := 329) rfl d309_329 ?_
  refine x_qVs (pc := 330) c309_145 (qa (cm94 (E := fun _ => 0) hl (by decide) hI)) (ko0 (by omega)) rfl rfl (Nat.le_of_ble_eq_true rfl) (by decide +kernel) (by decide +kernel) d309_330 (fun I hI => ?_)
  refine x_icmp_ne (pc := 333) (tgt := 454) ⟨by omega, by omega⟩ ⟨by omega, by omega⟩ d309_333 (by decide) (fun g333 => ?_) (fun g333 => ?_)
  · refine x_iconst (pc := 454) d309_454 ?_
    refine x_zret (pc := 455) rfl (Or.inl rfl) (fun z => Bool.noConfusion z) d309_455 ?_
    exfalso; omega
  · refine x_iload_n (pc := 336) rfl d309_336 ?_
    refine x_aload_n (pc := 337) rfl d309_337 ?_
    refine x_qVs (pc := 338) c309_108 (qa (cm117 (E := fun _ => 0) hl (by decide) hI)) (ko0 (by omega)) rfl rfl (Nat.le_of_ble_eq_true rfl) (by decide +kernel) (by decide +kernel) d309_338 (fun I hI => ?_)
    refine x_icmp_ne (pc := 341) (tgt := 454) ⟨by omega, by omega⟩ ⟨by omega, by omega⟩ d309_341 (by decide) (fun g341 => ?_) (fun g341 => ?_)
    · refine x_iconst (pc := 454) d309_454 ?_
      refine x_zret (pc := 455) rfl (Or.inl rfl) (fun z => Bool.noConfusion z) d309_455 ?_
      exfalso; omega
    · refine x_iload (pc := 344) rfl d309_344 ?_
      refine x_aload_n (pc := 346) rfl d309_346 ?_
      refine x_qVs (pc := 347) c309_223 (qa (cm113 (E := fun _ => 0) hl (by decide) hI hS)) (ko0 (by omega)) rfl rfl (Nat.le_of_ble_eq_true rfl) (by decide +kernel) (by decide +kernel) d309_347 (fun I hI => ?_)
      refine x_icmp_ne (pc := 350) (tgt := 454) ⟨by omega, by omega⟩ ⟨by omega, by omega⟩ d309_350 (by decide) (fun g350 => ?_) (fun g350 => ?_)
      · refine x_iconst (pc := 454) d309_454 ?_
        refine x_zret (pc := 455) rfl (Or.inl rfl) (fun z => Bool.noConfusion z) d309_455 ?_
        exfalso; omega
      · refine x_aload_n (pc := 353) rfl d309_353 ?_
        refine x_cVs (pc := 354) c309_226 (dt126 hl (by decide) hI hS) (ko0 (by omega)) rfl rfl (Nat.le_of_ble_eq_true rfl) (by decide +kernel) (by decide +kernel) rfl d309_354 ?_
        refine x_aload_n (pc := 357) rfl d309_357 ?_
        refine x_qVs (pc := 358) c309_92 (qa (cm82 (E := fun _ => 0) hl (by decide) hI)) (ko0 (by omega)) rfl rfl (Nat.le_of_ble_eq_true rfl) (by decide +kernel) (by decide +kernel) d309_358 (fun I hI => ?_)
        refine x_if_ne (pc := 361) (tgt := 368) ⟨by omega, by omega⟩ d309_361 (by decide) (fun g361 => ?_) (fun g361 => ?_)
        · refine x_iload (pc := 368) rfl d309_368 ?_
          refine x_i2d (pc := 370) d309_370 ?_
          refine x_aload_n (pc := 371) rfl d309_371 ?_
          refine x_qVs (pc := 372) c309_92 (qa (cm82 (E := fun _ => 0) hl (by decide) hI)) (ko0 (by omega)) rfl rfl (Nat.le_of_ble_eq_true rfl) (by decide +kernel) (by decide +kernel) d309_372 (fun I hI => ?_)
          refine x_i2d (pc := 375) d309_375 ?_
          refine x_ddiv (pc := 376) (ddiv_ok ⟨by omega, by omega⟩ ⟨by omega, by omega⟩) d309_376 ?_
          refine x_dceq (pc := 377) (by unfold thrV; first | (rw [if_pos (by omega)]; done) | (rw [if_neg (by omega)]; done)) (by first | exact ddiv_ok ⟨by omega, by omega⟩ ⟨by omega, by omega⟩ | (show _ ≤ _; decide +kernel)) d309_377 ?_
          refine x_if_ne (pc := 378) (tgt := 454) ⟨by omega, by omega⟩ d309_378 (by decide) (fun z => absurd z (by decide)) (fun _ => ?_)
          refine x_aload_n (pc := 381) rfl d309_381 ?_
          refine x_cVs (pc := 382) c309_230 (dt125 hl (by decide) hI hS) (ko0 (by omega)) rfl rfl (Nat.le_of_ble_eq_true rfl) (by decide +kernel) (by decide +kernel) rfl d309_382 ?_
          refine x_iload_n (pc := 385) rfl d309_385 ?_
          refine x_if_ne (pc := 386) (tgt := 393) ⟨by omega, by omega⟩ d309_386 (by decide) (fun g386 => ?_) (fun g386 => ?_)
          · refine x_aload_n (pc := 393) rfl d309_393 ?_
            refine x_qVs (pc := 394) c309_113 (qa (cm118 (E := fun _ => 0) hl (by decide) hI)) (ko0 (by omega)) rfl rfl (Nat.le_of_ble_eq_true rfl) (by decide +kernel) (by decide +kernel) d309_394 (fun I hI => ?_)
            refine x_aload_n (pc := 397) rfl d309_397 ?_
            refine x_qVs (pc := 398) c309_123 (qa (cm120 (E := fun _ => 0) hl (by decide) hI)) (ko0 (by omega)) rfl rfl (Nat.le_of_ble_eq_true rfl) (by decide +kernel) (by decide +kernel) d309_398 (fun I hI => ?_)
            refine x_iadd (pc := 401) d309_401 ?_
            refine x_i2f (pc := 402) d309_402 ?_
            refine x_iload_n (pc := 403) rfl d309_403 ?_
            refine x_i2f (pc := 404) d309_404 ?_
            refine x_fdiv (pc := 405) (fdiv_ok ⟨by omega, by omega⟩ ⟨by omega, by omega⟩) d309_405 ?_
            refine x_fceq (pc := 406) (by unfold errV; first | (rw [if_pos (by omega)]; done) | (rw [if_neg (by omega)]; done)) (by first | exact fdiv_ok ⟨by omega, by omega⟩ ⟨by omega, by omega⟩ | (show _ ≤ _; decide +kernel)) d309_406 ?_
            refine x_if_ne (pc := 407) (tgt := 454) ⟨by omega, by omega⟩ d309_407 (by decide) (fun z => absurd z (by decide)) (fun _ => ?_)
            refine x_aload_n (pc := 410) rfl d309_410 ?_
            refine x_qVs (pc := 411) c309_92 (qa (cm82 (E := fun _ => 0) hl (by decide) hI)) (ko0 (by omega)) rfl rfl (Nat.le_of_ble_eq_true rfl) (by decide +kernel) (by decide +kernel) d309_411 (fun I hI => ?_)
            refine x_aload_n (pc := 414) rfl d309_414 ?_
            refine x_qVs (pc := 415) c309_128 (qa (cm121 (E := fun _ => 0) hl (by decide) hI)) (ko0 (by omega)) rfl rfl (Nat.le_of_ble_eq_true rfl) (by decide +kernel) (by decide +kernel) d309_415 (fun I hI => ?_)
            refine x_aload_n (pc := 418) rfl d309_418 ?_
            refine x_qVs (pc := 419) c309_182 (qa (cm83 (E := fun _ => 0) hl (by decide) hI)) (ko0 (by omega)) rfl rfl (Nat.le_of_ble_eq_true rfl) (by decide +kernel) (by decide +kernel) d309_419 (fun I hI => ?_)
            refine x_aload_n (pc := 422) rfl d309_422 ?_
            refine x_qVs (pc := 423) c309_133 (qa (cm122 (E := fun _ => 0) hl (by decide) hI)) (ko0 (by omega)) rfl rfl (Nat.le_of_ble_eq_true rfl) (by decide +kernel) (by decide +kernel) d309_423 (fun I hI => ?_)
            refine x_bipush (pc := 426) (by decide) d309_426 ?_
            refine x_iload_n (pc := 428) rfl d309_428 ?_
            refine x_imul (pc := 429) d309_429 ?_
            refine x_iadd (pc := 430) d309_430 ?_
            refine x_imul (pc := 431) d309_431 ?_
            refine x_iadd (pc := 432) d309_432 ?_
            refine x_icmp_lt (pc := 433) (tgt := 454) ⟨by omega, by omega⟩ ⟨by omega, by omega⟩ d309_433 (by decide) (fun g433 => ?_) (fun g433 => ?_)
            · refine x_iconst (pc := 454) d309_454 ?_
              refine x_zret (pc := 455) rfl (Or.inl rfl) (fun z => Bool.noConfusion z) d309_455 ?_
              exfalso; omega
            · refine x_aload_n (pc := 436) rfl d309_436 ?_
              refine x_qVs (pc := 437) c309_234 (qa (cm123 (E := fun _ => 0) hl (by decide) hI hS)) (ko0 (by omega)) rfl rfl (Nat.le_of_ble_eq_true rfl) (by decide +kernel) (by decide +kernel) d309_437 (fun I hI => ?_)
              refine x_if_ne (pc := 440) (tgt := 454) ⟨by omega, by omega⟩ d309_440 (by decide) (fun g440 => ?_) (fun g440 => ?_)
              · refine x_iconst (pc := 454) d309_454 ?_
                refine x_zret (pc := 455) rfl (Or.inl rfl) (fun z => Bool.noConfusion z) d309_455 ?_
                exfalso; omega
              · refine x_aload_n (pc := 443) rfl d309_443 ?_
                refine x_qVs (pc := 444) c309_237 (qa (cm124 (E := fun _ => 0) hl (by decide) hI hS)) (ko0 (by omega)) rfl rfl (Nat.le_of_ble_eq_true rfl) (by decide +kernel) (by decide +kernel) d309_444 (fun I hI => ?_)
                refine x_if_ne (pc := 447) (tgt := 454) ⟨by omega, by omega⟩ d309_447 (by decide) (fun g447 => ?_) (fun g447 => ?_)
                · refine x_iconst (pc := 454) d309_454 ?_
                  refine x_zret (pc := 455) rfl (Or.inl rfl) (fun z => Bool.noConfusion z) d309_455 ?_
                  exfalso; omega
                · refine x_iconst (pc := 450) d309_450 ?_
                  refine x_goto (pc := 451) (tgt := 455) d309_451 (by decide) ?_
                  refine x_zret (pc := 455) rfl (Or.inr rfl) (fun z => Bool.noConfusion z) d309_455 ?_
                  exact ⟨I, rfl, hI⟩
          · refine x_fconst (pc := 389) d309_389 ?_
            refine x_goto (pc := 390) (tgt := 406) d309_390 (by decide) ?_
            refine x_fceq (pc := 406) (by unfold errV; first | (rw [if_pos (by omega)]; done) | (rw [if_neg (by omega)]; done)) (by first | exact fdiv_ok ⟨by omega, by omega⟩ ⟨by omega, by omega⟩ | (show _ ≤ _; decide +kernel)) d309_406 ?_
            refine x_if_ne (pc := 407) (tgt := 454) ⟨by omega, by omega⟩ d309_407 (by decide) (fun z => absurd z (by decide)) (fun _ => ?_)
            refine x_aload_n (pc := 410) rfl d309_410 ?_
            refine x_qVs (pc := 411) c309_92 (qa (cm82 (E := fun _ => 0) hl (by decide) hI)) (ko0 (by omega)) rfl rfl (Nat.le_of_ble_eq_true rfl) (by decide +kernel) (by decide +kernel) d309_411 (fun I hI => ?_)
            refine x_aload_n (pc := 414) rfl d309_414 ?_
            refine x_qVs (pc := 415) c309_128 (qa (cm121 (E := fun _ => 0) hl (by decide) hI)) (ko0 (by omega)) rfl rfl (Nat.le_of_ble_eq_true rfl) (by decide +kernel) (by decide +kernel) d309_415 (fun I hI => ?_)
            refine x_aload_n (pc := 418) rfl d309_418 ?_
            refine x_qVs (pc := 419) c309_182 (qa (cm83 (E := fun _ => 0) hl (by decide) hI)) (ko0 (by omega)) rfl rfl (Nat.le_of_ble_eq_true rfl) (by decide +kernel) (by decide +kernel) d309_419 (fun I hI => ?_)
            refine x_aload_n (pc := 422) rfl d309_422 ?_
            refine x_qVs (pc := 423) c309_133 (qa (cm122 (E := fun _ => 0) hl (by decide) hI)) (ko0 (by omega)) rfl rfl (Nat.le_of_ble_eq_true rfl) (by decide +kernel) (by decide +kernel) d309_423 (fun I hI => ?_)
            refine x_bipush (pc := 426) (by decide) d309_426 ?_
            refine x_iload_n (pc := 428) rfl d309_428 ?_
            refine x_imul (pc := 429) d309_429 ?_
            refine x_iadd (pc := 430) d309_430 ?_
            refine x_imul (pc := 431) d309_431 ?_
            refine x_iadd (pc := 432) d309_432 ?_
            refine x_icmp_lt (pc := 433) (tgt := 454) ⟨by omega, by omega⟩ ⟨by omega, by omega⟩ d309_433 (by decide) (fun g433 => ?_) (fun g433 => ?_)
            · refine x_iconst (pc := 454) d309_454 ?_
              refine x_zret (pc := 455) rfl (Or.inl rfl) (fun z => Bool.noConfusion z) d309_455 ?_
              exfalso; omega
            · refine x_aload_n (pc := 436) rfl d309_436 ?_
              refine x_qVs (pc := 437) c309_234 (qa (cm123 (E := fun _ => 0) hl (by decide) hI hS)) (ko0 (by omega)) rfl rfl (Nat.le_of_ble_eq_true rfl) (by decide +kernel) (by decide +kernel) d309_437 (fun I hI => ?_)
              refine x_if_ne (pc := 440) (tgt := 454) ⟨by omega, by omega⟩ d309_440 (by decide) (fun g440 => ?_) (fun g440 => ?_)
              · refine x_iconst (pc := 454) d309_454 ?_
                refine x_zret (pc := 455) rfl (Or.inl rfl) (fun z => Bool.noConfusion z) d309_455 ?_
                exfalso; omega
              · refine x_aload_n (pc := 443) rfl d309_443 ?_
                refine x_qVs (pc := 444) c309_237 (qa (cm124 (E := fun _ => 0) hl (by decide) hI hS)) (ko0 (by omega)) rfl rfl (Nat.le_of_ble_eq_true rfl) (by decide +kernel) (by decide +kernel) d309_444 (fun I hI => ?_)
                refine x_if_ne (pc := 447) (tgt := 454) ⟨by omega, by omega⟩ d309_447 (by decide) (fun g447 => ?_) (fun g447 => ?_)
                · refine x_iconst (pc := 454) d309_454 ?_
                  refine x_zret (pc := 455) rfl (Or.inl rfl) (fun z => Bool.noConfusion z) d309_455 ?_
                  exfalso; omega
                · refine x_iconst (pc := 450) d309_450 ?_
                  refine x_goto (pc := 451) (tgt := 455) d309_451 (by decide) ?_
                  refine x_zret (pc := 455) rfl (Or.inr rfl) (fun z => Bool.noConfusion z) d309_455 ?_
                  exact ⟨I, rfl, hI⟩
        · refine x_dconst (pc := 364) d309_364 ?_
          refine x_goto (pc := 365) (tgt := 377) d309_365 (by decide) ?_
          refine x_dceq (pc := 377) (by unfold thrV; first | (rw [if_pos (by omega)]; done) | (rw [if_neg (by omega)]; done)) (by first | exact ddiv_ok ⟨by omega, by omega⟩ ⟨by omega, by omega⟩ | (show _ ≤ _; decide +kernel)) d309_377 ?_
          refine x_if_ne (pc := 378) (tgt := 454) ⟨by omega, by omega⟩ d309_378 (by decide) (fun z => absurd z (by decide)) (fun _ => ?_)
          refine x_aload_n (pc := 381) rfl d309_381 ?_
          refine x_cVs (pc := 382) c309_230 (dt125 hl (by decide) hI hS) (ko0 (by omega)) rfl rfl (Nat.le_of_ble_eq_true rfl) (by decide +kernel) (by decide +kernel) rfl d309_382 ?_
          refine x_iload_n (pc := 385) rfl d309_385 ?_
          refine x_if_ne (pc := 386) (tgt := 393) ⟨by omega, by omega⟩ d309_386 (by decide) (fun g386 => ?_) (fun g386 => ?_)
          · refine x_aload_n (pc := 393) rfl d309_393 ?_
            refine x_qVs (pc := 394) c309_113 (qa (cm118 (E := fun _ => 0) hl (by decide) hI)) (ko0 (by omega)) rfl rfl (Nat.le_of_ble_eq_true rfl) (by decide +kernel) (by decide +kernel) d309_394 (fun I hI => ?_)
            refine x_aload_n (pc := 397) rfl d309_397 ?_
            refine x_qVs (pc := 398) c309_123 (qa (cm120 (E := fun _ => 0) hl (by decide) hI)) (ko0 (by omega)) rfl rfl (Nat.le_of_ble_eq_true rfl) (by decide +kernel) (by decide +kernel) d309_398 (fun I hI => ?_)
            refine x_iadd (pc := 401) d309_401 ?_
            refine x_i2f (pc := 402) d309_402 ?_
            refine x_iload_n (pc := 403) rfl d309_403 ?_
            refine x_i2f (pc := 404) d309_404 ?_
            refine x_fdiv (pc := 405) (fdiv_ok ⟨by omega, by omega⟩ ⟨by omega, by omega⟩) d309_405 ?_
            refine x_fceq (pc := 406) (by unfold errV; first | (rw [if_pos (by omega)]; done) | (rw [if_neg (by omega)]; done)) (by first | exact fdiv_ok ⟨by omega, by omega⟩ ⟨by omega, by omega⟩ | (show _ ≤ _; decide +kernel)) d309_406 ?_
            refine x_if_ne (pc := 407) (tgt := 454) ⟨by omega, by omega⟩ d309_407 (by decide) (fun z => absurd z (by decide)) (fun _ => ?_)
            refine x_aload_n (pc := 410) rfl d309_410 ?_
            refine x_qVs (pc := 411) c309_92 (qa (cm82 (E := fun _ => 0) hl (by decide) hI)) (ko0 (by omega)) rfl rfl (Nat.le_of_ble_eq_true rfl) (by decide +kernel) (by decide +kernel) d309_411 (fun I hI => ?_)
            refine x_aload_n (pc := 414) rfl d309_414 ?_
            refine x_qVs (pc := 415) c309_128 (qa (cm121 (E := fun _ => 0) hl (by decide) hI)) (ko0 (by omega)) rfl rfl (Nat.le_of_ble_eq_true rfl) (by decide +kernel) (by decide +kernel) d309_415 (fun I hI => ?_)
            refine x_aload_n (pc := 418) rfl d309_418 ?_
            refine x_qVs (pc := 419) c309_182 (qa (cm83 (E := fun _ => 0) hl (by decide) hI)) (ko0 (by omega)) rfl rfl (Nat.le_of_ble_eq_true rfl) (by decide +kernel) (by decide +kernel) d309_419 (fun I hI => ?_)
            refine x_aload_n (pc := 422) rfl d309_422 ?_
            refine x_qVs (pc := 423) c309_133 (qa (cm122 (E := fun _ => 0) hl (by decide) hI)) (ko0 (by omega)) rfl rfl (Nat.le_of_ble_eq_true rfl) (by decide +kernel) (by decide +kernel) d309_423 (fun I hI => ?_)
            refine x_bipush (pc := 426) (by decide) d309_426 ?_
            refine x_iload_n (pc := 428) rfl d309_428 ?_
            refine x_imul (pc := 429) d309_429 ?_
            refine x_iadd (pc := 430) d309_430 ?_
            refine x_imul (pc := 431) d309_431 ?_
            refine x_iadd (pc := 432) d309_432 ?_
            refine x_icmp_lt (pc := 433) (tgt := 454) ⟨by omega, by omega⟩ ⟨by omega, by omega⟩ d309_433 (by decide) (fun g433 => ?_) (fun g433 => ?_)
            · refine x_iconst (pc := 454) d309_454 ?_
              refine x_zret (pc := 455) rfl (Or.inl rfl) (fun z => Bool.noConfusion z) d309_455 ?_
              exfalso; omega
            · refine x_aload_n (pc := 436) rfl d309_436 ?_
              refine x_qVs (pc := 437) c309_234 (qa (cm123 (E := fun _ => 0) hl (by decide) hI hS)) (ko0 (by omega)) rfl rfl (Nat.le_of_ble_eq_true rfl) (by decide +kernel) (by decide +kernel) d309_437 (fun I hI => ?_)
              refine x_if_ne (pc := 440) (tgt := 454) ⟨by omega, by omega⟩ d309_440 (by decide) (fun g440 => ?_) (fun g440 => ?_)
              · refine x_iconst (pc := 454) d309_454 ?_
                refine x_zret (pc := 455) rfl (Or.inl rfl) (fun z => Bool.noConfusion z) d309_455 ?_
                exfalso; omega
              · refine x_aload_n (pc := 443) rfl d309_443 ?_
                refine x_qVs (pc := 444) c309_237 (qa (cm124 (E := fun _ => 0) hl (by decide) hI hS)) (ko0 (by omega)) rfl rfl (Nat.le_of_ble_eq_true rfl) (by decide +kernel) (by decide +kernel) d309_444 (fun I hI => ?_)
                refine x_if_ne (pc := 447) (tgt := 454) ⟨by omega, by omega⟩ d309_447 (by decide) (fun g447 => ?_) (fun g447 => ?_)
                · refine x_iconst (pc := 454) d309_454 ?_
                  refine x_zret (pc := 455) rfl (Or.inl rfl) (fun z => Bool.noConfusion z) d309_455 ?_
                  exfalso; omega
                · refine x_iconst (pc := 450) d309_450 ?_
                  refine x_goto (pc := 451) (tgt := 455) d309_451 (by decide) ?_
                  refine x_zret (pc := 455) rfl (Or.inr rfl) (fun z => Bool.noConfusion z) d309_455 ?_
                  exact ⟨I, rfl, hI⟩
          · refine x_fconst (pc := 389) d309_389 ?_
            refine x_goto (pc := 390) (tgt := 406) d309_390 (by decide) ?_
            refine x_fceq (pc := 406) (by unfold errV; first | (rw [if_pos (by omega)]; done) | (rw [if_neg (by omega)]; done)) (by first | exact fdiv_ok ⟨by omega, by omega⟩ ⟨by omega, by omega⟩ | (show _ ≤ _; decide +kernel)) d309_406 ?_
            refine x_if_ne (pc := 407) (tgt := 454) ⟨by omega, by omega⟩ d309_407 (by decide) (fun z => absurd z (by decide)) (fun _ => ?_)
            refine x_aload_n (pc := 410) rfl d309_410 ?_
            refine x_qVs (pc := 411) c309_92 (qa (cm82 (E := fun _ => 0) hl (by decide) hI)) (ko0 (by omega)) rfl rfl (Nat.le_of_ble_eq_true rfl) (by decide +kernel) (by decide +kernel) d309_411 (fun I hI => ?_)
            refine x_aload_n (pc := 414) rfl d309_414 ?_
            refine x_qVs (pc := 415) c309_128 (qa (cm121 (E := fun _ => 0) hl (by decide) hI)) (ko0 (by omega)) rfl rfl (Nat.le_of_ble_eq_true rfl) (by decide +kernel) (by decide +kernel) d309_415 (fun I hI => ?_)
            refine x_aload_n (pc := 418) rfl d309_418 ?_
            refine x_qVs (pc := 419) c309_182 (qa (cm83 (E := fun _ => 0) hl (by decide) hI)) (ko0 (by omega)) rfl rfl (Nat.le_of_ble_eq_true rfl) (by decide +kernel) (by decide +kernel) d309_419 (fun I hI => ?_)
            refine x_aload_n (pc := 422) rfl d309_422 ?_
            refine x_qVs (pc := 423) c309_133 (qa (cm122 (E := fun _ => 0) hl (by decide) hI)) (ko0 (by omega)) rfl rfl (Nat.le_of_ble_eq_true rfl) (by decide +kernel) (by decide +kernel) d309_423 (fun I hI => ?_)
            refine x_bipush (pc := 426) (by decide) d309_426 ?_
            refine x_iload_n (pc := 428) rfl d309_428 ?_
            refine x_imul (pc := 429) d309_429 ?_
            refine x_iadd (pc := 430) d309_430 ?_
            refine x_imul (pc := 431) d309_431 ?_
            refine x_iadd (pc := 432) d309_432 ?_
            refine x_icmp_lt (pc := 433) (tgt := 454) ⟨by omega, by omega⟩ ⟨by omega, by omega⟩ d309_433 (by decide) (fun g433 => ?_) (fun g433 => ?_)
            · refine x_iconst (pc := 454) d309_454 ?_
              refine x_zret (pc := 455) rfl (Or.inl rfl) (fun z => Bool.noConfusion z) d309_455 ?_
              exfalso; omega
            · refine x_aload_n (pc := 436) rfl d309_436 ?_
              refine x_qVs (pc := 437) c309_234 (qa (cm123 (E := fun _ => 0) hl (by decide) hI hS)) (ko0 (by omega)) rfl rfl (Nat.le_of_ble_eq_true rfl) (by decide +kernel) (by decide +kernel) d309_437 (fun I hI => ?_)
              refine x_if_ne (pc := 440) (tgt := 454) ⟨by omega, by omega⟩ d309_440 (by decide) (fun g440 => ?_) (fun g440 => ?_)
              · refine x_iconst (pc := 454) d309_454 ?_
                refine x_zret (pc := 455) rfl (Or.inl rfl) (fun z => Bool.noConfusion z) d309_455 ?_
                exfalso; omega
              · refine x_aload_n (pc := 443) rfl d309_443 ?_
                refine x_qVs (pc := 444) c309_237 (qa (cm124 (E := fun _ => 0) hl (by decide) hI hS)) (ko0 (by omega)) rfl rfl (Nat.le_of_ble_eq_true rfl) (by decide +kernel) (by decide +kernel) d309_444 (fun I hI => ?_)
                refine x_if_ne (pc := 447) (tgt := 454) ⟨by omega, by omega⟩ d309_447 (by decide) (fun g447 => ?_) (fun g447 => ?_)
                · refine x_iconst (pc := 454) d309_454 ?_
                  refine x_zret (pc := 455) rfl (Or.inl rfl) (fun z => Bool.noConfusion z) d309_455 ?_
                  exfalso; omega
                · refine x_iconst (pc := 450) d309_450 ?_
                  refine x_goto (pc := 451) (tgt := 455) d309_451 (by decide) ?_
                  refine x_zret (pc := 455) rfl (Or.inr rfl) (fun z => Bool.noConfusion z) d309_455 ?_
                  exact ⟨I, rfl, hI⟩
theorem std_b (hl : l.1.stackTraces = false) (hS : GOK S) (hP : PI (gA S)) {I : Nat → Int → Int} (hI : CREL I S) {z : Int} (z0 : 0 ≤ z) (z1 : z ≤ 99999) (hc : gA S 0 7 ≤ 600000) : Ex l 309 440 (6 * 440) 302 [some (.ref 0), some (.int (iI z)), some (.int (iI (gA S 0 6))), some (.int (iI (gA S 0 10))), some (.int (iI (pendA (gA S)))), some (.int (iI (ackA (gA S)))), none, none, none, none, none, none] [] (mm 181 I v false) (oE 181 v false (some (.int (iI 1))) (fun K => CREL K S)) := by
  have h48 := fr48 hS
  obtain ⟨r1, r2, r3, r4, r5, r6, r7, r8, r9, r10⟩ := hS.1.rg
  have hcb := cB_v
  have c10 := hS.1.ct 10 (by decide) (by decide)
  have c11 := hS.1.ct 11 (by decide) (by decide)
  have c14 := hS.1.ct 14 (by decide) (by decide)
  have c15 := hS.1.ct 15 (by decide) (by decide)
  have c16 := hS.1.ct 16 (by decide) (by decide)
  have c17 := hS.1.ct 17 (by decide) (by decide)
  have hi0 := imp0 hP
  have hk0 := cki0 hP
  have hac := ack_b hS.1
  have htr := trS_r hS (n := gA S 0 6) (by omega) (by omega)
  have e10 : gA S 0 10 = trS (gA S) (gA S 0 6) := hP.2.2.2.2.2.1
  have hcl : gA S 0 7 = (gA S 0 0) * ((gA S 0 16) + 8 * (gA S 0 10)) + gA S 0 15 + gA S 0 17 := by
    have := hP.2.2.2.2.2.2
    rw [Int.mul_comm (gA S 0 0)]
    exact this
  have hpr : -1 ≤ pendA (gA S) ∧ pendA (gA S) < 49 := by
    have := pdS_r (A := gA S) (n := gA S 0 6) (by omega)
    have e : pdS (gA S) (gA S 0 6) = pendA (gA S) := rfl
    omega
  have hz0 := Int.emod_nonneg z (b := gA S 0 6)
  have hz1 := Int.emod_lt_of_pos z (b := gA S 0 6)
  refine x_iload_n (pc := 302) rfl d309_302 ?_
  refine x_if_le (pc := 303) (tgt := 328) ⟨by omega, by omega⟩ d309_303 (by decide) (fun g303 => ?_) (fun g303 => ?_)
  · refine x_mask [true, false, true, true, true, true, true, true, true, true, true, true] ?_
    dsimp only [mask]
    refine ex_le (B' := 20) (by omega) rfl ?_
    exact std_c hl hS hP hI z0 z1 hc
  · refine x_aload_n (pc := 306) rfl d309_306 ?_
    refine x_iload_n (pc := 307) rfl d309_307 ?_
    refine x_iload_n (pc := 308) rfl d309_308 ?_
    refine x_irem (pc := 309) (by omega) (by omega) (by omega) (by omega) d309_309 ?_
    refine x_aload_n (pc := 310) rfl d309_310 ?_
    refine x_qVs (pc := 311) c309_92 (qa (cm82 (E := fun _ => 0) hl (by decide) hI)) (ko0 (by omega)) rfl rfl (Nat.le_of_ble_eq_true rfl) (by decide +kernel) (by decide +kernel) d309_311 (fun I hI => ?_)
    refine x_iload_n (pc := 314) rfl d309_314 ?_
    refine x_sipush (pc := 315) (by decide) d309_315 ?_
    refine x_irem (pc := 318) (by omega) (by omega) (by omega) (by omega) d309_318 ?_
    refine x_iadd (pc := 319) d309_319 ?_
    refine x_qSs (pc := 320) c309_219 (ct_isr hl hS hP hI (by omega) (by omega) (by omega) (by omega)) rfl rfl (Nat.le_of_ble_eq_true rfl) (by decide +kernel) (by decide +kernel) d309_320 (fun I hI => ?_)
    refine x_if_ne (pc := 323) (tgt := 328) ⟨by omega, by omega⟩ d309_323 (by decide) (fun _ => ?_) (fun z => absurd z (by decide))
    refine x_mask [true, false, true, true, true, true, true, true, true, true, true, true] ?_
    dsimp only [mask]
    refine ex_le (B' := 20) (by omega) rfl ?_
    exact std_c hl hS hP hI z0 z1 hc
theorem std_end (hl : l.1.stackTraces = false) (hS : GOK S) (hP : PI (gA S)) {I : Nat → Int → Int} (hI : CREL I S) {z : Int} (z0 : 0 ≤ z) (z1 : z ≤ 99999) (hc : gA S 0 7 ≤ 600000) : Ex l 309 460 (6 * 460) 216 [some (.ref 0), some (.int (iI z)), some (.int (iI (gA S 0 6))), some (.int (iI (gA S 0 10))), some (.int (iI (pendA (gA S)))), some (.int (iI (ackA (gA S)))), none, none, none, none, none, none] [] (mm 181 I v false) (oE 181 v false (some (.int (iI 1))) (fun K => CREL K S)) := by
  have h48 := fr48 hS
  obtain ⟨r1, r2, r3, r4, r5, r6, r7, r8, r9, r10⟩ := hS.1.rg
  have hcb := cB_v
  have c10 := hS.1.ct 10 (by decide) (by decide)
  have c11 := hS.1.ct 11 (by decide) (by decide)
  have c14 := hS.1.ct 14 (by decide) (by decide)
  have c15 := hS.1.ct 15 (by decide) (by decide)
  have c16 := hS.1.ct 16 (by decide) (by decide)
  have c17 := hS.1.ct 17 (by decide) (by decide)
  have hi0 := imp0 hP
  have hk0 := cki0 hP
  have hac := ack_b hS.1
  have htr := trS_r hS (n := gA S 0 6) (by omega) (by omega)
  have e10 : gA S 0 10 = trS (gA S) (gA S 0 6) := hP.2.2.2.2.2.1
  have hcl : gA S 0 7 = (gA S 0 0) * ((gA S 0 16) + 8 * (gA S 0 10)) + gA S 0 15 + gA S 0 17 := by
    have := hP.2.2.2.2.2.2
    rw [Int.mul_comm (gA S 0 0)]
    exact this
  have hpr : -1 ≤ pendA (gA S) ∧ pendA (gA S) < 49 := by
    have := pdS_r (A := gA S) (n := gA S 0 6) (by omega)
    have e : pdS (gA S) (gA S 0 6) = pendA (gA S) := rfl
    omega
  have hz0 := Int.emod_nonneg z (b := gA S 0 6)
  have hz1 := Int.emod_lt_of_pos z (b := gA S 0 6)
  have hf := fstN_r (c := chewA (gA S)) 1001 (gA S 0 7)
  have hf1 : -1 ≤ fstN (chewA (gA S)) (-1) 1001 (gA S 0 7) ∧ fstN (chewA (gA S)) (-1) 1001 (gA S 0 7) ≤ 601001 := by
    rcases hf with h | ⟨a, b, -, -⟩ <;> omega
  have hf2 : 0 ≤ fstN (chewA (gA S)) (-1) 1001 (gA S 0 7) → chewA (gA S) (fstN (chewA (gA S)) (-1) 1001 (gA S 0 7)) = true := fun h0 => by
    rcases hf with h | ⟨-, -, c, -⟩
    · omega
    · exact c
  have hf3 : gA S 0 7 < fstN (chewA (gA S)) (-1) 1001 (gA S 0 7) → chewA (gA S) (fstN (chewA (gA S)) (-1) 1001 (gA S 0 7) - 1) = false := fun h0 => by
    rcases hf with h | ⟨a, -, -, c⟩
    · omega
    · exact c _ (by omega) (by omega)
  have hq := quiN_r (c := chewA (gA S)) (k := 1 + z % 40) (by omega) (2000 + (1 + z % 40)).toNat (gA S 0 7) 0 (by decide) (by omega) (fun j a b => absurd a (by omega))
  have hq1 : -1 ≤ quiN (chewA (gA S)) (1 + z % 40) (2000 + (1 + z % 40)).toNat (gA S 0 7) 0 ∧ quiN (chewA (gA S)) (1 + z % 40) (2000 + (1 + z % 40)).toNat (gA S 0 7) 0 ≤ 603000 := by
    rcases hq with h | ⟨a, b, -⟩ <;> omega
  have hq2 : 0 ≤ quiN (chewA (gA S)) (1 + z % 40) (2000 + (1 + z % 40)).toNat (gA S 0 7) 0 → ∀ i, 0 ≤ i → i ≤ z % 40 → chewA (gA S) (quiN (chewA (gA S)) (1 + z % 40) (2000 + (1 + z % 40)).toNat (gA S 0 7) 0 + i) = false := fun h0 i i0 i1 => by
    rcases hq with h | ⟨-, -, c⟩
    · omega
    · exact c _ (by omega) (by omega)
  have hq3 := fun h0 => hq2 h0 0 (by decide) (by omega)
  rw [Int.add_zero] at hq3
  have hq4 := fun h0 => hq2 h0 (z % 40) (by omega) (by omega)
  refine x_aload_n (pc := 216) rfl d309_216 ?_
  refine x_aload_n (pc := 217) rfl d309_217 ?_
  refine x_qVs (pc := 218) c309_92 (qa (cm82 (E := fun _ => 0) hl (by decide) hI)) (ko0 (by omega)) rfl rfl (Nat.le_of_ble_eq_true rfl) (by decide +kernel) (by decide +kernel) d309_218 (fun I hI => ?_)
  refine x_qVs (pc := 221) c309_213 (qb (isT_t (by omega) (by omega)) (cm87 hl (by decide) hI hS ⟨by omega, by omega⟩)) (ko0 (by omega)) rfl rfl (Nat.le_of_ble_eq_true rfl) (by decide +kernel) (by decide +kernel) d309_221 (fun I hI => ?_)
  refine x_istore (pc := 224) (by decide +kernel) rfl d309_224 ?_
  dsimp only [List.set]
  refine x_aload_n (pc := 226) rfl d309_226 ?_
  refine x_iconst (pc := 227) d309_227 ?_
  refine x_iload_n (pc := 228) rfl d309_228 ?_
  refine x_bipush (pc := 229) (by decide) d309_229 ?_
  refine x_irem (pc := 231) (by omega) (by omega) (by omega) (by omega) d309_231 ?_
  refine x_iadd (pc := 232) d309_232 ?_
  refine x_qVs (pc := 233) c309_216 (qb (dT ⟨by omega, by omega⟩) (cm88 hl (by decide) hI hS ⟨by omega, by omega⟩)) (ko0 (by omega)) rfl rfl (Nat.le_of_ble_eq_true rfl) (by decide +kernel) (by decide +kernel) d309_233 (fun I hI => ?_)
  refine x_istore (pc := 236) (by decide +kernel) rfl d309_236 ?_
  dsimp only [List.set]
  refine x_iload (pc := 238) rfl d309_238 ?_
  refine x_if_lt (pc := 240) (tgt := 272) ⟨by omega, by omega⟩ d309_240 (by decide) (fun g240 => ?_) (fun g240 => ?_)
  · refine x_iload (pc := 272) rfl d309_272 ?_
    refine x_if_lt (pc := 274) (tgt := 302) ⟨by omega, by omega⟩ d309_274 (by decide) (fun g274 => ?_) (fun g274 => ?_)
    · refine x_mask [true, true, true, true, true, true, false, false, true, true, true, true] ?_
      dsimp only [mask]
      refine ex_le (B' := 440) (by omega) rfl ?_
      exact std_b hl hS hP hI z0 z1 hc
    · refine x_aload_n (pc := 277) rfl d309_277 ?_
      refine x_iload (pc := 278) rfl d309_278 ?_
      refine x_qVs (pc := 280) c309_166 (qb (isT_t (by omega) (by omega)) (cm86 hl (by decide) hI hS ⟨by omega, by omega⟩)) (ko0 (by omega)) rfl rfl (Nat.le_of_ble_eq_true rfl) (by decide +kernel) (by decide +kernel) d309_280 (fun I hI => ?_)
      refine x_ifB_ne (pc := 283) (tgt := 300) d309_283 (by decide) (fun g283 => ?_) (fun g283 => ?_)
      · refine x_iconst (pc := 300) d309_300 ?_
        refine x_zret (pc := 301) rfl (Or.inl rfl) (fun z => Bool.noConfusion z) d309_301 ?_
        exact absurd ((hq3 g274).symm.trans g283) Bool.false_ne_true
      · refine x_aload_n (pc := 286) rfl d309_286 ?_
        refine x_iload (pc := 287) rfl d309_287 ?_
        refine x_iload_n (pc := 289) rfl d309_289 ?_
        refine x_bipush (pc := 290) (by decide) d309_290 ?_
        refine x_irem (pc := 292) (by omega) (by omega) (by omega) (by omega) d309_292 ?_
        refine x_iadd (pc := 293) d309_293 ?_
        refine x_qVs (pc := 294) c309_166 (qb (isT_t (by omega) (by omega)) (cm86 hl (by decide) hI hS ⟨by omega, by omega⟩)) (ko0 (by omega)) rfl rfl (Nat.le_of_ble_eq_true rfl) (by decide +kernel) (by decide +kernel) d309_294 (fun I hI => ?_)
        refine x_ifB_eq (pc := 297) (tgt := 302) d309_297 (by decide) (fun g297 => ?_) (fun g297 => ?_)
        · refine x_mask [true, true, true, true, true, true, false, false, true, true, true, true] ?_
          dsimp only [mask]
          refine ex_le (B' := 440) (by omega) rfl ?_
          exact std_b hl hS hP hI z0 z1 hc
        · refine x_iconst (pc := 300) d309_300 ?_
          refine x_zret (pc := 301) rfl (Or.inl rfl) (fun z => Bool.noConfusion z) d309_301 ?_
          exact absurd ((hq4 g274).symm.trans g297) Bool.false_ne_true
  · refine x_aload_n (pc := 243) rfl d309_243 ?_
    refine x_iload (pc := 244) rfl d309_244 ?_
    refine x_qVs (pc := 246) c309_166 (qb (isT_t (by omega) (by omega)) (cm86 hl (by decide) hI hS ⟨by omega, by omega⟩)) (ko0 (by omega)) rfl rfl (Nat.le_of_ble_eq_true rfl) (by decide +kernel) (by decide +kernel) d309_246 (fun I hI => ?_)
    refine x_ifB_eq (pc := 249) (tgt := 300) d309_249 (by decide) (fun g249 => ?_) (fun g249 => ?_)
    · refine x_iconst (pc := 300) d309_300 ?_
      refine x_zret (pc := 301) rfl (Or.inl rfl) (fun z => Bool.noConfusion z) d309_301 ?_
      exact absurd (g249.symm.trans (hf2 g240)) Bool.false_ne_true
    · refine x_iload (pc := 252) rfl d309_252 ?_
      refine x_aload_n (pc := 254) rfl d309_254 ?_
      refine x_qVs (pc := 255) c309_92 (qa (cm82 (E := fun _ => 0) hl (by decide) hI)) (ko0 (by omega)) rfl rfl (Nat.le_of_ble_eq_true rfl) (by decide +kernel) (by decide +kernel) d309_255 (fun I hI => ?_)
      refine x_icmp_le (pc := 258) (tgt := 272) ⟨by omega, by omega⟩ ⟨by omega, by omega⟩ d309_258 (by decide) (fun g258 => ?_) (fun g258 => ?_)
      · refine x_iload (pc := 272) rfl d309_272 ?_
        refine x_if_lt (pc := 274) (tgt := 302) ⟨by omega, by omega⟩ d309_274 (by decide) (fun g274 => ?_) (fun g274 => ?_)
        · refine x_mask [true, true, true, true, true, true, false, false, true, true, true, true] ?_
          dsimp only [mask]
          refine ex_le (B' := 440) (by omega) rfl ?_
          exact std_b hl hS hP hI z0 z1 hc
        · refine x_aload_n (pc := 277) rfl d309_277 ?_
          refine x_iload (pc := 278) rfl d309_278 ?_
          refine x_qVs (pc := 280) c309_166 (qb (isT_t (by omega) (by omega)) (cm86 hl (by decide) hI hS ⟨by omega, by omega⟩)) (ko0 (by omega)) rfl rfl (Nat.le_of_ble_eq_true rfl) (by decide +kernel) (by decide +kernel) d309_280 (fun I hI => ?_)
          refine x_ifB_ne (pc := 283) (tgt := 300) d309_283 (by decide) (fun g283 => ?_) (fun g283 => ?_)
          · refine x_iconst (pc := 300) d309_300 ?_
            refine x_zret (pc := 301) rfl (Or.inl rfl) (fun z => Bool.noConfusion z) d309_301 ?_
            exact absurd ((hq3 g274).symm.trans g283) Bool.false_ne_true
          · refine x_aload_n (pc := 286) rfl d309_286 ?_
            refine x_iload (pc := 287) rfl d309_287 ?_
            refine x_iload_n (pc := 289) rfl d309_289 ?_
            refine x_bipush (pc := 290) (by decide) d309_290 ?_
            refine x_irem (pc := 292) (by omega) (by omega) (by omega) (by omega) d309_292 ?_
            refine x_iadd (pc := 293) d309_293 ?_
            refine x_qVs (pc := 294) c309_166 (qb (isT_t (by omega) (by omega)) (cm86 hl (by decide) hI hS ⟨by omega, by omega⟩)) (ko0 (by omega)) rfl rfl (Nat.le_of_ble_eq_true rfl) (by decide +kernel) (by decide +kernel) d309_294 (fun I hI => ?_)
            refine x_ifB_eq (pc := 297) (tgt := 302) d309_297 (by decide) (fun g297 => ?_) (fun g297 => ?_)
            · refine x_mask [true, true, true, true, true, true, false, false, true, true, true, true] ?_
              dsimp only [mask]
              refine ex_le (B' := 440) (by omega) rfl ?_
              exact std_b hl hS hP hI z0 z1 hc
            · refine x_iconst (pc := 300) d309_300 ?_
              refine x_zret (pc := 301) rfl (Or.inl rfl) (fun z => Bool.noConfusion z) d309_301 ?_
              exact absurd ((hq4 g274).symm.trans g297) Bool.false_ne_true
      · refine x_aload_n (pc := 261) rfl d309_261 ?_
        refine x_iload (pc := 262) rfl d309_262 ?_
        refine x_iconst (pc := 264) d309_264 ?_
        refine x_isub (pc := 265) d309_265 ?_
        refine x_qVs (pc := 266) c309_166 (qb (isT_t (by omega) (by omega)) (cm86 hl (by decide) hI hS ⟨by omega, by omega⟩)) (ko0 (by omega)) rfl rfl (Nat.le_of_ble_eq_true rfl) (by decide +kernel) (by decide +kernel) d309_266 (fun I hI => ?_)
        refine x_ifB_ne (pc := 269) (tgt := 300) d309_269 (by decide) (fun g269 => ?_) (fun g269 => ?_)
        · refine x_iconst (pc := 300) d309_300 ?_
          refine x_zret (pc := 301) rfl (Or.inl rfl) (fun z => Bool.noConfusion z) d309_301 ?_
          exact absurd ((hf3 g258).symm.trans g269) Bool.false_ne_true
        · refine x_iload (pc := 272) rfl d309_272 ?_
          refine x_if_lt (pc := 274) (tgt := 302) ⟨by omega, by omega⟩ d309_274 (by decide) (fun g274 => ?_) (fun g274 => ?_)
          · refine x_mask [true, true, true, true, true, true, false, false, true, true, true, true] ?_
            dsimp only [mask]
            refine ex_le (B' := 440) (by omega) rfl ?_
            exact std_b hl hS hP hI z0 z1 hc
          · refine x_aload_n (pc := 277) rfl d309_277 ?_
            refine x_iload (pc := 278) rfl d309_278 ?_
            refine x_qVs (pc := 280) c309_166 (qb (isT_t (by omega) (by omega)) (cm86 hl (by decide) hI hS ⟨by omega, by omega⟩)) (ko0 (by omega)) rfl rfl (Nat.le_of_ble_eq_true rfl) (by decide +kernel) (by decide +kernel) d309_280 (fun I hI => ?_)
            refine x_ifB_ne (pc := 283) (tgt := 300) d309_283 (by decide) (fun g283 => ?_) (fun g283 => ?_)
            · refine x_iconst (pc := 300) d309_300 ?_
              refine x_zret (pc := 301) rfl (Or.inl rfl) (fun z => Bool.noConfusion z) d309_301 ?_
              exact absurd ((hq3 g274).symm.trans g283) Bool.false_ne_true
            · refine x_aload_n (pc := 286) rfl d309_286 ?_
              refine x_iload (pc := 287) rfl d309_287 ?_
              refine x_iload_n (pc := 289) rfl d309_289 ?_
              refine x_bipush (pc := 290) (by decide) d309_290 ?_
              refine x_irem (pc := 292) (by omega) (by omega) (by omega) (by omega) d309_292 ?_
              refine x_iadd (pc := 293) d309_293 ?_
              refine x_qVs (pc := 294) c309_166 (qb (isT_t (by omega) (by omega)) (cm86 hl (by decide) hI hS ⟨by omega, by omega⟩)) (ko0 (by omega)) rfl rfl (Nat.le_of_ble_eq_true rfl) (by decide +kernel) (by decide +kernel) d309_294 (fun I hI => ?_)
              refine x_ifB_eq (pc := 297) (tgt := 302) d309_297 (by decide) (fun g297 => ?_) (fun g297 => ?_)
              · refine x_mask [true, true, true, true, true, true, false, false, true, true, true, true] ?_
                dsimp only [mask]
                refine ex_le (B' := 440) (by omega) rfl ?_
                exact std_b hl hS hP hI z0 z1 hc
              · refine x_iconst (pc := 300) d309_300 ?_
                refine x_zret (pc := 301) rfl (Or.inl rfl) (fun z => Bool.noConfusion z) d309_301 ?_
                exact absurd ((hq4 g274).symm.trans g297) Bool.false_ne_true
theorem ct_std (hl : l.1.stackTraces = false) (hS : GOK S) (hP : PI (gA S)) {I : Nat → Int → Int} (hI : CREL I S) {z : Int} (z0 : 0 ≤ z) (z1 : z ≤ 99999) (hc : gA S 0 7 ≤ 600000) : CT l 309 [.ref 0, .int (iI z)] (mm 181 I v false) 4600 (6 * 4600) (oE 181 v false (some (.int (iI 1))) (fun K => CREL K S)) := by
  have h48 := fr48 hS
  have hms := hS.1.ms
  have e0 : ffM (gA S) 0 = 0 := rfl
  refine mkct2 hl (by decide) (Nat.le_of_ble_eq_true rfl) (L := [some (.ref 0), some (.int (iI z)), none, none, none, none, none, none, none, none, none, none]) rfl ?_
  refine x_iconst (pc := 0) d309_0 ?_
  refine x_istore_n (pc := 1) (by decide +kernel) rfl d309_1 ?_
  dsimp only [List.set]
  refine x_iconst (pc := 2) d309_2 ?_
  refine x_istore_n (pc := 3) (by decide +kernel) rfl d309_3 ?_
  dsimp only [List.set]
  refine x_iconst (pc := 4) d309_4 ?_
  refine x_istore (pc := 5) (by decide +kernel) rfl d309_5 ?_
  dsimp only [List.set]
  refine x_iconst (pc := 7) d309_7 ?_
  refine x_istore (pc := 8) (by decide +kernel) rfl d309_8 ?_
  dsimp only [List.set]
  refine x_iconst (pc := 10) d309_10 ?_
  refine x_istore (pc := 11) (by decide +kernel) rfl d309_11 ?_
  dsimp only [List.set]
  have := lp_sdm (v := v) (Q := oE 181 v false (some (.int (iI 1))) (fun K => CREL K S)) (B := 460) (z := z) hl hS hP (gA S 0 5).toNat 0 I (by omega) (by decide) hI (fun I hI => std_end hl hS hP hI z0 z1 hc)
  rw [e0] at this
  exact ex_le (by omega) rfl this
end Std
