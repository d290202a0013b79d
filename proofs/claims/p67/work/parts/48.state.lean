/-! ===== the whole state ===== -/
/-- the modem; the states before, oldest first, and how many; the saved one; the input; the error; the output -/
abbrev GS : Type := AV × ((Int → AV) × Int) × (Bool × AV) × (Int × (Int → Int)) × (Int × Int) × (Int × (Int → Int))
def gA (S : GS) : AV := S.1
def gH (S : GS) : Int → AV := S.2.1.1
def gN (S : GS) : Int := S.2.1.2
def gV (S : GS) : Bool := S.2.2.1.1
def gW (S : GS) : AV := S.2.2.1.2
def gL (S : GS) : Int := S.2.2.2.1.1
def gT (S : GS) : Int → Int := S.2.2.2.1.2
def gE (S : GS) : Int := S.2.2.2.2.1.1
def gP (S : GS) : Int := S.2.2.2.2.1.2
def gM (S : GS) : Int := S.2.2.2.2.2.1
def gO (S : GS) : Int → Int := S.2.2.2.2.2.2
def sA (S : GS) (A : AV) : GS := (A, S.2)
def sH (S : GS) (H : (Int → AV) × Int) : GS := (S.1, H, S.2.2)
def sV (S : GS) (V : Bool × AV) : GS := (S.1, S.2.1, V, S.2.2.2)
def sL (S : GS) (L : Int × (Int → Int)) : GS := (S.1, S.2.1, S.2.2.1, L, S.2.2.2.2)
def sE (S : GS) (E : Int × Int) : GS := (S.1, S.2.1, S.2.2.1, S.2.2.2.1, E, S.2.2.2.2.2)
def sM (S : GS) (M : Int × (Int → Int)) : GS := (S.1, S.2.1, S.2.2.1, S.2.2.2.1, S.2.2.2.2.1, M)
/-- a state more before -/
def hpush (S : GS) : (Int → AV) × Int := if gN S = 8 then (fun k => if k = 7 then gA S else gH S (k + 1), 8) else (fun k => if k = gN S then gA S else gH S k, gN S + 1)
def keepG (S : GS) : GS := sH S (hpush S)
def GOK (S : GS) : Prop := AINV (gA S) cB ∧ ((0 ≤ gN S ∧ gN S ≤ 8) ∧ ∀ k : Int, 0 ≤ k → k < gN S → AINV (gH S k) cB) ∧ (gV S = true → AINV (gW S) cB) ∧ ((0 ≤ gL S ∧ gL S ≤ 500) ∧ ∀ i : Int, 0 ≤ i → i < gL S → 0 ≤ gT S i ∧ gT S i ≤ 255) ∧ (0 ≤ gM S ∧ gM S ≤ 53)
/-! how the class's memory shows it -/
def cvA (I : Nat → Int → Int) (S : GS) : Prop := Vc I 136 = gA S ∧ CX I 136
def cvH (I : Nat → Int → Int) (S : GS) : Prop := I 14 0 = gN S ∧ (0 ≤ I 14 1 ∧ I 14 1 < 8) ∧ ∀ k : Int, 0 ≤ k → k < gN S → Vc I (rowP ((I 14 1 + 8 - gN S + k) % 8)) = gH S k ∧ CX I (rowP ((I 14 1 + 8 - gN S + k) % 8))
def cvV (I : Nat → Int → Int) (S : GS) : Prop := I 0 9 = b01 (gV S) ∧ (gV S = true → Vc I 151 = gW S ∧ CX I 151)
def cvL (I : Nat → Int → Int) (S : GS) : Prop := I 1 1 = gL S ∧ I 2 = gT S
def cvE (I : Nat → Int → Int) (S : GS) : Prop := I 5 4 = gE S ∧ I 5 5 = gP S
def cvM (I : Nat → Int → Int) (S : GS) : Prop := I 3 1 = gM S ∧ ∀ i : Int, 0 ≤ i → i < gM S → I 4 i = gO S i
def CREL (I : Nat → Int → Int) (S : GS) : Prop := cvA I S ∧ cvH I S ∧ cvV I S ∧ BX I 166 ∧ cvL I S ∧ cvE I S ∧ cvM I S
theorem cvA.cg {I K : Nat → Int → Int} {S : GS} (h : cvA I S) (hh : ∀ a, 136 ≤ a → a ≤ 150 → K a = I a) : cvA K S := ⟨by rw [vc_congr (p := 136) (fun a h0 h1 => hh a h0 (by omega))]; exact h.1, h.2.cong fun a h0 h1 => hh a h0 (by omega)⟩
theorem cvH.cg {I K : Nat → Int → Int} {S : GS} (h : cvH I S) (h14 : K 14 = I 14) (hh : ∀ a, 16 ≤ a → a < 136 → K a = I a) : cvH K S := by
  refine ⟨by rw [h14]; exact h.1, by rw [h14]; exact h.2.1, fun k h0 h1 => ?_⟩
  rw [h14]
  have hb := rowP_b (n := (I 14 1 + 8 - gN S + k) % 8) (by omega) (by omega)
  have g := h.2.2 k h0 h1
  exact ⟨by rw [vc_congr fun a h0 h1 => hh a (by omega) (by omega)]; exact g.1, g.2.cong fun a h0 h1 => hh a (by omega) (by omega)⟩
theorem cvV.cg {I K : Nat → Int → Int} {S : GS} (h : cvV I S) (h0 : K 0 9 = I 0 9) (hh : ∀ a, 151 ≤ a → a ≤ 165 → K a = I a) : cvV K S :=
  ⟨by rw [h0]; exact h.1, fun g => ⟨by rw [vc_congr (p := 151) (fun a h0 h1 => hh a h0 (by omega))]; exact (h.2 g).1, (h.2 g).2.cong fun a h0 h1 => hh a h0 (by omega)⟩⟩
theorem BX.cg {I K : Nat → Int → Int} (h : BX I 166) (hh : ∀ a, 166 ≤ a → a ≤ 180 → K a = I a) : BX K 166 := by
  unfold BX
  rw [hh 178 (by decide) (by decide), hh 179 (by decide) (by decide)]
  exact h
theorem cvL.cg {I K : Nat → Int → Int} {S : GS} (h : cvL I S) (h1 : K 1 = I 1) (h2 : K 2 = I 2) : cvL K S := ⟨by rw [h1]; exact h.1, by rw [h2]; exact h.2⟩
theorem cvE.cg {I K : Nat → Int → Int} {S : GS} (h : cvE I S) (h4 : K 5 4 = I 5 4) (h5 : K 5 5 = I 5 5) : cvE K S := ⟨by rw [h4]; exact h.1, by rw [h5]; exact h.2⟩
theorem cvM.cg {I K : Nat → Int → Int} {S : GS} (h : cvM I S) (h3 : K 3 = I 3) (h4 : K 4 = I 4) : cvM K S := ⟨by rw [h3]; exact h.1, by rw [h4]; exact h.2⟩
/-- nothing but the cable has changed -/
theorem CREL.offC {I K : Nat → Int → Int} {S : GS} (h : CREL I S) (hh : offC I K) : CREL K S :=
  ⟨h.1.cg fun a h0 h1 => hh a (by omega) (by omega) (by omega), h.2.1.cg (hh 14 (by decide) (by decide) (by decide)) fun a h0 h1 => hh a (by omega) (by omega) (by omega), h.2.2.1.cg (by rw [hh 0 (by decide) (by decide) (by decide)]) fun a h0 h1 => hh a (by omega) (by omega) (by omega), h.2.2.2.1.cg fun a h0 h1 => hh a (by omega) (by omega) (by omega), h.2.2.2.2.1.cg (hh 1 (by decide) (by decide) (by decide)) (hh 2 (by decide) (by decide) (by decide)), h.2.2.2.2.2.1.cg (by rw [hh 5 (by decide) (by decide) (by decide)]) (by rw [hh 5 (by decide) (by decide) (by decide)]), h.2.2.2.2.2.2.cg (hh 3 (by decide) (by decide) (by decide)) (hh 4 (by decide) (by decide) (by decide))⟩
/-- the modem alone (and the cable) has changed -/
theorem CREL.line {I K : Nat → Int → Int} {S : GS} {A : AV} (h : CREL I S) (hh : offL 136 I K) (hv : Vc K 136 = A) (hx : CX K 136) : CREL K (sA S A) :=
  ⟨⟨hv, hx⟩, h.2.1.cg (hh 14 (by decide) (by decide) (by decide) (by decide)) fun a h0 h1 => hh a (by omega) (by omega) (by omega) (by omega), h.2.2.1.cg (by rw [hh 0 (by decide) (by decide) (by decide) (by decide)]) fun a h0 h1 => hh a (by omega) (by omega) (by omega) (by omega), h.2.2.2.1.cg fun a h0 h1 => hh a (by omega) (by omega) (by omega) (by omega), h.2.2.2.2.1.cg (hh 1 (by decide) (by decide) (by decide) (by decide)) (hh 2 (by decide) (by decide) (by decide) (by decide)), h.2.2.2.2.2.1.cg (by rw [hh 5 (by decide) (by decide) (by decide) (by decide)]) (by rw [hh 5 (by decide) (by decide) (by decide) (by decide)]), h.2.2.2.2.2.2.cg (hh 3 (by decide) (by decide) (by decide) (by decide)) (hh 4 (by decide) (by decide) (by decide) (by decide))⟩
theorem GOK.line {S : GS} {A : AV} (h : GOK S) (hA : AINV A cB) : GOK (sA S A) := ⟨hA, h.2⟩
theorem GOK.keep {S : GS} (h : GOK S) : GOK (keepG S) := by
  obtain ⟨hA, ⟨hN, hH⟩, hr⟩ := h
  refine ⟨hA, ?_, hr⟩
  show ((0 ≤ (hpush S).2 ∧ (hpush S).2 ≤ 8) ∧ ∀ k : Int, 0 ≤ k → k < (hpush S).2 → AINV ((hpush S).1 k) cB)
  unfold hpush
  by_cases e : gN S = 8
  · rw [if_pos e]
    refine ⟨(show (0 : Int) ≤ 8 ∧ (8 : Int) ≤ 8 from by decide), fun k h0 h1 => ?_⟩
    dsimp only at h1 ⊢
    split
    · exact hA
    · exact hH _ (by omega) (by omega)
  · rw [if_neg e]
    refine ⟨⟨by dsimp only; omega, by dsimp only; omega⟩, fun k h0 h1 => ?_⟩
    dsimp only at h1 ⊢
    split
    · exact hA
    · exact hH _ h0 (by omega)
theorem row_ne {a b : Int} (h0 : 0 ≤ a) (h1 : a < 8) (h2 : 0 ≤ b) (h3 : b < 8) (h : a ≠ b) : rowP a + 14 < rowP b ∨ rowP b + 14 < rowP a := by unfold rowP; omega
/-- .. the line is kept among the states before -/
theorem CREL.keep {I K : Nat → Int → Int} {S : GS} {n : Int} (h : CREL I S) (hS : GOK S) (hn : I 14 1 = n) (k0 : ∀ b, (b < rowP n ∨ rowP n + 14 < b) → b ≠ 14 → K b = I b) (k1 : Vc K (rowP n) = Vc I 136) (k2 : CX K (rowP n)) (k3 : K 14 1 = (n + 1) % 8) (k4 : K 14 0 = min (I 14 0 + 1) 8) : CREL K (keepG S) := by
  obtain ⟨h1, h2, h3, h4, h5, h6, h7⟩ := h
  have hN := hS.2.1.1
  have hn8 := h2.2.1
  rw [hn] at hn8
  have hb := rowP_b (n := n) hn8.1 hn8.2
  refine ⟨h1.cg fun a h0 h1 => k0 a (by omega) (by omega), ?_, h3.cg (by rw [k0 0 (by omega) (by decide)]) fun a h0 h1 => k0 a (by omega) (by omega), h4.cg fun a h0 h1 => k0 a (by omega) (by omega), h5.cg (k0 1 (by omega) (by decide)) (k0 2 (by omega) (by decide)), h6.cg (by rw [k0 5 (by omega) (by decide)]) (by rw [k0 5 (by omega) (by decide)]), h7.cg (k0 3 (by omega) (by decide)) (k0 4 (by omega) (by decide))⟩
  have old : ∀ m : Int, 0 ≤ m → m < 8 → m ≠ n → Vc K (rowP m) = Vc I (rowP m) ∧ (CX I (rowP m) → CX K (rowP m)) := fun m m0 m1 m2 => by
    have hr := row_ne m0 m1 hn8.1 hn8.2 m2
    have hb2 := rowP_b (n := m) m0 m1
    exact ⟨vc_congr fun a h0 h1 => k0 a (by omega) (by omega), fun g => g.cong fun a h0 h1 => k0 a (by omega) (by omega)⟩
  show K 14 0 = (hpush S).2 ∧ (0 ≤ K 14 1 ∧ K 14 1 < 8) ∧ ∀ k : Int, 0 ≤ k → k < (hpush S).2 → Vc K (rowP ((K 14 1 + 8 - (hpush S).2 + k) % 8)) = (hpush S).1 k ∧ CX K (rowP ((K 14 1 + 8 - (hpush S).2 + k) % 8))
  unfold hpush
  have e0 := h2.1
  by_cases e : gN S = 8
  · rw [if_pos e]
    refine ⟨by dsimp only; rw [k4, e0]; omega, by rw [k3]; omega, fun k g0 g1 => ?_⟩
    dsimp only at g1 ⊢
    rw [k3]
    by_cases ek : k = 7
    · rw [if_pos ek, show ((n + 1) % 8 + 8 - 8 + k) % 8 = n from by omega]
      exact ⟨by rw [k1]; exact h1.1, k2⟩
    · rw [if_neg ek]
      have g := h2.2.2 (k + 1) (by omega) (by omega)
      rw [hn, show (n + 8 - gN S + (k + 1)) % 8 = ((n + 1) % 8 + 8 - 8 + k) % 8 from by omega] at g
      have o := old (((n + 1) % 8 + 8 - 8 + k) % 8) (by omega) (by omega) (by omega)
      exact ⟨by rw [o.1]; exact g.1, o.2 g.2⟩
  · rw [if_neg e]
    refine ⟨by dsimp only; rw [k4, e0]; omega, by rw [k3]; omega, fun k g0 g1 => ?_⟩
    dsimp only at g1 ⊢
    rw [k3]
    by_cases ek : k = gN S
    · rw [if_pos ek, show ((n + 1) % 8 + 8 - (gN S + 1) + k) % 8 = n from by omega]
      exact ⟨by rw [k1]; exact h1.1, k2⟩
    · rw [if_neg ek]
      have g := h2.2.2 k g0 (by omega)
      rw [hn, show (n + 8 - gN S + k) % 8 = ((n + 1) % 8 + 8 - (gN S + 1) + k) % 8 from by omega] at g
      have o := old (((n + 1) % 8 + 8 - (gN S + 1) + k) % 8) (by omega) (by omega) (by omega)
      exact ⟨by rw [o.1]; exact g.1, o.2 g.2⟩
theorem CREL.inv {I : Nat → Int → Int} {S : GS} (h : CREL I S) (hS : GOK S) : CINV I 136 cB := ⟨by rw [h.1.1]; exact hS.1, h.1.2⟩
/-- the contract of an operation: r = (thrown or 0, the answer, the state behind it), E what it throws -/
def QC (q : Nat) (v : Int) (E : Int → Nat) (I : Nat → Int → Int) (r : Int × Int × GS) : OO → Prop := fun o =>
  (r.1 = 0 ∧ ∃ K, o = (.inl (some (.int (iI r.2.1))), mm q K v false) ∧ CREL K r.2.2 ∧ ∀ a, 181 ≤ a → K a = I a) ∨ (r.1 ≠ 0 ∧ ∃ K, o = (.inr (E r.1), mm q K v false) ∧ CREL K r.2.2 ∧ ∀ a, 181 ≤ a → K a = I a)
theorem qc_ok {q : Nat} {v : Int} {E : Int → Nat} {I K : Nat → Int → Int} {z : Int} {S : GS} (h : CREL K S) (hk : ∀ a, 181 ≤ a → K a = I a) : QC q v E I (0, z, S) (.inl (some (.int (iI z))), mm q K v false) := Or.inl ⟨rfl, K, rfl, h, hk⟩
theorem qc_no {q : Nat} {v : Int} {E : Int → Nat} {I K : Nat → Int → Int} {c z : Int} {S : GS} {e : Nat} (hc : c ≠ 0) (he : E c = e) (h : CREL K S) (hk : ∀ a, 181 ≤ a → K a = I a) : QC q v E I (c, z, S) (.inr e, mm q K v false) := Or.inr ⟨hc, K, by rw [← he], h, hk⟩
