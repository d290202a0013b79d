/-! ===== messages more; attempts in a row ===== -/
section FAdd
variable {A : AV} {B : Int → Int} {n : Int}
theorem fa_0 {i : Int} (h : i ≠ 6) : fAddA A B n 0 i = A 0 i := by
  unfold fAddA
  rw [if_pos rfl, if_neg h]
theorem fa_06 : fAddA A B n 0 6 = A 0 6 + 1 := by
  unfold fAddA
  rw [if_pos rfl, if_pos rfl]
theorem fa_6 : fAddA A B n 6 = fun i => if i = A 0 6 then n + 2 else A 6 i := rfl
theorem fa_789 {k : Nat} (h : k = 7 ∨ k = 8 ∨ k = 9) : fAddA A B n k = fun i => if i = A 0 6 then 0 else A k i := by
  rcases h with rfl | rfl | rfl <;> rfl
theorem fa_10 : fAddA A B n 10 = fun i => if 6 * A 0 6 ≤ i ∧ i < 6 * A 0 6 + (n + 2) then frB (A 0 6) n B (i - 6 * A 0 6) else A 10 i := rfl
theorem fa_k {k : Nat} (h0 : k ≠ 0) (h6 : k ≠ 6) (h7 : k ≠ 7) (h8 : k ≠ 8) (h9 : k ≠ 9) (h10 : k ≠ 10) : fAddA A B n k = A k := by
  funext i
  unfold fAddA
  rw [if_neg h0, if_neg h6, if_neg (by omega), if_neg h10]
/-- what holds of frames -/
def PZ (A : AV) : Prop := PIf A ∧ PIa A ∧ 0 ≤ A 0 6 ∧ ∀ f, 0 ≤ f → f < A 0 6 → 3 ≤ A 6 f ∧ A 6 f ≤ 6
theorem fa_new (hn : 1 ≤ n ∧ n ≤ 4) : crcF (SfA (fAddA A B n) (A 0 6)) (n + 2).toNat = 0 := by
  have e : ∀ j : Int, 0 ≤ j → j < n + 2 → SfA (fAddA A B n) (A 0 6) j = frB (A 0 6) n B j := fun j j0 j1 => by
    show (if 6 * A 0 6 ≤ 6 * A 0 6 + j ∧ 6 * A 0 6 + j < 6 * A 0 6 + (n + 2) then frB (A 0 6) n B (6 * A 0 6 + j - 6 * A 0 6) else A 10 (6 * A 0 6 + j)) = _
    rw [if_pos ⟨by omega, by omega⟩, show 6 * A 0 6 + j - 6 * A 0 6 = j from by omega]
  rw [show (n + 2).toNat = (n + 1).toNat + 1 from by omega]
  refine crcF_all ?_
  rw [show (((n + 1).toNat : Nat) : Int) = n + 1 from by omega, e _ (by omega) (by omega)]
  have e2 : frB (A 0 6) n B (n + 1) = crcF (fun j => if j = 0 then A 0 6 % 16 * 16 + n else B (j - 1)) (n + 1).toNat := by
    unfold frB
    rw [if_neg (by omega), if_neg (by omega)]
  rw [e2]
  refine (crcF_congr _ fun j j0 j1 => ?_).symm
  rw [e j j0 (by omega)]
  unfold frB
  by_cases d : j = 0
  · rw [if_pos d]
    show _ = if j = 0 then _ else _
    rw [if_pos d]
  · rw [if_neg d, if_pos (by omega)]
    show _ = if j = 0 then _ else _
    rw [if_neg d]
theorem fa_old {f i : Int} (h1 : f < A 0 6) (i1 : i < 6) : fAddA A B n 10 (6 * f + i) = A 10 (6 * f + i) := by
  rw [fa_10]
  exact if_neg (by omega)
theorem pz_fadd (h : PZ A) (hn : 1 ≤ n ∧ n ≤ 4) : PZ (fAddA A B n) := by
  obtain ⟨h1, h2, h3, h4⟩ := h
  refine ⟨fun f f0 f1 => ?_, fun f f0 f1 => ?_, by rw [fa_06]; omega, fun f f0 f1 => ?_⟩
  · rw [fa_06] at f1
    by_cases d : f = A 0 6
    · subst d
      rw [fa_6]
      show fAddA A B n 10 (6 * A 0 6) = A 0 6 % 16 * 16 + ((if A 0 6 = A 0 6 then n + 2 else A 6 (A 0 6)) - 2) ∧ crcF (SfA (fAddA A B n) (A 0 6)) (if A 0 6 = A 0 6 then n + 2 else A 6 (A 0 6)).toNat = 0
      rw [if_pos rfl, fa_10]
      refine ⟨?_, fa_new hn⟩
      show (if 6 * A 0 6 ≤ 6 * A 0 6 ∧ 6 * A 0 6 < 6 * A 0 6 + (n + 2) then frB (A 0 6) n B (6 * A 0 6 - 6 * A 0 6) else A 10 (6 * A 0 6)) = _
      rw [if_pos ⟨Int.le_refl _, by omega⟩, show 6 * A 0 6 - 6 * A 0 6 = 0 from by omega]
      show A 0 6 % 16 * 16 + n = _
      omega
    · have g := h1 f f0 (by omega)
      have g4 := h4 f f0 (by omega)
      have e6 : fAddA A B n 6 f = A 6 f := by rw [fa_6]; exact if_neg d
      rw [e6]
      refine ⟨?_, ?_⟩
      · have := fa_old (A := A) (B := B) (n := n) (f := f) (i := 0) (by omega) (by decide)
        rw [Int.add_zero] at this
        rw [this]
        exact g.1
      · rw [crcF_congr (B := SfA (fAddA A B n) f) (C := SfA A f) _ (fun i i0 i1 => fa_old (by omega) (by omega))]
        exact g.2
  · rw [fa_06] at f1
    rw [fa_789 (Or.inl rfl), fa_789 (Or.inr (Or.inl rfl)), fa_789 (Or.inr (Or.inr rfl))]
    by_cases d : f = A 0 6
    · show ((if f = A 0 6 then 0 else A 9 f) = 0 ∨ (if f = A 0 6 then 0 else A 9 f) = 1) ∧ ((if f = A 0 6 then 0 else A 9 f) = 1 → 0 < if f = A 0 6 then 0 else A 8 f) ∧ ((if f = A 0 6 then 0 else A 7 f) = 1 → 0 < if f = A 0 6 then 0 else A 8 f)
      rw [if_pos d, if_pos d, if_pos d]
      exact ⟨Or.inl rfl, fun z => by omega, fun z => by omega⟩
    · show ((if f = A 0 6 then 0 else A 9 f) = 0 ∨ (if f = A 0 6 then 0 else A 9 f) = 1) ∧ ((if f = A 0 6 then 0 else A 9 f) = 1 → 0 < if f = A 0 6 then 0 else A 8 f) ∧ ((if f = A 0 6 then 0 else A 7 f) = 1 → 0 < if f = A 0 6 then 0 else A 8 f)
      rw [if_neg d, if_neg d, if_neg d]
      exact h2 f f0 (by omega)
  · rw [fa_06] at f1
    rw [fa_6]
    show 3 ≤ (if f = A 0 6 then n + 2 else A 6 f) ∧ (if f = A 0 6 then n + 2 else A 6 f) ≤ 6
    by_cases d : f = A 0 6
    · rw [if_pos d]; omega
    · rw [if_neg d]; exact h4 f f0 (by omega)
theorem tri_fadd (h : 0 ≤ A 0 6) : triA (fAddA A B n) = triA A := by
  unfold triA
  rw [fa_06, show (A 0 6 + 1).toNat = (A 0 6).toNat + 1 from by omega, sumF_s, fa_789 (Or.inr (Or.inl rfl))]
  rw [sumF_congr (h := A 8) _ (fun i i0 i1 => if_neg (by omega))]
  show _ + (if (((A 0 6).toNat : Nat) : Int) = A 0 6 then 0 else _) = _
  rw [if_pos (by omega), Int.add_zero]
end FAdd
theorem frs_ok {A : AV} {B : Int → Int} {n : Int} (h : PZ A) (hn : 1 ≤ n) : ∀ j : Nat, 4 * (j : Int) < n + 4 → PZ (frsA A B n j) ∧ (∀ k, k ≠ 0 → k ≠ 6 → k ≠ 7 → k ≠ 8 → k ≠ 9 → k ≠ 10 → frsA A B n j k = A k) ∧ (∀ i, i ≠ 6 → frsA A B n j 0 i = A 0 i) ∧ frsA A B n j 0 6 = A 0 6 + j ∧ triA (frsA A B n j) = triA A ∧ (∀ i, i < A 0 6 → ∀ k, k = 6 ∨ k = 7 → frsA A B n j k i = A k i) ∧ (∀ f i, f < A 0 6 → i < 6 → frsA A B n j 10 (6 * f + i) = A 10 (6 * f + i)) ∧ (1 ≤ j → frsA A B n j 7 (A 0 6) = 0 ∧ frsA A B n j 10 (6 * A 0 6 + 1) = B 0)
  | 0, _ => ⟨h, fun _ _ _ _ _ _ _ => rfl, fun _ _ => rfl, by show A 0 6 = A 0 6 + 0; omega, rfl, fun _ _ _ _ => rfl, fun _ _ _ _ => rfl, fun z => absurd z (by decide)⟩
  | j + 1, hj => by
    obtain ⟨i1, i2, i3, i4, i5, i6, i7, i8⟩ := frs_ok (B := B) h hn j (by omega)
    have hm : 1 ≤ min 4 (n - 4 * (j : Int)) ∧ min 4 (n - 4 * (j : Int)) ≤ 4 := by omega
    have hz := h.2.2.1
    show PZ (fAddA (frsA A B n j) (fun k => B (4 * j + k)) (min 4 (n - 4 * j))) ∧ (∀ k, k ≠ 0 → k ≠ 6 → k ≠ 7 → k ≠ 8 → k ≠ 9 → k ≠ 10 → fAddA (frsA A B n j) (fun k => B (4 * j + k)) (min 4 (n - 4 * j)) k = A k) ∧ (∀ i, i ≠ 6 → fAddA (frsA A B n j) (fun k => B (4 * j + k)) (min 4 (n - 4 * j)) 0 i = A 0 i) ∧ fAddA (frsA A B n j) (fun k => B (4 * j + k)) (min 4 (n - 4 * j)) 0 6 = A 0 6 + ((j + 1 : Nat) : Int) ∧ triA (fAddA (frsA A B n j) (fun k => B (4 * j + k)) (min 4 (n - 4 * j))) = triA A ∧ (∀ i, i < A 0 6 → ∀ k, k = 6 ∨ k = 7 → fAddA (frsA A B n j) (fun k => B (4 * j + k)) (min 4 (n - 4 * j)) k i = A k i) ∧ (∀ f i, f < A 0 6 → i < 6 → fAddA (frsA A B n j) (fun k => B (4 * j + k)) (min 4 (n - 4 * j)) 10 (6 * f + i) = A 10 (6 * f + i)) ∧ (1 ≤ j + 1 → fAddA (frsA A B n j) (fun k => B (4 * j + k)) (min 4 (n - 4 * j)) 7 (A 0 6) = 0 ∧ fAddA (frsA A B n j) (fun k => B (4 * j + k)) (min 4 (n - 4 * j)) 10 (6 * A 0 6 + 1) = B 0)
    refine ⟨pz_fadd i1 hm, fun k a b c d e f => (fa_k a b c d e f).trans (i2 k a b c d e f), fun i hi => (fa_0 hi).trans (i3 i hi), by rw [fa_06, i4]; omega, (tri_fadd (by omega)).trans i5, fun i hi k hk => ?_, fun f i hf hi => (fa_old (by omega) hi).trans (i7 f i hf hi), fun _ => ?_⟩
    · refine Eq.trans ?_ (i6 i hi k hk)
      rcases hk with rfl | rfl
      · rw [fa_6]; exact if_neg (by omega)
      · rw [fa_789 (Or.inl rfl)]; exact if_neg (by omega)
    · by_cases d : j = 0
      · subst d
        refine ⟨?_, ?_⟩
        · rw [fa_789 (Or.inl rfl)]
          exact if_pos (by omega)
        · rw [fa_10]
          show (if 6 * A 0 6 ≤ 6 * A 0 6 + 1 ∧ 6 * A 0 6 + 1 < 6 * A 0 6 + (min 4 (n - 4 * ((0 : Nat) : Int)) + 2) then frB (A 0 6) (min 4 (n - 4 * ((0 : Nat) : Int))) (fun k => B (4 * ((0 : Nat) : Int) + k)) (6 * A 0 6 + 1 - 6 * A 0 6) else A 10 (6 * A 0 6 + 1)) = B 0
          rw [if_pos ⟨by omega, by omega⟩, show 6 * A 0 6 + 1 - 6 * A 0 6 = 1 from by omega]
          unfold frB
          rw [if_neg (by decide), if_pos (by omega)]
          show B (4 * ((0 : Nat) : Int) + (1 - 1)) = B 0
          congr 1
      · obtain ⟨q1, q2⟩ := i8 (by omega)
        refine ⟨?_, ?_⟩
        · rw [fa_789 (Or.inl rfl)]
          exact (if_neg (by omega)).trans q1
        · rw [fa_10]
          exact (if_neg (by omega)).trans q2
section AddP
variable {A : AV} {B : Int → Int} {n : Int}
theorem mw_k {m g : Int} {k : Nat} (h0 : k ≠ 0) (h4 : k ≠ 4) (h5 : k ≠ 5) : msgW A m n g k = A k := by unfold msgW; rw [up2_off' _ _ _ h0, up2_off' _ _ _ h5, up2_off' _ _ _ h4]
theorem mw_0 {m g i : Int} (h : i ≠ 5) : msgW A m n g 0 i = A 0 i := by unfold msgW; rw [up2_i h, up2_p (by decide), up2_p (by decide)]
theorem mw_05 {m g : Int} : msgW A m n g 0 5 = m + 1 := by unfold msgW; rw [up2_s]
theorem mw_4 {m g : Int} : msgW A m n g 4 = fun i => if i = m then n else A 4 i := by unfold msgW; rw [up2_off' _ _ _ (by decide), up2_off' _ _ _ (by decide), up2_at]
theorem mw_5 {m g : Int} : msgW A m n g 5 = fun i => if i = m then g else A 5 i := by unfold msgW; rw [up2_off' _ _ _ (by decide), up2_at, up2_off' _ _ _ (by decide : (5 : Nat) ≠ 4)]
theorem pz_of {c : Int} (h : AINV A c) (hP : PI A) : PZ A := ⟨hP.2.2.1, hP.2.2.2.1, h.fr.1, fun f f0 f1 => (h.frm f f0 f1).1⟩
theorem pz_mw {m g : Int} (h : PZ A) : PZ (msgW A m n g) := by
  have e6 : msgW A m n g 0 6 = A 0 6 := mw_0 (by decide)
  obtain ⟨h1, h2, h3, h4⟩ := h
  refine ⟨pf_cg (mw_k (by decide) (by decide) (by decide)) (mw_k (by decide) (by decide) (by decide)) e6 h1, ?_, by rw [e6]; exact h3, ?_⟩
  · unfold PIa at *
    rw [e6, mw_k (k := 9) (by decide) (by decide) (by decide), mw_k (k := 8) (by decide) (by decide) (by decide), mw_k (k := 7) (by decide) (by decide) (by decide)]
    exact h2
  · rw [e6, mw_k (k := 6) (by decide) (by decide) (by decide)]
    exact h4
/-- a message more -/
theorem add_ok {c : Int} (h : AINV A c) (hP : PI A) (hn : 1 ≤ n ∧ n ≤ 16) : PI (addA A B n) ∧ addA A B n 0 5 = A 0 5 + 1 ∧ addA A B n 0 7 = A 0 7 ∧ addA A B n 4 (A 0 5) = n ∧ addA A B n 5 (A 0 5) = A 0 6 ∧ addA A B n 7 (A 0 6) = 0 ∧ addA A B n 10 (6 * A 0 6 + 1) = B 0 ∧ addA A B n 0 6 = A 0 6 + (n + 3) / 4 ∧ (∀ i, i < A 0 5 → addA A B n 4 i = A 4 i ∧ addA A B n 5 i = A 5 i) ∧ (∀ f i, f < A 0 6 → i < 6 → addA A B n 10 (6 * f + i) = A 10 (6 * f + i)) := by
  have hz := pz_of h hP
  obtain ⟨g1, g2, g3, g4, g5, g6, g7, g8⟩ := frs_ok (B := B) (n := n) (pz_mw (n := n) (m := A 0 5) (g := A 0 6) hz) hn.1 ((n + 3) / 4).toNat (by omega)
  have e6 : msgW A (A 0 5) n (A 0 6) 0 6 = A 0 6 := mw_0 (by decide)
  rw [e6] at g4 g6 g7 g8
  have g4 : addA A B n 0 6 = A 0 6 + (n + 3) / 4 := by
    show frsA (msgW A (A 0 5) n (A 0 6)) B n ((n + 3) / 4).toNat 0 6 = _
    omega
  have k4 : addA A B n 4 = fun i => if i = A 0 5 then n else A 4 i := (g2 4 (by decide) (by decide) (by decide) (by decide) (by decide) (by decide)).trans mw_4
  have k5 : addA A B n 5 = fun i => if i = A 0 5 then A 0 6 else A 5 i := (g2 5 (by decide) (by decide) (by decide) (by decide) (by decide) (by decide)).trans mw_5
  have k05 : addA A B n 0 5 = A 0 5 + 1 := (g3 5 (by decide)).trans mw_05
  have k0 : ∀ i, i ≠ 5 → i ≠ 6 → addA A B n 0 i = A 0 i := fun i h5 h6 => (g3 i h6).trans (mw_0 h5)
  obtain ⟨q1, q2⟩ := g8 (by omega)
  have hms := h.ms
  have ff : ∀ m, m ≤ A 0 5 → ffM (addA A B n) m = ffM A m := fun m hm => ffM_congr fun i i0 i1 => by rw [k4]; exact if_neg (by omega)
  refine ⟨⟨?_, ⟨fun m m0 m1 => ?_, ?_⟩, g1.1, g1.2.1, ?_⟩, k05, k0 7 (by decide) (by decide), by rw [k4]; exact if_pos rfl, by rw [k5]; exact if_pos rfl, q1, q2, g4, fun i hi => ⟨by rw [k4]; exact if_neg (by omega), by rw [k5]; exact if_neg (by omega)⟩, fun f i hf hi => (g7 f i hf hi).trans (congrFun (mw_k (by decide) (by decide) (by decide)) _)⟩
  · have := hP.1
    unfold PIb at *
    rw [k0 0 (by decide) (by decide), k0 2 (by decide) (by decide), k0 3 (by decide) (by decide), k0 7 (by decide) (by decide), k0 8 (by decide) (by decide)]
    exact this
  · rw [k05] at m1
    rw [ff m (by omega), k5]
    by_cases d : m = A 0 5
    · show (if m = A 0 5 then A 0 6 else A 5 m) = _
      rw [if_pos d, d]
      exact hP.2.1.2
    · show (if m = A 0 5 then A 0 6 else A 5 m) = _
      rw [if_neg d]
      exact hP.2.1.1 m m0 (by omega)
  · rw [k05, ffM_s (by omega), ff _ (Int.le_refl _), g4, k4]
    show _ = _ + ((if A 0 5 = A 0 5 then n else A 4 (A 0 5)) + 3) / 4
    rw [if_pos rfl, hP.2.1.2]
  · have := hP.2.2.2.2
    have ht : triA (addA A B n) = triA A := g5.trans (by
      unfold triA
      rw [e6, mw_k (by decide) (by decide) (by decide)])
    unfold PIc at *
    rw [ht, k0 10 (by decide) (by decide), k0 11 (by decide) (by decide), k0 12 (by decide) (by decide), k0 13 (by decide) (by decide), k0 7 (by decide) (by decide), k0 16 (by decide) (by decide), k0 0 (by decide) (by decide), k0 15 (by decide) (by decide), k0 17 (by decide) (by decide)]
    exact this
end AddP
/-- attempts in a row -/
theorem mk_ok : ∀ (m : Nat) (A : AV) (c : Int), AINV A c → PI A → PI (mkS m A).2 ∧ A 0 7 ≤ (mkS m A).2 0 7 ∧ (mkS m A).2 0 7 ≤ A 0 7 + 600 * m
  | 0, A, c, h, hP => ⟨hP, Int.le_refl _, by show A 0 7 ≤ A 0 7 + 600 * ((0 : Nat) : Int); omega⟩
  | m + 1, A, c, h, hP => by
    unfold mkS
    by_cases e : pendA A = -1
    · rw [if_pos e]
      exact ⟨hP, Int.le_refl _, by show A 0 7 ≤ _; omega⟩
    · rw [if_neg e]
      obtain ⟨p0, p1, p2⟩ := pendA_r e
      have ha := att_ok h hP p0 p1 p2
      obtain ⟨j1, j2, j3⟩ := mk_ok m (attA A (pendA A)) _ (h.att p0 p1 p2) ha.pi
      have hck := ha.ck
      have hb := hP.1
      have hfr := (h.frm _ p0 p1).1
      have hb0 := h.b
      have h1 : (A 6 (pendA A) * 8 + 8) * A 0 0 ≤ 56 * 5 := Int.mul_le_mul (by omega) hb.1.1 (by omega) (by decide)
      have h2 : 0 ≤ (A 6 (pendA A) * 8 + 8) * A 0 0 := Int.mul_nonneg (by omega) (by omega)
      have h3 := hb.2
      refine ⟨j1, ?_, ?_⟩
      · show A 0 7 ≤ (mkS m (attA A (pendA A))).2 0 7
        omega
      · show (mkS m (attA A (pendA A))).2 0 7 ≤ _
        omega
theorem mk_min : ∀ (m k : Nat) (A : AV), m ≤ k → (mkS m A).1 = min (m : Int) (mkS k A).1 ∧ ((mkS k A).1 ≤ m → (mkS m A).2 = (mkS k A).2)
  | 0, k, A, h => by
    have hr := mkS_r k A
    refine ⟨by show (0 : Int) = _; omega, fun hk => ?_⟩
    cases k with
    | zero => rfl
    | succ k =>
      show A = _
      unfold mkS at hk ⊢
      by_cases e : pendA A = -1
      · rw [if_pos e]
      · rw [if_neg e] at hk
        have := mkS_r k (attA A (pendA A))
        exfalso
        have hk : (mkS k (attA A (pendA A))).1 + 1 ≤ ((0 : Nat) : Int) := hk
        omega
  | m + 1, k + 1, A, h => by
    unfold mkS
    by_cases e : pendA A = -1
    · rw [if_pos e, if_pos e]
      exact ⟨by show (0 : Int) = min _ 0; omega, fun _ => rfl⟩
    · rw [if_neg e, if_neg e]
      obtain ⟨h1, h2⟩ := mk_min m k (attA A (pendA A)) (by omega)
      refine ⟨?_, fun hk => h2 ?_⟩
      · show (mkS m (attA A (pendA A))).1 + 1 = min ((m + 1 : Nat) : Int) ((mkS k (attA A (pendA A))).1 + 1)
        omega
      · have hk : (mkS k (attA A (pendA A))).1 + 1 ≤ ((m + 1 : Nat) : Int) := hk
        omega
theorem mk_end : ∀ (k : Nat) (A : AV), (mkS k A).1 < k → pendA (mkS k A).2 = -1
  | 0, A, h => absurd h (by show ¬ (0 : Int) < ((0 : Nat) : Int); decide)
  | k + 1, A, h => by
    unfold mkS at h ⊢
    by_cases e : pendA A = -1
    · rw [if_pos e]
      exact e
    · rw [if_neg e] at h ⊢
      exact mk_end k _ (by
        have h : (mkS k (attA A (pendA A))).1 + 1 < ((k + 1 : Nat) : Int) := h
        omega)
