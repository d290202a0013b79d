/-! ===== the reference: what is written to its row ===== -/
def RB (A : AV) : Prop := (0 ≤ A 0 4 ∧ A 0 4 ≤ 3) ∧ (0 ≤ A 0 5 ∧ A 0 5 ≤ 12) ∧ (0 ≤ A 0 6 ∧ A 0 6 ≤ 48) ∧ (∀ m : Int, 0 ≤ m → m < A 0 5 → 0 ≤ A 4 m ∧ A 4 m ≤ 16) ∧ ∀ f : Int, 0 ≤ f → f < A 0 6 → 3 ≤ A 6 f ∧ A 6 f ≤ 6
theorem AI.rb {A : AV} {c e : Int} (h : AI A c e) : RB A := by
  have hr := h.rg
  exact ⟨by omega, by omega, by omega, fun m m0 m1 => by have := (h.msg m m0 m1).1; omega, fun f f0 f1 => (h.frm f f0 f1).1⟩
theorem RB.of {A B : AV} (h : RB A) (e4 : B 0 4 = A 0 4) (e5 : B 0 5 = A 0 5) (e6 : B 0 6 = A 0 6) (r4 : B 4 = A 4) (r6 : B 6 = A 6) : RB B := by
  unfold RB
  rw [e4, e5, e6, r4, r6]
  exact h
/-- the clause of the frames -/
def RF (g : Int → Int) (A : AV) : Prop := ∀ f : Int, 0 ≤ f → f < A 0 6 → g (243 + 16 * f + 0) = A 6 f ∧ g (243 + 16 * f + 1) = A 7 f ∧ g (243 + 16 * f + 2) = A 8 f ∧ g (243 + 16 * f + 3) = A 9 f ∧ (∀ k : Int, 0 ≤ k → k < A 6 f → g (243 + 16 * f + (4 + k)) = A 10 (6 * f + k)) ∧ (A 9 f = 1 → ∀ k : Int, 0 ≤ k → k < A 6 f → g (243 + 16 * f + (10 + k)) = A 11 (6 * f + k))
theorem txtA_cg {A B : AV} (r5 : B 5 = A 5) (r10 : B 10 = A 10) (m : Int) : txtA B m = txtA A m := by unfold txtA; rw [r5, r10]
/-- dogs and messages as they were -/
theorem rv_cg {g h : Int → Int} {A B : AV} (hR : RV g A) (hB : RB A) (e4 : B 0 4 = A 0 4) (e5 : B 0 5 = A 0 5) (r1 : B 1 = A 1) (r2 : B 2 = A 2) (r3 : B 3 = A 3) (r4 : B 4 = A 4) (r5 : B 5 = A 5) (r10 : B 10 = A 10) (hs : ∀ i : Int, 0 ≤ i → i < 18 → h i = B 0 i) (hg : ∀ i : Int, 18 ≤ i → i < 243 → h i = g i) (hf : RF h B) : RV h B := by
  obtain ⟨b4, b5, b6, bm, bf⟩ := hB
  obtain ⟨_, q2, q3, _⟩ := hR
  refine ⟨hs, fun d d0 d1 => ?_, fun m m0 m1 => ?_, hf⟩
  · rw [e4] at d1
    rw [r1, r2, r3, hg _ (by omega) (by omega), hg _ (by omega) (by omega), hg _ (by omega) (by omega)]
    exact q2 d d0 d1
  · rw [e5] at m1
    have hm := bm m m0 m1
    rw [r4, r5, txtA_cg r5 r10, hg _ (by omega) (by omega), hg _ (by omega) (by omega)]
    refine ⟨(q3 m m0 m1).1, (q3 m m0 m1).2.1, fun k k0 k1 => ?_⟩
    rw [hg _ (by omega) (by omega)]
    exact (q3 m m0 m1).2.2 k k0 k1
theorem rf_cg {g h : Int → Int} {A B : AV} (hR : RV g A) (e6 : B 0 6 = A 0 6) (r6 : B 6 = A 6) (r7 : B 7 = A 7) (r8 : B 8 = A 8) (r9 : B 9 = A 9) (r10 : B 10 = A 10) (r11 : B 11 = A 11) (hg : ∀ i : Int, 243 ≤ i → h i = g i) : RF h B := by
  intro f f0 f1
  rw [e6] at f1
  rw [r6, r7, r8, r9, r10, r11, hg _ (by omega), hg _ (by omega), hg _ (by omega), hg _ (by omega)]
  obtain ⟨a1, a2, a3, a4, a5, a6⟩ := hR.2.2.2 f f0 f1
  exact ⟨a1, a2, a3, a4, fun k k0 k1 => by rw [hg _ (by omega)]; exact a5 k k0 k1, fun z k k0 k1 => by rw [hg _ (by omega)]; exact a6 z k k0 k1⟩
theorem RV.w {I : Nat → Int → Int} {A : AV} (hR : RV (I 182) A) (hB : RB A) (n z : Int) (h0 : 0 ≤ n) (h1 : n < 18) (h4 : n ≠ 4) (h5 : n ≠ 5) (h6 : n ≠ 6) : RV (up2 I 182 n z 182) (up2 A 0 n z) := by
  have r : ∀ k, k ≠ 0 → up2 A 0 n z k = A k := fun k hk => up2_off' _ _ _ hk
  refine rv_cg hR hB (up2_i (Ne.symm h4)) (up2_i (Ne.symm h5)) (r 1 (by decide)) (r 2 (by decide)) (r 3 (by decide)) (r 4 (by decide)) (r 5 (by decide)) (r 10 (by decide)) (fun i i0 i1 => ?_) (fun i i0 i1 => up2_i (by omega)) (rf_cg hR (up2_i (Ne.symm h6)) (r 6 (by decide)) (r 7 (by decide)) (r 8 (by decide)) (r 9 (by decide)) (r 10 (by decide)) (r 11 (by decide)) fun i i0 => up2_i (by omega))
  rw [up2_q, up2_q, hR.sc i0 i1]
theorem RB.w {A : AV} (hB : RB A) (n z : Int) (h4 : n ≠ 4) (h5 : n ≠ 5) (h6 : n ≠ 6) : RB (up2 A 0 n z) := hB.of (up2_i (Ne.symm h4)) (up2_i (Ne.symm h5)) (up2_i (Ne.symm h6)) (up2_off' _ _ _ (by decide)) (up2_off' _ _ _ (by decide))
theorem up2_same {A : AV} {k : Nat} {j z : Int} (h : A k j = z) : up2 A k j z = A := by
  funext a b
  unfold up2
  split
  · rename_i e; rw [e.1, e.2, h]
  · rfl
theorem RV.f7 {I : Nat → Int → Int} {A : AV} (hR : RV (I 182) A) (hB : RB A) {f : Int} (z : Int) (f0 : 0 ≤ f) (f1 : f < A 0 6) : RV (up2 I 182 (243 + 16 * f + 1) z 182) (up2 A 7 f z) := by
  have r : ∀ k, k ≠ 7 → up2 A 7 f z k = A k := fun k hk => up2_off' _ _ _ hk
  refine rv_cg hR hB (up2_p (by decide)) (up2_p (by decide)) (r 1 (by decide)) (r 2 (by decide)) (r 3 (by decide)) (r 4 (by decide)) (r 5 (by decide)) (r 10 (by decide)) (fun i i0 i1 => ?_) (fun i i0 i1 => up2_i (by omega)) fun x x0 x1 => ?_
  · rw [up2_i (by omega), up2_p (by decide), hR.sc i0 i1]
  · rw [up2_p (by decide)] at x1
    obtain ⟨a1, a2, a3, a4, a5, a6⟩ := hR.2.2.2 x x0 x1
    have b6 := hB.2.2.2.2 x x0 x1
    have o : ∀ j : Int, 0 ≤ j → j < 16 → j ≠ 1 → up2 I 182 (243 + 16 * f + 1) z 182 (243 + 16 * x + j) = I 182 (243 + 16 * x + j) := fun j j0 j1 j2 => up2_i (by omega)
    have o1 : up2 I 182 (243 + 16 * f + 1) z 182 (243 + 16 * x + 1) = up2 A 7 f z 7 x := by
      by_cases e : x = f
      · rw [e, up2_s, up2_s]
      · rw [up2_i (by omega), up2_i e]; exact a2
    rw [r 6 (by decide), r 8 (by decide), r 9 (by decide), r 10 (by decide), r 11 (by decide), o 0 (by decide) (by decide) (by decide), o 2 (by decide) (by decide) (by decide), o 3 (by decide) (by decide) (by decide)]
    exact ⟨a1, o1, a3, a4, fun k k0 k1 => by rw [o _ (by omega) (by omega) (by omega)]; exact a5 k k0 k1, fun z k k0 k1 => by rw [o _ (by omega) (by omega) (by omega)]; exact a6 z k k0 k1⟩
theorem RB.f7 {A : AV} (hB : RB A) (f z : Int) : RB (up2 A 7 f z) := hB.of (up2_p (by decide)) (up2_p (by decide)) (up2_p (by decide)) (up2_off' _ _ _ (by decide)) (up2_off' _ _ _ (by decide))
theorem RV.f8 {I : Nat → Int → Int} {A : AV} (hR : RV (I 182) A) (hB : RB A) {f : Int} (z : Int) (f0 : 0 ≤ f) (f1 : f < A 0 6) : RV (up2 I 182 (243 + 16 * f + 2) z 182) (up2 A 8 f z) := by
  have r : ∀ k, k ≠ 8 → up2 A 8 f z k = A k := fun k hk => up2_off' _ _ _ hk
  refine rv_cg hR hB (up2_p (by decide)) (up2_p (by decide)) (r 1 (by decide)) (r 2 (by decide)) (r 3 (by decide)) (r 4 (by decide)) (r 5 (by decide)) (r 10 (by decide)) (fun i i0 i1 => ?_) (fun i i0 i1 => up2_i (by omega)) fun x x0 x1 => ?_
  · rw [up2_i (by omega), up2_p (by decide), hR.sc i0 i1]
  · rw [up2_p (by decide)] at x1
    obtain ⟨a1, a2, a3, a4, a5, a6⟩ := hR.2.2.2 x x0 x1
    have b6 := hB.2.2.2.2 x x0 x1
    have o : ∀ j : Int, 0 ≤ j → j < 16 → j ≠ 2 → up2 I 182 (243 + 16 * f + 2) z 182 (243 + 16 * x + j) = I 182 (243 + 16 * x + j) := fun j j0 j1 j2 => up2_i (by omega)
    have o1 : up2 I 182 (243 + 16 * f + 2) z 182 (243 + 16 * x + 2) = up2 A 8 f z 8 x := by
      by_cases e : x = f
      · rw [e, up2_s, up2_s]
      · rw [up2_i (by omega), up2_i e]; exact a3
    rw [r 6 (by decide), r 7 (by decide), r 9 (by decide), r 10 (by decide), r 11 (by decide), o 0 (by decide) (by decide) (by decide), o 1 (by decide) (by decide) (by decide), o 3 (by decide) (by decide) (by decide)]
    exact ⟨a1, a2, o1, a4, fun k k0 k1 => by rw [o _ (by omega) (by omega) (by omega)]; exact a5 k k0 k1, fun z k k0 k1 => by rw [o _ (by omega) (by omega) (by omega)]; exact a6 z k k0 k1⟩
theorem RB.f8 {A : AV} (hB : RB A) (f z : Int) : RB (up2 A 8 f z) := hB.of (up2_p (by decide)) (up2_p (by decide)) (up2_p (by decide)) (up2_off' _ _ _ (by decide)) (up2_off' _ _ _ (by decide))
/-- what arrives: frame f with the bytes B -/
def arrN (A : AV) (f : Int) (B : Int → Int) : AV := up2 (wrB (up2 (up2 A 0 13 (A 0 13 + 1)) 9 f 1) f (A 6 f) B) 0 9 (B 0 / 16 + 1)
def arrA (A : AV) (f : Int) (B : Int → Int) : AV := up2 (if B 0 / 16 + 1 = A 0 9 then up2 A 0 12 (A 0 12 + 1) else wrB (up2 (up2 A 0 13 (A 0 13 + 1)) 9 f 1) f (A 6 f) B) 0 9 (B 0 / 16 + 1)
theorem rv_arr {g h : Int → Int} {A : AV} (hR : RV g A) (hB : RB A) {f : Int} {B : Int → Int} (f0 : 0 ≤ f) (f1 : f < A 0 6) (h9 : h 9 = B 0 / 16 + 1) (h13 : h 13 = A 0 13 + 1) (h3 : h (243 + 16 * f + 3) = 1) (hgot : ∀ k : Int, 0 ≤ k → k < A 6 f → h (243 + 16 * f + (10 + k)) = B k) (hoth : ∀ i : Int, i ≠ 9 → i ≠ 13 → i ≠ 243 + 16 * f + 3 → ¬ (243 + 16 * f + 10 ≤ i ∧ i < 243 + 16 * f + 10 + A 6 f) → h i = g i) : RV h (arrN A f B) := by
  have b6f := hB.2.2.2.2 f f0 f1
  refine rv_cg (B := arrN A f B) hR hB rfl rfl rfl rfl rfl rfl rfl rfl (fun i i0 i1 => ?_) (fun i i0 i1 => hoth i (by omega) (by omega) (by omega) (by omega)) fun x x0 x1 => ?_
  · by_cases e9 : i = 9
    · rw [e9, h9]; rfl
    · by_cases e13 : i = 13
      · rw [e13, h13]; rfl
      · rw [hoth i e9 e13 (by omega) (by omega), hR.sc i0 i1]
        unfold arrN
        rw [up2_i e9, wrB_r (by decide), up2_p (by decide), up2_i e13]
  · have x1 : x < A 0 6 := x1
    obtain ⟨a1, a2, a3, a4, a5, a6⟩ := hR.2.2.2 x x0 x1
    have b6 := hB.2.2.2.2 x x0 x1
    have o : ∀ j : Int, 0 ≤ j → j < 10 → j ≠ 3 → h (243 + 16 * x + j) = g (243 + 16 * x + j) := fun j j0 j1 j3 => hoth _ (by omega) (by omega) (by omega) (by omega)
    have e9 : arrN A f B 9 x = if x = f then 1 else A 9 x := by
      show up2 (up2 A 0 13 (A 0 13 + 1)) 9 f 1 9 x = _
      rw [up2_q, up2_p (by decide)]
    have e11 : ∀ i : Int, arrN A f B 11 i = if 6 * f ≤ i ∧ i < 6 * f + A 6 f then B (i - 6 * f) else A 11 i := fun i => by
      show wrB (up2 (up2 A 0 13 (A 0 13 + 1)) 9 f 1) f (A 6 f) B 11 i = _
      unfold wrB
      by_cases c : 6 * f ≤ i ∧ i < 6 * f + A 6 f
      · rw [if_pos ⟨rfl, c⟩, if_pos c]
      · rw [if_neg (fun z => c z.2), if_neg c]; rfl
    refine ⟨?_, ?_, ?_, ?_, fun k k0 k1 => ?_, fun z k k0 k1 => ?_⟩
    · rw [o 0 (by decide) (by decide) (by decide), a1]; rfl
    · rw [o 1 (by decide) (by decide) (by decide), a2]; rfl
    · rw [o 2 (by decide) (by decide) (by decide), a3]; rfl
    · rw [e9]
      by_cases e : x = f
      · rw [if_pos e, e, h3]
      · rw [if_neg e, hoth _ (by omega) (by omega) (by omega) (by omega), a4]
    · have k1 : k < A 6 x := k1
      rw [o _ (by omega) (by omega) (by omega), a5 k k0 k1]; rfl
    · have k1 : k < A 6 x := k1
      rw [e11]
      by_cases e : x = f
      · subst e
        rw [if_pos (by omega), hgot k k0 k1, show 6 * x + k - 6 * x = k from by omega]
      · rw [if_neg (by omega), hoth _ (by omega) (by omega) (by omega) (by omega)]
        rw [e9, if_neg e] at z
        exact a6 z k k0 k1
theorem recA_e {A : AV} {f r : Int} {B : Int → Int} : recA A f r B = if r = 1 then up2 A 0 11 (A 0 11 + 1) else (if r = 2 then up2 (arrA A f B) 0 14 (arrA A f B 0 14 + 1) else arrA A f B) := rfl
theorem arrA_d {A : AV} {f : Int} {B : Int → Int} (h : B 0 / 16 + 1 = A 0 9) : arrA A f B = up2 A 0 12 (A 0 12 + 1) := by
  unfold arrA
  rw [if_pos h]
  exact up2_same h.symm
theorem arrA_n {A : AV} {f : Int} {B : Int → Int} (h : ¬ B 0 / 16 + 1 = A 0 9) : arrA A f B = arrN A f B := by
  unfold arrA
  rw [if_neg h]; rfl
theorem RB.arr {A : AV} {f : Int} {B : Int → Int} (h : RB A) : RB (arrA A f B) := by
  by_cases e : B 0 / 16 + 1 = A 0 9
  · rw [arrA_d e]; exact h.w _ _ (by decide) (by decide) (by decide)
  · rw [arrA_n e]; exact h.of rfl rfl rfl rfl rfl
