/-! ===== the operations keep what holds in the law ===== -/
def PIcd (A : AV) (d : Int) : Prop := A 0 10 = A 0 11 + A 0 12 + A 0 13 + d ∧ A 0 10 = triA A ∧ A 0 7 = (A 0 16 + 8 * A 0 10) * A 0 0 + A 0 15 + A 0 17
theorem pcd_0 {A : AV} (h : PIc A) : PIcd A 0 := ⟨by rw [Int.add_zero]; exact h.1, h.2⟩
theorem pm_cg {A C : AV} (h4 : C 4 = A 4) (h5 : C 5 = A 5) (e5 : C 0 5 = A 0 5) (e6 : C 0 6 = A 0 6) (h : PIm A) : PIm C := by
  unfold PIm ffM at *
  rw [h4, h5, e5, e6]
  exact h
theorem pf_cg {A C : AV} (h10 : C 10 = A 10) (h6 : C 6 = A 6) (e6 : C 0 6 = A 0 6) (h : PIf A) : PIf C := by
  unfold PIf SfA at *
  rw [h10, h6, e6]
  exact h
theorem pi_cg {A C : AV} (hk : ∀ k, 4 ≤ k → k ≤ 10 → C k = A k) (h0 : ∀ i, i ≠ 1 → i ≠ 4 → C 0 i = A 0 i) (h : PI A) : PI C := by
  refine ⟨?_, pm_cg (hk 4 (by decide) (by decide)) (hk 5 (by decide) (by decide)) (h0 5 (by decide) (by decide)) (h0 6 (by decide) (by decide)) h.2.1, pf_cg (hk 10 (by decide) (by decide)) (hk 6 (by decide) (by decide)) (h0 6 (by decide) (by decide)) h.2.2.1, ?_, ?_⟩
  · have := h.1
    unfold PIb at *
    rw [h0 0 (by decide) (by decide), h0 2 (by decide) (by decide), h0 3 (by decide) (by decide), h0 7 (by decide) (by decide), h0 8 (by decide) (by decide)]
    exact this
  · have := h.2.2.2.1
    unfold PIa at *
    rw [h0 6 (by decide) (by decide), hk 7 (by decide) (by decide), hk 8 (by decide) (by decide), hk 9 (by decide) (by decide)]
    exact this
  · have := h.2.2.2.2
    unfold PIc triA at *
    rw [h0 6 (by decide) (by decide), hk 8 (by decide) (by decide), h0 10 (by decide) (by decide), h0 11 (by decide) (by decide), h0 12 (by decide) (by decide), h0 13 (by decide) (by decide), h0 7 (by decide) (by decide), h0 16 (by decide) (by decide), h0 0 (by decide) (by decide), h0 15 (by decide) (by decide), h0 17 (by decide) (by decide)]
    exact this
theorem pi_drift {A : AV} {z : Int} (h : PI A) : PI (up2 A 0 1 z) := pi_cg (fun k k4 _ => up2_off' _ _ _ (by omega)) (fun i h1 _ => up2_i h1) h
theorem pi_dog {A : AV} {a b c : Int} (h : PI A) : PI (dogA A a b c) := pi_cg (fun k k4 _ => funext fun i => dogA_o ⟨by omega, by omega, by omega⟩ (fun e => by omega)) (fun i _ h4 => dogA_o (by decide) (fun _ => h4)) h
theorem pi_rm {A : AV} {d : Int} (h : PI A) : PI (rmA A d) := pi_cg (fun k k4 _ => funext fun i => by
  unfold rmA
  rw [if_neg (by omega), if_neg (by omega)]) (fun i _ h4 => by
  unfold rmA
  rw [if_pos rfl, if_neg h4]) h
theorem wait_k {A : AV} {t : Int} {k : Nat} (hk : k ≠ 0) : waitA A t k = A k := by unfold waitA; rw [up2_off' _ _ _ hk, up2_off' _ _ _ hk]
theorem wait_0 {A : AV} {t i : Int} (h7 : i ≠ 7) (h17 : i ≠ 17) : waitA A t 0 i = A 0 i := by unfold waitA; rw [up2_i h17, up2_i h7]
theorem wait_7 {A : AV} {t : Int} : waitA A t 0 7 = A 0 7 + t := by unfold waitA; rw [up2_i (by decide), up2_s]
theorem wait_17 {A : AV} {t : Int} : waitA A t 0 17 = A 0 17 + t := by unfold waitA; rw [up2_s]
theorem pi_wait {A : AV} {t : Int} (ht : 0 ≤ t) (h : PI A) : PI (waitA A t) := by
  refine ⟨?_, pm_cg (wait_k (by decide)) (wait_k (by decide)) (wait_0 (by decide) (by decide)) (wait_0 (by decide) (by decide)) h.2.1, pf_cg (wait_k (by decide)) (wait_k (by decide)) (wait_0 (by decide) (by decide)) h.2.2.1, ?_, ?_⟩
  · have := h.1
    unfold PIb at *
    rw [wait_0 (by decide) (by decide), wait_0 (by decide) (by decide), wait_0 (by decide) (by decide), wait_0 (by decide) (by decide), wait_7]
    omega
  · have := h.2.2.2.1
    unfold PIa at *
    rw [wait_0 (by decide) (by decide), wait_k (by decide), wait_k (by decide), wait_k (by decide)]
    exact this
  · have := h.2.2.2.2
    unfold PIc triA at *
    rw [wait_k (k := 8) (by decide), wait_0 (i := 6) (by decide) (by decide), wait_0 (i := 10) (by decide) (by decide), wait_0 (i := 11) (by decide) (by decide), wait_0 (i := 12) (by decide) (by decide), wait_0 (i := 13) (by decide) (by decide), wait_7, wait_17, wait_0 (i := 16) (by decide) (by decide), wait_0 (i := 0) (by decide) (by decide), wait_0 (i := 15) (by decide) (by decide)]
    exact ⟨this.1, this.2.1, by omega⟩
theorem gvS_o {A : AV} {g : Int} : ∀ j : Nat, (∀ k, k ≠ 7 → (gvS A g j).2 k = A k) ∧ ∀ f, (gvS A g j).2 7 f = A 7 f ∨ (gvS A g j).2 7 f = 2
  | 0 => ⟨fun _ _ => rfl, fun _ => Or.inl rfl⟩
  | j + 1 => by
    have ih := gvS_o (A := A) (g := g) j
    unfold gvS
    by_cases e : A 7 (g + j) = 0
    · rw [if_pos e]
      refine ⟨fun k hk => (up2_off' _ _ _ hk).trans (ih.1 k hk), fun f => ?_⟩
      by_cases d : f = g + j
      · subst d
        exact Or.inr up2_s
      · rcases ih.2 f with q | q
        · exact Or.inl ((up2_i d).trans q)
        · exact Or.inr ((up2_i d).trans q)
    · rw [if_neg e]
      exact ih
theorem pi_gv {A : AV} {m : Int} (h : PI A) : PI (gvA A m).2 := by
  obtain ⟨o1, o2⟩ := gvS_o (A := A) (g := A 5 m) ((A 4 m + 3) / 4).toNat
  have e0 : ∀ i, (gvA A m).2 0 i = A 0 i := fun i => congrFun (o1 0 (by decide)) i
  refine ⟨?_, pm_cg (o1 4 (by decide)) (o1 5 (by decide)) (e0 5) (e0 6) h.2.1, pf_cg (o1 10 (by decide)) (o1 6 (by decide)) (e0 6) h.2.2.1, ?_, ?_⟩
  · have := h.1
    unfold PIb at *
    rw [e0, e0, e0, e0, e0]
    exact this
  · intro f f0 f1
    rw [e0] at f1
    have := h.2.2.2.1 f f0 f1
    have e9 : (gvA A m).2 9 f = A 9 f := congrFun (o1 9 (by decide)) f
    have e8 : (gvA A m).2 8 f = A 8 f := congrFun (o1 8 (by decide)) f
    rw [e9, e8]
    refine ⟨this.1, this.2.1, fun h7 => this.2.2 ?_⟩
    rcases o2 f with q | q
    · exact q.symm.trans h7
    · have h7 : (gvS A (A 5 m) ((A 4 m + 3) / 4).toNat).2 7 f = 1 := h7
      rw [q] at h7
      exact absurd h7 (by decide)
  · have := h.2.2.2.2
    have e8 : (gvA A m).2 8 = A 8 := o1 8 (by decide)
    unfold PIc triA at *
    rw [e8]
    rw [e0, e0, e0, e0, e0, e0, e0, e0, e0, e0]
    exact this
/-! an attempt -/
section Att
variable {A : AV} {f r : Int} {B : Int → Int} {k : Nat} {i : Int}
theorem nap_k (hk : k ≠ 0) : napA A k = A k := by
  unfold napA
  split
  · rw [up2_off' _ _ _ hk, up2_off' _ _ _ hk]
  · rfl
theorem nap_0 (h7 : i ≠ 7) (h15 : i ≠ 15) : napA A 0 i = A 0 i := by
  unfold napA
  split
  · rw [up2_i h7, up2_i h15]
  · rfl
theorem nap_7 : napA A 0 7 = max (A 0 7) (A 0 8) := by
  unfold napA
  split
  · rw [up2_s]; omega
  · omega
theorem nap_15 : napA A 0 15 = A 0 15 + (max (A 0 7) (A 0 8) - A 0 7) := by
  unfold napA
  split
  · rw [up2_i (by decide), up2_s]; omega
  · omega
theorem cnt_k (hk : k ≠ 0) (h8 : k ≠ 8) : cntA A f k = A k := by unfold cntA; rw [up2_off' _ _ _ hk, up2_off' _ _ _ hk, up2_off' _ _ _ hk, up2_off' _ _ _ h8]
theorem cnt_8 : cntA A f 8 = fun b => if b = f then A 8 f + 1 else A 8 b := by unfold cntA; rw [up2_off' _ _ _ (by decide), up2_off' _ _ _ (by decide), up2_off' _ _ _ (by decide), up2_at]
theorem cnt_0 (h10 : i ≠ 10) (h16 : i ≠ 16) (h7 : i ≠ 7) : cntA A f 0 i = A 0 i := by unfold cntA; rw [up2_i h7, up2_i h16, up2_i h10, up2_p (by decide)]
theorem cnt_10 : cntA A f 0 10 = A 0 10 + 1 := by unfold cntA; rw [up2_i (by decide), up2_i (by decide), up2_s]
theorem cnt_16 : cntA A f 0 16 = A 0 16 + A 6 f * 8 := by unfold cntA; rw [up2_i (by decide), up2_s]
theorem cnt_7 : cntA A f 0 7 = A 0 7 + (A 6 f * 8 + 8) * A 0 0 := by unfold cntA; rw [up2_s]
def recE (A : AV) (f : Int) (B : Int → Int) : AV := up2 (if B 0 / 16 + 1 = A 0 9 then up2 A 0 12 (A 0 12 + 1) else wrB (up2 (up2 A 0 13 (A 0 13 + 1)) 9 f 1) f (A 6 f) B) 0 9 (B 0 / 16 + 1)
theorem recA_eq : recA A f r B = if r = 1 then up2 A 0 11 (A 0 11 + 1) else if r = 2 then up2 (recE A f B) 0 14 (recE A f B 0 14 + 1) else recE A f B := rfl
theorem wrB_k {n : Int} (h : k ≠ 11) : wrB A f n B k = A k := by
  funext i
  unfold wrB
  rw [if_neg (fun z => h z.1)]
theorem recE_k (h0 : k ≠ 0) (h9 : k ≠ 9) (h11 : k ≠ 11) : recE A f B k = A k := by
  unfold recE
  rw [up2_off' _ _ _ h0]
  split
  · rw [up2_off' _ _ _ h0]
  · rw [wrB_k h11, up2_off' _ _ _ h9, up2_off' _ _ _ h0]
theorem recE_9 : recE A f B 9 = A 9 ∨ recE A f B 9 = fun b => if b = f then 1 else A 9 b := by
  unfold recE
  rw [up2_off' _ _ _ (by decide)]
  split
  · exact Or.inl (up2_off' _ _ _ (by decide))
  · refine Or.inr ?_
    rw [wrB_k (by decide), up2_at, up2_off' _ _ _ (by decide : 9 ≠ 0)]
theorem recE_0 (h9 : i ≠ 9) (h12 : i ≠ 12) (h13 : i ≠ 13) : recE A f B 0 i = A 0 i := by
  unfold recE
  rw [up2_i h9]
  split
  · rw [up2_i h12]
  · rw [wrB_k (by decide), up2_p (by decide), up2_i h13]
theorem recE_s : recE A f B 0 12 + recE A f B 0 13 = A 0 12 + A 0 13 + 1 := by
  unfold recE
  rw [up2_i (by decide), up2_i (by decide)]
  split
  · rw [up2_s, up2_i (by decide)]; omega
  · rw [wrB_k (by decide), up2_off' _ _ _ (by decide : (0 : Nat) ≠ 9), up2_i (b := 12) (by decide), up2_s]; omega
theorem reA_k (h0 : k ≠ 0) (h9 : k ≠ 9) (h11 : k ≠ 11) : recA A f r B k = A k := by
  rw [recA_eq]
  split
  · exact up2_off' _ _ _ h0
  · split
    · rw [up2_off' _ _ _ h0]; exact recE_k h0 h9 h11
    · exact recE_k h0 h9 h11
theorem reA_9 : recA A f r B 9 = A 9 ∨ recA A f r B 9 = fun b => if b = f then 1 else A 9 b := by
  rw [recA_eq]
  split
  · exact Or.inl (up2_off' _ _ _ (by decide))
  · split
    · rw [up2_off' _ _ _ (by decide)]; exact recE_9
    · exact recE_9
theorem reA_0 (h9 : i ≠ 9) (h11 : i ≠ 11) (h12 : i ≠ 12) (h13 : i ≠ 13) (h14 : i ≠ 14) : recA A f r B 0 i = A 0 i := by
  rw [recA_eq]
  split
  · exact up2_i h11
  · split
    · rw [up2_i h14]; exact recE_0 h9 h12 h13
    · exact recE_0 h9 h12 h13
theorem reA_11 : recA A f r B 0 11 = A 0 11 + (if r = 1 then 1 else 0) := by
  rw [recA_eq]
  by_cases e : r = 1
  · rw [if_pos e, if_pos e, up2_s]
  · rw [if_neg e, if_neg e, Int.add_zero]
    split
    · rw [up2_i (by decide)]; exact recE_0 (by decide) (by decide) (by decide)
    · exact recE_0 (by decide) (by decide) (by decide)
theorem reA_14 : recA A f r B 0 14 = A 0 14 + (if r = 2 then 1 else 0) := by
  rw [recA_eq]
  by_cases e : r = 1
  · rw [if_pos e, if_neg (by omega), Int.add_zero, up2_i (by decide)]
  · rw [if_neg e]
    by_cases e2 : r = 2
    · rw [if_pos e2, if_pos e2, up2_s, recE_0 (by decide) (by decide) (by decide)]
    · rw [if_neg e2, if_neg e2, Int.add_zero, recE_0 (by decide) (by decide) (by decide)]
theorem reA_s : recA A f r B 0 11 + recA A f r B 0 12 + recA A f r B 0 13 = A 0 11 + A 0 12 + A 0 13 + 1 := by
  rw [recA_eq]
  have hs := recE_s (A := A) (f := f) (B := B)
  by_cases e : r = 1
  · rw [if_pos e, up2_s, up2_i (by decide), up2_i (by decide)]; omega
  · rw [if_neg e]
    have h11 : recE A f B 0 11 = A 0 11 := recE_0 (by decide) (by decide) (by decide)
    split
    · rw [up2_i (by decide), up2_i (by decide), up2_i (by decide)]; omega
    · omega
theorem set_k (h0 : k ≠ 0) (h7 : k ≠ 7) : setA A f r k = A k := by
  unfold setA
  split
  · exact up2_off' _ _ _ h7
  · split
    · exact up2_off' _ _ _ h7
    · exact up2_off' _ _ _ h0
theorem set_0 (h8 : i ≠ 8) : setA A f r 0 i = A 0 i := by
  unfold setA
  split
  · exact up2_p (by decide)
  · split
    · exact up2_p (by decide)
    · exact up2_i h8
theorem set_8 : setA A f r 0 8 = if r ≠ 0 ∧ A 8 f < A 0 3 then A 0 7 + A 0 2 * 2 ^ (A 8 f - 1).toNat else A 0 8 := by
  unfold setA
  by_cases e : r = 0
  · rw [if_pos e, if_neg (fun h => h.1 e)]; exact up2_p (by decide)
  · rw [if_neg e]
    by_cases e2 : A 0 3 ≤ A 8 f
    · rw [if_pos e2, if_neg (by omega)]; exact up2_p (by decide)
    · rw [if_neg e2, if_pos ⟨e, by omega⟩]; exact up2_s
theorem set_7 : setA A f r 7 f = if r = 0 then 1 else if A 0 3 ≤ A 8 f then 2 else A 7 f := by
  unfold setA
  split
  · exact up2_s
  · split
    · exact up2_s
    · exact up2_p (by decide)
theorem set_7o (h : i ≠ f) : setA A f r 7 i = A 7 i := by
  unfold setA
  split
  · exact up2_i h
  · split
    · exact up2_i h
    · exact up2_p (by decide)
end Att
theorem sumF_inc {g : Int → Int} {f : Int} (f0 : 0 ≤ f) : ∀ n : Nat, sumF (fun b => if b = f then g f + 1 else g b) n = sumF g n + (if f < n then 1 else 0)
  | 0 => by
    rw [if_neg (by omega)]
    rfl
  | n + 1 => by
    have ih := sumF_inc (g := g) f0 n
    show sumF _ n + (if (n : Int) = f then g f + 1 else g n) = sumF g n + g n + _
    rw [ih]
    by_cases e : (n : Int) = f
    · rw [if_pos e, if_neg (by omega), if_pos (by omega), e]; omega
    · rw [if_neg e]
      by_cases d : f < n
      · rw [if_pos d, if_pos (by omega)]; omega
      · rw [if_neg d, if_neg (by omega)]; omega
theorem resA_cg {A C : AV} {f t b : Int} (h10 : C 10 = A 10) (h6 : C 6 = A 6) (h1 : C 1 = A 1) (h2 : C 2 = A 2) (h3 : C 3 = A 3) (e1 : C 0 1 = A 0 1) (e4 : C 0 4 = A 0 4) : resA C f t b = resA A f t b := by
  unfold resA SfA chA chewA
  rw [h10, h6, h1, h2, h3, e1, e4]
theorem resA_r (A : AV) (f t b : Int) : 0 ≤ resA A f t b ∧ resA A f t b ≤ 2 := by
  unfold resA resZ
  split
  · split <;> decide
  · decide
/-- what an attempt does -/
def ATT (A C : AV) (f r : Int) : Prop := (PI C) ∧ (C 0 7 = max (A 0 7) (A 0 8) + (A 6 f * 8 + 8) * A 0 0) ∧ (C 0 16 = A 0 16 + A 6 f * 8) ∧ (C 8 f = A 8 f + 1) ∧ (C 0 11 = A 0 11 + (if r = 1 then 1 else 0)) ∧ (C 0 14 = A 0 14 + (if r = 2 then 1 else 0)) ∧ (C 7 f = if r = 0 then 1 else if A 0 3 ≤ A 8 f + 1 then 2 else 0) ∧ (C 7 f = 0 → C 0 7 < C 0 8) ∧ (C 6 = A 6) ∧ (C 0 6 = A 0 6) ∧ (C 0 0 = A 0 0)
theorem ATT.pi {A C : AV} {f r : Int} (h : ATT A C f r) : PI C := h.1
theorem ATT.ck {A C : AV} {f r : Int} (h : ATT A C f r) : C 0 7 = max (A 0 7) (A 0 8) + (A 6 f * 8 + 8) * A 0 0 := h.2.1
theorem ATT.bs {A C : AV} {f r : Int} (h : ATT A C f r) : C 0 16 = A 0 16 + A 6 f * 8 := h.2.2.1
theorem ATT.at8 {A C : AV} {f r : Int} (h : ATT A C f r) : C 8 f = A 8 f + 1 := h.2.2.2.1
theorem ATT.un {A C : AV} {f r : Int} (h : ATT A C f r) : C 0 11 = A 0 11 + (if r = 1 then 1 else 0) := h.2.2.2.2.1
theorem ATT.la {A C : AV} {f r : Int} (h : ATT A C f r) : C 0 14 = A 0 14 + (if r = 2 then 1 else 0) := h.2.2.2.2.2.1
theorem ATT.st {A C : AV} {f r : Int} (h : ATT A C f r) : C 7 f = if r = 0 then 1 else if A 0 3 ≤ A 8 f + 1 then 2 else 0 := h.2.2.2.2.2.2.1
theorem ATT.np {A C : AV} {f r : Int} (h : ATT A C f r) : (C 7 f = 0 → C 0 7 < C 0 8) := h.2.2.2.2.2.2.2.1
theorem ATT.c6 {A C : AV} {f r : Int} (h : ATT A C f r) : C 6 = A 6 := h.2.2.2.2.2.2.2.2.1
theorem ATT.f6 {A C : AV} {f r : Int} (h : ATT A C f r) : C 0 6 = A 0 6 := h.2.2.2.2.2.2.2.2.2.1
theorem ATT.b0 {A C : AV} {f r : Int} (h : ATT A C f r) : C 0 0 = A 0 0 := h.2.2.2.2.2.2.2.2.2.2
theorem att_ok {A : AV} {c f : Int} (h : AINV A c) (hP : PI A) (f0 : 0 ≤ f) (f1 : f < A 0 6) (hq : A 7 f = 0) : ATT A (attA A f) f (resA A f (max (A 0 7) (A 0 8)) (A 0 0)) := by
  have hr : resA (napA A) f (napA A 0 7) (napA A 0 0) = resA A f (max (A 0 7) (A 0 8)) (A 0 0) := by
    rw [nap_7, nap_0 (i := 0) (by decide) (by decide)]
    exact resA_cg (nap_k (by decide)) (nap_k (by decide)) (nap_k (by decide)) (nap_k (by decide)) (nap_k (by decide)) (nap_0 (by decide) (by decide)) (nap_0 (by decide) (by decide))
  unfold attA
  rw [hr]
  obtain ⟨r, hre⟩ : ∃ r, r = resA A f (max (A 0 7) (A 0 8)) (A 0 0) := ⟨_, rfl⟩
  obtain ⟨B, hB⟩ : ∃ B, B = takA (napA A) f (napA A 0 7) (napA A 0 0) := ⟨_, rfl⟩
  rw [← hre, ← hB]
  have hrr := resA_r A f (max (A 0 7) (A 0 8)) (A 0 0)
  rw [← hre] at hrr
  have hfr := h.frm f f0 f1
  obtain ⟨X, hX⟩ : ∃ X, X = recA (cntA (napA A) f) f r B := ⟨_, rfl⟩
  rw [← hX]
  have xk : ∀ k : Nat, k ≠ 0 → k ≠ 8 → k ≠ 9 → k ≠ 11 → X k = A k := fun k h0 h8 h9 h11 => by rw [hX, reA_k h0 h9 h11, cnt_k h0 h8, nap_k h0]
  have x0 : ∀ i : Int, i ≠ 7 → i ≠ 9 → i ≠ 10 → i ≠ 11 → i ≠ 12 → i ≠ 13 → i ≠ 14 → i ≠ 15 → i ≠ 16 → X 0 i = A 0 i := fun i h7 h9 h10 h11 h12 h13 h14 h15 h16 => by rw [hX, reA_0 h9 h11 h12 h13 h14, cnt_0 h10 h16 h7, nap_0 h7 h15]
  have n6 : napA A 6 = A 6 := nap_k (by decide)
  have n0 : napA A 0 0 = A 0 0 := nap_0 (by decide) (by decide)
  have x8 : X 8 = fun b => if b = f then A 8 f + 1 else A 8 b := by rw [hX, reA_k (by decide) (by decide) (by decide), cnt_8, nap_k (by decide)]
  have x7 : X 0 7 = max (A 0 7) (A 0 8) + (A 6 f * 8 + 8) * A 0 0 := by rw [hX, reA_0 (by decide) (by decide) (by decide) (by decide) (by decide), cnt_7, nap_7, n6, n0]
  have x10 : X 0 10 = A 0 10 + 1 := by rw [hX, reA_0 (by decide) (by decide) (by decide) (by decide) (by decide), cnt_10, nap_0 (by decide) (by decide)]
  have x16 : X 0 16 = A 0 16 + A 6 f * 8 := by rw [hX, reA_0 (by decide) (by decide) (by decide) (by decide) (by decide), cnt_16, nap_0 (by decide) (by decide), n6]
  have x15 : X 0 15 = A 0 15 + (max (A 0 7) (A 0 8) - A 0 7) := by rw [hX, reA_0 (by decide) (by decide) (by decide) (by decide) (by decide), cnt_0 (by decide) (by decide) (by decide), nap_15]
  have x11 : X 0 11 = A 0 11 + (if r = 1 then 1 else 0) := by rw [hX, reA_11, cnt_0 (by decide) (by decide) (by decide), nap_0 (by decide) (by decide)]
  have x14 : X 0 14 = A 0 14 + (if r = 2 then 1 else 0) := by rw [hX, reA_14, cnt_0 (by decide) (by decide) (by decide), nap_0 (by decide) (by decide)]
  have xs : X 0 11 + X 0 12 + X 0 13 = A 0 11 + A 0 12 + A 0 13 + 1 := by rw [hX, reA_s, cnt_0 (by decide) (by decide) (by decide), cnt_0 (by decide) (by decide) (by decide), cnt_0 (by decide) (by decide) (by decide), nap_0 (by decide) (by decide), nap_0 (by decide) (by decide), nap_0 (by decide) (by decide)]
  have x9 : X 9 = A 9 ∨ X 9 = fun b => if b = f then 1 else A 9 b := by
    have := reA_9 (A := cntA (napA A) f) (f := f) (r := r) (B := B)
    rw [← hX, cnt_k (k := 9) (by decide) (by decide), nap_k (k := 9) (by decide)] at this
    exact this
  have x8f : X 8 f = A 8 f + 1 := by rw [x8]; exact if_pos rfl
  have x6 : X 6 = A 6 := xk 6 (by decide) (by decide) (by decide) (by decide)
  have x06 : X 0 6 = A 0 6 := x0 6 (by decide) (by decide) (by decide) (by decide) (by decide) (by decide) (by decide) (by decide) (by decide)
  have x03 : X 0 3 = A 0 3 := x0 3 (by decide) (by decide) (by decide) (by decide) (by decide) (by decide) (by decide) (by decide) (by decide)
  have x02 : X 0 2 = A 0 2 := x0 2 (by decide) (by decide) (by decide) (by decide) (by decide) (by decide) (by decide) (by decide) (by decide)
  have x00 : X 0 0 = A 0 0 := x0 0 (by decide) (by decide) (by decide) (by decide) (by decide) (by decide) (by decide) (by decide) (by decide)
  have x08 : X 0 8 = A 0 8 := x0 8 (by decide) (by decide) (by decide) (by decide) (by decide) (by decide) (by decide) (by decide) (by decide)
  have x05 : X 0 5 = A 0 5 := x0 5 (by decide) (by decide) (by decide) (by decide) (by decide) (by decide) (by decide) (by decide) (by decide)
  have x017 : X 0 17 = A 0 17 := x0 17 (by decide) (by decide) (by decide) (by decide) (by decide) (by decide) (by decide) (by decide) (by decide)
  have x7k : X 7 = A 7 := xk 7 (by decide) (by decide) (by decide) (by decide)
  have hbk := h.ba
  have hp2 : A 8 f < 5 → 1 ≤ A 0 2 * 2 ^ (A 8 f + 1 - 1).toNat := fun _ => by
    have : 0 < (2 : Int) ^ (A 8 f + 1 - 1).toNat := Int.pow_pos (by decide)
    have h2 : 1 * 1 ≤ A 0 2 * 2 ^ (A 8 f + 1 - 1).toNat := Int.mul_le_mul hbk.1 (by omega) (by decide) (by omega)
    omega
  have hb0 := h.b
  have hck := h.ck
  have hPb := hP.1
  have hpos : 0 ≤ (A 6 f * 8 + 8) * A 0 0 := Int.mul_nonneg (by omega) (by omega)
  refine ⟨⟨?_, ?_, ?_, ?_, ?_⟩, ?_, ?_, ?_, ?_, ?_, ?_, ?_, ?_, ?_, ?_⟩
  · unfold PIb
    rw [set_0 (i := 0) (by decide), set_0 (i := 2) (by decide), set_0 (i := 3) (by decide), set_0 (i := 7) (by decide), set_8, x00, x02, x03, x08, x7, x8f]
    refine ⟨hPb.1, ?_⟩
    by_cases e : r ≠ 0 ∧ A 8 f + 1 < A 0 3
    · rw [if_pos e]
      have hpw : ∀ j : Nat, j < 4 → (2 : Int) ^ j ≤ 8 := by decide
      have h3 := hpw (A 8 f + 1 - 1).toNat (by have := hPb.1.2.2; omega)
      have h4 : A 0 2 * 2 ^ (A 8 f + 1 - 1).toNat ≤ 40 * 8 := Int.mul_le_mul hPb.1.2.1 h3 (Int.le_of_lt (Int.pow_pos (by decide))) (by decide)
      omega
    · rw [if_neg e]
      omega
  · exact pm_cg ((set_k (by decide) (by decide)).trans (xk 4 (by decide) (by decide) (by decide) (by decide))) ((set_k (by decide) (by decide)).trans (xk 5 (by decide) (by decide) (by decide) (by decide))) ((set_0 (by decide)).trans x05) ((set_0 (by decide)).trans x06) hP.2.1
  · exact pf_cg ((set_k (by decide) (by decide)).trans (xk 10 (by decide) (by decide) (by decide) (by decide))) ((set_k (by decide) (by decide)).trans x6) ((set_0 (by decide)).trans x06) hP.2.2.1
  · intro g g0 g1
    rw [set_0 (by decide), x06] at g1
    have hg := hP.2.2.2.1 g g0 g1
    have hgf := h.frm g g0 g1
    rw [set_k (k := 9) (by decide) (by decide), set_k (k := 8) (by decide) (by decide)]
    by_cases e : g = f
    · subst e
      rw [x8f]
      refine ⟨?_, fun _ => by omega, fun _ => by omega⟩
      rcases x9 with q | q
      · rw [q]; exact hg.1
      · rw [q]; exact Or.inr (if_pos rfl)
    · have e8 : X 8 g = A 8 g := by rw [x8]; exact if_neg e
      have e9 : X 9 g = A 9 g := by
        rcases x9 with q | q
        · rw [q]
        · rw [q]; exact if_neg e
      rw [e8, e9, set_7o e, x7k]
      exact hg
  · have hc := hP.2.2.2.2
    refine ⟨?_, ?_, ?_⟩
    · rw [set_0 (by decide), set_0 (by decide), set_0 (by decide), set_0 (by decide), xs, x10]
      have := hc.1
      omega
    · unfold triA
      rw [set_0 (by decide), set_0 (by decide), set_k (by decide) (by decide), x10, x8, x06, sumF_inc f0, if_pos (by omega)]
      have := hc.2.1
      unfold triA at this
      omega
    · rw [set_0 (by decide), set_0 (by decide), set_0 (by decide), set_0 (by decide), set_0 (by decide), set_0 (by decide), x7, x16, x10, x00, x15, x017]
      have := hc.2.2
      rw [show A 0 16 + A 6 f * 8 + 8 * (A 0 10 + 1) = (A 0 16 + 8 * A 0 10) + (A 6 f * 8 + 8) from by omega, Int.add_mul (A 0 16 + 8 * A 0 10)]
      omega
  · rw [set_0 (by decide), x7]
  · rw [set_0 (by decide), x16]
  · rw [set_k (by decide) (by decide), x8f]
  · rw [set_0 (by decide), x11]
  · rw [set_0 (by decide), x14]
  · rw [set_7, x8f, x03, x7k, hq]
  · rw [set_7, set_8, set_0 (by decide), x8f, x03, x7k, hq, x02, x7]
    intro h0
    by_cases e : r = 0
    · rw [if_pos e] at h0
      exact absurd h0 (by decide)
    · rw [if_neg e] at h0
      by_cases e2 : A 0 3 ≤ A 8 f + 1
      · rw [if_pos e2] at h0
        exact absurd h0 (by decide)
      · rw [if_pos ⟨e, by omega⟩]
        have := hp2 (by have := hPb.1.2.2; omega)
        omega
  · rw [set_k (by decide) (by decide), x6]
  · rw [set_0 (by decide), x06]
  · rw [set_0 (by decide), x00]
