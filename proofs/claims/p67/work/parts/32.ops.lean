/-! ===== what the operations do to the abstract state ===== -/
def cfgA (b dr ba li : Int) : AV := fun k i => if k = 0 then (if i = 0 then b else if i = 1 then dr else if i = 2 then ba else if i = 3 then li else 0) else 0
def waitA (A : AV) (t : Int) : AV := up2 (up2 A 0 7 (A 0 7 + t)) 0 17 (A 0 17 + t)
def dogA (A : AV) (a b c : Int) : AV := up2 (up2 (up2 (up2 A 1 (A 0 4) a) 2 (A 0 4) b) 3 (A 0 4) c) 0 4 (A 0 4 + 1)
def rmA (A : AV) (d : Int) : AV := fun k i => if k = 0 then (if i = 4 then A 0 4 - 1 else A 0 i) else if (k = 1 ∨ k = 2 ∨ k = 3) ∧ d ≤ i then (if i + 1 < A 0 4 then A k (i + 1) else 0) else A k i
/-- the bytes of frame f with n bytes B -/
def frB (f n : Int) (B : Int → Int) : Int → Int := fun k => if k = 0 then f % 16 * 16 + n else if k ≤ n then B (k - 1) else crcF (fun j => if j = 0 then f % 16 * 16 + n else B (j - 1)) (n + 1).toNat
/-- a frame more -/
def fAddA (A : AV) (B : Int → Int) (n : Int) : AV := fun k i =>
  if k = 0 then (if i = 6 then A 0 6 + 1 else A 0 i)
  else if k = 6 then (if i = A 0 6 then n + 2 else A 6 i)
  else if k = 7 ∨ k = 8 ∨ k = 9 then (if i = A 0 6 then 0 else A k i)
  else if k = 10 then (if 6 * A 0 6 ≤ i ∧ i < 6 * A 0 6 + (n + 2) then frB (A 0 6) n B (i - 6 * A 0 6) else A 10 i)
  else A k i
/-- j frames more of n bytes B -/
def frsA (A : AV) (B : Int → Int) (n : Int) : Nat → AV
  | 0 => A
  | j + 1 => fAddA (frsA A B n j) (fun k => B (4 * j + k)) (min 4 (n - 4 * j))
/-- message m of n bytes, its first frame g -/
def msgW (A : AV) (m n g : Int) : AV := up2 (up2 (up2 A 4 m n) 5 m g) 0 5 (m + 1)
def addA (A : AV) (B : Int → Int) (n : Int) : AV := frsA (msgW A (A 0 5) n (A 0 6)) B n ((n + 3) / 4).toNat
/-- is one of m from i on of the state c -/
def hasN (St : Int → Int) (c : Int) : Nat → Int → Bool
  | 0, _ => false
  | m + 1, i => decide (St i = c) || hasN St c m (i + 1)
def hasA (A : AV) (m st : Int) : Bool := hasN (A 7) st ((A 4 m + 3) / 4).toNat (A 5 m)
def stA (A : AV) (m : Int) : Int := if hasA A m 0 then 0 else if hasA A m 2 then 2 else 1
def gvS (A : AV) (g : Int) : Nat → Int × AV
  | 0 => (0, A)
  | j + 1 => if A 7 (g + j) = 0 then ((gvS A g j).1 + 1, up2 (gvS A g j).2 7 (g + j) 2) else gvS A g j
def gvA (A : AV) (m : Int) : Int × AV := gvS A (A 5 m) ((A 4 m + 3) / 4).toNat
theorem AI.cfg {b dr ba li : Int} (hb : 1 ≤ b ∧ b ≤ 9) (hd : -99 ≤ dr ∧ dr ≤ 99) (ha : 1 ≤ ba ∧ ba ≤ 99) (hl : 1 ≤ li ∧ li ≤ 9) {c : Int} (hc : 0 ≤ c) : AINV (cfgA b dr ba li) c :=
  AI.mk hb hd ha hl (show (0 : Int) ≤ 0 ∧ (0 : Int) ≤ 3 from by decide) (show (0 : Int) ≤ 0 ∧ (0 : Int) ≤ 12 from by decide) (show (0 : Int) ≤ 0 ∧ (0 : Int) ≤ 4 * 0 from by decide) ⟨Int.le_refl 0, hc⟩ (show (0 : Int) ≤ 0 ∧ (0 : Int) ≤ 0 + 25344 from by decide) (show (0 : Int) ≤ 0 ∧ (0 : Int) ≤ 16 from by decide)
    (fun j h0 h1 => by
      show 0 ≤ (if j = 0 then b else if j = 1 then dr else if j = 2 then ba else if j = 3 then li else 0) ∧ (if j = 0 then b else if j = 1 then dr else if j = 2 then ba else if j = 3 then li else 0) ≤ 0
      rw [if_neg (by omega), if_neg (by omega), if_neg (by omega), if_neg (by omega)]; decide)
    (fun i h0 h1 => absurd (show i < 0 from h1) (by omega)) (fun i h0 h1 => absurd (show i < 0 from h1) (by omega)) (fun i h0 h1 => absurd (show i < 0 from h1) (by omega)) (fun i => ⟨Int.le_refl 0, (by decide : (0 : Int) ≤ 255)⟩)
theorem AI.wait {A : AV} {c d t : Int} (h : AINV A c) (ht : 0 ≤ t) (hd : A 0 7 + t ≤ d) : AINV (waitA A t) d := by
  have hc := h.ck; have hn := h.np
  refine AI.mk h.b h.dr h.ba h.li h.dg h.ms h.fr ?_ ?_ h.la (fun j h0 h1 => ?_) h.dog h.frm h.msg h.byt
  · show 0 ≤ up2 _ 0 17 _ 0 7 ∧ up2 _ 0 17 _ 0 7 ≤ d
    rw [up2_i (by decide), up2_s]; omega
  · show 0 ≤ A 0 8 ∧ A 0 8 ≤ up2 _ 0 17 _ 0 7 + 25344
    rw [up2_i (by decide), up2_s]; omega
  · have g := h.ct j h0 h1; have g2 := h.ct 17 (by decide) (by decide)
    show 0 ≤ up2 _ 0 17 _ 0 j ∧ up2 _ 0 17 _ 0 j ≤ up2 _ 0 17 _ 0 7
    rw [up2_i (j := 17) (b := 7) (by decide), up2_s, up2_00, up2_00, if_neg (by omega : ¬ j = 7)]
    split <;> omega
theorem AI.drift {A : AV} {c z : Int} (h : AINV A c) (hz : -99 ≤ z ∧ z ≤ 99) : AINV (up2 A 0 1 z) c :=
  AI.mk h.b hz h.ba h.li h.dg h.ms h.fr h.ck h.np h.la (fun j h0 h1 => by rw [up2_i (by omega), up2_i (by decide)]; exact h.ct j h0 h1) h.dog h.frm h.msg h.byt
theorem dogA_e {A : AV} {a b c i : Int} : dogA A a b c 1 i = (if i = A 0 4 then a else A 1 i) ∧ dogA A a b c 2 i = (if i = A 0 4 then b else A 2 i) ∧ dogA A a b c 3 i = (if i = A 0 4 then c else A 3 i) ∧ dogA A a b c 0 4 = A 0 4 + 1 := by
  unfold dogA
  refine ⟨?_, ?_, ?_, up2_s⟩
  · rw [up2_p (by decide), up2_p (by decide), up2_p (by decide), up2_at]
  · rw [up2_p (by decide), up2_p (by decide), up2_at, up2_off' _ _ _ (by decide : 2 ≠ 1)]
  · rw [up2_p (by decide), up2_at, up2_off' _ _ _ (by decide : 3 ≠ 2), up2_off' _ _ _ (by decide : 3 ≠ 1)]
theorem dogA_o {A : AV} {a b c : Int} {k : Nat} {i : Int} (hk : k ≠ 1 ∧ k ≠ 2 ∧ k ≠ 3) (hi : k = 0 → i ≠ 4) : dogA A a b c k i = A k i := by
  unfold dogA
  by_cases e : k = 0
  · subst e
    rw [up2_i (hi rfl), up2_p (by decide), up2_p (by decide), up2_p (by decide)]
  · rw [up2_p e, up2_p hk.2.2, up2_p hk.2.1, up2_p hk.1]
theorem AI.dg1 {A : AV} {c x y z : Int} (h : AINV A c) (h3 : A 0 4 < 3) (hx : 2 ≤ x ∧ x ≤ 999) (hy : 1 ≤ y ∧ y < x) (hz : 0 ≤ z ∧ z ≤ 999) : AINV (dogA A x y z) c := by
  have hd := h.dg
  refine AI.mk h.b h.dr h.ba h.li ?_ h.ms h.fr h.ck h.np h.la (fun j h0 h1 => ?_) (fun i h0 h1 => ?_) h.frm h.msg h.byt
  · rw [(dogA_e (i := 0)).2.2.2]; omega
  · rw [dogA_o (by decide) (by omega), dogA_o (by decide) (by omega)]; exact h.ct j h0 h1
  · rw [(dogA_e (i := 0)).2.2.2] at h1
    rw [dogA_e.1, dogA_e.2.1, dogA_e.2.2.1]
    by_cases e : i = A 0 4
    · rw [if_pos e, if_pos e, if_pos e]; exact ⟨hx, hy, hz⟩
    · rw [if_neg e, if_neg e, if_neg e]; exact h.dog i h0 (by omega)
theorem rmA_d {A : AV} {d i : Int} {k : Nat} (hk : k = 1 ∨ k = 2 ∨ k = 3) : rmA A d k i = if d ≤ i then (if i + 1 < A 0 4 then A k (i + 1) else 0) else A k i := by
  unfold rmA
  rw [if_neg (by omega)]
  by_cases e : d ≤ i
  · rw [if_pos ⟨hk, e⟩, if_pos e]
  · rw [if_neg (fun z => e z.2), if_neg e]
theorem rmA_o {A : AV} {d i : Int} {k : Nat} (hk : k ≠ 1 ∧ k ≠ 2 ∧ k ≠ 3) (hi : k = 0 → i ≠ 4) : rmA A d k i = A k i := by
  unfold rmA
  by_cases e : k = 0
  · subst e; rw [if_pos rfl, if_neg (hi rfl)]
  · rw [if_neg e, if_neg (by omega)]
theorem AI.rm {A : AV} {c d : Int} (h : AINV A c) (h0 : 0 ≤ d) (h1 : d < A 0 4) : AINV (rmA A d) c := by
  have hd := h.dg
  have e4 : rmA A d 0 4 = A 0 4 - 1 := rfl
  refine AI.mk h.b h.dr h.ba h.li ?_ h.ms h.fr h.ck h.np h.la (fun j h0 h1 => ?_) (fun i g0 g1 => ?_) h.frm h.msg h.byt
  · rw [e4]; omega
  · rw [rmA_o (by decide) (by omega), rmA_o (by decide) (by omega)]; exact h.ct j h0 h1
  · rw [e4] at g1
    rw [rmA_d (by decide), rmA_d (by decide), rmA_d (by decide)]
    by_cases e : d ≤ i
    · rw [if_pos e, if_pos e, if_pos e, if_pos (by omega), if_pos (by omega), if_pos (by omega)]; exact h.dog (i + 1) (by omega) (by omega)
    · rw [if_neg e, if_neg e, if_neg e]; exact h.dog i g0 (by omega)
/-! giving up -/
theorem AI.lost {A : AV} {c f : Int} (h : AINV A c) : AINV (up2 A 7 f 2) c :=
  AI.mk h.b h.dr h.ba h.li h.dg h.ms h.fr h.ck h.np h.la h.ct h.dog (fun g g0 g1 => by
    have hg := h.frm g g0 g1
    have r7 : ∀ (k : Nat) (i : Int), k ≠ 7 → up2 A 7 f 2 k i = A k i := fun k i hk => up2_p hk
    rw [r7 6 g (by decide), r7 8 g (by decide), r7 0 3 (by decide)]
    refine ⟨hg.1, ?_, hg.2.2.1, fun q e => ?_⟩
    · by_cases e : g = f
      · rw [up2_e rfl e]; decide
      · rw [up2_i e]; exact hg.2.1
    · by_cases e2 : g = f
      · rw [up2_e rfl e2] at e; omega
      · rw [up2_i e2] at e; exact hg.2.2.2 q e) h.msg h.byt
theorem AI.gv {A : AV} {c g : Int} (h : AINV A c) : ∀ j : Nat, AINV (gvS A g j).2 c
  | 0 => h
  | j + 1 => by
    unfold gvS
    split
    · exact (AI.gv h j).lost
    · exact AI.gv h j
theorem gvS_r {A : AV} {g : Int} : ∀ j : Nat, 0 ≤ (gvS A g j).1 ∧ (gvS A g j).1 ≤ j
  | 0 => ⟨Int.le_refl 0, Int.le_refl 0⟩
  | j + 1 => by
    have := gvS_r (A := A) (g := g) j
    unfold gvS
    split
    · dsimp only; omega
    · omega
theorem gvS_k {A : AV} {g : Int} {k : Nat} (hk : k ≠ 7) (i : Int) : ∀ j : Nat, (gvS A g j).2 k i = A k i
  | 0 => rfl
  | j + 1 => by
    unfold gvS
    split
    · dsimp only; rw [up2_p hk]; exact gvS_k hk i j
    · exact gvS_k hk i j
theorem gvS_7 {A : AV} {g i : Int} : ∀ j : Nat, g + j ≤ i → (gvS A g j).2 7 i = A 7 i
  | 0, _ => rfl
  | j + 1, h => by
    unfold gvS
    split
    · dsimp only; rw [up2_i (by omega)]; exact gvS_7 j (by omega)
    · exact gvS_7 j (by omega)
/-! frames more -/
theorem fAdd_0 {A : AV} {B : Int → Int} {n i : Int} (h : i ≠ 6) : fAddA A B n 0 i = A 0 i := by unfold fAddA; rw [if_pos rfl, if_neg h]
theorem fAdd_6 {A : AV} {B : Int → Int} {n i : Int} : fAddA A B n 6 i = if i = A 0 6 then n + 2 else A 6 i := by unfold fAddA; rw [if_neg (by decide), if_pos rfl]
theorem fAdd_z {A : AV} {B : Int → Int} {n i : Int} {k : Nat} (hk : k = 7 ∨ k = 8 ∨ k = 9) : fAddA A B n k i = if i = A 0 6 then 0 else A k i := by unfold fAddA; rw [if_neg (by omega), if_neg (by omega), if_pos hk]
theorem fAdd_10 {A : AV} {B : Int → Int} {n i : Int} : fAddA A B n 10 i = if 6 * A 0 6 ≤ i ∧ i < 6 * A 0 6 + (n + 2) then frB (A 0 6) n B (i - 6 * A 0 6) else A 10 i := by unfold fAddA; rw [if_neg (by decide), if_neg (by decide), if_neg (by decide), if_pos rfl]
theorem fAdd_k {A : AV} {B : Int → Int} {n i : Int} {k : Nat} (hk : k ≠ 0 ∧ k ≠ 6 ∧ k ≠ 7 ∧ k ≠ 8 ∧ k ≠ 9 ∧ k ≠ 10) : fAddA A B n k i = A k i := by unfold fAddA; rw [if_neg hk.1, if_neg hk.2.1, if_neg (by omega), if_neg hk.2.2.2.2.2]
theorem frs_0 {A : AV} {B : Int → Int} {n i : Int} (h : i ≠ 6) : ∀ j : Nat, frsA A B n j 0 i = A 0 i
  | 0 => rfl
  | j + 1 => by rw [show frsA A B n (j + 1) = fAddA (frsA A B n j) (fun k => B (4 * j + k)) (min 4 (n - 4 * j)) from rfl, fAdd_0 h]; exact frs_0 h j
theorem frs_n {A : AV} {B : Int → Int} {n : Int} : ∀ j : Nat, frsA A B n j 0 6 = A 0 6 + j
  | 0 => (Int.add_zero _).symm
  | j + 1 => by
    show frsA A B n j 0 6 + 1 = _
    rw [frs_n j]; omega
theorem frs_k {A : AV} {B : Int → Int} {n i : Int} {k : Nat} (hk : k ≠ 0 ∧ k ≠ 6 ∧ k ≠ 7 ∧ k ≠ 8 ∧ k ≠ 9 ∧ k ≠ 10) : ∀ j : Nat, frsA A B n j k i = A k i
  | 0 => rfl
  | j + 1 => by rw [show frsA A B n (j + 1) = fAddA (frsA A B n j) (fun k => B (4 * j + k)) (min 4 (n - 4 * j)) from rfl, fAdd_k hk]; exact frs_k hk j
theorem frs_6 {A : AV} {B : Int → Int} {n i : Int} : ∀ j : Nat, frsA A B n j 6 i = if A 0 6 ≤ i ∧ i < A 0 6 + j then min 4 (n - 4 * (i - A 0 6)) + 2 else A 6 i
  | 0 => by rw [if_neg (by omega)]; rfl
  | j + 1 => by
    rw [show frsA A B n (j + 1) = fAddA (frsA A B n j) (fun k => B (4 * j + k)) (min 4 (n - 4 * j)) from rfl, fAdd_6, frs_n, frs_6 j]
    by_cases e : i = A 0 6 + j
    · rw [if_pos e, if_pos (by omega)]; congr 2; omega
    · rw [if_neg e]
      by_cases e2 : A 0 6 ≤ i ∧ i < A 0 6 + j
      · rw [if_pos e2, if_pos (by omega)]
      · rw [if_neg e2, if_neg (by omega)]
theorem frs_z {A : AV} {B : Int → Int} {n i : Int} {k : Nat} (hk : k = 7 ∨ k = 8 ∨ k = 9) : ∀ j : Nat, frsA A B n j k i = if A 0 6 ≤ i ∧ i < A 0 6 + j then 0 else A k i
  | 0 => by rw [if_neg (by omega)]; rfl
  | j + 1 => by
    rw [show frsA A B n (j + 1) = fAddA (frsA A B n j) (fun k => B (4 * j + k)) (min 4 (n - 4 * j)) from rfl, fAdd_z hk, frs_n, frs_z hk j]
    by_cases e : i = A 0 6 + j
    · rw [if_pos e, if_pos (by omega)]
    · rw [if_neg e]
      by_cases e2 : A 0 6 ≤ i ∧ i < A 0 6 + j
      · rw [if_pos e2, if_pos (by omega)]
      · rw [if_neg e2, if_neg (by omega)]
theorem frB_b {f n : Int} {B : Int → Int} (hn : 0 ≤ n ∧ n ≤ 4) (hB : ∀ k, 0 ≤ B k ∧ B k ≤ 255) (k : Int) : 0 ≤ frB f n B k ∧ frB f n B k ≤ 255 := by
  unfold frB
  split
  · omega
  · split
    · exact hB _
    · refine crcF_b _ fun i h0 h1 => ?_
      split
      · omega
      · exact hB _
theorem frs_b {A : AV} {B : Int → Int} {n : Int} (hA : ∀ i, 0 ≤ A 10 i ∧ A 10 i ≤ 255) (hB : ∀ k, 0 ≤ B k ∧ B k ≤ 255) : ∀ j : Nat, 4 * (j : Int) ≤ n + 3 → ∀ i, 0 ≤ frsA A B n j 10 i ∧ frsA A B n j 10 i ≤ 255
  | 0, _, i => hA i
  | j + 1, hj, i => by
    rw [show frsA A B n (j + 1) = fAddA (frsA A B n j) (fun k => B (4 * j + k)) (min 4 (n - 4 * j)) from rfl, fAdd_10]
    split
    · exact frB_b (by omega) (fun k => hB _) _
    · exact frs_b hA hB j (by omega) i
theorem msgW_e {A : AV} {m n g i : Int} : msgW A m n g 4 i = (if i = m then n else A 4 i) ∧ msgW A m n g 5 i = (if i = m then g else A 5 i) ∧ msgW A m n g 0 5 = m + 1 := by
  unfold msgW
  refine ⟨?_, ?_, up2_s⟩
  · rw [up2_p (by decide), up2_p (by decide), up2_at]
  · rw [up2_p (by decide), up2_at, up2_off' _ _ _ (by decide : 5 ≠ 4)]
theorem msgW_0 {A : AV} {m n g i : Int} (h : i ≠ 5) : msgW A m n g 0 i = A 0 i := by
  unfold msgW
  rw [up2_i h, up2_p (by decide), up2_p (by decide)]
theorem msgW_k {A : AV} {m n g i : Int} {k : Nat} (hk : k ≠ 0 ∧ k ≠ 4 ∧ k ≠ 5) : msgW A m n g k i = A k i := by
  unfold msgW
  rw [up2_p hk.1, up2_p hk.2.2, up2_p hk.2.1]
theorem AI.add {A : AV} {c n : Int} {B : Int → Int} (h : AINV A c) (hm : A 0 5 < 12) (hn : 1 ≤ n ∧ n ≤ 16) (hB : ∀ k, 0 ≤ B k ∧ B k ≤ 255) : AINV (addA A B n) c := by
  have hms := h.ms; have hfr := h.fr
  have e0 : ∀ i : Int, i ≠ 6 → i ≠ 5 → addA A B n 0 i = A 0 i := fun i h6 h5 => by unfold addA; rw [frs_0 h6, msgW_0 h5]
  have e5 : addA A B n 0 5 = A 0 5 + 1 := by unfold addA; rw [frs_0 (by decide), (msgW_e (i := 0)).2.2]
  have e6 : addA A B n 0 6 = A 0 6 + (n + 3) / 4 := by unfold addA; rw [frs_n, msgW_0 (by decide)]; omega
  have f4 : ∀ i, addA A B n 4 i = if i = A 0 5 then n else A 4 i := fun i => by unfold addA; rw [frs_k (by decide), msgW_e.1]
  have f5 : ∀ i, addA A B n 5 i = if i = A 0 5 then A 0 6 else A 5 i := fun i => by unfold addA; rw [frs_k (by decide), msgW_e.2.1]
  have fk : ∀ (k : Nat) (i : Int), k = 1 ∨ k = 2 ∨ k = 3 → addA A B n k i = A k i := fun k i hk => by unfold addA; rw [frs_k (by omega), msgW_k (by omega)]
  have f6 : ∀ i, addA A B n 6 i = if A 0 6 ≤ i ∧ i < A 0 6 + (n + 3) / 4 then min 4 (n - 4 * (i - A 0 6)) + 2 else A 6 i := fun i => by
    unfold addA
    rw [frs_6, msgW_0 (by decide), msgW_k (by decide), show (((n + 3) / 4).toNat : Int) = (n + 3) / 4 from by omega]
  have fz : ∀ (k : Nat) (i : Int), k = 7 ∨ k = 8 ∨ k = 9 → addA A B n k i = if A 0 6 ≤ i ∧ i < A 0 6 + (n + 3) / 4 then 0 else A k i := fun k i hk => by
    unfold addA
    rw [frs_z hk, msgW_0 (by decide), msgW_k (by omega), show (((n + 3) / 4).toNat : Int) = (n + 3) / 4 from by omega]
  have hli := h.li
  refine AI.mk ?_ ?_ ?_ ?_ ?_ ?_ ?_ ?_ ?_ ?_ (fun j h0 h1 => ?_) (fun i h0 h1 => ?_) (fun i h0 h1 => ?_) (fun m h0 h1 => ?_) ?_
  · rw [e0 0 (by decide) (by decide)]; exact h.b
  · rw [e0 1 (by decide) (by decide)]; exact h.dr
  · rw [e0 2 (by decide) (by decide)]; exact h.ba
  · rw [e0 3 (by decide) (by decide)]; exact h.li
  · rw [e0 4 (by decide) (by decide)]; exact h.dg
  · rw [e5]; omega
  · rw [e6, e5]; omega
  · rw [e0 7 (by decide) (by decide)]; exact h.ck
  · rw [e0 8 (by decide) (by decide), e0 7 (by decide) (by decide)]; exact h.np
  · rw [e0 9 (by decide) (by decide)]; exact h.la
  · rw [e0 j (by omega) (by omega), e0 7 (by decide) (by decide)]; exact h.ct j h0 h1
  · rw [e0 4 (by decide) (by decide)] at h1
    rw [fk 1 i (by decide), fk 2 i (by decide), fk 3 i (by decide)]; exact h.dog i h0 h1
  · rw [e6] at h1
    rw [f6, fz 7 i (by decide), fz 8 i (by decide), e0 3 (by decide) (by decide)]
    by_cases e : A 0 6 ≤ i ∧ i < A 0 6 + (n + 3) / 4
    · rw [if_pos e, if_pos e, if_pos e]; omega
    · rw [if_neg e, if_neg e, if_neg e]; exact h.frm i h0 (by omega)
  · rw [e5] at h1
    rw [f4, f5, e6]
    by_cases e : m = A 0 5
    · rw [if_pos e, if_pos e]
      refine ⟨hn, by omega, by omega, fun j g0 g1 => ?_⟩
      rw [f6, if_pos (by omega)]
      congr 2; omega
    · rw [if_neg e, if_neg e]
      have g := h.msg m h0 (by omega)
      refine ⟨g.1, g.2.1, by omega, fun j g0 g1 => ?_⟩
      rw [f6, if_neg (by omega)]
      exact g.2.2.2 j g0 g1
  · unfold addA
    exact frs_b (fun i => by rw [msgW_k (by decide)]; exact h.byt i) hB _ (by omega)
