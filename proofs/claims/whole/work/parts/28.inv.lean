/-! ===== what holds of the abstract state; of the class's line ===== -/
def AINV (A : AV) (c : Int) : Prop :=
  (1 ≤ A 0 0 ∧ A 0 0 ≤ 9) ∧ (-99 ≤ A 0 1 ∧ A 0 1 ≤ 99) ∧ (1 ≤ A 0 2 ∧ A 0 2 ≤ 99) ∧ (1 ≤ A 0 3 ∧ A 0 3 ≤ 9) ∧ (0 ≤ A 0 4 ∧ A 0 4 ≤ 3) ∧ (0 ≤ A 0 5 ∧ A 0 5 ≤ 12) ∧ (0 ≤ A 0 6 ∧ A 0 6 ≤ 4 * A 0 5) ∧ (0 ≤ A 0 7 ∧ A 0 7 ≤ c) ∧ (0 ≤ A 0 8 ∧ A 0 8 ≤ c + 25344) ∧ (0 ≤ A 0 9 ∧ A 0 9 ≤ 16) ∧
  (∀ j : Int, 10 ≤ j → j ≤ 17 → 0 ≤ A 0 j ∧ A 0 j ≤ A 0 7) ∧
  (∀ i : Int, 0 ≤ i → i < A 0 4 → (2 ≤ A 1 i ∧ A 1 i ≤ 999) ∧ (1 ≤ A 2 i ∧ A 2 i < A 1 i) ∧ (0 ≤ A 3 i ∧ A 3 i ≤ 999)) ∧
  (∀ f : Int, 0 ≤ f → f < A 0 6 → (3 ≤ A 6 f ∧ A 6 f ≤ 6) ∧ (0 ≤ A 7 f ∧ A 7 f ≤ 2) ∧ (0 ≤ A 8 f ∧ A 8 f ≤ 9) ∧ (A 7 f = 0 → A 8 f < A 0 3)) ∧
  (∀ m : Int, 0 ≤ m → m < A 0 5 → (1 ≤ A 4 m ∧ A 4 m ≤ 16) ∧ 0 ≤ A 5 m ∧ A 5 m + (A 4 m + 3) / 4 ≤ A 0 6 ∧ ∀ j : Int, 0 ≤ j → j < (A 4 m + 3) / 4 → A 6 (A 5 m + j) = min 4 (A 4 m - 4 * j) + 2) ∧
  (∀ i : Int, 0 ≤ A 10 i ∧ A 10 i ≤ 255)
/-- what the view doesn't show -/
def CX (I : Nat → Int → Int) (p : Nat) : Prop :=
  (∀ i : Int, 0 ≤ i → i < 288 → (0 ≤ I (p + 12) i ∧ I (p + 12) i ≤ 255) ∧ (0 ≤ I (p + 13) i ∧ I (p + 13) i ≤ 255)) ∧
  (∀ f : Int, 0 ≤ f → f < I (p + 7) 0 → 0 ≤ I (p + 11) f ∧ I (p + 11) f ≤ I (p + 10) f) ∧
  I (p + 14) 6 = (I (p + 14) 5 + 8 * I (p + 14) 0) * I p 0
def CINV (I : Nat → Int → Int) (p : Nat) (c : Int) : Prop := AINV (Vc I p) c ∧ CX I p
section CI
variable {I : Nat → Int → Int} {p : Nat} {c : Int}
theorem CINV.sc (h : CINV I p c) : (1 ≤ I p 0 ∧ I p 0 ≤ 9) ∧ (-99 ≤ I p 1 ∧ I p 1 ≤ 99) ∧ (1 ≤ I p 2 ∧ I p 2 ≤ 99) ∧ (1 ≤ I p 3 ∧ I p 3 ≤ 9) ∧ (0 ≤ I (p + 3) 0 ∧ I (p + 3) 0 ≤ 3) ∧ (0 ≤ I p 7 ∧ I p 7 ≤ 12) ∧ (0 ≤ I (p + 7) 0 ∧ I (p + 7) 0 ≤ 4 * I p 7) ∧ (0 ≤ I p 4 ∧ I p 4 ≤ c) ∧ (0 ≤ I p 5 ∧ I p 5 ≤ c + 25344) ∧ (-1 ≤ I p 6 ∧ I p 6 ≤ 15) := by
  obtain ⟨h0, h1, h2, h3, h4, h5, h6, h7, h8, h9, -⟩ := h.1
  rw [vr0] at h0; rw [vr1] at h1; rw [vr2] at h2; rw [vr3] at h3; rw [vr4] at h4; rw [vr5] at h5; rw [vr6, vr5] at h6; rw [vr7] at h7; rw [vr8] at h8; rw [vr9] at h9
  exact ⟨h0, h1, h2, h3, h4, h5, h6, h7, h8, by omega, by omega⟩
theorem CINV.ct (h : CINV I p c) : (∀ j : Int, j = 0 ∨ j = 1 ∨ j = 2 ∨ j = 3 ∨ j = 4 ∨ j = 5 ∨ j = 7 ∨ j = 8 → 0 ≤ I (p + 14) j ∧ I (p + 14) j ≤ I p 4) := by
  have g := h.1.2.2.2.2.2.2.2.2.2.2.1
  rw [vr7] at g
  intro j hj
  rcases hj with rfl | rfl | rfl | rfl | rfl | rfl | rfl | rfl
  · have := g 10 (by decide) (by decide); rw [vr10] at this; exact this
  · have := g 11 (by decide) (by decide); rw [vr11] at this; exact this
  · have := g 12 (by decide) (by decide); rw [vr12] at this; exact this
  · have := g 13 (by decide) (by decide); rw [vr13] at this; exact this
  · have := g 14 (by decide) (by decide); rw [vr14] at this; exact this
  · have := g 16 (by decide) (by decide); rw [vr16] at this; exact this
  · have := g 15 (by decide) (by decide); rw [vr15] at this; exact this
  · have := g 17 (by decide) (by decide); rw [vr17] at this; exact this
theorem CINV.dogs (h : CINV I p c) : DogsOK I p := by
  refine ⟨h.sc.2.2.2.2.1, fun i h0 h1 => ?_⟩
  have g := h.1.2.2.2.2.2.2.2.2.2.2.2.1 i h0 (by rw [vr4]; exact h1)
  rw [vc1, vc2, vc3, ent_in h0 h1, ent_in h0 h1, ent_in h0 h1] at g
  exact g
theorem CINV.fr (h : CINV I p c) {f : Int} (h0 : 0 ≤ f) (h1 : f < I (p + 7) 0) : (3 ≤ I (p + 8) f ∧ I (p + 8) f ≤ 6) ∧ (0 ≤ I (p + 9) f ∧ I (p + 9) f ≤ 2) ∧ (0 ≤ I (p + 10) f ∧ I (p + 10) f ≤ 9) ∧ (I (p + 9) f = 0 → I (p + 10) f < I p 3) := by
  have g := h.1.2.2.2.2.2.2.2.2.2.2.2.2.1 f h0 (by rw [vr6]; exact h1)
  rw [vc6, vc7, vc8, ent_in h0 h1, ent_in h0 h1, ent_in h0 h1, vr3] at g
  exact g
theorem CINV.frames (h : CINV I p c) : FramesOK I p := by
  have hs := h.sc
  refine ⟨by omega, fun f h0 h1 => ?_, h.2.1⟩
  have g := h.fr h0 h1
  have g2 := h.2.2.1 f h0 h1
  exact ⟨g.1, g.2.1, g.2.2.1, by omega⟩
theorem CINV.ms (h : CINV I p c) {m : Int} (h0 : 0 ≤ m) (h1 : m < I p 7) : (1 ≤ I (p + 1) m ∧ I (p + 1) m ≤ 16) ∧ 0 ≤ I (p + 2) m ∧ I (p + 2) m + (I (p + 1) m + 3) / 4 ≤ I (p + 7) 0 ∧ ∀ j : Int, 0 ≤ j → j < (I (p + 1) m + 3) / 4 → I (p + 8) (I (p + 2) m + j) = min 4 (I (p + 1) m - 4 * j) + 2 := by
  have g := h.1.2.2.2.2.2.2.2.2.2.2.2.2.2.1 m h0 (by rw [vr5]; exact h1)
  rw [vc4, vc5, vc6, ent_in h0 h1, ent_in h0 h1, vr6] at g
  refine ⟨g.1, g.2.1, g.2.2.1, fun j hj hj2 => ?_⟩
  have := g.2.2.2 j hj hj2
  rw [ent_in (by omega) (by omega)] at this
  exact this
/-- the abstract result is the class's -/
theorem chew_vc (h : CINV I p c) (t : Int) : chewA (Vc I p) t = chew I p t := by
  unfold chewA chew
  rw [vr4]
  exact chewD_congr (fun i h0 h1 => ⟨ent_in h0 h1, ent_in h0 h1, ent_in h0 h1⟩) t
theorem bitZ_congr {S T : Int → Int} {n b : Int} (h : ∀ k, 0 ≤ k → k < n → S k = T k) (h0 : 0 ≤ b) (h1 : b < 8 * n) : bitZ S b = bitZ T b := by
  unfold bitZ
  rw [h (b / 8) (by omega) (by omega)]
theorem takZ_congr {cb cb2 : Int → Int} {n dr : Int} (h : ∀ b, 0 ≤ b → b < n → cb b = cb2 b) (h2 : -99 ≤ dr) (h3 : dr ≤ 99) {b : Int} (h0 : 0 ≤ b) (h1 : b ≤ 1000) : takZ cb n dr b = takZ cb2 n dr b := by
  have := tkI_r h0 h1 h2 h3
  unfold takZ
  split
  · exact h _ this.1 (by assumption)
  · rfl
theorem byteN_congr {t u : Int → Int} {k : Int} : ∀ n : Nat, (∀ i : Int, 0 ≤ i → i < n → t (8 * k + i) = u (8 * k + i)) → byteN t k n = byteN u k n
  | 0, _ => rfl
  | n + 1, h => by
    show 2 * byteN t k n + t (8 * k + n) = 2 * byteN u k n + u (8 * k + n)
    rw [byteN_congr n (fun i h0 h1 => h i h0 (by omega)), h n (by omega) (by omega)]
/-- bytes taken of equal frames -/
theorem got_congr {S T : Int → Int} {ch ch2 : Int → Bool} {n dr k : Int} (hS : ∀ k, 0 ≤ k → k < n → S k = T k) (hc : ∀ b, ch b = ch2 b) (hn : n ≤ 6) (h2 : -99 ≤ dr) (h3 : dr ≤ 99) (hk : 0 ≤ k) (hk2 : k ≤ 6) : byteZ (takZ (cabZ S ch) (8 * n) dr) k = byteZ (takZ (cabZ T ch2) (8 * n) dr) k := by
  unfold byteZ
  refine byteN_congr 8 fun i h0 h1 => takZ_congr (fun b hb hb2 => ?_) h2 h3 (by omega) (by omega)
  unfold cabZ
  rw [hc b, bitZ_congr hS hb hb2]
theorem res_congr {S T : Int → Int} {ch ch2 : Int → Bool} {n : Nat} {dr : Int} (hS : ∀ k, 0 ≤ k → k < n → S k = T k) (hc : ∀ b, ch b = ch2 b) (hn0 : 1 ≤ n) (hn : n ≤ 6) (h2 : -99 ≤ dr) (h3 : dr ≤ 99) : resZ S n ch dr = resZ T n ch2 dr := by
  unfold resZ
  rw [readZ_congr hn0 (fun i h0 h1 => got_congr (n := n) hS hc (by omega) h2 h3 h0 (by omega)), show ch = ch2 from funext hc]
theorem res_vc (h : CINV I p c) {f t bt : Int} (h0 : 0 ≤ f) (h1 : f < I (p + 7) 0) : resA (Vc I p) f t bt = resF I p f t bt (I p 1) ∧ ∀ k, 0 ≤ k → k < I (p + 8) f → takA (Vc I p) f t bt k = byteZ (takZ (cabF I p f t bt) (I (p + 8) f * 8) (I p 1)) k := by
  have hf := (h.fr h0 h1).1
  have hs := h.sc
  have hS : ∀ k, 0 ≤ k → k < I (p + 8) f → SfA (Vc I p) f k = Sf I p f k := fun k hk hk2 => by
    unfold SfA Sf
    rw [vc10, entB_pos (by omega) (by omega) (by rw [show (6 * f + k) / 6 = f from by omega]; omega)]
    congr 1
    omega
  have hc : ∀ b, chA (Vc I p) t bt b = chF I p t bt b := fun b => chew_vc h _
  unfold resA resF takA cabF
  rw [(vrow h0 h1).1, vr1]
  refine ⟨res_congr (fun k hk hk2 => hS k hk (by omega)) hc (by omega) (by omega) hs.2.1.1 hs.2.1.2, fun k hk hk2 => ?_⟩
  rw [show I (p + 8) f * 8 = 8 * I (p + 8) f from by omega]
  exact got_congr hS hc (by omega) hs.2.1.1 hs.2.1.2 hk (by omega)
end CI
