/-! ===== what holds of the abstract state; of the class's line ===== -/
/-- .. but for frame e, whose attempts are just counted -/
def AI (A : AV) (c e : Int) : Prop :=
  (1 ≤ A 0 0 ∧ A 0 0 ≤ 9) ∧
  (-99 ≤ A 0 1 ∧ A 0 1 ≤ 99) ∧
  (1 ≤ A 0 2 ∧ A 0 2 ≤ 99) ∧
  (1 ≤ A 0 3 ∧ A 0 3 ≤ 9) ∧
  (0 ≤ A 0 4 ∧ A 0 4 ≤ 3) ∧
  (0 ≤ A 0 5 ∧ A 0 5 ≤ 12) ∧
  (0 ≤ A 0 6 ∧ A 0 6 ≤ 4 * A 0 5) ∧
  (0 ≤ A 0 7 ∧ A 0 7 ≤ c) ∧
  (0 ≤ A 0 8 ∧ A 0 8 ≤ A 0 7 + 25344) ∧
  (0 ≤ A 0 9 ∧ A 0 9 ≤ 16) ∧
  (∀ j : Int, 10 ≤ j → j ≤ 17 → 0 ≤ A 0 j ∧ A 0 j ≤ A 0 7) ∧
  (∀ i : Int, 0 ≤ i → i < A 0 4 → (2 ≤ A 1 i ∧ A 1 i ≤ 999) ∧ (1 ≤ A 2 i ∧ A 2 i < A 1 i) ∧ (0 ≤ A 3 i ∧ A 3 i ≤ 999)) ∧
  (∀ f : Int, 0 ≤ f → f < A 0 6 → (3 ≤ A 6 f ∧ A 6 f ≤ 6) ∧ (0 ≤ A 7 f ∧ A 7 f ≤ 2) ∧ (0 ≤ A 8 f ∧ A 8 f ≤ 9) ∧ (f ≠ e → A 7 f = 0 → A 8 f < A 0 3)) ∧
  (∀ m : Int, 0 ≤ m → m < A 0 5 → (1 ≤ A 4 m ∧ A 4 m ≤ 16) ∧ 0 ≤ A 5 m ∧ A 5 m + (A 4 m + 3) / 4 ≤ A 0 6 ∧ ∀ j : Int, 0 ≤ j → j < (A 4 m + 3) / 4 → A 6 (A 5 m + j) = min 4 (A 4 m - 4 * j) + 2) ∧
  (∀ i : Int, 0 ≤ A 10 i ∧ A 10 i ≤ 255)
theorem AI.b {A : AV} {c e : Int} (h : AI A c e) : 1 ≤ A 0 0 ∧ A 0 0 ≤ 9 := h.1
theorem AI.dr {A : AV} {c e : Int} (h : AI A c e) : -99 ≤ A 0 1 ∧ A 0 1 ≤ 99 := h.2.1
theorem AI.ba {A : AV} {c e : Int} (h : AI A c e) : 1 ≤ A 0 2 ∧ A 0 2 ≤ 99 := h.2.2.1
theorem AI.li {A : AV} {c e : Int} (h : AI A c e) : 1 ≤ A 0 3 ∧ A 0 3 ≤ 9 := h.2.2.2.1
theorem AI.dg {A : AV} {c e : Int} (h : AI A c e) : 0 ≤ A 0 4 ∧ A 0 4 ≤ 3 := h.2.2.2.2.1
theorem AI.ms {A : AV} {c e : Int} (h : AI A c e) : 0 ≤ A 0 5 ∧ A 0 5 ≤ 12 := h.2.2.2.2.2.1
theorem AI.fr {A : AV} {c e : Int} (h : AI A c e) : 0 ≤ A 0 6 ∧ A 0 6 ≤ 4 * A 0 5 := h.2.2.2.2.2.2.1
theorem AI.ck {A : AV} {c e : Int} (h : AI A c e) : 0 ≤ A 0 7 ∧ A 0 7 ≤ c := h.2.2.2.2.2.2.2.1
theorem AI.np {A : AV} {c e : Int} (h : AI A c e) : 0 ≤ A 0 8 ∧ A 0 8 ≤ A 0 7 + 25344 := h.2.2.2.2.2.2.2.2.1
theorem AI.la {A : AV} {c e : Int} (h : AI A c e) : 0 ≤ A 0 9 ∧ A 0 9 ≤ 16 := h.2.2.2.2.2.2.2.2.2.1
theorem AI.ct {A : AV} {c e : Int} (h : AI A c e) : ∀ j : Int, 10 ≤ j → j ≤ 17 → 0 ≤ A 0 j ∧ A 0 j ≤ A 0 7 := h.2.2.2.2.2.2.2.2.2.2.1
theorem AI.dog {A : AV} {c e : Int} (h : AI A c e) : ∀ i : Int, 0 ≤ i → i < A 0 4 → (2 ≤ A 1 i ∧ A 1 i ≤ 999) ∧ (1 ≤ A 2 i ∧ A 2 i < A 1 i) ∧ (0 ≤ A 3 i ∧ A 3 i ≤ 999) := h.2.2.2.2.2.2.2.2.2.2.2.1
theorem AI.frm {A : AV} {c e : Int} (h : AI A c e) : ∀ f : Int, 0 ≤ f → f < A 0 6 → (3 ≤ A 6 f ∧ A 6 f ≤ 6) ∧ (0 ≤ A 7 f ∧ A 7 f ≤ 2) ∧ (0 ≤ A 8 f ∧ A 8 f ≤ 9) ∧ (f ≠ e → A 7 f = 0 → A 8 f < A 0 3) := h.2.2.2.2.2.2.2.2.2.2.2.2.1
theorem AI.msg {A : AV} {c e : Int} (h : AI A c e) : ∀ m : Int, 0 ≤ m → m < A 0 5 → (1 ≤ A 4 m ∧ A 4 m ≤ 16) ∧ 0 ≤ A 5 m ∧ A 5 m + (A 4 m + 3) / 4 ≤ A 0 6 ∧ ∀ j : Int, 0 ≤ j → j < (A 4 m + 3) / 4 → A 6 (A 5 m + j) = min 4 (A 4 m - 4 * j) + 2 := h.2.2.2.2.2.2.2.2.2.2.2.2.2.1
theorem AI.byt {A : AV} {c e : Int} (h : AI A c e) : ∀ i : Int, 0 ≤ A 10 i ∧ A 10 i ≤ 255 := h.2.2.2.2.2.2.2.2.2.2.2.2.2.2
theorem AI.mk {A : AV} {c e : Int} (h_b : 1 ≤ A 0 0 ∧ A 0 0 ≤ 9) (h_dr : -99 ≤ A 0 1 ∧ A 0 1 ≤ 99) (h_ba : 1 ≤ A 0 2 ∧ A 0 2 ≤ 99) (h_li : 1 ≤ A 0 3 ∧ A 0 3 ≤ 9) (h_dg : 0 ≤ A 0 4 ∧ A 0 4 ≤ 3) (h_ms : 0 ≤ A 0 5 ∧ A 0 5 ≤ 12) (h_fr : 0 ≤ A 0 6 ∧ A 0 6 ≤ 4 * A 0 5) (h_ck : 0 ≤ A 0 7 ∧ A 0 7 ≤ c) (h_np : 0 ≤ A 0 8 ∧ A 0 8 ≤ A 0 7 + 25344) (h_la : 0 ≤ A 0 9 ∧ A 0 9 ≤ 16) (h_ct : ∀ j : Int, 10 ≤ j → j ≤ 17 → 0 ≤ A 0 j ∧ A 0 j ≤ A 0 7) (h_dog : ∀ i : Int, 0 ≤ i → i < A 0 4 → (2 ≤ A 1 i ∧ A 1 i ≤ 999) ∧ (1 ≤ A 2 i ∧ A 2 i < A 1 i) ∧ (0 ≤ A 3 i ∧ A 3 i ≤ 999)) (h_frm : ∀ f : Int, 0 ≤ f → f < A 0 6 → (3 ≤ A 6 f ∧ A 6 f ≤ 6) ∧ (0 ≤ A 7 f ∧ A 7 f ≤ 2) ∧ (0 ≤ A 8 f ∧ A 8 f ≤ 9) ∧ (f ≠ e → A 7 f = 0 → A 8 f < A 0 3)) (h_msg : ∀ m : Int, 0 ≤ m → m < A 0 5 → (1 ≤ A 4 m ∧ A 4 m ≤ 16) ∧ 0 ≤ A 5 m ∧ A 5 m + (A 4 m + 3) / 4 ≤ A 0 6 ∧ ∀ j : Int, 0 ≤ j → j < (A 4 m + 3) / 4 → A 6 (A 5 m + j) = min 4 (A 4 m - 4 * j) + 2) (h_byt : ∀ i : Int, 0 ≤ A 10 i ∧ A 10 i ≤ 255) : AI A c e := ⟨h_b, h_dr, h_ba, h_li, h_dg, h_ms, h_fr, h_ck, h_np, h_la, h_ct, h_dog, h_frm, h_msg, h_byt⟩
abbrev AINV (A : AV) (c : Int) : Prop := AI A c (-1)
/-- what the view doesn't show -/
def CX (I : Nat → Int → Int) (p : Nat) : Prop :=
  (∀ i : Int, 0 ≤ i → i < 288 → (0 ≤ I (p + 12) i ∧ I (p + 12) i ≤ 255) ∧ (0 ≤ I (p + 13) i ∧ I (p + 13) i ≤ 255)) ∧
  (∀ f : Int, 0 ≤ f → f < I (p + 7) 0 → 0 ≤ I (p + 11) f ∧ I (p + 11) f ≤ I (p + 10) f) ∧
  I (p + 14) 6 = (I (p + 14) 5 + 8 * I (p + 14) 0) * I p 0
def CINV (I : Nat → Int → Int) (p : Nat) (c : Int) : Prop := AINV (Vc I p) c ∧ CX I p
section CI
variable {I : Nat → Int → Int} {p : Nat} {c : Int}
theorem CINV.sc (h : CINV I p c) : (1 ≤ I p 0 ∧ I p 0 ≤ 9) ∧ (-99 ≤ I p 1 ∧ I p 1 ≤ 99) ∧ (1 ≤ I p 2 ∧ I p 2 ≤ 99) ∧ (1 ≤ I p 3 ∧ I p 3 ≤ 9) ∧ (0 ≤ I (p + 3) 0 ∧ I (p + 3) 0 ≤ 3) ∧ (0 ≤ I p 7 ∧ I p 7 ≤ 12) ∧ (0 ≤ I (p + 7) 0 ∧ I (p + 7) 0 ≤ 4 * I p 7) ∧ (0 ≤ I p 4 ∧ I p 4 ≤ c) ∧ (0 ≤ I p 5 ∧ I p 5 ≤ I p 4 + 25344) ∧ (-1 ≤ I p 6 ∧ I p 6 ≤ 15) := by
  have h0 := h.1.b; have h1 := h.1.dr; have h2 := h.1.ba; have h3 := h.1.li; have h4 := h.1.dg; have h5 := h.1.ms; have h6 := h.1.fr; have h7 := h.1.ck; have h8 := h.1.np; have h9 := h.1.la
  rw [vr0] at h0; rw [vr1] at h1; rw [vr2] at h2; rw [vr3] at h3; rw [vr4] at h4; rw [vr5] at h5; rw [vr6, vr5] at h6; rw [vr7] at h7; rw [vr8, vr7] at h8; rw [vr9] at h9
  exact ⟨h0, h1, h2, h3, h4, h5, h6, h7, h8, by omega, by omega⟩
theorem CINV.ct (h : CINV I p c) : (∀ j : Int, j = 0 ∨ j = 1 ∨ j = 2 ∨ j = 3 ∨ j = 4 ∨ j = 5 ∨ j = 7 ∨ j = 8 → 0 ≤ I (p + 14) j ∧ I (p + 14) j ≤ I p 4) := by
  have g := h.1.ct
  rw [vr7] at g
  intro j hj
  rcases hj with rfl | rfl | rfl | rfl | rfl | rfl | rfl | rfl
  · have := g 10 (by decide) (by decide); rw [vr10] at this; exact this
  · have := g 11 (by decide) (by decide); rw [vr11] at this; exact this
  · have := g 12 (by decide) (by decide); rw [vr12] at this; exact this
  · have := g 13 (by decide) (by decide); rw [vr13] at this; exact this
  · have := g 14 (by decide) (by decide); rw [vr14] at this; exact this
  · have := g 16 (by decide) (by decide); rw [vr16] at this; exact this
  · have := g 15 (by decide) (by decide); rw [vr15] at this; exact this
  · have := g 17 (by decide) (by decide); rw [vr17] at this; exact this
theorem CINV.dogs (h : CINV I p c) : DogsOK I p := by
  refine ⟨h.sc.2.2.2.2.1, fun i h0 h1 => ?_⟩
  have g := h.1.dog i h0 (by rw [vr4]; exact h1)
  rw [vc1, vc2, vc3, ent_in h0 h1, ent_in h0 h1, ent_in h0 h1] at g
  exact g
theorem CINV.fr (h : CINV I p c) {f : Int} (h0 : 0 ≤ f) (h1 : f < I (p + 7) 0) : (3 ≤ I (p + 8) f ∧ I (p + 8) f ≤ 6) ∧ (0 ≤ I (p + 9) f ∧ I (p + 9) f ≤ 2) ∧ (0 ≤ I (p + 10) f ∧ I (p + 10) f ≤ 9) ∧ (I (p + 9) f = 0 → I (p + 10) f < I p 3) := by
  have g := h.1.frm f h0 (by rw [vr6]; exact h1)
  rw [vc6, vc7, vc8, ent_in h0 h1, ent_in h0 h1, ent_in h0 h1, vr3] at g
  exact ⟨g.1, g.2.1, g.2.2.1, g.2.2.2 (by omega)⟩
theorem CINV.frames (h : CINV I p c) : FramesOK I p := by
  have hs := h.sc
  refine ⟨by omega, fun f h0 h1 => ?_, h.2.1⟩
  have g := h.fr h0 h1
  have g2 := h.2.2.1 f h0 h1
  exact ⟨g.1, g.2.1, g.2.2.1, by omega⟩
theorem CINV.ms (h : CINV I p c) {m : Int} (h0 : 0 ≤ m) (h1 : m < I p 7) : (1 ≤ I (p + 1) m ∧ I (p + 1) m ≤ 16) ∧ 0 ≤ I (p + 2) m ∧ I (p + 2) m + (I (p + 1) m + 3) / 4 ≤ I (p + 7) 0 ∧ ∀ j : Int, 0 ≤ j → j < (I (p + 1) m + 3) / 4 → I (p + 8) (I (p + 2) m + j) = min 4 (I (p + 1) m - 4 * j) + 2 := by
  have g := h.1.msg m h0 (by rw [vr5]; exact h1)
  rw [vc4, vc5, vc6, ent_in h0 h1, ent_in h0 h1, vr6] at g
  refine ⟨g.1, g.2.1, g.2.2.1, fun j hj hj2 => ?_⟩
  have := g.2.2.2 j hj hj2
  rw [ent_in (by omega) (by omega)] at this
  exact this
/-- the abstract result is the class's -/
theorem chew_vc (h : CINV I p c) (t : Int) : chewA (Vc I p) t = chew I p t := by
  unfold chewA chew
  rw [vr4]
  exact chewD_congr (fun i h0 h1 => ⟨ent_in h0 h1, ent_in h0 h1, ent_in h0 h1⟩) t
theorem bitZ_congr {S T : Int → Int} {n b : Int} (h : ∀ k, 0 ≤ k → k < n → S k = T k) (h0 : 0 ≤ b) (h1 : b < 8 * n) : bitZ S b = bitZ T b := by
  unfold bitZ
  rw [h (b / 8) (by omega) (by omega)]
theorem takZ_congr {cb cb2 : Int → Int} {n dr : Int} (h : ∀ b, 0 ≤ b → b < n → cb b = cb2 b) (h2 : -99 ≤ dr) (h3 : dr ≤ 99) {b : Int} (h0 : 0 ≤ b) (h1 : b ≤ 1000) : takZ cb n dr b = takZ cb2 n dr b := by
  have := tkI_r h0 h1 h2 h3
  unfold takZ
  split
  · exact h _ this.1 (by assumption)
  · rfl
theorem byteN_congr {t u : Int → Int} {k : Int} : ∀ n : Nat, (∀ i : Int, 0 ≤ i → i < n → t (8 * k + i) = u (8 * k + i)) → byteN t k n = byteN u k n
  | 0, _ => rfl
  | n + 1, h => by
    show 2 * byteN t k n + t (8 * k + n) = 2 * byteN u k n + u (8 * k + n)
    rw [byteN_congr n (fun i h0 h1 => h i h0 (by omega)), h n (by omega) (by omega)]
/-- bytes taken of equal frames -/
theorem got_congr {S T : Int → Int} {ch ch2 : Int → Bool} {n dr k : Int} (hS : ∀ k, 0 ≤ k → k < n → S k = T k) (hc : ∀ b, ch b = ch2 b) (hn : n ≤ 6) (h2 : -99 ≤ dr) (h3 : dr ≤ 99) (hk : 0 ≤ k) (hk2 : k ≤ 6) : byteZ (takZ (cabZ S ch) (8 * n) dr) k = byteZ (takZ (cabZ T ch2) (8 * n) dr) k := by
  unfold byteZ
  refine byteN_congr 8 fun i h0 h1 => takZ_congr (fun b hb hb2 => ?_) h2 h3 (by omega) (by omega)
  unfold cabZ
  rw [hc b, bitZ_congr hS hb hb2]
theorem res_congr {S T : Int → Int} {ch ch2 : Int → Bool} {n : Nat} {dr : Int} (hS : ∀ k : Int, 0 ≤ k → k < (n : Int) → S k = T k) (hc : ∀ b, ch b = ch2 b) (hn0 : 1 ≤ n) (hn : n ≤ 6) (h2 : -99 ≤ dr) (h3 : dr ≤ 99) : resZ S n ch dr = resZ T n ch2 dr := by
  unfold resZ
  rw [readZ_congr hn0 (fun i h0 h1 => got_congr (n := n) hS hc (by omega) h2 h3 h0 (by omega)), show ch = ch2 from funext hc]
theorem res_vc (h : CINV I p c) {f t bt : Int} (h0 : 0 ≤ f) (h1 : f < I (p + 7) 0) : resA (Vc I p) f t bt = resF I p f t bt (I p 1) ∧ ∀ k, 0 ≤ k → k < I (p + 8) f → takA (Vc I p) f t bt k = byteZ (takZ (cabF I p f t bt) (I (p + 8) f * 8) (I p 1)) k := by
  have hf := (h.fr h0 h1).1
  have hs := h.sc
  have hS : ∀ k, 0 ≤ k → k < I (p + 8) f → SfA (Vc I p) f k = Sf I p f k := fun k hk hk2 => by
    unfold SfA Sf
    rw [vc10, entB_pos (by omega) (by omega) (by rw [show (6 * f + k) / 6 = f from by omega]; omega)]
    congr 1
    omega
  have hc : ∀ b, chA (Vc I p) t bt b = chF I p t bt b := fun b => chew_vc h _
  unfold resA resF takA cabF
  rw [(vrow h0 h1).1, vr1]
  refine ⟨res_congr (fun k hk hk2 => hS k hk (by omega)) hc (by omega) (by omega) hs.2.1.1 hs.2.1.2, fun k hk hk2 => ?_⟩
  rw [show I (p + 8) f * 8 = 8 * I (p + 8) f from by omega]
  exact got_congr hS hc (by omega) hs.2.1.1 hs.2.1.2 hk (by omega)
end CI
/-! the parts of an attempt keep it -/
theorem AI.mono {A : AV} {c d e : Int} (h : AI A c e) (hd : A 0 7 ≤ d) : AI A d e := AI.mk h.b h.dr h.ba h.li h.dg h.ms h.fr ⟨h.ck.1, hd⟩ h.np h.la h.ct h.dog h.frm h.msg h.byt
theorem up2_00 {A : AV} {j z i : Int} : up2 A 0 j z 0 i = if i = j then z else A 0 i := by
  unfold up2
  by_cases h : i = j
  · rw [if_pos ⟨rfl, h⟩, if_pos h]
  · rw [if_neg (fun z => h z.2), if_neg h]
theorem up2_0k {A : AV} {j z i : Int} {k : Nat} (hk : k ≠ 0) : up2 A 0 j z k i = A k i := up2_p hk
theorem AI.nap {A : AV} {c e : Int} (h : AI A c e) : AI (napA A) (c + 25344) e := by
  have hc := h.ck; have hn := h.np
  unfold napA
  split
  · refine AI.mk ?_ ?_ ?_ ?_ ?_ ?_ ?_ ?_ ?_ ?_ ?_ ?_ ?_ ?_ ?_
    · exact h.b
    · exact h.dr
    · exact h.ba
    · exact h.li
    · exact h.dg
    · exact h.ms
    · exact h.fr
    · rw [up2_s]; omega
    · rw [up2_s, up2_i (by decide), up2_i (by decide)]; omega
    · exact h.la
    · intro j h0 h1
      have g := h.ct j h0 h1
      rw [up2_s, up2_i (by omega), up2_00]
      have g2 := h.ct 15 (by decide) (by decide)
      split <;> omega
    · exact h.dog
    · exact h.frm
    · exact h.msg
    · exact h.byt
  · exact h.mono (by omega)
theorem AI.cnt {A : AV} {c f : Int} (h : AINV A c) (h0 : 0 ≤ f) (h1 : f < A 0 6) (hq : A 7 f = 0) : AI (cntA A f) (c + 504) f := by
  have hc := h.ck; have hn := h.np; have hb := h.b
  have hf := h.frm f h0 h1
  have hlt := hf.2.2.2 (by omega) hq
  have hl := h.li
  have m1 : 8 ≤ (A 6 f * 8 + 8) * A 0 0 := by
    have : (A 6 f * 8 + 8) * 1 ≤ (A 6 f * 8 + 8) * A 0 0 := Int.mul_le_mul_of_nonneg_left hb.1 (by omega)
    omega
  have m3 : A 6 f * 8 + 8 ≤ (A 6 f * 8 + 8) * A 0 0 := by
    have : (A 6 f * 8 + 8) * 1 ≤ (A 6 f * 8 + 8) * A 0 0 := Int.mul_le_mul_of_nonneg_left hb.1 (by omega)
    omega
  have m2 : (A 6 f * 8 + 8) * A 0 0 ≤ 504 := by
    have : (A 6 f * 8 + 8) * A 0 0 ≤ 56 * 9 := Int.mul_le_mul (by omega) hb.2 (by omega) (by omega)
    omega
  unfold cntA
  refine AI.mk ?_ ?_ ?_ ?_ ?_ ?_ ?_ ?_ ?_ ?_ ?_ ?_ ?_ ?_ ?_
  · exact h.b
  · exact h.dr
  · exact h.ba
  · exact h.li
  · exact h.dg
  · exact h.ms
  · exact h.fr
  · rw [up2_s]; omega
  · rw [up2_s, up2_i (by decide), up2_i (by decide), up2_i (by decide), up2_p (by decide)]; omega
  · exact h.la
  · intro j g0 g1
    have g := h.ct j g0 g1
    rw [up2_s, up2_i (by omega), up2_00, up2_00, up2_p (by decide)]
    have g2 := h.ct 16 (by decide) (by decide)
    have g3 := h.ct 10 (by decide) (by decide)
    split
    · omega
    · split <;> omega
  · exact h.dog
  · intro g g0 g1
    have hg := h.frm g g0 g1
    rw [up2_0k (by decide), up2_0k (by decide), up2_0k (by decide), up2_p (by decide), up2_0k (by decide), up2_0k (by decide), up2_0k (by decide), up2_p (by decide), up2_0k (by decide), up2_0k (by decide), up2_0k (by decide)]
    refine ⟨hg.1, hg.2.1, ?_, fun e => ?_⟩
    · by_cases e : g = f
      · rw [up2_e rfl e]; omega
      · rw [up2_i e]; exact hg.2.2.1
    · rw [up2_i e]; exact hg.2.2.2 (by omega)
  · exact h.msg
  · exact h.byt
theorem wrB_r {A : AV} {f n : Int} {B : Int → Int} {k : Nat} {i : Int} (hk : k ≠ 11) : wrB A f n B k i = A k i := if_neg fun z => hk z.1
theorem AI.ct1 {A : AV} {c e : Int} (j z : Int) (h : AI A c e) (hj : 10 ≤ j ∧ j ≤ 17) (hz : 0 ≤ z) (hz2 : z ≤ A 0 7) : AI (up2 A 0 j z) c e := by
  have q : ∀ i, ¬ i = j → up2 A 0 j z 0 i = A 0 i := fun i hi => up2_i hi
  refine AI.mk ?_ ?_ ?_ ?_ ?_ ?_ ?_ ?_ ?_ ?_ ?_ ?_ ?_ ?_ ?_
  · rw [q 0 (by omega)]; exact h.b
  · rw [q 1 (by omega)]; exact h.dr
  · rw [q 2 (by omega)]; exact h.ba
  · rw [q 3 (by omega)]; exact h.li
  · rw [q 4 (by omega)]; exact h.dg
  · rw [q 5 (by omega)]; exact h.ms
  · rw [q 6 (by omega), q 5 (by omega)]; exact h.fr
  · rw [q 7 (by omega)]; exact h.ck
  · rw [q 8 (by omega), q 7 (by omega)]; exact h.np
  · rw [q 9 (by omega)]; exact h.la
  · intro i g0 g1
    have g := h.ct i g0 g1
    rw [q 7 (by omega), up2_00]
    split <;> omega
  · rw [q 4 (by omega)]; exact h.dog
  · rw [q 6 (by omega), q 3 (by omega)]; exact h.frm
  · rw [q 5 (by omega), q 6 (by omega)]; exact h.msg
  · exact h.byt
theorem AI.la1 {A : AV} {c e z : Int} (h : AI A c e) (hz : 0 ≤ z) (hz2 : z ≤ 16) : AI (up2 A 0 9 z) c e :=
  AI.mk h.b h.dr h.ba h.li h.dg h.ms h.fr h.ck h.np ⟨hz, hz2⟩ (fun j g0 g1 => by rw [up2_i (by omega), up2_i (by decide)]; exact h.ct j g0 g1) h.dog h.frm h.msg h.byt
theorem AI.wr {A : AV} {c e f n y z : Int} {B : Int → Int} (h : AI A c e) : AI (wrB (up2 A 9 y z) f n B) c e :=
  AI.mk h.b h.dr h.ba h.li h.dg h.ms h.fr h.ck h.np h.la (fun j g0 g1 => h.ct j g0 g1) h.dog h.frm h.msg h.byt
theorem AI.rec {A : AV} {c e f r : Int} {B : Int → Int} (h : AI A c e) (hj : ∀ j : Int, 11 ≤ j → j ≤ 14 → A 0 j < A 0 7) (hB : 0 ≤ B 0 ∧ B 0 ≤ 255) : AI (recA A f r B) c e := by
  unfold recA
  have q1 := hj 11 (by decide) (by decide); have q2 := hj 12 (by decide) (by decide); have q3 := hj 13 (by decide) (by decide); have q4 := hj 14 (by decide) (by decide)
  have p1 := h.ct 11 (by decide) (by decide); have p2 := h.ct 12 (by decide) (by decide); have p3 := h.ct 13 (by decide) (by decide); have p4 := h.ct 14 (by decide) (by decide)
  split
  · exact h.ct1 11 _ (by decide) (by omega) (by omega)
  · have hE : AI (up2 (if B 0 / 16 + 1 = A 0 9 then up2 A 0 12 (A 0 12 + 1) else wrB (up2 (up2 A 0 13 (A 0 13 + 1)) 9 f 1) f (A 6 f) B) 0 9 (B 0 / 16 + 1)) c e := by
      refine AI.la1 ?_ (by omega) (by omega)
      split
      · exact h.ct1 12 _ (by decide) (by omega) (by omega)
      · exact (h.ct1 13 _ (by decide) (by omega) (by omega)).wr
    dsimp only
    split
    · refine hE.ct1 14 _ (by decide) ?_ ?_
      · have := hE.ct 14 (by decide) (by decide); omega
      · rw [up2_i (by decide), up2_i (by decide)]
        split
        · rw [up2_i (by decide), up2_i (by decide)]; omega
        · have w : ∀ i : Int, wrB (up2 (up2 A 0 13 (A 0 13 + 1)) 9 f 1) f (A 6 f) B 0 i = up2 A 0 13 (A 0 13 + 1) 0 i := fun i => by rw [wrB_r (by decide), up2_p (by decide)]
          rw [w, w, up2_i (by decide), up2_i (by decide)]; omega
    · exact hE
theorem rec_0 {A : AV} {f r : Int} {B : Int → Int} {i : Int} (h1 : i < 9 ∨ 14 < i) : recA A f r B 0 i = A 0 i := by
  unfold recA
  split
  · exact up2_i (by omega)
  · dsimp only
    have hE : up2 (if B 0 / 16 + 1 = A 0 9 then up2 A 0 12 (A 0 12 + 1) else wrB (up2 (up2 A 0 13 (A 0 13 + 1)) 9 f 1) f (A 6 f) B) 0 9 (B 0 / 16 + 1) 0 i = A 0 i := by
      rw [up2_i (by omega)]
      split
      · exact up2_i (by omega)
      · rw [wrB_r (by decide), up2_p (by decide), up2_i (by omega)]
    split
    · rw [up2_i (by omega)]; exact hE
    · exact hE
theorem rec_k {A : AV} {f r : Int} {B : Int → Int} {k : Nat} {i : Int} (hk : k ≠ 0) (h9 : k ≠ 9) (h11 : k ≠ 11) : recA A f r B k i = A k i := by
  unfold recA
  split
  · exact up2_p hk
  · dsimp only
    have hE : up2 (if B 0 / 16 + 1 = A 0 9 then up2 A 0 12 (A 0 12 + 1) else wrB (up2 (up2 A 0 13 (A 0 13 + 1)) 9 f 1) f (A 6 f) B) 0 9 (B 0 / 16 + 1) k i = A k i := by
      rw [up2_p hk]
      split
      · exact up2_p hk
      · rw [wrB_r h11, up2_p h9, up2_p hk]
    split
    · rw [up2_p hk]; exact hE
    · exact hE
theorem rec_congr {A : AV} {f r : Int} {B C : Int → Int} (hs : 1 ≤ A 6 f) (h : r ≠ 1 → ∀ k : Int, 0 ≤ k → k < A 6 f → B k = C k) : recA A f r B = recA A f r C := by
  unfold recA
  split
  · rfl
  · rename_i hr
    have h := h hr
    have e : ∀ X : AV, wrB X f (A 6 f) B = wrB X f (A 6 f) C := fun X => by
      funext k i
      unfold wrB
      split
      · rename_i z; exact h _ (by omega) (by omega)
      · rfl
    rw [h 0 (by decide) (by omega), e]
theorem AI.set {A : AV} {c f r : Int} (h : AI A c f) (h0 : 0 ≤ f) (h1 : f < A 0 6) (ht : 1 ≤ A 8 f ∧ A 8 f ≤ A 0 3) : AINV (setA A f r) c := by
  have hl := h.li; have hb := h.ba; have hn := h.np; have hc := h.ck
  have st : ∀ z : Int, (z = 1 ∨ z = 2) → AINV (up2 A 7 f z) c := fun z hz =>
    AI.mk h.b h.dr h.ba h.li h.dg h.ms h.fr h.ck h.np h.la (fun j g0 g1 => h.ct j g0 g1) h.dog (fun g g0 g1 => by
      have hg := h.frm g g0 g1
      have r7 : ∀ (k : Nat) (i : Int), k ≠ 7 → up2 A 7 f z k i = A k i := fun k i hk => up2_p hk
      rw [r7 6 g (by decide), r7 8 g (by decide), r7 0 3 (by decide)]
      refine ⟨hg.1, ?_, hg.2.2.1, fun _ e => ?_⟩
      · by_cases e : g = f
        · rw [up2_e rfl e]; omega
        · rw [up2_i e]; exact hg.2.1
      · by_cases e2 : g = f
        · rw [up2_e rfl e2] at e; omega
        · rw [up2_i e2] at e; exact hg.2.2.2 e2 e) h.msg h.byt
  unfold setA
  split
  · exact st 1 (by decide)
  · split
    · exact st 2 (by decide)
    · have m : A 0 2 * 2 ^ (A 8 f - 1).toNat ≤ 99 * 256 := by
        have e : (2 : Int) ^ (A 8 f - 1).toNat ≤ 2 ^ 8 := by
          have : (2 : Nat) ^ (A 8 f - 1).toNat ≤ 2 ^ 8 := Nat.pow_le_pow_right (by decide) (by omega)
          have := Int.ofNat_le.mpr this
          rw [Int.natCast_pow, Int.natCast_pow] at this
          exact this
        rw [p28] at e
        exact Int.mul_le_mul hb.2 e (Int.le_of_lt (Int.pow_pos (by decide))) (by decide)
      have m0 : 0 ≤ A 0 2 * 2 ^ (A 8 f - 1).toNat := Int.mul_nonneg (by omega) (Int.le_of_lt (Int.pow_pos (by decide)))
      refine AI.mk h.b h.dr h.ba h.li h.dg h.ms h.fr h.ck ?_ h.la (fun j g0 g1 => ?_) h.dog (fun g g0 g1 => ?_) h.msg h.byt
      · rw [up2_s, up2_i (by decide)]; omega
      · rw [up2_i (by omega), up2_i (by decide)]; exact h.ct j g0 g1
      · have hg := h.frm g g0 g1
        rw [up2_p (by decide), up2_p (by decide), up2_p (by decide)]
        refine ⟨hg.1, hg.2.1, hg.2.2.1, fun _ e => ?_⟩
        rw [up2_i (by decide)]
        by_cases e2 : g = f
        · rw [e2]; omega
        · exact hg.2.2.2 e2 e
theorem res_r (S : Int → Int) (n : Nat) (ch : Int → Bool) (dr : Int) : 0 ≤ resZ S n ch dr ∧ resZ S n ch dr ≤ 2 := by
  unfold resZ
  split
  · split <;> decide
  · decide
theorem takA_b (A : AV) (f t bt k : Int) : 0 ≤ takA A f t bt k ∧ takA A f t bt k ≤ 255 := byteZ_b (takZ_r (cabZ_r _ _) _ _) k
/-- an attempt keeps it -/
theorem AI.att {A : AV} {c f : Int} (h : AINV A c) (h0 : 0 ≤ f) (h1 : f < A 0 6) (hq : A 7 f = 0) : AINV (attA A f) (c + 25848) := by
  have hn : AINV (napA A) (c + 25344) := h.nap
  have n6 : napA A 0 6 = A 0 6 := by unfold napA; split <;> rfl
  have n7 : napA A 7 f = A 7 f := by unfold napA; split <;> rfl
  have hf := hn.frm f h0 (by omega)
  have hk := hn.cnt h0 (by omega) (by omega)
  have hb := hn.b
  have m3 : A 6 f * 8 + 8 ≤ (A 6 f * 8 + 8) * 1 := by omega
  have c7 : napA A 0 7 + 8 ≤ cntA (napA A) f 0 7 := by
    unfold cntA
    rw [up2_s]
    have : (napA A 6 f * 8 + 8) * 1 ≤ (napA A 6 f * 8 + 8) * napA A 0 0 := Int.mul_le_mul_of_nonneg_left hb.1 (by omega)
    omega
  have c8 : cntA (napA A) f 8 f = napA A 8 f + 1 := by
    unfold cntA
    rw [up2_p (by decide), up2_p (by decide), up2_p (by decide), up2_s]
  have hlt := hf.2.2.2 (by omega) (by omega)
  have c6 : cntA (napA A) f 0 6 = A 0 6 := n6
  have c3 : cntA (napA A) f 0 3 = napA A 0 3 := rfl
  have hr := hk.rec (f := f) (r := resA (napA A) f (napA A 0 7) (napA A 0 0)) (B := takA (napA A) f (napA A 0 7) (napA A 0 0)) (fun j g0 g1 => by
    have g := hn.ct j (by omega) (by omega)
    have e : cntA (napA A) f 0 j = napA A 0 j := by
      unfold cntA
      rw [up2_i (by omega), up2_i (by omega), up2_i (by omega), up2_p (by decide)]
    omega) (takA_b _ _ _ _ _)
  have hs := hr.set (r := resA (napA A) f (napA A 0 7) (napA A 0 0)) h0 (by rw [rec_0 (by decide)]; omega) (by rw [rec_k (by decide) (by decide) (by decide), rec_0 (by decide)]; omega)
  unfold attA
  refine AI.mono hs ?_
  have := hs.ck.2
  omega
