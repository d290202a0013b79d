/-! ===== attempts until no frame is pending ===== -/
def pendA (A : AV) : Int := pendD (A 0 6) (A 7)
def mkS : Nat → AV → Int × AV
  | 0, A => (0, A)
  | m + 1, A => if pendA A = -1 then (0, A) else ((mkS m (attA A (pendA A))).1 + 1, (mkS m (attA A (pendA A))).2)
theorem pendA_r {A : AV} (h : pendA A ≠ -1) : 0 ≤ pendA A ∧ pendA A < A 0 6 ∧ A 7 (pendA A) = 0 := by
  rcases pendD_r (A 0 6) (A 7) with e | e
  · exact absurd e h
  · exact e
theorem mkS_none {m : Nat} {A : AV} (h : pendA A = -1) : mkS m A = (0, A) := by
  cases m with
  | zero => rfl
  | succ m => exact if_pos h
theorem mkS_r : ∀ (m : Nat) (A : AV), 0 ≤ (mkS m A).1 ∧ (mkS m A).1 ≤ m
  | 0, _ => ⟨Int.le_refl 0, Int.le_refl 0⟩
  | m + 1, A => by
    unfold mkS
    split
    · exact ⟨Int.le_refl 0, by omega⟩
    · have := mkS_r m (attA A (pendA A))
      dsimp only
      omega
theorem mkS_inv : ∀ (m : Nat) (A : AV) (c : Int), AINV A c → AINV (mkS m A).2 (c + 25848 * m)
  | 0, A, c, h => h.mono (by have := h.ck; show A 0 7 ≤ _; omega)
  | m + 1, A, c, h => by
    unfold mkS
    split
    · exact h.mono (by have := h.ck; omega)
    · rename_i hp
      have g := pendA_r hp
      have := mkS_inv m _ _ (h.att g.1 g.2.1 g.2.2)
      refine AI.mono this ?_
      have := this.ck
      dsimp only
      omega
theorem ex_mono {l : LX} {y k n pc : Nat} {L : LL} {st : List Value} {σ : MM} {Q Q' : OO → Prop} (h : Ex l y k n pc L st σ Q) (hq : ∀ o, Q o → Q' o) : Ex l y k n pc L st σ Q' :=
  fun G p e R s m args below meth c A CE SE Qf hA h1 h2 hF => h G p e R s m args below meth c A CE SE Qf hA h1 h2
    ⟨fun H locs cells slots pc ls v σ a b w f r q => hF.1 H locs cells slots pc ls v σ a b w f r (hq _ q),
     fun H locs cells slots pc ls rest σ E r a b c d e f g w x q => hF.2.1 H locs cells slots pc ls rest σ E r a b c d e f g w x (hq _ q),
     fun H locs cells slots pc ls rest σ E qq ce a b c w x q d e f => hF.2.2 H locs cells slots pc ls rest σ E qq ce a b c w x (hq _ q) d e f⟩
section Make
variable {l : LX} {q p : Nat} {I : Nat → Int → Int} {v : Int} {fr : Bool} {c : Int}
theorem pend_vc (h : CINV I p c) : pendA (Vc I p) = pendD (I (p + 7) 0) (I (p + 9)) := by
  unfold pendA
  rw [vr6]
  exact pendD_congr fun i h0 h1 => ent_in h0 h1
theorem dt_pend (hl : l.1.stackTraces = false) (hp : LineAt q p) (h : CINV I p c) : DT l 22 [.ref (p + 7)] (mm q I v fr) 0 0 (.inl (some (.int (iI (pendA (Vc I p))))), mm q I v fr) := by
  rw [pend_vc h]
  exact dt_firstQueued hl hp h.frames
theorem offL.trans {I J K : Nat → Int → Int} (h : offL p I J) (h2 : offL p J K) : offL p I K := fun a g0 g1 g2 g3 => by rw [h2 a g0 g1 g2 g3, h a g0 g1 g2 g3]
theorem offL.refl : offL p I I := fun _ _ _ _ _ => rfl
theorem lp_make (hl : l.1.stackTraces = false) (hq : 181 ≤ q) (hp : LineAt q p) {n : Int} (hn : n ≤ 1000) : ∀ (m : Nat) (i c : Int) (J : Nat → Int → Int), 0 ≤ i → i + m = n → CINV J p c → c + 25848 * m ≤ 20000000 →
    Ex l 50 0 0 11 [some (.ref p), some (.int (iI n)), some (.ref 11), some (.int (iI i)), some (.int (iI (pendA (Vc J p))))] [] (mm q J v fr) (oE q v fr (some (.int (iI (i + (mkS m (Vc J p)).1)))) (fun K => offL p J K ∧ Vc K p = (mkS m (Vc J p)).2 ∧ CX K p)) := by
  have hpb := hp.b
  intro m
  induction m with
  | zero =>
    intro i c J h0 h1 h hc
    have hpr := pendD_r (Vc J p 0 6) (Vc J p 7)
    have h6 := h.1.fr; have h5 := h.1.ms
    refine x_iload_n (pc := 11) rfl d50_11 ?_
    refine x_iload_n (pc := 12) rfl d50_12 ?_
    refine x_icmp_ge (pc := 13) (tgt := 44) ⟨by omega, by omega⟩ ⟨by omega, by omega⟩ d50_13 (by decide) (fun g13 => ?_) (fun g13 => ?_)
    · refine x_iload_n (pc := 44) rfl d50_44 ?_
      refine x_iret (pc := 45) rfl (fun _ => rfl) d50_45 ?_
      exact ⟨J, by rw [show i + (mkS 0 (Vc J p)).1 = i from Int.add_zero i], offL.refl, rfl, h.2⟩
    · exfalso; omega
  | succ m ih =>
    intro i c J h0 h1 h hc
    have hpr := pendD_r (Vc J p 0 6) (Vc J p 7)
    have h6 := h.1.fr; have h5 := h.1.ms
    have hpr : -1 ≤ pendA (Vc J p) ∧ pendA (Vc J p) < 48 := by unfold pendA; omega
    refine x_iload_n (pc := 11) rfl d50_11 ?_
    refine x_iload_n (pc := 12) rfl d50_12 ?_
    refine x_icmp_ge (pc := 13) (tgt := 44) ⟨by omega, by omega⟩ ⟨by omega, by omega⟩ d50_13 (by decide) (fun g13 => ?_) (fun g13 => ?_)
    · refine x_iload_n (pc := 44) rfl d50_44 ?_
      refine x_iret (pc := 45) rfl (fun _ => rfl) d50_45 ?_
      exfalso; omega
    · refine x_iload (pc := 16) rfl d50_16 ?_
      refine x_iconst (pc := 18) d50_18 ?_
      refine x_icmp_eq (pc := 19) (tgt := 44) ⟨by omega, by omega⟩ ⟨by omega, by omega⟩ d50_19 (by decide) (fun g19 => ?_) (fun g19 => ?_)
      · refine x_iload_n (pc := 44) rfl d50_44 ?_
        refine x_iret (pc := 45) rfl (fun _ => rfl) d50_45 ?_
        exact ⟨J, by rw [mkS_none g19, show i + ((0 : Int), Vc J p).1 = i from Int.add_zero i], offL.refl, by rw [mkS_none g19], h.2⟩
      · obtain ⟨hf0, hf1, hf2⟩ := pendA_r g19
        rw [vr6] at hf1
        rw [vc7, ent_in hf0 hf1] at hf2
        refine x_aload_n (pc := 22) rfl d50_22 ?_
        refine x_iload (pc := 23) rfl d50_23 ?_
        refine x_aload_n (pc := 25) rfl d50_25 ?_
        refine x_cVev (pc := 26) c50_194 (ct_attempt hl hq hp h (by omega) hf0 hf1 hf2) hp.o0 rfl rfl (Nat.le_of_ble_eq_true rfl) (by decide +kernel) (by decide +kernel) d50_26 (fun J1 hJ1 => ?_)
        obtain ⟨j1, j2, j3⟩ := hJ1
        have hj : CINV J1 p (c + 25848) := ⟨by rw [j2]; exact h.1.att (pendA_r g19).1 (pendA_r g19).2.1 (pendA_r g19).2.2, j3⟩
        refine x_iinc (pc := 29) rfl (by decide +kernel) rfl d50_29 ?_
        dsimp only [List.set]
        refine x_aload_n (pc := 32) rfl d50_32 ?_
        refine m_getR (pc := 33) f50_28 (by decide +kernel) hp.o0 hp.r0_11 d50_33 ?_
        refine x_cVs (pc := 36) c50_190 (dt_pend hl hp hj) hp.o7 rfl rfl (Nat.le_of_ble_eq_true rfl) (by decide +kernel) (by decide +kernel) rfl d50_36 ?_
        refine x_istore (pc := 39) (by decide +kernel) rfl d50_39 ?_
        dsimp only [List.set]
        refine x_goto (pc := 41) (tgt := 11) d50_41 (by decide) ?_
        have e1 : mkS (m + 1) (Vc J p) = ((mkS m (Vc J1 p)).1 + 1, (mkS m (Vc J1 p)).2) := by rw [j2]; exact if_neg g19
        rw [e1, show i + ((mkS m (Vc J1 p)).1 + 1) = i + 1 + (mkS m (Vc J1 p)).1 from by omega]
        refine ex_mono (ih (i + 1) (c + 25848) J1 (by omega) (by omega) hj (by omega)) ?_
        rintro o ⟨K, k0, k1, k2, k3⟩
        exact ⟨K, k0, j1.trans k1, k2, k3⟩
/-- makeAttempts -/
theorem ct_make (hl : l.1.stackTraces = false) (hq : 181 ≤ q) (hp : LineAt q p) (h : CINV I p c) {n : Nat} (hn : n ≤ 432) (hc : c ≤ 2500000) : CT l 50 [.ref p, .int (iI n), .ref 11] (mm q I v fr) 0 0 (oE q v fr (some (.int (iI (mkS n (Vc I p)).1))) (fun K => offL p I K ∧ Vc K p = (mkS n (Vc I p)).2 ∧ CX K p)) := by
  have hpb := hp.b
  refine mkct2 hl (by decide) (Nat.le_of_ble_eq_true rfl) (L := [some (.ref p), some (.int (iI n)), some (.ref 11), none, none]) rfl ?_
  refine x_iconst (pc := 0) d50_0 ?_
  refine x_istore_n (pc := 1) (by decide +kernel) rfl d50_1 ?_
  dsimp only [List.set]
  refine x_aload_n (pc := 2) rfl d50_2 ?_
  refine m_getR (pc := 3) f50_28 (by decide +kernel) hp.o0 hp.r0_11 d50_3 ?_
  refine x_cVs (pc := 6) c50_190 (dt_pend hl hp h) hp.o7 rfl rfl (Nat.le_of_ble_eq_true rfl) (by decide +kernel) (by decide +kernel) rfl d50_6 ?_
  refine x_istore (pc := 9) (by decide +kernel) rfl d50_9 ?_
  dsimp only [List.set]
  have e := lp_make hl hq hp (v := v) (fr := fr) (n := n) (by omega) n 0 c I (by decide) (by omega) h (by omega)
  rw [Int.zero_add] at e
  exact e
end Make
