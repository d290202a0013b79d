/-! ===== the reference: commands are done ===== -/
section Rdo
variable {l : LX} {q : Nat} {I : Nat → Int → Int} {v : Int} {fr : Bool} {T : Int → Int} {n : Int} {A : AV} {c : Int}
/-- row, answer, letters, what was got have changed: the row shows A -/
def oX (I : Nat → Int → Int) (A : AV) (K : Nat → Int → Int) : Prop := (∀ a, a ≠ 181 → a ≠ 182 → a ≠ 187 → a ≠ 188 → K a = I a) ∧ (∀ i, i ≠ 10 → K 181 i = I 181 i) ∧ RV (K 182) A
theorem oN.x {I K : Nat → Int → Int} {z : Int} {A : AV} (h : oN I z A K) : oX I A K := ⟨fun a a1 a2 _ a8 => h.1 a a1 a2 a8, h.2.1, h.2.2.2⟩
theorem oNl.x {I K : Nat → Int → Int} {z : Int} {A : AV} (h : oNl I z A K) : oX I A K := ⟨h.1, h.2.1, h.2.2.2⟩
theorem oX.refl {I : Nat → Int → Int} {A : AV} (h : RV (I 182) A) : oX I A I := ⟨fun _ _ _ _ _ => rfl, fun _ _ => rfl, h⟩
theorem lp_st (hl : l.1.stackTraces = false) (hq : 192 ≤ q) {t a : Int} {w : Nat} (t0 : 0 ≤ t) (t1 : t ≤ 523) (w16 : w ≤ 16) (h0 : I 190 t = w) (hT : ∀ k : Int, 0 ≤ k → k < w → I 190 (t + 1 + k) = T (a + k)) {Q : OO → Prop} (hQ : ∀ K : Nat → Int → Int, (∀ a, a ≠ 187 → K a = I a) → (∀ k : Int, 0 ≤ k → k < w → K 187 k = T (a + k)) → Ex l 223 0 0 34 [some (.ref 181), some (.int (iI t)), none] [] (mm q K v fr) Q) : ∀ (m j : Nat) (J : Nat → Int → Int), m + j = w → (∀ a, a ≠ 187 → J a = I a) → (∀ k : Int, 0 ≤ k → k < j → J 187 k = T (a + k)) →
    Ex l 223 0 0 2 [some (.ref 181), some (.int (iI t)), some (.int (iI j))] [] (mm q J v fr) Q := by
  intro m
  induction m with
  | zero =>
    intro j J hj o z
    refine x_iload_n (pc := 2) rfl d223_2 ?_
    refine x_aload_n (pc := 3) rfl d223_3 ?_
    refine m_getR (pc := 4) f223_38 (by decide +kernel) (xo181 (by omega)) rr181_20 d223_4 ?_
    refine x_iload_n (pc := 7) rfl d223_7 ?_
    refine m_iald (pc := 8) (xa190 (by omega)) (by omega) (by omega) (by omega) d223_8 ?_
    refine x_val (pc := 9) (w := (w : Int)) (by rw [o 190 (by decide)]; exact h0) ?_
    refine x_icmp_ge (pc := 9) (tgt := 34) ⟨by omega, by omega⟩ ⟨by omega, by omega⟩ d223_9 (by decide) (fun g9 => ?_) (fun g9 => ?_)
    · refine x_mask [true, true, false] ?_
      dsimp only [mask]
      exact hQ J o (fun k k0 k1 => z k k0 (by omega))
    · exfalso; omega
  | succ m ih =>
    intro j J hj o z
    refine x_iload_n (pc := 2) rfl d223_2 ?_
    refine x_aload_n (pc := 3) rfl d223_3 ?_
    refine m_getR (pc := 4) f223_38 (by decide +kernel) (xo181 (by omega)) rr181_20 d223_4 ?_
    refine x_iload_n (pc := 7) rfl d223_7 ?_
    refine m_iald (pc := 8) (xa190 (by omega)) (by omega) (by omega) (by omega) d223_8 ?_
    refine x_val (pc := 9) (w := (w : Int)) (by rw [o 190 (by decide)]; exact h0) ?_
    refine x_icmp_ge (pc := 9) (tgt := 34) ⟨by omega, by omega⟩ ⟨by omega, by omega⟩ d223_9 (by decide) (fun g9 => ?_) (fun g9 => ?_)
    · refine x_mask [true, true, false] ?_
      dsimp only [mask]
      exfalso; omega
    · refine x_aload_n (pc := 12) rfl d223_12 ?_
      refine m_getR (pc := 13) f223_25 (by decide +kernel) (xo181 (by omega)) rr181_8 d223_13 ?_
      refine x_iload_n (pc := 16) rfl d223_16 ?_
      refine x_aload_n (pc := 17) rfl d223_17 ?_
      refine m_getR (pc := 18) f223_38 (by decide +kernel) (xo181 (by omega)) rr181_20 d223_18 ?_
      refine x_iload_n (pc := 21) rfl d223_21 ?_
      refine x_iconst (pc := 22) d223_22 ?_
      refine x_iadd (pc := 23) d223_23 ?_
      refine x_iload_n (pc := 24) rfl d223_24 ?_
      refine x_iadd (pc := 25) d223_25 ?_
      refine m_iald (pc := 26) (xa190 (by omega)) (by omega) (by omega) (by omega) d223_26 ?_
      refine x_val (pc := 27) (w := (T (a + j))) (by rw [o 190 (by decide)]; exact hT j (by omega) (by omega)) ?_
      refine m_iast (pc := 27) (xa187 (by omega)) (by omega) (by omega) (by omega) d223_27 ?_
      refine x_iinc (pc := 28) rfl (by decide +kernel) rfl d223_28 ?_
      dsimp only [List.set]
      refine x_goto (pc := 31) (tgt := 2) d223_31 (by decide) ?_
      refine ih (j + 1) _ (by omega) (fun a ha => by rw [up2_off' _ _ _ ha]; exact o a ha) (fun k k0 k1 => ?_)
      by_cases ek : k = j
      · rw [ek, up2_s]
      · rw [up2_i ek]; exact z k k0 (by omega)
theorem lp_st34T (hl : l.1.stackTraces = false) (hq : 192 ≤ q) (hR : RV (I 182) A) (hA : AINV A c) (h12 : A 0 5 < 12) {t : Int} {w : Nat} {B : Int → Int} (t0 : 0 ≤ t) (t1 : t ≤ 523) (w1 : 1 ≤ w) (w16 : w ≤ 16) (h0 : I 190 t = w) (hB : ∀ k : Int, 0 ≤ k → k < w → I 187 k = B k ∧ 0 ≤ B k ∧ B k ≤ 255) : Ex l 223 0 0 34 [some (.ref 181), some (.int (iI t)), none] [] (mm q I v fr) (oE q v fr (some (.int (iI (b01 true)))) (oX I (addA A B w))) := by
  refine x_aload_n (pc := 34) rfl d223_34 ?_
  refine x_aload_n (pc := 35) rfl d223_35 ?_
  refine m_getR (pc := 36) f223_38 (by decide +kernel) (xo181 (by omega)) rr181_20 d223_36 ?_
  refine x_iload_n (pc := 39) rfl d223_39 ?_
  refine m_iald (pc := 40) (xa190 (by omega)) (by omega) (by omega) (by omega) d223_40 ?_
  refine x_val (pc := 41) (w := (w : Int)) (h0) ?_
  refine x_cVes (pc := 41) c223_192 (rt_sendT hl hq (A := A) hR hA h12 (n := w) (B := B) w1 w16 hB) (xo181 (by omega)) rfl rfl (Nat.le_of_ble_eq_true rfl) (by decide +kernel) (by decide +kernel) d223_41 (fun J1 hJ1 => ?_)
  refine x_zret (pc := 44) rfl (Or.inr rfl) (fun _ => rfl) d223_44 ?_
  exact ⟨J1, rfl, hJ1.x⟩
theorem lp_st34F (hl : l.1.stackTraces = false) (hq : 192 ≤ q) (hR : RV (I 182) A) (hA : AINV A c) (h12 : ¬ A 0 5 < 12) {t : Int} {w : Nat} (t0 : 0 ≤ t) (t1 : t ≤ 523) (h0 : I 190 t = w) : Ex l 223 0 0 34 [some (.ref 181), some (.int (iI t)), none] [] (mm q I v fr) (oE q v fr (some (.int (iI (b01 false)))) (oX I A)) := by
  refine x_aload_n (pc := 34) rfl d223_34 ?_
  refine x_aload_n (pc := 35) rfl d223_35 ?_
  refine m_getR (pc := 36) f223_38 (by decide +kernel) (xo181 (by omega)) rr181_20 d223_36 ?_
  refine x_iload_n (pc := 39) rfl d223_39 ?_
  refine m_iald (pc := 40) (xa190 (by omega)) (by omega) (by omega) (by omega) d223_40 ?_
  refine x_val (pc := 41) (w := (w : Int)) (h0) ?_
  refine x_cVs (pc := 41) c223_192 (rt_sendF hl hq (A := A) hR hA h12) (xo181 (by omega)) rfl rfl (Nat.le_of_ble_eq_true rfl) (by decide +kernel) (by decide +kernel) rfl d223_41 ?_
  refine x_zret (pc := 44) rfl (Or.inl rfl) (fun _ => rfl) d223_44 ?_
  exact ⟨I, rfl, oX.refl hR⟩
theorem rt_told (hl : l.1.stackTraces = false) (hq : 192 ≤ q) (hR : RV (I 182) A) (hA : AINV A c) {t a b : Int} (hTb : ∀ i : Int, 0 ≤ i → i < n → 0 ≤ T i ∧ T i ≤ 255) (t0 : 0 ≤ t) (t1 : t ≤ 523) (a0 : 0 ≤ a) (b1 : 1 ≤ b) (b16 : b ≤ 16) (ab : a + b ≤ n) (h0 : I 190 t = b) (hT : ∀ k : Int, 0 ≤ k → k < b → I 190 (t + 1 + k) = T (a + k)) : CT l 223 [.ref 181, .int (iI t)] (mm q I v fr) 0 0 (oE q v fr (some (.int (iI (b01 (stepC A T 0 a b 0).1)))) (oX I (stepC A T 0 a b 0).2)) := by
  obtain ⟨w, hw⟩ : ∃ w : Nat, (w : Int) = b := ⟨b.toNat, by omega⟩
  have es : stepC A T 0 a b 0 = if A 0 5 < 12 then (true, addA A (bfA T a b) b) else (false, A) := rfl
  rw [es]
  have e : ∀ K : Nat → Int → Int, (∀ a, a ≠ 187 → K a = I a) → (∀ k : Int, 0 ≤ k → k < w → K 187 k = T (a + k)) → Ex l 223 0 0 34 [some (.ref 181), some (.int (iI t)), none] [] (mm q K v fr) (oE q v fr (some (.int (iI (b01 (if A 0 5 < 12 then (true, addA A (bfA T a b) b) else (false, A)).1)))) (oX I (if A 0 5 < 12 then (true, addA A (bfA T a b) b) else (false, A)).2)) := fun K o z => by
    have hRK : RV (K 182) A := by rw [o 182 (by decide)]; exact hR
    have k0 : K 190 t = w := by rw [o 190 (by decide), h0, hw]
    have fin : ∀ (o9 : OO) (bb : Bool) (A' : AV), oE q v fr (some (.int (iI (b01 bb)))) (oX K A') o9 → oE q v fr (some (.int (iI (b01 bb)))) (oX I A') o9 := fun o9 bb A' h => by
      obtain ⟨K2, ho, x1, x2, x3⟩ := h
      exact ⟨K2, ho, fun a a1 a2 a7 a8 => by rw [x1 a a1 a2 a7 a8]; exact o a a7, fun i hi => by rw [x2 i hi, o 181 (by decide)], x3⟩
    by_cases h12 : A 0 5 < 12
    · rw [if_pos h12]
      have := lp_st34T (v := v) (fr := fr) hl hq hRK hA h12 (B := bfA T a b) t0 t1 (by omega) (by omega) k0 (fun k x0 x1 => by
        have eb : bfA T a b k = T (a + k) := if_pos ⟨x0, by omega⟩
        rw [eb, z k x0 x1]
        exact ⟨rfl, hTb _ (by omega) (by omega)⟩)
      rw [hw] at this
      exact ex_mono this fun o9 h => fin o9 true _ h
    · rw [if_neg h12]
      exact ex_mono (lp_st34F (v := v) (fr := fr) hl hq hRK hA h12 t0 t1 k0) fun o9 h => fin o9 false _ h
  refine mkct2 hl (by decide) (Nat.le_of_ble_eq_true rfl) (L := [some (.ref 181), some (.int (iI t)), none]) rfl ?_
  refine x_iconst (pc := 0) d223_0 ?_
  refine x_istore_n (pc := 1) (by decide +kernel) rfl d223_1 ?_
  dsimp only [List.set]
  exact lp_st hl hq t0 t1 (by omega) (by rw [h0, hw]) (fun k k0 k1 => hT k k0 (by omega)) e w 0 I (by omega) (fun _ _ => rfl) (fun k k0 k1 => absurd (show k < 0 from k1) (by omega))
theorem rt_does (hl : l.1.stackTraces = false) (hq : 192 ≤ q) (hR : RV (I 182) A) (hA : AINV A c) (hc : c ≤ 10000000) {f kd a b z : Int} (hTb : ∀ i : Int, 0 ≤ i → i < n → 0 ≤ T i ∧ T i ≤ 255) (f0 : 0 ≤ f) (f1 : f ≤ 522) (hk : I 190 f = kd) (hL : TLD I T (f + 1) kd a b z) (hk0 : 0 ≤ kd ∧ kd ≤ 7) (h0 : kd = 0 → 0 ≤ a ∧ 1 ≤ b ∧ b ≤ 16 ∧ a + b ≤ n) (h6 : kd = 6 → (2 ≤ a ∧ a ≤ 999) ∧ (1 ≤ b ∧ b < a) ∧ (0 ≤ z ∧ z ≤ 999)) (h9 : kd ≠ 0 → kd ≠ 6 → (numR kd).1 ≤ a ∧ a ≤ (numR kd).2 ∧ 0 ≤ a ∧ a ≤ 999) : CT l 224 [.ref 181, .int (iI f)] (mm q I v fr) 0 0 (oE q v fr (some (.int (iI (b01 (stepC A T kd a b z).1)))) (oX I (stepC A T kd a b z).2)) := by
  have hr := hA.rg
  have : kd = 0 ∨ kd = 1 ∨ kd = 2 ∨ kd = 3 ∨ kd = 4 ∨ kd = 5 ∨ kd = 6 ∨ kd = 7 := by omega
  rcases this with e | e | e | e | e | e | e | e <;> subst e
  · have g0 := h0 rfl
    have es : stepC A T 0 a b z = stepC A T 0 a b 0 := rfl
    rw [es]
    refine mkct2 hl (by decide) (Nat.le_of_ble_eq_true rfl) (L := [some (.ref 181), some (.int (iI f)), none]) rfl ?_
    refine x_aload_n (pc := 0) rfl d224_0 ?_
    refine m_getR (pc := 1) f224_38 (by decide +kernel) (xo181 (by omega)) rr181_20 d224_1 ?_
    refine x_iload_n (pc := 4) rfl d224_4 ?_
    refine x_iconst (pc := 5) d224_5 ?_
    refine x_iadd (pc := 6) d224_6 ?_
    refine m_iald (pc := 7) (xa190 (by omega)) (by omega) (by omega) (by omega) d224_7 ?_
    refine x_istore_n (pc := 8) (by decide +kernel) rfl d224_8 ?_
    dsimp only [List.set]
    refine x_aload_n (pc := 9) rfl d224_9 ?_
    refine m_getR (pc := 10) f224_38 (by decide +kernel) (xo181 (by omega)) rr181_20 d224_10 ?_
    refine x_iload_n (pc := 13) rfl d224_13 ?_
    refine m_iald (pc := 14) (xa190 (by omega)) (by omega) (by omega) (by omega) d224_14 ?_
    refine x_val (pc := 15) (w := 0) (hk) ?_
    refine x_tabIn (pc := 15) (tgt := 56) ⟨by omega, by omega⟩ d224_15 (by decide) (by decide) rfl (by decide) ?_
    refine x_aload_n (pc := 56) rfl d224_56 ?_
    refine x_iload_n (pc := 57) rfl d224_57 ?_
    refine x_iconst (pc := 58) d224_58 ?_
    refine x_iadd (pc := 59) d224_59 ?_
    refine x_cVes (pc := 60) c224_313 (rt_told hl hq hR hA (t := f + 1) (a := a) (b := b) hTb (by omega) (by omega) g0.1 g0.2.1 g0.2.2.1 g0.2.2.2 (hL.1 rfl).1 (hL.1 rfl).2) (xo181 (by omega)) rfl rfl (Nat.le_of_ble_eq_true rfl) (by decide +kernel) (by decide +kernel) d224_60 (fun J1 hJ1 => ?_)
    refine x_zret (pc := 63) rfl (b01_or _) (fun _ => rfl) d224_63 ?_
    exact ⟨J1, rfl, hJ1⟩
  · have g := h9 (by decide) (by decide)
    have ha : I 190 (f + 1) = a := hL.2.2.2 (by decide) (by decide) (by decide)
    have g2 : 1 ≤ a ∧ a ≤ 60 := ⟨g.1, g.2.1⟩
    have es : stepC A T 1 a b z = if A 0 7 ≤ 900000 then (true, (mkS a.toNat A).2) else (false, A) := rfl
    rw [es]
    by_cases cd : A 0 7 ≤ 900000
    · rw [if_pos cd]
      refine mkct2 hl (by decide) (Nat.le_of_ble_eq_true rfl) (L := [some (.ref 181), some (.int (iI f)), none]) rfl ?_
      refine x_aload_n (pc := 0) rfl d224_0 ?_
      refine m_getR (pc := 1) f224_38 (by decide +kernel) (xo181 (by omega)) rr181_20 d224_1 ?_
      refine x_iload_n (pc := 4) rfl d224_4 ?_
      refine x_iconst (pc := 5) d224_5 ?_
      refine x_iadd (pc := 6) d224_6 ?_
      refine m_iald (pc := 7) (xa190 (by omega)) (by omega) (by omega) (by omega) d224_7 ?_
      refine x_val (pc := 8) (w := a) (ha) ?_
      refine x_istore_n (pc := 8) (by decide +kernel) rfl d224_8 ?_
      dsimp only [List.set]
      refine x_aload_n (pc := 9) rfl d224_9 ?_
      refine m_getR (pc := 10) f224_38 (by decide +kernel) (xo181 (by omega)) rr181_20 d224_10 ?_
      refine x_iload_n (pc := 13) rfl d224_13 ?_
      refine m_iald (pc := 14) (xa190 (by omega)) (by omega) (by omega) (by omega) d224_14 ?_
      refine x_val (pc := 15) (w := 1) (hk) ?_
      refine x_tabIn (pc := 15) (tgt := 64) ⟨by omega, by omega⟩ d224_15 (by decide) (by decide) rfl (by decide) ?_
      refine x_aload_n (pc := 64) rfl d224_64 ?_
      refine x_iload_n (pc := 65) rfl d224_65 ?_
      refine x_val (pc := 66) (w := ((a.toNat : Nat) : Int)) (by omega) ?_
      refine x_cVes (pc := 66) c224_316 (rt_trT hl hq (A := A) hR hA hc cd (n := a.toNat) (by omega)) (xo181 (by omega)) rfl rfl (Nat.le_of_ble_eq_true rfl) (by decide +kernel) (by decide +kernel) d224_66 (fun J1 hJ1 => ?_)
      refine x_zret (pc := 69) rfl (Or.inr rfl) (fun _ => rfl) d224_69 ?_
      exact ⟨J1, rfl, hJ1.x⟩
    · rw [if_neg cd]
      refine mkct2 hl (by decide) (Nat.le_of_ble_eq_true rfl) (L := [some (.ref 181), some (.int (iI f)), none]) rfl ?_
      refine x_aload_n (pc := 0) rfl d224_0 ?_
      refine m_getR (pc := 1) f224_38 (by decide +kernel) (xo181 (by omega)) rr181_20 d224_1 ?_
      refine x_iload_n (pc := 4) rfl d224_4 ?_
      refine x_iconst (pc := 5) d224_5 ?_
      refine x_iadd (pc := 6) d224_6 ?_
      refine m_iald (pc := 7) (xa190 (by omega)) (by omega) (by omega) (by omega) d224_7 ?_
      refine x_val (pc := 8) (w := a) (ha) ?_
      refine x_istore_n (pc := 8) (by decide +kernel) rfl d224_8 ?_
      dsimp only [List.set]
      refine x_aload_n (pc := 9) rfl d224_9 ?_
      refine m_getR (pc := 10) f224_38 (by decide +kernel) (xo181 (by omega)) rr181_20 d224_10 ?_
      refine x_iload_n (pc := 13) rfl d224_13 ?_
      refine m_iald (pc := 14) (xa190 (by omega)) (by omega) (by omega) (by omega) d224_14 ?_
      refine x_val (pc := 15) (w := 1) (hk) ?_
      refine x_tabIn (pc := 15) (tgt := 64) ⟨by omega, by omega⟩ d224_15 (by decide) (by decide) rfl (by decide) ?_
      refine x_aload_n (pc := 64) rfl d224_64 ?_
      refine x_iload_n (pc := 65) rfl d224_65 ?_
      refine x_cVs (pc := 66) c224_316 (rt_trF hl hq (A := A) hR hA hc cd) (xo181 (by omega)) rfl rfl (Nat.le_of_ble_eq_true rfl) (by decide +kernel) (by decide +kernel) rfl d224_66 ?_
      refine x_zret (pc := 69) rfl (Or.inl rfl) (fun _ => rfl) d224_69 ?_
      exact ⟨I, rfl, oX.refl hR⟩
  · have g := h9 (by decide) (by decide)
    have ha : I 190 (f + 1) = a := hL.2.2.2 (by decide) (by decide) (by decide)
    have hsd : ∀ y : Int, 0 ≤ y → (stD A a = y ↔ (0 ≤ a ∧ a < A 0 5) ∧ stA A a = y) := fun y y0 => by
      unfold stD
      by_cases cs : 0 ≤ a ∧ a < A 0 5
      · rw [if_pos cs]; exact ⟨fun w => ⟨cs, w⟩, fun w => w.2⟩
      · rw [if_neg cs]; exact ⟨fun w => absurd w (by omega), fun w => absurd w.1 cs⟩
    have es : stepC A T 2 a b z = if stD A a = 0 then (true, (gvA A a).2) else (false, A) := rfl
    rw [es]
    by_cases cd : stD A a = 0
    · rw [if_pos cd]
      refine mkct2 hl (by decide) (Nat.le_of_ble_eq_true rfl) (L := [some (.ref 181), some (.int (iI f)), none]) rfl ?_
      refine x_aload_n (pc := 0) rfl d224_0 ?_
      refine m_getR (pc := 1) f224_38 (by decide +kernel) (xo181 (by omega)) rr181_20 d224_1 ?_
      refine x_iload_n (pc := 4) rfl d224_4 ?_
      refine x_iconst (pc := 5) d224_5 ?_
      refine x_iadd (pc := 6) d224_6 ?_
      refine m_iald (pc := 7) (xa190 (by omega)) (by omega) (by omega) (by omega) d224_7 ?_
      refine x_val (pc := 8) (w := a) (ha) ?_
      refine x_istore_n (pc := 8) (by decide +kernel) rfl d224_8 ?_
      dsimp only [List.set]
      refine x_aload_n (pc := 9) rfl d224_9 ?_
      refine m_getR (pc := 10) f224_38 (by decide +kernel) (xo181 (by omega)) rr181_20 d224_10 ?_
      refine x_iload_n (pc := 13) rfl d224_13 ?_
      refine m_iald (pc := 14) (xa190 (by omega)) (by omega) (by omega) (by omega) d224_14 ?_
      refine x_val (pc := 15) (w := 2) (hk) ?_
      refine x_tabIn (pc := 15) (tgt := 70) ⟨by omega, by omega⟩ d224_15 (by decide) (by decide) rfl (by decide) ?_
      refine x_aload_n (pc := 70) rfl d224_70 ?_
      refine x_iload_n (pc := 71) rfl d224_71 ?_
      refine x_cVes (pc := 72) c224_319 (rt_caT hl hq (A := A) hR hA (mo := a) ((hsd 0 (by decide)).mp cd).1.1 ((hsd 0 (by decide)).mp cd).1.2 ((hsd 0 (by decide)).mp cd).2) (xo181 (by omega)) rfl rfl (Nat.le_of_ble_eq_true rfl) (by decide +kernel) (by decide +kernel) d224_72 (fun J1 hJ1 => ?_)
      refine x_zret (pc := 75) rfl (Or.inr rfl) (fun _ => rfl) d224_75 ?_
      exact ⟨J1, rfl, hJ1.x⟩
    · rw [if_neg cd]
      refine mkct2 hl (by decide) (Nat.le_of_ble_eq_true rfl) (L := [some (.ref 181), some (.int (iI f)), none]) rfl ?_
      refine x_aload_n (pc := 0) rfl d224_0 ?_
      refine m_getR (pc := 1) f224_38 (by decide +kernel) (xo181 (by omega)) rr181_20 d224_1 ?_
      refine x_iload_n (pc := 4) rfl d224_4 ?_
      refine x_iconst (pc := 5) d224_5 ?_
      refine x_iadd (pc := 6) d224_6 ?_
      refine m_iald (pc := 7) (xa190 (by omega)) (by omega) (by omega) (by omega) d224_7 ?_
      refine x_val (pc := 8) (w := a) (ha) ?_
      refine x_istore_n (pc := 8) (by decide +kernel) rfl d224_8 ?_
      dsimp only [List.set]
      refine x_aload_n (pc := 9) rfl d224_9 ?_
      refine m_getR (pc := 10) f224_38 (by decide +kernel) (xo181 (by omega)) rr181_20 d224_10 ?_
      refine x_iload_n (pc := 13) rfl d224_13 ?_
      refine m_iald (pc := 14) (xa190 (by omega)) (by omega) (by omega) (by omega) d224_14 ?_
      refine x_val (pc := 15) (w := 2) (hk) ?_
      refine x_tabIn (pc := 15) (tgt := 70) ⟨by omega, by omega⟩ d224_15 (by decide) (by decide) rfl (by decide) ?_
      refine x_aload_n (pc := 70) rfl d224_70 ?_
      refine x_iload_n (pc := 71) rfl d224_71 ?_
      refine x_cVs (pc := 72) c224_319 (rt_caF hl hq (A := A) hR hA (mo := a) ⟨by omega, by omega⟩ (fun w => cd ((hsd 0 (by decide)).mpr w))) (xo181 (by omega)) rfl rfl (Nat.le_of_ble_eq_true rfl) (by decide +kernel) (by decide +kernel) rfl d224_72 ?_
      refine x_zret (pc := 75) rfl (Or.inl rfl) (fun _ => rfl) d224_75 ?_
      exact ⟨I, rfl, oX.refl hR⟩
  · have g := h9 (by decide) (by decide)
    have ha : I 190 (f + 1) = a := hL.2.2.2 (by decide) (by decide) (by decide)
    have hsd : ∀ y : Int, 0 ≤ y → (stD A a = y ↔ (0 ≤ a ∧ a < A 0 5) ∧ stA A a = y) := fun y y0 => by
      unfold stD
      by_cases cs : 0 ≤ a ∧ a < A 0 5
      · rw [if_pos cs]; exact ⟨fun w => ⟨cs, w⟩, fun w => w.2⟩
      · rw [if_neg cs]; exact ⟨fun w => absurd w (by omega), fun w => absurd w.1 cs⟩
    have es : stepC A T 3 a b z = if stD A a = 2 ∧ A 0 5 < 12 then (true, addA A (txtA A a) (A 4 a)) else (false, A) := rfl
    rw [es]
    by_cases cd : stD A a = 2 ∧ A 0 5 < 12
    · rw [if_pos cd]
      refine mkct2 hl (by decide) (Nat.le_of_ble_eq_true rfl) (L := [some (.ref 181), some (.int (iI f)), none]) rfl ?_
      refine x_aload_n (pc := 0) rfl d224_0 ?_
      refine m_getR (pc := 1) f224_38 (by decide +kernel) (xo181 (by omega)) rr181_20 d224_1 ?_
      refine x_iload_n (pc := 4) rfl d224_4 ?_
      refine x_iconst (pc := 5) d224_5 ?_
      refine x_iadd (pc := 6) d224_6 ?_
      refine m_iald (pc := 7) (xa190 (by omega)) (by omega) (by omega) (by omega) d224_7 ?_
      refine x_val (pc := 8) (w := a) (ha) ?_
      refine x_istore_n (pc := 8) (by decide +kernel) rfl d224_8 ?_
      dsimp only [List.set]
      refine x_aload_n (pc := 9) rfl d224_9 ?_
      refine m_getR (pc := 10) f224_38 (by decide +kernel) (xo181 (by omega)) rr181_20 d224_10 ?_
      refine x_iload_n (pc := 13) rfl d224_13 ?_
      refine m_iald (pc := 14) (xa190 (by omega)) (by omega) (by omega) (by omega) d224_14 ?_
      refine x_val (pc := 15) (w := 3) (hk) ?_
      refine x_tabIn (pc := 15) (tgt := 76) ⟨by omega, by omega⟩ d224_15 (by decide) (by decide) rfl (by decide) ?_
      refine x_aload_n (pc := 76) rfl d224_76 ?_
      refine x_iload_n (pc := 77) rfl d224_77 ?_
      refine x_cVes (pc := 78) c224_322 (rt_reT hl hq (A := A) hR hA (mo := a) ((hsd 2 (by decide)).mp cd.1).1.1 ((hsd 2 (by decide)).mp cd.1).1.2 ((hsd 2 (by decide)).mp cd.1).2 cd.2) (xo181 (by omega)) rfl rfl (Nat.le_of_ble_eq_true rfl) (by decide +kernel) (by decide +kernel) d224_78 (fun J1 hJ1 => ?_)
      refine x_zret (pc := 81) rfl (Or.inr rfl) (fun _ => rfl) d224_81 ?_
      exact ⟨J1, rfl, hJ1.x⟩
    · rw [if_neg cd]
      refine mkct2 hl (by decide) (Nat.le_of_ble_eq_true rfl) (L := [some (.ref 181), some (.int (iI f)), none]) rfl ?_
      refine x_aload_n (pc := 0) rfl d224_0 ?_
      refine m_getR (pc := 1) f224_38 (by decide +kernel) (xo181 (by omega)) rr181_20 d224_1 ?_
      refine x_iload_n (pc := 4) rfl d224_4 ?_
      refine x_iconst (pc := 5) d224_5 ?_
      refine x_iadd (pc := 6) d224_6 ?_
      refine m_iald (pc := 7) (xa190 (by omega)) (by omega) (by omega) (by omega) d224_7 ?_
      refine x_val (pc := 8) (w := a) (ha) ?_
      refine x_istore_n (pc := 8) (by decide +kernel) rfl d224_8 ?_
      dsimp only [List.set]
      refine x_aload_n (pc := 9) rfl d224_9 ?_
      refine m_getR (pc := 10) f224_38 (by decide +kernel) (xo181 (by omega)) rr181_20 d224_10 ?_
      refine x_iload_n (pc := 13) rfl d224_13 ?_
      refine m_iald (pc := 14) (xa190 (by omega)) (by omega) (by omega) (by omega) d224_14 ?_
      refine x_val (pc := 15) (w := 3) (hk) ?_
      refine x_tabIn (pc := 15) (tgt := 76) ⟨by omega, by omega⟩ d224_15 (by decide) (by decide) rfl (by decide) ?_
      refine x_aload_n (pc := 76) rfl d224_76 ?_
      refine x_iload_n (pc := 77) rfl d224_77 ?_
      refine x_cVs (pc := 78) c224_322 (rt_reF hl hq (A := A) hR hA (mo := a) ⟨by omega, by omega⟩ (fun w => cd ⟨(hsd 2 (by decide)).mpr ⟨w.1, w.2.1⟩, w.2.2⟩)) (xo181 (by omega)) rfl rfl (Nat.le_of_ble_eq_true rfl) (by decide +kernel) (by decide +kernel) rfl d224_78 ?_
      refine x_zret (pc := 81) rfl (Or.inl rfl) (fun _ => rfl) d224_81 ?_
      exact ⟨I, rfl, oX.refl hR⟩
  · have g := h9 (by decide) (by decide)
    have ha : I 190 (f + 1) = a := hL.2.2.2 (by decide) (by decide) (by decide)
    have es : stepC A T 4 a b z = if A 0 7 + a ≤ 900000 then (true, waitA A a) else (false, A) := rfl
    rw [es]
    by_cases cd : A 0 7 + a ≤ 900000
    · rw [if_pos cd]
      refine mkct2 hl (by decide) (Nat.le_of_ble_eq_true rfl) (L := [some (.ref 181), some (.int (iI f)), none]) rfl ?_
      refine x_aload_n (pc := 0) rfl d224_0 ?_
      refine m_getR (pc := 1) f224_38 (by decide +kernel) (xo181 (by omega)) rr181_20 d224_1 ?_
      refine x_iload_n (pc := 4) rfl d224_4 ?_
      refine x_iconst (pc := 5) d224_5 ?_
      refine x_iadd (pc := 6) d224_6 ?_
      refine m_iald (pc := 7) (xa190 (by omega)) (by omega) (by omega) (by omega) d224_7 ?_
      refine x_val (pc := 8) (w := a) (ha) ?_
      refine x_istore_n (pc := 8) (by decide +kernel) rfl d224_8 ?_
      dsimp only [List.set]
      refine x_aload_n (pc := 9) rfl d224_9 ?_
      refine m_getR (pc := 10) f224_38 (by decide +kernel) (xo181 (by omega)) rr181_20 d224_10 ?_
      refine x_iload_n (pc := 13) rfl d224_13 ?_
      refine m_iald (pc := 14) (xa190 (by omega)) (by omega) (by omega) (by omega) d224_14 ?_
      refine x_val (pc := 15) (w := 4) (hk) ?_
      refine x_tabIn (pc := 15) (tgt := 82) ⟨by omega, by omega⟩ d224_15 (by decide) (by decide) rfl (by decide) ?_
      refine x_aload_n (pc := 82) rfl d224_82 ?_
      refine x_iload_n (pc := 83) rfl d224_83 ?_
      refine x_cVes (pc := 84) c224_325 (rt_waitT hl hq (A := A) hR hA hc (t := a) (by omega) (by omega) cd) (xo181 (by omega)) rfl rfl (Nat.le_of_ble_eq_true rfl) (by decide +kernel) (by decide +kernel) d224_84 (fun J1 hJ1 => ?_)
      refine x_zret (pc := 87) rfl (Or.inr rfl) (fun _ => rfl) d224_87 ?_
      exact ⟨J1, rfl, hJ1.x⟩
    · rw [if_neg cd]
      refine mkct2 hl (by decide) (Nat.le_of_ble_eq_true rfl) (L := [some (.ref 181), some (.int (iI f)), none]) rfl ?_
      refine x_aload_n (pc := 0) rfl d224_0 ?_
      refine m_getR (pc := 1) f224_38 (by decide +kernel) (xo181 (by omega)) rr181_20 d224_1 ?_
      refine x_iload_n (pc := 4) rfl d224_4 ?_
      refine x_iconst (pc := 5) d224_5 ?_
      refine x_iadd (pc := 6) d224_6 ?_
      refine m_iald (pc := 7) (xa190 (by omega)) (by omega) (by omega) (by omega) d224_7 ?_
      refine x_val (pc := 8) (w := a) (ha) ?_
      refine x_istore_n (pc := 8) (by decide +kernel) rfl d224_8 ?_
      dsimp only [List.set]
      refine x_aload_n (pc := 9) rfl d224_9 ?_
      refine m_getR (pc := 10) f224_38 (by decide +kernel) (xo181 (by omega)) rr181_20 d224_10 ?_
      refine x_iload_n (pc := 13) rfl d224_13 ?_
      refine m_iald (pc := 14) (xa190 (by omega)) (by omega) (by omega) (by omega) d224_14 ?_
      refine x_val (pc := 15) (w := 4) (hk) ?_
      refine x_tabIn (pc := 15) (tgt := 82) ⟨by omega, by omega⟩ d224_15 (by decide) (by decide) rfl (by decide) ?_
      refine x_aload_n (pc := 82) rfl d224_82 ?_
      refine x_iload_n (pc := 83) rfl d224_83 ?_
      refine x_cVs (pc := 84) c224_325 (rt_waitF hl hq (A := A) hR hA hc (t := a) (by omega) (by omega) cd) (xo181 (by omega)) rfl rfl (Nat.le_of_ble_eq_true rfl) (by decide +kernel) (by decide +kernel) rfl d224_84 ?_
      refine x_zret (pc := 87) rfl (Or.inl rfl) (fun _ => rfl) d224_87 ?_
      exact ⟨I, rfl, oX.refl hR⟩
  · have g := h9 (by decide) (by decide)
    have ha : I 190 (f + 1) = (a - 100) := hL.2.2.1 rfl
    have es : stepC A T 5 a b z = (true, up2 A 0 1 (a - 100)) := rfl
    rw [es]
    refine mkct2 hl (by decide) (Nat.le_of_ble_eq_true rfl) (L := [some (.ref 181), some (.int (iI f)), none]) rfl ?_
    refine x_aload_n (pc := 0) rfl d224_0 ?_
    refine m_getR (pc := 1) f224_38 (by decide +kernel) (xo181 (by omega)) rr181_20 d224_1 ?_
    refine x_iload_n (pc := 4) rfl d224_4 ?_
    refine x_iconst (pc := 5) d224_5 ?_
    refine x_iadd (pc := 6) d224_6 ?_
    refine m_iald (pc := 7) (xa190 (by omega)) (by omega) (by omega) (by omega) d224_7 ?_
    refine x_val (pc := 8) (w := (a - 100)) (ha) ?_
    refine x_istore_n (pc := 8) (by decide +kernel) rfl d224_8 ?_
    dsimp only [List.set]
    refine x_aload_n (pc := 9) rfl d224_9 ?_
    refine m_getR (pc := 10) f224_38 (by decide +kernel) (xo181 (by omega)) rr181_20 d224_10 ?_
    refine x_iload_n (pc := 13) rfl d224_13 ?_
    refine m_iald (pc := 14) (xa190 (by omega)) (by omega) (by omega) (by omega) d224_14 ?_
    refine x_val (pc := 15) (w := 5) (hk) ?_
    refine x_tabIn (pc := 15) (tgt := 88) ⟨by omega, by omega⟩ d224_15 (by decide) (by decide) rfl (by decide) ?_
    refine x_aload_n (pc := 88) rfl d224_88 ?_
    refine x_iload_n (pc := 89) rfl d224_89 ?_
    refine x_cVes (pc := 90) c224_328 (rt_drT hl hq (A := A) hR hA (t := (a - 100))) (xo181 (by omega)) rfl rfl (Nat.le_of_ble_eq_true rfl) (by decide +kernel) (by decide +kernel) d224_90 (fun J1 hJ1 => ?_)
    refine x_zret (pc := 93) rfl (Or.inr rfl) (fun _ => rfl) d224_93 ?_
    exact ⟨J1, rfl, hJ1.x⟩
  · have g := h6 rfl
    have ha : I 190 (f + 1) = a := (hL.2.1 rfl).1
    have hb : I 190 (f + 2) = b := by have := (hL.2.1 rfl).2.1; rw [show f + 1 + 1 = f + 2 from by omega] at this; exact this
    have hz : I 190 (f + 3) = z := by have := (hL.2.1 rfl).2.2; rw [show f + 1 + 2 = f + 3 from by omega] at this; exact this
    have es : stepC A T 6 a b z = if A 0 4 < 3 then (true, dogA A a b z) else (false, A) := rfl
    rw [es]
    by_cases cd : A 0 4 < 3
    · rw [if_pos cd]
      refine mkct2 hl (by decide) (Nat.le_of_ble_eq_true rfl) (L := [some (.ref 181), some (.int (iI f)), none]) rfl ?_
      refine x_aload_n (pc := 0) rfl d224_0 ?_
      refine m_getR (pc := 1) f224_38 (by decide +kernel) (xo181 (by omega)) rr181_20 d224_1 ?_
      refine x_iload_n (pc := 4) rfl d224_4 ?_
      refine x_iconst (pc := 5) d224_5 ?_
      refine x_iadd (pc := 6) d224_6 ?_
      refine m_iald (pc := 7) (xa190 (by omega)) (by omega) (by omega) (by omega) d224_7 ?_
      refine x_val (pc := 8) (w := a) (ha) ?_
      refine x_istore_n (pc := 8) (by decide +kernel) rfl d224_8 ?_
      dsimp only [List.set]
      refine x_aload_n (pc := 9) rfl d224_9 ?_
      refine m_getR (pc := 10) f224_38 (by decide +kernel) (xo181 (by omega)) rr181_20 d224_10 ?_
      refine x_iload_n (pc := 13) rfl d224_13 ?_
      refine m_iald (pc := 14) (xa190 (by omega)) (by omega) (by omega) (by omega) d224_14 ?_
      refine x_val (pc := 15) (w := 6) (hk) ?_
      refine x_tabIn (pc := 15) (tgt := 94) ⟨by omega, by omega⟩ d224_15 (by decide) (by decide) rfl (by decide) ?_
      refine x_aload_n (pc := 94) rfl d224_94 ?_
      refine x_iload_n (pc := 95) rfl d224_95 ?_
      refine x_aload_n (pc := 96) rfl d224_96 ?_
      refine m_getR (pc := 97) f224_38 (by decide +kernel) (xo181 (by omega)) rr181_20 d224_97 ?_
      refine x_iload_n (pc := 100) rfl d224_100 ?_
      refine x_iconst (pc := 101) d224_101 ?_
      refine x_iadd (pc := 102) d224_102 ?_
      refine m_iald (pc := 103) (xa190 (by omega)) (by omega) (by omega) (by omega) d224_103 ?_
      refine x_val (pc := 104) (w := b) (hb) ?_
      refine x_aload_n (pc := 104) rfl d224_104 ?_
      refine m_getR (pc := 105) f224_38 (by decide +kernel) (xo181 (by omega)) rr181_20 d224_105 ?_
      refine x_iload_n (pc := 108) rfl d224_108 ?_
      refine x_iconst (pc := 109) d224_109 ?_
      refine x_iadd (pc := 110) d224_110 ?_
      refine m_iald (pc := 111) (xa190 (by omega)) (by omega) (by omega) (by omega) d224_111 ?_
      refine x_val (pc := 112) (w := z) (hz) ?_
      refine x_cVes (pc := 112) c224_261 (rt_dogT hl hq (A := A) hR hA cd (x := a) (y := b) (z := z)) (xo181 (by omega)) rfl rfl (Nat.le_of_ble_eq_true rfl) (by decide +kernel) (by decide +kernel) d224_112 (fun J1 hJ1 => ?_)
      refine x_zret (pc := 115) rfl (Or.inr rfl) (fun _ => rfl) d224_115 ?_
      exact ⟨J1, rfl, hJ1.x⟩
    · rw [if_neg cd]
      refine mkct2 hl (by decide) (Nat.le_of_ble_eq_true rfl) (L := [some (.ref 181), some (.int (iI f)), none]) rfl ?_
      refine x_aload_n (pc := 0) rfl d224_0 ?_
      refine m_getR (pc := 1) f224_38 (by decide +kernel) (xo181 (by omega)) rr181_20 d224_1 ?_
      refine x_iload_n (pc := 4) rfl d224_4 ?_
      refine x_iconst (pc := 5) d224_5 ?_
      refine x_iadd (pc := 6) d224_6 ?_
      refine m_iald (pc := 7) (xa190 (by omega)) (by omega) (by omega) (by omega) d224_7 ?_
      refine x_val (pc := 8) (w := a) (ha) ?_
      refine x_istore_n (pc := 8) (by decide +kernel) rfl d224_8 ?_
      dsimp only [List.set]
      refine x_aload_n (pc := 9) rfl d224_9 ?_
      refine m_getR (pc := 10) f224_38 (by decide +kernel) (xo181 (by omega)) rr181_20 d224_10 ?_
      refine x_iload_n (pc := 13) rfl d224_13 ?_
      refine m_iald (pc := 14) (xa190 (by omega)) (by omega) (by omega) (by omega) d224_14 ?_
      refine x_val (pc := 15) (w := 6) (hk) ?_
      refine x_tabIn (pc := 15) (tgt := 94) ⟨by omega, by omega⟩ d224_15 (by decide) (by decide) rfl (by decide) ?_
      refine x_aload_n (pc := 94) rfl d224_94 ?_
      refine x_iload_n (pc := 95) rfl d224_95 ?_
      refine x_aload_n (pc := 96) rfl d224_96 ?_
      refine m_getR (pc := 97) f224_38 (by decide +kernel) (xo181 (by omega)) rr181_20 d224_97 ?_
      refine x_iload_n (pc := 100) rfl d224_100 ?_
      refine x_iconst (pc := 101) d224_101 ?_
      refine x_iadd (pc := 102) d224_102 ?_
      refine m_iald (pc := 103) (xa190 (by omega)) (by omega) (by omega) (by omega) d224_103 ?_
      refine x_val (pc := 104) (w := b) (hb) ?_
      refine x_aload_n (pc := 104) rfl d224_104 ?_
      refine m_getR (pc := 105) f224_38 (by decide +kernel) (xo181 (by omega)) rr181_20 d224_105 ?_
      refine x_iload_n (pc := 108) rfl d224_108 ?_
      refine x_iconst (pc := 109) d224_109 ?_
      refine x_iadd (pc := 110) d224_110 ?_
      refine m_iald (pc := 111) (xa190 (by omega)) (by omega) (by omega) (by omega) d224_111 ?_
      refine x_val (pc := 112) (w := z) (hz) ?_
      refine x_cVs (pc := 112) c224_261 (rt_dogF hl hq (A := A) hR hA cd (x := a) (y := b) (z := z)) (xo181 (by omega)) rfl rfl (Nat.le_of_ble_eq_true rfl) (by decide +kernel) (by decide +kernel) rfl d224_112 ?_
      refine x_zret (pc := 115) rfl (Or.inl rfl) (fun _ => rfl) d224_115 ?_
      exact ⟨I, rfl, oX.refl hR⟩
  · have g := h9 (by decide) (by decide)
    have ha : I 190 (f + 1) = a := hL.2.2.2 (by decide) (by decide) (by decide)
    have es : stepC A T 7 a b z = if a < A 0 4 then (true, rmA A a) else (false, A) := rfl
    rw [es]
    by_cases cd : a < A 0 4
    · rw [if_pos cd]
      refine mkct2 hl (by decide) (Nat.le_of_ble_eq_true rfl) (L := [some (.ref 181), some (.int (iI f)), none]) rfl ?_
      refine x_aload_n (pc := 0) rfl d224_0 ?_
      refine m_getR (pc := 1) f224_38 (by decide +kernel) (xo181 (by omega)) rr181_20 d224_1 ?_
      refine x_iload_n (pc := 4) rfl d224_4 ?_
      refine x_iconst (pc := 5) d224_5 ?_
      refine x_iadd (pc := 6) d224_6 ?_
      refine m_iald (pc := 7) (xa190 (by omega)) (by omega) (by omega) (by omega) d224_7 ?_
      refine x_val (pc := 8) (w := a) (ha) ?_
      refine x_istore_n (pc := 8) (by decide +kernel) rfl d224_8 ?_
      dsimp only [List.set]
      refine x_aload_n (pc := 9) rfl d224_9 ?_
      refine m_getR (pc := 10) f224_38 (by decide +kernel) (xo181 (by omega)) rr181_20 d224_10 ?_
      refine x_iload_n (pc := 13) rfl d224_13 ?_
      refine m_iald (pc := 14) (xa190 (by omega)) (by omega) (by omega) (by omega) d224_14 ?_
      refine x_val (pc := 15) (w := 7) (hk) ?_
      refine x_tabOut (pc := 15) (tgt := 116) ⟨by omega, by omega⟩ d224_15 (by decide) (by decide) ?_
      refine x_aload_n (pc := 116) rfl d224_116 ?_
      refine x_iload_n (pc := 117) rfl d224_117 ?_
      refine x_cVes (pc := 118) c224_331 (rt_chT hl hq (A := A) hR hA (d := a) (by omega) cd) (xo181 (by omega)) rfl rfl (Nat.le_of_ble_eq_true rfl) (by decide +kernel) (by decide +kernel) d224_118 (fun J1 hJ1 => ?_)
      refine x_zret (pc := 121) rfl (Or.inr rfl) (fun _ => rfl) d224_121 ?_
      exact ⟨J1, rfl, hJ1.x⟩
    · rw [if_neg cd]
      refine mkct2 hl (by decide) (Nat.le_of_ble_eq_true rfl) (L := [some (.ref 181), some (.int (iI f)), none]) rfl ?_
      refine x_aload_n (pc := 0) rfl d224_0 ?_
      refine m_getR (pc := 1) f224_38 (by decide +kernel) (xo181 (by omega)) rr181_20 d224_1 ?_
      refine x_iload_n (pc := 4) rfl d224_4 ?_
      refine x_iconst (pc := 5) d224_5 ?_
      refine x_iadd (pc := 6) d224_6 ?_
      refine m_iald (pc := 7) (xa190 (by omega)) (by omega) (by omega) (by omega) d224_7 ?_
      refine x_val (pc := 8) (w := a) (ha) ?_
      refine x_istore_n (pc := 8) (by decide +kernel) rfl d224_8 ?_
      dsimp only [List.set]
      refine x_aload_n (pc := 9) rfl d224_9 ?_
      refine m_getR (pc := 10) f224_38 (by decide +kernel) (xo181 (by omega)) rr181_20 d224_10 ?_
      refine x_iload_n (pc := 13) rfl d224_13 ?_
      refine m_iald (pc := 14) (xa190 (by omega)) (by omega) (by omega) (by omega) d224_14 ?_
      refine x_val (pc := 15) (w := 7) (hk) ?_
      refine x_tabOut (pc := 15) (tgt := 116) ⟨by omega, by omega⟩ d224_15 (by decide) (by decide) ?_
      refine x_aload_n (pc := 116) rfl d224_116 ?_
      refine x_iload_n (pc := 117) rfl d224_117 ?_
      refine x_cVs (pc := 118) c224_331 (rt_chF hl hq (A := A) hR hA (d := a) ⟨by omega, by omega⟩ (by omega)) (xo181 (by omega)) rfl rfl (Nat.le_of_ble_eq_true rfl) (by decide +kernel) (by decide +kernel) rfl d224_118 ?_
      refine x_zret (pc := 121) rfl (Or.inl rfl) (fun _ => rfl) d224_121 ?_
      exact ⟨I, rfl, oX.refl hR⟩
end Rdo
