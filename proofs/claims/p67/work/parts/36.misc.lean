/-! ===== sums over frames; a pattern's bits ===== -/
def intA (A : AV) (f : Int) : Bool := decide (A 9 f ≠ 0) && allD (A 6 f) (fun k => decide (A 11 (6 * f + k) = A 10 (6 * f + k)))
def triA (A : AV) : Int := sumF (A 8) (A 0 6).toNat
def untA (A : AV) : Int := sumF (fun f => if A 7 f = 1 ∧ A 8 f = 0 then 1 else 0) (A 0 6).toNat
def ackA (A : AV) : Int := sumF (fun f => if A 7 f = 1 then A 6 f - 2 else 0) (A 0 6).toNat
theorem sumF_b {g : Int → Int} {z : Int} (hz : 0 ≤ z) : ∀ n : Nat, (∀ i : Int, 0 ≤ i → i < n → 0 ≤ g i ∧ g i ≤ z) → 0 ≤ sumF g n ∧ sumF g n ≤ n * z
  | 0, _ => ⟨Int.le_refl 0, by rw [show ((0 : Nat) : Int) * z = 0 from Int.zero_mul z]; exact Int.le_refl 0⟩
  | n + 1, h => by
    have ih := sumF_b hz n (fun i h0 h1 => h i h0 (by omega))
    have := h n (by omega) (by omega)
    show 0 ≤ sumF g n + g n ∧ sumF g n + g n ≤ ((n + 1 : Nat) : Int) * z
    rw [Int.natCast_add, Int.add_mul]
    omega
/-- the bit that a pattern of dg digits inverts, laid from bit frm on -/
def flp (pat dg frm b : Int) : Int := if 0 ≤ frm + dg - 1 - b ∧ frm + dg - 1 - b < dg then pat / 2 ^ (frm + dg - 1 - b).toNat % 2 else 0
def flpZ (S : Int → Int) (pat dg frm b : Int) : Int := xorZ (bitZ S b) (flp pat dg frm b)
def wpA (A : AV) (f pat frm : Int) : Bool := readZ (byteZ (flpZ (SfA A f) pat (bdig pat 16) frm)) (A 6 f).toNat
theorem flp_r (pat dg frm b : Int) : flp pat dg frm b = 0 ∨ flp pat dg frm b = 1 := by
  unfold flp
  split <;> omega
theorem flpZ_r (S : Int → Int) (pat dg frm b : Int) : flpZ S pat dg frm b = 0 ∨ flpZ S pat dg frm b = 1 := by
  unfold flpZ
  rcases bitZ_r S b with e | e <;> rcases flp_r pat dg frm b with e2 | e2 <;> rw [e, e2] <;> decide
theorem tkI_0 (b : Int) : tkI b 0 = b := by unfold tkI; omega
theorem bdig_r (z : Int) : ∀ n : Nat, bdig z n ≤ n := by
  intro n
  induction n generalizing z with
  | zero => exact Nat.le_refl 0
  | succ n ih =>
    unfold bdig
    split
    · have := ih (z / 2); omega
    · omega
section Misc
variable {l : LX} {q p : Nat} {I : Nat → Int → Int} {v : Int} {fr : Bool} {c : Int}
/-- entries of the view -/
theorem vc_ent10 (h : CINV I p c) {f k : Int} (h0 : 0 ≤ f) (h1 : f < I (p + 7) 0) (k0 : 0 ≤ k) (k1 : k < I (p + 8) f) : Vc I p 10 (6 * f + k) = I (p + 12) (f * 6 + k) := by
  have hf := h.fr h0 h1
  rw [vc10, entB_pos (by omega) (by omega) (by rw [show (6 * f + k) / 6 = f from by omega]; omega), show 6 * f + k = f * 6 + k from by omega]
theorem vc_ent11 (h : CINV I p c) {f k : Int} (h0 : 0 ≤ f) (h1 : f < I (p + 7) 0) (k0 : 0 ≤ k) (k1 : k < I (p + 8) f) (ha : 0 < I (p + 11) f) : Vc I p 11 (6 * f + k) = I (p + 13) (f * 6 + k) := by
  have hf := h.fr h0 h1
  rw [vc11, entB_pos (by omega) (by omega) (by
    rw [show (6 * f + k) / 6 = f from by omega, show flag (I (p + 11) f) = 1 from if_pos ha]; omega), show 6 * f + k = f * 6 + k from by omega]
theorem vc_ent9 {f : Int} (h0 : 0 ≤ f) (h1 : f < I (p + 7) 0) : Vc I p 9 f = flag (I (p + 11) f) := by rw [vc9, ent_in h0 h1]
theorem lp_intact (hl : l.1.stackTraces = false) (hp : LineAt q p) (h : CINV I p c) {f : Int} (h0 : 0 ≤ f) (h1 : f < I (p + 7) 0) (ha : 0 < I (p + 11) f) : ∀ (m i : Nat), (m : Int) + i = I (p + 8) f → (∀ j : Nat, j < i → decide (Vc I p 11 (6 * f + j) = Vc I p 10 (6 * f + j)) = true) →
    Ex l 24 0 0 28 [some (.ref (p + 7)), some (.int (iI f)), some (.int (iI (f * 6))), some (.int (iI i))] [] (mm q I v fr) (fun o => o = (.inl (some (.int (iI (b01 (allD (I (p + 8) f) (fun k => decide (Vc I p 11 (6 * f + k) = Vc I p 10 (6 * f + k)))))))), mm q I v fr)) := by
  have hpb := hp.b
  have hs := h.sc
  have hf := h.fr h0 h1
  intro m
  induction m with
  | zero =>
    intro i hi hno
    refine x_iload_n (pc := 28) rfl d24_28 ?_
    refine x_aload_n (pc := 29) rfl d24_29 ?_
    refine m_getR (pc := 30) f24_9 (by decide +kernel) hp.o7 hp.r7_1 d24_30 ?_
    refine x_iload_n (pc := 33) rfl d24_33 ?_
    refine m_iald (pc := 34) hp.a8 (by omega) (by omega) (by omega) d24_34 ?_
    refine x_icmp_ge (pc := 35) (tgt := 71) ⟨by omega, by omega⟩ ⟨by omega, by omega⟩ d24_35 (by decide) (fun g35 => ?_) (fun g35 => ?_)
    · refine x_iconst (pc := 71) d24_71 ?_
      refine x_zret (pc := 72) rfl (Or.inr rfl) (fun _ => rfl) d24_72 ?_
      rw [allD_yes (i := i) (by omega) hno]; rfl
    · refine x_iload_n (pc := 38) rfl d24_38 ?_
      refine x_bipush (pc := 39) (by decide) d24_39 ?_
      refine x_icmp_ge (pc := 41) (tgt := 71) ⟨by omega, by omega⟩ ⟨by omega, by omega⟩ d24_41 (by decide) (fun g41 => ?_) (fun g41 => ?_)
      · refine x_iconst (pc := 71) d24_71 ?_
        refine x_zret (pc := 72) rfl (Or.inr rfl) (fun _ => rfl) d24_72 ?_
        exfalso; omega
      · exfalso; omega
  | succ m ih =>
    intro i hi hno
    have e10 := vc_ent10 h h0 h1 (k := i) (by omega) (by omega)
    have e11 := vc_ent11 h h0 h1 (k := i) (by omega) (by omega) ha
    have b1 := h.2.1 (f * 6 + i) (by omega) (by omega)
    refine x_iload_n (pc := 28) rfl d24_28 ?_
    refine x_aload_n (pc := 29) rfl d24_29 ?_
    refine m_getR (pc := 30) f24_9 (by decide +kernel) hp.o7 hp.r7_1 d24_30 ?_
    refine x_iload_n (pc := 33) rfl d24_33 ?_
    refine m_iald (pc := 34) hp.a8 (by omega) (by omega) (by omega) d24_34 ?_
    refine x_icmp_ge (pc := 35) (tgt := 71) ⟨by omega, by omega⟩ ⟨by omega, by omega⟩ d24_35 (by decide) (fun g35 => ?_) (fun g35 => ?_)
    · refine x_iconst (pc := 71) d24_71 ?_
      refine x_zret (pc := 72) rfl (Or.inr rfl) (fun _ => rfl) d24_72 ?_
      exfalso; omega
    · refine x_iload_n (pc := 38) rfl d24_38 ?_
      refine x_bipush (pc := 39) (by decide) d24_39 ?_
      refine x_icmp_ge (pc := 41) (tgt := 71) ⟨by omega, by omega⟩ ⟨by omega, by omega⟩ d24_41 (by decide) (fun g41 => ?_) (fun g41 => ?_)
      · refine x_iconst (pc := 71) d24_71 ?_
        refine x_zret (pc := 72) rfl (Or.inr rfl) (fun _ => rfl) d24_72 ?_
        exfalso; omega
      · refine x_aload_n (pc := 44) rfl d24_44 ?_
        refine m_getR (pc := 45) f24_27 (by decide +kernel) hp.o7 hp.r7_6 d24_45 ?_
        refine x_iload_n (pc := 48) rfl d24_48 ?_
        refine x_iload_n (pc := 49) rfl d24_49 ?_
        refine x_iadd (pc := 50) d24_50 ?_
        refine m_iald (pc := 51) hp.a13 (by omega) (by omega) (by omega) d24_51 ?_
        refine x_aload_n (pc := 52) rfl d24_52 ?_
        refine m_getR (pc := 53) f24_24 (by decide +kernel) hp.o7 hp.r7_5 d24_53 ?_
        refine x_iload_n (pc := 56) rfl d24_56 ?_
        refine x_iload_n (pc := 57) rfl d24_57 ?_
        refine x_iadd (pc := 58) d24_58 ?_
        refine m_iald (pc := 59) hp.a12 (by omega) (by omega) (by omega) d24_59 ?_
        refine x_icmp_eq (pc := 60) (tgt := 65) ⟨by omega, by omega⟩ ⟨by omega, by omega⟩ d24_60 (by decide) (fun g60 => ?_) (fun g60 => ?_)
        · refine x_iinc (pc := 65) rfl (by decide +kernel) rfl d24_65 ?_
          dsimp only [List.set]
          refine x_goto (pc := 68) (tgt := 28) d24_68 (by decide) ?_
          refine ih (i + 1) (by omega) (fun j hj => ?_)
          by_cases e : j = i
          · rw [e, e10, e11]; exact decide_eq_true g60
          · exact hno j (by omega)
        · refine x_iconst (pc := 63) d24_63 ?_
          refine x_zret (pc := 64) rfl (Or.inl rfl) (fun _ => rfl) d24_64 ?_
          rw [allD_no (i := i) (by omega) (decide_eq_false (by rw [e10, e11]; exact g60))]; rfl
theorem dt_intact (hl : l.1.stackTraces = false) (hp : LineAt q p) (h : CINV I p c) {f : Int} (h0 : 0 ≤ f) (h1 : f < I (p + 7) 0) : DT l 24 [.ref (p + 7), .int (iI f)] (mm q I v fr) 0 0 (.inl (some (.int (iI (b01 (intA (Vc I p) f))))), mm q I v fr) := by
  have hpb := hp.b
  have hs := h.sc
  have hf := h.fr h0 h1
  have ha := h.2.2.1 f h0 h1
  have e9 : Vc I p 9 f = flag (I (p + 11) f) := vc_ent9 h0 h1
  refine mkdt hl (by decide) (Nat.le_of_ble_eq_true rfl) (L := [some (.ref (p + 7)), some (.int (iI f)), none, none]) rfl ?_
  refine x_iload_n (pc := 0) rfl d24_0 ?_
  refine x_if_lt (pc := 1) (tgt := 19) ⟨by omega, by omega⟩ d24_1 (by decide) (fun g1 => ?_) (fun g1 => ?_)
  · refine x_iconst (pc := 19) d24_19 ?_
    refine x_zret (pc := 20) rfl (Or.inl rfl) (fun _ => rfl) d24_20 ?_
    exfalso; omega
  · refine x_iload_n (pc := 4) rfl d24_4 ?_
    refine x_bipush (pc := 5) (by decide) d24_5 ?_
    refine x_icmp_ge (pc := 7) (tgt := 19) ⟨by omega, by omega⟩ ⟨by omega, by omega⟩ d24_7 (by decide) (fun g7 => ?_) (fun g7 => ?_)
    · refine x_iconst (pc := 19) d24_19 ?_
      refine x_zret (pc := 20) rfl (Or.inl rfl) (fun _ => rfl) d24_20 ?_
      exfalso; omega
    · refine x_aload_n (pc := 10) rfl d24_10 ?_
      refine m_getR (pc := 11) f24_21 (by decide +kernel) hp.o7 hp.r7_4 d24_11 ?_
      refine x_iload_n (pc := 14) rfl d24_14 ?_
      refine m_iald (pc := 15) hp.a11 (by omega) (by omega) (by omega) d24_15 ?_
      refine x_if_ne (pc := 16) (tgt := 21) ⟨by omega, by omega⟩ d24_16 (by decide) (fun g16 => ?_) (fun g16 => ?_)
      · refine x_iload_n (pc := 21) rfl d24_21 ?_
        refine x_bipush (pc := 22) (by decide) d24_22 ?_
        refine x_imul (pc := 24) d24_24 ?_
        refine x_istore_n (pc := 25) (by decide +kernel) rfl d24_25 ?_
        dsimp only [List.set]
        refine x_iconst (pc := 26) d24_26 ?_
        refine x_istore_n (pc := 27) (by decide +kernel) rfl d24_27 ?_
        dsimp only [List.set]
        unfold intA
        rw [e9, show flag (I (p + 11) f) = 1 from if_pos (by omega), (vrow h0 h1).1]
        exact lp_intact hl hp h h0 h1 (by omega) (I (p + 8) f).toNat 0 (by omega) (fun j hj => absurd hj (Nat.not_lt_zero _))
      · refine x_iconst (pc := 19) d24_19 ?_
        refine x_zret (pc := 20) rfl (Or.inl rfl) (fun _ => rfl) d24_20 ?_
        unfold intA
        rw [e9, show flag (I (p + 11) f) = 0 from if_neg (by omega)]; rfl
theorem lp_tries (hl : l.1.stackTraces = false) (hp : LineAt q p) (h : CINV I p c) : ∀ (m i : Nat), (m : Int) + i = I (p + 7) 0 →
    Ex l 25 0 0 4 [some (.ref (p + 7)), some (.int (iI (sumF (Vc I p 8) i))), some (.int (iI i))] [] (mm q I v fr) (fun o => o = (.inl (some (.int (iI (triA (Vc I p))))), mm q I v fr)) := by
  have hpb := hp.b
  have hs := h.sc
  intro m
  induction m with
  | zero =>
    intro i hi
    refine x_iload_n (pc := 4) rfl d25_4 ?_
    refine x_aload_n (pc := 5) rfl d25_5 ?_
    refine m_getI (pc := 6) (z := 0) f25_30 (by decide +kernel) rfl hp.o7 d25_6 ?_
    refine x_icmp_ge (pc := 9) (tgt := 33) ⟨by omega, by omega⟩ ⟨by omega, by omega⟩ d25_9 (by decide) (fun g9 => ?_) (fun g9 => ?_)
    · refine x_iload_n (pc := 33) rfl d25_33 ?_
      refine x_iret (pc := 34) rfl (fun _ => rfl) d25_34 ?_
      unfold triA; rw [vr6, show (I (p + 7) 0).toNat = i from by omega]
    · exfalso; omega
  | succ m ih =>
    intro i hi
    refine x_iload_n (pc := 4) rfl d25_4 ?_
    refine x_aload_n (pc := 5) rfl d25_5 ?_
    refine m_getI (pc := 6) (z := 0) f25_30 (by decide +kernel) rfl hp.o7 d25_6 ?_
    refine x_icmp_ge (pc := 9) (tgt := 33) ⟨by omega, by omega⟩ ⟨by omega, by omega⟩ d25_9 (by decide) (fun g9 => ?_) (fun g9 => ?_)
    · refine x_iload_n (pc := 33) rfl d25_33 ?_
      refine x_iret (pc := 34) rfl (fun _ => rfl) d25_34 ?_
      exfalso; omega
    · refine x_iload_n (pc := 12) rfl d25_12 ?_
      refine x_bipush (pc := 13) (by decide) d25_13 ?_
      refine x_icmp_ge (pc := 15) (tgt := 33) ⟨by omega, by omega⟩ ⟨by omega, by omega⟩ d25_15 (by decide) (fun g15 => ?_) (fun g15 => ?_)
      · refine x_iload_n (pc := 33) rfl d25_33 ?_
        refine x_iret (pc := 34) rfl (fun _ => rfl) d25_34 ?_
        exfalso; omega
      · refine x_iload_n (pc := 18) rfl d25_18 ?_
        refine x_aload_n (pc := 19) rfl d25_19 ?_
        refine m_getR (pc := 20) f25_18 (by decide +kernel) hp.o7 hp.r7_3 d25_20 ?_
        refine x_iload_n (pc := 23) rfl d25_23 ?_
        refine m_iald (pc := 24) hp.a10 (by omega) (by omega) (by omega) d25_24 ?_
        refine x_iadd (pc := 25) d25_25 ?_
        refine x_istore_n (pc := 26) (by decide +kernel) rfl d25_26 ?_
        dsimp only [List.set]
        refine x_iinc (pc := 27) rfl (by decide +kernel) rfl d25_27 ?_
        dsimp only [List.set]
        refine x_goto (pc := 30) (tgt := 4) d25_30 (by decide) ?_
        rw [show sumF (Vc I p 8) i + I (p + 10) i = sumF (Vc I p 8) (i + 1) from by rw [← (vrow (I := I) (p := p) (f := i) (by omega) (by omega)).2.2]; rfl]
        exact ih (i + 1) (by omega)
theorem dt_tries (hl : l.1.stackTraces = false) (hp : LineAt q p) (h : CINV I p c) : DT l 25 [.ref (p + 7)] (mm q I v fr) 0 0 (.inl (some (.int (iI (triA (Vc I p))))), mm q I v fr) := by
  have hs := h.sc
  refine mkdt hl (by decide) (Nat.le_of_ble_eq_true rfl) (L := [some (.ref (p + 7)), none, none]) rfl ?_
  refine x_iconst (pc := 0) d25_0 ?_
  refine x_istore_n (pc := 1) (by decide +kernel) rfl d25_1 ?_
  dsimp only [List.set]
  refine x_iconst (pc := 2) d25_2 ?_
  refine x_istore_n (pc := 3) (by decide +kernel) rfl d25_3 ?_
  dsimp only [List.set]
  exact lp_tries hl hp h (I (p + 7) 0).toNat 0 (by omega)
theorem lp_unt (hl : l.1.stackTraces = false) (hp : LineAt q p) (h : CINV I p c) : ∀ (m i : Nat), (m : Int) + i = I (p + 7) 0 →
    Ex l 26 0 0 4 [some (.ref (p + 7)), some (.int (iI (sumF (fun f => if Vc I p 7 f = 1 ∧ Vc I p 8 f = 0 then 1 else 0) i))), some (.int (iI i))] [] (mm q I v fr) (fun o => o = (.inl (some (.int (iI (untA (Vc I p))))), mm q I v fr)) := by
  have hpb := hp.b
  have hs := h.sc
  intro m
  induction m with
  | zero =>
    intro i hi
    refine x_iload_n (pc := 4) rfl d26_4 ?_
    refine x_aload_n (pc := 5) rfl d26_5 ?_
    refine m_getI (pc := 6) (z := 0) f26_30 (by decide +kernel) rfl hp.o7 d26_6 ?_
    refine x_icmp_ge (pc := 9) (tgt := 46) ⟨by omega, by omega⟩ ⟨by omega, by omega⟩ d26_9 (by decide) (fun g9 => ?_) (fun g9 => ?_)
    · refine x_iload_n (pc := 46) rfl d26_46 ?_
      refine x_iret (pc := 47) rfl (fun _ => rfl) d26_47 ?_
      unfold untA; rw [vr6, show (I (p + 7) 0).toNat = i from by omega]
    · exfalso; omega
  | succ m ih =>
    intro i hi
    have hf := h.fr (f := i) (by omega) (by omega)
    have hv := vrow (I := I) (p := p) (f := i) (by omega) (by omega)
    have es : ∀ z : Int, z = (if Vc I p 7 i = 1 ∧ Vc I p 8 i = 0 then 1 else 0) → sumF (fun f => if Vc I p 7 f = 1 ∧ Vc I p 8 f = 0 then 1 else 0) i + z = sumF (fun f => if Vc I p 7 f = 1 ∧ Vc I p 8 f = 0 then 1 else 0) (i + 1) := fun z hz => by rw [hz]; rfl
    refine x_iload_n (pc := 4) rfl d26_4 ?_
    refine x_aload_n (pc := 5) rfl d26_5 ?_
    refine m_getI (pc := 6) (z := 0) f26_30 (by decide +kernel) rfl hp.o7 d26_6 ?_
    refine x_icmp_ge (pc := 9) (tgt := 46) ⟨by omega, by omega⟩ ⟨by omega, by omega⟩ d26_9 (by decide) (fun g9 => ?_) (fun g9 => ?_)
    · refine x_iload_n (pc := 46) rfl d26_46 ?_
      refine x_iret (pc := 47) rfl (fun _ => rfl) d26_47 ?_
      exfalso; omega
    · refine x_iload_n (pc := 12) rfl d26_12 ?_
      refine x_bipush (pc := 13) (by decide) d26_13 ?_
      refine x_icmp_ge (pc := 15) (tgt := 46) ⟨by omega, by omega⟩ ⟨by omega, by omega⟩ d26_15 (by decide) (fun g15 => ?_) (fun g15 => ?_)
      · refine x_iload_n (pc := 46) rfl d26_46 ?_
        refine x_iret (pc := 47) rfl (fun _ => rfl) d26_47 ?_
        exfalso; omega
      · refine x_aload_n (pc := 18) rfl d26_18 ?_
        refine m_getR (pc := 19) f26_15 (by decide +kernel) hp.o7 hp.r7_2 d26_19 ?_
        refine x_iload_n (pc := 22) rfl d26_22 ?_
        refine m_iald (pc := 23) hp.a9 (by omega) (by omega) (by omega) d26_23 ?_
        refine x_iconst (pc := 24) d26_24 ?_
        refine x_icmp_ne (pc := 25) (tgt := 40) ⟨by omega, by omega⟩ ⟨by omega, by omega⟩ d26_25 (by decide) (fun g25 => ?_) (fun g25 => ?_)
        · refine x_iinc (pc := 40) rfl (by decide +kernel) rfl d26_40 ?_
          dsimp only [List.set]
          refine x_goto (pc := 43) (tgt := 4) d26_43 (by decide) ?_
          rw [← Int.add_zero (sumF _ i), es 0 (by rw [if_neg (by omega)])]
          exact ih (i + 1) (by omega)
        · refine x_aload_n (pc := 28) rfl d26_28 ?_
          refine m_getR (pc := 29) f26_18 (by decide +kernel) hp.o7 hp.r7_3 d26_29 ?_
          refine x_iload_n (pc := 32) rfl d26_32 ?_
          refine m_iald (pc := 33) hp.a10 (by omega) (by omega) (by omega) d26_33 ?_
          refine x_if_ne (pc := 34) (tgt := 40) ⟨by omega, by omega⟩ d26_34 (by decide) (fun g34 => ?_) (fun g34 => ?_)
          · refine x_iinc (pc := 40) rfl (by decide +kernel) rfl d26_40 ?_
            dsimp only [List.set]
            refine x_goto (pc := 43) (tgt := 4) d26_43 (by decide) ?_
            rw [← Int.add_zero (sumF _ i), es 0 (by rw [if_neg (by omega)])]
            exact ih (i + 1) (by omega)
          · refine x_iinc (pc := 37) rfl (by decide +kernel) rfl d26_37 ?_
            dsimp only [List.set]
            refine x_iinc (pc := 40) rfl (by decide +kernel) rfl d26_40 ?_
            dsimp only [List.set]
            refine x_goto (pc := 43) (tgt := 4) d26_43 (by decide) ?_
            rw [es 1 (by rw [if_pos (by omega)])]
            exact ih (i + 1) (by omega)
theorem dt_unt (hl : l.1.stackTraces = false) (hp : LineAt q p) (h : CINV I p c) : DT l 26 [.ref (p + 7)] (mm q I v fr) 0 0 (.inl (some (.int (iI (untA (Vc I p))))), mm q I v fr) := by
  have hs := h.sc
  refine mkdt hl (by decide) (Nat.le_of_ble_eq_true rfl) (L := [some (.ref (p + 7)), none, none]) rfl ?_
  refine x_iconst (pc := 0) d26_0 ?_
  refine x_istore_n (pc := 1) (by decide +kernel) rfl d26_1 ?_
  dsimp only [List.set]
  refine x_iconst (pc := 2) d26_2 ?_
  refine x_istore_n (pc := 3) (by decide +kernel) rfl d26_3 ?_
  dsimp only [List.set]
  exact lp_unt hl hp h (I (p + 7) 0).toNat 0 (by omega)
theorem lp_ackB (hl : l.1.stackTraces = false) (hp : LineAt q p) (h : CINV I p c) : ∀ (m i : Nat), (m : Int) + i = I (p + 7) 0 →
    Ex l 27 0 0 4 [some (.ref (p + 7)), some (.int (iI (sumF (fun f => if Vc I p 7 f = 1 then Vc I p 6 f - 2 else 0) i))), some (.int (iI i))] [] (mm q I v fr) (fun o => o = (.inl (some (.int (iI (ackA (Vc I p))))), mm q I v fr)) := by
  have hpb := hp.b
  have hs := h.sc
  intro m
  induction m with
  | zero =>
    intro i hi
    refine x_iload_n (pc := 4) rfl d27_4 ?_
    refine x_aload_n (pc := 5) rfl d27_5 ?_
    refine m_getI (pc := 6) (z := 0) f27_30 (by decide +kernel) rfl hp.o7 d27_6 ?_
    refine x_icmp_ge (pc := 9) (tgt := 45) ⟨by omega, by omega⟩ ⟨by omega, by omega⟩ d27_9 (by decide) (fun g9 => ?_) (fun g9 => ?_)
    · refine x_iload_n (pc := 45) rfl d27_45 ?_
      refine x_iret (pc := 46) rfl (fun _ => rfl) d27_46 ?_
      unfold ackA; rw [vr6, show (I (p + 7) 0).toNat = i from by omega]
    · exfalso; omega
  | succ m ih =>
    intro i hi
    have hf := h.fr (f := i) (by omega) (by omega)
    have hv := vrow (I := I) (p := p) (f := i) (by omega) (by omega)
    have es : ∀ z : Int, z = (if Vc I p 7 i = 1 then Vc I p 6 i - 2 else 0) → sumF (fun f => if Vc I p 7 f = 1 then Vc I p 6 f - 2 else 0) i + z = sumF (fun f => if Vc I p 7 f = 1 then Vc I p 6 f - 2 else 0) (i + 1) := fun z hz => by rw [hz]; rfl
    refine x_iload_n (pc := 4) rfl d27_4 ?_
    refine x_aload_n (pc := 5) rfl d27_5 ?_
    refine m_getI (pc := 6) (z := 0) f27_30 (by decide +kernel) rfl hp.o7 d27_6 ?_
    refine x_icmp_ge (pc := 9) (tgt := 45) ⟨by omega, by omega⟩ ⟨by omega, by omega⟩ d27_9 (by decide) (fun g9 => ?_) (fun g9 => ?_)
    · refine x_iload_n (pc := 45) rfl d27_45 ?_
      refine x_iret (pc := 46) rfl (fun _ => rfl) d27_46 ?_
      exfalso; omega
    · refine x_iload_n (pc := 12) rfl d27_12 ?_
      refine x_bipush (pc := 13) (by decide) d27_13 ?_
      refine x_icmp_ge (pc := 15) (tgt := 45) ⟨by omega, by omega⟩ ⟨by omega, by omega⟩ d27_15 (by decide) (fun g15 => ?_) (fun g15 => ?_)
      · refine x_iload_n (pc := 45) rfl d27_45 ?_
        refine x_iret (pc := 46) rfl (fun _ => rfl) d27_46 ?_
        exfalso; omega
      · refine x_aload_n (pc := 18) rfl d27_18 ?_
        refine m_getR (pc := 19) f27_15 (by decide +kernel) hp.o7 hp.r7_2 d27_19 ?_
        refine x_iload_n (pc := 22) rfl d27_22 ?_
        refine m_iald (pc := 23) hp.a9 (by omega) (by omega) (by omega) d27_23 ?_
        refine x_iconst (pc := 24) d27_24 ?_
        refine x_icmp_ne (pc := 25) (tgt := 39) ⟨by omega, by omega⟩ ⟨by omega, by omega⟩ d27_25 (by decide) (fun g25 => ?_) (fun g25 => ?_)
        · refine x_iinc (pc := 39) rfl (by decide +kernel) rfl d27_39 ?_
          dsimp only [List.set]
          refine x_goto (pc := 42) (tgt := 4) d27_42 (by decide) ?_
          rw [← Int.add_zero (sumF _ i), es 0 (by rw [if_neg (by omega)])]
          exact ih (i + 1) (by omega)
        · refine x_iload_n (pc := 28) rfl d27_28 ?_
          refine x_aload_n (pc := 29) rfl d27_29 ?_
          refine m_getR (pc := 30) f27_9 (by decide +kernel) hp.o7 hp.r7_1 d27_30 ?_
          refine x_iload_n (pc := 33) rfl d27_33 ?_
          refine m_iald (pc := 34) hp.a8 (by omega) (by omega) (by omega) d27_34 ?_
          refine x_iconst (pc := 35) d27_35 ?_
          refine x_isub (pc := 36) d27_36 ?_
          refine x_iadd (pc := 37) d27_37 ?_
          refine x_istore_n (pc := 38) (by decide +kernel) rfl d27_38 ?_
          dsimp only [List.set]
          refine x_iinc (pc := 39) rfl (by decide +kernel) rfl d27_39 ?_
          dsimp only [List.set]
          refine x_goto (pc := 42) (tgt := 4) d27_42 (by decide) ?_
          rw [es _ (by rw [if_pos (by omega), hv.1])]
          exact ih (i + 1) (by omega)
theorem dt_ackB (hl : l.1.stackTraces = false) (hp : LineAt q p) (h : CINV I p c) : DT l 27 [.ref (p + 7)] (mm q I v fr) 0 0 (.inl (some (.int (iI (ackA (Vc I p))))), mm q I v fr) := by
  have hs := h.sc
  refine mkdt hl (by decide) (Nat.le_of_ble_eq_true rfl) (L := [some (.ref (p + 7)), none, none]) rfl ?_
  refine x_iconst (pc := 0) d27_0 ?_
  refine x_istore_n (pc := 1) (by decide +kernel) rfl d27_1 ?_
  dsimp only [List.set]
  refine x_iconst (pc := 2) d27_2 ?_
  refine x_istore_n (pc := 3) (by decide +kernel) rfl d27_3 ?_
  dsimp only [List.set]
  exact lp_ackB hl hp h (I (p + 7) 0).toNat 0 (by omega)
/-- binaryDigits -/
theorem lp_digits (hl : l.1.stackTraces = false) {z : Int} (h0 : 0 ≤ z) (h1 : z ≤ 65535) : ∀ (m i : Nat), m + i = 16 →
    Ex l 144 0 0 2 [some (.int (iI z)), some (.int (iI i))] [] (mm q I v fr) (fun o => o = (.inl (some (.int (iI (i + bdig (z / 2 ^ i) m)))), mm q I v fr)) := by
  intro m
  induction m with
  | zero =>
    intro i hi
    refine x_iload_n (pc := 2) rfl d144_2 ?_
    refine x_bipush (pc := 3) (by decide) d144_3 ?_
    refine x_icmp_ge (pc := 5) (tgt := 20) ⟨by omega, by omega⟩ ⟨by omega, by omega⟩ d144_5 (by decide) (fun g5 => ?_) (fun g5 => ?_)
    · refine x_iload_n (pc := 20) rfl d144_20 ?_
      refine x_iret (pc := 21) rfl (fun _ => rfl) d144_21 ?_
      rw [show (i : Int) + (bdig (z / 2 ^ i) 0 : Nat) = i from Int.add_zero _]
    · exfalso; omega
  | succ m ih =>
    intro i hi
    have e2 : z / 2 ^ i / 2 = z / 2 ^ (i + 1) := by rw [Int.pow_succ, Int.ediv_ediv_of_nonneg (Int.le_of_lt (Int.pow_pos (by decide)))]
    have hd0 : 0 ≤ z / 2 ^ ((i : Int)).toNat := Int.ediv_nonneg h0 (Int.le_of_lt (Int.pow_pos (by decide)))
    have hd1 : z / 2 ^ ((i : Int)).toNat ≤ z := Int.ediv_le_self _ h0
    refine x_iload_n (pc := 2) rfl d144_2 ?_
    refine x_bipush (pc := 3) (by decide) d144_3 ?_
    refine x_icmp_ge (pc := 5) (tgt := 20) ⟨by omega, by omega⟩ ⟨by omega, by omega⟩ d144_5 (by decide) (fun g5 => ?_) (fun g5 => ?_)
    · refine x_iload_n (pc := 20) rfl d144_20 ?_
      refine x_iret (pc := 21) rfl (fun _ => rfl) d144_21 ?_
      exfalso; omega
    · refine x_iload_n (pc := 8) rfl d144_8 ?_
      refine x_iload_n (pc := 9) rfl d144_9 ?_
      refine x_ishr (pc := 10) (iI_shr ⟨by omega, by omega⟩ (by omega) (by omega)) d144_10 ?_
      refine x_if_le (pc := 11) (tgt := 20) ⟨by omega, by omega⟩ d144_11 (by decide) (fun g11 => ?_) (fun g11 => ?_)
      · refine x_iload_n (pc := 20) rfl d144_20 ?_
        refine x_iret (pc := 21) rfl (fun _ => rfl) d144_21 ?_
        rw [Int.toNat_natCast] at g11
        rw [show bdig (z / 2 ^ i) (m + 1) = 0 from if_neg (by omega), show (i : Int) + ((0 : Nat) : Int) = i from Int.add_zero _]
      · refine x_iinc (pc := 14) rfl (by decide +kernel) rfl d144_14 ?_
        dsimp only [List.set]
        refine x_goto (pc := 17) (tgt := 2) d144_17 (by decide) ?_
        rw [Int.toNat_natCast] at g11
        have e3 : bdig (z / 2 ^ i) (m + 1) = 1 + bdig (z / 2 ^ (i + 1)) m := by rw [← e2]; exact if_pos (by omega)
        rw [e3, show (i : Int) + ((1 + bdig (z / 2 ^ (i + 1)) m : Nat) : Int) = ((i + 1 : Nat) : Int) + bdig (z / 2 ^ (i + 1)) m from by omega]
        exact ih (i + 1) (by omega)
theorem dt_digits (hl : l.1.stackTraces = false) {z : Int} (h0 : 0 ≤ z) (h1 : z ≤ 65535) : DT l 144 [.int (iI z)] (mm q I v fr) 0 0 (.inl (some (.int (iI (bdig z 16)))), mm q I v fr) := by
  refine mkdt hl (by decide) (Nat.le_of_ble_eq_true rfl) (L := [some (.int (iI z)), none]) rfl ?_
  refine x_iconst (pc := 0) d144_0 ?_
  refine x_istore_n (pc := 1) (by decide +kernel) rfl d144_1 ?_
  dsimp only [List.set]
  have := lp_digits (q := q) (I := I) (v := v) (fr := fr) hl h0 h1 16 0 rfl
  rw [show z / 2 ^ 0 = z from Int.ediv_one z, show ((0 : Nat) : Int) + bdig z 16 = bdig z 16 from Int.zero_add _] at this
  exact this
/-- takeInverted -/
theorem lp_inv (hl : l.1.stackTraces = false) (hq : 181 ≤ q) (hp : LineAt q p) (hF : FramesOK I p) {f pat dg frm : Int} (h0 : 0 ≤ f) (h1 : f < I (p + 7) 0) (hpt0 : 0 ≤ pat) (hpt1 : pat ≤ 65535) (hd0 : 0 ≤ dg) (hd1 : dg ≤ 16) (hf0 : 0 ≤ frm) (hf1 : frm ≤ 48) {Q : OO → Prop}
    (hk : ∀ J : Nat → Int → Int, offC I J → CabI J (I (p + 8) f * 8) (flpZ (Sf I p f) pat dg frm) → Ex l 59 0 0 87 [some (.ref 11), none, none, none, none, none, none, none, none] [] (mm q J v fr) Q) : ∀ (m i : Nat) (J : Nat → Int → Int), (m : Int) + i = I (p + 8) f * 8 → offC I J → J 11 2 = I (p + 8) f * 8 → (∀ b : Int, 0 ≤ b → b < i → J 12 b = flpZ (Sf I p f) pat dg frm b) →
    Ex l 59 0 0 12 [some (.ref 11), some (.ref (p + 7)), some (.int (iI f)), some (.int (iI pat)), some (.int (iI dg)), some (.int (iI frm)), some (.int (iI i)), none, none] [] (mm q J v fr) Q := by
  have hpb := hp.b
  have hc := hF.1
  have hf := hF.2.1 f h0 h1
  intro m
  induction m with
  | zero =>
    intro i J hi jo j2 jb
    refine x_iload (pc := 12) rfl d59_12 ?_
    refine x_aload_n (pc := 14) rfl d59_14 ?_
    refine m_getI (pc := 15) (z := 2) f59_30 (by decide +kernel) rfl (ko11 (by omega)) d59_15 ?_
    refine x_icmp_ge (pc := 18) (tgt := 87) ⟨by omega, by omega⟩ ⟨by omega, by omega⟩ d59_18 (by decide) (fun g18 => ?_) (fun g18 => ?_)
    · refine x_mask [true, false, false, false, false, false, false, true, true] ?_
      dsimp only [mask]
      exact hk J jo ⟨j2, fun b hb hb2 => jb b hb (by omega)⟩
    · exfalso; omega
  | succ m ih =>
    intro i J hi jo j2 jb
    have fJ := hF.off jo (by omega)
    have e7 : J (p + 7) = I (p + 7) := jo _ (by omega) (by omega) (by omega)
    have e8 : J (p + 8) = I (p + 8) := jo _ (by omega) (by omega) (by omega)
    have e12 : J (p + 12) = I (p + 12) := jo _ (by omega) (by omega) (by omega)
    have eS : (fun k => J (p + 12) (f * 6 + k)) = Sf I p f := by rw [e12]; rfl
    have hbr := bitZ_r (Sf I p f) i
    have hstep : ∀ z : Int, z = flp pat dg frm i → ∀ b : Int, 0 ≤ b → b < ((i + 1 : Nat) : Int) → up2 J 12 i (xorZ (bitZ (Sf I p f) i) z) 12 b = flpZ (Sf I p f) pat dg frm b := fun z hz b b0 b1 => by
      by_cases e : b = i
      · rw [e, up2_s, hz]; rfl
      · rw [up2_i e]; exact jb b b0 (by omega)
    refine x_iload (pc := 12) rfl d59_12 ?_
    refine x_aload_n (pc := 14) rfl d59_14 ?_
    refine m_getI (pc := 15) (z := 2) f59_30 (by decide +kernel) rfl (ko11 (by omega)) d59_15 ?_
    refine x_icmp_ge (pc := 18) (tgt := 87) ⟨by omega, by omega⟩ ⟨by omega, by omega⟩ d59_18 (by decide) (fun g18 => ?_) (fun g18 => ?_)
    · refine x_mask [true, false, false, false, false, false, false, true, true] ?_
      dsimp only [mask]
      exfalso; omega
    · refine x_iload (pc := 21) rfl d59_21 ?_
      refine x_bipush (pc := 23) (by decide) d59_23 ?_
      refine x_icmp_ge (pc := 25) (tgt := 87) ⟨by omega, by omega⟩ ⟨by omega, by omega⟩ d59_25 (by decide) (fun g25 => ?_) (fun g25 => ?_)
      · refine x_mask [true, false, false, false, false, false, false, true, true] ?_
        dsimp only [mask]
        exfalso; omega
      · refine x_iload (pc := 28) rfl d59_28 ?_
        refine x_iload (pc := 30) rfl d59_30 ?_
        refine x_iadd (pc := 32) d59_32 ?_
        refine x_iconst (pc := 33) d59_33 ?_
        refine x_isub (pc := 34) d59_34 ?_
        refine x_iload (pc := 35) rfl d59_35 ?_
        refine x_isub (pc := 37) d59_37 ?_
        refine x_istore (pc := 38) (by decide +kernel) rfl d59_38 ?_
        dsimp only [List.set]
        refine x_iload (pc := 40) rfl d59_40 ?_
        refine x_if_lt (pc := 42) (tgt := 61) ⟨by omega, by omega⟩ d59_42 (by decide) (fun g42 => ?_) (fun g42 => ?_)
        · refine x_iconst (pc := 61) d59_61 ?_
          refine x_istore (pc := 62) (by decide +kernel) rfl d59_62 ?_
          dsimp only [List.set]
          refine x_aload_n (pc := 64) rfl d59_64 ?_
          refine m_getR (pc := 65) f59_9 (by decide +kernel) (ko11 (by omega)) rr11_0 d59_65 ?_
          refine x_iload (pc := 68) rfl d59_68 ?_
          refine x_aload_n (pc := 70) rfl d59_70 ?_
          refine x_iload_n (pc := 71) rfl d59_71 ?_
          refine x_iload (pc := 72) rfl d59_72 ?_
          refine x_cVs (pc := 74) c59_40 (show DT l 21 [.ref (p + 7), .int (iI f), .int (iI (i : Int))] (mm q J v fr) 0 0 (.inl (some (.int (iI (bitZ (Sf I p f) i)))), mm q J v fr) from eS ▸ dt_bitOf hl hp fJ h0 (by rw [e7]; exact h1) (by omega) (by rw [e8]; omega)) hp.o7 rfl rfl (Nat.le_of_ble_eq_true rfl) (by decide +kernel) (by decide +kernel) rfl d59_74 ?_
          refine x_iload (pc := 77) rfl d59_77 ?_
          refine x_ixor (pc := 79) (iI_xor (by omega) (by omega) (by omega) (by omega)) d59_79 ?_
          refine m_iast (pc := 80) (ka12 (by omega)) (by omega) (by omega) (by omega) d59_80 ?_
          refine x_iinc (pc := 81) rfl (by decide +kernel) rfl d59_81 ?_
          dsimp only [List.set]
          refine x_goto (pc := 84) (tgt := 12) d59_84 (by decide) ?_
          refine x_mask [true, true, true, true, true, true, true, false, false] ?_
          dsimp only [mask]
          exact ih (i + 1) _ (by omega) (jo.up (by decide)) (by rw [up2_p (by decide)]; exact j2) (hstep 0 (by unfold flp; rw [if_neg (by omega)]))
        · refine x_iload (pc := 45) rfl d59_45 ?_
          refine x_iload (pc := 47) rfl d59_47 ?_
          refine x_icmp_ge (pc := 49) (tgt := 61) ⟨by omega, by omega⟩ ⟨by omega, by omega⟩ d59_49 (by decide) (fun g49 => ?_) (fun g49 => ?_)
          · refine x_iconst (pc := 61) d59_61 ?_
            refine x_istore (pc := 62) (by decide +kernel) rfl d59_62 ?_
            dsimp only [List.set]
            refine x_aload_n (pc := 64) rfl d59_64 ?_
            refine m_getR (pc := 65) f59_9 (by decide +kernel) (ko11 (by omega)) rr11_0 d59_65 ?_
            refine x_iload (pc := 68) rfl d59_68 ?_
            refine x_aload_n (pc := 70) rfl d59_70 ?_
            refine x_iload_n (pc := 71) rfl d59_71 ?_
            refine x_iload (pc := 72) rfl d59_72 ?_
            refine x_cVs (pc := 74) c59_40 (show DT l 21 [.ref (p + 7), .int (iI f), .int (iI (i : Int))] (mm q J v fr) 0 0 (.inl (some (.int (iI (bitZ (Sf I p f) i)))), mm q J v fr) from eS ▸ dt_bitOf hl hp fJ h0 (by rw [e7]; exact h1) (by omega) (by rw [e8]; omega)) hp.o7 rfl rfl (Nat.le_of_ble_eq_true rfl) (by decide +kernel) (by decide +kernel) rfl d59_74 ?_
            refine x_iload (pc := 77) rfl d59_77 ?_
            refine x_ixor (pc := 79) (iI_xor (by omega) (by omega) (by omega) (by omega)) d59_79 ?_
            refine m_iast (pc := 80) (ka12 (by omega)) (by omega) (by omega) (by omega) d59_80 ?_
            refine x_iinc (pc := 81) rfl (by decide +kernel) rfl d59_81 ?_
            dsimp only [List.set]
            refine x_goto (pc := 84) (tgt := 12) d59_84 (by decide) ?_
            refine x_mask [true, true, true, true, true, true, true, false, false] ?_
            dsimp only [mask]
            exact ih (i + 1) _ (by omega) (jo.up (by decide)) (by rw [up2_p (by decide)]; exact j2) (hstep 0 (by unfold flp; rw [if_neg (by omega)]))
          · refine x_iload_n (pc := 52) rfl d59_52 ?_
            refine x_iload (pc := 53) rfl d59_53 ?_
            have hd3 : (2 : Int) ^ (frm + dg - 1 - (i : Int)).toNat > 0 := Int.pow_pos (by decide)
            refine x_ishr (pc := 55) (iI_shr ⟨by omega, by omega⟩ (by omega) (by omega)) d59_55 ?_
            refine x_iconst (pc := 56) d59_56 ?_
            refine x_iand (pc := 57) (iI_and1 _) d59_57 ?_
            refine x_goto (pc := 58) (tgt := 62) d59_58 (by decide) ?_
            refine x_istore (pc := 62) (by decide +kernel) rfl d59_62 ?_
            dsimp only [List.set]
            refine x_aload_n (pc := 64) rfl d59_64 ?_
            refine m_getR (pc := 65) f59_9 (by decide +kernel) (ko11 (by omega)) rr11_0 d59_65 ?_
            refine x_iload (pc := 68) rfl d59_68 ?_
            refine x_aload_n (pc := 70) rfl d59_70 ?_
            refine x_iload_n (pc := 71) rfl d59_71 ?_
            refine x_iload (pc := 72) rfl d59_72 ?_
            refine x_cVs (pc := 74) c59_40 (show DT l 21 [.ref (p + 7), .int (iI f), .int (iI (i : Int))] (mm q J v fr) 0 0 (.inl (some (.int (iI (bitZ (Sf I p f) i)))), mm q J v fr) from eS ▸ dt_bitOf hl hp fJ h0 (by rw [e7]; exact h1) (by omega) (by rw [e8]; omega)) hp.o7 rfl rfl (Nat.le_of_ble_eq_true rfl) (by decide +kernel) (by decide +kernel) rfl d59_74 ?_
            refine x_iload (pc := 77) rfl d59_77 ?_
            refine x_ixor (pc := 79) (iI_xor (by omega) (by omega) (by omega) (by omega)) d59_79 ?_
            refine m_iast (pc := 80) (ka12 (by omega)) (by omega) (by omega) (by omega) d59_80 ?_
            refine x_iinc (pc := 81) rfl (by decide +kernel) rfl d59_81 ?_
            dsimp only [List.set]
            refine x_goto (pc := 84) (tgt := 12) d59_84 (by decide) ?_
            refine x_mask [true, true, true, true, true, true, true, false, false] ?_
            dsimp only [mask]
            exact ih (i + 1) _ (by omega) (jo.up (by decide)) (by rw [up2_p (by decide)]; exact j2) (hstep _ (by unfold flp; rw [if_pos (by omega)]))
theorem ct_inverted (hl : l.1.stackTraces = false) (hq : 181 ≤ q) (hp : LineAt q p) (hF : FramesOK I p) {f pat dg frm : Int} (h0 : 0 ≤ f) (h1 : f < I (p + 7) 0) (hpt0 : 0 ≤ pat) (hpt1 : pat ≤ 65535) (hd0 : 0 ≤ dg) (hd1 : dg ≤ 16) (hf0 : 0 ≤ frm) (hf1 : frm ≤ 48) : CT l 59 [.ref 11, .ref (p + 7), .int (iI f), .int (iI pat), .int (iI dg), .int (iI frm)] (mm q I v fr) 0 0 (oE q v fr none (fun K => offC I K ∧ K 11 2 = I (p + 8) f * 8 ∧ (∀ k : Int, 0 ≤ k → k < I (p + 8) f → K 13 k = byteZ (flpZ (Sf I p f) pat dg frm) k) ∧ ∀ k : Int, 0 ≤ k → k < 6 → 0 ≤ K 13 k ∧ K 13 k ≤ 255)) := by
  have hpb := hp.b
  have hc := hF.1
  have hf := hF.2.1 f h0 h1
  have e8 : ((I (p + 8) f * 8).toNat : Int) = I (p + 8) f * 8 := by omega
  refine mkct2 hl (by decide) (Nat.le_of_ble_eq_true rfl) (L := [some (.ref 11), some (.ref (p + 7)), some (.int (iI f)), some (.int (iI pat)), some (.int (iI dg)), some (.int (iI frm)), none, none, none]) rfl ?_
  refine x_aload_n (pc := 0) rfl d59_0 ?_
  refine x_aload_n (pc := 1) rfl d59_1 ?_
  refine x_iload_n (pc := 2) rfl d59_2 ?_
  refine x_cVs (pc := 3) c59_24 (dt_bitsOf hl hp hF (f := f) (by omega) (by omega)) hp.o7 rfl rfl (Nat.le_of_ble_eq_true rfl) (by decide +kernel) (by decide +kernel) rfl d59_3 ?_
  refine m_putI (pc := 6) (z := 2) f59_30 (by decide +kernel) (by decide +kernel) rfl (ko11 (by omega)) d59_6 ?_
  refine x_iconst (pc := 9) d59_9 ?_
  refine x_istore (pc := 10) (by decide +kernel) rfl d59_10 ?_
  dsimp only [List.set]
  refine lp_inv hl hq hp hF h0 h1 hpt0 hpt1 hd0 hd1 hf0 hf1 (fun J jo jc => ?_) (I (p + 8) f * 8).toNat 0 _ (by omega) (offC.rf.up (by decide)) up2_s (fun b hb hb2 => by omega)
  refine x_aload_n (pc := 87) rfl d59_87 ?_
  refine x_iconst (pc := 88) d59_88 ?_
  refine x_cVev (pc := 89) c59_65 (ct_take hl hq (n := (I (p + 8) f * 8).toNat) (cb := flpZ (Sf I p f) pat dg frm) (flpZ_r _ _ _ _) (by omega) (dr := 0) (by decide) (by decide) (by rw [e8]; exact jc)) (ko11 (by omega)) rfl rfl (Nat.le_of_ble_eq_true rfl) (by decide +kernel) (by decide +kernel) d59_89 (fun J2 hJ2 => ?_)
  refine x_vret (pc := 92) rfl (fun _ => rfl) d59_92 ?_
  obtain ⟨b0, ⟨b1, b2⟩, b3, b4, b5, b6⟩ := hJ2
  rw [e8] at b1 b5
  refine ⟨J2, rfl, jo.trans b0, b1, fun k k0 k1 => ?_, b6⟩
  rw [b5 k k0 (by omega)]
  unfold byteZ
  refine byteN_congr 8 fun i i0 i1 => ?_
  unfold takZ
  rw [tkI_0, if_pos (by omega)]
end Misc
