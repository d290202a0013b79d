/-! ===== the law's calls of the class ===== -/
def WQ (q : Nat) (I : Nat → Int → Int) (r : Int × Int × GS) : OO → Prop := fun o => ∃ K v2, o = (.inl (some (.int (iI r.1))), mm q K v2 false) ∧ CREL K r.2.2 ∧ (∀ a, 181 ≤ a → K a = I a) ∧ (r.1 = 0 → v2 = (iI r.2.1).toInt)
theorem k192 : ∀ b : Fin 193, K0 b % 10 = 2 → b.val = 192 := by decide +kernel
theorem one192 {b : Nat} (h : K0 b % 10 = 2) : b = 192 := by
  by_cases c : b < 193
  · exact k192 ⟨b, c⟩ h
  · exfalso
    have e : K0 b = 0 := by
      show (K0L[b]?).getD 0 = 0
      rw [List.getElem?_eq_none (by have : K0L.length = 193 := by decide +kernel
                                    omega)]
      rfl
    rw [e] at h
    cases h
section Wrap
variable {l : LX} {q : Nat} {I : Nat → Int → Int} {v : Int} {S : GS}
theorem x_i2lA {l : LX} {y k n pc : Nat} {L : LL} {st : List Value} {σ : MM} {Q : OO → Prop} {a : Int} (hd : decode (cdN y) pc = .ok (.i2l, 1)) (kk : Ex l y k n (pc + 1) L (.long (lL (iI a).toInt) :: st) σ Q) : Ex l y k n pc L (.int (iI a) :: st) σ Q := by
  have h1 := Int32.le_toInt (iI a)
  have h2 := Int32.toInt_lt (iI a)
  have := x_i2l (a := (iI a).toInt) ⟨by omega, by omega⟩ hd kk
  rw [iI_self] at this
  exact this
theorem m_last {l : LX} {y k n pc : Nat} {L : LL} {st : List Value} {Q : OO → Prop} {w : Int} (hq : 193 ≤ q) (hd : decode (cdN y) pc = .ok (.lastore, 1)) (kk : Ex l y k n (pc + 1) L st (mm q I w false) Q) : Ex l y k n pc L (.long (lL w) :: .int (iI 0) :: .ref 192 :: st) (mm q I v false) Q :=
  x_last (a := 192) ⟨by show 192 < q; omega, by show K0 192 = 12; decide +kernel⟩ (fun b _ h => one192 h) hd kk
theorem wr294 (hl : l.1.stackTraces = false) (hq : 193 ≤ q) (h : CREL I S) (hS : GOK S) {a : Int} {b : Int} {c : Int} {d : Int} {e : Int} : CT l 294 [.ref 0, .int (iI a), .int (iI b), .int (iI c), .int (iI d), .int (iI e), .ref 192] (mm q I v false) 1 6 (WQ q I (oAppend S a b c d e)) := by
  have hcd : (oAppend S a b c d e).1 = 0 ∨ (oAppend S a b c d e).1 = 1 := by
    unfold oAppend
    repeat (first | exact Or.inl rfl | exact Or.inr rfl | split)
  have h1 := cm76 hl (by omega) h hS  (a := a) (b := b) (c := c) (d := d) (e := e) (q := q) (v := v)
  generalize (oAppend S a b c d e) = r at h1 hcd ⊢
  refine mkct2 hl (by decide) (Nat.le_of_ble_eq_true rfl) (L := [some (.ref 0), some (.int (iI a)), some (.int (iI b)), some (.int (iI c)), some (.int (iI d)), some (.int (iI e)), some (.ref 192), none]) rfl ?_
  refine x_aload (pc := 0) rfl d294_0 ?_
  refine x_iconst (pc := 2) d294_2 ?_
  refine x_aload_n (pc := 3) rfl d294_3 ?_
  refine x_iload_n (pc := 4) rfl d294_4 ?_
  refine x_iload_n (pc := 5) rfl d294_5 ?_
  refine x_iload_n (pc := 6) rfl d294_6 ?_
  refine x_iload (pc := 7) rfl d294_7 ?_
  refine x_iload (pc := 9) rfl d294_9 ?_
  refine x_callV (k := 0) (n := 0) (pc := 11) c294_7 h1 (ko0 (by omega)) rfl rfl (Nat.le_of_ble_eq_true rfl) (by decide +kernel) (by decide +kernel) d294_11 (Or.inr fun v9 τ h9 => ?_) (fun v9 τ h9 => ?_) (fun E9 τ h9 _ => ?_)
  · rcases h9 with ⟨_, K, e, _⟩ | ⟨_, K, e, _⟩
    · cases e; rfl
    · cases e
  · rcases h9 with ⟨h0, K, e, hK, hk⟩ | ⟨_, K, e, _⟩
    · cases e
      show Ex l 294 0 0 14 _ (.int (iI r.2.1) :: .int (iI 0) :: [.ref 192]) _ _
      refine x_i2lA (pc := 14) d294_14 ?_
      refine m_last (pc := 15) hq d294_15 ?_
      refine x_goto (pc := 16) (tgt := 23) d294_16 (by decide) ?_
      refine x_iconst (pc := 23) d294_23 ?_
      refine x_iret (pc := 24) rfl (fun z => Bool.noConfusion z) d294_24 ?_
      exact ⟨K, _, by rw [h0], hK, hk, fun _ => rfl⟩
    · cases e
  · rcases h9 with ⟨_, K, e, _⟩ | ⟨h0, K, e, hK, hk⟩
    · cases e
    · cases e
      have h2 : r.1 = 1 := by omega
      rw [h2]
      refine Or.inr ⟨21, 7, ⟨[], [], (0, 16, 19, 13), by decide +kernel, fun z hz => absurd hz List.not_mem_nil, by decide, by decide, by decide +kernel, Or.inr ⟨d294_19, rfl⟩⟩, by decide +kernel, rfl, ?_⟩
      dsimp only [List.set]
      refine x_iconst (pc := 21) d294_21 ?_
      refine x_iret (pc := 22) rfl (fun z => Bool.noConfusion z) d294_22 ?_
      exact ⟨K, v, by rw [h2], hK, hk, fun z => absurd z h0⟩
theorem wr295 (hl : l.1.stackTraces = false) (hq : 193 ≤ q) (h : CREL I S) (hS : GOK S) {z : Int} (hz : InR z) : CT l 295 [.ref 0, .int (iI z), .ref 192] (mm q I v false) 1 6 (WQ q I (oTruncate S z)) := by
  have hcd : (oTruncate S z).1 = 0 ∨ (oTruncate S z).1 = 1 := by
    unfold oTruncate
    repeat (first | exact Or.inl rfl | exact Or.inr rfl | split)
  have h1 := cm77 hl (by omega) h hS hz (q := q) (v := v)
  generalize (oTruncate S z) = r at h1 hcd ⊢
  refine mkct2 hl (by decide) (Nat.le_of_ble_eq_true rfl) (L := [some (.ref 0), some (.int (iI z)), some (.ref 192), none]) rfl ?_
  refine x_aload_n (pc := 0) rfl d295_0 ?_
  refine x_iconst (pc := 1) d295_1 ?_
  refine x_aload_n (pc := 2) rfl d295_2 ?_
  refine x_iload_n (pc := 3) rfl d295_3 ?_
  refine x_callV (k := 0) (n := 0) (pc := 4) c295_15 h1 (ko0 (by omega)) rfl rfl (Nat.le_of_ble_eq_true rfl) (by decide +kernel) (by decide +kernel) d295_4 (Or.inr fun v9 τ h9 => ?_) (fun v9 τ h9 => ?_) (fun E9 τ h9 _ => ?_)
  · rcases h9 with ⟨_, K, e, _⟩ | ⟨_, K, e, _⟩
    · cases e; rfl
    · cases e
  · rcases h9 with ⟨h0, K, e, hK, hk⟩ | ⟨_, K, e, _⟩
    · cases e
      show Ex l 295 0 0 7 _ (.int (iI r.2.1) :: .int (iI 0) :: [.ref 192]) _ _
      refine x_i2lA (pc := 7) d295_7 ?_
      refine m_last (pc := 8) hq d295_8 ?_
      refine x_goto (pc := 9) (tgt := 15) d295_9 (by decide) ?_
      refine x_iconst (pc := 15) d295_15 ?_
      refine x_iret (pc := 16) rfl (fun z => Bool.noConfusion z) d295_16 ?_
      exact ⟨K, _, by rw [h0], hK, hk, fun _ => rfl⟩
    · cases e
  · rcases h9 with ⟨_, K, e, _⟩ | ⟨h0, K, e, hK, hk⟩
    · cases e
    · cases e
      have h2 : r.1 = 1 := by omega
      rw [h2]
      refine Or.inr ⟨13, 3, ⟨[], [], (0, 9, 12, 19), by decide +kernel, fun z hz => absurd hz List.not_mem_nil, by decide, by decide, by decide +kernel, Or.inl ⟨⟨3, by decide⟩, rfl, d295_12, rfl⟩⟩, by decide +kernel, rfl, ?_⟩
      dsimp only [List.set]
      refine x_iconst (pc := 13) d295_13 ?_
      refine x_iret (pc := 14) rfl (fun z => Bool.noConfusion z) d295_14 ?_
      exact ⟨K, v, by rw [h2], hK, hk, fun z => absurd z h0⟩
theorem wr296 (hl : l.1.stackTraces = false) (hq : 193 ≤ q) (h : CREL I S) (hS : GOK S) : CT l 296 [.ref 0, .ref 192] (mm q I v false) 1 6 (WQ q I (oLoad S)) := by
  have hcd : (oLoad S).1 = 0 ∨ (oLoad S).1 = 1 := by
    unfold oLoad
    repeat (first | exact Or.inl rfl | exact Or.inr rfl | split)
  have h1 := cm78 hl (by omega) h hS  (q := q) (v := v)
  generalize (oLoad S) = r at h1 hcd ⊢
  refine mkct2 hl (by decide) (Nat.le_of_ble_eq_true rfl) (L := [some (.ref 0), some (.ref 192), none]) rfl ?_
  refine x_aload_n (pc := 0) rfl d296_0 ?_
  refine x_iconst (pc := 1) d296_1 ?_
  refine x_aload_n (pc := 2) rfl d296_2 ?_
  refine x_callV (k := 0) (n := 0) (pc := 3) c296_21 h1 (ko0 (by omega)) rfl rfl (Nat.le_of_ble_eq_true rfl) (by decide +kernel) (by decide +kernel) d296_3 (Or.inr fun v9 τ h9 => ?_) (fun v9 τ h9 => ?_) (fun E9 τ h9 _ => ?_)
  · rcases h9 with ⟨_, K, e, _⟩ | ⟨_, K, e, _⟩
    · cases e; rfl
    · cases e
  · rcases h9 with ⟨h0, K, e, hK, hk⟩ | ⟨_, K, e, _⟩
    · cases e
      show Ex l 296 0 0 6 _ (.int (iI r.2.1) :: .int (iI 0) :: [.ref 192]) _ _
      refine x_i2lA (pc := 6) d296_6 ?_
      refine m_last (pc := 7) hq d296_7 ?_
      refine x_goto (pc := 8) (tgt := 14) d296_8 (by decide) ?_
      refine x_iconst (pc := 14) d296_14 ?_
      refine x_iret (pc := 15) rfl (fun z => Bool.noConfusion z) d296_15 ?_
      exact ⟨K, _, by rw [h0], hK, hk, fun _ => rfl⟩
    · cases e
  · rcases h9 with ⟨_, K, e, _⟩ | ⟨h0, K, e, hK, hk⟩
    · cases e
    · cases e
      have h2 : r.1 = 1 := by omega
      rw [h2]
      refine Or.inr ⟨12, 2, ⟨[], [], (0, 8, 11, 19), by decide +kernel, fun z hz => absurd hz List.not_mem_nil, by decide, by decide, by decide +kernel, Or.inl ⟨⟨2, by decide⟩, rfl, d296_11, rfl⟩⟩, by decide +kernel, rfl, ?_⟩
      dsimp only [List.set]
      refine x_iconst (pc := 12) d296_12 ?_
      refine x_iret (pc := 13) rfl (fun z => Bool.noConfusion z) d296_13 ?_
      exact ⟨K, v, by rw [h2], hK, hk, fun z => absurd z h0⟩
theorem wr297 (hl : l.1.stackTraces = false) (hq : 193 ≤ q) (h : CREL I S) (hS : GOK S) : CT l 297 [.ref 0, .ref 192] (mm q I v false) 1 6 (WQ q I (oExec S)) := by
  have hcd : (oExec S).1 = 0 ∨ (oExec S).1 = 1 := by
    unfold oExec
    repeat (first | exact Or.inl rfl | exact Or.inr rfl | split)
  have h1 := cm79 hl (by omega) h hS  (q := q) (v := v)
  generalize (oExec S) = r at h1 hcd ⊢
  refine mkct2 hl (by decide) (Nat.le_of_ble_eq_true rfl) (L := [some (.ref 0), some (.ref 192), none]) rfl ?_
  refine x_aload_n (pc := 0) rfl d297_0 ?_
  refine x_iconst (pc := 1) d297_1 ?_
  refine x_aload_n (pc := 2) rfl d297_2 ?_
  refine x_callV (k := 0) (n := 0) (pc := 3) c297_25 h1 (ko0 (by omega)) rfl rfl (Nat.le_of_ble_eq_true rfl) (by decide +kernel) (by decide +kernel) d297_3 (Or.inr fun v9 τ h9 => ?_) (fun v9 τ h9 => ?_) (fun E9 τ h9 _ => ?_)
  · rcases h9 with ⟨_, K, e, _⟩ | ⟨_, K, e, _⟩
    · cases e; rfl
    · cases e
  · rcases h9 with ⟨h0, K, e, hK, hk⟩ | ⟨_, K, e, _⟩
    · cases e
      show Ex l 297 0 0 6 _ (.int (iI r.2.1) :: .int (iI 0) :: [.ref 192]) _ _
      refine x_i2lA (pc := 6) d297_6 ?_
      refine m_last (pc := 7) hq d297_7 ?_
      refine x_goto (pc := 8) (tgt := 14) d297_8 (by decide) ?_
      refine x_iconst (pc := 14) d297_14 ?_
      refine x_iret (pc := 15) rfl (fun z => Bool.noConfusion z) d297_15 ?_
      exact ⟨K, _, by rw [h0], hK, hk, fun _ => rfl⟩
    · cases e
  · rcases h9 with ⟨_, K, e, _⟩ | ⟨h0, K, e, hK, hk⟩
    · cases e
    · cases e
      have h2 : r.1 = 1 := by omega
      rw [h2]
      refine Or.inr ⟨12, 2, ⟨[], [], (0, 8, 11, 19), by decide +kernel, fun z hz => absurd hz List.not_mem_nil, by decide, by decide, by decide +kernel, Or.inl ⟨⟨2, by decide⟩, rfl, d297_11, rfl⟩⟩, by decide +kernel, rfl, ?_⟩
      dsimp only [List.set]
      refine x_iconst (pc := 12) d297_12 ?_
      refine x_iret (pc := 13) rfl (fun z => Bool.noConfusion z) d297_13 ?_
      exact ⟨K, v, by rw [h2], hK, hk, fun z => absurd z h0⟩
theorem wr298 (hl : l.1.stackTraces = false) (hq : 193 ≤ q) (h : CREL I S) (hS : GOK S) {t : Int} (ht : InR t) : CT l 298 [.ref 0, .int (iI t), .ref 192] (mm q I v false) 1 6 (WQ q I (oAsk S (isT t) (b01 (chewA (gA S) t)))) := by
  have hcd : (oAsk S (isT t) (b01 (chewA (gA S) t))).1 = 0 ∨ (oAsk S (isT t) (b01 (chewA (gA S) t))).1 = 1 := by
    unfold oAsk
    repeat (first | exact Or.inl rfl | exact Or.inr rfl | split)
  have hz : (oAsk S (isT t) (b01 (chewA (gA S) t))).1 = 0 → (oAsk S (isT t) (b01 (chewA (gA S) t))).2.1 = 0 ∨ (oAsk S (isT t) (b01 (chewA (gA S) t))).2.1 = 1 := by
    unfold oAsk
    repeat (first | exact fun _ => b01_or _ | exact fun z => absurd (show (1 : Int) = 0 from z) (by decide) | exact fun z => absurd (show (2 : Int) = 0 from z) (by decide) | split)
  have h1 := cm86 hl (by omega) h hS ht (q := q) (v := v)
  generalize (oAsk S (isT t) (b01 (chewA (gA S) t))) = r at h1 hcd hz ⊢
  refine mkct2 hl (by decide) (Nat.le_of_ble_eq_true rfl) (L := [some (.ref 0), some (.int (iI t)), some (.ref 192), none]) rfl ?_
  refine x_aload_n (pc := 0) rfl d298_0 ?_
  refine x_iconst (pc := 1) d298_1 ?_
  refine x_aload_n (pc := 2) rfl d298_2 ?_
  refine x_iload_n (pc := 3) rfl d298_3 ?_
  refine x_callV (k := 0) (n := 0) (pc := 4) c298_28 h1 (ko0 (by omega)) rfl rfl (Nat.le_of_ble_eq_true rfl) (by decide +kernel) (by decide +kernel) d298_4 (Or.inr fun v9 τ h9 => ?_) (fun v9 τ h9 => ?_) (fun E9 τ h9 _ => ?_)
  · rcases h9 with ⟨_, K, e, _⟩ | ⟨_, K, e, _⟩
    · cases e; rfl
    · cases e
  · rcases h9 with ⟨h0, K, e, hK, hk⟩ | ⟨_, K, e, _⟩
    · cases e
      have hzz := hz h0
      show Ex l 298 0 0 7 _ (.int (iI r.2.1) :: .int (iI 0) :: [.ref 192]) _ _
      refine x_if_eq (pc := 7) (tgt := 14) ⟨by omega, by omega⟩ d298_7 (by decide) (fun g => ?_) (fun g => ?_)
      · refine x_lconst (pc := 14) (z := 0) (by decide) d298_14 ?_
        refine m_last (pc := 15) hq d298_15 ?_
        refine x_goto (pc := 16) (tgt := 22) d298_16 (by decide) ?_
        refine x_iconst (pc := 22) d298_22 ?_
        refine x_iret (pc := 23) rfl (fun z => Bool.noConfusion z) d298_23 ?_
        exact ⟨K, _, by rw [h0], hK, hk, fun _ => by rw [show r.2.1 = 0 from by omega]; rfl⟩
      · refine x_lconst (pc := 10) (z := 1) (by decide) d298_10 ?_
        refine x_goto (pc := 11) (tgt := 15) d298_11 (by decide) ?_
        refine m_last (pc := 15) hq d298_15 ?_
        refine x_goto (pc := 16) (tgt := 22) d298_16 (by decide) ?_
        refine x_iconst (pc := 22) d298_22 ?_
        refine x_iret (pc := 23) rfl (fun z => Bool.noConfusion z) d298_23 ?_
        exact ⟨K, _, by rw [h0], hK, hk, fun _ => by rw [show r.2.1 = 1 from by omega]; rfl⟩
    · cases e
  · rcases h9 with ⟨_, K, e, _⟩ | ⟨h0, K, e, hK, hk⟩
    · cases e
    · cases e
      have h2 : r.1 = 1 := by omega
      rw [h2]
      refine Or.inr ⟨20, 3, ⟨[], [], (0, 16, 19, 19), by decide +kernel, fun z hz => absurd hz List.not_mem_nil, by decide, by decide, by decide +kernel, Or.inl ⟨⟨3, by decide⟩, rfl, d298_19, rfl⟩⟩, by decide +kernel, rfl, ?_⟩
      dsimp only [List.set]
      refine x_iconst (pc := 20) d298_20 ?_
      refine x_iret (pc := 21) rfl (fun z => Bool.noConfusion z) d298_21 ?_
      exact ⟨K, v, by rw [h2], hK, hk, fun z => absurd z h0⟩
theorem wr299 (hl : l.1.stackTraces = false) (hq : 193 ≤ q) (h : CREL I S) (hS : GOK S) {t : Int} (ht : InR t) : CT l 299 [.ref 0, .int (iI t), .ref 192] (mm q I v false) 1 6 (WQ q I (oAsk S (isT t) (fstN (chewA (gA S)) (-1) 1001 t))) := by
  have hcd : (oAsk S (isT t) (fstN (chewA (gA S)) (-1) 1001 t)).1 = 0 ∨ (oAsk S (isT t) (fstN (chewA (gA S)) (-1) 1001 t)).1 = 1 := by
    unfold oAsk
    repeat (first | exact Or.inl rfl | exact Or.inr rfl | split)
  have h1 := cm87 hl (by omega) h hS ht (q := q) (v := v)
  generalize (oAsk S (isT t) (fstN (chewA (gA S)) (-1) 1001 t)) = r at h1 hcd ⊢
  refine mkct2 hl (by decide) (Nat.le_of_ble_eq_true rfl) (L := [some (.ref 0), some (.int (iI t)), some (.ref 192), none]) rfl ?_
  refine x_aload_n (pc := 0) rfl d299_0 ?_
  refine x_iconst (pc := 1) d299_1 ?_
  refine x_aload_n (pc := 2) rfl d299_2 ?_
  refine x_iload_n (pc := 3) rfl d299_3 ?_
  refine x_callV (k := 0) (n := 0) (pc := 4) c299_32 h1 (ko0 (by omega)) rfl rfl (Nat.le_of_ble_eq_true rfl) (by decide +kernel) (by decide +kernel) d299_4 (Or.inr fun v9 τ h9 => ?_) (fun v9 τ h9 => ?_) (fun E9 τ h9 _ => ?_)
  · rcases h9 with ⟨_, K, e, _⟩ | ⟨_, K, e, _⟩
    · cases e; rfl
    · cases e
  · rcases h9 with ⟨h0, K, e, hK, hk⟩ | ⟨_, K, e, _⟩
    · cases e
      show Ex l 299 0 0 7 _ (.int (iI r.2.1) :: .int (iI 0) :: [.ref 192]) _ _
      refine x_i2lA (pc := 7) d299_7 ?_
      refine m_last (pc := 8) hq d299_8 ?_
      refine x_goto (pc := 9) (tgt := 15) d299_9 (by decide) ?_
      refine x_iconst (pc := 15) d299_15 ?_
      refine x_iret (pc := 16) rfl (fun z => Bool.noConfusion z) d299_16 ?_
      exact ⟨K, _, by rw [h0], hK, hk, fun _ => rfl⟩
    · cases e
  · rcases h9 with ⟨_, K, e, _⟩ | ⟨h0, K, e, hK, hk⟩
    · cases e
    · cases e
      have h2 : r.1 = 1 := by omega
      rw [h2]
      refine Or.inr ⟨13, 3, ⟨[], [], (0, 9, 12, 19), by decide +kernel, fun z hz => absurd hz List.not_mem_nil, by decide, by decide, by decide +kernel, Or.inl ⟨⟨3, by decide⟩, rfl, d299_12, rfl⟩⟩, by decide +kernel, rfl, ?_⟩
      dsimp only [List.set]
      refine x_iconst (pc := 13) d299_13 ?_
      refine x_iret (pc := 14) rfl (fun z => Bool.noConfusion z) d299_14 ?_
      exact ⟨K, v, by rw [h2], hK, hk, fun z => absurd z h0⟩
theorem wr300 (hl : l.1.stackTraces = false) (hq : 193 ≤ q) (h : CREL I S) (hS : GOK S) {k : Int} (hk : InR k) : CT l 300 [.ref 0, .int (iI k), .ref 192] (mm q I v false) 1 6 (WQ q I (oAsk S (decide (1 ≤ k ∧ k ≤ 500)) (quiN (chewA (gA S)) k (2000 + k).toNat (gA S 0 7) 0))) := by
  have hcd : (oAsk S (decide (1 ≤ k ∧ k ≤ 500)) (quiN (chewA (gA S)) k (2000 + k).toNat (gA S 0 7) 0)).1 = 0 ∨ (oAsk S (decide (1 ≤ k ∧ k ≤ 500)) (quiN (chewA (gA S)) k (2000 + k).toNat (gA S 0 7) 0)).1 = 1 := by
    unfold oAsk
    repeat (first | exact Or.inl rfl | exact Or.inr rfl | split)
  have h1 := cm88 hl (by omega) h hS hk (q := q) (v := v)
  generalize (oAsk S (decide (1 ≤ k ∧ k ≤ 500)) (quiN (chewA (gA S)) k (2000 + k).toNat (gA S 0 7) 0)) = r at h1 hcd ⊢
  refine mkct2 hl (by decide) (Nat.le_of_ble_eq_true rfl) (L := [some (.ref 0), some (.int (iI k)), some (.ref 192), none]) rfl ?_
  refine x_aload_n (pc := 0) rfl d300_0 ?_
  refine x_iconst (pc := 1) d300_1 ?_
  refine x_aload_n (pc := 2) rfl d300_2 ?_
  refine x_iload_n (pc := 3) rfl d300_3 ?_
  refine x_callV (k := 0) (n := 0) (pc := 4) c300_35 h1 (ko0 (by omega)) rfl rfl (Nat.le_of_ble_eq_true rfl) (by decide +kernel) (by decide +kernel) d300_4 (Or.inr fun v9 τ h9 => ?_) (fun v9 τ h9 => ?_) (fun E9 τ h9 _ => ?_)
  · rcases h9 with ⟨_, K, e, _⟩ | ⟨_, K, e, _⟩
    · cases e; rfl
    · cases e
  · rcases h9 with ⟨h0, K, e, hK, hk⟩ | ⟨_, K, e, _⟩
    · cases e
      show Ex l 300 0 0 7 _ (.int (iI r.2.1) :: .int (iI 0) :: [.ref 192]) _ _
      refine x_i2lA (pc := 7) d300_7 ?_
      refine m_last (pc := 8) hq d300_8 ?_
      refine x_goto (pc := 9) (tgt := 15) d300_9 (by decide) ?_
      refine x_iconst (pc := 15) d300_15 ?_
      refine x_iret (pc := 16) rfl (fun z => Bool.noConfusion z) d300_16 ?_
      exact ⟨K, _, by rw [h0], hK, hk, fun _ => rfl⟩
    · cases e
  · rcases h9 with ⟨_, K, e, _⟩ | ⟨h0, K, e, hK, hk⟩
    · cases e
    · cases e
      have h2 : r.1 = 1 := by omega
      rw [h2]
      refine Or.inr ⟨13, 3, ⟨[], [], (0, 9, 12, 19), by decide +kernel, fun z hz => absurd hz List.not_mem_nil, by decide, by decide, by decide +kernel, Or.inl ⟨⟨3, by decide⟩, rfl, d300_12, rfl⟩⟩, by decide +kernel, rfl, ?_⟩
      dsimp only [List.set]
      refine x_iconst (pc := 13) d300_13 ?_
      refine x_iret (pc := 14) rfl (fun z => Bool.noConfusion z) d300_14 ?_
      exact ⟨K, v, by rw [h2], hK, hk, fun z => absurd z h0⟩
theorem wr301 (hl : l.1.stackTraces = false) (hq : 193 ≤ q) (h : CREL I S) (hS : GOK S) {m : Int} (hm : InR m) : CT l 301 [.ref 0, .int (iI m), .ref 192] (mm q I v false) 1 6 (WQ q I (oAsk S (isM S m) (gA S 4 m))) := by
  have hcd : (oAsk S (isM S m) (gA S 4 m)).1 = 0 ∨ (oAsk S (isM S m) (gA S 4 m)).1 = 1 := by
    unfold oAsk
    repeat (first | exact Or.inl rfl | exact Or.inr rfl | split)
  have h1 := cm91 hl (by omega) h hS hm (q := q) (v := v)
  generalize (oAsk S (isM S m) (gA S 4 m)) = r at h1 hcd ⊢
  refine mkct2 hl (by decide) (Nat.le_of_ble_eq_true rfl) (L := [some (.ref 0), some (.int (iI m)), some (.ref 192), none]) rfl ?_
  refine x_aload_n (pc := 0) rfl d301_0 ?_
  refine x_iconst (pc := 1) d301_1 ?_
  refine x_aload_n (pc := 2) rfl d301_2 ?_
  refine x_iload_n (pc := 3) rfl d301_3 ?_
  refine x_callV (k := 0) (n := 0) (pc := 4) c301_38 h1 (ko0 (by omega)) rfl rfl (Nat.le_of_ble_eq_true rfl) (by decide +kernel) (by decide +kernel) d301_4 (Or.inr fun v9 τ h9 => ?_) (fun v9 τ h9 => ?_) (fun E9 τ h9 _ => ?_)
  · rcases h9 with ⟨_, K, e, _⟩ | ⟨_, K, e, _⟩
    · cases e; rfl
    · cases e
  · rcases h9 with ⟨h0, K, e, hK, hk⟩ | ⟨_, K, e, _⟩
    · cases e
      show Ex l 301 0 0 7 _ (.int (iI r.2.1) :: .int (iI 0) :: [.ref 192]) _ _
      refine x_i2lA (pc := 7) d301_7 ?_
      refine m_last (pc := 8) hq d301_8 ?_
      refine x_goto (pc := 9) (tgt := 15) d301_9 (by decide) ?_
      refine x_iconst (pc := 15) d301_15 ?_
      refine x_iret (pc := 16) rfl (fun z => Bool.noConfusion z) d301_16 ?_
      exact ⟨K, _, by rw [h0], hK, hk, fun _ => rfl⟩
    · cases e
  · rcases h9 with ⟨_, K, e, _⟩ | ⟨h0, K, e, hK, hk⟩
    · cases e
    · cases e
      have h2 : r.1 = 1 := by omega
      rw [h2]
      refine Or.inr ⟨13, 3, ⟨[], [], (0, 9, 12, 41), by decide +kernel, fun z hz => absurd hz List.not_mem_nil, by decide, by decide, by decide +kernel, Or.inl ⟨⟨3, by decide⟩, rfl, d301_12, rfl⟩⟩, by decide +kernel, rfl, ?_⟩
      dsimp only [List.set]
      refine x_iconst (pc := 13) d301_13 ?_
      refine x_iret (pc := 14) rfl (fun z => Bool.noConfusion z) d301_14 ?_
      exact ⟨K, v, by rw [h2], hK, hk, fun z => absurd z h0⟩
theorem wr302 (hl : l.1.stackTraces = false) (hq : 193 ≤ q) (h : CREL I S) (hS : GOK S) {m : Int} (hm : InR m) : CT l 302 [.ref 0, .int (iI m), .ref 192] (mm q I v false) 1 6 (WQ q I (oAsk S (isM S m) (stA (gA S) m))) := by
  have hcd : (oAsk S (isM S m) (stA (gA S) m)).1 = 0 ∨ (oAsk S (isM S m) (stA (gA S) m)).1 = 1 := by
    unfold oAsk
    repeat (first | exact Or.inl rfl | exact Or.inr rfl | split)
  have h1 := cm92 hl (by omega) h hS hm (q := q) (v := v)
  generalize (oAsk S (isM S m) (stA (gA S) m)) = r at h1 hcd ⊢
  refine mkct2 hl (by decide) (Nat.le_of_ble_eq_true rfl) (L := [some (.ref 0), some (.int (iI m)), some (.ref 192), none]) rfl ?_
  refine x_aload_n (pc := 0) rfl d302_0 ?_
  refine x_iconst (pc := 1) d302_1 ?_
  refine x_aload_n (pc := 2) rfl d302_2 ?_
  refine x_iload_n (pc := 3) rfl d302_3 ?_
  refine x_callV (k := 0) (n := 0) (pc := 4) c302_43 h1 (ko0 (by omega)) rfl rfl (Nat.le_of_ble_eq_true rfl) (by decide +kernel) (by decide +kernel) d302_4 (Or.inr fun v9 τ h9 => ?_) (fun v9 τ h9 => ?_) (fun E9 τ h9 _ => ?_)
  · rcases h9 with ⟨_, K, e, _⟩ | ⟨_, K, e, _⟩
    · cases e; rfl
    · cases e
  · rcases h9 with ⟨h0, K, e, hK, hk⟩ | ⟨_, K, e, _⟩
    · cases e
      show Ex l 302 0 0 7 _ (.int (iI r.2.1) :: .int (iI 0) :: [.ref 192]) _ _
      refine x_i2lA (pc := 7) d302_7 ?_
      refine m_last (pc := 8) hq d302_8 ?_
      refine x_goto (pc := 9) (tgt := 15) d302_9 (by decide) ?_
      refine x_iconst (pc := 15) d302_15 ?_
      refine x_iret (pc := 16) rfl (fun z => Bool.noConfusion z) d302_16 ?_
      exact ⟨K, _, by rw [h0], hK, hk, fun _ => rfl⟩
    · cases e
  · rcases h9 with ⟨_, K, e, _⟩ | ⟨h0, K, e, hK, hk⟩
    · cases e
    · cases e
      have h2 : r.1 = 1 := by omega
      rw [h2]
      refine Or.inr ⟨13, 3, ⟨[], [], (0, 9, 12, 41), by decide +kernel, fun z hz => absurd hz List.not_mem_nil, by decide, by decide, by decide +kernel, Or.inl ⟨⟨3, by decide⟩, rfl, d302_12, rfl⟩⟩, by decide +kernel, rfl, ?_⟩
      dsimp only [List.set]
      refine x_iconst (pc := 13) d302_13 ?_
      refine x_iret (pc := 14) rfl (fun z => Bool.noConfusion z) d302_14 ?_
      exact ⟨K, v, by rw [h2], hK, hk, fun z => absurd z h0⟩
theorem wr303 (hl : l.1.stackTraces = false) (hq : 193 ≤ q) (h : CREL I S) (hS : GOK S) {m : Int} (hm : InR m) : CT l 303 [.ref 0, .int (iI m), .ref 192] (mm q I v false) 1 6 (WQ q I (oAsk S (isM S m) (gA S 5 m))) := by
  have hcd : (oAsk S (isM S m) (gA S 5 m)).1 = 0 ∨ (oAsk S (isM S m) (gA S 5 m)).1 = 1 := by
    unfold oAsk
    repeat (first | exact Or.inl rfl | exact Or.inr rfl | split)
  have h1 := cm93 hl (by omega) h hS hm (q := q) (v := v)
  generalize (oAsk S (isM S m) (gA S 5 m)) = r at h1 hcd ⊢
  refine mkct2 hl (by decide) (Nat.le_of_ble_eq_true rfl) (L := [some (.ref 0), some (.int (iI m)), some (.ref 192), none]) rfl ?_
  refine x_aload_n (pc := 0) rfl d303_0 ?_
  refine x_iconst (pc := 1) d303_1 ?_
  refine x_aload_n (pc := 2) rfl d303_2 ?_
  refine x_iload_n (pc := 3) rfl d303_3 ?_
  refine x_callV (k := 0) (n := 0) (pc := 4) c303_46 h1 (ko0 (by omega)) rfl rfl (Nat.le_of_ble_eq_true rfl) (by decide +kernel) (by decide +kernel) d303_4 (Or.inr fun v9 τ h9 => ?_) (fun v9 τ h9 => ?_) (fun E9 τ h9 _ => ?_)
  · rcases h9 with ⟨_, K, e, _⟩ | ⟨_, K, e, _⟩
    · cases e; rfl
    · cases e
  · rcases h9 with ⟨h0, K, e, hK, hk⟩ | ⟨_, K, e, _⟩
    · cases e
      show Ex l 303 0 0 7 _ (.int (iI r.2.1) :: .int (iI 0) :: [.ref 192]) _ _
      refine x_i2lA (pc := 7) d303_7 ?_
      refine m_last (pc := 8) hq d303_8 ?_
      refine x_goto (pc := 9) (tgt := 15) d303_9 (by decide) ?_
      refine x_iconst (pc := 15) d303_15 ?_
      refine x_iret (pc := 16) rfl (fun z => Bool.noConfusion z) d303_16 ?_
      exact ⟨K, _, by rw [h0], hK, hk, fun _ => rfl⟩
    · cases e
  · rcases h9 with ⟨_, K, e, _⟩ | ⟨h0, K, e, hK, hk⟩
    · cases e
    · cases e
      have h2 : r.1 = 1 := by omega
      rw [h2]
      refine Or.inr ⟨13, 3, ⟨[], [], (0, 9, 12, 41), by decide +kernel, fun z hz => absurd hz List.not_mem_nil, by decide, by decide, by decide +kernel, Or.inl ⟨⟨3, by decide⟩, rfl, d303_12, rfl⟩⟩, by decide +kernel, rfl, ?_⟩
      dsimp only [List.set]
      refine x_iconst (pc := 13) d303_13 ?_
      refine x_iret (pc := 14) rfl (fun z => Bool.noConfusion z) d303_14 ?_
      exact ⟨K, v, by rw [h2], hK, hk, fun z => absurd z h0⟩
theorem wr304 (hl : l.1.stackTraces = false) (hq : 193 ≤ q) (h : CREL I S) (hS : GOK S) {f : Int} (hf : InR f) : CT l 304 [.ref 0, .int (iI f), .ref 192] (mm q I v false) 1 6 (WQ q I (oAsk S (isF S f) (gA S 6 f))) := by
  have hcd : (oAsk S (isF S f) (gA S 6 f)).1 = 0 ∨ (oAsk S (isF S f) (gA S 6 f)).1 = 1 := by
    unfold oAsk
    repeat (first | exact Or.inl rfl | exact Or.inr rfl | split)
  have h1 := cm95 hl (by omega) h hS hf (q := q) (v := v)
  generalize (oAsk S (isF S f) (gA S 6 f)) = r at h1 hcd ⊢
  refine mkct2 hl (by decide) (Nat.le_of_ble_eq_true rfl) (L := [some (.ref 0), some (.int (iI f)), some (.ref 192), none]) rfl ?_
  refine x_aload_n (pc := 0) rfl d304_0 ?_
  refine x_iconst (pc := 1) d304_1 ?_
  refine x_aload_n (pc := 2) rfl d304_2 ?_
  refine x_iload_n (pc := 3) rfl d304_3 ?_
  refine x_callV (k := 0) (n := 0) (pc := 4) c304_49 h1 (ko0 (by omega)) rfl rfl (Nat.le_of_ble_eq_true rfl) (by decide +kernel) (by decide +kernel) d304_4 (Or.inr fun v9 τ h9 => ?_) (fun v9 τ h9 => ?_) (fun E9 τ h9 _ => ?_)
  · rcases h9 with ⟨_, K, e, _⟩ | ⟨_, K, e, _⟩
    · cases e; rfl
    · cases e
  · rcases h9 with ⟨h0, K, e, hK, hk⟩ | ⟨_, K, e, _⟩
    · cases e
      show Ex l 304 0 0 7 _ (.int (iI r.2.1) :: .int (iI 0) :: [.ref 192]) _ _
      refine x_i2lA (pc := 7) d304_7 ?_
      refine m_last (pc := 8) hq d304_8 ?_
      refine x_goto (pc := 9) (tgt := 15) d304_9 (by decide) ?_
      refine x_iconst (pc := 15) d304_15 ?_
      refine x_iret (pc := 16) rfl (fun z => Bool.noConfusion z) d304_16 ?_
      exact ⟨K, _, by rw [h0], hK, hk, fun _ => rfl⟩
    · cases e
  · rcases h9 with ⟨_, K, e, _⟩ | ⟨h0, K, e, hK, hk⟩
    · cases e
    · cases e
      have h2 : r.1 = 1 := by omega
      rw [h2]
      refine Or.inr ⟨13, 3, ⟨[], [], (0, 9, 12, 41), by decide +kernel, fun z hz => absurd hz List.not_mem_nil, by decide, by decide, by decide +kernel, Or.inl ⟨⟨3, by decide⟩, rfl, d304_12, rfl⟩⟩, by decide +kernel, rfl, ?_⟩
      dsimp only [List.set]
      refine x_iconst (pc := 13) d304_13 ?_
      refine x_iret (pc := 14) rfl (fun z => Bool.noConfusion z) d304_14 ?_
      exact ⟨K, v, by rw [h2], hK, hk, fun z => absurd z h0⟩
theorem wr305 (hl : l.1.stackTraces = false) (hq : 193 ≤ q) (h : CREL I S) (hS : GOK S) {f : Int} (hf : InR f) {i : Int} (hi : InR i) : CT l 305 [.ref 0, .int (iI f), .int (iI i), .ref 192] (mm q I v false) 1 6 (WQ q I (oAsk S (isF S f) (if 0 ≤ i ∧ i < gA S 6 f then gA S 10 (6 * f + i) else -1))) := by
  have hcd : (oAsk S (isF S f) (if 0 ≤ i ∧ i < gA S 6 f then gA S 10 (6 * f + i) else -1)).1 = 0 ∨ (oAsk S (isF S f) (if 0 ≤ i ∧ i < gA S 6 f then gA S 10 (6 * f + i) else -1)).1 = 1 := by
    unfold oAsk
    repeat (first | exact Or.inl rfl | exact Or.inr rfl | split)
  have h1 := cm96 hl (by omega) h hS hf hi (q := q) (v := v)
  generalize (oAsk S (isF S f) (if 0 ≤ i ∧ i < gA S 6 f then gA S 10 (6 * f + i) else -1)) = r at h1 hcd ⊢
  refine mkct2 hl (by decide) (Nat.le_of_ble_eq_true rfl) (L := [some (.ref 0), some (.int (iI f)), some (.int (iI i)), some (.ref 192), none]) rfl ?_
  refine x_aload_n (pc := 0) rfl d305_0 ?_
  refine x_iconst (pc := 1) d305_1 ?_
  refine x_aload_n (pc := 2) rfl d305_2 ?_
  refine x_iload_n (pc := 3) rfl d305_3 ?_
  refine x_iload_n (pc := 4) rfl d305_4 ?_
  refine x_callV (k := 0) (n := 0) (pc := 5) c305_52 h1 (ko0 (by omega)) rfl rfl (Nat.le_of_ble_eq_true rfl) (by decide +kernel) (by decide +kernel) d305_5 (Or.inr fun v9 τ h9 => ?_) (fun v9 τ h9 => ?_) (fun E9 τ h9 _ => ?_)
  · rcases h9 with ⟨_, K, e, _⟩ | ⟨_, K, e, _⟩
    · cases e; rfl
    · cases e
  · rcases h9 with ⟨h0, K, e, hK, hk⟩ | ⟨_, K, e, _⟩
    · cases e
      show Ex l 305 0 0 8 _ (.int (iI r.2.1) :: .int (iI 0) :: [.ref 192]) _ _
      refine x_i2lA (pc := 8) d305_8 ?_
      refine m_last (pc := 9) hq d305_9 ?_
      refine x_goto (pc := 10) (tgt := 17) d305_10 (by decide) ?_
      refine x_iconst (pc := 17) d305_17 ?_
      refine x_iret (pc := 18) rfl (fun z => Bool.noConfusion z) d305_18 ?_
      exact ⟨K, _, by rw [h0], hK, hk, fun _ => rfl⟩
    · cases e
  · rcases h9 with ⟨_, K, e, _⟩ | ⟨h0, K, e, hK, hk⟩
    · cases e
    · cases e
      have h2 : r.1 = 1 := by omega
      rw [h2]
      refine Or.inr ⟨15, 4, ⟨[], [], (0, 10, 13, 41), by decide +kernel, fun z hz => absurd hz List.not_mem_nil, by decide, by decide, by decide +kernel, Or.inr ⟨d305_13, rfl⟩⟩, by decide +kernel, rfl, ?_⟩
      dsimp only [List.set]
      refine x_iconst (pc := 15) d305_15 ?_
      refine x_iret (pc := 16) rfl (fun z => Bool.noConfusion z) d305_16 ?_
      exact ⟨K, v, by rw [h2], hK, hk, fun z => absurd z h0⟩
theorem wr306 (hl : l.1.stackTraces = false) (hq : 193 ≤ q) (h : CREL I S) (hS : GOK S) {f : Int} (hf : InR f) {b : Int} (hb : InR b) : CT l 306 [.ref 0, .int (iI f), .int (iI b), .ref 192] (mm q I v false) 1 6 (WQ q I (oAsk S (isF S f) (if 0 ≤ b ∧ b < gA S 6 f * 8 then bitZ (SfA (gA S) f) b else -1))) := by
  have hcd : (oAsk S (isF S f) (if 0 ≤ b ∧ b < gA S 6 f * 8 then bitZ (SfA (gA S) f) b else -1)).1 = 0 ∨ (oAsk S (isF S f) (if 0 ≤ b ∧ b < gA S 6 f * 8 then bitZ (SfA (gA S) f) b else -1)).1 = 1 := by
    unfold oAsk
    repeat (first | exact Or.inl rfl | exact Or.inr rfl | split)
  have h1 := cm97 hl (by omega) h hS hf hb (q := q) (v := v)
  generalize (oAsk S (isF S f) (if 0 ≤ b ∧ b < gA S 6 f * 8 then bitZ (SfA (gA S) f) b else -1)) = r at h1 hcd ⊢
  refine mkct2 hl (by decide) (Nat.le_of_ble_eq_true rfl) (L := [some (.ref 0), some (.int (iI f)), some (.int (iI b)), some (.ref 192), none]) rfl ?_
  refine x_aload_n (pc := 0) rfl d306_0 ?_
  refine x_iconst (pc := 1) d306_1 ?_
  refine x_aload_n (pc := 2) rfl d306_2 ?_
  refine x_iload_n (pc := 3) rfl d306_3 ?_
  refine x_iload_n (pc := 4) rfl d306_4 ?_
  refine x_callV (k := 0) (n := 0) (pc := 5) c306_56 h1 (ko0 (by omega)) rfl rfl (Nat.le_of_ble_eq_true rfl) (by decide +kernel) (by decide +kernel) d306_5 (Or.inr fun v9 τ h9 => ?_) (fun v9 τ h9 => ?_) (fun E9 τ h9 _ => ?_)
  · rcases h9 with ⟨_, K, e, _⟩ | ⟨_, K, e, _⟩
    · cases e; rfl
    · cases e
  · rcases h9 with ⟨h0, K, e, hK, hk⟩ | ⟨_, K, e, _⟩
    · cases e
      show Ex l 306 0 0 8 _ (.int (iI r.2.1) :: .int (iI 0) :: [.ref 192]) _ _
      refine x_i2lA (pc := 8) d306_8 ?_
      refine m_last (pc := 9) hq d306_9 ?_
      refine x_goto (pc := 10) (tgt := 17) d306_10 (by decide) ?_
      refine x_iconst (pc := 17) d306_17 ?_
      refine x_iret (pc := 18) rfl (fun z => Bool.noConfusion z) d306_18 ?_
      exact ⟨K, _, by rw [h0], hK, hk, fun _ => rfl⟩
    · cases e
  · rcases h9 with ⟨_, K, e, _⟩ | ⟨h0, K, e, hK, hk⟩
    · cases e
    · cases e
      have h2 : r.1 = 1 := by omega
      rw [h2]
      refine Or.inr ⟨15, 4, ⟨[], [], (0, 10, 13, 41), by decide +kernel, fun z hz => absurd hz List.not_mem_nil, by decide, by decide, by decide +kernel, Or.inr ⟨d306_13, rfl⟩⟩, by decide +kernel, rfl, ?_⟩
      dsimp only [List.set]
      refine x_iconst (pc := 15) d306_15 ?_
      refine x_iret (pc := 16) rfl (fun z => Bool.noConfusion z) d306_16 ?_
      exact ⟨K, v, by rw [h2], hK, hk, fun z => absurd z h0⟩
theorem wr307 (hl : l.1.stackTraces = false) (hq : 193 ≤ q) (h : CREL I S) (hS : GOK S) {f : Int} (hf : InR f) : CT l 307 [.ref 0, .int (iI f), .ref 192] (mm q I v false) 1 6 (WQ q I (oAsk S (isF S f) (gA S 7 f))) := by
  have hcd : (oAsk S (isF S f) (gA S 7 f)).1 = 0 ∨ (oAsk S (isF S f) (gA S 7 f)).1 = 1 := by
    unfold oAsk
    repeat (first | exact Or.inl rfl | exact Or.inr rfl | split)
  have h1 := cm98 hl (by omega) h hS hf (q := q) (v := v)
  generalize (oAsk S (isF S f) (gA S 7 f)) = r at h1 hcd ⊢
  refine mkct2 hl (by decide) (Nat.le_of_ble_eq_true rfl) (L := [some (.ref 0), some (.int (iI f)), some (.ref 192), none]) rfl ?_
  refine x_aload_n (pc := 0) rfl d307_0 ?_
  refine x_iconst (pc := 1) d307_1 ?_
  refine x_aload_n (pc := 2) rfl d307_2 ?_
  refine x_iload_n (pc := 3) rfl d307_3 ?_
  refine x_callV (k := 0) (n := 0) (pc := 4) c307_59 h1 (ko0 (by omega)) rfl rfl (Nat.le_of_ble_eq_true rfl) (by decide +kernel) (by decide +kernel) d307_4 (Or.inr fun v9 τ h9 => ?_) (fun v9 τ h9 => ?_) (fun E9 τ h9 _ => ?_)
  · rcases h9 with ⟨_, K, e, _⟩ | ⟨_, K, e, _⟩
    · cases e; rfl
    · cases e
  · rcases h9 with ⟨h0, K, e, hK, hk⟩ | ⟨_, K, e, _⟩
    · cases e
      show Ex l 307 0 0 7 _ (.int (iI r.2.1) :: .int (iI 0) :: [.ref 192]) _ _
      refine x_i2lA (pc := 7) d307_7 ?_
      refine m_last (pc := 8) hq d307_8 ?_
      refine x_goto (pc := 9) (tgt := 15) d307_9 (by decide) ?_
      refine x_iconst (pc := 15) d307_15 ?_
      refine x_iret (pc := 16) rfl (fun z => Bool.noConfusion z) d307_16 ?_
      exact ⟨K, _, by rw [h0], hK, hk, fun _ => rfl⟩
    · cases e
  · rcases h9 with ⟨_, K, e, _⟩ | ⟨h0, K, e, hK, hk⟩
    · cases e
    · cases e
      have h2 : r.1 = 1 := by omega
      rw [h2]
      refine Or.inr ⟨13, 3, ⟨[], [], (0, 9, 12, 41), by decide +kernel, fun z hz => absurd hz List.not_mem_nil, by decide, by decide, by decide +kernel, Or.inl ⟨⟨3, by decide⟩, rfl, d307_12, rfl⟩⟩, by decide +kernel, rfl, ?_⟩
      dsimp only [List.set]
      refine x_iconst (pc := 13) d307_13 ?_
      refine x_iret (pc := 14) rfl (fun z => Bool.noConfusion z) d307_14 ?_
      exact ⟨K, v, by rw [h2], hK, hk, fun z => absurd z h0⟩
theorem wr308 (hl : l.1.stackTraces = false) (hq : 193 ≤ q) (h : CREL I S) (hS : GOK S) {f : Int} (hf : InR f) : CT l 308 [.ref 0, .int (iI f), .ref 192] (mm q I v false) 1 6 (WQ q I (oAsk S (isF S f) (gA S 8 f))) := by
  have hcd : (oAsk S (isF S f) (gA S 8 f)).1 = 0 ∨ (oAsk S (isF S f) (gA S 8 f)).1 = 1 := by
    unfold oAsk
    repeat (first | exact Or.inl rfl | exact Or.inr rfl | split)
  have h1 := cm99 hl (by omega) h hS hf (q := q) (v := v)
  generalize (oAsk S (isF S f) (gA S 8 f)) = r at h1 hcd ⊢
  refine mkct2 hl (by decide) (Nat.le_of_ble_eq_true rfl) (L := [some (.ref 0), some (.int (iI f)), some (.ref 192), none]) rfl ?_
  refine x_aload_n (pc := 0) rfl d308_0 ?_
  refine x_iconst (pc := 1) d308_1 ?_
  refine x_aload_n (pc := 2) rfl d308_2 ?_
  refine x_iload_n (pc := 3) rfl d308_3 ?_
  refine x_callV (k := 0) (n := 0) (pc := 4) c308_62 h1 (ko0 (by omega)) rfl rfl (Nat.le_of_ble_eq_true rfl) (by decide +kernel) (by decide +kernel) d308_4 (Or.inr fun v9 τ h9 => ?_) (fun v9 τ h9 => ?_) (fun E9 τ h9 _ => ?_)
  · rcases h9 with ⟨_, K, e, _⟩ | ⟨_, K, e, _⟩
    · cases e; rfl
    · cases e
  · rcases h9 with ⟨h0, K, e, hK, hk⟩ | ⟨_, K, e, _⟩
    · cases e
      show Ex l 308 0 0 7 _ (.int (iI r.2.1) :: .int (iI 0) :: [.ref 192]) _ _
      refine x_i2lA (pc := 7) d308_7 ?_
      refine m_last (pc := 8) hq d308_8 ?_
      refine x_goto (pc := 9) (tgt := 15) d308_9 (by decide) ?_
      refine x_iconst (pc := 15) d308_15 ?_
      refine x_iret (pc := 16) rfl (fun z => Bool.noConfusion z) d308_16 ?_
      exact ⟨K, _, by rw [h0], hK, hk, fun _ => rfl⟩
    · cases e
  · rcases h9 with ⟨_, K, e, _⟩ | ⟨h0, K, e, hK, hk⟩
    · cases e
    · cases e
      have h2 : r.1 = 1 := by omega
      rw [h2]
      refine Or.inr ⟨13, 3, ⟨[], [], (0, 9, 12, 41), by decide +kernel, fun z hz => absurd hz List.not_mem_nil, by decide, by decide, by decide +kernel, Or.inl ⟨⟨3, by decide⟩, rfl, d308_12, rfl⟩⟩, by decide +kernel, rfl, ?_⟩
      dsimp only [List.set]
      refine x_iconst (pc := 13) d308_13 ?_
      refine x_iret (pc := 14) rfl (fun z => Bool.noConfusion z) d308_14 ?_
      exact ⟨K, v, by rw [h2], hK, hk, fun z => absurd z h0⟩
theorem wr309 (hl : l.1.stackTraces = false) (hq : 193 ≤ q) (h : CREL I S) (hS : GOK S) {f : Int} (hf : InR f) : CT l 309 [.ref 0, .int (iI f), .ref 192] (mm q I v false) 1 6 (WQ q I (oAsk S (isF S f) (b01 (decide (gA S 9 f = 1))))) := by
  have hcd : (oAsk S (isF S f) (b01 (decide (gA S 9 f = 1)))).1 = 0 ∨ (oAsk S (isF S f) (b01 (decide (gA S 9 f = 1)))).1 = 1 := by
    unfold oAsk
    repeat (first | exact Or.inl rfl | exact Or.inr rfl | split)
  have hz : (oAsk S (isF S f) (b01 (decide (gA S 9 f = 1)))).1 = 0 → (oAsk S (isF S f) (b01 (decide (gA S 9 f = 1)))).2.1 = 0 ∨ (oAsk S (isF S f) (b01 (decide (gA S 9 f = 1)))).2.1 = 1 := by
    unfold oAsk
    repeat (first | exact fun _ => b01_or _ | exact fun z => absurd (show (1 : Int) = 0 from z) (by decide) | exact fun z => absurd (show (2 : Int) = 0 from z) (by decide) | split)
  have h1 := cm100 hl (by omega) h hS hf (q := q) (v := v)
  generalize (oAsk S (isF S f) (b01 (decide (gA S 9 f = 1)))) = r at h1 hcd hz ⊢
  refine mkct2 hl (by decide) (Nat.le_of_ble_eq_true rfl) (L := [some (.ref 0), some (.int (iI f)), some (.ref 192), none]) rfl ?_
  refine x_aload_n (pc := 0) rfl d309_0 ?_
  refine x_iconst (pc := 1) d309_1 ?_
  refine x_aload_n (pc := 2) rfl d309_2 ?_
  refine x_iload_n (pc := 3) rfl d309_3 ?_
  refine x_callV (k := 0) (n := 0) (pc := 4) c309_65 h1 (ko0 (by omega)) rfl rfl (Nat.le_of_ble_eq_true rfl) (by decide +kernel) (by decide +kernel) d309_4 (Or.inr fun v9 τ h9 => ?_) (fun v9 τ h9 => ?_) (fun E9 τ h9 _ => ?_)
  · rcases h9 with ⟨_, K, e, _⟩ | ⟨_, K, e, _⟩
    · cases e; rfl
    · cases e
  · rcases h9 with ⟨h0, K, e, hK, hk⟩ | ⟨_, K, e, _⟩
    · cases e
      have hzz := hz h0
      show Ex l 309 0 0 7 _ (.int (iI r.2.1) :: .int (iI 0) :: [.ref 192]) _ _
      refine x_if_eq (pc := 7) (tgt := 14) ⟨by omega, by omega⟩ d309_7 (by decide) (fun g => ?_) (fun g => ?_)
      · refine x_lconst (pc := 14) (z := 0) (by decide) d309_14 ?_
        refine m_last (pc := 15) hq d309_15 ?_
        refine x_goto (pc := 16) (tgt := 22) d309_16 (by decide) ?_
        refine x_iconst (pc := 22) d309_22 ?_
        refine x_iret (pc := 23) rfl (fun z => Bool.noConfusion z) d309_23 ?_
        exact ⟨K, _, by rw [h0], hK, hk, fun _ => by rw [show r.2.1 = 0 from by omega]; rfl⟩
      · refine x_lconst (pc := 10) (z := 1) (by decide) d309_10 ?_
        refine x_goto (pc := 11) (tgt := 15) d309_11 (by decide) ?_
        refine m_last (pc := 15) hq d309_15 ?_
        refine x_goto (pc := 16) (tgt := 22) d309_16 (by decide) ?_
        refine x_iconst (pc := 22) d309_22 ?_
        refine x_iret (pc := 23) rfl (fun z => Bool.noConfusion z) d309_23 ?_
        exact ⟨K, _, by rw [h0], hK, hk, fun _ => by rw [show r.2.1 = 1 from by omega]; rfl⟩
    · cases e
  · rcases h9 with ⟨_, K, e, _⟩ | ⟨h0, K, e, hK, hk⟩
    · cases e
    · cases e
      have h2 : r.1 = 1 := by omega
      rw [h2]
      refine Or.inr ⟨20, 3, ⟨[], [], (0, 16, 19, 41), by decide +kernel, fun z hz => absurd hz List.not_mem_nil, by decide, by decide, by decide +kernel, Or.inl ⟨⟨3, by decide⟩, rfl, d309_19, rfl⟩⟩, by decide +kernel, rfl, ?_⟩
      dsimp only [List.set]
      refine x_iconst (pc := 20) d309_20 ?_
      refine x_iret (pc := 21) rfl (fun z => Bool.noConfusion z) d309_21 ?_
      exact ⟨K, v, by rw [h2], hK, hk, fun z => absurd z h0⟩
theorem wr310 (hl : l.1.stackTraces = false) (hq : 193 ≤ q) (h : CREL I S) (hS : GOK S) {f : Int} (hf : InR f) {i : Int} (hi : InR i) : CT l 310 [.ref 0, .int (iI f), .int (iI i), .ref 192] (mm q I v false) 1 6 (WQ q I (oAsk S (isF S f) (if gA S 9 f = 1 ∧ 0 ≤ i ∧ i < gA S 6 f then gA S 11 (6 * f + i) else -1))) := by
  have hcd : (oAsk S (isF S f) (if gA S 9 f = 1 ∧ 0 ≤ i ∧ i < gA S 6 f then gA S 11 (6 * f + i) else -1)).1 = 0 ∨ (oAsk S (isF S f) (if gA S 9 f = 1 ∧ 0 ≤ i ∧ i < gA S 6 f then gA S 11 (6 * f + i) else -1)).1 = 1 := by
    unfold oAsk
    repeat (first | exact Or.inl rfl | exact Or.inr rfl | split)
  have h1 := cm101 hl (by omega) h hS hf hi (q := q) (v := v)
  generalize (oAsk S (isF S f) (if gA S 9 f = 1 ∧ 0 ≤ i ∧ i < gA S 6 f then gA S 11 (6 * f + i) else -1)) = r at h1 hcd ⊢
  refine mkct2 hl (by decide) (Nat.le_of_ble_eq_true rfl) (L := [some (.ref 0), some (.int (iI f)), some (.int (iI i)), some (.ref 192), none]) rfl ?_
  refine x_aload_n (pc := 0) rfl d310_0 ?_
  refine x_iconst (pc := 1) d310_1 ?_
  refine x_aload_n (pc := 2) rfl d310_2 ?_
  refine x_iload_n (pc := 3) rfl d310_3 ?_
  refine x_iload_n (pc := 4) rfl d310_4 ?_
  refine x_callV (k := 0) (n := 0) (pc := 5) c310_68 h1 (ko0 (by omega)) rfl rfl (Nat.le_of_ble_eq_true rfl) (by decide +kernel) (by decide +kernel) d310_5 (Or.inr fun v9 τ h9 => ?_) (fun v9 τ h9 => ?_) (fun E9 τ h9 _ => ?_)
  · rcases h9 with ⟨_, K, e, _⟩ | ⟨_, K, e, _⟩
    · cases e; rfl
    · cases e
  · rcases h9 with ⟨h0, K, e, hK, hk⟩ | ⟨_, K, e, _⟩
    · cases e
      show Ex l 310 0 0 8 _ (.int (iI r.2.1) :: .int (iI 0) :: [.ref 192]) _ _
      refine x_i2lA (pc := 8) d310_8 ?_
      refine m_last (pc := 9) hq d310_9 ?_
      refine x_goto (pc := 10) (tgt := 17) d310_10 (by decide) ?_
      refine x_iconst (pc := 17) d310_17 ?_
      refine x_iret (pc := 18) rfl (fun z => Bool.noConfusion z) d310_18 ?_
      exact ⟨K, _, by rw [h0], hK, hk, fun _ => rfl⟩
    · cases e
  · rcases h9 with ⟨_, K, e, _⟩ | ⟨h0, K, e, hK, hk⟩
    · cases e
    · cases e
      have h2 : r.1 = 1 := by omega
      rw [h2]
      refine Or.inr ⟨15, 4, ⟨[], [], (0, 10, 13, 41), by decide +kernel, fun z hz => absurd hz List.not_mem_nil, by decide, by decide, by decide +kernel, Or.inr ⟨d310_13, rfl⟩⟩, by decide +kernel, rfl, ?_⟩
      dsimp only [List.set]
      refine x_iconst (pc := 15) d310_15 ?_
      refine x_iret (pc := 16) rfl (fun z => Bool.noConfusion z) d310_16 ?_
      exact ⟨K, v, by rw [h2], hK, hk, fun z => absurd z h0⟩
theorem wr311 (hl : l.1.stackTraces = false) (hq : 193 ≤ q) (h : CREL I S) (hS : GOK S) {f : Int} (hf : InR f) : CT l 311 [.ref 0, .int (iI f), .ref 192] (mm q I v false) 1 6 (WQ q I (oAsk S (isF S f) (b01 (intA (gA S) f)))) := by
  have hcd : (oAsk S (isF S f) (b01 (intA (gA S) f))).1 = 0 ∨ (oAsk S (isF S f) (b01 (intA (gA S) f))).1 = 1 := by
    unfold oAsk
    repeat (first | exact Or.inl rfl | exact Or.inr rfl | split)
  have hz : (oAsk S (isF S f) (b01 (intA (gA S) f))).1 = 0 → (oAsk S (isF S f) (b01 (intA (gA S) f))).2.1 = 0 ∨ (oAsk S (isF S f) (b01 (intA (gA S) f))).2.1 = 1 := by
    unfold oAsk
    repeat (first | exact fun _ => b01_or _ | exact fun z => absurd (show (1 : Int) = 0 from z) (by decide) | exact fun z => absurd (show (2 : Int) = 0 from z) (by decide) | split)
  have h1 := cm102 hl (by omega) h hS hf (q := q) (v := v)
  generalize (oAsk S (isF S f) (b01 (intA (gA S) f))) = r at h1 hcd hz ⊢
  refine mkct2 hl (by decide) (Nat.le_of_ble_eq_true rfl) (L := [some (.ref 0), some (.int (iI f)), some (.ref 192), none]) rfl ?_
  refine x_aload_n (pc := 0) rfl d311_0 ?_
  refine x_iconst (pc := 1) d311_1 ?_
  refine x_aload_n (pc := 2) rfl d311_2 ?_
  refine x_iload_n (pc := 3) rfl d311_3 ?_
  refine x_callV (k := 0) (n := 0) (pc := 4) c311_71 h1 (ko0 (by omega)) rfl rfl (Nat.le_of_ble_eq_true rfl) (by decide +kernel) (by decide +kernel) d311_4 (Or.inr fun v9 τ h9 => ?_) (fun v9 τ h9 => ?_) (fun E9 τ h9 _ => ?_)
  · rcases h9 with ⟨_, K, e, _⟩ | ⟨_, K, e, _⟩
    · cases e; rfl
    · cases e
  · rcases h9 with ⟨h0, K, e, hK, hk⟩ | ⟨_, K, e, _⟩
    · cases e
      have hzz := hz h0
      show Ex l 311 0 0 7 _ (.int (iI r.2.1) :: .int (iI 0) :: [.ref 192]) _ _
      refine x_if_eq (pc := 7) (tgt := 14) ⟨by omega, by omega⟩ d311_7 (by decide) (fun g => ?_) (fun g => ?_)
      · refine x_lconst (pc := 14) (z := 0) (by decide) d311_14 ?_
        refine m_last (pc := 15) hq d311_15 ?_
        refine x_goto (pc := 16) (tgt := 22) d311_16 (by decide) ?_
        refine x_iconst (pc := 22) d311_22 ?_
        refine x_iret (pc := 23) rfl (fun z => Bool.noConfusion z) d311_23 ?_
        exact ⟨K, _, by rw [h0], hK, hk, fun _ => by rw [show r.2.1 = 0 from by omega]; rfl⟩
      · refine x_lconst (pc := 10) (z := 1) (by decide) d311_10 ?_
        refine x_goto (pc := 11) (tgt := 15) d311_11 (by decide) ?_
        refine m_last (pc := 15) hq d311_15 ?_
        refine x_goto (pc := 16) (tgt := 22) d311_16 (by decide) ?_
        refine x_iconst (pc := 22) d311_22 ?_
        refine x_iret (pc := 23) rfl (fun z => Bool.noConfusion z) d311_23 ?_
        exact ⟨K, _, by rw [h0], hK, hk, fun _ => by rw [show r.2.1 = 1 from by omega]; rfl⟩
    · cases e
  · rcases h9 with ⟨_, K, e, _⟩ | ⟨h0, K, e, hK, hk⟩
    · cases e
    · cases e
      have h2 : r.1 = 1 := by omega
      rw [h2]
      refine Or.inr ⟨20, 3, ⟨[], [], (0, 16, 19, 41), by decide +kernel, fun z hz => absurd hz List.not_mem_nil, by decide, by decide, by decide +kernel, Or.inl ⟨⟨3, by decide⟩, rfl, d311_19, rfl⟩⟩, by decide +kernel, rfl, ?_⟩
      dsimp only [List.set]
      refine x_iconst (pc := 20) d311_20 ?_
      refine x_iret (pc := 21) rfl (fun z => Bool.noConfusion z) d311_21 ?_
      exact ⟨K, v, by rw [h2], hK, hk, fun z => absurd z h0⟩
theorem wr312 (hl : l.1.stackTraces = false) (hq : 193 ≤ q) (h : CREL I S) (hS : GOK S) {b : Int} (hb : InR b) : CT l 312 [.ref 0, .int (iI b), .ref 192] (mm q I v false) 1 6 (WQ q I (oAsk S (decide (0 ≤ b ∧ b < 100)) (tkI b (gA S 0 1)))) := by
  have hcd : (oAsk S (decide (0 ≤ b ∧ b < 100)) (tkI b (gA S 0 1))).1 = 0 ∨ (oAsk S (decide (0 ≤ b ∧ b < 100)) (tkI b (gA S 0 1))).1 = 1 := by
    unfold oAsk
    repeat (first | exact Or.inl rfl | exact Or.inr rfl | split)
  have h1 := cm103 hl (by omega) h hS hb (q := q) (v := v)
  generalize (oAsk S (decide (0 ≤ b ∧ b < 100)) (tkI b (gA S 0 1))) = r at h1 hcd ⊢
  refine mkct2 hl (by decide) (Nat.le_of_ble_eq_true rfl) (L := [some (.ref 0), some (.int (iI b)), some (.ref 192), none]) rfl ?_
  refine x_aload_n (pc := 0) rfl d312_0 ?_
  refine x_iconst (pc := 1) d312_1 ?_
  refine x_aload_n (pc := 2) rfl d312_2 ?_
  refine x_iload_n (pc := 3) rfl d312_3 ?_
  refine x_callV (k := 0) (n := 0) (pc := 4) c312_74 h1 (ko0 (by omega)) rfl rfl (Nat.le_of_ble_eq_true rfl) (by decide +kernel) (by decide +kernel) d312_4 (Or.inr fun v9 τ h9 => ?_) (fun v9 τ h9 => ?_) (fun E9 τ h9 _ => ?_)
  · rcases h9 with ⟨_, K, e, _⟩ | ⟨_, K, e, _⟩
    · cases e; rfl
    · cases e
  · rcases h9 with ⟨h0, K, e, hK, hk⟩ | ⟨_, K, e, _⟩
    · cases e
      show Ex l 312 0 0 7 _ (.int (iI r.2.1) :: .int (iI 0) :: [.ref 192]) _ _
      refine x_i2lA (pc := 7) d312_7 ?_
      refine m_last (pc := 8) hq d312_8 ?_
      refine x_goto (pc := 9) (tgt := 15) d312_9 (by decide) ?_
      refine x_iconst (pc := 15) d312_15 ?_
      refine x_iret (pc := 16) rfl (fun z => Bool.noConfusion z) d312_16 ?_
      exact ⟨K, _, by rw [h0], hK, hk, fun _ => rfl⟩
    · cases e
  · rcases h9 with ⟨_, K, e, _⟩ | ⟨h0, K, e, hK, hk⟩
    · cases e
    · cases e
      have h2 : r.1 = 1 := by omega
      rw [h2]
      refine Or.inr ⟨13, 3, ⟨[], [], (0, 9, 12, 19), by decide +kernel, fun z hz => absurd hz List.not_mem_nil, by decide, by decide, by decide +kernel, Or.inl ⟨⟨3, by decide⟩, rfl, d312_12, rfl⟩⟩, by decide +kernel, rfl, ?_⟩
      dsimp only [List.set]
      refine x_iconst (pc := 13) d312_13 ?_
      refine x_iret (pc := 14) rfl (fun z => Bool.noConfusion z) d312_14 ?_
      exact ⟨K, v, by rw [h2], hK, hk, fun z => absurd z h0⟩
theorem wr313 (hl : l.1.stackTraces = false) (hq : 193 ≤ q) (h : CREL I S) (hS : GOK S) {f : Int} (hf : InR f) {b : Int} (hb : InR b) {t : Int} (ht : InR t) : CT l 313 [.ref 0, .int (iI f), .int (iI b), .int (iI t), .ref 192] (mm q I v false) 1 6 (WQ q I (oAsk2 S (isF S f) (isT t) (if 0 ≤ b ∧ b < gA S 6 f * 8 then takB (gA S) f t b else -1))) := by
  have hcd : (oAsk2 S (isF S f) (isT t) (if 0 ≤ b ∧ b < gA S 6 f * 8 then takB (gA S) f t b else -1)).1 = 0 ∨ (oAsk2 S (isF S f) (isT t) (if 0 ≤ b ∧ b < gA S 6 f * 8 then takB (gA S) f t b else -1)).1 = 1 ∨ (oAsk2 S (isF S f) (isT t) (if 0 ≤ b ∧ b < gA S 6 f * 8 then takB (gA S) f t b else -1)).1 = 2 := by
    unfold oAsk2
    repeat (first | exact Or.inl rfl | exact Or.inr (Or.inl rfl) | exact Or.inr (Or.inr rfl) | split)
  have h1 := cm105 hl (by omega) h hS hf hb ht (q := q) (v := v)
  generalize (oAsk2 S (isF S f) (isT t) (if 0 ≤ b ∧ b < gA S 6 f * 8 then takB (gA S) f t b else -1)) = r at h1 hcd ⊢
  refine mkct2 hl (by decide) (Nat.le_of_ble_eq_true rfl) (L := [some (.ref 0), some (.int (iI f)), some (.int (iI b)), some (.int (iI t)), some (.ref 192), none]) rfl ?_
  refine x_aload (pc := 0) rfl d313_0 ?_
  refine x_iconst (pc := 2) d313_2 ?_
  refine x_aload_n (pc := 3) rfl d313_3 ?_
  refine x_iload_n (pc := 4) rfl d313_4 ?_
  refine x_iload_n (pc := 5) rfl d313_5 ?_
  refine x_iload_n (pc := 6) rfl d313_6 ?_
  refine x_callV (k := 0) (n := 0) (pc := 7) c313_77 h1 (ko0 (by omega)) rfl rfl (Nat.le_of_ble_eq_true rfl) (by decide +kernel) (by decide +kernel) d313_7 (Or.inr fun v9 τ h9 => ?_) (fun v9 τ h9 => ?_) (fun E9 τ h9 _ => ?_)
  · rcases h9 with ⟨_, K, e, _⟩ | ⟨_, K, e, _⟩
    · cases e; rfl
    · cases e
  · rcases h9 with ⟨h0, K, e, hK, hk⟩ | ⟨_, K, e, _⟩
    · cases e
      show Ex l 313 0 0 10 _ (.int (iI r.2.1) :: .int (iI 0) :: [.ref 192]) _ _
      refine x_i2lA (pc := 10) d313_10 ?_
      refine m_last (pc := 11) hq d313_11 ?_
      refine x_goto (pc := 12) (tgt := 23) d313_12 (by decide) ?_
      refine x_iconst (pc := 23) d313_23 ?_
      refine x_iret (pc := 24) rfl (fun z => Bool.noConfusion z) d313_24 ?_
      exact ⟨K, _, by rw [h0], hK, hk, fun _ => rfl⟩
    · cases e
  · rcases h9 with ⟨_, K, e, _⟩ | ⟨h0, K, e, hK, hk⟩
    · cases e
    · cases e
      by_cases h2 : r.1 = 1
      · rw [h2]
        refine Or.inr ⟨17, 5, ⟨[], [(0, 12, 19, 19)], (0, 12, 15, 41), by decide +kernel, fun z hz => absurd hz List.not_mem_nil, by decide, by decide, by decide +kernel, Or.inr ⟨d313_15, rfl⟩⟩, by decide +kernel, rfl, ?_⟩
        dsimp only [List.set]
        refine x_iconst (pc := 17) d313_17 ?_
        refine x_iret (pc := 18) rfl (fun z => Bool.noConfusion z) d313_18 ?_
        exact ⟨K, v, by rw [h2], hK, hk, fun z => absurd z h0⟩
      · have h2 : r.1 = 2 := by omega
        rw [h2]
        refine Or.inr ⟨21, 5, ⟨[(0, 12, 15, 41)], [], (0, 12, 19, 19), by decide +kernel, fun z hz => by rw [List.mem_singleton.mp hz]; exact ⟨2, by decide +kernel, by decide⟩, by decide, by decide, by decide +kernel, Or.inr ⟨d313_19, rfl⟩⟩, by decide +kernel, rfl, ?_⟩
        dsimp only [List.set]
        refine x_iconst (pc := 21) d313_21 ?_
        refine x_iret (pc := 22) rfl (fun z => Bool.noConfusion z) d313_22 ?_
        exact ⟨K, v, by rw [h2], hK, hk, fun z => absurd z h0⟩
theorem wr314 (hl : l.1.stackTraces = false) (hq : 193 ≤ q) (h : CREL I S) (hS : GOK S) {f : Int} (hf : InR f) {t : Int} (ht : InR t) : CT l 314 [.ref 0, .int (iI f), .int (iI t), .ref 192] (mm q I v false) 1 6 (WQ q I (oAsk2 S (isF S f) (isT t) (invN (chA (gA S) t (gA S 0 0)) (gA S 6 f * 8).toNat))) := by
  have hcd : (oAsk2 S (isF S f) (isT t) (invN (chA (gA S) t (gA S 0 0)) (gA S 6 f * 8).toNat)).1 = 0 ∨ (oAsk2 S (isF S f) (isT t) (invN (chA (gA S) t (gA S 0 0)) (gA S 6 f * 8).toNat)).1 = 1 ∨ (oAsk2 S (isF S f) (isT t) (invN (chA (gA S) t (gA S 0 0)) (gA S 6 f * 8).toNat)).1 = 2 := by
    unfold oAsk2
    repeat (first | exact Or.inl rfl | exact Or.inr (Or.inl rfl) | exact Or.inr (Or.inr rfl) | split)
  have h1 := cm106 hl (by omega) h hS hf ht (q := q) (v := v)
  generalize (oAsk2 S (isF S f) (isT t) (invN (chA (gA S) t (gA S 0 0)) (gA S 6 f * 8).toNat)) = r at h1 hcd ⊢
  refine mkct2 hl (by decide) (Nat.le_of_ble_eq_true rfl) (L := [some (.ref 0), some (.int (iI f)), some (.int (iI t)), some (.ref 192), none]) rfl ?_
  refine x_aload_n (pc := 0) rfl d314_0 ?_
  refine x_iconst (pc := 1) d314_1 ?_
  refine x_aload_n (pc := 2) rfl d314_2 ?_
  refine x_iload_n (pc := 3) rfl d314_3 ?_
  refine x_iload_n (pc := 4) rfl d314_4 ?_
  refine x_callV (k := 0) (n := 0) (pc := 5) c314_81 h1 (ko0 (by omega)) rfl rfl (Nat.le_of_ble_eq_true rfl) (by decide +kernel) (by decide +kernel) d314_5 (Or.inr fun v9 τ h9 => ?_) (fun v9 τ h9 => ?_) (fun E9 τ h9 _ => ?_)
  · rcases h9 with ⟨_, K, e, _⟩ | ⟨_, K, e, _⟩
    · cases e; rfl
    · cases e
  · rcases h9 with ⟨h0, K, e, hK, hk⟩ | ⟨_, K, e, _⟩
    · cases e
      show Ex l 314 0 0 8 _ (.int (iI r.2.1) :: .int (iI 0) :: [.ref 192]) _ _
      refine x_i2lA (pc := 8) d314_8 ?_
      refine m_last (pc := 9) hq d314_9 ?_
      refine x_goto (pc := 10) (tgt := 21) d314_10 (by decide) ?_
      refine x_iconst (pc := 21) d314_21 ?_
      refine x_iret (pc := 22) rfl (fun z => Bool.noConfusion z) d314_22 ?_
      exact ⟨K, _, by rw [h0], hK, hk, fun _ => rfl⟩
    · cases e
  · rcases h9 with ⟨_, K, e, _⟩ | ⟨h0, K, e, hK, hk⟩
    · cases e
    · cases e
      by_cases h2 : r.1 = 1
      · rw [h2]
        refine Or.inr ⟨15, 4, ⟨[], [(0, 10, 17, 19)], (0, 10, 13, 41), by decide +kernel, fun z hz => absurd hz List.not_mem_nil, by decide, by decide, by decide +kernel, Or.inr ⟨d314_13, rfl⟩⟩, by decide +kernel, rfl, ?_⟩
        dsimp only [List.set]
        refine x_iconst (pc := 15) d314_15 ?_
        refine x_iret (pc := 16) rfl (fun z => Bool.noConfusion z) d314_16 ?_
        exact ⟨K, v, by rw [h2], hK, hk, fun z => absurd z h0⟩
      · have h2 : r.1 = 2 := by omega
        rw [h2]
        refine Or.inr ⟨19, 4, ⟨[(0, 10, 13, 41)], [], (0, 10, 17, 19), by decide +kernel, fun z hz => by rw [List.mem_singleton.mp hz]; exact ⟨2, by decide +kernel, by decide⟩, by decide, by decide, by decide +kernel, Or.inr ⟨d314_17, rfl⟩⟩, by decide +kernel, rfl, ?_⟩
        dsimp only [List.set]
        refine x_iconst (pc := 19) d314_19 ?_
        refine x_iret (pc := 20) rfl (fun z => Bool.noConfusion z) d314_20 ?_
        exact ⟨K, v, by rw [h2], hK, hk, fun z => absurd z h0⟩
theorem wr315 (hl : l.1.stackTraces = false) (hq : 193 ≤ q) (h : CREL I S) (hS : GOK S) {f : Int} (hf : InR f) {t : Int} (ht : InR t) : CT l 315 [.ref 0, .int (iI f), .int (iI t), .ref 192] (mm q I v false) 1 6 (WQ q I (oAsk2 S (isF S f) (isT t) (bstN (chA (gA S) t (gA S 0 0)) (gA S 6 f * 8).toNat))) := by
  have hcd : (oAsk2 S (isF S f) (isT t) (bstN (chA (gA S) t (gA S 0 0)) (gA S 6 f * 8).toNat)).1 = 0 ∨ (oAsk2 S (isF S f) (isT t) (bstN (chA (gA S) t (gA S 0 0)) (gA S 6 f * 8).toNat)).1 = 1 ∨ (oAsk2 S (isF S f) (isT t) (bstN (chA (gA S) t (gA S 0 0)) (gA S 6 f * 8).toNat)).1 = 2 := by
    unfold oAsk2
    repeat (first | exact Or.inl rfl | exact Or.inr (Or.inl rfl) | exact Or.inr (Or.inr rfl) | split)
  have h1 := cm107 hl (by omega) h hS hf ht (q := q) (v := v)
  generalize (oAsk2 S (isF S f) (isT t) (bstN (chA (gA S) t (gA S 0 0)) (gA S 6 f * 8).toNat)) = r at h1 hcd ⊢
  refine mkct2 hl (by decide) (Nat.le_of_ble_eq_true rfl) (L := [some (.ref 0), some (.int (iI f)), some (.int (iI t)), some (.ref 192), none]) rfl ?_
  refine x_aload_n (pc := 0) rfl d315_0 ?_
  refine x_iconst (pc := 1) d315_1 ?_
  refine x_aload_n (pc := 2) rfl d315_2 ?_
  refine x_iload_n (pc := 3) rfl d315_3 ?_
  refine x_iload_n (pc := 4) rfl d315_4 ?_
  refine x_callV (k := 0) (n := 0) (pc := 5) c315_84 h1 (ko0 (by omega)) rfl rfl (Nat.le_of_ble_eq_true rfl) (by decide +kernel) (by decide +kernel) d315_5 (Or.inr fun v9 τ h9 => ?_) (fun v9 τ h9 => ?_) (fun E9 τ h9 _ => ?_)
  · rcases h9 with ⟨_, K, e, _⟩ | ⟨_, K, e, _⟩
    · cases e; rfl
    · cases e
  · rcases h9 with ⟨h0, K, e, hK, hk⟩ | ⟨_, K, e, _⟩
    · cases e
      show Ex l 315 0 0 8 _ (.int (iI r.2.1) :: .int (iI 0) :: [.ref 192]) _ _
      refine x_i2lA (pc := 8) d315_8 ?_
      refine m_last (pc := 9) hq d315_9 ?_
      refine x_goto (pc := 10) (tgt := 21) d315_10 (by decide) ?_
      refine x_iconst (pc := 21) d315_21 ?_
      refine x_iret (pc := 22) rfl (fun z => Bool.noConfusion z) d315_22 ?_
      exact ⟨K, _, by rw [h0], hK, hk, fun _ => rfl⟩
    · cases e
  · rcases h9 with ⟨_, K, e, _⟩ | ⟨h0, K, e, hK, hk⟩
    · cases e
    · cases e
      by_cases h2 : r.1 = 1
      · rw [h2]
        refine Or.inr ⟨15, 4, ⟨[], [(0, 10, 17, 19)], (0, 10, 13, 41), by decide +kernel, fun z hz => absurd hz List.not_mem_nil, by decide, by decide, by decide +kernel, Or.inr ⟨d315_13, rfl⟩⟩, by decide +kernel, rfl, ?_⟩
        dsimp only [List.set]
        refine x_iconst (pc := 15) d315_15 ?_
        refine x_iret (pc := 16) rfl (fun z => Bool.noConfusion z) d315_16 ?_
        exact ⟨K, v, by rw [h2], hK, hk, fun z => absurd z h0⟩
      · have h2 : r.1 = 2 := by omega
        rw [h2]
        refine Or.inr ⟨19, 4, ⟨[(0, 10, 13, 41)], [], (0, 10, 17, 19), by decide +kernel, fun z hz => by rw [List.mem_singleton.mp hz]; exact ⟨2, by decide +kernel, by decide⟩, by decide, by decide, by decide +kernel, Or.inr ⟨d315_17, rfl⟩⟩, by decide +kernel, rfl, ?_⟩
        dsimp only [List.set]
        refine x_iconst (pc := 19) d315_19 ?_
        refine x_iret (pc := 20) rfl (fun z => Bool.noConfusion z) d315_20 ?_
        exact ⟨K, v, by rw [h2], hK, hk, fun z => absurd z h0⟩
theorem wr316 (hl : l.1.stackTraces = false) (hq : 193 ≤ q) (h : CREL I S) (hS : GOK S) {f : Int} (hf : InR f) {t : Int} (ht : InR t) : CT l 316 [.ref 0, .int (iI f), .int (iI t), .ref 192] (mm q I v false) 1 6 (WQ q I (oAsk2 S (isF S f) (isT t) (wrgA (gA S) f t))) := by
  have hcd : (oAsk2 S (isF S f) (isT t) (wrgA (gA S) f t)).1 = 0 ∨ (oAsk2 S (isF S f) (isT t) (wrgA (gA S) f t)).1 = 1 ∨ (oAsk2 S (isF S f) (isT t) (wrgA (gA S) f t)).1 = 2 := by
    unfold oAsk2
    repeat (first | exact Or.inl rfl | exact Or.inr (Or.inl rfl) | exact Or.inr (Or.inr rfl) | split)
  have h1 := cm108 hl (by omega) h hS hf ht (q := q) (v := v)
  generalize (oAsk2 S (isF S f) (isT t) (wrgA (gA S) f t)) = r at h1 hcd ⊢
  refine mkct2 hl (by decide) (Nat.le_of_ble_eq_true rfl) (L := [some (.ref 0), some (.int (iI f)), some (.int (iI t)), some (.ref 192), none]) rfl ?_
  refine x_aload_n (pc := 0) rfl d316_0 ?_
  refine x_iconst (pc := 1) d316_1 ?_
  refine x_aload_n (pc := 2) rfl d316_2 ?_
  refine x_iload_n (pc := 3) rfl d316_3 ?_
  refine x_iload_n (pc := 4) rfl d316_4 ?_
  refine x_callV (k := 0) (n := 0) (pc := 5) c316_87 h1 (ko0 (by omega)) rfl rfl (Nat.le_of_ble_eq_true rfl) (by decide +kernel) (by decide +kernel) d316_5 (Or.inr fun v9 τ h9 => ?_) (fun v9 τ h9 => ?_) (fun E9 τ h9 _ => ?_)
  · rcases h9 with ⟨_, K, e, _⟩ | ⟨_, K, e, _⟩
    · cases e; rfl
    · cases e
  · rcases h9 with ⟨h0, K, e, hK, hk⟩ | ⟨_, K, e, _⟩
    · cases e
      show Ex l 316 0 0 8 _ (.int (iI r.2.1) :: .int (iI 0) :: [.ref 192]) _ _
      refine x_i2lA (pc := 8) d316_8 ?_
      refine m_last (pc := 9) hq d316_9 ?_
      refine x_goto (pc := 10) (tgt := 21) d316_10 (by decide) ?_
      refine x_iconst (pc := 21) d316_21 ?_
      refine x_iret (pc := 22) rfl (fun z => Bool.noConfusion z) d316_22 ?_
      exact ⟨K, _, by rw [h0], hK, hk, fun _ => rfl⟩
    · cases e
  · rcases h9 with ⟨_, K, e, _⟩ | ⟨h0, K, e, hK, hk⟩
    · cases e
    · cases e
      by_cases h2 : r.1 = 1
      · rw [h2]
        refine Or.inr ⟨15, 4, ⟨[], [(0, 10, 17, 19)], (0, 10, 13, 41), by decide +kernel, fun z hz => absurd hz List.not_mem_nil, by decide, by decide, by decide +kernel, Or.inr ⟨d316_13, rfl⟩⟩, by decide +kernel, rfl, ?_⟩
        dsimp only [List.set]
        refine x_iconst (pc := 15) d316_15 ?_
        refine x_iret (pc := 16) rfl (fun z => Bool.noConfusion z) d316_16 ?_
        exact ⟨K, v, by rw [h2], hK, hk, fun z => absurd z h0⟩
      · have h2 : r.1 = 2 := by omega
        rw [h2]
        refine Or.inr ⟨19, 4, ⟨[(0, 10, 13, 41)], [], (0, 10, 17, 19), by decide +kernel, fun z hz => by rw [List.mem_singleton.mp hz]; exact ⟨2, by decide +kernel, by decide⟩, by decide, by decide, by decide +kernel, Or.inr ⟨d316_17, rfl⟩⟩, by decide +kernel, rfl, ?_⟩
        dsimp only [List.set]
        refine x_iconst (pc := 19) d316_19 ?_
        refine x_iret (pc := 20) rfl (fun z => Bool.noConfusion z) d316_20 ?_
        exact ⟨K, v, by rw [h2], hK, hk, fun z => absurd z h0⟩
theorem wr317 (hl : l.1.stackTraces = false) (hq : 193 ≤ q) (h : CREL I S) (hS : GOK S) {f : Int} (hf : InR f) {t : Int} (ht : InR t) : CT l 317 [.ref 0, .int (iI f), .int (iI t), .ref 192] (mm q I v false) 1 6 (WQ q I (oAsk2 S (isF S f) (isT t) (resA (gA S) f t (gA S 0 0)))) := by
  have hcd : (oAsk2 S (isF S f) (isT t) (resA (gA S) f t (gA S 0 0))).1 = 0 ∨ (oAsk2 S (isF S f) (isT t) (resA (gA S) f t (gA S 0 0))).1 = 1 ∨ (oAsk2 S (isF S f) (isT t) (resA (gA S) f t (gA S 0 0))).1 = 2 := by
    unfold oAsk2
    repeat (first | exact Or.inl rfl | exact Or.inr (Or.inl rfl) | exact Or.inr (Or.inr rfl) | split)
  have h1 := cm109 hl (by omega) h hS hf ht (q := q) (v := v)
  generalize (oAsk2 S (isF S f) (isT t) (resA (gA S) f t (gA S 0 0))) = r at h1 hcd ⊢
  refine mkct2 hl (by decide) (Nat.le_of_ble_eq_true rfl) (L := [some (.ref 0), some (.int (iI f)), some (.int (iI t)), some (.ref 192), none]) rfl ?_
  refine x_aload_n (pc := 0) rfl d317_0 ?_
  refine x_iconst (pc := 1) d317_1 ?_
  refine x_aload_n (pc := 2) rfl d317_2 ?_
  refine x_iload_n (pc := 3) rfl d317_3 ?_
  refine x_iload_n (pc := 4) rfl d317_4 ?_
  refine x_callV (k := 0) (n := 0) (pc := 5) c317_90 h1 (ko0 (by omega)) rfl rfl (Nat.le_of_ble_eq_true rfl) (by decide +kernel) (by decide +kernel) d317_5 (Or.inr fun v9 τ h9 => ?_) (fun v9 τ h9 => ?_) (fun E9 τ h9 _ => ?_)
  · rcases h9 with ⟨_, K, e, _⟩ | ⟨_, K, e, _⟩
    · cases e; rfl
    · cases e
  · rcases h9 with ⟨h0, K, e, hK, hk⟩ | ⟨_, K, e, _⟩
    · cases e
      show Ex l 317 0 0 8 _ (.int (iI r.2.1) :: .int (iI 0) :: [.ref 192]) _ _
      refine x_i2lA (pc := 8) d317_8 ?_
      refine m_last (pc := 9) hq d317_9 ?_
      refine x_goto (pc := 10) (tgt := 21) d317_10 (by decide) ?_
      refine x_iconst (pc := 21) d317_21 ?_
      refine x_iret (pc := 22) rfl (fun z => Bool.noConfusion z) d317_22 ?_
      exact ⟨K, _, by rw [h0], hK, hk, fun _ => rfl⟩
    · cases e
  · rcases h9 with ⟨_, K, e, _⟩ | ⟨h0, K, e, hK, hk⟩
    · cases e
    · cases e
      by_cases h2 : r.1 = 1
      · rw [h2]
        refine Or.inr ⟨15, 4, ⟨[], [(0, 10, 17, 19)], (0, 10, 13, 41), by decide +kernel, fun z hz => absurd hz List.not_mem_nil, by decide, by decide, by decide +kernel, Or.inr ⟨d317_13, rfl⟩⟩, by decide +kernel, rfl, ?_⟩
        dsimp only [List.set]
        refine x_iconst (pc := 15) d317_15 ?_
        refine x_iret (pc := 16) rfl (fun z => Bool.noConfusion z) d317_16 ?_
        exact ⟨K, v, by rw [h2], hK, hk, fun z => absurd z h0⟩
      · have h2 : r.1 = 2 := by omega
        rw [h2]
        refine Or.inr ⟨19, 4, ⟨[(0, 10, 13, 41)], [], (0, 10, 17, 19), by decide +kernel, fun z hz => by rw [List.mem_singleton.mp hz]; exact ⟨2, by decide +kernel, by decide⟩, by decide, by decide, by decide +kernel, Or.inr ⟨d317_17, rfl⟩⟩, by decide +kernel, rfl, ?_⟩
        dsimp only [List.set]
        refine x_iconst (pc := 19) d317_19 ?_
        refine x_iret (pc := 20) rfl (fun z => Bool.noConfusion z) d317_20 ?_
        exact ⟨K, v, by rw [h2], hK, hk, fun z => absurd z h0⟩
theorem wr318 (hl : l.1.stackTraces = false) (hq : 193 ≤ q) (h : CREL I S) (hS : GOK S) {f : Int} (hf : InR f) {pat : Int} (hpat : InR pat) {b : Int} (hb : InR b) : CT l 318 [.ref 0, .int (iI f), .int (iI pat), .int (iI b), .ref 192] (mm q I v false) 1 6 (WQ q I (oAsk2 S (isF S f) (decide ((1 ≤ pat ∧ pat ≤ 65535) ∧ 0 ≤ b ∧ b + bdig pat 16 ≤ gA S 6 f * 8)) (b01 (wpA (gA S) f pat b)))) := by
  have hcd : (oAsk2 S (isF S f) (decide ((1 ≤ pat ∧ pat ≤ 65535) ∧ 0 ≤ b ∧ b + bdig pat 16 ≤ gA S 6 f * 8)) (b01 (wpA (gA S) f pat b))).1 = 0 ∨ (oAsk2 S (isF S f) (decide ((1 ≤ pat ∧ pat ≤ 65535) ∧ 0 ≤ b ∧ b + bdig pat 16 ≤ gA S 6 f * 8)) (b01 (wpA (gA S) f pat b))).1 = 1 ∨ (oAsk2 S (isF S f) (decide ((1 ≤ pat ∧ pat ≤ 65535) ∧ 0 ≤ b ∧ b + bdig pat 16 ≤ gA S 6 f * 8)) (b01 (wpA (gA S) f pat b))).1 = 2 := by
    unfold oAsk2
    repeat (first | exact Or.inl rfl | exact Or.inr (Or.inl rfl) | exact Or.inr (Or.inr rfl) | split)
  have hz : (oAsk2 S (isF S f) (decide ((1 ≤ pat ∧ pat ≤ 65535) ∧ 0 ≤ b ∧ b + bdig pat 16 ≤ gA S 6 f * 8)) (b01 (wpA (gA S) f pat b))).1 = 0 → (oAsk2 S (isF S f) (decide ((1 ≤ pat ∧ pat ≤ 65535) ∧ 0 ≤ b ∧ b + bdig pat 16 ≤ gA S 6 f * 8)) (b01 (wpA (gA S) f pat b))).2.1 = 0 ∨ (oAsk2 S (isF S f) (decide ((1 ≤ pat ∧ pat ≤ 65535) ∧ 0 ≤ b ∧ b + bdig pat 16 ≤ gA S 6 f * 8)) (b01 (wpA (gA S) f pat b))).2.1 = 1 := by
    unfold oAsk2
    repeat (first | exact fun _ => b01_or _ | exact fun z => absurd (show (1 : Int) = 0 from z) (by decide) | exact fun z => absurd (show (2 : Int) = 0 from z) (by decide) | split)
  have h1 := cm110 hl (by omega) h hS hf hpat hb (q := q) (v := v)
  generalize (oAsk2 S (isF S f) (decide ((1 ≤ pat ∧ pat ≤ 65535) ∧ 0 ≤ b ∧ b + bdig pat 16 ≤ gA S 6 f * 8)) (b01 (wpA (gA S) f pat b))) = r at h1 hcd hz ⊢
  refine mkct2 hl (by decide) (Nat.le_of_ble_eq_true rfl) (L := [some (.ref 0), some (.int (iI f)), some (.int (iI pat)), some (.int (iI b)), some (.ref 192), none]) rfl ?_
  refine x_aload (pc := 0) rfl d318_0 ?_
  refine x_iconst (pc := 2) d318_2 ?_
  refine x_aload_n (pc := 3) rfl d318_3 ?_
  refine x_iload_n (pc := 4) rfl d318_4 ?_
  refine x_iload_n (pc := 5) rfl d318_5 ?_
  refine x_iload_n (pc := 6) rfl d318_6 ?_
  refine x_callV (k := 0) (n := 0) (pc := 7) c318_93 h1 (ko0 (by omega)) rfl rfl (Nat.le_of_ble_eq_true rfl) (by decide +kernel) (by decide +kernel) d318_7 (Or.inr fun v9 τ h9 => ?_) (fun v9 τ h9 => ?_) (fun E9 τ h9 _ => ?_)
  · rcases h9 with ⟨_, K, e, _⟩ | ⟨_, K, e, _⟩
    · cases e; rfl
    · cases e
  · rcases h9 with ⟨h0, K, e, hK, hk⟩ | ⟨_, K, e, _⟩
    · cases e
      have hzz := hz h0
      show Ex l 318 0 0 10 _ (.int (iI r.2.1) :: .int (iI 0) :: [.ref 192]) _ _
      refine x_if_eq (pc := 10) (tgt := 17) ⟨by omega, by omega⟩ d318_10 (by decide) (fun g => ?_) (fun g => ?_)
      · refine x_lconst (pc := 17) (z := 0) (by decide) d318_17 ?_
        refine m_last (pc := 18) hq d318_18 ?_
        refine x_goto (pc := 19) (tgt := 30) d318_19 (by decide) ?_
        refine x_iconst (pc := 30) d318_30 ?_
        refine x_iret (pc := 31) rfl (fun z => Bool.noConfusion z) d318_31 ?_
        exact ⟨K, _, by rw [h0], hK, hk, fun _ => by rw [show r.2.1 = 0 from by omega]; rfl⟩
      · refine x_lconst (pc := 13) (z := 1) (by decide) d318_13 ?_
        refine x_goto (pc := 14) (tgt := 18) d318_14 (by decide) ?_
        refine m_last (pc := 18) hq d318_18 ?_
        refine x_goto (pc := 19) (tgt := 30) d318_19 (by decide) ?_
        refine x_iconst (pc := 30) d318_30 ?_
        refine x_iret (pc := 31) rfl (fun z => Bool.noConfusion z) d318_31 ?_
        exact ⟨K, _, by rw [h0], hK, hk, fun _ => by rw [show r.2.1 = 1 from by omega]; rfl⟩
    · cases e
  · rcases h9 with ⟨_, K, e, _⟩ | ⟨h0, K, e, hK, hk⟩
    · cases e
    · cases e
      by_cases h2 : r.1 = 1
      · rw [h2]
        refine Or.inr ⟨24, 5, ⟨[], [(0, 19, 26, 19)], (0, 19, 22, 41), by decide +kernel, fun z hz => absurd hz List.not_mem_nil, by decide, by decide, by decide +kernel, Or.inr ⟨d318_22, rfl⟩⟩, by decide +kernel, rfl, ?_⟩
        dsimp only [List.set]
        refine x_iconst (pc := 24) d318_24 ?_
        refine x_iret (pc := 25) rfl (fun z => Bool.noConfusion z) d318_25 ?_
        exact ⟨K, v, by rw [h2], hK, hk, fun z => absurd z h0⟩
      · have h2 : r.1 = 2 := by omega
        rw [h2]
        refine Or.inr ⟨28, 5, ⟨[(0, 19, 22, 41)], [], (0, 19, 26, 19), by decide +kernel, fun z hz => by rw [List.mem_singleton.mp hz]; exact ⟨2, by decide +kernel, by decide⟩, by decide, by decide, by decide +kernel, Or.inr ⟨d318_26, rfl⟩⟩, by decide +kernel, rfl, ?_⟩
        dsimp only [List.set]
        refine x_iconst (pc := 28) d318_28 ?_
        refine x_iret (pc := 29) rfl (fun z => Bool.noConfusion z) d318_29 ?_
        exact ⟨K, v, by rw [h2], hK, hk, fun z => absurd z h0⟩
theorem wr319 (hl : l.1.stackTraces = false) (hq : 193 ≤ q) (h : CREL I S) (hS : GOK S) {f : Int} (hf : InR f) : CT l 319 [.ref 0, .int (iI f), .ref 192] (mm q I v false) 1 6 (WQ q I (oAsk S (isF S f) (sucN (fun n => resA (gA S) f (gA S 0 7 + n) (gA S 0 0)) 601 0))) := by
  have hcd : (oAsk S (isF S f) (sucN (fun n => resA (gA S) f (gA S 0 7 + n) (gA S 0 0)) 601 0)).1 = 0 ∨ (oAsk S (isF S f) (sucN (fun n => resA (gA S) f (gA S 0 7 + n) (gA S 0 0)) 601 0)).1 = 1 := by
    unfold oAsk
    repeat (first | exact Or.inl rfl | exact Or.inr rfl | split)
  have h1 := cm111 hl (by omega) h hS hf (q := q) (v := v)
  generalize (oAsk S (isF S f) (sucN (fun n => resA (gA S) f (gA S 0 7 + n) (gA S 0 0)) 601 0)) = r at h1 hcd ⊢
  refine mkct2 hl (by decide) (Nat.le_of_ble_eq_true rfl) (L := [some (.ref 0), some (.int (iI f)), some (.ref 192), none]) rfl ?_
  refine x_aload_n (pc := 0) rfl d319_0 ?_
  refine x_iconst (pc := 1) d319_1 ?_
  refine x_aload_n (pc := 2) rfl d319_2 ?_
  refine x_iload_n (pc := 3) rfl d319_3 ?_
  refine x_callV (k := 0) (n := 0) (pc := 4) c319_97 h1 (ko0 (by omega)) rfl rfl (Nat.le_of_ble_eq_true rfl) (by decide +kernel) (by decide +kernel) d319_4 (Or.inr fun v9 τ h9 => ?_) (fun v9 τ h9 => ?_) (fun E9 τ h9 _ => ?_)
  · rcases h9 with ⟨_, K, e, _⟩ | ⟨_, K, e, _⟩
    · cases e; rfl
    · cases e
  · rcases h9 with ⟨h0, K, e, hK, hk⟩ | ⟨_, K, e, _⟩
    · cases e
      show Ex l 319 0 0 7 _ (.int (iI r.2.1) :: .int (iI 0) :: [.ref 192]) _ _
      refine x_i2lA (pc := 7) d319_7 ?_
      refine m_last (pc := 8) hq d319_8 ?_
      refine x_goto (pc := 9) (tgt := 15) d319_9 (by decide) ?_
      refine x_iconst (pc := 15) d319_15 ?_
      refine x_iret (pc := 16) rfl (fun z => Bool.noConfusion z) d319_16 ?_
      exact ⟨K, _, by rw [h0], hK, hk, fun _ => rfl⟩
    · cases e
  · rcases h9 with ⟨_, K, e, _⟩ | ⟨h0, K, e, hK, hk⟩
    · cases e
    · cases e
      have h2 : r.1 = 1 := by omega
      rw [h2]
      refine Or.inr ⟨13, 3, ⟨[], [], (0, 9, 12, 41), by decide +kernel, fun z hz => absurd hz List.not_mem_nil, by decide, by decide, by decide +kernel, Or.inl ⟨⟨3, by decide⟩, rfl, d319_12, rfl⟩⟩, by decide +kernel, rfl, ?_⟩
      dsimp only [List.set]
      refine x_iconst (pc := 13) d319_13 ?_
      refine x_iret (pc := 14) rfl (fun z => Bool.noConfusion z) d319_14 ?_
      exact ⟨K, v, by rw [h2], hK, hk, fun z => absurd z h0⟩
theorem wr320 (hl : l.1.stackTraces = false) (hq : 193 ≤ q) (h : CREL I S) (hS : GOK S) {f : Int} (hf : InR f) : CT l 320 [.ref 0, .int (iI f), .ref 192] (mm q I v false) 1 6 (WQ q I (oAsk S (isF S f) (sucN (fun b => resA (gA S) f (gA S 0 7) b) 9 1))) := by
  have hcd : (oAsk S (isF S f) (sucN (fun b => resA (gA S) f (gA S 0 7) b) 9 1)).1 = 0 ∨ (oAsk S (isF S f) (sucN (fun b => resA (gA S) f (gA S 0 7) b) 9 1)).1 = 1 := by
    unfold oAsk
    repeat (first | exact Or.inl rfl | exact Or.inr rfl | split)
  have h1 := cm112 hl (by omega) h hS hf (q := q) (v := v)
  generalize (oAsk S (isF S f) (sucN (fun b => resA (gA S) f (gA S 0 7) b) 9 1)) = r at h1 hcd ⊢
  refine mkct2 hl (by decide) (Nat.le_of_ble_eq_true rfl) (L := [some (.ref 0), some (.int (iI f)), some (.ref 192), none]) rfl ?_
  refine x_aload_n (pc := 0) rfl d320_0 ?_
  refine x_iconst (pc := 1) d320_1 ?_
  refine x_aload_n (pc := 2) rfl d320_2 ?_
  refine x_iload_n (pc := 3) rfl d320_3 ?_
  refine x_callV (k := 0) (n := 0) (pc := 4) c320_100 h1 (ko0 (by omega)) rfl rfl (Nat.le_of_ble_eq_true rfl) (by decide +kernel) (by decide +kernel) d320_4 (Or.inr fun v9 τ h9 => ?_) (fun v9 τ h9 => ?_) (fun E9 τ h9 _ => ?_)
  · rcases h9 with ⟨_, K, e, _⟩ | ⟨_, K, e, _⟩
    · cases e; rfl
    · cases e
  · rcases h9 with ⟨h0, K, e, hK, hk⟩ | ⟨_, K, e, _⟩
    · cases e
      show Ex l 320 0 0 7 _ (.int (iI r.2.1) :: .int (iI 0) :: [.ref 192]) _ _
      refine x_i2lA (pc := 7) d320_7 ?_
      refine m_last (pc := 8) hq d320_8 ?_
      refine x_goto (pc := 9) (tgt := 15) d320_9 (by decide) ?_
      refine x_iconst (pc := 15) d320_15 ?_
      refine x_iret (pc := 16) rfl (fun z => Bool.noConfusion z) d320_16 ?_
      exact ⟨K, _, by rw [h0], hK, hk, fun _ => rfl⟩
    · cases e
  · rcases h9 with ⟨_, K, e, _⟩ | ⟨h0, K, e, hK, hk⟩
    · cases e
    · cases e
      have h2 : r.1 = 1 := by omega
      rw [h2]
      refine Or.inr ⟨13, 3, ⟨[], [], (0, 9, 12, 41), by decide +kernel, fun z hz => absurd hz List.not_mem_nil, by decide, by decide, by decide +kernel, Or.inl ⟨⟨3, by decide⟩, rfl, d320_12, rfl⟩⟩, by decide +kernel, rfl, ?_⟩
      dsimp only [List.set]
      refine x_iconst (pc := 13) d320_13 ?_
      refine x_iret (pc := 14) rfl (fun z => Bool.noConfusion z) d320_14 ?_
      exact ⟨K, v, by rw [h2], hK, hk, fun z => absurd z h0⟩
theorem wr321 (hl : l.1.stackTraces = false) (hq : 193 ≤ q) (h : CREL I S) (hS : GOK S) : CT l 321 [.ref 0, .ref 192] (mm q I v false) 1 6 (WQ q I (oSend S)) := by
  have hcd : (oSend S).1 = 0 ∨ (oSend S).1 = 1 ∨ (oSend S).1 = 2 := by
    unfold oSend
    repeat (first | exact Or.inl rfl | exact Or.inr (Or.inl rfl) | exact Or.inr (Or.inr rfl) | split)
  have h1 := cm127 hl (by omega) h hS  (q := q) (v := v)
  generalize (oSend S) = r at h1 hcd ⊢
  refine mkct2 hl (by decide) (Nat.le_of_ble_eq_true rfl) (L := [some (.ref 0), some (.ref 192), none]) rfl ?_
  refine x_aload_n (pc := 0) rfl d321_0 ?_
  refine x_iconst (pc := 1) d321_1 ?_
  refine x_aload_n (pc := 2) rfl d321_2 ?_
  refine x_callV (k := 0) (n := 0) (pc := 3) c321_103 h1 (ko0 (by omega)) rfl rfl (Nat.le_of_ble_eq_true rfl) (by decide +kernel) (by decide +kernel) d321_3 (Or.inr fun v9 τ h9 => ?_) (fun v9 τ h9 => ?_) (fun E9 τ h9 _ => ?_)
  · rcases h9 with ⟨_, K, e, _⟩ | ⟨_, K, e, _⟩
    · cases e; rfl
    · cases e
  · rcases h9 with ⟨h0, K, e, hK, hk⟩ | ⟨_, K, e, _⟩
    · cases e
      show Ex l 321 0 0 6 _ (.int (iI r.2.1) :: .int (iI 0) :: [.ref 192]) _ _
      refine x_i2lA (pc := 6) d321_6 ?_
      refine m_last (pc := 7) hq d321_7 ?_
      refine x_goto (pc := 8) (tgt := 17) d321_8 (by decide) ?_
      refine x_iconst (pc := 17) d321_17 ?_
      refine x_iret (pc := 18) rfl (fun z => Bool.noConfusion z) d321_18 ?_
      exact ⟨K, _, by rw [h0], hK, hk, fun _ => rfl⟩
    · cases e
  · rcases h9 with ⟨_, K, e, _⟩ | ⟨h0, K, e, hK, hk⟩
    · cases e
    · cases e
      by_cases h2 : r.1 = 1
      · rw [h2]
        refine Or.inr ⟨12, 2, ⟨[], [(0, 8, 14, 13)], (0, 8, 11, 19), by decide +kernel, fun z hz => absurd hz List.not_mem_nil, by decide, by decide, by decide +kernel, Or.inl ⟨⟨2, by decide⟩, rfl, d321_11, rfl⟩⟩, by decide +kernel, rfl, ?_⟩
        dsimp only [List.set]
        refine x_iconst (pc := 12) d321_12 ?_
        refine x_iret (pc := 13) rfl (fun z => Bool.noConfusion z) d321_13 ?_
        exact ⟨K, v, by rw [h2], hK, hk, fun z => absurd z h0⟩
      · have h2 : r.1 = 2 := by omega
        rw [h2]
        refine Or.inr ⟨15, 2, ⟨[(0, 8, 11, 19)], [], (0, 8, 14, 13), by decide +kernel, fun z hz => by rw [List.mem_singleton.mp hz]; exact ⟨0, by decide +kernel, by decide⟩, by decide, by decide, by decide +kernel, Or.inl ⟨⟨2, by decide⟩, rfl, d321_14, rfl⟩⟩, by decide +kernel, rfl, ?_⟩
        dsimp only [List.set]
        refine x_iconst (pc := 15) d321_15 ?_
        refine x_iret (pc := 16) rfl (fun z => Bool.noConfusion z) d321_16 ?_
        exact ⟨K, v, by rw [h2], hK, hk, fun z => absurd z h0⟩
theorem wr322 (hl : l.1.stackTraces = false) (hq : 193 ≤ q) (h : CREL I S) (hS : GOK S) {z : Int} (hz : InR z) : CT l 322 [.ref 0, .int (iI z), .ref 192] (mm q I v false) 1 6 (WQ q I (oTransmit S z)) := by
  have hcd : (oTransmit S z).1 = 0 ∨ (oTransmit S z).1 = 1 ∨ (oTransmit S z).1 = 2 := by
    unfold oTransmit
    repeat (first | exact Or.inl rfl | exact Or.inr (Or.inl rfl) | exact Or.inr (Or.inr rfl) | split)
  have h1 := cm128 hl (by omega) h hS hz (q := q) (v := v)
  generalize (oTransmit S z) = r at h1 hcd ⊢
  refine mkct2 hl (by decide) (Nat.le_of_ble_eq_true rfl) (L := [some (.ref 0), some (.int (iI z)), some (.ref 192), none]) rfl ?_
  refine x_aload_n (pc := 0) rfl d322_0 ?_
  refine x_iconst (pc := 1) d322_1 ?_
  refine x_aload_n (pc := 2) rfl d322_2 ?_
  refine x_iload_n (pc := 3) rfl d322_3 ?_
  refine x_callV (k := 0) (n := 0) (pc := 4) c322_106 h1 (ko0 (by omega)) rfl rfl (Nat.le_of_ble_eq_true rfl) (by decide +kernel) (by decide +kernel) d322_4 (Or.inr fun v9 τ h9 => ?_) (fun v9 τ h9 => ?_) (fun E9 τ h9 _ => ?_)
  · rcases h9 with ⟨_, K, e, _⟩ | ⟨_, K, e, _⟩
    · cases e; rfl
    · cases e
  · rcases h9 with ⟨h0, K, e, hK, hk⟩ | ⟨_, K, e, _⟩
    · cases e
      show Ex l 322 0 0 7 _ (.int (iI r.2.1) :: .int (iI 0) :: [.ref 192]) _ _
      refine x_i2lA (pc := 7) d322_7 ?_
      refine m_last (pc := 8) hq d322_8 ?_
      refine x_goto (pc := 9) (tgt := 18) d322_9 (by decide) ?_
      refine x_iconst (pc := 18) d322_18 ?_
      refine x_iret (pc := 19) rfl (fun z => Bool.noConfusion z) d322_19 ?_
      exact ⟨K, _, by rw [h0], hK, hk, fun _ => rfl⟩
    · cases e
  · rcases h9 with ⟨_, K, e, _⟩ | ⟨h0, K, e, hK, hk⟩
    · cases e
    · cases e
      by_cases h2 : r.1 = 1
      · rw [h2]
        refine Or.inr ⟨13, 3, ⟨[], [(0, 9, 15, 13)], (0, 9, 12, 19), by decide +kernel, fun z hz => absurd hz List.not_mem_nil, by decide, by decide, by decide +kernel, Or.inl ⟨⟨3, by decide⟩, rfl, d322_12, rfl⟩⟩, by decide +kernel, rfl, ?_⟩
        dsimp only [List.set]
        refine x_iconst (pc := 13) d322_13 ?_
        refine x_iret (pc := 14) rfl (fun z => Bool.noConfusion z) d322_14 ?_
        exact ⟨K, v, by rw [h2], hK, hk, fun z => absurd z h0⟩
      · have h2 : r.1 = 2 := by omega
        rw [h2]
        refine Or.inr ⟨16, 3, ⟨[(0, 9, 12, 19)], [], (0, 9, 15, 13), by decide +kernel, fun z hz => by rw [List.mem_singleton.mp hz]; exact ⟨0, by decide +kernel, by decide⟩, by decide, by decide, by decide +kernel, Or.inl ⟨⟨3, by decide⟩, rfl, d322_15, rfl⟩⟩, by decide +kernel, rfl, ?_⟩
        dsimp only [List.set]
        refine x_iconst (pc := 16) d322_16 ?_
        refine x_iret (pc := 17) rfl (fun z => Bool.noConfusion z) d322_17 ?_
        exact ⟨K, v, by rw [h2], hK, hk, fun z => absurd z h0⟩
theorem wr323 (hl : l.1.stackTraces = false) (hq : 193 ≤ q) (h : CREL I S) (hS : GOK S) {m : Int} (hm : InR m) : CT l 323 [.ref 0, .int (iI m), .ref 192] (mm q I v false) 1 6 (WQ q I (oCancel S m)) := by
  have hcd : (oCancel S m).1 = 0 ∨ (oCancel S m).1 = 1 ∨ (oCancel S m).1 = 2 := by
    unfold oCancel
    repeat (first | exact Or.inl rfl | exact Or.inr (Or.inl rfl) | exact Or.inr (Or.inr rfl) | split)
  have h1 := cm129 hl (by omega) h hS hm (q := q) (v := v)
  generalize (oCancel S m) = r at h1 hcd ⊢
  refine mkct2 hl (by decide) (Nat.le_of_ble_eq_true rfl) (L := [some (.ref 0), some (.int (iI m)), some (.ref 192), none]) rfl ?_
  refine x_aload_n (pc := 0) rfl d323_0 ?_
  refine x_iconst (pc := 1) d323_1 ?_
  refine x_aload_n (pc := 2) rfl d323_2 ?_
  refine x_iload_n (pc := 3) rfl d323_3 ?_
  refine x_callV (k := 0) (n := 0) (pc := 4) c323_109 h1 (ko0 (by omega)) rfl rfl (Nat.le_of_ble_eq_true rfl) (by decide +kernel) (by decide +kernel) d323_4 (Or.inr fun v9 τ h9 => ?_) (fun v9 τ h9 => ?_) (fun E9 τ h9 _ => ?_)
  · rcases h9 with ⟨_, K, e, _⟩ | ⟨_, K, e, _⟩
    · cases e; rfl
    · cases e
  · rcases h9 with ⟨h0, K, e, hK, hk⟩ | ⟨_, K, e, _⟩
    · cases e
      show Ex l 323 0 0 7 _ (.int (iI r.2.1) :: .int (iI 0) :: [.ref 192]) _ _
      refine x_i2lA (pc := 7) d323_7 ?_
      refine m_last (pc := 8) hq d323_8 ?_
      refine x_goto (pc := 9) (tgt := 18) d323_9 (by decide) ?_
      refine x_iconst (pc := 18) d323_18 ?_
      refine x_iret (pc := 19) rfl (fun z => Bool.noConfusion z) d323_19 ?_
      exact ⟨K, _, by rw [h0], hK, hk, fun _ => rfl⟩
    · cases e
  · rcases h9 with ⟨_, K, e, _⟩ | ⟨h0, K, e, hK, hk⟩
    · cases e
    · cases e
      by_cases h2 : r.1 = 1
      · rw [h2]
        refine Or.inr ⟨13, 3, ⟨[], [(0, 9, 15, 13)], (0, 9, 12, 41), by decide +kernel, fun z hz => absurd hz List.not_mem_nil, by decide, by decide, by decide +kernel, Or.inl ⟨⟨3, by decide⟩, rfl, d323_12, rfl⟩⟩, by decide +kernel, rfl, ?_⟩
        dsimp only [List.set]
        refine x_iconst (pc := 13) d323_13 ?_
        refine x_iret (pc := 14) rfl (fun z => Bool.noConfusion z) d323_14 ?_
        exact ⟨K, v, by rw [h2], hK, hk, fun z => absurd z h0⟩
      · have h2 : r.1 = 2 := by omega
        rw [h2]
        refine Or.inr ⟨16, 3, ⟨[(0, 9, 12, 41)], [], (0, 9, 15, 13), by decide +kernel, fun z hz => by rw [List.mem_singleton.mp hz]; exact ⟨2, by decide +kernel, by decide⟩, by decide, by decide, by decide +kernel, Or.inl ⟨⟨3, by decide⟩, rfl, d323_15, rfl⟩⟩, by decide +kernel, rfl, ?_⟩
        dsimp only [List.set]
        refine x_iconst (pc := 16) d323_16 ?_
        refine x_iret (pc := 17) rfl (fun z => Bool.noConfusion z) d323_17 ?_
        exact ⟨K, v, by rw [h2], hK, hk, fun z => absurd z h0⟩
theorem wr324 (hl : l.1.stackTraces = false) (hq : 193 ≤ q) (h : CREL I S) (hS : GOK S) {m : Int} (hm : InR m) : CT l 324 [.ref 0, .int (iI m), .ref 192] (mm q I v false) 1 6 (WQ q I (oResend S m)) := by
  have hcd : (oResend S m).1 = 0 ∨ (oResend S m).1 = 1 ∨ (oResend S m).1 = 2 := by
    unfold oResend
    repeat (first | exact Or.inl rfl | exact Or.inr (Or.inl rfl) | exact Or.inr (Or.inr rfl) | split)
  have h1 := cm130 hl (by omega) h hS hm (q := q) (v := v)
  generalize (oResend S m) = r at h1 hcd ⊢
  refine mkct2 hl (by decide) (Nat.le_of_ble_eq_true rfl) (L := [some (.ref 0), some (.int (iI m)), some (.ref 192), none]) rfl ?_
  refine x_aload_n (pc := 0) rfl d324_0 ?_
  refine x_iconst (pc := 1) d324_1 ?_
  refine x_aload_n (pc := 2) rfl d324_2 ?_
  refine x_iload_n (pc := 3) rfl d324_3 ?_
  refine x_callV (k := 0) (n := 0) (pc := 4) c324_112 h1 (ko0 (by omega)) rfl rfl (Nat.le_of_ble_eq_true rfl) (by decide +kernel) (by decide +kernel) d324_4 (Or.inr fun v9 τ h9 => ?_) (fun v9 τ h9 => ?_) (fun E9 τ h9 _ => ?_)
  · rcases h9 with ⟨_, K, e, _⟩ | ⟨_, K, e, _⟩
    · cases e; rfl
    · cases e
  · rcases h9 with ⟨h0, K, e, hK, hk⟩ | ⟨_, K, e, _⟩
    · cases e
      show Ex l 324 0 0 7 _ (.int (iI r.2.1) :: .int (iI 0) :: [.ref 192]) _ _
      refine x_i2lA (pc := 7) d324_7 ?_
      refine m_last (pc := 8) hq d324_8 ?_
      refine x_goto (pc := 9) (tgt := 18) d324_9 (by decide) ?_
      refine x_iconst (pc := 18) d324_18 ?_
      refine x_iret (pc := 19) rfl (fun z => Bool.noConfusion z) d324_19 ?_
      exact ⟨K, _, by rw [h0], hK, hk, fun _ => rfl⟩
    · cases e
  · rcases h9 with ⟨_, K, e, _⟩ | ⟨h0, K, e, hK, hk⟩
    · cases e
    · cases e
      by_cases h2 : r.1 = 1
      · rw [h2]
        refine Or.inr ⟨13, 3, ⟨[], [(0, 9, 15, 13)], (0, 9, 12, 41), by decide +kernel, fun z hz => absurd hz List.not_mem_nil, by decide, by decide, by decide +kernel, Or.inl ⟨⟨3, by decide⟩, rfl, d324_12, rfl⟩⟩, by decide +kernel, rfl, ?_⟩
        dsimp only [List.set]
        refine x_iconst (pc := 13) d324_13 ?_
        refine x_iret (pc := 14) rfl (fun z => Bool.noConfusion z) d324_14 ?_
        exact ⟨K, v, by rw [h2], hK, hk, fun z => absurd z h0⟩
      · have h2 : r.1 = 2 := by omega
        rw [h2]
        refine Or.inr ⟨16, 3, ⟨[(0, 9, 12, 41)], [], (0, 9, 15, 13), by decide +kernel, fun z hz => by rw [List.mem_singleton.mp hz]; exact ⟨2, by decide +kernel, by decide⟩, by decide, by decide, by decide +kernel, Or.inl ⟨⟨3, by decide⟩, rfl, d324_15, rfl⟩⟩, by decide +kernel, rfl, ?_⟩
        dsimp only [List.set]
        refine x_iconst (pc := 16) d324_16 ?_
        refine x_iret (pc := 17) rfl (fun z => Bool.noConfusion z) d324_17 ?_
        exact ⟨K, v, by rw [h2], hK, hk, fun z => absurd z h0⟩
theorem wr325 (hl : l.1.stackTraces = false) (hq : 193 ≤ q) (h : CREL I S) (hS : GOK S) {z : Int} (hz : InR z) : CT l 325 [.ref 0, .int (iI z), .ref 192] (mm q I v false) 1 6 (WQ q I (oWait S z)) := by
  have hcd : (oWait S z).1 = 0 ∨ (oWait S z).1 = 1 ∨ (oWait S z).1 = 2 := by
    unfold oWait
    repeat (first | exact Or.inl rfl | exact Or.inr (Or.inl rfl) | exact Or.inr (Or.inr rfl) | split)
  have h1 := cm131 hl (by omega) h hS hz (q := q) (v := v)
  generalize (oWait S z) = r at h1 hcd ⊢
  refine mkct2 hl (by decide) (Nat.le_of_ble_eq_true rfl) (L := [some (.ref 0), some (.int (iI z)), some (.ref 192), none]) rfl ?_
  refine x_aload_n (pc := 0) rfl d325_0 ?_
  refine x_iconst (pc := 1) d325_1 ?_
  refine x_aload_n (pc := 2) rfl d325_2 ?_
  refine x_iload_n (pc := 3) rfl d325_3 ?_
  refine x_callV (k := 0) (n := 0) (pc := 4) c325_115 h1 (ko0 (by omega)) rfl rfl (Nat.le_of_ble_eq_true rfl) (by decide +kernel) (by decide +kernel) d325_4 (Or.inr fun v9 τ h9 => ?_) (fun v9 τ h9 => ?_) (fun E9 τ h9 _ => ?_)
  · rcases h9 with ⟨_, K, e, _⟩ | ⟨_, K, e, _⟩
    · cases e; rfl
    · cases e
  · rcases h9 with ⟨h0, K, e, hK, hk⟩ | ⟨_, K, e, _⟩
    · cases e
      show Ex l 325 0 0 7 _ (.int (iI r.2.1) :: .int (iI 0) :: [.ref 192]) _ _
      refine x_i2lA (pc := 7) d325_7 ?_
      refine m_last (pc := 8) hq d325_8 ?_
      refine x_goto (pc := 9) (tgt := 18) d325_9 (by decide) ?_
      refine x_iconst (pc := 18) d325_18 ?_
      refine x_iret (pc := 19) rfl (fun z => Bool.noConfusion z) d325_19 ?_
      exact ⟨K, _, by rw [h0], hK, hk, fun _ => rfl⟩
    · cases e
  · rcases h9 with ⟨_, K, e, _⟩ | ⟨h0, K, e, hK, hk⟩
    · cases e
    · cases e
      by_cases h2 : r.1 = 1
      · rw [h2]
        refine Or.inr ⟨13, 3, ⟨[], [(0, 9, 15, 13)], (0, 9, 12, 19), by decide +kernel, fun z hz => absurd hz List.not_mem_nil, by decide, by decide, by decide +kernel, Or.inl ⟨⟨3, by decide⟩, rfl, d325_12, rfl⟩⟩, by decide +kernel, rfl, ?_⟩
        dsimp only [List.set]
        refine x_iconst (pc := 13) d325_13 ?_
        refine x_iret (pc := 14) rfl (fun z => Bool.noConfusion z) d325_14 ?_
        exact ⟨K, v, by rw [h2], hK, hk, fun z => absurd z h0⟩
      · have h2 : r.1 = 2 := by omega
        rw [h2]
        refine Or.inr ⟨16, 3, ⟨[(0, 9, 12, 19)], [], (0, 9, 15, 13), by decide +kernel, fun z hz => by rw [List.mem_singleton.mp hz]; exact ⟨0, by decide +kernel, by decide⟩, by decide, by decide, by decide +kernel, Or.inl ⟨⟨3, by decide⟩, rfl, d325_15, rfl⟩⟩, by decide +kernel, rfl, ?_⟩
        dsimp only [List.set]
        refine x_iconst (pc := 16) d325_16 ?_
        refine x_iret (pc := 17) rfl (fun z => Bool.noConfusion z) d325_17 ?_
        exact ⟨K, v, by rw [h2], hK, hk, fun z => absurd z h0⟩
theorem wr326 (hl : l.1.stackTraces = false) (hq : 193 ≤ q) (h : CREL I S) (hS : GOK S) {z : Int} (hz : InR z) : CT l 326 [.ref 0, .int (iI z), .ref 192] (mm q I v false) 1 6 (WQ q I (oDrift S z)) := by
  have hcd : (oDrift S z).1 = 0 ∨ (oDrift S z).1 = 1 := by
    unfold oDrift
    repeat (first | exact Or.inl rfl | exact Or.inr rfl | split)
  have h1 := cm132 hl (by omega) h hS hz (q := q) (v := v)
  generalize (oDrift S z) = r at h1 hcd ⊢
  refine mkct2 hl (by decide) (Nat.le_of_ble_eq_true rfl) (L := [some (.ref 0), some (.int (iI z)), some (.ref 192), none]) rfl ?_
  refine x_aload_n (pc := 0) rfl d326_0 ?_
  refine x_iconst (pc := 1) d326_1 ?_
  refine x_aload_n (pc := 2) rfl d326_2 ?_
  refine x_iload_n (pc := 3) rfl d326_3 ?_
  refine x_callV (k := 0) (n := 0) (pc := 4) c326_118 h1 (ko0 (by omega)) rfl rfl (Nat.le_of_ble_eq_true rfl) (by decide +kernel) (by decide +kernel) d326_4 (Or.inr fun v9 τ h9 => ?_) (fun v9 τ h9 => ?_) (fun E9 τ h9 _ => ?_)
  · rcases h9 with ⟨_, K, e, _⟩ | ⟨_, K, e, _⟩
    · cases e; rfl
    · cases e
  · rcases h9 with ⟨h0, K, e, hK, hk⟩ | ⟨_, K, e, _⟩
    · cases e
      show Ex l 326 0 0 7 _ (.int (iI r.2.1) :: .int (iI 0) :: [.ref 192]) _ _
      refine x_i2lA (pc := 7) d326_7 ?_
      refine m_last (pc := 8) hq d326_8 ?_
      refine x_goto (pc := 9) (tgt := 15) d326_9 (by decide) ?_
      refine x_iconst (pc := 15) d326_15 ?_
      refine x_iret (pc := 16) rfl (fun z => Bool.noConfusion z) d326_16 ?_
      exact ⟨K, _, by rw [h0], hK, hk, fun _ => rfl⟩
    · cases e
  · rcases h9 with ⟨_, K, e, _⟩ | ⟨h0, K, e, hK, hk⟩
    · cases e
    · cases e
      have h2 : r.1 = 1 := by omega
      rw [h2]
      refine Or.inr ⟨13, 3, ⟨[], [], (0, 9, 12, 19), by decide +kernel, fun z hz => absurd hz List.not_mem_nil, by decide, by decide, by decide +kernel, Or.inl ⟨⟨3, by decide⟩, rfl, d326_12, rfl⟩⟩, by decide +kernel, rfl, ?_⟩
      dsimp only [List.set]
      refine x_iconst (pc := 13) d326_13 ?_
      refine x_iret (pc := 14) rfl (fun z => Bool.noConfusion z) d326_14 ?_
      exact ⟨K, v, by rw [h2], hK, hk, fun z => absurd z h0⟩
theorem wr327 (hl : l.1.stackTraces = false) (hq : 193 ≤ q) (h : CREL I S) (hS : GOK S) {a : Int} (ha : InR a) {b : Int} (hb : InR b) {c : Int} (hc : InR c) : CT l 327 [.ref 0, .int (iI a), .int (iI b), .int (iI c), .ref 192] (mm q I v false) 1 6 (WQ q I (oDog S a b c)) := by
  have hcd : (oDog S a b c).1 = 0 ∨ (oDog S a b c).1 = 1 ∨ (oDog S a b c).1 = 2 := by
    unfold oDog
    repeat (first | exact Or.inl rfl | exact Or.inr (Or.inl rfl) | exact Or.inr (Or.inr rfl) | split)
  have h1 := cm133 hl (by omega) h hS ha hb hc (q := q) (v := v)
  generalize (oDog S a b c) = r at h1 hcd ⊢
  refine mkct2 hl (by decide) (Nat.le_of_ble_eq_true rfl) (L := [some (.ref 0), some (.int (iI a)), some (.int (iI b)), some (.int (iI c)), some (.ref 192), none]) rfl ?_
  refine x_aload (pc := 0) rfl d327_0 ?_
  refine x_iconst (pc := 2) d327_2 ?_
  refine x_aload_n (pc := 3) rfl d327_3 ?_
  refine x_iload_n (pc := 4) rfl d327_4 ?_
  refine x_iload_n (pc := 5) rfl d327_5 ?_
  refine x_iload_n (pc := 6) rfl d327_6 ?_
  refine x_callV (k := 0) (n := 0) (pc := 7) c327_121 h1 (ko0 (by omega)) rfl rfl (Nat.le_of_ble_eq_true rfl) (by decide +kernel) (by decide +kernel) d327_7 (Or.inr fun v9 τ h9 => ?_) (fun v9 τ h9 => ?_) (fun E9 τ h9 _ => ?_)
  · rcases h9 with ⟨_, K, e, _⟩ | ⟨_, K, e, _⟩
    · cases e; rfl
    · cases e
  · rcases h9 with ⟨h0, K, e, hK, hk⟩ | ⟨_, K, e, _⟩
    · cases e
      show Ex l 327 0 0 10 _ (.int (iI r.2.1) :: .int (iI 0) :: [.ref 192]) _ _
      refine x_i2lA (pc := 10) d327_10 ?_
      refine m_last (pc := 11) hq d327_11 ?_
      refine x_goto (pc := 12) (tgt := 23) d327_12 (by decide) ?_
      refine x_iconst (pc := 23) d327_23 ?_
      refine x_iret (pc := 24) rfl (fun z => Bool.noConfusion z) d327_24 ?_
      exact ⟨K, _, by rw [h0], hK, hk, fun _ => rfl⟩
    · cases e
  · rcases h9 with ⟨_, K, e, _⟩ | ⟨h0, K, e, hK, hk⟩
    · cases e
    · cases e
      by_cases h2 : r.1 = 1
      · rw [h2]
        refine Or.inr ⟨17, 5, ⟨[], [(0, 12, 19, 13)], (0, 12, 15, 19), by decide +kernel, fun z hz => absurd hz List.not_mem_nil, by decide, by decide, by decide +kernel, Or.inr ⟨d327_15, rfl⟩⟩, by decide +kernel, rfl, ?_⟩
        dsimp only [List.set]
        refine x_iconst (pc := 17) d327_17 ?_
        refine x_iret (pc := 18) rfl (fun z => Bool.noConfusion z) d327_18 ?_
        exact ⟨K, v, by rw [h2], hK, hk, fun z => absurd z h0⟩
      · have h2 : r.1 = 2 := by omega
        rw [h2]
        refine Or.inr ⟨21, 5, ⟨[(0, 12, 15, 19)], [], (0, 12, 19, 13), by decide +kernel, fun z hz => by rw [List.mem_singleton.mp hz]; exact ⟨0, by decide +kernel, by decide⟩, by decide, by decide, by decide +kernel, Or.inr ⟨d327_19, rfl⟩⟩, by decide +kernel, rfl, ?_⟩
        dsimp only [List.set]
        refine x_iconst (pc := 21) d327_21 ?_
        refine x_iret (pc := 22) rfl (fun z => Bool.noConfusion z) d327_22 ?_
        exact ⟨K, v, by rw [h2], hK, hk, fun z => absurd z h0⟩
theorem wr328 (hl : l.1.stackTraces = false) (hq : 193 ≤ q) (h : CREL I S) (hS : GOK S) {d : Int} (hd : InR d) : CT l 328 [.ref 0, .int (iI d), .ref 192] (mm q I v false) 1 6 (WQ q I (oRemove S d)) := by
  have hcd : (oRemove S d).1 = 0 ∨ (oRemove S d).1 = 1 := by
    unfold oRemove
    repeat (first | exact Or.inl rfl | exact Or.inr rfl | split)
  have h1 := cm134 hl (by omega) h hS hd (q := q) (v := v)
  generalize (oRemove S d) = r at h1 hcd ⊢
  refine mkct2 hl (by decide) (Nat.le_of_ble_eq_true rfl) (L := [some (.ref 0), some (.int (iI d)), some (.ref 192), none]) rfl ?_
  refine x_aload_n (pc := 0) rfl d328_0 ?_
  refine x_iconst (pc := 1) d328_1 ?_
  refine x_aload_n (pc := 2) rfl d328_2 ?_
  refine x_iload_n (pc := 3) rfl d328_3 ?_
  refine x_callV (k := 0) (n := 0) (pc := 4) c328_124 h1 (ko0 (by omega)) rfl rfl (Nat.le_of_ble_eq_true rfl) (by decide +kernel) (by decide +kernel) d328_4 (Or.inr fun v9 τ h9 => ?_) (fun v9 τ h9 => ?_) (fun E9 τ h9 _ => ?_)
  · rcases h9 with ⟨_, K, e, _⟩ | ⟨_, K, e, _⟩
    · cases e; rfl
    · cases e
  · rcases h9 with ⟨h0, K, e, hK, hk⟩ | ⟨_, K, e, _⟩
    · cases e
      show Ex l 328 0 0 7 _ (.int (iI r.2.1) :: .int (iI 0) :: [.ref 192]) _ _
      refine x_i2lA (pc := 7) d328_7 ?_
      refine m_last (pc := 8) hq d328_8 ?_
      refine x_goto (pc := 9) (tgt := 15) d328_9 (by decide) ?_
      refine x_iconst (pc := 15) d328_15 ?_
      refine x_iret (pc := 16) rfl (fun z => Bool.noConfusion z) d328_16 ?_
      exact ⟨K, _, by rw [h0], hK, hk, fun _ => rfl⟩
    · cases e
  · rcases h9 with ⟨_, K, e, _⟩ | ⟨h0, K, e, hK, hk⟩
    · cases e
    · cases e
      have h2 : r.1 = 1 := by omega
      rw [h2]
      refine Or.inr ⟨13, 3, ⟨[], [], (0, 9, 12, 41), by decide +kernel, fun z hz => absurd hz List.not_mem_nil, by decide, by decide, by decide +kernel, Or.inl ⟨⟨3, by decide⟩, rfl, d328_12, rfl⟩⟩, by decide +kernel, rfl, ?_⟩
      dsimp only [List.set]
      refine x_iconst (pc := 13) d328_13 ?_
      refine x_iret (pc := 14) rfl (fun z => Bool.noConfusion z) d328_14 ?_
      exact ⟨K, v, by rw [h2], hK, hk, fun z => absurd z h0⟩
theorem wr329 (hl : l.1.stackTraces = false) (hq : 193 ≤ q) (h : CREL I S) (hS : GOK S) : CT l 329 [.ref 0, .ref 192] (mm q I v false) 1 6 (WQ q I (oUndo S)) := by
  have hcd : (oUndo S).1 = 0 ∨ (oUndo S).1 = 1 := by
    unfold oUndo
    repeat (first | exact Or.inl rfl | exact Or.inr rfl | split)
  have h1 := cm135 hl (by omega) h hS  (q := q) (v := v)
  generalize (oUndo S) = r at h1 hcd ⊢
  refine mkct2 hl (by decide) (Nat.le_of_ble_eq_true rfl) (L := [some (.ref 0), some (.ref 192), none]) rfl ?_
  refine x_aload_n (pc := 0) rfl d329_0 ?_
  refine x_iconst (pc := 1) d329_1 ?_
  refine x_aload_n (pc := 2) rfl d329_2 ?_
  refine x_callV (k := 0) (n := 0) (pc := 3) c329_127 h1 (ko0 (by omega)) rfl rfl (Nat.le_of_ble_eq_true rfl) (by decide +kernel) (by decide +kernel) d329_3 (Or.inr fun v9 τ h9 => ?_) (fun v9 τ h9 => ?_) (fun E9 τ h9 _ => ?_)
  · rcases h9 with ⟨_, K, e, _⟩ | ⟨_, K, e, _⟩
    · cases e; rfl
    · cases e
  · rcases h9 with ⟨h0, K, e, hK, hk⟩ | ⟨_, K, e, _⟩
    · cases e
      show Ex l 329 0 0 6 _ (.int (iI r.2.1) :: .int (iI 0) :: [.ref 192]) _ _
      refine x_i2lA (pc := 6) d329_6 ?_
      refine m_last (pc := 7) hq d329_7 ?_
      refine x_goto (pc := 8) (tgt := 14) d329_8 (by decide) ?_
      refine x_iconst (pc := 14) d329_14 ?_
      refine x_iret (pc := 15) rfl (fun z => Bool.noConfusion z) d329_15 ?_
      exact ⟨K, _, by rw [h0], hK, hk, fun _ => rfl⟩
    · cases e
  · rcases h9 with ⟨_, K, e, _⟩ | ⟨h0, K, e, hK, hk⟩
    · cases e
    · cases e
      have h2 : r.1 = 1 := by omega
      rw [h2]
      refine Or.inr ⟨12, 2, ⟨[], [], (0, 8, 11, 13), by decide +kernel, fun z hz => absurd hz List.not_mem_nil, by decide, by decide, by decide +kernel, Or.inl ⟨⟨2, by decide⟩, rfl, d329_11, rfl⟩⟩, by decide +kernel, rfl, ?_⟩
      dsimp only [List.set]
      refine x_iconst (pc := 12) d329_12 ?_
      refine x_iret (pc := 13) rfl (fun z => Bool.noConfusion z) d329_13 ?_
      exact ⟨K, v, by rw [h2], hK, hk, fun z => absurd z h0⟩
theorem wr330 (hl : l.1.stackTraces = false) (hq : 193 ≤ q) (h : CREL I S) (hS : GOK S) : CT l 330 [.ref 0, .ref 192] (mm q I v false) 1 6 (WQ q I (oRestore S)) := by
  have hcd : (oRestore S).1 = 0 ∨ (oRestore S).1 = 1 := by
    unfold oRestore
    repeat (first | exact Or.inl rfl | exact Or.inr rfl | split)
  have h1 := cm137 hl (by omega) h hS  (q := q) (v := v)
  generalize (oRestore S) = r at h1 hcd ⊢
  refine mkct2 hl (by decide) (Nat.le_of_ble_eq_true rfl) (L := [some (.ref 0), some (.ref 192), none]) rfl ?_
  refine x_aload_n (pc := 0) rfl d330_0 ?_
  refine x_iconst (pc := 1) d330_1 ?_
  refine x_aload_n (pc := 2) rfl d330_2 ?_
  refine x_callV (k := 0) (n := 0) (pc := 3) c330_130 h1 (ko0 (by omega)) rfl rfl (Nat.le_of_ble_eq_true rfl) (by decide +kernel) (by decide +kernel) d330_3 (Or.inr fun v9 τ h9 => ?_) (fun v9 τ h9 => ?_) (fun E9 τ h9 _ => ?_)
  · rcases h9 with ⟨_, K, e, _⟩ | ⟨_, K, e, _⟩
    · cases e; rfl
    · cases e
  · rcases h9 with ⟨h0, K, e, hK, hk⟩ | ⟨_, K, e, _⟩
    · cases e
      show Ex l 330 0 0 6 _ (.int (iI r.2.1) :: .int (iI 0) :: [.ref 192]) _ _
      refine x_i2lA (pc := 6) d330_6 ?_
      refine m_last (pc := 7) hq d330_7 ?_
      refine x_goto (pc := 8) (tgt := 14) d330_8 (by decide) ?_
      refine x_iconst (pc := 14) d330_14 ?_
      refine x_iret (pc := 15) rfl (fun z => Bool.noConfusion z) d330_15 ?_
      exact ⟨K, _, by rw [h0], hK, hk, fun _ => rfl⟩
    · cases e
  · rcases h9 with ⟨_, K, e, _⟩ | ⟨h0, K, e, hK, hk⟩
    · cases e
    · cases e
      have h2 : r.1 = 1 := by omega
      rw [h2]
      refine Or.inr ⟨12, 2, ⟨[], [], (0, 8, 11, 13), by decide +kernel, fun z hz => absurd hz List.not_mem_nil, by decide, by decide, by decide +kernel, Or.inl ⟨⟨2, by decide⟩, rfl, d330_11, rfl⟩⟩, by decide +kernel, rfl, ?_⟩
      dsimp only [List.set]
      refine x_iconst (pc := 12) d330_12 ?_
      refine x_iret (pc := 13) rfl (fun z => Bool.noConfusion z) d330_13 ?_
      exact ⟨K, v, by rw [h2], hK, hk, fun z => absurd z h0⟩
theorem wr331 (hl : l.1.stackTraces = false) (hq : 193 ≤ q) (h : CREL I S) (hS : GOK S) {f : Int} (hf : InR f) {t : Int} (ht : InR t) : CT l 331 [.ref 0, .int (iI f), .int (iI t), .ref 192] (mm q I v false) 1 6 (WQ q I (oFormat S f t)) := by
  have hcd : (oFormat S f t).1 = 0 ∨ (oFormat S f t).1 = 1 ∨ (oFormat S f t).1 = 2 := by
    unfold oFormat
    repeat (first | exact Or.inl rfl | exact Or.inr (Or.inl rfl) | exact Or.inr (Or.inr rfl) | split)
  have h1 := cm138 hl (by omega) h hS hf ht (q := q) (v := v)
  generalize (oFormat S f t) = r at h1 hcd ⊢
  refine mkct2 hl (by decide) (Nat.le_of_ble_eq_true rfl) (L := [some (.ref 0), some (.int (iI f)), some (.int (iI t)), some (.ref 192), none]) rfl ?_
  refine x_aload_n (pc := 0) rfl d331_0 ?_
  refine x_iconst (pc := 1) d331_1 ?_
  refine x_aload_n (pc := 2) rfl d331_2 ?_
  refine x_iload_n (pc := 3) rfl d331_3 ?_
  refine x_iload_n (pc := 4) rfl d331_4 ?_
  refine x_callV (k := 0) (n := 0) (pc := 5) c331_133 h1 (ko0 (by omega)) rfl rfl (Nat.le_of_ble_eq_true rfl) (by decide +kernel) (by decide +kernel) d331_5 (Or.inr fun v9 τ h9 => ?_) (fun v9 τ h9 => ?_) (fun E9 τ h9 _ => ?_)
  · rcases h9 with ⟨_, K, e, _⟩ | ⟨_, K, e, _⟩
    · cases e; rfl
    · cases e
  · rcases h9 with ⟨h0, K, e, hK, hk⟩ | ⟨_, K, e, _⟩
    · cases e
      show Ex l 331 0 0 8 _ (.int (iI r.2.1) :: .int (iI 0) :: [.ref 192]) _ _
      refine x_i2lA (pc := 8) d331_8 ?_
      refine m_last (pc := 9) hq d331_9 ?_
      refine x_goto (pc := 10) (tgt := 21) d331_10 (by decide) ?_
      refine x_iconst (pc := 21) d331_21 ?_
      refine x_iret (pc := 22) rfl (fun z => Bool.noConfusion z) d331_22 ?_
      exact ⟨K, _, by rw [h0], hK, hk, fun _ => rfl⟩
    · cases e
  · rcases h9 with ⟨_, K, e, _⟩ | ⟨h0, K, e, hK, hk⟩
    · cases e
    · cases e
      by_cases h2 : r.1 = 1
      · rw [h2]
        refine Or.inr ⟨15, 4, ⟨[], [(0, 10, 17, 19)], (0, 10, 13, 41), by decide +kernel, fun z hz => absurd hz List.not_mem_nil, by decide, by decide, by decide +kernel, Or.inr ⟨d331_13, rfl⟩⟩, by decide +kernel, rfl, ?_⟩
        dsimp only [List.set]
        refine x_iconst (pc := 15) d331_15 ?_
        refine x_iret (pc := 16) rfl (fun z => Bool.noConfusion z) d331_16 ?_
        exact ⟨K, v, by rw [h2], hK, hk, fun z => absurd z h0⟩
      · have h2 : r.1 = 2 := by omega
        rw [h2]
        refine Or.inr ⟨19, 4, ⟨[(0, 10, 13, 41)], [], (0, 10, 17, 19), by decide +kernel, fun z hz => by rw [List.mem_singleton.mp hz]; exact ⟨2, by decide +kernel, by decide⟩, by decide, by decide, by decide +kernel, Or.inr ⟨d331_17, rfl⟩⟩, by decide +kernel, rfl, ?_⟩
        dsimp only [List.set]
        refine x_iconst (pc := 19) d331_19 ?_
        refine x_iret (pc := 20) rfl (fun z => Bool.noConfusion z) d331_20 ?_
        exact ⟨K, v, by rw [h2], hK, hk, fun z => absurd z h0⟩
end Wrap
