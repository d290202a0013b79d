/-! ===== the reference: the operations ===== -/
/-- what was before is kept -/
def KP (I : Nat → Int → Int) (S : GS) (K : Nat → Int → Int) : Prop := (∀ a, a ≠ 181 → a ≠ 186 → K a = I a) ∧ (∀ j, j ≠ 5 → K 181 j = I 181 j) ∧ rH K (keepG S)
def CPY (I K2 : Nat → Int → Int) (b : Bool) : Prop := (∀ a, a ≠ 184 → K2 a = I a) ∧ (b = true → ∀ i : Int, 0 ≤ i → i < 1011 → K2 184 i = I 182 i)
section Rops
variable {l : LX} {q : Nat} {I : Nat → Int → Int} {v : Int} {fr : Bool} {S : GS} {A : AV} {c e : Int}
theorem lp_shift (hl : l.1.stackTraces = false) (hq : 192 ≤ q) {s9 : Nat} {Q : OO → Prop} (hQ : ∀ K : Nat → Int → Int, (∀ a, a ≠ 186 → K a = I a) → (∀ i : Int, 0 ≤ i → i < 7077 → K 186 i = I 186 (i + 1011)) → Ex l 225 0 0 40 [some (.ref 181), some (.ref s9), none] [] (mm q K v fr) Q) : ∀ (m k : Nat) (J : Nat → Int → Int), m + k = 7077 → (∀ a, a ≠ 186 → J a = I a) → (∀ i : Int, 0 ≤ i → i < k → J 186 i = I 186 (i + 1011)) → (∀ i : Int, k ≤ i → J 186 i = I 186 i) →
    Ex l 225 0 0 11 [some (.ref 181), some (.ref s9), some (.int (iI k))] [] (mm q J v fr) Q := by
  intro m
  induction m with
  | zero =>
    intro k J hk o z u
    refine x_iload_n (pc := 11) rfl d225_11 ?_
    refine x_sipush (pc := 12) (by decide) d225_12 ?_
    refine x_icmp_ge (pc := 15) (tgt := 40) ⟨by omega, by omega⟩ ⟨by omega, by omega⟩ d225_15 (by decide) (fun g15 => ?_) (fun g15 => ?_)
    · refine x_mask [true, true, false] ?_
      dsimp only [mask]
      exact hQ J o fun i i0 i1 => z i i0 (by omega)
    · exfalso; omega
  | succ m ih =>
    intro k J hk o z u
    refine x_iload_n (pc := 11) rfl d225_11 ?_
    refine x_sipush (pc := 12) (by decide) d225_12 ?_
    refine x_icmp_ge (pc := 15) (tgt := 40) ⟨by omega, by omega⟩ ⟨by omega, by omega⟩ d225_15 (by decide) (fun g15 => ?_) (fun g15 => ?_)
    · refine x_mask [true, true, false] ?_
      dsimp only [mask]
      exfalso; omega
    · refine x_aload_n (pc := 18) rfl d225_18 ?_
      refine m_getR (pc := 19) f225_22 (by decide +kernel) (xo181 (by omega)) rr181_4 d225_19 ?_
      refine x_iload_n (pc := 22) rfl d225_22 ?_
      refine x_aload_n (pc := 23) rfl d225_23 ?_
      refine m_getR (pc := 24) f225_22 (by decide +kernel) (xo181 (by omega)) rr181_4 d225_24 ?_
      refine x_iload_n (pc := 27) rfl d225_27 ?_
      refine x_sipush (pc := 28) (by decide) d225_28 ?_
      refine x_iadd (pc := 31) d225_31 ?_
      refine m_iald (pc := 32) (xa186 (by omega)) (by omega) (by omega) (by omega) d225_32 ?_
      refine m_iast (pc := 33) (xa186 (by omega)) (by omega) (by omega) (by omega) d225_33 ?_
      refine x_iinc (pc := 34) rfl (by decide +kernel) rfl d225_34 ?_
      dsimp only [List.set]
      refine x_goto (pc := 37) (tgt := 11) d225_37 (by decide) ?_
      refine ih (k + 1) _ (by omega) (fun a ha => by rw [up2_off' _ _ _ ha]; exact o a ha) (fun i i0 i1 => ?_) (fun i i0 => by rw [up2_i (by omega)]; exact u i (by omega))
      by_cases ei : i = k
      · rw [ei, up2_s, u _ (by omega)]
      · rw [up2_i ei]; exact z i i0 (by omega)
theorem lp_keep2 (hl : l.1.stackTraces = false) (hq : 192 ≤ q) {s9 : Nat} (hs9 : s9 < q ∧ K0 s9 = 10 * 1011) (hsd : s9 ≠ 186) {N : Int} (hN : I 181 5 = N) (N0 : 0 ≤ N) (N1 : N ≤ 7) : Ex l 225 0 0 50 [some (.ref 181), some (.ref s9), none] [] (mm q I v fr) (fun o => o = (.inl none, mm q (up2 (cp2 I s9 0 186 (1011 * N) 1011) 181 5 (N + 1)) v fr)) := by
  refine x_aload_n (pc := 50) rfl d225_50 ?_
  refine x_iconst (pc := 51) d225_51 ?_
  refine x_aload_n (pc := 52) rfl d225_52 ?_
  refine m_getR (pc := 53) f225_22 (by decide +kernel) (xo181 (by omega)) rr181_4 d225_53 ?_
  refine x_sipush (pc := 56) (by decide) d225_56 ?_
  refine x_aload_n (pc := 59) rfl d225_59 ?_
  refine m_getI (pc := 60) (z := 5) f225_278 (by decide +kernel) rfl (xo181 (by omega)) d225_60 ?_
  refine x_val (pc := 63) (w := N) (hN) ?_
  refine x_imul (pc := 63) d225_63 ?_
  refine x_cSv (pc := 64) c225_68 (rt_copies hl (m0 := 1011) (n0 := 8088) hs9 (xa186 (by omega) (I := I) (v := v) (fr := fr)) hsd (a := 0) (b := (1011 * N)) (by decide) (by decide) (by omega) (by omega) (by decide) (by decide)) rfl rfl (Nat.le_of_ble_eq_true rfl) (by decide +kernel) (by decide +kernel) (by decide +kernel) rfl d225_64 ?_
  refine x_aload_n (pc := 67) rfl d225_67 ?_
  refine x_dup (pc := 68) rfl d225_68 ?_
  refine m_getI (pc := 69) (z := 5) f225_278 (by decide +kernel) rfl (xo181 (by omega)) d225_69 ?_
  refine x_val (pc := 72) (w := N) (by rw [cp2_p (by decide)]; exact hN) ?_
  refine x_iconst (pc := 72) d225_72 ?_
  refine x_iadd (pc := 73) d225_73 ?_
  refine m_putI (pc := 74) (z := 5) f225_278 (by decide +kernel) (by decide +kernel) rfl (xo181 (by omega)) d225_74 ?_
  refine x_vret (pc := 77) rfl (fun _ => rfl) d225_77 ?_
  first | rfl | (exfalso; omega)
theorem lp_keep3 (hl : l.1.stackTraces = false) (hq : 192 ≤ q) {s9 : Nat} {N : Int} {Q : OO → Prop} (hN : I 181 5 = N) (kk : Ex l 225 0 0 50 [some (.ref 181), some (.ref s9), none] [] (mm q (up2 I 181 5 (N - 1)) v fr) Q) : Ex l 225 0 0 40 [some (.ref 181), some (.ref s9), none] [] (mm q I v fr) Q := by
  refine x_aload_n (pc := 40) rfl d225_40 ?_
  refine x_dup (pc := 41) rfl d225_41 ?_
  refine m_getI (pc := 42) (z := 5) f225_278 (by decide +kernel) rfl (xo181 (by omega)) d225_42 ?_
  refine x_val (pc := 45) (w := N) (hN) ?_
  refine x_iconst (pc := 45) d225_45 ?_
  refine x_isub (pc := 46) d225_46 ?_
  refine m_putI (pc := 47) (z := 5) f225_278 (by decide +kernel) (by decide +kernel) rfl (xo181 (by omega)) d225_47 ?_
  exact kk
theorem rt_keeps (hl : l.1.stackTraces = false) (hq : 192 ≤ q) {s9 : Nat} (hs9 : s9 < q ∧ K0 s9 = 10 * 1011) (hsd : s9 ≠ 186) (hs1 : s9 ≠ 181) (hF : RV (I s9) (gA S)) (hH : rH I S) (hS : GOK S) : CT l 225 [.ref 181, .ref s9] (mm q I v fr) 0 0 (oE q v fr none (KP I S)) := by
  have hg := hS.2.1
  have fin : ∀ (J : Nat → Int → Int) (N : Int), (∀ a, a ≠ 181 → a ≠ 186 → J a = I a) → (∀ j, j ≠ 5 → J 181 j = I 181 j) → 0 ≤ N → N ≤ 7 → (∀ k : Int, 0 ≤ k → k < N → ∀ i : Int, 0 ≤ i → i < 1011 → J 186 (1011 * k + i) = I 186 (1011 * (if gN S = 8 then k + 1 else k) + i)) → N = (if gN S = 8 then 7 else gN S) → KP I S (up2 (cp2 J s9 0 186 (1011 * N) 1011) 181 5 (N + 1)) := fun J N o o1 N0 N1 w eN => by
    refine ⟨fun a a1 a6 => by rw [up2_off' _ _ _ a1, show cp2 J s9 0 186 (1011 * N) 1011 a = J a from funext fun b => cp2_p a6]; exact o a a1 a6, fun j hj => by rw [up2_i hj, cp2_p (by decide)]; exact o1 j hj, ?_⟩
    have e186 : ∀ i, up2 (cp2 J s9 0 186 (1011 * N) 1011) 181 5 (N + 1) 186 i = if 1011 * N ≤ i ∧ i < 1011 * N + 1011 then J s9 (0 + (i - 1011 * N)) else J 186 i := fun i => by
      rw [up2_p (by decide)]
      unfold cp2
      by_cases ci : 1011 * N ≤ i ∧ i < 1011 * N + 1011
      · rw [if_pos ⟨rfl, ci⟩, if_pos ci]
      · rw [if_neg fun z => ci z.2, if_neg ci]
    have new : RV (fun i => up2 (cp2 J s9 0 186 (1011 * N) 1011) 181 5 (N + 1) 186 (1011 * N + i)) (gA S) := hF.cg hS.1 fun i i0 i1 => by
      rw [e186, if_pos (by omega), o s9 hs1 hsd, show 0 + (1011 * N + i - 1011 * N) = i from by omega]
    have old : ∀ k : Int, 0 ≤ k → k < N → RV (fun i => up2 (cp2 J s9 0 186 (1011 * N) 1011) 181 5 (N + 1) 186 (1011 * k + i)) (gH S (if gN S = 8 then k + 1 else k)) := fun k k0 k1 => by
      have hk9 : 0 ≤ (if gN S = 8 then k + 1 else k) ∧ (if gN S = 8 then k + 1 else k) < gN S := by
        by_cases e8 : gN S = 8
        · rw [if_pos e8] at eN ⊢; omega
        · rw [if_neg e8] at eN ⊢; omega
      exact (hH.2 _ hk9.1 hk9.2).cg (hg.2 _ hk9.1 hk9.2) fun i i0 i1 => by
        rw [e186, if_neg (by omega)]
        exact w k k0 k1 i i0 i1
    show _ = (hpush S).2 ∧ ∀ k : Int, 0 ≤ k → k < (hpush S).2 → RV _ ((hpush S).1 k)
    unfold hpush
    by_cases e8 : gN S = 8
    · rw [if_pos e8] at eN ⊢
      refine ⟨by rw [up2_s]; show N + 1 = 8; omega, fun k k0 k1 => ?_⟩
      have k1 : k < 8 := k1
      dsimp only
      by_cases e7 : k = 7
      · rw [if_pos e7, e7, ← eN]; exact new
      · rw [if_neg e7]
        have := old k k0 (by omega)
        rw [if_pos e8] at this
        exact this
    · rw [if_neg e8] at eN ⊢
      refine ⟨by rw [up2_s, eN], fun k k0 k1 => ?_⟩
      have k1 : k < gN S + 1 := k1
      dsimp only
      by_cases e7 : k = gN S
      · rw [if_pos e7, e7, ← eN]; exact new
      · rw [if_neg e7]
        have := old k k0 (by omega)
        rw [if_neg e8] at this
        exact this
  refine mkct2 hl (by decide) (Nat.le_of_ble_eq_true rfl) (L := [some (.ref 181), some (.ref s9), none]) rfl ?_
  refine x_aload_n (pc := 0) rfl d225_0 ?_
  refine m_getI (pc := 1) (z := 5) f225_278 (by decide +kernel) rfl (xo181 (by omega)) d225_1 ?_
  refine x_val (pc := 4) (w := (gN S)) (hH.1) ?_
  refine x_bipush (pc := 4) (by decide) d225_4 ?_
  refine x_icmp_ne (pc := 6) (tgt := 50) ⟨by omega, by omega⟩ ⟨by omega, by omega⟩ d225_6 (by decide) (fun g6 => ?_) (fun g6 => ?_)
  · refine ex_mono (lp_keep2 hl hq hs9 hsd hH.1 hg.1.1 (by omega)) fun o ho => ?_
    exact ⟨_, ho, fin I (gN S) (fun _ _ _ => rfl) (fun _ _ => rfl) hg.1.1 (by omega) (fun k k0 k1 i i0 i1 => by rw [if_neg g6]) (by rw [if_neg g6])⟩
  · refine x_iconst (pc := 9) d225_9 ?_
    refine x_istore_n (pc := 10) (by decide +kernel) rfl d225_10 ?_
    dsimp only [List.set]
    refine lp_shift hl hq (fun K o z => ?_) 7077 0 I (by decide) (fun _ _ => rfl) (fun i i0 i1 => absurd (show i < 0 from i1) (by omega)) (fun _ _ => rfl)
    refine lp_keep3 (N := 8) hl hq (by rw [o 181 (by decide), hH.1, g6]) ?_
    refine ex_mono (lp_keep2 hl hq hs9 hsd (N := 7) (by rw [up2_s]; rfl) (by decide) (by decide)) fun o9 ho => ?_
    refine ⟨_, ho, fin (up2 K 181 5 (8 - 1)) 7 (fun a a1 a6 => by rw [up2_off' _ _ _ a1]; exact o a a6) (fun j hj => by rw [up2_i hj, o 181 (by decide)]) (by decide) (by decide) (fun k k0 k1 i i0 i1 => ?_) (by rw [if_pos g6])⟩
    rw [if_pos g6, up2_p (by decide), z _ (by omega) (by omega)]
    congr 1
    omega
theorem rt_done (hl : l.1.stackTraces = false) (hq : 192 ≤ q) {z b : Int} (hF : RV (I 184) (gA S)) (hH : rH I S) (hz : I 181 10 = z) (hS : GOK S) : CT l 279 [.ref 181, .int (iI b)] (mm q I v fr) 0 0 (oE q v fr (some (.int (iI z))) (KP I S)) := by
  refine mkct2 hl (by decide) (Nat.le_of_ble_eq_true rfl) (L := [some (.ref 181), some (.int (iI b))]) rfl ?_
  refine x_aload_n (pc := 0) rfl d279_0 ?_
  refine x_aload_n (pc := 1) rfl d279_1 ?_
  refine m_getR (pc := 2) f279_16 (by decide +kernel) (xo181 (by omega)) rr181_2 d279_2 ?_
  refine x_cVev (pc := 5) c279_337 (rt_keeps hl hq (s9 := 184) (xa184 (by omega) (I := I) (v := v) (fr := fr)) (by decide) (by decide) hF hH hS) (xo181 (by omega)) rfl rfl (Nat.le_of_ble_eq_true rfl) (by decide +kernel) (by decide +kernel) d279_5 (fun J1 hJ1 => ?_)
  refine x_aload_n (pc := 8) rfl d279_8 ?_
  refine m_getI (pc := 9) (z := 10) f279_176 (by decide +kernel) rfl (xo181 (by omega)) d279_9 ?_
  refine x_val (pc := 12) (w := z) (by rw [hJ1.2.1 10 (by decide)]; exact hz) ?_
  refine x_iret (pc := 12) rfl (fun _ => rfl) d279_12 ?_
  exact ⟨J1, rfl, hJ1⟩
theorem rt_tried (hl : l.1.stackTraces = false) (hq : 192 ≤ q) {b : Bool} : CT l 278 [.ref 181, .int (iI (b01 b))] (mm q I v fr) 0 0 (oE q v fr (some (.int (iI (b01 b)))) (fun K => CPY I K b)) := by
  refine mkct2 hl (by decide) (Nat.le_of_ble_eq_true rfl) (L := [some (.ref 181), some (.int (iI (b01 b)))]) rfl ?_
  refine x_iload_n (pc := 0) rfl d278_0 ?_
  refine x_ifB_eq (pc := 1) (tgt := 17) d278_1 (by decide) (fun g1 => ?_) (fun g1 => ?_)
  · refine x_iload_n (pc := 17) rfl d278_17 ?_
    refine x_zret (pc := 18) rfl (b01_or _) (fun _ => rfl) d278_18 ?_
    exact ⟨I, rfl, fun _ _ => rfl, fun z => absurd (z.symm.trans g1) (by decide)⟩
  · refine x_aload_n (pc := 4) rfl d278_4 ?_
    refine m_getR (pc := 5) f278_9 (by decide +kernel) (xo181 (by omega)) rr181_0 d278_5 ?_
    refine x_iconst (pc := 8) d278_8 ?_
    refine x_aload_n (pc := 9) rfl d278_9 ?_
    refine m_getR (pc := 10) f278_16 (by decide +kernel) (xo181 (by omega)) rr181_2 d278_10 ?_
    refine x_iconst (pc := 13) d278_13 ?_
    refine x_cSv (pc := 14) c278_68 (rt_copies hl (m0 := 1011) (n0 := 1011) (xa182 (by omega) (I := I) (v := v) (fr := fr)) (xa184 (by omega) (I := I) (v := v) (fr := fr)) (by decide) (a := 0) (b := 0) (by omega) (by omega) (by omega) (by omega) (by decide) (by decide)) rfl rfl (Nat.le_of_ble_eq_true rfl) (by decide +kernel) (by decide +kernel) (by decide +kernel) rfl d278_14 ?_
    refine x_iload_n (pc := 17) rfl d278_17 ?_
    refine x_zret (pc := 18) rfl (b01_or _) (fun _ => rfl) d278_18 ?_
    exact ⟨_, rfl, fun a ha => funext fun x => cp2_p ha, fun _ i i0 i1 => cp2_y i0 i1⟩
theorem op_pre {K K2 J1 : Nat → Int → Int} {z x : Int} {b : Bool} (h : RREL I S) (hS : GOK S) (t : TH I x K) (k2 : CPY K K2 b) (hb : b = true) (j1 : oNl K2 z A J1) : RV (J1 184) (gA S) ∧ rH J1 S ∧ J1 181 10 = z := by
  have hr := t.rel h
  refine ⟨?_, ⟨by rw [j1.2.1 5 (by decide), k2.1 181 (by decide)]; exact hr.2.1.1, by rw [j1.1 186 (by decide) (by decide) (by decide) (by decide), k2.1 186 (by decide)]; exact hr.2.1.2⟩, j1.2.2.1⟩
  rw [j1.1 184 (by decide) (by decide) (by decide) (by decide)]
  exact hr.1.cg hS.1 (k2.2 hb)
theorem op_rel {K K2 J1 J2 : Nat → Int → Int} {z : Int} {b : Bool} (h : RREL I S) (t : TH I 0 K) (k2 : CPY K K2 b) (j1 : oNl K2 z A J1) (j2 : KP J1 S J2) : RQ q v fr I (oDo S z A) (.inl (some (.int (iI z))), mm q J2 v fr) := by
  have hr := t.rel h
  have f : ∀ a, a ≠ 181 → a ≠ 182 → a ≠ 184 → a ≠ 186 → a ≠ 187 → a ≠ 188 → J2 a = K a := fun a a1 a2 a4 a6 a7 a8 => by rw [j2.1 a a1 a6, j1.1 a a1 a2 a7 a8, k2.1 a a4]
  have g : ∀ j, j ≠ 5 → j ≠ 10 → J2 181 j = K 181 j := fun j j5 j9 => by rw [j2.2.1 j j5, j1.2.1 j j9, k2.1 181 (by decide)]
  refine ⟨z, J2, rfl, by rw [g 6 (by decide) (by decide)]; exact t.2.2, fun _ => rfl, ?_, fun a ha => by rw [f a (by omega) (by omega) (by omega) (by omega) (by omega) (by omega)]; exact t.1 a (by omega) (by omega)⟩
  exact ⟨by rw [j2.1 182 (by decide) (by decide)]; exact j1.2.2.2, j2.2.2, ⟨by rw [g 7 (by decide) (by decide)]; exact hr.2.2.1.1, by rw [f 183 (by decide) (by decide) (by decide) (by decide) (by decide) (by decide)]; exact hr.2.2.1.2⟩, ⟨by rw [g 12 (by decide) (by decide)]; exact hr.2.2.2.1.1, by rw [f 189 (by decide) (by decide) (by decide) (by decide) (by decide) (by decide)]; exact hr.2.2.2.1.2⟩, ⟨by rw [g 18 (by decide) (by decide)]; exact hr.2.2.2.2.1.1, by rw [g 19 (by decide) (by decide)]; exact hr.2.2.2.2.1.2⟩, ⟨by rw [g 23 (by decide) (by decide)]; exact hr.2.2.2.2.2.1, by rw [f 191 (by decide) (by decide) (by decide) (by decide) (by decide) (by decide)]; exact hr.2.2.2.2.2.2⟩⟩
theorem rq_fail {K K2 : Nat → Int → Int} {z w x : Int} {b : Bool} (hx : x ≠ 0) (h : RREL I S) (t : TH I x K) (k2 : CPY K K2 b) : RQ q v fr I (x, z, S) (.inl (some (.int (iI w))), mm q K2 v fr) := by
  have hr := t.rel h
  refine ⟨w, K2, rfl, by rw [k2.1 181 (by decide)]; exact t.2.2, fun e => absurd e hx, ?_, fun a ha => by rw [k2.1 a (by omega)]; exact t.1 a (by omega) (by omega)⟩
  have f : ∀ a, a ≠ 184 → K2 a = K a := k2.1
  obtain ⟨h1, ⟨a1, a2⟩, ⟨b1, b2⟩, ⟨c1, c2⟩, ⟨d1, d2⟩, ⟨e1, e2⟩⟩ := hr
  exact ⟨by rw [f 182 (by decide)]; exact h1, ⟨by rw [f 181 (by decide)]; exact a1, by rw [f 186 (by decide)]; exact a2⟩, ⟨by rw [f 181 (by decide)]; exact b1, by rw [f 183 (by decide)]; exact b2⟩, ⟨by rw [f 181 (by decide)]; exact c1, by rw [f 189 (by decide)]; exact c2⟩, ⟨by rw [f 181 (by decide)]; exact d1, by rw [f 181 (by decide)]; exact d2⟩, ⟨by rw [f 181 (by decide)]; exact e1, by rw [f 191 (by decide)]; exact e2⟩⟩
theorem TH.ch {K : Nat → Int → Int} {x y : Int} (h : TH I x K) (e : x = y) : TH I y K := by rw [← e]; exact h
theorem rt_p2T (hl : l.1.stackTraces = false) (hq : 192 ≤ q) {a : Bool} : DT l 151 [.ref 181, .int (iI (b01 a)), .int (iI (b01 true))] (mm q I v fr) 0 0 (.inl (some (.int (iI (b01 a)))), mm q (up2 I 181 6 (th2 a true)) v fr) := by
  have := rt_passes2 (l := l) (q := q) (I := I) (v := v) (fr := fr) (a := a) (b := true) hl hq
  rw [Bool.and_true] at this
  exact this
theorem rt_p2F (hl : l.1.stackTraces = false) (hq : 192 ≤ q) {a : Bool} : DT l 151 [.ref 181, .int (iI (b01 a)), .int (iI (b01 false))] (mm q I v fr) 0 0 (.inl (some (.int (iI (b01 false)))), mm q (up2 I 181 6 (th2 a false)) v fr) := by
  have := rt_passes2 (l := l) (q := q) (I := I) (v := v) (fr := fr) (a := a) (b := false) hl hq
  rw [Bool.and_false] at this
  exact this
theorem rm281 (hl : l.1.stackTraces = false) (hq : 192 ≤ q) (h : RREL I S) (hS : GOK S) {z : Int} (hz : InR z) : CT l 281 [.ref 181, .int (iI z)] (mm q I v fr) 0 0 (RQ q v fr I (oTransmit S z)) := by
  have hA : AINV (gA S) cB := hS.1
  have hr := hA.rg
  have hcB : cB = 2450880 := rfl
  obtain ⟨hz0, hz1⟩ := id hz
  refine mkct2 hl (by decide) (Nat.le_of_ble_eq_true rfl) (L := [some (.ref 181), some (.int (iI z))]) rfl ?_
  refine x_aload_n (pc := 0) rfl d281_0 ?_
  refine x_aload_n (pc := 1) rfl d281_1 ?_
  refine x_iload_n (pc := 2) rfl d281_2 ?_
  refine x_i2l (pc := 3) ⟨by omega, by omega⟩ d281_3 ?_
  refine x_lconst (pc := 4) (z := 1) (by decide) d281_4 ?_
  refine x_ldc2 (pc := 5) (z := 60) k281_401 (by decide) d281_5 ?_
  refine x_cSs (pc := 8) c281_72 (rt_in hl (a := z) (b := 1) (c := 60) ⟨by omega, by omega⟩ ⟨by omega, by omega⟩ ⟨by omega, by omega⟩) rfl rfl (Nat.le_of_ble_eq_true rfl) (by decide +kernel) (by decide +kernel) (by decide +kernel) rfl d281_8 ?_
  refine x_aload_n (pc := 11) rfl d281_11 ?_
  refine m_getR (pc := 12) f281_9 (by decide +kernel) (xo181 (by omega)) rr181_0 d281_12 ?_
  refine x_bipush (pc := 15) (by decide) d281_15 ?_
  refine m_ialdW (pc := 17) (w := ((gA S) 0 7)) (xa182 (by omega)) (by omega) (by omega) (by omega) (by rw [h.1.sc (i := 7) (by decide) (by decide)]) d281_17 ?_
  refine x_ldc (pc := 18) (z := 900000) k281_179 (by decide) d281_18 ?_
  refine x_icmp_gt (pc := 20) (tgt := 27) ⟨by omega, by omega⟩ ⟨by omega, by omega⟩ d281_20 (by decide) (fun g20 => ?_) (fun g20 => ?_)
  · refine x_iconst (pc := 27) d281_27 ?_
    refine x_cVs (pc := 28) c281_360 (rt_p2F hl hq (a := (decide (1 ≤ z ∧ z ≤ 60)))) (xo181 (by omega)) rfl rfl (Nat.le_of_ble_eq_true rfl) (by decide +kernel) (by decide +kernel) rfl d281_28 ?_
    obtain ⟨K, hK⟩ : ∃ Z : Nat → Int → Int, Z = (up2 I 181 6 (th2 (decide (1 ≤ z ∧ z ≤ 60)) false)) := ⟨_, rfl⟩
    refine x_mem (J := K) (pc := 31) hK ?_
    have tK := TH.of hK
    have hRK := tK.rv h.1
    refine x_cVes (pc := 31) c281_395 (rt_tried hl hq (b := false)) (xo181 (by omega)) rfl rfl (Nat.le_of_ble_eq_true rfl) (by decide +kernel) (by decide +kernel) d281_31 (fun K2 hK2 => ?_)
    refine x_ifB_eq (pc := 34) (tgt := 49) d281_34 (by decide) (fun _ => ?_) (fun z => absurd z (by decide))
    refine x_iconst (pc := 49) d281_49 ?_
    refine x_iret (pc := 50) rfl (fun _ => rfl) d281_50 ?_
    unfold oTransmit
    by_cases ca : 1 ≤ z ∧ z ≤ 60
    · rw [if_pos ca, if_neg (by omega)]; exact rq_fail (by decide) h (tK.ch (by rw [decide_eq_true ca]; rfl)) hK2
    · rw [if_neg ca]; exact rq_fail (by decide) h (tK.ch (by rw [decide_eq_false ca]; rfl)) hK2
  · refine x_iconst (pc := 23) d281_23 ?_
    refine x_goto (pc := 24) (tgt := 28) d281_24 (by decide) ?_
    refine x_cVs (pc := 28) c281_360 (rt_p2T hl hq (a := (decide (1 ≤ z ∧ z ≤ 60)))) (xo181 (by omega)) rfl rfl (Nat.le_of_ble_eq_true rfl) (by decide +kernel) (by decide +kernel) rfl d281_28 ?_
    obtain ⟨K, hK⟩ : ∃ Z : Nat → Int → Int, Z = (up2 I 181 6 (th2 (decide (1 ≤ z ∧ z ≤ 60)) true)) := ⟨_, rfl⟩
    refine x_mem (J := K) (pc := 31) hK ?_
    have tK := TH.of hK
    have hRK := tK.rv h.1
    refine x_cVes (pc := 31) c281_395 (rt_tried hl hq (b := (decide (1 ≤ z ∧ z ≤ 60)))) (xo181 (by omega)) rfl rfl (Nat.le_of_ble_eq_true rfl) (by decide +kernel) (by decide +kernel) d281_31 (fun K2 hK2 => ?_)
    refine x_ifB_eq (pc := 34) (tgt := 49) d281_34 (by decide) (fun g34 => ?_) (fun g34 => ?_)
    · refine x_iconst (pc := 49) d281_49 ?_
      refine x_iret (pc := 50) rfl (fun _ => rfl) d281_50 ?_
      have ca : ¬ (1 ≤ z ∧ z ≤ 60) := of_decide_eq_false g34
      unfold oTransmit
      rw [if_neg ca]; exact rq_fail (by decide) h (tK.ch (by rw [decide_eq_false ca]; rfl)) hK2
    · have hRK2 : RV (K2 182) (gA S) := by rw [hK2.1 182 (by decide)]; exact hRK
      have b0 := of_decide_eq_true g34
      refine x_aload_n (pc := 37) rfl d281_37 ?_
      refine x_aload_n (pc := 38) rfl d281_38 ?_
      refine x_iload_n (pc := 39) rfl d281_39 ?_
      refine x_val (pc := 40) (w := ((z.toNat : Nat) : Int)) (by omega) ?_
      refine x_cVes (pc := 40) c281_316 (rt_trT hl hq (A := gA S) hRK2 hA (by omega) (by omega) (n := z.toNat) (by omega)) (xo181 (by omega)) rfl rfl (Nat.le_of_ble_eq_true rfl) (by decide +kernel) (by decide +kernel) d281_40 (fun J1 hJ1 => ?_)
      have pp := op_pre h hS tK hK2 g34 hJ1.lt
      refine x_cVes (pc := 43) c281_398 (rt_done hl hq (S := S) (z := (mkS z.toNat (gA S)).1) pp.1 pp.2.1 pp.2.2 hS) (xo181 (by omega)) rfl rfl (Nat.le_of_ble_eq_true rfl) (by decide +kernel) (by decide +kernel) d281_43 (fun J2 hJ2 => ?_)
      refine x_goto (pc := 46) (tgt := 50) d281_46 (by decide) ?_
      refine x_iret (pc := 50) rfl (fun _ => rfl) d281_50 ?_
      unfold oTransmit
      rw [if_pos b0, if_pos (by omega)]
      exact op_rel h (tK.ch (by rw [decide_eq_true b0]; rfl)) hK2 hJ1.lt hJ2
theorem rm284 (hl : l.1.stackTraces = false) (hq : 192 ≤ q) (h : RREL I S) (hS : GOK S) {z : Int} (hz : InR z) : CT l 284 [.ref 181, .int (iI z)] (mm q I v fr) 0 0 (RQ q v fr I (oWait S z)) := by
  have hA : AINV (gA S) cB := hS.1
  have hr := hA.rg
  have hcB : cB = 2450880 := rfl
  obtain ⟨hz0, hz1⟩ := id hz
  refine mkct2 hl (by decide) (Nat.le_of_ble_eq_true rfl) (L := [some (.ref 181), some (.int (iI z))]) rfl ?_
  refine x_aload_n (pc := 0) rfl d284_0 ?_
  refine x_aload_n (pc := 1) rfl d284_1 ?_
  refine x_iload_n (pc := 2) rfl d284_2 ?_
  refine x_i2l (pc := 3) ⟨by omega, by omega⟩ d284_3 ?_
  refine x_lconst (pc := 4) (z := 1) (by decide) d284_4 ?_
  refine x_ldc2 (pc := 5) (z := 999) k284_403 (by decide) d284_5 ?_
  refine x_cSs (pc := 8) c284_72 (rt_in hl (a := z) (b := 1) (c := 999) ⟨by omega, by omega⟩ ⟨by omega, by omega⟩ ⟨by omega, by omega⟩) rfl rfl (Nat.le_of_ble_eq_true rfl) (by decide +kernel) (by decide +kernel) (by decide +kernel) rfl d284_8 ?_
  refine x_aload_n (pc := 11) rfl d284_11 ?_
  refine m_getR (pc := 12) f284_9 (by decide +kernel) (xo181 (by omega)) rr181_0 d284_12 ?_
  refine x_bipush (pc := 15) (by decide) d284_15 ?_
  refine m_ialdW (pc := 17) (w := ((gA S) 0 7)) (xa182 (by omega)) (by omega) (by omega) (by omega) (by rw [h.1.sc (i := 7) (by decide) (by decide)]) d284_17 ?_
  refine x_i2l (pc := 18) ⟨by omega, by omega⟩ d284_18 ?_
  refine x_iload_n (pc := 19) rfl d284_19 ?_
  refine x_i2l (pc := 20) ⟨by omega, by omega⟩ d284_20 ?_
  refine x_ladd (pc := 21) d284_21 ?_
  refine x_ldc2 (pc := 22) (z := 900000) k284_405 (by decide) d284_22 ?_
  refine x_lc_gt (pc := 25) (tgt := 33) ⟨by omega, by omega⟩ ⟨by omega, by omega⟩ d284_25 d284_26 (by decide) (fun g25 => ?_) (fun g25 => ?_)
  · refine x_iconst (pc := 33) d284_33 ?_
    refine x_cVs (pc := 34) c284_360 (rt_p2F hl hq (a := (decide (1 ≤ z ∧ z ≤ 999)))) (xo181 (by omega)) rfl rfl (Nat.le_of_ble_eq_true rfl) (by decide +kernel) (by decide +kernel) rfl d284_34 ?_
    obtain ⟨K, hK⟩ : ∃ Z : Nat → Int → Int, Z = (up2 I 181 6 (th2 (decide (1 ≤ z ∧ z ≤ 999)) false)) := ⟨_, rfl⟩
    refine x_mem (J := K) (pc := 37) hK ?_
    have tK := TH.of hK
    have hRK := tK.rv h.1
    refine x_cVes (pc := 37) c284_395 (rt_tried hl hq (b := false)) (xo181 (by omega)) rfl rfl (Nat.le_of_ble_eq_true rfl) (by decide +kernel) (by decide +kernel) d284_37 (fun K2 hK2 => ?_)
    refine x_ifB_eq (pc := 40) (tgt := 55) d284_40 (by decide) (fun _ => ?_) (fun z => absurd z (by decide))
    refine x_iconst (pc := 55) d284_55 ?_
    refine x_iret (pc := 56) rfl (fun _ => rfl) d284_56 ?_
    unfold oWait
    by_cases ca : 1 ≤ z ∧ z ≤ 999
    · rw [if_pos ca, if_neg (by omega)]; exact rq_fail (by decide) h (tK.ch (by rw [decide_eq_true ca]; rfl)) hK2
    · rw [if_neg ca]; exact rq_fail (by decide) h (tK.ch (by rw [decide_eq_false ca]; rfl)) hK2
  · refine x_iconst (pc := 29) d284_29 ?_
    refine x_goto (pc := 30) (tgt := 34) d284_30 (by decide) ?_
    refine x_cVs (pc := 34) c284_360 (rt_p2T hl hq (a := (decide (1 ≤ z ∧ z ≤ 999)))) (xo181 (by omega)) rfl rfl (Nat.le_of_ble_eq_true rfl) (by decide +kernel) (by decide +kernel) rfl d284_34 ?_
    obtain ⟨K, hK⟩ : ∃ Z : Nat → Int → Int, Z = (up2 I 181 6 (th2 (decide (1 ≤ z ∧ z ≤ 999)) true)) := ⟨_, rfl⟩
    refine x_mem (J := K) (pc := 37) hK ?_
    have tK := TH.of hK
    have hRK := tK.rv h.1
    refine x_cVes (pc := 37) c284_395 (rt_tried hl hq (b := (decide (1 ≤ z ∧ z ≤ 999)))) (xo181 (by omega)) rfl rfl (Nat.le_of_ble_eq_true rfl) (by decide +kernel) (by decide +kernel) d284_37 (fun K2 hK2 => ?_)
    refine x_ifB_eq (pc := 40) (tgt := 55) d284_40 (by decide) (fun g40 => ?_) (fun g40 => ?_)
    · refine x_iconst (pc := 55) d284_55 ?_
      refine x_iret (pc := 56) rfl (fun _ => rfl) d284_56 ?_
      have ca : ¬ (1 ≤ z ∧ z ≤ 999) := of_decide_eq_false g40
      unfold oWait
      rw [if_neg ca]; exact rq_fail (by decide) h (tK.ch (by rw [decide_eq_false ca]; rfl)) hK2
    · have hRK2 : RV (K2 182) (gA S) := by rw [hK2.1 182 (by decide)]; exact hRK
      have b0 := of_decide_eq_true g40
      refine x_aload_n (pc := 43) rfl d284_43 ?_
      refine x_aload_n (pc := 44) rfl d284_44 ?_
      refine x_iload_n (pc := 45) rfl d284_45 ?_
      refine x_cVes (pc := 46) c284_325 (rt_waitT hl hq (A := gA S) hRK2 hA (by omega) (t := z) (by omega) (by omega) (by omega)) (xo181 (by omega)) rfl rfl (Nat.le_of_ble_eq_true rfl) (by decide +kernel) (by decide +kernel) d284_46 (fun J1 hJ1 => ?_)
      have pp := op_pre h hS tK hK2 g40 hJ1.lt
      refine x_cVes (pc := 49) c284_398 (rt_done hl hq (S := S) (z := (gA S 0 7 + z)) pp.1 pp.2.1 pp.2.2 hS) (xo181 (by omega)) rfl rfl (Nat.le_of_ble_eq_true rfl) (by decide +kernel) (by decide +kernel) d284_49 (fun J2 hJ2 => ?_)
      refine x_goto (pc := 52) (tgt := 56) d284_52 (by decide) ?_
      refine x_iret (pc := 56) rfl (fun _ => rfl) d284_56 ?_
      unfold oWait
      rw [if_pos b0, if_pos (by omega)]
      exact op_rel h (tK.ch (by rw [decide_eq_true b0]; rfl)) hK2 hJ1.lt hJ2
theorem rm282 (hl : l.1.stackTraces = false) (hq : 192 ≤ q) (h : RREL I S) (hS : GOK S) {m : Int} (hm : InR m) : CT l 282 [.ref 181, .int (iI m)] (mm q I v fr) 0 0 (RQ q v fr I (oCancel S m)) := by
  have hA : AINV (gA S) cB := hS.1
  have hr := hA.rg
  have hcB : cB = 2450880 := rfl
  obtain ⟨hm0, hm1⟩ := id hm
  have hs3 : stA (gA S) m = 0 ∨ stA (gA S) m = 1 ∨ stA (gA S) m = 2 := by unfold stA; split; exact Or.inl rfl; split; exact Or.inr (Or.inr rfl); exact Or.inr (Or.inl rfl)
  have stD_in : 0 ≤ m ∧ m < gA S 0 5 → stD (gA S) m = stA (gA S) m := fun b => if_pos b
  refine mkct2 hl (by decide) (Nat.le_of_ble_eq_true rfl) (L := [some (.ref 181), some (.int (iI m)), none]) rfl ?_
  refine x_aload_n (pc := 0) rfl d282_0 ?_
  refine x_iload_n (pc := 1) rfl d282_1 ?_
  refine x_cVs (pc := 2) c282_183 (rt_isMes hl hq (A := (gA S)) h.1 hA (d := m) ⟨by omega, by omega⟩) (xo181 (by omega)) rfl rfl (Nat.le_of_ble_eq_true rfl) (by decide +kernel) (by decide +kernel) rfl d282_2 ?_
  refine x_istore_n (pc := 5) (by decide +kernel) rfl d282_5 ?_
  dsimp only [List.set]
  refine x_aload_n (pc := 6) rfl d282_6 ?_
  refine x_aload_n (pc := 7) rfl d282_7 ?_
  refine x_iload_n (pc := 8) rfl d282_8 ?_
  refine x_iload_n (pc := 9) rfl d282_9 ?_
  refine x_ifB_eq (pc := 10) (tgt := 25) d282_10 (by decide) (fun g10 => ?_) (fun g10 => ?_)
  · refine x_iconst (pc := 25) d282_25 ?_
    refine x_cVs (pc := 26) c282_360 (rt_p2F hl hq (a := (decide (0 ≤ m ∧ m < (gA S) 0 5)))) (xo181 (by omega)) rfl rfl (Nat.le_of_ble_eq_true rfl) (by decide +kernel) (by decide +kernel) rfl d282_26 ?_
    obtain ⟨K, hK⟩ : ∃ Z : Nat → Int → Int, Z = (up2 I 181 6 (th2 (decide (0 ≤ m ∧ m < (gA S) 0 5)) false)) := ⟨_, rfl⟩
    refine x_mem (J := K) (pc := 29) hK ?_
    have tK := TH.of hK
    have hRK := tK.rv h.1
    refine x_cVes (pc := 29) c282_395 (rt_tried hl hq (b := false)) (xo181 (by omega)) rfl rfl (Nat.le_of_ble_eq_true rfl) (by decide +kernel) (by decide +kernel) d282_29 (fun K2 hK2 => ?_)
    refine x_ifB_eq (pc := 32) (tgt := 47) d282_32 (by decide) (fun _ => ?_) (fun z => absurd z (by decide))
    refine x_iconst (pc := 47) d282_47 ?_
    refine x_iret (pc := 48) rfl (fun _ => rfl) d282_48 ?_
    have ca := of_decide_eq_false g10
    unfold oCancel
    rw [if_neg ca]; exact rq_fail (by decide) h (tK.ch (by rw [decide_eq_false ca]; rfl)) hK2
  · have b0 := of_decide_eq_true g10
    refine x_aload_n (pc := 13) rfl d282_13 ?_
    refine x_iload_n (pc := 14) rfl d282_14 ?_
    refine x_cVs (pc := 15) c282_186 (rt_st hl hq (A := (gA S)) h.1 hA (m := m) (by omega) (by omega)) (xo181 (by omega)) rfl rfl (Nat.le_of_ble_eq_true rfl) (by decide +kernel) (by decide +kernel) rfl d282_15 ?_
    refine x_if_ne (pc := 18) (tgt := 25) ⟨by omega, by omega⟩ d282_18 (by decide) (fun g18 => ?_) (fun g18 => ?_)
    · refine x_iconst (pc := 25) d282_25 ?_
      refine x_cVs (pc := 26) c282_360 (rt_p2F hl hq (a := (decide (0 ≤ m ∧ m < (gA S) 0 5)))) (xo181 (by omega)) rfl rfl (Nat.le_of_ble_eq_true rfl) (by decide +kernel) (by decide +kernel) rfl d282_26 ?_
      obtain ⟨K, hK⟩ : ∃ Z : Nat → Int → Int, Z = (up2 I 181 6 (th2 (decide (0 ≤ m ∧ m < (gA S) 0 5)) false)) := ⟨_, rfl⟩
      refine x_mem (J := K) (pc := 29) hK ?_
      have tK := TH.of hK
      have hRK := tK.rv h.1
      refine x_cVes (pc := 29) c282_395 (rt_tried hl hq (b := false)) (xo181 (by omega)) rfl rfl (Nat.le_of_ble_eq_true rfl) (by decide +kernel) (by decide +kernel) d282_29 (fun K2 hK2 => ?_)
      refine x_ifB_eq (pc := 32) (tgt := 47) d282_32 (by decide) (fun _ => ?_) (fun z => absurd z (by decide))
      refine x_iconst (pc := 47) d282_47 ?_
      refine x_iret (pc := 48) rfl (fun _ => rfl) d282_48 ?_
      unfold oCancel
      rw [if_pos b0, if_neg (by rw [stD_in b0]; exact g18)]; exact rq_fail (by decide) h (tK.ch (by rw [decide_eq_true b0]; rfl)) hK2
    · refine x_iconst (pc := 21) d282_21 ?_
      refine x_goto (pc := 22) (tgt := 26) d282_22 (by decide) ?_
      refine x_cVs (pc := 26) c282_360 (rt_p2T hl hq (a := (decide (0 ≤ m ∧ m < (gA S) 0 5)))) (xo181 (by omega)) rfl rfl (Nat.le_of_ble_eq_true rfl) (by decide +kernel) (by decide +kernel) rfl d282_26 ?_
      obtain ⟨K, hK⟩ : ∃ Z : Nat → Int → Int, Z = (up2 I 181 6 (th2 (decide (0 ≤ m ∧ m < (gA S) 0 5)) true)) := ⟨_, rfl⟩
      refine x_mem (J := K) (pc := 29) hK ?_
      have tK := TH.of hK
      have hRK := tK.rv h.1
      refine x_cVes (pc := 29) c282_395 (rt_tried hl hq (b := (decide (0 ≤ m ∧ m < (gA S) 0 5)))) (xo181 (by omega)) rfl rfl (Nat.le_of_ble_eq_true rfl) (by decide +kernel) (by decide +kernel) d282_29 (fun K2 hK2 => ?_)
      refine x_ifB_eq (pc := 32) (tgt := 47) d282_32 (by decide) (fun g32 => ?_) (fun g32 => ?_)
      · refine x_iconst (pc := 47) d282_47 ?_
        refine x_iret (pc := 48) rfl (fun _ => rfl) d282_48 ?_
        exact absurd (g10.symm.trans g32) (by decide)
      · have hRK2 : RV (K2 182) (gA S) := by rw [hK2.1 182 (by decide)]; exact hRK
        refine x_aload_n (pc := 35) rfl d282_35 ?_
        refine x_aload_n (pc := 36) rfl d282_36 ?_
        refine x_iload_n (pc := 37) rfl d282_37 ?_
        refine x_cVes (pc := 38) c282_319 (rt_caT hl hq (A := gA S) hRK2 hA (mo := m) (by omega) (by omega) g18) (xo181 (by omega)) rfl rfl (Nat.le_of_ble_eq_true rfl) (by decide +kernel) (by decide +kernel) d282_38 (fun J1 hJ1 => ?_)
        have pp := op_pre h hS tK hK2 g32 hJ1.lt
        refine x_cVes (pc := 41) c282_398 (rt_done hl hq (S := S) (z := (gvA (gA S) m).1) pp.1 pp.2.1 pp.2.2 hS) (xo181 (by omega)) rfl rfl (Nat.le_of_ble_eq_true rfl) (by decide +kernel) (by decide +kernel) d282_41 (fun J2 hJ2 => ?_)
        refine x_goto (pc := 44) (tgt := 48) d282_44 (by decide) ?_
        refine x_iret (pc := 48) rfl (fun _ => rfl) d282_48 ?_
        unfold oCancel
        rw [if_pos b0, if_pos (by rw [stD_in b0]; exact g18)]
        exact op_rel h (tK.ch (by rw [decide_eq_true b0]; rfl)) hK2 hJ1.lt hJ2
theorem rm283 (hl : l.1.stackTraces = false) (hq : 192 ≤ q) (h : RREL I S) (hS : GOK S) {m : Int} (hm : InR m) : CT l 283 [.ref 181, .int (iI m)] (mm q I v fr) 0 0 (RQ q v fr I (oResend S m)) := by
  have hA : AINV (gA S) cB := hS.1
  have hr := hA.rg
  have hcB : cB = 2450880 := rfl
  obtain ⟨hm0, hm1⟩ := id hm
  have hs3 : stA (gA S) m = 0 ∨ stA (gA S) m = 1 ∨ stA (gA S) m = 2 := by unfold stA; split; exact Or.inl rfl; split; exact Or.inr (Or.inr rfl); exact Or.inr (Or.inl rfl)
  have stD_in : 0 ≤ m ∧ m < gA S 0 5 → stD (gA S) m = stA (gA S) m := fun b => if_pos b
  refine mkct2 hl (by decide) (Nat.le_of_ble_eq_true rfl) (L := [some (.ref 181), some (.int (iI m)), none]) rfl ?_
  refine x_aload_n (pc := 0) rfl d283_0 ?_
  refine x_iload_n (pc := 1) rfl d283_1 ?_
  refine x_cVs (pc := 2) c283_183 (rt_isMes hl hq (A := (gA S)) h.1 hA (d := m) ⟨by omega, by omega⟩) (xo181 (by omega)) rfl rfl (Nat.le_of_ble_eq_true rfl) (by decide +kernel) (by decide +kernel) rfl d283_2 ?_
  refine x_istore_n (pc := 5) (by decide +kernel) rfl d283_5 ?_
  dsimp only [List.set]
  refine x_aload_n (pc := 6) rfl d283_6 ?_
  refine x_aload_n (pc := 7) rfl d283_7 ?_
  refine x_iload_n (pc := 8) rfl d283_8 ?_
  refine x_iload_n (pc := 9) rfl d283_9 ?_
  refine x_ifB_eq (pc := 10) (tgt := 25) d283_10 (by decide) (fun g10 => ?_) (fun g10 => ?_)
  · refine x_iconst (pc := 25) d283_25 ?_
    refine x_cVs (pc := 26) c283_360 (rt_p2F hl hq (a := (decide (0 ≤ m ∧ m < (gA S) 0 5)))) (xo181 (by omega)) rfl rfl (Nat.le_of_ble_eq_true rfl) (by decide +kernel) (by decide +kernel) rfl d283_26 ?_
    obtain ⟨K, hK⟩ : ∃ Z : Nat → Int → Int, Z = (up2 I 181 6 (th2 (decide (0 ≤ m ∧ m < (gA S) 0 5)) false)) := ⟨_, rfl⟩
    refine x_mem (J := K) (pc := 29) hK ?_
    have tK := TH.of hK
    have hRK := tK.rv h.1
    refine x_cVes (pc := 29) c283_395 (rt_tried hl hq (b := false)) (xo181 (by omega)) rfl rfl (Nat.le_of_ble_eq_true rfl) (by decide +kernel) (by decide +kernel) d283_29 (fun K2 hK2 => ?_)
    refine x_ifB_eq (pc := 32) (tgt := 47) d283_32 (by decide) (fun _ => ?_) (fun z => absurd z (by decide))
    refine x_iconst (pc := 47) d283_47 ?_
    refine x_iret (pc := 48) rfl (fun _ => rfl) d283_48 ?_
    have ca := of_decide_eq_false g10
    unfold oResend
    rw [if_neg ca]; exact rq_fail (by decide) h (tK.ch (by rw [decide_eq_false ca]; rfl)) hK2
  · have b0 := of_decide_eq_true g10
    refine x_aload_n (pc := 13) rfl d283_13 ?_
    refine x_iload_n (pc := 14) rfl d283_14 ?_
    refine x_cVs (pc := 15) c283_189 (rt_may hl hq (A := (gA S)) h.1 hA (m := m) (by omega) (by omega)) (xo181 (by omega)) rfl rfl (Nat.le_of_ble_eq_true rfl) (by decide +kernel) (by decide +kernel) rfl d283_15 ?_
    refine x_ifB_eq (pc := 18) (tgt := 25) d283_18 (by decide) (fun g18 => ?_) (fun g18 => ?_)
    · refine x_iconst (pc := 25) d283_25 ?_
      refine x_cVs (pc := 26) c283_360 (rt_p2F hl hq (a := (decide (0 ≤ m ∧ m < (gA S) 0 5)))) (xo181 (by omega)) rfl rfl (Nat.le_of_ble_eq_true rfl) (by decide +kernel) (by decide +kernel) rfl d283_26 ?_
      obtain ⟨K, hK⟩ : ∃ Z : Nat → Int → Int, Z = (up2 I 181 6 (th2 (decide (0 ≤ m ∧ m < (gA S) 0 5)) false)) := ⟨_, rfl⟩
      refine x_mem (J := K) (pc := 29) hK ?_
      have tK := TH.of hK
      have hRK := tK.rv h.1
      refine x_cVes (pc := 29) c283_395 (rt_tried hl hq (b := false)) (xo181 (by omega)) rfl rfl (Nat.le_of_ble_eq_true rfl) (by decide +kernel) (by decide +kernel) d283_29 (fun K2 hK2 => ?_)
      refine x_ifB_eq (pc := 32) (tgt := 47) d283_32 (by decide) (fun _ => ?_) (fun z => absurd z (by decide))
      refine x_iconst (pc := 47) d283_47 ?_
      refine x_iret (pc := 48) rfl (fun _ => rfl) d283_48 ?_
      unfold oResend
      rw [if_pos b0, if_neg (by rw [stD_in b0]; exact of_decide_eq_false g18)]; exact rq_fail (by decide) h (tK.ch (by rw [decide_eq_true b0]; rfl)) hK2
    · refine x_iconst (pc := 21) d283_21 ?_
      refine x_goto (pc := 22) (tgt := 26) d283_22 (by decide) ?_
      refine x_cVs (pc := 26) c283_360 (rt_p2T hl hq (a := (decide (0 ≤ m ∧ m < (gA S) 0 5)))) (xo181 (by omega)) rfl rfl (Nat.le_of_ble_eq_true rfl) (by decide +kernel) (by decide +kernel) rfl d283_26 ?_
      obtain ⟨K, hK⟩ : ∃ Z : Nat → Int → Int, Z = (up2 I 181 6 (th2 (decide (0 ≤ m ∧ m < (gA S) 0 5)) true)) := ⟨_, rfl⟩
      refine x_mem (J := K) (pc := 29) hK ?_
      have tK := TH.of hK
      have hRK := tK.rv h.1
      refine x_cVes (pc := 29) c283_395 (rt_tried hl hq (b := (decide (0 ≤ m ∧ m < (gA S) 0 5)))) (xo181 (by omega)) rfl rfl (Nat.le_of_ble_eq_true rfl) (by decide +kernel) (by decide +kernel) d283_29 (fun K2 hK2 => ?_)
      refine x_ifB_eq (pc := 32) (tgt := 47) d283_32 (by decide) (fun g32 => ?_) (fun g32 => ?_)
      · refine x_iconst (pc := 47) d283_47 ?_
        refine x_iret (pc := 48) rfl (fun _ => rfl) d283_48 ?_
        exact absurd (g10.symm.trans g32) (by decide)
      · have hRK2 : RV (K2 182) (gA S) := by rw [hK2.1 182 (by decide)]; exact hRK
        refine x_aload_n (pc := 35) rfl d283_35 ?_
        refine x_aload_n (pc := 36) rfl d283_36 ?_
        refine x_iload_n (pc := 37) rfl d283_37 ?_
        refine x_cVes (pc := 38) c283_322 (rt_reT hl hq (A := gA S) hRK2 hA (mo := m) (by omega) (by omega) (of_decide_eq_true g18).1 (of_decide_eq_true g18).2) (xo181 (by omega)) rfl rfl (Nat.le_of_ble_eq_true rfl) (by decide +kernel) (by decide +kernel) d283_38 (fun J1 hJ1 => ?_)
        have pp := op_pre h hS tK hK2 g32 hJ1
        refine x_cVes (pc := 41) c283_398 (rt_done hl hq (S := S) (z := (gA S 0 5)) pp.1 pp.2.1 pp.2.2 hS) (xo181 (by omega)) rfl rfl (Nat.le_of_ble_eq_true rfl) (by decide +kernel) (by decide +kernel) d283_41 (fun J2 hJ2 => ?_)
        refine x_goto (pc := 44) (tgt := 48) d283_44 (by decide) ?_
        refine x_iret (pc := 48) rfl (fun _ => rfl) d283_48 ?_
        unfold oResend
        rw [if_pos b0, if_pos (by rw [stD_in b0]; exact of_decide_eq_true g18)]
        exact op_rel h (tK.ch (by rw [decide_eq_true b0]; rfl)) hK2 hJ1 hJ2
theorem rm285 (hl : l.1.stackTraces = false) (hq : 192 ≤ q) (h : RREL I S) (hS : GOK S) {z : Int} (hz : InR z) : CT l 285 [.ref 181, .int (iI z)] (mm q I v fr) 0 0 (RQ q v fr I (oDrift S z)) := by
  have hA : AINV (gA S) cB := hS.1
  have hr := hA.rg
  have hcB : cB = 2450880 := rfl
  obtain ⟨hz0, hz1⟩ := id hz
  refine mkct2 hl (by decide) (Nat.le_of_ble_eq_true rfl) (L := [some (.ref 181), some (.int (iI z))]) rfl ?_
  refine x_aload_n (pc := 0) rfl d285_0 ?_
  refine x_aload_n (pc := 1) rfl d285_1 ?_
  refine x_iload_n (pc := 2) rfl d285_2 ?_
  refine x_i2l (pc := 3) ⟨by omega, by omega⟩ d285_3 ?_
  refine x_ldc2 (pc := 4) (z := (-99)) k285_407 (by decide) d285_4 ?_
  refine x_ldc2 (pc := 7) (z := 99) k285_358 (by decide) d285_7 ?_
  refine x_cSs (pc := 10) c285_72 (rt_in hl (a := z) (b := (-99)) (c := 99) ⟨by omega, by omega⟩ ⟨by omega, by omega⟩ ⟨by omega, by omega⟩) rfl rfl (Nat.le_of_ble_eq_true rfl) (by decide +kernel) (by decide +kernel) (by decide +kernel) rfl d285_10 ?_
  refine x_cVs (pc := 13) c285_198 (rt_passes hl hq (b := (decide ((-99) ≤ z ∧ z ≤ 99)))) (xo181 (by omega)) rfl rfl (Nat.le_of_ble_eq_true rfl) (by decide +kernel) (by decide +kernel) rfl d285_13 ?_
  obtain ⟨K, hK⟩ : ∃ Z : Nat → Int → Int, Z = (up2 I 181 6 (b01 (!(decide ((-99) ≤ z ∧ z ≤ 99))))) := ⟨_, rfl⟩
  refine x_mem (J := K) (pc := 16) hK ?_
  have tK := TH.of hK
  have hRK := tK.rv h.1
  refine x_cVes (pc := 16) c285_395 (rt_tried hl hq (b := (decide ((-99) ≤ z ∧ z ≤ 99)))) (xo181 (by omega)) rfl rfl (Nat.le_of_ble_eq_true rfl) (by decide +kernel) (by decide +kernel) d285_16 (fun K2 hK2 => ?_)
  refine x_ifB_eq (pc := 19) (tgt := 34) d285_19 (by decide) (fun g19 => ?_) (fun g19 => ?_)
  · refine x_iconst (pc := 34) d285_34 ?_
    refine x_iret (pc := 35) rfl (fun _ => rfl) d285_35 ?_
    have ca := of_decide_eq_false g19
    unfold oDrift
    rw [if_neg ca]; exact rq_fail (by decide) h (tK.ch (by rw [decide_eq_false ca]; rfl)) hK2
  · have hRK2 : RV (K2 182) (gA S) := by rw [hK2.1 182 (by decide)]; exact hRK
    refine x_aload_n (pc := 22) rfl d285_22 ?_
    refine x_aload_n (pc := 23) rfl d285_23 ?_
    refine x_iload_n (pc := 24) rfl d285_24 ?_
    refine x_cVes (pc := 25) c285_328 (rt_drT hl hq (A := gA S) hRK2 hA (t := z)) (xo181 (by omega)) rfl rfl (Nat.le_of_ble_eq_true rfl) (by decide +kernel) (by decide +kernel) d285_25 (fun J1 hJ1 => ?_)
    have pp := op_pre h hS tK hK2 g19 hJ1.lt
    refine x_cVes (pc := 28) c285_398 (rt_done hl hq (S := S) (z := (gA S 0 1)) pp.1 pp.2.1 pp.2.2 hS) (xo181 (by omega)) rfl rfl (Nat.le_of_ble_eq_true rfl) (by decide +kernel) (by decide +kernel) d285_28 (fun J2 hJ2 => ?_)
    refine x_goto (pc := 31) (tgt := 35) d285_31 (by decide) ?_
    refine x_iret (pc := 35) rfl (fun _ => rfl) d285_35 ?_
    have ca := of_decide_eq_true g19
    unfold oDrift
    rw [if_pos ca]
    exact op_rel h (tK.ch (by rw [decide_eq_true ca]; rfl)) hK2 hJ1.lt hJ2
theorem rm287 (hl : l.1.stackTraces = false) (hq : 192 ≤ q) (h : RREL I S) (hS : GOK S) {d : Int} (hd : InR d) : CT l 287 [.ref 181, .int (iI d)] (mm q I v fr) 0 0 (RQ q v fr I (oRemove S d)) := by
  have hA : AINV (gA S) cB := hS.1
  have hr := hA.rg
  have hcB : cB = 2450880 := rfl
  obtain ⟨hd0, hd1⟩ := id hd
  refine mkct2 hl (by decide) (Nat.le_of_ble_eq_true rfl) (L := [some (.ref 181), some (.int (iI d))]) rfl ?_
  refine x_aload_n (pc := 0) rfl d287_0 ?_
  refine x_aload_n (pc := 1) rfl d287_1 ?_
  refine x_aload_n (pc := 2) rfl d287_2 ?_
  refine x_iload_n (pc := 3) rfl d287_3 ?_
  refine x_cVs (pc := 4) c287_195 (rt_isDog hl hq (A := (gA S)) h.1 hA (d := d) ⟨by omega, by omega⟩) (xo181 (by omega)) rfl rfl (Nat.le_of_ble_eq_true rfl) (by decide +kernel) (by decide +kernel) rfl d287_4 ?_
  refine x_cVs (pc := 7) c287_198 (rt_passes hl hq (b := (decide (0 ≤ d ∧ d < (gA S) 0 4)))) (xo181 (by omega)) rfl rfl (Nat.le_of_ble_eq_true rfl) (by decide +kernel) (by decide +kernel) rfl d287_7 ?_
  obtain ⟨K, hK⟩ : ∃ Z : Nat → Int → Int, Z = (up2 I 181 6 (b01 (!(decide (0 ≤ d ∧ d < (gA S) 0 4))))) := ⟨_, rfl⟩
  refine x_mem (J := K) (pc := 10) hK ?_
  have tK := TH.of hK
  have hRK := tK.rv h.1
  refine x_cVes (pc := 10) c287_395 (rt_tried hl hq (b := (decide (0 ≤ d ∧ d < (gA S) 0 4)))) (xo181 (by omega)) rfl rfl (Nat.le_of_ble_eq_true rfl) (by decide +kernel) (by decide +kernel) d287_10 (fun K2 hK2 => ?_)
  refine x_ifB_eq (pc := 13) (tgt := 28) d287_13 (by decide) (fun g13 => ?_) (fun g13 => ?_)
  · refine x_iconst (pc := 28) d287_28 ?_
    refine x_iret (pc := 29) rfl (fun _ => rfl) d287_29 ?_
    have ca := of_decide_eq_false g13
    unfold oRemove
    rw [if_neg ca]; exact rq_fail (by decide) h (tK.ch (by rw [decide_eq_false ca]; rfl)) hK2
  · have hRK2 : RV (K2 182) (gA S) := by rw [hK2.1 182 (by decide)]; exact hRK
    refine x_aload_n (pc := 16) rfl d287_16 ?_
    refine x_aload_n (pc := 17) rfl d287_17 ?_
    refine x_iload_n (pc := 18) rfl d287_18 ?_
    refine x_cVes (pc := 19) c287_331 (rt_chT hl hq (A := gA S) hRK2 hA (d := d) (of_decide_eq_true g13).1 (of_decide_eq_true g13).2) (xo181 (by omega)) rfl rfl (Nat.le_of_ble_eq_true rfl) (by decide +kernel) (by decide +kernel) d287_19 (fun J1 hJ1 => ?_)
    have pp := op_pre h hS tK hK2 g13 hJ1.lt
    refine x_cVes (pc := 22) c287_398 (rt_done hl hq (S := S) (z := (gA S 0 4 - 1)) pp.1 pp.2.1 pp.2.2 hS) (xo181 (by omega)) rfl rfl (Nat.le_of_ble_eq_true rfl) (by decide +kernel) (by decide +kernel) d287_22 (fun J2 hJ2 => ?_)
    refine x_goto (pc := 25) (tgt := 29) d287_25 (by decide) ?_
    refine x_iret (pc := 29) rfl (fun _ => rfl) d287_29 ?_
    have ca := of_decide_eq_true g13
    unfold oRemove
    rw [if_pos ca]
    exact op_rel h (tK.ch (by rw [decide_eq_true ca]; rfl)) hK2 hJ1.lt hJ2
theorem rm286 (hl : l.1.stackTraces = false) (hq : 192 ≤ q) (h : RREL I S) (hS : GOK S) {a : Int} (ha : InR a) {b : Int} (hb : InR b) {c : Int} (hc : InR c) : CT l 286 [.ref 181, .int (iI a), .int (iI b), .int (iI c)] (mm q I v fr) 0 0 (RQ q v fr I (oDog S a b c)) := by
  have hA : AINV (gA S) cB := hS.1
  have hr := hA.rg
  have hcB : cB = 2450880 := rfl
  obtain ⟨ha0, ha1⟩ := id ha
  obtain ⟨hb0, hb1⟩ := id hb
  obtain ⟨hc0, hc1⟩ := id hc
  refine mkct2 hl (by decide) (Nat.le_of_ble_eq_true rfl) (L := [some (.ref 181), some (.int (iI a)), some (.int (iI b)), some (.int (iI c)), none]) rfl ?_
  refine x_iload_n (pc := 0) rfl d286_0 ?_
  refine x_i2l (pc := 1) ⟨by omega, by omega⟩ d286_1 ?_
  refine x_ldc2 (pc := 2) (z := 2) k286_409 (by decide) d286_2 ?_
  refine x_ldc2 (pc := 5) (z := 999) k286_403 (by decide) d286_5 ?_
  refine x_cSs (pc := 8) c286_72 (rt_in hl (a := a) (b := 2) (c := 999) ⟨by omega, by omega⟩ ⟨by omega, by omega⟩ ⟨by omega, by omega⟩) rfl rfl (Nat.le_of_ble_eq_true rfl) (by decide +kernel) (by decide +kernel) (by decide +kernel) rfl d286_8 ?_
  refine x_ifB_eq (pc := 11) (tgt := 43) d286_11 (by decide) (fun g11 => ?_) (fun g11 => ?_)
  · refine x_iconst (pc := 43) d286_43 ?_
    refine x_istore (pc := 44) (by decide +kernel) rfl d286_44 ?_
    dsimp only [List.set]
    refine x_aload_n (pc := 46) rfl d286_46 ?_
    refine x_aload_n (pc := 47) rfl d286_47 ?_
    refine x_iload (pc := 48) rfl d286_48 ?_
    refine x_aload_n (pc := 50) rfl d286_50 ?_
    refine m_getR (pc := 51) f286_9 (by decide +kernel) (xo181 (by omega)) rr181_0 d286_51 ?_
    refine x_iconst (pc := 54) d286_54 ?_
    refine m_ialdW (pc := 55) (w := ((gA S) 0 4)) (xa182 (by omega)) (by omega) (by omega) (by omega) (by rw [h.1.sc (i := 4) (by decide) (by decide)]) d286_55 ?_
    refine x_iconst (pc := 56) d286_56 ?_
    refine x_icmp_ge (pc := 57) (tgt := 64) ⟨by omega, by omega⟩ ⟨by omega, by omega⟩ d286_57 (by decide) (fun g57 => ?_) (fun g57 => ?_)
    · refine x_iconst (pc := 64) d286_64 ?_
      refine x_cVs (pc := 65) c286_360 (rt_p2F hl hq (a := false)) (xo181 (by omega)) rfl rfl (Nat.le_of_ble_eq_true rfl) (by decide +kernel) (by decide +kernel) rfl d286_65 ?_
      obtain ⟨K, hK⟩ : ∃ Z : Nat → Int → Int, Z = (up2 I 181 6 (th2 false false)) := ⟨_, rfl⟩
      refine x_mem (J := K) (pc := 68) hK ?_
      have tK := TH.of hK
      have hRK := tK.rv h.1
      refine x_cVes (pc := 68) c286_395 (rt_tried hl hq (b := false)) (xo181 (by omega)) rfl rfl (Nat.le_of_ble_eq_true rfl) (by decide +kernel) (by decide +kernel) d286_68 (fun K2 hK2 => ?_)
      refine x_ifB_eq (pc := 71) (tgt := 88) d286_71 (by decide) (fun _ => ?_) (fun z => absurd z (by decide))
      refine x_iconst (pc := 88) d286_88 ?_
      refine x_iret (pc := 89) rfl (fun _ => rfl) d286_89 ?_
      have cb := of_decide_eq_false g11
      unfold oDog
      rw [if_neg (by omega)]; exact rq_fail (by decide) h (tK.ch rfl) hK2
    · refine x_iconst (pc := 60) d286_60 ?_
      refine x_goto (pc := 61) (tgt := 65) d286_61 (by decide) ?_
      refine x_cVs (pc := 65) c286_360 (rt_p2T hl hq (a := false)) (xo181 (by omega)) rfl rfl (Nat.le_of_ble_eq_true rfl) (by decide +kernel) (by decide +kernel) rfl d286_65 ?_
      obtain ⟨K, hK⟩ : ∃ Z : Nat → Int → Int, Z = (up2 I 181 6 (th2 false true)) := ⟨_, rfl⟩
      refine x_mem (J := K) (pc := 68) hK ?_
      have tK := TH.of hK
      have hRK := tK.rv h.1
      refine x_cVes (pc := 68) c286_395 (rt_tried hl hq (b := false)) (xo181 (by omega)) rfl rfl (Nat.le_of_ble_eq_true rfl) (by decide +kernel) (by decide +kernel) d286_68 (fun K2 hK2 => ?_)
      refine x_ifB_eq (pc := 71) (tgt := 88) d286_71 (by decide) (fun _ => ?_) (fun z => absurd z (by decide))
      refine x_iconst (pc := 88) d286_88 ?_
      refine x_iret (pc := 89) rfl (fun _ => rfl) d286_89 ?_
      have cb := of_decide_eq_false g11
      unfold oDog
      rw [if_neg (by omega)]; exact rq_fail (by decide) h (tK.ch rfl) hK2
  · have ca := of_decide_eq_true g11
    refine x_iload_n (pc := 14) rfl d286_14 ?_
    refine x_i2l (pc := 15) ⟨by omega, by omega⟩ d286_15 ?_
    refine x_lconst (pc := 16) (z := 1) (by decide) d286_16 ?_
    refine x_iload_n (pc := 17) rfl d286_17 ?_
    refine x_iconst (pc := 18) d286_18 ?_
    refine x_isub (pc := 19) d286_19 ?_
    refine x_i2l (pc := 20) ⟨by omega, by omega⟩ d286_20 ?_
    refine x_cSs (pc := 21) c286_72 (rt_in hl (a := b) (b := 1) (c := (a - 1)) ⟨by omega, by omega⟩ ⟨by omega, by omega⟩ ⟨by omega, by omega⟩) rfl rfl (Nat.le_of_ble_eq_true rfl) (by decide +kernel) (by decide +kernel) (by decide +kernel) rfl d286_21 ?_
    refine x_ifB_eq (pc := 24) (tgt := 43) d286_24 (by decide) (fun g24 => ?_) (fun g24 => ?_)
    · refine x_iconst (pc := 43) d286_43 ?_
      refine x_istore (pc := 44) (by decide +kernel) rfl d286_44 ?_
      dsimp only [List.set]
      refine x_aload_n (pc := 46) rfl d286_46 ?_
      refine x_aload_n (pc := 47) rfl d286_47 ?_
      refine x_iload (pc := 48) rfl d286_48 ?_
      refine x_aload_n (pc := 50) rfl d286_50 ?_
      refine m_getR (pc := 51) f286_9 (by decide +kernel) (xo181 (by omega)) rr181_0 d286_51 ?_
      refine x_iconst (pc := 54) d286_54 ?_
      refine m_ialdW (pc := 55) (w := ((gA S) 0 4)) (xa182 (by omega)) (by omega) (by omega) (by omega) (by rw [h.1.sc (i := 4) (by decide) (by decide)]) d286_55 ?_
      refine x_iconst (pc := 56) d286_56 ?_
      refine x_icmp_ge (pc := 57) (tgt := 64) ⟨by omega, by omega⟩ ⟨by omega, by omega⟩ d286_57 (by decide) (fun g57 => ?_) (fun g57 => ?_)
      · refine x_iconst (pc := 64) d286_64 ?_
        refine x_cVs (pc := 65) c286_360 (rt_p2F hl hq (a := false)) (xo181 (by omega)) rfl rfl (Nat.le_of_ble_eq_true rfl) (by decide +kernel) (by decide +kernel) rfl d286_65 ?_
        obtain ⟨K, hK⟩ : ∃ Z : Nat → Int → Int, Z = (up2 I 181 6 (th2 false false)) := ⟨_, rfl⟩
        refine x_mem (J := K) (pc := 68) hK ?_
        have tK := TH.of hK
        have hRK := tK.rv h.1
        refine x_cVes (pc := 68) c286_395 (rt_tried hl hq (b := false)) (xo181 (by omega)) rfl rfl (Nat.le_of_ble_eq_true rfl) (by decide +kernel) (by decide +kernel) d286_68 (fun K2 hK2 => ?_)
        refine x_ifB_eq (pc := 71) (tgt := 88) d286_71 (by decide) (fun _ => ?_) (fun z => absurd z (by decide))
        refine x_iconst (pc := 88) d286_88 ?_
        refine x_iret (pc := 89) rfl (fun _ => rfl) d286_89 ?_
        have cb := of_decide_eq_false g24
        unfold oDog
        rw [if_neg (by omega)]; exact rq_fail (by decide) h (tK.ch rfl) hK2
      · refine x_iconst (pc := 60) d286_60 ?_
        refine x_goto (pc := 61) (tgt := 65) d286_61 (by decide) ?_
        refine x_cVs (pc := 65) c286_360 (rt_p2T hl hq (a := false)) (xo181 (by omega)) rfl rfl (Nat.le_of_ble_eq_true rfl) (by decide +kernel) (by decide +kernel) rfl d286_65 ?_
        obtain ⟨K, hK⟩ : ∃ Z : Nat → Int → Int, Z = (up2 I 181 6 (th2 false true)) := ⟨_, rfl⟩
        refine x_mem (J := K) (pc := 68) hK ?_
        have tK := TH.of hK
        have hRK := tK.rv h.1
        refine x_cVes (pc := 68) c286_395 (rt_tried hl hq (b := false)) (xo181 (by omega)) rfl rfl (Nat.le_of_ble_eq_true rfl) (by decide +kernel) (by decide +kernel) d286_68 (fun K2 hK2 => ?_)
        refine x_ifB_eq (pc := 71) (tgt := 88) d286_71 (by decide) (fun _ => ?_) (fun z => absurd z (by decide))
        refine x_iconst (pc := 88) d286_88 ?_
        refine x_iret (pc := 89) rfl (fun _ => rfl) d286_89 ?_
        have cb := of_decide_eq_false g24
        unfold oDog
        rw [if_neg (by omega)]; exact rq_fail (by decide) h (tK.ch rfl) hK2
    · have cb := of_decide_eq_true g24
      refine x_iload_n (pc := 27) rfl d286_27 ?_
      refine x_i2l (pc := 28) ⟨by omega, by omega⟩ d286_28 ?_
      refine x_lconst (pc := 29) (z := 0) (by decide) d286_29 ?_
      refine x_ldc2 (pc := 30) (z := 999) k286_403 (by decide) d286_30 ?_
      refine x_cSs (pc := 33) c286_72 (rt_in hl (a := c) (b := 0) (c := 999) ⟨by omega, by omega⟩ ⟨by omega, by omega⟩ ⟨by omega, by omega⟩) rfl rfl (Nat.le_of_ble_eq_true rfl) (by decide +kernel) (by decide +kernel) (by decide +kernel) rfl d286_33 ?_
      refine x_ifB_eq (pc := 36) (tgt := 43) d286_36 (by decide) (fun g36 => ?_) (fun g36 => ?_)
      · refine x_iconst (pc := 43) d286_43 ?_
        refine x_istore (pc := 44) (by decide +kernel) rfl d286_44 ?_
        dsimp only [List.set]
        refine x_aload_n (pc := 46) rfl d286_46 ?_
        refine x_aload_n (pc := 47) rfl d286_47 ?_
        refine x_iload (pc := 48) rfl d286_48 ?_
        refine x_aload_n (pc := 50) rfl d286_50 ?_
        refine m_getR (pc := 51) f286_9 (by decide +kernel) (xo181 (by omega)) rr181_0 d286_51 ?_
        refine x_iconst (pc := 54) d286_54 ?_
        refine m_ialdW (pc := 55) (w := ((gA S) 0 4)) (xa182 (by omega)) (by omega) (by omega) (by omega) (by rw [h.1.sc (i := 4) (by decide) (by decide)]) d286_55 ?_
        refine x_iconst (pc := 56) d286_56 ?_
        refine x_icmp_ge (pc := 57) (tgt := 64) ⟨by omega, by omega⟩ ⟨by omega, by omega⟩ d286_57 (by decide) (fun g57 => ?_) (fun g57 => ?_)
        · refine x_iconst (pc := 64) d286_64 ?_
          refine x_cVs (pc := 65) c286_360 (rt_p2F hl hq (a := false)) (xo181 (by omega)) rfl rfl (Nat.le_of_ble_eq_true rfl) (by decide +kernel) (by decide +kernel) rfl d286_65 ?_
          obtain ⟨K, hK⟩ : ∃ Z : Nat → Int → Int, Z = (up2 I 181 6 (th2 false false)) := ⟨_, rfl⟩
          refine x_mem (J := K) (pc := 68) hK ?_
          have tK := TH.of hK
          have hRK := tK.rv h.1
          refine x_cVes (pc := 68) c286_395 (rt_tried hl hq (b := false)) (xo181 (by omega)) rfl rfl (Nat.le_of_ble_eq_true rfl) (by decide +kernel) (by decide +kernel) d286_68 (fun K2 hK2 => ?_)
          refine x_ifB_eq (pc := 71) (tgt := 88) d286_71 (by decide) (fun _ => ?_) (fun z => absurd z (by decide))
          refine x_iconst (pc := 88) d286_88 ?_
          refine x_iret (pc := 89) rfl (fun _ => rfl) d286_89 ?_
          have cb := of_decide_eq_false g36
          unfold oDog
          rw [if_neg (by omega)]; exact rq_fail (by decide) h (tK.ch rfl) hK2
        · refine x_iconst (pc := 60) d286_60 ?_
          refine x_goto (pc := 61) (tgt := 65) d286_61 (by decide) ?_
          refine x_cVs (pc := 65) c286_360 (rt_p2T hl hq (a := false)) (xo181 (by omega)) rfl rfl (Nat.le_of_ble_eq_true rfl) (by decide +kernel) (by decide +kernel) rfl d286_65 ?_
          obtain ⟨K, hK⟩ : ∃ Z : Nat → Int → Int, Z = (up2 I 181 6 (th2 false true)) := ⟨_, rfl⟩
          refine x_mem (J := K) (pc := 68) hK ?_
          have tK := TH.of hK
          have hRK := tK.rv h.1
          refine x_cVes (pc := 68) c286_395 (rt_tried hl hq (b := false)) (xo181 (by omega)) rfl rfl (Nat.le_of_ble_eq_true rfl) (by decide +kernel) (by decide +kernel) d286_68 (fun K2 hK2 => ?_)
          refine x_ifB_eq (pc := 71) (tgt := 88) d286_71 (by decide) (fun _ => ?_) (fun z => absurd z (by decide))
          refine x_iconst (pc := 88) d286_88 ?_
          refine x_iret (pc := 89) rfl (fun _ => rfl) d286_89 ?_
          have cb := of_decide_eq_false g36
          unfold oDog
          rw [if_neg (by omega)]; exact rq_fail (by decide) h (tK.ch rfl) hK2
      · have cc := of_decide_eq_true g36
        refine x_iconst (pc := 39) d286_39 ?_
        refine x_goto (pc := 40) (tgt := 44) d286_40 (by decide) ?_
        refine x_istore (pc := 44) (by decide +kernel) rfl d286_44 ?_
        dsimp only [List.set]
        refine x_aload_n (pc := 46) rfl d286_46 ?_
        refine x_aload_n (pc := 47) rfl d286_47 ?_
        refine x_iload (pc := 48) rfl d286_48 ?_
        refine x_aload_n (pc := 50) rfl d286_50 ?_
        refine m_getR (pc := 51) f286_9 (by decide +kernel) (xo181 (by omega)) rr181_0 d286_51 ?_
        refine x_iconst (pc := 54) d286_54 ?_
        refine m_ialdW (pc := 55) (w := ((gA S) 0 4)) (xa182 (by omega)) (by omega) (by omega) (by omega) (by rw [h.1.sc (i := 4) (by decide) (by decide)]) d286_55 ?_
        refine x_iconst (pc := 56) d286_56 ?_
        refine x_icmp_ge (pc := 57) (tgt := 64) ⟨by omega, by omega⟩ ⟨by omega, by omega⟩ d286_57 (by decide) (fun g57 => ?_) (fun g57 => ?_)
        · refine x_iconst (pc := 64) d286_64 ?_
          refine x_cVs (pc := 65) c286_360 (rt_p2F hl hq (a := true)) (xo181 (by omega)) rfl rfl (Nat.le_of_ble_eq_true rfl) (by decide +kernel) (by decide +kernel) rfl d286_65 ?_
          obtain ⟨K, hK⟩ : ∃ Z : Nat → Int → Int, Z = (up2 I 181 6 (th2 true false)) := ⟨_, rfl⟩
          refine x_mem (J := K) (pc := 68) hK ?_
          have tK := TH.of hK
          have hRK := tK.rv h.1
          refine x_cVes (pc := 68) c286_395 (rt_tried hl hq (b := false)) (xo181 (by omega)) rfl rfl (Nat.le_of_ble_eq_true rfl) (by decide +kernel) (by decide +kernel) d286_68 (fun K2 hK2 => ?_)
          refine x_ifB_eq (pc := 71) (tgt := 88) d286_71 (by decide) (fun _ => ?_) (fun z => absurd z (by decide))
          refine x_iconst (pc := 88) d286_88 ?_
          refine x_iret (pc := 89) rfl (fun _ => rfl) d286_89 ?_
          unfold oDog
          rw [if_pos (by omega), if_neg (by omega)]; exact rq_fail (by decide) h (tK.ch rfl) hK2
        · refine x_iconst (pc := 60) d286_60 ?_
          refine x_goto (pc := 61) (tgt := 65) d286_61 (by decide) ?_
          refine x_cVs (pc := 65) c286_360 (rt_p2T hl hq (a := true)) (xo181 (by omega)) rfl rfl (Nat.le_of_ble_eq_true rfl) (by decide +kernel) (by decide +kernel) rfl d286_65 ?_
          obtain ⟨K, hK⟩ : ∃ Z : Nat → Int → Int, Z = (up2 I 181 6 (th2 true true)) := ⟨_, rfl⟩
          refine x_mem (J := K) (pc := 68) hK ?_
          have tK := TH.of hK
          have hRK := tK.rv h.1
          refine x_cVes (pc := 68) c286_395 (rt_tried hl hq (b := true)) (xo181 (by omega)) rfl rfl (Nat.le_of_ble_eq_true rfl) (by decide +kernel) (by decide +kernel) d286_68 (fun K2 hK2 => ?_)
          refine x_ifB_eq (pc := 71) (tgt := 88) d286_71 (by decide) (fun z => absurd z (by decide)) (fun _ => ?_)
          have hRK2 : RV (K2 182) (gA S) := by rw [hK2.1 182 (by decide)]; exact hRK
          refine x_aload_n (pc := 74) rfl d286_74 ?_
          refine x_aload_n (pc := 75) rfl d286_75 ?_
          refine x_iload_n (pc := 76) rfl d286_76 ?_
          refine x_iload_n (pc := 77) rfl d286_77 ?_
          refine x_iload_n (pc := 78) rfl d286_78 ?_
          refine x_cVes (pc := 79) c286_261 (rt_dogT hl hq (A := gA S) hRK2 hA (by omega) (x := a) (y := b) (z := c)) (xo181 (by omega)) rfl rfl (Nat.le_of_ble_eq_true rfl) (by decide +kernel) (by decide +kernel) d286_79 (fun J1 hJ1 => ?_)
          have pp := op_pre h hS tK hK2 rfl hJ1.lt
          refine x_cVes (pc := 82) c286_398 (rt_done hl hq (S := S) (z := (gA S 0 4)) pp.1 pp.2.1 pp.2.2 hS) (xo181 (by omega)) rfl rfl (Nat.le_of_ble_eq_true rfl) (by decide +kernel) (by decide +kernel) d286_82 (fun J2 hJ2 => ?_)
          refine x_goto (pc := 85) (tgt := 89) d286_85 (by decide) ?_
          refine x_iret (pc := 89) rfl (fun _ => rfl) d286_89 ?_
          unfold oDog
          rw [if_pos (by omega), if_pos (by omega)]
          exact op_rel h (tK.ch rfl) hK2 hJ1.lt hJ2
end Rops
