/-! ===== the reference: load ===== -/
theorem dlP_i {T : Int → Int} {n e : Int} {A : AV} (h : e ≤ n) : dlP T n A (tS T n e) = dlP T n A e := by
  unfold dlP
  rw [(tS_i h).1, (tS_i h).2.1, (tS_i h).2.2]
theorem dlP_r {T : Int → Int} {n e c : Int} {A : AV} (hA : AINV A c) (h0 : 0 ≤ e) (h1 : e ≤ n) (hc : (dlP T n A e).1 = 0) : A 0 4 < 3 ∧ AINV (dlP T n A e).2.2.1 c ∧ (dlP T n A e).2.2.1 0 4 = A 0 4 + 1 ∧ 0 ≤ (dlP T n A e).2.2.2 ∧ (dlP T n A e).2.2.2 ≤ n := by
  have hr := tok_r (T := T) h1
  unfold dlP at hc ⊢
  by_cases s : splZ T n (tS T n e) (tK T n e) (tE T n e) 9 = false
  · rw [if_pos s] at hc; exact absurd (show (1 : Int) = 0 from hc) (by decide)
  rw [if_neg s] at hc ⊢
  by_cases d : 3 ≤ A 0 4
  · rw [if_pos d] at hc; exact absurd (show (3 : Int) = 0 from hc) (by decide)
  rw [if_neg d] at hc ⊢
  by_cases c1 : (dogP T n (tE T n e)).1 = 0
  · rw [pbind_ok c1] at hc ⊢
    have r := dogP_r (T := T) (n := n) (e := tE T n e) (by omega) (by omega) c1
    by_cases c2 : (semP T n (dogP T n (tE T n e)).2.2.2.2.2).1 = 0
    · rw [pbind_ok c2]
      have r2 := (semP_r (T := T) (n := n) (e := (dogP T n (tE T n e)).2.2.2.2.2) r.2.2.2.1 r.2.2.2.2).1 c2
      exact ⟨by omega, hA.dg1 (by omega) r.1 r.2.1 r.2.2.1, (dogA_e (a := (dogP T n (tE T n e)).2.2.1) (b := (dogP T n (tE T n e)).2.2.2.1) (c := (dogP T n (tE T n e)).2.2.2.2.1) (i := 0)).2.2.2, r2.1, r2.2⟩
    · rw [pbind_no c2] at hc; exact absurd hc c2
  · rw [pbind_no c1] at hc; exact absurd hc c1
theorem cmin (T : Int → Int) (n : Int) {α β : Type} {r : Int × Int × α} {d : β} {f : α → Int × Int × β} (h1 : 0 ≤ r.1 ∧ r.1 ≤ 3) (h2 : r.1 = 0 → 0 ≤ (f r.2.2).1 ∧ (f r.2.2).1 ≤ 3) : 0 ≤ (pbind r d f).1 ∧ (pbind r d f).1 ≤ 3 := by
  by_cases c : r.1 = 0
  · rw [pbind_ok c]; exact h2 c
  · rw [pbind_no c]; exact h1
theorem mdm_c (T : Int → Int) (n : Int) : 0 ≤ (mdmP T n).1 ∧ (mdmP T n).1 ≤ 3 := by
  unfold mdmP
  split
  · exact ⟨(by decide : (0 : Int) ≤ 1), (by decide : (1 : Int) ≤ 3)⟩
  · exact cmin T n (numP_c _ _ _ _ _) fun _ => cmin T n (numP_c _ _ _ _ _) fun _ => cmin T n (numP_c _ _ _ _ _) fun _ => cmin T n (numP_c _ _ _ _ _) fun _ => cmin T n (semP_c _ _ _) fun _ => ⟨(by decide : (0 : Int) ≤ 0), (by decide : (0 : Int) ≤ 3)⟩
theorem mdm_z {T : Int → Int} {n : Int} (hc : (mdmP T n).1 = 0) : ∀ i : Int, 4 ≤ i → i < 18 → (mdmP T n).2.2.1 0 i = 0 := by
  have key : ∀ {α : Type} (r : Int × Int × α) (f : α → Int × Int × AV × Int), (r.1 = 0 → (f r.2.2).1 = 0 → ∀ i : Int, 4 ≤ i → i < 18 → (f r.2.2).2.2.1 0 i = 0) → (pbind r (fun _ _ => 0, 0) f).1 = 0 → ∀ i : Int, 4 ≤ i → i < 18 → (pbind r (fun _ _ => 0, 0) f).2.2.1 0 i = 0 := fun r f h hc => by
    by_cases c : r.1 = 0
    · rw [pbind_ok c] at hc ⊢; exact h c hc
    · rw [pbind_no c] at hc; exact absurd hc c
  unfold mdmP at hc ⊢
  split at hc
  · exact absurd (show (1 : Int) = 0 from hc) (by decide)
  · rename_i s
    rw [if_neg s]
    refine key _ _ (fun _ hc => key _ _ (fun _ hc => key _ _ (fun _ hc => key _ _ (fun _ hc => key _ _ (fun _ _ i i0 i1 => ?_) hc) hc) hc) hc) hc
    show (if i = 0 then _ else if i = 1 then _ else if i = 2 then _ else if i = 3 then _ else (0 : Int)) = 0
    rw [if_neg (by omega), if_neg (by omega), if_neg (by omega), if_neg (by omega)]
section Rload
variable {l : LX} {q : Nat} {I : Nat → Int → Int} {v : Int} {fr : Bool} {T : Int → Int} {n : Int} {A : AV} {c : Int}
theorem lp_zero (hl : l.1.stackTraces = false) (hq : 192 ≤ q) {Q : OO → Prop} (hQ : ∀ K : Nat → Int → Int, (∀ a, a ≠ 182 → K a = I a) → (∀ i : Int, 0 ≤ i → i < 1011 → K 182 i = 0) → Ex l 215 0 0 35 [some (.ref 181), none] [] (mm q K v fr) Q) : ∀ (m k : Nat) (J : Nat → Int → Int), m + k = 1011 → (∀ a, a ≠ 182 → J a = I a) → (∀ i : Int, 0 ≤ i → i < k → J 182 i = 0) →
    Ex l 215 0 0 15 [some (.ref 181), some (.int (iI k))] [] (mm q J v fr) Q := by
  intro m
  induction m with
  | zero =>
    intro k J hk o z
    refine x_iload_n (pc := 15) rfl d215_15 ?_
    refine x_sipush (pc := 16) (by decide) d215_16 ?_
    refine x_icmp_ge (pc := 19) (tgt := 35) ⟨by omega, by omega⟩ ⟨by omega, by omega⟩ d215_19 (by decide) (fun g19 => ?_) (fun g19 => ?_)
    · refine x_mask [true, false] ?_
      dsimp only [mask]
      exact hQ J o fun i i0 i1 => z i i0 (by omega)
    · exfalso; omega
  | succ m ih =>
    intro k J hk o z
    refine x_iload_n (pc := 15) rfl d215_15 ?_
    refine x_sipush (pc := 16) (by decide) d215_16 ?_
    refine x_icmp_ge (pc := 19) (tgt := 35) ⟨by omega, by omega⟩ ⟨by omega, by omega⟩ d215_19 (by decide) (fun g19 => ?_) (fun g19 => ?_)
    · refine x_mask [true, false] ?_
      dsimp only [mask]
      exfalso; omega
    · refine x_aload_n (pc := 22) rfl d215_22 ?_
      refine m_getR (pc := 23) f215_9 (by decide +kernel) (xo181 (by omega)) rr181_0 d215_23 ?_
      refine x_iload_n (pc := 26) rfl d215_26 ?_
      refine x_iconst (pc := 27) d215_27 ?_
      refine m_iast (pc := 28) (xa182 (by omega)) (by omega) (by omega) (by omega) d215_28 ?_
      refine x_iinc (pc := 29) rfl (by decide +kernel) rfl d215_29 ?_
      dsimp only [List.set]
      refine x_goto (pc := 32) (tgt := 15) d215_32 (by decide) ?_
      refine ih (k + 1) _ (by omega) (fun a ha => by rw [up2_off' _ _ _ ha]; exact o a ha) (fun i i0 i1 => ?_)
      by_cases e : i = k
      · rw [e, up2_s]
      · rw [up2_i e]; exact z i i0 (by omega)
theorem lp_l43E (hl : l.1.stackTraces = false) (hq : 192 ≤ q) {Q : OO → Prop} (h : I 181 16 ≠ 0) (hr : 0 ≤ I 181 16 ∧ I 181 16 ≤ 3) (hQ : Ex l 215 0 0 65 [some (.ref 181), none] [] (mm q I v fr) Q) : Ex l 215 0 0 43 [some (.ref 181), none] [] (mm q I v fr) Q := by
  refine x_aload_n (pc := 43) rfl d215_43 ?_
  refine m_getI (pc := 44) (z := 16) f215_221 (by decide +kernel) rfl (xo181 (by omega)) d215_44 ?_
  refine x_if_ne (pc := 47) (tgt := 65) ⟨by omega, by omega⟩ d215_47 (by decide) (fun g47 => ?_) (fun g47 => ?_)
  · exact hQ
  · exfalso; omega
/-- what has been read of the dogs -/
def LDQ (J K : Nat → Int → Int) (r : Int × Int × AV) : Prop := PRZ J K ∧ (r.1 = 0 → K 181 16 = 0 ∧ K 181 17 = J 181 17 ∧ RV (K 182) r.2.2) ∧ (r.1 ≠ 0 → K 181 16 = r.1 ∧ K 181 17 = r.2.1)
theorem dlP_c (T : Int → Int) (n : Int) (A : AV) (e : Int) : 0 ≤ (dlP T n A e).1 ∧ (dlP T n A e).1 ≤ 3 := by
  unfold dlP
  split
  · exact ⟨(by decide : (0 : Int) ≤ 1), (by decide : (1 : Int) ≤ 3)⟩
  split
  · exact ⟨(by decide : (0 : Int) ≤ 3), (by decide : (3 : Int) ≤ 3)⟩
  by_cases c1 : (dogP T n (tE T n e)).1 = 0
  · rw [pbind_ok c1]
    by_cases c2 : (semP T n (dogP T n (tE T n e)).2.2.2.2.2).1 = 0
    · rw [pbind_ok c2]; exact ⟨(by decide : (0 : Int) ≤ 0), (by decide : (0 : Int) ≤ 3)⟩
    · rw [pbind_no c2]; exact semP_c _ _ _
  · rw [pbind_no c1]
    unfold dogP
    by_cases d1 : (numP T n 2 999 (tE T n e)).1 = 0
    · rw [pbind_ok d1]
      by_cases d2 : (numP T n 1 ((numP T n 2 999 (tE T n e)).2.2.1 - 1) (numP T n 2 999 (tE T n e)).2.2.2).1 = 0
      · rw [pbind_ok d2]
        by_cases d3 : (numP T n 0 999 (numP T n 1 ((numP T n 2 999 (tE T n e)).2.2.1 - 1) (numP T n 2 999 (tE T n e)).2.2.2).2.2.2).1 = 0
        · rw [pbind_ok d3]; exact ⟨(by decide : (0 : Int) ≤ 0), (by decide : (0 : Int) ≤ 3)⟩
        · rw [pbind_no d3]; exact numP_c _ _ _ _ _
      · rw [pbind_no d2]; exact numP_c _ _ _ _ _
    · rw [pbind_no d1]; exact numP_c _ _ _ _ _
theorem dgs_c (T : Int → Int) (n : Int) : ∀ (m : Nat) (A : AV) (e : Int), 0 ≤ (dgsP T n m A e).1 ∧ (dgsP T n m A e).1 ≤ 3
  | 0, _, _ => ⟨(by decide : (0 : Int) ≤ 3), (by decide : (3 : Int) ≤ 3)⟩
  | m + 1, A, e => by
    rw [dgsP_t]
    split
    · exact ⟨(by decide : (0 : Int) ≤ 0), (by decide : (0 : Int) ≤ 3)⟩
    · split
      · exact dgs_c T n m _ _
      · exact dlP_c T n A e
theorem lp_ld (hl : l.1.stackTraces = false) (hq : 192 ≤ q) {Q : OO → Prop} : ∀ (m : Nat) (A : AV) (e : Int) (J : Nat → Int → Int), (m : Int) + A 0 4 = 4 → J 181 16 = 0 → J 181 13 = e → 0 ≤ e → e ≤ n → RV (J 182) A → AINV A c → RTX J T n →
    (∀ K : Nat → Int → Int, LDQ J K (dgsP T n m A e) → Ex l 215 0 0 65 [some (.ref 181), none] [] (mm q K v fr) Q) →
    Ex l 215 0 0 43 [some (.ref 181), none] [] (mm q J v fr) Q := by
  intro m
  induction m with
  | zero =>
    intro A e J hm h16 h13 e0 e1 hR hA hXJ hQ
    have := hA.dg
    omega
  | succ m ih =>
    intro A e J hm h16 h13 e0 e1 hR hA hXJ hQ
    have hx := hXJ.2.2
    have hr := tok_r (T := T) e1
    have hk : tK T n e = kdZ (atT T n (tS T n e)) := rfl
    refine x_aload_n (pc := 43) rfl d215_43 ?_
    refine m_getI (pc := 44) (z := 16) f215_221 (by decide +kernel) rfl (xo181 (by omega)) d215_44 ?_
    refine x_val (pc := 47) (w := 0) (h16) ?_
    refine x_if_ne (pc := 47) (tgt := 65) ⟨by omega, by omega⟩ d215_47 (by decide) (fun z => absurd z (by decide)) (fun _ => ?_)
    refine x_aload_n (pc := 50) rfl d215_50 ?_
    refine x_cVes (pc := 51) c215_227 (rt_next hl hq hXJ (e := e) h13 (by omega) (by omega)) (xo181 (by omega)) rfl rfl (Nat.le_of_ble_eq_true rfl) (by decide +kernel) (by decide +kernel) d215_51 (fun J1 hJ1 => ?_)
    have hat1 := atT_r hx.2 (tS T n e)
    have hX1 := hXJ.pt hJ1.1
    have k16 : J1 181 16 = 0 := by rw [hJ1.2.2.2.2.1]; exact h16
    have hR1 : RV (J1 182) A := by rw [hJ1.1.1 182 (by decide)]; exact hR
    refine x_iconst (pc := 54) d215_54 ?_
    refine x_icmp_eq (pc := 55) (tgt := 65) ⟨by omega, by omega⟩ ⟨by omega, by omega⟩ d215_55 (by decide) (fun g55 => ?_) (fun g55 => ?_)
    · have k0 : tK T n e = 0 := by rw [hk]; exact kdZ_e0.mpr g55
      refine hQ J1 ?_
      rw [dgsP_t, if_pos k0]
      exact ⟨hJ1.1.rw.z, fun _ => ⟨k16, hJ1.2.2.2.2.2, hR1⟩, fun z => absurd rfl z⟩
    · refine x_aload_n (pc := 58) rfl d215_58 ?_
      refine x_cVev (pc := 59) c215_271 (rt_dogL hl hq hX1 (e := tS T n e) k16 hJ1.2.1 (by omega) (by omega) hR1 hA) (xo181 (by omega)) rfl rfl (Nat.le_of_ble_eq_true rfl) (by decide +kernel) (by decide +kernel) d215_59 (fun J2 hJ2 => ?_)
      refine x_goto (pc := 62) (tgt := 43) d215_62 (by decide) ?_
      have k0 : ¬ tK T n e = 0 := fun z => g55 (kdZ_e0.mp (by rw [← hk]; exact z))
      rw [dgsP_t, if_neg k0] at hQ
      rw [dlP_i e1] at hJ2
      obtain ⟨d0, d1, d2⟩ := hJ2
      have d2 := d2 k16
      have pz : PRZ J J2 := hJ1.1.rw.z.trans d0
      by_cases cr : (dlP T n A e).1 = 0
      · rw [if_pos cr] at hQ
        have g := d2.1 cr
        have r := dlP_r hA e0 e1 cr
        refine ih _ _ J2 (by rw [r.2.2.1]; omega) g.1 g.2.2.1 r.2.2.2.1 r.2.2.2.2 g.2.2.2 r.2.1 (hXJ.z pz) fun K hK => hQ K ⟨pz.trans hK.1, fun z => ?_, hK.2.2⟩
        have w := hK.2.1 z
        exact ⟨w.1, by rw [w.2.1, g.2.1]; exact hJ1.2.2.2.2.2, w.2.2⟩
      · rw [if_neg cr] at hQ
        have g := d2.2 cr
        have rc := dlP_c T n A e
        refine lp_l43E hl hq (by rw [g.1]; exact cr) (by rw [g.1]; exact rc) (hQ J2 ⟨pz, fun z => absurd z cr, fun _ => g⟩)
/-- load() -/
def LD (I K : Nat → Int → Int) (z : Int) (r : Int × Int × AV) : Prop := (∀ a, a ≠ 181 → a ≠ 182 → a ≠ 184 → a ≠ 188 → K a = I a) ∧ (K 181 7 = I 181 7 ∧ K 181 23 = I 181 23) ∧ K 181 12 = 0 ∧ K 181 18 = r.1 ∧ (r.1 = 0 → K 181 19 = -1 ∧ K 181 6 = 0 ∧ z = r.2.2 0 4 ∧ K 181 5 = 0 ∧ RV (K 182) r.2.2) ∧ (r.1 ≠ 0 → K 181 19 = r.2.1 ∧ K 181 6 = 1 ∧ K 181 5 = I 181 5 ∧ ∀ i : Int, 0 ≤ i → i < 1011 → K 182 i = I 182 i)
theorem lp_l65 (hl : l.1.stackTraces = false) (hq : 192 ≤ q) {J : Nat → Int → Int} {c0 p0 : Int} {r : Int × Int × AV} (h16 : J 181 16 = c0) (h17 : J 181 17 = p0) (hr : 0 ≤ c0 ∧ c0 ≤ 3) (h4 : ∀ i : Int, 0 ≤ i → i < 1011 → J 184 i = I 182 i) (o : ∀ a, a ≠ 181 → a ≠ 182 → a ≠ 184 → a ≠ 188 → J a = I a) (o7 : J 181 7 = I 181 7) (o23 : J 181 23 = I 181 23) (o5 : J 181 5 = I 181 5) (hc : r.1 = c0) (hok : c0 = 0 → p0 = -1 ∧ RV (J 182) r.2.2) (hno : c0 ≠ 0 → p0 = r.2.1) : Ex l 215 0 0 65 [some (.ref 181), none] [] (mm q J v fr) (fun o => ∃ z K, o = (.inl (some (.int (iI z))), mm q K v fr) ∧ LD I K z r) := by
  refine x_aload_n (pc := 65) rfl d215_65 ?_
  refine x_aload_n (pc := 66) rfl d215_66 ?_
  refine x_cVs (pc := 67) c215_274 (rt_ends0 hl hq (c := c0) (p := p0) h16 h17 hr) (xo181 (by omega)) rfl rfl (Nat.le_of_ble_eq_true rfl) (by decide +kernel) (by decide +kernel) rfl d215_67 ?_
  refine x_cVs (pc := 70) c215_198 (rt_passes hl hq (b := (decide (c0 = 0)))) (xo181 (by omega)) rfl rfl (Nat.le_of_ble_eq_true rfl) (by decide +kernel) (by decide +kernel) rfl d215_70 ?_
  obtain ⟨M, hM⟩ : ∃ Z : Nat → Int → Int, Z = (up2 (up2 (up2 (up2 J 181 12 0) 181 18 c0) 181 19 p0) 181 6 (b01 (!(decide (c0 = 0))))) := ⟨_, rfl⟩
  refine x_mem (J := M) (pc := 73) hM ?_
  have mo : ∀ a, a ≠ 181 → M a = J a := fun a ha => by rw [hM, up2_off' _ _ _ ha, up2_off' _ _ _ ha, up2_off' _ _ _ ha, up2_off' _ _ _ ha]
  have mj : ∀ j : Int, j ≠ 6 → j ≠ 12 → j ≠ 18 → j ≠ 19 → M 181 j = J 181 j := fun j a1 a2 a3 a4 => by rw [hM, up2_i a1, up2_i a4, up2_i a3, up2_i a2]
  have m12 : M 181 12 = 0 := by rw [hM, up2_i (by decide), up2_i (by decide), up2_i (by decide), up2_s]
  have m18 : M 181 18 = c0 := by rw [hM, up2_i (by decide), up2_i (by decide), up2_s]
  have m19 : M 181 19 = p0 := by rw [hM, up2_i (by decide), up2_s]
  have m6 : M 181 6 = b01 (!decide (c0 = 0)) := by rw [hM, up2_s]
  refine x_ifB_ne (pc := 73) (tgt := 91) d215_73 (by decide) (fun g73 => ?_) (fun g73 => ?_)
  · refine x_aload_n (pc := 91) rfl d215_91 ?_
    refine x_iconst (pc := 92) d215_92 ?_
    refine m_putI (pc := 93) (z := 5) f215_278 (by decide +kernel) (by decide +kernel) rfl (xo181 (by omega)) d215_93 ?_
    refine x_aload_n (pc := 96) rfl d215_96 ?_
    refine m_getR (pc := 97) f215_9 (by decide +kernel) (xo181 (by omega)) rr181_0 d215_97 ?_
    refine x_iconst (pc := 100) d215_100 ?_
    refine m_ialdW (pc := 101) (w := (M 182 4)) (xa182 (by omega)) (by omega) (by omega) (by omega) (by rw [up2_p (by omega)]) d215_101 ?_
    refine x_val (pc := 102) (w := (r.2.2 0 4)) (by rw [mo 182 (by decide)]; exact (hok (of_decide_eq_true g73)).2.sc (by decide) (by decide)) ?_
    refine x_iret (pc := 102) rfl (fun _ => rfl) d215_102 ?_
    have e0 : c0 = 0 := of_decide_eq_true g73
    have k := hok e0
    refine ⟨_, _, rfl, fun a a1 a2 a4 a8 => by rw [up2_off' _ _ _ a1, mo a a1]; exact o a a1 a2 a4 a8, ⟨by rw [up2_i (by decide), mj 7 (by decide) (by decide) (by decide) (by decide)]; exact o7, by rw [up2_i (by decide), mj 23 (by decide) (by decide) (by decide) (by decide)]; exact o23⟩, by rw [up2_i (by decide)]; exact m12, by rw [up2_i (by decide), m18, hc], fun _ => ⟨by rw [up2_i (by decide), m19]; exact k.1, by rw [up2_i (by decide), m6, g73]; rfl, rfl, up2_s, by rw [up2_off' _ _ _ (by decide), mo 182 (by decide)]; exact k.2⟩, fun z => absurd (hc.trans e0) z⟩
  · refine x_aload_n (pc := 76) rfl d215_76 ?_
    refine m_getR (pc := 77) f215_16 (by decide +kernel) (xo181 (by omega)) rr181_2 d215_77 ?_
    refine x_iconst (pc := 80) d215_80 ?_
    refine x_aload_n (pc := 81) rfl d215_81 ?_
    refine m_getR (pc := 82) f215_9 (by decide +kernel) (xo181 (by omega)) rr181_0 d215_82 ?_
    refine x_iconst (pc := 85) d215_85 ?_
    refine x_cSv (pc := 86) c215_68 (rt_copies (q := q) hl (m0 := 1011) (n0 := 1011) (xa184 (by omega) (I := I) (v := v) (fr := fr)) (xa182 (by omega) (I := I) (v := v) (fr := fr)) (by decide) (a := 0) (b := 0) (by omega) (by omega) (by omega) (by omega) (by decide) (by decide)) rfl rfl (Nat.le_of_ble_eq_true rfl) (by decide +kernel) (by decide +kernel) (by decide +kernel) rfl d215_86 ?_
    refine x_iconst (pc := 89) d215_89 ?_
    refine x_iret (pc := 90) rfl (fun _ => rfl) d215_90 ?_
    have e0 : c0 ≠ 0 := of_decide_eq_false g73
    have oc : ∀ a, a ≠ 182 → cp2 M 184 0 182 0 1011 a = M a := fun a ha => funext fun b => cp2_p ha
    refine ⟨_, _, rfl, fun a a1 a2 a4 a8 => by rw [oc a a2, mo a a1]; exact o a a1 a2 a4 a8, ⟨by rw [oc 181 (by decide), mj 7 (by decide) (by decide) (by decide) (by decide)]; exact o7, by rw [oc 181 (by decide), mj 23 (by decide) (by decide) (by decide) (by decide)]; exact o23⟩, by rw [oc 181 (by decide)]; exact m12, by rw [oc 181 (by decide), m18, hc], fun z => absurd (hc.symm.trans z) e0, fun _ => ⟨by rw [oc 181 (by decide), m19]; exact hno e0, by rw [oc 181 (by decide), m6, g73]; rfl, by rw [oc 181 (by decide), mj 5 (by decide) (by decide) (by decide) (by decide)]; exact o5, fun i i0 i1 => by rw [cp2_y i0 i1, mo 184 (by decide)]; exact h4 i i0 i1⟩⟩
theorem lp_l35 (hl : l.1.stackTraces = false) (hq : 192 ≤ q) {J : Nat → Int → Int} (hX : RTX I T n) (o : ∀ a, a ≠ 182 → a ≠ 184 → J a = I a) (h4 : ∀ i : Int, 0 ≤ i → i < 1011 → J 184 i = I 182 i) (hz : ∀ i : Int, 0 ≤ i → i < 1011 → J 182 i = 0) : Ex l 215 0 0 35 [some (.ref 181), none] [] (mm q J v fr) (fun o => ∃ z K, o = (.inl (some (.int (iI z))), mm q K v fr) ∧ LD I K z (confP T n)) := by
  have hx := hX.2.2
  refine x_aload_n (pc := 35) rfl d215_35 ?_
  refine x_cVv (pc := 36) c215_265 (rt_start hl hq) (xo181 (by omega)) rfl rfl (Nat.le_of_ble_eq_true rfl) (by decide +kernel) (by decide +kernel) rfl d215_36 ?_
  obtain ⟨M, hM⟩ : ∃ Z : Nat → Int → Int, Z = (up2 (up2 (up2 (up2 J 181 13 0) 181 14 0) 181 16 0) 181 17 (-1)) := ⟨_, rfl⟩
  refine x_mem (J := M) (pc := 39) hM ?_
  have mo : ∀ a, a ≠ 181 → M a = J a := fun a ha => by rw [hM, up2_off' _ _ _ ha, up2_off' _ _ _ ha, up2_off' _ _ _ ha, up2_off' _ _ _ ha]
  have mj : ∀ j : Int, j < 13 ∨ 17 < j → M 181 j = J 181 j := fun j hj => by rw [hM, up2_i (by omega), up2_i (by omega), up2_i (by omega), up2_i (by omega)]
  have m16 : M 181 16 = 0 := by rw [hM, up2_i (by decide), up2_s]
  have m17 : M 181 17 = -1 := by rw [hM, up2_s]
  have m13 : M 181 13 = 0 := by rw [hM, up2_i (by decide), up2_i (by decide), up2_i (by decide), up2_s]
  have hXM : RTX M T n := ⟨by rw [mj 12 (by decide), o 181 (by decide) (by decide)]; exact hX.1, fun i i0 i1 => by rw [mo 189 (by decide), o 189 (by decide) (by decide)]; exact hX.2.1 i i0 i1, hX.2.2⟩
  refine x_aload_n (pc := 39) rfl d215_39 ?_
  refine x_cVev (pc := 40) c215_268 (rt_modem hl hq hXM m16 m13) (xo181 (by omega)) rfl rfl (Nat.le_of_ble_eq_true rfl) (by decide +kernel) (by decide +kernel) d215_40 (fun J2 hJ2 => ?_)
  obtain ⟨d0, d1, d2⟩ := hJ2
  have fin : ∀ (K : Nat → Int → Int) (r : Int × Int × AV), PRZ J2 K → r = confP T n → 0 ≤ r.1 ∧ r.1 ≤ 3 → (r.1 = 0 → K 181 16 = 0 ∧ K 181 17 = -1 ∧ RV (K 182) r.2.2) → (r.1 ≠ 0 → K 181 16 = r.1 ∧ K 181 17 = r.2.1) → Ex l 215 0 0 65 [some (.ref 181), none] [] (mm q K v fr) (fun o => ∃ z K, o = (.inl (some (.int (iI z))), mm q K v fr) ∧ LD I K z (confP T n)) := fun K r p er hr k1 k2 => by
    rw [← er]
    have p2 : PRZ M K := d0.z.trans p
    have oK : ∀ a, a ≠ 181 → a ≠ 182 → a ≠ 188 → K a = J a := fun a a1 a2 a8 => by rw [p2.1 a a1 a2 a8]; exact mo a a1
    have jK : ∀ j : Int, j < 13 ∨ 17 < j → j ≠ 10 → K 181 j = I 181 j := fun j hj hk => by rw [p2.2 j hj hk, mj j hj, o 181 (by decide) (by decide)]
    have c6 : K 181 16 = r.1 := by
      by_cases z : r.1 = 0
      · rw [z]; exact (k1 z).1
      · exact (k2 z).1
    refine lp_l65 hl hq c6 rfl hr (fun i i0 i1 => by rw [oK 184 (by decide) (by decide) (by decide)]; exact h4 i i0 i1) (fun a a1 a2 a4 a8 => by rw [oK a a1 a2 a8]; exact o a a2 a4) (jK 7 (by decide) (by decide)) (jK 23 (by decide) (by decide)) (jK 5 (by decide) (by decide)) rfl (fun z => (k1 z).2) (fun z => (k2 z).2)
  by_cases cm : (mdmP T n).1 = 0
  · have g := d1 cm
    have r := mdm_r (T := T) hx.1.1 cm
    have ec : confP T n = dgsP T n 4 (mdmP T n).2.2.1 (mdmP T n).2.2.2 := by unfold confP; rw [pbind_ok cm]
    have cz : ∀ i : Int, 4 ≤ i → i < 18 → (mdmP T n).2.2.1 0 i = 0 := mdm_z cm
    have hR : RV (J2 182) (mdmP T n).2.2.1 := by
      refine ⟨fun i i0 i1 => ?_, fun d d0 d1 => ?_, fun m m0 m1 => ?_, fun f f0 f1 => ?_⟩
      · by_cases i4 : i < 4
        · exact g.2.2.2.2 i i0 i4
        · rw [g.2.2.2.1 i (by omega), mo 182 (by decide), hz i i0 (by omega), cz i (by omega) i1]
      · rw [cz 4 (by decide) (by decide)] at d1; omega
      · rw [cz 5 (by decide) (by decide)] at m1; omega
      · rw [cz 6 (by decide) (by decide)] at f1; omega
    refine lp_ld hl hq 4 _ _ J2 (by rw [r.2.1]; rfl) g.1 g.2.2.1 r.2.2.1 r.2.2.2 hR r.1 (hXM.z d0.z) fun K hK => ?_
    refine fin K _ hK.1 ec.symm ?_ (fun z => ?_) hK.2.2
    · exact dgs_c _ _ _ _ _
    · have w := hK.2.1 z
      exact ⟨w.1, by rw [w.2.1, g.2.1, m17], w.2.2⟩
  · have g := d2 cm
    have ec : confP T n = ((mdmP T n).1, (mdmP T n).2.1, fun _ _ => 0) := by unfold confP; rw [pbind_no cm]
    have rc := mdm_c T n
    refine lp_l43E hl hq (by rw [g.1]; exact cm) (by rw [g.1]; exact rc) ?_
    exact fin J2 _ ⟨fun _ _ _ _ => rfl, fun _ _ _ => rfl⟩ ec.symm rc (fun z => absurd z cm) (fun _ => g)
theorem lp_l15 (hl : l.1.stackTraces = false) (hq : 192 ≤ q) (hX : RTX I T n) : Ex l 215 0 0 15 [some (.ref 181), some (.int (iI 0))] [] (mm q (cp2 I 182 0 184 0 1011) v fr) (fun o => ∃ z K, o = (.inl (some (.int (iI z))), mm q K v fr) ∧ LD I K z (confP T n)) := by
  refine lp_zero hl hq (fun K o z => ?_) 1011 0 _ (by decide) (fun _ _ => rfl) (fun i i0 i1 => absurd (show i < 0 from i1) (by omega))
  have o2 : ∀ a, a ≠ 182 → a ≠ 184 → K a = I a := fun a a2 a4 => by rw [o a a2]; exact funext fun b => cp2_p a4
  exact lp_l35 hl hq hX o2 (fun i i0 i1 => by rw [o 184 (by decide), cp2_y i0 i1]) z
/-- load(), whatever stands in the row -/
theorem rt_load (hl : l.1.stackTraces = false) (hq : 192 ≤ q) (hX : RTX I T n) : CT l 215 [.ref 181] (mm q I v fr) 0 0 (fun o => ∃ z K, o = (.inl (some (.int (iI z))), mm q K v fr) ∧ LD I K z (confP T n)) := by
  refine mkct2 hl (by decide) (Nat.le_of_ble_eq_true rfl) (L := [some (.ref 181), none]) rfl ?_
  refine x_aload_n (pc := 0) rfl d215_0 ?_
  refine m_getR (pc := 1) f215_9 (by decide +kernel) (xo181 (by omega)) rr181_0 d215_1 ?_
  refine x_iconst (pc := 4) d215_4 ?_
  refine x_aload_n (pc := 5) rfl d215_5 ?_
  refine m_getR (pc := 6) f215_16 (by decide +kernel) (xo181 (by omega)) rr181_2 d215_6 ?_
  refine x_iconst (pc := 9) d215_9 ?_
  refine x_cSv (pc := 10) c215_68 (rt_copies (q := q) hl (m0 := 1011) (n0 := 1011) (xa182 (by omega) (I := I) (v := v) (fr := fr)) (xa184 (by omega) (I := I) (v := v) (fr := fr)) (by decide) (a := 0) (b := 0) (by omega) (by omega) (by omega) (by omega) (by decide) (by decide)) rfl rfl (Nat.le_of_ble_eq_true rfl) (by decide +kernel) (by decide +kernel) (by decide +kernel) rfl d215_10 ?_
  refine x_iconst (pc := 13) d215_13 ?_
  refine x_istore_n (pc := 14) (by decide +kernel) rfl d215_14 ?_
  dsimp only [List.set]
  exact lp_l15 hl hq hX
theorem RREL.rtx {S : GS} (h : RREL I S) (hS : GOK S) : RTX I (gT S) (gL S) := ⟨h.2.2.2.1.1, h.2.2.2.1.2, hS.2.2.2.1.1, hS.2.2.2.1.2⟩
theorem rm215 {S : GS} (hl : l.1.stackTraces = false) (hq : 192 ≤ q) (h : RREL I S) (hS : GOK S) : CT l 215 [.ref 181] (mm q I v fr) 0 0 (RQ q v fr I (oLoad S)) := by
  refine mkct2 hl (by decide) (Nat.le_of_ble_eq_true rfl) (L := [some (.ref 181), none]) rfl ?_
  refine x_aload_n (pc := 0) rfl d215_0 ?_
  refine m_getR (pc := 1) f215_9 (by decide +kernel) (xo181 (by omega)) rr181_0 d215_1 ?_
  refine x_iconst (pc := 4) d215_4 ?_
  refine x_aload_n (pc := 5) rfl d215_5 ?_
  refine m_getR (pc := 6) f215_16 (by decide +kernel) (xo181 (by omega)) rr181_2 d215_6 ?_
  refine x_iconst (pc := 9) d215_9 ?_
  refine x_cSv (pc := 10) c215_68 (rt_copies (q := q) hl (m0 := 1011) (n0 := 1011) (xa182 (by omega) (I := I) (v := v) (fr := fr)) (xa184 (by omega) (I := I) (v := v) (fr := fr)) (by decide) (a := 0) (b := 0) (by omega) (by omega) (by omega) (by omega) (by decide) (by decide)) rfl rfl (Nat.le_of_ble_eq_true rfl) (by decide +kernel) (by decide +kernel) (by decide +kernel) rfl d215_10 ?_
  refine x_iconst (pc := 13) d215_13 ?_
  refine x_istore_n (pc := 14) (by decide +kernel) rfl d215_14 ?_
  dsimp only [List.set]
  refine ex_mono (lp_l15 hl hq (h.rtx hS)) fun o9 ho => ?_
  obtain ⟨z, K, ho, o, ⟨o7, o23⟩, k12, k18, kok, kno⟩ := ho
  unfold oLoad
  by_cases c : (confP (gT S) (gL S)).1 = 0
  · rw [if_pos c]
    obtain ⟨k19, k6, kz, k5, kR⟩ := kok c
    exact ⟨z, K, ho, k6, fun _ => kz, ⟨kR, ⟨k5, fun k k0 k1 => absurd (show k < 0 from k1) (by omega)⟩, ⟨by rw [o7]; exact h.2.2.1.1, by rw [o 183 (by decide) (by decide) (by decide) (by decide)]; exact h.2.2.1.2⟩, ⟨k12, fun i i0 i1 => absurd (show i < 0 from i1) (by omega)⟩, ⟨by rw [k18, c]; rfl, k19⟩, ⟨by rw [o23]; exact h.2.2.2.2.2.1, by rw [o 191 (by decide) (by decide) (by decide) (by decide)]; exact h.2.2.2.2.2.2⟩⟩, fun a ha => o a (by omega) (by omega) (by omega) (by omega)⟩
  · rw [if_neg c]
    obtain ⟨k19, k6, k5, kR⟩ := kno c
    exact ⟨z, K, ho, k6, fun w => absurd (show (1 : Int) = 0 from w) (by decide), ⟨h.1.cg hS.1 kR, ⟨by rw [k5]; exact h.2.1.1, by rw [o 186 (by decide) (by decide) (by decide) (by decide)]; exact h.2.1.2⟩, ⟨by rw [o7]; exact h.2.2.1.1, by rw [o 183 (by decide) (by decide) (by decide) (by decide)]; exact h.2.2.1.2⟩, ⟨k12, fun i i0 i1 => absurd (show i < 0 from i1) (by omega)⟩, ⟨k18, k19⟩, ⟨by rw [o23]; exact h.2.2.2.2.2.1, by rw [o 191 (by decide) (by decide) (by decide) (by decide)]; exact h.2.2.2.2.2.2⟩⟩, fun a ha => o a (by omega) (by omega) (by omega) (by omega)⟩
end Rload
