/-! ===== the reference: executeCommands ===== -/
section Rexec
variable {l : LX} {q : Nat} {I : Nat → Int → Int} {v : Int} {fr : Bool} {T : Int → Int} {n : Int} {S : GS}
theorem lp_rgo (hl : l.1.stackTraces = false) (hq : 192 ≤ q) {cnt : Int} {C : AV} (hC : CMOK n cnt C) (hcnt : cnt ≤ 30) (hTb : ∀ i : Int, 0 ≤ i → i < n → 0 ≤ T i ∧ T i ≤ 255) : ∀ (m k : Nat) (A : AV) (J : Nat → Int → Int), (m : Int) + k = cnt → RV (J 182) A → AINV A cB → J 181 21 = cnt → CMR J T C cnt →
    Ex l 226 0 0 54 [some (.ref 181), some (.int (iI k))] [] (mm q J v fr) (oE q v fr (some (.int (iI (runG T C m k A).1))) (oX J (runG T C m k A).2)) := by
  intro m
  induction m with
  | zero =>
    intro k A J hm hR hA h21 hT
    refine x_iload_n (pc := 54) rfl d226_54 ?_
    refine x_aload_n (pc := 55) rfl d226_55 ?_
    refine m_getI (pc := 56) (z := 21) f226_307 (by decide +kernel) rfl (xo181 (by omega)) d226_56 ?_
    refine x_val (pc := 59) (w := cnt) (h21) ?_
    refine x_icmp_ge (pc := 59) (tgt := 79) ⟨by omega, by omega⟩ ⟨by omega, by omega⟩ d226_59 (by decide) (fun g59 => ?_) (fun g59 => ?_)
    · refine x_iload_n (pc := 79) rfl d226_79 ?_
      refine x_iret (pc := 80) rfl (fun _ => rfl) d226_80 ?_
      exact ⟨J, rfl, oX.refl hR⟩
    · exfalso; omega
  | succ m ih =>
    intro k A J hmk hR hA h21 hT
    have hm := hC k (by omega) (by omega)
    have hk0 := hT k (by omega) (by omega)
    refine x_iload_n (pc := 54) rfl d226_54 ?_
    refine x_aload_n (pc := 55) rfl d226_55 ?_
    refine m_getI (pc := 56) (z := 21) f226_307 (by decide +kernel) rfl (xo181 (by omega)) d226_56 ?_
    refine x_val (pc := 59) (w := cnt) (h21) ?_
    refine x_icmp_ge (pc := 59) (tgt := 79) ⟨by omega, by omega⟩ ⟨by omega, by omega⟩ d226_59 (by decide) (fun g59 => ?_) (fun g59 => ?_)
    · refine x_iload_n (pc := 79) rfl d226_79 ?_
      refine x_iret (pc := 80) rfl (fun _ => rfl) d226_80 ?_
      exfalso; omega
    · refine x_aload_n (pc := 62) rfl d226_62 ?_
      refine x_bipush (pc := 63) (by decide) d226_63 ?_
      refine x_iload_n (pc := 65) rfl d226_65 ?_
      refine x_imul (pc := 66) d226_66 ?_
      refine x_cVes (pc := 67) c226_341 (rt_does hl hq (c := cB) (n := n) (f := 18 * (k : Int)) (kd := C 0 k) (a := C 1 k) (b := C 2 k) (z := C 3 k) hR hA (by decide) hTb (by omega) (by omega) hk0.1 hk0.2 hm.1 hm.2.1 hm.2.2.1 hm.2.2.2) (xo181 (by omega)) rfl rfl (Nat.le_of_ble_eq_true rfl) (by decide +kernel) (by decide +kernel) d226_67 (fun J1 hJ1 => ?_)
      refine x_ifB_eq (pc := 70) (tgt := 79) d226_70 (by decide) (fun g70 => ?_) (fun g70 => ?_)
      · refine x_iload_n (pc := 79) rfl d226_79 ?_
        refine x_iret (pc := 80) rfl (fun _ => rfl) d226_80 ?_
        rw [runG_f g70]
        exact ⟨J1, rfl, hJ1⟩
      · refine x_iinc (pc := 73) rfl (by decide +kernel) rfl d226_73 ?_
        dsimp only [List.set]
        refine x_goto (pc := 76) (tgt := 54) d226_76 (by decide) ?_
        rw [runG_t g70]
        have e190 : J1 190 = J 190 := hJ1.1 190 (by decide) (by decide) (by decide) (by decide)
        have hA2 := AI.step (T := T) (n := n) (nm := C 0 k) (a := C 1 k) (b := C 2 k) (c := C 3 k) hA hTb hm.2.1 hm.2.2.1 hm.2.2.2
        refine ex_mono (ih (k + 1) _ J1 (by omega) hJ1.2.2 hA2 (by rw [hJ1.2.1 21 (by decide)]; exact h21) (fun x x0 x1 => ⟨by rw [e190]; exact (hT x x0 x1).1, (hT x x0 x1).2.cg (fun z => ((hC x x0 x1).2.1 z).2.2.1) fun i i0 i1 => by rw [e190]⟩)) fun o9 ho => ?_
        obtain ⟨K, ho, x1, x2, x3⟩ := ho
        exact ⟨K, ho, fun a a1 a2 a7 a8 => by rw [x1 a a1 a2 a7 a8]; exact hJ1.1 a a1 a2 a7 a8, fun i hi => by rw [x2 i hi]; exact hJ1.2.1 i hi, x3⟩
theorem lp_e31 (hl : l.1.stackTraces = false) (hq : 192 ≤ q) (h : RREL I S) (hS : GOK S) {J M0 : Nat → Int → Int} (m0 : ∀ a, a ≠ 181 → M0 a = I a) (mj : ∀ j : Int, j < 13 ∨ 17 < j → j ≠ 21 → M0 181 j = I 181 j) (m17 : M0 181 17 = -1) (hJ : CQ M0 J (gT S) (allP (gT S) (gL S))) (hc3 : 0 ≤ (allP (gT S) (gL S)).1 ∧ (allP (gT S) (gL S)).1 ≤ 3) : Ex l 226 0 0 31 [some (.ref 181), none] [] (mm q J v fr) (RQ q v fr I (oExec S)) := by
  obtain ⟨d0, d1, d2⟩ := hJ
  have hg := hS.2.2.2.1
  have h16 : J 181 16 = (allP (gT S) (gL S)).1 := by
    by_cases z : (allP (gT S) (gL S)).1 = 0
    · rw [z]; exact (d1 z).1
    · exact (d2 z).1
  obtain ⟨c0, hc0⟩ : ∃ c0, c0 = (allP (gT S) (gL S)).1 := ⟨_, rfl⟩
  obtain ⟨p0, h17⟩ : ∃ p0, J 181 17 = p0 := ⟨_, rfl⟩
  rw [← hc0] at h16
  have hr : 0 ≤ c0 ∧ c0 ≤ 3 := by rw [hc0]; exact hc3
  have jo : ∀ a, a ≠ 181 → a ≠ 190 → J a = I a := fun a a1 a2 => by rw [d0.1 a a1 a2]; exact m0 a a1
  have jj : ∀ j : Int, j < 13 ∨ 17 < j → j ≠ 21 → J 181 j = I 181 j := fun j hj hk => by rw [d0.2.1 j hj hk]; exact mj j hj hk
  refine x_aload_n (pc := 31) rfl d226_31 ?_
  refine x_aload_n (pc := 32) rfl d226_32 ?_
  refine x_cVs (pc := 33) c226_274 (rt_ends0 hl hq (c := c0) (p := p0) h16 h17 hr) (xo181 (by omega)) rfl rfl (Nat.le_of_ble_eq_true rfl) (by decide +kernel) (by decide +kernel) rfl d226_33 ?_
  refine x_cVs (pc := 36) c226_198 (rt_passes hl hq (b := (decide (c0 = 0)))) (xo181 (by omega)) rfl rfl (Nat.le_of_ble_eq_true rfl) (by decide +kernel) (by decide +kernel) rfl d226_36 ?_
  obtain ⟨M, hM⟩ : ∃ Z : Nat → Int → Int, Z = (up2 (up2 (up2 (up2 J 181 12 0) 181 18 c0) 181 19 p0) 181 6 (b01 (!(decide (c0 = 0))))) := ⟨_, rfl⟩
  refine x_mem (J := M) (pc := 39) hM ?_
  have mo : ∀ a, a ≠ 181 → M a = J a := fun a ha => by rw [hM, up2_off' _ _ _ ha, up2_off' _ _ _ ha, up2_off' _ _ _ ha, up2_off' _ _ _ ha]
  have mk : ∀ j : Int, j ≠ 6 → j ≠ 12 → j ≠ 18 → j ≠ 19 → M 181 j = J 181 j := fun j a1 a2 a3 a4 => by rw [hM, up2_i a1, up2_i a4, up2_i a3, up2_i a2]
  have m12 : M 181 12 = 0 := by rw [hM, up2_i (by decide), up2_i (by decide), up2_i (by decide), up2_s]
  have m18 : M 181 18 = c0 := by rw [hM, up2_i (by decide), up2_i (by decide), up2_s]
  have m19 : M 181 19 = p0 := by rw [hM, up2_i (by decide), up2_s]
  have m6 : M 181 6 = b01 (!decide (c0 = 0)) := by rw [hM, up2_s]
  have rel : ∀ p : Int, p0 = p → RREL M (sE (sL S (0, gT S)) (c0, p)) := fun p hp => ⟨by rw [mo 182 (by decide), jo 182 (by decide) (by decide)]; exact h.1, ⟨by rw [mk 5 (by decide) (by decide) (by decide) (by decide), jj 5 (by decide) (by decide)]; exact h.2.1.1, by rw [mo 186 (by decide), jo 186 (by decide) (by decide)]; exact h.2.1.2⟩, ⟨by rw [mk 7 (by decide) (by decide) (by decide) (by decide), jj 7 (by decide) (by decide)]; exact h.2.2.1.1, by rw [mo 183 (by decide), jo 183 (by decide) (by decide)]; exact h.2.2.1.2⟩, ⟨m12, fun i i0 i1 => absurd (show i < 0 from i1) (by omega)⟩, ⟨m18, by rw [m19]; exact hp⟩, ⟨by rw [mk 23 (by decide) (by decide) (by decide) (by decide), jj 23 (by decide) (by decide)]; exact h.2.2.2.2.2.1, by rw [mo 191 (by decide), jo 191 (by decide) (by decide)]; exact h.2.2.2.2.2.2⟩⟩
  have fI : ∀ a, a < 181 ∨ 192 ≤ a → M a = I a := fun a ha => by rw [mo a (by omega)]; exact jo a (by omega) (by omega)
  refine x_ifB_ne (pc := 39) (tgt := 44) d226_39 (by decide) (fun g39 => ?_) (fun g39 => ?_)
  · have e0 : c0 = 0 := of_decide_eq_true g39
    have k0 := d1 (by rw [← hc0]; exact e0)
    have hF : RV (M 182) (gA (sE (sL S (0, gT S)) (0, -1))) := by rw [mo 182 (by decide), jo 182 (by decide) (by decide)]; exact h.1
    have hH : rH M (sE (sL S (0, gT S)) (0, -1)) := ⟨by rw [mk 5 (by decide) (by decide) (by decide) (by decide), jj 5 (by decide) (by decide)]; exact h.2.1.1, by rw [mo 186 (by decide), jo 186 (by decide) (by decide)]; exact h.2.1.2⟩
    refine x_aload_n (pc := 44) rfl d226_44 ?_
    refine x_aload_n (pc := 45) rfl d226_45 ?_
    refine m_getR (pc := 46) f226_9 (by decide +kernel) (xo181 (by omega)) rr181_0 d226_46 ?_
    refine x_cVev (pc := 49) c226_337 (rt_keeps hl hq (s9 := 182) (xa182 (by omega) (I := M) (v := v) (fr := fr)) (by decide) (by decide) (S := sE (sL S (0, gT S)) (0, -1)) hF hH hS.l0) (xo181 (by omega)) rfl rfl (Nat.le_of_ble_eq_true rfl) (by decide +kernel) (by decide +kernel) d226_49 (fun J1 hJ1 => ?_)
    refine x_iconst (pc := 52) d226_52 ?_
    refine x_istore_n (pc := 53) (by decide +kernel) rfl d226_53 ?_
    dsimp only [List.set]
    have cz : (allP (gT S) (gL S)).1 = 0 := by rw [← hc0]; exact e0
    obtain ⟨r0, r1, r2⟩ := cmds_r (T := gT S) (n := gL S) 31 0 0 (fun _ _ => 0) (fun x x0 x1 => by omega) (by decide) (by decide) (by decide) hg.1.1 cz
    have hrel := rel (-1) (by rw [← h17, k0.2.1]; exact m17)
    rw [e0] at hrel
    obtain ⟨kp1, kp2, kp3⟩ := hJ1
    have e190 : J1 190 = J 190 := by rw [kp1 190 (by decide) (by decide)]; exact mo 190 (by decide)
    refine ex_mono (lp_rgo (v := v) (fr := fr) (T := gT S) (n := gL S) hl hq r0 r2 hg.2 (allP (gT S) (gL S)).2.2.1.toNat 0 (gA S) J1 ?_ (by rw [kp1 182 (by decide) (by decide)]; exact hF) hS.1 ?_ ?_) fun o9 ho => ?_
    · have r1 : 0 ≤ (allP (gT S) (gL S)).2.2.1 := r1
      show _ = (allP (gT S) (gL S)).2.2.1
      omega
    · rw [kp2 21 (by decide), mk 21 (by decide) (by decide) (by decide) (by decide)]; exact k0.2.2.1
    · exact fun x x0 x1 => ⟨by rw [e190]; exact (k0.2.2.2 x x0 x1).1, (k0.2.2.2 x x0 x1).2.cg (fun z => ((r0 x x0 x1).2.1 z).2.2.1) fun i i0 i1 => by rw [e190]⟩
    · obtain ⟨K, ho, x1, x2, x3⟩ := ho
      unfold oExec
      rw [if_pos cz]
      have f : ∀ a, a ≠ 181 → a ≠ 182 → a ≠ 186 → a ≠ 187 → a ≠ 188 → K a = M a := fun a a1 a2 a6 a7 a8 => by rw [x1 a a1 a2 a7 a8]; exact kp1 a a1 a6
      have g : ∀ j, j ≠ 5 → j ≠ 10 → K 181 j = M 181 j := fun j j5 j10 => by rw [x2 j j10]; exact kp2 j j5
      refine ⟨_, K, ho, by rw [g 6 (by decide) (by decide), m6, g39]; rfl, fun _ => rfl, ?_, fun a ha => by rw [f a (by omega) (by omega) (by omega) (by omega) (by omega)]; exact fI a ha⟩
      exact ⟨x3, ⟨by rw [x2 5 (by decide)]; exact kp3.1, by rw [x1 186 (by decide) (by decide) (by decide) (by decide)]; exact kp3.2⟩, ⟨by rw [g 7 (by decide) (by decide)]; exact hrel.2.2.1.1, by rw [f 183 (by decide) (by decide) (by decide) (by decide) (by decide)]; exact hrel.2.2.1.2⟩, ⟨by rw [g 12 (by decide) (by decide)]; exact m12, fun i i0 i1 => absurd (show i < 0 from i1) (by omega)⟩, ⟨by rw [g 18 (by decide) (by decide)]; exact hrel.2.2.2.2.1.1, by rw [g 19 (by decide) (by decide)]; exact hrel.2.2.2.2.1.2⟩, ⟨by rw [g 23 (by decide) (by decide)]; exact hrel.2.2.2.2.2.1, by rw [f 191 (by decide) (by decide) (by decide) (by decide) (by decide)]; exact hrel.2.2.2.2.2.2⟩⟩
  · refine x_iconst (pc := 42) d226_42 ?_
    refine x_iret (pc := 43) rfl (fun _ => rfl) d226_43 ?_
    have e0 : c0 ≠ 0 := of_decide_eq_false g39
    have cz : (allP (gT S) (gL S)).1 ≠ 0 := by rw [← hc0]; exact e0
    unfold oExec
    rw [if_neg cz, ← hc0]
    exact ⟨0, M, rfl, by rw [m6, g39]; rfl, fun w => absurd (show (1 : Int) = 0 from w) (by decide), rel _ (by rw [← h17]; exact (d2 cz).2), fI⟩
theorem cmds_c (T : Int → Int) (n : Int) : ∀ (m : Nat) (cnt : Int) (C : AV) (e : Int), 0 ≤ (cmdsP T n m cnt C e).1 ∧ (cmdsP T n m cnt C e).1 ≤ 3
  | 0, _, _, _ => ⟨(by decide : (0 : Int) ≤ 3), (by decide : (3 : Int) ≤ 3)⟩
  | m + 1, cnt, C, e => by
    rw [cmdsP_s]
    split
    · exact ⟨(by decide : (0 : Int) ≤ 0), (by decide : (0 : Int) ≤ 3)⟩
    · exact cmin T n (oneP_c _ _ _ _) fun _ => cmds_c T n m _ _ _
theorem rm226 (hl : l.1.stackTraces = false) (hq : 192 ≤ q) (h : RREL I S) (hS : GOK S) : CT l 226 [.ref 181] (mm q I v fr) 0 0 (RQ q v fr I (oExec S)) := by
  have hX := h.rtx hS
  refine mkct2 hl (by decide) (Nat.le_of_ble_eq_true rfl) (L := [some (.ref 181), none]) rfl ?_
  refine x_aload_n (pc := 0) rfl d226_0 ?_
  refine x_cVv (pc := 1) c226_265 (rt_start hl hq) (xo181 (by omega)) rfl rfl (Nat.le_of_ble_eq_true rfl) (by decide +kernel) (by decide +kernel) rfl d226_1 ?_
  refine x_aload_n (pc := 4) rfl d226_4 ?_
  refine x_iconst (pc := 5) d226_5 ?_
  refine m_putI (pc := 6) (z := 21) f226_307 (by decide +kernel) (by decide +kernel) rfl (xo181 (by omega)) d226_6 ?_
  obtain ⟨M, hM⟩ : ∃ M, M = up2 (up2 (up2 (up2 (up2 I 181 13 0) 181 14 0) 181 16 0) 181 17 (-1)) 181 21 0 := ⟨_, rfl⟩
  rw [← hM]
  have mo : ∀ a, a ≠ 181 → M a = I a := fun a ha => by rw [hM, up2_off' _ _ _ ha, up2_off' _ _ _ ha, up2_off' _ _ _ ha, up2_off' _ _ _ ha, up2_off' _ _ _ ha]
  have mj : ∀ j : Int, j < 13 ∨ 17 < j → j ≠ 21 → M 181 j = I 181 j := fun j hj hk => by rw [hM, up2_i hk, up2_i (by omega), up2_i (by omega), up2_i (by omega), up2_i (by omega)]
  have m16 : M 181 16 = 0 := by rw [hM, up2_i (by decide), up2_i (by decide), up2_s]
  have m17 : M 181 17 = -1 := by rw [hM, up2_i (by decide), up2_s]
  have m13 : M 181 13 = 0 := by rw [hM, up2_i (by decide), up2_i (by decide), up2_i (by decide), up2_i (by decide), up2_s]
  have m21 : M 181 21 = 0 := by rw [hM, up2_s]
  have hXM : RTX M (gT S) (gL S) := ⟨by rw [mj 12 (by decide) (by decide)]; exact hX.1, fun i i0 i1 => by rw [mo 189 (by decide)]; exact hX.2.1 i i0 i1, hX.2.2⟩
  exact lp_cmds (T := gT S) (n := gL S) hl hq 31 0 0 (fun _ _ => 0) M (by decide) (by decide) (by decide) m16 m13 (by decide) hX.2.2.1.1 m21 (fun x x0 x1 => by omega) (fun x x0 x1 => by omega) hXM fun K hK => lp_e31 hl hq h hS mo mj m17 hK (cmds_c _ _ _ _ _ _)
end Rexec
