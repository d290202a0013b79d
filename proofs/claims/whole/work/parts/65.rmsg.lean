/-! ===== the reference: frames and messages more ===== -/
/-- the row shows frame F with the n bytes C -/
def FRM (h : Int → Int) (F n : Int) (C : Int → Int) : Prop := h (243 + 16 * F + 0) = n + 2 ∧ h (243 + 16 * F + 1) = 0 ∧ h (243 + 16 * F + 2) = 0 ∧ h (243 + 16 * F + 3) = 0 ∧ ∀ k : Int, 0 ≤ k → k < n + 2 → h (243 + 16 * F + (4 + k)) = frB F n C k
theorem FRM.cg {h g : Int → Int} {F n : Int} {C : Int → Int} (hn : n ≤ 4) (hF : FRM g F n C) (hh : ∀ i : Int, 243 + 16 * F ≤ i → i < 243 + 16 * F + 16 → h i = g i) : FRM h F n C := by
  obtain ⟨a1, a2, a3, a4, a5⟩ := hF
  exact ⟨by rw [hh _ (by omega) (by omega)]; exact a1, by rw [hh _ (by omega) (by omega)]; exact a2, by rw [hh _ (by omega) (by omega)]; exact a3, by rw [hh _ (by omega) (by omega)]; exact a4, fun k k0 k1 => by rw [hh _ (by omega) (by omega)]; exact a5 k k0 k1⟩
theorem frB_r {F : Int} {n : Nat} {C : Int → Int} (hF : 0 ≤ F) (hn : n ≤ 4) (hC : ∀ k : Int, 0 ≤ k → k < n → 0 ≤ C k ∧ C k ≤ 255) {k : Int} (k0 : 0 ≤ k) (k1 : k < n + 1) : 0 ≤ frB F n C k ∧ frB F n C k ≤ 255 := by
  unfold frB
  split
  · omega
  · rw [if_pos (by omega)]; exact hC _ (by omega) (by omega)
theorem frB_l {F : Int} {n : Nat} {C : Int → Int} : frB F n C (n + 1) = crcF (frB F n C) (n + 1) := by
  show (if (n : Int) + 1 = 0 then _ else if (n : Int) + 1 ≤ n then _ else crcF _ ((n : Int) + 1).toNat) = _
  rw [if_neg (by omega), if_neg (by omega), show ((n : Int) + 1).toNat = n + 1 from by omega]
  refine crcF_congr (n + 1) fun i i0 i1 => ?_
  unfold frB
  by_cases e : i = 0
  · rw [if_pos e, if_pos e]
  · rw [if_neg e, if_neg e, if_pos (by omega)]
section Rmsg
variable {l : LX} {q : Nat} {I : Nat → Int → Int} {v : Int} {fr : Bool} {A : AV} {c e : Int}
theorem lp_fc1 (hl : l.1.stackTraces = false) (hq : 192 ≤ q) {F mo fm n : Int} (F0 : 0 ≤ F) (F1 : F < 48) {Q : OO → Prop} (hQ : ∀ K : Nat → Int → Int, (∀ a, a ≠ 182 → K a = I a) → (∀ j : Int, 0 ≤ j → j < 16 → K 182 (243 + 16 * F + j) = 0) → (∀ i : Int, ¬ (243 + 16 * F ≤ i ∧ i < 243 + 16 * F + 16) → K 182 i = I 182 i) → Ex l 169 0 0 34 [some (.ref 181), some (.int (iI mo)), some (.int (iI fm)), some (.int (iI n)), some (.int (iI F)), none] [] (mm q K v fr) Q) : ∀ (m k : Nat) (J : Nat → Int → Int), m + k = 16 → (∀ a, a ≠ 182 → J a = I a) → (∀ j : Int, 0 ≤ j → j < k → J 182 (243 + 16 * F + j) = 0) → (∀ i : Int, ¬ (243 + 16 * F ≤ i ∧ i < 243 + 16 * F + 16) → J 182 i = I 182 i) →
    Ex l 169 0 0 12 [some (.ref 181), some (.int (iI mo)), some (.int (iI fm)), some (.int (iI n)), some (.int (iI F)), some (.int (iI k))] [] (mm q J v fr) Q := by
  intro m
  induction m with
  | zero =>
    intro k J hk o z u
    refine x_iload (pc := 12) rfl d169_12 ?_
    refine x_bipush (pc := 14) (by decide) d169_14 ?_
    refine x_icmp_ge (pc := 16) (tgt := 34) ⟨by omega, by omega⟩ ⟨by omega, by omega⟩ d169_16 (by decide) (fun g16 => ?_) (fun g16 => ?_)
    · refine x_mask [true, true, true, true, true, false] ?_
      dsimp only [mask]
      exact hQ J o (fun j j0 j1 => z j j0 (by omega)) u
    · exfalso; omega
  | succ m ih =>
    intro k J hk o z u
    refine x_iload (pc := 12) rfl d169_12 ?_
    refine x_bipush (pc := 14) (by decide) d169_14 ?_
    refine x_icmp_ge (pc := 16) (tgt := 34) ⟨by omega, by omega⟩ ⟨by omega, by omega⟩ d169_16 (by decide) (fun g16 => ?_) (fun g16 => ?_)
    · refine x_mask [true, true, true, true, true, false] ?_
      dsimp only [mask]
      exfalso; omega
    · refine x_aload_n (pc := 19) rfl d169_19 ?_
      refine x_iload (pc := 20) rfl d169_20 ?_
      refine x_iload (pc := 22) rfl d169_22 ?_
      refine x_iconst (pc := 24) d169_24 ?_
      refine x_cVv (pc := 25) c169_92 (rt_puts hl hq (f := F) (w := k) (z := 0) (by omega) (by omega)) (xo181 (by omega)) rfl rfl (Nat.le_of_ble_eq_true rfl) (by decide +kernel) (by decide +kernel) rfl d169_25 ?_
      refine x_iinc (pc := 28) rfl (by decide +kernel) rfl d169_28 ?_
      dsimp only [List.set]
      refine x_goto (pc := 31) (tgt := 12) d169_31 (by decide) ?_
      refine ih (k + 1) _ (by omega) (fun a ha => by rw [up2_off' _ _ _ ha]; exact o a ha) (fun j j0 j1 => ?_) (fun i hi => by rw [up2_i (by omega)]; exact u i hi)
      by_cases ej : j = k
      · rw [ej, up2_s]
      · rw [up2_i (by omega)]; exact z j j0 (by omega)
theorem lp_fc2 (hl : l.1.stackTraces = false) (hq : 192 ≤ q) {F mo fm : Int} {n : Nat} {C : Int → Int} (F0 : 0 ≤ F) (F1 : F < 48) (m0 : 0 ≤ mo) (m1 : mo < 12) (f0 : 0 ≤ fm) (f1 : fm + n ≤ 16) (hn : n ≤ 4) (hC : ∀ k : Int, 0 ≤ k → k < n → I 182 (27 + 18 * mo + (2 + fm + k)) = C k) {Q : OO → Prop} (hQ : ∀ K : Nat → Int → Int, (∀ a, a ≠ 182 → K a = I a) → (∀ j : Int, 0 ≤ j → j < n → K 182 (243 + 16 * F + (5 + j)) = C j) → (∀ i : Int, ¬ (243 + 16 * F + 5 ≤ i ∧ i < 243 + 16 * F + 5 + n) → K 182 i = I 182 i) → Ex l 169 0 0 97 [some (.ref 181), none, none, some (.int (iI n)), some (.int (iI F)), none] [] (mm q K v fr) Q) : ∀ (m k : Nat) (J : Nat → Int → Int), m + k = n → (∀ a, a ≠ 182 → J a = I a) → (∀ j : Int, 0 ≤ j → j < k → J 182 (243 + 16 * F + (5 + j)) = C j) → (∀ i : Int, ¬ (243 + 16 * F + 5 ≤ i ∧ i < 243 + 16 * F + 5 + n) → J 182 i = I 182 i) →
    Ex l 169 0 0 64 [some (.ref 181), some (.int (iI mo)), some (.int (iI fm)), some (.int (iI n)), some (.int (iI F)), some (.int (iI k))] [] (mm q J v fr) Q := by
  intro m
  induction m with
  | zero =>
    intro k J hk o z u
    refine x_iload (pc := 64) rfl d169_64 ?_
    refine x_iload_n (pc := 66) rfl d169_66 ?_
    refine x_icmp_ge (pc := 67) (tgt := 97) ⟨by omega, by omega⟩ ⟨by omega, by omega⟩ d169_67 (by decide) (fun g67 => ?_) (fun g67 => ?_)
    · refine x_mask [true, false, false, true, true, false] ?_
      dsimp only [mask]
      exact hQ J o (fun j j0 j1 => z j j0 (by omega)) u
    · exfalso; omega
  | succ m ih =>
    intro k J hk o z u
    refine x_iload (pc := 64) rfl d169_64 ?_
    refine x_iload_n (pc := 66) rfl d169_66 ?_
    refine x_icmp_ge (pc := 67) (tgt := 97) ⟨by omega, by omega⟩ ⟨by omega, by omega⟩ d169_67 (by decide) (fun g67 => ?_) (fun g67 => ?_)
    · refine x_mask [true, false, false, true, true, false] ?_
      dsimp only [mask]
      exfalso; omega
    · refine x_aload_n (pc := 70) rfl d169_70 ?_
      refine x_iload (pc := 71) rfl d169_71 ?_
      refine x_iconst (pc := 73) d169_73 ?_
      refine x_iload (pc := 74) rfl d169_74 ?_
      refine x_iadd (pc := 76) d169_76 ?_
      refine x_aload_n (pc := 77) rfl d169_77 ?_
      refine x_iload_n (pc := 78) rfl d169_78 ?_
      refine x_iconst (pc := 79) d169_79 ?_
      refine x_iload_n (pc := 80) rfl d169_80 ?_
      refine x_iadd (pc := 81) d169_81 ?_
      refine x_iload (pc := 82) rfl d169_82 ?_
      refine x_iadd (pc := 84) d169_84 ?_
      refine x_cVs (pc := 85) c169_96 (rt_ofM hl hq (f := mo) (w := ((2 + fm) + k)) (by omega) (by omega)) (xo181 (by omega)) rfl rfl (Nat.le_of_ble_eq_true rfl) (by decide +kernel) (by decide +kernel) rfl d169_85 ?_
      refine x_val (pc := 88) (w := (C k)) (by rw [u _ (by omega)]; exact hC k (by omega) (by omega)) ?_
      refine x_cVv (pc := 88) c169_92 (rt_puts hl hq (f := F) (w := (5 + k)) (z := (C k)) (by omega) (by omega)) (xo181 (by omega)) rfl rfl (Nat.le_of_ble_eq_true rfl) (by decide +kernel) (by decide +kernel) rfl d169_88 ?_
      refine x_iinc (pc := 91) rfl (by decide +kernel) rfl d169_91 ?_
      dsimp only [List.set]
      refine x_goto (pc := 94) (tgt := 64) d169_94 (by decide) ?_
      refine ih (k + 1) _ (by omega) (fun a ha => by rw [up2_off' _ _ _ ha]; exact o a ha) (fun j j0 j1 => ?_) (fun i hi => by rw [up2_i (by omega)]; exact u i hi)
      by_cases ej : j = k
      · rw [ej, up2_s]
      · rw [up2_i (by omega)]; exact z j j0 (by omega)
theorem lp_fc3 (hl : l.1.stackTraces = false) (hq : 192 ≤ q) {F : Int} {n : Nat} {C : Int → Int} (hF : I 182 6 = F) (F0 : 0 ≤ F) (F1 : F < 48) (hn : n ≤ 4) (hC : ∀ k : Int, 0 ≤ k → k < n → 0 ≤ C k ∧ C k ≤ 255) (h0 : I 182 (243 + 16 * F + 0) = n + 2) (h1 : I 182 (243 + 16 * F + 1) = 0) (h2 : I 182 (243 + 16 * F + 2) = 0) (h3 : I 182 (243 + 16 * F + 3) = 0) (h4 : I 182 (243 + 16 * F + 4) = F % 16 * 16 + n) (h5 : ∀ j : Int, 0 ≤ j → j < n → I 182 (243 + 16 * F + (5 + j)) = C j) : Ex l 169 0 0 97 [some (.ref 181), none, none, some (.int (iI n)), some (.int (iI F)), none] [] (mm q I v fr) (oE q v fr none (fun K => (∀ a, a ≠ 182 → K a = I a) ∧ K 182 6 = F + 1 ∧ (∀ i : Int, i ≠ 6 → i ≠ 243 + 16 * F + (5 + n) → K 182 i = I 182 i) ∧ FRM (K 182) F n C)) := by
  have hv : ∀ k : Int, 0 ≤ k → k < n + 1 → I 182 (243 + 16 * F + (4 + k)) = frB F n C k := fun k k0 k1 => by
    unfold frB
    by_cases e : k = 0
    · rw [if_pos e, e]; exact h4
    · rw [if_neg e, if_pos (by omega), show 4 + k = 5 + (k - 1) from by omega]; exact h5 _ (by omega) (by omega)
  have hB : ∀ k : Int, 0 ≤ k → k < ((n + 1 : Nat) : Int) → I 182 (243 + 16 * F + (4 + k)) = frB F n C k ∧ 0 ≤ frB F n C k ∧ frB F n C k ≤ 255 := fun k k0 k1 => ⟨hv k k0 (by omega), frB_r F0 hn hC k0 (by omega)⟩
  refine x_aload_n (pc := 97) rfl d169_97 ?_
  refine x_iload (pc := 98) rfl d169_98 ?_
  refine x_iconst (pc := 100) d169_100 ?_
  refine x_iload_n (pc := 101) rfl d169_101 ?_
  refine x_iadd (pc := 102) d169_102 ?_
  refine x_aload_n (pc := 103) rfl d169_103 ?_
  refine x_iload (pc := 104) rfl d169_104 ?_
  refine x_iload_n (pc := 106) rfl d169_106 ?_
  refine x_iconst (pc := 107) d169_107 ?_
  refine x_iadd (pc := 108) d169_108 ?_
  refine x_cVs (pc := 109) c169_99 (rt_sos hl hq (f := F) (n := n + 1) F0 F1 (by omega) hB) (xo181 (by omega)) rfl rfl (Nat.le_of_ble_eq_true rfl) (by decide +kernel) (by decide +kernel) rfl d169_109 ?_
  refine x_cVv (pc := 112) c169_92 (rt_puts hl hq (f := F) (w := (5 + n)) (z := (crcF (frB F n C) (n + 1))) (by omega) (by omega)) (xo181 (by omega)) rfl rfl (Nat.le_of_ble_eq_true rfl) (by decide +kernel) (by decide +kernel) rfl d169_112 ?_
  refine x_aload_n (pc := 115) rfl d169_115 ?_
  refine m_getR (pc := 116) f169_9 (by decide +kernel) (xo181 (by omega)) rr181_0 d169_116 ?_
  refine x_bipush (pc := 119) (by decide) d169_119 ?_
  refine x_dup2 (pc := 121) rfl rfl d169_121 ?_
  refine m_ialdW (pc := 122) (w := (I 182 6)) (xa182 (by omega)) (by omega) (by omega) (by omega) (by rw [up2_i (by omega)]) d169_122 ?_
  refine x_val (pc := 123) (w := F) (hF) ?_
  refine x_iconst (pc := 123) d169_123 ?_
  refine x_iadd (pc := 124) d169_124 ?_
  refine m_iast (pc := 125) (xa182 (by omega)) (by omega) (by omega) (by omega) d169_125 ?_
  refine x_vret (pc := 126) rfl (fun _ => rfl) d169_126 ?_
  refine ⟨_, rfl, fun a ha => by rw [up2_off' _ _ _ ha, up2_off' _ _ _ ha], up2_s, fun i i6 i5 => by rw [up2_i i6, up2_i i5], ?_, ?_, ?_, ?_, fun k k0 k1 => ?_⟩
  · rw [up2_i (by omega), up2_i (by omega)]; exact h0
  · rw [up2_i (by omega), up2_i (by omega)]; exact h1
  · rw [up2_i (by omega), up2_i (by omega)]; exact h2
  · rw [up2_i (by omega), up2_i (by omega)]; exact h3
  · by_cases ek : k = n + 1
    · rw [up2_i (by omega), up2_e rfl (by omega), ek]; exact frB_l.symm
    · rw [up2_i (by omega), up2_i (by omega)]; exact hv k k0 (by omega)
theorem lp_fc4 (hl : l.1.stackTraces = false) (hq : 192 ≤ q) {F mo fm : Int} {n : Nat} {C : Int → Int} (hF : I 182 6 = F) (F0 : 0 ≤ F) (F1 : F < 48) (m0 : 0 ≤ mo) (m1 : mo < 12) (f0 : 0 ≤ fm) (f1 : fm + n ≤ 16) (hn : n ≤ 4) (hC : ∀ k : Int, 0 ≤ k → k < n → I 182 (27 + 18 * mo + (2 + fm + k)) = C k ∧ 0 ≤ C k ∧ C k ≤ 255) (hz : ∀ j : Int, 0 ≤ j → j < 16 → I 182 (243 + 16 * F + j) = 0) : Ex l 169 0 0 34 [some (.ref 181), some (.int (iI mo)), some (.int (iI fm)), some (.int (iI n)), some (.int (iI F)), none] [] (mm q I v fr) (oE q v fr none (fun K => (∀ a, a ≠ 182 → K a = I a) ∧ K 182 6 = F + 1 ∧ (∀ i : Int, i ≠ 6 → ¬ (243 + 16 * F ≤ i ∧ i < 243 + 16 * F + 16) → K 182 i = I 182 i) ∧ FRM (K 182) F n C)) := by
  refine x_aload_n (pc := 34) rfl d169_34 ?_
  refine x_iload (pc := 35) rfl d169_35 ?_
  refine x_iconst (pc := 37) d169_37 ?_
  refine x_iload_n (pc := 38) rfl d169_38 ?_
  refine x_iconst (pc := 39) d169_39 ?_
  refine x_iadd (pc := 40) d169_40 ?_
  refine x_cVv (pc := 41) c169_92 (rt_puts hl hq (f := F) (w := 0) (z := (n + 2)) (by omega) (by omega)) (xo181 (by omega)) rfl rfl (Nat.le_of_ble_eq_true rfl) (by decide +kernel) (by decide +kernel) rfl d169_41 ?_
  refine x_aload_n (pc := 44) rfl d169_44 ?_
  refine x_iload (pc := 45) rfl d169_45 ?_
  refine x_iconst (pc := 47) d169_47 ?_
  refine x_bipush (pc := 48) (by decide) d169_48 ?_
  refine x_iload (pc := 50) rfl d169_50 ?_
  refine x_bipush (pc := 52) (by decide) d169_52 ?_
  refine x_irem (pc := 54) (by omega) (by omega) (by omega) (by omega) d169_54 ?_
  refine x_imul (pc := 55) d169_55 ?_
  refine x_iload_n (pc := 56) rfl d169_56 ?_
  refine x_iadd (pc := 57) d169_57 ?_
  refine x_cVv (pc := 58) c169_92 (rt_puts hl hq (f := F) (w := 4) (z := ((16 * (F % 16)) + n)) (by omega) (by omega)) (xo181 (by omega)) rfl rfl (Nat.le_of_ble_eq_true rfl) (by decide +kernel) (by decide +kernel) rfl d169_58 ?_
  refine x_iconst (pc := 61) d169_61 ?_
  refine x_istore (pc := 62) (by decide +kernel) rfl d169_62 ?_
  dsimp only [List.set]
  refine lp_fc2 (I := up2 (up2 I 182 (243 + 16 * F + 0) (n + 2)) 182 (243 + 16 * F + 4) (16 * (F % 16) + n)) (C := C) hl hq F0 F1 m0 m1 f0 f1 hn (fun k k0 k1 => by rw [up2_i (by omega), up2_i (by omega)]; exact (hC k k0 k1).1) (fun J o z u => ?_) n 0 _ (by omega) (fun _ _ => rfl) (fun j j0 j1 => absurd (show j < 0 from j1) (by omega)) (fun _ _ => rfl)
  refine ex_mono (lp_fc3 (C := C) hl hq ?_ F0 F1 hn (fun k k0 k1 => (hC k k0 k1).2) ?_ ?_ ?_ ?_ ?_ z) fun o9 ho => ?_
  · rw [u _ (by omega), up2_i (by omega), up2_i (by omega)]; exact hF
  · rw [u _ (by omega), up2_i (by omega), up2_s]
  · rw [u _ (by omega), up2_i (by omega), up2_i (by omega)]; exact hz _ (by decide) (by decide)
  · rw [u _ (by omega), up2_i (by omega), up2_i (by omega)]; exact hz _ (by decide) (by decide)
  · rw [u _ (by omega), up2_i (by omega), up2_i (by omega)]; exact hz _ (by decide) (by decide)
  · rw [u _ (by omega), up2_s, Int.mul_comm]
  · obtain ⟨K, ho, k1, k2, k3, k4⟩ := ho
    exact ⟨K, ho, fun a ha => by rw [k1 a ha, o a ha, up2_off' _ _ _ ha, up2_off' _ _ _ ha], k2, fun i i6 ig => by rw [k3 i i6 (by omega), u i (by omega), up2_i (by omega), up2_i (by omega)], k4⟩
theorem rt_fc (hl : l.1.stackTraces = false) (hq : 192 ≤ q) {F mo fm : Int} {n : Nat} {C : Int → Int} (hF : I 182 6 = F) (F0 : 0 ≤ F) (F1 : F < 48) (m0 : 0 ≤ mo) (m1 : mo < 12) (f0 : 0 ≤ fm) (f1 : fm + n ≤ 16) (hn : n ≤ 4) (hC : ∀ k : Int, 0 ≤ k → k < n → I 182 (27 + 18 * mo + (2 + fm + k)) = C k ∧ 0 ≤ C k ∧ C k ≤ 255) : CT l 169 [.ref 181, .int (iI mo), .int (iI fm), .int (iI n)] (mm q I v fr) 0 0 (oE q v fr none (fun K => (∀ a, a ≠ 182 → K a = I a) ∧ K 182 6 = F + 1 ∧ (∀ i : Int, i ≠ 6 → ¬ (243 + 16 * F ≤ i ∧ i < 243 + 16 * F + 16) → K 182 i = I 182 i) ∧ FRM (K 182) F n C)) := by
  refine mkct2 hl (by decide) (Nat.le_of_ble_eq_true rfl) (L := [some (.ref 181), some (.int (iI mo)), some (.int (iI fm)), some (.int (iI n)), none, none]) rfl ?_
  refine x_aload_n (pc := 0) rfl d169_0 ?_
  refine m_getR (pc := 1) f169_9 (by decide +kernel) (xo181 (by omega)) rr181_0 d169_1 ?_
  refine x_bipush (pc := 4) (by decide) d169_4 ?_
  refine m_iald (pc := 6) (xa182 (by omega)) (by omega) (by omega) (by omega) d169_6 ?_
  refine x_val (pc := 7) (w := F) (hF) ?_
  refine x_istore (pc := 7) (by decide +kernel) rfl d169_7 ?_
  dsimp only [List.set]
  refine x_iconst (pc := 9) d169_9 ?_
  refine x_istore (pc := 10) (by decide +kernel) rfl d169_10 ?_
  dsimp only [List.set]
  refine lp_fc1 hl hq F0 F1 (fun J1 o1 z1 u1 => ?_) 16 0 I (by decide) (fun _ _ => rfl) (fun j j0 j1 => absurd (show j < 0 from j1) (by omega)) (fun _ _ => rfl)
  refine ex_mono (lp_fc4 (C := C) hl hq (by rw [u1 _ (by omega)]; exact hF) F0 F1 m0 m1 f0 f1 hn (fun k k0 k1 => by rw [u1 _ (by omega)]; exact hC k k0 k1) z1) fun o ho => ?_
  obtain ⟨K, ho, k1, k2, k3, k4⟩ := ho
  exact ⟨K, ho, fun a ha => by rw [k1 a ha, o1 a ha], k2, fun i i6 ig => by rw [k3 i i6 ig, u1 i ig], k4⟩
end Rmsg
theorem frs_10o {A : AV} {B : Int → Int} {n i : Int} (h : i < 6 * A 0 6) : ∀ j : Nat, frsA A B n j 10 i = A 10 i
  | 0 => rfl
  | j + 1 => by
    rw [show frsA A B n (j + 1) = fAddA (frsA A B n j) (fun k => B (4 * j + k)) (min 4 (n - 4 * j)) from rfl, fAdd_10, frs_n, if_neg (by omega), frs_10o h j]
theorem frs_10n {A : AV} {B : Int → Int} {n : Int} : ∀ (j x : Nat), x < j → ∀ k : Int, 0 ≤ k → k < min 4 (n - 4 * x) + 2 → frsA A B n j 10 (6 * (A 0 6 + x) + k) = frB (A 0 6 + x) (min 4 (n - 4 * x)) (fun k => B (4 * x + k)) k
  | 0, x, h => absurd h (Nat.not_lt_zero x)
  | j + 1, x, h => fun k k0 k1 => by
    rw [show frsA A B n (j + 1) = fAddA (frsA A B n j) (fun k => B (4 * j + k)) (min 4 (n - 4 * j)) from rfl, fAdd_10, frs_n]
    by_cases e : x = j
    · subst e
      rw [if_pos (by omega), show 6 * (A 0 6 + (x : Int)) + k - 6 * (A 0 6 + x) = k from by omega]
    · rw [if_neg (by omega), frs_10n j x (by omega) k k0 k1]
/-- a message more -/
theorem rv_add {g h : Int → Int} {A : AV} {c e : Int} {B : Int → Int} {n : Int} (hR : RV g A) (hA : AI A c e) (h12 : A 0 5 < 12) (n1 : 1 ≤ n) (n16 : n ≤ 16) (hs : ∀ i : Int, 0 ≤ i → i < 18 → i ≠ 5 → i ≠ 6 → h i = g i) (h5 : h 5 = A 0 5 + 1) (h6 : h 6 = A 0 6 + (n + 3) / 4) (hd : ∀ i : Int, 18 ≤ i → i < 27 + 18 * A 0 5 → h i = g i) (hm4 : h (27 + 18 * A 0 5 + 0) = n) (hm5 : h (27 + 18 * A 0 5 + 1) = A 0 6) (ht : ∀ k : Int, 0 ≤ k → k < n → h (27 + 18 * A 0 5 + (2 + k)) = B k) (hf : ∀ i : Int, 243 ≤ i → i < 243 + 16 * A 0 6 → h i = g i) (hn : ∀ x : Nat, (x : Int) < (n + 3) / 4 → FRM h (A 0 6 + x) (min 4 (n - 4 * x)) (fun k => B (4 * x + k))) : RV h (addA A B n) := by
  have hr := hA.rg
  obtain ⟨W, hW⟩ : ∃ W, W = msgW A (A 0 5) n (A 0 6) := ⟨_, rfl⟩
  have w6 : W 0 6 = A 0 6 := by rw [hW]; rfl
  have wk : ∀ k, k ≠ 0 → k ≠ 4 → k ≠ 5 → W k = A k := fun k k0 k4 k5 => by rw [hW]; unfold msgW; rw [up2_off' _ _ _ k0, up2_off' _ _ _ k5, up2_off' _ _ _ k4]
  have w4 : ∀ i, W 4 i = if i = A 0 5 then n else A 4 i := fun i => by rw [hW]; unfold msgW; rw [up2_p (by decide), up2_p (by decide), up2_q]
  have w5 : ∀ i, W 5 i = if i = A 0 5 then A 0 6 else A 5 i := fun i => by rw [hW]; unfold msgW; rw [up2_p (by decide), up2_q, up2_off' _ _ _ (by decide : (5 : Nat) ≠ 4)]
  have w0 : ∀ i, W 0 i = if i = 5 then A 0 5 + 1 else A 0 i := fun i => by rw [hW]; unfold msgW; rw [up2_q, up2_p (by decide), up2_p (by decide)]
  obtain ⟨N, hN⟩ : ∃ N : Nat, (N : Int) = (n + 3) / 4 := ⟨((n + 3) / 4).toNat, by omega⟩
  have hZ : addA A B n = frsA W B n N := by unfold addA; rw [hW, show ((n + 3) / 4).toNat = N from by omega]
  rw [hZ]
  have z6 : frsA W B n N 0 6 = A 0 6 + N := by rw [frs_n, w6]
  have z0 : ∀ i, i ≠ 6 → frsA W B n N 0 i = if i = 5 then A 0 5 + 1 else A 0 i := fun i i6 => by rw [frs_0 i6, w0]
  have zk : ∀ k i, k = 1 ∨ k = 2 ∨ k = 3 ∨ k = 11 → frsA W B n N k i = A k i := fun k i hk => by rw [frs_k (by omega), wk k (by omega) (by omega) (by omega)]
  have z4 : ∀ i, frsA W B n N 4 i = if i = A 0 5 then n else A 4 i := fun i => by rw [frs_k (by decide), w4]
  have z5 : ∀ i, frsA W B n N 5 i = if i = A 0 5 then A 0 6 else A 5 i := fun i => by rw [frs_k (by decide), w5]
  have zo : ∀ i, i < 6 * A 0 6 → frsA W B n N 10 i = A 10 i := fun i hi => by rw [frs_10o (by rw [w6]; exact hi), wk 10 (by decide) (by decide) (by decide)]
  have zn : ∀ x : Nat, x < N → ∀ k : Int, 0 ≤ k → k < min 4 (n - 4 * x) + 2 → frsA W B n N 10 (6 * (A 0 6 + x) + k) = frB (A 0 6 + x) (min 4 (n - 4 * x)) (fun k => B (4 * x + k)) k := fun x hx k k0 k1 => by
    have := frs_10n (A := W) (B := B) (n := n) N x hx k k0 k1
    rw [w6] at this
    exact this
  obtain ⟨q1, q2, q3, q4⟩ := hR
  refine ⟨fun i i0 i1 => ?_, fun d d0 d1 => ?_, fun m m0 m1 => ?_, fun f f0 f1 => ?_⟩
  · by_cases e6 : i = 6
    · rw [e6, z6, h6, hN]
    · rw [z0 i e6]
      by_cases e5 : i = 5
      · rw [e5, h5, if_pos rfl]
      · rw [if_neg e5, hs i i0 i1 e5 e6, q1 i i0 i1]
  · rw [z0 4 (by decide), if_neg (by decide)] at d1
    rw [zk 1 d (by omega), zk 2 d (by omega), zk 3 d (by omega), hd _ (by omega) (by omega), hd _ (by omega) (by omega), hd _ (by omega) (by omega)]
    exact q2 d d0 d1
  · rw [z0 5 (by decide), if_pos rfl] at m1
    rw [z4, z5]
    by_cases em : m = A 0 5
    · subst em
      rw [if_pos rfl, if_pos rfl]
      refine ⟨hm4, hm5, fun k k0 k1 => ?_⟩
      rw [ht k k0 k1]
      unfold txtA
      rw [z5, if_pos rfl]
      obtain ⟨x, hx⟩ : ∃ x : Nat, (x : Int) = k / 4 := ⟨(k / 4).toNat, by omega⟩
      rw [← hx, show 6 * (A 0 6 + (x : Int)) + 1 + k % 4 = 6 * (A 0 6 + x) + (1 + k % 4) from by omega, zn x (by omega) _ (by omega) (by omega)]
      unfold frB
      rw [if_neg (by omega), if_pos (by omega)]
      dsimp only
      congr 1
      omega
    · have hm := hA.msg m m0 (by omega)
      rw [if_neg em, if_neg em, hd _ (by omega) (by omega), hd _ (by omega) (by omega)]
      obtain ⟨a1, a2, a3⟩ := q3 m m0 (by omega)
      refine ⟨a1, a2, fun k k0 k1 => ?_⟩
      rw [hd _ (by omega) (by omega), a3 k k0 k1]
      unfold txtA
      rw [z5, if_neg em, zo _ (by omega)]
  · rw [z6] at f1
    have hzz : ∀ k, k = 7 ∨ k = 8 ∨ k = 9 → frsA W B n N k f = if A 0 6 ≤ f ∧ f < A 0 6 + N then 0 else A k f := fun k hk => by rw [frs_z hk, w6, wk k (by omega) (by omega) (by omega)]
    have z6f : frsA W B n N 6 f = if A 0 6 ≤ f ∧ f < A 0 6 + N then min 4 (n - 4 * (f - A 0 6)) + 2 else A 6 f := by rw [frs_6, w6, wk 6 (by decide) (by decide) (by decide)]
    rw [hzz 7 (by decide), hzz 8 (by decide), hzz 9 (by decide), z6f]
    by_cases ef : f < A 0 6
    · have hf2 := hA.frm f f0 ef
      obtain ⟨a1, a2, a3, a4, a5, a6⟩ := q4 f f0 ef
      rw [if_neg (by omega), if_neg (by omega), if_neg (by omega), if_neg (by omega), hf _ (by omega) (by omega), hf _ (by omega) (by omega), hf _ (by omega) (by omega), hf _ (by omega) (by omega)]
      refine ⟨a1, a2, a3, a4, fun k k0 k1 => ?_, fun z k k0 k1 => ?_⟩
      · rw [hf _ (by omega) (by omega), zo _ (by omega)]; exact a5 k k0 k1
      · rw [hf _ (by omega) (by omega), zk 11 _ (by omega)]; exact a6 z k k0 k1
    · obtain ⟨x, hx⟩ : ∃ x : Nat, (x : Int) = f - A 0 6 := ⟨(f - A 0 6).toNat, by omega⟩
      have ef2 : f = A 0 6 + x := by omega
      obtain ⟨a1, a2, a3, a4, a5⟩ := hn x (by omega)
      rw [if_pos (by omega), if_pos (by omega), if_pos (by omega), if_pos (by omega), ← hx, ef2]
      exact ⟨a1, a2, a3, a4, fun k k0 k1 => by rw [a5 k k0 k1, zn x (by omega) k k0 k1], fun z => absurd z (by decide)⟩
