/-! ===== the reference: messages given up, sent again ===== -/
section Rgive
variable {l : LX} {q : Nat} {I : Nat → Int → Int} {v : Int} {fr : Bool} {A : AV} {c e : Int}
theorem lp_rgv (hl : l.1.stackTraces = false) (hq : 192 ≤ q) (hA : AINV A c) {mo : Int} (m0 : 0 ≤ mo) (m1 : mo < A 0 5) : ∀ (m j : Nat) (J : Nat → Int → Int), (m : Int) + j = (A 4 mo + 3) / 4 → (∀ a, a ≠ 181 → a ≠ 182 → J a = I a) → (∀ i, i ≠ 10 → J 181 i = I 181 i) → J 181 10 = (gvS A (A 5 mo) j).1 → RV (J 182) (gvS A (A 5 mo) j).2 →
    Ex l 192 0 0 25 [some (.ref 181), some (.int (iI mo)), some (.int (iI j)), none] [] (mm q J v fr) (oE q v fr (some (.int (iI 1))) (oN I (gvA A mo).1 (gvA A mo).2)) := by
  have hm := hA.msg mo m0 m1
  have hr := hA.rg
  intro m
  induction m with
  | zero =>
    intro j J hj o o1 h10 hRX
    have e : gvA A mo = gvS A (A 5 mo) j := by unfold gvA; rw [show ((A 4 mo + 3) / 4).toNat = j from by omega]
    have hX := hA.gv (g := A 5 mo) j
    obtain ⟨X, eX⟩ : ∃ X, X = (gvS A (A 5 mo) j).2 := ⟨_, rfl⟩
    have x4 : X 4 mo = A 4 mo := by rw [eX]; exact gvS_k (by decide) _ j
    have x5 : X 0 5 = A 0 5 := by rw [eX]; exact gvS_k (by decide) _ j
    rw [e]
    rw [← eX] at hRX hX ⊢
    refine x_iload_n (pc := 25) rfl d192_25 ?_
    refine x_aload_n (pc := 26) rfl d192_26 ?_
    refine x_iload_n (pc := 27) rfl d192_27 ?_
    refine x_cVs (pc := 28) c192_113 (rt_fof hl hq (A := X) hRX hX (m := mo) (by omega) (by omega)) (xo181 (by omega)) rfl rfl (Nat.le_of_ble_eq_true rfl) (by decide +kernel) (by decide +kernel) rfl d192_28 ?_
    refine x_icmp_ge (pc := 31) (tgt := 75) ⟨by omega, by omega⟩ ⟨by omega, by omega⟩ d192_31 (by decide) (fun g31 => ?_) (fun g31 => ?_)
    · refine x_iconst (pc := 75) d192_75 ?_
      refine x_zret (pc := 76) rfl (Or.inr rfl) (fun _ => rfl) d192_76 ?_
      exact ⟨J, rfl, fun a a1 a2 _ => o a a1 a2, o1, h10, hRX⟩
    · exfalso; omega
  | succ m ih =>
    intro j J hj o o1 h10 hRX
    have hX := hA.gv (g := A 5 mo) j
    have hgr := gvS_r (A := A) (g := A 5 mo) j
    obtain ⟨X, eX⟩ : ∃ X, X = (gvS A (A 5 mo) j).2 := ⟨_, rfl⟩
    have x4 : X 4 mo = A 4 mo := by rw [eX]; exact gvS_k (by decide) _ j
    have x5 : X 0 5 = A 0 5 := by rw [eX]; exact gvS_k (by decide) _ j
    have x6 : X 0 6 = A 0 6 := by rw [eX]; exact gvS_k (by decide) _ j
    have xf : X 5 mo = A 5 mo := by rw [eX]; exact gvS_k (by decide) _ j
    have x7 : X 7 (A 5 mo + j) = A 7 (A 5 mo + j) := by rw [eX]; exact gvS_7 j (Int.le_refl _)
    have hfr := hA.frm (A 5 mo + j) (by omega) (by omega)
    rw [← eX] at hRX hX
    refine x_iload_n (pc := 25) rfl d192_25 ?_
    refine x_aload_n (pc := 26) rfl d192_26 ?_
    refine x_iload_n (pc := 27) rfl d192_27 ?_
    refine x_cVs (pc := 28) c192_113 (rt_fof hl hq (A := X) hRX hX (m := mo) (by omega) (by omega)) (xo181 (by omega)) rfl rfl (Nat.le_of_ble_eq_true rfl) (by decide +kernel) (by decide +kernel) rfl d192_28 ?_
    refine x_icmp_ge (pc := 31) (tgt := 75) ⟨by omega, by omega⟩ ⟨by omega, by omega⟩ d192_31 (by decide) (fun g31 => ?_) (fun g31 => ?_)
    · refine x_iconst (pc := 75) d192_75 ?_
      refine x_zret (pc := 76) rfl (Or.inr rfl) (fun _ => rfl) d192_76 ?_
      exfalso; omega
    · refine x_aload_n (pc := 34) rfl d192_34 ?_
      refine x_iload_n (pc := 35) rfl d192_35 ?_
      refine x_iconst (pc := 36) d192_36 ?_
      refine x_cVs (pc := 37) c192_96 (rt_mes5 hl hq (A := X) hRX (m := mo) (by omega) (by omega) (by omega)) (xo181 (by omega)) rfl rfl (Nat.le_of_ble_eq_true rfl) (by decide +kernel) (by decide +kernel) rfl d192_37 ?_
      refine x_val (pc := 40) (w := (A 5 mo)) (xf) ?_
      refine x_iload_n (pc := 40) rfl d192_40 ?_
      refine x_iadd (pc := 41) d192_41 ?_
      refine x_istore_n (pc := 42) (by decide +kernel) rfl d192_42 ?_
      dsimp only [List.set]
      refine x_aload_n (pc := 43) rfl d192_43 ?_
      refine x_iload_n (pc := 44) rfl d192_44 ?_
      refine x_iconst (pc := 45) d192_45 ?_
      refine x_cVs (pc := 46) c192_78 (rt_of7 hl hq (A := X) hRX (f := ((A 5 mo) + j)) (by omega) (by omega) (by omega)) (xo181 (by omega)) rfl rfl (Nat.le_of_ble_eq_true rfl) (by decide +kernel) (by decide +kernel) rfl d192_46 ?_
      refine x_val (pc := 49) (w := (A 7 (A 5 mo + j))) (x7) ?_
      refine x_if_ne (pc := 49) (tgt := 69) ⟨by omega, by omega⟩ d192_49 (by decide) (fun g49 => ?_) (fun g49 => ?_)
      · refine x_iinc (pc := 69) rfl (by decide +kernel) rfl d192_69 ?_
        dsimp only [List.set]
        refine x_goto (pc := 72) (tgt := 25) d192_72 (by decide) ?_
        refine x_mask [true, true, true, false] ?_
        dsimp only [mask]
        have e : gvS A (A 5 mo) (j + 1) = gvS A (A 5 mo) j := if_neg g49
        exact ih (j + 1) J (by omega) o o1 (by rw [e]; exact h10) (by rw [e, ← eX]; exact hRX)
      · refine x_aload_n (pc := 52) rfl d192_52 ?_
        refine x_iload_n (pc := 53) rfl d192_53 ?_
        refine x_iconst (pc := 54) d192_54 ?_
        refine x_iconst (pc := 55) d192_55 ?_
        refine x_cVv (pc := 56) c192_92 (rt_puts hl hq (f := ((A 5 mo) + j)) (w := 1) (z := 2) (by omega) (by omega)) (xo181 (by omega)) rfl rfl (Nat.le_of_ble_eq_true rfl) (by decide +kernel) (by decide +kernel) rfl d192_56 ?_
        refine x_aload_n (pc := 59) rfl d192_59 ?_
        refine x_dup (pc := 60) rfl d192_60 ?_
        refine m_getW (pc := 61) (z := 10) (w := (J 181 10)) f192_176 (by decide +kernel) rfl (xo181 (by omega)) (by rw [up2_p (by omega)]) d192_61 ?_
        refine x_val (pc := 64) (w := ((gvS A (A 5 mo) j).1)) (by exact h10) ?_
        refine x_iconst (pc := 64) d192_64 ?_
        refine x_iadd (pc := 65) d192_65 ?_
        refine m_putI (pc := 66) (z := 10) f192_176 (by decide +kernel) (by decide +kernel) rfl (xo181 (by omega)) d192_66 ?_
        refine x_iinc (pc := 69) rfl (by decide +kernel) rfl d192_69 ?_
        dsimp only [List.set]
        refine x_goto (pc := 72) (tgt := 25) d192_72 (by decide) ?_
        refine x_mask [true, true, true, false] ?_
        dsimp only [mask]
        have e : gvS A (A 5 mo) (j + 1) = ((gvS A (A 5 mo) j).1 + 1, up2 (gvS A (A 5 mo) j).2 7 (A 5 mo + j) 2) := if_pos g49
        refine ih (j + 1) _ (by omega) (fun a a1 a2 => by rw [up2_off' _ _ _ a1, up2_off' _ _ _ a2]; exact o a a1 a2) (fun i hi => by rw [up2_i hi, up2_p (by decide)]; exact o1 i hi) (by rw [e, up2_s]) ?_
        rw [e, up2_off' _ _ _ (by decide), ← eX]
        exact hRX.f7 hX.rb _ (by omega) (by omega)
theorem rt_caT (hl : l.1.stackTraces = false) (hq : 192 ≤ q) (hR : RV (I 182) A) (hA : AINV A c) {mo : Int} (m0 : 0 ≤ mo) (m1 : mo < A 0 5) (hs : stA A mo = 0) : CT l 192 [.ref 181, .int (iI mo)] (mm q I v fr) 0 0 (oE q v fr (some (.int (iI 1))) (oN I (gvA A mo).1 (gvA A mo).2)) := by
  have hm := hA.msg mo m0 m1
  have hr := hA.rg
  refine mkct2 hl (by decide) (Nat.le_of_ble_eq_true rfl) (L := [some (.ref 181), some (.int (iI mo)), none, none]) rfl ?_
  refine x_aload_n (pc := 0) rfl d192_0 ?_
  refine x_iload_n (pc := 1) rfl d192_1 ?_
  refine x_cVs (pc := 2) c192_183 (rt_isMes hl hq (A := A) hR hA (d := mo) ⟨by omega, by omega⟩) (xo181 (by omega)) rfl rfl (Nat.le_of_ble_eq_true rfl) (by decide +kernel) (by decide +kernel) rfl d192_2 ?_
  refine x_ifB_eq (pc := 5) (tgt := 16) d192_5 (by decide) (fun g5 => ?_) (fun g5 => ?_)
  · refine x_iconst (pc := 16) d192_16 ?_
    refine x_zret (pc := 17) rfl (Or.inl rfl) (fun _ => rfl) d192_17 ?_
    exact absurd (of_decide_eq_false g5) (by omega)
  · refine x_aload_n (pc := 8) rfl d192_8 ?_
    refine x_iload_n (pc := 9) rfl d192_9 ?_
    refine x_cVs (pc := 10) c192_186 (rt_st hl hq (A := A) hR hA (m := mo) (by omega) (by omega)) (xo181 (by omega)) rfl rfl (Nat.le_of_ble_eq_true rfl) (by decide +kernel) (by decide +kernel) rfl d192_10 ?_
    refine x_if_eq (pc := 13) (tgt := 18) ⟨by omega, by omega⟩ d192_13 (by decide) (fun g13 => ?_) (fun g13 => ?_)
    · refine x_aload_n (pc := 18) rfl d192_18 ?_
      refine x_iconst (pc := 19) d192_19 ?_
      refine m_putI (pc := 20) (z := 10) f192_176 (by decide +kernel) (by decide +kernel) rfl (xo181 (by omega)) d192_20 ?_
      refine x_iconst (pc := 23) d192_23 ?_
      refine x_istore_n (pc := 24) (by decide +kernel) rfl d192_24 ?_
      dsimp only [List.set]
      exact lp_rgv hl hq hA m0 m1 ((A 4 mo + 3) / 4).toNat 0 _ (by omega) (fun a a1 a2 => up2_off' _ _ _ a1) (fun i hi => up2_i hi) up2_s (by rw [up2_off' _ _ _ (by decide)]; exact hR)
    · refine x_iconst (pc := 16) d192_16 ?_
      refine x_zret (pc := 17) rfl (Or.inl rfl) (fun _ => rfl) d192_17 ?_
      exfalso; omega
theorem rt_caF (hl : l.1.stackTraces = false) (hq : 192 ≤ q) (hR : RV (I 182) A) (hA : AINV A c) {mo : Int} (hmo : InR mo) (h : ¬ ((0 ≤ mo ∧ mo < A 0 5) ∧ stA A mo = 0)) : DT l 192 [.ref 181, .int (iI mo)] (mm q I v fr) 0 0 (.inl (some (.int (iI 0))), mm q I v fr) := by
  have hr := hA.rg
  obtain ⟨h0, h1⟩ := hmo
  have hs : stA A mo = 0 ∨ stA A mo = 1 ∨ stA A mo = 2 := by unfold stA; split; exact Or.inl rfl; split; exact Or.inr (Or.inr rfl); exact Or.inr (Or.inl rfl)
  refine mkdt hl (by decide) (Nat.le_of_ble_eq_true rfl) (L := [some (.ref 181), some (.int (iI mo)), none, none]) rfl ?_
  refine x_aload_n (pc := 0) rfl d192_0 ?_
  refine x_iload_n (pc := 1) rfl d192_1 ?_
  refine x_cVs (pc := 2) c192_183 (rt_isMes hl hq (A := A) hR hA (d := mo) ⟨by omega, by omega⟩) (xo181 (by omega)) rfl rfl (Nat.le_of_ble_eq_true rfl) (by decide +kernel) (by decide +kernel) rfl d192_2 ?_
  refine x_ifB_eq (pc := 5) (tgt := 16) d192_5 (by decide) (fun g5 => ?_) (fun g5 => ?_)
  · refine x_iconst (pc := 16) d192_16 ?_
    refine x_zret (pc := 17) rfl (Or.inl rfl) (fun _ => rfl) d192_17 ?_
    rfl
  · have g8 := of_decide_eq_true g5
    refine x_aload_n (pc := 8) rfl d192_8 ?_
    refine x_iload_n (pc := 9) rfl d192_9 ?_
    refine x_cVs (pc := 10) c192_186 (rt_st hl hq (A := A) hR hA (m := mo) (by omega) (by omega)) (xo181 (by omega)) rfl rfl (Nat.le_of_ble_eq_true rfl) (by decide +kernel) (by decide +kernel) rfl d192_10 ?_
    refine x_if_eq (pc := 13) (tgt := 18) ⟨by omega, by omega⟩ d192_13 (by decide) (fun g13 => ?_) (fun g13 => ?_)
    · exact absurd ⟨g8, g13⟩ h
    · refine x_iconst (pc := 16) d192_16 ?_
      refine x_zret (pc := 17) rfl (Or.inl rfl) (fun _ => rfl) d192_17 ?_
      rfl
theorem lp_rlet (hl : l.1.stackTraces = false) (hq : 192 ≤ q) (hR : RV (I 182) A) (hA : AINV A c) {mo : Int} (m0 : 0 ≤ mo) (m1 : mo < A 0 5) {n : Nat} (hn : n = A 4 mo) {Q : OO → Prop} (hQ : ∀ K : Nat → Int → Int, (∀ a, a ≠ 187 → K a = I a) → (∀ k : Int, 0 ≤ k → k < n → K 187 k = txtA A mo k) → Ex l 194 0 0 52 [some (.ref 181), none, some (.int (iI n)), none] [] (mm q K v fr) Q) : ∀ (m j : Nat) (J : Nat → Int → Int), m + j = n → (∀ a, a ≠ 187 → J a = I a) → (∀ k : Int, 0 ≤ k → k < j → J 187 k = txtA A mo k) →
    Ex l 194 0 0 27 [some (.ref 181), some (.int (iI mo)), some (.int (iI n)), some (.int (iI j))] [] (mm q J v fr) Q := by
  have hm := hA.msg mo m0 m1
  have hr := hA.rg
  intro m
  induction m with
  | zero =>
    intro j J hj o z
    refine x_iload_n (pc := 27) rfl d194_27 ?_
    refine x_iload_n (pc := 28) rfl d194_28 ?_
    refine x_icmp_ge (pc := 29) (tgt := 52) ⟨by omega, by omega⟩ ⟨by omega, by omega⟩ d194_29 (by decide) (fun g29 => ?_) (fun g29 => ?_)
    · refine x_mask [true, false, true, false] ?_
      dsimp only [mask]
      exact hQ J o (fun k k0 k1 => z k k0 (by omega))
    · exfalso; omega
  | succ m ih =>
    intro j J hj o z
    have hRJ : RV (J 182) A := by rw [o 182 (by decide)]; exact hR
    refine x_iload_n (pc := 27) rfl d194_27 ?_
    refine x_iload_n (pc := 28) rfl d194_28 ?_
    refine x_icmp_ge (pc := 29) (tgt := 52) ⟨by omega, by omega⟩ ⟨by omega, by omega⟩ d194_29 (by decide) (fun g29 => ?_) (fun g29 => ?_)
    · refine x_mask [true, false, true, false] ?_
      dsimp only [mask]
      exfalso; omega
    · refine x_aload_n (pc := 32) rfl d194_32 ?_
      refine m_getR (pc := 33) f194_25 (by decide +kernel) (xo181 (by omega)) rr181_8 d194_33 ?_
      refine x_iload_n (pc := 36) rfl d194_36 ?_
      refine x_aload_n (pc := 37) rfl d194_37 ?_
      refine x_iload_n (pc := 38) rfl d194_38 ?_
      refine x_iconst (pc := 39) d194_39 ?_
      refine x_iload_n (pc := 40) rfl d194_40 ?_
      refine x_iadd (pc := 41) d194_41 ?_
      refine x_cVs (pc := 42) c194_96 (rt_mesT hl hq (A := A) hRJ (m := mo) (k := j) (by omega) (by omega) (by omega) (by omega) (by omega) (by omega)) (xo181 (by omega)) rfl rfl (Nat.le_of_ble_eq_true rfl) (by decide +kernel) (by decide +kernel) rfl d194_42 ?_
      refine m_iast (pc := 45) (xa187 (by omega)) (by omega) (by omega) (by omega) d194_45 ?_
      refine x_iinc (pc := 46) rfl (by decide +kernel) rfl d194_46 ?_
      dsimp only [List.set]
      refine x_goto (pc := 49) (tgt := 27) d194_49 (by decide) ?_
      refine ih (j + 1) _ (by omega) (fun a ha => by rw [up2_off' _ _ _ ha]; exact o a ha) (fun k k0 k1 => ?_)
      by_cases ek : k = j
      · rw [ek, up2_s]
      · rw [up2_i ek]; exact z k k0 (by omega)
/-- like oN, and the letters have changed too -/
def oNl (I : Nat → Int → Int) (z : Int) (A : AV) (K : Nat → Int → Int) : Prop := (∀ a, a ≠ 181 → a ≠ 182 → a ≠ 187 → a ≠ 188 → K a = I a) ∧ (∀ i, i ≠ 10 → K 181 i = I 181 i) ∧ K 181 10 = z ∧ RV (K 182) A
theorem oN.lt {I K : Nat → Int → Int} {z : Int} {A : AV} (h : oN I z A K) : oNl I z A K := ⟨fun a a1 a2 _ a8 => h.1 a a1 a2 a8, h.2⟩
theorem lp_rre2 (hl : l.1.stackTraces = false) (hq : 192 ≤ q) (hA : AINV A c) {mo : Int} (h12 : A 0 5 < 12) {n : Nat} (n1 : 1 ≤ n) (n16 : n ≤ 16) {K : Nat → Int → Int} (hRK : RV (K 182) A) (hBK : ∀ k : Int, 0 ≤ k → k < n → K 187 k = txtA A mo k ∧ 0 ≤ txtA A mo k ∧ txtA A mo k ≤ 255) : Ex l 194 0 0 52 [some (.ref 181), none, some (.int (iI n)), none] [] (mm q K v fr) (oE q v fr (some (.int (iI 1))) (oN K (A 0 5) (addA A (txtA A mo) n))) := by
  have hr := hA.rg
  refine x_aload_n (pc := 52) rfl d194_52 ?_
  refine x_iload_n (pc := 53) rfl d194_53 ?_
  refine x_cVes (pc := 54) c194_192 (rt_sendT hl hq (A := A) hRK hA (by omega) (n := n) (B := txtA A mo) (by omega) (by omega) hBK) (xo181 (by omega)) rfl rfl (Nat.le_of_ble_eq_true rfl) (by decide +kernel) (by decide +kernel) d194_54 (fun J1 hJ1 => ?_)
  refine x_zret (pc := 57) rfl (Or.inr rfl) (fun _ => rfl) d194_57 ?_
  exact ⟨J1, rfl, hJ1⟩
theorem rt_reT (hl : l.1.stackTraces = false) (hq : 192 ≤ q) (hR : RV (I 182) A) (hA : AINV A c) {mo : Int} (m0 : 0 ≤ mo) (m1 : mo < A 0 5) (hs : stA A mo = 2) (h12 : A 0 5 < 12) : CT l 194 [.ref 181, .int (iI mo)] (mm q I v fr) 0 0 (oE q v fr (some (.int (iI 1))) (oNl I (A 0 5) (addA A (txtA A mo) (A 4 mo)))) := by
  have hm := hA.msg mo m0 m1
  have hr := hA.rg
  obtain ⟨n, hn⟩ : ∃ n : Nat, (n : Int) = A 4 mo := ⟨(A 4 mo).toNat, by omega⟩
  refine mkct2 hl (by decide) (Nat.le_of_ble_eq_true rfl) (L := [some (.ref 181), some (.int (iI mo)), none, none]) rfl ?_
  refine x_aload_n (pc := 0) rfl d194_0 ?_
  refine x_iload_n (pc := 1) rfl d194_1 ?_
  refine x_cVs (pc := 2) c194_183 (rt_isMes hl hq (A := A) hR hA (d := mo) ⟨by omega, by omega⟩) (xo181 (by omega)) rfl rfl (Nat.le_of_ble_eq_true rfl) (by decide +kernel) (by decide +kernel) rfl d194_2 ?_
  refine x_ifB_eq (pc := 5) (tgt := 16) d194_5 (by decide) (fun g5 => ?_) (fun g5 => ?_)
  · refine x_iconst (pc := 16) d194_16 ?_
    refine x_zret (pc := 17) rfl (Or.inl rfl) (fun _ => rfl) d194_17 ?_
    exact absurd (of_decide_eq_false g5) (by omega)
  · refine x_aload_n (pc := 8) rfl d194_8 ?_
    refine x_iload_n (pc := 9) rfl d194_9 ?_
    refine x_cVs (pc := 10) c194_189 (rt_may hl hq (A := A) hR hA (m := mo) (by omega) (by omega)) (xo181 (by omega)) rfl rfl (Nat.le_of_ble_eq_true rfl) (by decide +kernel) (by decide +kernel) rfl d194_10 ?_
    refine x_ifB_ne (pc := 13) (tgt := 18) d194_13 (by decide) (fun g13 => ?_) (fun g13 => ?_)
    · refine x_aload_n (pc := 18) rfl d194_18 ?_
      refine x_iload_n (pc := 19) rfl d194_19 ?_
      refine x_iconst (pc := 20) d194_20 ?_
      refine x_cVs (pc := 21) c194_96 (rt_mes4 hl hq (A := A) hR (m := mo) (by omega) (by omega) (by omega)) (xo181 (by omega)) rfl rfl (Nat.le_of_ble_eq_true rfl) (by decide +kernel) (by decide +kernel) rfl d194_21 ?_
      refine x_val (pc := 24) (w := (n : Int)) (hn.symm) ?_
      refine x_istore_n (pc := 24) (by decide +kernel) rfl d194_24 ?_
      dsimp only [List.set]
      refine x_iconst (pc := 25) d194_25 ?_
      refine x_istore_n (pc := 26) (by decide +kernel) rfl d194_26 ?_
      dsimp only [List.set]
      refine lp_rlet hl hq hR hA m0 m1 hn (fun K o z => ?_) n 0 I (by omega) (fun _ _ => rfl) (fun k k0 k1 => absurd (show k < 0 from k1) (by omega))
      refine ex_mono (lp_rre2 hl hq hA h12 (by omega) (by omega) (by rw [o 182 (by decide)]; exact hR) fun k k0 k1 => ⟨z k k0 k1, txtA_r hA k⟩) fun o9 ho => ?_
      obtain ⟨K2, ho, k1, k2, k3, k4⟩ := ho
      refine ⟨K2, ho, fun a a1 a2 a7 a8 => by rw [k1 a a1 a2 a8, o a a7], fun i hi => by rw [k2 i hi, o 181 (by decide)], k3, ?_⟩
      rw [← hn]
      exact k4
    · refine x_iconst (pc := 16) d194_16 ?_
      refine x_zret (pc := 17) rfl (Or.inl rfl) (fun _ => rfl) d194_17 ?_
      exact absurd (of_decide_eq_false g13) (by omega)
theorem rt_reF (hl : l.1.stackTraces = false) (hq : 192 ≤ q) (hR : RV (I 182) A) (hA : AINV A c) {mo : Int} (hmo : InR mo) (h : ¬ ((0 ≤ mo ∧ mo < A 0 5) ∧ (stA A mo = 2 ∧ A 0 5 < 12))) : DT l 194 [.ref 181, .int (iI mo)] (mm q I v fr) 0 0 (.inl (some (.int (iI 0))), mm q I v fr) := by
  have hr := hA.rg
  obtain ⟨h0, h1⟩ := hmo
  refine mkdt hl (by decide) (Nat.le_of_ble_eq_true rfl) (L := [some (.ref 181), some (.int (iI mo)), none, none]) rfl ?_
  refine x_aload_n (pc := 0) rfl d194_0 ?_
  refine x_iload_n (pc := 1) rfl d194_1 ?_
  refine x_cVs (pc := 2) c194_183 (rt_isMes hl hq (A := A) hR hA (d := mo) ⟨by omega, by omega⟩) (xo181 (by omega)) rfl rfl (Nat.le_of_ble_eq_true rfl) (by decide +kernel) (by decide +kernel) rfl d194_2 ?_
  refine x_ifB_eq (pc := 5) (tgt := 16) d194_5 (by decide) (fun g5 => ?_) (fun g5 => ?_)
  · refine x_iconst (pc := 16) d194_16 ?_
    refine x_zret (pc := 17) rfl (Or.inl rfl) (fun _ => rfl) d194_17 ?_
    rfl
  · have g8 := of_decide_eq_true g5
    refine x_aload_n (pc := 8) rfl d194_8 ?_
    refine x_iload_n (pc := 9) rfl d194_9 ?_
    refine x_cVs (pc := 10) c194_189 (rt_may hl hq (A := A) hR hA (m := mo) (by omega) (by omega)) (xo181 (by omega)) rfl rfl (Nat.le_of_ble_eq_true rfl) (by decide +kernel) (by decide +kernel) rfl d194_10 ?_
    refine x_ifB_ne (pc := 13) (tgt := 18) d194_13 (by decide) (fun g13 => ?_) (fun g13 => ?_)
    · exact absurd ⟨g8, of_decide_eq_true g13⟩ h
    · refine x_iconst (pc := 16) d194_16 ?_
      refine x_zret (pc := 17) rfl (Or.inl rfl) (fun _ => rfl) d194_17 ?_
      rfl
end Rgive
