/-! ===== the reference: attempts ===== -/
section Ratt
variable {l : LX} {q : Nat} {I : Nat → Int → Int} {v : Int} {fr : Bool} {A : AV} {c e : Int}
/-- only the row has changed: it shows A -/
def o182 (I : Nat → Int → Int) (A : AV) (K : Nat → Int → Int) : Prop := (∀ a, a ≠ 182 → K a = I a) ∧ RV (K 182) A
theorem lp_rarr (hl : l.1.stackTraces = false) (hq : 192 ≤ q) {f s : Int} (f0 : 0 ≤ f) (f1 : f < 48) (s0 : 0 ≤ s) (s1 : s ≤ 6) : ∀ (m k : Nat) (J : Nat → Int → Int), (m : Int) + k = s → J 182 (243 + 16 * f + 0) = s → (∀ a, a ≠ 182 → J a = I a) → (∀ j : Int, 0 ≤ j → j < k → J 182 (243 + 16 * f + (10 + j)) = I 188 j) → (∀ i : Int, ¬ (243 + 16 * f + 10 ≤ i ∧ i < 243 + 16 * f + 10 + s) → J 182 i = I 182 i) →
    Ex l 186 0 0 65 [some (.ref 181), some (.int (iI f)), none, some (.int (iI k))] [] (mm q J v fr) (oE q v fr none (fun K => (∀ a, a ≠ 182 → K a = I a) ∧ (∀ j : Int, 0 ≤ j → j < s → K 182 (243 + 16 * f + (10 + j)) = I 188 j) ∧ ∀ i : Int, ¬ (243 + 16 * f + 10 ≤ i ∧ i < 243 + 16 * f + 10 + s) → K 182 i = I 182 i)) := by
  intro m
  induction m with
  | zero =>
    intro k J hk h0 h1 h2 h3
    refine x_iload_n (pc := 65) rfl d186_65 ?_
    refine x_aload_n (pc := 66) rfl d186_66 ?_
    refine x_iload_n (pc := 67) rfl d186_67 ?_
    refine x_iconst (pc := 68) d186_68 ?_
    refine x_cVs (pc := 69) c186_78 (rt_of hl hq (f := f) (w := 0) (by omega) (by omega)) (xo181 (by omega)) rfl rfl (Nat.le_of_ble_eq_true rfl) (by decide +kernel) (by decide +kernel) rfl d186_69 ?_
    refine x_val (pc := 72) (w := s) (h0) ?_
    refine x_icmp_ge (pc := 72) (tgt := 96) ⟨by omega, by omega⟩ ⟨by omega, by omega⟩ d186_72 (by decide) (fun g72 => ?_) (fun g72 => ?_)
    · refine x_vret (pc := 96) rfl (fun _ => rfl) d186_96 ?_
      exact ⟨J, rfl, h1, fun j j0 j1 => h2 j j0 (by omega), h3⟩
    · exfalso; omega
  | succ m ih =>
    intro k J hk h0 h1 h2 h3
    have e8 : J 188 = I 188 := h1 188 (by decide)
    refine x_iload_n (pc := 65) rfl d186_65 ?_
    refine x_aload_n (pc := 66) rfl d186_66 ?_
    refine x_iload_n (pc := 67) rfl d186_67 ?_
    refine x_iconst (pc := 68) d186_68 ?_
    refine x_cVs (pc := 69) c186_78 (rt_of hl hq (f := f) (w := 0) (by omega) (by omega)) (xo181 (by omega)) rfl rfl (Nat.le_of_ble_eq_true rfl) (by decide +kernel) (by decide +kernel) rfl d186_69 ?_
    refine x_val (pc := 72) (w := s) (h0) ?_
    refine x_icmp_ge (pc := 72) (tgt := 96) ⟨by omega, by omega⟩ ⟨by omega, by omega⟩ d186_72 (by decide) (fun g72 => ?_) (fun g72 => ?_)
    · refine x_vret (pc := 96) rfl (fun _ => rfl) d186_96 ?_
      exfalso; omega
    · refine x_aload_n (pc := 75) rfl d186_75 ?_
      refine x_iload_n (pc := 76) rfl d186_76 ?_
      refine x_bipush (pc := 77) (by decide) d186_77 ?_
      refine x_iload_n (pc := 79) rfl d186_79 ?_
      refine x_iadd (pc := 80) d186_80 ?_
      refine x_aload_n (pc := 81) rfl d186_81 ?_
      refine m_getR (pc := 82) f186_28 (by decide +kernel) (xo181 (by omega)) rr181_9 d186_82 ?_
      refine x_iload_n (pc := 85) rfl d186_85 ?_
      refine m_iald (pc := 86) (xa188 (by omega)) (by omega) (by omega) (by omega) d186_86 ?_
      refine x_cVv (pc := 87) c186_92 (rt_puts hl hq (f := f) (w := (10 + k)) (z := (J 188 k)) (by omega) (by omega)) (xo181 (by omega)) rfl rfl (Nat.le_of_ble_eq_true rfl) (by decide +kernel) (by decide +kernel) rfl d186_87 ?_
      refine x_iinc (pc := 90) rfl (by decide +kernel) rfl d186_90 ?_
      dsimp only [List.set]
      refine x_goto (pc := 93) (tgt := 65) d186_93 (by decide) ?_
      refine ih (k + 1) _ (by omega) (by rw [up2_i (by omega)]; exact h0) (fun a ha => by rw [up2_off' _ _ _ ha]; exact h1 a ha) (fun j j0 j1 => ?_) (fun i hi => by rw [up2_i (by omega)]; exact h3 i hi)
      by_cases ej : j = k
      · rw [ej, up2_s, e8]
      · rw [up2_i (by omega)]; exact h2 j j0 (by omega)
theorem rt_arr (hl : l.1.stackTraces = false) (hq : 192 ≤ q) (hR : RV (I 182) A) (hB : RB A) {f : Int} (f0 : 0 ≤ f) (f1 : f < A 0 6) (hb : 0 ≤ I 188 0 ∧ I 188 0 ≤ 255) (h9 : 0 ≤ A 0 9 ∧ A 0 9 ≤ 16) : CT l 186 [.ref 181, .int (iI f)] (mm q I v fr) 0 0 (oE q v fr none (o182 I (arrA A f (I 188)))) := by
  obtain ⟨b4, b5, b6, bm, bf⟩ := id hB
  have b6f := bf f f0 f1
  refine mkct2 hl (by decide) (Nat.le_of_ble_eq_true rfl) (L := [some (.ref 181), some (.int (iI f)), none, none]) rfl ?_
  refine x_aload_n (pc := 0) rfl d186_0 ?_
  refine m_getR (pc := 1) f186_28 (by decide +kernel) (xo181 (by omega)) rr181_9 d186_1 ?_
  refine x_iconst (pc := 4) d186_4 ?_
  refine m_iald (pc := 5) (xa188 (by omega)) (by omega) (by omega) (by omega) d186_5 ?_
  refine x_bipush (pc := 6) (by decide) d186_6 ?_
  refine x_idiv (pc := 8) (by omega) (by omega) (by omega) (by omega) d186_8 ?_
  refine x_istore_n (pc := 9) (by decide +kernel) rfl d186_9 ?_
  dsimp only [List.set]
  refine x_aload_n (pc := 10) rfl d186_10 ?_
  refine m_getR (pc := 11) f186_9 (by decide +kernel) (xo181 (by omega)) rr181_0 d186_11 ?_
  refine x_bipush (pc := 14) (by decide) d186_14 ?_
  refine m_ialdW (pc := 16) (w := (A 0 9)) (xa182 (by omega)) (by omega) (by omega) (by omega) (by rw [hR.sc (i := 9) (by decide) (by decide)]) d186_16 ?_
  refine x_iload_n (pc := 17) rfl d186_17 ?_
  refine x_iconst (pc := 18) d186_18 ?_
  refine x_iadd (pc := 19) d186_19 ?_
  refine x_icmp_ne (pc := 20) (tgt := 35) ⟨by omega, by omega⟩ ⟨by omega, by omega⟩ d186_20 (by decide) (fun g20 => ?_) (fun g20 => ?_)
  · refine x_aload_n (pc := 35) rfl d186_35 ?_
    refine m_getR (pc := 36) f186_9 (by decide +kernel) (xo181 (by omega)) rr181_0 d186_36 ?_
    refine x_bipush (pc := 39) (by decide) d186_39 ?_
    refine x_iload_n (pc := 41) rfl d186_41 ?_
    refine x_iconst (pc := 42) d186_42 ?_
    refine x_iadd (pc := 43) d186_43 ?_
    refine m_iast (pc := 44) (xa182 (by omega)) (by omega) (by omega) (by omega) d186_44 ?_
    refine x_aload_n (pc := 45) rfl d186_45 ?_
    refine m_getR (pc := 46) f186_9 (by decide +kernel) (xo181 (by omega)) rr181_0 d186_46 ?_
    refine x_bipush (pc := 49) (by decide) d186_49 ?_
    refine x_dup2 (pc := 51) rfl rfl d186_51 ?_
    refine m_ialdW (pc := 52) (w := (A 0 13)) (xa182 (by omega)) (by omega) (by omega) (by omega) (by rw [up2_i (by decide), hR.sc (i := 13) (by decide) (by decide)]) d186_52 ?_
    refine x_iconst (pc := 53) d186_53 ?_
    refine x_iadd (pc := 54) d186_54 ?_
    refine m_iast (pc := 55) (xa182 (by omega)) (by omega) (by omega) (by omega) d186_55 ?_
    refine x_aload_n (pc := 56) rfl d186_56 ?_
    refine x_iload_n (pc := 57) rfl d186_57 ?_
    refine x_iconst (pc := 58) d186_58 ?_
    refine x_iconst (pc := 59) d186_59 ?_
    refine x_cVv (pc := 60) c186_92 (rt_puts hl hq (f := f) (w := 3) (z := 1) (by omega) (by omega)) (xo181 (by omega)) rfl rfl (Nat.le_of_ble_eq_true rfl) (by decide +kernel) (by decide +kernel) rfl d186_60 ?_
    refine x_iconst (pc := 63) d186_63 ?_
    refine x_istore_n (pc := 64) (by decide +kernel) rfl d186_64 ?_
    dsimp only [List.set]
    refine x_mask [true, true, false, true] ?_
    dsimp only [mask]
    have h := lp_rarr (I := up2 (up2 (up2 I 182 9 (I 188 0 / 16 + 1)) 182 13 (A 0 13 + 1)) 182 (243 + 16 * f + 3) 1) (v := v) (fr := fr) hl hq f0 (by omega) (s := A 6 f) (by omega) (by omega) (A 6 f).toNat 0 _ (by omega) (by rw [up2_i (by omega), up2_i (by omega), up2_i (by omega)]; exact (hR.2.2.2 f f0 f1).1) (fun _ _ => rfl) (fun j j0 j1 => absurd (show j < 0 from j1) (by omega)) (fun _ _ => rfl)
    refine ex_mono h fun o ho => ?_
    obtain ⟨K, ho, k1, k2, k3⟩ := ho
    refine ⟨K, ho, fun a ha => by rw [k1 a ha, up2_off' _ _ _ ha, up2_off' _ _ _ ha, up2_off' _ _ _ ha], ?_⟩
    rw [arrA_n (by omega)]
    refine rv_arr hR hB f0 f1 ?_ ?_ ?_ ?_ ?_
    · rw [k3 _ (by omega), up2_i (by omega), up2_i (by omega), up2_s]
    · rw [k3 _ (by omega), up2_i (by omega), up2_s]
    · rw [k3 _ (by omega), up2_s]
    · intro k k0 k1
      rw [k2 k k0 k1, up2_p (by decide), up2_p (by decide), up2_p (by decide)]
    · intro i i9 i13 i3 ig
      rw [k3 i ig, up2_i i3, up2_i i13, up2_i i9]
  · refine x_aload_n (pc := 23) rfl d186_23 ?_
    refine m_getR (pc := 24) f186_9 (by decide +kernel) (xo181 (by omega)) rr181_0 d186_24 ?_
    refine x_bipush (pc := 27) (by decide) d186_27 ?_
    refine x_dup2 (pc := 29) rfl rfl d186_29 ?_
    refine m_ialdW (pc := 30) (w := (A 0 12)) (xa182 (by omega)) (by omega) (by omega) (by omega) (by rw [hR.sc (i := 12) (by decide) (by decide)]) d186_30 ?_
    refine x_iconst (pc := 31) d186_31 ?_
    refine x_iadd (pc := 32) d186_32 ?_
    refine m_iast (pc := 33) (xa182 (by omega)) (by omega) (by omega) (by omega) d186_33 ?_
    refine x_vret (pc := 34) rfl (fun _ => rfl) d186_34 ?_
    refine ⟨_, rfl, fun a ha => up2_off' _ _ _ ha, ?_⟩
    rw [arrA_d (by omega)]
    exact hR.w hB _ _ (by decide) (by decide) (by decide) (by decide) (by decide)
theorem rt_ends (hl : l.1.stackTraces = false) (hq : 192 ≤ q) (hR : RV (I 182) A) (hB : RB A) {f r z : Int} (f0 : 0 ≤ f) (f1 : f < A 0 6) (h8 : 1 ≤ A 8 f ∧ A 8 f ≤ A 0 3 ∧ A 0 3 ≤ 9) (hr : z = 1 ∧ r = 0 ∨ z = 0 ∧ r ≠ 0) : CT l 187 [.ref 181, .int (iI f), .int (iI z)] (mm q I v fr) 0 0 (oE q v fr none (o182 I (setA A f r))) := by
  obtain ⟨b4, b5, b6, bm, bf⟩ := id hB
  unfold setA
  refine mkct2 hl (by decide) (Nat.le_of_ble_eq_true rfl) (L := [some (.ref 181), some (.int (iI f)), some (.int (iI z))]) rfl ?_
  refine x_iload_n (pc := 0) rfl d187_0 ?_
  refine x_if_eq (pc := 1) (tgt := 14) ⟨by omega, by omega⟩ d187_1 (by decide) (fun g1 => ?_) (fun g1 => ?_)
  · refine x_aload_n (pc := 14) rfl d187_14 ?_
    refine x_iload_n (pc := 15) rfl d187_15 ?_
    refine x_iconst (pc := 16) d187_16 ?_
    refine x_cVs (pc := 17) c187_78 (rt_of8 hl hq (A := A) hR (f := f) (by omega) (by omega) (by omega)) (xo181 (by omega)) rfl rfl (Nat.le_of_ble_eq_true rfl) (by decide +kernel) (by decide +kernel) rfl d187_17 ?_
    refine x_aload_n (pc := 20) rfl d187_20 ?_
    refine m_getR (pc := 21) f187_9 (by decide +kernel) (xo181 (by omega)) rr181_0 d187_21 ?_
    refine x_iconst (pc := 24) d187_24 ?_
    refine m_ialdW (pc := 25) (w := (A 0 3)) (xa182 (by omega)) (by omega) (by omega) (by omega) (by rw [hR.sc (i := 3) (by decide) (by decide)]) d187_25 ?_
    refine x_icmp_ne (pc := 26) (tgt := 39) ⟨by omega, by omega⟩ ⟨by omega, by omega⟩ d187_26 (by decide) (fun g26 => ?_) (fun g26 => ?_)
    · refine x_aload_n (pc := 39) rfl d187_39 ?_
      refine m_getR (pc := 40) f187_9 (by decide +kernel) (xo181 (by omega)) rr181_0 d187_40 ?_
      refine x_bipush (pc := 43) (by decide) d187_43 ?_
      refine x_aload_n (pc := 45) rfl d187_45 ?_
      refine m_getR (pc := 46) f187_9 (by decide +kernel) (xo181 (by omega)) rr181_0 d187_46 ?_
      refine x_bipush (pc := 49) (by decide) d187_49 ?_
      refine m_ialdW (pc := 51) (w := (A 0 7)) (xa182 (by omega)) (by omega) (by omega) (by omega) (by rw [hR.sc (i := 7) (by decide) (by decide)]) d187_51 ?_
      refine x_aload_n (pc := 52) rfl d187_52 ?_
      refine m_getR (pc := 53) f187_9 (by decide +kernel) (xo181 (by omega)) rr181_0 d187_53 ?_
      refine x_iconst (pc := 56) d187_56 ?_
      refine m_ialdW (pc := 57) (w := (A 0 2)) (xa182 (by omega)) (by omega) (by omega) (by omega) (by rw [hR.sc (i := 2) (by decide) (by decide)]) d187_57 ?_
      refine x_aload_n (pc := 58) rfl d187_58 ?_
      refine x_iload_n (pc := 59) rfl d187_59 ?_
      refine x_iconst (pc := 60) d187_60 ?_
      refine x_cVs (pc := 61) c187_78 (rt_of8 hl hq (A := A) hR (f := f) (by omega) (by omega) (by omega)) (xo181 (by omega)) rfl rfl (Nat.le_of_ble_eq_true rfl) (by decide +kernel) (by decide +kernel) rfl d187_61 ?_
      refine x_iconst (pc := 64) d187_64 ?_
      refine x_isub (pc := 65) d187_65 ?_
      refine x_ishl (pc := 66) (iI_shl (by omega) (by omega)) d187_66 ?_
      refine x_iadd (pc := 67) d187_67 ?_
      refine m_iast (pc := 68) (xa182 (by omega)) (by omega) (by omega) (by omega) d187_68 ?_
      refine x_vret (pc := 69) rfl (fun _ => rfl) d187_69 ?_
      rw [if_neg (by omega), if_neg (by omega)]
      exact ⟨_, rfl, fun a ha => up2_off' _ _ _ ha, hR.w hB _ _ (by decide) (by decide) (by decide) (by decide) (by decide)⟩
    · refine x_aload_n (pc := 29) rfl d187_29 ?_
      refine x_iload_n (pc := 30) rfl d187_30 ?_
      refine x_iconst (pc := 31) d187_31 ?_
      refine x_iconst (pc := 32) d187_32 ?_
      refine x_cVv (pc := 33) c187_92 (rt_puts hl hq (f := f) (w := 1) (z := 2) (by omega) (by omega)) (xo181 (by omega)) rfl rfl (Nat.le_of_ble_eq_true rfl) (by decide +kernel) (by decide +kernel) rfl d187_33 ?_
      refine x_goto (pc := 36) (tgt := 69) d187_36 (by decide) ?_
      refine x_vret (pc := 69) rfl (fun _ => rfl) d187_69 ?_
      rw [if_neg (by omega), if_pos (by omega)]
      exact ⟨_, rfl, fun a ha => up2_off' _ _ _ ha, hR.f7 hB _ f0 f1⟩
  · refine x_aload_n (pc := 4) rfl d187_4 ?_
    refine x_iload_n (pc := 5) rfl d187_5 ?_
    refine x_iconst (pc := 6) d187_6 ?_
    refine x_iconst (pc := 7) d187_7 ?_
    refine x_cVv (pc := 8) c187_92 (rt_puts hl hq (f := f) (w := 1) (z := 1) (by omega) (by omega)) (xo181 (by omega)) rfl rfl (Nat.le_of_ble_eq_true rfl) (by decide +kernel) (by decide +kernel) rfl d187_8 ?_
    refine x_goto (pc := 11) (tgt := 69) d187_11 (by decide) ?_
    refine x_vret (pc := 69) rfl (fun _ => rfl) d187_69 ?_
    rw [if_pos (by omega)]
    exact ⟨_, rfl, fun a ha => up2_off' _ _ _ ha, hR.f7 hB _ f0 f1⟩
theorem lp_ra2 (hl : l.1.stackTraces = false) (hq : 192 ≤ q) {M : AV} {J : Nat → Int → Int} (hR : RV (J 182) M) (hB : RB M) {f : Int} (f0 : 0 ≤ f) (f1 : f < M 0 6) (hb : 0 ≤ J 188 0 ∧ J 188 0 ≤ 255) (h9 : 0 ≤ M 0 9 ∧ M 0 9 ≤ 16) (h8 : 1 ≤ M 8 f ∧ M 8 f ≤ M 0 3 ∧ M 0 3 ≤ 9) : Ex l 188 0 0 156 [some (.ref 181), some (.int (iI f)), none, some (.int (iI 1)), some (.int (iI 1))] [] (mm q J v fr) (oE q v fr none (o182 J (setA (recA M f 2 (J 188)) f 2))) := by
  have b48 := hB.2.2.1
  have hfK : f < recA M f 2 (J 188) 0 6 := by rw [rec_0 (by decide)]; exact f1
  have h8K : 1 ≤ recA M f 2 (J 188) 8 f ∧ recA M f 2 (J 188) 8 f ≤ recA M f 2 (J 188) 0 3 ∧ recA M f 2 (J 188) 0 3 ≤ 9 := by rw [rec_k (by decide) (by decide) (by decide), rec_0 (by decide)]; exact h8
  have hBK : RB (recA M f 2 (J 188)) := by
    rw [recA_e]
    exact hB.arr.w _ _ (by decide) (by decide) (by decide)
  refine x_iload_n (pc := 156) rfl d188_156 ?_
  refine x_if_eq (pc := 157) (tgt := 168) ⟨by omega, by omega⟩ d188_157 (by decide) (fun z => absurd z (by decide)) (fun _ => ?_)
  refine x_aload_n (pc := 160) rfl d188_160 ?_
  refine x_iload_n (pc := 161) rfl d188_161 ?_
  refine x_cVev (pc := 162) c188_163 (rt_arr hl hq (A := M) hR hB (f := f) (by omega) (by omega) hb h9) (xo181 (by omega)) rfl rfl (Nat.le_of_ble_eq_true rfl) (by decide +kernel) (by decide +kernel) d188_162 (fun J1 hJ1 => ?_)
  refine x_goto (pc := 165) (tgt := 179) d188_165 (by decide) ?_
  refine x_aload_n (pc := 179) rfl d188_179 ?_
  refine m_getR (pc := 180) f188_9 (by decide +kernel) (xo181 (by omega)) rr181_0 d188_180 ?_
  refine x_bipush (pc := 183) (by decide) d188_183 ?_
  refine x_dup2 (pc := 185) rfl rfl d188_185 ?_
  refine m_ialdW (pc := 186) (w := ((arrA M f (J 188)) 0 14)) (xa182 (by omega)) (by omega) (by omega) (by omega) (by rw [hJ1.2.sc (i := 14) (by decide) (by decide)]) d188_186 ?_
  refine x_iload (pc := 187) rfl d188_187 ?_
  refine x_cSs (pc := 189) c188_130 (rt_truth hl (b := true)) rfl rfl (Nat.le_of_ble_eq_true rfl) (by decide +kernel) (by decide +kernel) (by decide +kernel) rfl d188_189 ?_
  refine x_iadd (pc := 192) d188_192 ?_
  refine m_iast (pc := 193) (xa182 (by omega)) (by omega) (by omega) (by omega) d188_193 ?_
  obtain ⟨K, hK⟩ : ∃ Z : Nat → Int → Int, Z = (up2 J1 182 14 (((arrA M f (J 188)) 0 14) + (b01 true))) := ⟨_, rfl⟩
  refine x_mem (J := K) (pc := 194) hK ?_
  have hRK : RV (K 182) (recA M f 2 (J 188)) := by
    rw [hK]
    have h1 := hJ1.2.w hB.arr 14 (arrA M f (J 188) 0 14 + b01 true) (by decide) (by decide) (by decide) (by decide) (by decide)
    exact h1
  refine x_aload_n (pc := 194) rfl d188_194 ?_
  refine x_iload_n (pc := 195) rfl d188_195 ?_
  refine x_iload_n (pc := 196) rfl d188_196 ?_
  refine x_if_eq (pc := 197) (tgt := 209) ⟨by omega, by omega⟩ d188_197 (by decide) (fun z => absurd z (by decide)) (fun _ => ?_)
  refine x_iload (pc := 200) rfl d188_200 ?_
  refine x_if_ne (pc := 202) (tgt := 209) ⟨by omega, by omega⟩ d188_202 (by decide) (fun _ => ?_) (fun z => absurd z (by decide))
  refine x_iconst (pc := 209) d188_209 ?_
  refine x_cVev (pc := 210) c188_166 (rt_ends hl hq (A := recA M f 2 (J 188)) hRK hBK (f := f) (r := 2) (z := 0) f0 hfK h8K (by decide)) (xo181 (by omega)) rfl rfl (Nat.le_of_ble_eq_true rfl) (by decide +kernel) (by decide +kernel) d188_210 (fun J2 hJ2 => ?_)
  refine x_vret (pc := 213) rfl (fun _ => rfl) d188_213 ?_
  obtain ⟨k1, k2⟩ := hJ2
  exact ⟨J2, rfl, fun a ha => by rw [k1 a ha, hK, up2_off' _ _ _ ha, hJ1.1 a ha], k2⟩
theorem lp_ra0 (hl : l.1.stackTraces = false) (hq : 192 ≤ q) {M : AV} {J : Nat → Int → Int} (hR : RV (J 182) M) (hB : RB M) {f : Int} (f0 : 0 ≤ f) (f1 : f < M 0 6) (hb : 0 ≤ J 188 0 ∧ J 188 0 ≤ 255) (h9 : 0 ≤ M 0 9 ∧ M 0 9 ≤ 16) (h8 : 1 ≤ M 8 f ∧ M 8 f ≤ M 0 3 ∧ M 0 3 ≤ 9) : Ex l 188 0 0 156 [some (.ref 181), some (.int (iI f)), none, some (.int (iI 1)), some (.int (iI 0))] [] (mm q J v fr) (oE q v fr none (o182 J (setA (recA M f 0 (J 188)) f 0))) := by
  have b48 := hB.2.2.1
  have hfK : f < recA M f 0 (J 188) 0 6 := by rw [rec_0 (by decide)]; exact f1
  have h8K : 1 ≤ recA M f 0 (J 188) 8 f ∧ recA M f 0 (J 188) 8 f ≤ recA M f 0 (J 188) 0 3 ∧ recA M f 0 (J 188) 0 3 ≤ 9 := by rw [rec_k (by decide) (by decide) (by decide), rec_0 (by decide)]; exact h8
  have hBK : RB (recA M f 0 (J 188)) := by
    rw [recA_e]
    exact hB.arr
  refine x_iload_n (pc := 156) rfl d188_156 ?_
  refine x_if_eq (pc := 157) (tgt := 168) ⟨by omega, by omega⟩ d188_157 (by decide) (fun z => absurd z (by decide)) (fun _ => ?_)
  refine x_aload_n (pc := 160) rfl d188_160 ?_
  refine x_iload_n (pc := 161) rfl d188_161 ?_
  refine x_cVev (pc := 162) c188_163 (rt_arr hl hq (A := M) hR hB (f := f) (by omega) (by omega) hb h9) (xo181 (by omega)) rfl rfl (Nat.le_of_ble_eq_true rfl) (by decide +kernel) (by decide +kernel) d188_162 (fun J1 hJ1 => ?_)
  refine x_goto (pc := 165) (tgt := 179) d188_165 (by decide) ?_
  refine x_aload_n (pc := 179) rfl d188_179 ?_
  refine m_getR (pc := 180) f188_9 (by decide +kernel) (xo181 (by omega)) rr181_0 d188_180 ?_
  refine x_bipush (pc := 183) (by decide) d188_183 ?_
  refine x_dup2 (pc := 185) rfl rfl d188_185 ?_
  refine m_ialdW (pc := 186) (w := ((arrA M f (J 188)) 0 14)) (xa182 (by omega)) (by omega) (by omega) (by omega) (by rw [hJ1.2.sc (i := 14) (by decide) (by decide)]) d188_186 ?_
  refine x_iload (pc := 187) rfl d188_187 ?_
  refine x_cSs (pc := 189) c188_130 (rt_truth hl (b := false)) rfl rfl (Nat.le_of_ble_eq_true rfl) (by decide +kernel) (by decide +kernel) (by decide +kernel) rfl d188_189 ?_
  refine x_iadd (pc := 192) d188_192 ?_
  refine m_iast (pc := 193) (xa182 (by omega)) (by omega) (by omega) (by omega) d188_193 ?_
  obtain ⟨K, hK⟩ : ∃ Z : Nat → Int → Int, Z = (up2 J1 182 14 (((arrA M f (J 188)) 0 14) + (b01 false))) := ⟨_, rfl⟩
  refine x_mem (J := K) (pc := 194) hK ?_
  have hRK : RV (K 182) (recA M f 0 (J 188)) := by
    rw [hK]
    have h1 := hJ1.2.w hB.arr 14 (arrA M f (J 188) 0 14 + b01 false) (by decide) (by decide) (by decide) (by decide) (by decide)
    rw [up2_same (A := arrA M f (J 188)) (show arrA M f (J 188) 0 14 = arrA M f (J 188) 0 14 + b01 false from (Int.add_zero _).symm)] at h1
    exact h1
  refine x_aload_n (pc := 194) rfl d188_194 ?_
  refine x_iload_n (pc := 195) rfl d188_195 ?_
  refine x_iload_n (pc := 196) rfl d188_196 ?_
  refine x_if_eq (pc := 197) (tgt := 209) ⟨by omega, by omega⟩ d188_197 (by decide) (fun z => absurd z (by decide)) (fun _ => ?_)
  refine x_iload (pc := 200) rfl d188_200 ?_
  refine x_if_ne (pc := 202) (tgt := 209) ⟨by omega, by omega⟩ d188_202 (by decide) (fun z => absurd z (by decide)) (fun _ => ?_)
  refine x_iconst (pc := 205) d188_205 ?_
  refine x_goto (pc := 206) (tgt := 210) d188_206 (by decide) ?_
  refine x_cVev (pc := 210) c188_166 (rt_ends hl hq (A := recA M f 0 (J 188)) hRK hBK (f := f) (r := 0) (z := 1) f0 hfK h8K (by decide)) (xo181 (by omega)) rfl rfl (Nat.le_of_ble_eq_true rfl) (by decide +kernel) (by decide +kernel) d188_210 (fun J2 hJ2 => ?_)
  refine x_vret (pc := 213) rfl (fun _ => rfl) d188_213 ?_
  obtain ⟨k1, k2⟩ := hJ2
  exact ⟨J2, rfl, fun a ha => by rw [k1 a ha, hK, up2_off' _ _ _ ha, hJ1.1 a ha], k2⟩
theorem lp_ra1 (hl : l.1.stackTraces = false) (hq : 192 ≤ q) {M : AV} {J : Nat → Int → Int} (hR : RV (J 182) M) (hB : RB M) {f : Int} (f0 : 0 ≤ f) (f1 : f < M 0 6) (hb : 0 ≤ J 188 0 ∧ J 188 0 ≤ 255) (h9 : 0 ≤ M 0 9 ∧ M 0 9 ≤ 16) (h8 : 1 ≤ M 8 f ∧ M 8 f ≤ M 0 3 ∧ M 0 3 ≤ 9) : Ex l 188 0 0 156 [some (.ref 181), some (.int (iI f)), none, some (.int (iI 0)), some (.int (iI 0))] [] (mm q J v fr) (oE q v fr none (o182 J (setA (recA M f 1 (J 188)) f 1))) := by
  have b48 := hB.2.2.1
  have hfK : f < recA M f 1 (J 188) 0 6 := by rw [rec_0 (by decide)]; exact f1
  have h8K : 1 ≤ recA M f 1 (J 188) 8 f ∧ recA M f 1 (J 188) 8 f ≤ recA M f 1 (J 188) 0 3 ∧ recA M f 1 (J 188) 0 3 ≤ 9 := by rw [rec_k (by decide) (by decide) (by decide), rec_0 (by decide)]; exact h8
  have hBK : RB (recA M f 1 (J 188)) := by
    rw [recA_e]
    exact hB.w _ _ (by decide) (by decide) (by decide)
  refine x_iload_n (pc := 156) rfl d188_156 ?_
  refine x_if_eq (pc := 157) (tgt := 168) ⟨by omega, by omega⟩ d188_157 (by decide) (fun _ => ?_) (fun z => absurd z (by decide))
  refine x_aload_n (pc := 168) rfl d188_168 ?_
  refine m_getR (pc := 169) f188_9 (by decide +kernel) (xo181 (by omega)) rr181_0 d188_169 ?_
  refine x_bipush (pc := 172) (by decide) d188_172 ?_
  refine x_dup2 (pc := 174) rfl rfl d188_174 ?_
  refine m_ialdW (pc := 175) (w := (M 0 11)) (xa182 (by omega)) (by omega) (by omega) (by omega) (by rw [hR.sc (i := 11) (by decide) (by decide)]) d188_175 ?_
  refine x_iconst (pc := 176) d188_176 ?_
  refine x_iadd (pc := 177) d188_177 ?_
  refine m_iast (pc := 178) (xa182 (by omega)) (by omega) (by omega) (by omega) d188_178 ?_
  refine x_aload_n (pc := 179) rfl d188_179 ?_
  refine m_getR (pc := 180) f188_9 (by decide +kernel) (xo181 (by omega)) rr181_0 d188_180 ?_
  refine x_bipush (pc := 183) (by decide) d188_183 ?_
  refine x_dup2 (pc := 185) rfl rfl d188_185 ?_
  refine m_ialdW (pc := 186) (w := (M 0 14)) (xa182 (by omega)) (by omega) (by omega) (by omega) (by rw [up2_i (by decide), hR.sc (i := 14) (by decide) (by decide)]) d188_186 ?_
  refine x_iload (pc := 187) rfl d188_187 ?_
  refine x_cSs (pc := 189) c188_130 (rt_truth hl (b := false)) rfl rfl (Nat.le_of_ble_eq_true rfl) (by decide +kernel) (by decide +kernel) (by decide +kernel) rfl d188_189 ?_
  refine x_iadd (pc := 192) d188_192 ?_
  refine m_iast (pc := 193) (xa182 (by omega)) (by omega) (by omega) (by omega) d188_193 ?_
  obtain ⟨K, hK⟩ : ∃ Z : Nat → Int → Int, Z = (up2 (up2 J 182 11 ((M 0 11) + 1)) 182 14 ((M 0 14) + (b01 false))) := ⟨_, rfl⟩
  refine x_mem (J := K) (pc := 194) hK ?_
  have hRK : RV (K 182) (recA M f 1 (J 188)) := by
    rw [hK]
    have h1 := (hR.w hB 11 (M 0 11 + 1) (by decide) (by decide) (by decide) (by decide) (by decide)).w (hB.w _ _ (by decide) (by decide) (by decide)) 14 (M 0 14 + b01 false) (by decide) (by decide) (by decide) (by decide) (by decide)
    rw [up2_same (A := up2 M 0 11 (M 0 11 + 1)) (show up2 M 0 11 (M 0 11 + 1) 0 14 = M 0 14 + b01 false from by rw [up2_i (by decide)]; exact (Int.add_zero _).symm)] at h1
    exact h1
  refine x_aload_n (pc := 194) rfl d188_194 ?_
  refine x_iload_n (pc := 195) rfl d188_195 ?_
  refine x_iload_n (pc := 196) rfl d188_196 ?_
  refine x_if_eq (pc := 197) (tgt := 209) ⟨by omega, by omega⟩ d188_197 (by decide) (fun _ => ?_) (fun z => absurd z (by decide))
  refine x_iconst (pc := 209) d188_209 ?_
  refine x_cVev (pc := 210) c188_166 (rt_ends hl hq (A := recA M f 1 (J 188)) hRK hBK (f := f) (r := 1) (z := 0) f0 hfK h8K (by decide)) (xo181 (by omega)) rfl rfl (Nat.le_of_ble_eq_true rfl) (by decide +kernel) (by decide +kernel) d188_210 (fun J2 hJ2 => ?_)
  refine x_vret (pc := 213) rfl (fun _ => rfl) d188_213 ?_
  obtain ⟨k1, k2⟩ := hJ2
  exact ⟨J2, rfl, fun a ha => by rw [k1 a ha, hK, up2_off' _ _ _ ha, up2_off' _ _ _ ha], k2⟩
theorem cnt_rd {N : AV} {f t : Int} : rdA (cntA N f) f t = rdA N f t ∧ ackZ (chA (cntA N f) t (cntA N f 0 0)) (8 * cntA N f 6 f) = ackZ (chA N t (N 0 0)) (8 * N 6 f) ∧ tkA (cntA N f) f t = tkA N f t := ⟨rfl, rfl, rfl⟩
theorem tak_tk {N : AV} {f t k : Int} : takA N f t (N 0 0) k = byteZ (tkA N f t) k := by
  unfold takA tkA
  rw [Int.mul_comm (N 6 f) 8]
/-- from the attempt's first tick on -/
theorem lp_ra (hl : l.1.stackTraces = false) (hq : 192 ≤ q) {N : AV} {J : Nat → Int → Int} (hR : RV (J 182) N) (hN : AINV N c) (hc : c ≤ 80000000) {f : Int} (f0 : 0 ≤ f) (f1 : f < N 0 6) (hq7 : N 7 f = 0) : Ex l 188 0 0 56 [some (.ref 181), some (.int (iI f)), none, none, none] [] (mm q J v fr) (oE q v fr none (fun K => (∀ a, a ≠ 182 → a ≠ 188 → K a = J a) ∧ RV (K 182) (setA (recA (cntA N f) f (resA N f (N 0 7) (N 0 0)) (takA N f (N 0 7) (N 0 0))) f (resA N f (N 0 7) (N 0 0))))) := by
  have hr := hN.rg
  have hf := hN.frm f f0 f1
  have hlt := hf.2.2.2 (by omega) hq7
  have hBN := hN.rb
  have hA := hN.cnt f0 f1 hq7
  obtain ⟨N1, e1⟩ : ∃ X, X = up2 N 8 f (N 8 f + 1) := ⟨_, rfl⟩
  obtain ⟨N2, e2⟩ : ∃ X, X = up2 N1 0 10 (N1 0 10 + 1) := ⟨_, rfl⟩
  obtain ⟨N3, e3⟩ : ∃ X, X = up2 N2 0 16 (N2 0 16 + 8 * N2 6 f) := ⟨_, rfl⟩
  obtain ⟨N4, e4⟩ : ∃ X, X = up2 N3 0 7 (N3 0 7 + (8 * N3 6 f + 8) * N3 0 0) := ⟨_, rfl⟩
  have s1 : N1 0 6 = N 0 6 ∧ N1 0 7 = N 0 7 := by rw [e1]; exact ⟨rfl, rfl⟩
  have s2 : N2 0 6 = N 0 6 ∧ N2 0 7 = N 0 7 ∧ N2 6 f = N 6 f ∧ N2 0 16 = N 0 16 := by rw [e2, e1]; exact ⟨rfl, rfl, rfl, rfl⟩
  have s3 : N3 0 6 = N 0 6 ∧ N3 0 7 = N 0 7 ∧ N3 6 f = N 6 f ∧ N3 0 0 = N 0 0 := by rw [e3, e2, e1]; exact ⟨rfl, rfl, rfl, rfl⟩
  have ec : N4 = cntA N f := by rw [e4, s3.2.1, s3.2.2.1, s3.2.2.2, e3, s2.2.2.1, s2.2.2.2, e2, e1, Int.mul_comm 8]; rfl
  rw [← ec] at hA
  have s4 : N4 0 6 = N 0 6 ∧ N4 0 7 = N 0 7 + (8 * N 6 f + 8) * N 0 0 ∧ N4 6 f = N 6 f := by rw [ec, Int.mul_comm 8]; exact ⟨rfl, rfl, rfl⟩
  have B1 : RB N1 := by rw [e1]; exact hBN.f8 _ _
  have B2 : RB N2 := by rw [e2]; exact B1.w _ _ (by decide) (by decide) (by decide)
  have B3 : RB N3 := by rw [e3]; exact B2.w _ _ (by decide) (by decide) (by decide)
  have hr4 := hA.rg
  have h8 : 1 ≤ N4 8 f ∧ N4 8 f ≤ N4 0 3 ∧ N4 0 3 ≤ 9 := by
    have x1 : N4 8 f = N 8 f + 1 := by rw [ec]; unfold cntA; rw [up2_p (by decide), up2_p (by decide), up2_p (by decide), up2_s]
    have x2 : N4 0 3 = N 0 3 := by rw [ec]; rfl
    omega
  have hrd : rdA N4 f (N 0 7) = rdA N f (N 0 7) := by rw [ec]; exact cnt_rd.1
  have hak : ackZ (chA N4 (N 0 7) (N4 0 0)) (8 * N4 6 f) = ackZ (chA N (N 0 7) (N 0 0)) (8 * N 6 f) := by rw [ec]; exact cnt_rd.2.1
  have hre := resA_e (A := N) (f := f) (t := N 0 7) (by omega)
  have fin : ∀ (J1 : Nat → Int → Int) (r : Int), (∀ j : Int, 0 ≤ j → j < N4 6 f → J1 188 j = byteZ (tkA N4 f (N 0 7)) j) → resA N f (N 0 7) (N 0 0) = r → ((0 ≤ J1 188 0 ∧ J1 188 0 ≤ 255) ∧ recA N4 f r (J1 188) = recA (cntA N f) f (resA N f (N 0 7) (N 0 0)) (takA N f (N 0 7) (N 0 0))) := fun J1 r hg er => by
    have g0 : ∀ k : Int, 0 ≤ k → k < N 6 f → J1 188 k = takA N f (N 0 7) (N 0 0) k := fun k k0 k1 => by
      rw [hg k k0 (by omega), tak_tk, ec, cnt_rd.2.2]
    refine ⟨by rw [g0 0 (by decide) (by omega)]; exact takA_b _ _ _ _ _, ?_⟩
    rw [er, ← ec]
    exact rec_congr (by omega) fun _ k k0 k1 => g0 k k0 (by omega)
  refine x_aload_n (pc := 56) rfl d188_56 ?_
  refine m_getR (pc := 57) f188_9 (by decide +kernel) (xo181 (by omega)) rr181_0 d188_57 ?_
  refine x_bipush (pc := 60) (by decide) d188_60 ?_
  refine m_ialdW (pc := 62) (w := (N 0 7)) (xa182 (by omega)) (by omega) (by omega) (by omega) (by rw [hR.sc (i := 7) (by decide) (by decide)]) d188_62 ?_
  refine x_istore_n (pc := 63) (by decide +kernel) rfl d188_63 ?_
  dsimp only [List.set]
  refine x_aload_n (pc := 64) rfl d188_64 ?_
  refine x_iload_n (pc := 65) rfl d188_65 ?_
  refine x_iconst (pc := 66) d188_66 ?_
  refine x_aload_n (pc := 67) rfl d188_67 ?_
  refine x_iload_n (pc := 68) rfl d188_68 ?_
  refine x_iconst (pc := 69) d188_69 ?_
  refine x_cVs (pc := 70) c188_78 (rt_of8 hl hq (A := N) hR (f := f) (by omega) (by omega) (by omega)) (xo181 (by omega)) rfl rfl (Nat.le_of_ble_eq_true rfl) (by decide +kernel) (by decide +kernel) rfl d188_70 ?_
  refine x_iconst (pc := 73) d188_73 ?_
  refine x_iadd (pc := 74) d188_74 ?_
  refine x_cVv (pc := 75) c188_92 (rt_puts hl hq (f := f) (w := 2) (z := ((N 8 f) + 1)) (by omega) (by omega)) (xo181 (by omega)) rfl rfl (Nat.le_of_ble_eq_true rfl) (by decide +kernel) (by decide +kernel) rfl d188_75 ?_
  obtain ⟨K1, hK1⟩ : ∃ Z : Nat → Int → Int, Z = (up2 J 182 (243 + 16 * f + 2) ((N 8 f) + 1)) := ⟨_, rfl⟩
  refine x_mem (J := K1) (pc := 78) hK1 ?_
  have hR1 : RV (K1 182) N1 := by rw [hK1, e1]; exact hR.f8 hBN _ f0 f1
  refine x_aload_n (pc := 78) rfl d188_78 ?_
  refine m_getR (pc := 79) f188_9 (by decide +kernel) (xo181 (by omega)) rr181_0 d188_79 ?_
  refine x_bipush (pc := 82) (by decide) d188_82 ?_
  refine x_dup2 (pc := 84) rfl rfl d188_84 ?_
  refine m_ialdW (pc := 85) (w := (N1 0 10)) (xa182 (by omega)) (by omega) (by omega) (by omega) (by rw [hR1.sc (i := 10) (by decide) (by decide)]) d188_85 ?_
  refine x_iconst (pc := 86) d188_86 ?_
  refine x_iadd (pc := 87) d188_87 ?_
  refine m_iast (pc := 88) (xa182 (by omega)) (by omega) (by omega) (by omega) d188_88 ?_
  obtain ⟨K2, hK2⟩ : ∃ Z : Nat → Int → Int, Z = (up2 K1 182 10 ((N1 0 10) + 1)) := ⟨_, rfl⟩
  refine x_mem (J := K2) (pc := 89) hK2 ?_
  have hR2 : RV (K2 182) N2 := by rw [hK2, e2]; exact hR1.w B1 _ _ (by decide) (by decide) (by decide) (by decide) (by decide)
  refine x_aload_n (pc := 89) rfl d188_89 ?_
  refine m_getR (pc := 90) f188_9 (by decide +kernel) (xo181 (by omega)) rr181_0 d188_90 ?_
  refine x_bipush (pc := 93) (by decide) d188_93 ?_
  refine x_dup2 (pc := 95) rfl rfl d188_95 ?_
  refine m_ialdW (pc := 96) (w := (N2 0 16)) (xa182 (by omega)) (by omega) (by omega) (by omega) (by rw [hR2.sc (i := 16) (by decide) (by decide)]) d188_96 ?_
  refine x_aload_n (pc := 97) rfl d188_97 ?_
  refine x_iload_n (pc := 98) rfl d188_98 ?_
  refine x_cVs (pc := 99) c188_137 (rt_bitsOf hl hq (A := N2) hR2 (f := f) (by omega) (by omega) (by omega)) (xo181 (by omega)) rfl rfl (Nat.le_of_ble_eq_true rfl) (by decide +kernel) (by decide +kernel) rfl d188_99 ?_
  refine x_iadd (pc := 102) d188_102 ?_
  refine m_iast (pc := 103) (xa182 (by omega)) (by omega) (by omega) (by omega) d188_103 ?_
  obtain ⟨K3, hK3⟩ : ∃ Z : Nat → Int → Int, Z = (up2 K2 182 16 ((N2 0 16) + (8 * N2 6 f))) := ⟨_, rfl⟩
  refine x_mem (J := K3) (pc := 104) hK3 ?_
  have hR3 : RV (K3 182) N3 := by rw [hK3, e3]; exact hR2.w B2 _ _ (by decide) (by decide) (by decide) (by decide) (by decide)
  refine x_aload_n (pc := 104) rfl d188_104 ?_
  refine m_getR (pc := 105) f188_9 (by decide +kernel) (xo181 (by omega)) rr181_0 d188_105 ?_
  refine x_bipush (pc := 108) (by decide) d188_108 ?_
  refine x_dup2 (pc := 110) rfl rfl d188_110 ?_
  refine m_ialdW (pc := 111) (w := (N3 0 7)) (xa182 (by omega)) (by omega) (by omega) (by omega) (by rw [hR3.sc (i := 7) (by decide) (by decide)]) d188_111 ?_
  refine x_aload_n (pc := 112) rfl d188_112 ?_
  refine x_iload_n (pc := 113) rfl d188_113 ?_
  refine x_cVs (pc := 114) c188_137 (rt_bitsOf hl hq (A := N3) hR3 (f := f) (by omega) (by omega) (by omega)) (xo181 (by omega)) rfl rfl (Nat.le_of_ble_eq_true rfl) (by decide +kernel) (by decide +kernel) rfl d188_114 ?_
  refine x_bipush (pc := 117) (by decide) d188_117 ?_
  refine x_iadd (pc := 119) d188_119 ?_
  refine x_aload_n (pc := 120) rfl d188_120 ?_
  refine m_getR (pc := 121) f188_9 (by decide +kernel) (xo181 (by omega)) rr181_0 d188_121 ?_
  refine x_iconst (pc := 124) d188_124 ?_
  refine m_ialdW (pc := 125) (w := (N3 0 0)) (xa182 (by omega)) (by omega) (by omega) (by omega) (by rw [hR3.sc (i := 0) (by decide) (by decide)]) d188_125 ?_
  refine x_imul (pc := 126) d188_126 ?_
  refine x_iadd (pc := 127) d188_127 ?_
  refine m_iast (pc := 128) (xa182 (by omega)) (by omega) (by omega) (by omega) d188_128 ?_
  obtain ⟨K4, hK4⟩ : ∃ Z : Nat → Int → Int, Z = (up2 K3 182 7 ((N3 0 7) + (((8 * N3 6 f) + 8) * (N3 0 0)))) := ⟨_, rfl⟩
  refine x_mem (J := K4) (pc := 129) hK4 ?_
  have hR4 : RV (K4 182) N4 := by rw [hK4, e4]; exact hR3.w B3 _ _ (by decide) (by decide) (by decide) (by decide) (by decide)
  refine x_aload_n (pc := 129) rfl d188_129 ?_
  refine x_iload_n (pc := 130) rfl d188_130 ?_
  refine x_iload_n (pc := 131) rfl d188_131 ?_
  refine x_cVes (pc := 132) c188_157 (rt_rda hl hq (A := N4) hR4 hA (f := f) (t := (N 0 7)) (by omega) (by omega) (by omega) (by omega)) (xo181 (by omega)) rfl rfl (Nat.le_of_ble_eq_true rfl) (by decide +kernel) (by decide +kernel) d188_132 (fun J1 hJ1 => ?_)
  have hRJ : RV (J1 182) N4 := cg188 hJ1.1 hR4
  have hoff : ∀ a, a ≠ 182 → a ≠ 188 → J1 a = J a := fun a ha hb => by rw [hJ1.1 a hb, hK4, up2_off' _ _ _ ha, hK3, up2_off' _ _ _ ha, hK2, up2_off' _ _ _ ha, hK1, up2_off' _ _ _ ha]
  refine x_istore_n (pc := 135) (by decide +kernel) rfl d188_135 ?_
  dsimp only [List.set]
  refine x_iload_n (pc := 136) rfl d188_136 ?_
  refine x_ifB_eq (pc := 137) (tgt := 153) d188_137 (by decide) (fun g137 => ?_) (fun g137 => ?_)
  · refine x_iconst (pc := 153) d188_153 ?_
    refine x_istore (pc := 154) (by decide +kernel) rfl d188_154 ?_
    dsimp only [List.set]
    refine x_mask [true, true, false, true, true] ?_
    dsimp only [mask]
    have er : resA N f (N 0 7) (N 0 0) = 1 := by rw [hre, ← hrd, g137]; rfl
    obtain ⟨x1, x2⟩ := fin J1 1 hJ1.2 er
    rw [g137]
    refine ex_mono (lp_ra1 hl hq hRJ hA.rb f0 (by omega) x1 (by omega) h8) fun o ho => ?_
    obtain ⟨K, ho, k1, k2⟩ := ho
    exact ⟨K, ho, fun a ha hb => by rw [k1 a ha, hoff a ha hb], by rw [← x2, er]; exact k2⟩
  · refine x_aload_n (pc := 140) rfl d188_140 ?_
    refine x_iload_n (pc := 141) rfl d188_141 ?_
    refine x_iload_n (pc := 142) rfl d188_142 ?_
    refine x_cVs (pc := 143) c188_160 (rt_ack hl hq (A := N4) hRJ hA (f := f) (t := (N 0 7)) (by omega) (by omega) (by omega) (by omega)) (xo181 (by omega)) rfl rfl (Nat.le_of_ble_eq_true rfl) (by decide +kernel) (by decide +kernel) rfl d188_143 ?_
    refine x_ifB_eq (pc := 146) (tgt := 153) d188_146 (by decide) (fun g146 => ?_) (fun g146 => ?_)
    · refine x_iconst (pc := 153) d188_153 ?_
      refine x_istore (pc := 154) (by decide +kernel) rfl d188_154 ?_
      dsimp only [List.set]
      refine x_mask [true, true, false, true, true] ?_
      dsimp only [mask]
      have er : resA N f (N 0 7) (N 0 0) = 0 := by rw [hre, ← hrd, g137, ← hak, g146]; rfl
      obtain ⟨x1, x2⟩ := fin J1 0 hJ1.2 er
      rw [g137]
      refine ex_mono (lp_ra0 hl hq hRJ hA.rb f0 (by omega) x1 (by omega) h8) fun o ho => ?_
      obtain ⟨K, ho, k1, k2⟩ := ho
      exact ⟨K, ho, fun a ha hb => by rw [k1 a ha, hoff a ha hb], by rw [← x2, er]; exact k2⟩
    · refine x_iconst (pc := 149) d188_149 ?_
      refine x_goto (pc := 150) (tgt := 154) d188_150 (by decide) ?_
      refine x_istore (pc := 154) (by decide +kernel) rfl d188_154 ?_
      dsimp only [List.set]
      refine x_mask [true, true, false, true, true] ?_
      dsimp only [mask]
      have er : resA N f (N 0 7) (N 0 0) = 2 := by rw [hre, ← hrd, g137, ← hak, g146]; rfl
      obtain ⟨x1, x2⟩ := fin J1 2 hJ1.2 er
      rw [g137]
      refine ex_mono (lp_ra2 hl hq hRJ hA.rb f0 (by omega) x1 (by omega) h8) fun o ho => ?_
      obtain ⟨K, ho, k1, k2⟩ := ho
      exact ⟨K, ho, fun a ha hb => by rw [k1 a ha, hoff a ha hb], by rw [← x2, er]; exact k2⟩
/-- an attempt -/
theorem rt_att (hl : l.1.stackTraces = false) (hq : 192 ≤ q) (hR : RV (I 182) A) (hA : AINV A c) (hc : c ≤ 70000000) {f : Int} (f0 : 0 ≤ f) (f1 : f < A 0 6) (hq7 : A 7 f = 0) : CT l 188 [.ref 181, .int (iI f)] (mm q I v fr) 0 0 (oE q v fr none (fun K => (∀ a, a ≠ 182 → a ≠ 188 → K a = I a) ∧ RV (K 182) (attA A f))) := by
  have hr := hA.rg
  have hn : AINV (napA A) (c + 25344) := hA.nap
  have n6 : napA A 0 6 = A 0 6 := by unfold napA; split <;> rfl
  have n7 : napA A 7 f = A 7 f := by unfold napA; split <;> rfl
  refine mkct2 hl (by decide) (Nat.le_of_ble_eq_true rfl) (L := [some (.ref 181), some (.int (iI f)), none, none, none]) rfl ?_
  refine x_aload_n (pc := 0) rfl d188_0 ?_
  refine m_getR (pc := 1) f188_9 (by decide +kernel) (xo181 (by omega)) rr181_0 d188_1 ?_
  refine x_bipush (pc := 4) (by decide) d188_4 ?_
  refine m_ialdW (pc := 6) (w := (A 0 7)) (xa182 (by omega)) (by omega) (by omega) (by omega) (by rw [hR.sc (i := 7) (by decide) (by decide)]) d188_6 ?_
  refine x_aload_n (pc := 7) rfl d188_7 ?_
  refine m_getR (pc := 8) f188_9 (by decide +kernel) (xo181 (by omega)) rr181_0 d188_8 ?_
  refine x_bipush (pc := 11) (by decide) d188_11 ?_
  refine m_ialdW (pc := 13) (w := (A 0 8)) (xa182 (by omega)) (by omega) (by omega) (by omega) (by rw [hR.sc (i := 8) (by decide) (by decide)]) d188_13 ?_
  refine x_icmp_ge (pc := 14) (tgt := 56) ⟨by omega, by omega⟩ ⟨by omega, by omega⟩ d188_14 (by decide) (fun g14 => ?_) (fun g14 => ?_)
  · have e : napA A = A := if_neg (by omega)
    have h := lp_ra (v := v) (fr := fr) (c := c) hl hq (N := A) (J := I) hR hA (by omega) f0 f1 hq7
    unfold attA
    rw [e]
    exact h
  · refine x_aload_n (pc := 17) rfl d188_17 ?_
    refine m_getR (pc := 18) f188_9 (by decide +kernel) (xo181 (by omega)) rr181_0 d188_18 ?_
    refine x_bipush (pc := 21) (by decide) d188_21 ?_
    refine x_dup2 (pc := 23) rfl rfl d188_23 ?_
    refine m_ialdW (pc := 24) (w := (A 0 15)) (xa182 (by omega)) (by omega) (by omega) (by omega) (by rw [hR.sc (i := 15) (by decide) (by decide)]) d188_24 ?_
    refine x_aload_n (pc := 25) rfl d188_25 ?_
    refine m_getR (pc := 26) f188_9 (by decide +kernel) (xo181 (by omega)) rr181_0 d188_26 ?_
    refine x_bipush (pc := 29) (by decide) d188_29 ?_
    refine m_ialdW (pc := 31) (w := (A 0 8)) (xa182 (by omega)) (by omega) (by omega) (by omega) (by rw [hR.sc (i := 8) (by decide) (by decide)]) d188_31 ?_
    refine x_aload_n (pc := 32) rfl d188_32 ?_
    refine m_getR (pc := 33) f188_9 (by decide +kernel) (xo181 (by omega)) rr181_0 d188_33 ?_
    refine x_bipush (pc := 36) (by decide) d188_36 ?_
    refine m_ialdW (pc := 38) (w := (A 0 7)) (xa182 (by omega)) (by omega) (by omega) (by omega) (by rw [hR.sc (i := 7) (by decide) (by decide)]) d188_38 ?_
    refine x_isub (pc := 39) d188_39 ?_
    refine x_iadd (pc := 40) d188_40 ?_
    refine m_iast (pc := 41) (xa182 (by omega)) (by omega) (by omega) (by omega) d188_41 ?_
    refine x_aload_n (pc := 42) rfl d188_42 ?_
    refine m_getR (pc := 43) f188_9 (by decide +kernel) (xo181 (by omega)) rr181_0 d188_43 ?_
    refine x_bipush (pc := 46) (by decide) d188_46 ?_
    refine x_aload_n (pc := 48) rfl d188_48 ?_
    refine m_getR (pc := 49) f188_9 (by decide +kernel) (xo181 (by omega)) rr181_0 d188_49 ?_
    refine x_bipush (pc := 52) (by decide) d188_52 ?_
    refine m_ialdW (pc := 54) (w := (A 0 8)) (xa182 (by omega)) (by omega) (by omega) (by omega) (by rw [up2_i (by decide), hR.sc (i := 8) (by decide) (by decide)]) d188_54 ?_
    refine m_iast (pc := 55) (xa182 (by omega)) (by omega) (by omega) (by omega) d188_55 ?_
    have e : napA A = up2 (up2 A 0 15 (A 0 15 + (A 0 8 - A 0 7))) 0 7 (A 0 8) := if_pos (by omega)
    have hR2 : RV (up2 (up2 I 182 15 (A 0 15 + (A 0 8 - A 0 7))) 182 7 (A 0 8) 182) (napA A) := by
      rw [e]
      exact (hR.w hA.rb _ _ (by decide) (by decide) (by decide) (by decide) (by decide)).w (hA.rb.w _ _ (by decide) (by decide) (by decide)) _ _ (by decide) (by decide) (by decide) (by decide) (by decide)
    refine ex_mono (lp_ra (v := v) (fr := fr) hl hq hR2 hn (by omega) f0 (by omega) (by omega)) fun o ho => ?_
    obtain ⟨K, ho, k1, k2⟩ := ho
    exact ⟨K, ho, fun a ha hb => by rw [k1 a ha hb, up2_off' _ _ _ ha, up2_off' _ _ _ ha], k2⟩
theorem lp_ronce (hl : l.1.stackTraces = false) (hq : 192 ≤ q) {n : Int} (hn : n ≤ 1000) : ∀ (m : Nat) (i c : Int) (A : AV) (J : Nat → Int → Int), 0 ≤ i → i + m = n → RV (J 182) A → AINV A c → c + 25848 * m ≤ 20000000 →
    Ex l 189 0 0 2 [some (.ref 181), some (.int (iI n)), some (.int (iI i))] [] (mm q J v fr) (oE q v fr (some (.int (iI (i + (mkS m A).1)))) (fun K => (∀ a, a ≠ 182 → a ≠ 188 → K a = J a) ∧ RV (K 182) (mkS m A).2)) := by
  intro m
  induction m with
  | zero =>
    intro i c A J h0 h1 hR hA hc
    refine x_iload_n (pc := 2) rfl d189_2 ?_
    refine x_iload_n (pc := 3) rfl d189_3 ?_
    refine x_icmp_ge (pc := 4) (tgt := 29) ⟨by omega, by omega⟩ ⟨by omega, by omega⟩ d189_4 (by decide) (fun g4 => ?_) (fun g4 => ?_)
    · refine x_iload_n (pc := 29) rfl d189_29 ?_
      refine x_iret (pc := 30) rfl (fun _ => rfl) d189_30 ?_
      exact ⟨J, by rw [show i + (mkS 0 A).1 = i from Int.add_zero i], fun _ _ _ => rfl, hR⟩
    · exfalso; omega
  | succ m ih =>
    intro i c A J h0 h1 hR hA hc
    have hpr := pendD_r (A 0 6) (A 7)
    have hr := hA.rg
    have hpb : pendA A = -1 ∨ (0 ≤ pendA A ∧ pendA A < A 0 6) := by rcases hpr with e | e; exact Or.inl e; exact Or.inr ⟨e.1, e.2.1⟩
    refine x_iload_n (pc := 2) rfl d189_2 ?_
    refine x_iload_n (pc := 3) rfl d189_3 ?_
    refine x_icmp_ge (pc := 4) (tgt := 29) ⟨by omega, by omega⟩ ⟨by omega, by omega⟩ d189_4 (by decide) (fun g4 => ?_) (fun g4 => ?_)
    · refine x_iload_n (pc := 29) rfl d189_29 ?_
      refine x_iret (pc := 30) rfl (fun _ => rfl) d189_30 ?_
      exfalso; omega
    · refine x_aload_n (pc := 7) rfl d189_7 ?_
      refine x_cVs (pc := 8) c189_170 (rt_pend hl hq (A := A) hR hA) (xo181 (by omega)) rfl rfl (Nat.le_of_ble_eq_true rfl) (by decide +kernel) (by decide +kernel) rfl d189_8 ?_
      refine x_iconst (pc := 11) d189_11 ?_
      refine x_icmp_eq (pc := 12) (tgt := 29) ⟨by omega, by omega⟩ ⟨by omega, by omega⟩ d189_12 (by decide) (fun g12 => ?_) (fun g12 => ?_)
      · refine x_iload_n (pc := 29) rfl d189_29 ?_
        refine x_iret (pc := 30) rfl (fun _ => rfl) d189_30 ?_
        rw [mkS_none g12]
        exact ⟨J, by rw [show i + ((0 : Int), A).1 = i from Int.add_zero i], fun _ _ _ => rfl, hR⟩
      · have hp := pendA_r g12
        refine x_aload_n (pc := 15) rfl d189_15 ?_
        refine x_aload_n (pc := 16) rfl d189_16 ?_
        refine x_cVs (pc := 17) c189_170 (rt_pend hl hq (A := A) hR hA) (xo181 (by omega)) rfl rfl (Nat.le_of_ble_eq_true rfl) (by decide +kernel) (by decide +kernel) rfl d189_17 ?_
        refine x_cVev (pc := 20) c189_173 (rt_att hl hq (A := A) hR hA (by omega) (f := (pendA A)) hp.1 hp.2.1 hp.2.2) (xo181 (by omega)) rfl rfl (Nat.le_of_ble_eq_true rfl) (by decide +kernel) (by decide +kernel) d189_20 (fun J1 hJ1 => ?_)
        refine x_iinc (pc := 23) rfl (by decide +kernel) rfl d189_23 ?_
        dsimp only [List.set]
        refine x_goto (pc := 26) (tgt := 2) d189_26 (by decide) ?_
        have hm : mkS (m + 1) A = ((mkS m (attA A (pendA A))).1 + 1, (mkS m (attA A (pendA A))).2) := if_neg g12
        have := ih (i + 1) _ _ J1 (by omega) (by omega) hJ1.2 (hA.att hp.1 hp.2.1 hp.2.2) (by omega)
        rw [hm]
        refine ex_mono this fun o ho => ?_
        obtain ⟨K, ho, k1, k2⟩ := ho
        exact ⟨K, by rw [ho]; dsimp only; rw [show i + 1 + (mkS m (attA A (pendA A))).1 = i + ((mkS m (attA A (pendA A))).1 + 1) from by omega], fun a ha hb => by rw [k1 a ha hb, hJ1.1 a ha hb], k2⟩
theorem rt_once (hl : l.1.stackTraces = false) (hq : 192 ≤ q) (hR : RV (I 182) A) (hA : AINV A c) {n : Nat} (hn : n ≤ 1000) (hc : c + 25848 * n ≤ 20000000) : CT l 189 [.ref 181, .int (iI n)] (mm q I v fr) 0 0 (oE q v fr (some (.int (iI (mkS n A).1))) (fun K => (∀ a, a ≠ 182 → a ≠ 188 → K a = I a) ∧ RV (K 182) (mkS n A).2)) := by
  refine mkct2 hl (by decide) (Nat.le_of_ble_eq_true rfl) (L := [some (.ref 181), some (.int (iI n)), none]) rfl ?_
  refine x_iconst (pc := 0) d189_0 ?_
  refine x_istore_n (pc := 1) (by decide +kernel) rfl d189_1 ?_
  dsimp only [List.set]
  have := lp_ronce (v := v) (fr := fr) (n := n) hl hq (by omega) n 0 c A I (by decide) (by omega) hR hA hc
  rw [Int.zero_add] at this
  exact this
end Ratt
