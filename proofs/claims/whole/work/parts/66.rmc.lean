/-! ===== the reference: a message more, and what a command does ===== -/
section Rmc
variable {l : LX} {q : Nat} {I : Nat → Int → Int} {v : Int} {fr : Bool} {A : AV} {c e : Int}
theorem lp_mc1 (hl : l.1.stackTraces = false) (hq : 192 ≤ q) {mo : Int} {n : Nat} {B : Int → Int} (m0 : 0 ≤ mo) (m1 : mo < 12) (hn : n ≤ 16) (hB : ∀ k : Int, 0 ≤ k → k < n → I 187 k = B k) {Q : OO → Prop} (hQ : ∀ K : Nat → Int → Int, (∀ a, a ≠ 182 → K a = I a) → (∀ j : Int, 0 ≤ j → j < n → K 182 (27 + 18 * mo + (2 + j)) = B j) → (∀ i : Int, ¬ (27 + 18 * mo + 2 ≤ i ∧ i < 27 + 18 * mo + 2 + n) → K 182 i = I 182 i) → Ex l 170 0 0 54 [some (.ref 181), some (.int (iI n)), some (.int (iI mo)), none] [] (mm q K v fr) Q) : ∀ (m k : Nat) (J : Nat → Int → Int), m + k = n → (∀ a, a ≠ 182 → J a = I a) → (∀ j : Int, 0 ≤ j → j < k → J 182 (27 + 18 * mo + (2 + j)) = B j) → (∀ i : Int, ¬ (27 + 18 * mo + 2 ≤ i ∧ i < 27 + 18 * mo + 2 + n) → J 182 i = I 182 i) →
    Ex l 170 0 0 29 [some (.ref 181), some (.int (iI n)), some (.int (iI mo)), some (.int (iI k))] [] (mm q J v fr) Q := by
  intro m
  induction m with
  | zero =>
    intro k J hk o z u
    refine x_iload_n (pc := 29) rfl d170_29 ?_
    refine x_iload_n (pc := 30) rfl d170_30 ?_
    refine x_icmp_ge (pc := 31) (tgt := 54) ⟨by omega, by omega⟩ ⟨by omega, by omega⟩ d170_31 (by decide) (fun g31 => ?_) (fun g31 => ?_)
    · refine x_mask [true, true, true, false] ?_
      dsimp only [mask]
      exact hQ J o (fun j j0 j1 => z j j0 (by omega)) u
    · exfalso; omega
  | succ m ih =>
    intro k J hk o z u
    have ek : J 187 k = B k := by rw [o 187 (by decide)]; exact hB k (by omega) (by omega)
    refine x_iload_n (pc := 29) rfl d170_29 ?_
    refine x_iload_n (pc := 30) rfl d170_30 ?_
    refine x_icmp_ge (pc := 31) (tgt := 54) ⟨by omega, by omega⟩ ⟨by omega, by omega⟩ d170_31 (by decide) (fun g31 => ?_) (fun g31 => ?_)
    · refine x_mask [true, true, true, false] ?_
      dsimp only [mask]
      exfalso; omega
    · refine x_aload_n (pc := 34) rfl d170_34 ?_
      refine x_iload_n (pc := 35) rfl d170_35 ?_
      refine x_iconst (pc := 36) d170_36 ?_
      refine x_iload_n (pc := 37) rfl d170_37 ?_
      refine x_iadd (pc := 38) d170_38 ?_
      refine x_aload_n (pc := 39) rfl d170_39 ?_
      refine m_getR (pc := 40) f170_25 (by decide +kernel) (xo181 (by omega)) rr181_8 d170_40 ?_
      refine x_iload_n (pc := 43) rfl d170_43 ?_
      refine m_iald (pc := 44) (xa187 (by omega)) (by omega) (by omega) (by omega) d170_44 ?_
      refine x_val (pc := 45) (w := (B k)) (ek) ?_
      refine x_cVv (pc := 45) c170_102 (rt_putM hl hq (f := mo) (w := (2 + k)) (z := (B k)) (by omega) (by omega)) (xo181 (by omega)) rfl rfl (Nat.le_of_ble_eq_true rfl) (by decide +kernel) (by decide +kernel) rfl d170_45 ?_
      refine x_iinc (pc := 48) rfl (by decide +kernel) rfl d170_48 ?_
      dsimp only [List.set]
      refine x_goto (pc := 51) (tgt := 29) d170_51 (by decide) ?_
      refine ih (k + 1) _ (by omega) (fun a ha => by rw [up2_off' _ _ _ ha]; exact o a ha) (fun j j0 j1 => ?_) (fun i hi => by rw [up2_i (by omega)]; exact u i hi)
      by_cases ej : j = k
      · rw [ej, up2_s]
      · rw [up2_i (by omega)]; exact z j j0 (by omega)
/-- j frames of the message are there -/
def McI (I : Nat → Int → Int) (g n : Int) (B : Int → Int) (j : Nat) (J : Nat → Int → Int) : Prop := (∀ a, a ≠ 182 → J a = I a) ∧ J 182 6 = g + j ∧ (∀ i : Int, i ≠ 6 → ¬ (243 + 16 * g ≤ i ∧ i < 243 + 16 * (g + j)) → J 182 i = I 182 i) ∧ ∀ x : Nat, x < j → FRM (J 182) (g + x) (min 4 (n - 4 * x)) (fun k => B (4 * x + k))
theorem lp_mc2 (hl : l.1.stackTraces = false) (hq : 192 ≤ q) {mo g : Int} {n N : Nat} {B : Int → Int} (m0 : 0 ≤ mo) (m1 : mo < 12) (hn : n ≤ 16) (g0 : 0 ≤ g) (g1 : g + N ≤ 48) (hN : N = (n + 3) / 4) (hB : ∀ k : Int, 0 ≤ k → k < n → I 182 (27 + 18 * mo + (2 + k)) = B k ∧ 0 ≤ B k ∧ B k ≤ 255) : ∀ (m j : Nat) (J : Nat → Int → Int), m + j = N → McI I g n B j J →
    Ex l 170 0 0 66 [some (.ref 181), some (.int (iI n)), some (.int (iI mo)), some (.int (iI (4 * (j : Int))))] [] (mm q J v fr) (oE q v fr none (McI I g n B N)) := by
  intro m
  induction m with
  | zero =>
    intro j J hj h
    have e : j = N := by omega
    refine x_iload_n (pc := 66) rfl d170_66 ?_
    refine x_iload_n (pc := 67) rfl d170_67 ?_
    refine x_icmp_ge (pc := 68) (tgt := 90) ⟨by omega, by omega⟩ ⟨by omega, by omega⟩ d170_68 (by decide) (fun g68 => ?_) (fun g68 => ?_)
    · refine x_vret (pc := 90) rfl (fun _ => rfl) d170_90 ?_
      rw [← e]; exact ⟨J, rfl, h⟩
    · exfalso; omega
  | succ m ih =>
    intro j J hj h
    obtain ⟨o, hj6, u, w⟩ := id h
    obtain ⟨nn, hnn⟩ : ∃ nn : Nat, (nn : Int) = min 4 ((n : Int) - 4 * j) := ⟨(min 4 ((n : Int) - 4 * j)).toNat, by omega⟩
    have hC : ∀ k : Int, 0 ≤ k → k < nn → J 182 (27 + 18 * mo + (2 + 4 * (j : Int) + k)) = B (4 * j + k) ∧ 0 ≤ B (4 * j + k) ∧ B (4 * j + k) ≤ 255 := fun k k0 k1 => by
      rw [u _ (by omega) (by omega), show 2 + 4 * (j : Int) + k = 2 + (4 * j + k) from by omega]
      exact hB _ (by omega) (by omega)
    refine x_iload_n (pc := 66) rfl d170_66 ?_
    refine x_iload_n (pc := 67) rfl d170_67 ?_
    refine x_icmp_ge (pc := 68) (tgt := 90) ⟨by omega, by omega⟩ ⟨by omega, by omega⟩ d170_68 (by decide) (fun g68 => ?_) (fun g68 => ?_)
    · refine x_vret (pc := 90) rfl (fun _ => rfl) d170_90 ?_
      exfalso; omega
    · refine x_aload_n (pc := 71) rfl d170_71 ?_
      refine x_iload_n (pc := 72) rfl d170_72 ?_
      refine x_iload_n (pc := 73) rfl d170_73 ?_
      refine x_iconst (pc := 74) d170_74 ?_
      refine x_iload_n (pc := 75) rfl d170_75 ?_
      refine x_iload_n (pc := 76) rfl d170_76 ?_
      refine x_isub (pc := 77) d170_77 ?_
      refine x_min (pc := 78) ⟨by omega, by omega⟩ ⟨by omega, by omega⟩ c170_105 (by decide +kernel) (Nat.le_of_ble_eq_true rfl) d170_78 ?_
      refine x_val (pc := 81) (w := (nn : Int)) (by omega) ?_
      refine x_cVev (pc := 81) c170_110 (rt_fc hl hq (F := g + j) (mo := mo) (fm := 4 * (j : Int)) (n := nn) (C := fun k => B (4 * j + k)) hj6 (by omega) (by omega) (by omega) (by omega) (by omega) (by omega) (by omega) hC) (xo181 (by omega)) rfl rfl (Nat.le_of_ble_eq_true rfl) (by decide +kernel) (by decide +kernel) d170_81 (fun J1 hJ1 => ?_)
      refine x_iinc (pc := 84) rfl (by decide +kernel) rfl d170_84 ?_
      dsimp only [List.set]
      refine x_goto (pc := 87) (tgt := 66) d170_87 (by decide) ?_
      obtain ⟨k1, k2, k3, k4⟩ := hJ1
      rw [show 4 * (j : Int) + 4 = 4 * ((j + 1 : Nat) : Int) from by omega]
      refine ih (j + 1) J1 (by omega) ⟨fun a ha => by rw [k1 a ha]; exact o a ha, by rw [k2]; omega, fun i i6 ig => by rw [k3 i i6 (by omega)]; exact u i i6 (by omega), fun x hx => ?_⟩
      by_cases ex : x = j
      · rw [ex, ← hnn]; exact k4
      · exact (w x (by omega)).cg (by omega) fun i i0 i1 => k3 i (by omega) (by omega)
theorem lp_mc3 (hl : l.1.stackTraces = false) (hq : 192 ≤ q) {mo g : Int} {n N : Nat} {B : Int → Int} (h5 : I 182 5 = mo) (h6 : I 182 6 = g) (m0 : 0 ≤ mo) (m1 : mo < 12) (hn : n ≤ 16) (g0 : 0 ≤ g) (g1 : g + N ≤ 48) (hN : N = (n + 3) / 4) (hB : ∀ k : Int, 0 ≤ k → k < n → I 182 (27 + 18 * mo + (2 + k)) = B k ∧ 0 ≤ B k ∧ B k ≤ 255) : Ex l 170 0 0 54 [some (.ref 181), some (.int (iI n)), some (.int (iI mo)), none] [] (mm q I v fr) (oE q v fr none (McI (up2 I 182 5 (mo + 1)) g n B N)) := by
  refine x_aload_n (pc := 54) rfl d170_54 ?_
  refine m_getR (pc := 55) f170_9 (by decide +kernel) (xo181 (by omega)) rr181_0 d170_55 ?_
  refine x_iconst (pc := 58) d170_58 ?_
  refine x_dup2 (pc := 59) rfl rfl d170_59 ?_
  refine m_iald (pc := 60) (xa182 (by omega)) (by omega) (by omega) (by omega) d170_60 ?_
  refine x_val (pc := 61) (w := mo) (h5) ?_
  refine x_iconst (pc := 61) d170_61 ?_
  refine x_iadd (pc := 62) d170_62 ?_
  refine m_iast (pc := 63) (xa182 (by omega)) (by omega) (by omega) (by omega) d170_63 ?_
  refine x_iconst (pc := 64) d170_64 ?_
  refine x_istore_n (pc := 65) (by decide +kernel) rfl d170_65 ?_
  dsimp only [List.set]
  exact lp_mc2 (I := up2 I 182 5 (mo + 1)) hl hq m0 m1 hn g0 g1 hN (fun k k0 k1 => by rw [up2_i (by omega)]; exact hB k k0 k1) N 0 _ (by omega) ⟨fun _ _ => rfl, by rw [up2_i (by decide), h6]; exact (Int.add_zero _).symm, fun _ _ _ => rfl, fun x hx => absurd hx (Nat.not_lt_zero x)⟩
theorem rt_mc (hl : l.1.stackTraces = false) (hq : 192 ≤ q) (hR : RV (I 182) A) (hA : AI A c e) (h12 : A 0 5 < 12) {n : Nat} {B : Int → Int} (n1 : 1 ≤ n) (n16 : n ≤ 16) (hB : ∀ k : Int, 0 ≤ k → k < n → I 187 k = B k ∧ 0 ≤ B k ∧ B k ≤ 255) : CT l 170 [.ref 181, .int (iI n)] (mm q I v fr) 0 0 (oE q v fr none (o182 I (addA A B n))) := by
  have hr := hA.rg
  refine mkct2 hl (by decide) (Nat.le_of_ble_eq_true rfl) (L := [some (.ref 181), some (.int (iI n)), none, none]) rfl ?_
  refine x_aload_n (pc := 0) rfl d170_0 ?_
  refine m_getR (pc := 1) f170_9 (by decide +kernel) (xo181 (by omega)) rr181_0 d170_1 ?_
  refine x_iconst (pc := 4) d170_4 ?_
  refine m_ialdW (pc := 5) (w := (A 0 5)) (xa182 (by omega)) (by omega) (by omega) (by omega) (by rw [hR.sc (i := 5) (by decide) (by decide)]) d170_5 ?_
  refine x_istore_n (pc := 6) (by decide +kernel) rfl d170_6 ?_
  dsimp only [List.set]
  refine x_aload_n (pc := 7) rfl d170_7 ?_
  refine x_iload_n (pc := 8) rfl d170_8 ?_
  refine x_iconst (pc := 9) d170_9 ?_
  refine x_iload_n (pc := 10) rfl d170_10 ?_
  refine x_cVv (pc := 11) c170_102 (rt_putM hl hq (f := (A 0 5)) (w := 0) (z := n) (by omega) (by omega)) (xo181 (by omega)) rfl rfl (Nat.le_of_ble_eq_true rfl) (by decide +kernel) (by decide +kernel) rfl d170_11 ?_
  refine x_aload_n (pc := 14) rfl d170_14 ?_
  refine x_iload_n (pc := 15) rfl d170_15 ?_
  refine x_iconst (pc := 16) d170_16 ?_
  refine x_aload_n (pc := 17) rfl d170_17 ?_
  refine m_getR (pc := 18) f170_9 (by decide +kernel) (xo181 (by omega)) rr181_0 d170_18 ?_
  refine x_bipush (pc := 21) (by decide) d170_21 ?_
  refine m_ialdW (pc := 23) (w := (A 0 6)) (xa182 (by omega)) (by omega) (by omega) (by omega) (by rw [up2_i (by omega), hR.sc (i := 6) (by decide) (by decide)]) d170_23 ?_
  refine x_cVv (pc := 24) c170_102 (rt_putM hl hq (f := (A 0 5)) (w := 1) (z := (A 0 6)) (by omega) (by omega)) (xo181 (by omega)) rfl rfl (Nat.le_of_ble_eq_true rfl) (by decide +kernel) (by decide +kernel) rfl d170_24 ?_
  refine x_iconst (pc := 27) d170_27 ?_
  refine x_istore_n (pc := 28) (by decide +kernel) rfl d170_28 ?_
  dsimp only [List.set]
  refine lp_mc1 (B := B) (I := up2 (up2 I 182 (27 + 18 * A 0 5 + 0) n) 182 (27 + 18 * A 0 5 + 1) (A 0 6)) hl hq (by omega) (by omega) n16 (fun k k0 k1 => by rw [up2_p (by decide), up2_p (by decide)]; exact (hB k k0 k1).1) (fun K1 o1 z1 u1 => ?_) n 0 _ (by omega) (fun _ _ => rfl) (fun j j0 j1 => absurd (show j < 0 from j1) (by omega)) (fun _ _ => rfl)
  have e5 : K1 182 5 = A 0 5 := by rw [u1 _ (by omega), up2_i (by omega), up2_i (by omega)]; exact hR.sc (by decide) (by decide)
  refine ex_mono (lp_mc3 (g := A 0 6) (N := (n + 3) / 4) (B := B) hl hq e5 (by rw [u1 _ (by omega), up2_i (by omega), up2_i (by omega)]; exact hR.sc (by decide) (by decide)) (by omega) (by omega) n16 (by omega) (by omega) rfl (fun k k0 k1 => ⟨z1 k k0 k1, (hB k k0 k1).2⟩)) fun o ho => ?_
  obtain ⟨K, ho, k1, k2, k3, k4⟩ := ho
  have r : ∀ i : Int, i ≠ 6 → i ≠ 5 → i ≠ 27 + 18 * A 0 5 + 0 → i ≠ 27 + 18 * A 0 5 + 1 → ¬ (27 + 18 * A 0 5 + 2 ≤ i ∧ i < 27 + 18 * A 0 5 + 2 + n) → ¬ (243 + 16 * A 0 6 ≤ i ∧ i < 243 + 16 * (A 0 6 + ((n + 3) / 4 : Nat))) → K 182 i = I 182 i := fun i c1 c2 c3 c4 c5 c6 => by rw [k3 i c1 c6, up2_i c2, u1 i c5, up2_i c4, up2_i c3]
  refine ⟨K, ho, fun a ha => by rw [k1 a ha, up2_off' _ _ _ ha, o1 a ha, up2_off' _ _ _ ha, up2_off' _ _ _ ha], ?_⟩
  refine rv_add hR hA h12 (by omega) (by omega) (fun i i0 i1 i5 i6 => r i i6 i5 (by omega) (by omega) (by omega) (by omega)) ?_ (by rw [k2]; omega) (fun i i0 i1 => r i (by omega) (by omega) (by omega) (by omega) (by omega) (by omega)) ?_ ?_ (fun k k0 k1 => ?_) (fun i i0 i1 => r i (by omega) (by omega) (by omega) (by omega) (by omega) (by omega)) (fun x hx => k4 x (by omega))
  · rw [k3 5 (by decide) (by omega), up2_s]
  · rw [k3 _ (by omega) (by omega), up2_i (by omega), u1 _ (by omega), up2_i (by omega), up2_s]
  · rw [k3 _ (by omega) (by omega), up2_i (by omega), u1 _ (by omega), up2_s]
  · rw [k3 _ (by omega) (by omega), up2_i (by omega), z1 k k0 k1]
/-- row and one number of the reference have changed: the answer -/
def oN (I : Nat → Int → Int) (z : Int) (A : AV) (K : Nat → Int → Int) : Prop := (∀ a, a ≠ 181 → a ≠ 182 → a ≠ 188 → K a = I a) ∧ (∀ i, i ≠ 10 → K 181 i = I 181 i) ∧ K 181 10 = z ∧ RV (K 182) A
theorem rt_sendT (hl : l.1.stackTraces = false) (hq : 192 ≤ q) (hR : RV (I 182) A) (hA : AI A c e) (h12 : A 0 5 < 12) {n : Nat} {B : Int → Int} (n1 : 1 ≤ n) (n16 : n ≤ 16) (hB : ∀ k : Int, 0 ≤ k → k < n → I 187 k = B k ∧ 0 ≤ B k ∧ B k ≤ 255) : CT l 190 [.ref 181, .int (iI n)] (mm q I v fr) 0 0 (oE q v fr (some (.int (iI 1))) (oN I (A 0 5) (addA A B n))) := by
  have hr := hA.rg
  refine mkct2 hl (by decide) (Nat.le_of_ble_eq_true rfl) (L := [some (.ref 181), some (.int (iI n))]) rfl ?_
  refine x_aload_n (pc := 0) rfl d190_0 ?_
  refine m_getR (pc := 1) f190_9 (by decide +kernel) (xo181 (by omega)) rr181_0 d190_1 ?_
  refine x_iconst (pc := 4) d190_4 ?_
  refine m_ialdW (pc := 5) (w := (A 0 5)) (xa182 (by omega)) (by omega) (by omega) (by omega) (by rw [hR.sc (i := 5) (by decide) (by decide)]) d190_5 ?_
  refine x_bipush (pc := 6) (by decide) d190_6 ?_
  refine x_icmp_ne (pc := 8) (tgt := 13) ⟨by omega, by omega⟩ ⟨by omega, by omega⟩ d190_8 (by decide) (fun g8 => ?_) (fun g8 => ?_)
  · refine x_aload_n (pc := 13) rfl d190_13 ?_
    refine x_aload_n (pc := 14) rfl d190_14 ?_
    refine m_getR (pc := 15) f190_9 (by decide +kernel) (xo181 (by omega)) rr181_0 d190_15 ?_
    refine x_iconst (pc := 18) d190_18 ?_
    refine m_ialdW (pc := 19) (w := (A 0 5)) (xa182 (by omega)) (by omega) (by omega) (by omega) (by rw [hR.sc (i := 5) (by decide) (by decide)]) d190_19 ?_
    refine m_putI (pc := 20) (z := 10) f190_176 (by decide +kernel) (by decide +kernel) rfl (xo181 (by omega)) d190_20 ?_
    obtain ⟨K, hK⟩ : ∃ Z : Nat → Int → Int, Z = (up2 I 181 10 (A 0 5)) := ⟨_, rfl⟩
    refine x_mem (J := K) (pc := 23) hK ?_
    have hRK : RV (K 182) A := by rw [hK, up2_off' _ _ _ (by decide)]; exact hR
    have hBK : ∀ k : Int, 0 ≤ k → k < n → K 187 k = B k ∧ 0 ≤ B k ∧ B k ≤ 255 := fun k k0 k1 => by rw [hK, up2_off' _ _ _ (by decide)]; exact hB k k0 k1
    refine x_aload_n (pc := 23) rfl d190_23 ?_
    refine x_iload_n (pc := 24) rfl d190_24 ?_
    refine x_cVev (pc := 25) c190_61 (rt_mc hl hq (A := A) hRK hA (by omega) (n := n) (B := B) (by omega) (by omega) hBK) (xo181 (by omega)) rfl rfl (Nat.le_of_ble_eq_true rfl) (by decide +kernel) (by decide +kernel) d190_25 (fun J1 hJ1 => ?_)
    refine x_iconst (pc := 28) d190_28 ?_
    refine x_zret (pc := 29) rfl (Or.inr rfl) (fun _ => rfl) d190_29 ?_
    obtain ⟨k1, k2⟩ := hJ1
    exact ⟨J1, rfl, fun a a1 a2 a8 => by rw [k1 a a2, hK, up2_off' _ _ _ a1], fun i i9 => by rw [k1 181 (by decide), hK, up2_i i9], by rw [k1 181 (by decide), hK, up2_s], k2⟩
  · refine x_iconst (pc := 11) d190_11 ?_
    refine x_zret (pc := 12) rfl (Or.inl rfl) (fun _ => rfl) d190_12 ?_
    exfalso; omega
theorem rt_sendF (hl : l.1.stackTraces = false) (hq : 192 ≤ q) (hR : RV (I 182) A) (hA : AI A c e) (h12 : ¬ A 0 5 < 12) {n : Int} : DT l 190 [.ref 181, .int (iI n)] (mm q I v fr) 0 0 (.inl (some (.int (iI 0))), mm q I v fr) := by
  have hr := hA.rg
  refine mkdt hl (by decide) (Nat.le_of_ble_eq_true rfl) (L := [some (.ref 181), some (.int (iI n))]) rfl ?_
  refine x_aload_n (pc := 0) rfl d190_0 ?_
  refine m_getR (pc := 1) f190_9 (by decide +kernel) (xo181 (by omega)) rr181_0 d190_1 ?_
  refine x_iconst (pc := 4) d190_4 ?_
  refine m_ialdW (pc := 5) (w := (A 0 5)) (xa182 (by omega)) (by omega) (by omega) (by omega) (by rw [hR.sc (i := 5) (by decide) (by decide)]) d190_5 ?_
  refine x_bipush (pc := 6) (by decide) d190_6 ?_
  refine x_icmp_ne (pc := 8) (tgt := 13) ⟨by omega, by omega⟩ ⟨by omega, by omega⟩ d190_8 (by decide) (fun g8 => ?_) (fun g8 => ?_)
  · exfalso; omega
  · refine x_iconst (pc := 11) d190_11 ?_
    refine x_zret (pc := 12) rfl (Or.inl rfl) (fun _ => rfl) d190_12 ?_
    rfl
theorem rt_trT (hl : l.1.stackTraces = false) (hq : 192 ≤ q) (hR : RV (I 182) A) (hA : AINV A c) (hc : c ≤ 10000000) (h9 : A 0 7 ≤ 900000) {n : Nat} (n60 : n ≤ 60) : CT l 191 [.ref 181, .int (iI n)] (mm q I v fr) 0 0 (oE q v fr (some (.int (iI 1))) (oN I (mkS n A).1 (mkS n A).2)) := by
  have hr := hA.rg
  refine mkct2 hl (by decide) (Nat.le_of_ble_eq_true rfl) (L := [some (.ref 181), some (.int (iI n))]) rfl ?_
  refine x_aload_n (pc := 0) rfl d191_0 ?_
  refine m_getR (pc := 1) f191_9 (by decide +kernel) (xo181 (by omega)) rr181_0 d191_1 ?_
  refine x_bipush (pc := 4) (by decide) d191_4 ?_
  refine m_ialdW (pc := 6) (w := (A 0 7)) (xa182 (by omega)) (by omega) (by omega) (by omega) (by rw [hR.sc (i := 7) (by decide) (by decide)]) d191_6 ?_
  refine x_ldc (pc := 7) (z := 900000) k191_179 (by decide) d191_7 ?_
  refine x_icmp_le (pc := 9) (tgt := 14) ⟨by omega, by omega⟩ ⟨by omega, by omega⟩ d191_9 (by decide) (fun g9 => ?_) (fun g9 => ?_)
  · refine x_aload_n (pc := 14) rfl d191_14 ?_
    refine x_aload_n (pc := 15) rfl d191_15 ?_
    refine x_iload_n (pc := 16) rfl d191_16 ?_
    refine x_cVes (pc := 17) c191_180 (rt_once hl hq (A := A) hR hA (n := n) (by omega) (by omega)) (xo181 (by omega)) rfl rfl (Nat.le_of_ble_eq_true rfl) (by decide +kernel) (by decide +kernel) d191_17 (fun J1 hJ1 => ?_)
    refine m_putI (pc := 20) (z := 10) f191_176 (by decide +kernel) (by decide +kernel) rfl (xo181 (by omega)) d191_20 ?_
    refine x_iconst (pc := 23) d191_23 ?_
    refine x_zret (pc := 24) rfl (Or.inr rfl) (fun _ => rfl) d191_24 ?_
    obtain ⟨k1, k2⟩ := hJ1
    exact ⟨_, rfl, fun a a1 a2 a8 => by rw [up2_off' _ _ _ a1, k1 a a2 a8], fun i i9 => by rw [up2_i i9, k1 181 (by decide) (by decide)], up2_s, by rw [up2_off' _ _ _ (by decide)]; exact k2⟩
  · refine x_iconst (pc := 12) d191_12 ?_
    refine x_zret (pc := 13) rfl (Or.inl rfl) (fun _ => rfl) d191_13 ?_
    exfalso; omega
theorem rt_trF (hl : l.1.stackTraces = false) (hq : 192 ≤ q) (hR : RV (I 182) A) (hA : AINV A c) (hc : c ≤ 10000000) (h9 : ¬ A 0 7 ≤ 900000) {n : Int} : DT l 191 [.ref 181, .int (iI n)] (mm q I v fr) 0 0 (.inl (some (.int (iI 0))), mm q I v fr) := by
  have hr := hA.rg
  refine mkdt hl (by decide) (Nat.le_of_ble_eq_true rfl) (L := [some (.ref 181), some (.int (iI n))]) rfl ?_
  refine x_aload_n (pc := 0) rfl d191_0 ?_
  refine m_getR (pc := 1) f191_9 (by decide +kernel) (xo181 (by omega)) rr181_0 d191_1 ?_
  refine x_bipush (pc := 4) (by decide) d191_4 ?_
  refine m_ialdW (pc := 6) (w := (A 0 7)) (xa182 (by omega)) (by omega) (by omega) (by omega) (by rw [hR.sc (i := 7) (by decide) (by decide)]) d191_6 ?_
  refine x_ldc (pc := 7) (z := 900000) k191_179 (by decide) d191_7 ?_
  refine x_icmp_le (pc := 9) (tgt := 14) ⟨by omega, by omega⟩ ⟨by omega, by omega⟩ d191_9 (by decide) (fun g9 => ?_) (fun g9 => ?_)
  · exfalso; omega
  · refine x_iconst (pc := 12) d191_12 ?_
    refine x_zret (pc := 13) rfl (Or.inl rfl) (fun _ => rfl) d191_13 ?_
    rfl
theorem rt_may (hl : l.1.stackTraces = false) (hq : 192 ≤ q) (hR : RV (I 182) A) (hA : AI A c e) {m : Int} (h0 : 0 ≤ m) (h1 : m < A 0 5) : DT l 193 [.ref 181, .int (iI m)] (mm q I v fr) 0 0 (.inl (some (.int (iI (b01 (decide (stA A m = 2 ∧ A 0 5 < 12)))))), mm q I v fr) := by
  have hr := hA.rg
  have hs : stA A m = 0 ∨ stA A m = 1 ∨ stA A m = 2 := by unfold stA; split; exact Or.inl rfl; split; exact Or.inr (Or.inr rfl); exact Or.inr (Or.inl rfl)
  refine mkdt hl (by decide) (Nat.le_of_ble_eq_true rfl) (L := [some (.ref 181), some (.int (iI m))]) rfl ?_
  refine x_aload_n (pc := 0) rfl d193_0 ?_
  refine x_iload_n (pc := 1) rfl d193_1 ?_
  refine x_cVs (pc := 2) c193_186 (rt_st hl hq (A := A) hR hA (m := m) (by omega) (by omega)) (xo181 (by omega)) rfl rfl (Nat.le_of_ble_eq_true rfl) (by decide +kernel) (by decide +kernel) rfl d193_2 ?_
  refine x_iconst (pc := 5) d193_5 ?_
  refine x_icmp_ne (pc := 6) (tgt := 24) ⟨by omega, by omega⟩ ⟨by omega, by omega⟩ d193_6 (by decide) (fun g6 => ?_) (fun g6 => ?_)
  · refine x_iconst (pc := 24) d193_24 ?_
    refine x_zret (pc := 25) rfl (Or.inl rfl) (fun _ => rfl) d193_25 ?_
    rw [decide_eq_false (by omega)]; rfl
  · refine x_aload_n (pc := 9) rfl d193_9 ?_
    refine m_getR (pc := 10) f193_9 (by decide +kernel) (xo181 (by omega)) rr181_0 d193_10 ?_
    refine x_iconst (pc := 13) d193_13 ?_
    refine m_ialdW (pc := 14) (w := (A 0 5)) (xa182 (by omega)) (by omega) (by omega) (by omega) (by rw [hR.sc (i := 5) (by decide) (by decide)]) d193_14 ?_
    refine x_bipush (pc := 15) (by decide) d193_15 ?_
    refine x_icmp_ge (pc := 17) (tgt := 24) ⟨by omega, by omega⟩ ⟨by omega, by omega⟩ d193_17 (by decide) (fun g17 => ?_) (fun g17 => ?_)
    · refine x_iconst (pc := 24) d193_24 ?_
      refine x_zret (pc := 25) rfl (Or.inl rfl) (fun _ => rfl) d193_25 ?_
      rw [decide_eq_false (by omega)]; rfl
    · refine x_iconst (pc := 20) d193_20 ?_
      refine x_goto (pc := 21) (tgt := 25) d193_21 (by decide) ?_
      refine x_zret (pc := 25) rfl (Or.inr rfl) (fun _ => rfl) d193_25 ?_
      rw [decide_eq_true (by omega)]; rfl
theorem rt_waitT (hl : l.1.stackTraces = false) (hq : 192 ≤ q) (hR : RV (I 182) A) (hA : AI A c e) (hc : c ≤ 10000000) {t : Int} (t0 : 0 ≤ t) (t1 : t ≤ 999) (h9 : A 0 7 + t ≤ 900000) : CT l 195 [.ref 181, .int (iI t)] (mm q I v fr) 0 0 (oE q v fr (some (.int (iI 1))) (oN I (A 0 7 + t) (waitA A t))) := by
  have hr := hA.rg
  refine mkct2 hl (by decide) (Nat.le_of_ble_eq_true rfl) (L := [some (.ref 181), some (.int (iI t))]) rfl ?_
  refine x_aload_n (pc := 0) rfl d195_0 ?_
  refine m_getR (pc := 1) f195_9 (by decide +kernel) (xo181 (by omega)) rr181_0 d195_1 ?_
  refine x_bipush (pc := 4) (by decide) d195_4 ?_
  refine m_ialdW (pc := 6) (w := (A 0 7)) (xa182 (by omega)) (by omega) (by omega) (by omega) (by rw [hR.sc (i := 7) (by decide) (by decide)]) d195_6 ?_
  refine x_iload_n (pc := 7) rfl d195_7 ?_
  refine x_iadd (pc := 8) d195_8 ?_
  refine x_ldc (pc := 9) (z := 900000) k195_179 (by decide) d195_9 ?_
  refine x_icmp_le (pc := 11) (tgt := 16) ⟨by omega, by omega⟩ ⟨by omega, by omega⟩ d195_11 (by decide) (fun g11 => ?_) (fun g11 => ?_)
  · refine x_aload_n (pc := 16) rfl d195_16 ?_
    refine m_getR (pc := 17) f195_9 (by decide +kernel) (xo181 (by omega)) rr181_0 d195_17 ?_
    refine x_bipush (pc := 20) (by decide) d195_20 ?_
    refine x_dup2 (pc := 22) rfl rfl d195_22 ?_
    refine m_ialdW (pc := 23) (w := (A 0 7)) (xa182 (by omega)) (by omega) (by omega) (by omega) (by rw [hR.sc (i := 7) (by decide) (by decide)]) d195_23 ?_
    refine x_iload_n (pc := 24) rfl d195_24 ?_
    refine x_iadd (pc := 25) d195_25 ?_
    refine m_iast (pc := 26) (xa182 (by omega)) (by omega) (by omega) (by omega) d195_26 ?_
    refine x_aload_n (pc := 27) rfl d195_27 ?_
    refine m_getR (pc := 28) f195_9 (by decide +kernel) (xo181 (by omega)) rr181_0 d195_28 ?_
    refine x_bipush (pc := 31) (by decide) d195_31 ?_
    refine x_dup2 (pc := 33) rfl rfl d195_33 ?_
    refine m_ialdW (pc := 34) (w := (A 0 17)) (xa182 (by omega)) (by omega) (by omega) (by omega) (by rw [up2_i (by decide), hR.sc (i := 17) (by decide) (by decide)]) d195_34 ?_
    refine x_iload_n (pc := 35) rfl d195_35 ?_
    refine x_iadd (pc := 36) d195_36 ?_
    refine m_iast (pc := 37) (xa182 (by omega)) (by omega) (by omega) (by omega) d195_37 ?_
    refine x_aload_n (pc := 38) rfl d195_38 ?_
    refine x_aload_n (pc := 39) rfl d195_39 ?_
    refine m_getR (pc := 40) f195_9 (by decide +kernel) (xo181 (by omega)) rr181_0 d195_40 ?_
    refine x_bipush (pc := 43) (by decide) d195_43 ?_
    refine m_ialdW (pc := 45) (w := ((A 0 7) + t)) (xa182 (by omega)) (by omega) (by omega) (by omega) (by rw [up2_i (by decide), up2_s]) d195_45 ?_
    refine m_putI (pc := 46) (z := 10) f195_176 (by decide +kernel) (by decide +kernel) rfl (xo181 (by omega)) d195_46 ?_
    refine x_iconst (pc := 49) d195_49 ?_
    refine x_zret (pc := 50) rfl (Or.inr rfl) (fun _ => rfl) d195_50 ?_
    exact ⟨_, rfl, fun a a1 a2 a8 => by rw [up2_off' _ _ _ a1, up2_off' _ _ _ a2, up2_off' _ _ _ a2], fun i i9 => by rw [up2_i i9, up2_p (by decide), up2_p (by decide)], up2_s, by rw [up2_off' _ _ _ (by decide)]; exact (hR.w hA.rb _ _ (by decide) (by decide) (by decide) (by decide) (by decide)).w (hA.rb.w _ _ (by decide) (by decide) (by decide)) _ _ (by decide) (by decide) (by decide) (by decide) (by decide)⟩
  · refine x_iconst (pc := 14) d195_14 ?_
    refine x_zret (pc := 15) rfl (Or.inl rfl) (fun _ => rfl) d195_15 ?_
    exfalso; omega
theorem rt_waitF (hl : l.1.stackTraces = false) (hq : 192 ≤ q) (hR : RV (I 182) A) (hA : AI A c e) (hc : c ≤ 10000000) {t : Int} (t0 : 0 ≤ t) (t1 : t ≤ 999) (h9 : ¬ A 0 7 + t ≤ 900000) : DT l 195 [.ref 181, .int (iI t)] (mm q I v fr) 0 0 (.inl (some (.int (iI 0))), mm q I v fr) := by
  have hr := hA.rg
  refine mkdt hl (by decide) (Nat.le_of_ble_eq_true rfl) (L := [some (.ref 181), some (.int (iI t))]) rfl ?_
  refine x_aload_n (pc := 0) rfl d195_0 ?_
  refine m_getR (pc := 1) f195_9 (by decide +kernel) (xo181 (by omega)) rr181_0 d195_1 ?_
  refine x_bipush (pc := 4) (by decide) d195_4 ?_
  refine m_ialdW (pc := 6) (w := (A 0 7)) (xa182 (by omega)) (by omega) (by omega) (by omega) (by rw [hR.sc (i := 7) (by decide) (by decide)]) d195_6 ?_
  refine x_iload_n (pc := 7) rfl d195_7 ?_
  refine x_iadd (pc := 8) d195_8 ?_
  refine x_ldc (pc := 9) (z := 900000) k195_179 (by decide) d195_9 ?_
  refine x_icmp_le (pc := 11) (tgt := 16) ⟨by omega, by omega⟩ ⟨by omega, by omega⟩ d195_11 (by decide) (fun g11 => ?_) (fun g11 => ?_)
  · exfalso; omega
  · refine x_iconst (pc := 14) d195_14 ?_
    refine x_zret (pc := 15) rfl (Or.inl rfl) (fun _ => rfl) d195_15 ?_
    rfl
theorem rt_drT (hl : l.1.stackTraces = false) (hq : 192 ≤ q) (hR : RV (I 182) A) (hA : AI A c e) {t : Int} : CT l 196 [.ref 181, .int (iI t)] (mm q I v fr) 0 0 (oE q v fr (some (.int (iI 1))) (oN I (A 0 1) (up2 A 0 1 t))) := by
  have hr := hA.rg
  refine mkct2 hl (by decide) (Nat.le_of_ble_eq_true rfl) (L := [some (.ref 181), some (.int (iI t))]) rfl ?_
  refine x_aload_n (pc := 0) rfl d196_0 ?_
  refine x_aload_n (pc := 1) rfl d196_1 ?_
  refine m_getR (pc := 2) f196_9 (by decide +kernel) (xo181 (by omega)) rr181_0 d196_2 ?_
  refine x_iconst (pc := 5) d196_5 ?_
  refine m_ialdW (pc := 6) (w := (A 0 1)) (xa182 (by omega)) (by omega) (by omega) (by omega) (by rw [hR.sc (i := 1) (by decide) (by decide)]) d196_6 ?_
  refine m_putI (pc := 7) (z := 10) f196_176 (by decide +kernel) (by decide +kernel) rfl (xo181 (by omega)) d196_7 ?_
  refine x_aload_n (pc := 10) rfl d196_10 ?_
  refine m_getR (pc := 11) f196_9 (by decide +kernel) (xo181 (by omega)) rr181_0 d196_11 ?_
  refine x_iconst (pc := 14) d196_14 ?_
  refine x_iload_n (pc := 15) rfl d196_15 ?_
  refine m_iast (pc := 16) (xa182 (by omega)) (by omega) (by omega) (by omega) d196_16 ?_
  refine x_iconst (pc := 17) d196_17 ?_
  refine x_zret (pc := 18) rfl (Or.inr rfl) (fun _ => rfl) d196_18 ?_
  exact ⟨_, rfl, fun a a1 a2 a8 => by rw [up2_off' _ _ _ a2, up2_off' _ _ _ a1], fun i i9 => by rw [up2_p (by decide), up2_i i9], by rw [up2_p (by decide), up2_s], by rw [up2_at, up2_off' _ _ _ (by decide), ← up2_at]; exact hR.w hA.rb _ _ (by decide) (by decide) (by decide) (by decide) (by decide)⟩
theorem rf_d {g h : Int → Int} {A B : AV} {c e : Int} (hR : RV g A) (hA : AI A c e) (e5 : B 0 5 = A 0 5) (e6 : B 0 6 = A 0 6) (r : ∀ k, k = 4 ∨ k = 5 ∨ k = 6 ∨ k = 7 ∨ k = 8 ∨ k = 9 ∨ k = 10 ∨ k = 11 → B k = A k) (hs : ∀ i : Int, 0 ≤ i → i < 18 → h i = B 0 i) (hd : ∀ d : Int, 0 ≤ d → d < B 0 4 → h (18 + 3 * d + 0) = B 1 d ∧ h (18 + 3 * d + 1) = B 2 d ∧ h (18 + 3 * d + 2) = B 3 d) (hg : ∀ i : Int, 27 ≤ i → h i = g i) : RV h B := by
  refine ⟨hs, hd, fun m m0 m1 => ?_, rf_cg hR e6 (r 6 (by omega)) (r 7 (by omega)) (r 8 (by omega)) (r 9 (by omega)) (r 10 (by omega)) (r 11 (by omega)) fun i i0 => hg i (by omega)⟩
  rw [e5] at m1
  rw [r 4 (by omega), r 5 (by omega), txtA_cg (r 5 (by omega)) (r 10 (by omega)), hg _ (by omega), hg _ (by omega)]
  obtain ⟨a1, a2, a3⟩ := hR.2.2.1 m m0 m1
  exact ⟨a1, a2, fun k k0 k1 => by rw [hg _ (by omega)]; exact a3 k k0 k1⟩
theorem rv_dog {g h : Int → Int} {A : AV} {c e : Int} (hR : RV g A) (hA : AI A c e) (h3 : A 0 4 < 3) {x y z : Int} (hx : h (18 + 3 * A 0 4 + 0) = x) (hy : h (18 + 3 * A 0 4 + 1) = y) (hz : h (18 + 3 * A 0 4 + 2) = z) (h4 : h 4 = A 0 4 + 1) (ho : ∀ i : Int, i ≠ 4 → ¬ (18 + 3 * A 0 4 ≤ i ∧ i < 21 + 3 * A 0 4) → h i = g i) : RV h (dogA A x y z) := by
  have hr := hA.rg
  refine rf_d hR hA (dogA_o (by decide) (by decide)) (dogA_o (by decide) (by decide)) (fun k hk => funext fun i => dogA_o (by omega) (by omega)) (fun i i0 i1 => ?_) (fun d d0 d1 => ?_) fun i i0 => ho i (by omega) (by omega)
  · by_cases e4 : i = 4
    · rw [e4, h4, (dogA_e (i := 0)).2.2.2]
    · rw [dogA_o (by decide) (fun _ => e4), ho i e4 (by omega), hR.sc i0 i1]
  · rw [(dogA_e (i := 0)).2.2.2] at d1
    rw [dogA_e.1, dogA_e.2.1, dogA_e.2.2.1]
    by_cases ed : d = A 0 4
    · rw [if_pos ed, if_pos ed, if_pos ed, ed]; exact ⟨hx, hy, hz⟩
    · rw [if_neg ed, if_neg ed, if_neg ed, ho _ (by omega) (by omega), ho _ (by omega) (by omega), ho _ (by omega) (by omega)]
      exact hR.2.1 d d0 (by omega)
theorem rt_dogT (hl : l.1.stackTraces = false) (hq : 192 ≤ q) (hR : RV (I 182) A) (hA : AI A c e) (h3 : A 0 4 < 3) {x y z : Int} : CT l 197 [.ref 181, .int (iI x), .int (iI y), .int (iI z)] (mm q I v fr) 0 0 (oE q v fr (some (.int (iI 1))) (oN I (A 0 4) (dogA A x y z))) := by
  have hr := hA.rg
  refine mkct2 hl (by decide) (Nat.le_of_ble_eq_true rfl) (L := [some (.ref 181), some (.int (iI x)), some (.int (iI y)), some (.int (iI z)), none]) rfl ?_
  refine x_aload_n (pc := 0) rfl d197_0 ?_
  refine m_getR (pc := 1) f197_9 (by decide +kernel) (xo181 (by omega)) rr181_0 d197_1 ?_
  refine x_iconst (pc := 4) d197_4 ?_
  refine m_ialdW (pc := 5) (w := (A 0 4)) (xa182 (by omega)) (by omega) (by omega) (by omega) (by rw [hR.sc (i := 4) (by decide) (by decide)]) d197_5 ?_
  refine x_iconst (pc := 6) d197_6 ?_
  refine x_icmp_ne (pc := 7) (tgt := 12) ⟨by omega, by omega⟩ ⟨by omega, by omega⟩ d197_7 (by decide) (fun g7 => ?_) (fun g7 => ?_)
  · refine x_bipush (pc := 12) (by decide) d197_12 ?_
    refine x_iconst (pc := 14) d197_14 ?_
    refine x_aload_n (pc := 15) rfl d197_15 ?_
    refine m_getR (pc := 16) f197_9 (by decide +kernel) (xo181 (by omega)) rr181_0 d197_16 ?_
    refine x_iconst (pc := 19) d197_19 ?_
    refine m_ialdW (pc := 20) (w := (A 0 4)) (xa182 (by omega)) (by omega) (by omega) (by omega) (by rw [hR.sc (i := 4) (by decide) (by decide)]) d197_20 ?_
    refine x_imul (pc := 21) d197_21 ?_
    refine x_iadd (pc := 22) d197_22 ?_
    refine x_istore (pc := 23) (by decide +kernel) rfl d197_23 ?_
    dsimp only [List.set]
    refine x_aload_n (pc := 25) rfl d197_25 ?_
    refine m_getR (pc := 26) f197_9 (by decide +kernel) (xo181 (by omega)) rr181_0 d197_26 ?_
    refine x_iload (pc := 29) rfl d197_29 ?_
    refine x_iconst (pc := 31) d197_31 ?_
    refine x_iadd (pc := 32) d197_32 ?_
    refine x_iload_n (pc := 33) rfl d197_33 ?_
    refine m_iast (pc := 34) (xa182 (by omega)) (by omega) (by omega) (by omega) d197_34 ?_
    refine x_aload_n (pc := 35) rfl d197_35 ?_
    refine m_getR (pc := 36) f197_9 (by decide +kernel) (xo181 (by omega)) rr181_0 d197_36 ?_
    refine x_iload (pc := 39) rfl d197_39 ?_
    refine x_iconst (pc := 41) d197_41 ?_
    refine x_iadd (pc := 42) d197_42 ?_
    refine x_iload_n (pc := 43) rfl d197_43 ?_
    refine m_iast (pc := 44) (xa182 (by omega)) (by omega) (by omega) (by omega) d197_44 ?_
    refine x_aload_n (pc := 45) rfl d197_45 ?_
    refine m_getR (pc := 46) f197_9 (by decide +kernel) (xo181 (by omega)) rr181_0 d197_46 ?_
    refine x_iload (pc := 49) rfl d197_49 ?_
    refine x_iconst (pc := 51) d197_51 ?_
    refine x_iadd (pc := 52) d197_52 ?_
    refine x_iload_n (pc := 53) rfl d197_53 ?_
    refine m_iast (pc := 54) (xa182 (by omega)) (by omega) (by omega) (by omega) d197_54 ?_
    refine x_aload_n (pc := 55) rfl d197_55 ?_
    refine x_aload_n (pc := 56) rfl d197_56 ?_
    refine m_getR (pc := 57) f197_9 (by decide +kernel) (xo181 (by omega)) rr181_0 d197_57 ?_
    refine x_iconst (pc := 60) d197_60 ?_
    refine m_ialdW (pc := 61) (w := (A 0 4)) (xa182 (by omega)) (by omega) (by omega) (by omega) (by rw [up2_i (by omega), up2_i (by omega), up2_i (by omega), hR.sc (i := 4) (by decide) (by decide)]) d197_61 ?_
    refine m_putI (pc := 62) (z := 10) f197_176 (by decide +kernel) (by decide +kernel) rfl (xo181 (by omega)) d197_62 ?_
    refine x_aload_n (pc := 65) rfl d197_65 ?_
    refine m_getR (pc := 66) f197_9 (by decide +kernel) (xo181 (by omega)) rr181_0 d197_66 ?_
    refine x_iconst (pc := 69) d197_69 ?_
    refine x_dup2 (pc := 70) rfl rfl d197_70 ?_
    refine m_ialdW (pc := 71) (w := (A 0 4)) (xa182 (by omega)) (by omega) (by omega) (by omega) (by rw [up2_p (by omega), up2_i (by omega), up2_i (by omega), up2_i (by omega), hR.sc (i := 4) (by decide) (by decide)]) d197_71 ?_
    refine x_iconst (pc := 72) d197_72 ?_
    refine x_iadd (pc := 73) d197_73 ?_
    refine m_iast (pc := 74) (xa182 (by omega)) (by omega) (by omega) (by omega) d197_74 ?_
    refine x_iconst (pc := 75) d197_75 ?_
    refine x_zret (pc := 76) rfl (Or.inr rfl) (fun _ => rfl) d197_76 ?_
    refine ⟨_, rfl, fun a a1 a2 a8 => by rw [up2_off' _ _ _ a2, up2_off' _ _ _ a1, up2_off' _ _ _ a2, up2_off' _ _ _ a2, up2_off' _ _ _ a2], fun i i9 => by rw [up2_p (by decide), up2_i i9, up2_p (by decide), up2_p (by decide), up2_p (by decide)], by rw [up2_p (by decide), up2_s], ?_⟩
    refine rv_dog hR hA h3 ?_ ?_ ?_ up2_s fun i i4 ig => ?_
    · rw [up2_i (by omega), up2_p (by decide), up2_i (by omega), up2_i (by omega), up2_s]
    · rw [up2_i (by omega), up2_p (by decide), up2_i (by omega), up2_s]
    · rw [up2_i (by omega), up2_p (by decide), up2_s]
    · rw [up2_i i4, up2_p (by decide), up2_i (by omega), up2_i (by omega), up2_i (by omega)]
  · refine x_iconst (pc := 10) d197_10 ?_
    refine x_zret (pc := 11) rfl (Or.inl rfl) (fun _ => rfl) d197_11 ?_
    exfalso; omega
theorem rt_dogF (hl : l.1.stackTraces = false) (hq : 192 ≤ q) (hR : RV (I 182) A) (hA : AI A c e) (h3 : ¬ A 0 4 < 3) {x y z : Int} : DT l 197 [.ref 181, .int (iI x), .int (iI y), .int (iI z)] (mm q I v fr) 0 0 (.inl (some (.int (iI 0))), mm q I v fr) := by
  have hr := hA.rg
  refine mkdt hl (by decide) (Nat.le_of_ble_eq_true rfl) (L := [some (.ref 181), some (.int (iI x)), some (.int (iI y)), some (.int (iI z)), none]) rfl ?_
  refine x_aload_n (pc := 0) rfl d197_0 ?_
  refine m_getR (pc := 1) f197_9 (by decide +kernel) (xo181 (by omega)) rr181_0 d197_1 ?_
  refine x_iconst (pc := 4) d197_4 ?_
  refine m_ialdW (pc := 5) (w := (A 0 4)) (xa182 (by omega)) (by omega) (by omega) (by omega) (by rw [hR.sc (i := 4) (by decide) (by decide)]) d197_5 ?_
  refine x_iconst (pc := 6) d197_6 ?_
  refine x_icmp_ne (pc := 7) (tgt := 12) ⟨by omega, by omega⟩ ⟨by omega, by omega⟩ d197_7 (by decide) (fun g7 => ?_) (fun g7 => ?_)
  · exfalso; omega
  · refine x_iconst (pc := 10) d197_10 ?_
    refine x_zret (pc := 11) rfl (Or.inl rfl) (fun _ => rfl) d197_11 ?_
    rfl
theorem rv_rm {g h : Int → Int} {A : AV} {c e d : Int} (hR : RV g A) (hA : AI A c e) (d0 : 0 ≤ d) (d1 : d < A 0 4) (h4 : h 4 = A 0 4 - 1) (hm : ∀ i : Int, 18 + 3 * d ≤ i → i < 18 + 3 * (A 0 4 - 1) → h i = g (i + 3)) (ho : ∀ i : Int, i ≠ 4 → ¬ (18 + 3 * d ≤ i ∧ i < 18 + 3 * (A 0 4 - 1)) → h i = g i) : RV h (rmA A d) := by
  have hr := hA.rg
  refine rf_d hR hA (rmA_o (by decide) (by decide)) (rmA_o (by decide) (by decide)) (fun k hk => funext fun i => rmA_o (by omega) (by omega)) (fun i i0 i1 => ?_) (fun x x0 x1 => ?_) fun i i0 => ho i (by omega) (by omega)
  · by_cases e4 : i = 4
    · rw [e4, h4]; rfl
    · rw [rmA_o (by decide) (fun _ => e4), ho i e4 (by omega), hR.sc i0 i1]
  · have x1 : x < A 0 4 - 1 := x1
    rw [rmA_d (by omega), rmA_d (by omega), rmA_d (by omega)]
    by_cases ed : d ≤ x
    · rw [if_pos ed, if_pos ed, if_pos ed, if_pos (by omega), if_pos (by omega), if_pos (by omega), hm _ (by omega) (by omega), hm _ (by omega) (by omega), hm _ (by omega) (by omega), show 18 + 3 * x + 0 + 3 = 18 + 3 * (x + 1) + 0 from by omega, show 18 + 3 * x + 1 + 3 = 18 + 3 * (x + 1) + 1 from by omega, show 18 + 3 * x + 2 + 3 = 18 + 3 * (x + 1) + 2 from by omega]
      exact hR.2.1 (x + 1) (by omega) (by omega)
    · rw [if_neg ed, if_neg ed, if_neg ed, ho _ (by omega) (by omega), ho _ (by omega) (by omega), ho _ (by omega) (by omega)]
      exact hR.2.1 x x0 (by omega)
theorem lp_rrm (hl : l.1.stackTraces = false) (hq : 192 ≤ q) {d n : Int} (d0 : 0 ≤ d) (d1 : d ≤ n) (n2 : n ≤ 2) {Q : OO → Prop} (hQ : ∀ K : Nat → Int → Int, (∀ a, a ≠ 182 → K a = I a) → (∀ i : Int, 18 + 3 * d ≤ i → i < 18 + 3 * n → K 182 i = I 182 (i + 3)) → (∀ i : Int, ¬ (18 + 3 * d ≤ i ∧ i < 18 + 3 * n) → K 182 i = I 182 i) → Ex l 198 0 0 62 [some (.ref 181), none, none] [] (mm q K v fr) Q) : ∀ (m : Nat) (i : Int) (J : Nat → Int → Int), m + i = 18 + 3 * n → 18 + 3 * d ≤ i → J 182 4 = n → (∀ a, a ≠ 182 → J a = I a) → (∀ j : Int, 18 + 3 * d ≤ j → j < i → J 182 j = I 182 (j + 3)) → (∀ j : Int, ¬ (18 + 3 * d ≤ j ∧ j < i) → J 182 j = I 182 j) →
    Ex l 198 0 0 27 [some (.ref 181), none, some (.int (iI i))] [] (mm q J v fr) Q := by
  intro m
  induction m with
  | zero =>
    intro i J hi i0 h4 o z u
    refine x_iload_n (pc := 27) rfl d198_27 ?_
    refine x_bipush (pc := 28) (by decide) d198_28 ?_
    refine x_iconst (pc := 30) d198_30 ?_
    refine x_aload_n (pc := 31) rfl d198_31 ?_
    refine m_getR (pc := 32) f198_9 (by decide +kernel) (xo181 (by omega)) rr181_0 d198_32 ?_
    refine x_iconst (pc := 35) d198_35 ?_
    refine m_iald (pc := 36) (xa182 (by omega)) (by omega) (by omega) (by omega) d198_36 ?_
    refine x_val (pc := 37) (w := n) (h4) ?_
    refine x_imul (pc := 37) d198_37 ?_
    refine x_iadd (pc := 38) d198_38 ?_
    refine x_icmp_ge (pc := 39) (tgt := 62) ⟨by omega, by omega⟩ ⟨by omega, by omega⟩ d198_39 (by decide) (fun g39 => ?_) (fun g39 => ?_)
    · refine x_mask [true, true, false] ?_
      dsimp only [mask]
      exact hQ J o (fun j j0 j1 => z j j0 (by omega)) (fun j hj => u j (by omega))
    · exfalso; omega
  | succ m ih =>
    intro i J hi i0 h4 o z u
    refine x_iload_n (pc := 27) rfl d198_27 ?_
    refine x_bipush (pc := 28) (by decide) d198_28 ?_
    refine x_iconst (pc := 30) d198_30 ?_
    refine x_aload_n (pc := 31) rfl d198_31 ?_
    refine m_getR (pc := 32) f198_9 (by decide +kernel) (xo181 (by omega)) rr181_0 d198_32 ?_
    refine x_iconst (pc := 35) d198_35 ?_
    refine m_iald (pc := 36) (xa182 (by omega)) (by omega) (by omega) (by omega) d198_36 ?_
    refine x_val (pc := 37) (w := n) (h4) ?_
    refine x_imul (pc := 37) d198_37 ?_
    refine x_iadd (pc := 38) d198_38 ?_
    refine x_icmp_ge (pc := 39) (tgt := 62) ⟨by omega, by omega⟩ ⟨by omega, by omega⟩ d198_39 (by decide) (fun g39 => ?_) (fun g39 => ?_)
    · refine x_mask [true, true, false] ?_
      dsimp only [mask]
      exfalso; omega
    · refine x_aload_n (pc := 42) rfl d198_42 ?_
      refine m_getR (pc := 43) f198_9 (by decide +kernel) (xo181 (by omega)) rr181_0 d198_43 ?_
      refine x_iload_n (pc := 46) rfl d198_46 ?_
      refine x_aload_n (pc := 47) rfl d198_47 ?_
      refine m_getR (pc := 48) f198_9 (by decide +kernel) (xo181 (by omega)) rr181_0 d198_48 ?_
      refine x_iload_n (pc := 51) rfl d198_51 ?_
      refine x_iconst (pc := 52) d198_52 ?_
      refine x_iadd (pc := 53) d198_53 ?_
      refine m_iald (pc := 54) (xa182 (by omega)) (by omega) (by omega) (by omega) d198_54 ?_
      refine m_iast (pc := 55) (xa182 (by omega)) (by omega) (by omega) (by omega) d198_55 ?_
      refine x_iinc (pc := 56) rfl (by decide +kernel) rfl d198_56 ?_
      dsimp only [List.set]
      refine x_goto (pc := 59) (tgt := 27) d198_59 (by decide) ?_
      refine ih (i + 1) _ (by omega) (by omega) (by rw [up2_i (by omega)]; exact h4) (fun a ha => by rw [up2_off' _ _ _ ha]; exact o a ha) (fun j j0 j1 => ?_) (fun j hj => by rw [up2_i (by omega)]; exact u j (by omega))
      by_cases ej : j = i
      · rw [ej, up2_s, u _ (by omega)]
      · rw [up2_i ej]; exact z j j0 (by omega)
theorem lp_rrm2 (hl : l.1.stackTraces = false) (hq : 192 ≤ q) (hR : RV (I 182) A) (hA : AI A c e) {d : Int} (d0 : 0 ≤ d) (d1 : d < A 0 4) {K : Nat → Int → Int} (o : ∀ a, a ≠ 182 → K a = up2 I 182 4 (A 0 4 - 1) a) (z : ∀ i : Int, 18 + 3 * d ≤ i → i < 18 + 3 * (A 0 4 - 1) → K 182 i = up2 I 182 4 (A 0 4 - 1) 182 (i + 3)) (u : ∀ i : Int, ¬ (18 + 3 * d ≤ i ∧ i < 18 + 3 * (A 0 4 - 1)) → K 182 i = up2 I 182 4 (A 0 4 - 1) 182 i) (e4 : K 182 4 = A 0 4 - 1) : Ex l 198 0 0 62 [some (.ref 181), none, none] [] (mm q K v fr) (oE q v fr (some (.int (iI 1))) (oN I (A 0 4 - 1) (rmA A d))) := by
  have hr := hA.rg
  refine x_aload_n (pc := 62) rfl d198_62 ?_
  refine x_aload_n (pc := 63) rfl d198_63 ?_
  refine m_getR (pc := 64) f198_9 (by decide +kernel) (xo181 (by omega)) rr181_0 d198_64 ?_
  refine x_iconst (pc := 67) d198_67 ?_
  refine m_iald (pc := 68) (xa182 (by omega)) (by omega) (by omega) (by omega) d198_68 ?_
  refine x_val (pc := 69) (w := (A 0 4 - 1)) (e4) ?_
  refine m_putI (pc := 69) (z := 10) f198_176 (by decide +kernel) (by decide +kernel) rfl (xo181 (by omega)) d198_69 ?_
  refine x_iconst (pc := 72) d198_72 ?_
  refine x_zret (pc := 73) rfl (Or.inr rfl) (fun _ => rfl) d198_73 ?_
  refine ⟨_, rfl, fun a a1 a2 a8 => by rw [up2_off' _ _ _ a1, o a a2, up2_off' _ _ _ a2], fun i i9 => by rw [up2_i i9, o 181 (by decide), up2_p (by decide)], up2_s, ?_⟩
  rw [up2_off' _ _ _ (by decide)]
  exact rv_rm hR hA d0 d1 e4 (fun i i0 i1 => by rw [z i i0 i1, up2_i (by omega)]) (fun i i4 ig => by rw [u i ig, up2_i i4])
theorem rt_chT (hl : l.1.stackTraces = false) (hq : 192 ≤ q) (hR : RV (I 182) A) (hA : AI A c e) {d : Int} (d0 : 0 ≤ d) (d1 : d < A 0 4) : CT l 198 [.ref 181, .int (iI d)] (mm q I v fr) 0 0 (oE q v fr (some (.int (iI 1))) (oN I (A 0 4 - 1) (rmA A d))) := by
  have hr := hA.rg
  refine mkct2 hl (by decide) (Nat.le_of_ble_eq_true rfl) (L := [some (.ref 181), some (.int (iI d)), none]) rfl ?_
  refine x_aload_n (pc := 0) rfl d198_0 ?_
  refine x_iload_n (pc := 1) rfl d198_1 ?_
  refine x_cVs (pc := 2) c198_195 (rt_isDog hl hq (A := A) hR hA (d := d) ⟨by omega, by omega⟩) (xo181 (by omega)) rfl rfl (Nat.le_of_ble_eq_true rfl) (by decide +kernel) (by decide +kernel) rfl d198_2 ?_
  refine x_ifB_ne (pc := 5) (tgt := 10) d198_5 (by decide) (fun g5 => ?_) (fun g5 => ?_)
  · refine x_aload_n (pc := 10) rfl d198_10 ?_
    refine m_getR (pc := 11) f198_9 (by decide +kernel) (xo181 (by omega)) rr181_0 d198_11 ?_
    refine x_iconst (pc := 14) d198_14 ?_
    refine x_dup2 (pc := 15) rfl rfl d198_15 ?_
    refine m_ialdW (pc := 16) (w := (A 0 4)) (xa182 (by omega)) (by omega) (by omega) (by omega) (by rw [hR.sc (i := 4) (by decide) (by decide)]) d198_16 ?_
    refine x_iconst (pc := 17) d198_17 ?_
    refine x_isub (pc := 18) d198_18 ?_
    refine m_iast (pc := 19) (xa182 (by omega)) (by omega) (by omega) (by omega) d198_19 ?_
    refine x_bipush (pc := 20) (by decide) d198_20 ?_
    refine x_iconst (pc := 22) d198_22 ?_
    refine x_iload_n (pc := 23) rfl d198_23 ?_
    refine x_imul (pc := 24) d198_24 ?_
    refine x_iadd (pc := 25) d198_25 ?_
    refine x_istore_n (pc := 26) (by decide +kernel) rfl d198_26 ?_
    dsimp only [List.set]
    refine x_mask [true, false, true] ?_
    dsimp only [mask]
    refine lp_rrm (I := up2 I 182 4 (A 0 4 - 1)) hl hq d0 (n := A 0 4 - 1) (by omega) (by omega) (fun K o z u => ?_) (3 * (A 0 4 - 1 - d)).toNat (18 + 3 * d) _ (by omega) (Int.le_refl _) up2_s (fun _ _ => rfl) (fun j j0 j1 => absurd j1 (by omega)) (fun _ _ => rfl)
    have e4 : K 182 4 = A 0 4 - 1 := by rw [u 4 (by omega), up2_s]
    exact lp_rrm2 hl hq hR hA d0 d1 o z u e4
  · refine x_iconst (pc := 8) d198_8 ?_
    refine x_zret (pc := 9) rfl (Or.inl rfl) (fun _ => rfl) d198_9 ?_
    exact absurd (of_decide_eq_false g5) (by omega)
theorem rt_chF (hl : l.1.stackTraces = false) (hq : 192 ≤ q) (hR : RV (I 182) A) (hA : AI A c e) {d : Int} (hd : InR d) (d1 : ¬ (0 ≤ d ∧ d < A 0 4)) : DT l 198 [.ref 181, .int (iI d)] (mm q I v fr) 0 0 (.inl (some (.int (iI 0))), mm q I v fr) := by
  have hr := hA.rg
  obtain ⟨hd0, hd1⟩ := hd
  refine mkdt hl (by decide) (Nat.le_of_ble_eq_true rfl) (L := [some (.ref 181), some (.int (iI d)), none]) rfl ?_
  refine x_aload_n (pc := 0) rfl d198_0 ?_
  refine x_iload_n (pc := 1) rfl d198_1 ?_
  refine x_cVs (pc := 2) c198_195 (rt_isDog hl hq (A := A) hR hA (d := d) ⟨by omega, by omega⟩) (xo181 (by omega)) rfl rfl (Nat.le_of_ble_eq_true rfl) (by decide +kernel) (by decide +kernel) rfl d198_2 ?_
  refine x_ifB_ne (pc := 5) (tgt := 10) d198_5 (by decide) (fun g5 => ?_) (fun g5 => ?_)
  · exact absurd (of_decide_eq_true g5) d1
  · refine x_iconst (pc := 8) d198_8 ?_
    refine x_zret (pc := 9) rfl (Or.inl rfl) (fun _ => rfl) d198_9 ?_
    rfl
end Rmc
