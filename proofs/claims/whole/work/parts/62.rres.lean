/-! ===== the reference: what arrives ===== -/
theorem cg188 {I J : Nat → Int → Int} {A : AV} (h : ∀ a, a ≠ 188 → J a = I a) (hR : RV (I 182) A) : RV (J 182) A := by rw [h 182 (by decide)]; exact hR
section Rres
variable {l : LX} {q : Nat} {I : Nat → Int → Int} {v : Int} {fr : Bool} {A : AV} {c e : Int}
theorem lp_rtk1 (hl : l.1.stackTraces = false) (hq : 192 ≤ q) (hR : RV (I 182) A) (hA : AI A c e) {f t k : Int} (f0 : 0 ≤ f) (f1 : f < A 0 6) (k0 : 0 ≤ k) (k1 : k < A 6 f) (t0 : 0 ≤ t) (t1 : t ≤ 90000000) {Q : OO → Prop} : ∀ (m i : Nat) (J : Nat → Int → Int), m + i = 8 → (∀ a, a ≠ 188 → J a = I a) → J 188 k = byteN (tkA A f t) k i →
    (∀ K : Nat → Int → Int, (∀ a, a ≠ 188 → K a = I a) → K 188 k = byteZ (tkA A f t) k → (∀ j : Int, j ≠ k → K 188 j = J 188 j) → Ex l 179 0 0 2 [some (.ref 181), some (.int (iI f)), some (.int (iI t)), some (.int (iI (k + 1))), none] [] (mm q K v fr) Q) →
    Ex l 179 0 0 22 [some (.ref 181), some (.int (iI f)), some (.int (iI t)), some (.int (iI k)), some (.int (iI i))] [] (mm q J v fr) Q := by
  have hr := hA.rg
  have hf := hA.frm f f0 f1
  intro m
  induction m with
  | zero =>
    intro i J hm hJ hB hk
    refine x_iload (pc := 22) rfl d179_22 ?_
    refine x_bipush (pc := 24) (by decide) d179_24 ?_
    refine x_icmp_ge (pc := 26) (tgt := 63) ⟨by omega, by omega⟩ ⟨by omega, by omega⟩ d179_26 (by decide) (fun g26 => ?_) (fun g26 => ?_)
    · refine x_iinc (pc := 63) rfl (by decide +kernel) rfl d179_63 ?_
      dsimp only [List.set]
      refine x_goto (pc := 66) (tgt := 2) d179_66 (by decide) ?_
      refine x_mask [true, true, true, true, false] ?_
      dsimp only [mask]
      exact hk J hJ (by rw [hB, show i = 8 from by omega]; rfl) (fun _ _ => rfl)
    · exfalso; omega
  | succ m ih =>
    intro i J hm hJ hB hk
    have hRJ := cg188 hJ hR
    have hn := byteN_b (tkA_r A f t) k i
    have hn2 : (2 : Int) ^ i ≤ 2 ^ 8 := by
      have : (2 : Nat) ^ i ≤ 2 ^ 8 := Nat.pow_le_pow_right (by decide) (by omega)
      have := Int.ofNat_le.mpr this
      rw [Int.natCast_pow, Int.natCast_pow] at this
      exact this
    rw [p28] at hn2
    refine x_iload (pc := 22) rfl d179_22 ?_
    refine x_bipush (pc := 24) (by decide) d179_24 ?_
    refine x_icmp_ge (pc := 26) (tgt := 63) ⟨by omega, by omega⟩ ⟨by omega, by omega⟩ d179_26 (by decide) (fun g26 => ?_) (fun g26 => ?_)
    · refine x_iinc (pc := 63) rfl (by decide +kernel) rfl d179_63 ?_
      dsimp only [List.set]
      refine x_goto (pc := 66) (tgt := 2) d179_66 (by decide) ?_
      refine x_mask [true, true, true, true, false] ?_
      dsimp only [mask]
      exfalso; omega
    · refine x_aload_n (pc := 29) rfl d179_29 ?_
      refine m_getR (pc := 30) f179_28 (by decide +kernel) (xo181 (by omega)) rr181_9 d179_30 ?_
      refine x_iload_n (pc := 33) rfl d179_33 ?_
      refine x_iconst (pc := 34) d179_34 ?_
      refine x_aload_n (pc := 35) rfl d179_35 ?_
      refine m_getR (pc := 36) f179_28 (by decide +kernel) (xo181 (by omega)) rr181_9 d179_36 ?_
      refine x_iload_n (pc := 39) rfl d179_39 ?_
      refine m_iald (pc := 40) (xa188 (by omega)) (by omega) (by omega) (by omega) d179_40 ?_
      refine x_val (pc := 41) (w := (byteN (tkA A f t) k i)) (hB) ?_
      refine x_imul (pc := 41) d179_41 ?_
      refine x_aload_n (pc := 42) rfl d179_42 ?_
      refine x_iload_n (pc := 43) rfl d179_43 ?_
      refine x_bipush (pc := 44) (by decide) d179_44 ?_
      refine x_iload_n (pc := 46) rfl d179_46 ?_
      refine x_imul (pc := 47) d179_47 ?_
      refine x_iload (pc := 48) rfl d179_48 ?_
      refine x_iadd (pc := 50) d179_50 ?_
      refine x_iload_n (pc := 51) rfl d179_51 ?_
      refine x_cVs (pc := 52) c179_144 (rt_recv hl hq (A := A) hRJ hA (f := f) (b := ((8 * k) + i)) (t := t) (by omega) (by omega) (by omega) (by omega) (by omega) (by omega)) (xo181 (by omega)) rfl rfl (Nat.le_of_ble_eq_true rfl) (by decide +kernel) (by decide +kernel) rfl d179_52 ?_
      refine x_iadd (pc := 55) d179_55 ?_
      refine m_iast (pc := 56) (xa188 (by omega)) (by omega) (by omega) (by omega) d179_56 ?_
      refine x_iinc (pc := 57) rfl (by decide +kernel) rfl d179_57 ?_
      dsimp only [List.set]
      refine x_goto (pc := 60) (tgt := 22) d179_60 (by decide) ?_
      refine ih (i + 1) _ (by omega) (fun a ha => by rw [up2_off' _ _ _ ha]; exact hJ a ha) (by rw [up2_s]; rfl) fun K a0 a1 a2 => hk K a0 a1 fun j hj => by rw [a2 j hj, up2_i hj]
theorem lp_rtk (hl : l.1.stackTraces = false) (hq : 192 ≤ q) (hR : RV (I 182) A) (hA : AI A c e) {f t : Int} (f0 : 0 ≤ f) (f1 : f < A 0 6) (t0 : 0 ≤ t) (t1 : t ≤ 90000000) : ∀ (m k : Nat) (J : Nat → Int → Int), (m : Int) + k = A 6 f → (∀ a, a ≠ 188 → J a = I a) → (∀ j : Int, 0 ≤ j → j < k → J 188 j = byteZ (tkA A f t) j) →
    Ex l 179 0 0 2 [some (.ref 181), some (.int (iI f)), some (.int (iI t)), some (.int (iI k)), none] [] (mm q J v fr) (oE q v fr none (fun K => (∀ a, a ≠ 188 → K a = I a) ∧ ∀ j : Int, 0 ≤ j → j < A 6 f → K 188 j = byteZ (tkA A f t) j)) := by
  have hr := hA.rg
  have hf := hA.frm f f0 f1
  intro m
  induction m with
  | zero =>
    intro k J hm hJ hB
    have hRJ := cg188 hJ hR
    refine x_iload_n (pc := 2) rfl d179_2 ?_
    refine x_aload_n (pc := 3) rfl d179_3 ?_
    refine x_iload_n (pc := 4) rfl d179_4 ?_
    refine x_iconst (pc := 5) d179_5 ?_
    refine x_cVs (pc := 6) c179_78 (rt_of6 hl hq (A := A) hRJ (f := f) (by omega) (by omega) (by omega)) (xo181 (by omega)) rfl rfl (Nat.le_of_ble_eq_true rfl) (by decide +kernel) (by decide +kernel) rfl d179_6 ?_
    refine x_icmp_ge (pc := 9) (tgt := 69) ⟨by omega, by omega⟩ ⟨by omega, by omega⟩ d179_9 (by decide) (fun g9 => ?_) (fun g9 => ?_)
    · refine x_vret (pc := 69) rfl (fun _ => rfl) d179_69 ?_
      exact ⟨J, rfl, hJ, fun j j0 j1 => hB j j0 (by omega)⟩
    · exfalso; omega
  | succ m ih =>
    intro k J hm hJ hB
    have hRJ := cg188 hJ hR
    refine x_iload_n (pc := 2) rfl d179_2 ?_
    refine x_aload_n (pc := 3) rfl d179_3 ?_
    refine x_iload_n (pc := 4) rfl d179_4 ?_
    refine x_iconst (pc := 5) d179_5 ?_
    refine x_cVs (pc := 6) c179_78 (rt_of6 hl hq (A := A) hRJ (f := f) (by omega) (by omega) (by omega)) (xo181 (by omega)) rfl rfl (Nat.le_of_ble_eq_true rfl) (by decide +kernel) (by decide +kernel) rfl d179_6 ?_
    refine x_icmp_ge (pc := 9) (tgt := 69) ⟨by omega, by omega⟩ ⟨by omega, by omega⟩ d179_9 (by decide) (fun g9 => ?_) (fun g9 => ?_)
    · refine x_vret (pc := 69) rfl (fun _ => rfl) d179_69 ?_
      exfalso; omega
    · refine x_aload_n (pc := 12) rfl d179_12 ?_
      refine m_getR (pc := 13) f179_28 (by decide +kernel) (xo181 (by omega)) rr181_9 d179_13 ?_
      refine x_iload_n (pc := 16) rfl d179_16 ?_
      refine x_iconst (pc := 17) d179_17 ?_
      refine m_iast (pc := 18) (xa188 (by omega)) (by omega) (by omega) (by omega) d179_18 ?_
      refine x_iconst (pc := 19) d179_19 ?_
      refine x_istore (pc := 20) (by decide +kernel) rfl d179_20 ?_
      dsimp only [List.set]
      refine lp_rtk1 hl hq hR hA f0 f1 (by omega) (by omega) t0 t1 8 0 _ (by decide) (fun a ha => by rw [up2_off' _ _ _ ha]; exact hJ a ha) up2_s fun K a0 a1 a2 => ?_
      refine ih (k + 1) K (by omega) a0 fun j j0 j1 => ?_
      by_cases ej : j = k
      · rw [ej]; exact a1
      · rw [a2 j ej, up2_i ej]; exact hB j j0 (by omega)
theorem rt_takes (hl : l.1.stackTraces = false) (hq : 192 ≤ q) (hR : RV (I 182) A) (hA : AI A c e) {f t : Int} (f0 : 0 ≤ f) (f1 : f < A 0 6) (t0 : 0 ≤ t) (t1 : t ≤ 90000000) : CT l 179 [.ref 181, .int (iI f), .int (iI t)] (mm q I v fr) 0 0 (oE q v fr none (fun K => (∀ a, a ≠ 188 → K a = I a) ∧ ∀ j : Int, 0 ≤ j → j < A 6 f → K 188 j = byteZ (tkA A f t) j)) := by
  have hf := hA.frm f f0 f1
  refine mkct2 hl (by decide) (Nat.le_of_ble_eq_true rfl) (L := [some (.ref 181), some (.int (iI f)), some (.int (iI t)), none, none]) rfl ?_
  refine x_iconst (pc := 0) d179_0 ?_
  refine x_istore_n (pc := 1) (by decide +kernel) rfl d179_1 ?_
  dsimp only [List.set]
  exact lp_rtk hl hq hR hA f0 f1 t0 t1 (A 6 f).toNat 0 I (by omega) (fun _ _ => rfl) (fun j j0 j1 => absurd (show j < 0 from j1) (by omega))
theorem lp_rrd (hl : l.1.stackTraces = false) (hq : 192 ≤ q) {n : Nat} (n0 : 1 ≤ n) (n1 : n ≤ 6) (hB : ∀ k : Int, 0 ≤ k → k < n → 0 ≤ I 188 k ∧ I 188 k ≤ 255) : ∀ (m i : Nat), m + i = n - 1 →
    Ex l 180 0 0 4 [some (.ref 181), some (.int (iI n)), some (.int (iI (crcF (I 188) i))), some (.int (iI i))] [] (mm q I v fr) (fun o => o = (.inl (some (.int (iI (b01 (readZ (I 188) n))))), mm q I v fr)) := by
  have hB0 := hB 0 (by omega) (by omega)
  have hBn := hB ((n : Int) - 1) (by omega) (by omega)
  have hcn := crcF_b (B := I 188) (n - 1) (fun j h0 h1 => hB j h0 (by omega))
  intro m
  induction m with
  | zero =>
    intro i hi
    have ei : i = n - 1 := by omega
    subst ei
    unfold readZ
    refine x_iload_n (pc := 4) rfl d180_4 ?_
    refine x_iload_n (pc := 5) rfl d180_5 ?_
    refine x_iconst (pc := 6) d180_6 ?_
    refine x_isub (pc := 7) d180_7 ?_
    refine x_icmp_ge (pc := 8) (tgt := 28) ⟨by omega, by omega⟩ ⟨by omega, by omega⟩ d180_8 (by decide) (fun g8 => ?_) (fun g8 => ?_)
    · refine x_aload_n (pc := 28) rfl d180_28 ?_
      refine m_getR (pc := 29) f180_28 (by decide +kernel) (xo181 (by omega)) rr181_9 d180_29 ?_
      refine x_iload_n (pc := 32) rfl d180_32 ?_
      refine x_iconst (pc := 33) d180_33 ?_
      refine x_isub (pc := 34) d180_34 ?_
      refine m_iald (pc := 35) (xa188 (by omega)) (by omega) (by omega) (by omega) d180_35 ?_
      refine x_iload_n (pc := 36) rfl d180_36 ?_
      refine x_icmp_ne (pc := 37) (tgt := 59) ⟨by omega, by omega⟩ ⟨by omega, by omega⟩ d180_37 (by decide) (fun g37 => ?_) (fun g37 => ?_)
      · refine x_iconst (pc := 59) d180_59 ?_
        refine x_zret (pc := 60) rfl (Or.inl rfl) (fun _ => rfl) d180_60 ?_
        rw [decide_eq_false (p := I 188 ((n : Int) - 1) = _) (by omega)]; rfl
      · refine x_aload_n (pc := 40) rfl d180_40 ?_
        refine m_getR (pc := 41) f180_28 (by decide +kernel) (xo181 (by omega)) rr181_9 d180_41 ?_
        refine x_iconst (pc := 44) d180_44 ?_
        refine m_iald (pc := 45) (xa188 (by omega)) (by omega) (by omega) (by omega) d180_45 ?_
        refine x_bipush (pc := 46) (by decide) d180_46 ?_
        refine x_irem (pc := 48) (by omega) (by omega) (by omega) (by omega) d180_48 ?_
        refine x_iload_n (pc := 49) rfl d180_49 ?_
        refine x_iconst (pc := 50) d180_50 ?_
        refine x_isub (pc := 51) d180_51 ?_
        refine x_icmp_ne (pc := 52) (tgt := 59) ⟨by omega, by omega⟩ ⟨by omega, by omega⟩ d180_52 (by decide) (fun g52 => ?_) (fun g52 => ?_)
        · refine x_iconst (pc := 59) d180_59 ?_
          refine x_zret (pc := 60) rfl (Or.inl rfl) (fun _ => rfl) d180_60 ?_
          rw [decide_eq_false (p := I 188 0 % 16 = _) (by omega), Bool.and_false]; rfl
        · refine x_iconst (pc := 55) d180_55 ?_
          refine x_goto (pc := 56) (tgt := 60) d180_56 (by decide) ?_
          refine x_zret (pc := 60) rfl (Or.inr rfl) (fun _ => rfl) d180_60 ?_
          rw [decide_eq_true (p := I 188 0 % 16 = _) (by omega), decide_eq_true (p := I 188 ((n : Int) - 1) = _) (by omega)]; rfl
    · exfalso; omega
  | succ m ih =>
    intro i hi
    have hb := crcF_b (B := I 188) i (fun j h0 h1 => hB j h0 (by omega))
    have hc := hB i (by omega) (by omega)
    refine x_iload_n (pc := 4) rfl d180_4 ?_
    refine x_iload_n (pc := 5) rfl d180_5 ?_
    refine x_iconst (pc := 6) d180_6 ?_
    refine x_isub (pc := 7) d180_7 ?_
    refine x_icmp_ge (pc := 8) (tgt := 28) ⟨by omega, by omega⟩ ⟨by omega, by omega⟩ d180_8 (by decide) (fun g8 => ?_) (fun g8 => ?_)
    · refine x_mask [true, true, true, false] ?_
      dsimp only [mask]
      exfalso; omega
    · refine x_iload_n (pc := 11) rfl d180_11 ?_
      refine x_aload_n (pc := 12) rfl d180_12 ?_
      refine m_getR (pc := 13) f180_28 (by decide +kernel) (xo181 (by omega)) rr181_9 d180_13 ?_
      refine x_iload_n (pc := 16) rfl d180_16 ?_
      refine m_iald (pc := 17) (xa188 (by omega)) (by omega) (by omega) (by omega) d180_17 ?_
      refine x_cSs (pc := 18) c180_89 (rt_sum8 hl (s := (crcF (I 188) i)) (b := (I 188 i)) (by omega) (by omega) (by omega) (by omega)) rfl rfl (Nat.le_of_ble_eq_true rfl) (by decide +kernel) (by decide +kernel) (by decide +kernel) rfl d180_18 ?_
      refine x_istore_n (pc := 21) (by decide +kernel) rfl d180_21 ?_
      dsimp only [List.set]
      refine x_iinc (pc := 22) rfl (by decide +kernel) rfl d180_22 ?_
      dsimp only [List.set]
      refine x_goto (pc := 25) (tgt := 4) d180_25 (by decide) ?_
      exact ih (i + 1) (by omega)
theorem rt_rd (hl : l.1.stackTraces = false) (hq : 192 ≤ q) {n : Nat} (n0 : 1 ≤ n) (n1 : n ≤ 6) (hB : ∀ k : Int, 0 ≤ k → k < n → 0 ≤ I 188 k ∧ I 188 k ≤ 255) : DT l 180 [.ref 181, .int (iI n)] (mm q I v fr) 0 0 (.inl (some (.int (iI (b01 (readZ (I 188) n))))), mm q I v fr) := by
  refine mkdt hl (by decide) (Nat.le_of_ble_eq_true rfl) (L := [some (.ref 181), some (.int (iI n)), none, none]) rfl ?_
  refine x_iconst (pc := 0) d180_0 ?_
  refine x_istore_n (pc := 1) (by decide +kernel) rfl d180_1 ?_
  dsimp only [List.set]
  refine x_iconst (pc := 2) d180_2 ?_
  refine x_istore_n (pc := 3) (by decide +kernel) rfl d180_3 ?_
  dsimp only [List.set]
  exact lp_rrd hl hq n0 n1 hB (n - 1) 0 (by omega)
/-- is frame f readable at t -/
def rdA (A : AV) (f t : Int) : Bool := readZ (byteZ (tkA A f t)) (A 6 f).toNat
theorem resA_e {A : AV} {f t : Int} (h : 0 ≤ A 6 f) : resA A f t (A 0 0) = if rdA A f t then (if ackZ (chA A t (A 0 0)) (8 * A 6 f) then 2 else 0) else 1 := by
  unfold resA resZ rdA tkA
  rw [show (((A 6 f).toNat : Nat) : Int) = A 6 f from by omega]
/-- what the bytes got are -/
def gotI (A : AV) (f t : Int) (I K : Nat → Int → Int) : Prop := (∀ a, a ≠ 188 → K a = I a) ∧ ∀ j : Int, 0 ≤ j → j < A 6 f → K 188 j = byteZ (tkA A f t) j
theorem rt_rda (hl : l.1.stackTraces = false) (hq : 192 ≤ q) (hR : RV (I 182) A) (hA : AI A c e) {f t : Int} (f0 : 0 ≤ f) (f1 : f < A 0 6) (t0 : 0 ≤ t) (t1 : t ≤ 90000000) : CT l 181 [.ref 181, .int (iI f), .int (iI t)] (mm q I v fr) 0 0 (oE q v fr (some (.int (iI (b01 (rdA A f t))))) (gotI A f t I)) := by
  have hr := hA.rg
  have hf := hA.frm f f0 f1
  refine mkct2 hl (by decide) (Nat.le_of_ble_eq_true rfl) (L := [some (.ref 181), some (.int (iI f)), some (.int (iI t))]) rfl ?_
  refine x_aload_n (pc := 0) rfl d181_0 ?_
  refine x_iload_n (pc := 1) rfl d181_1 ?_
  refine x_iload_n (pc := 2) rfl d181_2 ?_
  refine x_cVev (pc := 3) c181_147 (rt_takes hl hq (A := A) hR hA (f := f) (t := t) (by omega) (by omega) (by omega) (by omega)) (xo181 (by omega)) rfl rfl (Nat.le_of_ble_eq_true rfl) (by decide +kernel) (by decide +kernel) d181_3 (fun J1 hJ1 => ?_)
  have hR1 := cg188 hJ1.1 hR
  have hB1 : ∀ k : Int, 0 ≤ k → k < ((A 6 f).toNat : Nat) → 0 ≤ J1 188 k ∧ J1 188 k ≤ 255 := fun k k0 k1 => by rw [hJ1.2 k k0 (by omega)]; exact byteZ_b (tkA_r A f t) k
  refine x_aload_n (pc := 6) rfl d181_6 ?_
  refine x_aload_n (pc := 7) rfl d181_7 ?_
  refine x_iload_n (pc := 8) rfl d181_8 ?_
  refine x_iconst (pc := 9) d181_9 ?_
  refine x_cVs (pc := 10) c181_78 (rt_of6 hl hq (A := A) hR1 (f := f) (by omega) (by omega) (by omega)) (xo181 (by omega)) rfl rfl (Nat.le_of_ble_eq_true rfl) (by decide +kernel) (by decide +kernel) rfl d181_10 ?_
  refine x_val (pc := 13) (w := (((A 6 f).toNat : Nat) : Int)) (by omega) ?_
  refine x_cVs (pc := 13) c181_151 (rt_rd hl hq (I := J1) (n := (A 6 f).toNat) (by omega) (by omega) hB1) (xo181 (by omega)) rfl rfl (Nat.le_of_ble_eq_true rfl) (by decide +kernel) (by decide +kernel) rfl d181_13 ?_
  refine x_zret (pc := 16) rfl (b01_or _) (fun _ => rfl) d181_16 ?_
  rw [show readZ (J1 188) (A 6 f).toNat = rdA A f t from readZ_congr (by omega) fun i i0 i1 => hJ1.2 i i0 (by omega)]
  exact ⟨J1, rfl, hJ1⟩
theorem mulb2 {A : AV} {c e f : Int} (hA : AI A c e) (f0 : 0 ≤ f) (f1 : f < A 0 6) : 0 ≤ 8 * A 6 f * A 0 0 ∧ 8 * A 6 f * A 0 0 ≤ 48 * 9 := by
  have hr := hA.rg
  have hf := hA.frm f f0 f1
  exact ⟨Int.mul_nonneg (by omega) (by omega), Int.mul_le_mul (by omega) (by omega) (by omega) (by omega)⟩
theorem rt_end (hl : l.1.stackTraces = false) (hq : 192 ≤ q) (hR : RV (I 182) A) (hA : AI A c e) {f t : Int} (f0 : 0 ≤ f) (f1 : f < A 0 6) : DT l 182 [.ref 181, .int (iI f), .int (iI t)] (mm q I v fr) 0 0 (.inl (some (.int (iI (t + 8 * A 6 f * A 0 0)))), mm q I v fr) := by
  have hr := hA.rg
  refine mkdt hl (by decide) (Nat.le_of_ble_eq_true rfl) (L := [some (.ref 181), some (.int (iI f)), some (.int (iI t))]) rfl ?_
  refine x_iload_n (pc := 0) rfl d182_0 ?_
  refine x_aload_n (pc := 1) rfl d182_1 ?_
  refine x_iload_n (pc := 2) rfl d182_2 ?_
  refine x_cVs (pc := 3) c182_137 (rt_bitsOf hl hq (A := A) hR (f := f) (by omega) (by omega) (by omega)) (xo181 (by omega)) rfl rfl (Nat.le_of_ble_eq_true rfl) (by decide +kernel) (by decide +kernel) rfl d182_3 ?_
  refine x_aload_n (pc := 6) rfl d182_6 ?_
  refine m_getR (pc := 7) f182_9 (by decide +kernel) (xo181 (by omega)) rr181_0 d182_7 ?_
  refine x_iconst (pc := 10) d182_10 ?_
  refine m_ialdW (pc := 11) (w := (A 0 0)) (xa182 (by omega)) (by omega) (by omega) (by omega) (by rw [hR.sc (i := 0) (by decide) (by decide)]) d182_11 ?_
  refine x_imul (pc := 12) d182_12 ?_
  refine x_iadd (pc := 13) d182_13 ?_
  refine x_iret (pc := 14) rfl (fun _ => rfl) d182_14 ?_
  first | rfl | (exfalso; omega)
theorem lp_rack (hl : l.1.stackTraces = false) (hq : 192 ≤ q) (hR : RV (I 182) A) (hA : AI A c e) {f t : Int} (f0 : 0 ≤ f) (f1 : f < A 0 6) (t0 : 0 ≤ t) (t1 : t ≤ 90000000) : ∀ (m i : Nat), m + i = 8 → (∀ j : Nat, j < i → chA A t (A 0 0) (8 * A 6 f + j) = false) →
    Ex l 183 0 0 10 [some (.ref 181), none, none, some (.int (iI (t + 8 * A 6 f * A 0 0))), some (.int (iI i))] [] (mm q I v fr) (fun o => o = (.inl (some (.int (iI (b01 (ackZ (chA A t (A 0 0)) (8 * A 6 f)))))), mm q I v fr)) := by
  have hr := hA.rg
  have h1 := mulb2 hA f0 f1
  intro m
  induction m with
  | zero =>
    intro i hi hno
    refine x_iload (pc := 10) rfl d183_10 ?_
    refine x_bipush (pc := 12) (by decide) d183_12 ?_
    refine x_icmp_ge (pc := 14) (tgt := 43) ⟨by omega, by omega⟩ ⟨by omega, by omega⟩ d183_14 (by decide) (fun g14 => ?_) (fun g14 => ?_)
    · refine x_iconst (pc := 43) d183_43 ?_
      refine x_zret (pc := 44) rfl (Or.inl rfl) (fun _ => rfl) d183_44 ?_
      rw [ack_no (by omega) hno]; rfl
    · exfalso; omega
  | succ m ih =>
    intro i hi hno
    have h2 := mulb hA (b := i) (by omega) (by omega)
    have ec : chewA A (t + 8 * A 6 f * A 0 0 + i * A 0 0) = chA A t (A 0 0) (8 * A 6 f + i) := by
      show _ = chewA A (t + (8 * A 6 f + i) * A 0 0)
      rw [Int.add_mul, Int.add_assoc]
    refine x_iload (pc := 10) rfl d183_10 ?_
    refine x_bipush (pc := 12) (by decide) d183_12 ?_
    refine x_icmp_ge (pc := 14) (tgt := 43) ⟨by omega, by omega⟩ ⟨by omega, by omega⟩ d183_14 (by decide) (fun g14 => ?_) (fun g14 => ?_)
    · refine x_iconst (pc := 43) d183_43 ?_
      refine x_zret (pc := 44) rfl (Or.inl rfl) (fun _ => rfl) d183_44 ?_
      exfalso; omega
    · refine x_aload_n (pc := 17) rfl d183_17 ?_
      refine x_iload_n (pc := 18) rfl d183_18 ?_
      refine x_iload (pc := 19) rfl d183_19 ?_
      refine x_aload_n (pc := 21) rfl d183_21 ?_
      refine m_getR (pc := 22) f183_9 (by decide +kernel) (xo181 (by omega)) rr181_0 d183_22 ?_
      refine x_iconst (pc := 25) d183_25 ?_
      refine m_ialdW (pc := 26) (w := (A 0 0)) (xa182 (by omega)) (by omega) (by omega) (by omega) (by rw [hR.sc (i := 0) (by decide) (by decide)]) d183_26 ?_
      refine x_imul (pc := 27) d183_27 ?_
      refine x_iadd (pc := 28) d183_28 ?_
      refine x_cVs (pc := 29) c183_120 (rt_chewed hl hq (A := A) hR hA (t := ((t + 8 * A 6 f * A 0 0) + (i * (A 0 0)))) (by omega) (by omega)) (xo181 (by omega)) rfl rfl (Nat.le_of_ble_eq_true rfl) (by decide +kernel) (by decide +kernel) rfl d183_29 ?_
      refine x_ifB_eq (pc := 32) (tgt := 37) d183_32 (by decide) (fun g32 => ?_) (fun g32 => ?_)
      · refine x_iinc (pc := 37) rfl (by decide +kernel) rfl d183_37 ?_
        dsimp only [List.set]
        refine x_goto (pc := 40) (tgt := 10) d183_40 (by decide) ?_
        refine ih (i + 1) (by omega) fun j hj => ?_
        by_cases ej : j = i
        · rw [ej, ← ec]; exact g32
        · exact hno j (by omega)
      · refine x_iconst (pc := 35) d183_35 ?_
        refine x_zret (pc := 36) rfl (Or.inr rfl) (fun _ => rfl) d183_36 ?_
        rw [ack_yes (i := i) (by omega) (by rw [← ec]; exact g32)]; rfl
theorem rt_ack (hl : l.1.stackTraces = false) (hq : 192 ≤ q) (hR : RV (I 182) A) (hA : AI A c e) {f t : Int} (f0 : 0 ≤ f) (f1 : f < A 0 6) (t0 : 0 ≤ t) (t1 : t ≤ 90000000) : DT l 183 [.ref 181, .int (iI f), .int (iI t)] (mm q I v fr) 0 0 (.inl (some (.int (iI (b01 (ackZ (chA A t (A 0 0)) (8 * A 6 f)))))), mm q I v fr) := by
  have hr := hA.rg
  refine mkdt hl (by decide) (Nat.le_of_ble_eq_true rfl) (L := [some (.ref 181), some (.int (iI f)), some (.int (iI t)), none, none]) rfl ?_
  refine x_aload_n (pc := 0) rfl d183_0 ?_
  refine x_iload_n (pc := 1) rfl d183_1 ?_
  refine x_iload_n (pc := 2) rfl d183_2 ?_
  refine x_cVs (pc := 3) c183_154 (rt_end hl hq (A := A) hR hA (f := f) (t := t) (by omega) (by omega)) (xo181 (by omega)) rfl rfl (Nat.le_of_ble_eq_true rfl) (by decide +kernel) (by decide +kernel) rfl d183_3 ?_
  refine x_istore_n (pc := 6) (by decide +kernel) rfl d183_6 ?_
  dsimp only [List.set]
  refine x_iconst (pc := 7) d183_7 ?_
  refine x_istore (pc := 8) (by decide +kernel) rfl d183_8 ?_
  dsimp only [List.set]
  refine x_mask [true, false, false, true, true] ?_
  dsimp only [mask]
  exact lp_rack hl hq hR hA f0 f1 t0 t1 8 0 (by decide) (fun j hj => absurd hj (Nat.not_lt_zero _))
theorem rt_res (hl : l.1.stackTraces = false) (hq : 192 ≤ q) (hR : RV (I 182) A) (hA : AI A c e) {f t : Int} (f0 : 0 ≤ f) (f1 : f < A 0 6) (t0 : 0 ≤ t) (t1 : t ≤ 90000000) : CT l 184 [.ref 181, .int (iI f), .int (iI t)] (mm q I v fr) 0 0 (oE q v fr (some (.int (iI (resA A f t (A 0 0))))) (fun K => ∀ a, a ≠ 188 → K a = I a)) := by
  have hf := hA.frm f f0 f1
  rw [resA_e (by omega)]
  refine mkct2 hl (by decide) (Nat.le_of_ble_eq_true rfl) (L := [some (.ref 181), some (.int (iI f)), some (.int (iI t))]) rfl ?_
  refine x_aload_n (pc := 0) rfl d184_0 ?_
  refine x_iload_n (pc := 1) rfl d184_1 ?_
  refine x_iload_n (pc := 2) rfl d184_2 ?_
  refine x_cVes (pc := 3) c184_157 (rt_rda hl hq (A := A) hR hA (f := f) (t := t) (by omega) (by omega) (by omega) (by omega)) (xo181 (by omega)) rfl rfl (Nat.le_of_ble_eq_true rfl) (by decide +kernel) (by decide +kernel) d184_3 (fun J1 hJ1 => ?_)
  refine x_ifB_ne (pc := 6) (tgt := 11) d184_6 (by decide) (fun g6 => ?_) (fun g6 => ?_)
  · have hR1 := cg188 hJ1.1 hR
    refine x_aload_n (pc := 11) rfl d184_11 ?_
    refine x_iload_n (pc := 12) rfl d184_12 ?_
    refine x_iload_n (pc := 13) rfl d184_13 ?_
    refine x_cVs (pc := 14) c184_160 (rt_ack hl hq (A := A) hR1 hA (f := f) (t := t) (by omega) (by omega) (by omega) (by omega)) (xo181 (by omega)) rfl rfl (Nat.le_of_ble_eq_true rfl) (by decide +kernel) (by decide +kernel) rfl d184_14 ?_
    refine x_ifB_eq (pc := 17) (tgt := 24) d184_17 (by decide) (fun g17 => ?_) (fun g17 => ?_)
    · refine x_iconst (pc := 24) d184_24 ?_
      refine x_iret (pc := 25) rfl (fun _ => rfl) d184_25 ?_
      rw [if_pos g6, g17]; exact ⟨J1, rfl, hJ1.1⟩
    · refine x_iconst (pc := 20) d184_20 ?_
      refine x_goto (pc := 21) (tgt := 25) d184_21 (by decide) ?_
      refine x_iret (pc := 25) rfl (fun _ => rfl) d184_25 ?_
      rw [if_pos g6, if_pos g17]; exact ⟨J1, rfl, hJ1.1⟩
  · refine x_iconst (pc := 9) d184_9 ?_
    refine x_iret (pc := 10) rfl (fun _ => rfl) d184_10 ?_
    rw [g6]; exact ⟨J1, rfl, hJ1.1⟩
theorem lp_rpend (hl : l.1.stackTraces = false) (hq : 192 ≤ q) (hR : RV (I 182) A) (hA : AI A c e) : ∀ (m i : Nat), (m : Int) + i = A 0 6 →
    Ex l 185 0 0 2 [some (.ref 181), some (.int (iI i))] [] (mm q I v fr) (fun o => o = (.inl (some (.int (iI (pdN (A 7) m i)))), mm q I v fr)) := by
  have hr := hA.rg
  intro m
  induction m with
  | zero =>
    intro i hi
    refine x_iload_n (pc := 2) rfl d185_2 ?_
    refine x_aload_n (pc := 3) rfl d185_3 ?_
    refine m_getR (pc := 4) f185_9 (by decide +kernel) (xo181 (by omega)) rr181_0 d185_4 ?_
    refine x_bipush (pc := 7) (by decide) d185_7 ?_
    refine m_ialdW (pc := 9) (w := (A 0 6)) (xa182 (by omega)) (by omega) (by omega) (by omega) (by rw [hR.sc (i := 6) (by decide) (by decide)]) d185_9 ?_
    refine x_icmp_ge (pc := 10) (tgt := 30) ⟨by omega, by omega⟩ ⟨by omega, by omega⟩ d185_10 (by decide) (fun g10 => ?_) (fun g10 => ?_)
    · refine x_iconst (pc := 30) d185_30 ?_
      refine x_iret (pc := 31) rfl (fun _ => rfl) d185_31 ?_
      rfl
    · exfalso; omega
  | succ m ih =>
    intro i hi
    have hf := hA.frm i (by omega) (by omega)
    refine x_iload_n (pc := 2) rfl d185_2 ?_
    refine x_aload_n (pc := 3) rfl d185_3 ?_
    refine m_getR (pc := 4) f185_9 (by decide +kernel) (xo181 (by omega)) rr181_0 d185_4 ?_
    refine x_bipush (pc := 7) (by decide) d185_7 ?_
    refine m_ialdW (pc := 9) (w := (A 0 6)) (xa182 (by omega)) (by omega) (by omega) (by omega) (by rw [hR.sc (i := 6) (by decide) (by decide)]) d185_9 ?_
    refine x_icmp_ge (pc := 10) (tgt := 30) ⟨by omega, by omega⟩ ⟨by omega, by omega⟩ d185_10 (by decide) (fun g10 => ?_) (fun g10 => ?_)
    · refine x_iconst (pc := 30) d185_30 ?_
      refine x_iret (pc := 31) rfl (fun _ => rfl) d185_31 ?_
      exfalso; omega
    · refine x_aload_n (pc := 13) rfl d185_13 ?_
      refine x_iload_n (pc := 14) rfl d185_14 ?_
      refine x_iconst (pc := 15) d185_15 ?_
      refine x_cVs (pc := 16) c185_78 (rt_of7 hl hq (A := A) hR (f := i) (by omega) (by omega) (by omega)) (xo181 (by omega)) rfl rfl (Nat.le_of_ble_eq_true rfl) (by decide +kernel) (by decide +kernel) rfl d185_16 ?_
      refine x_if_ne (pc := 19) (tgt := 24) ⟨by omega, by omega⟩ d185_19 (by decide) (fun g19 => ?_) (fun g19 => ?_)
      · refine x_iinc (pc := 24) rfl (by decide +kernel) rfl d185_24 ?_
        dsimp only [List.set]
        refine x_goto (pc := 27) (tgt := 2) d185_27 (by decide) ?_
        rw [show pdN (A 7) (m + 1) i = pdN (A 7) m ((i + 1 : Nat) : Int) from if_neg g19]
        exact ih (i + 1) (by omega)
      · refine x_iload_n (pc := 22) rfl d185_22 ?_
        refine x_iret (pc := 23) rfl (fun _ => rfl) d185_23 ?_
        rw [show pdN (A 7) (m + 1) i = i from if_pos g19]
theorem rt_pend (hl : l.1.stackTraces = false) (hq : 192 ≤ q) (hR : RV (I 182) A) (hA : AI A c e) : DT l 185 [.ref 181] (mm q I v fr) 0 0 (.inl (some (.int (iI (pendA A)))), mm q I v fr) := by
  have hr := hA.rg
  refine mkdt hl (by decide) (Nat.le_of_ble_eq_true rfl) (L := [some (.ref 181), none]) rfl ?_
  refine x_iconst (pc := 0) d185_0 ?_
  refine x_istore_n (pc := 1) (by decide +kernel) rfl d185_1 ?_
  dsimp only [List.set]
  exact lp_rpend hl hq hR hA (A 0 6).toNat 0 (by omega)
end Rres
