/-! ===== the reference: a number ===== -/
section Rnum2
variable {l : LX} {q : Nat} {I : Nat → Int → Int} {v : Int} {fr : Bool} {T : Int → Int} {n : Int}
/-- the number that is answered -/
def numV (I : Nat → Int → Int) (T : Int → Int) (n lo hi e : Int) : Int := if I 181 16 ≠ 0 then lo else if (numP T n lo hi e).1 = 0 then (numP T n lo hi e).2.2.1 else lo
theorem rt_num1 (hl : l.1.stackTraces = false) (hq : 192 ≤ q) {lo hi : Int} (h : I 181 16 ≠ 0) (hr : 0 ≤ I 181 16 ∧ I 181 16 ≤ 3) : DT l 208 [.ref 181, .int (iI lo), .int (iI hi)] (mm q I v fr) 0 0 (.inl (some (.int (iI lo))), mm q I v fr) := by
  refine mkdt hl (by decide) (Nat.le_of_ble_eq_true rfl) (L := [some (.ref 181), some (.int (iI lo)), some (.int (iI hi)), none]) rfl ?_
  refine x_aload_n (pc := 0) rfl d208_0 ?_
  refine m_getI (pc := 1) (z := 16) f208_221 (by decide +kernel) rfl (xo181 (by omega)) d208_1 ?_
  refine x_if_eq (pc := 4) (tgt := 9) ⟨by omega, by omega⟩ d208_4 (by decide) (fun g4 => ?_) (fun g4 => ?_)
  · exact absurd g4 h
  · refine x_iload_n (pc := 7) rfl d208_7 ?_
    refine x_iret (pc := 8) rfl (fun _ => rfl) d208_8 ?_
    rfl
/-- the value of at most three digits -/
def v3 (T : Int → Int) (s a : Int) : Int := dvN T s (min (a - s) 3).toNat
theorem v3_r {T : Int → Int} {s a : Int} (h : ∀ i : Int, s ≤ i → i < a → 48 ≤ T i ∧ T i ≤ 57) : 0 ≤ v3 T s a ∧ v3 T s a ≤ 999 := by
  have := dvN_r (T := T) (s := s) (min (a - s) 3).toNat fun j j0 j1 => h _ (by omega) (by omega)
  have e : (10 : Int) ^ (min (a - s) 3).toNat ≤ 10 ^ 3 := by
    have : (10 : Nat) ^ (min (a - s) 3).toNat ≤ 10 ^ 3 := Nat.pow_le_pow_right (by decide) (by omega)
    have := Int.ofNat_le.mpr this
    rw [Int.natCast_pow, Int.natCast_pow] at this
    exact this
  have e3 : (10 : Int) ^ 3 = 1000 := by decide
  unfold v3
  omega
theorem v3_s {T : Int → Int} {s a : Int} (h0 : s ≤ a) (h3 : a - s < 3) : v3 T s (a + 1) = 10 * v3 T s a + T a - 48 := by
  unfold v3
  rw [show (min (a + 1 - s) 3).toNat = (min (a - s) 3).toNat + 1 from by omega]
  show dvN T s (min (a - s) 3).toNat * 10 + T (s + ((min (a - s) 3).toNat : Nat)) - 48 = _
  rw [show s + (((min (a - s) 3).toNat : Nat) : Int) = a from by omega, Int.mul_comm]
theorem v3_k {T : Int → Int} {s a : Int} (h3 : ¬ a - s < 3) : v3 T s (a + 1) = v3 T s a := by
  unfold v3
  rw [show (min (a + 1 - s) 3).toNat = (min (a - s) 3).toNat from by omega]
theorem lp_dig (hl : l.1.stackTraces = false) (hq : 192 ≤ q) (hX : RTX I T n) {s lo hi : Int} (s0 : 0 ≤ s) {Q : OO → Prop} : ∀ (m : Nat) (a : Int) (J : Nat → Int → Int), a + m = n → s ≤ a → (∀ i : Int, s ≤ i → i < a → 48 ≤ T i ∧ T i ≤ 57) → PT I J → J 181 13 = a → J 181 14 = s → J 181 16 = I 181 16 → J 181 17 = I 181 17 →
    (∀ K : Nat → Int → Int, (∀ i : Int, s ≤ i → i < rnN T n 2 m a → 48 ≤ T i ∧ T i ≤ 57) → PT I K → K 181 13 = rnN T n 2 m a → K 181 14 = s → K 181 16 = I 181 16 → K 181 17 = I 181 17 → Ex l 208 0 0 98 [some (.ref 181), some (.int (iI lo)), some (.int (iI hi)), some (.int (iI (v3 T s (rnN T n 2 m a))))] [] (mm q K v fr) Q) →
    Ex l 208 0 0 30 [some (.ref 181), some (.int (iI lo)), some (.int (iI hi)), some (.int (iI (v3 T s a)))] [] (mm q J v fr) Q := by
  intro m
  induction m with
  | zero =>
    intro a J hm a0 hd hJ h13 h14 h16 h17 hQ
    have hXJ := hX.pt hJ
    have hx := hX.2.2
    have hv := v3_r hd
    refine x_aload_n (pc := 30) rfl d208_30 ?_
    refine x_aload_n (pc := 31) rfl d208_31 ?_
    refine m_getI (pc := 32) (z := 13) f208_205 (by decide +kernel) rfl (xo181 (by omega)) d208_32 ?_
    refine x_val (pc := 35) (w := a) (h13) ?_
    refine x_cVs (pc := 35) c208_208 (rt_byte hl hq hXJ (i := a) (by omega) (by omega)) (xo181 (by omega)) rfl rfl (Nat.le_of_ble_eq_true rfl) (by decide +kernel) (by decide +kernel) rfl d208_35 ?_
    have hat1 := atT_r hXJ.2.2.2 a
    refine x_i2l (pc := 38) ⟨by omega, by omega⟩ d208_38 ?_
    refine x_ldc2 (pc := 39) (z := 48) k208_234 (by decide) d208_39 ?_
    refine x_ldc2 (pc := 42) (z := 57) k208_236 (by decide) d208_42 ?_
    refine x_cSs (pc := 45) c208_72 (rt_in hl (a := (atT T n a)) (b := 48) (c := 57) ⟨by omega, by omega⟩ ⟨by omega, by omega⟩ ⟨by omega, by omega⟩) rfl rfl (Nat.le_of_ble_eq_true rfl) (by decide +kernel) (by decide +kernel) (by decide +kernel) rfl d208_45 ?_
    refine x_ifB_eq (pc := 48) (tgt := 98) d208_48 (by decide) (fun g48 => ?_) (fun g48 => ?_)
    · exact hQ J hd hJ h13 h14 h16 h17
    · exfalso
      have g := of_decide_eq_true g48
      rw [atT_out (by omega)] at g
      omega
  | succ m ih =>
    intro a J hm a0 hd hJ h13 h14 h16 h17 hQ
    have hXJ := hX.pt hJ
    have hx := hX.2.2
    have hv := v3_r hd
    have nx : a < n ∧ kdZ (T a) = 2 → ∀ z, z = v3 T s (a + 1) → Ex l 208 0 0 30 [some (.ref 181), some (.int (iI lo)), some (.int (iI hi)), some (.int (iI z))] [] (mm q (up2 J 181 13 (a + 1)) v fr) Q := fun g z ez => by
      rw [ez]
      refine ih (a + 1) _ (by omega) (by omega) (fun i i0 i1 => ?_) (hJ.up (by decide)) up2_s (by rw [up2_i (by decide)]; exact h14) (by rw [up2_i (by decide)]; exact h16) (by rw [up2_i (by decide)]; exact h17) ?_
      · by_cases ei : i = a
        · rw [ei]; exact kdZ_2 g.2
        · exact hd i i0 (by omega)
      · rw [show rnN T n 2 m (a + 1) = rnN T n 2 (m + 1) a from (if_pos g).symm]
        exact hQ
    have gg : decide (48 ≤ atT T n a ∧ atT T n a ≤ 57) = true → a < n ∧ kdZ (T a) = 2 := fun z => by
      have g := of_decide_eq_true z
      by_cases c : a < n
      · exact ⟨c, by rw [← atT_in (T := T) (n := n) (by omega) c]; exact kdZ_e2.mpr g⟩
      · rw [atT_out c] at g; omega
    refine x_aload_n (pc := 30) rfl d208_30 ?_
    refine x_aload_n (pc := 31) rfl d208_31 ?_
    refine m_getI (pc := 32) (z := 13) f208_205 (by decide +kernel) rfl (xo181 (by omega)) d208_32 ?_
    refine x_val (pc := 35) (w := a) (h13) ?_
    refine x_cVs (pc := 35) c208_208 (rt_byte hl hq hXJ (i := a) (by omega) (by omega)) (xo181 (by omega)) rfl rfl (Nat.le_of_ble_eq_true rfl) (by decide +kernel) (by decide +kernel) rfl d208_35 ?_
    have hat2 := atT_r hXJ.2.2.2 a
    refine x_i2l (pc := 38) ⟨by omega, by omega⟩ d208_38 ?_
    refine x_ldc2 (pc := 39) (z := 48) k208_234 (by decide) d208_39 ?_
    refine x_ldc2 (pc := 42) (z := 57) k208_236 (by decide) d208_42 ?_
    refine x_cSs (pc := 45) c208_72 (rt_in hl (a := (atT T n a)) (b := 48) (c := 57) ⟨by omega, by omega⟩ ⟨by omega, by omega⟩ ⟨by omega, by omega⟩) rfl rfl (Nat.le_of_ble_eq_true rfl) (by decide +kernel) (by decide +kernel) (by decide +kernel) rfl d208_45 ?_
    refine x_ifB_eq (pc := 48) (tgt := 98) d208_48 (by decide) (fun g48 => ?_) (fun g48 => ?_)
    · have g := of_decide_eq_false g48
      have e : rnN T n 2 (m + 1) a = a := if_neg fun z => g (by rw [atT_in (by omega) z.1]; exact kdZ_2 z.2)
      rw [e] at hQ
      exact hQ J hd hJ h13 h14 h16 h17
    · refine x_aload_n (pc := 51) rfl d208_51 ?_
      refine m_getI (pc := 52) (z := 13) f208_205 (by decide +kernel) rfl (xo181 (by omega)) d208_52 ?_
      refine x_val (pc := 55) (w := a) (h13) ?_
      refine x_aload_n (pc := 55) rfl d208_55 ?_
      refine m_getI (pc := 56) (z := 14) f208_211 (by decide +kernel) rfl (xo181 (by omega)) d208_56 ?_
      refine x_val (pc := 59) (w := s) (h14) ?_
      refine x_isub (pc := 59) d208_59 ?_
      refine x_iconst (pc := 60) d208_60 ?_
      refine x_icmp_ge (pc := 61) (tgt := 83) ⟨by omega, by omega⟩ ⟨by omega, by omega⟩ d208_61 (by decide) (fun g61 => ?_) (fun g61 => ?_)
      · refine x_iload_n (pc := 83) rfl d208_83 ?_
        refine x_istore_n (pc := 84) (by decide +kernel) rfl d208_84 ?_
        dsimp only [List.set]
        refine x_aload_n (pc := 85) rfl d208_85 ?_
        refine x_dup (pc := 86) rfl d208_86 ?_
        refine m_getI (pc := 87) (z := 13) f208_205 (by decide +kernel) rfl (xo181 (by omega)) d208_87 ?_
        refine x_val (pc := 90) (w := a) (h13) ?_
        refine x_iconst (pc := 90) d208_90 ?_
        refine x_iadd (pc := 91) d208_91 ?_
        refine m_putI (pc := 92) (z := 13) f208_205 (by decide +kernel) (by decide +kernel) rfl (xo181 (by omega)) d208_92 ?_
        refine x_goto (pc := 95) (tgt := 30) d208_95 (by decide) ?_
        exact nx (gg g48) _ (v3_k (by omega)).symm
      · refine x_bipush (pc := 64) (by decide) d208_64 ?_
        refine x_iload_n (pc := 66) rfl d208_66 ?_
        refine x_imul (pc := 67) d208_67 ?_
        refine x_aload_n (pc := 68) rfl d208_68 ?_
        refine x_aload_n (pc := 69) rfl d208_69 ?_
        refine m_getI (pc := 70) (z := 13) f208_205 (by decide +kernel) rfl (xo181 (by omega)) d208_70 ?_
        refine x_val (pc := 73) (w := a) (h13) ?_
        refine x_cVs (pc := 73) c208_208 (rt_byte hl hq hXJ (i := a) (by omega) (by omega)) (xo181 (by omega)) rfl rfl (Nat.le_of_ble_eq_true rfl) (by decide +kernel) (by decide +kernel) rfl d208_73 ?_
        have hat3 := atT_r hXJ.2.2.2 a
        refine x_iadd (pc := 76) d208_76 ?_
        refine x_bipush (pc := 77) (by decide) d208_77 ?_
        refine x_isub (pc := 79) d208_79 ?_
        refine x_goto (pc := 80) (tgt := 84) d208_80 (by decide) ?_
        refine x_istore_n (pc := 84) (by decide +kernel) rfl d208_84 ?_
        dsimp only [List.set]
        refine x_aload_n (pc := 85) rfl d208_85 ?_
        refine x_dup (pc := 86) rfl d208_86 ?_
        refine m_getI (pc := 87) (z := 13) f208_205 (by decide +kernel) rfl (xo181 (by omega)) d208_87 ?_
        refine x_val (pc := 90) (w := a) (h13) ?_
        refine x_iconst (pc := 90) d208_90 ?_
        refine x_iadd (pc := 91) d208_91 ?_
        refine m_putI (pc := 92) (z := 13) f208_205 (by decide +kernel) (by decide +kernel) rfl (xo181 (by omega)) d208_92 ?_
        refine x_goto (pc := 95) (tgt := 30) d208_95 (by decide) ?_
        exact nx (gg g48) _ (by rw [v3_s (by omega) g61, atT_in (by omega) (gg g48).1])
/-- from the test of the range on, in error -/
theorem lp_n121 (hl : l.1.stackTraces = false) (hq : 192 ≤ q) {w lo hi : Int} (hw : 0 ≤ w ∧ w ≤ 999) (hlo : InR lo) (hhi : InR hi) (h16 : I 181 16 = 1) : Ex l 208 0 0 121 [some (.ref 181), some (.int (iI lo)), some (.int (iI hi)), some (.int (iI w))] [] (mm q I v fr) (fun o => o = (.inl (some (.int (iI lo))), mm q I v fr)) := by
  obtain ⟨hlo0, hlo1⟩ := hlo
  obtain ⟨hhi0, hhi1⟩ := hhi
  have hne : I 181 16 ≠ 0 := by omega
  refine x_aload_n (pc := 121) rfl d208_121 ?_
  refine x_iload_n (pc := 122) rfl d208_122 ?_
  refine x_i2l (pc := 123) ⟨by omega, by omega⟩ d208_123 ?_
  refine x_iload_n (pc := 124) rfl d208_124 ?_
  refine x_i2l (pc := 125) ⟨by omega, by omega⟩ d208_125 ?_
  refine x_iload_n (pc := 126) rfl d208_126 ?_
  refine x_i2l (pc := 127) ⟨by omega, by omega⟩ d208_127 ?_
  refine x_cSs (pc := 128) c208_72 (rt_in hl (a := w) (b := lo) (c := hi) ⟨by omega, by omega⟩ ⟨by omega, by omega⟩ ⟨by omega, by omega⟩) rfl rfl (Nat.le_of_ble_eq_true rfl) (by decide +kernel) (by decide +kernel) (by decide +kernel) rfl d208_128 ?_
  refine x_iconst (pc := 131) d208_131 ?_
  refine x_cVv (pc := 132) c208_230 (rt_mustT hl hq (b := (decide (lo ≤ w ∧ w ≤ hi))) (code := 2) ⟨by omega, by omega⟩ (Or.inr hne)) (xo181 (by omega)) rfl rfl (Nat.le_of_ble_eq_true rfl) (by decide +kernel) (by decide +kernel) rfl d208_132 ?_
  refine x_aload_n (pc := 135) rfl d208_135 ?_
  refine m_getI (pc := 136) (z := 16) f208_221 (by decide +kernel) rfl (xo181 (by omega)) d208_136 ?_
  refine x_val (pc := 139) (w := 1) (h16) ?_
  refine x_if_ne (pc := 139) (tgt := 146) ⟨by omega, by omega⟩ d208_139 (by decide) (fun _ => ?_) (fun z => absurd z (by decide))
  refine x_iload_n (pc := 146) rfl d208_146 ?_
  refine x_iret (pc := 147) rfl (fun _ => rfl) d208_147 ?_
  first | rfl | (exfalso; omega)
theorem lp_n121F (hl : l.1.stackTraces = false) (hq : 192 ≤ q) {s w lo hi : Int} (hw : 0 ≤ w ∧ w ≤ 999) (hlo : InR lo) (hhi : InR hi) (h16 : I 181 16 = 0) (h14 : I 181 14 = s) (hzf : decide (lo ≤ w ∧ w ≤ hi) = false) : Ex l 208 0 0 121 [some (.ref 181), some (.int (iI lo)), some (.int (iI hi)), some (.int (iI w))] [] (mm q I v fr) (fun o => o = (.inl (some (.int (iI lo))), mm q (up2 (up2 I 181 16 2) 181 17 s) v fr)) := by
  obtain ⟨hlo0, hlo1⟩ := hlo
  obtain ⟨hhi0, hhi1⟩ := hhi
  refine x_aload_n (pc := 121) rfl d208_121 ?_
  refine x_iload_n (pc := 122) rfl d208_122 ?_
  refine x_i2l (pc := 123) ⟨by omega, by omega⟩ d208_123 ?_
  refine x_iload_n (pc := 124) rfl d208_124 ?_
  refine x_i2l (pc := 125) ⟨by omega, by omega⟩ d208_125 ?_
  refine x_iload_n (pc := 126) rfl d208_126 ?_
  refine x_i2l (pc := 127) ⟨by omega, by omega⟩ d208_127 ?_
  refine x_cSs (pc := 128) c208_72 (rt_in hl (a := w) (b := lo) (c := hi) ⟨by omega, by omega⟩ ⟨by omega, by omega⟩ ⟨by omega, by omega⟩) rfl rfl (Nat.le_of_ble_eq_true rfl) (by decide +kernel) (by decide +kernel) (by decide +kernel) rfl d208_128 ?_
  refine x_iconst (pc := 131) d208_131 ?_
  refine x_cVv (pc := 132) c208_230 (rt_mustF hl hq (b := (decide (lo ≤ w ∧ w ≤ hi))) (code := 2) (s := s) (hzf) h16 h14) (xo181 (by omega)) rfl rfl (Nat.le_of_ble_eq_true rfl) (by decide +kernel) (by decide +kernel) rfl d208_132 ?_
  refine x_aload_n (pc := 135) rfl d208_135 ?_
  refine m_getW (pc := 136) (z := 16) (w := 2) f208_221 (by decide +kernel) rfl (xo181 (by omega)) (by rw [up2_i (by decide), up2_s]) d208_136 ?_
  refine x_if_ne (pc := 139) (tgt := 146) ⟨by omega, by omega⟩ d208_139 (by decide) (fun _ => ?_) (fun z => absurd z (by decide))
  refine x_iload_n (pc := 146) rfl d208_146 ?_
  refine x_iret (pc := 147) rfl (fun _ => rfl) d208_147 ?_
  first | rfl | (exfalso; omega)
theorem lp_n121T (hl : l.1.stackTraces = false) (hq : 192 ≤ q) {w lo hi : Int} (hw : 0 ≤ w ∧ w ≤ 999) (hlo : InR lo) (hhi : InR hi) (h16 : I 181 16 = 0) (hzt : decide (lo ≤ w ∧ w ≤ hi) = true) : Ex l 208 0 0 121 [some (.ref 181), some (.int (iI lo)), some (.int (iI hi)), some (.int (iI w))] [] (mm q I v fr) (fun o => o = (.inl (some (.int (iI w))), mm q I v fr)) := by
  obtain ⟨hlo0, hlo1⟩ := hlo
  obtain ⟨hhi0, hhi1⟩ := hhi
  refine x_aload_n (pc := 121) rfl d208_121 ?_
  refine x_iload_n (pc := 122) rfl d208_122 ?_
  refine x_i2l (pc := 123) ⟨by omega, by omega⟩ d208_123 ?_
  refine x_iload_n (pc := 124) rfl d208_124 ?_
  refine x_i2l (pc := 125) ⟨by omega, by omega⟩ d208_125 ?_
  refine x_iload_n (pc := 126) rfl d208_126 ?_
  refine x_i2l (pc := 127) ⟨by omega, by omega⟩ d208_127 ?_
  refine x_cSs (pc := 128) c208_72 (rt_in hl (a := w) (b := lo) (c := hi) ⟨by omega, by omega⟩ ⟨by omega, by omega⟩ ⟨by omega, by omega⟩) rfl rfl (Nat.le_of_ble_eq_true rfl) (by decide +kernel) (by decide +kernel) (by decide +kernel) rfl d208_128 ?_
  refine x_iconst (pc := 131) d208_131 ?_
  refine x_cVv (pc := 132) c208_230 (rt_mustT hl hq (b := (decide (lo ≤ w ∧ w ≤ hi))) (code := 2) ⟨by omega, by omega⟩ (Or.inl hzt)) (xo181 (by omega)) rfl rfl (Nat.le_of_ble_eq_true rfl) (by decide +kernel) (by decide +kernel) rfl d208_132 ?_
  refine x_aload_n (pc := 135) rfl d208_135 ?_
  refine m_getI (pc := 136) (z := 16) f208_221 (by decide +kernel) rfl (xo181 (by omega)) d208_136 ?_
  refine x_val (pc := 139) (w := 0) (h16) ?_
  refine x_if_ne (pc := 139) (tgt := 146) ⟨by omega, by omega⟩ d208_139 (by decide) (fun z => absurd z (by decide)) (fun _ => ?_)
  refine x_iload_n (pc := 142) rfl d208_142 ?_
  refine x_goto (pc := 143) (tgt := 147) d208_143 (by decide) ?_
  refine x_iret (pc := 147) rfl (fun _ => rfl) d208_147 ?_
  first | rfl | (exfalso; omega)
theorem lp_n98L (hl : l.1.stackTraces = false) (hq : 192 ≤ q) {s a w lo hi : Int} {Q : OO → Prop} (s0 : 0 ≤ s) (a0 : s ≤ a) (a1 : a ≤ 500) (h13 : I 181 13 = a) (h14 : I 181 14 = s) (h16 : I 181 16 = 0) (hlong : 3 < a - s) (kk : Ex l 208 0 0 121 [some (.ref 181), some (.int (iI lo)), some (.int (iI hi)), some (.int (iI w))] [] (mm q (up2 (up2 I 181 16 1) 181 17 s) v fr) Q) : Ex l 208 0 0 98 [some (.ref 181), some (.int (iI lo)), some (.int (iI hi)), some (.int (iI w))] [] (mm q I v fr) Q := by
  refine x_aload_n (pc := 98) rfl d208_98 ?_
  refine x_aload_n (pc := 99) rfl d208_99 ?_
  refine m_getI (pc := 100) (z := 13) f208_205 (by decide +kernel) rfl (xo181 (by omega)) d208_100 ?_
  refine x_val (pc := 103) (w := a) (h13) ?_
  refine x_aload_n (pc := 103) rfl d208_103 ?_
  refine m_getI (pc := 104) (z := 14) f208_211 (by decide +kernel) rfl (xo181 (by omega)) d208_104 ?_
  refine x_val (pc := 107) (w := s) (h14) ?_
  refine x_isub (pc := 107) d208_107 ?_
  refine x_iconst (pc := 108) d208_108 ?_
  refine x_icmp_gt (pc := 109) (tgt := 116) ⟨by omega, by omega⟩ ⟨by omega, by omega⟩ d208_109 (by decide) (fun g109 => ?_) (fun g109 => ?_)
  · refine x_iconst (pc := 116) d208_116 ?_
    refine x_iconst (pc := 117) d208_117 ?_
    refine x_cVv (pc := 118) c208_230 (rt_mustF hl hq (b := false) (code := 1) (s := s) (rfl) h16 h14) (xo181 (by omega)) rfl rfl (Nat.le_of_ble_eq_true rfl) (by decide +kernel) (by decide +kernel) rfl d208_118 ?_
    exact kk
  · exfalso; omega
theorem lp_n98S (hl : l.1.stackTraces = false) (hq : 192 ≤ q) {s a w lo hi : Int} {Q : OO → Prop} (s0 : 0 ≤ s) (a0 : s ≤ a) (a1 : a ≤ 500) (h13 : I 181 13 = a) (h14 : I 181 14 = s) (h16 : 0 ≤ I 181 16 ∧ I 181 16 ≤ 3) (hlong : ¬ 3 < a - s) (kk : Ex l 208 0 0 121 [some (.ref 181), some (.int (iI lo)), some (.int (iI hi)), some (.int (iI w))] [] (mm q I v fr) Q) : Ex l 208 0 0 98 [some (.ref 181), some (.int (iI lo)), some (.int (iI hi)), some (.int (iI w))] [] (mm q I v fr) Q := by
  refine x_aload_n (pc := 98) rfl d208_98 ?_
  refine x_aload_n (pc := 99) rfl d208_99 ?_
  refine m_getI (pc := 100) (z := 13) f208_205 (by decide +kernel) rfl (xo181 (by omega)) d208_100 ?_
  refine x_val (pc := 103) (w := a) (h13) ?_
  refine x_aload_n (pc := 103) rfl d208_103 ?_
  refine m_getI (pc := 104) (z := 14) f208_211 (by decide +kernel) rfl (xo181 (by omega)) d208_104 ?_
  refine x_val (pc := 107) (w := s) (h14) ?_
  refine x_isub (pc := 107) d208_107 ?_
  refine x_iconst (pc := 108) d208_108 ?_
  refine x_icmp_gt (pc := 109) (tgt := 116) ⟨by omega, by omega⟩ ⟨by omega, by omega⟩ d208_109 (by decide) (fun g109 => ?_) (fun g109 => ?_)
  · exfalso; omega
  · refine x_iconst (pc := 112) d208_112 ?_
    refine x_goto (pc := 113) (tgt := 117) d208_113 (by decide) ?_
    refine x_iconst (pc := 117) d208_117 ?_
    refine x_cVv (pc := 118) c208_230 (rt_mustT hl hq (b := true) (code := 1) ⟨by omega, by omega⟩ (Or.inl rfl)) (xo181 (by omega)) rfl rfl (Nat.le_of_ble_eq_true rfl) (by decide +kernel) (by decide +kernel) rfl d208_118 ?_
    exact kk
theorem lp_n30N (hl : l.1.stackTraces = false) (hq : 192 ≤ q) (hX : RTX I T n) {s lo hi : Int} {Q : OO → Prop} (s0 : 0 ≤ s) (s1 : s ≤ n) (h13 : I 181 13 = s) (hd : ¬ (48 ≤ atT T n s ∧ atT T n s ≤ 57)) (kk : Ex l 208 0 0 98 [some (.ref 181), some (.int (iI lo)), some (.int (iI hi)), some (.int (iI 0))] [] (mm q I v fr) Q) : Ex l 208 0 0 30 [some (.ref 181), some (.int (iI lo)), some (.int (iI hi)), some (.int (iI 0))] [] (mm q I v fr) Q := by
  have hx := hX.2.2
  refine x_aload_n (pc := 30) rfl d208_30 ?_
  refine x_aload_n (pc := 31) rfl d208_31 ?_
  refine m_getI (pc := 32) (z := 13) f208_205 (by decide +kernel) rfl (xo181 (by omega)) d208_32 ?_
  refine x_val (pc := 35) (w := s) (h13) ?_
  refine x_cVs (pc := 35) c208_208 (rt_byte hl hq hX (i := s) (by omega) (by omega)) (xo181 (by omega)) rfl rfl (Nat.le_of_ble_eq_true rfl) (by decide +kernel) (by decide +kernel) rfl d208_35 ?_
  have hat4 := atT_r hX.2.2.2 s
  refine x_i2l (pc := 38) ⟨by omega, by omega⟩ d208_38 ?_
  refine x_ldc2 (pc := 39) (z := 48) k208_234 (by decide) d208_39 ?_
  refine x_ldc2 (pc := 42) (z := 57) k208_236 (by decide) d208_42 ?_
  refine x_cSs (pc := 45) c208_72 (rt_in hl (a := (atT T n s)) (b := 48) (c := 57) ⟨by omega, by omega⟩ ⟨by omega, by omega⟩ ⟨by omega, by omega⟩) rfl rfl (Nat.le_of_ble_eq_true rfl) (by decide +kernel) (by decide +kernel) (by decide +kernel) rfl d208_45 ?_
  refine x_ifB_eq (pc := 48) (tgt := 98) d208_48 (by decide) (fun g48 => ?_) (fun g48 => ?_)
  · exact kk
  · exact absurd (of_decide_eq_true g48) hd
theorem rt_num0 (hl : l.1.stackTraces = false) (hq : 192 ≤ q) (hX : RTX I T n) {e lo hi : Int} (hlo : InR lo) (hhi : InR hi) (h16 : I 181 16 = 0) (he : I 181 13 = e) (e0 : 0 ≤ e) (e1 : e ≤ n) : CT l 208 [.ref 181, .int (iI lo), .int (iI hi)] (mm q I v fr) 0 0 (oE q v fr (some (.int (iI (numV I T n lo hi e)))) (fun K => RR I K (numP T n lo hi e).1 (numP T n lo hi e).2.1 (numP T n lo hi e).2.2.2)) := by
  have hr := tok_r (T := T) e1
  have hx := hX.2.2
  have hk : tK T n e = kdZ (atT T n (tS T n e)) := rfl
  unfold numV
  rw [if_neg (fun z => z h16)]
  have bad : ∀ (K : Nat → Int → Int) (c : Int), c ≠ 0 → PT I K → K 181 16 = c → K 181 17 = tS T n e → RR I K c (tS T n e) 0 := fun K c c0 k0 k1 k2 => ⟨k0, fun z => absurd h16 z, fun _ => ⟨fun z => absurd z c0, fun _ => ⟨k1, k2⟩⟩⟩
  by_cases hd : 48 ≤ atT T n (tS T n e) ∧ atT T n (tS T n e) ≤ 57
  · have k2 : tK T n e = 2 := by rw [hk]; exact kdZ_e2.mpr hd
    have hin := (hr.2.2.2.2.1 (by omega)).1
    have hT : kdZ (T (tS T n e)) = 2 := by rw [← atT_in (T := T) (n := n) (by omega) hin]; exact k2
    have hE : rnN T n 2 (n - tS T n e).toNat (tS T n e) = tE T n e := by
      unfold tE
      rw [if_neg (by omega), if_pos (by omega), k2]
      obtain ⟨m, hm⟩ : ∃ m, (n - tS T n e).toNat = m + 1 := ⟨(n - tS T n e).toNat - 1, by omega⟩
      rw [hm, show (n - (tS T n e + 1)).toNat = m from by omega]
      exact if_pos ⟨hin, hT⟩
    refine mkct2 hl (by decide) (Nat.le_of_ble_eq_true rfl) (L := [some (.ref 181), some (.int (iI lo)), some (.int (iI hi)), none]) rfl ?_
    refine x_aload_n (pc := 0) rfl d208_0 ?_
    refine m_getI (pc := 1) (z := 16) f208_221 (by decide +kernel) rfl (xo181 (by omega)) d208_1 ?_
    refine x_val (pc := 4) (w := 0) (h16) ?_
    refine x_if_eq (pc := 4) (tgt := 9) ⟨by omega, by omega⟩ d208_4 (by decide) (fun _ => ?_) (fun z => absurd z (by decide))
    refine x_aload_n (pc := 9) rfl d208_9 ?_
    refine x_aload_n (pc := 10) rfl d208_10 ?_
    refine x_cVes (pc := 11) c208_227 (rt_next hl hq hX (e := e) he (by omega) (by omega)) (xo181 (by omega)) rfl rfl (Nat.le_of_ble_eq_true rfl) (by decide +kernel) (by decide +kernel) d208_11 (fun J1 hJ1 => ?_)
    have hat5 := atT_r hx.2 (tS T n e)
    refine x_i2l (pc := 14) ⟨by omega, by omega⟩ d208_14 ?_
    refine x_ldc2 (pc := 15) (z := 48) k208_234 (by decide) d208_15 ?_
    refine x_ldc2 (pc := 18) (z := 57) k208_236 (by decide) d208_18 ?_
    refine x_cSs (pc := 21) c208_72 (rt_in hl (a := (atT T n (tS T n e))) (b := 48) (c := 57) ⟨by omega, by omega⟩ ⟨by omega, by omega⟩ ⟨by omega, by omega⟩) rfl rfl (Nat.le_of_ble_eq_true rfl) (by decide +kernel) (by decide +kernel) (by decide +kernel) rfl d208_21 ?_
    refine x_iconst (pc := 24) d208_24 ?_
    refine x_cVv (pc := 25) c208_230 (rt_mustT hl hq (b := (decide (48 ≤ atT T n (tS T n e) ∧ atT T n (tS T n e) ≤ 57))) (code := 1) ⟨by rw [hJ1.2.2.2.2.1, h16]; decide, by rw [hJ1.2.2.2.2.1, h16]; decide⟩ (Or.inl (decide_eq_true hd))) (xo181 (by omega)) rfl rfl (Nat.le_of_ble_eq_true rfl) (by decide +kernel) (by decide +kernel) rfl d208_25 ?_
    refine x_iconst (pc := 28) d208_28 ?_
    refine x_istore_n (pc := 29) (by decide +kernel) rfl d208_29 ?_
    dsimp only [List.set]
    have hX1 := hX.pt hJ1.1
    have k17 : J1 181 17 = I 181 17 := hJ1.2.2.2.2.2
    have k16 : J1 181 16 = 0 := by rw [hJ1.2.2.2.2.1]; exact h16
    have h := lp_dig (I := J1) (v := v) (fr := fr) (lo := lo) (hi := hi) hl hq hX1 (s := tS T n e) (by omega) (n - tS T n e).toNat (tS T n e) J1 (by omega) (Int.le_refl _) (fun i i0 i1 => absurd i1 (by omega)) PT.refl hJ1.2.1 hJ1.2.2.1 rfl rfl (Q := oE q v fr (some (.int (iI (if (numP T n lo hi e).1 = 0 then (numP T n lo hi e).2.2.1 else lo)))) (fun K => RR I K (numP T n lo hi e).1 (numP T n lo hi e).2.1 (numP T n lo hi e).2.2.2)) fun K kd k0 k1 k2 k3 k4 => by
      rw [hE] at kd k1 ⊢
      have hv := v3_r kd
      have p0 : PT I K := hJ1.1.trans k0
      rw [k16] at k3
      rw [k17] at k4
      by_cases cl : 3 < tE T n e - tS T n e
      · have er : numP T n lo hi e = (1, tS T n e, 0, 0) := if_pos (Or.inr cl)
        rw [er]
        refine lp_n98L hl hq (by omega) (by omega) (by omega) k1 k2 k3 cl ?_
        refine ex_mono (lp_n121 hl hq hv hlo hhi (by rw [up2_i (by decide), up2_s])) fun o ho => ?_
        exact ⟨_, ho, bad _ 1 (by decide) ((p0.up (by decide)).up (by decide)) (by rw [up2_i (by decide), up2_s]) up2_s⟩
      · have ev : v3 T (tS T n e) (tE T n e) = dvN T (tS T n e) (tE T n e - tS T n e).toNat := by unfold v3; rw [show min (tE T n e - tS T n e) 3 = tE T n e - tS T n e from by omega]
        refine lp_n98S hl hq (by omega) (by omega) (by omega) k1 k2 (by omega) cl ?_
        have c1 : ¬ (tK T n e ≠ 2 ∨ 3 < tE T n e - tS T n e) := by omega
        by_cases cv : lo ≤ v3 T (tS T n e) (tE T n e) ∧ v3 T (tS T n e) (tE T n e) ≤ hi
        · have er : numP T n lo hi e = (0, 0, dvN T (tS T n e) (tE T n e - tS T n e).toNat, tE T n e) := by
            unfold numP
            rw [if_neg c1, if_neg (by rw [← ev]; omega)]
          rw [er]
          refine ex_mono (lp_n121T hl hq hv hlo hhi k3 (decide_eq_true cv)) fun o ho => ?_
          rw [ev] at ho
          exact ⟨K, ho, p0, fun z => absurd h16 z, fun _ => ⟨fun _ => ⟨k3, k4, k1⟩, fun z => absurd rfl z⟩⟩
        · have er : numP T n lo hi e = (2, tS T n e, 0, 0) := by
            unfold numP
            rw [if_neg c1, if_pos (by rw [← ev]; omega)]
          rw [er]
          refine ex_mono (lp_n121F hl hq hv hlo hhi k3 k2 (decide_eq_false cv)) fun o ho => ?_
          exact ⟨_, ho, bad _ 2 (by decide) ((p0.up (by decide)).up (by decide)) (by rw [up2_i (by decide), up2_s]) up2_s⟩
    rw [show v3 T (tS T n e) (tS T n e) = 0 from by unfold v3; rw [show (min (tS T n e - tS T n e) 3).toNat = 0 from by omega]; rfl] at h
    exact h
  · have k2 : tK T n e ≠ 2 := fun z => hd (kdZ_e2.mp (by rw [← hk]; exact z))
    have er : numP T n lo hi e = (1, tS T n e, 0, 0) := if_pos (Or.inl k2)
    rw [er]
    refine mkct2 hl (by decide) (Nat.le_of_ble_eq_true rfl) (L := [some (.ref 181), some (.int (iI lo)), some (.int (iI hi)), none]) rfl ?_
    refine x_aload_n (pc := 0) rfl d208_0 ?_
    refine m_getI (pc := 1) (z := 16) f208_221 (by decide +kernel) rfl (xo181 (by omega)) d208_1 ?_
    refine x_val (pc := 4) (w := 0) (h16) ?_
    refine x_if_eq (pc := 4) (tgt := 9) ⟨by omega, by omega⟩ d208_4 (by decide) (fun _ => ?_) (fun z => absurd z (by decide))
    refine x_aload_n (pc := 9) rfl d208_9 ?_
    refine x_aload_n (pc := 10) rfl d208_10 ?_
    refine x_cVes (pc := 11) c208_227 (rt_next hl hq hX (e := e) he (by omega) (by omega)) (xo181 (by omega)) rfl rfl (Nat.le_of_ble_eq_true rfl) (by decide +kernel) (by decide +kernel) d208_11 (fun J1 hJ1 => ?_)
    have hat6 := atT_r hx.2 (tS T n e)
    refine x_i2l (pc := 14) ⟨by omega, by omega⟩ d208_14 ?_
    refine x_ldc2 (pc := 15) (z := 48) k208_234 (by decide) d208_15 ?_
    refine x_ldc2 (pc := 18) (z := 57) k208_236 (by decide) d208_18 ?_
    refine x_cSs (pc := 21) c208_72 (rt_in hl (a := (atT T n (tS T n e))) (b := 48) (c := 57) ⟨by omega, by omega⟩ ⟨by omega, by omega⟩ ⟨by omega, by omega⟩) rfl rfl (Nat.le_of_ble_eq_true rfl) (by decide +kernel) (by decide +kernel) (by decide +kernel) rfl d208_21 ?_
    refine x_iconst (pc := 24) d208_24 ?_
    refine x_cVv (pc := 25) c208_230 (rt_mustF hl hq (b := (decide (48 ≤ atT T n (tS T n e) ∧ atT T n (tS T n e) ≤ 57))) (code := 1) (s := tS T n e) (decide_eq_false hd) (by rw [hJ1.2.2.2.2.1]; exact h16) hJ1.2.2.1) (xo181 (by omega)) rfl rfl (Nat.le_of_ble_eq_true rfl) (by decide +kernel) (by decide +kernel) rfl d208_25 ?_
    refine x_iconst (pc := 28) d208_28 ?_
    refine x_istore_n (pc := 29) (by decide +kernel) rfl d208_29 ?_
    dsimp only [List.set]
    have p0 : PT I (up2 (up2 J1 181 16 1) 181 17 (tS T n e)) := (hJ1.1.up (by decide)).up (by decide)
    have q13 : up2 (up2 J1 181 16 1) 181 17 (tS T n e) 181 13 = tS T n e := by rw [up2_i (by decide), up2_i (by decide)]; exact hJ1.2.1
    have q14 : up2 (up2 J1 181 16 1) 181 17 (tS T n e) 181 14 = tS T n e := by rw [up2_i (by decide), up2_i (by decide)]; exact hJ1.2.2.1
    have q16 : up2 (up2 J1 181 16 1) 181 17 (tS T n e) 181 16 = 1 := by rw [up2_i (by decide), up2_s]
    refine lp_n30N hl hq (hX.pt p0) (by omega) (by omega) q13 hd ?_
    refine lp_n98S hl hq (by omega) (Int.le_refl _) (by omega) q13 q14 (by omega) (by omega) ?_
    refine ex_mono (lp_n121 hl hq (by decide) hlo hhi q16) fun o ho => ?_
    exact ⟨_, ho, bad _ 1 (by decide) p0 q16 up2_s⟩
/-- a number -/
theorem rt_num (hl : l.1.stackTraces = false) (hq : 192 ≤ q) (hX : RTX I T n) {e lo hi : Int} (hlo : InR lo) (hhi : InR hi) (hr : 0 ≤ I 181 16 ∧ I 181 16 ≤ 3) (he : I 181 16 = 0 → I 181 13 = e ∧ 0 ≤ e ∧ e ≤ n) : CT l 208 [.ref 181, .int (iI lo), .int (iI hi)] (mm q I v fr) 0 0 (oE q v fr (some (.int (iI (numV I T n lo hi e)))) (fun K => RR I K (numP T n lo hi e).1 (numP T n lo hi e).2.1 (numP T n lo hi e).2.2.2)) := by
  by_cases h : I 181 16 = 0
  · exact rt_num0 hl hq hX hlo hhi h (he h).1 (he h).2.1 (he h).2.2
  · have ev : numV I T n lo hi e = lo := if_pos h
    rw [ev]
    refine mkct2 hl (by decide) (Nat.le_of_ble_eq_true rfl) (L := [some (.ref 181), some (.int (iI lo)), some (.int (iI hi)), none]) rfl ?_
    refine x_aload_n (pc := 0) rfl d208_0 ?_
    refine m_getI (pc := 1) (z := 16) f208_221 (by decide +kernel) rfl (xo181 (by omega)) d208_1 ?_
    refine x_if_eq (pc := 4) (tgt := 9) ⟨by omega, by omega⟩ d208_4 (by decide) (fun g4 => ?_) (fun g4 => ?_)
    · exact absurd g4 h
    · refine x_iload_n (pc := 7) rfl d208_7 ?_
      refine x_iret (pc := 8) rfl (fun _ => rfl) d208_8 ?_
      exact ⟨I, rfl, PT.refl, fun _ => ⟨rfl, rfl⟩, fun z => absurd z h⟩
end Rnum2
