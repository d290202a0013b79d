/-! ===== the reference's constructor ===== -/
/-- the text that it reads -/
abbrev T10 : Int → Int := tB 10
theorem T10_len : ksLen 10 = 31 := by decide +kernel
theorem T10_r : ∀ i : Nat, i < 31 → 0 ≤ T10 i ∧ T10 i ≤ 255 := by decide +kernel
theorem mdm0 : mdmP T10 31 = (0, 0, cfgA 2 0 10 4, 17) := by
  unfold mdmP
  rw [if_neg (by decide +kernel), show tE T10 31 0 = 5 from by decide +kernel, show numP T10 31 1 9 5 = (0, 0, 2, 7) from by decide +kernel, pbind_ok rfl]
  dsimp only
  rw [show numP T10 31 1 199 7 = (0, 0, 100, 11) from by decide +kernel, pbind_ok rfl]
  dsimp only
  rw [show numP T10 31 1 99 11 = (0, 0, 10, 14) from by decide +kernel, pbind_ok rfl]
  dsimp only
  rw [show numP T10 31 1 9 14 = (0, 0, 4, 16) from by decide +kernel, pbind_ok rfl]
  dsimp only
  rw [show semP T10 31 16 = (0, 0, 17) from by decide +kernel, pbind_ok rfl]
  rfl
theorem dgs1 (A : AV) : dgsP T10 31 3 A 31 = (0, 0, A) := by
  show dgsP T10 31 (2 + 1) A 31 = _
  rw [dgsP, if_pos (by decide +kernel)]
theorem dgs0 : dgsP T10 31 4 (cfgA 2 0 10 4) 17 = (0, 0, dgA0) := by
  show dgsP T10 31 (3 + 1) (cfgA 2 0 10 4) 17 = _
  rw [dgsP, if_neg (by decide +kernel), if_neg (by decide +kernel), if_neg (by decide), show tE T10 31 17 = 20 from by decide +kernel, show dogP T10 31 20 = (0, 0, 200, 30, 20, 30) from by decide +kernel, pbind_ok rfl]
  dsimp only
  rw [show semP T10 31 30 = (0, 0, 31) from by decide +kernel, pbind_ok rfl]
  dsimp only
  rw [dgs1]
  rfl
theorem conf0 : confP T10 31 = (0, 0, dgA0) := by
  unfold confP
  rw [mdm0, pbind_ok rfl]
  exact dgs0
section Ctor146
variable {l : LX} {v : Int} {I : Nat → Int → Int}
/-- its loop over the text -/
theorem lp146 (hl : l.1.stackTraces = false) {Q : OO → Prop} (hn : ∀ J : Nat → Int → Int, (∀ a, a ≠ 189 → J a = I a) → (∀ k : Int, 0 ≤ k → k < 31 → J 189 k = T10 k) → Ex l 146 0 0 126 [some (.ref 181), some (.ref (scr + 1 + 10)), none] [] (mm 192 J v true) Q) : ∀ (m i : Nat) (J : Nat → Int → Int), m + i = 31 → (∀ a, a ≠ 189 → J a = I a) → (∀ k : Int, 0 ≤ k → k < i → J 189 k = T10 k) → Ex l 146 0 0 101 [some (.ref 181), some (.ref (scr + 1 + 10)), some (.int (iI (i : Int)))] [] (mm 192 J v true) Q := by
  intro m
  induction m with
  | zero =>
    intro i J hi o h
    have hi : i = 31 := by omega
    subst hi
    refine x_iload_n (pc := 101) rfl d146_101 ?_
    refine x_aload_n (pc := 102) rfl d146_102 ?_
    refine x_slenT (pc := 103) (i := 10) hl c146_46 (by decide) (Nat.le_of_ble_eq_true rfl) (by decide +kernel) (by decide +kernel) d146_103 ?_
    rw [T10_len]
    refine x_icmp_ge (pc := 106) (tgt := 126) ⟨by decide, by decide⟩ ⟨by decide, by decide⟩ d146_106 (by decide) (fun _ => ?_) (fun g => absurd g (by decide))
    refine x_mask [true, true, false] ?_
    dsimp only [mask]
    exact hn J o h
  | succ m ih =>
    intro i J hi o h
    refine x_iload_n (pc := 101) rfl d146_101 ?_
    refine x_aload_n (pc := 102) rfl d146_102 ?_
    refine x_slenT (pc := 103) (i := 10) hl c146_46 (by decide) (Nat.le_of_ble_eq_true rfl) (by decide +kernel) (by decide +kernel) d146_103 ?_
    rw [T10_len]
    refine x_icmp_ge (pc := 106) (tgt := 126) ⟨by omega, by omega⟩ ⟨by decide, by decide⟩ d146_106 (by decide) (fun g => by exfalso; omega) (fun g => ?_)
    refine x_aload_n (pc := 109) rfl d146_109 ?_
    refine m_getR (pc := 110) f146_31 (by decide +kernel) (xo181 (by decide)) rr181_11 d146_110 ?_
    refine x_iload_n (pc := 113) rfl d146_113 ?_
    refine x_aload_n (pc := 114) rfl d146_114 ?_
    refine x_iload_n (pc := 115) rfl d146_115 ?_
    refine x_schT (pc := 116) (i := 10) (j := (i : Int)) hl c146_52 (by decide) (by omega) (by rw [T10_len]; omega) (Nat.le_of_ble_eq_true rfl) (by decide +kernel) (by decide +kernel) d146_116 ?_
    refine m_iast (pc := 119) (xa189 (by decide)) (by omega) (by omega) (by omega) d146_119 ?_
    refine x_iinc (pc := 120) rfl (by decide +kernel) rfl d146_120 ?_
    dsimp only [List.set]
    refine x_goto (pc := 123) (tgt := 101) d146_123 (by decide) ?_
    have hh := ih (i + 1) (up2 J 189 (i : Int) (T10 i)) (by omega) (fun a ha => by rw [up2_off' _ _ _ ha]; exact o a ha) (fun k k0 k1 => by
      by_cases hk : k = (i : Int)
      · rw [hk, up2_s]
      · rw [up2_i hk]; exact h k k0 (by omega))
    rw [show ((i + 1 : Nat) : Int) = (i : Int) + 1 from by omega] at hh
    exact hh
theorem kt146 (hl : l.1.stackTraces = false) (hI : ∀ b, 181 ≤ b → ∀ j, I b j = 0) (T : Int → Int) : CT l 146 [.ref 181] (cm I (mR R0 181 0) 182 v) 10 13254 (fun o => ∃ K, o = (.inl none, mm 192 K v true) ∧ (∀ a, a < 181 ∨ 192 ≤ a → K a = I a) ∧ RREL K (S00 T)) := by
  have eR : ∀ b, R0 181 b = [some 182, some 183, some 184, some 185, some 186, none, none, none, some 187, some 188, none, some 189, none, none, none, none, none, none, none, none, some 190, none, some 191].getD b none := fun b => by
    have e : R0L.getD 181 [] = [some 182, some 183, some 184, some 185, some 186, none, none, none, some 187, some 188, none, some 189, none, none, none, none, none, none, none, none, some 190, none, some 191] := by decide +kernel
    unfold R0
    rw [e]
  refine mkct2 hl (by decide) (Nat.le_of_ble_eq_true rfl) (L := [some (.ref 181), none, none]) rfl ?_
  refine x_aload_n (pc := 0) rfl d146_0 ?_
  refine x_obj (pc := 1) c146_3 (by decide +kernel) (Nat.le_of_ble_eq_true rfl) d146_1 ?_
  refine x_aload_n (pc := 4) rfl d146_4 ?_
  refine x_sipush (pc := 5) (by decide) d146_5 ?_
  refine c_newI (pc := 8) (k := 9) (n := 12243) (m0 := 1011) rfl (by decide) (by decide) (by decide +kernel) (hI 182 (by decide)) (fun j => mR_none rfl) rfl rfl d146_8 ?_
  refine c_putF (pc := 10) f146_9 (by decide) (by decide +kernel) (by decide +kernel) (by decide +kernel) rfl rfl (fun b h1 h2 => absurd h2 (by omega)) (by decide) ((eR _).trans rfl) d146_10 ?_
  refine x_aload_n (pc := 13) rfl d146_13 ?_
  refine x_sipush (pc := 14) (by decide) d146_14 ?_
  refine c_newI (pc := 17) (k := 8) (n := 11232) (m0 := 1011) rfl (by decide) (by decide) (by decide +kernel) (hI 183 (by decide)) (fun j => mR_none rfl) rfl rfl d146_17 ?_
  refine c_putF (pc := 19) f146_13 (by decide) (by decide +kernel) (by decide +kernel) (by decide +kernel) rfl rfl (fun b h1 h2 => absurd h2 (by omega)) (by decide) ((eR _).trans rfl) d146_19 ?_
  refine x_aload_n (pc := 22) rfl d146_22 ?_
  refine x_sipush (pc := 23) (by decide) d146_23 ?_
  refine c_newI (pc := 26) (k := 7) (n := 10221) (m0 := 1011) rfl (by decide) (by decide) (by decide +kernel) (hI 184 (by decide)) (fun j => mR_none rfl) rfl rfl d146_26 ?_
  refine c_putF (pc := 28) f146_16 (by decide) (by decide +kernel) (by decide +kernel) (by decide +kernel) rfl rfl (fun b h1 h2 => absurd h2 (by omega)) (by decide) ((eR _).trans rfl) d146_28 ?_
  refine x_aload_n (pc := 31) rfl d146_31 ?_
  refine x_sipush (pc := 32) (by decide) d146_32 ?_
  refine c_newI (pc := 35) (k := 6) (n := 9210) (m0 := 1011) rfl (by decide) (by decide) (by decide +kernel) (hI 185 (by decide)) (fun j => mR_none rfl) rfl rfl d146_35 ?_
  refine c_putF (pc := 37) f146_19 (by decide) (by decide +kernel) (by decide +kernel) (by decide +kernel) rfl rfl (fun b h1 h2 => absurd h2 (by omega)) (by decide) ((eR _).trans rfl) d146_37 ?_
  refine x_aload_n (pc := 40) rfl d146_40 ?_
  refine x_sipush (pc := 41) (by decide) d146_41 ?_
  refine c_newI (pc := 44) (k := 5) (n := 1122) (m0 := 8088) rfl (by decide) (by decide) (by decide +kernel) (hI 186 (by decide)) (fun j => mR_none rfl) rfl rfl d146_44 ?_
  refine c_putF (pc := 46) f146_22 (by decide) (by decide +kernel) (by decide +kernel) (by decide +kernel) rfl rfl (fun b h1 h2 => absurd h2 (by omega)) (by decide) ((eR _).trans rfl) d146_46 ?_
  refine x_aload_n (pc := 49) rfl d146_49 ?_
  refine x_bipush (pc := 50) (by decide) d146_50 ?_
  refine c_newI (pc := 52) (k := 4) (n := 1106) (m0 := 16) rfl (by decide) (by decide) (by decide +kernel) (hI 187 (by decide)) (fun j => mR_none rfl) rfl rfl d146_52 ?_
  refine c_putF (pc := 54) f146_25 (by decide) (by decide +kernel) (by decide +kernel) (by decide +kernel) rfl rfl (fun b h1 h2 => by rcases (by omega : b = 5 ∨ b = 6 ∨ b = 7) with rfl | rfl | rfl <;> exact (eR _).trans rfl) (by decide) ((eR _).trans rfl) d146_54 ?_
  refine x_aload_n (pc := 57) rfl d146_57 ?_
  refine x_bipush (pc := 58) (by decide) d146_58 ?_
  refine c_newI (pc := 60) (k := 3) (n := 1100) (m0 := 6) rfl (by decide) (by decide) (by decide +kernel) (hI 188 (by decide)) (fun j => mR_none rfl) rfl rfl d146_60 ?_
  refine c_putF (pc := 62) f146_28 (by decide) (by decide +kernel) (by decide +kernel) (by decide +kernel) rfl rfl (fun b h1 h2 => absurd h2 (by omega)) (by decide) ((eR _).trans rfl) d146_62 ?_
  refine x_aload_n (pc := 65) rfl d146_65 ?_
  refine x_sipush (pc := 66) (by decide) d146_66 ?_
  refine c_newI (pc := 69) (k := 2) (n := 600) (m0 := 500) rfl (by decide) (by decide) (by decide +kernel) (hI 189 (by decide)) (fun j => mR_none rfl) rfl rfl d146_69 ?_
  refine c_putF (pc := 71) f146_31 (by decide) (by decide +kernel) (by decide +kernel) (by decide +kernel) rfl rfl (fun b h1 h2 => by rcases (by omega : b = 10) with rfl <;> exact (eR _).trans rfl) (by decide) ((eR _).trans rfl) d146_71 ?_
  refine x_aload_n (pc := 74) rfl d146_74 ?_
  refine x_iconst (pc := 75) d146_75 ?_
  refine x_putI (pc := 76) f146_34 (c := 10) (a := 181) (z := 19) (v := -1) ⟨by show 181 < 190; decide, by show K0 181 = 105; decide +kernel⟩ (Or.inl (by decide +kernel)) (by decide +kernel) rfl d146_76 ?_
  show Ex l 146 2 600 79 _ _ (cm (up2 I 181 19 (-1)) (mR R0 181 12) 190 v) _
  refine x_aload_n (pc := 79) rfl d146_79 ?_
  refine x_sipush (pc := 80) (by decide) d146_80 ?_
  refine c_newI (pc := 83) (k := 1) (n := 60) (m0 := 540) rfl (by decide) (by decide) (by decide +kernel) (fun j => (up2_p (by decide)).trans (hI 190 (by decide) j)) (fun j => mR_none rfl) rfl rfl d146_83 ?_
  refine c_putF (pc := 85) f146_38 (by decide) (by decide +kernel) (by decide +kernel) (by decide +kernel) rfl rfl (fun b h1 h2 => by rcases (by omega : b = 12 ∨ b = 13 ∨ b = 14 ∨ b = 15 ∨ b = 16 ∨ b = 17 ∨ b = 18 ∨ b = 19) with rfl | rfl | rfl | rfl | rfl | rfl | rfl | rfl <;> exact (eR _).trans rfl) (by decide) ((eR _).trans rfl) d146_85 ?_
  refine x_aload_n (pc := 88) rfl d146_88 ?_
  refine x_bipush (pc := 89) (by decide) d146_89 ?_
  refine c_newI (pc := 91) (k := 0) (n := 0) (m0 := 60) rfl (by decide) (by decide) (by decide +kernel) (fun j => (up2_p (by decide)).trans (hI 191 (by decide) j)) (fun j => mR_none rfl) rfl rfl d146_91 ?_
  refine c_putF (pc := 93) f146_41 (by decide) (by decide +kernel) (by decide +kernel) (by decide +kernel) rfl rfl (fun b h1 h2 => by rcases (by omega : b = 21) with rfl <;> exact (eR _).trans rfl) (by decide) ((eR _).trans rfl) d146_93 ?_
  have em : mR R0 181 (22 + 1) = R0 := mR_all fun b hb => (eR b).trans (gD_end hb)
  rw [em]
  show Ex l 146 0 0 96 _ _ (mm 192 (up2 I 181 19 (-1)) v true) _
  refine x_ldcS (pc := 96) k146_44 d146_96 ?_
  refine x_astore_n (pc := 98) (by decide +kernel) rfl d146_98 ?_
  dsimp only [List.set]
  refine x_iconst (pc := 99) d146_99 ?_
  refine x_istore_n (pc := 100) (by decide +kernel) rfl d146_100 ?_
  dsimp only [List.set]
  refine lp146 (I := up2 I 181 19 (-1)) hl (fun J o h => ?_) 31 0 _ rfl (fun _ _ => rfl) (fun k k0 k1 => absurd k1 (Int.not_lt.mpr k0))
  have ob : ∀ a, a ≠ 189 → a ≠ 181 → J a = I a := fun a h1 h2 => by rw [o a h1, up2_off' _ _ _ h2]
  have o81 : ∀ j : Int, j ≠ 19 → J 181 j = 0 := fun j hj => by rw [o 181 (by decide), up2_i hj]; exact hI 181 (by decide) j
  refine x_aload_n (pc := 126) rfl d146_126 ?_
  refine x_aload_n (pc := 127) rfl d146_127 ?_
  refine x_slenT (pc := 128) (i := 10) hl c146_46 (by decide) (Nat.le_of_ble_eq_true rfl) (by decide +kernel) (by decide +kernel) d146_128 ?_
  rw [T10_len]
  refine m_putI (pc := 131) (z := 12) (w := 31) f146_56 (by decide +kernel) (by decide +kernel) rfl (xo181 (by decide)) d146_131 ?_
  refine x_aload_n (pc := 134) rfl d146_134 ?_
  have hX : RTX (up2 J 181 12 31) T10 31 := ⟨up2_s, fun i i0 i1 => by rw [up2_p (by decide)]; exact h i i0 i1, ⟨by decide, by decide⟩, fun i i0 i1 => by
    have := T10_r i.toNat (by omega)
    rw [Int.toNat_of_nonneg i0] at this
    exact this⟩
  refine ex_00 (x_callV (pc := 135) c146_58 (rt_load hl (by decide) hX) (xo181 (by decide)) rfl rfl (Nat.le_of_ble_eq_true rfl) (by decide +kernel) (by decide +kernel) d146_135 (Or.inl rfl) (fun v9 τ h9 => ?_) (fun E9 τ h9 _ => ?_))
  · obtain ⟨z, K, e, hK⟩ := h9
    cases e
    rw [conf0] at hK
    obtain ⟨k1, ⟨k7, k23⟩, k12, k18, k3, -⟩ := hK
    obtain ⟨k19, k6, -, k5, kR⟩ := k3 rfl
    show Ex l 146 0 0 138 _ [.int (iI z)] _ _
    refine x_istore_n (pc := 138) (by decide +kernel) rfl d146_138 ?_
    dsimp only [List.set]
    refine x_aload_n (pc := 139) rfl d146_139 ?_
    refine m_getR (pc := 140) f146_25 (by decide +kernel) (xo181 (by decide)) rr181_8 d146_140 ?_
    refine x_iconst (pc := 143) d146_143 ?_
    refine x_bipush (pc := 144) (by decide) d146_144 ?_
    refine m_iast (pc := 146) (xa187 (by decide)) (by decide) (by decide) (by decide) d146_146 ?_
    refine x_aload_n (pc := 147) rfl d146_147 ?_
    refine m_getR (pc := 148) f146_25 (by decide +kernel) (xo181 (by decide)) rr181_8 d146_148 ?_
    refine x_iconst (pc := 151) d146_151 ?_
    refine x_bipush (pc := 152) (by decide) d146_152 ?_
    refine m_iast (pc := 154) (xa187 (by decide)) (by decide) (by decide) (by decide) d146_154 ?_
    refine x_aload_n (pc := 155) rfl d146_155 ?_
    refine x_iconst (pc := 156) d146_156 ?_
    have u1 : ∀ a, a ≠ 187 → up2 (up2 K 187 0 104) 187 1 105 a = K a := fun a ha => by rw [up2_off' _ _ _ ha, up2_off' _ _ _ ha]
    refine x_cVev (pc := 157) c146_61 (rt_mc (A := dgA0) (n := 2) (B := txB) hl (by decide) (by rw [u1 182 (by decide)]; exact kR) dgA0_ok (by decide) (by decide) (by decide) (fun k h0 h1 => ⟨by
      rcases (by omega : k = 0 ∨ k = 1) with rfl | rfl
      · rw [up2_i (by decide), up2_s]; rfl
      · rw [up2_s]; rfl, txB_r k⟩)) (xo181 (by decide)) rfl rfl (Nat.le_of_ble_eq_true rfl) (by decide +kernel) (by decide +kernel) d146_157 (fun M hM => ?_)
    obtain ⟨m1, mR9⟩ := hM
    have w1 : M 181 = K 181 := by rw [m1 181 (by decide), u1 181 (by decide)]
    have wj : ∀ a, a < 181 ∨ 192 ≤ a → M a = I a := fun a ha => by rw [m1 a (by omega), u1 a (by omega), k1 a (by omega) (by omega) (by omega) (by omega), up2_off' _ _ _ (by omega), ob a (by omega) (by omega)]
    refine x_vret (pc := 160) rfl (fun _ => rfl) d146_160 ⟨_, rfl, wj, mR9, ⟨?_, fun k h0 h1 => absurd h1 (Int.not_lt.mpr h0)⟩, ⟨?_, fun z => Bool.noConfusion z⟩, ⟨?_, fun k h0 h1 => absurd h1 (Int.not_lt.mpr h0)⟩, ⟨?_, ?_⟩, ⟨?_, fun k h0 h1 => absurd h1 (Int.not_lt.mpr h0)⟩⟩
    · rw [w1]; exact k5
    · rw [w1, k7, up2_i (by decide)]; exact o81 7 (by decide)
    · rw [w1]; exact k12
    · rw [w1]; exact k18
    · rw [w1]; exact k19
    · rw [w1, k23, up2_i (by decide)]; exact o81 23 (by decide)
  · obtain ⟨z, K, e, _⟩ := h9
    cases e
end Ctor146
