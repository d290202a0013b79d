/-! ===== MatchboxModem.checksumOf, takenIndex, binaryDigits ===== -/
theorem d143_0 : decode (cdN 143) 0 = .ok (.iconst 0, 1) := by decide +kernel
theorem d143_1 : decode (cdN 143) 1 = .ok (.istore_n 3, 1) := by decide +kernel
theorem d143_2 : decode (cdN 143) 2 = .ok (.iload_n 1, 1) := by decide +kernel
theorem d143_3 : decode (cdN 143) 3 = .ok (.iconst 0, 1) := by decide +kernel
theorem d143_4 : decode (cdN 143) 4 = .ok (.invokestatic 390, 3) := by decide +kernel
theorem c143_390 : ctN (owN 143) 390 = some (5, 0, [382, 54, 17, 55]) := by decide +kernel
theorem d143_7 : decode (cdN 143) 7 = .ok (.istore 4, 2) := by decide +kernel
theorem d143_9 : decode (cdN 143) 9 = .ok (.iload 4, 2) := by decide +kernel
theorem d143_11 : decode (cdN 143) 11 = .ok (.iload_n 2, 1) := by decide +kernel
theorem d143_12 : decode (cdN 143) 12 = .ok (.if_icmp .ge 63, 3) := by decide +kernel
theorem d143_15 : decode (cdN 143) 15 = .ok (.iload 4, 2) := by decide +kernel
theorem d143_17 : decode (cdN 143) 17 = .ok (.aload_n 0, 1) := by decide +kernel
theorem d143_18 : decode (cdN 143) 18 = .ok (.arraylength, 1) := by decide +kernel
theorem d143_19 : decode (cdN 143) 19 = .ok (.if_icmp .ge 56, 3) := by decide +kernel
theorem d143_22 : decode (cdN 143) 22 = .ok (.iload_n 3, 1) := by decide +kernel
theorem d143_23 : decode (cdN 143) 23 = .ok (.aload_n 0, 1) := by decide +kernel
theorem d143_24 : decode (cdN 143) 24 = .ok (.iload 4, 2) := by decide +kernel
theorem d143_26 : decode (cdN 143) 26 = .ok (.iaload, 1) := by decide +kernel
theorem d143_27 : decode (cdN 143) 27 = .ok (.ixor, 1) := by decide +kernel
theorem d143_28 : decode (cdN 143) 28 = .ok (.istore_n 3, 1) := by decide +kernel
theorem d143_29 : decode (cdN 143) 29 = .ok (.iconst 0, 1) := by decide +kernel
theorem d143_30 : decode (cdN 143) 30 = .ok (.istore 5, 2) := by decide +kernel
theorem d143_32 : decode (cdN 143) 32 = .ok (.iload 5, 2) := by decide +kernel
theorem d143_34 : decode (cdN 143) 34 = .ok (.bipush 8, 2) := by decide +kernel
theorem d143_36 : decode (cdN 143) 36 = .ok (.if_icmp .ge 33, 3) := by decide +kernel
theorem d143_39 : decode (cdN 143) 39 = .ok (.iload_n 3, 1) := by decide +kernel
theorem d143_40 : decode (cdN 143) 40 = .ok (.sipush 128, 3) := by decide +kernel
theorem d143_43 : decode (cdN 143) 43 = .ok (.if_icmp .lt 16, 3) := by decide +kernel
theorem d143_46 : decode (cdN 143) 46 = .ok (.iload_n 3, 1) := by decide +kernel
theorem d143_47 : decode (cdN 143) 47 = .ok (.iconst 2, 1) := by decide +kernel
theorem d143_48 : decode (cdN 143) 48 = .ok (.imul, 1) := by decide +kernel
theorem d143_49 : decode (cdN 143) 49 = .ok (.sipush 255, 3) := by decide +kernel
theorem d143_52 : decode (cdN 143) 52 = .ok (.iand, 1) := by decide +kernel
theorem d143_53 : decode (cdN 143) 53 = .ok (.bipush 7, 2) := by decide +kernel
theorem d143_55 : decode (cdN 143) 55 = .ok (.ixor, 1) := by decide +kernel
theorem d143_56 : decode (cdN 143) 56 = .ok (.goto 6, 3) := by decide +kernel
theorem d143_59 : decode (cdN 143) 59 = .ok (.iload_n 3, 1) := by decide +kernel
theorem d143_60 : decode (cdN 143) 60 = .ok (.iconst 2, 1) := by decide +kernel
theorem d143_61 : decode (cdN 143) 61 = .ok (.imul, 1) := by decide +kernel
theorem d143_62 : decode (cdN 143) 62 = .ok (.istore_n 3, 1) := by decide +kernel
theorem d143_63 : decode (cdN 143) 63 = .ok (.iinc 5 1, 3) := by decide +kernel
theorem d143_66 : decode (cdN 143) 66 = .ok (.goto (-34), 3) := by decide +kernel
theorem d143_69 : decode (cdN 143) 69 = .ok (.iinc 4 1, 3) := by decide +kernel
theorem d143_72 : decode (cdN 143) 72 = .ok (.goto (-63), 3) := by decide +kernel
theorem d143_75 : decode (cdN 143) 75 = .ok (.iload_n 3, 1) := by decide +kernel
theorem d143_76 : decode (cdN 143) 76 = .ok (.ireturn, 1) := by decide +kernel
theorem d144_0 : decode (cdN 144) 0 = .ok (.iconst 0, 1) := by decide +kernel
theorem d144_1 : decode (cdN 144) 1 = .ok (.istore_n 1, 1) := by decide +kernel
theorem d144_2 : decode (cdN 144) 2 = .ok (.iload_n 1, 1) := by decide +kernel
theorem d144_3 : decode (cdN 144) 3 = .ok (.bipush 16, 2) := by decide +kernel
theorem d144_5 : decode (cdN 144) 5 = .ok (.if_icmp .ge 15, 3) := by decide +kernel
theorem d144_8 : decode (cdN 144) 8 = .ok (.iload_n 0, 1) := by decide +kernel
theorem d144_9 : decode (cdN 144) 9 = .ok (.iload_n 1, 1) := by decide +kernel
theorem d144_10 : decode (cdN 144) 10 = .ok (.ishr, 1) := by decide +kernel
theorem d144_11 : decode (cdN 144) 11 = .ok (.ifCond .le 9, 3) := by decide +kernel
theorem d144_14 : decode (cdN 144) 14 = .ok (.iinc 1 1, 3) := by decide +kernel
theorem d144_17 : decode (cdN 144) 17 = .ok (.goto (-15), 3) := by decide +kernel
theorem d144_20 : decode (cdN 144) 20 = .ok (.iload_n 1, 1) := by decide +kernel
theorem d144_21 : decode (cdN 144) 21 = .ok (.ireturn, 1) := by decide +kernel
theorem d145_0 : decode (cdN 145) 0 = .ok (.iconst 2, 1) := by decide +kernel
theorem d145_1 : decode (cdN 145) 1 = .ok (.iload_n 0, 1) := by decide +kernel
theorem d145_2 : decode (cdN 145) 2 = .ok (.imul, 1) := by decide +kernel
theorem d145_3 : decode (cdN 145) 3 = .ok (.iconst 1, 1) := by decide +kernel
theorem d145_4 : decode (cdN 145) 4 = .ok (.iadd, 1) := by decide +kernel
theorem d145_5 : decode (cdN 145) 5 = .ok (.sipush 1000, 3) := by decide +kernel
theorem d145_8 : decode (cdN 145) 8 = .ok (.iload_n 1, 1) := by decide +kernel
theorem d145_9 : decode (cdN 145) 9 = .ok (.iadd, 1) := by decide +kernel
theorem d145_10 : decode (cdN 145) 10 = .ok (.imul, 1) := by decide +kernel
theorem d145_11 : decode (cdN 145) 11 = .ok (.sipush 2000, 3) := by decide +kernel
theorem d145_14 : decode (cdN 145) 14 = .ok (.idiv, 1) := by decide +kernel
theorem d145_15 : decode (cdN 145) 15 = .ok (.ireturn, 1) := by decide +kernel
section Sum
variable {l : LX} {q a m0 : Nat} {I : Nat → Int → Int} {v : Int} {fr : Bool}
theorem lp_crc8 (hl : l.1.stackTraces = false) (ha : a < q ∧ K0 a = 10 * m0) (hm : m0 ≤ 100000) {to i : Int} {Q : OO → Prop} (h0 : 0 ≤ i) (h1 : i ≤ 100000) : ∀ (n : Nat) (s : Int) (j : Int), 0 ≤ s → s ≤ 255 → j = 8 - n → 0 ≤ j →
    Ex l 143 0 0 9 [some (.ref a), none, some (.int (iI to)), some (.int (iI (crc8 n s))), some (.int (iI (i + 1))), none] [] (mm q I v fr) Q →
    Ex l 143 0 0 32 [some (.ref a), none, some (.int (iI to)), some (.int (iI s)), some (.int (iI i)), some (.int (iI j))] [] (mm q I v fr) Q := by
  intro n
  induction n with
  | zero =>
    intro s j hs hs2 hj hj0 hk
    refine x_iload (pc := 32) rfl d143_32 ?_
    refine x_bipush (pc := 34) (by decide) d143_34 ?_
    refine x_icmp_ge (pc := 36) (tgt := 69) ⟨by omega, by omega⟩ ⟨by omega, by omega⟩ d143_36 (by decide) (fun g36 => ?_) (fun g36 => ?_)
    · refine x_iinc (pc := 69) rfl (by decide +kernel) rfl d143_69 ?_
      dsimp only [List.set]
      refine x_goto (pc := 72) (tgt := 9) d143_72 (by decide) ?_
      refine x_mask [true, true, true, true, true, false] ?_
      dsimp only [mask]
      exact hk
    · refine x_iload_n (pc := 39) rfl d143_39 ?_
      refine x_sipush (pc := 40) (by decide) d143_40 ?_
      refine x_icmp_lt (pc := 43) (tgt := 59) ⟨by omega, by omega⟩ ⟨by omega, by omega⟩ d143_43 (by decide) (fun g43 => ?_) (fun g43 => ?_)
      · refine x_iload_n (pc := 59) rfl d143_59 ?_
        refine x_iconst (pc := 60) d143_60 ?_
        refine x_imul (pc := 61) d143_61 ?_
        refine x_istore_n (pc := 62) (by decide +kernel) rfl d143_62 ?_
        dsimp only [List.set]
        refine x_iinc (pc := 63) rfl (by decide +kernel) rfl d143_63 ?_
        dsimp only [List.set]
        refine x_goto (pc := 66) (tgt := 32) d143_66 (by decide) ?_
        exfalso; omega
      · refine x_iload_n (pc := 46) rfl d143_46 ?_
        refine x_iconst (pc := 47) d143_47 ?_
        refine x_imul (pc := 48) d143_48 ?_
        refine x_sipush (pc := 49) (by decide) d143_49 ?_
        refine x_iand (pc := 52) (iI_and8 _) d143_52 ?_
        refine x_bipush (pc := 53) (by decide) d143_53 ?_
        refine x_ixor (pc := 55) (iI_xor (by omega) (by omega) (by omega) (by omega)) d143_55 ?_
        refine x_goto (pc := 56) (tgt := 62) d143_56 (by decide) ?_
        refine x_istore_n (pc := 62) (by decide +kernel) rfl d143_62 ?_
        dsimp only [List.set]
        refine x_iinc (pc := 63) rfl (by decide +kernel) rfl d143_63 ?_
        dsimp only [List.set]
        refine x_goto (pc := 66) (tgt := 32) d143_66 (by decide) ?_
        exfalso; omega
  | succ n ih =>
    intro s j hs hs2 hj hj0 hk
    have hb := crcS_b hs hs2
    refine x_iload (pc := 32) rfl d143_32 ?_
    refine x_bipush (pc := 34) (by decide) d143_34 ?_
    refine x_icmp_ge (pc := 36) (tgt := 69) ⟨by omega, by omega⟩ ⟨by omega, by omega⟩ d143_36 (by decide) (fun g36 => ?_) (fun g36 => ?_)
    · refine x_iinc (pc := 69) rfl (by decide +kernel) rfl d143_69 ?_
      dsimp only [List.set]
      refine x_goto (pc := 72) (tgt := 9) d143_72 (by decide) ?_
      refine x_mask [true, true, true, true, true, false] ?_
      dsimp only [mask]
      exfalso; omega
    · refine x_iload_n (pc := 39) rfl d143_39 ?_
      refine x_sipush (pc := 40) (by decide) d143_40 ?_
      refine x_icmp_lt (pc := 43) (tgt := 59) ⟨by omega, by omega⟩ ⟨by omega, by omega⟩ d143_43 (by decide) (fun g43 => ?_) (fun g43 => ?_)
      · refine x_iload_n (pc := 59) rfl d143_59 ?_
        refine x_iconst (pc := 60) d143_60 ?_
        refine x_imul (pc := 61) d143_61 ?_
        refine x_istore_n (pc := 62) (by decide +kernel) rfl d143_62 ?_
        dsimp only [List.set]
        refine x_iinc (pc := 63) rfl (by decide +kernel) rfl d143_63 ?_
        dsimp only [List.set]
        refine x_goto (pc := 66) (tgt := 32) d143_66 (by decide) ?_
        refine ih (s * 2) (j + 1) (by omega) (by omega) (by omega) (by omega) ?_
        rw [show s * 2 = crcS s from (if_neg (by omega)).symm]; exact hk
      · refine x_iload_n (pc := 46) rfl d143_46 ?_
        refine x_iconst (pc := 47) d143_47 ?_
        refine x_imul (pc := 48) d143_48 ?_
        refine x_sipush (pc := 49) (by decide) d143_49 ?_
        refine x_iand (pc := 52) (iI_and8 _) d143_52 ?_
        refine x_bipush (pc := 53) (by decide) d143_53 ?_
        refine x_ixor (pc := 55) (iI_xor (by omega) (by omega) (by omega) (by omega)) d143_55 ?_
        refine x_goto (pc := 56) (tgt := 62) d143_56 (by decide) ?_
        refine x_istore_n (pc := 62) (by decide +kernel) rfl d143_62 ?_
        dsimp only [List.set]
        refine x_iinc (pc := 63) rfl (by decide +kernel) rfl d143_63 ?_
        dsimp only [List.set]
        refine x_goto (pc := 66) (tgt := 32) d143_66 (by decide) ?_
        have e : crcS s = xorZ (s * 2 % 256) 7 := by unfold crcS; rw [if_pos (by omega)]
        rw [← e]
        exact ih (crcS s) (j + 1) hb.1 hb.2 (by omega) (by omega) hk
theorem lp_crc (hl : l.1.stackTraces = false) (ha : a < q ∧ K0 a = 10 * m0) (hm : m0 ≤ 100000) {fm to : Int} (h0 : 0 ≤ fm) (h1 : fm ≤ to) (h2 : to ≤ m0) (hB : ∀ i : Int, fm ≤ i → i < to → 0 ≤ I a i ∧ I a i ≤ 255) : ∀ (m : Nat) (i : Nat), fm + i ≤ to → to - (fm + i) < m →
    Ex l 143 0 0 9 [some (.ref a), none, some (.int (iI to)), some (.int (iI (crcF (fun k => I a (fm + k)) i))), some (.int (iI (fm + i))), none] [] (mm q I v fr) (fun o => o = (.inl (some (.int (iI (crcF (fun k => I a (fm + k)) (to - fm).toNat)))), mm q I v fr)) := by
  intro m
  induction m with
  | zero => intro i h3 h4; omega
  | succ m ih =>
    intro i h3 h4
    have hb := crcF_b (B := fun k => I a (fm + k)) i (fun j hj hj2 => hB (fm + j) (by omega) (by omega))
    generalize hs : crcF (fun k => I a (fm + k)) i = s at hb ⊢
    refine x_iload (pc := 9) rfl d143_9 ?_
    refine x_iload_n (pc := 11) rfl d143_11 ?_
    refine x_icmp_ge (pc := 12) (tgt := 75) ⟨by omega, by omega⟩ ⟨by omega, by omega⟩ d143_12 (by decide) (fun g12 => ?_) (fun g12 => ?_)
    · refine x_iload_n (pc := 75) rfl d143_75 ?_
      refine x_iret (pc := 76) rfl (fun _ => rfl) d143_76 ?_
      rw [← hs, show (to - fm).toNat = i from by omega]
    · refine x_iload (pc := 15) rfl d143_15 ?_
      refine x_aload_n (pc := 17) rfl d143_17 ?_
      have hc := hB (fm + i) (by omega) (by omega)
      refine m_alen (pc := 18) (z := (m0 : Int)) ha rfl d143_18 ?_
      refine x_icmp_ge (pc := 19) (tgt := 75) ⟨by omega, by omega⟩ ⟨by omega, by omega⟩ d143_19 (by decide) (fun g19 => ?_) (fun g19 => ?_)
      · refine x_iload_n (pc := 75) rfl d143_75 ?_
        refine x_iret (pc := 76) rfl (fun _ => rfl) d143_76 ?_
        exfalso; omega
      · refine x_iload_n (pc := 22) rfl d143_22 ?_
        refine x_aload_n (pc := 23) rfl d143_23 ?_
        refine x_iload (pc := 24) rfl d143_24 ?_
        refine m_iald (pc := 26) ha (by omega) (by omega) (by omega) d143_26 ?_
        refine x_ixor (pc := 27) (iI_xor (by omega) (by omega) (by omega) (by omega)) d143_27 ?_
        refine x_istore_n (pc := 28) (by decide +kernel) rfl d143_28 ?_
        dsimp only [List.set]
        refine x_iconst (pc := 29) d143_29 ?_
        refine x_istore (pc := 30) (by decide +kernel) rfl d143_30 ?_
        dsimp only [List.set]
        have hx := xorZ_b hb.1 hb.2 hc.1 hc.2
        refine lp_crc8 hl ha hm (by omega) (by omega) 8 _ 0 hx.1 hx.2 (by omega) (by omega) ?_
        have e : crc8 8 (xorZ s (I a (fm + i))) = crcF (fun k => I a (fm + k)) (i + 1) := by
          show _ = crcB (crcF (fun k => I a (fm + k)) i) _
          rw [hs]; rfl
        rw [e, show fm + (i : Int) + 1 = fm + ((i + 1 : Nat) : Int) from by omega]
        exact ih (i + 1) (by omega) (by omega)
/-- checksumOf -/
theorem dt_sum (hl : l.1.stackTraces = false) (ha : a < q ∧ K0 a = 10 * m0) (hm : m0 ≤ 100000) {fm to : Int} (h0 : 0 ≤ fm) (h1 : fm ≤ to) (h2 : to ≤ m0) (hB : ∀ i : Int, fm ≤ i → i < to → 0 ≤ I a i ∧ I a i ≤ 255) : DT l 143 [.ref a, .int (iI fm), .int (iI to)] (mm q I v fr) 0 0 (.inl (some (.int (iI (crcF (fun k => I a (fm + k)) (to - fm).toNat)))), mm q I v fr) := by
  refine mkdt hl (by decide) (Nat.le_of_ble_eq_true rfl) (L := [some (.ref a), some (.int (iI fm)), some (.int (iI to)), none, none, none]) rfl ?_
  refine x_iconst (pc := 0) d143_0 ?_
  refine x_istore_n (pc := 1) (by decide +kernel) rfl d143_1 ?_
  dsimp only [List.set]
  refine x_iload_n (pc := 2) rfl d143_2 ?_
  refine x_iconst (pc := 3) d143_3 ?_
  refine x_max (pc := 4) ⟨by omega, by omega⟩ ⟨by omega, by omega⟩ c143_390 (by decide +kernel) (Nat.le_of_ble_eq_true rfl) d143_4 ?_
  refine x_istore (pc := 7) (by decide +kernel) rfl d143_7 ?_
  dsimp only [List.set]
  refine x_mask [true, false, true, true, true, true] ?_
  dsimp only [mask]
  rw [Int.max_eq_left h0]
  have := lp_crc (fr := fr) (v := v) hl ha hm h0 h1 h2 hB ((to - fm).toNat + 1) 0 (by omega) (by omega)
  rw [show fm + ((0 : Nat) : Int) = fm from by omega] at this
  exact this
/-- takenIndex -/
theorem dt_tkI (hl : l.1.stackTraces = false) {b dr : Int} (h0 : 0 ≤ b) (h1 : b ≤ 1000) (h2 : -99 ≤ dr) (h3 : dr ≤ 99) : DT l 145 [.int (iI b), .int (iI dr)] (mm q I v fr) 0 0 (.inl (some (.int (iI (tkI b dr)))), mm q I v fr) := by
  have hm1 : 0 ≤ (2 * b + 1) * (1000 + dr) := Int.mul_nonneg (by omega) (by omega)
  have hm2 : (2 * b + 1) * (1000 + dr) ≤ 2001 * 1099 := Int.mul_le_mul (by omega) (by omega) (by omega) (by omega)
  refine mkdt hl (by decide) (Nat.le_of_ble_eq_true rfl) (L := [some (.int (iI b)), some (.int (iI dr))]) rfl ?_
  refine x_iconst (pc := 0) d145_0 ?_
  refine x_iload_n (pc := 1) rfl d145_1 ?_
  refine x_imul (pc := 2) d145_2 ?_
  refine x_iconst (pc := 3) d145_3 ?_
  refine x_iadd (pc := 4) d145_4 ?_
  refine x_sipush (pc := 5) (by decide) d145_5 ?_
  refine x_iload_n (pc := 8) rfl d145_8 ?_
  refine x_iadd (pc := 9) d145_9 ?_
  refine x_imul (pc := 10) d145_10 ?_
  refine x_sipush (pc := 11) (by decide) d145_11 ?_
  refine x_idiv (pc := 14) (by omega) (by omega) (by omega) (by omega) d145_14 ?_
  refine x_iret (pc := 15) rfl (fun _ => rfl) d145_15 ?_
  first | rfl | (exfalso; omega)
def bdig (z : Int) : Nat → Nat
  | 0 => 0
  | n + 1 => if 0 < z then 1 + bdig (z / 2) n else 0
end Sum
