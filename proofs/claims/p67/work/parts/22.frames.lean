/-! ===== frames ===== -/
theorem d20_0 : decode (cdN 20) 0 = .ok (.iload_n 1, 1) := by decide +kernel
theorem d20_1 : decode (cdN 20) 1 = .ok (.ifCond .lt 17, 3) := by decide +kernel
theorem d20_4 : decode (cdN 20) 4 = .ok (.iload_n 1, 1) := by decide +kernel
theorem d20_5 : decode (cdN 20) 5 = .ok (.aload_n 0, 1) := by decide +kernel
theorem d20_6 : decode (cdN 20) 6 = .ok (.getfield 30, 3) := by decide +kernel
theorem f20_30 : ftN (owN 20) 30 = some (3, 0, 193) := by decide +kernel
theorem d20_9 : decode (cdN 20) 9 = .ok (.if_icmp .ge 9, 3) := by decide +kernel
theorem d20_12 : decode (cdN 20) 12 = .ok (.iload_n 1, 1) := by decide +kernel
theorem d20_13 : decode (cdN 20) 13 = .ok (.bipush 48, 2) := by decide +kernel
theorem d20_15 : decode (cdN 20) 15 = .ok (.if_icmp .lt 7, 3) := by decide +kernel
theorem d20_18 : decode (cdN 20) 18 = .ok (.iconst 0, 1) := by decide +kernel
theorem d20_19 : decode (cdN 20) 19 = .ok (.goto 12, 3) := by decide +kernel
theorem d20_22 : decode (cdN 20) 22 = .ok (.aload_n 0, 1) := by decide +kernel
theorem d20_23 : decode (cdN 20) 23 = .ok (.getfield 9, 3) := by decide +kernel
theorem f20_9 : ftN (owN 20) 9 = some (3, 1, 196) := by decide +kernel
theorem d20_26 : decode (cdN 20) 26 = .ok (.iload_n 1, 1) := by decide +kernel
theorem d20_27 : decode (cdN 20) 27 = .ok (.iaload, 1) := by decide +kernel
theorem d20_28 : decode (cdN 20) 28 = .ok (.bipush 8, 2) := by decide +kernel
theorem d20_30 : decode (cdN 20) 30 = .ok (.imul, 1) := by decide +kernel
theorem d20_31 : decode (cdN 20) 31 = .ok (.ireturn, 1) := by decide +kernel
theorem d21_0 : decode (cdN 21) 0 = .ok (.iload_n 2, 1) := by decide +kernel
theorem d21_1 : decode (cdN 21) 1 = .ok (.ifCond .lt 12, 3) := by decide +kernel
theorem d21_4 : decode (cdN 21) 4 = .ok (.iload_n 2, 1) := by decide +kernel
theorem d21_5 : decode (cdN 21) 5 = .ok (.aload_n 0, 1) := by decide +kernel
theorem d21_6 : decode (cdN 21) 6 = .ok (.iload_n 1, 1) := by decide +kernel
theorem d21_7 : decode (cdN 21) 7 = .ok (.invokevirtual 44, 3) := by decide +kernel
theorem c21_44 : ctN (owN 21) 44 = some (0, 20, [534, 527, 528, 31]) := by decide +kernel
theorem d21_10 : decode (cdN 21) 10 = .ok (.if_icmp .lt 5, 3) := by decide +kernel
theorem d21_13 : decode (cdN 21) 13 = .ok (.iconst (-1), 1) := by decide +kernel
theorem d21_14 : decode (cdN 21) 14 = .ok (.ireturn, 1) := by decide +kernel
theorem d21_15 : decode (cdN 21) 15 = .ok (.aload_n 0, 1) := by decide +kernel
theorem d21_16 : decode (cdN 21) 16 = .ok (.getfield 24, 3) := by decide +kernel
theorem f21_24 : ftN (owN 21) 24 = some (3, 5, 207) := by decide +kernel
theorem d21_19 : decode (cdN 21) 19 = .ok (.iload_n 1, 1) := by decide +kernel
theorem d21_20 : decode (cdN 21) 20 = .ok (.bipush 6, 2) := by decide +kernel
theorem d21_22 : decode (cdN 21) 22 = .ok (.imul, 1) := by decide +kernel
theorem d21_23 : decode (cdN 21) 23 = .ok (.iload_n 2, 1) := by decide +kernel
theorem d21_24 : decode (cdN 21) 24 = .ok (.bipush 8, 2) := by decide +kernel
theorem d21_26 : decode (cdN 21) 26 = .ok (.idiv, 1) := by decide +kernel
theorem d21_27 : decode (cdN 21) 27 = .ok (.iadd, 1) := by decide +kernel
theorem d21_28 : decode (cdN 21) 28 = .ok (.iaload, 1) := by decide +kernel
theorem d21_29 : decode (cdN 21) 29 = .ok (.bipush 7, 2) := by decide +kernel
theorem d21_31 : decode (cdN 21) 31 = .ok (.iload_n 2, 1) := by decide +kernel
theorem d21_32 : decode (cdN 21) 32 = .ok (.bipush 8, 2) := by decide +kernel
theorem d21_34 : decode (cdN 21) 34 = .ok (.irem, 1) := by decide +kernel
theorem d21_35 : decode (cdN 21) 35 = .ok (.isub, 1) := by decide +kernel
theorem d21_36 : decode (cdN 21) 36 = .ok (.ishr, 1) := by decide +kernel
theorem d21_37 : decode (cdN 21) 37 = .ok (.iconst 1, 1) := by decide +kernel
theorem d21_38 : decode (cdN 21) 38 = .ok (.iand, 1) := by decide +kernel
theorem d21_39 : decode (cdN 21) 39 = .ok (.ireturn, 1) := by decide +kernel
theorem d22_0 : decode (cdN 22) 0 = .ok (.iconst 0, 1) := by decide +kernel
theorem d22_1 : decode (cdN 22) 1 = .ok (.istore_n 1, 1) := by decide +kernel
theorem d22_2 : decode (cdN 22) 2 = .ok (.iload_n 1, 1) := by decide +kernel
theorem d22_3 : decode (cdN 22) 3 = .ok (.aload_n 0, 1) := by decide +kernel
theorem d22_4 : decode (cdN 22) 4 = .ok (.getfield 30, 3) := by decide +kernel
theorem f22_30 : ftN (owN 22) 30 = some (3, 0, 193) := by decide +kernel
theorem d22_7 : decode (cdN 22) 7 = .ok (.if_icmp .ge 26, 3) := by decide +kernel
theorem d22_10 : decode (cdN 22) 10 = .ok (.iload_n 1, 1) := by decide +kernel
theorem d22_11 : decode (cdN 22) 11 = .ok (.bipush 48, 2) := by decide +kernel
theorem d22_13 : decode (cdN 22) 13 = .ok (.if_icmp .ge 20, 3) := by decide +kernel
theorem d22_16 : decode (cdN 22) 16 = .ok (.aload_n 0, 1) := by decide +kernel
theorem d22_17 : decode (cdN 22) 17 = .ok (.getfield 15, 3) := by decide +kernel
theorem f22_15 : ftN (owN 22) 15 = some (3, 2, 199) := by decide +kernel
theorem d22_20 : decode (cdN 22) 20 = .ok (.iload_n 1, 1) := by decide +kernel
theorem d22_21 : decode (cdN 22) 21 = .ok (.iaload, 1) := by decide +kernel
theorem d22_22 : decode (cdN 22) 22 = .ok (.ifCond .ne 5, 3) := by decide +kernel
theorem d22_25 : decode (cdN 22) 25 = .ok (.iload_n 1, 1) := by decide +kernel
theorem d22_26 : decode (cdN 22) 26 = .ok (.ireturn, 1) := by decide +kernel
theorem d22_27 : decode (cdN 22) 27 = .ok (.iinc 1 1, 3) := by decide +kernel
theorem d22_30 : decode (cdN 22) 30 = .ok (.goto (-28), 3) := by decide +kernel
theorem d22_33 : decode (cdN 22) 33 = .ok (.iconst (-1), 1) := by decide +kernel
theorem d22_34 : decode (cdN 22) 34 = .ok (.ireturn, 1) := by decide +kernel
theorem d24_0 : decode (cdN 24) 0 = .ok (.iload_n 1, 1) := by decide +kernel
theorem d24_1 : decode (cdN 24) 1 = .ok (.ifCond .lt 18, 3) := by decide +kernel
theorem d24_4 : decode (cdN 24) 4 = .ok (.iload_n 1, 1) := by decide +kernel
theorem d24_5 : decode (cdN 24) 5 = .ok (.bipush 48, 2) := by decide +kernel
theorem d24_7 : decode (cdN 24) 7 = .ok (.if_icmp .ge 12, 3) := by decide +kernel
theorem d24_10 : decode (cdN 24) 10 = .ok (.aload_n 0, 1) := by decide +kernel
theorem d24_11 : decode (cdN 24) 11 = .ok (.getfield 21, 3) := by decide +kernel
theorem f24_21 : ftN (owN 24) 21 = some (3, 4, 205) := by decide +kernel
theorem d24_14 : decode (cdN 24) 14 = .ok (.iload_n 1, 1) := by decide +kernel
theorem d24_15 : decode (cdN 24) 15 = .ok (.iaload, 1) := by decide +kernel
theorem d24_16 : decode (cdN 24) 16 = .ok (.ifCond .ne 5, 3) := by decide +kernel
theorem d24_19 : decode (cdN 24) 19 = .ok (.iconst 0, 1) := by decide +kernel
theorem d24_20 : decode (cdN 24) 20 = .ok (.ireturn, 1) := by decide +kernel
theorem d24_21 : decode (cdN 24) 21 = .ok (.iload_n 1, 1) := by decide +kernel
theorem d24_22 : decode (cdN 24) 22 = .ok (.bipush 6, 2) := by decide +kernel
theorem d24_24 : decode (cdN 24) 24 = .ok (.imul, 1) := by decide +kernel
theorem d24_25 : decode (cdN 24) 25 = .ok (.istore_n 2, 1) := by decide +kernel
theorem d24_26 : decode (cdN 24) 26 = .ok (.iconst 0, 1) := by decide +kernel
theorem d24_27 : decode (cdN 24) 27 = .ok (.istore_n 3, 1) := by decide +kernel
theorem d24_28 : decode (cdN 24) 28 = .ok (.iload_n 3, 1) := by decide +kernel
theorem d24_29 : decode (cdN 24) 29 = .ok (.aload_n 0, 1) := by decide +kernel
theorem d24_30 : decode (cdN 24) 30 = .ok (.getfield 9, 3) := by decide +kernel
theorem f24_9 : ftN (owN 24) 9 = some (3, 1, 196) := by decide +kernel
theorem d24_33 : decode (cdN 24) 33 = .ok (.iload_n 1, 1) := by decide +kernel
theorem d24_34 : decode (cdN 24) 34 = .ok (.iaload, 1) := by decide +kernel
theorem d24_35 : decode (cdN 24) 35 = .ok (.if_icmp .ge 36, 3) := by decide +kernel
theorem d24_38 : decode (cdN 24) 38 = .ok (.iload_n 3, 1) := by decide +kernel
theorem d24_39 : decode (cdN 24) 39 = .ok (.bipush 6, 2) := by decide +kernel
theorem d24_41 : decode (cdN 24) 41 = .ok (.if_icmp .ge 30, 3) := by decide +kernel
theorem d24_44 : decode (cdN 24) 44 = .ok (.aload_n 0, 1) := by decide +kernel
theorem d24_45 : decode (cdN 24) 45 = .ok (.getfield 27, 3) := by decide +kernel
theorem f24_27 : ftN (owN 24) 27 = some (3, 6, 210) := by decide +kernel
theorem d24_48 : decode (cdN 24) 48 = .ok (.iload_n 2, 1) := by decide +kernel
theorem d24_49 : decode (cdN 24) 49 = .ok (.iload_n 3, 1) := by decide +kernel
theorem d24_50 : decode (cdN 24) 50 = .ok (.iadd, 1) := by decide +kernel
theorem d24_51 : decode (cdN 24) 51 = .ok (.iaload, 1) := by decide +kernel
theorem d24_52 : decode (cdN 24) 52 = .ok (.aload_n 0, 1) := by decide +kernel
theorem d24_53 : decode (cdN 24) 53 = .ok (.getfield 24, 3) := by decide +kernel
theorem f24_24 : ftN (owN 24) 24 = some (3, 5, 207) := by decide +kernel
theorem d24_56 : decode (cdN 24) 56 = .ok (.iload_n 2, 1) := by decide +kernel
theorem d24_57 : decode (cdN 24) 57 = .ok (.iload_n 3, 1) := by decide +kernel
theorem d24_58 : decode (cdN 24) 58 = .ok (.iadd, 1) := by decide +kernel
theorem d24_59 : decode (cdN 24) 59 = .ok (.iaload, 1) := by decide +kernel
theorem d24_60 : decode (cdN 24) 60 = .ok (.if_icmp .eq 5, 3) := by decide +kernel
theorem d24_63 : decode (cdN 24) 63 = .ok (.iconst 0, 1) := by decide +kernel
theorem d24_64 : decode (cdN 24) 64 = .ok (.ireturn, 1) := by decide +kernel
theorem d24_65 : decode (cdN 24) 65 = .ok (.iinc 3 1, 3) := by decide +kernel
theorem d24_68 : decode (cdN 24) 68 = .ok (.goto (-40), 3) := by decide +kernel
theorem d24_71 : decode (cdN 24) 71 = .ok (.iconst 1, 1) := by decide +kernel
theorem d24_72 : decode (cdN 24) 72 = .ok (.ireturn, 1) := by decide +kernel
theorem d25_0 : decode (cdN 25) 0 = .ok (.iconst 0, 1) := by decide +kernel
theorem d25_1 : decode (cdN 25) 1 = .ok (.istore_n 1, 1) := by decide +kernel
theorem d25_2 : decode (cdN 25) 2 = .ok (.iconst 0, 1) := by decide +kernel
theorem d25_3 : decode (cdN 25) 3 = .ok (.istore_n 2, 1) := by decide +kernel
theorem d25_4 : decode (cdN 25) 4 = .ok (.iload_n 2, 1) := by decide +kernel
theorem d25_5 : decode (cdN 25) 5 = .ok (.aload_n 0, 1) := by decide +kernel
theorem d25_6 : decode (cdN 25) 6 = .ok (.getfield 30, 3) := by decide +kernel
theorem f25_30 : ftN (owN 25) 30 = some (3, 0, 193) := by decide +kernel
theorem d25_9 : decode (cdN 25) 9 = .ok (.if_icmp .ge 24, 3) := by decide +kernel
theorem d25_12 : decode (cdN 25) 12 = .ok (.iload_n 2, 1) := by decide +kernel
theorem d25_13 : decode (cdN 25) 13 = .ok (.bipush 48, 2) := by decide +kernel
theorem d25_15 : decode (cdN 25) 15 = .ok (.if_icmp .ge 18, 3) := by decide +kernel
theorem d25_18 : decode (cdN 25) 18 = .ok (.iload_n 1, 1) := by decide +kernel
theorem d25_19 : decode (cdN 25) 19 = .ok (.aload_n 0, 1) := by decide +kernel
theorem d25_20 : decode (cdN 25) 20 = .ok (.getfield 18, 3) := by decide +kernel
theorem f25_18 : ftN (owN 25) 18 = some (3, 3, 202) := by decide +kernel
theorem d25_23 : decode (cdN 25) 23 = .ok (.iload_n 2, 1) := by decide +kernel
theorem d25_24 : decode (cdN 25) 24 = .ok (.iaload, 1) := by decide +kernel
theorem d25_25 : decode (cdN 25) 25 = .ok (.iadd, 1) := by decide +kernel
theorem d25_26 : decode (cdN 25) 26 = .ok (.istore_n 1, 1) := by decide +kernel
theorem d25_27 : decode (cdN 25) 27 = .ok (.iinc 2 1, 3) := by decide +kernel
theorem d25_30 : decode (cdN 25) 30 = .ok (.goto (-26), 3) := by decide +kernel
theorem d25_33 : decode (cdN 25) 33 = .ok (.iload_n 1, 1) := by decide +kernel
theorem d25_34 : decode (cdN 25) 34 = .ok (.ireturn, 1) := by decide +kernel
theorem d26_0 : decode (cdN 26) 0 = .ok (.iconst 0, 1) := by decide +kernel
theorem d26_1 : decode (cdN 26) 1 = .ok (.istore_n 1, 1) := by decide +kernel
theorem d26_2 : decode (cdN 26) 2 = .ok (.iconst 0, 1) := by decide +kernel
theorem d26_3 : decode (cdN 26) 3 = .ok (.istore_n 2, 1) := by decide +kernel
theorem d26_4 : decode (cdN 26) 4 = .ok (.iload_n 2, 1) := by decide +kernel
theorem d26_5 : decode (cdN 26) 5 = .ok (.aload_n 0, 1) := by decide +kernel
theorem d26_6 : decode (cdN 26) 6 = .ok (.getfield 30, 3) := by decide +kernel
theorem f26_30 : ftN (owN 26) 30 = some (3, 0, 193) := by decide +kernel
theorem d26_9 : decode (cdN 26) 9 = .ok (.if_icmp .ge 37, 3) := by decide +kernel
theorem d26_12 : decode (cdN 26) 12 = .ok (.iload_n 2, 1) := by decide +kernel
theorem d26_13 : decode (cdN 26) 13 = .ok (.bipush 48, 2) := by decide +kernel
theorem d26_15 : decode (cdN 26) 15 = .ok (.if_icmp .ge 31, 3) := by decide +kernel
theorem d26_18 : decode (cdN 26) 18 = .ok (.aload_n 0, 1) := by decide +kernel
theorem d26_19 : decode (cdN 26) 19 = .ok (.getfield 15, 3) := by decide +kernel
theorem f26_15 : ftN (owN 26) 15 = some (3, 2, 199) := by decide +kernel
theorem d26_22 : decode (cdN 26) 22 = .ok (.iload_n 2, 1) := by decide +kernel
theorem d26_23 : decode (cdN 26) 23 = .ok (.iaload, 1) := by decide +kernel
theorem d26_24 : decode (cdN 26) 24 = .ok (.iconst 1, 1) := by decide +kernel
theorem d26_25 : decode (cdN 26) 25 = .ok (.if_icmp .ne 15, 3) := by decide +kernel
theorem d26_28 : decode (cdN 26) 28 = .ok (.aload_n 0, 1) := by decide +kernel
theorem d26_29 : decode (cdN 26) 29 = .ok (.getfield 18, 3) := by decide +kernel
theorem f26_18 : ftN (owN 26) 18 = some (3, 3, 202) := by decide +kernel
theorem d26_32 : decode (cdN 26) 32 = .ok (.iload_n 2, 1) := by decide +kernel
theorem d26_33 : decode (cdN 26) 33 = .ok (.iaload, 1) := by decide +kernel
theorem d26_34 : decode (cdN 26) 34 = .ok (.ifCond .ne 6, 3) := by decide +kernel
theorem d26_37 : decode (cdN 26) 37 = .ok (.iinc 1 1, 3) := by decide +kernel
theorem d26_40 : decode (cdN 26) 40 = .ok (.iinc 2 1, 3) := by decide +kernel
theorem d26_43 : decode (cdN 26) 43 = .ok (.goto (-39), 3) := by decide +kernel
theorem d26_46 : decode (cdN 26) 46 = .ok (.iload_n 1, 1) := by decide +kernel
theorem d26_47 : decode (cdN 26) 47 = .ok (.ireturn, 1) := by decide +kernel
theorem d27_0 : decode (cdN 27) 0 = .ok (.iconst 0, 1) := by decide +kernel
theorem d27_1 : decode (cdN 27) 1 = .ok (.istore_n 1, 1) := by decide +kernel
theorem d27_2 : decode (cdN 27) 2 = .ok (.iconst 0, 1) := by decide +kernel
theorem d27_3 : decode (cdN 27) 3 = .ok (.istore_n 2, 1) := by decide +kernel
theorem d27_4 : decode (cdN 27) 4 = .ok (.iload_n 2, 1) := by decide +kernel
theorem d27_5 : decode (cdN 27) 5 = .ok (.aload_n 0, 1) := by decide +kernel
theorem d27_6 : decode (cdN 27) 6 = .ok (.getfield 30, 3) := by decide +kernel
theorem f27_30 : ftN (owN 27) 30 = some (3, 0, 193) := by decide +kernel
theorem d27_9 : decode (cdN 27) 9 = .ok (.if_icmp .ge 36, 3) := by decide +kernel
theorem d27_12 : decode (cdN 27) 12 = .ok (.iload_n 2, 1) := by decide +kernel
theorem d27_13 : decode (cdN 27) 13 = .ok (.bipush 48, 2) := by decide +kernel
theorem d27_15 : decode (cdN 27) 15 = .ok (.if_icmp .ge 30, 3) := by decide +kernel
theorem d27_18 : decode (cdN 27) 18 = .ok (.aload_n 0, 1) := by decide +kernel
theorem d27_19 : decode (cdN 27) 19 = .ok (.getfield 15, 3) := by decide +kernel
theorem f27_15 : ftN (owN 27) 15 = some (3, 2, 199) := by decide +kernel
theorem d27_22 : decode (cdN 27) 22 = .ok (.iload_n 2, 1) := by decide +kernel
theorem d27_23 : decode (cdN 27) 23 = .ok (.iaload, 1) := by decide +kernel
theorem d27_24 : decode (cdN 27) 24 = .ok (.iconst 1, 1) := by decide +kernel
theorem d27_25 : decode (cdN 27) 25 = .ok (.if_icmp .ne 14, 3) := by decide +kernel
theorem d27_28 : decode (cdN 27) 28 = .ok (.iload_n 1, 1) := by decide +kernel
theorem d27_29 : decode (cdN 27) 29 = .ok (.aload_n 0, 1) := by decide +kernel
theorem d27_30 : decode (cdN 27) 30 = .ok (.getfield 9, 3) := by decide +kernel
theorem f27_9 : ftN (owN 27) 9 = some (3, 1, 196) := by decide +kernel
theorem d27_33 : decode (cdN 27) 33 = .ok (.iload_n 2, 1) := by decide +kernel
theorem d27_34 : decode (cdN 27) 34 = .ok (.iaload, 1) := by decide +kernel
theorem d27_35 : decode (cdN 27) 35 = .ok (.iconst 2, 1) := by decide +kernel
theorem d27_36 : decode (cdN 27) 36 = .ok (.isub, 1) := by decide +kernel
theorem d27_37 : decode (cdN 27) 37 = .ok (.iadd, 1) := by decide +kernel
theorem d27_38 : decode (cdN 27) 38 = .ok (.istore_n 1, 1) := by decide +kernel
theorem d27_39 : decode (cdN 27) 39 = .ok (.iinc 2 1, 3) := by decide +kernel
theorem d27_42 : decode (cdN 27) 42 = .ok (.goto (-38), 3) := by decide +kernel
theorem d27_45 : decode (cdN 27) 45 = .ok (.iload_n 1, 1) := by decide +kernel
theorem d27_46 : decode (cdN 27) 46 = .ok (.ireturn, 1) := by decide +kernel
def sumF (g : Int → Int) : Nat → Int
  | 0 => 0
  | n + 1 => sumF g n + g n
theorem sumF_congr {g h : Int → Int} : ∀ n : Nat, (∀ i : Int, 0 ≤ i → i < n → g i = h i) → sumF g n = sumF h n
  | 0, _ => rfl
  | n + 1, e => by
    show sumF g n + g n = sumF h n + h n
    rw [sumF_congr n (fun i h0 h1 => e i h0 (by omega)), e n (by omega) (by omega)]
/-- the first of m from i on that is queued -/
def pdN (St : Int → Int) : Nat → Int → Int
  | 0, _ => -1
  | m + 1, i => if St i = 0 then i else pdN St m (i + 1)
def pendD (n : Int) (St : Int → Int) : Int := pdN St n.toNat 0
theorem pdN_r (St : Int → Int) : ∀ (m : Nat) (i : Int), 0 ≤ i → pdN St m i = -1 ∨ (i ≤ pdN St m i ∧ pdN St m i < i + m ∧ St (pdN St m i) = 0)
  | 0, _, _ => Or.inl rfl
  | m + 1, i, h => by
    unfold pdN
    split
    · exact Or.inr ⟨Int.le_refl i, by omega, by assumption⟩
    · rcases pdN_r St m (i + 1) (by omega) with e | ⟨e1, e2, e3⟩
      · exact Or.inl e
      · exact Or.inr ⟨by omega, by omega, e3⟩
theorem pendD_r (n : Int) (St : Int → Int) : pendD n St = -1 ∨ (0 ≤ pendD n St ∧ pendD n St < n ∧ St (pendD n St) = 0) := by
  rcases pdN_r St n.toNat 0 (Int.le_refl 0) with e | ⟨e1, e2, e3⟩
  · exact Or.inl e
  · exact Or.inr ⟨e1, by unfold pendD; omega, e3⟩
theorem pdN_congr {St St2 : Int → Int} : ∀ (m : Nat) (i : Int), (∀ j : Int, i ≤ j → j < i + m → St j = St2 j) → pdN St m i = pdN St2 m i
  | 0, _, _ => rfl
  | m + 1, i, h => by
    unfold pdN
    rw [h i (Int.le_refl i) (by omega), pdN_congr m (i + 1) (fun j h0 h1 => h j (by omega) (by omega))]
theorem pendD_congr {n : Int} {St St2 : Int → Int} (h : ∀ i : Int, 0 ≤ i → i < n → St i = St2 i) : pendD n St = pendD n St2 := pdN_congr _ 0 (fun j h0 h1 => h j h0 (by omega))
def allD (n : Int) (P : Int → Bool) : Bool := (List.range n.toNat).all (fun i => P i)
theorem allD_yes {n : Int} {P : Int → Bool} {i : Nat} (hi : n ≤ i) (h : ∀ j : Nat, j < i → P j = true) : allD n P = true := by
  unfold allD
  rw [List.all_eq_true]
  exact fun j hj => h j (by have := List.mem_range.mp hj; omega)
theorem allD_no {n : Int} {P : Int → Bool} {i : Nat} (hi : (i : Int) < n) (h : P i = false) : allD n P = false := by
  unfold allD
  rw [List.all_eq_false]
  exact ⟨i, List.mem_range.mpr (by omega), by rw [h]; decide⟩
theorem allD_congr {n : Int} {P P2 : Int → Bool} (h : ∀ i : Int, 0 ≤ i → i < n → P i = P2 i) : allD n P = allD n P2 := by
  unfold allD
  rw [Bool.eq_iff_iff, List.all_eq_true, List.all_eq_true]
  have e : ∀ i ∈ List.range n.toNat, P i = P2 i := fun i hi => by
    have := List.mem_range.mp hi
    exact h i (by omega) (by omega)
  constructor
  · exact fun g i hi => by rw [← e i hi]; exact g i hi
  · exact fun g i hi => by rw [e i hi]; exact g i hi
/-- what holds of the frames: numbers, bytes -/
def FramesOK (I : Nat → Int → Int) (p : Nat) : Prop := (0 ≤ I (p + 7) 0 ∧ I (p + 7) 0 ≤ 48) ∧
  (∀ f : Int, 0 ≤ f → f < I (p + 7) 0 → (3 ≤ I (p + 8) f ∧ I (p + 8) f ≤ 6) ∧ (0 ≤ I (p + 9) f ∧ I (p + 9) f ≤ 2) ∧ (0 ≤ I (p + 10) f ∧ I (p + 10) f ≤ 9) ∧ (0 ≤ I (p + 11) f ∧ I (p + 11) f ≤ 9)) ∧
  (∀ i : Int, 0 ≤ i → i < 288 → (0 ≤ I (p + 12) i ∧ I (p + 12) i ≤ 255) ∧ (0 ≤ I (p + 13) i ∧ I (p + 13) i ≤ 255))
section Frames
variable {l : LX} {q p : Nat} {I : Nat → Int → Int} {v : Int} {fr : Bool}
/-- bitsOf -/
theorem dt_bitsOf (hl : l.1.stackTraces = false) (hp : LineAt q p) (hF : FramesOK I p) {f : Int} (h0 : 0 ≤ f) (h1 : f < I (p + 7) 0) : DT l 20 [.ref (p + 7), .int (iI f)] (mm q I v fr) 0 0 (.inl (some (.int (iI (I (p + 8) f * 8)))), mm q I v fr) := by
  have hpb := hp.b
  have hc := hF.1
  refine mkdt hl (by decide) (Nat.le_of_ble_eq_true rfl) (L := [some (.ref (p + 7)), some (.int (iI f))]) rfl ?_
  refine x_iload_n (pc := 0) rfl d20_0 ?_
  refine x_if_lt (pc := 1) (tgt := 18) ⟨by omega, by omega⟩ d20_1 (by decide) (fun g1 => ?_) (fun g1 => ?_)
  · refine x_iconst (pc := 18) d20_18 ?_
    refine x_goto (pc := 19) (tgt := 31) d20_19 (by decide) ?_
    refine x_iret (pc := 31) rfl (fun _ => rfl) d20_31 ?_
    first | rfl | (exfalso; omega)
  · refine x_iload_n (pc := 4) rfl d20_4 ?_
    refine x_aload_n (pc := 5) rfl d20_5 ?_
    refine m_getI (pc := 6) (z := 0) f20_30 (by decide +kernel) rfl hp.o7 d20_6 ?_
    refine x_icmp_ge (pc := 9) (tgt := 18) ⟨by omega, by omega⟩ ⟨by omega, by omega⟩ d20_9 (by decide) (fun g9 => ?_) (fun g9 => ?_)
    · refine x_iconst (pc := 18) d20_18 ?_
      refine x_goto (pc := 19) (tgt := 31) d20_19 (by decide) ?_
      refine x_iret (pc := 31) rfl (fun _ => rfl) d20_31 ?_
      first | rfl | (exfalso; omega)
    · refine x_iload_n (pc := 12) rfl d20_12 ?_
      refine x_bipush (pc := 13) (by decide) d20_13 ?_
      refine x_icmp_lt (pc := 15) (tgt := 22) ⟨by omega, by omega⟩ ⟨by omega, by omega⟩ d20_15 (by decide) (fun g15 => ?_) (fun g15 => ?_)
      · refine x_aload_n (pc := 22) rfl d20_22 ?_
        refine m_getR (pc := 23) f20_9 (by decide +kernel) hp.o7 hp.r7_1 d20_23 ?_
        refine x_iload_n (pc := 26) rfl d20_26 ?_
        refine m_iald (pc := 27) hp.a8 (by omega) (by omega) (by omega) d20_27 ?_
        refine x_bipush (pc := 28) (by decide) d20_28 ?_
        refine x_imul (pc := 30) d20_30 ?_
        refine x_iret (pc := 31) rfl (fun _ => rfl) d20_31 ?_
        first | rfl | (exfalso; omega)
      · refine x_iconst (pc := 18) d20_18 ?_
        refine x_goto (pc := 19) (tgt := 31) d20_19 (by decide) ?_
        refine x_iret (pc := 31) rfl (fun _ => rfl) d20_31 ?_
        first | rfl | (exfalso; omega)
/-- bitOf -/
theorem dt_bitOf (hl : l.1.stackTraces = false) (hp : LineAt q p) (hF : FramesOK I p) {f b : Int} (h0 : 0 ≤ f) (h1 : f < I (p + 7) 0) (h2 : 0 ≤ b) (h3 : b < I (p + 8) f * 8) : DT l 21 [.ref (p + 7), .int (iI f), .int (iI b)] (mm q I v fr) 0 0 (.inl (some (.int (iI (bitZ (fun k => I (p + 12) (f * 6 + k)) b)))), mm q I v fr) := by
  have hpb := hp.b
  have hc := hF.1
  have hf := hF.2.1 f h0 h1
  have hs := hF.2.2 (f * 6 + b / 8) (by omega) (by omega)
  refine mkdt hl (by decide) (Nat.le_of_ble_eq_true rfl) (L := [some (.ref (p + 7)), some (.int (iI f)), some (.int (iI b))]) rfl ?_
  refine x_iload_n (pc := 0) rfl d21_0 ?_
  refine x_if_lt (pc := 1) (tgt := 13) ⟨by omega, by omega⟩ d21_1 (by decide) (fun g1 => ?_) (fun g1 => ?_)
  · refine x_iconst (pc := 13) d21_13 ?_
    refine x_iret (pc := 14) rfl (fun _ => rfl) d21_14 ?_
    exfalso; omega
  · refine x_iload_n (pc := 4) rfl d21_4 ?_
    refine x_aload_n (pc := 5) rfl d21_5 ?_
    refine x_iload_n (pc := 6) rfl d21_6 ?_
    refine x_cVs (pc := 7) c21_44 (dt_bitsOf hl hp hF (f := f) (by omega) (by omega)) hp.o7 rfl rfl (Nat.le_of_ble_eq_true rfl) (by decide +kernel) (by decide +kernel) rfl d21_7 ?_
    refine x_icmp_lt (pc := 10) (tgt := 15) ⟨by omega, by omega⟩ ⟨by omega, by omega⟩ d21_10 (by decide) (fun g10 => ?_) (fun g10 => ?_)
    · refine x_aload_n (pc := 15) rfl d21_15 ?_
      refine m_getR (pc := 16) f21_24 (by decide +kernel) hp.o7 hp.r7_5 d21_16 ?_
      refine x_iload_n (pc := 19) rfl d21_19 ?_
      refine x_bipush (pc := 20) (by decide) d21_20 ?_
      refine x_imul (pc := 22) d21_22 ?_
      refine x_iload_n (pc := 23) rfl d21_23 ?_
      refine x_bipush (pc := 24) (by decide) d21_24 ?_
      refine x_idiv (pc := 26) (by omega) (by omega) (by omega) (by omega) d21_26 ?_
      refine x_iadd (pc := 27) d21_27 ?_
      refine m_iald (pc := 28) hp.a12 (by omega) (by omega) (by omega) d21_28 ?_
      refine x_bipush (pc := 29) (by decide) d21_29 ?_
      refine x_iload_n (pc := 31) rfl d21_31 ?_
      refine x_bipush (pc := 32) (by decide) d21_32 ?_
      refine x_irem (pc := 34) (by omega) (by omega) (by omega) (by omega) d21_34 ?_
      refine x_isub (pc := 35) d21_35 ?_
      refine x_ishr (pc := 36) (iI_shr ⟨by omega, by omega⟩ (by omega) (by omega)) d21_36 ?_
      refine x_iconst (pc := 37) d21_37 ?_
      refine x_iand (pc := 38) (iI_and1 _) d21_38 ?_
      refine x_iret (pc := 39) rfl (fun _ => rfl) d21_39 ?_
      rfl
    · refine x_iconst (pc := 13) d21_13 ?_
      refine x_iret (pc := 14) rfl (fun _ => rfl) d21_14 ?_
      exfalso; omega
theorem dt_bitOut (hl : l.1.stackTraces = false) (hp : LineAt q p) (hF : FramesOK I p) {f b : Int} (h0 : 0 ≤ f) (h1 : f < I (p + 7) 0) (hb : InR b) (h2 : b < 0 ∨ I (p + 8) f * 8 ≤ b) : DT l 21 [.ref (p + 7), .int (iI f), .int (iI b)] (mm q I v fr) 0 0 (.inl (some (.int (iI (-1)))), mm q I v fr) := by
  have hpb := hp.b
  have hc := hF.1
  have hf := hF.2.1 f h0 h1
  obtain ⟨hb1, hb2⟩ := hb
  refine mkdt hl (by decide) (Nat.le_of_ble_eq_true rfl) (L := [some (.ref (p + 7)), some (.int (iI f)), some (.int (iI b))]) rfl ?_
  refine x_iload_n (pc := 0) rfl d21_0 ?_
  refine x_if_lt (pc := 1) (tgt := 13) ⟨by omega, by omega⟩ d21_1 (by decide) (fun g1 => ?_) (fun g1 => ?_)
  · refine x_iconst (pc := 13) d21_13 ?_
    refine x_iret (pc := 14) rfl (fun _ => rfl) d21_14 ?_
    rfl
  · refine x_iload_n (pc := 4) rfl d21_4 ?_
    refine x_aload_n (pc := 5) rfl d21_5 ?_
    refine x_iload_n (pc := 6) rfl d21_6 ?_
    refine x_cVs (pc := 7) c21_44 (dt_bitsOf hl hp hF (f := f) (by omega) (by omega)) hp.o7 rfl rfl (Nat.le_of_ble_eq_true rfl) (by decide +kernel) (by decide +kernel) rfl d21_7 ?_
    refine x_icmp_lt (pc := 10) (tgt := 15) ⟨by omega, by omega⟩ ⟨by omega, by omega⟩ d21_10 (by decide) (fun g10 => ?_) (fun g10 => ?_)
    · refine x_aload_n (pc := 15) rfl d21_15 ?_
      refine m_getR (pc := 16) f21_24 (by decide +kernel) hp.o7 hp.r7_5 d21_16 ?_
      refine x_iload_n (pc := 19) rfl d21_19 ?_
      refine x_bipush (pc := 20) (by decide) d21_20 ?_
      refine x_imul (pc := 22) d21_22 ?_
      refine x_iload_n (pc := 23) rfl d21_23 ?_
      refine x_bipush (pc := 24) (by decide) d21_24 ?_
      refine x_idiv (pc := 26) (by omega) (by omega) (by omega) (by omega) d21_26 ?_
      refine x_iadd (pc := 27) d21_27 ?_
      refine m_iald (pc := 28) hp.a12 (by omega) (by omega) (by omega) d21_28 ?_
      refine x_bipush (pc := 29) (by decide) d21_29 ?_
      refine x_iload_n (pc := 31) rfl d21_31 ?_
      refine x_bipush (pc := 32) (by decide) d21_32 ?_
      refine x_irem (pc := 34) (by omega) (by omega) (by omega) (by omega) d21_34 ?_
      refine x_isub (pc := 35) d21_35 ?_
      refine x_ishr (pc := 36) (iI_shr ⟨by omega, by omega⟩ (by omega) (by omega)) d21_36 ?_
      refine x_iconst (pc := 37) d21_37 ?_
      refine x_iand (pc := 38) (iI_and1 _) d21_38 ?_
      refine x_iret (pc := 39) rfl (fun _ => rfl) d21_39 ?_
      exfalso; omega
    · refine x_iconst (pc := 13) d21_13 ?_
      refine x_iret (pc := 14) rfl (fun _ => rfl) d21_14 ?_
      rfl
theorem lp_firstQueued (hl : l.1.stackTraces = false) (hp : LineAt q p) (hF : FramesOK I p) : ∀ (m : Nat) (i : Int), 0 ≤ i → i ≤ I (p + 7) 0 → I (p + 7) 0 - i = m →
    Ex l 22 0 0 2 [some (.ref (p + 7)), some (.int (iI i))] [] (mm q I v fr) (fun o => o = (.inl (some (.int (iI (pdN (I (p + 9)) m i)))), mm q I v fr)) := by
  have hpb := hp.b
  have hc := hF.1
  intro m
  induction m with
  | zero =>
    intro i h0 h1 h2
    refine x_iload_n (pc := 2) rfl d22_2 ?_
    refine x_aload_n (pc := 3) rfl d22_3 ?_
    refine m_getI (pc := 4) (z := 0) f22_30 (by decide +kernel) rfl hp.o7 d22_4 ?_
    refine x_icmp_ge (pc := 7) (tgt := 33) ⟨by omega, by omega⟩ ⟨by omega, by omega⟩ d22_7 (by decide) (fun g7 => ?_) (fun g7 => ?_)
    · refine x_iconst (pc := 33) d22_33 ?_
      refine x_iret (pc := 34) rfl (fun _ => rfl) d22_34 ?_
      rfl
    · refine x_iload_n (pc := 10) rfl d22_10 ?_
      refine x_bipush (pc := 11) (by decide) d22_11 ?_
      refine x_icmp_ge (pc := 13) (tgt := 33) ⟨by omega, by omega⟩ ⟨by omega, by omega⟩ d22_13 (by decide) (fun g13 => ?_) (fun g13 => ?_)
      · refine x_iconst (pc := 33) d22_33 ?_
        refine x_iret (pc := 34) rfl (fun _ => rfl) d22_34 ?_
        rfl
      · refine x_aload_n (pc := 16) rfl d22_16 ?_
        refine m_getR (pc := 17) f22_15 (by decide +kernel) hp.o7 hp.r7_2 d22_17 ?_
        refine x_iload_n (pc := 20) rfl d22_20 ?_
        refine m_iald (pc := 21) hp.a9 (by omega) (by omega) (by omega) d22_21 ?_
        refine x_if_ne (pc := 22) (tgt := 27) ⟨by omega, by omega⟩ d22_22 (by decide) (fun g22 => ?_) (fun g22 => ?_)
        · refine x_iinc (pc := 27) rfl (by decide +kernel) rfl d22_27 ?_
          dsimp only [List.set]
          refine x_goto (pc := 30) (tgt := 2) d22_30 (by decide) ?_
          exfalso; omega
        · refine x_iload_n (pc := 25) rfl d22_25 ?_
          refine x_iret (pc := 26) rfl (fun _ => rfl) d22_26 ?_
          exfalso; omega
  | succ m ih =>
    intro i h0 h1 h2
    unfold pdN
    refine x_iload_n (pc := 2) rfl d22_2 ?_
    refine x_aload_n (pc := 3) rfl d22_3 ?_
    refine m_getI (pc := 4) (z := 0) f22_30 (by decide +kernel) rfl hp.o7 d22_4 ?_
    refine x_icmp_ge (pc := 7) (tgt := 33) ⟨by omega, by omega⟩ ⟨by omega, by omega⟩ d22_7 (by decide) (fun g7 => ?_) (fun g7 => ?_)
    · refine x_iconst (pc := 33) d22_33 ?_
      refine x_iret (pc := 34) rfl (fun _ => rfl) d22_34 ?_
      exfalso; omega
    · refine x_iload_n (pc := 10) rfl d22_10 ?_
      refine x_bipush (pc := 11) (by decide) d22_11 ?_
      refine x_icmp_ge (pc := 13) (tgt := 33) ⟨by omega, by omega⟩ ⟨by omega, by omega⟩ d22_13 (by decide) (fun g13 => ?_) (fun g13 => ?_)
      · refine x_iconst (pc := 33) d22_33 ?_
        refine x_iret (pc := 34) rfl (fun _ => rfl) d22_34 ?_
        exfalso; omega
      · have hb := (hF.2.1 i (by omega) (by omega)).2.1
        refine x_aload_n (pc := 16) rfl d22_16 ?_
        refine m_getR (pc := 17) f22_15 (by decide +kernel) hp.o7 hp.r7_2 d22_17 ?_
        refine x_iload_n (pc := 20) rfl d22_20 ?_
        refine m_iald (pc := 21) hp.a9 (by omega) (by omega) (by omega) d22_21 ?_
        refine x_if_ne (pc := 22) (tgt := 27) ⟨by omega, by omega⟩ d22_22 (by decide) (fun g22 => ?_) (fun g22 => ?_)
        · refine x_iinc (pc := 27) rfl (by decide +kernel) rfl d22_27 ?_
          dsimp only [List.set]
          refine x_goto (pc := 30) (tgt := 2) d22_30 (by decide) ?_
          rw [if_neg g22]
          exact ih (i + 1) (by omega) (by omega) (by omega)
        · refine x_iload_n (pc := 25) rfl d22_25 ?_
          refine x_iret (pc := 26) rfl (fun _ => rfl) d22_26 ?_
          rw [if_pos g22]
theorem dt_firstQueued (hl : l.1.stackTraces = false) (hp : LineAt q p) (hF : FramesOK I p) : DT l 22 [.ref (p + 7)] (mm q I v fr) 0 0 (.inl (some (.int (iI (pendD (I (p + 7) 0) (I (p + 9)))))), mm q I v fr) := by
  have hc := hF.1
  refine mkdt hl (by decide) (Nat.le_of_ble_eq_true rfl) (L := [some (.ref (p + 7)), none]) rfl ?_
  refine x_iconst (pc := 0) d22_0 ?_
  refine x_istore_n (pc := 1) (by decide +kernel) rfl d22_1 ?_
  dsimp only [List.set]
  exact lp_firstQueued hl hp hF _ 0 (Int.le_refl 0) hc.1 (by omega)
end Frames
