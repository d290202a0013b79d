/-! ===== dogs ===== -/
theorem d14_0 : decode (cdN 14) 0 = .ok (.aload_n 0, 1) := by decide +kernel
theorem d14_1 : decode (cdN 14) 1 = .ok (.getfield 21, 3) := by decide +kernel
theorem f14_21 : ftN (owN 14) 21 = some (2, 0, 172) := by decide +kernel
theorem d14_4 : decode (cdN 14) 4 = .ok (.ifCond .lt 11, 3) := by decide +kernel
theorem d14_7 : decode (cdN 14) 7 = .ok (.aload_n 0, 1) := by decide +kernel
theorem d14_8 : decode (cdN 14) 8 = .ok (.getfield 21, 3) := by decide +kernel
theorem d14_11 : decode (cdN 14) 11 = .ok (.iconst 3, 1) := by decide +kernel
theorem d14_12 : decode (cdN 14) 12 = .ok (.if_icmp .lt 5, 3) := by decide +kernel
theorem d14_15 : decode (cdN 14) 15 = .ok (.iconst 0, 1) := by decide +kernel
theorem d14_16 : decode (cdN 14) 16 = .ok (.ireturn, 1) := by decide +kernel
theorem d14_17 : decode (cdN 14) 17 = .ok (.aload_n 0, 1) := by decide +kernel
theorem d14_18 : decode (cdN 14) 18 = .ok (.getfield 9, 3) := by decide +kernel
theorem f14_9 : ftN (owN 14) 9 = some (2, 1, 175) := by decide +kernel
theorem d14_21 : decode (cdN 14) 21 = .ok (.aload_n 0, 1) := by decide +kernel
theorem d14_22 : decode (cdN 14) 22 = .ok (.getfield 21, 3) := by decide +kernel
theorem d14_25 : decode (cdN 14) 25 = .ok (.iload_n 1, 1) := by decide +kernel
theorem d14_26 : decode (cdN 14) 26 = .ok (.iastore, 1) := by decide +kernel
theorem d14_27 : decode (cdN 14) 27 = .ok (.aload_n 0, 1) := by decide +kernel
theorem d14_28 : decode (cdN 14) 28 = .ok (.getfield 15, 3) := by decide +kernel
theorem f14_15 : ftN (owN 14) 15 = some (2, 2, 176) := by decide +kernel
theorem d14_31 : decode (cdN 14) 31 = .ok (.aload_n 0, 1) := by decide +kernel
theorem d14_32 : decode (cdN 14) 32 = .ok (.getfield 21, 3) := by decide +kernel
theorem d14_35 : decode (cdN 14) 35 = .ok (.iload_n 2, 1) := by decide +kernel
theorem d14_36 : decode (cdN 14) 36 = .ok (.iastore, 1) := by decide +kernel
theorem d14_37 : decode (cdN 14) 37 = .ok (.aload_n 0, 1) := by decide +kernel
theorem d14_38 : decode (cdN 14) 38 = .ok (.getfield 18, 3) := by decide +kernel
theorem f14_18 : ftN (owN 14) 18 = some (2, 3, 177) := by decide +kernel
theorem d14_41 : decode (cdN 14) 41 = .ok (.aload_n 0, 1) := by decide +kernel
theorem d14_42 : decode (cdN 14) 42 = .ok (.getfield 21, 3) := by decide +kernel
theorem d14_45 : decode (cdN 14) 45 = .ok (.iload_n 3, 1) := by decide +kernel
theorem d14_46 : decode (cdN 14) 46 = .ok (.iastore, 1) := by decide +kernel
theorem d14_47 : decode (cdN 14) 47 = .ok (.aload_n 0, 1) := by decide +kernel
theorem d14_48 : decode (cdN 14) 48 = .ok (.dup, 1) := by decide +kernel
theorem d14_49 : decode (cdN 14) 49 = .ok (.getfield 21, 3) := by decide +kernel
theorem d14_52 : decode (cdN 14) 52 = .ok (.iconst 1, 1) := by decide +kernel
theorem d14_53 : decode (cdN 14) 53 = .ok (.iadd, 1) := by decide +kernel
theorem d14_54 : decode (cdN 14) 54 = .ok (.putfield 21, 3) := by decide +kernel
theorem d14_57 : decode (cdN 14) 57 = .ok (.iconst 1, 1) := by decide +kernel
theorem d14_58 : decode (cdN 14) 58 = .ok (.ireturn, 1) := by decide +kernel
theorem d15_0 : decode (cdN 15) 0 = .ok (.iload_n 1, 1) := by decide +kernel
theorem d15_1 : decode (cdN 15) 1 = .ok (.ifCond .lt 11, 3) := by decide +kernel
theorem d15_4 : decode (cdN 15) 4 = .ok (.iload_n 1, 1) := by decide +kernel
theorem d15_5 : decode (cdN 15) 5 = .ok (.aload_n 0, 1) := by decide +kernel
theorem d15_6 : decode (cdN 15) 6 = .ok (.getfield 21, 3) := by decide +kernel
theorem f15_21 : ftN (owN 15) 21 = some (2, 0, 172) := by decide +kernel
theorem d15_9 : decode (cdN 15) 9 = .ok (.if_icmp .lt 5, 3) := by decide +kernel
theorem d15_12 : decode (cdN 15) 12 = .ok (.iconst 0, 1) := by decide +kernel
theorem d15_13 : decode (cdN 15) 13 = .ok (.ireturn, 1) := by decide +kernel
theorem d15_14 : decode (cdN 15) 14 = .ok (.iload_n 1, 1) := by decide +kernel
theorem d15_15 : decode (cdN 15) 15 = .ok (.istore_n 2, 1) := by decide +kernel
theorem d15_16 : decode (cdN 15) 16 = .ok (.iload_n 2, 1) := by decide +kernel
theorem d15_17 : decode (cdN 15) 17 = .ok (.iconst 1, 1) := by decide +kernel
theorem d15_18 : decode (cdN 15) 18 = .ok (.iadd, 1) := by decide +kernel
theorem d15_19 : decode (cdN 15) 19 = .ok (.aload_n 0, 1) := by decide +kernel
theorem d15_20 : decode (cdN 15) 20 = .ok (.getfield 21, 3) := by decide +kernel
theorem d15_23 : decode (cdN 15) 23 = .ok (.if_icmp .ge 58, 3) := by decide +kernel
theorem d15_26 : decode (cdN 15) 26 = .ok (.iload_n 2, 1) := by decide +kernel
theorem d15_27 : decode (cdN 15) 27 = .ok (.iconst 1, 1) := by decide +kernel
theorem d15_28 : decode (cdN 15) 28 = .ok (.iadd, 1) := by decide +kernel
theorem d15_29 : decode (cdN 15) 29 = .ok (.iconst 3, 1) := by decide +kernel
theorem d15_30 : decode (cdN 15) 30 = .ok (.if_icmp .ge 51, 3) := by decide +kernel
theorem d15_33 : decode (cdN 15) 33 = .ok (.aload_n 0, 1) := by decide +kernel
theorem d15_34 : decode (cdN 15) 34 = .ok (.getfield 9, 3) := by decide +kernel
theorem f15_9 : ftN (owN 15) 9 = some (2, 1, 175) := by decide +kernel
theorem d15_37 : decode (cdN 15) 37 = .ok (.iload_n 2, 1) := by decide +kernel
theorem d15_38 : decode (cdN 15) 38 = .ok (.aload_n 0, 1) := by decide +kernel
theorem d15_39 : decode (cdN 15) 39 = .ok (.getfield 9, 3) := by decide +kernel
theorem d15_42 : decode (cdN 15) 42 = .ok (.iload_n 2, 1) := by decide +kernel
theorem d15_43 : decode (cdN 15) 43 = .ok (.iconst 1, 1) := by decide +kernel
theorem d15_44 : decode (cdN 15) 44 = .ok (.iadd, 1) := by decide +kernel
theorem d15_45 : decode (cdN 15) 45 = .ok (.iaload, 1) := by decide +kernel
theorem d15_46 : decode (cdN 15) 46 = .ok (.iastore, 1) := by decide +kernel
theorem d15_47 : decode (cdN 15) 47 = .ok (.aload_n 0, 1) := by decide +kernel
theorem d15_48 : decode (cdN 15) 48 = .ok (.getfield 15, 3) := by decide +kernel
theorem f15_15 : ftN (owN 15) 15 = some (2, 2, 176) := by decide +kernel
theorem d15_51 : decode (cdN 15) 51 = .ok (.iload_n 2, 1) := by decide +kernel
theorem d15_52 : decode (cdN 15) 52 = .ok (.aload_n 0, 1) := by decide +kernel
theorem d15_53 : decode (cdN 15) 53 = .ok (.getfield 15, 3) := by decide +kernel
theorem d15_56 : decode (cdN 15) 56 = .ok (.iload_n 2, 1) := by decide +kernel
theorem d15_57 : decode (cdN 15) 57 = .ok (.iconst 1, 1) := by decide +kernel
theorem d15_58 : decode (cdN 15) 58 = .ok (.iadd, 1) := by decide +kernel
theorem d15_59 : decode (cdN 15) 59 = .ok (.iaload, 1) := by decide +kernel
theorem d15_60 : decode (cdN 15) 60 = .ok (.iastore, 1) := by decide +kernel
theorem d15_61 : decode (cdN 15) 61 = .ok (.aload_n 0, 1) := by decide +kernel
theorem d15_62 : decode (cdN 15) 62 = .ok (.getfield 18, 3) := by decide +kernel
theorem f15_18 : ftN (owN 15) 18 = some (2, 3, 177) := by decide +kernel
theorem d15_65 : decode (cdN 15) 65 = .ok (.iload_n 2, 1) := by decide +kernel
theorem d15_66 : decode (cdN 15) 66 = .ok (.aload_n 0, 1) := by decide +kernel
theorem d15_67 : decode (cdN 15) 67 = .ok (.getfield 18, 3) := by decide +kernel
theorem d15_70 : decode (cdN 15) 70 = .ok (.iload_n 2, 1) := by decide +kernel
theorem d15_71 : decode (cdN 15) 71 = .ok (.iconst 1, 1) := by decide +kernel
theorem d15_72 : decode (cdN 15) 72 = .ok (.iadd, 1) := by decide +kernel
theorem d15_73 : decode (cdN 15) 73 = .ok (.iaload, 1) := by decide +kernel
theorem d15_74 : decode (cdN 15) 74 = .ok (.iastore, 1) := by decide +kernel
theorem d15_75 : decode (cdN 15) 75 = .ok (.iinc 2 1, 3) := by decide +kernel
theorem d15_78 : decode (cdN 15) 78 = .ok (.goto (-62), 3) := by decide +kernel
theorem d15_81 : decode (cdN 15) 81 = .ok (.aload_n 0, 1) := by decide +kernel
theorem d15_82 : decode (cdN 15) 82 = .ok (.dup, 1) := by decide +kernel
theorem d15_83 : decode (cdN 15) 83 = .ok (.getfield 21, 3) := by decide +kernel
theorem d15_86 : decode (cdN 15) 86 = .ok (.iconst 1, 1) := by decide +kernel
theorem d15_87 : decode (cdN 15) 87 = .ok (.isub, 1) := by decide +kernel
theorem d15_88 : decode (cdN 15) 88 = .ok (.putfield 21, 3) := by decide +kernel
theorem d15_91 : decode (cdN 15) 91 = .ok (.iconst 1, 1) := by decide +kernel
theorem d15_92 : decode (cdN 15) 92 = .ok (.ireturn, 1) := by decide +kernel
theorem d16_0 : decode (cdN 16) 0 = .ok (.iconst 0, 1) := by decide +kernel
theorem d16_1 : decode (cdN 16) 1 = .ok (.istore_n 2, 1) := by decide +kernel
theorem d16_2 : decode (cdN 16) 2 = .ok (.iload_n 2, 1) := by decide +kernel
theorem d16_3 : decode (cdN 16) 3 = .ok (.aload_n 0, 1) := by decide +kernel
theorem d16_4 : decode (cdN 16) 4 = .ok (.getfield 21, 3) := by decide +kernel
theorem f16_21 : ftN (owN 16) 21 = some (2, 0, 172) := by decide +kernel
theorem d16_7 : decode (cdN 16) 7 = .ok (.if_icmp .ge 55, 3) := by decide +kernel
theorem d16_10 : decode (cdN 16) 10 = .ok (.iload_n 2, 1) := by decide +kernel
theorem d16_11 : decode (cdN 16) 11 = .ok (.iconst 3, 1) := by decide +kernel
theorem d16_12 : decode (cdN 16) 12 = .ok (.if_icmp .ge 50, 3) := by decide +kernel
theorem d16_15 : decode (cdN 16) 15 = .ok (.aload_n 0, 1) := by decide +kernel
theorem d16_16 : decode (cdN 16) 16 = .ok (.getfield 9, 3) := by decide +kernel
theorem f16_9 : ftN (owN 16) 9 = some (2, 1, 175) := by decide +kernel
theorem d16_19 : decode (cdN 16) 19 = .ok (.iload_n 2, 1) := by decide +kernel
theorem d16_20 : decode (cdN 16) 20 = .ok (.iaload, 1) := by decide +kernel
theorem d16_21 : decode (cdN 16) 21 = .ok (.istore_n 3, 1) := by decide +kernel
theorem d16_22 : decode (cdN 16) 22 = .ok (.iload_n 1, 1) := by decide +kernel
theorem d16_23 : decode (cdN 16) 23 = .ok (.aload_n 0, 1) := by decide +kernel
theorem d16_24 : decode (cdN 16) 24 = .ok (.getfield 18, 3) := by decide +kernel
theorem f16_18 : ftN (owN 16) 18 = some (2, 3, 177) := by decide +kernel
theorem d16_27 : decode (cdN 16) 27 = .ok (.iload_n 2, 1) := by decide +kernel
theorem d16_28 : decode (cdN 16) 28 = .ok (.iaload, 1) := by decide +kernel
theorem d16_29 : decode (cdN 16) 29 = .ok (.isub, 1) := by decide +kernel
theorem d16_30 : decode (cdN 16) 30 = .ok (.istore 4, 2) := by decide +kernel
theorem d16_32 : decode (cdN 16) 32 = .ok (.iload 4, 2) := by decide +kernel
theorem d16_34 : decode (cdN 16) 34 = .ok (.ifCond .lt 22, 3) := by decide +kernel
theorem d16_37 : decode (cdN 16) 37 = .ok (.iload_n 3, 1) := by decide +kernel
theorem d16_38 : decode (cdN 16) 38 = .ok (.ifCond .le 18, 3) := by decide +kernel
theorem d16_41 : decode (cdN 16) 41 = .ok (.iload 4, 2) := by decide +kernel
theorem d16_43 : decode (cdN 16) 43 = .ok (.iload_n 3, 1) := by decide +kernel
theorem d16_44 : decode (cdN 16) 44 = .ok (.irem, 1) := by decide +kernel
theorem d16_45 : decode (cdN 16) 45 = .ok (.aload_n 0, 1) := by decide +kernel
theorem d16_46 : decode (cdN 16) 46 = .ok (.getfield 15, 3) := by decide +kernel
theorem f16_15 : ftN (owN 16) 15 = some (2, 2, 176) := by decide +kernel
theorem d16_49 : decode (cdN 16) 49 = .ok (.iload_n 2, 1) := by decide +kernel
theorem d16_50 : decode (cdN 16) 50 = .ok (.iaload, 1) := by decide +kernel
theorem d16_51 : decode (cdN 16) 51 = .ok (.if_icmp .ge 5, 3) := by decide +kernel
theorem d16_54 : decode (cdN 16) 54 = .ok (.iconst 1, 1) := by decide +kernel
theorem d16_55 : decode (cdN 16) 55 = .ok (.ireturn, 1) := by decide +kernel
theorem d16_56 : decode (cdN 16) 56 = .ok (.iinc 2 1, 3) := by decide +kernel
theorem d16_59 : decode (cdN 16) 59 = .ok (.goto (-57), 3) := by decide +kernel
theorem d16_62 : decode (cdN 16) 62 = .ok (.iconst 0, 1) := by decide +kernel
theorem d16_63 : decode (cdN 16) 63 = .ok (.ireturn, 1) := by decide +kernel
/-- do some of n dogs chew at t -/
def chewG (P Lg Of : Int → Int) (t : Int) (i : Nat) : Bool := decide (0 ≤ t - Of i) && decide ((t - Of i) % P i < Lg i)
def chewD (n : Int) (P Lg Of : Int → Int) (t : Int) : Bool := (List.range n.toNat).any (chewG P Lg Of t)
def chewF (I : Nat → Int → Int) (p : Nat) (t : Int) (i : Nat) : Bool := chewG (I (p + 4)) (I (p + 5)) (I (p + 6)) t i
def chew (I : Nat → Int → Int) (p : Nat) (t : Int) : Bool := chewD (I (p + 3) 0) (I (p + 4)) (I (p + 5)) (I (p + 6)) t
/-- what holds of the dogs -/
def DogsOK (I : Nat → Int → Int) (p : Nat) : Prop := (0 ≤ I (p + 3) 0 ∧ I (p + 3) 0 ≤ 3) ∧ ∀ i : Int, 0 ≤ i → i < I (p + 3) 0 → (2 ≤ I (p + 4) i ∧ I (p + 4) i ≤ 999) ∧ (1 ≤ I (p + 5) i ∧ I (p + 5) i < I (p + 4) i) ∧ (0 ≤ I (p + 6) i ∧ I (p + 6) i ≤ 999)
theorem chew_step {P Lg Of : Int → Int} {t : Int} {i : Nat} (h : ∀ j, j < i → chewG P Lg Of t j = false) (h2 : chewG P Lg Of t i = false) : ∀ j, j < i + 1 → chewG P Lg Of t j = false := fun j hj => by
  by_cases e : j = i
  · rw [e]; exact h2
  · exact h j (by omega)
theorem chewD_no {n : Int} {P Lg Of : Int → Int} {t : Int} {i : Nat} (hi : n ≤ i) (h : ∀ j, j < i → chewG P Lg Of t j = false) : chewD n P Lg Of t = false := by
  unfold chewD
  rw [List.any_eq_false]
  intro j hj
  rw [h j (by have := List.mem_range.mp hj; omega)]
  decide
theorem chewD_yes {n : Int} {P Lg Of : Int → Int} {t : Int} {i : Nat} (hi : (i : Int) < n) (h : chewG P Lg Of t i = true) : chewD n P Lg Of t = true := by
  unfold chewD
  rw [List.any_eq_true]
  exact ⟨i, List.mem_range.mpr (by omega), h⟩
theorem chewG_f1 {P Lg Of : Int → Int} {t : Int} {i : Nat} (h : t - Of i < 0) : chewG P Lg Of t i = false := by unfold chewG; rw [decide_eq_false (by omega)]; rfl
theorem chewG_f2 {P Lg Of : Int → Int} {t : Int} {i : Nat} (h : Lg i ≤ (t - Of i) % P i) : chewG P Lg Of t i = false := by unfold chewG; rw [decide_eq_false (p := _ < _) (by omega), Bool.and_false]
theorem chewG_t {P Lg Of : Int → Int} {t : Int} {i : Nat} (h : 0 ≤ t - Of i) (h2 : (t - Of i) % P i < Lg i) : chewG P Lg Of t i = true := by unfold chewG; rw [decide_eq_true h, decide_eq_true h2]; rfl
theorem chewD_congr {n : Int} {P Lg Of P2 Lg2 Of2 : Int → Int} (h : ∀ i : Int, 0 ≤ i → i < n → P i = P2 i ∧ Lg i = Lg2 i ∧ Of i = Of2 i) (t : Int) : chewD n P Lg Of t = chewD n P2 Lg2 Of2 t := by
  unfold chewD
  rw [Bool.eq_iff_iff, List.any_eq_true, List.any_eq_true]
  have e : ∀ i ∈ List.range n.toNat, chewG P Lg Of t i = chewG P2 Lg2 Of2 t i := fun i hi => by
    have := List.mem_range.mp hi
    obtain ⟨e1, e2, e3⟩ := h i (by omega) (by omega)
    unfold chewG
    rw [e1, e2, e3]
  constructor
  · rintro ⟨i, hi, h1⟩; exact ⟨i, hi, by rw [← e i hi]; exact h1⟩
  · rintro ⟨i, hi, h1⟩; exact ⟨i, hi, by rw [e i hi]; exact h1⟩
section Dogs
variable {l : LX} {q p : Nat} {I : Nat → Int → Int} {v : Int} {fr : Bool}
theorem lp_chewIn (hl : l.1.stackTraces = false) (hp : LineAt q p) (hD : DogsOK I p) {t : Int} (ht : 0 ≤ t) (ht2 : t ≤ 100000000) : ∀ (m : Nat) (i : Nat), (i : Int) ≤ I (p + 3) 0 → I (p + 3) 0 - i < m → (∀ j, j < i → chewF I p t j = false) →
    Ex l 16 0 0 2 [some (.ref (p + 3)), some (.int (iI t)), some (.int (iI i)), none, none] [] (mm q I v fr) (fun o => o = (.inl (some (.int (iI (b01 (chew I p t))))), mm q I v fr)) := by
  have hpb := hp.b
  intro m
  induction m with
  | zero => intro i h1 h2 _; omega
  | succ m ih =>
    intro i h1 h2 hno
    have hc := hD.1
    refine x_iload_n (pc := 2) rfl d16_2 ?_
    refine x_aload_n (pc := 3) rfl d16_3 ?_
    refine m_getI (pc := 4) (z := 0) f16_21 (by decide +kernel) rfl hp.o3 d16_4 ?_
    refine x_icmp_ge (pc := 7) (tgt := 62) ⟨by omega, by omega⟩ ⟨by omega, by omega⟩ d16_7 (by decide) (fun g7 => ?_) (fun g7 => ?_)
    · refine x_iconst (pc := 62) d16_62 ?_
      refine x_zret (pc := 63) rfl (Or.inl rfl) (fun _ => rfl) d16_63 ?_
      rw [show chew I p t = false from chewD_no (by omega) hno]; rfl
    · refine x_iload_n (pc := 10) rfl d16_10 ?_
      refine x_iconst (pc := 11) d16_11 ?_
      refine x_icmp_ge (pc := 12) (tgt := 62) ⟨by omega, by omega⟩ ⟨by omega, by omega⟩ d16_12 (by decide) (fun g12 => ?_) (fun g12 => ?_)
      · refine x_iconst (pc := 62) d16_62 ?_
        refine x_zret (pc := 63) rfl (Or.inl rfl) (fun _ => rfl) d16_63 ?_
        exfalso; omega
      · have hb := hD.2 i (by omega) (by omega)
        refine x_aload_n (pc := 15) rfl d16_15 ?_
        refine m_getR (pc := 16) f16_9 (by decide +kernel) hp.o3 hp.r3_1 d16_16 ?_
        refine x_iload_n (pc := 19) rfl d16_19 ?_
        refine m_iald (pc := 20) hp.a4 (by omega) (by omega) (by omega) d16_20 ?_
        refine x_istore_n (pc := 21) (by decide +kernel) rfl d16_21 ?_
        dsimp only [List.set]
        refine x_iload_n (pc := 22) rfl d16_22 ?_
        refine x_aload_n (pc := 23) rfl d16_23 ?_
        refine m_getR (pc := 24) f16_18 (by decide +kernel) hp.o3 hp.r3_3 d16_24 ?_
        refine x_iload_n (pc := 27) rfl d16_27 ?_
        refine m_iald (pc := 28) hp.a6 (by omega) (by omega) (by omega) d16_28 ?_
        refine x_isub (pc := 29) d16_29 ?_
        refine x_istore (pc := 30) (by decide +kernel) rfl d16_30 ?_
        dsimp only [List.set]
        refine x_iload (pc := 32) rfl d16_32 ?_
        refine x_if_lt (pc := 34) (tgt := 56) ⟨by omega, by omega⟩ d16_34 (by decide) (fun g34 => ?_) (fun g34 => ?_)
        · refine x_iinc (pc := 56) rfl (by decide +kernel) rfl d16_56 ?_
          dsimp only [List.set]
          refine x_goto (pc := 59) (tgt := 2) d16_59 (by decide) ?_
          refine x_mask [true, true, true, false, false] ?_
          dsimp only [mask]
          refine ih (i + 1) (by omega) (by omega) (chew_step hno (chewG_f1 g34))
        · refine x_iload_n (pc := 37) rfl d16_37 ?_
          refine x_if_le (pc := 38) (tgt := 56) ⟨by omega, by omega⟩ d16_38 (by decide) (fun g38 => ?_) (fun g38 => ?_)
          · refine x_iinc (pc := 56) rfl (by decide +kernel) rfl d16_56 ?_
            dsimp only [List.set]
            refine x_goto (pc := 59) (tgt := 2) d16_59 (by decide) ?_
            refine x_mask [true, true, true, false, false] ?_
            dsimp only [mask]
            exfalso; omega
          · have hm1 := Int.emod_nonneg (t - I (p + 6) i) (b := I (p + 4) i) (by omega)
            have hm2 := Int.emod_lt_of_pos (t - I (p + 6) i) (b := I (p + 4) i) (by omega)
            refine x_iload (pc := 41) rfl d16_41 ?_
            refine x_iload_n (pc := 43) rfl d16_43 ?_
            refine x_irem (pc := 44) (by omega) (by omega) (by omega) (by omega) d16_44 ?_
            refine x_aload_n (pc := 45) rfl d16_45 ?_
            refine m_getR (pc := 46) f16_15 (by decide +kernel) hp.o3 hp.r3_2 d16_46 ?_
            refine x_iload_n (pc := 49) rfl d16_49 ?_
            refine m_iald (pc := 50) hp.a5 (by omega) (by omega) (by omega) d16_50 ?_
            refine x_icmp_ge (pc := 51) (tgt := 56) ⟨by omega, by omega⟩ ⟨by omega, by omega⟩ d16_51 (by decide) (fun g51 => ?_) (fun g51 => ?_)
            · refine x_iinc (pc := 56) rfl (by decide +kernel) rfl d16_56 ?_
              dsimp only [List.set]
              refine x_goto (pc := 59) (tgt := 2) d16_59 (by decide) ?_
              refine x_mask [true, true, true, false, false] ?_
              dsimp only [mask]
              refine ih (i + 1) (by omega) (by omega) (chew_step hno (chewG_f2 g51))
            · refine x_iconst (pc := 54) d16_54 ?_
              refine x_zret (pc := 55) rfl (Or.inr rfl) (fun _ => rfl) d16_55 ?_
              rw [show chew I p t = true from chewD_yes (i := i) (by omega) (chewG_t g34 g51)]; rfl
theorem dt_chewIn (hl : l.1.stackTraces = false) (hp : LineAt q p) (hD : DogsOK I p) {t : Int} (ht : 0 ≤ t) (ht2 : t ≤ 100000000) : DT l 16 [.ref (p + 3), .int (iI t)] (mm q I v fr) 0 0 (.inl (some (.int (iI (b01 (chew I p t))))), mm q I v fr) := by
  refine mkdt hl (by decide) (Nat.le_of_ble_eq_true rfl) (L := [some (.ref (p + 3)), some (.int (iI t)), none, none, none]) rfl ?_
  refine x_iconst (pc := 0) d16_0 ?_
  refine x_istore_n (pc := 1) (by decide +kernel) rfl d16_1 ?_
  dsimp only [List.set]
  exact lp_chewIn hl hp hD ht ht2 4 0 hD.1.1 (by have := hD.1; omega) (fun j hj => absurd hj (Nat.not_lt_zero _))
/-- Dogs.add -/
theorem dt_dogAdd (hl : l.1.stackTraces = false) (hp : LineAt q p) {a b c : Int} (h0 : 0 ≤ I (p + 3) 0) (h3 : I (p + 3) 0 < 3) : DT l 14 [.ref (p + 3), .int (iI a), .int (iI b), .int (iI c)] (mm q I v fr) 0 0 (.inl (some (.int (iI 1))), mm q (up2 (up2 (up2 (up2 I (p + 4) (I (p + 3) 0) a) (p + 5) (I (p + 3) 0) b) (p + 6) (I (p + 3) 0) c) (p + 3) 0 (I (p + 3) 0 + 1)) v fr) := by
  have hpb := hp.b
  refine mkdt hl (by decide) (Nat.le_of_ble_eq_true rfl) (L := [some (.ref (p + 3)), some (.int (iI a)), some (.int (iI b)), some (.int (iI c))]) rfl ?_
  refine x_aload_n (pc := 0) rfl d14_0 ?_
  refine m_getI (pc := 1) (z := 0) f14_21 (by decide +kernel) rfl hp.o3 d14_1 ?_
  refine x_if_lt (pc := 4) (tgt := 15) ⟨by omega, by omega⟩ d14_4 (by decide) (fun g4 => ?_) (fun g4 => ?_)
  · refine x_iconst (pc := 15) d14_15 ?_
    refine x_zret (pc := 16) rfl (Or.inl rfl) (fun _ => rfl) d14_16 ?_
    first | rfl | (exfalso; omega)
  · refine x_aload_n (pc := 7) rfl d14_7 ?_
    refine m_getI (pc := 8) (z := 0) f14_21 (by decide +kernel) rfl hp.o3 d14_8 ?_
    refine x_iconst (pc := 11) d14_11 ?_
    refine x_icmp_lt (pc := 12) (tgt := 17) ⟨by omega, by omega⟩ ⟨by omega, by omega⟩ d14_12 (by decide) (fun g12 => ?_) (fun g12 => ?_)
    · refine x_aload_n (pc := 17) rfl d14_17 ?_
      refine m_getR (pc := 18) f14_9 (by decide +kernel) hp.o3 hp.r3_1 d14_18 ?_
      refine x_aload_n (pc := 21) rfl d14_21 ?_
      refine m_getI (pc := 22) (z := 0) f14_21 (by decide +kernel) rfl hp.o3 d14_22 ?_
      refine x_iload_n (pc := 25) rfl d14_25 ?_
      refine m_iast (pc := 26) hp.a4 (by omega) (by omega) (by omega) d14_26 ?_
      refine x_aload_n (pc := 27) rfl d14_27 ?_
      refine m_getR (pc := 28) f14_15 (by decide +kernel) hp.o3 hp.r3_2 d14_28 ?_
      refine x_aload_n (pc := 31) rfl d14_31 ?_
      refine m_getW (pc := 32) (z := 0) (w := (I (p + 3) 0)) f14_21 (by decide +kernel) rfl hp.o3 (by rw [up2_p (by omega)]) d14_32 ?_
      refine x_iload_n (pc := 35) rfl d14_35 ?_
      refine m_iast (pc := 36) hp.a5 (by omega) (by omega) (by omega) d14_36 ?_
      refine x_aload_n (pc := 37) rfl d14_37 ?_
      refine m_getR (pc := 38) f14_18 (by decide +kernel) hp.o3 hp.r3_3 d14_38 ?_
      refine x_aload_n (pc := 41) rfl d14_41 ?_
      refine m_getW (pc := 42) (z := 0) (w := (I (p + 3) 0)) f14_21 (by decide +kernel) rfl hp.o3 (by rw [up2_p (by omega), up2_p (by omega)]) d14_42 ?_
      refine x_iload_n (pc := 45) rfl d14_45 ?_
      refine m_iast (pc := 46) hp.a6 (by omega) (by omega) (by omega) d14_46 ?_
      refine x_aload_n (pc := 47) rfl d14_47 ?_
      refine x_dup (pc := 48) rfl d14_48 ?_
      refine m_getW (pc := 49) (z := 0) (w := (I (p + 3) 0)) f14_21 (by decide +kernel) rfl hp.o3 (by rw [up2_p (by omega), up2_p (by omega), up2_p (by omega)]) d14_49 ?_
      refine x_iconst (pc := 52) d14_52 ?_
      refine x_iadd (pc := 53) d14_53 ?_
      refine m_putI (pc := 54) (z := 0) f14_21 (by decide +kernel) (by decide +kernel) rfl hp.o3 d14_54 ?_
      refine x_iconst (pc := 57) d14_57 ?_
      refine x_zret (pc := 58) rfl (Or.inr rfl) (fun _ => rfl) d14_58 ?_
      first | rfl | (exfalso; omega)
    · refine x_iconst (pc := 15) d14_15 ?_
      refine x_zret (pc := 16) rfl (Or.inl rfl) (fun _ => rfl) d14_16 ?_
      first | rfl | (exfalso; omega)
theorem dt_dogFull (hl : l.1.stackTraces = false) (hp : LineAt q p) {a b c : Int} (h3 : I (p + 3) 0 = 3) : DT l 14 [.ref (p + 3), .int (iI a), .int (iI b), .int (iI c)] (mm q I v fr) 0 0 (.inl (some (.int (iI 0))), mm q I v fr) := by
  have hpb := hp.b
  refine mkdt hl (by decide) (Nat.le_of_ble_eq_true rfl) (L := [some (.ref (p + 3)), some (.int (iI a)), some (.int (iI b)), some (.int (iI c))]) rfl ?_
  refine x_aload_n (pc := 0) rfl d14_0 ?_
  refine m_getI (pc := 1) (z := 0) f14_21 (by decide +kernel) rfl hp.o3 d14_1 ?_
  refine x_if_lt (pc := 4) (tgt := 15) ⟨by omega, by omega⟩ d14_4 (by decide) (fun g4 => ?_) (fun g4 => ?_)
  · refine x_iconst (pc := 15) d14_15 ?_
    refine x_zret (pc := 16) rfl (Or.inl rfl) (fun _ => rfl) d14_16 ?_
    first | rfl | (exfalso; omega)
  · refine x_aload_n (pc := 7) rfl d14_7 ?_
    refine m_getI (pc := 8) (z := 0) f14_21 (by decide +kernel) rfl hp.o3 d14_8 ?_
    refine x_iconst (pc := 11) d14_11 ?_
    refine x_icmp_lt (pc := 12) (tgt := 17) ⟨by omega, by omega⟩ ⟨by omega, by omega⟩ d14_12 (by decide) (fun g12 => ?_) (fun g12 => ?_)
    · refine x_aload_n (pc := 17) rfl d14_17 ?_
      refine m_getR (pc := 18) f14_9 (by decide +kernel) hp.o3 hp.r3_1 d14_18 ?_
      refine x_aload_n (pc := 21) rfl d14_21 ?_
      refine m_getI (pc := 22) (z := 0) f14_21 (by decide +kernel) rfl hp.o3 d14_22 ?_
      refine x_iload_n (pc := 25) rfl d14_25 ?_
      refine m_iast (pc := 26) hp.a4 (by omega) (by omega) (by omega) d14_26 ?_
      refine x_aload_n (pc := 27) rfl d14_27 ?_
      refine m_getR (pc := 28) f14_15 (by decide +kernel) hp.o3 hp.r3_2 d14_28 ?_
      refine x_aload_n (pc := 31) rfl d14_31 ?_
      refine m_getW (pc := 32) (z := 0) (w := (I (p + 3) 0)) f14_21 (by decide +kernel) rfl hp.o3 (by rw [up2_p (by omega)]) d14_32 ?_
      refine x_iload_n (pc := 35) rfl d14_35 ?_
      refine m_iast (pc := 36) hp.a5 (by omega) (by omega) (by omega) d14_36 ?_
      refine x_aload_n (pc := 37) rfl d14_37 ?_
      refine m_getR (pc := 38) f14_18 (by decide +kernel) hp.o3 hp.r3_3 d14_38 ?_
      refine x_aload_n (pc := 41) rfl d14_41 ?_
      refine m_getW (pc := 42) (z := 0) (w := (I (p + 3) 0)) f14_21 (by decide +kernel) rfl hp.o3 (by rw [up2_p (by omega), up2_p (by omega)]) d14_42 ?_
      refine x_iload_n (pc := 45) rfl d14_45 ?_
      refine m_iast (pc := 46) hp.a6 (by omega) (by omega) (by omega) d14_46 ?_
      refine x_aload_n (pc := 47) rfl d14_47 ?_
      refine x_dup (pc := 48) rfl d14_48 ?_
      refine m_getW (pc := 49) (z := 0) (w := (I (p + 3) 0)) f14_21 (by decide +kernel) rfl hp.o3 (by rw [up2_p (by omega), up2_p (by omega), up2_p (by omega)]) d14_49 ?_
      refine x_iconst (pc := 52) d14_52 ?_
      refine x_iadd (pc := 53) d14_53 ?_
      refine m_putI (pc := 54) (z := 0) f14_21 (by decide +kernel) (by decide +kernel) rfl hp.o3 d14_54 ?_
      refine x_iconst (pc := 57) d14_57 ?_
      refine x_zret (pc := 58) rfl (Or.inr rfl) (fun _ => rfl) d14_58 ?_
      first | rfl | (exfalso; omega)
    · refine x_iconst (pc := 15) d14_15 ?_
      refine x_zret (pc := 16) rfl (Or.inl rfl) (fun _ => rfl) d14_16 ?_
      first | rfl | (exfalso; omega)
end Dogs
