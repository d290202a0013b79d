/-! ===== a cell of the law's row ===== -/
/-- a number of the row, from 0 to 99999 -/
def celZ (l : LX) (i : Int) : Int := if l.2.1 = 0 then 0 else (if 0 ≤ ((iI (l.2.2 (i % l.2.1).toNat)).toInt).tmod 100000 then ((iI (l.2.2 (i % l.2.1).toNat)).toInt).tmod 100000 else -((iI (l.2.2 (i % l.2.1).toNat)).toInt).tmod 100000)
theorem tmod_r {a : Int} : -99999 ≤ a.tmod 100000 ∧ a.tmod 100000 ≤ 99999 := by
  have h1 := Int.tmod_lt_of_pos a (b := 100000) (by decide)
  by_cases d : 0 ≤ a
  · have := Int.tmod_nonneg (100000 : Int) d
    omega
  · have h2 : (-a).tmod 100000 = -(a.tmod 100000) := Int.neg_tmod a 100000
    have h3 := Int.tmod_lt_of_pos (-a) (b := 100000) (by decide)
    have h4 := Int.tmod_nonneg (a := -a) (100000 : Int) (by omega)
    omega
theorem celZ_r {l : LX} {i : Int} : 0 ≤ celZ l i ∧ celZ l i ≤ 99999 := by
  unfold celZ
  split
  · decide
  · have := tmod_r (a := (iI (l.2.2 (i % l.2.1).toNat)).toInt)
    split <;> omega
section Cell
variable {l : LX} {σ : MM}
theorem ct_cell (hl : l.1.stackTraces = false) (hn : l.2.1 ≤ 2147483647) {i : Int} (i0 : 0 ≤ i) (i1 : i ≤ 1000) : DT l 300 [.ref scr, .int (iI i)] σ 0 0 (.inl (some (.int (iI (celZ l i)))), σ) := by
  refine mkct2 hl (by decide) (Nat.le_of_ble_eq_true rfl) (L := [some (.ref scr), some (.int (iI i))]) rfl ?_
  refine x_aload_n (pc := 0) rfl d300_0 ?_
  refine x_slen (pc := 1) d300_1 ?_
  have fin : ∀ z : Int, InR z → Ex l 300 0 0 15 [some (.ref scr), some (.int (iI i))] [.int (iI z)] σ (fun o => o = (.inl (some (.int (iI (if 0 ≤ z.tmod 100000 then z.tmod 100000 else -z.tmod 100000)))), σ)) := fun z hz => by
    have hr := tmod_r (a := z)
    refine x_ldc (pc := 15) (z := 100000) k300_7 (by decide) d300_15 ?_
    refine x_tmod (pc := 17) hz (by decide) (by decide) d300_17 ?_
    refine x_abs (pc := 18) ⟨by omega, by omega⟩ c300_8 (by decide +kernel) (Nat.le_of_ble_eq_true rfl) d300_18 ?_
    exact x_iret rfl (fun _ => rfl) d300_21 rfl
  unfold celZ
  refine x_if_ne (pc := 2) (tgt := 9) ⟨by omega, by omega⟩ d300_2 (by decide) (fun g => ?_) (fun g => ?_)
  · rw [if_neg (by omega)]
    have h1 := Int.emod_nonneg i (b := (l.2.1 : Int)) (by omega)
    have h2 := Int.emod_lt_of_pos i (b := (l.2.1 : Int)) (by omega)
    refine x_aload_n (pc := 9) rfl d300_9 ?_
    refine x_iload_n (pc := 10) rfl d300_10 ?_
    refine x_aload_n (pc := 11) rfl d300_11 ?_
    refine x_slen (pc := 12) d300_12 ?_
    refine x_irem (pc := 13) (by omega) (by omega) (by omega) (by omega) d300_13 ?_
    refine x_sld (pc := 14) h1 h2 (by omega) d300_14 ?_
    have e := iI_self (iI (l.2.2 (i % l.2.1).toNat))
    have h3 := fin (iI (l.2.2 (i % l.2.1).toNat)).toInt ⟨Int32.le_toInt _, by have := Int32.toInt_lt (iI (l.2.2 (i % l.2.1).toNat)); omega⟩
    rw [e] at h3
    exact h3
  · rw [if_pos (by omega)]
    refine x_iconst (pc := 5) d300_5 ?_
    refine x_goto (pc := 6) (tgt := 21) d300_6 (by decide) ?_
    exact x_iret rfl (fun _ => rfl) d300_21 rfl
end Cell
