/-! ===== the earliest success ===== -/
theorem sucN_r {r : Int → Int} : ∀ (m : Nat) (i : Int), sucN r m i = -1 ∨ (i ≤ sucN r m i ∧ sucN r m i < i + m ∧ r (sucN r m i) = 0 ∧ ∀ j, i ≤ j → j < sucN r m i → r j ≠ 0)
  | 0, _ => Or.inl rfl
  | m + 1, i => by
    unfold sucN
    by_cases e : r i = 0
    · rw [if_pos e]
      exact Or.inr ⟨Int.le_refl i, by omega, e, fun j a b => absurd a (by omega)⟩
    · rw [if_neg e]
      rcases sucN_r (r := r) m (i + 1) with h | ⟨h1, h2, h3, h4⟩
      · exact Or.inl h
      · exact Or.inr ⟨by omega, by omega, h3, fun j a b => by
          by_cases d : j = i
          · rw [d]; exact e
          · exact h4 j (by omega) b⟩
section Suc
variable {l : LX} {v : Int} {S : GS} {Q : OO → Prop} {B : Nat}
theorem law_suc (hl : l.1.stackTraces = false) (hS : GOK S) (hc : gA S 0 7 ≤ 500000) {f : Int} (f0 : 0 ≤ f) (f1 : f < gA S 0 6) {I : Nat → Int → Int} (hI : CREL I S) (kk : ∀ I, CREL I S → Ex l 332 B (6 * B) 502 [some (.ref scr), none, none, some (.ref 0), some (.int (iI f)), none, none, none, none, none, none, none, none] [] (mm 181 I v false) Q) :
    Ex l 332 (B + 6) (6 * (B + 6)) 448 [some (.ref scr), none, none, some (.ref 0), some (.int (iI f)), none, none, none, none, none, none, none, none] [] (mm 181 I v false) Q := by
  have h48 := fr48 hS
  have hck := hS.1.ck
  have hs := sucN_r (r := fun n => resA (gA S) f (gA S 0 7 + n) (gA S 0 0)) 601 0
  have hs1 : -1 ≤ (sucN (fun n => resA (gA S) f (gA S 0 7 + n) (gA S 0 0)) 601 0) ∧ (sucN (fun n => resA (gA S) f (gA S 0 7 + n) (gA S 0 0)) 601 0) ≤ 600 := by
    rcases hs with h | ⟨a, b, -, -⟩ <;> omega
  have hs2 : 0 ≤ (sucN (fun n => resA (gA S) f (gA S 0 7 + n) (gA S 0 0)) 601 0) → resA (gA S) f (gA S 0 7 + (sucN (fun n => resA (gA S) f (gA S 0 7 + n) (gA S 0 0)) 601 0)) (gA S 0 0) = 0 := fun h0 => by
    rcases hs with h | ⟨-, -, c, -⟩
    · omega
    · exact c
  have hs3 : 0 < (sucN (fun n => resA (gA S) f (gA S 0 7 + n) (gA S 0 0)) 601 0) → resA (gA S) f (gA S 0 7 + (sucN (fun n => resA (gA S) f (gA S 0 7 + n) (gA S 0 0)) 601 0) - 1) (gA S 0 0) ≠ 0 := fun h0 => by
    rcases hs with h | ⟨a, -, -, c⟩
    · omega
    · have := c ((sucN (fun n => resA (gA S) f (gA S 0 7 + n) (gA S 0 0)) 601 0) - 1) (by omega) (by omega)
      rw [Int.add_sub_assoc]
      exact this
  have hr1 := resA_r (gA S) f (gA S 0 7 + (sucN (fun n => resA (gA S) f (gA S 0 7 + n) (gA S 0 0)) 601 0)) (gA S 0 0)
  have hr2 := resA_r (gA S) f (gA S 0 7 + (sucN (fun n => resA (gA S) f (gA S 0 7 + n) (gA S 0 0)) 601 0) - 1) (gA S 0 0)
  obtain ⟨w, hw⟩ : ∃ w, w = sucN (fun n => resA (gA S) f (gA S 0 7 + n) (gA S 0 0)) 601 0 := ⟨_, rfl⟩
  rw [← hw] at hs1 hs2 hs3 hr1 hr2
  have second : ∀ I, CREL I S → Ex l 332 (B + 4) (6 * (B + 4)) 456 [some (.ref scr), none, none, some (.ref 0), some (.int (iI f)), some (.int (iI w)), none, none, none, none, none, none, none] [] (mm 181 I v false) Q := fun I hI => by
    refine x_iload (pc := 456) rfl d332_456 ?_
    refine x_if_lt (pc := 458) (tgt := 502) ⟨by omega, by omega⟩ d332_458 (by decide) (fun g458 => ?_) (fun g458 => ?_)
    · refine x_mask [true, true, true, true, true, false, true, true, true, true, true, true, true] ?_
      dsimp only [mask]
      refine ex_le (B' := B) (by omega) rfl ?_
      exact kk I hI
    · refine x_aload_n (pc := 461) rfl d332_461 ?_
      refine x_iload (pc := 462) rfl d332_462 ?_
      refine x_aload_n (pc := 464) rfl d332_464 ?_
      refine x_qVs (pc := 465) c332_92 (qa (cm82 (E := fun _ => 0) hl (by decide) hI)) (ko0 (by omega)) rfl rfl (Nat.le_of_ble_eq_true rfl) (by decide +kernel) (by decide +kernel) d332_465 (fun I hI => ?_)
      refine x_iload (pc := 468) rfl d332_468 ?_
      refine x_iadd (pc := 470) d332_470 ?_
      refine x_qVs (pc := 471) c332_194 (qc (isF_t (by omega) (by omega)) (isT_t (by omega) (by omega)) (cm109 hl (by decide) hI hS ⟨by omega, by omega⟩ ⟨by omega, by omega⟩)) (ko0 (by omega)) rfl rfl (Nat.le_of_ble_eq_true rfl) (by decide +kernel) (by decide +kernel) d332_471 (fun I hI => ?_)
      refine x_if_ne (pc := 474) (tgt := 500) ⟨by omega, by omega⟩ d332_474 (by decide) (fun g474 => ?_) (fun g474 => ?_)
      · refine x_iconst (pc := 500) d332_500 ?_
        refine x_zret (pc := 501) rfl (Or.inl rfl) (fun z => Bool.noConfusion z) d332_501 ?_
        exact absurd (hs2 g458) g474
      · refine x_iload (pc := 477) rfl d332_477 ?_
        refine x_if_le (pc := 479) (tgt := 502) ⟨by omega, by omega⟩ d332_479 (by decide) (fun g479 => ?_) (fun g479 => ?_)
        · refine x_mask [true, true, true, true, true, false, true, true, true, true, true, true, true] ?_
          dsimp only [mask]
          refine ex_le (B' := B) (by omega) rfl ?_
          exact kk I hI
        · refine x_aload_n (pc := 482) rfl d332_482 ?_
          refine x_iload (pc := 483) rfl d332_483 ?_
          refine x_aload_n (pc := 485) rfl d332_485 ?_
          refine x_qVs (pc := 486) c332_92 (qa (cm82 (E := fun _ => 0) hl (by decide) hI)) (ko0 (by omega)) rfl rfl (Nat.le_of_ble_eq_true rfl) (by decide +kernel) (by decide +kernel) d332_486 (fun I hI => ?_)
          refine x_iload (pc := 489) rfl d332_489 ?_
          refine x_iadd (pc := 491) d332_491 ?_
          refine x_iconst (pc := 492) d332_492 ?_
          refine x_isub (pc := 493) d332_493 ?_
          refine x_qVs (pc := 494) c332_194 (qc (isF_t (by omega) (by omega)) (isT_t (by omega) (by omega)) (cm109 hl (by decide) hI hS ⟨by omega, by omega⟩ ⟨by omega, by omega⟩)) (ko0 (by omega)) rfl rfl (Nat.le_of_ble_eq_true rfl) (by decide +kernel) (by decide +kernel) d332_494 (fun I hI => ?_)
          refine x_if_ne (pc := 497) (tgt := 502) ⟨by omega, by omega⟩ d332_497 (by decide) (fun g497 => ?_) (fun g497 => ?_)
          · refine x_mask [true, true, true, true, true, false, true, true, true, true, true, true, true] ?_
            dsimp only [mask]
            refine ex_le (B' := B) (by omega) rfl ?_
            exact kk I hI
          · refine x_iconst (pc := 500) d332_500 ?_
            refine x_zret (pc := 501) rfl (Or.inl rfl) (fun z => Bool.noConfusion z) d332_501 ?_
            exact absurd g497 (hs3 g479)
  refine x_aload_n (pc := 448) rfl d332_448 ?_
  refine x_iload (pc := 449) rfl d332_449 ?_
  refine x_qVs (pc := 451) c332_302 (qb (isF_t (by omega) (by omega)) (cm111 hl (by decide) hI hS ⟨by omega, by omega⟩)) (ko0 (by omega)) rfl rfl (Nat.le_of_ble_eq_true rfl) (by decide +kernel) (by decide +kernel) d332_451 (fun I hI => ?_)
  refine x_istore (pc := 454) (by decide +kernel) rfl d332_454 ?_
  dsimp only [List.set]
  rw [← hw]
  refine ex_le (B' := B + 4) (by omega) rfl ?_
  exact second I hI
end Suc
