/-! ===== the law's choice of a frame ===== -/
section First
variable {l : LX} {v : Int} {S : GS} {Q : OO → Prop} {B : Nat}
theorem law_first (hl : l.1.stackTraces = false) (hn : l.2.1 ≤ 2147483647) (hS : GOK S) {I : Nat → Int → Int} (hI : CREL I S)
    (k1 : ∀ I f, 0 ≤ f → f < gA S 0 6 → CREL I S → Ex l 332 B (6 * B) 448 [some (.ref scr), none, none, some (.ref 0), some (.int (iI f)), none, none, none, none, none, none, none, none] [] (mm 181 I v false) Q)
    (k2 : ∀ I, CREL I S → Ex l 332 B (6 * B) 545 [none, none, none, some (.ref 0), none, none, none, none, none, none, none, none, none] [] (mm 181 I v false) Q) :
    Ex l 332 (B + 2) (6 * (B + 2)) 419 [some (.ref scr), none, none, some (.ref 0), none, none, none, none, none, none, none, none, none] [] (mm 181 I v false) Q := by
  have h48 := fr48 hS
  have hfr := hS.1.fr
  have q0 := celZ_r (l := l) (i := 69)
  have hz0 := Int.emod_nonneg (celZ l 69) (b := gA S 0 6)
  have hz1 := Int.emod_lt_of_pos (celZ l 69) (b := gA S 0 6)
  refine x_aload_n (pc := 419) rfl d332_419 ?_
  refine x_qVs (pc := 420) c332_145 (qa (cm94 (E := fun _ => 0) hl (by decide) hI)) (ko0 (by omega)) rfl rfl (Nat.le_of_ble_eq_true rfl) (by decide +kernel) (by decide +kernel) d332_420 (fun I hI => ?_)
  refine x_if_ne (pc := 423) (tgt := 430) ⟨by omega, by omega⟩ d332_423 (by decide) (fun g423 => ?_) (fun g423 => ?_)
  · refine x_aload_n (pc := 430) rfl d332_430 ?_
    refine x_bipush (pc := 431) (by decide) d332_431 ?_
    refine x_cSs (pc := 433) c332_275 (ct_cell hl hn (by omega) (by omega)) rfl rfl (Nat.le_of_ble_eq_true rfl) (by decide +kernel) (by decide +kernel) (by decide +kernel) rfl d332_433 ?_
    refine x_aload_n (pc := 436) rfl d332_436 ?_
    refine x_qVs (pc := 437) c332_145 (qa (cm94 (E := fun _ => 0) hl (by decide) hI)) (ko0 (by omega)) rfl rfl (Nat.le_of_ble_eq_true rfl) (by decide +kernel) (by decide +kernel) d332_437 (fun I hI => ?_)
    refine x_irem (pc := 440) (by omega) (by omega) (by omega) (by omega) d332_440 ?_
    refine x_istore (pc := 441) (by decide +kernel) rfl d332_441 ?_
    dsimp only [List.set]
    refine x_iload (pc := 443) rfl d332_443 ?_
    refine x_if_lt (pc := 445) (tgt := 545) ⟨by omega, by omega⟩ d332_445 (by decide) (fun g445 => ?_) (fun g445 => ?_)
    · refine x_mask [false, true, true, true, false, true, true, true, true, true, true, true, true] ?_
      dsimp only [mask]
      exfalso; omega
    · refine ex_le (B' := B) (by omega) rfl ?_
      exact k1 I _ (hz0 (by omega)) (hz1 (by omega)) hI
  · refine x_iconst (pc := 426) d332_426 ?_
    refine x_goto (pc := 427) (tgt := 441) d332_427 (by decide) ?_
    refine x_istore (pc := 441) (by decide +kernel) rfl d332_441 ?_
    dsimp only [List.set]
    refine x_iload (pc := 443) rfl d332_443 ?_
    refine x_if_lt (pc := 445) (tgt := 545) ⟨by omega, by omega⟩ d332_445 (by decide) (fun _ => ?_) (fun z => absurd z (by decide))
    refine x_mask [false, true, true, true, false, true, true, true, true, true, true, true, true] ?_
    dsimp only [mask]
    refine ex_le (B' := B) (by omega) rfl ?_
    exact k2 I hI
end First
