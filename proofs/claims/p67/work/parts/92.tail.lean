/-! ===== the law's end: kept, waited, restored ===== -/
/-- no places -/
def mZ : MM := (fun _ _ => 0, fun _ _ => none, fun _ => 0, 0, 0, false)
section Tail
variable {l : LX} {v : Int} {S : GS} {Q : OO → Prop}
theorem law_tail (hl : l.1.stackTraces = false) (hE : Q (.inl (some (.int (iI 1))), mZ)) (hS : GOK S) (hc : gA S 0 7 ≤ 500000) {I : Nat → Int → Int} (hI : CREL I S) : Ex l 332 2410 (6 * 2410) 545 [none, none, none, some (.ref 0), none, none, none, none, none, none, none, none, none] [] (mm 181 I v false) Q := by
  have hck := hS.1.ck
  have hcb := cB_v
  refine ex_le (B' := 1209 + 1200) (by omega) rfl ?_
  refine x_aload_n (pc := 545) rfl d332_545 ?_
  refine x_qSs (pc := 546) (As := [.ref 0]) c332_298 (ct_sum hl hS hI) rfl rfl (Nat.le_of_ble_eq_true rfl) (by decide +kernel) (by decide +kernel) d332_546 (fun K1 h1 => ?_)
  refine x_lstore (pc := 549) (by decide +kernel) rfl d332_549 ?_
  dsimp only [List.set]
  refine x_aload_n (pc := 551) rfl d332_551 ?_
  refine x_qVs (pc := 552) (As := []) (rest := []) c332_92 (qa (cm82 (q := 181) (v := v) (E := fun _ => 0) hl (by decide) h1)) (ko0 (by omega)) rfl rfl (Nat.le_of_ble_eq_true rfl) (by decide +kernel) (by decide +kernel) d332_552 (fun K2 h2 => ?_)
  refine x_istore (pc := 555) (by decide +kernel) rfl d332_555 ?_
  dsimp only [List.set]
  refine x_aload_n (pc := 557) rfl d332_557 ?_
  refine x_qVs (pc := 558) (As := []) (rest := []) c332_305 (qa (z := gA S 0 7) (S := sV S (true, gA S)) (cm136 (q := 181) (v := v) (E := fun _ => 0) hl (by decide) h2 hS)) (ko0 (by omega)) rfl rfl (Nat.le_of_ble_eq_true rfl) (by decide +kernel) (by decide +kernel) d332_558 (fun K3 h3 => ?_)
  have hS1 : GOK (sV S (true, gA S)) := gok_save hS
  refine x_iload (pc := 561) rfl d332_561 ?_
  refine x_icmp_ne (pc := 563) (tgt := 619) ⟨by omega, by omega⟩ ⟨by omega, by omega⟩ d332_563 (by decide) (fun h => absurd rfl h) (fun _ => ?_)
  have h4 := ct_do4 (a := 5) (b := 0) (c := 0) (v := v) hl (E := fun c => if c = 1 then 0 else 1) (r := oWait (sV S (true, gA S)) 5) (by by_cases e : (oWait (sV S (true, gA S)) 5).1 = 1 <;> simp [e]) (cm131 (q := 181) (v := v) hl (by decide) h3 hS1 ⟨by omega, by omega⟩)
  have hg4 := gok_wait (z := 5) hS1
  have e4 : oWait (sV S (true, gA S)) 5 = oDo (sV S (true, gA S)) (gA S 0 7 + 5) (waitA (gA S) 5) := by
    unfold oWait
    rw [if_pos (by decide), if_pos (show gA (sV S (true, gA S)) 0 7 + 5 ≤ 900000 by show gA S 0 7 + 5 ≤ 900000; omega)]
    rfl
  rw [e4] at h4 hg4
  refine ex_le (B' := 1206 + 1) (by omega) rfl ?_
  refine x_aload_n (pc := 566) rfl d332_566 ?_
  refine x_iconst (pc := 567) d332_567 ?_
  refine x_iconst (pc := 568) d332_568 ?_
  refine x_iconst (pc := 569) d332_569 ?_
  refine x_iconst (pc := 570) d332_570 ?_
  refine x_qW (pc := 571) (As := [.ref 0, .int (iI 4), .int (iI 5), .int (iI 0), .int (iI 0)]) (rest := []) c332_240 h4 rfl rfl (Nat.le_of_ble_eq_true rfl) (by decide +kernel) (by decide +kernel) d332_571 (fun K5 h5 => ?_)
  refine x_val (pc := 574) (w := gA S 0 7 + 5) rfl ?_
  refine x_iload (pc := 574) rfl d332_574 ?_
  refine x_iconst (pc := 576) d332_576 ?_
  refine x_iadd (pc := 577) d332_577 ?_
  refine x_icmp_ne (pc := 578) (tgt := 619) ⟨by omega, by omega⟩ ⟨by omega, by omega⟩ d332_578 (by decide) (fun h => absurd rfl h) (fun _ => ?_)
  obtain ⟨S2, hS2⟩ : ∃ S2, S2 = (oDo (sV S (true, gA S)) (gA S 0 7 + 5) (waitA (gA S) 5)).2.2 := ⟨_, rfl⟩
  rw [← hS2] at h5 hg4
  have hv2 : gV S2 = true := by rw [hS2]; rfl
  have hw2 : gW S2 = gA S := by rw [hS2]; rfl
  have e6 : oRestore S2 = (0, gA S 0 7, sH (sA S2 (gA S)) (gH S2, 0)) := by
    unfold oRestore
    rw [if_pos hv2, hw2]
  have hg6 := gok_restore hg4
  have h137 := cm137 (q := 181) (v := v) hl (by decide) h5 hg4
  rw [e6] at hg6 h137
  refine x_aload_n (pc := 581) rfl d332_581 ?_
  refine x_qVs (pc := 582) (As := []) (rest := []) c332_308 (qa h137) (ko0 (by omega)) rfl rfl (Nat.le_of_ble_eq_true rfl) (by decide +kernel) (by decide +kernel) d332_582 (fun K6 h6 => ?_)
  refine x_iload (pc := 585) rfl d332_585 ?_
  refine x_icmp_ne (pc := 587) (tgt := 619) ⟨by omega, by omega⟩ ⟨by omega, by omega⟩ d332_587 (by decide) (fun h => absurd rfl h) (fun _ => ?_)
  refine ex_le (B' := 5 + 1200) (by omega) rfl ?_
  refine x_aload_n (pc := 590) rfl d332_590 ?_
  refine x_qSs (pc := 591) (As := [.ref 0]) c332_298 (ct_sum hl hg6 h6) rfl rfl (Nat.le_of_ble_eq_true rfl) (by decide +kernel) (by decide +kernel) d332_591 (fun K7 h7 => ?_)
  refine x_lload (pc := 594) rfl d332_594 ?_
  refine x_lcN (pc := 596) (tgt := 619) d332_596 d332_597 (by decide) (fun h => absurd rfl h) (fun _ => ?_)
  refine ex_le (B' := 4 + 1) (by omega) rfl ?_
  refine x_aload_n (pc := 600) rfl d332_600 ?_
  refine x_bipush (pc := 601) (by decide) d332_601 ?_
  refine x_iconst (pc := 603) d332_603 ?_
  refine x_iconst (pc := 604) d332_604 ?_
  refine x_iconst (pc := 605) d332_605 ?_
  refine x_qW (pc := 606) (As := [.ref 0, .int (iI 9), .int (iI 0), .int (iI 0), .int (iI 0)]) (rest := []) c332_240 (dd_no (ct_do9 (a := 0) (b := 0) (c := 0) (v := v) hl (E := fun _ => 1) (r := oUndo (sH (sA S2 (gA S)) (gH S2, 0))) (Or.inr (Or.inl rfl)) (cm135 (q := 181) (v := v) hl (by decide) h7 hg6)) (if_neg (show ¬ (0 : Int) < 0 by decide)) (by decide) rfl) rfl rfl (Nat.le_of_ble_eq_true rfl) (by decide +kernel) (by decide +kernel) d332_606 (fun K8 h8 => ?_)
  refine x_val (pc := 609) (w := -1003) (by decide) ?_
  refine x_sipush (pc := 609) (by decide) d332_609 ?_
  refine x_icmp_ne (pc := 612) (tgt := 619) ⟨by omega, by omega⟩ ⟨by omega, by omega⟩ d332_612 (by decide) (fun h => absurd rfl h) (fun _ => ?_)
  refine x_iconst (pc := 615) d332_615 ?_
  refine x_goto (pc := 616) (tgt := 620) d332_616 (by decide) ?_
  refine x_cut (σ' := mZ) (Nat.zero_le _) rfl (fun i hi => absurd hi (Nat.not_lt_zero i)) ?_
  exact x_zret rfl (Or.inr rfl) (fun z => Bool.noConfusion z) d332_620 hE
end Tail
