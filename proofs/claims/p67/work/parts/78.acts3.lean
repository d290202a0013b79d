/-! ===== the law's acts, drift and dogs ===== -/
theorem safN_r {dr : Int} : ∀ (m : Nat) (i : Int), i ≤ safN dr m i ∧ safN dr m i ≤ i + m ∧ (safN dr m i < i + m → tkI (safN dr m i) dr ≠ safN dr m i) ∧ ∀ j, i ≤ j → j < safN dr m i → tkI j dr = j
  | 0, i => ⟨Int.le_refl i, by show i ≤ _; omega, fun h => absurd h (by show ¬ i < _; omega), fun j a b => absurd (show j < i from b) (by omega)⟩
  | m + 1, i => by
    unfold safN
    by_cases e : tkI i dr = i
    · rw [if_pos e]
      obtain ⟨h1, h2, h3, h4⟩ := safN_r (dr := dr) m (i + 1)
      refine ⟨by omega, by omega, fun h => h3 (by omega), fun j a b => ?_⟩
      by_cases d : j = i
      · rw [d]; exact e
      · exact h4 j (by omega) b
    · rw [if_neg e]
      exact ⟨Int.le_refl i, by omega, fun _ => e, fun j a b => absurd a (by omega)⟩
theorem chew_new {A : AV} {a b c t : Int} (hn : 0 ≤ A 0 4) (h0 : c ≤ t) (h1 : (t - c) % a < b) : chewA (dogA A a b c) t = true := by
  unfold chewA chewD
  rw [(dogA_e (i := 0)).2.2.2]
  refine List.any_eq_true.mpr ⟨(A 0 4).toNat, List.mem_range.mpr (by omega), ?_⟩
  unfold chewG
  have e : (((A 0 4).toNat : Nat) : Int) = A 0 4 := by omega
  rw [e, dogA_e.1, dogA_e.2.1, dogA_e.2.2.1, if_pos rfl, if_pos rfl, if_pos rfl, decide_eq_true (show 0 ≤ t - c by omega), decide_eq_true h1]
  rfl
section Acts3
variable {l : LX} {v x y z : Int} {S : GS} {Q : OO → Prop}
theorem a8_c (hl : l.1.stackTraces = false) (hS : GOK S) {P : (Nat → Int → Int) → Prop} (hP : ∀ K, CREL K S → P K) {I : Nat → Int → Int} (hI : CREL I S) {d : Int} (e1 : gA S 0 1 = d) (hd : -99 ≤ d ∧ d ≤ 99) : Ex l 311 12 (6 * 12) 587 [some (.ref 0), none, none, none, none, none, none, none, some (.int (iI d)), none] [] (mm 181 I v false) (oE 181 v false (some (.int (iI 1))) P) := by
  have h48 := fr48 hS
  obtain ⟨r1, r2, r3, r4, r5, r6, r7, r8, r9, r10⟩ := hS.1.rg
  have hcb := cB_v
  obtain ⟨h1, h2, h3, h4⟩ := safN_r (dr := gA S 0 1) 100 0
  have h5 := fun h => h4 (safN (gA S 0 1) 100 0 - 1) h (by omega)
  have t1 := tkI_r (b := safN (gA S 0 1) 100 0) (dr := gA S 0 1) (by omega) (by omega) (by omega) (by omega)
  have t2 : 1 ≤ safN (gA S 0 1) 100 0 → 0 ≤ tkI (safN (gA S 0 1) 100 0 - 1) (gA S 0 1) ∧ tkI (safN (gA S 0 1) 100 0 - 1) (gA S 0 1) ≤ 1100 := fun h => tkI_r (by omega) (by omega) (by omega) (by omega)
  refine x_aload_n (pc := 587) rfl d311_587 ?_
  refine x_qVs (pc := 588) c311_267 (qa (cm104 (E := fun _ => 0) hl (by decide) hI hS)) (ko0 (by omega)) rfl rfl (Nat.le_of_ble_eq_true rfl) (by decide +kernel) (by decide +kernel) d311_588 (fun I hI => ?_)
  refine x_istore (pc := 591) (by decide +kernel) rfl d311_591 ?_
  dsimp only [List.set]
  refine x_aload_n (pc := 593) rfl d311_593 ?_
  refine x_qVs (pc := 594) c311_98 (qa (cm84 (E := fun _ => 0) hl (by decide) hI)) (ko0 (by omega)) rfl rfl (Nat.le_of_ble_eq_true rfl) (by decide +kernel) (by decide +kernel) d311_594 (fun I hI => ?_)
  refine x_iload (pc := 597) rfl d311_597 ?_
  refine x_icmp_ne (pc := 599) (tgt := 644) ⟨by omega, by omega⟩ ⟨by omega, by omega⟩ d311_599 (by decide) (fun g599 => ?_) (fun g599 => ?_)
  · refine x_iconst (pc := 644) d311_644 ?_
    refine x_zret (pc := 645) rfl (Or.inl rfl) (fun z => Bool.noConfusion z) d311_645 ?_
    first | exact ⟨I, rfl, hP I hI⟩ | (exfalso; omega)
  · refine x_iload (pc := 602) rfl d311_602 ?_
    refine x_bipush (pc := 604) (by decide) d311_604 ?_
    refine x_icmp_eq (pc := 606) (tgt := 620) ⟨by omega, by omega⟩ ⟨by omega, by omega⟩ d311_606 (by decide) (fun g606 => ?_) (fun g606 => ?_)
    · refine x_iload (pc := 620) rfl d311_620 ?_
      refine x_if_eq (pc := 622) (tgt := 640) ⟨by omega, by omega⟩ d311_622 (by decide) (fun g622 => ?_) (fun g622 => ?_)
      · refine x_iconst (pc := 640) d311_640 ?_
        refine x_goto (pc := 641) (tgt := 645) d311_641 (by decide) ?_
        refine x_zret (pc := 645) rfl (Or.inr rfl) (fun z => Bool.noConfusion z) d311_645 ?_
        first | exact ⟨I, rfl, hP I hI⟩ | (exfalso; omega)
      · refine x_aload_n (pc := 625) rfl d311_625 ?_
        refine x_iload (pc := 626) rfl d311_626 ?_
        refine x_iconst (pc := 628) d311_628 ?_
        refine x_isub (pc := 629) d311_629 ?_
        refine x_qVs (pc := 630) c311_188 (qb (dT ⟨by omega, by omega⟩) (cm103 hl (by decide) hI hS ⟨by omega, by omega⟩)) (ko0 (by omega)) rfl rfl (Nat.le_of_ble_eq_true rfl) (by decide +kernel) (by decide +kernel) d311_630 (fun I hI => ?_)
        refine x_iload (pc := 633) rfl d311_633 ?_
        refine x_iconst (pc := 635) d311_635 ?_
        refine x_isub (pc := 636) d311_636 ?_
        refine x_icmp_ne (pc := 637) (tgt := 644) ⟨by omega, by omega⟩ ⟨by omega, by omega⟩ d311_637 (by decide) (fun g637 => ?_) (fun g637 => ?_)
        · refine x_iconst (pc := 644) d311_644 ?_
          refine x_zret (pc := 645) rfl (Or.inl rfl) (fun z => Bool.noConfusion z) d311_645 ?_
          first | exact ⟨I, rfl, hP I hI⟩ | (exfalso; omega)
        · refine x_iconst (pc := 640) d311_640 ?_
          refine x_goto (pc := 641) (tgt := 645) d311_641 (by decide) ?_
          refine x_zret (pc := 645) rfl (Or.inr rfl) (fun z => Bool.noConfusion z) d311_645 ?_
          first | exact ⟨I, rfl, hP I hI⟩ | (exfalso; omega)
    · refine x_aload_n (pc := 609) rfl d311_609 ?_
      refine x_iload (pc := 610) rfl d311_610 ?_
      refine x_qVs (pc := 612) c311_188 (qb (dT ⟨by omega, by omega⟩) (cm103 hl (by decide) hI hS ⟨by omega, by omega⟩)) (ko0 (by omega)) rfl rfl (Nat.le_of_ble_eq_true rfl) (by decide +kernel) (by decide +kernel) d311_612 (fun I hI => ?_)
      refine x_iload (pc := 615) rfl d311_615 ?_
      refine x_icmp_eq (pc := 617) (tgt := 644) ⟨by omega, by omega⟩ ⟨by omega, by omega⟩ d311_617 (by decide) (fun g617 => ?_) (fun g617 => ?_)
      · refine x_iconst (pc := 644) d311_644 ?_
        refine x_zret (pc := 645) rfl (Or.inl rfl) (fun z => Bool.noConfusion z) d311_645 ?_
        first | exact ⟨I, rfl, hP I hI⟩ | (exfalso; omega)
      · refine x_iload (pc := 620) rfl d311_620 ?_
        refine x_if_eq (pc := 622) (tgt := 640) ⟨by omega, by omega⟩ d311_622 (by decide) (fun g622 => ?_) (fun g622 => ?_)
        · refine x_iconst (pc := 640) d311_640 ?_
          refine x_goto (pc := 641) (tgt := 645) d311_641 (by decide) ?_
          refine x_zret (pc := 645) rfl (Or.inr rfl) (fun z => Bool.noConfusion z) d311_645 ?_
          first | exact ⟨I, rfl, hP I hI⟩ | (exfalso; omega)
        · refine x_aload_n (pc := 625) rfl d311_625 ?_
          refine x_iload (pc := 626) rfl d311_626 ?_
          refine x_iconst (pc := 628) d311_628 ?_
          refine x_isub (pc := 629) d311_629 ?_
          refine x_qVs (pc := 630) c311_188 (qb (dT ⟨by omega, by omega⟩) (cm103 hl (by decide) hI hS ⟨by omega, by omega⟩)) (ko0 (by omega)) rfl rfl (Nat.le_of_ble_eq_true rfl) (by decide +kernel) (by decide +kernel) d311_630 (fun I hI => ?_)
          refine x_iload (pc := 633) rfl d311_633 ?_
          refine x_iconst (pc := 635) d311_635 ?_
          refine x_isub (pc := 636) d311_636 ?_
          refine x_icmp_ne (pc := 637) (tgt := 644) ⟨by omega, by omega⟩ ⟨by omega, by omega⟩ d311_637 (by decide) (fun g637 => ?_) (fun g637 => ?_)
          · refine x_iconst (pc := 644) d311_644 ?_
            refine x_zret (pc := 645) rfl (Or.inl rfl) (fun z => Bool.noConfusion z) d311_645 ?_
            first | exact ⟨I, rfl, hP I hI⟩ | (exfalso; omega)
          · refine x_iconst (pc := 640) d311_640 ?_
            refine x_goto (pc := 641) (tgt := 645) d311_641 (by decide) ?_
            refine x_zret (pc := 645) rfl (Or.inr rfl) (fun z => Bool.noConfusion z) d311_645 ?_
            first | exact ⟨I, rfl, hP I hI⟩ | (exfalso; omega)
theorem a8_b (hl : l.1.stackTraces = false) (hS : GOK S) {P : (Nat → Int → Int) → Prop} (hP : ∀ K, CREL K S → P K) {I : Nat → Int → Int} (hI : CREL I S) {is had d : Int} (e1 : gA S 0 1 = d) (hd : -99 ≤ d ∧ d ≤ 99) (hh : -99 ≤ had ∧ had ≤ 99) (e2 : is = had) : Ex l 311 14 (6 * 14) 565 [some (.ref 0), none, none, none, none, none, none, some (.int (iI had)), some (.int (iI d)), none] [.int (iI is)] (mm 181 I v false) (oE 181 v false (some (.int (iI 1))) P) := by
  have h48 := fr48 hS
  obtain ⟨r1, r2, r3, r4, r5, r6, r7, r8, r9, r10⟩ := hS.1.rg
  have hcb := cB_v
  refine x_iload (pc := 565) rfl d311_565 ?_
  refine x_icmp_ne (pc := 567) (tgt := 585) ⟨by omega, by omega⟩ ⟨by omega, by omega⟩ d311_567 (by decide) (fun g567 => ?_) (fun g567 => ?_)
  · refine x_iconst (pc := 585) d311_585 ?_
    refine x_zret (pc := 586) rfl (Or.inl rfl) (fun z => Bool.noConfusion z) d311_586 ?_
    exfalso; omega
  · refine x_aload_n (pc := 570) rfl d311_570 ?_
    refine x_iconst (pc := 571) d311_571 ?_
    refine x_bipush (pc := 572) (by decide) d311_572 ?_
    refine x_iconst (pc := 574) d311_574 ?_
    refine x_iconst (pc := 575) d311_575 ?_
    refine x_mask [true, true, true, true, true, true, true, false, true, true] ?_
    dsimp only [mask]
    refine ex_le (B' := 12 + 1) (by omega) rfl ?_
    refine x_qW (pc := 576) (B0 := 1) (As := [.ref 0, .int (iI 5), .int (iI 100), .int (iI 0), .int (iI 0)]) (rest := []) c311_240 (dd_no (ct_do5 hl (E := fun _ => 0) (r := oDrift S 100) (Or.inl rfl) (cm132 (v := v) hl (by decide) hI hS ⟨by omega, by omega⟩)) (by unfold oDrift; rw [if_neg (by omega)]) (by decide) rfl) rfl rfl (Nat.le_of_ble_eq_true rfl) (by decide +kernel) (by decide +kernel) d311_576 (fun K hK => ?_)
    refine x_val (pc := 579) (w := -1002) (by decide) ?_
    refine x_sipush (pc := 579) (by decide) d311_579 ?_
    refine x_icmp_eq (pc := 582) (tgt := 587) ⟨by omega, by omega⟩ ⟨by omega, by omega⟩ d311_582 (by decide) (fun _ => ?_) (fun z => absurd rfl z)
    exact a8_c hl hS hP hK e1 hd
theorem a8_a (hl : l.1.stackTraces = false) (hS : GOK S) (hL : gL S = 0) {I : Nat → Int → Int} (hI : CREL I S) {d : Int} (hd : -99 ≤ d ∧ d ≤ 99) : Ex l 311 20 (6 * 20) 556 [some (.ref 0), none, none, none, none, none, none, some (.int (iI (gA S 0 1))), some (.int (iI d)), none] [] (mm 181 I v false) (oE 181 v false (some (.int (iI 1))) (AC S (up2 (gA S) 0 1 d))) := by
  have h48 := fr48 hS
  obtain ⟨r1, r2, r3, r4, r5, r6, r7, r8, r9, r10⟩ := hS.1.rg
  have hcb := cB_v
  refine x_aload_n (pc := 556) rfl d311_556 ?_
  refine x_iconst (pc := 557) d311_557 ?_
  refine x_iload (pc := 558) rfl d311_558 ?_
  refine x_iconst (pc := 560) d311_560 ?_
  refine x_iconst (pc := 561) d311_561 ?_
  refine ex_le (B' := 14 + 1) (by omega) rfl ?_
  refine x_qW (pc := 562) (B0 := 1) (As := [.ref 0, .int (iI 5), .int (iI d), .int (iI 0), .int (iI 0)]) (rest := []) c311_240 (dd_do (ct_do5 hl (E := fun _ => 0) (r := oDrift S d) (Or.inl rfl) (cm132 (v := v) hl (by decide) hI hS ⟨by omega, by omega⟩)) (by unfold oDrift; rw [if_pos hd]) hS (gok_drift hS) hL) rfl rfl (Nat.le_of_ble_eq_true rfl) (by decide +kernel) (by decide +kernel) d311_562 (fun K hK => ?_)
  obtain ⟨S2, m1, m2, m3, m4, m5⟩ := hK
  exact a8_b hl m2 (fun K h => ⟨S2, h, m2, m3, m4, Or.inr m5⟩) m1 (by rw [m4]; exact up2_s) hd r2 rfl
theorem act_8 (hl : l.1.stackTraces = false) (hS : GOK S) (hL : gL S = 0) (hPi : PI (gA S)) (hc : gA S 0 7 ≤ 600000) {I : Nat → Int → Int} (hI : CREL I S) (x0 : 0 ≤ x) (x1 : x ≤ 99999) (y0 : 0 ≤ y) (y1 : y ≤ 99999) (z0 : 0 ≤ z) (z1 : z ≤ 99999) : Ex l 311 30 (6 * 30) 22 [some (.ref 0), none, some (.int (iI x)), some (.int (iI y)), some (.int (iI z)), some (.int (iI (gA S 0 5))), some (.int (iI (if gA S 0 5 = 0 then 0 else x % gA S 0 5))), none, none, none] [.int (iI 8)] (mm 181 I v false) (oE 181 v false (some (.int (iI 1))) (AC S (up2 (gA S) 0 1 (if z % 5 > 0 then z % 17 - 8 else z % 199 - 99)))) := by
  have h48 := fr48 hS
  obtain ⟨r1, r2, r3, r4, r5, r6, r7, r8, r9, r10⟩ := hS.1.rg
  have hcb := cB_v
  refine x_tabIn (pc := 22) (tgt := 521) ⟨by omega, by omega⟩ d311_22 (by decide) (by decide) rfl (by decide) ?_
  refine x_aload_n (pc := 521) rfl d311_521 ?_
  refine x_qVs (pc := 522) c311_98 (qa (cm84 (E := fun _ => 0) hl (by decide) hI)) (ko0 (by omega)) rfl rfl (Nat.le_of_ble_eq_true rfl) (by decide +kernel) (by decide +kernel) d311_522 (fun I hI => ?_)
  refine x_istore (pc := 525) (by decide +kernel) rfl d311_525 ?_
  dsimp only [List.set]
  refine x_iload (pc := 527) rfl d311_527 ?_
  refine x_iconst (pc := 529) d311_529 ?_
  refine x_irem (pc := 530) (by omega) (by omega) (by omega) (by omega) d311_530 ?_
  refine x_if_le (pc := 531) (tgt := 545) ⟨by omega, by omega⟩ d311_531 (by decide) (fun g531 => ?_) (fun g531 => ?_)
  · refine x_iload (pc := 545) rfl d311_545 ?_
    refine x_sipush (pc := 547) (by decide) d311_547 ?_
    refine x_irem (pc := 550) (by omega) (by omega) (by omega) (by omega) d311_550 ?_
    refine x_bipush (pc := 551) (by decide) d311_551 ?_
    refine x_isub (pc := 553) d311_553 ?_
    refine x_istore (pc := 554) (by decide +kernel) rfl d311_554 ?_
    dsimp only [List.set]
    refine x_mask [true, true, false, false, false, false, false, true, true, true] ?_
    dsimp only [mask]
    rw [if_neg (by omega)]
    exact ex_le (B' := 20) (by omega) rfl (a8_a hl hS hL hI (by omega))
  · refine x_iload (pc := 534) rfl d311_534 ?_
    refine x_bipush (pc := 536) (by decide) d311_536 ?_
    refine x_irem (pc := 538) (by omega) (by omega) (by omega) (by omega) d311_538 ?_
    refine x_bipush (pc := 539) (by decide) d311_539 ?_
    refine x_isub (pc := 541) d311_541 ?_
    refine x_goto (pc := 542) (tgt := 554) d311_542 (by decide) ?_
    refine x_istore (pc := 554) (by decide +kernel) rfl d311_554 ?_
    dsimp only [List.set]
    refine x_mask [true, true, false, false, false, false, false, true, true, true] ?_
    dsimp only [mask]
    rw [if_pos g531]
    exact ex_le (B' := 20) (by omega) rfl (a8_a hl hS hL hI (by omega))
theorem a9_c (hl : l.1.stackTraces = false) (hS : GOK S) {P : (Nat → Int → Int) → Prop} (hP : ∀ K, CREL K S → P K) {I : Nat → Int → Int} (hI : CREL I S) {is dg pe : Int} (x0 : 0 ≤ x) (x1 : x ≤ 99999) (hg : 0 ≤ dg ∧ dg ≤ 3) (hp : 2 ≤ pe ∧ pe ≤ 301) (h1 : dg = 3 → is = -1003) (h2 : dg ≠ 3 → is = dg) (h3 : dg ≠ 3 → chewA (gA S) (x % 50) = true ∧ chewA (gA S) (x % 50 + 3 * pe) = true) (his : -1003 ≤ is ∧ is ≤ 3) : Ex l 311 12 (6 * 12) 693 [some (.ref 0), none, some (.int (iI x)), none, none, none, none, some (.int (iI dg)), some (.int (iI pe)), none] [.int (iI is)] (mm 181 I v false) (oE 181 v false (some (.int (iI 1))) P) := by
  have h48 := fr48 hS
  obtain ⟨r1, r2, r3, r4, r5, r6, r7, r8, r9, r10⟩ := hS.1.rg
  have hcb := cB_v
  refine x_istore (pc := 693) (by decide +kernel) rfl d311_693 ?_
  dsimp only [List.set]
  refine x_iload (pc := 695) rfl d311_695 ?_
  refine x_iconst (pc := 697) d311_697 ?_
  refine x_icmp_ne (pc := 698) (tgt := 717) ⟨by omega, by omega⟩ ⟨by omega, by omega⟩ d311_698 (by decide) (fun g698 => ?_) (fun g698 => ?_)
  · refine x_iload (pc := 717) rfl d311_717 ?_
    refine x_iload (pc := 719) rfl d311_719 ?_
    refine x_icmp_ne (pc := 721) (tgt := 755) ⟨by omega, by omega⟩ ⟨by omega, by omega⟩ d311_721 (by decide) (fun g721 => ?_) (fun g721 => ?_)
    · refine x_iconst (pc := 755) d311_755 ?_
      refine x_zret (pc := 756) rfl (Or.inl rfl) (fun z => Bool.noConfusion z) d311_756 ?_
      first | exact ⟨I, rfl, hP I hI⟩ | (exfalso; omega) | (exfalso; have h4 := h3 (by omega); first | exact absurd (h4.1.symm.trans g732) (by decide) | exact absurd (h4.2.symm.trans g748) (by decide))
    · refine x_aload_n (pc := 724) rfl d311_724 ?_
      refine x_iload_n (pc := 725) rfl d311_725 ?_
      refine x_bipush (pc := 726) (by decide) d311_726 ?_
      refine x_irem (pc := 728) (by omega) (by omega) (by omega) (by omega) d311_728 ?_
      refine x_qVs (pc := 729) c311_166 (qb (isT_t (by omega) (by omega)) (cm86 hl (by decide) hI hS ⟨by omega, by omega⟩)) (ko0 (by omega)) rfl rfl (Nat.le_of_ble_eq_true rfl) (by decide +kernel) (by decide +kernel) d311_729 (fun I hI => ?_)
      refine x_ifB_eq (pc := 732) (tgt := 755) d311_732 (by decide) (fun g732 => ?_) (fun g732 => ?_)
      · refine x_iconst (pc := 755) d311_755 ?_
        refine x_zret (pc := 756) rfl (Or.inl rfl) (fun z => Bool.noConfusion z) d311_756 ?_
        first | exact ⟨I, rfl, hP I hI⟩ | (exfalso; omega) | (exfalso; have h4 := h3 (by omega); first | exact absurd (h4.1.symm.trans g732) (by decide) | exact absurd (h4.2.symm.trans g748) (by decide))
      · refine x_aload_n (pc := 735) rfl d311_735 ?_
        refine x_iload_n (pc := 736) rfl d311_736 ?_
        refine x_bipush (pc := 737) (by decide) d311_737 ?_
        refine x_irem (pc := 739) (by omega) (by omega) (by omega) (by omega) d311_739 ?_
        refine x_iconst (pc := 740) d311_740 ?_
        refine x_iload (pc := 741) rfl d311_741 ?_
        refine x_imul (pc := 743) d311_743 ?_
        refine x_iadd (pc := 744) d311_744 ?_
        refine x_qVs (pc := 745) c311_166 (qb (isT_t (by omega) (by omega)) (cm86 hl (by decide) hI hS ⟨by omega, by omega⟩)) (ko0 (by omega)) rfl rfl (Nat.le_of_ble_eq_true rfl) (by decide +kernel) (by decide +kernel) d311_745 (fun I hI => ?_)
        refine x_ifB_eq (pc := 748) (tgt := 755) d311_748 (by decide) (fun g748 => ?_) (fun g748 => ?_)
        · refine x_iconst (pc := 755) d311_755 ?_
          refine x_zret (pc := 756) rfl (Or.inl rfl) (fun z => Bool.noConfusion z) d311_756 ?_
          first | exact ⟨I, rfl, hP I hI⟩ | (exfalso; omega) | (exfalso; have h4 := h3 (by omega); first | exact absurd (h4.1.symm.trans g732) (by decide) | exact absurd (h4.2.symm.trans g748) (by decide))
        · refine x_iconst (pc := 751) d311_751 ?_
          refine x_goto (pc := 752) (tgt := 756) d311_752 (by decide) ?_
          refine x_zret (pc := 756) rfl (Or.inr rfl) (fun z => Bool.noConfusion z) d311_756 ?_
          first | exact ⟨I, rfl, hP I hI⟩ | (exfalso; omega) | (exfalso; have h4 := h3 (by omega); first | exact absurd (h4.1.symm.trans g732) (by decide) | exact absurd (h4.2.symm.trans g748) (by decide))
  · refine x_iload (pc := 701) rfl d311_701 ?_
    refine x_sipush (pc := 703) (by decide) d311_703 ?_
    refine x_icmp_ne (pc := 706) (tgt := 713) ⟨by omega, by omega⟩ ⟨by omega, by omega⟩ d311_706 (by decide) (fun g706 => ?_) (fun g706 => ?_)
    · refine x_iconst (pc := 713) d311_713 ?_
      refine x_goto (pc := 714) (tgt := 756) d311_714 (by decide) ?_
      refine x_zret (pc := 756) rfl (Or.inl rfl) (fun z => Bool.noConfusion z) d311_756 ?_
      first | exact ⟨I, rfl, hP I hI⟩ | (exfalso; omega) | (exfalso; have h4 := h3 (by omega); first | exact absurd (h4.1.symm.trans g732) (by decide) | exact absurd (h4.2.symm.trans g748) (by decide))
    · refine x_iconst (pc := 709) d311_709 ?_
      refine x_goto (pc := 710) (tgt := 756) d311_710 (by decide) ?_
      refine x_zret (pc := 756) rfl (Or.inr rfl) (fun z => Bool.noConfusion z) d311_756 ?_
      first | exact ⟨I, rfl, hP I hI⟩ | (exfalso; omega) | (exfalso; have h4 := h3 (by omega); first | exact absurd (h4.1.symm.trans g732) (by decide) | exact absurd (h4.2.symm.trans g748) (by decide))
theorem a9_d (hl : l.1.stackTraces = false) (hS : GOK S) {P : (Nat → Int → Int) → Prop} (hP : ∀ K, CREL K S → P K) {I : Nat → Int → Int} (hI : CREL I S) {is dg : Int} (x0 : 0 ≤ x) (x1 : x ≤ 99999) (hg : 0 ≤ dg ∧ dg ≤ 3) (h1 : dg ≤ x % 3 → is = -1001) (h2 : x % 3 < dg → is = dg - 1) (his : -1003 ≤ is ∧ is ≤ 3) : Ex l 311 12 (6 * 12) 768 [none, none, some (.int (iI x)), none, none, none, none, some (.int (iI dg)), none, none] [.int (iI is)] (mm 181 I v false) (oE 181 v false (some (.int (iI 1))) P) := by
  have h48 := fr48 hS
  obtain ⟨r1, r2, r3, r4, r5, r6, r7, r8, r9, r10⟩ := hS.1.rg
  have hcb := cB_v
  refine x_istore (pc := 768) (by decide +kernel) rfl d311_768 ?_
  dsimp only [List.set]
  refine x_iload_n (pc := 770) rfl d311_770 ?_
  refine x_iconst (pc := 771) d311_771 ?_
  refine x_irem (pc := 772) (by omega) (by omega) (by omega) (by omega) d311_772 ?_
  refine x_iload (pc := 773) rfl d311_773 ?_
  refine x_icmp_lt (pc := 775) (tgt := 794) ⟨by omega, by omega⟩ ⟨by omega, by omega⟩ d311_775 (by decide) (fun g775 => ?_) (fun g775 => ?_)
  · refine x_iload (pc := 794) rfl d311_794 ?_
    refine x_iload (pc := 796) rfl d311_796 ?_
    refine x_iconst (pc := 798) d311_798 ?_
    refine x_isub (pc := 799) d311_799 ?_
    refine x_icmp_ne (pc := 800) (tgt := 807) ⟨by omega, by omega⟩ ⟨by omega, by omega⟩ d311_800 (by decide) (fun g800 => ?_) (fun g800 => ?_)
    · refine x_iconst (pc := 807) d311_807 ?_
      refine x_zret (pc := 808) rfl (Or.inl rfl) (fun z => Bool.noConfusion z) d311_808 ?_
      first | exact ⟨I, rfl, hP I hI⟩ | (exfalso; omega)
    · refine x_iconst (pc := 803) d311_803 ?_
      refine x_goto (pc := 804) (tgt := 808) d311_804 (by decide) ?_
      refine x_zret (pc := 808) rfl (Or.inr rfl) (fun z => Bool.noConfusion z) d311_808 ?_
      first | exact ⟨I, rfl, hP I hI⟩ | (exfalso; omega)
  · refine x_iload (pc := 778) rfl d311_778 ?_
    refine x_sipush (pc := 780) (by decide) d311_780 ?_
    refine x_icmp_ne (pc := 783) (tgt := 790) ⟨by omega, by omega⟩ ⟨by omega, by omega⟩ d311_783 (by decide) (fun g783 => ?_) (fun g783 => ?_)
    · refine x_iconst (pc := 790) d311_790 ?_
      refine x_goto (pc := 791) (tgt := 808) d311_791 (by decide) ?_
      refine x_zret (pc := 808) rfl (Or.inl rfl) (fun z => Bool.noConfusion z) d311_808 ?_
      first | exact ⟨I, rfl, hP I hI⟩ | (exfalso; omega)
    · refine x_iconst (pc := 786) d311_786 ?_
      refine x_goto (pc := 787) (tgt := 808) d311_787 (by decide) ?_
      refine x_zret (pc := 808) rfl (Or.inr rfl) (fun z => Bool.noConfusion z) d311_808 ?_
      first | exact ⟨I, rfl, hP I hI⟩ | (exfalso; omega)
def a9A (A : AV) (x y z : Int) : AV := if y % 2 = 0 then (if A 0 4 < 3 then dogA A (2 + x % 300) (1 + (z % min (2 + x % 300 - 1) 20)) (x % 50) else A) else if x % 3 < A 0 4 then rmA A (x % 3) else A

theorem act_9 (hl : l.1.stackTraces = false) (hS : GOK S) (hL : gL S = 0) (hPi : PI (gA S)) (hc : gA S 0 7 ≤ 600000) {I : Nat → Int → Int} (hI : CREL I S) (x0 : 0 ≤ x) (x1 : x ≤ 99999) (y0 : 0 ≤ y) (y1 : y ≤ 99999) (z0 : 0 ≤ z) (z1 : z ≤ 99999) : Ex l 311 30 (6 * 30) 22 [some (.ref 0), none, some (.int (iI x)), some (.int (iI y)), some (.int (iI z)), some (.int (iI (gA S 0 5))), some (.int (iI (if gA S 0 5 = 0 then 0 else x % gA S 0 5))), none, none, none] [.int (iI 9)] (mm 181 I v false) (oE 181 v false (some (.int (iI 1))) (AC S (a9A (gA S) x y z))) := by
  have h48 := fr48 hS
  obtain ⟨r1, r2, r3, r4, r5, r6, r7, r8, r9, r10⟩ := hS.1.rg
  have hcb := cB_v
  have hw0 := Int.emod_nonneg z (b := min (2 + x % 300 - 1) 20) (by omega)
  have hw1 := Int.emod_lt_of_pos z (b := min (2 + x % 300 - 1) 20) (by omega)
  refine x_tabOut (pc := 22) (tgt := 646) ⟨by omega, by omega⟩ d311_22 (by decide) (by decide) ?_
  refine x_aload_n (pc := 646) rfl d311_646 ?_
  refine x_qVs (pc := 647) c311_103 (qa (cm85 (E := fun _ => 0) hl (by decide) hI)) (ko0 (by omega)) rfl rfl (Nat.le_of_ble_eq_true rfl) (by decide +kernel) (by decide +kernel) d311_647 (fun I hI => ?_)
  refine x_istore (pc := 650) (by decide +kernel) rfl d311_650 ?_
  dsimp only [List.set]
  refine x_iload_n (pc := 652) rfl d311_652 ?_
  refine x_iconst (pc := 653) d311_653 ?_
  refine x_irem (pc := 654) (by omega) (by omega) (by omega) (by omega) d311_654 ?_
  refine x_if_ne (pc := 655) (tgt := 757) ⟨by omega, by omega⟩ d311_655 (by decide) (fun g655 => ?_) (fun g655 => ?_)
  · refine x_aload_n (pc := 757) rfl d311_757 ?_
    refine x_bipush (pc := 758) (by decide) d311_758 ?_
    refine x_iload_n (pc := 760) rfl d311_760 ?_
    refine x_iconst (pc := 761) d311_761 ?_
    refine x_irem (pc := 762) (by omega) (by omega) (by omega) (by omega) d311_762 ?_
    refine x_iconst (pc := 763) d311_763 ?_
    refine x_iconst (pc := 764) d311_764 ?_
    refine x_mask [false, true, true, false, false, false, false, true, true, true] ?_
    dsimp only [mask]
    refine ex_le (B' := 12 + 1) (by omega) rfl ?_
    by_cases d : x % 3 < gA S 0 4
    · rw [show a9A (gA S) x y z = rmA (gA S) (x % 3) from by unfold a9A; rw [if_neg g655, if_pos d]]
      refine x_qW (pc := 765) (B0 := 1) (As := [.ref 0, .int (iI 7), .int (iI (x % 3)), .int (iI 0), .int (iI 0)]) (rest := []) c311_240 (dd_do (ct_do7 hl (E := fun _ => 2) (r := oRemove S (x % 3)) (Or.inr (Or.inr rfl)) (cm134 (v := v) hl (by decide) hI hS ⟨by omega, by omega⟩)) (by unfold oRemove; rw [if_pos ⟨by omega, d⟩]) hS (gok_remove hS) hL) rfl rfl (Nat.le_of_ble_eq_true rfl) (by decide +kernel) (by decide +kernel) d311_765 (fun K hK => ?_)
      obtain ⟨S2, m1, m2, m3, m4, m5⟩ := hK
      exact a9_d hl m2 (fun K h => ⟨S2, h, m2, m3, m4, Or.inr m5⟩) m1 x0 x1 r5 (fun h => by omega) (fun _ => rfl) (by omega)
    · rw [show a9A (gA S) x y z = gA S from by unfold a9A; rw [if_neg g655, if_neg d]]
      refine x_qW (pc := 765) (B0 := 1) (As := [.ref 0, .int (iI 7), .int (iI (x % 3)), .int (iI 0), .int (iI 0)]) (rest := []) c311_240 (dd_no (ct_do7 hl (E := fun _ => 2) (r := oRemove S (x % 3)) (Or.inr (Or.inr rfl)) (cm134 (v := v) hl (by decide) hI hS ⟨by omega, by omega⟩)) (by unfold oRemove; rw [if_neg (by omega)]) (by decide) rfl) rfl rfl (Nat.le_of_ble_eq_true rfl) (by decide +kernel) (by decide +kernel) d311_765 (fun K hK => ?_)
      refine x_val (pc := 768) (w := -1001) (by decide) ?_
      exact a9_d hl hS (fun K h => ac_no hS hL h) hK x0 x1 r5 (fun _ => rfl) (fun h => absurd h d) (by decide)
  · refine x_iconst (pc := 658) d311_658 ?_
    refine x_iload_n (pc := 659) rfl d311_659 ?_
    refine x_sipush (pc := 660) (by decide) d311_660 ?_
    refine x_irem (pc := 663) (by omega) (by omega) (by omega) (by omega) d311_663 ?_
    refine x_iadd (pc := 664) d311_664 ?_
    refine x_istore (pc := 665) (by decide +kernel) rfl d311_665 ?_
    dsimp only [List.set]
    refine x_aload_n (pc := 667) rfl d311_667 ?_
    refine x_bipush (pc := 668) (by decide) d311_668 ?_
    refine x_iload (pc := 670) rfl d311_670 ?_
    refine x_iconst (pc := 672) d311_672 ?_
    refine x_iload (pc := 673) rfl d311_673 ?_
    refine x_iload (pc := 675) rfl d311_675 ?_
    refine x_iconst (pc := 677) d311_677 ?_
    refine x_isub (pc := 678) d311_678 ?_
    refine x_bipush (pc := 679) (by decide) d311_679 ?_
    refine x_min (pc := 681) ⟨by omega, by omega⟩ ⟨by omega, by omega⟩ c311_264 (by decide +kernel) (Nat.le_of_ble_eq_true rfl) d311_681 ?_
    refine x_irem (pc := 684) (by omega) (by omega) (by omega) (by omega) d311_684 ?_
    refine x_iadd (pc := 685) d311_685 ?_
    refine x_iload_n (pc := 686) rfl d311_686 ?_
    refine x_bipush (pc := 687) (by decide) d311_687 ?_
    refine x_irem (pc := 689) (by omega) (by omega) (by omega) (by omega) d311_689 ?_
    refine x_mask [true, true, true, false, false, false, false, true, true, true] ?_
    dsimp only [mask]
    have e9 : a9A (gA S) x y z = if gA S 0 4 < 3 then dogA (gA S) (2 + x % 300) (1 + z % min (2 + x % 300 - 1) 20) (x % 50) else gA S := if_pos g655
    rw [e9]
    obtain ⟨w, hw⟩ : ∃ w, w = z % min (2 + x % 300 - 1) 20 := ⟨_, rfl⟩
    rw [← hw] at hw0 hw1 ⊢
    refine ex_le (B' := 12 + 1) (by omega) rfl ?_
    by_cases d : gA S 0 4 < 3
    · rw [if_pos d]
      refine x_qW (pc := 690) (B0 := 1) (As := [.ref 0, .int (iI 6), .int (iI (2 + x % 300)), .int (iI (1 + w)), .int (iI (x % 50))]) (rest := []) c311_240 (dd_do (ct_do6 hl (E := fun c => if c = 1 then 0 else 1) (r := oDog S (2 + x % 300) (1 + w) (x % 50)) (by by_cases e : (oDog S (2 + x % 300) (1 + w) (x % 50)).1 = 1 <;> simp [e]) (cm133 (v := v) hl (by decide) hI hS ⟨by omega, by omega⟩ ⟨by omega, by omega⟩ ⟨by omega, by omega⟩)) (by unfold oDog; rw [if_pos ⟨⟨by omega, by omega⟩, ⟨by omega, by omega⟩, by omega, by omega⟩, if_pos d]) hS (gok_dog hS) hL) rfl rfl (Nat.le_of_ble_eq_true rfl) (by decide +kernel) (by decide +kernel) d311_690 (fun K hK => ?_)
      obtain ⟨S2, m1, m2, m3, m4, m5⟩ := hK
      refine a9_c hl m2 (fun K h => ⟨S2, h, m2, m3, m4, Or.inr m5⟩) m1 x0 x1 r5 (by omega) (fun h => by omega) (fun _ => rfl) (fun _ => ?_) (by omega)
      rw [m4]
      refine ⟨chew_new r5.1 (Int.le_refl _) (by rw [Int.sub_self, Int.zero_emod]; omega), chew_new r5.1 (by omega) ?_⟩
      rw [show x % 50 + 3 * (2 + x % 300) - x % 50 = 3 * (2 + x % 300) from by omega, Int.mul_emod_left]
      omega
    · rw [if_neg d]
      refine x_qW (pc := 690) (B0 := 1) (As := [.ref 0, .int (iI 6), .int (iI (2 + x % 300)), .int (iI (1 + w)), .int (iI (x % 50))]) (rest := []) c311_240 (dd_no (ct_do6 hl (E := fun c => if c = 1 then 0 else 1) (r := oDog S (2 + x % 300) (1 + w) (x % 50)) (by by_cases e : (oDog S (2 + x % 300) (1 + w) (x % 50)).1 = 1 <;> simp [e]) (cm133 (v := v) hl (by decide) hI hS ⟨by omega, by omega⟩ ⟨by omega, by omega⟩ ⟨by omega, by omega⟩)) (by unfold oDog; rw [if_pos ⟨⟨by omega, by omega⟩, ⟨by omega, by omega⟩, by omega, by omega⟩, if_neg d]) (by decide) rfl) rfl rfl (Nat.le_of_ble_eq_true rfl) (by decide +kernel) (by decide +kernel) d311_690 (fun K hK => ?_)
      refine x_val (pc := 693) (w := -1003) (by decide) ?_
      exact a9_c hl hS (fun K h => ac_no hS hL h) hK x0 x1 r5 (by omega) (fun _ => rfl) (fun h => by omega) (fun h => by omega) (by decide)
end Acts3
