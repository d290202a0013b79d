/-! ===== the law's acts, on ===== -/
section Acts2
variable {l : LX} {v x y z : Int} {S : GS} {Q : OO → Prop}
theorem a6_c (hl : l.1.stackTraces = false) (hS : GOK S) {P : (Nat → Int → Int) → Prop} (hP : ∀ K, CREL K S → P K) {I : Nat → Int → Int} (hI : CREL I S) {is m st : Int} (m0 : 0 ≤ m) (m1 : m < gA S 0 5) (h1 : st ≠ 0 → is = -1003) (h2 : st = 0 → 0 < is ∧ stA (gA S) m = 2) (hst : 0 ≤ st ∧ st ≤ 2) (his : -1003 ≤ is ∧ is ≤ 100) : Ex l 311 12 (6 * 12) 328 [some (.ref 0), none, none, none, none, none, some (.int (iI m)), some (.int (iI st)), none, none] [.int (iI is)] (mm 181 I v false) (oE 181 v false (some (.int (iI 1))) P) := by
  have h48 := fr48 hS
  obtain ⟨r1, r2, r3, r4, r5, r6, r7, r8, r9, r10⟩ := hS.1.rg
  have hcb := cB_v
  have hsr := stA_r (gA S) m
  refine x_istore (pc := 328) (by decide +kernel) rfl d311_328 ?_
  dsimp only [List.set]
  refine x_iload (pc := 330) rfl d311_330 ?_
  refine x_if_eq (pc := 332) (tgt := 351) ⟨by omega, by omega⟩ d311_332 (by decide) (fun g332 => ?_) (fun g332 => ?_)
  · refine x_iload (pc := 351) rfl d311_351 ?_
    refine x_if_le (pc := 353) (tgt := 370) ⟨by omega, by omega⟩ d311_353 (by decide) (fun g353 => ?_) (fun g353 => ?_)
    · refine x_iconst (pc := 370) d311_370 ?_
      refine x_zret (pc := 371) rfl (Or.inl rfl) (fun z => Bool.noConfusion z) d311_371 ?_
      first | exact ⟨I, rfl, hP I hI⟩ | (exfalso; omega)
    · refine x_aload_n (pc := 356) rfl d311_356 ?_
      refine x_iload (pc := 357) rfl d311_357 ?_
      refine x_qVs (pc := 359) c311_142 (qb (isM_t (by omega) (by omega)) (cm92 hl (by decide) hI hS ⟨by omega, by omega⟩)) (ko0 (by omega)) rfl rfl (Nat.le_of_ble_eq_true rfl) (by decide +kernel) (by decide +kernel) d311_359 (fun I hI => ?_)
      refine x_iconst (pc := 362) d311_362 ?_
      refine x_icmp_ne (pc := 363) (tgt := 370) ⟨by omega, by omega⟩ ⟨by omega, by omega⟩ d311_363 (by decide) (fun g363 => ?_) (fun g363 => ?_)
      · refine x_iconst (pc := 370) d311_370 ?_
        refine x_zret (pc := 371) rfl (Or.inl rfl) (fun z => Bool.noConfusion z) d311_371 ?_
        first | exact ⟨I, rfl, hP I hI⟩ | (exfalso; omega)
      · refine x_iconst (pc := 366) d311_366 ?_
        refine x_goto (pc := 367) (tgt := 371) d311_367 (by decide) ?_
        refine x_zret (pc := 371) rfl (Or.inr rfl) (fun z => Bool.noConfusion z) d311_371 ?_
        first | exact ⟨I, rfl, hP I hI⟩ | (exfalso; omega)
  · refine x_iload (pc := 335) rfl d311_335 ?_
    refine x_sipush (pc := 337) (by decide) d311_337 ?_
    refine x_icmp_ne (pc := 340) (tgt := 347) ⟨by omega, by omega⟩ ⟨by omega, by omega⟩ d311_340 (by decide) (fun g340 => ?_) (fun g340 => ?_)
    · refine x_iconst (pc := 347) d311_347 ?_
      refine x_goto (pc := 348) (tgt := 371) d311_348 (by decide) ?_
      refine x_zret (pc := 371) rfl (Or.inl rfl) (fun z => Bool.noConfusion z) d311_371 ?_
      first | exact ⟨I, rfl, hP I hI⟩ | (exfalso; omega)
    · refine x_iconst (pc := 343) d311_343 ?_
      refine x_goto (pc := 344) (tgt := 371) d311_344 (by decide) ?_
      refine x_zret (pc := 371) rfl (Or.inr rfl) (fun z => Bool.noConfusion z) d311_371 ?_
      first | exact ⟨I, rfl, hP I hI⟩ | (exfalso; omega)
theorem a6_d (hl : l.1.stackTraces = false) (hS : GOK S) {P : (Nat → Int → Int) → Prop} (hP : ∀ K, CREL K S → P K) {I : Nat → Int → Int} (hI : CREL I S) {is m many st : Int} (m0 : 0 ≤ m) (m1 : m < gA S 0 5) (hmn : 0 ≤ many ∧ many ≤ 12) (hst : 0 ≤ st ∧ st ≤ 2) (h1 : st ≠ 2 ∨ many = 12) (h2 : is = -1003) : Ex l 311 12 (6 * 12) 381 [some (.ref 0), none, none, none, none, some (.int (iI many)), some (.int (iI m)), some (.int (iI st)), none, none] [.int (iI is)] (mm 181 I v false) (oE 181 v false (some (.int (iI 1))) P) := by
  have h48 := fr48 hS
  obtain ⟨r1, r2, r3, r4, r5, r6, r7, r8, r9, r10⟩ := hS.1.rg
  have hcb := cB_v
  refine x_istore (pc := 381) (by decide +kernel) rfl d311_381 ?_
  dsimp only [List.set]
  refine x_iload (pc := 383) rfl d311_383 ?_
  refine x_iconst (pc := 385) d311_385 ?_
  refine x_icmp_ne (pc := 386) (tgt := 396) ⟨by omega, by omega⟩ ⟨by omega, by omega⟩ d311_386 (by decide) (fun g386 => ?_) (fun g386 => ?_)
  · refine x_iload (pc := 396) rfl d311_396 ?_
    refine x_sipush (pc := 398) (by decide) d311_398 ?_
    refine x_icmp_ne (pc := 401) (tgt := 408) ⟨by omega, by omega⟩ ⟨by omega, by omega⟩ d311_401 (by decide) (fun g401 => ?_) (fun g401 => ?_)
    · refine x_iconst (pc := 408) d311_408 ?_
      refine x_goto (pc := 409) (tgt := 464) d311_409 (by decide) ?_
      refine x_zret (pc := 464) rfl (Or.inl rfl) (fun z => Bool.noConfusion z) d311_464 ?_
      first | exact ⟨I, rfl, hP I hI⟩ | (exfalso; omega)
    · refine x_iconst (pc := 404) d311_404 ?_
      refine x_goto (pc := 405) (tgt := 464) d311_405 (by decide) ?_
      refine x_zret (pc := 464) rfl (Or.inr rfl) (fun z => Bool.noConfusion z) d311_464 ?_
      first | exact ⟨I, rfl, hP I hI⟩ | (exfalso; omega)
  · refine x_iload (pc := 389) rfl d311_389 ?_
    refine x_bipush (pc := 391) (by decide) d311_391 ?_
    refine x_icmp_ne (pc := 393) (tgt := 412) ⟨by omega, by omega⟩ ⟨by omega, by omega⟩ d311_393 (by decide) (fun g393 => ?_) (fun g393 => ?_)
    · refine x_iload (pc := 412) rfl d311_412 ?_
      refine x_iload (pc := 414) rfl d311_414 ?_
      refine x_icmp_ne (pc := 416) (tgt := 463) ⟨by omega, by omega⟩ ⟨by omega, by omega⟩ d311_416 (by decide) (fun g416 => ?_) (fun g416 => ?_)
      · refine x_iconst (pc := 463) d311_463 ?_
        refine x_zret (pc := 464) rfl (Or.inl rfl) (fun z => Bool.noConfusion z) d311_464 ?_
        first | exact ⟨I, rfl, hP I hI⟩ | (exfalso; omega)
      · refine x_aload_n (pc := 419) rfl d311_419 ?_
        refine x_iload (pc := 420) rfl d311_420 ?_
        refine x_qVs (pc := 422) c311_139 (qb (isM_t (by omega) (by omega)) (cm91 hl (by decide) hI hS ⟨by omega, by omega⟩)) (ko0 (by omega)) rfl rfl (Nat.le_of_ble_eq_true rfl) (by decide +kernel) (by decide +kernel) d311_422 (fun I hI => ?_)
        refine x_aload_n (pc := 425) rfl d311_425 ?_
        refine x_iload (pc := 426) rfl d311_426 ?_
        refine x_qVs (pc := 428) c311_139 (qb (isM_t (by omega) (by omega)) (cm91 hl (by decide) hI hS ⟨by omega, by omega⟩)) (ko0 (by omega)) rfl rfl (Nat.le_of_ble_eq_true rfl) (by decide +kernel) (by decide +kernel) d311_428 (fun I hI => ?_)
        refine x_icmp_ne (pc := 431) (tgt := 463) ⟨by omega, by omega⟩ ⟨by omega, by omega⟩ d311_431 (by decide) (fun g431 => ?_) (fun g431 => ?_)
        · refine x_iconst (pc := 463) d311_463 ?_
          refine x_zret (pc := 464) rfl (Or.inl rfl) (fun z => Bool.noConfusion z) d311_464 ?_
          first | exact ⟨I, rfl, hP I hI⟩ | (exfalso; omega)
        · refine x_aload_n (pc := 434) rfl d311_434 ?_
          refine x_aload_n (pc := 435) rfl d311_435 ?_
          refine x_iload (pc := 436) rfl d311_436 ?_
          refine x_qVs (pc := 438) c311_206 (qb (isM_t (by omega) (by omega)) (cm93 hl (by decide) hI hS ⟨by omega, by omega⟩)) (ko0 (by omega)) rfl rfl (Nat.le_of_ble_eq_true rfl) (by decide +kernel) (by decide +kernel) d311_438 (fun I hI => ?_)
          refine x_iconst (pc := 441) d311_441 ?_
          refine x_qVs (pc := 442) c311_157 (qFB hl hI hS (by omega) (by omega) (by omega) (by omega) ⟨by omega, by omega⟩ ⟨by omega, by omega⟩) (ko0 (by omega)) rfl rfl (Nat.le_of_ble_eq_true rfl) (by decide +kernel) (by decide +kernel) d311_442 (fun I hI => ?_)
          refine x_aload_n (pc := 445) rfl d311_445 ?_
          refine x_aload_n (pc := 446) rfl d311_446 ?_
          refine x_iload (pc := 447) rfl d311_447 ?_
          refine x_qVs (pc := 449) c311_206 (qb (isM_t (by omega) (by omega)) (cm93 hl (by decide) hI hS ⟨by omega, by omega⟩)) (ko0 (by omega)) rfl rfl (Nat.le_of_ble_eq_true rfl) (by decide +kernel) (by decide +kernel) d311_449 (fun I hI => ?_)
          refine x_iconst (pc := 452) d311_452 ?_
          refine x_qVs (pc := 453) c311_157 (qFB hl hI hS (by omega) (by omega) (by omega) (by omega) ⟨by omega, by omega⟩ ⟨by omega, by omega⟩) (ko0 (by omega)) rfl rfl (Nat.le_of_ble_eq_true rfl) (by decide +kernel) (by decide +kernel) d311_453 (fun I hI => ?_)
          refine x_icmp_ne (pc := 456) (tgt := 463) ⟨by omega, by omega⟩ ⟨by omega, by omega⟩ d311_456 (by decide) (fun g456 => ?_) (fun g456 => ?_)
          · refine x_iconst (pc := 463) d311_463 ?_
            refine x_zret (pc := 464) rfl (Or.inl rfl) (fun z => Bool.noConfusion z) d311_464 ?_
            first | exact ⟨I, rfl, hP I hI⟩ | (exfalso; omega)
          · refine x_iconst (pc := 459) d311_459 ?_
            refine x_goto (pc := 460) (tgt := 464) d311_460 (by decide) ?_
            refine x_zret (pc := 464) rfl (Or.inr rfl) (fun z => Bool.noConfusion z) d311_464 ?_
            first | exact ⟨I, rfl, hP I hI⟩ | (exfalso; omega)
    · refine x_iload (pc := 396) rfl d311_396 ?_
      refine x_sipush (pc := 398) (by decide) d311_398 ?_
      refine x_icmp_ne (pc := 401) (tgt := 408) ⟨by omega, by omega⟩ ⟨by omega, by omega⟩ d311_401 (by decide) (fun g401 => ?_) (fun g401 => ?_)
      · refine x_iconst (pc := 408) d311_408 ?_
        refine x_goto (pc := 409) (tgt := 464) d311_409 (by decide) ?_
        refine x_zret (pc := 464) rfl (Or.inl rfl) (fun z => Bool.noConfusion z) d311_464 ?_
        first | exact ⟨I, rfl, hP I hI⟩ | (exfalso; omega)
      · refine x_iconst (pc := 404) d311_404 ?_
        refine x_goto (pc := 405) (tgt := 464) d311_405 (by decide) ?_
        refine x_zret (pc := 464) rfl (Or.inr rfl) (fun z => Bool.noConfusion z) d311_464 ?_
        first | exact ⟨I, rfl, hP I hI⟩ | (exfalso; omega)
theorem a6_e (hl : l.1.stackTraces = false) (hS : GOK S) {P : (Nat → Int → Int) → Prop} (hP : ∀ K, CREL K S → P K) {I : Nat → Int → Int} (hI : CREL I S) {is m many st : Int} (m0 : 0 ≤ m) (m1 : m < gA S 0 5) (hmn : 0 ≤ many ∧ many ≤ 12) (hst : 0 ≤ st ∧ st ≤ 2) (h1 : st = 2 ∧ many ≠ 12) (h2 : is = many) (h3 : many < gA S 0 5) (h4 : gA S 4 many = gA S 4 m) (h5 : gA S 10 (6 * gA S 5 many + 1) = gA S 10 (6 * gA S 5 m + 1)) (ha : (0 ≤ gA S 5 many ∧ gA S 5 many < gA S 0 6) ∧ 3 ≤ gA S 6 (gA S 5 many)) (hb : (0 ≤ gA S 5 m ∧ gA S 5 m < gA S 0 6) ∧ 3 ≤ gA S 6 (gA S 5 m)) : Ex l 311 12 (6 * 12) 381 [some (.ref 0), none, none, none, none, some (.int (iI many)), some (.int (iI m)), some (.int (iI st)), none, none] [.int (iI is)] (mm 181 I v false) (oE 181 v false (some (.int (iI 1))) P) := by
  have h48 := fr48 hS
  obtain ⟨r1, r2, r3, r4, r5, r6, r7, r8, r9, r10⟩ := hS.1.rg
  have hcb := cB_v
  have l1 := (hS.1.msg m m0 m1).1
  have b1 := hS.1.byt (6 * gA S 5 many + 1)
  have b2 := hS.1.byt (6 * gA S 5 m + 1)
  refine x_istore (pc := 381) (by decide +kernel) rfl d311_381 ?_
  dsimp only [List.set]
  refine x_iload (pc := 383) rfl d311_383 ?_
  refine x_iconst (pc := 385) d311_385 ?_
  refine x_icmp_ne (pc := 386) (tgt := 396) ⟨by omega, by omega⟩ ⟨by omega, by omega⟩ d311_386 (by decide) (fun g386 => ?_) (fun g386 => ?_)
  · refine x_iload (pc := 396) rfl d311_396 ?_
    refine x_sipush (pc := 398) (by decide) d311_398 ?_
    refine x_icmp_ne (pc := 401) (tgt := 408) ⟨by omega, by omega⟩ ⟨by omega, by omega⟩ d311_401 (by decide) (fun g401 => ?_) (fun g401 => ?_)
    · refine x_iconst (pc := 408) d311_408 ?_
      refine x_goto (pc := 409) (tgt := 464) d311_409 (by decide) ?_
      refine x_zret (pc := 464) rfl (Or.inl rfl) (fun z => Bool.noConfusion z) d311_464 ?_
      first | exact ⟨I, rfl, hP I hI⟩ | (exfalso; omega)
    · refine x_iconst (pc := 404) d311_404 ?_
      refine x_goto (pc := 405) (tgt := 464) d311_405 (by decide) ?_
      refine x_zret (pc := 464) rfl (Or.inr rfl) (fun z => Bool.noConfusion z) d311_464 ?_
      first | exact ⟨I, rfl, hP I hI⟩ | (exfalso; omega)
  · refine x_iload (pc := 389) rfl d311_389 ?_
    refine x_bipush (pc := 391) (by decide) d311_391 ?_
    refine x_icmp_ne (pc := 393) (tgt := 412) ⟨by omega, by omega⟩ ⟨by omega, by omega⟩ d311_393 (by decide) (fun g393 => ?_) (fun g393 => ?_)
    · refine x_iload (pc := 412) rfl d311_412 ?_
      refine x_iload (pc := 414) rfl d311_414 ?_
      refine x_icmp_ne (pc := 416) (tgt := 463) ⟨by omega, by omega⟩ ⟨by omega, by omega⟩ d311_416 (by decide) (fun g416 => ?_) (fun g416 => ?_)
      · refine x_iconst (pc := 463) d311_463 ?_
        refine x_zret (pc := 464) rfl (Or.inl rfl) (fun z => Bool.noConfusion z) d311_464 ?_
        first | exact ⟨I, rfl, hP I hI⟩ | (exfalso; omega)
      · refine x_aload_n (pc := 419) rfl d311_419 ?_
        refine x_iload (pc := 420) rfl d311_420 ?_
        refine x_qVs (pc := 422) c311_139 (qb (isM_t (by omega) (by omega)) (cm91 hl (by decide) hI hS ⟨by omega, by omega⟩)) (ko0 (by omega)) rfl rfl (Nat.le_of_ble_eq_true rfl) (by decide +kernel) (by decide +kernel) d311_422 (fun I hI => ?_)
        refine x_aload_n (pc := 425) rfl d311_425 ?_
        refine x_iload (pc := 426) rfl d311_426 ?_
        refine x_qVs (pc := 428) c311_139 (qb (isM_t (by omega) (by omega)) (cm91 hl (by decide) hI hS ⟨by omega, by omega⟩)) (ko0 (by omega)) rfl rfl (Nat.le_of_ble_eq_true rfl) (by decide +kernel) (by decide +kernel) d311_428 (fun I hI => ?_)
        refine x_icmp_ne (pc := 431) (tgt := 463) ⟨by omega, by omega⟩ ⟨by omega, by omega⟩ d311_431 (by decide) (fun g431 => ?_) (fun g431 => ?_)
        · refine x_iconst (pc := 463) d311_463 ?_
          refine x_zret (pc := 464) rfl (Or.inl rfl) (fun z => Bool.noConfusion z) d311_464 ?_
          first | exact ⟨I, rfl, hP I hI⟩ | (exfalso; omega)
        · refine x_aload_n (pc := 434) rfl d311_434 ?_
          refine x_aload_n (pc := 435) rfl d311_435 ?_
          refine x_iload (pc := 436) rfl d311_436 ?_
          refine x_qVs (pc := 438) c311_206 (qb (isM_t (by omega) (by omega)) (cm93 hl (by decide) hI hS ⟨by omega, by omega⟩)) (ko0 (by omega)) rfl rfl (Nat.le_of_ble_eq_true rfl) (by decide +kernel) (by decide +kernel) d311_438 (fun I hI => ?_)
          refine x_iconst (pc := 441) d311_441 ?_
          refine x_qVs (pc := 442) c311_157 (qFB hl hI hS (by omega) (by omega) (by omega) (by omega) ⟨by omega, by omega⟩ ⟨by omega, by omega⟩) (ko0 (by omega)) rfl rfl (Nat.le_of_ble_eq_true rfl) (by decide +kernel) (by decide +kernel) d311_442 (fun I hI => ?_)
          refine x_aload_n (pc := 445) rfl d311_445 ?_
          refine x_aload_n (pc := 446) rfl d311_446 ?_
          refine x_iload (pc := 447) rfl d311_447 ?_
          refine x_qVs (pc := 449) c311_206 (qb (isM_t (by omega) (by omega)) (cm93 hl (by decide) hI hS ⟨by omega, by omega⟩)) (ko0 (by omega)) rfl rfl (Nat.le_of_ble_eq_true rfl) (by decide +kernel) (by decide +kernel) d311_449 (fun I hI => ?_)
          refine x_iconst (pc := 452) d311_452 ?_
          refine x_qVs (pc := 453) c311_157 (qFB hl hI hS (by omega) (by omega) (by omega) (by omega) ⟨by omega, by omega⟩ ⟨by omega, by omega⟩) (ko0 (by omega)) rfl rfl (Nat.le_of_ble_eq_true rfl) (by decide +kernel) (by decide +kernel) d311_453 (fun I hI => ?_)
          refine x_icmp_ne (pc := 456) (tgt := 463) ⟨by omega, by omega⟩ ⟨by omega, by omega⟩ d311_456 (by decide) (fun g456 => ?_) (fun g456 => ?_)
          · refine x_iconst (pc := 463) d311_463 ?_
            refine x_zret (pc := 464) rfl (Or.inl rfl) (fun z => Bool.noConfusion z) d311_464 ?_
            first | exact ⟨I, rfl, hP I hI⟩ | (exfalso; omega)
          · refine x_iconst (pc := 459) d311_459 ?_
            refine x_goto (pc := 460) (tgt := 464) d311_460 (by decide) ?_
            refine x_zret (pc := 464) rfl (Or.inr rfl) (fun z => Bool.noConfusion z) d311_464 ?_
            first | exact ⟨I, rfl, hP I hI⟩ | (exfalso; omega)
    · refine x_iload (pc := 396) rfl d311_396 ?_
      refine x_sipush (pc := 398) (by decide) d311_398 ?_
      refine x_icmp_ne (pc := 401) (tgt := 408) ⟨by omega, by omega⟩ ⟨by omega, by omega⟩ d311_401 (by decide) (fun g401 => ?_) (fun g401 => ?_)
      · refine x_iconst (pc := 408) d311_408 ?_
        refine x_goto (pc := 409) (tgt := 464) d311_409 (by decide) ?_
        refine x_zret (pc := 464) rfl (Or.inl rfl) (fun z => Bool.noConfusion z) d311_464 ?_
        first | exact ⟨I, rfl, hP I hI⟩ | (exfalso; omega)
      · refine x_iconst (pc := 404) d311_404 ?_
        refine x_goto (pc := 405) (tgt := 464) d311_405 (by decide) ?_
        refine x_zret (pc := 464) rfl (Or.inr rfl) (fun z => Bool.noConfusion z) d311_464 ?_
        first | exact ⟨I, rfl, hP I hI⟩ | (exfalso; omega)
theorem gv_st {A : AV} {m : Int} (h : stA A m = 0) : stA (gvA A m).2 m = 2 := by
  have h0 : hasA A m 0 = true := by
    unfold stA at h
    cases e : hasA A m 0 with
    | true => rfl
    | false =>
      rw [e, if_neg Bool.false_ne_true] at h
      split at h <;> cases h
  obtain ⟨o1, o2⟩ := gvS_o (A := A) (g := A 5 m) ((A 4 m + 3) / 4).toNat
  have e4 : (gvA A m).2 4 = A 4 := o1 4 (by decide)
  have e5 : (gvA A m).2 5 = A 5 := o1 5 (by decide)
  have key : ∀ j : Nat, ∀ x : Int, A 5 m ≤ x → x < A 5 m + j → A 7 x = 0 → (gvS A (A 5 m) j).2 7 x = 2 := fun j => by
    induction j with
    | zero => intro x a b; omega
    | succ j ih =>
      intro x a b hx
      unfold gvS
      by_cases e : A 7 (A 5 m + j) = 0
      · rw [if_pos e]
        by_cases d : x = A 5 m + j
        · subst d; exact up2_s
        · exact (up2_i d).trans (ih x a (by omega) hx)
      · rw [if_neg e]
        by_cases d : x = A 5 m + j
        · subst d; exact absurd hx e
        · exact ih x a (by omega) hx
  obtain ⟨x, x0, x1, hx⟩ := hasN_ex _ _ h0
  have hx2 := key ((A 4 m + 3) / 4).toNat x x0 (by omega) hx
  have hn : hasA (gvA A m).2 m 0 = false := by
    cases e : hasA (gvA A m).2 m 0 with
    | false => rfl
    | true =>
      obtain ⟨w, w0, w1, hw⟩ := hasN_ex _ _ e
      rw [e4, e5] at w1
      rw [e5] at w0
      rcases o2 w with q | q
      · have hw : (gvS A (A 5 m) ((A 4 m + 3) / 4).toNat).2 7 w = 0 := hw
        have := key ((A 4 m + 3) / 4).toNat w w0 (by omega) (q.symm.trans hw)
        rw [hw] at this
        exact absurd this (by decide)
      · have hw : (gvS A (A 5 m) ((A 4 m + 3) / 4).toNat).2 7 w = 0 := hw
        rw [hw] at q
        exact absurd q (by decide)
  have hy : hasA (gvA A m).2 m 2 = true := by
    have hin : ∀ (n : Nat) (i : Int) (St : Int → Int) (w : Int), i ≤ w → w < i + n → St w = 2 → hasN St 2 n i = true := fun n => by
      induction n with
      | zero => intro i St w a b; omega
      | succ n ih =>
        intro i St w a b hw
        show (decide (St i = 2) || hasN St 2 n (i + 1)) = true
        by_cases d : w = i
        · rw [← d, decide_eq_true hw]; rfl
        · rw [ih (i + 1) St w (by omega) (by omega) hw, Bool.or_true]
    unfold hasA
    rw [e4, e5]
    exact hin _ _ _ x x0 (by omega) hx2
  unfold stA
  rw [hn, hy]
  rfl
def a6A (A : AV) (x y : Int) : AV := if A 0 5 = 0 then A else if y % 2 = 0 then (if stA A (x % A 0 5) = 0 then (gvA A (x % A 0 5)).2 else A) else (if stA A (x % A 0 5) = 2 ∧ A 0 5 < 12 then addA A (txtA A (x % A 0 5)) (A 4 (x % A 0 5)) else A)

theorem act_6 (hl : l.1.stackTraces = false) (hS : GOK S) (hL : gL S = 0) (hPi : PI (gA S)) (hc : gA S 0 7 ≤ 600000) {I : Nat → Int → Int} (hI : CREL I S) (x0 : 0 ≤ x) (x1 : x ≤ 99999) (y0 : 0 ≤ y) (y1 : y ≤ 99999) (z0 : 0 ≤ z) (z1 : z ≤ 99999) : Ex l 311 30 (6 * 30) 22 [some (.ref 0), none, some (.int (iI x)), some (.int (iI y)), some (.int (iI z)), some (.int (iI (gA S 0 5))), some (.int (iI (if gA S 0 5 = 0 then 0 else x % gA S 0 5))), none, none, none] [.int (iI 6)] (mm 181 I v false) (oE 181 v false (some (.int (iI 1))) (AC S (a6A (gA S) x y))) := by
  have h48 := fr48 hS
  obtain ⟨r1, r2, r3, r4, r5, r6, r7, r8, r9, r10⟩ := hS.1.rg
  have hcb := cB_v
  have hxm0 := Int.emod_nonneg x (b := gA S 0 5)
  have hxm1 := Int.emod_lt_of_pos x (b := gA S 0 5)
  have hMS : gA S 0 5 ≠ 0 → (if gA S 0 5 = 0 then 0 else x % gA S 0 5) = x % gA S 0 5 := fun h => if_neg h
  have hsr := stA_r (gA S) (x % gA S 0 5)
  by_cases d0 : gA S 0 5 = 0
  · have ea : a6A (gA S) x y = gA S := if_pos d0
    rw [ea]
    refine x_tabIn (pc := 22) (tgt := 276) ⟨by omega, by omega⟩ d311_22 (by decide) (by decide) rfl (by decide) ?_
    refine x_iload (pc := 276) rfl d311_276 ?_
    refine x_if_ne (pc := 278) (tgt := 305) ⟨by omega, by omega⟩ d311_278 (by decide) (fun g278 => ?_) (fun g278 => ?_)
    · refine x_mask [true, true, false, true, false, true, true, true, true, true] ?_
      dsimp only [mask]
      exfalso; omega
    · refine x_aload_n (pc := 281) rfl d311_281 ?_
      refine x_iconst (pc := 282) d311_282 ?_
      refine x_iload_n (pc := 283) rfl d311_283 ?_
      refine x_iconst (pc := 284) d311_284 ?_
      refine x_irem (pc := 285) (by omega) (by omega) (by omega) (by omega) d311_285 ?_
      refine x_iadd (pc := 286) d311_286 ?_
      refine x_iconst (pc := 287) d311_287 ?_
      refine x_iconst (pc := 288) d311_288 ?_
      refine x_iconst (pc := 289) d311_289 ?_
      refine x_mask [false, true, false, false, false, false, false, true, true, true] ?_
      dsimp only [mask]
      refine ex_le (B' := 5 + 1) (by omega) rfl ?_
      by_cases d : y % 2 = 0
      · rw [d, show (2 : Int) + 0 = 2 from rfl]
        refine x_qW (pc := 290) (B0 := 1) (As := [.ref 0, .int (iI 2), .int (iI 0), .int (iI 0), .int (iI 0)]) (rest := []) c311_240 (dd_no (ct_do2 hl (E := fun c => if c = 1 then 2 else 1) (r := oCancel S 0) (by by_cases e : (oCancel S 0).1 = 1 <;> simp [e]) (cm129 (v := v) hl (by decide) hI hS ⟨by omega, by omega⟩)) (by unfold oCancel; rw [if_neg (by omega)]) (by decide) rfl) rfl rfl (Nat.le_of_ble_eq_true rfl) (by decide +kernel) (by decide +kernel) d311_290 (fun K hK => ?_)
        refine x_val (pc := 293) (w := -1001) (by decide) ?_
        refine x_sipush (pc := 293) (by decide) d311_293 ?_
        refine x_icmp_ne (pc := 296) (tgt := 303) ⟨by omega, by omega⟩ ⟨by omega, by omega⟩ d311_296 (by decide) (fun z => absurd rfl z) (fun _ => ?_)
        refine x_iconst (pc := 299) d311_299 ?_
        refine x_goto (pc := 300) (tgt := 304) d311_300 (by decide) ?_
        exact x_zret rfl (Or.inr rfl) (fun z => Bool.noConfusion z) d311_304 ⟨K, rfl, ac_no hS hL hK⟩
      · rw [show (2 : Int) + y % 2 = 3 from by omega]
        refine x_qW (pc := 290) (B0 := 1) (As := [.ref 0, .int (iI 3), .int (iI 0), .int (iI 0), .int (iI 0)]) (rest := []) c311_240 (dd_no (ct_do3 hl (E := fun c => if c = 1 then 2 else 1) (r := oResend S 0) (by by_cases e : (oResend S 0).1 = 1 <;> simp [e]) (cm130 (v := v) hl (by decide) hI hS ⟨by omega, by omega⟩)) (by unfold oResend; rw [if_neg (by omega)]) (by decide) rfl) rfl rfl (Nat.le_of_ble_eq_true rfl) (by decide +kernel) (by decide +kernel) d311_290 (fun K hK => ?_)
        refine x_val (pc := 293) (w := -1001) (by decide) ?_
        refine x_sipush (pc := 293) (by decide) d311_293 ?_
        refine x_icmp_ne (pc := 296) (tgt := 303) ⟨by omega, by omega⟩ ⟨by omega, by omega⟩ d311_296 (by decide) (fun z => absurd rfl z) (fun _ => ?_)
        refine x_iconst (pc := 299) d311_299 ?_
        refine x_goto (pc := 300) (tgt := 304) d311_300 (by decide) ?_
        exact x_zret rfl (Or.inr rfl) (fun z => Bool.noConfusion z) d311_304 ⟨K, rfl, ac_no hS hL hK⟩
  · rw [hMS d0]
    obtain ⟨m, hm⟩ : ∃ m, m = x % gA S 0 5 := ⟨_, rfl⟩
    rw [← hm] at hxm0 hxm1 hsr ⊢
    have m0 : 0 ≤ m := hxm0 d0
    have m1 : m < gA S 0 5 := hxm1 (by omega)
    have hml := hS.1.msg m m0 m1
    refine x_tabIn (pc := 22) (tgt := 276) ⟨by omega, by omega⟩ d311_22 (by decide) (by decide) rfl (by decide) ?_
    refine x_iload (pc := 276) rfl d311_276 ?_
    refine x_if_ne (pc := 278) (tgt := 305) ⟨by omega, by omega⟩ d311_278 (by decide) (fun g278 => ?_) (fun g278 => ?_)
    · refine x_aload_n (pc := 305) rfl d311_305 ?_
      refine x_iload (pc := 306) rfl d311_306 ?_
      refine x_qVs (pc := 308) c311_142 (qb (isM_t (by omega) (by omega)) (cm92 hl (by decide) hI hS ⟨by omega, by omega⟩)) (ko0 (by omega)) rfl rfl (Nat.le_of_ble_eq_true rfl) (by decide +kernel) (by decide +kernel) d311_308 (fun I hI => ?_)
      refine x_istore (pc := 311) (by decide +kernel) rfl d311_311 ?_
      dsimp only [List.set]
      refine x_iload_n (pc := 313) rfl d311_313 ?_
      refine x_iconst (pc := 314) d311_314 ?_
      refine x_irem (pc := 315) (by omega) (by omega) (by omega) (by omega) d311_315 ?_
      refine x_if_ne (pc := 316) (tgt := 372) ⟨by omega, by omega⟩ d311_316 (by decide) (fun g316 => ?_) (fun g316 => ?_)
      · refine x_aload_n (pc := 372) rfl d311_372 ?_
        refine x_iconst (pc := 373) d311_373 ?_
        refine x_iload (pc := 374) rfl d311_374 ?_
        refine x_iconst (pc := 376) d311_376 ?_
        refine x_iconst (pc := 377) d311_377 ?_
        refine x_mask [true, true, false, false, false, true, true, true, true, true] ?_
        dsimp only [mask]
        refine ex_le (B' := 12 + 1) (by omega) rfl ?_
        have eb : a6A (gA S) x y = if stA (gA S) m = 2 ∧ gA S 0 5 < 12 then addA (gA S) (txtA (gA S) m) (gA S 4 m) else gA S := by
          unfold a6A
          rw [if_neg d0, if_neg (by omega), ← hm]
        by_cases g : stA (gA S) m = 2 ∧ gA S 0 5 < 12
        · rw [eb, if_pos g]
          obtain ⟨a1, a2, a3, a4, a5, a6, a7, a8, a9, a10⟩ := add_ok (B := txtA (gA S) m) (n := gA S 4 m) hS.1 hPi hml.1
          refine x_qW (pc := 378) (B0 := 1) (As := [.ref 0, .int (iI 3), .int (iI m), .int (iI 0), .int (iI 0)]) (rest := []) c311_240 (dd_do (ct_do3 hl (E := fun c => if c = 1 then 2 else 1) (r := oResend S m) (by by_cases e : (oResend S m).1 = 1 <;> simp [e]) (cm130 (v := v) hl (by decide) hI hS ⟨by omega, by omega⟩)) (by unfold oResend; rw [if_pos ⟨m0, m1⟩, if_pos ⟨(if_pos ⟨m0, m1⟩ : stD (gA S) m = stA (gA S) m).trans g.1, g.2⟩]) hS (gok_resend hS) hL) rfl rfl (Nat.le_of_ble_eq_true rfl) (by decide +kernel) (by decide +kernel) d311_378 (fun K hK => ?_)
          obtain ⟨S2, m1', m2, m3, m4, m5⟩ := hK
          have hf2 := m2.1.frm
          have hpos := (hS.1.frm (gA S 5 m) hml.2.1 (by omega)).1
          have q6 := (hf2 (gA S 0 6) (by omega) (by rw [m4, a8]; omega)).1
          refine a6_e hl m2 (fun K h => ⟨S2, h, m2, m3, m4, Or.inr m5⟩) m1' m0 (by rw [m4, a2]; omega) (by omega) hsr ⟨g.1, by omega⟩ rfl (by rw [m4, a2]; omega) ?_ ?_ ?_ ?_
          · rw [m4, a4, (a9 m m1).1]
          · rw [m4, a5, a7, (a9 m m1).2, a10 (gA S 5 m) 1 (by omega) (by decide)]
            show gA S 10 (6 * (gA S 5 m + 0 / 4) + 1 + 0 % 4) = _
            congr 1
            omega
          · rw [show gA S2 5 (gA S 0 5) = gA S 0 6 from by rw [m4, a5]]
            exact ⟨⟨by omega, by rw [m4, a8]; omega⟩, q6.1⟩
          · have e5 : gA S2 5 m = gA S 5 m := by rw [m4]; exact (a9 m m1).2
            rw [e5]
            exact ⟨⟨hml.2.1, by rw [m4, a8]; omega⟩, (hf2 (gA S 5 m) hml.2.1 (by rw [m4, a8]; omega)).1.1⟩
        · rw [eb, if_neg g]
          refine x_qW (pc := 378) (B0 := 1) (As := [.ref 0, .int (iI 3), .int (iI m), .int (iI 0), .int (iI 0)]) (rest := []) c311_240 (dd_no (ct_do3 hl (E := fun c => if c = 1 then 2 else 1) (r := oResend S m) (by by_cases e : (oResend S m).1 = 1 <;> simp [e]) (cm130 (v := v) hl (by decide) hI hS ⟨by omega, by omega⟩)) (by unfold oResend; rw [if_pos ⟨m0, m1⟩, if_neg (by rw [show stD (gA S) m = stA (gA S) m from if_pos ⟨m0, m1⟩]; exact g)]) (by decide) rfl) rfl rfl (Nat.le_of_ble_eq_true rfl) (by decide +kernel) (by decide +kernel) d311_378 (fun K hK => ?_)
          refine a6_d hl hS (fun K h => ac_no hS hL h) hK m0 m1 (by omega) hsr (by omega) rfl
      · refine x_aload_n (pc := 319) rfl d311_319 ?_
        refine x_iconst (pc := 320) d311_320 ?_
        refine x_iload (pc := 321) rfl d311_321 ?_
        refine x_iconst (pc := 323) d311_323 ?_
        refine x_iconst (pc := 324) d311_324 ?_
        refine x_mask [true, true, false, false, false, false, true, true, true, true] ?_
        dsimp only [mask]
        refine ex_le (B' := 12 + 1) (by omega) rfl ?_
        have eb : a6A (gA S) x y = if stA (gA S) m = 0 then (gvA (gA S) m).2 else gA S := by
          unfold a6A
          rw [if_neg d0, if_pos (by omega), ← hm]
        have hgr := gvS_r (A := gA S) (g := gA S 5 m) ((gA S 4 m + 3) / 4).toNat
        have eD : stD (gA S) m = stA (gA S) m := if_pos ⟨m0, m1⟩
        by_cases g : stA (gA S) m = 0
        · rw [eb, if_pos g]
          have hgp := gv_pos (A := gA S) (m := m) (eD.trans g)
          have hg2 : 0 < (gvA (gA S) m).1 ∧ (gvA (gA S) m).1 ≤ (((gA S 4 m + 3) / 4).toNat : Int) := ⟨hgp, hgr.2⟩
          refine x_qW (pc := 325) (B0 := 1) (As := [.ref 0, .int (iI 2), .int (iI m), .int (iI 0), .int (iI 0)]) (rest := []) c311_240 (dd_do (ct_do2 hl (E := fun c => if c = 1 then 2 else 1) (r := oCancel S m) (by by_cases e : (oCancel S m).1 = 1 <;> simp [e]) (cm129 (v := v) hl (by decide) hI hS ⟨by omega, by omega⟩)) (by unfold oCancel; rw [if_pos ⟨m0, m1⟩, if_pos (eD.trans g)]) hS (gok_cancel hS) hL) rfl rfl (Nat.le_of_ble_eq_true rfl) (by decide +kernel) (by decide +kernel) d311_325 (fun K hK => ?_)
          obtain ⟨S2, m1', m2, m3, m4, m5⟩ := hK
          refine a6_c hl m2 (fun K h => ⟨S2, h, m2, m3, m4, Or.inr m5⟩) m1' m0 ?_ (fun h => absurd g h) (fun _ => ⟨hgp, by rw [m4]; exact gv_st g⟩) hsr (by omega)
          rw [m4]
          show m < (gvS (gA S) (gA S 5 m) ((gA S 4 m + 3) / 4).toNat).2 0 5
          rw [gvS_k (by decide)]
          exact m1
        · rw [eb, if_neg g]
          refine x_qW (pc := 325) (B0 := 1) (As := [.ref 0, .int (iI 2), .int (iI m), .int (iI 0), .int (iI 0)]) (rest := []) c311_240 (dd_no (ct_do2 hl (E := fun c => if c = 1 then 2 else 1) (r := oCancel S m) (by by_cases e : (oCancel S m).1 = 1 <;> simp [e]) (cm129 (v := v) hl (by decide) hI hS ⟨by omega, by omega⟩)) (by unfold oCancel; rw [if_pos ⟨m0, m1⟩, if_neg (by rw [eD]; exact g)]) (by decide) rfl) rfl rfl (Nat.le_of_ble_eq_true rfl) (by decide +kernel) (by decide +kernel) d311_325 (fun K hK => ?_)
          refine a6_c hl hS (fun K h => ac_no hS hL h) hK m0 m1 (fun _ => rfl) (fun h => absurd h g) hsr (by decide)
    · refine x_aload_n (pc := 281) rfl d311_281 ?_
      refine x_iconst (pc := 282) d311_282 ?_
      refine x_iload_n (pc := 283) rfl d311_283 ?_
      refine x_iconst (pc := 284) d311_284 ?_
      refine x_irem (pc := 285) (by omega) (by omega) (by omega) (by omega) d311_285 ?_
      refine x_iadd (pc := 286) d311_286 ?_
      refine x_iconst (pc := 287) d311_287 ?_
      refine x_iconst (pc := 288) d311_288 ?_
      refine x_iconst (pc := 289) d311_289 ?_
      refine x_mask [false, true, false, false, false, false, false, true, true, true] ?_
      dsimp only [mask]
      exfalso; omega
end Acts2
