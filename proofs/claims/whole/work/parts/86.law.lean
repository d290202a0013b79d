/-! ===== the law: one call on both sides ===== -/
theorem CREL.lt {I K : Nat → Int → Int} {S : GS} (h : CREL I S) (hh : ∀ a, a < 181 → K a = I a) : CREL K S :=
  ⟨h.1.cg fun a h0 h1 => hh a (by omega), h.2.1.cg (hh 14 (by decide)) fun a h0 h1 => hh a (by omega), h.2.2.1.cg (by rw [hh 0 (by decide)]) fun a h0 h1 => hh a (by omega), h.2.2.2.1.cg fun a h0 h1 => hh a (by omega), h.2.2.2.2.1.cg (hh 1 (by decide)) (hh 2 (by decide)), h.2.2.2.2.2.1.cg (by rw [hh 5 (by decide)]) (by rw [hh 5 (by decide)]), h.2.2.2.2.2.2.cg (hh 3 (by decide)) (hh 4 (by decide))⟩
theorem RREL.ge {I K : Nat → Int → Int} {S : GS} (h : RREL I S) (hh : ∀ a, 181 ≤ a → K a = I a) : RREL K S := by
  obtain ⟨h1, ⟨a1, a2⟩, ⟨b1, b2⟩, ⟨c1, c2⟩, ⟨d1, d2⟩, ⟨e1, e2⟩⟩ := h
  have f := hh 181 (by decide)
  exact ⟨by rw [hh 182 (by decide)]; exact h1, ⟨by rw [f]; exact a1, by rw [hh 186 (by decide)]; exact a2⟩, ⟨by rw [f]; exact b1, by rw [hh 183 (by decide)]; exact b2⟩, ⟨by rw [f]; exact c1, by rw [hh 189 (by decide)]; exact c2⟩, ⟨by rw [f]; exact d1, by rw [f]; exact d2⟩, ⟨by rw [f]; exact e1, by rw [hh 191 (by decide)]; exact e2⟩⟩
/-- an int of the script -/
def scV (l : LX) (i : Int) : Int := (iI (l.2.2 i.toNat)).toInt
theorem tI_r (x : Int32) : InR x.toInt := by
  have h1 := Int32.le_toInt x
  have h2 := Int32.toInt_lt x
  exact ⟨by omega, by omega⟩
theorem scV_r (l : LX) (i : Int) : InR (scV l i) := tI_r _
section LawRows
variable {l : LX} {y k n pc q : Nat} {L : LL} {st : List Value} {σ : MM} {Q : OO → Prop} {I : Nat → Int → Int} {v : Int} {fr : Bool}
theorem x_sldR {i : Int} (h0 : 0 ≤ i) (h9 : i < l.2.1) (hm : i ≤ 2147483647) (hd : decode (cdN y) pc = .ok (.iaload, 1)) (kk : Ex l y k n (pc + 1) L (.int (iI (scV l i)) :: st) σ Q) : Ex l y k n pc L (.int (iI i) :: .ref scr :: st) σ Q :=
  x_sld h0 h9 hm hd (by rw [← iI_self (iI (l.2.2 i.toNat))]; exact kk)
theorem x_same {off : Int} {tgt : Nat} {a : Int} (hd : decode (cdN y) pc = .ok (.if_icmp .eq off, 3)) (ht : (pc : Int) + off = (tgt : Int)) (kt : Ex l y k n tgt L st σ Q) : Ex l y k n pc L (.int (iI a) :: .int (iI a) :: st) σ Q := by
  have := x_icmp_eq (a := (iI a).toInt) (b := (iI a).toInt) (l := l) (y := y) (k := k) (n := n) (L := L) (st := st) (σ := σ) (Q := Q) (tI_r _) (tI_r _) hd ht (fun _ => kt) (fun z => absurd rfl z)
  rw [iI_self] at this
  exact this
theorem x_lsame {off : Int} {tgt : Nat} {a : Int} (ha : InR a) (hd : decode (cdN y) pc = .ok (.lcmp, 1)) (hd2 : decode (cdN y) (pc + 1) = .ok (.ifCond .eq off, 3)) (ht : ((pc + 1 : Nat) : Int) + off = (tgt : Int)) (kt : Ex l y k n tgt L st σ Q) : Ex l y k n pc L (.long (lL a) :: .long (lL a) :: st) σ Q := by
  obtain ⟨h1, h2⟩ := ha
  exact x_lc_eq (a := a) (b := a) ⟨by omega, by omega⟩ ⟨by omega, by omega⟩ hd hd2 ht (fun _ => kt) (fun z => absurd rfl z)
theorem rt_thrown (hl : l.1.stackTraces = false) (hq : 193 ≤ q) {c : Int} (h : I 181 6 = c) : DT l 147 [.ref 181] (mm q I v fr) 0 0 (.inl (some (.int (iI c))), mm q I v fr) := by
  subst h
  refine mkdt hl (by decide) (Nat.le_of_ble_eq_true rfl) (L := [some (.ref 181)]) rfl ?_
  refine x_aload_n (pc := 0) rfl d147_0 ?_
  refine m_getI (pc := 1) (z := 6) f147_65 (by decide +kernel) rfl (xo181 (by omega)) d147_1 ?_
  refine x_iret (pc := 4) rfl (fun _ => rfl) d147_4 ?_
  first | rfl | (exfalso; omega)
end LawRows
/-- the law's locals at the head of its loop -/
def lawL (i : Int) : LL := [some (.ref scr), some (.ref 0), some (.ref 181), some (.ref 192), some (.int (iI i)), none, none, none, none]
section Law
variable {l : LX} {q : Nat} {K : Nat → Int → Int} {v : Int} {S : GS}
theorem cs0 {k n : Nat} (hl : l.1.stackTraces = false) (hq : 193 ≤ q) (hC : CREL K S) (hR : RREL K S) (hS : GOK S) {i : Int} (i0 : 0 ≤ i) (i6 : i + 6 ≤ l.2.1) (hlen : (l.2.1 : Int) ≤ 2147483647) {Q : OO → Prop} (hn : ∀ (K2 : Nat → Int → Int) (v2 : Int) (S2 : GS), CREL K2 S2 → RREL K2 S2 → GOK S2 → Ex l 332 k n 3032 (lawL i) [] (mm q K2 v2 false) Q) : Ex l 332 (1 + k) (6 + n) 312 (lawL i) [] (mm q K v false) Q := by
  unfold lawL at hn ⊢
  have hcd : (oAppend S (scV l (i + 1)) (scV l (i + 2)) (scV l (i + 3)) (scV l (i + 4)) (scV l (i + 5))).1 = 0 ∨ (oAppend S (scV l (i + 1)) (scV l (i + 2)) (scV l (i + 3)) (scV l (i + 4)) (scV l (i + 5))).1 = 1 := by
    unfold oAppend
    repeat (first | exact Or.inl rfl | exact Or.inr rfl | split)
  have hG : GOK (oAppend S (scV l (i + 1)) (scV l (i + 2)) (scV l (i + 3)) (scV l (i + 4)) (scV l (i + 5))).2.2 := gok_append hS
  have w1 := wr294 (q := q) (v := v) hl hq hC hS  (a := (scV l (i + 1))) (b := (scV l (i + 2))) (c := (scV l (i + 3))) (d := (scV l (i + 4))) (e := (scV l (i + 5)))
  have w2 : ∀ (K1 : Nat → Int → Int) (v1 : Int), RREL K1 S → CT l 200 [.ref 181, .int (iI (scV l (i + 1))), .int (iI (scV l (i + 2))), .int (iI (scV l (i + 3))), .int (iI (scV l (i + 4))), .int (iI (scV l (i + 5)))] (mm q K1 v1 false) 0 0 (RQ q v1 false K1 (oAppend S (scV l (i + 1)) (scV l (i + 2)) (scV l (i + 3)) (scV l (i + 4)) (scV l (i + 5)))) := fun K1 v1 hR1 => rm200 hl (by omega) hR1 hS (scV_r l (i + 1)) (scV_r l (i + 2)) (scV_r l (i + 3)) (scV_r l (i + 4)) (scV_r l (i + 5))
  generalize (oAppend S (scV l (i + 1)) (scV l (i + 2)) (scV l (i + 3)) (scV l (i + 4)) (scV l (i + 5))) = r at w1 w2 hcd hG
  refine x_aload_n (pc := 312) rfl d332_312 ?_
  refine x_aload_n (pc := 313) rfl d332_313 ?_
  refine x_iload (pc := 314) rfl d332_314 ?_
  refine x_iconst (pc := 316) d332_316 ?_
  refine x_iadd (pc := 317) d332_317 ?_
  refine x_sldR (pc := 318) (by omega) (by omega) (by omega) d332_318 ?_
  refine x_aload_n (pc := 319) rfl d332_319 ?_
  refine x_iload (pc := 320) rfl d332_320 ?_
  refine x_iconst (pc := 322) d332_322 ?_
  refine x_iadd (pc := 323) d332_323 ?_
  refine x_sldR (pc := 324) (by omega) (by omega) (by omega) d332_324 ?_
  refine x_aload_n (pc := 325) rfl d332_325 ?_
  refine x_iload (pc := 326) rfl d332_326 ?_
  refine x_iconst (pc := 328) d332_328 ?_
  refine x_iadd (pc := 329) d332_329 ?_
  refine x_sldR (pc := 330) (by omega) (by omega) (by omega) d332_330 ?_
  refine x_aload_n (pc := 331) rfl d332_331 ?_
  refine x_iload (pc := 332) rfl d332_332 ?_
  refine x_iconst (pc := 334) d332_334 ?_
  refine x_iadd (pc := 335) d332_335 ?_
  refine x_sldR (pc := 336) (by omega) (by omega) (by omega) d332_336 ?_
  refine x_aload_n (pc := 337) rfl d332_337 ?_
  refine x_iload (pc := 338) rfl d332_338 ?_
  refine x_iconst (pc := 340) d332_340 ?_
  refine x_iadd (pc := 341) d332_341 ?_
  refine x_sldR (pc := 342) (by omega) (by omega) (by omega) d332_342 ?_
  refine x_aload_n (pc := 343) rfl d332_343 ?_
  refine x_callSW (k := k) (n := n) (pc := 344) c332_140 w1 rfl rfl (Nat.le_of_ble_eq_true rfl) (by decide +kernel) (by decide +kernel) d332_344 (Or.inr fun v9 τ h9 => ?_) (fun v9 τ h9 => ?_) (fun E9 τ h9 _ => ?_)
  · obtain ⟨K1, v1, e, _⟩ := h9; cases e; rfl
  · obtain ⟨K1, v1, e, hC1, hk1, hv1⟩ := h9
    cases e
    show Ex l 332 k n 347 _ [.int (iI r.1)] _ _
    refine x_istore (pc := 347) (by decide +kernel) rfl d332_347 ?_
    dsimp only [List.set]
    refine x_aload_n (pc := 349) rfl d332_349 ?_
    refine x_aload_n (pc := 350) rfl d332_350 ?_
    refine x_iload (pc := 351) rfl d332_351 ?_
    refine x_iconst (pc := 353) d332_353 ?_
    refine x_iadd (pc := 354) d332_354 ?_
    refine x_sldR (pc := 355) (by omega) (by omega) (by omega) d332_355 ?_
    refine x_aload_n (pc := 356) rfl d332_356 ?_
    refine x_iload (pc := 357) rfl d332_357 ?_
    refine x_iconst (pc := 359) d332_359 ?_
    refine x_iadd (pc := 360) d332_360 ?_
    refine x_sldR (pc := 361) (by omega) (by omega) (by omega) d332_361 ?_
    refine x_aload_n (pc := 362) rfl d332_362 ?_
    refine x_iload (pc := 363) rfl d332_363 ?_
    refine x_iconst (pc := 365) d332_365 ?_
    refine x_iadd (pc := 366) d332_366 ?_
    refine x_sldR (pc := 367) (by omega) (by omega) (by omega) d332_367 ?_
    refine x_aload_n (pc := 368) rfl d332_368 ?_
    refine x_iload (pc := 369) rfl d332_369 ?_
    refine x_iconst (pc := 371) d332_371 ?_
    refine x_iadd (pc := 372) d332_372 ?_
    refine x_sldR (pc := 373) (by omega) (by omega) (by omega) d332_373 ?_
    refine x_aload_n (pc := 374) rfl d332_374 ?_
    refine x_iload (pc := 375) rfl d332_375 ?_
    refine x_iconst (pc := 377) d332_377 ?_
    refine x_iadd (pc := 378) d332_378 ?_
    refine x_sldR (pc := 379) (by omega) (by omega) (by omega) d332_379 ?_
    refine ex_00 (x_callV (pc := 380) c332_145 (w2 K1 v1 (hR.ge hk1)) (xo181 (by omega)) rfl rfl (Nat.le_of_ble_eq_true rfl) (by decide +kernel) (by decide +kernel) d332_380 (Or.inr fun v9 τ h9 => ?_) (fun v9 τ h9 => ?_) (fun E9 τ h9 _ => ?_))
    · obtain ⟨z, K2, e, _⟩ := h9; cases e; rfl
    · obtain ⟨z, K2, e, h6, hz2, hR2, hk2⟩ := h9
      cases e
      have hC2 : CREL K2 r.2.2 := hC1.lt fun a ha => hk2 a (Or.inl ha)
      show Ex l 332 k n 383 _ [.int (iI z)] _ _
      refine x_istore (pc := 383) (by decide +kernel) rfl d332_383 ?_
      dsimp only [List.set]
      refine x_aload_n (pc := 385) rfl d332_385 ?_
      refine x_cVs (pc := 386) c332_146 (rt_thrown hl hq h6) (xo181 (by omega)) rfl rfl (Nat.le_of_ble_eq_true rfl) (by decide +kernel) (by decide +kernel) rfl d332_386 ?_
      refine x_iload (pc := 389) rfl d332_389 ?_
      refine x_same (pc := 391) (tgt := 396) d332_391 (by decide) ?_
      refine x_iload (pc := 396) rfl d332_396 ?_
      refine x_if_ne (pc := 398) (tgt := 413) ⟨by omega, by omega⟩ d332_398 (by decide) (fun g => ?_) (fun g => ?_)
      · refine x_goto (pc := 413) (tgt := 3032) d332_413 (by decide) ?_
        refine x_mask [true, true, true, true, true, false, false, false, false] ?_
        dsimp only [mask]
        exact hn K2 _ _ hC2 hR2 hG
      · have hzz : z = r.2.1 := hz2 g
        have hvv := hv1 g
        subst hzz
        refine x_aload_n (pc := 401) rfl d332_401 ?_
        refine x_iconst (pc := 402) d332_402 ?_
        refine m_lald (pc := 403) (by omega) (by decide +kernel) d332_403 ?_
        refine x_iload (pc := 404) rfl d332_404 ?_
        refine x_i2lA (pc := 406) d332_406 ?_
        rw [hvv]
        refine x_lsame (pc := 407) (tgt := 413) (tI_r _) d332_407 d332_408 (by decide) ?_
        refine x_goto (pc := 413) (tgt := 3032) d332_413 (by decide) ?_
        refine x_mask [true, true, true, true, true, false, false, false, false] ?_
        dsimp only [mask]
        exact hn K2 _ _ hC2 hR2 hG
    · obtain ⟨z, K2, e, _⟩ := h9; cases e
  · obtain ⟨K1, v1, e, _⟩ := h9; cases e
theorem cs1 {k n : Nat} (hl : l.1.stackTraces = false) (hq : 193 ≤ q) (hC : CREL K S) (hR : RREL K S) (hS : GOK S) {i : Int} (i0 : 0 ≤ i) (i6 : i + 6 ≤ l.2.1) (hlen : (l.2.1 : Int) ≤ 2147483647) {Q : OO → Prop} (hn : ∀ (K2 : Nat → Int → Int) (v2 : Int) (S2 : GS), CREL K2 S2 → RREL K2 S2 → GOK S2 → Ex l 332 k n 3032 (lawL i) [] (mm q K2 v2 false) Q) : Ex l 332 (1 + k) (6 + n) 416 (lawL i) [] (mm q K v false) Q := by
  unfold lawL at hn ⊢
  have hcd : (oTruncate S (scV l (i + 1))).1 = 0 ∨ (oTruncate S (scV l (i + 1))).1 = 1 := by
    unfold oTruncate
    repeat (first | exact Or.inl rfl | exact Or.inr rfl | split)
  have hG : GOK (oTruncate S (scV l (i + 1))).2.2 := gok_truncate hS
  have w1 := wr295 (q := q) (v := v) hl hq hC hS (scV_r l (i + 1))
  have w2 : ∀ (K1 : Nat → Int → Int) (v1 : Int), RREL K1 S → CT l 201 [.ref 181, .int (iI (scV l (i + 1)))] (mm q K1 v1 false) 0 0 (RQ q v1 false K1 (oTruncate S (scV l (i + 1)))) := fun K1 v1 hR1 => rm201 hl (by omega) hR1 hS (scV_r l (i + 1))
  generalize (oTruncate S (scV l (i + 1))) = r at w1 w2 hcd hG
  refine x_aload_n (pc := 416) rfl d332_416 ?_
  refine x_aload_n (pc := 417) rfl d332_417 ?_
  refine x_iload (pc := 418) rfl d332_418 ?_
  refine x_iconst (pc := 420) d332_420 ?_
  refine x_iadd (pc := 421) d332_421 ?_
  refine x_sldR (pc := 422) (by omega) (by omega) (by omega) d332_422 ?_
  refine x_aload_n (pc := 423) rfl d332_423 ?_
  refine x_callSW (k := k) (n := n) (pc := 424) c332_149 w1 rfl rfl (Nat.le_of_ble_eq_true rfl) (by decide +kernel) (by decide +kernel) d332_424 (Or.inr fun v9 τ h9 => ?_) (fun v9 τ h9 => ?_) (fun E9 τ h9 _ => ?_)
  · obtain ⟨K1, v1, e, _⟩ := h9; cases e; rfl
  · obtain ⟨K1, v1, e, hC1, hk1, hv1⟩ := h9
    cases e
    show Ex l 332 k n 427 _ [.int (iI r.1)] _ _
    refine x_istore (pc := 427) (by decide +kernel) rfl d332_427 ?_
    dsimp only [List.set]
    refine x_aload_n (pc := 429) rfl d332_429 ?_
    refine x_aload_n (pc := 430) rfl d332_430 ?_
    refine x_iload (pc := 431) rfl d332_431 ?_
    refine x_iconst (pc := 433) d332_433 ?_
    refine x_iadd (pc := 434) d332_434 ?_
    refine x_sldR (pc := 435) (by omega) (by omega) (by omega) d332_435 ?_
    refine ex_00 (x_callV (pc := 436) c332_152 (w2 K1 v1 (hR.ge hk1)) (xo181 (by omega)) rfl rfl (Nat.le_of_ble_eq_true rfl) (by decide +kernel) (by decide +kernel) d332_436 (Or.inr fun v9 τ h9 => ?_) (fun v9 τ h9 => ?_) (fun E9 τ h9 _ => ?_))
    · obtain ⟨z, K2, e, _⟩ := h9; cases e; rfl
    · obtain ⟨z, K2, e, h6, hz2, hR2, hk2⟩ := h9
      cases e
      have hC2 : CREL K2 r.2.2 := hC1.lt fun a ha => hk2 a (Or.inl ha)
      show Ex l 332 k n 439 _ [.int (iI z)] _ _
      refine x_istore (pc := 439) (by decide +kernel) rfl d332_439 ?_
      dsimp only [List.set]
      refine x_aload_n (pc := 441) rfl d332_441 ?_
      refine x_cVs (pc := 442) c332_146 (rt_thrown hl hq h6) (xo181 (by omega)) rfl rfl (Nat.le_of_ble_eq_true rfl) (by decide +kernel) (by decide +kernel) rfl d332_442 ?_
      refine x_iload (pc := 445) rfl d332_445 ?_
      refine x_same (pc := 447) (tgt := 452) d332_447 (by decide) ?_
      refine x_iload (pc := 452) rfl d332_452 ?_
      refine x_if_ne (pc := 454) (tgt := 469) ⟨by omega, by omega⟩ d332_454 (by decide) (fun g => ?_) (fun g => ?_)
      · refine x_goto (pc := 469) (tgt := 3032) d332_469 (by decide) ?_
        refine x_mask [true, true, true, true, true, false, false, false, false] ?_
        dsimp only [mask]
        exact hn K2 _ _ hC2 hR2 hG
      · have hzz : z = r.2.1 := hz2 g
        have hvv := hv1 g
        subst hzz
        refine x_aload_n (pc := 457) rfl d332_457 ?_
        refine x_iconst (pc := 458) d332_458 ?_
        refine m_lald (pc := 459) (by omega) (by decide +kernel) d332_459 ?_
        refine x_iload (pc := 460) rfl d332_460 ?_
        refine x_i2lA (pc := 462) d332_462 ?_
        rw [hvv]
        refine x_lsame (pc := 463) (tgt := 469) (tI_r _) d332_463 d332_464 (by decide) ?_
        refine x_goto (pc := 469) (tgt := 3032) d332_469 (by decide) ?_
        refine x_mask [true, true, true, true, true, false, false, false, false] ?_
        dsimp only [mask]
        exact hn K2 _ _ hC2 hR2 hG
    · obtain ⟨z, K2, e, _⟩ := h9; cases e
  · obtain ⟨K1, v1, e, _⟩ := h9; cases e
theorem cs2 {k n : Nat} (hl : l.1.stackTraces = false) (hq : 193 ≤ q) (hC : CREL K S) (hR : RREL K S) (hS : GOK S) {i : Int} (i0 : 0 ≤ i) (i6 : i + 6 ≤ l.2.1) (hlen : (l.2.1 : Int) ≤ 2147483647) {Q : OO → Prop} (hn : ∀ (K2 : Nat → Int → Int) (v2 : Int) (S2 : GS), CREL K2 S2 → RREL K2 S2 → GOK S2 → Ex l 332 k n 3032 (lawL i) [] (mm q K2 v2 false) Q) : Ex l 332 (1 + k) (6 + n) 472 (lawL i) [] (mm q K v false) Q := by
  unfold lawL at hn ⊢
  have hcd : (oLoad S).1 = 0 ∨ (oLoad S).1 = 1 := by
    unfold oLoad
    repeat (first | exact Or.inl rfl | exact Or.inr rfl | split)
  have hG : GOK (oLoad S).2.2 := gok_load hS
  have w1 := wr296 (q := q) (v := v) hl hq hC hS  
  have w2 : ∀ (K1 : Nat → Int → Int) (v1 : Int), RREL K1 S → CT l 215 [.ref 181] (mm q K1 v1 false) 0 0 (RQ q v1 false K1 (oLoad S)) := fun K1 v1 hR1 => rm215 hl (by omega) hR1 hS  
  generalize (oLoad S) = r at w1 w2 hcd hG
  refine x_aload_n (pc := 472) rfl d332_472 ?_
  refine x_aload_n (pc := 473) rfl d332_473 ?_
  refine x_callSW (k := k) (n := n) (pc := 474) c332_153 w1 rfl rfl (Nat.le_of_ble_eq_true rfl) (by decide +kernel) (by decide +kernel) d332_474 (Or.inr fun v9 τ h9 => ?_) (fun v9 τ h9 => ?_) (fun E9 τ h9 _ => ?_)
  · obtain ⟨K1, v1, e, _⟩ := h9; cases e; rfl
  · obtain ⟨K1, v1, e, hC1, hk1, hv1⟩ := h9
    cases e
    show Ex l 332 k n 477 _ [.int (iI r.1)] _ _
    refine x_istore (pc := 477) (by decide +kernel) rfl d332_477 ?_
    dsimp only [List.set]
    refine x_aload_n (pc := 479) rfl d332_479 ?_
    refine ex_00 (x_callV (pc := 480) c332_156 (w2 K1 v1 (hR.ge hk1)) (xo181 (by omega)) rfl rfl (Nat.le_of_ble_eq_true rfl) (by decide +kernel) (by decide +kernel) d332_480 (Or.inr fun v9 τ h9 => ?_) (fun v9 τ h9 => ?_) (fun E9 τ h9 _ => ?_))
    · obtain ⟨z, K2, e, _⟩ := h9; cases e; rfl
    · obtain ⟨z, K2, e, h6, hz2, hR2, hk2⟩ := h9
      cases e
      have hC2 : CREL K2 r.2.2 := hC1.lt fun a ha => hk2 a (Or.inl ha)
      show Ex l 332 k n 483 _ [.int (iI z)] _ _
      refine x_istore (pc := 483) (by decide +kernel) rfl d332_483 ?_
      dsimp only [List.set]
      refine x_aload_n (pc := 485) rfl d332_485 ?_
      refine x_cVs (pc := 486) c332_146 (rt_thrown hl hq h6) (xo181 (by omega)) rfl rfl (Nat.le_of_ble_eq_true rfl) (by decide +kernel) (by decide +kernel) rfl d332_486 ?_
      refine x_iload (pc := 489) rfl d332_489 ?_
      refine x_same (pc := 491) (tgt := 496) d332_491 (by decide) ?_
      refine x_iload (pc := 496) rfl d332_496 ?_
      refine x_if_ne (pc := 498) (tgt := 513) ⟨by omega, by omega⟩ d332_498 (by decide) (fun g => ?_) (fun g => ?_)
      · refine x_goto (pc := 513) (tgt := 3032) d332_513 (by decide) ?_
        refine x_mask [true, true, true, true, true, false, false, false, false] ?_
        dsimp only [mask]
        exact hn K2 _ _ hC2 hR2 hG
      · have hzz : z = r.2.1 := hz2 g
        have hvv := hv1 g
        subst hzz
        refine x_aload_n (pc := 501) rfl d332_501 ?_
        refine x_iconst (pc := 502) d332_502 ?_
        refine m_lald (pc := 503) (by omega) (by decide +kernel) d332_503 ?_
        refine x_iload (pc := 504) rfl d332_504 ?_
        refine x_i2lA (pc := 506) d332_506 ?_
        rw [hvv]
        refine x_lsame (pc := 507) (tgt := 513) (tI_r _) d332_507 d332_508 (by decide) ?_
        refine x_goto (pc := 513) (tgt := 3032) d332_513 (by decide) ?_
        refine x_mask [true, true, true, true, true, false, false, false, false] ?_
        dsimp only [mask]
        exact hn K2 _ _ hC2 hR2 hG
    · obtain ⟨z, K2, e, _⟩ := h9; cases e
  · obtain ⟨K1, v1, e, _⟩ := h9; cases e
theorem cs3 {k n : Nat} (hl : l.1.stackTraces = false) (hq : 193 ≤ q) (hC : CREL K S) (hR : RREL K S) (hS : GOK S) {i : Int} (i0 : 0 ≤ i) (i6 : i + 6 ≤ l.2.1) (hlen : (l.2.1 : Int) ≤ 2147483647) {Q : OO → Prop} (hn : ∀ (K2 : Nat → Int → Int) (v2 : Int) (S2 : GS), CREL K2 S2 → RREL K2 S2 → GOK S2 → Ex l 332 k n 3032 (lawL i) [] (mm q K2 v2 false) Q) : Ex l 332 (1 + k) (6 + n) 516 (lawL i) [] (mm q K v false) Q := by
  unfold lawL at hn ⊢
  have hcd : (oExec S).1 = 0 ∨ (oExec S).1 = 1 := by
    unfold oExec
    repeat (first | exact Or.inl rfl | exact Or.inr rfl | split)
  have hG : GOK (oExec S).2.2 := gok_exec hS
  have w1 := wr297 (q := q) (v := v) hl hq hC hS  
  have w2 : ∀ (K1 : Nat → Int → Int) (v1 : Int), RREL K1 S → CT l 226 [.ref 181] (mm q K1 v1 false) 0 0 (RQ q v1 false K1 (oExec S)) := fun K1 v1 hR1 => rm226 hl (by omega) hR1 hS  
  generalize (oExec S) = r at w1 w2 hcd hG
  refine x_aload_n (pc := 516) rfl d332_516 ?_
  refine x_aload_n (pc := 517) rfl d332_517 ?_
  refine x_callSW (k := k) (n := n) (pc := 518) c332_157 w1 rfl rfl (Nat.le_of_ble_eq_true rfl) (by decide +kernel) (by decide +kernel) d332_518 (Or.inr fun v9 τ h9 => ?_) (fun v9 τ h9 => ?_) (fun E9 τ h9 _ => ?_)
  · obtain ⟨K1, v1, e, _⟩ := h9; cases e; rfl
  · obtain ⟨K1, v1, e, hC1, hk1, hv1⟩ := h9
    cases e
    show Ex l 332 k n 521 _ [.int (iI r.1)] _ _
    refine x_istore (pc := 521) (by decide +kernel) rfl d332_521 ?_
    dsimp only [List.set]
    refine x_aload_n (pc := 523) rfl d332_523 ?_
    refine ex_00 (x_callV (pc := 524) c332_159 (w2 K1 v1 (hR.ge hk1)) (xo181 (by omega)) rfl rfl (Nat.le_of_ble_eq_true rfl) (by decide +kernel) (by decide +kernel) d332_524 (Or.inr fun v9 τ h9 => ?_) (fun v9 τ h9 => ?_) (fun E9 τ h9 _ => ?_))
    · obtain ⟨z, K2, e, _⟩ := h9; cases e; rfl
    · obtain ⟨z, K2, e, h6, hz2, hR2, hk2⟩ := h9
      cases e
      have hC2 : CREL K2 r.2.2 := hC1.lt fun a ha => hk2 a (Or.inl ha)
      show Ex l 332 k n 527 _ [.int (iI z)] _ _
      refine x_istore (pc := 527) (by decide +kernel) rfl d332_527 ?_
      dsimp only [List.set]
      refine x_aload_n (pc := 529) rfl d332_529 ?_
      refine x_cVs (pc := 530) c332_146 (rt_thrown hl hq h6) (xo181 (by omega)) rfl rfl (Nat.le_of_ble_eq_true rfl) (by decide +kernel) (by decide +kernel) rfl d332_530 ?_
      refine x_iload (pc := 533) rfl d332_533 ?_
      refine x_same (pc := 535) (tgt := 540) d332_535 (by decide) ?_
      refine x_iload (pc := 540) rfl d332_540 ?_
      refine x_if_ne (pc := 542) (tgt := 557) ⟨by omega, by omega⟩ d332_542 (by decide) (fun g => ?_) (fun g => ?_)
      · refine x_goto (pc := 557) (tgt := 3032) d332_557 (by decide) ?_
        refine x_mask [true, true, true, true, true, false, false, false, false] ?_
        dsimp only [mask]
        exact hn K2 _ _ hC2 hR2 hG
      · have hzz : z = r.2.1 := hz2 g
        have hvv := hv1 g
        subst hzz
        refine x_aload_n (pc := 545) rfl d332_545 ?_
        refine x_iconst (pc := 546) d332_546 ?_
        refine m_lald (pc := 547) (by omega) (by decide +kernel) d332_547 ?_
        refine x_iload (pc := 548) rfl d332_548 ?_
        refine x_i2lA (pc := 550) d332_550 ?_
        rw [hvv]
        refine x_lsame (pc := 551) (tgt := 557) (tI_r _) d332_551 d332_552 (by decide) ?_
        refine x_goto (pc := 557) (tgt := 3032) d332_557 (by decide) ?_
        refine x_mask [true, true, true, true, true, false, false, false, false] ?_
        dsimp only [mask]
        exact hn K2 _ _ hC2 hR2 hG
    · obtain ⟨z, K2, e, _⟩ := h9; cases e
  · obtain ⟨K1, v1, e, _⟩ := h9; cases e
theorem cs4 {k n : Nat} (hl : l.1.stackTraces = false) (hq : 193 ≤ q) (hC : CREL K S) (hR : RREL K S) (hS : GOK S) {i : Int} (i0 : 0 ≤ i) (i6 : i + 6 ≤ l.2.1) (hlen : (l.2.1 : Int) ≤ 2147483647) {Q : OO → Prop} (hn : ∀ (K2 : Nat → Int → Int) (v2 : Int) (S2 : GS), CREL K2 S2 → RREL K2 S2 → GOK S2 → Ex l 332 k n 3032 (lawL i) [] (mm q K2 v2 false) Q) : Ex l 332 (1 + k) (6 + n) 560 (lawL i) [] (mm q K v false) Q := by
  unfold lawL at hn ⊢
  have w1 := cm80 (q := q) (v := v) (E := fun _ => 0) hl (by omega) hC 
  have w2 : ∀ (K1 : Nat → Int → Int), RREL K1 S → CT l 211 [.ref 181] (mm q K1 v false) 0 0 (RQ q v false K1 (0, gE S, S)) := fun K1 hR1 => rm211 hl (by omega) hR1 hS 
  have h0 : ((0, gE S, S) : Int × Int × GS).1 = 0 := rfl
  have hG : GOK ((0, gE S, S) : Int × Int × GS).2.2 := hS
  generalize ((0, gE S, S) : Int × Int × GS) = r at w1 w2 h0 hG
  refine x_aload_n (pc := 560) rfl d332_560 ?_
  refine x_callV (k := k) (n := n) (pc := 561) c332_160 w1 (ko0 (by omega)) rfl rfl (Nat.le_of_ble_eq_true rfl) (by decide +kernel) (by decide +kernel) d332_561 (Or.inr fun v9 τ h9 => ?_) (fun v9 τ h9 => ?_) (fun E9 τ h9 _ => ?_)
  · rcases h9 with ⟨_, K1, e, _⟩ | ⟨_, K1, e, _⟩
    · cases e; rfl
    · cases e
  · rcases h9 with ⟨_, K1, e, hC1, hk1⟩ | ⟨_, K1, e, _⟩
    · cases e
      show Ex l 332 k n 564 _ [.int (iI r.2.1)] _ _
      refine x_aload_n (pc := 564) rfl d332_564 ?_
      refine ex_00 (x_callV (pc := 565) c332_163 (w2 K1 (hR.ge hk1)) (xo181 (by omega)) rfl rfl (Nat.le_of_ble_eq_true rfl) (by decide +kernel) (by decide +kernel) d332_565 (Or.inr fun v9 τ h9 => ?_) (fun v9 τ h9 => ?_) (fun E9 τ h9 _ => ?_))
      · obtain ⟨z, K2, e, _⟩ := h9; cases e; rfl
      · obtain ⟨z, K2, e, h6, hz2, hR2, hk2⟩ := h9
        cases e
        have hC2 : CREL K2 r.2.2 := hC1.lt fun a ha => hk2 a (Or.inl ha)
        have hzz : z = r.2.1 := hz2 h0
        subst hzz
        show Ex l 332 k n 568 _ [.int (iI r.2.1), .int (iI r.2.1)] _ _
        refine x_same (pc := 568) (tgt := 3032) d332_568 (by decide) ?_
        exact hn K2 v _ hC2 hR2 hG
      · obtain ⟨z, K2, e, _⟩ := h9; cases e
    · cases e
  · rcases h9 with ⟨_, K1, e, _⟩ | ⟨g9, K1, e, _⟩
    · cases e
    · exact absurd h0 g9
theorem cs5 {k n : Nat} (hl : l.1.stackTraces = false) (hq : 193 ≤ q) (hC : CREL K S) (hR : RREL K S) (hS : GOK S) {i : Int} (i0 : 0 ≤ i) (i6 : i + 6 ≤ l.2.1) (hlen : (l.2.1 : Int) ≤ 2147483647) {Q : OO → Prop} (hn : ∀ (K2 : Nat → Int → Int) (v2 : Int) (S2 : GS), CREL K2 S2 → RREL K2 S2 → GOK S2 → Ex l 332 k n 3032 (lawL i) [] (mm q K2 v2 false) Q) : Ex l 332 (1 + k) (6 + n) 573 (lawL i) [] (mm q K v false) Q := by
  unfold lawL at hn ⊢
  have w1 := cm81 (q := q) (v := v) (E := fun _ => 0) hl (by omega) hC 
  have w2 : ∀ (K1 : Nat → Int → Int), RREL K1 S → CT l 212 [.ref 181] (mm q K1 v false) 0 0 (RQ q v false K1 (0, gP S, S)) := fun K1 hR1 => rm212 hl (by omega) hR1 hS 
  have h0 : ((0, gP S, S) : Int × Int × GS).1 = 0 := rfl
  have hG : GOK ((0, gP S, S) : Int × Int × GS).2.2 := hS
  generalize ((0, gP S, S) : Int × Int × GS) = r at w1 w2 h0 hG
  refine x_aload_n (pc := 573) rfl d332_573 ?_
  refine x_callV (k := k) (n := n) (pc := 574) c332_164 w1 (ko0 (by omega)) rfl rfl (Nat.le_of_ble_eq_true rfl) (by decide +kernel) (by decide +kernel) d332_574 (Or.inr fun v9 τ h9 => ?_) (fun v9 τ h9 => ?_) (fun E9 τ h9 _ => ?_)
  · rcases h9 with ⟨_, K1, e, _⟩ | ⟨_, K1, e, _⟩
    · cases e; rfl
    · cases e
  · rcases h9 with ⟨_, K1, e, hC1, hk1⟩ | ⟨_, K1, e, _⟩
    · cases e
      show Ex l 332 k n 577 _ [.int (iI r.2.1)] _ _
      refine x_aload_n (pc := 577) rfl d332_577 ?_
      refine ex_00 (x_callV (pc := 578) c332_167 (w2 K1 (hR.ge hk1)) (xo181 (by omega)) rfl rfl (Nat.le_of_ble_eq_true rfl) (by decide +kernel) (by decide +kernel) d332_578 (Or.inr fun v9 τ h9 => ?_) (fun v9 τ h9 => ?_) (fun E9 τ h9 _ => ?_))
      · obtain ⟨z, K2, e, _⟩ := h9; cases e; rfl
      · obtain ⟨z, K2, e, h6, hz2, hR2, hk2⟩ := h9
        cases e
        have hC2 : CREL K2 r.2.2 := hC1.lt fun a ha => hk2 a (Or.inl ha)
        have hzz : z = r.2.1 := hz2 h0
        subst hzz
        show Ex l 332 k n 581 _ [.int (iI r.2.1), .int (iI r.2.1)] _ _
        refine x_same (pc := 581) (tgt := 3032) d332_581 (by decide) ?_
        exact hn K2 v _ hC2 hR2 hG
      · obtain ⟨z, K2, e, _⟩ := h9; cases e
    · cases e
  · rcases h9 with ⟨_, K1, e, _⟩ | ⟨g9, K1, e, _⟩
    · cases e
    · exact absurd h0 g9
theorem cs6 {k n : Nat} (hl : l.1.stackTraces = false) (hq : 193 ≤ q) (hC : CREL K S) (hR : RREL K S) (hS : GOK S) {i : Int} (i0 : 0 ≤ i) (i6 : i + 6 ≤ l.2.1) (hlen : (l.2.1 : Int) ≤ 2147483647) {Q : OO → Prop} (hn : ∀ (K2 : Nat → Int → Int) (v2 : Int) (S2 : GS), CREL K2 S2 → RREL K2 S2 → GOK S2 → Ex l 332 k n 3032 (lawL i) [] (mm q K2 v2 false) Q) : Ex l 332 (1 + k) (6 + n) 586 (lawL i) [] (mm q K v false) Q := by
  unfold lawL at hn ⊢
  have w1 := cm82 (q := q) (v := v) (E := fun _ => 0) hl (by omega) hC 
  have w2 : ∀ (K1 : Nat → Int → Int), RREL K1 S → CT l 228 [.ref 181] (mm q K1 v false) 0 0 (RQ q v false K1 (0, gA S 0 7, S)) := fun K1 hR1 => rm228 hl (by omega) hR1 hS 
  have h0 : ((0, gA S 0 7, S) : Int × Int × GS).1 = 0 := rfl
  have hG : GOK ((0, gA S 0 7, S) : Int × Int × GS).2.2 := hS
  generalize ((0, gA S 0 7, S) : Int × Int × GS) = r at w1 w2 h0 hG
  refine x_aload_n (pc := 586) rfl d332_586 ?_
  refine x_callV (k := k) (n := n) (pc := 587) c332_168 w1 (ko0 (by omega)) rfl rfl (Nat.le_of_ble_eq_true rfl) (by decide +kernel) (by decide +kernel) d332_587 (Or.inr fun v9 τ h9 => ?_) (fun v9 τ h9 => ?_) (fun E9 τ h9 _ => ?_)
  · rcases h9 with ⟨_, K1, e, _⟩ | ⟨_, K1, e, _⟩
    · cases e; rfl
    · cases e
  · rcases h9 with ⟨_, K1, e, hC1, hk1⟩ | ⟨_, K1, e, _⟩
    · cases e
      show Ex l 332 k n 590 _ [.int (iI r.2.1)] _ _
      refine x_aload_n (pc := 590) rfl d332_590 ?_
      refine ex_00 (x_callV (pc := 591) c332_171 (w2 K1 (hR.ge hk1)) (xo181 (by omega)) rfl rfl (Nat.le_of_ble_eq_true rfl) (by decide +kernel) (by decide +kernel) d332_591 (Or.inr fun v9 τ h9 => ?_) (fun v9 τ h9 => ?_) (fun E9 τ h9 _ => ?_))
      · obtain ⟨z, K2, e, _⟩ := h9; cases e; rfl
      · obtain ⟨z, K2, e, h6, hz2, hR2, hk2⟩ := h9
        cases e
        have hC2 : CREL K2 r.2.2 := hC1.lt fun a ha => hk2 a (Or.inl ha)
        have hzz : z = r.2.1 := hz2 h0
        subst hzz
        show Ex l 332 k n 594 _ [.int (iI r.2.1), .int (iI r.2.1)] _ _
        refine x_same (pc := 594) (tgt := 3032) d332_594 (by decide) ?_
        exact hn K2 v _ hC2 hR2 hG
      · obtain ⟨z, K2, e, _⟩ := h9; cases e
    · cases e
  · rcases h9 with ⟨_, K1, e, _⟩ | ⟨g9, K1, e, _⟩
    · cases e
    · exact absurd h0 g9
theorem cs7 {k n : Nat} (hl : l.1.stackTraces = false) (hq : 193 ≤ q) (hC : CREL K S) (hR : RREL K S) (hS : GOK S) {i : Int} (i0 : 0 ≤ i) (i6 : i + 6 ≤ l.2.1) (hlen : (l.2.1 : Int) ≤ 2147483647) {Q : OO → Prop} (hn : ∀ (K2 : Nat → Int → Int) (v2 : Int) (S2 : GS), CREL K2 S2 → RREL K2 S2 → GOK S2 → Ex l 332 k n 3032 (lawL i) [] (mm q K2 v2 false) Q) : Ex l 332 (1 + k) (6 + n) 599 (lawL i) [] (mm q K v false) Q := by
  unfold lawL at hn ⊢
  have w1 := cm83 (q := q) (v := v) (E := fun _ => 0) hl (by omega) hC 
  have w2 : ∀ (K1 : Nat → Int → Int), RREL K1 S → CT l 229 [.ref 181] (mm q K1 v false) 0 0 (RQ q v false K1 (0, gA S 0 0, S)) := fun K1 hR1 => rm229 hl (by omega) hR1 hS 
  have h0 : ((0, gA S 0 0, S) : Int × Int × GS).1 = 0 := rfl
  have hG : GOK ((0, gA S 0 0, S) : Int × Int × GS).2.2 := hS
  generalize ((0, gA S 0 0, S) : Int × Int × GS) = r at w1 w2 h0 hG
  refine x_aload_n (pc := 599) rfl d332_599 ?_
  refine x_callV (k := k) (n := n) (pc := 600) c332_172 w1 (ko0 (by omega)) rfl rfl (Nat.le_of_ble_eq_true rfl) (by decide +kernel) (by decide +kernel) d332_600 (Or.inr fun v9 τ h9 => ?_) (fun v9 τ h9 => ?_) (fun E9 τ h9 _ => ?_)
  · rcases h9 with ⟨_, K1, e, _⟩ | ⟨_, K1, e, _⟩
    · cases e; rfl
    · cases e
  · rcases h9 with ⟨_, K1, e, hC1, hk1⟩ | ⟨_, K1, e, _⟩
    · cases e
      show Ex l 332 k n 603 _ [.int (iI r.2.1)] _ _
      refine x_aload_n (pc := 603) rfl d332_603 ?_
      refine ex_00 (x_callV (pc := 604) c332_175 (w2 K1 (hR.ge hk1)) (xo181 (by omega)) rfl rfl (Nat.le_of_ble_eq_true rfl) (by decide +kernel) (by decide +kernel) d332_604 (Or.inr fun v9 τ h9 => ?_) (fun v9 τ h9 => ?_) (fun E9 τ h9 _ => ?_))
      · obtain ⟨z, K2, e, _⟩ := h9; cases e; rfl
      · obtain ⟨z, K2, e, h6, hz2, hR2, hk2⟩ := h9
        cases e
        have hC2 : CREL K2 r.2.2 := hC1.lt fun a ha => hk2 a (Or.inl ha)
        have hzz : z = r.2.1 := hz2 h0
        subst hzz
        show Ex l 332 k n 607 _ [.int (iI r.2.1), .int (iI r.2.1)] _ _
        refine x_same (pc := 607) (tgt := 3032) d332_607 (by decide) ?_
        exact hn K2 v _ hC2 hR2 hG
      · obtain ⟨z, K2, e, _⟩ := h9; cases e
    · cases e
  · rcases h9 with ⟨_, K1, e, _⟩ | ⟨g9, K1, e, _⟩
    · cases e
    · exact absurd h0 g9
theorem cs8 {k n : Nat} (hl : l.1.stackTraces = false) (hq : 193 ≤ q) (hC : CREL K S) (hR : RREL K S) (hS : GOK S) {i : Int} (i0 : 0 ≤ i) (i6 : i + 6 ≤ l.2.1) (hlen : (l.2.1 : Int) ≤ 2147483647) {Q : OO → Prop} (hn : ∀ (K2 : Nat → Int → Int) (v2 : Int) (S2 : GS), CREL K2 S2 → RREL K2 S2 → GOK S2 → Ex l 332 k n 3032 (lawL i) [] (mm q K2 v2 false) Q) : Ex l 332 (1 + k) (6 + n) 612 (lawL i) [] (mm q K v false) Q := by
  unfold lawL at hn ⊢
  have w1 := cm84 (q := q) (v := v) (E := fun _ => 0) hl (by omega) hC 
  have w2 : ∀ (K1 : Nat → Int → Int), RREL K1 S → CT l 230 [.ref 181] (mm q K1 v false) 0 0 (RQ q v false K1 (0, gA S 0 1, S)) := fun K1 hR1 => rm230 hl (by omega) hR1 hS 
  have h0 : ((0, gA S 0 1, S) : Int × Int × GS).1 = 0 := rfl
  have hG : GOK ((0, gA S 0 1, S) : Int × Int × GS).2.2 := hS
  generalize ((0, gA S 0 1, S) : Int × Int × GS) = r at w1 w2 h0 hG
  refine x_aload_n (pc := 612) rfl d332_612 ?_
  refine x_callV (k := k) (n := n) (pc := 613) c332_176 w1 (ko0 (by omega)) rfl rfl (Nat.le_of_ble_eq_true rfl) (by decide +kernel) (by decide +kernel) d332_613 (Or.inr fun v9 τ h9 => ?_) (fun v9 τ h9 => ?_) (fun E9 τ h9 _ => ?_)
  · rcases h9 with ⟨_, K1, e, _⟩ | ⟨_, K1, e, _⟩
    · cases e; rfl
    · cases e
  · rcases h9 with ⟨_, K1, e, hC1, hk1⟩ | ⟨_, K1, e, _⟩
    · cases e
      show Ex l 332 k n 616 _ [.int (iI r.2.1)] _ _
      refine x_aload_n (pc := 616) rfl d332_616 ?_
      refine ex_00 (x_callV (pc := 617) c332_179 (w2 K1 (hR.ge hk1)) (xo181 (by omega)) rfl rfl (Nat.le_of_ble_eq_true rfl) (by decide +kernel) (by decide +kernel) d332_617 (Or.inr fun v9 τ h9 => ?_) (fun v9 τ h9 => ?_) (fun E9 τ h9 _ => ?_))
      · obtain ⟨z, K2, e, _⟩ := h9; cases e; rfl
      · obtain ⟨z, K2, e, h6, hz2, hR2, hk2⟩ := h9
        cases e
        have hC2 : CREL K2 r.2.2 := hC1.lt fun a ha => hk2 a (Or.inl ha)
        have hzz : z = r.2.1 := hz2 h0
        subst hzz
        show Ex l 332 k n 620 _ [.int (iI r.2.1), .int (iI r.2.1)] _ _
        refine x_same (pc := 620) (tgt := 3032) d332_620 (by decide) ?_
        exact hn K2 v _ hC2 hR2 hG
      · obtain ⟨z, K2, e, _⟩ := h9; cases e
    · cases e
  · rcases h9 with ⟨_, K1, e, _⟩ | ⟨g9, K1, e, _⟩
    · cases e
    · exact absurd h0 g9
theorem cs9 {k n : Nat} (hl : l.1.stackTraces = false) (hq : 193 ≤ q) (hC : CREL K S) (hR : RREL K S) (hS : GOK S) {i : Int} (i0 : 0 ≤ i) (i6 : i + 6 ≤ l.2.1) (hlen : (l.2.1 : Int) ≤ 2147483647) {Q : OO → Prop} (hn : ∀ (K2 : Nat → Int → Int) (v2 : Int) (S2 : GS), CREL K2 S2 → RREL K2 S2 → GOK S2 → Ex l 332 k n 3032 (lawL i) [] (mm q K2 v2 false) Q) : Ex l 332 (1 + k) (6 + n) 625 (lawL i) [] (mm q K v false) Q := by
  unfold lawL at hn ⊢
  have w1 := cm85 (q := q) (v := v) (E := fun _ => 0) hl (by omega) hC 
  have w2 : ∀ (K1 : Nat → Int → Int), RREL K1 S → CT l 231 [.ref 181] (mm q K1 v false) 0 0 (RQ q v false K1 (0, gA S 0 4, S)) := fun K1 hR1 => rm231 hl (by omega) hR1 hS 
  have h0 : ((0, gA S 0 4, S) : Int × Int × GS).1 = 0 := rfl
  have hG : GOK ((0, gA S 0 4, S) : Int × Int × GS).2.2 := hS
  generalize ((0, gA S 0 4, S) : Int × Int × GS) = r at w1 w2 h0 hG
  refine x_aload_n (pc := 625) rfl d332_625 ?_
  refine x_callV (k := k) (n := n) (pc := 626) c332_180 w1 (ko0 (by omega)) rfl rfl (Nat.le_of_ble_eq_true rfl) (by decide +kernel) (by decide +kernel) d332_626 (Or.inr fun v9 τ h9 => ?_) (fun v9 τ h9 => ?_) (fun E9 τ h9 _ => ?_)
  · rcases h9 with ⟨_, K1, e, _⟩ | ⟨_, K1, e, _⟩
    · cases e; rfl
    · cases e
  · rcases h9 with ⟨_, K1, e, hC1, hk1⟩ | ⟨_, K1, e, _⟩
    · cases e
      show Ex l 332 k n 629 _ [.int (iI r.2.1)] _ _
      refine x_aload_n (pc := 629) rfl d332_629 ?_
      refine ex_00 (x_callV (pc := 630) c332_183 (w2 K1 (hR.ge hk1)) (xo181 (by omega)) rfl rfl (Nat.le_of_ble_eq_true rfl) (by decide +kernel) (by decide +kernel) d332_630 (Or.inr fun v9 τ h9 => ?_) (fun v9 τ h9 => ?_) (fun E9 τ h9 _ => ?_))
      · obtain ⟨z, K2, e, _⟩ := h9; cases e; rfl
      · obtain ⟨z, K2, e, h6, hz2, hR2, hk2⟩ := h9
        cases e
        have hC2 : CREL K2 r.2.2 := hC1.lt fun a ha => hk2 a (Or.inl ha)
        have hzz : z = r.2.1 := hz2 h0
        subst hzz
        show Ex l 332 k n 633 _ [.int (iI r.2.1), .int (iI r.2.1)] _ _
        refine x_same (pc := 633) (tgt := 3032) d332_633 (by decide) ?_
        exact hn K2 v _ hC2 hR2 hG
      · obtain ⟨z, K2, e, _⟩ := h9; cases e
    · cases e
  · rcases h9 with ⟨_, K1, e, _⟩ | ⟨g9, K1, e, _⟩
    · cases e
    · exact absurd h0 g9
theorem cs10 {k n : Nat} (hl : l.1.stackTraces = false) (hq : 193 ≤ q) (hC : CREL K S) (hR : RREL K S) (hS : GOK S) {i : Int} (i0 : 0 ≤ i) (i6 : i + 6 ≤ l.2.1) (hlen : (l.2.1 : Int) ≤ 2147483647) {Q : OO → Prop} (hn : ∀ (K2 : Nat → Int → Int) (v2 : Int) (S2 : GS), CREL K2 S2 → RREL K2 S2 → GOK S2 → Ex l 332 k n 3032 (lawL i) [] (mm q K2 v2 false) Q) : Ex l 332 (1 + k) (6 + n) 638 (lawL i) [] (mm q K v false) Q := by
  unfold lawL at hn ⊢
  have hcd : (oAsk S (isT (scV l (i + 1))) (b01 (chewA (gA S) (scV l (i + 1))))).1 = 0 ∨ (oAsk S (isT (scV l (i + 1))) (b01 (chewA (gA S) (scV l (i + 1))))).1 = 1 := by
    unfold oAsk
    repeat (first | exact Or.inl rfl | exact Or.inr rfl | split)
  have hz : (oAsk S (isT (scV l (i + 1))) (b01 (chewA (gA S) (scV l (i + 1))))).1 = 0 → (oAsk S (isT (scV l (i + 1))) (b01 (chewA (gA S) (scV l (i + 1))))).2.1 = 0 ∨ (oAsk S (isT (scV l (i + 1))) (b01 (chewA (gA S) (scV l (i + 1))))).2.1 = 1 := by
    unfold oAsk
    repeat (first | exact fun _ => b01_or _ | exact fun z => absurd (show (1 : Int) = 0 from z) (by decide) | exact fun z => absurd (show (2 : Int) = 0 from z) (by decide) | split)
  have hG : GOK (oAsk S (isT (scV l (i + 1))) (b01 (chewA (gA S) (scV l (i + 1))))).2.2 := gok_ask hS
  have w1 := wr298 (q := q) (v := v) hl hq hC hS (scV_r l (i + 1))
  have w2 : ∀ (K1 : Nat → Int → Int) (v1 : Int), RREL K1 S → CT l 232 [.ref 181, .int (iI (scV l (i + 1)))] (mm q K1 v1 false) 0 0 (RQ q v1 false K1 (oAsk S (isT (scV l (i + 1))) (b01 (chewA (gA S) (scV l (i + 1)))))) := fun K1 v1 hR1 => rm232 hl (by omega) hR1 hS (scV_r l (i + 1))
  generalize (oAsk S (isT (scV l (i + 1))) (b01 (chewA (gA S) (scV l (i + 1))))) = r at w1 w2 hcd hz hG
  refine x_aload_n (pc := 638) rfl d332_638 ?_
  refine x_aload_n (pc := 639) rfl d332_639 ?_
  refine x_iload (pc := 640) rfl d332_640 ?_
  refine x_iconst (pc := 642) d332_642 ?_
  refine x_iadd (pc := 643) d332_643 ?_
  refine x_sldR (pc := 644) (by omega) (by omega) (by omega) d332_644 ?_
  refine x_aload_n (pc := 645) rfl d332_645 ?_
  refine x_callSW (k := k) (n := n) (pc := 646) c332_184 w1 rfl rfl (Nat.le_of_ble_eq_true rfl) (by decide +kernel) (by decide +kernel) d332_646 (Or.inr fun v9 τ h9 => ?_) (fun v9 τ h9 => ?_) (fun E9 τ h9 _ => ?_)
  · obtain ⟨K1, v1, e, _⟩ := h9; cases e; rfl
  · obtain ⟨K1, v1, e, hC1, hk1, hv1⟩ := h9
    cases e
    show Ex l 332 k n 649 _ [.int (iI r.1)] _ _
    refine x_istore (pc := 649) (by decide +kernel) rfl d332_649 ?_
    dsimp only [List.set]
    refine x_aload_n (pc := 651) rfl d332_651 ?_
    refine x_aload_n (pc := 652) rfl d332_652 ?_
    refine x_iload (pc := 653) rfl d332_653 ?_
    refine x_iconst (pc := 655) d332_655 ?_
    refine x_iadd (pc := 656) d332_656 ?_
    refine x_sldR (pc := 657) (by omega) (by omega) (by omega) d332_657 ?_
    refine ex_00 (x_callV (pc := 658) c332_186 (w2 K1 v1 (hR.ge hk1)) (xo181 (by omega)) rfl rfl (Nat.le_of_ble_eq_true rfl) (by decide +kernel) (by decide +kernel) d332_658 (Or.inr fun v9 τ h9 => ?_) (fun v9 τ h9 => ?_) (fun E9 τ h9 _ => ?_))
    · obtain ⟨z, K2, e, _⟩ := h9; cases e; rfl
    · obtain ⟨z, K2, e, h6, hz2, hR2, hk2⟩ := h9
      cases e
      have hC2 : CREL K2 r.2.2 := hC1.lt fun a ha => hk2 a (Or.inl ha)
      show Ex l 332 k n 661 _ [.int (iI z)] _ _
      refine x_istore (pc := 661) (by decide +kernel) rfl d332_661 ?_
      dsimp only [List.set]
      refine x_aload_n (pc := 663) rfl d332_663 ?_
      refine x_cVs (pc := 664) c332_146 (rt_thrown hl hq h6) (xo181 (by omega)) rfl rfl (Nat.le_of_ble_eq_true rfl) (by decide +kernel) (by decide +kernel) rfl d332_664 ?_
      refine x_iload (pc := 667) rfl d332_667 ?_
      refine x_same (pc := 669) (tgt := 674) d332_669 (by decide) ?_
      refine x_iload (pc := 674) rfl d332_674 ?_
      refine x_if_ne (pc := 676) (tgt := 698) ⟨by omega, by omega⟩ d332_676 (by decide) (fun g => ?_) (fun g => ?_)
      · refine x_goto (pc := 698) (tgt := 3032) d332_698 (by decide) ?_
        refine x_mask [true, true, true, true, true, false, false, false, false] ?_
        dsimp only [mask]
        exact hn K2 _ _ hC2 hR2 hG
      · have hzz : z = r.2.1 := hz2 g
        have hvv := hv1 g
        subst hzz
        refine x_aload_n (pc := 679) rfl d332_679 ?_
        refine x_iconst (pc := 680) d332_680 ?_
        refine m_lald (pc := 681) (by omega) (by decide +kernel) d332_681 ?_
        refine x_iload (pc := 682) rfl d332_682 ?_
        have hzb := hz g
        refine x_if_eq (pc := 684) (tgt := 691) ⟨by omega, by omega⟩ d332_684 (by decide) (fun g2 => ?_) (fun g2 => ?_)
        · refine x_lconst (pc := 691) (z := 0) (by decide) d332_691 ?_
          have hv0 : v1 = 0 := by rw [hvv, show r.2.1 = 0 from by omega]; rfl
          subst hv0
          refine x_lsame (pc := 692) (tgt := 698) ⟨by decide, by decide⟩ d332_692 d332_693 (by decide) ?_
          refine x_goto (pc := 698) (tgt := 3032) d332_698 (by decide) ?_
          refine x_mask [true, true, true, true, true, false, false, false, false] ?_
          dsimp only [mask]
          exact hn K2 _ _ hC2 hR2 hG
        · refine x_lconst (pc := 687) (z := 1) (by decide) d332_687 ?_
          refine x_goto (pc := 688) (tgt := 692) d332_688 (by decide) ?_
          have hv0 : v1 = 1 := by rw [hvv, show r.2.1 = 1 from by omega]; rfl
          subst hv0
          refine x_lsame (pc := 692) (tgt := 698) ⟨by decide, by decide⟩ d332_692 d332_693 (by decide) ?_
          refine x_goto (pc := 698) (tgt := 3032) d332_698 (by decide) ?_
          refine x_mask [true, true, true, true, true, false, false, false, false] ?_
          dsimp only [mask]
          exact hn K2 _ _ hC2 hR2 hG
    · obtain ⟨z, K2, e, _⟩ := h9; cases e
  · obtain ⟨K1, v1, e, _⟩ := h9; cases e
theorem cs11 {k n : Nat} (hl : l.1.stackTraces = false) (hq : 193 ≤ q) (hC : CREL K S) (hR : RREL K S) (hS : GOK S) {i : Int} (i0 : 0 ≤ i) (i6 : i + 6 ≤ l.2.1) (hlen : (l.2.1 : Int) ≤ 2147483647) {Q : OO → Prop} (hn : ∀ (K2 : Nat → Int → Int) (v2 : Int) (S2 : GS), CREL K2 S2 → RREL K2 S2 → GOK S2 → Ex l 332 k n 3032 (lawL i) [] (mm q K2 v2 false) Q) : Ex l 332 (1 + k) (6 + n) 701 (lawL i) [] (mm q K v false) Q := by
  unfold lawL at hn ⊢
  have hcd : (oAsk S (isT (scV l (i + 1))) (fstN (chewA (gA S)) (-1) 1001 (scV l (i + 1)))).1 = 0 ∨ (oAsk S (isT (scV l (i + 1))) (fstN (chewA (gA S)) (-1) 1001 (scV l (i + 1)))).1 = 1 := by
    unfold oAsk
    repeat (first | exact Or.inl rfl | exact Or.inr rfl | split)
  have hG : GOK (oAsk S (isT (scV l (i + 1))) (fstN (chewA (gA S)) (-1) 1001 (scV l (i + 1)))).2.2 := gok_ask hS
  have w1 := wr299 (q := q) (v := v) hl hq hC hS (scV_r l (i + 1))
  have w2 : ∀ (K1 : Nat → Int → Int) (v1 : Int), RREL K1 S → CT l 233 [.ref 181, .int (iI (scV l (i + 1)))] (mm q K1 v1 false) 0 0 (RQ q v1 false K1 (oAsk S (isT (scV l (i + 1))) (fstN (chewA (gA S)) (-1) 1001 (scV l (i + 1))))) := fun K1 v1 hR1 => rm233 hl (by omega) hR1 hS (scV_r l (i + 1))
  generalize (oAsk S (isT (scV l (i + 1))) (fstN (chewA (gA S)) (-1) 1001 (scV l (i + 1)))) = r at w1 w2 hcd hG
  refine x_aload_n (pc := 701) rfl d332_701 ?_
  refine x_aload_n (pc := 702) rfl d332_702 ?_
  refine x_iload (pc := 703) rfl d332_703 ?_
  refine x_iconst (pc := 705) d332_705 ?_
  refine x_iadd (pc := 706) d332_706 ?_
  refine x_sldR (pc := 707) (by omega) (by omega) (by omega) d332_707 ?_
  refine x_aload_n (pc := 708) rfl d332_708 ?_
  refine x_callSW (k := k) (n := n) (pc := 709) c332_187 w1 rfl rfl (Nat.le_of_ble_eq_true rfl) (by decide +kernel) (by decide +kernel) d332_709 (Or.inr fun v9 τ h9 => ?_) (fun v9 τ h9 => ?_) (fun E9 τ h9 _ => ?_)
  · obtain ⟨K1, v1, e, _⟩ := h9; cases e; rfl
  · obtain ⟨K1, v1, e, hC1, hk1, hv1⟩ := h9
    cases e
    show Ex l 332 k n 712 _ [.int (iI r.1)] _ _
    refine x_istore (pc := 712) (by decide +kernel) rfl d332_712 ?_
    dsimp only [List.set]
    refine x_aload_n (pc := 714) rfl d332_714 ?_
    refine x_aload_n (pc := 715) rfl d332_715 ?_
    refine x_iload (pc := 716) rfl d332_716 ?_
    refine x_iconst (pc := 718) d332_718 ?_
    refine x_iadd (pc := 719) d332_719 ?_
    refine x_sldR (pc := 720) (by omega) (by omega) (by omega) d332_720 ?_
    refine ex_00 (x_callV (pc := 721) c332_189 (w2 K1 v1 (hR.ge hk1)) (xo181 (by omega)) rfl rfl (Nat.le_of_ble_eq_true rfl) (by decide +kernel) (by decide +kernel) d332_721 (Or.inr fun v9 τ h9 => ?_) (fun v9 τ h9 => ?_) (fun E9 τ h9 _ => ?_))
    · obtain ⟨z, K2, e, _⟩ := h9; cases e; rfl
    · obtain ⟨z, K2, e, h6, hz2, hR2, hk2⟩ := h9
      cases e
      have hC2 : CREL K2 r.2.2 := hC1.lt fun a ha => hk2 a (Or.inl ha)
      show Ex l 332 k n 724 _ [.int (iI z)] _ _
      refine x_istore (pc := 724) (by decide +kernel) rfl d332_724 ?_
      dsimp only [List.set]
      refine x_aload_n (pc := 726) rfl d332_726 ?_
      refine x_cVs (pc := 727) c332_146 (rt_thrown hl hq h6) (xo181 (by omega)) rfl rfl (Nat.le_of_ble_eq_true rfl) (by decide +kernel) (by decide +kernel) rfl d332_727 ?_
      refine x_iload (pc := 730) rfl d332_730 ?_
      refine x_same (pc := 732) (tgt := 737) d332_732 (by decide) ?_
      refine x_iload (pc := 737) rfl d332_737 ?_
      refine x_if_ne (pc := 739) (tgt := 754) ⟨by omega, by omega⟩ d332_739 (by decide) (fun g => ?_) (fun g => ?_)
      · refine x_goto (pc := 754) (tgt := 3032) d332_754 (by decide) ?_
        refine x_mask [true, true, true, true, true, false, false, false, false] ?_
        dsimp only [mask]
        exact hn K2 _ _ hC2 hR2 hG
      · have hzz : z = r.2.1 := hz2 g
        have hvv := hv1 g
        subst hzz
        refine x_aload_n (pc := 742) rfl d332_742 ?_
        refine x_iconst (pc := 743) d332_743 ?_
        refine m_lald (pc := 744) (by omega) (by decide +kernel) d332_744 ?_
        refine x_iload (pc := 745) rfl d332_745 ?_
        refine x_i2lA (pc := 747) d332_747 ?_
        rw [hvv]
        refine x_lsame (pc := 748) (tgt := 754) (tI_r _) d332_748 d332_749 (by decide) ?_
        refine x_goto (pc := 754) (tgt := 3032) d332_754 (by decide) ?_
        refine x_mask [true, true, true, true, true, false, false, false, false] ?_
        dsimp only [mask]
        exact hn K2 _ _ hC2 hR2 hG
    · obtain ⟨z, K2, e, _⟩ := h9; cases e
  · obtain ⟨K1, v1, e, _⟩ := h9; cases e
theorem cs12 {k n : Nat} (hl : l.1.stackTraces = false) (hq : 193 ≤ q) (hC : CREL K S) (hR : RREL K S) (hS : GOK S) {i : Int} (i0 : 0 ≤ i) (i6 : i + 6 ≤ l.2.1) (hlen : (l.2.1 : Int) ≤ 2147483647) {Q : OO → Prop} (hn : ∀ (K2 : Nat → Int → Int) (v2 : Int) (S2 : GS), CREL K2 S2 → RREL K2 S2 → GOK S2 → Ex l 332 k n 3032 (lawL i) [] (mm q K2 v2 false) Q) : Ex l 332 (1 + k) (6 + n) 757 (lawL i) [] (mm q K v false) Q := by
  unfold lawL at hn ⊢
  have hcd : (oAsk S (decide (1 ≤ (scV l (i + 1)) ∧ (scV l (i + 1)) ≤ 500)) (quiN (chewA (gA S)) (scV l (i + 1)) (2000 + (scV l (i + 1))).toNat (gA S 0 7) 0)).1 = 0 ∨ (oAsk S (decide (1 ≤ (scV l (i + 1)) ∧ (scV l (i + 1)) ≤ 500)) (quiN (chewA (gA S)) (scV l (i + 1)) (2000 + (scV l (i + 1))).toNat (gA S 0 7) 0)).1 = 1 := by
    unfold oAsk
    repeat (first | exact Or.inl rfl | exact Or.inr rfl | split)
  have hG : GOK (oAsk S (decide (1 ≤ (scV l (i + 1)) ∧ (scV l (i + 1)) ≤ 500)) (quiN (chewA (gA S)) (scV l (i + 1)) (2000 + (scV l (i + 1))).toNat (gA S 0 7) 0)).2.2 := gok_ask hS
  have w1 := wr300 (q := q) (v := v) hl hq hC hS (scV_r l (i + 1))
  have w2 : ∀ (K1 : Nat → Int → Int) (v1 : Int), RREL K1 S → CT l 234 [.ref 181, .int (iI (scV l (i + 1)))] (mm q K1 v1 false) 0 0 (RQ q v1 false K1 (oAsk S (decide (1 ≤ (scV l (i + 1)) ∧ (scV l (i + 1)) ≤ 500)) (quiN (chewA (gA S)) (scV l (i + 1)) (2000 + (scV l (i + 1))).toNat (gA S 0 7) 0))) := fun K1 v1 hR1 => rm234 hl (by omega) hR1 hS (scV_r l (i + 1))
  generalize (oAsk S (decide (1 ≤ (scV l (i + 1)) ∧ (scV l (i + 1)) ≤ 500)) (quiN (chewA (gA S)) (scV l (i + 1)) (2000 + (scV l (i + 1))).toNat (gA S 0 7) 0)) = r at w1 w2 hcd hG
  refine x_aload_n (pc := 757) rfl d332_757 ?_
  refine x_aload_n (pc := 758) rfl d332_758 ?_
  refine x_iload (pc := 759) rfl d332_759 ?_
  refine x_iconst (pc := 761) d332_761 ?_
  refine x_iadd (pc := 762) d332_762 ?_
  refine x_sldR (pc := 763) (by omega) (by omega) (by omega) d332_763 ?_
  refine x_aload_n (pc := 764) rfl d332_764 ?_
  refine x_callSW (k := k) (n := n) (pc := 765) c332_190 w1 rfl rfl (Nat.le_of_ble_eq_true rfl) (by decide +kernel) (by decide +kernel) d332_765 (Or.inr fun v9 τ h9 => ?_) (fun v9 τ h9 => ?_) (fun E9 τ h9 _ => ?_)
  · obtain ⟨K1, v1, e, _⟩ := h9; cases e; rfl
  · obtain ⟨K1, v1, e, hC1, hk1, hv1⟩ := h9
    cases e
    show Ex l 332 k n 768 _ [.int (iI r.1)] _ _
    refine x_istore (pc := 768) (by decide +kernel) rfl d332_768 ?_
    dsimp only [List.set]
    refine x_aload_n (pc := 770) rfl d332_770 ?_
    refine x_aload_n (pc := 771) rfl d332_771 ?_
    refine x_iload (pc := 772) rfl d332_772 ?_
    refine x_iconst (pc := 774) d332_774 ?_
    refine x_iadd (pc := 775) d332_775 ?_
    refine x_sldR (pc := 776) (by omega) (by omega) (by omega) d332_776 ?_
    refine ex_00 (x_callV (pc := 777) c332_192 (w2 K1 v1 (hR.ge hk1)) (xo181 (by omega)) rfl rfl (Nat.le_of_ble_eq_true rfl) (by decide +kernel) (by decide +kernel) d332_777 (Or.inr fun v9 τ h9 => ?_) (fun v9 τ h9 => ?_) (fun E9 τ h9 _ => ?_))
    · obtain ⟨z, K2, e, _⟩ := h9; cases e; rfl
    · obtain ⟨z, K2, e, h6, hz2, hR2, hk2⟩ := h9
      cases e
      have hC2 : CREL K2 r.2.2 := hC1.lt fun a ha => hk2 a (Or.inl ha)
      show Ex l 332 k n 780 _ [.int (iI z)] _ _
      refine x_istore (pc := 780) (by decide +kernel) rfl d332_780 ?_
      dsimp only [List.set]
      refine x_aload_n (pc := 782) rfl d332_782 ?_
      refine x_cVs (pc := 783) c332_146 (rt_thrown hl hq h6) (xo181 (by omega)) rfl rfl (Nat.le_of_ble_eq_true rfl) (by decide +kernel) (by decide +kernel) rfl d332_783 ?_
      refine x_iload (pc := 786) rfl d332_786 ?_
      refine x_same (pc := 788) (tgt := 793) d332_788 (by decide) ?_
      refine x_iload (pc := 793) rfl d332_793 ?_
      refine x_if_ne (pc := 795) (tgt := 810) ⟨by omega, by omega⟩ d332_795 (by decide) (fun g => ?_) (fun g => ?_)
      · refine x_goto (pc := 810) (tgt := 3032) d332_810 (by decide) ?_
        refine x_mask [true, true, true, true, true, false, false, false, false] ?_
        dsimp only [mask]
        exact hn K2 _ _ hC2 hR2 hG
      · have hzz : z = r.2.1 := hz2 g
        have hvv := hv1 g
        subst hzz
        refine x_aload_n (pc := 798) rfl d332_798 ?_
        refine x_iconst (pc := 799) d332_799 ?_
        refine m_lald (pc := 800) (by omega) (by decide +kernel) d332_800 ?_
        refine x_iload (pc := 801) rfl d332_801 ?_
        refine x_i2lA (pc := 803) d332_803 ?_
        rw [hvv]
        refine x_lsame (pc := 804) (tgt := 810) (tI_r _) d332_804 d332_805 (by decide) ?_
        refine x_goto (pc := 810) (tgt := 3032) d332_810 (by decide) ?_
        refine x_mask [true, true, true, true, true, false, false, false, false] ?_
        dsimp only [mask]
        exact hn K2 _ _ hC2 hR2 hG
    · obtain ⟨z, K2, e, _⟩ := h9; cases e
  · obtain ⟨K1, v1, e, _⟩ := h9; cases e
theorem cs13 {k n : Nat} (hl : l.1.stackTraces = false) (hq : 193 ≤ q) (hC : CREL K S) (hR : RREL K S) (hS : GOK S) {i : Int} (i0 : 0 ≤ i) (i6 : i + 6 ≤ l.2.1) (hlen : (l.2.1 : Int) ≤ 2147483647) {Q : OO → Prop} (hn : ∀ (K2 : Nat → Int → Int) (v2 : Int) (S2 : GS), CREL K2 S2 → RREL K2 S2 → GOK S2 → Ex l 332 k n 3032 (lawL i) [] (mm q K2 v2 false) Q) : Ex l 332 (1 + k) (6 + n) 813 (lawL i) [] (mm q K v false) Q := by
  unfold lawL at hn ⊢
  have w1 := cm89 (q := q) (v := v) (E := fun _ => 0) hl (by omega) hC hS 
  have w2 : ∀ (K1 : Nat → Int → Int), RREL K1 S → CT l 235 [.ref 181] (mm q K1 v false) 0 0 (RQ q v false K1 (0, crcF (gT S) (gL S).toNat, S)) := fun K1 hR1 => rm235 hl (by omega) hR1 hS 
  have h0 : ((0, crcF (gT S) (gL S).toNat, S) : Int × Int × GS).1 = 0 := rfl
  have hG : GOK ((0, crcF (gT S) (gL S).toNat, S) : Int × Int × GS).2.2 := hS
  generalize ((0, crcF (gT S) (gL S).toNat, S) : Int × Int × GS) = r at w1 w2 h0 hG
  refine x_aload_n (pc := 813) rfl d332_813 ?_
  refine x_callV (k := k) (n := n) (pc := 814) c332_193 w1 (ko0 (by omega)) rfl rfl (Nat.le_of_ble_eq_true rfl) (by decide +kernel) (by decide +kernel) d332_814 (Or.inr fun v9 τ h9 => ?_) (fun v9 τ h9 => ?_) (fun E9 τ h9 _ => ?_)
  · rcases h9 with ⟨_, K1, e, _⟩ | ⟨_, K1, e, _⟩
    · cases e; rfl
    · cases e
  · rcases h9 with ⟨_, K1, e, hC1, hk1⟩ | ⟨_, K1, e, _⟩
    · cases e
      show Ex l 332 k n 817 _ [.int (iI r.2.1)] _ _
      refine x_aload_n (pc := 817) rfl d332_817 ?_
      refine ex_00 (x_callV (pc := 818) c332_196 (w2 K1 (hR.ge hk1)) (xo181 (by omega)) rfl rfl (Nat.le_of_ble_eq_true rfl) (by decide +kernel) (by decide +kernel) d332_818 (Or.inr fun v9 τ h9 => ?_) (fun v9 τ h9 => ?_) (fun E9 τ h9 _ => ?_))
      · obtain ⟨z, K2, e, _⟩ := h9; cases e; rfl
      · obtain ⟨z, K2, e, h6, hz2, hR2, hk2⟩ := h9
        cases e
        have hC2 : CREL K2 r.2.2 := hC1.lt fun a ha => hk2 a (Or.inl ha)
        have hzz : z = r.2.1 := hz2 h0
        subst hzz
        show Ex l 332 k n 821 _ [.int (iI r.2.1), .int (iI r.2.1)] _ _
        refine x_same (pc := 821) (tgt := 3032) d332_821 (by decide) ?_
        exact hn K2 v _ hC2 hR2 hG
      · obtain ⟨z, K2, e, _⟩ := h9; cases e
    · cases e
  · rcases h9 with ⟨_, K1, e, _⟩ | ⟨g9, K1, e, _⟩
    · cases e
    · exact absurd h0 g9
theorem cs14 {k n : Nat} (hl : l.1.stackTraces = false) (hq : 193 ≤ q) (hC : CREL K S) (hR : RREL K S) (hS : GOK S) {i : Int} (i0 : 0 ≤ i) (i6 : i + 6 ≤ l.2.1) (hlen : (l.2.1 : Int) ≤ 2147483647) {Q : OO → Prop} (hn : ∀ (K2 : Nat → Int → Int) (v2 : Int) (S2 : GS), CREL K2 S2 → RREL K2 S2 → GOK S2 → Ex l 332 k n 3032 (lawL i) [] (mm q K2 v2 false) Q) : Ex l 332 (1 + k) (6 + n) 826 (lawL i) [] (mm q K v false) Q := by
  unfold lawL at hn ⊢
  have w1 := cm90 (q := q) (v := v) (E := fun _ => 0) hl (by omega) hC 
  have w2 : ∀ (K1 : Nat → Int → Int), RREL K1 S → CT l 236 [.ref 181] (mm q K1 v false) 0 0 (RQ q v false K1 (0, gA S 0 5, S)) := fun K1 hR1 => rm236 hl (by omega) hR1 hS 
  have h0 : ((0, gA S 0 5, S) : Int × Int × GS).1 = 0 := rfl
  have hG : GOK ((0, gA S 0 5, S) : Int × Int × GS).2.2 := hS
  generalize ((0, gA S 0 5, S) : Int × Int × GS) = r at w1 w2 h0 hG
  refine x_aload_n (pc := 826) rfl d332_826 ?_
  refine x_callV (k := k) (n := n) (pc := 827) c332_197 w1 (ko0 (by omega)) rfl rfl (Nat.le_of_ble_eq_true rfl) (by decide +kernel) (by decide +kernel) d332_827 (Or.inr fun v9 τ h9 => ?_) (fun v9 τ h9 => ?_) (fun E9 τ h9 _ => ?_)
  · rcases h9 with ⟨_, K1, e, _⟩ | ⟨_, K1, e, _⟩
    · cases e; rfl
    · cases e
  · rcases h9 with ⟨_, K1, e, hC1, hk1⟩ | ⟨_, K1, e, _⟩
    · cases e
      show Ex l 332 k n 830 _ [.int (iI r.2.1)] _ _
      refine x_aload_n (pc := 830) rfl d332_830 ?_
      refine ex_00 (x_callV (pc := 831) c332_200 (w2 K1 (hR.ge hk1)) (xo181 (by omega)) rfl rfl (Nat.le_of_ble_eq_true rfl) (by decide +kernel) (by decide +kernel) d332_831 (Or.inr fun v9 τ h9 => ?_) (fun v9 τ h9 => ?_) (fun E9 τ h9 _ => ?_))
      · obtain ⟨z, K2, e, _⟩ := h9; cases e; rfl
      · obtain ⟨z, K2, e, h6, hz2, hR2, hk2⟩ := h9
        cases e
        have hC2 : CREL K2 r.2.2 := hC1.lt fun a ha => hk2 a (Or.inl ha)
        have hzz : z = r.2.1 := hz2 h0
        subst hzz
        show Ex l 332 k n 834 _ [.int (iI r.2.1), .int (iI r.2.1)] _ _
        refine x_same (pc := 834) (tgt := 3032) d332_834 (by decide) ?_
        exact hn K2 v _ hC2 hR2 hG
      · obtain ⟨z, K2, e, _⟩ := h9; cases e
    · cases e
  · rcases h9 with ⟨_, K1, e, _⟩ | ⟨g9, K1, e, _⟩
    · cases e
    · exact absurd h0 g9
theorem cs15 {k n : Nat} (hl : l.1.stackTraces = false) (hq : 193 ≤ q) (hC : CREL K S) (hR : RREL K S) (hS : GOK S) {i : Int} (i0 : 0 ≤ i) (i6 : i + 6 ≤ l.2.1) (hlen : (l.2.1 : Int) ≤ 2147483647) {Q : OO → Prop} (hn : ∀ (K2 : Nat → Int → Int) (v2 : Int) (S2 : GS), CREL K2 S2 → RREL K2 S2 → GOK S2 → Ex l 332 k n 3032 (lawL i) [] (mm q K2 v2 false) Q) : Ex l 332 (1 + k) (6 + n) 839 (lawL i) [] (mm q K v false) Q := by
  unfold lawL at hn ⊢
  have hcd : (oAsk S (isM S (scV l (i + 1))) (gA S 4 (scV l (i + 1)))).1 = 0 ∨ (oAsk S (isM S (scV l (i + 1))) (gA S 4 (scV l (i + 1)))).1 = 1 := by
    unfold oAsk
    repeat (first | exact Or.inl rfl | exact Or.inr rfl | split)
  have hG : GOK (oAsk S (isM S (scV l (i + 1))) (gA S 4 (scV l (i + 1)))).2.2 := gok_ask hS
  have w1 := wr301 (q := q) (v := v) hl hq hC hS (scV_r l (i + 1))
  have w2 : ∀ (K1 : Nat → Int → Int) (v1 : Int), RREL K1 S → CT l 237 [.ref 181, .int (iI (scV l (i + 1)))] (mm q K1 v1 false) 0 0 (RQ q v1 false K1 (oAsk S (isM S (scV l (i + 1))) (gA S 4 (scV l (i + 1))))) := fun K1 v1 hR1 => rm237 hl (by omega) hR1 hS (scV_r l (i + 1))
  generalize (oAsk S (isM S (scV l (i + 1))) (gA S 4 (scV l (i + 1)))) = r at w1 w2 hcd hG
  refine x_aload_n (pc := 839) rfl d332_839 ?_
  refine x_aload_n (pc := 840) rfl d332_840 ?_
  refine x_iload (pc := 841) rfl d332_841 ?_
  refine x_iconst (pc := 843) d332_843 ?_
  refine x_iadd (pc := 844) d332_844 ?_
  refine x_sldR (pc := 845) (by omega) (by omega) (by omega) d332_845 ?_
  refine x_aload_n (pc := 846) rfl d332_846 ?_
  refine x_callSW (k := k) (n := n) (pc := 847) c332_201 w1 rfl rfl (Nat.le_of_ble_eq_true rfl) (by decide +kernel) (by decide +kernel) d332_847 (Or.inr fun v9 τ h9 => ?_) (fun v9 τ h9 => ?_) (fun E9 τ h9 _ => ?_)
  · obtain ⟨K1, v1, e, _⟩ := h9; cases e; rfl
  · obtain ⟨K1, v1, e, hC1, hk1, hv1⟩ := h9
    cases e
    show Ex l 332 k n 850 _ [.int (iI r.1)] _ _
    refine x_istore (pc := 850) (by decide +kernel) rfl d332_850 ?_
    dsimp only [List.set]
    refine x_aload_n (pc := 852) rfl d332_852 ?_
    refine x_aload_n (pc := 853) rfl d332_853 ?_
    refine x_iload (pc := 854) rfl d332_854 ?_
    refine x_iconst (pc := 856) d332_856 ?_
    refine x_iadd (pc := 857) d332_857 ?_
    refine x_sldR (pc := 858) (by omega) (by omega) (by omega) d332_858 ?_
    refine ex_00 (x_callV (pc := 859) c332_203 (w2 K1 v1 (hR.ge hk1)) (xo181 (by omega)) rfl rfl (Nat.le_of_ble_eq_true rfl) (by decide +kernel) (by decide +kernel) d332_859 (Or.inr fun v9 τ h9 => ?_) (fun v9 τ h9 => ?_) (fun E9 τ h9 _ => ?_))
    · obtain ⟨z, K2, e, _⟩ := h9; cases e; rfl
    · obtain ⟨z, K2, e, h6, hz2, hR2, hk2⟩ := h9
      cases e
      have hC2 : CREL K2 r.2.2 := hC1.lt fun a ha => hk2 a (Or.inl ha)
      show Ex l 332 k n 862 _ [.int (iI z)] _ _
      refine x_istore (pc := 862) (by decide +kernel) rfl d332_862 ?_
      dsimp only [List.set]
      refine x_aload_n (pc := 864) rfl d332_864 ?_
      refine x_cVs (pc := 865) c332_146 (rt_thrown hl hq h6) (xo181 (by omega)) rfl rfl (Nat.le_of_ble_eq_true rfl) (by decide +kernel) (by decide +kernel) rfl d332_865 ?_
      refine x_iload (pc := 868) rfl d332_868 ?_
      refine x_same (pc := 870) (tgt := 875) d332_870 (by decide) ?_
      refine x_iload (pc := 875) rfl d332_875 ?_
      refine x_if_ne (pc := 877) (tgt := 892) ⟨by omega, by omega⟩ d332_877 (by decide) (fun g => ?_) (fun g => ?_)
      · refine x_goto (pc := 892) (tgt := 3032) d332_892 (by decide) ?_
        refine x_mask [true, true, true, true, true, false, false, false, false] ?_
        dsimp only [mask]
        exact hn K2 _ _ hC2 hR2 hG
      · have hzz : z = r.2.1 := hz2 g
        have hvv := hv1 g
        subst hzz
        refine x_aload_n (pc := 880) rfl d332_880 ?_
        refine x_iconst (pc := 881) d332_881 ?_
        refine m_lald (pc := 882) (by omega) (by decide +kernel) d332_882 ?_
        refine x_iload (pc := 883) rfl d332_883 ?_
        refine x_i2lA (pc := 885) d332_885 ?_
        rw [hvv]
        refine x_lsame (pc := 886) (tgt := 892) (tI_r _) d332_886 d332_887 (by decide) ?_
        refine x_goto (pc := 892) (tgt := 3032) d332_892 (by decide) ?_
        refine x_mask [true, true, true, true, true, false, false, false, false] ?_
        dsimp only [mask]
        exact hn K2 _ _ hC2 hR2 hG
    · obtain ⟨z, K2, e, _⟩ := h9; cases e
  · obtain ⟨K1, v1, e, _⟩ := h9; cases e
theorem cs16 {k n : Nat} (hl : l.1.stackTraces = false) (hq : 193 ≤ q) (hC : CREL K S) (hR : RREL K S) (hS : GOK S) {i : Int} (i0 : 0 ≤ i) (i6 : i + 6 ≤ l.2.1) (hlen : (l.2.1 : Int) ≤ 2147483647) {Q : OO → Prop} (hn : ∀ (K2 : Nat → Int → Int) (v2 : Int) (S2 : GS), CREL K2 S2 → RREL K2 S2 → GOK S2 → Ex l 332 k n 3032 (lawL i) [] (mm q K2 v2 false) Q) : Ex l 332 (1 + k) (6 + n) 895 (lawL i) [] (mm q K v false) Q := by
  unfold lawL at hn ⊢
  have hcd : (oAsk S (isM S (scV l (i + 1))) (stA (gA S) (scV l (i + 1)))).1 = 0 ∨ (oAsk S (isM S (scV l (i + 1))) (stA (gA S) (scV l (i + 1)))).1 = 1 := by
    unfold oAsk
    repeat (first | exact Or.inl rfl | exact Or.inr rfl | split)
  have hG : GOK (oAsk S (isM S (scV l (i + 1))) (stA (gA S) (scV l (i + 1)))).2.2 := gok_ask hS
  have w1 := wr302 (q := q) (v := v) hl hq hC hS (scV_r l (i + 1))
  have w2 : ∀ (K1 : Nat → Int → Int) (v1 : Int), RREL K1 S → CT l 238 [.ref 181, .int (iI (scV l (i + 1)))] (mm q K1 v1 false) 0 0 (RQ q v1 false K1 (oAsk S (isM S (scV l (i + 1))) (stA (gA S) (scV l (i + 1))))) := fun K1 v1 hR1 => rm238 hl (by omega) hR1 hS (scV_r l (i + 1))
  generalize (oAsk S (isM S (scV l (i + 1))) (stA (gA S) (scV l (i + 1)))) = r at w1 w2 hcd hG
  refine x_aload_n (pc := 895) rfl d332_895 ?_
  refine x_aload_n (pc := 896) rfl d332_896 ?_
  refine x_iload (pc := 897) rfl d332_897 ?_
  refine x_iconst (pc := 899) d332_899 ?_
  refine x_iadd (pc := 900) d332_900 ?_
  refine x_sldR (pc := 901) (by omega) (by omega) (by omega) d332_901 ?_
  refine x_aload_n (pc := 902) rfl d332_902 ?_
  refine x_callSW (k := k) (n := n) (pc := 903) c332_204 w1 rfl rfl (Nat.le_of_ble_eq_true rfl) (by decide +kernel) (by decide +kernel) d332_903 (Or.inr fun v9 τ h9 => ?_) (fun v9 τ h9 => ?_) (fun E9 τ h9 _ => ?_)
  · obtain ⟨K1, v1, e, _⟩ := h9; cases e; rfl
  · obtain ⟨K1, v1, e, hC1, hk1, hv1⟩ := h9
    cases e
    show Ex l 332 k n 906 _ [.int (iI r.1)] _ _
    refine x_istore (pc := 906) (by decide +kernel) rfl d332_906 ?_
    dsimp only [List.set]
    refine x_aload_n (pc := 908) rfl d332_908 ?_
    refine x_aload_n (pc := 909) rfl d332_909 ?_
    refine x_iload (pc := 910) rfl d332_910 ?_
    refine x_iconst (pc := 912) d332_912 ?_
    refine x_iadd (pc := 913) d332_913 ?_
    refine x_sldR (pc := 914) (by omega) (by omega) (by omega) d332_914 ?_
    refine ex_00 (x_callV (pc := 915) c332_206 (w2 K1 v1 (hR.ge hk1)) (xo181 (by omega)) rfl rfl (Nat.le_of_ble_eq_true rfl) (by decide +kernel) (by decide +kernel) d332_915 (Or.inr fun v9 τ h9 => ?_) (fun v9 τ h9 => ?_) (fun E9 τ h9 _ => ?_))
    · obtain ⟨z, K2, e, _⟩ := h9; cases e; rfl
    · obtain ⟨z, K2, e, h6, hz2, hR2, hk2⟩ := h9
      cases e
      have hC2 : CREL K2 r.2.2 := hC1.lt fun a ha => hk2 a (Or.inl ha)
      show Ex l 332 k n 918 _ [.int (iI z)] _ _
      refine x_istore (pc := 918) (by decide +kernel) rfl d332_918 ?_
      dsimp only [List.set]
      refine x_aload_n (pc := 920) rfl d332_920 ?_
      refine x_cVs (pc := 921) c332_146 (rt_thrown hl hq h6) (xo181 (by omega)) rfl rfl (Nat.le_of_ble_eq_true rfl) (by decide +kernel) (by decide +kernel) rfl d332_921 ?_
      refine x_iload (pc := 924) rfl d332_924 ?_
      refine x_same (pc := 926) (tgt := 931) d332_926 (by decide) ?_
      refine x_iload (pc := 931) rfl d332_931 ?_
      refine x_if_ne (pc := 933) (tgt := 948) ⟨by omega, by omega⟩ d332_933 (by decide) (fun g => ?_) (fun g => ?_)
      · refine x_goto (pc := 948) (tgt := 3032) d332_948 (by decide) ?_
        refine x_mask [true, true, true, true, true, false, false, false, false] ?_
        dsimp only [mask]
        exact hn K2 _ _ hC2 hR2 hG
      · have hzz : z = r.2.1 := hz2 g
        have hvv := hv1 g
        subst hzz
        refine x_aload_n (pc := 936) rfl d332_936 ?_
        refine x_iconst (pc := 937) d332_937 ?_
        refine m_lald (pc := 938) (by omega) (by decide +kernel) d332_938 ?_
        refine x_iload (pc := 939) rfl d332_939 ?_
        refine x_i2lA (pc := 941) d332_941 ?_
        rw [hvv]
        refine x_lsame (pc := 942) (tgt := 948) (tI_r _) d332_942 d332_943 (by decide) ?_
        refine x_goto (pc := 948) (tgt := 3032) d332_948 (by decide) ?_
        refine x_mask [true, true, true, true, true, false, false, false, false] ?_
        dsimp only [mask]
        exact hn K2 _ _ hC2 hR2 hG
    · obtain ⟨z, K2, e, _⟩ := h9; cases e
  · obtain ⟨K1, v1, e, _⟩ := h9; cases e
theorem cs17 {k n : Nat} (hl : l.1.stackTraces = false) (hq : 193 ≤ q) (hC : CREL K S) (hR : RREL K S) (hS : GOK S) {i : Int} (i0 : 0 ≤ i) (i6 : i + 6 ≤ l.2.1) (hlen : (l.2.1 : Int) ≤ 2147483647) {Q : OO → Prop} (hn : ∀ (K2 : Nat → Int → Int) (v2 : Int) (S2 : GS), CREL K2 S2 → RREL K2 S2 → GOK S2 → Ex l 332 k n 3032 (lawL i) [] (mm q K2 v2 false) Q) : Ex l 332 (1 + k) (6 + n) 951 (lawL i) [] (mm q K v false) Q := by
  unfold lawL at hn ⊢
  have hcd : (oAsk S (isM S (scV l (i + 1))) (gA S 5 (scV l (i + 1)))).1 = 0 ∨ (oAsk S (isM S (scV l (i + 1))) (gA S 5 (scV l (i + 1)))).1 = 1 := by
    unfold oAsk
    repeat (first | exact Or.inl rfl | exact Or.inr rfl | split)
  have hG : GOK (oAsk S (isM S (scV l (i + 1))) (gA S 5 (scV l (i + 1)))).2.2 := gok_ask hS
  have w1 := wr303 (q := q) (v := v) hl hq hC hS (scV_r l (i + 1))
  have w2 : ∀ (K1 : Nat → Int → Int) (v1 : Int), RREL K1 S → CT l 239 [.ref 181, .int (iI (scV l (i + 1)))] (mm q K1 v1 false) 0 0 (RQ q v1 false K1 (oAsk S (isM S (scV l (i + 1))) (gA S 5 (scV l (i + 1))))) := fun K1 v1 hR1 => rm239 hl (by omega) hR1 hS (scV_r l (i + 1))
  generalize (oAsk S (isM S (scV l (i + 1))) (gA S 5 (scV l (i + 1)))) = r at w1 w2 hcd hG
  refine x_aload_n (pc := 951) rfl d332_951 ?_
  refine x_aload_n (pc := 952) rfl d332_952 ?_
  refine x_iload (pc := 953) rfl d332_953 ?_
  refine x_iconst (pc := 955) d332_955 ?_
  refine x_iadd (pc := 956) d332_956 ?_
  refine x_sldR (pc := 957) (by omega) (by omega) (by omega) d332_957 ?_
  refine x_aload_n (pc := 958) rfl d332_958 ?_
  refine x_callSW (k := k) (n := n) (pc := 959) c332_207 w1 rfl rfl (Nat.le_of_ble_eq_true rfl) (by decide +kernel) (by decide +kernel) d332_959 (Or.inr fun v9 τ h9 => ?_) (fun v9 τ h9 => ?_) (fun E9 τ h9 _ => ?_)
  · obtain ⟨K1, v1, e, _⟩ := h9; cases e; rfl
  · obtain ⟨K1, v1, e, hC1, hk1, hv1⟩ := h9
    cases e
    show Ex l 332 k n 962 _ [.int (iI r.1)] _ _
    refine x_istore (pc := 962) (by decide +kernel) rfl d332_962 ?_
    dsimp only [List.set]
    refine x_aload_n (pc := 964) rfl d332_964 ?_
    refine x_aload_n (pc := 965) rfl d332_965 ?_
    refine x_iload (pc := 966) rfl d332_966 ?_
    refine x_iconst (pc := 968) d332_968 ?_
    refine x_iadd (pc := 969) d332_969 ?_
    refine x_sldR (pc := 970) (by omega) (by omega) (by omega) d332_970 ?_
    refine ex_00 (x_callV (pc := 971) c332_209 (w2 K1 v1 (hR.ge hk1)) (xo181 (by omega)) rfl rfl (Nat.le_of_ble_eq_true rfl) (by decide +kernel) (by decide +kernel) d332_971 (Or.inr fun v9 τ h9 => ?_) (fun v9 τ h9 => ?_) (fun E9 τ h9 _ => ?_))
    · obtain ⟨z, K2, e, _⟩ := h9; cases e; rfl
    · obtain ⟨z, K2, e, h6, hz2, hR2, hk2⟩ := h9
      cases e
      have hC2 : CREL K2 r.2.2 := hC1.lt fun a ha => hk2 a (Or.inl ha)
      show Ex l 332 k n 974 _ [.int (iI z)] _ _
      refine x_istore (pc := 974) (by decide +kernel) rfl d332_974 ?_
      dsimp only [List.set]
      refine x_aload_n (pc := 976) rfl d332_976 ?_
      refine x_cVs (pc := 977) c332_146 (rt_thrown hl hq h6) (xo181 (by omega)) rfl rfl (Nat.le_of_ble_eq_true rfl) (by decide +kernel) (by decide +kernel) rfl d332_977 ?_
      refine x_iload (pc := 980) rfl d332_980 ?_
      refine x_same (pc := 982) (tgt := 987) d332_982 (by decide) ?_
      refine x_iload (pc := 987) rfl d332_987 ?_
      refine x_if_ne (pc := 989) (tgt := 1004) ⟨by omega, by omega⟩ d332_989 (by decide) (fun g => ?_) (fun g => ?_)
      · refine x_goto (pc := 1004) (tgt := 3032) d332_1004 (by decide) ?_
        refine x_mask [true, true, true, true, true, false, false, false, false] ?_
        dsimp only [mask]
        exact hn K2 _ _ hC2 hR2 hG
      · have hzz : z = r.2.1 := hz2 g
        have hvv := hv1 g
        subst hzz
        refine x_aload_n (pc := 992) rfl d332_992 ?_
        refine x_iconst (pc := 993) d332_993 ?_
        refine m_lald (pc := 994) (by omega) (by decide +kernel) d332_994 ?_
        refine x_iload (pc := 995) rfl d332_995 ?_
        refine x_i2lA (pc := 997) d332_997 ?_
        rw [hvv]
        refine x_lsame (pc := 998) (tgt := 1004) (tI_r _) d332_998 d332_999 (by decide) ?_
        refine x_goto (pc := 1004) (tgt := 3032) d332_1004 (by decide) ?_
        refine x_mask [true, true, true, true, true, false, false, false, false] ?_
        dsimp only [mask]
        exact hn K2 _ _ hC2 hR2 hG
    · obtain ⟨z, K2, e, _⟩ := h9; cases e
  · obtain ⟨K1, v1, e, _⟩ := h9; cases e
theorem cs18 {k n : Nat} (hl : l.1.stackTraces = false) (hq : 193 ≤ q) (hC : CREL K S) (hR : RREL K S) (hS : GOK S) {i : Int} (i0 : 0 ≤ i) (i6 : i + 6 ≤ l.2.1) (hlen : (l.2.1 : Int) ≤ 2147483647) {Q : OO → Prop} (hn : ∀ (K2 : Nat → Int → Int) (v2 : Int) (S2 : GS), CREL K2 S2 → RREL K2 S2 → GOK S2 → Ex l 332 k n 3032 (lawL i) [] (mm q K2 v2 false) Q) : Ex l 332 (1 + k) (6 + n) 1007 (lawL i) [] (mm q K v false) Q := by
  unfold lawL at hn ⊢
  have w1 := cm94 (q := q) (v := v) (E := fun _ => 0) hl (by omega) hC 
  have w2 : ∀ (K1 : Nat → Int → Int), RREL K1 S → CT l 240 [.ref 181] (mm q K1 v false) 0 0 (RQ q v false K1 (0, gA S 0 6, S)) := fun K1 hR1 => rm240 hl (by omega) hR1 hS 
  have h0 : ((0, gA S 0 6, S) : Int × Int × GS).1 = 0 := rfl
  have hG : GOK ((0, gA S 0 6, S) : Int × Int × GS).2.2 := hS
  generalize ((0, gA S 0 6, S) : Int × Int × GS) = r at w1 w2 h0 hG
  refine x_aload_n (pc := 1007) rfl d332_1007 ?_
  refine x_callV (k := k) (n := n) (pc := 1008) c332_210 w1 (ko0 (by omega)) rfl rfl (Nat.le_of_ble_eq_true rfl) (by decide +kernel) (by decide +kernel) d332_1008 (Or.inr fun v9 τ h9 => ?_) (fun v9 τ h9 => ?_) (fun E9 τ h9 _ => ?_)
  · rcases h9 with ⟨_, K1, e, _⟩ | ⟨_, K1, e, _⟩
    · cases e; rfl
    · cases e
  · rcases h9 with ⟨_, K1, e, hC1, hk1⟩ | ⟨_, K1, e, _⟩
    · cases e
      show Ex l 332 k n 1011 _ [.int (iI r.2.1)] _ _
      refine x_aload_n (pc := 1011) rfl d332_1011 ?_
      refine ex_00 (x_callV (pc := 1012) c332_213 (w2 K1 (hR.ge hk1)) (xo181 (by omega)) rfl rfl (Nat.le_of_ble_eq_true rfl) (by decide +kernel) (by decide +kernel) d332_1012 (Or.inr fun v9 τ h9 => ?_) (fun v9 τ h9 => ?_) (fun E9 τ h9 _ => ?_))
      · obtain ⟨z, K2, e, _⟩ := h9; cases e; rfl
      · obtain ⟨z, K2, e, h6, hz2, hR2, hk2⟩ := h9
        cases e
        have hC2 : CREL K2 r.2.2 := hC1.lt fun a ha => hk2 a (Or.inl ha)
        have hzz : z = r.2.1 := hz2 h0
        subst hzz
        show Ex l 332 k n 1015 _ [.int (iI r.2.1), .int (iI r.2.1)] _ _
        refine x_same (pc := 1015) (tgt := 3032) d332_1015 (by decide) ?_
        exact hn K2 v _ hC2 hR2 hG
      · obtain ⟨z, K2, e, _⟩ := h9; cases e
    · cases e
  · rcases h9 with ⟨_, K1, e, _⟩ | ⟨g9, K1, e, _⟩
    · cases e
    · exact absurd h0 g9
theorem cs19 {k n : Nat} (hl : l.1.stackTraces = false) (hq : 193 ≤ q) (hC : CREL K S) (hR : RREL K S) (hS : GOK S) {i : Int} (i0 : 0 ≤ i) (i6 : i + 6 ≤ l.2.1) (hlen : (l.2.1 : Int) ≤ 2147483647) {Q : OO → Prop} (hn : ∀ (K2 : Nat → Int → Int) (v2 : Int) (S2 : GS), CREL K2 S2 → RREL K2 S2 → GOK S2 → Ex l 332 k n 3032 (lawL i) [] (mm q K2 v2 false) Q) : Ex l 332 (1 + k) (6 + n) 1020 (lawL i) [] (mm q K v false) Q := by
  unfold lawL at hn ⊢
  have hcd : (oAsk S (isF S (scV l (i + 1))) (gA S 6 (scV l (i + 1)))).1 = 0 ∨ (oAsk S (isF S (scV l (i + 1))) (gA S 6 (scV l (i + 1)))).1 = 1 := by
    unfold oAsk
    repeat (first | exact Or.inl rfl | exact Or.inr rfl | split)
  have hG : GOK (oAsk S (isF S (scV l (i + 1))) (gA S 6 (scV l (i + 1)))).2.2 := gok_ask hS
  have w1 := wr304 (q := q) (v := v) hl hq hC hS (scV_r l (i + 1))
  have w2 : ∀ (K1 : Nat → Int → Int) (v1 : Int), RREL K1 S → CT l 241 [.ref 181, .int (iI (scV l (i + 1)))] (mm q K1 v1 false) 0 0 (RQ q v1 false K1 (oAsk S (isF S (scV l (i + 1))) (gA S 6 (scV l (i + 1))))) := fun K1 v1 hR1 => rm241 hl (by omega) hR1 hS (scV_r l (i + 1))
  generalize (oAsk S (isF S (scV l (i + 1))) (gA S 6 (scV l (i + 1)))) = r at w1 w2 hcd hG
  refine x_aload_n (pc := 1020) rfl d332_1020 ?_
  refine x_aload_n (pc := 1021) rfl d332_1021 ?_
  refine x_iload (pc := 1022) rfl d332_1022 ?_
  refine x_iconst (pc := 1024) d332_1024 ?_
  refine x_iadd (pc := 1025) d332_1025 ?_
  refine x_sldR (pc := 1026) (by omega) (by omega) (by omega) d332_1026 ?_
  refine x_aload_n (pc := 1027) rfl d332_1027 ?_
  refine x_callSW (k := k) (n := n) (pc := 1028) c332_214 w1 rfl rfl (Nat.le_of_ble_eq_true rfl) (by decide +kernel) (by decide +kernel) d332_1028 (Or.inr fun v9 τ h9 => ?_) (fun v9 τ h9 => ?_) (fun E9 τ h9 _ => ?_)
  · obtain ⟨K1, v1, e, _⟩ := h9; cases e; rfl
  · obtain ⟨K1, v1, e, hC1, hk1, hv1⟩ := h9
    cases e
    show Ex l 332 k n 1031 _ [.int (iI r.1)] _ _
    refine x_istore (pc := 1031) (by decide +kernel) rfl d332_1031 ?_
    dsimp only [List.set]
    refine x_aload_n (pc := 1033) rfl d332_1033 ?_
    refine x_aload_n (pc := 1034) rfl d332_1034 ?_
    refine x_iload (pc := 1035) rfl d332_1035 ?_
    refine x_iconst (pc := 1037) d332_1037 ?_
    refine x_iadd (pc := 1038) d332_1038 ?_
    refine x_sldR (pc := 1039) (by omega) (by omega) (by omega) d332_1039 ?_
    refine ex_00 (x_callV (pc := 1040) c332_216 (w2 K1 v1 (hR.ge hk1)) (xo181 (by omega)) rfl rfl (Nat.le_of_ble_eq_true rfl) (by decide +kernel) (by decide +kernel) d332_1040 (Or.inr fun v9 τ h9 => ?_) (fun v9 τ h9 => ?_) (fun E9 τ h9 _ => ?_))
    · obtain ⟨z, K2, e, _⟩ := h9; cases e; rfl
    · obtain ⟨z, K2, e, h6, hz2, hR2, hk2⟩ := h9
      cases e
      have hC2 : CREL K2 r.2.2 := hC1.lt fun a ha => hk2 a (Or.inl ha)
      show Ex l 332 k n 1043 _ [.int (iI z)] _ _
      refine x_istore (pc := 1043) (by decide +kernel) rfl d332_1043 ?_
      dsimp only [List.set]
      refine x_aload_n (pc := 1045) rfl d332_1045 ?_
      refine x_cVs (pc := 1046) c332_146 (rt_thrown hl hq h6) (xo181 (by omega)) rfl rfl (Nat.le_of_ble_eq_true rfl) (by decide +kernel) (by decide +kernel) rfl d332_1046 ?_
      refine x_iload (pc := 1049) rfl d332_1049 ?_
      refine x_same (pc := 1051) (tgt := 1056) d332_1051 (by decide) ?_
      refine x_iload (pc := 1056) rfl d332_1056 ?_
      refine x_if_ne (pc := 1058) (tgt := 1073) ⟨by omega, by omega⟩ d332_1058 (by decide) (fun g => ?_) (fun g => ?_)
      · refine x_goto (pc := 1073) (tgt := 3032) d332_1073 (by decide) ?_
        refine x_mask [true, true, true, true, true, false, false, false, false] ?_
        dsimp only [mask]
        exact hn K2 _ _ hC2 hR2 hG
      · have hzz : z = r.2.1 := hz2 g
        have hvv := hv1 g
        subst hzz
        refine x_aload_n (pc := 1061) rfl d332_1061 ?_
        refine x_iconst (pc := 1062) d332_1062 ?_
        refine m_lald (pc := 1063) (by omega) (by decide +kernel) d332_1063 ?_
        refine x_iload (pc := 1064) rfl d332_1064 ?_
        refine x_i2lA (pc := 1066) d332_1066 ?_
        rw [hvv]
        refine x_lsame (pc := 1067) (tgt := 1073) (tI_r _) d332_1067 d332_1068 (by decide) ?_
        refine x_goto (pc := 1073) (tgt := 3032) d332_1073 (by decide) ?_
        refine x_mask [true, true, true, true, true, false, false, false, false] ?_
        dsimp only [mask]
        exact hn K2 _ _ hC2 hR2 hG
    · obtain ⟨z, K2, e, _⟩ := h9; cases e
  · obtain ⟨K1, v1, e, _⟩ := h9; cases e
theorem cs20 {k n : Nat} (hl : l.1.stackTraces = false) (hq : 193 ≤ q) (hC : CREL K S) (hR : RREL K S) (hS : GOK S) {i : Int} (i0 : 0 ≤ i) (i6 : i + 6 ≤ l.2.1) (hlen : (l.2.1 : Int) ≤ 2147483647) {Q : OO → Prop} (hn : ∀ (K2 : Nat → Int → Int) (v2 : Int) (S2 : GS), CREL K2 S2 → RREL K2 S2 → GOK S2 → Ex l 332 k n 3032 (lawL i) [] (mm q K2 v2 false) Q) : Ex l 332 (1 + k) (6 + n) 1076 (lawL i) [] (mm q K v false) Q := by
  unfold lawL at hn ⊢
  have hcd : (oAsk S (isF S (scV l (i + 1))) (if 0 ≤ (scV l (i + 2)) ∧ (scV l (i + 2)) < gA S 6 (scV l (i + 1)) then gA S 10 (6 * (scV l (i + 1)) + (scV l (i + 2))) else -1)).1 = 0 ∨ (oAsk S (isF S (scV l (i + 1))) (if 0 ≤ (scV l (i + 2)) ∧ (scV l (i + 2)) < gA S 6 (scV l (i + 1)) then gA S 10 (6 * (scV l (i + 1)) + (scV l (i + 2))) else -1)).1 = 1 := by
    unfold oAsk
    repeat (first | exact Or.inl rfl | exact Or.inr rfl | split)
  have hG : GOK (oAsk S (isF S (scV l (i + 1))) (if 0 ≤ (scV l (i + 2)) ∧ (scV l (i + 2)) < gA S 6 (scV l (i + 1)) then gA S 10 (6 * (scV l (i + 1)) + (scV l (i + 2))) else -1)).2.2 := gok_ask hS
  have w1 := wr305 (q := q) (v := v) hl hq hC hS (scV_r l (i + 1)) (scV_r l (i + 2))
  have w2 : ∀ (K1 : Nat → Int → Int) (v1 : Int), RREL K1 S → CT l 242 [.ref 181, .int (iI (scV l (i + 1))), .int (iI (scV l (i + 2)))] (mm q K1 v1 false) 0 0 (RQ q v1 false K1 (oAsk S (isF S (scV l (i + 1))) (if 0 ≤ (scV l (i + 2)) ∧ (scV l (i + 2)) < gA S 6 (scV l (i + 1)) then gA S 10 (6 * (scV l (i + 1)) + (scV l (i + 2))) else -1))) := fun K1 v1 hR1 => rm242 hl (by omega) hR1 hS (scV_r l (i + 1)) (scV_r l (i + 2))
  generalize (oAsk S (isF S (scV l (i + 1))) (if 0 ≤ (scV l (i + 2)) ∧ (scV l (i + 2)) < gA S 6 (scV l (i + 1)) then gA S 10 (6 * (scV l (i + 1)) + (scV l (i + 2))) else -1)) = r at w1 w2 hcd hG
  refine x_aload_n (pc := 1076) rfl d332_1076 ?_
  refine x_aload_n (pc := 1077) rfl d332_1077 ?_
  refine x_iload (pc := 1078) rfl d332_1078 ?_
  refine x_iconst (pc := 1080) d332_1080 ?_
  refine x_iadd (pc := 1081) d332_1081 ?_
  refine x_sldR (pc := 1082) (by omega) (by omega) (by omega) d332_1082 ?_
  refine x_aload_n (pc := 1083) rfl d332_1083 ?_
  refine x_iload (pc := 1084) rfl d332_1084 ?_
  refine x_iconst (pc := 1086) d332_1086 ?_
  refine x_iadd (pc := 1087) d332_1087 ?_
  refine x_sldR (pc := 1088) (by omega) (by omega) (by omega) d332_1088 ?_
  refine x_aload_n (pc := 1089) rfl d332_1089 ?_
  refine x_callSW (k := k) (n := n) (pc := 1090) c332_217 w1 rfl rfl (Nat.le_of_ble_eq_true rfl) (by decide +kernel) (by decide +kernel) d332_1090 (Or.inr fun v9 τ h9 => ?_) (fun v9 τ h9 => ?_) (fun E9 τ h9 _ => ?_)
  · obtain ⟨K1, v1, e, _⟩ := h9; cases e; rfl
  · obtain ⟨K1, v1, e, hC1, hk1, hv1⟩ := h9
    cases e
    show Ex l 332 k n 1093 _ [.int (iI r.1)] _ _
    refine x_istore (pc := 1093) (by decide +kernel) rfl d332_1093 ?_
    dsimp only [List.set]
    refine x_aload_n (pc := 1095) rfl d332_1095 ?_
    refine x_aload_n (pc := 1096) rfl d332_1096 ?_
    refine x_iload (pc := 1097) rfl d332_1097 ?_
    refine x_iconst (pc := 1099) d332_1099 ?_
    refine x_iadd (pc := 1100) d332_1100 ?_
    refine x_sldR (pc := 1101) (by omega) (by omega) (by omega) d332_1101 ?_
    refine x_aload_n (pc := 1102) rfl d332_1102 ?_
    refine x_iload (pc := 1103) rfl d332_1103 ?_
    refine x_iconst (pc := 1105) d332_1105 ?_
    refine x_iadd (pc := 1106) d332_1106 ?_
    refine x_sldR (pc := 1107) (by omega) (by omega) (by omega) d332_1107 ?_
    refine ex_00 (x_callV (pc := 1108) c332_220 (w2 K1 v1 (hR.ge hk1)) (xo181 (by omega)) rfl rfl (Nat.le_of_ble_eq_true rfl) (by decide +kernel) (by decide +kernel) d332_1108 (Or.inr fun v9 τ h9 => ?_) (fun v9 τ h9 => ?_) (fun E9 τ h9 _ => ?_))
    · obtain ⟨z, K2, e, _⟩ := h9; cases e; rfl
    · obtain ⟨z, K2, e, h6, hz2, hR2, hk2⟩ := h9
      cases e
      have hC2 : CREL K2 r.2.2 := hC1.lt fun a ha => hk2 a (Or.inl ha)
      show Ex l 332 k n 1111 _ [.int (iI z)] _ _
      refine x_istore (pc := 1111) (by decide +kernel) rfl d332_1111 ?_
      dsimp only [List.set]
      refine x_aload_n (pc := 1113) rfl d332_1113 ?_
      refine x_cVs (pc := 1114) c332_146 (rt_thrown hl hq h6) (xo181 (by omega)) rfl rfl (Nat.le_of_ble_eq_true rfl) (by decide +kernel) (by decide +kernel) rfl d332_1114 ?_
      refine x_iload (pc := 1117) rfl d332_1117 ?_
      refine x_same (pc := 1119) (tgt := 1124) d332_1119 (by decide) ?_
      refine x_iload (pc := 1124) rfl d332_1124 ?_
      refine x_if_ne (pc := 1126) (tgt := 1141) ⟨by omega, by omega⟩ d332_1126 (by decide) (fun g => ?_) (fun g => ?_)
      · refine x_goto (pc := 1141) (tgt := 3032) d332_1141 (by decide) ?_
        refine x_mask [true, true, true, true, true, false, false, false, false] ?_
        dsimp only [mask]
        exact hn K2 _ _ hC2 hR2 hG
      · have hzz : z = r.2.1 := hz2 g
        have hvv := hv1 g
        subst hzz
        refine x_aload_n (pc := 1129) rfl d332_1129 ?_
        refine x_iconst (pc := 1130) d332_1130 ?_
        refine m_lald (pc := 1131) (by omega) (by decide +kernel) d332_1131 ?_
        refine x_iload (pc := 1132) rfl d332_1132 ?_
        refine x_i2lA (pc := 1134) d332_1134 ?_
        rw [hvv]
        refine x_lsame (pc := 1135) (tgt := 1141) (tI_r _) d332_1135 d332_1136 (by decide) ?_
        refine x_goto (pc := 1141) (tgt := 3032) d332_1141 (by decide) ?_
        refine x_mask [true, true, true, true, true, false, false, false, false] ?_
        dsimp only [mask]
        exact hn K2 _ _ hC2 hR2 hG
    · obtain ⟨z, K2, e, _⟩ := h9; cases e
  · obtain ⟨K1, v1, e, _⟩ := h9; cases e
theorem cs21 {k n : Nat} (hl : l.1.stackTraces = false) (hq : 193 ≤ q) (hC : CREL K S) (hR : RREL K S) (hS : GOK S) {i : Int} (i0 : 0 ≤ i) (i6 : i + 6 ≤ l.2.1) (hlen : (l.2.1 : Int) ≤ 2147483647) {Q : OO → Prop} (hn : ∀ (K2 : Nat → Int → Int) (v2 : Int) (S2 : GS), CREL K2 S2 → RREL K2 S2 → GOK S2 → Ex l 332 k n 3032 (lawL i) [] (mm q K2 v2 false) Q) : Ex l 332 (1 + k) (6 + n) 1144 (lawL i) [] (mm q K v false) Q := by
  unfold lawL at hn ⊢
  have hcd : (oAsk S (isF S (scV l (i + 1))) (if 0 ≤ (scV l (i + 2)) ∧ (scV l (i + 2)) < gA S 6 (scV l (i + 1)) * 8 then bitZ (SfA (gA S) (scV l (i + 1))) (scV l (i + 2)) else -1)).1 = 0 ∨ (oAsk S (isF S (scV l (i + 1))) (if 0 ≤ (scV l (i + 2)) ∧ (scV l (i + 2)) < gA S 6 (scV l (i + 1)) * 8 then bitZ (SfA (gA S) (scV l (i + 1))) (scV l (i + 2)) else -1)).1 = 1 := by
    unfold oAsk
    repeat (first | exact Or.inl rfl | exact Or.inr rfl | split)
  have hG : GOK (oAsk S (isF S (scV l (i + 1))) (if 0 ≤ (scV l (i + 2)) ∧ (scV l (i + 2)) < gA S 6 (scV l (i + 1)) * 8 then bitZ (SfA (gA S) (scV l (i + 1))) (scV l (i + 2)) else -1)).2.2 := gok_ask hS
  have w1 := wr306 (q := q) (v := v) hl hq hC hS (scV_r l (i + 1)) (scV_r l (i + 2))
  have w2 : ∀ (K1 : Nat → Int → Int) (v1 : Int), RREL K1 S → CT l 244 [.ref 181, .int (iI (scV l (i + 1))), .int (iI (scV l (i + 2)))] (mm q K1 v1 false) 0 0 (RQ q v1 false K1 (oAsk S (isF S (scV l (i + 1))) (if 0 ≤ (scV l (i + 2)) ∧ (scV l (i + 2)) < gA S 6 (scV l (i + 1)) * 8 then bitZ (SfA (gA S) (scV l (i + 1))) (scV l (i + 2)) else -1))) := fun K1 v1 hR1 => rm244 hl (by omega) hR1 hS (scV_r l (i + 1)) (scV_r l (i + 2))
  generalize (oAsk S (isF S (scV l (i + 1))) (if 0 ≤ (scV l (i + 2)) ∧ (scV l (i + 2)) < gA S 6 (scV l (i + 1)) * 8 then bitZ (SfA (gA S) (scV l (i + 1))) (scV l (i + 2)) else -1)) = r at w1 w2 hcd hG
  refine x_aload_n (pc := 1144) rfl d332_1144 ?_
  refine x_aload_n (pc := 1145) rfl d332_1145 ?_
  refine x_iload (pc := 1146) rfl d332_1146 ?_
  refine x_iconst (pc := 1148) d332_1148 ?_
  refine x_iadd (pc := 1149) d332_1149 ?_
  refine x_sldR (pc := 1150) (by omega) (by omega) (by omega) d332_1150 ?_
  refine x_aload_n (pc := 1151) rfl d332_1151 ?_
  refine x_iload (pc := 1152) rfl d332_1152 ?_
  refine x_iconst (pc := 1154) d332_1154 ?_
  refine x_iadd (pc := 1155) d332_1155 ?_
  refine x_sldR (pc := 1156) (by omega) (by omega) (by omega) d332_1156 ?_
  refine x_aload_n (pc := 1157) rfl d332_1157 ?_
  refine x_callSW (k := k) (n := n) (pc := 1158) c332_221 w1 rfl rfl (Nat.le_of_ble_eq_true rfl) (by decide +kernel) (by decide +kernel) d332_1158 (Or.inr fun v9 τ h9 => ?_) (fun v9 τ h9 => ?_) (fun E9 τ h9 _ => ?_)
  · obtain ⟨K1, v1, e, _⟩ := h9; cases e; rfl
  · obtain ⟨K1, v1, e, hC1, hk1, hv1⟩ := h9
    cases e
    show Ex l 332 k n 1161 _ [.int (iI r.1)] _ _
    refine x_istore (pc := 1161) (by decide +kernel) rfl d332_1161 ?_
    dsimp only [List.set]
    refine x_aload_n (pc := 1163) rfl d332_1163 ?_
    refine x_aload_n (pc := 1164) rfl d332_1164 ?_
    refine x_iload (pc := 1165) rfl d332_1165 ?_
    refine x_iconst (pc := 1167) d332_1167 ?_
    refine x_iadd (pc := 1168) d332_1168 ?_
    refine x_sldR (pc := 1169) (by omega) (by omega) (by omega) d332_1169 ?_
    refine x_aload_n (pc := 1170) rfl d332_1170 ?_
    refine x_iload (pc := 1171) rfl d332_1171 ?_
    refine x_iconst (pc := 1173) d332_1173 ?_
    refine x_iadd (pc := 1174) d332_1174 ?_
    refine x_sldR (pc := 1175) (by omega) (by omega) (by omega) d332_1175 ?_
    refine ex_00 (x_callV (pc := 1176) c332_223 (w2 K1 v1 (hR.ge hk1)) (xo181 (by omega)) rfl rfl (Nat.le_of_ble_eq_true rfl) (by decide +kernel) (by decide +kernel) d332_1176 (Or.inr fun v9 τ h9 => ?_) (fun v9 τ h9 => ?_) (fun E9 τ h9 _ => ?_))
    · obtain ⟨z, K2, e, _⟩ := h9; cases e; rfl
    · obtain ⟨z, K2, e, h6, hz2, hR2, hk2⟩ := h9
      cases e
      have hC2 : CREL K2 r.2.2 := hC1.lt fun a ha => hk2 a (Or.inl ha)
      show Ex l 332 k n 1179 _ [.int (iI z)] _ _
      refine x_istore (pc := 1179) (by decide +kernel) rfl d332_1179 ?_
      dsimp only [List.set]
      refine x_aload_n (pc := 1181) rfl d332_1181 ?_
      refine x_cVs (pc := 1182) c332_146 (rt_thrown hl hq h6) (xo181 (by omega)) rfl rfl (Nat.le_of_ble_eq_true rfl) (by decide +kernel) (by decide +kernel) rfl d332_1182 ?_
      refine x_iload (pc := 1185) rfl d332_1185 ?_
      refine x_same (pc := 1187) (tgt := 1192) d332_1187 (by decide) ?_
      refine x_iload (pc := 1192) rfl d332_1192 ?_
      refine x_if_ne (pc := 1194) (tgt := 1209) ⟨by omega, by omega⟩ d332_1194 (by decide) (fun g => ?_) (fun g => ?_)
      · refine x_goto (pc := 1209) (tgt := 3032) d332_1209 (by decide) ?_
        refine x_mask [true, true, true, true, true, false, false, false, false] ?_
        dsimp only [mask]
        exact hn K2 _ _ hC2 hR2 hG
      · have hzz : z = r.2.1 := hz2 g
        have hvv := hv1 g
        subst hzz
        refine x_aload_n (pc := 1197) rfl d332_1197 ?_
        refine x_iconst (pc := 1198) d332_1198 ?_
        refine m_lald (pc := 1199) (by omega) (by decide +kernel) d332_1199 ?_
        refine x_iload (pc := 1200) rfl d332_1200 ?_
        refine x_i2lA (pc := 1202) d332_1202 ?_
        rw [hvv]
        refine x_lsame (pc := 1203) (tgt := 1209) (tI_r _) d332_1203 d332_1204 (by decide) ?_
        refine x_goto (pc := 1209) (tgt := 3032) d332_1209 (by decide) ?_
        refine x_mask [true, true, true, true, true, false, false, false, false] ?_
        dsimp only [mask]
        exact hn K2 _ _ hC2 hR2 hG
    · obtain ⟨z, K2, e, _⟩ := h9; cases e
  · obtain ⟨K1, v1, e, _⟩ := h9; cases e
theorem cs22 {k n : Nat} (hl : l.1.stackTraces = false) (hq : 193 ≤ q) (hC : CREL K S) (hR : RREL K S) (hS : GOK S) {i : Int} (i0 : 0 ≤ i) (i6 : i + 6 ≤ l.2.1) (hlen : (l.2.1 : Int) ≤ 2147483647) {Q : OO → Prop} (hn : ∀ (K2 : Nat → Int → Int) (v2 : Int) (S2 : GS), CREL K2 S2 → RREL K2 S2 → GOK S2 → Ex l 332 k n 3032 (lawL i) [] (mm q K2 v2 false) Q) : Ex l 332 (1 + k) (6 + n) 1212 (lawL i) [] (mm q K v false) Q := by
  unfold lawL at hn ⊢
  have hcd : (oAsk S (isF S (scV l (i + 1))) (gA S 7 (scV l (i + 1)))).1 = 0 ∨ (oAsk S (isF S (scV l (i + 1))) (gA S 7 (scV l (i + 1)))).1 = 1 := by
    unfold oAsk
    repeat (first | exact Or.inl rfl | exact Or.inr rfl | split)
  have hG : GOK (oAsk S (isF S (scV l (i + 1))) (gA S 7 (scV l (i + 1)))).2.2 := gok_ask hS
  have w1 := wr307 (q := q) (v := v) hl hq hC hS (scV_r l (i + 1))
  have w2 : ∀ (K1 : Nat → Int → Int) (v1 : Int), RREL K1 S → CT l 245 [.ref 181, .int (iI (scV l (i + 1)))] (mm q K1 v1 false) 0 0 (RQ q v1 false K1 (oAsk S (isF S (scV l (i + 1))) (gA S 7 (scV l (i + 1))))) := fun K1 v1 hR1 => rm245 hl (by omega) hR1 hS (scV_r l (i + 1))
  generalize (oAsk S (isF S (scV l (i + 1))) (gA S 7 (scV l (i + 1)))) = r at w1 w2 hcd hG
  refine x_aload_n (pc := 1212) rfl d332_1212 ?_
  refine x_aload_n (pc := 1213) rfl d332_1213 ?_
  refine x_iload (pc := 1214) rfl d332_1214 ?_
  refine x_iconst (pc := 1216) d332_1216 ?_
  refine x_iadd (pc := 1217) d332_1217 ?_
  refine x_sldR (pc := 1218) (by omega) (by omega) (by omega) d332_1218 ?_
  refine x_aload_n (pc := 1219) rfl d332_1219 ?_
  refine x_callSW (k := k) (n := n) (pc := 1220) c332_224 w1 rfl rfl (Nat.le_of_ble_eq_true rfl) (by decide +kernel) (by decide +kernel) d332_1220 (Or.inr fun v9 τ h9 => ?_) (fun v9 τ h9 => ?_) (fun E9 τ h9 _ => ?_)
  · obtain ⟨K1, v1, e, _⟩ := h9; cases e; rfl
  · obtain ⟨K1, v1, e, hC1, hk1, hv1⟩ := h9
    cases e
    show Ex l 332 k n 1223 _ [.int (iI r.1)] _ _
    refine x_istore (pc := 1223) (by decide +kernel) rfl d332_1223 ?_
    dsimp only [List.set]
    refine x_aload_n (pc := 1225) rfl d332_1225 ?_
    refine x_aload_n (pc := 1226) rfl d332_1226 ?_
    refine x_iload (pc := 1227) rfl d332_1227 ?_
    refine x_iconst (pc := 1229) d332_1229 ?_
    refine x_iadd (pc := 1230) d332_1230 ?_
    refine x_sldR (pc := 1231) (by omega) (by omega) (by omega) d332_1231 ?_
    refine ex_00 (x_callV (pc := 1232) c332_226 (w2 K1 v1 (hR.ge hk1)) (xo181 (by omega)) rfl rfl (Nat.le_of_ble_eq_true rfl) (by decide +kernel) (by decide +kernel) d332_1232 (Or.inr fun v9 τ h9 => ?_) (fun v9 τ h9 => ?_) (fun E9 τ h9 _ => ?_))
    · obtain ⟨z, K2, e, _⟩ := h9; cases e; rfl
    · obtain ⟨z, K2, e, h6, hz2, hR2, hk2⟩ := h9
      cases e
      have hC2 : CREL K2 r.2.2 := hC1.lt fun a ha => hk2 a (Or.inl ha)
      show Ex l 332 k n 1235 _ [.int (iI z)] _ _
      refine x_istore (pc := 1235) (by decide +kernel) rfl d332_1235 ?_
      dsimp only [List.set]
      refine x_aload_n (pc := 1237) rfl d332_1237 ?_
      refine x_cVs (pc := 1238) c332_146 (rt_thrown hl hq h6) (xo181 (by omega)) rfl rfl (Nat.le_of_ble_eq_true rfl) (by decide +kernel) (by decide +kernel) rfl d332_1238 ?_
      refine x_iload (pc := 1241) rfl d332_1241 ?_
      refine x_same (pc := 1243) (tgt := 1248) d332_1243 (by decide) ?_
      refine x_iload (pc := 1248) rfl d332_1248 ?_
      refine x_if_ne (pc := 1250) (tgt := 1265) ⟨by omega, by omega⟩ d332_1250 (by decide) (fun g => ?_) (fun g => ?_)
      · refine x_goto (pc := 1265) (tgt := 3032) d332_1265 (by decide) ?_
        refine x_mask [true, true, true, true, true, false, false, false, false] ?_
        dsimp only [mask]
        exact hn K2 _ _ hC2 hR2 hG
      · have hzz : z = r.2.1 := hz2 g
        have hvv := hv1 g
        subst hzz
        refine x_aload_n (pc := 1253) rfl d332_1253 ?_
        refine x_iconst (pc := 1254) d332_1254 ?_
        refine m_lald (pc := 1255) (by omega) (by decide +kernel) d332_1255 ?_
        refine x_iload (pc := 1256) rfl d332_1256 ?_
        refine x_i2lA (pc := 1258) d332_1258 ?_
        rw [hvv]
        refine x_lsame (pc := 1259) (tgt := 1265) (tI_r _) d332_1259 d332_1260 (by decide) ?_
        refine x_goto (pc := 1265) (tgt := 3032) d332_1265 (by decide) ?_
        refine x_mask [true, true, true, true, true, false, false, false, false] ?_
        dsimp only [mask]
        exact hn K2 _ _ hC2 hR2 hG
    · obtain ⟨z, K2, e, _⟩ := h9; cases e
  · obtain ⟨K1, v1, e, _⟩ := h9; cases e
theorem cs23 {k n : Nat} (hl : l.1.stackTraces = false) (hq : 193 ≤ q) (hC : CREL K S) (hR : RREL K S) (hS : GOK S) {i : Int} (i0 : 0 ≤ i) (i6 : i + 6 ≤ l.2.1) (hlen : (l.2.1 : Int) ≤ 2147483647) {Q : OO → Prop} (hn : ∀ (K2 : Nat → Int → Int) (v2 : Int) (S2 : GS), CREL K2 S2 → RREL K2 S2 → GOK S2 → Ex l 332 k n 3032 (lawL i) [] (mm q K2 v2 false) Q) : Ex l 332 (1 + k) (6 + n) 1268 (lawL i) [] (mm q K v false) Q := by
  unfold lawL at hn ⊢
  have hcd : (oAsk S (isF S (scV l (i + 1))) (gA S 8 (scV l (i + 1)))).1 = 0 ∨ (oAsk S (isF S (scV l (i + 1))) (gA S 8 (scV l (i + 1)))).1 = 1 := by
    unfold oAsk
    repeat (first | exact Or.inl rfl | exact Or.inr rfl | split)
  have hG : GOK (oAsk S (isF S (scV l (i + 1))) (gA S 8 (scV l (i + 1)))).2.2 := gok_ask hS
  have w1 := wr308 (q := q) (v := v) hl hq hC hS (scV_r l (i + 1))
  have w2 : ∀ (K1 : Nat → Int → Int) (v1 : Int), RREL K1 S → CT l 246 [.ref 181, .int (iI (scV l (i + 1)))] (mm q K1 v1 false) 0 0 (RQ q v1 false K1 (oAsk S (isF S (scV l (i + 1))) (gA S 8 (scV l (i + 1))))) := fun K1 v1 hR1 => rm246 hl (by omega) hR1 hS (scV_r l (i + 1))
  generalize (oAsk S (isF S (scV l (i + 1))) (gA S 8 (scV l (i + 1)))) = r at w1 w2 hcd hG
  refine x_aload_n (pc := 1268) rfl d332_1268 ?_
  refine x_aload_n (pc := 1269) rfl d332_1269 ?_
  refine x_iload (pc := 1270) rfl d332_1270 ?_
  refine x_iconst (pc := 1272) d332_1272 ?_
  refine x_iadd (pc := 1273) d332_1273 ?_
  refine x_sldR (pc := 1274) (by omega) (by omega) (by omega) d332_1274 ?_
  refine x_aload_n (pc := 1275) rfl d332_1275 ?_
  refine x_callSW (k := k) (n := n) (pc := 1276) c332_227 w1 rfl rfl (Nat.le_of_ble_eq_true rfl) (by decide +kernel) (by decide +kernel) d332_1276 (Or.inr fun v9 τ h9 => ?_) (fun v9 τ h9 => ?_) (fun E9 τ h9 _ => ?_)
  · obtain ⟨K1, v1, e, _⟩ := h9; cases e; rfl
  · obtain ⟨K1, v1, e, hC1, hk1, hv1⟩ := h9
    cases e
    show Ex l 332 k n 1279 _ [.int (iI r.1)] _ _
    refine x_istore (pc := 1279) (by decide +kernel) rfl d332_1279 ?_
    dsimp only [List.set]
    refine x_aload_n (pc := 1281) rfl d332_1281 ?_
    refine x_aload_n (pc := 1282) rfl d332_1282 ?_
    refine x_iload (pc := 1283) rfl d332_1283 ?_
    refine x_iconst (pc := 1285) d332_1285 ?_
    refine x_iadd (pc := 1286) d332_1286 ?_
    refine x_sldR (pc := 1287) (by omega) (by omega) (by omega) d332_1287 ?_
    refine ex_00 (x_callV (pc := 1288) c332_229 (w2 K1 v1 (hR.ge hk1)) (xo181 (by omega)) rfl rfl (Nat.le_of_ble_eq_true rfl) (by decide +kernel) (by decide +kernel) d332_1288 (Or.inr fun v9 τ h9 => ?_) (fun v9 τ h9 => ?_) (fun E9 τ h9 _ => ?_))
    · obtain ⟨z, K2, e, _⟩ := h9; cases e; rfl
    · obtain ⟨z, K2, e, h6, hz2, hR2, hk2⟩ := h9
      cases e
      have hC2 : CREL K2 r.2.2 := hC1.lt fun a ha => hk2 a (Or.inl ha)
      show Ex l 332 k n 1291 _ [.int (iI z)] _ _
      refine x_istore (pc := 1291) (by decide +kernel) rfl d332_1291 ?_
      dsimp only [List.set]
      refine x_aload_n (pc := 1293) rfl d332_1293 ?_
      refine x_cVs (pc := 1294) c332_146 (rt_thrown hl hq h6) (xo181 (by omega)) rfl rfl (Nat.le_of_ble_eq_true rfl) (by decide +kernel) (by decide +kernel) rfl d332_1294 ?_
      refine x_iload (pc := 1297) rfl d332_1297 ?_
      refine x_same (pc := 1299) (tgt := 1304) d332_1299 (by decide) ?_
      refine x_iload (pc := 1304) rfl d332_1304 ?_
      refine x_if_ne (pc := 1306) (tgt := 1321) ⟨by omega, by omega⟩ d332_1306 (by decide) (fun g => ?_) (fun g => ?_)
      · refine x_goto (pc := 1321) (tgt := 3032) d332_1321 (by decide) ?_
        refine x_mask [true, true, true, true, true, false, false, false, false] ?_
        dsimp only [mask]
        exact hn K2 _ _ hC2 hR2 hG
      · have hzz : z = r.2.1 := hz2 g
        have hvv := hv1 g
        subst hzz
        refine x_aload_n (pc := 1309) rfl d332_1309 ?_
        refine x_iconst (pc := 1310) d332_1310 ?_
        refine m_lald (pc := 1311) (by omega) (by decide +kernel) d332_1311 ?_
        refine x_iload (pc := 1312) rfl d332_1312 ?_
        refine x_i2lA (pc := 1314) d332_1314 ?_
        rw [hvv]
        refine x_lsame (pc := 1315) (tgt := 1321) (tI_r _) d332_1315 d332_1316 (by decide) ?_
        refine x_goto (pc := 1321) (tgt := 3032) d332_1321 (by decide) ?_
        refine x_mask [true, true, true, true, true, false, false, false, false] ?_
        dsimp only [mask]
        exact hn K2 _ _ hC2 hR2 hG
    · obtain ⟨z, K2, e, _⟩ := h9; cases e
  · obtain ⟨K1, v1, e, _⟩ := h9; cases e
theorem cs24 {k n : Nat} (hl : l.1.stackTraces = false) (hq : 193 ≤ q) (hC : CREL K S) (hR : RREL K S) (hS : GOK S) {i : Int} (i0 : 0 ≤ i) (i6 : i + 6 ≤ l.2.1) (hlen : (l.2.1 : Int) ≤ 2147483647) {Q : OO → Prop} (hn : ∀ (K2 : Nat → Int → Int) (v2 : Int) (S2 : GS), CREL K2 S2 → RREL K2 S2 → GOK S2 → Ex l 332 k n 3032 (lawL i) [] (mm q K2 v2 false) Q) : Ex l 332 (1 + k) (6 + n) 1324 (lawL i) [] (mm q K v false) Q := by
  unfold lawL at hn ⊢
  have hcd : (oAsk S (isF S (scV l (i + 1))) (b01 (decide (gA S 9 (scV l (i + 1)) = 1)))).1 = 0 ∨ (oAsk S (isF S (scV l (i + 1))) (b01 (decide (gA S 9 (scV l (i + 1)) = 1)))).1 = 1 := by
    unfold oAsk
    repeat (first | exact Or.inl rfl | exact Or.inr rfl | split)
  have hz : (oAsk S (isF S (scV l (i + 1))) (b01 (decide (gA S 9 (scV l (i + 1)) = 1)))).1 = 0 → (oAsk S (isF S (scV l (i + 1))) (b01 (decide (gA S 9 (scV l (i + 1)) = 1)))).2.1 = 0 ∨ (oAsk S (isF S (scV l (i + 1))) (b01 (decide (gA S 9 (scV l (i + 1)) = 1)))).2.1 = 1 := by
    unfold oAsk
    repeat (first | exact fun _ => b01_or _ | exact fun z => absurd (show (1 : Int) = 0 from z) (by decide) | exact fun z => absurd (show (2 : Int) = 0 from z) (by decide) | split)
  have hG : GOK (oAsk S (isF S (scV l (i + 1))) (b01 (decide (gA S 9 (scV l (i + 1)) = 1)))).2.2 := gok_ask hS
  have w1 := wr309 (q := q) (v := v) hl hq hC hS (scV_r l (i + 1))
  have w2 : ∀ (K1 : Nat → Int → Int) (v1 : Int), RREL K1 S → CT l 247 [.ref 181, .int (iI (scV l (i + 1)))] (mm q K1 v1 false) 0 0 (RQ q v1 false K1 (oAsk S (isF S (scV l (i + 1))) (b01 (decide (gA S 9 (scV l (i + 1)) = 1))))) := fun K1 v1 hR1 => rm247 hl (by omega) hR1 hS (scV_r l (i + 1)) hC.h9
  generalize (oAsk S (isF S (scV l (i + 1))) (b01 (decide (gA S 9 (scV l (i + 1)) = 1)))) = r at w1 w2 hcd hz hG
  refine x_aload_n (pc := 1324) rfl d332_1324 ?_
  refine x_aload_n (pc := 1325) rfl d332_1325 ?_
  refine x_iload (pc := 1326) rfl d332_1326 ?_
  refine x_iconst (pc := 1328) d332_1328 ?_
  refine x_iadd (pc := 1329) d332_1329 ?_
  refine x_sldR (pc := 1330) (by omega) (by omega) (by omega) d332_1330 ?_
  refine x_aload_n (pc := 1331) rfl d332_1331 ?_
  refine x_callSW (k := k) (n := n) (pc := 1332) c332_230 w1 rfl rfl (Nat.le_of_ble_eq_true rfl) (by decide +kernel) (by decide +kernel) d332_1332 (Or.inr fun v9 τ h9 => ?_) (fun v9 τ h9 => ?_) (fun E9 τ h9 _ => ?_)
  · obtain ⟨K1, v1, e, _⟩ := h9; cases e; rfl
  · obtain ⟨K1, v1, e, hC1, hk1, hv1⟩ := h9
    cases e
    show Ex l 332 k n 1335 _ [.int (iI r.1)] _ _
    refine x_istore (pc := 1335) (by decide +kernel) rfl d332_1335 ?_
    dsimp only [List.set]
    refine x_aload_n (pc := 1337) rfl d332_1337 ?_
    refine x_aload_n (pc := 1338) rfl d332_1338 ?_
    refine x_iload (pc := 1339) rfl d332_1339 ?_
    refine x_iconst (pc := 1341) d332_1341 ?_
    refine x_iadd (pc := 1342) d332_1342 ?_
    refine x_sldR (pc := 1343) (by omega) (by omega) (by omega) d332_1343 ?_
    refine ex_00 (x_callV (pc := 1344) c332_232 (w2 K1 v1 (hR.ge hk1)) (xo181 (by omega)) rfl rfl (Nat.le_of_ble_eq_true rfl) (by decide +kernel) (by decide +kernel) d332_1344 (Or.inr fun v9 τ h9 => ?_) (fun v9 τ h9 => ?_) (fun E9 τ h9 _ => ?_))
    · obtain ⟨z, K2, e, _⟩ := h9; cases e; rfl
    · obtain ⟨z, K2, e, h6, hz2, hR2, hk2⟩ := h9
      cases e
      have hC2 : CREL K2 r.2.2 := hC1.lt fun a ha => hk2 a (Or.inl ha)
      show Ex l 332 k n 1347 _ [.int (iI z)] _ _
      refine x_istore (pc := 1347) (by decide +kernel) rfl d332_1347 ?_
      dsimp only [List.set]
      refine x_aload_n (pc := 1349) rfl d332_1349 ?_
      refine x_cVs (pc := 1350) c332_146 (rt_thrown hl hq h6) (xo181 (by omega)) rfl rfl (Nat.le_of_ble_eq_true rfl) (by decide +kernel) (by decide +kernel) rfl d332_1350 ?_
      refine x_iload (pc := 1353) rfl d332_1353 ?_
      refine x_same (pc := 1355) (tgt := 1360) d332_1355 (by decide) ?_
      refine x_iload (pc := 1360) rfl d332_1360 ?_
      refine x_if_ne (pc := 1362) (tgt := 1384) ⟨by omega, by omega⟩ d332_1362 (by decide) (fun g => ?_) (fun g => ?_)
      · refine x_goto (pc := 1384) (tgt := 3032) d332_1384 (by decide) ?_
        refine x_mask [true, true, true, true, true, false, false, false, false] ?_
        dsimp only [mask]
        exact hn K2 _ _ hC2 hR2 hG
      · have hzz : z = r.2.1 := hz2 g
        have hvv := hv1 g
        subst hzz
        refine x_aload_n (pc := 1365) rfl d332_1365 ?_
        refine x_iconst (pc := 1366) d332_1366 ?_
        refine m_lald (pc := 1367) (by omega) (by decide +kernel) d332_1367 ?_
        refine x_iload (pc := 1368) rfl d332_1368 ?_
        have hzb := hz g
        refine x_if_eq (pc := 1370) (tgt := 1377) ⟨by omega, by omega⟩ d332_1370 (by decide) (fun g2 => ?_) (fun g2 => ?_)
        · refine x_lconst (pc := 1377) (z := 0) (by decide) d332_1377 ?_
          have hv0 : v1 = 0 := by rw [hvv, show r.2.1 = 0 from by omega]; rfl
          subst hv0
          refine x_lsame (pc := 1378) (tgt := 1384) ⟨by decide, by decide⟩ d332_1378 d332_1379 (by decide) ?_
          refine x_goto (pc := 1384) (tgt := 3032) d332_1384 (by decide) ?_
          refine x_mask [true, true, true, true, true, false, false, false, false] ?_
          dsimp only [mask]
          exact hn K2 _ _ hC2 hR2 hG
        · refine x_lconst (pc := 1373) (z := 1) (by decide) d332_1373 ?_
          refine x_goto (pc := 1374) (tgt := 1378) d332_1374 (by decide) ?_
          have hv0 : v1 = 1 := by rw [hvv, show r.2.1 = 1 from by omega]; rfl
          subst hv0
          refine x_lsame (pc := 1378) (tgt := 1384) ⟨by decide, by decide⟩ d332_1378 d332_1379 (by decide) ?_
          refine x_goto (pc := 1384) (tgt := 3032) d332_1384 (by decide) ?_
          refine x_mask [true, true, true, true, true, false, false, false, false] ?_
          dsimp only [mask]
          exact hn K2 _ _ hC2 hR2 hG
    · obtain ⟨z, K2, e, _⟩ := h9; cases e
  · obtain ⟨K1, v1, e, _⟩ := h9; cases e
theorem cs25 {k n : Nat} (hl : l.1.stackTraces = false) (hq : 193 ≤ q) (hC : CREL K S) (hR : RREL K S) (hS : GOK S) {i : Int} (i0 : 0 ≤ i) (i6 : i + 6 ≤ l.2.1) (hlen : (l.2.1 : Int) ≤ 2147483647) {Q : OO → Prop} (hn : ∀ (K2 : Nat → Int → Int) (v2 : Int) (S2 : GS), CREL K2 S2 → RREL K2 S2 → GOK S2 → Ex l 332 k n 3032 (lawL i) [] (mm q K2 v2 false) Q) : Ex l 332 (1 + k) (6 + n) 1387 (lawL i) [] (mm q K v false) Q := by
  unfold lawL at hn ⊢
  have hcd : (oAsk S (isF S (scV l (i + 1))) (if gA S 9 (scV l (i + 1)) = 1 ∧ 0 ≤ (scV l (i + 2)) ∧ (scV l (i + 2)) < gA S 6 (scV l (i + 1)) then gA S 11 (6 * (scV l (i + 1)) + (scV l (i + 2))) else -1)).1 = 0 ∨ (oAsk S (isF S (scV l (i + 1))) (if gA S 9 (scV l (i + 1)) = 1 ∧ 0 ≤ (scV l (i + 2)) ∧ (scV l (i + 2)) < gA S 6 (scV l (i + 1)) then gA S 11 (6 * (scV l (i + 1)) + (scV l (i + 2))) else -1)).1 = 1 := by
    unfold oAsk
    repeat (first | exact Or.inl rfl | exact Or.inr rfl | split)
  have hG : GOK (oAsk S (isF S (scV l (i + 1))) (if gA S 9 (scV l (i + 1)) = 1 ∧ 0 ≤ (scV l (i + 2)) ∧ (scV l (i + 2)) < gA S 6 (scV l (i + 1)) then gA S 11 (6 * (scV l (i + 1)) + (scV l (i + 2))) else -1)).2.2 := gok_ask hS
  have w1 := wr310 (q := q) (v := v) hl hq hC hS (scV_r l (i + 1)) (scV_r l (i + 2))
  have w2 : ∀ (K1 : Nat → Int → Int) (v1 : Int), RREL K1 S → CT l 248 [.ref 181, .int (iI (scV l (i + 1))), .int (iI (scV l (i + 2)))] (mm q K1 v1 false) 0 0 (RQ q v1 false K1 (oAsk S (isF S (scV l (i + 1))) (if gA S 9 (scV l (i + 1)) = 1 ∧ 0 ≤ (scV l (i + 2)) ∧ (scV l (i + 2)) < gA S 6 (scV l (i + 1)) then gA S 11 (6 * (scV l (i + 1)) + (scV l (i + 2))) else -1))) := fun K1 v1 hR1 => rm248 hl (by omega) hR1 hS (scV_r l (i + 1)) (scV_r l (i + 2)) hC.h9
  generalize (oAsk S (isF S (scV l (i + 1))) (if gA S 9 (scV l (i + 1)) = 1 ∧ 0 ≤ (scV l (i + 2)) ∧ (scV l (i + 2)) < gA S 6 (scV l (i + 1)) then gA S 11 (6 * (scV l (i + 1)) + (scV l (i + 2))) else -1)) = r at w1 w2 hcd hG
  refine x_aload_n (pc := 1387) rfl d332_1387 ?_
  refine x_aload_n (pc := 1388) rfl d332_1388 ?_
  refine x_iload (pc := 1389) rfl d332_1389 ?_
  refine x_iconst (pc := 1391) d332_1391 ?_
  refine x_iadd (pc := 1392) d332_1392 ?_
  refine x_sldR (pc := 1393) (by omega) (by omega) (by omega) d332_1393 ?_
  refine x_aload_n (pc := 1394) rfl d332_1394 ?_
  refine x_iload (pc := 1395) rfl d332_1395 ?_
  refine x_iconst (pc := 1397) d332_1397 ?_
  refine x_iadd (pc := 1398) d332_1398 ?_
  refine x_sldR (pc := 1399) (by omega) (by omega) (by omega) d332_1399 ?_
  refine x_aload_n (pc := 1400) rfl d332_1400 ?_
  refine x_callSW (k := k) (n := n) (pc := 1401) c332_233 w1 rfl rfl (Nat.le_of_ble_eq_true rfl) (by decide +kernel) (by decide +kernel) d332_1401 (Or.inr fun v9 τ h9 => ?_) (fun v9 τ h9 => ?_) (fun E9 τ h9 _ => ?_)
  · obtain ⟨K1, v1, e, _⟩ := h9; cases e; rfl
  · obtain ⟨K1, v1, e, hC1, hk1, hv1⟩ := h9
    cases e
    show Ex l 332 k n 1404 _ [.int (iI r.1)] _ _
    refine x_istore (pc := 1404) (by decide +kernel) rfl d332_1404 ?_
    dsimp only [List.set]
    refine x_aload_n (pc := 1406) rfl d332_1406 ?_
    refine x_aload_n (pc := 1407) rfl d332_1407 ?_
    refine x_iload (pc := 1408) rfl d332_1408 ?_
    refine x_iconst (pc := 1410) d332_1410 ?_
    refine x_iadd (pc := 1411) d332_1411 ?_
    refine x_sldR (pc := 1412) (by omega) (by omega) (by omega) d332_1412 ?_
    refine x_aload_n (pc := 1413) rfl d332_1413 ?_
    refine x_iload (pc := 1414) rfl d332_1414 ?_
    refine x_iconst (pc := 1416) d332_1416 ?_
    refine x_iadd (pc := 1417) d332_1417 ?_
    refine x_sldR (pc := 1418) (by omega) (by omega) (by omega) d332_1418 ?_
    refine ex_00 (x_callV (pc := 1419) c332_235 (w2 K1 v1 (hR.ge hk1)) (xo181 (by omega)) rfl rfl (Nat.le_of_ble_eq_true rfl) (by decide +kernel) (by decide +kernel) d332_1419 (Or.inr fun v9 τ h9 => ?_) (fun v9 τ h9 => ?_) (fun E9 τ h9 _ => ?_))
    · obtain ⟨z, K2, e, _⟩ := h9; cases e; rfl
    · obtain ⟨z, K2, e, h6, hz2, hR2, hk2⟩ := h9
      cases e
      have hC2 : CREL K2 r.2.2 := hC1.lt fun a ha => hk2 a (Or.inl ha)
      show Ex l 332 k n 1422 _ [.int (iI z)] _ _
      refine x_istore (pc := 1422) (by decide +kernel) rfl d332_1422 ?_
      dsimp only [List.set]
      refine x_aload_n (pc := 1424) rfl d332_1424 ?_
      refine x_cVs (pc := 1425) c332_146 (rt_thrown hl hq h6) (xo181 (by omega)) rfl rfl (Nat.le_of_ble_eq_true rfl) (by decide +kernel) (by decide +kernel) rfl d332_1425 ?_
      refine x_iload (pc := 1428) rfl d332_1428 ?_
      refine x_same (pc := 1430) (tgt := 1435) d332_1430 (by decide) ?_
      refine x_iload (pc := 1435) rfl d332_1435 ?_
      refine x_if_ne (pc := 1437) (tgt := 1452) ⟨by omega, by omega⟩ d332_1437 (by decide) (fun g => ?_) (fun g => ?_)
      · refine x_goto (pc := 1452) (tgt := 3032) d332_1452 (by decide) ?_
        refine x_mask [true, true, true, true, true, false, false, false, false] ?_
        dsimp only [mask]
        exact hn K2 _ _ hC2 hR2 hG
      · have hzz : z = r.2.1 := hz2 g
        have hvv := hv1 g
        subst hzz
        refine x_aload_n (pc := 1440) rfl d332_1440 ?_
        refine x_iconst (pc := 1441) d332_1441 ?_
        refine m_lald (pc := 1442) (by omega) (by decide +kernel) d332_1442 ?_
        refine x_iload (pc := 1443) rfl d332_1443 ?_
        refine x_i2lA (pc := 1445) d332_1445 ?_
        rw [hvv]
        refine x_lsame (pc := 1446) (tgt := 1452) (tI_r _) d332_1446 d332_1447 (by decide) ?_
        refine x_goto (pc := 1452) (tgt := 3032) d332_1452 (by decide) ?_
        refine x_mask [true, true, true, true, true, false, false, false, false] ?_
        dsimp only [mask]
        exact hn K2 _ _ hC2 hR2 hG
    · obtain ⟨z, K2, e, _⟩ := h9; cases e
  · obtain ⟨K1, v1, e, _⟩ := h9; cases e
theorem cs26 {k n : Nat} (hl : l.1.stackTraces = false) (hq : 193 ≤ q) (hC : CREL K S) (hR : RREL K S) (hS : GOK S) {i : Int} (i0 : 0 ≤ i) (i6 : i + 6 ≤ l.2.1) (hlen : (l.2.1 : Int) ≤ 2147483647) {Q : OO → Prop} (hn : ∀ (K2 : Nat → Int → Int) (v2 : Int) (S2 : GS), CREL K2 S2 → RREL K2 S2 → GOK S2 → Ex l 332 k n 3032 (lawL i) [] (mm q K2 v2 false) Q) : Ex l 332 (1 + k) (6 + n) 1455 (lawL i) [] (mm q K v false) Q := by
  unfold lawL at hn ⊢
  have hcd : (oAsk S (isF S (scV l (i + 1))) (b01 (intA (gA S) (scV l (i + 1))))).1 = 0 ∨ (oAsk S (isF S (scV l (i + 1))) (b01 (intA (gA S) (scV l (i + 1))))).1 = 1 := by
    unfold oAsk
    repeat (first | exact Or.inl rfl | exact Or.inr rfl | split)
  have hz : (oAsk S (isF S (scV l (i + 1))) (b01 (intA (gA S) (scV l (i + 1))))).1 = 0 → (oAsk S (isF S (scV l (i + 1))) (b01 (intA (gA S) (scV l (i + 1))))).2.1 = 0 ∨ (oAsk S (isF S (scV l (i + 1))) (b01 (intA (gA S) (scV l (i + 1))))).2.1 = 1 := by
    unfold oAsk
    repeat (first | exact fun _ => b01_or _ | exact fun z => absurd (show (1 : Int) = 0 from z) (by decide) | exact fun z => absurd (show (2 : Int) = 0 from z) (by decide) | split)
  have hG : GOK (oAsk S (isF S (scV l (i + 1))) (b01 (intA (gA S) (scV l (i + 1))))).2.2 := gok_ask hS
  have w1 := wr311 (q := q) (v := v) hl hq hC hS (scV_r l (i + 1))
  have w2 : ∀ (K1 : Nat → Int → Int) (v1 : Int), RREL K1 S → CT l 249 [.ref 181, .int (iI (scV l (i + 1)))] (mm q K1 v1 false) 0 0 (RQ q v1 false K1 (oAsk S (isF S (scV l (i + 1))) (b01 (intA (gA S) (scV l (i + 1)))))) := fun K1 v1 hR1 => rm249 hl (by omega) hR1 hS (scV_r l (i + 1)) hC.h9 (hC.h11 hS)
  generalize (oAsk S (isF S (scV l (i + 1))) (b01 (intA (gA S) (scV l (i + 1))))) = r at w1 w2 hcd hz hG
  refine x_aload_n (pc := 1455) rfl d332_1455 ?_
  refine x_aload_n (pc := 1456) rfl d332_1456 ?_
  refine x_iload (pc := 1457) rfl d332_1457 ?_
  refine x_iconst (pc := 1459) d332_1459 ?_
  refine x_iadd (pc := 1460) d332_1460 ?_
  refine x_sldR (pc := 1461) (by omega) (by omega) (by omega) d332_1461 ?_
  refine x_aload_n (pc := 1462) rfl d332_1462 ?_
  refine x_callSW (k := k) (n := n) (pc := 1463) c332_236 w1 rfl rfl (Nat.le_of_ble_eq_true rfl) (by decide +kernel) (by decide +kernel) d332_1463 (Or.inr fun v9 τ h9 => ?_) (fun v9 τ h9 => ?_) (fun E9 τ h9 _ => ?_)
  · obtain ⟨K1, v1, e, _⟩ := h9; cases e; rfl
  · obtain ⟨K1, v1, e, hC1, hk1, hv1⟩ := h9
    cases e
    show Ex l 332 k n 1466 _ [.int (iI r.1)] _ _
    refine x_istore (pc := 1466) (by decide +kernel) rfl d332_1466 ?_
    dsimp only [List.set]
    refine x_aload_n (pc := 1468) rfl d332_1468 ?_
    refine x_aload_n (pc := 1469) rfl d332_1469 ?_
    refine x_iload (pc := 1470) rfl d332_1470 ?_
    refine x_iconst (pc := 1472) d332_1472 ?_
    refine x_iadd (pc := 1473) d332_1473 ?_
    refine x_sldR (pc := 1474) (by omega) (by omega) (by omega) d332_1474 ?_
    refine ex_00 (x_callV (pc := 1475) c332_238 (w2 K1 v1 (hR.ge hk1)) (xo181 (by omega)) rfl rfl (Nat.le_of_ble_eq_true rfl) (by decide +kernel) (by decide +kernel) d332_1475 (Or.inr fun v9 τ h9 => ?_) (fun v9 τ h9 => ?_) (fun E9 τ h9 _ => ?_))
    · obtain ⟨z, K2, e, _⟩ := h9; cases e; rfl
    · obtain ⟨z, K2, e, h6, hz2, hR2, hk2⟩ := h9
      cases e
      have hC2 : CREL K2 r.2.2 := hC1.lt fun a ha => hk2 a (Or.inl ha)
      show Ex l 332 k n 1478 _ [.int (iI z)] _ _
      refine x_istore (pc := 1478) (by decide +kernel) rfl d332_1478 ?_
      dsimp only [List.set]
      refine x_aload_n (pc := 1480) rfl d332_1480 ?_
      refine x_cVs (pc := 1481) c332_146 (rt_thrown hl hq h6) (xo181 (by omega)) rfl rfl (Nat.le_of_ble_eq_true rfl) (by decide +kernel) (by decide +kernel) rfl d332_1481 ?_
      refine x_iload (pc := 1484) rfl d332_1484 ?_
      refine x_same (pc := 1486) (tgt := 1491) d332_1486 (by decide) ?_
      refine x_iload (pc := 1491) rfl d332_1491 ?_
      refine x_if_ne (pc := 1493) (tgt := 1515) ⟨by omega, by omega⟩ d332_1493 (by decide) (fun g => ?_) (fun g => ?_)
      · refine x_goto (pc := 1515) (tgt := 3032) d332_1515 (by decide) ?_
        refine x_mask [true, true, true, true, true, false, false, false, false] ?_
        dsimp only [mask]
        exact hn K2 _ _ hC2 hR2 hG
      · have hzz : z = r.2.1 := hz2 g
        have hvv := hv1 g
        subst hzz
        refine x_aload_n (pc := 1496) rfl d332_1496 ?_
        refine x_iconst (pc := 1497) d332_1497 ?_
        refine m_lald (pc := 1498) (by omega) (by decide +kernel) d332_1498 ?_
        refine x_iload (pc := 1499) rfl d332_1499 ?_
        have hzb := hz g
        refine x_if_eq (pc := 1501) (tgt := 1508) ⟨by omega, by omega⟩ d332_1501 (by decide) (fun g2 => ?_) (fun g2 => ?_)
        · refine x_lconst (pc := 1508) (z := 0) (by decide) d332_1508 ?_
          have hv0 : v1 = 0 := by rw [hvv, show r.2.1 = 0 from by omega]; rfl
          subst hv0
          refine x_lsame (pc := 1509) (tgt := 1515) ⟨by decide, by decide⟩ d332_1509 d332_1510 (by decide) ?_
          refine x_goto (pc := 1515) (tgt := 3032) d332_1515 (by decide) ?_
          refine x_mask [true, true, true, true, true, false, false, false, false] ?_
          dsimp only [mask]
          exact hn K2 _ _ hC2 hR2 hG
        · refine x_lconst (pc := 1504) (z := 1) (by decide) d332_1504 ?_
          refine x_goto (pc := 1505) (tgt := 1509) d332_1505 (by decide) ?_
          have hv0 : v1 = 1 := by rw [hvv, show r.2.1 = 1 from by omega]; rfl
          subst hv0
          refine x_lsame (pc := 1509) (tgt := 1515) ⟨by decide, by decide⟩ d332_1509 d332_1510 (by decide) ?_
          refine x_goto (pc := 1515) (tgt := 3032) d332_1515 (by decide) ?_
          refine x_mask [true, true, true, true, true, false, false, false, false] ?_
          dsimp only [mask]
          exact hn K2 _ _ hC2 hR2 hG
    · obtain ⟨z, K2, e, _⟩ := h9; cases e
  · obtain ⟨K1, v1, e, _⟩ := h9; cases e
theorem cs27 {k n : Nat} (hl : l.1.stackTraces = false) (hq : 193 ≤ q) (hC : CREL K S) (hR : RREL K S) (hS : GOK S) {i : Int} (i0 : 0 ≤ i) (i6 : i + 6 ≤ l.2.1) (hlen : (l.2.1 : Int) ≤ 2147483647) {Q : OO → Prop} (hn : ∀ (K2 : Nat → Int → Int) (v2 : Int) (S2 : GS), CREL K2 S2 → RREL K2 S2 → GOK S2 → Ex l 332 k n 3032 (lawL i) [] (mm q K2 v2 false) Q) : Ex l 332 (1 + k) (6 + n) 1518 (lawL i) [] (mm q K v false) Q := by
  unfold lawL at hn ⊢
  have hcd : (oAsk S (decide (0 ≤ (scV l (i + 1)) ∧ (scV l (i + 1)) < 100)) (tkI (scV l (i + 1)) (gA S 0 1))).1 = 0 ∨ (oAsk S (decide (0 ≤ (scV l (i + 1)) ∧ (scV l (i + 1)) < 100)) (tkI (scV l (i + 1)) (gA S 0 1))).1 = 1 := by
    unfold oAsk
    repeat (first | exact Or.inl rfl | exact Or.inr rfl | split)
  have hG : GOK (oAsk S (decide (0 ≤ (scV l (i + 1)) ∧ (scV l (i + 1)) < 100)) (tkI (scV l (i + 1)) (gA S 0 1))).2.2 := gok_ask hS
  have w1 := wr312 (q := q) (v := v) hl hq hC hS (scV_r l (i + 1))
  have w2 : ∀ (K1 : Nat → Int → Int) (v1 : Int), RREL K1 S → CT l 250 [.ref 181, .int (iI (scV l (i + 1)))] (mm q K1 v1 false) 0 0 (RQ q v1 false K1 (oAsk S (decide (0 ≤ (scV l (i + 1)) ∧ (scV l (i + 1)) < 100)) (tkI (scV l (i + 1)) (gA S 0 1)))) := fun K1 v1 hR1 => rm250 hl (by omega) hR1 hS (scV_r l (i + 1))
  generalize (oAsk S (decide (0 ≤ (scV l (i + 1)) ∧ (scV l (i + 1)) < 100)) (tkI (scV l (i + 1)) (gA S 0 1))) = r at w1 w2 hcd hG
  refine x_aload_n (pc := 1518) rfl d332_1518 ?_
  refine x_aload_n (pc := 1519) rfl d332_1519 ?_
  refine x_iload (pc := 1520) rfl d332_1520 ?_
  refine x_iconst (pc := 1522) d332_1522 ?_
  refine x_iadd (pc := 1523) d332_1523 ?_
  refine x_sldR (pc := 1524) (by omega) (by omega) (by omega) d332_1524 ?_
  refine x_aload_n (pc := 1525) rfl d332_1525 ?_
  refine x_callSW (k := k) (n := n) (pc := 1526) c332_239 w1 rfl rfl (Nat.le_of_ble_eq_true rfl) (by decide +kernel) (by decide +kernel) d332_1526 (Or.inr fun v9 τ h9 => ?_) (fun v9 τ h9 => ?_) (fun E9 τ h9 _ => ?_)
  · obtain ⟨K1, v1, e, _⟩ := h9; cases e; rfl
  · obtain ⟨K1, v1, e, hC1, hk1, hv1⟩ := h9
    cases e
    show Ex l 332 k n 1529 _ [.int (iI r.1)] _ _
    refine x_istore (pc := 1529) (by decide +kernel) rfl d332_1529 ?_
    dsimp only [List.set]
    refine x_aload_n (pc := 1531) rfl d332_1531 ?_
    refine x_aload_n (pc := 1532) rfl d332_1532 ?_
    refine x_iload (pc := 1533) rfl d332_1533 ?_
    refine x_iconst (pc := 1535) d332_1535 ?_
    refine x_iadd (pc := 1536) d332_1536 ?_
    refine x_sldR (pc := 1537) (by omega) (by omega) (by omega) d332_1537 ?_
    refine ex_00 (x_callV (pc := 1538) c332_241 (w2 K1 v1 (hR.ge hk1)) (xo181 (by omega)) rfl rfl (Nat.le_of_ble_eq_true rfl) (by decide +kernel) (by decide +kernel) d332_1538 (Or.inr fun v9 τ h9 => ?_) (fun v9 τ h9 => ?_) (fun E9 τ h9 _ => ?_))
    · obtain ⟨z, K2, e, _⟩ := h9; cases e; rfl
    · obtain ⟨z, K2, e, h6, hz2, hR2, hk2⟩ := h9
      cases e
      have hC2 : CREL K2 r.2.2 := hC1.lt fun a ha => hk2 a (Or.inl ha)
      show Ex l 332 k n 1541 _ [.int (iI z)] _ _
      refine x_istore (pc := 1541) (by decide +kernel) rfl d332_1541 ?_
      dsimp only [List.set]
      refine x_aload_n (pc := 1543) rfl d332_1543 ?_
      refine x_cVs (pc := 1544) c332_146 (rt_thrown hl hq h6) (xo181 (by omega)) rfl rfl (Nat.le_of_ble_eq_true rfl) (by decide +kernel) (by decide +kernel) rfl d332_1544 ?_
      refine x_iload (pc := 1547) rfl d332_1547 ?_
      refine x_same (pc := 1549) (tgt := 1554) d332_1549 (by decide) ?_
      refine x_iload (pc := 1554) rfl d332_1554 ?_
      refine x_if_ne (pc := 1556) (tgt := 1571) ⟨by omega, by omega⟩ d332_1556 (by decide) (fun g => ?_) (fun g => ?_)
      · refine x_goto (pc := 1571) (tgt := 3032) d332_1571 (by decide) ?_
        refine x_mask [true, true, true, true, true, false, false, false, false] ?_
        dsimp only [mask]
        exact hn K2 _ _ hC2 hR2 hG
      · have hzz : z = r.2.1 := hz2 g
        have hvv := hv1 g
        subst hzz
        refine x_aload_n (pc := 1559) rfl d332_1559 ?_
        refine x_iconst (pc := 1560) d332_1560 ?_
        refine m_lald (pc := 1561) (by omega) (by decide +kernel) d332_1561 ?_
        refine x_iload (pc := 1562) rfl d332_1562 ?_
        refine x_i2lA (pc := 1564) d332_1564 ?_
        rw [hvv]
        refine x_lsame (pc := 1565) (tgt := 1571) (tI_r _) d332_1565 d332_1566 (by decide) ?_
        refine x_goto (pc := 1571) (tgt := 3032) d332_1571 (by decide) ?_
        refine x_mask [true, true, true, true, true, false, false, false, false] ?_
        dsimp only [mask]
        exact hn K2 _ _ hC2 hR2 hG
    · obtain ⟨z, K2, e, _⟩ := h9; cases e
  · obtain ⟨K1, v1, e, _⟩ := h9; cases e
theorem cs28 {k n : Nat} (hl : l.1.stackTraces = false) (hq : 193 ≤ q) (hC : CREL K S) (hR : RREL K S) (hS : GOK S) {i : Int} (i0 : 0 ≤ i) (i6 : i + 6 ≤ l.2.1) (hlen : (l.2.1 : Int) ≤ 2147483647) {Q : OO → Prop} (hn : ∀ (K2 : Nat → Int → Int) (v2 : Int) (S2 : GS), CREL K2 S2 → RREL K2 S2 → GOK S2 → Ex l 332 k n 3032 (lawL i) [] (mm q K2 v2 false) Q) : Ex l 332 (1 + k) (6 + n) 1574 (lawL i) [] (mm q K v false) Q := by
  unfold lawL at hn ⊢
  have w1 := cm104 (q := q) (v := v) (E := fun _ => 0) hl (by omega) hC hS 
  have w2 : ∀ (K1 : Nat → Int → Int), RREL K1 S → CT l 251 [.ref 181] (mm q K1 v false) 0 0 (RQ q v false K1 (0, safN (gA S 0 1) 100 0, S)) := fun K1 hR1 => rm251 hl (by omega) hR1 hS 
  have h0 : ((0, safN (gA S 0 1) 100 0, S) : Int × Int × GS).1 = 0 := rfl
  have hG : GOK ((0, safN (gA S 0 1) 100 0, S) : Int × Int × GS).2.2 := hS
  generalize ((0, safN (gA S 0 1) 100 0, S) : Int × Int × GS) = r at w1 w2 h0 hG
  refine x_aload_n (pc := 1574) rfl d332_1574 ?_
  refine x_callV (k := k) (n := n) (pc := 1575) c332_242 w1 (ko0 (by omega)) rfl rfl (Nat.le_of_ble_eq_true rfl) (by decide +kernel) (by decide +kernel) d332_1575 (Or.inr fun v9 τ h9 => ?_) (fun v9 τ h9 => ?_) (fun E9 τ h9 _ => ?_)
  · rcases h9 with ⟨_, K1, e, _⟩ | ⟨_, K1, e, _⟩
    · cases e; rfl
    · cases e
  · rcases h9 with ⟨_, K1, e, hC1, hk1⟩ | ⟨_, K1, e, _⟩
    · cases e
      show Ex l 332 k n 1578 _ [.int (iI r.2.1)] _ _
      refine x_aload_n (pc := 1578) rfl d332_1578 ?_
      refine ex_00 (x_callV (pc := 1579) c332_245 (w2 K1 (hR.ge hk1)) (xo181 (by omega)) rfl rfl (Nat.le_of_ble_eq_true rfl) (by decide +kernel) (by decide +kernel) d332_1579 (Or.inr fun v9 τ h9 => ?_) (fun v9 τ h9 => ?_) (fun E9 τ h9 _ => ?_))
      · obtain ⟨z, K2, e, _⟩ := h9; cases e; rfl
      · obtain ⟨z, K2, e, h6, hz2, hR2, hk2⟩ := h9
        cases e
        have hC2 : CREL K2 r.2.2 := hC1.lt fun a ha => hk2 a (Or.inl ha)
        have hzz : z = r.2.1 := hz2 h0
        subst hzz
        show Ex l 332 k n 1582 _ [.int (iI r.2.1), .int (iI r.2.1)] _ _
        refine x_same (pc := 1582) (tgt := 3032) d332_1582 (by decide) ?_
        exact hn K2 v _ hC2 hR2 hG
      · obtain ⟨z, K2, e, _⟩ := h9; cases e
    · cases e
  · rcases h9 with ⟨_, K1, e, _⟩ | ⟨g9, K1, e, _⟩
    · cases e
    · exact absurd h0 g9
theorem cs29 {k n : Nat} (hl : l.1.stackTraces = false) (hq : 193 ≤ q) (hC : CREL K S) (hR : RREL K S) (hS : GOK S) {i : Int} (i0 : 0 ≤ i) (i6 : i + 6 ≤ l.2.1) (hlen : (l.2.1 : Int) ≤ 2147483647) {Q : OO → Prop} (hn : ∀ (K2 : Nat → Int → Int) (v2 : Int) (S2 : GS), CREL K2 S2 → RREL K2 S2 → GOK S2 → Ex l 332 k n 3032 (lawL i) [] (mm q K2 v2 false) Q) : Ex l 332 (1 + k) (6 + n) 1587 (lawL i) [] (mm q K v false) Q := by
  unfold lawL at hn ⊢
  have hcd : (oAsk2 S (isF S (scV l (i + 1))) (isT (scV l (i + 3))) (if 0 ≤ (scV l (i + 2)) ∧ (scV l (i + 2)) < gA S 6 (scV l (i + 1)) * 8 then takB (gA S) (scV l (i + 1)) (scV l (i + 3)) (scV l (i + 2)) else -1)).1 = 0 ∨ (oAsk2 S (isF S (scV l (i + 1))) (isT (scV l (i + 3))) (if 0 ≤ (scV l (i + 2)) ∧ (scV l (i + 2)) < gA S 6 (scV l (i + 1)) * 8 then takB (gA S) (scV l (i + 1)) (scV l (i + 3)) (scV l (i + 2)) else -1)).1 = 1 ∨ (oAsk2 S (isF S (scV l (i + 1))) (isT (scV l (i + 3))) (if 0 ≤ (scV l (i + 2)) ∧ (scV l (i + 2)) < gA S 6 (scV l (i + 1)) * 8 then takB (gA S) (scV l (i + 1)) (scV l (i + 3)) (scV l (i + 2)) else -1)).1 = 2 := by
    unfold oAsk2
    repeat (first | exact Or.inl rfl | exact Or.inr (Or.inl rfl) | exact Or.inr (Or.inr rfl) | split)
  have hG : GOK (oAsk2 S (isF S (scV l (i + 1))) (isT (scV l (i + 3))) (if 0 ≤ (scV l (i + 2)) ∧ (scV l (i + 2)) < gA S 6 (scV l (i + 1)) * 8 then takB (gA S) (scV l (i + 1)) (scV l (i + 3)) (scV l (i + 2)) else -1)).2.2 := gok_ask2 hS
  have w1 := wr313 (q := q) (v := v) hl hq hC hS (scV_r l (i + 1)) (scV_r l (i + 2)) (scV_r l (i + 3))
  have w2 : ∀ (K1 : Nat → Int → Int) (v1 : Int), RREL K1 S → CT l 253 [.ref 181, .int (iI (scV l (i + 1))), .int (iI (scV l (i + 2))), .int (iI (scV l (i + 3)))] (mm q K1 v1 false) 0 0 (RQ q v1 false K1 (oAsk2 S (isF S (scV l (i + 1))) (isT (scV l (i + 3))) (if 0 ≤ (scV l (i + 2)) ∧ (scV l (i + 2)) < gA S 6 (scV l (i + 1)) * 8 then takB (gA S) (scV l (i + 1)) (scV l (i + 3)) (scV l (i + 2)) else -1))) := fun K1 v1 hR1 => rm253 hl (by omega) hR1 hS (scV_r l (i + 1)) (scV_r l (i + 2)) (scV_r l (i + 3))
  generalize (oAsk2 S (isF S (scV l (i + 1))) (isT (scV l (i + 3))) (if 0 ≤ (scV l (i + 2)) ∧ (scV l (i + 2)) < gA S 6 (scV l (i + 1)) * 8 then takB (gA S) (scV l (i + 1)) (scV l (i + 3)) (scV l (i + 2)) else -1)) = r at w1 w2 hcd hG
  refine x_aload_n (pc := 1587) rfl d332_1587 ?_
  refine x_aload_n (pc := 1588) rfl d332_1588 ?_
  refine x_iload (pc := 1589) rfl d332_1589 ?_
  refine x_iconst (pc := 1591) d332_1591 ?_
  refine x_iadd (pc := 1592) d332_1592 ?_
  refine x_sldR (pc := 1593) (by omega) (by omega) (by omega) d332_1593 ?_
  refine x_aload_n (pc := 1594) rfl d332_1594 ?_
  refine x_iload (pc := 1595) rfl d332_1595 ?_
  refine x_iconst (pc := 1597) d332_1597 ?_
  refine x_iadd (pc := 1598) d332_1598 ?_
  refine x_sldR (pc := 1599) (by omega) (by omega) (by omega) d332_1599 ?_
  refine x_aload_n (pc := 1600) rfl d332_1600 ?_
  refine x_iload (pc := 1601) rfl d332_1601 ?_
  refine x_iconst (pc := 1603) d332_1603 ?_
  refine x_iadd (pc := 1604) d332_1604 ?_
  refine x_sldR (pc := 1605) (by omega) (by omega) (by omega) d332_1605 ?_
  refine x_aload_n (pc := 1606) rfl d332_1606 ?_
  refine x_callSW (k := k) (n := n) (pc := 1607) c332_246 w1 rfl rfl (Nat.le_of_ble_eq_true rfl) (by decide +kernel) (by decide +kernel) d332_1607 (Or.inr fun v9 τ h9 => ?_) (fun v9 τ h9 => ?_) (fun E9 τ h9 _ => ?_)
  · obtain ⟨K1, v1, e, _⟩ := h9; cases e; rfl
  · obtain ⟨K1, v1, e, hC1, hk1, hv1⟩ := h9
    cases e
    show Ex l 332 k n 1610 _ [.int (iI r.1)] _ _
    refine x_istore (pc := 1610) (by decide +kernel) rfl d332_1610 ?_
    dsimp only [List.set]
    refine x_aload_n (pc := 1612) rfl d332_1612 ?_
    refine x_aload_n (pc := 1613) rfl d332_1613 ?_
    refine x_iload (pc := 1614) rfl d332_1614 ?_
    refine x_iconst (pc := 1616) d332_1616 ?_
    refine x_iadd (pc := 1617) d332_1617 ?_
    refine x_sldR (pc := 1618) (by omega) (by omega) (by omega) d332_1618 ?_
    refine x_aload_n (pc := 1619) rfl d332_1619 ?_
    refine x_iload (pc := 1620) rfl d332_1620 ?_
    refine x_iconst (pc := 1622) d332_1622 ?_
    refine x_iadd (pc := 1623) d332_1623 ?_
    refine x_sldR (pc := 1624) (by omega) (by omega) (by omega) d332_1624 ?_
    refine x_aload_n (pc := 1625) rfl d332_1625 ?_
    refine x_iload (pc := 1626) rfl d332_1626 ?_
    refine x_iconst (pc := 1628) d332_1628 ?_
    refine x_iadd (pc := 1629) d332_1629 ?_
    refine x_sldR (pc := 1630) (by omega) (by omega) (by omega) d332_1630 ?_
    refine ex_00 (x_callV (pc := 1631) c332_249 (w2 K1 v1 (hR.ge hk1)) (xo181 (by omega)) rfl rfl (Nat.le_of_ble_eq_true rfl) (by decide +kernel) (by decide +kernel) d332_1631 (Or.inr fun v9 τ h9 => ?_) (fun v9 τ h9 => ?_) (fun E9 τ h9 _ => ?_))
    · obtain ⟨z, K2, e, _⟩ := h9; cases e; rfl
    · obtain ⟨z, K2, e, h6, hz2, hR2, hk2⟩ := h9
      cases e
      have hC2 : CREL K2 r.2.2 := hC1.lt fun a ha => hk2 a (Or.inl ha)
      show Ex l 332 k n 1634 _ [.int (iI z)] _ _
      refine x_istore (pc := 1634) (by decide +kernel) rfl d332_1634 ?_
      dsimp only [List.set]
      refine x_aload_n (pc := 1636) rfl d332_1636 ?_
      refine x_cVs (pc := 1637) c332_146 (rt_thrown hl hq h6) (xo181 (by omega)) rfl rfl (Nat.le_of_ble_eq_true rfl) (by decide +kernel) (by decide +kernel) rfl d332_1637 ?_
      refine x_iload (pc := 1640) rfl d332_1640 ?_
      refine x_same (pc := 1642) (tgt := 1647) d332_1642 (by decide) ?_
      refine x_iload (pc := 1647) rfl d332_1647 ?_
      refine x_if_ne (pc := 1649) (tgt := 1664) ⟨by omega, by omega⟩ d332_1649 (by decide) (fun g => ?_) (fun g => ?_)
      · refine x_goto (pc := 1664) (tgt := 3032) d332_1664 (by decide) ?_
        refine x_mask [true, true, true, true, true, false, false, false, false] ?_
        dsimp only [mask]
        exact hn K2 _ _ hC2 hR2 hG
      · have hzz : z = r.2.1 := hz2 g
        have hvv := hv1 g
        subst hzz
        refine x_aload_n (pc := 1652) rfl d332_1652 ?_
        refine x_iconst (pc := 1653) d332_1653 ?_
        refine m_lald (pc := 1654) (by omega) (by decide +kernel) d332_1654 ?_
        refine x_iload (pc := 1655) rfl d332_1655 ?_
        refine x_i2lA (pc := 1657) d332_1657 ?_
        rw [hvv]
        refine x_lsame (pc := 1658) (tgt := 1664) (tI_r _) d332_1658 d332_1659 (by decide) ?_
        refine x_goto (pc := 1664) (tgt := 3032) d332_1664 (by decide) ?_
        refine x_mask [true, true, true, true, true, false, false, false, false] ?_
        dsimp only [mask]
        exact hn K2 _ _ hC2 hR2 hG
    · obtain ⟨z, K2, e, _⟩ := h9; cases e
  · obtain ⟨K1, v1, e, _⟩ := h9; cases e
theorem cs30 {k n : Nat} (hl : l.1.stackTraces = false) (hq : 193 ≤ q) (hC : CREL K S) (hR : RREL K S) (hS : GOK S) {i : Int} (i0 : 0 ≤ i) (i6 : i + 6 ≤ l.2.1) (hlen : (l.2.1 : Int) ≤ 2147483647) {Q : OO → Prop} (hn : ∀ (K2 : Nat → Int → Int) (v2 : Int) (S2 : GS), CREL K2 S2 → RREL K2 S2 → GOK S2 → Ex l 332 k n 3032 (lawL i) [] (mm q K2 v2 false) Q) : Ex l 332 (1 + k) (6 + n) 1667 (lawL i) [] (mm q K v false) Q := by
  unfold lawL at hn ⊢
  have hcd : (oAsk2 S (isF S (scV l (i + 1))) (isT (scV l (i + 2))) (invN (chA (gA S) (scV l (i + 2)) (gA S 0 0)) (gA S 6 (scV l (i + 1)) * 8).toNat)).1 = 0 ∨ (oAsk2 S (isF S (scV l (i + 1))) (isT (scV l (i + 2))) (invN (chA (gA S) (scV l (i + 2)) (gA S 0 0)) (gA S 6 (scV l (i + 1)) * 8).toNat)).1 = 1 ∨ (oAsk2 S (isF S (scV l (i + 1))) (isT (scV l (i + 2))) (invN (chA (gA S) (scV l (i + 2)) (gA S 0 0)) (gA S 6 (scV l (i + 1)) * 8).toNat)).1 = 2 := by
    unfold oAsk2
    repeat (first | exact Or.inl rfl | exact Or.inr (Or.inl rfl) | exact Or.inr (Or.inr rfl) | split)
  have hG : GOK (oAsk2 S (isF S (scV l (i + 1))) (isT (scV l (i + 2))) (invN (chA (gA S) (scV l (i + 2)) (gA S 0 0)) (gA S 6 (scV l (i + 1)) * 8).toNat)).2.2 := gok_ask2 hS
  have w1 := wr314 (q := q) (v := v) hl hq hC hS (scV_r l (i + 1)) (scV_r l (i + 2))
  have w2 : ∀ (K1 : Nat → Int → Int) (v1 : Int), RREL K1 S → CT l 254 [.ref 181, .int (iI (scV l (i + 1))), .int (iI (scV l (i + 2)))] (mm q K1 v1 false) 0 0 (RQ q v1 false K1 (oAsk2 S (isF S (scV l (i + 1))) (isT (scV l (i + 2))) (invN (chA (gA S) (scV l (i + 2)) (gA S 0 0)) (gA S 6 (scV l (i + 1)) * 8).toNat))) := fun K1 v1 hR1 => rm254 hl (by omega) hR1 hS (scV_r l (i + 1)) (scV_r l (i + 2))
  generalize (oAsk2 S (isF S (scV l (i + 1))) (isT (scV l (i + 2))) (invN (chA (gA S) (scV l (i + 2)) (gA S 0 0)) (gA S 6 (scV l (i + 1)) * 8).toNat)) = r at w1 w2 hcd hG
  refine x_aload_n (pc := 1667) rfl d332_1667 ?_
  refine x_aload_n (pc := 1668) rfl d332_1668 ?_
  refine x_iload (pc := 1669) rfl d332_1669 ?_
  refine x_iconst (pc := 1671) d332_1671 ?_
  refine x_iadd (pc := 1672) d332_1672 ?_
  refine x_sldR (pc := 1673) (by omega) (by omega) (by omega) d332_1673 ?_
  refine x_aload_n (pc := 1674) rfl d332_1674 ?_
  refine x_iload (pc := 1675) rfl d332_1675 ?_
  refine x_iconst (pc := 1677) d332_1677 ?_
  refine x_iadd (pc := 1678) d332_1678 ?_
  refine x_sldR (pc := 1679) (by omega) (by omega) (by omega) d332_1679 ?_
  refine x_aload_n (pc := 1680) rfl d332_1680 ?_
  refine x_callSW (k := k) (n := n) (pc := 1681) c332_250 w1 rfl rfl (Nat.le_of_ble_eq_true rfl) (by decide +kernel) (by decide +kernel) d332_1681 (Or.inr fun v9 τ h9 => ?_) (fun v9 τ h9 => ?_) (fun E9 τ h9 _ => ?_)
  · obtain ⟨K1, v1, e, _⟩ := h9; cases e; rfl
  · obtain ⟨K1, v1, e, hC1, hk1, hv1⟩ := h9
    cases e
    show Ex l 332 k n 1684 _ [.int (iI r.1)] _ _
    refine x_istore (pc := 1684) (by decide +kernel) rfl d332_1684 ?_
    dsimp only [List.set]
    refine x_aload_n (pc := 1686) rfl d332_1686 ?_
    refine x_aload_n (pc := 1687) rfl d332_1687 ?_
    refine x_iload (pc := 1688) rfl d332_1688 ?_
    refine x_iconst (pc := 1690) d332_1690 ?_
    refine x_iadd (pc := 1691) d332_1691 ?_
    refine x_sldR (pc := 1692) (by omega) (by omega) (by omega) d332_1692 ?_
    refine x_aload_n (pc := 1693) rfl d332_1693 ?_
    refine x_iload (pc := 1694) rfl d332_1694 ?_
    refine x_iconst (pc := 1696) d332_1696 ?_
    refine x_iadd (pc := 1697) d332_1697 ?_
    refine x_sldR (pc := 1698) (by omega) (by omega) (by omega) d332_1698 ?_
    refine ex_00 (x_callV (pc := 1699) c332_252 (w2 K1 v1 (hR.ge hk1)) (xo181 (by omega)) rfl rfl (Nat.le_of_ble_eq_true rfl) (by decide +kernel) (by decide +kernel) d332_1699 (Or.inr fun v9 τ h9 => ?_) (fun v9 τ h9 => ?_) (fun E9 τ h9 _ => ?_))
    · obtain ⟨z, K2, e, _⟩ := h9; cases e; rfl
    · obtain ⟨z, K2, e, h6, hz2, hR2, hk2⟩ := h9
      cases e
      have hC2 : CREL K2 r.2.2 := hC1.lt fun a ha => hk2 a (Or.inl ha)
      show Ex l 332 k n 1702 _ [.int (iI z)] _ _
      refine x_istore (pc := 1702) (by decide +kernel) rfl d332_1702 ?_
      dsimp only [List.set]
      refine x_aload_n (pc := 1704) rfl d332_1704 ?_
      refine x_cVs (pc := 1705) c332_146 (rt_thrown hl hq h6) (xo181 (by omega)) rfl rfl (Nat.le_of_ble_eq_true rfl) (by decide +kernel) (by decide +kernel) rfl d332_1705 ?_
      refine x_iload (pc := 1708) rfl d332_1708 ?_
      refine x_same (pc := 1710) (tgt := 1715) d332_1710 (by decide) ?_
      refine x_iload (pc := 1715) rfl d332_1715 ?_
      refine x_if_ne (pc := 1717) (tgt := 1732) ⟨by omega, by omega⟩ d332_1717 (by decide) (fun g => ?_) (fun g => ?_)
      · refine x_goto (pc := 1732) (tgt := 3032) d332_1732 (by decide) ?_
        refine x_mask [true, true, true, true, true, false, false, false, false] ?_
        dsimp only [mask]
        exact hn K2 _ _ hC2 hR2 hG
      · have hzz : z = r.2.1 := hz2 g
        have hvv := hv1 g
        subst hzz
        refine x_aload_n (pc := 1720) rfl d332_1720 ?_
        refine x_iconst (pc := 1721) d332_1721 ?_
        refine m_lald (pc := 1722) (by omega) (by decide +kernel) d332_1722 ?_
        refine x_iload (pc := 1723) rfl d332_1723 ?_
        refine x_i2lA (pc := 1725) d332_1725 ?_
        rw [hvv]
        refine x_lsame (pc := 1726) (tgt := 1732) (tI_r _) d332_1726 d332_1727 (by decide) ?_
        refine x_goto (pc := 1732) (tgt := 3032) d332_1732 (by decide) ?_
        refine x_mask [true, true, true, true, true, false, false, false, false] ?_
        dsimp only [mask]
        exact hn K2 _ _ hC2 hR2 hG
    · obtain ⟨z, K2, e, _⟩ := h9; cases e
  · obtain ⟨K1, v1, e, _⟩ := h9; cases e
theorem cs31 {k n : Nat} (hl : l.1.stackTraces = false) (hq : 193 ≤ q) (hC : CREL K S) (hR : RREL K S) (hS : GOK S) {i : Int} (i0 : 0 ≤ i) (i6 : i + 6 ≤ l.2.1) (hlen : (l.2.1 : Int) ≤ 2147483647) {Q : OO → Prop} (hn : ∀ (K2 : Nat → Int → Int) (v2 : Int) (S2 : GS), CREL K2 S2 → RREL K2 S2 → GOK S2 → Ex l 332 k n 3032 (lawL i) [] (mm q K2 v2 false) Q) : Ex l 332 (1 + k) (6 + n) 1735 (lawL i) [] (mm q K v false) Q := by
  unfold lawL at hn ⊢
  have hcd : (oAsk2 S (isF S (scV l (i + 1))) (isT (scV l (i + 2))) (bstN (chA (gA S) (scV l (i + 2)) (gA S 0 0)) (gA S 6 (scV l (i + 1)) * 8).toNat)).1 = 0 ∨ (oAsk2 S (isF S (scV l (i + 1))) (isT (scV l (i + 2))) (bstN (chA (gA S) (scV l (i + 2)) (gA S 0 0)) (gA S 6 (scV l (i + 1)) * 8).toNat)).1 = 1 ∨ (oAsk2 S (isF S (scV l (i + 1))) (isT (scV l (i + 2))) (bstN (chA (gA S) (scV l (i + 2)) (gA S 0 0)) (gA S 6 (scV l (i + 1)) * 8).toNat)).1 = 2 := by
    unfold oAsk2
    repeat (first | exact Or.inl rfl | exact Or.inr (Or.inl rfl) | exact Or.inr (Or.inr rfl) | split)
  have hG : GOK (oAsk2 S (isF S (scV l (i + 1))) (isT (scV l (i + 2))) (bstN (chA (gA S) (scV l (i + 2)) (gA S 0 0)) (gA S 6 (scV l (i + 1)) * 8).toNat)).2.2 := gok_ask2 hS
  have w1 := wr315 (q := q) (v := v) hl hq hC hS (scV_r l (i + 1)) (scV_r l (i + 2))
  have w2 : ∀ (K1 : Nat → Int → Int) (v1 : Int), RREL K1 S → CT l 255 [.ref 181, .int (iI (scV l (i + 1))), .int (iI (scV l (i + 2)))] (mm q K1 v1 false) 0 0 (RQ q v1 false K1 (oAsk2 S (isF S (scV l (i + 1))) (isT (scV l (i + 2))) (bstN (chA (gA S) (scV l (i + 2)) (gA S 0 0)) (gA S 6 (scV l (i + 1)) * 8).toNat))) := fun K1 v1 hR1 => rm255 hl (by omega) hR1 hS (scV_r l (i + 1)) (scV_r l (i + 2))
  generalize (oAsk2 S (isF S (scV l (i + 1))) (isT (scV l (i + 2))) (bstN (chA (gA S) (scV l (i + 2)) (gA S 0 0)) (gA S 6 (scV l (i + 1)) * 8).toNat)) = r at w1 w2 hcd hG
  refine x_aload_n (pc := 1735) rfl d332_1735 ?_
  refine x_aload_n (pc := 1736) rfl d332_1736 ?_
  refine x_iload (pc := 1737) rfl d332_1737 ?_
  refine x_iconst (pc := 1739) d332_1739 ?_
  refine x_iadd (pc := 1740) d332_1740 ?_
  refine x_sldR (pc := 1741) (by omega) (by omega) (by omega) d332_1741 ?_
  refine x_aload_n (pc := 1742) rfl d332_1742 ?_
  refine x_iload (pc := 1743) rfl d332_1743 ?_
  refine x_iconst (pc := 1745) d332_1745 ?_
  refine x_iadd (pc := 1746) d332_1746 ?_
  refine x_sldR (pc := 1747) (by omega) (by omega) (by omega) d332_1747 ?_
  refine x_aload_n (pc := 1748) rfl d332_1748 ?_
  refine x_callSW (k := k) (n := n) (pc := 1749) c332_253 w1 rfl rfl (Nat.le_of_ble_eq_true rfl) (by decide +kernel) (by decide +kernel) d332_1749 (Or.inr fun v9 τ h9 => ?_) (fun v9 τ h9 => ?_) (fun E9 τ h9 _ => ?_)
  · obtain ⟨K1, v1, e, _⟩ := h9; cases e; rfl
  · obtain ⟨K1, v1, e, hC1, hk1, hv1⟩ := h9
    cases e
    show Ex l 332 k n 1752 _ [.int (iI r.1)] _ _
    refine x_istore (pc := 1752) (by decide +kernel) rfl d332_1752 ?_
    dsimp only [List.set]
    refine x_aload_n (pc := 1754) rfl d332_1754 ?_
    refine x_aload_n (pc := 1755) rfl d332_1755 ?_
    refine x_iload (pc := 1756) rfl d332_1756 ?_
    refine x_iconst (pc := 1758) d332_1758 ?_
    refine x_iadd (pc := 1759) d332_1759 ?_
    refine x_sldR (pc := 1760) (by omega) (by omega) (by omega) d332_1760 ?_
    refine x_aload_n (pc := 1761) rfl d332_1761 ?_
    refine x_iload (pc := 1762) rfl d332_1762 ?_
    refine x_iconst (pc := 1764) d332_1764 ?_
    refine x_iadd (pc := 1765) d332_1765 ?_
    refine x_sldR (pc := 1766) (by omega) (by omega) (by omega) d332_1766 ?_
    refine ex_00 (x_callV (pc := 1767) c332_255 (w2 K1 v1 (hR.ge hk1)) (xo181 (by omega)) rfl rfl (Nat.le_of_ble_eq_true rfl) (by decide +kernel) (by decide +kernel) d332_1767 (Or.inr fun v9 τ h9 => ?_) (fun v9 τ h9 => ?_) (fun E9 τ h9 _ => ?_))
    · obtain ⟨z, K2, e, _⟩ := h9; cases e; rfl
    · obtain ⟨z, K2, e, h6, hz2, hR2, hk2⟩ := h9
      cases e
      have hC2 : CREL K2 r.2.2 := hC1.lt fun a ha => hk2 a (Or.inl ha)
      show Ex l 332 k n 1770 _ [.int (iI z)] _ _
      refine x_istore (pc := 1770) (by decide +kernel) rfl d332_1770 ?_
      dsimp only [List.set]
      refine x_aload_n (pc := 1772) rfl d332_1772 ?_
      refine x_cVs (pc := 1773) c332_146 (rt_thrown hl hq h6) (xo181 (by omega)) rfl rfl (Nat.le_of_ble_eq_true rfl) (by decide +kernel) (by decide +kernel) rfl d332_1773 ?_
      refine x_iload (pc := 1776) rfl d332_1776 ?_
      refine x_same (pc := 1778) (tgt := 1783) d332_1778 (by decide) ?_
      refine x_iload (pc := 1783) rfl d332_1783 ?_
      refine x_if_ne (pc := 1785) (tgt := 1800) ⟨by omega, by omega⟩ d332_1785 (by decide) (fun g => ?_) (fun g => ?_)
      · refine x_goto (pc := 1800) (tgt := 3032) d332_1800 (by decide) ?_
        refine x_mask [true, true, true, true, true, false, false, false, false] ?_
        dsimp only [mask]
        exact hn K2 _ _ hC2 hR2 hG
      · have hzz : z = r.2.1 := hz2 g
        have hvv := hv1 g
        subst hzz
        refine x_aload_n (pc := 1788) rfl d332_1788 ?_
        refine x_iconst (pc := 1789) d332_1789 ?_
        refine m_lald (pc := 1790) (by omega) (by decide +kernel) d332_1790 ?_
        refine x_iload (pc := 1791) rfl d332_1791 ?_
        refine x_i2lA (pc := 1793) d332_1793 ?_
        rw [hvv]
        refine x_lsame (pc := 1794) (tgt := 1800) (tI_r _) d332_1794 d332_1795 (by decide) ?_
        refine x_goto (pc := 1800) (tgt := 3032) d332_1800 (by decide) ?_
        refine x_mask [true, true, true, true, true, false, false, false, false] ?_
        dsimp only [mask]
        exact hn K2 _ _ hC2 hR2 hG
    · obtain ⟨z, K2, e, _⟩ := h9; cases e
  · obtain ⟨K1, v1, e, _⟩ := h9; cases e
theorem cs32 {k n : Nat} (hl : l.1.stackTraces = false) (hq : 193 ≤ q) (hC : CREL K S) (hR : RREL K S) (hS : GOK S) {i : Int} (i0 : 0 ≤ i) (i6 : i + 6 ≤ l.2.1) (hlen : (l.2.1 : Int) ≤ 2147483647) {Q : OO → Prop} (hn : ∀ (K2 : Nat → Int → Int) (v2 : Int) (S2 : GS), CREL K2 S2 → RREL K2 S2 → GOK S2 → Ex l 332 k n 3032 (lawL i) [] (mm q K2 v2 false) Q) : Ex l 332 (1 + k) (6 + n) 1803 (lawL i) [] (mm q K v false) Q := by
  unfold lawL at hn ⊢
  have hcd : (oAsk2 S (isF S (scV l (i + 1))) (isT (scV l (i + 2))) (wrgA (gA S) (scV l (i + 1)) (scV l (i + 2)))).1 = 0 ∨ (oAsk2 S (isF S (scV l (i + 1))) (isT (scV l (i + 2))) (wrgA (gA S) (scV l (i + 1)) (scV l (i + 2)))).1 = 1 ∨ (oAsk2 S (isF S (scV l (i + 1))) (isT (scV l (i + 2))) (wrgA (gA S) (scV l (i + 1)) (scV l (i + 2)))).1 = 2 := by
    unfold oAsk2
    repeat (first | exact Or.inl rfl | exact Or.inr (Or.inl rfl) | exact Or.inr (Or.inr rfl) | split)
  have hG : GOK (oAsk2 S (isF S (scV l (i + 1))) (isT (scV l (i + 2))) (wrgA (gA S) (scV l (i + 1)) (scV l (i + 2)))).2.2 := gok_ask2 hS
  have w1 := wr316 (q := q) (v := v) hl hq hC hS (scV_r l (i + 1)) (scV_r l (i + 2))
  have w2 : ∀ (K1 : Nat → Int → Int) (v1 : Int), RREL K1 S → CT l 256 [.ref 181, .int (iI (scV l (i + 1))), .int (iI (scV l (i + 2)))] (mm q K1 v1 false) 0 0 (RQ q v1 false K1 (oAsk2 S (isF S (scV l (i + 1))) (isT (scV l (i + 2))) (wrgA (gA S) (scV l (i + 1)) (scV l (i + 2))))) := fun K1 v1 hR1 => rm256 hl (by omega) hR1 hS (scV_r l (i + 1)) (scV_r l (i + 2))
  generalize (oAsk2 S (isF S (scV l (i + 1))) (isT (scV l (i + 2))) (wrgA (gA S) (scV l (i + 1)) (scV l (i + 2)))) = r at w1 w2 hcd hG
  refine x_aload_n (pc := 1803) rfl d332_1803 ?_
  refine x_aload_n (pc := 1804) rfl d332_1804 ?_
  refine x_iload (pc := 1805) rfl d332_1805 ?_
  refine x_iconst (pc := 1807) d332_1807 ?_
  refine x_iadd (pc := 1808) d332_1808 ?_
  refine x_sldR (pc := 1809) (by omega) (by omega) (by omega) d332_1809 ?_
  refine x_aload_n (pc := 1810) rfl d332_1810 ?_
  refine x_iload (pc := 1811) rfl d332_1811 ?_
  refine x_iconst (pc := 1813) d332_1813 ?_
  refine x_iadd (pc := 1814) d332_1814 ?_
  refine x_sldR (pc := 1815) (by omega) (by omega) (by omega) d332_1815 ?_
  refine x_aload_n (pc := 1816) rfl d332_1816 ?_
  refine x_callSW (k := k) (n := n) (pc := 1817) c332_256 w1 rfl rfl (Nat.le_of_ble_eq_true rfl) (by decide +kernel) (by decide +kernel) d332_1817 (Or.inr fun v9 τ h9 => ?_) (fun v9 τ h9 => ?_) (fun E9 τ h9 _ => ?_)
  · obtain ⟨K1, v1, e, _⟩ := h9; cases e; rfl
  · obtain ⟨K1, v1, e, hC1, hk1, hv1⟩ := h9
    cases e
    show Ex l 332 k n 1820 _ [.int (iI r.1)] _ _
    refine x_istore (pc := 1820) (by decide +kernel) rfl d332_1820 ?_
    dsimp only [List.set]
    refine x_aload_n (pc := 1822) rfl d332_1822 ?_
    refine x_aload_n (pc := 1823) rfl d332_1823 ?_
    refine x_iload (pc := 1824) rfl d332_1824 ?_
    refine x_iconst (pc := 1826) d332_1826 ?_
    refine x_iadd (pc := 1827) d332_1827 ?_
    refine x_sldR (pc := 1828) (by omega) (by omega) (by omega) d332_1828 ?_
    refine x_aload_n (pc := 1829) rfl d332_1829 ?_
    refine x_iload (pc := 1830) rfl d332_1830 ?_
    refine x_iconst (pc := 1832) d332_1832 ?_
    refine x_iadd (pc := 1833) d332_1833 ?_
    refine x_sldR (pc := 1834) (by omega) (by omega) (by omega) d332_1834 ?_
    refine ex_00 (x_callV (pc := 1835) c332_258 (w2 K1 v1 (hR.ge hk1)) (xo181 (by omega)) rfl rfl (Nat.le_of_ble_eq_true rfl) (by decide +kernel) (by decide +kernel) d332_1835 (Or.inr fun v9 τ h9 => ?_) (fun v9 τ h9 => ?_) (fun E9 τ h9 _ => ?_))
    · obtain ⟨z, K2, e, _⟩ := h9; cases e; rfl
    · obtain ⟨z, K2, e, h6, hz2, hR2, hk2⟩ := h9
      cases e
      have hC2 : CREL K2 r.2.2 := hC1.lt fun a ha => hk2 a (Or.inl ha)
      show Ex l 332 k n 1838 _ [.int (iI z)] _ _
      refine x_istore (pc := 1838) (by decide +kernel) rfl d332_1838 ?_
      dsimp only [List.set]
      refine x_aload_n (pc := 1840) rfl d332_1840 ?_
      refine x_cVs (pc := 1841) c332_146 (rt_thrown hl hq h6) (xo181 (by omega)) rfl rfl (Nat.le_of_ble_eq_true rfl) (by decide +kernel) (by decide +kernel) rfl d332_1841 ?_
      refine x_iload (pc := 1844) rfl d332_1844 ?_
      refine x_same (pc := 1846) (tgt := 1851) d332_1846 (by decide) ?_
      refine x_iload (pc := 1851) rfl d332_1851 ?_
      refine x_if_ne (pc := 1853) (tgt := 1868) ⟨by omega, by omega⟩ d332_1853 (by decide) (fun g => ?_) (fun g => ?_)
      · refine x_goto (pc := 1868) (tgt := 3032) d332_1868 (by decide) ?_
        refine x_mask [true, true, true, true, true, false, false, false, false] ?_
        dsimp only [mask]
        exact hn K2 _ _ hC2 hR2 hG
      · have hzz : z = r.2.1 := hz2 g
        have hvv := hv1 g
        subst hzz
        refine x_aload_n (pc := 1856) rfl d332_1856 ?_
        refine x_iconst (pc := 1857) d332_1857 ?_
        refine m_lald (pc := 1858) (by omega) (by decide +kernel) d332_1858 ?_
        refine x_iload (pc := 1859) rfl d332_1859 ?_
        refine x_i2lA (pc := 1861) d332_1861 ?_
        rw [hvv]
        refine x_lsame (pc := 1862) (tgt := 1868) (tI_r _) d332_1862 d332_1863 (by decide) ?_
        refine x_goto (pc := 1868) (tgt := 3032) d332_1868 (by decide) ?_
        refine x_mask [true, true, true, true, true, false, false, false, false] ?_
        dsimp only [mask]
        exact hn K2 _ _ hC2 hR2 hG
    · obtain ⟨z, K2, e, _⟩ := h9; cases e
  · obtain ⟨K1, v1, e, _⟩ := h9; cases e
theorem cs33 {k n : Nat} (hl : l.1.stackTraces = false) (hq : 193 ≤ q) (hC : CREL K S) (hR : RREL K S) (hS : GOK S) {i : Int} (i0 : 0 ≤ i) (i6 : i + 6 ≤ l.2.1) (hlen : (l.2.1 : Int) ≤ 2147483647) {Q : OO → Prop} (hn : ∀ (K2 : Nat → Int → Int) (v2 : Int) (S2 : GS), CREL K2 S2 → RREL K2 S2 → GOK S2 → Ex l 332 k n 3032 (lawL i) [] (mm q K2 v2 false) Q) : Ex l 332 (1 + k) (6 + n) 1871 (lawL i) [] (mm q K v false) Q := by
  unfold lawL at hn ⊢
  have hcd : (oAsk2 S (isF S (scV l (i + 1))) (isT (scV l (i + 2))) (resA (gA S) (scV l (i + 1)) (scV l (i + 2)) (gA S 0 0))).1 = 0 ∨ (oAsk2 S (isF S (scV l (i + 1))) (isT (scV l (i + 2))) (resA (gA S) (scV l (i + 1)) (scV l (i + 2)) (gA S 0 0))).1 = 1 ∨ (oAsk2 S (isF S (scV l (i + 1))) (isT (scV l (i + 2))) (resA (gA S) (scV l (i + 1)) (scV l (i + 2)) (gA S 0 0))).1 = 2 := by
    unfold oAsk2
    repeat (first | exact Or.inl rfl | exact Or.inr (Or.inl rfl) | exact Or.inr (Or.inr rfl) | split)
  have hG : GOK (oAsk2 S (isF S (scV l (i + 1))) (isT (scV l (i + 2))) (resA (gA S) (scV l (i + 1)) (scV l (i + 2)) (gA S 0 0))).2.2 := gok_ask2 hS
  have w1 := wr317 (q := q) (v := v) hl hq hC hS (scV_r l (i + 1)) (scV_r l (i + 2))
  have w2 : ∀ (K1 : Nat → Int → Int) (v1 : Int), RREL K1 S → CT l 257 [.ref 181, .int (iI (scV l (i + 1))), .int (iI (scV l (i + 2)))] (mm q K1 v1 false) 0 0 (RQ q v1 false K1 (oAsk2 S (isF S (scV l (i + 1))) (isT (scV l (i + 2))) (resA (gA S) (scV l (i + 1)) (scV l (i + 2)) (gA S 0 0)))) := fun K1 v1 hR1 => rm257 hl (by omega) hR1 hS (scV_r l (i + 1)) (scV_r l (i + 2))
  generalize (oAsk2 S (isF S (scV l (i + 1))) (isT (scV l (i + 2))) (resA (gA S) (scV l (i + 1)) (scV l (i + 2)) (gA S 0 0))) = r at w1 w2 hcd hG
  refine x_aload_n (pc := 1871) rfl d332_1871 ?_
  refine x_aload_n (pc := 1872) rfl d332_1872 ?_
  refine x_iload (pc := 1873) rfl d332_1873 ?_
  refine x_iconst (pc := 1875) d332_1875 ?_
  refine x_iadd (pc := 1876) d332_1876 ?_
  refine x_sldR (pc := 1877) (by omega) (by omega) (by omega) d332_1877 ?_
  refine x_aload_n (pc := 1878) rfl d332_1878 ?_
  refine x_iload (pc := 1879) rfl d332_1879 ?_
  refine x_iconst (pc := 1881) d332_1881 ?_
  refine x_iadd (pc := 1882) d332_1882 ?_
  refine x_sldR (pc := 1883) (by omega) (by omega) (by omega) d332_1883 ?_
  refine x_aload_n (pc := 1884) rfl d332_1884 ?_
  refine x_callSW (k := k) (n := n) (pc := 1885) c332_259 w1 rfl rfl (Nat.le_of_ble_eq_true rfl) (by decide +kernel) (by decide +kernel) d332_1885 (Or.inr fun v9 τ h9 => ?_) (fun v9 τ h9 => ?_) (fun E9 τ h9 _ => ?_)
  · obtain ⟨K1, v1, e, _⟩ := h9; cases e; rfl
  · obtain ⟨K1, v1, e, hC1, hk1, hv1⟩ := h9
    cases e
    show Ex l 332 k n 1888 _ [.int (iI r.1)] _ _
    refine x_istore (pc := 1888) (by decide +kernel) rfl d332_1888 ?_
    dsimp only [List.set]
    refine x_aload_n (pc := 1890) rfl d332_1890 ?_
    refine x_aload_n (pc := 1891) rfl d332_1891 ?_
    refine x_iload (pc := 1892) rfl d332_1892 ?_
    refine x_iconst (pc := 1894) d332_1894 ?_
    refine x_iadd (pc := 1895) d332_1895 ?_
    refine x_sldR (pc := 1896) (by omega) (by omega) (by omega) d332_1896 ?_
    refine x_aload_n (pc := 1897) rfl d332_1897 ?_
    refine x_iload (pc := 1898) rfl d332_1898 ?_
    refine x_iconst (pc := 1900) d332_1900 ?_
    refine x_iadd (pc := 1901) d332_1901 ?_
    refine x_sldR (pc := 1902) (by omega) (by omega) (by omega) d332_1902 ?_
    refine ex_00 (x_callV (pc := 1903) c332_261 (w2 K1 v1 (hR.ge hk1)) (xo181 (by omega)) rfl rfl (Nat.le_of_ble_eq_true rfl) (by decide +kernel) (by decide +kernel) d332_1903 (Or.inr fun v9 τ h9 => ?_) (fun v9 τ h9 => ?_) (fun E9 τ h9 _ => ?_))
    · obtain ⟨z, K2, e, _⟩ := h9; cases e; rfl
    · obtain ⟨z, K2, e, h6, hz2, hR2, hk2⟩ := h9
      cases e
      have hC2 : CREL K2 r.2.2 := hC1.lt fun a ha => hk2 a (Or.inl ha)
      show Ex l 332 k n 1906 _ [.int (iI z)] _ _
      refine x_istore (pc := 1906) (by decide +kernel) rfl d332_1906 ?_
      dsimp only [List.set]
      refine x_aload_n (pc := 1908) rfl d332_1908 ?_
      refine x_cVs (pc := 1909) c332_146 (rt_thrown hl hq h6) (xo181 (by omega)) rfl rfl (Nat.le_of_ble_eq_true rfl) (by decide +kernel) (by decide +kernel) rfl d332_1909 ?_
      refine x_iload (pc := 1912) rfl d332_1912 ?_
      refine x_same (pc := 1914) (tgt := 1919) d332_1914 (by decide) ?_
      refine x_iload (pc := 1919) rfl d332_1919 ?_
      refine x_if_ne (pc := 1921) (tgt := 1936) ⟨by omega, by omega⟩ d332_1921 (by decide) (fun g => ?_) (fun g => ?_)
      · refine x_goto (pc := 1936) (tgt := 3032) d332_1936 (by decide) ?_
        refine x_mask [true, true, true, true, true, false, false, false, false] ?_
        dsimp only [mask]
        exact hn K2 _ _ hC2 hR2 hG
      · have hzz : z = r.2.1 := hz2 g
        have hvv := hv1 g
        subst hzz
        refine x_aload_n (pc := 1924) rfl d332_1924 ?_
        refine x_iconst (pc := 1925) d332_1925 ?_
        refine m_lald (pc := 1926) (by omega) (by decide +kernel) d332_1926 ?_
        refine x_iload (pc := 1927) rfl d332_1927 ?_
        refine x_i2lA (pc := 1929) d332_1929 ?_
        rw [hvv]
        refine x_lsame (pc := 1930) (tgt := 1936) (tI_r _) d332_1930 d332_1931 (by decide) ?_
        refine x_goto (pc := 1936) (tgt := 3032) d332_1936 (by decide) ?_
        refine x_mask [true, true, true, true, true, false, false, false, false] ?_
        dsimp only [mask]
        exact hn K2 _ _ hC2 hR2 hG
    · obtain ⟨z, K2, e, _⟩ := h9; cases e
  · obtain ⟨K1, v1, e, _⟩ := h9; cases e
theorem cs34 {k n : Nat} (hl : l.1.stackTraces = false) (hq : 193 ≤ q) (hC : CREL K S) (hR : RREL K S) (hS : GOK S) {i : Int} (i0 : 0 ≤ i) (i6 : i + 6 ≤ l.2.1) (hlen : (l.2.1 : Int) ≤ 2147483647) {Q : OO → Prop} (hn : ∀ (K2 : Nat → Int → Int) (v2 : Int) (S2 : GS), CREL K2 S2 → RREL K2 S2 → GOK S2 → Ex l 332 k n 3032 (lawL i) [] (mm q K2 v2 false) Q) : Ex l 332 (1 + k) (6 + n) 1939 (lawL i) [] (mm q K v false) Q := by
  unfold lawL at hn ⊢
  have hcd : (oAsk2 S (isF S (scV l (i + 1))) (decide ((1 ≤ (scV l (i + 2)) ∧ (scV l (i + 2)) ≤ 65535) ∧ 0 ≤ (scV l (i + 3)) ∧ (scV l (i + 3)) + bdig (scV l (i + 2)) 16 ≤ gA S 6 (scV l (i + 1)) * 8)) (b01 (wpA (gA S) (scV l (i + 1)) (scV l (i + 2)) (scV l (i + 3))))).1 = 0 ∨ (oAsk2 S (isF S (scV l (i + 1))) (decide ((1 ≤ (scV l (i + 2)) ∧ (scV l (i + 2)) ≤ 65535) ∧ 0 ≤ (scV l (i + 3)) ∧ (scV l (i + 3)) + bdig (scV l (i + 2)) 16 ≤ gA S 6 (scV l (i + 1)) * 8)) (b01 (wpA (gA S) (scV l (i + 1)) (scV l (i + 2)) (scV l (i + 3))))).1 = 1 ∨ (oAsk2 S (isF S (scV l (i + 1))) (decide ((1 ≤ (scV l (i + 2)) ∧ (scV l (i + 2)) ≤ 65535) ∧ 0 ≤ (scV l (i + 3)) ∧ (scV l (i + 3)) + bdig (scV l (i + 2)) 16 ≤ gA S 6 (scV l (i + 1)) * 8)) (b01 (wpA (gA S) (scV l (i + 1)) (scV l (i + 2)) (scV l (i + 3))))).1 = 2 := by
    unfold oAsk2
    repeat (first | exact Or.inl rfl | exact Or.inr (Or.inl rfl) | exact Or.inr (Or.inr rfl) | split)
  have hz : (oAsk2 S (isF S (scV l (i + 1))) (decide ((1 ≤ (scV l (i + 2)) ∧ (scV l (i + 2)) ≤ 65535) ∧ 0 ≤ (scV l (i + 3)) ∧ (scV l (i + 3)) + bdig (scV l (i + 2)) 16 ≤ gA S 6 (scV l (i + 1)) * 8)) (b01 (wpA (gA S) (scV l (i + 1)) (scV l (i + 2)) (scV l (i + 3))))).1 = 0 → (oAsk2 S (isF S (scV l (i + 1))) (decide ((1 ≤ (scV l (i + 2)) ∧ (scV l (i + 2)) ≤ 65535) ∧ 0 ≤ (scV l (i + 3)) ∧ (scV l (i + 3)) + bdig (scV l (i + 2)) 16 ≤ gA S 6 (scV l (i + 1)) * 8)) (b01 (wpA (gA S) (scV l (i + 1)) (scV l (i + 2)) (scV l (i + 3))))).2.1 = 0 ∨ (oAsk2 S (isF S (scV l (i + 1))) (decide ((1 ≤ (scV l (i + 2)) ∧ (scV l (i + 2)) ≤ 65535) ∧ 0 ≤ (scV l (i + 3)) ∧ (scV l (i + 3)) + bdig (scV l (i + 2)) 16 ≤ gA S 6 (scV l (i + 1)) * 8)) (b01 (wpA (gA S) (scV l (i + 1)) (scV l (i + 2)) (scV l (i + 3))))).2.1 = 1 := by
    unfold oAsk2
    repeat (first | exact fun _ => b01_or _ | exact fun z => absurd (show (1 : Int) = 0 from z) (by decide) | exact fun z => absurd (show (2 : Int) = 0 from z) (by decide) | split)
  have hG : GOK (oAsk2 S (isF S (scV l (i + 1))) (decide ((1 ≤ (scV l (i + 2)) ∧ (scV l (i + 2)) ≤ 65535) ∧ 0 ≤ (scV l (i + 3)) ∧ (scV l (i + 3)) + bdig (scV l (i + 2)) 16 ≤ gA S 6 (scV l (i + 1)) * 8)) (b01 (wpA (gA S) (scV l (i + 1)) (scV l (i + 2)) (scV l (i + 3))))).2.2 := gok_ask2 hS
  have w1 := wr318 (q := q) (v := v) hl hq hC hS (scV_r l (i + 1)) (scV_r l (i + 2)) (scV_r l (i + 3))
  have w2 : ∀ (K1 : Nat → Int → Int) (v1 : Int), RREL K1 S → CT l 261 [.ref 181, .int (iI (scV l (i + 1))), .int (iI (scV l (i + 2))), .int (iI (scV l (i + 3)))] (mm q K1 v1 false) 0 0 (RQ q v1 false K1 (oAsk2 S (isF S (scV l (i + 1))) (decide ((1 ≤ (scV l (i + 2)) ∧ (scV l (i + 2)) ≤ 65535) ∧ 0 ≤ (scV l (i + 3)) ∧ (scV l (i + 3)) + bdig (scV l (i + 2)) 16 ≤ gA S 6 (scV l (i + 1)) * 8)) (b01 (wpA (gA S) (scV l (i + 1)) (scV l (i + 2)) (scV l (i + 3)))))) := fun K1 v1 hR1 => rm261 hl (by omega) hR1 hS (scV_r l (i + 1)) (scV_r l (i + 2)) (scV_r l (i + 3))
  generalize (oAsk2 S (isF S (scV l (i + 1))) (decide ((1 ≤ (scV l (i + 2)) ∧ (scV l (i + 2)) ≤ 65535) ∧ 0 ≤ (scV l (i + 3)) ∧ (scV l (i + 3)) + bdig (scV l (i + 2)) 16 ≤ gA S 6 (scV l (i + 1)) * 8)) (b01 (wpA (gA S) (scV l (i + 1)) (scV l (i + 2)) (scV l (i + 3))))) = r at w1 w2 hcd hz hG
  refine x_aload_n (pc := 1939) rfl d332_1939 ?_
  refine x_aload_n (pc := 1940) rfl d332_1940 ?_
  refine x_iload (pc := 1941) rfl d332_1941 ?_
  refine x_iconst (pc := 1943) d332_1943 ?_
  refine x_iadd (pc := 1944) d332_1944 ?_
  refine x_sldR (pc := 1945) (by omega) (by omega) (by omega) d332_1945 ?_
  refine x_aload_n (pc := 1946) rfl d332_1946 ?_
  refine x_iload (pc := 1947) rfl d332_1947 ?_
  refine x_iconst (pc := 1949) d332_1949 ?_
  refine x_iadd (pc := 1950) d332_1950 ?_
  refine x_sldR (pc := 1951) (by omega) (by omega) (by omega) d332_1951 ?_
  refine x_aload_n (pc := 1952) rfl d332_1952 ?_
  refine x_iload (pc := 1953) rfl d332_1953 ?_
  refine x_iconst (pc := 1955) d332_1955 ?_
  refine x_iadd (pc := 1956) d332_1956 ?_
  refine x_sldR (pc := 1957) (by omega) (by omega) (by omega) d332_1957 ?_
  refine x_aload_n (pc := 1958) rfl d332_1958 ?_
  refine x_callSW (k := k) (n := n) (pc := 1959) c332_262 w1 rfl rfl (Nat.le_of_ble_eq_true rfl) (by decide +kernel) (by decide +kernel) d332_1959 (Or.inr fun v9 τ h9 => ?_) (fun v9 τ h9 => ?_) (fun E9 τ h9 _ => ?_)
  · obtain ⟨K1, v1, e, _⟩ := h9; cases e; rfl
  · obtain ⟨K1, v1, e, hC1, hk1, hv1⟩ := h9
    cases e
    show Ex l 332 k n 1962 _ [.int (iI r.1)] _ _
    refine x_istore (pc := 1962) (by decide +kernel) rfl d332_1962 ?_
    dsimp only [List.set]
    refine x_aload_n (pc := 1964) rfl d332_1964 ?_
    refine x_aload_n (pc := 1965) rfl d332_1965 ?_
    refine x_iload (pc := 1966) rfl d332_1966 ?_
    refine x_iconst (pc := 1968) d332_1968 ?_
    refine x_iadd (pc := 1969) d332_1969 ?_
    refine x_sldR (pc := 1970) (by omega) (by omega) (by omega) d332_1970 ?_
    refine x_aload_n (pc := 1971) rfl d332_1971 ?_
    refine x_iload (pc := 1972) rfl d332_1972 ?_
    refine x_iconst (pc := 1974) d332_1974 ?_
    refine x_iadd (pc := 1975) d332_1975 ?_
    refine x_sldR (pc := 1976) (by omega) (by omega) (by omega) d332_1976 ?_
    refine x_aload_n (pc := 1977) rfl d332_1977 ?_
    refine x_iload (pc := 1978) rfl d332_1978 ?_
    refine x_iconst (pc := 1980) d332_1980 ?_
    refine x_iadd (pc := 1981) d332_1981 ?_
    refine x_sldR (pc := 1982) (by omega) (by omega) (by omega) d332_1982 ?_
    refine ex_00 (x_callV (pc := 1983) c332_264 (w2 K1 v1 (hR.ge hk1)) (xo181 (by omega)) rfl rfl (Nat.le_of_ble_eq_true rfl) (by decide +kernel) (by decide +kernel) d332_1983 (Or.inr fun v9 τ h9 => ?_) (fun v9 τ h9 => ?_) (fun E9 τ h9 _ => ?_))
    · obtain ⟨z, K2, e, _⟩ := h9; cases e; rfl
    · obtain ⟨z, K2, e, h6, hz2, hR2, hk2⟩ := h9
      cases e
      have hC2 : CREL K2 r.2.2 := hC1.lt fun a ha => hk2 a (Or.inl ha)
      show Ex l 332 k n 1986 _ [.int (iI z)] _ _
      refine x_istore (pc := 1986) (by decide +kernel) rfl d332_1986 ?_
      dsimp only [List.set]
      refine x_aload_n (pc := 1988) rfl d332_1988 ?_
      refine x_cVs (pc := 1989) c332_146 (rt_thrown hl hq h6) (xo181 (by omega)) rfl rfl (Nat.le_of_ble_eq_true rfl) (by decide +kernel) (by decide +kernel) rfl d332_1989 ?_
      refine x_iload (pc := 1992) rfl d332_1992 ?_
      refine x_same (pc := 1994) (tgt := 1999) d332_1994 (by decide) ?_
      refine x_iload (pc := 1999) rfl d332_1999 ?_
      refine x_if_ne (pc := 2001) (tgt := 2023) ⟨by omega, by omega⟩ d332_2001 (by decide) (fun g => ?_) (fun g => ?_)
      · refine x_goto (pc := 2023) (tgt := 3032) d332_2023 (by decide) ?_
        refine x_mask [true, true, true, true, true, false, false, false, false] ?_
        dsimp only [mask]
        exact hn K2 _ _ hC2 hR2 hG
      · have hzz : z = r.2.1 := hz2 g
        have hvv := hv1 g
        subst hzz
        refine x_aload_n (pc := 2004) rfl d332_2004 ?_
        refine x_iconst (pc := 2005) d332_2005 ?_
        refine m_lald (pc := 2006) (by omega) (by decide +kernel) d332_2006 ?_
        refine x_iload (pc := 2007) rfl d332_2007 ?_
        have hzb := hz g
        refine x_if_eq (pc := 2009) (tgt := 2016) ⟨by omega, by omega⟩ d332_2009 (by decide) (fun g2 => ?_) (fun g2 => ?_)
        · refine x_lconst (pc := 2016) (z := 0) (by decide) d332_2016 ?_
          have hv0 : v1 = 0 := by rw [hvv, show r.2.1 = 0 from by omega]; rfl
          subst hv0
          refine x_lsame (pc := 2017) (tgt := 2023) ⟨by decide, by decide⟩ d332_2017 d332_2018 (by decide) ?_
          refine x_goto (pc := 2023) (tgt := 3032) d332_2023 (by decide) ?_
          refine x_mask [true, true, true, true, true, false, false, false, false] ?_
          dsimp only [mask]
          exact hn K2 _ _ hC2 hR2 hG
        · refine x_lconst (pc := 2012) (z := 1) (by decide) d332_2012 ?_
          refine x_goto (pc := 2013) (tgt := 2017) d332_2013 (by decide) ?_
          have hv0 : v1 = 1 := by rw [hvv, show r.2.1 = 1 from by omega]; rfl
          subst hv0
          refine x_lsame (pc := 2017) (tgt := 2023) ⟨by decide, by decide⟩ d332_2017 d332_2018 (by decide) ?_
          refine x_goto (pc := 2023) (tgt := 3032) d332_2023 (by decide) ?_
          refine x_mask [true, true, true, true, true, false, false, false, false] ?_
          dsimp only [mask]
          exact hn K2 _ _ hC2 hR2 hG
    · obtain ⟨z, K2, e, _⟩ := h9; cases e
  · obtain ⟨K1, v1, e, _⟩ := h9; cases e
theorem cs35 {k n : Nat} (hl : l.1.stackTraces = false) (hq : 193 ≤ q) (hC : CREL K S) (hR : RREL K S) (hS : GOK S) {i : Int} (i0 : 0 ≤ i) (i6 : i + 6 ≤ l.2.1) (hlen : (l.2.1 : Int) ≤ 2147483647) {Q : OO → Prop} (hn : ∀ (K2 : Nat → Int → Int) (v2 : Int) (S2 : GS), CREL K2 S2 → RREL K2 S2 → GOK S2 → Ex l 332 k n 3032 (lawL i) [] (mm q K2 v2 false) Q) : Ex l 332 (1 + k) (6 + n) 2026 (lawL i) [] (mm q K v false) Q := by
  unfold lawL at hn ⊢
  have hcd : (oAsk S (isF S (scV l (i + 1))) (sucN (fun n => resA (gA S) (scV l (i + 1)) (gA S 0 7 + n) (gA S 0 0)) 601 0)).1 = 0 ∨ (oAsk S (isF S (scV l (i + 1))) (sucN (fun n => resA (gA S) (scV l (i + 1)) (gA S 0 7 + n) (gA S 0 0)) 601 0)).1 = 1 := by
    unfold oAsk
    repeat (first | exact Or.inl rfl | exact Or.inr rfl | split)
  have hG : GOK (oAsk S (isF S (scV l (i + 1))) (sucN (fun n => resA (gA S) (scV l (i + 1)) (gA S 0 7 + n) (gA S 0 0)) 601 0)).2.2 := gok_ask hS
  have w1 := wr319 (q := q) (v := v) hl hq hC hS (scV_r l (i + 1))
  have w2 : ∀ (K1 : Nat → Int → Int) (v1 : Int), RREL K1 S → CT l 262 [.ref 181, .int (iI (scV l (i + 1)))] (mm q K1 v1 false) 0 0 (RQ q v1 false K1 (oAsk S (isF S (scV l (i + 1))) (sucN (fun n => resA (gA S) (scV l (i + 1)) (gA S 0 7 + n) (gA S 0 0)) 601 0))) := fun K1 v1 hR1 => rm262 hl (by omega) hR1 hS (scV_r l (i + 1))
  generalize (oAsk S (isF S (scV l (i + 1))) (sucN (fun n => resA (gA S) (scV l (i + 1)) (gA S 0 7 + n) (gA S 0 0)) 601 0)) = r at w1 w2 hcd hG
  refine x_aload_n (pc := 2026) rfl d332_2026 ?_
  refine x_aload_n (pc := 2027) rfl d332_2027 ?_
  refine x_iload (pc := 2028) rfl d332_2028 ?_
  refine x_iconst (pc := 2030) d332_2030 ?_
  refine x_iadd (pc := 2031) d332_2031 ?_
  refine x_sldR (pc := 2032) (by omega) (by omega) (by omega) d332_2032 ?_
  refine x_aload_n (pc := 2033) rfl d332_2033 ?_
  refine x_callSW (k := k) (n := n) (pc := 2034) c332_265 w1 rfl rfl (Nat.le_of_ble_eq_true rfl) (by decide +kernel) (by decide +kernel) d332_2034 (Or.inr fun v9 τ h9 => ?_) (fun v9 τ h9 => ?_) (fun E9 τ h9 _ => ?_)
  · obtain ⟨K1, v1, e, _⟩ := h9; cases e; rfl
  · obtain ⟨K1, v1, e, hC1, hk1, hv1⟩ := h9
    cases e
    show Ex l 332 k n 2037 _ [.int (iI r.1)] _ _
    refine x_istore (pc := 2037) (by decide +kernel) rfl d332_2037 ?_
    dsimp only [List.set]
    refine x_aload_n (pc := 2039) rfl d332_2039 ?_
    refine x_aload_n (pc := 2040) rfl d332_2040 ?_
    refine x_iload (pc := 2041) rfl d332_2041 ?_
    refine x_iconst (pc := 2043) d332_2043 ?_
    refine x_iadd (pc := 2044) d332_2044 ?_
    refine x_sldR (pc := 2045) (by omega) (by omega) (by omega) d332_2045 ?_
    refine ex_00 (x_callV (pc := 2046) c332_267 (w2 K1 v1 (hR.ge hk1)) (xo181 (by omega)) rfl rfl (Nat.le_of_ble_eq_true rfl) (by decide +kernel) (by decide +kernel) d332_2046 (Or.inr fun v9 τ h9 => ?_) (fun v9 τ h9 => ?_) (fun E9 τ h9 _ => ?_))
    · obtain ⟨z, K2, e, _⟩ := h9; cases e; rfl
    · obtain ⟨z, K2, e, h6, hz2, hR2, hk2⟩ := h9
      cases e
      have hC2 : CREL K2 r.2.2 := hC1.lt fun a ha => hk2 a (Or.inl ha)
      show Ex l 332 k n 2049 _ [.int (iI z)] _ _
      refine x_istore (pc := 2049) (by decide +kernel) rfl d332_2049 ?_
      dsimp only [List.set]
      refine x_aload_n (pc := 2051) rfl d332_2051 ?_
      refine x_cVs (pc := 2052) c332_146 (rt_thrown hl hq h6) (xo181 (by omega)) rfl rfl (Nat.le_of_ble_eq_true rfl) (by decide +kernel) (by decide +kernel) rfl d332_2052 ?_
      refine x_iload (pc := 2055) rfl d332_2055 ?_
      refine x_same (pc := 2057) (tgt := 2062) d332_2057 (by decide) ?_
      refine x_iload (pc := 2062) rfl d332_2062 ?_
      refine x_if_ne (pc := 2064) (tgt := 2079) ⟨by omega, by omega⟩ d332_2064 (by decide) (fun g => ?_) (fun g => ?_)
      · refine x_goto (pc := 2079) (tgt := 3032) d332_2079 (by decide) ?_
        refine x_mask [true, true, true, true, true, false, false, false, false] ?_
        dsimp only [mask]
        exact hn K2 _ _ hC2 hR2 hG
      · have hzz : z = r.2.1 := hz2 g
        have hvv := hv1 g
        subst hzz
        refine x_aload_n (pc := 2067) rfl d332_2067 ?_
        refine x_iconst (pc := 2068) d332_2068 ?_
        refine m_lald (pc := 2069) (by omega) (by decide +kernel) d332_2069 ?_
        refine x_iload (pc := 2070) rfl d332_2070 ?_
        refine x_i2lA (pc := 2072) d332_2072 ?_
        rw [hvv]
        refine x_lsame (pc := 2073) (tgt := 2079) (tI_r _) d332_2073 d332_2074 (by decide) ?_
        refine x_goto (pc := 2079) (tgt := 3032) d332_2079 (by decide) ?_
        refine x_mask [true, true, true, true, true, false, false, false, false] ?_
        dsimp only [mask]
        exact hn K2 _ _ hC2 hR2 hG
    · obtain ⟨z, K2, e, _⟩ := h9; cases e
  · obtain ⟨K1, v1, e, _⟩ := h9; cases e
theorem cs36 {k n : Nat} (hl : l.1.stackTraces = false) (hq : 193 ≤ q) (hC : CREL K S) (hR : RREL K S) (hS : GOK S) {i : Int} (i0 : 0 ≤ i) (i6 : i + 6 ≤ l.2.1) (hlen : (l.2.1 : Int) ≤ 2147483647) {Q : OO → Prop} (hn : ∀ (K2 : Nat → Int → Int) (v2 : Int) (S2 : GS), CREL K2 S2 → RREL K2 S2 → GOK S2 → Ex l 332 k n 3032 (lawL i) [] (mm q K2 v2 false) Q) : Ex l 332 (1 + k) (6 + n) 2082 (lawL i) [] (mm q K v false) Q := by
  unfold lawL at hn ⊢
  have hcd : (oAsk S (isF S (scV l (i + 1))) (sucN (fun b => resA (gA S) (scV l (i + 1)) (gA S 0 7) b) 9 1)).1 = 0 ∨ (oAsk S (isF S (scV l (i + 1))) (sucN (fun b => resA (gA S) (scV l (i + 1)) (gA S 0 7) b) 9 1)).1 = 1 := by
    unfold oAsk
    repeat (first | exact Or.inl rfl | exact Or.inr rfl | split)
  have hG : GOK (oAsk S (isF S (scV l (i + 1))) (sucN (fun b => resA (gA S) (scV l (i + 1)) (gA S 0 7) b) 9 1)).2.2 := gok_ask hS
  have w1 := wr320 (q := q) (v := v) hl hq hC hS (scV_r l (i + 1))
  have w2 : ∀ (K1 : Nat → Int → Int) (v1 : Int), RREL K1 S → CT l 263 [.ref 181, .int (iI (scV l (i + 1)))] (mm q K1 v1 false) 0 0 (RQ q v1 false K1 (oAsk S (isF S (scV l (i + 1))) (sucN (fun b => resA (gA S) (scV l (i + 1)) (gA S 0 7) b) 9 1))) := fun K1 v1 hR1 => rm263 hl (by omega) hR1 hS (scV_r l (i + 1))
  generalize (oAsk S (isF S (scV l (i + 1))) (sucN (fun b => resA (gA S) (scV l (i + 1)) (gA S 0 7) b) 9 1)) = r at w1 w2 hcd hG
  refine x_aload_n (pc := 2082) rfl d332_2082 ?_
  refine x_aload_n (pc := 2083) rfl d332_2083 ?_
  refine x_iload (pc := 2084) rfl d332_2084 ?_
  refine x_iconst (pc := 2086) d332_2086 ?_
  refine x_iadd (pc := 2087) d332_2087 ?_
  refine x_sldR (pc := 2088) (by omega) (by omega) (by omega) d332_2088 ?_
  refine x_aload_n (pc := 2089) rfl d332_2089 ?_
  refine x_callSW (k := k) (n := n) (pc := 2090) c332_268 w1 rfl rfl (Nat.le_of_ble_eq_true rfl) (by decide +kernel) (by decide +kernel) d332_2090 (Or.inr fun v9 τ h9 => ?_) (fun v9 τ h9 => ?_) (fun E9 τ h9 _ => ?_)
  · obtain ⟨K1, v1, e, _⟩ := h9; cases e; rfl
  · obtain ⟨K1, v1, e, hC1, hk1, hv1⟩ := h9
    cases e
    show Ex l 332 k n 2093 _ [.int (iI r.1)] _ _
    refine x_istore (pc := 2093) (by decide +kernel) rfl d332_2093 ?_
    dsimp only [List.set]
    refine x_aload_n (pc := 2095) rfl d332_2095 ?_
    refine x_aload_n (pc := 2096) rfl d332_2096 ?_
    refine x_iload (pc := 2097) rfl d332_2097 ?_
    refine x_iconst (pc := 2099) d332_2099 ?_
    refine x_iadd (pc := 2100) d332_2100 ?_
    refine x_sldR (pc := 2101) (by omega) (by omega) (by omega) d332_2101 ?_
    refine ex_00 (x_callV (pc := 2102) c332_270 (w2 K1 v1 (hR.ge hk1)) (xo181 (by omega)) rfl rfl (Nat.le_of_ble_eq_true rfl) (by decide +kernel) (by decide +kernel) d332_2102 (Or.inr fun v9 τ h9 => ?_) (fun v9 τ h9 => ?_) (fun E9 τ h9 _ => ?_))
    · obtain ⟨z, K2, e, _⟩ := h9; cases e; rfl
    · obtain ⟨z, K2, e, h6, hz2, hR2, hk2⟩ := h9
      cases e
      have hC2 : CREL K2 r.2.2 := hC1.lt fun a ha => hk2 a (Or.inl ha)
      show Ex l 332 k n 2105 _ [.int (iI z)] _ _
      refine x_istore (pc := 2105) (by decide +kernel) rfl d332_2105 ?_
      dsimp only [List.set]
      refine x_aload_n (pc := 2107) rfl d332_2107 ?_
      refine x_cVs (pc := 2108) c332_146 (rt_thrown hl hq h6) (xo181 (by omega)) rfl rfl (Nat.le_of_ble_eq_true rfl) (by decide +kernel) (by decide +kernel) rfl d332_2108 ?_
      refine x_iload (pc := 2111) rfl d332_2111 ?_
      refine x_same (pc := 2113) (tgt := 2118) d332_2113 (by decide) ?_
      refine x_iload (pc := 2118) rfl d332_2118 ?_
      refine x_if_ne (pc := 2120) (tgt := 2135) ⟨by omega, by omega⟩ d332_2120 (by decide) (fun g => ?_) (fun g => ?_)
      · refine x_goto (pc := 2135) (tgt := 3032) d332_2135 (by decide) ?_
        refine x_mask [true, true, true, true, true, false, false, false, false] ?_
        dsimp only [mask]
        exact hn K2 _ _ hC2 hR2 hG
      · have hzz : z = r.2.1 := hz2 g
        have hvv := hv1 g
        subst hzz
        refine x_aload_n (pc := 2123) rfl d332_2123 ?_
        refine x_iconst (pc := 2124) d332_2124 ?_
        refine m_lald (pc := 2125) (by omega) (by decide +kernel) d332_2125 ?_
        refine x_iload (pc := 2126) rfl d332_2126 ?_
        refine x_i2lA (pc := 2128) d332_2128 ?_
        rw [hvv]
        refine x_lsame (pc := 2129) (tgt := 2135) (tI_r _) d332_2129 d332_2130 (by decide) ?_
        refine x_goto (pc := 2135) (tgt := 3032) d332_2135 (by decide) ?_
        refine x_mask [true, true, true, true, true, false, false, false, false] ?_
        dsimp only [mask]
        exact hn K2 _ _ hC2 hR2 hG
    · obtain ⟨z, K2, e, _⟩ := h9; cases e
  · obtain ⟨K1, v1, e, _⟩ := h9; cases e
theorem cs37 {k n : Nat} (hl : l.1.stackTraces = false) (hq : 193 ≤ q) (hC : CREL K S) (hR : RREL K S) (hS : GOK S) {i : Int} (i0 : 0 ≤ i) (i6 : i + 6 ≤ l.2.1) (hlen : (l.2.1 : Int) ≤ 2147483647) {Q : OO → Prop} (hn : ∀ (K2 : Nat → Int → Int) (v2 : Int) (S2 : GS), CREL K2 S2 → RREL K2 S2 → GOK S2 → Ex l 332 k n 3032 (lawL i) [] (mm q K2 v2 false) Q) : Ex l 332 (1 + k) (6 + n) 2138 (lawL i) [] (mm q K v false) Q := by
  unfold lawL at hn ⊢
  have w1 := cm113 (q := q) (v := v) (E := fun _ => 0) hl (by omega) hC hS 
  have w2 : ∀ (K1 : Nat → Int → Int), RREL K1 S → CT l 264 [.ref 181] (mm q K1 v false) 0 0 (RQ q v false K1 (0, pendA (gA S), S)) := fun K1 hR1 => rm264 hl (by omega) hR1 hS 
  have h0 : ((0, pendA (gA S), S) : Int × Int × GS).1 = 0 := rfl
  have hG : GOK ((0, pendA (gA S), S) : Int × Int × GS).2.2 := hS
  generalize ((0, pendA (gA S), S) : Int × Int × GS) = r at w1 w2 h0 hG
  refine x_aload_n (pc := 2138) rfl d332_2138 ?_
  refine x_callV (k := k) (n := n) (pc := 2139) c332_271 w1 (ko0 (by omega)) rfl rfl (Nat.le_of_ble_eq_true rfl) (by decide +kernel) (by decide +kernel) d332_2139 (Or.inr fun v9 τ h9 => ?_) (fun v9 τ h9 => ?_) (fun E9 τ h9 _ => ?_)
  · rcases h9 with ⟨_, K1, e, _⟩ | ⟨_, K1, e, _⟩
    · cases e; rfl
    · cases e
  · rcases h9 with ⟨_, K1, e, hC1, hk1⟩ | ⟨_, K1, e, _⟩
    · cases e
      show Ex l 332 k n 2142 _ [.int (iI r.2.1)] _ _
      refine x_aload_n (pc := 2142) rfl d332_2142 ?_
      refine ex_00 (x_callV (pc := 2143) c332_274 (w2 K1 (hR.ge hk1)) (xo181 (by omega)) rfl rfl (Nat.le_of_ble_eq_true rfl) (by decide +kernel) (by decide +kernel) d332_2143 (Or.inr fun v9 τ h9 => ?_) (fun v9 τ h9 => ?_) (fun E9 τ h9 _ => ?_))
      · obtain ⟨z, K2, e, _⟩ := h9; cases e; rfl
      · obtain ⟨z, K2, e, h6, hz2, hR2, hk2⟩ := h9
        cases e
        have hC2 : CREL K2 r.2.2 := hC1.lt fun a ha => hk2 a (Or.inl ha)
        have hzz : z = r.2.1 := hz2 h0
        subst hzz
        show Ex l 332 k n 2146 _ [.int (iI r.2.1), .int (iI r.2.1)] _ _
        refine x_same (pc := 2146) (tgt := 3032) d332_2146 (by decide) ?_
        exact hn K2 v _ hC2 hR2 hG
      · obtain ⟨z, K2, e, _⟩ := h9; cases e
    · cases e
  · rcases h9 with ⟨_, K1, e, _⟩ | ⟨g9, K1, e, _⟩
    · cases e
    · exact absurd h0 g9
theorem cs38 {k n : Nat} (hl : l.1.stackTraces = false) (hq : 193 ≤ q) (hC : CREL K S) (hR : RREL K S) (hS : GOK S) {i : Int} (i0 : 0 ≤ i) (i6 : i + 6 ≤ l.2.1) (hlen : (l.2.1 : Int) ≤ 2147483647) {Q : OO → Prop} (hn : ∀ (K2 : Nat → Int → Int) (v2 : Int) (S2 : GS), CREL K2 S2 → RREL K2 S2 → GOK S2 → Ex l 332 k n 3032 (lawL i) [] (mm q K2 v2 false) Q) : Ex l 332 (1 + k) (6 + n) 2151 (lawL i) [] (mm q K v false) Q := by
  unfold lawL at hn ⊢
  have w1 := cm114 (q := q) (v := v) (E := fun _ => 0) hl (by omega) hC 
  have w2 : ∀ (K1 : Nat → Int → Int), RREL K1 S → CT l 265 [.ref 181] (mm q K1 v false) 0 0 (RQ q v false K1 (0, gA S 0 8, S)) := fun K1 hR1 => rm265 hl (by omega) hR1 hS 
  have h0 : ((0, gA S 0 8, S) : Int × Int × GS).1 = 0 := rfl
  have hG : GOK ((0, gA S 0 8, S) : Int × Int × GS).2.2 := hS
  generalize ((0, gA S 0 8, S) : Int × Int × GS) = r at w1 w2 h0 hG
  refine x_aload_n (pc := 2151) rfl d332_2151 ?_
  refine x_callV (k := k) (n := n) (pc := 2152) c332_275 w1 (ko0 (by omega)) rfl rfl (Nat.le_of_ble_eq_true rfl) (by decide +kernel) (by decide +kernel) d332_2152 (Or.inr fun v9 τ h9 => ?_) (fun v9 τ h9 => ?_) (fun E9 τ h9 _ => ?_)
  · rcases h9 with ⟨_, K1, e, _⟩ | ⟨_, K1, e, _⟩
    · cases e; rfl
    · cases e
  · rcases h9 with ⟨_, K1, e, hC1, hk1⟩ | ⟨_, K1, e, _⟩
    · cases e
      show Ex l 332 k n 2155 _ [.int (iI r.2.1)] _ _
      refine x_aload_n (pc := 2155) rfl d332_2155 ?_
      refine ex_00 (x_callV (pc := 2156) c332_278 (w2 K1 (hR.ge hk1)) (xo181 (by omega)) rfl rfl (Nat.le_of_ble_eq_true rfl) (by decide +kernel) (by decide +kernel) d332_2156 (Or.inr fun v9 τ h9 => ?_) (fun v9 τ h9 => ?_) (fun E9 τ h9 _ => ?_))
      · obtain ⟨z, K2, e, _⟩ := h9; cases e; rfl
      · obtain ⟨z, K2, e, h6, hz2, hR2, hk2⟩ := h9
        cases e
        have hC2 : CREL K2 r.2.2 := hC1.lt fun a ha => hk2 a (Or.inl ha)
        have hzz : z = r.2.1 := hz2 h0
        subst hzz
        show Ex l 332 k n 2159 _ [.int (iI r.2.1), .int (iI r.2.1)] _ _
        refine x_same (pc := 2159) (tgt := 3032) d332_2159 (by decide) ?_
        exact hn K2 v _ hC2 hR2 hG
      · obtain ⟨z, K2, e, _⟩ := h9; cases e
    · cases e
  · rcases h9 with ⟨_, K1, e, _⟩ | ⟨g9, K1, e, _⟩
    · cases e
    · exact absurd h0 g9
theorem cs39 {k n : Nat} (hl : l.1.stackTraces = false) (hq : 193 ≤ q) (hC : CREL K S) (hR : RREL K S) (hS : GOK S) {i : Int} (i0 : 0 ≤ i) (i6 : i + 6 ≤ l.2.1) (hlen : (l.2.1 : Int) ≤ 2147483647) {Q : OO → Prop} (hn : ∀ (K2 : Nat → Int → Int) (v2 : Int) (S2 : GS), CREL K2 S2 → RREL K2 S2 → GOK S2 → Ex l 332 k n 3032 (lawL i) [] (mm q K2 v2 false) Q) : Ex l 332 (1 + k) (6 + n) 2164 (lawL i) [] (mm q K v false) Q := by
  unfold lawL at hn ⊢
  have w1 := cm115 (q := q) (v := v) (E := fun _ => 0) hl (by omega) hC hS 
  have w2 : ∀ (K1 : Nat → Int → Int), RREL K1 S → CT l 266 [.ref 181] (mm q K1 v false) 0 0 (RQ q v false K1 (0, (mkS 432 (gA S)).1, S)) := fun K1 hR1 => rm266 hl (by omega) hR1 hS 
  have h0 : ((0, (mkS 432 (gA S)).1, S) : Int × Int × GS).1 = 0 := rfl
  have hG : GOK ((0, (mkS 432 (gA S)).1, S) : Int × Int × GS).2.2 := hS
  generalize ((0, (mkS 432 (gA S)).1, S) : Int × Int × GS) = r at w1 w2 h0 hG
  refine x_aload_n (pc := 2164) rfl d332_2164 ?_
  refine x_callV (k := k) (n := n) (pc := 2165) c332_279 w1 (ko0 (by omega)) rfl rfl (Nat.le_of_ble_eq_true rfl) (by decide +kernel) (by decide +kernel) d332_2165 (Or.inr fun v9 τ h9 => ?_) (fun v9 τ h9 => ?_) (fun E9 τ h9 _ => ?_)
  · rcases h9 with ⟨_, K1, e, _⟩ | ⟨_, K1, e, _⟩
    · cases e; rfl
    · cases e
  · rcases h9 with ⟨_, K1, e, hC1, hk1⟩ | ⟨_, K1, e, _⟩
    · cases e
      show Ex l 332 k n 2168 _ [.int (iI r.2.1)] _ _
      refine x_aload_n (pc := 2168) rfl d332_2168 ?_
      refine ex_00 (x_callV (pc := 2169) c332_282 (w2 K1 (hR.ge hk1)) (xo181 (by omega)) rfl rfl (Nat.le_of_ble_eq_true rfl) (by decide +kernel) (by decide +kernel) d332_2169 (Or.inr fun v9 τ h9 => ?_) (fun v9 τ h9 => ?_) (fun E9 τ h9 _ => ?_))
      · obtain ⟨z, K2, e, _⟩ := h9; cases e; rfl
      · obtain ⟨z, K2, e, h6, hz2, hR2, hk2⟩ := h9
        cases e
        have hC2 : CREL K2 r.2.2 := hC1.lt fun a ha => hk2 a (Or.inl ha)
        have hzz : z = r.2.1 := hz2 h0
        subst hzz
        show Ex l 332 k n 2172 _ [.int (iI r.2.1), .int (iI r.2.1)] _ _
        refine x_same (pc := 2172) (tgt := 3032) d332_2172 (by decide) ?_
        exact hn K2 v _ hC2 hR2 hG
      · obtain ⟨z, K2, e, _⟩ := h9; cases e
    · cases e
  · rcases h9 with ⟨_, K1, e, _⟩ | ⟨g9, K1, e, _⟩
    · cases e
    · exact absurd h0 g9
theorem cs40 {k n : Nat} (hl : l.1.stackTraces = false) (hq : 193 ≤ q) (hC : CREL K S) (hR : RREL K S) (hS : GOK S) {i : Int} (i0 : 0 ≤ i) (i6 : i + 6 ≤ l.2.1) (hlen : (l.2.1 : Int) ≤ 2147483647) {Q : OO → Prop} (hn : ∀ (K2 : Nat → Int → Int) (v2 : Int) (S2 : GS), CREL K2 S2 → RREL K2 S2 → GOK S2 → Ex l 332 k n 3032 (lawL i) [] (mm q K2 v2 false) Q) : Ex l 332 (1 + k) (6 + n) 2177 (lawL i) [] (mm q K v false) Q := by
  unfold lawL at hn ⊢
  have w1 := cm116 (q := q) (v := v) (E := fun _ => 0) hl (by omega) hC hS 
  have w2 : ∀ (K1 : Nat → Int → Int), RREL K1 S → CT l 267 [.ref 181] (mm q K1 v false) 0 0 (RQ q v false K1 (0, (mkS 432 (gA S)).2 0 7, S)) := fun K1 hR1 => rm267 hl (by omega) hR1 hS 
  have h0 : ((0, (mkS 432 (gA S)).2 0 7, S) : Int × Int × GS).1 = 0 := rfl
  have hG : GOK ((0, (mkS 432 (gA S)).2 0 7, S) : Int × Int × GS).2.2 := hS
  generalize ((0, (mkS 432 (gA S)).2 0 7, S) : Int × Int × GS) = r at w1 w2 h0 hG
  refine x_aload_n (pc := 2177) rfl d332_2177 ?_
  refine x_callV (k := k) (n := n) (pc := 2178) c332_283 w1 (ko0 (by omega)) rfl rfl (Nat.le_of_ble_eq_true rfl) (by decide +kernel) (by decide +kernel) d332_2178 (Or.inr fun v9 τ h9 => ?_) (fun v9 τ h9 => ?_) (fun E9 τ h9 _ => ?_)
  · rcases h9 with ⟨_, K1, e, _⟩ | ⟨_, K1, e, _⟩
    · cases e; rfl
    · cases e
  · rcases h9 with ⟨_, K1, e, hC1, hk1⟩ | ⟨_, K1, e, _⟩
    · cases e
      show Ex l 332 k n 2181 _ [.int (iI r.2.1)] _ _
      refine x_aload_n (pc := 2181) rfl d332_2181 ?_
      refine ex_00 (x_callV (pc := 2182) c332_286 (w2 K1 (hR.ge hk1)) (xo181 (by omega)) rfl rfl (Nat.le_of_ble_eq_true rfl) (by decide +kernel) (by decide +kernel) d332_2182 (Or.inr fun v9 τ h9 => ?_) (fun v9 τ h9 => ?_) (fun E9 τ h9 _ => ?_))
      · obtain ⟨z, K2, e, _⟩ := h9; cases e; rfl
      · obtain ⟨z, K2, e, h6, hz2, hR2, hk2⟩ := h9
        cases e
        have hC2 : CREL K2 r.2.2 := hC1.lt fun a ha => hk2 a (Or.inl ha)
        have hzz : z = r.2.1 := hz2 h0
        subst hzz
        show Ex l 332 k n 2185 _ [.int (iI r.2.1), .int (iI r.2.1)] _ _
        refine x_same (pc := 2185) (tgt := 3032) d332_2185 (by decide) ?_
        exact hn K2 v _ hC2 hR2 hG
      · obtain ⟨z, K2, e, _⟩ := h9; cases e
    · cases e
  · rcases h9 with ⟨_, K1, e, _⟩ | ⟨g9, K1, e, _⟩
    · cases e
    · exact absurd h0 g9
theorem cs41 {k n : Nat} (hl : l.1.stackTraces = false) (hq : 193 ≤ q) (hC : CREL K S) (hR : RREL K S) (hS : GOK S) {i : Int} (i0 : 0 ≤ i) (i6 : i + 6 ≤ l.2.1) (hlen : (l.2.1 : Int) ≤ 2147483647) {Q : OO → Prop} (hn : ∀ (K2 : Nat → Int → Int) (v2 : Int) (S2 : GS), CREL K2 S2 → RREL K2 S2 → GOK S2 → Ex l 332 k n 3032 (lawL i) [] (mm q K2 v2 false) Q) : Ex l 332 (1 + k) (6 + n) 2190 (lawL i) [] (mm q K v false) Q := by
  unfold lawL at hn ⊢
  have w1 := cm117 (q := q) (v := v) (E := fun _ => 0) hl (by omega) hC 
  have w2 : ∀ (K1 : Nat → Int → Int), RREL K1 S → CT l 268 [.ref 181] (mm q K1 v false) 0 0 (RQ q v false K1 (0, gA S 0 10, S)) := fun K1 hR1 => rm268 hl (by omega) hR1 hS 
  have h0 : ((0, gA S 0 10, S) : Int × Int × GS).1 = 0 := rfl
  have hG : GOK ((0, gA S 0 10, S) : Int × Int × GS).2.2 := hS
  generalize ((0, gA S 0 10, S) : Int × Int × GS) = r at w1 w2 h0 hG
  refine x_aload_n (pc := 2190) rfl d332_2190 ?_
  refine x_callV (k := k) (n := n) (pc := 2191) c332_287 w1 (ko0 (by omega)) rfl rfl (Nat.le_of_ble_eq_true rfl) (by decide +kernel) (by decide +kernel) d332_2191 (Or.inr fun v9 τ h9 => ?_) (fun v9 τ h9 => ?_) (fun E9 τ h9 _ => ?_)
  · rcases h9 with ⟨_, K1, e, _⟩ | ⟨_, K1, e, _⟩
    · cases e; rfl
    · cases e
  · rcases h9 with ⟨_, K1, e, hC1, hk1⟩ | ⟨_, K1, e, _⟩
    · cases e
      show Ex l 332 k n 2194 _ [.int (iI r.2.1)] _ _
      refine x_aload_n (pc := 2194) rfl d332_2194 ?_
      refine ex_00 (x_callV (pc := 2195) c332_290 (w2 K1 (hR.ge hk1)) (xo181 (by omega)) rfl rfl (Nat.le_of_ble_eq_true rfl) (by decide +kernel) (by decide +kernel) d332_2195 (Or.inr fun v9 τ h9 => ?_) (fun v9 τ h9 => ?_) (fun E9 τ h9 _ => ?_))
      · obtain ⟨z, K2, e, _⟩ := h9; cases e; rfl
      · obtain ⟨z, K2, e, h6, hz2, hR2, hk2⟩ := h9
        cases e
        have hC2 : CREL K2 r.2.2 := hC1.lt fun a ha => hk2 a (Or.inl ha)
        have hzz : z = r.2.1 := hz2 h0
        subst hzz
        show Ex l 332 k n 2198 _ [.int (iI r.2.1), .int (iI r.2.1)] _ _
        refine x_same (pc := 2198) (tgt := 3032) d332_2198 (by decide) ?_
        exact hn K2 v _ hC2 hR2 hG
      · obtain ⟨z, K2, e, _⟩ := h9; cases e
    · cases e
  · rcases h9 with ⟨_, K1, e, _⟩ | ⟨g9, K1, e, _⟩
    · cases e
    · exact absurd h0 g9
theorem cs42 {k n : Nat} (hl : l.1.stackTraces = false) (hq : 193 ≤ q) (hC : CREL K S) (hR : RREL K S) (hS : GOK S) {i : Int} (i0 : 0 ≤ i) (i6 : i + 6 ≤ l.2.1) (hlen : (l.2.1 : Int) ≤ 2147483647) {Q : OO → Prop} (hn : ∀ (K2 : Nat → Int → Int) (v2 : Int) (S2 : GS), CREL K2 S2 → RREL K2 S2 → GOK S2 → Ex l 332 k n 3032 (lawL i) [] (mm q K2 v2 false) Q) : Ex l 332 (1 + k) (6 + n) 2203 (lawL i) [] (mm q K v false) Q := by
  unfold lawL at hn ⊢
  have w1 := cm118 (q := q) (v := v) (E := fun _ => 0) hl (by omega) hC 
  have w2 : ∀ (K1 : Nat → Int → Int), RREL K1 S → CT l 269 [.ref 181] (mm q K1 v false) 0 0 (RQ q v false K1 (0, gA S 0 11, S)) := fun K1 hR1 => rm269 hl (by omega) hR1 hS 
  have h0 : ((0, gA S 0 11, S) : Int × Int × GS).1 = 0 := rfl
  have hG : GOK ((0, gA S 0 11, S) : Int × Int × GS).2.2 := hS
  generalize ((0, gA S 0 11, S) : Int × Int × GS) = r at w1 w2 h0 hG
  refine x_aload_n (pc := 2203) rfl d332_2203 ?_
  refine x_callV (k := k) (n := n) (pc := 2204) c332_291 w1 (ko0 (by omega)) rfl rfl (Nat.le_of_ble_eq_true rfl) (by decide +kernel) (by decide +kernel) d332_2204 (Or.inr fun v9 τ h9 => ?_) (fun v9 τ h9 => ?_) (fun E9 τ h9 _ => ?_)
  · rcases h9 with ⟨_, K1, e, _⟩ | ⟨_, K1, e, _⟩
    · cases e; rfl
    · cases e
  · rcases h9 with ⟨_, K1, e, hC1, hk1⟩ | ⟨_, K1, e, _⟩
    · cases e
      show Ex l 332 k n 2207 _ [.int (iI r.2.1)] _ _
      refine x_aload_n (pc := 2207) rfl d332_2207 ?_
      refine ex_00 (x_callV (pc := 2208) c332_294 (w2 K1 (hR.ge hk1)) (xo181 (by omega)) rfl rfl (Nat.le_of_ble_eq_true rfl) (by decide +kernel) (by decide +kernel) d332_2208 (Or.inr fun v9 τ h9 => ?_) (fun v9 τ h9 => ?_) (fun E9 τ h9 _ => ?_))
      · obtain ⟨z, K2, e, _⟩ := h9; cases e; rfl
      · obtain ⟨z, K2, e, h6, hz2, hR2, hk2⟩ := h9
        cases e
        have hC2 : CREL K2 r.2.2 := hC1.lt fun a ha => hk2 a (Or.inl ha)
        have hzz : z = r.2.1 := hz2 h0
        subst hzz
        show Ex l 332 k n 2211 _ [.int (iI r.2.1), .int (iI r.2.1)] _ _
        refine x_same (pc := 2211) (tgt := 3032) d332_2211 (by decide) ?_
        exact hn K2 v _ hC2 hR2 hG
      · obtain ⟨z, K2, e, _⟩ := h9; cases e
    · cases e
  · rcases h9 with ⟨_, K1, e, _⟩ | ⟨g9, K1, e, _⟩
    · cases e
    · exact absurd h0 g9
theorem cs43 {k n : Nat} (hl : l.1.stackTraces = false) (hq : 193 ≤ q) (hC : CREL K S) (hR : RREL K S) (hS : GOK S) {i : Int} (i0 : 0 ≤ i) (i6 : i + 6 ≤ l.2.1) (hlen : (l.2.1 : Int) ≤ 2147483647) {Q : OO → Prop} (hn : ∀ (K2 : Nat → Int → Int) (v2 : Int) (S2 : GS), CREL K2 S2 → RREL K2 S2 → GOK S2 → Ex l 332 k n 3032 (lawL i) [] (mm q K2 v2 false) Q) : Ex l 332 (1 + k) (6 + n) 2216 (lawL i) [] (mm q K v false) Q := by
  unfold lawL at hn ⊢
  have w1 := cm119 (q := q) (v := v) (E := fun _ => 0) hl (by omega) hC 
  have w2 : ∀ (K1 : Nat → Int → Int), RREL K1 S → CT l 270 [.ref 181] (mm q K1 v false) 0 0 (RQ q v false K1 (0, gA S 0 12, S)) := fun K1 hR1 => rm270 hl (by omega) hR1 hS 
  have h0 : ((0, gA S 0 12, S) : Int × Int × GS).1 = 0 := rfl
  have hG : GOK ((0, gA S 0 12, S) : Int × Int × GS).2.2 := hS
  generalize ((0, gA S 0 12, S) : Int × Int × GS) = r at w1 w2 h0 hG
  refine x_aload_n (pc := 2216) rfl d332_2216 ?_
  refine x_callV (k := k) (n := n) (pc := 2217) c332_295 w1 (ko0 (by omega)) rfl rfl (Nat.le_of_ble_eq_true rfl) (by decide +kernel) (by decide +kernel) d332_2217 (Or.inr fun v9 τ h9 => ?_) (fun v9 τ h9 => ?_) (fun E9 τ h9 _ => ?_)
  · rcases h9 with ⟨_, K1, e, _⟩ | ⟨_, K1, e, _⟩
    · cases e; rfl
    · cases e
  · rcases h9 with ⟨_, K1, e, hC1, hk1⟩ | ⟨_, K1, e, _⟩
    · cases e
      show Ex l 332 k n 2220 _ [.int (iI r.2.1)] _ _
      refine x_aload_n (pc := 2220) rfl d332_2220 ?_
      refine ex_00 (x_callV (pc := 2221) c332_298 (w2 K1 (hR.ge hk1)) (xo181 (by omega)) rfl rfl (Nat.le_of_ble_eq_true rfl) (by decide +kernel) (by decide +kernel) d332_2221 (Or.inr fun v9 τ h9 => ?_) (fun v9 τ h9 => ?_) (fun E9 τ h9 _ => ?_))
      · obtain ⟨z, K2, e, _⟩ := h9; cases e; rfl
      · obtain ⟨z, K2, e, h6, hz2, hR2, hk2⟩ := h9
        cases e
        have hC2 : CREL K2 r.2.2 := hC1.lt fun a ha => hk2 a (Or.inl ha)
        have hzz : z = r.2.1 := hz2 h0
        subst hzz
        show Ex l 332 k n 2224 _ [.int (iI r.2.1), .int (iI r.2.1)] _ _
        refine x_same (pc := 2224) (tgt := 3032) d332_2224 (by decide) ?_
        exact hn K2 v _ hC2 hR2 hG
      · obtain ⟨z, K2, e, _⟩ := h9; cases e
    · cases e
  · rcases h9 with ⟨_, K1, e, _⟩ | ⟨g9, K1, e, _⟩
    · cases e
    · exact absurd h0 g9
theorem cs44 {k n : Nat} (hl : l.1.stackTraces = false) (hq : 193 ≤ q) (hC : CREL K S) (hR : RREL K S) (hS : GOK S) {i : Int} (i0 : 0 ≤ i) (i6 : i + 6 ≤ l.2.1) (hlen : (l.2.1 : Int) ≤ 2147483647) {Q : OO → Prop} (hn : ∀ (K2 : Nat → Int → Int) (v2 : Int) (S2 : GS), CREL K2 S2 → RREL K2 S2 → GOK S2 → Ex l 332 k n 3032 (lawL i) [] (mm q K2 v2 false) Q) : Ex l 332 (1 + k) (6 + n) 2229 (lawL i) [] (mm q K v false) Q := by
  unfold lawL at hn ⊢
  have w1 := cm120 (q := q) (v := v) (E := fun _ => 0) hl (by omega) hC 
  have w2 : ∀ (K1 : Nat → Int → Int), RREL K1 S → CT l 271 [.ref 181] (mm q K1 v false) 0 0 (RQ q v false K1 (0, gA S 0 14, S)) := fun K1 hR1 => rm271 hl (by omega) hR1 hS 
  have h0 : ((0, gA S 0 14, S) : Int × Int × GS).1 = 0 := rfl
  have hG : GOK ((0, gA S 0 14, S) : Int × Int × GS).2.2 := hS
  generalize ((0, gA S 0 14, S) : Int × Int × GS) = r at w1 w2 h0 hG
  refine x_aload_n (pc := 2229) rfl d332_2229 ?_
  refine x_callV (k := k) (n := n) (pc := 2230) c332_299 w1 (ko0 (by omega)) rfl rfl (Nat.le_of_ble_eq_true rfl) (by decide +kernel) (by decide +kernel) d332_2230 (Or.inr fun v9 τ h9 => ?_) (fun v9 τ h9 => ?_) (fun E9 τ h9 _ => ?_)
  · rcases h9 with ⟨_, K1, e, _⟩ | ⟨_, K1, e, _⟩
    · cases e; rfl
    · cases e
  · rcases h9 with ⟨_, K1, e, hC1, hk1⟩ | ⟨_, K1, e, _⟩
    · cases e
      show Ex l 332 k n 2233 _ [.int (iI r.2.1)] _ _
      refine x_aload_n (pc := 2233) rfl d332_2233 ?_
      refine ex_00 (x_callV (pc := 2234) c332_302 (w2 K1 (hR.ge hk1)) (xo181 (by omega)) rfl rfl (Nat.le_of_ble_eq_true rfl) (by decide +kernel) (by decide +kernel) d332_2234 (Or.inr fun v9 τ h9 => ?_) (fun v9 τ h9 => ?_) (fun E9 τ h9 _ => ?_))
      · obtain ⟨z, K2, e, _⟩ := h9; cases e; rfl
      · obtain ⟨z, K2, e, h6, hz2, hR2, hk2⟩ := h9
        cases e
        have hC2 : CREL K2 r.2.2 := hC1.lt fun a ha => hk2 a (Or.inl ha)
        have hzz : z = r.2.1 := hz2 h0
        subst hzz
        show Ex l 332 k n 2237 _ [.int (iI r.2.1), .int (iI r.2.1)] _ _
        refine x_same (pc := 2237) (tgt := 3032) d332_2237 (by decide) ?_
        exact hn K2 v _ hC2 hR2 hG
      · obtain ⟨z, K2, e, _⟩ := h9; cases e
    · cases e
  · rcases h9 with ⟨_, K1, e, _⟩ | ⟨g9, K1, e, _⟩
    · cases e
    · exact absurd h0 g9
theorem cs45 {k n : Nat} (hl : l.1.stackTraces = false) (hq : 193 ≤ q) (hC : CREL K S) (hR : RREL K S) (hS : GOK S) {i : Int} (i0 : 0 ≤ i) (i6 : i + 6 ≤ l.2.1) (hlen : (l.2.1 : Int) ≤ 2147483647) {Q : OO → Prop} (hn : ∀ (K2 : Nat → Int → Int) (v2 : Int) (S2 : GS), CREL K2 S2 → RREL K2 S2 → GOK S2 → Ex l 332 k n 3032 (lawL i) [] (mm q K2 v2 false) Q) : Ex l 332 (1 + k) (6 + n) 2242 (lawL i) [] (mm q K v false) Q := by
  unfold lawL at hn ⊢
  have w1 := cm121 (q := q) (v := v) (E := fun _ => 0) hl (by omega) hC 
  have w2 : ∀ (K1 : Nat → Int → Int), RREL K1 S → CT l 272 [.ref 181] (mm q K1 v false) 0 0 (RQ q v false K1 (0, gA S 0 15, S)) := fun K1 hR1 => rm272 hl (by omega) hR1 hS 
  have h0 : ((0, gA S 0 15, S) : Int × Int × GS).1 = 0 := rfl
  have hG : GOK ((0, gA S 0 15, S) : Int × Int × GS).2.2 := hS
  generalize ((0, gA S 0 15, S) : Int × Int × GS) = r at w1 w2 h0 hG
  refine x_aload_n (pc := 2242) rfl d332_2242 ?_
  refine x_callV (k := k) (n := n) (pc := 2243) c332_303 w1 (ko0 (by omega)) rfl rfl (Nat.le_of_ble_eq_true rfl) (by decide +kernel) (by decide +kernel) d332_2243 (Or.inr fun v9 τ h9 => ?_) (fun v9 τ h9 => ?_) (fun E9 τ h9 _ => ?_)
  · rcases h9 with ⟨_, K1, e, _⟩ | ⟨_, K1, e, _⟩
    · cases e; rfl
    · cases e
  · rcases h9 with ⟨_, K1, e, hC1, hk1⟩ | ⟨_, K1, e, _⟩
    · cases e
      show Ex l 332 k n 2246 _ [.int (iI r.2.1)] _ _
      refine x_aload_n (pc := 2246) rfl d332_2246 ?_
      refine ex_00 (x_callV (pc := 2247) c332_306 (w2 K1 (hR.ge hk1)) (xo181 (by omega)) rfl rfl (Nat.le_of_ble_eq_true rfl) (by decide +kernel) (by decide +kernel) d332_2247 (Or.inr fun v9 τ h9 => ?_) (fun v9 τ h9 => ?_) (fun E9 τ h9 _ => ?_))
      · obtain ⟨z, K2, e, _⟩ := h9; cases e; rfl
      · obtain ⟨z, K2, e, h6, hz2, hR2, hk2⟩ := h9
        cases e
        have hC2 : CREL K2 r.2.2 := hC1.lt fun a ha => hk2 a (Or.inl ha)
        have hzz : z = r.2.1 := hz2 h0
        subst hzz
        show Ex l 332 k n 2250 _ [.int (iI r.2.1), .int (iI r.2.1)] _ _
        refine x_same (pc := 2250) (tgt := 3032) d332_2250 (by decide) ?_
        exact hn K2 v _ hC2 hR2 hG
      · obtain ⟨z, K2, e, _⟩ := h9; cases e
    · cases e
  · rcases h9 with ⟨_, K1, e, _⟩ | ⟨g9, K1, e, _⟩
    · cases e
    · exact absurd h0 g9
theorem cs46 {k n : Nat} (hl : l.1.stackTraces = false) (hq : 193 ≤ q) (hC : CREL K S) (hR : RREL K S) (hS : GOK S) {i : Int} (i0 : 0 ≤ i) (i6 : i + 6 ≤ l.2.1) (hlen : (l.2.1 : Int) ≤ 2147483647) {Q : OO → Prop} (hn : ∀ (K2 : Nat → Int → Int) (v2 : Int) (S2 : GS), CREL K2 S2 → RREL K2 S2 → GOK S2 → Ex l 332 k n 3032 (lawL i) [] (mm q K2 v2 false) Q) : Ex l 332 (1 + k) (6 + n) 2255 (lawL i) [] (mm q K v false) Q := by
  unfold lawL at hn ⊢
  have w1 := cm122 (q := q) (v := v) (E := fun _ => 0) hl (by omega) hC 
  have w2 : ∀ (K1 : Nat → Int → Int), RREL K1 S → CT l 273 [.ref 181] (mm q K1 v false) 0 0 (RQ q v false K1 (0, gA S 0 16, S)) := fun K1 hR1 => rm273 hl (by omega) hR1 hS 
  have h0 : ((0, gA S 0 16, S) : Int × Int × GS).1 = 0 := rfl
  have hG : GOK ((0, gA S 0 16, S) : Int × Int × GS).2.2 := hS
  generalize ((0, gA S 0 16, S) : Int × Int × GS) = r at w1 w2 h0 hG
  refine x_aload_n (pc := 2255) rfl d332_2255 ?_
  refine x_callV (k := k) (n := n) (pc := 2256) c332_307 w1 (ko0 (by omega)) rfl rfl (Nat.le_of_ble_eq_true rfl) (by decide +kernel) (by decide +kernel) d332_2256 (Or.inr fun v9 τ h9 => ?_) (fun v9 τ h9 => ?_) (fun E9 τ h9 _ => ?_)
  · rcases h9 with ⟨_, K1, e, _⟩ | ⟨_, K1, e, _⟩
    · cases e; rfl
    · cases e
  · rcases h9 with ⟨_, K1, e, hC1, hk1⟩ | ⟨_, K1, e, _⟩
    · cases e
      show Ex l 332 k n 2259 _ [.int (iI r.2.1)] _ _
      refine x_aload_n (pc := 2259) rfl d332_2259 ?_
      refine ex_00 (x_callV (pc := 2260) c332_310 (w2 K1 (hR.ge hk1)) (xo181 (by omega)) rfl rfl (Nat.le_of_ble_eq_true rfl) (by decide +kernel) (by decide +kernel) d332_2260 (Or.inr fun v9 τ h9 => ?_) (fun v9 τ h9 => ?_) (fun E9 τ h9 _ => ?_))
      · obtain ⟨z, K2, e, _⟩ := h9; cases e; rfl
      · obtain ⟨z, K2, e, h6, hz2, hR2, hk2⟩ := h9
        cases e
        have hC2 : CREL K2 r.2.2 := hC1.lt fun a ha => hk2 a (Or.inl ha)
        have hzz : z = r.2.1 := hz2 h0
        subst hzz
        show Ex l 332 k n 2263 _ [.int (iI r.2.1), .int (iI r.2.1)] _ _
        refine x_same (pc := 2263) (tgt := 3032) d332_2263 (by decide) ?_
        exact hn K2 v _ hC2 hR2 hG
      · obtain ⟨z, K2, e, _⟩ := h9; cases e
    · cases e
  · rcases h9 with ⟨_, K1, e, _⟩ | ⟨g9, K1, e, _⟩
    · cases e
    · exact absurd h0 g9
theorem cs47 {k n : Nat} (hl : l.1.stackTraces = false) (hq : 193 ≤ q) (hC : CREL K S) (hR : RREL K S) (hS : GOK S) {i : Int} (i0 : 0 ≤ i) (i6 : i + 6 ≤ l.2.1) (hlen : (l.2.1 : Int) ≤ 2147483647) {Q : OO → Prop} (hn : ∀ (K2 : Nat → Int → Int) (v2 : Int) (S2 : GS), CREL K2 S2 → RREL K2 S2 → GOK S2 → Ex l 332 k n 3032 (lawL i) [] (mm q K2 v2 false) Q) : Ex l 332 (1 + k) (6 + n) 2268 (lawL i) [] (mm q K v false) Q := by
  unfold lawL at hn ⊢
  have w1 := cm123 (q := q) (v := v) (E := fun _ => 0) hl (by omega) hC hS 
  have w2 : ∀ (K1 : Nat → Int → Int), RREL K1 S → CT l 274 [.ref 181] (mm q K1 v false) 0 0 (RQ q v false K1 (0, impA (gA S), S)) := fun K1 hR1 => rm274 hl (by omega) hR1 hS 
  have h0 : ((0, impA (gA S), S) : Int × Int × GS).1 = 0 := rfl
  have hG : GOK ((0, impA (gA S), S) : Int × Int × GS).2.2 := hS
  generalize ((0, impA (gA S), S) : Int × Int × GS) = r at w1 w2 h0 hG
  refine x_aload_n (pc := 2268) rfl d332_2268 ?_
  refine x_callV (k := k) (n := n) (pc := 2269) c332_311 w1 (ko0 (by omega)) rfl rfl (Nat.le_of_ble_eq_true rfl) (by decide +kernel) (by decide +kernel) d332_2269 (Or.inr fun v9 τ h9 => ?_) (fun v9 τ h9 => ?_) (fun E9 τ h9 _ => ?_)
  · rcases h9 with ⟨_, K1, e, _⟩ | ⟨_, K1, e, _⟩
    · cases e; rfl
    · cases e
  · rcases h9 with ⟨_, K1, e, hC1, hk1⟩ | ⟨_, K1, e, _⟩
    · cases e
      show Ex l 332 k n 2272 _ [.int (iI r.2.1)] _ _
      refine x_aload_n (pc := 2272) rfl d332_2272 ?_
      refine ex_00 (x_callV (pc := 2273) c332_314 (w2 K1 (hR.ge hk1)) (xo181 (by omega)) rfl rfl (Nat.le_of_ble_eq_true rfl) (by decide +kernel) (by decide +kernel) d332_2273 (Or.inr fun v9 τ h9 => ?_) (fun v9 τ h9 => ?_) (fun E9 τ h9 _ => ?_))
      · obtain ⟨z, K2, e, _⟩ := h9; cases e; rfl
      · obtain ⟨z, K2, e, h6, hz2, hR2, hk2⟩ := h9
        cases e
        have hC2 : CREL K2 r.2.2 := hC1.lt fun a ha => hk2 a (Or.inl ha)
        have hzz : z = r.2.1 := hz2 h0
        subst hzz
        show Ex l 332 k n 2276 _ [.int (iI r.2.1), .int (iI r.2.1)] _ _
        refine x_same (pc := 2276) (tgt := 3032) d332_2276 (by decide) ?_
        exact hn K2 v _ hC2 hR2 hG
      · obtain ⟨z, K2, e, _⟩ := h9; cases e
    · cases e
  · rcases h9 with ⟨_, K1, e, _⟩ | ⟨g9, K1, e, _⟩
    · cases e
    · exact absurd h0 g9
theorem cs48 {k n : Nat} (hl : l.1.stackTraces = false) (hq : 193 ≤ q) (hC : CREL K S) (hR : RREL K S) (hS : GOK S) {i : Int} (i0 : 0 ≤ i) (i6 : i + 6 ≤ l.2.1) (hlen : (l.2.1 : Int) ≤ 2147483647) {Q : OO → Prop} (hn : ∀ (K2 : Nat → Int → Int) (v2 : Int) (S2 : GS), CREL K2 S2 → RREL K2 S2 → GOK S2 → Ex l 332 k n 3032 (lawL i) [] (mm q K2 v2 false) Q) : Ex l 332 (1 + k) (6 + n) 2281 (lawL i) [] (mm q K v false) Q := by
  unfold lawL at hn ⊢
  have w1 := cm124 (q := q) (v := v) (E := fun _ => 0) hl (by omega) hC hS 
  have w2 : ∀ (K1 : Nat → Int → Int), RREL K1 S → CT l 275 [.ref 181] (mm q K1 v false) 0 0 (RQ q v false K1 (0, ckiA (gA S), S)) := fun K1 hR1 => rm275 hl (by omega) hR1 hS 
  have h0 : ((0, ckiA (gA S), S) : Int × Int × GS).1 = 0 := rfl
  have hG : GOK ((0, ckiA (gA S), S) : Int × Int × GS).2.2 := hS
  generalize ((0, ckiA (gA S), S) : Int × Int × GS) = r at w1 w2 h0 hG
  refine x_aload_n (pc := 2281) rfl d332_2281 ?_
  refine x_callV (k := k) (n := n) (pc := 2282) c332_315 w1 (ko0 (by omega)) rfl rfl (Nat.le_of_ble_eq_true rfl) (by decide +kernel) (by decide +kernel) d332_2282 (Or.inr fun v9 τ h9 => ?_) (fun v9 τ h9 => ?_) (fun E9 τ h9 _ => ?_)
  · rcases h9 with ⟨_, K1, e, _⟩ | ⟨_, K1, e, _⟩
    · cases e; rfl
    · cases e
  · rcases h9 with ⟨_, K1, e, hC1, hk1⟩ | ⟨_, K1, e, _⟩
    · cases e
      show Ex l 332 k n 2285 _ [.int (iI r.2.1)] _ _
      refine x_aload_n (pc := 2285) rfl d332_2285 ?_
      refine ex_00 (x_callV (pc := 2286) c332_318 (w2 K1 (hR.ge hk1)) (xo181 (by omega)) rfl rfl (Nat.le_of_ble_eq_true rfl) (by decide +kernel) (by decide +kernel) d332_2286 (Or.inr fun v9 τ h9 => ?_) (fun v9 τ h9 => ?_) (fun E9 τ h9 _ => ?_))
      · obtain ⟨z, K2, e, _⟩ := h9; cases e; rfl
      · obtain ⟨z, K2, e, h6, hz2, hR2, hk2⟩ := h9
        cases e
        have hC2 : CREL K2 r.2.2 := hC1.lt fun a ha => hk2 a (Or.inl ha)
        have hzz : z = r.2.1 := hz2 h0
        subst hzz
        show Ex l 332 k n 2289 _ [.int (iI r.2.1), .int (iI r.2.1)] _ _
        refine x_same (pc := 2289) (tgt := 3032) d332_2289 (by decide) ?_
        exact hn K2 v _ hC2 hR2 hG
      · obtain ⟨z, K2, e, _⟩ := h9; cases e
    · cases e
  · rcases h9 with ⟨_, K1, e, _⟩ | ⟨g9, K1, e, _⟩
    · cases e
    · exact absurd h0 g9
theorem cs51 {k n : Nat} (hl : l.1.stackTraces = false) (hq : 193 ≤ q) (hC : CREL K S) (hR : RREL K S) (hS : GOK S) {i : Int} (i0 : 0 ≤ i) (i6 : i + 6 ≤ l.2.1) (hlen : (l.2.1 : Int) ≤ 2147483647) {Q : OO → Prop} (hn : ∀ (K2 : Nat → Int → Int) (v2 : Int) (S2 : GS), CREL K2 S2 → RREL K2 S2 → GOK S2 → Ex l 332 k n 3032 (lawL i) [] (mm q K2 v2 false) Q) : Ex l 332 (1 + k) (6 + n) 2378 (lawL i) [] (mm q K v false) Q := by
  unfold lawL at hn ⊢
  have hcd : (oSend S).1 = 0 ∨ (oSend S).1 = 1 ∨ (oSend S).1 = 2 := by
    unfold oSend
    repeat (first | exact Or.inl rfl | exact Or.inr (Or.inl rfl) | exact Or.inr (Or.inr rfl) | split)
  have hG : GOK (oSend S).2.2 := gok_send hS
  have w1 := wr321 (q := q) (v := v) hl hq hC hS  
  have w2 : ∀ (K1 : Nat → Int → Int) (v1 : Int), RREL K1 S → CT l 280 [.ref 181] (mm q K1 v1 false) 0 0 (RQ q v1 false K1 (oSend S)) := fun K1 v1 hR1 => rm280 hl (by omega) hR1 hS  
  generalize (oSend S) = r at w1 w2 hcd hG
  refine x_aload_n (pc := 2378) rfl d332_2378 ?_
  refine x_aload_n (pc := 2379) rfl d332_2379 ?_
  refine x_callSW (k := k) (n := n) (pc := 2380) c332_329 w1 rfl rfl (Nat.le_of_ble_eq_true rfl) (by decide +kernel) (by decide +kernel) d332_2380 (Or.inr fun v9 τ h9 => ?_) (fun v9 τ h9 => ?_) (fun E9 τ h9 _ => ?_)
  · obtain ⟨K1, v1, e, _⟩ := h9; cases e; rfl
  · obtain ⟨K1, v1, e, hC1, hk1, hv1⟩ := h9
    cases e
    show Ex l 332 k n 2383 _ [.int (iI r.1)] _ _
    refine x_istore (pc := 2383) (by decide +kernel) rfl d332_2383 ?_
    dsimp only [List.set]
    refine x_aload_n (pc := 2385) rfl d332_2385 ?_
    refine ex_00 (x_callV (pc := 2386) c332_331 (w2 K1 v1 (hR.ge hk1)) (xo181 (by omega)) rfl rfl (Nat.le_of_ble_eq_true rfl) (by decide +kernel) (by decide +kernel) d332_2386 (Or.inr fun v9 τ h9 => ?_) (fun v9 τ h9 => ?_) (fun E9 τ h9 _ => ?_))
    · obtain ⟨z, K2, e, _⟩ := h9; cases e; rfl
    · obtain ⟨z, K2, e, h6, hz2, hR2, hk2⟩ := h9
      cases e
      have hC2 : CREL K2 r.2.2 := hC1.lt fun a ha => hk2 a (Or.inl ha)
      show Ex l 332 k n 2389 _ [.int (iI z)] _ _
      refine x_istore (pc := 2389) (by decide +kernel) rfl d332_2389 ?_
      dsimp only [List.set]
      refine x_aload_n (pc := 2391) rfl d332_2391 ?_
      refine x_cVs (pc := 2392) c332_146 (rt_thrown hl hq h6) (xo181 (by omega)) rfl rfl (Nat.le_of_ble_eq_true rfl) (by decide +kernel) (by decide +kernel) rfl d332_2392 ?_
      refine x_iload (pc := 2395) rfl d332_2395 ?_
      refine x_same (pc := 2397) (tgt := 2402) d332_2397 (by decide) ?_
      refine x_iload (pc := 2402) rfl d332_2402 ?_
      refine x_if_ne (pc := 2404) (tgt := 2419) ⟨by omega, by omega⟩ d332_2404 (by decide) (fun g => ?_) (fun g => ?_)
      · refine x_goto (pc := 2419) (tgt := 3032) d332_2419 (by decide) ?_
        refine x_mask [true, true, true, true, true, false, false, false, false] ?_
        dsimp only [mask]
        exact hn K2 _ _ hC2 hR2 hG
      · have hzz : z = r.2.1 := hz2 g
        have hvv := hv1 g
        subst hzz
        refine x_aload_n (pc := 2407) rfl d332_2407 ?_
        refine x_iconst (pc := 2408) d332_2408 ?_
        refine m_lald (pc := 2409) (by omega) (by decide +kernel) d332_2409 ?_
        refine x_iload (pc := 2410) rfl d332_2410 ?_
        refine x_i2lA (pc := 2412) d332_2412 ?_
        rw [hvv]
        refine x_lsame (pc := 2413) (tgt := 2419) (tI_r _) d332_2413 d332_2414 (by decide) ?_
        refine x_goto (pc := 2419) (tgt := 3032) d332_2419 (by decide) ?_
        refine x_mask [true, true, true, true, true, false, false, false, false] ?_
        dsimp only [mask]
        exact hn K2 _ _ hC2 hR2 hG
    · obtain ⟨z, K2, e, _⟩ := h9; cases e
  · obtain ⟨K1, v1, e, _⟩ := h9; cases e
theorem cs52 {k n : Nat} (hl : l.1.stackTraces = false) (hq : 193 ≤ q) (hC : CREL K S) (hR : RREL K S) (hS : GOK S) {i : Int} (i0 : 0 ≤ i) (i6 : i + 6 ≤ l.2.1) (hlen : (l.2.1 : Int) ≤ 2147483647) {Q : OO → Prop} (hn : ∀ (K2 : Nat → Int → Int) (v2 : Int) (S2 : GS), CREL K2 S2 → RREL K2 S2 → GOK S2 → Ex l 332 k n 3032 (lawL i) [] (mm q K2 v2 false) Q) : Ex l 332 (1 + k) (6 + n) 2422 (lawL i) [] (mm q K v false) Q := by
  unfold lawL at hn ⊢
  have hcd : (oTransmit S (scV l (i + 1))).1 = 0 ∨ (oTransmit S (scV l (i + 1))).1 = 1 ∨ (oTransmit S (scV l (i + 1))).1 = 2 := by
    unfold oTransmit
    repeat (first | exact Or.inl rfl | exact Or.inr (Or.inl rfl) | exact Or.inr (Or.inr rfl) | split)
  have hG : GOK (oTransmit S (scV l (i + 1))).2.2 := gok_transmit hS
  have w1 := wr322 (q := q) (v := v) hl hq hC hS (scV_r l (i + 1))
  have w2 : ∀ (K1 : Nat → Int → Int) (v1 : Int), RREL K1 S → CT l 281 [.ref 181, .int (iI (scV l (i + 1)))] (mm q K1 v1 false) 0 0 (RQ q v1 false K1 (oTransmit S (scV l (i + 1)))) := fun K1 v1 hR1 => rm281 hl (by omega) hR1 hS (scV_r l (i + 1))
  generalize (oTransmit S (scV l (i + 1))) = r at w1 w2 hcd hG
  refine x_aload_n (pc := 2422) rfl d332_2422 ?_
  refine x_aload_n (pc := 2423) rfl d332_2423 ?_
  refine x_iload (pc := 2424) rfl d332_2424 ?_
  refine x_iconst (pc := 2426) d332_2426 ?_
  refine x_iadd (pc := 2427) d332_2427 ?_
  refine x_sldR (pc := 2428) (by omega) (by omega) (by omega) d332_2428 ?_
  refine x_aload_n (pc := 2429) rfl d332_2429 ?_
  refine x_callSW (k := k) (n := n) (pc := 2430) c332_332 w1 rfl rfl (Nat.le_of_ble_eq_true rfl) (by decide +kernel) (by decide +kernel) d332_2430 (Or.inr fun v9 τ h9 => ?_) (fun v9 τ h9 => ?_) (fun E9 τ h9 _ => ?_)
  · obtain ⟨K1, v1, e, _⟩ := h9; cases e; rfl
  · obtain ⟨K1, v1, e, hC1, hk1, hv1⟩ := h9
    cases e
    show Ex l 332 k n 2433 _ [.int (iI r.1)] _ _
    refine x_istore (pc := 2433) (by decide +kernel) rfl d332_2433 ?_
    dsimp only [List.set]
    refine x_aload_n (pc := 2435) rfl d332_2435 ?_
    refine x_aload_n (pc := 2436) rfl d332_2436 ?_
    refine x_iload (pc := 2437) rfl d332_2437 ?_
    refine x_iconst (pc := 2439) d332_2439 ?_
    refine x_iadd (pc := 2440) d332_2440 ?_
    refine x_sldR (pc := 2441) (by omega) (by omega) (by omega) d332_2441 ?_
    refine ex_00 (x_callV (pc := 2442) c332_334 (w2 K1 v1 (hR.ge hk1)) (xo181 (by omega)) rfl rfl (Nat.le_of_ble_eq_true rfl) (by decide +kernel) (by decide +kernel) d332_2442 (Or.inr fun v9 τ h9 => ?_) (fun v9 τ h9 => ?_) (fun E9 τ h9 _ => ?_))
    · obtain ⟨z, K2, e, _⟩ := h9; cases e; rfl
    · obtain ⟨z, K2, e, h6, hz2, hR2, hk2⟩ := h9
      cases e
      have hC2 : CREL K2 r.2.2 := hC1.lt fun a ha => hk2 a (Or.inl ha)
      show Ex l 332 k n 2445 _ [.int (iI z)] _ _
      refine x_istore (pc := 2445) (by decide +kernel) rfl d332_2445 ?_
      dsimp only [List.set]
      refine x_aload_n (pc := 2447) rfl d332_2447 ?_
      refine x_cVs (pc := 2448) c332_146 (rt_thrown hl hq h6) (xo181 (by omega)) rfl rfl (Nat.le_of_ble_eq_true rfl) (by decide +kernel) (by decide +kernel) rfl d332_2448 ?_
      refine x_iload (pc := 2451) rfl d332_2451 ?_
      refine x_same (pc := 2453) (tgt := 2458) d332_2453 (by decide) ?_
      refine x_iload (pc := 2458) rfl d332_2458 ?_
      refine x_if_ne (pc := 2460) (tgt := 2475) ⟨by omega, by omega⟩ d332_2460 (by decide) (fun g => ?_) (fun g => ?_)
      · refine x_goto (pc := 2475) (tgt := 3032) d332_2475 (by decide) ?_
        refine x_mask [true, true, true, true, true, false, false, false, false] ?_
        dsimp only [mask]
        exact hn K2 _ _ hC2 hR2 hG
      · have hzz : z = r.2.1 := hz2 g
        have hvv := hv1 g
        subst hzz
        refine x_aload_n (pc := 2463) rfl d332_2463 ?_
        refine x_iconst (pc := 2464) d332_2464 ?_
        refine m_lald (pc := 2465) (by omega) (by decide +kernel) d332_2465 ?_
        refine x_iload (pc := 2466) rfl d332_2466 ?_
        refine x_i2lA (pc := 2468) d332_2468 ?_
        rw [hvv]
        refine x_lsame (pc := 2469) (tgt := 2475) (tI_r _) d332_2469 d332_2470 (by decide) ?_
        refine x_goto (pc := 2475) (tgt := 3032) d332_2475 (by decide) ?_
        refine x_mask [true, true, true, true, true, false, false, false, false] ?_
        dsimp only [mask]
        exact hn K2 _ _ hC2 hR2 hG
    · obtain ⟨z, K2, e, _⟩ := h9; cases e
  · obtain ⟨K1, v1, e, _⟩ := h9; cases e
theorem cs53 {k n : Nat} (hl : l.1.stackTraces = false) (hq : 193 ≤ q) (hC : CREL K S) (hR : RREL K S) (hS : GOK S) {i : Int} (i0 : 0 ≤ i) (i6 : i + 6 ≤ l.2.1) (hlen : (l.2.1 : Int) ≤ 2147483647) {Q : OO → Prop} (hn : ∀ (K2 : Nat → Int → Int) (v2 : Int) (S2 : GS), CREL K2 S2 → RREL K2 S2 → GOK S2 → Ex l 332 k n 3032 (lawL i) [] (mm q K2 v2 false) Q) : Ex l 332 (1 + k) (6 + n) 2478 (lawL i) [] (mm q K v false) Q := by
  unfold lawL at hn ⊢
  have hcd : (oCancel S (scV l (i + 1))).1 = 0 ∨ (oCancel S (scV l (i + 1))).1 = 1 ∨ (oCancel S (scV l (i + 1))).1 = 2 := by
    unfold oCancel
    repeat (first | exact Or.inl rfl | exact Or.inr (Or.inl rfl) | exact Or.inr (Or.inr rfl) | split)
  have hG : GOK (oCancel S (scV l (i + 1))).2.2 := gok_cancel hS
  have w1 := wr323 (q := q) (v := v) hl hq hC hS (scV_r l (i + 1))
  have w2 : ∀ (K1 : Nat → Int → Int) (v1 : Int), RREL K1 S → CT l 282 [.ref 181, .int (iI (scV l (i + 1)))] (mm q K1 v1 false) 0 0 (RQ q v1 false K1 (oCancel S (scV l (i + 1)))) := fun K1 v1 hR1 => rm282 hl (by omega) hR1 hS (scV_r l (i + 1))
  generalize (oCancel S (scV l (i + 1))) = r at w1 w2 hcd hG
  refine x_aload_n (pc := 2478) rfl d332_2478 ?_
  refine x_aload_n (pc := 2479) rfl d332_2479 ?_
  refine x_iload (pc := 2480) rfl d332_2480 ?_
  refine x_iconst (pc := 2482) d332_2482 ?_
  refine x_iadd (pc := 2483) d332_2483 ?_
  refine x_sldR (pc := 2484) (by omega) (by omega) (by omega) d332_2484 ?_
  refine x_aload_n (pc := 2485) rfl d332_2485 ?_
  refine x_callSW (k := k) (n := n) (pc := 2486) c332_335 w1 rfl rfl (Nat.le_of_ble_eq_true rfl) (by decide +kernel) (by decide +kernel) d332_2486 (Or.inr fun v9 τ h9 => ?_) (fun v9 τ h9 => ?_) (fun E9 τ h9 _ => ?_)
  · obtain ⟨K1, v1, e, _⟩ := h9; cases e; rfl
  · obtain ⟨K1, v1, e, hC1, hk1, hv1⟩ := h9
    cases e
    show Ex l 332 k n 2489 _ [.int (iI r.1)] _ _
    refine x_istore (pc := 2489) (by decide +kernel) rfl d332_2489 ?_
    dsimp only [List.set]
    refine x_aload_n (pc := 2491) rfl d332_2491 ?_
    refine x_aload_n (pc := 2492) rfl d332_2492 ?_
    refine x_iload (pc := 2493) rfl d332_2493 ?_
    refine x_iconst (pc := 2495) d332_2495 ?_
    refine x_iadd (pc := 2496) d332_2496 ?_
    refine x_sldR (pc := 2497) (by omega) (by omega) (by omega) d332_2497 ?_
    refine ex_00 (x_callV (pc := 2498) c332_337 (w2 K1 v1 (hR.ge hk1)) (xo181 (by omega)) rfl rfl (Nat.le_of_ble_eq_true rfl) (by decide +kernel) (by decide +kernel) d332_2498 (Or.inr fun v9 τ h9 => ?_) (fun v9 τ h9 => ?_) (fun E9 τ h9 _ => ?_))
    · obtain ⟨z, K2, e, _⟩ := h9; cases e; rfl
    · obtain ⟨z, K2, e, h6, hz2, hR2, hk2⟩ := h9
      cases e
      have hC2 : CREL K2 r.2.2 := hC1.lt fun a ha => hk2 a (Or.inl ha)
      show Ex l 332 k n 2501 _ [.int (iI z)] _ _
      refine x_istore (pc := 2501) (by decide +kernel) rfl d332_2501 ?_
      dsimp only [List.set]
      refine x_aload_n (pc := 2503) rfl d332_2503 ?_
      refine x_cVs (pc := 2504) c332_146 (rt_thrown hl hq h6) (xo181 (by omega)) rfl rfl (Nat.le_of_ble_eq_true rfl) (by decide +kernel) (by decide +kernel) rfl d332_2504 ?_
      refine x_iload (pc := 2507) rfl d332_2507 ?_
      refine x_same (pc := 2509) (tgt := 2514) d332_2509 (by decide) ?_
      refine x_iload (pc := 2514) rfl d332_2514 ?_
      refine x_if_ne (pc := 2516) (tgt := 2531) ⟨by omega, by omega⟩ d332_2516 (by decide) (fun g => ?_) (fun g => ?_)
      · refine x_goto (pc := 2531) (tgt := 3032) d332_2531 (by decide) ?_
        refine x_mask [true, true, true, true, true, false, false, false, false] ?_
        dsimp only [mask]
        exact hn K2 _ _ hC2 hR2 hG
      · have hzz : z = r.2.1 := hz2 g
        have hvv := hv1 g
        subst hzz
        refine x_aload_n (pc := 2519) rfl d332_2519 ?_
        refine x_iconst (pc := 2520) d332_2520 ?_
        refine m_lald (pc := 2521) (by omega) (by decide +kernel) d332_2521 ?_
        refine x_iload (pc := 2522) rfl d332_2522 ?_
        refine x_i2lA (pc := 2524) d332_2524 ?_
        rw [hvv]
        refine x_lsame (pc := 2525) (tgt := 2531) (tI_r _) d332_2525 d332_2526 (by decide) ?_
        refine x_goto (pc := 2531) (tgt := 3032) d332_2531 (by decide) ?_
        refine x_mask [true, true, true, true, true, false, false, false, false] ?_
        dsimp only [mask]
        exact hn K2 _ _ hC2 hR2 hG
    · obtain ⟨z, K2, e, _⟩ := h9; cases e
  · obtain ⟨K1, v1, e, _⟩ := h9; cases e
theorem cs54 {k n : Nat} (hl : l.1.stackTraces = false) (hq : 193 ≤ q) (hC : CREL K S) (hR : RREL K S) (hS : GOK S) {i : Int} (i0 : 0 ≤ i) (i6 : i + 6 ≤ l.2.1) (hlen : (l.2.1 : Int) ≤ 2147483647) {Q : OO → Prop} (hn : ∀ (K2 : Nat → Int → Int) (v2 : Int) (S2 : GS), CREL K2 S2 → RREL K2 S2 → GOK S2 → Ex l 332 k n 3032 (lawL i) [] (mm q K2 v2 false) Q) : Ex l 332 (1 + k) (6 + n) 2534 (lawL i) [] (mm q K v false) Q := by
  unfold lawL at hn ⊢
  have hcd : (oResend S (scV l (i + 1))).1 = 0 ∨ (oResend S (scV l (i + 1))).1 = 1 ∨ (oResend S (scV l (i + 1))).1 = 2 := by
    unfold oResend
    repeat (first | exact Or.inl rfl | exact Or.inr (Or.inl rfl) | exact Or.inr (Or.inr rfl) | split)
  have hG : GOK (oResend S (scV l (i + 1))).2.2 := gok_resend hS
  have w1 := wr324 (q := q) (v := v) hl hq hC hS (scV_r l (i + 1))
  have w2 : ∀ (K1 : Nat → Int → Int) (v1 : Int), RREL K1 S → CT l 283 [.ref 181, .int (iI (scV l (i + 1)))] (mm q K1 v1 false) 0 0 (RQ q v1 false K1 (oResend S (scV l (i + 1)))) := fun K1 v1 hR1 => rm283 hl (by omega) hR1 hS (scV_r l (i + 1))
  generalize (oResend S (scV l (i + 1))) = r at w1 w2 hcd hG
  refine x_aload_n (pc := 2534) rfl d332_2534 ?_
  refine x_aload_n (pc := 2535) rfl d332_2535 ?_
  refine x_iload (pc := 2536) rfl d332_2536 ?_
  refine x_iconst (pc := 2538) d332_2538 ?_
  refine x_iadd (pc := 2539) d332_2539 ?_
  refine x_sldR (pc := 2540) (by omega) (by omega) (by omega) d332_2540 ?_
  refine x_aload_n (pc := 2541) rfl d332_2541 ?_
  refine x_callSW (k := k) (n := n) (pc := 2542) c332_338 w1 rfl rfl (Nat.le_of_ble_eq_true rfl) (by decide +kernel) (by decide +kernel) d332_2542 (Or.inr fun v9 τ h9 => ?_) (fun v9 τ h9 => ?_) (fun E9 τ h9 _ => ?_)
  · obtain ⟨K1, v1, e, _⟩ := h9; cases e; rfl
  · obtain ⟨K1, v1, e, hC1, hk1, hv1⟩ := h9
    cases e
    show Ex l 332 k n 2545 _ [.int (iI r.1)] _ _
    refine x_istore (pc := 2545) (by decide +kernel) rfl d332_2545 ?_
    dsimp only [List.set]
    refine x_aload_n (pc := 2547) rfl d332_2547 ?_
    refine x_aload_n (pc := 2548) rfl d332_2548 ?_
    refine x_iload (pc := 2549) rfl d332_2549 ?_
    refine x_iconst (pc := 2551) d332_2551 ?_
    refine x_iadd (pc := 2552) d332_2552 ?_
    refine x_sldR (pc := 2553) (by omega) (by omega) (by omega) d332_2553 ?_
    refine ex_00 (x_callV (pc := 2554) c332_340 (w2 K1 v1 (hR.ge hk1)) (xo181 (by omega)) rfl rfl (Nat.le_of_ble_eq_true rfl) (by decide +kernel) (by decide +kernel) d332_2554 (Or.inr fun v9 τ h9 => ?_) (fun v9 τ h9 => ?_) (fun E9 τ h9 _ => ?_))
    · obtain ⟨z, K2, e, _⟩ := h9; cases e; rfl
    · obtain ⟨z, K2, e, h6, hz2, hR2, hk2⟩ := h9
      cases e
      have hC2 : CREL K2 r.2.2 := hC1.lt fun a ha => hk2 a (Or.inl ha)
      show Ex l 332 k n 2557 _ [.int (iI z)] _ _
      refine x_istore (pc := 2557) (by decide +kernel) rfl d332_2557 ?_
      dsimp only [List.set]
      refine x_aload_n (pc := 2559) rfl d332_2559 ?_
      refine x_cVs (pc := 2560) c332_146 (rt_thrown hl hq h6) (xo181 (by omega)) rfl rfl (Nat.le_of_ble_eq_true rfl) (by decide +kernel) (by decide +kernel) rfl d332_2560 ?_
      refine x_iload (pc := 2563) rfl d332_2563 ?_
      refine x_same (pc := 2565) (tgt := 2570) d332_2565 (by decide) ?_
      refine x_iload (pc := 2570) rfl d332_2570 ?_
      refine x_if_ne (pc := 2572) (tgt := 2587) ⟨by omega, by omega⟩ d332_2572 (by decide) (fun g => ?_) (fun g => ?_)
      · refine x_goto (pc := 2587) (tgt := 3032) d332_2587 (by decide) ?_
        refine x_mask [true, true, true, true, true, false, false, false, false] ?_
        dsimp only [mask]
        exact hn K2 _ _ hC2 hR2 hG
      · have hzz : z = r.2.1 := hz2 g
        have hvv := hv1 g
        subst hzz
        refine x_aload_n (pc := 2575) rfl d332_2575 ?_
        refine x_iconst (pc := 2576) d332_2576 ?_
        refine m_lald (pc := 2577) (by omega) (by decide +kernel) d332_2577 ?_
        refine x_iload (pc := 2578) rfl d332_2578 ?_
        refine x_i2lA (pc := 2580) d332_2580 ?_
        rw [hvv]
        refine x_lsame (pc := 2581) (tgt := 2587) (tI_r _) d332_2581 d332_2582 (by decide) ?_
        refine x_goto (pc := 2587) (tgt := 3032) d332_2587 (by decide) ?_
        refine x_mask [true, true, true, true, true, false, false, false, false] ?_
        dsimp only [mask]
        exact hn K2 _ _ hC2 hR2 hG
    · obtain ⟨z, K2, e, _⟩ := h9; cases e
  · obtain ⟨K1, v1, e, _⟩ := h9; cases e
theorem cs55 {k n : Nat} (hl : l.1.stackTraces = false) (hq : 193 ≤ q) (hC : CREL K S) (hR : RREL K S) (hS : GOK S) {i : Int} (i0 : 0 ≤ i) (i6 : i + 6 ≤ l.2.1) (hlen : (l.2.1 : Int) ≤ 2147483647) {Q : OO → Prop} (hn : ∀ (K2 : Nat → Int → Int) (v2 : Int) (S2 : GS), CREL K2 S2 → RREL K2 S2 → GOK S2 → Ex l 332 k n 3032 (lawL i) [] (mm q K2 v2 false) Q) : Ex l 332 (1 + k) (6 + n) 2590 (lawL i) [] (mm q K v false) Q := by
  unfold lawL at hn ⊢
  have hcd : (oWait S (scV l (i + 1))).1 = 0 ∨ (oWait S (scV l (i + 1))).1 = 1 ∨ (oWait S (scV l (i + 1))).1 = 2 := by
    unfold oWait
    repeat (first | exact Or.inl rfl | exact Or.inr (Or.inl rfl) | exact Or.inr (Or.inr rfl) | split)
  have hG : GOK (oWait S (scV l (i + 1))).2.2 := gok_wait hS
  have w1 := wr325 (q := q) (v := v) hl hq hC hS (scV_r l (i + 1))
  have w2 : ∀ (K1 : Nat → Int → Int) (v1 : Int), RREL K1 S → CT l 284 [.ref 181, .int (iI (scV l (i + 1)))] (mm q K1 v1 false) 0 0 (RQ q v1 false K1 (oWait S (scV l (i + 1)))) := fun K1 v1 hR1 => rm284 hl (by omega) hR1 hS (scV_r l (i + 1))
  generalize (oWait S (scV l (i + 1))) = r at w1 w2 hcd hG
  refine x_aload_n (pc := 2590) rfl d332_2590 ?_
  refine x_aload_n (pc := 2591) rfl d332_2591 ?_
  refine x_iload (pc := 2592) rfl d332_2592 ?_
  refine x_iconst (pc := 2594) d332_2594 ?_
  refine x_iadd (pc := 2595) d332_2595 ?_
  refine x_sldR (pc := 2596) (by omega) (by omega) (by omega) d332_2596 ?_
  refine x_aload_n (pc := 2597) rfl d332_2597 ?_
  refine x_callSW (k := k) (n := n) (pc := 2598) c332_341 w1 rfl rfl (Nat.le_of_ble_eq_true rfl) (by decide +kernel) (by decide +kernel) d332_2598 (Or.inr fun v9 τ h9 => ?_) (fun v9 τ h9 => ?_) (fun E9 τ h9 _ => ?_)
  · obtain ⟨K1, v1, e, _⟩ := h9; cases e; rfl
  · obtain ⟨K1, v1, e, hC1, hk1, hv1⟩ := h9
    cases e
    show Ex l 332 k n 2601 _ [.int (iI r.1)] _ _
    refine x_istore (pc := 2601) (by decide +kernel) rfl d332_2601 ?_
    dsimp only [List.set]
    refine x_aload_n (pc := 2603) rfl d332_2603 ?_
    refine x_aload_n (pc := 2604) rfl d332_2604 ?_
    refine x_iload (pc := 2605) rfl d332_2605 ?_
    refine x_iconst (pc := 2607) d332_2607 ?_
    refine x_iadd (pc := 2608) d332_2608 ?_
    refine x_sldR (pc := 2609) (by omega) (by omega) (by omega) d332_2609 ?_
    refine ex_00 (x_callV (pc := 2610) c332_343 (w2 K1 v1 (hR.ge hk1)) (xo181 (by omega)) rfl rfl (Nat.le_of_ble_eq_true rfl) (by decide +kernel) (by decide +kernel) d332_2610 (Or.inr fun v9 τ h9 => ?_) (fun v9 τ h9 => ?_) (fun E9 τ h9 _ => ?_))
    · obtain ⟨z, K2, e, _⟩ := h9; cases e; rfl
    · obtain ⟨z, K2, e, h6, hz2, hR2, hk2⟩ := h9
      cases e
      have hC2 : CREL K2 r.2.2 := hC1.lt fun a ha => hk2 a (Or.inl ha)
      show Ex l 332 k n 2613 _ [.int (iI z)] _ _
      refine x_istore (pc := 2613) (by decide +kernel) rfl d332_2613 ?_
      dsimp only [List.set]
      refine x_aload_n (pc := 2615) rfl d332_2615 ?_
      refine x_cVs (pc := 2616) c332_146 (rt_thrown hl hq h6) (xo181 (by omega)) rfl rfl (Nat.le_of_ble_eq_true rfl) (by decide +kernel) (by decide +kernel) rfl d332_2616 ?_
      refine x_iload (pc := 2619) rfl d332_2619 ?_
      refine x_same (pc := 2621) (tgt := 2626) d332_2621 (by decide) ?_
      refine x_iload (pc := 2626) rfl d332_2626 ?_
      refine x_if_ne (pc := 2628) (tgt := 2643) ⟨by omega, by omega⟩ d332_2628 (by decide) (fun g => ?_) (fun g => ?_)
      · refine x_goto (pc := 2643) (tgt := 3032) d332_2643 (by decide) ?_
        refine x_mask [true, true, true, true, true, false, false, false, false] ?_
        dsimp only [mask]
        exact hn K2 _ _ hC2 hR2 hG
      · have hzz : z = r.2.1 := hz2 g
        have hvv := hv1 g
        subst hzz
        refine x_aload_n (pc := 2631) rfl d332_2631 ?_
        refine x_iconst (pc := 2632) d332_2632 ?_
        refine m_lald (pc := 2633) (by omega) (by decide +kernel) d332_2633 ?_
        refine x_iload (pc := 2634) rfl d332_2634 ?_
        refine x_i2lA (pc := 2636) d332_2636 ?_
        rw [hvv]
        refine x_lsame (pc := 2637) (tgt := 2643) (tI_r _) d332_2637 d332_2638 (by decide) ?_
        refine x_goto (pc := 2643) (tgt := 3032) d332_2643 (by decide) ?_
        refine x_mask [true, true, true, true, true, false, false, false, false] ?_
        dsimp only [mask]
        exact hn K2 _ _ hC2 hR2 hG
    · obtain ⟨z, K2, e, _⟩ := h9; cases e
  · obtain ⟨K1, v1, e, _⟩ := h9; cases e
theorem cs56 {k n : Nat} (hl : l.1.stackTraces = false) (hq : 193 ≤ q) (hC : CREL K S) (hR : RREL K S) (hS : GOK S) {i : Int} (i0 : 0 ≤ i) (i6 : i + 6 ≤ l.2.1) (hlen : (l.2.1 : Int) ≤ 2147483647) {Q : OO → Prop} (hn : ∀ (K2 : Nat → Int → Int) (v2 : Int) (S2 : GS), CREL K2 S2 → RREL K2 S2 → GOK S2 → Ex l 332 k n 3032 (lawL i) [] (mm q K2 v2 false) Q) : Ex l 332 (1 + k) (6 + n) 2646 (lawL i) [] (mm q K v false) Q := by
  unfold lawL at hn ⊢
  have hcd : (oDrift S (scV l (i + 1))).1 = 0 ∨ (oDrift S (scV l (i + 1))).1 = 1 := by
    unfold oDrift
    repeat (first | exact Or.inl rfl | exact Or.inr rfl | split)
  have hG : GOK (oDrift S (scV l (i + 1))).2.2 := gok_drift hS
  have w1 := wr326 (q := q) (v := v) hl hq hC hS (scV_r l (i + 1))
  have w2 : ∀ (K1 : Nat → Int → Int) (v1 : Int), RREL K1 S → CT l 285 [.ref 181, .int (iI (scV l (i + 1)))] (mm q K1 v1 false) 0 0 (RQ q v1 false K1 (oDrift S (scV l (i + 1)))) := fun K1 v1 hR1 => rm285 hl (by omega) hR1 hS (scV_r l (i + 1))
  generalize (oDrift S (scV l (i + 1))) = r at w1 w2 hcd hG
  refine x_aload_n (pc := 2646) rfl d332_2646 ?_
  refine x_aload_n (pc := 2647) rfl d332_2647 ?_
  refine x_iload (pc := 2648) rfl d332_2648 ?_
  refine x_iconst (pc := 2650) d332_2650 ?_
  refine x_iadd (pc := 2651) d332_2651 ?_
  refine x_sldR (pc := 2652) (by omega) (by omega) (by omega) d332_2652 ?_
  refine x_aload_n (pc := 2653) rfl d332_2653 ?_
  refine x_callSW (k := k) (n := n) (pc := 2654) c332_344 w1 rfl rfl (Nat.le_of_ble_eq_true rfl) (by decide +kernel) (by decide +kernel) d332_2654 (Or.inr fun v9 τ h9 => ?_) (fun v9 τ h9 => ?_) (fun E9 τ h9 _ => ?_)
  · obtain ⟨K1, v1, e, _⟩ := h9; cases e; rfl
  · obtain ⟨K1, v1, e, hC1, hk1, hv1⟩ := h9
    cases e
    show Ex l 332 k n 2657 _ [.int (iI r.1)] _ _
    refine x_istore (pc := 2657) (by decide +kernel) rfl d332_2657 ?_
    dsimp only [List.set]
    refine x_aload_n (pc := 2659) rfl d332_2659 ?_
    refine x_aload_n (pc := 2660) rfl d332_2660 ?_
    refine x_iload (pc := 2661) rfl d332_2661 ?_
    refine x_iconst (pc := 2663) d332_2663 ?_
    refine x_iadd (pc := 2664) d332_2664 ?_
    refine x_sldR (pc := 2665) (by omega) (by omega) (by omega) d332_2665 ?_
    refine ex_00 (x_callV (pc := 2666) c332_346 (w2 K1 v1 (hR.ge hk1)) (xo181 (by omega)) rfl rfl (Nat.le_of_ble_eq_true rfl) (by decide +kernel) (by decide +kernel) d332_2666 (Or.inr fun v9 τ h9 => ?_) (fun v9 τ h9 => ?_) (fun E9 τ h9 _ => ?_))
    · obtain ⟨z, K2, e, _⟩ := h9; cases e; rfl
    · obtain ⟨z, K2, e, h6, hz2, hR2, hk2⟩ := h9
      cases e
      have hC2 : CREL K2 r.2.2 := hC1.lt fun a ha => hk2 a (Or.inl ha)
      show Ex l 332 k n 2669 _ [.int (iI z)] _ _
      refine x_istore (pc := 2669) (by decide +kernel) rfl d332_2669 ?_
      dsimp only [List.set]
      refine x_aload_n (pc := 2671) rfl d332_2671 ?_
      refine x_cVs (pc := 2672) c332_146 (rt_thrown hl hq h6) (xo181 (by omega)) rfl rfl (Nat.le_of_ble_eq_true rfl) (by decide +kernel) (by decide +kernel) rfl d332_2672 ?_
      refine x_iload (pc := 2675) rfl d332_2675 ?_
      refine x_same (pc := 2677) (tgt := 2682) d332_2677 (by decide) ?_
      refine x_iload (pc := 2682) rfl d332_2682 ?_
      refine x_if_ne (pc := 2684) (tgt := 2699) ⟨by omega, by omega⟩ d332_2684 (by decide) (fun g => ?_) (fun g => ?_)
      · refine x_goto (pc := 2699) (tgt := 3032) d332_2699 (by decide) ?_
        refine x_mask [true, true, true, true, true, false, false, false, false] ?_
        dsimp only [mask]
        exact hn K2 _ _ hC2 hR2 hG
      · have hzz : z = r.2.1 := hz2 g
        have hvv := hv1 g
        subst hzz
        refine x_aload_n (pc := 2687) rfl d332_2687 ?_
        refine x_iconst (pc := 2688) d332_2688 ?_
        refine m_lald (pc := 2689) (by omega) (by decide +kernel) d332_2689 ?_
        refine x_iload (pc := 2690) rfl d332_2690 ?_
        refine x_i2lA (pc := 2692) d332_2692 ?_
        rw [hvv]
        refine x_lsame (pc := 2693) (tgt := 2699) (tI_r _) d332_2693 d332_2694 (by decide) ?_
        refine x_goto (pc := 2699) (tgt := 3032) d332_2699 (by decide) ?_
        refine x_mask [true, true, true, true, true, false, false, false, false] ?_
        dsimp only [mask]
        exact hn K2 _ _ hC2 hR2 hG
    · obtain ⟨z, K2, e, _⟩ := h9; cases e
  · obtain ⟨K1, v1, e, _⟩ := h9; cases e
theorem cs57 {k n : Nat} (hl : l.1.stackTraces = false) (hq : 193 ≤ q) (hC : CREL K S) (hR : RREL K S) (hS : GOK S) {i : Int} (i0 : 0 ≤ i) (i6 : i + 6 ≤ l.2.1) (hlen : (l.2.1 : Int) ≤ 2147483647) {Q : OO → Prop} (hn : ∀ (K2 : Nat → Int → Int) (v2 : Int) (S2 : GS), CREL K2 S2 → RREL K2 S2 → GOK S2 → Ex l 332 k n 3032 (lawL i) [] (mm q K2 v2 false) Q) : Ex l 332 (1 + k) (6 + n) 2702 (lawL i) [] (mm q K v false) Q := by
  unfold lawL at hn ⊢
  have hcd : (oDog S (scV l (i + 1)) (scV l (i + 2)) (scV l (i + 3))).1 = 0 ∨ (oDog S (scV l (i + 1)) (scV l (i + 2)) (scV l (i + 3))).1 = 1 ∨ (oDog S (scV l (i + 1)) (scV l (i + 2)) (scV l (i + 3))).1 = 2 := by
    unfold oDog
    repeat (first | exact Or.inl rfl | exact Or.inr (Or.inl rfl) | exact Or.inr (Or.inr rfl) | split)
  have hG : GOK (oDog S (scV l (i + 1)) (scV l (i + 2)) (scV l (i + 3))).2.2 := gok_dog hS
  have w1 := wr327 (q := q) (v := v) hl hq hC hS (scV_r l (i + 1)) (scV_r l (i + 2)) (scV_r l (i + 3))
  have w2 : ∀ (K1 : Nat → Int → Int) (v1 : Int), RREL K1 S → CT l 286 [.ref 181, .int (iI (scV l (i + 1))), .int (iI (scV l (i + 2))), .int (iI (scV l (i + 3)))] (mm q K1 v1 false) 0 0 (RQ q v1 false K1 (oDog S (scV l (i + 1)) (scV l (i + 2)) (scV l (i + 3)))) := fun K1 v1 hR1 => rm286 hl (by omega) hR1 hS (scV_r l (i + 1)) (scV_r l (i + 2)) (scV_r l (i + 3))
  generalize (oDog S (scV l (i + 1)) (scV l (i + 2)) (scV l (i + 3))) = r at w1 w2 hcd hG
  refine x_aload_n (pc := 2702) rfl d332_2702 ?_
  refine x_aload_n (pc := 2703) rfl d332_2703 ?_
  refine x_iload (pc := 2704) rfl d332_2704 ?_
  refine x_iconst (pc := 2706) d332_2706 ?_
  refine x_iadd (pc := 2707) d332_2707 ?_
  refine x_sldR (pc := 2708) (by omega) (by omega) (by omega) d332_2708 ?_
  refine x_aload_n (pc := 2709) rfl d332_2709 ?_
  refine x_iload (pc := 2710) rfl d332_2710 ?_
  refine x_iconst (pc := 2712) d332_2712 ?_
  refine x_iadd (pc := 2713) d332_2713 ?_
  refine x_sldR (pc := 2714) (by omega) (by omega) (by omega) d332_2714 ?_
  refine x_aload_n (pc := 2715) rfl d332_2715 ?_
  refine x_iload (pc := 2716) rfl d332_2716 ?_
  refine x_iconst (pc := 2718) d332_2718 ?_
  refine x_iadd (pc := 2719) d332_2719 ?_
  refine x_sldR (pc := 2720) (by omega) (by omega) (by omega) d332_2720 ?_
  refine x_aload_n (pc := 2721) rfl d332_2721 ?_
  refine x_callSW (k := k) (n := n) (pc := 2722) c332_347 w1 rfl rfl (Nat.le_of_ble_eq_true rfl) (by decide +kernel) (by decide +kernel) d332_2722 (Or.inr fun v9 τ h9 => ?_) (fun v9 τ h9 => ?_) (fun E9 τ h9 _ => ?_)
  · obtain ⟨K1, v1, e, _⟩ := h9; cases e; rfl
  · obtain ⟨K1, v1, e, hC1, hk1, hv1⟩ := h9
    cases e
    show Ex l 332 k n 2725 _ [.int (iI r.1)] _ _
    refine x_istore (pc := 2725) (by decide +kernel) rfl d332_2725 ?_
    dsimp only [List.set]
    refine x_aload_n (pc := 2727) rfl d332_2727 ?_
    refine x_aload_n (pc := 2728) rfl d332_2728 ?_
    refine x_iload (pc := 2729) rfl d332_2729 ?_
    refine x_iconst (pc := 2731) d332_2731 ?_
    refine x_iadd (pc := 2732) d332_2732 ?_
    refine x_sldR (pc := 2733) (by omega) (by omega) (by omega) d332_2733 ?_
    refine x_aload_n (pc := 2734) rfl d332_2734 ?_
    refine x_iload (pc := 2735) rfl d332_2735 ?_
    refine x_iconst (pc := 2737) d332_2737 ?_
    refine x_iadd (pc := 2738) d332_2738 ?_
    refine x_sldR (pc := 2739) (by omega) (by omega) (by omega) d332_2739 ?_
    refine x_aload_n (pc := 2740) rfl d332_2740 ?_
    refine x_iload (pc := 2741) rfl d332_2741 ?_
    refine x_iconst (pc := 2743) d332_2743 ?_
    refine x_iadd (pc := 2744) d332_2744 ?_
    refine x_sldR (pc := 2745) (by omega) (by omega) (by omega) d332_2745 ?_
    refine ex_00 (x_callV (pc := 2746) c332_349 (w2 K1 v1 (hR.ge hk1)) (xo181 (by omega)) rfl rfl (Nat.le_of_ble_eq_true rfl) (by decide +kernel) (by decide +kernel) d332_2746 (Or.inr fun v9 τ h9 => ?_) (fun v9 τ h9 => ?_) (fun E9 τ h9 _ => ?_))
    · obtain ⟨z, K2, e, _⟩ := h9; cases e; rfl
    · obtain ⟨z, K2, e, h6, hz2, hR2, hk2⟩ := h9
      cases e
      have hC2 : CREL K2 r.2.2 := hC1.lt fun a ha => hk2 a (Or.inl ha)
      show Ex l 332 k n 2749 _ [.int (iI z)] _ _
      refine x_istore (pc := 2749) (by decide +kernel) rfl d332_2749 ?_
      dsimp only [List.set]
      refine x_aload_n (pc := 2751) rfl d332_2751 ?_
      refine x_cVs (pc := 2752) c332_146 (rt_thrown hl hq h6) (xo181 (by omega)) rfl rfl (Nat.le_of_ble_eq_true rfl) (by decide +kernel) (by decide +kernel) rfl d332_2752 ?_
      refine x_iload (pc := 2755) rfl d332_2755 ?_
      refine x_same (pc := 2757) (tgt := 2762) d332_2757 (by decide) ?_
      refine x_iload (pc := 2762) rfl d332_2762 ?_
      refine x_if_ne (pc := 2764) (tgt := 2779) ⟨by omega, by omega⟩ d332_2764 (by decide) (fun g => ?_) (fun g => ?_)
      · refine x_goto (pc := 2779) (tgt := 3032) d332_2779 (by decide) ?_
        refine x_mask [true, true, true, true, true, false, false, false, false] ?_
        dsimp only [mask]
        exact hn K2 _ _ hC2 hR2 hG
      · have hzz : z = r.2.1 := hz2 g
        have hvv := hv1 g
        subst hzz
        refine x_aload_n (pc := 2767) rfl d332_2767 ?_
        refine x_iconst (pc := 2768) d332_2768 ?_
        refine m_lald (pc := 2769) (by omega) (by decide +kernel) d332_2769 ?_
        refine x_iload (pc := 2770) rfl d332_2770 ?_
        refine x_i2lA (pc := 2772) d332_2772 ?_
        rw [hvv]
        refine x_lsame (pc := 2773) (tgt := 2779) (tI_r _) d332_2773 d332_2774 (by decide) ?_
        refine x_goto (pc := 2779) (tgt := 3032) d332_2779 (by decide) ?_
        refine x_mask [true, true, true, true, true, false, false, false, false] ?_
        dsimp only [mask]
        exact hn K2 _ _ hC2 hR2 hG
    · obtain ⟨z, K2, e, _⟩ := h9; cases e
  · obtain ⟨K1, v1, e, _⟩ := h9; cases e
theorem cs58 {k n : Nat} (hl : l.1.stackTraces = false) (hq : 193 ≤ q) (hC : CREL K S) (hR : RREL K S) (hS : GOK S) {i : Int} (i0 : 0 ≤ i) (i6 : i + 6 ≤ l.2.1) (hlen : (l.2.1 : Int) ≤ 2147483647) {Q : OO → Prop} (hn : ∀ (K2 : Nat → Int → Int) (v2 : Int) (S2 : GS), CREL K2 S2 → RREL K2 S2 → GOK S2 → Ex l 332 k n 3032 (lawL i) [] (mm q K2 v2 false) Q) : Ex l 332 (1 + k) (6 + n) 2782 (lawL i) [] (mm q K v false) Q := by
  unfold lawL at hn ⊢
  have hcd : (oRemove S (scV l (i + 1))).1 = 0 ∨ (oRemove S (scV l (i + 1))).1 = 1 := by
    unfold oRemove
    repeat (first | exact Or.inl rfl | exact Or.inr rfl | split)
  have hG : GOK (oRemove S (scV l (i + 1))).2.2 := gok_remove hS
  have w1 := wr328 (q := q) (v := v) hl hq hC hS (scV_r l (i + 1))
  have w2 : ∀ (K1 : Nat → Int → Int) (v1 : Int), RREL K1 S → CT l 287 [.ref 181, .int (iI (scV l (i + 1)))] (mm q K1 v1 false) 0 0 (RQ q v1 false K1 (oRemove S (scV l (i + 1)))) := fun K1 v1 hR1 => rm287 hl (by omega) hR1 hS (scV_r l (i + 1))
  generalize (oRemove S (scV l (i + 1))) = r at w1 w2 hcd hG
  refine x_aload_n (pc := 2782) rfl d332_2782 ?_
  refine x_aload_n (pc := 2783) rfl d332_2783 ?_
  refine x_iload (pc := 2784) rfl d332_2784 ?_
  refine x_iconst (pc := 2786) d332_2786 ?_
  refine x_iadd (pc := 2787) d332_2787 ?_
  refine x_sldR (pc := 2788) (by omega) (by omega) (by omega) d332_2788 ?_
  refine x_aload_n (pc := 2789) rfl d332_2789 ?_
  refine x_callSW (k := k) (n := n) (pc := 2790) c332_350 w1 rfl rfl (Nat.le_of_ble_eq_true rfl) (by decide +kernel) (by decide +kernel) d332_2790 (Or.inr fun v9 τ h9 => ?_) (fun v9 τ h9 => ?_) (fun E9 τ h9 _ => ?_)
  · obtain ⟨K1, v1, e, _⟩ := h9; cases e; rfl
  · obtain ⟨K1, v1, e, hC1, hk1, hv1⟩ := h9
    cases e
    show Ex l 332 k n 2793 _ [.int (iI r.1)] _ _
    refine x_istore (pc := 2793) (by decide +kernel) rfl d332_2793 ?_
    dsimp only [List.set]
    refine x_aload_n (pc := 2795) rfl d332_2795 ?_
    refine x_aload_n (pc := 2796) rfl d332_2796 ?_
    refine x_iload (pc := 2797) rfl d332_2797 ?_
    refine x_iconst (pc := 2799) d332_2799 ?_
    refine x_iadd (pc := 2800) d332_2800 ?_
    refine x_sldR (pc := 2801) (by omega) (by omega) (by omega) d332_2801 ?_
    refine ex_00 (x_callV (pc := 2802) c332_352 (w2 K1 v1 (hR.ge hk1)) (xo181 (by omega)) rfl rfl (Nat.le_of_ble_eq_true rfl) (by decide +kernel) (by decide +kernel) d332_2802 (Or.inr fun v9 τ h9 => ?_) (fun v9 τ h9 => ?_) (fun E9 τ h9 _ => ?_))
    · obtain ⟨z, K2, e, _⟩ := h9; cases e; rfl
    · obtain ⟨z, K2, e, h6, hz2, hR2, hk2⟩ := h9
      cases e
      have hC2 : CREL K2 r.2.2 := hC1.lt fun a ha => hk2 a (Or.inl ha)
      show Ex l 332 k n 2805 _ [.int (iI z)] _ _
      refine x_istore (pc := 2805) (by decide +kernel) rfl d332_2805 ?_
      dsimp only [List.set]
      refine x_aload_n (pc := 2807) rfl d332_2807 ?_
      refine x_cVs (pc := 2808) c332_146 (rt_thrown hl hq h6) (xo181 (by omega)) rfl rfl (Nat.le_of_ble_eq_true rfl) (by decide +kernel) (by decide +kernel) rfl d332_2808 ?_
      refine x_iload (pc := 2811) rfl d332_2811 ?_
      refine x_same (pc := 2813) (tgt := 2818) d332_2813 (by decide) ?_
      refine x_iload (pc := 2818) rfl d332_2818 ?_
      refine x_if_ne (pc := 2820) (tgt := 2835) ⟨by omega, by omega⟩ d332_2820 (by decide) (fun g => ?_) (fun g => ?_)
      · refine x_goto (pc := 2835) (tgt := 3032) d332_2835 (by decide) ?_
        refine x_mask [true, true, true, true, true, false, false, false, false] ?_
        dsimp only [mask]
        exact hn K2 _ _ hC2 hR2 hG
      · have hzz : z = r.2.1 := hz2 g
        have hvv := hv1 g
        subst hzz
        refine x_aload_n (pc := 2823) rfl d332_2823 ?_
        refine x_iconst (pc := 2824) d332_2824 ?_
        refine m_lald (pc := 2825) (by omega) (by decide +kernel) d332_2825 ?_
        refine x_iload (pc := 2826) rfl d332_2826 ?_
        refine x_i2lA (pc := 2828) d332_2828 ?_
        rw [hvv]
        refine x_lsame (pc := 2829) (tgt := 2835) (tI_r _) d332_2829 d332_2830 (by decide) ?_
        refine x_goto (pc := 2835) (tgt := 3032) d332_2835 (by decide) ?_
        refine x_mask [true, true, true, true, true, false, false, false, false] ?_
        dsimp only [mask]
        exact hn K2 _ _ hC2 hR2 hG
    · obtain ⟨z, K2, e, _⟩ := h9; cases e
  · obtain ⟨K1, v1, e, _⟩ := h9; cases e
theorem cs59 {k n : Nat} (hl : l.1.stackTraces = false) (hq : 193 ≤ q) (hC : CREL K S) (hR : RREL K S) (hS : GOK S) {i : Int} (i0 : 0 ≤ i) (i6 : i + 6 ≤ l.2.1) (hlen : (l.2.1 : Int) ≤ 2147483647) {Q : OO → Prop} (hn : ∀ (K2 : Nat → Int → Int) (v2 : Int) (S2 : GS), CREL K2 S2 → RREL K2 S2 → GOK S2 → Ex l 332 k n 3032 (lawL i) [] (mm q K2 v2 false) Q) : Ex l 332 (1 + k) (6 + n) 2838 (lawL i) [] (mm q K v false) Q := by
  unfold lawL at hn ⊢
  have hcd : (oUndo S).1 = 0 ∨ (oUndo S).1 = 1 := by
    unfold oUndo
    repeat (first | exact Or.inl rfl | exact Or.inr rfl | split)
  have hG : GOK (oUndo S).2.2 := gok_undo hS
  have w1 := wr329 (q := q) (v := v) hl hq hC hS  
  have w2 : ∀ (K1 : Nat → Int → Int) (v1 : Int), RREL K1 S → CT l 288 [.ref 181] (mm q K1 v1 false) 0 0 (RQ q v1 false K1 (oUndo S)) := fun K1 v1 hR1 => rm288 hl (by omega) hR1 hS  
  generalize (oUndo S) = r at w1 w2 hcd hG
  refine x_aload_n (pc := 2838) rfl d332_2838 ?_
  refine x_aload_n (pc := 2839) rfl d332_2839 ?_
  refine x_callSW (k := k) (n := n) (pc := 2840) c332_353 w1 rfl rfl (Nat.le_of_ble_eq_true rfl) (by decide +kernel) (by decide +kernel) d332_2840 (Or.inr fun v9 τ h9 => ?_) (fun v9 τ h9 => ?_) (fun E9 τ h9 _ => ?_)
  · obtain ⟨K1, v1, e, _⟩ := h9; cases e; rfl
  · obtain ⟨K1, v1, e, hC1, hk1, hv1⟩ := h9
    cases e
    show Ex l 332 k n 2843 _ [.int (iI r.1)] _ _
    refine x_istore (pc := 2843) (by decide +kernel) rfl d332_2843 ?_
    dsimp only [List.set]
    refine x_aload_n (pc := 2845) rfl d332_2845 ?_
    refine ex_00 (x_callV (pc := 2846) c332_355 (w2 K1 v1 (hR.ge hk1)) (xo181 (by omega)) rfl rfl (Nat.le_of_ble_eq_true rfl) (by decide +kernel) (by decide +kernel) d332_2846 (Or.inr fun v9 τ h9 => ?_) (fun v9 τ h9 => ?_) (fun E9 τ h9 _ => ?_))
    · obtain ⟨z, K2, e, _⟩ := h9; cases e; rfl
    · obtain ⟨z, K2, e, h6, hz2, hR2, hk2⟩ := h9
      cases e
      have hC2 : CREL K2 r.2.2 := hC1.lt fun a ha => hk2 a (Or.inl ha)
      show Ex l 332 k n 2849 _ [.int (iI z)] _ _
      refine x_istore (pc := 2849) (by decide +kernel) rfl d332_2849 ?_
      dsimp only [List.set]
      refine x_aload_n (pc := 2851) rfl d332_2851 ?_
      refine x_cVs (pc := 2852) c332_146 (rt_thrown hl hq h6) (xo181 (by omega)) rfl rfl (Nat.le_of_ble_eq_true rfl) (by decide +kernel) (by decide +kernel) rfl d332_2852 ?_
      refine x_iload (pc := 2855) rfl d332_2855 ?_
      refine x_same (pc := 2857) (tgt := 2862) d332_2857 (by decide) ?_
      refine x_iload (pc := 2862) rfl d332_2862 ?_
      refine x_if_ne (pc := 2864) (tgt := 2879) ⟨by omega, by omega⟩ d332_2864 (by decide) (fun g => ?_) (fun g => ?_)
      · refine x_goto (pc := 2879) (tgt := 3032) d332_2879 (by decide) ?_
        refine x_mask [true, true, true, true, true, false, false, false, false] ?_
        dsimp only [mask]
        exact hn K2 _ _ hC2 hR2 hG
      · have hzz : z = r.2.1 := hz2 g
        have hvv := hv1 g
        subst hzz
        refine x_aload_n (pc := 2867) rfl d332_2867 ?_
        refine x_iconst (pc := 2868) d332_2868 ?_
        refine m_lald (pc := 2869) (by omega) (by decide +kernel) d332_2869 ?_
        refine x_iload (pc := 2870) rfl d332_2870 ?_
        refine x_i2lA (pc := 2872) d332_2872 ?_
        rw [hvv]
        refine x_lsame (pc := 2873) (tgt := 2879) (tI_r _) d332_2873 d332_2874 (by decide) ?_
        refine x_goto (pc := 2879) (tgt := 3032) d332_2879 (by decide) ?_
        refine x_mask [true, true, true, true, true, false, false, false, false] ?_
        dsimp only [mask]
        exact hn K2 _ _ hC2 hR2 hG
    · obtain ⟨z, K2, e, _⟩ := h9; cases e
  · obtain ⟨K1, v1, e, _⟩ := h9; cases e
theorem cs60 {k n : Nat} (hl : l.1.stackTraces = false) (hq : 193 ≤ q) (hC : CREL K S) (hR : RREL K S) (hS : GOK S) {i : Int} (i0 : 0 ≤ i) (i6 : i + 6 ≤ l.2.1) (hlen : (l.2.1 : Int) ≤ 2147483647) {Q : OO → Prop} (hn : ∀ (K2 : Nat → Int → Int) (v2 : Int) (S2 : GS), CREL K2 S2 → RREL K2 S2 → GOK S2 → Ex l 332 k n 3032 (lawL i) [] (mm q K2 v2 false) Q) : Ex l 332 (1 + k) (6 + n) 2882 (lawL i) [] (mm q K v false) Q := by
  unfold lawL at hn ⊢
  have w1 := cm136 (q := q) (v := v) (E := fun _ => 0) hl (by omega) hC hS 
  have w2 : ∀ (K1 : Nat → Int → Int), RREL K1 S → CT l 289 [.ref 181] (mm q K1 v false) 0 0 (RQ q v false K1 (oSave S)) := fun K1 hR1 => rm289 hl (by omega) hR1 hS 
  have h0 : ((oSave S) : Int × Int × GS).1 = 0 := rfl
  have hG : GOK ((oSave S) : Int × Int × GS).2.2 := gok_save hS
  generalize ((oSave S) : Int × Int × GS) = r at w1 w2 h0 hG
  refine x_aload_n (pc := 2882) rfl d332_2882 ?_
  refine x_callV (k := k) (n := n) (pc := 2883) c332_356 w1 (ko0 (by omega)) rfl rfl (Nat.le_of_ble_eq_true rfl) (by decide +kernel) (by decide +kernel) d332_2883 (Or.inr fun v9 τ h9 => ?_) (fun v9 τ h9 => ?_) (fun E9 τ h9 _ => ?_)
  · rcases h9 with ⟨_, K1, e, _⟩ | ⟨_, K1, e, _⟩
    · cases e; rfl
    · cases e
  · rcases h9 with ⟨_, K1, e, hC1, hk1⟩ | ⟨_, K1, e, _⟩
    · cases e
      show Ex l 332 k n 2886 _ [.int (iI r.2.1)] _ _
      refine x_aload_n (pc := 2886) rfl d332_2886 ?_
      refine ex_00 (x_callV (pc := 2887) c332_359 (w2 K1 (hR.ge hk1)) (xo181 (by omega)) rfl rfl (Nat.le_of_ble_eq_true rfl) (by decide +kernel) (by decide +kernel) d332_2887 (Or.inr fun v9 τ h9 => ?_) (fun v9 τ h9 => ?_) (fun E9 τ h9 _ => ?_))
      · obtain ⟨z, K2, e, _⟩ := h9; cases e; rfl
      · obtain ⟨z, K2, e, h6, hz2, hR2, hk2⟩ := h9
        cases e
        have hC2 : CREL K2 r.2.2 := hC1.lt fun a ha => hk2 a (Or.inl ha)
        have hzz : z = r.2.1 := hz2 h0
        subst hzz
        show Ex l 332 k n 2890 _ [.int (iI r.2.1), .int (iI r.2.1)] _ _
        refine x_same (pc := 2890) (tgt := 3032) d332_2890 (by decide) ?_
        exact hn K2 v _ hC2 hR2 hG
      · obtain ⟨z, K2, e, _⟩ := h9; cases e
    · cases e
  · rcases h9 with ⟨_, K1, e, _⟩ | ⟨g9, K1, e, _⟩
    · cases e
    · exact absurd h0 g9
theorem cs61 {k n : Nat} (hl : l.1.stackTraces = false) (hq : 193 ≤ q) (hC : CREL K S) (hR : RREL K S) (hS : GOK S) {i : Int} (i0 : 0 ≤ i) (i6 : i + 6 ≤ l.2.1) (hlen : (l.2.1 : Int) ≤ 2147483647) {Q : OO → Prop} (hn : ∀ (K2 : Nat → Int → Int) (v2 : Int) (S2 : GS), CREL K2 S2 → RREL K2 S2 → GOK S2 → Ex l 332 k n 3032 (lawL i) [] (mm q K2 v2 false) Q) : Ex l 332 (1 + k) (6 + n) 2895 (lawL i) [] (mm q K v false) Q := by
  unfold lawL at hn ⊢
  have hcd : (oRestore S).1 = 0 ∨ (oRestore S).1 = 1 := by
    unfold oRestore
    repeat (first | exact Or.inl rfl | exact Or.inr rfl | split)
  have hG : GOK (oRestore S).2.2 := gok_restore hS
  have w1 := wr330 (q := q) (v := v) hl hq hC hS  
  have w2 : ∀ (K1 : Nat → Int → Int) (v1 : Int), RREL K1 S → CT l 290 [.ref 181] (mm q K1 v1 false) 0 0 (RQ q v1 false K1 (oRestore S)) := fun K1 v1 hR1 => rm290 hl (by omega) hR1 hS  
  generalize (oRestore S) = r at w1 w2 hcd hG
  refine x_aload_n (pc := 2895) rfl d332_2895 ?_
  refine x_aload_n (pc := 2896) rfl d332_2896 ?_
  refine x_callSW (k := k) (n := n) (pc := 2897) c332_360 w1 rfl rfl (Nat.le_of_ble_eq_true rfl) (by decide +kernel) (by decide +kernel) d332_2897 (Or.inr fun v9 τ h9 => ?_) (fun v9 τ h9 => ?_) (fun E9 τ h9 _ => ?_)
  · obtain ⟨K1, v1, e, _⟩ := h9; cases e; rfl
  · obtain ⟨K1, v1, e, hC1, hk1, hv1⟩ := h9
    cases e
    show Ex l 332 k n 2900 _ [.int (iI r.1)] _ _
    refine x_istore (pc := 2900) (by decide +kernel) rfl d332_2900 ?_
    dsimp only [List.set]
    refine x_aload_n (pc := 2902) rfl d332_2902 ?_
    refine ex_00 (x_callV (pc := 2903) c332_362 (w2 K1 v1 (hR.ge hk1)) (xo181 (by omega)) rfl rfl (Nat.le_of_ble_eq_true rfl) (by decide +kernel) (by decide +kernel) d332_2903 (Or.inr fun v9 τ h9 => ?_) (fun v9 τ h9 => ?_) (fun E9 τ h9 _ => ?_))
    · obtain ⟨z, K2, e, _⟩ := h9; cases e; rfl
    · obtain ⟨z, K2, e, h6, hz2, hR2, hk2⟩ := h9
      cases e
      have hC2 : CREL K2 r.2.2 := hC1.lt fun a ha => hk2 a (Or.inl ha)
      show Ex l 332 k n 2906 _ [.int (iI z)] _ _
      refine x_istore (pc := 2906) (by decide +kernel) rfl d332_2906 ?_
      dsimp only [List.set]
      refine x_aload_n (pc := 2908) rfl d332_2908 ?_
      refine x_cVs (pc := 2909) c332_146 (rt_thrown hl hq h6) (xo181 (by omega)) rfl rfl (Nat.le_of_ble_eq_true rfl) (by decide +kernel) (by decide +kernel) rfl d332_2909 ?_
      refine x_iload (pc := 2912) rfl d332_2912 ?_
      refine x_same (pc := 2914) (tgt := 2919) d332_2914 (by decide) ?_
      refine x_iload (pc := 2919) rfl d332_2919 ?_
      refine x_if_ne (pc := 2921) (tgt := 2936) ⟨by omega, by omega⟩ d332_2921 (by decide) (fun g => ?_) (fun g => ?_)
      · refine x_goto (pc := 2936) (tgt := 3032) d332_2936 (by decide) ?_
        refine x_mask [true, true, true, true, true, false, false, false, false] ?_
        dsimp only [mask]
        exact hn K2 _ _ hC2 hR2 hG
      · have hzz : z = r.2.1 := hz2 g
        have hvv := hv1 g
        subst hzz
        refine x_aload_n (pc := 2924) rfl d332_2924 ?_
        refine x_iconst (pc := 2925) d332_2925 ?_
        refine m_lald (pc := 2926) (by omega) (by decide +kernel) d332_2926 ?_
        refine x_iload (pc := 2927) rfl d332_2927 ?_
        refine x_i2lA (pc := 2929) d332_2929 ?_
        rw [hvv]
        refine x_lsame (pc := 2930) (tgt := 2936) (tI_r _) d332_2930 d332_2931 (by decide) ?_
        refine x_goto (pc := 2936) (tgt := 3032) d332_2936 (by decide) ?_
        refine x_mask [true, true, true, true, true, false, false, false, false] ?_
        dsimp only [mask]
        exact hn K2 _ _ hC2 hR2 hG
    · obtain ⟨z, K2, e, _⟩ := h9; cases e
  · obtain ⟨K1, v1, e, _⟩ := h9; cases e
theorem cs62 {k n : Nat} (hl : l.1.stackTraces = false) (hq : 193 ≤ q) (hC : CREL K S) (hR : RREL K S) (hS : GOK S) {i : Int} (i0 : 0 ≤ i) (i6 : i + 6 ≤ l.2.1) (hlen : (l.2.1 : Int) ≤ 2147483647) {Q : OO → Prop} (hn : ∀ (K2 : Nat → Int → Int) (v2 : Int) (S2 : GS), CREL K2 S2 → RREL K2 S2 → GOK S2 → Ex l 332 k n 3032 (lawL i) [] (mm q K2 v2 false) Q) : Ex l 332 (1 + k) (6 + n) 2939 (lawL i) [] (mm q K v false) Q := by
  unfold lawL at hn ⊢
  have hcd : (oFormat S (scV l (i + 1)) (scV l (i + 2))).1 = 0 ∨ (oFormat S (scV l (i + 1)) (scV l (i + 2))).1 = 1 ∨ (oFormat S (scV l (i + 1)) (scV l (i + 2))).1 = 2 := by
    unfold oFormat
    repeat (first | exact Or.inl rfl | exact Or.inr (Or.inl rfl) | exact Or.inr (Or.inr rfl) | split)
  have hG : GOK (oFormat S (scV l (i + 1)) (scV l (i + 2))).2.2 := gok_format hS
  have w1 := wr331 (q := q) (v := v) hl hq hC hS (scV_r l (i + 1)) (scV_r l (i + 2))
  have w2 : ∀ (K1 : Nat → Int → Int) (v1 : Int), RREL K1 S → CT l 292 [.ref 181, .int (iI (scV l (i + 1))), .int (iI (scV l (i + 2)))] (mm q K1 v1 false) 0 0 (RQ q v1 false K1 (oFormat S (scV l (i + 1)) (scV l (i + 2)))) := fun K1 v1 hR1 => rm292 hl (by omega) hR1 hS (scV_r l (i + 1)) (scV_r l (i + 2))
  generalize (oFormat S (scV l (i + 1)) (scV l (i + 2))) = r at w1 w2 hcd hG
  refine x_aload_n (pc := 2939) rfl d332_2939 ?_
  refine x_aload_n (pc := 2940) rfl d332_2940 ?_
  refine x_iload (pc := 2941) rfl d332_2941 ?_
  refine x_iconst (pc := 2943) d332_2943 ?_
  refine x_iadd (pc := 2944) d332_2944 ?_
  refine x_sldR (pc := 2945) (by omega) (by omega) (by omega) d332_2945 ?_
  refine x_aload_n (pc := 2946) rfl d332_2946 ?_
  refine x_iload (pc := 2947) rfl d332_2947 ?_
  refine x_iconst (pc := 2949) d332_2949 ?_
  refine x_iadd (pc := 2950) d332_2950 ?_
  refine x_sldR (pc := 2951) (by omega) (by omega) (by omega) d332_2951 ?_
  refine x_aload_n (pc := 2952) rfl d332_2952 ?_
  refine x_callSW (k := k) (n := n) (pc := 2953) c332_363 w1 rfl rfl (Nat.le_of_ble_eq_true rfl) (by decide +kernel) (by decide +kernel) d332_2953 (Or.inr fun v9 τ h9 => ?_) (fun v9 τ h9 => ?_) (fun E9 τ h9 _ => ?_)
  · obtain ⟨K1, v1, e, _⟩ := h9; cases e; rfl
  · obtain ⟨K1, v1, e, hC1, hk1, hv1⟩ := h9
    cases e
    show Ex l 332 k n 2956 _ [.int (iI r.1)] _ _
    refine x_istore (pc := 2956) (by decide +kernel) rfl d332_2956 ?_
    dsimp only [List.set]
    refine x_aload_n (pc := 2958) rfl d332_2958 ?_
    refine x_aload_n (pc := 2959) rfl d332_2959 ?_
    refine x_iload (pc := 2960) rfl d332_2960 ?_
    refine x_iconst (pc := 2962) d332_2962 ?_
    refine x_iadd (pc := 2963) d332_2963 ?_
    refine x_sldR (pc := 2964) (by omega) (by omega) (by omega) d332_2964 ?_
    refine x_aload_n (pc := 2965) rfl d332_2965 ?_
    refine x_iload (pc := 2966) rfl d332_2966 ?_
    refine x_iconst (pc := 2968) d332_2968 ?_
    refine x_iadd (pc := 2969) d332_2969 ?_
    refine x_sldR (pc := 2970) (by omega) (by omega) (by omega) d332_2970 ?_
    refine ex_00 (x_callV (pc := 2971) c332_365 (w2 K1 v1 (hR.ge hk1)) (xo181 (by omega)) rfl rfl (Nat.le_of_ble_eq_true rfl) (by decide +kernel) (by decide +kernel) d332_2971 (Or.inr fun v9 τ h9 => ?_) (fun v9 τ h9 => ?_) (fun E9 τ h9 _ => ?_))
    · obtain ⟨z, K2, e, _⟩ := h9; cases e; rfl
    · obtain ⟨z, K2, e, h6, hz2, hR2, hk2⟩ := h9
      cases e
      have hC2 : CREL K2 r.2.2 := hC1.lt fun a ha => hk2 a (Or.inl ha)
      show Ex l 332 k n 2974 _ [.int (iI z)] _ _
      refine x_istore (pc := 2974) (by decide +kernel) rfl d332_2974 ?_
      dsimp only [List.set]
      refine x_aload_n (pc := 2976) rfl d332_2976 ?_
      refine x_cVs (pc := 2977) c332_146 (rt_thrown hl hq h6) (xo181 (by omega)) rfl rfl (Nat.le_of_ble_eq_true rfl) (by decide +kernel) (by decide +kernel) rfl d332_2977 ?_
      refine x_iload (pc := 2980) rfl d332_2980 ?_
      refine x_same (pc := 2982) (tgt := 2987) d332_2982 (by decide) ?_
      refine x_iload (pc := 2987) rfl d332_2987 ?_
      refine x_if_ne (pc := 2989) (tgt := 3004) ⟨by omega, by omega⟩ d332_2989 (by decide) (fun g => ?_) (fun g => ?_)
      · refine x_goto (pc := 3004) (tgt := 3032) d332_3004 (by decide) ?_
        refine x_mask [true, true, true, true, true, false, false, false, false] ?_
        dsimp only [mask]
        exact hn K2 _ _ hC2 hR2 hG
      · have hzz : z = r.2.1 := hz2 g
        have hvv := hv1 g
        subst hzz
        refine x_aload_n (pc := 2992) rfl d332_2992 ?_
        refine x_iconst (pc := 2993) d332_2993 ?_
        refine m_lald (pc := 2994) (by omega) (by decide +kernel) d332_2994 ?_
        refine x_iload (pc := 2995) rfl d332_2995 ?_
        refine x_i2lA (pc := 2997) d332_2997 ?_
        rw [hvv]
        refine x_lsame (pc := 2998) (tgt := 3004) (tI_r _) d332_2998 d332_2999 (by decide) ?_
        refine x_goto (pc := 3004) (tgt := 3032) d332_3004 (by decide) ?_
        refine x_mask [true, true, true, true, true, false, false, false, false] ?_
        dsimp only [mask]
        exact hn K2 _ _ hC2 hR2 hG
    · obtain ⟨z, K2, e, _⟩ := h9; cases e
  · obtain ⟨K1, v1, e, _⟩ := h9; cases e
theorem cs63 {k n : Nat} (hl : l.1.stackTraces = false) (hq : 193 ≤ q) (hC : CREL K S) (hR : RREL K S) (hS : GOK S) {i : Int} (i0 : 0 ≤ i) (i6 : i + 6 ≤ l.2.1) (hlen : (l.2.1 : Int) ≤ 2147483647) {Q : OO → Prop} (hn : ∀ (K2 : Nat → Int → Int) (v2 : Int) (S2 : GS), CREL K2 S2 → RREL K2 S2 → GOK S2 → Ex l 332 k n 3032 (lawL i) [] (mm q K2 v2 false) Q) : Ex l 332 (1 + k) (6 + n) 3007 (lawL i) [] (mm q K v false) Q := by
  unfold lawL at hn ⊢
  have w1 := cm139 (q := q) (v := v) (E := fun _ => 0) hl (by omega) hC hS (scV_r l (i + 1))
  have w2 : ∀ (K1 : Nat → Int → Int), RREL K1 S → CT l 293 [.ref 181, .int (iI (scV l (i + 1)))] (mm q K1 v false) 0 0 (RQ q v false K1 (0, atT (gO S) (gM S) (scV l (i + 1)), S)) := fun K1 hR1 => rm293 hl (by omega) hR1 hS (scV_r l (i + 1))
  have h0 : ((0, atT (gO S) (gM S) (scV l (i + 1)), S) : Int × Int × GS).1 = 0 := rfl
  have hG : GOK ((0, atT (gO S) (gM S) (scV l (i + 1)), S) : Int × Int × GS).2.2 := hS
  generalize ((0, atT (gO S) (gM S) (scV l (i + 1)), S) : Int × Int × GS) = r at w1 w2 h0 hG
  refine x_aload_n (pc := 3007) rfl d332_3007 ?_
  refine x_aload_n (pc := 3008) rfl d332_3008 ?_
  refine x_iload (pc := 3009) rfl d332_3009 ?_
  refine x_iconst (pc := 3011) d332_3011 ?_
  refine x_iadd (pc := 3012) d332_3012 ?_
  refine x_sldR (pc := 3013) (by omega) (by omega) (by omega) d332_3013 ?_
  refine x_callV (k := k) (n := n) (pc := 3014) c332_366 w1 (ko0 (by omega)) rfl rfl (Nat.le_of_ble_eq_true rfl) (by decide +kernel) (by decide +kernel) d332_3014 (Or.inr fun v9 τ h9 => ?_) (fun v9 τ h9 => ?_) (fun E9 τ h9 _ => ?_)
  · rcases h9 with ⟨_, K1, e, _⟩ | ⟨_, K1, e, _⟩
    · cases e; rfl
    · cases e
  · rcases h9 with ⟨_, K1, e, hC1, hk1⟩ | ⟨_, K1, e, _⟩
    · cases e
      show Ex l 332 k n 3017 _ [.int (iI r.2.1)] _ _
      refine x_aload_n (pc := 3017) rfl d332_3017 ?_
      refine x_aload_n (pc := 3018) rfl d332_3018 ?_
      refine x_iload (pc := 3019) rfl d332_3019 ?_
      refine x_iconst (pc := 3021) d332_3021 ?_
      refine x_iadd (pc := 3022) d332_3022 ?_
      refine x_sldR (pc := 3023) (by omega) (by omega) (by omega) d332_3023 ?_
      refine ex_00 (x_callV (pc := 3024) c332_369 (w2 K1 (hR.ge hk1)) (xo181 (by omega)) rfl rfl (Nat.le_of_ble_eq_true rfl) (by decide +kernel) (by decide +kernel) d332_3024 (Or.inr fun v9 τ h9 => ?_) (fun v9 τ h9 => ?_) (fun E9 τ h9 _ => ?_))
      · obtain ⟨z, K2, e, _⟩ := h9; cases e; rfl
      · obtain ⟨z, K2, e, h6, hz2, hR2, hk2⟩ := h9
        cases e
        have hC2 : CREL K2 r.2.2 := hC1.lt fun a ha => hk2 a (Or.inl ha)
        have hzz : z = r.2.1 := hz2 h0
        subst hzz
        show Ex l 332 k n 3027 _ [.int (iI r.2.1), .int (iI r.2.1)] _ _
        refine x_same (pc := 3027) (tgt := 3032) d332_3027 (by decide) ?_
        exact hn K2 v _ hC2 hR2 hG
      · obtain ⟨z, K2, e, _⟩ := h9; cases e
    · cases e
  · rcases h9 with ⟨_, K1, e, _⟩ | ⟨g9, K1, e, _⟩
    · cases e
    · exact absurd h0 g9
end Law
