/-! ===== the law: one call on both sides ===== -/
theorem CREL.lt {I K : Nat → Int → Int} {S : GS} (h : CREL I S) (hh : ∀ a, a < 181 → K a = I a) : CREL K S :=
  ⟨h.1.cg fun a h0 h1 => hh a (by omega), h.2.1.cg (hh 14 (by decide)) fun a h0 h1 => hh a (by omega), h.2.2.1.cg (by rw [hh 0 (by decide)]) fun a h0 h1 => hh a (by omega), h.2.2.2.1.cg fun a h0 h1 => hh a (by omega), h.2.2.2.2.1.cg (hh 1 (by decide)) (hh 2 (by decide)), h.2.2.2.2.2.1.cg (by rw [hh 5 (by decide)]) (by rw [hh 5 (by decide)]), h.2.2.2.2.2.2.cg (hh 3 (by decide)) (hh 4 (by decide))⟩
theorem RREL.ge {I K : Nat → Int → Int} {S : GS} (h : RREL I S) (hh : ∀ a, 181 ≤ a → K a = I a) : RREL K S := by
  obtain ⟨h1, ⟨a1, a2⟩, ⟨b1, b2⟩, ⟨c1, c2⟩, ⟨d1, d2⟩, ⟨e1, e2⟩⟩ := h
  have f := hh 181 (by decide)
  exact ⟨by rw [hh 182 (by decide)]; exact h1, ⟨by rw [f]; exact a1, by rw [hh 186 (by decide)]; exact a2⟩, ⟨by rw [f]; exact b1, by rw [hh 183 (by decide)]; exact b2⟩, ⟨by rw [f]; exact c1, by rw [hh 189 (by decide)]; exact c2⟩, ⟨by rw [f]; exact d1, by rw [f]; exact d2⟩, ⟨by rw [f]; exact e1, by rw [hh 191 (by decide)]; exact e2⟩⟩
/-- an int of the script -/
def scV (l : LX) (i : Int) : Int := (iI (l.2.2 i.toNat)).toInt
theorem tI_r (x : Int32) : InR x.toInt := by
  have h1 := Int32.le_toInt x
  have h2 := Int32.toInt_lt x
  exact ⟨by omega, by omega⟩
theorem scV_r (l : LX) (i : Int) : InR (scV l i) := tI_r _
section LawRows
variable {l : LX} {y k n pc q : Nat} {L : LL} {st : List Value} {σ : MM} {Q : OO → Prop} {I : Nat → Int → Int} {v : Int} {fr : Bool}
theorem x_sldR {i : Int} (h0 : 0 ≤ i) (h9 : i < l.2.1) (hm : i ≤ 2147483647) (hd : decode (cdN y) pc = .ok (.iaload, 1)) (kk : Ex l y k n (pc + 1) L (.int (iI (scV l i)) :: st) σ Q) : Ex l y k n pc L (.int (iI i) :: .ref scr :: st) σ Q :=
  x_sld h0 h9 hm hd (by rw [← iI_self (iI (l.2.2 i.toNat))]; exact kk)
theorem x_same {off : Int} {tgt : Nat} {a : Int} (hd : decode (cdN y) pc = .ok (.if_icmp .eq off, 3)) (ht : (pc : Int) + off = (tgt : Int)) (kt : Ex l y k n tgt L st σ Q) : Ex l y k n pc L (.int (iI a) :: .int (iI a) :: st) σ Q := by
  have := x_icmp_eq (a := (iI a).toInt) (b := (iI a).toInt) (l := l) (y := y) (k := k) (n := n) (L := L) (st := st) (σ := σ) (Q := Q) (tI_r _) (tI_r _) hd ht (fun _ => kt) (fun z => absurd rfl z)
  rw [iI_self] at this
  exact this
theorem x_lsame {off : Int} {tgt : Nat} {a : Int} (ha : InR a) (hd : decode (cdN y) pc = .ok (.lcmp, 1)) (hd2 : decode (cdN y) (pc + 1) = .ok (.ifCond .eq off, 3)) (ht : ((pc + 1 : Nat) : Int) + off = (tgt : Int)) (kt : Ex l y k n tgt L st σ Q) : Ex l y k n pc L (.long (lL a) :: .long (lL a) :: st) σ Q := by
  obtain ⟨h1, h2⟩ := ha
  exact x_lc_eq (a := a) (b := a) ⟨by omega, by omega⟩ ⟨by omega, by omega⟩ hd hd2 ht (fun _ => kt) (fun z => absurd rfl z)
theorem rt_thrown (hl : l.1.stackTraces = false) (hq : 193 ≤ q) {c : Int} (h : I 181 6 = c) : DT l 147 [.ref 181] (mm q I v fr) 0 0 (.inl (some (.int (iI c))), mm q I v fr) := by
  subst h
  refine mkdt hl (by decide) (Nat.le_of_ble_eq_true rfl) (L := [some (.ref 181)]) rfl ?_
  refine x_aload_n (pc := 0) rfl d147_0 ?_
  refine m_getI (pc := 1) (z := 6) f147_65 (by decide +kernel) rfl (ko181 (by omega)) d147_1 ?_
  refine x_iret (pc := 4) rfl (fun _ => rfl) d147_4 ?_
  first | rfl | (exfalso; omega)
end LawRows
/-- the law's locals at the head of its loop -/
def lawL (i : Int) : LL := [some (.ref scr), some (.ref 0), some (.ref 181), some (.ref 192), some (.int (iI i)), none, none, none, none]
section Law
variable {l : LX} {q : Nat} {K : Nat → Int → Int} {v : Int} {S : GS}
theorem cs0 {k n : Nat} (hl : l.1.stackTraces = false) (hq : 193 ≤ q) (hC : CREL K S) (hR : RREL K S) (hS : GOK S) {i : Int} (i0 : 0 ≤ i) (i6 : i + 6 ≤ l.2.1) (hlen : (l.2.1 : Int) ≤ 2147483647) {Q : OO → Prop} (hn : ∀ (K2 : Nat → Int → Int) (v2 : Int) (S2 : GS), CREL K2 S2 → RREL K2 S2 → GOK S2 → Ex l 332 k n 3032 (lawL i) [] (mm q K2 v2 false) Q) : Ex l 332 (1 + k) (6 + n) 312 (lawL i) [] (mm q K v false) Q := by
  unfold lawL at hn ⊢
  have hcd : (oAppend S (scV l (i + 1)) (scV l (i + 2)) (scV l (i + 3)) (scV l (i + 4)) (scV l (i + 5))).1 = 0 ∨ (oAppend S (scV l (i + 1)) (scV l (i + 2)) (scV l (i + 3)) (scV l (i + 4)) (scV l (i + 5))).1 = 1 := by
    unfold oAppend
    repeat (first | exact Or.inl rfl | exact Or.inr rfl | split)
  have hG : GOK (oAppend S (scV l (i + 1)) (scV l (i + 2)) (scV l (i + 3)) (scV l (i + 4)) (scV l (i + 5))).2.2 := gok_append hS
  have w1 := wr294 (q := q) (v := v) hl hq hC hS  (a := (scV l (i + 1))) (b := (scV l (i + 2))) (c := (scV l (i + 3))) (d := (scV l (i + 4))) (e := (scV l (i + 5)))
  have w2 : ∀ (K1 : Nat → Int → Int) (v1 : Int), RREL K1 S → CT l 200 [.ref 181, .int (iI (scV l (i + 1))), .int (iI (scV l (i + 2))), .int (iI (scV l (i + 3))), .int (iI (scV l (i + 4))), .int (iI (scV l (i + 5)))] (mm q K1 v1 false) 0 0 (RQ q v1 false K1 (oAppend S (scV l (i + 1)) (scV l (i + 2)) (scV l (i + 3)) (scV l (i + 4)) (scV l (i + 5)))) := fun K1 v1 hR1 => rm200 hl hq hR1 hS (scV_r l (i + 1)) (scV_r l (i + 2)) (scV_r l (i + 3)) (scV_r l (i + 4)) (scV_r l (i + 5))
  generalize (oAppend S (scV l (i + 1)) (scV l (i + 2)) (scV l (i + 3)) (scV l (i + 4)) (scV l (i + 5))) = r at w1 w2 hcd hG
  refine x_aload_n (pc := 312) rfl d332_312 ?_
  refine x_aload_n (pc := 313) rfl d332_313 ?_
  refine x_iload (pc := 314) rfl d332_314 ?_
  refine x_iconst (pc := 316) d332_316 ?_
  refine x_iadd (pc := 317) d332_317 ?_
  refine x_sldR (pc := 318) (by omega) (by omega) (by omega) d332_318 ?_
  refine x_aload_n (pc := 319) rfl d332_319 ?_
  refine x_iload (pc := 320) rfl d332_320 ?_
  refine x_iconst (pc := 322) d332_322 ?_
  refine x_iadd (pc := 323) d332_323 ?_
  refine x_sldR (pc := 324) (by omega) (by omega) (by omega) d332_324 ?_
  refine x_aload_n (pc := 325) rfl d332_325 ?_
  refine x_iload (pc := 326) rfl d332_326 ?_
  refine x_iconst (pc := 328) d332_328 ?_
  refine x_iadd (pc := 329) d332_329 ?_
  refine x_sldR (pc := 330) (by omega) (by omega) (by omega) d332_330 ?_
  refine x_aload_n (pc := 331) rfl d332_331 ?_
  refine x_iload (pc := 332) rfl d332_332 ?_
  refine x_iconst (pc := 334) d332_334 ?_
  refine x_iadd (pc := 335) d332_335 ?_
  refine x_sldR (pc := 336) (by omega) (by omega) (by omega) d332_336 ?_
  refine x_aload_n (pc := 337) rfl d332_337 ?_
  refine x_iload (pc := 338) rfl d332_338 ?_
  refine x_iconst (pc := 340) d332_340 ?_
  refine x_iadd (pc := 341) d332_341 ?_
  refine x_sldR (pc := 342) (by omega) (by omega) (by omega) d332_342 ?_
  refine x_aload_n (pc := 343) rfl d332_343 ?_
  refine x_callSW (k := k) (n := n) (pc := 344) c332_140 w1 rfl rfl (Nat.le_of_ble_eq_true rfl) (by decide +kernel) (by decide +kernel) d332_344 (Or.inr fun v9 τ h9 => ?_) (fun v9 τ h9 => ?_) (fun E9 τ h9 _ => ?_)
  · obtain ⟨K1, v1, e, _⟩ := h9; cases e; rfl
  · obtain ⟨K1, v1, e, hC1, hk1, hv1⟩ := h9
    cases e
    show Ex l 332 k n 347 _ [.int (iI r.1)] _ _
    refine x_istore (pc := 347) (by decide +kernel) rfl d332_347 ?_
    dsimp only [List.set]
    refine x_aload_n (pc := 349) rfl d332_349 ?_
    refine x_aload_n (pc := 350) rfl d332_350 ?_
    refine x_iload (pc := 351) rfl d332_351 ?_
    refine x_iconst (pc := 353) d332_353 ?_
    refine x_iadd (pc := 354) d332_354 ?_
    refine x_sldR (pc := 355) (by omega) (by omega) (by omega) d332_355 ?_
    refine x_aload_n (pc := 356) rfl d332_356 ?_
    refine x_iload (pc := 357) rfl d332_357 ?_
    refine x_iconst (pc := 359) d332_359 ?_
    refine x_iadd (pc := 360) d332_360 ?_
    refine x_sldR (pc := 361) (by omega) (by omega) (by omega) d332_361 ?_
    refine x_aload_n (pc := 362) rfl d332_362 ?_
    refine x_iload (pc := 363) rfl d332_363 ?_
    refine x_iconst (pc := 365) d332_365 ?_
    refine x_iadd (pc := 366) d332_366 ?_
    refine x_sldR (pc := 367) (by omega) (by omega) (by omega) d332_367 ?_
    refine x_aload_n (pc := 368) rfl d332_368 ?_
    refine x_iload (pc := 369) rfl d332_369 ?_
    refine x_iconst (pc := 371) d332_371 ?_
    refine x_iadd (pc := 372) d332_372 ?_
    refine x_sldR (pc := 373) (by omega) (by omega) (by omega) d332_373 ?_
    refine x_aload_n (pc := 374) rfl d332_374 ?_
    refine x_iload (pc := 375) rfl d332_375 ?_
    refine x_iconst (pc := 377) d332_377 ?_
    refine x_iadd (pc := 378) d332_378 ?_
    refine x_sldR (pc := 379) (by omega) (by omega) (by omega) d332_379 ?_
    refine ex_00 (x_callV (pc := 380) c332_145 (w2 K1 v1 (hR.ge hk1)) (ko181 (by omega)) rfl rfl (Nat.le_of_ble_eq_true rfl) (by decide +kernel) (by decide +kernel) d332_380 (Or.inr fun v9 τ h9 => ?_) (fun v9 τ h9 => ?_) (fun E9 τ h9 _ => ?_))
    · obtain ⟨z, K2, e, _⟩ := h9; cases e; rfl
    · obtain ⟨z, K2, e, h6, hz2, hR2, hk2⟩ := h9
      cases e
      have hC2 : CREL K2 r.2.2 := hC1.lt fun a ha => hk2 a (Or.inl ha)
      show Ex l 332 k n 383 _ [.int (iI z)] _ _
      refine x_istore (pc := 383) (by decide +kernel) rfl d332_383 ?_
      dsimp only [List.set]
      refine x_aload_n (pc := 385) rfl d332_385 ?_
      refine x_cVs (pc := 386) c332_146 (rt_thrown hl hq h6) (ko181 (by omega)) rfl rfl (Nat.le_of_ble_eq_true rfl) (by decide +kernel) (by decide +kernel) rfl d332_386 ?_
      refine x_iload (pc := 389) rfl d332_389 ?_
      refine x_same (pc := 391) (tgt := 396) d332_391 (by decide) ?_
      refine x_iload (pc := 396) rfl d332_396 ?_
      refine x_if_ne (pc := 398) (tgt := 413) ⟨by omega, by omega⟩ d332_398 (by decide) (fun g => ?_) (fun g => ?_)
      · refine x_goto (pc := 413) (tgt := 3032) d332_413 (by decide) ?_
        refine x_mask [true, true, true, true, true, false, false, false, false] ?_
        dsimp only [mask]
        exact hn K2 v1 _ hC2 hR2 hG
      · have hzz : z = r.2.1 := hz2 g
        have hvv := hv1 g
        subst hzz
        refine x_aload_n (pc := 401) rfl d332_401 ?_
        refine x_iconst (pc := 402) d332_402 ?_
        refine m_lald (pc := 403) (by omega) (by decide +kernel) d332_403 ?_
        refine x_iload (pc := 404) rfl d332_404 ?_
        refine x_i2lA (pc := 406) d332_406 ?_
        rw [hvv]
        refine x_lsame (pc := 407) (tgt := 413) (tI_r _) d332_407 d332_408 (by decide) ?_
        refine x_goto (pc := 413) (tgt := 3032) d332_413 (by decide) ?_
        refine x_mask [true, true, true, true, true, false, false, false, false] ?_
        dsimp only [mask]
        exact hn K2 v1 _ hC2 hR2 hG
    · obtain ⟨z, K2, e, _⟩ := h9; cases e
  · obtain ⟨K1, v1, e, _⟩ := h9; cases e
theorem cs2 {k n : Nat} (hl : l.1.stackTraces = false) (hq : 193 ≤ q) (hC : CREL K S) (hR : RREL K S) (hS : GOK S) {i : Int} (i0 : 0 ≤ i) (i6 : i + 6 ≤ l.2.1) (hlen : (l.2.1 : Int) ≤ 2147483647) {Q : OO → Prop} (hn : ∀ (K2 : Nat → Int → Int) (v2 : Int) (S2 : GS), CREL K2 S2 → RREL K2 S2 → GOK S2 → Ex l 332 k n 3032 (lawL i) [] (mm q K2 v2 false) Q) : Ex l 332 (1 + k) (6 + n) 472 (lawL i) [] (mm q K v false) Q := by
  unfold lawL at hn ⊢
  have hcd : (oLoad S).1 = 0 ∨ (oLoad S).1 = 1 := by
    unfold oLoad
    repeat (first | exact Or.inl rfl | exact Or.inr rfl | split)
  have hG : GOK (oLoad S).2.2 := gok_load hS
  have w1 := wr296 (q := q) (v := v) hl hq hC hS  
  have w2 : ∀ (K1 : Nat → Int → Int) (v1 : Int), RREL K1 S → CT l 215 [.ref 181] (mm q K1 v1 false) 0 0 (RQ q v1 false K1 (oLoad S)) := fun K1 v1 hR1 => rm215 hl hq hR1 hS  
  generalize (oLoad S) = r at w1 w2 hcd hG
  refine x_aload_n (pc := 472) rfl d332_472 ?_
  refine x_aload_n (pc := 473) rfl d332_473 ?_
  refine x_callSW (k := k) (n := n) (pc := 474) c332_153 w1 rfl rfl (Nat.le_of_ble_eq_true rfl) (by decide +kernel) (by decide +kernel) d332_474 (Or.inr fun v9 τ h9 => ?_) (fun v9 τ h9 => ?_) (fun E9 τ h9 _ => ?_)
  · obtain ⟨K1, v1, e, _⟩ := h9; cases e; rfl
  · obtain ⟨K1, v1, e, hC1, hk1, hv1⟩ := h9
    cases e
    show Ex l 332 k n 477 _ [.int (iI r.1)] _ _
    refine x_istore (pc := 477) (by decide +kernel) rfl d332_477 ?_
    dsimp only [List.set]
    refine x_aload_n (pc := 479) rfl d332_479 ?_
    refine ex_00 (x_callV (pc := 480) c332_156 (w2 K1 v1 (hR.ge hk1)) (ko181 (by omega)) rfl rfl (Nat.le_of_ble_eq_true rfl) (by decide +kernel) (by decide +kernel) d332_480 (Or.inr fun v9 τ h9 => ?_) (fun v9 τ h9 => ?_) (fun E9 τ h9 _ => ?_))
    · obtain ⟨z, K2, e, _⟩ := h9; cases e; rfl
    · obtain ⟨z, K2, e, h6, hz2, hR2, hk2⟩ := h9
      cases e
      have hC2 : CREL K2 r.2.2 := hC1.lt fun a ha => hk2 a (Or.inl ha)
      show Ex l 332 k n 483 _ [.int (iI z)] _ _
      refine x_istore (pc := 483) (by decide +kernel) rfl d332_483 ?_
      dsimp only [List.set]
      refine x_aload_n (pc := 485) rfl d332_485 ?_
      refine x_cVs (pc := 486) c332_146 (rt_thrown hl hq h6) (ko181 (by omega)) rfl rfl (Nat.le_of_ble_eq_true rfl) (by decide +kernel) (by decide +kernel) rfl d332_486 ?_
      refine x_iload (pc := 489) rfl d332_489 ?_
      refine x_same (pc := 491) (tgt := 496) d332_491 (by decide) ?_
      refine x_iload (pc := 496) rfl d332_496 ?_
      refine x_if_ne (pc := 498) (tgt := 513) ⟨by omega, by omega⟩ d332_498 (by decide) (fun g => ?_) (fun g => ?_)
      · refine x_goto (pc := 513) (tgt := 3032) d332_513 (by decide) ?_
        refine x_mask [true, true, true, true, true, false, false, false, false] ?_
        dsimp only [mask]
        exact hn K2 v1 _ hC2 hR2 hG
      · have hzz : z = r.2.1 := hz2 g
        have hvv := hv1 g
        subst hzz
        refine x_aload_n (pc := 501) rfl d332_501 ?_
        refine x_iconst (pc := 502) d332_502 ?_
        refine m_lald (pc := 503) (by omega) (by decide +kernel) d332_503 ?_
        refine x_iload (pc := 504) rfl d332_504 ?_
        refine x_i2lA (pc := 506) d332_506 ?_
        rw [hvv]
        refine x_lsame (pc := 507) (tgt := 513) (tI_r _) d332_507 d332_508 (by decide) ?_
        refine x_goto (pc := 513) (tgt := 3032) d332_513 (by decide) ?_
        refine x_mask [true, true, true, true, true, false, false, false, false] ?_
        dsimp only [mask]
        exact hn K2 v1 _ hC2 hR2 hG
    · obtain ⟨z, K2, e, _⟩ := h9; cases e
  · obtain ⟨K1, v1, e, _⟩ := h9; cases e
theorem cs6 {k n : Nat} (hl : l.1.stackTraces = false) (hq : 193 ≤ q) (hC : CREL K S) (hR : RREL K S) (hS : GOK S) {i : Int} (i0 : 0 ≤ i) (i6 : i + 6 ≤ l.2.1) (hlen : (l.2.1 : Int) ≤ 2147483647) {Q : OO → Prop} (hn : ∀ (K2 : Nat → Int → Int) (v2 : Int) (S2 : GS), CREL K2 S2 → RREL K2 S2 → GOK S2 → Ex l 332 k n 3032 (lawL i) [] (mm q K2 v2 false) Q) : Ex l 332 (1 + k) (6 + n) 586 (lawL i) [] (mm q K v false) Q := by
  unfold lawL at hn ⊢
  have w1 := cm82 (q := q) (v := v) (E := fun _ => 0) hl (by omega) hC 
  have w2 : ∀ (K1 : Nat → Int → Int), RREL K1 S → CT l 228 [.ref 181] (mm q K1 v false) 0 0 (RQ q v false K1 (0, gA S 0 7, S)) := fun K1 hR1 => rm228 hl hq hR1 hS 
  have h0 : ((0, gA S 0 7, S) : Int × Int × GS).1 = 0 := rfl
  have hG : GOK ((0, gA S 0 7, S) : Int × Int × GS).2.2 := hS
  generalize ((0, gA S 0 7, S) : Int × Int × GS) = r at w1 w2 h0 hG
  refine x_aload_n (pc := 586) rfl d332_586 ?_
  refine x_callV (k := k) (n := n) (pc := 587) c332_168 w1 (ko0 (by omega)) rfl rfl (Nat.le_of_ble_eq_true rfl) (by decide +kernel) (by decide +kernel) d332_587 (Or.inr fun v9 τ h9 => ?_) (fun v9 τ h9 => ?_) (fun E9 τ h9 _ => ?_)
  · rcases h9 with ⟨_, K1, e, _⟩ | ⟨_, K1, e, _⟩
    · cases e; rfl
    · cases e
  · rcases h9 with ⟨_, K1, e, hC1, hk1⟩ | ⟨_, K1, e, _⟩
    · cases e
      show Ex l 332 k n 590 _ [.int (iI r.2.1)] _ _
      refine x_aload_n (pc := 590) rfl d332_590 ?_
      refine ex_00 (x_callV (pc := 591) c332_171 (w2 K1 (hR.ge hk1)) (ko181 (by omega)) rfl rfl (Nat.le_of_ble_eq_true rfl) (by decide +kernel) (by decide +kernel) d332_591 (Or.inr fun v9 τ h9 => ?_) (fun v9 τ h9 => ?_) (fun E9 τ h9 _ => ?_))
      · obtain ⟨z, K2, e, _⟩ := h9; cases e; rfl
      · obtain ⟨z, K2, e, h6, hz2, hR2, hk2⟩ := h9
        cases e
        have hC2 : CREL K2 r.2.2 := hC1.lt fun a ha => hk2 a (Or.inl ha)
        have hzz : z = r.2.1 := hz2 h0
        subst hzz
        show Ex l 332 k n 594 _ [.int (iI r.2.1), .int (iI r.2.1)] _ _
        refine x_same (pc := 594) (tgt := 3032) d332_594 (by decide) ?_
        exact hn K2 v _ hC2 hR2 hG
      · obtain ⟨z, K2, e, _⟩ := h9; cases e
    · cases e
  · rcases h9 with ⟨_, K1, e, _⟩ | ⟨g9, K1, e, _⟩
    · cases e
    · exact absurd h0 g9
theorem cs10 {k n : Nat} (hl : l.1.stackTraces = false) (hq : 193 ≤ q) (hC : CREL K S) (hR : RREL K S) (hS : GOK S) {i : Int} (i0 : 0 ≤ i) (i6 : i + 6 ≤ l.2.1) (hlen : (l.2.1 : Int) ≤ 2147483647) {Q : OO → Prop} (hn : ∀ (K2 : Nat → Int → Int) (v2 : Int) (S2 : GS), CREL K2 S2 → RREL K2 S2 → GOK S2 → Ex l 332 k n 3032 (lawL i) [] (mm q K2 v2 false) Q) : Ex l 332 (1 + k) (6 + n) 638 (lawL i) [] (mm q K v false) Q := by
  unfold lawL at hn ⊢
  have hcd : (oAsk S (isT (scV l (i + 1))) (b01 (chewA (gA S) (scV l (i + 1))))).1 = 0 ∨ (oAsk S (isT (scV l (i + 1))) (b01 (chewA (gA S) (scV l (i + 1))))).1 = 1 := by
    unfold oAsk
    repeat (first | exact Or.inl rfl | exact Or.inr rfl | split)
  have hz : (oAsk S (isT (scV l (i + 1))) (b01 (chewA (gA S) (scV l (i + 1))))).1 = 0 → (oAsk S (isT (scV l (i + 1))) (b01 (chewA (gA S) (scV l (i + 1))))).2.1 = 0 ∨ (oAsk S (isT (scV l (i + 1))) (b01 (chewA (gA S) (scV l (i + 1))))).2.1 = 1 := by
    unfold oAsk
    repeat (first | exact fun _ => b01_or _ | exact fun z => absurd (show (1 : Int) = 0 from z) (by decide) | exact fun z => absurd (show (2 : Int) = 0 from z) (by decide) | split)
  have hG : GOK (oAsk S (isT (scV l (i + 1))) (b01 (chewA (gA S) (scV l (i + 1))))).2.2 := gok_ask hS
  have w1 := wr298 (q := q) (v := v) hl hq hC hS (scV_r l (i + 1))
  have w2 : ∀ (K1 : Nat → Int → Int) (v1 : Int), RREL K1 S → CT l 232 [.ref 181, .int (iI (scV l (i + 1)))] (mm q K1 v1 false) 0 0 (RQ q v1 false K1 (oAsk S (isT (scV l (i + 1))) (b01 (chewA (gA S) (scV l (i + 1)))))) := fun K1 v1 hR1 => rm232 hl hq hR1 hS (scV_r l (i + 1))
  generalize (oAsk S (isT (scV l (i + 1))) (b01 (chewA (gA S) (scV l (i + 1))))) = r at w1 w2 hcd hz hG
  refine x_aload_n (pc := 638) rfl d332_638 ?_
  refine x_aload_n (pc := 639) rfl d332_639 ?_
  refine x_iload (pc := 640) rfl d332_640 ?_
  refine x_iconst (pc := 642) d332_642 ?_
  refine x_iadd (pc := 643) d332_643 ?_
  refine x_sldR (pc := 644) (by omega) (by omega) (by omega) d332_644 ?_
  refine x_aload_n (pc := 645) rfl d332_645 ?_
  refine x_callSW (k := k) (n := n) (pc := 646) c332_184 w1 rfl rfl (Nat.le_of_ble_eq_true rfl) (by decide +kernel) (by decide +kernel) d332_646 (Or.inr fun v9 τ h9 => ?_) (fun v9 τ h9 => ?_) (fun E9 τ h9 _ => ?_)
  · obtain ⟨K1, v1, e, _⟩ := h9; cases e; rfl
  · obtain ⟨K1, v1, e, hC1, hk1, hv1⟩ := h9
    cases e
    show Ex l 332 k n 649 _ [.int (iI r.1)] _ _
    refine x_istore (pc := 649) (by decide +kernel) rfl d332_649 ?_
    dsimp only [List.set]
    refine x_aload_n (pc := 651) rfl d332_651 ?_
    refine x_aload_n (pc := 652) rfl d332_652 ?_
    refine x_iload (pc := 653) rfl d332_653 ?_
    refine x_iconst (pc := 655) d332_655 ?_
    refine x_iadd (pc := 656) d332_656 ?_
    refine x_sldR (pc := 657) (by omega) (by omega) (by omega) d332_657 ?_
    refine ex_00 (x_callV (pc := 658) c332_186 (w2 K1 v1 (hR.ge hk1)) (ko181 (by omega)) rfl rfl (Nat.le_of_ble_eq_true rfl) (by decide +kernel) (by decide +kernel) d332_658 (Or.inr fun v9 τ h9 => ?_) (fun v9 τ h9 => ?_) (fun E9 τ h9 _ => ?_))
    · obtain ⟨z, K2, e, _⟩ := h9; cases e; rfl
    · obtain ⟨z, K2, e, h6, hz2, hR2, hk2⟩ := h9
      cases e
      have hC2 : CREL K2 r.2.2 := hC1.lt fun a ha => hk2 a (Or.inl ha)
      show Ex l 332 k n 661 _ [.int (iI z)] _ _
      refine x_istore (pc := 661) (by decide +kernel) rfl d332_661 ?_
      dsimp only [List.set]
      refine x_aload_n (pc := 663) rfl d332_663 ?_
      refine x_cVs (pc := 664) c332_146 (rt_thrown hl hq h6) (ko181 (by omega)) rfl rfl (Nat.le_of_ble_eq_true rfl) (by decide +kernel) (by decide +kernel) rfl d332_664 ?_
      refine x_iload (pc := 667) rfl d332_667 ?_
      refine x_same (pc := 669) (tgt := 674) d332_669 (by decide) ?_
      refine x_iload (pc := 674) rfl d332_674 ?_
      refine x_if_ne (pc := 676) (tgt := 698) ⟨by omega, by omega⟩ d332_676 (by decide) (fun g => ?_) (fun g => ?_)
      · refine x_goto (pc := 698) (tgt := 3032) d332_698 (by decide) ?_
        refine x_mask [true, true, true, true, true, false, false, false, false] ?_
        dsimp only [mask]
        exact hn K2 v1 _ hC2 hR2 hG
      · have hzz : z = r.2.1 := hz2 g
        have hvv := hv1 g
        subst hzz
        refine x_aload_n (pc := 679) rfl d332_679 ?_
        refine x_iconst (pc := 680) d332_680 ?_
        refine m_lald (pc := 681) (by omega) (by decide +kernel) d332_681 ?_
        refine x_iload (pc := 682) rfl d332_682 ?_
        have hzb := hz g
        refine x_if_eq (pc := 684) (tgt := 691) ⟨by omega, by omega⟩ d332_684 (by decide) (fun g2 => ?_) (fun g2 => ?_)
        · refine x_lconst (pc := 691) (z := 0) (by decide) d332_691 ?_
          have hv0 : v1 = 0 := by rw [hvv, show r.2.1 = 0 from by omega]; rfl
          subst hv0
          refine x_lsame (pc := 692) (tgt := 698) (by decide) d332_692 d332_693 (by decide) ?_
          refine x_goto (pc := 698) (tgt := 3032) d332_698 (by decide) ?_
          refine x_mask [true, true, true, true, true, false, false, false, false] ?_
          dsimp only [mask]
          exact hn K2 _ _ hC2 hR2 hG
        · refine x_lconst (pc := 687) (z := 1) (by decide) d332_687 ?_
          refine x_goto (pc := 688) (tgt := 692) d332_688 (by decide) ?_
          have hv0 : v1 = 1 := by rw [hvv, show r.2.1 = 1 from by omega]; rfl
          subst hv0
          refine x_lsame (pc := 692) (tgt := 698) (by decide) d332_692 d332_693 (by decide) ?_
          refine x_goto (pc := 698) (tgt := 3032) d332_698 (by decide) ?_
          refine x_mask [true, true, true, true, true, false, false, false, false] ?_
          dsimp only [mask]
          exact hn K2 _ _ hC2 hR2 hG
    · obtain ⟨z, K2, e, _⟩ := h9; cases e
  · obtain ⟨K1, v1, e, _⟩ := h9; cases e
theorem cs20 {k n : Nat} (hl : l.1.stackTraces = false) (hq : 193 ≤ q) (hC : CREL K S) (hR : RREL K S) (hS : GOK S) {i : Int} (i0 : 0 ≤ i) (i6 : i + 6 ≤ l.2.1) (hlen : (l.2.1 : Int) ≤ 2147483647) {Q : OO → Prop} (hn : ∀ (K2 : Nat → Int → Int) (v2 : Int) (S2 : GS), CREL K2 S2 → RREL K2 S2 → GOK S2 → Ex l 332 k n 3032 (lawL i) [] (mm q K2 v2 false) Q) : Ex l 332 (1 + k) (6 + n) 1076 (lawL i) [] (mm q K v false) Q := by
  unfold lawL at hn ⊢
  have hcd : (oAsk S (isF S (scV l (i + 1))) (if 0 ≤ (scV l (i + 2)) ∧ (scV l (i + 2)) < gA S 6 (scV l (i + 1)) then gA S 10 (6 * (scV l (i + 1)) + (scV l (i + 2))) else -1)).1 = 0 ∨ (oAsk S (isF S (scV l (i + 1))) (if 0 ≤ (scV l (i + 2)) ∧ (scV l (i + 2)) < gA S 6 (scV l (i + 1)) then gA S 10 (6 * (scV l (i + 1)) + (scV l (i + 2))) else -1)).1 = 1 := by
    unfold oAsk
    repeat (first | exact Or.inl rfl | exact Or.inr rfl | split)
  have hG : GOK (oAsk S (isF S (scV l (i + 1))) (if 0 ≤ (scV l (i + 2)) ∧ (scV l (i + 2)) < gA S 6 (scV l (i + 1)) then gA S 10 (6 * (scV l (i + 1)) + (scV l (i + 2))) else -1)).2.2 := gok_ask hS
  have w1 := wr305 (q := q) (v := v) hl hq hC hS (scV_r l (i + 1)) (scV_r l (i + 2))
  have w2 : ∀ (K1 : Nat → Int → Int) (v1 : Int), RREL K1 S → CT l 242 [.ref 181, .int (iI (scV l (i + 1))), .int (iI (scV l (i + 2)))] (mm q K1 v1 false) 0 0 (RQ q v1 false K1 (oAsk S (isF S (scV l (i + 1))) (if 0 ≤ (scV l (i + 2)) ∧ (scV l (i + 2)) < gA S 6 (scV l (i + 1)) then gA S 10 (6 * (scV l (i + 1)) + (scV l (i + 2))) else -1))) := fun K1 v1 hR1 => rm242 hl hq hR1 hS (scV_r l (i + 1)) (scV_r l (i + 2))
  generalize (oAsk S (isF S (scV l (i + 1))) (if 0 ≤ (scV l (i + 2)) ∧ (scV l (i + 2)) < gA S 6 (scV l (i + 1)) then gA S 10 (6 * (scV l (i + 1)) + (scV l (i + 2))) else -1)) = r at w1 w2 hcd hG
  refine x_aload_n (pc := 1076) rfl d332_1076 ?_
  refine x_aload_n (pc := 1077) rfl d332_1077 ?_
  refine x_iload (pc := 1078) rfl d332_1078 ?_
  refine x_iconst (pc := 1080) d332_1080 ?_
  refine x_iadd (pc := 1081) d332_1081 ?_
  refine x_sldR (pc := 1082) (by omega) (by omega) (by omega) d332_1082 ?_
  refine x_aload_n (pc := 1083) rfl d332_1083 ?_
  refine x_iload (pc := 1084) rfl d332_1084 ?_
  refine x_iconst (pc := 1086) d332_1086 ?_
  refine x_iadd (pc := 1087) d332_1087 ?_
  refine x_sldR (pc := 1088) (by omega) (by omega) (by omega) d332_1088 ?_
  refine x_aload_n (pc := 1089) rfl d332_1089 ?_
  refine x_callSW (k := k) (n := n) (pc := 1090) c332_217 w1 rfl rfl (Nat.le_of_ble_eq_true rfl) (by decide +kernel) (by decide +kernel) d332_1090 (Or.inr fun v9 τ h9 => ?_) (fun v9 τ h9 => ?_) (fun E9 τ h9 _ => ?_)
  · obtain ⟨K1, v1, e, _⟩ := h9; cases e; rfl
  · obtain ⟨K1, v1, e, hC1, hk1, hv1⟩ := h9
    cases e
    show Ex l 332 k n 1093 _ [.int (iI r.1)] _ _
    refine x_istore (pc := 1093) (by decide +kernel) rfl d332_1093 ?_
    dsimp only [List.set]
    refine x_aload_n (pc := 1095) rfl d332_1095 ?_
    refine x_aload_n (pc := 1096) rfl d332_1096 ?_
    refine x_iload (pc := 1097) rfl d332_1097 ?_
    refine x_iconst (pc := 1099) d332_1099 ?_
    refine x_iadd (pc := 1100) d332_1100 ?_
    refine x_sldR (pc := 1101) (by omega) (by omega) (by omega) d332_1101 ?_
    refine x_aload_n (pc := 1102) rfl d332_1102 ?_
    refine x_iload (pc := 1103) rfl d332_1103 ?_
    refine x_iconst (pc := 1105) d332_1105 ?_
    refine x_iadd (pc := 1106) d332_1106 ?_
    refine x_sldR (pc := 1107) (by omega) (by omega) (by omega) d332_1107 ?_
    refine ex_00 (x_callV (pc := 1108) c332_220 (w2 K1 v1 (hR.ge hk1)) (ko181 (by omega)) rfl rfl (Nat.le_of_ble_eq_true rfl) (by decide +kernel) (by decide +kernel) d332_1108 (Or.inr fun v9 τ h9 => ?_) (fun v9 τ h9 => ?_) (fun E9 τ h9 _ => ?_))
    · obtain ⟨z, K2, e, _⟩ := h9; cases e; rfl
    · obtain ⟨z, K2, e, h6, hz2, hR2, hk2⟩ := h9
      cases e
      have hC2 : CREL K2 r.2.2 := hC1.lt fun a ha => hk2 a (Or.inl ha)
      show Ex l 332 k n 1111 _ [.int (iI z)] _ _
      refine x_istore (pc := 1111) (by decide +kernel) rfl d332_1111 ?_
      dsimp only [List.set]
      refine x_aload_n (pc := 1113) rfl d332_1113 ?_
      refine x_cVs (pc := 1114) c332_146 (rt_thrown hl hq h6) (ko181 (by omega)) rfl rfl (Nat.le_of_ble_eq_true rfl) (by decide +kernel) (by decide +kernel) rfl d332_1114 ?_
      refine x_iload (pc := 1117) rfl d332_1117 ?_
      refine x_same (pc := 1119) (tgt := 1124) d332_1119 (by decide) ?_
      refine x_iload (pc := 1124) rfl d332_1124 ?_
      refine x_if_ne (pc := 1126) (tgt := 1141) ⟨by omega, by omega⟩ d332_1126 (by decide) (fun g => ?_) (fun g => ?_)
      · refine x_goto (pc := 1141) (tgt := 3032) d332_1141 (by decide) ?_
        refine x_mask [true, true, true, true, true, false, false, false, false] ?_
        dsimp only [mask]
        exact hn K2 v1 _ hC2 hR2 hG
      · have hzz : z = r.2.1 := hz2 g
        have hvv := hv1 g
        subst hzz
        refine x_aload_n (pc := 1129) rfl d332_1129 ?_
        refine x_iconst (pc := 1130) d332_1130 ?_
        refine m_lald (pc := 1131) (by omega) (by decide +kernel) d332_1131 ?_
        refine x_iload (pc := 1132) rfl d332_1132 ?_
        refine x_i2lA (pc := 1134) d332_1134 ?_
        rw [hvv]
        refine x_lsame (pc := 1135) (tgt := 1141) (tI_r _) d332_1135 d332_1136 (by decide) ?_
        refine x_goto (pc := 1141) (tgt := 3032) d332_1141 (by decide) ?_
        refine x_mask [true, true, true, true, true, false, false, false, false] ?_
        dsimp only [mask]
        exact hn K2 v1 _ hC2 hR2 hG
    · obtain ⟨z, K2, e, _⟩ := h9; cases e
  · obtain ⟨K1, v1, e, _⟩ := h9; cases e
theorem cs29 {k n : Nat} (hl : l.1.stackTraces = false) (hq : 193 ≤ q) (hC : CREL K S) (hR : RREL K S) (hS : GOK S) {i : Int} (i0 : 0 ≤ i) (i6 : i + 6 ≤ l.2.1) (hlen : (l.2.1 : Int) ≤ 2147483647) {Q : OO → Prop} (hn : ∀ (K2 : Nat → Int → Int) (v2 : Int) (S2 : GS), CREL K2 S2 → RREL K2 S2 → GOK S2 → Ex l 332 k n 3032 (lawL i) [] (mm q K2 v2 false) Q) : Ex l 332 (1 + k) (6 + n) 1587 (lawL i) [] (mm q K v false) Q := by
  unfold lawL at hn ⊢
  have hcd : (oAsk2 S (isF S (scV l (i + 1))) (isT (scV l (i + 3))) (if 0 ≤ (scV l (i + 2)) ∧ (scV l (i + 2)) < gA S 6 (scV l (i + 1)) * 8 then takB (gA S) (scV l (i + 1)) (scV l (i + 3)) (scV l (i + 2)) else -1)).1 = 0 ∨ (oAsk2 S (isF S (scV l (i + 1))) (isT (scV l (i + 3))) (if 0 ≤ (scV l (i + 2)) ∧ (scV l (i + 2)) < gA S 6 (scV l (i + 1)) * 8 then takB (gA S) (scV l (i + 1)) (scV l (i + 3)) (scV l (i + 2)) else -1)).1 = 1 ∨ (oAsk2 S (isF S (scV l (i + 1))) (isT (scV l (i + 3))) (if 0 ≤ (scV l (i + 2)) ∧ (scV l (i + 2)) < gA S 6 (scV l (i + 1)) * 8 then takB (gA S) (scV l (i + 1)) (scV l (i + 3)) (scV l (i + 2)) else -1)).1 = 2 := by
    unfold oAsk2
    repeat (first | exact Or.inl rfl | exact Or.inr (Or.inl rfl) | exact Or.inr (Or.inr rfl) | split)
  have hG : GOK (oAsk2 S (isF S (scV l (i + 1))) (isT (scV l (i + 3))) (if 0 ≤ (scV l (i + 2)) ∧ (scV l (i + 2)) < gA S 6 (scV l (i + 1)) * 8 then takB (gA S) (scV l (i + 1)) (scV l (i + 3)) (scV l (i + 2)) else -1)).2.2 := gok_ask2 hS
  have w1 := wr313 (q := q) (v := v) hl hq hC hS (scV_r l (i + 1)) (scV_r l (i + 2)) (scV_r l (i + 3))
  have w2 : ∀ (K1 : Nat → Int → Int) (v1 : Int), RREL K1 S → CT l 253 [.ref 181, .int (iI (scV l (i + 1))), .int (iI (scV l (i + 2))), .int (iI (scV l (i + 3)))] (mm q K1 v1 false) 0 0 (RQ q v1 false K1 (oAsk2 S (isF S (scV l (i + 1))) (isT (scV l (i + 3))) (if 0 ≤ (scV l (i + 2)) ∧ (scV l (i + 2)) < gA S 6 (scV l (i + 1)) * 8 then takB (gA S) (scV l (i + 1)) (scV l (i + 3)) (scV l (i + 2)) else -1))) := fun K1 v1 hR1 => rm253 hl hq hR1 hS (scV_r l (i + 1)) (scV_r l (i + 2)) (scV_r l (i + 3))
  generalize (oAsk2 S (isF S (scV l (i + 1))) (isT (scV l (i + 3))) (if 0 ≤ (scV l (i + 2)) ∧ (scV l (i + 2)) < gA S 6 (scV l (i + 1)) * 8 then takB (gA S) (scV l (i + 1)) (scV l (i + 3)) (scV l (i + 2)) else -1)) = r at w1 w2 hcd hG
  refine x_aload_n (pc := 1587) rfl d332_1587 ?_
  refine x_aload_n (pc := 1588) rfl d332_1588 ?_
  refine x_iload (pc := 1589) rfl d332_1589 ?_
  refine x_iconst (pc := 1591) d332_1591 ?_
  refine x_iadd (pc := 1592) d332_1592 ?_
  refine x_sldR (pc := 1593) (by omega) (by omega) (by omega) d332_1593 ?_
  refine x_aload_n (pc := 1594) rfl d332_1594 ?_
  refine x_iload (pc := 1595) rfl d332_1595 ?_
  refine x_iconst (pc := 1597) d332_1597 ?_
  refine x_iadd (pc := 1598) d332_1598 ?_
  refine x_sldR (pc := 1599) (by omega) (by omega) (by omega) d332_1599 ?_
  refine x_aload_n (pc := 1600) rfl d332_1600 ?_
  refine x_iload (pc := 1601) rfl d332_1601 ?_
  refine x_iconst (pc := 1603) d332_1603 ?_
  refine x_iadd (pc := 1604) d332_1604 ?_
  refine x_sldR (pc := 1605) (by omega) (by omega) (by omega) d332_1605 ?_
  refine x_aload_n (pc := 1606) rfl d332_1606 ?_
  refine x_callSW (k := k) (n := n) (pc := 1607) c332_246 w1 rfl rfl (Nat.le_of_ble_eq_true rfl) (by decide +kernel) (by decide +kernel) d332_1607 (Or.inr fun v9 τ h9 => ?_) (fun v9 τ h9 => ?_) (fun E9 τ h9 _ => ?_)
  · obtain ⟨K1, v1, e, _⟩ := h9; cases e; rfl
  · obtain ⟨K1, v1, e, hC1, hk1, hv1⟩ := h9
    cases e
    show Ex l 332 k n 1610 _ [.int (iI r.1)] _ _
    refine x_istore (pc := 1610) (by decide +kernel) rfl d332_1610 ?_
    dsimp only [List.set]
    refine x_aload_n (pc := 1612) rfl d332_1612 ?_
    refine x_aload_n (pc := 1613) rfl d332_1613 ?_
    refine x_iload (pc := 1614) rfl d332_1614 ?_
    refine x_iconst (pc := 1616) d332_1616 ?_
    refine x_iadd (pc := 1617) d332_1617 ?_
    refine x_sldR (pc := 1618) (by omega) (by omega) (by omega) d332_1618 ?_
    refine x_aload_n (pc := 1619) rfl d332_1619 ?_
    refine x_iload (pc := 1620) rfl d332_1620 ?_
    refine x_iconst (pc := 1622) d332_1622 ?_
    refine x_iadd (pc := 1623) d332_1623 ?_
    refine x_sldR (pc := 1624) (by omega) (by omega) (by omega) d332_1624 ?_
    refine x_aload_n (pc := 1625) rfl d332_1625 ?_
    refine x_iload (pc := 1626) rfl d332_1626 ?_
    refine x_iconst (pc := 1628) d332_1628 ?_
    refine x_iadd (pc := 1629) d332_1629 ?_
    refine x_sldR (pc := 1630) (by omega) (by omega) (by omega) d332_1630 ?_
    refine ex_00 (x_callV (pc := 1631) c332_249 (w2 K1 v1 (hR.ge hk1)) (ko181 (by omega)) rfl rfl (Nat.le_of_ble_eq_true rfl) (by decide +kernel) (by decide +kernel) d332_1631 (Or.inr fun v9 τ h9 => ?_) (fun v9 τ h9 => ?_) (fun E9 τ h9 _ => ?_))
    · obtain ⟨z, K2, e, _⟩ := h9; cases e; rfl
    · obtain ⟨z, K2, e, h6, hz2, hR2, hk2⟩ := h9
      cases e
      have hC2 : CREL K2 r.2.2 := hC1.lt fun a ha => hk2 a (Or.inl ha)
      show Ex l 332 k n 1634 _ [.int (iI z)] _ _
      refine x_istore (pc := 1634) (by decide +kernel) rfl d332_1634 ?_
      dsimp only [List.set]
      refine x_aload_n (pc := 1636) rfl d332_1636 ?_
      refine x_cVs (pc := 1637) c332_146 (rt_thrown hl hq h6) (ko181 (by omega)) rfl rfl (Nat.le_of_ble_eq_true rfl) (by decide +kernel) (by decide +kernel) rfl d332_1637 ?_
      refine x_iload (pc := 1640) rfl d332_1640 ?_
      refine x_same (pc := 1642) (tgt := 1647) d332_1642 (by decide) ?_
      refine x_iload (pc := 1647) rfl d332_1647 ?_
      refine x_if_ne (pc := 1649) (tgt := 1664) ⟨by omega, by omega⟩ d332_1649 (by decide) (fun g => ?_) (fun g => ?_)
      · refine x_goto (pc := 1664) (tgt := 3032) d332_1664 (by decide) ?_
        refine x_mask [true, true, true, true, true, false, false, false, false] ?_
        dsimp only [mask]
        exact hn K2 v1 _ hC2 hR2 hG
      · have hzz : z = r.2.1 := hz2 g
        have hvv := hv1 g
        subst hzz
        refine x_aload_n (pc := 1652) rfl d332_1652 ?_
        refine x_iconst (pc := 1653) d332_1653 ?_
        refine m_lald (pc := 1654) (by omega) (by decide +kernel) d332_1654 ?_
        refine x_iload (pc := 1655) rfl d332_1655 ?_
        refine x_i2lA (pc := 1657) d332_1657 ?_
        rw [hvv]
        refine x_lsame (pc := 1658) (tgt := 1664) (tI_r _) d332_1658 d332_1659 (by decide) ?_
        refine x_goto (pc := 1664) (tgt := 3032) d332_1664 (by decide) ?_
        refine x_mask [true, true, true, true, true, false, false, false, false] ?_
        dsimp only [mask]
        exact hn K2 v1 _ hC2 hR2 hG
    · obtain ⟨z, K2, e, _⟩ := h9; cases e
  · obtain ⟨K1, v1, e, _⟩ := h9; cases e
theorem cs60 {k n : Nat} (hl : l.1.stackTraces = false) (hq : 193 ≤ q) (hC : CREL K S) (hR : RREL K S) (hS : GOK S) {i : Int} (i0 : 0 ≤ i) (i6 : i + 6 ≤ l.2.1) (hlen : (l.2.1 : Int) ≤ 2147483647) {Q : OO → Prop} (hn : ∀ (K2 : Nat → Int → Int) (v2 : Int) (S2 : GS), CREL K2 S2 → RREL K2 S2 → GOK S2 → Ex l 332 k n 3032 (lawL i) [] (mm q K2 v2 false) Q) : Ex l 332 (1 + k) (6 + n) 2882 (lawL i) [] (mm q K v false) Q := by
  unfold lawL at hn ⊢
  have w1 := cm136 (q := q) (v := v) (E := fun _ => 0) hl (by omega) hC hS 
  have w2 : ∀ (K1 : Nat → Int → Int), RREL K1 S → CT l 289 [.ref 181] (mm q K1 v false) 0 0 (RQ q v false K1 (oSave S)) := fun K1 hR1 => rm289 hl hq hR1 hS 
  have h0 : ((oSave S) : Int × Int × GS).1 = 0 := rfl
  have hG : GOK ((oSave S) : Int × Int × GS).2.2 := gok_save hS
  generalize ((oSave S) : Int × Int × GS) = r at w1 w2 h0 hG
  refine x_aload_n (pc := 2882) rfl d332_2882 ?_
  refine x_callV (k := k) (n := n) (pc := 2883) c332_356 w1 (ko0 (by omega)) rfl rfl (Nat.le_of_ble_eq_true rfl) (by decide +kernel) (by decide +kernel) d332_2883 (Or.inr fun v9 τ h9 => ?_) (fun v9 τ h9 => ?_) (fun E9 τ h9 _ => ?_)
  · rcases h9 with ⟨_, K1, e, _⟩ | ⟨_, K1, e, _⟩
    · cases e; rfl
    · cases e
  · rcases h9 with ⟨_, K1, e, hC1, hk1⟩ | ⟨_, K1, e, _⟩
    · cases e
      show Ex l 332 k n 2886 _ [.int (iI r.2.1)] _ _
      refine x_aload_n (pc := 2886) rfl d332_2886 ?_
      refine ex_00 (x_callV (pc := 2887) c332_359 (w2 K1 (hR.ge hk1)) (ko181 (by omega)) rfl rfl (Nat.le_of_ble_eq_true rfl) (by decide +kernel) (by decide +kernel) d332_2887 (Or.inr fun v9 τ h9 => ?_) (fun v9 τ h9 => ?_) (fun E9 τ h9 _ => ?_))
      · obtain ⟨z, K2, e, _⟩ := h9; cases e; rfl
      · obtain ⟨z, K2, e, h6, hz2, hR2, hk2⟩ := h9
        cases e
        have hC2 : CREL K2 r.2.2 := hC1.lt fun a ha => hk2 a (Or.inl ha)
        have hzz : z = r.2.1 := hz2 h0
        subst hzz
        show Ex l 332 k n 2890 _ [.int (iI r.2.1), .int (iI r.2.1)] _ _
        refine x_same (pc := 2890) (tgt := 3032) d332_2890 (by decide) ?_
        exact hn K2 v _ hC2 hR2 hG
      · obtain ⟨z, K2, e, _⟩ := h9; cases e
    · cases e
  · rcases h9 with ⟨_, K1, e, _⟩ | ⟨g9, K1, e, _⟩
    · cases e
    · exact absurd h0 g9
theorem cs63 {k n : Nat} (hl : l.1.stackTraces = false) (hq : 193 ≤ q) (hC : CREL K S) (hR : RREL K S) (hS : GOK S) {i : Int} (i0 : 0 ≤ i) (i6 : i + 6 ≤ l.2.1) (hlen : (l.2.1 : Int) ≤ 2147483647) {Q : OO → Prop} (hn : ∀ (K2 : Nat → Int → Int) (v2 : Int) (S2 : GS), CREL K2 S2 → RREL K2 S2 → GOK S2 → Ex l 332 k n 3032 (lawL i) [] (mm q K2 v2 false) Q) : Ex l 332 (1 + k) (6 + n) 3007 (lawL i) [] (mm q K v false) Q := by
  unfold lawL at hn ⊢
  have w1 := cm139 (q := q) (v := v) (E := fun _ => 0) hl (by omega) hC hS (scV_r l (i + 1))
  have w2 : ∀ (K1 : Nat → Int → Int), RREL K1 S → CT l 293 [.ref 181, .int (iI (scV l (i + 1)))] (mm q K1 v false) 0 0 (RQ q v false K1 (0, atT (gO S) (gM S) (scV l (i + 1)), S)) := fun K1 hR1 => rm293 hl hq hR1 hS (scV_r l (i + 1))
  have h0 : ((0, atT (gO S) (gM S) (scV l (i + 1)), S) : Int × Int × GS).1 = 0 := rfl
  have hG : GOK ((0, atT (gO S) (gM S) (scV l (i + 1)), S) : Int × Int × GS).2.2 := hS
  generalize ((0, atT (gO S) (gM S) (scV l (i + 1)), S) : Int × Int × GS) = r at w1 w2 h0 hG
  refine x_aload_n (pc := 3007) rfl d332_3007 ?_
  refine x_aload_n (pc := 3008) rfl d332_3008 ?_
  refine x_iload (pc := 3009) rfl d332_3009 ?_
  refine x_iconst (pc := 3011) d332_3011 ?_
  refine x_iadd (pc := 3012) d332_3012 ?_
  refine x_sldR (pc := 3013) (by omega) (by omega) (by omega) d332_3013 ?_
  refine x_callV (k := k) (n := n) (pc := 3014) c332_366 w1 (ko0 (by omega)) rfl rfl (Nat.le_of_ble_eq_true rfl) (by decide +kernel) (by decide +kernel) d332_3014 (Or.inr fun v9 τ h9 => ?_) (fun v9 τ h9 => ?_) (fun E9 τ h9 _ => ?_)
  · rcases h9 with ⟨_, K1, e, _⟩ | ⟨_, K1, e, _⟩
    · cases e; rfl
    · cases e
  · rcases h9 with ⟨_, K1, e, hC1, hk1⟩ | ⟨_, K1, e, _⟩
    · cases e
      show Ex l 332 k n 3017 _ [.int (iI r.2.1)] _ _
      refine x_aload_n (pc := 3017) rfl d332_3017 ?_
      refine x_aload_n (pc := 3018) rfl d332_3018 ?_
      refine x_iload (pc := 3019) rfl d332_3019 ?_
      refine x_iconst (pc := 3021) d332_3021 ?_
      refine x_iadd (pc := 3022) d332_3022 ?_
      refine x_sldR (pc := 3023) (by omega) (by omega) (by omega) d332_3023 ?_
      refine ex_00 (x_callV (pc := 3024) c332_369 (w2 K1 (hR.ge hk1)) (ko181 (by omega)) rfl rfl (Nat.le_of_ble_eq_true rfl) (by decide +kernel) (by decide +kernel) d332_3024 (Or.inr fun v9 τ h9 => ?_) (fun v9 τ h9 => ?_) (fun E9 τ h9 _ => ?_))
      · obtain ⟨z, K2, e, _⟩ := h9; cases e; rfl
      · obtain ⟨z, K2, e, h6, hz2, hR2, hk2⟩ := h9
        cases e
        have hC2 : CREL K2 r.2.2 := hC1.lt fun a ha => hk2 a (Or.inl ha)
        have hzz : z = r.2.1 := hz2 h0
        subst hzz
        show Ex l 332 k n 3027 _ [.int (iI r.2.1), .int (iI r.2.1)] _ _
        refine x_same (pc := 3027) (tgt := 3032) d332_3027 (by decide) ?_
        exact hn K2 v _ hC2 hR2 hG
      · obtain ⟨z, K2, e, _⟩ := h9; cases e
    · cases e
  · rcases h9 with ⟨_, K1, e, _⟩ | ⟨g9, K1, e, _⟩
    · cases e
    · exact absurd h0 g9
end Law
