/-! ===== a step of the law's ===== -/
section Step
variable {l : LX} {v i w x y z : Int} {Q : OO → Prop} {B : Nat}
theorem st_ok (hl : l.1.stackTraces = false) {A A2 : AV} {S : GS} (hS : GOK S) (hL : gL S = 0) (hA : gA S = A) (hPi : PI A) (hc : A 0 7 ≤ 500000) (hA2 : A2 = actA w x y z A) {I : Nat → Int → Int} (hI : CREL I S) (x0 : 0 ≤ x) (x1 : x ≤ 99999) (y0 : 0 ≤ y) (y1 : y ≤ 99999) (z0 : 0 ≤ z) (z1 : z ≤ 99999) (w0 : 0 ≤ w) (w1 : w ≤ 9)
    (kk : ∀ (S2 : GS) (K : Nat → Int → Int), GOK S2 → gL S2 = 0 → gA S2 = A2 → CREL K S2 → Ex l 332 B (6 * B) 413 [some (.ref scr), none, none, some (.ref 0), some (.int (iI i)), some (.int (iI w)), some (.int (iI x)), some (.int (iI y)), some (.int (iI z)), some (.long (lL (sumA A))), none, some (.long (lL (sumA A2))), none] [] (mm 181 K v false) Q) :
    Ex l 332 (B + 9600) (6 * (B + 9600)) 315 [some (.ref scr), none, none, some (.ref 0), some (.int (iI i)), some (.int (iI w)), some (.int (iI x)), some (.int (iI y)), some (.int (iI z)), none, none, none, none] [] (mm 181 I v false) Q := by
  have hap := act_pi (w := w) (x := x) (y := y) (z := z) (A := A) (c := cB) (by rw [← hA]; exact hS.1) hPi x0 x1 z0
  rw [← hA2] at hap
  refine ex_le (B' := (B + 8400) + 1200) (by omega) rfl ?_
  refine x_aload_n (pc := 315) rfl d332_315 ?_
  refine x_qSs (pc := 316) (As := [.ref 0]) c332_298 (ct_sum hl hS hI) rfl rfl (Nat.le_of_ble_eq_true rfl) (by decide +kernel) (by decide +kernel) d332_316 (fun K1 hK1 => ?_)
  rw [hA]
  refine x_lstore (pc := 319) (by decide +kernel) rfl d332_319 ?_
  dsimp only [List.set]
  refine ex_le (B' := (B + 8300) + 41) (by omega) rfl ?_
  refine x_aload_n (pc := 321) rfl d332_321 ?_
  refine x_iload (pc := 322) rfl d332_322 ?_
  refine x_iload (pc := 324) rfl d332_324 ?_
  refine x_iload (pc := 326) rfl d332_326 ?_
  refine x_iload (pc := 328) rfl d332_328 ?_
  refine x_qSs (pc := 330) (As := [.ref 0, .int (iI w), .int (iI x), .int (iI y), .int (iI z)]) (rest := []) c332_294 (ct_acts hl hS hL (by rw [hA]; exact hPi) (by rw [hA]; omega) hK1 x0 x1 y0 y1 z0 z1 w0 w1) rfl rfl (Nat.le_of_ble_eq_true rfl) (by decide +kernel) (by decide +kernel) d332_330 (fun K2 hK2 => ?_)
  refine x_if_eq (pc := 333) (tgt := 345) ⟨by omega, by omega⟩ d332_333 (by decide) (fun h => absurd h (by decide)) (fun _ => ?_)
  obtain ⟨S2, m1, m2, m3, m4, m5⟩ := hK2
  rw [hA, ← hA2] at m4
  rw [hA] at m5
  refine ex_le (B' := (B + 3700) + 4600) (by omega) rfl ?_
  refine x_aload_n (pc := 336) rfl d332_336 ?_
  refine x_iload (pc := 337) rfl d332_337 ?_
  refine x_qSs (pc := 339) (As := [.ref 0, .int (iI z)]) (rest := []) c332_291 (ct_std hl m2 (by rw [m4]; exact hap.1) m1 z0 z1 (by rw [m4]; omega)) rfl rfl (Nat.le_of_ble_eq_true rfl) (by decide +kernel) (by decide +kernel) d332_339 (fun K3 hK3 => ?_)
  refine x_if_ne (pc := 342) (tgt := 347) ⟨by omega, by omega⟩ d332_342 (by decide) (fun _ => ?_) (fun h => absurd h (by decide))
  refine ex_le (B' := (B + 2500) + 1200) (by omega) rfl ?_
  refine x_aload_n (pc := 347) rfl d332_347 ?_
  refine x_qSs (pc := 348) (As := [.ref 0]) c332_298 (ct_sum hl m2 hK3) rfl rfl (Nat.le_of_ble_eq_true rfl) (by decide +kernel) (by decide +kernel) d332_348 (fun K4 hK4 => ?_)
  rw [m4]
  refine x_lstore (pc := 351) (by decide +kernel) rfl d332_351 ?_
  dsimp only [List.set]
  refine x_lload (pc := 353) rfl d332_353 ?_
  refine x_lload (pc := 355) rfl d332_355 ?_
  refine x_lcN (pc := 357) (tgt := 364) d332_357 d332_358 (by decide) (fun hne => ?_) (fun _ => ?_)
  · have m6 : 1 ≤ gN S2 ∧ gH S2 (gN S2 - 1) = A := by
      rcases m5 with h | h
      · rw [m4] at h
        exact absurd (by rw [h]) hne
      · exact h
    have hgn := m2.2.1.1
    refine ex_le (B' := (B + 2499) + 1) (by omega) rfl ?_
    refine x_aload_n (pc := 364) rfl d332_364 ?_
    refine x_bipush (pc := 365) (by decide) d332_365 ?_
    refine x_iconst (pc := 367) d332_367 ?_
    refine x_iconst (pc := 368) d332_368 ?_
    refine x_iconst (pc := 369) d332_369 ?_
    refine x_qW (pc := 370) (As := [.ref 0, .int (iI 9), .int (iI 0), .int (iI 0), .int (iI 0)]) (rest := []) c332_240 (ct_undo hl m2 m3 m6.1 m6.2 hK4) rfl rfl (Nat.le_of_ble_eq_true rfl) (by decide +kernel) (by decide +kernel) d332_370 (fun K5 hK5 => ?_)
    obtain ⟨S3, p1, p2, p3, p4⟩ := hK5
    refine x_if_lt (pc := 373) (tgt := 411) ⟨by omega, by omega⟩ d332_373 (by decide) (fun h => by omega) (fun _ => ?_)
    refine ex_le (B' := (B + 1299) + 1200) (by omega) rfl ?_
    refine x_aload_n (pc := 376) rfl d332_376 ?_
    refine x_qSs (pc := 377) (As := [.ref 0]) c332_298 (ct_sum hl p2 p1) rfl rfl (Nat.le_of_ble_eq_true rfl) (by decide +kernel) (by decide +kernel) d332_377 (fun K6 hK6 => ?_)
    rw [p4]
    refine x_lload (pc := 380) rfl d332_380 ?_
    refine x_lcN (pc := 382) (tgt := 411) d332_382 d332_383 (by decide) (fun h => absurd rfl h) (fun _ => ?_)
    refine ex_le (B' := (B + 1258) + 41) (by omega) rfl ?_
    refine x_aload_n (pc := 386) rfl d332_386 ?_
    refine x_iload (pc := 387) rfl d332_387 ?_
    refine x_iload (pc := 389) rfl d332_389 ?_
    refine x_iload (pc := 391) rfl d332_391 ?_
    refine x_iload (pc := 393) rfl d332_393 ?_
    refine x_qSs (pc := 395) (As := [.ref 0, .int (iI w), .int (iI x), .int (iI y), .int (iI z)]) (rest := []) c332_294 (ct_acts hl p2 p3 (by rw [p4]; exact hPi) (by rw [p4]; omega) hK6 x0 x1 y0 y1 z0 z1 w0 w1) rfl rfl (Nat.le_of_ble_eq_true rfl) (by decide +kernel) (by decide +kernel) d332_395 (fun K7 hK7 => ?_)
    refine x_if_eq (pc := 398) (tgt := 411) ⟨by omega, by omega⟩ d332_398 (by decide) (fun h => absurd h (by decide)) (fun _ => ?_)
    obtain ⟨S4, u1, u2, u3, u4, u5⟩ := hK7
    rw [p4, ← hA2] at u4
    refine ex_le (B' := B + 1200) (by omega) rfl ?_
    refine x_aload_n (pc := 401) rfl d332_401 ?_
    refine x_qSs (pc := 402) (As := [.ref 0]) c332_298 (ct_sum hl u2 u1) rfl rfl (Nat.le_of_ble_eq_true rfl) (by decide +kernel) (by decide +kernel) d332_402 (fun K8 hK8 => ?_)
    rw [u4]
    refine x_lload (pc := 405) rfl d332_405 ?_
    refine x_lcQ (pc := 407) (tgt := 413) d332_407 d332_408 (by decide) (fun _ => ?_) (fun h => absurd rfl h)
    exact kk S4 K8 u2 u3 u4 hK8
  · refine ex_le (B' := B) (by omega) rfl ?_
    refine x_goto (pc := 361) (tgt := 413) d332_361 (by decide) ?_
    exact kk S2 K4 m2 m3 m4 hK4
end Step
