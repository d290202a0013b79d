/-! ===== the law's twelve steps ===== -/
section Loop
variable {l : LX} {v : Int} {Q : OO → Prop} {B : Nat}
theorem lp_law (hl : l.1.stackTraces = false) (hn : l.2.1 ≤ 2147483647) : ∀ (m : Nat) (i : Int) (S : GS) (I : Nat → Int → Int), m + i = 12 → 0 ≤ i → GOK S → gL S = 0 → PI (gA S) → gA S 0 7 ≤ 40000 + 36000 * i → CREL I S →
    (∀ (S2 : GS) (K : Nat → Int → Int), GOK S2 → gL S2 = 0 → PI (gA S2) → gA S2 0 7 ≤ 500000 → CREL K S2 → Ex l 332 B (6 * B) 419 [some (.ref scr), none, none, some (.ref 0), none, none, none, none, none, none, none, none, none] [] (mm 181 K v false) Q) →
    Ex l 332 (B + 9600 * m) (6 * (B + 9600 * m)) 253 [some (.ref scr), none, none, some (.ref 0), some (.int (iI i)), none, none, none, none, none, none, none, none] [] (mm 181 I v false) Q := by
  intro m
  induction m with
  | zero =>
    intro i S I hm i0 hS hL hP hc hI hk
    refine ex_le (B' := B) (by omega) rfl ?_
    refine x_iload (pc := 253) rfl d332_253 ?_
    refine x_bipush (pc := 255) (by decide) d332_255 ?_
    refine x_icmp_ge (pc := 257) (tgt := 419) ⟨by omega, by omega⟩ ⟨by omega, by omega⟩ d332_257 (by decide) (fun _ => ?_) (fun _ => by exfalso; omega)
    refine x_mask [true, true, true, true, false, true, true, true, true, true, true, true, true] ?_
    exact hk S I hS hL hP (by omega) hI
  | succ m ih =>
    intro i S I hm i0 hS hL hP hc hI hk
    refine ex_le (B' := B + 9600 * m + 9600) (by omega) rfl ?_
    refine x_iload (pc := 253) rfl d332_253 ?_
    refine x_bipush (pc := 255) (by decide) d332_255 ?_
    refine x_icmp_ge (pc := 257) (tgt := 419) ⟨by omega, by omega⟩ ⟨by omega, by omega⟩ d332_257 (by decide) (fun _ => by exfalso; omega) (fun _ => ?_)
    have q0 := celZ_r (l := l) (i := 20 + 4 * i)
    have q1 := celZ_r (l := l) (i := 21 + 4 * i)
    have q2 := celZ_r (l := l) (i := 22 + 4 * i)
    have q3 := celZ_r (l := l) (i := 23 + 4 * i)
    refine x_aload_n (pc := 260) rfl d332_260 ?_
    refine x_bipush (pc := 261) (by decide) d332_261 ?_
    refine x_iconst (pc := 263) d332_263 ?_
    refine x_iload (pc := 264) rfl d332_264 ?_
    refine x_imul (pc := 266) d332_266 ?_
    refine x_iadd (pc := 267) d332_267 ?_
    refine x_cSs (pc := 268) (As := [.ref scr, .int (iI (20 + 4 * i))]) (rest := []) c332_275 (ct_cell hl hn (by omega) (by omega)) rfl rfl (Nat.le_of_ble_eq_true rfl) (by decide +kernel) (by decide +kernel) (by decide +kernel) rfl d332_268 ?_
    refine x_bipush (pc := 271) (by decide) d332_271 ?_
    refine x_irem (pc := 273) (by omega) (by omega) (by omega) (by omega) d332_273 ?_
    refine x_istore (pc := 274) (by decide +kernel) rfl d332_274 ?_
    dsimp only [List.set]
    refine x_aload_n (pc := 276) rfl d332_276 ?_
    refine x_bipush (pc := 277) (by decide) d332_277 ?_
    refine x_iconst (pc := 279) d332_279 ?_
    refine x_iload (pc := 280) rfl d332_280 ?_
    refine x_imul (pc := 282) d332_282 ?_
    refine x_iadd (pc := 283) d332_283 ?_
    refine x_cSs (pc := 284) (As := [.ref scr, .int (iI (21 + 4 * i))]) (rest := []) c332_275 (ct_cell hl hn (by omega) (by omega)) rfl rfl (Nat.le_of_ble_eq_true rfl) (by decide +kernel) (by decide +kernel) (by decide +kernel) rfl d332_284 ?_
    refine x_istore (pc := 287) (by decide +kernel) rfl d332_287 ?_
    dsimp only [List.set]
    refine x_aload_n (pc := 289) rfl d332_289 ?_
    refine x_bipush (pc := 290) (by decide) d332_290 ?_
    refine x_iconst (pc := 292) d332_292 ?_
    refine x_iload (pc := 293) rfl d332_293 ?_
    refine x_imul (pc := 295) d332_295 ?_
    refine x_iadd (pc := 296) d332_296 ?_
    refine x_cSs (pc := 297) (As := [.ref scr, .int (iI (22 + 4 * i))]) (rest := []) c332_275 (ct_cell hl hn (by omega) (by omega)) rfl rfl (Nat.le_of_ble_eq_true rfl) (by decide +kernel) (by decide +kernel) (by decide +kernel) rfl d332_297 ?_
    refine x_istore (pc := 300) (by decide +kernel) rfl d332_300 ?_
    dsimp only [List.set]
    refine x_aload_n (pc := 302) rfl d332_302 ?_
    refine x_bipush (pc := 303) (by decide) d332_303 ?_
    refine x_iconst (pc := 305) d332_305 ?_
    refine x_iload (pc := 306) rfl d332_306 ?_
    refine x_imul (pc := 308) d332_308 ?_
    refine x_iadd (pc := 309) d332_309 ?_
    refine x_cSs (pc := 310) (As := [.ref scr, .int (iI (23 + 4 * i))]) (rest := []) c332_275 (ct_cell hl hn (by omega) (by omega)) rfl rfl (Nat.le_of_ble_eq_true rfl) (by decide +kernel) (by decide +kernel) (by decide +kernel) rfl d332_310 ?_
    refine x_istore (pc := 313) (by decide +kernel) rfl d332_313 ?_
    dsimp only [List.set]
    have hap := act_pi (w := celZ l (20 + 4 * i) % 10) (x := celZ l (21 + 4 * i)) (y := celZ l (22 + 4 * i)) (z := celZ l (23 + 4 * i)) hS.1 hP q1.1 q1.2 q3.1
    refine st_ok hl hS hL rfl hP (by omega) rfl hI q1.1 q1.2 q2.1 q2.2 q3.1 q3.2 (by omega) (by omega) (fun S2 K m1 m2 m3 m4 => ?_)
    refine x_iinc (pc := 413) (z := i) rfl (by decide +kernel) rfl d332_413 ?_
    dsimp only [List.set]
    refine x_goto (pc := 416) (tgt := 253) d332_416 (by decide) ?_
    refine x_mask [true, true, true, true, true, false, false, false, false, false, true, false, true] ?_
    dsimp only [mask]
    exact ih (i + 1) S2 K (by omega) (by omega) m1 m2 (by rw [m3]; exact hap.1) (by rw [m3]; omega) m4 hk
end Loop
