/-! ===== the law's acts ===== -/
section Acts
variable {l : LX} {v x y z : Int} {S : GS} {Q : OO → Prop}
theorem dd_do {as : List Value} {I : Nat → Int → Int} {E : Int → Nat} {r : Int × Int × GS} {w : Int} {A : AV} (h : CT l 304 as (mm 181 I v false) 1 6 (oE 181 v false (some (.int (iI (dzR E r)))) (fun K => CREL K r.2.2))) (e : r = oDo S w A) (hS : GOK S) (hg : GOK r.2.2) (hL : gL S = 0) : CT l 304 as (mm 181 I v false) 1 6 (oE 181 v false (some (.int (iI w))) (fun K => ∃ S2, CREL K S2 ∧ GOK S2 ∧ gL S2 = 0 ∧ gA S2 = A ∧ (1 ≤ gN S2 ∧ gH S2 (gN S2 - 1) = gA S))) := by
  rw [e] at h hg
  refine ct_mono h fun o ho => ?_
  obtain ⟨K, rfl, hK⟩ := ho
  exact ⟨K, rfl, _, hK, hg, hL, rfl, keep_h S _ _ hS⟩
theorem dd_no {as : List Value} {I : Nat → Int → Int} {E : Int → Nat} {r : Int × Int × GS} {c : Int} {e9 : Nat} (h : CT l 304 as (mm 181 I v false) 1 6 (oE 181 v false (some (.int (iI (dzR E r)))) (fun K => CREL K r.2.2))) (e : r = (c, 0, S)) (hc : c ≠ 0) (he : E c = e9) : CT l 304 as (mm 181 I v false) 1 6 (oE 181 v false (some (.int (iI (dzE e9)))) (fun K => CREL K S)) := by
  rw [e] at h
  have e2 : dzR E ((c, 0, S) : Int × Int × GS) = dzE e9 := by
    unfold dzR
    rw [if_neg hc, he]
  rw [e2] at h
  exact h
/-- the begin of every act -/
theorem act_0 (hl : l.1.stackTraces = false) (hS : GOK S) {I : Nat → Int → Int} (hI : CREL I S) (x0 : 0 ≤ x) (x1 : x ≤ 99999) {w : Int} {B : Nat} (hQ : ∀ I, CREL I S → Ex l 311 B (6 * B) 22 [some (.ref 0), none, some (.int (iI x)), some (.int (iI y)), some (.int (iI z)), some (.int (iI (gA S 0 5))), some (.int (iI (if gA S 0 5 = 0 then 0 else x % gA S 0 5))), none, none, none] [.int (iI w)] (mm 181 I v false) Q) : CT l 311 [.ref 0, .int (iI w), .int (iI x), .int (iI y), .int (iI z)] (mm 181 I v false) (B + 1) (6 * (B + 1)) Q := by
  have hms := hS.1.ms
  refine mkct2 hl (by decide) (Nat.le_of_ble_eq_true rfl) (L := [some (.ref 0), some (.int (iI w)), some (.int (iI x)), some (.int (iI y)), some (.int (iI z)), none, none, none, none, none]) rfl ?_
  refine x_aload_n (pc := 0) rfl d311_0 ?_
  refine x_qVs (pc := 1) c311_136 (qa (cm90 (E := fun _ => 0) hl (by decide) hI)) (ko0 (by omega)) rfl rfl (Nat.le_of_ble_eq_true rfl) (by decide +kernel) (by decide +kernel) d311_1 (fun I hI => ?_)
  refine x_istore (pc := 4) (by decide +kernel) rfl d311_4 ?_
  dsimp only [List.set]
  refine x_iload (pc := 6) rfl d311_6 ?_
  refine x_if_ne (pc := 8) (tgt := 15) ⟨by omega, by omega⟩ d311_8 (by decide) (fun g8 => ?_) (fun g8 => ?_)
  · refine x_iload_n (pc := 15) rfl d311_15 ?_
    refine x_iload (pc := 16) rfl d311_16 ?_
    refine x_irem (pc := 18) (by omega) (by omega) (by omega) (by omega) d311_18 ?_
    refine x_istore (pc := 19) (by decide +kernel) rfl d311_19 ?_
    dsimp only [List.set]
    refine x_iload_n (pc := 21) rfl d311_21 ?_
    refine x_mask [true, false, true, true, true, true, true, true, true, true] ?_
    dsimp only [mask]
    have := hQ I hI
    rw [if_neg (by omega)] at this
    exact this
  · refine x_iconst (pc := 11) d311_11 ?_
    refine x_goto (pc := 12) (tgt := 19) d311_12 (by decide) ?_
    refine x_istore (pc := 19) (by decide +kernel) rfl d311_19 ?_
    dsimp only [List.set]
    refine x_iload_n (pc := 21) rfl d311_21 ?_
    refine x_mask [true, false, true, true, true, true, true, true, true, true] ?_
    dsimp only [mask]
    have := hQ I hI
    rw [if_pos (by omega)] at this
    exact this
theorem act_2 (hl : l.1.stackTraces = false) (hS : GOK S) (hL : gL S = 0) (hPi : PI (gA S)) (hc : gA S 0 7 ≤ 600000) {I : Nat → Int → Int} (hI : CREL I S) (x0 : 0 ≤ x) (x1 : x ≤ 99999) (y0 : 0 ≤ y) (y1 : y ≤ 99999) (z0 : 0 ≤ z) (z1 : z ≤ 99999) : Ex l 311 30 (6 * 30) 22 [some (.ref 0), none, some (.int (iI x)), some (.int (iI y)), some (.int (iI z)), some (.int (iI (gA S 0 5))), some (.int (iI (if gA S 0 5 = 0 then 0 else x % gA S 0 5))), none, none, none] [.int (iI 2)] (mm 181 I v false) (oE 181 v false (some (.int (iI 1))) (AC S (mkS 1 (gA S)).2)) := by
  have h48 := fr48 hS
  obtain ⟨r1, r2, r3, r4, r5, r6, r7, r8, r9, r10⟩ := hS.1.rg
  have hcb := cB_v
  refine x_tabIn (pc := 22) (tgt := 206) ⟨by omega, by omega⟩ d311_22 (by decide) (by decide) rfl (by decide) ?_
  refine x_aload_n (pc := 206) rfl d311_206 ?_
  refine x_mask [false, true, false, false, false, false, false, true, true, true] ?_
  dsimp only [mask]
  refine ex_le (B' := 0 + 24) (by omega) rfl ?_
  refine x_qSs (pc := 207) (rest := []) c311_254 (ct_tries hl hS hL hPi hc hI) rfl rfl (Nat.le_of_ble_eq_true rfl) (by decide +kernel) (by decide +kernel) d311_207 (fun K hK => ?_)
  exact x_zret rfl (Or.inr rfl) (fun z => Bool.noConfusion z) d311_210 ⟨K, rfl, hK⟩
theorem act_3 (hl : l.1.stackTraces = false) (hS : GOK S) (hL : gL S = 0) (hPi : PI (gA S)) (hc : gA S 0 7 ≤ 600000) {I : Nat → Int → Int} (hI : CREL I S) (x0 : 0 ≤ x) (x1 : x ≤ 99999) (y0 : 0 ≤ y) (y1 : y ≤ 99999) (z0 : 0 ≤ z) (z1 : z ≤ 99999) : Ex l 311 30 (6 * 30) 22 [some (.ref 0), none, some (.int (iI x)), some (.int (iI y)), some (.int (iI z)), some (.int (iI (gA S 0 5))), some (.int (iI (if gA S 0 5 = 0 then 0 else x % gA S 0 5))), none, none, none] [.int (iI 3)] (mm 181 I v false) (oE 181 v false (some (.int (iI 1))) (AC S (mkS 1 (gA S)).2)) := by
  have h48 := fr48 hS
  obtain ⟨r1, r2, r3, r4, r5, r6, r7, r8, r9, r10⟩ := hS.1.rg
  have hcb := cB_v
  refine x_tabIn (pc := 22) (tgt := 206) ⟨by omega, by omega⟩ d311_22 (by decide) (by decide) rfl (by decide) ?_
  refine x_aload_n (pc := 206) rfl d311_206 ?_
  refine x_mask [false, true, false, false, false, false, false, true, true, true] ?_
  dsimp only [mask]
  refine ex_le (B' := 0 + 24) (by omega) rfl ?_
  refine x_qSs (pc := 207) (rest := []) c311_254 (ct_tries hl hS hL hPi hc hI) rfl rfl (Nat.le_of_ble_eq_true rfl) (by decide +kernel) (by decide +kernel) d311_207 (fun K hK => ?_)
  exact x_zret rfl (Or.inr rfl) (fun z => Bool.noConfusion z) d311_210 ⟨K, rfl, hK⟩
theorem act_4 (hl : l.1.stackTraces = false) (hS : GOK S) (hL : gL S = 0) (hPi : PI (gA S)) (hc : gA S 0 7 ≤ 600000) {I : Nat → Int → Int} (hI : CREL I S) (x0 : 0 ≤ x) (x1 : x ≤ 99999) (y0 : 0 ≤ y) (y1 : y ≤ 99999) (z0 : 0 ≤ z) (z1 : z ≤ 99999) : Ex l 311 30 (6 * 30) 22 [some (.ref 0), none, some (.int (iI x)), some (.int (iI y)), some (.int (iI z)), some (.int (iI (gA S 0 5))), some (.int (iI (if gA S 0 5 = 0 then 0 else x % gA S 0 5))), none, none, none] [.int (iI 4)] (mm 181 I v false) (oE 181 v false (some (.int (iI 1))) (AC S (mkS 1 (gA S)).2)) := by
  have h48 := fr48 hS
  obtain ⟨r1, r2, r3, r4, r5, r6, r7, r8, r9, r10⟩ := hS.1.rg
  have hcb := cB_v
  refine x_tabIn (pc := 22) (tgt := 206) ⟨by omega, by omega⟩ d311_22 (by decide) (by decide) rfl (by decide) ?_
  refine x_aload_n (pc := 206) rfl d311_206 ?_
  refine x_mask [false, true, false, false, false, false, false, true, true, true] ?_
  dsimp only [mask]
  refine ex_le (B' := 0 + 24) (by omega) rfl ?_
  refine x_qSs (pc := 207) (rest := []) c311_254 (ct_tries hl hS hL hPi hc hI) rfl rfl (Nat.le_of_ble_eq_true rfl) (by decide +kernel) (by decide +kernel) d311_207 (fun K hK => ?_)
  exact x_zret rfl (Or.inr rfl) (fun z => Bool.noConfusion z) d311_210 ⟨K, rfl, hK⟩
theorem a5_end (hl : l.1.stackTraces = false) (hS : GOK S) {P : (Nat → Int → Int) → Prop} (hP : ∀ K, CREL K S → P K) {I : Nat → Int → Int} (hI : CREL I S) {is due clk : Int} (h0 : 0 ≤ due ∧ due ≤ 432) (hc0 : 0 ≤ clk ∧ clk ≤ 2450880) (e1 : is = min 60 due) (e2 : due ≤ 60 → gA S 0 7 = clk ∧ pendA (gA S) = -1) : Ex l 311 5 (6 * 5) 232 [some (.ref 0), none, none, none, none, none, none, some (.int (iI due)), some (.int (iI clk)), none] [.int (iI is)] (mm 181 I v false) (oE 181 v false (some (.int (iI 1))) P) := by
  have h48 := fr48 hS
  obtain ⟨r1, r2, r3, r4, r5, r6, r7, r8, r9, r10⟩ := hS.1.rg
  have hcb := cB_v
  have hpr : -1 ≤ pendA (gA S) ∧ pendA (gA S) < 49 := by
    have := pdS_r (A := gA S) (n := gA S 0 6) (by omega)
    have e : pdS (gA S) (gA S 0 6) = pendA (gA S) := rfl
    omega
  refine x_istore (pc := 232) (by decide +kernel) rfl d311_232 ?_
  dsimp only [List.set]
  refine x_iload (pc := 234) rfl d311_234 ?_
  refine x_bipush (pc := 236) (by decide) d311_236 ?_
  refine x_iload (pc := 238) rfl d311_238 ?_
  refine x_min (pc := 240) ⟨by omega, by omega⟩ ⟨by omega, by omega⟩ c311_264 (by decide +kernel) (Nat.le_of_ble_eq_true rfl) d311_240 ?_
  refine x_icmp_ne (pc := 243) (tgt := 274) ⟨by omega, by omega⟩ ⟨by omega, by omega⟩ d311_243 (by decide) (fun g243 => ?_) (fun g243 => ?_)
  · refine x_iconst (pc := 274) d311_274 ?_
    refine x_zret (pc := 275) rfl (Or.inl rfl) (fun z => Bool.noConfusion z) d311_275 ?_
    first | exact ⟨I, rfl, hP I hI⟩ | (exfalso; omega)
  · refine x_iload (pc := 246) rfl d311_246 ?_
    refine x_bipush (pc := 248) (by decide) d311_248 ?_
    refine x_icmp_gt (pc := 250) (tgt := 270) ⟨by omega, by omega⟩ ⟨by omega, by omega⟩ d311_250 (by decide) (fun g250 => ?_) (fun g250 => ?_)
    · refine x_iconst (pc := 270) d311_270 ?_
      refine x_goto (pc := 271) (tgt := 275) d311_271 (by decide) ?_
      refine x_zret (pc := 275) rfl (Or.inr rfl) (fun z => Bool.noConfusion z) d311_275 ?_
      first | exact ⟨I, rfl, hP I hI⟩ | (exfalso; omega)
    · refine x_aload_n (pc := 253) rfl d311_253 ?_
      refine x_qVs (pc := 254) c311_92 (qa (cm82 (E := fun _ => 0) hl (by decide) hI)) (ko0 (by omega)) rfl rfl (Nat.le_of_ble_eq_true rfl) (by decide +kernel) (by decide +kernel) d311_254 (fun I hI => ?_)
      refine x_iload (pc := 257) rfl d311_257 ?_
      refine x_icmp_ne (pc := 259) (tgt := 274) ⟨by omega, by omega⟩ ⟨by omega, by omega⟩ d311_259 (by decide) (fun g259 => ?_) (fun g259 => ?_)
      · refine x_iconst (pc := 274) d311_274 ?_
        refine x_zret (pc := 275) rfl (Or.inl rfl) (fun z => Bool.noConfusion z) d311_275 ?_
        first | exact ⟨I, rfl, hP I hI⟩ | (exfalso; omega)
      · refine x_aload_n (pc := 262) rfl d311_262 ?_
        refine x_qVs (pc := 263) c311_223 (qa (cm113 (E := fun _ => 0) hl (by decide) hI hS)) (ko0 (by omega)) rfl rfl (Nat.le_of_ble_eq_true rfl) (by decide +kernel) (by decide +kernel) d311_263 (fun I hI => ?_)
        refine x_iconst (pc := 266) d311_266 ?_
        refine x_icmp_ne (pc := 267) (tgt := 274) ⟨by omega, by omega⟩ ⟨by omega, by omega⟩ d311_267 (by decide) (fun g267 => ?_) (fun g267 => ?_)
        · refine x_iconst (pc := 274) d311_274 ?_
          refine x_zret (pc := 275) rfl (Or.inl rfl) (fun z => Bool.noConfusion z) d311_275 ?_
          first | exact ⟨I, rfl, hP I hI⟩ | (exfalso; omega)
        · refine x_iconst (pc := 270) d311_270 ?_
          refine x_goto (pc := 271) (tgt := 275) d311_271 (by decide) ?_
          refine x_zret (pc := 275) rfl (Or.inr rfl) (fun z => Bool.noConfusion z) d311_275 ?_
          first | exact ⟨I, rfl, hP I hI⟩ | (exfalso; omega)
theorem act_5 (hl : l.1.stackTraces = false) (hS : GOK S) (hL : gL S = 0) (hPi : PI (gA S)) (hc : gA S 0 7 ≤ 600000) {I : Nat → Int → Int} (hI : CREL I S) (x0 : 0 ≤ x) (x1 : x ≤ 99999) (y0 : 0 ≤ y) (y1 : y ≤ 99999) (z0 : 0 ≤ z) (z1 : z ≤ 99999) : Ex l 311 30 (6 * 30) 22 [some (.ref 0), none, some (.int (iI x)), some (.int (iI y)), some (.int (iI z)), some (.int (iI (gA S 0 5))), some (.int (iI (if gA S 0 5 = 0 then 0 else x % gA S 0 5))), none, none, none] [.int (iI 5)] (mm 181 I v false) (oE 181 v false (some (.int (iI 1))) (AC S (mkS 60 (gA S)).2)) := by
  have h48 := fr48 hS
  obtain ⟨r1, r2, r3, r4, r5, r6, r7, r8, r9, r10⟩ := hS.1.rg
  have hcb := cB_v
  have hr := mkS_r 432 (gA S)
  have hm := mk_min 60 432 (gA S) (by decide)
  have hok := mk_ok 432 (gA S) _ hS.1 hPi
  have hen := mk_end 432 (gA S)
  refine x_tabIn (pc := 22) (tgt := 211) ⟨by omega, by omega⟩ d311_22 (by decide) (by decide) rfl (by decide) ?_
  refine x_aload_n (pc := 211) rfl d311_211 ?_
  refine x_qVs (pc := 212) c311_258 (qa (cm115 (E := fun _ => 0) hl (by decide) hI hS)) (ko0 (by omega)) rfl rfl (Nat.le_of_ble_eq_true rfl) (by decide +kernel) (by decide +kernel) d311_212 (fun I hI => ?_)
  refine x_istore (pc := 215) (by decide +kernel) rfl d311_215 ?_
  dsimp only [List.set]
  refine x_aload_n (pc := 217) rfl d311_217 ?_
  refine x_qVs (pc := 218) c311_261 (qa (cm116 (E := fun _ => 0) hl (by decide) hI hS)) (ko0 (by omega)) rfl rfl (Nat.le_of_ble_eq_true rfl) (by decide +kernel) (by decide +kernel) d311_218 (fun I hI => ?_)
  refine x_istore (pc := 221) (by decide +kernel) rfl d311_221 ?_
  dsimp only [List.set]
  refine x_aload_n (pc := 223) rfl d311_223 ?_
  refine x_iconst (pc := 224) d311_224 ?_
  refine x_bipush (pc := 225) (by decide) d311_225 ?_
  refine x_iconst (pc := 227) d311_227 ?_
  refine x_iconst (pc := 228) d311_228 ?_
  refine x_mask [true, true, false, false, false, false, false, true, true, true] ?_
  dsimp only [mask]
  refine ex_le (B' := 5 + 1) (by omega) rfl ?_
  refine x_qW (pc := 229) (B0 := 1) (As := [.ref 0, .int (iI 1), .int (iI 60), .int (iI 0), .int (iI 0)]) (rest := []) c311_240 (ct_trans (z := 60) hl hS hL (by decide) (by omega) hI) rfl rfl (Nat.le_of_ble_eq_true rfl) (by decide +kernel) (by decide +kernel) d311_229 (fun K hK => ?_)
  obtain ⟨S2, m1, m2, m3, m4, m5⟩ := hK
  refine a5_end hl m2 (fun K h => ⟨S2, h, m2, m3, m4, Or.inr m5⟩) m1 (by omega) (by omega) hm.1 (fun hd => ?_)
  rw [m4, hm.2 hd]
  exact ⟨rfl, hen (by omega)⟩
theorem a7_end (hl : l.1.stackTraces = false) (hS : GOK S) {P : (Nat → Int → Int) → Prop} (hP : ∀ K, CREL K S → P K) {I : Nat → Int → Int} (hI : CREL I S) {is clk : Int} (z0 : 0 ≤ z) (z1 : z ≤ 99999) (hc0 : 0 ≤ clk ∧ clk ≤ 2450880) (e1 : is = clk + (1 + z % 90)) (e2 : gA S 0 7 = clk + (1 + z % 90)) : Ex l 311 5 (6 * 5) 485 [some (.ref 0), none, none, none, some (.int (iI z)), none, none, some (.int (iI clk)), none, none] [.int (iI is)] (mm 181 I v false) (oE 181 v false (some (.int (iI 1))) P) := by
  have h48 := fr48 hS
  obtain ⟨r1, r2, r3, r4, r5, r6, r7, r8, r9, r10⟩ := hS.1.rg
  have hcb := cB_v
  refine x_iload (pc := 485) rfl d311_485 ?_
  refine x_iconst (pc := 487) d311_487 ?_
  refine x_iadd (pc := 488) d311_488 ?_
  refine x_iload (pc := 489) rfl d311_489 ?_
  refine x_bipush (pc := 491) (by decide) d311_491 ?_
  refine x_irem (pc := 493) (by omega) (by omega) (by omega) (by omega) d311_493 ?_
  refine x_iadd (pc := 494) d311_494 ?_
  refine x_icmp_ne (pc := 495) (tgt := 519) ⟨by omega, by omega⟩ ⟨by omega, by omega⟩ d311_495 (by decide) (fun g495 => ?_) (fun g495 => ?_)
  · refine x_iconst (pc := 519) d311_519 ?_
    refine x_zret (pc := 520) rfl (Or.inl rfl) (fun z => Bool.noConfusion z) d311_520 ?_
    first | exact ⟨I, rfl, hP I hI⟩ | (exfalso; omega)
  · refine x_aload_n (pc := 498) rfl d311_498 ?_
    refine x_qVs (pc := 499) c311_92 (qa (cm82 (E := fun _ => 0) hl (by decide) hI)) (ko0 (by omega)) rfl rfl (Nat.le_of_ble_eq_true rfl) (by decide +kernel) (by decide +kernel) d311_499 (fun I hI => ?_)
    refine x_iload (pc := 502) rfl d311_502 ?_
    refine x_iconst (pc := 504) d311_504 ?_
    refine x_iadd (pc := 505) d311_505 ?_
    refine x_iload (pc := 506) rfl d311_506 ?_
    refine x_bipush (pc := 508) (by decide) d311_508 ?_
    refine x_irem (pc := 510) (by omega) (by omega) (by omega) (by omega) d311_510 ?_
    refine x_iadd (pc := 511) d311_511 ?_
    refine x_icmp_ne (pc := 512) (tgt := 519) ⟨by omega, by omega⟩ ⟨by omega, by omega⟩ d311_512 (by decide) (fun g512 => ?_) (fun g512 => ?_)
    · refine x_iconst (pc := 519) d311_519 ?_
      refine x_zret (pc := 520) rfl (Or.inl rfl) (fun z => Bool.noConfusion z) d311_520 ?_
      first | exact ⟨I, rfl, hP I hI⟩ | (exfalso; omega)
    · refine x_iconst (pc := 515) d311_515 ?_
      refine x_goto (pc := 516) (tgt := 520) d311_516 (by decide) ?_
      refine x_zret (pc := 520) rfl (Or.inr rfl) (fun z => Bool.noConfusion z) d311_520 ?_
      first | exact ⟨I, rfl, hP I hI⟩ | (exfalso; omega)
theorem act_7 (hl : l.1.stackTraces = false) (hS : GOK S) (hL : gL S = 0) (hPi : PI (gA S)) (hc : gA S 0 7 ≤ 600000) {I : Nat → Int → Int} (hI : CREL I S) (x0 : 0 ≤ x) (x1 : x ≤ 99999) (y0 : 0 ≤ y) (y1 : y ≤ 99999) (z0 : 0 ≤ z) (z1 : z ≤ 99999) : Ex l 311 30 (6 * 30) 22 [some (.ref 0), none, some (.int (iI x)), some (.int (iI y)), some (.int (iI z)), some (.int (iI (gA S 0 5))), some (.int (iI (if gA S 0 5 = 0 then 0 else x % gA S 0 5))), none, none, none] [.int (iI 7)] (mm 181 I v false) (oE 181 v false (some (.int (iI 1))) (AC S (waitA (gA S) (1 + z % 90)))) := by
  have h48 := fr48 hS
  obtain ⟨r1, r2, r3, r4, r5, r6, r7, r8, r9, r10⟩ := hS.1.rg
  have hcb := cB_v
  refine x_tabIn (pc := 22) (tgt := 465) ⟨by omega, by omega⟩ d311_22 (by decide) (by decide) rfl (by decide) ?_
  refine x_aload_n (pc := 465) rfl d311_465 ?_
  refine x_qVs (pc := 466) c311_92 (qa (cm82 (E := fun _ => 0) hl (by decide) hI)) (ko0 (by omega)) rfl rfl (Nat.le_of_ble_eq_true rfl) (by decide +kernel) (by decide +kernel) d311_466 (fun I hI => ?_)
  refine x_istore (pc := 469) (by decide +kernel) rfl d311_469 ?_
  dsimp only [List.set]
  refine x_aload_n (pc := 471) rfl d311_471 ?_
  refine x_iconst (pc := 472) d311_472 ?_
  refine x_iconst (pc := 473) d311_473 ?_
  refine x_iload (pc := 474) rfl d311_474 ?_
  refine x_bipush (pc := 476) (by decide) d311_476 ?_
  refine x_irem (pc := 478) (by omega) (by omega) (by omega) (by omega) d311_478 ?_
  refine x_iadd (pc := 479) d311_479 ?_
  refine x_iconst (pc := 480) d311_480 ?_
  refine x_iconst (pc := 481) d311_481 ?_
  refine x_mask [true, true, false, false, true, false, false, true, true, true] ?_
  dsimp only [mask]
  refine ex_le (B' := 5 + 1) (by omega) rfl ?_
  refine x_qW (pc := 482) (B0 := 1) (As := [.ref 0, .int (iI 4), .int (iI (1 + z % 90)), .int (iI 0), .int (iI 0)]) (rest := []) c311_240 (dd_do (ct_do4 hl (E := fun c => if c = 1 then 0 else 1) (r := oWait S (1 + z % 90)) (by by_cases e : (oWait S (1 + z % 90)).1 = 1 <;> simp [e]) (cm131 (v := v) hl (by decide) hI hS ⟨by omega, by omega⟩)) (by unfold oWait; rw [if_pos (by omega), if_pos (by omega)]) hS (gok_wait hS) hL) rfl rfl (Nat.le_of_ble_eq_true rfl) (by decide +kernel) (by decide +kernel) d311_482 (fun K hK => ?_)
  obtain ⟨S2, m1, m2, m3, m4, m5⟩ := hK
  refine a7_end hl m2 (fun K h => ⟨S2, h, m2, m3, m4, Or.inr m5⟩) m1 z0 z1 (by omega) rfl (by rw [m4, wait_7])
end Acts
