/-! ===== the law: the two questions that answer with floats; its loop ===== -/
section Fp2
theorem fp_num32 {n : Nat} (h : n % 2147483648 ≤ 2139095040) : Jvm.FP.Core.decode Jvm.FP.Core.b32 n ≠ .nan := by
  unfold Jvm.FP.Core.decode
  have e : Jvm.FP.Core.fieldE Jvm.FP.Core.b32 n = n / 8388608 % 256 := rfl
  have t : Jvm.FP.Core.fieldT Jvm.FP.Core.b32 n = n % 8388608 := rfl
  rw [e, t]
  split
  · rename_i h1
    have h1 : n / 8388608 % 256 = 255 := h1
    rw [if_pos (by omega)]
    exact fun z => by cases z
  · split <;> exact fun z => by cases z
theorem fp_num64 {n : Nat} (h : n % 9223372036854775808 ≤ 9218868437227405312) : Jvm.FP.Core.decode Jvm.FP.Core.b64 n ≠ .nan := by
  unfold Jvm.FP.Core.decode
  have e : Jvm.FP.Core.fieldE Jvm.FP.Core.b64 n = n / 4503599627370496 % 2048 := rfl
  have t : Jvm.FP.Core.fieldT Jvm.FP.Core.b64 n = n % 4503599627370496 := rfl
  rw [e, t]
  split
  · rename_i h1
    have h1 : n / 4503599627370496 % 2048 = 2047 := h1
    rw [if_pos (by omega)]
    exact fun z => by cases z
  · split <;> exact fun z => by cases z
theorem fp_cmpI (x : Int) : compare x x = .eq := by
  show compareOfLessAndEq x x = .eq
  unfold compareOfLessAndEq
  rw [if_neg (Int.lt_irrefl _), if_pos rfl]
theorem fp_self {d : Jvm.FP.Core.Datum} (h : d ≠ .nan) : Jvm.FP.Core.order d d = some .eq := by
  match d, h with
  | .nan, h => exact absurd rfl h
  | .inf s, _ => exact congrArg some (fp_cmpI _)
  | .fin s c q, _ => exact congrArg some (fp_cmpI _)
theorem vf_64 {a : UInt64} (h : vf_n64 a) : a.toNat % 9223372036854775808 ≤ 9218868437227405312 := by
  have h1 : a &&& 0x7fffffffffffffff ≤ 0x7ff0000000000000 := h
  rw [UInt64.le_iff_toNat_le, UInt64.toNat_and] at h1
  have k := Nat.and_two_pow_sub_one_eq_mod a.toNat 63
  exact Nat.le_trans (Nat.le_of_eq k.symm) h1
theorem vf_32 {a : UInt32} (h : vf_n32 a) : a.toNat % 2147483648 ≤ 2139095040 := by
  have h1 : a &&& 0x7fffffff ≤ 0x7f800000 := h
  rw [UInt32.le_iff_toNat_le, UInt32.toNat_and] at h1
  have k := Nat.and_two_pow_sub_one_eq_mod a.toNat 31
  exact Nat.le_trans (Nat.le_of_eq k.symm) h1
theorem dc_self {a : UInt64} (h : vf_n64 a) (op : CmpOp) : Op.cmpValue (FP.dcmp a a) op = iI 0 := by
  have e : FP.dcmp a a = some .eq := fp_self (fp_num64 (vf_64 h))
  rw [e]
  rfl
theorem f2d_ok {a : UInt32} (h : vf_n32 a) : vf_n64 (FP.f2d a) := by
  have hd := fp_num32 (vf_32 h)
  have hn : ¬ Jvm.FP.Core.fIsNaN a = true := fun z => hd (of_decide_eq_true z)
  have e : FP.f2d a = Jvm.FP.Core.f2d a := if_neg hn
  rw [e]
  have ok : OKd Jvm.FP.Core.b64 (Jvm.FP.Core.round Jvm.FP.Core.b64 (Jvm.FP.Core.decode Jvm.FP.Core.b32 a.toNat)) := by
    generalize Jvm.FP.Core.decode Jvm.FP.Core.b32 a.toNat = d at hd
    match d, hd with
    | .nan, hd => exact absurd rfl hd
    | .inf s, _ => exact True.intro
    | .fin s c q, _ => exact fp_round (by decide +kernel) (by decide +kernel) _ _ _ _
  obtain ⟨e1, e2⟩ := fp_enc64 ok
  show (UInt64.ofNat (Jvm.FP.Core.encode Jvm.FP.Core.b64 (Jvm.FP.Core.round Jvm.FP.Core.b64 (Jvm.FP.Core.decode Jvm.FP.Core.b32 a.toNat)))) &&& 0x7fffffffffffffff ≤ 0x7ff0000000000000
  rw [UInt64.le_iff_toNat_le, UInt64.toNat_and, UInt64.toNat_ofNat', Nat.mod_eq_of_lt e1]
  have k := Nat.and_two_pow_sub_one_eq_mod (Jvm.FP.Core.encode Jvm.FP.Core.b64 (Jvm.FP.Core.round Jvm.FP.Core.b64 (Jvm.FP.Core.decode Jvm.FP.Core.b32 a.toNat))) 63
  exact Nat.le_trans (Nat.le_of_eq k) e2
theorem err_ok {S : GS} (hS : GOK S) : vf_n32 (errV (gA S)) := by
  have hA : AINV (gA S) cB := hS.1
  have hr := hA.rg
  have hcB : cB = 2450880 := rfl
  have t0 := hA.ct 10 (by decide) (by decide); have t1 := hA.ct 11 (by decide) (by decide); have t4 := hA.ct 14 (by decide) (by decide)
  unfold errV
  split
  · show FP.fconst0 &&& 0x7fffffff ≤ 0x7f800000
    decide +kernel
  · exact fdiv_ok (by omega) (by omega)
theorem thr_ok {S : GS} (hS : GOK S) : vf_n64 (thrV (gA S) (ackA (gA S))) := by
  have hA : AINV (gA S) cB := hS.1
  have hr := hA.rg
  have hcB : cB = 2450880 := rfl
  have ha := ack_b hA
  unfold thrV
  split
  · show FP.dconst0 &&& 0x7fffffffffffffff ≤ 0x7ff0000000000000
    decide +kernel
  · exact ddiv_ok (by omega) (by omega)
end Fp2
section Law2
variable {l : LX} {q : Nat} {K : Nat → Int → Int} {v : Int} {S : GS}
theorem cs49 {k n : Nat} (hl : l.1.stackTraces = false) (hq : 193 ≤ q) (hC : CREL K S) (hR : RREL K S) (hS : GOK S) {i : Int} {Q : OO → Prop} (hn : ∀ (K2 : Nat → Int → Int) (v2 : Int) (S2 : GS), CREL K2 S2 → RREL K2 S2 → GOK S2 → Ex l 332 k n 3032 (lawL i) [] (mm q K2 v2 false) Q) : Ex l 332 k n 2294 (lawL i) [] (mm q K v false) Q := by
  unfold lawL at hn ⊢
  have w1 := dt125 (q := q) (v := v) hl (by omega) hC hS
  have w2 := rd276 (q := q) (v := v) (fr := false) hl (by omega) hR hS
  have hv := err_ok hS
  generalize errV (gA S) = a at w1 w2 hv
  refine x_aload_n (pc := 2294) rfl d332_2294 ?_
  refine x_cVs (pc := 2295) c332_319 w1 (ko0 (by omega)) rfl rfl (Nat.le_of_ble_eq_true rfl) (by decide +kernel) (by decide +kernel) rfl d332_2295 ?_
  have hv2 := f2d_ok hv
  refine x_f2d (pc := 2298) hv2 d332_2298 ?_
  refine x_dstore (pc := 2299) (by decide +kernel) rfl d332_2299 ?_
  dsimp only [List.set]
  refine x_aload_n (pc := 2301) rfl d332_2301 ?_
  refine x_cVs (pc := 2302) c332_323 w2 (xo181 (by omega)) rfl rfl (Nat.le_of_ble_eq_true rfl) (by decide +kernel) (by decide +kernel) rfl d332_2302 ?_
  refine x_f2d (pc := 2305) hv2 d332_2305 ?_
  refine x_dstore (pc := 2306) (by decide +kernel) rfl d332_2306 ?_
  dsimp only [List.set]
  refine x_dload (pc := 2308) rfl d332_2308 ?_
  refine x_dload (pc := 2310) rfl d332_2310 ?_
  refine x_dcmp (pc := 2312) d332_2312 ?_
  rw [dc_self hv2]
  refine x_if_eq (pc := 2313) (tgt := 2334) ⟨by decide, by decide⟩ d332_2313 (by decide) (fun _ => ?_) (fun g => absurd rfl g)
  refine x_goto (pc := 2334) (tgt := 3032) d332_2334 (by decide) ?_
  refine x_mask [true, true, true, true, true, false, false, false, false] ?_
  dsimp only [mask]
  exact hn _ _ _ (hC.lt fun a ha => up2_off' _ _ _ (by omega)) (TH.mk.rel hR) hS
theorem cs50 {k n : Nat} (hl : l.1.stackTraces = false) (hq : 193 ≤ q) (hC : CREL K S) (hR : RREL K S) (hS : GOK S) {i : Int} {Q : OO → Prop} (hn : ∀ (K2 : Nat → Int → Int) (v2 : Int) (S2 : GS), CREL K2 S2 → RREL K2 S2 → GOK S2 → Ex l 332 k n 3032 (lawL i) [] (mm q K2 v2 false) Q) : Ex l 332 k n 2337 (lawL i) [] (mm q K v false) Q := by
  unfold lawL at hn ⊢
  have w1 := dt126 (q := q) (v := v) hl (by omega) hC hS
  have w2 := rd277 (q := q) (v := v) (fr := false) hl (by omega) hR hS
  have hv := thr_ok hS
  generalize thrV (gA S) (ackA (gA S)) = a at w1 w2 hv
  refine x_aload_n (pc := 2337) rfl d332_2337 ?_
  refine x_cVs (pc := 2338) c332_324 w1 (ko0 (by omega)) rfl rfl (Nat.le_of_ble_eq_true rfl) (by decide +kernel) (by decide +kernel) rfl d332_2338 ?_
  have hv2 := hv
  refine x_dstore (pc := 2341) (by decide +kernel) rfl d332_2341 ?_
  dsimp only [List.set]
  refine x_aload_n (pc := 2343) rfl d332_2343 ?_
  refine x_cVs (pc := 2344) c332_328 w2 (xo181 (by omega)) rfl rfl (Nat.le_of_ble_eq_true rfl) (by decide +kernel) (by decide +kernel) rfl d332_2344 ?_
  refine x_dstore (pc := 2347) (by decide +kernel) rfl d332_2347 ?_
  dsimp only [List.set]
  refine x_dload (pc := 2349) rfl d332_2349 ?_
  refine x_dload (pc := 2351) rfl d332_2351 ?_
  refine x_dcmp (pc := 2353) d332_2353 ?_
  rw [dc_self hv2]
  refine x_if_eq (pc := 2354) (tgt := 2375) ⟨by decide, by decide⟩ d332_2354 (by decide) (fun _ => ?_) (fun g => absurd rfl g)
  refine x_goto (pc := 2375) (tgt := 3032) d332_2375 (by decide) ?_
  refine x_mask [true, true, true, true, true, false, false, false, false] ?_
  dsimp only [mask]
  exact hn _ _ _ (hC.lt fun a ha => up2_off' _ _ _ (by omega)) (TH.mk.rel hR) hS
theorem lp_next {k n : Nat} {i : Int} {σ : MM} {Q : OO → Prop} (h : Ex l 332 k n 23 (lawL (i + 6)) [] σ Q) : Ex l 332 k n 3032 (lawL i) [] σ Q := by
  unfold lawL at h ⊢
  refine x_iinc (pc := 3032) rfl (by decide +kernel) rfl d332_3032 ?_
  dsimp only [List.set]
  refine x_goto (pc := 3035) (tgt := 23) d332_3035 (by decide) ?_
  exact h
/-- the loop's head: the end, or the next call's number -/
theorem lp_law {k n : Nat} (hl : l.1.stackTraces = false) (hq : 193 ≤ q) (hlen : (l.2.1 : Int) ≤ 2147483647) {Q : OO → Prop} (hQ : ∀ (K : Nat → Int → Int) (v : Int), Q (.inl (some (.int (iI 1))), mm q K v false)) {i : Int} (i0 : 0 ≤ i) (i1 : i ≤ l.2.1) (h : i + 6 ≤ l.2.1 → Ex l 332 k n 40 (lawL i) [.int (iI (scV l i % 64))] (mm q K v false) Q) : Ex l 332 k n 23 (lawL i) [] (mm q K v false) Q := by
  unfold lawL at h ⊢
  refine x_iload (pc := 23) rfl d332_23 ?_
  refine x_aload_n (pc := 25) rfl d332_25 ?_
  refine x_slen (pc := 26) d332_26 ?_
  refine x_bipush (pc := 27) (by decide) d332_27 ?_
  refine x_isub (pc := 29) d332_29 ?_
  refine x_icmp_gt (pc := 30) (tgt := 3038) ⟨by omega, by omega⟩ ⟨by omega, by omega⟩ d332_30 (by decide) (fun g => ?_) (fun g => ?_)
  · refine x_iconst (pc := 3038) d332_3038 ?_
    exact x_zret (pc := 3039) rfl (Or.inr rfl) (fun z => by cases z) d332_3039 (hQ K v)
  · refine x_aload_n (pc := 33) rfl d332_33 ?_
    refine x_iload (pc := 34) rfl d332_34 ?_
    refine x_sldR (pc := 36) i0 (by omega) (by omega) d332_36 ?_
    refine x_bipush (pc := 37) (by decide) d332_37 ?_
    refine x_iand (pc := 39) (iI_and6 _) d332_39 ?_
    exact h (by omega)
/-- the law from its loop's head to its end -/
theorem law_loop (hl : l.1.stackTraces = false) (hq : 193 ≤ q) (hlen : (l.2.1 : Int) ≤ 2147483647) {Q : OO → Prop} (hQ : ∀ (K : Nat → Int → Int) (v : Int), Q (.inl (some (.int (iI 1))), mm q K v false)) : ∀ (m k n : Nat) (i : Int) (K : Nat → Int → Int) (v : Int) (S : GS), m ≤ k → 6 * m ≤ n → 0 ≤ i → i ≤ l.2.1 → (l.2.1 : Int) < i + 6 * m + 6 → CREL K S → RREL K S → GOK S → Ex l 332 k n 23 (lawL i) [] (mm q K v false) Q := by
  intro m
  induction m with
  | zero => exact fun k n i K v S hk hn i0 i1 im hC hR hS => lp_law hl hq hlen hQ i0 i1 (fun z => by exfalso; omega)
  | succ m ih =>
    intro k n i K v S hk hn i0 i1 im hC hR hS
    refine lp_law hl hq hlen hQ i0 i1 fun z => ?_
    obtain ⟨k1, rfl⟩ : ∃ k1, k = 1 + k1 := ⟨k - 1, by omega⟩
    obtain ⟨n1, rfl⟩ : ∃ n1, n = 6 + n1 := ⟨n - 6, by omega⟩
    have nx : ∀ (k2 n2 : Nat), m ≤ k2 → 6 * m ≤ n2 → ∀ (K2 : Nat → Int → Int) (v2 : Int) (S2 : GS), CREL K2 S2 → RREL K2 S2 → GOK S2 → Ex l 332 k2 n2 3032 (lawL i) [] (mm q K2 v2 false) Q := fun k2 n2 a1 a2 K2 v2 S2 b1 b2 b3 => lp_next (ih k2 n2 (i + 6) K2 v2 S2 a1 a2 (by omega) (by omega) (by omega) b1 b2 b3)
    have nx1 := nx k1 n1 (by omega) (by omega)
    obtain ⟨c, hc⟩ : ∃ c : Nat, scV l i % 64 = (c : Int) := ⟨(scV l i % 64).toNat, by omega⟩
    have hc64 : c < 64 := by omega
    rw [hc]
    match c, hc64 with
    | 0, _ => exact x_tabIn (pc := 40) (tgt := 312) ⟨by decide, by decide⟩ d332_40 (by decide) (by decide) rfl (by decide) (cs0 hl hq hC hR hS i0 z hlen nx1)
    | 1, _ => exact x_tabIn (pc := 40) (tgt := 416) ⟨by decide, by decide⟩ d332_40 (by decide) (by decide) rfl (by decide) (cs1 hl hq hC hR hS i0 z hlen nx1)
    | 2, _ => exact x_tabIn (pc := 40) (tgt := 472) ⟨by decide, by decide⟩ d332_40 (by decide) (by decide) rfl (by decide) (cs2 hl hq hC hR hS i0 z hlen nx1)
    | 3, _ => exact x_tabIn (pc := 40) (tgt := 516) ⟨by decide, by decide⟩ d332_40 (by decide) (by decide) rfl (by decide) (cs3 hl hq hC hR hS i0 z hlen nx1)
    | 4, _ => exact x_tabIn (pc := 40) (tgt := 560) ⟨by decide, by decide⟩ d332_40 (by decide) (by decide) rfl (by decide) (cs4 hl hq hC hR hS i0 z hlen nx1)
    | 5, _ => exact x_tabIn (pc := 40) (tgt := 573) ⟨by decide, by decide⟩ d332_40 (by decide) (by decide) rfl (by decide) (cs5 hl hq hC hR hS i0 z hlen nx1)
    | 6, _ => exact x_tabIn (pc := 40) (tgt := 586) ⟨by decide, by decide⟩ d332_40 (by decide) (by decide) rfl (by decide) (cs6 hl hq hC hR hS i0 z hlen nx1)
    | 7, _ => exact x_tabIn (pc := 40) (tgt := 599) ⟨by decide, by decide⟩ d332_40 (by decide) (by decide) rfl (by decide) (cs7 hl hq hC hR hS i0 z hlen nx1)
    | 8, _ => exact x_tabIn (pc := 40) (tgt := 612) ⟨by decide, by decide⟩ d332_40 (by decide) (by decide) rfl (by decide) (cs8 hl hq hC hR hS i0 z hlen nx1)
    | 9, _ => exact x_tabIn (pc := 40) (tgt := 625) ⟨by decide, by decide⟩ d332_40 (by decide) (by decide) rfl (by decide) (cs9 hl hq hC hR hS i0 z hlen nx1)
    | 10, _ => exact x_tabIn (pc := 40) (tgt := 638) ⟨by decide, by decide⟩ d332_40 (by decide) (by decide) rfl (by decide) (cs10 hl hq hC hR hS i0 z hlen nx1)
    | 11, _ => exact x_tabIn (pc := 40) (tgt := 701) ⟨by decide, by decide⟩ d332_40 (by decide) (by decide) rfl (by decide) (cs11 hl hq hC hR hS i0 z hlen nx1)
    | 12, _ => exact x_tabIn (pc := 40) (tgt := 757) ⟨by decide, by decide⟩ d332_40 (by decide) (by decide) rfl (by decide) (cs12 hl hq hC hR hS i0 z hlen nx1)
    | 13, _ => exact x_tabIn (pc := 40) (tgt := 813) ⟨by decide, by decide⟩ d332_40 (by decide) (by decide) rfl (by decide) (cs13 hl hq hC hR hS i0 z hlen nx1)
    | 14, _ => exact x_tabIn (pc := 40) (tgt := 826) ⟨by decide, by decide⟩ d332_40 (by decide) (by decide) rfl (by decide) (cs14 hl hq hC hR hS i0 z hlen nx1)
    | 15, _ => exact x_tabIn (pc := 40) (tgt := 839) ⟨by decide, by decide⟩ d332_40 (by decide) (by decide) rfl (by decide) (cs15 hl hq hC hR hS i0 z hlen nx1)
    | 16, _ => exact x_tabIn (pc := 40) (tgt := 895) ⟨by decide, by decide⟩ d332_40 (by decide) (by decide) rfl (by decide) (cs16 hl hq hC hR hS i0 z hlen nx1)
    | 17, _ => exact x_tabIn (pc := 40) (tgt := 951) ⟨by decide, by decide⟩ d332_40 (by decide) (by decide) rfl (by decide) (cs17 hl hq hC hR hS i0 z hlen nx1)
    | 18, _ => exact x_tabIn (pc := 40) (tgt := 1007) ⟨by decide, by decide⟩ d332_40 (by decide) (by decide) rfl (by decide) (cs18 hl hq hC hR hS i0 z hlen nx1)
    | 19, _ => exact x_tabIn (pc := 40) (tgt := 1020) ⟨by decide, by decide⟩ d332_40 (by decide) (by decide) rfl (by decide) (cs19 hl hq hC hR hS i0 z hlen nx1)
    | 20, _ => exact x_tabIn (pc := 40) (tgt := 1076) ⟨by decide, by decide⟩ d332_40 (by decide) (by decide) rfl (by decide) (cs20 hl hq hC hR hS i0 z hlen nx1)
    | 21, _ => exact x_tabIn (pc := 40) (tgt := 1144) ⟨by decide, by decide⟩ d332_40 (by decide) (by decide) rfl (by decide) (cs21 hl hq hC hR hS i0 z hlen nx1)
    | 22, _ => exact x_tabIn (pc := 40) (tgt := 1212) ⟨by decide, by decide⟩ d332_40 (by decide) (by decide) rfl (by decide) (cs22 hl hq hC hR hS i0 z hlen nx1)
    | 23, _ => exact x_tabIn (pc := 40) (tgt := 1268) ⟨by decide, by decide⟩ d332_40 (by decide) (by decide) rfl (by decide) (cs23 hl hq hC hR hS i0 z hlen nx1)
    | 24, _ => exact x_tabIn (pc := 40) (tgt := 1324) ⟨by decide, by decide⟩ d332_40 (by decide) (by decide) rfl (by decide) (cs24 hl hq hC hR hS i0 z hlen nx1)
    | 25, _ => exact x_tabIn (pc := 40) (tgt := 1387) ⟨by decide, by decide⟩ d332_40 (by decide) (by decide) rfl (by decide) (cs25 hl hq hC hR hS i0 z hlen nx1)
    | 26, _ => exact x_tabIn (pc := 40) (tgt := 1455) ⟨by decide, by decide⟩ d332_40 (by decide) (by decide) rfl (by decide) (cs26 hl hq hC hR hS i0 z hlen nx1)
    | 27, _ => exact x_tabIn (pc := 40) (tgt := 1518) ⟨by decide, by decide⟩ d332_40 (by decide) (by decide) rfl (by decide) (cs27 hl hq hC hR hS i0 z hlen nx1)
    | 28, _ => exact x_tabIn (pc := 40) (tgt := 1574) ⟨by decide, by decide⟩ d332_40 (by decide) (by decide) rfl (by decide) (cs28 hl hq hC hR hS i0 z hlen nx1)
    | 29, _ => exact x_tabIn (pc := 40) (tgt := 1587) ⟨by decide, by decide⟩ d332_40 (by decide) (by decide) rfl (by decide) (cs29 hl hq hC hR hS i0 z hlen nx1)
    | 30, _ => exact x_tabIn (pc := 40) (tgt := 1667) ⟨by decide, by decide⟩ d332_40 (by decide) (by decide) rfl (by decide) (cs30 hl hq hC hR hS i0 z hlen nx1)
    | 31, _ => exact x_tabIn (pc := 40) (tgt := 1735) ⟨by decide, by decide⟩ d332_40 (by decide) (by decide) rfl (by decide) (cs31 hl hq hC hR hS i0 z hlen nx1)
    | 32, _ => exact x_tabIn (pc := 40) (tgt := 1803) ⟨by decide, by decide⟩ d332_40 (by decide) (by decide) rfl (by decide) (cs32 hl hq hC hR hS i0 z hlen nx1)
    | 33, _ => exact x_tabIn (pc := 40) (tgt := 1871) ⟨by decide, by decide⟩ d332_40 (by decide) (by decide) rfl (by decide) (cs33 hl hq hC hR hS i0 z hlen nx1)
    | 34, _ => exact x_tabIn (pc := 40) (tgt := 1939) ⟨by decide, by decide⟩ d332_40 (by decide) (by decide) rfl (by decide) (cs34 hl hq hC hR hS i0 z hlen nx1)
    | 35, _ => exact x_tabIn (pc := 40) (tgt := 2026) ⟨by decide, by decide⟩ d332_40 (by decide) (by decide) rfl (by decide) (cs35 hl hq hC hR hS i0 z hlen nx1)
    | 36, _ => exact x_tabIn (pc := 40) (tgt := 2082) ⟨by decide, by decide⟩ d332_40 (by decide) (by decide) rfl (by decide) (cs36 hl hq hC hR hS i0 z hlen nx1)
    | 37, _ => exact x_tabIn (pc := 40) (tgt := 2138) ⟨by decide, by decide⟩ d332_40 (by decide) (by decide) rfl (by decide) (cs37 hl hq hC hR hS i0 z hlen nx1)
    | 38, _ => exact x_tabIn (pc := 40) (tgt := 2151) ⟨by decide, by decide⟩ d332_40 (by decide) (by decide) rfl (by decide) (cs38 hl hq hC hR hS i0 z hlen nx1)
    | 39, _ => exact x_tabIn (pc := 40) (tgt := 2164) ⟨by decide, by decide⟩ d332_40 (by decide) (by decide) rfl (by decide) (cs39 hl hq hC hR hS i0 z hlen nx1)
    | 40, _ => exact x_tabIn (pc := 40) (tgt := 2177) ⟨by decide, by decide⟩ d332_40 (by decide) (by decide) rfl (by decide) (cs40 hl hq hC hR hS i0 z hlen nx1)
    | 41, _ => exact x_tabIn (pc := 40) (tgt := 2190) ⟨by decide, by decide⟩ d332_40 (by decide) (by decide) rfl (by decide) (cs41 hl hq hC hR hS i0 z hlen nx1)
    | 42, _ => exact x_tabIn (pc := 40) (tgt := 2203) ⟨by decide, by decide⟩ d332_40 (by decide) (by decide) rfl (by decide) (cs42 hl hq hC hR hS i0 z hlen nx1)
    | 43, _ => exact x_tabIn (pc := 40) (tgt := 2216) ⟨by decide, by decide⟩ d332_40 (by decide) (by decide) rfl (by decide) (cs43 hl hq hC hR hS i0 z hlen nx1)
    | 44, _ => exact x_tabIn (pc := 40) (tgt := 2229) ⟨by decide, by decide⟩ d332_40 (by decide) (by decide) rfl (by decide) (cs44 hl hq hC hR hS i0 z hlen nx1)
    | 45, _ => exact x_tabIn (pc := 40) (tgt := 2242) ⟨by decide, by decide⟩ d332_40 (by decide) (by decide) rfl (by decide) (cs45 hl hq hC hR hS i0 z hlen nx1)
    | 46, _ => exact x_tabIn (pc := 40) (tgt := 2255) ⟨by decide, by decide⟩ d332_40 (by decide) (by decide) rfl (by decide) (cs46 hl hq hC hR hS i0 z hlen nx1)
    | 47, _ => exact x_tabIn (pc := 40) (tgt := 2268) ⟨by decide, by decide⟩ d332_40 (by decide) (by decide) rfl (by decide) (cs47 hl hq hC hR hS i0 z hlen nx1)
    | 48, _ => exact x_tabIn (pc := 40) (tgt := 2281) ⟨by decide, by decide⟩ d332_40 (by decide) (by decide) rfl (by decide) (cs48 hl hq hC hR hS i0 z hlen nx1)
    | 49, _ => exact x_tabIn (pc := 40) (tgt := 2294) ⟨by decide, by decide⟩ d332_40 (by decide) (by decide) rfl (by decide) (cs49 hl hq hC hR hS (nx _ _ (by omega) (by omega)))
    | 50, _ => exact x_tabIn (pc := 40) (tgt := 2337) ⟨by decide, by decide⟩ d332_40 (by decide) (by decide) rfl (by decide) (cs50 hl hq hC hR hS (nx _ _ (by omega) (by omega)))
    | 51, _ => exact x_tabIn (pc := 40) (tgt := 2378) ⟨by decide, by decide⟩ d332_40 (by decide) (by decide) rfl (by decide) (cs51 hl hq hC hR hS i0 z hlen nx1)
    | 52, _ => exact x_tabIn (pc := 40) (tgt := 2422) ⟨by decide, by decide⟩ d332_40 (by decide) (by decide) rfl (by decide) (cs52 hl hq hC hR hS i0 z hlen nx1)
    | 53, _ => exact x_tabIn (pc := 40) (tgt := 2478) ⟨by decide, by decide⟩ d332_40 (by decide) (by decide) rfl (by decide) (cs53 hl hq hC hR hS i0 z hlen nx1)
    | 54, _ => exact x_tabIn (pc := 40) (tgt := 2534) ⟨by decide, by decide⟩ d332_40 (by decide) (by decide) rfl (by decide) (cs54 hl hq hC hR hS i0 z hlen nx1)
    | 55, _ => exact x_tabIn (pc := 40) (tgt := 2590) ⟨by decide, by decide⟩ d332_40 (by decide) (by decide) rfl (by decide) (cs55 hl hq hC hR hS i0 z hlen nx1)
    | 56, _ => exact x_tabIn (pc := 40) (tgt := 2646) ⟨by decide, by decide⟩ d332_40 (by decide) (by decide) rfl (by decide) (cs56 hl hq hC hR hS i0 z hlen nx1)
    | 57, _ => exact x_tabIn (pc := 40) (tgt := 2702) ⟨by decide, by decide⟩ d332_40 (by decide) (by decide) rfl (by decide) (cs57 hl hq hC hR hS i0 z hlen nx1)
    | 58, _ => exact x_tabIn (pc := 40) (tgt := 2782) ⟨by decide, by decide⟩ d332_40 (by decide) (by decide) rfl (by decide) (cs58 hl hq hC hR hS i0 z hlen nx1)
    | 59, _ => exact x_tabIn (pc := 40) (tgt := 2838) ⟨by decide, by decide⟩ d332_40 (by decide) (by decide) rfl (by decide) (cs59 hl hq hC hR hS i0 z hlen nx1)
    | 60, _ => exact x_tabIn (pc := 40) (tgt := 2882) ⟨by decide, by decide⟩ d332_40 (by decide) (by decide) rfl (by decide) (cs60 hl hq hC hR hS i0 z hlen nx1)
    | 61, _ => exact x_tabIn (pc := 40) (tgt := 2895) ⟨by decide, by decide⟩ d332_40 (by decide) (by decide) rfl (by decide) (cs61 hl hq hC hR hS i0 z hlen nx1)
    | 62, _ => exact x_tabIn (pc := 40) (tgt := 2939) ⟨by decide, by decide⟩ d332_40 (by decide) (by decide) rfl (by decide) (cs62 hl hq hC hR hS i0 z hlen nx1)
    | 63, _ => exact x_tabIn (pc := 40) (tgt := 3007) ⟨by decide, by decide⟩ d332_40 (by decide) (by decide) rfl (by decide) (cs63 hl hq hC hR hS i0 z hlen nx1)
    | c + 64, h => exact absurd h (by omega)
end Law2
