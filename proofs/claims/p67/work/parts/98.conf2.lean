/-! ===== the law's modem, configured ===== -/
section Txt2
variable {l : LX} {y k n pc b n0 : Nat} {L : LL} {rest : List Value} {σ0 τ : MM} {Q : OO → Prop}
theorem x_textS {I : Nat → Int → Int} {v : Int} {w m : Nat} (h1 : 1 ≤ τ.2.2.2.1) (hn : τ.2.2.2.1 ≤ 900) (hQ : ∀ o, Q o → PIN 181 o) (hL : ∀ x, some x ∈ L → (∃ z, x = .int z) ∨ x = .ref 0 ∨ x = .ref scr) (kk : Ex l y k n pc L [.ref 181, .ref 0] (tm 183 m I (fun j => (stM (mkC τ 125) τ.2.2.2.1 w m).1 (τ.2.2.2.1 + 1) j) (fun _ => 0) v) Q) : Ex l y k n pc L [.ref (181 + τ.2.2.2.1), .ref 0] (sh 181 (mm 181 I v false) (stM (mkC τ 125) τ.2.2.2.1 w m)) Q := by
  have hs : scr = 1000000 := rfl
  have hi2 : ∀ i, i < 183 → ¬ i < 181 → i = 181 ∨ i = 182 := fun i a b => by omega
  obtain ⟨M, hM⟩ : ∃ M, M = stM (mkC τ 125) τ.2.2.2.1 w m := ⟨_, rfl⟩
  obtain ⟨F, hF⟩ : ∃ F : Nat → Nat, F = fun i => if i < 181 then i else i + τ.2.2.2.1 := ⟨_, rfl⟩
  have F0 : ∀ i, i < 181 → F i = i := fun i hi => by rw [hF]; exact if_pos hi
  have F1 : F 181 = 181 + τ.2.2.2.1 := by rw [hF]; rfl
  have F2 : F 182 = 182 + τ.2.2.2.1 := by rw [hF]; rfl
  have shK : ∀ k, 181 ≤ k → (sh 181 (mm 181 I v false) M).2.2.1 k = M.2.2.1 (k - 181) := fun k hk => if_neg (by omega)
  have shI : ∀ k x, 181 ≤ k → (sh 181 (mm 181 I v false) M).1 k x = M.1 (k - 181) x := fun k x hk => if_neg (by omega)
  have shR : ∀ k x, 181 ≤ k → (sh 181 (mm 181 I v false) M).2.1 k x = (M.2.1 (k - 181) x).map (shr 181) := fun k x hk => if_neg (by omega)
  have n1 : 181 + τ.2.2.2.1 - 181 = τ.2.2.2.1 := by omega
  have n2 : 182 + τ.2.2.2.1 - 181 = τ.2.2.2.1 + 1 := by omega
  have Mn : M.2.2.2.1 = τ.2.2.2.1 + 2 := by rw [hM, stM_n]
  rw [← hM] at kk ⊢
  refine x_re (σ' := tm 183 m I (fun j => M.1 (τ.2.2.2.1 + 1) j) (fun _ => 0) v) (L' := L) (st' := [.ref 181, .ref 0]) (n0 := 181) F rfl (show 183 ≤ scr by omega) (show 181 ≤ 183 by omega) hQ F0 (fun i hi => ?_) (fun i j hi hj e => ?_) (fun i hi => ?_) (fun i hi j => ?_) (fun i hi j => ?_) rfl (fun i x hx => ?_) (fun G ad had => ?_) kk
  · have hi : i < 183 := hi
    show F i < 181 + M.2.2.2.1
    rw [Mn]
    by_cases g : i < 181
    · rw [F0 i g]; omega
    · rcases hi2 i hi g with rfl | rfl
      · rw [F1]; omega
      · rw [F2]; omega
  · have hi : i < 183 := hi
    have hj : j < 183 := hj
    rw [hF] at e
    have e : (if i < 181 then i else i + τ.2.2.2.1) = (if j < 181 then j else j + τ.2.2.2.1) := e
    split at e <;> split at e <;> omega
  · have hi : i < 183 := hi
    by_cases g : i < 181
    · rw [F0 i g]
      exact (if_pos g).trans (if_pos g).symm
    · rcases hi2 i hi g with rfl | rfl
      · rw [F1, shK _ (by omega), n1, hM, stM_K, if_neg (by omega), if_pos rfl]
        rfl
      · rw [F2, shK _ (by omega), n2, hM, stM_K, if_pos rfl]
        rfl
  · have hi : i < 183 := hi
    by_cases g : i < 181
    · rw [F0 i g]
      exact (if_pos g).trans (if_pos g).symm
    · rcases hi2 i hi g with rfl | rfl
      · rw [F1, shI _ _ (by omega), n1, hM, stM_I]
        rfl
      · rw [F2, shI _ _ (by omega), n2]
        rfl
  · have hi : i < 183 := hi
    refine ⟨fun r hr => ?_, ?_⟩
    · have hr : (if i < 181 then R0 i j else if i = 181 ∧ j = 0 then some 182 else none) = some r := hr
      show r < 183
      by_cases g : i < 181
      · rw [if_pos g] at hr
        have := r0_n g hr
        omega
      · rw [if_neg g] at hr
        by_cases g2 : i = 181 ∧ j = 0
        · rw [if_pos g2] at hr
          have := Option.some.inj hr
          omega
        · rw [if_neg g2] at hr
          cases hr
    · by_cases g : i < 181
      · rw [F0 i g]
        have e1 : (tm 183 m I (fun j => M.1 (τ.2.2.2.1 + 1) j) (fun _ => 0) v).2.1 i j = R0 i j := if_pos g
        have e2 : (sh 181 (mm 181 I v false) M).2.1 i j = R0 i j := if_pos g
        rw [e1, e2]
        cases e : R0 i j with
        | none => rfl
        | some r => exact congrArg some (F0 r (r0_n g e))
      · rcases hi2 i hi g with rfl | rfl
        · rw [F1, shR _ _ (by omega), n1, hM, stM_R]
          by_cases e : j = 0
          · subst e
            rw [if_pos ⟨rfl, rfl⟩]
            show some (F 182) = some (shr 181 (τ.2.2.2.1 + 1))
            rw [F2, shr_lt (by omega)]
            exact congrArg some (by omega)
          · rw [if_neg (fun z => e z.2), if_neg (by omega), if_pos rfl]
            have e1 : (tm 183 m I (fun j => (stM (mkC τ 125) τ.2.2.2.1 w m).1 (τ.2.2.2.1 + 1) j) (fun _ => 0) v).2.1 181 j = none := if_neg (fun z => e z.2)
            rw [e1]
            rfl
        · rw [F2, shR _ _ (by omega), n2, hM, stM_R, if_neg (fun z => by omega), if_pos rfl]
          rfl
  · rcases hL x (List.mem_of_getElem? hx) with ⟨z, rfl⟩ | rfl | rfl
    · exact Or.inl ⟨hx, fun r hr => by cases hr⟩
    · exact Or.inr ⟨0, (show 0 < 183 by omega), rfl, by rw [F0 0 (by omega)]; exact hx⟩
    · exact Or.inl ⟨hx, fun r hr => by cases hr; exact Nat.le_refl _⟩
  · have a1 : ad 181 = G.2.2.2.2.2 (181 + τ.2.2.2.1) := (had 181 (show 181 < 183 by omega)).trans (by rw [F1])
    have a0 : ad 0 = G.2.2.2.2.2 0 := (had 0 (show 0 < 183 by omega)).trans (by rw [F0 0 (by omega)])
    show [Value.ref (adr (G.at ad) 181), Value.ref (adr (G.at ad) 0)] = [Value.ref (adr G (181 + τ.2.2.2.1)), Value.ref (adr G 0)]
    rw [adr_lt (G := G.at ad) (by omega), adr_lt (G := G.at ad) (by omega), adr_lt (G := G) (by omega), adr_lt (G := G) (by omega)]
    show [Value.ref (ad 181), Value.ref (ad 0)] = _
    rw [a1, a0]
end Txt2
theorem pi_cfg {b dr ba li : Int} (hb : b ≤ 5) (hba : ba ≤ 40) (hli : li ≤ 5) : PI (cfgA b dr ba li) := by
  refine ⟨⟨⟨hb, hba, hli⟩, show (0 : Int) ≤ 0 + 320 by decide⟩, ⟨fun m m0 m1 => absurd (show m < 0 from m1) (by omega), rfl⟩, fun f f0 f1 => absurd (show f < 0 from f1) (by omega), fun f f0 f1 => absurd (show f < 0 from f1) (by omega), rfl, rfl, ?_⟩
  show (0 : Int) = (0 + 8 * 0) * b + 0 + 0
  rw [Int.mul_zero, Int.zero_add, Int.zero_mul]
  rfl
theorem pi_dgN {A : AV} {P Q O : Nat → Int} (h : PI A) : ∀ i : Nat, PI (dgN A P Q O i)
  | 0 => h
  | i + 1 => pi_dog (pi_dgN h i)
theorem dgN_7 {A : AV} {P Q O : Nat → Int} : ∀ i : Nat, dgN A P Q O i 0 7 = A 0 7
  | 0 => rfl
  | i + 1 => (dogA_o (by decide) (fun _ => by decide)).trans (dgN_7 i)
theorem dgE_11 {e p q o : Int} (hp : 10 ≤ p) : e + 11 ≤ dgE e p q o := by
  have r0 : 2 ≤ ndg p := by
    unfold ndg
    rw [if_neg (by omega)]
    split <;> omega
  have r1 := ndg_r (z := q)
  have r2 := ndg_r (z := o)
  unfold dgE eN
  omega
theorem eDg_l {l : LX} {e : Int} : ∀ k : Nat, e + 11 * k ≤ eDg l e k
  | 0 => by show e + 11 * ((0 : Nat) : Int) ≤ e; omega
  | k + 1 => by
    have ih := eDg_l (l := l) (e := e) k
    have q := celZ_r (l := l) (i := 6 + (k : Int))
    have h1 := dgE_11 (e := eDg l e k) (p := pDg l k) (q := qDg l k) (o := oDg l k) (by unfold pDg; omega)
    show e + 11 * ((k + 1 : Nat) : Int) ≤ dgE (eDg l e k) (pDg l k) (qDg l k) (oDg l k)
    omega
section Cnf
variable {l : LX} {B : Nat} {Q : OO → Prop} {τ : MM} {T : Int → Int} {b f k g e d : Int}
/-- the configuration that the law's text says -/
def cfgD (l : LX) (b f k g d : Int) : AV := dgN (cfgA b (f - 100) k g) (pDg l) (qDg l) (oDg l) d.toNat
theorem law_load (hl : l.1.stackTraces = false) (hQ : ∀ o, Q o → PIN 0 o) (hH : HdT T b f k g) (he : hdE b f k g = e) (hb : 1 ≤ b ∧ b ≤ 5) (hf : 80 ≤ f ∧ f ≤ 120) (hk : 1 ≤ k ∧ k ≤ 40) (hg : 1 ≤ g ∧ g ≤ 5) (hd : 0 ≤ d ∧ d ≤ 3) (hD : ∀ i : Nat, (i : Int) < d → isDg T (eDg l e i) (pDg l i) (qDg l i) (oDg l i)) (hB : WB τ (eDg l e d.toNat) T) {K : Nat → Int → Int} {T2 : Int → Int} (hK : CREL K (S00 T2))
    (kk : ∀ K S, CREL K S → GOK S → gL S = 0 → gA S = cfgD l b f k g d → Ex l 332 B (6 * B) 205 [some (.ref scr), none, some (.int (iI d)), some (.ref 0), none, none, none, none, none, none, none, none, none] [.int (iI d)] (mm 181 K 0 false) Q) :
    Ex l 332 (B + 40) (6 * (B + 40)) 197 [some (.ref scr), some (.ref 181), some (.int (iI d)), some (.ref 0), none, none, none, none, none, none, none, none, none] [] (sh 181 (mm 181 K 0 false) τ) Q := by
  have hQ1 : ∀ o, Q o → PIN 181 o := fun o ho => by
    obtain ⟨h1, h2, h3, h4⟩ := hQ o ho
    refine ⟨h1, by omega, fun i hi => absurd hi (by omega), fun v hv r hr => ?_⟩
    rcases h4 v hv r hr with q | q
    · exact absurd q (Nat.not_lt_zero r)
    · exact Or.inr q
  have r1 := eN_r (e := 5) (z := b)
  have r2 := eN_r (e := eN 5 b) (z := f)
  have r3 := eN_r (e := eN (eN 5 b) f) (z := k)
  have r4 := eN_r (e := eN (eN (eN 5 b) f) k) (z := g)
  have u1 := ndg_1 (z := b) (by omega)
  have u3 := ndg_2 (z := k) (by omega)
  have u4 := ndg_1 (z := g) (by omega)
  have e14 : 14 ≤ e ∧ e ≤ 17 := by
    rw [← he]
    unfold hdE
    refine ⟨by omega, ?_⟩
    unfold eN at r2 ⊢
    have := ndg_r (z := f)
    omega
  have x1 := eDg_r (l := l) (e := e) d.toNat
  have x2 := eDg_l (l := l) (e := e) d.toNat
  have hd4 : d = 0 ∨ d = 1 ∨ d = 2 ∨ d = 3 := by omega
  obtain ⟨N, hN⟩ : ∃ N, N = eDg l e d.toNat := ⟨_, rfl⟩
  rw [← hN] at hB x1 x2
  have hcap : N < capF N := by
    unfold capF
    by_cases g1 : N ≤ 22
    · rw [if_pos g1]
      rcases hd4 with rfl | rfl | rfl | rfl
      · have : ((0 : Int).toNat : Int) = 0 := rfl
        show N < 22
        omega
      · have : ((1 : Int).toNat : Int) = 1 := rfl
        omega
      · have : ((2 : Int).toNat : Int) = 2 := rfl
        omega
      · have : ((3 : Int).toNat : Int) = 3 := rfl
        omega
    · rw [if_neg g1]
      by_cases g2 : N ≤ 46
      · rw [if_pos g2]
        show N < 46
        rcases hd4 with rfl | rfl | rfl | rfl
        · have : ((0 : Int).toNat : Int) = 0 := rfl
          omega
        · have : ((1 : Int).toNat : Int) = 1 := rfl
          omega
        · have : ((2 : Int).toNat : Int) = 2 := rfl
          omega
        · have : ((3 : Int).toNat : Int) = 3 := rfl
          omega
      · rw [if_neg g2]
        have := hB.2.2.2
        show N < 94
        omega
  obtain ⟨hBS, hn, h0, h60⟩ := hB
  have hbn := bs_n hBS
  refine x_aload_n (pc := 197) rfl d332_197 ?_
  refine x_aload_n (pc := 198) rfl d332_198 ?_
  refine x_mask [true, false, true, true, true, true, true, true, true, true, true, true, true] ?_
  dsimp only [mask]
  refine x_less (k2 := 2 + (8 + B)) (n2 := N.toNat + 4 + (6 * 8 + 6 * B)) (by omega) (by omega) rfl ?_
  refine x_bT (pc := 199) (m := N.toNat) (b := 181) (n0 := 181) (rest := [.ref 0]) hl c332_250 hBS (by omega) (by omega) (by omega) (by decide) r0_rf (Nat.le_of_ble_eq_true rfl) rfl rfl hQ1 (by decide) (by decide +kernel) (by decide +kernel) d332_199 (fun w hw hT2 hr => ?_)
  refine x_textS (by omega) (by omega) hQ1 (fun q hq => ?_) ?_
  · simp only [List.mem_cons, Option.some.injEq, List.not_mem_nil, or_false, reduceCtorEq, false_or] at hq
    rcases hq with rfl | rfl | rfl
    · exact Or.inr (Or.inr rfl)
    · exact Or.inl ⟨_, rfl⟩
    · exact Or.inr (Or.inl rfl)
  · have hTT : ∀ j : Int, 0 ≤ j → j < ((N.toNat : Nat) : Int) → (stM (mkC τ 125) τ.2.2.2.1 w N.toNat).1 (τ.2.2.2.1 + 1) j = T j := fun j j0 j1 => by
      rw [stM_T hw j0 j1, hT2 j j0 j1]
    refine x_callS2 (k := B) (n := 6 * B) (pc := 202) (t := 303) (As := [.ref 0, .ref 181]) (rest := []) c332_288 (ct_load (len := N.toNat) (S := S00 T2) (W := fun _ => 0) (C := cfgD l b f k g d) hl (by omega) (fun i i0 i1 => by rw [stM_T hw i0 i1]; exact hr i i0 i1) rfl (gok_00 T2) hK (fun T3 h3 => ?_)) rfl rfl (Nat.le_of_ble_eq_true rfl) (by decide +kernel) (by decide +kernel) d332_202 (Or.inr fun v' τ' e => by obtain ⟨J, e1, -⟩ := e; cases e1; rfl) (fun v' τ' e => ?_) (fun E τ' e _ => by obtain ⟨J, e1, -⟩ := e; cases e1)
    · rw [show ((N.toNat : Nat) : Int) = N from by omega] at h3 hTT ⊢
      have ha : agT T T3 N := fun j j0 j1 => (h3 j j0 j1).trans (hTT j j0 j1)
      obtain ⟨c0, c1, c2, c3, c4, c5⟩ := hd_w hH ha (by rw [he]; exact x1.1)
      refine conf_ok (E := eDg l e) (d := d.toNat) c0 c1 c2 c3 c4 c5 he.symm (by omega) (by omega) (by omega) (by omega) (by omega) (fun i hi => ⟨dg_w (hD i (by omega)) ha ?_ ?_, rfl, ?_, ?_, ?_⟩) hN.symm
      · rw [hN]
        exact eDg_m (e := e) (show i + 1 ≤ d.toNat by omega)
      · have := eDg_r (l := l) (e := e) i
        omega
      · have := celZ_r (l := l) (i := 6 + (i : Int))
        unfold pDg
        omega
      · have := celZ_r (l := l) (i := 9 + (i : Int))
        have := celZ_r (l := l) (i := 6 + (i : Int))
        unfold pDg qDg
        omega
      · have := celZ_r (l := l) (i := 12 + (i : Int))
        unfold oDg
        omega
    · obtain ⟨K2, e1, S2, hK2, hG2, hL2, hA2⟩ := e
      cases e1
      have e4 : cfgD l b f k g d 0 4 = d := by
        unfold cfgD
        rw [dgN_4]
        show (0 : Int) + ((d.toNat : Nat) : Int) = d
        omega
      show Ex l 332 B (6 * B) 205 _ [.int (iI (cfgD l b f k g d 0 4))] _ Q
      rw [e4]
      exact kk K2 S2 hK2 hG2 hL2 hA2
theorem law_conf (hl : l.1.stackTraces = false) (hn : l.2.1 ≤ 2147483647) {S : GS} (hS : GOK S) (hL : gL S = 0) (hA : gA S = cfgD l b f k g d) (hb : b ≤ 5) (hk : k ≤ 40) (hg : g ≤ 5) (hd : 0 ≤ d ∧ d ≤ 3) {K : Nat → Int → Int} (hK : CREL K S)
    (kk : ∀ (S2 : GS) (K : Nat → Int → Int), GOK S2 → gL S2 = 0 → PI (gA S2) → gA S2 0 7 ≤ 40000 → CREL K S2 → Ex l 332 B (6 * B) 253 [some (.ref scr), none, none, some (.ref 0), some (.int (iI 0)), none, none, none, none, none, none, none, none] [] (mm 181 K 0 false) Q) :
    Ex l 332 (B + 4650) (6 * (B + 4650)) 205 [some (.ref scr), none, some (.int (iI d)), some (.ref 0), none, none, none, none, none, none, none, none, none] [.int (iI d)] (mm 181 K 0 false) Q := by
  have hP : PI (gA S) := by rw [hA]; exact pi_dgN (pi_cfg hb hk hg) _
  have h7 : gA S 0 7 = 0 := by rw [hA]; exact (dgN_7 _).trans rfl
  have q0 := celZ_r (l := l) (i := 16)
  have q1 := celZ_r (l := l) (i := 17)
  have q2 := celZ_r (l := l) (i := 18)
  have q3 := celZ_r (l := l) (i := 19)
  refine x_iload_n (pc := 205) rfl d332_205 ?_
  refine x_icmp_ne (pc := 206) (tgt := 248) ⟨by omega, by omega⟩ ⟨by omega, by omega⟩ d332_206 (by decide) (fun h => absurd rfl h) (fun _ => ?_)
  refine ex_le (B' := (B + 41) + 4600) (by omega) rfl ?_
  refine x_aload_n (pc := 209) rfl d332_209 ?_
  refine x_aload_n (pc := 210) rfl d332_210 ?_
  refine x_bipush (pc := 211) (by decide) d332_211 ?_
  refine x_cSs (pc := 213) (As := [.ref scr, .int (iI 16)]) (rest := [.ref 0]) c332_275 (ct_cell hl hn (by omega) (by omega)) rfl rfl (Nat.le_of_ble_eq_true rfl) (by decide +kernel) (by decide +kernel) (by decide +kernel) rfl d332_213 ?_
  refine x_qSs (pc := 216) (As := [.ref 0, .int (iI (celZ l 16))]) (rest := []) c332_291 (ct_std hl hS hP hK q0.1 q0.2 (by omega)) rfl rfl (Nat.le_of_ble_eq_true rfl) (by decide +kernel) (by decide +kernel) d332_216 (fun K1 h1 => ?_)
  refine x_if_eq (pc := 219) (tgt := 248) ⟨by omega, by omega⟩ d332_219 (by decide) (fun h => absurd h (by decide)) (fun _ => ?_)
  refine x_aload_n (pc := 222) rfl d332_222 ?_
  refine x_iconst (pc := 223) d332_223 ?_
  refine x_aload_n (pc := 224) rfl d332_224 ?_
  refine x_bipush (pc := 225) (by decide) d332_225 ?_
  refine x_cSs (pc := 227) (As := [.ref scr, .int (iI 17)]) (rest := [.int (iI 0), .ref 0]) c332_275 (ct_cell hl hn (by omega) (by omega)) rfl rfl (Nat.le_of_ble_eq_true rfl) (by decide +kernel) (by decide +kernel) (by decide +kernel) rfl d332_227 ?_
  refine x_aload_n (pc := 230) rfl d332_230 ?_
  refine x_bipush (pc := 231) (by decide) d332_231 ?_
  refine x_cSs (pc := 233) (As := [.ref scr, .int (iI 18)]) (rest := [.int (iI (celZ l 17)), .int (iI 0), .ref 0]) c332_275 (ct_cell hl hn (by omega) (by omega)) rfl rfl (Nat.le_of_ble_eq_true rfl) (by decide +kernel) (by decide +kernel) (by decide +kernel) rfl d332_233 ?_
  refine x_aload_n (pc := 236) rfl d332_236 ?_
  refine x_bipush (pc := 237) (by decide) d332_237 ?_
  refine x_cSs (pc := 239) (As := [.ref scr, .int (iI 19)]) (rest := [.int (iI (celZ l 18)), .int (iI (celZ l 17)), .int (iI 0), .ref 0]) c332_275 (ct_cell hl hn (by omega) (by omega)) rfl rfl (Nat.le_of_ble_eq_true rfl) (by decide +kernel) (by decide +kernel) (by decide +kernel) rfl d332_239 ?_
  refine x_qSs (pc := 242) (As := [.ref 0, .int (iI 0), .int (iI (celZ l 17)), .int (iI (celZ l 18)), .int (iI (celZ l 19))]) (rest := []) c332_294 (ct_acts hl hS hL hP (by omega) h1 q1.1 q1.2 q2.1 q2.2 q3.1 q3.2 (by decide) (by decide)) rfl rfl (Nat.le_of_ble_eq_true rfl) (by decide +kernel) (by decide +kernel) d332_242 (fun K2 h2 => ?_)
  refine x_if_ne (pc := 245) (tgt := 250) ⟨by omega, by omega⟩ d332_245 (by decide) (fun _ => ?_) (fun h => absurd h (by decide))
  obtain ⟨S2, m1, m2, m3, m4, -⟩ := h2
  have hap := act_pi (w := 0) (x := celZ l 17) (y := celZ l 18) (z := celZ l 19) hS.1 hP q1.1 q1.2 q3.1
  refine x_iconst (pc := 250) d332_250 ?_
  refine x_istore (pc := 251) (by decide +kernel) rfl d332_251 ?_
  dsimp only [List.set]
  refine x_mask [true, true, false, true, true, true, true, true, true, true, true, true, true] ?_
  dsimp only [mask]
  exact kk S2 K2 m2 m3 (by rw [m4]; exact hap.1) (by rw [m4]; omega) m1
end Cnf
