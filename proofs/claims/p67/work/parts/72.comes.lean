/-! ===== a text comes to the buffer ===== -/
theorem iI_orc {a c : Int} (ha : 0 ≤ a) (hb : a * 256 + c ≤ 2147483647) (h0 : 0 ≤ c) (h1 : c ≤ 255) : iI (a * 256) ||| iI c = iI (a * 256 + c) := by
  obtain ⟨n, rfl⟩ := toN ha
  obtain ⟨m, rfl⟩ := toN h0
  apply iI_ext
  rw [Int32.toBitVec_or, BitVec.toNat_or, iI_bv, iI_bv, Int.emod_eq_of_lt (by omega) (by omega), Int.emod_eq_of_lt (by omega) (by omega), Int.emod_eq_of_lt (by omega) (by omega)]
  have h := Nat.shiftLeft_add_eq_or_of_lt (b := m) (i := 8) (by omega) n
  rw [Nat.shiftLeft_eq] at h
  have e1 : ((n : Int) * 256).toNat = n * 2 ^ 8 := by omega
  have e2 : ((n : Int) * 256 + (m : Int)).toNat = n * 2 ^ 8 + m := by omega
  rw [e1, e2, h]
  rfl
section Cut
variable {l : LX} {y k n pc : Nat} {L : LL} {st : List Value} {σ : MM} {Q : OO → Prop}
/-- fewer places, told otherwise -/
theorem x_cut {σ' : MM} (hq : σ'.2.2.2.1 ≤ σ.2.2.2.1) (hf : σ'.2.2.2.2.2 = false) (hag : ∀ i, i < σ'.2.2.2.1 → σ'.1 i = σ.1 i ∧ σ'.2.1 i = σ.2.1 i ∧ σ'.2.2.1 i = σ.2.2.1 i) (kk : Ex l y k n pc L st σ' Q) : Ex l y k n pc L st σ Q := by
  intro G p e R s m args below meth c A CE SE Qf hA hC hS hF H locs cells slots ls h1 h2 hL hW hR
  refine kk G p e R s m args below meth c A CE SE Qf hA hC hS hF H locs cells slots ls h1 h2 hL ?_ (fun z => by rw [hf] at z; cases z)
  have hg : ∀ (i : Nat) (x : Nat × va_E), (wsO G σ')[i]? = some x → (wsO G σ)[i]? = some x := fun i x hx => by
    by_cases hi : i < σ'.2.2.2.1
    · have e : cellO G σ' i = cellO G σ i := by
        obtain ⟨a1, a2, a3⟩ := hag i hi
        unfold cellO fieldsO
        rw [a1, a2, a3]
      rw [wsO_get hi, e] at hx
      rw [wsO_get (by omega), ← hx]
    · rw [wsO_out (Nat.le_of_not_lt hi)] at hx
      cases hx
  exact ⟨Nat.le_trans hq hW.1, fun i x hx => hW.2.1 i x (hg i x hx), ⟨fun i j x z hx hz => hW.2.2.1.1 i j x z (hg i x hx) (hg j z hz), fun i x hx => hW.2.2.1.2 i x (hg i x hx)⟩, hW.2.2.2⟩
end Cut
theorem r0_n0 : (List.range 181).all (fun k => (R0L.getD k []).all (fun x => match x with
    | some r => decide (r < 181)
    | none => true)) = true := by decide +kernel
theorem r0_n {k j r : Nat} (hk : k < 181) (h : R0 k j = some r) : r < 181 := by
  have h1 := List.all_eq_true.mp r0_n0 k (List.mem_range.mpr hk)
  unfold R0 at h
  rw [List.getD_eq_getElem?_getD (l := R0L.getD k [])] at h
  cases e : (R0L.getD k [])[j]? with
  | none => rw [e] at h; cases h
  | some x =>
    rw [e] at h
    have h2 := List.all_eq_true.mp h1 x (List.mem_of_getElem? e)
    have h : x = some r := h
    subst h
    exact of_decide_eq_true h2
theorem pin_oE {v : Int} {w : Option Value} {P : (Nat → Int → Int) → Prop} (hw : ∀ x r, w = some x → x = .ref r → False) : ∀ o, oE 181 v false w P o → PIN 181 o := fun o ho => by
  obtain ⟨J, rfl, -⟩ := ho
  exact ⟨rfl, Nat.le_refl _, fun k hk j r h => Or.inl (r0_n hk h), fun x hx r hr => (hw x r (Sum.inl.inj hx) hr).elim⟩
/-- the modem, a text of len bytes, n places; a row of five ints -/
def tm (n len : Nat) (I : Nat → Int → Int) (T W : Int → Int) (v : Int) : MM := (fun k x => if k < 181 then I k x else if k = 182 then T x else if k = 183 then W x else 0, fun k j => if k < 181 then R0 k j else if k = 181 ∧ j = 0 then some 182 else none, fun k => if k < 181 then K0 k else if k = 181 then 125 else if k = 182 then 10 * len + 2 else 50, n, v, false)
section Tm
variable {n len : Nat} {I : Nat → Int → Int} {T W : Int → Int} {v : Int}
theorem tm_st (h : 183 ≤ n) : isST (tm n len I T W v) 181 182 len := ⟨⟨(show 181 < n by omega), rfl⟩, rfl, ⟨(show 182 < n by omega), rfl⟩, rfl⟩
theorem tm_rf (h : 183 ≤ n) : ∀ i, i < n → RF n (tm n len I T W v) i := fun i hi j r hr => by
  have hr : (if i < 181 then R0 i j else if i = 181 ∧ j = 0 then some 182 else none) = some r := hr
  by_cases g : i < 181
  · rw [if_pos g] at hr
    have := r0_n g hr
    omega
  · rw [if_neg g] at hr
    by_cases g2 : i = 181 ∧ j = 0
    · rw [if_pos g2] at hr
      have := Option.some.inj hr
      omega
    · rw [if_neg g2] at hr
      cases hr
theorem tm_new : mkC (tm 183 len I T W v) (10 * 5) = tm 184 len I T (fun _ => 0) v := by
  unfold mkC tm
  refine Prod.ext ?_ (Prod.ext ?_ (Prod.ext ?_ rfl))
  · funext a b
    show (if a = 183 then 0 else if a < 181 then I a b else if a = 182 then T b else if a = 183 then W b else 0) = if a < 181 then I a b else if a = 182 then T b else if a = 183 then 0 else 0
    by_cases g : a = 183
    · subst g; rfl
    · rw [if_neg g, if_neg g]
      by_cases g1 : a < 181
      · rw [if_pos g1, if_pos g1]
      · rw [if_neg g1, if_neg g1, if_neg g]
  · funext a b
    show (if a = 183 then none else if a < 181 then R0 a b else if a = 181 ∧ b = 0 then some 182 else none) = if a < 181 then R0 a b else if a = 181 ∧ b = 0 then some 182 else none
    by_cases g : a = 183
    · subst g; rfl
    · rw [if_neg g]
  · funext a
    show (if a = 183 then 50 else if a < 181 then K0 a else if a = 181 then 125 else if a = 182 then 10 * len + 2 else 50) = if a < 181 then K0 a else if a = 181 then 125 else if a = 182 then 10 * len + 2 else 50
    by_cases g : a = 183
    · subst g; rfl
    · rw [if_neg g]
theorem tm_put {i z : Int} : ((up2 (tm n len I T W v).1 183 i z, (tm n len I T W v).2) : MM) = tm n len I T (fun j => if j = i then z else W j) v := by
  refine Prod.ext ?_ rfl
  funext a b
  show up2 (tm n len I T W v).1 183 i z a b = if a < 181 then I a b else if a = 182 then T b else if a = 183 then (if b = i then z else W b) else 0
  unfold up2
  by_cases g : a = 183
  · subst g
    by_cases g2 : b = i
    · rw [if_pos ⟨rfl, g2⟩]
      show z = if b = i then z else W b
      rw [if_pos g2]
    · rw [if_neg (fun h => g2 h.2)]
      show W b = if b = i then z else W b
      rw [if_neg g2]
  · rw [if_neg (fun h => g h.1)]
    show (if a < 181 then I a b else if a = 182 then T b else if a = 183 then W b else 0) = _
    rw [if_neg g, if_neg g]
theorem tm_fm {K : Nat → Int → Int} {u : Int} : fm 181 (tm n len I T W v) (mm 181 K u false) = tm n len K T W u := by
  refine Prod.ext ?_ (Prod.ext ?_ (Prod.ext ?_ rfl))
  · funext a b
    show (if a < 181 then K a b else if a < 181 then I a b else _) = if a < 181 then K a b else _
    by_cases g : a < 181
    · rw [if_pos g, if_pos g]
    · rw [if_neg g, if_neg g, if_neg g]
  · funext a b
    show (if a < 181 then R0 a b else if a < 181 then R0 a b else _) = if a < 181 then R0 a b else _
    by_cases g : a < 181
    · rw [if_pos g, if_pos g]
    · rw [if_neg g, if_neg g]
  · funext a
    show (if a < 181 then K0 a else if a < 181 then K0 a else _) = if a < 181 then K0 a else _
    by_cases g : a < 181
    · rw [if_pos g, if_pos g]
    · rw [if_neg g, if_neg g]
theorem tm_ag : ∀ i, i < 181 → I i = (tm n len I T W v).1 i ∧ R0 i = (tm n len I T W v).2.1 i ∧ K0 i = (tm n len I T W v).2.2.1 i := fun i hi => ⟨funext fun _ => (if_pos hi).symm, funext fun _ => (if_pos hi).symm, (if_pos hi).symm⟩
end Tm
/-- r bytes of word j -/
def pw (C : Int → Int) (j : Nat) : Nat → Int
  | 0 => 0
  | r + 1 => pw C j r * 256 + C (4 * j + r)
theorem pw_4 {C : Int → Int} {j : Nat} : pw C j 4 = ((C (4 * j + (0 : Nat)) * 256 + C (4 * j + (1 : Nat))) * 256 + C (4 * j + (2 : Nat))) * 256 + C (4 * j + (3 : Nat)) := by
  show (((0 * 256 + C (4 * j + (0 : Nat))) * 256 + C (4 * j + (1 : Nat))) * 256 + C (4 * j + (2 : Nat))) * 256 + C (4 * j + (3 : Nat)) = _
  rw [Int.zero_mul, Int.zero_add]
theorem pw_y {C : Int → Int} {j : Nat} (hC : ∀ i, 0 ≤ i → 0 ≤ C i ∧ C i ≤ 127) {r : Nat} (hr : r < 4) : byt4 (pw C j 4) r = C (4 * j + r) := by
  have c0 := hC (4 * j + (0 : Nat)) (by omega); have c1 := hC (4 * j + (1 : Nat)) (by omega); have c2 := hC (4 * j + (2 : Nat)) (by omega); have c3 := hC (4 * j + (3 : Nat)) (by omega)
  unfold byt4
  rw [pw_4]
  match r, hr with
  | 0, _ =>
    rw [show (24 - 8 * ((0 : Nat) : Int)).toNat = 24 from rfl, show (2 : Int) ^ 24 = 16777216 from rfl]
    omega
  | 1, _ =>
    rw [show (24 - 8 * ((1 : Nat) : Int)).toNat = 16 from rfl, show (2 : Int) ^ 16 = 65536 from rfl]
    omega
  | 2, _ =>
    rw [show (24 - 8 * ((2 : Nat) : Int)).toNat = 8 from rfl, show (2 : Int) ^ 8 = 256 from rfl]
    omega
  | 3, _ =>
    rw [show (24 - 8 * ((3 : Nat) : Int)).toNat = 0 from rfl, show (2 : Int) ^ 0 = 1 from rfl]
    omega
/-- what is appended -/
theorem ap20' {U : Int → Int} {C : Int → Int} {k : Int} (hC : ∀ i, 0 ≤ i → 0 ≤ C i ∧ C i ≤ 127) {i : Int} (h0 : k ≤ i) (h1 : i < k + 20) : txtG (txtG (txtG (txtG (txtG U k (pw C 0 4)) (k + 4) (pw C 1 4)) (k + 8) (pw C 2 4)) (k + 12) (pw C 3 4)) (k + 16) (pw C 4 4) i = C (i - k) := by
  have go : ∀ (j : Nat) (m : Int), m = k + 4 * j → m ≤ i → i < m + 4 → byt4 (pw C j 4) (i - m) = C (i - k) := fun j m hm ha hb => by
    have := pw_y (C := C) (j := j) hC (r := (i - m).toNat) (by omega)
    rw [show (((i - m).toNat : Nat) : Int) = i - m from by omega] at this
    rw [this, show 4 * (j : Int) + (i - m) = i - k from by omega]
  show (if k + 16 ≤ i ∧ i < k + 16 + 4 then byt4 (pw C 4 4) (i - (k + 16)) else if k + 12 ≤ i ∧ i < k + 12 + 4 then byt4 (pw C 3 4) (i - (k + 12)) else if k + 8 ≤ i ∧ i < k + 8 + 4 then byt4 (pw C 2 4) (i - (k + 8)) else if k + 4 ≤ i ∧ i < k + 4 + 4 then byt4 (pw C 1 4) (i - (k + 4)) else if k ≤ i ∧ i < k + 4 then byt4 (pw C 0 4) (i - k) else U i) = _
  by_cases g4 : k + 16 ≤ i
  · rw [if_pos ⟨g4, by omega⟩]
    exact go 4 _ (by omega) g4 (by omega)
  · rw [if_neg (by omega)]
    by_cases g3 : k + 12 ≤ i
    · rw [if_pos ⟨g3, by omega⟩]
      exact go 3 _ (by omega) g3 (by omega)
    · rw [if_neg (by omega)]
      by_cases g2 : k + 8 ≤ i
      · rw [if_pos ⟨g2, by omega⟩]
        exact go 2 _ (by omega) g2 (by omega)
      · rw [if_neg (by omega)]
        by_cases g1 : k + 4 ≤ i
        · rw [if_pos ⟨g1, by omega⟩]
          exact go 1 _ (by omega) g1 (by omega)
        · rw [if_neg (by omega), if_pos ⟨h0, by omega⟩]
          exact go 0 _ (by omega) h0 (by omega)
theorem ap20_o {U : Int → Int} {k z0 z1 z2 z3 z4 : Int} {i : Int} (h0 : i < k) : txtG (txtG (txtG (txtG (txtG U k z0) (k + 4) z1) (k + 8) z2) (k + 12) z3) (k + 16) z4 i = U i := by
  unfold txtG
  rw [if_neg (by omega), if_neg (by omega), if_neg (by omega), if_neg (by omega), if_neg (by omega)]

theorem pw_bn {C : Int → Int} {j r : Nat} (hC : ∀ q : Nat, 0 ≤ C (4 * j + q) ∧ C (4 * j + q) ≤ 127) (hr : r ≤ 3) : 0 ≤ pw C j r ∧ pw C j r ≤ 8355711 := by
  have c0 := hC 0; have c1 := hC 1; have c2 := hC 2
  have e0 : pw C j 0 = 0 := rfl
  have e1 : pw C j 1 = pw C j 0 * 256 + C (4 * j + (0 : Nat)) := rfl
  have e2 : pw C j 2 = pw C j 1 * 256 + C (4 * j + (1 : Nat)) := rfl
  have e3 : pw C j 3 = pw C j 2 * 256 + C (4 * j + (2 : Nat)) := rfl
  match r, hr with
  | 0, _ => omega
  | 1, _ => omega
  | 2, _ => omega
  | 3, _ => omega

section Comes
variable {l : LX} {B len : Nat} {T : Int → Int} {v : Int} {Q : OO → Prop}
def chr (T : Int → Int) (len : Nat) (k i : Int) : Int := if k + i < len then T (k + i) else 0

theorem lp_word (hl : l.1.stackTraces = false) (hlen : len ≤ 1000) (hT : ∀ i : Int, 0 ≤ i → i < len → 0 ≤ T i ∧ T i ≤ 127) {k : Int} (k0 : 0 ≤ k) (k1 : k ≤ 480) {I : Nat → Int → Int} : ∀ (m i : Nat) (W : Int → Int), m + i = 20 → (∀ j : Nat, j < 5 → W j = pw (chr T len k) j (min 4 (i - 4 * j))) →
    (∀ W : Int → Int, (∀ j : Nat, j < 5 → W j = pw (chr T len k) j 4) → Ex l 302 B (6 * B) 69 [some (.ref 0), some (.ref 181), some (.int (iI k)), some (.ref 183), none] [] (tm 184 len I T W v) Q) → Ex l 302 B (6 * B) 17 [some (.ref 0), some (.ref 181), some (.int (iI k)), some (.ref 183), some (.int (iI i))] [] (tm 184 len I T W v) Q := by
  have hC : ∀ i, 0 ≤ i → (0 ≤ chr T len k i ∧ chr T len k i ≤ 127) := fun i i0 => by
    unfold chr
    split
    · exact hT _ (by omega) (by omega)
    · decide
  intro m
  induction m with
  | zero =>
    intro i W hm hW hk
    have e : i = 20 := by omega
    subst e
    refine x_iload (pc := 17) rfl d302_17 ?_
    refine x_bipush (pc := 19) (by decide) d302_19 ?_
    refine x_icmp_ge (pc := 21) (tgt := 69) ⟨by omega, by omega⟩ ⟨by omega, by omega⟩ d302_21 (by decide) (fun _ => ?_) (fun _ => by exfalso; omega)
    refine x_mask [true, true, true, true, false] ?_
    refine hk W (fun j hj => ?_)
    rw [hW j hj, show min 4 (20 - 4 * j) = 4 from by omega]
  | succ m ih =>
    intro i W hm hW hk
    have hw := hW (i / 4) (by omega)
    have hb := pw_bn (C := chr T len k) (j := i / 4) (r := min 4 (i - 4 * (i / 4))) (fun q => hC _ (by omega)) (by omega)
    rw [show (((i / 4 : Nat) : Int)) = (i : Int) / 4 from by omega] at hw
    rw [← hw] at hb
    have hci := hC (i : Int) (by omega)
    have fin : ∀ c : Int, c = chr T len k i → Ex l 302 B (6 * B) 61 [some (.ref 0), some (.ref 181), some (.int (iI k)), some (.ref 183), some (.int (iI i))] [.int (iI c), .int (iI (W ((i : Int) / 4) * 2 ^ (8 : Int).toNat)), .int (iI ((i : Int) / 4)), .ref 183] (tm 184 len I T W v) Q := fun c hc => by
      subst hc
      rw [show (2 : Int) ^ (8 : Int).toNat = 256 from by decide]
      refine x_ior (pc := 61) (iI_orc (a := W ((i : Int) / 4)) (by omega) (by omega) (by omega) (by omega)) d302_61 ?_
      refine x_iast (pc := 62) (a := 183) (m0 := 5) ⟨(show 183 < 184 by decide), rfl⟩ (by omega) (by omega) (by omega) d302_62 ?_
      rw [tm_put]
      refine x_iinc (pc := 63) rfl (by decide +kernel) rfl d302_63 ?_
      dsimp only [List.set]
      refine x_goto (pc := 66) (tgt := 17) d302_66 (by decide) ?_
      refine ih (i + 1) _ (by omega) (fun j hj => ?_) hk
      by_cases g : j = i / 4
      · have g' : (j : Int) = (i : Int) / 4 := by omega
        rw [if_pos g', hw, show min 4 (i + 1 - 4 * j) = min 4 (i - 4 * (i / 4)) + 1 from by omega]
        show _ = pw (chr T len k) j (min 4 (i - 4 * (i / 4))) * 256 + chr T len k (4 * (j : Int) + ((min 4 (i - 4 * (i / 4)) : Nat) : Int))
        rw [g, show 4 * (((i / 4 : Nat)) : Int) + ((min 4 (i - 4 * (i / 4)) : Nat) : Int) = i from by omega]
      · have g' : ¬ (j : Int) = (i : Int) / 4 := by omega
        rw [if_neg g', hW j hj]
        congr 1
        omega
    refine x_iload (pc := 17) rfl d302_17 ?_
    refine x_bipush (pc := 19) (by decide) d302_19 ?_
    refine x_icmp_ge (pc := 21) (tgt := 69) ⟨by omega, by omega⟩ ⟨by omega, by omega⟩ d302_21 (by decide) (fun _ => by exfalso; omega) (fun _ => ?_)
    refine x_aload_n (pc := 24) rfl d302_24 ?_
    refine x_iload (pc := 25) rfl d302_25 ?_
    refine x_iconst (pc := 27) d302_27 ?_
    refine x_idiv (pc := 28) (by omega) (by omega) (by omega) (by omega) d302_28 ?_
    refine x_aload_n (pc := 29) rfl d302_29 ?_
    refine x_iload (pc := 30) rfl d302_30 ?_
    refine x_iconst (pc := 32) d302_32 ?_
    refine x_idiv (pc := 33) (by omega) (by omega) (by omega) (by omega) d302_33 ?_
    refine x_iald (pc := 34) (a := 183) (m0 := 5) ⟨(show 183 < 184 by decide), rfl⟩ (by omega) (by omega) (by omega) d302_34 ?_
    refine x_val (pc := 35) (w := W ((i : Int) / 4)) rfl ?_
    refine x_bipush (pc := 35) (by decide) d302_35 ?_
    refine x_ishl (pc := 37) (iI_shl (by decide) (by decide)) d302_37 ?_
    refine x_iload_n (pc := 38) rfl d302_38 ?_
    refine x_iload (pc := 39) rfl d302_39 ?_
    refine x_iadd (pc := 41) d302_41 ?_
    refine x_aload_n (pc := 42) rfl d302_42 ?_
    refine x_cVs (pc := 43) (As := []) c302_25 (ct_stLen hl (tm_st (by decide)) (by omega)) ⟨(show 181 < 184 by decide), rfl⟩ rfl rfl (Nat.le_of_ble_eq_true rfl) (by decide +kernel) (by decide +kernel) rfl d302_43 ?_
    refine x_icmp_ge (pc := 46) (tgt := 60) ⟨by omega, by omega⟩ ⟨by omega, by omega⟩ d302_46 (by decide) (fun g => ?_) (fun g => ?_)
    · refine x_iconst (pc := 60) d302_60 ?_
      refine fin 0 ?_
      unfold chr
      rw [if_neg (by omega)]
    · refine (show _ from ?_)
      refine x_aload_n (pc := 49) rfl d302_49 ?_
      refine x_iload_n (pc := 50) rfl d302_50 ?_
      refine x_iload (pc := 51) rfl d302_51 ?_
      refine x_iadd (pc := 53) d302_53 ?_
      refine x_cVs (pc := 54) (As := [.int (iI (k + i))]) c302_30 (ct_chP hl (tm_st (by decide)) (j := k + i) (by omega) (by omega) hlen (hT _ (by omega) (by omega))) ⟨(show 181 < 184 by decide), rfl⟩ rfl rfl (Nat.le_of_ble_eq_true rfl) (by decide +kernel) (by decide +kernel) rfl d302_54 ?_
      refine x_val (pc := 57) (w := T (k + i)) rfl ?_
      refine x_goto (pc := 57) (tgt := 61) d302_57 (by decide) ?_
      refine fin (T (k + i)) ?_
      unfold chr
      rw [if_pos (by omega)]
theorem lp_com (hl : l.1.stackTraces = false) (hlen : len ≤ 400) (hT : ∀ i : Int, 0 ≤ i → i < len → 0 ≤ T i ∧ T i ≤ 127) {S0 : GS} : ∀ (m : Nat) (k : Int) (S : GS) (I : Nat → Int → Int) (W : Int → Int), len ≤ k + 20 * m → 0 ≤ k → k ≤ len + 19 → gL S = k → (∀ i : Int, 0 ≤ i → i < len → i < k → gT S i = T i) → (∃ T1, S = sL S0 (k, T1)) → GOK S → CREL I S →
    Ex l 302 (B + (2 * m + 1)) (6 * (B + (2 * m + 1))) 2 [some (.ref 0), some (.ref 181), some (.int (iI k)), none, none] [] (tm 183 len I T W v) (oE 181 v false none (fun K => ∃ T2 : Int → Int, (∀ i : Int, 0 ≤ i → i < len → T2 i = T i) ∧ CREL K (sL S0 ((len : Int), T2)))) := by
  have fin : ∀ (k : Int) (S : GS) (I : Nat → Int → Int) (W : Int → Int), len ≤ k → 0 ≤ k → k ≤ len + 19 → gL S = k → (∀ i : Int, 0 ≤ i → i < len → i < k → gT S i = T i) → (∃ T1, S = sL S0 (k, T1)) → GOK S → CREL I S → Ex l 302 (B + 1) (6 * (B + 1)) 96 [some (.ref 0), some (.ref 181), some (.int (iI k)), none, none] [] (tm 183 len I T W v) (oE 181 v false none (fun K => ∃ T2 : Int → Int, (∀ i : Int, 0 ≤ i → i < len → T2 i = T i) ∧ CREL K (sL S0 ((len : Int), T2)))) := by
      intro k S I W hk k0 k1 hg hTS hS1 hS hI
      refine x_aload_n (pc := 96) rfl d302_96 ?_
      refine x_aload_n (pc := 97) rfl d302_97 ?_
      refine x_cVs (pc := 98) (As := []) c302_25 (ct_stLen hl (tm_st (by decide)) (by omega)) ⟨(show 181 < 183 by decide), rfl⟩ rfl rfl (Nat.le_of_ble_eq_true rfl) (by decide +kernel) (by decide +kernel) rfl d302_98 ?_
      refine x_fV (B := B) (v := v) (rest := []) (pc := 101) (As := [.int (iI len)]) c302_38 (cm77 hl (by decide) hI hS ⟨by omega, by omega⟩) (by unfold oTruncate; rw [if_pos (by omega)]) rfl (show 181 ≤ 183 by decide) tm_ag rfl rfl (Nat.le_of_ble_eq_true rfl) (by decide +kernel) (by decide +kernel) d302_101 (fun K hK => ?_)
      refine x_istore_n (pc := 104) (by decide +kernel) rfl d302_104 ?_
      rw [tm_fm]
      refine x_cut (σ' := mm 181 K v false) (show 181 ≤ 183 by decide) rfl tm_ag ?_
      obtain ⟨T1, rfl⟩ := hS1
      have e : (oTruncate (sL S0 (k, T1)) len).2.2 = sL S0 ((len : Int), T1) := by
        unfold oTruncate
        rw [if_pos ⟨by omega, by show (len : Int) ≤ k; omega⟩]
        rfl
      rw [e] at hK
      exact x_vret rfl (fun z => by cases z) d302_105 ⟨K, rfl, T1, fun i i0 i1 => hTS i i0 i1 (by omega), hK⟩
  have hlen' := hlen
  have hlen : len ≤ 1000 := by omega
  intro m
  induction m with
  | zero =>
    intro k S I W hm k0 k1 hg hTS hS1 hS hI
    refine ex_le (B' := B + 1) (by omega) rfl ?_
    refine x_iload_n (pc := 2) rfl d302_2 ?_
    refine x_aload_n (pc := 3) rfl d302_3 ?_
    refine x_cVs (pc := 4) (As := []) c302_25 (ct_stLen hl (tm_st (by decide)) (by omega)) ⟨(show 181 < 183 by decide), rfl⟩ rfl rfl (Nat.le_of_ble_eq_true rfl) (by decide +kernel) (by decide +kernel) rfl d302_4 ?_
    refine x_icmp_ge (pc := 7) (tgt := 96) ⟨by omega, by omega⟩ ⟨by omega, by omega⟩ d302_7 (by decide) (fun _ => ?_) (fun _ => by exfalso; omega)
    exact fin k S I W (by omega) k0 k1 hg hTS hS1 hS hI
  | succ m ih =>
    intro k S I W hm k0 k1 hg hTS hS1 hS hI
    have hC : ∀ i, 0 ≤ i → (0 ≤ chr T len k i ∧ chr T len k i ≤ 127) := fun i i0 => by
      unfold chr
      split
      · exact hT _ (by omega) (by omega)
      · decide
    refine x_iload_n (pc := 2) rfl d302_2 ?_
    refine x_aload_n (pc := 3) rfl d302_3 ?_
    refine x_cVs (pc := 4) (As := []) c302_25 (ct_stLen hl (tm_st (by decide)) (by omega)) ⟨(show 181 < 183 by decide), rfl⟩ rfl rfl (Nat.le_of_ble_eq_true rfl) (by decide +kernel) (by decide +kernel) rfl d302_4 ?_
    refine x_icmp_ge (pc := 7) (tgt := 96) ⟨by omega, by omega⟩ ⟨by omega, by omega⟩ d302_7 (by decide) (fun g => ?_) (fun g => ?_)
    · refine ex_le (B' := B + 1) (by omega) rfl ?_
      exact fin k S I W (by omega) k0 k1 hg hTS hS1 hS hI
    · refine x_less (k2 := (B + (2 * m + 1) + 1) + 1) (n2 := (6 * (B + (2 * m + 1) + 1)) + 5) (by omega) (by omega) rfl ?_
      refine x_iconst (pc := 10) d302_10 ?_
      refine x_newTI (pc := 11) (n0 := 181) (m0 := 5) (by decide) (by decide) (show 183 < scr by decide) rfl (pin_oE (fun _ _ z => by cases z)) (show 181 ≤ 183 by decide) (tm_rf (n := 183) (by decide)) rfl rfl d302_11 ?_
      rw [tm_new]
      refine x_astore_n (pc := 13) (by decide +kernel) rfl d302_13 ?_
      refine x_iconst (pc := 14) d302_14 ?_
      refine x_istore (pc := 15) (by decide +kernel) rfl d302_15 ?_
      refine lp_word hl hlen hT k0 (by omega) 20 0 _ (by decide) (fun j hj => by
        show (0 : Int) = pw _ j (min 4 (0 - 4 * j))
        rw [show min 4 (0 - 4 * j) = 0 from by omega]
        rfl) (fun W hW => ?_)
      refine x_aload_n (pc := 69) rfl d302_69 ?_
      refine x_aload_n (pc := 70) rfl d302_70 ?_
      refine x_iconst (pc := 71) d302_71 ?_
      refine x_iald (pc := 72) (a := 183) (m0 := 5) ⟨(show 183 < 184 by decide), rfl⟩ (by decide) (by decide) (by decide) d302_72 ?_
      refine x_val (pc := 73) (w := pw (chr T len k) 0 4) (hW 0 (by decide)) ?_
      refine x_aload_n (pc := 73) rfl d302_73 ?_
      refine x_iconst (pc := 74) d302_74 ?_
      refine x_iald (pc := 75) (a := 183) (m0 := 5) ⟨(show 183 < 184 by decide), rfl⟩ (by decide) (by decide) (by decide) d302_75 ?_
      refine x_val (pc := 76) (w := pw (chr T len k) 1 4) (hW 1 (by decide)) ?_
      refine x_aload_n (pc := 76) rfl d302_76 ?_
      refine x_iconst (pc := 77) d302_77 ?_
      refine x_iald (pc := 78) (a := 183) (m0 := 5) ⟨(show 183 < 184 by decide), rfl⟩ (by decide) (by decide) (by decide) d302_78 ?_
      refine x_val (pc := 79) (w := pw (chr T len k) 2 4) (hW 2 (by decide)) ?_
      refine x_aload_n (pc := 79) rfl d302_79 ?_
      refine x_iconst (pc := 80) d302_80 ?_
      refine x_iald (pc := 81) (a := 183) (m0 := 5) ⟨(show 183 < 184 by decide), rfl⟩ (by decide) (by decide) (by decide) d302_81 ?_
      refine x_val (pc := 82) (w := pw (chr T len k) 3 4) (hW 3 (by decide)) ?_
      refine x_aload_n (pc := 82) rfl d302_82 ?_
      refine x_iconst (pc := 83) d302_83 ?_
      refine x_iald (pc := 84) (a := 183) (m0 := 5) ⟨(show 183 < 184 by decide), rfl⟩ (by decide) (by decide) (by decide) d302_84 ?_
      refine x_val (pc := 85) (w := pw (chr T len k) 4 4) (hW 4 (by decide)) ?_
      refine x_fV (B := B + (2 * m + 1)) (v := v) (rest := []) (pc := 85) (As := [.int (iI (pw (chr T len k) 0 4)), .int (iI (pw (chr T len k) 1 4)), .int (iI (pw (chr T len k) 2 4)), .int (iI (pw (chr T len k) 3 4)), .int (iI (pw (chr T len k) 4 4))]) c302_34 (cm76 hl (by decide) hI hS) (by unfold oAppend; rw [if_pos (by omega)]) rfl (show 181 ≤ 184 by decide) tm_ag rfl rfl (Nat.le_of_ble_eq_true rfl) (by decide +kernel) (by decide +kernel) d302_85 (fun K hK => ?_)
      rw [tm_fm]
      refine x_istore (pc := 88) (by decide +kernel) rfl d302_88 ?_
      refine x_iinc (pc := 90) rfl (by decide +kernel) rfl d302_90 ?_
      dsimp only [List.set]
      refine x_goto (pc := 93) (tgt := 2) d302_93 (by decide) ?_
      refine x_mask [true, true, true, false, false] ?_
      dsimp only [mask]
      refine x_cut (σ' := tm 183 len K T W v) (show 183 ≤ 184 by decide) rfl (fun i _ => ⟨rfl, rfl, rfl⟩) ?_
      obtain ⟨T1, rfl⟩ := hS1
      have e : (oAppend (sL S0 (k, T1)) (pw (chr T len k) 0 4) (pw (chr T len k) 1 4) (pw (chr T len k) 2 4) (pw (chr T len k) 3 4) (pw (chr T len k) 4 4)).2.2 = sL S0 (k + 20, txtG (txtG (txtG (txtG (txtG T1 k (pw (chr T len k) 0 4)) (k + 4) (pw (chr T len k) 1 4)) (k + 8) (pw (chr T len k) 2 4)) (k + 12) (pw (chr T len k) 3 4)) (k + 16) (pw (chr T len k) 4 4)) := by
        unfold oAppend
        rw [if_pos (by omega)]
        rfl
      have hS2 := gok_append (a := pw (chr T len k) 0 4) (b := pw (chr T len k) 1 4) (c := pw (chr T len k) 2 4) (d := pw (chr T len k) 3 4) (e := pw (chr T len k) 4 4) hS
      rw [e] at hK hS2
      refine ih (k + 20) _ K W (by omega) (by omega) (by omega) rfl (fun i i0 i1 i2 => ?_) ⟨_, rfl⟩ hS2 hK
      by_cases d : i < k
      · refine (ap20_o d).trans (hTS i i0 i1 d)
      · refine (ap20' hC (by omega) i2).trans ?_
        unfold chr
        rw [if_pos (by omega), show k + (i - k) = i from by omega]
theorem ct_comes (hl : l.1.stackTraces = false) (hlen : len ≤ 60) (hT : ∀ i : Int, 0 ≤ i → i < len → 0 ≤ T i ∧ T i ≤ 127) {S : GS} {I : Nat → Int → Int} {W : Int → Int} (hg : gL S = 0) (hS : GOK S) (hI : CREL I S) : CT l 302 [.ref 0, .ref 181] (tm 183 len I T W v) 7 (6 * 7) (oE 181 v false none (fun K => ∃ T2 : Int → Int, (∀ i : Int, 0 ≤ i → i < len → T2 i = T i) ∧ CREL K (sL S ((len : Int), T2)))) := by
  refine mkct2 hl (by decide) (Nat.le_of_ble_eq_true rfl) (L := [some (.ref 0), some (.ref 181), none, none, none]) rfl ?_
  refine x_iconst (pc := 0) d302_0 ?_
  refine x_istore_n (pc := 1) (by decide +kernel) rfl d302_1 ?_
  dsimp only [List.set]
  refine lp_com (B := 0) (S0 := S) hl (by omega) hT 3 0 S I W (by omega) (by decide) (by omega) hg (fun i i0 i1 i2 => by omega) ⟨gT S, ?_⟩ hS hI
  rw [← hg]
  rfl
end Comes
