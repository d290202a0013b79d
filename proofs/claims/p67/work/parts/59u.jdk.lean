/-! ===== calls over a part of the places: the last ones, numbered from 0 ===== -/
def shr (b r : Nat) : Nat := if r < scr then r + b else r
def shv (b : Nat) (v : Value) : Value := match v with
  | .ref r => .ref (shr b r)
  | v => v
/-- below b the places of σ0, from b on those of τ -/
def sh (b : Nat) (σ0 τ : MM) : MM := (fun k x => if k < b then σ0.1 k x else τ.1 (k - b) x, fun k x => if k < b then σ0.2.1 k x else (τ.2.1 (k - b) x).map (shr b), fun k => if k < b then σ0.2.2.1 k else τ.2.2.1 (k - b), b + τ.2.2.2.1, 0, false)
theorem shr_lt {b r : Nat} (h : r < scr) : shr b r = r + b := if_pos h
theorem shr_ge {b r : Nat} (h : scr ≤ r) : shr b r = r := if_neg (Nat.not_lt.mpr h)
/-- .. also with the cells that stay as they were -/
theorem cal_goX {l : LX} {y : Nat} {G : GG} {p : Program} {e : Env} {R : Room} {s : State} {m : MethodId} {args : Array Value} {below : List Frame} {meth : Method} {c : Code} {A : Nat → Prop} (hA : AMB l y G p R s m args meth c A) {H : Heap} {locs : List Loc} {cells slots mc ms pc : Nat} {ls : Array Slot} {st0 rest : List Value} {σ : MM} {Q : OO → Prop} {Qf : State → Prop} {a : Array Value}
    (hW : WOK G A s H locs σ) (hr : vx_Run p l.1 e R s m args below meth c H locs cells slots mc ms (F0 m pc ls st0) rest (QW G σ H.size mc Q a) (XW G σ H.size mc Q) (va_A (wsO G σ) H.size))
    (kk : ∀ (v : Option Value) (τ : MM) (H1 : Heap) (locs1 : List Loc), Q (.inl v, τ) → WOK G A s H1 locs1 τ → (∀ q : Nat, q < H.size → ¬ va_A (wsO G σ) H.size q → H1[q]? = H[q]?) → va_D (va_A (wsO G σ) H.size) (wsO G τ) → W p l.1 e R s m args below meth c H1 locs1 (cells + mc) (slots + ms) Qf (F0 m (pc + 3) ls ((v.map (cv G)).toList ++ rest)))
    (kx : ∀ (E : Nat) (τ : MM), ¬ Q (.inr E, τ)) :
    W p l.1 e R s m args below meth c H locs cells slots Qf (F0 m pc ls st0) := by
  obtain ⟨hsub, -⟩ := pre_of hA hW
  obtain ⟨hnp, hP, hD, hS⟩ := hW
  intro T hT X
  rcases hr T hT X with ⟨v, st₀, t, T', L, h0, X', hL, e1, e2, ⟨⟨v', τ, hv, hq, w1, w2, w3, w4⟩, hF⟩, st⟩ | ⟨q, st₀, t, T', L, E, ce, h0, X', hL, e1, e2, ⟨⟨E', τ, hE, hf, hq, w1, w2, w3, w4⟩, hF⟩, hce, hcv, hcl, st⟩
  · cases hv
    obtain ⟨k1, k2, k3⟩ := vx_keep h0 e1 hS (fun q _ h => hsub q h) hsub hL hF
    obtain ⟨t2, a1, b1⟩ := kk v' τ T'.heap (locs ++ L) hq ⟨w1, by rw [e1]; exact w2, w3.weaken (fun _ _ _ h => hsub _ h), k3⟩ k2 w3 T' rfl X'
    exact ⟨t2, st t2 a1, b1⟩
  · exact absurd hq (kx E' τ)
section Jdk
variable {l : LX} {y k n pc : Nat} {L : LL} {Q : OO → Prop}
theorem x_jdk {b n0 k1 n1 : Nat} {σ0 τ0 : MM} {st rest As : List Value} {Q1 : OO → Prop}
    (run : ∀ (G : GG) (p : Program) (e : Env) (R : Room) (s : State) (m : MethodId) (args : Array Value) (below : List Frame) (meth : Method) (c : Code) (A : Nat → Prop) (H : Heap) (locs : List Loc) (cells slots : Nat) (ls : Array Slot) (rs : List Value), AMB l y G p R s m args meth c A → cells + k1 ≤ R.cells → slots + n1 ≤ R.slots → ls.size = mlN y → WOK G A s H locs τ0 → (τ0.2.2.2.2.2 = true → H.size = G.2.2.2.2.2 τ0.2.2.2.1 ∧ CS G τ0.2.2.2.1) → (rs.map fun v => v.category).sum ≤ 8 →
      vx_Run p l.1 e R s m args below meth c H locs cells slots k1 n1 (F0 m pc ls ((cvs G As).reverse ++ rs)) rs (QW G τ0 H.size k1 Q1 (cvs G As).toArray) (XW G τ0 H.size k1 Q1) (va_A (wsO G τ0) H.size))
    (hn : b + τ0.2.2.2.1 ≤ scr) (hr0 : ∀ i, i < b → RF b σ0 i) (hrt : ∀ i, i < τ0.2.2.2.1 → RF τ0.2.2.2.1 τ0 i)
    (hst : st = (As.map (shv b)).reverse ++ rest) (hcat : cats rest ≤ 8) (hAs : rbS τ0.2.2.2.1 As = true) (hrest : rbS (b + τ0.2.2.2.1) rest = true) (hLL : rbL (b + τ0.2.2.2.1) L = true) (hQ : ∀ o, Q o → PIN n0 o) (h0 : n0 ≤ b + τ0.2.2.2.1)
    (hx : ∀ (E : Nat) (τ : MM), ¬ Q1 (.inr E, τ)) (hq1 : ∀ (v : Option Value) (τ : MM), Q1 (.inl v, τ) → b + τ.2.2.2.1 ≤ scr ∧ (∀ i, i < τ.2.2.2.1 → RF τ.2.2.2.1 τ i) ∧ ∀ w, v = some w → RB τ.2.2.2.1 w)
    (kk : ∀ (v : Option Value) (τ : MM), Q1 (.inl v, τ) → Ex l y k n (pc + 3) L ((v.map (shv b)).toList ++ rest) (sh b σ0 τ) Q) : Ex l y (k1 + k) (n1 + n) pc L st (sh b σ0 τ0) Q := by
  intro G p e R s m args below meth c A CE SE Qf hA hC hS hF H locs cells slots ls h1 h2 hL hW hR
  obtain ⟨adc, hadc⟩ : ∃ adc : Nat → Nat, adc = fun i => if i < τ0.2.2.2.1 then G.2.2.2.2.2 (b + i) else H.size + (i - τ0.2.2.2.1) := ⟨_, rfl⟩
  have ha1 : ∀ i, i < τ0.2.2.2.1 → adc i = G.2.2.2.2.2 (b + i) := fun i hi => by rw [hadc]; exact if_pos hi
  have ha2 : ∀ i, τ0.2.2.2.1 ≤ i → adc i = H.size + (i - τ0.2.2.2.1) := fun i hi => by rw [hadc]; exact if_neg (Nat.not_lt.mpr hi)
  obtain ⟨ad', had'⟩ : ∃ ad' : Nat → Nat, ad' = fun i => if i < b then G.2.2.2.2.2 i else adc (i - b) := ⟨_, rfl⟩
  have hb1 : ∀ i, i < b → ad' i = G.2.2.2.2.2 i := fun i hi => by rw [had']; exact if_pos hi
  have hb2 : ∀ i, ad' (i + b) = adc i := fun i => by rw [had']; show (if i + b < b then _ else adc (i + b - b)) = _; rw [if_neg (by omega), Nat.add_sub_cancel]
  have hb3 : ∀ i, i < b + τ0.2.2.2.1 → ad' i = G.2.2.2.2.2 i := fun i hi => by
    by_cases q : i < b
    · exact hb1 i q
    · have := hb2 (i - b)
      rw [Nat.sub_add_cancel (by omega)] at this
      rw [this, ha1 _ (by omega), show b + (i - b) = i from by omega]
  -- an address of a part's place, in the part and in the whole
  have hadr : ∀ (g : GG) (N r : Nat), b + N ≤ scr → (r < N ∨ scr ≤ r) → (∀ i, i < N → g.2.2.2.2.2 (i + b) = adc i) → g.2.2.1.1 = G.2.2.1.1 → g.2.2.2.1 = G.2.2.2.1 → g.2.2.2.2.1 = G.2.2.2.2.1 → adr (G.at adc) r = adr g (shr b r) := fun g N r hN hr hg e1 e2 e3 => by
    by_cases q : r < scr
    · have hrN : r < N := by rcases hr with z | z <;> omega
      rw [shr_lt q, adr_lt q, adr_lt (by omega), hg r hrN]
      rfl
    · rw [shr_ge (Nat.not_lt.mp q)]
      unfold adr
      rw [if_neg q, if_neg q, e1, e2, e3]
      rfl
  have hcell : ∀ (g : GG) (N : Nat) (τ : MM) (i : Nat), b + N ≤ scr → RF N τ i → (∀ i, i < N → g.2.2.2.2.2 (i + b) = adc i) → g.1 = G.1 → g.2.1 = G.2.1 → g.2.2.1.1 = G.2.2.1.1 → g.2.2.2.1 = G.2.2.2.1 → g.2.2.2.2.1 = G.2.2.2.2.1 → cellO (G.at adc) τ i = cellO g (sh b σ0 τ) (b + i) := fun g N τ i hN hr hg e0 e01 e1 e2 e3 => by
    have k1 : (sh b σ0 τ).2.2.1 (b + i) = τ.2.2.1 i := by show (if b + i < b then _ else τ.2.2.1 (b + i - b)) = _; rw [if_neg (by omega), Nat.add_sub_cancel_left]
    have k2 : (sh b σ0 τ).1 (b + i) = τ.1 i := by funext x; show (if b + i < b then _ else τ.1 (b + i - b) x) = _; rw [if_neg (by omega), Nat.add_sub_cancel_left]
    have k3 : ∀ j, (τ.2.1 i j).map (adr (G.at adc)) = ((sh b σ0 τ).2.1 (b + i) j).map (adr g) := fun j => by
      have : (sh b σ0 τ).2.1 (b + i) j = (τ.2.1 i j).map (shr b) := by show (if b + i < b then _ else (τ.2.1 (b + i - b) j).map (shr b)) = _; rw [if_neg (by omega), Nat.add_sub_cancel_left]
      rw [this]
      cases hc : τ.2.1 i j with
      | none => rfl
      | some r => exact congrArg some (hadr g N r hN (hr j r hc) hg e1 e2 e3)
    have k4 : (fun j => (τ.2.1 i j).map (adr (G.at adc))) = fun j => ((sh b σ0 τ).2.1 (b + i) j).map (adr g) := funext k3
    unfold cellO fieldsO
    rw [k1, k2, k4]
    simp only [k3]
    show _ = _
    rw [e01]
    rfl
  have hN0 : (sh b σ0 τ0).2.2.2.1 = b + τ0.2.2.2.1 := rfl
  have hg0 : ∀ i, i < τ0.2.2.2.1 → G.2.2.2.2.2 (i + b) = adc i := fun i hi => by rw [ha1 i hi, Nat.add_comm]
  -- the part's world
  have hWc : WOK (G.at adc) A s H locs τ0 := by
    have hg : ∀ (i : Nat) (x : Nat × va_E), (wsO (G.at adc) τ0)[i]? = some x → i < τ0.2.2.2.1 ∧ (wsO G (sh b σ0 τ0))[b + i]? = some x := fun i x hx => by
      by_cases hi : i < τ0.2.2.2.1
      · rw [wsO_get hi] at hx
        refine ⟨hi, ?_⟩
        rw [wsO_get (by rw [hN0]; omega), ← hx, hcell G τ0.2.2.2.1 τ0 i hn (hrt i hi) hg0 rfl rfl rfl rfl rfl]
        show some (G.2.2.2.2.2 (b + i), _) = some (adc i, _)
        rw [ha1 i hi]
      · rw [wsO_out (Nat.le_of_not_lt hi)] at hx
        cases hx
    exact ⟨by omega, fun i x hx => hW.2.1 _ x (hg i x hx).2, ⟨fun i j x z hx hz e => by have := hW.2.2.1.1 _ _ x z (hg i x hx).2 (hg j z hz).2 e; omega, fun i x hx => hW.2.2.1.2 _ x (hg i x hx).2⟩, hW.2.2.2⟩
  have hcs : CS (G.at adc) τ0.2.2.2.1 := fun j => by
    show adc (τ0.2.2.2.1 + j) = adc τ0.2.2.2.1 + j
    rw [ha2 _ (Nat.le_add_right _ _), ha2 _ (Nat.le_refl _)]
    omega
  have hsub := (pre_of (hA.at adc) hWc).1
  have hargs : cvs (G.at adc) As = cvs G (As.map (shv b)) := by
    unfold cvs
    rw [List.map_map]
    refine List.map_congr_left fun v hv => ?_
    have hb := rbS_ok hAs v hv
    cases v <;> first | rfl | skip
    case ref r =>
      show Value.ref (adr (G.at adc) r) = Value.ref (adr G (shr b r))
      rw [hadr G τ0.2.2.2.1 r hn (hb r rfl) hg0 rfl rfl rfl]
  have hrun := run (G.at adc) p e R s m args below meth c A H locs cells slots ls (cvs G rest) (hA.at adc) (by omega) (by omega) hL.1 hWc (fun _ => ⟨by show H.size = adc τ0.2.2.2.1; rw [ha2 _ (Nat.le_refl _)]; omega, hcs⟩) (by rw [cvs_cats]; exact hcat)
  have hst2 : cvs G st = (cvs (G.at adc) As).reverse ++ cvs G rest := by
    rw [hst, hargs]
    unfold cvs
    rw [List.map_append, List.map_reverse]
  rw [hst2]
  refine cal_goX (hA.at adc) hWc hrun (fun v τ H1 locs1 hq hW1 hk hD1 => ?_) hx
  obtain ⟨q1, q2, q3⟩ := hq1 v τ hq
  have hgt : ∀ i, i < τ.2.2.2.1 → (G.at ad').2.2.2.2.2 (i + b) = adc i := fun i _ => hb2 i
  have hfc : ∀ i, i < b → cellO (G.at ad') (sh b σ0 τ) i = cellO G (sh b σ0 τ0) i := fun i hi => by
    have k1 : ∀ t : MM, (sh b σ0 t).2.2.1 i = σ0.2.2.1 i := fun t => if_pos hi
    have k2 : ∀ t : MM, (sh b σ0 t).1 i = σ0.1 i := fun t => by funext x; exact if_pos hi
    have k3 : ∀ (t : MM) j, (sh b σ0 t).2.1 i j = σ0.2.1 i j := fun t j => if_pos hi
    have k4 : ∀ j, (σ0.2.1 i j).map (adr (G.at ad')) = (σ0.2.1 i j).map (adr G) := fun j => by
      cases hc : σ0.2.1 i j with
      | none => rfl
      | some r => exact congrArg some (adr_at hb1 (hr0 i hi j r hc))
    have k5 : (fun j => (σ0.2.1 i j).map (adr (G.at ad'))) = fun j => (σ0.2.1 i j).map (adr G) := funext k4
    unfold cellO fieldsO
    rw [k1, k1, k2, k2]
    simp only [k3, k4]
    rfl
  have nin : ∀ i, i < b → ¬ va_A (wsO (G.at adc) τ0) H.size (G.2.2.2.2.2 i) := fun i hi z => by
    have hi2 : i < (sh b σ0 τ0).2.2.2.1 := by rw [hN0]; omega
    have hlt : G.2.2.2.2.2 i < H.size := (hW.2.1 i _ (wsO_get hi2)).lt
    rcases z with ⟨j, ee, hj⟩ | z
    · by_cases hj2 : j < τ0.2.2.2.1
      · rw [wsO_get hj2] at hj
        have e1 : adc j = G.2.2.2.2.2 i := congrArg Prod.fst (Option.some.inj hj)
        rw [ha1 j hj2] at e1
        have := hW.2.2.1.1 (b + j) i _ _ (wsO_get (by rw [hN0]; omega)) (wsO_get hi2) e1
        omega
      · rw [wsO_out (Nat.le_of_not_lt hj2)] at hj
        cases hj
    · omega
  have hcl : ∀ i, i < τ.2.2.2.1 → cellO (G.at adc) τ i = cellO (G.at ad') (sh b σ0 τ) (b + i) := fun i hi => hcell (G.at ad') τ.2.2.2.1 τ i q1 (q2 i hi) hgt rfl rfl rfl rfl rfl
  have hg1 : ∀ (i : Nat) (x : Nat × va_E), (wsO (G.at ad') (sh b σ0 τ))[i]? = some x → (i < b ∧ x = (G.2.2.2.2.2 i, cellO G (sh b σ0 τ0) i)) ∨ ∃ j, j < τ.2.2.2.1 ∧ i = b + j ∧ (wsO (G.at adc) τ)[j]? = some x := fun i x hx => by
    by_cases hi : i < b + τ.2.2.2.1
    · rw [wsO_get (σ := sh b σ0 τ) hi] at hx
      have hx := Option.some.inj hx
      by_cases hib : i < b
      · refine Or.inl ⟨hib, ?_⟩
        rw [← hx, hfc i hib]
        show (ad' i, _) = _
        rw [hb1 i hib]
      · refine Or.inr ⟨i - b, by omega, by omega, ?_⟩
        rw [wsO_get (by omega), ← hx, hcl _ (by omega), show b + (i - b) = i from by omega]
        show some (adc (i - b), _) = some (ad' i, _)
        have := hb2 (i - b)
        rw [Nat.sub_add_cancel (by omega)] at this
        rw [this]
    · rw [wsO_out (σ := sh b σ0 τ) (Nat.le_of_not_lt hi)] at hx
      cases hx
  have hWn : WOK (G.at ad') A s H1 locs1 (sh b σ0 τ) := by
    refine ⟨q1, fun i x hx => ?_, ⟨fun i j x z hx hz ee => ?_, fun i x hx => ?_⟩, hW1.2.2.2⟩
    · rcases hg1 i x hx with ⟨hi, rfl⟩ | ⟨j, hj, -, hj2⟩
      · have hi2 : i < (sh b σ0 τ0).2.2.2.1 := by rw [hN0]; omega
        have hat := hW.2.1 i _ (wsO_get hi2)
        exact hat.kept (hk _ hat.lt (nin i hi))
      · exact hW1.2.1 j x hj2
    · rcases hg1 i x hx with ⟨hi, rfl⟩ | ⟨a, ha, ea, ha2⟩ <;> rcases hg1 j z hz with ⟨hj, rfl⟩ | ⟨d, hd, ed, hd2⟩
      · exact hW.2.2.1.1 i j _ _ (wsO_get (by rw [hN0]; omega)) (wsO_get (by rw [hN0]; omega)) ee
      · exfalso
        have := hD1.2 d z hd2
        rw [← ee] at this
        exact nin i hi this
      · exfalso
        have := hD1.2 a x ha2
        rw [ee] at this
        exact nin j hj this
      · have := hD1.1 a d x z ha2 hd2 ee
        omega
    · rcases hg1 i x hx with ⟨hi, rfl⟩ | ⟨j, hj, -, hj2⟩
      · exact hW.2.2.1.2 i _ (wsO_get (by rw [hN0]; omega))
      · exact hsub _ (hD1.2 j x hj2)
  have hv : (v.map (cv (G.at adc))).toList ++ cvs G rest = cvs (G.at ad') ((v.map (shv b)).toList ++ rest) := by
    have e1 : cvs (G.at ad') rest = cvs G rest := cvs_at hb3 (rbS_ok hrest)
    cases v with
    | none => exact e1.symm
    | some w =>
      show cv (G.at adc) w :: cvs G rest = cv (G.at ad') (shv b w) :: cvs (G.at ad') rest
      rw [e1]
      congr 1
      have hb := q3 w rfl
      cases w <;> first | rfl | skip
      case ref r =>
        show Value.ref (adr (G.at adc) r) = Value.ref (adr (G.at ad') (shr b r))
        rw [hadr (G.at ad') τ.2.2.2.1 r q1 (hb r rfl) hgt rfl rfl rfl]
  rw [hv]
  exact kk v τ hq (G.at ad') p e R s m args below meth c A CE SE Qf (hA.at ad') hC hS (hF.at (fun i hi => hb3 i (by omega)) hQ) H1 locs1 (cells + k1) (slots + n1) ls (by omega) (by omega) (hL.ad hb3 (rbL_ok hLL)) hWn (fun z => by cases z)
end Jdk
