/-! ===== worlds with other addresses: places that come and go ===== -/
def GG.at (G : GG) (ad : Nat → Nat) : GG := (G.1, G.2.1, G.2.2.1, G.2.2.2.1, G.2.2.2.2.1, ad)
/-- a value that names no place from n on -/
def RB (n : Nat) (v : Value) : Prop := ∀ r : Nat, v = .ref r → r < n ∨ scr ≤ r
def RF (n : Nat) (σ : MM) (k : Nat) : Prop := ∀ j r : Nat, σ.2.1 k j = some r → r < n ∨ scr ≤ r
theorem adr_at {G : GG} {ad : Nat → Nat} {n r : Nat} (h : ∀ k, k < n → ad k = G.2.2.2.2.2 k) (hr : r < n ∨ scr ≤ r) : adr (G.at ad) r = adr G r := by
  unfold adr
  by_cases hs : r < scr
  · rw [if_pos hs, if_pos hs]
    rcases hr with hr | hr
    · exact h r hr
    · omega
  · rw [if_neg hs, if_neg hs]
    rfl
theorem cv_at {G : GG} {ad : Nat → Nat} {n : Nat} {v : Value} (h : ∀ k, k < n → ad k = G.2.2.2.2.2 k) (hr : RB n v) : cv (G.at ad) v = cv G v := by
  cases v <;> first | rfl | skip
  case ref r =>
    show Value.ref (adr (G.at ad) r) = Value.ref (adr G r)
    rw [adr_at h (hr r rfl)]
theorem cvs_at {G : GG} {ad : Nat → Nat} {n : Nat} {st : List Value} (h : ∀ k, k < n → ad k = G.2.2.2.2.2 k) (hr : ∀ v ∈ st, RB n v) : cvs (G.at ad) st = cvs G st := List.map_congr_left fun v hv => cv_at h (hr v hv)
theorem cell_at {G : GG} {ad : Nat → Nat} {n k : Nat} {σ : MM} (h : ∀ k, k < n → ad k = G.2.2.2.2.2 k) (hr : RF n σ k) : cellO (G.at ad) σ k = cellO G σ k := by
  have e : ∀ j, (σ.2.1 k j).map (adr (G.at ad)) = (σ.2.1 k j).map (adr G) := fun j => by
    cases hc : σ.2.1 k j with
    | none => rfl
    | some r => exact congrArg some (adr_at h (hr j r hc))
  have e2 : (fun j => (σ.2.1 k j).map (adr (G.at ad))) = fun j => (σ.2.1 k j).map (adr G) := funext e
  unfold cellO fieldsO
  rw [e2]
  simp only [e]
  rfl
/-- an end that speaks of places below n alone -/
def PIN (n : Nat) (o : OO) : Prop := o.2.2.2.2.2.2 = false ∧ o.2.2.2.2.1 ≤ n ∧ (∀ k, k < o.2.2.2.2.1 → RF n o.2 k) ∧ ∀ v, o.1 = .inl (some v) → RB n v
theorem ws_at {G : GG} {ad : Nat → Nat} {n : Nat} {σ : MM} (h : ∀ k, k < n → ad k = G.2.2.2.2.2 k) (hn : σ.2.2.2.1 ≤ n) (hr : ∀ k, k < σ.2.2.2.1 → RF n σ k) : wsO (G.at ad) σ = wsO G σ := by
  unfold wsO
  refine List.map_congr_left fun k hk => ?_
  have hk := List.mem_range.mp hk
  show (ad k, cellO (G.at ad) σ k) = (G.2.2.2.2.2 k, cellO G σ k)
  rw [h k (by omega), cell_at h (hr k hk)]
theorem AMB.at {l : LX} {y : Nat} {G : GG} {p : Program} {R : Room} {s : State} {m : MethodId} {args : Array Value} {meth : Method} {c : Code} {A : Nat → Prop} (ad : Nat → Nat) (h : AMB l y G p R s m args meth c A) : AMB l y (G.at ad) p R s m args meth c A := h
theorem FIN.at {l : LX} {y : Nat} {G : GG} {p : Program} {e : Env} {R : Room} {s : State} {m : MethodId} {args : Array Value} {below : List Frame} {meth : Method} {c : Code} {A : Nat → Prop} {CE SE : Nat} {Qf : State → Prop} {Q : OO → Prop} {ad : Nat → Nat} {n : Nat}
    (hF : FIN l y G p e R s m args below meth c A CE SE Qf Q) (h : ∀ k, k < n → ad k = G.2.2.2.2.2 k) (hQ : ∀ o, Q o → PIN n o) : FIN l y (G.at ad) p e R s m args below meth c A CE SE Qf Q := by
  have wk : ∀ {H : Heap} {locs : List Loc} {σ : MM} {w : Option Value ⊕ Nat}, Q (w, σ) → WOK (G.at ad) A s H locs σ → WOK G A s H locs σ := fun {H locs σ w} hq hW => by
    obtain ⟨a1, a2, a3, a4⟩ := hQ _ hq
    have e := ws_at (σ := σ) h a2 a3
    obtain ⟨b1, b2, b3, b4⟩ := hW
    rw [e] at b2 b3
    exact ⟨b1, b2, b3, b4⟩
  refine ⟨fun H locs cells slots pc ls v σ h1 h2 hW hR hI hq => ?_, fun H locs cells slots pc ls rest σ E r h0 h1 h2 h3 h4 h5 h6 hW hf hq => ?_, fun H locs cells slots pc ls rest σ E q ce h0 h1 h2 hW hf hq => ?_⟩
  · have a := hQ _ hq
    have hv : cvs (G.at ad) v.toList = cvs G v.toList := cvs_at h fun w hw => by
      cases v with
      | none => cases hw
      | some x =>
        have : w = x := List.mem_singleton.mp hw
        rw [this]
        exact a.2.2.2 x rfl
    rw [hv]
    exact hF.1 H locs cells slots pc ls v σ h1 h2 (wk hq hW) (fun z => by rw [show σ.2.2.2.2.2 = false from a.1] at z; cases z) hI hq
  · exact hF.2.1 H locs cells slots pc ls rest σ E r h0 h1 h2 h3 h4 h5 h6 (wk hq hW) hf hq
  · exact hF.2.2 H locs cells slots pc ls rest σ E q ce h0 h1 h2 (wk hq hW) hf hq
theorem LR.ad {G : GG} {ls : Array Slot} {nL n : Nat} {L : LL} {ad : Nat → Nat} (hL : LR G ls nL L) (h : ∀ k, k < n → ad k = G.2.2.2.2.2 k) (hr : ∀ v, some v ∈ L → RB n v) : LR (G.at ad) ls nL L := ⟨hL.1, hL.2.1, hL.2.2.1, fun i v hi => by
  rw [cv_at h (hr v (List.mem_of_getElem? hi))]
  exact hL.2.2.2 i v hi⟩
/-- are all places that are named below n (a check by program) -/
def rbV (n : Nat) : Value → Bool
  | .ref r => decide (r < n) || decide (scr ≤ r)
  | _ => true
def rbS (n : Nat) (st : List Value) : Bool := st.all (rbV n)
def rbL (n : Nat) (L : LL) : Bool := L.all fun x => match x with
  | some v => rbV n v
  | none => true
theorem rbV_ok {n : Nat} {v : Value} (h : rbV n v = true) : RB n v := fun r e => by
  subst e
  simp only [rbV, Bool.or_eq_true, decide_eq_true_eq] at h
  exact h
theorem rbS_ok {n : Nat} {st : List Value} (h : rbS n st = true) : ∀ v ∈ st, RB n v := fun v hv => rbV_ok (List.all_eq_true.mp h v hv)
theorem rbL_ok {n : Nat} {L : LL} (h : rbL n L = true) : ∀ v, some v ∈ L → RB n v := fun v hv => rbV_ok (List.all_eq_true.mp h (some v) hv)
section Temp
variable {l : LX} {y k n pc : Nat} {L : LL} {st : List Value} {σ : MM} {Q : OO → Prop}
/-- fewer places -/
def dropM (σ : MM) (q : Nat) : MM := (σ.1, σ.2.1, σ.2.2.1, q, σ.2.2.2.2.1, false)
theorem x_drop {q : Nat} (hq : q ≤ σ.2.2.2.1) (kk : Ex l y k n pc L st (dropM σ q) Q) : Ex l y k n pc L st σ Q := by
  intro G p e R s m args below meth c A CE SE Qf hA hC hS hF H locs cells slots ls h1 h2 hL hW hR
  refine kk G p e R s m args below meth c A CE SE Qf hA hC hS hF H locs cells slots ls h1 h2 hL ?_ (fun z => by cases z)
  have hg : ∀ (i : Nat) (x : Nat × va_E), (wsO G (dropM σ q))[i]? = some x → (wsO G σ)[i]? = some x := fun i x hx => by
    by_cases hi : i < q
    · rw [wsO_get (σ := dropM σ q) hi] at hx
      rw [wsO_get (by omega), ← hx]
      rfl
    · rw [wsO_out (σ := dropM σ q) (Nat.le_of_not_lt hi)] at hx
      cases hx
  exact ⟨Nat.le_trans hq hW.1, fun i x hx => hW.2.1 i x (hg i x hx), ⟨fun i j x z hx hz => hW.2.2.1.1 i j x z (hg i x hx) (hg j z hz), fun i x hx => hW.2.2.1.2 i x (hg i x hx)⟩, hW.2.2.2⟩
/-- other places' numbers: place i is from now on what f i was; places without a number are forgotten -/
theorem x_re {σ' : MM} {L' : LL} {st' : List Value} {n0 : Nat} (f : Nat → Nat) (hf : σ'.2.2.2.2.2 = false) (hn : σ'.2.2.2.1 ≤ scr) (h0 : n0 ≤ σ'.2.2.2.1) (hQ : ∀ o, Q o → PIN n0 o)
    (f0 : ∀ i, i < n0 → f i = i) (f1 : ∀ i, i < σ'.2.2.2.1 → f i < σ.2.2.2.1) (f2 : ∀ i j, i < σ'.2.2.2.1 → j < σ'.2.2.2.1 → f i = f j → i = j)
    (c1 : ∀ i, i < σ'.2.2.2.1 → σ'.2.2.1 i = σ.2.2.1 (f i)) (c2 : ∀ i, i < σ'.2.2.2.1 → ∀ j, σ'.1 i j = σ.1 (f i) j) (c3 : ∀ i, i < σ'.2.2.2.1 → ∀ j, (∀ r, σ'.2.1 i j = some r → r < σ'.2.2.2.1) ∧ (σ'.2.1 i j).map f = σ.2.1 (f i) j)
    (hl : L'.length = L.length) (hL' : ∀ (i : Nat) (v : Value), L'[i]? = some (some v) → (L[i]? = some (some v) ∧ ∀ r, v = .ref r → scr ≤ r) ∨ ∃ r, r < σ'.2.2.2.1 ∧ v = .ref r ∧ L[i]? = some (some (.ref (f r))))
    (hst : ∀ (G : GG) (ad : Nat → Nat), (∀ i, i < σ'.2.2.2.1 → ad i = G.2.2.2.2.2 (f i)) → cvs (G.at ad) st' = cvs G st)
    (kk : Ex l y k n pc L' st' σ' Q) : Ex l y k n pc L st σ Q := by
  intro G p e R s m args below meth c A CE SE Qf hA hC hS hF H locs cells slots ls h1 h2 hL hW hR
  have had : ∀ i, i < n0 → (fun i => G.2.2.2.2.2 (f i)) i = G.2.2.2.2.2 i := fun i hi => congrArg G.2.2.2.2.2 (f0 i hi)
  have hadr : ∀ r, r < σ'.2.2.2.1 → adr (G.at fun i => G.2.2.2.2.2 (f i)) r = adr G (f r) := fun r hr => by
    rw [adr_lt (Nat.lt_of_lt_of_le hr hn), adr_lt (Nat.lt_of_lt_of_le (f1 r hr) hW.1)]
    rfl
  have hcell : ∀ i, i < σ'.2.2.2.1 → cellO (G.at fun i => G.2.2.2.2.2 (f i)) σ' i = cellO G σ (f i) := fun i hi => by
    have e1 : ∀ j, (σ'.2.1 i j).map (adr (G.at fun i => G.2.2.2.2.2 (f i))) = (σ.2.1 (f i) j).map (adr G) := fun j => by
      obtain ⟨g1, g2⟩ := c3 i hi j
      rw [← g2]
      cases hc : σ'.2.1 i j with
      | none => rfl
      | some r => exact congrArg some (hadr r (g1 r hc))
    have e2 : (fun j => (σ'.2.1 i j).map (adr (G.at fun i => G.2.2.2.2.2 (f i)))) = fun j => (σ.2.1 (f i) j).map (adr G) := funext e1
    have e3 : σ'.1 i = σ.1 (f i) := funext (c2 i hi)
    unfold cellO fieldsO
    rw [e2, c1 i hi, e3]
    simp only [e1]
    rfl
  have hg : ∀ (i : Nat) (x : Nat × va_E), (wsO (G.at fun i => G.2.2.2.2.2 (f i)) σ')[i]? = some x → i < σ'.2.2.2.1 ∧ (wsO G σ)[f i]? = some x := fun i x hx => by
    by_cases hi : i < σ'.2.2.2.1
    · rw [wsO_get hi, hcell i hi] at hx
      rw [wsO_get (f1 i hi), ← hx]
      exact ⟨hi, rfl⟩
    · rw [wsO_out (Nat.le_of_not_lt hi)] at hx
      cases hx
  have hst2 := hst G (fun i => G.2.2.2.2.2 (f i)) fun i _ => rfl
  rw [← hst2]
  refine kk (G.at fun i => G.2.2.2.2.2 (f i)) p e R s m args below meth c A CE SE Qf (hA.at _) hC hS (hF.at had hQ) H locs cells slots ls h1 h2 ⟨hL.1, hL.2.1, hl.trans hL.2.2.1, fun i v hi => ?_⟩ ⟨hn, fun i x hx => hW.2.1 _ x (hg i x hx).2, ⟨fun i j x z hx hz e => ?_, fun i x hx => hW.2.2.1.2 _ x (hg i x hx).2⟩, hW.2.2.2⟩ (fun z => by rw [hf] at z; cases z)
  · rcases hL' i v hi with ⟨q1, q2⟩ | ⟨r, q1, rfl, q2⟩
    · rw [cv_at (n := 0) (fun k hk => absurd hk (Nat.not_lt_zero k)) (fun r e => Or.inr (q2 r e))]
      exact hL.2.2.2 i v q1
    · have := hL.2.2.2 i _ q2
      show ls[i]? = some (.val (.ref (adr (G.at fun i => G.2.2.2.2.2 (f i)) r)))
      rw [hadr r q1]
      exact this
  · exact f2 i j (hg i x hx).1 (hg j z hz).1 (hW.2.2.1.1 _ _ x z (hg i x hx).2 (hg j z hz).2 e)
/-- a new row of ints, where cells aren't counted -/
theorem x_newTI {z : Int} {m0 n0 : Nat} (hz : (m0 : Int) = z) (hm : m0 ≤ 100000) (hnp : σ.2.2.2.1 < scr) (hf : σ.2.2.2.2.2 = false) (hQ : ∀ o, Q o → PIN n0 o) (h0 : n0 ≤ σ.2.2.2.1) (hr : ∀ i, i < σ.2.2.2.1 → RF σ.2.2.2.1 σ i) (hrL : rbL σ.2.2.2.1 L = true) (hrS : rbS σ.2.2.2.1 st = true)
    (hd : decode (cdN y) pc = .ok (.newarray .int, 2)) (kk : Ex l y k n (pc + 2) L (.ref σ.2.2.2.1 :: st) (mkC σ (10 * m0)) Q) : Ex l y (k + 1) (n + m0) pc L (.int (iI z) :: st) σ Q := by
  intro G p e R s m args below meth c0 A CE SE Qf hA hC hS hF H locs cells slots ls h1 h2 hL hW hR
  have hST := hA.2.2.2.2.2.2.2.2.2.2.2.2.2
  have hts := hA.2.2.2.2.2.2.2.2.1
  have hz2 : InR z := ⟨by omega, by omega⟩
  obtain ⟨ad, had⟩ : ∃ ad : Nat → Nat, ad = fun i => if i = σ.2.2.2.1 then H.size else G.2.2.2.2.2 i := ⟨_, rfl⟩
  have ho : ∀ i, i < σ.2.2.2.1 → ad i = G.2.2.2.2.2 i := fun i hi => by rw [had]; exact if_neg (Nat.ne_of_lt hi)
  have hq : ad σ.2.2.2.1 = H.size := by rw [had]; exact if_pos rfl
  have hW2 : WOK (G.at ad) A s H locs σ := by
    obtain ⟨b1, b2, b3, b4⟩ := hW
    have e := ws_at (σ := σ) ho (Nat.le_refl _) hr
    rw [← e] at b2 b3
    exact ⟨b1, b2, b3, b4⟩
  refine va_newaK hA.2.1 hA.2.2.1 (hts _ acI) rfl hd rfl (n := iI z) (N := m0) (by rw [iI_0, iI_lt hz2 inR_0]; omega) (by rw [iI_clamp hz2]; omega) (by show m0 * 4 ≤ 536870912; omega) (by omega) (by omega) hq.symm (fun H1 cA e1 z1 o1 hAr hNm => ?_)
  have hcA : cA = G.2.1.1 := Option.some.inj (hNm.symm.trans (hST.1.2 0 _ rfl).2)
  subst hcA
  have hkd : (mkC σ (10 * m0)).2.2.1 σ.2.2.2.1 = 10 * m0 := if_pos rfl
  have hat : va_at (G.at ad).1 vwCl ((G.at ad).2.2.2.2.2 σ.2.2.2.1, cellO (G.at ad) (mkC σ (10 * m0)) σ.2.2.2.1) H1 := by
    rw [cell_A hkd]
    show H1[ad σ.2.2.2.1]? = some (vp_cell _ _)
    rw [e1, vp_cell_i]
    congr 2
    funext j
    have e3 : (mkC σ (10 * m0)).1 σ.2.2.2.1 (j : Int) = 0 := if_pos rfl
    rw [e3]
    rfl
  have hW1 := wok_new hW2 hA.2.2.2.2.2.2.2.2.2.2.2.2.1 hq.symm hnp rfl (fun j hj => mkC_old hj) (by rw [z1]; exact congrArg (· + 1) hq) (fun q hq2 => o1 q (by rw [show (ad σ.2.2.2.1) = H.size from hq]; exact hq2)) hat
  have h := kk (G.at ad) p e R s m args below meth c0 A CE SE Qf (hA.at ad) hC hS (hF.at (fun i hi => ho i (by omega)) hQ) H1 locs (cells + 1) (slots + m0) ls (by omega) (by omega) (hL.ad ho (rbL_ok hrL)) hW1 (fun z => by rw [show (mkC σ (10 * m0)).2.2.2.2.2 = σ.2.2.2.2.2 from rfl, hf] at z; cases z)
  rw [show cvs (G.at ad) (.ref σ.2.2.2.1 :: st) = .ref (adr (G.at ad) σ.2.2.2.1) :: cvs (G.at ad) st from rfl, adr_lt hnp, cvs_at ho (rbS_ok hrS)] at h
  exact h
/-- a new object, where cells aren't counted -/
theorem x_newTC {ix c q1 q2 q3 n0 : Nat} (hc : clN (owN y) ix = some (c, q1, q2, q3)) (hnp : σ.2.2.2.1 < scr) (hf : σ.2.2.2.2.2 = false) (hQ : ∀ o, Q o → PIN n0 o) (h0 : n0 ≤ σ.2.2.2.1) (hr : ∀ i, i < σ.2.2.2.1 → RF σ.2.2.2.1 σ i) (hrL : rbL σ.2.2.2.1 L = true) (hrS : rbS σ.2.2.2.1 st = true)
    (hd : decode (cdN y) pc = .ok (.new ix, 3)) (kk : Ex l y k n (pc + 3) L (.ref σ.2.2.2.1 :: st) (mkC σ (10 * c + 5)) Q) : Ex l y (k + 1) (n + nf c) pc L st σ Q := by
  intro G p e R s m args below meth c0 A CE SE Qf hA hC hS hF H locs cells slots ls h1 h2 hL hW hR
  have hST := hA.2.2.2.2.2.2.2.2.2.2.2.2.2
  have hcc := clOk hc
  simp only [clC, Bool.and_eq_true, decide_eq_true_eq] at hcc
  obtain ⟨⟨⟨hc11, w1⟩, w2⟩, w3⟩ := hcc
  have hts := hA.2.2.2.2.2.2.2.2.1
  have hKn := hST.1.1 c _ (vwOk hc11)
  obtain ⟨ad, had⟩ : ∃ ad : Nat → Nat, ad = fun i => if i = σ.2.2.2.1 then H.size else G.2.2.2.2.2 i := ⟨_, rfl⟩
  have ho : ∀ i, i < σ.2.2.2.1 → ad i = G.2.2.2.2.2 i := fun i hi => by rw [had]; exact if_neg (Nat.ne_of_lt hi)
  have hq : ad σ.2.2.2.1 = H.size := by rw [had]; exact if_pos rfl
  have hW2 : WOK (G.at ad) A s H locs σ := by
    obtain ⟨b1, b2, b3, b4⟩ := hW
    have e := ws_at (σ := σ) ho (Nat.le_refl _) hr
    rw [← e] at b2 b3
    exact ⟨b1, b2, b3, b4⟩
  refine W.newcK hA.2.1 hA.2.2.1 hA.2.2.2.2.2.1 (hts _ (inT_ok w1)) (hts _ (inT_ok w2)) (hts _ (inT_ok w3)) rfl hd (by omega) (by omega) hKn.2.1 hq.symm (fun H1 kC hkC e1 z1 o1 => ?_)
  have hty : ∀ i, i < nf c → parseFieldDescriptor (TT c i).2.2.1 = some (tyT c i) := fun i hi => by
    have h9 := tyOk hc11 hi
    simp only [tyC, Bool.and_eq_true, decide_eq_true_eq] at h9
    exact h9.1.1.1
  have hkd : (mkC σ (10 * c + 5)).2.2.1 σ.2.2.2.1 = 10 * c + 5 := if_pos rfl
  have hat : va_at (G.at ad).1 vwCl ((G.at ad).2.2.2.2.2 σ.2.2.2.1, cellO (G.at ad) (mkC σ (10 * c + 5)) σ.2.2.2.1) H1 := by
    rw [cell_O hkd]
    refine ⟨_, vwOk hc11, (u_born (tyT c) hts (lyOk hc11) hKn hkC e1 hty).to fun j hj => ?_⟩
    show defaultValue (tyT c j) = vp_V (fieldsO (G.at ad) (mkC σ (10 * c + 5)) σ.2.2.2.1 c) j
    unfold vp_V
    rw [List.getD_eq_getElem?_getD, fld_get hj]
    have e2 : (mkC σ (10 * c + 5)).2.1 σ.2.2.2.1 j = none := if_pos rfl
    have e3 : (mkC σ (10 * c + 5)).1 σ.2.2.2.1 (j : Int) = 0 := if_pos rfl
    rw [e2, e3]
    rcases ty_kind hc11 hj with ⟨f1, f2⟩ | ⟨f1, f2⟩ | ⟨f1, ⟨t, f2⟩ | ⟨t, f2⟩⟩ | ⟨f1, f2⟩ <;> rw [f1, f2] <;> rfl
  have hW1 := wok_new hW2 hA.2.2.2.2.2.2.2.2.2.2.2.2.1 hq.symm hnp rfl (fun j hj => mkC_old hj) (by rw [z1]; exact congrArg (· + 1) hq) (fun q hq2 => o1 q (by rw [show (ad σ.2.2.2.1) = H.size from hq]; exact hq2)) hat
  have h := kk (G.at ad) p e R s m args below meth c0 A CE SE Qf (hA.at ad) hC hS (hF.at (fun i hi => ho i (by omega)) hQ) H1 locs (cells + 1) (slots + nf c) ls (by omega) (by omega) (hL.ad ho (rbL_ok hrL)) hW1 (fun z => by rw [show (mkC σ (10 * c + 5)).2.2.2.2.2 = σ.2.2.2.2.2 from rfl, hf] at z; cases z)
  rw [show cvs (G.at ad) (.ref σ.2.2.2.1 :: st) = .ref (adr (G.at ad) σ.2.2.2.1) :: cvs (G.at ad) st from rfl, adr_lt hnp, cvs_at ho (rbS_ok hrS)] at h
  exact h
end Temp
