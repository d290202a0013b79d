/-! ===== rows that make cells; the JDK's own ===== -/
theorem tw {w : Cond} (h : w ∈ lw_tbl) (hg : goodWord w = true) : w ∈ T0 := List.mem_filter.mpr ⟨h, hg⟩
theorem acI : Cond.arrayClass (newarray.typeOf .int) ∈ T0 := inT_ok (p := 66) (by decide +kernel)
theorem acL : Cond.arrayClass (newarray.typeOf .byte) ∈ T0 := inT_ok (p := 497) (by decide +kernel)
/-- a new place, all of it 0 or null -/
def mkC (σ : MM) (κ : Nat) : MM := (fun a b => if a = σ.2.2.2.1 then 0 else σ.1 a b, fun a b => if a = σ.2.2.2.1 then none else σ.2.1 a b, fun a => if a = σ.2.2.2.1 then κ else σ.2.2.1 a, σ.2.2.2.1 + 1, σ.2.2.2.2)
theorem mkC_old {G : GG} {σ : MM} {κ j : Nat} (h : j < σ.2.2.2.1) : cellO G (mkC σ κ) j = cellO G σ j := by
  have hn : ¬ j = σ.2.2.2.1 := Nat.ne_of_lt h
  exact cell_same (fun _ => if_neg hn) (fun _ => if_neg hn) (if_neg hn) (fun _ => rfl)
/-- a new cell stands behind the others -/
theorem wok_new {G : GG} {A : Nat → Prop} {s : State} {H H1 : Heap} {locs : List Loc} {σ τ : MM} (hW : WOK G A s H locs σ) (hAA : ∀ q, s.heap.size ≤ q → A q) (hsz : H.size = G.2.2.2.2.2 σ.2.2.2.1) (hlt : σ.2.2.2.1 < scr) (hn : τ.2.2.2.1 = σ.2.2.2.1 + 1) (ho : ∀ j, j < σ.2.2.2.1 → cellO G τ j = cellO G σ j)
    (z1 : H1.size = H.size + 1) (o1 : ∀ q, q < H.size → H1[q]? = H[q]?) (hc : va_at G.1 vwCl (G.2.2.2.2.2 σ.2.2.2.1, cellO G τ σ.2.2.2.1) H1) : WOK G A s H1 locs τ := by
  obtain ⟨hnp, hP, hD, hS⟩ := hW
  have heq : wsO G σ ++ [(G.2.2.2.2.2 σ.2.2.2.1, cellO G τ σ.2.2.2.1)] = wsO G τ := wsO_app hn rfl ho
  refine ⟨by rw [hn]; exact hlt, ?_, ?_, Nat.le_trans hS.1 (by omega), fun q h1 h2 => (o1 q (Nat.lt_of_lt_of_le h1 hS.1)).trans (hS.2.1 q h1 h2), hS.2.2⟩
  · rw [← heq]
    refine (hP.kept fun k q hq => o1 q.1 (hP k q hq).lt).app fun k q hq => ?_
    have hz : k < 1 := (List.getElem?_eq_some_iff.mp hq).1
    rw [show k = 0 by omega] at hq
    cases hq
    exact hc
  · rw [← heq]
    exact hD.push hP hsz.symm (hAA _ (by rw [← hsz]; exact hS.1))
theorem W_by {p : Program} {l : Launch} {e : Env} {R : Room} {s : State} {m : MethodId} {args : Array Value} {below : List Frame} {meth : Method} {c : Code} {H : Heap} {locs : List Loc} {cells slots : Nat} {Qf : State → Prop} {g : JFrame} (h : ∀ T : State, T.heap = H → Stand p l e R s m args below meth c T locs cells slots → W p l e R s m args below meth c H locs cells slots Qf g) : W p l e R s m args below meth c H locs cells slots Qf g := fun T hT X => h T hT X T hT X
section Rows3
variable {l : LX} {y k n pc : Nat} {L : LL} {st : List Value} {σ : MM} {Q : OO → Prop}
theorem x_new {ix c q1 q2 q3 : Nat} (hc : clN (owN y) ix = some (c, q1, q2, q3)) (hnp : σ.2.2.2.1 < scr) (hf : σ.2.2.2.2.2 = true) (hd : decode (cdN y) pc = .ok (.new ix, 3)) (kk : Ex l y k n (pc + 3) L (.ref σ.2.2.2.1 :: st) (mkC σ (10 * c + 5)) Q) : Ex l y (k + 1) (n + nf c) pc L st σ Q := by
  intro G p e R s m args below meth c0 A CE SE Qf hA hC hS hF H locs cells slots ls h1 h2 hL hW hR
  have hST := hA.2.2.2.2.2.2.2.2.2.2.2.2.2
  have hcc := clOk hc
  simp only [clC, Bool.and_eq_true, decide_eq_true_eq] at hcc
  obtain ⟨⟨⟨hc11, w1⟩, w2⟩, w3⟩ := hcc
  have hts := hA.2.2.2.2.2.2.2.2.1
  have hKn := hST.1.1 c _ (vwOk hc11)
  refine W_by fun T hT X => ?_
  have hsz := size_of hW hR X hT hf
  refine W.newcK hA.2.1 hA.2.2.1 hA.2.2.2.2.2.1 (hts _ (inT_ok w1)) (hts _ (inT_ok w2)) (hts _ (inT_ok w3)) rfl hd (by omega) (by omega) hKn.2.1 hsz (fun H1 kC hkC e1 z1 o1 => ?_)
  have hty : ∀ i, i < nf c → parseFieldDescriptor (TT c i).2.2.1 = some (tyT c i) := fun i hi => by
    have h9 := tyOk hc11 hi
    simp only [tyC, Bool.and_eq_true, decide_eq_true_eq] at h9
    exact h9.1.1.1
  have hkd : (mkC σ (10 * c + 5)).2.2.1 σ.2.2.2.1 = 10 * c + 5 := if_pos rfl
  have hat : va_at G.1 vwCl (G.2.2.2.2.2 σ.2.2.2.1, cellO G (mkC σ (10 * c + 5)) σ.2.2.2.1) H1 := by
    rw [cell_O hkd]
    refine ⟨_, vwOk hc11, (u_born (tyT c) hts (lyOk hc11) hKn hkC e1 hty).to fun j hj => ?_⟩
    show defaultValue (tyT c j) = vp_V (fieldsO G (mkC σ (10 * c + 5)) σ.2.2.2.1 c) j
    unfold vp_V
    rw [List.getD_eq_getElem?_getD, fld_get hj]
    have e2 : (mkC σ (10 * c + 5)).2.1 σ.2.2.2.1 j = none := if_pos rfl
    have e3 : (mkC σ (10 * c + 5)).1 σ.2.2.2.1 (j : Int) = 0 := if_pos rfl
    rw [e2, e3]
    rcases ty_kind hc11 hj with ⟨f1, f2⟩ | ⟨f1, f2⟩ | ⟨f1, ⟨t, f2⟩ | ⟨t, f2⟩⟩ | ⟨f1, f2⟩ <;> rw [f1, f2] <;> rfl
  have hW1 := wok_new hW hA.2.2.2.2.2.2.2.2.2.2.2.2.1 hsz hnp rfl (fun j hj => mkC_old hj) (by rw [z1, hsz]) (fun q hq => o1 q (by rw [← hsz]; exact hq)) hat
  have h := kk G p e R s m args below meth c0 A CE SE Qf hA hC hS hF H1 locs (cells + 1) (slots + nf c) ls (by omega) (by omega) hL hW1 (fun z => by
    have := hR z
    exact ⟨by show s.heap.size + (cells + 1) = G.2.2.2.2.2 (σ.2.2.2.1 + 1); rw [this.2.1.suc.1]; omega, this.2.1.suc.2, AJ.suc this.2.1⟩)
  rw [show cvs G (.ref σ.2.2.2.1 :: st) = .ref (adr G σ.2.2.2.1) :: cvs G st from rfl, adr_lt hnp] at h
  exact h
theorem x_newI {z : Int} {m0 : Nat} (hz : (m0 : Int) = z) (hm : m0 ≤ 100000) (hnp : σ.2.2.2.1 < scr) (hf : σ.2.2.2.2.2 = true) (hd : decode (cdN y) pc = .ok (.newarray .int, 2)) (kk : Ex l y k n (pc + 2) L (.ref σ.2.2.2.1 :: st) (mkC σ (10 * m0)) Q) : Ex l y (k + 1) (n + m0) pc L (.int (iI z) :: st) σ Q := by
  intro G p e R s m args below meth c0 A CE SE Qf hA hC hS hF H locs cells slots ls h1 h2 hL hW hR
  have hST := hA.2.2.2.2.2.2.2.2.2.2.2.2.2
  have hts := hA.2.2.2.2.2.2.2.2.1
  have hz2 : InR z := ⟨by omega, by omega⟩
  refine W_by fun T hT X => ?_
  have hsz := size_of hW hR X hT hf
  refine va_newaK hA.2.1 hA.2.2.1 (hts _ acI) rfl hd rfl (n := iI z) (N := m0) (by rw [iI_0, iI_lt hz2 inR_0]; omega) (by rw [iI_clamp hz2]; omega) (by show m0 * 4 ≤ 536870912; omega) (by omega) (by omega) hsz (fun H1 cA e1 z1 o1 hAr hNm => ?_)
  have hcA : cA = G.2.1.1 := Option.some.inj (hNm.symm.trans (hST.1.2 0 _ rfl).2)
  subst hcA
  have hkd : (mkC σ (10 * m0)).2.2.1 σ.2.2.2.1 = 10 * m0 := if_pos rfl
  have hat : va_at G.1 vwCl (G.2.2.2.2.2 σ.2.2.2.1, cellO G (mkC σ (10 * m0)) σ.2.2.2.1) H1 := by
    rw [cell_A hkd]
    show H1[_]? = some (vp_cell _ _)
    rw [e1, vp_cell_i]
    congr 2
    funext j
    have e3 : (mkC σ (10 * m0)).1 σ.2.2.2.1 (j : Int) = 0 := if_pos rfl
    rw [e3]
    rfl
  have hW1 := wok_new hW hA.2.2.2.2.2.2.2.2.2.2.2.2.1 hsz hnp rfl (fun j hj => mkC_old hj) (by rw [z1, hsz]) (fun q hq => o1 q (by rw [← hsz]; exact hq)) hat
  have h := kk G p e R s m args below meth c0 A CE SE Qf hA hC hS hF H1 locs (cells + 1) (slots + m0) ls (by omega) (by omega) hL hW1 (fun z => by
    have := hR z
    exact ⟨by show s.heap.size + (cells + 1) = G.2.2.2.2.2 (σ.2.2.2.1 + 1); rw [this.2.1.suc.1]; omega, this.2.1.suc.2, AJ.suc this.2.1⟩)
  rw [show cvs G (.ref σ.2.2.2.1 :: st) = .ref (adr G σ.2.2.2.1) :: cvs G st from rfl, adr_lt hnp] at h
  exact h
theorem x_newL {z : Int} {m0 : Nat} (hz : (m0 : Int) = z) (hm : m0 ≤ 100000) (hnp : σ.2.2.2.1 < scr) (hf : σ.2.2.2.2.2 = true) (hd : decode (cdN y) pc = .ok (.newarray .byte, 2)) (kk : Ex l y k n (pc + 2) L (.ref σ.2.2.2.1 :: st) (mkC σ (10 * m0 + 2)) Q) : Ex l y (k + 1) (n + m0) pc L (.int (iI z) :: st) σ Q := by
  intro G p e R s m args below meth c0 A CE SE Qf hA hC hS hF H locs cells slots ls h1 h2 hL hW hR
  have hST := hA.2.2.2.2.2.2.2.2.2.2.2.2.2
  have hts := hA.2.2.2.2.2.2.2.2.1
  have hz2 : InR z := ⟨by omega, by omega⟩
  refine W_by fun T hT X => ?_
  have hsz := size_of hW hR X hT hf
  refine va_newaK hA.2.1 hA.2.2.1 (hts _ acL) rfl hd rfl (n := iI z) (N := m0) (by rw [iI_0, iI_lt hz2 inR_0]; omega) (by rw [iI_clamp hz2]; omega) (by show m0 * 1 ≤ 536870912; omega) (by omega) (by omega) hsz (fun H1 cA e1 z1 o1 hAr hNm => ?_)
  have hcA : cA = G.2.1.2.1 := Option.some.inj (hNm.symm.trans (hST.1.2 1 _ rfl).2)
  subst hcA
  have hkd : (mkC σ (10 * m0 + 2)).2.2.1 σ.2.2.2.1 = 10 * m0 + 2 := if_pos rfl
  have hat : va_at G.1 vwCl (G.2.2.2.2.2 σ.2.2.2.1, cellO G (mkC σ (10 * m0 + 2)) σ.2.2.2.1) H1 := by
    rw [cell_L hkd]
    show H1[_]? = some (vp_cell _ _)
    rw [e1, vp_cell_i]
    congr 2
    funext j
    have e3 : (mkC σ (10 * m0 + 2)).1 σ.2.2.2.1 (j : Int) = 0 := if_pos rfl
    rw [e3]
    rfl
  have hW1 := wok_new hW hA.2.2.2.2.2.2.2.2.2.2.2.2.1 hsz hnp rfl (fun j hj => mkC_old hj) (by rw [z1, hsz]) (fun q hq => o1 q (by rw [← hsz]; exact hq)) hat
  have h := kk G p e R s m args below meth c0 A CE SE Qf hA hC hS hF H1 locs (cells + 1) (slots + m0) ls (by omega) (by omega) hL hW1 (fun z => by
    have := hR z
    exact ⟨by show s.heap.size + (cells + 1) = G.2.2.2.2.2 (σ.2.2.2.1 + 1); rw [this.2.1.suc.1]; omega, this.2.1.suc.2, AJ.suc this.2.1⟩)
  rw [show cvs G (.ref σ.2.2.2.1 :: st) = .ref (adr G σ.2.2.2.1) :: cvs G st from rfl, adr_lt hnp] at h
  exact h
theorem x_newR {ix q1 q2 q3 : Nat} {z : Int} {m0 : Nat} (hz : (m0 : Int) = z) (hm : m0 ≤ 100000) (hc : clN (owN y) ix = some (5, q1, q2, q3)) (hnp : σ.2.2.2.1 < scr) (hf : σ.2.2.2.2.2 = true) (hd : decode (cdN y) pc = .ok (.anewarray ix, 3)) (kk : Ex l y k n (pc + 3) L (.ref σ.2.2.2.1 :: st) (mkC σ (10 * m0 + 1)) Q) : Ex l y (k + 1) (n + m0) pc L (.int (iI z) :: st) σ Q := by
  intro G p e R s m args below meth c0 A CE SE Qf hA hC hS hF H locs cells slots ls h1 h2 hL hW hR
  have hST := hA.2.2.2.2.2.2.2.2.2.2.2.2.2
  have hts := hA.2.2.2.2.2.2.2.2.1
  have hz2 : InR z := ⟨by omega, by omega⟩
  have hcc := clOk hc
  simp only [clC, Bool.and_eq_true, decide_eq_true_eq] at hcc
  obtain ⟨⟨⟨hc11, w1⟩, w2⟩, w3⟩ := hcc
  have hN : (iI z).toNatClampNeg = m0 := by rw [iI_clamp hz2]; omega
  refine W_by fun T hT X => ?_
  have hsz := size_of hW hR X hT hf
  refine W.anew hA.2.1 hA.2.2.1 hA.2.2.2.2.2.1 (hts _ (inT_ok w1)) (va_AO.use hST.2.2.2.2.2.2.2.2.2.1) rfl hd rfl (n := iI z) (by rw [iI_0, iI_lt hz2 inR_0]; omega) (by rw [hN]; omega) (by omega) (by rw [hN]; omega) (fun cA kA comp f1 f2 f3 f4 => ?_)
  have hcA : cA = G.2.1.2.2 := by
    obtain ⟨kA9, comp9, g1, g2, g3, g4⟩ := (hST.1.2 2 _ rfl).2
    exact Option.some.inj (f1.symm.trans g4)
  subst hcA
  generalize hH1 : H.push ({ cls := G.2.1.2.2, slots := Array.replicate (iI z).toNatClampNeg .null, vm := .none } : Cell) = H1
  have z1 : H1.size = H.size + 1 := by rw [← hH1, Array.size_push]
  have e1 : H1[H.size]? = some (arrV G.2.1.2.2 m0 (fun _ => .null)) := by rw [← hH1, Array.getElem?_push_size, ← arrV_new, hN]
  have o1 : ∀ q : Nat, q < H.size → H1[q]? = H[q]? := fun q hq => by rw [← hH1, Array.getElem?_push, if_neg (Nat.ne_of_lt hq)]
  have hkd : (mkC σ (10 * m0 + 1)).2.2.1 σ.2.2.2.1 = 10 * m0 + 1 := if_pos rfl
  have hat : va_at G.1 vwCl (G.2.2.2.2.2 σ.2.2.2.1, cellO G (mkC σ (10 * m0 + 1)) σ.2.2.2.1) H1 := by
    rw [cell_R hkd]
    show H1[_]? = some (vp_cell _ _)
    rw [← hsz, e1, vp_cell_q]
    congr 2
    funext j
    have e3 : (mkC σ (10 * m0 + 1)).2.1 σ.2.2.2.1 j = none := if_pos rfl
    rw [e3]
    rfl
  have hW1 := wok_new hW hA.2.2.2.2.2.2.2.2.2.2.2.2.1 hsz hnp rfl (fun j hj => mkC_old hj) z1 o1 hat
  have h := kk G p e R s m args below meth c0 A CE SE Qf hA hC hS hF H1 locs (cells + 1) (slots + m0) ls (by omega) (by omega) hL hW1 (fun z => by
    have := hR z
    exact ⟨by show s.heap.size + (cells + 1) = G.2.2.2.2.2 (σ.2.2.2.1 + 1); rw [this.2.1.suc.1]; omega, this.2.1.suc.2, AJ.suc this.2.1⟩)
  rw [show cvs G (.ref σ.2.2.2.1 :: st) = .ref (adr G σ.2.2.2.1) :: cvs G st from rfl, adr_lt hnp, ← hsz] at h
  rw [hN]
  exact h
/-! the JDK's own -/
theorem x_obj {ix t a : Nat} {ps : List Nat} (hc : ctN (owN y) ix = some (9, t, ps)) (hh : 1 ≤ htN y) (hl : cats st + 12 ≤ loN y) (hd : decode (cdN y) pc = .ok (.invokespecial ix, 3)) (kk : Ex l y k n (pc + 3) L st σ Q) : Ex l y k n pc L (.ref a :: st) σ Q := by
  intro G p e R s m args below meth c0 A CE SE Qf hA hC hS hF H locs cells slots ls h1 h2 hL hW hR
  obtain ⟨hw, -⟩ := ctIn hc
  have hts := hA.2.2.2.2.2.2.2.2.1
  exact W.objInit hA.2.1 hA.2.2.1 hA.2.2.2.2.2.1 (hts _ (tw (hw _ (by simp [ctW])) rfl)) (hts _ (tw (hw _ (by simp [ctW])) rfl)) (hts _ (tw (hw _ (by simp [ctW])) rfl)) (g := F0 m pc ls (cvs G (.ref a :: st))) rfl (by rw [hA.2.2.2.1]; exact hL.1) rfl hd (by rw [hA.2.2.2.2.2.2.2.2.2.2.1]; exact hh)
    (by rw [hA.2.2.2.2.2.2.2.2.2.2.2.1]; show 2 * 0 + ((cvs G st).map fun v => v.category).sum + 12 ≤ _; rw [cvs_cats]; omega) (kk G p e R s m args below meth c0 A CE SE Qf hA hC hS hF H locs cells slots ls h1 h2 hL hW hR)
theorem x_max {ix t : Nat} {a b : Int} {ps : List Nat} (ha : InR a) (hb : InR b) (hc : ctN (owN y) ix = some (5, t, ps)) (hh : 1 ≤ htN y) (hl : cats st + 13 ≤ loN y) (hd : decode (cdN y) pc = .ok (.invokestatic ix, 3)) (kk : Ex l y k n (pc + 3) L (.int (iI (max a b)) :: st) σ Q) : Ex l y k n pc L (.int (iI b) :: .int (iI a) :: st) σ Q := by
  intro G p e R s m args below meth c0 A CE SE Qf hA hC hS hF H locs cells slots ls h1 h2 hL hW hR
  obtain ⟨hw, -⟩ := ctIn hc
  have hts := hA.2.2.2.2.2.2.2.2.1
  refine va_mmax hA.2.1 hA.2.2.1 (by rw [hA.2.2.2.1]; exact hL.1.symm) hA.2.2.2.2.2.1 (hts _ (tw (hw _ (by simp [ctW])) rfl)) (hts _ (tw (hw _ (by simp [ctW])) rfl)) (hts _ (tw (hw _ (by simp [ctW])) rfl)) (hts _ (tw (hw _ (by simp [ctW])) rfl)) (by rw [hA.2.2.2.2.2.2.2.2.2.2.1]; exact hh)
    (by rw [hA.2.2.2.2.2.2.2.2.2.2.2.1]; exact (by rw [cvs_cats]; exact hl : ((cvs G st).map fun v => v.category).sum + 13 ≤ loN y)) (by omega) (by omega) hd ?_
  have h := kk G p e R s m args below meth c0 A CE SE Qf hA hC hS hF H locs cells slots ls h1 h2 hL hW hR
  have e9 : (if iI a < iI b then iI b else iI a) = iI (max a b) := by
    by_cases hq : a < b
    · rw [if_pos ((iI_lt ha hb).mpr hq), Int.max_eq_right (by omega)]
    · rw [if_neg (fun z => hq ((iI_lt ha hb).mp z)), Int.max_eq_left (by omega)]
  rw [e9]
  exact h
theorem x_min {ix t : Nat} {a b : Int} {ps : List Nat} (ha : InR a) (hb : InR b) (hc : ctN (owN y) ix = some (6, t, ps)) (hh : 1 ≤ htN y) (hl : cats st + 13 ≤ loN y) (hd : decode (cdN y) pc = .ok (.invokestatic ix, 3)) (kk : Ex l y k n (pc + 3) L (.int (iI (min a b)) :: st) σ Q) : Ex l y k n pc L (.int (iI b) :: .int (iI a) :: st) σ Q := by
  intro G p e R s m args below meth c0 A CE SE Qf hA hC hS hF H locs cells slots ls h1 h2 hL hW hR
  obtain ⟨hw, -⟩ := ctIn hc
  have hts := hA.2.2.2.2.2.2.2.2.1
  refine va_mmin hA.2.1 hA.2.2.1 (by rw [hA.2.2.2.1]; exact hL.1.symm) hA.2.2.2.2.2.1 (hts _ (tw (hw _ (by simp [ctW])) rfl)) (hts _ (tw (hw _ (by simp [ctW])) rfl)) (hts _ (tw (hw _ (by simp [ctW])) rfl)) (hts _ (tw (hw _ (by simp [ctW])) rfl)) (by rw [hA.2.2.2.2.2.2.2.2.2.2.1]; exact hh)
    (by rw [hA.2.2.2.2.2.2.2.2.2.2.2.1]; exact (by rw [cvs_cats]; exact hl : ((cvs G st).map fun v => v.category).sum + 13 ≤ loN y)) (by omega) (by omega) hd ?_
  have h := kk G p e R s m args below meth c0 A CE SE Qf hA hC hS hF H locs cells slots ls h1 h2 hL hW hR
  have e9 : (if iI b < iI a then iI b else iI a) = iI (min a b) := by
    by_cases hq : b < a
    · rw [if_pos ((iI_lt hb ha).mpr hq), Int.min_eq_right (by omega)]
    · rw [if_neg (fun z => hq ((iI_lt hb ha).mp z)), Int.min_eq_left (by omega)]
  rw [e9]
  exact h
theorem x_abs {ix t : Nat} {a : Int} {ps : List Nat} (ha : InR a) (hc : ctN (owN y) ix = some (7, t, ps)) (hh : 1 ≤ htN y) (hl : cats st + 13 ≤ loN y) (hd : decode (cdN y) pc = .ok (.invokestatic ix, 3)) (kk : Ex l y k n (pc + 3) L (.int (iI (if 0 ≤ a then a else -a)) :: st) σ Q) : Ex l y k n pc L (.int (iI a) :: st) σ Q := by
  intro G p e R s m args below meth c0 A CE SE Qf hA hC hS hF H locs cells slots ls h1 h2 hL hW hR
  obtain ⟨hw, -⟩ := ctIn hc
  have hts := hA.2.2.2.2.2.2.2.2.1
  refine va_mabs hA.2.1 hA.2.2.1 (by rw [hA.2.2.2.1]; exact hL.1.symm) hA.2.2.2.2.2.1 (hts _ (tw (hw _ (by simp [ctW])) rfl)) (hts _ (tw (hw _ (by simp [ctW])) rfl)) (hts _ (tw (hw _ (by simp [ctW])) rfl)) (hts _ (tw (hw _ (by simp [ctW])) rfl)) (by rw [hA.2.2.2.2.2.2.2.2.2.2.1]; exact hh)
    (by rw [hA.2.2.2.2.2.2.2.2.2.2.2.1]; exact (by rw [cvs_cats]; exact hl : ((cvs G st).map fun v => v.category).sum + 13 ≤ loN y)) (by omega) (by omega) hd ?_
  have h := kk G p e R s m args below meth c0 A CE SE Qf hA hC hS hF H locs cells slots ls h1 h2 hL hW hR
  have e9 : (if 0 ≤ iI a then iI a else 0 - iI a) = iI (if 0 ≤ a then a else -a) := by
    by_cases hq : 0 ≤ a
    · rw [iI_0, if_pos ((iI_le inR_0 ha).mpr hq), if_pos hq]
    · rw [iI_0, if_neg (fun z => hq ((iI_le inR_0 ha).mp z)), if_neg hq, iI_sub, Int.zero_sub]
  rw [e9]
  exact h
theorem x_copy {ix t a d m0 m1 : Nat} {sp dp w : Int} {ps : List Nat} (ho : isA σ a m0) (ho1 : isA σ d m1) (h0 : 0 ≤ sp) (h3 : 0 ≤ dp) (h4 : 0 ≤ w) (h5 : sp + w ≤ m0) (h6 : dp + w ≤ m1) (hm : m0 ≤ 100000) (hm1 : m1 ≤ 100000) (hc : ctN (owN y) ix = some (8, t, ps)) (hh : 1 ≤ htN y) (hl : cats st + (nativeFrameWords "java/lang/System" "arraycopy" 5 + 11) ≤ loN y) (hd : decode (cdN y) pc = .ok (.invokestatic ix, 3))
    (kk : Ex l y k n (pc + 3) L st (cp2 σ.1 a sp d dp w, σ.2) Q) : Ex l y k n pc L (.int (iI w) :: .int (iI dp) :: .ref d :: .int (iI sp) :: .ref a :: st) σ Q := by
  intro G p e R s m args below meth c0 A CE SE Qf hA hC hS hF H locs cells slots ls h1 h2 hL hW hR
  obtain ⟨hw, -⟩ := ctIn hc
  have hts := hA.2.2.2.2.2.2.2.2.1
  have hST := hA.2.2.2.2.2.2.2.2.2.2.2.2.2
  have r1 : InR sp := ⟨by omega, by omega⟩
  have r2 : InR dp := ⟨by omega, by omega⟩
  have r3 : InR w := ⟨by omega, by omega⟩
  rw [show cvs G (.int (iI w) :: .int (iI dp) :: .ref d :: .int (iI sp) :: .ref a :: st) = .int (iI w) :: .int (iI dp) :: .ref (adr G d) :: .int (iI sp) :: .ref (adr G a) :: cvs G st from rfl, adr_lt (Nat.lt_of_lt_of_le ho.1 hW.1), adr_lt (Nat.lt_of_lt_of_le ho1.1 hW.1)]
  refine va_copyi hA.2.1 hA.2.2.1 (by rw [hA.2.2.2.1]; exact hL.1.symm) hA.2.2.2.2.2.1 (hts _ (tw (hw _ (by simp [ctW])) rfl)) (hts _ (tw (hw _ (by simp [ctW])) rfl)) (hts _ (tw (hw _ (by simp [ctW])) rfl)) (hts _ (tw (hw _ (by simp [ctW])) rfl)) hST.1 hW.2.1 hW.2.2.1 hW.2.2.2 a d 0 0 (ty := .int) (by rw [wsO_get ho.1, cell_A ho.2]) (by rw [wsO_get ho1.1, cell_A ho1.2]) rfl rfl rfl
    (by rw [iI_0, iI_lt r1 inR_0]; omega) (by rw [iI_0, iI_lt r2 inR_0]; omega) (by rw [iI_0, iI_lt r3 inR_0]; omega) (by rw [iI_clamp r1, iI_clamp r3]; omega) (by rw [iI_clamp r2, iI_clamp r3]; omega) (fun _ _ => rfl) (by rw [hA.2.2.2.2.2.2.2.2.2.2.1]; exact hh)
    (by rw [hA.2.2.2.2.2.2.2.2.2.2.2.1]; exact (by rw [cvs_cats]; exact hl : ((cvs G st).map fun v => v.category).sum + (nativeFrameWords "java/lang/System" "arraycopy" 5 + 11) ≤ loN y)) hd (fun H1 locs1 hP hD hS1 => ?_)
  have heq : (wsO G σ).set d (G.2.2.2.2.2 d, .inl (G.2.1.1, m1, .inl (va_cpy (fun j => iI (σ.1 a (j : Int))) (fun j => iI (σ.1 d (j : Int))) (iI sp).toNatClampNeg (iI dp).toNatClampNeg (iI w).toNatClampNeg))) = wsO G (cp2 σ.1 a sp d dp w, σ.2) := by
    refine wsO_set ho1.1 rfl ?_ (fun i hi _ => cell_same (fun b => if_neg (fun z => hi z.1)) (fun _ => rfl) rfl (fun _ => rfl))
    rw [cell_A (σ := (cp2 σ.1 a sp d dp w, σ.2)) ho1.2, iI_clamp r1, iI_clamp r2, iI_clamp r3]
    congr 4
    funext j
    show (if dp.toNat ≤ j ∧ j < dp.toNat + w.toNat then iI (σ.1 a ((sp.toNat + (j - dp.toNat) : Nat) : Int)) else iI (σ.1 d (j : Int))) = iI (cp2 σ.1 a sp d dp w d (j : Int))
    by_cases hj : dp.toNat ≤ j ∧ j < dp.toNat + w.toNat
    · rw [if_pos hj, show cp2 σ.1 a sp d dp w d (j : Int) = σ.1 a (sp + ((j : Int) - dp)) from if_pos ⟨rfl, by omega, by omega⟩, show ((sp.toNat + (j - dp.toNat) : Nat) : Int) = sp + ((j : Int) - dp) from by omega]
    · rw [if_neg hj, show cp2 σ.1 a sp d dp w d (j : Int) = σ.1 d j from if_neg (fun z => hj ⟨by omega, by omega⟩)]
  rw [heq] at hP hD
  exact kk G p e R s m args below meth c0 A CE SE Qf hA hC hS hF H1 locs1 cells slots ls h1 h2 hL ⟨hW.1, hP, hD, hS1⟩ hR
end Rows3
