/-! ===== rows that read and write the world ===== -/
def up2 {α : Type} (I : Nat → Int → α) (k : Nat) (j : Int) (v : α) : Nat → Int → α := fun a b => if a = k ∧ b = j then v else I a b
def upr (I : Nat → Nat → Option Nat) (k j v : Nat) : Nat → Nat → Option Nat := fun a b => if a = k ∧ b = j then some v else I a b
def cp2 (I : Nat → Int → Int) (s : Nat) (sp : Int) (d : Nat) (dp n : Int) : Nat → Int → Int := fun a b => if a = d ∧ dp ≤ b ∧ b < dp + n then I s (sp + (b - dp)) else I a b
/-- a is an object of class c; a row of n ints; a row of n references -/
def isO (σ : MM) (a c : Nat) : Prop := a < σ.2.2.2.1 ∧ σ.2.2.1 a = 10 * c + 5
def isA (σ : MM) (a n : Nat) : Prop := a < σ.2.2.2.1 ∧ σ.2.2.1 a = 10 * n
def isB (σ : MM) (a n : Nat) : Prop := a < σ.2.2.2.1 ∧ σ.2.2.1 a = 10 * n + 2
def isR (σ : MM) (a n : Nat) : Prop := a < σ.2.2.2.1 ∧ σ.2.2.1 a = 10 * n + 1
theorem cell_O {G : GG} {σ : MM} {a c : Nat} (h : σ.2.2.1 a = 10 * c + 5) : cellO G σ a = .inr (c, fieldsO G σ a c) := by
  unfold cellO
  rw [h, if_pos (by omega), show (10 * c + 5) / 10 = c from by omega]
theorem cell_A {G : GG} {σ : MM} {a n : Nat} (h : σ.2.2.1 a = 10 * n) : cellO G σ a = .inl (G.2.1.1, n, .inl (fun j => iI (σ.1 a (j : Int)))) := by
  unfold cellO
  rw [h, if_neg (by omega), if_pos (by omega), show 10 * n / 10 = n from by omega]
theorem cell_L {G : GG} {σ : MM} {a n : Nat} (h : σ.2.2.1 a = 10 * n + 2) : cellO G σ a = .inl (G.2.1.2.1, n, .inl (fun j => iI (σ.1 a (j : Int)))) := by
  unfold cellO
  rw [h, if_neg (by omega), if_neg (by omega), if_pos (by omega), show (10 * n + 2) / 10 = n from by omega]
theorem cell_R {G : GG} {σ : MM} {a n : Nat} (h : σ.2.2.1 a = 10 * n + 1) : cellO G σ a = .inl (G.2.1.2.2, n, .inr (.inr (.inr (.inr (fun j => (σ.2.1 a j).map (adr G)))))) := by
  unfold cellO
  rw [h, if_neg (by omega), if_neg (by omega), if_neg (by omega), show (10 * n + 1) / 10 = n from by omega]
theorem cell_same {G : GG} {σ τ : MM} {a : Nat} (h1 : ∀ j, τ.1 a j = σ.1 a j) (h2 : ∀ j, τ.2.1 a j = σ.2.1 a j) (h3 : τ.2.2.1 a = σ.2.2.1 a) (_h4 : σ.2.2.1 a % 10 = 2 → τ.2.2.2.2.1 = σ.2.2.2.2.1) : cellO G τ a = cellO G σ a := by
  have e1 : τ.1 a = σ.1 a := funext h1
  have e2 : τ.2.1 a = σ.2.1 a := funext h2
  unfold cellO fieldsO
  rw [h3, e1, e2]
theorem fld_get {G : GG} {σ : MM} {a c j : Nat} (hj : j < nf c) : (fieldsO G σ a c)[j]? = some (if fk c j = 2 then va_rf ((σ.2.1 a j).map (adr G)) else .int (iI (σ.1 a j))) := by
  unfold fieldsO
  rw [List.getElem?_map, List.getElem?_range hj]
  rfl
theorem fld_len {G : GG} {σ : MM} {a c : Nat} : (fieldsO G σ a c).length = nf c := by
  unfold fieldsO
  rw [List.length_map, List.length_range]
theorem ft_spec {o i c j q : Nat} (h : ftN o i = some (c, j, q)) : okC c = true ∧ j < nf c ∧ Cond.fieldLink (clsN o) i (declN c) (TT c j).2.1 (TT c j).2.2.1 ∈ T0 ∧ (TT c j).1 = declN c ∧ parseFieldDescriptor (TT c j).2.2.1 = some (tyT c j) ∧ (TT c j).2.2.2 = ff c j := by
  have h1 := ftOk h
  simp only [ftC, Bool.and_eq_true, decide_eq_true_eq] at h1
  have h2 := tyOk h1.1.1 h1.1.2
  simp only [tyC, Bool.and_eq_true, decide_eq_true_eq] at h2
  exact ⟨h1.1.1, h1.1.2, inT_ok h1.2, h2.1.2, h2.1.1.1, h2.1.1.2⟩
theorem ty_kind {c j : Nat} (hc : okC c = true) (hj : j < nf c) : (fk c j = 0 ∧ tyT c j = .int) ∨ (fk c j = 1 ∧ tyT c j = .boolean) ∨ (fk c j = 2 ∧ ((∃ n, tyT c j = .object n) ∨ ∃ t, tyT c j = .array t)) ∨ (fk c j = 3 ∧ tyT c j = .byte) := by
  have h2 := tyOk hc hj
  simp only [tyC, Bool.and_eq_true, decide_eq_true_eq] at h2
  have h3 := h2.2
  revert h3
  cases tyT c j <;> intro h3 <;> (split at h3 <;> simp_all)
section Rows2
variable {l : LX} {y k n pc : Nat} {L : LL} {st : List Value} {σ : MM} {Q : OO → Prop}
/-- a field of whole numbers is read -/
theorem x_getI {ix c j q a : Nat} {z : Int} (hf : ftN (owN y) ix = some (c, j, q)) (ho : isO σ a c) (hk : ¬ fk c j = 2) (hz : (j : Int) = z) (hd : decode (cdN y) pc = .ok (.getfield ix, 3)) (kk : Ex l y k n (pc + 3) L (.int (iI (σ.1 a z)) :: st) σ Q) : Ex l y k n pc L (.ref a :: st) σ Q := by
  intro G p e R s m args below meth c0 A CE SE Qf hA hC hS hF H locs cells slots ls h1 h2 hL hW hR
  obtain ⟨hc, hj, hlk, hcl, -, -⟩ := ft_spec hf
  have hST := hA.2.2.2.2.2.2.2.2.2.2.2.2.2
  rw [show cvs G (.ref a :: st) = .ref (adr G a) :: cvs G st from rfl, adr_lt (Nat.lt_of_lt_of_le ho.1 hW.1)]
  have hv := fld_get (G := G) (σ := σ) (a := a) hj
  rw [if_neg hk, hz] at hv
  exact va_get hA.2.1 hA.2.2.1 hA.2.2.2.2.2.2.2.2.1 (lyOk hc) hA.2.2.2.2.2.1 hST.1 hW.2.1 a (by rw [wsO_get ho.1, cell_O ho.2]) (vwOk hc) j hj (hA.2.2.2.2.2.2.2.2.1 _ hlk) (fun x hx => by rw [hcl] at hx; exact hx) hv hd (kk G p e R s m args below meth c0 A CE SE Qf hA hC hS hF H locs cells slots ls h1 h2 hL hW hR)
/-- a field of references is read -/
theorem x_getR {ix c j q a r : Nat} (hf : ftN (owN y) ix = some (c, j, q)) (ho : isO σ a c) (hk : fk c j = 2) (hr : σ.2.1 a j = some r) (hd : decode (cdN y) pc = .ok (.getfield ix, 3)) (kk : Ex l y k n (pc + 3) L (.ref r :: st) σ Q) : Ex l y k n pc L (.ref a :: st) σ Q := by
  intro G p e R s m args below meth c0 A CE SE Qf hA hC hS hF H locs cells slots ls h1 h2 hL hW hR
  obtain ⟨hc, hj, hlk, hcl, -, -⟩ := ft_spec hf
  have hST := hA.2.2.2.2.2.2.2.2.2.2.2.2.2
  rw [show cvs G (.ref a :: st) = .ref (adr G a) :: cvs G st from rfl, adr_lt (Nat.lt_of_lt_of_le ho.1 hW.1)]
  have hv := fld_get (G := G) (σ := σ) (a := a) hj
  rw [if_pos hk, hr] at hv
  exact va_get hA.2.1 hA.2.2.1 hA.2.2.2.2.2.2.2.2.1 (lyOk hc) hA.2.2.2.2.2.1 hST.1 hW.2.1 a (by rw [wsO_get ho.1, cell_O ho.2]) (vwOk hc) j hj (hA.2.2.2.2.2.2.2.2.1 _ hlk) (fun x hx => by rw [hcl] at hx; exact hx) hv hd (kk G p e R s m args below meth c0 A CE SE Qf hA hC hS hF H locs cells slots ls h1 h2 hL hW hR)
theorem up2_off {I : Nat → Int → Int} {k a : Nat} {j v : Int} (h : a ≠ k) : ∀ b, up2 I k j v a b = I a b := fun b => if_neg (fun z => h z.1)
theorem fld_set {G : GG} {σ : MM} {a c j : Nat} {z v : Int} (hk : ¬ fk c j = 2) (hz : (j : Int) = z) : (fieldsO G σ a c).set j (.int (iI v)) = fieldsO G (up2 σ.1 a z v, σ.2) a c := by
  apply List.ext_getElem?
  intro i
  by_cases hi : i < nf c
  · rw [List.getElem?_set, fld_get hi, fld_len]
    by_cases e : j = i
    · subst e
      rw [if_pos rfl, if_pos hi, fld_get hi, if_neg hk]
      show _ = some (Value.int (iI (up2 σ.1 a z v a (j : Int))))
      rw [show up2 σ.1 a z v a (j : Int) = v from if_pos ⟨rfl, hz⟩]
    · rw [if_neg e, fld_get hi]
      show some (if fk c i = 2 then va_rf ((σ.2.1 a i).map (adr G)) else Value.int (iI (σ.1 a i))) = some (if fk c i = 2 then va_rf ((σ.2.1 a i).map (adr G)) else Value.int (iI (up2 σ.1 a z v a i)))
      rw [show up2 σ.1 a z v a (i : Int) = σ.1 a i from if_neg (fun q => e (by have := q.2; omega))]
  · rw [List.getElem?_eq_none (by rw [List.length_set, fld_len]; omega), List.getElem?_eq_none (by rw [fld_len]; omega)]
/-- a field of whole numbers is written -/
theorem x_putI {ix c j q a : Nat} {z v : Int} (hf : ftN (owN y) ix = some (c, j, q)) (ho : isO σ a c) (hk : fk c j = 0 ∨ (fk c j = 1 ∧ (v = 0 ∨ v = 1)) ∨ (fk c j = 3 ∧ v = 0)) (hff : ff c j = false) (hz : (j : Int) = z) (hd : decode (cdN y) pc = .ok (.putfield ix, 3)) (kk : Ex l y k n (pc + 3) L st (up2 σ.1 a z v, σ.2) Q) : Ex l y k n pc L (.int (iI v) :: .ref a :: st) σ Q := by
  intro G p e R s m args below meth c0 A CE SE Qf hA hC hS hF H locs cells slots ls h1 h2 hL hW hR
  obtain ⟨hc, hj, hlk, hcl, hpd, hfin⟩ := ft_spec hf
  have hST := hA.2.2.2.2.2.2.2.2.2.2.2.2.2
  rw [show cvs G (.int (iI v) :: .ref a :: st) = .int (iI v) :: .ref (adr G a) :: cvs G st from rfl, adr_lt (Nat.lt_of_lt_of_le ho.1 hW.1)]
  have hk2 : ¬ fk c j = 2 := by rcases hk with h | h | h <;> omega
  have hnf : narrow (tyT c j) (.int (iI v)) = .int (iI v) ∧ fits (tyT c j) (.int (iI v)) = true := by
    rcases ty_kind hc hj with ⟨e1, e2⟩ | ⟨e1, e2⟩ | ⟨e1, e2⟩ | ⟨e1, e2⟩
    · rw [e2]; exact ⟨rfl, rfl⟩
    · rw [e2]
      rcases hk with h | ⟨-, h | h⟩ | ⟨h, -⟩
      · omega
      · rw [h]; exact ⟨by decide, by decide⟩
      · rw [h]; exact ⟨by decide, by decide⟩
      · omega
    · exact absurd e1 hk2
    · rw [e2]
      rcases hk with h | ⟨h, -⟩ | ⟨-, h⟩
      · omega
      · omega
      · rw [h]; exact ⟨by decide, by decide⟩
  refine va_put hA.2.1 hA.2.2.1 hA.2.2.2.2.2.2.2.2.1 (lyOk hc) (tyT c) (fun i hi => by
    have h9 := tyOk hc hi
    simp only [tyC, Bool.and_eq_true, decide_eq_true_eq] at h9
    exact h9.1.1.1) (nmOk hc) hA.2.2.2.2.2.1 hST.1 hW.2.1 hW.2.2.1 hW.2.2.2 a (by rw [wsO_get ho.1, cell_O ho.2]) (vwOk hc) j hj (hA.2.2.2.2.2.2.2.2.1 _ hlk) (fun x hx => by rw [hcl] at hx; exact hx) (hfin.trans hff) hpd hnf.1 hnf.2 (by rw [fld_len]; exact hj) hd (fun H1 locs1 hP hD hS1 => ?_)
  have heq : (wsO G σ).set a (G.2.2.2.2.2 a, .inr (c, (fieldsO G σ a c).set j (.int (iI v)))) = wsO G (up2 σ.1 a z v, σ.2) := wsO_set ho.1 rfl (by rw [cell_O (σ := (up2 σ.1 a z v, σ.2)) ho.2, fld_set hk2 hz]) (fun i hi _ => cell_same (up2_off hi) (fun _ => rfl) rfl (fun _ => rfl))
  rw [heq] at hP hD
  exact kk G p e R s m args below meth c0 A CE SE Qf hA hC hS hF H1 locs1 cells slots ls h1 h2 hL ⟨hW.1, hP, hD, hS1⟩ hR
theorem fld_setR {G : GG} {σ : MM} {a c j r : Nat} (hk : fk c j = 2) : (fieldsO G σ a c).set j (.ref (adr G r)) = fieldsO G (σ.1, upr σ.2.1 a j r, σ.2.2) a c := by
  apply List.ext_getElem?
  intro i
  by_cases hi : i < nf c
  · rw [List.getElem?_set, fld_get hi, fld_len]
    by_cases e : j = i
    · subst e
      rw [if_pos rfl, if_pos hi, fld_get hi, if_pos hk]
      show _ = some (va_rf ((upr σ.2.1 a j r a j).map (adr G)))
      rw [show upr σ.2.1 a j r a j = some r from if_pos ⟨rfl, rfl⟩]
      rfl
    · rw [if_neg e, fld_get hi]
      show some (if fk c i = 2 then va_rf ((σ.2.1 a i).map (adr G)) else Value.int (iI (σ.1 a i))) = some (if fk c i = 2 then va_rf ((upr σ.2.1 a j r a i).map (adr G)) else Value.int (iI (σ.1 a i)))
      rw [show upr σ.2.1 a j r a i = σ.2.1 a i from if_neg (fun q => e q.2.symm)]
  · rw [List.getElem?_eq_none (by rw [List.length_set, fld_len]; omega), List.getElem?_eq_none (by rw [fld_len]; omega)]
theorem upr_off {I : Nat → Nat → Option Nat} {k a j v : Nat} (h : a ≠ k) : ∀ b, upr I k j v a b = I a b := fun b => if_neg (fun z => h z.1)
/-- a final field of references, in the constructor -/
theorem x_putF {ix c j q a r : Nat} (hf : ftN (owN y) ix = some (c, j, q)) (ho : isO σ a c) (hk : fk c j = 2) (hff : ff c j = true) (hi : inN y = true) (hoc : owN y = c) (hd : decode (cdN y) pc = .ok (.putfield ix, 3)) (kk : Ex l y k n (pc + 3) L st (σ.1, upr σ.2.1 a j r, σ.2.2) Q) : Ex l y k n pc L (.ref r :: .ref a :: st) σ Q := by
  intro G p e R s m args below meth c0 A CE SE Qf hA hC hS hF H locs cells slots ls h1 h2 hL hW hR
  obtain ⟨hc, hj, hlk, hcl, hpd, hfin⟩ := ft_spec hf
  have hdc : declN c = clsN c := by
    unfold declN
    refine if_neg fun z => ?_
    subst z
    have h4 : j < 4 := hj
    have : j = 0 ∨ j = 1 ∨ j = 2 ∨ j = 3 := by omega
    rcases this with rfl | rfl | rfl | rfl <;> exact absurd hff (by decide)
  have hST := hA.2.2.2.2.2.2.2.2.2.2.2.2.2
  rw [show cvs G (.ref r :: .ref a :: st) = .ref (adr G r) :: .ref (adr G a) :: cvs G st from rfl, adr_lt (Nat.lt_of_lt_of_le ho.1 hW.1)]
  have hnf : narrow (tyT c j) (.ref (adr G r)) = .ref (adr G r) ∧ fits (tyT c j) (.ref (adr G r)) = true := by
    rcases ty_kind hc hj with ⟨e1, e2⟩ | ⟨e1, e2⟩ | ⟨e1, ⟨t, e2⟩ | ⟨t, e2⟩⟩ | ⟨e1, e2⟩
    · omega
    · omega
    · rw [e2]; exact ⟨rfl, rfl⟩
    · rw [e2]; exact ⟨rfl, rfl⟩
    · omega
  refine va_putF hA.2.1 hA.2.2.1 hA.2.2.2.2.2.2.2.2.1 (lyOk hc) (tyT c) (fun i hi => by
    have h9 := tyOk hc hi
    simp only [tyC, Bool.and_eq_true, decide_eq_true_eq] at h9
    exact h9.1.1.1) (nmOk hc) hA.2.2.2.2.2.1 hST.1 hW.2.1 hW.2.2.1 hW.2.2.2 a (by rw [wsO_get ho.1, cell_O ho.2]) (vwOk hc) j hj (hA.2.2.2.2.2.2.2.2.1 _ hlk) (fun x hx => by rw [hcl] at hx; exact hx) (hfin.trans hff) (hA.2.2.2.2.2.2.2.1 hi) (by rw [hcl, hoc, hdc]) hpd hnf.1 hnf.2 (by rw [fld_len]; exact hj) hd (fun H1 locs1 hP hD hS1 => ?_)
  have heq : (wsO G σ).set a (G.2.2.2.2.2 a, .inr (c, (fieldsO G σ a c).set j (.ref (adr G r)))) = wsO G (σ.1, upr σ.2.1 a j r, σ.2.2) := wsO_set ho.1 rfl (by rw [cell_O (σ := (σ.1, upr σ.2.1 a j r, σ.2.2)) ho.2, fld_setR hk]) (fun i hi _ => cell_same (fun _ => rfl) (upr_off hi) rfl (fun _ => rfl))
  rw [heq] at hP hD
  exact kk G p e R s m args below meth c0 A CE SE Qf hA hC hS hF H1 locs1 cells slots ls h1 h2 hL ⟨hW.1, hP, hD, hS1⟩ hR
/-- rows of ints -/
theorem x_iald {a m0 : Nat} {i : Int} (ho : isA σ a m0) (h0 : 0 ≤ i) (h9 : i < m0) (hm : i ≤ 2147483647) (hd : decode (cdN y) pc = .ok (.iaload, 1)) (kk : Ex l y k n (pc + 1) L (.int (iI (σ.1 a i)) :: st) σ Q) : Ex l y k n pc L (.int (iI i) :: .ref a :: st) σ Q := by
  intro G p e R s m args below meth c0 A CE SE Qf hA hC hS hF H locs cells slots ls h1 h2 hL hW hR
  have hST := hA.2.2.2.2.2.2.2.2.2.2.2.2.2
  rw [show cvs G (.int (iI i) :: .ref a :: st) = .int (iI i) :: .ref (adr G a) :: cvs G st from rfl, adr_lt (Nat.lt_of_lt_of_le ho.1 hW.1)]
  have e9 : ((iI i).toNatClampNeg : Int) = i := by rw [iI_clamp ⟨by omega, hm⟩]; omega
  refine va_iald hA.2.1 hA.2.2.1 hST.1 hW.2.1 a 0 (by rw [wsO_get ho.1, cell_A ho.2]) rfl (iI_in h0 h9 hm) hd ?_
  have h := kk G p e R s m args below meth c0 A CE SE Qf hA hC hS hF H locs cells slots ls h1 h2 hL hW hR
  show W _ _ _ _ _ _ _ _ _ _ _ _ _ _ _ (F0 m (pc + 1) ls (.int (iI (σ.1 a (((iI i).toNatClampNeg : Nat) : Int))) :: cvs G st))
  rw [e9]
  exact h
theorem x_iast {a m0 : Nat} {i v : Int} (ho : isA σ a m0) (h0 : 0 ≤ i) (h9 : i < m0) (hm : i ≤ 2147483647) (hd : decode (cdN y) pc = .ok (.iastore, 1)) (kk : Ex l y k n (pc + 1) L st (up2 σ.1 a i v, σ.2) Q) : Ex l y k n pc L (.int (iI v) :: .int (iI i) :: .ref a :: st) σ Q := by
  intro G p e R s m args below meth c0 A CE SE Qf hA hC hS hF H locs cells slots ls h1 h2 hL hW hR
  have hST := hA.2.2.2.2.2.2.2.2.2.2.2.2.2
  rw [show cvs G (.int (iI v) :: .int (iI i) :: .ref a :: st) = .int (iI v) :: .int (iI i) :: .ref (adr G a) :: cvs G st from rfl, adr_lt (Nat.lt_of_lt_of_le ho.1 hW.1)]
  have e9 : (iI i).toNatClampNeg = i.toNat := iI_clamp ⟨by omega, hm⟩
  refine va_iast hA.2.1 hA.2.2.1 hST.1 hW.2.1 hW.2.2.1 hW.2.2.2 a 0 (by rw [wsO_get ho.1, cell_A ho.2]) rfl (iI_in h0 h9 hm) hd (fun H1 locs1 hP hD hS1 => ?_)
  have heq : (wsO G σ).set a (G.2.2.2.2.2 a, .inl (G.2.1.1, m0, .inl (upd (fun j => iI (σ.1 a (j : Int))) (iI i).toNatClampNeg (iI v)))) = wsO G (up2 σ.1 a i v, σ.2) := by
    refine wsO_set ho.1 rfl ?_ (fun i hi _ => cell_same (up2_off hi) (fun _ => rfl) rfl (fun _ => rfl))
    rw [cell_A (σ := (up2 σ.1 a i v, σ.2)) ho.2, e9]
    congr 3
    congr 1
    funext j
    by_cases hj : j = i.toNat
    · subst hj
      rw [pk_us]
      show iI v = iI (up2 σ.1 a i v a ((i.toNat : Nat) : Int))
      rw [show up2 σ.1 a i v a ((i.toNat : Nat) : Int) = v from if_pos ⟨rfl, by omega⟩]
    · rw [pk_un hj]
      show _ = iI (up2 σ.1 a i v a (j : Int))
      rw [show up2 σ.1 a i v a (j : Int) = σ.1 a j from if_neg (fun z => hj (by have := z.2; omega))]
  rw [heq] at hP hD
  exact kk G p e R s m args below meth c0 A CE SE Qf hA hC hS hF H1 locs1 cells slots ls h1 h2 hL ⟨hW.1, hP, hD, hS1⟩ hR
theorem x_alen {a m0 : Nat} (ho : isA σ a m0) (hd : decode (cdN y) pc = .ok (.arraylength, 1)) (kk : Ex l y k n (pc + 1) L (.int (iI m0) :: st) σ Q) : Ex l y k n pc L (.ref a :: st) σ Q := by
  intro G p e R s m args below meth c0 A CE SE Qf hA hC hS hF H locs cells slots ls h1 h2 hL hW hR
  have hST := hA.2.2.2.2.2.2.2.2.2.2.2.2.2
  rw [show cvs G (.ref a :: st) = .ref (adr G a) :: cvs G st from rfl, adr_lt (Nat.lt_of_lt_of_le ho.1 hW.1)]
  exact va_alen hA.2.1 hA.2.2.1 hST.1 hW.2.1 a 0 (x := (m0, .inl (fun j => iI (σ.1 a (j : Int))))) (by rw [wsO_get ho.1, cell_A ho.2]) (ty := .int) rfl (iI_nat m0) hd (kk G p e R s m args below meth c0 A CE SE Qf hA hC hS hF H locs cells slots ls h1 h2 hL hW hR)
/-- the script's length, and what stands in it: G says which; the law's own row -/
theorem x_slen (hd : decode (cdN y) pc = .ok (.arraylength, 1)) (kk : Ex l y k n (pc + 1) L (.int (iI l.2.1) :: st) σ Q) : Ex l y k n pc L (.ref scr :: st) σ Q := by
  intro G p e R s m args below meth c0 A CE SE Qf hA hC hS hF H locs cells slots ls h1 h2 hL hW hR
  have hST := hA.2.2.2.2.2.2.2.2.2.2.2.2.2
  rw [show cvs G (.ref scr :: st) = .ref (adr G scr) :: cvs G st from rfl, adr_scr]
  refine va_slen hA.2.1 hA.2.2.1 hST.2.1.1 hST.2.1.2.1 hST.2.1.2.2 hW.2.2.2 hd ?_
  have h := kk G p e R s m args below meth c0 A CE SE Qf hA hC hS hF H locs cells slots ls h1 h2 hL hW hR
  rw [← hA.1.2.1] at h
  have e9 : Int32.ofNat G.2.2.1.2.1 = iI G.2.2.1.2.1 := iI_nat _
  rw [e9]
  exact h
theorem x_sld {i : Int} (h0 : 0 ≤ i) (h9 : i < l.2.1) (hm : i ≤ 2147483647) (hd : decode (cdN y) pc = .ok (.iaload, 1)) (kk : Ex l y k n (pc + 1) L (.int (iI (l.2.2 i.toNat)) :: st) σ Q) : Ex l y k n pc L (.int (iI i) :: .ref scr :: st) σ Q := by
  intro G p e R s m args below meth c0 A CE SE Qf hA hC hS hF H locs cells slots ls h1 h2 hL hW hR
  have hST := hA.2.2.2.2.2.2.2.2.2.2.2.2.2
  rw [show cvs G (.int (iI i) :: .ref scr :: st) = .int (iI i) :: .ref (adr G scr) :: cvs G st from rfl, adr_scr]
  have e9 : (iI i).toNatClampNeg = i.toNat := iI_clamp ⟨by omega, hm⟩
  refine va_sld hA.2.1 hA.2.2.1 hST.2.1.1 hST.2.1.2.1 hST.2.1.2.2 hW.2.2.2 (iI_in h0 (by rw [hA.1.2.1]; exact h9) hm) hd ?_
  have h := kk G p e R s m args below meth c0 A CE SE Qf hA hC hS hF H locs cells slots ls h1 h2 hL hW hR
  rw [e9, hA.1.2.2 i.toNat (by omega)]
  exact h
/-- an element of a row of references -/
theorem x_aald {a m0 r : Nat} {i : Int} (ho : isR σ a m0) (h0 : 0 ≤ i) (h9 : i < m0) (hm : i ≤ 2147483647) (hr : σ.2.1 a i.toNat = some r) (hd : decode (cdN y) pc = .ok (.aaload, 1)) (kk : Ex l y k n (pc + 1) L (.ref r :: st) σ Q) : Ex l y k n pc L (.int (iI i) :: .ref a :: st) σ Q := by
  intro G p e R s m args below meth c0 A CE SE Qf hA hC hS hF H locs cells slots ls h1 h2 hL hW hR
  have hST := hA.2.2.2.2.2.2.2.2.2.2.2.2.2
  rw [show cvs G (.int (iI i) :: .ref a :: st) = .int (iI i) :: .ref (adr G a) :: cvs G st from rfl, adr_lt (Nat.lt_of_lt_of_le ho.1 hW.1)]
  have e9 : (iI i).toNatClampNeg = i.toNat := iI_clamp ⟨by omega, hm⟩
  refine va_aldq (f := fun j => (σ.2.1 a j).map (adr G)) hA.2.1 hA.2.2.1 hST.1 hW.2.1 a 2 (by rw [wsO_get ho.1, cell_R ho.2]) rfl (iI_in h0 h9 hm) hd ?_
  have h := kk G p e R s m args below meth c0 A CE SE Qf hA hC hS hF H locs cells slots ls h1 h2 hL hW hR
  rw [e9, hr]
  exact h
theorem x_aast {a m0 r c : Nat} {i : Int} (ho : isR σ a m0) (h0 : 0 ≤ i) (h9 : i < m0) (hm : i ≤ 2147483647) (hr : isO σ r 5) (hc5 : clsN 5 = "MatchboxModem$Line") (hd : decode (cdN y) pc = .ok (.aastore, 1)) (kk : Ex l y k n (pc + 1) L st (σ.1, upr σ.2.1 a i.toNat r, σ.2.2) Q) : Ex l y k n pc L (.ref r :: .int (iI i) :: .ref a :: st) σ Q := by
  intro G p e R s m args below meth c0 A CE SE Qf hA hC hS hF H locs cells slots ls h1 h2 hL hW hR
  have hST := hA.2.2.2.2.2.2.2.2.2.2.2.2.2
  rw [show cvs G (.ref r :: .int (iI i) :: .ref a :: st) = .ref (adr G r) :: .int (iI i) :: .ref (adr G a) :: cvs G st from rfl, adr_lt (Nat.lt_of_lt_of_le ho.1 hW.1)]
  have er : adr G r = G.2.2.2.2.2 r := adr_lt (Nat.lt_of_lt_of_le hr.1 hW.1)
  rw [er]
  have e9 : (iI i).toNatClampNeg = i.toNat := iI_clamp ⟨by omega, hm⟩
  refine va_astq (f := fun j => (σ.2.1 a j).map (adr G)) (r := (clsN 5, TT 5, nf 5)) (vs := fieldsO G σ r 5) hA.2.1 hA.2.2.1 hST.1 hW.2.1 hW.2.2.1 hW.2.2.2 a 2 r 5 (by rw [wsO_get ho.1, cell_R ho.2]) (by rw [hc5]; rfl) (by rw [wsO_get hr.1, cell_O hr.2]) (vwOk (by decide)) (iI_in h0 h9 hm) hd (fun H1 locs1 hP hD hS1 => ?_)
  have heq : (wsO G σ).set a (G.2.2.2.2.2 a, .inl (G.2.1.2.2, m0, .inr (.inr (.inr (.inr (va_up (fun j => (σ.2.1 a j).map (adr G)) (iI i).toNatClampNeg (some (G.2.2.2.2.2 r)))))))) = wsO G (σ.1, upr σ.2.1 a i.toNat r, σ.2.2) := by
    refine wsO_set ho.1 rfl ?_ (fun i hi _ => cell_same (fun _ => rfl) (upr_off hi) rfl (fun _ => rfl))
    rw [cell_R (σ := (σ.1, upr σ.2.1 a i.toNat r, σ.2.2)) ho.2, e9]
    congr 7
    funext j
    show (if j = i.toNat then some (G.2.2.2.2.2 r) else (σ.2.1 a j).map (adr G)) = (upr σ.2.1 a i.toNat r a j).map (adr G)
    by_cases hj : j = i.toNat
    · rw [if_pos hj, show upr σ.2.1 a i.toNat r a j = some r from if_pos ⟨rfl, hj⟩, ← er]
      rfl
    · rw [if_neg hj, show upr σ.2.1 a i.toNat r a j = σ.2.1 a j from if_neg (fun z => hj z.2)]
  rw [heq] at hP hD
  exact kk G p e R s m args below meth c0 A CE SE Qf hA hC hS hF H1 locs1 cells slots ls h1 h2 hL ⟨hW.1, hP, hD, hS1⟩ hR
end Rows2
