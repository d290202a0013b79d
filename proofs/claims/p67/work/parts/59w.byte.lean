/-! ===== rows of bytes ===== -/
section VTC
variable {p : Program} {l : Launch} {e : Env} {R : Room} {s : State} {m : MethodId} {args : Array Value} {below : List Frame} {meth : Method} {c : Code} {H : Heap} {locs : List Loc} {cells slots : Nat} {Q : State → Prop}
variable {pc : Nat} {ls : Array Slot} {rest : List Value} {D : va_G} {cl : List vw_C} {A : Nat → Prop} {a : Nat} {tys : List (ClassId × FieldType)} {ws : va_W}
/-- bytes copied out of an array that nobody writes (follows va_copyx of the kit) -/
theorem va_copyT {cc : ByteArray} (hexec : p.tables.exec = Jvm.exec) (hb : c.code = cc) (hml : c.maxLocals = ls.size) {own : String} {index : Nat} (hown : s.vm.findClass own = some m.cls) (hlink : (Cond.methodLink own index arraycopyName).before args s = true) (hnat : (Cond.native arraycopyName).before args s = true) (hstat : (Cond.static arraycopyName).before args s = true) (hini : (Cond.initialized "java/lang/System").before args s = true)
    (hK : va_K D cl tys s) (hP : va_P D cl ws H) (hD : va_D A ws) (hS : va_S A s.heap H locs) {b0 n0 : Nat} {f : Nat → Int32} (hX : va_T .byte b0 n0 (fun j => .int (f j)) A s s.heap) (q1 t1 : Nat) {c1 : ClassId} {n1 : Nat} {g : Nat → Int32} (ha1 : ws[q1]? = some (a, .inl (c1, n1, .inl g))) (ht1 : tys[t1]? = some (c1, .byte))
    {sp dp n : Int32} (h1 : ¬ sp < 0) (h2 : ¬ dp < 0) (h3 : ¬ n < 0) (h4 : sp.toNatClampNeg + n.toNatClampNeg ≤ n0) (h5 : dp.toNatClampNeg + n.toNatClampNeg ≤ n1) (hfit : ∀ i, i < n.toNatClampNeg → fits .byte (.int (f (sp.toNatClampNeg + i))) = true)
    (hframes : 1 ≤ R.frames) (hlocals : (rest.map fun v => v.category).sum + (nativeFrameWords "java/lang/System" "arraycopy" 5 + 11) ≤ R.locals) (hdg : decode cc pc = .ok (.invokestatic index, 3))
    (kk : ∀ (H1 : Heap) (locs1 : List Loc), va_P D cl (ws.set q1 (a, .inl (c1, n1, .inl (va_cpy f g sp.toNatClampNeg dp.toNatClampNeg n.toNatClampNeg)))) H1 → va_D A (ws.set q1 (a, .inl (c1, n1, .inl (va_cpy f g sp.toNatClampNeg dp.toNatClampNeg n.toNatClampNeg)))) → va_S A s.heap H1 locs1 → W p l e R s m args below meth c H1 locs1 cells slots Q (F0 m (pc + 3) ls rest)) : W p l e R s m args below meth c H locs cells slots Q (F0 m pc ls (.int n :: .int dp :: .ref a :: .int sp :: .ref b0 :: rest)) := by
  have nn : ∀ z : Int32, ¬ z < 0 → z.toInt = (z.toNatClampNeg : Int) := by
    intro z hz
    have hz0 : (0 : Int) ≤ z.toInt := by
      have := Int32.not_lt.mp hz
      simpa using Int32.le_iff_toInt_le.mp this
    show z.toInt = ((z.toInt.toNat : Nat) : Int)
    omega
  intro T hT X
  obtain ⟨scr, hs1, hs2, hs3, hs4, -, hs5, hbA⟩ := hX
  have hbl : b0 < s.heap.size := (Array.getElem?_eq_some_iff.mp hs1).1
  have hc0 : H[b0]? = some scr := by rw [hS.2.1 b0 hbl hbA]; exact hs1
  have hc1 : H[a]? = some (vp_cell c1 (n1, .inl g)) := hP q1 _ ha1
  obtain ⟨hs6, k0, hk0, cm0, hkk0⟩ := hs2
  obtain ⟨-, k1, hk1, cm1, hkk1⟩ := (hK.2 t1 _ ht1).1 n1 (fun j => .int (g j))
  obtain ⟨vm', X', step⟩ := X.arraycopy hexec hown hlink hnat hstat hini (src := b0) (dst := a) (cs := scr) (cd := vp_cell c1 (n1, .inl g)) (srcPos := sp) (destPos := dp) (n := n) (by rw [hT]; exact hc0) (by rw [hT]; exact hc1)
    hs6 (fun _ h => by cases h) hs3 (fun h => by cases h) hk0 hk1 hkk0 hkk1 (by simp [refKind]) h1 h2 h3
    (by rw [nn sp h1, nn n h3]; omega)
    (by rw [nn dp h2, nn n h3]; show ¬ _ > ((arrV c1 n1 (fun j => .int (g j))).slots.size : Int); rw [arrV_size]; omega)
    (fun vm₁ _ i hi => by
      have e : scr.slots.getD (sp.toNatClampNeg + i) .null = .int (f (sp.toNatClampNeg + i)) := by
        rw [Array.getD_eq_getD_getElem?, hs5 _ (by omega)]
        rfl
      refine ⟨?_, ?_⟩
      · rw [e]
        exact hfit i hi
      · rw [e]
        exact trivial)
    (g := F0 m pc ls (.int n :: .int dp :: .ref a :: .int sp :: .ref b0 :: rest)) rfl (by rw [hml]) (rest := rest) rfl (by rw [hb]; exact hdg) hframes (by show 2 * 0 + _ + _ ≤ _; omega)
  have e1 : copied scr (vp_cell c1 (n1, .inl g)) sp dp n = vp_cell c1 (n1, .inl (va_cpy f g sp.toNatClampNeg dp.toNatClampNeg n.toNatClampNeg)) := va_copiedX (fun z => .int z) scr c1 f g hs5 h4
  rw [e1] at X' step
  have hl : a < H.size := (Array.getElem?_eq_some_iff.mp hc1).1
  have hheap : ((T.setVm vm').setCell a (vp_cell c1 (n1, .inl (va_cpy f g sp.toNatClampNeg dp.toNatClampNeg n.toNatClampNeg)))).heap = H.setIfInBounds a (vp_cell c1 (n1, .inl (va_cpy f g sp.toNatClampNeg dp.toNatClampNeg n.toNatClampNeg))) := by rw [← hT]; rfl
  have oq : ∀ q : Nat, q ≠ a → (H.setIfInBounds a (vp_cell c1 (n1, .inl (va_cpy f g sp.toNatClampNeg dp.toNatClampNeg n.toNatClampNeg))))[q]? = H[q]? := fun q hq => by simp [Array.getElem?_setIfInBounds, Ne.symm hq]
  obtain ⟨t, a1, b1⟩ := kk _ _ (hP.set hD ha1 (show (H.setIfInBounds a _)[a]? = some _ by simp [Array.getElem?_setIfInBounds, hl]) oq) (hD.set ha1) ⟨by simp; exact hS.1, fun q g1 g2 => by
      rw [oq q (fun e => g2 (by rw [e]; exact hD.2 q1 _ ha1))]
      exact hS.2.1 q g1 g2, fun q hq => by
      rcases List.mem_append.mp hq with h | h
      · exact hS.2.2 q h
      · obtain ⟨z, -, hz⟩ := List.mem_map.mp h
        rw [← hz]
        exact hD.2 q1 _ ha1⟩ _ hheap X'
  exact ⟨t, step t a1, b1⟩
end VTC
section Bytes
variable {l : LX} {y k n pc : Nat} {L : LL} {st : List Value} {σ : MM} {Q : OO → Prop}
theorem nar8 : ∀ n : Fin 128, vp_nar .byte (iI (n : Nat)) = iI (n : Nat) ∧ fits .byte (.int (iI (n : Nat))) = true ∧ (iI (n : Nat)).toInt8.toInt32 = iI (n : Nat) := by decide +kernel
theorem nar8' {z : Int} (h0 : 0 ≤ z) (h1 : z ≤ 127) : vp_nar .byte (iI z) = iI z ∧ fits .byte (.int (iI z)) = true ∧ (iI z).toInt8.toInt32 = iI z := by
  have := nar8 ⟨z.toNat, by omega⟩
  rw [show (((⟨z.toNat, by omega⟩ : Fin 128) : Nat) : Int) = z from by show ((z.toNat : Nat) : Int) = z; omega] at this
  exact this
theorem x_bald {a m0 : Nat} {i : Int} (ho : isB σ a m0) (h0 : 0 ≤ i) (h9 : i < m0) (hm : i ≤ 2147483647) (hd : decode (cdN y) pc = .ok (.baload, 1)) (kk : Ex l y k n (pc + 1) L (.int (iI (σ.1 a i)) :: st) σ Q) : Ex l y k n pc L (.int (iI i) :: .ref a :: st) σ Q := by
  intro G p e R s m args below meth c0 A CE SE Qf hA hC hS hF H locs cells slots ls h1 h2 hL hW hR
  have hST := hA.2.2.2.2.2.2.2.2.2.2.2.2.2
  rw [show cvs G (.int (iI i) :: .ref a :: st) = .int (iI i) :: .ref (adr G a) :: cvs G st from rfl, adr_lt (Nat.lt_of_lt_of_le ho.1 hW.1)]
  have e9 : ((iI i).toNatClampNeg : Int) = i := by rw [iI_clamp ⟨by omega, hm⟩]; omega
  refine va_bald hA.2.1 hA.2.2.1 hST.1 hW.2.1 a 1 (by rw [wsO_get ho.1, cell_L ho.2]) rfl (iI_in h0 h9 hm) hd ?_
  have h := kk G p e R s m args below meth c0 A CE SE Qf hA hC hS hF H locs cells slots ls h1 h2 hL hW hR
  show W _ _ _ _ _ _ _ _ _ _ _ _ _ _ _ (F0 m (pc + 1) ls (.int (iI (σ.1 a (((iI i).toNatClampNeg : Nat) : Int))) :: cvs G st))
  rw [e9]
  exact h
theorem x_blen {a m0 : Nat} (ho : isB σ a m0) (hd : decode (cdN y) pc = .ok (.arraylength, 1)) (kk : Ex l y k n (pc + 1) L (.int (iI m0) :: st) σ Q) : Ex l y k n pc L (.ref a :: st) σ Q := by
  intro G p e R s m args below meth c0 A CE SE Qf hA hC hS hF H locs cells slots ls h1 h2 hL hW hR
  have hST := hA.2.2.2.2.2.2.2.2.2.2.2.2.2
  rw [show cvs G (.ref a :: st) = .ref (adr G a) :: cvs G st from rfl, adr_lt (Nat.lt_of_lt_of_le ho.1 hW.1)]
  exact va_alen hA.2.1 hA.2.2.1 hST.1 hW.2.1 a 1 (x := (m0, .inl (fun j => iI (σ.1 a (j : Int))))) (by rw [wsO_get ho.1, cell_L ho.2]) (ty := .byte) rfl (iI_nat m0) hd (kk G p e R s m args below meth c0 A CE SE Qf hA hC hS hF H locs cells slots ls h1 h2 hL hW hR)
theorem x_bast {a m0 : Nat} {i v : Int} (ho : isB σ a m0) (h0 : 0 ≤ i) (h9 : i < m0) (hm : i ≤ 2147483647) (hv0 : 0 ≤ v) (hv1 : v ≤ 127) (hd : decode (cdN y) pc = .ok (.bastore, 1)) (kk : Ex l y k n (pc + 1) L st (up2 σ.1 a i v, σ.2) Q) : Ex l y k n pc L (.int (iI v) :: .int (iI i) :: .ref a :: st) σ Q := by
  intro G p e R s m args below meth c0 A CE SE Qf hA hC hS hF H locs cells slots ls h1 h2 hL hW hR
  have hST := hA.2.2.2.2.2.2.2.2.2.2.2.2.2
  rw [show cvs G (.int (iI v) :: .int (iI i) :: .ref a :: st) = .int (iI v) :: .int (iI i) :: .ref (adr G a) :: cvs G st from rfl, adr_lt (Nat.lt_of_lt_of_le ho.1 hW.1)]
  have e9 : (iI i).toNatClampNeg = i.toNat := iI_clamp ⟨by omega, hm⟩
  refine va_bast hA.2.1 hA.2.2.1 hST.1 hW.2.1 hW.2.2.1 hW.2.2.2 a 1 (by rw [wsO_get ho.1, cell_L ho.2]) rfl (iI_in h0 h9 hm) hd (fun H1 locs1 hP hD hS1 => ?_)
  rw [(nar8' hv0 hv1).1] at hP hD
  have heq : (wsO G σ).set a (G.2.2.2.2.2 a, .inl (G.2.1.2.1, m0, .inl (upd (fun j => iI (σ.1 a (j : Int))) (iI i).toNatClampNeg (iI v)))) = wsO G (up2 σ.1 a i v, σ.2) := by
    refine wsO_set ho.1 rfl ?_ (fun i hi _ => cell_same (up2_off hi) (fun _ => rfl) rfl (fun _ => rfl))
    rw [cell_L (σ := (up2 σ.1 a i v, σ.2)) ho.2, e9]
    congr 3
    congr 1
    funext j
    by_cases hj : j = i.toNat
    · subst hj
      rw [pk_us]
      show iI v = iI (up2 σ.1 a i v a ((i.toNat : Nat) : Int))
      rw [show up2 σ.1 a i v a ((i.toNat : Nat) : Int) = v from if_pos ⟨rfl, by omega⟩]
    · rw [pk_un hj]
      show _ = iI (up2 σ.1 a i v a (j : Int))
      rw [show up2 σ.1 a i v a (j : Int) = σ.1 a j from if_neg (fun z => hj (by have := z.2; omega))]
  rw [heq] at hP hD
  exact kk G p e R s m args below meth c0 A CE SE Qf hA hC hS hF H1 locs1 cells slots ls h1 h2 hL ⟨hW.1, hP, hD, hS1⟩ hR
theorem cpB_eq {G : GG} {σ : MM} {d m1 : Nat} {f : Nat → Int32} {F : Int → Int} {sp dp w : Int} (ho1 : isB σ d m1) (h0 : 0 ≤ sp) (h3 : 0 ≤ dp) (h4 : 0 ≤ w) (r1 : InR sp) (r2 : InR dp) (r3 : InR w) (hf : ∀ i : Nat, (i : Int) < w → f (sp.toNat + i) = iI (F (sp + i))) :
    (wsO G σ).set d (G.2.2.2.2.2 d, .inl (G.2.1.2.1, m1, .inl (va_cpy f (fun j => iI (σ.1 d (j : Int))) (iI sp).toNatClampNeg (iI dp).toNatClampNeg (iI w).toNatClampNeg))) = wsO G (fun a b => if a = d ∧ dp ≤ b ∧ b < dp + w then F (sp + (b - dp)) else σ.1 a b, σ.2) := by
  refine wsO_set ho1.1 rfl ?_ (fun i hi _ => cell_same (fun b => if_neg (fun z => hi z.1)) (fun _ => rfl) rfl (fun _ => rfl))
  rw [cell_L (σ := (fun a b => if a = d ∧ dp ≤ b ∧ b < dp + w then F (sp + (b - dp)) else σ.1 a b, σ.2)) ho1.2, iI_clamp r1, iI_clamp r2, iI_clamp r3]
  congr 4
  funext j
  show (if dp.toNat ≤ j ∧ j < dp.toNat + w.toNat then f (sp.toNat + (j - dp.toNat)) else iI (σ.1 d (j : Int))) = iI (if d = d ∧ dp ≤ (j : Int) ∧ (j : Int) < dp + w then F (sp + ((j : Int) - dp)) else σ.1 d j)
  by_cases hj : dp.toNat ≤ j ∧ j < dp.toNat + w.toNat
  · rw [if_pos hj, if_pos ⟨rfl, by omega, by omega⟩, hf _ (by omega)]
    congr 2
    omega
  · rw [if_neg hj, if_neg (fun z => hj ⟨by omega, by omega⟩)]
/-- System.arraycopy of bytes, place to place -/
theorem x_bcopy {ix t a d m0 m1 : Nat} {sp dp w : Int} {ps : List Nat} (ho : isB σ a m0) (ho1 : isB σ d m1) (h0 : 0 ≤ sp) (h3 : 0 ≤ dp) (h4 : 0 ≤ w) (h5 : sp + w ≤ m0) (h6 : dp + w ≤ m1) (hm : m0 ≤ 100000) (hm1 : m1 ≤ 100000) (hr : ∀ i, sp ≤ i → i < sp + w → 0 ≤ σ.1 a i ∧ σ.1 a i ≤ 127) (hc : ctN (owN y) ix = some (8, t, ps)) (hh : 1 ≤ htN y) (hl : cats st + (nativeFrameWords "java/lang/System" "arraycopy" 5 + 11) ≤ loN y) (hd : decode (cdN y) pc = .ok (.invokestatic ix, 3))
    (kk : Ex l y k n (pc + 3) L st (cp2 σ.1 a sp d dp w, σ.2) Q) : Ex l y k n pc L (.int (iI w) :: .int (iI dp) :: .ref d :: .int (iI sp) :: .ref a :: st) σ Q := by
  intro G p e R s m args below meth c A CE SE Qf hA hC hS hF H locs cells slots ls h1 h2 hL hW hR
  obtain ⟨hw, -⟩ := ctIn hc
  have hts := hA.2.2.2.2.2.2.2.2.1
  have hST := hA.2.2.2.2.2.2.2.2.2.2.2.2.2
  have r1 : InR sp := ⟨by omega, by omega⟩
  have r2 : InR dp := ⟨by omega, by omega⟩
  have r3 : InR w := ⟨by omega, by omega⟩
  rw [show cvs G (.int (iI w) :: .int (iI dp) :: .ref d :: .int (iI sp) :: .ref a :: st) = .int (iI w) :: .int (iI dp) :: .ref (adr G d) :: .int (iI sp) :: .ref (adr G a) :: cvs G st from rfl, adr_lt (Nat.lt_of_lt_of_le ho.1 hW.1), adr_lt (Nat.lt_of_lt_of_le ho1.1 hW.1)]
  refine va_copyi hA.2.1 hA.2.2.1 (by rw [hA.2.2.2.1]; exact hL.1.symm) hA.2.2.2.2.2.1 (hts _ (tw (hw _ (by simp [ctW])) rfl)) (hts _ (tw (hw _ (by simp [ctW])) rfl)) (hts _ (tw (hw _ (by simp [ctW])) rfl)) (hts _ (tw (hw _ (by simp [ctW])) rfl)) hST.1 hW.2.1 hW.2.2.1 hW.2.2.2 a d 1 1 (ty := .byte) (by rw [wsO_get ho.1, cell_L ho.2]) (by rw [wsO_get ho1.1, cell_L ho1.2]) rfl rfl rfl
    (by rw [iI_0, iI_lt r1 inR_0]; omega) (by rw [iI_0, iI_lt r2 inR_0]; omega) (by rw [iI_0, iI_lt r3 inR_0]; omega) (by rw [iI_clamp r1, iI_clamp r3]; omega) (by rw [iI_clamp r2, iI_clamp r3]; omega) (fun i hi => by
      rw [iI_clamp r3] at hi
      rw [iI_clamp r1]
      have := hr ((sp.toNat + i : Nat) : Int) (by omega) (by omega)
      exact (nar8' this.1 this.2).2.1) (by rw [hA.2.2.2.2.2.2.2.2.2.2.1]; exact hh)
    (by rw [hA.2.2.2.2.2.2.2.2.2.2.2.1]; exact (by rw [cvs_cats]; exact hl : ((cvs G st).map fun v => v.category).sum + (nativeFrameWords "java/lang/System" "arraycopy" 5 + 11) ≤ loN y)) hd (fun H1 locs1 hP hD hS1 => ?_)
  have heq := cpB_eq (G := G) (f := fun j => iI (σ.1 a (j : Int))) (F := σ.1 a) ho1 h0 h3 h4 r1 r2 r3 (fun i _ => by
    show iI (σ.1 a ((sp.toNat + i : Nat) : Int)) = _
    rw [show ((sp.toNat + i : Nat) : Int) = sp + i from by omega])
  rw [heq] at hP hD
  exact kk G p e R s m args below meth c A CE SE Qf hA hC hS hF H1 locs1 cells slots ls h1 h2 hL ⟨hW.1, hP, hD, hS1⟩ hR
/-- .. of a text's bytes -/
def cpT (I : Nat → Int → Int) (i : Nat) (d : Nat) (dp w : Int) : Nat → Int → Int := fun a b => if a = d ∧ dp ≤ b ∧ b < dp + w then tB i (0 + (b - dp)) else I a b
theorem x_tcopy {ix t i d m1 : Nat} {dp w : Int} {ps : List Nat} (hi : i < nTC) (ho1 : isB σ d m1) (h3 : 0 ≤ dp) (h4 : w = ksLen i) (h6 : dp + w ≤ m1) (hm1 : m1 ≤ 100000) (hc : ctN (owN y) ix = some (8, t, ps)) (hh : 1 ≤ htN y) (hl : cats st + (nativeFrameWords "java/lang/System" "arraycopy" 5 + 11) ≤ loN y) (hd : decode (cdN y) pc = .ok (.invokestatic ix, 3))
    (kk : Ex l y k n (pc + 3) L st (cpT σ.1 i d dp w, σ.2) Q) : Ex l y k n pc L (.int (iI w) :: .int (iI dp) :: .ref d :: .int (iI 0) :: .ref (scr + 1001 + i) :: st) σ Q := by
  intro G p e R s m args below meth c A CE SE Qf hA hC hS hF H locs cells slots ls h1 h2 hL hW hR
  obtain ⟨hw, -⟩ := ctIn hc
  have hts := hA.2.2.2.2.2.2.2.2.1
  have hST := hA.2.2.2.2.2.2.2.2.2.2.2.2.2
  have hb := ksLen_b hi
  have r1 : InR 0 := inR_0
  have r2 : InR dp := ⟨by omega, by omega⟩
  have r3 : InR w := ⟨by omega, by omega⟩
  rw [show cvs G (.int (iI w) :: .int (iI dp) :: .ref d :: .int (iI 0) :: .ref (scr + 1001 + i) :: st) = .int (iI w) :: .int (iI dp) :: .ref (adr G d) :: .int (iI 0) :: .ref (adr G (scr + 1001 + i)) :: cvs G st from rfl, adr_tb, adr_lt (Nat.lt_of_lt_of_le ho1.1 hW.1)]
  have hself : ∀ j, ((ksB i).getD j 0) = iI (tB i (j : Int)) := fun j => by
    show _ = iI (((ksB i).getD ((j : Int)).toNat 0).toInt)
    rw [Int.toNat_natCast, iI_self]
  refine va_copyT hA.2.1 hA.2.2.1 (by rw [hA.2.2.2.1]; exact hL.1.symm) hA.2.2.2.2.2.1 (hts _ (tw (hw _ (by simp [ctW])) rfl)) (hts _ (tw (hw _ (by simp [ctW])) rfl)) (hts _ (tw (hw _ (by simp [ctW])) rfl)) (hts _ (tw (hw _ (by simp [ctW])) rfl)) hST.1 hW.2.1 hW.2.2.1 hW.2.2.2 (f := fun j => (ksB i).getD j 0) (hST.2.2.1 i hi).2.2.2 d 1 (by rw [wsO_get ho1.1, cell_L ho1.2]) rfl
    (by rw [iI_0, iI_lt r1 inR_0]; omega) (by rw [iI_0, iI_lt r2 inR_0]; omega) (by rw [iI_0, iI_lt r3 inR_0]; omega) (by rw [iI_clamp r1, iI_clamp r3]; omega) (by rw [iI_clamp r2, iI_clamp r3]; omega) (fun j hj => by
      rw [iI_clamp r3] at hj
      rw [iI_clamp r1]
      have := tB_r hi (j := (((0 : Int).toNat + j : Nat) : Int)) (by omega) (by omega)
      show fits .byte (.int ((ksB i).getD _ 0)) = true
      rw [hself]
      exact (nar8' this.1 this.2).2.1) (by rw [hA.2.2.2.2.2.2.2.2.2.2.1]; exact hh)
    (by rw [hA.2.2.2.2.2.2.2.2.2.2.2.1]; exact (by rw [cvs_cats]; exact hl : ((cvs G st).map fun v => v.category).sum + (nativeFrameWords "java/lang/System" "arraycopy" 5 + 11) ≤ loN y)) hd (fun H1 locs1 hP hD hS1 => ?_)
  have heq := cpB_eq (G := G) (f := fun j => (ksB i).getD j 0) (F := tB i) (sp := 0) ho1 (Int.le_refl 0) h3 (by omega) r1 r2 r3 (fun j _ => by
    show (ksB i).getD ((0 : Int).toNat + j) 0 = _
    rw [hself, show (((0 : Int).toNat + j : Nat) : Int) = 0 + (j : Int) from by omega])
  rw [heq] at hP hD
  exact kk G p e R s m args below meth c A CE SE Qf hA hC hS hF H1 locs1 cells slots ls h1 h2 hL ⟨hW.1, hP, hD, hS1⟩ hR
theorem x_null (hd : decode (cdN y) pc = .ok (.aconst_null, 1)) (kk : Ex l y k n (pc + 1) L (.null :: st) σ Q) : Ex l y k n pc L st σ Q :=
  x_go (fun G p e R s m args below meth c Qf H locs cells slots ls hx hb hL hk => lv_null hx hb hd hk) kk
theorem x_ifnn {a tgt : Nat} {off : Int} (hd : decode (cdN y) pc = .ok (.ifnonnull off, 3)) (ht : (pc : Int) + off = (tgt : Int)) (kk : Ex l y k n tgt L st σ Q) : Ex l y k n pc L (.ref a :: st) σ Q :=
  x_go (fun G p e R s m args below meth c Qf H locs cells slots ls hx hb hL hk => lv_ifnonnull hx hb hd ht hk) kk
theorem x_i2b {z : Int} (h0 : 0 ≤ z) (h1 : z ≤ 127) (hd : decode (cdN y) pc = .ok (.i2b, 1)) (kk : Ex l y k n (pc + 1) L (.int (iI z) :: st) σ Q) : Ex l y k n pc L (.int (iI z) :: st) σ Q :=
  x_go (fun G p e R s m args below meth c Qf H locs cells slots ls hx hb hL hk => lv_i2b hx hb hd (nar8' h0 h1).2.2 hk) kk
theorem x_bCS (ho : owN y = 16) (hd : decode (cdN y) pc = .ok (.getstatic 18, 3)) (kk : Ex l y k n (pc + 3) L (.int (iI 1) :: st) σ Q) : Ex l y k n pc L st σ Q := by
  intro G p e R s m args below meth c0 A CE SE Qf hA hC hS hF H locs cells slots ls h1 h2 hL hW hR
  have hST := hA.2.2.2.2.2.2.2.2.2.2.2.2.2
  have hw : Cond.fieldLink (clsN 16) 18 "java/lang/String" "COMPACT_STRINGS" "Z" ∈ T0 := inT_any (by decide +kernel)
  have h9 := kk G p e R s m args below meth c0 A CE SE Qf hA hC hS hF H locs cells slots ls h1 h2 hL hW hR
  exact va_gets hA.2.1 hA.2.2.1 (own := clsN (owN y)) (ref := "java/lang/String") hST.2.2.2.2.2.1 hW.2.2.2 hA.2.2.2.2.2.1 (by rw [ho]; exact hA.2.2.2.2.2.2.2.2.1 _ hw) (fun x hx => hx) hd h9
/-- the library's digits -/
def dgO : Nat := scr + 1001 + 1000
def dgT : Nat := scr + 1001 + 1001
theorem x_gO (ho : owN y = 17) (hd : decode (cdN y) pc = .ok (.getstatic 83, 3)) (kk : Ex l y k n (pc + 3) L (.ref dgO :: st) σ Q) : Ex l y k n pc L st σ Q := by
  intro G p e R s m args below meth c0 A CE SE Qf hA hC hS hF H locs cells slots ls h1 h2 hL hW hR
  have hST := hA.2.2.2.2.2.2.2.2.2.2.2.2.2
  have hw : Cond.fieldLink (clsN 17) 83 "java/lang/Integer" "DigitOnes" "[B" ∈ T0 := inT_any (by decide +kernel)
  have h9 := kk G p e R s m args below meth c0 A CE SE Qf hA hC hS hF H locs cells slots ls h1 h2 hL hW hR
  rw [show cvs G (.ref dgO :: st) = .ref (adr G dgO) :: cvs G st from rfl, show adr G dgO = G.2.2.2.2.1 1000 from adr_tb] at h9
  exact va_gets hA.2.1 hA.2.2.1 (own := clsN (owN y)) (ref := "java/lang/Integer") hST.2.2.2.2.2.2.2.2.2.2.2.1.1 hW.2.2.2 hA.2.2.2.2.2.1 (by rw [ho]; exact hA.2.2.2.2.2.2.2.2.1 _ hw) (fun x hx => hx) hd h9
theorem x_gT (ho : owN y = 17) (hd : decode (cdN y) pc = .ok (.getstatic 87, 3)) (kk : Ex l y k n (pc + 3) L (.ref dgT :: st) σ Q) : Ex l y k n pc L st σ Q := by
  intro G p e R s m args below meth c0 A CE SE Qf hA hC hS hF H locs cells slots ls h1 h2 hL hW hR
  have hST := hA.2.2.2.2.2.2.2.2.2.2.2.2.2
  have hw : Cond.fieldLink (clsN 17) 87 "java/lang/Integer" "DigitTens" "[B" ∈ T0 := inT_any (by decide +kernel)
  have h9 := kk G p e R s m args below meth c0 A CE SE Qf hA hC hS hF H locs cells slots ls h1 h2 hL hW hR
  rw [show cvs G (.ref dgT :: st) = .ref (adr G dgT) :: cvs G st from rfl, show adr G dgT = G.2.2.2.2.1 1001 from adr_tb] at h9
  exact va_gets hA.2.1 hA.2.2.1 (own := clsN (owN y)) (ref := "java/lang/Integer") hST.2.2.2.2.2.2.2.2.2.2.2.2.1 hW.2.2.2 hA.2.2.2.2.2.1 (by rw [ho]; exact hA.2.2.2.2.2.2.2.2.1 _ hw) (fun x hx => hx) hd h9
theorem x_dO {j : Int} (h0 : 0 ≤ j) (h1 : j < 100) (hd : decode (cdN y) pc = .ok (.baload, 1)) (kk : Ex l y k n (pc + 1) L (.int (iI (48 + j % 10)) :: st) σ Q) : Ex l y k n pc L (.int (iI j) :: .ref dgO :: st) σ Q := by
  intro G p e R s m args below meth c0 A CE SE Qf hA hC hS hF H locs cells slots ls g1 g2 hL hW hR
  have hST := hA.2.2.2.2.2.2.2.2.2.2.2.2.2
  have h9 := kk G p e R s m args below meth c0 A CE SE Qf hA hC hS hF H locs cells slots ls g1 g2 hL hW hR
  rw [show cvs G (.int (iI j) :: .ref dgO :: st) = .int (iI j) :: .ref (adr G dgO) :: cvs G st from rfl, show adr G dgO = G.2.2.2.2.1 1000 from adr_tb]
  exact va_tb hA.2.1 hA.2.2.1 hST.2.2.2.2.2.2.2.2.2.2.2.1.2 hW.2.2.2 (iI_in h0 (by omega) (by omega)) (by show Value.int (iI (48 + (((iI j).toNatClampNeg : Nat) : Int) % 10)) = _; rw [iI_clamp ⟨by omega, by omega⟩, show ((j.toNat : Nat) : Int) = j from by omega]; rfl) hd h9
theorem x_dT {j : Int} (h0 : 0 ≤ j) (h1 : j < 100) (hd : decode (cdN y) pc = .ok (.baload, 1)) (kk : Ex l y k n (pc + 1) L (.int (iI (48 + j / 10)) :: st) σ Q) : Ex l y k n pc L (.int (iI j) :: .ref dgT :: st) σ Q := by
  intro G p e R s m args below meth c0 A CE SE Qf hA hC hS hF H locs cells slots ls g1 g2 hL hW hR
  have hST := hA.2.2.2.2.2.2.2.2.2.2.2.2.2
  have h9 := kk G p e R s m args below meth c0 A CE SE Qf hA hC hS hF H locs cells slots ls g1 g2 hL hW hR
  rw [show cvs G (.int (iI j) :: .ref dgT :: st) = .int (iI j) :: .ref (adr G dgT) :: cvs G st from rfl, show adr G dgT = G.2.2.2.2.1 1001 from adr_tb]
  exact va_tb hA.2.1 hA.2.2.1 hST.2.2.2.2.2.2.2.2.2.2.2.2.2 hW.2.2.2 (iI_in h0 (by omega) (by omega)) (by show Value.int (iI (48 + (((iI j).toNatClampNeg : Nat) : Int) / 10)) = _; rw [iI_clamp ⟨by omega, by omega⟩, show ((j.toNat : Nat) : Int) = j from by omega]; rfl) hd h9
/-- a field of references that isn't final is written -/
theorem x_putR {ix c j q a r : Nat} (hf : ftN (owN y) ix = some (c, j, q)) (ho : isO σ a c) (hk : fk c j = 2) (hff : ff c j = false) (hd : decode (cdN y) pc = .ok (.putfield ix, 3)) (kk : Ex l y k n (pc + 3) L st (σ.1, upr σ.2.1 a j r, σ.2.2) Q) : Ex l y k n pc L (.ref r :: .ref a :: st) σ Q := by
  intro G p e R s m args below meth c0 A CE SE Qf hA hC hS hF H locs cells slots ls h1 h2 hL hW hR
  obtain ⟨hc, hj, hlk, hcl, hpd, hfin⟩ := ft_spec hf
  have hST := hA.2.2.2.2.2.2.2.2.2.2.2.2.2
  rw [show cvs G (.ref r :: .ref a :: st) = .ref (adr G r) :: .ref (adr G a) :: cvs G st from rfl, adr_lt (Nat.lt_of_lt_of_le ho.1 hW.1)]
  have hnf : narrow (tyT c j) (.ref (adr G r)) = .ref (adr G r) ∧ fits (tyT c j) (.ref (adr G r)) = true := by
    rcases ty_kind hc hj with ⟨e1, e2⟩ | ⟨e1, e2⟩ | ⟨e1, ⟨t, e2⟩ | ⟨t, e2⟩⟩ | ⟨e1, e2⟩
    · omega
    · omega
    · rw [e2]; exact ⟨rfl, rfl⟩
    · rw [e2]; exact ⟨rfl, rfl⟩
    · omega
  refine va_put hA.2.1 hA.2.2.1 hA.2.2.2.2.2.2.2.2.1 (lyOk hc) (tyT c) (fun i hi => by
    have h9 := tyOk hc hi
    simp only [tyC, Bool.and_eq_true, decide_eq_true_eq] at h9
    exact h9.1.1.1) (nmOk hc) hA.2.2.2.2.2.1 hST.1 hW.2.1 hW.2.2.1 hW.2.2.2 a (by rw [wsO_get ho.1, cell_O ho.2]) (vwOk hc) j hj (hA.2.2.2.2.2.2.2.2.1 _ hlk) (fun x hx => by rw [hcl] at hx; exact hx) (hfin.trans hff) hpd hnf.1 hnf.2 (by rw [fld_len]; exact hj) hd (fun H1 locs1 hP hD hS1 => ?_)
  have heq : (wsO G σ).set a (G.2.2.2.2.2 a, .inr (c, (fieldsO G σ a c).set j (.ref (adr G r)))) = wsO G (σ.1, upr σ.2.1 a j r, σ.2.2) := wsO_set ho.1 rfl (by rw [cell_O (σ := (σ.1, upr σ.2.1 a j r, σ.2.2)) ho.2, fld_setR hk]) (fun i hi _ => cell_same (fun _ => rfl) (upr_off hi) rfl (fun _ => rfl))
  rw [heq] at hP hD
  exact kk G p e R s m args below meth c0 A CE SE Qf hA hC hS hF H1 locs1 cells slots ls h1 h2 hL ⟨hW.1, hP, hD, hS1⟩ hR
/-- a final byte, in the constructor: 0 -/
theorem x_putFB {ix c j q a : Nat} {z : Int} (hf : ftN (owN y) ix = some (c, j, q)) (ho : isO σ a c) (hk : fk c j = 3) (hff : ff c j = true) (hi : inN y = true) (hoc : owN y = c) (h15 : c ≠ 15) (hz : (j : Int) = z) (hd : decode (cdN y) pc = .ok (.putfield ix, 3)) (kk : Ex l y k n (pc + 3) L st (up2 σ.1 a z 0, σ.2) Q) : Ex l y k n pc L (.int (iI 0) :: .ref a :: st) σ Q := by
  intro G p e R s m args below meth c0 A CE SE Qf hA hC hS hF H locs cells slots ls h1 h2 hL hW hR
  obtain ⟨hc, hj, hlk, hcl, hpd, hfin⟩ := ft_spec hf
  have hST := hA.2.2.2.2.2.2.2.2.2.2.2.2.2
  rw [show cvs G (.int (iI 0) :: .ref a :: st) = .int (iI 0) :: .ref (adr G a) :: cvs G st from rfl, adr_lt (Nat.lt_of_lt_of_le ho.1 hW.1)]
  have hnf : narrow (tyT c j) (.int (iI 0)) = .int (iI 0) ∧ fits (tyT c j) (.int (iI 0)) = true := by
    rcases ty_kind hc hj with ⟨e1, e2⟩ | ⟨e1, e2⟩ | ⟨e1, e2⟩ | ⟨e1, e2⟩
    · omega
    · omega
    · omega
    · rw [e2]; exact ⟨by decide, by decide⟩
  have hdc : declN c = clsN c := if_neg h15
  refine va_putF hA.2.1 hA.2.2.1 hA.2.2.2.2.2.2.2.2.1 (lyOk hc) (tyT c) (fun i hi => by
    have h9 := tyOk hc hi
    simp only [tyC, Bool.and_eq_true, decide_eq_true_eq] at h9
    exact h9.1.1.1) (nmOk hc) hA.2.2.2.2.2.1 hST.1 hW.2.1 hW.2.2.1 hW.2.2.2 a (by rw [wsO_get ho.1, cell_O ho.2]) (vwOk hc) j hj (hA.2.2.2.2.2.2.2.2.1 _ hlk) (fun x hx => by rw [hcl] at hx; exact hx) (hfin.trans hff) (hA.2.2.2.2.2.2.2.1 hi) (by rw [hcl, hoc, hdc]) hpd hnf.1 hnf.2 (by rw [fld_len]; exact hj) hd (fun H1 locs1 hP hD hS1 => ?_)
  have heq : (wsO G σ).set a (G.2.2.2.2.2 a, .inr (c, (fieldsO G σ a c).set j (.int (iI 0)))) = wsO G (up2 σ.1 a z 0, σ.2) := wsO_set ho.1 rfl (by rw [cell_O (σ := (up2 σ.1 a z 0, σ.2)) ho.2, fld_set (by omega) hz]) (fun i hi _ => cell_same (up2_off hi) (fun _ => rfl) rfl (fun _ => rfl))
  rw [heq] at hP hD
  exact kk G p e R s m args below meth c0 A CE SE Qf hA hC hS hF H1 locs1 cells slots ls h1 h2 hL ⟨hW.1, hP, hD, hS1⟩ hR
end Bytes
