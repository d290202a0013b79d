/-! ===== rows over the layout; contracts of one outcome ===== -/
theorem up2_s {I : Nat → Int → Int} {k : Nat} {j v : Int} : up2 I k j v k j = v := if_pos ⟨rfl, rfl⟩
theorem up2_p {I : Nat → Int → Int} {k a : Nat} {j v b : Int} (h : a ≠ k) : up2 I k j v a b = I a b := if_neg (fun z => h z.1)
theorem up2_i {I : Nat → Int → Int} {k a : Nat} {j v b : Int} (h : b ≠ j) : up2 I k j v a b = I a b := if_neg (fun z => h z.2)
theorem up2_e {I : Nat → Int → Int} {k a : Nat} {j v b : Int} (h1 : a = k) (h2 : b = j) : up2 I k j v a b = v := if_pos ⟨h1, h2⟩
def b01 (b : Bool) : Int := if b then 1 else 0
theorem b01_t : b01 true = 1 := rfl
theorem b01_f : b01 false = 0 := rfl
theorem b01_or (b : Bool) : b01 b = 0 ∨ b01 b = 1 := by cases b <;> decide
theorem b01_r (b : Bool) : InR (b01 b) := by rcases b01_or b with h | h <;> rw [h] <;> exact ⟨by decide, by decide⟩
def mask : List Bool → LL → LL
  | true :: M, x :: L => x :: mask M L
  | false :: M, _ :: L => none :: mask M L
  | _, L => L
theorem mask_len : ∀ (M : List Bool) (L : LL), (mask M L).length = L.length
  | [], L => by cases L <;> rfl
  | true :: M, [] => rfl
  | false :: M, [] => rfl
  | true :: M, x :: L => by show (mask M L).length + 1 = L.length + 1; rw [mask_len M L]
  | false :: M, x :: L => by show (mask M L).length + 1 = L.length + 1; rw [mask_len M L]
theorem mask_get : ∀ (M : List Bool) (L : LL) (i : Nat) (v : Value), (mask M L)[i]? = some (some v) → L[i]? = some (some v)
  | [], L, i, v, h => by cases L <;> exact h
  | true :: M, [], i, v, h => h
  | false :: M, [], i, v, h => h
  | true :: M, x :: L, 0, v, h => h
  | true :: M, x :: L, i + 1, v, h => mask_get M L i v h
  | false :: M, x :: L, 0, v, h => by cases h
  | false :: M, x :: L, i + 1, v, h => mask_get M L i v h
def DT (l : LX) (y : Nat) (as : List Value) (σ : MM) (k n : Nat) (o : OO) : Prop := CT l y as σ k n (fun o' => o' = o)
section Rows4
variable {l : LX} {y k n pc : Nat} {L : LL} {st : List Value} {Q : OO → Prop} {q : Nat} {I : Nat → Int → Int} {v : Int} {fr : Bool} {σ τ : MM}
theorem mkdt (hl : l.1.stackTraces = false) (hy : y < 332) {as : List Value} {o : OO} (hlen : (enL as).length ≤ mlN y) (hL : en y as = L) (h : Ex l y k n 0 L [] σ (fun o' => o' = o)) : DT l y as σ k n o := mkct hl hy hlen (by rw [hL]; exact h)
theorem x_mask (M : List Bool) (kk : Ex l y k n pc (mask M L) st σ Q) : Ex l y k n pc L st σ Q := x_forget (mask_len M L) (mask_get M L) kk
theorem m_getI {ix c j q9 a : Nat} {z : Int} (hf : ftN (owN y) ix = some (c, j, q9)) (hk : ¬ fk c j = 2) (hz : (j : Int) = z) (ho : isO (mm q I v fr) a c) (hd : decode (cdN y) pc = .ok (.getfield ix, 3)) (kk : Ex l y k n (pc + 3) L (.int (iI (I a z)) :: st) (mm q I v fr) Q) : Ex l y k n pc L (.ref a :: st) (mm q I v fr) Q := x_getI hf ho hk hz hd kk
/-- .. with what is known of it -/
theorem m_getW {ix c j q9 a : Nat} {z w : Int} (hf : ftN (owN y) ix = some (c, j, q9)) (hk : ¬ fk c j = 2) (hz : (j : Int) = z) (ho : isO (mm q I v fr) a c) (hw : I a z = w) (hd : decode (cdN y) pc = .ok (.getfield ix, 3)) (kk : Ex l y k n (pc + 3) L (.int (iI w) :: st) (mm q I v fr) Q) : Ex l y k n pc L (.ref a :: st) (mm q I v fr) Q := x_getI hf ho hk hz hd (by rw [show (mm q I v fr).1 a z = w from hw]; exact kk)
theorem m_getR {ix c j q9 a r : Nat} (hf : ftN (owN y) ix = some (c, j, q9)) (hk : fk c j = 2) (ho : isO (mm q I v fr) a c) (hr : R0 a j = some r) (hd : decode (cdN y) pc = .ok (.getfield ix, 3)) (kk : Ex l y k n (pc + 3) L (.ref r :: st) (mm q I v fr) Q) : Ex l y k n pc L (.ref a :: st) (mm q I v fr) Q := x_getR hf ho hk hr hd kk
theorem m_putI {ix c j q9 a : Nat} {z w : Int} (hf : ftN (owN y) ix = some (c, j, q9)) (hk : fk c j = 0) (hff : ff c j = false) (hz : (j : Int) = z) (ho : isO (mm q I v fr) a c) (hd : decode (cdN y) pc = .ok (.putfield ix, 3)) (kk : Ex l y k n (pc + 3) L st (mm q (up2 I a z w) v fr) Q) : Ex l y k n pc L (.int (iI w) :: .ref a :: st) (mm q I v fr) Q := x_putI hf ho (Or.inl hk) hff hz hd kk
theorem m_putZ {ix c j q9 a : Nat} {z w : Int} (hf : ftN (owN y) ix = some (c, j, q9)) (hk : fk c j = 1) (hff : ff c j = false) (hz : (j : Int) = z) (ho : isO (mm q I v fr) a c) (hw : w = 0 ∨ w = 1) (hd : decode (cdN y) pc = .ok (.putfield ix, 3)) (kk : Ex l y k n (pc + 3) L st (mm q (up2 I a z w) v fr) Q) : Ex l y k n pc L (.int (iI w) :: .ref a :: st) (mm q I v fr) Q := x_putI hf ho (Or.inr (Or.inl ⟨hk, hw⟩)) hff hz hd kk
theorem m_iald {a m0 : Nat} {i : Int} (ho : isA (mm q I v fr) a m0) (h0 : 0 ≤ i) (h9 : i < m0) (hm : i ≤ 2147483647) (hd : decode (cdN y) pc = .ok (.iaload, 1)) (kk : Ex l y k n (pc + 1) L (.int (iI (I a i)) :: st) (mm q I v fr) Q) : Ex l y k n pc L (.int (iI i) :: .ref a :: st) (mm q I v fr) Q := x_iald ho h0 h9 hm hd kk
theorem m_ialdW {a m0 : Nat} {i w : Int} (ho : isA (mm q I v fr) a m0) (h0 : 0 ≤ i) (h9 : i < m0) (hm : i ≤ 2147483647) (hw : I a i = w) (hd : decode (cdN y) pc = .ok (.iaload, 1)) (kk : Ex l y k n (pc + 1) L (.int (iI w) :: st) (mm q I v fr) Q) : Ex l y k n pc L (.int (iI i) :: .ref a :: st) (mm q I v fr) Q := x_iald ho h0 h9 hm hd (by rw [show (mm q I v fr).1 a i = w from hw]; exact kk)
theorem m_iast {a m0 : Nat} {i w : Int} (ho : isA (mm q I v fr) a m0) (h0 : 0 ≤ i) (h9 : i < m0) (hm : i ≤ 2147483647) (hd : decode (cdN y) pc = .ok (.iastore, 1)) (kk : Ex l y k n (pc + 1) L st (mm q (up2 I a i w) v fr) Q) : Ex l y k n pc L (.int (iI w) :: .int (iI i) :: .ref a :: st) (mm q I v fr) Q := x_iast ho h0 h9 hm hd kk
theorem m_alen {a m0 : Nat} {z : Int} (ho : isA (mm q I v fr) a m0) (hz : (m0 : Int) = z) (hd : decode (cdN y) pc = .ok (.arraylength, 1)) (kk : Ex l y k n (pc + 1) L (.int (iI z) :: st) (mm q I v fr) Q) : Ex l y k n pc L (.ref a :: st) (mm q I v fr) Q := x_alen ho hd (by rw [hz]; exact kk)
theorem m_aald {a m0 r : Nat} {i : Int} (ho : isR (mm q I v fr) a m0) (h0 : 0 ≤ i) (h9 : i < m0) (hm : i ≤ 2147483647) (hr : R0 a i.toNat = some r) (hd : decode (cdN y) pc = .ok (.aaload, 1)) (kk : Ex l y k n (pc + 1) L (.ref r :: st) (mm q I v fr) Q) : Ex l y k n pc L (.int (iI i) :: .ref a :: st) (mm q I v fr) Q := x_aald ho h0 h9 hm hr hd kk
theorem m_copy {ix t a d m0 m1 : Nat} {sp dp w : Int} {ps : List Nat} (hc : ctN (owN y) ix = some (8, t, ps)) (ho : isA (mm q I v fr) a m0) (ho1 : isA (mm q I v fr) d m1) (h0 : 0 ≤ sp) (h3 : 0 ≤ dp) (h4 : 0 ≤ w) (h5 : sp + w ≤ m0) (h6 : dp + w ≤ m1) (hm : m0 ≤ 100000) (hm1 : m1 ≤ 100000) (hh : 1 ≤ htN y) (hl : cats st + (nativeFrameWords "java/lang/System" "arraycopy" 5 + 11) ≤ loN y) (hd : decode (cdN y) pc = .ok (.invokestatic ix, 3))
    (kk : Ex l y k n (pc + 3) L st (mm q (cp2 I a sp d dp w) v fr) Q) : Ex l y k n pc L (.int (iI w) :: .int (iI dp) :: .ref d :: .int (iI sp) :: .ref a :: st) (mm q I v fr) Q := x_copy ho ho1 h0 h3 h4 h5 h6 hm hm1 hc hh hl hd kk
theorem x_ifB_eq {off : Int} {tgt : Nat} {b : Bool} (hd : decode (cdN y) pc = .ok (.ifCond .eq off, 3)) (ht : (pc : Int) + off = (tgt : Int)) (kt : b = false → Ex l y k n tgt L st σ Q) (kf : b = true → Ex l y k n (pc + 3) L st σ Q) : Ex l y k n pc L (.int (iI (b01 b)) :: st) σ Q :=
  x_if_eq (b01_r b) hd ht (fun h => kt (by cases b; rfl; cases h)) (fun h => kf (by cases b; exact absurd rfl h; rfl))
theorem x_ifB_ne {off : Int} {tgt : Nat} {b : Bool} (hd : decode (cdN y) pc = .ok (.ifCond .ne off, 3)) (ht : (pc : Int) + off = (tgt : Int)) (kt : b = true → Ex l y k n tgt L st σ Q) (kf : b = false → Ex l y k n (pc + 3) L st σ Q) : Ex l y k n pc L (.int (iI (b01 b)) :: st) σ Q :=
  x_if_ne (b01_r b) hd ht (fun h => kt (by cases b; exact absurd rfl h; rfl)) (fun h => kf (by cases b; rfl; cases h))
/-- lcmp and its branch -/
theorem cmpZ_r (a b : Int) : InR (cmpZ a b) := by
  unfold cmpZ
  split
  · exact ⟨by decide, by decide⟩
  · split <;> exact ⟨by decide, by decide⟩
theorem cmpZ_lt (a b : Int) : cmpZ a b < 0 ↔ a < b := by unfold cmpZ; split; omega; split <;> omega
theorem cmpZ_gt (a b : Int) : 0 < cmpZ a b ↔ b < a := by unfold cmpZ; split; omega; split <;> omega
theorem cmpZ_eq (a b : Int) : cmpZ a b = 0 ↔ a = b := by unfold cmpZ; split; omega; split <;> omega
theorem x_lc_lt {off : Int} {tgt : Nat} {a b : Int} (ha : InL a) (hb : InL b) (hd : decode (cdN y) pc = .ok (.lcmp, 1)) (hd2 : decode (cdN y) (pc + 1) = .ok (.ifCond .lt off, 3)) (ht : ((pc + 1 : Nat) : Int) + off = (tgt : Int)) (kt : a < b → Ex l y k n tgt L st σ Q) (kf : b ≤ a → Ex l y k n (pc + 4) L st σ Q) : Ex l y k n pc L (.long (lL b) :: .long (lL a) :: st) σ Q :=
  x_lcmp ha hb hd (x_if_lt (cmpZ_r a b) hd2 ht (fun h => kt ((cmpZ_lt a b).mp h)) (fun h => kf (Int.not_lt.mp fun z => by have := (cmpZ_lt a b).mpr z; omega)))
theorem x_lc_ge {off : Int} {tgt : Nat} {a b : Int} (ha : InL a) (hb : InL b) (hd : decode (cdN y) pc = .ok (.lcmp, 1)) (hd2 : decode (cdN y) (pc + 1) = .ok (.ifCond .ge off, 3)) (ht : ((pc + 1 : Nat) : Int) + off = (tgt : Int)) (kt : b ≤ a → Ex l y k n tgt L st σ Q) (kf : a < b → Ex l y k n (pc + 4) L st σ Q) : Ex l y k n pc L (.long (lL b) :: .long (lL a) :: st) σ Q :=
  x_lcmp ha hb hd (x_if_ge (cmpZ_r a b) hd2 ht (fun h => kt (Int.not_lt.mp fun z => by have := (cmpZ_lt a b).mpr z; omega)) (fun h => kf ((cmpZ_lt a b).mp h)))
theorem x_lc_gt {off : Int} {tgt : Nat} {a b : Int} (ha : InL a) (hb : InL b) (hd : decode (cdN y) pc = .ok (.lcmp, 1)) (hd2 : decode (cdN y) (pc + 1) = .ok (.ifCond .gt off, 3)) (ht : ((pc + 1 : Nat) : Int) + off = (tgt : Int)) (kt : b < a → Ex l y k n tgt L st σ Q) (kf : a ≤ b → Ex l y k n (pc + 4) L st σ Q) : Ex l y k n pc L (.long (lL b) :: .long (lL a) :: st) σ Q :=
  x_lcmp ha hb hd (x_if_gt (cmpZ_r a b) hd2 ht (fun h => kt ((cmpZ_gt a b).mp h)) (fun h => kf (Int.not_lt.mp fun z => by have := (cmpZ_gt a b).mpr z; omega)))
theorem x_lc_eq {off : Int} {tgt : Nat} {a b : Int} (ha : InL a) (hb : InL b) (hd : decode (cdN y) pc = .ok (.lcmp, 1)) (hd2 : decode (cdN y) (pc + 1) = .ok (.ifCond .eq off, 3)) (ht : ((pc + 1 : Nat) : Int) + off = (tgt : Int)) (kt : a = b → Ex l y k n tgt L st σ Q) (kf : a ≠ b → Ex l y k n (pc + 4) L st σ Q) : Ex l y k n pc L (.long (lL b) :: .long (lL a) :: st) σ Q :=
  x_lcmp ha hb hd (x_if_eq (cmpZ_r a b) hd2 ht (fun h => kt ((cmpZ_eq a b).mp h)) (fun h => kf (fun z => h ((cmpZ_eq a b).mpr z))))
/-- calls of one outcome: it returns and makes nothing -/
theorem fr_or (h : τ.2.2.2.2.2 = σ.2.2.2.2.2) {w : Option Value} : σ.2.2.2.2.2 = true ∨ ∀ (v : Option Value) (τ' : MM), ((Sum.inl v, τ') : OO) = (.inl w, τ) → τ'.2.2.2.2.2 = false := by
  cases hs : σ.2.2.2.2.2 with
  | true => exact Or.inl rfl
  | false =>
    refine Or.inr fun v τ' e => ?_
    have e2 : τ' = τ := congrArg Prod.snd e
    rw [e2, h, hs]
theorem ex_00 (h : Ex l y (0 + k) (0 + n) pc L st σ Q) : Ex l y k n pc L st σ Q := by rw [Nat.zero_add, Nat.zero_add] at h; exact h
theorem x_cV {ix t a : Nat} {ps : List Nat} {As rest : List Value} {w : Option Value} (hc : ctN (owN y) ix = some (0, t, ps)) (hCT : DT l t (.ref a :: As) σ 0 0 (.inl w, τ)) (ho : isO σ a (owN t)) (hst : st = As.reverse ++ .ref a :: rest) (hlen : As.length = naN t) (hcat : cats rest ≤ 8) (hh : htN t + 1 ≤ htN y) (hlo : 8 + (mlN t + 11) + loN t ≤ loN y) (hfr : τ.2.2.2.2.2 = σ.2.2.2.2.2) (hd : decode (cdN y) pc = .ok (.invokevirtual ix, 3))
    (kk : Ex l y k n (pc + 3) L (w.toList ++ rest) τ Q) : Ex l y k n pc L st σ Q :=
  ex_00 (x_callV hc hCT ho hst hlen hcat hh hlo hd (fr_or hfr) (fun v τ' e => by cases e; exact kk) (fun E τ' e _ => by cases e))
theorem x_cS {ix t : Nat} {ps : List Nat} {As rest : List Value} {w : Option Value} (hc : ctN (owN y) ix = some (1, t, ps)) (hCT : DT l t As σ 0 0 (.inl w, τ)) (hst : st = As.reverse ++ rest) (hlen : As.length = naN t) (hcat : cats rest ≤ 8) (hh : htN t + 1 ≤ htN y) (hlo : 8 + (mlN t + 11) + loN t ≤ loN y) (hown : owN t = owN y) (hfr : τ.2.2.2.2.2 = σ.2.2.2.2.2) (hd : decode (cdN y) pc = .ok (.invokestatic ix, 3))
    (kk : Ex l y k n (pc + 3) L (w.toList ++ rest) τ Q) : Ex l y k n pc L st σ Q :=
  ex_00 (x_callS hc hCT hst hlen hcat hh hlo hown hd (fr_or hfr) (fun v τ' e => by cases e; exact kk) (fun E τ' e _ => by cases e))
theorem x_cSN {ix t : Nat} {ps : List Nat} {As rest : List Value} {w : Option Value} (hc : ctN (owN y) ix = some (3, t, ps)) (hCT : DT l t As σ 0 0 (.inl w, τ)) (hst : st = As.reverse ++ rest) (hlen : As.length = naN t) (hcat : cats rest ≤ 8) (hh : htN t + 1 ≤ htN y) (hlo : 8 + (mlN t + 11) + loN t ≤ loN y) (hfr : τ.2.2.2.2.2 = σ.2.2.2.2.2) (hd : decode (cdN y) pc = .ok (.invokestatic ix, 3))
    (kk : Ex l y k n (pc + 3) L (w.toList ++ rest) τ Q) : Ex l y k n pc L st σ Q :=
  ex_00 (x_callSN hc hCT hst hlen hcat hh hlo hd (fr_or hfr) (fun v τ' e => by cases e; exact kk) (fun E τ' e _ => by cases e))
/-- .. it throws, and this method has no handlers -/
theorem x_cVt {ix t a E : Nat} {ps : List Nat} {As rest : List Value} (hc : ctN (owN y) ix = some (0, t, ps)) (hCT : DT l t (.ref a :: As) σ 1 6 (.inr E, τ)) (ho : isO σ a (owN t)) (hst : st = As.reverse ++ .ref a :: rest) (hlen : As.length = naN t) (hcat : cats rest ≤ 8) (hh : htN t + 1 ≤ htN y) (hlo : 8 + (mlN t + 11) + loN t ≤ loN y) (hy : hhN y = []) (hd : decode (cdN y) pc = .ok (.invokevirtual ix, 3))
    (kk : Q (.inr E, τ)) : Ex l y 1 6 pc L st σ Q :=
  x_callV (k := 0) (n := 0) hc hCT ho hst hlen hcat hh hlo hd (Or.inr fun v τ' e => by cases e) (fun v τ' e => by cases e) (fun E τ' e _ => by cases e; exact Or.inl ⟨hy, kk⟩)
theorem x_cSt {ix t E : Nat} {ps : List Nat} {As rest : List Value} (hc : ctN (owN y) ix = some (1, t, ps)) (hCT : DT l t As σ 1 6 (.inr E, τ)) (hst : st = As.reverse ++ rest) (hlen : As.length = naN t) (hcat : cats rest ≤ 8) (hh : htN t + 1 ≤ htN y) (hlo : 8 + (mlN t + 11) + loN t ≤ loN y) (hown : owN t = owN y) (hy : hhN y = []) (hd : decode (cdN y) pc = .ok (.invokestatic ix, 3))
    (kk : Q (.inr E, τ)) : Ex l y 1 6 pc L st σ Q :=
  x_callS (k := 0) (n := 0) hc hCT hst hlen hcat hh hlo hown hd (Or.inr fun v τ' e => by cases e) (fun v τ' e => by cases e) (fun E τ' e _ => by cases e; exact Or.inl ⟨hy, kk⟩)
end Rows4
section Rows5
variable {l : LX} {y k n pc : Nat} {L : LL} {st : List Value} {Q : OO → Prop} {σ τ : MM}
theorem x_cVs {ix t a : Nat} {ps : List Nat} {As rest : List Value} {w : Value} (hc : ctN (owN y) ix = some (0, t, ps)) (hCT : DT l t (.ref a :: As) σ 0 0 (.inl (some w), τ)) (ho : isO σ a (owN t)) (hst : st = As.reverse ++ .ref a :: rest) (hlen : As.length = naN t) (hcat : cats rest ≤ 8) (hh : htN t + 1 ≤ htN y) (hlo : 8 + (mlN t + 11) + loN t ≤ loN y) (hfr : τ.2.2.2.2.2 = σ.2.2.2.2.2) (hd : decode (cdN y) pc = .ok (.invokevirtual ix, 3))
    (kk : Ex l y k n (pc + 3) L (w :: rest) τ Q) : Ex l y k n pc L st σ Q := x_cV hc hCT ho hst hlen hcat hh hlo hfr hd kk
theorem x_cVv {ix t a : Nat} {ps : List Nat} {As rest : List Value} (hc : ctN (owN y) ix = some (0, t, ps)) (hCT : DT l t (.ref a :: As) σ 0 0 (.inl none, τ)) (ho : isO σ a (owN t)) (hst : st = As.reverse ++ .ref a :: rest) (hlen : As.length = naN t) (hcat : cats rest ≤ 8) (hh : htN t + 1 ≤ htN y) (hlo : 8 + (mlN t + 11) + loN t ≤ loN y) (hfr : τ.2.2.2.2.2 = σ.2.2.2.2.2) (hd : decode (cdN y) pc = .ok (.invokevirtual ix, 3))
    (kk : Ex l y k n (pc + 3) L rest τ Q) : Ex l y k n pc L st σ Q := x_cV hc hCT ho hst hlen hcat hh hlo hfr hd kk
theorem x_cSs {ix t : Nat} {ps : List Nat} {As rest : List Value} {w : Value} (hc : ctN (owN y) ix = some (1, t, ps)) (hCT : DT l t As σ 0 0 (.inl (some w), τ)) (hst : st = As.reverse ++ rest) (hlen : As.length = naN t) (hcat : cats rest ≤ 8) (hh : htN t + 1 ≤ htN y) (hlo : 8 + (mlN t + 11) + loN t ≤ loN y) (hown : owN t = owN y) (hfr : τ.2.2.2.2.2 = σ.2.2.2.2.2) (hd : decode (cdN y) pc = .ok (.invokestatic ix, 3))
    (kk : Ex l y k n (pc + 3) L (w :: rest) τ Q) : Ex l y k n pc L st σ Q := x_cS hc hCT hst hlen hcat hh hlo hown hfr hd kk
theorem x_cSv {ix t : Nat} {ps : List Nat} {As rest : List Value} (hc : ctN (owN y) ix = some (1, t, ps)) (hCT : DT l t As σ 0 0 (.inl none, τ)) (hst : st = As.reverse ++ rest) (hlen : As.length = naN t) (hcat : cats rest ≤ 8) (hh : htN t + 1 ≤ htN y) (hlo : 8 + (mlN t + 11) + loN t ≤ loN y) (hown : owN t = owN y) (hfr : τ.2.2.2.2.2 = σ.2.2.2.2.2) (hd : decode (cdN y) pc = .ok (.invokestatic ix, 3))
    (kk : Ex l y k n (pc + 3) L rest τ Q) : Ex l y k n pc L st σ Q := x_cS hc hCT hst hlen hcat hh hlo hown hfr hd kk
theorem x_cSNs {ix t : Nat} {ps : List Nat} {As rest : List Value} {w : Value} (hc : ctN (owN y) ix = some (3, t, ps)) (hCT : DT l t As σ 0 0 (.inl (some w), τ)) (hst : st = As.reverse ++ rest) (hlen : As.length = naN t) (hcat : cats rest ≤ 8) (hh : htN t + 1 ≤ htN y) (hlo : 8 + (mlN t + 11) + loN t ≤ loN y) (hfr : τ.2.2.2.2.2 = σ.2.2.2.2.2) (hd : decode (cdN y) pc = .ok (.invokestatic ix, 3))
    (kk : Ex l y k n (pc + 3) L (w :: rest) τ Q) : Ex l y k n pc L st σ Q := x_cSN hc hCT hst hlen hcat hh hlo hfr hd kk
theorem x_bool {z : Int} {b : Bool} (h : z = b01 b) {rest : List Value} (kk : Ex l y k n pc L (.int (iI (b01 b)) :: rest) σ Q) : Ex l y k n pc L (.int (iI z) :: rest) σ Q := by rw [h]; exact kk
theorem x_val {z w : Int} (h : z = w) {rest : List Value} (kk : Ex l y k n pc L (.int (iI w) :: rest) σ Q) : Ex l y k n pc L (.int (iI z) :: rest) σ Q := by rw [h]; exact kk
end Rows5
section Rows6
variable {l : LX} {y k n pc : Nat} {L : LL} {st : List Value} {Q : OO → Prop} {q : Nat} {I : Nat → Int → Int} {v : Int} {fr : Bool}
/-- a memory of which this is known; with an answer -/
def oE (q : Nat) (v : Int) (fr : Bool) (w : Option Value) (P : (Nat → Int → Int) → Prop) : OO → Prop := fun o => ∃ J, o = (.inl w, mm q J v fr) ∧ P J
theorem mkct2 {σ : MM} (hl : l.1.stackTraces = false) (hy : y < 332) {as : List Value} (hlen : (enL as).length ≤ mlN y) (hL : en y as = L) (h : Ex l y k n 0 L [] σ Q) : CT l y as σ k n Q := mkct hl hy hlen (by rw [hL]; exact h)
theorem fr_or2 {w : Option Value} {P : (Nat → Int → Int) → Prop} : (mm q I v fr).2.2.2.2.2 = true ∨ ∀ (v' : Option Value) (τ' : MM), oE q v fr w P (.inl v', τ') → τ'.2.2.2.2.2 = false := by
  cases fr with
  | true => exact Or.inl rfl
  | false =>
    refine Or.inr fun v' τ' e => ?_
    obtain ⟨J, e1, -⟩ := e
    have e2 : τ' = mm q J v false := congrArg Prod.snd e1
    rw [e2]
    rfl
theorem x_cVe {ix t a : Nat} {ps : List Nat} {As rest : List Value} {w : Option Value} {P : (Nat → Int → Int) → Prop} (hc : ctN (owN y) ix = some (0, t, ps)) (hCT : CT l t (.ref a :: As) (mm q I v fr) 0 0 (oE q v fr w P)) (ho : isO (mm q I v fr) a (owN t)) (hst : st = As.reverse ++ .ref a :: rest) (hlen : As.length = naN t) (hcat : cats rest ≤ 8) (hh : htN t + 1 ≤ htN y) (hlo : 8 + (mlN t + 11) + loN t ≤ loN y) (hd : decode (cdN y) pc = .ok (.invokevirtual ix, 3))
    (kk : ∀ J, P J → Ex l y k n (pc + 3) L (w.toList ++ rest) (mm q J v fr) Q) : Ex l y k n pc L st (mm q I v fr) Q :=
  ex_00 (x_callV hc hCT ho hst hlen hcat hh hlo hd fr_or2 (fun v' τ' e => by
    obtain ⟨J, e1, hJ⟩ := e
    cases e1
    exact kk J hJ) (fun E τ' e _ => by obtain ⟨J, e1, -⟩ := e; cases e1))
theorem x_cVev {ix t a : Nat} {ps : List Nat} {As rest : List Value} {P : (Nat → Int → Int) → Prop} (hc : ctN (owN y) ix = some (0, t, ps)) (hCT : CT l t (.ref a :: As) (mm q I v fr) 0 0 (oE q v fr none P)) (ho : isO (mm q I v fr) a (owN t)) (hst : st = As.reverse ++ .ref a :: rest) (hlen : As.length = naN t) (hcat : cats rest ≤ 8) (hh : htN t + 1 ≤ htN y) (hlo : 8 + (mlN t + 11) + loN t ≤ loN y) (hd : decode (cdN y) pc = .ok (.invokevirtual ix, 3))
    (kk : ∀ J, P J → Ex l y k n (pc + 3) L rest (mm q J v fr) Q) : Ex l y k n pc L st (mm q I v fr) Q := x_cVe hc hCT ho hst hlen hcat hh hlo hd kk
theorem x_cVes {ix t a : Nat} {ps : List Nat} {As rest : List Value} {w : Value} {P : (Nat → Int → Int) → Prop} (hc : ctN (owN y) ix = some (0, t, ps)) (hCT : CT l t (.ref a :: As) (mm q I v fr) 0 0 (oE q v fr (some w) P)) (ho : isO (mm q I v fr) a (owN t)) (hst : st = As.reverse ++ .ref a :: rest) (hlen : As.length = naN t) (hcat : cats rest ≤ 8) (hh : htN t + 1 ≤ htN y) (hlo : 8 + (mlN t + 11) + loN t ≤ loN y) (hd : decode (cdN y) pc = .ok (.invokevirtual ix, 3))
    (kk : ∀ J, P J → Ex l y k n (pc + 3) L (w :: rest) (mm q J v fr) Q) : Ex l y k n pc L st (mm q I v fr) Q := x_cVe hc hCT ho hst hlen hcat hh hlo hd kk
end Rows6
