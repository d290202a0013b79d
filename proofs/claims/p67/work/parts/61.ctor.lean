/-! ===== the constructors of the class's parts ===== -/
/-- the references of place a from its field m on are still null -/
def mR (R : Nat → Nat → Option Nat) (a m : Nat) : Nat → Nat → Option Nat := fun a' b => if a' = a ∧ m ≤ b then none else R a' b
/-- memory under construction -/
def cm (I : Nat → Int → Int) (R : Nat → Nat → Option Nat) (q : Nat) (v : Int) : MM := (I, R, K0, q, v, true)
theorem mR_off {R : Nat → Nat → Option Nat} {a m a' : Nat} (h : a' ≠ a) (b : Nat) : mR R a m a' b = R a' b := if_neg fun z => h z.1
theorem mR_none {R : Nat → Nat → Option Nat} {a m a' b : Nat} (h : R a' b = none) : mR R a m a' b = none := by
  unfold mR
  split
  · rfl
  · exact h
theorem mR_all {R : Nat → Nat → Option Nat} {a m : Nat} (h : ∀ b, m ≤ b → R a b = none) : mR R a m = R := by
  funext a' b
  unfold mR
  split
  · rename_i z
    obtain ⟨rfl, z⟩ := z
    exact (h b z).symm
  · rfl
theorem mR_up {R : Nat → Nat → Option Nat} {a m j r : Nat} (hm : ∀ b, m ≤ b → b < j → R a b = none) (hj : m ≤ j) (hr : R a j = some r) : upr (mR R a m) a j r = mR R a (j + 1) := by
  funext a' b
  show (if a' = a ∧ b = j then some r else mR R a m a' b) = mR R a (j + 1) a' b
  unfold mR
  by_cases ha : a' = a
  · subst ha
    by_cases hb : b = j
    · subst hb
      rw [if_pos ⟨rfl, rfl⟩, if_neg (fun z => by have := z.2; omega), hr]
    · rw [if_neg (fun z => hb z.2)]
      by_cases h1 : j + 1 ≤ b
      · rw [if_pos ⟨rfl, by omega⟩, if_pos ⟨rfl, h1⟩]
      · rw [if_neg (c := a' = a' ∧ j + 1 ≤ b) (fun z => h1 z.2)]
        by_cases h2 : m ≤ b
        · rw [if_pos ⟨rfl, h2⟩, hm b h2 (by omega)]
        · rw [if_neg (fun z => h2 z.2)]
  · rw [if_neg (fun z => ha z.1), if_neg (fun z => ha z.1), if_neg (fun z => ha z.1)]
theorem mkC_cm {I : Nat → Int → Int} {R : Nat → Nat → Option Nat} {q κ : Nat} {v : Int} (hK : K0 q = κ) (hI : ∀ j, I q j = 0) : mkC (cm I R q v) κ = cm I (mR R q 0) (q + 1) v := by
  show ((fun a b => if a = q then 0 else I a b, fun a b => if a = q then none else R a b, fun a => if a = q then κ else K0 a, q + 1, v, true) : MM) = (I, mR R q 0, K0, q + 1, v, true)
  have e1 : (fun a b => if a = q then (0 : Int) else I a b) = I := by
    funext a b
    split
    · rename_i h; rw [h, hI]
    · rfl
  have e2 : (fun a b => if a = q then none else R a b) = mR R q 0 := by
    funext a b
    unfold mR
    by_cases h : a = q
    · rw [if_pos h, if_pos ⟨h, Nat.zero_le _⟩]
    · rw [if_neg h, if_neg (fun z => h z.1)]
  have e3 : (fun a => if a = q then κ else K0 a) = K0 := by
    funext a
    split
    · rename_i h; rw [h, hK]
    · rfl
  rw [e1, e2, e3]
theorem gD_end {L : List (Option Nat)} {b : Nat} (h : L.length ≤ b) : L.getD b none = none := by
  rw [List.getD_eq_getElem?_getD, List.getElem?_eq_none h]
  rfl
/-- the places a .. a + N - 1 are as they will be: nothing but 0, references as laid out -/
def Fr (I : Nat → Int → Int) (R : Nat → Nat → Option Nat) (a N : Nat) : Prop := ∀ b, a ≤ b → b < a + N → (∀ j, I b j = 0) ∧ ∀ j, R b j = R0 b j
theorem Fr.sub {I : Nat → Int → Int} {R : Nat → Nat → Option Nat} {a N m a2 N2 : Nat} (h : Fr I R a N) (h1 : a < a2) (h2 : a2 + N2 ≤ a + N) : Fr I (mR R a m) a2 N2 := fun b b0 b1 => ⟨(h b (by omega) (by omega)).1, fun j => by rw [mR_off (by omega)]; exact (h b (by omega) (by omega)).2 j⟩
theorem Fr.sub' {I : Nat → Int → Int} {R : Nat → Nat → Option Nat} {a N m x a2 N2 : Nat} (h : Fr I R a N) (h0 : a ≤ a2) (h1 : x < a2) (h2 : a2 + N2 ≤ a + N) : Fr I (mR R x m) a2 N2 := fun b b0 b1 => ⟨(h b (by omega) (by omega)).1, fun j => by rw [mR_off (by omega)]; exact (h b (by omega) (by omega)).2 j⟩
theorem Fr.r {I : Nat → Int → Int} {R : Nat → Nat → Option Nat} {a N b : Nat} {L : List (Option Nat)} (h : Fr I R a N) (h0 : a ≤ b) (h1 : b < a + N) (hL : R0L.getD b [] = L) (j : Nat) : R b j = L.getD j none := by
  rw [(h b h0 h1).2 j]
  unfold R0
  rw [hL]
section CtorRows
variable {l : LX} {y k n k2 n2 pc : Nat} {L : LL} {st : List Value} {Q : OO → Prop} {I : Nat → Int → Int} {R : Nat → Nat → Option Nat} {q : Nat} {v : Int}
theorem c_new {ix c q1 q2 q3 : Nat} (hc : clN (owN y) ix = some (c, q1, q2, q3)) (hnp : q < 1000000) (hK : K0 q = 10 * c + 5) (hI : ∀ j, I q j = 0) (e1 : k2 = k + 1) (e2 : n2 = n + nf c) (hd : decode (cdN y) pc = .ok (.new ix, 3)) (kk : Ex l y k n (pc + 3) L (.ref q :: st) (cm I (mR R q 0) (q + 1) v) Q) : Ex l y k2 n2 pc L st (cm I R q v) Q := by
  subst e1; subst e2
  exact x_new hc hnp rfl hd (by rw [mkC_cm hK hI]; exact kk)
theorem c_newI {z : Int} {m0 : Nat} (hz : (m0 : Int) = z) (hm : m0 ≤ 100000) (hnp : q < 1000000) (hK : K0 q = 10 * m0) (hI : ∀ j, I q j = 0) (hR : ∀ j, R q j = none) (e1 : k2 = k + 1) (e2 : n2 = n + m0) (hd : decode (cdN y) pc = .ok (.newarray .int, 2)) (kk : Ex l y k n (pc + 2) L (.ref q :: st) (cm I R (q + 1) v) Q) : Ex l y k2 n2 pc L (.int (iI z) :: st) (cm I R q v) Q := by
  subst e1; subst e2
  exact x_newI hz hm hnp rfl hd (by rw [mkC_cm hK hI, mR_all (fun b _ => hR b)]; exact kk)
theorem c_newR {ix q1 q2 q3 : Nat} {z : Int} {m0 : Nat} (hz : (m0 : Int) = z) (hm : m0 ≤ 100000) (hc : clN (owN y) ix = some (5, q1, q2, q3)) (hnp : q < 1000000) (hK : K0 q = 10 * m0 + 1) (hI : ∀ j, I q j = 0) (e1 : k2 = k + 1) (e2 : n2 = n + m0) (hd : decode (cdN y) pc = .ok (.anewarray ix, 3)) (kk : Ex l y k n (pc + 3) L (.ref q :: st) (cm I (mR R q 0) (q + 1) v) Q) : Ex l y k2 n2 pc L (.int (iI z) :: st) (cm I R q v) Q := by
  subst e1; subst e2
  exact x_newR hz hm hc hnp rfl hd (by rw [mkC_cm hK hI]; exact kk)
theorem c_putF {ix c j q9 a r m : Nat} (hf : ftN (owN y) ix = some (c, j, q9)) (ha : a < q) (hK : K0 a = 10 * c + 5) (hk : fk c j = 2) (hff : ff c j = true) (hi : inN y = true) (hoc : owN y = c) (hm : ∀ b, m ≤ b → b < j → R a b = none) (hj : m ≤ j) (hr : R a j = some r) (hd : decode (cdN y) pc = .ok (.putfield ix, 3)) (kk : Ex l y k n (pc + 3) L st (cm I (mR R a (j + 1)) q v) Q) : Ex l y k n pc L (.ref r :: .ref a :: st) (cm I (mR R a m) q v) Q :=
  x_putF hf ⟨ha, hK⟩ hk hff hi hoc hd (by
    have e : upr (mR R a m) a j r = mR R a (j + 1) := mR_up hm hj hr
    show Ex l y k n (pc + 3) L st (I, upr (mR R a m) a j r, K0, q, v, true) Q
    rw [e]
    exact kk)
theorem c_callI {ix t a k1 n1 : Nat} {ps : List Nat} {As rest : List Value} {st : List Value} {σ τ : MM} (hc : ctN (owN y) ix = some (2, t, ps)) (hCT : DT l t (.ref a :: As) σ k1 n1 (.inl none, τ)) (hlt : a < 1000000) (hst : st = As.reverse ++ .ref a :: rest) (hlen : As.length = naN t) (hcat : cats rest ≤ 8) (hh : htN t + 1 ≤ htN y) (hlo : 8 + (mlN t + 11) + loN t ≤ loN y) (hfr : σ.2.2.2.2.2 = true) (e1 : k2 = k1 + k) (e2 : n2 = n1 + n) (hd : decode (cdN y) pc = .ok (.invokespecial ix, 3)) (kk : Ex l y k n (pc + 3) L rest τ Q) : Ex l y k2 n2 pc L st σ Q := by
  subst e1; subst e2
  exact x_callI hc hCT hlt hst hlen hcat hh hlo hd (Or.inl hfr) (fun v τ' e => by cases e; exact kk) (fun E τ' e _ => by cases e)
theorem c_callIN {ix t a k1 n1 : Nat} {ps : List Nat} {As rest : List Value} {st : List Value} {σ τ : MM} (hc : ctN (owN y) ix = some (4, t, ps)) (hCT : DT l t (.ref a :: As) σ k1 n1 (.inl none, τ)) (hlt : a < 1000000) (hst : st = As.reverse ++ .ref a :: rest) (hlen : As.length = naN t) (hcat : cats rest ≤ 8) (hh : htN t + 1 ≤ htN y) (hlo : 8 + (mlN t + 11) + loN t ≤ loN y) (hfr : σ.2.2.2.2.2 = true) (e1 : k2 = k1 + k) (e2 : n2 = n1 + n) (hd : decode (cdN y) pc = .ok (.invokespecial ix, 3)) (kk : Ex l y k n (pc + 3) L rest τ Q) : Ex l y k2 n2 pc L st σ Q := by
  subst e1; subst e2
  exact x_callIN hc hCT hlt hst hlen hcat hh hlo hd (Or.inl hfr) (fun v τ' e => by cases e; exact kk) (fun E τ' e _ => by cases e)
theorem c_ret {a m : Nat} (hm : ∀ b, m ≤ b → R a b = none) (hr : rtN y = none) (hd : decode (cdN y) pc = .ok (.return_, 1)) (hQ : Q (.inl none, cm I R q v)) : Ex l y 0 n pc L [] (cm I (mR R a m) q v) Q := by
  rw [mR_all hm]
  exact x_vret hr (fun _ => rfl) hd hQ
end CtorRows
/-- what constructor 9 stands on: kinds and references of its places -/
abbrev kp9 (a : Nat) : Prop := (K0 a = 10 * 1 + 5 ∧ True) ∧ (R0L.getD a [] = [] ∧ True)
theorem kt9 {l : LX} {I : Nat → Int → Int} {R : Nat → Nat → Option Nat} {v : Int} {a : Nat} (hl : l.1.stackTraces = false) (hP : kp9 a) (hF : Fr I R a 1) (ha : a < 950000) : DT l 9 [.ref a] (cm I (mR R a 0) (a + 1) v) 0 0 (.inl none, cm I R (a + 1) v) := by
  obtain ⟨hK, hL⟩ := hP
  have eR := hF.r (b := a) (by omega) (by omega) hL.1
  refine mkdt hl (by decide) (Nat.le_of_ble_eq_true rfl) (L := [some (.ref a)]) rfl ?_
  refine x_aload_n (pc := 0) rfl d9_0 ?_
  refine x_obj (pc := 1) c9_1 (by decide +kernel) (Nat.le_of_ble_eq_true rfl) d9_1 ?_
  exact c_ret (pc := 4) (fun b hb => (eR b).trans (gD_end hb)) rfl d9_4 rfl
/-- what constructor 12 stands on: kinds and references of its places -/
abbrev kp12 (a : Nat) : Prop := (K0 a = 10 * 2 + 5 ∧ K0 (a + 1) = 10 * 3 ∧ K0 (a + 2) = 10 * 3 ∧ K0 (a + 3) = 10 * 3 ∧ True) ∧ (R0L.getD a [] = [none, some (a + 1), some (a + 2), some (a + 3)] ∧ R0L.getD (a + 1) [] = [] ∧ R0L.getD (a + 2) [] = [] ∧ R0L.getD (a + 3) [] = [] ∧ True)
theorem kt12 {l : LX} {I : Nat → Int → Int} {R : Nat → Nat → Option Nat} {v : Int} {a : Nat} (hl : l.1.stackTraces = false) (hP : kp12 a) (hF : Fr I R a 4) (ha : a < 950000) : DT l 12 [.ref a] (cm I (mR R a 0) (a + 1) v) 3 9 (.inl none, cm I R (a + 4) v) := by
  obtain ⟨hK, hL⟩ := hP
  have eR := hF.r (b := a) (by omega) (by omega) hL.1
  refine mkdt hl (by decide) (Nat.le_of_ble_eq_true rfl) (L := [some (.ref a)]) rfl ?_
  refine x_aload_n (pc := 0) rfl d12_0 ?_
  refine x_obj (pc := 1) c12_3 (by decide +kernel) (Nat.le_of_ble_eq_true rfl) d12_1 ?_
  refine x_aload_n (pc := 4) rfl d12_4 ?_
  refine x_iconst (pc := 5) d12_5 ?_
  refine c_newI (pc := 6) (k := 2) (n := 6) (m0 := 3) rfl (by decide) (by omega) hK.2.1 (hF _ (by omega) (by omega)).1 (fun j => mR_none ((hF.r (by omega) (by omega) hL.2.1 j).trans rfl)) rfl rfl d12_6 ?_
  refine c_putF (pc := 8) f12_9 (by omega) hK.1 (by decide +kernel) (by decide +kernel) rfl rfl (fun b h1 h2 => by rcases (by omega : b = 0) with rfl <;> exact (eR _).trans rfl) (by decide) ((eR _).trans rfl) d12_8 ?_
  refine x_aload_n (pc := 11) rfl d12_11 ?_
  refine x_iconst (pc := 12) d12_12 ?_
  refine c_newI (pc := 13) (k := 1) (n := 3) (m0 := 3) rfl (by decide) (by omega) hK.2.2.1 (hF _ (by omega) (by omega)).1 (fun j => mR_none ((hF.r (by omega) (by omega) hL.2.2.1 j).trans rfl)) rfl rfl d12_13 ?_
  refine c_putF (pc := 15) f12_15 (by omega) hK.1 (by decide +kernel) (by decide +kernel) rfl rfl (fun b h1 h2 => absurd h2 (by omega)) (by decide) ((eR _).trans rfl) d12_15 ?_
  refine x_aload_n (pc := 18) rfl d12_18 ?_
  refine x_iconst (pc := 19) d12_19 ?_
  refine c_newI (pc := 20) (k := 0) (n := 0) (m0 := 3) rfl (by decide) (by omega) hK.2.2.2.1 (hF _ (by omega) (by omega)).1 (fun j => mR_none ((hF.r (by omega) (by omega) hL.2.2.2.1 j).trans rfl)) rfl rfl d12_20 ?_
  refine c_putF (pc := 22) f12_18 (by omega) hK.1 (by decide +kernel) (by decide +kernel) rfl rfl (fun b h1 h2 => absurd h2 (by omega)) (by decide) ((eR _).trans rfl) d12_22 ?_
  exact c_ret (pc := 25) (fun b hb => (eR b).trans (gD_end hb)) rfl d12_25 rfl
/-- what constructor 17 stands on: kinds and references of its places -/
abbrev kp17 (a : Nat) : Prop := (K0 a = 10 * 3 + 5 ∧ K0 (a + 1) = 10 * 48 ∧ K0 (a + 2) = 10 * 48 ∧ K0 (a + 3) = 10 * 48 ∧ K0 (a + 4) = 10 * 48 ∧ K0 (a + 5) = 10 * 288 ∧ K0 (a + 6) = 10 * 288 ∧ True) ∧ (R0L.getD a [] = [none, some (a + 1), some (a + 2), some (a + 3), some (a + 4), some (a + 5), some (a + 6)] ∧ R0L.getD (a + 1) [] = [] ∧ R0L.getD (a + 2) [] = [] ∧ R0L.getD (a + 3) [] = [] ∧ R0L.getD (a + 4) [] = [] ∧ R0L.getD (a + 5) [] = [] ∧ R0L.getD (a + 6) [] = [] ∧ True)
theorem kt17 {l : LX} {I : Nat → Int → Int} {R : Nat → Nat → Option Nat} {v : Int} {a : Nat} (hl : l.1.stackTraces = false) (hP : kp17 a) (hF : Fr I R a 7) (ha : a < 950000) : DT l 17 [.ref a] (cm I (mR R a 0) (a + 1) v) 6 768 (.inl none, cm I R (a + 7) v) := by
  obtain ⟨hK, hL⟩ := hP
  have eR := hF.r (b := a) (by omega) (by omega) hL.1
  refine mkdt hl (by decide) (Nat.le_of_ble_eq_true rfl) (L := [some (.ref a)]) rfl ?_
  refine x_aload_n (pc := 0) rfl d17_0 ?_
  refine x_obj (pc := 1) c17_3 (by decide +kernel) (Nat.le_of_ble_eq_true rfl) d17_1 ?_
  refine x_aload_n (pc := 4) rfl d17_4 ?_
  refine x_bipush (pc := 5) (by decide) d17_5 ?_
  refine c_newI (pc := 7) (k := 5) (n := 720) (m0 := 48) rfl (by decide) (by omega) hK.2.1 (hF _ (by omega) (by omega)).1 (fun j => mR_none ((hF.r (by omega) (by omega) hL.2.1 j).trans rfl)) rfl rfl d17_7 ?_
  refine c_putF (pc := 9) f17_9 (by omega) hK.1 (by decide +kernel) (by decide +kernel) rfl rfl (fun b h1 h2 => by rcases (by omega : b = 0) with rfl <;> exact (eR _).trans rfl) (by decide) ((eR _).trans rfl) d17_9 ?_
  refine x_aload_n (pc := 12) rfl d17_12 ?_
  refine x_bipush (pc := 13) (by decide) d17_13 ?_
  refine c_newI (pc := 15) (k := 4) (n := 672) (m0 := 48) rfl (by decide) (by omega) hK.2.2.1 (hF _ (by omega) (by omega)).1 (fun j => mR_none ((hF.r (by omega) (by omega) hL.2.2.1 j).trans rfl)) rfl rfl d17_15 ?_
  refine c_putF (pc := 17) f17_15 (by omega) hK.1 (by decide +kernel) (by decide +kernel) rfl rfl (fun b h1 h2 => absurd h2 (by omega)) (by decide) ((eR _).trans rfl) d17_17 ?_
  refine x_aload_n (pc := 20) rfl d17_20 ?_
  refine x_bipush (pc := 21) (by decide) d17_21 ?_
  refine c_newI (pc := 23) (k := 3) (n := 624) (m0 := 48) rfl (by decide) (by omega) hK.2.2.2.1 (hF _ (by omega) (by omega)).1 (fun j => mR_none ((hF.r (by omega) (by omega) hL.2.2.2.1 j).trans rfl)) rfl rfl d17_23 ?_
  refine c_putF (pc := 25) f17_18 (by omega) hK.1 (by decide +kernel) (by decide +kernel) rfl rfl (fun b h1 h2 => absurd h2 (by omega)) (by decide) ((eR _).trans rfl) d17_25 ?_
  refine x_aload_n (pc := 28) rfl d17_28 ?_
  refine x_bipush (pc := 29) (by decide) d17_29 ?_
  refine c_newI (pc := 31) (k := 2) (n := 576) (m0 := 48) rfl (by decide) (by omega) hK.2.2.2.2.1 (hF _ (by omega) (by omega)).1 (fun j => mR_none ((hF.r (by omega) (by omega) hL.2.2.2.2.1 j).trans rfl)) rfl rfl d17_31 ?_
  refine c_putF (pc := 33) f17_21 (by omega) hK.1 (by decide +kernel) (by decide +kernel) rfl rfl (fun b h1 h2 => absurd h2 (by omega)) (by decide) ((eR _).trans rfl) d17_33 ?_
  refine x_aload_n (pc := 36) rfl d17_36 ?_
  refine x_sipush (pc := 37) (by decide) d17_37 ?_
  refine c_newI (pc := 40) (k := 1) (n := 288) (m0 := 288) rfl (by decide) (by omega) hK.2.2.2.2.2.1 (hF _ (by omega) (by omega)).1 (fun j => mR_none ((hF.r (by omega) (by omega) hL.2.2.2.2.2.1 j).trans rfl)) rfl rfl d17_40 ?_
  refine c_putF (pc := 42) f17_24 (by omega) hK.1 (by decide +kernel) (by decide +kernel) rfl rfl (fun b h1 h2 => absurd h2 (by omega)) (by decide) ((eR _).trans rfl) d17_42 ?_
  refine x_aload_n (pc := 45) rfl d17_45 ?_
  refine x_sipush (pc := 46) (by decide) d17_46 ?_
  refine c_newI (pc := 49) (k := 0) (n := 0) (m0 := 288) rfl (by decide) (by omega) hK.2.2.2.2.2.2.1 (hF _ (by omega) (by omega)).1 (fun j => mR_none ((hF.r (by omega) (by omega) hL.2.2.2.2.2.2.1 j).trans rfl)) rfl rfl d17_49 ?_
  refine c_putF (pc := 51) f17_27 (by omega) hK.1 (by decide +kernel) (by decide +kernel) rfl rfl (fun b h1 h2 => absurd h2 (by omega)) (by decide) ((eR _).trans rfl) d17_51 ?_
  exact c_ret (pc := 54) (fun b hb => (eR b).trans (gD_end hb)) rfl d17_54 rfl
/-- what constructor 0 stands on: kinds and references of its places -/
abbrev kp0 (a : Nat) : Prop := (K0 a = 10 * 0 + 5 ∧ K0 (a + 1) = 10 * 30 ∧ K0 (a + 2) = 10 * 30 ∧ K0 (a + 3) = 10 * 30 ∧ K0 (a + 4) = 10 * 30 ∧ True) ∧ (R0L.getD a [] = [none, some (a + 1), some (a + 2), some (a + 3), some (a + 4)] ∧ R0L.getD (a + 1) [] = [] ∧ R0L.getD (a + 2) [] = [] ∧ R0L.getD (a + 3) [] = [] ∧ R0L.getD (a + 4) [] = [] ∧ True)
theorem kt0 {l : LX} {I : Nat → Int → Int} {R : Nat → Nat → Option Nat} {v : Int} {a : Nat} (hl : l.1.stackTraces = false) (hP : kp0 a) (hF : Fr I R a 5) (ha : a < 950000) : DT l 0 [.ref a] (cm I (mR R a 0) (a + 1) v) 4 120 (.inl none, cm I R (a + 5) v) := by
  obtain ⟨hK, hL⟩ := hP
  have eR := hF.r (b := a) (by omega) (by omega) hL.1
  refine mkdt hl (by decide) (Nat.le_of_ble_eq_true rfl) (L := [some (.ref a)]) rfl ?_
  refine x_aload_n (pc := 0) rfl d0_0 ?_
  refine x_obj (pc := 1) c0_3 (by decide +kernel) (Nat.le_of_ble_eq_true rfl) d0_1 ?_
  refine x_aload_n (pc := 4) rfl d0_4 ?_
  refine x_bipush (pc := 5) (by decide) d0_5 ?_
  refine c_newI (pc := 7) (k := 3) (n := 90) (m0 := 30) rfl (by decide) (by omega) hK.2.1 (hF _ (by omega) (by omega)).1 (fun j => mR_none ((hF.r (by omega) (by omega) hL.2.1 j).trans rfl)) rfl rfl d0_7 ?_
  refine c_putF (pc := 9) f0_9 (by omega) hK.1 (by decide +kernel) (by decide +kernel) rfl rfl (fun b h1 h2 => by rcases (by omega : b = 0) with rfl <;> exact (eR _).trans rfl) (by decide) ((eR _).trans rfl) d0_9 ?_
  refine x_aload_n (pc := 12) rfl d0_12 ?_
  refine x_bipush (pc := 13) (by decide) d0_13 ?_
  refine c_newI (pc := 15) (k := 2) (n := 60) (m0 := 30) rfl (by decide) (by omega) hK.2.2.1 (hF _ (by omega) (by omega)).1 (fun j => mR_none ((hF.r (by omega) (by omega) hL.2.2.1 j).trans rfl)) rfl rfl d0_15 ?_
  refine c_putF (pc := 17) f0_15 (by omega) hK.1 (by decide +kernel) (by decide +kernel) rfl rfl (fun b h1 h2 => absurd h2 (by omega)) (by decide) ((eR _).trans rfl) d0_17 ?_
  refine x_aload_n (pc := 20) rfl d0_20 ?_
  refine x_bipush (pc := 21) (by decide) d0_21 ?_
  refine c_newI (pc := 23) (k := 1) (n := 30) (m0 := 30) rfl (by decide) (by omega) hK.2.2.2.1 (hF _ (by omega) (by omega)).1 (fun j => mR_none ((hF.r (by omega) (by omega) hL.2.2.2.1 j).trans rfl)) rfl rfl d0_23 ?_
  refine c_putF (pc := 25) f0_18 (by omega) hK.1 (by decide +kernel) (by decide +kernel) rfl rfl (fun b h1 h2 => absurd h2 (by omega)) (by decide) ((eR _).trans rfl) d0_25 ?_
  refine x_aload_n (pc := 28) rfl d0_28 ?_
  refine x_bipush (pc := 29) (by decide) d0_29 ?_
  refine c_newI (pc := 31) (k := 0) (n := 0) (m0 := 30) rfl (by decide) (by omega) hK.2.2.2.2.1 (hF _ (by omega) (by omega)).1 (fun j => mR_none ((hF.r (by omega) (by omega) hL.2.2.2.2.1 j).trans rfl)) rfl rfl d0_31 ?_
  refine c_putF (pc := 33) f0_21 (by omega) hK.1 (by decide +kernel) (by decide +kernel) rfl rfl (fun b h1 h2 => absurd h2 (by omega)) (by decide) ((eR _).trans rfl) d0_33 ?_
  exact c_ret (pc := 36) (fun b hb => (eR b).trans (gD_end hb)) rfl d0_36 rfl
/-- what constructor 55 stands on: kinds and references of its places -/
abbrev kp55 (a : Nat) : Prop := (K0 a = 10 * 6 + 5 ∧ K0 (a + 1) = 10 * 48 ∧ K0 (a + 2) = 10 * 6 ∧ True) ∧ (R0L.getD a [] = [some (a + 1), some (a + 2)] ∧ R0L.getD (a + 1) [] = [] ∧ R0L.getD (a + 2) [] = [] ∧ True)
theorem kt55 {l : LX} {I : Nat → Int → Int} {R : Nat → Nat → Option Nat} {v : Int} {a : Nat} (hl : l.1.stackTraces = false) (hP : kp55 a) (hF : Fr I R a 3) (ha : a < 950000) : DT l 55 [.ref a] (cm I (mR R a 0) (a + 1) v) 2 54 (.inl none, cm I R (a + 3) v) := by
  obtain ⟨hK, hL⟩ := hP
  have eR := hF.r (b := a) (by omega) (by omega) hL.1
  refine mkdt hl (by decide) (Nat.le_of_ble_eq_true rfl) (L := [some (.ref a)]) rfl ?_
  refine x_aload_n (pc := 0) rfl d55_0 ?_
  refine x_obj (pc := 1) c55_3 (by decide +kernel) (Nat.le_of_ble_eq_true rfl) d55_1 ?_
  refine x_aload_n (pc := 4) rfl d55_4 ?_
  refine x_bipush (pc := 5) (by decide) d55_5 ?_
  refine c_newI (pc := 7) (k := 1) (n := 6) (m0 := 48) rfl (by decide) (by omega) hK.2.1 (hF _ (by omega) (by omega)).1 (fun j => mR_none ((hF.r (by omega) (by omega) hL.2.1 j).trans rfl)) rfl rfl d55_7 ?_
  refine c_putF (pc := 9) f55_9 (by omega) hK.1 (by decide +kernel) (by decide +kernel) rfl rfl (fun b h1 h2 => absurd h2 (by omega)) (by decide) ((eR _).trans rfl) d55_9 ?_
  refine x_aload_n (pc := 12) rfl d55_12 ?_
  refine x_bipush (pc := 13) (by decide) d55_13 ?_
  refine c_newI (pc := 15) (k := 0) (n := 0) (m0 := 6) rfl (by decide) (by omega) hK.2.2.1 (hF _ (by omega) (by omega)).1 (fun j => mR_none ((hF.r (by omega) (by omega) hL.2.2.1 j).trans rfl)) rfl rfl d55_15 ?_
  refine c_putF (pc := 17) f55_15 (by omega) hK.1 (by decide +kernel) (by decide +kernel) rfl rfl (fun b h1 h2 => absurd h2 (by omega)) (by decide) ((eR _).trans rfl) d55_17 ?_
  exact c_ret (pc := 20) (fun b hb => (eR b).trans (gD_end hb)) rfl d55_20 rfl
/-- what constructor 32 stands on: kinds and references of its places -/
abbrev kp32 (a : Nat) : Prop := (K0 a = 10 * 5 + 5 ∧ K0 (a + 1) = 10 * 12 ∧ K0 (a + 2) = 10 * 12 ∧ True) ∧ (R0L.getD a [] = [none, none, none, none, none, none, none, none, some (a + 1), some (a + 2), some (a + 3), some (a + 7), some (a + 14)] ∧ R0L.getD (a + 1) [] = [] ∧ R0L.getD (a + 2) [] = [] ∧ True)
theorem kt32 {l : LX} {I : Nat → Int → Int} {R : Nat → Nat → Option Nat} {v : Int} {a : Nat} (hl : l.1.stackTraces = false) (hP : kp32 a ∧ kp12 (a + 3) ∧ kp17 (a + 7) ∧ kp9 (a + 14)) (hF : Fr I R a 15) (ha : a < 900000) : DT l 32 [.ref a] (cm I (mR R a 0) (a + 1) v) 14 821 (.inl none, cm I R (a + 15) v) := by
  obtain ⟨⟨hK, hL⟩, h12, h17, h9⟩ := hP
  have eR := hF.r (b := a) (by omega) (by omega) hL.1
  refine mkdt hl (by decide) (Nat.le_of_ble_eq_true rfl) (L := [some (.ref a)]) rfl ?_
  refine x_aload_n (pc := 0) rfl d32_0 ?_
  refine x_obj (pc := 1) c32_3 (by decide +kernel) (Nat.le_of_ble_eq_true rfl) d32_1 ?_
  refine x_aload_n (pc := 4) rfl d32_4 ?_
  refine x_bipush (pc := 5) (by decide) d32_5 ?_
  refine c_newI (pc := 7) (k := 13) (n := 809) (m0 := 12) rfl (by decide) (by omega) hK.2.1 (hF _ (by omega) (by omega)).1 (fun j => mR_none ((hF.r (by omega) (by omega) hL.2.1 j).trans rfl)) rfl rfl d32_7 ?_
  refine c_putF (pc := 9) f32_9 (by omega) hK.1 (by decide +kernel) (by decide +kernel) rfl rfl (fun b h1 h2 => by rcases (by omega : b = 0 ∨ b = 1 ∨ b = 2 ∨ b = 3 ∨ b = 4 ∨ b = 5 ∨ b = 6 ∨ b = 7) with rfl | rfl | rfl | rfl | rfl | rfl | rfl | rfl <;> exact (eR _).trans rfl) (by decide) ((eR _).trans rfl) d32_9 ?_
  refine x_aload_n (pc := 12) rfl d32_12 ?_
  refine x_bipush (pc := 13) (by decide) d32_13 ?_
  refine c_newI (pc := 15) (k := 12) (n := 797) (m0 := 12) rfl (by decide) (by omega) hK.2.2.1 (hF _ (by omega) (by omega)).1 (fun j => mR_none ((hF.r (by omega) (by omega) hL.2.2.1 j).trans rfl)) rfl rfl d32_15 ?_
  refine c_putF (pc := 17) f32_15 (by omega) hK.1 (by decide +kernel) (by decide +kernel) rfl rfl (fun b h1 h2 => absurd h2 (by omega)) (by decide) ((eR _).trans rfl) d32_17 ?_
  refine x_aload_n (pc := 20) rfl d32_20 ?_
  refine c_new (pc := 21) (k := 11) (n := 793) n32_18 (by omega) h12.1.1 (hF _ (by omega) (by omega)).1 rfl (by decide +kernel) d32_21 ?_
  refine x_dup (pc := 24) rfl d32_24 ?_
  refine c_callIN (pc := 25) (k := 8) (n := 784) c32_20 (kt12 hl h12 (hF.sub (a2 := a + 3) (by omega) (by omega)) (by omega)) (by omega) rfl rfl (Nat.le_of_ble_eq_true rfl) (by decide +kernel) (by decide +kernel) rfl rfl rfl d32_25 ?_
  refine c_putF (pc := 28) f32_21 (by omega) hK.1 (by decide +kernel) (by decide +kernel) rfl rfl (fun b h1 h2 => absurd h2 (by omega)) (by decide) ((eR _).trans rfl) d32_28 ?_
  refine x_aload_n (pc := 31) rfl d32_31 ?_
  refine c_new (pc := 32) (k := 7) (n := 777) n32_25 (by omega) h17.1.1 (hF _ (by omega) (by omega)).1 rfl (by decide +kernel) d32_32 ?_
  refine x_dup (pc := 35) rfl d32_35 ?_
  refine c_callIN (pc := 36) (k := 1) (n := 9) c32_27 (kt17 hl h17 (hF.sub (a2 := a + 7) (by omega) (by omega)) (by omega)) (by omega) rfl rfl (Nat.le_of_ble_eq_true rfl) (by decide +kernel) (by decide +kernel) rfl rfl rfl d32_36 ?_
  refine c_putF (pc := 39) f32_28 (by omega) hK.1 (by decide +kernel) (by decide +kernel) rfl rfl (fun b h1 h2 => absurd h2 (by omega)) (by decide) ((eR _).trans rfl) d32_39 ?_
  refine x_aload_n (pc := 42) rfl d32_42 ?_
  refine c_new (pc := 43) (k := 0) (n := 0) n32_32 (by omega) h9.1.1 (hF _ (by omega) (by omega)).1 rfl (by decide +kernel) d32_43 ?_
  refine x_dup (pc := 46) rfl d32_46 ?_
  refine c_callIN (pc := 47) (k := 0) (n := 0) c32_34 (kt9 hl h9 (hF.sub (a2 := a + 14) (by omega) (by omega)) (by omega)) (by omega) rfl rfl (Nat.le_of_ble_eq_true rfl) (by decide +kernel) (by decide +kernel) rfl rfl rfl d32_47 ?_
  refine c_putF (pc := 50) f32_35 (by omega) hK.1 (by decide +kernel) (by decide +kernel) rfl rfl (fun b h1 h2 => absurd h2 (by omega)) (by decide) ((eR _).trans rfl) d32_50 ?_
  exact c_ret (pc := 53) (fun b hb => (eR b).trans (gD_end hb)) rfl d32_53 rfl
/-- the places of the lines -/
def lnL : List Nat := [16, 31, 46, 61, 76, 91, 106, 121, 136, 151, 166]
theorem lnK : ∀ p ∈ lnL, kp32 p ∧ kp12 (p + 3) ∧ kp17 (p + 7) ∧ kp9 (p + 14) := by decide +kernel
theorem kt62 {l : LX} {I : Nat → Int → Int} {R : Nat → Nat → Option Nat} {v : Int} {a m0 : Nat} (hl : l.1.stackTraces = false) (hm : m0 ≤ 1000) (k0 : K0 a = 75) (k1 : K0 (a + 1) = 10 * m0) (r0 : R0L.getD a [] = [some (a + 1)]) (r1 : R0L.getD (a + 1) [] = []) (hF : Fr I R a 2) (ha : a < 900000) : DT l 62 [.ref a, .int (iI (m0 : Int))] (cm I (mR R a 0) (a + 1) v) 1 m0 (.inl none, cm I R (a + 2) v) := by
  have eR := hF.r (b := a) (by omega) (by omega) r0
  refine mkdt hl (by decide) (Nat.le_of_ble_eq_true rfl) (L := [some (.ref a), some (.int (iI (m0 : Int)))]) rfl ?_
  refine x_aload_n (pc := 0) rfl d62_0 ?_
  refine x_obj (pc := 1) c62_3 (by decide +kernel) (Nat.le_of_ble_eq_true rfl) d62_1 ?_
  refine x_aload_n (pc := 4) rfl d62_4 ?_
  refine x_iload_n (pc := 5) rfl d62_5 ?_
  refine x_iconst (pc := 6) d62_6 ?_
  refine x_max (pc := 7) ⟨by omega, by omega⟩ ⟨by omega, by omega⟩ c62_9 (by decide +kernel) (Nat.le_of_ble_eq_true rfl) d62_7 ?_
  refine c_newI (pc := 10) (k := 0) (n := 0) (m0 := m0) (Int.max_eq_left (by omega)).symm (by omega) (by omega) k1 (hF _ (by omega) (by omega)).1 (fun j => mR_none ((hF.r (by omega) (by omega) r1 j).trans rfl)) rfl (Nat.zero_add _).symm d62_10 ?_
  refine c_putF (pc := 12) f62_15 (by omega) k0 (by decide +kernel) (by decide +kernel) rfl rfl (fun b h1 h2 => absurd h2 (by omega)) (by decide) ((eR _).trans rfl) d62_12 ?_
  exact c_ret (pc := 15) (fun b hb => (eR b).trans (gD_end hb)) rfl d62_15 rfl
theorem kt66 {l : LX} {I : Nat → Int → Int} {R : Nat → Nat → Option Nat} {v : Int} (hl : l.1.stackTraces = false) (eR : ∀ b, R 5 b = [some 1].getD b none) : DT l 66 [.ref 5, .ref 1] (cm I (mR R 5 0) 6 v) 0 0 (.inl none, cm (up2 I 5 5 (-1)) R 6 v) := by
  refine mkdt hl (by decide) (Nat.le_of_ble_eq_true rfl) (L := [some (.ref 5), some (.ref 1)]) rfl ?_
  refine x_aload_n (pc := 0) rfl d66_0 ?_
  refine x_obj (pc := 1) c66_3 (by decide +kernel) (Nat.le_of_ble_eq_true rfl) d66_1 ?_
  refine x_aload_n (pc := 4) rfl d66_4 ?_
  refine x_iconst (pc := 5) d66_5 ?_
  refine x_putI (pc := 6) f66_9 (c := 8) ⟨by show 5 < 6; decide, by show K0 5 = 85; decide +kernel⟩ (Or.inl (by decide +kernel)) (by decide +kernel) rfl d66_6 ?_
  show Ex l 66 0 0 9 _ _ (cm (up2 I 5 5 (-1)) (mR R 5 0) 6 v) _
  refine x_aload_n (pc := 9) rfl d66_9 ?_
  refine x_aload_n (pc := 10) rfl d66_10 ?_
  refine c_putF (pc := 11) f66_15 (by decide) (by decide +kernel) (by decide +kernel) (by decide +kernel) rfl rfl (fun b h1 h2 => absurd h2 (by omega)) (by decide) ((eR _).trans rfl) d66_11 ?_
  exact c_ret (pc := 14) (fun b hb => (eR b).trans (gD_end hb)) rfl d66_14 rfl
theorem mR_comm {R : Nat → Nat → Option Nat} {a b m n : Nat} (h : a ≠ b) : mR (mR R a m) b n = mR (mR R b n) a m := by
  funext x y
  unfold mR
  by_cases h1 : x = a ∧ m ≤ y
  · rw [if_pos h1, if_neg (fun z => h (h1.1.symm.trans z.1)), if_pos h1]
  · rw [if_neg h1, if_neg h1]
theorem lp28 {l : LX} {I : Nat → Int → Int} {R : Nat → Nat → Option Nat} {v : Int} (hl : l.1.stackTraces = false) (hF : Fr I R 14 122) : ∀ (m i : Nat), m + i = 8 → Ex l 28 (15 * m) (834 * m) 15 [some (.ref 14), some (.int (iI (i : Int)))] [] (cm I (mR R 15 i) (16 + 15 * i) v) (fun o => o = (.inl none, cm I R 136 v)) := by
  have r14 : R0L.getD 14 [] = [none, none, some 15] := by decide +kernel
  have r15 : R0L.getD 15 [] = [some 16, some 31, some 46, some 61, some 76, some 91, some 106, some 121] := by decide +kernel
  have e15 := hF.r (b := 15) (by omega) (by omega) r15
  have e15i : ∀ i, i < 8 → [some 16, some 31, some 46, some 61, some 76, some 91, some 106, some 121].getD i none = some (16 + 15 * i) := by decide
  intro m
  induction m with
  | zero =>
    intro i hi
    have hi : i = 8 := by omega
    subst hi
    refine x_iload_n (pc := 15) rfl d28_15 ?_
    refine x_bipush (pc := 16) (by decide) d28_16 ?_
    refine x_icmp_ge (pc := 18) (tgt := 40) ⟨by decide, by decide⟩ ⟨by decide, by decide⟩ d28_18 (by decide) (fun _ => ?_) (fun g => absurd g (by decide))
    exact c_ret (pc := 40) (fun b hb => (e15 b).trans (gD_end hb)) rfl d28_40 rfl
  | succ m ih =>
    intro i hi
    have ih := ih (i + 1) (by omega)
    rw [show ((i + 1 : Nat) : Int) = (i : Int) + 1 from by omega] at ih
    have hmem : 16 + 15 * i ∈ lnL := (by decide : ∀ i, i < 8 → 16 + 15 * i ∈ lnL) i (by omega)
    have hP := lnK _ hmem
    refine x_iload_n (pc := 15) rfl d28_15 ?_
    refine x_bipush (pc := 16) (by decide) d28_16 ?_
    refine x_icmp_ge (pc := 18) (tgt := 40) ⟨by omega, by omega⟩ ⟨by decide, by decide⟩ d28_18 (by decide) (fun g => by exfalso; omega) (fun g => ?_)
    refine x_aload_n (pc := 21) rfl d28_21 ?_
    refine x_getR (pc := 22) (r := 15) f28_11 (c := 4) ⟨by show 14 < 16 + 15 * i; omega, by show K0 14 = 45; decide +kernel⟩ (by decide +kernel) (show mR R 15 i 14 2 = some 15 from (mR_off (by decide) 2).trans ((hF.r (b := 14) (by omega) (by omega) r14 2).trans rfl)) d28_22 ?_
    refine x_iload_n (pc := 25) rfl d28_25 ?_
    refine c_new (pc := 26) (k := 14 + 15 * m) (n := 821 + 834 * m) n28_9 (by omega) hP.1.1.1 (hF _ (by omega) (by omega)).1 (by omega) (by rw [show nf 5 = 13 from by decide +kernel]; omega) d28_26 ?_
    refine x_dup (pc := 29) rfl d28_29 ?_
    refine c_callIN (pc := 30) (k := 15 * m) (n := 834 * m) c28_17 (kt32 hl hP (hF.sub' (a2 := 16 + 15 * i) (by omega) (by omega) (by omega)) (by omega)) (by omega) rfl rfl (Nat.le_of_ble_eq_true rfl) (by decide +kernel) (by decide +kernel) rfl rfl rfl d28_30 ?_
    refine x_aast (pc := 33) (c := 0) (m0 := 8) ⟨by show 15 < 16 + 15 * i + 15; omega, by show K0 15 = 81; decide +kernel⟩ (by omega) (by omega) (by omega) ⟨by show 16 + 15 * i < 16 + 15 * i + 15; omega, hP.1.1.1⟩ (by decide +kernel) d28_33 ?_
    show Ex l 28 (15 * m) (834 * m) 34 _ _ (I, upr (mR R 15 i) 15 ((i : Int)).toNat (16 + 15 * i), K0, 16 + 15 * i + 15, v, true) _
    rw [Int.toNat_natCast, mR_up (fun b h1 h2 => absurd h2 (by omega)) (Nat.le_refl _) ((e15 i).trans (e15i i (by omega)))]
    refine x_iinc (pc := 34) rfl (by decide +kernel) rfl d28_34 ?_
    dsimp only [List.set]
    refine x_goto (pc := 37) (tgt := 15) d28_37 (by decide) ?_
    exact ih
theorem kt28 {l : LX} {I : Nat → Int → Int} {R : Nat → Nat → Option Nat} {v : Int} (hl : l.1.stackTraces = false) (hF : Fr I R 14 122) : DT l 28 [.ref 14] (cm I (mR R 14 0) 15 v) 121 6680 (.inl none, cm I R 136 v) := by
  have r14 : R0L.getD 14 [] = [none, none, some 15] := by decide +kernel
  have e14 := hF.r (b := 14) (by omega) (by omega) r14
  refine mkdt hl (by decide) (Nat.le_of_ble_eq_true rfl) (L := [some (.ref 14), none]) rfl ?_
  refine x_aload_n (pc := 0) rfl d28_0 ?_
  refine x_obj (pc := 1) c28_3 (by decide +kernel) (Nat.le_of_ble_eq_true rfl) d28_1 ?_
  refine x_aload_n (pc := 4) rfl d28_4 ?_
  refine x_bipush (pc := 5) (by decide) d28_5 ?_
  refine c_newR (pc := 7) (k := 15 * 8) (n := 834 * 8) (m0 := 8) rfl (by decide) n28_9 (by decide) (by decide +kernel) (hF _ (by omega) (by omega)).1 rfl rfl d28_7 ?_
  rw [mR_comm (by decide)]
  refine c_putF (pc := 10) f28_11 (by decide) (by decide +kernel) (by decide +kernel) (by decide +kernel) rfl rfl (fun b h1 h2 => by rcases (by omega : b = 0 ∨ b = 1) with rfl | rfl <;> exact (mR_off (by decide) _).trans ((e14 _).trans rfl)) (by decide) ((mR_off (by decide) _).trans ((e14 _).trans rfl)) d28_10 ?_
  have em : mR (mR R 15 0) 14 (2 + 1) = mR R 15 0 := mR_all fun b hb => (mR_off (by decide) b).trans ((e14 b).trans (gD_end hb))
  rw [em]
  refine x_iconst (pc := 13) d28_13 ?_
  refine x_istore_n (pc := 14) (by decide +kernel) rfl d28_14 ?_
  dsimp only [List.set]
  exact lp28 hl hF 8 0 rfl
/-! ===== the class's constructor ===== -/
def zI : Nat → Int → Int := fun _ _ => 0
def zI5 : Nat → Int → Int := up2 zI 5 5 (-1)
theorem frZ {m a N : Nat} (h : 1 ≤ a) : Fr zI (mR R0 0 m) a N := fun b b0 _ => ⟨fun _ => rfl, fun j => mR_off (by omega) j⟩
theorem frZ5 {m a N : Nat} (h : 6 ≤ a) : Fr zI5 (mR R0 0 m) a N := fun b b0 _ => ⟨fun j => up2_p (show b ≠ 5 by omega), fun j => mR_off (by omega) j⟩
def txB : Int → Int := fun k => if k = 0 then 104 else if k = 1 then 105 else 0
def dgA0 : AV := dogA (cfgA 2 0 10 4) 200 30 20
def stA0 : AV := addA dgA0 txB 2
/-- the state of a new modem; T: what the input's row holds -/
def S00 (T : Int → Int) : GS := (stA0, ((fun _ => stA0), 0), (false, stA0), (0, T), (0, -1), (0, fun _ => 0))
theorem dgA0_ok : AINV dgA0 cB := AI.dg1 (AI.cfg (by decide) (by decide) (by decide) (by decide) (by decide)) (by decide) (by decide) (by decide) (by decide)
theorem txB_r (k : Int) : 0 ≤ txB k ∧ txB k ≤ 255 := by
  unfold txB
  split
  · decide
  · split <;> decide
theorem stA0_ok : AINV stA0 cB := AI.add dgA0_ok (by decide) (by decide) txB_r
theorem gok_00 (T : Int → Int) : GOK (S00 T) := ⟨stA0_ok, ⟨show (0 : Int) ≤ 0 ∧ (0 : Int) ≤ 8 from by decide, fun k h0 h1 => absurd h1 (Int.not_lt.mpr h0)⟩, fun z => Bool.noConfusion z, ⟨show (0 : Int) ≤ 0 ∧ (0 : Int) ≤ 500 from by decide, fun i h0 h1 => absurd h1 (Int.not_lt.mpr h0)⟩, show (0 : Int) ≤ 0 ∧ (0 : Int) ≤ 53 from by decide⟩
section Ctor75
variable {l : LX} {v : Int}
theorem lp75 (hl : l.1.stackTraces = false) : Ex l 75 0 0 112 [some (.ref 0)] [] (cm zI5 R0 181 v) (fun o => ∃ K, o = (.inl none, mm 181 K v true) ∧ ∃ T, CREL K (S00 T) ∧ ∀ a, 181 ≤ a → ∀ j, K a j = 0) := by
  have hp : LineAt 181 136 := la136 (by decide)
  have z5 : ∀ a, a ≠ 5 → ∀ j, zI5 a j = 0 := fun a h j => up2_p h
  have hB : BX zI5 136 := fun i h0 h1 => by
    rw [z5 (136 + 12) (by decide), z5 (136 + 13) (by decide)]
    decide
  show Ex l 75 0 0 112 _ _ (mm 181 zI5 v true) _
  refine x_aload_n (pc := 112) rfl d75_112 ?_
  refine m_getR (pc := 113) f75_54 (by decide +kernel) (ko0 (by decide)) rr0_6 d75_113 ?_
  refine x_iconst (pc := 116) d75_116 ?_
  refine x_iconst (pc := 117) d75_117 ?_
  refine x_bipush (pc := 118) (by decide) d75_118 ?_
  refine x_iconst (pc := 120) d75_120 ?_
  refine x_cVev (pc := 121) c75_64 (ct_config hl hp hB) (ko136 (by decide)) rfl rfl (Nat.le_of_ble_eq_true rfl) (by decide +kernel) (by decide +kernel) d75_121 (fun J hJ => ?_)
  obtain ⟨j1, j2, j3⟩ := hJ
  have d0 : J (136 + 3) 0 = 0 := by
    have h := congrFun (congrFun j2 0) 4
    rw [vr4] at h
    exact h
  refine x_aload_n (pc := 124) rfl d75_124 ?_
  refine m_getR (pc := 125) f75_54 (by decide +kernel) (ko0 (by decide)) rr0_6 d75_125 ?_
  refine m_getR (pc := 128) f75_68 (by decide +kernel) (ko136 (by decide)) rr136_10 d75_128 ?_
  refine x_sipush (pc := 131) (by decide) d75_131 ?_
  refine x_bipush (pc := 134) (by decide) d75_134 ?_
  refine x_bipush (pc := 136) (by decide) d75_136 ?_
  refine x_cVs (pc := 138) c75_72 (dt_dogAdd hl hp (by omega) (by omega)) (ko139 (by decide)) rfl rfl (Nat.le_of_ble_eq_true rfl) (by decide +kernel) (by decide +kernel) rfl d75_138 ?_
  refine x_pop (pc := 141) rfl d75_141 ?_
  have V2 := vc_dog (I := J) (p := 136) (a := 200) (b := 30) (d := 20) (by omega)
  rw [j2] at V2
  have X2 := (((j3.up (a := 136 + 4) (j := J (136 + 3) 0) (z := 200) (by omega) (by omega) (by omega)).up (a := 136 + 5) (j := J (136 + 3) 0) (z := 30) (by omega) (by omega) (by omega)).up (a := 136 + 6) (j := J (136 + 3) 0) (z := 20) (by omega) (by omega) (by omega)).up (a := 136 + 3) (j := 0) (z := J (136 + 3) 0 + 1) (by omega) (by omega) (by omega)
  refine (?_ : ∀ J2, Vc J2 136 = dgA0 → CX J2 136 → offP 136 J J2 → Ex l 75 0 0 142 [some (.ref 0)] [] (mm 181 J2 v true) _) _ V2 X2 (fun a g => by rw [up2_off' _ _ _ (by omega), up2_off' _ _ _ (by omega), up2_off' _ _ _ (by omega), up2_off' _ _ _ (by omega)])
  intro J2 V2 X2 O2
  have z2 : ∀ a, (a < 136 ∨ 150 < a) → J2 a = zI5 a := fun a g => by rw [O2 a (by omega), j1 a (by omega)]
  refine x_aload_n (pc := 142) rfl d75_142 ?_
  refine m_getR (pc := 143) f75_14 (by decide +kernel) (ko0 (by decide)) rr0_0 d75_143 ?_
  refine x_bipush (pc := 146) (by decide) d75_146 ?_
  refine x_cVv (pc := 148) c75_78 (dt_put1 hl (by decide) (n := 0) (by rw [z2 1 (by decide)]; rfl) (by decide) (by decide)) (ko1 (by decide)) rfl rfl (Nat.le_of_ble_eq_true rfl) (by decide +kernel) (by decide +kernel) rfl d75_148 ?_
  refine x_aload_n (pc := 151) rfl d75_151 ?_
  refine m_getR (pc := 152) f75_14 (by decide +kernel) (ko0 (by decide)) rr0_0 d75_152 ?_
  refine x_bipush (pc := 155) (by decide) d75_155 ?_
  refine x_cVv (pc := 157) c75_78 (dt_put1 hl (by decide) (n := 1) up2_s (by decide) (by decide)) (ko1 (by decide)) rfl rfl (Nat.le_of_ble_eq_true rfl) (by decide +kernel) (by decide +kernel) rfl d75_157 ?_
  refine (?_ : ∀ J3 : Nat → Int → Int, (∀ a, a ≠ 1 → a ≠ 2 → J3 a = J2 a) → J3 1 1 = 2 → J3 2 0 = 104 → J3 2 1 = 105 → Ex l 75 0 0 160 [some (.ref 0)] [] (mm 181 J3 v true) _) _ (fun a h1 h2 => by rw [up2_off' _ _ _ h1, up2_off' _ _ _ h2, up2_off' _ _ _ h1, up2_off' _ _ _ h2]) up2_s (by rw [up2_p (by decide), up2_i (by decide), up2_p (by decide), up2_s]; rfl) (by rw [up2_p (by decide), up2_s]; rfl)
  intro J3 O3 n3 t0 t1
  have V3 : Vc J3 136 = dgA0 := by rw [vc_congr (p := 136) (fun a h0 h1 => O3 a (by omega) (by omega))]; exact V2
  have X3 : CX J3 136 := X2.cong fun a h0 h1 => O3 a (by omega) (by omega)
  have h3 : CINV J3 136 cB := ⟨by rw [V3]; exact dgA0_ok, X3⟩
  refine x_aload_n (pc := 160) rfl d75_160 ?_
  refine m_getR (pc := 161) f75_54 (by decide +kernel) (ko0 (by decide)) rr0_6 d75_161 ?_
  refine x_aload_n (pc := 164) rfl d75_164 ?_
  refine m_getR (pc := 165) f75_14 (by decide +kernel) (ko0 (by decide)) rr0_0 d75_165 ?_
  refine m_getR (pc := 168) f75_81 (by decide +kernel) (ko1 (by decide)) rr1_0 d75_168 ?_
  refine x_iconst (pc := 171) d75_171 ?_
  refine x_aload_n (pc := 172) rfl d75_172 ?_
  refine m_getR (pc := 173) f75_14 (by decide +kernel) (ko0 (by decide)) rr0_0 d75_173 ?_
  refine m_getW (pc := 176) f75_85 (by decide +kernel) rfl (ko1 (by decide)) n3 d75_176 ?_
  refine x_cVes (pc := 179) c75_89 (ct_addMsg hl hp h3 (s := 2) (ns := 500) ⟨by decide, by decide +kernel⟩ (by decide) (Or.inl (by decide)) (fm := 0) (n := 2) (B := txB) (by decide) (by decide) (by decide) (by decide) (fun k h0 h1 => by
    rcases (by omega : k = 0 ∨ k = 1) with rfl | rfl
    · exact t0
    · exact t1) txB_r) (ko136 (by decide)) rfl rfl (Nat.le_of_ble_eq_true rfl) (by decide +kernel) (by decide +kernel) d75_179 (fun K hK => ?_)
  obtain ⟨k1, k2, k3⟩ := hK
  have d5 : J3 136 7 = 0 := by
    have h := congrFun (congrFun V3 0) 5
    rw [vr5] at h
    exact h
  rw [if_pos (by omega), V3] at k2
  refine x_pop (pc := 182) rfl d75_182 ?_
  refine x_aload_n (pc := 183) rfl d75_183 ?_
  refine m_getR (pc := 184) f75_14 (by decide +kernel) (ko0 (by decide)) rr0_0 d75_184 ?_
  refine x_iconst (pc := 187) d75_187 ?_
  refine m_putI (pc := 188) (z := 1) f75_85 (by decide +kernel) (by decide +kernel) rfl (ko1 (by decide)) d75_188 ?_
  have w1 : ∀ a, a ≠ 1 → up2 K 1 1 0 a = K a := fun a h => up2_off' _ _ _ h
  have w : ∀ a, a ≠ 1 → a ≠ 2 → (a < 136 ∨ 150 < a) → up2 K 1 1 0 a = zI5 a := fun a h1 h2 g => by rw [w1 a h1, k1 a (by omega), O3 a h1 h2, z2 a g]
  refine x_vret (pc := 191) rfl (fun _ => rfl) d75_191 ⟨_, rfl, J3 2, ⟨⟨?_, ?_⟩, ⟨?_, ⟨?_, ?_⟩, ?_⟩, ⟨?_, ?_⟩, ?_, ⟨?_, ?_⟩, ⟨?_, ?_⟩, ⟨?_, ?_⟩⟩, ?_⟩
  · rw [vc_congr (p := 136) (fun a h0 h1 => w1 a (by omega))]; exact k2
  · exact k3.cong fun a h0 h1 => w1 a (by omega)
  · rw [w 14 (by decide) (by decide) (by decide)]; rfl
  · rw [w 14 (by decide) (by decide) (by decide)]; decide
  · rw [w 14 (by decide) (by decide) (by decide)]; decide
  · exact fun k h0 h1 => absurd h1 (Int.not_lt.mpr h0)
  · rw [w 0 (by decide) (by decide) (by decide)]; rfl
  · exact fun z => Bool.noConfusion z
  · intro i h0 h1
    rw [w (166 + 12) (by decide) (by decide) (by decide), w (166 + 13) (by decide) (by decide) (by decide), z5 _ (by decide), z5 _ (by decide)]
    decide
  · rw [up2_s]; rfl
  · rw [w1 2 (by decide), k1 2 (by decide)]; rfl
  · rw [w 5 (by decide) (by decide) (by decide)]; rfl
  · rw [w 5 (by decide) (by decide) (by decide)]; rfl
  · rw [w 3 (by decide) (by decide) (by decide)]; rfl
  · exact fun k h0 h1 => absurd h1 (Int.not_lt.mpr h0)
  · intro a ha j
    rw [w a (by omega) (by omega) (by omega)]
    exact z5 a (by omega) j
theorem kt75 (hl : l.1.stackTraces = false) : CT l 75 [.ref 0] (cm zI (mR R0 0 0) 1 v) 180 9935 (fun o => ∃ K, o = (.inl none, mm 181 K v true) ∧ ∃ T, CREL K (S00 T) ∧ ∀ a, 181 ≤ a → ∀ j, K a j = 0) := by
  refine mkct2 hl (by decide) (Nat.le_of_ble_eq_true rfl) (L := [some (.ref 0)]) rfl ?_
  refine x_aload_n (pc := 0) rfl d75_0 ?_
  refine x_obj (pc := 1) c75_1 (by decide +kernel) (Nat.le_of_ble_eq_true rfl) d75_1 ?_
  refine x_aload_n (pc := 4) rfl d75_4 ?_
  refine c_new (pc := 5) (k := 179) (n := 9933) n75_7 (by decide) (by decide +kernel) (fun _ => rfl) rfl (by decide +kernel) d75_5 ?_
  refine x_dup (pc := 8) rfl d75_8 ?_
  refine x_sipush (pc := 9) (by decide) d75_9 ?_
  refine c_callI (pc := 12) (k := 178) (n := 9433) c75_11 (kt62 hl (m0 := 500) (by decide) (by decide +kernel) (by decide +kernel) (by decide +kernel) (by decide +kernel) (frZ (by decide)) (by decide)) (by decide) rfl rfl (Nat.le_of_ble_eq_true rfl) (by decide +kernel) (by decide +kernel) rfl rfl rfl d75_12 ?_
  refine c_putF (pc := 15) f75_14 (by decide) (by decide +kernel) (by decide +kernel) (by decide +kernel) rfl rfl (fun b h1 h2 => absurd h2 (by omega)) (by decide) rr0_0 d75_15 ?_
  refine x_aload_n (pc := 18) rfl d75_18 ?_
  refine c_new (pc := 19) (k := 177) (n := 9431) n75_7 (by decide) (by decide +kernel) (fun _ => rfl) rfl (by decide +kernel) d75_19 ?_
  refine x_dup (pc := 22) rfl d75_22 ?_
  refine x_bipush (pc := 23) (by decide) d75_23 ?_
  refine c_callI (pc := 25) (k := 176) (n := 9378) c75_11 (kt62 hl (m0 := 53) (by decide) (by decide +kernel) (by decide +kernel) (by decide +kernel) (by decide +kernel) (frZ (by decide)) (by decide)) (by decide) rfl rfl (Nat.le_of_ble_eq_true rfl) (by decide +kernel) (by decide +kernel) rfl rfl rfl d75_25 ?_
  refine c_putF (pc := 28) f75_18 (by decide) (by decide +kernel) (by decide +kernel) (by decide +kernel) rfl rfl (fun b h1 h2 => absurd h2 (by omega)) (by decide) rr0_1 d75_28 ?_
  refine x_aload_n (pc := 31) rfl d75_31 ?_
  refine c_new (pc := 32) (k := 175) (n := 9369) n75_21 (by decide) (by decide +kernel) (fun _ => rfl) rfl (by decide +kernel) d75_32 ?_
  refine x_dup (pc := 35) rfl d75_35 ?_
  refine x_aload_n (pc := 36) rfl d75_36 ?_
  refine x_getR (pc := 37) (r := 1) f75_14 (c := 9) ⟨by show 0 < 6; decide, by show K0 0 = 95; decide +kernel⟩ (by decide +kernel) (show mR (mR R0 0 (1 + 1)) (1 + 2 + 2) 0 0 0 = some 1 from by decide +kernel) d75_37 ?_
  refine c_callI (pc := 40) (k := 175) (n := 9369) c75_23 (kt66 hl (fun b => (mR_off (by decide) b).trans ((by decide +kernel : R0L.getD 5 [] = [some 1]) ▸ rfl))) (by decide) rfl rfl (Nat.le_of_ble_eq_true rfl) (by decide +kernel) (by decide +kernel) rfl rfl rfl d75_40 ?_
  show Ex l 75 175 9369 43 _ _ (cm zI5 (mR R0 0 2) 6 v) _
  refine c_putF (pc := 43) f75_26 (by decide) (by decide +kernel) (by decide +kernel) (by decide +kernel) rfl rfl (fun b h1 h2 => absurd h2 (by omega)) (by decide) rr0_2 d75_43 ?_
  refine x_aload_n (pc := 46) rfl d75_46 ?_
  refine c_new (pc := 47) (k := 174) (n := 9364) n75_30 (by decide) (by decide +kernel) (fun _ => up2_p (by decide)) rfl (by decide +kernel) d75_47 ?_
  refine x_dup (pc := 50) rfl d75_50 ?_
  refine c_callIN (pc := 51) (k := 170) (n := 9244) c75_32 (kt0 hl (by decide +kernel) (frZ5 (by decide)) (by decide)) (by decide) rfl rfl (Nat.le_of_ble_eq_true rfl) (by decide +kernel) (by decide +kernel) rfl rfl rfl d75_51 ?_
  refine c_putF (pc := 54) f75_33 (by decide) (by decide +kernel) (by decide +kernel) (by decide +kernel) rfl rfl (fun b h1 h2 => absurd h2 (by omega)) (by decide) rr0_3 d75_54 ?_
  refine x_aload_n (pc := 57) rfl d75_57 ?_
  refine c_new (pc := 58) (k := 169) (n := 9239) n75_37 (by decide) (by decide +kernel) (fun _ => up2_p (by decide)) rfl (by decide +kernel) d75_58 ?_
  refine x_dup (pc := 61) rfl d75_61 ?_
  refine c_callIN (pc := 62) (k := 167) (n := 9185) c75_39 (kt55 hl (by decide +kernel) (frZ5 (by decide)) (by decide)) (by decide) rfl rfl (Nat.le_of_ble_eq_true rfl) (by decide +kernel) (by decide +kernel) rfl rfl rfl d75_62 ?_
  refine c_putF (pc := 65) f75_40 (by decide) (by decide +kernel) (by decide +kernel) (by decide +kernel) rfl rfl (fun b h1 h2 => absurd h2 (by omega)) (by decide) rr0_4 d75_65 ?_
  refine x_aload_n (pc := 68) rfl d75_68 ?_
  refine c_new (pc := 69) (k := 166) (n := 9182) n75_44 (by decide) (by decide +kernel) (fun _ => up2_p (by decide)) rfl (by decide +kernel) d75_69 ?_
  refine x_dup (pc := 72) rfl d75_72 ?_
  refine c_callI (pc := 73) (k := 45) (n := 2502) c75_46 (kt28 hl (frZ5 (by decide))) (by decide) rfl rfl (Nat.le_of_ble_eq_true rfl) (by decide +kernel) (by decide +kernel) rfl rfl rfl d75_73 ?_
  refine c_putF (pc := 76) f75_47 (by decide) (by decide +kernel) (by decide +kernel) (by decide +kernel) rfl rfl (fun b h1 h2 => absurd h2 (by omega)) (by decide) rr0_5 d75_76 ?_
  refine x_aload_n (pc := 79) rfl d75_79 ?_
  refine c_new (pc := 80) (k := 44) (n := 2489) n75_51 (by decide) (by decide +kernel) (fun _ => up2_p (by decide)) rfl (by decide +kernel) d75_80 ?_
  refine x_dup (pc := 83) rfl d75_83 ?_
  refine c_callIN (pc := 84) (k := 30) (n := 1668) c75_53 (kt32 hl (lnK _ (by decide)) (frZ5 (by decide)) (by decide)) (by decide) rfl rfl (Nat.le_of_ble_eq_true rfl) (by decide +kernel) (by decide +kernel) rfl rfl rfl d75_84 ?_
  refine c_putF (pc := 87) f75_54 (by decide) (by decide +kernel) (by decide +kernel) (by decide +kernel) rfl rfl (fun b h1 h2 => absurd h2 (by omega)) (by decide) rr0_6 d75_87 ?_
  refine x_aload_n (pc := 90) rfl d75_90 ?_
  refine c_new (pc := 91) (k := 29) (n := 1655) n75_51 (by decide) (by decide +kernel) (fun _ => up2_p (by decide)) rfl (by decide +kernel) d75_91 ?_
  refine x_dup (pc := 94) rfl d75_94 ?_
  refine c_callIN (pc := 95) (k := 15) (n := 834) c75_53 (kt32 hl (lnK _ (by decide)) (frZ5 (by decide)) (by decide)) (by decide) rfl rfl (Nat.le_of_ble_eq_true rfl) (by decide +kernel) (by decide +kernel) rfl rfl rfl d75_95 ?_
  refine c_putF (pc := 98) f75_58 (by decide) (by decide +kernel) (by decide +kernel) (by decide +kernel) rfl rfl (fun b h1 h2 => absurd h2 (by omega)) (by decide) rr0_7 d75_98 ?_
  refine x_aload_n (pc := 101) rfl d75_101 ?_
  refine c_new (pc := 102) (k := 14) (n := 821) n75_51 (by decide) (by decide +kernel) (fun _ => up2_p (by decide)) rfl (by decide +kernel) d75_102 ?_
  refine x_dup (pc := 105) rfl d75_105 ?_
  refine c_callIN (pc := 106) (k := 0) (n := 0) c75_53 (kt32 hl (lnK _ (by decide)) (frZ5 (by decide)) (by decide)) (by decide) rfl rfl (Nat.le_of_ble_eq_true rfl) (by decide +kernel) (by decide +kernel) rfl rfl rfl d75_106 ?_
  refine c_putF (pc := 109) f75_61 (by decide) (by decide +kernel) (by decide +kernel) (by decide +kernel) rfl rfl (fun b h1 h2 => absurd h2 (by omega)) (by decide) rr0_8 d75_109 ?_
  have em : mR R0 0 (8 + 1) = R0 := mR_all fun b hb => gD_end (L := [some 1, some 3, some 5, some 6, some 11, some 14, some 136, some 151, some 166]) hb
  rw [em]
  exact lp75 hl
end Ctor75
