/-! ===== the abstract state of a modem, and how a line of the class shows it ===== -/
abbrev AV : Type := Nat → Int → Int
/-- the scalars of line p by the reference's numbers: where each lies, and what is added -/
def sO (i : Nat) : Nat := [0, 0, 0, 0, 3, 0, 7, 0, 0, 0, 14, 14, 14, 14, 14, 14, 14, 14].getD i 0
def sJ (i : Nat) : Int := [0, 1, 2, 3, 0, 7, 0, 4, 5, 6, 0, 1, 2, 3, 4, 7, 5, 8].getD i 0
def sC (i : Nat) : Int := if i = 9 then 1 else 0
def scalC (I : Nat → Int → Int) (p : Nat) (i : Int) : Int := if 0 ≤ i ∧ i < 18 then I (p + sO i.toNat) (sJ i.toNat) + sC i.toNat else 0
theorem sO_le : ∀ n : Fin 18, sO n ≤ 14 := by decide +kernel
theorem s_inj : ∀ a : Fin 18, ∀ b : Fin 18, sO a = sO b → sJ a = sJ b → a = b := by decide +kernel
theorem scal_up {I : Nat → Int → Int} {p n : Nat} {z : Int} (hn : n < 18) (i : Int) : scalC (up2 I (p + sO n) (sJ n) z) p i = if i = n then z + sC n else scalC I p i := by
  unfold scalC
  by_cases h : 0 ≤ i ∧ i < 18
  · rw [if_pos h, if_pos h]
    by_cases e : i = n
    · subst e
      rw [if_pos rfl, show ((n : Int)).toNat = n from by omega, up2_s]
    · rw [if_neg e]
      congr 1
      refine if_neg fun hh => e ?_
      have := s_inj ⟨i.toNat, by omega⟩ ⟨n, hn⟩ (by have := hh.1; show sO i.toNat = sO n; omega) hh.2
      have e2 : i.toNat = n := congrArg Fin.val this
      omega
  · rw [if_neg h, if_neg h, if_neg (by omega)]
theorem scal_off {I J : Nat → Int → Int} {p : Nat} (h : ∀ n : Fin 18, J (p + sO n) = I (p + sO n)) {i : Int} : scalC J p i = scalC I p i := by
  unfold scalC
  by_cases hi : 0 ≤ i ∧ i < 18
  · rw [if_pos hi, if_pos hi, h ⟨i.toNat, by omega⟩]
  · rw [if_neg hi, if_neg hi]
/-- an entry of a row of n -/
def ent (n : Int) (g : Int → Int) (i : Int) : Int := if 0 ≤ i ∧ i < n then g i else 0
def flag (z : Int) : Int := if 0 < z then 1 else 0
/-- a byte of a frame: i = 6 * frame + place; only within the frame's size -/
def entB (n : Int) (Sz : Int → Int) (g : Int → Int) (i : Int) : Int := if 0 ≤ i ∧ i / 6 < n ∧ i % 6 < Sz (i / 6) then g i else 0
def Vc (I : Nat → Int → Int) (p : Nat) : AV := fun k i => match k with
  | 0 => scalC I p i
  | 1 => ent (I (p + 3) 0) (I (p + 4)) i
  | 2 => ent (I (p + 3) 0) (I (p + 5)) i
  | 3 => ent (I (p + 3) 0) (I (p + 6)) i
  | 4 => ent (I p 7) (I (p + 1)) i
  | 5 => ent (I p 7) (I (p + 2)) i
  | 6 => ent (I (p + 7) 0) (I (p + 8)) i
  | 7 => ent (I (p + 7) 0) (I (p + 9)) i
  | 8 => ent (I (p + 7) 0) (I (p + 10)) i
  | 9 => ent (I (p + 7) 0) (fun f => flag (I (p + 11) f)) i
  | 10 => entB (I (p + 7) 0) (I (p + 8)) (I (p + 12)) i
  | 11 => entB (I (p + 7) 0) (fun f => flag (I (p + 11) f) * I (p + 8) f) (I (p + 13)) i
  | _ => 0
theorem vc1 {I : Nat → Int → Int} {p : Nat} : Vc I p 1 = ent (I (p + 3) 0) (I (p + 4)) := rfl
theorem vc2 {I : Nat → Int → Int} {p : Nat} : Vc I p 2 = ent (I (p + 3) 0) (I (p + 5)) := rfl
theorem vc3 {I : Nat → Int → Int} {p : Nat} : Vc I p 3 = ent (I (p + 3) 0) (I (p + 6)) := rfl
theorem vc4 {I : Nat → Int → Int} {p : Nat} : Vc I p 4 = ent (I p 7) (I (p + 1)) := rfl
theorem vc5 {I : Nat → Int → Int} {p : Nat} : Vc I p 5 = ent (I p 7) (I (p + 2)) := rfl
theorem vc6 {I : Nat → Int → Int} {p : Nat} : Vc I p 6 = ent (I (p + 7) 0) (I (p + 8)) := rfl
theorem vc7 {I : Nat → Int → Int} {p : Nat} : Vc I p 7 = ent (I (p + 7) 0) (I (p + 9)) := rfl
theorem vc8 {I : Nat → Int → Int} {p : Nat} : Vc I p 8 = ent (I (p + 7) 0) (I (p + 10)) := rfl
theorem vc9 {I : Nat → Int → Int} {p : Nat} : Vc I p 9 = ent (I (p + 7) 0) (fun f => flag (I (p + 11) f)) := rfl
theorem vc10 {I : Nat → Int → Int} {p : Nat} : Vc I p 10 = entB (I (p + 7) 0) (I (p + 8)) (I (p + 12)) := rfl
theorem vc11 {I : Nat → Int → Int} {p : Nat} : Vc I p 11 = entB (I (p + 7) 0) (fun f => flag (I (p + 11) f) * I (p + 8) f) (I (p + 13)) := rfl
theorem ent_in {n : Int} {g : Int → Int} {i : Int} (h0 : 0 ≤ i) (h1 : i < n) : ent n g i = g i := if_pos ⟨h0, h1⟩
theorem entB_pos {n : Int} {Sz g : Int → Int} {i : Int} (h0 : 0 ≤ i) (h1 : i / 6 < n) (h2 : i % 6 < Sz (i / 6)) : entB n Sz g i = g i := if_pos ⟨h0, h1, h2⟩
theorem entB_neg {n : Int} {Sz g : Int → Int} {i : Int} (h : ¬ (0 ≤ i ∧ i / 6 < n ∧ i % 6 < Sz (i / 6))) : entB n Sz g i = 0 := if_neg h
theorem flag_r (z : Int) : flag z = 0 ∨ flag z = 1 := by unfold flag; split; exact Or.inr rfl; exact Or.inl rfl
theorem ent_congr {n : Int} {g h : Int → Int} (e : ∀ i, 0 ≤ i → i < n → g i = h i) : ent n g = ent n h := by
  funext i
  unfold ent
  split
  · rename_i hh; exact e i hh.1 hh.2
  · rfl
theorem ent_up {n : Int} {g : Int → Int} {j z : Int} (h0 : 0 ≤ j) (h1 : j < n) (i : Int) : ent n (fun b => if b = j then z else g b) i = if i = j then z else ent n g i := by
  unfold ent
  by_cases e : i = j
  · rw [if_pos e, if_pos (by omega)]
    exact if_pos e
  · rw [if_neg e]
    split
    · exact if_neg e
    · rfl
theorem up2_at (I : Nat → Int → Int) (k : Nat) (j z : Int) : up2 I k j z k = fun b => if b = j then z else I k b := by
  funext b
  unfold up2
  by_cases h : b = j
  · rw [if_pos ⟨rfl, h⟩, if_pos h]
  · rw [if_neg (fun z => h z.2), if_neg h]
theorem up2_off' (I : Nat → Int → Int) {k a : Nat} (j z : Int) (h : a ≠ k) : up2 I k j z a = I a := funext fun b => up2_p h
/-- the view depends on the line's own places alone -/
theorem vc_congr {I J : Nat → Int → Int} {p : Nat} (h : ∀ a, p ≤ a → a ≤ p + 14 → J a = I a) : Vc J p = Vc I p := by
  have hs : ∀ i, scalC J p i = scalC I p i := fun i => scal_off fun n => h _ (by omega) (by have := sO_le n; omega)
  funext k i
  unfold Vc
  rw [hs, h p (by omega) (by omega), h (p + 1) (by omega) (by omega), h (p + 2) (by omega) (by omega), h (p + 3) (by omega) (by omega), h (p + 4) (by omega) (by omega), h (p + 5) (by omega) (by omega), h (p + 6) (by omega) (by omega), h (p + 7) (by omega) (by omega), h (p + 8) (by omega) (by omega), h (p + 9) (by omega) (by omega), h (p + 10) (by omega) (by omega), h (p + 11) (by omega) (by omega), h (p + 12) (by omega) (by omega), h (p + 13) (by omega) (by omega)]
theorem vc_off {I J : Nat → Int → Int} {p : Nat} (h : offC I J) (hp : 16 ≤ p) : Vc J p = Vc I p := vc_congr fun a h0 _ => h a (by omega) (by omega) (by omega)
theorem vc_out {I : Nat → Int → Int} {p k : Nat} {j z : Int} (hk : k < p ∨ p + 14 < k) : Vc (up2 I k j z) p = Vc I p := vc_congr fun a h0 h1 => up2_off' I j z (by omega)
theorem sO_out : ∀ n : Fin 18, sO n ≠ 1 ∧ sO n ≠ 2 ∧ sO n ≠ 4 ∧ sO n ≠ 5 ∧ sO n ≠ 6 ∧ sO n ≠ 8 ∧ sO n ≠ 9 ∧ sO n ≠ 10 ∧ sO n ≠ 11 ∧ sO n ≠ 12 ∧ sO n ≠ 13 := by decide +kernel
theorem s_cnt : ∀ n : Fin 18, n.val ≠ 4 → n.val ≠ 5 → n.val ≠ 6 → ¬ (sO n = 3 ∧ sJ n = 0) ∧ ¬ (sO n = 0 ∧ sJ n = 7) ∧ ¬ (sO n = 7 ∧ sJ n = 0) := by decide +kernel
theorem vc_w {I : Nat → Int → Int} {p : Nat} (n : Nat) {z : Int} (hn : n < 18) (h4 : n ≠ 4) (h5 : n ≠ 5) (h6 : n ≠ 6) : Vc (up2 I (p + sO n) (sJ n) z) p = up2 (Vc I p) 0 n (z + sC n) := by
  have ho := sO_out ⟨n, hn⟩
  have hc := s_cnt ⟨n, hn⟩ h4 h5 h6
  have h : ∀ o, sO n ≠ o → up2 I (p + sO n) (sJ n) z (p + o) = I (p + o) := fun o h => up2_off' I _ z (by omega)
  funext k i
  by_cases hk : k = 0
  · subst hk
    rw [up2_at]
    exact scal_up hn i
  · rw [up2_off' _ _ _ hk]
    have e3 : up2 I (p + sO n) (sJ n) z (p + 3) 0 = I (p + 3) 0 := if_neg fun q => hc.1 ⟨by have := q.1; show sO n = 3; omega, q.2.symm⟩
    have e0 : up2 I (p + sO n) (sJ n) z p 7 = I p 7 := if_neg fun q => hc.2.1 ⟨by have := q.1; show sO n = 0; omega, q.2.symm⟩
    have e7 : up2 I (p + sO n) (sJ n) z (p + 7) 0 = I (p + 7) 0 := if_neg fun q => hc.2.2 ⟨by have := q.1; show sO n = 7; omega, q.2.symm⟩
    unfold Vc
    rw [e3, e0, e7, h 1 ho.1, h 2 ho.2.1, h 4 ho.2.2.1, h 5 ho.2.2.2.1, h 6 ho.2.2.2.2.1, h 8 ho.2.2.2.2.2.1, h 9 ho.2.2.2.2.2.2.1, h 10 ho.2.2.2.2.2.2.2.1, h 11 ho.2.2.2.2.2.2.2.2.1, h 12 ho.2.2.2.2.2.2.2.2.2.1, h 13 ho.2.2.2.2.2.2.2.2.2.2]
    match k, hk with
    | 0, hk => exact absurd rfl hk
    | 1, _ | 2, _ | 3, _ | 4, _ | 5, _ | 6, _ | 7, _ | 8, _ | 9, _ | 10, _ | 11, _ => rfl
    | k + 12, _ => rfl
/-- the counter that the view doesn't show -/
theorem s_b : ∀ n : Fin 18, ¬ (sO n = 14 ∧ sJ n = 6) := by decide +kernel
theorem vc_b {I : Nat → Int → Int} {p : Nat} {z : Int} : Vc (up2 I (p + 14) 6 z) p = Vc I p := by
  have h : ∀ a, a ≠ p + 14 → up2 I (p + 14) 6 z a = I a := fun a ha => up2_off' I 6 z ha
  funext k i
  by_cases hk : k = 0
  · subst hk
    show scalC _ p i = scalC _ p i
    unfold scalC
    by_cases hi : 0 ≤ i ∧ i < 18
    · rw [if_pos hi, if_pos hi]
      congr 1
      exact if_neg fun q => s_b ⟨i.toNat, by omega⟩ ⟨by have := q.1; show sO i.toNat = 14; omega, q.2⟩
    · rw [if_neg hi, if_neg hi]
  · unfold Vc
    rw [h p (by omega), h (p + 1) (by omega), h (p + 2) (by omega), h (p + 3) (by omega), h (p + 4) (by omega), h (p + 5) (by omega), h (p + 6) (by omega), h (p + 7) (by omega), h (p + 8) (by omega), h (p + 9) (by omega), h (p + 10) (by omega), h (p + 11) (by omega), h (p + 12) (by omega), h (p + 13) (by omega)]
    match k, hk with
    | 0, hk => exact absurd rfl hk
    | 1, _ | 2, _ | 3, _ | 4, _ | 5, _ | 6, _ | 7, _ | 8, _ | 9, _ | 10, _ | 11, _ => rfl
    | k + 12, _ => rfl
theorem vw0 {I : Nat → Int → Int} {p : Nat} {z : Int} : Vc (up2 I (p) 0 z) p = up2 (Vc I p) 0 0 (z) := by
  have h := vc_w (I := I) (p := p) 0 (z := z) (by decide) (by decide) (by decide) (by decide)
  rw [show sC 0 = 0 from rfl, Int.add_zero] at h
  exact h
theorem vw1 {I : Nat → Int → Int} {p : Nat} {z : Int} : Vc (up2 I (p) 1 z) p = up2 (Vc I p) 0 1 (z) := by
  have h := vc_w (I := I) (p := p) 1 (z := z) (by decide) (by decide) (by decide) (by decide)
  rw [show sC 1 = 0 from rfl, Int.add_zero] at h
  exact h
theorem vw2 {I : Nat → Int → Int} {p : Nat} {z : Int} : Vc (up2 I (p) 2 z) p = up2 (Vc I p) 0 2 (z) := by
  have h := vc_w (I := I) (p := p) 2 (z := z) (by decide) (by decide) (by decide) (by decide)
  rw [show sC 2 = 0 from rfl, Int.add_zero] at h
  exact h
theorem vw3 {I : Nat → Int → Int} {p : Nat} {z : Int} : Vc (up2 I (p) 3 z) p = up2 (Vc I p) 0 3 (z) := by
  have h := vc_w (I := I) (p := p) 3 (z := z) (by decide) (by decide) (by decide) (by decide)
  rw [show sC 3 = 0 from rfl, Int.add_zero] at h
  exact h
theorem vw7 {I : Nat → Int → Int} {p : Nat} {z : Int} : Vc (up2 I (p) 4 z) p = up2 (Vc I p) 0 7 (z) := by
  have h := vc_w (I := I) (p := p) 7 (z := z) (by decide) (by decide) (by decide) (by decide)
  rw [show sC 7 = 0 from rfl, Int.add_zero] at h
  exact h
theorem vw8 {I : Nat → Int → Int} {p : Nat} {z : Int} : Vc (up2 I (p) 5 z) p = up2 (Vc I p) 0 8 (z) := by
  have h := vc_w (I := I) (p := p) 8 (z := z) (by decide) (by decide) (by decide) (by decide)
  rw [show sC 8 = 0 from rfl, Int.add_zero] at h
  exact h
theorem vw9 {I : Nat → Int → Int} {p : Nat} {z : Int} : Vc (up2 I (p) 6 z) p = up2 (Vc I p) 0 9 (z + 1) := by
  have h := vc_w (I := I) (p := p) 9 (z := z) (by decide) (by decide) (by decide) (by decide)
  exact h
theorem vw10 {I : Nat → Int → Int} {p : Nat} {z : Int} : Vc (up2 I (p + 14) 0 z) p = up2 (Vc I p) 0 10 (z) := by
  have h := vc_w (I := I) (p := p) 10 (z := z) (by decide) (by decide) (by decide) (by decide)
  rw [show sC 10 = 0 from rfl, Int.add_zero] at h
  exact h
theorem vw11 {I : Nat → Int → Int} {p : Nat} {z : Int} : Vc (up2 I (p + 14) 1 z) p = up2 (Vc I p) 0 11 (z) := by
  have h := vc_w (I := I) (p := p) 11 (z := z) (by decide) (by decide) (by decide) (by decide)
  rw [show sC 11 = 0 from rfl, Int.add_zero] at h
  exact h
theorem vw12 {I : Nat → Int → Int} {p : Nat} {z : Int} : Vc (up2 I (p + 14) 2 z) p = up2 (Vc I p) 0 12 (z) := by
  have h := vc_w (I := I) (p := p) 12 (z := z) (by decide) (by decide) (by decide) (by decide)
  rw [show sC 12 = 0 from rfl, Int.add_zero] at h
  exact h
theorem vw13 {I : Nat → Int → Int} {p : Nat} {z : Int} : Vc (up2 I (p + 14) 3 z) p = up2 (Vc I p) 0 13 (z) := by
  have h := vc_w (I := I) (p := p) 13 (z := z) (by decide) (by decide) (by decide) (by decide)
  rw [show sC 13 = 0 from rfl, Int.add_zero] at h
  exact h
theorem vw14 {I : Nat → Int → Int} {p : Nat} {z : Int} : Vc (up2 I (p + 14) 4 z) p = up2 (Vc I p) 0 14 (z) := by
  have h := vc_w (I := I) (p := p) 14 (z := z) (by decide) (by decide) (by decide) (by decide)
  rw [show sC 14 = 0 from rfl, Int.add_zero] at h
  exact h
theorem vw15 {I : Nat → Int → Int} {p : Nat} {z : Int} : Vc (up2 I (p + 14) 7 z) p = up2 (Vc I p) 0 15 (z) := by
  have h := vc_w (I := I) (p := p) 15 (z := z) (by decide) (by decide) (by decide) (by decide)
  rw [show sC 15 = 0 from rfl, Int.add_zero] at h
  exact h
theorem vw16 {I : Nat → Int → Int} {p : Nat} {z : Int} : Vc (up2 I (p + 14) 5 z) p = up2 (Vc I p) 0 16 (z) := by
  have h := vc_w (I := I) (p := p) 16 (z := z) (by decide) (by decide) (by decide) (by decide)
  rw [show sC 16 = 0 from rfl, Int.add_zero] at h
  exact h
theorem vw17 {I : Nat → Int → Int} {p : Nat} {z : Int} : Vc (up2 I (p + 14) 8 z) p = up2 (Vc I p) 0 17 (z) := by
  have h := vc_w (I := I) (p := p) 17 (z := z) (by decide) (by decide) (by decide) (by decide)
  rw [show sC 17 = 0 from rfl, Int.add_zero] at h
  exact h
theorem vr0 {I : Nat → Int → Int} {p : Nat} : Vc I p 0 0 = I (p) 0 := by
  show scalC I p 0 = _
  unfold scalC
  rw [if_pos (by decide)]
  exact Int.add_zero _
theorem vr1 {I : Nat → Int → Int} {p : Nat} : Vc I p 0 1 = I (p) 1 := by
  show scalC I p 1 = _
  unfold scalC
  rw [if_pos (by decide)]
  exact Int.add_zero _
theorem vr2 {I : Nat → Int → Int} {p : Nat} : Vc I p 0 2 = I (p) 2 := by
  show scalC I p 2 = _
  unfold scalC
  rw [if_pos (by decide)]
  exact Int.add_zero _
theorem vr3 {I : Nat → Int → Int} {p : Nat} : Vc I p 0 3 = I (p) 3 := by
  show scalC I p 3 = _
  unfold scalC
  rw [if_pos (by decide)]
  exact Int.add_zero _
theorem vr7 {I : Nat → Int → Int} {p : Nat} : Vc I p 0 7 = I (p) 4 := by
  show scalC I p 7 = _
  unfold scalC
  rw [if_pos (by decide)]
  exact Int.add_zero _
theorem vr8 {I : Nat → Int → Int} {p : Nat} : Vc I p 0 8 = I (p) 5 := by
  show scalC I p 8 = _
  unfold scalC
  rw [if_pos (by decide)]
  exact Int.add_zero _
theorem vr9 {I : Nat → Int → Int} {p : Nat} : Vc I p 0 9 = I (p) 6 + 1 := by
  show scalC I p 9 = _
  unfold scalC
  rw [if_pos (by decide)]
  rfl
theorem vr10 {I : Nat → Int → Int} {p : Nat} : Vc I p 0 10 = I (p + 14) 0 := by
  show scalC I p 10 = _
  unfold scalC
  rw [if_pos (by decide)]
  exact Int.add_zero _
theorem vr11 {I : Nat → Int → Int} {p : Nat} : Vc I p 0 11 = I (p + 14) 1 := by
  show scalC I p 11 = _
  unfold scalC
  rw [if_pos (by decide)]
  exact Int.add_zero _
theorem vr12 {I : Nat → Int → Int} {p : Nat} : Vc I p 0 12 = I (p + 14) 2 := by
  show scalC I p 12 = _
  unfold scalC
  rw [if_pos (by decide)]
  exact Int.add_zero _
theorem vr13 {I : Nat → Int → Int} {p : Nat} : Vc I p 0 13 = I (p + 14) 3 := by
  show scalC I p 13 = _
  unfold scalC
  rw [if_pos (by decide)]
  exact Int.add_zero _
theorem vr14 {I : Nat → Int → Int} {p : Nat} : Vc I p 0 14 = I (p + 14) 4 := by
  show scalC I p 14 = _
  unfold scalC
  rw [if_pos (by decide)]
  exact Int.add_zero _
theorem vr15 {I : Nat → Int → Int} {p : Nat} : Vc I p 0 15 = I (p + 14) 7 := by
  show scalC I p 15 = _
  unfold scalC
  rw [if_pos (by decide)]
  exact Int.add_zero _
theorem vr16 {I : Nat → Int → Int} {p : Nat} : Vc I p 0 16 = I (p + 14) 5 := by
  show scalC I p 16 = _
  unfold scalC
  rw [if_pos (by decide)]
  exact Int.add_zero _
theorem vr17 {I : Nat → Int → Int} {p : Nat} : Vc I p 0 17 = I (p + 14) 8 := by
  show scalC I p 17 = _
  unfold scalC
  rw [if_pos (by decide)]
  exact Int.add_zero _
theorem vr4 {I : Nat → Int → Int} {p : Nat} : Vc I p 0 4 = I (p + 3) 0 := by
  show scalC I p 4 = _
  unfold scalC
  rw [if_pos (by decide)]
  exact Int.add_zero _
theorem vr5 {I : Nat → Int → Int} {p : Nat} : Vc I p 0 5 = I (p) 7 := by
  show scalC I p 5 = _
  unfold scalC
  rw [if_pos (by decide)]
  exact Int.add_zero _
theorem vr6 {I : Nat → Int → Int} {p : Nat} : Vc I p 0 6 = I (p + 7) 0 := by
  show scalC I p 6 = _
  unfold scalC
  rw [if_pos (by decide)]
  exact Int.add_zero _
/-- states and tries -/
theorem vc_st {I : Nat → Int → Int} {p : Nat} {f z : Int} (h0 : 0 ≤ f) (h1 : f < I (p + 7) 0) : Vc (up2 I (p + 9) f z) p = up2 (Vc I p) 7 f z := by
  have h : ∀ a, a ≠ p + 9 → up2 I (p + 9) f z a = I a := fun a ha => up2_off' I f z ha
  have hs : ∀ i, scalC (up2 I (p + 9) f z) p i = scalC I p i := fun i => scal_off fun n => h _ (by have := sO_out n; omega)
  funext k i
  unfold Vc
  rw [hs, h p (by omega), h (p + 1) (by omega), h (p + 2) (by omega), h (p + 3) (by omega), h (p + 4) (by omega), h (p + 5) (by omega), h (p + 6) (by omega), h (p + 7) (by omega), h (p + 8) (by omega), h (p + 10) (by omega), h (p + 11) (by omega), h (p + 12) (by omega), h (p + 13) (by omega), up2_at]
  by_cases hk : k = 7
  · subst hk
    rw [up2_at]
    exact ent_up h0 h1 i
  · rw [up2_off' _ _ _ hk]
    match k, hk with
    | 0, _ | 1, _ | 2, _ | 3, _ | 4, _ | 5, _ | 6, _ => rfl
    | 7, hk => exact absurd rfl hk
    | 8, _ | 9, _ | 10, _ | 11, _ => rfl
    | k + 12, _ => rfl
theorem vc_tr {I : Nat → Int → Int} {p : Nat} {f z : Int} (h0 : 0 ≤ f) (h1 : f < I (p + 7) 0) : Vc (up2 I (p + 10) f z) p = up2 (Vc I p) 8 f z := by
  have h : ∀ a, a ≠ p + 10 → up2 I (p + 10) f z a = I a := fun a ha => up2_off' I f z ha
  have hs : ∀ i, scalC (up2 I (p + 10) f z) p i = scalC I p i := fun i => scal_off fun n => h _ (by have := sO_out n; omega)
  funext k i
  unfold Vc
  rw [hs, h p (by omega), h (p + 1) (by omega), h (p + 2) (by omega), h (p + 3) (by omega), h (p + 4) (by omega), h (p + 5) (by omega), h (p + 6) (by omega), h (p + 7) (by omega), h (p + 8) (by omega), h (p + 9) (by omega), h (p + 11) (by omega), h (p + 12) (by omega), h (p + 13) (by omega), up2_at]
  by_cases hk : k = 8
  · subst hk
    rw [up2_at]
    exact ent_up h0 h1 i
  · rw [up2_off' _ _ _ hk]
    match k, hk with
    | 0, _ | 1, _ | 2, _ | 3, _ | 4, _ | 5, _ | 6, _ | 7, _ => rfl
    | 8, hk => exact absurd rfl hk
    | 9, _ | 10, _ | 11, _ => rfl
    | k + 12, _ => rfl
/-- n bytes B of frame f that have arrived -/
def wrB (A : AV) (f n : Int) (B : Int → Int) : AV := fun k i => if k = 11 ∧ 6 * f ≤ i ∧ i < 6 * f + n then B (i - 6 * f) else A k i
theorem vc_ar {I : Nat → Int → Int} {p s : Nat} {f : Int} (hs : s < p) (h0 : 0 ≤ f) (h1 : f < I (p + 7) 0) (hz : 0 ≤ I (p + 8) f ∧ I (p + 8) f ≤ 6) (ha : 0 ≤ I (p + 11) f) : Vc (cp2 (up2 I (p + 11) f (I (p + 11) f + 1)) s 0 (p + 13) (f * 6) 6) p = wrB (up2 (Vc I p) 9 f 1) f (I (p + 8) f) (fun k => I s k) := by
  have hc : ∀ a, a ≠ p + 13 → cp2 (up2 I (p + 11) f (I (p + 11) f + 1)) s 0 (p + 13) (f * 6) 6 a = up2 I (p + 11) f (I (p + 11) f + 1) a := fun a ha => funext fun b => if_neg (fun z => ha z.1)
  have h : ∀ a, a ≠ p + 11 → a ≠ p + 13 → cp2 (up2 I (p + 11) f (I (p + 11) f + 1)) s 0 (p + 13) (f * 6) 6 a = I a := fun a ha hb => by rw [hc a hb]; exact up2_off' I f _ ha
  have e13 : cp2 (up2 I (p + 11) f (I (p + 11) f + 1)) s 0 (p + 13) (f * 6) 6 (p + 13) = fun b => if f * 6 ≤ b ∧ b < f * 6 + 6 then I s (b - f * 6) else I (p + 13) b := by
    funext b
    unfold cp2
    rw [up2_p (by omega), up2_p (by omega), Int.zero_add]
    by_cases hb : f * 6 ≤ b ∧ b < f * 6 + 6
    · rw [if_pos ⟨rfl, hb⟩, if_pos hb]
    · rw [if_neg (fun z => hb z.2), if_neg hb]
  funext k i
  unfold wrB
  by_cases hk : k = 9
  · subst hk
    rw [if_neg (fun z => by cases z.1), up2_at]
    rw [vc9, vc9, h (p + 7) (by omega) (by omega), hc (p + 11) (by omega), up2_at]
    show _ = if i = f then 1 else ent _ _ i
    rw [← ent_up (g := fun b => flag (I (p + 11) b)) (z := 1) h0 h1 i]
    congr 1
    funext b
    dsimp only
    by_cases e : b = f
    · rw [if_pos e, if_pos e]
      unfold flag
      rw [if_pos (by omega)]
    · rw [if_neg e, if_neg e]
  · by_cases hk2 : k = 11
    · subst hk2
      rw [up2_off' _ _ _ (by decide)]
      rw [vc11, vc11, h (p + 7) (by omega) (by omega), hc (p + 11) (by omega), h (p + 8) (by omega) (by omega), e13, up2_at]
      by_cases e : i / 6 = f
      · have e2 : i - f * 6 = i - 6 * f := by omega
        have e4 : flag (I (p + 11) f + 1) = 1 := if_pos (by omega)
        have e5 : flag (if i / 6 = f then I (p + 11) f + 1 else I (p + 11) (i / 6)) * I (p + 8) (i / 6) = I (p + 8) f := by rw [if_pos e, e4, e, Int.one_mul]
        by_cases e3 : i < 6 * f + I (p + 8) f
        · rw [if_pos (c := 11 = 11 ∧ _) ⟨rfl, by omega, e3⟩, entB_pos (by omega) (by omega) (by show _ < flag (if i / 6 = f then I (p + 11) f + 1 else I (p + 11) (i / 6)) * I (p + 8) (i / 6); rw [e5]; omega)]
          show (if f * 6 ≤ i ∧ i < f * 6 + 6 then I s (i - f * 6) else I (p + 13) i) = _
          rw [if_pos ⟨by omega, by omega⟩, e2]
        · rw [if_neg (c := 11 = 11 ∧ _) (fun z => e3 z.2.2), entB_neg (fun z => by
            have h9 : i % 6 < flag (if i / 6 = f then I (p + 11) f + 1 else I (p + 11) (i / 6)) * I (p + 8) (i / 6) := z.2.2
            rw [e5] at h9
            omega), entB_neg (fun z => by
            have h9 : i % 6 < flag (I (p + 11) (i / 6)) * I (p + 8) (i / 6) := z.2.2
            rw [e] at h9
            rcases flag_r (I (p + 11) f) with h8 | h8 <;> rw [h8] at h9 <;> omega)]
      · rw [if_neg (c := 11 = 11 ∧ _) (fun z => e (by omega))]
        have e5 : flag (if i / 6 = f then I (p + 11) f + 1 else I (p + 11) (i / 6)) * I (p + 8) (i / 6) = flag (I (p + 11) (i / 6)) * I (p + 8) (i / 6) := by rw [if_neg e]
        by_cases e6 : 0 ≤ i ∧ i / 6 < I (p + 7) 0 ∧ i % 6 < flag (I (p + 11) (i / 6)) * I (p + 8) (i / 6)
        · rw [entB_pos e6.1 e6.2.1 (by show _ < flag (if i / 6 = f then I (p + 11) f + 1 else I (p + 11) (i / 6)) * I (p + 8) (i / 6); rw [e5]; exact e6.2.2), entB_pos e6.1 e6.2.1 e6.2.2]
          exact if_neg (fun z => e (by omega))
        · rw [entB_neg (fun z => e6 ⟨z.1, z.2.1, by rw [← e5]; exact z.2.2⟩), entB_neg e6]
    · rw [if_neg (fun z => hk2 z.1), up2_off' _ _ _ hk]
      have hs9 : ∀ i, scalC (cp2 (up2 I (p + 11) f (I (p + 11) f + 1)) s 0 (p + 13) (f * 6) 6) p i = scalC I p i := fun i => scal_off fun n => h _ (by have := sO_out n; omega) (by have := sO_out n; omega)
      unfold Vc
      rw [hs9, h p (by omega) (by omega), h (p + 1) (by omega) (by omega), h (p + 2) (by omega) (by omega), h (p + 3) (by omega) (by omega), h (p + 4) (by omega) (by omega), h (p + 5) (by omega) (by omega), h (p + 6) (by omega) (by omega), h (p + 7) (by omega) (by omega), h (p + 8) (by omega) (by omega), h (p + 9) (by omega) (by omega), h (p + 10) (by omega) (by omega), h (p + 12) (by omega) (by omega)]
      match k, hk, hk2 with
      | 0, _, _ | 1, _, _ | 2, _, _ | 3, _, _ | 4, _, _ | 5, _, _ | 6, _, _ | 7, _, _ | 8, _, _ | 10, _, _ => rfl
      | 9, hk, _ => exact absurd rfl hk
      | 11, _, hk => exact absurd rfl hk
      | k + 12, _, _ => rfl
