/-! ===== the law's text, read ===== -/
section Pars
variable {T : Int → Int} {n : Int}
theorem at_in {i : Int} (h0 : 0 ≤ i) (h1 : i < n) : atT T n i = T i := if_pos ⟨h0, h1⟩
theorem at_out {i : Int} (h1 : n ≤ i) : atT T n i = -1 := if_neg (fun z => by omega)
theorem sk0 {m : Nat} {e : Int} (h : e < n → T e ≠ 32) : skN T n m e = e := by
  cases m with
  | zero => rfl
  | succ m =>
    unfold skN
    rw [if_neg (fun z => h z.1 z.2)]
theorem sk1 {m : Nat} {e : Int} (he : e < n) (h1 : T e = 32) (h2 : e + 1 < n → T (e + 1) ≠ 32) (hm : 1 ≤ m) : skN T n m e = e + 1 := by
  obtain ⟨m, rfl⟩ : ∃ q, m = q + 1 := ⟨m - 1, by omega⟩
  unfold skN
  rw [if_pos ⟨he, h1⟩]
  exact sk0 h2
theorem rn_run {k : Int} : ∀ (d m : Nat) (e : Int), d ≤ m → (∀ j, e ≤ j → j < e + d → j < n ∧ kdZ (T j) = k) → (e + d < n → kdZ (T (e + d)) ≠ k) → rnN T n k m e = e + d
  | 0, m, e, _, _, h => by
    rw [show e + ((0 : Nat) : Int) = e from by omega] at h ⊢
    cases m with
    | zero => rfl
    | succ m =>
      unfold rnN
      rw [if_neg (fun z => h z.1 z.2)]
  | d + 1, m, e, hm, hr, h => by
    obtain ⟨m, rfl⟩ : ∃ q, m = q + 1 := ⟨m - 1, by omega⟩
    unfold rnN
    rw [if_pos (hr e (Int.le_refl e) (by omega)), rn_run d m (e + 1) (by omega) (fun j a b => hr j (by omega) (by omega)) (fun a => by
      rw [show e + 1 + (d : Int) = e + ((d + 1 : Nat) : Int) from by omega]
      exact h (by omega))]
    omega
/-- the digits of a number -/
def dch (z j : Int) : Int := if z < 10 then 48 + z else if z < 100 then (if j = 0 then 48 + z / 10 else 48 + z % 10) else (if j = 0 then 48 + z / 100 else if j = 1 then 48 + z / 10 % 10 else 48 + z % 10)
theorem dch_r {z j : Int} (h0 : 0 ≤ z) (h1 : z ≤ 999) : 48 ≤ dch z j ∧ dch z j ≤ 57 := by
  unfold dch
  split
  · omega
  · split
    · split <;> omega
    · split
      · omega
      · split <;> omega
theorem kd2 {c : Int} (h : 48 ≤ c ∧ c ≤ 57) : kdZ c = 2 := by
  unfold kdZ
  rw [if_neg (by omega), if_neg (by omega), if_pos h]
theorem num_ok {e z lo hi : Int} (e0 : 0 ≤ e) (z0 : 0 ≤ z) (z1 : z ≤ 999) (hlo : lo ≤ z) (hhi : z ≤ hi) (h32 : T e = 32) (hd : ∀ j : Int, 0 ≤ j → j < ndg z → T (e + 1 + j) = dch z j) (hn : e + 1 + ndg z < n) (hs : kdZ (T (e + 1 + ndg z)) ≠ 2) : numP T n lo hi e = (0, 0, z, e + 1 + ndg z) := by
  have hg := ndg_r (z := z)
  have c0 : T (e + 1) = dch z 0 := by
    have := hd 0 (by decide) (by omega)
    rw [Int.add_zero] at this
    exact this
  have r0 := dch_r (j := 0) z0 z1
  have eS : tS T n e = e + 1 := sk1 (by omega) h32 (fun _ => by rw [c0]; omega) (by omega)
  have eK : tK T n e = 2 := by
    unfold tK
    rw [eS]
    rw [at_in (by omega) (by omega), c0]
    exact kd2 r0
  have eE : tE T n e = e + 1 + ndg z := by
    unfold tE
    rw [eK, if_neg (by decide), if_pos (Or.inr rfl), eS]
    have := rn_run (T := T) (n := n) (k := 2) (ndg z - 1).toNat (n - (e + 1 + 1)).toNat (e + 1 + 1) (by omega) (fun j a b => by
      refine ⟨by omega, ?_⟩
      have h := hd (j - (e + 1)) (by omega) (by omega)
      rw [show e + 1 + (j - (e + 1)) = j from by omega] at h
      rw [h]
      exact kd2 (dch_r z0 z1)) (fun _ => by
      rw [show e + 1 + 1 + (((ndg z - 1).toNat : Nat) : Int) = e + 1 + ndg z from by omega]
      exact hs)
    rw [this]
    omega
  have eV : dvN T (e + 1) (ndg z).toNat = z := by
    have d0 := hd 0 (by decide)
    have d1 := hd 1 (by decide)
    have d2 := hd 2 (by decide)
    unfold ndg at d0 d1 d2 ⊢
    unfold dch at d0 d1 d2
    by_cases g : z < 10
    · rw [if_pos g] at d0 ⊢
      rw [if_pos g] at d0
      have d0 := d0 (by decide)
      show (0 * 10 + T (e + 1 + ((0 : Nat) : Int)) - 48) = z
      rw [show e + 1 + ((0 : Nat) : Int) = e + 1 + 0 from rfl, d0]
      omega
    · rw [if_neg g] at d0 d1 ⊢
      by_cases g2 : z < 100
      · rw [if_pos g2] at d0 d1 ⊢
        rw [if_neg g, if_pos g2] at d0 d1
        have d0 := d0 (by decide)
        have d1 := d1 (by decide)
        rw [if_pos rfl] at d0
        rw [if_neg (by decide)] at d1
        show ((0 * 10 + T (e + 1 + ((0 : Nat) : Int)) - 48) * 10 + T (e + 1 + ((1 : Nat) : Int)) - 48) = z
        rw [show e + 1 + ((0 : Nat) : Int) = e + 1 + 0 from rfl, show e + 1 + ((1 : Nat) : Int) = e + 1 + 1 from rfl, d0, d1]
        omega
      · rw [if_neg g2] at d0 d1 ⊢
        rw [if_neg g, if_neg g2] at d0 d1
        rw [if_neg g, if_neg g2, if_neg g, if_neg g2] at d2
        have d0 := d0 (by decide)
        have d1 := d1 (by decide)
        have d2 := d2 (by decide)
        rw [if_pos rfl] at d0
        rw [if_neg (by decide), if_pos rfl] at d1
        rw [if_neg (by decide), if_neg (by decide)] at d2
        show (((0 * 10 + T (e + 1 + ((0 : Nat) : Int)) - 48) * 10 + T (e + 1 + ((1 : Nat) : Int)) - 48) * 10 + T (e + 1 + ((2 : Nat) : Int)) - 48) = z
        rw [show e + 1 + ((0 : Nat) : Int) = e + 1 + 0 from rfl, show e + 1 + ((1 : Nat) : Int) = e + 1 + 1 from rfl, show e + 1 + ((2 : Nat) : Int) = e + 1 + 2 from rfl, d0, d1, d2]
        omega
  unfold numP
  rw [eK, eE, eS, show e + 1 + ndg z - (e + 1) = ndg z from by omega, eV, if_neg (by omega), if_neg (by omega)]
theorem sem_ok {e : Int} (e0 : 0 ≤ e) (he : e < n) (h : T e = 59) : semP T n e = (0, 0, e + 1) := by
  have eS : tS T n e = e := sk0 (fun _ => by rw [h]; decide)
  have eK : tK T n e = 3 := by
    unfold tK
    rw [eS]
    rw [at_in e0 he, h]
    decide
  have eE : tE T n e = e + 1 := by
    unfold tE
    rw [eK, if_neg (by decide), if_neg (by decide), eS]
  unfold semP
  rw [eK, if_pos rfl, eE]
theorem end_ok : tK T n n = 0 := by
  have eS : tS T n n = n := sk0 (fun h => absurd h (by omega))
  unfold tK
  rw [eS]
  rw [at_out (Int.le_refl n)]
  decide
/-- a word -/
theorem word_ok {e d : Int} (e0 : 0 ≤ e) (d1 : 1 ≤ d) (hw : ∀ j : Int, 0 ≤ j → j < d → 97 ≤ T (e + j) ∧ T (e + j) ≤ 122) (hn : e + d < n) (hs : T (e + d) = 32) : tS T n e = e ∧ tK T n e = 1 ∧ tE T n e = e + d := by
  have kd1 : ∀ c : Int, 97 ≤ c ∧ c ≤ 122 → kdZ c = 1 := fun c h => by
    unfold kdZ
    rw [if_neg (by omega), if_pos h]
  have h0 := hw 0 (by decide) (by omega)
  rw [Int.add_zero] at h0
  have eS : tS T n e = e := sk0 (fun _ => by omega)
  have eK : tK T n e = 1 := by
    unfold tK
    rw [eS]
    rw [at_in e0 (by omega)]
    exact kd1 _ h0
  refine ⟨eS, eK, ?_⟩
  unfold tE
  rw [eK, if_neg (by decide), if_pos (Or.inl rfl), eS]
  have := rn_run (T := T) (n := n) (k := 1) (d - 1).toNat (n - (e + 1)).toNat (e + 1) (by omega) (fun j a b => by
    refine ⟨by omega, ?_⟩
    have h := hw (j - e) (by omega) (by omega)
    rw [show e + (j - e) = j from by omega] at h
    exact kd1 _ h) (fun _ => by
    rw [show e + 1 + (((d - 1).toNat : Nat) : Int) = e + d from by omega, hs]
    decide)
  rw [this]
  omega
end Pars
