/-! ===== a command is run ===== -/
/-- the clock's bound between calls -/
def cB : Int := 2450880
def bfA (T : Int → Int) (a b : Int) : Int → Int := fun k => if 0 ≤ k ∧ k < b then T (a + k) else 0
def stepC (A : AV) (T : Int → Int) (nm a b c : Int) : Bool × AV :=
  if nm = 0 then (if A 0 5 < 12 then (true, addA A (bfA T a b) b) else (false, A))
  else if nm = 1 then (if A 0 7 ≤ 900000 then (true, (mkS a.toNat A).2) else (false, A))
  else if nm = 2 then (if stD A a = 0 then (true, (gvA A a).2) else (false, A))
  else if nm = 3 then (if stD A a = 2 ∧ A 0 5 < 12 then (true, addA A (txtA A a) (A 4 a)) else (false, A))
  else if nm = 4 then (if A 0 7 + a ≤ 900000 then (true, waitA A a) else (false, A))
  else if nm = 5 then (true, up2 A 0 1 (a - 100))
  else if nm = 6 then (if A 0 4 < 3 then (true, dogA A a b c) else (false, A))
  else (if a < A 0 4 then (true, rmA A a) else (false, A))
theorem hasN_ex {St : Int → Int} {c : Int} : ∀ (m : Nat) (i : Int), hasN St c m i = true → ∃ x : Int, i ≤ x ∧ x < i + m ∧ St x = c
  | 0, _, h => by cases h
  | m + 1, i, h => by
    unfold hasN at h
    simp only [Bool.or_eq_true, decide_eq_true_eq] at h
    rcases h with h | h
    · exact ⟨i, Int.le_refl i, by omega, h⟩
    · obtain ⟨x, h0, h1, h2⟩ := hasN_ex m (i + 1) h
      exact ⟨x, by omega, by omega, h2⟩
theorem gvS_pos {A : AV} {g x : Int} (hg : g ≤ x) (hx : A 7 x = 0) : ∀ j : Nat, x < g + j → 0 < (gvS A g j).1
  | 0, h => by omega
  | j + 1, h => by
    have hr := gvS_r (A := A) (g := g) j
    unfold gvS
    by_cases e : A 7 (g + j) = 0
    · rw [if_pos e]; dsimp only; omega
    · rw [if_neg e]
      exact gvS_pos hg hx j (by
        have : x ≠ g + j := fun z => e (by rw [← z]; exact hx)
        omega)
theorem gv_pos {A : AV} {m : Int} (h : stD A m = 0) : 0 < (gvA A m).1 := by
  unfold stD stA at h
  split at h
  · split at h
    · rename_i h2
      obtain ⟨x, x0, x1, x2⟩ := hasN_ex _ _ h2
      exact gvS_pos x0 x2 _ x1
    · split at h <;> cases h
  · cases h
theorem bfA_r {T : Int → Int} {a b n : Int} (hT : ∀ i, 0 ≤ i → i < n → 0 ≤ T i ∧ T i ≤ 255) (h0 : 0 ≤ a) (h1 : a + b ≤ n) (k : Int) : 0 ≤ bfA T a b k ∧ bfA T a b k ≤ 255 := by
  unfold bfA
  split
  · exact hT _ (by omega) (by omega)
  · decide
theorem txtA_r {A : AV} {c m : Int} (h : AINV A c) (k : Int) : 0 ≤ txtA A m k ∧ txtA A m k ≤ 255 := h.byt _
section Step
variable {l : LX} {q p : Nat} {I : Nat → Int → Int} {v : Int} {fr : Bool} {T : Int → Int} {n : Int}
theorem vc_rm {K : Nat → Int → Int} {d : Int} (h0 : 0 ≤ d) (h1 : d < I (p + 3) 0) (ko : ∀ a, a ≠ p + 3 → a ≠ p + 4 → a ≠ p + 5 → a ≠ p + 6 → K a = I a) (k3 : K (p + 3) = (fun b => if b = 0 then I (p + 3) 0 - 1 else I (p + 3) b)) (k4 : K (p + 4) = rmF (I (p + 4)) d (I (p + 3) 0 - 1)) (k5 : K (p + 5) = rmF (I (p + 5)) d (I (p + 3) 0 - 1)) (k6 : K (p + 6) = rmF (I (p + 6)) d (I (p + 3) 0 - 1)) : Vc K p = rmA (Vc I p) d := by
  have e4 : Vc I p 0 4 = I (p + 3) 0 := vr4
  have k30 : K (p + 3) 0 = I (p + 3) 0 - 1 := by rw [k3]; exact if_pos rfl
  have ee : ∀ (g : Int → Int) (i : Int), ent (I (p + 3) 0 - 1) (rmF g d (I (p + 3) 0 - 1)) i = if d ≤ i then (if i + 1 < I (p + 3) 0 then ent (I (p + 3) 0) g (i + 1) else 0) else ent (I (p + 3) 0) g i := fun g i => by
    unfold ent rmF
    by_cases c1 : d ≤ i
    · rw [if_pos c1]
      by_cases c2 : i + 1 < I (p + 3) 0
      · rw [if_pos c2, if_pos (by omega), if_pos (by omega), if_pos (by omega)]
      · rw [if_neg c2, if_neg (by omega)]
    · rw [if_neg c1]
      by_cases c2 : 0 ≤ i ∧ i < I (p + 3) 0
      · rw [if_pos c2, if_pos (by omega), if_neg (by omega)]
      · rw [if_neg c2, if_neg (by omega)]
  funext k i
  by_cases h1 : k = 1
  · subst h1; rw [rmA_d (by decide), e4, vc1, vc1, k30, k4]; exact ee _ _
  by_cases h2 : k = 2
  · subst h2; rw [rmA_d (by decide), e4, vc2, vc2, k30, k5]; exact ee _ _
  by_cases h3 : k = 3
  · subst h3; rw [rmA_d (by decide), e4, vc3, vc3, k30, k6]; exact ee _ _
  by_cases hk : k = 0
  · subst hk
    by_cases h4 : i = 4
    · subst h4; show Vc K p 0 4 = Vc I p 0 4 - 1; rw [vr4, k30, e4]
    · rw [rmA_o (by decide) (fun _ => h4)]
      exact scal_at (o := 3) (n0 := 4) (by decide) rfl (by decide +kernel) (fun a ha ⟨m, hm⟩ => ko a (by omega) (by have := sO_out m; omega) (by have := sO_out m; omega) (by have := sO_out m; omega)) i h4
  rw [rmA_o ⟨h1, h2, h3⟩ (fun z => absurd z hk)]
  unfold Vc
  rw [ko p (by omega) (by omega) (by omega) (by omega), ko (p + 1) (by omega) (by omega) (by omega) (by omega), ko (p + 2) (by omega) (by omega) (by omega) (by omega), ko (p + 7) (by omega) (by omega) (by omega) (by omega), ko (p + 8) (by omega) (by omega) (by omega) (by omega), ko (p + 9) (by omega) (by omega) (by omega) (by omega), ko (p + 10) (by omega) (by omega) (by omega) (by omega), ko (p + 11) (by omega) (by omega) (by omega) (by omega), ko (p + 12) (by omega) (by omega) (by omega) (by omega), ko (p + 13) (by omega) (by omega) (by omega) (by omega)]
  match k, hk, h1, h2, h3 with
  | 0, hk, _, _, _ => exact absurd rfl hk
  | 1, _, hk, _, _ => exact absurd rfl hk
  | 2, _, _, hk, _ => exact absurd rfl hk
  | 3, _, _, _, hk => exact absurd rfl hk
  | 4, _, _, _, _ | 5, _, _, _, _ | 6, _, _, _, _ | 7, _, _, _, _ | 8, _, _, _, _ | 9, _, _, _, _ | 10, _, _, _, _ | 11, _, _, _, _ => rfl
  | k + 12, _, _, _, _ => rfl
theorem cx_rm {K : Nat → Int → Int} (h : CX I p) (ko : ∀ a, a ≠ p + 3 → a ≠ p + 4 → a ≠ p + 5 → a ≠ p + 6 → K a = I a) : CX K p := by
  unfold CX
  rw [ko (p + 12) (by omega) (by omega) (by omega) (by omega), ko (p + 13) (by omega) (by omega) (by omega) (by omega), ko (p + 7) (by omega) (by omega) (by omega) (by omega), ko (p + 11) (by omega) (by omega) (by omega) (by omega), ko (p + 10) (by omega) (by omega) (by omega) (by omega), ko (p + 14) (by omega) (by omega) (by omega) (by omega), ko p (by omega) (by omega) (by omega) (by omega)]
  exact h
end Step
