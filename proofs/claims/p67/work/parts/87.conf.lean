/-! ===== the law's configuration ===== -/
section Conf
variable {T : Int → Int} {n : Int}
/-- a blank and a number, something else behind it -/
def isNm (T : Int → Int) (e z : Int) : Prop := T e = 32 ∧ (∀ j : Int, 0 ≤ j → j < ndg z → T (e + 1 + j) = dch z j)
theorem nm_ok {e z lo hi c : Int} (h : isNm T e z) (e0 : 0 ≤ e) (z0 : 0 ≤ z) (z1 : z ≤ 999) (hlo : lo ≤ z) (hhi : z ≤ hi) (hn : e + 1 + ndg z < n) (hc : T (e + 1 + ndg z) = c) (hc2 : c = 32 ∨ c = 59) : numP T n lo hi e = (0, 0, z, e + 1 + ndg z) :=
  num_ok e0 z0 z1 hlo hhi h.1 h.2 hn (by rw [hc]; rcases hc2 with rfl | rfl <;> decide)
theorem spl_ok {e : Int} {i : Nat} (hi : i = 0 ∨ i = 1) (e0 : 0 ≤ e) (hw : ∀ j : Int, 0 ≤ j → j < ksLen i → T (e + j) = tB i j) (hn : e + ksLen i < n) (hs : T (e + ksLen i) = 32) : tK T n e = 1 ∧ tE T n e = e + ksLen i ∧ splZ T n (tS T n e) (tK T n e) (tE T n e) i = true := by
  have hl : 1 ≤ (ksLen i : Int) := by rcases hi with rfl | rfl <;> decide
  have hb : ∀ j : Int, 0 ≤ j → j < ksLen i → 97 ≤ tB i j ∧ tB i j ≤ 122 := fun j j0 j1 => by
    have key : ∀ i : Nat, i < 2 → ∀ m : Nat, m < ksLen i → 97 ≤ tB i (m : Int) ∧ tB i (m : Int) ≤ 122 := by decide +kernel
    have := key i (by omega) j.toNat (by omega)
    rw [show ((j.toNat : Nat) : Int) = j from by omega] at this
    exact this
  obtain ⟨w1, w2, w3⟩ := word_ok (T := T) (n := n) (e := e) (d := ksLen i) e0 hl (fun j j0 j1 => by rw [hw j j0 j1]; exact hb j j0 j1) hn hs
  refine ⟨w2, w3, ?_⟩
  unfold splZ
  rw [w1, w2, w3, decide_eq_true rfl, decide_eq_true (by omega : e + ksLen i - e = ksLen i)]
  rw [allD_yes (i := ksLen i) (Int.le_refl _) (fun j hj => by
    rw [at_in (by omega) (by omega), hw j (by omega) (by omega)]
    exact decide_eq_true rfl)]
  rfl
def eN (e z : Int) : Int := e + 1 + ndg z
theorem eN_r {e z : Int} : e + 2 ≤ eN e z ∧ eN e z ≤ e + 4 := by
  have := ndg_r (z := z)
  unfold eN
  omega
theorem mdm_ok {b f k g : Int} (h0 : ∀ j : Int, 0 ≤ j → j < 5 → T j = tB 0 j) (h1 : isNm T 5 b) (h2 : isNm T (eN 5 b) f) (h3 : isNm T (eN (eN 5 b) f) k) (h4 : isNm T (eN (eN (eN 5 b) f) k) g) (h5 : T (eN (eN (eN (eN 5 b) f) k) g) = 59) (hn : eN (eN (eN (eN 5 b) f) k) g < n) (hb : 1 ≤ b ∧ b ≤ 9) (hf : 1 ≤ f ∧ f ≤ 199) (hk : 1 ≤ k ∧ k ≤ 99) (hg : 1 ≤ g ∧ g ≤ 9) : mdmP T n = (0, 0, cfgA b (f - 100) k g, eN (eN (eN (eN 5 b) f) k) g + 1) := by
  have r1 := eN_r (e := 5) (z := b)
  have r2 := eN_r (e := eN 5 b) (z := f)
  have r3 := eN_r (e := eN (eN 5 b) f) (z := k)
  have r4 := eN_r (e := eN (eN (eN 5 b) f) k) (z := g)
  obtain ⟨w1, w2, w3⟩ := spl_ok (T := T) (n := n) (e := 0) (i := 0) (Or.inl rfl) (by decide) (fun j j0 j1 => by rw [Int.zero_add]; exact h0 j j0 j1) (by show 0 + 5 < n; omega) (by show T (0 + 5) = 32; exact h1.1)
  have w2 : tE T n 0 = 5 := w2
  have n1 : numP T n 1 9 5 = (0, 0, b, eN 5 b) := nm_ok h1 (by decide) (by omega) (by omega) hb.1 hb.2 (show eN 5 b < n by omega) h2.1 (Or.inl rfl)
  have n2 : numP T n 1 199 (eN 5 b) = (0, 0, f, eN (eN 5 b) f) := nm_ok h2 (by omega) (by omega) (by omega) hf.1 hf.2 (show eN (eN 5 b) f < n by omega) h3.1 (Or.inl rfl)
  have n3 : numP T n 1 99 (eN (eN 5 b) f) = (0, 0, k, eN (eN (eN 5 b) f) k) := nm_ok h3 (by omega) (by omega) (by omega) hk.1 hk.2 (show eN (eN (eN 5 b) f) k < n by omega) h4.1 (Or.inl rfl)
  have n4 : numP T n 1 9 (eN (eN (eN 5 b) f) k) = (0, 0, g, eN (eN (eN (eN 5 b) f) k) g) := nm_ok h4 (by omega) (by omega) (by omega) hg.1 hg.2 (show eN (eN (eN (eN 5 b) f) k) g < n by omega) h5 (Or.inr rfl)
  have n5 := sem_ok (T := T) (n := n) (e := eN (eN (eN (eN 5 b) f) k) g) (by omega) hn h5
  unfold mdmP
  rw [w3, if_neg (by decide), w2, n1, pbind_ok rfl]
  dsimp only
  rw [n2, pbind_ok rfl]
  dsimp only
  rw [n3, pbind_ok rfl]
  dsimp only
  rw [n4, pbind_ok rfl]
  dsimp only
  rw [n5, pbind_ok rfl]
def isDg (T : Int → Int) (e p q o : Int) : Prop := (∀ j : Int, 0 ≤ j → j < 3 → T (e + j) = tB 1 j) ∧ isNm T (e + 3) p ∧ isNm T (eN (e + 3) p) q ∧ isNm T (eN (eN (e + 3) p) q) o ∧ T (eN (eN (eN (e + 3) p) q) o) = 59
def dgE (e p q o : Int) : Int := eN (eN (eN (e + 3) p) q) o + 1
theorem dgE_r {e p q o : Int} : e + 10 ≤ dgE e p q o ∧ dgE e p q o ≤ e + 16 := by
  have r1 := eN_r (e := e + 3) (z := p)
  have r2 := eN_r (e := eN (e + 3) p) (z := q)
  have r3 := eN_r (e := eN (eN (e + 3) p) q) (z := o)
  unfold dgE
  omega
theorem dg_ok {e p q o : Int} {A : AV} {m : Nat} (h : isDg T e p q o) (e0 : 0 ≤ e) (hn : dgE e p q o ≤ n) (hp : 2 ≤ p ∧ p ≤ 999) (hq : 1 ≤ q ∧ q < p) (ho : 0 ≤ o ∧ o ≤ 999) (hA : A 0 4 < 3) : dgsP T n (m + 1) A e = dgsP T n m (dogA A p q o) (dgE e p q o) := by
  obtain ⟨h0, h1, h2, h3, h4⟩ := h
  have r1 := eN_r (e := e + 3) (z := p)
  have r2 := eN_r (e := eN (e + 3) p) (z := q)
  have r3 := eN_r (e := eN (eN (e + 3) p) q) (z := o)
  have hn' : eN (eN (eN (e + 3) p) q) o + 1 ≤ n := hn
  obtain ⟨w1, w2, w3⟩ := spl_ok (T := T) (n := n) (e := e) (i := 1) (Or.inr rfl) e0 (fun j j0 j1 => h0 j j0 j1) (by show e + 3 < n; omega) h1.1
  have w2 : tE T n e = e + 3 := w2
  have n1 : numP T n 2 999 (e + 3) = (0, 0, p, eN (e + 3) p) := nm_ok h1 (by omega) (by omega) (by omega) hp.1 hp.2 (show eN (e + 3) p < n by omega) h2.1 (Or.inl rfl)
  have n2 : numP T n 1 (p - 1) (eN (e + 3) p) = (0, 0, q, eN (eN (e + 3) p) q) := nm_ok h2 (by omega) (by omega) (by omega) hq.1 (by omega) (show eN (eN (e + 3) p) q < n by omega) h3.1 (Or.inl rfl)
  have n3 : numP T n 0 999 (eN (eN (e + 3) p) q) = (0, 0, o, eN (eN (eN (e + 3) p) q) o) := nm_ok h3 (by omega) ho.1 ho.2 ho.1 ho.2 (show eN (eN (eN (e + 3) p) q) o < n by omega) h4 (Or.inr rfl)
  have n5 := sem_ok (T := T) (n := n) (e := eN (eN (eN (e + 3) p) q) o) (by omega) (by omega) h4
  have nd : dogP T n (e + 3) = (0, 0, p, q, o, eN (eN (eN (e + 3) p) q) o) := by
    unfold dogP
    rw [n1, pbind_ok rfl]
    dsimp only
    rw [n2, pbind_ok rfl]
    dsimp only
    rw [n3, pbind_ok rfl]
  show (if tK T n e = 0 then (0, 0, A) else if splZ T n (tS T n e) (tK T n e) (tE T n e) 1 = false then (1, tS T n e, A) else if 3 ≤ A 0 4 then (3, tS T n e, A)
    else pbind (dogP T n (tE T n e)) A fun d => pbind (semP T n d.2.2.2) A fun e2 => dgsP T n m (dogA A d.1 d.2.1 d.2.2.1) e2) = _
  rw [w3, w1, if_neg (by decide), if_neg (by decide), if_neg (by omega), w2, nd, pbind_ok rfl]
  dsimp only
  rw [n5, pbind_ok rfl]
  rfl
def dgN (A : AV) (P Q O : Nat → Int) : Nat → AV
  | 0 => A
  | i + 1 => dogA (dgN A P Q O i) (P i) (Q i) (O i)
theorem dgN_4 {A : AV} {P Q O : Nat → Int} : ∀ i : Nat, dgN A P Q O i 0 4 = A 0 4 + i
  | 0 => by show A 0 4 = A 0 4 + ((0 : Nat) : Int); omega
  | i + 1 => by
    show dogA (dgN A P Q O i) (P i) (Q i) (O i) 0 4 = _
    rw [(dogA_e (i := 0)).2.2.2, dgN_4 i]
    omega
theorem dgs_ok {A : AV} {P Q O E : Nat → Int} {d : Nat} (hA : A 0 4 = 0) (hd : d ≤ 3) (hE : ∀ i, i < d → isDg T (E i) (P i) (Q i) (O i) ∧ E (i + 1) = dgE (E i) (P i) (Q i) (O i) ∧ (2 ≤ P i ∧ P i ≤ 999) ∧ (1 ≤ Q i ∧ Q i < P i) ∧ (0 ≤ O i ∧ O i ≤ 999)) (hn : E d = n) (e0 : 0 ≤ E 0) : ∀ j i : Nat, i + j = d → 0 ≤ E i → dgsP T n (j + 1 + (3 - d)) (dgN A P Q O i) (E i) = (0, 0, dgN A P Q O d) ∧ E i ≤ n
  | 0, i, h, hi0 => by
    have e : i = d := by omega
    subst e
    refine ⟨?_, by omega⟩
    rw [show 0 + 1 + (3 - i) = (3 - i) + 1 from by omega]
    show (if tK T n (E i) = 0 then (0, 0, dgN A P Q O i) else _) = _
    rw [hn, end_ok, if_pos rfl]
  | j + 1, i, h, hi0 => by
    obtain ⟨g1, g2, g3, g4, g5⟩ := hE i (by omega)
    have hr := dgE_r (e := E i) (p := P i) (q := Q i) (o := O i)
    obtain ⟨i1, i2⟩ := dgs_ok hA hd hE hn e0 j (i + 1) (by omega) (by omega)
    have h4 := dgN_4 (A := A) (P := P) (Q := Q) (O := O) i
    refine ⟨?_, by omega⟩
    rw [show j + 1 + 1 + (3 - d) = (j + 1 + (3 - d)) + 1 from by omega, dg_ok g1 hi0 (by omega) g3 g4 g5 (by omega), ← g2]
    exact i1
theorem conf_ok {b f k g : Int} {P Q O E : Nat → Int} {d : Nat} (h0 : ∀ j : Int, 0 ≤ j → j < 5 → T j = tB 0 j) (h1 : isNm T 5 b) (h2 : isNm T (eN 5 b) f) (h3 : isNm T (eN (eN 5 b) f) k) (h4 : isNm T (eN (eN (eN 5 b) f) k) g) (h5 : T (eN (eN (eN (eN 5 b) f) k) g) = 59) (hE0 : E 0 = eN (eN (eN (eN 5 b) f) k) g + 1) (hb : 1 ≤ b ∧ b ≤ 9) (hf : 1 ≤ f ∧ f ≤ 199) (hk : 1 ≤ k ∧ k ≤ 99) (hg : 1 ≤ g ∧ g ≤ 9) (hd : d ≤ 3) (hE : ∀ i, i < d → isDg T (E i) (P i) (Q i) (O i) ∧ E (i + 1) = dgE (E i) (P i) (Q i) (O i) ∧ (2 ≤ P i ∧ P i ≤ 999) ∧ (1 ≤ Q i ∧ Q i < P i) ∧ (0 ≤ O i ∧ O i ≤ 999)) (hn : E d = n) : (confP T n).1 = 0 ∧ (confP T n).2.2 = dgN (cfgA b (f - 100) k g) P Q O d := by
  have r1 := eN_r (e := 5) (z := b)
  have r2 := eN_r (e := eN 5 b) (z := f)
  have r3 := eN_r (e := eN (eN 5 b) f) (z := k)
  have r4 := eN_r (e := eN (eN (eN 5 b) f) k) (z := g)
  obtain ⟨i1, i2⟩ := dgs_ok (T := T) (n := n) (A := cfgA b (f - 100) k g) (P := P) (Q := Q) (O := O) (E := E) (d := d) rfl hd hE hn (by omega) d 0 (by omega) (by omega)
  have hm := mdm_ok (n := n) h0 h1 h2 h3 h4 h5 (by omega) hb hf hk hg
  unfold confP
  rw [hm, pbind_ok rfl]
  dsimp only
  rw [← hE0, show 4 = d + 1 + (3 - d) from by omega]
  rw [show dgsP T n (d + 1 + (3 - d)) (cfgA b (f - 100) k g) (E 0) = (0, 0, dgN (cfgA b (f - 100) k g) P Q O d) from i1]
  exact ⟨rfl, rfl⟩
end Conf
