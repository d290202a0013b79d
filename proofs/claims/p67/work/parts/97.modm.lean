/-! ===== the law's modem is made ===== -/
section Re2
variable {l : LX} {y k n pc : Nat} {L : LL} {st : List Value} {σ : MM} {Q : OO → Prop}
theorem x_re2 {σ' : MM} {L' : LL} {st' : List Value} {n0 : Nat} (f : Nat → Nat) (hf : σ'.2.2.2.2.2 = false) (hn : σ'.2.2.2.1 ≤ scr) (h0 : n0 ≤ σ'.2.2.2.1) (hQ : ∀ o, Q o → PIN n0 o)
    (f0 : ∀ i, i < n0 → f i = i) (f1 : ∀ i, i < σ'.2.2.2.1 → f i < σ.2.2.2.1) (f2 : ∀ i j, i < σ'.2.2.2.1 → j < σ'.2.2.2.1 → f i = f j → i = j)
    (c1 : ∀ i, i < σ'.2.2.2.1 → σ'.2.2.1 i = σ.2.2.1 (f i)) (c2 : ∀ i, i < σ'.2.2.2.1 → ∀ j, σ'.1 i j = σ.1 (f i) j) (c3 : ∀ i, i < σ'.2.2.2.1 → ∀ j, (∀ r, σ'.2.1 i j = some r → r < σ'.2.2.2.1 ∨ (scr ≤ r ∧ f r = r)) ∧ (σ'.2.1 i j).map f = σ.2.1 (f i) j)
    (hl : L'.length = L.length) (hL' : ∀ (i : Nat) (v : Value), L'[i]? = some (some v) → (L[i]? = some (some v) ∧ ∀ r, v = .ref r → scr ≤ r) ∨ ∃ r, r < σ'.2.2.2.1 ∧ v = .ref r ∧ L[i]? = some (some (.ref (f r))))
    (hst : ∀ (G : GG) (ad : Nat → Nat), (∀ i, i < σ'.2.2.2.1 → ad i = G.2.2.2.2.2 (f i)) → cvs (G.at ad) st' = cvs G st)
    (kk : Ex l y k n pc L' st' σ' Q) : Ex l y k n pc L st σ Q := by
  intro G p e R s m args below meth c A CE SE Qf hA hC hS hF H locs cells slots ls h1 h2 hL hW hR
  have had : ∀ i, i < n0 → (fun i => G.2.2.2.2.2 (f i)) i = G.2.2.2.2.2 i := fun i hi => congrArg G.2.2.2.2.2 (f0 i hi)
  have hadr : ∀ r, r < σ'.2.2.2.1 → adr (G.at fun i => G.2.2.2.2.2 (f i)) r = adr G (f r) := fun r hr => by
    rw [adr_lt (Nat.lt_of_lt_of_le hr hn), adr_lt (Nat.lt_of_lt_of_le (f1 r hr) hW.1)]
    rfl
  have hcell : ∀ i, i < σ'.2.2.2.1 → cellO (G.at fun i => G.2.2.2.2.2 (f i)) σ' i = cellO G σ (f i) := fun i hi => by
    have e1 : ∀ j, (σ'.2.1 i j).map (adr (G.at fun i => G.2.2.2.2.2 (f i))) = (σ.2.1 (f i) j).map (adr G) := fun j => by
      obtain ⟨g1, g2⟩ := c3 i hi j
      rw [← g2]
      cases hc : σ'.2.1 i j with
      | none => rfl
      | some r =>
        rcases g1 r hc with q | ⟨q1, q2⟩
        · exact congrArg some (hadr r q)
        · show some (adr _ r) = some (adr G (f r))
          rw [q2]
          exact congrArg some (adr_at (n := 0) (fun k hk => absurd hk (Nat.not_lt_zero k)) (Or.inr q1))
    have e2 : (fun j => (σ'.2.1 i j).map (adr (G.at fun i => G.2.2.2.2.2 (f i)))) = fun j => (σ.2.1 (f i) j).map (adr G) := funext e1
    have e3 : σ'.1 i = σ.1 (f i) := funext (c2 i hi)
    unfold cellO fieldsO
    rw [e2, c1 i hi, e3]
    simp only [e1]
    rfl
  have hg : ∀ (i : Nat) (x : Nat × va_E), (wsO (G.at fun i => G.2.2.2.2.2 (f i)) σ')[i]? = some x → i < σ'.2.2.2.1 ∧ (wsO G σ)[f i]? = some x := fun i x hx => by
    by_cases hi : i < σ'.2.2.2.1
    · rw [wsO_get hi, hcell i hi] at hx
      rw [wsO_get (f1 i hi), ← hx]
      exact ⟨hi, rfl⟩
    · rw [wsO_out (Nat.le_of_not_lt hi)] at hx
      cases hx
  have hst2 := hst G (fun i => G.2.2.2.2.2 (f i)) fun i _ => rfl
  rw [← hst2]
  refine kk (G.at fun i => G.2.2.2.2.2 (f i)) p e R s m args below meth c A CE SE Qf (hA.at _) hC hS (hF.at had hQ) H locs cells slots ls h1 h2 ⟨hL.1, hL.2.1, hl.trans hL.2.2.1, fun i v hi => ?_⟩ ⟨hn, fun i x hx => hW.2.1 _ x (hg i x hx).2, ⟨fun i j x z hx hz e => ?_, fun i x hx => hW.2.2.1.2 _ x (hg i x hx).2⟩, hW.2.2.2⟩ (fun z => by rw [hf] at z; cases z)
  · rcases hL' i v hi with ⟨q1, q2⟩ | ⟨r, q1, rfl, q2⟩
    · rw [cv_at (n := 0) (fun k hk => absurd hk (Nat.not_lt_zero k)) (fun r e => Or.inr (q2 r e))]
      exact hL.2.2.2 i v q1
    · have := hL.2.2.2 i _ q2
      show ls[i]? = some (.val (.ref (adr (G.at fun i => G.2.2.2.2.2 (f i)) r)))
      rw [hadr r q1]
      exact this
  · exact f2 i j (hg i x hx).1 (hg j z hz).1 (hW.2.2.1.1 _ _ x z (hg i x hx).2 (hg j z hz).2 e)
end Re2
section Mod
variable {l : LX} {k n : Nat} {Q : OO → Prop} {τ : MM} {cap : Nat} {len d : Int} {T : Int → Int}
theorem law_mod (hl : l.1.stackTraces = false) (hQ : ∀ o, Q o → PIN 0 o) (hB : BS τ cap len T) (hn9 : τ.2.2.2.1 ≤ 900)
    (kk : ∀ (K : Nat → Int → Int) (T2 : Int → Int), CREL K (S00 T2) → Ex l 332 k n 197 [some (.ref scr), some (.ref 181), some (.int (iI d)), some (.ref 0), none, none, none, none, none, none, none, none, none] [] (sh 181 (mm 181 K 0 false) τ) Q) :
    Ex l 332 (k + 181) (n + 9935 + nf 9) 189 [some (.ref scr), some (.ref 0), some (.int (iI d)), none, none, none, none, none, none, none, none, none, none] [] (sh 0 mZ τ) Q := by
  have hs : scr = 1000000 := rfl
  have hbn := bs_n hB
  obtain ⟨N, hN⟩ : ∃ N, N = τ.2.2.2.1 := ⟨_, rfl⟩
  have hn0 : (sh 0 mZ τ).2.2.2.1 = 0 + N := by rw [hN]; rfl
  have hrf : ∀ i, i < 0 + N → RF (0 + N) (sh 0 mZ τ) i := fun i hi j r hr => by
    have hr : (if i < 0 then mZ.2.1 i j else (τ.2.1 (i - 0) j).map (shr 0)) = some r := hr
    rw [if_neg (Nat.not_lt_zero i), Nat.sub_zero] at hr
    cases e : τ.2.1 i j with
    | none => rw [e] at hr; cases hr
    | some r0 =>
      rw [e] at hr
      have hr : shr 0 r0 = r := Option.some.inj hr
      rcases hbn.2.2 i (by omega) j r0 e with g | g
      · rw [shr_lt (by omega)] at hr
        exact Or.inl (by omega)
      · rw [shr_ge g] at hr
        exact Or.inr (by omega)
  refine x_less (k2 := k + 180 + 1) (n2 := n + 9935 + nf 9) (by omega) (by omega) rfl ?_
  refine x_newTC (pc := 189) (n0 := 0) n332_15 (by rw [hn0]; omega) rfl hQ (Nat.zero_le _) (by rw [hn0]; exact hrf) (rbL_mono (n := 1) rfl (by rw [hn0]; omega)) rfl d332_189 ?_
  rw [hn0]
  refine x_cut (σ' := sh (0 + N) (sh 0 mZ τ) (cm zI (mR R0 0 0) 1 0)) (by show 0 + N + 1 ≤ (sh 0 mZ τ).2.2.2.1 + 1; rw [hn0]; exact Nat.le_refl _) rfl (fun i hi => ?_) ?_
  · have hi : i < 0 + N + 1 := hi
    by_cases g : i < 0 + N
    · have g2 : ¬ i = (sh 0 mZ τ).2.2.2.1 := by rw [hn0]; omega
      refine ⟨funext fun j => ?_, funext fun j => ?_, ?_⟩
      · exact (if_pos g).trans (if_neg g2).symm
      · exact (if_pos g).trans (if_neg g2).symm
      · exact (if_pos g).trans (if_neg g2).symm
    · have e : i = 0 + N := by omega
      subst e
      refine ⟨funext fun j => ?_, funext fun j => ?_, ?_⟩
      · exact (if_neg g).trans (if_pos hn0.symm).symm
      · refine (if_neg g).trans (Eq.trans ?_ (if_pos hn0.symm).symm)
        rw [Nat.sub_self]
        show ((if (0 : Nat) = 0 ∧ 0 ≤ j then none else R0 0 j) : Option Nat).map _ = none
        rw [if_pos ⟨rfl, Nat.zero_le j⟩]
        rfl
      · refine (if_neg g).trans (Eq.trans ?_ (if_pos hn0.symm).symm)
        rw [Nat.sub_self]
        decide +kernel
  refine x_dup (pc := 192) rfl d332_192 ?_
  refine x_less (k2 := 180 + k) (n2 := 9935 + n) (by omega) (by omega) rfl ?_
  refine x_jdk (b := 0 + N) (σ0 := sh 0 mZ τ) (τ0 := cm zI (mR R0 0 0) 1 0) (As := [.ref 0]) (rest := [.ref (0 + N)]) (n0 := 0) (Q1 := fun o => ∃ K, o = (.inl none, mm 181 K 0 true) ∧ ∃ T, CREL K (S00 T) ∧ ∀ a, 181 ≤ a → ∀ j, K a j = 0) (run_I c332_287 (kt75 (v := 0) hl) (by decide) rfl (by decide +kernel) (by decide +kernel) d332_193) (show 0 + N + 1 ≤ scr by omega) hrf (fun i hi j r h => ?_) ?_ (Nat.le_of_ble_eq_true rfl) rfl ?_ (rbL_mono (n := 1) rfl (show 1 ≤ 0 + N + 1 by omega)) hQ (Nat.zero_le _) (fun E τ h => by obtain ⟨_, e, -⟩ := h; cases e) (fun v τ h => ?_) (fun v τ1 h => ?_)
  · have hi : i < 1 := hi
    have e : i = 0 := by omega
    subst e
    have h : (if (0 : Nat) = 0 ∧ 0 ≤ j then none else R0 0 j) = some r := h
    rw [if_pos ⟨rfl, Nat.zero_le j⟩] at h
    cases h
  · show [Value.ref (0 + N), Value.ref (0 + N)] = [Value.ref (shr (0 + N) 0), Value.ref (0 + N)]
    rw [shr_lt (by omega), Nat.zero_add (0 + N)]
  · show ((decide (0 + N < 0 + N + 1) || decide (scr ≤ 0 + N)) && true) = true
    rw [decide_eq_true (by omega : 0 + N < 0 + N + 1)]
    rfl
  · obtain ⟨K, e, -⟩ := h
    cases e
    exact ⟨show 0 + N + 181 ≤ scr by omega, fun i hi j r h => Or.inl (r0_n hi h), fun w hw => by cases hw⟩
  · obtain ⟨K, e, T2, hK, -⟩ := h
    cases e
    refine x_astore_n (pc := 196) (by decide +kernel) rfl d332_196 ?_
    dsimp only [List.set]
    obtain ⟨σ, hσ⟩ : ∃ σ, σ = sh (0 + N) (sh 0 mZ τ) (mm 181 K 0 true) := ⟨_, rfl⟩
    obtain ⟨σ', hσ'⟩ : ∃ σ', σ' = sh 181 (mm 181 K 0 false) τ := ⟨_, rfl⟩
    have kk2 := kk K T2 hK
    rw [← hσ'] at kk2
    rw [← hσ]
    obtain ⟨F, hF⟩ : ∃ F : Nat → Nat, F = fun i => if i < 181 then i + N else if i < scr then i - 181 else i := ⟨_, rfl⟩
    have F0 : ∀ i, i < 181 → F i = i + N := fun i hi => by rw [hF]; exact if_pos hi
    have F1 : ∀ i, ¬ i < 181 → i < scr → F i = i - 181 := fun i hi h2 => by rw [hF]; exact (if_neg hi).trans (if_pos h2)
    have F2 : ∀ i, scr ≤ i → F i = i := fun i hi => by rw [hF]; exact (if_neg (by omega)).trans (if_neg (by omega))
    have sn : σ.2.2.2.1 = 0 + N + 181 := by rw [hσ]; rfl
    have sn' : σ'.2.2.2.1 = 181 + N := by rw [hσ', hN]; rfl
    have bK : ∀ i, (sh 0 mZ τ).2.2.1 i = τ.2.2.1 i := fun i => by
      show (if i < 0 then mZ.2.2.1 i else τ.2.2.1 (i - 0)) = τ.2.2.1 i
      rw [if_neg (Nat.not_lt_zero i), Nat.sub_zero]
    have bI : ∀ i j, (sh 0 mZ τ).1 i j = τ.1 i j := fun i j => by
      show (if i < 0 then mZ.1 i j else τ.1 (i - 0) j) = τ.1 i j
      rw [if_neg (Nat.not_lt_zero i), Nat.sub_zero]
    have bR : ∀ i j, (sh 0 mZ τ).2.1 i j = (τ.2.1 i j).map (shr 0) := fun i j => by
      show (if i < 0 then mZ.2.1 i j else (τ.2.1 (i - 0) j).map (shr 0)) = (τ.2.1 i j).map (shr 0)
      rw [if_neg (Nat.not_lt_zero i), Nat.sub_zero]
    have sK : ∀ i, i < N → σ.2.2.1 i = τ.2.2.1 i := fun i hi => by rw [hσ]; exact (if_pos (show i < 0 + N by omega)).trans (bK i)
    have sI : ∀ i j, i < N → σ.1 i j = τ.1 i j := fun i j hi => by rw [hσ]; exact (if_pos (show i < 0 + N by omega)).trans (bI i j)
    have sR : ∀ i j, i < N → σ.2.1 i j = (τ.2.1 i j).map (shr 0) := fun i j hi => by rw [hσ]; exact (if_pos (show i < 0 + N by omega)).trans (bR i j)
    have tK : ∀ i, σ.2.2.1 (i + N) = K0 i := fun i => by rw [hσ]; exact (if_neg (show ¬ i + N < 0 + N by omega)).trans (congrArg K0 (show i + N - (0 + N) = i by omega))
    have tI : ∀ i j, σ.1 (i + N) j = K i j := fun i j => by rw [hσ]; exact (if_neg (show ¬ i + N < 0 + N by omega)).trans (congrArg (fun a => K a j) (show i + N - (0 + N) = i by omega))
    have tR : ∀ i j, σ.2.1 (i + N) j = (R0 i j).map (shr (0 + N)) := fun i j => by rw [hσ]; exact (if_neg (show ¬ i + N < 0 + N by omega)).trans (congrArg (fun a => (R0 a j).map (shr (0 + N))) (show i + N - (0 + N) = i by omega))
    refine x_re2 (σ' := σ') (L' := [some (.ref scr), some (.ref 181), some (.int (iI d)), some (.ref 0), none, none, none, none, none, none, none, none, none]) (st' := []) (n0 := 0) F (by rw [hσ']; rfl) (by rw [sn']; omega) (Nat.zero_le _) hQ (fun i hi => absurd hi (Nat.not_lt_zero i)) (fun i hi => ?_) (fun i j hi hj e => ?_) (fun i hi => ?_) (fun i hi j => ?_) (fun i hi j => ?_) rfl (fun i x hx => ?_) (fun _ _ _ => rfl) kk2
    · rw [sn'] at hi
      rw [sn]
      by_cases g : i < 181
      · rw [F0 i g]; omega
      · rw [F1 i g (by omega)]; omega
    · rw [sn'] at hi hj
      by_cases g : i < 181
      · rw [F0 i g] at e
        by_cases g2 : j < 181
        · rw [F0 j g2] at e; omega
        · rw [F1 j g2 (by omega)] at e; omega
      · rw [F1 i g (by omega)] at e
        by_cases g2 : j < 181
        · rw [F0 j g2] at e; omega
        · rw [F1 j g2 (by omega)] at e; omega
    · rw [sn'] at hi
      rw [hσ']
      by_cases g : i < 181
      · rw [F0 i g, tK]
        exact if_pos g
      · rw [F1 i g (by omega), sK _ (by omega)]
        exact if_neg g
    · rw [sn'] at hi
      rw [hσ']
      by_cases g : i < 181
      · rw [F0 i g, tI]
        exact if_pos g
      · rw [F1 i g (by omega), sI _ _ (by omega)]
        exact if_neg g
    · rw [sn'] at hi ⊢
      rw [hσ']
      by_cases g : i < 181
      · have e : (sh 181 (mm 181 K 0 false) τ).2.1 i j = R0 i j := if_pos g
        rw [e, F0 i g, tR]
        refine ⟨fun r hr => Or.inl (by have := r0_n g hr; omega), ?_⟩
        cases hc : R0 i j with
        | none => rfl
        | some r =>
          have hr := r0_n g hc
          show some (F r) = some (shr (0 + N) r)
          rw [F0 r hr, shr_lt (by omega), Nat.zero_add]
      · have e : (sh 181 (mm 181 K 0 false) τ).2.1 i j = (τ.2.1 (i - 181) j).map (shr 181) := if_neg g
        rw [e, F1 i g (by omega), sR _ _ (by omega)]
        cases hc : τ.2.1 (i - 181) j with
        | none => exact ⟨fun r hr => (by cases hr), rfl⟩
        | some r0 =>
          rcases hbn.2.2 (i - 181) (by omega) j r0 hc with q | q
          · refine ⟨fun r hr => ?_, ?_⟩
            · have hr : shr 181 r0 = r := Option.some.inj hr
              rw [shr_lt (by omega)] at hr
              exact Or.inl (by omega)
            · show some (F (shr 181 r0)) = some (shr 0 r0)
              rw [shr_lt (by omega), shr_lt (by omega), F1 _ (by omega) (by omega)]
              exact congrArg some (by omega)
          · refine ⟨fun r hr => ?_, ?_⟩
            · have hr : shr 181 r0 = r := Option.some.inj hr
              rw [shr_ge q] at hr
              exact Or.inr ⟨by omega, F2 r (by omega)⟩
            · show some (F (shr 181 r0)) = some (shr 0 r0)
              rw [shr_ge q, shr_ge q, F2 _ q]
    · match i, hx with
      | 0, hx =>
        cases hx
        exact Or.inl ⟨rfl, fun r e => by cases e; exact Nat.le_refl _⟩
      | 1, hx =>
        cases hx
        exact Or.inr ⟨181, by rw [sn']; omega, rfl, by rw [F1 181 (by omega) (by omega)]; rfl⟩
      | 2, hx =>
        cases hx
        exact Or.inl ⟨rfl, fun r e => by cases e⟩
      | 3, hx =>
        cases hx
        exact Or.inr ⟨0, by rw [sn']; omega, rfl, by rw [F0 0 (by omega)]; rfl⟩
      | 4, hx => cases hx
      | 5, hx => cases hx
      | 6, hx => cases hx
      | 7, hx => cases hx
      | 8, hx => cases hx
      | 9, hx => cases hx
      | 10, hx => cases hx
      | 11, hx => cases hx
      | 12, hx => cases hx
      | (i + 13), hx => cases hx
end Mod
