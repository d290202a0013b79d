/-! ===== calls over the first places, others above them ===== -/
/-- the places of τ below b, those of σ from b on -/
def fm (b : Nat) (σ τ : MM) : MM := (fun k x => if k < b then τ.1 k x else σ.1 k x, fun k x => if k < b then τ.2.1 k x else σ.2.1 k x, fun k => if k < b then τ.2.2.1 k else σ.2.2.1 k, σ.2.2.2.1, τ.2.2.2.2.1, false)
theorem fm_lo {b i : Nat} {σ τ : MM} {G : GG} (h : i < b) : cellO G (fm b σ τ) i = cellO G τ i := by
  have k1 : (fm b σ τ).2.2.1 i = τ.2.2.1 i := if_pos h
  have k2 : (fm b σ τ).1 i = τ.1 i := by funext x; exact if_pos h
  have k3 : ∀ j, (fm b σ τ).2.1 i j = τ.2.1 i j := fun j => if_pos h
  unfold cellO fieldsO
  rw [k1, k2]
  simp only [k3]
theorem fm_hi {b i : Nat} {σ τ : MM} {G : GG} (h : b ≤ i) : cellO G (fm b σ τ) i = cellO G σ i := by
  have k1 : (fm b σ τ).2.2.1 i = σ.2.2.1 i := if_neg (Nat.not_lt.mpr h)
  have k2 : (fm b σ τ).1 i = σ.1 i := by funext x; exact if_neg (Nat.not_lt.mpr h)
  have k3 : ∀ j, (fm b σ τ).2.1 i j = σ.2.1 i j := fun j => if_neg (Nat.not_lt.mpr h)
  unfold cellO fieldsO
  rw [k1, k2]
  simp only [k3]
section FCal
variable {l : LX} {y k n pc : Nat} {L : LL} {σ : MM} {Q : OO → Prop}
theorem x_fcal {b k1 n1 : Nat} {τ0 : MM} {st rest As : List Value} {Q1 : OO → Prop}
    (run : ∀ (G : GG) (p : Program) (e : Env) (R : Room) (s : State) (m : MethodId) (args : Array Value) (below : List Frame) (meth : Method) (c : Code) (A : Nat → Prop) (H : Heap) (locs : List Loc) (cells slots : Nat) (ls : Array Slot) (rs : List Value), AMB l y G p R s m args meth c A → cells + k1 ≤ R.cells → slots + n1 ≤ R.slots → ls.size = mlN y → WOK G A s H locs τ0 → (τ0.2.2.2.2.2 = true → H.size = G.2.2.2.2.2 τ0.2.2.2.1 ∧ CS G τ0.2.2.2.1) → (rs.map fun v => v.category).sum ≤ 8 →
      vx_Run p l.1 e R s m args below meth c H locs cells slots k1 n1 (F0 m pc ls ((cvs G As).reverse ++ rs)) rs (QW G τ0 H.size k1 Q1 (cvs G As).toArray) (XW G τ0 H.size k1 Q1) (va_A (wsO G τ0) H.size))
    (hn0 : τ0.2.2.2.1 = b) (hf0 : τ0.2.2.2.2.2 = false) (hb : b ≤ σ.2.2.2.1) (hag : ∀ i, i < b → τ0.1 i = σ.1 i ∧ τ0.2.1 i = σ.2.1 i ∧ τ0.2.2.1 i = σ.2.2.1 i)
    (hst : st = As.reverse ++ rest) (hcat : cats rest ≤ 8)
    (hx : ∀ (E : Nat) (τ : MM), ¬ Q1 (.inr E, τ)) (hq1 : ∀ (v : Option Value) (τ : MM), Q1 (.inl v, τ) → τ.2.2.2.1 = b)
    (kk : ∀ (v : Option Value) (τ : MM), Q1 (.inl v, τ) → Ex l y k n (pc + 3) L (v.toList ++ rest) (fm b σ τ) Q) : Ex l y (k1 + k) (n1 + n) pc L st σ Q := by
  intro G p e R s m args below meth c A CE SE Qf hA hC hS hF H locs cells slots ls h1 h2 hL hW hR
  have hcs : ∀ i, i < b → cellO G τ0 i = cellO G σ i := fun i hi => by
    obtain ⟨a1, a2, a3⟩ := hag i hi
    unfold cellO fieldsO
    rw [a1, a2, a3]
  have hg : ∀ (i : Nat) (x : Nat × va_E), (wsO G τ0)[i]? = some x → i < b ∧ (wsO G σ)[i]? = some x := fun i x hx => by
    by_cases hi : i < b
    · rw [wsO_get (by omega), hcs i hi] at hx
      rw [wsO_get (by omega), ← hx]
      exact ⟨hi, rfl⟩
    · rw [wsO_out (by omega)] at hx
      cases hx
  have hW0 : WOK G A s H locs τ0 := ⟨by rw [hn0]; exact Nat.le_trans hb hW.1, fun i x hx => hW.2.1 i x (hg i x hx).2, ⟨fun i j x z hx hz => hW.2.2.1.1 i j x z (hg i x hx).2 (hg j z hz).2, fun i x hx => hW.2.2.1.2 i x (hg i x hx).2⟩, hW.2.2.2⟩
  have hrun := run G p e R s m args below meth c A H locs cells slots ls (cvs G rest) hA (by omega) (by omega) hL.1 hW0 (fun z => by rw [hf0] at z; cases z) (by rw [cvs_cats]; exact hcat)
  have hst2 : cvs G st = (cvs G As).reverse ++ cvs G rest := by
    rw [hst]
    unfold cvs
    rw [List.map_append, List.map_reverse]
  rw [hst2]
  have hsub := (pre_of hA hW0).1
  refine cal_goX hA hW0 hrun (fun v τ H1 locs1 hq hW1 hk hD1 => ?_) hx
  have q1 := hq1 v τ hq
  have nin : ∀ i, b ≤ i → i < σ.2.2.2.1 → ¬ va_A (wsO G τ0) H.size (G.2.2.2.2.2 i) := fun i hi hi2 z => by
    have hlt : G.2.2.2.2.2 i < H.size := (hW.2.1 i _ (wsO_get hi2)).lt
    rcases z with ⟨j, ee, hj⟩ | z
    · obtain ⟨hj1, hj2⟩ := hg j _ hj
      have := hW.2.2.1.1 j i _ _ hj2 (wsO_get hi2) rfl
      omega
    · omega
  have hg1 : ∀ (i : Nat) (x : Nat × va_E), (wsO G (fm b σ τ))[i]? = some x → (b ≤ i ∧ i < σ.2.2.2.1 ∧ (wsO G σ)[i]? = some x) ∨ (i < b ∧ (wsO G τ)[i]? = some x) := fun i x hx => by
    by_cases hi : i < σ.2.2.2.1
    · rw [wsO_get (σ := fm b σ τ) hi] at hx
      by_cases hib : i < b
      · refine Or.inr ⟨hib, ?_⟩
        rw [wsO_get (by omega), ← hx, fm_lo hib]
      · refine Or.inl ⟨by omega, hi, ?_⟩
        rw [wsO_get hi, ← hx, fm_hi (by omega)]
    · rw [wsO_out (σ := fm b σ τ) (Nat.le_of_not_lt hi)] at hx
      cases hx
  have hWn : WOK G A s H1 locs1 (fm b σ τ) := by
    refine ⟨hW.1, fun i x hx => ?_, ⟨fun i j x z hx hz ee => ?_, fun i x hx => ?_⟩, hW1.2.2.2⟩
    · rcases hg1 i x hx with ⟨hi, hi2, hx2⟩ | ⟨hi, hx2⟩
      · have hat := hW.2.1 i x hx2
        have e0 : x.1 = G.2.2.2.2.2 i := by
          rw [wsO_get hi2] at hx2
          rw [← Option.some.inj hx2]
        exact hat.kept (hk _ hat.lt (by rw [e0]; exact nin i hi hi2))
      · exact hW1.2.1 i x hx2
    · rcases hg1 i x hx with ⟨hi, hi2, hx2⟩ | ⟨hi, hx2⟩ <;> rcases hg1 j z hz with ⟨hj, hj2, hz2⟩ | ⟨hj, hz2⟩
      · exact hW.2.2.1.1 i j x z hx2 hz2 ee
      · exfalso
        have := hD1.2 j z hz2
        rw [← ee] at this
        have e0 : x.1 = G.2.2.2.2.2 i := by
          rw [wsO_get hi2] at hx2
          rw [← Option.some.inj hx2]
        rw [e0] at this
        exact nin i hi hi2 this
      · exfalso
        have := hD1.2 i x hx2
        rw [ee] at this
        have e0 : z.1 = G.2.2.2.2.2 j := by
          rw [wsO_get hj2] at hz2
          rw [← Option.some.inj hz2]
        rw [e0] at this
        exact nin j hj hj2 this
      · exact hD1.1 i j x z hx2 hz2 ee
    · rcases hg1 i x hx with ⟨hi, hi2, hx2⟩ | ⟨hi, hx2⟩
      · exact hW.2.2.1.2 i x hx2
      · exact hsub _ (hD1.2 i x hx2)
  have hv : (v.map (cv G)).toList ++ cvs G rest = cvs G (v.toList ++ rest) := by
    cases v <;> rfl
  rw [hv]
  exact kk v τ hq G p e R s m args below meth c A CE SE Qf hA hC hS hF H1 locs1 (cells + k1) (slots + n1) ls (by omega) (by omega) hL hWn (fun z => by cases z)
/-- an operation of the class's that isn't refused, other places above it -/
theorem x_fV {ix t B : Nat} {ps : List Nat} {As rest : List Value} {st : List Value} {I : Nat → Int → Int} {v : Int} {E : Int → Nat} {r : Int × Int × GS} (hc : ctN (owN y) ix = some (0, t, ps)) (hCT : CT l t (.ref 0 :: As) (mm 181 I v false) 1 6 (QC 181 v E I r)) (hr : r.1 = 0) (ho : owN t = 9) (hb : 181 ≤ σ.2.2.2.1) (hag : ∀ i, i < 181 → I i = σ.1 i ∧ R0 i = σ.2.1 i ∧ K0 i = σ.2.2.1 i) (hst : st = As.reverse ++ .ref 0 :: rest) (hlen : As.length = naN t) (hcat : cats rest ≤ 8) (hh : htN t + 1 ≤ htN y) (hlo : 8 + (mlN t + 11) + loN t ≤ loN y) (hd : decode (cdN y) pc = .ok (.invokevirtual ix, 3))
    (kk : ∀ K, CREL K r.2.2 → Ex l y B (6 * B) (pc + 3) L (.int (iI r.2.1) :: rest) (fm 181 σ (mm 181 K v false)) Q) : Ex l y (B + 1) (6 * (B + 1)) pc L st σ Q := by
  have := x_fcal (k := B) (n := 6 * B) (b := 181) (L := L) (Q := Q) (rest := rest) (As := .ref 0 :: As) (τ0 := mm 181 I v false) (σ := σ) (st := st) (run_V hc hCT (by rw [ho]; exact ko0 (by omega)) hlen hh hlo hd) rfl rfl hb hag (by rw [hst, List.reverse_cons, List.append_assoc]; rfl) hcat (fun E' τ e => by
    rcases e with ⟨-, K, e1, -⟩ | ⟨h0, -⟩
    · cases e1
    · exact h0 hr) (fun v' τ e => by
    rcases e with ⟨-, K, e1, -⟩ | ⟨h0, -⟩
    · cases e1; rfl
    · exact absurd hr h0) (fun v' τ e => by
    rcases e with ⟨-, K, e1, hK, -⟩ | ⟨h0, -⟩
    · cases e1
      exact kk K hK
    · exact absurd hr h0)
  rw [Nat.add_comm 1 B, Nat.add_comm 6 (6 * B)] at this
  exact this
end FCal
