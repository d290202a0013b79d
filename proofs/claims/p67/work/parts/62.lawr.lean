/-! ===== the law's rows ===== -/
theorem lL_mul (a b : Int) : lL a * lL b = lL (a * b) := (Int64.ofInt_mul a b).symm
theorem iI_tmod {a b : Int} (ha : InR a) (hb : 0 < b) (hb2 : b ≤ 2147483647) : iI a - iI a / iI b * iI b = iI (a.tmod b) := by
  have hq : InR (a.tdiv b) := by
    have h1 : (a.tdiv b).natAbs ≤ a.natAbs := by
      rw [Int.natAbs_tdiv]
      exact Nat.div_le_self _ _
    have h2 := ha.1
    have h3 := ha.2
    by_cases e : a = -2147483648 ∧ False
    · exact absurd e.2 id
    · refine ⟨by omega, ?_⟩
      by_cases g : 0 ≤ a
      · omega
      · have : a.tdiv b ≤ 0 := by
          have h9 : 0 ≤ (-a).tdiv b := Int.tdiv_nonneg (by omega) (by omega)
          rw [Int.neg_tdiv] at h9
          omega
        omega
  have h1 : iI a / iI b = iI (a.tdiv b) := by
    rw [← Int32.toInt_inj, Int32.toInt_div_of_ne_right _ _ (fun h => by
      have : (iI b).toInt = (-1 : Int32).toInt := by rw [h]
      rw [iI_toInt ⟨by omega, hb2⟩] at this
      have h9 : (-1 : Int32).toInt = -1 := by decide
      omega), iI_toInt ha, iI_toInt ⟨by omega, hb2⟩, iI_toInt hq]
  rw [h1, iI_mul, iI_sub, Int.tmod_def, Int.mul_comm b]
section LawR
variable {l : LX} {y k n pc B : Nat} {L : LL} {st : List Value} {σ : MM} {Q : OO → Prop} {I : Nat → Int → Int} {v : Int} {S : GS} {as : List Value}
theorem x_lmul {a b : Int} (hd : decode (cdN y) pc = .ok (.lmul, 1)) (kk : Ex l y k n (pc + 1) L (.long (lL (a * b)) :: st) σ Q) : Ex l y k n pc L (.long (lL b) :: .long (lL a) :: st) σ Q :=
  x_go (fun G p e R s m args below meth c Qf H locs cells slots ls hx hb hL hk => lv_lmul hx hb hd (by rw [lL_mul]; exact hk)) kk
theorem x_tmod {a b : Int} (ha : InR a) (hb : 0 < b) (hb2 : b ≤ 2147483647) (hd : decode (cdN y) pc = .ok (.irem, 1)) (kk : Ex l y k n (pc + 1) L (.int (iI (a.tmod b)) :: st) σ Q) : Ex l y k n pc L (.int (iI b) :: .int (iI a) :: st) σ Q :=
  x_go (fun G p e R s m args below meth c Qf H locs cells slots ls hx hb9 hL hk => lv_irem hx hb9 hd (iI_ne0 hb hb2) (by rw [iI_tmod ha hb hb2]; exact hk)) kk
/-- room for more than is used -/
theorem ex_le {B' : Nat} (hB : B' ≤ B) (hf : σ.2.2.2.2.2 = false) (h : Ex l y B' (6 * B') pc L st σ Q) : Ex l y B (6 * B) pc L st σ Q := x_less hB (by omega) hf h
theorem qa {t : Nat} {z : Int} {E : Int → Nat} (h : CT l t as (mm 181 I v false) 1 6 (QC 181 v E I (0, z, S))) : CT l t as (mm 181 I v false) 1 6 (oE 181 v false (some (.int (iI z))) (fun K => CREL K S)) := ct_mono h fun o ho => by
  rcases ho with ⟨-, K, rfl, hK, -⟩ | ⟨h0, -⟩
  · exact ⟨K, rfl, hK⟩
  · exact absurd rfl h0
theorem qb {t : Nat} {z : Int} {c : Bool} {E : Int → Nat} (hc : c = true) (h : CT l t as (mm 181 I v false) 1 6 (QC 181 v E I (oAsk S c z))) : CT l t as (mm 181 I v false) 1 6 (oE 181 v false (some (.int (iI z))) (fun K => CREL K S)) := by
  subst hc
  exact qa h
theorem qc {t : Nat} {z : Int} {c d : Bool} {E : Int → Nat} (hc : c = true) (hd : d = true) (h : CT l t as (mm 181 I v false) 1 6 (QC 181 v E I (oAsk2 S c d z))) : CT l t as (mm 181 I v false) 1 6 (oE 181 v false (some (.int (iI z))) (fun K => CREL K S)) := by
  subst hc hd
  exact qa h
theorem dT {c : Prop} [Decidable c] (h : c) : decide c = true := decide_eq_true h
theorem isF_t {f : Int} (h0 : 0 ≤ f) (h1 : f < gA S 0 6) : isF S f = true := dT ⟨h0, h1⟩
theorem isM_t {f : Int} (h0 : 0 ≤ f) (h1 : f < gA S 0 5) : isM S f = true := dT ⟨h0, h1⟩
theorem isT_t {t : Int} (h0 : 0 ≤ t) (h1 : t ≤ 999999) : isT t = true := dT ⟨h0, h1⟩
/-- a question of the law's -/
theorem x_qVs {ix t a : Nat} {ps : List Nat} {As rest : List Value} {w : Value} {P : (Nat → Int → Int) → Prop} (hc : ctN (owN y) ix = some (0, t, ps)) (hCT : CT l t (.ref a :: As) (mm 181 I v false) 1 6 (oE 181 v false (some w) P)) (ho : isO (mm 181 I v false) a (owN t)) (hst : st = As.reverse ++ .ref a :: rest) (hlen : As.length = naN t) (hcat : cats rest ≤ 8) (hh : htN t + 1 ≤ htN y) (hlo : 8 + (mlN t + 11) + loN t ≤ loN y) (hd : decode (cdN y) pc = .ok (.invokevirtual ix, 3))
    (kk : ∀ J, P J → Ex l y B (6 * B) (pc + 3) L (w :: rest) (mm 181 J v false) Q) : Ex l y (B + 1) (6 * (B + 1)) pc L st (mm 181 I v false) Q := by
  have := x_callV (k := B) (n := 6 * B) hc hCT ho hst hlen hcat hh hlo hd (Or.inr fun v' τ' e => by obtain ⟨J, e1, -⟩ := e; cases e1; rfl) (fun v' τ' e => by
    obtain ⟨J, e1, hJ⟩ := e
    cases e1
    exact kk J hJ) (fun E τ' e _ => by obtain ⟨J, e1, -⟩ := e; cases e1)
  rw [Nat.add_comm 1 B, Nat.add_comm 6 (6 * B)] at this
  exact this
/-- a method of the law's own -/
theorem x_qS {ix t B0 : Nat} {ps : List Nat} {As rest : List Value} {w : Option Value} {P : (Nat → Int → Int) → Prop} (hc : ctN (owN y) ix = some (1, t, ps)) (hCT : CT l t As (mm 181 I v false) B0 (6 * B0) (oE 181 v false w P)) (hst : st = As.reverse ++ rest) (hlen : As.length = naN t) (hcat : cats rest ≤ 8) (hh : htN t + 1 ≤ htN y) (hlo : 8 + (mlN t + 11) + loN t ≤ loN y) (hd : decode (cdN y) pc = .ok (.invokestatic ix, 3))
    (kk : ∀ J, P J → Ex l y B (6 * B) (pc + 3) L (w.toList ++ rest) (mm 181 J v false) Q) : Ex l y (B + B0) (6 * (B + B0)) pc L st (mm 181 I v false) Q := by
  have := x_callS2 (k := B) (n := 6 * B) hc hCT hst hlen hcat hh hlo hd (Or.inr fun v' τ' e => by obtain ⟨J, e1, -⟩ := e; cases e1; rfl) (fun v' τ' e => by
    obtain ⟨J, e1, hJ⟩ := e
    cases e1
    exact kk J hJ) (fun E τ' e _ => by obtain ⟨J, e1, -⟩ := e; cases e1)
  rw [Nat.add_comm B0 B, show 6 * B0 + 6 * B = 6 * (B + B0) from by omega] at this
  exact this
theorem x_qSs {ix t B0 : Nat} {ps : List Nat} {As rest : List Value} {w : Value} {P : (Nat → Int → Int) → Prop} (hc : ctN (owN y) ix = some (1, t, ps)) (hCT : CT l t As (mm 181 I v false) B0 (6 * B0) (oE 181 v false (some w) P)) (hst : st = As.reverse ++ rest) (hlen : As.length = naN t) (hcat : cats rest ≤ 8) (hh : htN t + 1 ≤ htN y) (hlo : 8 + (mlN t + 11) + loN t ≤ loN y) (hd : decode (cdN y) pc = .ok (.invokestatic ix, 3))
    (kk : ∀ J, P J → Ex l y B (6 * B) (pc + 3) L (w :: rest) (mm 181 J v false) Q) : Ex l y (B + B0) (6 * (B + B0)) pc L st (mm 181 I v false) Q := x_qS hc hCT hst hlen hcat hh hlo hd kk
end LawR
