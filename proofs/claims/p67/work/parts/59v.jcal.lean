/-! ===== calls within the library; calls over a part of the places ===== -/
section JCal
variable {l : LX} {y k n pc : Nat} {L : LL} {σ : MM} {Q : OO → Prop}
theorem run_V {ix t a k1 n1 : Nat} {ps : List Nat} {As : List Value} {Q1 : OO → Prop} (hc : ctN (owN y) ix = some (0, t, ps)) (hCT : CT l t (.ref a :: As) σ k1 n1 Q1) (ho : isO σ a (owN t)) (hlen : As.length = naN t) (hh : htN t + 1 ≤ htN y) (hlo : 8 + (mlN t + 11) + loN t ≤ loN y) (hd : decode (cdN y) pc = .ok (.invokevirtual ix, 3)) :
    ∀ (G : GG) (p : Program) (e : Env) (R : Room) (s : State) (m : MethodId) (args : Array Value) (below : List Frame) (meth : Method) (c : Code) (A : Nat → Prop) (H : Heap) (locs : List Loc) (cells slots : Nat) (ls : Array Slot) (rs : List Value), AMB l y G p R s m args meth c A → cells + k1 ≤ R.cells → slots + n1 ≤ R.slots → ls.size = mlN y → WOK G A s H locs σ → (σ.2.2.2.2.2 = true → H.size = G.2.2.2.2.2 σ.2.2.2.1 ∧ CS G σ.2.2.2.1) → (rs.map fun v => v.category).sum ≤ 8 →
      vx_Run p l.1 e R s m args below meth c H locs cells slots k1 n1 (F0 m pc ls ((cvs G (.ref a :: As)).reverse ++ rs)) rs (QW G σ H.size k1 Q1 (cvs G (.ref a :: As)).toArray) (XW G σ H.size k1 Q1) (va_A (wsO G σ) H.size) := by
  intro G p e R s m args below meth c A H locs cells slots ls rs hA h1 h2 hL hW hsz hcat
  have ht := ctm hc
  obtain ⟨hw, hb9⟩ := ctIn hc
  simp only [ctB, Bool.and_eq_true, decide_eq_true_eq] at hb9
  obtain ⟨-, hh0, ho11⟩ := hb9
  have hts := hA.2.2.2.2.2.2.2.2.1
  have hST := hA.2.2.2.2.2.2.2.2.2.2.2.2.2
  have hpre := (pre_of hA hW).2 (cvs G (.ref a :: As))
  have hcl : (ynN t).cls = clsN (owN t) := mtCls (by omega)
  have hno := mtNo (y := t) (by omega)
  have ha : adr G a = G.2.2.2.2.2 a := adr_lt (Nat.lt_of_lt_of_le ho.1 hW.1)
  have hrec := va_recv hST.1 hW.2.1 (vwOk ho11) (by rw [wsO_get ho.1, cell_O ho.2])
  have e1 : cvs G (.ref a :: As) = .ref (G.2.2.2.2.2 a) :: cvs G As := by
    show Value.ref (adr G a) :: cvs G As = _
    rw [ha]
  have hM := hCT G H.size hsz hA.1.2
  rw [e1] at hM hpre ⊢
  refine vx_runV (Ts := cdW t :: T0) (own := clsN (owN y)) (C := clsN (owN t)) (cc := cdN y) (nL := mlN y) (y := ynN t) (bytes := cdN t) (maxL := mlN t) (ret := rtN t) (ws := cdW t :: T0) (index := ix) (n := naN t) (b := G.2.2.2.2.2 a) (As := cvs G As) ⟨hA.2.1, hA.2.2.1, hA.2.2.2.1, hA.2.2.2.2.2.1, ?_⟩ hM ?_ ⟨hpre.1, hrec, hpre.2⟩ rfl (by unfold cvs; rw [List.length_map]; exact hlen) hL ?_ ?_ hd ⟨h1, h2⟩
  · intro w hw2
    rcases List.mem_cons.mp hw2 with rfl | h
    · exact hts _ (cpOk ht)
    · exact hts w h
  · refine cwV (naN t) (Ts := T0) (ws' := T0) hts (fun w hw2 => ?_) (by rw [cdW_plain hh0]) rfl rfl ⟨hcl, hno.1, hno.2, mtPar (by omega)⟩ ⟨by rw [hA.2.2.2.2.2.2.2.2.2.2.1]; exact hh, by rw [hA.2.2.2.2.2.2.2.2.2.2.2.1]; exact hlo⟩
    refine T0_good w ?_
    rcases List.mem_append.mp hw2 with h | h
    · rw [← hcl] at h
      simp only [List.mem_cons, List.not_mem_nil, or_false] at h
      rcases h with rfl | rfl | rfl | rfl <;> exact tw (hw _ (by simp [ctW])) rfl
    · rcases List.mem_cons.mp h with rfl | h
      · exact cpOk ht
      · exact h
  · show (Value.ref (G.2.2.2.2.2 a) :: cvs G As).reverse ++ rs = (cvs G As).reverse ++ .ref (G.2.2.2.2.2 a) :: rs
    rw [List.reverse_cons, List.append_assoc]
    rfl
  · show 2 * 0 + (rs.map fun v => v.category).sum ≤ 8
    omega
theorem run_I {ix t a k1 n1 : Nat} {ps : List Nat} {As : List Value} {Q1 : OO → Prop} (hc : ctN (owN y) ix = some (2, t, ps)) (hCT : CT l t (.ref a :: As) σ k1 n1 Q1) (hlt : a < scr) (hlen : As.length = naN t) (hh : htN t + 1 ≤ htN y) (hlo : 8 + (mlN t + 11) + loN t ≤ loN y) (hd : decode (cdN y) pc = .ok (.invokespecial ix, 3)) :
    ∀ (G : GG) (p : Program) (e : Env) (R : Room) (s : State) (m : MethodId) (args : Array Value) (below : List Frame) (meth : Method) (c : Code) (A : Nat → Prop) (H : Heap) (locs : List Loc) (cells slots : Nat) (ls : Array Slot) (rs : List Value), AMB l y G p R s m args meth c A → cells + k1 ≤ R.cells → slots + n1 ≤ R.slots → ls.size = mlN y → WOK G A s H locs σ → (σ.2.2.2.2.2 = true → H.size = G.2.2.2.2.2 σ.2.2.2.1 ∧ CS G σ.2.2.2.1) → (rs.map fun v => v.category).sum ≤ 8 →
      vx_Run p l.1 e R s m args below meth c H locs cells slots k1 n1 (F0 m pc ls ((cvs G (.ref a :: As)).reverse ++ rs)) rs (QW G σ H.size k1 Q1 (cvs G (.ref a :: As)).toArray) (XW G σ H.size k1 Q1) (va_A (wsO G σ) H.size) := by
  intro G p e R s m args below meth c A H locs cells slots ls rs hA h1 h2 hL hW hsz hcat
  have ht := ctm hc
  obtain ⟨hw, hb9⟩ := ctIn hc
  simp only [ctB, Bool.and_eq_true, decide_eq_true_eq] at hb9
  obtain ⟨-, ⟨hh0, hnm⟩, hrt⟩ := hb9
  have hts := hA.2.2.2.2.2.2.2.2.1
  have hpre := (pre_of hA hW).2 (cvs G (.ref a :: As))
  have hno := mtNo (y := t) (by omega)
  have ha : adr G a = G.2.2.2.2.2 a := adr_lt hlt
  have e1 : cvs G (.ref a :: As) = .ref (G.2.2.2.2.2 a) :: cvs G As := by
    show Value.ref (adr G a) :: cvs G As = _
    rw [ha]
  have hM := hCT G H.size hsz hA.1.2
  rw [e1] at hM hpre ⊢
  refine vx_runI (Ts := cdW t :: T0) (own := clsN (owN y)) (cc := cdN y) (nL := mlN y) (y := ynN t) (bytes := cdN t) (maxL := mlN t) (ws := cdW t :: T0) (index := ix) (n := naN t) (b := G.2.2.2.2.2 a) (As := cvs G As) ⟨hA.2.1, hA.2.2.1, hA.2.2.2.1, hA.2.2.2.2.2.1, ?_⟩ hM ?_ hpre rfl (by unfold cvs; rw [List.length_map]; exact hlen) hL ?_ ?_ hd ⟨h1, h2⟩
  · intro w hw2
    rcases List.mem_cons.mp hw2 with rfl | h
    · exact hts _ (cpOk ht)
    · exact hts w h
  · refine cwI (naN t) (Ts := T0) (ws' := T0) hts (fun w hw2 => T0_good w ?_) (by rw [cdW_plain hh0, hrt]) rfl rfl (hts _ (tw (hw _ (by simp [ctW])) rfl)) (hts _ (tw (hw _ (by simp [ctW])) rfl)) (hts _ (tw (hw _ (by simp [ctW])) rfl)) hnm ⟨hno.1, hno.2, mtPar (by omega)⟩ ⟨by rw [hA.2.2.2.2.2.2.2.2.2.2.1]; exact hh, by rw [hA.2.2.2.2.2.2.2.2.2.2.2.1]; exact hlo⟩
    rcases List.mem_cons.mp hw2 with rfl | h
    · exact cpOk ht
    · exact h
  · show (Value.ref (G.2.2.2.2.2 a) :: cvs G As).reverse ++ rs = (cvs G As).reverse ++ .ref (G.2.2.2.2.2 a) :: rs
    rw [List.reverse_cons, List.append_assoc]
    rfl
  · show 2 * 0 + (rs.map fun v => v.category).sum ≤ 8
    omega
/-- another class's static method -/
theorem x_callS2 {ix t k1 n1 : Nat} {ps : List Nat} {As rest : List Value} {st : List Value} {Q1 : OO → Prop} (hc : ctN (owN y) ix = some (1, t, ps)) (hCT : CT l t As σ k1 n1 Q1) (hst : st = As.reverse ++ rest) (hlen : As.length = naN t) (hcat : cats rest ≤ 8) (hh : htN t + 1 ≤ htN y) (hlo : 8 + (mlN t + 11) + loN t ≤ loN y) (hd : decode (cdN y) pc = .ok (.invokestatic ix, 3))
    (hu : σ.2.2.2.2.2 = true ∨ ∀ (v : Option Value) (τ : MM), Q1 (.inl v, τ) → τ.2.2.2.2.2 = false) (kk : ∀ (v : Option Value) (τ : MM), Q1 (.inl v, τ) → Ex l y k n (pc + 3) L (v.toList ++ rest) τ Q) (kx : ∀ (E : Nat) (τ : MM), Q1 (.inr E, τ) → τ.2.2.2.2.2 = false → XH l y k n pc L Q E τ) : Ex l y (k1 + k) (n1 + n) pc L st σ Q := by
  have ht := ctm hc
  obtain ⟨hw, hb9⟩ := ctIn hc
  simp only [ctB, Bool.and_eq_true, decide_eq_true_eq] at hb9
  obtain ⟨-, hh0⟩ := hb9
  refine x_call (rest := rest) (As := As) (Q1 := Q1) (fun G p e R s m args below meth c A H locs cells slots ls hA h1 h2 hL hW hsz => ?_) hu kk kx
  have hts := hA.2.2.2.2.2.2.2.2.1
  have hpre := (pre_of hA hW).2 (cvs G As)
  have hno := mtNo (y := t) (by omega)
  have hM := hCT G H.size hsz hA.1.2
  refine vx_runS (Ts := cdW t :: T0) (own := clsN (owN y)) (cc := cdN y) (nL := mlN y) (y := ynN t) (bytes := cdN t) (maxL := mlN t) (ret := rtN t) (ws := cdW t :: T0) (index := ix) (n := naN t) (As := cvs G As) ⟨hA.2.1, hA.2.2.1, hA.2.2.2.1, hA.2.2.2.2.2.1, ?_⟩ hM ?_ hpre rfl (by unfold cvs; rw [List.length_map]; exact hlen) hL.1 ?_ ?_ hd ⟨h1, h2⟩
  · intro w hw2
    rcases List.mem_cons.mp hw2 with rfl | h
    · exact hts _ (cpOk ht)
    · exact hts w h
  · refine va_cwS (naN t) (Ts := T0) (ws' := T0) hts (fun w hw2 => ?_) (by rw [cdW_plain hh0]) rfl rfl ⟨hno.1, hno.2, mtPar (by omega)⟩ ⟨by rw [hA.2.2.2.2.2.2.2.2.2.2.1]; exact hh, by rw [hA.2.2.2.2.2.2.2.2.2.2.2.1]; exact hlo⟩
    refine T0_good w ?_
    rcases List.mem_append.mp hw2 with h | h
    · simp only [List.mem_cons, List.not_mem_nil, or_false] at h
      rcases h with rfl | rfl | rfl <;> exact tw (hw _ (by simp [ctW])) rfl
    · rcases List.mem_cons.mp h with rfl | h
      · exact cpOk ht
      · exact h
  · rw [hst]
    show (As.reverse ++ rest).map (cv G) = _
    rw [List.map_append, List.map_reverse]
    rfl
  · show 2 * 0 + ((cvs G rest).map fun v => v.category).sum ≤ 8
    rw [cvs_cats]
    omega
/-! a superclass's methods, on a StringBuilder -/
theorem jSel : Cond.selects RJ4 (ynX 160) (ynN 160) ∈ T0 := inT_any (by decide +kernel)
theorem jIns : Cond.instantiable RJ4 4 ∈ T0 := inT_any (by decide +kernel)
theorem jIni : Cond.initialized RJ5 ∈ T0 := inT_any (by decide +kernel)
theorem jIni4 : Cond.initialized RJ4 ∈ T0 := inT_any (by decide +kernel)
theorem selP {y : MethodName} {s : State} {args : Array Value} (hts : ∀ w ∈ T0, w.before args s = true) (hy : y.cls = RJ5) (hpriv : (Cond.privateMethod y).before args s = true) (hinst : (Cond.instanceMethod y).before args s = true) : (Cond.selects RJ4 y y).before args s = true := by
  obtain ⟨c2, r2, m2, q1, q2, q3, q4, kP, hkP, hkPi⟩ := Cond.selects_spec (hts _ jSel)
  obtain ⟨mk, methM, hnamed, hmethM, -, -⟩ := Cond.instanceMethod_spec hinst
  have hfound : s.methodFound? y.cls y.name y.desc = some mk := State.methodFound?_of_named hnamed (by rw [hy]; exact ⟨by decide, by decide⟩)
  have e1 : s.vm.findClass RJ5 = some m2.cls := findClass_of_methodNamed q3
  have e2 : s.vm.findClass y.cls = some mk.cls := findClass_of_methodNamed hnamed
  have hcls : mk.cls = m2.cls := by
    rw [hy] at e2
    exact Option.some.inj (e2.symm.trans e1)
  have hsel : selectMethod {} s.vm c2 mk = .method mk := selectMethod_private hmethM (Cond.privateMethod_at hpriv mk methM hnamed hmethM)
  simp only [Cond.before, Cond.holds, Cond.value, q1, hfound, hnamed, hsel, hcls, hkP]
  simp
  exact hkPi
/-- the run of such a call -/
theorem run_U {x : MethodName} {ix t a k1 n1 : Nat} {As rest st : List Value} {Q1 : OO → Prop} (ht : t < 332) (hh0 : hhN t = []) (hlk : Cond.methodLink (clsN (owN y)) ix x ∈ T0) (hsm : Cond.sameMethod x.cls RJ5 x.name x.desc ∈ T0) (hdc : ∀ (args : Array Value) (s : State), (∀ w ∈ T0, w.before args s = true) → va_Decl s ⟨RJ5, x.name, x.desc⟩) (hse : ∀ (args : Array Value) (s : State), (∀ w ∈ T0, w.before args s = true) → (∀ w ∈ faL, w.before args s = true) → (Cond.selects RJ4 x (ynN t)).before args s = true) (hin : Cond.instanceMethod (ynN t) ∈ T0) (hini : Cond.initialized (ynN t).cls ∈ T0) (hxn : (parseMethodDescriptor x.desc).map (fun d => d.parameters.length) = some (naN t))
    (hCT : CT l t (.ref a :: As) σ k1 n1 Q1) (ho : isO σ a 15) (hst : st = As.reverse ++ .ref a :: rest) (hlen : As.length = naN t) (hcat : cats rest ≤ 8) (hh : htN t + 1 ≤ htN y) (hlo : 8 + (mlN t + 11) + loN t ≤ loN y) (hd : decode (cdN y) pc = .ok (.invokevirtual ix, 3))
    (hu : σ.2.2.2.2.2 = true ∨ ∀ (v : Option Value) (τ : MM), Q1 (.inl v, τ) → τ.2.2.2.2.2 = false) (kk : ∀ (v : Option Value) (τ : MM), Q1 (.inl v, τ) → Ex l y k n (pc + 3) L (v.toList ++ rest) τ Q) (kx : ∀ (E : Nat) (τ : MM), Q1 (.inr E, τ) → τ.2.2.2.2.2 = false → XH l y k n pc L Q E τ) : Ex l y (k1 + k) (n1 + n) pc L st σ Q := by
  refine x_call (rest := rest) (As := .ref a :: As) (Q1 := Q1) (fun G p e R s m args below meth c A H locs cells slots ls hA h1 h2 hL hW hsz => ?_) hu kk kx
  have hts := hA.2.2.2.2.2.2.2.2.1
  have hST := hA.2.2.2.2.2.2.2.2.2.2.2.2.2
  have hpre := (pre_of hA hW).2 (cvs G (.ref a :: As))
  have ha : adr G a = G.2.2.2.2.2 a := adr_lt (Nat.lt_of_lt_of_le ho.1 hW.1)
  have hrec := va_recv hST.1 hW.2.1 (vwOk (c := 15) rfl) (by rw [wsO_get ho.1, cell_O ho.2])
  have e1 : cvs G (.ref a :: As) = .ref (G.2.2.2.2.2 a) :: cvs G As := by
    show Value.ref (adr G a) :: cvs G As = _
    rw [ha]
  have hM := hCT G H.size hsz hA.1.2
  rw [e1] at hM hpre ⊢
  have hcd : Cond.code (ynN t) (cdN t) (mlN t) (rtN t) ∈ T0 := by rw [← cdW_plain hh0]; exact cpOk ht
  have htc : ∀ w ∈ cdW t :: T0, w ∈ T0 := fun w hw2 => by
    rcases List.mem_cons.mp hw2 with rfl | h
    · exact cpOk ht
    · exact h
  refine vx_runU (Ts := cdW t :: T0) (own := clsN (owN y)) (C := RJ4) (owner := RJ5) (x := x) (cc := cdN y) (nL := mlN y) (y := ynN t) (bytes := cdN t) (maxL := mlN t) (ret := rtN t) (ws := cdW t :: T0) (index := ix) (n := naN t) (b := G.2.2.2.2.2 a) (As := cvs G As) ⟨hA.2.1, hA.2.2.1, hA.2.2.2.1, hA.2.2.2.2.2.1, fun w hw => hts w (htc w hw)⟩ hM
    ⟨rfl, rfl, by rw [hA.2.2.2.2.2.2.2.2.2.2.1]; exact hh, by rw [hA.2.2.2.2.2.2.2.2.2.2.2.1]; exact hlo, pay_in hts (fun w hw => T0_good w (htc w hw)), by rw [cdW_plain hh0]; exact List.mem_cons_self⟩ (hts _ hcd) (hts _ hini) ⟨hpre.1, hrec, hpre.2⟩ (hts _ hlk) (hts _ hsm) (hdc args s hts) ⟨by decide, by decide⟩ (hse args s hts fun w hw => by
      have h7 := (List.mem_filter.mp hw).2
      simp only [Bool.and_eq_true] at h7
      exact va_Nw.use h7.2 (hST.2.2.2.2.2.2.2.2.1 w hw)) (hts _ hin) (fun sig h => by
      rw [h] at hxn
      exact (Option.some.inj hxn).symm) rfl (by unfold cvs; rw [List.length_map]; exact hlen) hL.1 ?_ ?_ hd ⟨h1, h2⟩
  · rw [hst]
    show (As.reverse ++ Value.ref a :: rest).map (cv G) = _
    rw [List.map_append, List.map_reverse]
    show _ ++ Value.ref (adr G a) :: _ = _
    rw [ha]
    rfl
  · show 2 * 0 + ((cvs G rest).map fun v => v.category).sum ≤ 8
    rw [cvs_cats]
    omega
/-- a private method of the superclass -/
theorem x_callP {ix t a k1 n1 : Nat} {ps : List Nat} {As rest st : List Value} {Q1 : OO → Prop} (hc : ctN (owN y) ix = some (14, t, ps)) (hcl : (ynN t).cls = RJ5) (hCT : CT l t (.ref a :: As) σ k1 n1 Q1) (ho : isO σ a 15) (hst : st = As.reverse ++ .ref a :: rest) (hlen : As.length = naN t) (hcat : cats rest ≤ 8) (hh : htN t + 1 ≤ htN y) (hlo : 8 + (mlN t + 11) + loN t ≤ loN y) (hd : decode (cdN y) pc = .ok (.invokevirtual ix, 3))
    (hu : σ.2.2.2.2.2 = true ∨ ∀ (v : Option Value) (τ : MM), Q1 (.inl v, τ) → τ.2.2.2.2.2 = false) (kk : ∀ (v : Option Value) (τ : MM), Q1 (.inl v, τ) → Ex l y k n (pc + 3) L (v.toList ++ rest) τ Q) (kx : ∀ (E : Nat) (τ : MM), Q1 (.inr E, τ) → τ.2.2.2.2.2 = false → XH l y k n pc L Q E τ) : Ex l y (k1 + k) (n1 + n) pc L st σ Q := by
  have ht := ctm hc
  obtain ⟨hw, hb9⟩ := ctIn hc
  simp only [ctB, Bool.and_eq_true, decide_eq_true_eq] at hb9
  have w1 := tw (hw (.methodLink (clsN (owN y)) ix (ynN t)) (by simp [ctW])) rfl
  have w2 := tw (hw (.sameMethod (ynN t).cls (ynN t).cls (ynN t).name (ynN t).desc) (by simp [ctW])) rfl
  have w3 : Cond.privateMethod (ynN t) ∈ faL := List.mem_filter.mpr ⟨hw (.privateMethod (ynN t)) (by simp [ctW]), rfl⟩
  have w4 := tw (hw (.instanceMethod (ynN t)) (by simp [ctW])) rfl
  have hcd : Cond.code (ynN t) (cdN t) (mlN t) (rtN t) ∈ T0 := by rw [← cdW_plain hb9.2]; exact cpOk ht
  refine run_U (x := ynN t) ht hb9.2 w1 (by rw [hcl] at w2 ⊢; exact w2) (fun args s hts => ?_) (fun args s hts hfa => selP hts hcl (hfa _ w3) (hts _ w4)) w4 (by rw [hcl]; exact jIni) (mtPar (by omega)) hCT ho hst hlen hcat hh hlo hd hu kk kx
  rw [← hcl]
  exact va_Decl.of (hts _ w4) (hts _ hcd)
/-- a method that StringBuilder inherits, or has of its own, called by the superclass's name; u: the superclass's own -/
theorem x_callU {ix t u a k1 n1 : Nat} {ps : List Nat} {As rest st : List Value} {Q1 : OO → Prop} (hc : ctN (owN y) ix = some (15, t, ps)) (hu9 : u < 332) (hux : ynN u = ynX t) (hui : Cond.instanceMethod (ynN u) ∈ T0) (huh : hhN u = []) (hini : Cond.initialized (ynN t).cls ∈ T0) (hCT : CT l t (.ref a :: As) σ k1 n1 Q1) (ho : isO σ a 15) (hst : st = As.reverse ++ .ref a :: rest) (hlen : As.length = naN t) (hcat : cats rest ≤ 8) (hh : htN t + 1 ≤ htN y) (hlo : 8 + (mlN t + 11) + loN t ≤ loN y) (hd : decode (cdN y) pc = .ok (.invokevirtual ix, 3))
    (hu : σ.2.2.2.2.2 = true ∨ ∀ (v : Option Value) (τ : MM), Q1 (.inl v, τ) → τ.2.2.2.2.2 = false) (kk : ∀ (v : Option Value) (τ : MM), Q1 (.inl v, τ) → Ex l y k n (pc + 3) L (v.toList ++ rest) τ Q) (kx : ∀ (E : Nat) (τ : MM), Q1 (.inr E, τ) → τ.2.2.2.2.2 = false → XH l y k n pc L Q E τ) : Ex l y (k1 + k) (n1 + n) pc L st σ Q := by
  have ht := ctm hc
  obtain ⟨hw, hb9⟩ := ctIn hc
  simp only [ctB, Bool.and_eq_true, decide_eq_true_eq] at hb9
  have w1 := tw (hw (.methodLink (clsN (owN y)) ix (ynX t)) (by simp [ctW])) rfl
  have w2 := tw (hw (.sameMethod RJ5 RJ5 (ynX t).name (ynX t).desc) (by simp [ctW])) rfl
  have w3 := tw (hw (.selects RJ4 (ynX t) (ynN t)) (by simp [ctW])) rfl
  have w4 := tw (hw (.instanceMethod (ynN t)) (by simp [ctW])) rfl
  have hcd : Cond.code (ynN u) (cdN u) (mlN u) (rtN u) ∈ T0 := by rw [← cdW_plain huh]; exact cpOk hu9
  refine run_U (x := ynX t) ht hb9.2 w1 w2 (fun args s hts => ?_) (fun args s hts _ => hts _ w3) w4 hini (mtPar (y := t) (by omega)) hCT ho hst hlen hcat hh hlo hd hu kk kx
  have := va_Decl.of (hts _ hui) (hts _ hcd)
  rw [hux] at this
  exact this
/-- super.m(..) -/
theorem x_callSU {ix t a k1 n1 : Nat} {ps : List Nat} {As rest st : List Value} {Q1 : OO → Prop} (hc : ctN (owN y) ix = some (13, t, ps)) (hown : owN y = 15) (hcl : (ynN t).cls = RJ5) (hCT : CT l t (.ref a :: As) σ k1 n1 Q1) (ho : isO σ a 15) (hst : st = As.reverse ++ .ref a :: rest) (hlen : As.length = naN t) (hcat : cats rest ≤ 8) (hh : htN t + 1 ≤ htN y) (hlo : 8 + (mlN t + 11) + loN t ≤ loN y) (hd : decode (cdN y) pc = .ok (.invokespecial ix, 3))
    (hu : σ.2.2.2.2.2 = true ∨ ∀ (v : Option Value) (τ : MM), Q1 (.inl v, τ) → τ.2.2.2.2.2 = false) (kk : ∀ (v : Option Value) (τ : MM), Q1 (.inl v, τ) → Ex l y k n (pc + 3) L (v.toList ++ rest) τ Q) (kx : ∀ (E : Nat) (τ : MM), Q1 (.inr E, τ) → τ.2.2.2.2.2 = false → XH l y k n pc L Q E τ) : Ex l y (k1 + k) (n1 + n) pc L st σ Q := by
  have ht := ctm hc
  obtain ⟨hw, hb9⟩ := ctIn hc
  simp only [ctB, Bool.and_eq_true, decide_eq_true_eq] at hb9
  obtain ⟨-, hh0, hno⟩ := hb9
  have w1 := tw (hw (.methodLink (clsN (owN y)) ix (ynN t)) (by simp [ctW])) rfl
  have w2 := tw (hw (.sameMethod (ynN t).cls (ynN t).cls (ynN t).name (ynN t).desc) (by simp [ctW])) rfl
  have w3 := tw (hw (.superclass RJ4 RJ5) (by simp [ctW])) rfl
  have w4 := tw (hw (.instanceMethod (ynN t)) (by simp [ctW])) rfl
  have hcd : Cond.code (ynN t) (cdN t) (mlN t) (rtN t) ∈ T0 := by rw [← cdW_plain hh0]; exact cpOk ht
  have hxn := mtPar (y := t) (by omega)
  refine x_call (rest := rest) (As := .ref a :: As) (Q1 := Q1) (fun G p e R s m args below meth c A H locs cells slots ls hA h1 h2 hL hW hsz => ?_) hu kk kx
  have hts := hA.2.2.2.2.2.2.2.2.1
  have hST := hA.2.2.2.2.2.2.2.2.2.2.2.2.2
  have hpre := (pre_of hA hW).2 (cvs G (.ref a :: As))
  have ha : adr G a = G.2.2.2.2.2 a := adr_lt (Nat.lt_of_lt_of_le ho.1 hW.1)
  have hrec := va_recv hST.1 hW.2.1 (vwOk (c := 15) rfl) (by rw [wsO_get ho.1, cell_O ho.2])
  have e1 : cvs G (.ref a :: As) = .ref (G.2.2.2.2.2 a) :: cvs G As := by
    show Value.ref (adr G a) :: cvs G As = _
    rw [ha]
  have hM := hCT G H.size hsz hA.1.2
  rw [e1] at hM hpre ⊢
  have htc : ∀ w ∈ cdW t :: T0, w ∈ T0 := fun w hw2 => by
    rcases List.mem_cons.mp hw2 with rfl | h
    · exact cpOk ht
    · exact h
  obtain ⟨cI, kI, hcI, hkI, -⟩ := Cond.instantiable_spec (hts _ jIns)
  refine vx_runSU (Ts := cdW t :: T0) (own := clsN (owN y)) (C := RJ4) (cc := cdN y) (nL := mlN y) (y := ynN t) (bytes := cdN t) (maxL := mlN t) (ret := rtN t) (ws := cdW t :: T0) (index := ix) (n := naN t) (b := G.2.2.2.2.2 a) (As := cvs G As) ⟨hA.2.1, hA.2.2.1, hA.2.2.2.1, hA.2.2.2.2.2.1, fun w hw => hts w (htc w hw)⟩ hM
    ⟨rfl, rfl, by rw [hA.2.2.2.2.2.2.2.2.2.2.1]; exact hh, by rw [hA.2.2.2.2.2.2.2.2.2.2.2.1]; exact hlo, pay_in hts (fun w hw => T0_good w (htc w hw)), by rw [cdW_plain hh0]; exact List.mem_cons_self⟩ (hts _ hcd) (by rw [hcl]; exact hts _ jIni) ⟨hpre.1, hrec, hpre.2⟩ ⟨cI, kI, hcI, hkI⟩ (hts _ w1) (hts _ w2) (by rw [hown, hcl]; exact hts _ w3) (hts _ w4) hno (fun sig h => by
      rw [h] at hxn
      exact (Option.some.inj hxn).symm) rfl (by unfold cvs; rw [List.length_map]; exact hlen) hL.1 ?_ ?_ hd ⟨h1, h2⟩
  · rw [hst]
    show (As.reverse ++ Value.ref a :: rest).map (cv G) = _
    rw [List.map_append, List.map_reverse]
    show _ ++ Value.ref (adr G a) :: _ = _
    rw [ha]
    rfl
  · show 2 * 0 + ((cvs G rest).map fun v => v.category).sum ≤ 8
    rw [cvs_cats]
    omega
end JCal
