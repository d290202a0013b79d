/-! ===== calls of the world's own methods ===== -/
theorem exLk0 : exL.all (fun e => lw_tbl.any (fun v => decide (v = .classLink (clsN e.1.1) e.1.2 (exc e.2))) && decide (e.2 < 3) && decide (¬ e.1.2 = 0)) = true := by decide +kernel
theorem exLk {o i e : Nat} (h : exN o i = some e) : Cond.classLink (clsN o) i (exc e) ∈ T0 ∧ e < 3 ∧ ¬ i = 0 := by
  unfold exN at h
  cases hf : exL.find? (fun e => e.1.1 == o && e.1.2 == i) with
  | none => rw [hf] at h; cases h
  | some f =>
    rw [hf] at h
    have h2 : f.2 = e := Option.some.inj h
    have h3 := List.find?_some hf
    simp only [Bool.and_eq_true, beq_iff_eq] at h3
    have h4 := List.all_eq_true.mp exLk0 f (List.mem_of_find?_eq_some hf)
    simp only [Bool.and_eq_true, decide_eq_true_eq, List.any_eq_true] at h4
    obtain ⟨⟨⟨v, hv, rfl⟩, h5⟩, h6⟩ := h4
    obtain ⟨⟨a, b⟩, g⟩ := f
    obtain ⟨rfl, rfl⟩ := h3
    subst h2
    exact ⟨tw hv rfl, h5, h6⟩
theorem exCa0 : (List.range 3).all (fun e => faL.any (fun v => decide (v = .castable (exc e) (exc e)))) = true := by decide +kernel
theorem exCa {e : Nat} (h : e < 3) : Cond.castable (exc e) (exc e) ∈ faL := by
  have := List.all_eq_true.mp exCa0 e (List.mem_range.mpr h)
  simp only [List.any_eq_true, decide_eq_true_eq] at this
  obtain ⟨v, hv, rfl⟩ := this
  exact hv
/-- how the handlers' table takes the exception E thrown at pc: the store's place behind the handler's first instruction, the local -/
def takes (y pc E pc2 i : Nat) : Prop := ∃ (pre suf : List (Nat × Nat × Nat × Nat)) (x : Nat × Nat × Nat × Nat), hhN y = pre ++ x :: suf ∧ (∀ z ∈ pre, ∃ e, exN (owN y) z.2.2.2 = some e ∧ e ≠ E) ∧ x.1 ≤ pc ∧ pc < x.2.1 ∧ exN (owN y) x.2.2.2 = some E ∧
  ((∃ f : Fin 4, (f : Nat) = i ∧ decode (cdN y) x.2.2.1 = .ok (.astore_n f, 1) ∧ pc2 = x.2.2.1 + 1) ∨ (decode (cdN y) x.2.2.1 = .ok (.astore i, 2) ∧ pc2 = x.2.2.1 + 2))
/-- an exception that a callee threw: it leaves this method too, or is taken -/
def XH (l : LX) (y k n pc : Nat) (L : LL) (Q : OO → Prop) (E : Nat) (τ : MM) : Prop := (hhN y = [] ∧ Q (.inr E, τ)) ∨ ∃ pc2 i : Nat, takes y pc E pc2 i ∧ i < mlN y ∧ ncA L i = true ∧ Ex l y k n pc2 (L.set i none) [] τ Q
section Calls2
variable {l : LX} {y k n pc : Nat} {L : LL} {σ : MM} {Q : OO → Prop}
theorem xh_w {E : Nat} {τ : MM} (h : XH l y k n pc L Q E τ) {G : GG} {p : Program} {e : Env} {R : Room} {s : State} {m : MethodId} {args : Array Value} {below : List Frame} {meth : Method} {c : Code} {A : Nat → Prop} {CE SE : Nat} {Qf : State → Prop}
    (hA : AMB l y G p R s m args meth c A) (hC : CE ≤ R.cells) (hS : SE ≤ R.slots) (hF : FIN l y G p e R s m args below meth c A CE SE Qf Q) {H : Heap} {locs : List Loc} {cells slots : Nat} {ls : Array Slot} {rest : List Value} (h1 : cells + k = CE) (h2 : slots + n = SE) (hL : LR G ls (mlN y) L) (hW : WOK G A s H locs τ) (hf : τ.2.2.2.2.2 = false)
    {q : Addr} {ce : Cell} (hce : H[q]? = some ce) (hv : ce.vm = .none) (hcl : s.vm.findClass (exc E) = some ce.cls) : vx_W p l.1 e R s m args below meth c H locs cells slots Qf (F0 m pc ls rest) q := by
  rcases h with ⟨h3, h4⟩ | ⟨pc2, i, ⟨pre, suf, x, e1, e2, e3, e4, e5, e6⟩, hi, hn, hk⟩
  · exact hF.2.2 H locs cells slots pc ls rest τ E q ce h3 (by omega) (by omega) hW hf h4 hce hv hcl
  · have hST := hA.2.2.2.2.2.2.2.2.2.2.2.2.2
    have hts := hA.2.2.2.2.2.2.2.2.1
    have htab := hA.2.2.2.2.2.2.2.2.2.1
    obtain ⟨w1, hE, hx0⟩ := exLk e5
    refine vx_catch (E := exc E) (name := exc E) hA.2.2.2.2.2.1 (tableOf pre) ⟨x.1, x.2.1, x.2.2.1, x.2.2.2⟩ (tableOf suf) (by rw [htab, e1]; unfold tableOf; rw [List.map_append]; rfl) (fun z hz => ?_) (by unfold covers; simp [e3, e4]) hx0 (hts _ w1)
      (by
        have h9 := exCa hE
        have h7 := (List.mem_filter.mp h9).2
        simp only [Bool.and_eq_true] at h7
        exact va_Nw.use h7.2 (hST.2.2.2.2.2.2.2.2.1 _ h9)) hce hv hcl ?_
    · unfold tableOf at hz
      obtain ⟨w, hw, rfl⟩ := List.mem_map.mp hz
      obtain ⟨e9, f1, f2⟩ := e2 w hw
      obtain ⟨g1, g2, g3⟩ := exLk f1
      exact Or.inr ⟨g3, exc e9, hts _ g1, hST.2.2.2.2.2.2.2.1 E e9 hE g2 (fun z => f2 z.symm)⟩
    · have hgo : ∀ ls', LR G ls' (mlN y) (L.set i none) → W p l.1 e R s m args below meth c H locs cells slots Qf (F0 m pc2 ls' []) := fun ls' hl' => hk G p e R s m args below meth c A CE SE Qf hA hC hS hF H locs cells slots ls' h1 h2 hl' hW (fun z => by rw [hf] at z; cases z)
      rcases e6 with ⟨f, rfl, hd, rfl⟩ | ⟨hd, rfl⟩
      · exact lv_astore_n (x := q) hA.2.1 hA.2.2.1 hd rfl hL.has hi rfl (fun ls' h' => hgo ls' (hL.st1 (fun v hv => by cases hv) hn h'))
      · exact lv_astore (x := q) hA.2.1 hA.2.2.1 hd hL.has hi rfl (fun ls' h' => hgo ls' (hL.st1 (fun v hv => by cases hv) hn h'))
/-- the goal of a call: what the callee's run gives -/
theorem x_call {k1 n1 : Nat} {st rest As : List Value} {Q1 : OO → Prop}
    (run : ∀ (G : GG) (p : Program) (e : Env) (R : Room) (s : State) (m : MethodId) (args : Array Value) (below : List Frame) (meth : Method) (c : Code) (A : Nat → Prop) (H : Heap) (locs : List Loc) (cells slots : Nat) (ls : Array Slot), AMB l y G p R s m args meth c A → cells + k1 ≤ R.cells → slots + n1 ≤ R.slots → LR G ls (mlN y) L → WOK G A s H locs σ → (σ.2.2.2.2.2 = true → H.size = G.2.2.2.2.2 σ.2.2.2.1 ∧ CS G σ.2.2.2.1) →
      vx_Run p l.1 e R s m args below meth c H locs cells slots k1 n1 (F0 m pc ls (cvs G st)) (cvs G rest) (QW G σ H.size k1 Q1 (cvs G As).toArray) (XW G σ H.size k1 Q1) (va_A (wsO G σ) H.size))
    (hu : σ.2.2.2.2.2 = true ∨ ∀ (v : Option Value) (τ : MM), Q1 (.inl v, τ) → τ.2.2.2.2.2 = false) (kk : ∀ (v : Option Value) (τ : MM), Q1 (.inl v, τ) → Ex l y k n (pc + 3) L (v.toList ++ rest) τ Q) (kx : ∀ (E : Nat) (τ : MM), Q1 (.inr E, τ) → τ.2.2.2.2.2 = false → XH l y k n pc L Q E τ) : Ex l y (k1 + k) (n1 + n) pc L st σ Q := by
  intro G p e R s m args below meth c A CE SE Qf hA hC hS hF H locs cells slots ls h1 h2 hL hW hR
  refine W_by fun T hT X => ?_
  have hsz := size_of hW hR X hT
  refine cal_go (Q := Q1) (a := (cvs G As).toArray) hA hW (run G p e R s m args below meth c A H locs cells slots ls hA (by omega) (by omega) hL hW (fun z => ⟨hsz z, (hR z).2.1⟩)) (fun v τ H1 locs1 hq hW1 hfr => ?_) (fun E τ H1 locs1 q ce hq hf hW1 hce hv hcl => ?_)
  · have h := kk v τ hq G p e R s m args below meth c A CE SE Qf hA hC hS hF H1 locs1 (cells + k1) (slots + n1) ls (by omega) (by omega) hL hW1 (fun z => by
      rcases hu with hu | hu
      · have e1 := hfr z
        have e2 := hsz hu
        have e3 := hR hu
        exact ⟨by omega, e1.2.1, AJ.over e3.2.1 e1.2.1 e2 e3.2.2 e1.2.2 (by omega)⟩
      · have e1 := hu v τ hq
        rw [e1] at z
        cases z)
    have e1 : cvs G (v.toList ++ rest) = (v.map (cv G)).toList ++ cvs G rest := by
      cases v <;> rfl
    rw [e1] at h
    exact h
  · exact xh_w (kx E τ hq hf) hA hC hS hF (by omega) (by omega) hL hW1 hf hce hv hcl
theorem ctm {o i kd t : Nat} {ps : List Nat} (h : ctN o i = some (kd, t, ps)) : t < 332 := by
  have := (ctIn h).2
  simp only [ctB, Bool.and_eq_true, decide_eq_true_eq] at this
  exact this.1
theorem x_callV {ix t a k1 n1 : Nat} {ps : List Nat} {As rest : List Value} {st : List Value} {Q1 : OO → Prop} (hc : ctN (owN y) ix = some (0, t, ps)) (hCT : CT l t (.ref a :: As) σ k1 n1 Q1) (ho : isO σ a (owN t)) (hst : st = As.reverse ++ .ref a :: rest) (hlen : As.length = naN t) (hcat : cats rest ≤ 8) (hh : htN t + 1 ≤ htN y) (hlo : 8 + (mlN t + 11) + loN t ≤ loN y) (hd : decode (cdN y) pc = .ok (.invokevirtual ix, 3))
    (hu : σ.2.2.2.2.2 = true ∨ ∀ (v : Option Value) (τ : MM), Q1 (.inl v, τ) → τ.2.2.2.2.2 = false) (kk : ∀ (v : Option Value) (τ : MM), Q1 (.inl v, τ) → Ex l y k n (pc + 3) L (v.toList ++ rest) τ Q) (kx : ∀ (E : Nat) (τ : MM), Q1 (.inr E, τ) → τ.2.2.2.2.2 = false → XH l y k n pc L Q E τ) : Ex l y (k1 + k) (n1 + n) pc L st σ Q := by
  have ht := ctm hc
  obtain ⟨hw, hb9⟩ := ctIn hc
  simp only [ctB, Bool.and_eq_true, decide_eq_true_eq] at hb9
  obtain ⟨-, hh0, ho11⟩ := hb9
  refine x_call (rest := rest) (As := .ref a :: As) (Q1 := Q1) (fun G p e R s m args below meth c A H locs cells slots ls hA h1 h2 hL hW hsz => ?_) hu kk kx
  have hts := hA.2.2.2.2.2.2.2.2.1
  have hST := hA.2.2.2.2.2.2.2.2.2.2.2.2.2
  have hpre := (pre_of hA hW).2 (cvs G (.ref a :: As))
  have hcl : (ynN t).cls = clsN (owN t) := mtCls (by omega)
  have hno := mtNo (y := t) (by omega)
  have ha : adr G a = G.2.2.2.2.2 a := adr_lt (Nat.lt_of_lt_of_le ho.1 hW.1)
  have hrec := va_recv hST.1 hW.2.1 (vwOk ho11) (by rw [wsO_get ho.1, cell_O ho.2])
  have e1 : cvs G (.ref a :: As) = .ref (G.2.2.2.2.2 a) :: cvs G As := by
    show Value.ref (adr G a) :: cvs G As = _
    rw [ha]
  have hM := hCT G H.size hsz hA.1.2
  rw [e1] at hM hpre ⊢
  refine vx_runV (Ts := cdW t :: T0) (own := clsN (owN y)) (C := clsN (owN t)) (cc := cdN y) (nL := mlN y) (y := ynN t) (bytes := cdN t) (maxL := mlN t) (ret := rtN t) (ws := cdW t :: T0) (index := ix) (n := naN t) (b := G.2.2.2.2.2 a) (As := cvs G As) ⟨hA.2.1, hA.2.2.1, hA.2.2.2.1, hA.2.2.2.2.2.1, ?_⟩ hM ?_ ⟨hpre.1, hrec, hpre.2⟩ rfl (by unfold cvs; rw [List.length_map]; exact hlen) hL.1 ?_ ?_ hd ⟨h1, h2⟩
  · intro w hw2
    rcases List.mem_cons.mp hw2 with rfl | h
    · exact hts _ (cpOk ht)
    · exact hts w h
  · refine cwV (naN t) (Ts := T0) (ws' := T0) hts (fun w hw2 => ?_) (by rw [cdW_plain hh0]) rfl rfl ⟨hcl, hno.1, hno.2, mtPar (by omega)⟩ ⟨by rw [hA.2.2.2.2.2.2.2.2.2.2.1]; exact hh, by rw [hA.2.2.2.2.2.2.2.2.2.2.2.1]; exact hlo⟩
    refine T0_good w ?_
    rcases List.mem_append.mp hw2 with h | h
    · rw [← hcl] at h
      simp only [List.mem_cons, List.not_mem_nil, or_false] at h
      rcases h with rfl | rfl | rfl | rfl <;> exact tw (hw _ (by simp [ctW])) rfl
    · rcases List.mem_cons.mp h with rfl | h
      · exact cpOk ht
      · exact h
  · rw [hst]
    show (As.reverse ++ Value.ref a :: rest).map (cv G) = _
    rw [List.map_append, List.map_reverse]
    show _ ++ Value.ref (adr G a) :: _ = _
    rw [ha]
    rfl
  · show 2 * 0 + ((cvs G rest).map fun v => v.category).sum ≤ 8
    rw [cvs_cats]
    omega
/-- static: of the same class (1), of a nest mate (3), with handlers (12) -/
theorem x_callS {ix t k1 n1 : Nat} {ps : List Nat} {As rest : List Value} {st : List Value} {Q1 : OO → Prop} (hc : ctN (owN y) ix = some (1, t, ps)) (hCT : CT l t As σ k1 n1 Q1) (hst : st = As.reverse ++ rest) (hlen : As.length = naN t) (hcat : cats rest ≤ 8) (hh : htN t + 1 ≤ htN y) (hlo : 8 + (mlN t + 11) + loN t ≤ loN y) (hown : owN t = owN y) (hd : decode (cdN y) pc = .ok (.invokestatic ix, 3))
    (hu : σ.2.2.2.2.2 = true ∨ ∀ (v : Option Value) (τ : MM), Q1 (.inl v, τ) → τ.2.2.2.2.2 = false) (kk : ∀ (v : Option Value) (τ : MM), Q1 (.inl v, τ) → Ex l y k n (pc + 3) L (v.toList ++ rest) τ Q) (kx : ∀ (E : Nat) (τ : MM), Q1 (.inr E, τ) → τ.2.2.2.2.2 = false → XH l y k n pc L Q E τ) : Ex l y (k1 + k) (n1 + n) pc L st σ Q := by
  have ht := ctm hc
  obtain ⟨hw, hb9⟩ := ctIn hc
  simp only [ctB, Bool.and_eq_true, decide_eq_true_eq] at hb9
  obtain ⟨-, hh0⟩ := hb9
  refine x_call (rest := rest) (As := As) (Q1 := Q1) (fun G p e R s m args below meth c A H locs cells slots ls hA h1 h2 hL hW hsz => ?_) hu kk kx
  have hts := hA.2.2.2.2.2.2.2.2.1
  have hpre := (pre_of hA hW).2 (cvs G As)
  have hcl : (ynN t).cls = clsN (owN t) := mtCls (by omega)
  have hno := mtNo (y := t) (by omega)
  have hM := hCT G H.size hsz hA.1.2
  refine vx_runS (Ts := cdW t :: T0) (own := clsN (owN y)) (cc := cdN y) (nL := mlN y) (y := ynN t) (bytes := cdN t) (maxL := mlN t) (ret := rtN t) (ws := cdW t :: T0) (index := ix) (n := naN t) (As := cvs G As) ⟨hA.2.1, hA.2.2.1, hA.2.2.2.1, hA.2.2.2.2.2.1, ?_⟩ hM ?_ hpre rfl (by unfold cvs; rw [List.length_map]; exact hlen) hL.1 ?_ ?_ hd ⟨h1, h2⟩
  · intro w hw2
    rcases List.mem_cons.mp hw2 with rfl | h
    · exact hts _ (cpOk ht)
    · exact hts w h
  · refine cwS (naN t) (Ts := T0) (ws' := T0) hts (fun w hw2 => ?_) (by rw [cdW_plain hh0]) rfl rfl ⟨by rw [hcl, hown], hno.1, hno.2, mtPar (by omega)⟩ ⟨by rw [hA.2.2.2.2.2.2.2.2.2.2.1]; exact hh, by rw [hA.2.2.2.2.2.2.2.2.2.2.2.1]; exact hlo⟩
    refine T0_good w ?_
    rcases List.mem_append.mp hw2 with h | h
    · rw [← hown, ← hcl, ] at h
      simp only [List.mem_cons, List.not_mem_nil, or_false] at h
      rcases h with rfl | rfl | rfl
      · have := hw (.methodLink (clsN (owN y)) ix (ynN t)) (by simp [ctW])
        rw [← hown, ← hcl] at this
        exact tw this rfl
      · exact tw (hw _ (by simp [ctW])) rfl
      · exact tw (hw _ (by simp [ctW])) rfl
    · rcases List.mem_cons.mp h with rfl | h
      · exact cpOk ht
      · exact h
  · rw [hst]
    show (As.reverse ++ rest).map (cv G) = _
    rw [List.map_append, List.map_reverse]
    rfl
  · show 2 * 0 + ((cvs G rest).map fun v => v.category).sum ≤ 8
    rw [cvs_cats]
    omega
theorem x_callSW {ix t k1 n1 : Nat} {ps : List Nat} {As rest : List Value} {st : List Value} {Q1 : OO → Prop} (hc : ctN (owN y) ix = some (12, t, ps)) (hCT : CT l t As σ k1 n1 Q1) (hst : st = As.reverse ++ rest) (hlen : As.length = naN t) (hcat : cats rest ≤ 8) (hh : htN t + 1 ≤ htN y) (hlo : 8 + (mlN t + 11) + loN t ≤ loN y) (hd : decode (cdN y) pc = .ok (.invokestatic ix, 3))
    (hu : σ.2.2.2.2.2 = true ∨ ∀ (v : Option Value) (τ : MM), Q1 (.inl v, τ) → τ.2.2.2.2.2 = false) (kk : ∀ (v : Option Value) (τ : MM), Q1 (.inl v, τ) → Ex l y k n (pc + 3) L (v.toList ++ rest) τ Q) (kx : ∀ (E : Nat) (τ : MM), Q1 (.inr E, τ) → τ.2.2.2.2.2 = false → XH l y k n pc L Q E τ) : Ex l y (k1 + k) (n1 + n) pc L st σ Q := by
  have ht := ctm hc
  obtain ⟨hw, hb9⟩ := ctIn hc
  simp only [ctB, Bool.and_eq_true, decide_eq_true_eq] at hb9
  obtain ⟨-, hh0⟩ := hb9
  refine x_call (rest := rest) (As := As) (Q1 := Q1) (fun G p e R s m args below meth c A H locs cells slots ls hA h1 h2 hL hW hsz => ?_) hu kk kx
  have hts := hA.2.2.2.2.2.2.2.2.1
  have hpre := (pre_of hA hW).2 (cvs G As)
  have hno := mtNo (y := t) (by omega)
  have hM := hCT G H.size hsz hA.1.2
  refine vx_runSX (hh := hhN t) (Ts := cdW t :: T0) (own := clsN (owN y)) (cc := cdN y) (nL := mlN y) (y := ynN t) (bytes := cdN t) (maxL := mlN t) (ret := rtN t) (ws := cdW t :: T0) (index := ix) (n := naN t) (As := cvs G As) ⟨hA.2.1, hA.2.2.1, hA.2.2.2.1, hA.2.2.2.2.2.1, ?_⟩ hM ?_ hpre rfl (by unfold cvs; rw [List.length_map]; exact hlen) hL.1 ?_ ?_ hd ⟨h1, h2⟩
  · intro w hw2
    rcases List.mem_cons.mp hw2 with rfl | h
    · exact hts _ (cpOk ht)
    · exact hts w h
  · refine vx_cwSW (naN t) (Ts := T0) (ws' := T0) hts (fun w hw2 => ?_) (by rw [cdW_with hh0]) rfl rfl ⟨hno.1, hno.2, mtPar (by omega)⟩ ⟨by rw [hA.2.2.2.2.2.2.2.2.2.2.1]; exact hh, by rw [hA.2.2.2.2.2.2.2.2.2.2.2.1]; exact hlo⟩
    refine T0_good w ?_
    rcases List.mem_append.mp hw2 with h | h
    · simp only [List.mem_cons, List.not_mem_nil, or_false] at h
      rcases h with rfl | rfl | rfl <;> exact tw (hw _ (by simp [ctW])) rfl
    · rcases List.mem_cons.mp h with rfl | h
      · exact cpOk ht
      · exact h
  · rw [hst]
    show (As.reverse ++ rest).map (cv G) = _
    rw [List.map_append, List.map_reverse]
    rfl
  · show 2 * 0 + ((cvs G rest).map fun v => v.category).sum ≤ 8
    rw [cvs_cats]
    omega
/-- a nest mate's static method -/
theorem x_callSN {ix t k1 n1 : Nat} {ps : List Nat} {As rest : List Value} {st : List Value} {Q1 : OO → Prop} (hc : ctN (owN y) ix = some (3, t, ps)) (hCT : CT l t As σ k1 n1 Q1) (hst : st = As.reverse ++ rest) (hlen : As.length = naN t) (hcat : cats rest ≤ 8) (hh : htN t + 1 ≤ htN y) (hlo : 8 + (mlN t + 11) + loN t ≤ loN y) (hd : decode (cdN y) pc = .ok (.invokestatic ix, 3))
    (hu : σ.2.2.2.2.2 = true ∨ ∀ (v : Option Value) (τ : MM), Q1 (.inl v, τ) → τ.2.2.2.2.2 = false) (kk : ∀ (v : Option Value) (τ : MM), Q1 (.inl v, τ) → Ex l y k n (pc + 3) L (v.toList ++ rest) τ Q) (kx : ∀ (E : Nat) (τ : MM), Q1 (.inr E, τ) → τ.2.2.2.2.2 = false → XH l y k n pc L Q E τ) : Ex l y (k1 + k) (n1 + n) pc L st σ Q := by
  have ht := ctm hc
  obtain ⟨hw, hb9⟩ := ctIn hc
  simp only [ctB, Bool.and_eq_true, decide_eq_true_eq] at hb9
  obtain ⟨-, hne, hh0⟩ := hb9
  refine x_call (rest := rest) (As := As) (Q1 := Q1) (fun G p e R s m args below meth c A H locs cells slots ls hA h1 h2 hL hW hsz => ?_) hu kk kx
  have hts := hA.2.2.2.2.2.2.2.2.1
  have hST := hA.2.2.2.2.2.2.2.2.2.2.2.2.2
  have hpre := (pre_of hA hW).2 (cvs G As)
  have hno := mtNo (y := t) (by omega)
  have hM := hCT G H.size hsz hA.1.2
  refine vx_runSN (host := neH) (Ts := cdW t :: T0) (own := clsN (owN y)) (cc := cdN y) (nL := mlN y) (y := ynN t) (bytes := cdN t) (maxL := mlN t) (ret := rtN t) (ws := cdW t :: T0) (index := ix) (n := naN t) (As := cvs G As) ⟨hA.2.1, hA.2.2.1, hA.2.2.2.1, hA.2.2.2.2.2.1, ?_⟩ hM ⟨?_, hts _ (tw (hw _ (by simp [ctW])) rfl), trivial⟩ hpre rfl (by unfold cvs; rw [List.length_map]; exact hlen) hL.1 ?_ ?_ hd ⟨h1, h2⟩
  · intro w hw2
    rcases List.mem_cons.mp hw2 with rfl | h
    · exact hts _ (cpOk ht)
    · exact hts w h
  · refine va_cnB (naN t) (Ts := T0) (ws' := T0) hts (fun w hw2 => T0_good w ?_) (by rw [cdW_plain hh0]) rfl rfl (hST.2.2.2.2.2.2.1 _ hne) (hts _ (tw (hw _ (by simp [ctW])) rfl)) ⟨hno.1, hno.2, mtPar (by omega)⟩ ⟨by rw [hA.2.2.2.2.2.2.2.2.2.2.1]; exact hh, by rw [hA.2.2.2.2.2.2.2.2.2.2.2.1]; exact hlo⟩
    rcases List.mem_cons.mp hw2 with rfl | h
    · exact cpOk ht
    · exact h
  · rw [hst]
    show (As.reverse ++ rest).map (cv G) = _
    rw [List.map_append, List.map_reverse]
    rfl
  · show 2 * 0 + ((cvs G rest).map fun v => v.category).sum ≤ 8
    rw [cvs_cats]
    omega
/-- constructors: of the same nest by name (2), of a nest mate (4) -/
theorem x_callI {ix t a k1 n1 : Nat} {ps : List Nat} {As rest : List Value} {st : List Value} {Q1 : OO → Prop} (hc : ctN (owN y) ix = some (2, t, ps)) (hCT : CT l t (.ref a :: As) σ k1 n1 Q1) (hlt : a < scr) (hst : st = As.reverse ++ .ref a :: rest) (hlen : As.length = naN t) (hcat : cats rest ≤ 8) (hh : htN t + 1 ≤ htN y) (hlo : 8 + (mlN t + 11) + loN t ≤ loN y) (hd : decode (cdN y) pc = .ok (.invokespecial ix, 3))
    (hu : σ.2.2.2.2.2 = true ∨ ∀ (v : Option Value) (τ : MM), Q1 (.inl v, τ) → τ.2.2.2.2.2 = false) (kk : ∀ (v : Option Value) (τ : MM), Q1 (.inl v, τ) → Ex l y k n (pc + 3) L (v.toList ++ rest) τ Q) (kx : ∀ (E : Nat) (τ : MM), Q1 (.inr E, τ) → τ.2.2.2.2.2 = false → XH l y k n pc L Q E τ) : Ex l y (k1 + k) (n1 + n) pc L st σ Q := by
  have ht := ctm hc
  obtain ⟨hw, hb9⟩ := ctIn hc
  simp only [ctB, Bool.and_eq_true, decide_eq_true_eq] at hb9
  obtain ⟨-, ⟨hh0, hnm⟩, hrt⟩ := hb9
  refine x_call (rest := rest) (As := .ref a :: As) (Q1 := Q1) (fun G p e R s m args below meth c A H locs cells slots ls hA h1 h2 hL hW hsz => ?_) hu kk kx
  have hts := hA.2.2.2.2.2.2.2.2.1
  have hpre := (pre_of hA hW).2 (cvs G (.ref a :: As))
  have hno := mtNo (y := t) (by omega)
  have ha : adr G a = G.2.2.2.2.2 a := adr_lt hlt
  have e1 : cvs G (.ref a :: As) = .ref (G.2.2.2.2.2 a) :: cvs G As := by
    show Value.ref (adr G a) :: cvs G As = _
    rw [ha]
  have hM := hCT G H.size hsz hA.1.2
  rw [e1] at hM hpre ⊢
  refine vx_runI (Ts := cdW t :: T0) (own := clsN (owN y)) (cc := cdN y) (nL := mlN y) (y := ynN t) (bytes := cdN t) (maxL := mlN t) (ws := cdW t :: T0) (index := ix) (n := naN t) (b := G.2.2.2.2.2 a) (As := cvs G As) ⟨hA.2.1, hA.2.2.1, hA.2.2.2.1, hA.2.2.2.2.2.1, ?_⟩ hM ?_ hpre rfl (by unfold cvs; rw [List.length_map]; exact hlen) hL.1 ?_ ?_ hd ⟨h1, h2⟩
  · intro w hw2
    rcases List.mem_cons.mp hw2 with rfl | h
    · exact hts _ (cpOk ht)
    · exact hts w h
  · refine cwI (naN t) (Ts := T0) (ws' := T0) hts (fun w hw2 => T0_good w ?_) (by rw [cdW_plain hh0, hrt]) rfl rfl (hts _ (tw (hw _ (by simp [ctW])) rfl)) (hts _ (tw (hw _ (by simp [ctW])) rfl)) (hts _ (tw (hw _ (by simp [ctW])) rfl)) hnm ⟨hno.1, hno.2, mtPar (by omega)⟩ ⟨by rw [hA.2.2.2.2.2.2.2.2.2.2.1]; exact hh, by rw [hA.2.2.2.2.2.2.2.2.2.2.2.1]; exact hlo⟩
    rcases List.mem_cons.mp hw2 with rfl | h
    · exact cpOk ht
    · exact h
  · rw [hst]
    show (As.reverse ++ Value.ref a :: rest).map (cv G) = _
    rw [List.map_append, List.map_reverse]
    show _ ++ Value.ref (adr G a) :: _ = _
    rw [ha]
    rfl
  · show 2 * 0 + ((cvs G rest).map fun v => v.category).sum ≤ 8
    rw [cvs_cats]
    omega
theorem x_callIN {ix t a k1 n1 : Nat} {ps : List Nat} {As rest : List Value} {st : List Value} {Q1 : OO → Prop} (hc : ctN (owN y) ix = some (4, t, ps)) (hCT : CT l t (.ref a :: As) σ k1 n1 Q1) (hlt : a < scr) (hst : st = As.reverse ++ .ref a :: rest) (hlen : As.length = naN t) (hcat : cats rest ≤ 8) (hh : htN t + 1 ≤ htN y) (hlo : 8 + (mlN t + 11) + loN t ≤ loN y) (hd : decode (cdN y) pc = .ok (.invokespecial ix, 3))
    (hu : σ.2.2.2.2.2 = true ∨ ∀ (v : Option Value) (τ : MM), Q1 (.inl v, τ) → τ.2.2.2.2.2 = false) (kk : ∀ (v : Option Value) (τ : MM), Q1 (.inl v, τ) → Ex l y k n (pc + 3) L (v.toList ++ rest) τ Q) (kx : ∀ (E : Nat) (τ : MM), Q1 (.inr E, τ) → τ.2.2.2.2.2 = false → XH l y k n pc L Q E τ) : Ex l y (k1 + k) (n1 + n) pc L st σ Q := by
  have ht := ctm hc
  obtain ⟨hw, hb9⟩ := ctIn hc
  simp only [ctB, Bool.and_eq_true, decide_eq_true_eq] at hb9
  obtain ⟨-, ⟨⟨hne, hh0⟩, hnm⟩, hrt⟩ := hb9
  refine x_call (rest := rest) (As := .ref a :: As) (Q1 := Q1) (fun G p e R s m args below meth c A H locs cells slots ls hA h1 h2 hL hW hsz => ?_) hu kk kx
  have hts := hA.2.2.2.2.2.2.2.2.1
  have hST := hA.2.2.2.2.2.2.2.2.2.2.2.2.2
  have hpre := (pre_of hA hW).2 (cvs G (.ref a :: As))
  have hno := mtNo (y := t) (by omega)
  have ha : adr G a = G.2.2.2.2.2 a := adr_lt hlt
  have e1 : cvs G (.ref a :: As) = .ref (G.2.2.2.2.2 a) :: cvs G As := by
    show Value.ref (adr G a) :: cvs G As = _
    rw [ha]
  have hM := hCT G H.size hsz hA.1.2
  rw [e1] at hM hpre ⊢
  refine vx_runIN (host := neH) (Ts := cdW t :: T0) (own := clsN (owN y)) (cc := cdN y) (nL := mlN y) (y := ynN t) (bytes := cdN t) (maxL := mlN t) (ws := cdW t :: T0) (index := ix) (n := naN t) (b := G.2.2.2.2.2 a) (As := cvs G As) ⟨hA.2.1, hA.2.2.1, hA.2.2.2.1, hA.2.2.2.2.2.1, ?_⟩ hM ⟨?_, hnm, hts _ (tw (hw _ (by simp [ctW])) rfl)⟩ hpre rfl (by unfold cvs; rw [List.length_map]; exact hlen) hL.1 ?_ ?_ hd ⟨h1, h2⟩
  · intro w hw2
    rcases List.mem_cons.mp hw2 with rfl | h
    · exact hts _ (cpOk ht)
    · exact hts w h
  · refine va_cnB (naN t) (Ts := T0) (ws' := T0) hts (fun w hw2 => T0_good w ?_) (by rw [cdW_plain hh0, hrt]) rfl rfl (hST.2.2.2.2.2.2.1 _ hne) (hts _ (tw (hw _ (by simp [ctW])) rfl)) ⟨hno.1, hno.2, mtPar (by omega)⟩ ⟨by rw [hA.2.2.2.2.2.2.2.2.2.2.1]; exact hh, by rw [hA.2.2.2.2.2.2.2.2.2.2.2.1]; exact hlo⟩
    rcases List.mem_cons.mp hw2 with rfl | h
    · exact cpOk ht
    · exact h
  · rw [hst]
    show (As.reverse ++ Value.ref a :: rest).map (cv G) = _
    rw [List.map_append, List.map_reverse]
    show _ ++ Value.ref (adr G a) :: _ = _
    rw [ha]
    rfl
  · show 2 * 0 + ((cvs G rest).map fun v => v.category).sum ≤ 8
    rw [cvs_cats]
    omega
end Calls2
