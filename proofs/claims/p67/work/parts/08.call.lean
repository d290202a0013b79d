/-! contracts out of walks; calls -/
theorem va_A_out {ws : va_W} {sz q : Nat} (h : sz ≤ q) : va_A ws sz q := Or.inr h
theorem amb_of {l : LX} {y : Nat} {G : GG} {p : Program} {R : Room} {e : Env} {s s₁ : State} {m : MethodId} {args : Array Value} {below : List Frame} {meth : Method} {c : Code} {S : Spec} {σ : MM} {sz : Nat} (hy : y < 332) (hl : l.1.stackTraces = false) (hsc : scrOK G l)
    (B : BodyLoose p l.1 (ynN y) S (cdN y) (mlN y) (rtN y) e s m args below meth c s₁) (hml : c.maxLocals = mlN y) (hT : ∀ w ∈ T0, w.before args s = true) (htab : c.exceptionTable.toList = tableOf (hhN y)) (hin : inN y = true → (ynN y).name = "<init>")
    (hR : R.frames = htN y) (hR2 : R.locals = loN y) (hsz : s.heap.size = sz) (hST : ST G (va_A (wsO G σ) sz) s s.heap) : AMB l y G p R s m args meth c (va_A (wsO G σ) sz) := by
  refine ⟨⟨hl, hsc⟩, B.exec, B.bytes, hml, B.returns, ?_, B.notSynchronized, fun h => ?_, hT, htab, hR, hR2, fun q hq => Or.inr (hsz ▸ hq), hST⟩
  · rw [← mtCls (by omega : y < 333)]
    exact findClass_of_methodNamed B.named
  · rw [(name_of_methodNamed B.named B.method).1]
    exact hin h
theorem inOk0 : (List.range 333).all (fun y => !(inN y) || decide ((ynN y).name = "<init>")) = true := by decide +kernel
theorem inOk {y : Nat} (hy : y < 333) (h : inN y = true) : (ynN y).name = "<init>" := by
  have := List.all_eq_true.mp inOk0 y (List.mem_range.mpr hy)
  simp only [Bool.or_eq_true, Bool.not_eq_true', decide_eq_true_eq] at this
  rcases this with h1 | h1
  · rw [h1] at h; cases h
  · exact h1
set_option maxHeartbeats 4000000 in
/-- THE CONTRACT OF A METHOD out of its walk -/
theorem mkct {l : LX} (hl : l.1.stackTraces = false) {y : Nat} (hy : y < 332) {as : List Value} {σ : MM} {k n : Nat} {Q : OO → Prop} (hlen : (enL as).length ≤ mlN y) (h : Ex l y k n 0 (en y as) [] σ Q) : CT l y as σ k n Q := by
  intro G sz hfr hsc
  have main : ∀ (p : Program) (e : Env) (s : State) (m : MethodId) (args : Array Value) (below : List Frame) (meth : Method) (c : Code) (s₁ : State), BodyLoose p l.1 (ynN y) (headSpec (cdW y :: T0) { frames := htN y, cells := k, slots := n, locals := loN y }) (cdN y) (mlN y) (rtN y) e s m args below meth c s₁ → c.maxLocals = mlN y → c.exceptionTable.toList = tableOf (hhN y) → va_Pc (cvs G as) (PW G σ sz) args s →
      W p l.1 e (headSpec (cdW y :: T0) { frames := htN y, cells := k, slots := n, locals := loN y }).room s m args below meth c s.heap [] 0 0 (vx_MQ below (QW G σ sz k Q) (XW G σ sz k Q) args s k n (va_A (wsO G σ) sz)) (entryFrame m args (mlN y)) := by
    intro p e s m args below meth c s₁ B hml htab hv
    obtain ⟨rfl, hsz, hnp, hP, hD, hST⟩ := hv
    have hts := atoms_spec (ws := cdW y :: T0) B.pre
    have hA : AMB l y G p (headSpec (cdW y :: T0) { frames := htN y, cells := k, slots := n, locals := loN y }).room s m (cvs G as).toArray meth c (va_A (wsO G σ) sz) :=
      amb_of hy hl hsc B hml (fun w hw => hts w (List.mem_cons_of_mem _ hw)) htab (inOk (by omega)) rfl rfl hsz hST
    have hF := fin_of (e := e) (below := below) (k := k) (n := n) (Q := Q) hsz hA (Nat.le_refl _) (Nat.le_refl _)
    rw [lg_entry_eq]
    refine h G p e _ s m _ below meth c _ k n _ hA (Nat.le_refl _) (Nat.le_refl _) hF s.heap [] 0 0 _ (Nat.zero_add _) (Nat.zero_add _) (LR.start hlen) ⟨hnp, hP, hD.weaken (fun i q hq _ => va_A.in hq), va_S.rf⟩ (fun z => ?_)
    exact ⟨by rw [hsz, (hfr z).1]; rfl, (hfr z).2, Or.inl (by rw [hsz, (hfr z).1]; exact Nat.le_refl _)⟩
  by_cases hh : hhN y = []
  · refine vx_ofW (cc := cdN y) (maxL := mlN y) (ret := rtN y) (ws' := T0) (mtPlain (by omega)) (by rw [cdW_plain hh]) ?_
    intro p e s m args below meth c s₁ B hml ht hv
    refine main p e s m args below meth c s₁ B hml ?_ hv
    rw [hh]
    exact List.eq_nil_iff_forall_not_mem.mpr ht
  · refine vx_ofWH (cc := cdN y) (maxL := mlN y) (ret := rtN y) (ws' := T0) (hh := hhN y) (mtPlain (by omega)) (by rw [cdW_with hh]) ?_
    intro p e s m args below meth c s₁ B hml hv
    refine main p e s m args below meth c s₁ B hml ?_ hv
    exact vx_table (x := ynN y) B (atoms_spec (ws := cdW y :: T0) B.pre _ (by rw [cdW_with hh]; exact List.mem_cons_self))
/-- what a caller hands over -/
theorem pre_of {l : LX} {y : Nat} {G : GG} {p : Program} {R : Room} {s : State} {m : MethodId} {args : Array Value} {meth : Method} {c : Code} {A : Nat → Prop} (hA : AMB l y G p R s m args meth c A) {H : Heap} {locs : List Loc} {σ : MM} (hW : WOK G A s H locs σ) :
    (∀ q, va_A (wsO G σ) H.size q → A q) ∧ ∀ (As : List Value), PreS s H (va_Pc As (PW G σ H.size)) As := by
  obtain ⟨hfl, hx, hb, hml, hr, hown, hlocks, hin, hts, htab, hRf, hRl, hAA, hST⟩ := hA
  obtain ⟨hnp, hP, hD, hS⟩ := hW
  have hsub : ∀ q, va_A (wsO G σ) H.size q → A q := by
    rintro q (⟨k, e, hk⟩ | hq)
    · exact hD.2 k _ hk
    · exact hAA q (Nat.le_trans hS.1 hq)
  refine ⟨hsub, fun As => ⟨?_, ?_⟩⟩
  · intro a U g mk q
    obtain ⟨q0, q1, q2, q3, q4, q5⟩ := q
    exact ⟨q0, q1, q2, q3, q4, q5.warm (U := U.calling g mk a) (State.WarmedH.refl U)⟩
  · intro U hU hW9
    refine ⟨rfl, by rw [hU], hnp, by rw [hU]; exact hP, hD.weaken (fun _ _ _ _ => trivial), ?_⟩
    rw [hU]
    exact ((hST.kept hS.1 hS.2.1).narrow hsub).warm hW9
/-- behind a call -/
theorem cal_go {l : LX} {y : Nat} {G : GG} {p : Program} {e : Env} {R : Room} {s : State} {m : MethodId} {args : Array Value} {below : List Frame} {meth : Method} {c : Code} {A : Nat → Prop} (hA : AMB l y G p R s m args meth c A) {H : Heap} {locs : List Loc} {cells slots mc ms pc : Nat} {ls : Array Slot} {st0 rest : List Value} {σ : MM} {Q : OO → Prop} {Qf : State → Prop} {a : Array Value}
    (hW : WOK G A s H locs σ) (hr : vx_Run p l.1 e R s m args below meth c H locs cells slots mc ms (F0 m pc ls st0) rest (QW G σ H.size mc Q a) (XW G σ H.size mc Q) (va_A (wsO G σ) H.size))
    (kk : ∀ (v : Option Value) (τ : MM) (H1 : Heap) (locs1 : List Loc), Q (.inl v, τ) → WOK G A s H1 locs1 τ → (τ.2.2.2.2.2 = true → H.size + mc = G.2.2.2.2.2 τ.2.2.2.1 ∧ CS G τ.2.2.2.1 ∧ AJ G τ.2.2.2.1 H.size) → W p l.1 e R s m args below meth c H1 locs1 (cells + mc) (slots + ms) Qf (F0 m (pc + 3) ls ((v.map (cv G)).toList ++ rest)))
    (kx : ∀ (E : Nat) (τ : MM) (H1 : Heap) (locs1 : List Loc) (q : Addr) (ce : Cell), Q (.inr E, τ) → τ.2.2.2.2.2 = false → WOK G A s H1 locs1 τ → H1[q]? = some ce → ce.vm = .none → s.vm.findClass (exc E) = some ce.cls → vx_W p l.1 e R s m args below meth c H1 locs1 (cells + mc) (slots + ms) Qf (F0 m pc ls rest) q) :
    W p l.1 e R s m args below meth c H locs cells slots Qf (F0 m pc ls st0) := by
  obtain ⟨hsub, -⟩ := pre_of hA hW
  obtain ⟨hnp, hP, hD, hS⟩ := hW
  intro T hT X
  rcases hr T hT X with ⟨v, st₀, t, T', L, h0, X', hL, e1, e2, ⟨⟨v', τ, hv, hq, w1, w2, w3, w4⟩, hF⟩, st⟩ | ⟨q, st₀, t, T', L, E, ce, h0, X', hL, e1, e2, ⟨⟨E', τ, hE, hf, hq, w1, w2, w3, w4⟩, hF⟩, hce, hcv, hcl, st⟩
  · cases hv
    obtain ⟨k1, k2, k3⟩ := vx_keep h0 e1 hS (fun q _ h => hsub q h) hsub hL hF
    obtain ⟨t2, a1, b1⟩ := kk v' τ T'.heap (locs ++ L) hq ⟨w1, by rw [e1]; exact w2, w3.weaken (fun _ _ _ h => hsub _ h), k3⟩ w4 T' rfl X'
    exact ⟨t2, st t2 a1, b1⟩
  · subst hE
    obtain ⟨k1, k2, k3⟩ := vx_keep h0 e1 hS (fun q _ h => hsub q h) hsub hL hF
    obtain ⟨t2, a1, b1⟩ := kx E' τ T'.heap (locs ++ L) q ce hq hf ⟨w1, by rw [e1]; exact w2, w3.weaken (fun _ _ _ h => hsub _ h), k3⟩ (by rw [e1]; exact hce) hcv hcl T' rfl X'
    exact ⟨t2, st.trans a1, b1⟩
/-- how large the heap is where nothing but the world's cells was made -/
theorem size_of {l : LX} {G : GG} {p : Program} {e : Env} {R : Room} {s : State} {m : MethodId} {args : Array Value} {below : List Frame} {meth : Method} {c : Code} {A : Nat → Prop} {H : Heap} {locs : List Loc} {cells slots : Nat} {σ : MM} {T : State} (hW : WOK G A s H locs σ) (hF : FR G s σ cells) (X : Stand p l.1 e R s m args below meth c T locs cells slots) (hT : T.heap = H) : σ.2.2.2.2.2 = true → H.size = G.2.2.2.2.2 σ.2.2.2.1 := by
  intro h
  obtain ⟨h1, -, hb⟩ := hF h
  have h2 := X.heapSize
  rw [hT] at h2
  have h5 := hW.2.2.2.1
  rcases hb with hb | ⟨j, hj, hb⟩
  · omega
  · have h3 := (hW.2.1 j _ (wsO_get hj)).lt
    have h4 : G.2.2.2.2.2 j < H.size := h3
    omega
