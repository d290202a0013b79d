/-! ===== the judgement itself; contracts ===== -/
/-- the launch; the script's length and what stands in it -/
abbrev LX : Type := Launch × Nat × (Nat → Int)
def scrOK (G : GG) (l : LX) : Prop := G.2.2.1.2.1 = l.2.1 ∧ ∀ j, j < l.2.1 → G.2.2.1.2.2 j = iI (l.2.2 j)
/-- what stands over a method's whole walk -/
def AMB (l : LX) (y : Nat) (G : GG) (p : Program) (R : Room) (s : State) (m : MethodId) (args : Array Value) (meth : Method) (c : Code) (A : Nat → Prop) : Prop :=
  (l.1.stackTraces = false ∧ scrOK G l) ∧ p.tables.exec = Jvm.exec ∧ c.code = cdN y ∧ c.maxLocals = mlN y ∧ meth.sig.returnType = rtN y ∧ s.vm.findClass (clsN (owN y)) = some m.cls ∧ meth.locks = false ∧ (inN y = true → meth.name = "<init>") ∧
  (∀ w ∈ T0, w.before args s = true) ∧ c.exceptionTable.toList = tableOf (hhN y) ∧ R.frames = htN y ∧ R.locals = loN y ∧ (∀ q, s.heap.size ≤ q → A q) ∧ ST G A s s.heap
/-- the world in the heap H -/
def WOK (G : GG) (A : Nat → Prop) (s : State) (H : Heap) (locs : List Loc) (σ : MM) : Prop :=
  σ.2.2.2.1 ≤ scr ∧ va_P G.1 vwCl (wsO G σ) H ∧ va_D A (wsO G σ) ∧ va_S A s.heap H locs
/-- from place n on the addresses follow each other -/
def CS (G : GG) (n : Nat) : Prop := ∀ j : Nat, G.2.2.2.2.2 (n + j) = G.2.2.2.2.2 n + j
/-- place n's address is a heap's end: that of sz cells, or one behind another place's -/
def AJ (G : GG) (n sz : Nat) : Prop := G.2.2.2.2.2 n ≤ sz ∨ ∃ k : Nat, k < n ∧ G.2.2.2.2.2 k + 1 = G.2.2.2.2.2 n
def FR (G : GG) (s : State) (σ : MM) (cells : Nat) : Prop := σ.2.2.2.2.2 = true → s.heap.size + cells = G.2.2.2.2.2 σ.2.2.2.1 ∧ CS G σ.2.2.2.1 ∧ AJ G σ.2.2.2.1 s.heap.size
theorem CS.suc {G : GG} {n : Nat} (h : CS G n) : G.2.2.2.2.2 (n + 1) = G.2.2.2.2.2 n + 1 ∧ CS G (n + 1) := ⟨h 1, fun j => by rw [show n + 1 + j = n + (1 + j) from by omega, h (1 + j), h 1]; omega⟩
theorem AJ.suc {G : GG} {n sz : Nat} (h : CS G n) : AJ G (n + 1) sz := Or.inr ⟨n, Nat.lt_succ_self n, (h 1).symm⟩
/-- .. behind a call -/
theorem AJ.over {G : GG} {n n' a b : Nat} (hn : CS G n) (hn' : CS G n') (hb : b = G.2.2.2.2.2 n) (h : AJ G n a) (h' : AJ G n' b) (hle : b ≤ G.2.2.2.2.2 n') : AJ G n' a := by
  rcases h' with h' | h'
  · have e : G.2.2.2.2.2 n' = G.2.2.2.2.2 n := by omega
    have e2 : n' = n := by
      by_cases q : n ≤ n'
      · have := hn (n' - n)
        rw [Nat.add_sub_of_le q] at this
        omega
      · have := hn' (n - n')
        rw [Nat.add_sub_of_le (by omega)] at this
        omega
    rw [e2]
    exact h
  · exact Or.inr h'
/-- a return at pc with the answer v -/
def RetI (y pc : Nat) (v : Option Value) : Prop :=
  (decode (cdN y) pc = .ok (.ireturn, 1) ∧ ∃ x : Int32, v = some (.int x) ∧ (rtN y = some .int ∨ ∃ ty : FieldType, rtN y = some ty ∧ narrow ty (.int x) = .int x)) ∨
  (decode (cdN y) pc = .ok (.freturn, 1) ∧ ∃ x : UInt32, v = some (.float x) ∧ rtN y = some .float) ∨
  (decode (cdN y) pc = .ok (.dreturn, 1) ∧ ∃ x : UInt64, v = some (.double x) ∧ rtN y = some .double) ∨
  (decode (cdN y) pc = .ok (.return_, 1) ∧ v = none ∧ rtN y = none) ∨
  (decode (cdN y) pc = .ok (.lreturn, 1) ∧ ∃ x : Int64, v = some (.long x) ∧ rtN y = some .long) ∨
  (decode (cdN y) pc = .ok (.areturn, 1) ∧ ∃ (x : Nat) (ty : FieldType), v = some (.ref x) ∧ rtN y = some ty ∧ ((∃ n, ty = .object n) ∨ ∃ t, ty = .array t))
/-- what the end of the walk is good for -/
def FIN (l : LX) (y : Nat) (G : GG) (p : Program) (e : Env) (R : Room) (s : State) (m : MethodId) (args : Array Value) (below : List Frame) (meth : Method) (c : Code) (A : Nat → Prop) (CE SE : Nat) (Qf : State → Prop) (Q : OO → Prop) : Prop :=
  (∀ (H : Heap) (locs : List Loc) (cells slots pc : Nat) (ls : Array Slot) (v : Option Value) (σ : MM), cells ≤ CE → slots ≤ SE → WOK G A s H locs σ → FR G s σ CE → RetI y pc v → Q (.inl v, σ) → W p l.1 e R s m args below meth c H locs cells slots Qf (F0 m pc ls (cvs G v.toList))) ∧
  (∀ (H : Heap) (locs : List Loc) (cells slots pc : Nat) (ls : Array Slot) (rest : List Value) (σ : MM) (E : Nat) (r : Nat × Nat × Nat × Bool × Nat), xtN y pc = some (E, r) → ls.size = mlN y → (rest.map fun v => v.category).sum + 82 ≤ loN y → 6 ≤ htN y → hhN y = [] → cells + 1 ≤ CE → slots + 6 ≤ SE → WOK G A s H locs σ → σ.2.2.2.2.2 = false → Q (.inr E, σ) → W p l.1 e R s m args below meth c H locs cells slots Qf (F0 m pc ls rest)) ∧
  (∀ (H : Heap) (locs : List Loc) (cells slots pc : Nat) (ls : Array Slot) (rest : List Value) (σ : MM) (E : Nat) (q : Addr) (ce : Cell), hhN y = [] → cells ≤ CE → slots ≤ SE → WOK G A s H locs σ → σ.2.2.2.2.2 = false → Q (.inr E, σ) → H[q]? = some ce → ce.vm = .none → s.vm.findClass (exc E) = some ce.cls → vx_W p l.1 e R s m args below meth c H locs cells slots Qf (F0 m pc ls rest) q)
/-- from pc, with locals L, stack st and memory σ, the method comes to an end with Q; at most k cells, n slots are made -/
def Ex (l : LX) (y k n pc : Nat) (L : LL) (st : List Value) (σ : MM) (Q : OO → Prop) : Prop :=
  ∀ (G : GG) (p : Program) (e : Env) (R : Room) (s : State) (m : MethodId) (args : Array Value) (below : List Frame) (meth : Method) (c : Code) (A : Nat → Prop) (CE SE : Nat) (Qf : State → Prop),
    AMB l y G p R s m args meth c A → CE ≤ R.cells → SE ≤ R.slots → FIN l y G p e R s m args below meth c A CE SE Qf Q →
    ∀ (H : Heap) (locs : List Loc) (cells slots : Nat) (ls : Array Slot), cells + k = CE → slots + n = SE → LR G ls (mlN y) L → WOK G A s H locs σ → FR G s σ cells →
      W p l.1 e R s m args below meth c H locs cells slots Qf (F0 m pc ls (cvs G st))
/-! the contract of a method -/
def PW (G : GG) (σ : MM) (sz : Nat) : State → Prop := fun U => U.heap.size = sz ∧ σ.2.2.2.1 ≤ scr ∧ va_P G.1 vwCl (wsO G σ) U.heap ∧ va_D (fun _ => True) (wsO G σ) ∧ ST G (va_A (wsO G σ) sz) U U.heap
def EW (G : GG) (σ τ : MM) (sz k : Nat) (t : State) : Prop := τ.2.2.2.1 ≤ scr ∧ va_P G.1 vwCl (wsO G τ) t.heap ∧ va_D (va_A (wsO G σ) sz) (wsO G τ) ∧ (τ.2.2.2.2.2 = true → sz + k = G.2.2.2.2.2 τ.2.2.2.1 ∧ CS G τ.2.2.2.1 ∧ AJ G τ.2.2.2.1 sz)
def QW (G : GG) (σ : MM) (sz k : Nat) (Q : OO → Prop) : Array Value → State → Outcome → State → Prop := fun _ st oc t =>
  (∃ (v : Option Value) (τ : MM), oc = .returned (v.map (cv G)) ∧ Q (.inl v, τ) ∧ EW G σ τ sz k t) ∧ va_F (va_A (wsO G σ) sz) st t
def XW (G : GG) (σ : MM) (sz k : Nat) (Q : OO → Prop) : String → State → State → Prop := fun E st t =>
  (∃ (e : Nat) (τ : MM), E = exc e ∧ τ.2.2.2.2.2 = false ∧ Q (.inr e, τ) ∧ EW G σ τ sz k t) ∧ va_F (va_A (wsO G σ) sz) st t
def CT (l : LX) (y : Nat) (as : List Value) (σ : MM) (k n : Nat) (Q : OO → Prop) : Prop :=
  ∀ (G : GG) (sz : Nat), (σ.2.2.2.2.2 = true → sz = G.2.2.2.2.2 σ.2.2.2.1 ∧ CS G σ.2.2.2.1) → scrOK G l →
    vx_Met l.1 (ynN y) (cdW y :: T0) { frames := htN y, cells := k, slots := n, locals := loN y } (va_Pc (cvs G as) (PW G σ sz)) (QW G σ sz k Q) (XW G σ sz k Q) k n (va_A (wsO G σ) sz)
theorem cdW_plain {y : Nat} (h : hhN y = []) : cdW y = .code (ynN y) (cdN y) (mlN y) (rtN y) := if_pos h
theorem cdW_with {y : Nat} (h : ¬ hhN y = []) : cdW y = .codeWith (ynN y) (cdN y) (mlN y) (rtN y) (hhN y) := if_neg h
theorem mtPlain {y : Nat} (h : y < 333) : plainName (ynN y).cls = true := by
  have := mtOk h
  simp only [mtC, Bool.and_eq_true] at this
  exact this.1.1.1
theorem mtPar {y : Nat} (h : y < 333) : (parseMethodDescriptor (ynN y).desc).map (fun d => d.parameters.length) = some (naN y) := by
  have := mtOk h
  simp only [mtC, Bool.and_eq_true, decide_eq_true_eq] at this
  exact this.1.1.2
theorem mtCls {y : Nat} (h : y < 333) : (ynN y).cls = clsN (owN y) := by
  have := mtOk h
  simp only [mtC, Bool.and_eq_true, decide_eq_true_eq] at this
  exact this.1.2
theorem mtNo {y : Nat} (h : y < 333) : (ynN y).cls ≠ "java/lang/invoke/MethodHandle" ∧ (ynN y).cls ≠ "java/lang/invoke/VarHandle" := by
  have := mtOk h
  simp only [mtC, Bool.and_eq_true, decide_eq_true_eq] at this
  exact this.2
/-! the words of a throw -/
def exUp : List String := ["java/lang/RuntimeException", "java/lang/Exception"]
def exIc (e : Nat) : Nat := [107, 97, 361].getD e 0
def exIk (e : Nat) : Nat := [103, 93, 357].getD e 0
def exW (e : Nat) : List Cond := .classLink "MatchboxModem" (exIk e) (exc e) :: .initialized (exc e) :: vx_atS "MatchboxModem" (exIc e) (exc e) exUp
set_option maxRecDepth 100000 in
theorem exW0 : (List.range 3).all (fun e => (exW e).all (fun w => lw_tbl.any (fun v => decide (v = w)) && (goodWord w || (w.faceAtom && w.onTables)) && vx_ot w)) = true := by decide +kernel
theorem exWt {e : Nat} (he : e < 3) {w : Cond} (hw : w ∈ exW e) : (w ∈ T0 ∨ w ∈ faL) ∧ vx_ot w = true := by
  have h := List.all_eq_true.mp (List.all_eq_true.mp exW0 e (List.mem_range.mpr he)) w hw
  simp only [Bool.and_eq_true, Bool.or_eq_true, List.any_eq_true, decide_eq_true_eq] at h
  obtain ⟨⟨⟨v, hv, rfl⟩, h2⟩, h3⟩ := h
  refine ⟨?_, h3⟩
  rcases h2 with h2 | h2
  · exact Or.inl (List.mem_filter.mpr ⟨hv, h2⟩)
  · exact Or.inr (List.mem_filter.mpr ⟨hv, by rw [h2.1, h2.2]; rfl⟩)
theorem xtOk0 : xtL.all (fun e => decide (e.1.1 < 332) && decide (e.2.1 < 3) && decide (owN e.1.1 = 9) && decide (e.2.2.1 = exIk e.2.1) && decide (e.2.2.2.2.1 = exIc e.2.1) && decide (e.2.2.2.2.2.2 < nTX) && decide (ksE e.2.2.2.2.2.2 = (9, e.2.2.2.1)) &&
  decide (decode (cdN e.1.1) e.1.2 = .ok (.new e.2.2.1, 3)) && decide (decode (cdN e.1.1) (e.1.2 + 3) = .ok (.dup, 1)) &&
  (match e.2.2.2.2.2.1 with
  | false => decide (decode (cdN e.1.1) (e.1.2 + 4) = .ok (.ldc e.2.2.2.1, 2)) && decide (decode (cdN e.1.1) (e.1.2 + 6) = .ok (.invokespecial e.2.2.2.2.1, 3)) && decide (decode (cdN e.1.1) (e.1.2 + 9) = .ok (.athrow, 1))
  | true => decide (decode (cdN e.1.1) (e.1.2 + 4) = .ok (.ldc_w e.2.2.2.1, 3)) && decide (decode (cdN e.1.1) (e.1.2 + 7) = .ok (.invokespecial e.2.2.2.2.1, 3)) && decide (decode (cdN e.1.1) (e.1.2 + 10) = .ok (.athrow, 1)))) = true := by decide +kernel
theorem clsN9 : clsN 9 = "MatchboxModem" := rfl
set_option maxHeartbeats 4000000 in
/-- a throw of the method's own, as a walk over the machine -/
theorem ex_thr {l : LX} {y : Nat} {G : GG} {p : Program} {e : Env} {R : Room} {s : State} {m : MethodId} {args : Array Value} {below : List Frame} {meth : Method} {c : Code} {A : Nat → Prop} {Qc : Array Value → State → Outcome → State → Prop} {XC : String → State → State → Prop} {mc ms : Nat} {free : Addr → Prop}
    (hA : AMB l y G p R s m args meth c A) {H : Heap} {locs : List Loc} {cells slots pc : Nat} {ls : Array Slot} {rest : List Value} {E : Nat} {r : Nat × Nat × Nat × Bool × Nat} (hxt : xtN y pc = some (E, r)) (hls : ls.size = mlN y) (hcat : (rest.map fun v => v.category).sum + 82 ≤ loN y) (hht : 6 ≤ htN y) (hhh : hhN y = [])
    (hRc : mc ≤ R.cells) (hRs : ms ≤ R.slots) (hc : cells + 1 ≤ mc) (hs : slots + 6 ≤ ms) (hS : va_S A s.heap H locs) (hf : ∀ z ∈ locs, free z.base)
    (hX : ∀ t : State, s.vm.Alike t.vm → H.size ≤ t.heap.size → (∀ q : Nat, q < H.size → t.heap[q]? = H[q]?) → XC (exc E) s t) :
    W p l.1 e R s m args below meth c H locs cells slots (vx_MQ below Qc XC args s mc ms free) (F0 m pc ls rest) := by
  obtain ⟨hfl, hx, hb, hml, hr, hown, hlocks, hin, hts, htab, hRf, hRl, hAA, hST⟩ := hA
  unfold xtN at hxt
  cases hfd : xtL.find? (fun e => e.1.1 == y && e.1.2 == pc) with
  | none => rw [hfd] at hxt; cases hxt
  | some f =>
    rw [hfd] at hxt
    have h2 : f.2 = (E, r) := Option.some.inj hxt
    have h3 := List.find?_some hfd
    simp only [Bool.and_eq_true, beq_iff_eq] at h3
    have h4 := List.all_eq_true.mp xtOk0 f (List.mem_of_find?_eq_some hfd)
    obtain ⟨⟨a, b⟩, g⟩ := f
    obtain ⟨rfl, rfl⟩ := h3
    subst h2
    obtain ⟨ik, is, ic, wd, tn⟩ := r
    simp only [Bool.and_eq_true, decide_eq_true_eq] at h4
    obtain ⟨⟨⟨⟨⟨⟨⟨⟨⟨hy, hE⟩, h9⟩, hik⟩, hic⟩, htn⟩, hks⟩, d0⟩, d3⟩, h5⟩ := h4
    have hown9 : s.vm.findClass "MatchboxModem" = some m.cls := by
      rw [h9, clsN9] at hown
      exact hown
    have hwd : ∀ w ∈ exW E, w.before args s = true := fun w hw => by
      rcases (exWt hE hw).1 with h | h
      · exact hts w h
      · have h7 := (List.mem_filter.mp h).2
        simp only [Bool.and_eq_true] at h7
        exact va_Nw.use h7.2 (hST.2.2.2.2.2.2.2.2.1 w h)
    have hot : ∀ w ∈ exW E, vx_ot w = true := fun w hw => (exWt hE hw).2
    have hstr : vk_R "MatchboxModem" is (ksX tn) (G.2.2.2.1 tn) s := by
      have := hST.2.2.2.1 tn htn
      rw [hks] at this
      exact this
    have hcls : Bundle.fit (exc E) = true := by
      have : E = 0 ∨ E = 1 ∨ E = 2 := by omega
      rcases this with rfl | rfl | rfl <;> decide
    have hnm : ∀ n ∈ exUp, Bundle.fit n = true := by decide
    have hno : ∀ q, ∀ x ∈ c.exceptionTable.toList, covers x q = false := fun q x hx9 => by
      rw [htab, hhh] at hx9
      cases hx9
    subst hik; subst hic
    have hU := hST.2.2.2.2.1.1
    have hN := hST.2.2.2.2.1.2
    cases wd with
    | false =>
      simp only [Bool.and_eq_true, decide_eq_true_eq] at h5
      obtain ⟨⟨d4, d6⟩, d9⟩ := h5
      exact vx_throwS (names := exUp) (A := A) hx hb hfl.1 hown9 hcls hnm (hwd _ List.mem_cons_self) (hwd _ (List.mem_cons_of_mem _ List.mem_cons_self)) hstr (fun w hw => hwd w (List.mem_cons_of_mem _ (List.mem_cons_of_mem _ hw))) hot hU hN hS (by rw [hml]; exact hls) d0 d3 d4 d6 d9 (hno _)
        (by rw [hRf]; exact Nat.lt_of_lt_of_le (by decide) hht) (by rw [hRl]; exact Nat.le_trans (Nat.le_of_eq (by rfl)) hcat) (Nat.le_trans hc hRc) (Nat.le_trans hs hRs) hlocks hX hf hc hs
    | true =>
      simp only [Bool.and_eq_true, decide_eq_true_eq] at h5
      obtain ⟨⟨d4, d7⟩, d10⟩ := h5
      exact vx_throwSW (names := exUp) (A := A) hx hb hfl.1 hown9 hcls hnm (hwd _ List.mem_cons_self) (hwd _ (List.mem_cons_of_mem _ List.mem_cons_self)) hstr (fun w hw => hwd w (List.mem_cons_of_mem _ (List.mem_cons_of_mem _ hw))) hot hU hN hS (by rw [hml]; exact hls) d0 d3 d4 d7 d10 (hno _)
        (by rw [hRf]; exact Nat.lt_of_lt_of_le (by decide) hht) (by rw [hRl]; exact Nat.le_trans (Nat.le_of_eq (by rfl)) hcat) (Nat.le_trans hc hRc) (Nat.le_trans hs hRs) hlocks hX hf hc hs
/-! a contract out of a walk -/
theorem WOK.end {G : GG} {A : Nat → Prop} {s t : State} {H : Heap} {locs : List Loc} {σ τ : MM} {sz k : Nat} (hA : A = va_A (wsO G σ) sz) (hsz : s.heap.size = sz) (h : WOK G A s H locs τ) (hf : FR G s τ k) (ht : t.heap = H) : EW G σ τ sz k t := by
  subst hA; subst hsz
  exact ⟨h.1, by rw [ht]; exact h.2.1, h.2.2.1, hf⟩
theorem narrow01 {x : Int32} (h : x = 0 ∨ x = 1) : narrow .boolean (.int x) = .int x := by
  rcases h with rfl | rfl <;> decide
set_option maxHeartbeats 4000000 in
theorem fin_of {l : LX} {y : Nat} {G : GG} {p : Program} {e : Env} {R : Room} {s : State} {m : MethodId} {args : Array Value} {below : List Frame} {meth : Method} {c : Code} {σ : MM} {k n sz : Nat} {Q : OO → Prop} (hsz : s.heap.size = sz)
    (hA : AMB l y G p R s m args meth c (va_A (wsO G σ) sz)) (hRc : k ≤ R.cells) (hRs : n ≤ R.slots) : FIN l y G p e R s m args below meth c (va_A (wsO G σ) sz) k n (vx_MQ below (QW G σ sz k Q) (XW G σ sz k Q) args s k n (va_A (wsO G σ) sz)) Q := by
  have hA0 := hA
  obtain ⟨hfl, hx, hb, hml, hr, hown, hlocks, hin, hts, htab, hRf, hRl, hAA, hST⟩ := hA
  refine ⟨?_, ?_, ?_⟩
  · intro H locs cells slots pc ls v τ hc hs hW hF hI hQ
    refine vx_ret ?_
    refine W.widen hc hs ?_
    have hq : ∀ t : State, t.heap = H → s.WarmedH t.vm → QW G σ sz k Q args s (.returned (v.map (cv G))) t := fun t ht _ => ⟨⟨v, τ, rfl, hQ, WOK.end rfl hsz hW hF ht⟩, hW.2.2.2.F ht⟩
    rcases hI with ⟨hd, x, rfl, h1 | ⟨ty, h1, h2⟩⟩ | ⟨hd, x, rfl, h1⟩ | ⟨hd, x, rfl, h1⟩ | ⟨hd, rfl, h1⟩ | ⟨hd, x, rfl, h1⟩ | ⟨hd, x, ty, rfl, h1, h2⟩
    · exact W.iret hx hb (hr.trans h1) hq hW.2.2.2.2.2 hd hlocks
    · exact W.zret hx hb (hr.trans h1) h2 hq hW.2.2.2.2.2 hd hlocks
    · exact W.fret hx hb (hr.trans h1) hq hW.2.2.2.2.2 hd hlocks
    · exact W.dret hx hb (hr.trans h1) hq hW.2.2.2.2.2 hd hlocks
    · exact W.vret hx hb (hr.trans h1) hq hW.2.2.2.2.2 hd hlocks
    · exact W.lret hx hb (hr.trans h1) hq hW.2.2.2.2.2 hd hlocks
    · exact W.aret hx hb (hr.trans h1) h2 (Or.inr ⟨_, rfl⟩) hq hW.2.2.2.2.2 hd hlocks
  · intro H locs cells slots pc ls rest τ E r hxt hls hcat hht hhh hc hs hW hfr hQ
    refine ex_thr hA0 hxt hls hcat hht hhh hRc hRs hc hs hW.2.2.2 hW.2.2.2.2.2 fun t hvm hz hk => ?_
    have hP : va_P G.1 vwCl (wsO G τ) t.heap := va_P.kept hW.2.1 fun k q hq => hk q.1 (hW.2.1 k q hq).lt
    refine ⟨⟨E, τ, rfl, hfr, hQ, hW.1, hP, hW.2.2.1, fun z => by rw [hfr] at z; cases z⟩, Nat.le_trans hW.2.2.2.1 hz, fun q h1 h2 => ?_⟩
    rw [hk q (Nat.lt_of_lt_of_le h1 hW.2.2.2.1)]
    exact hW.2.2.2.2.1 q h1 h2
  · intro H locs cells slots pc ls rest τ E q ce hhh hc hs hW hfr hQ hce hv hcl
    have hno : ∀ x ∈ c.exceptionTable.toList, covers x pc = false := fun x hx9 => by
      rw [htab, hhh] at hx9
      cases hx9
    exact vx_out hno hlocks hce hv hcl (fun t ht _ => ⟨⟨E, τ, rfl, hfr, hQ, WOK.end rfl hsz hW (fun z => by rw [hfr] at z; cases z) ht⟩, hW.2.2.2.F ht⟩) hW.2.2.2.2.2 hc hs
theorem LR.entry {G : GG} {as : List Value} {n : Nat} {L : LL} (h : (lg_sl (cvs G as)).length ≤ n) (hl : L.length = n) (hs : ∀ (i : Nat) (v : Value), L[i]? = some (some v) → (i, cv G v) ∈ lv_args 0 (cvs G as)) : LR G ((lg_sl (cvs G as) ++ List.replicate (n - (lg_sl (cvs G as)).length) Slot.unset).toArray) n L := LR.of (lv_entry (cvs G as) h) hl hs
/-- the locals at a method's entry -/
def enL : List Value → LL
  | [] => []
  | v :: r => if v.category = 2 then some v :: none :: enL r else some v :: enL r
def en (y : Nat) (as : List Value) : LL := enL as ++ List.replicate (mlN y - (enL as).length) none
theorem enL_len (G : GG) : ∀ as : List Value, (lg_sl (cvs G as)).length = (enL as).length := by
  intro as
  induction as with
  | nil => rfl
  | cons v r ih =>
    have e : cvs G (v :: r) = cv G v :: cvs G r := rfl
    have e2 : lg_sl (cv G v :: cvs G r) = (if (cv G v).category = 2 then [.val (cv G v), .second] else [.val (cv G v)]) ++ lg_sl (cvs G r) := rfl
    rw [e, e2, List.length_append, ih]
    show _ = (if v.category = 2 then some v :: none :: enL r else some v :: enL r).length
    by_cases hc : v.category = 2
    · rw [if_pos ((cv_cat G v).trans hc), if_pos hc]
      simp only [List.length_cons, List.length_nil]
      omega
    · rw [if_neg (fun z => hc ((cv_cat G v).symm.trans z)), if_neg hc]
      simp only [List.length_cons, List.length_nil]
      omega
theorem enL_mem (G : GG) : ∀ (as : List Value) (j i : Nat) (v : Value), (enL as)[i]? = some (some v) → (j + i, cv G v) ∈ lv_args j (cvs G as) := by
  intro as
  induction as with
  | nil => intro j i v h; cases h
  | cons w r ih =>
    intro j i v h
    have e : cvs G (w :: r) = cv G w :: cvs G r := rfl
    rw [e]
    unfold enL at h
    unfold lv_args
    by_cases hc : w.category = 2
    · rw [if_pos hc] at h
      rw [if_pos ((cv_cat G w).trans hc)]
      match i, h with
      | 0, h =>
        have : w = v := Option.some.inj (Option.some.inj h)
        subst this
        exact List.mem_cons_self
      | 1, h => cases h
      | i + 2, h =>
        have := ih (j + 2) i v h
        rw [show j + (i + 2) = j + 2 + i from by omega]
        exact List.mem_cons_of_mem _ this
    · rw [if_neg hc] at h
      rw [if_neg (fun z => hc ((cv_cat G w).symm.trans z))]
      match i, h with
      | 0, h =>
        have : w = v := Option.some.inj (Option.some.inj h)
        subst this
        exact List.mem_cons_self
      | i + 1, h =>
        have := ih (j + 1) i v h
        rw [show j + (i + 1) = j + 1 + i from by omega]
        exact List.mem_cons_of_mem _ this
theorem LR.start {G : GG} {y : Nat} {as : List Value} (h : (enL as).length ≤ mlN y) : LR G ((lg_sl (cvs G as) ++ List.replicate (mlN y - (lg_sl (cvs G as)).length) Slot.unset).toArray) (mlN y) (en y as) := by
  refine LR.entry (by rw [enL_len]; exact h) (by unfold en; rw [List.length_append, List.length_replicate]; omega) fun i v hi => ?_
  unfold en at hi
  by_cases hl : i < (enL as).length
  · rw [List.getElem?_append_left hl] at hi
    have := enL_mem G as 0 i v hi
    rw [Nat.zero_add] at this
    exact this
  · rw [List.getElem?_append_right (Nat.le_of_not_lt hl), List.getElem?_replicate] at hi
    split at hi <;> cases hi
