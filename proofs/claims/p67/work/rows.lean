section
-- ===== PART A: goes FIRST, ahead of the names: the tables' words, and 'selects' of the private methods out of them =====
/-- a private method of a class that the tables say can be made, by its rows of tables_1 -/
def lw_okq (q : MethodName × Nat) : Prop := (q.1.cls ≠ "java/lang/invoke/MethodHandle" ∧ q.1.cls ≠ "java/lang/invoke/VarHandle") ∧ Cond.instantiable q.1.cls q.2 ∈ tables_1 ∧ Cond.privateMethod q.1 ∈ tables_1 ∧ Cond.instanceMethod q.1 ∈ tables_1
theorem lw_p0 : lw_okq (⟨"MatchboxModem", "requireFrame", "(I)V"⟩, 10) := ⟨⟨by decide +kernel, by decide +kernel⟩, List.mem_of_getElem? (i := 29) (by decide +kernel), List.mem_of_getElem? (i := 416) (by decide +kernel), List.mem_of_getElem? (i := 417) (by decide +kernel)⟩
theorem lw_p1 : lw_okq (⟨"java/lang/Throwable", "fillInStackTrace", "(I)Ljava/lang/Throwable;"⟩, 6) := ⟨⟨by decide +kernel, by decide +kernel⟩, List.mem_of_getElem? (i := 458) (by decide +kernel), List.mem_of_getElem? (i := 456) (by decide +kernel), List.mem_of_getElem? (i := 457) (by decide +kernel)⟩
theorem lw_p2 : lw_okq (⟨"MatchboxModem$Sending", "take", "(I)V"⟩, 5) := ⟨⟨by decide +kernel, by decide +kernel⟩, List.mem_of_getElem? (i := 116) (by decide +kernel), List.mem_of_getElem? (i := 530) (by decide +kernel), List.mem_of_getElem? (i := 531) (by decide +kernel)⟩
theorem lw_p3 : lw_okq (⟨"MatchboxModem$Line", "readModem", "(LMatchboxModem$Tokens;)Z"⟩, 13) := ⟨⟨by decide +kernel, by decide +kernel⟩, List.mem_of_getElem? (i := 150) (by decide +kernel), List.mem_of_getElem? (i := 699) (by decide +kernel), List.mem_of_getElem? (i := 700) (by decide +kernel)⟩
theorem lw_p4 : lw_okq (⟨"MatchboxModem$Line", "readDogs", "(LMatchboxModem$Tokens;)Z"⟩, 13) := ⟨⟨by decide +kernel, by decide +kernel⟩, List.mem_of_getElem? (i := 150) (by decide +kernel), List.mem_of_getElem? (i := 725) (by decide +kernel), List.mem_of_getElem? (i := 726) (by decide +kernel)⟩
theorem lw_p5 : lw_okq (⟨"MatchboxModem$Line", "attempt", "(ILMatchboxModem$Sending;)V"⟩, 13) := ⟨⟨by decide +kernel, by decide +kernel⟩, List.mem_of_getElem? (i := 150) (by decide +kernel), List.mem_of_getElem? (i := 774) (by decide +kernel), List.mem_of_getElem? (i := 775) (by decide +kernel)⟩
theorem lw_p6 : lw_okq (⟨"MatchboxModem$Line", "endNap", "()V"⟩, 13) := ⟨⟨by decide +kernel, by decide +kernel⟩, List.mem_of_getElem? (i := 150) (by decide +kernel), List.mem_of_getElem? (i := 778) (by decide +kernel), List.mem_of_getElem? (i := 779) (by decide +kernel)⟩
theorem lw_p7 : lw_okq (⟨"MatchboxModem$Line", "receive", "(II[I)V"⟩, 13) := ⟨⟨by decide +kernel, by decide +kernel⟩, List.mem_of_getElem? (i := 150) (by decide +kernel), List.mem_of_getElem? (i := 783) (by decide +kernel), List.mem_of_getElem? (i := 784) (by decide +kernel)⟩
theorem lw_p8 : lw_okq (⟨"MatchboxModem$Line", "settle", "(II)V"⟩, 13) := ⟨⟨by decide +kernel, by decide +kernel⟩, List.mem_of_getElem? (i := 150) (by decide +kernel), List.mem_of_getElem? (i := 791) (by decide +kernel), List.mem_of_getElem? (i := 792) (by decide +kernel)⟩
theorem lw_p9 : lw_okq (⟨"MatchboxModem", "requireMessage", "(I)V"⟩, 10) := ⟨⟨by decide +kernel, by decide +kernel⟩, List.mem_of_getElem? (i := 29) (by decide +kernel), List.mem_of_getElem? (i := 799) (by decide +kernel), List.mem_of_getElem? (i := 800) (by decide +kernel)⟩
theorem lw_p10 : lw_okq (⟨"MatchboxModem$Line", "endOf", "(I)I"⟩, 13) := ⟨⟨by decide +kernel, by decide +kernel⟩, List.mem_of_getElem? (i := 150) (by decide +kernel), List.mem_of_getElem? (i := 816) (by decide +kernel), List.mem_of_getElem? (i := 817) (by decide +kernel)⟩
def lw_privs_1 : List (MethodName × Nat) := [(⟨"MatchboxModem", "requireFrame", "(I)V"⟩, 10), (⟨"java/lang/Throwable", "fillInStackTrace", "(I)Ljava/lang/Throwable;"⟩, 6), (⟨"MatchboxModem$Sending", "take", "(I)V"⟩, 5), (⟨"MatchboxModem$Line", "readModem", "(LMatchboxModem$Tokens;)Z"⟩, 13), (⟨"MatchboxModem$Line", "readDogs", "(LMatchboxModem$Tokens;)Z"⟩, 13), (⟨"MatchboxModem$Line", "attempt", "(ILMatchboxModem$Sending;)V"⟩, 13), (⟨"MatchboxModem$Line", "endNap", "()V"⟩, 13), (⟨"MatchboxModem$Line", "receive", "(II[I)V"⟩, 13), (⟨"MatchboxModem$Line", "settle", "(II)V"⟩, 13), (⟨"MatchboxModem", "requireMessage", "(I)V"⟩, 10), (⟨"MatchboxModem$Line", "endOf", "(I)I"⟩, 13)]
theorem lw_r1 : ∀ q ∈ lw_privs_1, lw_okq q := List.forall_mem_cons.mpr ⟨lw_p0, List.forall_mem_cons.mpr ⟨lw_p1, List.forall_mem_cons.mpr ⟨lw_p2, List.forall_mem_cons.mpr ⟨lw_p3, List.forall_mem_cons.mpr ⟨lw_p4, List.forall_mem_cons.mpr ⟨lw_p5, List.forall_mem_cons.mpr ⟨lw_p6, List.forall_mem_cons.mpr ⟨lw_p7, List.forall_mem_cons.mpr ⟨lw_p8, List.forall_mem_cons.mpr ⟨lw_p9, List.forall_mem_cons.mpr ⟨lw_p10, fun _ h => absurd h List.not_mem_nil⟩⟩⟩⟩⟩⟩⟩⟩⟩⟩⟩
def lw_privs : List (MethodName × Nat) := lw_privs_1
def lw_tbl : List Cond := k2_sels lw_privs ++ tables_1
theorem lw_privs_ok : ∀ q ∈ lw_privs, lw_okq q := lw_r1
/-- the streams that the claim lets the run draw from -/
abbrev lw_cs : List Choice := [Jvm.Choice.named "NaN.bits"]
theorem lw_bits : nanBits ∈ lw_cs := by first | decide | exact List.mem_cons_self | simp [lw_cs, nanBits]
-- ===== end of PART A; then your names; then what follows =====

/-! ===== BEGIN words of one list among another's, by their places ===== -/
theorem goodIn_r {big : List Cond} (ws : List Cond) (ps : List Nat) (hp : ws = ps.filterMap (fun i => big[i]?)) (h : ws.all goodWord = true) : GoodIn big ws := by
  intro w hw
  have h1 := List.all_eq_true.mp h w hw
  rw [hp] at hw
  obtain ⟨i, -, hi⟩ := List.mem_filterMap.mp hw
  have hm : w ∈ big := by first | exact List.mem_of_getElem? hi | exact List.getElem?_mem hi
  exact ⟨hm, good_of_word h1⟩
theorem goodIn_app {big a b : List Cond} (ha : GoodIn big a) (hb : GoodIn big b) : GoodIn big (a ++ b) := fun w h => (List.mem_append.mp h).elim (ha w) (hb w)
theorem goodIn_ca {big a b : List Cond} {c : Cond} (ha : GoodIn big (c :: a)) (hb : GoodIn big b) : GoodIn big (c :: (a ++ b)) := fun w h => (List.mem_cons.mp h).elim (fun e => ha w (List.mem_cons.mpr (Or.inl e))) (fun h => (List.mem_append.mp h).elim (fun h => ha w (List.mem_cons.mpr (Or.inr h))) (hb w))
theorem goodIn_sub {big ws : List Cond} (hm : ∀ w ∈ ws, w ∈ big) (h : ws.all goodWord = true) : GoodIn big ws := fun w hw => ⟨hm w hw, good_of_word (List.all_eq_true.mp h w hw)⟩
/-! ===== END ===== -/
/-! ===== BEGIN exceptions that leave a method, and their catching by the caller (launches without stack traces) ===== -/
section VXA
/-! The laws vx_back, vx_callV, vx_callS, vx_callSW, vx_throw0, vx_throwS follow proofs of the library, with one case more: JvmDerived/Free/Laws.lean (Back.of_free), Shelf42/LK1.lean (callV, callS), Shelf/KitTraced.lean (throwNew0V, throwNewS). -/
/-- where a method has thrown q: the class by its name, the cell, what was written, the world -/
def vx_T (XC : String → State → State → Prop) (st : State) (q : Addr) (t : State) (mc ms : Nat) (free : Addr → Prop) : Prop :=
  ∃ (E : String) (ce : Cell) (L : List Loc), XC E st t ∧ t.heap[q]? = some ce ∧ ce.vm = .none ∧ st.vm.findClass E = some ce.cls ∧ st.WarmedH t.vm ∧ st.sameButNew ({ t with vm := st.vm } : State) L mc ms ∧ ∀ z ∈ L, free z.base
def vx_Q (Qc : Array Value → State → Outcome → State → Prop) (XC : String → State → State → Prop) (mc ms : Nat) (free : Addr → Prop) : Array Value → State → Outcome → State → Prop := fun a st o t =>
  (Qc a st o t ∧ ∃ L, FrameEnd st o t L mc ms ∧ ∀ q ∈ L, free q.base) ∨ ∃ q, o = .threw q ∧ vx_T XC st q t mc ms free
/-- a callee that returns or throws -/
def vx_Met (l : Launch) (y : MethodName) (ws : List Cond) (rm : Room) (Pc : Array Value → State → Prop) (Qc : Array Value → State → Outcome → State → Prop) (XC : String → State → State → Prop) (mc ms : Nat) (free : Addr → Prop) : Prop :=
  MetFree l y (headSpec ws rm) Pc (fun _ _ _ _ _ => True) (vx_Q Qc XC mc ms free)
def vx_Post (XC : String → State → State → Prop) (mc ms : Nat) (free : Addr → Prop) : Pt → Array Value → Addr → Pt → Prop := fun A a q B =>
  ∃ (g : JFrame) (mk : MethodId) (t : State) (L : List Loc) (E : String) (ce : Cell), B.U.heap = t.heap ∧ B.U.vm = t.vm ∧ XC E (A.U.calling g mk a) t ∧ t.heap[q]? = some ce ∧ ce.vm = .none ∧ A.U.vm.findClass E = some ce.cls ∧ B.locs = A.locs ++ L ∧ (∀ z ∈ L, free z.base) ∧ B.cells = A.cells + mc ∧ B.slots = A.slots + ms
def vx_Back (l : Launch) (R : Room) (p : Program) (e : Env) (below : List Frame) (s : State) (sargs : Array Value) (y : MethodName) (len W9 : Nat)
    (Pre : Pt → Array Value → Prop) (Post : Pt → Array Value → Option Value → Pt → Prop) (PostX : Pt → Array Value → Addr → Pt → Prop) : Prop :=
  ∀ (m : MethodId) (meth : Method) (c : Code) (A : Pt) (g : JFrame) (ig : Instr) (mk : MethodId) (a : Array Value),
    Stand p l e R s m sargs below meth c A.U A.locs A.cells A.slots → g.method = m → g.locals.size = c.maxLocals → decode c.code g.pc = .ok (ig, len) →
    2 * g.monitorRoom + (g.stack.map fun v => v.category).sum ≤ W9 → A.U.methodNamed? y = some mk → Pre A a →
    (∃ (v : Option Value) (B : Pt), Stand p l e R s m sargs below meth c B.U B.locs B.cells B.slots ∧ Post A a v B ∧
      Steps p.tables e below (doInvoke e (A.U.setTop g) [] mk a).1 (B.U.setTop { g with pc := g.pc + len, stack := v.toList ++ g.stack })) ∨
    (∃ (q : Addr) (B : Pt), Stand p l e R s m sargs below meth c B.U B.locs B.cells B.slots ∧ PostX A a q B ∧
      Steps p.tables e below (doInvoke e (A.U.setTop g) [] mk a).1 ((B.U.setTop g).pushFrame (.throwing q)))
section Payer
variable {l : Launch} {R : Room} {p : Program} {e : Env} {below : List Frame} {s : State} {sargs : Array Value} {y : MethodName} {len W9 : Nat}
theorem vx_back {ws : List Cond} {rm : Room} {Pc : Array Value → State → Prop} {Qc : Array Value → State → Outcome → State → Prop} {XC : String → State → State → Prop} {mc ms : Nat} {free : Addr → Prop} {bytes : ByteArray} {maxL : Nat} {ret : Option FieldType}
    (hM : vx_Met l y ws rm Pc Qc XC mc ms free) (hblind : FrameBlind Pc) (hrc : rm.cells = mc) (hrs : rm.slots = ms)
    (hframes : rm.frames + 1 ≤ R.frames) (hlocals : W9 + (maxL + 11) + rm.locals ≤ R.locals)
    (hws : ∀ w ∈ ws, ∀ a' U, s.WarmedH U.vm → w.before a' U = true) (hcode : Cond.code y bytes maxL ret ∈ ws) (hinit : ∀ a' U, s.WarmedH U.vm → (Cond.initialized y.cls).before a' U = true) :
    vx_Back l R p e below s sargs y len W9 (PreOf R mc ms Pc) (PostOf Qc mc ms free) (vx_Post XC mc ms free) := by
  intro m meth c A g ig mk a X hg hsize hdg hW hn hp
  have h1 : (headSpec ws rm).pre.before a A.U = true := atoms_intro fun w hw => hws w hw _ _ X.warmed
  have h2 : (Cond.code y bytes maxL ret).before a A.U = true := hws _ hcode _ _ X.warmed
  have h3 : (Cond.initialized y.cls).before a A.U = true := hinit _ _ X.warmed
  have h4 : A.cells + (headSpec ws rm).room.cells ≤ R.cells := by rw [show (headSpec ws rm).room.cells = mc from hrc]; exact hp.1
  have h5 : A.slots + (headSpec ws rm).room.slots ≤ R.slots := by rw [show (headSpec ws rm).room.slots = ms from hrs]; exact hp.2.1
  have hPc : Pc a (A.U.calling g mk a) := hblind _ _ _ _ hp.2.2
  obtain ⟨U, Ls, c0, s0⟩ := A
  dsimp only [Pt.U, Pt.locs, Pt.cells, Pt.slots] at h1 h2 h3 h4 h5 X hn hPc ⊢
  obtain ⟨methY, cY, hmY, hcY, -, hlY, -, -, -, -⟩ := Cond.code_spec hn h2
  obtain ⟨kY, hkY, -⟩ := className_of_methodNamed hn
  have hinitY : kY.init = .initialized := Cond.initialized_spec (findClass_of_methodNamed hn) hkY h3
  have h : At U g.method c below := by rw [hg]; exact X.here
  have hlocals9 : W9 + (maxL + 11) + (headSpec ws rm).room.locals ≤ R.locals := hlocals
  have happ : (headSpec ws rm).appliesLoose y e.platform (U.calling g mk a) = true :=
    Spec.appliesLoose_calling (g := g) h hdg hn hkY hinitY
      (X.room_calling (g := g) (R' := (headSpec ws rm).room) hsize hmY hcY hframes (by rw [hlY]; omega) h4 h5) h1
  obtain ⟨mid, hmid⟩ := h.above
  have hfr : (U.setTop g).frames = (.java g :: mid) ++ below := by rw [State.frames_setTop' g h.top, hmid]; rfl
  obtain ⟨o, s₂, hsteps, -, hend, hq⟩ := Steps.callFree hM p X.admits X.cas X.clock (acts := []) hfr happ hPc trivial
  have hq' : vx_Q Qc XC mc ms free a (U.calling g mk a) o s₂ := hq
  rw [State.frames_setTop' g h.top] at hend
  obtain ⟨g₀, hg0⟩ := Option.isSome_iff_exists.mp h.top
  obtain ⟨r, hr⟩ := State.topJava?_eq_some.mp hg0
  have hr' : (({ U with heap := s₂.heap, slotsUsed := s₂.slotsUsed } : State).setVm s₂.vm).frames = .java g₀ :: r := hr
  rcases hq' with ⟨hqc, L, hfe, hL⟩ | ⟨q, rfl, E, ce, L, hx, hce, hcv, hcl, hW₂, hsm, hL⟩
  · obtain ⟨⟨v, rfl⟩, hW₂, e2, q2, q3, q4, q5, q6⟩ := id hfe
    have e3 : s₂ = ({ (U.calling g mk a).setFrames s₂.frames with heap := s₂.heap, slotsUsed := s₂.slotsUsed } : State).setVm s₂.vm := by
      have : s₂ = ({ s₂ with vm := (U.calling g mk a).vm } : State).setVm s₂.vm := rfl
      rw [e2] at this
      exact this
    obtain ⟨c₂, i₂, len₂, hc₂, hd₂, hf₂⟩ := hend
    have hW' : U.WarmedH s₂.vm := hW₂
    have hcc : c₂ = c := by
      have h1 : s₂.code? g.method = U.code? g.method := by
        rw [State.code?_eq, State.code?_eq, hW'.alike.method?]
      exact Option.some.inj (hc₂.symm.trans (h1.trans h.code))
    subst hcc
    have hlen : len₂ = len := by rw [hdg] at hd₂; cases hd₂; rfl
    subst hlen
    have hs₂ : s₂ = (({ U with heap := s₂.heap, slotsUsed := s₂.slotsUsed } : State).setVm s₂.vm).setTop { g with pc := g.pc + len₂, stack := v.toList ++ g.stack } := by
      refine e3.trans ?_
      rw [hf₂, State.calling_eq h.top, State.setFrames_setFrames, State.setTop_of_frames _ hr', hr]
      rfl
    have hsame : U.sameButNew ({ U with heap := s₂.heap, slotsUsed := s₂.slotsUsed } : State) L mc ms := by
      refine ⟨?_, q2, q3, q4, q5, q6⟩
      obtain ⟨t, ht, -⟩ := State.frames_cons hr
      show ({ U with heap := s₂.heap, slotsUsed := s₂.slotsUsed } : State) = { U.setFrames U.frames with heap := s₂.heap, slotsUsed := s₂.slotsUsed }
      rw [State.setFrames_self ht]
    subst hg
    refine Or.inl ⟨v, ⟨(({ U with heap := s₂.heap, slotsUsed := s₂.slotsUsed } : State).setVm s₂.vm), Ls ++ L, c0 + mc, s0 + ms⟩,
      ⟨X.admits, X.cas, X.clock, X.frames, X.room, X.hears, X.method, X.code, (X.here.setHeapUsed s₂.heap s₂.slotsUsed).setVm hW'.alike, X.tail, State.WarmedH.trans X.warmed hW', X.limits, X.bytes, X.same.trans (hsame.setVm s.vm)⟩,
      ⟨g, mk, s₂, L, rfl, rfl, hqc, rfl, hL, rfl, rfl⟩, ?_⟩
    show Steps p.tables e below _ ((({ U with heap := s₂.heap, slotsUsed := s₂.slotsUsed } : State).setVm s₂.vm).setTop { g with pc := g.pc + len₂, stack := v.toList ++ g.stack })
    rw [← hs₂]
    exact hsteps
  · obtain ⟨e2, q2, q3, q4, q5, q6⟩ := id hsm
    have e3 : s₂ = ({ (U.calling g mk a).setFrames s₂.frames with heap := s₂.heap, slotsUsed := s₂.slotsUsed } : State).setVm s₂.vm := by
      have : s₂ = ({ s₂ with vm := (U.calling g mk a).vm } : State).setVm s₂.vm := rfl
      rw [e2] at this
      exact this
    have hf₂ : s₂.frames = .throwing q :: .java g :: U.frames.tail := hend
    have hW' : U.WarmedH s₂.vm := hW₂
    have hs₂ : s₂ = ((({ U with heap := s₂.heap, slotsUsed := s₂.slotsUsed } : State).setVm s₂.vm).setTop g).pushFrame (.throwing q) := by
      refine e3.trans ?_
      rw [hf₂, State.calling_eq h.top, State.setFrames_setFrames, State.pushFrame, State.frames_setTop _ hr', State.setTop_of_frames _ hr', State.setFrames_setFrames, hr]
      rfl
    have hsame : U.sameButNew ({ U with heap := s₂.heap, slotsUsed := s₂.slotsUsed } : State) L mc ms := by
      refine ⟨?_, q2, q3, q4, q5, q6⟩
      obtain ⟨t, ht, -⟩ := State.frames_cons hr
      show ({ U with heap := s₂.heap, slotsUsed := s₂.slotsUsed } : State) = { U.setFrames U.frames with heap := s₂.heap, slotsUsed := s₂.slotsUsed }
      rw [State.setFrames_self ht]
    subst hg
    refine Or.inr ⟨q, ⟨(({ U with heap := s₂.heap, slotsUsed := s₂.slotsUsed } : State).setVm s₂.vm), Ls ++ L, c0 + mc, s0 + ms⟩,
      ⟨X.admits, X.cas, X.clock, X.frames, X.room, X.hears, X.method, X.code, (X.here.setHeapUsed s₂.heap s₂.slotsUsed).setVm hW'.alike, X.tail, State.WarmedH.trans X.warmed hW', X.limits, X.bytes, X.same.trans (hsame.setVm s.vm)⟩,
      ⟨g, mk, s₂, L, E, ce, rfl, rfl, hx, hce, hcv, hcl, rfl, hL, rfl, rfl⟩, ?_⟩
    show Steps p.tables e below _ (((({ U with heap := s₂.heap, slotsUsed := s₂.slotsUsed } : State).setVm s₂.vm).setTop g).pushFrame (.throwing q))
    rw [← hs₂]
    exact hsteps
end Payer
section Calls
variable {p : Program} {l : Launch} {e : Env} {R : Room} {s : State} {m : MethodId} {args : Array Value} {below : List Frame} {meth : Method} {c : Code} {T : State} {locs : List Loc} {cells slots : Nat}
theorem vx_callV (X : Stand p l e R s m args below meth c T locs cells slots) (hexec : p.tables.exec = Jvm.exec) {own C : String} {index : Nat} {y : MethodName} {bytes : ByteArray} {maxL : Nat} {ret : Option FieldType}
    (hown : s.vm.findClass own = some m.cls) (hlink : (Cond.methodLink own index y).before args s = true) (hinst : (Cond.instanceMethod y).before args s = true) (hsel : (Cond.selects C y y).before args s = true)
    (hcode : (Cond.code y bytes maxL ret).before args s = true) (hy : y.cls ≠ "java/lang/invoke/MethodHandle" ∧ y.cls ≠ "java/lang/invoke/VarHandle")
    {W9 : Nat} {Pre : Pt → Array Value → Prop} {Post : Pt → Array Value → Option Value → Pt → Prop} {PostX : Pt → Array Value → Addr → Pt → Prop} (hK : vx_Back l R p e below s args y 3 W9 Pre Post PostX)
    {b : Addr} {cellB : Cell} (hcell : T.heap[b]? = some cellB) (hobj : cellB.vm.isStatics = false) (hcls : s.vm.findClass C = some cellB.cls)
    {g : JFrame} (hg : g.method = m) (hsize : g.locals.size = c.maxLocals) {argsL rest : List Value} (hlen : ∀ sig, parseMethodDescriptor y.desc = some sig → argsL.length = sig.parameters.length)
    (hstack : g.stack = argsL.reverse ++ .ref b :: rest) (hW : 2 * g.monitorRoom + (rest.map fun v => v.category).sum ≤ W9) (hdg : decode c.code g.pc = .ok (.invokevirtual index, 3))
    (hpre : ∀ vm₁, s.WarmedH vm₁ → Pre ⟨T.setVm vm₁, locs, cells, slots⟩ (Value.ref b :: argsL).toArray) :
    (∃ (v : Option Value) (vm₁ : Vm) (B : Pt), s.WarmedH vm₁ ∧ Stand p l e R s m args below meth c B.U B.locs B.cells B.slots ∧ Post ⟨T.setVm vm₁, locs, cells, slots⟩ (Value.ref b :: argsL).toArray v B ∧
      ∀ target, Steps p.tables e below (B.U.setTop { g with pc := g.pc + 3, stack := v.toList ++ rest }) target → Steps p.tables e below (T.setTop g) target) ∨
    (∃ (q : Addr) (vm₁ : Vm) (B : Pt), s.WarmedH vm₁ ∧ Stand p l e R s m args below meth c B.U B.locs B.cells B.slots ∧ PostX ⟨T.setVm vm₁, locs, cells, slots⟩ (Value.ref b :: argsL).toArray q B ∧
      Steps p.tables e below (T.setTop g) ((B.U.setTop { g with stack := rest }).pushFrame (.throwing q))) := by
  obtain ⟨mk, methM, hnamed, hmethM, hstM, habM⟩ := Cond.instanceMethod_spec hinst
  obtain ⟨methM', cM, hmethM', -, -, -, -, -, -, hsigM⟩ := Cond.code_spec hnamed hcode
  cases hmethM.symm.trans hmethM'
  obtain ⟨c2, r2, m2, q1, q2, q3, q4, kP, hkP, hkPi⟩ := Cond.selects_spec hsel
  cases hcls.symm.trans q1
  cases (State.methodFound?_of_named hnamed hy).symm.trans q2
  cases hnamed.symm.trans q3
  have hselP : selectMethod e.platform s.vm cellB.cls mk = .method mk := by rw [Launch.admits_selectMethod X.admits]; exact q4
  obtain ⟨vm₁, X₁, hstep₁⟩ := X.invokevirtual hexec hown hlink hnamed hmethM hstM hkP hkPi hy (a := b) (cell := cellB) hcell
    (fun z h => by rw [h] at hobj; cases hobj) hselP hmethM habM hkP hkPi (g := g) hg (argsL := argsL) (rest := rest) (hlen _ hsigM) hstack hdg
  rcases hK m meth c ⟨T.setVm vm₁, locs, cells, slots⟩ { g with stack := rest } (.invokevirtual index) mk (Value.ref b :: argsL).toArray X₁ hg hsize hdg hW (X₁.named hnamed) (hpre vm₁ X₁.warmed) with ⟨v, B, X', hpost, hsteps⟩ | ⟨q, B, X', hpost, hsteps⟩
  · exact Or.inl ⟨v, vm₁, B, X₁.warmed, X', hpost, fun target h => hstep₁ _ fun acts => by rw [doInvoke_state]; exact hsteps.trans h⟩
  · exact Or.inr ⟨q, vm₁, B, X₁.warmed, X', hpost, hstep₁ _ fun acts => by rw [doInvoke_state]; exact hsteps⟩
theorem vx_callS (X : Stand p l e R s m args below meth c T locs cells slots) (hexec : p.tables.exec = Jvm.exec) {own : String} {index : Nat} {y : MethodName} {bytes : ByteArray} {maxL : Nat} {ret : Option FieldType}
    (hown : s.vm.findClass own = some m.cls) (hlink : (Cond.methodLink own index y).before args s = true) (hstat : (Cond.static y).before args s = true) (hinit : (Cond.initialized y.cls).before args s = true)
    (hcode : (Cond.code y bytes maxL ret).before args s = true) (hy : y.cls ≠ "java/lang/invoke/MethodHandle" ∧ y.cls ≠ "java/lang/invoke/VarHandle")
    {W9 : Nat} {Pre : Pt → Array Value → Prop} {Post : Pt → Array Value → Option Value → Pt → Prop} {PostX : Pt → Array Value → Addr → Pt → Prop} (hK : vx_Back l R p e below s args y 3 W9 Pre Post PostX)
    {g : JFrame} (hg : g.method = m) (hsize : g.locals.size = c.maxLocals) {argsL rest : List Value} (hlen : ∀ sig, parseMethodDescriptor y.desc = some sig → argsL.length = sig.parameters.length)
    (hstack : g.stack = argsL.reverse ++ rest) (hW : 2 * g.monitorRoom + (rest.map fun v => v.category).sum ≤ W9) (hdg : decode c.code g.pc = .ok (.invokestatic index, 3))
    (hpre : ∀ vm₁, s.WarmedH vm₁ → Pre ⟨T.setVm vm₁, locs, cells, slots⟩ argsL.toArray) :
    (∃ (v : Option Value) (vm₁ : Vm) (B : Pt), s.WarmedH vm₁ ∧ Stand p l e R s m args below meth c B.U B.locs B.cells B.slots ∧ Post ⟨T.setVm vm₁, locs, cells, slots⟩ argsL.toArray v B ∧
      ∀ target, Steps p.tables e below (B.U.setTop { g with pc := g.pc + 3, stack := v.toList ++ rest }) target → Steps p.tables e below (T.setTop g) target) ∨
    (∃ (q : Addr) (vm₁ : Vm) (B : Pt), s.WarmedH vm₁ ∧ Stand p l e R s m args below meth c B.U B.locs B.cells B.slots ∧ PostX ⟨T.setVm vm₁, locs, cells, slots⟩ argsL.toArray q B ∧
      Steps p.tables e below (T.setTop g) ((B.U.setTop { g with stack := rest }).pushFrame (.throwing q))) := by
  obtain ⟨mk, hnamed⟩ := Cond.code_named hcode
  obtain ⟨methM, cM, hmethM, -, -, -, -, -, -, hsigM⟩ := Cond.code_spec hnamed hcode
  have hstatic : methM.isStatic = true := Cond.static_spec hnamed hmethM hstat
  obtain ⟨kP, hkP, -⟩ := className_of_methodNamed hnamed
  have hinitP : kP.init = .initialized := Cond.initialized_spec (findClass_of_methodNamed hnamed) hkP hinit
  obtain ⟨vm₁, X₁, hstep₁⟩ := X.invokestatic hexec hown hlink hnamed hmethM hstatic hkP hinitP hy (g := g) hg (argsL := argsL) (rest := rest) (hlen _ hsigM) hstack hdg
  rcases hK m meth c ⟨T.setVm vm₁, locs, cells, slots⟩ { g with stack := rest } (.invokestatic index) mk argsL.toArray X₁ hg hsize hdg hW (X₁.named hnamed) (hpre vm₁ X₁.warmed) with ⟨v, B, X', hpost, hsteps⟩ | ⟨q, B, X', hpost, hsteps⟩
  · exact Or.inl ⟨v, vm₁, B, X₁.warmed, X', hpost, fun target h => hstep₁ _ fun acts => by rw [doInvoke_state]; exact hsteps.trans h⟩
  · exact Or.inr ⟨q, vm₁, B, X₁.warmed, X', hpost, hstep₁ _ fun acts => by rw [doInvoke_state]; exact hsteps⟩
end Calls
theorem vx_cls {s : State} {T : State} {vm₁ : Vm} {E : String} {k : ClassId} (hW : s.WarmedH vm₁) (h : (T.setVm vm₁).vm.findClass E = some k) : s.vm.findClass E = some k := by
  have h1 : vm₁.findClass E = some k := h
  rw [hW.alike.findClass] at h1
  exact h1
/-- the method's frame g, with q thrown over it -/
def vx_W (p : Program) (l : Launch) (e : Env) (R : Room) (s : State) (m : MethodId) (args : Array Value) (below : List Frame) (meth : Method) (c : Code) (H : Heap) (locs : List Loc) (cells slots : Nat) (Q : State → Prop) (g : JFrame) (q : Addr) : Prop :=
  ∀ T : State, T.heap = H → Stand p l e R s m args below meth c T locs cells slots → ∃ t, Steps p.tables e below ((T.setTop g).pushFrame (.throwing q)) t ∧ Q t
def vx_Run (p : Program) (l : Launch) (e : Env) (R : Room) (s : State) (m : MethodId) (args : Array Value) (below : List Frame) (meth : Method) (c : Code) (H : Heap) (locs : List Loc) (cells slots mc ms : Nat) (g : JFrame) (rest : List Value) (Qa : State → Outcome → State → Prop) (XC : String → State → State → Prop) (free : Addr → Prop) : Prop :=
  ∀ T : State, T.heap = H → Stand p l e R s m args below meth c T locs cells slots →
    (∃ (v : Option Value) (st₀ t T' : State) (L : List Loc), st₀.heap = H ∧ Stand p l e R s m args below meth c T' (locs ++ L) (cells + mc) (slots + ms) ∧ (∀ q ∈ L, free q.base) ∧ T'.heap = t.heap ∧ T'.vm = t.vm ∧ Qa st₀ (.returned v) t ∧
      Goes p e below T g T' { g with pc := g.pc + 3, stack := v.toList ++ rest }) ∨
    (∃ (q : Addr) (st₀ t T' : State) (L : List Loc) (E : String) (ce : Cell), st₀.heap = H ∧ Stand p l e R s m args below meth c T' (locs ++ L) (cells + mc) (slots + ms) ∧ (∀ z ∈ L, free z.base) ∧ T'.heap = t.heap ∧ T'.vm = t.vm ∧ XC E st₀ t ∧ t.heap[q]? = some ce ∧ ce.vm = .none ∧ s.vm.findClass E = some ce.cls ∧
      Steps p.tables e below (T.setTop g) ((T'.setTop { g with stack := rest }).pushFrame (.throwing q)))
def vx_X {S : Type} (px : S → Prop) (B : String → S → State → Prop) (A : Nat → Prop) : String → State → State → Prop := fun E st t => ∃ u : S, px u ∧ B E u t ∧ va_F A st t
section Runs
variable {p : Program} {l : Launch} {e : Env} {R : Room} {s : State} {m : MethodId} {args : Array Value} {below : List Frame} {meth : Method} {c : Code} {H : Heap} {locs : List Loc} {cells slots : Nat}
variable {y : MethodName} {bytes cc : ByteArray} {maxL nL mc ms n index : Nat} {ret : Option FieldType} {ws : List Cond} {rm : Room} {Pc : Array Value → State → Prop} {Qc : Array Value → State → Outcome → State → Prop} {XC : String → State → State → Prop} {free : Addr → Prop} {Ts : List Cond} {own C : String} {b : Addr} {As rest : List Value} {g : JFrame}
theorem vx_callBack (cb : CallB R s args own index y bytes maxL ret ws rm mc ms n) (hM : vx_Met l y ws rm Pc Qc XC mc ms free) (hbl : FrameBlind Pc) : vx_Back l R p e below s args y 3 8 (PreOf R mc ms Pc) (PostOf Qc mc ms free) (vx_Post XC mc ms free) := by
  obtain ⟨hrc, hrs, hfr, hlo, hws, hcw, -, hini, -⟩ := cb
  exact vx_back (bytes := bytes) (maxL := maxL) (ret := ret) hM hbl hrc hrs hfr hlo hws hcw (fun a' U hW => word_at hW (Or.inl (by first | rfl | simp [Cond.onTables, Cond.keeps, Cond.steady])) hini)
theorem vx_runV (S : CallFix p m c cc nL s args Ts own) (hM : vx_Met l y ws rm Pc Qc XC mc ms free) (cw : CallW R s args own C index y bytes maxL ret ws rm mc ms n) (hp : PreV s H C b Pc As)
    (hg : g.method = m) (hn : As.length = n) (hsize : g.locals.size = nL) (hstack : g.stack = As.reverse ++ .ref b :: rest) (hW : 2 * g.monitorRoom + (rest.map fun v => v.category).sum ≤ 8) (hdg : decode cc g.pc = .ok (.invokevirtual index, 3)) (hf : cells + mc ≤ R.cells ∧ slots + ms ≤ R.slots) :
    vx_Run p l e R s m args below meth c H locs cells slots mc ms g rest (Qc (Value.ref b :: As).toArray) XC free := by
  have hK : vx_Back l R p e below s args y 3 8 (PreOf R mc ms Pc) (PostOf Qc mc ms free) (vx_Post XC mc ms free) := vx_callBack cw.1 hM hp.1
  obtain ⟨⟨-, -, -, -, -, -, hcode, -, hy, hlen, hl⟩, hin, hse⟩ := cw
  obtain ⟨hx, hb, hml, ho, -⟩ := S
  obtain ⟨-, ⟨cellB, hcB, hoB, hclB⟩, hPc⟩ := hp
  intro T hT X
  rcases vx_callV X hx (C := C) (bytes := bytes) (maxL := maxL) (ret := ret) ho hl hin hse hcode hy hK (by rw [hT]; exact hcB) hoB hclB hg (hsize.trans hml.symm) (argsL := As) (rest := rest) (fun sig h => hn.trans (hlen sig h)) hstack hW (by rw [hb]; exact hdg)
    (fun vm₁ hW₁ => ⟨hf.1, hf.2, hPc (T.setVm vm₁) hT hW₁⟩) with ⟨v, vm₁, ⟨U', l2, c2, s2⟩, hW₁, X', ⟨g', mk, t, L, e1, e2, hq, h1, hL, h2, h3⟩, st⟩ | ⟨q, vm₁, ⟨U', l2, c2, s2⟩, hW₁, X', ⟨g', mk, t, L, E, ce, e1, e2, hq, hce, hcv, hcl, h1, hL, h2, h3⟩, st⟩
  · dsimp only [Pt.U, Pt.locs, Pt.cells, Pt.slots] at X' e1 e2 h1 h2 h3 st
    subst h1; subst h2; subst h3
    exact Or.inl ⟨v, (T.setVm vm₁).calling g' mk (Value.ref b :: As).toArray, t, U', L, hT, X', hL, e1, e2, hq, st⟩
  · dsimp only [Pt.U, Pt.locs, Pt.cells, Pt.slots] at X' e1 e2 h1 h2 h3 st hcl
    subst h1; subst h2; subst h3
    exact Or.inr ⟨q, (T.setVm vm₁).calling g' mk (Value.ref b :: As).toArray, t, U', L, E, ce, hT, X', hL, e1, e2, hq, hce, hcv, vx_cls hW₁ hcl, st⟩
theorem vx_runS (S : CallFix p m c cc nL s args Ts own) (hM : vx_Met l y ws rm Pc Qc XC mc ms free) (cw : CallB R s args own index y bytes maxL ret ws rm mc ms n ∧ (Cond.static y).before args s = true) (hp : PreS s H Pc As)
    (hg : g.method = m) (hn : As.length = n) (hsize : g.locals.size = nL) (hstack : g.stack = As.reverse ++ rest) (hW : 2 * g.monitorRoom + (rest.map fun v => v.category).sum ≤ 8) (hdg : decode cc g.pc = .ok (.invokestatic index, 3)) (hf : cells + mc ≤ R.cells ∧ slots + ms ≤ R.slots) :
    vx_Run p l e R s m args below meth c H locs cells slots mc ms g rest (Qc As.toArray) XC free := by
  have hK : vx_Back l R p e below s args y 3 8 (PreOf R mc ms Pc) (PostOf Qc mc ms free) (vx_Post XC mc ms free) := vx_callBack cw.1 hM hp.1
  obtain ⟨⟨-, -, -, -, -, -, hcode, hini, hy, hlen, hl⟩, hstt⟩ := cw
  obtain ⟨hx, hb, hml, ho, -⟩ := S
  intro T hT X
  rcases vx_callS X hx (bytes := bytes) (maxL := maxL) (ret := ret) ho hl hstt hini hcode hy hK hg (hsize.trans hml.symm) (argsL := As) (rest := rest) (fun sig h => hn.trans (hlen sig h)) hstack hW (by rw [hb]; exact hdg)
    (fun vm₁ hW₁ => ⟨hf.1, hf.2, hp.2 (T.setVm vm₁) hT hW₁⟩) with ⟨v, vm₁, ⟨U', l2, c2, s2⟩, hW₁, X', ⟨g', mk, t, L, e1, e2, hq, h1, hL, h2, h3⟩, st⟩ | ⟨q, vm₁, ⟨U', l2, c2, s2⟩, hW₁, X', ⟨g', mk, t, L, E, ce, e1, e2, hq, hce, hcv, hcl, h1, hL, h2, h3⟩, st⟩
  · dsimp only [Pt.U, Pt.locs, Pt.cells, Pt.slots] at X' e1 e2 h1 h2 h3 st
    subst h1; subst h2; subst h3
    exact Or.inl ⟨v, (T.setVm vm₁).calling g' mk As.toArray, t, U', L, hT, X', hL, e1, e2, hq, st⟩
  · dsimp only [Pt.U, Pt.locs, Pt.cells, Pt.slots] at X' e1 e2 h1 h2 h3 st hcl
    subst h1; subst h2; subst h3
    exact Or.inr ⟨q, (T.setVm vm₁).calling g' mk As.toArray, t, U', L, E, ce, hT, X', hL, e1, e2, hq, hce, hcv, vx_cls hW₁ hcl, st⟩
end Runs
section Rows
variable {p : Program} {l : Launch} {e : Env} {R : Room} {s : State} {m : MethodId} {args : Array Value} {below : List Frame} {meth : Method} {c : Code} {H : Heap} {locs : List Loc} {cells slots : Nat} {Q : State → Prop}
variable {mc ms : Nat} {free : Addr → Prop} {A0 A1 : Nat → Prop} {H0 : Heap} {a : Array Value} {pc : Nat} {ls : Array Slot} {st0 rest : List Value}
theorem vx_keep {st₀ t T' : State} {L : List Loc} (h0 : st₀.heap = H) (e1 : T'.heap = t.heap) (hS : va_S A0 H0 H locs) (hA : ∀ q, q < H.size → A1 q → A0 q) (hf : ∀ q, free q → A0 q) (hL : ∀ q ∈ L, free q.base) (hF : va_F A1 st₀ t) :
    H.size ≤ T'.heap.size ∧ (∀ q : Nat, q < H.size → ¬ A1 q → T'.heap[q]? = H[q]?) ∧ va_S A0 H0 T'.heap (locs ++ L) := by
  obtain ⟨hz, hk⟩ := hF
  rw [h0] at hz hk
  exact ⟨by rw [e1]; exact hz, fun q h1 h2 => by rw [e1]; exact hk q h1 h2,
    ⟨Nat.le_trans hS.1 (by rw [e1]; exact hz), fun q h1 h2 => by rw [e1, hk q (Nat.lt_of_lt_of_le h1 hS.1) (fun z => h2 (hA q (Nat.lt_of_lt_of_le h1 hS.1) z))]; exact hS.2.1 q h1 h2, fun q hq => by
      rcases List.mem_append.mp hq with h | h
      · exact hS.2.2 q h
      · exact hf _ (hL q h)⟩⟩
theorem vx_calli {S SX : Type} {post : Int32 → S → Prop} {px : SX → Prop} {B : S → State → Prop} {BX : String → SX → State → Prop} {AX : Nat → Prop} (hr : vx_Run p l e R s m args below meth c H locs cells slots mc ms (F0 m pc ls st0) rest (va_Qi post B A1 a) (vx_X px BX AX) free) (hS : va_S A0 H0 H locs) (hA : ∀ q, q < H.size → A1 q → A0 q) (hf : ∀ q, free q → A0 q) (hAX : ∀ q, q < H.size → AX q → A0 q)
    (kx : ∀ (E : String) (ce : Cell) (q9 : Addr) (u : SX) (t : State) (H1 : Heap) (locs1 : List Loc), t.heap = H1 → s.vm.Alike t.vm → px u → BX E u t → H.size ≤ H1.size → (∀ q : Nat, q < H.size → ¬ AX q → H1[q]? = H[q]?) → va_S A0 H0 H1 locs1 → H1[q9]? = some ce → ce.vm = .none → s.vm.findClass E = some ce.cls → vx_W p l e R s m args below meth c H1 locs1 (cells + mc) (slots + ms) Q (F0 m pc ls rest) q9)
    (kk : ∀ (r : Int32) (u : S) (t : State) (H1 : Heap) (locs1 : List Loc), t.heap = H1 → s.vm.Alike t.vm → post r u → B u t → H.size ≤ H1.size → (∀ q : Nat, q < H.size → ¬ A1 q → H1[q]? = H[q]?) → va_S A0 H0 H1 locs1 → W p l e R s m args below meth c H1 locs1 (cells + mc) (slots + ms) Q (F0 m (pc + 3) ls (.int r :: rest))) : W p l e R s m args below meth c H locs cells slots Q (F0 m pc ls st0) := by
  intro T hT X
  rcases hr T hT X with ⟨v, st₀, t, T', L, h0, X', hL, e1, e2, ⟨⟨r, u, hv, hp, hb⟩, hF⟩, st⟩ | ⟨q, st₀, t, T', L, E, ce, h0, X', hL, e1, e2, ⟨u, hp, hb, hF⟩, hce, hcv, hcl, st⟩
  · cases hv
    obtain ⟨k1, k2, k3⟩ := vx_keep h0 e1 hS hA hf hL hF
    obtain ⟨t2, a1, b1⟩ := kk r u t T'.heap (locs ++ L) e1.symm (by rw [← e2]; exact X'.warmed.alike) hp hb k1 k2 k3 T' rfl X'
    exact ⟨t2, st t2 a1, b1⟩
  · obtain ⟨k1, k2, k3⟩ := vx_keep h0 e1 hS hAX hf hL hF
    obtain ⟨t2, a1, b1⟩ := kx E ce q u t T'.heap (locs ++ L) e1.symm (by rw [← e2]; exact X'.warmed.alike) hp hb k1 k2 k3 (by rw [e1]; exact hce) hcv hcl T' rfl X'
    exact ⟨t2, st.trans a1, b1⟩
theorem vx_calll {S SX : Type} {post : Int64 → S → Prop} {px : SX → Prop} {B : S → State → Prop} {BX : String → SX → State → Prop} {AX : Nat → Prop} (hr : vx_Run p l e R s m args below meth c H locs cells slots mc ms (F0 m pc ls st0) rest (va_Ql post B A1 a) (vx_X px BX AX) free) (hS : va_S A0 H0 H locs) (hA : ∀ q, q < H.size → A1 q → A0 q) (hf : ∀ q, free q → A0 q) (hAX : ∀ q, q < H.size → AX q → A0 q)
    (kx : ∀ (E : String) (ce : Cell) (q9 : Addr) (u : SX) (t : State) (H1 : Heap) (locs1 : List Loc), t.heap = H1 → s.vm.Alike t.vm → px u → BX E u t → H.size ≤ H1.size → (∀ q : Nat, q < H.size → ¬ AX q → H1[q]? = H[q]?) → va_S A0 H0 H1 locs1 → H1[q9]? = some ce → ce.vm = .none → s.vm.findClass E = some ce.cls → vx_W p l e R s m args below meth c H1 locs1 (cells + mc) (slots + ms) Q (F0 m pc ls rest) q9)
    (kk : ∀ (r : Int64) (u : S) (t : State) (H1 : Heap) (locs1 : List Loc), t.heap = H1 → s.vm.Alike t.vm → post r u → B u t → H.size ≤ H1.size → (∀ q : Nat, q < H.size → ¬ A1 q → H1[q]? = H[q]?) → va_S A0 H0 H1 locs1 → W p l e R s m args below meth c H1 locs1 (cells + mc) (slots + ms) Q (F0 m (pc + 3) ls (.long r :: rest))) : W p l e R s m args below meth c H locs cells slots Q (F0 m pc ls st0) := by
  intro T hT X
  rcases hr T hT X with ⟨v, st₀, t, T', L, h0, X', hL, e1, e2, ⟨⟨r, u, hv, hp, hb⟩, hF⟩, st⟩ | ⟨q, st₀, t, T', L, E, ce, h0, X', hL, e1, e2, ⟨u, hp, hb, hF⟩, hce, hcv, hcl, st⟩
  · cases hv
    obtain ⟨k1, k2, k3⟩ := vx_keep h0 e1 hS hA hf hL hF
    obtain ⟨t2, a1, b1⟩ := kk r u t T'.heap (locs ++ L) e1.symm (by rw [← e2]; exact X'.warmed.alike) hp hb k1 k2 k3 T' rfl X'
    exact ⟨t2, st t2 a1, b1⟩
  · obtain ⟨k1, k2, k3⟩ := vx_keep h0 e1 hS hAX hf hL hF
    obtain ⟨t2, a1, b1⟩ := kx E ce q u t T'.heap (locs ++ L) e1.symm (by rw [← e2]; exact X'.warmed.alike) hp hb k1 k2 k3 (by rw [e1]; exact hce) hcv hcl T' rfl X'
    exact ⟨t2, st.trans a1, b1⟩
theorem vx_callf {S SX : Type} {post : UInt32 → S → Prop} {px : SX → Prop} {B : S → State → Prop} {BX : String → SX → State → Prop} {AX : Nat → Prop} (hr : vx_Run p l e R s m args below meth c H locs cells slots mc ms (F0 m pc ls st0) rest (va_Qf post B A1 a) (vx_X px BX AX) free) (hS : va_S A0 H0 H locs) (hA : ∀ q, q < H.size → A1 q → A0 q) (hf : ∀ q, free q → A0 q) (hAX : ∀ q, q < H.size → AX q → A0 q)
    (kx : ∀ (E : String) (ce : Cell) (q9 : Addr) (u : SX) (t : State) (H1 : Heap) (locs1 : List Loc), t.heap = H1 → s.vm.Alike t.vm → px u → BX E u t → H.size ≤ H1.size → (∀ q : Nat, q < H.size → ¬ AX q → H1[q]? = H[q]?) → va_S A0 H0 H1 locs1 → H1[q9]? = some ce → ce.vm = .none → s.vm.findClass E = some ce.cls → vx_W p l e R s m args below meth c H1 locs1 (cells + mc) (slots + ms) Q (F0 m pc ls rest) q9)
    (kk : ∀ (r : UInt32) (u : S) (t : State) (H1 : Heap) (locs1 : List Loc), t.heap = H1 → s.vm.Alike t.vm → post r u → B u t → H.size ≤ H1.size → (∀ q : Nat, q < H.size → ¬ A1 q → H1[q]? = H[q]?) → va_S A0 H0 H1 locs1 → W p l e R s m args below meth c H1 locs1 (cells + mc) (slots + ms) Q (F0 m (pc + 3) ls (.float r :: rest))) : W p l e R s m args below meth c H locs cells slots Q (F0 m pc ls st0) := by
  intro T hT X
  rcases hr T hT X with ⟨v, st₀, t, T', L, h0, X', hL, e1, e2, ⟨⟨r, u, hv, hp, hb⟩, hF⟩, st⟩ | ⟨q, st₀, t, T', L, E, ce, h0, X', hL, e1, e2, ⟨u, hp, hb, hF⟩, hce, hcv, hcl, st⟩
  · cases hv
    obtain ⟨k1, k2, k3⟩ := vx_keep h0 e1 hS hA hf hL hF
    obtain ⟨t2, a1, b1⟩ := kk r u t T'.heap (locs ++ L) e1.symm (by rw [← e2]; exact X'.warmed.alike) hp hb k1 k2 k3 T' rfl X'
    exact ⟨t2, st t2 a1, b1⟩
  · obtain ⟨k1, k2, k3⟩ := vx_keep h0 e1 hS hAX hf hL hF
    obtain ⟨t2, a1, b1⟩ := kx E ce q u t T'.heap (locs ++ L) e1.symm (by rw [← e2]; exact X'.warmed.alike) hp hb k1 k2 k3 (by rw [e1]; exact hce) hcv hcl T' rfl X'
    exact ⟨t2, st.trans a1, b1⟩
theorem vx_calld {S SX : Type} {post : UInt64 → S → Prop} {px : SX → Prop} {B : S → State → Prop} {BX : String → SX → State → Prop} {AX : Nat → Prop} (hr : vx_Run p l e R s m args below meth c H locs cells slots mc ms (F0 m pc ls st0) rest (va_Qd post B A1 a) (vx_X px BX AX) free) (hS : va_S A0 H0 H locs) (hA : ∀ q, q < H.size → A1 q → A0 q) (hf : ∀ q, free q → A0 q) (hAX : ∀ q, q < H.size → AX q → A0 q)
    (kx : ∀ (E : String) (ce : Cell) (q9 : Addr) (u : SX) (t : State) (H1 : Heap) (locs1 : List Loc), t.heap = H1 → s.vm.Alike t.vm → px u → BX E u t → H.size ≤ H1.size → (∀ q : Nat, q < H.size → ¬ AX q → H1[q]? = H[q]?) → va_S A0 H0 H1 locs1 → H1[q9]? = some ce → ce.vm = .none → s.vm.findClass E = some ce.cls → vx_W p l e R s m args below meth c H1 locs1 (cells + mc) (slots + ms) Q (F0 m pc ls rest) q9)
    (kk : ∀ (r : UInt64) (u : S) (t : State) (H1 : Heap) (locs1 : List Loc), t.heap = H1 → s.vm.Alike t.vm → post r u → B u t → H.size ≤ H1.size → (∀ q : Nat, q < H.size → ¬ A1 q → H1[q]? = H[q]?) → va_S A0 H0 H1 locs1 → W p l e R s m args below meth c H1 locs1 (cells + mc) (slots + ms) Q (F0 m (pc + 3) ls (.double r :: rest))) : W p l e R s m args below meth c H locs cells slots Q (F0 m pc ls st0) := by
  intro T hT X
  rcases hr T hT X with ⟨v, st₀, t, T', L, h0, X', hL, e1, e2, ⟨⟨r, u, hv, hp, hb⟩, hF⟩, st⟩ | ⟨q, st₀, t, T', L, E, ce, h0, X', hL, e1, e2, ⟨u, hp, hb, hF⟩, hce, hcv, hcl, st⟩
  · cases hv
    obtain ⟨k1, k2, k3⟩ := vx_keep h0 e1 hS hA hf hL hF
    obtain ⟨t2, a1, b1⟩ := kk r u t T'.heap (locs ++ L) e1.symm (by rw [← e2]; exact X'.warmed.alike) hp hb k1 k2 k3 T' rfl X'
    exact ⟨t2, st t2 a1, b1⟩
  · obtain ⟨k1, k2, k3⟩ := vx_keep h0 e1 hS hAX hf hL hF
    obtain ⟨t2, a1, b1⟩ := kx E ce q u t T'.heap (locs ++ L) e1.symm (by rw [← e2]; exact X'.warmed.alike) hp hb k1 k2 k3 (by rw [e1]; exact hce) hcv hcl T' rfl X'
    exact ⟨t2, st.trans a1, b1⟩
theorem vx_callv {S SX : Type} {post : S → Prop} {px : SX → Prop} {B : S → State → Prop} {BX : String → SX → State → Prop} {AX : Nat → Prop} (hr : vx_Run p l e R s m args below meth c H locs cells slots mc ms (F0 m pc ls st0) rest (va_Qv post B A1 a) (vx_X px BX AX) free) (hS : va_S A0 H0 H locs) (hA : ∀ q, q < H.size → A1 q → A0 q) (hf : ∀ q, free q → A0 q) (hAX : ∀ q, q < H.size → AX q → A0 q)
    (kx : ∀ (E : String) (ce : Cell) (q9 : Addr) (u : SX) (t : State) (H1 : Heap) (locs1 : List Loc), t.heap = H1 → s.vm.Alike t.vm → px u → BX E u t → H.size ≤ H1.size → (∀ q : Nat, q < H.size → ¬ AX q → H1[q]? = H[q]?) → va_S A0 H0 H1 locs1 → H1[q9]? = some ce → ce.vm = .none → s.vm.findClass E = some ce.cls → vx_W p l e R s m args below meth c H1 locs1 (cells + mc) (slots + ms) Q (F0 m pc ls rest) q9)
    (kk : ∀ (u : S) (t : State) (H1 : Heap) (locs1 : List Loc), t.heap = H1 → s.vm.Alike t.vm → post u → B u t → H.size ≤ H1.size → (∀ q : Nat, q < H.size → ¬ A1 q → H1[q]? = H[q]?) → va_S A0 H0 H1 locs1 → W p l e R s m args below meth c H1 locs1 (cells + mc) (slots + ms) Q (F0 m (pc + 3) ls (rest))) : W p l e R s m args below meth c H locs cells slots Q (F0 m pc ls st0) := by
  intro T hT X
  rcases hr T hT X with ⟨v, st₀, t, T', L, h0, X', hL, e1, e2, ⟨⟨u, hv, hp, hb⟩, hF⟩, st⟩ | ⟨q, st₀, t, T', L, E, ce, h0, X', hL, e1, e2, ⟨u, hp, hb, hF⟩, hce, hcv, hcl, st⟩
  · cases hv
    obtain ⟨k1, k2, k3⟩ := vx_keep h0 e1 hS hA hf hL hF
    obtain ⟨t2, a1, b1⟩ := kk u t T'.heap (locs ++ L) e1.symm (by rw [← e2]; exact X'.warmed.alike) hp hb k1 k2 k3 T' rfl X'
    exact ⟨t2, st t2 a1, b1⟩
  · obtain ⟨k1, k2, k3⟩ := vx_keep h0 e1 hS hAX hf hL hF
    obtain ⟨t2, a1, b1⟩ := kx E ce q u t T'.heap (locs ++ L) e1.symm (by rw [← e2]; exact X'.warmed.alike) hp hb k1 k2 k3 (by rw [e1]; exact hce) hcv hcl T' rfl X'
    exact ⟨t2, st.trans a1, b1⟩
/-- caught by the row x of this method's table; the rows ahead don't take it -/
theorem vx_catch {own name : String} {E : String} {ce : Cell} {q : Addr} (hown : s.vm.findClass own = some m.cls) (pre : List ExceptionTableEntry) (x : ExceptionTableEntry) (suf : List ExceptionTableEntry) (hsplit : c.exceptionTable.toList = pre ++ x :: suf)
    (hpass : ∀ z ∈ pre, covers z pc = false ∨ (z.catchType ≠ 0 ∧ ∃ nm : String, (Cond.classLink own z.catchType nm).before args s = true ∧ va_Nc E nm s)) (hx : covers x pc = true) (h0 : x.catchType ≠ 0)
    (hlink : (Cond.classLink own x.catchType name).before args s = true) (hcast : (Cond.castable E name).before args s = true) (hcell : H[q]? = some ce) (hv : ce.vm = .none) (hcl : s.vm.findClass E = some ce.cls)
    (kk : W p l e R s m args below meth c H locs cells slots Q (F0 m x.handlerPc ls [.ref q])) : vx_W p l e R s m args below meth c H locs cells slots Q (F0 m pc ls rest) q := by
  intro T hT X
  have hpl : e.platform.magicAccessors = ({} : Platform).magicAccessors := by rw [X.admits.platform]
  obtain ⟨c3, c4, hc3, hc4, hasg⟩ := Cond.castable_spec hcast
  cases Option.some.inj (hc3.symm.trans hcl)
  obtain ⟨c5, hc5, hcl5⟩ := Cond.classLink_spec hown hlink e.platform hpl
  cases Option.some.inj (hc4.symm.trans hc5)
  obtain ⟨vm', X', st⟩ := X.thenCaughtThrough q (g := F0 m pc ls rest) rfl (Steps.refl _) (by rw [hT]; exact hcell) (by rw [hv]; rfl) (by obtain ⟨k9, h9, -⟩ := Vm.findClass_spec hcl; exact ⟨k9, h9⟩) pre x suf hsplit
    (fun z hz => by
      rcases hpass z hz with h | ⟨hz0, nm, hl1, hn1⟩
      · exact Or.inl h
      · obtain ⟨c6, hc6, hcl6⟩ := Cond.classLink_spec hown hl1 e.platform hpl
        obtain ⟨a8, b8, h1, h2, h3⟩ := hn1
        cases Option.some.inj (h1.symm.trans hcl)
        cases Option.some.inj (h2.symm.trans hc6)
        exact Or.inr ⟨hz0, _, hcl6, h3⟩) hx (Or.inr ⟨h0, c4, hcl5, hasg⟩)
  obtain ⟨t, a1, b1⟩ := kk (T.setVm vm') hT X'
  exact ⟨t, st.trans a1, b1⟩
end Rows
section Ends
variable {p : Program} {l : Launch} {e : Env} {R : Room} {s : State} {m : MethodId} {args : Array Value} {below : List Frame} {meth : Method} {c : Code} {H : Heap} {locs : List Loc} {cells slots : Nat} {Q : State → Prop}
variable {mc ms : Nat} {free : Addr → Prop} {A0 A1 : Nat → Prop} {H0 : Heap} {a : Array Value} {ls : Array Slot} {st0 rest : List Value}
variable {Qc : Array Value → State → Outcome → State → Prop} {XC : String → State → State → Prop}
/-- what a body that may throw owes at its end -/
def vx_MQ (below : List Frame) (Qc : Array Value → State → Outcome → State → Prop) (XC : String → State → State → Prop) (a : Array Value) (s : State) (mc ms : Nat) (free : Addr → Prop) : State → Prop := fun t =>
  ∃ o, t.status = .running ∧ Ended t below o ∧ vx_Q Qc XC mc ms free a s o t
theorem vx_ret {g : JFrame} {mc ms : Nat} (k : W p l e R s m args below meth c H locs cells slots (MQ below Qc args s mc ms free) g) : W p l e R s m args below meth c H locs cells slots (vx_MQ below Qc XC args s mc ms free) g := by
  intro T hT X
  obtain ⟨t, a1, o, b1, b2, b3, b4⟩ := k T hT X
  exact ⟨t, a1, o, b1, b2, Or.inl ⟨b3, b4⟩⟩
/-- not caught here: it goes on to the caller -/
theorem vx_widen {g : JFrame} {q : Addr} {k n : Nat} (h1 : cells ≤ k) (h2 : slots ≤ n) (kk : vx_W p l e R s m args below meth c H locs k n Q g q) : vx_W p l e R s m args below meth c H locs cells slots Q g q := fun T hT X => kk T hT (stand_widen X h1 h2)
theorem vx_out {pc : Nat} {E : String} {ce : Cell} {q : Addr} {mc ms : Nat} (hout : ∀ x ∈ c.exceptionTable.toList, covers x pc = false) (hlocks : meth.locks = false) (hcell : H[q]? = some ce) (hv : ce.vm = .none) (hcl : s.vm.findClass E = some ce.cls)
    (hx : ∀ t : State, t.heap = H → s.vm.Alike t.vm → XC E s t) (hf : ∀ z ∈ locs, free z.base) (hc : cells ≤ mc) (hs : slots ≤ ms) :
    vx_W p l e R s m args below meth c H locs cells slots (vx_MQ below Qc XC args s mc ms free) (F0 m pc ls rest) q := by
  intro T hT X
  obtain ⟨st1, hrun, hend, hW, hsm⟩ := X.leaveThrown q (g := F0 m pc ls rest) rfl rfl rfl hout hlocks
  have hcell9 : (T.setFrames (.throwing q :: below)).heap[q]? = some ce := by
    show T.heap[q]? = some ce
    rw [hT]; exact hcell
  exact ⟨_, st1, .threw q, hrun, hend, Or.inr ⟨q, rfl, E, ce, locs, hx _ hT hW.alike, hcell9, hv, hcl, hW, hsm.mono hc hs, hf⟩⟩
theorem vx_frame {U : State} {k n : Nat} (h : s.sameButNew ({ U with vm := s.vm } : State) locs k n) : s.heap.size ≤ U.heap.size ∧ ∀ q : Nat, q < s.heap.size → (∀ z ∈ locs, z.base ≠ q) → U.heap[q]? = s.heap[q]? := by
  obtain ⟨-, h2, -, -, -, h6⟩ := h
  refine ⟨h2, fun q hq hz => ?_⟩
  obtain ⟨c9, e1, e2, e3, e4⟩ := h6 q _ (Array.getElem?_eq_getElem hq)
  have hs : c9.slots = (s.heap[q]).slots := Array.ext_getElem? fun i => e4 i fun hm => hz _ hm rfl
  have h9 : c9 = s.heap[q] := by
    rw [hs] at e2
    exact e2
  have e5 : U.heap[q]? = some c9 := e1
  rw [e5, h9, Array.getElem?_eq_getElem hq]
/-- the words of a throw but the four that speak of the heap -/
def vx_no (w : Cond) : Bool := decide (w ≠ .isRef (.static Bundle.tN "UNASSIGNED_STACK" Bundle.steD)) && decide (w ≠ .isRef (.static Bundle.tN "SUPPRESSED_SENTINEL" Bundle.listD)) && decide (w ≠ .laysStatic Bundle.tN "UNASSIGNED_STACK" Bundle.steD) && decide (w ≠ .laysStatic Bundle.tN "SUPPRESSED_SENTINEL" Bundle.listD)
def vx_at0 (own : String) (ic : Nat) (X : String) (names : List String) : List Cond := (Bundle.ownAtoms0 own ic X names).filter vx_no
def vx_atS (own : String) (ic : Nat) (X : String) (names : List String) : List Cond := (Bundle.ownAtoms own ic X names).filter vx_no
/-- a word that the tables alone decide, or a good one -/
def vx_ot (w : Cond) : Bool := w.onTables || goodWord w
theorem vx_ot_at {args a' : Array Value} {s U : State} {w : Cond} (hW : s.WarmedH U.vm) (hvm : s.vm = U.vm) (hg : vx_ot w = true) (h : w.before args s = true) : w.before a' U = true := by
  simp only [vx_ot, Bool.or_eq_true] at hg
  rcases hg with hg | hg
  · exact va_tabs hg hvm h
  · exact word_at hW (good_of_word hg) h
/-- a list's words: the good ones out of the method's own list, the others by premises of their own -/
theorem vx_hat {args : Array Value} {s : State} {L B : List Cond} (h1 : ∀ w ∈ L.filter goodWord, w.before args s = true) (h2 : ∀ w ∈ L.filter (fun w => !goodWord w), w ∈ B) (h3 : ∀ w ∈ B, w.before args s = true) : ∀ w ∈ L, w.before args s = true := by
  intro w hw
  by_cases g : goodWord w = true
  · exact h1 w (List.mem_filter.mpr ⟨hw, g⟩)
  · refine h3 w (h2 w (List.mem_filter.mpr ⟨hw, ?_⟩))
    show (!goodWord w) = true
    cases hgw : goodWord w
    · rfl
    · exact absurd hgw g
theorem vx_c {args : Array Value} {s : State} {w : Cond} {B : List Cond} (h : w.before args s = true) (t : ∀ w ∈ B, w.before args s = true) : ∀ w' ∈ w :: B, w'.before args s = true := fun w' h' => (List.mem_cons.mp h').elim (fun e => by rw [e]; exact h) (t w')
theorem vx_n {args : Array Value} {s : State} : ∀ w ∈ ([] : List Cond), w.before args s = true := fun _ h => nomatch h
theorem vx_own {args : Array Value} {s : State} {L : List Cond} (h1 : ∀ w ∈ L.filter vx_no, w.before args s = true)
    (hU : (Cond.isRef (.static Bundle.tN "UNASSIGNED_STACK" Bundle.steD)).before args s = true) (hN : (Cond.isRef (.static Bundle.tN "SUPPRESSED_SENTINEL" Bundle.listD)).before args s = true)
    (lU : (Cond.laysStatic Bundle.tN "UNASSIGNED_STACK" Bundle.steD).before args s = true) (lN : (Cond.laysStatic Bundle.tN "SUPPRESSED_SENTINEL" Bundle.listD).before args s = true) : ∀ w ∈ L, w.before args s = true := by
  intro w hw
  by_cases e1 : w = .isRef (.static Bundle.tN "UNASSIGNED_STACK" Bundle.steD)
  · rw [e1]; exact hU
  · by_cases e2 : w = .isRef (.static Bundle.tN "SUPPRESSED_SENTINEL" Bundle.listD)
    · rw [e2]; exact hN
    · by_cases e3 : w = .laysStatic Bundle.tN "UNASSIGNED_STACK" Bundle.steD
      · rw [e3]; exact lU
      · by_cases e4 : w = .laysStatic Bundle.tN "SUPPRESSED_SENTINEL" Bundle.listD
        · rw [e4]; exact lN
        · exact h1 w (List.mem_filter.mpr ⟨hw, by unfold vx_no; rw [decide_eq_true e1, decide_eq_true e2, decide_eq_true e3, decide_eq_true e4]; rfl⟩)
/-- where a static field lies, its class's statics cell in H -/
def vx_L (C n d : String) (A : Nat → Prop) (U : State) (H : Heap) : Prop := ∃ (c : ClassId) (k : Class) (i : Nat) (f : Field) (a : Nat) (cell : Cell), U.vm.findClass C = some c ∧ U.fieldFound? C n d = some (c, k, i, f) ∧ f.isStatic = true ∧ k.statics = some a ∧ H[a]? = some cell ∧ cell.vm.isStatics = true ∧ cell.cls = c ∧ f.slot < cell.slots.size ∧ k.staticTypes[f.slot]? = some f.type ∧ ¬ A a
theorem vx_L.moved {C n d : String} {A : Nat → Prop} {u U : State} {H : Heap} (hvm : u.vm.Alike U.vm) (h : vx_L C n d A u H) : vx_L C n d A U H := by
  obtain ⟨c, k, i, f, a, cell, h1, h2, h3, h4, h5, h6, h7, h8, h9, h10⟩ := h
  obtain ⟨k', hi', he⟩ := State.fieldFound?_setVm hvm h2
  exact ⟨c, k', i, f, a, cell, by rw [hvm.findClass]; exact h1, hi', h3, by rw [he]; exact h4, h5, h6, h7, h8, by rw [he]; exact h9, h10⟩
theorem vx_L.kept {C n d : String} {A : Nat → Prop} {U : State} {H H1 : Heap} (h : vx_L C n d A U H) (hq : ∀ a : Nat, a < H.size → ¬ A a → H1[a]? = H[a]?) : vx_L C n d A U H1 := by
  obtain ⟨c, k, i, f, a, cell, h1, h2, h3, h4, h5, h6, h7, h8, h9, h10⟩ := h
  exact ⟨c, k, i, f, a, cell, h1, h2, h3, h4, by rw [hq a (Array.getElem?_eq_some_iff.mp h5).1 h10]; exact h5, h6, h7, h8, h9, h10⟩
theorem vx_L.narrow {C n d : String} {A B : Nat → Prop} {U : State} {H : Heap} (h : vx_L C n d A U H) (hAB : ∀ q, B q → A q) : vx_L C n d B U H := by
  obtain ⟨c, k, i, f, a, cell, h1, h2, h3, h4, h5, h6, h7, h8, h9, h10⟩ := h
  exact ⟨c, k, i, f, a, cell, h1, h2, h3, h4, h5, h6, h7, h8, h9, fun z => h10 (hAB _ z)⟩
theorem vx_L.word {C n d : String} {A : Nat → Prop} {s : State} {args : Array Value} (h : vx_L C n d A s s.heap) : (Cond.laysStatic C n d).before args s = true := by
  obtain ⟨c, k, i, f, a, cell, h1, h2, h3, h4, h5, h6, h7, h8, h9, -⟩ := h
  show (Cond.laysStatic C n d).holds args s none s [] = true
  exact Cond.laysStatic_of h1 h2 h3 h4 h5 h6 h7 h8 h9
/-- .. and what it holds: null or some reference -/
def vx_Zq (C n d : String) (A : Nat → Prop) (U : State) (H : Heap) : Prop := va_Zq C n d A U H ∧ vx_L C n d A U H
theorem vx_Zq.moved {C n d : String} {A : Nat → Prop} {u U : State} {H : Heap} (hvm : u.vm.Alike U.vm) (h : vx_Zq C n d A u H) : vx_Zq C n d A U H := ⟨va_Zq.moved hvm h.1, vx_L.moved hvm h.2⟩
theorem vx_Zq.kept {C n d : String} {A : Nat → Prop} {U : State} {H H1 : Heap} (h : vx_Zq C n d A U H) (hq : ∀ a : Nat, a < H.size → ¬ A a → H1[a]? = H[a]?) : vx_Zq C n d A U H1 := ⟨va_Zq.kept h.1 hq, vx_L.kept h.2 hq⟩
theorem vx_Zq.narrow {C n d : String} {A B : Nat → Prop} {U : State} {H : Heap} (h : vx_Zq C n d A U H) (hAB : ∀ q, B q → A q) : vx_Zq C n d B U H := ⟨va_Zq.narrow h.1 hAB, vx_L.narrow h.2 hAB⟩
theorem vx_Zqof {args : Array Value} {s : State} {C n d : String} {A : Nat → Prop} (hl : (Cond.laysStatic C n d).before args s = true) (hini : (Cond.initialized C).before args s = true) (h : (Cond.isRef (.static C n d)).before args s = true) (hA : ∀ a : Nat, a < s.heap.size → ¬ A a) : vx_Zq C n d A s s.heap := by
  refine ⟨va_Zqof hl hini h hA, ?_⟩
  obtain ⟨c, k, i, f, a, cell, h1, h2, h3, h4, h5, h6, h7, h8, h9⟩ := Cond.laysStatic_spec hl
  exact ⟨c, k, i, f, a, cell, h1, h2, h3, h4, h5, h6, h7, h8, h9, hA a (Array.getElem?_eq_some_iff.mp h5).1⟩
theorem vx_isRef {C n d : String} {v : Value} {A : Nat → Prop} {s : State} {args : Array Value} (h : va_Z C n d v A s s.heap) (hv : v.isRef = true) : (Cond.isRef (.static C n d)).before args s = true := by
  obtain ⟨cf, kf, fi, f, a, cell, h1, h2, h3, h4, h5, h6, h7, -⟩ := h
  have he : (Term.static C n d).eval args s none [] s = some v := by
    simp [Term.eval, State.fieldNamed?, h1, h2, h4, h5, h6, h7]
  simp only [Cond.before, Cond.holds, Cond.value, he]
  cases v <;> simp_all [Value.isRef]
theorem vx_isRefq {C n d : String} {A : Nat → Prop} {s : State} {args : Array Value} (h : va_Zq C n d A s s.heap) : (Cond.isRef (.static C n d)).before args s = true := by
  rcases h with h | ⟨t, h⟩
  · exact vx_isRef h rfl
  · exact vx_isRef h rfl
/-- the same frame, seen from here: as if the method were called anew in this heap -/
theorem vx_rebase {T : State} (X : Stand p l e R s m args below meth c T locs cells slots) {R' : Room} (hf : R'.frames ≤ R.frames) (hl : R'.locals ≤ R.locals) (hc : cells + R'.cells ≤ R.cells) (hs : slots + R'.slots ≤ R.slots) :
    Stand p l e R' ((T.setVm s.vm).setFrames (.invoking m args :: below)) m args below meth c T [] 0 0 := by
  have htop : (T.setVm s.vm).topJava?.isSome := X.here.top
  have hF : ((T.setVm s.vm).setFrames (.invoking m args :: below)).frames = .invoking m args :: below := State.frames_setFrames _ (State.cur_lt_of_top htop)
  obtain ⟨g₀, hg0⟩ := Option.isSome_iff_exists.mp htop
  obtain ⟨r, hr⟩ := State.topJava?_eq_some.mp hg0
  have hl9 : e.platform.stackLimits (T.setVm s.vm).me = e.platform.stackLimits s.me := X.limits
  have hb9 : (T.setVm s.vm).me.stackBytes = s.me.stackBytes := X.bytes
  refine ⟨X.admits, X.cas, X.clock, hF, ?_, X.hears, X.method, X.code, X.here, X.tail, X.warmed, ?_, ?_, ?_⟩
  · have h := X.room
    have hU : ((T.setVm s.vm).setFrames (.invoking m args :: below)).localsInUse = s.localsInUse := by
      rw [State.localsInUse_invoking hF (meth := meth) (c := c) X.method X.code, State.localsInUse_invoking X.frames X.method X.code]
    simp only [State.hasRoom, Bool.and_eq_true, decide_eq_true_eq] at h ⊢
    obtain ⟨⟨⟨⟨h1, h2, h3, h4, h5, h6⟩, h7⟩, h8⟩, h9⟩ := h
    rw [X.frames, List.length_cons] at h2 h3
    have q1 := X.heapSize
    have q2 := X.used
    simp only [hF, hU, List.length_cons, State.stackLimits_setFrames, State.stackBytes_setFrames, hl9, hb9]
    refine ⟨⟨⟨⟨by omega, by omega, by omega, by omega, by omega, h6⟩, ?_⟩, ?_⟩, X.book⟩
    · show T.heap.size + R'.cells ≤ e.platform.maxCells
      omega
    · show T.slotsUsed + R'.slots ≤ e.platform.maxSlots
      omega
  · rw [State.stackLimits_setFrames]; rfl
  · rw [State.stackBytes_setFrames]; rfl
  · refine ⟨?_, Nat.le_refl _, Nat.le_refl _, ?_, ?_, fun a c9 h9 => ⟨c9, h9, rfl, rfl, fun _ _ => rfl⟩⟩
    · obtain ⟨t, ht, -⟩ := State.frames_cons hr
      show T.setVm s.vm = { ((T.setVm s.vm).setFrames (.invoking m args :: below)).setFrames (T.setVm s.vm).frames with heap := T.heap, slotsUsed := T.slotsUsed }
      rw [State.setFrames_setFrames, State.setFrames_self ht]
      rfl
    · show T.slotsUsed = T.slotsUsed + ((T.heap.toList.drop T.heap.size).map (·.slots.size)).sum
      rw [List.drop_eq_nil_of_le (Nat.le_of_eq Array.length_toList)]
      rfl
    · show ((T.heap.toList.drop T.heap.size).map (·.slots.size)).sum ≤ 0
      rw [List.drop_eq_nil_of_le (Nat.le_of_eq Array.length_toList)]
      exact Nat.le_refl _
/-- 'throw new E()': new; dup; invokespecial; athrow -/
theorem vx_throw0 {cc : ByteArray} {pc : Nat} (hexec : p.tables.exec = Jvm.exec) (hb : c.code = cc) (hl : l.stackTraces = false) {own cls : String} {names : List String} {ik ic mc ms : Nat} {A : Nat → Prop}
    (hown : s.vm.findClass own = some m.cls) (hcls : Bundle.fit cls = true) (hnames : ∀ n ∈ names, Bundle.fit n = true)
    (hk : (Cond.classLink own ik cls).before args s = true) (hini : (Cond.initialized cls).before args s = true) (hat : ∀ w ∈ vx_at0 own ic cls names, w.before args s = true)
    (hgood : ∀ w ∈ Cond.classLink own ik cls :: Cond.initialized cls :: vx_at0 own ic cls names, vx_ot w = true)
    (hU : vx_Zq Bundle.tN "UNASSIGNED_STACK" Bundle.steD A s s.heap) (hN : vx_Zq Bundle.tN "SUPPRESSED_SENTINEL" Bundle.listD A s s.heap) (hS : va_S A s.heap H locs) (hsize : ls.size = c.maxLocals)
    (d0 : decode cc pc = .ok (.new ik, 3)) (d3 : decode cc (pc + 3) = .ok (.dup, 1)) (d4 : decode cc (pc + 4) = .ok (.invokespecial ic, 3)) (d7 : decode cc (pc + 7) = .ok (.athrow, 1))
    (hout : ∀ x ∈ c.exceptionTable.toList, covers x (pc + 7) = false)
    (hRframes : names.length + 3 < R.frames) (hRlocals : (rest.map fun v => v.category).sum + (13 * (names.length + 1) + 42) ≤ R.locals) (hRcells : cells + 1 ≤ R.cells) (hRslots : slots + 6 ≤ R.slots) (hlocks : meth.locks = false)
    (hx : ∀ t : State, s.vm.Alike t.vm → H.size ≤ t.heap.size → (∀ q : Nat, q < H.size → t.heap[q]? = H[q]?) → XC cls s t)
    (hf : ∀ z ∈ locs, free z.base) (hc : cells + 1 ≤ mc) (hs : slots + 6 ≤ ms) :
    W p l e R s m args below meth c H locs cells slots (vx_MQ below Qc XC args s mc ms free) (F0 m pc ls rest) := by
  intro T hT X
  have htr : e.platform.stackTraces = false := (show e.platform.stackTraces = l.stackTraces by rw [X.admits.platform]).trans hl
  have Y := vx_rebase X (R' := { frames := R.frames, locals := R.locals, cells := 1, slots := 6 }) (Nat.le_refl _) (Nat.le_refl _) hRcells hRslots
  obtain ⟨s', hA⟩ : ∃ z, z = (T.setVm s.vm).setFrames (.invoking m args :: below) := ⟨_, rfl⟩
  rw [← hA] at Y
  have hvm : s'.vm = s.vm := by rw [hA]; rfl
  have hhp : s'.heap = H := by rw [hA]; exact hT
  have hW0 : s.WarmedH s'.vm := by rw [hvm]; exact State.WarmedH.refl s
  have hat' : ∀ w ∈ vx_at0 own ic cls names, w.before args s' = true := fun w hw => vx_ot_at hW0 hvm.symm (hgood w (List.mem_cons_of_mem _ (List.mem_cons_of_mem _ hw))) (hat w hw)
  have hk' : (Cond.classLink own ik cls).before args s' = true := vx_ot_at hW0 hvm.symm (hgood _ List.mem_cons_self) hk
  have hini' : (Cond.initialized cls).before args s' = true := vx_ot_at hW0 hvm.symm (hgood _ (List.mem_cons_of_mem _ List.mem_cons_self)) hini
  have hU' : vx_Zq Bundle.tN "UNASSIGNED_STACK" Bundle.steD A s' s'.heap := by rw [hhp]; exact vx_Zq.moved hW0.alike (hU.kept hS.2.1)
  have hN' : vx_Zq Bundle.tN "SUPPRESSED_SENTINEL" Bundle.listD A s' s'.heap := by rw [hhp]; exact vx_Zq.moved hW0.alike (hN.kept hS.2.1)
  have h : ∀ w ∈ Bundle.ownAtoms0 own ic cls names, w.before args s' = true := vx_own hat' (vx_isRefq hU'.1) (vx_isRefq hN'.1) hU'.2.word hN'.2.word
  have hown' : s'.vm.findClass own = some m.cls := by rw [hvm]; exact hown
  have hins : (Cond.instantiable cls 6).before args s' = true := h _ (by simp [Bundle.ownAtoms0])
  obtain ⟨vm₁, cX, kX, hfX, hkX, -, -, X₁, st1⟩ := Y.newCold hexec (own := own) (C := cls) (index := ik) (n := 6) hown' hk' hins hini'
    (g := F0 m pc ls rest) rfl (by rw [hb]; exact d0) (Nat.le_refl _) (Nat.le_refl _)
  generalize hT1 : (T.setVm vm₁).pushCell { cls := cX, slots := kX.instanceTypes.map defaultValue, vm := .none } = T1 at X₁ st1
  have hcat : (Value.ref T.heap.size).category = 1 := rfl
  have hcellA : T1.heap[T.heap.size]? = some (freshCell cX kX) := by rw [← hT1]; exact State.heap_pushCell_size _ _
  have d3' : decode c.code (pc + 3) = .ok (.dup, 1) := by rw [hb]; exact d3
  obtain ⟨U, hsteps, hrun, hend, hW, hsame, ce, hce, hO⟩ := X₁.ctorThrow0 hexec htr (own := own) (cls := cls) (names := names) (ic := ic) hown' hcls hnames h (fun x hx => nomatch hx) hfX hkX hcellA (by rw [hhp, hT]; exact Nat.le_refl _)
    (g := { method := m, pc := pc + 4, locals := ls, stack := .ref T.heap.size :: .ref T.heap.size :: rest, locked := none }) rfl hsize rfl rfl (rest := rest) rfl
    (by rw [hb]; exact d4) (by rw [hb]; exact d7) hout hRframes (by simp only [List.map_cons, List.sum_cons, hcat]; omega) hlocks
  obtain ⟨f1, f2⟩ := vx_frame hsame
  rw [hhp] at f1 f2
  have hWs : s.WarmedH U.vm := State.WarmedH.trans hW0 hW
  have hcl : s.vm.findClass cls = some ce.cls := by
    have h9 := hO.cls
    rw [hvm] at h9
    exact h9
  have hall : s.sameButNew ({ U with vm := s.vm } : State) locs mc ms := by
    subst hA
    obtain ⟨e1, e2⟩ := hsame
    rw [State.setFrames_setFrames] at e1
    have h2 : (T.setVm s.vm).sameButNew ({ U with vm := s.vm } : State) [] (0 + 1) (0 + 6) := ⟨e1, e2⟩
    have h3 := X.same.trans h2
    rw [List.append_nil] at h3
    exact h3.mono hc hs
  refine ⟨U, ?_, .threw T.heap.size, hrun, hend, Or.inr ⟨T.heap.size, rfl, cls, ce, locs, hx U hWs.alike f1 (fun q hq => f2 q hq (fun z hz => nomatch hz)), hce, hO.vm, hcl, hWs, hall, hf⟩⟩
  refine st1 _ ?_
  show Steps p.tables e below (T1.setTop { method := m, pc := pc + 3, locals := ls, stack := .ref T.heap.size :: rest, locked := none }) _
  jvm_step X₁.here [X₁.here.top, hexec, d3', Value.category]
  exact hsteps
/-- 'throw new E("text")': new; dup; ldc; invokespecial; athrow -/
theorem vx_throwS {cc : ByteArray} {pc : Nat} (hexec : p.tables.exec = Jvm.exec) (hb : c.code = cc) (hl : l.stackTraces = false) {own cls text : String} {names : List String} {ik is ic mc ms sa : Nat} {A : Nat → Prop}
    (hown : s.vm.findClass own = some m.cls) (hcls : Bundle.fit cls = true) (hnames : ∀ n ∈ names, Bundle.fit n = true)
    (hk : (Cond.classLink own ik cls).before args s = true) (hini : (Cond.initialized cls).before args s = true) (hstr : vk_R own is text sa s) (hat : ∀ w ∈ vx_atS own ic cls names, w.before args s = true)
    (hgood : ∀ w ∈ Cond.classLink own ik cls :: Cond.initialized cls :: vx_atS own ic cls names, vx_ot w = true)
    (hU : vx_Zq Bundle.tN "UNASSIGNED_STACK" Bundle.steD A s s.heap) (hN : vx_Zq Bundle.tN "SUPPRESSED_SENTINEL" Bundle.listD A s s.heap) (hS : va_S A s.heap H locs) (hsize : ls.size = c.maxLocals)
    (d0 : decode cc pc = .ok (.new ik, 3)) (d3 : decode cc (pc + 3) = .ok (.dup, 1)) (d4 : decode cc (pc + 4) = .ok (.ldc is, 2)) (d6 : decode cc (pc + 6) = .ok (.invokespecial ic, 3)) (d9 : decode cc (pc + 9) = .ok (.athrow, 1))
    (hout : ∀ x ∈ c.exceptionTable.toList, covers x (pc + 9) = false)
    (hRframes : names.length + 3 < R.frames) (hRlocals : (rest.map fun v => v.category).sum + (13 * (names.length + 1) + 43) ≤ R.locals) (hRcells : cells + 1 ≤ R.cells) (hRslots : slots + 6 ≤ R.slots) (hlocks : meth.locks = false)
    (hx : ∀ t : State, s.vm.Alike t.vm → H.size ≤ t.heap.size → (∀ q : Nat, q < H.size → t.heap[q]? = H[q]?) → XC cls s t)
    (hf : ∀ z ∈ locs, free z.base) (hc : cells + 1 ≤ mc) (hs : slots + 6 ≤ ms) :
    W p l e R s m args below meth c H locs cells slots (vx_MQ below Qc XC args s mc ms free) (F0 m pc ls rest) := by
  intro T hT X
  have htr : e.platform.stackTraces = false := (show e.platform.stackTraces = l.stackTraces by rw [X.admits.platform]).trans hl
  have Y := vx_rebase X (R' := { frames := R.frames, locals := R.locals, cells := 1, slots := 6 }) (Nat.le_refl _) (Nat.le_refl _) hRcells hRslots
  obtain ⟨s', hA⟩ : ∃ z, z = (T.setVm s.vm).setFrames (.invoking m args :: below) := ⟨_, rfl⟩
  rw [← hA] at Y
  have hvm : s'.vm = s.vm := by rw [hA]; rfl
  have hhp : s'.heap = H := by rw [hA]; exact hT
  have hW0 : s.WarmedH s'.vm := by rw [hvm]; exact State.WarmedH.refl s
  have hat' : ∀ w ∈ vx_atS own ic cls names, w.before args s' = true := fun w hw => vx_ot_at hW0 hvm.symm (hgood w (List.mem_cons_of_mem _ (List.mem_cons_of_mem _ hw))) (hat w hw)
  have hk' : (Cond.classLink own ik cls).before args s' = true := vx_ot_at hW0 hvm.symm (hgood _ List.mem_cons_self) hk
  have hini' : (Cond.initialized cls).before args s' = true := vx_ot_at hW0 hvm.symm (hgood _ (List.mem_cons_of_mem _ List.mem_cons_self)) hini
  have hU' : vx_Zq Bundle.tN "UNASSIGNED_STACK" Bundle.steD A s' s'.heap := by rw [hhp]; exact vx_Zq.moved hW0.alike (hU.kept hS.2.1)
  have hN' : vx_Zq Bundle.tN "SUPPRESSED_SENTINEL" Bundle.listD A s' s'.heap := by rw [hhp]; exact vx_Zq.moved hW0.alike (hN.kept hS.2.1)
  have h : ∀ w ∈ Bundle.ownAtoms own ic cls names, w.before args s' = true := vx_own hat' (vx_isRefq hU'.1) (vx_isRefq hN'.1) hU'.2.word hN'.2.word
  have hown' : s'.vm.findClass own = some m.cls := by rw [hvm]; exact hown
  have hins : (Cond.instantiable cls 6).before args s' = true := h _ (by simp [Bundle.ownAtoms])
  obtain ⟨vm₁, cX, kX, hfX, hkX, -, -, X₁, st1⟩ := Y.newCold hexec (own := own) (C := cls) (index := ik) (n := 6) hown' hk' hins hini'
    (g := F0 m pc ls rest) rfl (by rw [hb]; exact d0) (Nat.le_refl _) (Nat.le_refl _)
  generalize hT1 : (T.setVm vm₁).pushCell { cls := cX, slots := kX.instanceTypes.map defaultValue, vm := .none } = T1 at X₁ st1
  have hcat : (Value.ref T.heap.size).category = 1 := rfl
  have hcellA : T1.heap[T.heap.size]? = some (freshCell cX kX) := by rw [← hT1]; exact State.heap_pushCell_size _ _
  have d3' : decode c.code (pc + 3) = .ok (.dup, 1) := by rw [hb]; exact d3
  have d4' : decode c.code (pc + 4) = .ok (.ldc is, 2) := by rw [hb]; exact d4
  have hstr' : vk_R own is text sa s' := vk_R.warm hW0 hstr
  obtain ⟨U, hsteps, hrun, hend, hW, hsame, ce, hce, hO⟩ := X₁.ctorThrowS hexec htr (own := own) (cls := cls) (names := names) (ic := ic) hown' hcls hnames h (fun x hx => nomatch hx) hfX hkX hcellA (by rw [hhp, hT]; exact Nat.le_refl _) (msg := .ref sa) rfl
    (g := { method := m, pc := pc + 6, locals := ls, stack := .ref sa :: .ref T.heap.size :: .ref T.heap.size :: rest, locked := none }) rfl hsize rfl rfl (rest := rest) rfl
    (by rw [hb]; exact d6) (by rw [hb]; exact d9) hout hRframes (by simp only [List.map_cons, List.sum_cons, hcat]; omega) hlocks
  obtain ⟨f1, f2⟩ := vx_frame hsame
  rw [hhp] at f1 f2
  have hWs : s.WarmedH U.vm := State.WarmedH.trans hW0 hW
  have hcl : s.vm.findClass cls = some ce.cls := by
    have h9 := hO.cls
    rw [hvm] at h9
    exact h9
  have hall : s.sameButNew ({ U with vm := s.vm } : State) locs mc ms := by
    subst hA
    obtain ⟨e1, e2⟩ := hsame
    rw [State.setFrames_setFrames] at e1
    have h2 : (T.setVm s.vm).sameButNew ({ U with vm := s.vm } : State) [] (0 + 1) (0 + 6) := ⟨e1, e2⟩
    have h3 := X.same.trans h2
    rw [List.append_nil] at h3
    exact h3.mono hc hs
  refine ⟨U, ?_, .threw T.heap.size, hrun, hend, Or.inr ⟨T.heap.size, rfl, cls, ce, locs, hx U hWs.alike f1 (fun q hq => f2 q hq (fun z hz => nomatch hz)), hce, hO.vm, hcl, hWs, hall, hf⟩⟩
  refine st1 _ ?_
  show Steps p.tables e below (T1.setTop { method := m, pc := pc + 3, locals := ls, stack := .ref T.heap.size :: rest, locked := none }) _
  jvm_step X₁.here [X₁.here.top, hexec, d3', Value.category]
  exact X₁.ldcString hexec (own := own) (text := text) (index := is) (a := sa) hown' hstr'.1 hstr'.2
    (g := { method := m, pc := pc + 4, locals := ls, stack := .ref T.heap.size :: .ref T.heap.size :: rest, locked := none }) rfl d4' _ hsteps
/-- 'throw new E("text")', the text by a wide index -/
theorem vx_throwSW {cc : ByteArray} {pc : Nat} (hexec : p.tables.exec = Jvm.exec) (hb : c.code = cc) (hl : l.stackTraces = false) {own cls text : String} {names : List String} {ik is ic mc ms sa : Nat} {A : Nat → Prop}
    (hown : s.vm.findClass own = some m.cls) (hcls : Bundle.fit cls = true) (hnames : ∀ n ∈ names, Bundle.fit n = true)
    (hk : (Cond.classLink own ik cls).before args s = true) (hini : (Cond.initialized cls).before args s = true) (hstr : vk_R own is text sa s) (hat : ∀ w ∈ vx_atS own ic cls names, w.before args s = true)
    (hgood : ∀ w ∈ Cond.classLink own ik cls :: Cond.initialized cls :: vx_atS own ic cls names, vx_ot w = true)
    (hU : vx_Zq Bundle.tN "UNASSIGNED_STACK" Bundle.steD A s s.heap) (hN : vx_Zq Bundle.tN "SUPPRESSED_SENTINEL" Bundle.listD A s s.heap) (hS : va_S A s.heap H locs) (hsize : ls.size = c.maxLocals)
    (d0 : decode cc pc = .ok (.new ik, 3)) (d3 : decode cc (pc + 3) = .ok (.dup, 1)) (d4 : decode cc (pc + 4) = .ok (.ldc_w is, 3)) (d7 : decode cc (pc + 7) = .ok (.invokespecial ic, 3)) (d10 : decode cc (pc + 10) = .ok (.athrow, 1))
    (hout : ∀ x ∈ c.exceptionTable.toList, covers x (pc + 10) = false)
    (hRframes : names.length + 3 < R.frames) (hRlocals : (rest.map fun v => v.category).sum + (13 * (names.length + 1) + 43) ≤ R.locals) (hRcells : cells + 1 ≤ R.cells) (hRslots : slots + 6 ≤ R.slots) (hlocks : meth.locks = false)
    (hx : ∀ t : State, s.vm.Alike t.vm → H.size ≤ t.heap.size → (∀ q : Nat, q < H.size → t.heap[q]? = H[q]?) → XC cls s t)
    (hf : ∀ z ∈ locs, free z.base) (hc : cells + 1 ≤ mc) (hs : slots + 6 ≤ ms) :
    W p l e R s m args below meth c H locs cells slots (vx_MQ below Qc XC args s mc ms free) (F0 m pc ls rest) := by
  intro T hT X
  have htr : e.platform.stackTraces = false := (show e.platform.stackTraces = l.stackTraces by rw [X.admits.platform]).trans hl
  have Y := vx_rebase X (R' := { frames := R.frames, locals := R.locals, cells := 1, slots := 6 }) (Nat.le_refl _) (Nat.le_refl _) hRcells hRslots
  obtain ⟨s', hA⟩ : ∃ z, z = (T.setVm s.vm).setFrames (.invoking m args :: below) := ⟨_, rfl⟩
  rw [← hA] at Y
  have hvm : s'.vm = s.vm := by rw [hA]; rfl
  have hhp : s'.heap = H := by rw [hA]; exact hT
  have hW0 : s.WarmedH s'.vm := by rw [hvm]; exact State.WarmedH.refl s
  have hat' : ∀ w ∈ vx_atS own ic cls names, w.before args s' = true := fun w hw => vx_ot_at hW0 hvm.symm (hgood w (List.mem_cons_of_mem _ (List.mem_cons_of_mem _ hw))) (hat w hw)
  have hk' : (Cond.classLink own ik cls).before args s' = true := vx_ot_at hW0 hvm.symm (hgood _ List.mem_cons_self) hk
  have hini' : (Cond.initialized cls).before args s' = true := vx_ot_at hW0 hvm.symm (hgood _ (List.mem_cons_of_mem _ List.mem_cons_self)) hini
  have hU' : vx_Zq Bundle.tN "UNASSIGNED_STACK" Bundle.steD A s' s'.heap := by rw [hhp]; exact vx_Zq.moved hW0.alike (hU.kept hS.2.1)
  have hN' : vx_Zq Bundle.tN "SUPPRESSED_SENTINEL" Bundle.listD A s' s'.heap := by rw [hhp]; exact vx_Zq.moved hW0.alike (hN.kept hS.2.1)
  have h : ∀ w ∈ Bundle.ownAtoms own ic cls names, w.before args s' = true := vx_own hat' (vx_isRefq hU'.1) (vx_isRefq hN'.1) hU'.2.word hN'.2.word
  have hown' : s'.vm.findClass own = some m.cls := by rw [hvm]; exact hown
  have hins : (Cond.instantiable cls 6).before args s' = true := h _ (by simp [Bundle.ownAtoms])
  obtain ⟨vm₁, cX, kX, hfX, hkX, -, -, X₁, st1⟩ := Y.newCold hexec (own := own) (C := cls) (index := ik) (n := 6) hown' hk' hins hini'
    (g := F0 m pc ls rest) rfl (by rw [hb]; exact d0) (Nat.le_refl _) (Nat.le_refl _)
  generalize hT1 : (T.setVm vm₁).pushCell { cls := cX, slots := kX.instanceTypes.map defaultValue, vm := .none } = T1 at X₁ st1
  have hcat : (Value.ref T.heap.size).category = 1 := rfl
  have hcellA : T1.heap[T.heap.size]? = some (freshCell cX kX) := by rw [← hT1]; exact State.heap_pushCell_size _ _
  have d3' : decode c.code (pc + 3) = .ok (.dup, 1) := by rw [hb]; exact d3
  have d4' : decode c.code (pc + 4) = .ok (.ldc_w is, 3) := by rw [hb]; exact d4
  have hstr' : vk_R own is text sa s' := vk_R.warm hW0 hstr
  obtain ⟨U, hsteps, hrun, hend, hW, hsame, ce, hce, hO⟩ := X₁.ctorThrowS hexec htr (own := own) (cls := cls) (names := names) (ic := ic) hown' hcls hnames h (fun x hx => nomatch hx) hfX hkX hcellA (by rw [hhp, hT]; exact Nat.le_refl _) (msg := .ref sa) rfl
    (g := { method := m, pc := pc + 7, locals := ls, stack := .ref sa :: .ref T.heap.size :: .ref T.heap.size :: rest, locked := none }) rfl hsize rfl rfl (rest := rest) rfl
    (by rw [hb]; exact d7) (by rw [hb]; exact d10) hout hRframes (by simp only [List.map_cons, List.sum_cons, hcat]; omega) hlocks
  obtain ⟨f1, f2⟩ := vx_frame hsame
  rw [hhp] at f1 f2
  have hWs : s.WarmedH U.vm := State.WarmedH.trans hW0 hW
  have hcl : s.vm.findClass cls = some ce.cls := by
    have h9 := hO.cls
    rw [hvm] at h9
    exact h9
  have hall : s.sameButNew ({ U with vm := s.vm } : State) locs mc ms := by
    subst hA
    obtain ⟨e1, e2⟩ := hsame
    rw [State.setFrames_setFrames] at e1
    have h2 : (T.setVm s.vm).sameButNew ({ U with vm := s.vm } : State) [] (0 + 1) (0 + 6) := ⟨e1, e2⟩
    have h3 := X.same.trans h2
    rw [List.append_nil] at h3
    exact h3.mono hc hs
  refine ⟨U, ?_, .threw T.heap.size, hrun, hend, Or.inr ⟨T.heap.size, rfl, cls, ce, locs, hx U hWs.alike f1 (fun q hq => f2 q hq (fun z hz => nomatch hz)), hce, hO.vm, hcl, hWs, hall, hf⟩⟩
  refine st1 _ ?_
  show Steps p.tables e below (T1.setTop { method := m, pc := pc + 3, locals := ls, stack := .ref T.heap.size :: rest, locked := none }) _
  jvm_step X₁.here [X₁.here.top, hexec, d3', Value.category]
  exact X₁.ldcStringW hexec (own := own) (text := text) (index := is) (a := sa) hown' hstr'.1 hstr'.2
    (g := { method := m, pc := pc + 4, locals := ls, stack := .ref T.heap.size :: .ref T.heap.size :: rest, locked := none }) rfl d4' _ hsteps
end Ends
section Bodies
variable {l : Launch}
theorem vx_ofW {y : MethodName} {ws ws' : List Cond} {rm : Room} {Pc : Array Value → State → Prop} {Qc : Array Value → State → Outcome → State → Prop} {XC : String → State → State → Prop} {mc ms : Nat} {free : Addr → Prop} {cc : ByteArray} {maxL : Nat} {ret : Option FieldType}
    (hy : plainName y.cls = true) (hw : ws = Cond.code y cc maxL ret :: ws')
    (body : ∀ p e s m args below meth c s₁, BodyLoose p l y (headSpec ws rm) cc maxL ret e s m args below meth c s₁ → c.maxLocals = maxL → (∀ x ∈ c.exceptionTable.toList, False) → Pc args s →
      W p l e (headSpec ws rm).room s m args below meth c s.heap [] 0 0 (vx_MQ below Qc XC args s mc ms free) (entryFrame m args maxL)) : vx_Met l y ws rm Pc Qc XC mc ms free := by
  refine MetFree.of_bodyS (code := cc) (maxLocals := maxL) (ret := ret) hy ?_ ?_
  · intro args s m h hn
    obtain ⟨meth, c, h1, h2, h3, h4, h5, h6, -, -⟩ := Cond.code_spec hn (atoms_spec (ws := ws) h _ (by rw [hw]; exact List.mem_cons_self))
    exact ⟨meth, c, h1, h2, h3, h4, h5, h6⟩
  · intro p e s m args below meth c s₁ B hml hP _
    have hh0 : s₁.heap = s.heap := by rw [B.state]; rfl
    have ht : ∀ x ∈ c.exceptionTable.toList, False := by
      obtain ⟨meth9, c9, h1, h2, -, -, -, -, h7, -⟩ := Cond.code_spec B.named (atoms_spec (ws := ws) B.pre _ (by rw [hw]; exact List.mem_cons_self))
      cases Option.some.inj (h1.symm.trans B.method)
      cases Option.some.inj (h2.symm.trans (Stand.of_body B).code)
      intro x hx
      rw [Array.isEmpty_iff.mp h7] at hx
      cases hx
    obtain ⟨t, a1, o, b1, b2, b3⟩ := body p e s m args below meth c s₁ B hml ht hP s₁ hh0 (Stand.of_body B)
    exact ⟨t, o, a1, b1, b2, b3⟩
/-- the table of a body with handlers -/
theorem vx_table {p : Program} {x y : MethodName} {S : Spec} {cc bytes : ByteArray} {maxL maxL' : Nat} {ret ret' : Option FieldType} {e : Env} {s s₁ : State} {m : MethodId} {args : Array Value} {below : List Frame} {meth : Method} {c : Code} {hh : List (Nat × Nat × Nat × Nat)}
    (B : BodyLoose p l y S cc maxL ret e s m args below meth c s₁) (h : (Cond.codeWith y bytes maxL' ret' hh).before args s = true) : c.exceptionTable.toList = tableOf hh := by
  obtain ⟨m9, meth9, c9, hn9, h1, h2, -, -, h6, -⟩ := Cond.codeWith_spec h
  cases Option.some.inj (hn9.symm.trans B.named)
  cases Option.some.inj (h1.symm.trans B.method)
  cases Option.some.inj (h2.symm.trans (Stand.of_body B).code)
  rw [← h6, table_eq]
end Bodies
end VXA
/-! ===== END ===== -/
/-! ===== BEGIN a static call of a method with an exception table ===== -/
section VXS
variable {p : Program} {l : Launch} {e : Env} {R : Room} {s : State} {m : MethodId} {args : Array Value} {below : List Frame} {meth : Method} {c : Code} {T : State} {H : Heap} {locs : List Loc} {cells slots : Nat}
abbrev vx_CSW (R : Room) (s : State) (args : Array Value) (own : String) (index : Nat) (y : MethodName) (bytes : ByteArray) (maxL : Nat) (ret : Option FieldType) (hh : List (Nat × Nat × Nat × Nat)) (ws : List Cond) (rm : Room) (mc ms n : Nat) : Prop :=
  (rm.cells = mc ∧ rm.slots = ms ∧ rm.frames + 1 ≤ R.frames ∧ 8 + (maxL + 11) + rm.locals ≤ R.locals ∧ (∀ w ∈ ws, ∀ (a' : Array Value) (U : State), s.WarmedH U.vm → w.before a' U = true) ∧ Cond.codeWith y bytes maxL ret hh ∈ ws) ∧
  (Cond.codeWith y bytes maxL ret hh).before args s = true ∧ (Cond.initialized y.cls).before args s = true ∧ (y.cls ≠ "java/lang/invoke/MethodHandle" ∧ y.cls ≠ "java/lang/invoke/VarHandle") ∧
  (∀ sig, parseMethodDescriptor y.desc = some sig → n = sig.parameters.length) ∧ (Cond.methodLink own index y).before args s = true ∧ (Cond.static y).before args s = true
theorem vx_cwSW {own : String} {index maxL mc ms : Nat} {y : MethodName} {bytes : ByteArray} {ret : Option FieldType} {hh : List (Nat × Nat × Nat × Nat)} {Ts ws ws' : List Cond} {rm : Room} (n : Nat) (ht : ∀ w ∈ Ts, w.before args s = true) (hT : GoodIn Ts (va_wsS own index y ws)) (hw : ws = Cond.codeWith y bytes maxL ret hh :: ws') (hrc : rm.cells = mc) (hrs : rm.slots = ms)
    (hd : y.cls ≠ "java/lang/invoke/MethodHandle" ∧ y.cls ≠ "java/lang/invoke/VarHandle" ∧ (parseMethodDescriptor y.desc).map (fun d => d.parameters.length) = some n) (hR : rm.frames + 1 ≤ R.frames ∧ 8 + (maxL + 11) + rm.locals ≤ R.locals) :
    vx_CSW R s args own index y bytes maxL ret hh ws rm mc ms n := by
  have ok : ∀ w ∈ va_wsS own index y ws, w.before args s = true := fun w h => ht w (hT w h).1
  have hG : GoodIn Ts ws := fun w h => hT w (by unfold va_wsS; exact List.mem_append_right _ h)
  have hc : Cond.codeWith y bytes maxL ret hh ∈ ws := by rw [hw]; exact List.mem_cons_self
  refine ⟨⟨hrc, hrs, hR.1, hR.2, pay_in ht hG, hc⟩, ht _ (hG _ hc).1, ok _ (by simp [va_wsS]), ⟨hd.1, hd.2.1⟩, fun sig h => ?_, ok _ (by simp [va_wsS]), ok _ (by simp [va_wsS])⟩
  have h2 := hd.2.2
  rw [h] at h2
  exact (Option.some.inj h2).symm
theorem vx_callSW (X : Stand p l e R s m args below meth c T locs cells slots) (hexec : p.tables.exec = Jvm.exec) {own : String} {index : Nat} {y : MethodName} {bytes : ByteArray} {maxL : Nat} {ret : Option FieldType} {hh : List (Nat × Nat × Nat × Nat)}
    (hown : s.vm.findClass own = some m.cls) (hlink : (Cond.methodLink own index y).before args s = true) (hstat : (Cond.static y).before args s = true) (hinit : (Cond.initialized y.cls).before args s = true)
    (hcode : (Cond.codeWith y bytes maxL ret hh).before args s = true) (hy : y.cls ≠ "java/lang/invoke/MethodHandle" ∧ y.cls ≠ "java/lang/invoke/VarHandle")
    {W9 : Nat} {Pre : Pt → Array Value → Prop} {Post : Pt → Array Value → Option Value → Pt → Prop} (hK : Back l R p e below s args y 3 W9 Pre Post)
    {g : JFrame} (hg : g.method = m) (hsize : g.locals.size = c.maxLocals) {argsL rest : List Value} (hlen : ∀ sig, parseMethodDescriptor y.desc = some sig → argsL.length = sig.parameters.length)
    (hstack : g.stack = argsL.reverse ++ rest) (hW : 2 * g.monitorRoom + (rest.map fun v => v.category).sum ≤ W9) (hdg : decode c.code g.pc = .ok (.invokestatic index, 3))
    (hpre : ∀ vm₁, s.WarmedH vm₁ → Pre ⟨T.setVm vm₁, locs, cells, slots⟩ argsL.toArray) :
    ∃ (v : Option Value) (vm₁ : Vm) (B : Pt), s.WarmedH vm₁ ∧ Stand p l e R s m args below meth c B.U B.locs B.cells B.slots ∧ Post ⟨T.setVm vm₁, locs, cells, slots⟩ argsL.toArray v B ∧
      ∀ target, Steps p.tables e below (B.U.setTop { g with pc := g.pc + 3, stack := v.toList ++ rest }) target → Steps p.tables e below (T.setTop g) target := by
  obtain ⟨mk, methM, cM, hnamed, hmethM, -, -, -, -, -, -, hsigM⟩ := Cond.codeWith_spec hcode
  have hstatic : methM.isStatic = true := Cond.static_spec hnamed hmethM hstat
  obtain ⟨kP, hkP, -⟩ := className_of_methodNamed hnamed
  have hinitP : kP.init = .initialized := Cond.initialized_spec (findClass_of_methodNamed hnamed) hkP hinit
  obtain ⟨vm₁, X₁, hstep₁⟩ := X.invokestatic hexec hown hlink hnamed hmethM hstatic hkP hinitP hy (g := g) hg (argsL := argsL) (rest := rest) (hlen _ hsigM) hstack hdg
  obtain ⟨v, B, X', hpost, hsteps⟩ := hK m meth c ⟨T.setVm vm₁, locs, cells, slots⟩ { g with stack := rest } (.invokestatic index) mk argsL.toArray X₁ hg hsize hdg hW (X₁.named hnamed) (hpre vm₁ X₁.warmed)
  exact ⟨v, vm₁, B, X₁.warmed, X', hpost, fun target h => hstep₁ _ fun acts => by rw [doInvoke_state]; exact hsteps.trans h⟩
theorem vx_runSW {y : MethodName} {bytes cc : ByteArray} {maxL nL mc ms n index : Nat} {ret : Option FieldType} {hh : List (Nat × Nat × Nat × Nat)} {ws : List Cond} {rm : Room} {Pc : Array Value → State → Prop} {Qc : Array Value → State → Outcome → State → Prop} {free : Addr → Prop} {Ts : List Cond} {own : String} {As rest : List Value} {g : JFrame}
    (S : CallFix p m c cc nL s args Ts own) (hM : Met l y ws rm Pc Qc mc ms free) (cw : vx_CSW R s args own index y bytes maxL ret hh ws rm mc ms n) (hp : PreS s H Pc As)
    (hg : g.method = m) (hn : As.length = n) (hsize : g.locals.size = nL) (hstack : g.stack = As.reverse ++ rest) (hW : 2 * g.monitorRoom + (rest.map fun v => v.category).sum ≤ 8) (hdg : decode cc g.pc = .ok (.invokestatic index, 3)) (hf : cells + mc ≤ R.cells ∧ slots + ms ≤ R.slots) :
    va_Run p l e R s m args below meth c H locs cells slots mc ms g rest (Qc As.toArray) (free) := by
  obtain ⟨⟨hrc, hrs, hfr, hlo, hws, hcw⟩, hcode, hini, hy, hlen, hl, hstt⟩ := cw
  have hK : Back l R p e below s args y 3 8 (PreOf R mc ms Pc) (PostOf Qc mc ms free) := va_backW (hh := hh) (bytes := bytes) (maxL := maxL) (ret := ret) hM hp.1 hrc hrs hfr hlo hws hcw (fun a' U hW => word_at hW (Or.inl (by first | rfl | simp [Cond.onTables, Cond.keeps, Cond.steady])) hini)
  obtain ⟨hx, hb, hml, ho, -⟩ := S
  intro T hT X
  obtain ⟨v, vm₁, ⟨U', l2, c2, s2⟩, hW₁, X', ⟨g', mk, t, L, e1, e2, hq, h1, hL, h2, h3⟩, st⟩ := vx_callSW X hx (hh := hh) (bytes := bytes) (maxL := maxL) (ret := ret) ho hl hstt hini hcode hy hK hg (hsize.trans hml.symm) (argsL := As) (rest := rest) (fun sig h => hn.trans (hlen sig h)) hstack hW (by rw [hb]; exact hdg)
    (fun vm₁ hW₁ => ⟨hf.1, hf.2, hp.2 (T.setVm vm₁) hT hW₁⟩)
  dsimp only [Pt.U, Pt.locs, Pt.cells, Pt.slots] at X' e1 e2 h1 h2 h3 st
  subst h1; subst h2; subst h3
  exact ⟨v, (T.setVm vm₁).calling g' mk As.toArray, t, U', L, hT, X', hL, e1, e2, hq, st⟩
/-- not caught here, past rows that name other classes: it goes on to the caller -/
theorem vx_outP {p : Program} {l : Launch} {e : Env} {R : Room} {s : State} {m : MethodId} {args : Array Value} {below : List Frame} {meth : Method} {c : Code} {H : Heap} {locs : List Loc} {cells slots : Nat} {free : Addr → Prop} {ls : Array Slot} {rest : List Value} {Qc : Array Value → State → Outcome → State → Prop} {XC : String → State → State → Prop}
    {pc : Nat} {own E : String} {ce : Cell} {q : Addr} {mc ms : Nat} (hown : s.vm.findClass own = some m.cls) (hlocks : meth.locks = false)
    (hpass : ∀ z ∈ c.exceptionTable.toList, covers z pc = false ∨ (z.catchType ≠ 0 ∧ ∃ nm : String, (Cond.classLink own z.catchType nm).before args s = true ∧ va_Nc E nm s)) (hcell : H[q]? = some ce) (hv : ce.vm = .none) (hcl : s.vm.findClass E = some ce.cls)
    (hx : ∀ t : State, t.heap = H → s.vm.Alike t.vm → XC E s t) (hf : ∀ z ∈ locs, free z.base) (hc : cells ≤ mc) (hs : slots ≤ ms) :
    vx_W p l e R s m args below meth c H locs cells slots (vx_MQ below Qc XC args s mc ms free) (F0 m pc ls rest) q := by
  intro T hT X
  have hpl : e.platform.magicAccessors = ({} : Platform).magicAccessors := by rw [X.admits.platform]
  obtain ⟨vm', hW', X', st⟩ := X.outThrough hlocks q (g := F0 m pc ls rest) rfl rfl rfl (cell := ce) (by rw [hT]; exact hcell) (by rw [hv]; rfl)
    (by obtain ⟨k9, h9, -⟩ := Vm.findClass_spec hcl; exact ⟨k9, h9⟩) (fun z hz => by
      rcases hpass z hz with h | ⟨hz0, nm, hl1, hn1⟩
      · exact Or.inl h
      · obtain ⟨c6, hc6, hcl6⟩ := Cond.classLink_spec hown hl1 e.platform hpl
        obtain ⟨a8, b8, h1, h2, h3⟩ := hn1
        cases Option.some.inj (h1.symm.trans hcl)
        cases Option.some.inj (h2.symm.trans hc6)
        exact Or.inr ⟨hz0, _, hcl6, h3⟩)
  obtain ⟨g₀, hfr⟩ := X'.frames_eq
  have hcell9 : ((T.setVm vm').setFrames (.throwing q :: below)).heap[q]? = some ce := by
    show T.heap[q]? = some ce
    rw [hT]; exact hcell
  have hend : Ended ((T.setVm vm').setFrames (.throwing q :: below)) below (.threw q) := State.frames_setFrames _ (State.cur_lt_of_frames hfr)
  refine ⟨(T.setVm vm').setFrames (.throwing q :: below), ?_, .threw q, X'.here.running, hend, Or.inr ⟨q, rfl, E, ce, locs, hx _ hT (X'.ends _).1.alike, hcell9, hv, hcl, (X'.ends _).1, (X'.ends _).2.mono hc hs, hf⟩⟩
  rw [X.pushThrowing_eq]
  exact st
/-- a thing of a world lies in the heap -/
theorem vx_lt {D : va_G} {cl : List vw_C} {ws : va_W} {H1 : Heap} (h : va_P D cl ws H1) {k : Nat} {q : Nat × va_E} (hk : ws[k]? = some q) : q.1 < H1.size := (h k q hk).lt
end VXS
/-! ===== END ===== -/
/-! ===== BEGIN methods with a table of their own: called by a name, returning or throwing ===== -/
section VXH
/-! vx_backW, vx_callVX, vx_callSX, vx_callVW, vx_runVW, vx_runVX, vx_runSX, vx_ofWH follow the same proofs as their sisters above (Free/Laws.lean, Shelf42/LK1.lean); vx_outP calls Shelf42/NT130.lean (outThrough). -/
section
variable {l : Launch} {R : Room} {p : Program} {e : Env} {below : List Frame} {s : State} {sargs : Array Value} {y : MethodName} {len W9 : Nat}
theorem vx_backW {ws : List Cond} {rm : Room} {Pc : Array Value → State → Prop} {Qc : Array Value → State → Outcome → State → Prop} {XC : String → State → State → Prop} {mc ms : Nat} {free : Addr → Prop} {bytes : ByteArray} {maxL : Nat} {ret : Option FieldType} {hh : List (Nat × Nat × Nat × Nat)}
    (hM : vx_Met l y ws rm Pc Qc XC mc ms free) (hblind : FrameBlind Pc) (hrc : rm.cells = mc) (hrs : rm.slots = ms)
    (hframes : rm.frames + 1 ≤ R.frames) (hlocals : W9 + (maxL + 11) + rm.locals ≤ R.locals)
    (hws : ∀ w ∈ ws, ∀ a' U, s.WarmedH U.vm → w.before a' U = true) (hcode : Cond.codeWith y bytes maxL ret hh ∈ ws) (hinit : ∀ a' U, s.WarmedH U.vm → (Cond.initialized y.cls).before a' U = true) :
    vx_Back l R p e below s sargs y len W9 (PreOf R mc ms Pc) (PostOf Qc mc ms free) (vx_Post XC mc ms free) := by
  intro m meth c A g ig mk a X hg hsize hdg hW hn hp
  have h1 : (headSpec ws rm).pre.before a A.U = true := atoms_intro fun w hw => hws w hw _ _ X.warmed
  have h2 : (Cond.codeWith y bytes maxL ret hh).before a A.U = true := hws _ hcode _ _ X.warmed
  have h3 : (Cond.initialized y.cls).before a A.U = true := hinit _ _ X.warmed
  have h4 : A.cells + (headSpec ws rm).room.cells ≤ R.cells := by rw [show (headSpec ws rm).room.cells = mc from hrc]; exact hp.1
  have h5 : A.slots + (headSpec ws rm).room.slots ≤ R.slots := by rw [show (headSpec ws rm).room.slots = ms from hrs]; exact hp.2.1
  have hPc : Pc a (A.U.calling g mk a) := hblind _ _ _ _ hp.2.2
  obtain ⟨U, Ls, c0, s0⟩ := A
  dsimp only [Pt.U, Pt.locs, Pt.cells, Pt.slots] at h1 h2 h3 h4 h5 X hn hPc ⊢
  obtain ⟨m9, methY, cY, hn9, hmY, hcY, -, hlY, -⟩ := Cond.codeWith_spec h2
  cases Option.some.inj (hn9.symm.trans hn)
  obtain ⟨kY, hkY, -⟩ := className_of_methodNamed hn
  have hinitY : kY.init = .initialized := Cond.initialized_spec (findClass_of_methodNamed hn) hkY h3
  have h : At U g.method c below := by rw [hg]; exact X.here
  have hlocals9 : W9 + (maxL + 11) + (headSpec ws rm).room.locals ≤ R.locals := hlocals
  have happ : (headSpec ws rm).appliesLoose y e.platform (U.calling g mk a) = true :=
    Spec.appliesLoose_calling (g := g) h hdg hn hkY hinitY
      (X.room_calling (g := g) (R' := (headSpec ws rm).room) hsize hmY hcY hframes (by rw [hlY]; omega) h4 h5) h1
  obtain ⟨mid, hmid⟩ := h.above
  have hfr : (U.setTop g).frames = (.java g :: mid) ++ below := by rw [State.frames_setTop' g h.top, hmid]; rfl
  obtain ⟨o, s₂, hsteps, -, hend, hq⟩ := Steps.callFree hM p X.admits X.cas X.clock (acts := []) hfr happ hPc trivial
  have hq' : vx_Q Qc XC mc ms free a (U.calling g mk a) o s₂ := hq
  rw [State.frames_setTop' g h.top] at hend
  obtain ⟨g₀, hg0⟩ := Option.isSome_iff_exists.mp h.top
  obtain ⟨r, hr⟩ := State.topJava?_eq_some.mp hg0
  have hr' : (({ U with heap := s₂.heap, slotsUsed := s₂.slotsUsed } : State).setVm s₂.vm).frames = .java g₀ :: r := hr
  rcases hq' with ⟨hqc, L, hfe, hL⟩ | ⟨q, rfl, E, ce, L, hx, hce, hcv, hcl, hW₂, hsm, hL⟩
  · obtain ⟨⟨v, rfl⟩, hW₂, e2, q2, q3, q4, q5, q6⟩ := id hfe
    have e3 : s₂ = ({ (U.calling g mk a).setFrames s₂.frames with heap := s₂.heap, slotsUsed := s₂.slotsUsed } : State).setVm s₂.vm := by
      have : s₂ = ({ s₂ with vm := (U.calling g mk a).vm } : State).setVm s₂.vm := rfl
      rw [e2] at this
      exact this
    obtain ⟨c₂, i₂, len₂, hc₂, hd₂, hf₂⟩ := hend
    have hW' : U.WarmedH s₂.vm := hW₂
    have hcc : c₂ = c := by
      have h1 : s₂.code? g.method = U.code? g.method := by
        rw [State.code?_eq, State.code?_eq, hW'.alike.method?]
      exact Option.some.inj (hc₂.symm.trans (h1.trans h.code))
    subst hcc
    have hlen : len₂ = len := by rw [hdg] at hd₂; cases hd₂; rfl
    subst hlen
    have hs₂ : s₂ = (({ U with heap := s₂.heap, slotsUsed := s₂.slotsUsed } : State).setVm s₂.vm).setTop { g with pc := g.pc + len₂, stack := v.toList ++ g.stack } := by
      refine e3.trans ?_
      rw [hf₂, State.calling_eq h.top, State.setFrames_setFrames, State.setTop_of_frames _ hr', hr]
      rfl
    have hsame : U.sameButNew ({ U with heap := s₂.heap, slotsUsed := s₂.slotsUsed } : State) L mc ms := by
      refine ⟨?_, q2, q3, q4, q5, q6⟩
      obtain ⟨t, ht, -⟩ := State.frames_cons hr
      show ({ U with heap := s₂.heap, slotsUsed := s₂.slotsUsed } : State) = { U.setFrames U.frames with heap := s₂.heap, slotsUsed := s₂.slotsUsed }
      rw [State.setFrames_self ht]
    subst hg
    refine Or.inl ⟨v, ⟨(({ U with heap := s₂.heap, slotsUsed := s₂.slotsUsed } : State).setVm s₂.vm), Ls ++ L, c0 + mc, s0 + ms⟩,
      ⟨X.admits, X.cas, X.clock, X.frames, X.room, X.hears, X.method, X.code, (X.here.setHeapUsed s₂.heap s₂.slotsUsed).setVm hW'.alike, X.tail, State.WarmedH.trans X.warmed hW', X.limits, X.bytes, X.same.trans (hsame.setVm s.vm)⟩,
      ⟨g, mk, s₂, L, rfl, rfl, hqc, rfl, hL, rfl, rfl⟩, ?_⟩
    show Steps p.tables e below _ ((({ U with heap := s₂.heap, slotsUsed := s₂.slotsUsed } : State).setVm s₂.vm).setTop { g with pc := g.pc + len₂, stack := v.toList ++ g.stack })
    rw [← hs₂]
    exact hsteps
  · obtain ⟨e2, q2, q3, q4, q5, q6⟩ := id hsm
    have e3 : s₂ = ({ (U.calling g mk a).setFrames s₂.frames with heap := s₂.heap, slotsUsed := s₂.slotsUsed } : State).setVm s₂.vm := by
      have : s₂ = ({ s₂ with vm := (U.calling g mk a).vm } : State).setVm s₂.vm := rfl
      rw [e2] at this
      exact this
    have hf₂ : s₂.frames = .throwing q :: .java g :: U.frames.tail := hend
    have hW' : U.WarmedH s₂.vm := hW₂
    have hs₂ : s₂ = ((({ U with heap := s₂.heap, slotsUsed := s₂.slotsUsed } : State).setVm s₂.vm).setTop g).pushFrame (.throwing q) := by
      refine e3.trans ?_
      rw [hf₂, State.calling_eq h.top, State.setFrames_setFrames, State.pushFrame, State.frames_setTop _ hr', State.setTop_of_frames _ hr', State.setFrames_setFrames, hr]
      rfl
    have hsame : U.sameButNew ({ U with heap := s₂.heap, slotsUsed := s₂.slotsUsed } : State) L mc ms := by
      refine ⟨?_, q2, q3, q4, q5, q6⟩
      obtain ⟨t, ht, -⟩ := State.frames_cons hr
      show ({ U with heap := s₂.heap, slotsUsed := s₂.slotsUsed } : State) = { U.setFrames U.frames with heap := s₂.heap, slotsUsed := s₂.slotsUsed }
      rw [State.setFrames_self ht]
    subst hg
    refine Or.inr ⟨q, ⟨(({ U with heap := s₂.heap, slotsUsed := s₂.slotsUsed } : State).setVm s₂.vm), Ls ++ L, c0 + mc, s0 + ms⟩,
      ⟨X.admits, X.cas, X.clock, X.frames, X.room, X.hears, X.method, X.code, (X.here.setHeapUsed s₂.heap s₂.slotsUsed).setVm hW'.alike, X.tail, State.WarmedH.trans X.warmed hW', X.limits, X.bytes, X.same.trans (hsame.setVm s.vm)⟩,
      ⟨g, mk, s₂, L, E, ce, rfl, rfl, hx, hce, hcv, hcl, rfl, hL, rfl, rfl⟩, ?_⟩
    show Steps p.tables e below _ (((({ U with heap := s₂.heap, slotsUsed := s₂.slotsUsed } : State).setVm s₂.vm).setTop g).pushFrame (.throwing q))
    rw [← hs₂]
    exact hsteps
end
variable {p : Program} {l : Launch} {e : Env} {R : Room} {s : State} {m : MethodId} {args : Array Value} {below : List Frame} {meth : Method} {c : Code} {T : State} {H : Heap} {locs : List Loc} {cells slots : Nat}
theorem vx_callVX (X : Stand p l e R s m args below meth c T locs cells slots) (hexec : p.tables.exec = Jvm.exec) {own C : String} {index : Nat} {y : MethodName} {bytes : ByteArray} {maxL : Nat} {ret : Option FieldType} {hh : List (Nat × Nat × Nat × Nat)}
    (hown : s.vm.findClass own = some m.cls) (hlink : (Cond.methodLink own index y).before args s = true) (hinst : (Cond.instanceMethod y).before args s = true) (hsel : (Cond.selects C y y).before args s = true)
    (hcode : (Cond.codeWith y bytes maxL ret hh).before args s = true) (hy : y.cls ≠ "java/lang/invoke/MethodHandle" ∧ y.cls ≠ "java/lang/invoke/VarHandle")
    {W9 : Nat} {Pre : Pt → Array Value → Prop} {Post : Pt → Array Value → Option Value → Pt → Prop} {PostX : Pt → Array Value → Addr → Pt → Prop} (hK : vx_Back l R p e below s args y 3 W9 Pre Post PostX)
    {b : Addr} {cellB : Cell} (hcell : T.heap[b]? = some cellB) (hobj : cellB.vm.isStatics = false) (hcls : s.vm.findClass C = some cellB.cls)
    {g : JFrame} (hg : g.method = m) (hsize : g.locals.size = c.maxLocals) {argsL rest : List Value} (hlen : ∀ sig, parseMethodDescriptor y.desc = some sig → argsL.length = sig.parameters.length)
    (hstack : g.stack = argsL.reverse ++ .ref b :: rest) (hW : 2 * g.monitorRoom + (rest.map fun v => v.category).sum ≤ W9) (hdg : decode c.code g.pc = .ok (.invokevirtual index, 3))
    (hpre : ∀ vm₁, s.WarmedH vm₁ → Pre ⟨T.setVm vm₁, locs, cells, slots⟩ (Value.ref b :: argsL).toArray) :
    (∃ (v : Option Value) (vm₁ : Vm) (B : Pt), s.WarmedH vm₁ ∧ Stand p l e R s m args below meth c B.U B.locs B.cells B.slots ∧ Post ⟨T.setVm vm₁, locs, cells, slots⟩ (Value.ref b :: argsL).toArray v B ∧
      ∀ target, Steps p.tables e below (B.U.setTop { g with pc := g.pc + 3, stack := v.toList ++ rest }) target → Steps p.tables e below (T.setTop g) target) ∨
    (∃ (q : Addr) (vm₁ : Vm) (B : Pt), s.WarmedH vm₁ ∧ Stand p l e R s m args below meth c B.U B.locs B.cells B.slots ∧ PostX ⟨T.setVm vm₁, locs, cells, slots⟩ (Value.ref b :: argsL).toArray q B ∧
      Steps p.tables e below (T.setTop g) ((B.U.setTop { g with stack := rest }).pushFrame (.throwing q))) := by
  obtain ⟨mk, methM, hnamed, hmethM, hstM, habM⟩ := Cond.instanceMethod_spec hinst
  obtain ⟨m8, methM', cM, hn8, hmethM', -, -, -, -, -, -, hsigM⟩ := Cond.codeWith_spec hcode
  cases Option.some.inj (hn8.symm.trans hnamed)
  cases hmethM.symm.trans hmethM'
  obtain ⟨c2, r2, m2, q1, q2, q3, q4, kP, hkP, hkPi⟩ := Cond.selects_spec hsel
  cases hcls.symm.trans q1
  cases (State.methodFound?_of_named hnamed hy).symm.trans q2
  cases hnamed.symm.trans q3
  have hselP : selectMethod e.platform s.vm cellB.cls mk = .method mk := by rw [Launch.admits_selectMethod X.admits]; exact q4
  obtain ⟨vm₁, X₁, hstep₁⟩ := X.invokevirtual hexec hown hlink hnamed hmethM hstM hkP hkPi hy (a := b) (cell := cellB) hcell
    (fun z h => by rw [h] at hobj; cases hobj) hselP hmethM habM hkP hkPi (g := g) hg (argsL := argsL) (rest := rest) (hlen _ hsigM) hstack hdg
  rcases hK m meth c ⟨T.setVm vm₁, locs, cells, slots⟩ { g with stack := rest } (.invokevirtual index) mk (Value.ref b :: argsL).toArray X₁ hg hsize hdg hW (X₁.named hnamed) (hpre vm₁ X₁.warmed) with ⟨v, B, X', hpost, hsteps⟩ | ⟨q, B, X', hpost, hsteps⟩
  · exact Or.inl ⟨v, vm₁, B, X₁.warmed, X', hpost, fun target h => hstep₁ _ fun acts => by rw [doInvoke_state]; exact hsteps.trans h⟩
  · exact Or.inr ⟨q, vm₁, B, X₁.warmed, X', hpost, hstep₁ _ fun acts => by rw [doInvoke_state]; exact hsteps⟩
theorem vx_callSX (X : Stand p l e R s m args below meth c T locs cells slots) (hexec : p.tables.exec = Jvm.exec) {own : String} {index : Nat} {y : MethodName} {bytes : ByteArray} {maxL : Nat} {ret : Option FieldType} {hh : List (Nat × Nat × Nat × Nat)}
    (hown : s.vm.findClass own = some m.cls) (hlink : (Cond.methodLink own index y).before args s = true) (hstat : (Cond.static y).before args s = true) (hinit : (Cond.initialized y.cls).before args s = true)
    (hcode : (Cond.codeWith y bytes maxL ret hh).before args s = true) (hy : y.cls ≠ "java/lang/invoke/MethodHandle" ∧ y.cls ≠ "java/lang/invoke/VarHandle")
    {W9 : Nat} {Pre : Pt → Array Value → Prop} {Post : Pt → Array Value → Option Value → Pt → Prop} {PostX : Pt → Array Value → Addr → Pt → Prop} (hK : vx_Back l R p e below s args y 3 W9 Pre Post PostX)
    {g : JFrame} (hg : g.method = m) (hsize : g.locals.size = c.maxLocals) {argsL rest : List Value} (hlen : ∀ sig, parseMethodDescriptor y.desc = some sig → argsL.length = sig.parameters.length)
    (hstack : g.stack = argsL.reverse ++ rest) (hW : 2 * g.monitorRoom + (rest.map fun v => v.category).sum ≤ W9) (hdg : decode c.code g.pc = .ok (.invokestatic index, 3))
    (hpre : ∀ vm₁, s.WarmedH vm₁ → Pre ⟨T.setVm vm₁, locs, cells, slots⟩ argsL.toArray) :
    (∃ (v : Option Value) (vm₁ : Vm) (B : Pt), s.WarmedH vm₁ ∧ Stand p l e R s m args below meth c B.U B.locs B.cells B.slots ∧ Post ⟨T.setVm vm₁, locs, cells, slots⟩ argsL.toArray v B ∧
      ∀ target, Steps p.tables e below (B.U.setTop { g with pc := g.pc + 3, stack := v.toList ++ rest }) target → Steps p.tables e below (T.setTop g) target) ∨
    (∃ (q : Addr) (vm₁ : Vm) (B : Pt), s.WarmedH vm₁ ∧ Stand p l e R s m args below meth c B.U B.locs B.cells B.slots ∧ PostX ⟨T.setVm vm₁, locs, cells, slots⟩ argsL.toArray q B ∧
      Steps p.tables e below (T.setTop g) ((B.U.setTop { g with stack := rest }).pushFrame (.throwing q))) := by
  obtain ⟨mk, methM, cM, hnamed, hmethM, -, -, -, -, -, -, hsigM⟩ := Cond.codeWith_spec hcode
  have hstatic : methM.isStatic = true := Cond.static_spec hnamed hmethM hstat
  obtain ⟨kP, hkP, -⟩ := className_of_methodNamed hnamed
  have hinitP : kP.init = .initialized := Cond.initialized_spec (findClass_of_methodNamed hnamed) hkP hinit
  obtain ⟨vm₁, X₁, hstep₁⟩ := X.invokestatic hexec hown hlink hnamed hmethM hstatic hkP hinitP hy (g := g) hg (argsL := argsL) (rest := rest) (hlen _ hsigM) hstack hdg
  rcases hK m meth c ⟨T.setVm vm₁, locs, cells, slots⟩ { g with stack := rest } (.invokestatic index) mk argsL.toArray X₁ hg hsize hdg hW (X₁.named hnamed) (hpre vm₁ X₁.warmed) with ⟨v, B, X', hpost, hsteps⟩ | ⟨q, B, X', hpost, hsteps⟩
  · exact Or.inl ⟨v, vm₁, B, X₁.warmed, X', hpost, fun target h => hstep₁ _ fun acts => by rw [doInvoke_state]; exact hsteps.trans h⟩
  · exact Or.inr ⟨q, vm₁, B, X₁.warmed, X', hpost, hstep₁ _ fun acts => by rw [doInvoke_state]; exact hsteps⟩
theorem vx_callVW (X : Stand p l e R s m args below meth c T locs cells slots) (hexec : p.tables.exec = Jvm.exec) {own C : String} {index : Nat} {y : MethodName} {bytes : ByteArray} {maxL : Nat} {ret : Option FieldType} {hh : List (Nat × Nat × Nat × Nat)}
    (hown : s.vm.findClass own = some m.cls) (hlink : (Cond.methodLink own index y).before args s = true) (hinst : (Cond.instanceMethod y).before args s = true) (hsel : (Cond.selects C y y).before args s = true)
    (hcode : (Cond.codeWith y bytes maxL ret hh).before args s = true) (hy : y.cls ≠ "java/lang/invoke/MethodHandle" ∧ y.cls ≠ "java/lang/invoke/VarHandle")
    {W9 : Nat} {Pre : Pt → Array Value → Prop} {Post : Pt → Array Value → Option Value → Pt → Prop} (hK : Back l R p e below s args y 3 W9 Pre Post)
    {b : Addr} {cellB : Cell} (hcell : T.heap[b]? = some cellB) (hobj : cellB.vm.isStatics = false) (hcls : s.vm.findClass C = some cellB.cls)
    {g : JFrame} (hg : g.method = m) (hsize : g.locals.size = c.maxLocals) {argsL rest : List Value} (hlen : ∀ sig, parseMethodDescriptor y.desc = some sig → argsL.length = sig.parameters.length)
    (hstack : g.stack = argsL.reverse ++ .ref b :: rest) (hW : 2 * g.monitorRoom + (rest.map fun v => v.category).sum ≤ W9) (hdg : decode c.code g.pc = .ok (.invokevirtual index, 3))
    (hpre : ∀ vm₁, s.WarmedH vm₁ → Pre ⟨T.setVm vm₁, locs, cells, slots⟩ (Value.ref b :: argsL).toArray) :
    ∃ (v : Option Value) (vm₁ : Vm) (B : Pt), s.WarmedH vm₁ ∧ Stand p l e R s m args below meth c B.U B.locs B.cells B.slots ∧ Post ⟨T.setVm vm₁, locs, cells, slots⟩ (Value.ref b :: argsL).toArray v B ∧
      ∀ target, Steps p.tables e below (B.U.setTop { g with pc := g.pc + 3, stack := v.toList ++ rest }) target → Steps p.tables e below (T.setTop g) target := by
  obtain ⟨mk, methM, hnamed, hmethM, hstM, habM⟩ := Cond.instanceMethod_spec hinst
  obtain ⟨m8, methM', cM, hn8, hmethM', -, -, -, -, -, -, hsigM⟩ := Cond.codeWith_spec hcode
  cases Option.some.inj (hn8.symm.trans hnamed)
  cases hmethM.symm.trans hmethM'
  obtain ⟨c2, r2, m2, q1, q2, q3, q4, kP, hkP, hkPi⟩ := Cond.selects_spec hsel
  cases hcls.symm.trans q1
  cases (State.methodFound?_of_named hnamed hy).symm.trans q2
  cases hnamed.symm.trans q3
  have hselP : selectMethod e.platform s.vm cellB.cls mk = .method mk := by rw [Launch.admits_selectMethod X.admits]; exact q4
  obtain ⟨vm₁, X₁, hstep₁⟩ := X.invokevirtual hexec hown hlink hnamed hmethM hstM hkP hkPi hy (a := b) (cell := cellB) hcell
    (fun z h => by rw [h] at hobj; cases hobj) hselP hmethM habM hkP hkPi (g := g) hg (argsL := argsL) (rest := rest) (hlen _ hsigM) hstack hdg
  obtain ⟨v, B, X', hpost, hsteps⟩ := hK m meth c ⟨T.setVm vm₁, locs, cells, slots⟩ { g with stack := rest } (.invokevirtual index) mk (Value.ref b :: argsL).toArray X₁ hg hsize hdg hW (X₁.named hnamed) (hpre vm₁ X₁.warmed)
  exact ⟨v, vm₁, B, X₁.warmed, X', hpost, fun target h => hstep₁ _ fun acts => by rw [doInvoke_state]; exact hsteps.trans h⟩
abbrev vx_CVW (R : Room) (s : State) (args : Array Value) (own C : String) (index : Nat) (y : MethodName) (bytes : ByteArray) (maxL : Nat) (ret : Option FieldType) (hh : List (Nat × Nat × Nat × Nat)) (ws : List Cond) (rm : Room) (mc ms n : Nat) : Prop :=
  (rm.cells = mc ∧ rm.slots = ms ∧ rm.frames + 1 ≤ R.frames ∧ 8 + (maxL + 11) + rm.locals ≤ R.locals ∧ (∀ w ∈ ws, ∀ (a' : Array Value) (U : State), s.WarmedH U.vm → w.before a' U = true) ∧ Cond.codeWith y bytes maxL ret hh ∈ ws) ∧
  (Cond.codeWith y bytes maxL ret hh).before args s = true ∧ (Cond.initialized y.cls).before args s = true ∧ (y.cls ≠ "java/lang/invoke/MethodHandle" ∧ y.cls ≠ "java/lang/invoke/VarHandle") ∧
  (∀ sig, parseMethodDescriptor y.desc = some sig → n = sig.parameters.length) ∧ (Cond.methodLink own index y).before args s = true ∧ (Cond.instanceMethod y).before args s = true ∧ (Cond.selects C y y).before args s = true
theorem vx_cwVW {own C : String} {index maxL mc ms : Nat} {y : MethodName} {bytes : ByteArray} {ret : Option FieldType} {hh : List (Nat × Nat × Nat × Nat)} {Ts ws ws' : List Cond} {rm : Room} (n : Nat) (ht : ∀ w ∈ Ts, w.before args s = true) (hT : GoodIn Ts (wsV own index C y ws)) (hw : ws = Cond.codeWith y bytes maxL ret hh :: ws') (hrc : rm.cells = mc) (hrs : rm.slots = ms)
    (hd : y.cls = C ∧ y.cls ≠ "java/lang/invoke/MethodHandle" ∧ y.cls ≠ "java/lang/invoke/VarHandle" ∧ (parseMethodDescriptor y.desc).map (fun d => d.parameters.length) = some n) (hR : rm.frames + 1 ≤ R.frames ∧ 8 + (maxL + 11) + rm.locals ≤ R.locals) :
    vx_CVW R s args own C index y bytes maxL ret hh ws rm mc ms n := by
  obtain ⟨hC, hd⟩ := hd
  subst hC
  have ok : ∀ w ∈ wsV own index y.cls y ws, w.before args s = true := fun w h => ht w (hT w h).1
  have hG : GoodIn Ts ws := fun w h => hT w (by unfold wsV; exact List.mem_append_right _ h)
  have hc : Cond.codeWith y bytes maxL ret hh ∈ ws := by rw [hw]; exact List.mem_cons_self
  refine ⟨⟨hrc, hrs, hR.1, hR.2, pay_in ht hG, hc⟩, ht _ (hG _ hc).1, ok _ (by simp [wsV]), ⟨hd.1, hd.2.1⟩, fun sig h => ?_, ok _ (by simp [wsV]), ok _ (by simp [wsV]), ok _ (by simp [wsV])⟩
  have h2 := hd.2.2
  rw [h] at h2
  exact (Option.some.inj h2).symm
theorem vx_runVW {y : MethodName} {bytes cc : ByteArray} {maxL nL mc ms n index : Nat} {ret : Option FieldType} {hh : List (Nat × Nat × Nat × Nat)} {ws : List Cond} {rm : Room} {Pc : Array Value → State → Prop} {Qc : Array Value → State → Outcome → State → Prop} {free : Addr → Prop} {Ts : List Cond} {own C : String} {b : Addr} {As rest : List Value} {g : JFrame}
    (S : CallFix p m c cc nL s args Ts own) (hM : Met l y ws rm Pc Qc mc ms free) (cw : vx_CVW R s args own C index y bytes maxL ret hh ws rm mc ms n) (hp : PreV s H C b Pc As)
    (hg : g.method = m) (hn : As.length = n) (hsize : g.locals.size = nL) (hstack : g.stack = As.reverse ++ .ref b :: rest) (hW : 2 * g.monitorRoom + (rest.map fun v => v.category).sum ≤ 8) (hdg : decode cc g.pc = .ok (.invokevirtual index, 3)) (hf : cells + mc ≤ R.cells ∧ slots + ms ≤ R.slots) :
    va_Run p l e R s m args below meth c H locs cells slots mc ms g rest (Qc (Value.ref b :: As).toArray) free := by
  obtain ⟨⟨hrc, hrs, hfr, hlo, hws, hcw⟩, hcode, hini, hy, hlen, hl, hin, hse⟩ := cw
  have hK : Back l R p e below s args y 3 8 (PreOf R mc ms Pc) (PostOf Qc mc ms free) := va_backW (hh := hh) (bytes := bytes) (maxL := maxL) (ret := ret) hM hp.1 hrc hrs hfr hlo hws hcw (fun a' U hW => word_at hW (Or.inl (by first | rfl | simp [Cond.onTables, Cond.keeps, Cond.steady])) hini)
  obtain ⟨hx, hb, hml, ho, -⟩ := S
  obtain ⟨-, ⟨cellB, hcB, hoB, hclB⟩, hPc⟩ := hp
  intro T hT X
  obtain ⟨v, vm₁, ⟨U', l2, c2, s2⟩, hW₁, X', ⟨g', mk, t, L, e1, e2, hq, h1, hL, h2, h3⟩, st⟩ := vx_callVW X hx (C := C) (hh := hh) (bytes := bytes) (maxL := maxL) (ret := ret) ho hl hin hse hcode hy hK (by rw [hT]; exact hcB) hoB hclB hg (hsize.trans hml.symm) (argsL := As) (rest := rest) (fun sig h => hn.trans (hlen sig h)) hstack hW (by rw [hb]; exact hdg)
    (fun vm₁ hW₁ => ⟨hf.1, hf.2, hPc (T.setVm vm₁) hT hW₁⟩)
  dsimp only [Pt.U, Pt.locs, Pt.cells, Pt.slots] at X' e1 e2 h1 h2 h3 st
  subst h1; subst h2; subst h3
  exact ⟨v, (T.setVm vm₁).calling g' mk (Value.ref b :: As).toArray, t, U', L, hT, X', hL, e1, e2, hq, st⟩
section
variable {y : MethodName} {bytes cc : ByteArray} {maxL nL mc ms n index : Nat} {ret : Option FieldType} {ws : List Cond} {rm : Room} {Pc : Array Value → State → Prop} {Qc : Array Value → State → Outcome → State → Prop} {XC : String → State → State → Prop} {free : Addr → Prop} {Ts : List Cond} {own C : String} {b : Addr} {As rest : List Value} {g : JFrame}
theorem vx_runVX {hh : List (Nat × Nat × Nat × Nat)} (S : CallFix p m c cc nL s args Ts own) (hM : vx_Met l y ws rm Pc Qc XC mc ms free) (cw : vx_CVW R s args own C index y bytes maxL ret hh ws rm mc ms n) (hp : PreV s H C b Pc As)
    (hg : g.method = m) (hn : As.length = n) (hsize : g.locals.size = nL) (hstack : g.stack = As.reverse ++ .ref b :: rest) (hW : 2 * g.monitorRoom + (rest.map fun v => v.category).sum ≤ 8) (hdg : decode cc g.pc = .ok (.invokevirtual index, 3)) (hf : cells + mc ≤ R.cells ∧ slots + ms ≤ R.slots) :
    vx_Run p l e R s m args below meth c H locs cells slots mc ms g rest (Qc (Value.ref b :: As).toArray) XC free := by
  obtain ⟨⟨hrc, hrs, hfr, hlo, hws, hcw⟩, hcode, hini, hy, hlen, hl, hin, hse⟩ := cw
  have hK : vx_Back l R p e below s args y 3 8 (PreOf R mc ms Pc) (PostOf Qc mc ms free) (vx_Post XC mc ms free) := vx_backW (hh := hh) (bytes := bytes) (maxL := maxL) (ret := ret) hM hp.1 hrc hrs hfr hlo hws hcw (fun a' U hW => word_at hW (Or.inl (by first | rfl | simp [Cond.onTables, Cond.keeps, Cond.steady])) hini)
  obtain ⟨hx, hb, hml, ho, -⟩ := S
  obtain ⟨-, ⟨cellB, hcB, hoB, hclB⟩, hPc⟩ := hp
  intro T hT X
  rcases vx_callVX X hx (C := C) (hh := hh) (bytes := bytes) (maxL := maxL) (ret := ret) ho hl hin hse hcode hy hK (by rw [hT]; exact hcB) hoB hclB hg (hsize.trans hml.symm) (argsL := As) (rest := rest) (fun sig h => hn.trans (hlen sig h)) hstack hW (by rw [hb]; exact hdg)
    (fun vm₁ hW₁ => ⟨hf.1, hf.2, hPc (T.setVm vm₁) hT hW₁⟩) with ⟨v, vm₁, ⟨U', l2, c2, s2⟩, hW₁, X', ⟨g', mk, t, L, e1, e2, hq, h1, hL, h2, h3⟩, st⟩ | ⟨q, vm₁, ⟨U', l2, c2, s2⟩, hW₁, X', ⟨g', mk, t, L, E, ce, e1, e2, hq, hce, hcv, hcl, h1, hL, h2, h3⟩, st⟩
  · dsimp only [Pt.U, Pt.locs, Pt.cells, Pt.slots] at X' e1 e2 h1 h2 h3 st
    subst h1; subst h2; subst h3
    exact Or.inl ⟨v, (T.setVm vm₁).calling g' mk (Value.ref b :: As).toArray, t, U', L, hT, X', hL, e1, e2, hq, st⟩
  · dsimp only [Pt.U, Pt.locs, Pt.cells, Pt.slots] at X' e1 e2 h1 h2 h3 st hcl
    subst h1; subst h2; subst h3
    exact Or.inr ⟨q, (T.setVm vm₁).calling g' mk (Value.ref b :: As).toArray, t, U', L, E, ce, hT, X', hL, e1, e2, hq, hce, hcv, vx_cls hW₁ hcl, st⟩
theorem vx_runSX {hh : List (Nat × Nat × Nat × Nat)} (S : CallFix p m c cc nL s args Ts own) (hM : vx_Met l y ws rm Pc Qc XC mc ms free) (cw : vx_CSW R s args own index y bytes maxL ret hh ws rm mc ms n) (hp : PreS s H Pc As)
    (hg : g.method = m) (hn : As.length = n) (hsize : g.locals.size = nL) (hstack : g.stack = As.reverse ++ rest) (hW : 2 * g.monitorRoom + (rest.map fun v => v.category).sum ≤ 8) (hdg : decode cc g.pc = .ok (.invokestatic index, 3)) (hf : cells + mc ≤ R.cells ∧ slots + ms ≤ R.slots) :
    vx_Run p l e R s m args below meth c H locs cells slots mc ms g rest (Qc As.toArray) XC free := by
  obtain ⟨⟨hrc, hrs, hfr, hlo, hws, hcw⟩, hcode, hini, hy, hlen, hl, hstt⟩ := cw
  have hK : vx_Back l R p e below s args y 3 8 (PreOf R mc ms Pc) (PostOf Qc mc ms free) (vx_Post XC mc ms free) := vx_backW (hh := hh) (bytes := bytes) (maxL := maxL) (ret := ret) hM hp.1 hrc hrs hfr hlo hws hcw (fun a' U hW => word_at hW (Or.inl (by first | rfl | simp [Cond.onTables, Cond.keeps, Cond.steady])) hini)
  obtain ⟨hx, hb, hml, ho, -⟩ := S
  intro T hT X
  rcases vx_callSX X hx (hh := hh) (bytes := bytes) (maxL := maxL) (ret := ret) ho hl hstt hini hcode hy hK hg (hsize.trans hml.symm) (argsL := As) (rest := rest) (fun sig h => hn.trans (hlen sig h)) hstack hW (by rw [hb]; exact hdg)
    (fun vm₁ hW₁ => ⟨hf.1, hf.2, hp.2 (T.setVm vm₁) hT hW₁⟩) with ⟨v, vm₁, ⟨U', l2, c2, s2⟩, hW₁, X', ⟨g', mk, t, L, e1, e2, hq, h1, hL, h2, h3⟩, st⟩ | ⟨q, vm₁, ⟨U', l2, c2, s2⟩, hW₁, X', ⟨g', mk, t, L, E, ce, e1, e2, hq, hce, hcv, hcl, h1, hL, h2, h3⟩, st⟩
  · dsimp only [Pt.U, Pt.locs, Pt.cells, Pt.slots] at X' e1 e2 h1 h2 h3 st
    subst h1; subst h2; subst h3
    exact Or.inl ⟨v, (T.setVm vm₁).calling g' mk As.toArray, t, U', L, hT, X', hL, e1, e2, hq, st⟩
  · dsimp only [Pt.U, Pt.locs, Pt.cells, Pt.slots] at X' e1 e2 h1 h2 h3 st hcl
    subst h1; subst h2; subst h3
    exact Or.inr ⟨q, (T.setVm vm₁).calling g' mk As.toArray, t, U', L, E, ce, hT, X', hL, e1, e2, hq, hce, hcv, vx_cls hW₁ hcl, st⟩
end
end VXH
theorem vx_ofWH {l : Launch} {y : MethodName} {ws ws' : List Cond} {rm : Room} {Pc : Array Value → State → Prop} {Qc : Array Value → State → Outcome → State → Prop} {XC : String → State → State → Prop} {mc ms : Nat} {free : Addr → Prop} {cc : ByteArray} {maxL : Nat} {ret : Option FieldType} {hh : List (Nat × Nat × Nat × Nat)}
    (hy : plainName y.cls = true) (hw : ws = Cond.codeWith y cc maxL ret hh :: ws')
    (body : ∀ p e s m args below meth c s₁, BodyLoose p l y (headSpec ws rm) cc maxL ret e s m args below meth c s₁ → c.maxLocals = maxL → Pc args s →
      W p l e (headSpec ws rm).room s m args below meth c s.heap [] 0 0 (vx_MQ below Qc XC args s mc ms free) (entryFrame m args maxL)) : vx_Met l y ws rm Pc Qc XC mc ms free := by
  refine MetFree.of_bodyS (code := cc) (maxLocals := maxL) (ret := ret) hy ?_ ?_
  · intro args s m h hn
    obtain ⟨m9, meth, c, hn9, h1, h2, h3, h4, -, h5, h6, -⟩ := Cond.codeWith_spec (atoms_spec (ws := ws) h _ (by rw [hw]; exact List.mem_cons_self))
    cases hn.symm.trans hn9
    exact ⟨meth, c, h1, h2, h3, h4, h5, h6⟩
  · intro p e s m args below meth c s₁ B hml hP _
    have hh0 : s₁.heap = s.heap := by rw [B.state]; rfl
    obtain ⟨t, a1, o, b1, b2, b3⟩ := body p e s m args below meth c s₁ B hml hP s₁ hh0 (Stand.of_body B)
    exact ⟨t, o, a1, b1, b2, b3⟩
/-! ===== END ===== -/
/-! ===== BEGIN a constructor that throws (launches without stack traces) ===== -/
section VXIA
variable {p : Program} {l : Launch} {e : Env} {R : Room} {s : State} {m : MethodId} {args : Array Value} {below : List Frame} {meth : Method} {c : Code} {T : State} {locs : List Loc} {cells slots : Nat}
theorem vx_callI (X : Stand p l e R s m args below meth c T locs cells slots) (hexec : p.tables.exec = Jvm.exec) {own : String} {index : Nat} {y : MethodName} {bytes : ByteArray} {maxL : Nat}
    (hown : s.vm.findClass own = some m.cls) (hy1 : y.name = "<init>") (hlink : (Cond.methodLink own index y).before args s = true) (hinst : (Cond.instanceMethod y).before args s = true)
    (hcode : (Cond.code y bytes maxL none).before args s = true) (hy : y.cls ≠ "java/lang/invoke/MethodHandle" ∧ y.cls ≠ "java/lang/invoke/VarHandle")
    {W9 : Nat} {Pre : Pt → Array Value → Prop} {Post : Pt → Array Value → Option Value → Pt → Prop} {PostX : Pt → Array Value → Addr → Pt → Prop} (hK : vx_Back l R p e below s args y 3 W9 Pre Post PostX)
    {g : JFrame} (hg : g.method = m) (hsize : g.locals.size = c.maxLocals) {a : Addr} {argsL rest : List Value} (hlen : ∀ sig, parseMethodDescriptor y.desc = some sig → argsL.length = sig.parameters.length)
    (hstack : g.stack = argsL.reverse ++ .ref a :: rest) (hW : 2 * g.monitorRoom + (rest.map fun v => v.category).sum ≤ W9) (hdg : decode c.code g.pc = .ok (.invokespecial index, 3))
    (hpre : ∀ vm₁, s.WarmedH vm₁ → Pre ⟨T.setVm vm₁, locs, cells, slots⟩ (Value.ref a :: argsL).toArray) :
    (∃ (v : Option Value) (vm₁ : Vm) (B : Pt), s.WarmedH vm₁ ∧ Stand p l e R s m args below meth c B.U B.locs B.cells B.slots ∧ Post ⟨T.setVm vm₁, locs, cells, slots⟩ (Value.ref a :: argsL).toArray v B ∧
      ∀ target, Steps p.tables e below (B.U.setTop { g with pc := g.pc + 3, stack := v.toList ++ rest }) target → Steps p.tables e below (T.setTop g) target) ∨
    (∃ (q : Addr) (vm₁ : Vm) (B : Pt), s.WarmedH vm₁ ∧ Stand p l e R s m args below meth c B.U B.locs B.cells B.slots ∧ PostX ⟨T.setVm vm₁, locs, cells, slots⟩ (Value.ref a :: argsL).toArray q B ∧
      Steps p.tables e below (T.setTop g) ((B.U.setTop { g with stack := rest }).pushFrame (.throwing q))) := by
  subst hg
  have hpl : e.platform.magicAccessors = ({} : Platform).magicAccessors := by rw [X.admits.platform]
  obtain ⟨mk, methM, cM, kP, vm₁, hnamed, hmethM, hcodeM, -, hlocalsM, -, hkP, -, hW₁, hstep₁⟩ := Steps.initColdArgs (e := e) X.here hexec X.warmed hpl hown hy1 hy hlink hinst hcode (f := g) rfl hlen hstack hdg
  have X₁ := X.noted hW₁
  rcases hK g.method meth c ⟨T.setVm vm₁, locs, cells, slots⟩ { g with stack := rest } (.invokespecial index) mk (Value.ref a :: argsL).toArray X₁ rfl hsize hdg hW (X₁.named hnamed) (hpre vm₁ X₁.warmed) with ⟨v, B, X', hpost, hsteps⟩ | ⟨q, B, X', hpost, hsteps⟩
  · exact Or.inl ⟨v, vm₁, B, X₁.warmed, X', hpost, fun target h => hstep₁ _ fun acts => by rw [doInvoke_state]; exact hsteps.trans h⟩
  · exact Or.inr ⟨q, vm₁, B, X₁.warmed, X', hpost, hstep₁ _ fun acts => by rw [doInvoke_state]; exact hsteps⟩
end VXIA
section VXIB
variable {p : Program} {l : Launch} {e : Env} {R : Room} {s : State} {m : MethodId} {args : Array Value} {below : List Frame} {meth : Method} {c : Code} {H : Heap} {locs : List Loc} {cells slots : Nat}
variable {y : MethodName} {bytes cc : ByteArray} {maxL nL mc ms n index : Nat} {ret : Option FieldType} {ws : List Cond} {rm : Room} {Pc : Array Value → State → Prop} {Qc : Array Value → State → Outcome → State → Prop} {XC : String → State → State → Prop} {free : Addr → Prop} {Ts : List Cond} {own C : String} {b : Addr} {As rest : List Value} {g : JFrame}
theorem vx_runI (S : CallFix p m c cc nL s args Ts own) (hM : vx_Met l y ws rm Pc Qc XC mc ms free) (cw : CallB R s args own index y bytes maxL none ws rm mc ms n ∧ y.name = "<init>" ∧ (Cond.instanceMethod y).before args s = true) (hp : PreS s H Pc (.ref b :: As))
    (hg : g.method = m) (hn : As.length = n) (hsize : g.locals.size = nL) (hstack : g.stack = As.reverse ++ .ref b :: rest) (hW : 2 * g.monitorRoom + (rest.map fun v => v.category).sum ≤ 8) (hdg : decode cc g.pc = .ok (.invokespecial index, 3)) (hf : cells + mc ≤ R.cells ∧ slots + ms ≤ R.slots) :
    vx_Run p l e R s m args below meth c H locs cells slots mc ms g rest (Qc (Value.ref b :: As).toArray) XC free := by
  have hK : vx_Back l R p e below s args y 3 8 (PreOf R mc ms Pc) (PostOf Qc mc ms free) (vx_Post XC mc ms free) := vx_callBack cw.1 hM hp.1
  obtain ⟨⟨-, -, -, -, -, -, hcode, -, hy, hlen, hl⟩, hy1, hin⟩ := cw
  obtain ⟨hx, hb, hml, ho, -⟩ := S
  have hPc := hp.2
  intro T hT X
  rcases vx_callI X hx (bytes := bytes) (maxL := maxL) ho hy1 hl hin hcode hy hK hg (hsize.trans hml.symm) (a := b) (argsL := As) (rest := rest) (fun sig h => hn.trans (hlen sig h)) hstack hW (by rw [hb]; exact hdg)
    (fun vm₁ hW₁ => ⟨hf.1, hf.2, hPc (T.setVm vm₁) hT hW₁⟩) with ⟨v, vm₁, ⟨U', l2, c2, s2⟩, hW₁, X', ⟨g', mk, t, L, e1, e2, hq, h1, hL, h2, h3⟩, st⟩ | ⟨q, vm₁, ⟨U', l2, c2, s2⟩, hW₁, X', ⟨g', mk, t, L, E, ce, e1, e2, hq, hce, hcv, hcl, h1, hL, h2, h3⟩, st⟩
  · dsimp only [Pt.U, Pt.locs, Pt.cells, Pt.slots] at X' e1 e2 h1 h2 h3 st
    subst h1; subst h2; subst h3
    exact Or.inl ⟨v, (T.setVm vm₁).calling g' mk (Value.ref b :: As).toArray, t, U', L, hT, X', hL, e1, e2, hq, st⟩
  · dsimp only [Pt.U, Pt.locs, Pt.cells, Pt.slots] at X' e1 e2 h1 h2 h3 st hcl
    subst h1; subst h2; subst h3
    exact Or.inr ⟨q, (T.setVm vm₁).calling g' mk (Value.ref b :: As).toArray, t, U', L, E, ce, hT, X', hL, e1, e2, hq, hce, hcv, vx_cls hW₁ hcl, st⟩
end VXIB
/-! ===== END ===== -/
/-! ===== BEGIN a private constructor of a nest mate that throws ===== -/
section VXIC
variable {p : Program} {l : Launch} {e : Env} {R : Room} {s : State} {m : MethodId} {args : Array Value} {below : List Frame} {meth : Method} {c : Code} {T : State} {locs : List Loc} {cells slots : Nat}
theorem vx_callIN (X : Stand p l e R s m args below meth c T locs cells slots) (hexec : p.tables.exec = Jvm.exec) {own : String} {index : Nat} {host : String} {y : MethodName} {bytes : ByteArray} {maxL : Nat}
    (hown : s.vm.findClass own = some m.cls) (hy1 : y.name = "<init>") (hlink : (Cond.methodLinkNest own index y host).before args s = true) (hinst : (Cond.instanceMethod y).before args s = true)
    (hcode : (Cond.code y bytes maxL none).before args s = true) (hy : y.cls ≠ "java/lang/invoke/MethodHandle" ∧ y.cls ≠ "java/lang/invoke/VarHandle")
    {W9 : Nat} {Pre : Pt → Array Value → Prop} {Post : Pt → Array Value → Option Value → Pt → Prop} {PostX : Pt → Array Value → Addr → Pt → Prop} (hK : vx_Back l R p e below s args y 3 W9 Pre Post PostX)
    {g : JFrame} (hg : g.method = m) (hsize : g.locals.size = c.maxLocals) {a : Addr} {argsL rest : List Value} (hlen : ∀ sig, parseMethodDescriptor y.desc = some sig → argsL.length = sig.parameters.length)
    (hstack : g.stack = argsL.reverse ++ .ref a :: rest) (hW : 2 * g.monitorRoom + (rest.map fun v => v.category).sum ≤ W9) (hdg : decode c.code g.pc = .ok (.invokespecial index, 3))
    (hpre : ∀ vm₁, s.WarmedH vm₁ → Pre ⟨T.setVm vm₁, locs, cells, slots⟩ (Value.ref a :: argsL).toArray) :
    (∃ (v : Option Value) (vm₁ : Vm) (B : Pt), s.WarmedH vm₁ ∧ Stand p l e R s m args below meth c B.U B.locs B.cells B.slots ∧ Post ⟨T.setVm vm₁, locs, cells, slots⟩ (Value.ref a :: argsL).toArray v B ∧
      ∀ target, Steps p.tables e below (B.U.setTop { g with pc := g.pc + 3, stack := v.toList ++ rest }) target → Steps p.tables e below (T.setTop g) target) ∨
    (∃ (q : Addr) (vm₁ : Vm) (B : Pt), s.WarmedH vm₁ ∧ Stand p l e R s m args below meth c B.U B.locs B.cells B.slots ∧ PostX ⟨T.setVm vm₁, locs, cells, slots⟩ (Value.ref a :: argsL).toArray q B ∧
      Steps p.tables e below (T.setTop g) ((B.U.setTop { g with stack := rest }).pushFrame (.throwing q))) := by
  subst hg
  have hpl : e.platform.magicAccessors = ({} : Platform).magicAccessors := by rw [X.admits.platform]
  obtain ⟨mk, methM, cM, kP, vm₁, hnamed, hmethM, hcodeM, -, hlocalsM, -, hkP, -, hW₁, hstep₁⟩ := Steps.initColdArgsNest (e := e) X.here hexec X.warmed hpl hown hy1 hy hlink hinst hcode (f := g) rfl hlen hstack hdg
  have X₁ := X.noted hW₁
  rcases hK g.method meth c ⟨T.setVm vm₁, locs, cells, slots⟩ { g with stack := rest } (.invokespecial index) mk (Value.ref a :: argsL).toArray X₁ rfl hsize hdg hW (X₁.named hnamed) (hpre vm₁ X₁.warmed) with ⟨v, B, X', hpost, hsteps⟩ | ⟨q, B, X', hpost, hsteps⟩
  · exact Or.inl ⟨v, vm₁, B, X₁.warmed, X', hpost, fun target h => hstep₁ _ fun acts => by rw [doInvoke_state]; exact hsteps.trans h⟩
  · exact Or.inr ⟨q, vm₁, B, X₁.warmed, X', hpost, hstep₁ _ fun acts => by rw [doInvoke_state]; exact hsteps⟩
end VXIC
section VXID
variable {p : Program} {l : Launch} {e : Env} {R : Room} {s : State} {m : MethodId} {args : Array Value} {below : List Frame} {meth : Method} {c : Code} {H : Heap} {locs : List Loc} {cells slots : Nat}
theorem vx_runIN {y : MethodName} {bytes cc : ByteArray} {maxL nL mc ms n index : Nat} {ws : List Cond} {rm : Room} {Pc : Array Value → State → Prop} {Qc : Array Value → State → Outcome → State → Prop} {XC : String → State → State → Prop} {free : Addr → Prop} {Ts : List Cond} {own host : String} {b : Addr} {As rest : List Value} {g : JFrame}
    (S : CallFix p m c cc nL s args Ts own) (hM : vx_Met l y ws rm Pc Qc XC mc ms free) (cw : va_CN R s args own index y host bytes maxL none ws rm mc ms n ∧ y.name = "<init>" ∧ (Cond.instanceMethod y).before args s = true) (hp : PreS s H Pc (.ref b :: As))
    (hg : g.method = m) (hn : As.length = n) (hsize : g.locals.size = nL) (hstack : g.stack = As.reverse ++ .ref b :: rest) (hW : 2 * g.monitorRoom + (rest.map fun v => v.category).sum ≤ 8) (hdg : decode cc g.pc = .ok (.invokespecial index, 3)) (hf : cells + mc ≤ R.cells ∧ slots + ms ≤ R.slots) :
    vx_Run p l e R s m args below meth c H locs cells slots mc ms g rest (Qc (Value.ref b :: As).toArray) XC free := by
  obtain ⟨⟨⟨hrc, hrs, hfr, hlo, hws, hcw⟩, hcode, hini, hy, hlen, hl⟩, hx1, hx2⟩ := cw
  have hK : vx_Back l R p e below s args y 3 8 (PreOf R mc ms Pc) (PostOf Qc mc ms free) (vx_Post XC mc ms free) := vx_back (bytes := bytes) (maxL := maxL) (ret := none) hM hp.1 hrc hrs hfr hlo hws hcw (fun a' U hW => word_at hW (Or.inl (by first | rfl | simp [Cond.onTables, Cond.keeps, Cond.steady])) hini)
  obtain ⟨hx, hb, hml, ho, -⟩ := S
  have hPc := hp.2
  intro T hT X
  rcases vx_callIN X hx (bytes := bytes) (maxL := maxL) ho hx1 hl hx2 hcode hy hK hg (hsize.trans hml.symm) (a := b) (argsL := As) (rest := rest) (fun sig h => hn.trans (hlen sig h)) hstack hW (by rw [hb]; exact hdg)
    (fun vm₁ hW₁ => ⟨hf.1, hf.2, hPc (T.setVm vm₁) hT hW₁⟩) with ⟨v, vm₁, ⟨U', l2, c2, s2⟩, hW₁, X', ⟨g', mk, t, L, e1, e2, hq, h1, hL, h2, h3⟩, st⟩ | ⟨q, vm₁, ⟨U', l2, c2, s2⟩, hW₁, X', ⟨g', mk, t, L, E, ce, e1, e2, hq, hce, hcv, hcl, h1, hL, h2, h3⟩, st⟩
  · dsimp only [Pt.U, Pt.locs, Pt.cells, Pt.slots] at X' e1 e2 h1 h2 h3 st
    subst h1; subst h2; subst h3
    exact Or.inl ⟨v, (T.setVm vm₁).calling g' mk (Value.ref b :: As).toArray, t, U', L, hT, X', hL, e1, e2, hq, st⟩
  · dsimp only [Pt.U, Pt.locs, Pt.cells, Pt.slots] at X' e1 e2 h1 h2 h3 st hcl
    subst h1; subst h2; subst h3
    exact Or.inr ⟨q, (T.setVm vm₁).calling g' mk (Value.ref b :: As).toArray, t, U', L, E, ce, hT, X', hL, e1, e2, hq, hce, hcv, vx_cls hW₁ hcl, st⟩
end VXID
/-! ===== END ===== -/
/-! ===== BEGIN a private method of a nest mate that may throw (follows va_callVN, va_callSN, va_runVN, va_runSN) ===== -/
section
variable {p : Program} {l : Launch} {e : Env} {R : Room} {s : State} {m : MethodId} {args : Array Value} {below : List Frame} {meth : Method} {c : Code} {H : Heap} {locs : List Loc} {cells slots : Nat}
variable {T : State}
theorem vx_callVN (X : Stand p l e R s m args below meth c T locs cells slots) (hexec : p.tables.exec = Jvm.exec) {own C : String} {index : Nat} {host : String} {y : MethodName} {bytes : ByteArray} {maxL : Nat} {ret : Option FieldType}
    (hown : s.vm.findClass own = some m.cls) (hlink : (Cond.methodLinkNest own index y host).before args s = true) (hinst : (Cond.instanceMethod y).before args s = true) (hsel : (Cond.selects C y y).before args s = true)
    (hcode : (Cond.code y bytes maxL ret).before args s = true) (hy : y.cls ≠ "java/lang/invoke/MethodHandle" ∧ y.cls ≠ "java/lang/invoke/VarHandle")
    {W : Nat} {Pre : Pt → Array Value → Prop} {Post : Pt → Array Value → Option Value → Pt → Prop} {PostX : Pt → Array Value → Addr → Pt → Prop} (hK : vx_Back l R p e below s args y 3 W Pre Post PostX)
    {b : Addr} {cellB : Cell} (hcell : T.heap[b]? = some cellB) (hobj : cellB.vm.isStatics = false) (hcls : s.vm.findClass C = some cellB.cls)
    {g : JFrame} (hg : g.method = m) (hsize : g.locals.size = c.maxLocals) {argsL rest : List Value} (hlen : ∀ sig, parseMethodDescriptor y.desc = some sig → argsL.length = sig.parameters.length)
    (hstack : g.stack = argsL.reverse ++ .ref b :: rest) (hW : 2 * g.monitorRoom + (rest.map fun v => v.category).sum ≤ W) (hdg : decode c.code g.pc = .ok (.invokevirtual index, 3))
    (hpre : ∀ vm₁, s.WarmedH vm₁ → Pre ⟨T.setVm vm₁, locs, cells, slots⟩ (Value.ref b :: argsL).toArray) :
    (∃ (v : Option Value) (vm₁ : Vm) (B : Pt), s.WarmedH vm₁ ∧ Stand p l e R s m args below meth c B.U B.locs B.cells B.slots ∧ Post ⟨T.setVm vm₁, locs, cells, slots⟩ (Value.ref b :: argsL).toArray v B ∧
      ∀ target, Steps p.tables e below (B.U.setTop { g with pc := g.pc + 3, stack := v.toList ++ rest }) target → Steps p.tables e below (T.setTop g) target) ∨
    (∃ (q : Addr) (vm₁ : Vm) (B : Pt), s.WarmedH vm₁ ∧ Stand p l e R s m args below meth c B.U B.locs B.cells B.slots ∧ PostX ⟨T.setVm vm₁, locs, cells, slots⟩ (Value.ref b :: argsL).toArray q B ∧
      Steps p.tables e below (T.setTop g) ((B.U.setTop { g with stack := rest }).pushFrame (.throwing q))) := by
  obtain ⟨mk, methM, hnamed, hmethM, hstM, habM⟩ := Cond.instanceMethod_spec hinst
  obtain ⟨methM', cM, hmethM', -, -, -, -, -, -, hsigM⟩ := Cond.code_spec hnamed hcode
  cases hmethM.symm.trans hmethM'
  obtain ⟨c2, r2, m2, q1, q2, q3, q4, kP, hkP, hkPi⟩ := Cond.selects_spec hsel
  cases hcls.symm.trans q1
  cases (State.methodFound?_of_named hnamed hy).symm.trans q2
  cases hnamed.symm.trans q3
  have hselP : selectMethod e.platform s.vm cellB.cls mk = .method mk := by rw [Launch.admits_selectMethod X.admits]; exact q4
  obtain ⟨vm₁, X₁, hstep₁⟩ := X.invokevirtualNest hexec hown hlink hnamed hmethM hstM hkP hkPi hy (a := b) (cell := cellB) hcell
    (fun z h => by rw [h] at hobj; cases hobj) hselP hmethM habM hkP hkPi (g := g) hg (argsL := argsL) (rest := rest) (hlen _ hsigM) hstack hdg
  rcases hK m meth c ⟨T.setVm vm₁, locs, cells, slots⟩ { g with stack := rest } (.invokevirtual index) mk (Value.ref b :: argsL).toArray X₁ hg hsize hdg hW (X₁.named hnamed) (hpre vm₁ X₁.warmed) with ⟨v, B, X', hpost, hsteps⟩ | ⟨q, B, X', hpost, hsteps⟩
  · exact Or.inl ⟨v, vm₁, B, X₁.warmed, X', hpost, fun target h => hstep₁ _ fun acts => by rw [doInvoke_state]; exact hsteps.trans h⟩
  · exact Or.inr ⟨q, vm₁, B, X₁.warmed, X', hpost, hstep₁ _ fun acts => by rw [doInvoke_state]; exact hsteps⟩
theorem vx_callSN (X : Stand p l e R s m args below meth c T locs cells slots) (hexec : p.tables.exec = Jvm.exec) {own : String} {index : Nat} {host : String} {y : MethodName} {bytes : ByteArray} {maxL : Nat} {ret : Option FieldType}
    (hown : s.vm.findClass own = some m.cls) (hlink : (Cond.methodLinkNest own index y host).before args s = true) (hstat : (Cond.static y).before args s = true) (hinit : (Cond.initialized y.cls).before args s = true)
    (hcode : (Cond.code y bytes maxL ret).before args s = true) (hy : y.cls ≠ "java/lang/invoke/MethodHandle" ∧ y.cls ≠ "java/lang/invoke/VarHandle")
    {W : Nat} {Pre : Pt → Array Value → Prop} {Post : Pt → Array Value → Option Value → Pt → Prop} {PostX : Pt → Array Value → Addr → Pt → Prop} (hK : vx_Back l R p e below s args y 3 W Pre Post PostX)
    {g : JFrame} (hg : g.method = m) (hsize : g.locals.size = c.maxLocals) {argsL rest : List Value} (hlen : ∀ sig, parseMethodDescriptor y.desc = some sig → argsL.length = sig.parameters.length)
    (hstack : g.stack = argsL.reverse ++ rest) (hW : 2 * g.monitorRoom + (rest.map fun v => v.category).sum ≤ W) (hdg : decode c.code g.pc = .ok (.invokestatic index, 3))
    (hpre : ∀ vm₁, s.WarmedH vm₁ → Pre ⟨T.setVm vm₁, locs, cells, slots⟩ argsL.toArray) :
    (∃ (v : Option Value) (vm₁ : Vm) (B : Pt), s.WarmedH vm₁ ∧ Stand p l e R s m args below meth c B.U B.locs B.cells B.slots ∧ Post ⟨T.setVm vm₁, locs, cells, slots⟩ argsL.toArray v B ∧
      ∀ target, Steps p.tables e below (B.U.setTop { g with pc := g.pc + 3, stack := v.toList ++ rest }) target → Steps p.tables e below (T.setTop g) target) ∨
    (∃ (q : Addr) (vm₁ : Vm) (B : Pt), s.WarmedH vm₁ ∧ Stand p l e R s m args below meth c B.U B.locs B.cells B.slots ∧ PostX ⟨T.setVm vm₁, locs, cells, slots⟩ argsL.toArray q B ∧
      Steps p.tables e below (T.setTop g) ((B.U.setTop { g with stack := rest }).pushFrame (.throwing q))) := by
  obtain ⟨mk, hnamed⟩ := Cond.code_named hcode
  obtain ⟨methM, cM, hmethM, -, -, -, -, -, -, hsigM⟩ := Cond.code_spec hnamed hcode
  have hstatic : methM.isStatic = true := Cond.static_spec hnamed hmethM hstat
  obtain ⟨kP, hkP, -⟩ := className_of_methodNamed hnamed
  have hinitP : kP.init = .initialized := Cond.initialized_spec (findClass_of_methodNamed hnamed) hkP hinit
  obtain ⟨vm₁, X₁, hstep₁⟩ := X.invokestaticNest hexec hown hlink hnamed hmethM hstatic hkP hinitP hy (g := g) hg (argsL := argsL) (rest := rest) (hlen _ hsigM) hstack hdg
  rcases hK m meth c ⟨T.setVm vm₁, locs, cells, slots⟩ { g with stack := rest } (.invokestatic index) mk argsL.toArray X₁ hg hsize hdg hW (X₁.named hnamed) (hpre vm₁ X₁.warmed) with ⟨v, B, X', hpost, hsteps⟩ | ⟨q, B, X', hpost, hsteps⟩
  · exact Or.inl ⟨v, vm₁, B, X₁.warmed, X', hpost, fun target h => hstep₁ _ fun acts => by rw [doInvoke_state]; exact hsteps.trans h⟩
  · exact Or.inr ⟨q, vm₁, B, X₁.warmed, X', hpost, hstep₁ _ fun acts => by rw [doInvoke_state]; exact hsteps⟩
theorem vx_runVN {y : MethodName} {bytes cc : ByteArray} {maxL nL mc ms n index : Nat} {ret : Option FieldType} {ws : List Cond} {rm : Room} {Pc : Array Value → State → Prop} {Qc : Array Value → State → Outcome → State → Prop} {XC : String → State → State → Prop} {free : Addr → Prop} {Ts : List Cond} {own C host : String} {b : Addr} {As rest : List Value} {g : JFrame}
    (S : CallFix p m c cc nL s args Ts own) (hM : vx_Met l y ws rm Pc Qc XC mc ms free) (cw : va_CN R s args own index y host bytes maxL ret ws rm mc ms n ∧ (Cond.instanceMethod y).before args s = true ∧ (Cond.selects C y y).before args s = true) (hp : PreV s H C b Pc As)
    (hg : g.method = m) (hn : As.length = n) (hsize : g.locals.size = nL) (hstack : g.stack = As.reverse ++ .ref b :: rest) (hW : 2 * g.monitorRoom + (rest.map fun v => v.category).sum ≤ 8) (hdg : decode cc g.pc = .ok (.invokevirtual index, 3)) (hf : cells + mc ≤ R.cells ∧ slots + ms ≤ R.slots) :
    vx_Run p l e R s m args below meth c H locs cells slots mc ms g rest (Qc (Value.ref b :: As).toArray) XC free := by
  obtain ⟨⟨⟨hrc, hrs, hfr, hlo, hws, hcw⟩, hcode, hini, hy, hlen, hl⟩, hx1, hx2⟩ := cw
  have hK : vx_Back l R p e below s args y 3 8 (PreOf R mc ms Pc) (PostOf Qc mc ms free) (vx_Post XC mc ms free) := vx_back (bytes := bytes) (maxL := maxL) (ret := ret) hM hp.1 hrc hrs hfr hlo hws hcw (fun a' U hW => word_at hW (Or.inl (by first | rfl | simp [Cond.onTables, Cond.keeps, Cond.steady])) hini)
  obtain ⟨hx, hb, hml, ho, -⟩ := S
  obtain ⟨-, ⟨cellB, hcB, hoB, hclB⟩, hPc⟩ := hp
  intro T hT X
  rcases vx_callVN X hx (C := C) (bytes := bytes) (maxL := maxL) (ret := ret) ho hl hx1 hx2 hcode hy hK (by rw [hT]; exact hcB) hoB hclB hg (hsize.trans hml.symm) (argsL := As) (rest := rest) (fun sig h => hn.trans (hlen sig h)) hstack hW (by rw [hb]; exact hdg)
    (fun vm₁ hW₁ => ⟨hf.1, hf.2, hPc (T.setVm vm₁) hT hW₁⟩) with ⟨v, vm₁, ⟨U', l2, c2, s2⟩, hW₁, X', ⟨g', mk, t, L, e1, e2, hq, h1, hL, h2, h3⟩, st⟩ | ⟨q, vm₁, ⟨U', l2, c2, s2⟩, hW₁, X', ⟨g', mk, t, L, E, ce, e1, e2, hq, hce, hcv, hcl, h1, hL, h2, h3⟩, st⟩
  · dsimp only [Pt.U, Pt.locs, Pt.cells, Pt.slots] at X' e1 e2 h1 h2 h3 st
    subst h1; subst h2; subst h3
    exact Or.inl ⟨v, (T.setVm vm₁).calling g' mk (Value.ref b :: As).toArray, t, U', L, hT, X', hL, e1, e2, hq, st⟩
  · dsimp only [Pt.U, Pt.locs, Pt.cells, Pt.slots] at X' e1 e2 h1 h2 h3 st hcl
    subst h1; subst h2; subst h3
    exact Or.inr ⟨q, (T.setVm vm₁).calling g' mk (Value.ref b :: As).toArray, t, U', L, E, ce, hT, X', hL, e1, e2, hq, hce, hcv, vx_cls hW₁ hcl, st⟩
theorem vx_runSN {y : MethodName} {bytes cc : ByteArray} {maxL nL mc ms n index : Nat} {ret : Option FieldType} {ws : List Cond} {rm : Room} {Pc : Array Value → State → Prop} {Qc : Array Value → State → Outcome → State → Prop} {XC : String → State → State → Prop} {free : Addr → Prop} {Ts : List Cond} {own host : String} {As rest : List Value} {g : JFrame}
    (S : CallFix p m c cc nL s args Ts own) (hM : vx_Met l y ws rm Pc Qc XC mc ms free) (cw : va_CN R s args own index y host bytes maxL ret ws rm mc ms n ∧ (Cond.static y).before args s = true ∧ True) (hp : PreS s H Pc As)
    (hg : g.method = m) (hn : As.length = n) (hsize : g.locals.size = nL) (hstack : g.stack = As.reverse ++ rest) (hW : 2 * g.monitorRoom + (rest.map fun v => v.category).sum ≤ 8) (hdg : decode cc g.pc = .ok (.invokestatic index, 3)) (hf : cells + mc ≤ R.cells ∧ slots + ms ≤ R.slots) :
    vx_Run p l e R s m args below meth c H locs cells slots mc ms g rest (Qc As.toArray) XC free := by
  obtain ⟨⟨⟨hrc, hrs, hfr, hlo, hws, hcw⟩, hcode, hini, hy, hlen, hl⟩, hx1, hx2⟩ := cw
  have hK : vx_Back l R p e below s args y 3 8 (PreOf R mc ms Pc) (PostOf Qc mc ms free) (vx_Post XC mc ms free) := vx_back (bytes := bytes) (maxL := maxL) (ret := ret) hM hp.1 hrc hrs hfr hlo hws hcw (fun a' U hW => word_at hW (Or.inl (by first | rfl | simp [Cond.onTables, Cond.keeps, Cond.steady])) hini)
  obtain ⟨hx, hb, hml, ho, -⟩ := S
  have hPc := hp.2
  intro T hT X
  rcases vx_callSN X hx (bytes := bytes) (maxL := maxL) (ret := ret) ho hl hx1 hini hcode hy hK hg (hsize.trans hml.symm) (argsL := As) (rest := rest) (fun sig h => hn.trans (hlen sig h)) hstack hW (by rw [hb]; exact hdg)
    (fun vm₁ hW₁ => ⟨hf.1, hf.2, hPc (T.setVm vm₁) hT hW₁⟩) with ⟨v, vm₁, ⟨U', l2, c2, s2⟩, hW₁, X', ⟨g', mk, t, L, e1, e2, hq, h1, hL, h2, h3⟩, st⟩ | ⟨q, vm₁, ⟨U', l2, c2, s2⟩, hW₁, X', ⟨g', mk, t, L, E, ce, e1, e2, hq, hce, hcv, hcl, h1, hL, h2, h3⟩, st⟩
  · dsimp only [Pt.U, Pt.locs, Pt.cells, Pt.slots] at X' e1 e2 h1 h2 h3 st
    subst h1; subst h2; subst h3
    exact Or.inl ⟨v, (T.setVm vm₁).calling g' mk As.toArray, t, U', L, hT, X', hL, e1, e2, hq, st⟩
  · dsimp only [Pt.U, Pt.locs, Pt.cells, Pt.slots] at X' e1 e2 h1 h2 h3 st hcl
    subst h1; subst h2; subst h3
    exact Or.inr ⟨q, (T.setVm vm₁).calling g' mk As.toArray, t, U', L, E, ce, hT, X', hL, e1, e2, hq, hce, hcv, vx_cls hW₁ hcl, st⟩
end
/-! ===== END ===== -/
end
section
def RJ1 : String := "java/lang/StringLatin1"
def RJ3 : String := "jdk/internal/util/Preconditions"
def RJ5 : String := "java/lang/AbstractStringBuilder"
def RJ6 : String := "java/lang/Integer"
def RJ7 : String := "java/util/Arrays"
def RJ8 : String := "jdk/internal/util/ArraysSupport"
def RX0 : String := "MatchboxModem$Commands"
def TX0 : u_T := fun k => match k with
  | 0 => ("MatchboxModem$Commands", "count", "I", false)
  | 1 => ("MatchboxModem$Commands", "names", "[I", true)
  | 2 => ("MatchboxModem$Commands", "first", "[I", true)
  | 3 => ("MatchboxModem$Commands", "second", "[I", true)
  | _ => ("MatchboxModem$Commands", "third", "[I", true)
def tyX0 : Nat → FieldType := fun k => match k with
  | 0 => .int
  | 1 => .array (.int)
  | 2 => .array (.int)
  | 3 => .array (.int)
  | _ => .array (.int)
def RX1 : String := "MatchboxModem$Counters"
def TX1 : u_T := fun k => match k with
  | 0 => ("MatchboxModem$Counters", "attempted", "I", false)
  | 1 => ("MatchboxModem$Counters", "unreadable", "I", false)
  | 2 => ("MatchboxModem$Counters", "ignored", "I", false)
  | 3 => ("MatchboxModem$Counters", "arrivals", "I", false)
  | 4 => ("MatchboxModem$Counters", "unheard", "I", false)
  | 5 => ("MatchboxModem$Counters", "bits", "I", false)
  | 6 => ("MatchboxModem$Counters", "beeped", "I", false)
  | 7 => ("MatchboxModem$Counters", "napped", "I", false)
  | _ => ("MatchboxModem$Counters", "waited", "I", false)
def tyX1 : Nat → FieldType := fun k => match k with
  | 0 => .int
  | 1 => .int
  | 2 => .int
  | 3 => .int
  | 4 => .int
  | 5 => .int
  | 6 => .int
  | 7 => .int
  | _ => .int
def RX2 : String := "MatchboxModem$Dogs"
def TX2 : u_T := fun k => match k with
  | 0 => ("MatchboxModem$Dogs", "count", "I", false)
  | 1 => ("MatchboxModem$Dogs", "periods", "[I", true)
  | 2 => ("MatchboxModem$Dogs", "lengths", "[I", true)
  | _ => ("MatchboxModem$Dogs", "offsets", "[I", true)
def tyX2 : Nat → FieldType := fun k => match k with
  | 0 => .int
  | 1 => .array (.int)
  | 2 => .array (.int)
  | _ => .array (.int)
def RX3 : String := "MatchboxModem$Frames"
def TX3 : u_T := fun k => match k with
  | 0 => ("MatchboxModem$Frames", "count", "I", false)
  | 1 => ("MatchboxModem$Frames", "sizes", "[I", true)
  | 2 => ("MatchboxModem$Frames", "states", "[I", true)
  | 3 => ("MatchboxModem$Frames", "tries", "[I", true)
  | 4 => ("MatchboxModem$Frames", "arrivals", "[I", true)
  | 5 => ("MatchboxModem$Frames", "sent", "[I", true)
  | _ => ("MatchboxModem$Frames", "arrived", "[I", true)
def tyX3 : Nat → FieldType := fun k => match k with
  | 0 => .int
  | 1 => .array (.int)
  | 2 => .array (.int)
  | 3 => .array (.int)
  | 4 => .array (.int)
  | 5 => .array (.int)
  | _ => .array (.int)
def RX4 : String := "MatchboxModem$History"
def TX4 : u_T := fun k => match k with
  | 0 => ("MatchboxModem$History", "count", "I", false)
  | 1 => ("MatchboxModem$History", "next", "I", false)
  | _ => ("MatchboxModem$History", "before", "[LMatchboxModem$Line;", true)
def tyX4 : Nat → FieldType := fun k => match k with
  | 0 => .int
  | 1 => .int
  | _ => .array (.object "MatchboxModem$Line")
def RX5 : String := "MatchboxModem$Line"
def TX5 : u_T := fun k => match k with
  | 0 => ("MatchboxModem$Line", "bitTicks", "I", false)
  | 1 => ("MatchboxModem$Line", "slowness", "I", false)
  | 2 => ("MatchboxModem$Line", "napBase", "I", false)
  | 3 => ("MatchboxModem$Line", "attemptLimit", "I", false)
  | 4 => ("MatchboxModem$Line", "now", "I", false)
  | 5 => ("MatchboxModem$Line", "awakeAt", "I", false)
  | 6 => ("MatchboxModem$Line", "lastSequence", "I", false)
  | 7 => ("MatchboxModem$Line", "messages", "I", false)
  | 8 => ("MatchboxModem$Line", "messageBytes", "[I", true)
  | 9 => ("MatchboxModem$Line", "firstFrames", "[I", true)
  | 10 => ("MatchboxModem$Line", "dogs", "LMatchboxModem$Dogs;", true)
  | 11 => ("MatchboxModem$Line", "frames", "LMatchboxModem$Frames;", true)
  | _ => ("MatchboxModem$Line", "counters", "LMatchboxModem$Counters;", true)
def tyX5 : Nat → FieldType := fun k => match k with
  | 0 => .int
  | 1 => .int
  | 2 => .int
  | 3 => .int
  | 4 => .int
  | 5 => .int
  | 6 => .int
  | 7 => .int
  | 8 => .array (.int)
  | 9 => .array (.int)
  | 10 => .object "MatchboxModem$Dogs"
  | 11 => .object "MatchboxModem$Frames"
  | _ => .object "MatchboxModem$Counters"
def RX6 : String := "MatchboxModem$Sending"
def TX6 : u_T := fun k => match k with
  | 0 => ("MatchboxModem$Sending", "cable", "[I", true)
  | 1 => ("MatchboxModem$Sending", "taken", "[I", true)
  | 2 => ("MatchboxModem$Sending", "bits", "I", false)
  | 3 => ("MatchboxModem$Sending", "inverted", "I", false)
  | _ => ("MatchboxModem$Sending", "burst", "I", false)
def tyX6 : Nat → FieldType := fun k => match k with
  | 0 => .array (.int)
  | 1 => .array (.int)
  | 2 => .int
  | 3 => .int
  | _ => .int
def RX7 : String := "MatchboxModem$Text"
def TX7 : u_T := fun k => match k with
  | 0 => ("MatchboxModem$Text", "bytes", "[I", true)
  | _ => ("MatchboxModem$Text", "length", "I", false)
def tyX7 : Nat → FieldType := fun k => match k with
  | 0 => .array (.int)
  | _ => .int
def RX8 : String := "MatchboxModem$Tokens"
def TX8 : u_T := fun k => match k with
  | 0 => ("MatchboxModem$Tokens", "text", "LMatchboxModem$Text;", true)
  | 1 => ("MatchboxModem$Tokens", "kind", "I", false)
  | 2 => ("MatchboxModem$Tokens", "start", "I", false)
  | 3 => ("MatchboxModem$Tokens", "end", "I", false)
  | 4 => ("MatchboxModem$Tokens", "failure", "I", false)
  | 5 => ("MatchboxModem$Tokens", "failedAt", "I", false)
  | 6 => ("MatchboxModem$Tokens", "period", "I", false)
  | 7 => ("MatchboxModem$Tokens", "length", "I", false)
  | _ => ("MatchboxModem$Tokens", "offset", "I", false)
def tyX8 : Nat → FieldType := fun k => match k with
  | 0 => .object "MatchboxModem$Text"
  | 1 => .int
  | 2 => .int
  | 3 => .int
  | 4 => .int
  | 5 => .int
  | 6 => .int
  | 7 => .int
  | _ => .int
def RX9 : String := "MatchboxModem"
def TX9 : u_T := fun k => match k with
  | 0 => ("MatchboxModem", "input", "LMatchboxModem$Text;", true)
  | 1 => ("MatchboxModem", "output", "LMatchboxModem$Text;", true)
  | 2 => ("MatchboxModem", "tokens", "LMatchboxModem$Tokens;", true)
  | 3 => ("MatchboxModem", "commands", "LMatchboxModem$Commands;", true)
  | 4 => ("MatchboxModem", "sending", "LMatchboxModem$Sending;", true)
  | 5 => ("MatchboxModem", "history", "LMatchboxModem$History;", true)
  | 6 => ("MatchboxModem", "line", "LMatchboxModem$Line;", true)
  | 7 => ("MatchboxModem", "saved", "LMatchboxModem$Line;", true)
  | 8 => ("MatchboxModem", "scratch", "LMatchboxModem$Line;", true)
  | _ => ("MatchboxModem", "hasSaved", "Z", false)
def tyX9 : Nat → FieldType := fun k => match k with
  | 0 => .object "MatchboxModem$Text"
  | 1 => .object "MatchboxModem$Text"
  | 2 => .object "MatchboxModem$Tokens"
  | 3 => .object "MatchboxModem$Commands"
  | 4 => .object "MatchboxModem$Sending"
  | 5 => .object "MatchboxModem$History"
  | 6 => .object "MatchboxModem$Line"
  | 7 => .object "MatchboxModem$Line"
  | 8 => .object "MatchboxModem$Line"
  | _ => .boolean
def RX10 : String := "MatchboxModemModel"
def TX10 : u_T := fun k => match k with
  | _ => ("", "", "", false)
def tyX10 : Nat → FieldType := fun k => match k with
  | _ => .object ""
def RJ0 : String := "java/lang/String"
def TJ0 : u_T := fun k => match k with
  | 0 => ("java/lang/String", "value", "[B", true)
  | 1 => ("java/lang/String", "coder", "B", true)
  | 2 => ("java/lang/String", "hash", "I", false)
  | _ => ("java/lang/String", "hashIsZero", "Z", false)
def tyJ0 : Nat → FieldType := fun k => match k with
  | 0 => .array (.byte)
  | 1 => .byte
  | 2 => .int
  | _ => .boolean
def RJ4 : String := "java/lang/StringBuilder"
def TJ4 : u_T := fun k => match k with
  | 0 => ("java/lang/AbstractStringBuilder", "value", "[B", false)
  | 1 => ("java/lang/AbstractStringBuilder", "coder", "B", false)
  | 2 => ("java/lang/AbstractStringBuilder", "maybeLatin1", "Z", false)
  | _ => ("java/lang/AbstractStringBuilder", "count", "I", false)
def tyJ4 : Nat → FieldType := fun k => match k with
  | 0 => .array (.byte)
  | 1 => .byte
  | 2 => .boolean
  | _ => .int
def RL : String := "MatchboxModemLaw"
abbrev vwCl : List vw_C := [(RX0, TX0, 5), (RX1, TX1, 9), (RX2, TX2, 4), (RX3, TX3, 7), (RX4, TX4, 3), (RX5, TX5, 13), (RX6, TX6, 5), (RX7, TX7, 2), (RX8, TX8, 9), (RX9, TX9, 10), (RX10, TX10, 0), (RX10, TX10, 0), (RJ0, TJ0, 4), (RX10, TX10, 0), (RX10, TX10, 0), (RJ4, TJ4, 4)]
abbrev cX0_init : ByteArray := prog_2_method_1_code
def yX0_init : MethodName := ⟨RX0, "<init>", "()V"⟩
abbrev cX1_init : ByteArray := prog_3_method_1_code
def yX1_init : MethodName := ⟨RX1, "<init>", "()V"⟩
abbrev cX1_clear : ByteArray := prog_3_method_2_code
def yX1_clear : MethodName := ⟨RX1, "clear", "()V"⟩
abbrev cX1_copyFrom : ByteArray := prog_3_method_3_code
def yX1_copyFrom : MethodName := ⟨RX1, "copyFrom", "(LMatchboxModem$Counters;)V"⟩
abbrev cX2_init : ByteArray := prog_4_method_1_code
def yX2_init : MethodName := ⟨RX2, "<init>", "()V"⟩
abbrev cX2_copyFrom : ByteArray := prog_4_method_2_code
def yX2_copyFrom : MethodName := ⟨RX2, "copyFrom", "(LMatchboxModem$Dogs;)V"⟩
abbrev cX2_add : ByteArray := prog_4_method_3_code
def yX2_add : MethodName := ⟨RX2, "add", "(III)Z"⟩
abbrev cX2_remove : ByteArray := prog_4_method_4_code
def yX2_remove : MethodName := ⟨RX2, "remove", "(I)Z"⟩
abbrev cX2_chewIn : ByteArray := prog_4_method_5_code
def yX2_chewIn : MethodName := ⟨RX2, "chewIn", "(I)Z"⟩
abbrev cX3_init : ByteArray := prog_5_method_1_code
def yX3_init : MethodName := ⟨RX3, "<init>", "()V"⟩
abbrev cX3_copyFrom : ByteArray := prog_5_method_2_code
def yX3_copyFrom : MethodName := ⟨RX3, "copyFrom", "(LMatchboxModem$Frames;)V"⟩
abbrev cX3_add : ByteArray := prog_5_method_3_code
def yX3_add : MethodName := ⟨RX3, "add", "([III)V"⟩
abbrev cX3_bitsOf : ByteArray := prog_5_method_4_code
def yX3_bitsOf : MethodName := ⟨RX3, "bitsOf", "(I)I"⟩
abbrev cX3_bitOf : ByteArray := prog_5_method_5_code
def yX3_bitOf : MethodName := ⟨RX3, "bitOf", "(II)I"⟩
abbrev cX3_firstQueued : ByteArray := prog_5_method_6_code
def yX3_firstQueued : MethodName := ⟨RX3, "firstQueued", "()I"⟩
abbrev cX3_arrive : ByteArray := prog_5_method_7_code
def yX3_arrive : MethodName := ⟨RX3, "arrive", "(I[I)V"⟩
abbrev cX3_arrivedAsSent : ByteArray := prog_5_method_8_code
def yX3_arrivedAsSent : MethodName := ⟨RX3, "arrivedAsSent", "(I)Z"⟩
abbrev cX3_triesOfAll : ByteArray := prog_5_method_9_code
def yX3_triesOfAll : MethodName := ⟨RX3, "triesOfAll", "()I"⟩
abbrev cX3_acknowledgedUntried : ByteArray := prog_5_method_10_code
def yX3_acknowledgedUntried : MethodName := ⟨RX3, "acknowledgedUntried", "()I"⟩
abbrev cX3_acknowledgedBytes : ByteArray := prog_5_method_11_code
def yX3_acknowledgedBytes : MethodName := ⟨RX3, "acknowledgedBytes", "()I"⟩
abbrev cX4_init : ByteArray := prog_6_method_1_code
def yX4_init : MethodName := ⟨RX4, "<init>", "()V"⟩
abbrev cX4_keep : ByteArray := prog_6_method_2_code
def yX4_keep : MethodName := ⟨RX4, "keep", "(LMatchboxModem$Line;)V"⟩
abbrev cX4_takeBack : ByteArray := prog_6_method_3_code
def yX4_takeBack : MethodName := ⟨RX4, "takeBack", "(LMatchboxModem$Line;)V"⟩
abbrev cX4_forget : ByteArray := prog_6_method_4_code
def yX4_forget : MethodName := ⟨RX4, "forget", "()V"⟩
abbrev cX5_init : ByteArray := prog_7_method_1_code
def yX5_init : MethodName := ⟨RX5, "<init>", "()V"⟩
abbrev cX5_configure : ByteArray := prog_7_method_2_code
def yX5_configure : MethodName := ⟨RX5, "configure", "(IIII)V"⟩
abbrev cX5_copyFrom : ByteArray := prog_7_method_3_code
def yX5_copyFrom : MethodName := ⟨RX5, "copyFrom", "(LMatchboxModem$Line;)V"⟩
abbrev cX5_readConfiguration : ByteArray := prog_7_method_4_code
def yX5_readConfiguration : MethodName := ⟨RX5, "readConfiguration", "(LMatchboxModem$Tokens;)Z"⟩
abbrev cX5_readModem : ByteArray := prog_7_method_5_code
def yX5_readModem : MethodName := ⟨RX5, "readModem", "(LMatchboxModem$Tokens;)Z"⟩
abbrev cX5_readDogs : ByteArray := prog_7_method_6_code
def yX5_readDogs : MethodName := ⟨RX5, "readDogs", "(LMatchboxModem$Tokens;)Z"⟩
abbrev cX5_hasMessage : ByteArray := prog_7_method_7_code
def yX5_hasMessage : MethodName := ⟨RX5, "hasMessage", "(I)Z"⟩
abbrev cX5_hasRoomForMessage : ByteArray := prog_7_method_8_code
def yX5_hasRoomForMessage : MethodName := ⟨RX5, "hasRoomForMessage", "()Z"⟩
abbrev cX5_addMessage : ByteArray := prog_7_method_9_code
def yX5_addMessage : MethodName := ⟨RX5, "addMessage", "([III)I"⟩
abbrev cX5_endOf : ByteArray := prog_7_method_10_code
def yX5_endOf : MethodName := ⟨RX5, "endOf", "(I)I"⟩
abbrev cX5_stateOfMessage : ByteArray := prog_7_method_11_code
def yX5_stateOfMessage : MethodName := ⟨RX5, "stateOfMessage", "(I)I"⟩
abbrev cX5_mayGiveUp : ByteArray := prog_7_method_12_code
def yX5_mayGiveUp : MethodName := ⟨RX5, "mayGiveUp", "(I)Z"⟩
abbrev cX5_giveUp : ByteArray := prog_7_method_13_code
def yX5_giveUp : MethodName := ⟨RX5, "giveUp", "(I)I"⟩
abbrev cX5_maySendAgain : ByteArray := prog_7_method_14_code
def yX5_maySendAgain : MethodName := ⟨RX5, "maySendAgain", "(I)Z"⟩
abbrev cX5_sendAgain : ByteArray := prog_7_method_15_code
def yX5_sendAgain : MethodName := ⟨RX5, "sendAgain", "(I)I"⟩
abbrev cX5_mayWait : ByteArray := prog_7_method_16_code
def yX5_mayWait : MethodName := ⟨RX5, "mayWait", "(I)Z"⟩
abbrev cX5_letPass : ByteArray := prog_7_method_17_code
def yX5_letPass : MethodName := ⟨RX5, "letPass", "(I)Z"⟩
abbrev cX5_mayAttempt : ByteArray := prog_7_method_18_code
def yX5_mayAttempt : MethodName := ⟨RX5, "mayAttempt", "()Z"⟩
abbrev cX5_makeAttempts : ByteArray := prog_7_method_19_code
def yX5_makeAttempts : MethodName := ⟨RX5, "makeAttempts", "(ILMatchboxModem$Sending;)I"⟩
abbrev cX5_attempt : ByteArray := prog_7_method_20_code
def yX5_attempt : MethodName := ⟨RX5, "attempt", "(ILMatchboxModem$Sending;)V"⟩
abbrev cX5_endNap : ByteArray := prog_7_method_21_code
def yX5_endNap : MethodName := ⟨RX5, "endNap", "()V"⟩
abbrev cX5_receive : ByteArray := prog_7_method_22_code
def yX5_receive : MethodName := ⟨RX5, "receive", "(II[I)V"⟩
abbrev cX5_settle : ByteArray := prog_7_method_23_code
def yX5_settle : MethodName := ⟨RX5, "settle", "(II)V"⟩
abbrev cX6_init : ByteArray := prog_8_method_1_code
def yX6_init : MethodName := ⟨RX6, "<init>", "()V"⟩
abbrev cX6_putOnCable : ByteArray := prog_8_method_2_code
def yX6_putOnCable : MethodName := ⟨RX6, "putOnCable", "(LMatchboxModem$Line;III)V"⟩
abbrev cX6_takenBit : ByteArray := prog_8_method_3_code
def yX6_takenBit : MethodName := ⟨RX6, "takenBit", "(II)I"⟩
abbrev cX6_take : ByteArray := prog_8_method_4_code
def yX6_take : MethodName := ⟨RX6, "take", "(I)V"⟩
abbrev cX6_takeInverted : ByteArray := prog_8_method_5_code
def yX6_takeInverted : MethodName := ⟨RX6, "takeInverted", "(LMatchboxModem$Frames;IIII)V"⟩
abbrev cX6_readable : ByteArray := prog_8_method_6_code
def yX6_readable : MethodName := ⟨RX6, "readable", "()Z"⟩
abbrev cX6_send : ByteArray := prog_8_method_7_code
def yX6_send : MethodName := ⟨RX6, "send", "(LMatchboxModem$Line;III)I"⟩
abbrev cX7_init : ByteArray := prog_9_method_1_code
def yX7_init : MethodName := ⟨RX7, "<init>", "(I)V"⟩
abbrev cX7_at : ByteArray := prog_9_method_2_code
def yX7_at : MethodName := ⟨RX7, "at", "(I)I"⟩
abbrev cX7_put : ByteArray := prog_9_method_3_code
def yX7_put : MethodName := ⟨RX7, "put", "(I)V"⟩
abbrev cX7_putFour : ByteArray := prog_9_method_4_code
def yX7_putFour : MethodName := ⟨RX7, "putFour", "(I)V"⟩
abbrev cX8_init : ByteArray := prog_10_method_1_code
def yX8_init : MethodName := ⟨RX8, "<init>", "(LMatchboxModem$Text;)V"⟩
abbrev cX8_begin : ByteArray := prog_10_method_2_code
def yX8_begin : MethodName := ⟨RX8, "begin", "()V"⟩
abbrev cX8_fail : ByteArray := prog_10_method_3_code
def yX8_fail : MethodName := ⟨RX8, "fail", "(I)Z"⟩
abbrev cX8_next : ByteArray := prog_10_method_4_code
def yX8_next : MethodName := ⟨RX8, "next", "()V"⟩
abbrev cX8_kindOf : ByteArray := prog_10_method_5_code
def yX8_kindOf : MethodName := ⟨RX8, "kindOf", "(I)I"⟩
abbrev cX8_spells : ByteArray := prog_10_method_6_code
def yX8_spells : MethodName := ⟨RX8, "spells", "(Ljava/lang/String;)Z"⟩
abbrev cX8_number : ByteArray := prog_10_method_7_code
def yX8_number : MethodName := ⟨RX8, "number", "(II)I"⟩
abbrev cX8_semicolon : ByteArray := prog_10_method_8_code
def yX8_semicolon : MethodName := ⟨RX8, "semicolon", "()Z"⟩
abbrev cX8_dog : ByteArray := prog_10_method_9_code
def yX8_dog : MethodName := ⟨RX8, "dog", "()Z"⟩
abbrev cX9_init : ByteArray := prog_1_method_1_code
def yX9_init : MethodName := ⟨RX9, "<init>", "()V"⟩
abbrev cX9_append : ByteArray := prog_1_method_2_code
def yX9_append : MethodName := ⟨RX9, "append", "(IIIII)I"⟩
abbrev cX9_truncate : ByteArray := prog_1_method_3_code
def yX9_truncate : MethodName := ⟨RX9, "truncate", "(I)I"⟩
abbrev cX9_load : ByteArray := prog_1_method_4_code
def yX9_load : MethodName := ⟨RX9, "load", "()I"⟩
abbrev cX9_clock : ByteArray := prog_1_method_8_code
def yX9_clock : MethodName := ⟨RX9, "clock", "()I"⟩
abbrev cX9_bitTime : ByteArray := prog_1_method_9_code
def yX9_bitTime : MethodName := ⟨RX9, "bitTime", "()I"⟩
abbrev cX9_drift : ByteArray := prog_1_method_10_code
def yX9_drift : MethodName := ⟨RX9, "drift", "()I"⟩
abbrev cX9_dogCount : ByteArray := prog_1_method_11_code
def yX9_dogCount : MethodName := ⟨RX9, "dogCount", "()I"⟩
abbrev cX9_isChewed : ByteArray := prog_1_method_12_code
def yX9_isChewed : MethodName := ⟨RX9, "isChewed", "(I)Z"⟩
abbrev cX9_nextChewedTick : ByteArray := prog_1_method_13_code
def yX9_nextChewedTick : MethodName := ⟨RX9, "nextChewedTick", "(I)I"⟩
abbrev cX9_nextQuietTick : ByteArray := prog_1_method_14_code
def yX9_nextQuietTick : MethodName := ⟨RX9, "nextQuietTick", "(I)I"⟩
abbrev cX9_messageCount : ByteArray := prog_1_method_16_code
def yX9_messageCount : MethodName := ⟨RX9, "messageCount", "()I"⟩
abbrev cX9_messageLength : ByteArray := prog_1_method_17_code
def yX9_messageLength : MethodName := ⟨RX9, "messageLength", "(I)I"⟩
abbrev cX9_messageState : ByteArray := prog_1_method_18_code
def yX9_messageState : MethodName := ⟨RX9, "messageState", "(I)I"⟩
abbrev cX9_firstFrame : ByteArray := prog_1_method_19_code
def yX9_firstFrame : MethodName := ⟨RX9, "firstFrame", "(I)I"⟩
abbrev cX9_frameCount : ByteArray := prog_1_method_20_code
def yX9_frameCount : MethodName := ⟨RX9, "frameCount", "()I"⟩
abbrev cX9_frameLength : ByteArray := prog_1_method_21_code
def yX9_frameLength : MethodName := ⟨RX9, "frameLength", "(I)I"⟩
abbrev cX9_frameByte : ByteArray := prog_1_method_22_code
def yX9_frameByte : MethodName := ⟨RX9, "frameByte", "(II)I"⟩
abbrev cX9_frameBit : ByteArray := prog_1_method_23_code
def yX9_frameBit : MethodName := ⟨RX9, "frameBit", "(II)I"⟩
abbrev cX9_frameState : ByteArray := prog_1_method_24_code
def yX9_frameState : MethodName := ⟨RX9, "frameState", "(I)I"⟩
abbrev cX9_attemptsOf : ByteArray := prog_1_method_25_code
def yX9_attemptsOf : MethodName := ⟨RX9, "attemptsOf", "(I)I"⟩
abbrev cX9_hasArrived : ByteArray := prog_1_method_26_code
def yX9_hasArrived : MethodName := ⟨RX9, "hasArrived", "(I)Z"⟩
abbrev cX9_arrivedByte : ByteArray := prog_1_method_27_code
def yX9_arrivedByte : MethodName := ⟨RX9, "arrivedByte", "(II)I"⟩
abbrev cX9_isIntact : ByteArray := prog_1_method_28_code
def yX9_isIntact : MethodName := ⟨RX9, "isIntact", "(I)Z"⟩
abbrev cX9_takenFrom : ByteArray := prog_1_method_29_code
def yX9_takenFrom : MethodName := ⟨RX9, "takenFrom", "(I)I"⟩
abbrev cX9_safeBits : ByteArray := prog_1_method_30_code
def yX9_safeBits : MethodName := ⟨RX9, "safeBits", "()I"⟩
abbrev cX9_receivedBit : ByteArray := prog_1_method_31_code
def yX9_receivedBit : MethodName := ⟨RX9, "receivedBit", "(III)I"⟩
abbrev cX9_invertedBits : ByteArray := prog_1_method_32_code
def yX9_invertedBits : MethodName := ⟨RX9, "invertedBits", "(II)I"⟩
abbrev cX9_longestBurst : ByteArray := prog_1_method_33_code
def yX9_longestBurst : MethodName := ⟨RX9, "longestBurst", "(II)I"⟩
abbrev cX9_wrongBits : ByteArray := prog_1_method_34_code
def yX9_wrongBits : MethodName := ⟨RX9, "wrongBits", "(II)I"⟩
abbrev cX9_resultAt : ByteArray := prog_1_method_35_code
def yX9_resultAt : MethodName := ⟨RX9, "resultAt", "(II)I"⟩
abbrev cX9_wouldPass : ByteArray := prog_1_method_36_code
def yX9_wouldPass : MethodName := ⟨RX9, "wouldPass", "(III)Z"⟩
abbrev cX9_earliestSuccess : ByteArray := prog_1_method_37_code
def yX9_earliestSuccess : MethodName := ⟨RX9, "earliestSuccess", "(I)I"⟩
abbrev cX9_pendingFrame : ByteArray := prog_1_method_39_code
def yX9_pendingFrame : MethodName := ⟨RX9, "pendingFrame", "()I"⟩
abbrev cX9_napEnd : ByteArray := prog_1_method_40_code
def yX9_napEnd : MethodName := ⟨RX9, "napEnd", "()I"⟩
abbrev cX9_attemptsUntilIdle : ByteArray := prog_1_method_41_code
def yX9_attemptsUntilIdle : MethodName := ⟨RX9, "attemptsUntilIdle", "()I"⟩
abbrev cX9_clockWhenIdle : ByteArray := prog_1_method_42_code
def yX9_clockWhenIdle : MethodName := ⟨RX9, "clockWhenIdle", "()I"⟩
abbrev cX9_attempts : ByteArray := prog_1_method_43_code
def yX9_attempts : MethodName := ⟨RX9, "attempts", "()I"⟩
abbrev cX9_unreadableFrames : ByteArray := prog_1_method_44_code
def yX9_unreadableFrames : MethodName := ⟨RX9, "unreadableFrames", "()I"⟩
abbrev cX9_duplicates : ByteArray := prog_1_method_45_code
def yX9_duplicates : MethodName := ⟨RX9, "duplicates", "()I"⟩
abbrev cX9_lostAcknowledgements : ByteArray := prog_1_method_46_code
def yX9_lostAcknowledgements : MethodName := ⟨RX9, "lostAcknowledgements", "()I"⟩
abbrev cX9_nappedTicks : ByteArray := prog_1_method_47_code
def yX9_nappedTicks : MethodName := ⟨RX9, "nappedTicks", "()I"⟩
abbrev cX9_bitsSent : ByteArray := prog_1_method_48_code
def yX9_bitsSent : MethodName := ⟨RX9, "bitsSent", "()I"⟩
abbrev cX9_attemptImbalance : ByteArray := prog_1_method_49_code
def yX9_attemptImbalance : MethodName := ⟨RX9, "attemptImbalance", "()I"⟩
abbrev cX9_clockImbalance : ByteArray := prog_1_method_50_code
def yX9_clockImbalance : MethodName := ⟨RX9, "clockImbalance", "()I"⟩
abbrev cX9_errorRate : ByteArray := prog_1_method_51_code
def yX9_errorRate : MethodName := ⟨RX9, "errorRate", "()F"⟩
abbrev cX9_throughput : ByteArray := prog_1_method_52_code
def yX9_throughput : MethodName := ⟨RX9, "throughput", "()D"⟩
abbrev cX9_sendMessage : ByteArray := prog_1_method_53_code
def yX9_sendMessage : MethodName := ⟨RX9, "sendMessage", "()I"⟩
abbrev cX9_transmit : ByteArray := prog_1_method_54_code
def yX9_transmit : MethodName := ⟨RX9, "transmit", "(I)I"⟩
abbrev cX9_cancelMessage : ByteArray := prog_1_method_55_code
def yX9_cancelMessage : MethodName := ⟨RX9, "cancelMessage", "(I)I"⟩
abbrev cX9_resendMessage : ByteArray := prog_1_method_56_code
def yX9_resendMessage : MethodName := ⟨RX9, "resendMessage", "(I)I"⟩
abbrev cX9_waitTicks : ByteArray := prog_1_method_57_code
def yX9_waitTicks : MethodName := ⟨RX9, "waitTicks", "(I)I"⟩
abbrev cX9_setDrift : ByteArray := prog_1_method_58_code
def yX9_setDrift : MethodName := ⟨RX9, "setDrift", "(I)I"⟩
abbrev cX9_addDog : ByteArray := prog_1_method_59_code
def yX9_addDog : MethodName := ⟨RX9, "addDog", "(III)I"⟩
abbrev cX9_removeDog : ByteArray := prog_1_method_60_code
def yX9_removeDog : MethodName := ⟨RX9, "removeDog", "(I)I"⟩
abbrev cX9_undo : ByteArray := prog_1_method_61_code
def yX9_undo : MethodName := ⟨RX9, "undo", "()I"⟩
abbrev cX9_save : ByteArray := prog_1_method_62_code
def yX9_save : MethodName := ⟨RX9, "save", "()I"⟩
abbrev cX9_restore : ByteArray := prog_1_method_63_code
def yX9_restore : MethodName := ⟨RX9, "restore", "()I"⟩
abbrev cX9_requireFrame : ByteArray := prog_1_method_66_code
def yX9_requireFrame : MethodName := ⟨RX9, "requireFrame", "(I)V"⟩
abbrev cX9_requireMessage : ByteArray := prog_1_method_67_code
def yX9_requireMessage : MethodName := ⟨RX9, "requireMessage", "(I)V"⟩
abbrev cX9_requireTick : ByteArray := prog_1_method_68_code
def yX9_requireTick : MethodName := ⟨RX9, "requireTick", "(I)V"⟩
abbrev cX9_checksumOf : ByteArray := prog_1_method_69_code
def yX9_checksumOf : MethodName := ⟨RX9, "checksumOf", "([III)I"⟩
abbrev cX9_binaryDigits : ByteArray := prog_1_method_70_code
def yX9_binaryDigits : MethodName := ⟨RX9, "binaryDigits", "(I)I"⟩
abbrev cX9_takenIndex : ByteArray := prog_1_method_71_code
def yX9_takenIndex : MethodName := ⟨RX9, "takenIndex", "(II)I"⟩
abbrev cJ4_init_da8c8 : ByteArray := prog_23_method_1_code
def yJ4_init_da8c8 : MethodName := ⟨RJ4, "<init>", "()V"⟩
abbrev cJ4_init_a7421 : ByteArray := prog_23_method_3_code
def yJ4_init_a7421 : MethodName := ⟨RJ4, "<init>", "(Ljava/lang/String;)V"⟩
abbrev cJ4_append_15ec4 : ByteArray := prog_23_method_7_code
def yJ4_append_15ec4 : MethodName := ⟨RJ4, "append", "(Ljava/lang/String;)Ljava/lang/StringBuilder;"⟩
abbrev cJ4_append_cf468 : ByteArray := prog_23_method_14_code
def yJ4_append_cf468 : MethodName := ⟨RJ4, "append", "(C)Ljava/lang/StringBuilder;"⟩
abbrev cJ4_append_bf812 : ByteArray := prog_23_method_15_code
def yJ4_append_bf812 : MethodName := ⟨RJ4, "append", "(I)Ljava/lang/StringBuilder;"⟩
abbrev cJ4_toString_0e30d : ByteArray := prog_23_method_42_code
def yJ4_toString_0e30d : MethodName := ⟨RJ4, "toString", "()Ljava/lang/String;"⟩
abbrev cJ4_append_cf1ce : ByteArray := prog_23_method_80_code
def yJ4_append_cf1ce : MethodName := ⟨RJ4, "append", "(Ljava/lang/String;)Ljava/lang/AbstractStringBuilder;"⟩
abbrev cJ5_init_d00df : ByteArray := prog_13_method_2_code
def yJ5_init_d00df : MethodName := ⟨RJ5, "<init>", "(I)V"⟩
abbrev cJ5_init_a7421 : ByteArray := prog_13_method_3_code
def yJ5_init_a7421 : MethodName := ⟨RJ5, "<init>", "(Ljava/lang/String;)V"⟩
abbrev cJ5_append_cf1ce : ByteArray := prog_13_method_22_code
def yJ5_append_cf1ce : MethodName := ⟨RJ5, "append", "(Ljava/lang/String;)Ljava/lang/AbstractStringBuilder;"⟩
abbrev cJ5_append_3fe6f : ByteArray := prog_13_method_31_code
def yJ5_append_3fe6f : MethodName := ⟨RJ5, "append", "(C)Ljava/lang/AbstractStringBuilder;"⟩
abbrev cJ5_append_c97b9 : ByteArray := prog_13_method_32_code
def yJ5_append_c97b9 : MethodName := ⟨RJ5, "append", "(I)Ljava/lang/AbstractStringBuilder;"⟩
abbrev cJ5_ensureCapacityInternal_d00df : ByteArray := prog_13_method_9_code
def yJ5_ensureCapacityInternal_d00df : MethodName := ⟨RJ5, "ensureCapacityInternal", "(I)V"⟩
abbrev cJ5_newCapacity_0f7a4 : ByteArray := prog_13_method_10_code
def yJ5_newCapacity_0f7a4 : MethodName := ⟨RJ5, "newCapacity", "(I)I"⟩
abbrev cJ5_isLatin1_aae02 : ByteArray := prog_13_method_68_code
def yJ5_isLatin1_aae02 : MethodName := ⟨RJ5, "isLatin1", "()Z"⟩
abbrev cJ5_putStringAt_47b60 : ByteArray := prog_13_method_73_code
def yJ5_putStringAt_47b60 : MethodName := ⟨RJ5, "putStringAt", "(ILjava/lang/String;)V"⟩
abbrev cJ5_inflateIfNeededFor_a7421 : ByteArray := prog_13_method_71_code
def yJ5_inflateIfNeededFor_a7421 : MethodName := ⟨RJ5, "inflateIfNeededFor", "(Ljava/lang/String;)V"⟩
abbrev cJ5_getValue_6d5f1 : ByteArray := prog_13_method_64_code
def yJ5_getValue_6d5f1 : MethodName := ⟨RJ5, "getValue", "()[B"⟩
abbrev cJ5_length_8abf5 : ByteArray := prog_13_method_6_code
def yJ5_length_8abf5 : MethodName := ⟨RJ5, "length", "()I"⟩
abbrev cJ0_init_81219 : ByteArray := prog_22_method_53_code
def yJ0_init_81219 : MethodName := ⟨RJ0, "<init>", "(Ljava/lang/StringBuilder;)V"⟩
abbrev cJ0_init_db425 : ByteArray := prog_22_method_150_code
def yJ0_init_db425 : MethodName := ⟨RJ0, "<init>", "(Ljava/lang/AbstractStringBuilder;Ljava/lang/Void;)V"⟩
abbrev cJ0_length_8abf5 : ByteArray := prog_22_method_54_code
def yJ0_length_8abf5 : MethodName := ⟨RJ0, "length", "()I"⟩
abbrev cJ0_charAt_5068e : ByteArray := prog_22_method_56_code
def yJ0_charAt_5068e : MethodName := ⟨RJ0, "charAt", "(I)C"⟩
abbrev cJ0_getBytes_840e7 : ByteArray := prog_22_method_147_code
def yJ0_getBytes_840e7 : MethodName := ⟨RJ0, "getBytes", "([BIB)V"⟩
abbrev cJ0_coder_7d493 : ByteArray := prog_22_method_152_code
def yJ0_coder_7d493 : MethodName := ⟨RJ0, "coder", "()B"⟩
abbrev cJ0_isLatin1_aae02 : ByteArray := prog_22_method_154_code
def yJ0_isLatin1_aae02 : MethodName := ⟨RJ0, "isLatin1", "()Z"⟩
abbrev cJ0_checkIndex_df160 : ByteArray := prog_22_method_155_code
def yJ0_checkIndex_df160 : MethodName := ⟨RJ0, "checkIndex", "(II)V"⟩
abbrev cJ1_charAt_3b067 : ByteArray := prog_24_method_2_code
def yJ1_charAt_3b067 : MethodName := ⟨RJ1, "charAt", "([BI)C"⟩
abbrev cJ1_canEncode_fc78d : ByteArray := prog_24_method_3_code
def yJ1_canEncode_fc78d : MethodName := ⟨RJ1, "canEncode", "(C)Z"⟩
abbrev cJ3_checkIndex_8e157 : ByteArray := prog_30_method_11_code
def yJ3_checkIndex_8e157 : MethodName := ⟨RJ3, "checkIndex", "(IILjava/util/function/BiFunction;)I"⟩
abbrev cJ6_getChars_ba4f3 : ByteArray := prog_19_method_12_code
def yJ6_getChars_ba4f3 : MethodName := ⟨RJ6, "getChars", "(II[B)I"⟩
abbrev cJ6_stringSize_0f7a4 : ByteArray := prog_19_method_13_code
def yJ6_stringSize_0f7a4 : MethodName := ⟨RJ6, "stringSize", "(I)I"⟩
abbrev cJ7_copyOf_9075b : ByteArray := prog_28_method_121_code
def yJ7_copyOf_9075b : MethodName := ⟨RJ7, "copyOf", "([BI)[B"⟩
abbrev cJ7_copyOfRange_39247 : ByteArray := prog_28_method_132_code
def yJ7_copyOfRange_39247 : MethodName := ⟨RJ7, "copyOfRange", "([BII)[B"⟩
abbrev cJ7_copyOfRangeByte_39247 : ByteArray := prog_28_method_133_code
def yJ7_copyOfRangeByte_39247 : MethodName := ⟨RJ7, "copyOfRangeByte", "([BII)[B"⟩
abbrev cJ7_checkLength_df160 : ByteArray := prog_28_method_131_code
def yJ7_checkLength_df160 : MethodName := ⟨RJ7, "checkLength", "(II)V"⟩
abbrev cJ8_newLength_cabcc : ByteArray := prog_29_method_27_code
def yJ8_newLength_cabcc : MethodName := ⟨RJ8, "newLength", "(III)I"⟩
abbrev cJ4_length_8abf5 : ByteArray := prog_23_method_93_code
def yJ4_length_8abf5 : MethodName := ⟨RJ4, "length", "()I"⟩
abbrev cL_cell : ByteArray := method_2_code
def yL_cell : MethodName := ⟨RL, "cell", "([II)I"⟩
abbrev cL_reads : ByteArray := method_3_code
def yL_reads : MethodName := ⟨RL, "reads", "(LMatchboxModem;)I"⟩
abbrev cL_comes : ByteArray := method_5_code
def yL_comes : MethodName := ⟨RL, "comes", "(LMatchboxModem;Ljava/lang/String;)V"⟩
abbrev cL_load : ByteArray := method_6_code
def yL_load : MethodName := ⟨RL, "load", "(LMatchboxModem;Ljava/lang/String;)I"⟩
abbrev cL_does : ByteArray := method_8_code
def yL_does : MethodName := ⟨RL, "does", "(LMatchboxModem;IIII)I"⟩
abbrev cL_sum : ByteArray := method_9_code
def yL_sum : MethodName := ⟨RL, "sum", "(LMatchboxModem;)J"⟩
abbrev cL_rest : ByteArray := method_10_code
def yL_rest : MethodName := ⟨RL, "rest", "(II)I"⟩
abbrev cL_isFrame : ByteArray := method_11_code
def yL_isFrame : MethodName := ⟨RL, "isFrame", "(LMatchboxModem;I)Z"⟩
abbrev cL_isResult : ByteArray := method_12_code
def yL_isResult : MethodName := ⟨RL, "isResult", "(LMatchboxModem;II)Z"⟩
abbrev cL_stands : ByteArray := method_13_code
def yL_stands : MethodName := ⟨RL, "stands", "(LMatchboxModem;I)Z"⟩
abbrev cL_tries : ByteArray := method_14_code
def yL_tries : MethodName := ⟨RL, "tries", "(LMatchboxModem;)Z"⟩
abbrev cL_acts : ByteArray := method_15_code
def yL_acts : MethodName := ⟨RL, "acts", "(LMatchboxModem;IIII)Z"⟩
abbrev cL_law : ByteArray := code
def yL_law : MethodName := ⟨RL, "law", "([I)Z"⟩
/-- the classes by number: 0 to 10 those of objects, 11 the law, 12 to 14 of the library -/
def clsL : List String := [RX0, RX1, RX2, RX3, RX4, RX5, RX6, RX7, RX8, RX9, RX10, RL, RJ0, RJ1, RJ3, RJ4, RJ5, RJ6, RJ7, RJ8]
def clsN (c : Nat) : String := clsL.getD c ""
/-- the classes of places -/
def okC (c : Nat) : Bool := decide (c < 11) || decide (c = 12) || decide (c = 15)
/-- where a place's fields are declared -/
def declN (c : Nat) : String := if c = 15 then RJ5 else clsN c
def TTL : List u_T := [TX0, TX1, TX2, TX3, TX4, TX5, TX6, TX7, TX8, TX9, TX10, TX10, TJ0, TX10, TX10, TJ4]
def TT (c : Nat) : u_T := TTL.getD c TX0
def tyL : List (Nat → FieldType) := [tyX0, tyX1, tyX2, tyX3, tyX4, tyX5, tyX6, tyX7, tyX8, tyX9, tyX10, tyX10, tyJ0, tyX10, tyX10, tyJ4]
def tyT (c : Nat) : Nat → FieldType := tyL.getD c tyX0
def nfL : List Nat := [5, 9, 4, 7, 3, 13, 5, 2, 9, 10, 0, 0, 4, 0, 0, 4]
def nf (c : Nat) : Nat := nfL.getD c 0
/-- of each field: 0 an int, 1 a boolean, 2 a reference -/
def fkL : List (List Nat) := [[0, 2, 2, 2, 2], [0, 0, 0, 0, 0, 0, 0, 0, 0], [0, 2, 2, 2], [0, 2, 2, 2, 2, 2, 2], [0, 0, 2], [0, 0, 0, 0, 0, 0, 0, 0, 2, 2, 2, 2, 2], [2, 2, 0, 0, 0], [2, 0], [2, 0, 0, 0, 0, 0, 0, 0, 0], [2, 2, 2, 2, 2, 2, 2, 2, 2, 1], [], [], [2, 3, 0, 1], [], [], [2, 3, 1, 0]]
def fk (c k : Nat) : Nat := (fkL.getD c []).getD k 0
/-- is the field final -/
def ffL : List (List Bool) := [[false, true, true, true, true], [false, false, false, false, false, false, false, false, false], [false, true, true, true], [false, true, true, true, true, true, true], [false, false, true], [false, false, false, false, false, false, false, false, true, true, true, true, true], [true, true, false, false, false], [true, false], [true, false, false, false, false, false, false, false, false], [true, true, true, true, true, true, true, true, true, false], [], [], [true, true, false, false], [], [], [false, false, false, false]]
def ff (c k : Nat) : Bool := (ffL.getD c []).getD k false
def ynL : List MethodName := [
  yX0_init, yX0_init, yX0_init, yX0_init, yX0_init, yX0_init, yX0_init, yX0_init,
  yX0_init, yX1_init, yX1_clear, yX1_copyFrom, yX2_init, yX2_copyFrom, yX2_add, yX2_remove,
  yX2_chewIn, yX3_init, yX3_copyFrom, yX3_add, yX3_bitsOf, yX3_bitOf, yX3_firstQueued, yX3_arrive,
  yX3_arrivedAsSent, yX3_triesOfAll, yX3_acknowledgedUntried, yX3_acknowledgedBytes, yX4_init, yX4_keep, yX4_takeBack, yX4_forget,
  yX5_init, yX5_configure, yX5_copyFrom, yX5_readConfiguration, yX5_readModem, yX5_readDogs, yX5_hasMessage, yX5_hasRoomForMessage,
  yX5_addMessage, yX5_endOf, yX5_stateOfMessage, yX5_mayGiveUp, yX5_giveUp, yX5_maySendAgain, yX5_sendAgain, yX5_mayWait,
  yX5_letPass, yX5_mayAttempt, yX5_makeAttempts, yX5_attempt, yX5_endNap, yX5_receive, yX5_settle, yX6_init,
  yX6_putOnCable, yX6_takenBit, yX6_take, yX6_takeInverted, yX6_readable, yX6_send, yX7_init, yX7_at,
  yX7_put, yX7_putFour, yX8_init, yX8_begin, yX8_fail, yX8_next, yX8_kindOf, yX8_spells,
  yX8_number, yX8_semicolon, yX8_dog, yX9_init, yX9_append, yX9_truncate, yX9_load, yX0_init,
  yX0_init, yX0_init, yX9_clock, yX9_bitTime, yX9_drift, yX9_dogCount, yX9_isChewed, yX9_nextChewedTick,
  yX9_nextQuietTick, yX0_init, yX9_messageCount, yX9_messageLength, yX9_messageState, yX9_firstFrame, yX9_frameCount, yX9_frameLength,
  yX9_frameByte, yX9_frameBit, yX9_frameState, yX9_attemptsOf, yX9_hasArrived, yX9_arrivedByte, yX9_isIntact, yX9_takenFrom,
  yX9_safeBits, yX9_receivedBit, yX9_invertedBits, yX9_longestBurst, yX9_wrongBits, yX9_resultAt, yX9_wouldPass, yX9_earliestSuccess,
  yX0_init, yX9_pendingFrame, yX9_napEnd, yX9_attemptsUntilIdle, yX9_clockWhenIdle, yX9_attempts, yX9_unreadableFrames, yX9_duplicates,
  yX9_lostAcknowledgements, yX9_nappedTicks, yX9_bitsSent, yX9_attemptImbalance, yX9_clockImbalance, yX9_errorRate, yX9_throughput, yX9_sendMessage,
  yX9_transmit, yX9_cancelMessage, yX9_resendMessage, yX9_waitTicks, yX9_setDrift, yX9_addDog, yX9_removeDog, yX9_undo,
  yX9_save, yX9_restore, yX0_init, yX0_init, yX9_requireFrame, yX9_requireMessage, yX9_requireTick, yX9_checksumOf,
  yX9_binaryDigits, yX9_takenIndex, yJ4_init_da8c8, yJ4_init_a7421, yJ4_append_15ec4, yJ4_append_cf468, yJ4_append_bf812, yJ4_toString_0e30d,
  yJ4_append_cf1ce, yJ5_init_d00df, yJ5_init_a7421, yJ5_append_cf1ce, yJ5_append_3fe6f, yJ5_append_c97b9, yJ5_ensureCapacityInternal_d00df, yJ5_newCapacity_0f7a4,
  yJ5_isLatin1_aae02, yJ5_putStringAt_47b60, yJ5_inflateIfNeededFor_a7421, yJ5_getValue_6d5f1, yJ5_length_8abf5, yJ0_init_81219, yJ0_init_db425, yJ0_length_8abf5,
  yJ0_charAt_5068e, yJ0_getBytes_840e7, yJ0_coder_7d493, yJ0_isLatin1_aae02, yJ0_checkIndex_df160, yJ1_charAt_3b067, yJ1_canEncode_fc78d, yJ3_checkIndex_8e157,
  yJ6_getChars_ba4f3, yJ6_stringSize_0f7a4, yJ7_copyOf_9075b, yJ7_copyOfRange_39247, yJ7_copyOfRangeByte_39247, yJ7_checkLength_df160, yJ8_newLength_cabcc, yJ4_length_8abf5,
  yX0_init, yX0_init, yX0_init, yX0_init, yX0_init, yX0_init, yX0_init, yX0_init,
  yX0_init, yX0_init, yX0_init, yX0_init, yX0_init, yX0_init, yX0_init, yX0_init,
  yX0_init, yX0_init, yX0_init, yX0_init, yX0_init, yX0_init, yX0_init, yX0_init,
  yX0_init, yX0_init, yX0_init, yX0_init, yX0_init, yX0_init, yX0_init, yX0_init,
  yX0_init, yX0_init, yX0_init, yX0_init, yX0_init, yX0_init, yX0_init, yX0_init,
  yX0_init, yX0_init, yX0_init, yX0_init, yX0_init, yX0_init, yX0_init, yX0_init,
  yX0_init, yX0_init, yX0_init, yX0_init, yX0_init, yX0_init, yX0_init, yX0_init,
  yX0_init, yX0_init, yX0_init, yX0_init, yX0_init, yX0_init, yX0_init, yX0_init,
  yX0_init, yX0_init, yX0_init, yX0_init, yX0_init, yX0_init, yX0_init, yX0_init,
  yX0_init, yX0_init, yX0_init, yX0_init, yX0_init, yX0_init, yX0_init, yX0_init,
  yX0_init, yX0_init, yX0_init, yX0_init, yX0_init, yX0_init, yX0_init, yX0_init,
  yX0_init, yX0_init, yX0_init, yX0_init, yX0_init, yX0_init, yX0_init, yX0_init,
  yX0_init, yX0_init, yX0_init, yX0_init, yX0_init, yX0_init, yX0_init, yX0_init,
  yX0_init, yX0_init, yX0_init, yX0_init, yX0_init, yX0_init, yX0_init, yX0_init,
  yX0_init, yX0_init, yX0_init, yX0_init, yL_cell, yL_reads, yL_comes, yL_load,
  yL_does, yL_sum, yL_rest, yL_isFrame, yL_isResult, yL_stands, yL_tries, yL_acts,
  yX0_init, yX0_init, yX0_init, yX0_init, yX0_init, yX0_init, yX0_init, yX0_init,
  yX0_init, yX0_init, yX0_init, yX0_init, yX0_init, yX0_init, yX0_init, yX0_init,
  yX0_init, yX0_init, yX0_init, yX0_init, yL_law, yJ0_length_8abf5, yJ0_coder_7d493, yJ0_isLatin1_aae02,
  yJ0_charAt_5068e, yJ1_charAt_3b067, yJ0_checkIndex_df160, yJ3_checkIndex_8e157]
def ynN (y : Nat) : MethodName := ynL.getD y ⟨"", "", ""⟩
def cdL : List ByteArray := [
  cX0_init, cX0_init, cX0_init, cX0_init, cX0_init, cX0_init, cX0_init, cX0_init,
  cX0_init, cX1_init, cX1_clear, cX1_copyFrom, cX2_init, cX2_copyFrom, cX2_add, cX2_remove,
  cX2_chewIn, cX3_init, cX3_copyFrom, cX3_add, cX3_bitsOf, cX3_bitOf, cX3_firstQueued, cX3_arrive,
  cX3_arrivedAsSent, cX3_triesOfAll, cX3_acknowledgedUntried, cX3_acknowledgedBytes, cX4_init, cX4_keep, cX4_takeBack, cX4_forget,
  cX5_init, cX5_configure, cX5_copyFrom, cX5_readConfiguration, cX5_readModem, cX5_readDogs, cX5_hasMessage, cX5_hasRoomForMessage,
  cX5_addMessage, cX5_endOf, cX5_stateOfMessage, cX5_mayGiveUp, cX5_giveUp, cX5_maySendAgain, cX5_sendAgain, cX5_mayWait,
  cX5_letPass, cX5_mayAttempt, cX5_makeAttempts, cX5_attempt, cX5_endNap, cX5_receive, cX5_settle, cX6_init,
  cX6_putOnCable, cX6_takenBit, cX6_take, cX6_takeInverted, cX6_readable, cX6_send, cX7_init, cX7_at,
  cX7_put, cX7_putFour, cX8_init, cX8_begin, cX8_fail, cX8_next, cX8_kindOf, cX8_spells,
  cX8_number, cX8_semicolon, cX8_dog, cX9_init, cX9_append, cX9_truncate, cX9_load, cX0_init,
  cX0_init, cX0_init, cX9_clock, cX9_bitTime, cX9_drift, cX9_dogCount, cX9_isChewed, cX9_nextChewedTick,
  cX9_nextQuietTick, cX0_init, cX9_messageCount, cX9_messageLength, cX9_messageState, cX9_firstFrame, cX9_frameCount, cX9_frameLength,
  cX9_frameByte, cX9_frameBit, cX9_frameState, cX9_attemptsOf, cX9_hasArrived, cX9_arrivedByte, cX9_isIntact, cX9_takenFrom,
  cX9_safeBits, cX9_receivedBit, cX9_invertedBits, cX9_longestBurst, cX9_wrongBits, cX9_resultAt, cX9_wouldPass, cX9_earliestSuccess,
  cX0_init, cX9_pendingFrame, cX9_napEnd, cX9_attemptsUntilIdle, cX9_clockWhenIdle, cX9_attempts, cX9_unreadableFrames, cX9_duplicates,
  cX9_lostAcknowledgements, cX9_nappedTicks, cX9_bitsSent, cX9_attemptImbalance, cX9_clockImbalance, cX9_errorRate, cX9_throughput, cX9_sendMessage,
  cX9_transmit, cX9_cancelMessage, cX9_resendMessage, cX9_waitTicks, cX9_setDrift, cX9_addDog, cX9_removeDog, cX9_undo,
  cX9_save, cX9_restore, cX0_init, cX0_init, cX9_requireFrame, cX9_requireMessage, cX9_requireTick, cX9_checksumOf,
  cX9_binaryDigits, cX9_takenIndex, cJ4_init_da8c8, cJ4_init_a7421, cJ4_append_15ec4, cJ4_append_cf468, cJ4_append_bf812, cJ4_toString_0e30d,
  cJ4_append_cf1ce, cJ5_init_d00df, cJ5_init_a7421, cJ5_append_cf1ce, cJ5_append_3fe6f, cJ5_append_c97b9, cJ5_ensureCapacityInternal_d00df, cJ5_newCapacity_0f7a4,
  cJ5_isLatin1_aae02, cJ5_putStringAt_47b60, cJ5_inflateIfNeededFor_a7421, cJ5_getValue_6d5f1, cJ5_length_8abf5, cJ0_init_81219, cJ0_init_db425, cJ0_length_8abf5,
  cJ0_charAt_5068e, cJ0_getBytes_840e7, cJ0_coder_7d493, cJ0_isLatin1_aae02, cJ0_checkIndex_df160, cJ1_charAt_3b067, cJ1_canEncode_fc78d, cJ3_checkIndex_8e157,
  cJ6_getChars_ba4f3, cJ6_stringSize_0f7a4, cJ7_copyOf_9075b, cJ7_copyOfRange_39247, cJ7_copyOfRangeByte_39247, cJ7_checkLength_df160, cJ8_newLength_cabcc, cJ4_length_8abf5,
  cX0_init, cX0_init, cX0_init, cX0_init, cX0_init, cX0_init, cX0_init, cX0_init,
  cX0_init, cX0_init, cX0_init, cX0_init, cX0_init, cX0_init, cX0_init, cX0_init,
  cX0_init, cX0_init, cX0_init, cX0_init, cX0_init, cX0_init, cX0_init, cX0_init,
  cX0_init, cX0_init, cX0_init, cX0_init, cX0_init, cX0_init, cX0_init, cX0_init,
  cX0_init, cX0_init, cX0_init, cX0_init, cX0_init, cX0_init, cX0_init, cX0_init,
  cX0_init, cX0_init, cX0_init, cX0_init, cX0_init, cX0_init, cX0_init, cX0_init,
  cX0_init, cX0_init, cX0_init, cX0_init, cX0_init, cX0_init, cX0_init, cX0_init,
  cX0_init, cX0_init, cX0_init, cX0_init, cX0_init, cX0_init, cX0_init, cX0_init,
  cX0_init, cX0_init, cX0_init, cX0_init, cX0_init, cX0_init, cX0_init, cX0_init,
  cX0_init, cX0_init, cX0_init, cX0_init, cX0_init, cX0_init, cX0_init, cX0_init,
  cX0_init, cX0_init, cX0_init, cX0_init, cX0_init, cX0_init, cX0_init, cX0_init,
  cX0_init, cX0_init, cX0_init, cX0_init, cX0_init, cX0_init, cX0_init, cX0_init,
  cX0_init, cX0_init, cX0_init, cX0_init, cX0_init, cX0_init, cX0_init, cX0_init,
  cX0_init, cX0_init, cX0_init, cX0_init, cX0_init, cX0_init, cX0_init, cX0_init,
  cX0_init, cX0_init, cX0_init, cX0_init, cL_cell, cL_reads, cL_comes, cL_load,
  cL_does, cL_sum, cL_rest, cL_isFrame, cL_isResult, cL_stands, cL_tries, cL_acts,
  cX0_init, cX0_init, cX0_init, cX0_init, cX0_init, cX0_init, cX0_init, cX0_init,
  cX0_init, cX0_init, cX0_init, cX0_init, cX0_init, cX0_init, cX0_init, cX0_init,
  cX0_init, cX0_init, cX0_init, cX0_init, cL_law, cJ0_length_8abf5, cJ0_coder_7d493, cJ0_isLatin1_aae02,
  cJ0_charAt_5068e, cJ1_charAt_3b067, cJ0_checkIndex_df160, cJ3_checkIndex_8e157]
def cdN (y : Nat) : ByteArray := cdL.getD y ⟨#[]⟩
def owL : List Nat := [
  0, 0, 0, 0, 0, 0, 0, 0, 0, 1, 1, 1, 2, 2, 2, 2, 2, 3, 3, 3, 3, 3, 3, 3, 3, 3, 3, 3, 4, 4, 4, 4, 5, 5, 5, 5, 5, 5, 5, 5,
  5, 5, 5, 5, 5, 5, 5, 5, 5, 5, 5, 5, 5, 5, 5, 6, 6, 6, 6, 6, 6, 6, 7, 7, 7, 7, 8, 8, 8, 8, 8, 8, 8, 8, 8, 9, 9, 9, 9, 0,
  0, 0, 9, 9, 9, 9, 9, 9, 9, 0, 9, 9, 9, 9, 9, 9, 9, 9, 9, 9, 9, 9, 9, 9, 9, 9, 9, 9, 9, 9, 9, 9, 0, 9, 9, 9, 9, 9, 9, 9,
  9, 9, 9, 9, 9, 9, 9, 9, 9, 9, 9, 9, 9, 9, 9, 9, 9, 9, 0, 0, 9, 9, 9, 9, 9, 9, 15, 15, 15, 15, 15, 15, 15, 16, 16, 16, 16, 16, 16, 16,
  16, 16, 16, 16, 16, 12, 12, 12, 12, 12, 12, 12, 12, 13, 13, 14, 17, 17, 18, 18, 18, 18, 19, 15, 0, 0, 0, 0, 0, 0, 0, 0, 0, 0, 0, 0, 0, 0, 0, 0,
  0, 0, 0, 0, 0, 0, 0, 0, 0, 0, 0, 0, 0, 0, 0, 0, 0, 0, 0, 0, 0, 0, 0, 0, 0, 0, 0, 0, 0, 0, 0, 0, 0, 0, 0, 0, 0, 0, 0, 0,
  0, 0, 0, 0, 0, 0, 0, 0, 0, 0, 0, 0, 0, 0, 0, 0, 0, 0, 0, 0, 0, 0, 0, 0, 0, 0, 0, 0, 0, 0, 0, 0, 0, 0, 0, 0, 0, 0, 0, 0,
  0, 0, 0, 0, 0, 0, 0, 0, 0, 0, 0, 0, 0, 0, 0, 0, 0, 0, 0, 0, 11, 11, 11, 11, 11, 11, 11, 11, 11, 11, 11, 11, 0, 0, 0, 0, 0, 0, 0, 0,
  0, 0, 0, 0, 0, 0, 0, 0, 0, 0, 0, 0, 11, 12, 12, 12, 12, 13, 12, 14]
def owN (y : Nat) : Nat := owL.getD y 0
def mlL : List Nat := [
  1, 1, 1, 1, 1, 1, 1, 1, 1, 1, 1, 2, 1, 2, 4, 3, 5, 1, 2, 5, 2, 3, 2, 3, 4, 3, 3, 3, 2, 3, 4, 1, 1, 5, 2, 2, 6, 3, 2, 1,
  5, 3, 5, 2, 5, 2, 4, 2, 2, 1, 5, 5, 1, 5, 3, 1, 7, 4, 3, 9, 2, 6, 2, 2, 2, 2, 2, 1, 2, 1, 1, 3, 5, 1, 1, 1, 6, 2, 2, 1,
  1, 1, 1, 1, 1, 1, 2, 3, 6, 1, 1, 2, 2, 2, 1, 2, 3, 3, 2, 2, 2, 3, 2, 2, 2, 4, 3, 3, 5, 3, 5, 3, 1, 1, 1, 1, 1, 1, 1, 1,
  1, 1, 1, 3, 2, 2, 1, 2, 2, 2, 2, 2, 3, 4, 2, 1, 1, 1, 1, 1, 2, 2, 1, 6, 2, 2, 1, 2, 2, 2, 2, 1, 2, 2, 5, 3, 2, 4, 3, 6,
  1, 3, 2, 1, 1, 2, 5, 1, 2, 4, 1, 1, 2, 2, 1, 3, 7, 4, 3, 3, 5, 2, 4, 1, 1, 1, 1, 1, 1, 1, 1, 1, 1, 1, 1, 1, 1, 1, 1, 1,
  1, 1, 1, 1, 1, 1, 1, 1, 1, 1, 1, 1, 1, 1, 1, 1, 1, 1, 1, 1, 1, 1, 1, 1, 1, 1, 1, 1, 1, 1, 1, 1, 1, 1, 1, 1, 1, 1, 1, 1,
  1, 1, 1, 1, 1, 1, 1, 1, 1, 1, 1, 1, 1, 1, 1, 1, 1, 1, 1, 1, 1, 1, 1, 1, 1, 1, 1, 1, 1, 1, 1, 1, 1, 1, 1, 1, 1, 1, 1, 1,
  1, 1, 1, 1, 1, 1, 1, 1, 1, 1, 1, 1, 1, 1, 1, 1, 1, 1, 1, 1, 2, 2, 5, 2, 6, 5, 5, 8, 15, 12, 8, 10, 1, 1, 1, 1, 1, 1, 1, 1,
  1, 1, 1, 1, 1, 1, 1, 1, 1, 1, 1, 1, 13, 1, 1, 1, 2, 2, 2, 3]
def mlN (y : Nat) : Nat := mlL.getD y 0
def rtL : List (Option FieldType) := [
  none, none, none, none, none, none, none, none, none, none, none, none,
  none, none, (some .boolean), (some .boolean), (some .boolean), none, none, none, (some .int), (some .int), (some .int), none,
  (some .boolean), (some .int), (some .int), (some .int), none, none, none, none, none, none, none, (some .boolean),
  (some .boolean), (some .boolean), (some .boolean), (some .boolean), (some .int), (some .int), (some .int), (some .boolean), (some .int), (some .boolean), (some .int), (some .boolean),
  (some .boolean), (some .boolean), (some .int), none, none, none, none, none, none, (some .int), none, none,
  (some .boolean), (some .int), none, (some .int), none, none, none, none, (some .boolean), none, (some .int), (some .boolean),
  (some .int), (some .boolean), (some .boolean), none, (some .int), (some .int), (some .int), none, none, none, (some .int), (some .int),
  (some .int), (some .int), (some .boolean), (some .int), (some .int), none, (some .int), (some .int), (some .int), (some .int), (some .int), (some .int),
  (some .int), (some .int), (some .int), (some .int), (some .boolean), (some .int), (some .boolean), (some .int), (some .int), (some .int), (some .int), (some .int),
  (some .int), (some .int), (some .boolean), (some .int), none, (some .int), (some .int), (some .int), (some .int), (some .int), (some .int), (some .int),
  (some .int), (some .int), (some .int), (some .int), (some .int), (some .float), (some .double), (some .int), (some .int), (some .int), (some .int), (some .int),
  (some .int), (some .int), (some .int), (some .int), (some .int), (some .int), none, none, none, none, none, (some .int),
  (some .int), (some .int), none, none, (some (.object "java/lang/StringBuilder")), (some (.object "java/lang/StringBuilder")), (some (.object "java/lang/StringBuilder")), (some (.object "java/lang/String")), (some (.object "java/lang/AbstractStringBuilder")), none, none, (some (.object "java/lang/AbstractStringBuilder")),
  (some (.object "java/lang/AbstractStringBuilder")), (some (.object "java/lang/AbstractStringBuilder")), none, (some .int), (some .boolean), none, none, (some (.array .byte)), (some .int), none, none, (some .int),
  (some .char), none, (some .byte), (some .boolean), none, (some .char), (some .boolean), (some .int), (some .int), (some .int), (some (.array .byte)), (some (.array .byte)),
  (some (.array .byte)), none, (some .int), (some .int), none, none, none, none, none, none, none, none,
  none, none, none, none, none, none, none, none, none, none, none, none,
  none, none, none, none, none, none, none, none, none, none, none, none,
  none, none, none, none, none, none, none, none, none, none, none, none,
  none, none, none, none, none, none, none, none, none, none, none, none,
  none, none, none, none, none, none, none, none, none, none, none, none,
  none, none, none, none, none, none, none, none, none, none, none, none,
  none, none, none, none, none, none, none, none, none, none, none, none,
  none, none, none, none, none, none, none, none, none, none, none, none,
  none, none, none, none, none, none, none, none, none, none, none, none,
  (some .int), (some .int), none, (some .int), (some .int), (some .long), (some .int), (some .boolean), (some .boolean), (some .boolean), (some .boolean), (some .boolean),
  none, none, none, none, none, none, none, none, none, none, none, none,
  none, none, none, none, none, none, none, none, (some .boolean), (some .int), (some .byte), (some .boolean),
  (some .char), (some .char), none, (some .int)]
def rtN (y : Nat) : Option FieldType := rtL.getD y none
def naL : List Nat := [
  0, 0, 0, 0, 0, 0, 0, 0, 0, 0, 0, 1, 0, 1, 3, 1, 1, 0, 1, 3, 1, 2, 0, 2, 1, 0, 0, 0, 0, 1, 1, 0, 0, 4, 1, 1, 1, 1, 1, 0,
  3, 1, 1, 1, 1, 1, 1, 1, 1, 0, 2, 2, 0, 3, 2, 0, 4, 2, 1, 5, 0, 4, 1, 1, 1, 1, 1, 0, 1, 0, 1, 1, 2, 0, 0, 0, 5, 1, 0, 0,
  0, 0, 0, 0, 0, 0, 1, 1, 1, 0, 0, 1, 1, 1, 0, 1, 2, 2, 1, 1, 1, 2, 1, 1, 0, 3, 2, 2, 2, 2, 3, 1, 0, 0, 0, 0, 0, 0, 0, 0,
  0, 0, 0, 0, 0, 0, 0, 0, 1, 1, 1, 1, 1, 3, 1, 0, 0, 0, 0, 0, 1, 1, 1, 3, 1, 2, 0, 1, 1, 1, 1, 0, 1, 1, 1, 1, 1, 1, 1, 1,
  0, 2, 1, 0, 0, 1, 2, 0, 1, 3, 0, 0, 2, 2, 1, 3, 3, 1, 2, 3, 3, 2, 3, 0, 0, 0, 0, 0, 0, 0, 0, 0, 0, 0, 0, 0, 0, 0, 0, 0,
  0, 0, 0, 0, 0, 0, 0, 0, 0, 0, 0, 0, 0, 0, 0, 0, 0, 0, 0, 0, 0, 0, 0, 0, 0, 0, 0, 0, 0, 0, 0, 0, 0, 0, 0, 0, 0, 0, 0, 0,
  0, 0, 0, 0, 0, 0, 0, 0, 0, 0, 0, 0, 0, 0, 0, 0, 0, 0, 0, 0, 0, 0, 0, 0, 0, 0, 0, 0, 0, 0, 0, 0, 0, 0, 0, 0, 0, 0, 0, 0,
  0, 0, 0, 0, 0, 0, 0, 0, 0, 0, 0, 0, 0, 0, 0, 0, 0, 0, 0, 0, 2, 1, 2, 2, 5, 1, 2, 2, 3, 2, 1, 5, 0, 0, 0, 0, 0, 0, 0, 0,
  0, 0, 0, 0, 0, 0, 0, 0, 0, 0, 0, 0, 1, 0, 0, 0, 1, 2, 2, 3]
/-- the number of parameters, the receiver not counted -/
def naN (y : Nat) : Nat := naL.getD y 0
def htL : List Nat := [
  1, 1, 1, 1, 1, 1, 1, 1, 1, 1, 0, 0, 1, 1, 0, 0, 0, 1, 1, 2, 0, 1, 0, 1, 0, 0, 0, 0, 3, 3, 3, 0, 2, 1, 2, 6, 5, 5, 0, 0,
  3, 1, 2, 3, 4, 3, 4, 0, 1, 0, 5, 4, 0, 2, 0, 1, 2, 1, 2, 3, 2, 3, 1, 0, 0, 1, 1, 0, 0, 1, 0, 4, 2, 2, 3, 4, 6, 6, 7, 1,
  1, 1, 0, 0, 0, 0, 7, 7, 6, 1, 0, 7, 7, 7, 0, 7, 7, 7, 7, 7, 7, 7, 7, 6, 1, 7, 7, 7, 7, 7, 7, 7, 1, 1, 0, 6, 6, 0, 0, 0,
  0, 0, 0, 1, 0, 0, 1, 6, 6, 7, 7, 6, 6, 6, 6, 6, 3, 6, 1, 1, 6, 6, 6, 1, 0, 0, 7, 13, 10, 10, 10, 9, 11, 6, 12, 9, 9, 9, 8, 7,
  0, 7, 1, 0, 0, 8, 7, 1, 6, 6, 0, 0, 1, 2, 0, 0, 0, 0, 6, 6, 1, 0, 6, 1, 1, 1, 1, 1, 1, 1, 1, 1, 1, 1, 1, 1, 1, 1, 1, 1,
  1, 1, 1, 1, 1, 1, 1, 1, 1, 1, 1, 1, 1, 1, 1, 1, 1, 1, 1, 1, 1, 1, 1, 1, 1, 1, 1, 1, 1, 1, 1, 1, 1, 1, 1, 1, 1, 1, 1, 1,
  1, 1, 1, 1, 1, 1, 1, 1, 1, 1, 1, 1, 1, 1, 1, 1, 1, 1, 1, 1, 1, 1, 1, 1, 1, 1, 1, 1, 1, 1, 1, 1, 1, 1, 1, 1, 1, 1, 1, 1,
  1, 1, 1, 1, 1, 1, 1, 1, 1, 1, 1, 1, 1, 1, 1, 1, 1, 1, 1, 1, 1, 8, 7, 9, 8, 8, 0, 8, 8, 9, 9, 11, 1, 1, 1, 1, 1, 1, 1, 1,
  1, 1, 1, 1, 1, 1, 1, 1, 1, 1, 1, 1, 14, 1, 0, 0, 3, 2, 1, 0]
def htN (y : Nat) : Nat := htL.getD y 0
def loL : List Nat := [
  20, 20, 20, 20, 20, 20, 20, 20, 20, 20, 0, 0, 20, 60, 0, 0, 0, 20, 60, 60, 0, 21, 0, 60, 0, 0, 0, 0, 60, 102, 102, 0, 40, 20, 81, 147, 122, 122, 0, 0,
  84, 21, 43, 67, 88, 67, 88, 0, 21, 0, 130, 106, 0, 82, 0, 20, 43, 21, 44, 66, 46, 69, 21, 0, 0, 21, 20, 0, 0, 21, 0, 100, 41, 41, 65, 108, 90, 90, 168, 20,
  20, 20, 0, 0, 0, 0, 110, 110, 90, 20, 0, 111, 111, 111, 0, 111, 111, 111, 111, 111, 111, 111, 111, 90, 21, 111, 111, 111, 111, 111, 111, 111, 20, 21, 0, 154, 154, 0, 0, 0,
  0, 0, 0, 22, 0, 0, 22, 124, 154, 124, 124, 124, 124, 124, 124, 125, 102, 102, 20, 20, 90, 90, 90, 21, 0, 0, 111, 248, 182, 181, 183, 157, 203, 90, 224, 160, 160, 160, 138, 113,
  0, 113, 20, 0, 0, 136, 112, 20, 90, 90, 0, 0, 22, 43, 0, 0, 0, 0, 90, 90, 60, 0, 90, 20, 20, 20, 20, 20, 20, 20, 20, 20, 20, 20, 20, 20, 20, 20, 20, 20,
  20, 20, 20, 20, 20, 20, 20, 20, 20, 20, 20, 20, 20, 20, 20, 20, 20, 20, 20, 20, 20, 20, 20, 20, 20, 20, 20, 20, 20, 20, 20, 20, 20, 20, 20, 20, 20, 20, 20, 20,
  20, 20, 20, 20, 20, 20, 20, 20, 20, 20, 20, 20, 20, 20, 20, 20, 20, 20, 20, 20, 20, 20, 20, 20, 20, 20, 20, 20, 20, 20, 20, 20, 20, 20, 20, 20, 20, 20, 20, 20,
  20, 20, 20, 20, 20, 20, 20, 20, 20, 20, 20, 20, 20, 20, 20, 20, 20, 20, 20, 20, 21, 189, 115, 210, 175, 133, 0, 133, 135, 169, 200, 227, 20, 20, 20, 20, 20, 20, 20, 20,
  20, 20, 20, 20, 20, 20, 20, 20, 20, 20, 20, 20, 269, 20, 0, 0, 64, 43, 22, 0]
def loN (y : Nat) : Nat := loL.getD y 0
def hhL : List (List (Nat × Nat × Nat × Nat)) := [
  [], [], [], [], [], [], [], [], [], [], [], [],
  [], [], [], [], [], [], [], [], [], [], [], [],
  [], [], [], [], [], [], [], [], [], [], [], [],
  [], [], [], [], [], [], [], [], [], [], [], [],
  [], [], [], [], [], [], [], [], [], [], [], [],
  [], [], [], [], [], [], [], [], [], [], [], [],
  [], [], [], [], [], [], [], [], [], [], [], [],
  [], [], [], [], [], [], [], [], [], [], [], [],
  [], [], [], [], [], [], [], [], [], [], [], [],
  [], [], [], [], [], [], [], [], [], [], [], [],
  [], [], [], [], [], [], [], [], [], [], [], [],
  [], [], [], [], [], [], [], [], [], [], [], [],
  [], [], [], [], [], [], [], [], [], [], [], [],
  [], [], [], [], [], [], [], [], [], [], [], [],
  [], [], [], [], [], [], [], [], [], [], [], [],
  [], [], [], [], [], [], [], [], [], [], [], [],
  [], [], [], [], [], [], [], [], [], [], [], [],
  [], [], [], [], [], [], [], [], [], [], [], [],
  [], [], [], [], [], [], [], [], [], [], [], [],
  [], [], [], [], [], [], [], [], [], [], [], [],
  [], [], [], [], [], [], [], [], [], [], [], [],
  [], [], [], [], [], [], [], [], [], [], [], [],
  [], [], [], [], [], [], [], [], [], [], [], [],
  [], [], [], [], [], [], [], [], [], [], [], [],
  [], [], [], [], [], [], [], [], [], [], [], [],
  [], [(0, 4, 5, 20)], [], [], [(0, 56, 124, 86), (57, 62, 124, 86), (63, 68, 124, 86), (69, 74, 124, 86), (75, 80, 124, 86), (81, 86, 124, 86), (87, 95, 124, 86), (96, 101, 124, 86), (102, 118, 124, 86), (119, 123, 124, 86), (0, 56, 130, 20), (57, 62, 130, 20), (63, 68, 130, 20), (69, 74, 130, 20), (75, 80, 130, 20), (81, 86, 130, 20), (87, 95, 130, 20), (96, 101, 130, 20), (102, 118, 130, 20), (119, 123, 130, 20), (0, 56, 136, 88), (57, 62, 136, 88), (63, 68, 136, 88), (69, 74, 136, 88), (75, 80, 136, 88), (81, 86, 136, 88), (87, 95, 136, 88), (96, 101, 136, 88), (102, 118, 136, 88), (119, 123, 136, 88)], [], [], [], [], [], [], [],
  [], [], [], [], [], [], [], [], [], [], [], [],
  [], [], [], [], [], [], [], [], []]
/-- the table of handlers: from, to, handler, the class's entry in the pool -/
def hhN (y : Nat) : List (Nat × Nat × Nat × Nat) := hhL.getD y []
def cpL : List Nat := [
  109, 109, 109, 109, 109, 109, 109, 109, 109, 231, 352, 581, 170, 572, 356, 885, 538, 191, 577, 375, 529, 533, 783, 800, 1025, 1092, 1096, 1079, 157, 762,
  909, 605, 164, 348, 567, 693, 712, 738, 825, 368, 364, 829, 821, 817, 835, 844, 849, 859, 864, 773, 779, 787, 791, 796, 804, 130, 525, 547, 543, 899,
  554, 521, 51, 705, 360, 675, 71, 697, 723, 701, 708, 717, 727, 733, 743, 43, 670, 680, 689, 109, 109, 109, 417, 1041, 921, 926, 994, 1029, 1033, 109,
  960, 964, 968, 1002, 421, 981, 985, 1016, 973, 977, 1009, 990, 1021, 1046, 1345, 1052, 1058, 1066, 1062, 425, 889, 559, 109, 1070, 917, 1336, 1340, 931, 936, 941,
  946, 951, 956, 1087, 1100, 1083, 1075, 755, 768, 808, 840, 854, 869, 874, 880, 904, 563, 585, 109, 109, 429, 812, 500, 381, 894, 550, 1108, 1348, 1280, 1137,
  1245, 1206, 1355, 1111, 1351, 1283, 1140, 1248, 1144, 1148, 1174, 1295, 1299, 1220, 1228, 1211, 1214, 622, 632, 1304, 626, 636, 642, 639, 1177, 647, 1254, 1251, 1160, 1232,
  1235, 1238, 1151, 1226, 109, 109, 109, 109, 109, 109, 109, 109, 109, 109, 109, 109, 109, 109, 109, 109, 109, 109, 109, 109, 109, 109, 109, 109, 109, 109,
  109, 109, 109, 109, 109, 109, 109, 109, 109, 109, 109, 109, 109, 109, 109, 109, 109, 109, 109, 109, 109, 109, 109, 109, 109, 109, 109, 109, 109, 109,
  109, 109, 109, 109, 109, 109, 109, 109, 109, 109, 109, 109, 109, 109, 109, 109, 109, 109, 109, 109, 109, 109, 109, 109, 109, 109, 109, 109, 109, 109,
  109, 109, 109, 109, 109, 109, 109, 109, 109, 109, 109, 109, 109, 109, 109, 109, 109, 109, 109, 109, 109, 109, 109, 109, 109, 109, 109, 109, 109, 109,
  608, 684, 618, 615, 749, 912, 1012, 1005, 1037, 998, 1332, 1103, 109, 109, 109, 109, 109, 109, 109, 109, 109, 109, 109, 109, 109, 109, 109, 109, 109, 109,
  109, 109, 0]
def cdW (y : Nat) : Cond := if hhN y = [] then .code (ynN y) (cdN y) (mlN y) (rtN y) else .codeWith (ynN y) (cdN y) (mlN y) (rtN y) (hhN y)
def inT (p : Nat) (w : Cond) : Bool := decide (lw_tbl[p]? = some w) && goodWord w
def T0 : List Cond := lw_tbl.filter goodWord
def mtC (y : Nat) : Bool := plainName (ynN y).cls && decide ((parseMethodDescriptor (ynN y).desc).map (fun d => d.parameters.length) = some (naN y)) && decide ((ynN y).cls = clsN (owN y)) && decide ((ynN y).cls ≠ "java/lang/invoke/MethodHandle" ∧ (ynN y).cls ≠ "java/lang/invoke/VarHandle")
set_option maxRecDepth 100000 in
def lyL : List (List Nat) := [[115, 117, 119, 121, 123], [260, 262, 264, 266, 268, 270, 272, 274, 276], [178, 180, 182, 184], [212, 214, 216, 218, 220, 222, 224], [336, 338, 340], [305, 307, 309, 311, 313, 315, 317, 319, 321, 323, 325, 327, 329], [142, 144, 146, 148, 150], [61, 63], [86, 88, 90, 92, 94, 96, 98, 100, 102], [393, 395, 397, 399, 401, 403, 405, 407, 409, 411], [], [], [1321, 1323, 1325, 1327], [], [], [1125, 1127, 1129, 1131]]
def tyC (c k : Nat) : Bool := decide (parseFieldDescriptor (TT c k).2.2.1 = some (tyT c k)) && decide ((TT c k).2.2.2 = ff c k) && decide ((TT c k).1 = declN c) && (match fk c k, tyT c k with | 0, .int => true | 1, .boolean => true | 2, .object _ => true | 2, .array _ => true | 3, .byte => true | _, _ => false)
def ctL : List ((Nat × Nat) × Nat × Nat × List Nat) := [
  ((0, 3), 9, 0, [110, 45, 46]), ((1, 1), 9, 0, [232, 45, 46]), ((2, 3), 9, 0, [171, 45, 46]), ((2, 25), 8, 0, [573, 378, 377, 19]), ((3, 3), 9, 0, [192, 45, 46]),
  ((3, 34), 8, 0, [376, 378, 377, 19]), ((3, 40), 3, 143, [380, 23]), ((3, 44), 0, 20, [534, 527, 528, 31]), ((4, 3), 9, 0, [158, 45, 46]), ((4, 17), 4, 32, [163, 29]),
  ((4, 22), 0, 34, [763, 565, 566, 29]), ((4, 29), 6, 0, [764, 370, 17, 371]), ((5, 3), 9, 0, [165, 45, 46]), ((5, 20), 4, 12, [169, 30]), ((5, 27), 4, 17, [190, 31]),
  ((5, 34), 4, 9, [230, 32]), ((5, 68), 0, 10, [349, 350, 351, 32]), ((5, 71), 8, 0, [568, 378, 377, 19]), ((5, 77), 0, 13, [569, 570, 571, 30]), ((5, 81), 0, 18, [574, 575, 576, 31]),
  ((5, 84), 0, 11, [578, 579, 580, 32]), ((5, 87), 0, 67, [694, 695, 696, 25]), ((5, 92), 0, 69, [698, 699, 700, 25]), ((5, 95), 0, 36, [709, 711, 3, 29]), ((5, 99), 0, 37, [735, 737, 4, 29]),
  ((5, 104), 0, 71, [714, 715, 716, 25]), ((5, 108), 0, 68, [720, 721, 722, 25]), ((5, 112), 0, 72, [724, 725, 726, 25]), ((5, 116), 0, 73, [730, 731, 732, 25]), ((5, 120), 0, 33, [734, 346, 347, 29]),
  ((5, 129), 0, 74, [740, 741, 742, 25]), ((5, 140), 0, 14, [745, 354, 355, 30]), ((5, 144), 0, 39, [365, 366, 367, 29]), ((5, 147), 6, 0, [369, 370, 17, 371]), ((5, 152), 0, 19, [372, 373, 374, 31]),
  ((5, 155), 0, 38, [822, 823, 824, 29]), ((5, 158), 0, 41, [826, 828, 10, 29]), ((5, 162), 5, 0, [830, 54, 17, 55]), ((5, 168), 0, 42, [818, 819, 820, 29]), ((5, 171), 0, 43, [836, 815, 816, 29]),
  ((5, 174), 0, 45, [850, 842, 843, 29]), ((5, 184), 0, 47, [865, 857, 858, 29]), ((5, 190), 0, 22, [780, 781, 782, 31]), ((5, 194), 0, 51, [784, 786, 5, 29]), ((5, 198), 0, 52, [788, 790, 6, 29]),
  ((5, 201), 0, 61, [792, 519, 520, 27]), ((5, 223), 0, 53, [793, 795, 7, 29]), ((5, 227), 0, 54, [801, 803, 8, 29]), ((5, 243), 0, 23, [797, 798, 799, 31]), ((6, 3), 9, 0, [131, 45, 46]),
  ((6, 24), 0, 20, [526, 527, 528, 31]), ((6, 40), 0, 21, [530, 531, 532, 31]), ((6, 48), 0, 16, [535, 536, 537, 30]), ((6, 54), 5, 0, [539, 54, 17, 55]), ((6, 59), 3, 145, [549, 23]),
  ((6, 62), 0, 57, [544, 545, 546, 27]), ((6, 65), 0, 58, [540, 542, 2, 27]), ((6, 69), 3, 143, [380, 23]), ((6, 73), 0, 56, [522, 523, 524, 27]), ((6, 80), 0, 60, [551, 552, 553, 27]),
  ((7, 3), 9, 0, [52, 45, 46]), ((7, 9), 5, 0, [53, 54, 17, 55]), ((7, 25), 0, 64, [676, 358, 359, 24]), ((8, 3), 9, 0, [72, 45, 46]), ((8, 36), 0, 63, [702, 703, 704, 24]),
  ((8, 40), 1, 70, [706, 707, 25]), ((8, 43), 10, 167, [718, 620, 621, 14]), ((8, 48), 11, 168, [719, 630, 631, 14]), ((8, 52), 0, 69, [728, 699, 700, 25]), ((8, 55), 0, 68, [729, 721, 722, 25]),
  ((8, 59), 0, 72, [744, 725, 726, 25]), ((9, 1), 9, 0, [44, 45, 46]), ((9, 11), 2, 62, [49, 50, 24]), ((9, 23), 2, 66, [69, 70, 25]), ((9, 32), 4, 0, [108, 26]),
  ((9, 39), 4, 55, [129, 27]), ((9, 46), 2, 28, [155, 156, 28]), ((9, 53), 4, 32, [163, 29]), ((9, 64), 0, 33, [345, 346, 347, 29]), ((9, 72), 0, 14, [353, 354, 355, 30]),
  ((9, 78), 0, 64, [357, 358, 359, 24]), ((9, 89), 0, 40, [361, 362, 363, 29]), ((9, 100), 0, 65, [672, 673, 674, 24]), ((9, 108), 0, 35, [690, 691, 692, 29]), ((9, 114), 0, 34, [564, 565, 566, 29]),
  ((9, 118), 0, 31, [602, 603, 604, 28]), ((9, 129), 0, 29, [759, 760, 761, 28]), ((9, 152), 1, 142, [498, 499, 23]), ((9, 155), 0, 16, [995, 536, 537, 30]), ((9, 167), 0, 141, [809, 811, 9, 23]),
  ((9, 173), 0, 42, [969, 819, 820, 29]), ((9, 187), 0, 140, [426, 428, 0, 23]), ((9, 196), 0, 21, [1017, 531, 532, 31]), ((9, 212), 0, 24, [1022, 1023, 1024, 31]), ((9, 217), 1, 145, [1048, 549, 23]),
  ((9, 220), 0, 56, [1053, 523, 524, 27]), ((9, 227), 0, 57, [1054, 545, 546, 27]), ((9, 236), 0, 61, [518, 519, 520, 27]), ((9, 243), 1, 144, [892, 893, 23]), ((9, 248), 0, 59, [896, 897, 898, 27]),
  ((9, 252), 0, 60, [900, 552, 553, 27]), ((9, 256), 0, 22, [1071, 781, 782, 31]), ((9, 263), 0, 50, [776, 777, 778, 29]), ((9, 291), 7, 0, [1088, 611, 17, 612]), ((9, 296), 0, 25, [1089, 1090, 1091, 31]),
  ((9, 299), 0, 26, [1093, 1094, 1095, 31]), ((9, 308), 0, 27, [1076, 1077, 1078, 31]), ((9, 313), 0, 39, [757, 366, 367, 29]), ((9, 320), 0, 49, [770, 771, 772, 29]), ((9, 325), 0, 43, [814, 815, 816, 29]),
  ((9, 330), 0, 44, [832, 833, 834, 29]), ((9, 333), 0, 45, [841, 842, 843, 29]), ((9, 338), 0, 46, [846, 847, 848, 29]), ((9, 343), 0, 47, [856, 857, 858, 29]), ((9, 348), 0, 48, [861, 862, 863, 29]),
  ((9, 362), 0, 15, [882, 883, 884, 30]), ((9, 368), 0, 30, [906, 907, 908, 28]), ((9, 390), 5, 0, [382, 54, 17, 55]), ((11, 8), 7, 0, [610, 611, 17, 612]), ((11, 14), 0, 78, [686, 687, 688, 23]),
  ((11, 25), 0, 167, [619, 620, 621, 14]), ((11, 30), 0, 168, [629, 630, 631, 14]), ((11, 34), 0, 76, [667, 668, 669, 23]), ((11, 38), 0, 77, [677, 678, 679, 23]), ((11, 41), 1, 302, [616, 617, 11]),
  ((11, 47), 12, 301, [682, 683, 11]), ((11, 54), 0, 127, [752, 753, 754, 23]), ((11, 57), 0, 128, [765, 766, 767, 23]), ((11, 60), 0, 129, [805, 806, 807, 23]), ((11, 63), 0, 130, [837, 838, 839, 23]),
  ((11, 66), 0, 131, [851, 852, 853, 23]), ((11, 69), 0, 132, [866, 867, 868, 23]), ((11, 72), 0, 133, [871, 872, 873, 23]), ((11, 76), 0, 134, [877, 878, 879, 23]), ((11, 79), 0, 110, [886, 887, 888, 23]),
  ((11, 83), 0, 135, [901, 902, 903, 23]), ((11, 92), 0, 82, [414, 415, 416, 23]), ((11, 95), 0, 114, [914, 915, 916, 23]), ((11, 98), 0, 84, [918, 919, 920, 23]), ((11, 103), 0, 85, [923, 924, 925, 23]),
  ((11, 108), 0, 117, [928, 929, 930, 23]), ((11, 113), 0, 118, [933, 934, 935, 23]), ((11, 118), 0, 119, [938, 939, 940, 23]), ((11, 123), 0, 120, [943, 944, 945, 23]), ((11, 128), 0, 121, [948, 949, 950, 23]),
  ((11, 133), 0, 122, [953, 954, 955, 23]), ((11, 136), 0, 90, [957, 958, 959, 23]), ((11, 139), 0, 91, [961, 962, 963, 23]), ((11, 142), 0, 92, [965, 966, 967, 23]), ((11, 145), 0, 94, [418, 419, 420, 23]),
  ((11, 148), 0, 98, [970, 971, 972, 23]), ((11, 151), 0, 99, [974, 975, 976, 23]), ((11, 154), 0, 95, [978, 979, 980, 23]), ((11, 157), 0, 96, [982, 983, 984, 23]), ((11, 163), 0, 101, [987, 988, 989, 23]),
  ((11, 166), 0, 86, [991, 992, 993, 23]), ((11, 170), 0, 100, [1006, 1007, 1008, 23]), ((11, 173), 1, 306, [1010, 1011, 11]), ((11, 176), 0, 97, [1013, 1014, 1015, 23]), ((11, 179), 0, 102, [1018, 1019, 1020, 23]),
  ((11, 182), 0, 83, [1038, 1039, 1040, 23]), ((11, 185), 5, 0, [1042, 54, 17, 55]), ((11, 188), 0, 103, [1043, 1044, 1045, 23]), ((11, 191), 0, 105, [1049, 1050, 1051, 23]), ((11, 194), 0, 109, [422, 423, 424, 23]),
  ((11, 197), 0, 106, [1055, 1056, 1057, 23]), ((11, 200), 0, 108, [1059, 1060, 1061, 23]), ((11, 203), 0, 107, [1063, 1064, 1065, 23]), ((11, 206), 0, 93, [999, 1000, 1001, 23]), ((11, 209), 1, 307, [1003, 1004, 11]),
  ((11, 213), 0, 87, [1026, 1027, 1028, 23]), ((11, 216), 0, 88, [1030, 1031, 1032, 23]), ((11, 219), 1, 308, [1035, 1036, 11]), ((11, 223), 0, 113, [1067, 1068, 1069, 23]), ((11, 226), 0, 126, [1072, 1073, 1074, 23]),
  ((11, 230), 0, 125, [1080, 1081, 1082, 23]), ((11, 234), 0, 123, [1084, 1085, 1086, 23]), ((11, 237), 0, 124, [1097, 1098, 1099, 23]), ((11, 240), 12, 304, [747, 748, 11]), ((11, 246), 2, 146, [1106, 1107, 13]),
  ((11, 247), 0, 149, [1134, 1135, 1136, 13]), ((11, 250), 0, 151, [1203, 1204, 1205, 13]), ((11, 254), 1, 310, [1330, 1331, 11]), ((11, 258), 0, 115, [1333, 1334, 1335, 23]), ((11, 261), 0, 116, [1337, 1338, 1339, 23]),
  ((11, 264), 6, 0, [1341, 370, 17, 371]), ((11, 267), 0, 104, [1342, 1343, 1344, 23]), ((11, 272), 2, 147, [1346, 1347, 13]), ((11, 275), 1, 300, [606, 607, 11]), ((11, 279), 0, 150, [1358, 1243, 1244, 13]),
  ((11, 284), 0, 148, [1357, 1278, 1279, 13]), ((11, 287), 2, 75, [41, 42, 23]), ((11, 288), 1, 303, [613, 614, 11]), ((11, 291), 1, 309, [996, 997, 11]), ((11, 294), 1, 311, [1101, 1102, 11]),
  ((11, 298), 1, 305, [910, 911, 11]), ((11, 302), 0, 111, [556, 557, 558, 23]), ((11, 305), 0, 136, [560, 561, 562, 23]), ((11, 308), 0, 137, [582, 583, 584, 23]), ((12, 1), 9, 0, [1215, 45, 46]),
  ((12, 54), 1, 179, [1230, 1231, 18]), ((12, 212), 8, 0, [1305, 378, 377, 19]), ((12, 335), 0, 170, [623, 624, 625, 14]), ((12, 489), 2, 166, [1212, 1213, 14]), ((12, 492), 0, 171, [633, 634, 635, 14]),
  ((12, 495), 1, 173, [637, 638, 21]), ((12, 549), 15, 183, [1221, 1223, 1224, 1225]), ((12, 552), 15, 163, [1216, 1218, 1219, 1217]), ((12, 1047), 15, 160, [1229, 1172, 1173, 1171]), ((12, 1059), 1, 175, [645, 646, 20]),
  ((13, 9), 1, 172, [640, 641, 14]), ((15, 1), 2, 153, [1109, 1110, 12]), ((15, 7), 2, 154, [1349, 1350, 12]), ((15, 23), 0, 148, [1356, 1278, 1279, 13]), ((15, 29), 13, 155, [1281, 1367, 1133, 1282, 12]),
  ((15, 50), 13, 156, [1138, 1362, 1133, 1139, 12]), ((15, 53), 13, 157, [1246, 1366, 1133, 1247, 12]), ((15, 137), 2, 165, [1209, 1210, 14]), ((15, 343), 13, 164, [1227, 1223, 1133, 1222, 12]), ((16, 3), 9, 0, [1112, 45, 46]),
  ((16, 32), 0, 167, [1291, 620, 621, 14]), ((16, 40), 0, 170, [1300, 624, 625, 14]), ((16, 43), 15, 152, [1353, 1367, 1371, 1354]), ((16, 83), 15, 160, [1170, 1172, 1173, 1171]), ((16, 100), 14, 158, [1141, 1363, 1142, 1143]),
  ((16, 104), 14, 159, [1145, 1364, 1146, 1147]), ((16, 108), 1, 178, [1158, 1159, 18]), ((16, 114), 1, 182, [1149, 1150, 16]), ((16, 191), 1, 174, [1175, 1176, 21]), ((16, 208), 14, 161, [1292, 1369, 1293, 1294]),
  ((16, 245), 1, 177, [1249, 1250, 22]), ((16, 248), 1, 176, [1252, 1253, 22]), ((16, 397), 14, 162, [1296, 1370, 1297, 1298]), ((16, 399), 0, 169, [1301, 1302, 1303, 14]), ((18, 150), 8, 0, [1169, 378, 377, 19]),
  ((18, 304), 6, 0, [1168, 370, 17, 371]), ((18, 339), 1, 180, [1233, 1234, 18]), ((18, 343), 1, 181, [1236, 1237, 18]), ((19, 194), 5, 0, [1152, 54, 17, 55])]
def ctN (o i : Nat) : Option (Nat × Nat × List Nat) := (ctL.find? (fun e => e.1.1 == o && e.1.2 == i)).map (fun e => e.2)
def neL : List Cond := [.methodLinkNest (clsN 3) 40 (ynN 143) "MatchboxModem", .methodLinkNest (clsN 4) 17 (ynN 32) "MatchboxModem", .methodLinkNest (clsN 5) 20 (ynN 12) "MatchboxModem", .methodLinkNest (clsN 5) 27 (ynN 17) "MatchboxModem", .methodLinkNest (clsN 5) 34 (ynN 9) "MatchboxModem", .methodLinkNest (clsN 6) 59 (ynN 145) "MatchboxModem", .methodLinkNest (clsN 6) 69 (ynN 143) "MatchboxModem", .methodLinkNest (clsN 9) 32 (ynN 0) "MatchboxModem", .methodLinkNest (clsN 9) 39 (ynN 55) "MatchboxModem", .methodLinkNest (clsN 9) 53 (ynN 32) "MatchboxModem"]
def neH : String := "MatchboxModem"
def yStrLen : MethodName := ⟨"java/lang/String", "length", "()I"⟩
/-- the inherited name that is called where StringBuilder has its own -/
def ynX (y : Nat) : MethodName := ⟨RJ5, (ynN y).name, (ynN y).desc⟩
def yStrCh : MethodName := ⟨"java/lang/String", "charAt", "(I)C"⟩
def ctW (e : (Nat × Nat) × Nat × Nat × List Nat) : List Cond :=
  match e.2.1 with
  | 0 => [.methodLink (clsN e.1.1) e.1.2 (ynN e.2.2.1), .instanceMethod (ynN e.2.2.1), .selects (ynN e.2.2.1).cls (ynN e.2.2.1) (ynN e.2.2.1), .initialized (ynN e.2.2.1).cls]
  | 1 => [.methodLink (clsN e.1.1) e.1.2 (ynN e.2.2.1), .static (ynN e.2.2.1), .initialized (ynN e.2.2.1).cls]
  | 2 => [.methodLink (clsN e.1.1) e.1.2 (ynN e.2.2.1), .instanceMethod (ynN e.2.2.1), .initialized (ynN e.2.2.1).cls]
  | 3 => [.static (ynN e.2.2.1), .initialized (ynN e.2.2.1).cls]
  | 4 => [.instanceMethod (ynN e.2.2.1), .initialized (ynN e.2.2.1).cls]
  | 5 => [.methodLink (clsN e.1.1) e.1.2 Lib.Math.max.name, .static Lib.Math.max.name, .initialized "java/lang/Math", .code Lib.Math.max.name Lib.Math.max.code 2 (some .int)]
  | 6 => [.methodLink (clsN e.1.1) e.1.2 Lib.Math.min.name, .static Lib.Math.min.name, .initialized "java/lang/Math", .code Lib.Math.min.name Lib.Math.min.code 2 (some .int)]
  | 7 => [.methodLink (clsN e.1.1) e.1.2 Lib.Math.abs.name, .static Lib.Math.abs.name, .initialized "java/lang/Math", .code Lib.Math.abs.name Lib.Math.abs.code 1 (some .int)]
  | 8 => [.methodLink (clsN e.1.1) e.1.2 arraycopyName, .native arraycopyName, .static arraycopyName, .initialized "java/lang/System"]
  | 9 => [.methodLink (clsN e.1.1) e.1.2 objectInit, .instanceMethod objectInit, .code objectInit ⟨#[0xb1]⟩ 1 none]
  | 10 => [.methodLink (clsN e.1.1) e.1.2 yStrLen, .instanceMethod yStrLen, .selects yStrLen.cls yStrLen yStrLen, .initialized yStrLen.cls]
  | 11 => [.methodLink (clsN e.1.1) e.1.2 yStrCh, .instanceMethod yStrCh, .selects yStrCh.cls yStrCh yStrCh, .initialized yStrCh.cls]
  | 12 => [.methodLink (clsN e.1.1) e.1.2 (ynN e.2.2.1), .static (ynN e.2.2.1), .initialized (ynN e.2.2.1).cls]
  | 13 => [.methodLink (clsN e.1.1) e.1.2 (ynN e.2.2.1), .sameMethod (ynN e.2.2.1).cls (ynN e.2.2.1).cls (ynN e.2.2.1).name (ynN e.2.2.1).desc, .superclass RJ4 RJ5, .instanceMethod (ynN e.2.2.1), .initialized (ynN e.2.2.1).cls]
  | 14 => [.methodLink (clsN e.1.1) e.1.2 (ynN e.2.2.1), .sameMethod (ynN e.2.2.1).cls (ynN e.2.2.1).cls (ynN e.2.2.1).name (ynN e.2.2.1).desc, .privateMethod (ynN e.2.2.1), .instanceMethod (ynN e.2.2.1)]
  | 15 => [.methodLink (clsN e.1.1) e.1.2 (ynX e.2.2.1), .sameMethod RJ5 RJ5 (ynX e.2.2.1).name (ynX e.2.2.1).desc, .selects RJ4 (ynX e.2.2.1) (ynN e.2.2.1), .instanceMethod (ynN e.2.2.1)]
  | _ => []
def ctB (e : (Nat × Nat) × Nat × Nat × List Nat) : Bool :=
  decide (e.2.2.1 < 332) && (match e.2.1 with
  | 0 => decide (hhN e.2.2.1 = []) && okC (owN e.2.2.1)
  | 1 => decide (hhN e.2.2.1 = [])
  | 2 => decide (hhN e.2.2.1 = []) && decide ((ynN e.2.2.1).name = "<init>") && decide (rtN e.2.2.1 = none)
  | 3 => decide (.methodLinkNest (clsN e.1.1) e.1.2 (ynN e.2.2.1) neH ∈ neL) && decide (hhN e.2.2.1 = [])
  | 4 => decide (.methodLinkNest (clsN e.1.1) e.1.2 (ynN e.2.2.1) neH ∈ neL) && decide (hhN e.2.2.1 = []) && decide ((ynN e.2.2.1).name = "<init>") && decide (rtN e.2.2.1 = none)
  | 5 => true | 6 => true | 7 => true | 8 => true | 9 => true | 10 => true | 11 => true
  | 13 => decide (hhN e.2.2.1 = []) && decide ((ynN e.2.2.1).name ≠ "<init>")
  | 14 => decide (hhN e.2.2.1 = [])
  | 15 => decide (hhN e.2.2.1 = [])
  | 12 => decide (hhN e.2.2.1 ≠ [])
  | _ => false)
def ftL : List ((Nat × Nat) × Nat × Nat × Nat) := [
  ((0, 9), 0, 1, 111), ((0, 15), 0, 2, 112), ((0, 18), 0, 3, 113), ((0, 21), 0, 4, 114), ((1, 7), 1, 0, 233), ((1, 13), 1, 1, 236), ((1, 16), 1, 2, 239), ((1, 19), 1, 3, 242),
  ((1, 22), 1, 4, 245), ((1, 25), 1, 5, 248), ((1, 28), 1, 6, 251), ((1, 31), 1, 7, 254), ((1, 34), 1, 8, 257), ((2, 9), 2, 1, 175), ((2, 15), 2, 2, 176), ((2, 18), 2, 3, 177),
  ((2, 21), 2, 0, 172), ((3, 9), 3, 1, 196), ((3, 15), 3, 2, 199), ((3, 18), 3, 3, 202), ((3, 21), 3, 4, 205), ((3, 24), 3, 5, 207), ((3, 27), 3, 6, 210), ((3, 30), 3, 0, 193),
  ((4, 11), 4, 2, 335), ((4, 18), 4, 1, 334), ((4, 26), 4, 0, 332), ((5, 9), 5, 8, 293), ((5, 15), 5, 9, 295), ((5, 21), 5, 10, 297), ((5, 28), 5, 11, 300), ((5, 35), 5, 12, 303),
  ((5, 39), 5, 0, 279), ((5, 43), 5, 1, 281), ((5, 46), 5, 2, 284), ((5, 49), 5, 3, 285), ((5, 52), 5, 4, 286), ((5, 55), 5, 5, 288), ((5, 58), 5, 6, 290), ((5, 61), 5, 7, 291),
  ((5, 64), 2, 0, 173), ((5, 67), 3, 0, 194), ((5, 124), 8, 1, 75), ((5, 131), 8, 6, 80), ((5, 134), 8, 7, 82), ((5, 137), 8, 8, 84), ((5, 165), 3, 2, 200), ((5, 177), 3, 5, 208),
  ((5, 180), 3, 1, 197), ((5, 187), 1, 8, 258), ((5, 207), 3, 3, 203), ((5, 210), 1, 0, 234), ((5, 213), 1, 5, 249), ((5, 216), 6, 2, 136), ((5, 217), 1, 6, 252), ((5, 220), 6, 1, 134),
  ((5, 231), 1, 7, 255), ((5, 234), 1, 1, 237), ((5, 237), 1, 2, 240), ((5, 240), 1, 3, 243), ((5, 247), 1, 4, 246), ((6, 9), 6, 0, 132), ((6, 15), 6, 1, 133), ((6, 18), 5, 11, 301),
  ((6, 30), 6, 2, 135), ((6, 34), 6, 3, 138), ((6, 37), 6, 4, 140), ((6, 44), 5, 10, 299), ((6, 77), 5, 1, 282), ((7, 15), 7, 0, 56), ((7, 21), 7, 1, 59), ((8, 9), 8, 5, 79),
  ((8, 15), 8, 0, 73), ((8, 19), 8, 1, 74), ((8, 22), 8, 2, 76), ((8, 25), 8, 3, 77), ((8, 28), 8, 4, 78), ((8, 31), 7, 1, 60), ((8, 63), 8, 6, 81), ((8, 66), 8, 7, 83),
  ((8, 67), 8, 8, 85), ((9, 14), 9, 0, 383), ((9, 18), 9, 1, 384), ((9, 26), 9, 2, 385), ((9, 33), 9, 3, 386), ((9, 40), 9, 4, 387), ((9, 47), 9, 5, 388), ((9, 54), 9, 6, 389),
  ((9, 58), 9, 7, 390), ((9, 61), 9, 8, 391), ((9, 68), 5, 10, 298), ((9, 81), 7, 0, 57), ((9, 85), 7, 1, 58), ((9, 121), 2, 0, 174), ((9, 143), 5, 4, 287), ((9, 146), 5, 0, 280),
  ((9, 149), 5, 1, 283), ((9, 164), 5, 7, 292), ((9, 170), 5, 8, 294), ((9, 177), 5, 9, 296), ((9, 180), 5, 11, 302), ((9, 184), 3, 0, 195), ((9, 190), 3, 1, 198), ((9, 193), 3, 5, 209),
  ((9, 200), 3, 2, 201), ((9, 203), 3, 3, 204), ((9, 206), 3, 4, 206), ((9, 209), 3, 6, 211), ((9, 224), 6, 2, 137), ((9, 230), 6, 3, 139), ((9, 233), 6, 4, 141), ((9, 260), 5, 5, 289),
  ((9, 267), 5, 12, 304), ((9, 271), 1, 0, 235), ((9, 276), 1, 1, 238), ((9, 279), 1, 2, 241), ((9, 282), 1, 4, 247), ((9, 285), 1, 7, 256), ((9, 288), 1, 5, 250), ((9, 289), 1, 3, 244),
  ((9, 302), 1, 6, 253), ((9, 305), 1, 8, 259), ((9, 365), 4, 0, 333), ((9, 371), 9, 9, 392), ((12, 9), 12, 0, 1319), ((12, 15), 12, 1, 1320), ((12, 1048), 15, 2, 1123), ((16, 15), 15, 0, 1121),
  ((16, 22), 15, 1, 1122), ((16, 79), 15, 3, 1124)]
def ftN (o i : Nat) : Option (Nat × Nat × Nat) := (ftL.find? (fun e => e.1.1 == o && e.1.2 == i)).map (fun e => e.2)
def ftC (e : (Nat × Nat) × Nat × Nat × Nat) : Bool := okC e.2.1 && decide (e.2.2.1 < nf e.2.1) && inT e.2.2.2 (.fieldLink (clsN e.1.1) e.1.2 (declN e.2.1) (TT e.2.1 e.2.2.1).2.1 (TT e.2.1 e.2.2.1).2.2.1)
def clL : List ((Nat × Nat) × Nat × Nat × Nat × Nat) := [
  ((9, 7), 7, 47, 48, 24), ((9, 21), 8, 67, 68, 25), ((9, 30), 0, 105, 106, 26), ((9, 37), 6, 126, 127, 27), ((9, 44), 4, 153, 154, 28), ((9, 51), 5, 343, 161, 29),
  ((4, 9), 5, 159, 161, 29), ((5, 18), 2, 166, 167, 30), ((5, 25), 3, 187, 188, 31), ((5, 32), 1, 227, 228, 32), ((11, 15), 9, 39, 40, 23), ((11, 244), 15, 1104, 1105, 13),
  ((15, 18), 12, 1207, 1208, 14)]
def clN (o i : Nat) : Option (Nat × Nat × Nat × Nat) := (clL.find? (fun e => e.1.1 == o && e.1.2 == i)).map (fun e => e.2)
def clC (e : (Nat × Nat) × Nat × Nat × Nat × Nat) : Bool := okC e.2.1 && inT e.2.2.1 (.classLink (clsN e.1.1) e.1.2 (clsN e.2.1)) && inT e.2.2.2.1 (.instantiable (clsN e.2.1) (nf e.2.1)) && inT e.2.2.2.2 (.initialized (clsN e.2.1))
def kiL : List ((Nat × Nat) × Int32 × Nat) := [
  ((9, 240), (65535), 890), ((9, 387), (999999), 501), ((5, 183), (900000), 774), ((11, 7), (100000), 609), ((16, 38), (2147483631), 1352), ((16, 39), (2147483647), 1157),
  ((19, 200), (2147483639), 1153)]
def kiN (o i : Nat) : Option (Int32 × Nat) := (kiL.find? (fun e => e.1.1 == o && e.1.2 == i)).map (fun e => e.2)
def kiC (e : (Nat × Nat) × Int32 × Nat) : Bool := inT e.2.2 (.constant (clsN e.1.1) e.1.2 e.2.1)
def klL : List ((Nat × Nat) × Int64 × Nat) := [
  ((11, 90), (31), 913), ((11, 101), (7), 922), ((11, 106), (11), 927), ((11, 111), (13), 932), ((11, 116), (17), 937), ((11, 121), (19), 942),
  ((11, 126), (23), 947), ((11, 131), (29), 952), ((11, 161), (257), 986)]
def klN (o i : Nat) : Option (Int64 × Nat) := (klL.find? (fun e => e.1.1 == o && e.1.2 == i)).map (fun e => e.2)
def klC (e : (Nat × Nat) × Int64 × Nat) : Bool := inT e.2.2 (.constantLong (clsN e.1.1) e.1.2 e.2.1)
end
section
theorem inT_ok {p : Nat} {w : Cond} (h : inT p w = true) : w ∈ T0 := by
  simp only [inT, Bool.and_eq_true, decide_eq_true_eq] at h
  exact List.mem_filter.mpr ⟨List.mem_of_getElem? h.1, h.2⟩
theorem T0_good : GoodIn T0 T0 := fun w h => ⟨h, good_of_word (List.mem_filter.mp h).2⟩
set_option maxRecDepth 100000 in
theorem mtOk0 : (List.range 333).all mtC = true := by decide +kernel
set_option maxRecDepth 100000 in
theorem cpA0 : (List.range 24).map (fun k => cdW (0 + k)) = ([109, 109, 109, 109, 109, 109, 109, 109, 109, 231, 352, 581, 170, 572, 356, 885, 538, 191, 577, 375, 529, 533, 783, 800] : List Nat).filterMap (fun i => lw_tbl[i]?) := rfl
set_option maxRecDepth 100000 in
theorem cpA24 : (List.range 24).map (fun k => cdW (24 + k)) = ([1025, 1092, 1096, 1079, 157, 762, 909, 605, 164, 348, 567, 693, 712, 738, 825, 368, 364, 829, 821, 817, 835, 844, 849, 859] : List Nat).filterMap (fun i => lw_tbl[i]?) := rfl
set_option maxRecDepth 100000 in
theorem cpA48 : (List.range 24).map (fun k => cdW (48 + k)) = ([864, 773, 779, 787, 791, 796, 804, 130, 525, 547, 543, 899, 554, 521, 51, 705, 360, 675, 71, 697, 723, 701, 708, 717] : List Nat).filterMap (fun i => lw_tbl[i]?) := rfl
set_option maxRecDepth 100000 in
theorem cpA72 : (List.range 24).map (fun k => cdW (72 + k)) = ([727, 733, 743, 43, 670, 680, 689, 109, 109, 109, 417, 1041, 921, 926, 994, 1029, 1033, 109, 960, 964, 968, 1002, 421, 981] : List Nat).filterMap (fun i => lw_tbl[i]?) := rfl
set_option maxRecDepth 100000 in
theorem cpA96 : (List.range 24).map (fun k => cdW (96 + k)) = ([985, 1016, 973, 977, 1009, 990, 1021, 1046, 1345, 1052, 1058, 1066, 1062, 425, 889, 559, 109, 1070, 917, 1336, 1340, 931, 936, 941] : List Nat).filterMap (fun i => lw_tbl[i]?) := rfl
set_option maxRecDepth 100000 in
theorem cpA120 : (List.range 24).map (fun k => cdW (120 + k)) = ([946, 951, 956, 1087, 1100, 1083, 1075, 755, 768, 808, 840, 854, 869, 874, 880, 904, 563, 585, 109, 109, 429, 812, 500, 381] : List Nat).filterMap (fun i => lw_tbl[i]?) := rfl
set_option maxRecDepth 100000 in
theorem cpA144 : (List.range 24).map (fun k => cdW (144 + k)) = ([894, 550, 1108, 1348, 1280, 1137, 1245, 1206, 1355, 1111, 1351, 1283, 1140, 1248, 1144, 1148, 1174, 1295, 1299, 1220, 1228, 1211, 1214, 622] : List Nat).filterMap (fun i => lw_tbl[i]?) := rfl
set_option maxRecDepth 100000 in
theorem cpA168 : (List.range 24).map (fun k => cdW (168 + k)) = ([632, 1304, 626, 636, 642, 639, 1177, 647, 1254, 1251, 1160, 1232, 1235, 1238, 1151, 1226, 109, 109, 109, 109, 109, 109, 109, 109] : List Nat).filterMap (fun i => lw_tbl[i]?) := rfl
set_option maxRecDepth 100000 in
theorem cpA192 : (List.range 24).map (fun k => cdW (192 + k)) = ([109, 109, 109, 109, 109, 109, 109, 109, 109, 109, 109, 109, 109, 109, 109, 109, 109, 109, 109, 109, 109, 109, 109, 109] : List Nat).filterMap (fun i => lw_tbl[i]?) := rfl
set_option maxRecDepth 100000 in
theorem cpA216 : (List.range 24).map (fun k => cdW (216 + k)) = ([109, 109, 109, 109, 109, 109, 109, 109, 109, 109, 109, 109, 109, 109, 109, 109, 109, 109, 109, 109, 109, 109, 109, 109] : List Nat).filterMap (fun i => lw_tbl[i]?) := rfl
set_option maxRecDepth 100000 in
theorem cpA240 : (List.range 24).map (fun k => cdW (240 + k)) = ([109, 109, 109, 109, 109, 109, 109, 109, 109, 109, 109, 109, 109, 109, 109, 109, 109, 109, 109, 109, 109, 109, 109, 109] : List Nat).filterMap (fun i => lw_tbl[i]?) := rfl
set_option maxRecDepth 100000 in
theorem cpA264 : (List.range 24).map (fun k => cdW (264 + k)) = ([109, 109, 109, 109, 109, 109, 109, 109, 109, 109, 109, 109, 109, 109, 109, 109, 109, 109, 109, 109, 109, 109, 109, 109] : List Nat).filterMap (fun i => lw_tbl[i]?) := rfl
set_option maxRecDepth 100000 in
theorem cpA288 : (List.range 24).map (fun k => cdW (288 + k)) = ([109, 109, 109, 109, 109, 109, 109, 109, 109, 109, 109, 109, 608, 684, 618, 615, 749, 912, 1012, 1005, 1037, 998, 1332, 1103] : List Nat).filterMap (fun i => lw_tbl[i]?) := rfl
set_option maxRecDepth 100000 in
theorem cpA312 : (List.range 20).map (fun k => cdW (312 + k)) = ([109, 109, 109, 109, 109, 109, 109, 109, 109, 109, 109, 109, 109, 109, 109, 109, 109, 109, 109, 109] : List Nat).filterMap (fun i => lw_tbl[i]?) := rfl
theorem cp_of {n a : Nat} {ps : List Nat} (h : (List.range n).map (fun k => cdW (a + k)) = ps.filterMap (fun i => lw_tbl[i]?)) {y : Nat} (h1 : a ≤ y) (h2 : y < a + n) : cdW y ∈ T0 := by
  have hm : cdW y ∈ (List.range n).map (fun k => cdW (a + k)) := List.mem_map.mpr ⟨y - a, List.mem_range.mpr (by omega), by rw [Nat.add_sub_of_le h1]⟩
  rw [h] at hm
  obtain ⟨i, -, hi⟩ := List.mem_filterMap.mp hm
  refine List.mem_filter.mpr ⟨List.mem_of_getElem? hi, ?_⟩
  unfold cdW
  split <;> rfl
theorem cpOk {y : Nat} (h : y < 332) : cdW y ∈ T0 := by
  by_cases h0 : y < 24
  · exact cp_of cpA0 (by omega) (by omega)
  by_cases h24 : y < 48
  · exact cp_of cpA24 (by omega) (by omega)
  by_cases h48 : y < 72
  · exact cp_of cpA48 (by omega) (by omega)
  by_cases h72 : y < 96
  · exact cp_of cpA72 (by omega) (by omega)
  by_cases h96 : y < 120
  · exact cp_of cpA96 (by omega) (by omega)
  by_cases h120 : y < 144
  · exact cp_of cpA120 (by omega) (by omega)
  by_cases h144 : y < 168
  · exact cp_of cpA144 (by omega) (by omega)
  by_cases h168 : y < 192
  · exact cp_of cpA168 (by omega) (by omega)
  by_cases h192 : y < 216
  · exact cp_of cpA192 (by omega) (by omega)
  by_cases h216 : y < 240
  · exact cp_of cpA216 (by omega) (by omega)
  by_cases h240 : y < 264
  · exact cp_of cpA240 (by omega) (by omega)
  by_cases h264 : y < 288
  · exact cp_of cpA264 (by omega) (by omega)
  by_cases h288 : y < 312
  · exact cp_of cpA288 (by omega) (by omega)
  exact cp_of cpA312 (by omega) (by omega)
theorem mtOk {y : Nat} (h : y < 333) : mtC y = true := List.all_eq_true.mp mtOk0 y (List.mem_range.mpr h)
theorem okC_lt {c : Nat} (hc : okC c = true) : c < 16 := by
  simp only [okC, Bool.or_eq_true, decide_eq_true_eq] at hc
  omega
set_option maxRecDepth 100000 in
theorem lyOk0 : (List.range 16).all (fun c => !(okC c) || (List.range (nf c)).all (fun k => inT ((lyL.getD c []).getD k 0) (u_lay (clsN c) (TT c) k))) = true := by decide +kernel
theorem lyOk {c : Nat} (hc : okC c = true) : ∀ w ∈ u_ws (clsN c) (TT c) (nf c), w ∈ T0 := by
  intro w hw
  obtain ⟨k, hk, rfl⟩ := List.mem_map.mp hw
  have h := List.all_eq_true.mp lyOk0 c (List.mem_range.mpr (okC_lt hc))
  rw [hc] at h
  exact inT_ok (List.all_eq_true.mp h k hk)
theorem nmOk0 : (List.range 16).all (fun c => !(okC c) || (List.range (nf c)).all (fun a => (List.range (nf c)).all (fun b => decide (a = b) || decide ((TT c a).2.1 ≠ (TT c b).2.1)))) = true := by decide +kernel
theorem nmOk {c : Nat} (hc : okC c = true) : ∀ a, a < nf c → ∀ b, b < nf c → a ≠ b → (TT c a).2.1 ≠ (TT c b).2.1 := by
  intro a ha b hb hab
  have h0 := List.all_eq_true.mp nmOk0 c (List.mem_range.mpr (okC_lt hc))
  rw [hc] at h0
  have h := List.all_eq_true.mp (List.all_eq_true.mp h0 a (List.mem_range.mpr ha)) b (List.mem_range.mpr hb)
  simp only [Bool.or_eq_true, decide_eq_true_eq] at h
  exact h.resolve_left hab
theorem tyOk0 : (List.range 16).all (fun c => !(okC c) || (List.range (nf c)).all (tyC c)) = true := by decide +kernel
theorem tyOk {c k : Nat} (hc : okC c = true) (hk : k < nf c) : tyC c k = true := by
  have h := List.all_eq_true.mp tyOk0 c (List.mem_range.mpr (okC_lt hc))
  rw [hc] at h
  exact List.all_eq_true.mp h k (List.mem_range.mpr hk)
theorem vwOk0 : (List.range 16).all (fun c => !(okC c) || decide ((vwCl[c]?).map (fun q => (q.1, q.2.2)) = some (clsN c, nf c))) = true := by decide +kernel
theorem vwOk {c : Nat} (hc : okC c = true) : vwCl[c]? = some (clsN c, TT c, nf c) := by
  have : c = 0 ∨ c = 1 ∨ c = 2 ∨ c = 3 ∨ c = 4 ∨ c = 5 ∨ c = 6 ∨ c = 7 ∨ c = 8 ∨ c = 9 ∨ c = 10 ∨ c = 12 ∨ c = 15 := by
    simp only [okC, Bool.or_eq_true, decide_eq_true_eq] at hc
    omega
  rcases this with rfl | rfl | rfl | rfl | rfl | rfl | rfl | rfl | rfl | rfl | rfl | rfl | rfl <;> rfl
theorem neOk : neL = ([379, 162, 168, 189, 229, 548, 555, 107, 128, 344] : List Nat).filterMap (fun i => lw_tbl[i]?) := by decide +kernel
theorem neIn : ∀ w ∈ neL, w ∈ lw_tbl := by
  intro w hw
  rw [neOk] at hw
  obtain ⟨i, -, hi⟩ := List.mem_filterMap.mp hw
  exact List.mem_of_getElem? hi
theorem neTab : neL.all (fun w => w.onTables) = true := by decide +kernel
set_option maxRecDepth 100000 in
theorem ctA0 : ((ctL.drop 0).take 40).map ctW = ((ctL.drop 0).take 40).map (fun e => e.2.2.2.filterMap (fun i => lw_tbl[i]?)) := rfl
set_option maxRecDepth 100000 in
theorem ctA40 : ((ctL.drop 40).take 40).map ctW = ((ctL.drop 40).take 40).map (fun e => e.2.2.2.filterMap (fun i => lw_tbl[i]?)) := rfl
set_option maxRecDepth 100000 in
theorem ctA80 : ((ctL.drop 80).take 40).map ctW = ((ctL.drop 80).take 40).map (fun e => e.2.2.2.filterMap (fun i => lw_tbl[i]?)) := rfl
set_option maxRecDepth 100000 in
theorem ctA120 : ((ctL.drop 120).take 40).map ctW = ((ctL.drop 120).take 40).map (fun e => e.2.2.2.filterMap (fun i => lw_tbl[i]?)) := rfl
set_option maxRecDepth 100000 in
theorem ctA160 : ((ctL.drop 160).take 40).map ctW = ((ctL.drop 160).take 40).map (fun e => e.2.2.2.filterMap (fun i => lw_tbl[i]?)) := rfl
set_option maxRecDepth 100000 in
theorem ctA200 : ((ctL.drop 200).take 40).map ctW = ((ctL.drop 200).take 40).map (fun e => e.2.2.2.filterMap (fun i => lw_tbl[i]?)) := rfl
set_option maxRecDepth 100000 in
theorem ctB0 : ctL.all ctB = true := by decide +kernel
theorem ct_of {a n : Nat} (h : ((ctL.drop a).take n).map ctW = ((ctL.drop a).take n).map (fun e => e.2.2.2.filterMap (fun i => lw_tbl[i]?))) {k : Nat} {e : (Nat × Nat) × Nat × Nat × List Nat} (hk : ctL[k]? = some e) (h1 : a ≤ k) (h2 : k < a + n) : ∀ w ∈ ctW e, w ∈ lw_tbl := by
  have hm : e ∈ (ctL.drop a).take n := by
    refine List.mem_of_getElem? (i := k - a) ?_
    rw [List.getElem?_take, if_pos (by omega), List.getElem?_drop, Nat.add_sub_of_le h1]
    exact hk
  intro w hw
  rw [List.map_inj_left.mp h e hm] at hw
  obtain ⟨i, -, hi⟩ := List.mem_filterMap.mp hw
  exact List.mem_of_getElem? hi
set_option maxRecDepth 100000 in
theorem ctLen : ctL.length = 239 := by decide +kernel
theorem ctIn0 {k : Nat} {e : (Nat × Nat) × Nat × Nat × List Nat} (hk : ctL[k]? = some e) : ∀ w ∈ ctW e, w ∈ lw_tbl := by
  have hl : k < 239 := by rw [← ctLen]; exact (List.getElem?_eq_some_iff.mp hk).1
  by_cases h0 : k < 40
  · exact ct_of ctA0 hk (by omega) (by omega)
  by_cases h40 : k < 80
  · exact ct_of ctA40 hk (by omega) (by omega)
  by_cases h80 : k < 120
  · exact ct_of ctA80 hk (by omega) (by omega)
  by_cases h120 : k < 160
  · exact ct_of ctA120 hk (by omega) (by omega)
  by_cases h160 : k < 200
  · exact ct_of ctA160 hk (by omega) (by omega)
  exact ct_of ctA200 hk (by omega) (by omega)
theorem ctIn {o i : Nat} {e : Nat × Nat × List Nat} (h : ctN o i = some e) : (∀ w ∈ ctW ((o, i), e), w ∈ lw_tbl) ∧ ctB ((o, i), e) = true := by
  unfold ctN at h
  cases hf : ctL.find? (fun e => e.1.1 == o && e.1.2 == i) with
  | none => rw [hf] at h; cases h
  | some f =>
    rw [hf] at h
    have h2 : f.2 = e := Option.some.inj h
    have h3 := List.find?_some hf
    simp only [Bool.and_eq_true, beq_iff_eq] at h3
    have hm := List.mem_of_find?_eq_some hf
    have h4 := List.all_eq_true.mp ctB0 f hm
    obtain ⟨k, hk⟩ := List.getElem?_of_mem hm
    have h5 := ctIn0 hk
    obtain ⟨⟨a, b⟩, g⟩ := f
    obtain ⟨rfl, rfl⟩ := h3
    subst h2
    exact ⟨h5, h4⟩
set_option maxRecDepth 100000 in
theorem ftOk0 : ftL.all ftC = true := by decide +kernel
theorem ftOk {o i : Nat} {e : Nat × Nat × Nat} (h : ftN o i = some e) : ftC ((o, i), e) = true := by
  unfold ftN at h
  cases hf : ftL.find? (fun e => e.1.1 == o && e.1.2 == i) with
  | none => rw [hf] at h; cases h
  | some f =>
    rw [hf] at h
    have h2 : f.2 = e := Option.some.inj h
    have h3 := List.find?_some hf
    simp only [Bool.and_eq_true, beq_iff_eq] at h3
    have h4 := List.all_eq_true.mp ftOk0 f (List.mem_of_find?_eq_some hf)
    obtain ⟨⟨a, b⟩, g⟩ := f
    obtain ⟨rfl, rfl⟩ := h3
    subst h2
    exact h4
theorem clOk0 : clL.all clC = true := by decide +kernel
theorem clOk {o i : Nat} {e : Nat × Nat × Nat × Nat} (h : clN o i = some e) : clC ((o, i), e) = true := by
  unfold clN at h
  cases hf : clL.find? (fun e => e.1.1 == o && e.1.2 == i) with
  | none => rw [hf] at h; cases h
  | some f =>
    rw [hf] at h
    have h2 : f.2 = e := Option.some.inj h
    have h3 := List.find?_some hf
    simp only [Bool.and_eq_true, beq_iff_eq] at h3
    have h4 := List.all_eq_true.mp clOk0 f (List.mem_of_find?_eq_some hf)
    obtain ⟨⟨a, b⟩, g⟩ := f
    obtain ⟨rfl, rfl⟩ := h3
    subst h2
    exact h4
theorem kiOk0 : kiL.all kiC = true := by decide +kernel
theorem kiOk {o i : Nat} {e : Int32 × Nat} (h : kiN o i = some e) : kiC ((o, i), e) = true := by
  unfold kiN at h
  cases hf : kiL.find? (fun e => e.1.1 == o && e.1.2 == i) with
  | none => rw [hf] at h; cases h
  | some f =>
    rw [hf] at h
    have h2 : f.2 = e := Option.some.inj h
    have h3 := List.find?_some hf
    simp only [Bool.and_eq_true, beq_iff_eq] at h3
    have h4 := List.all_eq_true.mp kiOk0 f (List.mem_of_find?_eq_some hf)
    obtain ⟨⟨a, b⟩, g⟩ := f
    obtain ⟨rfl, rfl⟩ := h3
    subst h2
    exact h4
theorem klOk0 : klL.all klC = true := by decide +kernel
theorem klOk {o i : Nat} {e : Int64 × Nat} (h : klN o i = some e) : klC ((o, i), e) = true := by
  unfold klN at h
  cases hf : klL.find? (fun e => e.1.1 == o && e.1.2 == i) with
  | none => rw [hf] at h; cases h
  | some f =>
    rw [hf] at h
    have h2 : f.2 = e := Option.some.inj h
    have h3 := List.find?_some hf
    simp only [Bool.and_eq_true, beq_iff_eq] at h3
    have h4 := List.all_eq_true.mp klOk0 f (List.mem_of_find?_eq_some hf)
    obtain ⟨⟨a, b⟩, g⟩ := f
    obtain ⟨rfl, rfl⟩ := h3
    subst h2
    exact h4
end
section
/-- the throws: method, pc, which exception (0 argument, 1 state, 2 index), the pool's entries of class, text, constructor; wide text; the text's number -/
def xtL : List ((Nat × Nat) × Nat × Nat × Nat × Nat × Bool × Nat) := [
  ((76, 16), 1, 93, 95, 97, false, 4), ((77, 15), 0, 103, 105, 107, false, 5), ((78, 24), 0, 103, 112, 107, false, 6), ((88, 12), 0, 103, 159, 107, false, 7), ((103, 10), 0, 103, 215, 107, false, 8),
  ((110, 16), 0, 103, 241, 107, false, 9), ((110, 58), 0, 103, 246, 107, false, 10), ((127, 23), 0, 103, 311, 107, true, 11), ((127, 44), 1, 93, 316, 97, true, 12), ((128, 11), 0, 103, 318, 107, true, 13),
  ((128, 32), 1, 93, 323, 97, true, 14), ((129, 16), 1, 93, 328, 97, true, 15), ((130, 16), 1, 93, 336, 97, true, 16), ((131, 12), 0, 103, 341, 107, true, 17), ((131, 34), 1, 93, 346, 97, true, 18),
  ((132, 12), 0, 103, 351, 107, true, 19), ((133, 33), 0, 103, 353, 107, true, 20), ((133, 58), 1, 93, 355, 97, true, 21), ((134, 18), 2, 357, 359, 361, true, 22), ((135, 10), 1, 93, 366, 97, true, 23),
  ((137, 7), 1, 93, 375, 97, true, 24), ((140, 18), 2, 357, 383, 361, true, 25), ((141, 15), 2, 357, 385, 361, true, 26), ((142, 11), 0, 103, 388, 107, true, 27)
  ]
def xtN (y pc : Nat) : Option (Nat × Nat × Nat × Nat × Bool × Nat) := (xtL.find? (fun e => e.1.1 == y && e.1.2 == pc)).map (fun e => e.2)
def exc (e : Nat) : String := ["java/lang/IllegalArgumentException", "java/lang/IllegalStateException", "java/lang/IndexOutOfBoundsException"].getD e ""
/-- texts by reference: class, entry; their number -/
def ksL : List ((Nat × Nat) × Nat) := [
  ((5, 102), 0), ((5, 127), 1), ((11, 270), 2), ((11, 282), 3), ((9, 95), 4), ((9, 105), 5), ((9, 112), 6), ((9, 159), 7),
  ((9, 215), 8), ((9, 241), 9), ((9, 246), 10), ((9, 311), 11), ((9, 316), 12), ((9, 318), 13), ((9, 323), 14), ((9, 328), 15),
  ((9, 336), 16), ((9, 341), 17), ((9, 346), 18), ((9, 351), 19), ((9, 353), 20), ((9, 355), 21), ((9, 359), 22), ((9, 366), 23),
  ((9, 375), 24), ((9, 383), 25), ((9, 385), 26), ((9, 388), 27)
  ]
def ksN (o i : Nat) : Option Nat := (ksL.find? (fun e => e.1.1 == o && e.1.2 == i)).map (fun e => e.2)
def ksE (j : Nat) : (Nat × Nat) := (ksL.getD j ((0, 0), 0)).1
def ksW : List String := [
  "modem", "dog",
  "modem ", "dog ",
  "the input buffer would exceed 500 bytes", "the length is not one of 0 to the current length",
  "the configuration has an error", "the number of ticks is not one of 1 to 500",
  "the bit is not one of 0 to 99", "the pattern is not one of 1 to 65535",
  "the frame does not have all bits of the pattern", "the input buffer does not contain 1 to 16 bytes",
  "there are 12 messages", "the number of attempts is not one of 1 to 60",
  "the clock is greater than 900000", "the message is not PENDING",
  "the message is not LOST, or there are 12 messages", "the number of ticks is not one of 1 to 999",
  "the clock would exceed 900000", "the drift is not one of -99 to 99",
  "a parameter of the dog is out of range", "there are 3 dogs",
  "there is no such dog", "there is no operation to undo",
  "there is no saved state", "there is no such frame",
  "there is no such message", "the tick is not one of 0 to 999999"
  ]
def ksX (j : Nat) : String := ksW.getD j ""
/-- the number of texts whose contents are known; of all texts -/
def nTC : Nat := 4
def nTX : Nat := 28
def ksT : List (List Int32) := [
  [109, 111, 100, 101, 109], [100, 111, 103], [109, 111, 100, 101, 109, 32], [100, 111, 103, 32]
  ]
def ksB (i : Nat) : List Int32 := ksT.getD i []
def ksLn : List Nat := [
  5, 3, 6, 4
  ]
def ksLen (i : Nat) : Nat := ksLn.getD i 0
def exL : List ((Nat × Nat) × Nat) := [
  ((9, 93), 1), ((9, 103), 0), ((9, 357), 2), ((11, 20), 0), ((11, 86), 2), ((11, 88), 1),
  ((18, 43), 0)
  ]
def exN (o i : Nat) : Option Nat := (exL.find? (fun e => e.1.1 == o && e.1.2 == i)).map (fun e => e.2)
/-- constructors -/
def inL : List Bool := [true, true, true, true, true, true, true, true, true, true, false, false, true, false, false, false, false, true, false, false, false, false, false, false, false, false, false, false, true, false, false, false, true, false, false, false, false, false, false, false, false, false, false, false, false, false, false, false, false, false, false, false, false, false, false, true, false, false, false, false, false, false, true, false, false, false, true, false, false, false, false, false, false, false, false, true, false, false, false, true, true, true, false, false, false, false, false, false, false, true, false, false, false, false, false, false, false, false, false, false, false, false, false, false, false, false, false, false, false, false, false, false, true, false, false, false, false, false, false, false, false, false, false, false, false, false, false, false, false, false, false, false, false, false, false, false, false, false, true, true, false, false, false, false, false, false, true, true, false, false, false, false, false, true, true, false, false, false, false, false, false, false, false, false, false, true, true, false, false, false, false, false, false, false, false, false, false, false, false, false, false, false, false, false, true, true, true, true, true, true, true, true, true, true, true, true, true, true, true, true, true, true, true, true, true, true, true, true, true, true, true, true, true, true, true, true, true, true, true, true, true, true, true, true, true, true, true, true, true, true, true, true, true, true, true, true, true, true, true, true, true, true, true, true, true, true, true, true, true, true, true, true, true, true, true, true, true, true, true, true, true, true, true, true, true, true, true, true, true, true, true, true, true, true, true, true, true, true, true, true, true, true, true, true, true, true, true, true, true, true, true, true, true, true, true, true, true, true, true, true, false, false, false, false, false, false, false, false, false, false, false, false, true, true, true, true, true, true, true, true, true, true, true, true, true, true, true, true, true, true, true, true, false]
def inN (y : Nat) : Bool := inL.getD y false
def NMM : Nat := 333
end
section
/-! ===== numbers: ints and longs as integers ===== -/
def iI (z : Int) : Int32 := Int32.ofInt z
def lL (z : Int) : Int64 := Int64.ofInt z
def InR (z : Int) : Prop := -2147483648 ≤ z ∧ z ≤ 2147483647
def InL (z : Int) : Prop := -9223372036854775808 ≤ z ∧ z ≤ 9223372036854775807
theorem iI_toInt {z : Int} (h : InR z) : (iI z).toInt = z := Int32.toInt_ofInt_of_le h.1 (Int.lt_of_le_of_lt h.2 (by decide))
theorem iI_self (x : Int32) : iI x.toInt = x := Int32.ofInt_toInt x
theorem inR_toInt (x : Int32) : InR x.toInt := ⟨Int32.le_toInt x, Int.le_of_lt_add_one (Int32.toInt_lt x)⟩
theorem iI_add (a b : Int) : iI a + iI b = iI (a + b) := (Int32.ofInt_add a b).symm
theorem iI_sub (a b : Int) : iI a - iI b = iI (a - b) := (Int32.ofInt_sub a b).symm
theorem iI_mul (a b : Int) : iI a * iI b = iI (a * b) := (Int32.ofInt_mul a b).symm
theorem iI_lt {a b : Int} (ha : InR a) (hb : InR b) : iI a < iI b ↔ a < b := by rw [Int32.lt_iff_toInt_lt, iI_toInt ha, iI_toInt hb]
theorem iI_le {a b : Int} (ha : InR a) (hb : InR b) : iI a ≤ iI b ↔ a ≤ b := by rw [Int32.le_iff_toInt_le, iI_toInt ha, iI_toInt hb]
theorem iI_eq {a b : Int} (ha : InR a) (hb : InR b) : iI a = iI b ↔ a = b := by rw [← Int32.toInt_inj, iI_toInt ha, iI_toInt hb]
theorem iI_0 : (0 : Int32) = iI 0 := rfl
theorem iI_1 : (1 : Int32) = iI 1 := rfl
theorem inR_0 : InR 0 := ⟨by decide, by decide⟩
theorem iI_clamp {a : Int} (ha : InR a) : (iI a).toNatClampNeg = a.toNat := Int32.toNatClampNeg_ofInt_of_le ha.1 (Int.lt_of_le_of_lt ha.2 (by decide))
theorem iI_in {a : Int} {n : Nat} (h0 : 0 ≤ a) (h1 : a < n) (ha : a ≤ 2147483647) : vp_in (iI a) n := by
  have hR : InR a := ⟨by omega, ha⟩
  rintro (h | h)
  · rw [iI_0, iI_lt hR inR_0] at h; omega
  · rw [iI_clamp hR] at h; omega
theorem iI_nat (n : Nat) : nI n = iI n := (Int32.ofInt_eq_ofNat).symm
theorem iI_div {a b : Int} (ha : 0 ≤ a) (ha2 : a ≤ 2147483647) (hb : 0 < b) (hb2 : b ≤ 2147483647) : iI a / iI b = iI (a / b) := by
  have h1 : (iI a / iI b).toInt = a / b := by
    rw [Int32.toInt_div_of_ne_right _ _ (fun h => by
      have : (iI b).toInt = (-1 : Int32).toInt := by rw [h]
      rw [iI_toInt ⟨by omega, hb2⟩] at this
      have h9 : (-1 : Int32).toInt = -1 := by decide
      omega), iI_toInt ⟨by omega, ha2⟩, iI_toInt ⟨by omega, hb2⟩, Int.tdiv_eq_ediv_of_nonneg ha]
  rw [← iI_self (iI a / iI b), h1]
theorem iI_rem {a b : Int} (ha : 0 ≤ a) (ha2 : a ≤ 2147483647) (hb : 0 < b) (hb2 : b ≤ 2147483647) : iI a - iI a / iI b * iI b = iI (a % b) := by
  rw [iI_div ha ha2 hb hb2, iI_mul, iI_sub]
  congr 1
  rw [Int.emod_def, Int.mul_comm]
theorem iI_ne0 {b : Int} (hb : 0 < b) (hb2 : b ≤ 2147483647) : ¬ iI b = 0 := by
  rw [iI_0, iI_eq ⟨by omega, hb2⟩ inR_0]; omega
/-! longs -/
theorem lL_toInt {z : Int} (h : InL z) : (lL z).toInt = z := Int64.toInt_ofInt_of_le h.1 (Int.lt_of_le_of_lt h.2 (by decide))
theorem lL_add (a b : Int) : lL a + lL b = lL (a + b) := (Int64.ofInt_add a b).symm
theorem lL_lt {a b : Int} (ha : InL a) (hb : InL b) : lL a < lL b ↔ a < b := by rw [Int64.lt_iff_toInt_lt, lL_toInt ha, lL_toInt hb]
theorem lL_eq {a b : Int} (ha : InL a) (hb : InL b) : lL a = lL b ↔ a = b := by rw [← Int64.toInt_inj, lL_toInt ha, lL_toInt hb]
theorem iI_long {a : Int} (ha : InR a) : (iI a).toInt64 = lL a := by
  apply Int64.toInt_inj.mp
  rw [Int32.toInt_toInt64, iI_toInt ha, lL_toInt ⟨by have := ha.1; omega, by have := ha.2; omega⟩]
/-- what lcmp answers -/
def cmpZ (a b : Int) : Int := if b < a then 1 else if a = b then 0 else -1
theorem lL_cmp {a b : Int} (ha : InL a) (hb : InL b) : lg_cmp (lL a) (lL b) = iI (cmpZ a b) := by
  unfold lg_cmp cmpZ
  by_cases h : b < a
  · rw [if_pos ((lL_lt hb ha).mpr h), if_pos h]; rfl
  · rw [if_neg (fun z => h ((lL_lt hb ha).mp z)), if_neg h]
    by_cases h2 : a = b
    · rw [if_pos ((lL_eq ha hb).mpr h2), if_pos h2]; rfl
    · rw [if_neg (fun z => h2 ((lL_eq ha hb).mp z)), if_neg h2]; rfl
end
section
/-! ===== the judgement Ex: a method's walk in terms of places =====
A place is a number; Value.ref k in a local, on the stack or in a row is the place k: below scr a cell of the world, at the address base + k; scr is the script; scr + 1 + i the text i. -/
abbrev MM : Type := (Nat → Int → Int) × (Nat → Nat → Option Nat) × (Nat → Nat) × Nat × Int × Bool
abbrev OO : Type := (Option Value ⊕ Nat) × MM
abbrev LL : Type := List (Option Value)
/-- of the world: where classes and slots lie; the row classes; the script; the texts and their rows; the base -/
abbrev GG : Type := va_G × (ClassId × ClassId × ClassId) × (Nat × Nat × (Nat → Int32)) × (Nat → Nat) × (Nat → Nat) × (Nat → Nat)
def scr : Nat := 1000000
def adr (G : GG) (k : Nat) : Nat := if k < scr then G.2.2.2.2.2 k else if k = scr then G.2.2.1.1 else if k < scr + 1001 then G.2.2.2.1 (k - (scr + 1)) else G.2.2.2.2.1 (k - (scr + 1001))
def cv (G : GG) (v : Value) : Value := match v with
  | .ref k => .ref (adr G k)
  | v => v
def cvs (G : GG) (st : List Value) : List Value := st.map (cv G)
def cats (st : List Value) : Nat := (st.map fun v => v.category).sum
theorem cv_cat (G : GG) (v : Value) : (cv G v).category = v.category := by cases v <;> rfl
theorem cvs_cats (G : GG) (st : List Value) : ((cvs G st).map fun v => v.category).sum = cats st := by
  unfold cvs cats
  rw [List.map_map]
  congr 1
  exact List.map_congr_left fun v _ => cv_cat G v
/-- what a place is: 10 * class + 5 an object, 10 * length an int row, 10 * length + 2 a byte row, else a row of references -/
def fieldsO (G : GG) (σ : MM) (k c : Nat) : List Value := (List.range (nf c)).map fun j => if fk c j = 2 then va_rf ((σ.2.1 k j).map (adr G)) else .int (iI (σ.1 k j))
def cellO (G : GG) (σ : MM) (k : Nat) : va_E :=
  if σ.2.2.1 k % 10 = 5 then .inr (σ.2.2.1 k / 10, fieldsO G σ k (σ.2.2.1 k / 10))
  else if σ.2.2.1 k % 10 = 0 then .inl (G.2.1.1, σ.2.2.1 k / 10, .inl (fun j => iI (σ.1 k j)))
  else if σ.2.2.1 k % 10 = 2 then .inl (G.2.1.2.1, σ.2.2.1 k / 10, .inl (fun j => iI (σ.1 k j)))
  else .inl (G.2.1.2.2, σ.2.2.1 k / 10, .inr (.inr (.inr (.inr (fun j => (σ.2.1 k j).map (adr G))))))
def wsO (G : GG) (σ : MM) : va_W := (List.range σ.2.2.2.1).map fun k => (G.2.2.2.2.2 k, cellO G σ k)
def tysO (G : GG) : List (ClassId × FieldType) := [(G.2.1.1, .int), (G.2.1.2.1, .byte), (G.2.1.2.2, .object "MatchboxModem$Line")]
theorem wsO_get {G : GG} {σ : MM} {k : Nat} (h : k < σ.2.2.2.1) : (wsO G σ)[k]? = some (G.2.2.2.2.2 k, cellO G σ k) := by
  unfold wsO
  rw [List.getElem?_map, List.getElem?_range h]
  rfl
theorem wsO_out {G : GG} {σ : MM} {k : Nat} (h : σ.2.2.2.1 ≤ k) : (wsO G σ)[k]? = none := by
  unfold wsO
  rw [List.getElem?_map, List.getElem?_eq_none (by rw [List.length_range]; exact h)]
  rfl
theorem wsO_set {G : GG} {σ τ : MM} {k : Nat} {e : va_E} (h : k < σ.2.2.2.1) (hn : τ.2.2.2.1 = σ.2.2.2.1) (he : e = cellO G τ k) (ho : ∀ j, j ≠ k → j < σ.2.2.2.1 → cellO G τ j = cellO G σ j) : (wsO G σ).set k (G.2.2.2.2.2 k, e) = wsO G τ := by
  apply List.ext_getElem?
  intro j
  rw [List.getElem?_set]
  by_cases hj : k = j
  · subst hj
    have hl : k < (wsO G σ).length := by unfold wsO; rw [List.length_map, List.length_range]; exact h
    rw [if_pos rfl, if_pos hl, wsO_get (by rw [hn]; exact h), he]
  · rw [if_neg hj]
    by_cases hlt : j < σ.2.2.2.1
    · rw [wsO_get hlt, wsO_get (by rw [hn]; exact hlt), ho j (fun z => hj z.symm) hlt]
    · rw [wsO_out (Nat.le_of_not_lt hlt), wsO_out (by rw [hn]; exact Nat.le_of_not_lt hlt)]
theorem wsO_app {G : GG} {σ τ : MM} {e : va_E} (hn : τ.2.2.2.1 = σ.2.2.2.1 + 1) (he : e = cellO G τ σ.2.2.2.1) (ho : ∀ j, j < σ.2.2.2.1 → cellO G τ j = cellO G σ j) : wsO G σ ++ [(G.2.2.2.2.2 σ.2.2.2.1, e)] = wsO G τ := by
  unfold wsO
  rw [hn, List.range_succ, List.map_append, he]
  congr 1
  exact List.map_congr_left fun j hj => by rw [ho j (List.mem_range.mp hj)]
theorem adr_lt {G : GG} {k : Nat} (h : k < scr) : adr G k = G.2.2.2.2.2 k := if_pos h
theorem adr_scr {G : GG} : adr G scr = G.2.2.1.1 := by unfold adr; rw [if_neg (Nat.lt_irrefl _), if_pos rfl]
theorem adr_tx {G : GG} {i : Nat} (hi : i < 1000) : adr G (scr + 1 + i) = G.2.2.2.1 i := by unfold adr; rw [if_neg (by omega), if_neg (by omega), if_pos (by omega), Nat.add_sub_cancel_left]
/-- the bytes of a text -/
theorem adr_tb {G : GG} {i : Nat} : adr G (scr + 1001 + i) = G.2.2.2.2.1 i := by unfold adr; rw [if_neg (by omega), if_neg (by omega), if_neg (by omega), Nat.add_sub_cancel_left]
/-! locals -/
def LR (G : GG) (ls : Array Slot) (nL : Nat) (L : LL) : Prop := ls.size = nL ∧ lv_wf ls ∧ L.length = nL ∧ ∀ (i : Nat) (v : Value), L[i]? = some (some v) → ls[i]? = some (.val (cv G v))
def prs (G : GG) (L : LL) : List (Nat × Value) := L.zipIdx.filterMap fun q => q.1.map fun v => (q.2, cv G v)
theorem prs_mem {G : GG} {L : LL} {q : Nat × Value} : q ∈ prs G L ↔ ∃ v, L[q.1]? = some (some v) ∧ q.2 = cv G v := by
  unfold prs
  rw [List.mem_filterMap]
  constructor
  · rintro ⟨⟨x, i⟩, h1, h2⟩
    rw [List.mem_zipIdx_iff_getElem?] at h1
    cases x with
    | none => cases h2
    | some v =>
      have h3 : (i, cv G v) = q := Option.some.inj h2
      subst h3
      exact ⟨v, h1, rfl⟩
  · rintro ⟨v, h1, h2⟩
    refine ⟨(some v, q.1), List.mem_zipIdx_iff_getElem?.mpr h1, ?_⟩
    show some (q.1, cv G v) = some q
    rw [← h2]
theorem LR.has {G : GG} {ls : Array Slot} {nL : Nat} {L : LL} (h : LR G ls nL L) : lv_has ls nL (prs G L) := ⟨h.1, h.2.1, fun q hq => by
  obtain ⟨v, h1, h2⟩ := prs_mem.mp hq
  rw [h2]
  exact h.2.2.2 _ _ h1⟩
theorem LR.at {G : GG} {ls : Array Slot} {nL : Nat} {L : LL} (h : LR G ls nL L) {i : Nat} {v : Value} (hi : L[i]? = some (some v)) : ls[i]? = some (.val (cv G v)) := h.2.2.2 i v hi
theorem LR.of {G : GG} {ls : Array Slot} {nL : Nat} {L : LL} {lv : List (Nat × Value)} (h : lv_has ls nL lv) (hl : L.length = nL) (hs : ∀ (i : Nat) (v : Value), L[i]? = some (some v) → (i, cv G v) ∈ lv) : LR G ls nL L := ⟨h.1, h.2.1, hl, fun i v hi => h.2.2 _ (hs i v hi)⟩
def nc : Option Value → Bool
  | some (.long _) => false
  | some (.double _) => false
  | _ => true
/-- the local below i is none of two words -/
def ncA (L : LL) : Nat → Bool
  | 0 => true
  | j + 1 => match L[j]? with
    | some x => nc x
    | none => true
theorem nc_cat {v : Value} (h : nc (some v) = true) : ¬ v.category = 2 := by
  cases v <;> first | (intro z; cases z; done) | cases h
theorem LR.st1 {G : GG} {ls ls' : Array Slot} {nL i : Nat} {L : LL} {w : Option Value} {x : Value} (h : LR G ls nL L) (hw : ∀ v, w = some v → x = cv G v) (hi : ncA L i = true) (h' : lv_has ls' nL ((i, x) :: (prs G L).filter (fun q => !(q.1 == i) && !(q.1 + 1 == i && q.2.category == 2)))) : LR G ls' nL (L.set i w) := by
  refine LR.of h' (by rw [List.length_set]; exact h.2.2.1) fun j v hj => ?_
  rw [List.getElem?_set] at hj
  by_cases e : i = j
  · subst e
    rw [if_pos rfl] at hj
    split at hj
    · rw [← hw v (Option.some.inj hj)]
      exact List.mem_cons_self
    · cases hj
  · rw [if_neg e] at hj
    refine List.mem_cons_of_mem _ (List.mem_filter.mpr ⟨prs_mem.mpr ⟨v, hj, rfl⟩, ?_⟩)
    have e1 : (j == i) = false := by
      rw [beq_eq_false_iff_ne]
      exact fun z => e z.symm
    have e2 : (j + 1 == i && (cv G v).category == 2) = false := by
      by_cases e3 : j + 1 = i
      · subst e3
        have h4 : nc (some v) = true := by
          have h7 : (match L[j]? with | some x => nc x | none => true) = true := hi
          rw [hj] at h7
          exact h7
        have h5 : ¬ (cv G v).category = 2 := by rw [cv_cat]; exact nc_cat h4
        have h6 : ((cv G v).category == 2) = false := by rw [beq_eq_false_iff_ne]; exact h5
        rw [h6, Bool.and_false]
      · have h6 : (j + 1 == i) = false := by rw [beq_eq_false_iff_ne]; exact e3
        rw [h6, Bool.false_and]
    show (!(j == i) && !(j + 1 == i && (cv G v).category == 2)) = true
    rw [e1, e2]
    rfl
theorem LR.st2 {G : GG} {ls ls' : Array Slot} {nL i : Nat} {L : LL} {v0 : Value} (h : LR G ls nL L) (hi : ncA L i = true) (h' : lv_has ls' nL ((i, cv G v0) :: (prs G L).filter (fun q => !(q.1 == i) && (!(q.1 == i + 1) && !(q.1 + 1 == i && q.2.category == 2))))) : LR G ls' nL ((L.set i (some v0)).set (i + 1) none) := by
  refine LR.of h' (by rw [List.length_set, List.length_set]; exact h.2.2.1) fun j v hj => ?_
  rw [List.getElem?_set] at hj
  by_cases e0 : i + 1 = j
  · subst e0
    rw [if_pos rfl] at hj
    split at hj <;> cases hj
  rw [if_neg e0, List.getElem?_set] at hj
  by_cases e : i = j
  · subst e
    rw [if_pos rfl] at hj
    split at hj
    · have e9 : v0 = v := Option.some.inj (Option.some.inj hj)
      rw [e9]
      exact List.mem_cons_self
    · cases hj
  · rw [if_neg e] at hj
    refine List.mem_cons_of_mem _ (List.mem_filter.mpr ⟨prs_mem.mpr ⟨v, hj, rfl⟩, ?_⟩)
    have e1 : (j == i) = false := by
      rw [beq_eq_false_iff_ne]
      exact fun z => e z.symm
    have e7 : (j == i + 1) = false := by
      rw [beq_eq_false_iff_ne]
      exact fun z => e0 z.symm
    have e2 : (j + 1 == i && (cv G v).category == 2) = false := by
      by_cases e3 : j + 1 = i
      · subst e3
        have h4 : nc (some v) = true := by
          have h7 : (match L[j]? with | some x => nc x | none => true) = true := hi
          rw [hj] at h7
          exact h7
        have h5 : ¬ (cv G v).category = 2 := by rw [cv_cat]; exact nc_cat h4
        have h6 : ((cv G v).category == 2) = false := by rw [beq_eq_false_iff_ne]; exact h5
        rw [h6, Bool.and_false]
      · have h6 : (j + 1 == i) = false := by rw [beq_eq_false_iff_ne]; exact e3
        rw [h6, Bool.false_and]
    show (!(j == i) && (!(j == i + 1) && !(j + 1 == i && (cv G v).category == 2))) = true
    rw [e1, e7, e2]
    rfl
/-! what stays: classes, script, texts, statics, links -/
/-- words that aren't kept by themselves: castable, declares -/
def faL : List Cond := lw_tbl.filter (fun w => w.faceAtom && w.onTables)
theorem faW {s U : State} (hW : s.WarmedH U.vm) {w : Cond} (hw : w ∈ faL) (h : va_Nw w s) : va_Nw w U := by
  have h1 := (List.mem_filter.mp hw).2
  simp only [Bool.and_eq_true] at h1
  exact va_tabs h1.2 (rfl : (s.setVm U.vm).vm = U.vm) (Cond.faceAtom_setVm hW.alike w h1.1 h)
def ST (G : GG) (A : Nat → Prop) (U : State) (H : Heap) : Prop :=
  va_K G.1 vwCl (tysO G) U ∧ (va_X G.2.2.1.1 G.2.2.1.2.1 G.2.2.1.2.2 U H ∧ G.2.2.1.1 < H.size ∧ ¬ A G.2.2.1.1) ∧
  (∀ i : Nat, i < nTC → va_O "java/lang/String" (G.2.2.2.1 i) A U H ∧ va_OF "java/lang/String" "coder" "B" (.int 0) (G.2.2.2.1 i) A U H ∧ va_OF "java/lang/String" "value" "[B" (.ref (G.2.2.2.2.1 i)) (G.2.2.2.1 i) A U H ∧ va_T .byte (G.2.2.2.2.1 i) (ksLen i) (fun j => .int ((ksB i).getD j 0)) A U H) ∧
  (∀ i : Nat, i < nTX → vk_R (clsN (ksE i).1) (ksE i).2 (ksX i) (G.2.2.2.1 i) U) ∧
  (vx_Zq Bundle.tN "UNASSIGNED_STACK" Bundle.steD A U H ∧ vx_Zq Bundle.tN "SUPPRESSED_SENTINEL" Bundle.listD A U H) ∧
  va_Z "java/lang/String" "COMPACT_STRINGS" "Z" (.int 1) A U H ∧
  (∀ w ∈ neL, va_Nw w U) ∧
  (∀ a b : Nat, a < 3 → b < 3 → a ≠ b → va_Nc (exc a) (exc b) U) ∧ (∀ w ∈ faL, va_Nw w U) ∧ va_AO "MatchboxModem$Line" U ∧ va_Zq "jdk/internal/util/Preconditions" "SIOOBE_FORMATTER" "Ljava/util/function/BiFunction;" A U H
theorem ST.narrow {G : GG} {A B : Nat → Prop} {U : State} {H : Heap} (h : ST G A U H) (hAB : ∀ q, B q → A q) : ST G B U H :=
  ⟨h.1, ⟨h.2.1.1, h.2.1.2.1, fun z => h.2.1.2.2 (hAB _ z)⟩, fun i hi => ⟨(h.2.2.1 i hi).1.narrow hAB, (h.2.2.1 i hi).2.1.narrow hAB, (h.2.2.1 i hi).2.2.1.narrow hAB, (h.2.2.1 i hi).2.2.2.narrow hAB⟩, h.2.2.2.1,
    ⟨h.2.2.2.2.1.1.narrow hAB, h.2.2.2.2.1.2.narrow hAB⟩, h.2.2.2.2.2.1.narrow hAB, h.2.2.2.2.2.2.1, h.2.2.2.2.2.2.2.1, h.2.2.2.2.2.2.2.2.1, h.2.2.2.2.2.2.2.2.2.1, va_Zq.narrow h.2.2.2.2.2.2.2.2.2.2 hAB⟩
theorem ST.kept {G : GG} {A : Nat → Prop} {U : State} {H H1 : Heap} (h : ST G A U H) (hz : H.size ≤ H1.size) (hq : ∀ a : Nat, a < H.size → ¬ A a → H1[a]? = H[a]?) : ST G A U H1 :=
  ⟨h.1, ⟨h.2.1.1.kept (hq _ h.2.1.2.1 h.2.1.2.2), Nat.lt_of_lt_of_le h.2.1.2.1 hz, h.2.1.2.2⟩, fun i hi => ⟨(h.2.2.1 i hi).1.kept hq, (h.2.2.1 i hi).2.1.kept hq, (h.2.2.1 i hi).2.2.1.kept hq, (h.2.2.1 i hi).2.2.2.kept hq⟩, h.2.2.2.1,
    ⟨h.2.2.2.2.1.1.kept hq, h.2.2.2.2.1.2.kept hq⟩, h.2.2.2.2.2.1.kept hq, h.2.2.2.2.2.2.1, h.2.2.2.2.2.2.2.1, h.2.2.2.2.2.2.2.2.1, h.2.2.2.2.2.2.2.2.2.1, va_Zq.kept h.2.2.2.2.2.2.2.2.2.2 hq⟩
theorem neW : ∀ w ∈ neL, ∃ (o : String) (i : Nat) (x : MethodName) (t : String), w = .methodLinkNest o i x t := by
  intro w hw
  simp only [neL, List.mem_cons, List.not_mem_nil, or_false] at hw
  rcases hw with rfl | rfl | rfl | rfl | rfl | rfl | rfl | rfl | rfl | rfl <;> exact ⟨_, _, _, _, rfl⟩
theorem ST.warm {G : GG} {A : Nat → Prop} {s U : State} {H : Heap} (h : ST G A s H) (hW : s.WarmedH U.vm) : ST G A U H :=
  ⟨va_K.moved hW.alike h.1, ⟨va_X.moved hW.alike h.2.1.1, h.2.1.2⟩, fun i hi => ⟨va_O.moved hW.alike (h.2.2.1 i hi).1, va_OF.moved hW.alike (h.2.2.1 i hi).2.1, va_OF.moved hW.alike (h.2.2.1 i hi).2.2.1, va_T.moved hW.alike (h.2.2.1 i hi).2.2.2⟩,
    fun i hi => (h.2.2.2.1 i hi).warm hW, ⟨vx_Zq.moved hW.alike h.2.2.2.2.1.1, vx_Zq.moved hW.alike h.2.2.2.2.1.2⟩, va_Z.moved hW.alike h.2.2.2.2.2.1,
    fun w hw => by obtain ⟨o, i, x, t, rfl⟩ := neW w hw; exact va_Nw.warmM hW (h.2.2.2.2.2.2.1 _ hw), fun a b h1 h2 h3 => va_Nc.moved hW.alike (h.2.2.2.2.2.2.2.1 a b h1 h2 h3), fun w hw => faW hW hw (h.2.2.2.2.2.2.2.2.1 w hw), va_AO.moved hW.alike h.2.2.2.2.2.2.2.2.2.1, va_Zq.moved hW.alike h.2.2.2.2.2.2.2.2.2.2⟩
end
section
/-! ===== the judgement itself; contracts ===== -/
/-- the launch; the script's length and what stands in it -/
abbrev LX : Type := Launch × Nat × (Nat → Int)
def scrOK (G : GG) (l : LX) : Prop := G.2.2.1.2.1 = l.2.1 ∧ ∀ j, j < l.2.1 → G.2.2.1.2.2 j = iI (l.2.2 j)
/-- what stands over a method's whole walk -/
def AMB (l : LX) (y : Nat) (G : GG) (p : Program) (R : Room) (s : State) (m : MethodId) (args : Array Value) (meth : Method) (c : Code) (A : Nat → Prop) : Prop :=
  (l.1.stackTraces = false ∧ scrOK G l) ∧ p.tables.exec = Jvm.exec ∧ c.code = cdN y ∧ c.maxLocals = mlN y ∧ meth.sig.returnType = rtN y ∧ s.vm.findClass (clsN (owN y)) = some m.cls ∧ meth.locks = false ∧ (inN y = true → meth.name = "<init>") ∧
  (∀ w ∈ T0, w.before args s = true) ∧ c.exceptionTable.toList = tableOf (hhN y) ∧ R.frames = htN y ∧ R.locals = loN y ∧ (∀ q, s.heap.size ≤ q → A q) ∧ ST G A s s.heap
/-- the world in the heap H -/
def WOK (G : GG) (A : Nat → Prop) (s : State) (H : Heap) (locs : List Loc) (σ : MM) : Prop :=
  σ.2.2.2.1 ≤ scr ∧ va_P G.1 vwCl (wsO G σ) H ∧ va_D A (wsO G σ) ∧ va_S A s.heap H locs
/-- from place n on the addresses follow each other -/
def CS (G : GG) (n : Nat) : Prop := ∀ j : Nat, G.2.2.2.2.2 (n + j) = G.2.2.2.2.2 n + j
/-- place n's address is a heap's end: that of sz cells, or one behind another place's -/
def AJ (G : GG) (n sz : Nat) : Prop := G.2.2.2.2.2 n ≤ sz ∨ ∃ k : Nat, k < n ∧ G.2.2.2.2.2 k + 1 = G.2.2.2.2.2 n
def FR (G : GG) (s : State) (σ : MM) (cells : Nat) : Prop := σ.2.2.2.2.2 = true → s.heap.size + cells = G.2.2.2.2.2 σ.2.2.2.1 ∧ CS G σ.2.2.2.1 ∧ AJ G σ.2.2.2.1 s.heap.size
theorem CS.suc {G : GG} {n : Nat} (h : CS G n) : G.2.2.2.2.2 (n + 1) = G.2.2.2.2.2 n + 1 ∧ CS G (n + 1) := ⟨h 1, fun j => by rw [show n + 1 + j = n + (1 + j) from by omega, h (1 + j), h 1]; omega⟩
theorem AJ.suc {G : GG} {n sz : Nat} (h : CS G n) : AJ G (n + 1) sz := Or.inr ⟨n, Nat.lt_succ_self n, (h 1).symm⟩
/-- .. behind a call -/
theorem AJ.over {G : GG} {n n' a b : Nat} (hn : CS G n) (hn' : CS G n') (hb : b = G.2.2.2.2.2 n) (h : AJ G n a) (h' : AJ G n' b) (hle : b ≤ G.2.2.2.2.2 n') : AJ G n' a := by
  rcases h' with h' | h'
  · have e : G.2.2.2.2.2 n' = G.2.2.2.2.2 n := by omega
    have e2 : n' = n := by
      by_cases q : n ≤ n'
      · have := hn (n' - n)
        rw [Nat.add_sub_of_le q] at this
        omega
      · have := hn' (n - n')
        rw [Nat.add_sub_of_le (by omega)] at this
        omega
    rw [e2]
    exact h
  · exact Or.inr h'
/-- a return at pc with the answer v -/
def RetI (y pc : Nat) (v : Option Value) : Prop :=
  (decode (cdN y) pc = .ok (.ireturn, 1) ∧ ∃ x : Int32, v = some (.int x) ∧ (rtN y = some .int ∨ ∃ ty : FieldType, rtN y = some ty ∧ narrow ty (.int x) = .int x)) ∨
  (decode (cdN y) pc = .ok (.freturn, 1) ∧ ∃ x : UInt32, v = some (.float x) ∧ rtN y = some .float) ∨
  (decode (cdN y) pc = .ok (.dreturn, 1) ∧ ∃ x : UInt64, v = some (.double x) ∧ rtN y = some .double) ∨
  (decode (cdN y) pc = .ok (.return_, 1) ∧ v = none ∧ rtN y = none) ∨
  (decode (cdN y) pc = .ok (.lreturn, 1) ∧ ∃ x : Int64, v = some (.long x) ∧ rtN y = some .long) ∨
  (decode (cdN y) pc = .ok (.areturn, 1) ∧ ∃ (x : Nat) (ty : FieldType), v = some (.ref x) ∧ rtN y = some ty ∧ ((∃ n, ty = .object n) ∨ ∃ t, ty = .array t))
/-- what the end of the walk is good for -/
def FIN (l : LX) (y : Nat) (G : GG) (p : Program) (e : Env) (R : Room) (s : State) (m : MethodId) (args : Array Value) (below : List Frame) (meth : Method) (c : Code) (A : Nat → Prop) (CE SE : Nat) (Qf : State → Prop) (Q : OO → Prop) : Prop :=
  (∀ (H : Heap) (locs : List Loc) (cells slots pc : Nat) (ls : Array Slot) (v : Option Value) (σ : MM), cells ≤ CE → slots ≤ SE → WOK G A s H locs σ → FR G s σ CE → RetI y pc v → Q (.inl v, σ) → W p l.1 e R s m args below meth c H locs cells slots Qf (F0 m pc ls (cvs G v.toList))) ∧
  (∀ (H : Heap) (locs : List Loc) (cells slots pc : Nat) (ls : Array Slot) (rest : List Value) (σ : MM) (E : Nat) (r : Nat × Nat × Nat × Bool × Nat), xtN y pc = some (E, r) → ls.size = mlN y → (rest.map fun v => v.category).sum + 82 ≤ loN y → 6 ≤ htN y → hhN y = [] → cells + 1 ≤ CE → slots + 6 ≤ SE → WOK G A s H locs σ → σ.2.2.2.2.2 = false → Q (.inr E, σ) → W p l.1 e R s m args below meth c H locs cells slots Qf (F0 m pc ls rest)) ∧
  (∀ (H : Heap) (locs : List Loc) (cells slots pc : Nat) (ls : Array Slot) (rest : List Value) (σ : MM) (E : Nat) (q : Addr) (ce : Cell), hhN y = [] → cells ≤ CE → slots ≤ SE → WOK G A s H locs σ → σ.2.2.2.2.2 = false → Q (.inr E, σ) → H[q]? = some ce → ce.vm = .none → s.vm.findClass (exc E) = some ce.cls → vx_W p l.1 e R s m args below meth c H locs cells slots Qf (F0 m pc ls rest) q)
/-- from pc, with locals L, stack st and memory σ, the method comes to an end with Q; at most k cells, n slots are made -/
def Ex (l : LX) (y k n pc : Nat) (L : LL) (st : List Value) (σ : MM) (Q : OO → Prop) : Prop :=
  ∀ (G : GG) (p : Program) (e : Env) (R : Room) (s : State) (m : MethodId) (args : Array Value) (below : List Frame) (meth : Method) (c : Code) (A : Nat → Prop) (CE SE : Nat) (Qf : State → Prop),
    AMB l y G p R s m args meth c A → CE ≤ R.cells → SE ≤ R.slots → FIN l y G p e R s m args below meth c A CE SE Qf Q →
    ∀ (H : Heap) (locs : List Loc) (cells slots : Nat) (ls : Array Slot), cells + k = CE → slots + n = SE → LR G ls (mlN y) L → WOK G A s H locs σ → FR G s σ cells →
      W p l.1 e R s m args below meth c H locs cells slots Qf (F0 m pc ls (cvs G st))
/-! the contract of a method -/
def PW (G : GG) (σ : MM) (sz : Nat) : State → Prop := fun U => U.heap.size = sz ∧ σ.2.2.2.1 ≤ scr ∧ va_P G.1 vwCl (wsO G σ) U.heap ∧ va_D (fun _ => True) (wsO G σ) ∧ ST G (va_A (wsO G σ) sz) U U.heap
def EW (G : GG) (σ τ : MM) (sz k : Nat) (t : State) : Prop := τ.2.2.2.1 ≤ scr ∧ va_P G.1 vwCl (wsO G τ) t.heap ∧ va_D (va_A (wsO G σ) sz) (wsO G τ) ∧ (τ.2.2.2.2.2 = true → sz + k = G.2.2.2.2.2 τ.2.2.2.1 ∧ CS G τ.2.2.2.1 ∧ AJ G τ.2.2.2.1 sz)
def QW (G : GG) (σ : MM) (sz k : Nat) (Q : OO → Prop) : Array Value → State → Outcome → State → Prop := fun _ st oc t =>
  (∃ (v : Option Value) (τ : MM), oc = .returned (v.map (cv G)) ∧ Q (.inl v, τ) ∧ EW G σ τ sz k t) ∧ va_F (va_A (wsO G σ) sz) st t
def XW (G : GG) (σ : MM) (sz k : Nat) (Q : OO → Prop) : String → State → State → Prop := fun E st t =>
  (∃ (e : Nat) (τ : MM), E = exc e ∧ τ.2.2.2.2.2 = false ∧ Q (.inr e, τ) ∧ EW G σ τ sz k t) ∧ va_F (va_A (wsO G σ) sz) st t
def CT (l : LX) (y : Nat) (as : List Value) (σ : MM) (k n : Nat) (Q : OO → Prop) : Prop :=
  ∀ (G : GG) (sz : Nat), (σ.2.2.2.2.2 = true → sz = G.2.2.2.2.2 σ.2.2.2.1 ∧ CS G σ.2.2.2.1) → scrOK G l →
    vx_Met l.1 (ynN y) (cdW y :: T0) { frames := htN y, cells := k, slots := n, locals := loN y } (va_Pc (cvs G as) (PW G σ sz)) (QW G σ sz k Q) (XW G σ sz k Q) k n (va_A (wsO G σ) sz)
theorem cdW_plain {y : Nat} (h : hhN y = []) : cdW y = .code (ynN y) (cdN y) (mlN y) (rtN y) := if_pos h
theorem cdW_with {y : Nat} (h : ¬ hhN y = []) : cdW y = .codeWith (ynN y) (cdN y) (mlN y) (rtN y) (hhN y) := if_neg h
theorem mtPlain {y : Nat} (h : y < 333) : plainName (ynN y).cls = true := by
  have := mtOk h
  simp only [mtC, Bool.and_eq_true] at this
  exact this.1.1.1
theorem mtPar {y : Nat} (h : y < 333) : (parseMethodDescriptor (ynN y).desc).map (fun d => d.parameters.length) = some (naN y) := by
  have := mtOk h
  simp only [mtC, Bool.and_eq_true, decide_eq_true_eq] at this
  exact this.1.1.2
theorem mtCls {y : Nat} (h : y < 333) : (ynN y).cls = clsN (owN y) := by
  have := mtOk h
  simp only [mtC, Bool.and_eq_true, decide_eq_true_eq] at this
  exact this.1.2
theorem mtNo {y : Nat} (h : y < 333) : (ynN y).cls ≠ "java/lang/invoke/MethodHandle" ∧ (ynN y).cls ≠ "java/lang/invoke/VarHandle" := by
  have := mtOk h
  simp only [mtC, Bool.and_eq_true, decide_eq_true_eq] at this
  exact this.2
/-! the words of a throw -/
def exUp : List String := ["java/lang/RuntimeException", "java/lang/Exception"]
def exIc (e : Nat) : Nat := [107, 97, 361].getD e 0
def exIk (e : Nat) : Nat := [103, 93, 357].getD e 0
def exW (e : Nat) : List Cond := .classLink "MatchboxModem" (exIk e) (exc e) :: .initialized (exc e) :: vx_atS "MatchboxModem" (exIc e) (exc e) exUp
set_option maxRecDepth 100000 in
theorem exW0 : (List.range 3).all (fun e => (exW e).all (fun w => lw_tbl.any (fun v => decide (v = w)) && (goodWord w || (w.faceAtom && w.onTables)) && vx_ot w)) = true := by decide +kernel
theorem exWt {e : Nat} (he : e < 3) {w : Cond} (hw : w ∈ exW e) : (w ∈ T0 ∨ w ∈ faL) ∧ vx_ot w = true := by
  have h := List.all_eq_true.mp (List.all_eq_true.mp exW0 e (List.mem_range.mpr he)) w hw
  simp only [Bool.and_eq_true, Bool.or_eq_true, List.any_eq_true, decide_eq_true_eq] at h
  obtain ⟨⟨⟨v, hv, rfl⟩, h2⟩, h3⟩ := h
  refine ⟨?_, h3⟩
  rcases h2 with h2 | h2
  · exact Or.inl (List.mem_filter.mpr ⟨hv, h2⟩)
  · exact Or.inr (List.mem_filter.mpr ⟨hv, by rw [h2.1, h2.2]; rfl⟩)
theorem xtOk0 : xtL.all (fun e => decide (e.1.1 < 332) && decide (e.2.1 < 3) && decide (owN e.1.1 = 9) && decide (e.2.2.1 = exIk e.2.1) && decide (e.2.2.2.2.1 = exIc e.2.1) && decide (e.2.2.2.2.2.2 < nTX) && decide (ksE e.2.2.2.2.2.2 = (9, e.2.2.2.1)) &&
  decide (decode (cdN e.1.1) e.1.2 = .ok (.new e.2.2.1, 3)) && decide (decode (cdN e.1.1) (e.1.2 + 3) = .ok (.dup, 1)) &&
  (match e.2.2.2.2.2.1 with
  | false => decide (decode (cdN e.1.1) (e.1.2 + 4) = .ok (.ldc e.2.2.2.1, 2)) && decide (decode (cdN e.1.1) (e.1.2 + 6) = .ok (.invokespecial e.2.2.2.2.1, 3)) && decide (decode (cdN e.1.1) (e.1.2 + 9) = .ok (.athrow, 1))
  | true => decide (decode (cdN e.1.1) (e.1.2 + 4) = .ok (.ldc_w e.2.2.2.1, 3)) && decide (decode (cdN e.1.1) (e.1.2 + 7) = .ok (.invokespecial e.2.2.2.2.1, 3)) && decide (decode (cdN e.1.1) (e.1.2 + 10) = .ok (.athrow, 1)))) = true := by decide +kernel
theorem clsN9 : clsN 9 = "MatchboxModem" := rfl
set_option maxHeartbeats 4000000 in
/-- a throw of the method's own, as a walk over the machine -/
theorem ex_thr {l : LX} {y : Nat} {G : GG} {p : Program} {e : Env} {R : Room} {s : State} {m : MethodId} {args : Array Value} {below : List Frame} {meth : Method} {c : Code} {A : Nat → Prop} {Qc : Array Value → State → Outcome → State → Prop} {XC : String → State → State → Prop} {mc ms : Nat} {free : Addr → Prop}
    (hA : AMB l y G p R s m args meth c A) {H : Heap} {locs : List Loc} {cells slots pc : Nat} {ls : Array Slot} {rest : List Value} {E : Nat} {r : Nat × Nat × Nat × Bool × Nat} (hxt : xtN y pc = some (E, r)) (hls : ls.size = mlN y) (hcat : (rest.map fun v => v.category).sum + 82 ≤ loN y) (hht : 6 ≤ htN y) (hhh : hhN y = [])
    (hRc : mc ≤ R.cells) (hRs : ms ≤ R.slots) (hc : cells + 1 ≤ mc) (hs : slots + 6 ≤ ms) (hS : va_S A s.heap H locs) (hf : ∀ z ∈ locs, free z.base)
    (hX : ∀ t : State, s.vm.Alike t.vm → H.size ≤ t.heap.size → (∀ q : Nat, q < H.size → t.heap[q]? = H[q]?) → XC (exc E) s t) :
    W p l.1 e R s m args below meth c H locs cells slots (vx_MQ below Qc XC args s mc ms free) (F0 m pc ls rest) := by
  obtain ⟨hfl, hx, hb, hml, hr, hown, hlocks, hin, hts, htab, hRf, hRl, hAA, hST⟩ := hA
  unfold xtN at hxt
  cases hfd : xtL.find? (fun e => e.1.1 == y && e.1.2 == pc) with
  | none => rw [hfd] at hxt; cases hxt
  | some f =>
    rw [hfd] at hxt
    have h2 : f.2 = (E, r) := Option.some.inj hxt
    have h3 := List.find?_some hfd
    simp only [Bool.and_eq_true, beq_iff_eq] at h3
    have h4 := List.all_eq_true.mp xtOk0 f (List.mem_of_find?_eq_some hfd)
    obtain ⟨⟨a, b⟩, g⟩ := f
    obtain ⟨rfl, rfl⟩ := h3
    subst h2
    obtain ⟨ik, is, ic, wd, tn⟩ := r
    simp only [Bool.and_eq_true, decide_eq_true_eq] at h4
    obtain ⟨⟨⟨⟨⟨⟨⟨⟨⟨hy, hE⟩, h9⟩, hik⟩, hic⟩, htn⟩, hks⟩, d0⟩, d3⟩, h5⟩ := h4
    have hown9 : s.vm.findClass "MatchboxModem" = some m.cls := by
      rw [h9, clsN9] at hown
      exact hown
    have hwd : ∀ w ∈ exW E, w.before args s = true := fun w hw => by
      rcases (exWt hE hw).1 with h | h
      · exact hts w h
      · have h7 := (List.mem_filter.mp h).2
        simp only [Bool.and_eq_true] at h7
        exact va_Nw.use h7.2 (hST.2.2.2.2.2.2.2.2.1 w h)
    have hot : ∀ w ∈ exW E, vx_ot w = true := fun w hw => (exWt hE hw).2
    have hstr : vk_R "MatchboxModem" is (ksX tn) (G.2.2.2.1 tn) s := by
      have := hST.2.2.2.1 tn htn
      rw [hks] at this
      exact this
    have hcls : Bundle.fit (exc E) = true := by
      have : E = 0 ∨ E = 1 ∨ E = 2 := by omega
      rcases this with rfl | rfl | rfl <;> decide
    have hnm : ∀ n ∈ exUp, Bundle.fit n = true := by decide
    have hno : ∀ q, ∀ x ∈ c.exceptionTable.toList, covers x q = false := fun q x hx9 => by
      rw [htab, hhh] at hx9
      cases hx9
    subst hik; subst hic
    have hU := hST.2.2.2.2.1.1
    have hN := hST.2.2.2.2.1.2
    cases wd with
    | false =>
      simp only [Bool.and_eq_true, decide_eq_true_eq] at h5
      obtain ⟨⟨d4, d6⟩, d9⟩ := h5
      exact vx_throwS (names := exUp) (A := A) hx hb hfl.1 hown9 hcls hnm (hwd _ List.mem_cons_self) (hwd _ (List.mem_cons_of_mem _ List.mem_cons_self)) hstr (fun w hw => hwd w (List.mem_cons_of_mem _ (List.mem_cons_of_mem _ hw))) hot hU hN hS (by rw [hml]; exact hls) d0 d3 d4 d6 d9 (hno _)
        (by rw [hRf]; exact Nat.lt_of_lt_of_le (by decide) hht) (by rw [hRl]; exact Nat.le_trans (Nat.le_of_eq (by rfl)) hcat) (Nat.le_trans hc hRc) (Nat.le_trans hs hRs) hlocks hX hf hc hs
    | true =>
      simp only [Bool.and_eq_true, decide_eq_true_eq] at h5
      obtain ⟨⟨d4, d7⟩, d10⟩ := h5
      exact vx_throwSW (names := exUp) (A := A) hx hb hfl.1 hown9 hcls hnm (hwd _ List.mem_cons_self) (hwd _ (List.mem_cons_of_mem _ List.mem_cons_self)) hstr (fun w hw => hwd w (List.mem_cons_of_mem _ (List.mem_cons_of_mem _ hw))) hot hU hN hS (by rw [hml]; exact hls) d0 d3 d4 d7 d10 (hno _)
        (by rw [hRf]; exact Nat.lt_of_lt_of_le (by decide) hht) (by rw [hRl]; exact Nat.le_trans (Nat.le_of_eq (by rfl)) hcat) (Nat.le_trans hc hRc) (Nat.le_trans hs hRs) hlocks hX hf hc hs
/-! a contract out of a walk -/
theorem WOK.end {G : GG} {A : Nat → Prop} {s t : State} {H : Heap} {locs : List Loc} {σ τ : MM} {sz k : Nat} (hA : A = va_A (wsO G σ) sz) (hsz : s.heap.size = sz) (h : WOK G A s H locs τ) (hf : FR G s τ k) (ht : t.heap = H) : EW G σ τ sz k t := by
  subst hA; subst hsz
  exact ⟨h.1, by rw [ht]; exact h.2.1, h.2.2.1, hf⟩
theorem narrow01 {x : Int32} (h : x = 0 ∨ x = 1) : narrow .boolean (.int x) = .int x := by
  rcases h with rfl | rfl <;> decide
set_option maxHeartbeats 4000000 in
theorem fin_of {l : LX} {y : Nat} {G : GG} {p : Program} {e : Env} {R : Room} {s : State} {m : MethodId} {args : Array Value} {below : List Frame} {meth : Method} {c : Code} {σ : MM} {k n sz : Nat} {Q : OO → Prop} (hsz : s.heap.size = sz)
    (hA : AMB l y G p R s m args meth c (va_A (wsO G σ) sz)) (hRc : k ≤ R.cells) (hRs : n ≤ R.slots) : FIN l y G p e R s m args below meth c (va_A (wsO G σ) sz) k n (vx_MQ below (QW G σ sz k Q) (XW G σ sz k Q) args s k n (va_A (wsO G σ) sz)) Q := by
  have hA0 := hA
  obtain ⟨hfl, hx, hb, hml, hr, hown, hlocks, hin, hts, htab, hRf, hRl, hAA, hST⟩ := hA
  refine ⟨?_, ?_, ?_⟩
  · intro H locs cells slots pc ls v τ hc hs hW hF hI hQ
    refine vx_ret ?_
    refine W.widen hc hs ?_
    have hq : ∀ t : State, t.heap = H → s.WarmedH t.vm → QW G σ sz k Q args s (.returned (v.map (cv G))) t := fun t ht _ => ⟨⟨v, τ, rfl, hQ, WOK.end rfl hsz hW hF ht⟩, hW.2.2.2.F ht⟩
    rcases hI with ⟨hd, x, rfl, h1 | ⟨ty, h1, h2⟩⟩ | ⟨hd, x, rfl, h1⟩ | ⟨hd, x, rfl, h1⟩ | ⟨hd, rfl, h1⟩ | ⟨hd, x, rfl, h1⟩ | ⟨hd, x, ty, rfl, h1, h2⟩
    · exact W.iret hx hb (hr.trans h1) hq hW.2.2.2.2.2 hd hlocks
    · exact W.zret hx hb (hr.trans h1) h2 hq hW.2.2.2.2.2 hd hlocks
    · exact W.fret hx hb (hr.trans h1) hq hW.2.2.2.2.2 hd hlocks
    · exact W.dret hx hb (hr.trans h1) hq hW.2.2.2.2.2 hd hlocks
    · exact W.vret hx hb (hr.trans h1) hq hW.2.2.2.2.2 hd hlocks
    · exact W.lret hx hb (hr.trans h1) hq hW.2.2.2.2.2 hd hlocks
    · exact W.aret hx hb (hr.trans h1) h2 (Or.inr ⟨_, rfl⟩) hq hW.2.2.2.2.2 hd hlocks
  · intro H locs cells slots pc ls rest τ E r hxt hls hcat hht hhh hc hs hW hfr hQ
    refine ex_thr hA0 hxt hls hcat hht hhh hRc hRs hc hs hW.2.2.2 hW.2.2.2.2.2 fun t hvm hz hk => ?_
    have hP : va_P G.1 vwCl (wsO G τ) t.heap := va_P.kept hW.2.1 fun k q hq => hk q.1 (hW.2.1 k q hq).lt
    refine ⟨⟨E, τ, rfl, hfr, hQ, hW.1, hP, hW.2.2.1, fun z => by rw [hfr] at z; cases z⟩, Nat.le_trans hW.2.2.2.1 hz, fun q h1 h2 => ?_⟩
    rw [hk q (Nat.lt_of_lt_of_le h1 hW.2.2.2.1)]
    exact hW.2.2.2.2.1 q h1 h2
  · intro H locs cells slots pc ls rest τ E q ce hhh hc hs hW hfr hQ hce hv hcl
    have hno : ∀ x ∈ c.exceptionTable.toList, covers x pc = false := fun x hx9 => by
      rw [htab, hhh] at hx9
      cases hx9
    exact vx_out hno hlocks hce hv hcl (fun t ht _ => ⟨⟨E, τ, rfl, hfr, hQ, WOK.end rfl hsz hW (fun z => by rw [hfr] at z; cases z) ht⟩, hW.2.2.2.F ht⟩) hW.2.2.2.2.2 hc hs
theorem LR.entry {G : GG} {as : List Value} {n : Nat} {L : LL} (h : (lg_sl (cvs G as)).length ≤ n) (hl : L.length = n) (hs : ∀ (i : Nat) (v : Value), L[i]? = some (some v) → (i, cv G v) ∈ lv_args 0 (cvs G as)) : LR G ((lg_sl (cvs G as) ++ List.replicate (n - (lg_sl (cvs G as)).length) Slot.unset).toArray) n L := LR.of (lv_entry (cvs G as) h) hl hs
/-- the locals at a method's entry -/
def enL : List Value → LL
  | [] => []
  | v :: r => if v.category = 2 then some v :: none :: enL r else some v :: enL r
def en (y : Nat) (as : List Value) : LL := enL as ++ List.replicate (mlN y - (enL as).length) none
theorem enL_len (G : GG) : ∀ as : List Value, (lg_sl (cvs G as)).length = (enL as).length := by
  intro as
  induction as with
  | nil => rfl
  | cons v r ih =>
    have e : cvs G (v :: r) = cv G v :: cvs G r := rfl
    have e2 : lg_sl (cv G v :: cvs G r) = (if (cv G v).category = 2 then [.val (cv G v), .second] else [.val (cv G v)]) ++ lg_sl (cvs G r) := rfl
    rw [e, e2, List.length_append, ih]
    show _ = (if v.category = 2 then some v :: none :: enL r else some v :: enL r).length
    by_cases hc : v.category = 2
    · rw [if_pos ((cv_cat G v).trans hc), if_pos hc]
      simp only [List.length_cons, List.length_nil]
      omega
    · rw [if_neg (fun z => hc ((cv_cat G v).symm.trans z)), if_neg hc]
      simp only [List.length_cons, List.length_nil]
      omega
theorem enL_mem (G : GG) : ∀ (as : List Value) (j i : Nat) (v : Value), (enL as)[i]? = some (some v) → (j + i, cv G v) ∈ lv_args j (cvs G as) := by
  intro as
  induction as with
  | nil => intro j i v h; cases h
  | cons w r ih =>
    intro j i v h
    have e : cvs G (w :: r) = cv G w :: cvs G r := rfl
    rw [e]
    unfold enL at h
    unfold lv_args
    by_cases hc : w.category = 2
    · rw [if_pos hc] at h
      rw [if_pos ((cv_cat G w).trans hc)]
      match i, h with
      | 0, h =>
        have : w = v := Option.some.inj (Option.some.inj h)
        subst this
        exact List.mem_cons_self
      | 1, h => cases h
      | i + 2, h =>
        have := ih (j + 2) i v h
        rw [show j + (i + 2) = j + 2 + i from by omega]
        exact List.mem_cons_of_mem _ this
    · rw [if_neg hc] at h
      rw [if_neg (fun z => hc ((cv_cat G w).symm.trans z))]
      match i, h with
      | 0, h =>
        have : w = v := Option.some.inj (Option.some.inj h)
        subst this
        exact List.mem_cons_self
      | i + 1, h =>
        have := ih (j + 1) i v h
        rw [show j + (i + 1) = j + 1 + i from by omega]
        exact List.mem_cons_of_mem _ this
theorem LR.start {G : GG} {y : Nat} {as : List Value} (h : (enL as).length ≤ mlN y) : LR G ((lg_sl (cvs G as) ++ List.replicate (mlN y - (lg_sl (cvs G as)).length) Slot.unset).toArray) (mlN y) (en y as) := by
  refine LR.entry (by rw [enL_len]; exact h) (by unfold en; rw [List.length_append, List.length_replicate]; omega) fun i v hi => ?_
  unfold en at hi
  by_cases hl : i < (enL as).length
  · rw [List.getElem?_append_left hl] at hi
    have := enL_mem G as 0 i v hi
    rw [Nat.zero_add] at this
    exact this
  · rw [List.getElem?_append_right (Nat.le_of_not_lt hl), List.getElem?_replicate] at hi
    split at hi <;> cases hi
end
section
/-! contracts out of walks; calls -/
theorem va_A_out {ws : va_W} {sz q : Nat} (h : sz ≤ q) : va_A ws sz q := Or.inr h
theorem amb_of {l : LX} {y : Nat} {G : GG} {p : Program} {R : Room} {e : Env} {s s₁ : State} {m : MethodId} {args : Array Value} {below : List Frame} {meth : Method} {c : Code} {S : Spec} {σ : MM} {sz : Nat} (hy : y < 332) (hl : l.1.stackTraces = false) (hsc : scrOK G l)
    (B : BodyLoose p l.1 (ynN y) S (cdN y) (mlN y) (rtN y) e s m args below meth c s₁) (hml : c.maxLocals = mlN y) (hT : ∀ w ∈ T0, w.before args s = true) (htab : c.exceptionTable.toList = tableOf (hhN y)) (hin : inN y = true → (ynN y).name = "<init>")
    (hR : R.frames = htN y) (hR2 : R.locals = loN y) (hsz : s.heap.size = sz) (hST : ST G (va_A (wsO G σ) sz) s s.heap) : AMB l y G p R s m args meth c (va_A (wsO G σ) sz) := by
  refine ⟨⟨hl, hsc⟩, B.exec, B.bytes, hml, B.returns, ?_, B.notSynchronized, fun h => ?_, hT, htab, hR, hR2, fun q hq => Or.inr (hsz ▸ hq), hST⟩
  · rw [← mtCls (by omega : y < 333)]
    exact findClass_of_methodNamed B.named
  · rw [(name_of_methodNamed B.named B.method).1]
    exact hin h
theorem inOk0 : (List.range 333).all (fun y => !(inN y) || decide ((ynN y).name = "<init>")) = true := by decide +kernel
theorem inOk {y : Nat} (hy : y < 333) (h : inN y = true) : (ynN y).name = "<init>" := by
  have := List.all_eq_true.mp inOk0 y (List.mem_range.mpr hy)
  simp only [Bool.or_eq_true, Bool.not_eq_true', decide_eq_true_eq] at this
  rcases this with h1 | h1
  · rw [h1] at h; cases h
  · exact h1
set_option maxHeartbeats 4000000 in
/-- THE CONTRACT OF A METHOD out of its walk -/
theorem mkct {l : LX} (hl : l.1.stackTraces = false) {y : Nat} (hy : y < 332) {as : List Value} {σ : MM} {k n : Nat} {Q : OO → Prop} (hlen : (enL as).length ≤ mlN y) (h : Ex l y k n 0 (en y as) [] σ Q) : CT l y as σ k n Q := by
  intro G sz hfr hsc
  have main : ∀ (p : Program) (e : Env) (s : State) (m : MethodId) (args : Array Value) (below : List Frame) (meth : Method) (c : Code) (s₁ : State), BodyLoose p l.1 (ynN y) (headSpec (cdW y :: T0) { frames := htN y, cells := k, slots := n, locals := loN y }) (cdN y) (mlN y) (rtN y) e s m args below meth c s₁ → c.maxLocals = mlN y → c.exceptionTable.toList = tableOf (hhN y) → va_Pc (cvs G as) (PW G σ sz) args s →
      W p l.1 e (headSpec (cdW y :: T0) { frames := htN y, cells := k, slots := n, locals := loN y }).room s m args below meth c s.heap [] 0 0 (vx_MQ below (QW G σ sz k Q) (XW G σ sz k Q) args s k n (va_A (wsO G σ) sz)) (entryFrame m args (mlN y)) := by
    intro p e s m args below meth c s₁ B hml htab hv
    obtain ⟨rfl, hsz, hnp, hP, hD, hST⟩ := hv
    have hts := atoms_spec (ws := cdW y :: T0) B.pre
    have hA : AMB l y G p (headSpec (cdW y :: T0) { frames := htN y, cells := k, slots := n, locals := loN y }).room s m (cvs G as).toArray meth c (va_A (wsO G σ) sz) :=
      amb_of hy hl hsc B hml (fun w hw => hts w (List.mem_cons_of_mem _ hw)) htab (inOk (by omega)) rfl rfl hsz hST
    have hF := fin_of (e := e) (below := below) (k := k) (n := n) (Q := Q) hsz hA (Nat.le_refl _) (Nat.le_refl _)
    rw [lg_entry_eq]
    refine h G p e _ s m _ below meth c _ k n _ hA (Nat.le_refl _) (Nat.le_refl _) hF s.heap [] 0 0 _ (Nat.zero_add _) (Nat.zero_add _) (LR.start hlen) ⟨hnp, hP, hD.weaken (fun i q hq _ => va_A.in hq), va_S.rf⟩ (fun z => ?_)
    exact ⟨by rw [hsz, (hfr z).1]; rfl, (hfr z).2, Or.inl (by rw [hsz, (hfr z).1]; exact Nat.le_refl _)⟩
  by_cases hh : hhN y = []
  · refine vx_ofW (cc := cdN y) (maxL := mlN y) (ret := rtN y) (ws' := T0) (mtPlain (by omega)) (by rw [cdW_plain hh]) ?_
    intro p e s m args below meth c s₁ B hml ht hv
    refine main p e s m args below meth c s₁ B hml ?_ hv
    rw [hh]
    exact List.eq_nil_iff_forall_not_mem.mpr ht
  · refine vx_ofWH (cc := cdN y) (maxL := mlN y) (ret := rtN y) (ws' := T0) (hh := hhN y) (mtPlain (by omega)) (by rw [cdW_with hh]) ?_
    intro p e s m args below meth c s₁ B hml hv
    refine main p e s m args below meth c s₁ B hml ?_ hv
    exact vx_table (x := ynN y) B (atoms_spec (ws := cdW y :: T0) B.pre _ (by rw [cdW_with hh]; exact List.mem_cons_self))
/-- what a caller hands over -/
theorem pre_of {l : LX} {y : Nat} {G : GG} {p : Program} {R : Room} {s : State} {m : MethodId} {args : Array Value} {meth : Method} {c : Code} {A : Nat → Prop} (hA : AMB l y G p R s m args meth c A) {H : Heap} {locs : List Loc} {σ : MM} (hW : WOK G A s H locs σ) :
    (∀ q, va_A (wsO G σ) H.size q → A q) ∧ ∀ (As : List Value), PreS s H (va_Pc As (PW G σ H.size)) As := by
  obtain ⟨hfl, hx, hb, hml, hr, hown, hlocks, hin, hts, htab, hRf, hRl, hAA, hST⟩ := hA
  obtain ⟨hnp, hP, hD, hS⟩ := hW
  have hsub : ∀ q, va_A (wsO G σ) H.size q → A q := by
    rintro q (⟨k, e, hk⟩ | hq)
    · exact hD.2 k _ hk
    · exact hAA q (Nat.le_trans hS.1 hq)
  refine ⟨hsub, fun As => ⟨?_, ?_⟩⟩
  · intro a U g mk q
    obtain ⟨q0, q1, q2, q3, q4, q5⟩ := q
    exact ⟨q0, q1, q2, q3, q4, q5.warm (U := U.calling g mk a) (State.WarmedH.refl U)⟩
  · intro U hU hW9
    refine ⟨rfl, by rw [hU], hnp, by rw [hU]; exact hP, hD.weaken (fun _ _ _ _ => trivial), ?_⟩
    rw [hU]
    exact ((hST.kept hS.1 hS.2.1).narrow hsub).warm hW9
/-- behind a call -/
theorem cal_go {l : LX} {y : Nat} {G : GG} {p : Program} {e : Env} {R : Room} {s : State} {m : MethodId} {args : Array Value} {below : List Frame} {meth : Method} {c : Code} {A : Nat → Prop} (hA : AMB l y G p R s m args meth c A) {H : Heap} {locs : List Loc} {cells slots mc ms pc : Nat} {ls : Array Slot} {st0 rest : List Value} {σ : MM} {Q : OO → Prop} {Qf : State → Prop} {a : Array Value}
    (hW : WOK G A s H locs σ) (hr : vx_Run p l.1 e R s m args below meth c H locs cells slots mc ms (F0 m pc ls st0) rest (QW G σ H.size mc Q a) (XW G σ H.size mc Q) (va_A (wsO G σ) H.size))
    (kk : ∀ (v : Option Value) (τ : MM) (H1 : Heap) (locs1 : List Loc), Q (.inl v, τ) → WOK G A s H1 locs1 τ → (τ.2.2.2.2.2 = true → H.size + mc = G.2.2.2.2.2 τ.2.2.2.1 ∧ CS G τ.2.2.2.1 ∧ AJ G τ.2.2.2.1 H.size) → W p l.1 e R s m args below meth c H1 locs1 (cells + mc) (slots + ms) Qf (F0 m (pc + 3) ls ((v.map (cv G)).toList ++ rest)))
    (kx : ∀ (E : Nat) (τ : MM) (H1 : Heap) (locs1 : List Loc) (q : Addr) (ce : Cell), Q (.inr E, τ) → τ.2.2.2.2.2 = false → WOK G A s H1 locs1 τ → H1[q]? = some ce → ce.vm = .none → s.vm.findClass (exc E) = some ce.cls → vx_W p l.1 e R s m args below meth c H1 locs1 (cells + mc) (slots + ms) Qf (F0 m pc ls rest) q) :
    W p l.1 e R s m args below meth c H locs cells slots Qf (F0 m pc ls st0) := by
  obtain ⟨hsub, -⟩ := pre_of hA hW
  obtain ⟨hnp, hP, hD, hS⟩ := hW
  intro T hT X
  rcases hr T hT X with ⟨v, st₀, t, T', L, h0, X', hL, e1, e2, ⟨⟨v', τ, hv, hq, w1, w2, w3, w4⟩, hF⟩, st⟩ | ⟨q, st₀, t, T', L, E, ce, h0, X', hL, e1, e2, ⟨⟨E', τ, hE, hf, hq, w1, w2, w3, w4⟩, hF⟩, hce, hcv, hcl, st⟩
  · cases hv
    obtain ⟨k1, k2, k3⟩ := vx_keep h0 e1 hS (fun q _ h => hsub q h) hsub hL hF
    obtain ⟨t2, a1, b1⟩ := kk v' τ T'.heap (locs ++ L) hq ⟨w1, by rw [e1]; exact w2, w3.weaken (fun _ _ _ h => hsub _ h), k3⟩ w4 T' rfl X'
    exact ⟨t2, st t2 a1, b1⟩
  · subst hE
    obtain ⟨k1, k2, k3⟩ := vx_keep h0 e1 hS (fun q _ h => hsub q h) hsub hL hF
    obtain ⟨t2, a1, b1⟩ := kx E' τ T'.heap (locs ++ L) q ce hq hf ⟨w1, by rw [e1]; exact w2, w3.weaken (fun _ _ _ h => hsub _ h), k3⟩ (by rw [e1]; exact hce) hcv hcl T' rfl X'
    exact ⟨t2, st.trans a1, b1⟩
/-- how large the heap is where nothing but the world's cells was made -/
theorem size_of {l : LX} {G : GG} {p : Program} {e : Env} {R : Room} {s : State} {m : MethodId} {args : Array Value} {below : List Frame} {meth : Method} {c : Code} {A : Nat → Prop} {H : Heap} {locs : List Loc} {cells slots : Nat} {σ : MM} {T : State} (hW : WOK G A s H locs σ) (hF : FR G s σ cells) (X : Stand p l.1 e R s m args below meth c T locs cells slots) (hT : T.heap = H) : σ.2.2.2.2.2 = true → H.size = G.2.2.2.2.2 σ.2.2.2.1 := by
  intro h
  obtain ⟨h1, -, hb⟩ := hF h
  have h2 := X.heapSize
  rw [hT] at h2
  have h5 := hW.2.2.2.1
  rcases hb with hb | ⟨j, hj, hb⟩
  · omega
  · have h3 := (hW.2.1 j _ (wsO_get hj)).lt
    have h4 : G.2.2.2.2.2 j < H.size := h3
    omega
end
section
/-! ===== rows: an instruction each ===== -/
section Rows1
variable {l : LX} {y k n pc : Nat} {L : LL} {st : List Value} {σ : MM} {Q : OO → Prop}
/-- an instruction that touches the stack alone -/
theorem x_go {pc2 : Nat} {st2 : List Value} (h : ∀ (G : GG) (p : Program) (e : Env) (R : Room) (s : State) (m : MethodId) (args : Array Value) (below : List Frame) (meth : Method) (c : Code) (Qf : State → Prop) (H : Heap) (locs : List Loc) (cells slots : Nat) (ls : Array Slot), p.tables.exec = Jvm.exec → c.code = cdN y → LR G ls (mlN y) L →
    W p l.1 e R s m args below meth c H locs cells slots Qf (F0 m pc2 ls (cvs G st2)) → W p l.1 e R s m args below meth c H locs cells slots Qf (F0 m pc ls (cvs G st))) (kk : Ex l y k n pc2 L st2 σ Q) : Ex l y k n pc L st σ Q := by
  intro G p e R s m args below meth c A CE SE Qf hA hC hS hF H locs cells slots ls h1 h2 hL hW hR
  exact h G p e R s m args below meth c Qf H locs cells slots ls hA.2.1 hA.2.2.1 hL (kk G p e R s m args below meth c A CE SE Qf hA hC hS hF H locs cells slots ls h1 h2 hL hW hR)
theorem x_eq {st2 : List Value} (h : st = st2) (kk : Ex l y k n pc L st2 σ Q) : Ex l y k n pc L st σ Q := h ▸ kk
/-- fewer locals known -/
theorem x_forget {L2 : LL} (hl : L2.length = L.length) (h : ∀ (i : Nat) (v : Value), L2[i]? = some (some v) → L[i]? = some (some v)) (kk : Ex l y k n pc L2 st σ Q) : Ex l y k n pc L st σ Q := by
  intro G p e R s m args below meth c A CE SE Qf hA hC hS hF H locs cells slots ls h1 h2 hL hW hR
  exact kk G p e R s m args below meth c A CE SE Qf hA hC hS hF H locs cells slots ls h1 h2 ⟨hL.1, hL.2.1, hl.trans hL.2.2.1, fun i v hi => hL.2.2.2 i v (h i v hi)⟩ hW hR
/-- fewer cells made than allowed, where none is counted any more -/
theorem x_less {k2 n2 : Nat} (hk : k2 ≤ k) (hn : n2 ≤ n) (hf : σ.2.2.2.2.2 = false) (kk : Ex l y k2 n2 pc L st σ Q) : Ex l y k n pc L st σ Q := by
  intro G p e R s m args below meth c A CE SE Qf hA hC hS hF H locs cells slots ls h1 h2 hL hW hR
  refine W.widen (k := cells + (k - k2)) (n := slots + (n - n2)) (by omega) (by omega) ?_
  exact kk G p e R s m args below meth c A CE SE Qf hA hC hS hF H locs _ _ ls (by omega) (by omega) hL hW (fun z => by rw [hf] at z; cases z)
/-- cells are no longer counted -/
def unf (σ : MM) : MM := (σ.1, σ.2.1, σ.2.2.1, σ.2.2.2.1, σ.2.2.2.2.1, false)
theorem x_unf (kk : Ex l y k n pc L st (unf σ) Q) : Ex l y k n pc L st σ Q := by
  intro G p e R s m args below meth c A CE SE Qf hA hC hS hF H locs cells slots ls h1 h2 hL hW hR
  exact kk G p e R s m args below meth c A CE SE Qf hA hC hS hF H locs cells slots ls h1 h2 hL hW (fun z => by cases z)
theorem x_mono {Q2 : OO → Prop} (hQ : ∀ o, Q2 o → Q o) (kk : Ex l y k n pc L st σ Q2) : Ex l y k n pc L st σ Q := by
  intro G p e R s m args below meth c A CE SE Qf hA hC hS hF
  exact kk G p e R s m args below meth c A CE SE Qf hA hC hS ⟨fun H locs cells slots pc ls v τ a1 a2 a3 a4 a5 a6 => hF.1 H locs cells slots pc ls v τ a1 a2 a3 a4 a5 (hQ _ a6), fun H locs cells slots pc ls rest τ E r a1 a2 a3 a4 a5 a6 a7 a8 a9 b1 => hF.2.1 H locs cells slots pc ls rest τ E r a1 a2 a3 a4 a5 a6 a7 a8 a9 (hQ _ b1), fun H locs cells slots pc ls rest τ E q ce a1 a2 a3 a4 a5 a6 => hF.2.2 H locs cells slots pc ls rest τ E q ce a1 a2 a3 a4 a5 (hQ _ a6)⟩
theorem x_iconst {i : Int} (hd : decode (cdN y) pc = .ok (.iconst i, 1)) (kk : Ex l y k n (pc + 1) L (.int (iI i) :: st) σ Q) : Ex l y k n pc L (st) σ Q :=
  x_go (fun G p e R s m args below meth c Qf H locs cells slots ls hx hb hL hk => lv_iconst hx hb hd rfl hk) kk
theorem x_bipush {i : Int} (hv : (Int8.ofInt i).toInt32 = iI i) (hd : decode (cdN y) pc = .ok (.bipush i, 2)) (kk : Ex l y k n (pc + 2) L (.int (iI i) :: st) σ Q) : Ex l y k n pc L (st) σ Q :=
  x_go (fun G p e R s m args below meth c Qf H locs cells slots ls hx hb hL hk => lv_bipush hx hb hd hv hk) kk
theorem x_sipush {i : Int} (hv : (Int16.ofInt i).toInt32 = iI i) (hd : decode (cdN y) pc = .ok (.sipush i, 3)) (kk : Ex l y k n (pc + 3) L (.int (iI i) :: st) σ Q) : Ex l y k n pc L (st) σ Q :=
  x_go (fun G p e R s m args below meth c Qf H locs cells slots ls hx hb hL hk => lv_sipush hx hb hd hv hk) kk
theorem x_lconst {i : Fin 2} {z : Int} (hv : Int64.ofNat i = lL z) (hd : decode (cdN y) pc = .ok (.lconst i, 1)) (kk : Ex l y k n (pc + 1) L (.long (lL z) :: st) σ Q) : Ex l y k n pc L (st) σ Q :=
  x_go (fun G p e R s m args below meth c Qf H locs cells slots ls hx hb hL hk => lv_lconst hx hb hd hv hk) kk
theorem x_iload_n {i : Fin 4} {x : Int32} (hl : L[(i : Nat)]? = some (some (.int x))) (hd : decode (cdN y) pc = .ok (.iload_n i, 1)) (kk : Ex l y k n (pc + 1) L (.int x :: st) σ Q) : Ex l y k n pc L (st) σ Q :=
  x_go (fun G p e R s m args below meth c Qf H locs cells slots ls hx hb hL hk => lv_iload_n hx hb hd rfl (hL.at hl) hk) kk
theorem x_iload {i : Nat} {x : Int32} (hl : L[i]? = some (some (.int x))) (hd : decode (cdN y) pc = .ok (.iload i, 2)) (kk : Ex l y k n (pc + 2) L (.int x :: st) σ Q) : Ex l y k n pc L (st) σ Q :=
  x_go (fun G p e R s m args below meth c Qf H locs cells slots ls hx hb hL hk => lv_iload hx hb hd (hL.at hl) hk) kk
theorem x_lload_n {i : Fin 4} {x : Int64} (hl : L[(i : Nat)]? = some (some (.long x))) (hd : decode (cdN y) pc = .ok (.lload_n i, 1)) (kk : Ex l y k n (pc + 1) L (.long x :: st) σ Q) : Ex l y k n pc L (st) σ Q :=
  x_go (fun G p e R s m args below meth c Qf H locs cells slots ls hx hb hL hk => lv_lload_n hx hb hd rfl (hL.at hl) hk) kk
theorem x_lload {i : Nat} {x : Int64} (hl : L[i]? = some (some (.long x))) (hd : decode (cdN y) pc = .ok (.lload i, 2)) (kk : Ex l y k n (pc + 2) L (.long x :: st) σ Q) : Ex l y k n pc L (st) σ Q :=
  x_go (fun G p e R s m args below meth c Qf H locs cells slots ls hx hb hL hk => lv_lload hx hb hd (hL.at hl) hk) kk
theorem x_dload {i : Nat} {x : UInt64} (hl : L[i]? = some (some (.double x))) (hd : decode (cdN y) pc = .ok (.dload i, 2)) (kk : Ex l y k n (pc + 2) L (.double x :: st) σ Q) : Ex l y k n pc L (st) σ Q :=
  x_go (fun G p e R s m args below meth c Qf H locs cells slots ls hx hb hL hk => lv_dload hx hb hd (hL.at hl) hk) kk
theorem x_aload_n {i : Fin 4} {x : Nat} (hl : L[(i : Nat)]? = some (some (.ref x))) (hd : decode (cdN y) pc = .ok (.aload_n i, 1)) (kk : Ex l y k n (pc + 1) L (.ref x :: st) σ Q) : Ex l y k n pc L (st) σ Q :=
  x_go (fun G p e R s m args below meth c Qf H locs cells slots ls hx hb hL hk => lv_aload_n hx hb hd rfl (hL.at hl) hk) kk
theorem x_aload {i : Nat} {x : Nat} (hl : L[i]? = some (some (.ref x))) (hd : decode (cdN y) pc = .ok (.aload i, 2)) (kk : Ex l y k n (pc + 2) L (.ref x :: st) σ Q) : Ex l y k n pc L (st) σ Q :=
  x_go (fun G p e R s m args below meth c Qf H locs cells slots ls hx hb hL hk => lv_aload hx hb hd (hL.at hl) hk) kk
theorem x_iadd {a b : Int} (hd : decode (cdN y) pc = .ok (.iadd, 1)) (kk : Ex l y k n (pc + 1) L (.int (iI (a + b)) :: st) σ Q) : Ex l y k n pc L (.int (iI b) :: .int (iI a) :: st) σ Q :=
  x_go (fun G p e R s m args below meth c Qf H locs cells slots ls hx hb hL hk => lv_iadd hx hb hd (by rw [iI_add]; exact hk)) kk
theorem x_isub {a b : Int} (hd : decode (cdN y) pc = .ok (.isub, 1)) (kk : Ex l y k n (pc + 1) L (.int (iI (a - b)) :: st) σ Q) : Ex l y k n pc L (.int (iI b) :: .int (iI a) :: st) σ Q :=
  x_go (fun G p e R s m args below meth c Qf H locs cells slots ls hx hb hL hk => lv_isub hx hb hd (by rw [iI_sub]; exact hk)) kk
theorem x_imul {a b : Int} (hd : decode (cdN y) pc = .ok (.imul, 1)) (kk : Ex l y k n (pc + 1) L (.int (iI (a * b)) :: st) σ Q) : Ex l y k n pc L (.int (iI b) :: .int (iI a) :: st) σ Q :=
  x_go (fun G p e R s m args below meth c Qf H locs cells slots ls hx hb hL hk => lv_imul hx hb hd (by rw [iI_mul]; exact hk)) kk
theorem x_iand {a b : Int32} {z : Int} (hv : a &&& b = iI z) (hd : decode (cdN y) pc = .ok (.iand, 1)) (kk : Ex l y k n (pc + 1) L (.int (iI z) :: st) σ Q) : Ex l y k n pc L (.int b :: .int a :: st) σ Q :=
  x_go (fun G p e R s m args below meth c Qf H locs cells slots ls hx hb hL hk => lv_iand hx hb hd (by rw [hv]; exact hk)) kk
theorem x_ixor {a b : Int32} {z : Int} (hv : a ^^^ b = iI z) (hd : decode (cdN y) pc = .ok (.ixor, 1)) (kk : Ex l y k n (pc + 1) L (.int (iI z) :: st) σ Q) : Ex l y k n pc L (.int b :: .int a :: st) σ Q :=
  x_go (fun G p e R s m args below meth c Qf H locs cells slots ls hx hb hL hk => lv_ixor hx hb hd (by rw [hv]; exact hk)) kk
theorem x_ior {a b : Int32} {z : Int} (hv : a ||| b = iI z) (hd : decode (cdN y) pc = .ok (.ior, 1)) (kk : Ex l y k n (pc + 1) L (.int (iI z) :: st) σ Q) : Ex l y k n pc L (.int b :: .int a :: st) σ Q :=
  x_go (fun G p e R s m args below meth c Qf H locs cells slots ls hx hb hL hk => lv_ior hx hb hd (by rw [hv]; exact hk)) kk
theorem x_idiv {a b : Int} (h1 : 0 ≤ a) (h2 : a ≤ 2147483647) (h3 : 0 < b) (h4 : b ≤ 2147483647) (hd : decode (cdN y) pc = .ok (.idiv, 1)) (kk : Ex l y k n (pc + 1) L (.int (iI (a / b)) :: st) σ Q) : Ex l y k n pc L (.int (iI b) :: .int (iI a) :: st) σ Q :=
  x_go (fun G p e R s m args below meth c Qf H locs cells slots ls hx hb hL hk => lv_idiv hx hb hd (iI_ne0 h3 h4) (by rw [iI_div h1 h2 h3 h4]; exact hk)) kk
theorem x_irem {a b : Int} (h1 : 0 ≤ a) (h2 : a ≤ 2147483647) (h3 : 0 < b) (h4 : b ≤ 2147483647) (hd : decode (cdN y) pc = .ok (.irem, 1)) (kk : Ex l y k n (pc + 1) L (.int (iI (a % b)) :: st) σ Q) : Ex l y k n pc L (.int (iI b) :: .int (iI a) :: st) σ Q :=
  x_go (fun G p e R s m args below meth c Qf H locs cells slots ls hx hb hL hk => lv_irem hx hb hd (iI_ne0 h3 h4) (by rw [iI_rem h1 h2 h3 h4]; exact hk)) kk
theorem x_ishl {a b : Int32} {z : Int} (hv : a <<< (b &&& 31) = iI z) (hd : decode (cdN y) pc = .ok (.ishl, 1)) (kk : Ex l y k n (pc + 1) L (.int (iI z) :: st) σ Q) : Ex l y k n pc L (.int b :: .int a :: st) σ Q :=
  x_go (fun G p e R s m args below meth c Qf H locs cells slots ls hx hb hL hk => lv_ishl hx hb hd (by rw [hv]; exact hk)) kk
theorem x_ishr {a b : Int32} {z : Int} (hv : a >>> (b &&& 31) = iI z) (hd : decode (cdN y) pc = .ok (.ishr, 1)) (kk : Ex l y k n (pc + 1) L (.int (iI z) :: st) σ Q) : Ex l y k n pc L (.int b :: .int a :: st) σ Q :=
  x_go (fun G p e R s m args below meth c Qf H locs cells slots ls hx hb hL hk => lv_ishr hx hb hd (by rw [hv]; exact hk)) kk
theorem x_iushr {a b : Int32} {z : Int} (hv : (a.toUInt32 >>> (b.toUInt32 &&& Int32.toUInt32 31)).toInt32 = iI z) (hd : decode (cdN y) pc = .ok (.iushr, 1)) (kk : Ex l y k n (pc + 1) L (.int (iI z) :: st) σ Q) : Ex l y k n pc L (.int b :: .int a :: st) σ Q :=
  x_go (fun G p e R s m args below meth c Qf H locs cells slots ls hx hb hL hk => lv_iushr hx hb hd hv hk) kk
theorem x_ladd {a b : Int} (hd : decode (cdN y) pc = .ok (.ladd, 1)) (kk : Ex l y k n (pc + 1) L (.long (lL (a + b)) :: st) σ Q) : Ex l y k n pc L (.long (lL b) :: .long (lL a) :: st) σ Q :=
  x_go (fun G p e R s m args below meth c Qf H locs cells slots ls hx hb hL hk => lv_ladd hx hb hd (by rw [lL_add]; exact hk)) kk
theorem x_i2l {a : Int} (ha : InR a) (hd : decode (cdN y) pc = .ok (.i2l, 1)) (kk : Ex l y k n (pc + 1) L (.long (lL a) :: st) σ Q) : Ex l y k n pc L (.int (iI a) :: st) σ Q :=
  x_go (fun G p e R s m args below meth c Qf H locs cells slots ls hx hb hL hk => lv_i2l hx hb hd (iI_long ha) hk) kk
theorem x_lcmp {a b : Int} (ha : InL a) (hb9 : InL b) (hd : decode (cdN y) pc = .ok (.lcmp, 1)) (kk : Ex l y k n (pc + 1) L (.int (iI (cmpZ a b)) :: st) σ Q) : Ex l y k n pc L (.long (lL b) :: .long (lL a) :: st) σ Q :=
  x_go (fun G p e R s m args below meth c Qf H locs cells slots ls hx hb hL hk => W.lcmp hx hb hd (by rw [lL_cmp ha hb9]; exact hk)) kk
theorem x_fconst (hd : decode (cdN y) pc = .ok (.fconst 0, 1)) (kk : Ex l y k n (pc + 1) L (.float FP.fconst0 :: st) σ Q) : Ex l y k n pc L (st) σ Q :=
  x_go (fun G p e R s m args below meth c Qf H locs cells slots ls hx hb hL hk => lv_fconst0 hx hb hd hk) kk
theorem x_dconst (hd : decode (cdN y) pc = .ok (.dconst 0, 1)) (kk : Ex l y k n (pc + 1) L (.double FP.dconst0 :: st) σ Q) : Ex l y k n pc L (st) σ Q :=
  x_go (fun G p e R s m args below meth c Qf H locs cells slots ls hx hb hL hk => lv_dconst0 hx hb hd hk) kk
theorem x_i2f {a : Int32} (hd : decode (cdN y) pc = .ok (.i2f, 1)) (kk : Ex l y k n (pc + 1) L (.float (FP.i2f a) :: st) σ Q) : Ex l y k n pc L (.int a :: st) σ Q :=
  x_go (fun G p e R s m args below meth c Qf H locs cells slots ls hx hb hL hk => lv_i2f hx hb hd hk) kk
theorem x_i2d {a : Int32} (hd : decode (cdN y) pc = .ok (.i2d, 1)) (kk : Ex l y k n (pc + 1) L (.double (FP.i2d a) :: st) σ Q) : Ex l y k n pc L (.int a :: st) σ Q :=
  x_go (fun G p e R s m args below meth c Qf H locs cells slots ls hx hb hL hk => lv_i2d hx hb hd hk) kk
theorem x_f2d {a : UInt32} (hn : vf_n64 (FP.f2d a)) (hd : decode (cdN y) pc = .ok (.f2d, 1)) (kk : Ex l y k n (pc + 1) L (.double (FP.f2d a) :: st) σ Q) : Ex l y k n pc L (.float a :: st) σ Q :=
  x_go (fun G p e R s m args below meth c Qf H locs cells slots ls hx hb hL hk => lv_f2d hx hb hd hn hk) kk
theorem x_fdiv {a b : UInt32} (hn : vf_n32 (FP.fdiv a b)) (hd : decode (cdN y) pc = .ok (.fdiv, 1)) (kk : Ex l y k n (pc + 1) L (.float (FP.fdiv a b) :: st) σ Q) : Ex l y k n pc L (.float b :: .float a :: st) σ Q :=
  x_go (fun G p e R s m args below meth c Qf H locs cells slots ls hx hb hL hk => lv_fdiv hx hb hd hn hk) kk
theorem x_ddiv {a b : UInt64} (hn : vf_n64 (FP.ddiv a b)) (hd : decode (cdN y) pc = .ok (.ddiv, 1)) (kk : Ex l y k n (pc + 1) L (.double (FP.ddiv a b) :: st) σ Q) : Ex l y k n pc L (.double b :: .double a :: st) σ Q :=
  x_go (fun G p e R s m args below meth c Qf H locs cells slots ls hx hb hL hk => lv_ddiv hx hb hd hn hk) kk
theorem x_dcmp {a b : UInt64} {op : CmpOp} (hd : decode (cdN y) pc = .ok (.dcmp op, 1)) (kk : Ex l y k n (pc + 1) L (.int (Op.cmpValue (FP.dcmp a b) op) :: st) σ Q) : Ex l y k n pc L (.double b :: .double a :: st) σ Q :=
  x_go (fun G p e R s m args below meth c Qf H locs cells slots ls hx hb hL hk => lv_dcmp hx hb hd hk) kk
theorem x_fcmp {a b : UInt32} {op : CmpOp} (hd : decode (cdN y) pc = .ok (.fcmp op, 1)) (kk : Ex l y k n (pc + 1) L (.int (Op.cmpValue (FP.fcmp a b) op) :: st) σ Q) : Ex l y k n pc L (.float b :: .float a :: st) σ Q :=
  x_go (fun G p e R s m args below meth c Qf H locs cells slots ls hx hb hL hk => lv_fcmp hx hb hd hk) kk
theorem x_dup {v : Value} (hv : v.category = 1) (hd : decode (cdN y) pc = .ok (.dup, 1)) (kk : Ex l y k n (pc + 1) L (v :: v :: st) σ Q) : Ex l y k n pc L (v :: st) σ Q :=
  x_go (fun G p e R s m args below meth c Qf H locs cells slots ls hx hb hL hk => lv_dup hx hb hd ((cv_cat G v).trans hv) hk) kk
theorem x_pop {v : Value} (hv : v.category = 1) (hd : decode (cdN y) pc = .ok (.pop, 1)) (kk : Ex l y k n (pc + 1) L (st) σ Q) : Ex l y k n pc L (v :: st) σ Q :=
  x_go (fun G p e R s m args below meth c Qf H locs cells slots ls hx hb hL hk => lv_pop hx hb hd ((cv_cat G v).trans hv) hk) kk
theorem x_dup2 {v w : Value} (hv : v.category = 1) (hw : w.category = 1) (hd : decode (cdN y) pc = .ok (.dup2, 1)) (kk : Ex l y k n (pc + 1) L (v :: w :: v :: w :: st) σ Q) : Ex l y k n pc L (v :: w :: st) σ Q :=
  x_go (fun G p e R s m args below meth c Qf H locs cells slots ls hx hb hL hk => lv_dup2_11 hx hb hd ((cv_cat G v).trans hv) ((cv_cat G w).trans hw) hk) kk
theorem x_goto {off : Int} {tgt : Nat} (hd : decode (cdN y) pc = .ok (.goto off, 3)) (ht : (pc : Int) + off = (tgt : Int)) (kk : Ex l y k n tgt L st σ Q) : Ex l y k n pc L st σ Q :=
  x_go (fun G p e R s m args below meth c Qf H locs cells slots ls hx hb hL hk => lv_goto hx hb hd ht hk) kk
theorem x_ifnull {off : Int} {a : Nat} (hd : decode (cdN y) pc = .ok (.ifnull off, 3)) (kk : Ex l y k n (pc + 3) L st σ Q) : Ex l y k n pc L (.ref a :: st) σ Q :=
  x_go (fun G p e R s m args below meth c Qf H locs cells slots ls hx hb hL hk => lv_ifnull hx hb hd hk) kk
theorem x_tabIn {dflt lo hi off : Int} {offs : Array Int} {len tgt : Nat} {x : Int} (hx9 : InR x) (hd : decode (cdN y) pc = .ok (.tableswitch dflt lo hi offs, len)) (h1 : lo ≤ x) (h2 : x ≤ hi) (ho : offs[(x - lo).toNat]? = some off) (ht : (pc : Int) + off = (tgt : Int)) (kk : Ex l y k n tgt L st σ Q) : Ex l y k n pc L (.int (iI x) :: st) σ Q :=
  x_go (fun G p e R s m args below meth c Qf H locs cells slots ls hx hb hL hk => lv_tableIn hx hb hd (by rw [iI_toInt hx9]; omega) (by rw [iI_toInt hx9]; omega) (by rw [iI_toInt hx9]; exact ho) ht hk) kk
theorem x_tabOut {dflt lo hi : Int} {offs : Array Int} {len tgt : Nat} {x : Int} (hx9 : InR x) (hd : decode (cdN y) pc = .ok (.tableswitch dflt lo hi offs, len)) (h : x < lo ∨ hi < x) (ht : (pc : Int) + dflt = (tgt : Int)) (kk : Ex l y k n tgt L st σ Q) : Ex l y k n pc L (.int (iI x) :: st) σ Q :=
  x_go (fun G p e R s m args below meth c Qf H locs cells slots ls hx hb hL hk => lv_tableOut hx hb hd (by rw [iI_toInt hx9]; exact h) ht hk) kk
theorem x_if_eq {off : Int} {tgt : Nat} {a : Int} (ha : InR a) (hd : decode (cdN y) pc = .ok (.ifCond .eq off, 3)) (ht : (pc : Int) + off = (tgt : Int)) (kt : a = 0 → Ex l y k n tgt L st σ Q) (kf : a ≠ 0 → Ex l y k n (pc + 3) L st σ Q) : Ex l y k n pc L (.int (iI a) :: st) σ Q := by
  intro G p e R s m args below meth c A CE SE Qf hA hC hS hF H locs cells slots ls h1 h2 hL hW hR
  exact lv_if_eq hA.2.1 hA.2.2.1 hd ht (fun h => kt ((iI_eq ha inR_0).mp h) G p e R s m args below meth c A CE SE Qf hA hC hS hF H locs cells slots ls h1 h2 hL hW hR) (fun h => kf (fun z => h ((iI_eq ha inR_0).mpr z)) G p e R s m args below meth c A CE SE Qf hA hC hS hF H locs cells slots ls h1 h2 hL hW hR)
theorem x_icmp_eq {off : Int} {tgt : Nat} {a b : Int} (ha : InR a) (hb : InR b) (hd : decode (cdN y) pc = .ok (.if_icmp .eq off, 3)) (ht : (pc : Int) + off = (tgt : Int)) (kt : a = b → Ex l y k n tgt L st σ Q) (kf : a ≠ b → Ex l y k n (pc + 3) L st σ Q) : Ex l y k n pc L (.int (iI b) :: .int (iI a) :: st) σ Q := by
  intro G p e R s m args below meth c A CE SE Qf hA hC hS hF H locs cells slots ls h1 h2 hL hW hR
  exact lv_icmp_eq hA.2.1 hA.2.2.1 hd ht (fun h => kt ((iI_eq ha hb).mp h) G p e R s m args below meth c A CE SE Qf hA hC hS hF H locs cells slots ls h1 h2 hL hW hR) (fun h => kf (fun z => h ((iI_eq ha hb).mpr z)) G p e R s m args below meth c A CE SE Qf hA hC hS hF H locs cells slots ls h1 h2 hL hW hR)
theorem x_if_ne {off : Int} {tgt : Nat} {a : Int} (ha : InR a) (hd : decode (cdN y) pc = .ok (.ifCond .ne off, 3)) (ht : (pc : Int) + off = (tgt : Int)) (kt : a ≠ 0 → Ex l y k n tgt L st σ Q) (kf : a = 0 → Ex l y k n (pc + 3) L st σ Q) : Ex l y k n pc L (.int (iI a) :: st) σ Q := by
  intro G p e R s m args below meth c A CE SE Qf hA hC hS hF H locs cells slots ls h1 h2 hL hW hR
  exact lv_if_ne hA.2.1 hA.2.2.1 hd ht (fun h => kt (fun z => h ((iI_eq ha inR_0).mpr z)) G p e R s m args below meth c A CE SE Qf hA hC hS hF H locs cells slots ls h1 h2 hL hW hR) (fun h => kf ((iI_eq ha inR_0).mp h) G p e R s m args below meth c A CE SE Qf hA hC hS hF H locs cells slots ls h1 h2 hL hW hR)
theorem x_icmp_ne {off : Int} {tgt : Nat} {a b : Int} (ha : InR a) (hb : InR b) (hd : decode (cdN y) pc = .ok (.if_icmp .ne off, 3)) (ht : (pc : Int) + off = (tgt : Int)) (kt : a ≠ b → Ex l y k n tgt L st σ Q) (kf : a = b → Ex l y k n (pc + 3) L st σ Q) : Ex l y k n pc L (.int (iI b) :: .int (iI a) :: st) σ Q := by
  intro G p e R s m args below meth c A CE SE Qf hA hC hS hF H locs cells slots ls h1 h2 hL hW hR
  exact lv_icmp_ne hA.2.1 hA.2.2.1 hd ht (fun h => kt (fun z => h ((iI_eq ha hb).mpr z)) G p e R s m args below meth c A CE SE Qf hA hC hS hF H locs cells slots ls h1 h2 hL hW hR) (fun h => kf ((iI_eq ha hb).mp h) G p e R s m args below meth c A CE SE Qf hA hC hS hF H locs cells slots ls h1 h2 hL hW hR)
theorem x_if_lt {off : Int} {tgt : Nat} {a : Int} (ha : InR a) (hd : decode (cdN y) pc = .ok (.ifCond .lt off, 3)) (ht : (pc : Int) + off = (tgt : Int)) (kt : a < 0 → Ex l y k n tgt L st σ Q) (kf : 0 ≤ a → Ex l y k n (pc + 3) L st σ Q) : Ex l y k n pc L (.int (iI a) :: st) σ Q := by
  intro G p e R s m args below meth c A CE SE Qf hA hC hS hF H locs cells slots ls h1 h2 hL hW hR
  exact lv_if_lt hA.2.1 hA.2.2.1 hd ht (fun h => kt ((iI_lt ha inR_0).mp h) G p e R s m args below meth c A CE SE Qf hA hC hS hF H locs cells slots ls h1 h2 hL hW hR) (fun h => kf (Int.not_lt.mp (fun z => h ((iI_lt ha inR_0).mpr z))) G p e R s m args below meth c A CE SE Qf hA hC hS hF H locs cells slots ls h1 h2 hL hW hR)
theorem x_icmp_lt {off : Int} {tgt : Nat} {a b : Int} (ha : InR a) (hb : InR b) (hd : decode (cdN y) pc = .ok (.if_icmp .lt off, 3)) (ht : (pc : Int) + off = (tgt : Int)) (kt : a < b → Ex l y k n tgt L st σ Q) (kf : b ≤ a → Ex l y k n (pc + 3) L st σ Q) : Ex l y k n pc L (.int (iI b) :: .int (iI a) :: st) σ Q := by
  intro G p e R s m args below meth c A CE SE Qf hA hC hS hF H locs cells slots ls h1 h2 hL hW hR
  exact lv_icmp_lt hA.2.1 hA.2.2.1 hd ht (fun h => kt ((iI_lt ha hb).mp h) G p e R s m args below meth c A CE SE Qf hA hC hS hF H locs cells slots ls h1 h2 hL hW hR) (fun h => kf (Int.not_lt.mp (fun z => h ((iI_lt ha hb).mpr z))) G p e R s m args below meth c A CE SE Qf hA hC hS hF H locs cells slots ls h1 h2 hL hW hR)
theorem x_if_ge {off : Int} {tgt : Nat} {a : Int} (ha : InR a) (hd : decode (cdN y) pc = .ok (.ifCond .ge off, 3)) (ht : (pc : Int) + off = (tgt : Int)) (kt : 0 ≤ a → Ex l y k n tgt L st σ Q) (kf : a < 0 → Ex l y k n (pc + 3) L st σ Q) : Ex l y k n pc L (.int (iI a) :: st) σ Q := by
  intro G p e R s m args below meth c A CE SE Qf hA hC hS hF H locs cells slots ls h1 h2 hL hW hR
  exact lv_if_ge hA.2.1 hA.2.2.1 hd ht (fun h => kt ((iI_le inR_0 ha).mp h) G p e R s m args below meth c A CE SE Qf hA hC hS hF H locs cells slots ls h1 h2 hL hW hR) (fun h => kf (Int.not_le.mp (fun z => h ((iI_le inR_0 ha).mpr z))) G p e R s m args below meth c A CE SE Qf hA hC hS hF H locs cells slots ls h1 h2 hL hW hR)
theorem x_icmp_ge {off : Int} {tgt : Nat} {a b : Int} (ha : InR a) (hb : InR b) (hd : decode (cdN y) pc = .ok (.if_icmp .ge off, 3)) (ht : (pc : Int) + off = (tgt : Int)) (kt : b ≤ a → Ex l y k n tgt L st σ Q) (kf : a < b → Ex l y k n (pc + 3) L st σ Q) : Ex l y k n pc L (.int (iI b) :: .int (iI a) :: st) σ Q := by
  intro G p e R s m args below meth c A CE SE Qf hA hC hS hF H locs cells slots ls h1 h2 hL hW hR
  exact lv_icmp_ge hA.2.1 hA.2.2.1 hd ht (fun h => kt ((iI_le hb ha).mp h) G p e R s m args below meth c A CE SE Qf hA hC hS hF H locs cells slots ls h1 h2 hL hW hR) (fun h => kf (Int.not_le.mp (fun z => h ((iI_le hb ha).mpr z))) G p e R s m args below meth c A CE SE Qf hA hC hS hF H locs cells slots ls h1 h2 hL hW hR)
theorem x_if_gt {off : Int} {tgt : Nat} {a : Int} (ha : InR a) (hd : decode (cdN y) pc = .ok (.ifCond .gt off, 3)) (ht : (pc : Int) + off = (tgt : Int)) (kt : 0 < a → Ex l y k n tgt L st σ Q) (kf : a ≤ 0 → Ex l y k n (pc + 3) L st σ Q) : Ex l y k n pc L (.int (iI a) :: st) σ Q := by
  intro G p e R s m args below meth c A CE SE Qf hA hC hS hF H locs cells slots ls h1 h2 hL hW hR
  exact lv_if_gt hA.2.1 hA.2.2.1 hd ht (fun h => kt ((iI_lt inR_0 ha).mp h) G p e R s m args below meth c A CE SE Qf hA hC hS hF H locs cells slots ls h1 h2 hL hW hR) (fun h => kf (Int.not_lt.mp (fun z => h ((iI_lt inR_0 ha).mpr z))) G p e R s m args below meth c A CE SE Qf hA hC hS hF H locs cells slots ls h1 h2 hL hW hR)
theorem x_icmp_gt {off : Int} {tgt : Nat} {a b : Int} (ha : InR a) (hb : InR b) (hd : decode (cdN y) pc = .ok (.if_icmp .gt off, 3)) (ht : (pc : Int) + off = (tgt : Int)) (kt : b < a → Ex l y k n tgt L st σ Q) (kf : a ≤ b → Ex l y k n (pc + 3) L st σ Q) : Ex l y k n pc L (.int (iI b) :: .int (iI a) :: st) σ Q := by
  intro G p e R s m args below meth c A CE SE Qf hA hC hS hF H locs cells slots ls h1 h2 hL hW hR
  exact lv_icmp_gt hA.2.1 hA.2.2.1 hd ht (fun h => kt ((iI_lt hb ha).mp h) G p e R s m args below meth c A CE SE Qf hA hC hS hF H locs cells slots ls h1 h2 hL hW hR) (fun h => kf (Int.not_lt.mp (fun z => h ((iI_lt hb ha).mpr z))) G p e R s m args below meth c A CE SE Qf hA hC hS hF H locs cells slots ls h1 h2 hL hW hR)
theorem x_if_le {off : Int} {tgt : Nat} {a : Int} (ha : InR a) (hd : decode (cdN y) pc = .ok (.ifCond .le off, 3)) (ht : (pc : Int) + off = (tgt : Int)) (kt : a ≤ 0 → Ex l y k n tgt L st σ Q) (kf : 0 < a → Ex l y k n (pc + 3) L st σ Q) : Ex l y k n pc L (.int (iI a) :: st) σ Q := by
  intro G p e R s m args below meth c A CE SE Qf hA hC hS hF H locs cells slots ls h1 h2 hL hW hR
  exact lv_if_le hA.2.1 hA.2.2.1 hd ht (fun h => kt ((iI_le ha inR_0).mp h) G p e R s m args below meth c A CE SE Qf hA hC hS hF H locs cells slots ls h1 h2 hL hW hR) (fun h => kf (Int.not_le.mp (fun z => h ((iI_le ha inR_0).mpr z))) G p e R s m args below meth c A CE SE Qf hA hC hS hF H locs cells slots ls h1 h2 hL hW hR)
theorem x_icmp_le {off : Int} {tgt : Nat} {a b : Int} (ha : InR a) (hb : InR b) (hd : decode (cdN y) pc = .ok (.if_icmp .le off, 3)) (ht : (pc : Int) + off = (tgt : Int)) (kt : a ≤ b → Ex l y k n tgt L st σ Q) (kf : b < a → Ex l y k n (pc + 3) L st σ Q) : Ex l y k n pc L (.int (iI b) :: .int (iI a) :: st) σ Q := by
  intro G p e R s m args below meth c A CE SE Qf hA hC hS hF H locs cells slots ls h1 h2 hL hW hR
  exact lv_icmp_le hA.2.1 hA.2.2.1 hd ht (fun h => kt ((iI_le ha hb).mp h) G p e R s m args below meth c A CE SE Qf hA hC hS hF H locs cells slots ls h1 h2 hL hW hR) (fun h => kf (Int.not_le.mp (fun z => h ((iI_le ha hb).mpr z))) G p e R s m args below meth c A CE SE Qf hA hC hS hF H locs cells slots ls h1 h2 hL hW hR)
theorem x_istore_n {i : Fin 4} {x : Int32} (hn : i < mlN y) (hi : ncA L i = true) (hd : decode (cdN y) pc = .ok (.istore_n i, 1)) (kk : Ex l y k n (pc + 1) (L.set i (some (.int x))) st σ Q) : Ex l y k n pc L (.int x :: st) σ Q := by
  intro G p e R s m args below meth c A CE SE Qf hA hC hS hF H locs cells slots ls h1 h2 hL hW hR
  exact lv_istore_n hA.2.1 hA.2.2.1 hd rfl  hL.has hn rfl (fun ls' h' => kk G p e R s m args below meth c A CE SE Qf hA hC hS hF H locs cells slots ls' h1 h2 (hL.st1 (fun v hv => by cases hv; rfl) hi h') hW hR)
theorem x_istore {i : Nat} {x : Int32} (hn : i < mlN y) (hi : ncA L i = true) (hd : decode (cdN y) pc = .ok (.istore i, 2)) (kk : Ex l y k n (pc + 2) (L.set i (some (.int x))) st σ Q) : Ex l y k n pc L (.int x :: st) σ Q := by
  intro G p e R s m args below meth c A CE SE Qf hA hC hS hF H locs cells slots ls h1 h2 hL hW hR
  exact lv_istore hA.2.1 hA.2.2.1 hd  hL.has hn rfl (fun ls' h' => kk G p e R s m args below meth c A CE SE Qf hA hC hS hF H locs cells slots ls' h1 h2 (hL.st1 (fun v hv => by cases hv; rfl) hi h') hW hR)
theorem x_astore_n {i : Fin 4} {x : Nat} (hn : i < mlN y) (hi : ncA L i = true) (hd : decode (cdN y) pc = .ok (.astore_n i, 1)) (kk : Ex l y k n (pc + 1) (L.set i (some (.ref x))) st σ Q) : Ex l y k n pc L (.ref x :: st) σ Q := by
  intro G p e R s m args below meth c A CE SE Qf hA hC hS hF H locs cells slots ls h1 h2 hL hW hR
  exact lv_astore_n hA.2.1 hA.2.2.1 hd rfl  hL.has hn rfl (fun ls' h' => kk G p e R s m args below meth c A CE SE Qf hA hC hS hF H locs cells slots ls' h1 h2 (hL.st1 (fun v hv => by cases hv; rfl) hi h') hW hR)
theorem x_astore {i : Nat} {x : Nat} (hn : i < mlN y) (hi : ncA L i = true) (hd : decode (cdN y) pc = .ok (.astore i, 2)) (kk : Ex l y k n (pc + 2) (L.set i (some (.ref x))) st σ Q) : Ex l y k n pc L (.ref x :: st) σ Q := by
  intro G p e R s m args below meth c A CE SE Qf hA hC hS hF H locs cells slots ls h1 h2 hL hW hR
  exact lv_astore hA.2.1 hA.2.2.1 hd  hL.has hn rfl (fun ls' h' => kk G p e R s m args below meth c A CE SE Qf hA hC hS hF H locs cells slots ls' h1 h2 (hL.st1 (fun v hv => by cases hv; rfl) hi h') hW hR)
theorem x_dstore {i : Nat} {x : UInt64} (hn : i + 1 < mlN y) (hi : ncA L i = true) (hd : decode (cdN y) pc = .ok (.dstore i, 2)) (kk : Ex l y k n (pc + 2) ((L.set i (some (.double x))).set (i + 1) none) st σ Q) : Ex l y k n pc L (.double x :: st) σ Q := by
  intro G p e R s m args below meth c A CE SE Qf hA hC hS hF H locs cells slots ls h1 h2 hL hW hR
  exact lv_dstore hA.2.1 hA.2.2.1 hd hL.has hn rfl (fun ls' h' => kk G p e R s m args below meth c A CE SE Qf hA hC hS hF H locs cells slots ls' h1 h2 (hL.st2 hi h') hW hR)
theorem x_iinc {i : Nat} {j z : Int} (hl : L[i]? = some (some (.int (iI z)))) (hn : i < mlN y) (hi : ncA L i = true) (hd : decode (cdN y) pc = .ok (.iinc i j, 3)) (kk : Ex l y k n (pc + 3) (L.set i (some (.int (iI (z + j))))) st σ Q) : Ex l y k n pc L st σ Q := by
  intro G p e R s m args below meth c A CE SE Qf hA hC hS hF H locs cells slots ls h1 h2 hL hW hR
  obtain ⟨q, hq⟩ := List.getElem?_of_mem (prs_mem (G := G) (q := (i, Value.int (iI z))).mpr ⟨_, hl, rfl⟩)
  exact lv_iinc hA.2.1 hA.2.2.1 hd hL.has hq (iI_add z j) hn rfl (fun ls' h' => kk G p e R s m args below meth c A CE SE Qf hA hC hS hF H locs cells slots ls' h1 h2 (hL.st1 (fun v hv => by cases hv; rfl) hi h') hW hR)
theorem x_ldc {ix : Nat} {v : Int32} {q : Nat} {z : Int} (hk : kiN (owN y) ix = some (v, q)) (hv : v = iI z) (hd : decode (cdN y) pc = .ok (.ldc ix, 2)) (kk : Ex l y k n (pc + 2) L (.int (iI z) :: st) σ Q) : Ex l y k n pc L st σ Q := by
  intro G p e R s m args below meth c A CE SE Qf hA hC hS hF H locs cells slots ls h1 h2 hL hW hR
  subst hv
  exact lv_ldc hA.2.1 hA.2.2.1 hA.2.2.2.2.2.1 (hA.2.2.2.2.2.2.2.2.1 _ (inT_ok (kiOk hk))) hd (kk G p e R s m args below meth c A CE SE Qf hA hC hS hF H locs cells slots ls h1 h2 hL hW hR)
theorem x_ldcw {ix : Nat} {v : Int32} {q : Nat} {z : Int} (hk : kiN (owN y) ix = some (v, q)) (hv : v = iI z) (hd : decode (cdN y) pc = .ok (.ldc_w ix, 3)) (kk : Ex l y k n (pc + 3) L (.int (iI z) :: st) σ Q) : Ex l y k n pc L st σ Q := by
  intro G p e R s m args below meth c A CE SE Qf hA hC hS hF H locs cells slots ls h1 h2 hL hW hR
  subst hv
  exact lv_ldcw hA.2.1 hA.2.2.1 hA.2.2.2.2.2.1 (hA.2.2.2.2.2.2.2.2.1 _ (inT_ok (kiOk hk))) hd (kk G p e R s m args below meth c A CE SE Qf hA hC hS hF H locs cells slots ls h1 h2 hL hW hR)
theorem x_ldc2 {ix : Nat} {v : Int64} {q : Nat} {z : Int} (hk : klN (owN y) ix = some (v, q)) (hv : v = lL z) (hd : decode (cdN y) pc = .ok (.ldc2_w ix, 3)) (kk : Ex l y k n (pc + 3) L (.long (lL z) :: st) σ Q) : Ex l y k n pc L st σ Q := by
  intro G p e R s m args below meth c A CE SE Qf hA hC hS hF H locs cells slots ls h1 h2 hL hW hR
  subst hv
  exact lv_ldc2 hA.2.1 hA.2.2.1 hA.2.2.2.2.2.1 (hA.2.2.2.2.2.2.2.2.1 _ (inT_ok (klOk hk))) hd (kk G p e R s m args below meth c A CE SE Qf hA hC hS hF H locs cells slots ls h1 h2 hL hW hR)
/-- a text -/
theorem ksIn0 : (ksL.zipIdx).all (fun e => decide (e.1.2 = e.2) && decide (e.2 < nTX)) = true := by decide +kernel
theorem ksIn {o ix j : Nat} (h : ksN o ix = some j) : j < nTX ∧ ksE j = (o, ix) := by
  unfold ksN at h
  cases hf : ksL.find? (fun e => e.1.1 == o && e.1.2 == ix) with
  | none => rw [hf] at h; cases h
  | some f =>
    rw [hf] at h
    have h2 : f.2 = j := Option.some.inj h
    have h3 := List.find?_some hf
    simp only [Bool.and_eq_true, beq_iff_eq] at h3
    obtain ⟨q, hq⟩ := List.getElem?_of_mem (List.mem_of_find?_eq_some hf)
    have h4 := List.all_eq_true.mp ksIn0 (f, q) (List.mem_zipIdx_iff_getElem?.mpr hq)
    simp only [Bool.and_eq_true, decide_eq_true_eq] at h4
    obtain ⟨h5, h6⟩ := h4
    have e : j = q := h2.symm.trans h5
    subst e
    refine ⟨h6, ?_⟩
    unfold ksE
    rw [List.getD_eq_getElem?_getD, hq]
    exact Prod.ext h3.1 h3.2
theorem x_ldcS {ix j : Nat} (hk : ksN (owN y) ix = some j) (hd : decode (cdN y) pc = .ok (.ldc ix, 2)) (kk : Ex l y k n (pc + 2) L (.ref (scr + 1 + j) :: st) σ Q) : Ex l y k n pc L st σ Q := by
  intro G p e R s m args below meth c A CE SE Qf hA hC hS hF H locs cells slots ls h1 h2 hL hW hR
  obtain ⟨hj, he⟩ := ksIn hk
  have hT := hA.2.2.2.2.2.2.2.2.2.2.2.2.2.2.2.2.1 j hj
  rw [he] at hT
  refine va_ldcS hA.2.1 hA.2.2.1 hA.2.2.2.2.2.1 hT hd ?_
  have := kk G p e R s m args below meth c A CE SE Qf hA hC hS hF H locs cells slots ls h1 h2 hL hW hR
  rw [show cvs G (.ref (scr + 1 + j) :: st) = .ref (adr G (scr + 1 + j)) :: cvs G st from rfl, adr_tx (Nat.lt_of_lt_of_le hj (by decide))] at this
  exact this
theorem x_ldcwS {ix j : Nat} (hk : ksN (owN y) ix = some j) (hd : decode (cdN y) pc = .ok (.ldc_w ix, 3)) (kk : Ex l y k n (pc + 3) L (.ref (scr + 1 + j) :: st) σ Q) : Ex l y k n pc L st σ Q := by
  intro G p e R s m args below meth c A CE SE Qf hA hC hS hF H locs cells slots ls h1 h2 hL hW hR
  obtain ⟨hj, he⟩ := ksIn hk
  have hT := hA.2.2.2.2.2.2.2.2.2.2.2.2.2.2.2.2.1 j hj
  rw [he] at hT
  have h9 := kk G p e R s m args below meth c A CE SE Qf hA hC hS hF H locs cells slots ls h1 h2 hL hW hR
  rw [show cvs G (.ref (scr + 1 + j) :: st) = .ref (adr G (scr + 1 + j)) :: cvs G st from rfl, adr_tx (Nat.lt_of_lt_of_le hj (by decide))] at h9
  intro T hT2 X
  obtain ⟨t, a1, b1⟩ := h9 T hT2 X
  exact ⟨t, X.ldcStringW hA.2.1 hA.2.2.2.2.2.1 (text := ksX j) (a := G.2.2.2.1 j) hT.1 hT.2 (g := F0 m pc ls (cvs G st)) rfl (by rw [hA.2.2.1]; exact hd) t a1, b1⟩
theorem x_ret {v : Option Value} (hf : σ.2.2.2.2.2 = true → k = 0) (hst : st = v.toList) (hI : RetI y pc v) (hQ : Q (.inl v, σ)) : Ex l y k n pc L st σ Q := by
  intro G p e R s m args below meth c A CE SE Qf hA hC hS hF H locs cells slots ls h1 h2 hL hW hR
  rw [hst]
  exact hF.1 H locs cells slots pc ls v σ (by omega) (by omega) hW (fun z => by have := hR z; have := hf z; subst this; rw [show CE = cells from by omega]; assumption) hI hQ
theorem x_lret {z : Int} (hr : rtN y = some .long) (hf : σ.2.2.2.2.2 = true → k = 0) (hd : decode (cdN y) pc = .ok (.lreturn, 1)) (hQ : Q (.inl (some (.long (lL z))), σ)) : Ex l y k n pc L [.long (lL z)] σ Q := x_ret hf rfl (Or.inr (Or.inr (Or.inr (Or.inr (Or.inl ⟨hd, _, rfl, hr⟩))))) hQ
theorem x_aret {r : Nat} {ty : FieldType} (hr : rtN y = some ty) (ht : (∃ n, ty = .object n) ∨ ∃ t, ty = .array t) (hf : σ.2.2.2.2.2 = true → k = 0) (hd : decode (cdN y) pc = .ok (.areturn, 1)) (hQ : Q (.inl (some (.ref r)), σ)) : Ex l y k n pc L [.ref r] σ Q := x_ret hf rfl (Or.inr (Or.inr (Or.inr (Or.inr (Or.inr ⟨hd, r, ty, rfl, hr, ht⟩))))) hQ
theorem x_iret {z : Int} (hr : rtN y = some .int) (hf : σ.2.2.2.2.2 = true → k = 0) (hd : decode (cdN y) pc = .ok (.ireturn, 1)) (hQ : Q (.inl (some (.int (iI z))), σ)) : Ex l y k n pc L [.int (iI z)] σ Q := x_ret hf rfl (Or.inl ⟨hd, _, rfl, Or.inl hr⟩) hQ
theorem x_zret {z : Int} (hr : rtN y = some .boolean) (hz : z = 0 ∨ z = 1) (hf : σ.2.2.2.2.2 = true → k = 0) (hd : decode (cdN y) pc = .ok (.ireturn, 1)) (hQ : Q (.inl (some (.int (iI z))), σ)) : Ex l y k n pc L [.int (iI z)] σ Q := x_ret hf rfl (Or.inl ⟨hd, _, rfl, Or.inr ⟨.boolean, hr, narrow01 (by rcases hz with rfl | rfl <;> first | exact Or.inl rfl | exact Or.inr rfl)⟩⟩) hQ
theorem x_fret {z : UInt32} (hr : rtN y = some .float) (hf : σ.2.2.2.2.2 = true → k = 0) (hd : decode (cdN y) pc = .ok (.freturn, 1)) (hQ : Q (.inl (some (.float z)), σ)) : Ex l y k n pc L [.float z] σ Q := x_ret hf rfl (Or.inr (Or.inl ⟨hd, _, rfl, hr⟩)) hQ
theorem x_dret {z : UInt64} (hr : rtN y = some .double) (hf : σ.2.2.2.2.2 = true → k = 0) (hd : decode (cdN y) pc = .ok (.dreturn, 1)) (hQ : Q (.inl (some (.double z)), σ)) : Ex l y k n pc L [.double z] σ Q := x_ret hf rfl (Or.inr (Or.inr (Or.inl ⟨hd, _, rfl, hr⟩))) hQ
theorem x_vret (hr : rtN y = none) (hf : σ.2.2.2.2.2 = true → k = 0) (hd : decode (cdN y) pc = .ok (.return_, 1)) (hQ : Q (.inl none, σ)) : Ex l y k n pc L [] σ Q := x_ret hf rfl (Or.inr (Or.inr (Or.inr (Or.inl ⟨hd, rfl, hr⟩)))) hQ
theorem x_throw {E : Nat} {r : Nat × Nat × Nat × Bool × Nat} (hx : xtN y pc = some (E, r)) (hc : cats st + 82 ≤ loN y) (hh : 6 ≤ htN y) (hy : hhN y = []) (hk : 1 ≤ k) (hn : 6 ≤ n) (hf : σ.2.2.2.2.2 = false) (hQ : Q (.inr E, σ)) : Ex l y k n pc L st σ Q := by
  intro G p e R s m args below meth c A CE SE Qf hA hC hS hF H locs cells slots ls h1 h2 hL hW hR
  exact hF.2.1 H locs cells slots pc ls (cvs G st) σ E r hx hL.1 (by rw [cvs_cats]; exact hc) hh hy (by omega) (by omega) hW hf hQ
end Rows1
end
section
/-! ===== rows that read and write the world ===== -/
def up2 {α : Type} (I : Nat → Int → α) (k : Nat) (j : Int) (v : α) : Nat → Int → α := fun a b => if a = k ∧ b = j then v else I a b
def upr (I : Nat → Nat → Option Nat) (k j v : Nat) : Nat → Nat → Option Nat := fun a b => if a = k ∧ b = j then some v else I a b
def cp2 (I : Nat → Int → Int) (s : Nat) (sp : Int) (d : Nat) (dp n : Int) : Nat → Int → Int := fun a b => if a = d ∧ dp ≤ b ∧ b < dp + n then I s (sp + (b - dp)) else I a b
/-- a is an object of class c; a row of n ints; a row of n references -/
def isO (σ : MM) (a c : Nat) : Prop := a < σ.2.2.2.1 ∧ σ.2.2.1 a = 10 * c + 5
def isA (σ : MM) (a n : Nat) : Prop := a < σ.2.2.2.1 ∧ σ.2.2.1 a = 10 * n
def isB (σ : MM) (a n : Nat) : Prop := a < σ.2.2.2.1 ∧ σ.2.2.1 a = 10 * n + 2
def isR (σ : MM) (a n : Nat) : Prop := a < σ.2.2.2.1 ∧ σ.2.2.1 a = 10 * n + 1
theorem cell_O {G : GG} {σ : MM} {a c : Nat} (h : σ.2.2.1 a = 10 * c + 5) : cellO G σ a = .inr (c, fieldsO G σ a c) := by
  unfold cellO
  rw [h, if_pos (by omega), show (10 * c + 5) / 10 = c from by omega]
theorem cell_A {G : GG} {σ : MM} {a n : Nat} (h : σ.2.2.1 a = 10 * n) : cellO G σ a = .inl (G.2.1.1, n, .inl (fun j => iI (σ.1 a (j : Int)))) := by
  unfold cellO
  rw [h, if_neg (by omega), if_pos (by omega), show 10 * n / 10 = n from by omega]
theorem cell_L {G : GG} {σ : MM} {a n : Nat} (h : σ.2.2.1 a = 10 * n + 2) : cellO G σ a = .inl (G.2.1.2.1, n, .inl (fun j => iI (σ.1 a (j : Int)))) := by
  unfold cellO
  rw [h, if_neg (by omega), if_neg (by omega), if_pos (by omega), show (10 * n + 2) / 10 = n from by omega]
theorem cell_R {G : GG} {σ : MM} {a n : Nat} (h : σ.2.2.1 a = 10 * n + 1) : cellO G σ a = .inl (G.2.1.2.2, n, .inr (.inr (.inr (.inr (fun j => (σ.2.1 a j).map (adr G)))))) := by
  unfold cellO
  rw [h, if_neg (by omega), if_neg (by omega), if_neg (by omega), show (10 * n + 1) / 10 = n from by omega]
theorem cell_same {G : GG} {σ τ : MM} {a : Nat} (h1 : ∀ j, τ.1 a j = σ.1 a j) (h2 : ∀ j, τ.2.1 a j = σ.2.1 a j) (h3 : τ.2.2.1 a = σ.2.2.1 a) (_h4 : σ.2.2.1 a % 10 = 2 → τ.2.2.2.2.1 = σ.2.2.2.2.1) : cellO G τ a = cellO G σ a := by
  have e1 : τ.1 a = σ.1 a := funext h1
  have e2 : τ.2.1 a = σ.2.1 a := funext h2
  unfold cellO fieldsO
  rw [h3, e1, e2]
theorem fld_get {G : GG} {σ : MM} {a c j : Nat} (hj : j < nf c) : (fieldsO G σ a c)[j]? = some (if fk c j = 2 then va_rf ((σ.2.1 a j).map (adr G)) else .int (iI (σ.1 a j))) := by
  unfold fieldsO
  rw [List.getElem?_map, List.getElem?_range hj]
  rfl
theorem fld_len {G : GG} {σ : MM} {a c : Nat} : (fieldsO G σ a c).length = nf c := by
  unfold fieldsO
  rw [List.length_map, List.length_range]
theorem ft_spec {o i c j q : Nat} (h : ftN o i = some (c, j, q)) : okC c = true ∧ j < nf c ∧ Cond.fieldLink (clsN o) i (declN c) (TT c j).2.1 (TT c j).2.2.1 ∈ T0 ∧ (TT c j).1 = declN c ∧ parseFieldDescriptor (TT c j).2.2.1 = some (tyT c j) ∧ (TT c j).2.2.2 = ff c j := by
  have h1 := ftOk h
  simp only [ftC, Bool.and_eq_true, decide_eq_true_eq] at h1
  have h2 := tyOk h1.1.1 h1.1.2
  simp only [tyC, Bool.and_eq_true, decide_eq_true_eq] at h2
  exact ⟨h1.1.1, h1.1.2, inT_ok h1.2, h2.1.2, h2.1.1.1, h2.1.1.2⟩
theorem ty_kind {c j : Nat} (hc : okC c = true) (hj : j < nf c) : (fk c j = 0 ∧ tyT c j = .int) ∨ (fk c j = 1 ∧ tyT c j = .boolean) ∨ (fk c j = 2 ∧ ((∃ n, tyT c j = .object n) ∨ ∃ t, tyT c j = .array t)) ∨ (fk c j = 3 ∧ tyT c j = .byte) := by
  have h2 := tyOk hc hj
  simp only [tyC, Bool.and_eq_true, decide_eq_true_eq] at h2
  have h3 := h2.2
  revert h3
  cases tyT c j <;> intro h3 <;> (split at h3 <;> simp_all)
section Rows2
variable {l : LX} {y k n pc : Nat} {L : LL} {st : List Value} {σ : MM} {Q : OO → Prop}
/-- a field of whole numbers is read -/
theorem x_getI {ix c j q a : Nat} {z : Int} (hf : ftN (owN y) ix = some (c, j, q)) (ho : isO σ a c) (hk : ¬ fk c j = 2) (hz : (j : Int) = z) (hd : decode (cdN y) pc = .ok (.getfield ix, 3)) (kk : Ex l y k n (pc + 3) L (.int (iI (σ.1 a z)) :: st) σ Q) : Ex l y k n pc L (.ref a :: st) σ Q := by
  intro G p e R s m args below meth c0 A CE SE Qf hA hC hS hF H locs cells slots ls h1 h2 hL hW hR
  obtain ⟨hc, hj, hlk, hcl, -, -⟩ := ft_spec hf
  have hST := hA.2.2.2.2.2.2.2.2.2.2.2.2.2
  rw [show cvs G (.ref a :: st) = .ref (adr G a) :: cvs G st from rfl, adr_lt (Nat.lt_of_lt_of_le ho.1 hW.1)]
  have hv := fld_get (G := G) (σ := σ) (a := a) hj
  rw [if_neg hk, hz] at hv
  exact va_get hA.2.1 hA.2.2.1 hA.2.2.2.2.2.2.2.2.1 (lyOk hc) hA.2.2.2.2.2.1 hST.1 hW.2.1 a (by rw [wsO_get ho.1, cell_O ho.2]) (vwOk hc) j hj (hA.2.2.2.2.2.2.2.2.1 _ hlk) (fun x hx => by rw [hcl] at hx; exact hx) hv hd (kk G p e R s m args below meth c0 A CE SE Qf hA hC hS hF H locs cells slots ls h1 h2 hL hW hR)
/-- a field of references is read -/
theorem x_getR {ix c j q a r : Nat} (hf : ftN (owN y) ix = some (c, j, q)) (ho : isO σ a c) (hk : fk c j = 2) (hr : σ.2.1 a j = some r) (hd : decode (cdN y) pc = .ok (.getfield ix, 3)) (kk : Ex l y k n (pc + 3) L (.ref r :: st) σ Q) : Ex l y k n pc L (.ref a :: st) σ Q := by
  intro G p e R s m args below meth c0 A CE SE Qf hA hC hS hF H locs cells slots ls h1 h2 hL hW hR
  obtain ⟨hc, hj, hlk, hcl, -, -⟩ := ft_spec hf
  have hST := hA.2.2.2.2.2.2.2.2.2.2.2.2.2
  rw [show cvs G (.ref a :: st) = .ref (adr G a) :: cvs G st from rfl, adr_lt (Nat.lt_of_lt_of_le ho.1 hW.1)]
  have hv := fld_get (G := G) (σ := σ) (a := a) hj
  rw [if_pos hk, hr] at hv
  exact va_get hA.2.1 hA.2.2.1 hA.2.2.2.2.2.2.2.2.1 (lyOk hc) hA.2.2.2.2.2.1 hST.1 hW.2.1 a (by rw [wsO_get ho.1, cell_O ho.2]) (vwOk hc) j hj (hA.2.2.2.2.2.2.2.2.1 _ hlk) (fun x hx => by rw [hcl] at hx; exact hx) hv hd (kk G p e R s m args below meth c0 A CE SE Qf hA hC hS hF H locs cells slots ls h1 h2 hL hW hR)
theorem up2_off {I : Nat → Int → Int} {k a : Nat} {j v : Int} (h : a ≠ k) : ∀ b, up2 I k j v a b = I a b := fun b => if_neg (fun z => h z.1)
theorem fld_set {G : GG} {σ : MM} {a c j : Nat} {z v : Int} (hk : ¬ fk c j = 2) (hz : (j : Int) = z) : (fieldsO G σ a c).set j (.int (iI v)) = fieldsO G (up2 σ.1 a z v, σ.2) a c := by
  apply List.ext_getElem?
  intro i
  by_cases hi : i < nf c
  · rw [List.getElem?_set, fld_get hi, fld_len]
    by_cases e : j = i
    · subst e
      rw [if_pos rfl, if_pos hi, fld_get hi, if_neg hk]
      show _ = some (Value.int (iI (up2 σ.1 a z v a (j : Int))))
      rw [show up2 σ.1 a z v a (j : Int) = v from if_pos ⟨rfl, hz⟩]
    · rw [if_neg e, fld_get hi]
      show some (if fk c i = 2 then va_rf ((σ.2.1 a i).map (adr G)) else Value.int (iI (σ.1 a i))) = some (if fk c i = 2 then va_rf ((σ.2.1 a i).map (adr G)) else Value.int (iI (up2 σ.1 a z v a i)))
      rw [show up2 σ.1 a z v a (i : Int) = σ.1 a i from if_neg (fun q => e (by have := q.2; omega))]
  · rw [List.getElem?_eq_none (by rw [List.length_set, fld_len]; omega), List.getElem?_eq_none (by rw [fld_len]; omega)]
/-- a field of whole numbers is written -/
theorem x_putI {ix c j q a : Nat} {z v : Int} (hf : ftN (owN y) ix = some (c, j, q)) (ho : isO σ a c) (hk : fk c j = 0 ∨ (fk c j = 1 ∧ (v = 0 ∨ v = 1)) ∨ (fk c j = 3 ∧ v = 0)) (hff : ff c j = false) (hz : (j : Int) = z) (hd : decode (cdN y) pc = .ok (.putfield ix, 3)) (kk : Ex l y k n (pc + 3) L st (up2 σ.1 a z v, σ.2) Q) : Ex l y k n pc L (.int (iI v) :: .ref a :: st) σ Q := by
  intro G p e R s m args below meth c0 A CE SE Qf hA hC hS hF H locs cells slots ls h1 h2 hL hW hR
  obtain ⟨hc, hj, hlk, hcl, hpd, hfin⟩ := ft_spec hf
  have hST := hA.2.2.2.2.2.2.2.2.2.2.2.2.2
  rw [show cvs G (.int (iI v) :: .ref a :: st) = .int (iI v) :: .ref (adr G a) :: cvs G st from rfl, adr_lt (Nat.lt_of_lt_of_le ho.1 hW.1)]
  have hk2 : ¬ fk c j = 2 := by rcases hk with h | h | h <;> omega
  have hnf : narrow (tyT c j) (.int (iI v)) = .int (iI v) ∧ fits (tyT c j) (.int (iI v)) = true := by
    rcases ty_kind hc hj with ⟨e1, e2⟩ | ⟨e1, e2⟩ | ⟨e1, e2⟩ | ⟨e1, e2⟩
    · rw [e2]; exact ⟨rfl, rfl⟩
    · rw [e2]
      rcases hk with h | ⟨-, h | h⟩ | ⟨h, -⟩
      · omega
      · rw [h]; exact ⟨by decide, by decide⟩
      · rw [h]; exact ⟨by decide, by decide⟩
      · omega
    · exact absurd e1 hk2
    · rw [e2]
      rcases hk with h | ⟨h, -⟩ | ⟨-, h⟩
      · omega
      · omega
      · rw [h]; exact ⟨by decide, by decide⟩
  refine va_put hA.2.1 hA.2.2.1 hA.2.2.2.2.2.2.2.2.1 (lyOk hc) (tyT c) (fun i hi => by
    have h9 := tyOk hc hi
    simp only [tyC, Bool.and_eq_true, decide_eq_true_eq] at h9
    exact h9.1.1.1) (nmOk hc) hA.2.2.2.2.2.1 hST.1 hW.2.1 hW.2.2.1 hW.2.2.2 a (by rw [wsO_get ho.1, cell_O ho.2]) (vwOk hc) j hj (hA.2.2.2.2.2.2.2.2.1 _ hlk) (fun x hx => by rw [hcl] at hx; exact hx) (hfin.trans hff) hpd hnf.1 hnf.2 (by rw [fld_len]; exact hj) hd (fun H1 locs1 hP hD hS1 => ?_)
  have heq : (wsO G σ).set a (G.2.2.2.2.2 a, .inr (c, (fieldsO G σ a c).set j (.int (iI v)))) = wsO G (up2 σ.1 a z v, σ.2) := wsO_set ho.1 rfl (by rw [cell_O (σ := (up2 σ.1 a z v, σ.2)) ho.2, fld_set hk2 hz]) (fun i hi _ => cell_same (up2_off hi) (fun _ => rfl) rfl (fun _ => rfl))
  rw [heq] at hP hD
  exact kk G p e R s m args below meth c0 A CE SE Qf hA hC hS hF H1 locs1 cells slots ls h1 h2 hL ⟨hW.1, hP, hD, hS1⟩ hR
theorem fld_setR {G : GG} {σ : MM} {a c j r : Nat} (hk : fk c j = 2) : (fieldsO G σ a c).set j (.ref (adr G r)) = fieldsO G (σ.1, upr σ.2.1 a j r, σ.2.2) a c := by
  apply List.ext_getElem?
  intro i
  by_cases hi : i < nf c
  · rw [List.getElem?_set, fld_get hi, fld_len]
    by_cases e : j = i
    · subst e
      rw [if_pos rfl, if_pos hi, fld_get hi, if_pos hk]
      show _ = some (va_rf ((upr σ.2.1 a j r a j).map (adr G)))
      rw [show upr σ.2.1 a j r a j = some r from if_pos ⟨rfl, rfl⟩]
      rfl
    · rw [if_neg e, fld_get hi]
      show some (if fk c i = 2 then va_rf ((σ.2.1 a i).map (adr G)) else Value.int (iI (σ.1 a i))) = some (if fk c i = 2 then va_rf ((upr σ.2.1 a j r a i).map (adr G)) else Value.int (iI (σ.1 a i)))
      rw [show upr σ.2.1 a j r a i = σ.2.1 a i from if_neg (fun q => e q.2.symm)]
  · rw [List.getElem?_eq_none (by rw [List.length_set, fld_len]; omega), List.getElem?_eq_none (by rw [fld_len]; omega)]
theorem upr_off {I : Nat → Nat → Option Nat} {k a j v : Nat} (h : a ≠ k) : ∀ b, upr I k j v a b = I a b := fun b => if_neg (fun z => h z.1)
/-- a final field of references, in the constructor -/
theorem x_putF {ix c j q a r : Nat} (hf : ftN (owN y) ix = some (c, j, q)) (ho : isO σ a c) (hk : fk c j = 2) (hff : ff c j = true) (hi : inN y = true) (hoc : owN y = c) (hd : decode (cdN y) pc = .ok (.putfield ix, 3)) (kk : Ex l y k n (pc + 3) L st (σ.1, upr σ.2.1 a j r, σ.2.2) Q) : Ex l y k n pc L (.ref r :: .ref a :: st) σ Q := by
  intro G p e R s m args below meth c0 A CE SE Qf hA hC hS hF H locs cells slots ls h1 h2 hL hW hR
  obtain ⟨hc, hj, hlk, hcl, hpd, hfin⟩ := ft_spec hf
  have hST := hA.2.2.2.2.2.2.2.2.2.2.2.2.2
  rw [show cvs G (.ref r :: .ref a :: st) = .ref (adr G r) :: .ref (adr G a) :: cvs G st from rfl, adr_lt (Nat.lt_of_lt_of_le ho.1 hW.1)]
  have hnf : narrow (tyT c j) (.ref (adr G r)) = .ref (adr G r) ∧ fits (tyT c j) (.ref (adr G r)) = true := by
    rcases ty_kind hc hj with ⟨e1, e2⟩ | ⟨e1, e2⟩ | ⟨e1, ⟨t, e2⟩ | ⟨t, e2⟩⟩ | ⟨e1, e2⟩
    · omega
    · omega
    · rw [e2]; exact ⟨rfl, rfl⟩
    · rw [e2]; exact ⟨rfl, rfl⟩
    · omega
  refine va_putF hA.2.1 hA.2.2.1 hA.2.2.2.2.2.2.2.2.1 (lyOk hc) (tyT c) (fun i hi => by
    have h9 := tyOk hc hi
    simp only [tyC, Bool.and_eq_true, decide_eq_true_eq] at h9
    exact h9.1.1.1) (nmOk hc) hA.2.2.2.2.2.1 hST.1 hW.2.1 hW.2.2.1 hW.2.2.2 a (by rw [wsO_get ho.1, cell_O ho.2]) (vwOk hc) j hj (hA.2.2.2.2.2.2.2.2.1 _ hlk) (fun x hx => by rw [hcl] at hx; exact hx) (hfin.trans hff) (hA.2.2.2.2.2.2.2.1 hi) (by rw [hcl, hoc]) hpd hnf.1 hnf.2 (by rw [fld_len]; exact hj) hd (fun H1 locs1 hP hD hS1 => ?_)
  have heq : (wsO G σ).set a (G.2.2.2.2.2 a, .inr (c, (fieldsO G σ a c).set j (.ref (adr G r)))) = wsO G (σ.1, upr σ.2.1 a j r, σ.2.2) := wsO_set ho.1 rfl (by rw [cell_O (σ := (σ.1, upr σ.2.1 a j r, σ.2.2)) ho.2, fld_setR hk]) (fun i hi _ => cell_same (fun _ => rfl) (upr_off hi) rfl (fun _ => rfl))
  rw [heq] at hP hD
  exact kk G p e R s m args below meth c0 A CE SE Qf hA hC hS hF H1 locs1 cells slots ls h1 h2 hL ⟨hW.1, hP, hD, hS1⟩ hR
/-- rows of ints -/
theorem x_iald {a m0 : Nat} {i : Int} (ho : isA σ a m0) (h0 : 0 ≤ i) (h9 : i < m0) (hm : i ≤ 2147483647) (hd : decode (cdN y) pc = .ok (.iaload, 1)) (kk : Ex l y k n (pc + 1) L (.int (iI (σ.1 a i)) :: st) σ Q) : Ex l y k n pc L (.int (iI i) :: .ref a :: st) σ Q := by
  intro G p e R s m args below meth c0 A CE SE Qf hA hC hS hF H locs cells slots ls h1 h2 hL hW hR
  have hST := hA.2.2.2.2.2.2.2.2.2.2.2.2.2
  rw [show cvs G (.int (iI i) :: .ref a :: st) = .int (iI i) :: .ref (adr G a) :: cvs G st from rfl, adr_lt (Nat.lt_of_lt_of_le ho.1 hW.1)]
  have e9 : ((iI i).toNatClampNeg : Int) = i := by rw [iI_clamp ⟨by omega, hm⟩]; omega
  refine va_iald hA.2.1 hA.2.2.1 hST.1 hW.2.1 a 0 (by rw [wsO_get ho.1, cell_A ho.2]) rfl (iI_in h0 h9 hm) hd ?_
  have h := kk G p e R s m args below meth c0 A CE SE Qf hA hC hS hF H locs cells slots ls h1 h2 hL hW hR
  show W _ _ _ _ _ _ _ _ _ _ _ _ _ _ _ (F0 m (pc + 1) ls (.int (iI (σ.1 a (((iI i).toNatClampNeg : Nat) : Int))) :: cvs G st))
  rw [e9]
  exact h
theorem x_iast {a m0 : Nat} {i v : Int} (ho : isA σ a m0) (h0 : 0 ≤ i) (h9 : i < m0) (hm : i ≤ 2147483647) (hd : decode (cdN y) pc = .ok (.iastore, 1)) (kk : Ex l y k n (pc + 1) L st (up2 σ.1 a i v, σ.2) Q) : Ex l y k n pc L (.int (iI v) :: .int (iI i) :: .ref a :: st) σ Q := by
  intro G p e R s m args below meth c0 A CE SE Qf hA hC hS hF H locs cells slots ls h1 h2 hL hW hR
  have hST := hA.2.2.2.2.2.2.2.2.2.2.2.2.2
  rw [show cvs G (.int (iI v) :: .int (iI i) :: .ref a :: st) = .int (iI v) :: .int (iI i) :: .ref (adr G a) :: cvs G st from rfl, adr_lt (Nat.lt_of_lt_of_le ho.1 hW.1)]
  have e9 : (iI i).toNatClampNeg = i.toNat := iI_clamp ⟨by omega, hm⟩
  refine va_iast hA.2.1 hA.2.2.1 hST.1 hW.2.1 hW.2.2.1 hW.2.2.2 a 0 (by rw [wsO_get ho.1, cell_A ho.2]) rfl (iI_in h0 h9 hm) hd (fun H1 locs1 hP hD hS1 => ?_)
  have heq : (wsO G σ).set a (G.2.2.2.2.2 a, .inl (G.2.1.1, m0, .inl (upd (fun j => iI (σ.1 a (j : Int))) (iI i).toNatClampNeg (iI v)))) = wsO G (up2 σ.1 a i v, σ.2) := by
    refine wsO_set ho.1 rfl ?_ (fun i hi _ => cell_same (up2_off hi) (fun _ => rfl) rfl (fun _ => rfl))
    rw [cell_A (σ := (up2 σ.1 a i v, σ.2)) ho.2, e9]
    congr 3
    congr 1
    funext j
    by_cases hj : j = i.toNat
    · subst hj
      rw [pk_us]
      show iI v = iI (up2 σ.1 a i v a ((i.toNat : Nat) : Int))
      rw [show up2 σ.1 a i v a ((i.toNat : Nat) : Int) = v from if_pos ⟨rfl, by omega⟩]
    · rw [pk_un hj]
      show _ = iI (up2 σ.1 a i v a (j : Int))
      rw [show up2 σ.1 a i v a (j : Int) = σ.1 a j from if_neg (fun z => hj (by have := z.2; omega))]
  rw [heq] at hP hD
  exact kk G p e R s m args below meth c0 A CE SE Qf hA hC hS hF H1 locs1 cells slots ls h1 h2 hL ⟨hW.1, hP, hD, hS1⟩ hR
theorem x_alen {a m0 : Nat} (ho : isA σ a m0) (hd : decode (cdN y) pc = .ok (.arraylength, 1)) (kk : Ex l y k n (pc + 1) L (.int (iI m0) :: st) σ Q) : Ex l y k n pc L (.ref a :: st) σ Q := by
  intro G p e R s m args below meth c0 A CE SE Qf hA hC hS hF H locs cells slots ls h1 h2 hL hW hR
  have hST := hA.2.2.2.2.2.2.2.2.2.2.2.2.2
  rw [show cvs G (.ref a :: st) = .ref (adr G a) :: cvs G st from rfl, adr_lt (Nat.lt_of_lt_of_le ho.1 hW.1)]
  exact va_alen hA.2.1 hA.2.2.1 hST.1 hW.2.1 a 0 (x := (m0, .inl (fun j => iI (σ.1 a (j : Int))))) (by rw [wsO_get ho.1, cell_A ho.2]) (ty := .int) rfl (iI_nat m0) hd (kk G p e R s m args below meth c0 A CE SE Qf hA hC hS hF H locs cells slots ls h1 h2 hL hW hR)
/-- the script's length, and what stands in it: G says which; the law's own row -/
theorem x_slen (hd : decode (cdN y) pc = .ok (.arraylength, 1)) (kk : Ex l y k n (pc + 1) L (.int (iI l.2.1) :: st) σ Q) : Ex l y k n pc L (.ref scr :: st) σ Q := by
  intro G p e R s m args below meth c0 A CE SE Qf hA hC hS hF H locs cells slots ls h1 h2 hL hW hR
  have hST := hA.2.2.2.2.2.2.2.2.2.2.2.2.2
  rw [show cvs G (.ref scr :: st) = .ref (adr G scr) :: cvs G st from rfl, adr_scr]
  refine va_slen hA.2.1 hA.2.2.1 hST.2.1.1 hST.2.1.2.1 hST.2.1.2.2 hW.2.2.2 hd ?_
  have h := kk G p e R s m args below meth c0 A CE SE Qf hA hC hS hF H locs cells slots ls h1 h2 hL hW hR
  rw [← hA.1.2.1] at h
  have e9 : Int32.ofNat G.2.2.1.2.1 = iI G.2.2.1.2.1 := iI_nat _
  rw [e9]
  exact h
theorem x_sld {i : Int} (h0 : 0 ≤ i) (h9 : i < l.2.1) (hm : i ≤ 2147483647) (hd : decode (cdN y) pc = .ok (.iaload, 1)) (kk : Ex l y k n (pc + 1) L (.int (iI (l.2.2 i.toNat)) :: st) σ Q) : Ex l y k n pc L (.int (iI i) :: .ref scr :: st) σ Q := by
  intro G p e R s m args below meth c0 A CE SE Qf hA hC hS hF H locs cells slots ls h1 h2 hL hW hR
  have hST := hA.2.2.2.2.2.2.2.2.2.2.2.2.2
  rw [show cvs G (.int (iI i) :: .ref scr :: st) = .int (iI i) :: .ref (adr G scr) :: cvs G st from rfl, adr_scr]
  have e9 : (iI i).toNatClampNeg = i.toNat := iI_clamp ⟨by omega, hm⟩
  refine va_sld hA.2.1 hA.2.2.1 hST.2.1.1 hST.2.1.2.1 hST.2.1.2.2 hW.2.2.2 (iI_in h0 (by rw [hA.1.2.1]; exact h9) hm) hd ?_
  have h := kk G p e R s m args below meth c0 A CE SE Qf hA hC hS hF H locs cells slots ls h1 h2 hL hW hR
  rw [e9, hA.1.2.2 i.toNat (by omega)]
  exact h
/-- an element of a row of references -/
theorem x_aald {a m0 r : Nat} {i : Int} (ho : isR σ a m0) (h0 : 0 ≤ i) (h9 : i < m0) (hm : i ≤ 2147483647) (hr : σ.2.1 a i.toNat = some r) (hd : decode (cdN y) pc = .ok (.aaload, 1)) (kk : Ex l y k n (pc + 1) L (.ref r :: st) σ Q) : Ex l y k n pc L (.int (iI i) :: .ref a :: st) σ Q := by
  intro G p e R s m args below meth c0 A CE SE Qf hA hC hS hF H locs cells slots ls h1 h2 hL hW hR
  have hST := hA.2.2.2.2.2.2.2.2.2.2.2.2.2
  rw [show cvs G (.int (iI i) :: .ref a :: st) = .int (iI i) :: .ref (adr G a) :: cvs G st from rfl, adr_lt (Nat.lt_of_lt_of_le ho.1 hW.1)]
  have e9 : (iI i).toNatClampNeg = i.toNat := iI_clamp ⟨by omega, hm⟩
  refine va_aldq (f := fun j => (σ.2.1 a j).map (adr G)) hA.2.1 hA.2.2.1 hST.1 hW.2.1 a 2 (by rw [wsO_get ho.1, cell_R ho.2]) rfl (iI_in h0 h9 hm) hd ?_
  have h := kk G p e R s m args below meth c0 A CE SE Qf hA hC hS hF H locs cells slots ls h1 h2 hL hW hR
  rw [e9, hr]
  exact h
theorem x_aast {a m0 r c : Nat} {i : Int} (ho : isR σ a m0) (h0 : 0 ≤ i) (h9 : i < m0) (hm : i ≤ 2147483647) (hr : isO σ r 5) (hc5 : clsN 5 = "MatchboxModem$Line") (hd : decode (cdN y) pc = .ok (.aastore, 1)) (kk : Ex l y k n (pc + 1) L st (σ.1, upr σ.2.1 a i.toNat r, σ.2.2) Q) : Ex l y k n pc L (.ref r :: .int (iI i) :: .ref a :: st) σ Q := by
  intro G p e R s m args below meth c0 A CE SE Qf hA hC hS hF H locs cells slots ls h1 h2 hL hW hR
  have hST := hA.2.2.2.2.2.2.2.2.2.2.2.2.2
  rw [show cvs G (.ref r :: .int (iI i) :: .ref a :: st) = .ref (adr G r) :: .int (iI i) :: .ref (adr G a) :: cvs G st from rfl, adr_lt (Nat.lt_of_lt_of_le ho.1 hW.1)]
  have er : adr G r = G.2.2.2.2.2 r := adr_lt (Nat.lt_of_lt_of_le hr.1 hW.1)
  rw [er]
  have e9 : (iI i).toNatClampNeg = i.toNat := iI_clamp ⟨by omega, hm⟩
  refine va_astq (f := fun j => (σ.2.1 a j).map (adr G)) (r := (clsN 5, TT 5, nf 5)) (vs := fieldsO G σ r 5) hA.2.1 hA.2.2.1 hST.1 hW.2.1 hW.2.2.1 hW.2.2.2 a 2 r 5 (by rw [wsO_get ho.1, cell_R ho.2]) (by rw [hc5]; rfl) (by rw [wsO_get hr.1, cell_O hr.2]) (vwOk (by decide)) (iI_in h0 h9 hm) hd (fun H1 locs1 hP hD hS1 => ?_)
  have heq : (wsO G σ).set a (G.2.2.2.2.2 a, .inl (G.2.1.2.2, m0, .inr (.inr (.inr (.inr (va_up (fun j => (σ.2.1 a j).map (adr G)) (iI i).toNatClampNeg (some (G.2.2.2.2.2 r)))))))) = wsO G (σ.1, upr σ.2.1 a i.toNat r, σ.2.2) := by
    refine wsO_set ho.1 rfl ?_ (fun i hi _ => cell_same (fun _ => rfl) (upr_off hi) rfl (fun _ => rfl))
    rw [cell_R (σ := (σ.1, upr σ.2.1 a i.toNat r, σ.2.2)) ho.2, e9]
    congr 7
    funext j
    show (if j = i.toNat then some (G.2.2.2.2.2 r) else (σ.2.1 a j).map (adr G)) = (upr σ.2.1 a i.toNat r a j).map (adr G)
    by_cases hj : j = i.toNat
    · rw [if_pos hj, show upr σ.2.1 a i.toNat r a j = some r from if_pos ⟨rfl, hj⟩, ← er]
      rfl
    · rw [if_neg hj, show upr σ.2.1 a i.toNat r a j = σ.2.1 a j from if_neg (fun z => hj z.2)]
  rw [heq] at hP hD
  exact kk G p e R s m args below meth c0 A CE SE Qf hA hC hS hF H1 locs1 cells slots ls h1 h2 hL ⟨hW.1, hP, hD, hS1⟩ hR
end Rows2
end
section
/-! ===== rows that make cells; the JDK's own ===== -/
theorem tw {w : Cond} (h : w ∈ lw_tbl) (hg : goodWord w = true) : w ∈ T0 := List.mem_filter.mpr ⟨h, hg⟩
theorem acI : Cond.arrayClass (newarray.typeOf .int) ∈ T0 := inT_ok (p := 66) (by decide +kernel)
theorem acL : Cond.arrayClass (newarray.typeOf .byte) ∈ T0 := inT_ok (p := 497) (by decide +kernel)
/-- a new place, all of it 0 or null -/
def mkC (σ : MM) (κ : Nat) : MM := (fun a b => if a = σ.2.2.2.1 then 0 else σ.1 a b, fun a b => if a = σ.2.2.2.1 then none else σ.2.1 a b, fun a => if a = σ.2.2.2.1 then κ else σ.2.2.1 a, σ.2.2.2.1 + 1, σ.2.2.2.2)
theorem mkC_old {G : GG} {σ : MM} {κ j : Nat} (h : j < σ.2.2.2.1) : cellO G (mkC σ κ) j = cellO G σ j := by
  have hn : ¬ j = σ.2.2.2.1 := Nat.ne_of_lt h
  exact cell_same (fun _ => if_neg hn) (fun _ => if_neg hn) (if_neg hn) (fun _ => rfl)
/-- a new cell stands behind the others -/
theorem wok_new {G : GG} {A : Nat → Prop} {s : State} {H H1 : Heap} {locs : List Loc} {σ τ : MM} (hW : WOK G A s H locs σ) (hAA : ∀ q, s.heap.size ≤ q → A q) (hsz : H.size = G.2.2.2.2.2 σ.2.2.2.1) (hlt : σ.2.2.2.1 < scr) (hn : τ.2.2.2.1 = σ.2.2.2.1 + 1) (ho : ∀ j, j < σ.2.2.2.1 → cellO G τ j = cellO G σ j)
    (z1 : H1.size = H.size + 1) (o1 : ∀ q, q < H.size → H1[q]? = H[q]?) (hc : va_at G.1 vwCl (G.2.2.2.2.2 σ.2.2.2.1, cellO G τ σ.2.2.2.1) H1) : WOK G A s H1 locs τ := by
  obtain ⟨hnp, hP, hD, hS⟩ := hW
  have heq : wsO G σ ++ [(G.2.2.2.2.2 σ.2.2.2.1, cellO G τ σ.2.2.2.1)] = wsO G τ := wsO_app hn rfl ho
  refine ⟨by rw [hn]; exact hlt, ?_, ?_, Nat.le_trans hS.1 (by omega), fun q h1 h2 => (o1 q (Nat.lt_of_lt_of_le h1 hS.1)).trans (hS.2.1 q h1 h2), hS.2.2⟩
  · rw [← heq]
    refine (hP.kept fun k q hq => o1 q.1 (hP k q hq).lt).app fun k q hq => ?_
    have hz : k < 1 := (List.getElem?_eq_some_iff.mp hq).1
    rw [show k = 0 by omega] at hq
    cases hq
    exact hc
  · rw [← heq]
    exact hD.push hP hsz.symm (hAA _ (by rw [← hsz]; exact hS.1))
theorem W_by {p : Program} {l : Launch} {e : Env} {R : Room} {s : State} {m : MethodId} {args : Array Value} {below : List Frame} {meth : Method} {c : Code} {H : Heap} {locs : List Loc} {cells slots : Nat} {Qf : State → Prop} {g : JFrame} (h : ∀ T : State, T.heap = H → Stand p l e R s m args below meth c T locs cells slots → W p l e R s m args below meth c H locs cells slots Qf g) : W p l e R s m args below meth c H locs cells slots Qf g := fun T hT X => h T hT X T hT X
section Rows3
variable {l : LX} {y k n pc : Nat} {L : LL} {st : List Value} {σ : MM} {Q : OO → Prop}
theorem x_new {ix c q1 q2 q3 : Nat} (hc : clN (owN y) ix = some (c, q1, q2, q3)) (hnp : σ.2.2.2.1 < scr) (hf : σ.2.2.2.2.2 = true) (hd : decode (cdN y) pc = .ok (.new ix, 3)) (kk : Ex l y k n (pc + 3) L (.ref σ.2.2.2.1 :: st) (mkC σ (10 * c + 5)) Q) : Ex l y (k + 1) (n + nf c) pc L st σ Q := by
  intro G p e R s m args below meth c0 A CE SE Qf hA hC hS hF H locs cells slots ls h1 h2 hL hW hR
  have hST := hA.2.2.2.2.2.2.2.2.2.2.2.2.2
  have hcc := clOk hc
  simp only [clC, Bool.and_eq_true, decide_eq_true_eq] at hcc
  obtain ⟨⟨⟨hc11, w1⟩, w2⟩, w3⟩ := hcc
  have hts := hA.2.2.2.2.2.2.2.2.1
  have hKn := hST.1.1 c _ (vwOk hc11)
  refine W_by fun T hT X => ?_
  have hsz := size_of hW hR X hT hf
  refine W.newcK hA.2.1 hA.2.2.1 hA.2.2.2.2.2.1 (hts _ (inT_ok w1)) (hts _ (inT_ok w2)) (hts _ (inT_ok w3)) rfl hd (by omega) (by omega) hKn.2.1 hsz (fun H1 kC hkC e1 z1 o1 => ?_)
  have hty : ∀ i, i < nf c → parseFieldDescriptor (TT c i).2.2.1 = some (tyT c i) := fun i hi => by
    have h9 := tyOk hc11 hi
    simp only [tyC, Bool.and_eq_true, decide_eq_true_eq] at h9
    exact h9.1.1.1
  have hkd : (mkC σ (10 * c + 5)).2.2.1 σ.2.2.2.1 = 10 * c + 5 := if_pos rfl
  have hat : va_at G.1 vwCl (G.2.2.2.2.2 σ.2.2.2.1, cellO G (mkC σ (10 * c + 5)) σ.2.2.2.1) H1 := by
    rw [cell_O hkd]
    refine ⟨_, vwOk hc11, (u_born (tyT c) hts (lyOk hc11) hKn hkC e1 hty).to fun j hj => ?_⟩
    show defaultValue (tyT c j) = vp_V (fieldsO G (mkC σ (10 * c + 5)) σ.2.2.2.1 c) j
    unfold vp_V
    rw [List.getD_eq_getElem?_getD, fld_get hj]
    have e2 : (mkC σ (10 * c + 5)).2.1 σ.2.2.2.1 j = none := if_pos rfl
    have e3 : (mkC σ (10 * c + 5)).1 σ.2.2.2.1 (j : Int) = 0 := if_pos rfl
    rw [e2, e3]
    rcases ty_kind hc11 hj with ⟨f1, f2⟩ | ⟨f1, f2⟩ | ⟨f1, ⟨t, f2⟩ | ⟨t, f2⟩⟩ | ⟨f1, f2⟩ <;> rw [f1, f2] <;> rfl
  have hW1 := wok_new hW hA.2.2.2.2.2.2.2.2.2.2.2.2.1 hsz hnp rfl (fun j hj => mkC_old hj) (by rw [z1, hsz]) (fun q hq => o1 q (by rw [← hsz]; exact hq)) hat
  have h := kk G p e R s m args below meth c0 A CE SE Qf hA hC hS hF H1 locs (cells + 1) (slots + nf c) ls (by omega) (by omega) hL hW1 (fun z => by
    have := hR z
    exact ⟨by show s.heap.size + (cells + 1) = G.2.2.2.2.2 (σ.2.2.2.1 + 1); rw [this.2.1.suc.1]; omega, this.2.1.suc.2, AJ.suc this.2.1⟩)
  rw [show cvs G (.ref σ.2.2.2.1 :: st) = .ref (adr G σ.2.2.2.1) :: cvs G st from rfl, adr_lt hnp] at h
  exact h
theorem x_newI {z : Int} {m0 : Nat} (hz : (m0 : Int) = z) (hm : m0 ≤ 100000) (hnp : σ.2.2.2.1 < scr) (hf : σ.2.2.2.2.2 = true) (hd : decode (cdN y) pc = .ok (.newarray .int, 2)) (kk : Ex l y k n (pc + 2) L (.ref σ.2.2.2.1 :: st) (mkC σ (10 * m0)) Q) : Ex l y (k + 1) (n + m0) pc L (.int (iI z) :: st) σ Q := by
  intro G p e R s m args below meth c0 A CE SE Qf hA hC hS hF H locs cells slots ls h1 h2 hL hW hR
  have hST := hA.2.2.2.2.2.2.2.2.2.2.2.2.2
  have hts := hA.2.2.2.2.2.2.2.2.1
  have hz2 : InR z := ⟨by omega, by omega⟩
  refine W_by fun T hT X => ?_
  have hsz := size_of hW hR X hT hf
  refine va_newaK hA.2.1 hA.2.2.1 (hts _ acI) rfl hd rfl (n := iI z) (N := m0) (by rw [iI_0, iI_lt hz2 inR_0]; omega) (by rw [iI_clamp hz2]; omega) (by show m0 * 4 ≤ 536870912; omega) (by omega) (by omega) hsz (fun H1 cA e1 z1 o1 hAr hNm => ?_)
  have hcA : cA = G.2.1.1 := Option.some.inj (hNm.symm.trans (hST.1.2 0 _ rfl).2)
  subst hcA
  have hkd : (mkC σ (10 * m0)).2.2.1 σ.2.2.2.1 = 10 * m0 := if_pos rfl
  have hat : va_at G.1 vwCl (G.2.2.2.2.2 σ.2.2.2.1, cellO G (mkC σ (10 * m0)) σ.2.2.2.1) H1 := by
    rw [cell_A hkd]
    show H1[_]? = some (vp_cell _ _)
    rw [e1, vp_cell_i]
    congr 2
    funext j
    have e3 : (mkC σ (10 * m0)).1 σ.2.2.2.1 (j : Int) = 0 := if_pos rfl
    rw [e3]
    rfl
  have hW1 := wok_new hW hA.2.2.2.2.2.2.2.2.2.2.2.2.1 hsz hnp rfl (fun j hj => mkC_old hj) (by rw [z1, hsz]) (fun q hq => o1 q (by rw [← hsz]; exact hq)) hat
  have h := kk G p e R s m args below meth c0 A CE SE Qf hA hC hS hF H1 locs (cells + 1) (slots + m0) ls (by omega) (by omega) hL hW1 (fun z => by
    have := hR z
    exact ⟨by show s.heap.size + (cells + 1) = G.2.2.2.2.2 (σ.2.2.2.1 + 1); rw [this.2.1.suc.1]; omega, this.2.1.suc.2, AJ.suc this.2.1⟩)
  rw [show cvs G (.ref σ.2.2.2.1 :: st) = .ref (adr G σ.2.2.2.1) :: cvs G st from rfl, adr_lt hnp] at h
  exact h
theorem x_newL {z : Int} {m0 : Nat} (hz : (m0 : Int) = z) (hm : m0 ≤ 100000) (hnp : σ.2.2.2.1 < scr) (hf : σ.2.2.2.2.2 = true) (hd : decode (cdN y) pc = .ok (.newarray .byte, 2)) (kk : Ex l y k n (pc + 2) L (.ref σ.2.2.2.1 :: st) (mkC σ (10 * m0 + 2)) Q) : Ex l y (k + 1) (n + m0) pc L (.int (iI z) :: st) σ Q := by
  intro G p e R s m args below meth c0 A CE SE Qf hA hC hS hF H locs cells slots ls h1 h2 hL hW hR
  have hST := hA.2.2.2.2.2.2.2.2.2.2.2.2.2
  have hts := hA.2.2.2.2.2.2.2.2.1
  have hz2 : InR z := ⟨by omega, by omega⟩
  refine W_by fun T hT X => ?_
  have hsz := size_of hW hR X hT hf
  refine va_newaK hA.2.1 hA.2.2.1 (hts _ acL) rfl hd rfl (n := iI z) (N := m0) (by rw [iI_0, iI_lt hz2 inR_0]; omega) (by rw [iI_clamp hz2]; omega) (by show m0 * 1 ≤ 536870912; omega) (by omega) (by omega) hsz (fun H1 cA e1 z1 o1 hAr hNm => ?_)
  have hcA : cA = G.2.1.2.1 := Option.some.inj (hNm.symm.trans (hST.1.2 1 _ rfl).2)
  subst hcA
  have hkd : (mkC σ (10 * m0 + 2)).2.2.1 σ.2.2.2.1 = 10 * m0 + 2 + 2 := if_pos rfl
  have hat : va_at G.1 vwCl (G.2.2.2.2.2 σ.2.2.2.1, cellO G (mkC σ (10 * m0 + 2)) σ.2.2.2.1) H1 := by
    rw [cell_L hkd]
    show H1[_]? = some (vp_cell _ _)
    rw [e1, vp_cell_i]
    congr 2
    funext j
    have e3 : (mkC σ (10 * m0 + 2)).1 σ.2.2.2.1 (j : Int) = 0 := if_pos rfl
    rw [e3]
    rfl
  have hW1 := wok_new hW hA.2.2.2.2.2.2.2.2.2.2.2.2.1 hsz hnp rfl (fun j hj => mkC_old hj) (by rw [z1, hsz]) (fun q hq => o1 q (by rw [← hsz]; exact hq)) hat
  have h := kk G p e R s m args below meth c0 A CE SE Qf hA hC hS hF H1 locs (cells + 1) (slots + m0) ls (by omega) (by omega) hL hW1 (fun z => by
    have := hR z
    exact ⟨by show s.heap.size + (cells + 1) = G.2.2.2.2.2 (σ.2.2.2.1 + 1); rw [this.2.1.suc.1]; omega, this.2.1.suc.2, AJ.suc this.2.1⟩)
  rw [show cvs G (.ref σ.2.2.2.1 :: st) = .ref (adr G σ.2.2.2.1) :: cvs G st from rfl, adr_lt hnp] at h
  exact h
theorem x_newR {ix q1 q2 q3 : Nat} {z : Int} {m0 : Nat} (hz : (m0 : Int) = z) (hm : m0 ≤ 100000) (hc : clN (owN y) ix = some (5, q1, q2, q3)) (hnp : σ.2.2.2.1 < scr) (hf : σ.2.2.2.2.2 = true) (hd : decode (cdN y) pc = .ok (.anewarray ix, 3)) (kk : Ex l y k n (pc + 3) L (.ref σ.2.2.2.1 :: st) (mkC σ (10 * m0 + 1)) Q) : Ex l y (k + 1) (n + m0) pc L (.int (iI z) :: st) σ Q := by
  intro G p e R s m args below meth c0 A CE SE Qf hA hC hS hF H locs cells slots ls h1 h2 hL hW hR
  have hST := hA.2.2.2.2.2.2.2.2.2.2.2.2.2
  have hts := hA.2.2.2.2.2.2.2.2.1
  have hz2 : InR z := ⟨by omega, by omega⟩
  have hcc := clOk hc
  simp only [clC, Bool.and_eq_true, decide_eq_true_eq] at hcc
  obtain ⟨⟨⟨hc11, w1⟩, w2⟩, w3⟩ := hcc
  have hN : (iI z).toNatClampNeg = m0 := by rw [iI_clamp hz2]; omega
  refine W_by fun T hT X => ?_
  have hsz := size_of hW hR X hT hf
  refine W.anew hA.2.1 hA.2.2.1 hA.2.2.2.2.2.1 (hts _ (inT_ok w1)) (va_AO.use hST.2.2.2.2.2.2.2.2.2.1) rfl hd rfl (n := iI z) (by rw [iI_0, iI_lt hz2 inR_0]; omega) (by rw [hN]; omega) (by omega) (by rw [hN]; omega) (fun cA kA comp f1 f2 f3 f4 => ?_)
  have hcA : cA = G.2.1.2.2 := by
    obtain ⟨kA9, comp9, g1, g2, g3, g4⟩ := (hST.1.2 2 _ rfl).2
    exact Option.some.inj (f1.symm.trans g4)
  subst hcA
  generalize hH1 : H.push ({ cls := G.2.1.2.2, slots := Array.replicate (iI z).toNatClampNeg .null, vm := .none } : Cell) = H1
  have z1 : H1.size = H.size + 1 := by rw [← hH1, Array.size_push]
  have e1 : H1[H.size]? = some (arrV G.2.1.2.2 m0 (fun _ => .null)) := by rw [← hH1, Array.getElem?_push_size, ← arrV_new, hN]
  have o1 : ∀ q : Nat, q < H.size → H1[q]? = H[q]? := fun q hq => by rw [← hH1, Array.getElem?_push, if_neg (Nat.ne_of_lt hq)]
  have hkd : (mkC σ (10 * m0 + 1)).2.2.1 σ.2.2.2.1 = 10 * m0 + 1 := if_pos rfl
  have hat : va_at G.1 vwCl (G.2.2.2.2.2 σ.2.2.2.1, cellO G (mkC σ (10 * m0 + 1)) σ.2.2.2.1) H1 := by
    rw [cell_R hkd]
    show H1[_]? = some (vp_cell _ _)
    rw [← hsz, e1, vp_cell_q]
    congr 2
    funext j
    have e3 : (mkC σ (10 * m0 + 1)).2.1 σ.2.2.2.1 j = none := if_pos rfl
    rw [e3]
    rfl
  have hW1 := wok_new hW hA.2.2.2.2.2.2.2.2.2.2.2.2.1 hsz hnp rfl (fun j hj => mkC_old hj) z1 o1 hat
  have h := kk G p e R s m args below meth c0 A CE SE Qf hA hC hS hF H1 locs (cells + 1) (slots + m0) ls (by omega) (by omega) hL hW1 (fun z => by
    have := hR z
    exact ⟨by show s.heap.size + (cells + 1) = G.2.2.2.2.2 (σ.2.2.2.1 + 1); rw [this.2.1.suc.1]; omega, this.2.1.suc.2, AJ.suc this.2.1⟩)
  rw [show cvs G (.ref σ.2.2.2.1 :: st) = .ref (adr G σ.2.2.2.1) :: cvs G st from rfl, adr_lt hnp, ← hsz] at h
  rw [hN]
  exact h
/-! the JDK's own -/
theorem x_obj {ix t a : Nat} {ps : List Nat} (hc : ctN (owN y) ix = some (9, t, ps)) (hh : 1 ≤ htN y) (hl : cats st + 12 ≤ loN y) (hd : decode (cdN y) pc = .ok (.invokespecial ix, 3)) (kk : Ex l y k n (pc + 3) L st σ Q) : Ex l y k n pc L (.ref a :: st) σ Q := by
  intro G p e R s m args below meth c0 A CE SE Qf hA hC hS hF H locs cells slots ls h1 h2 hL hW hR
  obtain ⟨hw, -⟩ := ctIn hc
  have hts := hA.2.2.2.2.2.2.2.2.1
  exact W.objInit hA.2.1 hA.2.2.1 hA.2.2.2.2.2.1 (hts _ (tw (hw _ (by simp [ctW])) rfl)) (hts _ (tw (hw _ (by simp [ctW])) rfl)) (hts _ (tw (hw _ (by simp [ctW])) rfl)) (g := F0 m pc ls (cvs G (.ref a :: st))) rfl (by rw [hA.2.2.2.1]; exact hL.1) rfl hd (by rw [hA.2.2.2.2.2.2.2.2.2.2.1]; exact hh)
    (by rw [hA.2.2.2.2.2.2.2.2.2.2.2.1]; show 2 * 0 + ((cvs G st).map fun v => v.category).sum + 12 ≤ _; rw [cvs_cats]; omega) (kk G p e R s m args below meth c0 A CE SE Qf hA hC hS hF H locs cells slots ls h1 h2 hL hW hR)
theorem x_max {ix t : Nat} {a b : Int} {ps : List Nat} (ha : InR a) (hb : InR b) (hc : ctN (owN y) ix = some (5, t, ps)) (hh : 1 ≤ htN y) (hl : cats st + 13 ≤ loN y) (hd : decode (cdN y) pc = .ok (.invokestatic ix, 3)) (kk : Ex l y k n (pc + 3) L (.int (iI (max a b)) :: st) σ Q) : Ex l y k n pc L (.int (iI b) :: .int (iI a) :: st) σ Q := by
  intro G p e R s m args below meth c0 A CE SE Qf hA hC hS hF H locs cells slots ls h1 h2 hL hW hR
  obtain ⟨hw, -⟩ := ctIn hc
  have hts := hA.2.2.2.2.2.2.2.2.1
  refine va_mmax hA.2.1 hA.2.2.1 (by rw [hA.2.2.2.1]; exact hL.1.symm) hA.2.2.2.2.2.1 (hts _ (tw (hw _ (by simp [ctW])) rfl)) (hts _ (tw (hw _ (by simp [ctW])) rfl)) (hts _ (tw (hw _ (by simp [ctW])) rfl)) (hts _ (tw (hw _ (by simp [ctW])) rfl)) (by rw [hA.2.2.2.2.2.2.2.2.2.2.1]; exact hh)
    (by rw [hA.2.2.2.2.2.2.2.2.2.2.2.1]; exact (by rw [cvs_cats]; exact hl : ((cvs G st).map fun v => v.category).sum + 13 ≤ loN y)) (by omega) (by omega) hd ?_
  have h := kk G p e R s m args below meth c0 A CE SE Qf hA hC hS hF H locs cells slots ls h1 h2 hL hW hR
  have e9 : (if iI a < iI b then iI b else iI a) = iI (max a b) := by
    by_cases hq : a < b
    · rw [if_pos ((iI_lt ha hb).mpr hq), Int.max_eq_right (by omega)]
    · rw [if_neg (fun z => hq ((iI_lt ha hb).mp z)), Int.max_eq_left (by omega)]
  rw [e9]
  exact h
theorem x_min {ix t : Nat} {a b : Int} {ps : List Nat} (ha : InR a) (hb : InR b) (hc : ctN (owN y) ix = some (6, t, ps)) (hh : 1 ≤ htN y) (hl : cats st + 13 ≤ loN y) (hd : decode (cdN y) pc = .ok (.invokestatic ix, 3)) (kk : Ex l y k n (pc + 3) L (.int (iI (min a b)) :: st) σ Q) : Ex l y k n pc L (.int (iI b) :: .int (iI a) :: st) σ Q := by
  intro G p e R s m args below meth c0 A CE SE Qf hA hC hS hF H locs cells slots ls h1 h2 hL hW hR
  obtain ⟨hw, -⟩ := ctIn hc
  have hts := hA.2.2.2.2.2.2.2.2.1
  refine va_mmin hA.2.1 hA.2.2.1 (by rw [hA.2.2.2.1]; exact hL.1.symm) hA.2.2.2.2.2.1 (hts _ (tw (hw _ (by simp [ctW])) rfl)) (hts _ (tw (hw _ (by simp [ctW])) rfl)) (hts _ (tw (hw _ (by simp [ctW])) rfl)) (hts _ (tw (hw _ (by simp [ctW])) rfl)) (by rw [hA.2.2.2.2.2.2.2.2.2.2.1]; exact hh)
    (by rw [hA.2.2.2.2.2.2.2.2.2.2.2.1]; exact (by rw [cvs_cats]; exact hl : ((cvs G st).map fun v => v.category).sum + 13 ≤ loN y)) (by omega) (by omega) hd ?_
  have h := kk G p e R s m args below meth c0 A CE SE Qf hA hC hS hF H locs cells slots ls h1 h2 hL hW hR
  have e9 : (if iI b < iI a then iI b else iI a) = iI (min a b) := by
    by_cases hq : b < a
    · rw [if_pos ((iI_lt hb ha).mpr hq), Int.min_eq_right (by omega)]
    · rw [if_neg (fun z => hq ((iI_lt hb ha).mp z)), Int.min_eq_left (by omega)]
  rw [e9]
  exact h
theorem x_abs {ix t : Nat} {a : Int} {ps : List Nat} (ha : InR a) (hc : ctN (owN y) ix = some (7, t, ps)) (hh : 1 ≤ htN y) (hl : cats st + 13 ≤ loN y) (hd : decode (cdN y) pc = .ok (.invokestatic ix, 3)) (kk : Ex l y k n (pc + 3) L (.int (iI (if 0 ≤ a then a else -a)) :: st) σ Q) : Ex l y k n pc L (.int (iI a) :: st) σ Q := by
  intro G p e R s m args below meth c0 A CE SE Qf hA hC hS hF H locs cells slots ls h1 h2 hL hW hR
  obtain ⟨hw, -⟩ := ctIn hc
  have hts := hA.2.2.2.2.2.2.2.2.1
  refine va_mabs hA.2.1 hA.2.2.1 (by rw [hA.2.2.2.1]; exact hL.1.symm) hA.2.2.2.2.2.1 (hts _ (tw (hw _ (by simp [ctW])) rfl)) (hts _ (tw (hw _ (by simp [ctW])) rfl)) (hts _ (tw (hw _ (by simp [ctW])) rfl)) (hts _ (tw (hw _ (by simp [ctW])) rfl)) (by rw [hA.2.2.2.2.2.2.2.2.2.2.1]; exact hh)
    (by rw [hA.2.2.2.2.2.2.2.2.2.2.2.1]; exact (by rw [cvs_cats]; exact hl : ((cvs G st).map fun v => v.category).sum + 13 ≤ loN y)) (by omega) (by omega) hd ?_
  have h := kk G p e R s m args below meth c0 A CE SE Qf hA hC hS hF H locs cells slots ls h1 h2 hL hW hR
  have e9 : (if 0 ≤ iI a then iI a else 0 - iI a) = iI (if 0 ≤ a then a else -a) := by
    by_cases hq : 0 ≤ a
    · rw [iI_0, if_pos ((iI_le inR_0 ha).mpr hq), if_pos hq]
    · rw [iI_0, if_neg (fun z => hq ((iI_le inR_0 ha).mp z)), if_neg hq, iI_sub, Int.zero_sub]
  rw [e9]
  exact h
theorem x_copy {ix t a d m0 m1 : Nat} {sp dp w : Int} {ps : List Nat} (ho : isA σ a m0) (ho1 : isA σ d m1) (h0 : 0 ≤ sp) (h3 : 0 ≤ dp) (h4 : 0 ≤ w) (h5 : sp + w ≤ m0) (h6 : dp + w ≤ m1) (hm : m0 ≤ 100000) (hm1 : m1 ≤ 100000) (hc : ctN (owN y) ix = some (8, t, ps)) (hh : 1 ≤ htN y) (hl : cats st + (nativeFrameWords "java/lang/System" "arraycopy" 5 + 11) ≤ loN y) (hd : decode (cdN y) pc = .ok (.invokestatic ix, 3))
    (kk : Ex l y k n (pc + 3) L st (cp2 σ.1 a sp d dp w, σ.2) Q) : Ex l y k n pc L (.int (iI w) :: .int (iI dp) :: .ref d :: .int (iI sp) :: .ref a :: st) σ Q := by
  intro G p e R s m args below meth c0 A CE SE Qf hA hC hS hF H locs cells slots ls h1 h2 hL hW hR
  obtain ⟨hw, -⟩ := ctIn hc
  have hts := hA.2.2.2.2.2.2.2.2.1
  have hST := hA.2.2.2.2.2.2.2.2.2.2.2.2.2
  have r1 : InR sp := ⟨by omega, by omega⟩
  have r2 : InR dp := ⟨by omega, by omega⟩
  have r3 : InR w := ⟨by omega, by omega⟩
  rw [show cvs G (.int (iI w) :: .int (iI dp) :: .ref d :: .int (iI sp) :: .ref a :: st) = .int (iI w) :: .int (iI dp) :: .ref (adr G d) :: .int (iI sp) :: .ref (adr G a) :: cvs G st from rfl, adr_lt (Nat.lt_of_lt_of_le ho.1 hW.1), adr_lt (Nat.lt_of_lt_of_le ho1.1 hW.1)]
  refine va_copyi hA.2.1 hA.2.2.1 (by rw [hA.2.2.2.1]; exact hL.1.symm) hA.2.2.2.2.2.1 (hts _ (tw (hw _ (by simp [ctW])) rfl)) (hts _ (tw (hw _ (by simp [ctW])) rfl)) (hts _ (tw (hw _ (by simp [ctW])) rfl)) (hts _ (tw (hw _ (by simp [ctW])) rfl)) hST.1 hW.2.1 hW.2.2.1 hW.2.2.2 a d 0 0 (ty := .int) (by rw [wsO_get ho.1, cell_A ho.2]) (by rw [wsO_get ho1.1, cell_A ho1.2]) rfl rfl rfl
    (by rw [iI_0, iI_lt r1 inR_0]; omega) (by rw [iI_0, iI_lt r2 inR_0]; omega) (by rw [iI_0, iI_lt r3 inR_0]; omega) (by rw [iI_clamp r1, iI_clamp r3]; omega) (by rw [iI_clamp r2, iI_clamp r3]; omega) (fun _ _ => rfl) (by rw [hA.2.2.2.2.2.2.2.2.2.2.1]; exact hh)
    (by rw [hA.2.2.2.2.2.2.2.2.2.2.2.1]; exact (by rw [cvs_cats]; exact hl : ((cvs G st).map fun v => v.category).sum + (nativeFrameWords "java/lang/System" "arraycopy" 5 + 11) ≤ loN y)) hd (fun H1 locs1 hP hD hS1 => ?_)
  have heq : (wsO G σ).set d (G.2.2.2.2.2 d, .inl (G.2.1.1, m1, .inl (va_cpy (fun j => iI (σ.1 a (j : Int))) (fun j => iI (σ.1 d (j : Int))) (iI sp).toNatClampNeg (iI dp).toNatClampNeg (iI w).toNatClampNeg))) = wsO G (cp2 σ.1 a sp d dp w, σ.2) := by
    refine wsO_set ho1.1 rfl ?_ (fun i hi _ => cell_same (fun b => if_neg (fun z => hi z.1)) (fun _ => rfl) rfl (fun _ => rfl))
    rw [cell_A (σ := (cp2 σ.1 a sp d dp w, σ.2)) ho1.2, iI_clamp r1, iI_clamp r2, iI_clamp r3]
    congr 4
    funext j
    show (if dp.toNat ≤ j ∧ j < dp.toNat + w.toNat then iI (σ.1 a ((sp.toNat + (j - dp.toNat) : Nat) : Int)) else iI (σ.1 d (j : Int))) = iI (cp2 σ.1 a sp d dp w d (j : Int))
    by_cases hj : dp.toNat ≤ j ∧ j < dp.toNat + w.toNat
    · rw [if_pos hj, show cp2 σ.1 a sp d dp w d (j : Int) = σ.1 a (sp + ((j : Int) - dp)) from if_pos ⟨rfl, by omega, by omega⟩, show ((sp.toNat + (j - dp.toNat) : Nat) : Int) = sp + ((j : Int) - dp) from by omega]
    · rw [if_neg hj, show cp2 σ.1 a sp d dp w d (j : Int) = σ.1 d j from if_neg (fun z => hj ⟨by omega, by omega⟩)]
  rw [heq] at hP hD
  exact kk G p e R s m args below meth c0 A CE SE Qf hA hC hS hF H1 locs1 cells slots ls h1 h2 hL ⟨hW.1, hP, hD, hS1⟩ hR
end Rows3
end
section
/-! ===== calls of the world's own methods ===== -/
theorem exLk0 : exL.all (fun e => lw_tbl.any (fun v => decide (v = .classLink (clsN e.1.1) e.1.2 (exc e.2))) && decide (e.2 < 3) && decide (¬ e.1.2 = 0)) = true := by decide +kernel
theorem exLk {o i e : Nat} (h : exN o i = some e) : Cond.classLink (clsN o) i (exc e) ∈ T0 ∧ e < 3 ∧ ¬ i = 0 := by
  unfold exN at h
  cases hf : exL.find? (fun e => e.1.1 == o && e.1.2 == i) with
  | none => rw [hf] at h; cases h
  | some f =>
    rw [hf] at h
    have h2 : f.2 = e := Option.some.inj h
    have h3 := List.find?_some hf
    simp only [Bool.and_eq_true, beq_iff_eq] at h3
    have h4 := List.all_eq_true.mp exLk0 f (List.mem_of_find?_eq_some hf)
    simp only [Bool.and_eq_true, decide_eq_true_eq, List.any_eq_true] at h4
    obtain ⟨⟨⟨v, hv, rfl⟩, h5⟩, h6⟩ := h4
    obtain ⟨⟨a, b⟩, g⟩ := f
    obtain ⟨rfl, rfl⟩ := h3
    subst h2
    exact ⟨tw hv rfl, h5, h6⟩
theorem exCa0 : (List.range 3).all (fun e => faL.any (fun v => decide (v = .castable (exc e) (exc e)))) = true := by decide +kernel
theorem exCa {e : Nat} (h : e < 3) : Cond.castable (exc e) (exc e) ∈ faL := by
  have := List.all_eq_true.mp exCa0 e (List.mem_range.mpr h)
  simp only [List.any_eq_true, decide_eq_true_eq] at this
  obtain ⟨v, hv, rfl⟩ := this
  exact hv
/-- how the handlers' table takes the exception E thrown at pc: the store's place behind the handler's first instruction, the local -/
def takes (y pc E pc2 i : Nat) : Prop := ∃ (pre suf : List (Nat × Nat × Nat × Nat)) (x : Nat × Nat × Nat × Nat), hhN y = pre ++ x :: suf ∧ (∀ z ∈ pre, ∃ e, exN (owN y) z.2.2.2 = some e ∧ e ≠ E) ∧ x.1 ≤ pc ∧ pc < x.2.1 ∧ exN (owN y) x.2.2.2 = some E ∧
  ((∃ f : Fin 4, (f : Nat) = i ∧ decode (cdN y) x.2.2.1 = .ok (.astore_n f, 1) ∧ pc2 = x.2.2.1 + 1) ∨ (decode (cdN y) x.2.2.1 = .ok (.astore i, 2) ∧ pc2 = x.2.2.1 + 2))
/-- an exception that a callee threw: it leaves this method too, or is taken -/
def XH (l : LX) (y k n pc : Nat) (L : LL) (Q : OO → Prop) (E : Nat) (τ : MM) : Prop := (hhN y = [] ∧ Q (.inr E, τ)) ∨ ∃ pc2 i : Nat, takes y pc E pc2 i ∧ i < mlN y ∧ ncA L i = true ∧ Ex l y k n pc2 (L.set i none) [] τ Q
section Calls2
variable {l : LX} {y k n pc : Nat} {L : LL} {σ : MM} {Q : OO → Prop}
theorem xh_w {E : Nat} {τ : MM} (h : XH l y k n pc L Q E τ) {G : GG} {p : Program} {e : Env} {R : Room} {s : State} {m : MethodId} {args : Array Value} {below : List Frame} {meth : Method} {c : Code} {A : Nat → Prop} {CE SE : Nat} {Qf : State → Prop}
    (hA : AMB l y G p R s m args meth c A) (hC : CE ≤ R.cells) (hS : SE ≤ R.slots) (hF : FIN l y G p e R s m args below meth c A CE SE Qf Q) {H : Heap} {locs : List Loc} {cells slots : Nat} {ls : Array Slot} {rest : List Value} (h1 : cells + k = CE) (h2 : slots + n = SE) (hL : LR G ls (mlN y) L) (hW : WOK G A s H locs τ) (hf : τ.2.2.2.2.2 = false)
    {q : Addr} {ce : Cell} (hce : H[q]? = some ce) (hv : ce.vm = .none) (hcl : s.vm.findClass (exc E) = some ce.cls) : vx_W p l.1 e R s m args below meth c H locs cells slots Qf (F0 m pc ls rest) q := by
  rcases h with ⟨h3, h4⟩ | ⟨pc2, i, ⟨pre, suf, x, e1, e2, e3, e4, e5, e6⟩, hi, hn, hk⟩
  · exact hF.2.2 H locs cells slots pc ls rest τ E q ce h3 (by omega) (by omega) hW hf h4 hce hv hcl
  · have hST := hA.2.2.2.2.2.2.2.2.2.2.2.2.2
    have hts := hA.2.2.2.2.2.2.2.2.1
    have htab := hA.2.2.2.2.2.2.2.2.2.1
    obtain ⟨w1, hE, hx0⟩ := exLk e5
    refine vx_catch (E := exc E) (name := exc E) hA.2.2.2.2.2.1 (tableOf pre) ⟨x.1, x.2.1, x.2.2.1, x.2.2.2⟩ (tableOf suf) (by rw [htab, e1]; unfold tableOf; rw [List.map_append]; rfl) (fun z hz => ?_) (by unfold covers; simp [e3, e4]) hx0 (hts _ w1)
      (by
        have h9 := exCa hE
        have h7 := (List.mem_filter.mp h9).2
        simp only [Bool.and_eq_true] at h7
        exact va_Nw.use h7.2 (hST.2.2.2.2.2.2.2.2.1 _ h9)) hce hv hcl ?_
    · unfold tableOf at hz
      obtain ⟨w, hw, rfl⟩ := List.mem_map.mp hz
      obtain ⟨e9, f1, f2⟩ := e2 w hw
      obtain ⟨g1, g2, g3⟩ := exLk f1
      exact Or.inr ⟨g3, exc e9, hts _ g1, hST.2.2.2.2.2.2.2.1 E e9 hE g2 (fun z => f2 z.symm)⟩
    · have hgo : ∀ ls', LR G ls' (mlN y) (L.set i none) → W p l.1 e R s m args below meth c H locs cells slots Qf (F0 m pc2 ls' []) := fun ls' hl' => hk G p e R s m args below meth c A CE SE Qf hA hC hS hF H locs cells slots ls' h1 h2 hl' hW (fun z => by rw [hf] at z; cases z)
      rcases e6 with ⟨f, rfl, hd, rfl⟩ | ⟨hd, rfl⟩
      · exact lv_astore_n (x := q) hA.2.1 hA.2.2.1 hd rfl hL.has hi rfl (fun ls' h' => hgo ls' (hL.st1 (fun v hv => by cases hv) hn h'))
      · exact lv_astore (x := q) hA.2.1 hA.2.2.1 hd hL.has hi rfl (fun ls' h' => hgo ls' (hL.st1 (fun v hv => by cases hv) hn h'))
/-- the goal of a call: what the callee's run gives -/
theorem x_call {k1 n1 : Nat} {st rest As : List Value} {Q1 : OO → Prop}
    (run : ∀ (G : GG) (p : Program) (e : Env) (R : Room) (s : State) (m : MethodId) (args : Array Value) (below : List Frame) (meth : Method) (c : Code) (A : Nat → Prop) (H : Heap) (locs : List Loc) (cells slots : Nat) (ls : Array Slot), AMB l y G p R s m args meth c A → cells + k1 ≤ R.cells → slots + n1 ≤ R.slots → LR G ls (mlN y) L → WOK G A s H locs σ → (σ.2.2.2.2.2 = true → H.size = G.2.2.2.2.2 σ.2.2.2.1 ∧ CS G σ.2.2.2.1) →
      vx_Run p l.1 e R s m args below meth c H locs cells slots k1 n1 (F0 m pc ls (cvs G st)) (cvs G rest) (QW G σ H.size k1 Q1 (cvs G As).toArray) (XW G σ H.size k1 Q1) (va_A (wsO G σ) H.size))
    (hu : σ.2.2.2.2.2 = true ∨ ∀ (v : Option Value) (τ : MM), Q1 (.inl v, τ) → τ.2.2.2.2.2 = false) (kk : ∀ (v : Option Value) (τ : MM), Q1 (.inl v, τ) → Ex l y k n (pc + 3) L (v.toList ++ rest) τ Q) (kx : ∀ (E : Nat) (τ : MM), Q1 (.inr E, τ) → τ.2.2.2.2.2 = false → XH l y k n pc L Q E τ) : Ex l y (k1 + k) (n1 + n) pc L st σ Q := by
  intro G p e R s m args below meth c A CE SE Qf hA hC hS hF H locs cells slots ls h1 h2 hL hW hR
  refine W_by fun T hT X => ?_
  have hsz := size_of hW hR X hT
  refine cal_go (Q := Q1) (a := (cvs G As).toArray) hA hW (run G p e R s m args below meth c A H locs cells slots ls hA (by omega) (by omega) hL hW (fun z => ⟨hsz z, (hR z).2.1⟩)) (fun v τ H1 locs1 hq hW1 hfr => ?_) (fun E τ H1 locs1 q ce hq hf hW1 hce hv hcl => ?_)
  · have h := kk v τ hq G p e R s m args below meth c A CE SE Qf hA hC hS hF H1 locs1 (cells + k1) (slots + n1) ls (by omega) (by omega) hL hW1 (fun z => by
      rcases hu with hu | hu
      · have e1 := hfr z
        have e2 := hsz hu
        have e3 := hR hu
        exact ⟨by omega, e1.2.1, AJ.over e3.2.1 e1.2.1 e2 e3.2.2 e1.2.2 (by omega)⟩
      · have e1 := hu v τ hq
        rw [e1] at z
        cases z)
    have e1 : cvs G (v.toList ++ rest) = (v.map (cv G)).toList ++ cvs G rest := by
      cases v <;> rfl
    rw [e1] at h
    exact h
  · exact xh_w (kx E τ hq hf) hA hC hS hF (by omega) (by omega) hL hW1 hf hce hv hcl
theorem ctm {o i kd t : Nat} {ps : List Nat} (h : ctN o i = some (kd, t, ps)) : t < 332 := by
  have := (ctIn h).2
  simp only [ctB, Bool.and_eq_true, decide_eq_true_eq] at this
  exact this.1
theorem x_callV {ix t a k1 n1 : Nat} {ps : List Nat} {As rest : List Value} {st : List Value} {Q1 : OO → Prop} (hc : ctN (owN y) ix = some (0, t, ps)) (hCT : CT l t (.ref a :: As) σ k1 n1 Q1) (ho : isO σ a (owN t)) (hst : st = As.reverse ++ .ref a :: rest) (hlen : As.length = naN t) (hcat : cats rest ≤ 8) (hh : htN t + 1 ≤ htN y) (hlo : 8 + (mlN t + 11) + loN t ≤ loN y) (hd : decode (cdN y) pc = .ok (.invokevirtual ix, 3))
    (hu : σ.2.2.2.2.2 = true ∨ ∀ (v : Option Value) (τ : MM), Q1 (.inl v, τ) → τ.2.2.2.2.2 = false) (kk : ∀ (v : Option Value) (τ : MM), Q1 (.inl v, τ) → Ex l y k n (pc + 3) L (v.toList ++ rest) τ Q) (kx : ∀ (E : Nat) (τ : MM), Q1 (.inr E, τ) → τ.2.2.2.2.2 = false → XH l y k n pc L Q E τ) : Ex l y (k1 + k) (n1 + n) pc L st σ Q := by
  have ht := ctm hc
  obtain ⟨hw, hb9⟩ := ctIn hc
  simp only [ctB, Bool.and_eq_true, decide_eq_true_eq] at hb9
  obtain ⟨-, hh0, ho11⟩ := hb9
  refine x_call (rest := rest) (As := .ref a :: As) (Q1 := Q1) (fun G p e R s m args below meth c A H locs cells slots ls hA h1 h2 hL hW hsz => ?_) hu kk kx
  have hts := hA.2.2.2.2.2.2.2.2.1
  have hST := hA.2.2.2.2.2.2.2.2.2.2.2.2.2
  have hpre := (pre_of hA hW).2 (cvs G (.ref a :: As))
  have hcl : (ynN t).cls = clsN (owN t) := mtCls (by omega)
  have hno := mtNo (y := t) (by omega)
  have ha : adr G a = G.2.2.2.2.2 a := adr_lt (Nat.lt_of_lt_of_le ho.1 hW.1)
  have hrec := va_recv hST.1 hW.2.1 (vwOk ho11) (by rw [wsO_get ho.1, cell_O ho.2])
  have e1 : cvs G (.ref a :: As) = .ref (G.2.2.2.2.2 a) :: cvs G As := by
    show Value.ref (adr G a) :: cvs G As = _
    rw [ha]
  have hM := hCT G H.size hsz hA.1.2
  rw [e1] at hM hpre ⊢
  refine vx_runV (Ts := cdW t :: T0) (own := clsN (owN y)) (C := clsN (owN t)) (cc := cdN y) (nL := mlN y) (y := ynN t) (bytes := cdN t) (maxL := mlN t) (ret := rtN t) (ws := cdW t :: T0) (index := ix) (n := naN t) (b := G.2.2.2.2.2 a) (As := cvs G As) ⟨hA.2.1, hA.2.2.1, hA.2.2.2.1, hA.2.2.2.2.2.1, ?_⟩ hM ?_ ⟨hpre.1, hrec, hpre.2⟩ rfl (by unfold cvs; rw [List.length_map]; exact hlen) hL.1 ?_ ?_ hd ⟨h1, h2⟩
  · intro w hw2
    rcases List.mem_cons.mp hw2 with rfl | h
    · exact hts _ (cpOk ht)
    · exact hts w h
  · refine cwV (naN t) (Ts := T0) (ws' := T0) hts (fun w hw2 => ?_) (by rw [cdW_plain hh0]) rfl rfl ⟨hcl, hno.1, hno.2, mtPar (by omega)⟩ ⟨by rw [hA.2.2.2.2.2.2.2.2.2.2.1]; exact hh, by rw [hA.2.2.2.2.2.2.2.2.2.2.2.1]; exact hlo⟩
    refine T0_good w ?_
    rcases List.mem_append.mp hw2 with h | h
    · rw [← hcl] at h
      simp only [List.mem_cons, List.not_mem_nil, or_false] at h
      rcases h with rfl | rfl | rfl | rfl <;> exact tw (hw _ (by simp [ctW])) rfl
    · rcases List.mem_cons.mp h with rfl | h
      · exact cpOk ht
      · exact h
  · rw [hst]
    show (As.reverse ++ Value.ref a :: rest).map (cv G) = _
    rw [List.map_append, List.map_reverse]
    show _ ++ Value.ref (adr G a) :: _ = _
    rw [ha]
    rfl
  · show 2 * 0 + ((cvs G rest).map fun v => v.category).sum ≤ 8
    rw [cvs_cats]
    omega
/-- static: of the same class (1), of a nest mate (3), with handlers (12) -/
theorem x_callS {ix t k1 n1 : Nat} {ps : List Nat} {As rest : List Value} {st : List Value} {Q1 : OO → Prop} (hc : ctN (owN y) ix = some (1, t, ps)) (hCT : CT l t As σ k1 n1 Q1) (hst : st = As.reverse ++ rest) (hlen : As.length = naN t) (hcat : cats rest ≤ 8) (hh : htN t + 1 ≤ htN y) (hlo : 8 + (mlN t + 11) + loN t ≤ loN y) (hown : owN t = owN y) (hd : decode (cdN y) pc = .ok (.invokestatic ix, 3))
    (hu : σ.2.2.2.2.2 = true ∨ ∀ (v : Option Value) (τ : MM), Q1 (.inl v, τ) → τ.2.2.2.2.2 = false) (kk : ∀ (v : Option Value) (τ : MM), Q1 (.inl v, τ) → Ex l y k n (pc + 3) L (v.toList ++ rest) τ Q) (kx : ∀ (E : Nat) (τ : MM), Q1 (.inr E, τ) → τ.2.2.2.2.2 = false → XH l y k n pc L Q E τ) : Ex l y (k1 + k) (n1 + n) pc L st σ Q := by
  have ht := ctm hc
  obtain ⟨hw, hb9⟩ := ctIn hc
  simp only [ctB, Bool.and_eq_true, decide_eq_true_eq] at hb9
  obtain ⟨-, hh0⟩ := hb9
  refine x_call (rest := rest) (As := As) (Q1 := Q1) (fun G p e R s m args below meth c A H locs cells slots ls hA h1 h2 hL hW hsz => ?_) hu kk kx
  have hts := hA.2.2.2.2.2.2.2.2.1
  have hpre := (pre_of hA hW).2 (cvs G As)
  have hcl : (ynN t).cls = clsN (owN t) := mtCls (by omega)
  have hno := mtNo (y := t) (by omega)
  have hM := hCT G H.size hsz hA.1.2
  refine vx_runS (Ts := cdW t :: T0) (own := clsN (owN y)) (cc := cdN y) (nL := mlN y) (y := ynN t) (bytes := cdN t) (maxL := mlN t) (ret := rtN t) (ws := cdW t :: T0) (index := ix) (n := naN t) (As := cvs G As) ⟨hA.2.1, hA.2.2.1, hA.2.2.2.1, hA.2.2.2.2.2.1, ?_⟩ hM ?_ hpre rfl (by unfold cvs; rw [List.length_map]; exact hlen) hL.1 ?_ ?_ hd ⟨h1, h2⟩
  · intro w hw2
    rcases List.mem_cons.mp hw2 with rfl | h
    · exact hts _ (cpOk ht)
    · exact hts w h
  · refine cwS (naN t) (Ts := T0) (ws' := T0) hts (fun w hw2 => ?_) (by rw [cdW_plain hh0]) rfl rfl ⟨by rw [hcl, hown], hno.1, hno.2, mtPar (by omega)⟩ ⟨by rw [hA.2.2.2.2.2.2.2.2.2.2.1]; exact hh, by rw [hA.2.2.2.2.2.2.2.2.2.2.2.1]; exact hlo⟩
    refine T0_good w ?_
    rcases List.mem_append.mp hw2 with h | h
    · rw [← hown, ← hcl, ] at h
      simp only [List.mem_cons, List.not_mem_nil, or_false] at h
      rcases h with rfl | rfl | rfl
      · have := hw (.methodLink (clsN (owN y)) ix (ynN t)) (by simp [ctW])
        rw [← hown, ← hcl] at this
        exact tw this rfl
      · exact tw (hw _ (by simp [ctW])) rfl
      · exact tw (hw _ (by simp [ctW])) rfl
    · rcases List.mem_cons.mp h with rfl | h
      · exact cpOk ht
      · exact h
  · rw [hst]
    show (As.reverse ++ rest).map (cv G) = _
    rw [List.map_append, List.map_reverse]
    rfl
  · show 2 * 0 + ((cvs G rest).map fun v => v.category).sum ≤ 8
    rw [cvs_cats]
    omega
theorem x_callSW {ix t k1 n1 : Nat} {ps : List Nat} {As rest : List Value} {st : List Value} {Q1 : OO → Prop} (hc : ctN (owN y) ix = some (12, t, ps)) (hCT : CT l t As σ k1 n1 Q1) (hst : st = As.reverse ++ rest) (hlen : As.length = naN t) (hcat : cats rest ≤ 8) (hh : htN t + 1 ≤ htN y) (hlo : 8 + (mlN t + 11) + loN t ≤ loN y) (hd : decode (cdN y) pc = .ok (.invokestatic ix, 3))
    (hu : σ.2.2.2.2.2 = true ∨ ∀ (v : Option Value) (τ : MM), Q1 (.inl v, τ) → τ.2.2.2.2.2 = false) (kk : ∀ (v : Option Value) (τ : MM), Q1 (.inl v, τ) → Ex l y k n (pc + 3) L (v.toList ++ rest) τ Q) (kx : ∀ (E : Nat) (τ : MM), Q1 (.inr E, τ) → τ.2.2.2.2.2 = false → XH l y k n pc L Q E τ) : Ex l y (k1 + k) (n1 + n) pc L st σ Q := by
  have ht := ctm hc
  obtain ⟨hw, hb9⟩ := ctIn hc
  simp only [ctB, Bool.and_eq_true, decide_eq_true_eq] at hb9
  obtain ⟨-, hh0⟩ := hb9
  refine x_call (rest := rest) (As := As) (Q1 := Q1) (fun G p e R s m args below meth c A H locs cells slots ls hA h1 h2 hL hW hsz => ?_) hu kk kx
  have hts := hA.2.2.2.2.2.2.2.2.1
  have hpre := (pre_of hA hW).2 (cvs G As)
  have hno := mtNo (y := t) (by omega)
  have hM := hCT G H.size hsz hA.1.2
  refine vx_runSX (hh := hhN t) (Ts := cdW t :: T0) (own := clsN (owN y)) (cc := cdN y) (nL := mlN y) (y := ynN t) (bytes := cdN t) (maxL := mlN t) (ret := rtN t) (ws := cdW t :: T0) (index := ix) (n := naN t) (As := cvs G As) ⟨hA.2.1, hA.2.2.1, hA.2.2.2.1, hA.2.2.2.2.2.1, ?_⟩ hM ?_ hpre rfl (by unfold cvs; rw [List.length_map]; exact hlen) hL.1 ?_ ?_ hd ⟨h1, h2⟩
  · intro w hw2
    rcases List.mem_cons.mp hw2 with rfl | h
    · exact hts _ (cpOk ht)
    · exact hts w h
  · refine vx_cwSW (naN t) (Ts := T0) (ws' := T0) hts (fun w hw2 => ?_) (by rw [cdW_with hh0]) rfl rfl ⟨hno.1, hno.2, mtPar (by omega)⟩ ⟨by rw [hA.2.2.2.2.2.2.2.2.2.2.1]; exact hh, by rw [hA.2.2.2.2.2.2.2.2.2.2.2.1]; exact hlo⟩
    refine T0_good w ?_
    rcases List.mem_append.mp hw2 with h | h
    · simp only [List.mem_cons, List.not_mem_nil, or_false] at h
      rcases h with rfl | rfl | rfl <;> exact tw (hw _ (by simp [ctW])) rfl
    · rcases List.mem_cons.mp h with rfl | h
      · exact cpOk ht
      · exact h
  · rw [hst]
    show (As.reverse ++ rest).map (cv G) = _
    rw [List.map_append, List.map_reverse]
    rfl
  · show 2 * 0 + ((cvs G rest).map fun v => v.category).sum ≤ 8
    rw [cvs_cats]
    omega
/-- a nest mate's static method -/
theorem x_callSN {ix t k1 n1 : Nat} {ps : List Nat} {As rest : List Value} {st : List Value} {Q1 : OO → Prop} (hc : ctN (owN y) ix = some (3, t, ps)) (hCT : CT l t As σ k1 n1 Q1) (hst : st = As.reverse ++ rest) (hlen : As.length = naN t) (hcat : cats rest ≤ 8) (hh : htN t + 1 ≤ htN y) (hlo : 8 + (mlN t + 11) + loN t ≤ loN y) (hd : decode (cdN y) pc = .ok (.invokestatic ix, 3))
    (hu : σ.2.2.2.2.2 = true ∨ ∀ (v : Option Value) (τ : MM), Q1 (.inl v, τ) → τ.2.2.2.2.2 = false) (kk : ∀ (v : Option Value) (τ : MM), Q1 (.inl v, τ) → Ex l y k n (pc + 3) L (v.toList ++ rest) τ Q) (kx : ∀ (E : Nat) (τ : MM), Q1 (.inr E, τ) → τ.2.2.2.2.2 = false → XH l y k n pc L Q E τ) : Ex l y (k1 + k) (n1 + n) pc L st σ Q := by
  have ht := ctm hc
  obtain ⟨hw, hb9⟩ := ctIn hc
  simp only [ctB, Bool.and_eq_true, decide_eq_true_eq] at hb9
  obtain ⟨-, hne, hh0⟩ := hb9
  refine x_call (rest := rest) (As := As) (Q1 := Q1) (fun G p e R s m args below meth c A H locs cells slots ls hA h1 h2 hL hW hsz => ?_) hu kk kx
  have hts := hA.2.2.2.2.2.2.2.2.1
  have hST := hA.2.2.2.2.2.2.2.2.2.2.2.2.2
  have hpre := (pre_of hA hW).2 (cvs G As)
  have hno := mtNo (y := t) (by omega)
  have hM := hCT G H.size hsz hA.1.2
  refine vx_runSN (host := neH) (Ts := cdW t :: T0) (own := clsN (owN y)) (cc := cdN y) (nL := mlN y) (y := ynN t) (bytes := cdN t) (maxL := mlN t) (ret := rtN t) (ws := cdW t :: T0) (index := ix) (n := naN t) (As := cvs G As) ⟨hA.2.1, hA.2.2.1, hA.2.2.2.1, hA.2.2.2.2.2.1, ?_⟩ hM ⟨?_, hts _ (tw (hw _ (by simp [ctW])) rfl), trivial⟩ hpre rfl (by unfold cvs; rw [List.length_map]; exact hlen) hL.1 ?_ ?_ hd ⟨h1, h2⟩
  · intro w hw2
    rcases List.mem_cons.mp hw2 with rfl | h
    · exact hts _ (cpOk ht)
    · exact hts w h
  · refine va_cnB (naN t) (Ts := T0) (ws' := T0) hts (fun w hw2 => T0_good w ?_) (by rw [cdW_plain hh0]) rfl rfl (hST.2.2.2.2.2.2.1 _ hne) (hts _ (tw (hw _ (by simp [ctW])) rfl)) ⟨hno.1, hno.2, mtPar (by omega)⟩ ⟨by rw [hA.2.2.2.2.2.2.2.2.2.2.1]; exact hh, by rw [hA.2.2.2.2.2.2.2.2.2.2.2.1]; exact hlo⟩
    rcases List.mem_cons.mp hw2 with rfl | h
    · exact cpOk ht
    · exact h
  · rw [hst]
    show (As.reverse ++ rest).map (cv G) = _
    rw [List.map_append, List.map_reverse]
    rfl
  · show 2 * 0 + ((cvs G rest).map fun v => v.category).sum ≤ 8
    rw [cvs_cats]
    omega
/-- constructors: of the same nest by name (2), of a nest mate (4) -/
theorem x_callI {ix t a k1 n1 : Nat} {ps : List Nat} {As rest : List Value} {st : List Value} {Q1 : OO → Prop} (hc : ctN (owN y) ix = some (2, t, ps)) (hCT : CT l t (.ref a :: As) σ k1 n1 Q1) (hlt : a < scr) (hst : st = As.reverse ++ .ref a :: rest) (hlen : As.length = naN t) (hcat : cats rest ≤ 8) (hh : htN t + 1 ≤ htN y) (hlo : 8 + (mlN t + 11) + loN t ≤ loN y) (hd : decode (cdN y) pc = .ok (.invokespecial ix, 3))
    (hu : σ.2.2.2.2.2 = true ∨ ∀ (v : Option Value) (τ : MM), Q1 (.inl v, τ) → τ.2.2.2.2.2 = false) (kk : ∀ (v : Option Value) (τ : MM), Q1 (.inl v, τ) → Ex l y k n (pc + 3) L (v.toList ++ rest) τ Q) (kx : ∀ (E : Nat) (τ : MM), Q1 (.inr E, τ) → τ.2.2.2.2.2 = false → XH l y k n pc L Q E τ) : Ex l y (k1 + k) (n1 + n) pc L st σ Q := by
  have ht := ctm hc
  obtain ⟨hw, hb9⟩ := ctIn hc
  simp only [ctB, Bool.and_eq_true, decide_eq_true_eq] at hb9
  obtain ⟨-, ⟨hh0, hnm⟩, hrt⟩ := hb9
  refine x_call (rest := rest) (As := .ref a :: As) (Q1 := Q1) (fun G p e R s m args below meth c A H locs cells slots ls hA h1 h2 hL hW hsz => ?_) hu kk kx
  have hts := hA.2.2.2.2.2.2.2.2.1
  have hpre := (pre_of hA hW).2 (cvs G (.ref a :: As))
  have hno := mtNo (y := t) (by omega)
  have ha : adr G a = G.2.2.2.2.2 a := adr_lt hlt
  have e1 : cvs G (.ref a :: As) = .ref (G.2.2.2.2.2 a) :: cvs G As := by
    show Value.ref (adr G a) :: cvs G As = _
    rw [ha]
  have hM := hCT G H.size hsz hA.1.2
  rw [e1] at hM hpre ⊢
  refine vx_runI (Ts := cdW t :: T0) (own := clsN (owN y)) (cc := cdN y) (nL := mlN y) (y := ynN t) (bytes := cdN t) (maxL := mlN t) (ws := cdW t :: T0) (index := ix) (n := naN t) (b := G.2.2.2.2.2 a) (As := cvs G As) ⟨hA.2.1, hA.2.2.1, hA.2.2.2.1, hA.2.2.2.2.2.1, ?_⟩ hM ?_ hpre rfl (by unfold cvs; rw [List.length_map]; exact hlen) hL.1 ?_ ?_ hd ⟨h1, h2⟩
  · intro w hw2
    rcases List.mem_cons.mp hw2 with rfl | h
    · exact hts _ (cpOk ht)
    · exact hts w h
  · refine cwI (naN t) (Ts := T0) (ws' := T0) hts (fun w hw2 => T0_good w ?_) (by rw [cdW_plain hh0, hrt]) rfl rfl (hts _ (tw (hw _ (by simp [ctW])) rfl)) (hts _ (tw (hw _ (by simp [ctW])) rfl)) (hts _ (tw (hw _ (by simp [ctW])) rfl)) hnm ⟨hno.1, hno.2, mtPar (by omega)⟩ ⟨by rw [hA.2.2.2.2.2.2.2.2.2.2.1]; exact hh, by rw [hA.2.2.2.2.2.2.2.2.2.2.2.1]; exact hlo⟩
    rcases List.mem_cons.mp hw2 with rfl | h
    · exact cpOk ht
    · exact h
  · rw [hst]
    show (As.reverse ++ Value.ref a :: rest).map (cv G) = _
    rw [List.map_append, List.map_reverse]
    show _ ++ Value.ref (adr G a) :: _ = _
    rw [ha]
    rfl
  · show 2 * 0 + ((cvs G rest).map fun v => v.category).sum ≤ 8
    rw [cvs_cats]
    omega
theorem x_callIN {ix t a k1 n1 : Nat} {ps : List Nat} {As rest : List Value} {st : List Value} {Q1 : OO → Prop} (hc : ctN (owN y) ix = some (4, t, ps)) (hCT : CT l t (.ref a :: As) σ k1 n1 Q1) (hlt : a < scr) (hst : st = As.reverse ++ .ref a :: rest) (hlen : As.length = naN t) (hcat : cats rest ≤ 8) (hh : htN t + 1 ≤ htN y) (hlo : 8 + (mlN t + 11) + loN t ≤ loN y) (hd : decode (cdN y) pc = .ok (.invokespecial ix, 3))
    (hu : σ.2.2.2.2.2 = true ∨ ∀ (v : Option Value) (τ : MM), Q1 (.inl v, τ) → τ.2.2.2.2.2 = false) (kk : ∀ (v : Option Value) (τ : MM), Q1 (.inl v, τ) → Ex l y k n (pc + 3) L (v.toList ++ rest) τ Q) (kx : ∀ (E : Nat) (τ : MM), Q1 (.inr E, τ) → τ.2.2.2.2.2 = false → XH l y k n pc L Q E τ) : Ex l y (k1 + k) (n1 + n) pc L st σ Q := by
  have ht := ctm hc
  obtain ⟨hw, hb9⟩ := ctIn hc
  simp only [ctB, Bool.and_eq_true, decide_eq_true_eq] at hb9
  obtain ⟨-, ⟨⟨hne, hh0⟩, hnm⟩, hrt⟩ := hb9
  refine x_call (rest := rest) (As := .ref a :: As) (Q1 := Q1) (fun G p e R s m args below meth c A H locs cells slots ls hA h1 h2 hL hW hsz => ?_) hu kk kx
  have hts := hA.2.2.2.2.2.2.2.2.1
  have hST := hA.2.2.2.2.2.2.2.2.2.2.2.2.2
  have hpre := (pre_of hA hW).2 (cvs G (.ref a :: As))
  have hno := mtNo (y := t) (by omega)
  have ha : adr G a = G.2.2.2.2.2 a := adr_lt hlt
  have e1 : cvs G (.ref a :: As) = .ref (G.2.2.2.2.2 a) :: cvs G As := by
    show Value.ref (adr G a) :: cvs G As = _
    rw [ha]
  have hM := hCT G H.size hsz hA.1.2
  rw [e1] at hM hpre ⊢
  refine vx_runIN (host := neH) (Ts := cdW t :: T0) (own := clsN (owN y)) (cc := cdN y) (nL := mlN y) (y := ynN t) (bytes := cdN t) (maxL := mlN t) (ws := cdW t :: T0) (index := ix) (n := naN t) (b := G.2.2.2.2.2 a) (As := cvs G As) ⟨hA.2.1, hA.2.2.1, hA.2.2.2.1, hA.2.2.2.2.2.1, ?_⟩ hM ⟨?_, hnm, hts _ (tw (hw _ (by simp [ctW])) rfl)⟩ hpre rfl (by unfold cvs; rw [List.length_map]; exact hlen) hL.1 ?_ ?_ hd ⟨h1, h2⟩
  · intro w hw2
    rcases List.mem_cons.mp hw2 with rfl | h
    · exact hts _ (cpOk ht)
    · exact hts w h
  · refine va_cnB (naN t) (Ts := T0) (ws' := T0) hts (fun w hw2 => T0_good w ?_) (by rw [cdW_plain hh0, hrt]) rfl rfl (hST.2.2.2.2.2.2.1 _ hne) (hts _ (tw (hw _ (by simp [ctW])) rfl)) ⟨hno.1, hno.2, mtPar (by omega)⟩ ⟨by rw [hA.2.2.2.2.2.2.2.2.2.2.1]; exact hh, by rw [hA.2.2.2.2.2.2.2.2.2.2.2.1]; exact hlo⟩
    rcases List.mem_cons.mp hw2 with rfl | h
    · exact cpOk ht
    · exact h
  · rw [hst]
    show (As.reverse ++ Value.ref a :: rest).map (cv G) = _
    rw [List.map_append, List.map_reverse]
    show _ ++ Value.ref (adr G a) :: _ = _
    rw [ha]
    rfl
  · show 2 * 0 + ((cvs G rest).map fun v => v.category).sum ≤ 8
    rw [cvs_cats]
    omega
end Calls2
end
section
/-! ===== the layout after construction ===== -/
def K0L : List Nat := [95, 75, 5000, 75, 530, 85, 5, 300, 300, 300, 300, 65, 480, 60, 45, 81, 55, 120, 120, 25, 30, 30, 30, 35, 480, 480, 480, 480, 2880, 2880, 15, 55, 120, 120, 25, 30, 30, 30, 35, 480, 480, 480, 480, 2880, 2880, 15, 55, 120, 120, 25, 30, 30, 30, 35, 480, 480, 480, 480, 2880, 2880, 15, 55, 120, 120, 25, 30, 30, 30, 35, 480, 480, 480, 480, 2880, 2880, 15, 55, 120, 120, 25, 30, 30, 30, 35, 480, 480, 480, 480, 2880, 2880, 15, 55, 120, 120, 25, 30, 30, 30, 35, 480, 480, 480, 480, 2880, 2880, 15, 55, 120, 120, 25, 30, 30, 30, 35, 480, 480, 480, 480, 2880, 2880, 15, 55, 120, 120, 25, 30, 30, 30, 35, 480, 480, 480, 480, 2880, 2880, 15, 55, 120, 120, 25, 30, 30, 30, 35, 480, 480, 480, 480, 2880, 2880, 15, 55, 120, 120, 25, 30, 30, 30, 35, 480, 480, 480, 480, 2880, 2880, 15, 55, 120, 120, 25, 30, 30, 30, 35, 480, 480, 480, 480, 2880, 2880, 15]
def K0 (a : Nat) : Nat := K0L.getD a 0
def R0L : List (List (Option Nat)) := [[some 1, some 3, some 5, some 6, some 11, some 14, some 136, some 151, some 166], [some 2], [], [some 4], [], [some 1], [none, some 7, some 8, some 9, some 10], [], [], [], [], [some 12, some 13], [], [], [none, none, some 15], [some 16, some 31, some 46, some 61, some 76, some 91, some 106, some 121], [none, none, none, none, none, none, none, none, some 17, some 18, some 19, some 23, some 30], [], [], [none, some 20, some 21, some 22], [], [], [], [none, some 24, some 25, some 26, some 27, some 28, some 29], [], [], [], [], [], [], [], [none, none, none, none, none, none, none, none, some 32, some 33, some 34, some 38, some 45], [], [], [none, some 35, some 36, some 37], [], [], [], [none, some 39, some 40, some 41, some 42, some 43, some 44], [], [], [], [], [], [], [], [none, none, none, none, none, none, none, none, some 47, some 48, some 49, some 53, some 60], [], [], [none, some 50, some 51, some 52], [], [], [], [none, some 54, some 55, some 56, some 57, some 58, some 59], [], [], [], [], [], [], [], [none, none, none, none, none, none, none, none, some 62, some 63, some 64, some 68, some 75], [], [], [none, some 65, some 66, some 67], [], [], [], [none, some 69, some 70, some 71, some 72, some 73, some 74], [], [], [], [], [], [], [], [none, none, none, none, none, none, none, none, some 77, some 78, some 79, some 83, some 90], [], [], [none, some 80, some 81, some 82], [], [], [], [none, some 84, some 85, some 86, some 87, some 88, some 89], [], [], [], [], [], [], [], [none, none, none, none, none, none, none, none, some 92, some 93, some 94, some 98, some 105], [], [], [none, some 95, some 96, some 97], [], [], [], [none, some 99, some 100, some 101, some 102, some 103, some 104], [], [], [], [], [], [], [], [none, none, none, none, none, none, none, none, some 107, some 108, some 109, some 113, some 120], [], [], [none, some 110, some 111, some 112], [], [], [], [none, some 114, some 115, some 116, some 117, some 118, some 119], [], [], [], [], [], [], [], [none, none, none, none, none, none, none, none, some 122, some 123, some 124, some 128, some 135], [], [], [none, some 125, some 126, some 127], [], [], [], [none, some 129, some 130, some 131, some 132, some 133, some 134], [], [], [], [], [], [], [], [none, none, none, none, none, none, none, none, some 137, some 138, some 139, some 143, some 150], [], [], [none, some 140, some 141, some 142], [], [], [], [none, some 144, some 145, some 146, some 147, some 148, some 149], [], [], [], [], [], [], [], [none, none, none, none, none, none, none, none, some 152, some 153, some 154, some 158, some 165], [], [], [none, some 155, some 156, some 157], [], [], [], [none, some 159, some 160, some 161, some 162, some 163, some 164], [], [], [], [], [], [], [], [none, none, none, none, none, none, none, none, some 167, some 168, some 169, some 173, some 180], [], [], [none, some 170, some 171, some 172], [], [], [], [none, some 174, some 175, some 176, some 177, some 178, some 179], [], [], [], [], [], [], []]
def R0 (a j : Nat) : Option Nat := (R0L.getD a []).getD j none
/-- the memory with this layout: the number of places, the ints, the long cell, whether cells are counted -/
def mm (q : Nat) (I : Nat → Int → Int) (v : Int) (fr : Bool) : MM := (I, R0, K0, q, v, fr)
section Lay
variable {q : Nat} {I : Nat → Int → Int} {v : Int} {fr : Bool}
theorem ko_of {a c N : Nat} (h : a < N) (hK : K0 a = 10 * c + 5) (hq : N ≤ q) : isO (mm q I v fr) a c := ⟨Nat.lt_of_lt_of_le h hq, hK⟩
theorem ka_of {a n N : Nat} (h : a < N) (hK : K0 a = 10 * n) (hq : N ≤ q) : isA (mm q I v fr) a n := ⟨Nat.lt_of_lt_of_le h hq, hK⟩
theorem kr_of {a n N : Nat} (h : a < N) (hK : K0 a = 10 * n + 1) (hq : N ≤ q) : isR (mm q I v fr) a n := ⟨Nat.lt_of_lt_of_le h hq, hK⟩
theorem ko0 (hq : 181 ≤ q) : isO (mm q I v fr) 0 9 := ko_of (N := 181) (by decide) (by decide +kernel) hq
theorem ko1 (hq : 181 ≤ q) : isO (mm q I v fr) 1 7 := ko_of (N := 181) (by decide) (by decide +kernel) hq
theorem ka2 (hq : 181 ≤ q) : isA (mm q I v fr) 2 500 := ka_of (N := 181) (by decide) (by decide +kernel) hq
theorem ko3 (hq : 181 ≤ q) : isO (mm q I v fr) 3 7 := ko_of (N := 181) (by decide) (by decide +kernel) hq
theorem ka4 (hq : 181 ≤ q) : isA (mm q I v fr) 4 53 := ka_of (N := 181) (by decide) (by decide +kernel) hq
theorem ko5 (hq : 181 ≤ q) : isO (mm q I v fr) 5 8 := ko_of (N := 181) (by decide) (by decide +kernel) hq
theorem ko6 (hq : 181 ≤ q) : isO (mm q I v fr) 6 0 := ko_of (N := 181) (by decide) (by decide +kernel) hq
theorem ka7 (hq : 181 ≤ q) : isA (mm q I v fr) 7 30 := ka_of (N := 181) (by decide) (by decide +kernel) hq
theorem ka8 (hq : 181 ≤ q) : isA (mm q I v fr) 8 30 := ka_of (N := 181) (by decide) (by decide +kernel) hq
theorem ka9 (hq : 181 ≤ q) : isA (mm q I v fr) 9 30 := ka_of (N := 181) (by decide) (by decide +kernel) hq
theorem ka10 (hq : 181 ≤ q) : isA (mm q I v fr) 10 30 := ka_of (N := 181) (by decide) (by decide +kernel) hq
theorem ko11 (hq : 181 ≤ q) : isO (mm q I v fr) 11 6 := ko_of (N := 181) (by decide) (by decide +kernel) hq
theorem ka12 (hq : 181 ≤ q) : isA (mm q I v fr) 12 48 := ka_of (N := 181) (by decide) (by decide +kernel) hq
theorem ka13 (hq : 181 ≤ q) : isA (mm q I v fr) 13 6 := ka_of (N := 181) (by decide) (by decide +kernel) hq
theorem ko14 (hq : 181 ≤ q) : isO (mm q I v fr) 14 4 := ko_of (N := 181) (by decide) (by decide +kernel) hq
theorem kr15 (hq : 181 ≤ q) : isR (mm q I v fr) 15 8 := kr_of (N := 181) (by decide) (by decide +kernel) hq
theorem ko16 (hq : 181 ≤ q) : isO (mm q I v fr) 16 5 := ko_of (N := 181) (by decide) (by decide +kernel) hq
theorem ka17 (hq : 181 ≤ q) : isA (mm q I v fr) 17 12 := ka_of (N := 181) (by decide) (by decide +kernel) hq
theorem ka18 (hq : 181 ≤ q) : isA (mm q I v fr) 18 12 := ka_of (N := 181) (by decide) (by decide +kernel) hq
theorem ko19 (hq : 181 ≤ q) : isO (mm q I v fr) 19 2 := ko_of (N := 181) (by decide) (by decide +kernel) hq
theorem ka20 (hq : 181 ≤ q) : isA (mm q I v fr) 20 3 := ka_of (N := 181) (by decide) (by decide +kernel) hq
theorem ka21 (hq : 181 ≤ q) : isA (mm q I v fr) 21 3 := ka_of (N := 181) (by decide) (by decide +kernel) hq
theorem ka22 (hq : 181 ≤ q) : isA (mm q I v fr) 22 3 := ka_of (N := 181) (by decide) (by decide +kernel) hq
theorem ko23 (hq : 181 ≤ q) : isO (mm q I v fr) 23 3 := ko_of (N := 181) (by decide) (by decide +kernel) hq
theorem ka24 (hq : 181 ≤ q) : isA (mm q I v fr) 24 48 := ka_of (N := 181) (by decide) (by decide +kernel) hq
theorem ka25 (hq : 181 ≤ q) : isA (mm q I v fr) 25 48 := ka_of (N := 181) (by decide) (by decide +kernel) hq
theorem ka26 (hq : 181 ≤ q) : isA (mm q I v fr) 26 48 := ka_of (N := 181) (by decide) (by decide +kernel) hq
theorem ka27 (hq : 181 ≤ q) : isA (mm q I v fr) 27 48 := ka_of (N := 181) (by decide) (by decide +kernel) hq
theorem ka28 (hq : 181 ≤ q) : isA (mm q I v fr) 28 288 := ka_of (N := 181) (by decide) (by decide +kernel) hq
theorem ka29 (hq : 181 ≤ q) : isA (mm q I v fr) 29 288 := ka_of (N := 181) (by decide) (by decide +kernel) hq
theorem ko30 (hq : 181 ≤ q) : isO (mm q I v fr) 30 1 := ko_of (N := 181) (by decide) (by decide +kernel) hq
theorem ko31 (hq : 181 ≤ q) : isO (mm q I v fr) 31 5 := ko_of (N := 181) (by decide) (by decide +kernel) hq
theorem ka32 (hq : 181 ≤ q) : isA (mm q I v fr) 32 12 := ka_of (N := 181) (by decide) (by decide +kernel) hq
theorem ka33 (hq : 181 ≤ q) : isA (mm q I v fr) 33 12 := ka_of (N := 181) (by decide) (by decide +kernel) hq
theorem ko34 (hq : 181 ≤ q) : isO (mm q I v fr) 34 2 := ko_of (N := 181) (by decide) (by decide +kernel) hq
theorem ka35 (hq : 181 ≤ q) : isA (mm q I v fr) 35 3 := ka_of (N := 181) (by decide) (by decide +kernel) hq
theorem ka36 (hq : 181 ≤ q) : isA (mm q I v fr) 36 3 := ka_of (N := 181) (by decide) (by decide +kernel) hq
theorem ka37 (hq : 181 ≤ q) : isA (mm q I v fr) 37 3 := ka_of (N := 181) (by decide) (by decide +kernel) hq
theorem ko38 (hq : 181 ≤ q) : isO (mm q I v fr) 38 3 := ko_of (N := 181) (by decide) (by decide +kernel) hq
theorem ka39 (hq : 181 ≤ q) : isA (mm q I v fr) 39 48 := ka_of (N := 181) (by decide) (by decide +kernel) hq
theorem ka40 (hq : 181 ≤ q) : isA (mm q I v fr) 40 48 := ka_of (N := 181) (by decide) (by decide +kernel) hq
theorem ka41 (hq : 181 ≤ q) : isA (mm q I v fr) 41 48 := ka_of (N := 181) (by decide) (by decide +kernel) hq
theorem ka42 (hq : 181 ≤ q) : isA (mm q I v fr) 42 48 := ka_of (N := 181) (by decide) (by decide +kernel) hq
theorem ka43 (hq : 181 ≤ q) : isA (mm q I v fr) 43 288 := ka_of (N := 181) (by decide) (by decide +kernel) hq
theorem ka44 (hq : 181 ≤ q) : isA (mm q I v fr) 44 288 := ka_of (N := 181) (by decide) (by decide +kernel) hq
theorem ko45 (hq : 181 ≤ q) : isO (mm q I v fr) 45 1 := ko_of (N := 181) (by decide) (by decide +kernel) hq
theorem ko46 (hq : 181 ≤ q) : isO (mm q I v fr) 46 5 := ko_of (N := 181) (by decide) (by decide +kernel) hq
theorem ka47 (hq : 181 ≤ q) : isA (mm q I v fr) 47 12 := ka_of (N := 181) (by decide) (by decide +kernel) hq
theorem ka48 (hq : 181 ≤ q) : isA (mm q I v fr) 48 12 := ka_of (N := 181) (by decide) (by decide +kernel) hq
theorem ko49 (hq : 181 ≤ q) : isO (mm q I v fr) 49 2 := ko_of (N := 181) (by decide) (by decide +kernel) hq
theorem ka50 (hq : 181 ≤ q) : isA (mm q I v fr) 50 3 := ka_of (N := 181) (by decide) (by decide +kernel) hq
theorem ka51 (hq : 181 ≤ q) : isA (mm q I v fr) 51 3 := ka_of (N := 181) (by decide) (by decide +kernel) hq
theorem ka52 (hq : 181 ≤ q) : isA (mm q I v fr) 52 3 := ka_of (N := 181) (by decide) (by decide +kernel) hq
theorem ko53 (hq : 181 ≤ q) : isO (mm q I v fr) 53 3 := ko_of (N := 181) (by decide) (by decide +kernel) hq
theorem ka54 (hq : 181 ≤ q) : isA (mm q I v fr) 54 48 := ka_of (N := 181) (by decide) (by decide +kernel) hq
theorem ka55 (hq : 181 ≤ q) : isA (mm q I v fr) 55 48 := ka_of (N := 181) (by decide) (by decide +kernel) hq
theorem ka56 (hq : 181 ≤ q) : isA (mm q I v fr) 56 48 := ka_of (N := 181) (by decide) (by decide +kernel) hq
theorem ka57 (hq : 181 ≤ q) : isA (mm q I v fr) 57 48 := ka_of (N := 181) (by decide) (by decide +kernel) hq
theorem ka58 (hq : 181 ≤ q) : isA (mm q I v fr) 58 288 := ka_of (N := 181) (by decide) (by decide +kernel) hq
theorem ka59 (hq : 181 ≤ q) : isA (mm q I v fr) 59 288 := ka_of (N := 181) (by decide) (by decide +kernel) hq
theorem ko60 (hq : 181 ≤ q) : isO (mm q I v fr) 60 1 := ko_of (N := 181) (by decide) (by decide +kernel) hq
theorem ko61 (hq : 181 ≤ q) : isO (mm q I v fr) 61 5 := ko_of (N := 181) (by decide) (by decide +kernel) hq
theorem ka62 (hq : 181 ≤ q) : isA (mm q I v fr) 62 12 := ka_of (N := 181) (by decide) (by decide +kernel) hq
theorem ka63 (hq : 181 ≤ q) : isA (mm q I v fr) 63 12 := ka_of (N := 181) (by decide) (by decide +kernel) hq
theorem ko64 (hq : 181 ≤ q) : isO (mm q I v fr) 64 2 := ko_of (N := 181) (by decide) (by decide +kernel) hq
theorem ka65 (hq : 181 ≤ q) : isA (mm q I v fr) 65 3 := ka_of (N := 181) (by decide) (by decide +kernel) hq
theorem ka66 (hq : 181 ≤ q) : isA (mm q I v fr) 66 3 := ka_of (N := 181) (by decide) (by decide +kernel) hq
theorem ka67 (hq : 181 ≤ q) : isA (mm q I v fr) 67 3 := ka_of (N := 181) (by decide) (by decide +kernel) hq
theorem ko68 (hq : 181 ≤ q) : isO (mm q I v fr) 68 3 := ko_of (N := 181) (by decide) (by decide +kernel) hq
theorem ka69 (hq : 181 ≤ q) : isA (mm q I v fr) 69 48 := ka_of (N := 181) (by decide) (by decide +kernel) hq
theorem ka70 (hq : 181 ≤ q) : isA (mm q I v fr) 70 48 := ka_of (N := 181) (by decide) (by decide +kernel) hq
theorem ka71 (hq : 181 ≤ q) : isA (mm q I v fr) 71 48 := ka_of (N := 181) (by decide) (by decide +kernel) hq
theorem ka72 (hq : 181 ≤ q) : isA (mm q I v fr) 72 48 := ka_of (N := 181) (by decide) (by decide +kernel) hq
theorem ka73 (hq : 181 ≤ q) : isA (mm q I v fr) 73 288 := ka_of (N := 181) (by decide) (by decide +kernel) hq
theorem ka74 (hq : 181 ≤ q) : isA (mm q I v fr) 74 288 := ka_of (N := 181) (by decide) (by decide +kernel) hq
theorem ko75 (hq : 181 ≤ q) : isO (mm q I v fr) 75 1 := ko_of (N := 181) (by decide) (by decide +kernel) hq
theorem ko76 (hq : 181 ≤ q) : isO (mm q I v fr) 76 5 := ko_of (N := 181) (by decide) (by decide +kernel) hq
theorem ka77 (hq : 181 ≤ q) : isA (mm q I v fr) 77 12 := ka_of (N := 181) (by decide) (by decide +kernel) hq
theorem ka78 (hq : 181 ≤ q) : isA (mm q I v fr) 78 12 := ka_of (N := 181) (by decide) (by decide +kernel) hq
theorem ko79 (hq : 181 ≤ q) : isO (mm q I v fr) 79 2 := ko_of (N := 181) (by decide) (by decide +kernel) hq
theorem ka80 (hq : 181 ≤ q) : isA (mm q I v fr) 80 3 := ka_of (N := 181) (by decide) (by decide +kernel) hq
theorem ka81 (hq : 181 ≤ q) : isA (mm q I v fr) 81 3 := ka_of (N := 181) (by decide) (by decide +kernel) hq
theorem ka82 (hq : 181 ≤ q) : isA (mm q I v fr) 82 3 := ka_of (N := 181) (by decide) (by decide +kernel) hq
theorem ko83 (hq : 181 ≤ q) : isO (mm q I v fr) 83 3 := ko_of (N := 181) (by decide) (by decide +kernel) hq
theorem ka84 (hq : 181 ≤ q) : isA (mm q I v fr) 84 48 := ka_of (N := 181) (by decide) (by decide +kernel) hq
theorem ka85 (hq : 181 ≤ q) : isA (mm q I v fr) 85 48 := ka_of (N := 181) (by decide) (by decide +kernel) hq
theorem ka86 (hq : 181 ≤ q) : isA (mm q I v fr) 86 48 := ka_of (N := 181) (by decide) (by decide +kernel) hq
theorem ka87 (hq : 181 ≤ q) : isA (mm q I v fr) 87 48 := ka_of (N := 181) (by decide) (by decide +kernel) hq
theorem ka88 (hq : 181 ≤ q) : isA (mm q I v fr) 88 288 := ka_of (N := 181) (by decide) (by decide +kernel) hq
theorem ka89 (hq : 181 ≤ q) : isA (mm q I v fr) 89 288 := ka_of (N := 181) (by decide) (by decide +kernel) hq
theorem ko90 (hq : 181 ≤ q) : isO (mm q I v fr) 90 1 := ko_of (N := 181) (by decide) (by decide +kernel) hq
theorem ko91 (hq : 181 ≤ q) : isO (mm q I v fr) 91 5 := ko_of (N := 181) (by decide) (by decide +kernel) hq
theorem ka92 (hq : 181 ≤ q) : isA (mm q I v fr) 92 12 := ka_of (N := 181) (by decide) (by decide +kernel) hq
theorem ka93 (hq : 181 ≤ q) : isA (mm q I v fr) 93 12 := ka_of (N := 181) (by decide) (by decide +kernel) hq
theorem ko94 (hq : 181 ≤ q) : isO (mm q I v fr) 94 2 := ko_of (N := 181) (by decide) (by decide +kernel) hq
theorem ka95 (hq : 181 ≤ q) : isA (mm q I v fr) 95 3 := ka_of (N := 181) (by decide) (by decide +kernel) hq
theorem ka96 (hq : 181 ≤ q) : isA (mm q I v fr) 96 3 := ka_of (N := 181) (by decide) (by decide +kernel) hq
theorem ka97 (hq : 181 ≤ q) : isA (mm q I v fr) 97 3 := ka_of (N := 181) (by decide) (by decide +kernel) hq
theorem ko98 (hq : 181 ≤ q) : isO (mm q I v fr) 98 3 := ko_of (N := 181) (by decide) (by decide +kernel) hq
theorem ka99 (hq : 181 ≤ q) : isA (mm q I v fr) 99 48 := ka_of (N := 181) (by decide) (by decide +kernel) hq
theorem ka100 (hq : 181 ≤ q) : isA (mm q I v fr) 100 48 := ka_of (N := 181) (by decide) (by decide +kernel) hq
theorem ka101 (hq : 181 ≤ q) : isA (mm q I v fr) 101 48 := ka_of (N := 181) (by decide) (by decide +kernel) hq
theorem ka102 (hq : 181 ≤ q) : isA (mm q I v fr) 102 48 := ka_of (N := 181) (by decide) (by decide +kernel) hq
theorem ka103 (hq : 181 ≤ q) : isA (mm q I v fr) 103 288 := ka_of (N := 181) (by decide) (by decide +kernel) hq
theorem ka104 (hq : 181 ≤ q) : isA (mm q I v fr) 104 288 := ka_of (N := 181) (by decide) (by decide +kernel) hq
theorem ko105 (hq : 181 ≤ q) : isO (mm q I v fr) 105 1 := ko_of (N := 181) (by decide) (by decide +kernel) hq
theorem ko106 (hq : 181 ≤ q) : isO (mm q I v fr) 106 5 := ko_of (N := 181) (by decide) (by decide +kernel) hq
theorem ka107 (hq : 181 ≤ q) : isA (mm q I v fr) 107 12 := ka_of (N := 181) (by decide) (by decide +kernel) hq
theorem ka108 (hq : 181 ≤ q) : isA (mm q I v fr) 108 12 := ka_of (N := 181) (by decide) (by decide +kernel) hq
theorem ko109 (hq : 181 ≤ q) : isO (mm q I v fr) 109 2 := ko_of (N := 181) (by decide) (by decide +kernel) hq
theorem ka110 (hq : 181 ≤ q) : isA (mm q I v fr) 110 3 := ka_of (N := 181) (by decide) (by decide +kernel) hq
theorem ka111 (hq : 181 ≤ q) : isA (mm q I v fr) 111 3 := ka_of (N := 181) (by decide) (by decide +kernel) hq
theorem ka112 (hq : 181 ≤ q) : isA (mm q I v fr) 112 3 := ka_of (N := 181) (by decide) (by decide +kernel) hq
theorem ko113 (hq : 181 ≤ q) : isO (mm q I v fr) 113 3 := ko_of (N := 181) (by decide) (by decide +kernel) hq
theorem ka114 (hq : 181 ≤ q) : isA (mm q I v fr) 114 48 := ka_of (N := 181) (by decide) (by decide +kernel) hq
theorem ka115 (hq : 181 ≤ q) : isA (mm q I v fr) 115 48 := ka_of (N := 181) (by decide) (by decide +kernel) hq
theorem ka116 (hq : 181 ≤ q) : isA (mm q I v fr) 116 48 := ka_of (N := 181) (by decide) (by decide +kernel) hq
theorem ka117 (hq : 181 ≤ q) : isA (mm q I v fr) 117 48 := ka_of (N := 181) (by decide) (by decide +kernel) hq
theorem ka118 (hq : 181 ≤ q) : isA (mm q I v fr) 118 288 := ka_of (N := 181) (by decide) (by decide +kernel) hq
theorem ka119 (hq : 181 ≤ q) : isA (mm q I v fr) 119 288 := ka_of (N := 181) (by decide) (by decide +kernel) hq
theorem ko120 (hq : 181 ≤ q) : isO (mm q I v fr) 120 1 := ko_of (N := 181) (by decide) (by decide +kernel) hq
theorem ko121 (hq : 181 ≤ q) : isO (mm q I v fr) 121 5 := ko_of (N := 181) (by decide) (by decide +kernel) hq
theorem ka122 (hq : 181 ≤ q) : isA (mm q I v fr) 122 12 := ka_of (N := 181) (by decide) (by decide +kernel) hq
theorem ka123 (hq : 181 ≤ q) : isA (mm q I v fr) 123 12 := ka_of (N := 181) (by decide) (by decide +kernel) hq
theorem ko124 (hq : 181 ≤ q) : isO (mm q I v fr) 124 2 := ko_of (N := 181) (by decide) (by decide +kernel) hq
theorem ka125 (hq : 181 ≤ q) : isA (mm q I v fr) 125 3 := ka_of (N := 181) (by decide) (by decide +kernel) hq
theorem ka126 (hq : 181 ≤ q) : isA (mm q I v fr) 126 3 := ka_of (N := 181) (by decide) (by decide +kernel) hq
theorem ka127 (hq : 181 ≤ q) : isA (mm q I v fr) 127 3 := ka_of (N := 181) (by decide) (by decide +kernel) hq
theorem ko128 (hq : 181 ≤ q) : isO (mm q I v fr) 128 3 := ko_of (N := 181) (by decide) (by decide +kernel) hq
theorem ka129 (hq : 181 ≤ q) : isA (mm q I v fr) 129 48 := ka_of (N := 181) (by decide) (by decide +kernel) hq
theorem ka130 (hq : 181 ≤ q) : isA (mm q I v fr) 130 48 := ka_of (N := 181) (by decide) (by decide +kernel) hq
theorem ka131 (hq : 181 ≤ q) : isA (mm q I v fr) 131 48 := ka_of (N := 181) (by decide) (by decide +kernel) hq
theorem ka132 (hq : 181 ≤ q) : isA (mm q I v fr) 132 48 := ka_of (N := 181) (by decide) (by decide +kernel) hq
theorem ka133 (hq : 181 ≤ q) : isA (mm q I v fr) 133 288 := ka_of (N := 181) (by decide) (by decide +kernel) hq
theorem ka134 (hq : 181 ≤ q) : isA (mm q I v fr) 134 288 := ka_of (N := 181) (by decide) (by decide +kernel) hq
theorem ko135 (hq : 181 ≤ q) : isO (mm q I v fr) 135 1 := ko_of (N := 181) (by decide) (by decide +kernel) hq
theorem ko136 (hq : 181 ≤ q) : isO (mm q I v fr) 136 5 := ko_of (N := 181) (by decide) (by decide +kernel) hq
theorem ka137 (hq : 181 ≤ q) : isA (mm q I v fr) 137 12 := ka_of (N := 181) (by decide) (by decide +kernel) hq
theorem ka138 (hq : 181 ≤ q) : isA (mm q I v fr) 138 12 := ka_of (N := 181) (by decide) (by decide +kernel) hq
theorem ko139 (hq : 181 ≤ q) : isO (mm q I v fr) 139 2 := ko_of (N := 181) (by decide) (by decide +kernel) hq
theorem ka140 (hq : 181 ≤ q) : isA (mm q I v fr) 140 3 := ka_of (N := 181) (by decide) (by decide +kernel) hq
theorem ka141 (hq : 181 ≤ q) : isA (mm q I v fr) 141 3 := ka_of (N := 181) (by decide) (by decide +kernel) hq
theorem ka142 (hq : 181 ≤ q) : isA (mm q I v fr) 142 3 := ka_of (N := 181) (by decide) (by decide +kernel) hq
theorem ko143 (hq : 181 ≤ q) : isO (mm q I v fr) 143 3 := ko_of (N := 181) (by decide) (by decide +kernel) hq
theorem ka144 (hq : 181 ≤ q) : isA (mm q I v fr) 144 48 := ka_of (N := 181) (by decide) (by decide +kernel) hq
theorem ka145 (hq : 181 ≤ q) : isA (mm q I v fr) 145 48 := ka_of (N := 181) (by decide) (by decide +kernel) hq
theorem ka146 (hq : 181 ≤ q) : isA (mm q I v fr) 146 48 := ka_of (N := 181) (by decide) (by decide +kernel) hq
theorem ka147 (hq : 181 ≤ q) : isA (mm q I v fr) 147 48 := ka_of (N := 181) (by decide) (by decide +kernel) hq
theorem ka148 (hq : 181 ≤ q) : isA (mm q I v fr) 148 288 := ka_of (N := 181) (by decide) (by decide +kernel) hq
theorem ka149 (hq : 181 ≤ q) : isA (mm q I v fr) 149 288 := ka_of (N := 181) (by decide) (by decide +kernel) hq
theorem ko150 (hq : 181 ≤ q) : isO (mm q I v fr) 150 1 := ko_of (N := 181) (by decide) (by decide +kernel) hq
theorem ko151 (hq : 181 ≤ q) : isO (mm q I v fr) 151 5 := ko_of (N := 181) (by decide) (by decide +kernel) hq
theorem ka152 (hq : 181 ≤ q) : isA (mm q I v fr) 152 12 := ka_of (N := 181) (by decide) (by decide +kernel) hq
theorem ka153 (hq : 181 ≤ q) : isA (mm q I v fr) 153 12 := ka_of (N := 181) (by decide) (by decide +kernel) hq
theorem ko154 (hq : 181 ≤ q) : isO (mm q I v fr) 154 2 := ko_of (N := 181) (by decide) (by decide +kernel) hq
theorem ka155 (hq : 181 ≤ q) : isA (mm q I v fr) 155 3 := ka_of (N := 181) (by decide) (by decide +kernel) hq
theorem ka156 (hq : 181 ≤ q) : isA (mm q I v fr) 156 3 := ka_of (N := 181) (by decide) (by decide +kernel) hq
theorem ka157 (hq : 181 ≤ q) : isA (mm q I v fr) 157 3 := ka_of (N := 181) (by decide) (by decide +kernel) hq
theorem ko158 (hq : 181 ≤ q) : isO (mm q I v fr) 158 3 := ko_of (N := 181) (by decide) (by decide +kernel) hq
theorem ka159 (hq : 181 ≤ q) : isA (mm q I v fr) 159 48 := ka_of (N := 181) (by decide) (by decide +kernel) hq
theorem ka160 (hq : 181 ≤ q) : isA (mm q I v fr) 160 48 := ka_of (N := 181) (by decide) (by decide +kernel) hq
theorem ka161 (hq : 181 ≤ q) : isA (mm q I v fr) 161 48 := ka_of (N := 181) (by decide) (by decide +kernel) hq
theorem ka162 (hq : 181 ≤ q) : isA (mm q I v fr) 162 48 := ka_of (N := 181) (by decide) (by decide +kernel) hq
theorem ka163 (hq : 181 ≤ q) : isA (mm q I v fr) 163 288 := ka_of (N := 181) (by decide) (by decide +kernel) hq
theorem ka164 (hq : 181 ≤ q) : isA (mm q I v fr) 164 288 := ka_of (N := 181) (by decide) (by decide +kernel) hq
theorem ko165 (hq : 181 ≤ q) : isO (mm q I v fr) 165 1 := ko_of (N := 181) (by decide) (by decide +kernel) hq
theorem ko166 (hq : 181 ≤ q) : isO (mm q I v fr) 166 5 := ko_of (N := 181) (by decide) (by decide +kernel) hq
theorem ka167 (hq : 181 ≤ q) : isA (mm q I v fr) 167 12 := ka_of (N := 181) (by decide) (by decide +kernel) hq
theorem ka168 (hq : 181 ≤ q) : isA (mm q I v fr) 168 12 := ka_of (N := 181) (by decide) (by decide +kernel) hq
theorem ko169 (hq : 181 ≤ q) : isO (mm q I v fr) 169 2 := ko_of (N := 181) (by decide) (by decide +kernel) hq
theorem ka170 (hq : 181 ≤ q) : isA (mm q I v fr) 170 3 := ka_of (N := 181) (by decide) (by decide +kernel) hq
theorem ka171 (hq : 181 ≤ q) : isA (mm q I v fr) 171 3 := ka_of (N := 181) (by decide) (by decide +kernel) hq
theorem ka172 (hq : 181 ≤ q) : isA (mm q I v fr) 172 3 := ka_of (N := 181) (by decide) (by decide +kernel) hq
theorem ko173 (hq : 181 ≤ q) : isO (mm q I v fr) 173 3 := ko_of (N := 181) (by decide) (by decide +kernel) hq
theorem ka174 (hq : 181 ≤ q) : isA (mm q I v fr) 174 48 := ka_of (N := 181) (by decide) (by decide +kernel) hq
theorem ka175 (hq : 181 ≤ q) : isA (mm q I v fr) 175 48 := ka_of (N := 181) (by decide) (by decide +kernel) hq
theorem ka176 (hq : 181 ≤ q) : isA (mm q I v fr) 176 48 := ka_of (N := 181) (by decide) (by decide +kernel) hq
theorem ka177 (hq : 181 ≤ q) : isA (mm q I v fr) 177 48 := ka_of (N := 181) (by decide) (by decide +kernel) hq
theorem ka178 (hq : 181 ≤ q) : isA (mm q I v fr) 178 288 := ka_of (N := 181) (by decide) (by decide +kernel) hq
theorem ka179 (hq : 181 ≤ q) : isA (mm q I v fr) 179 288 := ka_of (N := 181) (by decide) (by decide +kernel) hq
theorem ko180 (hq : 181 ≤ q) : isO (mm q I v fr) 180 1 := ko_of (N := 181) (by decide) (by decide +kernel) hq
theorem rr0_0 : R0 0 0 = some 1 := by decide +kernel
theorem rr0_1 : R0 0 1 = some 3 := by decide +kernel
theorem rr0_2 : R0 0 2 = some 5 := by decide +kernel
theorem rr0_3 : R0 0 3 = some 6 := by decide +kernel
theorem rr0_4 : R0 0 4 = some 11 := by decide +kernel
theorem rr0_5 : R0 0 5 = some 14 := by decide +kernel
theorem rr0_6 : R0 0 6 = some 136 := by decide +kernel
theorem rr0_7 : R0 0 7 = some 151 := by decide +kernel
theorem rr0_8 : R0 0 8 = some 166 := by decide +kernel
theorem rr1_0 : R0 1 0 = some 2 := by decide +kernel
theorem rr3_0 : R0 3 0 = some 4 := by decide +kernel
theorem rr5_0 : R0 5 0 = some 1 := by decide +kernel
theorem rr6_1 : R0 6 1 = some 7 := by decide +kernel
theorem rr6_2 : R0 6 2 = some 8 := by decide +kernel
theorem rr6_3 : R0 6 3 = some 9 := by decide +kernel
theorem rr6_4 : R0 6 4 = some 10 := by decide +kernel
theorem rr11_0 : R0 11 0 = some 12 := by decide +kernel
theorem rr11_1 : R0 11 1 = some 13 := by decide +kernel
theorem rr14_2 : R0 14 2 = some 15 := by decide +kernel
theorem rr15_0 : R0 15 0 = some 16 := by decide +kernel
theorem rr15_1 : R0 15 1 = some 31 := by decide +kernel
theorem rr15_2 : R0 15 2 = some 46 := by decide +kernel
theorem rr15_3 : R0 15 3 = some 61 := by decide +kernel
theorem rr15_4 : R0 15 4 = some 76 := by decide +kernel
theorem rr15_5 : R0 15 5 = some 91 := by decide +kernel
theorem rr15_6 : R0 15 6 = some 106 := by decide +kernel
theorem rr15_7 : R0 15 7 = some 121 := by decide +kernel
theorem rr16_8 : R0 16 8 = some 17 := by decide +kernel
theorem rr16_9 : R0 16 9 = some 18 := by decide +kernel
theorem rr16_10 : R0 16 10 = some 19 := by decide +kernel
theorem rr16_11 : R0 16 11 = some 23 := by decide +kernel
theorem rr16_12 : R0 16 12 = some 30 := by decide +kernel
theorem rr19_1 : R0 19 1 = some 20 := by decide +kernel
theorem rr19_2 : R0 19 2 = some 21 := by decide +kernel
theorem rr19_3 : R0 19 3 = some 22 := by decide +kernel
theorem rr23_1 : R0 23 1 = some 24 := by decide +kernel
theorem rr23_2 : R0 23 2 = some 25 := by decide +kernel
theorem rr23_3 : R0 23 3 = some 26 := by decide +kernel
theorem rr23_4 : R0 23 4 = some 27 := by decide +kernel
theorem rr23_5 : R0 23 5 = some 28 := by decide +kernel
theorem rr23_6 : R0 23 6 = some 29 := by decide +kernel
theorem rr31_8 : R0 31 8 = some 32 := by decide +kernel
theorem rr31_9 : R0 31 9 = some 33 := by decide +kernel
theorem rr31_10 : R0 31 10 = some 34 := by decide +kernel
theorem rr31_11 : R0 31 11 = some 38 := by decide +kernel
theorem rr31_12 : R0 31 12 = some 45 := by decide +kernel
theorem rr34_1 : R0 34 1 = some 35 := by decide +kernel
theorem rr34_2 : R0 34 2 = some 36 := by decide +kernel
theorem rr34_3 : R0 34 3 = some 37 := by decide +kernel
theorem rr38_1 : R0 38 1 = some 39 := by decide +kernel
theorem rr38_2 : R0 38 2 = some 40 := by decide +kernel
theorem rr38_3 : R0 38 3 = some 41 := by decide +kernel
theorem rr38_4 : R0 38 4 = some 42 := by decide +kernel
theorem rr38_5 : R0 38 5 = some 43 := by decide +kernel
theorem rr38_6 : R0 38 6 = some 44 := by decide +kernel
theorem rr46_8 : R0 46 8 = some 47 := by decide +kernel
theorem rr46_9 : R0 46 9 = some 48 := by decide +kernel
theorem rr46_10 : R0 46 10 = some 49 := by decide +kernel
theorem rr46_11 : R0 46 11 = some 53 := by decide +kernel
theorem rr46_12 : R0 46 12 = some 60 := by decide +kernel
theorem rr49_1 : R0 49 1 = some 50 := by decide +kernel
theorem rr49_2 : R0 49 2 = some 51 := by decide +kernel
theorem rr49_3 : R0 49 3 = some 52 := by decide +kernel
theorem rr53_1 : R0 53 1 = some 54 := by decide +kernel
theorem rr53_2 : R0 53 2 = some 55 := by decide +kernel
theorem rr53_3 : R0 53 3 = some 56 := by decide +kernel
theorem rr53_4 : R0 53 4 = some 57 := by decide +kernel
theorem rr53_5 : R0 53 5 = some 58 := by decide +kernel
theorem rr53_6 : R0 53 6 = some 59 := by decide +kernel
theorem rr61_8 : R0 61 8 = some 62 := by decide +kernel
theorem rr61_9 : R0 61 9 = some 63 := by decide +kernel
theorem rr61_10 : R0 61 10 = some 64 := by decide +kernel
theorem rr61_11 : R0 61 11 = some 68 := by decide +kernel
theorem rr61_12 : R0 61 12 = some 75 := by decide +kernel
theorem rr64_1 : R0 64 1 = some 65 := by decide +kernel
theorem rr64_2 : R0 64 2 = some 66 := by decide +kernel
theorem rr64_3 : R0 64 3 = some 67 := by decide +kernel
theorem rr68_1 : R0 68 1 = some 69 := by decide +kernel
theorem rr68_2 : R0 68 2 = some 70 := by decide +kernel
theorem rr68_3 : R0 68 3 = some 71 := by decide +kernel
theorem rr68_4 : R0 68 4 = some 72 := by decide +kernel
theorem rr68_5 : R0 68 5 = some 73 := by decide +kernel
theorem rr68_6 : R0 68 6 = some 74 := by decide +kernel
theorem rr76_8 : R0 76 8 = some 77 := by decide +kernel
theorem rr76_9 : R0 76 9 = some 78 := by decide +kernel
theorem rr76_10 : R0 76 10 = some 79 := by decide +kernel
theorem rr76_11 : R0 76 11 = some 83 := by decide +kernel
theorem rr76_12 : R0 76 12 = some 90 := by decide +kernel
theorem rr79_1 : R0 79 1 = some 80 := by decide +kernel
theorem rr79_2 : R0 79 2 = some 81 := by decide +kernel
theorem rr79_3 : R0 79 3 = some 82 := by decide +kernel
theorem rr83_1 : R0 83 1 = some 84 := by decide +kernel
theorem rr83_2 : R0 83 2 = some 85 := by decide +kernel
theorem rr83_3 : R0 83 3 = some 86 := by decide +kernel
theorem rr83_4 : R0 83 4 = some 87 := by decide +kernel
theorem rr83_5 : R0 83 5 = some 88 := by decide +kernel
theorem rr83_6 : R0 83 6 = some 89 := by decide +kernel
theorem rr91_8 : R0 91 8 = some 92 := by decide +kernel
theorem rr91_9 : R0 91 9 = some 93 := by decide +kernel
theorem rr91_10 : R0 91 10 = some 94 := by decide +kernel
theorem rr91_11 : R0 91 11 = some 98 := by decide +kernel
theorem rr91_12 : R0 91 12 = some 105 := by decide +kernel
theorem rr94_1 : R0 94 1 = some 95 := by decide +kernel
theorem rr94_2 : R0 94 2 = some 96 := by decide +kernel
theorem rr94_3 : R0 94 3 = some 97 := by decide +kernel
theorem rr98_1 : R0 98 1 = some 99 := by decide +kernel
theorem rr98_2 : R0 98 2 = some 100 := by decide +kernel
theorem rr98_3 : R0 98 3 = some 101 := by decide +kernel
theorem rr98_4 : R0 98 4 = some 102 := by decide +kernel
theorem rr98_5 : R0 98 5 = some 103 := by decide +kernel
theorem rr98_6 : R0 98 6 = some 104 := by decide +kernel
theorem rr106_8 : R0 106 8 = some 107 := by decide +kernel
theorem rr106_9 : R0 106 9 = some 108 := by decide +kernel
theorem rr106_10 : R0 106 10 = some 109 := by decide +kernel
theorem rr106_11 : R0 106 11 = some 113 := by decide +kernel
theorem rr106_12 : R0 106 12 = some 120 := by decide +kernel
theorem rr109_1 : R0 109 1 = some 110 := by decide +kernel
theorem rr109_2 : R0 109 2 = some 111 := by decide +kernel
theorem rr109_3 : R0 109 3 = some 112 := by decide +kernel
theorem rr113_1 : R0 113 1 = some 114 := by decide +kernel
theorem rr113_2 : R0 113 2 = some 115 := by decide +kernel
theorem rr113_3 : R0 113 3 = some 116 := by decide +kernel
theorem rr113_4 : R0 113 4 = some 117 := by decide +kernel
theorem rr113_5 : R0 113 5 = some 118 := by decide +kernel
theorem rr113_6 : R0 113 6 = some 119 := by decide +kernel
theorem rr121_8 : R0 121 8 = some 122 := by decide +kernel
theorem rr121_9 : R0 121 9 = some 123 := by decide +kernel
theorem rr121_10 : R0 121 10 = some 124 := by decide +kernel
theorem rr121_11 : R0 121 11 = some 128 := by decide +kernel
theorem rr121_12 : R0 121 12 = some 135 := by decide +kernel
theorem rr124_1 : R0 124 1 = some 125 := by decide +kernel
theorem rr124_2 : R0 124 2 = some 126 := by decide +kernel
theorem rr124_3 : R0 124 3 = some 127 := by decide +kernel
theorem rr128_1 : R0 128 1 = some 129 := by decide +kernel
theorem rr128_2 : R0 128 2 = some 130 := by decide +kernel
theorem rr128_3 : R0 128 3 = some 131 := by decide +kernel
theorem rr128_4 : R0 128 4 = some 132 := by decide +kernel
theorem rr128_5 : R0 128 5 = some 133 := by decide +kernel
theorem rr128_6 : R0 128 6 = some 134 := by decide +kernel
theorem rr136_8 : R0 136 8 = some 137 := by decide +kernel
theorem rr136_9 : R0 136 9 = some 138 := by decide +kernel
theorem rr136_10 : R0 136 10 = some 139 := by decide +kernel
theorem rr136_11 : R0 136 11 = some 143 := by decide +kernel
theorem rr136_12 : R0 136 12 = some 150 := by decide +kernel
theorem rr139_1 : R0 139 1 = some 140 := by decide +kernel
theorem rr139_2 : R0 139 2 = some 141 := by decide +kernel
theorem rr139_3 : R0 139 3 = some 142 := by decide +kernel
theorem rr143_1 : R0 143 1 = some 144 := by decide +kernel
theorem rr143_2 : R0 143 2 = some 145 := by decide +kernel
theorem rr143_3 : R0 143 3 = some 146 := by decide +kernel
theorem rr143_4 : R0 143 4 = some 147 := by decide +kernel
theorem rr143_5 : R0 143 5 = some 148 := by decide +kernel
theorem rr143_6 : R0 143 6 = some 149 := by decide +kernel
theorem rr151_8 : R0 151 8 = some 152 := by decide +kernel
theorem rr151_9 : R0 151 9 = some 153 := by decide +kernel
theorem rr151_10 : R0 151 10 = some 154 := by decide +kernel
theorem rr151_11 : R0 151 11 = some 158 := by decide +kernel
theorem rr151_12 : R0 151 12 = some 165 := by decide +kernel
theorem rr154_1 : R0 154 1 = some 155 := by decide +kernel
theorem rr154_2 : R0 154 2 = some 156 := by decide +kernel
theorem rr154_3 : R0 154 3 = some 157 := by decide +kernel
theorem rr158_1 : R0 158 1 = some 159 := by decide +kernel
theorem rr158_2 : R0 158 2 = some 160 := by decide +kernel
theorem rr158_3 : R0 158 3 = some 161 := by decide +kernel
theorem rr158_4 : R0 158 4 = some 162 := by decide +kernel
theorem rr158_5 : R0 158 5 = some 163 := by decide +kernel
theorem rr158_6 : R0 158 6 = some 164 := by decide +kernel
theorem rr166_8 : R0 166 8 = some 167 := by decide +kernel
theorem rr166_9 : R0 166 9 = some 168 := by decide +kernel
theorem rr166_10 : R0 166 10 = some 169 := by decide +kernel
theorem rr166_11 : R0 166 11 = some 173 := by decide +kernel
theorem rr166_12 : R0 166 12 = some 180 := by decide +kernel
theorem rr169_1 : R0 169 1 = some 170 := by decide +kernel
theorem rr169_2 : R0 169 2 = some 171 := by decide +kernel
theorem rr169_3 : R0 169 3 = some 172 := by decide +kernel
theorem rr173_1 : R0 173 1 = some 174 := by decide +kernel
theorem rr173_2 : R0 173 2 = some 175 := by decide +kernel
theorem rr173_3 : R0 173 3 = some 176 := by decide +kernel
theorem rr173_4 : R0 173 4 = some 177 := by decide +kernel
theorem rr173_5 : R0 173 5 = some 178 := by decide +kernel
theorem rr173_6 : R0 173 6 = some 179 := by decide +kernel
end Lay
/-- a line at p, with all that belongs to it -/
def LineAt (q p : Nat) : Prop := (16 ≤ p ∧ p + 14 < 181) ∧ (p < q ∧ K0 p = 55) ∧ (p + 1 < q ∧ K0 (p + 1) = 120) ∧ (p + 2 < q ∧ K0 (p + 2) = 120) ∧ ((p + 3 < q ∧ K0 (p + 3) = 25) ∧ (p + 4 < q ∧ K0 (p + 4) = 30) ∧ (p + 5 < q ∧ K0 (p + 5) = 30) ∧ (p + 6 < q ∧ K0 (p + 6) = 30) ∧ R0 (p + 3) 1 = some (p + 4) ∧ R0 (p + 3) 2 = some (p + 5) ∧ R0 (p + 3) 3 = some (p + 6)) ∧
  ((p + 7 < q ∧ K0 (p + 7) = 35) ∧ (p + 8 < q ∧ K0 (p + 8) = 480) ∧ (p + 9 < q ∧ K0 (p + 9) = 480) ∧ (p + 10 < q ∧ K0 (p + 10) = 480) ∧ (p + 11 < q ∧ K0 (p + 11) = 480) ∧ (p + 12 < q ∧ K0 (p + 12) = 2880) ∧ (p + 13 < q ∧ K0 (p + 13) = 2880) ∧
  R0 (p + 7) 1 = some (p + 8) ∧ R0 (p + 7) 2 = some (p + 9) ∧ R0 (p + 7) 3 = some (p + 10) ∧ R0 (p + 7) 4 = some (p + 11) ∧ R0 (p + 7) 5 = some (p + 12) ∧ R0 (p + 7) 6 = some (p + 13)) ∧ (p + 14 < q ∧ K0 (p + 14) = 15) ∧
  R0 p 8 = some (p + 1) ∧ R0 p 9 = some (p + 2) ∧ R0 p 10 = some (p + 3) ∧ R0 p 11 = some (p + 7) ∧ R0 p 12 = some (p + 14)
theorem la16 {q : Nat} (hq : 181 ≤ q) : LineAt q 16 := ⟨by decide, ⟨(Nat.lt_of_lt_of_le (by decide) hq), (by decide +kernel)⟩, ⟨(Nat.lt_of_lt_of_le (by decide) hq), (by decide +kernel)⟩, ⟨(Nat.lt_of_lt_of_le (by decide) hq), (by decide +kernel)⟩, ⟨⟨(Nat.lt_of_lt_of_le (by decide) hq), (by decide +kernel)⟩, ⟨(Nat.lt_of_lt_of_le (by decide) hq), (by decide +kernel)⟩, ⟨(Nat.lt_of_lt_of_le (by decide) hq), (by decide +kernel)⟩, ⟨(Nat.lt_of_lt_of_le (by decide) hq), (by decide +kernel)⟩, (by decide +kernel), (by decide +kernel), (by decide +kernel)⟩, ⟨⟨(Nat.lt_of_lt_of_le (by decide) hq), (by decide +kernel)⟩, ⟨(Nat.lt_of_lt_of_le (by decide) hq), (by decide +kernel)⟩, ⟨(Nat.lt_of_lt_of_le (by decide) hq), (by decide +kernel)⟩, ⟨(Nat.lt_of_lt_of_le (by decide) hq), (by decide +kernel)⟩, ⟨(Nat.lt_of_lt_of_le (by decide) hq), (by decide +kernel)⟩, ⟨(Nat.lt_of_lt_of_le (by decide) hq), (by decide +kernel)⟩, ⟨(Nat.lt_of_lt_of_le (by decide) hq), (by decide +kernel)⟩, (by decide +kernel), (by decide +kernel), (by decide +kernel), (by decide +kernel), (by decide +kernel), (by decide +kernel)⟩, ⟨(Nat.lt_of_lt_of_le (by decide) hq), (by decide +kernel)⟩, (by decide +kernel), (by decide +kernel), (by decide +kernel), (by decide +kernel), (by decide +kernel)⟩
theorem la31 {q : Nat} (hq : 181 ≤ q) : LineAt q 31 := ⟨by decide, ⟨(Nat.lt_of_lt_of_le (by decide) hq), (by decide +kernel)⟩, ⟨(Nat.lt_of_lt_of_le (by decide) hq), (by decide +kernel)⟩, ⟨(Nat.lt_of_lt_of_le (by decide) hq), (by decide +kernel)⟩, ⟨⟨(Nat.lt_of_lt_of_le (by decide) hq), (by decide +kernel)⟩, ⟨(Nat.lt_of_lt_of_le (by decide) hq), (by decide +kernel)⟩, ⟨(Nat.lt_of_lt_of_le (by decide) hq), (by decide +kernel)⟩, ⟨(Nat.lt_of_lt_of_le (by decide) hq), (by decide +kernel)⟩, (by decide +kernel), (by decide +kernel), (by decide +kernel)⟩, ⟨⟨(Nat.lt_of_lt_of_le (by decide) hq), (by decide +kernel)⟩, ⟨(Nat.lt_of_lt_of_le (by decide) hq), (by decide +kernel)⟩, ⟨(Nat.lt_of_lt_of_le (by decide) hq), (by decide +kernel)⟩, ⟨(Nat.lt_of_lt_of_le (by decide) hq), (by decide +kernel)⟩, ⟨(Nat.lt_of_lt_of_le (by decide) hq), (by decide +kernel)⟩, ⟨(Nat.lt_of_lt_of_le (by decide) hq), (by decide +kernel)⟩, ⟨(Nat.lt_of_lt_of_le (by decide) hq), (by decide +kernel)⟩, (by decide +kernel), (by decide +kernel), (by decide +kernel), (by decide +kernel), (by decide +kernel), (by decide +kernel)⟩, ⟨(Nat.lt_of_lt_of_le (by decide) hq), (by decide +kernel)⟩, (by decide +kernel), (by decide +kernel), (by decide +kernel), (by decide +kernel), (by decide +kernel)⟩
theorem la46 {q : Nat} (hq : 181 ≤ q) : LineAt q 46 := ⟨by decide, ⟨(Nat.lt_of_lt_of_le (by decide) hq), (by decide +kernel)⟩, ⟨(Nat.lt_of_lt_of_le (by decide) hq), (by decide +kernel)⟩, ⟨(Nat.lt_of_lt_of_le (by decide) hq), (by decide +kernel)⟩, ⟨⟨(Nat.lt_of_lt_of_le (by decide) hq), (by decide +kernel)⟩, ⟨(Nat.lt_of_lt_of_le (by decide) hq), (by decide +kernel)⟩, ⟨(Nat.lt_of_lt_of_le (by decide) hq), (by decide +kernel)⟩, ⟨(Nat.lt_of_lt_of_le (by decide) hq), (by decide +kernel)⟩, (by decide +kernel), (by decide +kernel), (by decide +kernel)⟩, ⟨⟨(Nat.lt_of_lt_of_le (by decide) hq), (by decide +kernel)⟩, ⟨(Nat.lt_of_lt_of_le (by decide) hq), (by decide +kernel)⟩, ⟨(Nat.lt_of_lt_of_le (by decide) hq), (by decide +kernel)⟩, ⟨(Nat.lt_of_lt_of_le (by decide) hq), (by decide +kernel)⟩, ⟨(Nat.lt_of_lt_of_le (by decide) hq), (by decide +kernel)⟩, ⟨(Nat.lt_of_lt_of_le (by decide) hq), (by decide +kernel)⟩, ⟨(Nat.lt_of_lt_of_le (by decide) hq), (by decide +kernel)⟩, (by decide +kernel), (by decide +kernel), (by decide +kernel), (by decide +kernel), (by decide +kernel), (by decide +kernel)⟩, ⟨(Nat.lt_of_lt_of_le (by decide) hq), (by decide +kernel)⟩, (by decide +kernel), (by decide +kernel), (by decide +kernel), (by decide +kernel), (by decide +kernel)⟩
theorem la61 {q : Nat} (hq : 181 ≤ q) : LineAt q 61 := ⟨by decide, ⟨(Nat.lt_of_lt_of_le (by decide) hq), (by decide +kernel)⟩, ⟨(Nat.lt_of_lt_of_le (by decide) hq), (by decide +kernel)⟩, ⟨(Nat.lt_of_lt_of_le (by decide) hq), (by decide +kernel)⟩, ⟨⟨(Nat.lt_of_lt_of_le (by decide) hq), (by decide +kernel)⟩, ⟨(Nat.lt_of_lt_of_le (by decide) hq), (by decide +kernel)⟩, ⟨(Nat.lt_of_lt_of_le (by decide) hq), (by decide +kernel)⟩, ⟨(Nat.lt_of_lt_of_le (by decide) hq), (by decide +kernel)⟩, (by decide +kernel), (by decide +kernel), (by decide +kernel)⟩, ⟨⟨(Nat.lt_of_lt_of_le (by decide) hq), (by decide +kernel)⟩, ⟨(Nat.lt_of_lt_of_le (by decide) hq), (by decide +kernel)⟩, ⟨(Nat.lt_of_lt_of_le (by decide) hq), (by decide +kernel)⟩, ⟨(Nat.lt_of_lt_of_le (by decide) hq), (by decide +kernel)⟩, ⟨(Nat.lt_of_lt_of_le (by decide) hq), (by decide +kernel)⟩, ⟨(Nat.lt_of_lt_of_le (by decide) hq), (by decide +kernel)⟩, ⟨(Nat.lt_of_lt_of_le (by decide) hq), (by decide +kernel)⟩, (by decide +kernel), (by decide +kernel), (by decide +kernel), (by decide +kernel), (by decide +kernel), (by decide +kernel)⟩, ⟨(Nat.lt_of_lt_of_le (by decide) hq), (by decide +kernel)⟩, (by decide +kernel), (by decide +kernel), (by decide +kernel), (by decide +kernel), (by decide +kernel)⟩
theorem la76 {q : Nat} (hq : 181 ≤ q) : LineAt q 76 := ⟨by decide, ⟨(Nat.lt_of_lt_of_le (by decide) hq), (by decide +kernel)⟩, ⟨(Nat.lt_of_lt_of_le (by decide) hq), (by decide +kernel)⟩, ⟨(Nat.lt_of_lt_of_le (by decide) hq), (by decide +kernel)⟩, ⟨⟨(Nat.lt_of_lt_of_le (by decide) hq), (by decide +kernel)⟩, ⟨(Nat.lt_of_lt_of_le (by decide) hq), (by decide +kernel)⟩, ⟨(Nat.lt_of_lt_of_le (by decide) hq), (by decide +kernel)⟩, ⟨(Nat.lt_of_lt_of_le (by decide) hq), (by decide +kernel)⟩, (by decide +kernel), (by decide +kernel), (by decide +kernel)⟩, ⟨⟨(Nat.lt_of_lt_of_le (by decide) hq), (by decide +kernel)⟩, ⟨(Nat.lt_of_lt_of_le (by decide) hq), (by decide +kernel)⟩, ⟨(Nat.lt_of_lt_of_le (by decide) hq), (by decide +kernel)⟩, ⟨(Nat.lt_of_lt_of_le (by decide) hq), (by decide +kernel)⟩, ⟨(Nat.lt_of_lt_of_le (by decide) hq), (by decide +kernel)⟩, ⟨(Nat.lt_of_lt_of_le (by decide) hq), (by decide +kernel)⟩, ⟨(Nat.lt_of_lt_of_le (by decide) hq), (by decide +kernel)⟩, (by decide +kernel), (by decide +kernel), (by decide +kernel), (by decide +kernel), (by decide +kernel), (by decide +kernel)⟩, ⟨(Nat.lt_of_lt_of_le (by decide) hq), (by decide +kernel)⟩, (by decide +kernel), (by decide +kernel), (by decide +kernel), (by decide +kernel), (by decide +kernel)⟩
theorem la91 {q : Nat} (hq : 181 ≤ q) : LineAt q 91 := ⟨by decide, ⟨(Nat.lt_of_lt_of_le (by decide) hq), (by decide +kernel)⟩, ⟨(Nat.lt_of_lt_of_le (by decide) hq), (by decide +kernel)⟩, ⟨(Nat.lt_of_lt_of_le (by decide) hq), (by decide +kernel)⟩, ⟨⟨(Nat.lt_of_lt_of_le (by decide) hq), (by decide +kernel)⟩, ⟨(Nat.lt_of_lt_of_le (by decide) hq), (by decide +kernel)⟩, ⟨(Nat.lt_of_lt_of_le (by decide) hq), (by decide +kernel)⟩, ⟨(Nat.lt_of_lt_of_le (by decide) hq), (by decide +kernel)⟩, (by decide +kernel), (by decide +kernel), (by decide +kernel)⟩, ⟨⟨(Nat.lt_of_lt_of_le (by decide) hq), (by decide +kernel)⟩, ⟨(Nat.lt_of_lt_of_le (by decide) hq), (by decide +kernel)⟩, ⟨(Nat.lt_of_lt_of_le (by decide) hq), (by decide +kernel)⟩, ⟨(Nat.lt_of_lt_of_le (by decide) hq), (by decide +kernel)⟩, ⟨(Nat.lt_of_lt_of_le (by decide) hq), (by decide +kernel)⟩, ⟨(Nat.lt_of_lt_of_le (by decide) hq), (by decide +kernel)⟩, ⟨(Nat.lt_of_lt_of_le (by decide) hq), (by decide +kernel)⟩, (by decide +kernel), (by decide +kernel), (by decide +kernel), (by decide +kernel), (by decide +kernel), (by decide +kernel)⟩, ⟨(Nat.lt_of_lt_of_le (by decide) hq), (by decide +kernel)⟩, (by decide +kernel), (by decide +kernel), (by decide +kernel), (by decide +kernel), (by decide +kernel)⟩
theorem la106 {q : Nat} (hq : 181 ≤ q) : LineAt q 106 := ⟨by decide, ⟨(Nat.lt_of_lt_of_le (by decide) hq), (by decide +kernel)⟩, ⟨(Nat.lt_of_lt_of_le (by decide) hq), (by decide +kernel)⟩, ⟨(Nat.lt_of_lt_of_le (by decide) hq), (by decide +kernel)⟩, ⟨⟨(Nat.lt_of_lt_of_le (by decide) hq), (by decide +kernel)⟩, ⟨(Nat.lt_of_lt_of_le (by decide) hq), (by decide +kernel)⟩, ⟨(Nat.lt_of_lt_of_le (by decide) hq), (by decide +kernel)⟩, ⟨(Nat.lt_of_lt_of_le (by decide) hq), (by decide +kernel)⟩, (by decide +kernel), (by decide +kernel), (by decide +kernel)⟩, ⟨⟨(Nat.lt_of_lt_of_le (by decide) hq), (by decide +kernel)⟩, ⟨(Nat.lt_of_lt_of_le (by decide) hq), (by decide +kernel)⟩, ⟨(Nat.lt_of_lt_of_le (by decide) hq), (by decide +kernel)⟩, ⟨(Nat.lt_of_lt_of_le (by decide) hq), (by decide +kernel)⟩, ⟨(Nat.lt_of_lt_of_le (by decide) hq), (by decide +kernel)⟩, ⟨(Nat.lt_of_lt_of_le (by decide) hq), (by decide +kernel)⟩, ⟨(Nat.lt_of_lt_of_le (by decide) hq), (by decide +kernel)⟩, (by decide +kernel), (by decide +kernel), (by decide +kernel), (by decide +kernel), (by decide +kernel), (by decide +kernel)⟩, ⟨(Nat.lt_of_lt_of_le (by decide) hq), (by decide +kernel)⟩, (by decide +kernel), (by decide +kernel), (by decide +kernel), (by decide +kernel), (by decide +kernel)⟩
theorem la121 {q : Nat} (hq : 181 ≤ q) : LineAt q 121 := ⟨by decide, ⟨(Nat.lt_of_lt_of_le (by decide) hq), (by decide +kernel)⟩, ⟨(Nat.lt_of_lt_of_le (by decide) hq), (by decide +kernel)⟩, ⟨(Nat.lt_of_lt_of_le (by decide) hq), (by decide +kernel)⟩, ⟨⟨(Nat.lt_of_lt_of_le (by decide) hq), (by decide +kernel)⟩, ⟨(Nat.lt_of_lt_of_le (by decide) hq), (by decide +kernel)⟩, ⟨(Nat.lt_of_lt_of_le (by decide) hq), (by decide +kernel)⟩, ⟨(Nat.lt_of_lt_of_le (by decide) hq), (by decide +kernel)⟩, (by decide +kernel), (by decide +kernel), (by decide +kernel)⟩, ⟨⟨(Nat.lt_of_lt_of_le (by decide) hq), (by decide +kernel)⟩, ⟨(Nat.lt_of_lt_of_le (by decide) hq), (by decide +kernel)⟩, ⟨(Nat.lt_of_lt_of_le (by decide) hq), (by decide +kernel)⟩, ⟨(Nat.lt_of_lt_of_le (by decide) hq), (by decide +kernel)⟩, ⟨(Nat.lt_of_lt_of_le (by decide) hq), (by decide +kernel)⟩, ⟨(Nat.lt_of_lt_of_le (by decide) hq), (by decide +kernel)⟩, ⟨(Nat.lt_of_lt_of_le (by decide) hq), (by decide +kernel)⟩, (by decide +kernel), (by decide +kernel), (by decide +kernel), (by decide +kernel), (by decide +kernel), (by decide +kernel)⟩, ⟨(Nat.lt_of_lt_of_le (by decide) hq), (by decide +kernel)⟩, (by decide +kernel), (by decide +kernel), (by decide +kernel), (by decide +kernel), (by decide +kernel)⟩
theorem la136 {q : Nat} (hq : 181 ≤ q) : LineAt q 136 := ⟨by decide, ⟨(Nat.lt_of_lt_of_le (by decide) hq), (by decide +kernel)⟩, ⟨(Nat.lt_of_lt_of_le (by decide) hq), (by decide +kernel)⟩, ⟨(Nat.lt_of_lt_of_le (by decide) hq), (by decide +kernel)⟩, ⟨⟨(Nat.lt_of_lt_of_le (by decide) hq), (by decide +kernel)⟩, ⟨(Nat.lt_of_lt_of_le (by decide) hq), (by decide +kernel)⟩, ⟨(Nat.lt_of_lt_of_le (by decide) hq), (by decide +kernel)⟩, ⟨(Nat.lt_of_lt_of_le (by decide) hq), (by decide +kernel)⟩, (by decide +kernel), (by decide +kernel), (by decide +kernel)⟩, ⟨⟨(Nat.lt_of_lt_of_le (by decide) hq), (by decide +kernel)⟩, ⟨(Nat.lt_of_lt_of_le (by decide) hq), (by decide +kernel)⟩, ⟨(Nat.lt_of_lt_of_le (by decide) hq), (by decide +kernel)⟩, ⟨(Nat.lt_of_lt_of_le (by decide) hq), (by decide +kernel)⟩, ⟨(Nat.lt_of_lt_of_le (by decide) hq), (by decide +kernel)⟩, ⟨(Nat.lt_of_lt_of_le (by decide) hq), (by decide +kernel)⟩, ⟨(Nat.lt_of_lt_of_le (by decide) hq), (by decide +kernel)⟩, (by decide +kernel), (by decide +kernel), (by decide +kernel), (by decide +kernel), (by decide +kernel), (by decide +kernel)⟩, ⟨(Nat.lt_of_lt_of_le (by decide) hq), (by decide +kernel)⟩, (by decide +kernel), (by decide +kernel), (by decide +kernel), (by decide +kernel), (by decide +kernel)⟩
theorem la151 {q : Nat} (hq : 181 ≤ q) : LineAt q 151 := ⟨by decide, ⟨(Nat.lt_of_lt_of_le (by decide) hq), (by decide +kernel)⟩, ⟨(Nat.lt_of_lt_of_le (by decide) hq), (by decide +kernel)⟩, ⟨(Nat.lt_of_lt_of_le (by decide) hq), (by decide +kernel)⟩, ⟨⟨(Nat.lt_of_lt_of_le (by decide) hq), (by decide +kernel)⟩, ⟨(Nat.lt_of_lt_of_le (by decide) hq), (by decide +kernel)⟩, ⟨(Nat.lt_of_lt_of_le (by decide) hq), (by decide +kernel)⟩, ⟨(Nat.lt_of_lt_of_le (by decide) hq), (by decide +kernel)⟩, (by decide +kernel), (by decide +kernel), (by decide +kernel)⟩, ⟨⟨(Nat.lt_of_lt_of_le (by decide) hq), (by decide +kernel)⟩, ⟨(Nat.lt_of_lt_of_le (by decide) hq), (by decide +kernel)⟩, ⟨(Nat.lt_of_lt_of_le (by decide) hq), (by decide +kernel)⟩, ⟨(Nat.lt_of_lt_of_le (by decide) hq), (by decide +kernel)⟩, ⟨(Nat.lt_of_lt_of_le (by decide) hq), (by decide +kernel)⟩, ⟨(Nat.lt_of_lt_of_le (by decide) hq), (by decide +kernel)⟩, ⟨(Nat.lt_of_lt_of_le (by decide) hq), (by decide +kernel)⟩, (by decide +kernel), (by decide +kernel), (by decide +kernel), (by decide +kernel), (by decide +kernel), (by decide +kernel)⟩, ⟨(Nat.lt_of_lt_of_le (by decide) hq), (by decide +kernel)⟩, (by decide +kernel), (by decide +kernel), (by decide +kernel), (by decide +kernel), (by decide +kernel)⟩
theorem la166 {q : Nat} (hq : 181 ≤ q) : LineAt q 166 := ⟨by decide, ⟨(Nat.lt_of_lt_of_le (by decide) hq), (by decide +kernel)⟩, ⟨(Nat.lt_of_lt_of_le (by decide) hq), (by decide +kernel)⟩, ⟨(Nat.lt_of_lt_of_le (by decide) hq), (by decide +kernel)⟩, ⟨⟨(Nat.lt_of_lt_of_le (by decide) hq), (by decide +kernel)⟩, ⟨(Nat.lt_of_lt_of_le (by decide) hq), (by decide +kernel)⟩, ⟨(Nat.lt_of_lt_of_le (by decide) hq), (by decide +kernel)⟩, ⟨(Nat.lt_of_lt_of_le (by decide) hq), (by decide +kernel)⟩, (by decide +kernel), (by decide +kernel), (by decide +kernel)⟩, ⟨⟨(Nat.lt_of_lt_of_le (by decide) hq), (by decide +kernel)⟩, ⟨(Nat.lt_of_lt_of_le (by decide) hq), (by decide +kernel)⟩, ⟨(Nat.lt_of_lt_of_le (by decide) hq), (by decide +kernel)⟩, ⟨(Nat.lt_of_lt_of_le (by decide) hq), (by decide +kernel)⟩, ⟨(Nat.lt_of_lt_of_le (by decide) hq), (by decide +kernel)⟩, ⟨(Nat.lt_of_lt_of_le (by decide) hq), (by decide +kernel)⟩, ⟨(Nat.lt_of_lt_of_le (by decide) hq), (by decide +kernel)⟩, (by decide +kernel), (by decide +kernel), (by decide +kernel), (by decide +kernel), (by decide +kernel), (by decide +kernel)⟩, ⟨(Nat.lt_of_lt_of_le (by decide) hq), (by decide +kernel)⟩, (by decide +kernel), (by decide +kernel), (by decide +kernel), (by decide +kernel), (by decide +kernel)⟩
section LayP
variable {q p : Nat} {I : Nat → Int → Int} {v : Int} {fr : Bool}
theorem LineAt.b (h : LineAt q p) : 16 ≤ p ∧ p + 14 < 181 := h.1
theorem LineAt.o0 (h : LineAt q p) : isO (mm q I v fr) p 5 := h.2.1
theorem LineAt.a1 (h : LineAt q p) : isA (mm q I v fr) (p + 1) 12 := h.2.2.1
theorem LineAt.a2 (h : LineAt q p) : isA (mm q I v fr) (p + 2) 12 := h.2.2.2.1
theorem LineAt.o3 (h : LineAt q p) : isO (mm q I v fr) (p + 3) 2 := h.2.2.2.2.1.1
theorem LineAt.a4 (h : LineAt q p) : isA (mm q I v fr) (p + 4) 3 := h.2.2.2.2.1.2.1
theorem LineAt.a5 (h : LineAt q p) : isA (mm q I v fr) (p + 5) 3 := h.2.2.2.2.1.2.2.1
theorem LineAt.a6 (h : LineAt q p) : isA (mm q I v fr) (p + 6) 3 := h.2.2.2.2.1.2.2.2.1
theorem LineAt.r3_1 (h : LineAt q p) : R0 (p + 3) 1 = some (p + 4) := h.2.2.2.2.1.2.2.2.2.1
theorem LineAt.r3_2 (h : LineAt q p) : R0 (p + 3) 2 = some (p + 5) := h.2.2.2.2.1.2.2.2.2.2.1
theorem LineAt.r3_3 (h : LineAt q p) : R0 (p + 3) 3 = some (p + 6) := h.2.2.2.2.1.2.2.2.2.2.2
theorem LineAt.o7 (h : LineAt q p) : isO (mm q I v fr) (p + 7) 3 := h.2.2.2.2.2.1.1
theorem LineAt.a8 (h : LineAt q p) : isA (mm q I v fr) (p + 8) 48 := h.2.2.2.2.2.1.2.1
theorem LineAt.a9 (h : LineAt q p) : isA (mm q I v fr) (p + 9) 48 := h.2.2.2.2.2.1.2.2.1
theorem LineAt.a10 (h : LineAt q p) : isA (mm q I v fr) (p + 10) 48 := h.2.2.2.2.2.1.2.2.2.1
theorem LineAt.a11 (h : LineAt q p) : isA (mm q I v fr) (p + 11) 48 := h.2.2.2.2.2.1.2.2.2.2.1
theorem LineAt.a12 (h : LineAt q p) : isA (mm q I v fr) (p + 12) 288 := h.2.2.2.2.2.1.2.2.2.2.2.1
theorem LineAt.a13 (h : LineAt q p) : isA (mm q I v fr) (p + 13) 288 := h.2.2.2.2.2.1.2.2.2.2.2.2.1
theorem LineAt.r7_1 (h : LineAt q p) : R0 (p + 7) 1 = some (p + 8) := h.2.2.2.2.2.1.2.2.2.2.2.2.2.1
theorem LineAt.r7_2 (h : LineAt q p) : R0 (p + 7) 2 = some (p + 9) := h.2.2.2.2.2.1.2.2.2.2.2.2.2.2.1
theorem LineAt.r7_3 (h : LineAt q p) : R0 (p + 7) 3 = some (p + 10) := h.2.2.2.2.2.1.2.2.2.2.2.2.2.2.2.1
theorem LineAt.r7_4 (h : LineAt q p) : R0 (p + 7) 4 = some (p + 11) := h.2.2.2.2.2.1.2.2.2.2.2.2.2.2.2.2.1
theorem LineAt.r7_5 (h : LineAt q p) : R0 (p + 7) 5 = some (p + 12) := h.2.2.2.2.2.1.2.2.2.2.2.2.2.2.2.2.2.1
theorem LineAt.r7_6 (h : LineAt q p) : R0 (p + 7) 6 = some (p + 13) := h.2.2.2.2.2.1.2.2.2.2.2.2.2.2.2.2.2.2
theorem LineAt.o14 (h : LineAt q p) : isO (mm q I v fr) (p + 14) 1 := h.2.2.2.2.2.2.1
theorem LineAt.r0_8 (h : LineAt q p) : R0 p 8 = some (p + 1) := h.2.2.2.2.2.2.2.1
theorem LineAt.r0_9 (h : LineAt q p) : R0 p 9 = some (p + 2) := h.2.2.2.2.2.2.2.2.1
theorem LineAt.r0_10 (h : LineAt q p) : R0 p 10 = some (p + 3) := h.2.2.2.2.2.2.2.2.2.1
theorem LineAt.r0_11 (h : LineAt q p) : R0 p 11 = some (p + 7) := h.2.2.2.2.2.2.2.2.2.2.1
theorem LineAt.r0_12 (h : LineAt q p) : R0 p 12 = some (p + 14) := h.2.2.2.2.2.2.2.2.2.2.2
end LayP
end
