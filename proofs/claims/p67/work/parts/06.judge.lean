/-! ===== the judgement Ex: a method's walk in terms of places =====
A place is a number; Value.ref k in a local, on the stack or in a row is the place k: below scr a cell of the world, at the address base + k; scr is the script; scr + 1 + i the text i. -/
abbrev MM : Type := (Nat → Int → Int) × (Nat → Nat → Option Nat) × (Nat → Nat) × Nat × Int × Bool
abbrev OO : Type := (Option Value ⊕ Nat) × MM
abbrev LL : Type := List (Option Value)
/-- of the world: where classes and slots lie; the row classes; the script; the texts and their rows; the base -/
abbrev GG : Type := va_G × (ClassId × ClassId × ClassId) × (Nat × Nat × (Nat → Int32)) × (Nat → Nat) × (Nat → Nat) × (Nat → Nat)
def scr : Nat := 1000000
def adr (G : GG) (k : Nat) : Nat := if k < scr then G.2.2.2.2.2 k else if k = scr then G.2.2.1.1 else if k < scr + 1001 then G.2.2.2.1 (k - (scr + 1)) else G.2.2.2.2.1 (k - (scr + 1001))
def cv (G : GG) (v : Value) : Value := match v with
  | .ref k => .ref (adr G k)
  | v => v
def cvs (G : GG) (st : List Value) : List Value := st.map (cv G)
def cats (st : List Value) : Nat := (st.map fun v => v.category).sum
theorem cv_cat (G : GG) (v : Value) : (cv G v).category = v.category := by cases v <;> rfl
theorem cvs_cats (G : GG) (st : List Value) : ((cvs G st).map fun v => v.category).sum = cats st := by
  unfold cvs cats
  rw [List.map_map]
  congr 1
  exact List.map_congr_left fun v _ => cv_cat G v
/-- what a place is: 10 * class + 5 an object, 10 * length an int row, 10 * length + 2 a byte row, else a row of references -/
def fieldsO (G : GG) (σ : MM) (k c : Nat) : List Value := (List.range (nf c)).map fun j => if fk c j = 2 then va_rf ((σ.2.1 k j).map (adr G)) else .int (iI (σ.1 k j))
def cellO (G : GG) (σ : MM) (k : Nat) : va_E :=
  if σ.2.2.1 k % 10 = 5 then .inr (σ.2.2.1 k / 10, fieldsO G σ k (σ.2.2.1 k / 10))
  else if σ.2.2.1 k % 10 = 0 then .inl (G.2.1.1, σ.2.2.1 k / 10, .inl (fun j => iI (σ.1 k j)))
  else if σ.2.2.1 k % 10 = 2 then .inl (G.2.1.2.1, σ.2.2.1 k / 10, .inl (fun j => iI (σ.1 k j)))
  else .inl (G.2.1.2.2, σ.2.2.1 k / 10, .inr (.inr (.inr (.inr (fun j => (σ.2.1 k j).map (adr G))))))
def wsO (G : GG) (σ : MM) : va_W := (List.range σ.2.2.2.1).map fun k => (G.2.2.2.2.2 k, cellO G σ k)
def tysO (G : GG) : List (ClassId × FieldType) := [(G.2.1.1, .int), (G.2.1.2.1, .byte), (G.2.1.2.2, .object "MatchboxModem$Line")]
theorem wsO_get {G : GG} {σ : MM} {k : Nat} (h : k < σ.2.2.2.1) : (wsO G σ)[k]? = some (G.2.2.2.2.2 k, cellO G σ k) := by
  unfold wsO
  rw [List.getElem?_map, List.getElem?_range h]
  rfl
theorem wsO_out {G : GG} {σ : MM} {k : Nat} (h : σ.2.2.2.1 ≤ k) : (wsO G σ)[k]? = none := by
  unfold wsO
  rw [List.getElem?_map, List.getElem?_eq_none (by rw [List.length_range]; exact h)]
  rfl
theorem wsO_set {G : GG} {σ τ : MM} {k : Nat} {e : va_E} (h : k < σ.2.2.2.1) (hn : τ.2.2.2.1 = σ.2.2.2.1) (he : e = cellO G τ k) (ho : ∀ j, j ≠ k → j < σ.2.2.2.1 → cellO G τ j = cellO G σ j) : (wsO G σ).set k (G.2.2.2.2.2 k, e) = wsO G τ := by
  apply List.ext_getElem?
  intro j
  rw [List.getElem?_set]
  by_cases hj : k = j
  · subst hj
    have hl : k < (wsO G σ).length := by unfold wsO; rw [List.length_map, List.length_range]; exact h
    rw [if_pos rfl, if_pos hl, wsO_get (by rw [hn]; exact h), he]
  · rw [if_neg hj]
    by_cases hlt : j < σ.2.2.2.1
    · rw [wsO_get hlt, wsO_get (by rw [hn]; exact hlt), ho j (fun z => hj z.symm) hlt]
    · rw [wsO_out (Nat.le_of_not_lt hlt), wsO_out (by rw [hn]; exact Nat.le_of_not_lt hlt)]
theorem wsO_app {G : GG} {σ τ : MM} {e : va_E} (hn : τ.2.2.2.1 = σ.2.2.2.1 + 1) (he : e = cellO G τ σ.2.2.2.1) (ho : ∀ j, j < σ.2.2.2.1 → cellO G τ j = cellO G σ j) : wsO G σ ++ [(G.2.2.2.2.2 σ.2.2.2.1, e)] = wsO G τ := by
  unfold wsO
  rw [hn, List.range_succ, List.map_append, he]
  congr 1
  exact List.map_congr_left fun j hj => by rw [ho j (List.mem_range.mp hj)]
theorem adr_lt {G : GG} {k : Nat} (h : k < scr) : adr G k = G.2.2.2.2.2 k := if_pos h
theorem adr_scr {G : GG} : adr G scr = G.2.2.1.1 := by unfold adr; rw [if_neg (Nat.lt_irrefl _), if_pos rfl]
theorem adr_tx {G : GG} {i : Nat} (hi : i < 1000) : adr G (scr + 1 + i) = G.2.2.2.1 i := by unfold adr; rw [if_neg (by omega), if_neg (by omega), if_pos (by omega), Nat.add_sub_cancel_left]
/-- the bytes of a text -/
theorem adr_tb {G : GG} {i : Nat} : adr G (scr + 1001 + i) = G.2.2.2.2.1 i := by unfold adr; rw [if_neg (by omega), if_neg (by omega), if_neg (by omega), Nat.add_sub_cancel_left]
/-! locals -/
def LR (G : GG) (ls : Array Slot) (nL : Nat) (L : LL) : Prop := ls.size = nL ∧ lv_wf ls ∧ L.length = nL ∧ ∀ (i : Nat) (v : Value), L[i]? = some (some v) → ls[i]? = some (.val (cv G v))
def prs (G : GG) (L : LL) : List (Nat × Value) := L.zipIdx.filterMap fun q => q.1.map fun v => (q.2, cv G v)
theorem prs_mem {G : GG} {L : LL} {q : Nat × Value} : q ∈ prs G L ↔ ∃ v, L[q.1]? = some (some v) ∧ q.2 = cv G v := by
  unfold prs
  rw [List.mem_filterMap]
  constructor
  · rintro ⟨⟨x, i⟩, h1, h2⟩
    rw [List.mem_zipIdx_iff_getElem?] at h1
    cases x with
    | none => cases h2
    | some v =>
      have h3 : (i, cv G v) = q := Option.some.inj h2
      subst h3
      exact ⟨v, h1, rfl⟩
  · rintro ⟨v, h1, h2⟩
    refine ⟨(some v, q.1), List.mem_zipIdx_iff_getElem?.mpr h1, ?_⟩
    show some (q.1, cv G v) = some q
    rw [← h2]
theorem LR.has {G : GG} {ls : Array Slot} {nL : Nat} {L : LL} (h : LR G ls nL L) : lv_has ls nL (prs G L) := ⟨h.1, h.2.1, fun q hq => by
  obtain ⟨v, h1, h2⟩ := prs_mem.mp hq
  rw [h2]
  exact h.2.2.2 _ _ h1⟩
theorem LR.at {G : GG} {ls : Array Slot} {nL : Nat} {L : LL} (h : LR G ls nL L) {i : Nat} {v : Value} (hi : L[i]? = some (some v)) : ls[i]? = some (.val (cv G v)) := h.2.2.2 i v hi
theorem LR.of {G : GG} {ls : Array Slot} {nL : Nat} {L : LL} {lv : List (Nat × Value)} (h : lv_has ls nL lv) (hl : L.length = nL) (hs : ∀ (i : Nat) (v : Value), L[i]? = some (some v) → (i, cv G v) ∈ lv) : LR G ls nL L := ⟨h.1, h.2.1, hl, fun i v hi => h.2.2 _ (hs i v hi)⟩
def nc : Option Value → Bool
  | some (.long _) => false
  | some (.double _) => false
  | _ => true
/-- the local below i is none of two words -/
def ncA (L : LL) : Nat → Bool
  | 0 => true
  | j + 1 => match L[j]? with
    | some x => nc x
    | none => true
theorem nc_cat {v : Value} (h : nc (some v) = true) : ¬ v.category = 2 := by
  cases v <;> first | (intro z; cases z; done) | cases h
theorem LR.st1 {G : GG} {ls ls' : Array Slot} {nL i : Nat} {L : LL} {w : Option Value} {x : Value} (h : LR G ls nL L) (hw : ∀ v, w = some v → x = cv G v) (hi : ncA L i = true) (h' : lv_has ls' nL ((i, x) :: (prs G L).filter (fun q => !(q.1 == i) && !(q.1 + 1 == i && q.2.category == 2)))) : LR G ls' nL (L.set i w) := by
  refine LR.of h' (by rw [List.length_set]; exact h.2.2.1) fun j v hj => ?_
  rw [List.getElem?_set] at hj
  by_cases e : i = j
  · subst e
    rw [if_pos rfl] at hj
    split at hj
    · rw [← hw v (Option.some.inj hj)]
      exact List.mem_cons_self
    · cases hj
  · rw [if_neg e] at hj
    refine List.mem_cons_of_mem _ (List.mem_filter.mpr ⟨prs_mem.mpr ⟨v, hj, rfl⟩, ?_⟩)
    have e1 : (j == i) = false := by
      rw [beq_eq_false_iff_ne]
      exact fun z => e z.symm
    have e2 : (j + 1 == i && (cv G v).category == 2) = false := by
      by_cases e3 : j + 1 = i
      · subst e3
        have h4 : nc (some v) = true := by
          have h7 : (match L[j]? with | some x => nc x | none => true) = true := hi
          rw [hj] at h7
          exact h7
        have h5 : ¬ (cv G v).category = 2 := by rw [cv_cat]; exact nc_cat h4
        have h6 : ((cv G v).category == 2) = false := by rw [beq_eq_false_iff_ne]; exact h5
        rw [h6, Bool.and_false]
      · have h6 : (j + 1 == i) = false := by rw [beq_eq_false_iff_ne]; exact e3
        rw [h6, Bool.false_and]
    show (!(j == i) && !(j + 1 == i && (cv G v).category == 2)) = true
    rw [e1, e2]
    rfl
theorem LR.st2 {G : GG} {ls ls' : Array Slot} {nL i : Nat} {L : LL} {v0 : Value} (h : LR G ls nL L) (hi : ncA L i = true) (h' : lv_has ls' nL ((i, cv G v0) :: (prs G L).filter (fun q => !(q.1 == i) && (!(q.1 == i + 1) && !(q.1 + 1 == i && q.2.category == 2))))) : LR G ls' nL ((L.set i (some v0)).set (i + 1) none) := by
  refine LR.of h' (by rw [List.length_set, List.length_set]; exact h.2.2.1) fun j v hj => ?_
  rw [List.getElem?_set] at hj
  by_cases e0 : i + 1 = j
  · subst e0
    rw [if_pos rfl] at hj
    split at hj <;> cases hj
  rw [if_neg e0, List.getElem?_set] at hj
  by_cases e : i = j
  · subst e
    rw [if_pos rfl] at hj
    split at hj
    · have e9 : v0 = v := Option.some.inj (Option.some.inj hj)
      rw [e9]
      exact List.mem_cons_self
    · cases hj
  · rw [if_neg e] at hj
    refine List.mem_cons_of_mem _ (List.mem_filter.mpr ⟨prs_mem.mpr ⟨v, hj, rfl⟩, ?_⟩)
    have e1 : (j == i) = false := by
      rw [beq_eq_false_iff_ne]
      exact fun z => e z.symm
    have e7 : (j == i + 1) = false := by
      rw [beq_eq_false_iff_ne]
      exact fun z => e0 z.symm
    have e2 : (j + 1 == i && (cv G v).category == 2) = false := by
      by_cases e3 : j + 1 = i
      · subst e3
        have h4 : nc (some v) = true := by
          have h7 : (match L[j]? with | some x => nc x | none => true) = true := hi
          rw [hj] at h7
          exact h7
        have h5 : ¬ (cv G v).category = 2 := by rw [cv_cat]; exact nc_cat h4
        have h6 : ((cv G v).category == 2) = false := by rw [beq_eq_false_iff_ne]; exact h5
        rw [h6, Bool.and_false]
      · have h6 : (j + 1 == i) = false := by rw [beq_eq_false_iff_ne]; exact e3
        rw [h6, Bool.false_and]
    show (!(j == i) && (!(j == i + 1) && !(j + 1 == i && (cv G v).category == 2))) = true
    rw [e1, e7, e2]
    rfl
/-! what stays: classes, script, texts, statics, links -/
/-- words that aren't kept by themselves: castable, declares -/
def faL : List Cond := lw_tbl.filter (fun w => w.faceAtom && w.onTables)
theorem faW {s U : State} (hW : s.WarmedH U.vm) {w : Cond} (hw : w ∈ faL) (h : va_Nw w s) : va_Nw w U := by
  have h1 := (List.mem_filter.mp hw).2
  simp only [Bool.and_eq_true] at h1
  exact va_tabs h1.2 (rfl : (s.setVm U.vm).vm = U.vm) (Cond.faceAtom_setVm hW.alike w h1.1 h)
/-- the library's digits: the last but one digit of a number below 100, the last one -/
def ST2 (G : GG) (A : Nat → Prop) (U : State) (H : Heap) : Prop :=
  (va_Z "java/lang/Integer" "DigitOnes" "[B" (.ref (G.2.2.2.2.1 1000)) A U H ∧ va_T .byte (G.2.2.2.2.1 1000) 100 (fun j => .int (iI (48 + (j : Int) % 10))) A U H) ∧
  (va_Z "java/lang/Integer" "DigitTens" "[B" (.ref (G.2.2.2.2.1 1001)) A U H ∧ va_T .byte (G.2.2.2.2.1 1001) 100 (fun j => .int (iI (48 + (j : Int) / 10))) A U H)
def ST (G : GG) (A : Nat → Prop) (U : State) (H : Heap) : Prop :=
  va_K G.1 vwCl (tysO G) U ∧ (va_X G.2.2.1.1 G.2.2.1.2.1 G.2.2.1.2.2 U H ∧ G.2.2.1.1 < H.size ∧ ¬ A G.2.2.1.1) ∧
  (∀ i : Nat, i < nTC → va_O "java/lang/String" (G.2.2.2.1 i) A U H ∧ va_OF "java/lang/String" "coder" "B" (.int 0) (G.2.2.2.1 i) A U H ∧ va_OF "java/lang/String" "value" "[B" (.ref (G.2.2.2.2.1 i)) (G.2.2.2.1 i) A U H ∧ va_T .byte (G.2.2.2.2.1 i) (ksLen i) (fun j => .int ((ksB i).getD j 0)) A U H) ∧
  (∀ i : Nat, i < nTX → vk_R (clsN (ksE i).1) (ksE i).2 (ksX i) (G.2.2.2.1 i) U) ∧
  (vx_Zq Bundle.tN "UNASSIGNED_STACK" Bundle.steD A U H ∧ vx_Zq Bundle.tN "SUPPRESSED_SENTINEL" Bundle.listD A U H) ∧
  va_Z "java/lang/String" "COMPACT_STRINGS" "Z" (.int 1) A U H ∧
  (∀ w ∈ neL, va_Nw w U) ∧
  (∀ a b : Nat, a < 3 → b < 3 → a ≠ b → va_Nc (exc a) (exc b) U) ∧ (∀ w ∈ faL, va_Nw w U) ∧ va_AO "MatchboxModem$Line" U ∧ va_Zq "jdk/internal/util/Preconditions" "SIOOBE_FORMATTER" "Ljava/util/function/BiFunction;" A U H ∧ ST2 G A U H
theorem ST.narrow {G : GG} {A B : Nat → Prop} {U : State} {H : Heap} (h : ST G A U H) (hAB : ∀ q, B q → A q) : ST G B U H :=
  ⟨h.1, ⟨h.2.1.1, h.2.1.2.1, fun z => h.2.1.2.2 (hAB _ z)⟩, fun i hi => ⟨(h.2.2.1 i hi).1.narrow hAB, (h.2.2.1 i hi).2.1.narrow hAB, (h.2.2.1 i hi).2.2.1.narrow hAB, (h.2.2.1 i hi).2.2.2.narrow hAB⟩, h.2.2.2.1,
    ⟨h.2.2.2.2.1.1.narrow hAB, h.2.2.2.2.1.2.narrow hAB⟩, h.2.2.2.2.2.1.narrow hAB, h.2.2.2.2.2.2.1, h.2.2.2.2.2.2.2.1, h.2.2.2.2.2.2.2.2.1, h.2.2.2.2.2.2.2.2.2.1, va_Zq.narrow h.2.2.2.2.2.2.2.2.2.2.1 hAB, ⟨h.2.2.2.2.2.2.2.2.2.2.2.1.1.narrow hAB, h.2.2.2.2.2.2.2.2.2.2.2.1.2.narrow hAB⟩, h.2.2.2.2.2.2.2.2.2.2.2.2.1.narrow hAB, h.2.2.2.2.2.2.2.2.2.2.2.2.2.narrow hAB⟩
theorem ST.kept {G : GG} {A : Nat → Prop} {U : State} {H H1 : Heap} (h : ST G A U H) (hz : H.size ≤ H1.size) (hq : ∀ a : Nat, a < H.size → ¬ A a → H1[a]? = H[a]?) : ST G A U H1 :=
  ⟨h.1, ⟨h.2.1.1.kept (hq _ h.2.1.2.1 h.2.1.2.2), Nat.lt_of_lt_of_le h.2.1.2.1 hz, h.2.1.2.2⟩, fun i hi => ⟨(h.2.2.1 i hi).1.kept hq, (h.2.2.1 i hi).2.1.kept hq, (h.2.2.1 i hi).2.2.1.kept hq, (h.2.2.1 i hi).2.2.2.kept hq⟩, h.2.2.2.1,
    ⟨h.2.2.2.2.1.1.kept hq, h.2.2.2.2.1.2.kept hq⟩, h.2.2.2.2.2.1.kept hq, h.2.2.2.2.2.2.1, h.2.2.2.2.2.2.2.1, h.2.2.2.2.2.2.2.2.1, h.2.2.2.2.2.2.2.2.2.1, va_Zq.kept h.2.2.2.2.2.2.2.2.2.2.1 hq, ⟨h.2.2.2.2.2.2.2.2.2.2.2.1.1.kept hq, h.2.2.2.2.2.2.2.2.2.2.2.1.2.kept hq⟩, h.2.2.2.2.2.2.2.2.2.2.2.2.1.kept hq, h.2.2.2.2.2.2.2.2.2.2.2.2.2.kept hq⟩
theorem neW : ∀ w ∈ neL, ∃ (o : String) (i : Nat) (x : MethodName) (t : String), w = .methodLinkNest o i x t := by
  intro w hw
  simp only [neL, List.mem_cons, List.not_mem_nil, or_false] at hw
  rcases hw with rfl | rfl | rfl | rfl | rfl | rfl | rfl | rfl | rfl | rfl <;> exact ⟨_, _, _, _, rfl⟩
theorem ST.warm {G : GG} {A : Nat → Prop} {s U : State} {H : Heap} (h : ST G A s H) (hW : s.WarmedH U.vm) : ST G A U H :=
  ⟨va_K.moved hW.alike h.1, ⟨va_X.moved hW.alike h.2.1.1, h.2.1.2⟩, fun i hi => ⟨va_O.moved hW.alike (h.2.2.1 i hi).1, va_OF.moved hW.alike (h.2.2.1 i hi).2.1, va_OF.moved hW.alike (h.2.2.1 i hi).2.2.1, va_T.moved hW.alike (h.2.2.1 i hi).2.2.2⟩,
    fun i hi => (h.2.2.2.1 i hi).warm hW, ⟨vx_Zq.moved hW.alike h.2.2.2.2.1.1, vx_Zq.moved hW.alike h.2.2.2.2.1.2⟩, va_Z.moved hW.alike h.2.2.2.2.2.1,
    fun w hw => by obtain ⟨o, i, x, t, rfl⟩ := neW w hw; exact va_Nw.warmM hW (h.2.2.2.2.2.2.1 _ hw), fun a b h1 h2 h3 => va_Nc.moved hW.alike (h.2.2.2.2.2.2.2.1 a b h1 h2 h3), fun w hw => faW hW hw (h.2.2.2.2.2.2.2.2.1 w hw), va_AO.moved hW.alike h.2.2.2.2.2.2.2.2.2.1, va_Zq.moved hW.alike h.2.2.2.2.2.2.2.2.2.2.1, ⟨va_Z.moved hW.alike h.2.2.2.2.2.2.2.2.2.2.2.1.1, va_T.moved hW.alike h.2.2.2.2.2.2.2.2.2.2.2.1.2⟩, va_Z.moved hW.alike h.2.2.2.2.2.2.2.2.2.2.2.2.1, va_T.moved hW.alike h.2.2.2.2.2.2.2.2.2.2.2.2.2⟩
