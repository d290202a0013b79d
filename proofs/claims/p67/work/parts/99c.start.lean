/-! ===== what stands at the law's entry ===== -/
/-- what the Statement gives of the start, in its order -/
abbrev FLs : List Cond := flatC (Jvm.Cond.and given_1 narrow_1)
/-- where the conditions of each text begin in it -/
def txP : List Nat := [445, 454, 1178, 1188, 350, 393, 461, 1092, 1138, 968, 1008, 495, 546, 571, 619, 683, 713, 766, 812, 845, 882, 924, 944, 1059, 323, 259, 655, 285]
def tmT (i : Nat) : Term := .string (clsN (ksE i).1) (ksE i).2
def tmV (i : Nat) : Term := .field (tmT i) "java/lang/String" "value" "[B"
def inF (p : Nat) (w : Cond) : Bool := decide (FLs[p]? = some w)
theorem inF_ok {p : Nat} {w : Cond} (h : inF p w = true) : w ∈ FLs := List.mem_of_getElem? (of_decide_eq_true h)
def inW (w : Cond) : Bool := lw_tbl.any (fun v => decide (v = w))
theorem inW_ok {w : Cond} (h : inW w = true) : w ∈ lw_tbl := by
  obtain ⟨v, h1, h2⟩ := List.any_eq_true.mp h
  rw [← of_decide_eq_true h2]
  exact h1
set_option maxRecDepth 100000 in
theorem fl_ex : (List.range 28).all (fun i => inF (txP.getD i 0) (.exactly (tmT i) "java/lang/String")) = true := by decide +kernel
set_option maxRecDepth 100000 in
theorem fl_tx : (List.range 4).all (fun i => inF (txP.getD i 0 + 1) (.eq (.field (tmT i) "java/lang/String" "coder" "B") (.int 0)) && (inF (txP.getD i 0 + 2) (.arrayOf (tmV i) .byte) && (inF (txP.getD i 0 + 3) (.eq (.length (tmV i)) (.int (Int32.ofNat (ksLen i)))) && (decide (ksLen i < 2147483648) && (List.range (ksLen i)).all (fun j => inF (txP.getD i 0 + 4 + j) (.eq (.elem (tmV i) (.int (Int32.ofNat j))) (.int ((ksB i).getD j 0)))))))) = true := by decide +kernel
set_option maxRecDepth 100000 in
theorem tb_tx : (List.range 28).all (fun i => inW (.stringRef (clsN (ksE i).1) (ksE i).2 (ksX i))) = true := by decide +kernel
set_option maxRecDepth 100000 in
theorem tb_cl : (List.range 16).all (fun c => !(okC c) || inW (.instantiable (clsN c) (if c = 10 then 10 else nf c))) = true := by decide +kernel
def dgtT (n : String) : Term := .static "java/lang/Integer" n "[B"
set_option maxRecDepth 100000 in
theorem fl_dO : ((inF 12 (.arrayOf (dgtT "DigitOnes") .byte) && inF 13 (.eq (.length (dgtT "DigitOnes")) (.int (Int32.ofNat 100)))) && (List.range 100).all (fun j => inF (14 + j) (.eq (.elem (dgtT "DigitOnes") (.int (Int32.ofNat j))) (.int (iI (48 + (j : Int) % 10)))))) = true := by decide +kernel
set_option maxRecDepth 100000 in
theorem fl_dT : ((inF 115 (.arrayOf (dgtT "DigitTens") .byte) && inF 116 (.eq (.length (dgtT "DigitTens")) (.int (Int32.ofNat 100)))) && (List.range 100).all (fun j => inF (117 + j) (.eq (.elem (dgtT "DigitTens") (.int (Int32.ofNat j))) (.int (iI (48 + (j : Int) / 10)))))) = true := by decide +kernel
/-- a class that is known, for each number -/
def ciN (c : Nat) : Nat := if okC c then c else 10
theorem ciN_ok {c : Nat} (hc : c < 16) : okC (ciN c) = true ∧ vwCl[c]? = vwCl[ciN c]? := by
  have h : c = 0 ∨ c = 1 ∨ c = 2 ∨ c = 3 ∨ c = 4 ∨ c = 5 ∨ c = 6 ∨ c = 7 ∨ c = 8 ∨ c = 9 ∨ c = 10 ∨ c = 11 ∨ c = 12 ∨ c = 13 ∨ c = 14 ∨ c = 15 := by omega
  rcases h with rfl | rfl | rfl | rfl | rfl | rfl | rfl | rfl | rfl | rfl | rfl | rfl | rfl | rfl | rfl | rfl <;> exact ⟨rfl, rfl⟩
set_option maxRecDepth 100000 in
theorem tb_ne : neL.all inW = true := by decide +kernel
def ncP : List (List Nat) := [[0, 257, 243], [229, 0, 244], [230, 258, 0]]
set_option maxRecDepth 100000 in
theorem fl_nc : (List.range 3).all (fun a => (List.range 3).all (fun b => decide (a = b) || inF ((ncP.getD a []).getD b 0) (.not (.castable (exc a) (exc b))))) = true := by decide +kernel
theorem all_r {n : Nat} {f : Nat → Bool} (h : (List.range n).all f = true) {i : Nat} (hi : i < n) : f i = true := List.all_eq_true.mp h i (List.mem_range.mpr hi)
theorem neOT : ∀ w ∈ neL, w.onTables = true := by
  intro w hw
  obtain ⟨o, i, x, t, rfl⟩ := neW w hw
  rfl
/-- all that stays, at the law's entry -/
theorem st_start {s : State} {b L : Nat} {xs : Nat → Int32} (hts : ∀ w ∈ lw_tbl, w.before #[Value.ref b] s = true) (hgv : (Jvm.Cond.and given_1 narrow_1).before #[Value.ref b] s = true) (hX : va_X b L xs s s.heap) (hbl : b < s.heap.size) : ∃ G : GG, G.2.2.1 = (b, L, xs) ∧ ST G (fun q => s.heap.size ≤ q) s s.heap := by
  have hs := flat_of_before _ hgv
  have hAn : ∀ a : Nat, a < s.heap.size → ¬ s.heap.size ≤ a := fun a h => by omega
  have tbl : ∀ {w : Cond}, inW w = true → w.before #[Value.ref b] s = true := fun h => hts _ (inW_ok h)
  have giv : ∀ {p : Nat} {w : Cond}, inF p w = true → w.before #[Value.ref b] s = true := fun h => hs _ (inF_ok h)
  -- the texts
  have h0 : ∀ i : Nat, ∃ q : Nat × Nat, i < 28 → (tmT i).eval #[Value.ref b] s none [] s = some (.ref q.1) ∧ (i < 4 → va_O "java/lang/String" q.1 (fun q => s.heap.size ≤ q) s s.heap ∧ va_OF "java/lang/String" "coder" "B" (.int 0) q.1 (fun q => s.heap.size ≤ q) s s.heap ∧ va_OF "java/lang/String" "value" "[B" (.ref q.2) q.1 (fun q => s.heap.size ≤ q) s s.heap ∧ va_T .byte q.2 (ksLen i) (fun j => .int ((ksB i).getD j 0)) (fun q => s.heap.size ≤ q) s s.heap) := by
    intro i
    by_cases hi : i < 28
    · have he := giv (all_r fl_ex hi)
      obtain ⟨a, c, cA, kA, q1, q2, q3, q4, q5, q6, -⟩ := Cond.exactly_spec (args := #[Value.ref b]) (first := s) (o := none) (s := s) (idx := []) (t := tmT i) (cls := "java/lang/String") he
      by_cases h2 : i < 4
      · have ht := all_r fl_tx h2
        simp only [Bool.and_eq_true] at ht
        obtain ⟨t1, t2, t3, t4, t5⟩ := ht
        obtain ⟨t, e1, hT⟩ := va_Tof (f := fun j => .int ((ksB i).getD j 0)) (A := fun q => s.heap.size ≤ q) (of_decide_eq_true t4) (giv t2) (va_eqt (giv t3)) (fun j hj => va_eqt (giv (all_r t5 hj))) hAn
        exact ⟨(a, t), fun _ => ⟨q1, fun _ => ⟨va_Oof he q1 hAn, vk_OFof q1 (va_eqt (giv t1)) hAn, vk_OFof q1 e1 hAn, hT⟩⟩⟩
      · exact ⟨(a, 0), fun _ => ⟨q1, fun z => absurd z h2⟩⟩
    · exact ⟨(0, 0), fun h => absurd h hi⟩
  obtain ⟨ad, had⟩ := Classical.axiomOfChoice h0
  -- the classes
  have k0 : ∀ c : Nat, ∃ q : ClassId × (Nat → Nat), okC c = true → u_Kn s (clsN c) (TT c) (nf c) q.1 q.2 := by
    intro c
    by_cases hc : okC c = true
    · have hw := all_r tb_cl (okC_lt hc)
      rw [hc, Bool.not_true, Bool.false_or] at hw
      obtain ⟨cC, iS, h⟩ := u_known (C := clsN c) (T := TT c) (N := nf c) (n := if c = 10 then 10 else nf c) hts (fun w hw => (List.mem_filter.mp (lyOk hc w hw)).1) (tbl hw)
      exact ⟨(cC, iS), fun _ => h⟩
    · exact ⟨(0, fun _ => 0), fun h => absurd h hc⟩
  obtain ⟨kd, hkd⟩ := Classical.axiomOfChoice k0
  -- the digits
  have hdO := fl_dO
  have hdT := fl_dT
  rw [Bool.and_eq_true, Bool.and_eq_true] at hdO hdT
  obtain ⟨dO, eO, hTO⟩ := va_Tof (f := fun j => .int (iI (48 + (j : Int) % 10))) (A := fun q => s.heap.size ≤ q) (N := 100) (by decide) (giv hdO.1.1) (va_eqt (giv hdO.1.2)) (fun j hj => va_eqt (giv (all_r hdO.2 hj))) hAn
  obtain ⟨dT, eT, hTT⟩ := va_Tof (f := fun j => .int (iI (48 + (j : Int) / 10))) (A := fun q => s.heap.size ≤ q) (N := 100) (by decide) (giv hdT.1.1) (va_eqt (giv hdT.1.2)) (fun j hj => va_eqt (giv (all_r hdT.2 hj))) hAn
  obtain ⟨g2, hg2⟩ : ∃ g2 : Nat → Nat, g2 = fun i => if i = 1000 then dO else if i = 1001 then dT else (ad i).2 := ⟨_, rfl⟩
  have gO : g2 1000 = dO := by rw [hg2]; exact if_pos rfl
  have gT : g2 1001 = dT := by rw [hg2]; exact (if_neg (by decide)).trans (if_pos rfl)
  have gI : ∀ i, i < 4 → g2 i = (ad i).2 := fun i hi => by rw [hg2]; exact (if_neg (by omega)).trans (if_neg (by omega))
  -- the row classes
  obtain ⟨cI, kI, pI, i1, i2, i3⟩ := Cond.arrayClass_spec (hts _ (List.mem_filter.mp acI).1)
  obtain ⟨cL, kL, pL, l1, l2, l3⟩ := Cond.arrayClass_spec (hts _ (List.mem_filter.mp acL).1)
  have hao : (Cond.arrayOver (.object "MatchboxModem$Line")).before #[Value.ref b] s = true := tbl (by decide +kernel)
  obtain ⟨pR, cR, kR, r1, -, r2, r3, r4⟩ := Cond.arrayOver_spec hao
  refine ⟨((fun c => (kd (ciN c)).1, fun c => (kd (ciN c)).2), (cI, cL, cR), (b, L, xs), (fun i => (ad i).1), g2, fun _ => s.heap.size), rfl, ⟨fun c q hq => ?_, fun k q hk => ?_⟩, ⟨hX, hbl, hAn b hbl⟩, fun i hi => by
    have h := (had i (Nat.lt_trans hi (by decide))).2 hi
    rw [← gI i hi] at h
    exact h, fun i hi => vk_R.of (A := #[Value.ref b]) (tbl (all_r tb_tx hi)) (by
    have e := (had i hi).1
    exact e), ⟨vx_Zqof (tbl (by decide +kernel)) (tbl (by decide +kernel)) (giv (p := 4) (by decide +kernel)) hAn, vx_Zqof (tbl (by decide +kernel)) (tbl (by decide +kernel)) (giv (p := 5) (by decide +kernel)) hAn⟩, va_Zof (tbl (by decide +kernel)) (tbl (by decide +kernel)) (va_eqt (giv (p := 6) (by decide +kernel))) hAn, fun w hw => va_Nw.of (neOT w hw) (tbl (List.all_eq_true.mp tb_ne w hw)), fun x y hx hy hxy => ?_, fun w hw => ?_, hao, va_Zqof (tbl (by decide +kernel)) (tbl (by decide +kernel)) (giv (p := 7) (by decide +kernel)) hAn, ⟨by
    have h := va_Zof (C := "java/lang/Integer") (n := "DigitOnes") (d := "[B") (tbl (by decide +kernel)) (tbl (by decide +kernel)) eO hAn
    rw [← gO] at h
    exact h, by
    rw [← gO] at hTO
    exact hTO⟩, by
    have h := va_Zof (C := "java/lang/Integer") (n := "DigitTens") (d := "[B") (tbl (by decide +kernel)) (tbl (by decide +kernel)) eT hAn
    rw [← gT] at h
    exact h, by
    rw [← gT] at hTT
    exact hTT⟩
  · have hc : c < 16 := (List.getElem?_eq_some_iff.mp hq).1
    obtain ⟨c1, c2⟩ := ciN_ok hc
    rw [c2, vwOk c1] at hq
    cases hq
    exact hkd _ c1
  · match k, hk with
    | 0, hk => cases hk; exact ⟨fun n z => ⟨(fun k h => by cases h), kI, i2, pI, i3⟩, i1⟩
    | 1, hk => cases hk; exact ⟨fun n z => ⟨(fun k h => by cases h), kL, l2, pL, l3⟩, l1⟩
    | 2, hk => cases hk; exact ⟨fun n z => ⟨(fun k h => by cases h), kR, r2, pR, r3⟩, kR, pR, r2, r3, r1, r4⟩
    | k + 3, hk => cases hk
  · have h := all_r (all_r fl_nc hx) hy
    rw [Bool.or_eq_true] at h
    rcases h with h | h
    · exact absurd (of_decide_eq_true h) hxy
    · exact va_Nc.of (giv h)
  · have h := List.mem_filter.mp hw
    have h2 := h.2
    simp only [Bool.and_eq_true] at h2
    exact va_Nw.of h2.2 (hts _ h.1)
