/-! ===== a call whose exceptions are taken here; the law's does, reads ===== -/
def hFind (o pc E : Nat) : List (Nat × Nat × Nat × Nat) → Option Nat
  | [] => none
  | x :: r => if x.1 ≤ pc ∧ pc < x.2.1 then (match exN o x.2.2.2 with
    | some e => if e = E then some x.2.2.1 else hFind o pc E r
    | none => none) else hFind o pc E r
theorem hFind_ok {o pc E h : Nat} : ∀ l : List (Nat × Nat × Nat × Nat), hFind o pc E l = some h → ∃ (pre suf : List (Nat × Nat × Nat × Nat)) (x : Nat × Nat × Nat × Nat), l = pre ++ x :: suf ∧ (∀ z ∈ pre, ¬ (z.1 ≤ pc ∧ pc < z.2.1) ∨ ∃ e, exN o z.2.2.2 = some e ∧ e ≠ E) ∧ (x.1 ≤ pc ∧ pc < x.2.1) ∧ exN o x.2.2.2 = some E ∧ x.2.2.1 = h
  | [], hh => by cases hh
  | x :: r, hh => by
    unfold hFind at hh
    by_cases g : x.1 ≤ pc ∧ pc < x.2.1
    · rw [if_pos g] at hh
      cases ee : exN o x.2.2.2 with
      | none => rw [ee] at hh; cases hh
      | some e =>
        rw [ee] at hh
        by_cases g2 : e = E
        · have hh : (if e = E then some x.2.2.1 else hFind o pc E r) = some h := hh
          rw [if_pos g2] at hh
          exact ⟨[], r, x, rfl, fun z hz => absurd hz List.not_mem_nil, g, by rw [ee, g2], Option.some.inj hh⟩
        · have hh : (if e = E then some x.2.2.1 else hFind o pc E r) = some h := hh
          rw [if_neg g2] at hh
          obtain ⟨pre, suf, y, e1, e2, e3, e4, e5⟩ := hFind_ok r hh
          exact ⟨x :: pre, suf, y, by rw [e1]; rfl, fun z hz => by
            rcases List.mem_cons.mp hz with rfl | hz
            · exact Or.inr ⟨e, ee, g2⟩
            · exact e2 z hz, e3, e4, e5⟩
    · rw [if_neg g] at hh
      obtain ⟨pre, suf, y, e1, e2, e3, e4, e5⟩ := hFind_ok r hh
      exact ⟨x :: pre, suf, y, by rw [e1]; rfl, fun z hz => by
        rcases List.mem_cons.mp hz with rfl | hz
        · exact Or.inl g
        · exact e2 z hz, e3, e4, e5⟩
/-- an exception that is taken here -/
def XC (l : LX) (y k n pc : Nat) (L : LL) (Q : OO → Prop) (E : Nat) (τ : MM) : Prop := ∃ h pc2 i : Nat, hFind (owN y) pc E (hhN y) = some h ∧ ((∃ f : Fin 4, (f : Nat) = i ∧ decode (cdN y) h = .ok (.astore_n f, 1) ∧ pc2 = h + 1) ∨ (decode (cdN y) h = .ok (.astore i, 2) ∧ pc2 = h + 2)) ∧ i < mlN y ∧ ncA L i = true ∧ Ex l y k n pc2 (L.set i none) [] τ Q
section Catch
variable {l : LX} {y k n pc : Nat} {L : LL} {σ : MM} {Q : OO → Prop}
theorem xc_w {E : Nat} {τ : MM} (h : XC l y k n pc L Q E τ) {G : GG} {p : Program} {e : Env} {R : Room} {s : State} {m : MethodId} {args : Array Value} {below : List Frame} {meth : Method} {c : Code} {A : Nat → Prop} {CE SE : Nat} {Qf : State → Prop}
    (hA : AMB l y G p R s m args meth c A) (hC : CE ≤ R.cells) (hS : SE ≤ R.slots) (hF : FIN l y G p e R s m args below meth c A CE SE Qf Q) {H : Heap} {locs : List Loc} {cells slots : Nat} {ls : Array Slot} {rest : List Value} (h1 : cells + k = CE) (h2 : slots + n = SE) (hL : LR G ls (mlN y) L) (hW : WOK G A s H locs τ) (hf : τ.2.2.2.2.2 = false)
    {q : Addr} {ce : Cell} (hce : H[q]? = some ce) (hv : ce.vm = .none) (hcl : s.vm.findClass (exc E) = some ce.cls) : vx_W p l.1 e R s m args below meth c H locs cells slots Qf (F0 m pc ls rest) q := by
  obtain ⟨hd0, pc2, i, hfd, e6, hi, hn, hk⟩ := h
  obtain ⟨pre, suf, x, e1, e2, e3, e5, e7⟩ := hFind_ok _ hfd
  have hST := hA.2.2.2.2.2.2.2.2.2.2.2.2.2
  have hts := hA.2.2.2.2.2.2.2.2.1
  have htab := hA.2.2.2.2.2.2.2.2.2.1
  obtain ⟨w1, hE, hx0⟩ := exLk e5
  refine vx_catch (E := exc E) (name := exc E) hA.2.2.2.2.2.1 (tableOf pre) ⟨x.1, x.2.1, x.2.2.1, x.2.2.2⟩ (tableOf suf) (by rw [htab, e1]; unfold tableOf; rw [List.map_append]; rfl) (fun z hz => ?_) (by unfold covers; simp [e3]) hx0 (hts _ w1)
    (by
      have h9 := exCa hE
      have h7 := (List.mem_filter.mp h9).2
      simp only [Bool.and_eq_true] at h7
      exact va_Nw.use h7.2 (hST.2.2.2.2.2.2.2.2.1 _ h9)) hce hv hcl ?_
  · unfold tableOf at hz
    obtain ⟨w, hw, rfl⟩ := List.mem_map.mp hz
    rcases e2 w hw with f0 | ⟨e9, f1, f2⟩
    · refine Or.inl ?_
      unfold covers
      simp only [Bool.and_eq_false_iff, decide_eq_false_iff_not]
      omega
    · obtain ⟨g1, g2, g3⟩ := exLk f1
      exact Or.inr ⟨g3, exc e9, hts _ g1, hST.2.2.2.2.2.2.2.1 E e9 hE g2 (fun z => f2 z.symm)⟩
  · have hgo : ∀ ls', LR G ls' (mlN y) (L.set i none) → W p l.1 e R s m args below meth c H locs cells slots Qf (F0 m pc2 ls' []) := fun ls' hl' => hk G p e R s m args below meth c A CE SE Qf hA hC hS hF H locs cells slots ls' h1 h2 hl' hW (fun z => by rw [hf] at z; cases z)
    show W p l.1 e R s m args below meth c H locs cells slots Qf (F0 m x.2.2.1 ls [.ref q])
    rw [e7]
    rcases e6 with ⟨f, rfl, hd, rfl⟩ | ⟨hd, rfl⟩
    · exact lv_astore_n (x := q) hA.2.1 hA.2.2.1 hd rfl hL.has hi rfl (fun ls' h' => hgo ls' (hL.st1 (fun v hv => by cases hv) hn h'))
    · exact lv_astore (x := q) hA.2.1 hA.2.2.1 hd hL.has hi rfl (fun ls' h' => hgo ls' (hL.st1 (fun v hv => by cases hv) hn h'))
/-- a method's call where exceptions are taken -/
theorem x_catV {ix t a k1 n1 : Nat} {ps : List Nat} {As rest : List Value} {st : List Value} {Q1 : OO → Prop} (hc : ctN (owN y) ix = some (0, t, ps)) (hCT : CT l t (.ref a :: As) σ k1 n1 Q1) (ho : isO σ a (owN t)) (hfr : σ.2.2.2.2.2 = false) (hst : st = As.reverse ++ .ref a :: rest) (hlen : As.length = naN t) (hcat : cats rest ≤ 8) (hh : htN t + 1 ≤ htN y) (hlo : 8 + (mlN t + 11) + loN t ≤ loN y) (hd : decode (cdN y) pc = .ok (.invokevirtual ix, 3))
    (hu : ∀ (v : Option Value) (τ : MM), Q1 (.inl v, τ) → τ.2.2.2.2.2 = false) (kk : ∀ (v : Option Value) (τ : MM), Q1 (.inl v, τ) → Ex l y k n (pc + 3) L (v.toList ++ rest) τ Q) (kx : ∀ (E : Nat) (τ : MM), Q1 (.inr E, τ) → τ.2.2.2.2.2 = false → XC l y k n pc L Q E τ) : Ex l y (k1 + k) (n1 + n) pc L st σ Q := by
  intro G p e R s m args below meth c A CE SE Qf hA hC hS hF H locs cells slots ls h1 h2 hL hW hR
  have hst2 : cvs G st = (cvs G (.ref a :: As)).reverse ++ cvs G rest := by
    rw [hst]
    unfold cvs
    rw [List.map_append, List.map_reverse, List.map_cons, List.map_cons, List.reverse_cons, List.append_assoc]
    rfl
  have hrun := run_V hc hCT ho hlen hh hlo hd G p e R s m args below meth c A H locs cells slots ls (cvs G rest) hA (by omega) (by omega) hL.1 hW (fun z => by rw [hfr] at z; cases z) (by rw [cvs_cats]; exact hcat)
  rw [hst2]
  refine cal_go (Q := Q1) hA hW hrun (fun v τ H1 locs1 hq hW1 _ => ?_) (fun E τ H1 locs1 q ce hq hf hW1 hce hv hcl => ?_)
  · have h := kk v τ hq G p e R s m args below meth c A CE SE Qf hA hC hS hF H1 locs1 (cells + k1) (slots + n1) ls (by omega) (by omega) hL hW1 (fun z => by rw [hu v τ hq] at z; cases z)
    have e1 : cvs G (v.toList ++ rest) = (v.map (cv G)).toList ++ cvs G rest := by
      cases v <;> rfl
    rw [e1] at h
    exact h
  · exact xc_w (kx E τ hq hf) hA hC hS hF (by omega) (by omega) hL hW1 hf hce hv hcl
/-- an operation of the class's -/
theorem x_doV {ix t a B : Nat} {ps : List Nat} {As rest : List Value} {st : List Value} {I : Nat → Int → Int} {v : Int} {E : Int → Nat} {r : Int × Int × GS} (hc : ctN (owN y) ix = some (0, t, ps)) (hCT : CT l t (.ref a :: As) (mm 181 I v false) 1 6 (QC 181 v E I r)) (ho : isO (mm 181 I v false) a (owN t)) (hst : st = As.reverse ++ .ref a :: rest) (hlen : As.length = naN t) (hcat : cats rest ≤ 8) (hh : htN t + 1 ≤ htN y) (hlo : 8 + (mlN t + 11) + loN t ≤ loN y) (hd : decode (cdN y) pc = .ok (.invokevirtual ix, 3))
    (kk : ∀ K, r.1 = 0 → CREL K r.2.2 → Ex l y B (6 * B) (pc + 3) L (.int (iI r.2.1) :: rest) (mm 181 K v false) Q) (kx : ∀ K, r.1 ≠ 0 → CREL K r.2.2 → XC l y B (6 * B) pc L Q (E r.1) (mm 181 K v false)) : Ex l y (B + 1) (6 * (B + 1)) pc L st (mm 181 I v false) Q := by
  have := x_catV (k := B) (n := 6 * B) (L := L) (Q := Q) hc hCT ho rfl hst hlen hcat hh hlo hd (fun v' τ' e => by
    rcases e with ⟨-, K, e1, -⟩ | ⟨-, K, e1, -⟩ <;> cases e1
    rfl) (fun v' τ' e => by
    rcases e with ⟨h0, K, e1, hK, -⟩ | ⟨-, K, e1, -⟩ <;> cases e1
    exact kk K h0 hK) (fun E' τ' e _ => by
    rcases e with ⟨-, K, e1, -⟩ | ⟨h0, K, e1, hK, -⟩ <;> cases e1
    exact kx K h0 hK)
  rw [Nat.add_comm 1 B, Nat.add_comm 6 (6 * B)] at this
  exact this
end Catch
def dzE (e : Nat) : Int := if e = 2 then -1001 else if e = 0 then -1002 else -1003
/-- an operation's answer -/
def dzR (E : Int → Nat) (r : Int × Int × GS) : Int := if r.1 = 0 then r.2.1 else dzE (E r.1)
section Does
variable {l : LX} {I : Nat → Int → Int} {v a b c : Int}
theorem do_E {B pc e : Nat} {L : LL} {τ : MM} {Q : OO → Prop} (he : e = 0 ∨ e = 1 ∨ e = 2) (h2 : hFind (owN 304) pc 2 (hhN 304) = some 124) (h0 : hFind (owN 304) pc 0 (hhN 304) = some 130) (h1 : hFind (owN 304) pc 1 (hhN 304) = some 136) (hn : ncA L 5 = true) (hf : τ.2.2.2.2.2 = false) (kk : Q (.inl (some (.int (iI (dzE e)))), τ)) : XC l 304 B (6 * B) pc L Q e τ := by
  rcases he with rfl | rfl | rfl
  · refine ⟨130, 132, 5, h0, Or.inr ⟨d304_130, rfl⟩, by decide +kernel, hn, ?_⟩
    refine x_sipush (pc := 132) (by decide) d304_132 ?_
    exact x_iret rfl (fun z => by rw [hf] at z; cases z) d304_135 kk
  · refine ⟨136, 138, 5, h1, Or.inr ⟨d304_136, rfl⟩, by decide +kernel, hn, ?_⟩
    refine x_sipush (pc := 138) (by decide) d304_138 ?_
    exact x_iret rfl (fun z => by rw [hf] at z; cases z) d304_141 kk
  · refine ⟨124, 126, 5, h2, Or.inr ⟨d304_124, rfl⟩, by decide +kernel, hn, ?_⟩
    refine x_sipush (pc := 126) (by decide) d304_126 ?_
    exact x_iret rfl (fun z => by rw [hf] at z; cases z) d304_129 kk

theorem ct_do0 (hl : l.1.stackTraces = false) {E : Int → Nat} {r : Int × Int × GS} (hE : E r.1 = 0 ∨ E r.1 = 1 ∨ E r.1 = 2) (hCT : CT l 127 (.ref 0 :: []) (mm 181 I v false) 1 6 (QC 181 v E I r)) : CT l 304 [.ref 0, .int (iI 0), .int (iI a), .int (iI b), .int (iI c)] (mm 181 I v false) 1 6 (oE 181 v false (some (.int (iI (dzR E r)))) (fun K => CREL K r.2.2)) := by
  refine mkct2 hl (by decide) (Nat.le_of_ble_eq_true rfl) (L := [some (.ref 0), some (.int (iI 0)), some (.int (iI a)), some (.int (iI b)), some (.int (iI c)), none]) rfl ?_
  refine x_iload_n (pc := 0) rfl d304_0 ?_
  refine x_tabIn (pc := 1) (tgt := 52) ⟨by omega, by omega⟩ d304_1 (by decide) (by decide) rfl (by decide) ?_
  refine x_aload_n (pc := 52) rfl d304_52 ?_
  refine x_mask [false, false, false, false, false, true] ?_
  dsimp only [mask]
  refine x_doV (B := 0) (pc := 53) (As := []) c304_54 hCT (ko0 (by omega)) rfl rfl (Nat.le_of_ble_eq_true rfl) (by decide +kernel) (by decide +kernel) d304_53 (fun K h0 hK => ?_) (fun K h0 hK => ?_)
  · refine x_iret rfl (fun z => Bool.noConfusion z) d304_56 ⟨K, ?_, hK⟩
    unfold dzR
    rw [if_pos h0]
  · refine do_E hE (by decide +kernel) (by decide +kernel) (by decide +kernel) rfl rfl ⟨K, ?_, hK⟩
    unfold dzR
    rw [if_neg h0]
theorem ct_do1 (hl : l.1.stackTraces = false) {E : Int → Nat} {r : Int × Int × GS} (hE : E r.1 = 0 ∨ E r.1 = 1 ∨ E r.1 = 2) (hCT : CT l 128 (.ref 0 :: [.int (iI a)]) (mm 181 I v false) 1 6 (QC 181 v E I r)) : CT l 304 [.ref 0, .int (iI 1), .int (iI a), .int (iI b), .int (iI c)] (mm 181 I v false) 1 6 (oE 181 v false (some (.int (iI (dzR E r)))) (fun K => CREL K r.2.2)) := by
  refine mkct2 hl (by decide) (Nat.le_of_ble_eq_true rfl) (L := [some (.ref 0), some (.int (iI 1)), some (.int (iI a)), some (.int (iI b)), some (.int (iI c)), none]) rfl ?_
  refine x_iload_n (pc := 0) rfl d304_0 ?_
  refine x_tabIn (pc := 1) (tgt := 57) ⟨by omega, by omega⟩ d304_1 (by decide) (by decide) rfl (by decide) ?_
  refine x_aload_n (pc := 57) rfl d304_57 ?_
  refine x_iload_n (pc := 58) rfl d304_58 ?_
  refine x_mask [false, false, false, false, false, true] ?_
  dsimp only [mask]
  refine x_doV (B := 0) (pc := 59) (As := [.int (iI a)]) c304_57 hCT (ko0 (by omega)) rfl rfl (Nat.le_of_ble_eq_true rfl) (by decide +kernel) (by decide +kernel) d304_59 (fun K h0 hK => ?_) (fun K h0 hK => ?_)
  · refine x_iret rfl (fun z => Bool.noConfusion z) d304_62 ⟨K, ?_, hK⟩
    unfold dzR
    rw [if_pos h0]
  · refine do_E hE (by decide +kernel) (by decide +kernel) (by decide +kernel) rfl rfl ⟨K, ?_, hK⟩
    unfold dzR
    rw [if_neg h0]
theorem ct_do2 (hl : l.1.stackTraces = false) {E : Int → Nat} {r : Int × Int × GS} (hE : E r.1 = 0 ∨ E r.1 = 1 ∨ E r.1 = 2) (hCT : CT l 129 (.ref 0 :: [.int (iI a)]) (mm 181 I v false) 1 6 (QC 181 v E I r)) : CT l 304 [.ref 0, .int (iI 2), .int (iI a), .int (iI b), .int (iI c)] (mm 181 I v false) 1 6 (oE 181 v false (some (.int (iI (dzR E r)))) (fun K => CREL K r.2.2)) := by
  refine mkct2 hl (by decide) (Nat.le_of_ble_eq_true rfl) (L := [some (.ref 0), some (.int (iI 2)), some (.int (iI a)), some (.int (iI b)), some (.int (iI c)), none]) rfl ?_
  refine x_iload_n (pc := 0) rfl d304_0 ?_
  refine x_tabIn (pc := 1) (tgt := 63) ⟨by omega, by omega⟩ d304_1 (by decide) (by decide) rfl (by decide) ?_
  refine x_aload_n (pc := 63) rfl d304_63 ?_
  refine x_iload_n (pc := 64) rfl d304_64 ?_
  refine x_mask [false, false, false, false, false, true] ?_
  dsimp only [mask]
  refine x_doV (B := 0) (pc := 65) (As := [.int (iI a)]) c304_60 hCT (ko0 (by omega)) rfl rfl (Nat.le_of_ble_eq_true rfl) (by decide +kernel) (by decide +kernel) d304_65 (fun K h0 hK => ?_) (fun K h0 hK => ?_)
  · refine x_iret rfl (fun z => Bool.noConfusion z) d304_68 ⟨K, ?_, hK⟩
    unfold dzR
    rw [if_pos h0]
  · refine do_E hE (by decide +kernel) (by decide +kernel) (by decide +kernel) rfl rfl ⟨K, ?_, hK⟩
    unfold dzR
    rw [if_neg h0]
theorem ct_do3 (hl : l.1.stackTraces = false) {E : Int → Nat} {r : Int × Int × GS} (hE : E r.1 = 0 ∨ E r.1 = 1 ∨ E r.1 = 2) (hCT : CT l 130 (.ref 0 :: [.int (iI a)]) (mm 181 I v false) 1 6 (QC 181 v E I r)) : CT l 304 [.ref 0, .int (iI 3), .int (iI a), .int (iI b), .int (iI c)] (mm 181 I v false) 1 6 (oE 181 v false (some (.int (iI (dzR E r)))) (fun K => CREL K r.2.2)) := by
  refine mkct2 hl (by decide) (Nat.le_of_ble_eq_true rfl) (L := [some (.ref 0), some (.int (iI 3)), some (.int (iI a)), some (.int (iI b)), some (.int (iI c)), none]) rfl ?_
  refine x_iload_n (pc := 0) rfl d304_0 ?_
  refine x_tabIn (pc := 1) (tgt := 69) ⟨by omega, by omega⟩ d304_1 (by decide) (by decide) rfl (by decide) ?_
  refine x_aload_n (pc := 69) rfl d304_69 ?_
  refine x_iload_n (pc := 70) rfl d304_70 ?_
  refine x_mask [false, false, false, false, false, true] ?_
  dsimp only [mask]
  refine x_doV (B := 0) (pc := 71) (As := [.int (iI a)]) c304_63 hCT (ko0 (by omega)) rfl rfl (Nat.le_of_ble_eq_true rfl) (by decide +kernel) (by decide +kernel) d304_71 (fun K h0 hK => ?_) (fun K h0 hK => ?_)
  · refine x_iret rfl (fun z => Bool.noConfusion z) d304_74 ⟨K, ?_, hK⟩
    unfold dzR
    rw [if_pos h0]
  · refine do_E hE (by decide +kernel) (by decide +kernel) (by decide +kernel) rfl rfl ⟨K, ?_, hK⟩
    unfold dzR
    rw [if_neg h0]
theorem ct_do4 (hl : l.1.stackTraces = false) {E : Int → Nat} {r : Int × Int × GS} (hE : E r.1 = 0 ∨ E r.1 = 1 ∨ E r.1 = 2) (hCT : CT l 131 (.ref 0 :: [.int (iI a)]) (mm 181 I v false) 1 6 (QC 181 v E I r)) : CT l 304 [.ref 0, .int (iI 4), .int (iI a), .int (iI b), .int (iI c)] (mm 181 I v false) 1 6 (oE 181 v false (some (.int (iI (dzR E r)))) (fun K => CREL K r.2.2)) := by
  refine mkct2 hl (by decide) (Nat.le_of_ble_eq_true rfl) (L := [some (.ref 0), some (.int (iI 4)), some (.int (iI a)), some (.int (iI b)), some (.int (iI c)), none]) rfl ?_
  refine x_iload_n (pc := 0) rfl d304_0 ?_
  refine x_tabIn (pc := 1) (tgt := 75) ⟨by omega, by omega⟩ d304_1 (by decide) (by decide) rfl (by decide) ?_
  refine x_aload_n (pc := 75) rfl d304_75 ?_
  refine x_iload_n (pc := 76) rfl d304_76 ?_
  refine x_mask [false, false, false, false, false, true] ?_
  dsimp only [mask]
  refine x_doV (B := 0) (pc := 77) (As := [.int (iI a)]) c304_66 hCT (ko0 (by omega)) rfl rfl (Nat.le_of_ble_eq_true rfl) (by decide +kernel) (by decide +kernel) d304_77 (fun K h0 hK => ?_) (fun K h0 hK => ?_)
  · refine x_iret rfl (fun z => Bool.noConfusion z) d304_80 ⟨K, ?_, hK⟩
    unfold dzR
    rw [if_pos h0]
  · refine do_E hE (by decide +kernel) (by decide +kernel) (by decide +kernel) rfl rfl ⟨K, ?_, hK⟩
    unfold dzR
    rw [if_neg h0]
theorem ct_do5 (hl : l.1.stackTraces = false) {E : Int → Nat} {r : Int × Int × GS} (hE : E r.1 = 0 ∨ E r.1 = 1 ∨ E r.1 = 2) (hCT : CT l 132 (.ref 0 :: [.int (iI a)]) (mm 181 I v false) 1 6 (QC 181 v E I r)) : CT l 304 [.ref 0, .int (iI 5), .int (iI a), .int (iI b), .int (iI c)] (mm 181 I v false) 1 6 (oE 181 v false (some (.int (iI (dzR E r)))) (fun K => CREL K r.2.2)) := by
  refine mkct2 hl (by decide) (Nat.le_of_ble_eq_true rfl) (L := [some (.ref 0), some (.int (iI 5)), some (.int (iI a)), some (.int (iI b)), some (.int (iI c)), none]) rfl ?_
  refine x_iload_n (pc := 0) rfl d304_0 ?_
  refine x_tabIn (pc := 1) (tgt := 81) ⟨by omega, by omega⟩ d304_1 (by decide) (by decide) rfl (by decide) ?_
  refine x_aload_n (pc := 81) rfl d304_81 ?_
  refine x_iload_n (pc := 82) rfl d304_82 ?_
  refine x_mask [false, false, false, false, false, true] ?_
  dsimp only [mask]
  refine x_doV (B := 0) (pc := 83) (As := [.int (iI a)]) c304_69 hCT (ko0 (by omega)) rfl rfl (Nat.le_of_ble_eq_true rfl) (by decide +kernel) (by decide +kernel) d304_83 (fun K h0 hK => ?_) (fun K h0 hK => ?_)
  · refine x_iret rfl (fun z => Bool.noConfusion z) d304_86 ⟨K, ?_, hK⟩
    unfold dzR
    rw [if_pos h0]
  · refine do_E hE (by decide +kernel) (by decide +kernel) (by decide +kernel) rfl rfl ⟨K, ?_, hK⟩
    unfold dzR
    rw [if_neg h0]
theorem ct_do6 (hl : l.1.stackTraces = false) {E : Int → Nat} {r : Int × Int × GS} (hE : E r.1 = 0 ∨ E r.1 = 1 ∨ E r.1 = 2) (hCT : CT l 133 (.ref 0 :: [.int (iI a), .int (iI b), .int (iI c)]) (mm 181 I v false) 1 6 (QC 181 v E I r)) : CT l 304 [.ref 0, .int (iI 6), .int (iI a), .int (iI b), .int (iI c)] (mm 181 I v false) 1 6 (oE 181 v false (some (.int (iI (dzR E r)))) (fun K => CREL K r.2.2)) := by
  refine mkct2 hl (by decide) (Nat.le_of_ble_eq_true rfl) (L := [some (.ref 0), some (.int (iI 6)), some (.int (iI a)), some (.int (iI b)), some (.int (iI c)), none]) rfl ?_
  refine x_iload_n (pc := 0) rfl d304_0 ?_
  refine x_tabIn (pc := 1) (tgt := 87) ⟨by omega, by omega⟩ d304_1 (by decide) (by decide) rfl (by decide) ?_
  refine x_aload_n (pc := 87) rfl d304_87 ?_
  refine x_iload_n (pc := 88) rfl d304_88 ?_
  refine x_iload_n (pc := 89) rfl d304_89 ?_
  refine x_iload (pc := 90) rfl d304_90 ?_
  refine x_mask [false, false, false, false, false, true] ?_
  dsimp only [mask]
  refine x_doV (B := 0) (pc := 92) (As := [.int (iI a), .int (iI b), .int (iI c)]) c304_72 hCT (ko0 (by omega)) rfl rfl (Nat.le_of_ble_eq_true rfl) (by decide +kernel) (by decide +kernel) d304_92 (fun K h0 hK => ?_) (fun K h0 hK => ?_)
  · refine x_iret rfl (fun z => Bool.noConfusion z) d304_95 ⟨K, ?_, hK⟩
    unfold dzR
    rw [if_pos h0]
  · refine do_E hE (by decide +kernel) (by decide +kernel) (by decide +kernel) rfl rfl ⟨K, ?_, hK⟩
    unfold dzR
    rw [if_neg h0]
theorem ct_do7 (hl : l.1.stackTraces = false) {E : Int → Nat} {r : Int × Int × GS} (hE : E r.1 = 0 ∨ E r.1 = 1 ∨ E r.1 = 2) (hCT : CT l 134 (.ref 0 :: [.int (iI a)]) (mm 181 I v false) 1 6 (QC 181 v E I r)) : CT l 304 [.ref 0, .int (iI 7), .int (iI a), .int (iI b), .int (iI c)] (mm 181 I v false) 1 6 (oE 181 v false (some (.int (iI (dzR E r)))) (fun K => CREL K r.2.2)) := by
  refine mkct2 hl (by decide) (Nat.le_of_ble_eq_true rfl) (L := [some (.ref 0), some (.int (iI 7)), some (.int (iI a)), some (.int (iI b)), some (.int (iI c)), none]) rfl ?_
  refine x_iload_n (pc := 0) rfl d304_0 ?_
  refine x_tabIn (pc := 1) (tgt := 96) ⟨by omega, by omega⟩ d304_1 (by decide) (by decide) rfl (by decide) ?_
  refine x_aload_n (pc := 96) rfl d304_96 ?_
  refine x_iload_n (pc := 97) rfl d304_97 ?_
  refine x_mask [false, false, false, false, false, true] ?_
  dsimp only [mask]
  refine x_doV (B := 0) (pc := 98) (As := [.int (iI a)]) c304_76 hCT (ko0 (by omega)) rfl rfl (Nat.le_of_ble_eq_true rfl) (by decide +kernel) (by decide +kernel) d304_98 (fun K h0 hK => ?_) (fun K h0 hK => ?_)
  · refine x_iret rfl (fun z => Bool.noConfusion z) d304_101 ⟨K, ?_, hK⟩
    unfold dzR
    rw [if_pos h0]
  · refine do_E hE (by decide +kernel) (by decide +kernel) (by decide +kernel) rfl rfl ⟨K, ?_, hK⟩
    unfold dzR
    rw [if_neg h0]
theorem ct_do8 (hl : l.1.stackTraces = false) {E : Int → Nat} {r : Int × Int × GS} (h01 : r.2.1 = 0 ∨ r.2.1 = 1) (hE : E r.1 = 0 ∨ E r.1 = 1 ∨ E r.1 = 2) (hCT : CT l 110 (.ref 0 :: [.int (iI a), .int (iI b), .int (iI c)]) (mm 181 I v false) 1 6 (QC 181 v E I r)) : CT l 304 [.ref 0, .int (iI 8), .int (iI a), .int (iI b), .int (iI c)] (mm 181 I v false) 1 6 (oE 181 v false (some (.int (iI (dzR E r)))) (fun K => CREL K r.2.2)) := by
  refine mkct2 hl (by decide) (Nat.le_of_ble_eq_true rfl) (L := [some (.ref 0), some (.int (iI 8)), some (.int (iI a)), some (.int (iI b)), some (.int (iI c)), none]) rfl ?_
  refine x_iload_n (pc := 0) rfl d304_0 ?_
  refine x_tabIn (pc := 1) (tgt := 102) ⟨by omega, by omega⟩ d304_1 (by decide) (by decide) rfl (by decide) ?_
  refine x_aload_n (pc := 102) rfl d304_102 ?_
  refine x_iload_n (pc := 103) rfl d304_103 ?_
  refine x_iload_n (pc := 104) rfl d304_104 ?_
  refine x_iload (pc := 105) rfl d304_105 ?_
  refine x_mask [false, false, false, false, false, true] ?_
  dsimp only [mask]
  refine x_doV (B := 0) (pc := 107) (As := [.int (iI a), .int (iI b), .int (iI c)]) c304_79 hCT (ko0 (by omega)) rfl rfl (Nat.le_of_ble_eq_true rfl) (by decide +kernel) (by decide +kernel) d304_107 (fun K h0 hK => ?_) (fun K h0 hK => ?_)
  · have hin : InR r.2.1 := by rcases h01 with e | e <;> rw [e] <;> exact ⟨by omega, by omega⟩
    refine x_if_eq (pc := 110) (tgt := 117) hin d304_110 (by decide) (fun g => ?_) (fun g => ?_)
    · refine x_iconst (pc := 117) d304_117 ?_
      refine x_iret rfl (fun z => Bool.noConfusion z) d304_118 ⟨K, ?_, hK⟩
      unfold dzR
      rw [if_pos h0, g]
    · refine x_iconst (pc := 113) d304_113 ?_
      refine x_goto (pc := 114) (tgt := 118) d304_114 (by decide) ?_
      refine x_iret rfl (fun z => Bool.noConfusion z) d304_118 ⟨K, ?_, hK⟩
      unfold dzR
      rw [if_pos h0, show r.2.1 = 1 from by omega]
  · refine do_E hE (by decide +kernel) (by decide +kernel) (by decide +kernel) rfl rfl ⟨K, ?_, hK⟩
    unfold dzR
    rw [if_neg h0]
theorem ct_do9 (hl : l.1.stackTraces = false) {E : Int → Nat} {r : Int × Int × GS} (hE : E r.1 = 0 ∨ E r.1 = 1 ∨ E r.1 = 2) (hCT : CT l 135 (.ref 0 :: []) (mm 181 I v false) 1 6 (QC 181 v E I r)) : CT l 304 [.ref 0, .int (iI 9), .int (iI a), .int (iI b), .int (iI c)] (mm 181 I v false) 1 6 (oE 181 v false (some (.int (iI (dzR E r)))) (fun K => CREL K r.2.2)) := by
  refine mkct2 hl (by decide) (Nat.le_of_ble_eq_true rfl) (L := [some (.ref 0), some (.int (iI 9)), some (.int (iI a)), some (.int (iI b)), some (.int (iI c)), none]) rfl ?_
  refine x_iload_n (pc := 0) rfl d304_0 ?_
  refine x_tabOut (pc := 1) (tgt := 119) ⟨by omega, by omega⟩ d304_1 (by decide) (by decide) ?_
  refine x_aload_n (pc := 119) rfl d304_119 ?_
  refine x_mask [false, false, false, false, false, true] ?_
  dsimp only [mask]
  refine x_doV (B := 0) (pc := 120) (As := []) c304_83 hCT (ko0 (by omega)) rfl rfl (Nat.le_of_ble_eq_true rfl) (by decide +kernel) (by decide +kernel) d304_120 (fun K h0 hK => ?_) (fun K h0 hK => ?_)
  · refine x_iret rfl (fun z => Bool.noConfusion z) d304_123 ⟨K, ?_, hK⟩
    unfold dzR
    rw [if_pos h0]
  · refine do_E hE (by decide +kernel) (by decide +kernel) (by decide +kernel) rfl rfl ⟨K, ?_, hK⟩
    unfold dzR
    rw [if_neg h0]
end Does
