/-! ===== longs compared, whatever they stand for ===== -/
theorem lL_in (s : Int) : InL (lL s).toInt := ⟨Int64.le_toInt _, by have := Int64.toInt_lt (lL s); omega⟩
theorem lL_self (s : Int) : lL (lL s).toInt = lL s := Int64.ofInt_toInt _
theorem lL_ne {s t : Int} : (lL s).toInt = (lL t).toInt ↔ lL s = lL t := ⟨fun h => by rw [← lL_self s, h, lL_self], fun h => by rw [h]⟩
section LCm
variable {l : LX} {y k n pc : Nat} {L : LL} {st : List Value} {σ : MM} {Q : OO → Prop}
theorem x_lcN {off : Int} {tgt : Nat} {s t : Int} (hd : decode (cdN y) pc = .ok (.lcmp, 1)) (hd2 : decode (cdN y) (pc + 1) = .ok (.ifCond .ne off, 3)) (ht : ((pc + 1 : Nat) : Int) + off = (tgt : Int)) (kt : lL s ≠ lL t → Ex l y k n tgt L st σ Q) (kf : lL s = lL t → Ex l y k n (pc + 4) L st σ Q) : Ex l y k n pc L (.long (lL t) :: .long (lL s) :: st) σ Q := by
  rw [← lL_self s, ← lL_self t]
  refine x_lcmp (lL_in s) (lL_in t) hd (x_if_ne (cmpZ_r _ _) hd2 ht (fun h => kt (fun z => h ((cmpZ_eq _ _).mpr (lL_ne.mpr z)))) (fun h => kf (lL_ne.mp ((cmpZ_eq _ _).mp h))))
theorem x_lcQ {off : Int} {tgt : Nat} {s t : Int} (hd : decode (cdN y) pc = .ok (.lcmp, 1)) (hd2 : decode (cdN y) (pc + 1) = .ok (.ifCond .eq off, 3)) (ht : ((pc + 1 : Nat) : Int) + off = (tgt : Int)) (kt : lL s = lL t → Ex l y k n tgt L st σ Q) (kf : lL s ≠ lL t → Ex l y k n (pc + 4) L st σ Q) : Ex l y k n pc L (.long (lL t) :: .long (lL s) :: st) σ Q := by
  rw [← lL_self s, ← lL_self t]
  refine x_lcmp (lL_in s) (lL_in t) hd (x_if_eq (cmpZ_r _ _) hd2 ht (fun h => kt (lL_ne.mp ((cmpZ_eq _ _).mp h))) (fun h => kf (fun z => h ((cmpZ_eq _ _).mpr (lL_ne.mpr z)))))
end LCm
/-- undo -/
theorem ct_undo {l : LX} {v : Int} {S : GS} {A : AV} (hl : l.1.stackTraces = false) (hS : GOK S) (hL : gL S = 0) (hn : 1 ≤ gN S) (hA : gH S (gN S - 1) = A) {I : Nat → Int → Int} (hI : CREL I S) : CT l 304 [.ref 0, .int (iI 9), .int (iI 0), .int (iI 0), .int (iI 0)] (mm 181 I v false) 1 6 (oE 181 v false (some (.int (iI (gN S - 1)))) (fun K => ∃ S2, CREL K S2 ∧ GOK S2 ∧ gL S2 = 0 ∧ gA S2 = A)) := by
  have h := ct_do9 (a := 0) (b := 0) (c := 0) (v := v) hl (E := fun _ => 1) (r := oUndo S) (Or.inr (Or.inl rfl)) (cm135 (q := 181) (v := v) hl (by decide) hI hS)
  have hg := gok_undo hS
  have e : oUndo S = (0, gN S - 1, sH (sA S (gH S (gN S - 1))) (gH S, gN S - 1)) := if_pos (by omega)
  rw [e] at h hg
  refine ct_mono h fun o ho => ?_
  obtain ⟨K, rfl, hK⟩ := ho
  exact ⟨K, rfl, _, hK, hg, hL, hA⟩
