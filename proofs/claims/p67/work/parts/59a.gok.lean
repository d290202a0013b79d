/-! ===== what holds of the state holds behind every operation ===== -/
theorem GOK.h0 {S : GS} (h : GOK S) : GOK (sH S (gH S, 0)) := ⟨h.1, ⟨(show (0 : Int) ≤ 0 ∧ (0 : Int) ≤ 8 from by decide), fun k k0 k1 => absurd (show k < 0 from k1) (by omega)⟩, h.2.2.1, h.2.2.2⟩
theorem GOK.hn {S : GS} (h : GOK S) {N : Int} (h0 : 0 ≤ N) (h1 : N ≤ gN S) : GOK (sH S (gH S, N)) := ⟨h.1, ⟨⟨h0, by have := h.2.1.1.2; show N ≤ 8; omega⟩, fun k k0 k1 => h.2.1.2 k k0 (by have k1 : k < N := k1; omega)⟩, h.2.2.1, h.2.2.2⟩
theorem GOK.do {S : GS} (h : GOK S) {z : Int} {A : AV} (hA : AINV A cB) : GOK (oDo S z A).2.2 := h.keep.line hA
theorem gok_ask {S : GS} {c : Bool} {z : Int} (h : GOK S) : GOK (oAsk S c z).2.2 := by unfold oAsk; split <;> exact h
theorem gok_ask2 {S : GS} {c d : Bool} {z : Int} (h : GOK S) : GOK (oAsk2 S c d z).2.2 := by
  unfold oAsk2
  split
  · split <;> exact h
  · exact h
theorem byt4_r (z k : Int) : 0 ≤ byt4 z k ∧ byt4 z k ≤ 255 := by unfold byt4; omega
theorem txtG_r {T : Int → Int} {n m z : Int} (h : ∀ i : Int, 0 ≤ i → i < n → 0 ≤ T i ∧ T i ≤ 255) (hm : m = n) : ∀ i : Int, 0 ≤ i → i < m + 4 → 0 ≤ txtG T m z i ∧ txtG T m z i ≤ 255 := fun i i0 i1 => by
  unfold txtG
  split
  · exact byt4_r _ _
  · exact h i i0 (by omega)
theorem gok_append {S : GS} {a b c d e : Int} (h : GOK S) : GOK (oAppend S a b c d e).2.2 := by
  obtain ⟨h1, h2, h3, ⟨h4, h5⟩, h6⟩ := id h
  unfold oAppend
  split
  · refine ⟨h1, h2, h3, ⟨(show 0 ≤ gL S + 20 ∧ gL S + 20 ≤ 500 from by omega), fun i i0 i1 => ?_⟩, h6⟩
    have i1 : i < gL S + 20 := i1
    have q1 := txtG_r (z := a) h5 rfl
    have q2 := txtG_r (z := b) q1 rfl
    have q3 := txtG_r (m := gL S + 8) (z := c) q2 (by omega)
    have q4 := txtG_r (m := gL S + 12) (z := d) q3 (by omega)
    exact txtG_r (m := gL S + 16) (z := e) q4 (by omega) i i0 (by omega)
  · exact h
theorem gok_truncate {S : GS} {z : Int} (h : GOK S) : GOK (oTruncate S z).2.2 := by
  obtain ⟨h1, h2, h3, ⟨h4, h5⟩, h6⟩ := id h
  unfold oTruncate
  split
  · exact ⟨h1, h2, h3, ⟨(show 0 ≤ z ∧ z ≤ 500 from by omega), fun i i0 i1 => h5 i i0 (by have i1 : i < z := i1; omega)⟩, h6⟩
  · exact h
theorem gok_load {S : GS} (h : GOK S) : GOK (oLoad S).2.2 := by
  have hg := h.2.2.2.1
  unfold oLoad
  split
  · rename_i c
    have r := conf_r (T := gT S) hg.1.1 c
    have h2 : GOK (sA (sE (sL S (0, gT S)) (0, -1)) (confP (gT S) (gL S)).2.2) := GOK.line (h.l0.e0 _) (r.mono (by have := r.ck; unfold cB; omega))
    exact h2.h0
  · exact h.l0.e0 _
theorem gok_send {S : GS} (h : GOK S) : GOK (oSend S).2.2 := by
  have hg := h.2.2.2.1
  unfold oSend
  split
  · split
    · rename_i c c2
      have h2 : GOK (sA (keepG S) (addA (gA S) (bfA (gT S) 0 (gL S)) (gL S))) := h.keep.line (h.1.add c2 c fun k => bfA_r hg.2 (by decide) (by omega) k)
      exact h2.l0
    · exact h
  · exact h
theorem gok_transmit {S : GS} {z : Int} (h : GOK S) : GOK (oTransmit S z).2.2 := by
  unfold oTransmit
  split
  · split
    · rename_i c c2
      have h1 := mkS_inv z.toNat (gA S) 900000 (h.1.mono c2)
      exact h.do (h1.mono (by have := h1.ck; unfold cB; omega))
    · exact h
  · exact h
theorem gok_cancel {S : GS} {m : Int} (h : GOK S) : GOK (oCancel S m).2.2 := by
  unfold oCancel
  split
  · split
    · exact h.do (h.1.gv _)
    · exact h
  · exact h
theorem gok_resend {S : GS} {m : Int} (h : GOK S) : GOK (oResend S m).2.2 := by
  unfold oResend
  split
  · split
    · rename_i c c2
      exact h.do (h.1.add c2.2 (h.1.msg m c.1 c.2).1 (txtA_r h.1))
    · exact h
  · exact h
theorem gok_wait {S : GS} {z : Int} (h : GOK S) : GOK (oWait S z).2.2 := by
  unfold oWait
  split
  · split
    · rename_i c c2
      exact h.do (h.1.wait (by omega) (by unfold cB; omega))
    · exact h
  · exact h
theorem gok_drift {S : GS} {z : Int} (h : GOK S) : GOK (oDrift S z).2.2 := by
  unfold oDrift
  split
  · rename_i c; exact h.do (h.1.drift c)
  · exact h
theorem gok_dog {S : GS} {a b c : Int} (h : GOK S) : GOK (oDog S a b c).2.2 := by
  unfold oDog
  split
  · split
    · rename_i g g2; exact h.do (h.1.dg1 g2 g.1 g.2.1 g.2.2)
    · exact h
  · exact h
theorem gok_remove {S : GS} {d : Int} (h : GOK S) : GOK (oRemove S d).2.2 := by
  unfold oRemove
  split
  · rename_i g; exact h.do (h.1.rm g.1 g.2)
  · exact h
theorem gok_undo {S : GS} (h : GOK S) : GOK (oUndo S).2.2 := by
  unfold oUndo
  split
  · rename_i g
    have h2 : GOK (sA S (gH S (gN S - 1))) := h.line (h.2.1.2 _ (by omega) (by omega))
    exact h2.hn (N := gN S - 1) (by omega) (by show gN S - 1 ≤ gN S; omega)
  · exact h
theorem gok_save {S : GS} (h : GOK S) : GOK (oSave S).2.2 := ⟨h.1, h.2.1, fun _ => h.1, h.2.2.2⟩
theorem gok_restore {S : GS} (h : GOK S) : GOK (oRestore S).2.2 := by
  unfold oRestore
  split
  · rename_i g
    have h2 : GOK (sA S (gW S)) := h.line (h.2.2.1 g)
    exact h2.h0
  · exact h
theorem AI.rg {A : AV} {c e : Int} (h : AI A c e) : (1 ≤ A 0 0 ∧ A 0 0 ≤ 9) ∧ (-99 ≤ A 0 1 ∧ A 0 1 ≤ 99) ∧ (1 ≤ A 0 2 ∧ A 0 2 ≤ 99) ∧ (1 ≤ A 0 3 ∧ A 0 3 ≤ 9) ∧ (0 ≤ A 0 4 ∧ A 0 4 ≤ 3) ∧ (0 ≤ A 0 5 ∧ A 0 5 ≤ 12) ∧ (0 ≤ A 0 6 ∧ A 0 6 ≤ 4 * A 0 5) ∧ (0 ≤ A 0 7 ∧ A 0 7 ≤ c) ∧ (0 ≤ A 0 8 ∧ A 0 8 ≤ A 0 7 + 25344) ∧ (0 ≤ A 0 9 ∧ A 0 9 ≤ 16) := ⟨h.b, h.dr, h.ba, h.li, h.dg, h.ms, h.fr, h.ck, h.np, h.la⟩
theorem CREL.h9 {I : Nat → Int → Int} {S : GS} (h : CREL I S) : ∀ f, gA S 9 f = 0 ∨ gA S 9 f = 1 := fun f => by
  rw [← h.1.1, vc9]
  unfold ent
  split
  · exact flag_r _
  · exact Or.inl rfl
theorem CREL.h11 {I : Nat → Int → Int} {S : GS} (h : CREL I S) (hS : GOK S) : ∀ i, 0 ≤ gA S 11 i ∧ gA S 11 i ≤ 255 := fun i => by
  have hr := hS.1.rg
  have e6 : gA S 0 6 = I 143 0 := by rw [← h.1.1, vr6]
  rw [← h.1.1, vc11]
  unfold entB
  split
  · rename_i g
    have g1 : i / 6 < I 143 0 := g.2.1
    exact ((h.1.2).1 i g.1 (by omega)).2
  · exact ⟨Int.le_refl 0, by decide⟩
