/-! ===== the law: from its entry to its end ===== -/
section Law3
variable {l : LX}
theorem ex_unfr {y k n pc q : Nat} {L : LL} {st : List Value} {Q : OO → Prop} {I : Nat → Int → Int} {v : Int} (h : Ex l y k n pc L st (mm q I v false) Q) : Ex l y k n pc L st (mm q I v true) Q := by
  intro G p e R s m args below meth c A CE SE Qf hA hC hS hF H locs cells slots ls h1 h2 hL hW hR
  exact h G p e R s m args below meth c A CE SE Qf hA hC hS hF H locs cells slots ls h1 h2 hL hW (fun z => Bool.noConfusion z)
theorem mkL_mm {K : Nat → Int → Int} {v : Int} (h : ∀ j, K 192 j = 0) : mkL (mm 192 K v true) = mm 193 K 0 true := by
  show ((fun a b => if a = 192 then 0 else K a b, fun a b => if a = 192 then none else R0 a b, fun a => if a = 192 then 12 else K0 a, 193, 0, true) : MM) = (K, R0, K0, 193, 0, true)
  have e1 : (fun a b => if a = 192 then (0 : Int) else K a b) = K := by
    funext a b
    split
    · rename_i z; rw [z, h]
    · rfl
  have e2 : (fun a b => if a = 192 then none else R0 a b) = R0 := by
    funext a b
    split
    · rename_i z; rw [z]; rfl
    · rfl
  have e3 : (fun a => if a = 192 then 12 else K0 a) = K0 := by
    funext a
    split
    · rename_i z; rw [z]; decide +kernel
    · rfl
  rw [e1, e2, e3]
theorem law_all (hl : l.1.stackTraces = false) (hlen : l.2.1 ≤ 3072) {Q : OO → Prop} (hQ : ∀ (K : Nat → Int → Int) (v : Int), Q (.inl (some (.int (iI 1))), mm 193 K v false)) : Ex l 332 601024 7293034 0 [some (.ref scr), none, none, none, none, none, none, none, none] [] (cm zI R0 0 0) Q := by
  refine c_new (pc := 0) (k := 601023) (n := 7293024) n332_8 (by decide) (by decide +kernel) (fun _ => rfl) rfl (by decide +kernel) d332_0 ?_
  refine x_dup (pc := 3) rfl d332_3 ?_
  refine x_callI (pc := 4) (k := 600843) (n := 7283089) c332_136 (kt75 hl) (by decide) rfl rfl (Nat.le_of_ble_eq_true rfl) (by decide +kernel) (by decide +kernel) d332_4 (Or.inl rfl) (fun v9 τ h9 => ?_) (fun E9 τ h9 _ => ?_)
  · obtain ⟨K, e, T, hC, hz⟩ := h9
    cases e
    show Ex l 332 600843 7283089 7 _ [.ref 0] (cm K R0 181 0) _
    refine x_astore_n (pc := 7) (by decide +kernel) rfl d332_7 ?_
    dsimp only [List.set]
    refine c_new (pc := 8) (k := 600842) (n := 7283065) n332_137 (by decide) (by decide +kernel) (hz 181 (by decide)) rfl (by decide +kernel) d332_8 ?_
    refine x_dup (pc := 11) rfl d332_11 ?_
    refine x_callI (pc := 12) (k := 600832) (n := 7269811) c332_139 (kt146 hl hz T) (by decide) rfl rfl (Nat.le_of_ble_eq_true rfl) (by decide +kernel) (by decide +kernel) d332_12 (Or.inl rfl) (fun v9 τ h9 => ?_) (fun E9 τ h9 _ => ?_)
    · obtain ⟨M, e, hM, hR⟩ := h9
      cases e
      show Ex l 332 600832 7269811 15 _ [.ref 181] (mm 192 M 0 true) _
      have hC2 : CREL M (S00 T) := hC.lt fun a ha => hM a (Or.inl ha)
      refine x_astore_n (pc := 15) (by decide +kernel) rfl d332_15 ?_
      dsimp only [List.set]
      refine x_iconst (pc := 16) d332_16 ?_
      refine x_newL (pc := 17) (k := 600831) (n := 7269810) ((by decide +kernel : ∀ b, b < 192 → ¬ K0 b % 10 = 2)) (show 192 < scr from by decide) rfl d332_17 ?_
      rw [mkL_mm (fun j => by rw [hM 192 (Or.inr (by decide))]; exact hz 192 (by decide) j)]
      refine x_astore_n (pc := 19) (by decide +kernel) rfl d332_19 ?_
      dsimp only [List.set]
      refine x_iconst (pc := 20) d332_20 ?_
      refine x_istore (pc := 21) (by decide +kernel) rfl d332_21 ?_
      dsimp only [List.set]
      exact ex_unfr (law_loop hl (by decide) (by omega) hQ 512 600831 7269810 0 M 0 (S00 T) (Nat.le_of_ble_eq_true rfl) (Nat.le_of_ble_eq_true rfl) (by decide) (by omega) (by omega) hC2 hR (gok_00 T))
    · obtain ⟨M, e, _⟩ := h9
      cases e
  · obtain ⟨K, e, _⟩ := h9
    cases e
end Law3
