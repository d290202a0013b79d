/-! ===== the law, from its entry ===== -/
section Law
variable {l : LX} {k n : Nat} {Q : OO → Prop}
theorem law_all (hl : l.1.stackTraces = false) (hn : l.2.1 ≤ 2147483647) (hQ : ∀ o, Q o → PIN 0 o) (hE : Q (.inl (some (.int (iI 1))), mZ)) (hk : 200000 ≤ k) (hnn : 1000000 ≤ n) : Ex l 332 k n 0 [some (.ref scr), none, none, none, none, none, none, none, none, none, none, none, none] [] mZ Q := by
  have q0 := celZ_r (l := l) (i := 0)
  have q3 := celZ_r (l := l) (i := 3)
  have q4 := celZ_r (l := l) (i := 4)
  have q5 := celZ_r (l := l) (i := 5)
  have hf9 : nf 9 = 10 := by decide +kernel
  have end545 : ∀ (S : GS) (I : Nat → Int → Int), GOK S → gA S 0 7 ≤ 500000 → CREL I S → Ex l 332 2410 (6 * 2410) 545 [none, none, none, some (.ref 0), none, none, none, none, none, none, none, none, none] [] (mm 181 I 0 false) Q := fun S I hS hc hI => law_tail hl hE hS hc hI
  have at253 : ∀ (S : GS) (I : Nat → Int → Int), GOK S → gL S = 0 → PI (gA S) → gA S 0 7 ≤ 40000 → CREL I S → Ex l 332 (2420 + 9600 * 12) (6 * (2420 + 9600 * 12)) 253 [some (.ref scr), none, none, some (.ref 0), some (.int (iI 0)), none, none, none, none, none, none, none, none] [] (mm 181 I 0 false) Q := fun S I hS hL hP hc hI => by
    refine lp_law hl hn 12 0 S I rfl (by decide) hS hL hP (by omega) hI (fun S2 K g1 g2 g3 g4 g5 => ?_)
    refine law_first (B := 2418) hl hn g1 g5 (fun I f f0 f1 hI => ?_) (fun I hI => ?_)
    · refine ex_le (B' := 2412 + 6) (by omega) rfl ?_
      refine law_suc (B := 2412) hl g1 g4 f0 f1 hI (fun I hI => ?_)
      refine law_wp (B := 2410) hl hn g1 g3 f0 f1 hI (fun I hI => ?_)
      exact end545 S2 I g1 g4 hI
    · refine ex_le (B' := 2410) (by omega) rfl ?_
      exact end545 S2 I g1 g4 hI
  refine x_less (k2 := ((2420 + 9600 * 12 + 4650 + 40) + 181 + 24) + 10) (n2 := ((6 * (2420 + 9600 * 12 + 4650 + 40)) + 9935 + nf 9 + 4560) + 1600) (by omega) (by rw [hf9]; omega) rfl ?_
  refine law_head hl hn hQ (fun τ T f f0 f1 hH hB => ?_)
  obtain ⟨e, he⟩ : ∃ e, e = hdE (1 + celZ l 0 % 5) f (1 + celZ l 3 % 40) (1 + celZ l 4 % 5) := ⟨_, rfl⟩
  have e17 : e ≤ 17 ∧ 0 ≤ e := by
    have r1 := eN_r (e := 5) (z := 1 + celZ l 0 % 5)
    have r2 := eN_r (e := eN 5 (1 + celZ l 0 % 5)) (z := f)
    have r3 := eN_r (e := eN (eN 5 (1 + celZ l 0 % 5)) f) (z := 1 + celZ l 3 % 40)
    have r4 := eN_r (e := eN (eN (eN 5 (1 + celZ l 0 % 5)) f) (1 + celZ l 3 % 40)) (z := 1 + celZ l 4 % 5)
    have u1 := ndg_1 (z := 1 + celZ l 0 % 5) (by omega)
    have u3 := ndg_2 (z := 1 + celZ l 3 % 40) (by omega)
    have u4 := ndg_1 (z := 1 + celZ l 4 % 5) (by omega)
    have uf := ndg_r (z := f)
    rw [he]
    unfold hdE
    refine ⟨?_, by omega⟩
    unfold eN
    omega
  obtain ⟨d, hd⟩ : ∃ d, d = celZ l 5 % 4 := ⟨_, rfl⟩
  have d3 : 0 ≤ d ∧ d ≤ 3 := by omega
  rw [← he] at hB
  rw [← hd]
  refine x_less (k2 := ((2420 + 9600 * 12 + 4650 + 40) + 181) + 8 * d.toNat) (n2 := ((6 * (2420 + 9600 * 12 + 4650 + 40)) + 9935 + nf 9) + 1520 * d.toNat) (by omega) (by omega) rfl ?_
  refine lp_dg hl hn hQ d3.2 he.symm e17.1 e17.2 (fun τ2 T2 hH2 hD2 hB2 => ?_) d.toNat 0 τ T (by omega) hH (fun i hi => absurd hi (Nat.not_lt_zero i)) hB
  refine law_mod hl hQ hB2.1 (by have := hB2.2.1; have := hB2.2.2.2; omega) (fun K T3 hK => ?_)
  refine law_load hl hQ hH2 he.symm (by omega) ⟨f0, f1⟩ (by omega) (by omega) d3 hD2 hB2 hK (fun K2 S hK2 hG hL hA => ?_)
  exact law_conf hl hn hG hL hA (by omega) (by omega) (by omega) d3 hK2 (fun S2 K3 g1 g2 g3 g4 g5 => at253 S2 K3 g1 g2 g3 g4 g5)
end Law
