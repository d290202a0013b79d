/-! ===== the law's dogs, as text ===== -/
def pDg (l : LX) (k : Nat) : Int := 30 + celZ l (6 + (k : Int)) % 300
def qDg (l : LX) (k : Nat) : Int := 1 + celZ l (9 + (k : Int)) % 25
def oDg (l : LX) (k : Nat) : Int := celZ l (12 + (k : Int)) % 80
def eDg (l : LX) (e : Int) : Nat → Int
  | 0 => e
  | k + 1 => dgE (eDg l e k) (pDg l k) (qDg l k) (oDg l k)
theorem dgE_14 {e p q o : Int} (hq : q < 100) (ho : o < 100) : dgE e p q o ≤ e + 14 := by
  have r1 := ndg_r (z := p)
  have r2 := ndg_2 hq
  have r3 := ndg_2 ho
  unfold dgE eN
  omega
theorem eDg_r {l : LX} {e : Int} : ∀ k : Nat, e ≤ eDg l e k ∧ eDg l e k ≤ e + 14 * k
  | 0 => ⟨Int.le_refl _, by show e ≤ e + 14 * ((0 : Nat) : Int); omega⟩
  | k + 1 => by
    have ih := eDg_r (l := l) (e := e) k
    have h1 := dgE_14 (e := eDg l e k) (p := pDg l k) (q := qDg l k) (o := oDg l k) (by unfold qDg; omega) (by unfold oDg; omega)
    have h2 := dgE_r (e := eDg l e k) (p := pDg l k) (q := qDg l k) (o := oDg l k)
    show e ≤ dgE (eDg l e k) (pDg l k) (qDg l k) (oDg l k) ∧ dgE (eDg l e k) (pDg l k) (qDg l k) (oDg l k) ≤ e + 14 * ((k + 1 : Nat) : Int)
    omega
theorem eDg_m {l : LX} {e : Int} {i k : Nat} (h : i ≤ k) : eDg l e i ≤ eDg l e k := by
  obtain ⟨j, rfl⟩ : ∃ j, k = i + j := ⟨k - i, by omega⟩
  clear h
  induction j with
  | zero => exact Int.le_refl _
  | succ j ih =>
    have := dgE_r (e := eDg l e (i + j)) (p := pDg l (i + j)) (q := qDg l (i + j)) (o := oDg l (i + j))
    exact Int.le_trans ih (by show eDg l e (i + j) ≤ dgE (eDg l e (i + j)) (pDg l (i + j)) (qDg l (i + j)) (oDg l (i + j)); omega)
section Dgl
variable {l : LX} {k0 n : Nat} {Q : OO → Prop} {b f kk0 g e : Int}
theorem lp_dg (hl : l.1.stackTraces = false) (hn : l.2.1 ≤ 2147483647) (hQ : ∀ o, Q o → PIN 0 o) {d : Int} (d3 : d ≤ 3) (he : hdE b f kk0 g = e) (e17 : e ≤ 17) (e0 : 0 ≤ e)
    (kk : ∀ (τ : MM) (T : Int → Int), HdT T b f kk0 g → (∀ i : Nat, (i : Int) < d → isDg T (eDg l e i) (pDg l i) (qDg l i) (oDg l i)) → WB τ (eDg l e d.toNat) T → Ex l 332 k0 n 189 [some (.ref scr), some (.ref 0), some (.int (iI d)), none, none, none, none, none, none, none, none, none, none] [] (sh 0 mZ τ) Q) :
    ∀ (m k : Nat) (τ : MM) (T : Int → Int), ((m + k : Nat) : Int) = d → HdT T b f kk0 g → (∀ i : Nat, i < k → isDg T (eDg l e i) (pDg l i) (qDg l i) (oDg l i)) → WB τ (eDg l e k) T →
    Ex l 332 (k0 + 8 * m) (n + 1520 * m) 107 [some (.ref scr), some (.ref 0), some (.int (iI d)), some (.int (iI (k : Int))), none, none, none, none, none, none, none, none, none] [] (sh 0 mZ τ) Q := by
  intro m
  induction m with
  | zero =>
    intro k τ T hm hH hD hB
    have e1 : (k : Int) = d := by omega
    refine x_iload_n (pc := 107) rfl d332_107 ?_
    refine x_iload_n (pc := 108) rfl d332_108 ?_
    refine x_icmp_ge (pc := 109) (tgt := 189) ⟨by omega, by omega⟩ ⟨by omega, by omega⟩ d332_109 (by decide) (fun _ => ?_) (fun _ => by exfalso; omega)
    refine x_mask [true, true, true, false, true, true, true, true, true, true, true, true, true] ?_
    dsimp only [mask]
    have e2 : d.toNat = k := by omega
    refine kk τ T hH (fun i hi => hD i (by omega)) ?_
    rw [e2]
    exact hB
  | succ m ih =>
    intro k τ T hm hH hD hB
    have hr := eDg_r (l := l) (e := e) k
    have hr2 := eDg_r (l := l) (e := e) (k + 1)
    have p0 := celZ_r (l := l) (i := 6 + (k : Int))
    have p1 := celZ_r (l := l) (i := 9 + (k : Int))
    have p2 := celZ_r (l := l) (i := 12 + (k : Int))
    have hp : 0 ≤ pDg l k ∧ pDg l k ≤ 999 := by unfold pDg; omega
    have hq : 0 ≤ qDg l k ∧ qDg l k ≤ 999 := by unfold qDg; omega
    have ho : 0 ≤ oDg l k ∧ oDg l k ≤ 999 := by unfold oDg; omega
    have r1 := eN_r (e := eDg l e k + 3) (z := pDg l k)
    have r2 := eN_r (e := eN (eDg l e k + 3) (pDg l k)) (z := qDg l k)
    have r3 := eN_r (e := eN (eN (eDg l e k + 3) (pDg l k)) (qDg l k)) (z := oDg l k)
    have hE : eN (eN (eN (eDg l e k + 3) (pDg l k)) (qDg l k)) (oDg l k) + 1 = eDg l e (k + 1) := rfl
    refine x_less (k2 := k0 + 8 * m + 7) (n2 := n + 1520 * m + 1330) (by omega) (by omega) rfl ?_
    refine x_iload_n (pc := 107) rfl d332_107 ?_
    refine x_iload_n (pc := 108) rfl d332_108 ?_
    refine x_icmp_ge (pc := 109) (tgt := 189) ⟨by omega, by omega⟩ ⟨by omega, by omega⟩ d332_109 (by decide) (fun _ => by exfalso; omega) (fun _ => ?_)
    refine x_aload_n (pc := 112) rfl d332_112 ?_
    refine x_ldcwS (pc := 113) k332_282 d332_113 ?_
    refine xw_S (pc := 116) hl hQ hB rfl (by omega) (Nat.le_of_ble_eq_true rfl) rfl rfl d332_116 (fun τ1 hB => ?_)
    obtain ⟨T1, e1⟩ : ∃ T1, T1 = apS T (eDg l e k) 3 := ⟨_, rfl⟩
    rw [← e1] at hB
    refine x_bipush (pc := 119) (by decide) d332_119 ?_
    refine x_aload_n (pc := 121) rfl d332_121 ?_
    refine x_bipush (pc := 122) (by decide) d332_122 ?_
    refine x_iload_n (pc := 124) rfl d332_124 ?_
    refine x_iadd (pc := 125) d332_125 ?_
    refine x_cSs (pc := 126) (As := [.ref scr, .int (iI (6 + (k : Int)))]) (rest := [.int (iI 30), .ref 0]) c332_275 (ct_cell hl hn (by omega) (by omega)) rfl rfl (Nat.le_of_ble_eq_true rfl) (by decide +kernel) (by decide +kernel) (by decide +kernel) rfl d332_126 ?_
    refine x_sipush (pc := 129) (by decide) d332_129 ?_
    refine x_irem (pc := 132) (by omega) (by omega) (by omega) (by omega) d332_132 ?_
    refine x_iadd (pc := 133) d332_133 ?_
    refine x_val (pc := 134) (w := pDg l k) rfl ?_
    refine xw_N (pc := 134) hl hQ hB hp (len2 := eN (eDg l e k + 3) (pDg l k)) (by unfold eN; omega) (by omega) (Nat.le_of_ble_eq_true rfl) rfl rfl d332_134 (fun τ2 hB => ?_)
    obtain ⟨T2, e2⟩ : ∃ T2, T2 = apN T1 (eDg l e k + 4) (pDg l k) := ⟨_, rfl⟩
    rw [← e2] at hB
    refine x_bipush (pc := 137) (by decide) d332_137 ?_
    refine xw_C (pc := 139) hl hQ hB (by omega) rfl (by omega) (Nat.le_of_ble_eq_true rfl) rfl rfl d332_139 (fun τ3 hB => ?_)
    obtain ⟨T3, e3⟩ : ∃ T3, T3 = snoc T2 (eN (eDg l e k + 3) (pDg l k)) 32 := ⟨_, rfl⟩
    rw [← e3] at hB
    refine x_iconst (pc := 142) d332_142 ?_
    refine x_aload_n (pc := 143) rfl d332_143 ?_
    refine x_bipush (pc := 144) (by decide) d332_144 ?_
    refine x_iload_n (pc := 146) rfl d332_146 ?_
    refine x_iadd (pc := 147) d332_147 ?_
    refine x_cSs (pc := 148) (As := [.ref scr, .int (iI (9 + (k : Int)))]) (rest := [.int (iI 1), .ref 0]) c332_275 (ct_cell hl hn (by omega) (by omega)) rfl rfl (Nat.le_of_ble_eq_true rfl) (by decide +kernel) (by decide +kernel) (by decide +kernel) rfl d332_148 ?_
    refine x_bipush (pc := 151) (by decide) d332_151 ?_
    refine x_irem (pc := 153) (by omega) (by omega) (by omega) (by omega) d332_153 ?_
    refine x_iadd (pc := 154) d332_154 ?_
    refine x_val (pc := 155) (w := qDg l k) rfl ?_
    refine xw_N (pc := 155) hl hQ hB hq (len2 := eN (eN (eDg l e k + 3) (pDg l k)) (qDg l k)) rfl (by omega) (Nat.le_of_ble_eq_true rfl) rfl rfl d332_155 (fun τ4 hB => ?_)
    obtain ⟨T4, e4⟩ : ∃ T4, T4 = apN T3 (eN (eDg l e k + 3) (pDg l k) + 1) (qDg l k) := ⟨_, rfl⟩
    rw [← e4] at hB
    refine x_bipush (pc := 158) (by decide) d332_158 ?_
    refine xw_C (pc := 160) hl hQ hB (by omega) rfl (by omega) (Nat.le_of_ble_eq_true rfl) rfl rfl d332_160 (fun τ5 hB => ?_)
    obtain ⟨T5, e5⟩ : ∃ T5, T5 = snoc T4 (eN (eN (eDg l e k + 3) (pDg l k)) (qDg l k)) 32 := ⟨_, rfl⟩
    rw [← e5] at hB
    refine x_aload_n (pc := 163) rfl d332_163 ?_
    refine x_bipush (pc := 164) (by decide) d332_164 ?_
    refine x_iload_n (pc := 166) rfl d332_166 ?_
    refine x_iadd (pc := 167) d332_167 ?_
    refine x_cSs (pc := 168) (As := [.ref scr, .int (iI (12 + (k : Int)))]) (rest := [.ref 0]) c332_275 (ct_cell hl hn (by omega) (by omega)) rfl rfl (Nat.le_of_ble_eq_true rfl) (by decide +kernel) (by decide +kernel) (by decide +kernel) rfl d332_168 ?_
    refine x_bipush (pc := 171) (by decide) d332_171 ?_
    refine x_irem (pc := 173) (by omega) (by omega) (by omega) (by omega) d332_173 ?_
    refine x_val (pc := 174) (w := oDg l k) rfl ?_
    refine xw_N (pc := 174) hl hQ hB ho (len2 := eN (eN (eN (eDg l e k + 3) (pDg l k)) (qDg l k)) (oDg l k)) rfl (by omega) (Nat.le_of_ble_eq_true rfl) rfl rfl d332_174 (fun τ6 hB => ?_)
    obtain ⟨T6, e6⟩ : ∃ T6, T6 = apN T5 (eN (eN (eDg l e k + 3) (pDg l k)) (qDg l k) + 1) (oDg l k) := ⟨_, rfl⟩
    rw [← e6] at hB
    refine x_bipush (pc := 177) (by decide) d332_177 ?_
    refine xw_C (pc := 179) hl hQ hB (by omega) (len2 := eDg l e (k + 1)) hE (by omega) (Nat.le_of_ble_eq_true rfl) rfl rfl d332_179 (fun τ7 hB => ?_)
    obtain ⟨g1, g2⟩ := dg_ap (T := T) (len := eDg l e k) (p := pDg l k) (q := qDg l k) (o := oDg l k) (by omega) e1 e2 e3 e4 e5 e6 rfl
    refine x_pop (pc := 182) rfl d332_182 ?_
    refine x_iinc (pc := 183) (z := k) rfl (by decide +kernel) rfl d332_183 ?_
    dsimp only [List.set]
    refine x_goto (pc := 186) (tgt := 107) d332_186 (by decide) ?_
    have h := ih (k + 1) τ7 _ (by omega) (hd_w hH g2 (by omega)) (fun i hi => ?_) hB
    · rw [show (((k + 1 : Nat)) : Int) = (k : Int) + 1 from by omega] at h
      exact h
    · by_cases q : i = k
      · subst q
        exact g1
      · exact dg_w (hD i (by omega)) g2 (eDg_m (e := e) (show i + 1 ≤ k by omega)) (by have := eDg_r (l := l) (e := e) i; omega)
end Dgl
