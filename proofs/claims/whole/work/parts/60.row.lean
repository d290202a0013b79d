/-! ===== the reference: its row of numbers ===== -/
def RV (g : Int → Int) (A : AV) : Prop :=
  (∀ i : Int, 0 ≤ i → i < 18 → g i = A 0 i) ∧
  (∀ d : Int, 0 ≤ d → d < A 0 4 → g (18 + 3 * d + 0) = A 1 d ∧ g (18 + 3 * d + 1) = A 2 d ∧ g (18 + 3 * d + 2) = A 3 d) ∧
  (∀ m : Int, 0 ≤ m → m < A 0 5 → g (27 + 18 * m + 0) = A 4 m ∧ g (27 + 18 * m + 1) = A 5 m ∧ ∀ k : Int, 0 ≤ k → k < A 4 m → g (27 + 18 * m + (2 + k)) = txtA A m k) ∧
  (∀ f : Int, 0 ≤ f → f < A 0 6 → g (243 + 16 * f + 0) = A 6 f ∧ g (243 + 16 * f + 1) = A 7 f ∧ g (243 + 16 * f + 2) = A 8 f ∧ g (243 + 16 * f + 3) = A 9 f ∧ (∀ k : Int, 0 ≤ k → k < A 6 f → g (243 + 16 * f + (4 + k)) = A 10 (6 * f + k)) ∧ (A 9 f = 1 → ∀ k : Int, 0 ≤ k → k < A 6 f → g (243 + 16 * f + (10 + k)) = A 11 (6 * f + k)))
theorem RV.sc {g : Int → Int} {A : AV} (h : RV g A) {i : Int} (h0 : 0 ≤ i) (h1 : i < 18) : g i = A 0 i := h.1 i h0 h1
theorem AI.rg {A : AV} {c e : Int} (h : AI A c e) : (1 ≤ A 0 0 ∧ A 0 0 ≤ 9) ∧ (-99 ≤ A 0 1 ∧ A 0 1 ≤ 99) ∧ (1 ≤ A 0 2 ∧ A 0 2 ≤ 99) ∧ (1 ≤ A 0 3 ∧ A 0 3 ≤ 9) ∧ (0 ≤ A 0 4 ∧ A 0 4 ≤ 3) ∧ (0 ≤ A 0 5 ∧ A 0 5 ≤ 12) ∧ (0 ≤ A 0 6 ∧ A 0 6 ≤ 4 * A 0 5) ∧ (0 ≤ A 0 7 ∧ A 0 7 ≤ c) ∧ (0 ≤ A 0 8 ∧ A 0 8 ≤ A 0 7 + 25344) ∧ (0 ≤ A 0 9 ∧ A 0 9 ≤ 16) := ⟨h.b, h.dr, h.ba, h.li, h.dg, h.ms, h.fr, h.ck, h.np, h.la⟩
/-- a row that is the same shows the same -/
theorem RV.cg {g h : Int → Int} {A : AV} {c e : Int} (hR : RV g A) (hA : AI A c e) (hh : ∀ i : Int, 0 ≤ i → i < 1011 → h i = g i) : RV h A := by
  have hr := hA.rg
  obtain ⟨r1, r2, r3, r4⟩ := hR
  refine ⟨fun i i0 i1 => ?_, fun d d0 d1 => ?_, fun m m0 m1 => ?_, fun f f0 f1 => ?_⟩
  · rw [hh i i0 (by omega)]; exact r1 i i0 i1
  · rw [hh _ (by omega) (by omega), hh _ (by omega) (by omega), hh _ (by omega) (by omega)]; exact r2 d d0 d1
  · have hm := hA.msg m m0 m1
    obtain ⟨a, b, t⟩ := r3 m m0 m1
    refine ⟨by rw [hh _ (by omega) (by omega)]; exact a, by rw [hh _ (by omega) (by omega)]; exact b, fun k k0 k1 => ?_⟩
    rw [hh _ (by omega) (by omega)]; exact t k k0 k1
  · have hf := hA.frm f f0 f1
    obtain ⟨a, b, t, u, w, x⟩ := r4 f f0 f1
    refine ⟨by rw [hh _ (by omega) (by omega)]; exact a, by rw [hh _ (by omega) (by omega)]; exact b, by rw [hh _ (by omega) (by omega)]; exact t, by rw [hh _ (by omega) (by omega)]; exact u, fun k k0 k1 => ?_, fun z k k0 k1 => ?_⟩
    · rw [hh _ (by omega) (by omega)]; exact w k k0 k1
    · rw [hh _ (by omega) (by omega)]; exact x z k k0 k1
def th2 (a b : Bool) : Int := if a then (if b then 0 else 2) else 1
section LayR
variable {q : Nat} {I : Nat → Int → Int} {v : Int} {fr : Bool}
theorem xo181 (hq : 192 ≤ q) : isO (mm q I v fr) 181 10 := ko_of (N := 192) (by decide) (by decide +kernel) hq
theorem xa182 (hq : 192 ≤ q) : isA (mm q I v fr) 182 1011 := ka_of (N := 192) (by decide) (by decide +kernel) hq
theorem xa183 (hq : 192 ≤ q) : isA (mm q I v fr) 183 1011 := ka_of (N := 192) (by decide) (by decide +kernel) hq
theorem xa184 (hq : 192 ≤ q) : isA (mm q I v fr) 184 1011 := ka_of (N := 192) (by decide) (by decide +kernel) hq
theorem xa185 (hq : 192 ≤ q) : isA (mm q I v fr) 185 1011 := ka_of (N := 192) (by decide) (by decide +kernel) hq
theorem xa186 (hq : 192 ≤ q) : isA (mm q I v fr) 186 8088 := ka_of (N := 192) (by decide) (by decide +kernel) hq
theorem xa187 (hq : 192 ≤ q) : isA (mm q I v fr) 187 16 := ka_of (N := 192) (by decide) (by decide +kernel) hq
theorem xa188 (hq : 192 ≤ q) : isA (mm q I v fr) 188 6 := ka_of (N := 192) (by decide) (by decide +kernel) hq
theorem xa189 (hq : 192 ≤ q) : isA (mm q I v fr) 189 500 := ka_of (N := 192) (by decide) (by decide +kernel) hq
theorem xa190 (hq : 192 ≤ q) : isA (mm q I v fr) 190 540 := ka_of (N := 192) (by decide) (by decide +kernel) hq
theorem xa191 (hq : 192 ≤ q) : isA (mm q I v fr) 191 60 := ka_of (N := 192) (by decide) (by decide +kernel) hq
end LayR
section Ref
variable {l : LX} {q : Nat} {I : Nat → Int → Int} {v : Int} {fr : Bool} {A : AV} {c e : Int}
theorem rt_in (hl : l.1.stackTraces = false) {a b c : Int} (ha : InL a) (hb : InL b) (hc : InL c) : DT l 148 [.long (lL a), .long (lL b), .long (lL c)] (mm q I v fr) 0 0 (.inl (some (.int (iI (b01 (decide (b ≤ a ∧ a ≤ c)))))), mm q I v fr) := by
  obtain ⟨ha0, ha1⟩ := ha
  obtain ⟨hb0, hb1⟩ := hb
  obtain ⟨hc0, hc1⟩ := hc
  refine mkdt hl (by decide) (Nat.le_of_ble_eq_true rfl) (L := [some (.long (lL a)), none, some (.long (lL b)), none, some (.long (lL c)), none]) rfl ?_
  refine x_lload_n (pc := 0) rfl d148_0 ?_
  refine x_lload_n (pc := 1) rfl d148_1 ?_
  refine x_lc_lt (pc := 2) (tgt := 17) ⟨by omega, by omega⟩ ⟨by omega, by omega⟩ d148_2 d148_3 (by decide) (fun g2 => ?_) (fun g2 => ?_)
  · refine x_iconst (pc := 17) d148_17 ?_
    refine x_zret (pc := 18) rfl (Or.inl rfl) (fun _ => rfl) d148_18 ?_
    rw [decide_eq_false (by omega)]; rfl
  · refine x_lload_n (pc := 6) rfl d148_6 ?_
    refine x_lload (pc := 7) rfl d148_7 ?_
    refine x_lc_gt (pc := 9) (tgt := 17) ⟨by omega, by omega⟩ ⟨by omega, by omega⟩ d148_9 d148_10 (by decide) (fun g9 => ?_) (fun g9 => ?_)
    · refine x_iconst (pc := 17) d148_17 ?_
      refine x_zret (pc := 18) rfl (Or.inl rfl) (fun _ => rfl) d148_18 ?_
      rw [decide_eq_false (by omega)]; rfl
    · refine x_iconst (pc := 13) d148_13 ?_
      refine x_goto (pc := 14) (tgt := 18) d148_14 (by decide) ?_
      refine x_zret (pc := 18) rfl (Or.inr rfl) (fun _ => rfl) d148_18 ?_
      rw [decide_eq_true (by omega)]; rfl
theorem rt_truth (hl : l.1.stackTraces = false) {b : Bool} : DT l 149 [.int (iI (b01 b))] (mm q I v fr) 0 0 (.inl (some (.int (iI (b01 b)))), mm q I v fr) := by
  refine mkdt hl (by decide) (Nat.le_of_ble_eq_true rfl) (L := [some (.int (iI (b01 b)))]) rfl ?_
  refine x_iload_n (pc := 0) rfl d149_0 ?_
  refine x_ifB_eq (pc := 1) (tgt := 8) d149_1 (by decide) (fun g1 => ?_) (fun g1 => ?_)
  · refine x_iconst (pc := 8) d149_8 ?_
    refine x_iret (pc := 9) rfl (fun _ => rfl) d149_9 ?_
    rw [g1]; rfl
  · refine x_iconst (pc := 4) d149_4 ?_
    refine x_goto (pc := 5) (tgt := 9) d149_5 (by decide) ?_
    refine x_iret (pc := 9) rfl (fun _ => rfl) d149_9 ?_
    rw [g1]; rfl
theorem rt_passes (hl : l.1.stackTraces = false) (hq : 192 ≤ q) {b : Bool} : DT l 150 [.ref 181, .int (iI (b01 b))] (mm q I v fr) 0 0 (.inl (some (.int (iI (b01 b)))), mm q (up2 I 181 6 (b01 (!b))) v fr) := by
  refine mkdt hl (by decide) (Nat.le_of_ble_eq_true rfl) (L := [some (.ref 181), some (.int (iI (b01 b)))]) rfl ?_
  refine x_aload_n (pc := 0) rfl d150_0 ?_
  refine x_iload_n (pc := 1) rfl d150_1 ?_
  refine x_ifB_eq (pc := 2) (tgt := 9) d150_2 (by decide) (fun g2 => ?_) (fun g2 => ?_)
  · refine x_iconst (pc := 9) d150_9 ?_
    refine m_putI (pc := 10) (z := 6) f150_65 (by decide +kernel) (by decide +kernel) rfl (xo181 (by omega)) d150_10 ?_
    refine x_iload_n (pc := 13) rfl d150_13 ?_
    refine x_zret (pc := 14) rfl (b01_or _) (fun _ => rfl) d150_14 ?_
    rw [g2]; rfl
  · refine x_iconst (pc := 5) d150_5 ?_
    refine x_goto (pc := 6) (tgt := 10) d150_6 (by decide) ?_
    refine m_putI (pc := 10) (z := 6) f150_65 (by decide +kernel) (by decide +kernel) rfl (xo181 (by omega)) d150_10 ?_
    refine x_iload_n (pc := 13) rfl d150_13 ?_
    refine x_zret (pc := 14) rfl (b01_or _) (fun _ => rfl) d150_14 ?_
    rw [g2]; rfl
theorem rt_passes2 (hl : l.1.stackTraces = false) (hq : 192 ≤ q) {a b : Bool} : DT l 151 [.ref 181, .int (iI (b01 a)), .int (iI (b01 b))] (mm q I v fr) 0 0 (.inl (some (.int (iI (b01 (a && b))))), mm q (up2 I 181 6 (th2 a b)) v fr) := by
  refine mkdt hl (by decide) (Nat.le_of_ble_eq_true rfl) (L := [some (.ref 181), some (.int (iI (b01 a))), some (.int (iI (b01 b)))]) rfl ?_
  refine x_aload_n (pc := 0) rfl d151_0 ?_
  refine x_iload_n (pc := 1) rfl d151_1 ?_
  refine x_ifB_ne (pc := 2) (tgt := 9) d151_2 (by decide) (fun g2 => ?_) (fun g2 => ?_)
  · refine x_iload_n (pc := 9) rfl d151_9 ?_
    refine x_ifB_ne (pc := 10) (tgt := 17) d151_10 (by decide) (fun g10 => ?_) (fun g10 => ?_)
    · refine x_iconst (pc := 17) d151_17 ?_
      refine m_putI (pc := 18) (z := 6) f151_65 (by decide +kernel) (by decide +kernel) rfl (xo181 (by omega)) d151_18 ?_
      refine x_aload_n (pc := 21) rfl d151_21 ?_
      refine m_getW (pc := 22) (z := 6) (w := 0) f151_65 (by decide +kernel) rfl (xo181 (by omega)) (by rw [up2_s]) d151_22 ?_
      refine x_if_ne (pc := 25) (tgt := 32) ⟨by omega, by omega⟩ d151_25 (by decide) (fun z => absurd z (by decide)) (fun _ => ?_)
      refine x_iconst (pc := 28) d151_28 ?_
      refine x_goto (pc := 29) (tgt := 33) d151_29 (by decide) ?_
      refine x_zret (pc := 33) rfl (Or.inr rfl) (fun _ => rfl) d151_33 ?_
      rw [g2, g10]; rfl
    · refine x_iconst (pc := 13) d151_13 ?_
      refine x_goto (pc := 14) (tgt := 18) d151_14 (by decide) ?_
      refine m_putI (pc := 18) (z := 6) f151_65 (by decide +kernel) (by decide +kernel) rfl (xo181 (by omega)) d151_18 ?_
      refine x_aload_n (pc := 21) rfl d151_21 ?_
      refine m_getW (pc := 22) (z := 6) (w := 2) f151_65 (by decide +kernel) rfl (xo181 (by omega)) (by rw [up2_s]) d151_22 ?_
      refine x_if_ne (pc := 25) (tgt := 32) ⟨by omega, by omega⟩ d151_25 (by decide) (fun _ => ?_) (fun z => absurd z (by decide))
      refine x_iconst (pc := 32) d151_32 ?_
      refine x_zret (pc := 33) rfl (Or.inl rfl) (fun _ => rfl) d151_33 ?_
      rw [g2, g10]; rfl
  · refine x_iconst (pc := 5) d151_5 ?_
    refine x_goto (pc := 6) (tgt := 18) d151_6 (by decide) ?_
    refine m_putI (pc := 18) (z := 6) f151_65 (by decide +kernel) (by decide +kernel) rfl (xo181 (by omega)) d151_18 ?_
    refine x_aload_n (pc := 21) rfl d151_21 ?_
    refine m_getW (pc := 22) (z := 6) (w := 1) f151_65 (by decide +kernel) rfl (xo181 (by omega)) (by rw [up2_s]) d151_22 ?_
    refine x_if_ne (pc := 25) (tgt := 32) ⟨by omega, by omega⟩ d151_25 (by decide) (fun _ => ?_) (fun z => absurd z (by decide))
    refine x_iconst (pc := 32) d151_32 ?_
    refine x_zret (pc := 33) rfl (Or.inl rfl) (fun _ => rfl) d151_33 ?_
    rw [g2]; rfl
theorem lp_copies (hl : l.1.stackTraces = false) {s9 d9 m0 n0 : Nat} (hs9 : s9 < q ∧ K0 s9 = 10 * m0) (hd9 : d9 < q ∧ K0 d9 = 10 * n0) (hsd : s9 ≠ d9) {a b : Int} (a0 : 0 ≤ a) (a1 : a + 1011 ≤ m0) (b0 : 0 ≤ b) (b1 : b + 1011 ≤ n0) (hm : m0 ≤ 8088) (hn : n0 ≤ 8088) : ∀ (m k : Nat) (J : Nat → Int → Int), m + k = 1011 → J = cp2 I s9 a d9 b k →
    Ex l 152 0 0 3 [some (.ref s9), some (.int (iI a)), some (.ref d9), some (.int (iI b)), some (.int (iI k))] [] (mm q J v fr) (fun o => o = (.inl none, mm q (cp2 I s9 a d9 b 1011) v fr)) := by
  intro m
  induction m with
  | zero =>
    intro k J hk hJ
    refine x_iload (pc := 3) rfl d152_3 ?_
    refine x_sipush (pc := 5) (by decide) d152_5 ?_
    refine x_icmp_ge (pc := 8) (tgt := 29) ⟨by omega, by omega⟩ ⟨by omega, by omega⟩ d152_8 (by decide) (fun g8 => ?_) (fun g8 => ?_)
    · refine x_vret (pc := 29) rfl (fun _ => rfl) d152_29 ?_
      rw [hJ, show (k : Int) = 1011 from by omega]
    · refine x_aload_n (pc := 11) rfl d152_11 ?_
      refine x_iload_n (pc := 12) rfl d152_12 ?_
      refine x_iload (pc := 13) rfl d152_13 ?_
      refine x_iadd (pc := 15) d152_15 ?_
      refine x_aload_n (pc := 16) rfl d152_16 ?_
      refine x_iload_n (pc := 17) rfl d152_17 ?_
      refine x_iload (pc := 18) rfl d152_18 ?_
      refine x_iadd (pc := 20) d152_20 ?_
      refine m_iald (pc := 21) hs9 (by omega) (by omega) (by omega) d152_21 ?_
      refine m_iast (pc := 22) hd9 (by omega) (by omega) (by omega) d152_22 ?_
      refine x_iinc (pc := 23) rfl (by decide +kernel) rfl d152_23 ?_
      dsimp only [List.set]
      refine x_goto (pc := 26) (tgt := 3) d152_26 (by decide) ?_
      exfalso; omega
  | succ m ih =>
    intro k J hk hJ
    have e : J s9 (a + k) = I s9 (a + k) := by rw [hJ]; exact if_neg fun z => hsd z.1
    refine x_iload (pc := 3) rfl d152_3 ?_
    refine x_sipush (pc := 5) (by decide) d152_5 ?_
    refine x_icmp_ge (pc := 8) (tgt := 29) ⟨by omega, by omega⟩ ⟨by omega, by omega⟩ d152_8 (by decide) (fun g8 => ?_) (fun g8 => ?_)
    · refine x_vret (pc := 29) rfl (fun _ => rfl) d152_29 ?_
      exfalso; omega
    · refine x_aload_n (pc := 11) rfl d152_11 ?_
      refine x_iload_n (pc := 12) rfl d152_12 ?_
      refine x_iload (pc := 13) rfl d152_13 ?_
      refine x_iadd (pc := 15) d152_15 ?_
      refine x_aload_n (pc := 16) rfl d152_16 ?_
      refine x_iload_n (pc := 17) rfl d152_17 ?_
      refine x_iload (pc := 18) rfl d152_18 ?_
      refine x_iadd (pc := 20) d152_20 ?_
      refine m_iald (pc := 21) hs9 (by omega) (by omega) (by omega) d152_21 ?_
      refine x_val (pc := 22) (w := (I s9 (a + k))) (e) ?_
      refine m_iast (pc := 22) hd9 (by omega) (by omega) (by omega) d152_22 ?_
      refine x_iinc (pc := 23) rfl (by decide +kernel) rfl d152_23 ?_
      dsimp only [List.set]
      refine x_goto (pc := 26) (tgt := 3) d152_26 (by decide) ?_
      refine ih (k + 1) _ (by omega) ?_
      rw [hJ]
      funext x y
      unfold cp2 up2
      dsimp only
      by_cases hx : x = d9
      · by_cases hy : y = b + k
        · rw [if_pos ⟨hx, hy⟩, if_pos ⟨hx, by omega, by omega⟩, hy]
          congr 1; omega
        · rw [if_neg fun z => hy z.2]
          by_cases hz : b ≤ y ∧ y < b + k
          · rw [if_pos ⟨hx, hz⟩, if_pos ⟨hx, hz.1, by omega⟩]
          · rw [if_neg fun z => hz z.2, if_neg fun z => hz ⟨z.2.1, by omega⟩]
      · rw [if_neg fun z => hx z.1, if_neg fun z => hx z.1, if_neg fun z => hx z.1]
theorem rt_copies (hl : l.1.stackTraces = false) {s9 d9 m0 n0 : Nat} (hs9 : s9 < q ∧ K0 s9 = 10 * m0) (hd9 : d9 < q ∧ K0 d9 = 10 * n0) (hsd : s9 ≠ d9) {a b : Int} (a0 : 0 ≤ a) (a1 : a + 1011 ≤ m0) (b0 : 0 ≤ b) (b1 : b + 1011 ≤ n0) (hm : m0 ≤ 8088) (hn : n0 ≤ 8088) : DT l 152 [.ref s9, .int (iI a), .ref d9, .int (iI b)] (mm q I v fr) 0 0 (.inl none, mm q (cp2 I s9 a d9 b 1011) v fr) := by
  refine mkdt hl (by decide) (Nat.le_of_ble_eq_true rfl) (L := [some (.ref s9), some (.int (iI a)), some (.ref d9), some (.int (iI b)), none]) rfl ?_
  refine x_iconst (pc := 0) d152_0 ?_
  refine x_istore (pc := 1) (by decide +kernel) rfl d152_1 ?_
  dsimp only [List.set]
  exact lp_copies hl hs9 hd9 hsd a0 a1 b0 b1 hm hn 1011 0 I (by decide) (by funext x y; unfold cp2; rw [if_neg (by omega)])
theorem rt_tries (hl : l.1.stackTraces = false) (hq : 192 ≤ q) : DT l 153 [.ref 181] (mm q I v fr) 0 0 (.inl none, mm q (cp2 I 182 0 185 0 1011) v fr) := by
  refine mkdt hl (by decide) (Nat.le_of_ble_eq_true rfl) (L := [some (.ref 181)]) rfl ?_
  refine x_aload_n (pc := 0) rfl d153_0 ?_
  refine m_getR (pc := 1) f153_9 (by decide +kernel) (xo181 (by omega)) rr181_0 d153_1 ?_
  refine x_iconst (pc := 4) d153_4 ?_
  refine x_aload_n (pc := 5) rfl d153_5 ?_
  refine m_getR (pc := 6) f153_19 (by decide +kernel) (xo181 (by omega)) rr181_3 d153_6 ?_
  refine x_iconst (pc := 9) d153_9 ?_
  refine x_cSv (pc := 10) c153_68 (rt_copies hl (m0 := 1011) (n0 := 1011) (xa182 (by omega) (I := I) (v := v) (fr := fr)) (xa185 (by omega) (I := I) (v := v) (fr := fr)) (by decide) (a := 0) (b := 0) (by omega) (by omega) (by omega) (by omega) (by decide) (by decide)) rfl rfl (Nat.le_of_ble_eq_true rfl) (by decide +kernel) (by decide +kernel) (by decide +kernel) rfl d153_10 ?_
  refine x_vret (pc := 13) rfl (fun _ => rfl) d153_13 ?_
  first | rfl | (exfalso; omega)
theorem rt_laid (hl : l.1.stackTraces = false) (hq : 192 ≤ q) {z : Int} : DT l 154 [.ref 181, .int (iI z)] (mm q I v fr) 0 0 (.inl (some (.int (iI z))), mm q (cp2 I 185 0 182 0 1011) v fr) := by
  refine mkdt hl (by decide) (Nat.le_of_ble_eq_true rfl) (L := [some (.ref 181), some (.int (iI z))]) rfl ?_
  refine x_aload_n (pc := 0) rfl d154_0 ?_
  refine m_getR (pc := 1) f154_19 (by decide +kernel) (xo181 (by omega)) rr181_3 d154_1 ?_
  refine x_iconst (pc := 4) d154_4 ?_
  refine x_aload_n (pc := 5) rfl d154_5 ?_
  refine m_getR (pc := 6) f154_9 (by decide +kernel) (xo181 (by omega)) rr181_0 d154_6 ?_
  refine x_iconst (pc := 9) d154_9 ?_
  refine x_cSv (pc := 10) c154_68 (rt_copies hl (m0 := 1011) (n0 := 1011) (xa185 (by omega) (I := I) (v := v) (fr := fr)) (xa182 (by omega) (I := I) (v := v) (fr := fr)) (by decide) (a := 0) (b := 0) (by omega) (by omega) (by omega) (by omega) (by decide) (by decide)) rfl rfl (Nat.le_of_ble_eq_true rfl) (by decide +kernel) (by decide +kernel) (by decide +kernel) rfl d154_10 ?_
  refine x_iload_n (pc := 13) rfl d154_13 ?_
  refine x_iret (pc := 14) rfl (fun _ => rfl) d154_14 ?_
  first | rfl | (exfalso; omega)
theorem rt_ofDog (hl : l.1.stackTraces = false) (hq : 192 ≤ q) {f w : Int} (h0 : 0 ≤ 18 + 3 * f + w) (h1 : 18 + 3 * f + w < 1011) : DT l 155 [.ref 181, .int (iI f), .int (iI w)] (mm q I v fr) 0 0 (.inl (some (.int (iI (I 182 (18 + 3 * f + w))))), mm q I v fr) := by
  refine mkdt hl (by decide) (Nat.le_of_ble_eq_true rfl) (L := [some (.ref 181), some (.int (iI f)), some (.int (iI w))]) rfl ?_
  refine x_aload_n (pc := 0) rfl d155_0 ?_
  refine m_getR (pc := 1) f155_9 (by decide +kernel) (xo181 (by omega)) rr181_0 d155_1 ?_
  refine x_bipush (pc := 4) (by decide) d155_4 ?_
  refine x_iconst (pc := 6) d155_6 ?_
  refine x_iload_n (pc := 7) rfl d155_7 ?_
  refine x_imul (pc := 8) d155_8 ?_
  refine x_iadd (pc := 9) d155_9 ?_
  refine x_iload_n (pc := 10) rfl d155_10 ?_
  refine x_iadd (pc := 11) d155_11 ?_
  refine m_iald (pc := 12) (xa182 (by omega)) (by omega) (by omega) (by omega) d155_12 ?_
  refine x_iret (pc := 13) rfl (fun _ => rfl) d155_13 ?_
  first | rfl | (exfalso; omega)
theorem rt_ofM (hl : l.1.stackTraces = false) (hq : 192 ≤ q) {f w : Int} (h0 : 0 ≤ 27 + 18 * f + w) (h1 : 27 + 18 * f + w < 1011) : DT l 156 [.ref 181, .int (iI f), .int (iI w)] (mm q I v fr) 0 0 (.inl (some (.int (iI (I 182 (27 + 18 * f + w))))), mm q I v fr) := by
  refine mkdt hl (by decide) (Nat.le_of_ble_eq_true rfl) (L := [some (.ref 181), some (.int (iI f)), some (.int (iI w))]) rfl ?_
  refine x_aload_n (pc := 0) rfl d156_0 ?_
  refine m_getR (pc := 1) f156_9 (by decide +kernel) (xo181 (by omega)) rr181_0 d156_1 ?_
  refine x_bipush (pc := 4) (by decide) d156_4 ?_
  refine x_bipush (pc := 6) (by decide) d156_6 ?_
  refine x_iload_n (pc := 8) rfl d156_8 ?_
  refine x_imul (pc := 9) d156_9 ?_
  refine x_iadd (pc := 10) d156_10 ?_
  refine x_iload_n (pc := 11) rfl d156_11 ?_
  refine x_iadd (pc := 12) d156_12 ?_
  refine m_iald (pc := 13) (xa182 (by omega)) (by omega) (by omega) (by omega) d156_13 ?_
  refine x_iret (pc := 14) rfl (fun _ => rfl) d156_14 ?_
  first | rfl | (exfalso; omega)
theorem rt_putM (hl : l.1.stackTraces = false) (hq : 192 ≤ q) {f w z : Int} (h0 : 0 ≤ 27 + 18 * f + w) (h1 : 27 + 18 * f + w < 1011) : DT l 157 [.ref 181, .int (iI f), .int (iI w), .int (iI z)] (mm q I v fr) 0 0 (.inl none, mm q (up2 I 182 (27 + 18 * f + w) z) v fr) := by
  refine mkdt hl (by decide) (Nat.le_of_ble_eq_true rfl) (L := [some (.ref 181), some (.int (iI f)), some (.int (iI w)), some (.int (iI z))]) rfl ?_
  refine x_aload_n (pc := 0) rfl d157_0 ?_
  refine m_getR (pc := 1) f157_9 (by decide +kernel) (xo181 (by omega)) rr181_0 d157_1 ?_
  refine x_bipush (pc := 4) (by decide) d157_4 ?_
  refine x_bipush (pc := 6) (by decide) d157_6 ?_
  refine x_iload_n (pc := 8) rfl d157_8 ?_
  refine x_imul (pc := 9) d157_9 ?_
  refine x_iadd (pc := 10) d157_10 ?_
  refine x_iload_n (pc := 11) rfl d157_11 ?_
  refine x_iadd (pc := 12) d157_12 ?_
  refine x_iload_n (pc := 13) rfl d157_13 ?_
  refine m_iast (pc := 14) (xa182 (by omega)) (by omega) (by omega) (by omega) d157_14 ?_
  refine x_vret (pc := 15) rfl (fun _ => rfl) d157_15 ?_
  first | rfl | (exfalso; omega)
theorem rt_of (hl : l.1.stackTraces = false) (hq : 192 ≤ q) {f w : Int} (h0 : 0 ≤ 243 + 16 * f + w) (h1 : 243 + 16 * f + w < 1011) : DT l 158 [.ref 181, .int (iI f), .int (iI w)] (mm q I v fr) 0 0 (.inl (some (.int (iI (I 182 (243 + 16 * f + w))))), mm q I v fr) := by
  refine mkdt hl (by decide) (Nat.le_of_ble_eq_true rfl) (L := [some (.ref 181), some (.int (iI f)), some (.int (iI w))]) rfl ?_
  refine x_aload_n (pc := 0) rfl d158_0 ?_
  refine m_getR (pc := 1) f158_9 (by decide +kernel) (xo181 (by omega)) rr181_0 d158_1 ?_
  refine x_sipush (pc := 4) (by decide) d158_4 ?_
  refine x_bipush (pc := 7) (by decide) d158_7 ?_
  refine x_iload_n (pc := 9) rfl d158_9 ?_
  refine x_imul (pc := 10) d158_10 ?_
  refine x_iadd (pc := 11) d158_11 ?_
  refine x_iload_n (pc := 12) rfl d158_12 ?_
  refine x_iadd (pc := 13) d158_13 ?_
  refine m_iald (pc := 14) (xa182 (by omega)) (by omega) (by omega) (by omega) d158_14 ?_
  refine x_iret (pc := 15) rfl (fun _ => rfl) d158_15 ?_
  first | rfl | (exfalso; omega)
theorem rt_puts (hl : l.1.stackTraces = false) (hq : 192 ≤ q) {f w z : Int} (h0 : 0 ≤ 243 + 16 * f + w) (h1 : 243 + 16 * f + w < 1011) : DT l 159 [.ref 181, .int (iI f), .int (iI w), .int (iI z)] (mm q I v fr) 0 0 (.inl none, mm q (up2 I 182 (243 + 16 * f + w) z) v fr) := by
  refine mkdt hl (by decide) (Nat.le_of_ble_eq_true rfl) (L := [some (.ref 181), some (.int (iI f)), some (.int (iI w)), some (.int (iI z))]) rfl ?_
  refine x_aload_n (pc := 0) rfl d159_0 ?_
  refine m_getR (pc := 1) f159_9 (by decide +kernel) (xo181 (by omega)) rr181_0 d159_1 ?_
  refine x_sipush (pc := 4) (by decide) d159_4 ?_
  refine x_bipush (pc := 7) (by decide) d159_7 ?_
  refine x_iload_n (pc := 9) rfl d159_9 ?_
  refine x_imul (pc := 10) d159_10 ?_
  refine x_iadd (pc := 11) d159_11 ?_
  refine x_iload_n (pc := 12) rfl d159_12 ?_
  refine x_iadd (pc := 13) d159_13 ?_
  refine x_iload_n (pc := 14) rfl d159_14 ?_
  refine m_iast (pc := 15) (xa182 (by omega)) (by omega) (by omega) (by omega) d159_15 ?_
  refine x_vret (pc := 16) rfl (fun _ => rfl) d159_16 ?_
  first | rfl | (exfalso; omega)
theorem dtv {y : Nat} {as : List Value} {σ τ : MM} {a b : Int} (h : DT l y as σ 0 0 (.inl (some (.int (iI a))), τ)) (e : a = b) : DT l y as σ 0 0 (.inl (some (.int (iI b))), τ) := by rw [← e]; exact h
theorem rt_dog1 (hl : l.1.stackTraces = false) (hq : 192 ≤ q) (hR : RV (I 182) A) {d : Int} (h0 : 0 ≤ d) (h1 : d < A 0 4) (h2 : A 0 4 ≤ 3) : DT l 155 [.ref 181, .int (iI d), .int (iI 0)] (mm q I v fr) 0 0 (.inl (some (.int (iI (A 1 d)))), mm q I v fr) := dtv (rt_ofDog hl hq (by omega) (by omega)) (hR.2.1 d h0 h1).1
theorem rt_dog2 (hl : l.1.stackTraces = false) (hq : 192 ≤ q) (hR : RV (I 182) A) {d : Int} (h0 : 0 ≤ d) (h1 : d < A 0 4) (h2 : A 0 4 ≤ 3) : DT l 155 [.ref 181, .int (iI d), .int (iI 1)] (mm q I v fr) 0 0 (.inl (some (.int (iI (A 2 d)))), mm q I v fr) := dtv (rt_ofDog hl hq (by omega) (by omega)) (hR.2.1 d h0 h1).2.1
theorem rt_dog3 (hl : l.1.stackTraces = false) (hq : 192 ≤ q) (hR : RV (I 182) A) {d : Int} (h0 : 0 ≤ d) (h1 : d < A 0 4) (h2 : A 0 4 ≤ 3) : DT l 155 [.ref 181, .int (iI d), .int (iI 2)] (mm q I v fr) 0 0 (.inl (some (.int (iI (A 3 d)))), mm q I v fr) := dtv (rt_ofDog hl hq (by omega) (by omega)) (hR.2.1 d h0 h1).2.2
theorem rt_mes4 (hl : l.1.stackTraces = false) (hq : 192 ≤ q) (hR : RV (I 182) A) {m : Int} (h0 : 0 ≤ m) (h1 : m < A 0 5) (h2 : A 0 5 ≤ 12) : DT l 156 [.ref 181, .int (iI m), .int (iI 0)] (mm q I v fr) 0 0 (.inl (some (.int (iI (A 4 m)))), mm q I v fr) := dtv (rt_ofM hl hq (by omega) (by omega)) (hR.2.2.1 m h0 h1).1
theorem rt_mes5 (hl : l.1.stackTraces = false) (hq : 192 ≤ q) (hR : RV (I 182) A) {m : Int} (h0 : 0 ≤ m) (h1 : m < A 0 5) (h2 : A 0 5 ≤ 12) : DT l 156 [.ref 181, .int (iI m), .int (iI 1)] (mm q I v fr) 0 0 (.inl (some (.int (iI (A 5 m)))), mm q I v fr) := dtv (rt_ofM hl hq (by omega) (by omega)) (hR.2.2.1 m h0 h1).2.1
theorem rt_mesT (hl : l.1.stackTraces = false) (hq : 192 ≤ q) (hR : RV (I 182) A) {m k : Int} (h0 : 0 ≤ m) (h1 : m < A 0 5) (h2 : A 0 5 ≤ 12) (k0 : 0 ≤ k) (k1 : k < A 4 m) (k2 : A 4 m ≤ 16) : DT l 156 [.ref 181, .int (iI m), .int (iI (2 + k))] (mm q I v fr) 0 0 (.inl (some (.int (iI (txtA A m k)))), mm q I v fr) := dtv (rt_ofM hl hq (by omega) (by omega)) ((hR.2.2.1 m h0 h1).2.2 k k0 k1)
theorem rt_of6 (hl : l.1.stackTraces = false) (hq : 192 ≤ q) (hR : RV (I 182) A) {f : Int} (h0 : 0 ≤ f) (h1 : f < A 0 6) (h2 : A 0 6 ≤ 48) : DT l 158 [.ref 181, .int (iI f), .int (iI 0)] (mm q I v fr) 0 0 (.inl (some (.int (iI (A 6 f)))), mm q I v fr) := dtv (rt_of hl hq (by omega) (by omega)) (hR.2.2.2 f h0 h1).1
theorem rt_of7 (hl : l.1.stackTraces = false) (hq : 192 ≤ q) (hR : RV (I 182) A) {f : Int} (h0 : 0 ≤ f) (h1 : f < A 0 6) (h2 : A 0 6 ≤ 48) : DT l 158 [.ref 181, .int (iI f), .int (iI 1)] (mm q I v fr) 0 0 (.inl (some (.int (iI (A 7 f)))), mm q I v fr) := dtv (rt_of hl hq (by omega) (by omega)) (hR.2.2.2 f h0 h1).2.1
theorem rt_of8 (hl : l.1.stackTraces = false) (hq : 192 ≤ q) (hR : RV (I 182) A) {f : Int} (h0 : 0 ≤ f) (h1 : f < A 0 6) (h2 : A 0 6 ≤ 48) : DT l 158 [.ref 181, .int (iI f), .int (iI 2)] (mm q I v fr) 0 0 (.inl (some (.int (iI (A 8 f)))), mm q I v fr) := dtv (rt_of hl hq (by omega) (by omega)) (hR.2.2.2 f h0 h1).2.2.1
theorem rt_of9 (hl : l.1.stackTraces = false) (hq : 192 ≤ q) (hR : RV (I 182) A) {f : Int} (h0 : 0 ≤ f) (h1 : f < A 0 6) (h2 : A 0 6 ≤ 48) : DT l 158 [.ref 181, .int (iI f), .int (iI 3)] (mm q I v fr) 0 0 (.inl (some (.int (iI (A 9 f)))), mm q I v fr) := dtv (rt_of hl hq (by omega) (by omega)) (hR.2.2.2 f h0 h1).2.2.2.1
theorem rt_ofS (hl : l.1.stackTraces = false) (hq : 192 ≤ q) (hR : RV (I 182) A) {f k : Int} (h0 : 0 ≤ f) (h1 : f < A 0 6) (h2 : A 0 6 ≤ 48) (k0 : 0 ≤ k) (k1 : k < A 6 f) (k2 : A 6 f ≤ 6) : DT l 158 [.ref 181, .int (iI f), .int (iI (4 + k))] (mm q I v fr) 0 0 (.inl (some (.int (iI (A 10 (6 * f + k))))), mm q I v fr) := dtv (rt_of hl hq (by omega) (by omega)) ((hR.2.2.2 f h0 h1).2.2.2.2.1 k k0 k1)
theorem rt_ofG (hl : l.1.stackTraces = false) (hq : 192 ≤ q) (hR : RV (I 182) A) {f k : Int} (h0 : 0 ≤ f) (h1 : f < A 0 6) (h2 : A 0 6 ≤ 48) (k0 : 0 ≤ k) (k1 : k < A 6 f) (k2 : A 6 f ≤ 6) (h9 : A 9 f = 1) : DT l 158 [.ref 181, .int (iI f), .int (iI (10 + k))] (mm q I v fr) 0 0 (.inl (some (.int (iI (A 11 (6 * f + k))))), mm q I v fr) := dtv (rt_of hl hq (by omega) (by omega)) ((hR.2.2.2 f h0 h1).2.2.2.2.2 h9 k k0 k1)
theorem rt_isDog (hl : l.1.stackTraces = false) (hq : 192 ≤ q) (hR : RV (I 182) A) (hA : AI A c e) {d : Int} (hd : InR d) : DT l 160 [.ref 181, .int (iI d)] (mm q I v fr) 0 0 (.inl (some (.int (iI (b01 (decide (0 ≤ d ∧ d < A 0 4)))))), mm q I v fr) := by
  have hr := hA.rg
  obtain ⟨hd0, hd1⟩ := hd
  rw [show decide (0 ≤ d ∧ d < A 0 4) = decide (0 ≤ d ∧ d ≤ A 0 4 - 1) from decide_eq_decide.mpr (by omega)]
  refine mkdt hl (by decide) (Nat.le_of_ble_eq_true rfl) (L := [some (.ref 181), some (.int (iI d))]) rfl ?_
  refine x_iload_n (pc := 0) rfl d160_0 ?_
  refine x_i2l (pc := 1) ⟨by omega, by omega⟩ d160_1 ?_
  refine x_lconst (pc := 2) (z := 0) (by decide) d160_2 ?_
  refine x_aload_n (pc := 3) rfl d160_3 ?_
  refine m_getR (pc := 4) f160_9 (by decide +kernel) (xo181 (by omega)) rr181_0 d160_4 ?_
  refine x_iconst (pc := 7) d160_7 ?_
  refine m_ialdW (pc := 8) (w := (A 0 4)) (xa182 (by omega)) (by omega) (by omega) (by omega) (by rw [hR.sc (i := 4) (by decide) (by decide)]) d160_8 ?_
  refine x_iconst (pc := 9) d160_9 ?_
  refine x_isub (pc := 10) d160_10 ?_
  refine x_i2l (pc := 11) ⟨by omega, by omega⟩ d160_11 ?_
  refine x_cSs (pc := 12) c160_72 (rt_in hl (a := d) (b := 0) (c := ((A 0 4) - 1)) ⟨by omega, by omega⟩ ⟨by omega, by omega⟩ ⟨by omega, by omega⟩) rfl rfl (Nat.le_of_ble_eq_true rfl) (by decide +kernel) (by decide +kernel) (by decide +kernel) rfl d160_12 ?_
  refine x_zret (pc := 15) rfl (b01_or _) (fun _ => rfl) d160_15 ?_
  first | rfl | (exfalso; omega)
theorem rt_isMes (hl : l.1.stackTraces = false) (hq : 192 ≤ q) (hR : RV (I 182) A) (hA : AI A c e) {d : Int} (hd : InR d) : DT l 161 [.ref 181, .int (iI d)] (mm q I v fr) 0 0 (.inl (some (.int (iI (b01 (decide (0 ≤ d ∧ d < A 0 5)))))), mm q I v fr) := by
  have hr := hA.rg
  obtain ⟨hd0, hd1⟩ := hd
  rw [show decide (0 ≤ d ∧ d < A 0 5) = decide (0 ≤ d ∧ d ≤ A 0 5 - 1) from decide_eq_decide.mpr (by omega)]
  refine mkdt hl (by decide) (Nat.le_of_ble_eq_true rfl) (L := [some (.ref 181), some (.int (iI d))]) rfl ?_
  refine x_iload_n (pc := 0) rfl d161_0 ?_
  refine x_i2l (pc := 1) ⟨by omega, by omega⟩ d161_1 ?_
  refine x_lconst (pc := 2) (z := 0) (by decide) d161_2 ?_
  refine x_aload_n (pc := 3) rfl d161_3 ?_
  refine m_getR (pc := 4) f161_9 (by decide +kernel) (xo181 (by omega)) rr181_0 d161_4 ?_
  refine x_iconst (pc := 7) d161_7 ?_
  refine m_ialdW (pc := 8) (w := (A 0 5)) (xa182 (by omega)) (by omega) (by omega) (by omega) (by rw [hR.sc (i := 5) (by decide) (by decide)]) d161_8 ?_
  refine x_iconst (pc := 9) d161_9 ?_
  refine x_isub (pc := 10) d161_10 ?_
  refine x_i2l (pc := 11) ⟨by omega, by omega⟩ d161_11 ?_
  refine x_cSs (pc := 12) c161_72 (rt_in hl (a := d) (b := 0) (c := ((A 0 5) - 1)) ⟨by omega, by omega⟩ ⟨by omega, by omega⟩ ⟨by omega, by omega⟩) rfl rfl (Nat.le_of_ble_eq_true rfl) (by decide +kernel) (by decide +kernel) (by decide +kernel) rfl d161_12 ?_
  refine x_zret (pc := 15) rfl (b01_or _) (fun _ => rfl) d161_15 ?_
  first | rfl | (exfalso; omega)
theorem rt_isFrm (hl : l.1.stackTraces = false) (hq : 192 ≤ q) (hR : RV (I 182) A) (hA : AI A c e) {d : Int} (hd : InR d) : DT l 162 [.ref 181, .int (iI d)] (mm q I v fr) 0 0 (.inl (some (.int (iI (b01 (decide (0 ≤ d ∧ d < A 0 6)))))), mm q I v fr) := by
  have hr := hA.rg
  obtain ⟨hd0, hd1⟩ := hd
  rw [show decide (0 ≤ d ∧ d < A 0 6) = decide (0 ≤ d ∧ d ≤ A 0 6 - 1) from decide_eq_decide.mpr (by omega)]
  refine mkdt hl (by decide) (Nat.le_of_ble_eq_true rfl) (L := [some (.ref 181), some (.int (iI d))]) rfl ?_
  refine x_iload_n (pc := 0) rfl d162_0 ?_
  refine x_i2l (pc := 1) ⟨by omega, by omega⟩ d162_1 ?_
  refine x_lconst (pc := 2) (z := 0) (by decide) d162_2 ?_
  refine x_aload_n (pc := 3) rfl d162_3 ?_
  refine m_getR (pc := 4) f162_9 (by decide +kernel) (xo181 (by omega)) rr181_0 d162_4 ?_
  refine x_bipush (pc := 7) (by decide) d162_7 ?_
  refine m_ialdW (pc := 9) (w := (A 0 6)) (xa182 (by omega)) (by omega) (by omega) (by omega) (by rw [hR.sc (i := 6) (by decide) (by decide)]) d162_9 ?_
  refine x_iconst (pc := 10) d162_10 ?_
  refine x_isub (pc := 11) d162_11 ?_
  refine x_i2l (pc := 12) ⟨by omega, by omega⟩ d162_12 ?_
  refine x_cSs (pc := 13) c162_72 (rt_in hl (a := d) (b := 0) (c := ((A 0 6) - 1)) ⟨by omega, by omega⟩ ⟨by omega, by omega⟩ ⟨by omega, by omega⟩) rfl rfl (Nat.le_of_ble_eq_true rfl) (by decide +kernel) (by decide +kernel) (by decide +kernel) rfl d162_13 ?_
  refine x_zret (pc := 16) rfl (b01_or _) (fun _ => rfl) d162_16 ?_
  first | rfl | (exfalso; omega)
theorem rt_isTick (hl : l.1.stackTraces = false) {d : Int} (hd : InR d) : DT l 163 [.int (iI d)] (mm q I v fr) 0 0 (.inl (some (.int (iI (b01 (decide (0 ≤ d ∧ d ≤ 999999)))))), mm q I v fr) := by
  obtain ⟨hd0, hd1⟩ := hd
  refine mkdt hl (by decide) (Nat.le_of_ble_eq_true rfl) (L := [some (.int (iI d))]) rfl ?_
  refine x_iload_n (pc := 0) rfl d163_0 ?_
  refine x_i2l (pc := 1) ⟨by omega, by omega⟩ d163_1 ?_
  refine x_lconst (pc := 2) (z := 0) (by decide) d163_2 ?_
  refine x_ldc2 (pc := 3) (z := 999999) k163_76 (by decide) d163_3 ?_
  refine x_cSs (pc := 6) c163_72 (rt_in hl (a := d) (b := 0) (c := 999999) ⟨by omega, by omega⟩ ⟨by omega, by omega⟩ ⟨by omega, by omega⟩) rfl rfl (Nat.le_of_ble_eq_true rfl) (by decide +kernel) (by decide +kernel) (by decide +kernel) rfl d163_6 ?_
  refine x_zret (pc := 9) rfl (b01_or _) (fun _ => rfl) d163_9 ?_
  first | rfl | (exfalso; omega)
theorem rt_bitsOf (hl : l.1.stackTraces = false) (hq : 192 ≤ q) (hR : RV (I 182) A) {f : Int} (h0 : 0 ≤ f) (h1 : f < A 0 6) (h2 : A 0 6 ≤ 48) : DT l 164 [.ref 181, .int (iI f)] (mm q I v fr) 0 0 (.inl (some (.int (iI (8 * A 6 f)))), mm q I v fr) := by
  refine mkdt hl (by decide) (Nat.le_of_ble_eq_true rfl) (L := [some (.ref 181), some (.int (iI f))]) rfl ?_
  refine x_bipush (pc := 0) (by decide) d164_0 ?_
  refine x_aload_n (pc := 2) rfl d164_2 ?_
  refine x_iload_n (pc := 3) rfl d164_3 ?_
  refine x_iconst (pc := 4) d164_4 ?_
  refine x_cVs (pc := 5) c164_78 (rt_of6 hl hq (A := A) hR (f := f) (by omega) (by omega) (by omega)) (xo181 (by omega)) rfl rfl (Nat.le_of_ble_eq_true rfl) (by decide +kernel) (by decide +kernel) rfl d164_5 ?_
  refine x_imul (pc := 8) d164_8 ?_
  refine x_iret (pc := 9) rfl (fun _ => rfl) d164_9 ?_
  first | rfl | (exfalso; omega)
end Ref
