/-! ===== a line is copied, configured ===== -/
def lnO (o : Nat) : Int := [8, 12, 12, 1, 3, 3, 3, 1, 48, 48, 48, 48, 288, 288, 9].getD o 0
/-- K's line p is I's line a -/
def agr (I : Nat → Int → Int) (a : Nat) (K : Nat → Int → Int) (p : Nat) : Prop := ∀ (o : Nat) (i : Int), o ≤ 14 → 0 ≤ i → i < lnO o → K (p + o) i = I (a + o) i
/-- all places but those of the line -/
def offP (p : Nat) (I J : Nat → Int → Int) : Prop := ∀ a, (a < p ∨ p + 14 < a) → J a = I a
theorem offP.offL {p : Nat} {I J : Nat → Int → Int} (h : offP p I J) : offL p I J := fun a g _ _ _ => h a g
theorem offP.trans {p : Nat} {I J K : Nat → Int → Int} (h : offP p I J) (h2 : offP p J K) : offP p I K := fun a g => by rw [h2 a g, h a g]
theorem offP.refl {p : Nat} {I : Nat → Int → Int} : offP p I I := fun _ _ => rfl
theorem sJ_le : ∀ n : Fin 18, 0 ≤ sJ n ∧ sJ n < lnO (sO n) := by decide +kernel
theorem entB_agr {n : Int} {S T g h : Int → Int} (hS : ∀ i, 0 ≤ i → i < n → S i = T i) (hg : ∀ i, 0 ≤ i → i < 6 * n → g i = h i) : entB n S g = entB n T h := by
  funext i
  unfold entB
  by_cases e : 0 ≤ i ∧ i / 6 < n
  · rw [hS (i / 6) (by omega) e.2, hg i e.1 (by omega)]
  · rw [if_neg (fun z => e ⟨z.1, z.2.1⟩), if_neg (fun z => e ⟨z.1, z.2.1⟩)]
theorem vc_agr {I K : Nat → Int → Int} {a p : Nat} (h : agr I a K p) (h3 : I (a + 3) 0 ≤ 3) (h7 : I a 7 ≤ 12) (hf : I (a + 7) 0 ≤ 48) : Vc K p = Vc I a := by
  have e3 := h 3 0 (by decide) (by decide) (by decide)
  have e7 := h 0 7 (by decide) (by decide) (by decide)
  have ef := h 7 0 (by decide) (by decide) (by decide)
  rw [Nat.add_zero, Nat.add_zero] at e7
  have es : ∀ i, scalC K p i = scalC I a i := fun i => by
    unfold scalC
    by_cases hi : 0 ≤ i ∧ i < 18
    · rw [if_pos hi, if_pos hi]
      have := sJ_le ⟨i.toNat, by omega⟩
      rw [h (sO i.toNat) (sJ i.toNat) (sO_le ⟨i.toNat, by omega⟩) this.1 this.2]
    · rw [if_neg hi, if_neg hi]
  have en : ∀ (o : Nat) (n : Int), o ≤ 14 → n ≤ lnO o → ent n (K (p + o)) = ent n (I (a + o)) := fun o n ho hn => ent_congr fun i h0 h1 => h o i ho h0 (by omega)
  have eb : entB (I (a + 7) 0) (K (p + 8)) (K (p + 12)) = entB (I (a + 7) 0) (I (a + 8)) (I (a + 12)) := entB_agr (fun i h0 h1 => h 8 i (by decide) h0 (by show i < 48; omega)) (fun i h0 h1 => h 12 i (by decide) h0 (by show i < 288; omega))
  have eb2 : entB (I (a + 7) 0) (fun f => flag (K (p + 11) f) * K (p + 8) f) (K (p + 13)) = entB (I (a + 7) 0) (fun f => flag (I (a + 11) f) * I (a + 8) f) (I (a + 13)) := entB_agr (fun i h0 h1 => by rw [h 8 i (by decide) h0 (by show i < 48; omega), h 11 i (by decide) h0 (by show i < 48; omega)]) (fun i h0 h1 => h 13 i (by decide) h0 (by show i < 288; omega))
  have e9 : ent (I (a + 7) 0) (fun f => flag (K (p + 11) f)) = ent (I (a + 7) 0) (fun f => flag (I (a + 11) f)) := ent_congr fun i h0 h1 => by rw [h 11 i (by decide) h0 (by show i < 48; omega)]
  funext k i
  unfold Vc
  rw [es, e3, e7, ef, en 4 _ (by decide) h3, en 5 _ (by decide) h3, en 6 _ (by decide) h3, en 1 _ (by decide) h7, en 2 _ (by decide) h7, en 8 _ (by decide) hf, en 9 _ (by decide) hf, en 10 _ (by decide) hf, e9, eb, eb2]
theorem CX_agr {I K : Nat → Int → Int} {a p : Nat} (h : agr I a K p) (hf : I (a + 7) 0 ≤ 48) (g : CX I a) : CX K p := by
  have ef := h 7 0 (by decide) (by decide) (by decide)
  refine ⟨fun i h0 h1 => ?_, fun f h0 h1 => ?_, ?_⟩
  · rw [h 12 i (by decide) h0 h1, h 13 i (by decide) h0 h1]; exact g.1 i h0 h1
  · rw [ef] at h1
    rw [h 11 f (by decide) h0 (by show f < 48; omega), h 10 f (by decide) h0 (by show f < 48; omega)]; exact g.2.1 f h0 h1
  · have e0 := h 0 0 (by decide) (by decide) (by decide)
    rw [Nat.add_zero, Nat.add_zero] at e0
    rw [h 14 6 (by decide) (by decide) (by decide), h 14 5 (by decide) (by decide) (by decide), h 14 0 (by decide) (by decide) (by decide), e0]; exact g.2.2
theorem ct_mono {l : LX} {y k n : Nat} {as : List Value} {σ : MM} {Q Q' : OO → Prop} (h : CT l y as σ k n Q) (hq : ∀ o, Q o → Q' o) : CT l y as σ k n Q' := fun G sz hs hsc p e a b c s m args below h1 h2 h3 h4 => by
  obtain ⟨nn, o, x1, x2, x3, x4⟩ := h G sz hs hsc p e a b c s m args below h1 h2 h3 h4
  refine ⟨nn, o, x1, x2, x3, ?_⟩
  rcases x4 with ⟨⟨⟨w, τ, y1, y3, y4⟩, y5⟩, y6⟩ | ⟨q, y1, E, ce, L, ⟨⟨ee, τ, z1, z2, z3, z4⟩, z5⟩, y3⟩
  · exact Or.inl ⟨⟨⟨w, τ, y1, hq _ y3, y4⟩, y5⟩, y6⟩
  · exact Or.inr ⟨q, y1, E, ce, L, ⟨⟨ee, τ, z1, z2, hq _ z3, z4⟩, z5⟩, y3⟩
section Copy
variable {l : LX} {q p a : Nat} {I : Nat → Int → Int} {v : Int} {fr : Bool} {c : Int}
theorem cp2_y {I : Nat → Int → Int} {s d : Nat} {w b : Int} (h0 : 0 ≤ b) (h1 : b < w) : cp2 I s 0 d 0 w d b = I s b := by
  unfold cp2
  rw [if_pos ⟨rfl, h0, by omega⟩]
  congr 1
  omega
theorem z9 {j : Int} (h0 : 0 ≤ j) (h1 : j < 9) : j = 0 ∨ j = 1 ∨ j = 2 ∨ j = 3 ∨ j = 4 ∨ j = 5 ∨ j = 6 ∨ j = 7 ∨ j = 8 := by omega
theorem z8 {j : Int} (h0 : 0 ≤ j) (h1 : j < 8) : j = 0 ∨ j = 1 ∨ j = 2 ∨ j = 3 ∨ j = 4 ∨ j = 5 ∨ j = 6 ∨ j = 7 := by omega
theorem ct_copy11 (hl : l.1.stackTraces = false) (hp : LineAt q p) (ha : LineAt q a) (hap : a + 14 < p ∨ p + 14 < a) : CT l 11 [.ref (p + 14), .ref (a + 14)] (mm q I v fr) 0 0 (oE q v fr none (fun K => (∀ b, b ≠ p + 14 → K b = I b) ∧ ∀ i : Int, 0 ≤ i → i < 9 → K (p + 14) i = I (a + 14) i)) := by
  have hpb := hp.b
  have hab := ha.b
  refine mkct2 hl (by decide) (Nat.le_of_ble_eq_true rfl) (L := [some (.ref (p + 14)), some (.ref (a + 14))]) rfl ?_
  refine x_aload_n (pc := 0) rfl d11_0 ?_
  refine x_aload_n (pc := 1) rfl d11_1 ?_
  refine m_getI (pc := 2) (z := 0) f11_7 (by decide +kernel) rfl ha.o14 d11_2 ?_
  refine m_putI (pc := 5) (z := 0) f11_7 (by decide +kernel) (by decide +kernel) rfl hp.o14 d11_5 ?_
  refine x_aload_n (pc := 8) rfl d11_8 ?_
  refine x_aload_n (pc := 9) rfl d11_9 ?_
  refine m_getW (pc := 10) (z := 1) (w := (I (a + 14) 1)) f11_13 (by decide +kernel) rfl ha.o14 (by rw [up2_p (by omega)]) d11_10 ?_
  refine m_putI (pc := 13) (z := 1) f11_13 (by decide +kernel) (by decide +kernel) rfl hp.o14 d11_13 ?_
  refine x_aload_n (pc := 16) rfl d11_16 ?_
  refine x_aload_n (pc := 17) rfl d11_17 ?_
  refine m_getW (pc := 18) (z := 2) (w := (I (a + 14) 2)) f11_16 (by decide +kernel) rfl ha.o14 (by rw [up2_p (by omega), up2_p (by omega)]) d11_18 ?_
  refine m_putI (pc := 21) (z := 2) f11_16 (by decide +kernel) (by decide +kernel) rfl hp.o14 d11_21 ?_
  refine x_aload_n (pc := 24) rfl d11_24 ?_
  refine x_aload_n (pc := 25) rfl d11_25 ?_
  refine m_getW (pc := 26) (z := 3) (w := (I (a + 14) 3)) f11_19 (by decide +kernel) rfl ha.o14 (by rw [up2_p (by omega), up2_p (by omega), up2_p (by omega)]) d11_26 ?_
  refine m_putI (pc := 29) (z := 3) f11_19 (by decide +kernel) (by decide +kernel) rfl hp.o14 d11_29 ?_
  refine x_aload_n (pc := 32) rfl d11_32 ?_
  refine x_aload_n (pc := 33) rfl d11_33 ?_
  refine m_getW (pc := 34) (z := 4) (w := (I (a + 14) 4)) f11_22 (by decide +kernel) rfl ha.o14 (by rw [up2_p (by omega), up2_p (by omega), up2_p (by omega), up2_p (by omega)]) d11_34 ?_
  refine m_putI (pc := 37) (z := 4) f11_22 (by decide +kernel) (by decide +kernel) rfl hp.o14 d11_37 ?_
  refine x_aload_n (pc := 40) rfl d11_40 ?_
  refine x_aload_n (pc := 41) rfl d11_41 ?_
  refine m_getW (pc := 42) (z := 5) (w := (I (a + 14) 5)) f11_25 (by decide +kernel) rfl ha.o14 (by rw [up2_p (by omega), up2_p (by omega), up2_p (by omega), up2_p (by omega), up2_p (by omega)]) d11_42 ?_
  refine m_putI (pc := 45) (z := 5) f11_25 (by decide +kernel) (by decide +kernel) rfl hp.o14 d11_45 ?_
  refine x_aload_n (pc := 48) rfl d11_48 ?_
  refine x_aload_n (pc := 49) rfl d11_49 ?_
  refine m_getW (pc := 50) (z := 6) (w := (I (a + 14) 6)) f11_28 (by decide +kernel) rfl ha.o14 (by rw [up2_p (by omega), up2_p (by omega), up2_p (by omega), up2_p (by omega), up2_p (by omega), up2_p (by omega)]) d11_50 ?_
  refine m_putI (pc := 53) (z := 6) f11_28 (by decide +kernel) (by decide +kernel) rfl hp.o14 d11_53 ?_
  refine x_aload_n (pc := 56) rfl d11_56 ?_
  refine x_aload_n (pc := 57) rfl d11_57 ?_
  refine m_getW (pc := 58) (z := 7) (w := (I (a + 14) 7)) f11_31 (by decide +kernel) rfl ha.o14 (by rw [up2_p (by omega), up2_p (by omega), up2_p (by omega), up2_p (by omega), up2_p (by omega), up2_p (by omega), up2_p (by omega)]) d11_58 ?_
  refine m_putI (pc := 61) (z := 7) f11_31 (by decide +kernel) (by decide +kernel) rfl hp.o14 d11_61 ?_
  refine x_aload_n (pc := 64) rfl d11_64 ?_
  refine x_aload_n (pc := 65) rfl d11_65 ?_
  refine m_getW (pc := 66) (z := 8) (w := (I (a + 14) 8)) f11_34 (by decide +kernel) rfl ha.o14 (by rw [up2_p (by omega), up2_p (by omega), up2_p (by omega), up2_p (by omega), up2_p (by omega), up2_p (by omega), up2_p (by omega), up2_p (by omega)]) d11_66 ?_
  refine m_putI (pc := 69) (z := 8) f11_34 (by decide +kernel) (by decide +kernel) rfl hp.o14 d11_69 ?_
  refine x_vret (pc := 72) rfl (fun _ => rfl) d11_72 ?_
  refine ⟨_, rfl, fun b hb => ?_, fun i h0 h1 => ?_⟩
  · funext j
    rw [up2_p hb, up2_p hb, up2_p hb, up2_p hb, up2_p hb, up2_p hb, up2_p hb, up2_p hb, up2_p hb]
  · rcases z9 h0 h1 with rfl | rfl | rfl | rfl | rfl | rfl | rfl | rfl | rfl <;> simp [up2]
theorem ct_copy13 (hl : l.1.stackTraces = false) (hp : LineAt q p) (ha : LineAt q a) (hap : a + 14 < p ∨ p + 14 < a) : CT l 13 [.ref (p + 3), .ref (a + 3)] (mm q I v fr) 0 0 (oE q v fr none (fun K => (∀ b, (b < p + 3 ∨ p + 6 < b) → K b = I b) ∧ ∀ (o : Nat) (i : Int), 3 ≤ o → o ≤ 6 → 0 ≤ i → i < lnO o → K (p + o) i = I (a + o) i)) := by
  have hpb := hp.b
  have hab := ha.b
  refine mkct2 hl (by decide) (Nat.le_of_ble_eq_true rfl) (L := [some (.ref (p + 3)), some (.ref (a + 3))]) rfl ?_
  refine x_aload_n (pc := 0) rfl d13_0 ?_
  refine x_aload_n (pc := 1) rfl d13_1 ?_
  refine m_getI (pc := 2) (z := 0) f13_21 (by decide +kernel) rfl ha.o3 d13_2 ?_
  refine m_putI (pc := 5) (z := 0) f13_21 (by decide +kernel) (by decide +kernel) rfl hp.o3 d13_5 ?_
  refine x_aload_n (pc := 8) rfl d13_8 ?_
  refine m_getR (pc := 9) f13_9 (by decide +kernel) ha.o3 ha.r3_1 d13_9 ?_
  refine x_iconst (pc := 12) d13_12 ?_
  refine x_aload_n (pc := 13) rfl d13_13 ?_
  refine m_getR (pc := 14) f13_9 (by decide +kernel) hp.o3 hp.r3_1 d13_14 ?_
  refine x_iconst (pc := 17) d13_17 ?_
  refine x_iconst (pc := 18) d13_18 ?_
  refine m_copy (pc := 19) c13_25 ha.a4 hp.a4 (by omega) (by omega) (by omega) (by omega) (by omega) (by omega) (by omega) (by decide +kernel) (Nat.le_of_ble_eq_true rfl) d13_19 ?_
  refine x_aload_n (pc := 22) rfl d13_22 ?_
  refine m_getR (pc := 23) f13_15 (by decide +kernel) ha.o3 ha.r3_2 d13_23 ?_
  refine x_iconst (pc := 26) d13_26 ?_
  refine x_aload_n (pc := 27) rfl d13_27 ?_
  refine m_getR (pc := 28) f13_15 (by decide +kernel) hp.o3 hp.r3_2 d13_28 ?_
  refine x_iconst (pc := 31) d13_31 ?_
  refine x_iconst (pc := 32) d13_32 ?_
  refine m_copy (pc := 33) c13_25 ha.a5 hp.a5 (by omega) (by omega) (by omega) (by omega) (by omega) (by omega) (by omega) (by decide +kernel) (Nat.le_of_ble_eq_true rfl) d13_33 ?_
  refine x_aload_n (pc := 36) rfl d13_36 ?_
  refine m_getR (pc := 37) f13_18 (by decide +kernel) ha.o3 ha.r3_3 d13_37 ?_
  refine x_iconst (pc := 40) d13_40 ?_
  refine x_aload_n (pc := 41) rfl d13_41 ?_
  refine m_getR (pc := 42) f13_18 (by decide +kernel) hp.o3 hp.r3_3 d13_42 ?_
  refine x_iconst (pc := 45) d13_45 ?_
  refine x_iconst (pc := 46) d13_46 ?_
  refine m_copy (pc := 47) c13_25 ha.a6 hp.a6 (by omega) (by omega) (by omega) (by omega) (by omega) (by omega) (by omega) (by decide +kernel) (Nat.le_of_ble_eq_true rfl) d13_47 ?_
  refine x_vret (pc := 50) rfl (fun _ => rfl) d13_50 ?_
  refine ⟨_, rfl, fun b hb => ?_, fun o i h3 h6 h0 h1 => ?_⟩
  · funext j
    rw [cp2_p (by omega), cp2_p (by omega), cp2_p (by omega), up2_p (by omega)]
  · have ho : o = 3 ∨ o = 4 ∨ o = 5 ∨ o = 6 := by omega
    rcases ho with rfl | rfl | rfl | rfl
    · have : i = 0 := by have : lnO 3 = 1 := rfl; omega
      rw [this, cp2_p (by omega), cp2_p (by omega), cp2_p (by omega), up2_s]
    · have : i < 3 := h1
      rw [cp2_p (by omega), cp2_p (by omega), cp2_y h0 (by omega), up2_p (by omega)]
    · have : i < 3 := h1
      rw [cp2_p (by omega), cp2_y h0 (by omega), cp2_p (by omega), up2_p (by omega)]
    · have : i < 3 := h1
      rw [cp2_y h0 (by omega), cp2_p (by omega), cp2_p (by omega), up2_p (by omega)]
theorem ct_copy18 (hl : l.1.stackTraces = false) (hp : LineAt q p) (ha : LineAt q a) (hap : a + 14 < p ∨ p + 14 < a) : CT l 18 [.ref (p + 7), .ref (a + 7)] (mm q I v fr) 0 0 (oE q v fr none (fun K => (∀ b, (b < p + 7 ∨ p + 13 < b) → K b = I b) ∧ ∀ (o : Nat) (i : Int), 7 ≤ o → o ≤ 13 → 0 ≤ i → i < lnO o → K (p + o) i = I (a + o) i)) := by
  have hpb := hp.b
  have hab := ha.b
  refine mkct2 hl (by decide) (Nat.le_of_ble_eq_true rfl) (L := [some (.ref (p + 7)), some (.ref (a + 7))]) rfl ?_
  refine x_aload_n (pc := 0) rfl d18_0 ?_
  refine x_aload_n (pc := 1) rfl d18_1 ?_
  refine m_getI (pc := 2) (z := 0) f18_30 (by decide +kernel) rfl ha.o7 d18_2 ?_
  refine m_putI (pc := 5) (z := 0) f18_30 (by decide +kernel) (by decide +kernel) rfl hp.o7 d18_5 ?_
  refine x_aload_n (pc := 8) rfl d18_8 ?_
  refine m_getR (pc := 9) f18_9 (by decide +kernel) ha.o7 ha.r7_1 d18_9 ?_
  refine x_iconst (pc := 12) d18_12 ?_
  refine x_aload_n (pc := 13) rfl d18_13 ?_
  refine m_getR (pc := 14) f18_9 (by decide +kernel) hp.o7 hp.r7_1 d18_14 ?_
  refine x_iconst (pc := 17) d18_17 ?_
  refine x_bipush (pc := 18) (by decide) d18_18 ?_
  refine m_copy (pc := 20) c18_34 ha.a8 hp.a8 (by omega) (by omega) (by omega) (by omega) (by omega) (by omega) (by omega) (by decide +kernel) (Nat.le_of_ble_eq_true rfl) d18_20 ?_
  refine x_aload_n (pc := 23) rfl d18_23 ?_
  refine m_getR (pc := 24) f18_15 (by decide +kernel) ha.o7 ha.r7_2 d18_24 ?_
  refine x_iconst (pc := 27) d18_27 ?_
  refine x_aload_n (pc := 28) rfl d18_28 ?_
  refine m_getR (pc := 29) f18_15 (by decide +kernel) hp.o7 hp.r7_2 d18_29 ?_
  refine x_iconst (pc := 32) d18_32 ?_
  refine x_bipush (pc := 33) (by decide) d18_33 ?_
  refine m_copy (pc := 35) c18_34 ha.a9 hp.a9 (by omega) (by omega) (by omega) (by omega) (by omega) (by omega) (by omega) (by decide +kernel) (Nat.le_of_ble_eq_true rfl) d18_35 ?_
  refine x_aload_n (pc := 38) rfl d18_38 ?_
  refine m_getR (pc := 39) f18_18 (by decide +kernel) ha.o7 ha.r7_3 d18_39 ?_
  refine x_iconst (pc := 42) d18_42 ?_
  refine x_aload_n (pc := 43) rfl d18_43 ?_
  refine m_getR (pc := 44) f18_18 (by decide +kernel) hp.o7 hp.r7_3 d18_44 ?_
  refine x_iconst (pc := 47) d18_47 ?_
  refine x_bipush (pc := 48) (by decide) d18_48 ?_
  refine m_copy (pc := 50) c18_34 ha.a10 hp.a10 (by omega) (by omega) (by omega) (by omega) (by omega) (by omega) (by omega) (by decide +kernel) (Nat.le_of_ble_eq_true rfl) d18_50 ?_
  refine x_aload_n (pc := 53) rfl d18_53 ?_
  refine m_getR (pc := 54) f18_21 (by decide +kernel) ha.o7 ha.r7_4 d18_54 ?_
  refine x_iconst (pc := 57) d18_57 ?_
  refine x_aload_n (pc := 58) rfl d18_58 ?_
  refine m_getR (pc := 59) f18_21 (by decide +kernel) hp.o7 hp.r7_4 d18_59 ?_
  refine x_iconst (pc := 62) d18_62 ?_
  refine x_bipush (pc := 63) (by decide) d18_63 ?_
  refine m_copy (pc := 65) c18_34 ha.a11 hp.a11 (by omega) (by omega) (by omega) (by omega) (by omega) (by omega) (by omega) (by decide +kernel) (Nat.le_of_ble_eq_true rfl) d18_65 ?_
  refine x_aload_n (pc := 68) rfl d18_68 ?_
  refine m_getR (pc := 69) f18_24 (by decide +kernel) ha.o7 ha.r7_5 d18_69 ?_
  refine x_iconst (pc := 72) d18_72 ?_
  refine x_aload_n (pc := 73) rfl d18_73 ?_
  refine m_getR (pc := 74) f18_24 (by decide +kernel) hp.o7 hp.r7_5 d18_74 ?_
  refine x_iconst (pc := 77) d18_77 ?_
  refine x_sipush (pc := 78) (by decide) d18_78 ?_
  refine m_copy (pc := 81) c18_34 ha.a12 hp.a12 (by omega) (by omega) (by omega) (by omega) (by omega) (by omega) (by omega) (by decide +kernel) (Nat.le_of_ble_eq_true rfl) d18_81 ?_
  refine x_aload_n (pc := 84) rfl d18_84 ?_
  refine m_getR (pc := 85) f18_27 (by decide +kernel) ha.o7 ha.r7_6 d18_85 ?_
  refine x_iconst (pc := 88) d18_88 ?_
  refine x_aload_n (pc := 89) rfl d18_89 ?_
  refine m_getR (pc := 90) f18_27 (by decide +kernel) hp.o7 hp.r7_6 d18_90 ?_
  refine x_iconst (pc := 93) d18_93 ?_
  refine x_sipush (pc := 94) (by decide) d18_94 ?_
  refine m_copy (pc := 97) c18_34 ha.a13 hp.a13 (by omega) (by omega) (by omega) (by omega) (by omega) (by omega) (by omega) (by decide +kernel) (Nat.le_of_ble_eq_true rfl) d18_97 ?_
  refine x_vret (pc := 100) rfl (fun _ => rfl) d18_100 ?_
  refine ⟨_, rfl, fun b hb => ?_, fun o i h3 h6 h0 h1 => ?_⟩
  · funext j
    rw [cp2_p (by omega), cp2_p (by omega), cp2_p (by omega), cp2_p (by omega), cp2_p (by omega), cp2_p (by omega), up2_p (by omega)]
  · have ho : o = 7 ∨ o = 8 ∨ o = 9 ∨ o = 10 ∨ o = 11 ∨ o = 12 ∨ o = 13 := by omega
    rcases ho with rfl | rfl | rfl | rfl | rfl | rfl | rfl
    · have : i = 0 := by have : lnO 7 = 1 := rfl; omega
      rw [this, cp2_p (by omega), cp2_p (by omega), cp2_p (by omega), cp2_p (by omega), cp2_p (by omega), cp2_p (by omega), up2_s]
    · have : i < 48 := h1
      rw [cp2_p (by omega), cp2_p (by omega), cp2_p (by omega), cp2_p (by omega), cp2_p (by omega), cp2_y h0 (by omega), up2_p (by omega)]
    · have : i < 48 := h1
      rw [cp2_p (by omega), cp2_p (by omega), cp2_p (by omega), cp2_p (by omega), cp2_y h0 (by omega), cp2_p (by omega), up2_p (by omega)]
    · have : i < 48 := h1
      rw [cp2_p (by omega), cp2_p (by omega), cp2_p (by omega), cp2_y h0 (by omega), cp2_p (by omega), cp2_p (by omega), up2_p (by omega)]
    · have : i < 48 := h1
      rw [cp2_p (by omega), cp2_p (by omega), cp2_y h0 (by omega), cp2_p (by omega), cp2_p (by omega), cp2_p (by omega), up2_p (by omega)]
    · have : i < 288 := h1
      rw [cp2_p (by omega), cp2_y h0 (by omega), cp2_p (by omega), cp2_p (by omega), cp2_p (by omega), cp2_p (by omega), up2_p (by omega)]
    · have : i < 288 := h1
      rw [cp2_y h0 (by omega), cp2_p (by omega), cp2_p (by omega), cp2_p (by omega), cp2_p (by omega), cp2_p (by omega), up2_p (by omega)]
theorem ct_copy (hl : l.1.stackTraces = false) (hp : LineAt q p) (ha : LineAt q a) (hap : a + 14 < p ∨ p + 14 < a) : CT l 34 [.ref p, .ref a] (mm q I v fr) 0 0 (oE q v fr none (fun K => offP p I K ∧ agr I a K p)) := by
  have hpb := hp.b
  have hab := ha.b
  refine mkct2 hl (by decide) (Nat.le_of_ble_eq_true rfl) (L := [some (.ref p), some (.ref a)]) rfl ?_
  refine x_aload_n (pc := 0) rfl d34_0 ?_
  refine x_aload_n (pc := 1) rfl d34_1 ?_
  refine m_getI (pc := 2) (z := 0) f34_39 (by decide +kernel) rfl ha.o0 d34_2 ?_
  refine m_putI (pc := 5) (z := 0) f34_39 (by decide +kernel) (by decide +kernel) rfl hp.o0 d34_5 ?_
  refine x_aload_n (pc := 8) rfl d34_8 ?_
  refine x_aload_n (pc := 9) rfl d34_9 ?_
  refine m_getW (pc := 10) (z := 1) (w := (I a 1)) f34_43 (by decide +kernel) rfl ha.o0 (by rw [up2_p (by omega)]) d34_10 ?_
  refine m_putI (pc := 13) (z := 1) f34_43 (by decide +kernel) (by decide +kernel) rfl hp.o0 d34_13 ?_
  refine x_aload_n (pc := 16) rfl d34_16 ?_
  refine x_aload_n (pc := 17) rfl d34_17 ?_
  refine m_getW (pc := 18) (z := 2) (w := (I a 2)) f34_46 (by decide +kernel) rfl ha.o0 (by rw [up2_p (by omega), up2_p (by omega)]) d34_18 ?_
  refine m_putI (pc := 21) (z := 2) f34_46 (by decide +kernel) (by decide +kernel) rfl hp.o0 d34_21 ?_
  refine x_aload_n (pc := 24) rfl d34_24 ?_
  refine x_aload_n (pc := 25) rfl d34_25 ?_
  refine m_getW (pc := 26) (z := 3) (w := (I a 3)) f34_49 (by decide +kernel) rfl ha.o0 (by rw [up2_p (by omega), up2_p (by omega), up2_p (by omega)]) d34_26 ?_
  refine m_putI (pc := 29) (z := 3) f34_49 (by decide +kernel) (by decide +kernel) rfl hp.o0 d34_29 ?_
  refine x_aload_n (pc := 32) rfl d34_32 ?_
  refine x_aload_n (pc := 33) rfl d34_33 ?_
  refine m_getW (pc := 34) (z := 4) (w := (I a 4)) f34_52 (by decide +kernel) rfl ha.o0 (by rw [up2_p (by omega), up2_p (by omega), up2_p (by omega), up2_p (by omega)]) d34_34 ?_
  refine m_putI (pc := 37) (z := 4) f34_52 (by decide +kernel) (by decide +kernel) rfl hp.o0 d34_37 ?_
  refine x_aload_n (pc := 40) rfl d34_40 ?_
  refine x_aload_n (pc := 41) rfl d34_41 ?_
  refine m_getW (pc := 42) (z := 5) (w := (I a 5)) f34_55 (by decide +kernel) rfl ha.o0 (by rw [up2_p (by omega), up2_p (by omega), up2_p (by omega), up2_p (by omega), up2_p (by omega)]) d34_42 ?_
  refine m_putI (pc := 45) (z := 5) f34_55 (by decide +kernel) (by decide +kernel) rfl hp.o0 d34_45 ?_
  refine x_aload_n (pc := 48) rfl d34_48 ?_
  refine x_aload_n (pc := 49) rfl d34_49 ?_
  refine m_getW (pc := 50) (z := 6) (w := (I a 6)) f34_58 (by decide +kernel) rfl ha.o0 (by rw [up2_p (by omega), up2_p (by omega), up2_p (by omega), up2_p (by omega), up2_p (by omega), up2_p (by omega)]) d34_50 ?_
  refine m_putI (pc := 53) (z := 6) f34_58 (by decide +kernel) (by decide +kernel) rfl hp.o0 d34_53 ?_
  refine x_aload_n (pc := 56) rfl d34_56 ?_
  refine x_aload_n (pc := 57) rfl d34_57 ?_
  refine m_getW (pc := 58) (z := 7) (w := (I a 7)) f34_61 (by decide +kernel) rfl ha.o0 (by rw [up2_p (by omega), up2_p (by omega), up2_p (by omega), up2_p (by omega), up2_p (by omega), up2_p (by omega), up2_p (by omega)]) d34_58 ?_
  refine m_putI (pc := 61) (z := 7) f34_61 (by decide +kernel) (by decide +kernel) rfl hp.o0 d34_61 ?_
  refine x_aload_n (pc := 64) rfl d34_64 ?_
  refine m_getR (pc := 65) f34_9 (by decide +kernel) ha.o0 ha.r0_8 d34_65 ?_
  refine x_iconst (pc := 68) d34_68 ?_
  refine x_aload_n (pc := 69) rfl d34_69 ?_
  refine m_getR (pc := 70) f34_9 (by decide +kernel) hp.o0 hp.r0_8 d34_70 ?_
  refine x_iconst (pc := 73) d34_73 ?_
  refine x_bipush (pc := 74) (by decide) d34_74 ?_
  refine m_copy (pc := 76) c34_71 ha.a1 hp.a1 (by omega) (by omega) (by omega) (by omega) (by omega) (by omega) (by omega) (by decide +kernel) (Nat.le_of_ble_eq_true rfl) d34_76 ?_
  refine x_aload_n (pc := 79) rfl d34_79 ?_
  refine m_getR (pc := 80) f34_15 (by decide +kernel) ha.o0 ha.r0_9 d34_80 ?_
  refine x_iconst (pc := 83) d34_83 ?_
  refine x_aload_n (pc := 84) rfl d34_84 ?_
  refine m_getR (pc := 85) f34_15 (by decide +kernel) hp.o0 hp.r0_9 d34_85 ?_
  refine x_iconst (pc := 88) d34_88 ?_
  refine x_bipush (pc := 89) (by decide) d34_89 ?_
  refine m_copy (pc := 91) c34_71 ha.a2 hp.a2 (by omega) (by omega) (by omega) (by omega) (by omega) (by omega) (by omega) (by decide +kernel) (Nat.le_of_ble_eq_true rfl) d34_91 ?_
  refine x_aload_n (pc := 94) rfl d34_94 ?_
  refine m_getR (pc := 95) f34_21 (by decide +kernel) hp.o0 hp.r0_10 d34_95 ?_
  refine x_aload_n (pc := 98) rfl d34_98 ?_
  refine m_getR (pc := 99) f34_21 (by decide +kernel) ha.o0 ha.r0_10 d34_99 ?_
  obtain ⟨Y, hY⟩ : ∃ Z : Nat → Int → Int, Z = (cp2 (cp2 (up2 (up2 (up2 (up2 (up2 (up2 (up2 (up2 I p 0 (I a 0)) p 1 (I a 1)) p 2 (I a 2)) p 3 (I a 3)) p 4 (I a 4)) p 5 (I a 5)) p 6 (I a 6)) p 7 (I a 7)) (a + 1) 0 (p + 1) 0 12) (a + 2) 0 (p + 2) 0 12) := ⟨_, rfl⟩
  refine x_mem (J := Y) (pc := 102) hY ?_
  refine x_cVev (pc := 102) c34_77 (ct_copy13 hl hp ha hap) hp.o3 rfl rfl (Nat.le_of_ble_eq_true rfl) (by decide +kernel) (by decide +kernel) d34_102 (fun J1 hJ1 => ?_)
  refine x_aload_n (pc := 105) rfl d34_105 ?_
  refine m_getR (pc := 106) f34_28 (by decide +kernel) hp.o0 hp.r0_11 d34_106 ?_
  refine x_aload_n (pc := 109) rfl d34_109 ?_
  refine m_getR (pc := 110) f34_28 (by decide +kernel) ha.o0 ha.r0_11 d34_110 ?_
  refine x_cVev (pc := 113) c34_81 (ct_copy18 hl hp ha hap) hp.o7 rfl rfl (Nat.le_of_ble_eq_true rfl) (by decide +kernel) (by decide +kernel) d34_113 (fun J2 hJ2 => ?_)
  refine x_aload_n (pc := 116) rfl d34_116 ?_
  refine m_getR (pc := 117) f34_35 (by decide +kernel) hp.o0 hp.r0_12 d34_117 ?_
  refine x_aload_n (pc := 120) rfl d34_120 ?_
  refine m_getR (pc := 121) f34_35 (by decide +kernel) ha.o0 ha.r0_12 d34_121 ?_
  refine x_cVev (pc := 124) c34_84 (ct_copy11 hl hp ha hap) hp.o14 rfl rfl (Nat.le_of_ble_eq_true rfl) (by decide +kernel) (by decide +kernel) d34_124 (fun J3 hJ3 => ?_)
  refine x_vret (pc := 127) rfl (fun _ => rfl) d34_127 ?_
  obtain ⟨b0, b1⟩ := hJ1
  obtain ⟨c0, c1⟩ := hJ2
  obtain ⟨d0, d1⟩ := hJ3
  have y0 : ∀ b, b ≠ p → b ≠ p + 1 → b ≠ p + 2 → Y b = I b := fun b h0 h1 h2 => by
    rw [hY]; funext j
    rw [cp2_p h2, cp2_p h1, up2_p h0, up2_p h0, up2_p h0, up2_p h0, up2_p h0, up2_p h0, up2_p h0, up2_p h0]
  have yp : ∀ i : Int, 0 ≤ i → i < 8 → Y p i = I a i := fun i h0 h1 => by
    rw [hY, cp2_p (by omega), cp2_p (by omega)]
    rcases z8 h0 h1 with rfl | rfl | rfl | rfl | rfl | rfl | rfl | rfl <;> simp [up2]
  have y1 : ∀ i : Int, 0 ≤ i → i < 12 → Y (p + 1) i = I (a + 1) i := fun i h0 h1 => by
    have h0' : a + 1 ≠ p := by omega
    rw [hY, cp2_p (by omega), cp2_y h0 h1, up2_p h0', up2_p h0', up2_p h0', up2_p h0', up2_p h0', up2_p h0', up2_p h0', up2_p h0']
  have y2 : ∀ i : Int, 0 ≤ i → i < 12 → Y (p + 2) i = I (a + 2) i := fun i h0 h1 => by
    have h0' : a + 2 ≠ p := by omega
    rw [hY, cp2_y h0 h1, cp2_p (by omega), up2_p h0', up2_p h0', up2_p h0', up2_p h0', up2_p h0', up2_p h0', up2_p h0', up2_p h0']
  refine ⟨J3, rfl, fun b hb => ?_, fun o i ho h0 h1 => ?_⟩
  · rw [d0 b (by omega), c0 b (by omega), b0 b (by omega), y0 b (by omega) (by omega) (by omega)]
  · by_cases e14 : o = 14
    · subst e14
      rw [d1 i h0 h1, c0 _ (by omega), b0 _ (by omega), y0 _ (by omega) (by omega) (by omega)]
    · by_cases e7 : 7 ≤ o
      · rw [d0 _ (by omega), c1 o i e7 (by omega) h0 h1, b0 _ (by omega), y0 _ (by omega) (by omega) (by omega)]
      · by_cases e3 : 3 ≤ o
        · rw [d0 _ (by omega), c0 _ (by omega), b1 o i e3 (by omega) h0 h1, y0 _ (by omega) (by omega) (by omega)]
        · rw [d0 _ (by omega), c0 _ (by omega), b0 _ (by omega)]
          have : o = 0 ∨ o = 1 ∨ o = 2 := by omega
          rcases this with rfl | rfl | rfl
          · exact yp i h0 h1
          · exact y1 i h0 h1
          · exact y2 i h0 h1
/-- .. by what a view says -/
theorem ct_copyV (hl : l.1.stackTraces = false) (hp : LineAt q p) (ha : LineAt q a) (hap : a + 14 < p ∨ p + 14 < a) (h : CINV I a c) : CT l 34 [.ref p, .ref a] (mm q I v fr) 0 0 (oE q v fr none (fun K => offP p I K ∧ Vc K p = Vc I a ∧ CX K p)) := by
  have hs := h.sc
  exact ct_mono (ct_copy hl hp ha hap) (by
    rintro o ⟨K, k0, k1, k2⟩
    exact ⟨K, k0, k1, vc_agr k2 (by omega) (by omega) (by omega), CX_agr k2 (by omega) h.2⟩)
end Copy
