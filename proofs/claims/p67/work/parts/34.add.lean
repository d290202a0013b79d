/-! ===== dogs leave; frames and messages come ===== -/
def rmF (g : Int → Int) (d i : Int) : Int → Int := fun x => if d ≤ x ∧ x < i then g (x + 1) else g x
theorem up2_q {I : Nat → Int → Int} {k : Nat} {j z b : Int} : up2 I k j z k b = if b = j then z else I k b := congrFun (up2_at I k j z) b
theorem rmF_up {g : Int → Int} {d i : Int} (h : d ≤ i) : (fun b => if b = i then rmF g d i (i + 1) else rmF g d i b) = rmF g d (i + 1) := by
  funext b
  unfold rmF
  by_cases e : b = i
  · rw [if_pos e, if_neg (by omega), if_pos (by omega), e]
  · rw [if_neg e]
    by_cases e2 : d ≤ b ∧ b < i
    · rw [if_pos e2, if_pos (by omega)]
    · rw [if_neg e2, if_neg (by omega)]
theorem commf {A : AV} {B : Int → Int} {m n g k : Int} : fAddA (msgW A m n g) B k = msgW (fAddA A B k) m n g := by
  funext r i
  by_cases h0 : r = 0
  · subst h0
    by_cases h5 : i = 5
    · subst h5; rw [fAdd_0 (by decide), (msgW_e (i := 0)).2.2, (msgW_e (i := 0)).2.2]
    · rw [msgW_0 h5]
      by_cases h6 : i = 6
      · subst h6
        show msgW A m n g 0 6 + 1 = A 0 6 + 1
        rw [msgW_0 (by decide)]
      · rw [fAdd_0 h6, fAdd_0 h6, msgW_0 h5]
  by_cases h4 : r = 4
  · subst h4; rw [fAdd_k (by decide), msgW_e.1, msgW_e.1, fAdd_k (by decide)]
  by_cases h5 : r = 5
  · subst h5; rw [fAdd_k (by decide), msgW_e.2.1, msgW_e.2.1, fAdd_k (by decide)]
  rw [msgW_k ⟨h0, h4, h5⟩]
  have e6 : msgW A m n g 0 6 = A 0 6 := msgW_0 (by decide)
  by_cases h6 : r = 6
  · subst h6; rw [fAdd_6, fAdd_6, e6, msgW_k (by decide)]
  by_cases h7 : r = 7 ∨ r = 8 ∨ r = 9
  · rw [fAdd_z h7, fAdd_z h7, e6, msgW_k ⟨h0, h4, h5⟩]
  by_cases h10 : r = 10
  · subst h10; rw [fAdd_10, fAdd_10, e6, msgW_k (by decide)]
  rw [fAdd_k ⟨h0, h6, by omega, by omega, by omega, h10⟩, fAdd_k ⟨h0, h6, by omega, by omega, by omega, h10⟩, msgW_k ⟨h0, h4, h5⟩]
theorem commW {A : AV} {B : Int → Int} {m n g k : Int} : ∀ j : Nat, frsA (msgW A m n g) B k j = msgW (frsA A B k j) m n g
  | 0 => rfl
  | j + 1 => by
    show fAddA (frsA (msgW A m n g) B k j) _ _ = msgW (fAddA (frsA A B k j) _ _) m n g
    rw [commW j, commf]
theorem crcF_pre {B C : Int → Int} {n : Nat} (h : ∀ i : Int, 0 ≤ i → i < n → B i = C i) : crcF B n = crcF C n := crcF_congr n h
section Add
variable {l : LX} {q p s : Nat} {I : Nat → Int → Int} {v : Int} {fr : Bool} {c : Int}
theorem lp_rm (hl : l.1.stackTraces = false) (hp : LineAt q p) {d n : Int} (hd : 0 ≤ d) (hn : n = I (p + 3) 0) (hn3 : n ≤ 3) (hdn : d < n) : ∀ (m : Nat) (i : Int) (J : Nat → Int → Int), i + m = n - 1 → d ≤ i → (∀ a, a ≠ p + 4 → a ≠ p + 5 → a ≠ p + 6 → J a = I a) → J (p + 4) = rmF (I (p + 4)) d i → J (p + 5) = rmF (I (p + 5)) d i → J (p + 6) = rmF (I (p + 6)) d i →
    Ex l 15 0 0 16 [some (.ref (p + 3)), none, some (.int (iI i))] [] (mm q J v fr) (oE q v fr (some (.int (iI 1))) (fun K => (∀ a, a ≠ p + 3 → a ≠ p + 4 → a ≠ p + 5 → a ≠ p + 6 → K a = I a) ∧ K (p + 3) = (fun b => if b = 0 then n - 1 else I (p + 3) b) ∧ K (p + 4) = rmF (I (p + 4)) d (n - 1) ∧ K (p + 5) = rmF (I (p + 5)) d (n - 1) ∧ K (p + 6) = rmF (I (p + 6)) d (n - 1))) := by
  have hpb := hp.b
  intro m
  induction m with
  | zero =>
    intro i J h1 h2 j0 j4 j5 j6
    have j3 : J (p + 3) = I (p + 3) := j0 _ (by omega) (by omega) (by omega)
    have j3n : J (p + 3) 0 = n := by rw [j3, hn]
    refine x_iload_n (pc := 16) rfl d15_16 ?_
    refine x_iconst (pc := 17) d15_17 ?_
    refine x_iadd (pc := 18) d15_18 ?_
    refine x_aload_n (pc := 19) rfl d15_19 ?_
    refine m_getI (pc := 20) (z := 0) f15_21 (by decide +kernel) rfl hp.o3 d15_20 ?_
    refine x_icmp_ge (pc := 23) (tgt := 81) ⟨by omega, by omega⟩ ⟨by omega, by omega⟩ d15_23 (by decide) (fun g23 => ?_) (fun g23 => ?_)
    · refine x_aload_n (pc := 81) rfl d15_81 ?_
      refine x_dup (pc := 82) rfl d15_82 ?_
      refine m_getI (pc := 83) (z := 0) f15_21 (by decide +kernel) rfl hp.o3 d15_83 ?_
      refine x_iconst (pc := 86) d15_86 ?_
      refine x_isub (pc := 87) d15_87 ?_
      refine m_putI (pc := 88) (z := 0) f15_21 (by decide +kernel) (by decide +kernel) rfl hp.o3 d15_88 ?_
      refine x_iconst (pc := 91) d15_91 ?_
      refine x_zret (pc := 92) rfl (Or.inr rfl) (fun _ => rfl) d15_92 ?_
      refine ⟨_, rfl, fun a a3 a4 a5 a6 => ?_, ?_, ?_, ?_, ?_⟩
      · rw [up2_off' _ _ _ a3]; exact j0 a a4 a5 a6
      · rw [up2_at, j3, hn]
      · rw [up2_off' _ _ _ (by omega), j4, show i = n - 1 from by omega]
      · rw [up2_off' _ _ _ (by omega), j5, show i = n - 1 from by omega]
      · rw [up2_off' _ _ _ (by omega), j6, show i = n - 1 from by omega]
    · exfalso; omega
  | succ m ih =>
    intro i J h1 h2 j0 j4 j5 j6
    have j3n : J (p + 3) 0 = n := by rw [j0 _ (by omega) (by omega) (by omega), hn]
    refine x_iload_n (pc := 16) rfl d15_16 ?_
    refine x_iconst (pc := 17) d15_17 ?_
    refine x_iadd (pc := 18) d15_18 ?_
    refine x_aload_n (pc := 19) rfl d15_19 ?_
    refine m_getI (pc := 20) (z := 0) f15_21 (by decide +kernel) rfl hp.o3 d15_20 ?_
    refine x_icmp_ge (pc := 23) (tgt := 81) ⟨by omega, by omega⟩ ⟨by omega, by omega⟩ d15_23 (by decide) (fun g23 => ?_) (fun g23 => ?_)
    · refine x_mask [true, true, false] ?_
      dsimp only [mask]
      exfalso; omega
    · refine x_iload_n (pc := 26) rfl d15_26 ?_
      refine x_iconst (pc := 27) d15_27 ?_
      refine x_iadd (pc := 28) d15_28 ?_
      refine x_iconst (pc := 29) d15_29 ?_
      refine x_icmp_ge (pc := 30) (tgt := 81) ⟨by omega, by omega⟩ ⟨by omega, by omega⟩ d15_30 (by decide) (fun g30 => ?_) (fun g30 => ?_)
      · refine x_mask [true, true, false] ?_
        dsimp only [mask]
        exfalso; omega
      · refine x_aload_n (pc := 33) rfl d15_33 ?_
        refine m_getR (pc := 34) f15_9 (by decide +kernel) hp.o3 hp.r3_1 d15_34 ?_
        refine x_iload_n (pc := 37) rfl d15_37 ?_
        refine x_aload_n (pc := 38) rfl d15_38 ?_
        refine m_getR (pc := 39) f15_9 (by decide +kernel) hp.o3 hp.r3_1 d15_39 ?_
        refine x_iload_n (pc := 42) rfl d15_42 ?_
        refine x_iconst (pc := 43) d15_43 ?_
        refine x_iadd (pc := 44) d15_44 ?_
        refine m_iald (pc := 45) hp.a4 (by omega) (by omega) (by omega) d15_45 ?_
        refine m_iast (pc := 46) hp.a4 (by omega) (by omega) (by omega) d15_46 ?_
        refine x_aload_n (pc := 47) rfl d15_47 ?_
        refine m_getR (pc := 48) f15_15 (by decide +kernel) hp.o3 hp.r3_2 d15_48 ?_
        refine x_iload_n (pc := 51) rfl d15_51 ?_
        refine x_aload_n (pc := 52) rfl d15_52 ?_
        refine m_getR (pc := 53) f15_15 (by decide +kernel) hp.o3 hp.r3_2 d15_53 ?_
        refine x_iload_n (pc := 56) rfl d15_56 ?_
        refine x_iconst (pc := 57) d15_57 ?_
        refine x_iadd (pc := 58) d15_58 ?_
        refine m_ialdW (pc := 59) (w := (J (p + 5) (i + 1))) hp.a5 (by omega) (by omega) (by omega) (by rw [up2_p (by omega)]) d15_59 ?_
        refine m_iast (pc := 60) hp.a5 (by omega) (by omega) (by omega) d15_60 ?_
        refine x_aload_n (pc := 61) rfl d15_61 ?_
        refine m_getR (pc := 62) f15_18 (by decide +kernel) hp.o3 hp.r3_3 d15_62 ?_
        refine x_iload_n (pc := 65) rfl d15_65 ?_
        refine x_aload_n (pc := 66) rfl d15_66 ?_
        refine m_getR (pc := 67) f15_18 (by decide +kernel) hp.o3 hp.r3_3 d15_67 ?_
        refine x_iload_n (pc := 70) rfl d15_70 ?_
        refine x_iconst (pc := 71) d15_71 ?_
        refine x_iadd (pc := 72) d15_72 ?_
        refine m_ialdW (pc := 73) (w := (J (p + 6) (i + 1))) hp.a6 (by omega) (by omega) (by omega) (by rw [up2_p (by omega), up2_p (by omega)]) d15_73 ?_
        refine m_iast (pc := 74) hp.a6 (by omega) (by omega) (by omega) d15_74 ?_
        refine x_iinc (pc := 75) rfl (by decide +kernel) rfl d15_75 ?_
        dsimp only [List.set]
        refine x_goto (pc := 78) (tgt := 16) d15_78 (by decide) ?_
        refine ih (i + 1) _ (by omega) (by omega) (fun a a4 a5 a6 => ?_) ?_ ?_ ?_
        · rw [up2_off' _ _ _ a6, up2_off' _ _ _ a5, up2_off' _ _ _ a4]; exact j0 a a4 a5 a6
        · rw [up2_off' _ _ _ (by omega), up2_off' _ _ _ (by omega), up2_at, j4]; exact rmF_up h2
        · rw [up2_off' _ _ _ (by omega), up2_at, up2_off' _ _ _ (by omega), j5]; exact rmF_up h2
        · rw [up2_at, up2_off' _ _ _ (by omega), up2_off' _ _ _ (by omega), j6]; exact rmF_up h2
theorem ct_rm (hl : l.1.stackTraces = false) (hp : LineAt q p) (h : CINV I p c) {d : Int} (h0 : 0 ≤ d) (h1 : d < I (p + 3) 0) : CT l 15 [.ref (p + 3), .int (iI d)] (mm q I v fr) 0 0 (oE q v fr (some (.int (iI 1))) (fun K => (∀ a, a ≠ p + 3 → a ≠ p + 4 → a ≠ p + 5 → a ≠ p + 6 → K a = I a) ∧ K (p + 3) = (fun b => if b = 0 then I (p + 3) 0 - 1 else I (p + 3) b) ∧ K (p + 4) = rmF (I (p + 4)) d (I (p + 3) 0 - 1) ∧ K (p + 5) = rmF (I (p + 5)) d (I (p + 3) 0 - 1) ∧ K (p + 6) = rmF (I (p + 6)) d (I (p + 3) 0 - 1))) := by
  have hpb := hp.b
  have hs := h.sc
  have e0 : ∀ g, rmF g d d = g := fun g => by funext x; exact if_neg (by omega)
  refine mkct2 hl (by decide) (Nat.le_of_ble_eq_true rfl) (L := [some (.ref (p + 3)), some (.int (iI d)), none]) rfl ?_
  refine x_iload_n (pc := 0) rfl d15_0 ?_
  refine x_if_lt (pc := 1) (tgt := 12) ⟨by omega, by omega⟩ d15_1 (by decide) (fun g1 => ?_) (fun g1 => ?_)
  · refine x_iconst (pc := 12) d15_12 ?_
    refine x_zret (pc := 13) rfl (Or.inl rfl) (fun _ => rfl) d15_13 ?_
    exfalso; omega
  · refine x_iload_n (pc := 4) rfl d15_4 ?_
    refine x_aload_n (pc := 5) rfl d15_5 ?_
    refine m_getI (pc := 6) (z := 0) f15_21 (by decide +kernel) rfl hp.o3 d15_6 ?_
    refine x_icmp_lt (pc := 9) (tgt := 14) ⟨by omega, by omega⟩ ⟨by omega, by omega⟩ d15_9 (by decide) (fun g9 => ?_) (fun g9 => ?_)
    · refine x_iload_n (pc := 14) rfl d15_14 ?_
      refine x_istore_n (pc := 15) (by decide +kernel) rfl d15_15 ?_
      dsimp only [List.set]
      refine x_mask [true, false, true] ?_
      dsimp only [mask]
      exact lp_rm hl hp h0 rfl (by omega) h1 (I (p + 3) 0 - 1 - d).toNat d I (by omega) (by omega) (fun _ _ _ _ => rfl) (e0 _).symm (e0 _).symm (e0 _).symm
    · refine x_iconst (pc := 12) d15_12 ?_
      refine x_zret (pc := 13) rfl (Or.inl rfl) (fun _ => rfl) d15_13 ?_
      exfalso; omega
theorem dt_rmNo (hl : l.1.stackTraces = false) (hp : LineAt q p) (h : CINV I p c) {d : Int} (hd : InR d) (h1 : d < 0 ∨ I (p + 3) 0 ≤ d) : DT l 15 [.ref (p + 3), .int (iI d)] (mm q I v fr) 0 0 (.inl (some (.int (iI 0))), mm q I v fr) := by
  have hpb := hp.b
  have hs := h.sc
  obtain ⟨hd1, hd2⟩ := hd
  refine mkdt hl (by decide) (Nat.le_of_ble_eq_true rfl) (L := [some (.ref (p + 3)), some (.int (iI d)), none]) rfl ?_
  refine x_iload_n (pc := 0) rfl d15_0 ?_
  refine x_if_lt (pc := 1) (tgt := 12) ⟨by omega, by omega⟩ d15_1 (by decide) (fun g1 => ?_) (fun g1 => ?_)
  · refine x_iconst (pc := 12) d15_12 ?_
    refine x_zret (pc := 13) rfl (Or.inl rfl) (fun _ => rfl) d15_13 ?_
    rfl
  · refine x_iload_n (pc := 4) rfl d15_4 ?_
    refine x_aload_n (pc := 5) rfl d15_5 ?_
    refine m_getI (pc := 6) (z := 0) f15_21 (by decide +kernel) rfl hp.o3 d15_6 ?_
    refine x_icmp_lt (pc := 9) (tgt := 14) ⟨by omega, by omega⟩ ⟨by omega, by omega⟩ d15_9 (by decide) (fun g9 => ?_) (fun g9 => ?_)
    · exfalso; omega
    · refine x_iconst (pc := 12) d15_12 ?_
      refine x_zret (pc := 13) rfl (Or.inl rfl) (fun _ => rfl) d15_13 ?_
      rfl
theorem ent_one {N z i : Int} {g : Int → Int} (h0 : 0 ≤ N) : ent (N + 1) (fun i => if i = N then z else g i) i = if i = N then z else ent N g i := by
  show (if 0 ≤ i ∧ i < N + 1 then (if i = N then z else g i) else 0) = if i = N then z else (if 0 ≤ i ∧ i < N then g i else 0)
  by_cases e : i = N
  · rw [if_pos e, if_pos e, if_pos (by omega)]
  · rw [if_neg e, if_neg e]
    by_cases e2 : 0 ≤ i ∧ i < N
    · rw [if_pos e2, if_pos (by omega)]
    · rw [if_neg e2, if_neg (by omega)]
theorem scal_at {K : Nat → Int → Int} {o n0 : Nat} (hn : n0 < 18) (ho : o = sO n0) (hu : ∀ n : Fin 18, sO n = o → n.val = n0) (ko : ∀ a, a ≠ p + o → (∃ m : Fin 18, a = p + sO m) → K a = I a) (i : Int) (hi : i ≠ n0) : scalC K p i = scalC I p i := by
  unfold scalC
  by_cases h : 0 ≤ i ∧ i < 18
  · rw [if_pos h, if_pos h]
    rw [ko (p + sO i.toNat) (fun z => by
      have := hu ⟨i.toNat, by omega⟩ (by show sO i.toNat = o; omega)
      dsimp only at this
      omega) ⟨⟨i.toNat, by omega⟩, rfl⟩]
  · rw [if_neg h, if_neg h]
theorem vc_fadd {K : Nat → Int → Int} {N n : Int} {B : Int → Int} (hN : I (p + 7) 0 = N) (h0 : 0 ≤ N) (hn1 : 1 ≤ n) (hn2 : n ≤ 4) (k7 : K (p + 7) 0 = N + 1) (k8 : K (p + 8) = fun b => if b = N then n + 2 else I (p + 8) b) (k9 : K (p + 9) = fun b => if b = N then 0 else I (p + 9) b) (k10 : K (p + 10) = fun b => if b = N then 0 else I (p + 10) b) (k11 : K (p + 11) = fun b => if b = N then 0 else I (p + 11) b)
    (k12 : ∀ i, K (p + 12) i = if 6 * N ≤ i ∧ i < 6 * N + (n + 2) then frB N n B (i - 6 * N) else I (p + 12) i) (ko : ∀ a, (a < p + 7 ∨ p + 13 ≤ a) → K a = I a) : Vc K p = fAddA (Vc I p) B n := by
  have e6 : Vc I p 0 6 = N := by rw [vr6]; exact hN
  funext k i
  by_cases hk0 : k = 0
  · subst hk0
    by_cases h6 : i = 6
    · subst h6; show Vc K p 0 6 = Vc I p 0 6 + 1; rw [vr6, k7, e6]
    · rw [fAdd_0 h6]
      exact scal_at (o := 7) (n0 := 6) (by decide) rfl (by decide +kernel) (fun a ha ⟨m, hm⟩ => ko a (by have := sO_out m; have := sO_le m; omega)) i h6
  by_cases hk6 : k = 6
  · subst hk6; rw [fAdd_6, e6, vc6, vc6, k7, hN, k8]; exact ent_one h0
  by_cases hk7 : k = 7
  · subst hk7; rw [fAdd_z (by decide), e6, vc7, vc7, k7, hN, k9]; exact ent_one h0
  by_cases hk8 : k = 8
  · subst hk8; rw [fAdd_z (by decide), e6, vc8, vc8, k7, hN, k10]; exact ent_one h0
  by_cases hk9 : k = 9
  · subst hk9
    rw [fAdd_z (by decide), e6, vc9, vc9, k7, hN, k11]
    rw [← ent_one (g := fun f => flag (I (p + 11) f)) h0]
    congr 1
    funext b
    by_cases e : b = N
    · rw [if_pos e]; show flag (if b = N then 0 else I (p + 11) b) = 1 * 0; rw [if_pos e]; rfl
    · rw [if_neg e]; show flag (if b = N then 0 else I (p + 11) b) = _; rw [if_neg e]
  by_cases hk10 : k = 10
  · subst hk10
    rw [fAdd_10, e6, vc10, vc10, k7, hN, k8]
    by_cases e : i / 6 = N
    · by_cases e2 : i % 6 < n + 2
      · rw [if_pos (by omega), entB_pos (by omega) (by omega) (by rw [if_pos e]; exact e2), k12, if_pos (by omega)]
      · rw [if_neg (by omega), entB_neg (fun z => e2 (by have h9 := z.2.2; rw [if_pos e] at h9; exact h9)), entB_neg (by omega)]
    · rw [if_neg (by omega)]
      by_cases e3 : 0 ≤ i ∧ i / 6 < N ∧ i % 6 < I (p + 8) (i / 6)
      · rw [entB_pos e3.1 (by omega) (by rw [if_neg e]; exact e3.2.2), entB_pos e3.1 e3.2.1 e3.2.2, k12, if_neg (by omega)]
      · rw [entB_neg (fun z => e3 ⟨z.1, by omega, by have h9 := z.2.2; rw [if_neg e] at h9; exact h9⟩), entB_neg e3]
  by_cases hk11 : k = 11
  · subst hk11
    rw [fAdd_k (by decide), vc11, vc11, k7, hN, k8, k11, ko (p + 13) (by omega)]
    by_cases e : i / 6 = N
    · rw [entB_neg (fun z => by
        have h9 := z.2.2
        dsimp only at h9
        rw [if_pos e, if_pos e, show flag 0 = 0 from rfl] at h9
        omega), entB_neg (by omega)]
    · by_cases e3 : 0 ≤ i ∧ i / 6 < N ∧ i % 6 < flag (I (p + 11) (i / 6)) * I (p + 8) (i / 6)
      · rw [entB_pos e3.1 (by omega) (by dsimp only; rw [if_neg e, if_neg e]; exact e3.2.2), entB_pos e3.1 e3.2.1 e3.2.2]
      · rw [entB_neg (fun z => e3 ⟨z.1, by omega, by have h9 := z.2.2; dsimp only at h9; rw [if_neg e, if_neg e] at h9; exact h9⟩), entB_neg e3]
  rw [fAdd_k ⟨hk0, hk6, hk7, hk8, hk9, hk10⟩]
  unfold Vc
  rw [ko p (by omega), ko (p + 1) (by omega), ko (p + 2) (by omega), ko (p + 3) (by omega), ko (p + 4) (by omega), ko (p + 5) (by omega), ko (p + 6) (by omega)]
  match k, hk0, hk6, hk7, hk8, hk9, hk10, hk11 with
  | 0, h, _, _, _, _, _, _ => exact absurd rfl h
  | 1, _, _, _, _, _, _, _ | 2, _, _, _, _, _, _, _ | 3, _, _, _, _, _, _, _ | 4, _, _, _, _, _, _, _ | 5, _, _, _, _, _, _, _ => rfl
  | 6, _, h, _, _, _, _, _ => exact absurd rfl h
  | 7, _, _, h, _, _, _, _ => exact absurd rfl h
  | 8, _, _, _, h, _, _, _ => exact absurd rfl h
  | 9, _, _, _, _, h, _, _ => exact absurd rfl h
  | 10, _, _, _, _, _, h, _ => exact absurd rfl h
  | 11, _, _, _, _, _, _, h => exact absurd rfl h
  | k + 12, _, _, _, _, _, _, _ => rfl
/-- Frames.add -/
theorem ct_fadd (hl : l.1.stackTraces = false) (hp : LineAt q p) {ns : Nat} (hsr : s < q ∧ K0 s = 10 * ns) (hns : ns ≤ 1000) (hb : BX I p) {fm n : Int} {B : Int → Int} (hf0 : 0 ≤ I (p + 7) 0) (hf1 : I (p + 7) 0 < 48) (hn1 : 1 ≤ n) (hn2 : n ≤ 4) (hm0 : 0 ≤ fm) (hm1 : fm + n ≤ ns) (hB : ∀ z k : Int, 0 ≤ k → k < n → up2 I (p + 12) (I (p + 7) 0 * 6) z s (fm + k) = B k) (hB2 : ∀ k : Int, 0 ≤ k → k < n → 0 ≤ B k ∧ B k ≤ 255) :
    CT l 19 [.ref (p + 7), .ref s, .int (iI fm), .int (iI n)] (mm q I v fr) 0 0 (oE q v fr none (fun K => offP p I K ∧ Vc K p = fAddA (Vc I p) B n ∧ (CX I p → CX K p) ∧ (∀ a, a < p + 7 ∨ p + 13 ≤ a → K a = I a) ∧ K (p + 7) 0 = I (p + 7) 0 + 1 ∧ ∀ f : Int, f < I (p + 7) 0 → K (p + 8) f = I (p + 8) f ∧ ∀ i : Int, i < 6 * I (p + 7) 0 → K (p + 12) i = I (p + 12) i)) := by
  have hpb := hp.b
  refine mkct2 hl (by decide) (Nat.le_of_ble_eq_true rfl) (L := [some (.ref (p + 7)), some (.ref s), some (.int (iI fm)), some (.int (iI n)), none]) rfl ?_
  refine x_aload_n (pc := 0) rfl d19_0 ?_
  refine m_getI (pc := 1) (z := 0) f19_30 (by decide +kernel) rfl hp.o7 d19_1 ?_
  refine x_if_lt (pc := 4) (tgt := 38) ⟨by omega, by omega⟩ d19_4 (by decide) (fun g4 => ?_) (fun g4 => ?_)
  · refine x_vret (pc := 38) rfl (fun _ => rfl) d19_38 ?_
    exfalso; omega
  · refine x_aload_n (pc := 7) rfl d19_7 ?_
    refine m_getI (pc := 8) (z := 0) f19_30 (by decide +kernel) rfl hp.o7 d19_8 ?_
    refine x_bipush (pc := 11) (by decide) d19_11 ?_
    refine x_icmp_ge (pc := 13) (tgt := 38) ⟨by omega, by omega⟩ ⟨by omega, by omega⟩ d19_13 (by decide) (fun g13 => ?_) (fun g13 => ?_)
    · refine x_vret (pc := 38) rfl (fun _ => rfl) d19_38 ?_
      exfalso; omega
    · refine x_iload_n (pc := 16) rfl d19_16 ?_
      refine x_iconst (pc := 17) d19_17 ?_
      refine x_icmp_lt (pc := 18) (tgt := 38) ⟨by omega, by omega⟩ ⟨by omega, by omega⟩ d19_18 (by decide) (fun g18 => ?_) (fun g18 => ?_)
      · refine x_vret (pc := 38) rfl (fun _ => rfl) d19_38 ?_
        exfalso; omega
      · refine x_iload_n (pc := 21) rfl d19_21 ?_
        refine x_iconst (pc := 22) d19_22 ?_
        refine x_icmp_gt (pc := 23) (tgt := 38) ⟨by omega, by omega⟩ ⟨by omega, by omega⟩ d19_23 (by decide) (fun g23 => ?_) (fun g23 => ?_)
        · refine x_vret (pc := 38) rfl (fun _ => rfl) d19_38 ?_
          exfalso; omega
        · refine x_iload_n (pc := 26) rfl d19_26 ?_
          refine x_if_lt (pc := 27) (tgt := 38) ⟨by omega, by omega⟩ d19_27 (by decide) (fun g27 => ?_) (fun g27 => ?_)
          · refine x_vret (pc := 38) rfl (fun _ => rfl) d19_38 ?_
            exfalso; omega
          · refine x_iload_n (pc := 30) rfl d19_30 ?_
            refine x_aload_n (pc := 31) rfl d19_31 ?_
            refine m_alen (pc := 32) (z := (ns : Int)) hsr rfl d19_32 ?_
            refine x_iload_n (pc := 33) rfl d19_33 ?_
            refine x_isub (pc := 34) d19_34 ?_
            refine x_icmp_le (pc := 35) (tgt := 39) ⟨by omega, by omega⟩ ⟨by omega, by omega⟩ d19_35 (by decide) (fun g35 => ?_) (fun g35 => ?_)
            · refine x_aload_n (pc := 39) rfl d19_39 ?_
              refine m_getI (pc := 40) (z := 0) f19_30 (by decide +kernel) rfl hp.o7 d19_40 ?_
              refine x_bipush (pc := 43) (by decide) d19_43 ?_
              refine x_imul (pc := 45) d19_45 ?_
              refine x_istore (pc := 46) (by decide +kernel) rfl d19_46 ?_
              dsimp only [List.set]
              refine x_aload_n (pc := 48) rfl d19_48 ?_
              refine m_getR (pc := 49) f19_24 (by decide +kernel) hp.o7 hp.r7_5 d19_49 ?_
              refine x_iload (pc := 52) rfl d19_52 ?_
              refine x_aload_n (pc := 54) rfl d19_54 ?_
              refine m_getI (pc := 55) (z := 0) f19_30 (by decide +kernel) rfl hp.o7 d19_55 ?_
              refine x_bipush (pc := 58) (by decide) d19_58 ?_
              refine x_irem (pc := 60) (by omega) (by omega) (by omega) (by omega) d19_60 ?_
              refine x_bipush (pc := 61) (by decide) d19_61 ?_
              refine x_imul (pc := 63) d19_63 ?_
              refine x_iload_n (pc := 64) rfl d19_64 ?_
              refine x_iadd (pc := 65) d19_65 ?_
              refine m_iast (pc := 66) hp.a12 (by omega) (by omega) (by omega) d19_66 ?_
              refine x_aload_n (pc := 67) rfl d19_67 ?_
              refine x_iload_n (pc := 68) rfl d19_68 ?_
              refine x_aload_n (pc := 69) rfl d19_69 ?_
              refine m_getR (pc := 70) f19_24 (by decide +kernel) hp.o7 hp.r7_5 d19_70 ?_
              refine x_iload (pc := 73) rfl d19_73 ?_
              refine x_iconst (pc := 75) d19_75 ?_
              refine x_iadd (pc := 76) d19_76 ?_
              refine x_iload_n (pc := 77) rfl d19_77 ?_
              refine m_copy (pc := 78) c19_34 hsr hp.a12 (by omega) (by omega) (by omega) (by omega) (by omega) (by omega) (by omega) (by decide +kernel) (Nat.le_of_ble_eq_true rfl) d19_78 ?_
              refine x_aload_n (pc := 81) rfl d19_81 ?_
              refine m_getR (pc := 82) f19_24 (by decide +kernel) hp.o7 hp.r7_5 d19_82 ?_
              refine x_iload (pc := 85) rfl d19_85 ?_
              refine x_iconst (pc := 87) d19_87 ?_
              refine x_iadd (pc := 88) d19_88 ?_
              refine x_iload_n (pc := 89) rfl d19_89 ?_
              refine x_iadd (pc := 90) d19_90 ?_
              refine x_aload_n (pc := 91) rfl d19_91 ?_
              refine m_getR (pc := 92) f19_24 (by decide +kernel) hp.o7 hp.r7_5 d19_92 ?_
              refine x_iload (pc := 95) rfl d19_95 ?_
              refine x_iload (pc := 97) rfl d19_97 ?_
              refine x_iconst (pc := 99) d19_99 ?_
              refine x_iadd (pc := 100) d19_100 ?_
              refine x_iload_n (pc := 101) rfl d19_101 ?_
              refine x_iadd (pc := 102) d19_102 ?_
              obtain ⟨X, hX⟩ : ∃ Z : Nat → Int → Int, Z = (cp2 (up2 I (p + 12) ((I (p + 7) 0) * 6) ((((I (p + 7) 0) % 16) * 16) + n)) s fm (p + 12) (((I (p + 7) 0) * 6) + 1) n) := ⟨_, rfl⟩
              refine x_mem (J := X) (pc := 103) hX ?_
              have xo : ∀ a, a ≠ p + 12 → X a = I a := fun a ha => by rw [hX]; funext b; rw [cp2_p ha, up2_p ha]
              have x7 : X (p + 7) 0 = I (p + 7) 0 := by rw [xo _ (by omega)]
              have x12 : ∀ i, X (p + 12) i = if i = I (p + 7) 0 * 6 then I (p + 7) 0 % 16 * 16 + n else if I (p + 7) 0 * 6 + 1 ≤ i ∧ i < I (p + 7) 0 * 6 + 1 + n then B (i - (I (p + 7) 0 * 6 + 1)) else I (p + 12) i := fun i => by
                rw [hX]
                unfold cp2
                by_cases e : i = I (p + 7) 0 * 6
                · rw [if_neg (by omega), if_pos e, e, up2_s]
                · rw [if_neg e]
                  by_cases e2 : I (p + 7) 0 * 6 + 1 ≤ i ∧ i < I (p + 7) 0 * 6 + 1 + n
                  · rw [if_pos ⟨rfl, by omega, by omega⟩, if_pos e2]; exact hB _ _ (by omega) (by omega)
                  · rw [if_neg (by omega), if_neg e2, up2_i e]
              have hX2 : ∀ i : Int, I (p + 7) 0 * 6 ≤ i → i < I (p + 7) 0 * 6 + 1 + n → 0 ≤ X (p + 12) i ∧ X (p + 12) i ≤ 255 := fun i g0 g1 => by
                rw [x12]
                split
                · omega
                · rw [if_pos (by omega)]; exact hB2 _ (by omega) (by omega)
              refine x_cSNs (pc := 103) c19_40 (dt_sum hl (m0 := 288) (hp.a12 (I := I) (v := v) (fr := fr)) (by decide) (a := p + 12) (fm := I (p + 7) 0 * 6) (to := I (p + 7) 0 * 6 + 1 + n) (by omega) (by omega) (by omega) hX2) rfl rfl (Nat.le_of_ble_eq_true rfl) (by decide +kernel) (by decide +kernel) rfl d19_103 ?_
              refine m_iast (pc := 106) hp.a12 (by omega) (by omega) (by omega) d19_106 ?_
              refine x_aload_n (pc := 107) rfl d19_107 ?_
              refine m_getR (pc := 108) f19_9 (by decide +kernel) hp.o7 hp.r7_1 d19_108 ?_
              refine x_aload_n (pc := 111) rfl d19_111 ?_
              refine m_getW (pc := 112) (z := 0) (w := (X (p + 7) 0)) f19_30 (by decide +kernel) rfl hp.o7 (by rw [up2_p (by omega)]) d19_112 ?_
              refine x_iload_n (pc := 115) rfl d19_115 ?_
              refine x_iconst (pc := 116) d19_116 ?_
              refine x_iadd (pc := 117) d19_117 ?_
              refine m_iast (pc := 118) hp.a8 (by omega) (by omega) (by omega) d19_118 ?_
              refine x_aload_n (pc := 119) rfl d19_119 ?_
              refine m_getR (pc := 120) f19_15 (by decide +kernel) hp.o7 hp.r7_2 d19_120 ?_
              refine x_aload_n (pc := 123) rfl d19_123 ?_
              refine m_getW (pc := 124) (z := 0) (w := (X (p + 7) 0)) f19_30 (by decide +kernel) rfl hp.o7 (by rw [up2_p (by omega), up2_p (by omega)]) d19_124 ?_
              refine x_iconst (pc := 127) d19_127 ?_
              refine m_iast (pc := 128) hp.a9 (by omega) (by omega) (by omega) d19_128 ?_
              refine x_aload_n (pc := 129) rfl d19_129 ?_
              refine m_getR (pc := 130) f19_18 (by decide +kernel) hp.o7 hp.r7_3 d19_130 ?_
              refine x_aload_n (pc := 133) rfl d19_133 ?_
              refine m_getW (pc := 134) (z := 0) (w := (X (p + 7) 0)) f19_30 (by decide +kernel) rfl hp.o7 (by rw [up2_p (by omega), up2_p (by omega), up2_p (by omega)]) d19_134 ?_
              refine x_iconst (pc := 137) d19_137 ?_
              refine m_iast (pc := 138) hp.a10 (by omega) (by omega) (by omega) d19_138 ?_
              refine x_aload_n (pc := 139) rfl d19_139 ?_
              refine m_getR (pc := 140) f19_21 (by decide +kernel) hp.o7 hp.r7_4 d19_140 ?_
              refine x_aload_n (pc := 143) rfl d19_143 ?_
              refine m_getW (pc := 144) (z := 0) (w := (X (p + 7) 0)) f19_30 (by decide +kernel) rfl hp.o7 (by rw [up2_p (by omega), up2_p (by omega), up2_p (by omega), up2_p (by omega)]) d19_144 ?_
              refine x_iconst (pc := 147) d19_147 ?_
              refine m_iast (pc := 148) hp.a11 (by omega) (by omega) (by omega) d19_148 ?_
              refine x_aload_n (pc := 149) rfl d19_149 ?_
              refine x_dup (pc := 150) rfl d19_150 ?_
              refine m_getW (pc := 151) (z := 0) (w := (X (p + 7) 0)) f19_30 (by decide +kernel) rfl hp.o7 (by rw [up2_p (by omega), up2_p (by omega), up2_p (by omega), up2_p (by omega), up2_p (by omega)]) d19_151 ?_
              refine x_iconst (pc := 154) d19_154 ?_
              refine x_iadd (pc := 155) d19_155 ?_
              refine m_putI (pc := 156) (z := 0) f19_30 (by decide +kernel) (by decide +kernel) rfl hp.o7 d19_156 ?_
              refine x_vret (pc := 159) rfl (fun _ => rfl) d19_159 ?_
              rw [x7]
              have ec : crcF (fun k => X (p + 12) (I (p + 7) 0 * 6 + k)) (I (p + 7) 0 * 6 + 1 + n - I (p + 7) 0 * 6).toNat = crcF (fun j => if j = 0 then I (p + 7) 0 % 16 * 16 + n else B (j - 1)) (n + 1).toNat := by
                rw [show (I (p + 7) 0 * 6 + 1 + n - I (p + 7) 0 * 6).toNat = (n + 1).toNat from by omega]
                refine crcF_congr _ fun j g0 g1 => ?_
                rw [x12]
                by_cases e : j = 0
                · rw [if_pos (by omega), if_pos e]
                · rw [if_neg (by omega), if_pos (by omega), if_neg e]
                  congr 1
                  omega
              obtain ⟨cr, hcr⟩ : ∃ z, z = crcF (fun j => if j = 0 then I (p + 7) 0 % 16 * 16 + n else B (j - 1)) (n + 1).toNat := ⟨_, rfl⟩
              have hcb : 0 ≤ cr ∧ cr ≤ 255 := by
                rw [hcr]
                refine crcF_b _ fun j g0 g1 => ?_
                split
                · omega
                · exact hB2 _ (by omega) (by omega)
              rw [ec, ← hcr]
              obtain ⟨K, hK⟩ : ∃ Z : Nat → Int → Int, Z = up2 (up2 (up2 (up2 (up2 (up2 X (p + 12) (I (p + 7) 0 * 6 + 1 + n) cr) (p + 8) (I (p + 7) 0) (n + 2)) (p + 9) (I (p + 7) 0) 0) (p + 10) (I (p + 7) 0) 0) (p + 11) (I (p + 7) 0) 0) (p + 7) 0 (I (p + 7) 0 + 1) := ⟨_, rfl⟩
              rw [← hK]
              have k7 : K (p + 7) 0 = I (p + 7) 0 + 1 := by rw [hK, up2_s]
              have k8 : K (p + 8) = fun b => if b = I (p + 7) 0 then n + 2 else I (p + 8) b := by rw [hK, up2_off' _ _ _ (by omega), up2_off' _ _ _ (by omega), up2_off' _ _ _ (by omega), up2_off' _ _ _ (by omega), up2_at, up2_off' _ _ _ (by omega), xo _ (by omega)]
              have k9 : K (p + 9) = fun b => if b = I (p + 7) 0 then 0 else I (p + 9) b := by rw [hK, up2_off' _ _ _ (by omega), up2_off' _ _ _ (by omega), up2_off' _ _ _ (by omega), up2_at, up2_off' _ _ _ (by omega), up2_off' _ _ _ (by omega), xo _ (by omega)]
              have k10 : K (p + 10) = fun b => if b = I (p + 7) 0 then 0 else I (p + 10) b := by rw [hK, up2_off' _ _ _ (by omega), up2_off' _ _ _ (by omega), up2_at, up2_off' _ _ _ (by omega), up2_off' _ _ _ (by omega), up2_off' _ _ _ (by omega), xo _ (by omega)]
              have k11 : K (p + 11) = fun b => if b = I (p + 7) 0 then 0 else I (p + 11) b := by rw [hK, up2_off' _ _ _ (by omega), up2_at, up2_off' _ _ _ (by omega), up2_off' _ _ _ (by omega), up2_off' _ _ _ (by omega), up2_off' _ _ _ (by omega), xo _ (by omega)]
              have k12 : ∀ i, K (p + 12) i = if 6 * I (p + 7) 0 ≤ i ∧ i < 6 * I (p + 7) 0 + (n + 2) then frB (I (p + 7) 0) n B (i - 6 * I (p + 7) 0) else I (p + 12) i := fun i => by
                rw [hK, up2_p (by omega), up2_p (by omega), up2_p (by omega), up2_p (by omega), up2_p (by omega), up2_q, x12]
                unfold frB
                by_cases e1 : i = I (p + 7) 0 * 6 + 1 + n
                · rw [if_pos e1, if_pos (by omega), if_neg (by omega), if_neg (by omega), hcr]
                · rw [if_neg e1]
                  by_cases e2 : i = I (p + 7) 0 * 6
                  · rw [if_pos e2, if_pos (by omega), if_pos (by omega)]
                  · rw [if_neg e2]
                    by_cases e3 : I (p + 7) 0 * 6 + 1 ≤ i ∧ i < I (p + 7) 0 * 6 + 1 + n
                    · rw [if_pos e3, if_pos (by omega), if_neg (by omega), if_pos (by omega)]
                      congr 1
                      omega
                    · rw [if_neg e3, if_neg (by omega)]
              have ko : ∀ a, (a < p + 7 ∨ p + 13 ≤ a) → K a = I a := fun a ha => by rw [hK, up2_off' _ _ _ (by omega), up2_off' _ _ _ (by omega), up2_off' _ _ _ (by omega), up2_off' _ _ _ (by omega), up2_off' _ _ _ (by omega), up2_off' _ _ _ (by omega), xo _ (by omega)]
              refine ⟨K, rfl, fun a ha => ko a (by omega), vc_fadd rfl hf0 hn1 hn2 k7 k8 k9 k10 k11 k12 ko, fun hc => ⟨fun i g0 g1 => ⟨?_, ?_⟩, fun f g0 g1 => ?_, ?_⟩, ko, k7, fun f hf => ⟨?_, fun i hi => ?_⟩⟩
              · rw [hK, up2_p (by omega), up2_p (by omega), up2_p (by omega), up2_p (by omega), up2_p (by omega), up2_q, x12]
                split
                · exact hcb
                · split
                  · omega
                  · split
                    · exact hB2 _ (by omega) (by omega)
                    · exact (hb i g0 g1).1
              · rw [ko (p + 13) (by omega)]; exact (hb i g0 g1).2
              · rw [k11, k10]
                dsimp only
                split
                · decide
                · exact hc.2.1 f g0 (by omega)
              · rw [ko (p + 14) (by omega), ko p (by omega)]; exact hc.2.2
              · rw [k8]; exact if_neg (by omega)
              · rw [k12, if_neg (by omega)]
            · refine x_vret (pc := 38) rfl (fun _ => rfl) d19_38 ?_
              exfalso; omega
end Add
