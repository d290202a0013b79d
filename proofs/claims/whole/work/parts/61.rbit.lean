/-! ===== the reference: bits ===== -/
theorem xor01 {x : Int} (hx : x = 0 ∨ x = 1) (b : Bool) : xorZ x (b01 b) = if b then 1 - x else x := by
  rcases hx with rfl | rfl <;> cases b <;> decide
section Rbit
variable {l : LX} {q : Nat} {I : Nat → Int → Int} {v : Int} {fr : Bool} {A : AV} {c e : Int}
theorem rt_chews (hl : l.1.stackTraces = false) (hq : 192 ≤ q) (hR : RV (I 182) A) (hA : AI A c e) {i : Nat} (h1 : (i : Int) < A 0 4) {t : Int} (t0 : 0 ≤ t) (t1 : t ≤ 100000000) : DT l 165 [.ref 181, .int (iI i), .int (iI t)] (mm q I v fr) 0 0 (.inl (some (.int (iI (b01 (chewG (A 1) (A 2) (A 3) t i))))), mm q I v fr) := by
  have hr := hA.rg
  have hg := hA.dog i (by omega) h1
  refine mkdt hl (by decide) (Nat.le_of_ble_eq_true rfl) (L := [some (.ref 181), some (.int (iI i)), some (.int (iI t)), none]) rfl ?_
  refine x_iload_n (pc := 0) rfl d165_0 ?_
  refine x_aload_n (pc := 1) rfl d165_1 ?_
  refine x_iload_n (pc := 2) rfl d165_2 ?_
  refine x_iconst (pc := 3) d165_3 ?_
  refine x_cVs (pc := 4) c165_82 (rt_dog3 hl hq (A := A) hR (d := i) (by omega) (by omega) (by omega)) (xo181 (by omega)) rfl rfl (Nat.le_of_ble_eq_true rfl) (by decide +kernel) (by decide +kernel) rfl d165_4 ?_
  refine x_isub (pc := 7) d165_7 ?_
  refine x_istore_n (pc := 8) (by decide +kernel) rfl d165_8 ?_
  dsimp only [List.set]
  refine x_iload_n (pc := 9) rfl d165_9 ?_
  refine x_if_lt (pc := 10) (tgt := 34) ⟨by omega, by omega⟩ d165_10 (by decide) (fun g10 => ?_) (fun g10 => ?_)
  · refine x_iconst (pc := 34) d165_34 ?_
    refine x_zret (pc := 35) rfl (Or.inl rfl) (fun _ => rfl) d165_35 ?_
    rw [chewG_f1 g10]; rfl
  · refine x_iload_n (pc := 13) rfl d165_13 ?_
    refine x_aload_n (pc := 14) rfl d165_14 ?_
    refine x_iload_n (pc := 15) rfl d165_15 ?_
    refine x_iconst (pc := 16) d165_16 ?_
    refine x_cVs (pc := 17) c165_82 (rt_dog1 hl hq (A := A) hR (d := i) (by omega) (by omega) (by omega)) (xo181 (by omega)) rfl rfl (Nat.le_of_ble_eq_true rfl) (by decide +kernel) (by decide +kernel) rfl d165_17 ?_
    have hm1 := Int.emod_nonneg (t - A 3 i) (b := A 1 i) (by omega)
    have hm2 := Int.emod_lt_of_pos (t - A 3 i) (b := A 1 i) (by omega)
    refine x_irem (pc := 20) (by omega) (by omega) (by omega) (by omega) d165_20 ?_
    refine x_aload_n (pc := 21) rfl d165_21 ?_
    refine x_iload_n (pc := 22) rfl d165_22 ?_
    refine x_iconst (pc := 23) d165_23 ?_
    refine x_cVs (pc := 24) c165_82 (rt_dog2 hl hq (A := A) hR (d := i) (by omega) (by omega) (by omega)) (xo181 (by omega)) rfl rfl (Nat.le_of_ble_eq_true rfl) (by decide +kernel) (by decide +kernel) rfl d165_24 ?_
    refine x_icmp_ge (pc := 27) (tgt := 34) ⟨by omega, by omega⟩ ⟨by omega, by omega⟩ d165_27 (by decide) (fun g27 => ?_) (fun g27 => ?_)
    · refine x_iconst (pc := 34) d165_34 ?_
      refine x_zret (pc := 35) rfl (Or.inl rfl) (fun _ => rfl) d165_35 ?_
      rw [chewG_f2 (by omega)]; rfl
    · refine x_iconst (pc := 30) d165_30 ?_
      refine x_goto (pc := 31) (tgt := 35) d165_31 (by decide) ?_
      refine x_zret (pc := 35) rfl (Or.inr rfl) (fun _ => rfl) d165_35 ?_
      rw [chewG_t (by omega) (by omega)]; rfl
theorem lp_rchew (hl : l.1.stackTraces = false) (hq : 192 ≤ q) (hR : RV (I 182) A) (hA : AI A c e) {t : Int} (t0 : 0 ≤ t) (t1 : t ≤ 100000000) : ∀ (m i : Nat), (i : Int) ≤ A 0 4 → A 0 4 - i < m → (∀ j, j < i → chewG (A 1) (A 2) (A 3) t j = false) →
    Ex l 166 0 0 2 [some (.ref 181), some (.int (iI t)), some (.int (iI i))] [] (mm q I v fr) (fun o => o = (.inl (some (.int (iI (b01 (chewA A t))))), mm q I v fr)) := by
  have hr := hA.rg
  intro m
  induction m with
  | zero => intro i h1 h2 _; omega
  | succ m ih =>
    intro i h1 h2 hno
    refine x_iload_n (pc := 2) rfl d166_2 ?_
    refine x_aload_n (pc := 3) rfl d166_3 ?_
    refine m_getR (pc := 4) f166_9 (by decide +kernel) (xo181 (by omega)) rr181_0 d166_4 ?_
    refine x_iconst (pc := 7) d166_7 ?_
    refine m_ialdW (pc := 8) (w := (A 0 4)) (xa182 (by omega)) (by omega) (by omega) (by omega) (by rw [hR.sc (i := 4) (by decide) (by decide)]) d166_8 ?_
    refine x_icmp_ge (pc := 9) (tgt := 29) ⟨by omega, by omega⟩ ⟨by omega, by omega⟩ d166_9 (by decide) (fun g9 => ?_) (fun g9 => ?_)
    · refine x_iconst (pc := 29) d166_29 ?_
      refine x_zret (pc := 30) rfl (Or.inl rfl) (fun _ => rfl) d166_30 ?_
      rw [show chewA A t = false from chewD_no (by omega) hno]; rfl
    · refine x_aload_n (pc := 12) rfl d166_12 ?_
      refine x_iload_n (pc := 13) rfl d166_13 ?_
      refine x_iload_n (pc := 14) rfl d166_14 ?_
      refine x_cVs (pc := 15) c166_85 (rt_chews hl hq (A := A) hR hA (i := i) (by omega) (t := t) (by omega) (by omega)) (xo181 (by omega)) rfl rfl (Nat.le_of_ble_eq_true rfl) (by decide +kernel) (by decide +kernel) rfl d166_15 ?_
      refine x_ifB_eq (pc := 18) (tgt := 23) d166_18 (by decide) (fun g18 => ?_) (fun g18 => ?_)
      · refine x_iinc (pc := 23) rfl (by decide +kernel) rfl d166_23 ?_
        dsimp only [List.set]
        refine x_goto (pc := 26) (tgt := 2) d166_26 (by decide) ?_
        exact ih (i + 1) (by omega) (by omega) (chew_step hno g18)
      · refine x_iconst (pc := 21) d166_21 ?_
        refine x_zret (pc := 22) rfl (Or.inr rfl) (fun _ => rfl) d166_22 ?_
        rw [show chewA A t = true from chewD_yes (i := i) (by omega) g18]; rfl
theorem rt_chewed (hl : l.1.stackTraces = false) (hq : 192 ≤ q) (hR : RV (I 182) A) (hA : AI A c e) {t : Int} (t0 : 0 ≤ t) (t1 : t ≤ 100000000) : DT l 166 [.ref 181, .int (iI t)] (mm q I v fr) 0 0 (.inl (some (.int (iI (b01 (chewA A t))))), mm q I v fr) := by
  have hr := hA.rg
  refine mkdt hl (by decide) (Nat.le_of_ble_eq_true rfl) (L := [some (.ref 181), some (.int (iI t)), none]) rfl ?_
  refine x_iconst (pc := 0) d166_0 ?_
  refine x_istore_n (pc := 1) (by decide +kernel) rfl d166_1 ?_
  dsimp only [List.set]
  exact lp_rchew hl hq hR hA t0 t1 4 0 (by omega) (by omega) (fun j hj => absurd hj (Nat.not_lt_zero _))
theorem lp_rsum8 (hl : l.1.stackTraces = false) : ∀ (n : Nat) (s : Int) (j : Int), 0 ≤ s → s ≤ 255 → j = 8 - n → 0 ≤ j →
    Ex l 167 0 0 6 [none, none, some (.int (iI s)), some (.int (iI j))] [] (mm q I v fr) (fun o => o = (.inl (some (.int (iI (crc8 n s)))), mm q I v fr)) := by
  intro n
  induction n with
  | zero =>
    intro s j hs hs2 hj hj0
    refine x_iload_n (pc := 6) rfl d167_6 ?_
    refine x_bipush (pc := 7) (by decide) d167_7 ?_
    refine x_icmp_ge (pc := 9) (tgt := 42) ⟨by omega, by omega⟩ ⟨by omega, by omega⟩ d167_9 (by decide) (fun g9 => ?_) (fun g9 => ?_)
    · refine x_iload_n (pc := 42) rfl d167_42 ?_
      refine x_iret (pc := 43) rfl (fun _ => rfl) d167_43 ?_
      rfl
    · refine x_iload_n (pc := 12) rfl d167_12 ?_
      refine x_sipush (pc := 13) (by decide) d167_13 ?_
      refine x_icmp_lt (pc := 16) (tgt := 32) ⟨by omega, by omega⟩ ⟨by omega, by omega⟩ d167_16 (by decide) (fun g16 => ?_) (fun g16 => ?_)
      · refine x_iload_n (pc := 32) rfl d167_32 ?_
        refine x_iconst (pc := 33) d167_33 ?_
        refine x_imul (pc := 34) d167_34 ?_
        refine x_istore_n (pc := 35) (by decide +kernel) rfl d167_35 ?_
        dsimp only [List.set]
        refine x_iinc (pc := 36) rfl (by decide +kernel) rfl d167_36 ?_
        dsimp only [List.set]
        refine x_goto (pc := 39) (tgt := 6) d167_39 (by decide) ?_
        exfalso; omega
      · refine x_iload_n (pc := 19) rfl d167_19 ?_
        refine x_iconst (pc := 20) d167_20 ?_
        refine x_imul (pc := 21) d167_21 ?_
        refine x_sipush (pc := 22) (by decide) d167_22 ?_
        refine x_irem (pc := 25) (by omega) (by omega) (by omega) (by omega) d167_25 ?_
        refine x_bipush (pc := 26) (by decide) d167_26 ?_
        refine x_ixor (pc := 28) (iI_xor (by omega) (by omega) (by omega) (by omega)) d167_28 ?_
        refine x_goto (pc := 29) (tgt := 35) d167_29 (by decide) ?_
        refine x_istore_n (pc := 35) (by decide +kernel) rfl d167_35 ?_
        dsimp only [List.set]
        refine x_iinc (pc := 36) rfl (by decide +kernel) rfl d167_36 ?_
        dsimp only [List.set]
        refine x_goto (pc := 39) (tgt := 6) d167_39 (by decide) ?_
        exfalso; omega
  | succ n ih =>
    intro s j hs hs2 hj hj0
    have hb := crcS_b hs hs2
    refine x_iload_n (pc := 6) rfl d167_6 ?_
    refine x_bipush (pc := 7) (by decide) d167_7 ?_
    refine x_icmp_ge (pc := 9) (tgt := 42) ⟨by omega, by omega⟩ ⟨by omega, by omega⟩ d167_9 (by decide) (fun g9 => ?_) (fun g9 => ?_)
    · refine x_iload_n (pc := 42) rfl d167_42 ?_
      refine x_iret (pc := 43) rfl (fun _ => rfl) d167_43 ?_
      exfalso; omega
    · refine x_iload_n (pc := 12) rfl d167_12 ?_
      refine x_sipush (pc := 13) (by decide) d167_13 ?_
      refine x_icmp_lt (pc := 16) (tgt := 32) ⟨by omega, by omega⟩ ⟨by omega, by omega⟩ d167_16 (by decide) (fun g16 => ?_) (fun g16 => ?_)
      · refine x_iload_n (pc := 32) rfl d167_32 ?_
        refine x_iconst (pc := 33) d167_33 ?_
        refine x_imul (pc := 34) d167_34 ?_
        refine x_istore_n (pc := 35) (by decide +kernel) rfl d167_35 ?_
        dsimp only [List.set]
        refine x_iinc (pc := 36) rfl (by decide +kernel) rfl d167_36 ?_
        dsimp only [List.set]
        refine x_goto (pc := 39) (tgt := 6) d167_39 (by decide) ?_
        have e : s * 2 = crcS s := (if_neg (by omega)).symm
        have := ih (s * 2) (j + 1) (by omega) (by omega) (by omega) (by omega)
        rw [show crc8 (n + 1) s = crc8 n (s * 2) from by rw [e]; rfl]
        exact this
      · refine x_iload_n (pc := 19) rfl d167_19 ?_
        refine x_iconst (pc := 20) d167_20 ?_
        refine x_imul (pc := 21) d167_21 ?_
        refine x_sipush (pc := 22) (by decide) d167_22 ?_
        refine x_irem (pc := 25) (by omega) (by omega) (by omega) (by omega) d167_25 ?_
        refine x_bipush (pc := 26) (by decide) d167_26 ?_
        refine x_ixor (pc := 28) (iI_xor (by omega) (by omega) (by omega) (by omega)) d167_28 ?_
        refine x_goto (pc := 29) (tgt := 35) d167_29 (by decide) ?_
        refine x_istore_n (pc := 35) (by decide +kernel) rfl d167_35 ?_
        dsimp only [List.set]
        refine x_iinc (pc := 36) rfl (by decide +kernel) rfl d167_36 ?_
        dsimp only [List.set]
        refine x_goto (pc := 39) (tgt := 6) d167_39 (by decide) ?_
        have e : xorZ (s * 2 % 256) 7 = crcS s := by unfold crcS; rw [if_pos (by omega)]
        rw [e]
        exact ih (crcS s) (j + 1) hb.1 hb.2 (by omega) (by omega)
theorem rt_sum8 (hl : l.1.stackTraces = false) {s b : Int} (s0 : 0 ≤ s) (s1 : s ≤ 255) (b0 : 0 ≤ b) (b1 : b ≤ 255) : DT l 167 [.int (iI s), .int (iI b)] (mm q I v fr) 0 0 (.inl (some (.int (iI (crcB s b)))), mm q I v fr) := by
  have hx := xorZ_b s0 s1 b0 b1
  refine mkdt hl (by decide) (Nat.le_of_ble_eq_true rfl) (L := [some (.int (iI s)), some (.int (iI b)), none, none]) rfl ?_
  refine x_iload_n (pc := 0) rfl d167_0 ?_
  refine x_iload_n (pc := 1) rfl d167_1 ?_
  refine x_ixor (pc := 2) (iI_xor (by omega) (by omega) (by omega) (by omega)) d167_2 ?_
  refine x_istore_n (pc := 3) (by decide +kernel) rfl d167_3 ?_
  dsimp only [List.set]
  refine x_iconst (pc := 4) d167_4 ?_
  refine x_istore_n (pc := 5) (by decide +kernel) rfl d167_5 ?_
  dsimp only [List.set]
  refine x_mask [false, false, true, true] ?_
  dsimp only [mask]
  exact lp_rsum8 hl 8 _ 0 hx.1 hx.2 (by omega) (by omega)
theorem lp_rsos (hl : l.1.stackTraces = false) (hq : 192 ≤ q) {f : Int} (f0 : 0 ≤ f) (f1 : f < 48) {n : Nat} (hn : n ≤ 6) {B : Int → Int} (hB : ∀ k : Int, 0 ≤ k → k < n → I 182 (243 + 16 * f + (4 + k)) = B k ∧ 0 ≤ B k ∧ B k ≤ 255) : ∀ (m i : Nat), m + i = n →
    Ex l 168 0 0 5 [some (.ref 181), some (.int (iI f)), some (.int (iI n)), some (.int (iI (crcF B i))), some (.int (iI i))] [] (mm q I v fr) (fun o => o = (.inl (some (.int (iI (crcF B n)))), mm q I v fr)) := by
  intro m
  induction m with
  | zero =>
    intro i hi
    refine x_iload (pc := 5) rfl d168_5 ?_
    refine x_iload_n (pc := 7) rfl d168_7 ?_
    refine x_icmp_ge (pc := 8) (tgt := 31) ⟨by omega, by omega⟩ ⟨by omega, by omega⟩ d168_8 (by decide) (fun g8 => ?_) (fun g8 => ?_)
    · refine x_iload_n (pc := 31) rfl d168_31 ?_
      refine x_iret (pc := 32) rfl (fun _ => rfl) d168_32 ?_
      rw [show i = n from by omega]
    · exfalso; omega
  | succ m ih =>
    intro i hi
    have hb := crcF_b (B := B) i (fun j h0 h1 => (hB j h0 (by omega)).2)
    have hc := hB i (by omega) (by omega)
    refine x_iload (pc := 5) rfl d168_5 ?_
    refine x_iload_n (pc := 7) rfl d168_7 ?_
    refine x_icmp_ge (pc := 8) (tgt := 31) ⟨by omega, by omega⟩ ⟨by omega, by omega⟩ d168_8 (by decide) (fun g8 => ?_) (fun g8 => ?_)
    · refine x_iload_n (pc := 31) rfl d168_31 ?_
      refine x_iret (pc := 32) rfl (fun _ => rfl) d168_32 ?_
      exfalso; omega
    · refine x_iload_n (pc := 11) rfl d168_11 ?_
      refine x_aload_n (pc := 12) rfl d168_12 ?_
      refine x_iload_n (pc := 13) rfl d168_13 ?_
      refine x_iconst (pc := 14) d168_14 ?_
      refine x_iload (pc := 15) rfl d168_15 ?_
      refine x_iadd (pc := 17) d168_17 ?_
      refine x_cVs (pc := 18) c168_78 (rt_of hl hq (f := f) (w := (4 + i)) (by omega) (by omega)) (xo181 (by omega)) rfl rfl (Nat.le_of_ble_eq_true rfl) (by decide +kernel) (by decide +kernel) rfl d168_18 ?_
      refine x_val (pc := 21) (w := (B i)) (hc.1) ?_
      refine x_cSs (pc := 21) c168_89 (rt_sum8 hl (s := (crcF B i)) (b := (B i)) (by omega) (by omega) (by omega) (by omega)) rfl rfl (Nat.le_of_ble_eq_true rfl) (by decide +kernel) (by decide +kernel) (by decide +kernel) rfl d168_21 ?_
      refine x_istore_n (pc := 24) (by decide +kernel) rfl d168_24 ?_
      dsimp only [List.set]
      refine x_iinc (pc := 25) rfl (by decide +kernel) rfl d168_25 ?_
      dsimp only [List.set]
      refine x_goto (pc := 28) (tgt := 5) d168_28 (by decide) ?_
      exact ih (i + 1) (by omega)
theorem rt_sos (hl : l.1.stackTraces = false) (hq : 192 ≤ q) {f : Int} (f0 : 0 ≤ f) (f1 : f < 48) {n : Nat} (hn : n ≤ 6) {B : Int → Int} (hB : ∀ k : Int, 0 ≤ k → k < n → I 182 (243 + 16 * f + (4 + k)) = B k ∧ 0 ≤ B k ∧ B k ≤ 255) : DT l 168 [.ref 181, .int (iI f), .int (iI n)] (mm q I v fr) 0 0 (.inl (some (.int (iI (crcF B n)))), mm q I v fr) := by
  refine mkdt hl (by decide) (Nat.le_of_ble_eq_true rfl) (L := [some (.ref 181), some (.int (iI f)), some (.int (iI n)), none, none]) rfl ?_
  refine x_iconst (pc := 0) d168_0 ?_
  refine x_istore_n (pc := 1) (by decide +kernel) rfl d168_1 ?_
  dsimp only [List.set]
  refine x_iconst (pc := 2) d168_2 ?_
  refine x_istore (pc := 3) (by decide +kernel) rfl d168_3 ?_
  dsimp only [List.set]
  exact lp_rsos hl hq f0 f1 hn hB n 0 (by omega)
theorem rt_fof (hl : l.1.stackTraces = false) (hq : 192 ≤ q) (hR : RV (I 182) A) (hA : AI A c e) {m : Int} (h0 : 0 ≤ m) (h1 : m < A 0 5) : DT l 171 [.ref 181, .int (iI m)] (mm q I v fr) 0 0 (.inl (some (.int (iI ((A 4 m + 3) / 4)))), mm q I v fr) := by
  have hr := hA.rg
  have hm := hA.msg m h0 h1
  refine mkdt hl (by decide) (Nat.le_of_ble_eq_true rfl) (L := [some (.ref 181), some (.int (iI m))]) rfl ?_
  refine x_aload_n (pc := 0) rfl d171_0 ?_
  refine x_iload_n (pc := 1) rfl d171_1 ?_
  refine x_iconst (pc := 2) d171_2 ?_
  refine x_cVs (pc := 3) c171_96 (rt_mes4 hl hq (A := A) hR (m := m) (by omega) (by omega) (by omega)) (xo181 (by omega)) rfl rfl (Nat.le_of_ble_eq_true rfl) (by decide +kernel) (by decide +kernel) rfl d171_3 ?_
  refine x_iconst (pc := 6) d171_6 ?_
  refine x_iadd (pc := 7) d171_7 ?_
  refine x_iconst (pc := 8) d171_8 ?_
  refine x_isub (pc := 9) d171_9 ?_
  refine x_iconst (pc := 10) d171_10 ?_
  refine x_idiv (pc := 11) (by omega) (by omega) (by omega) (by omega) d171_11 ?_
  refine x_iret (pc := 12) rfl (fun _ => rfl) d171_12 ?_
  rw [show A 4 m + 4 - 1 = A 4 m + 3 from by omega]
theorem lp_rhas (hl : l.1.stackTraces = false) (hq : 192 ≤ q) (hR : RV (I 182) A) (hA : AI A c e) {mo st : Int} (h0 : 0 ≤ mo) (h1 : mo < A 0 5) (hs : 0 ≤ st ∧ st ≤ 2) : ∀ (m k : Nat), (m : Int) + k = (A 4 mo + 3) / 4 →
    Ex l 172 0 0 2 [some (.ref 181), some (.int (iI mo)), some (.int (iI st)), some (.int (iI k))] [] (mm q I v fr) (fun o => o = (.inl (some (.int (iI (b01 (hasN (A 7) st m (A 5 mo + k)))))), mm q I v fr)) := by
  have hr := hA.rg
  have hm := hA.msg mo h0 h1
  intro m
  induction m with
  | zero =>
    intro k hk
    refine x_iload_n (pc := 2) rfl d172_2 ?_
    refine x_aload_n (pc := 3) rfl d172_3 ?_
    refine x_iload_n (pc := 4) rfl d172_4 ?_
    refine x_cVs (pc := 5) c172_113 (rt_fof hl hq (A := A) hR hA (m := mo) (by omega) (by omega)) (xo181 (by omega)) rfl rfl (Nat.le_of_ble_eq_true rfl) (by decide +kernel) (by decide +kernel) rfl d172_5 ?_
    refine x_icmp_ge (pc := 8) (tgt := 36) ⟨by omega, by omega⟩ ⟨by omega, by omega⟩ d172_8 (by decide) (fun g8 => ?_) (fun g8 => ?_)
    · refine x_iconst (pc := 36) d172_36 ?_
      refine x_zret (pc := 37) rfl (Or.inl rfl) (fun _ => rfl) d172_37 ?_
      rfl
    · exfalso; omega
  | succ m ih =>
    intro k hk
    have hf := hA.frm (A 5 mo + k) (by omega) (by omega)
    refine x_iload_n (pc := 2) rfl d172_2 ?_
    refine x_aload_n (pc := 3) rfl d172_3 ?_
    refine x_iload_n (pc := 4) rfl d172_4 ?_
    refine x_cVs (pc := 5) c172_113 (rt_fof hl hq (A := A) hR hA (m := mo) (by omega) (by omega)) (xo181 (by omega)) rfl rfl (Nat.le_of_ble_eq_true rfl) (by decide +kernel) (by decide +kernel) rfl d172_5 ?_
    refine x_icmp_ge (pc := 8) (tgt := 36) ⟨by omega, by omega⟩ ⟨by omega, by omega⟩ d172_8 (by decide) (fun g8 => ?_) (fun g8 => ?_)
    · refine x_iconst (pc := 36) d172_36 ?_
      refine x_zret (pc := 37) rfl (Or.inl rfl) (fun _ => rfl) d172_37 ?_
      exfalso; omega
    · refine x_aload_n (pc := 11) rfl d172_11 ?_
      refine x_aload_n (pc := 12) rfl d172_12 ?_
      refine x_iload_n (pc := 13) rfl d172_13 ?_
      refine x_iconst (pc := 14) d172_14 ?_
      refine x_cVs (pc := 15) c172_96 (rt_mes5 hl hq (A := A) hR (m := mo) (by omega) (by omega) (by omega)) (xo181 (by omega)) rfl rfl (Nat.le_of_ble_eq_true rfl) (by decide +kernel) (by decide +kernel) rfl d172_15 ?_
      refine x_iload_n (pc := 18) rfl d172_18 ?_
      refine x_iadd (pc := 19) d172_19 ?_
      refine x_iconst (pc := 20) d172_20 ?_
      refine x_cVs (pc := 21) c172_78 (rt_of7 hl hq (A := A) hR (f := ((A 5 mo) + k)) (by omega) (by omega) (by omega)) (xo181 (by omega)) rfl rfl (Nat.le_of_ble_eq_true rfl) (by decide +kernel) (by decide +kernel) rfl d172_21 ?_
      refine x_iload_n (pc := 24) rfl d172_24 ?_
      refine x_icmp_ne (pc := 25) (tgt := 30) ⟨by omega, by omega⟩ ⟨by omega, by omega⟩ d172_25 (by decide) (fun g25 => ?_) (fun g25 => ?_)
      · refine x_iinc (pc := 30) rfl (by decide +kernel) rfl d172_30 ?_
        dsimp only [List.set]
        refine x_goto (pc := 33) (tgt := 2) d172_33 (by decide) ?_
        have := ih (k + 1) (by omega)
        rw [show A 5 mo + ((k + 1 : Nat) : Int) = A 5 mo + k + 1 from by omega] at this
        rw [show hasN (A 7) st (m + 1) (A 5 mo + k) = hasN (A 7) st m (A 5 mo + k + 1) from by
          show (decide (A 7 (A 5 mo + k) = st) || _) = _
          rw [decide_eq_false g25]; rfl]
        exact this
      · refine x_iconst (pc := 28) d172_28 ?_
        refine x_zret (pc := 29) rfl (Or.inr rfl) (fun _ => rfl) d172_29 ?_
        rw [show hasN (A 7) st (m + 1) (A 5 mo + k) = true from by
          show (decide (A 7 (A 5 mo + k) = st) || _) = _
          rw [decide_eq_true g25]; rfl]
        rfl
theorem rt_has (hl : l.1.stackTraces = false) (hq : 192 ≤ q) (hR : RV (I 182) A) (hA : AI A c e) {mo st : Int} (h0 : 0 ≤ mo) (h1 : mo < A 0 5) (hs : 0 ≤ st ∧ st ≤ 2) : DT l 172 [.ref 181, .int (iI mo), .int (iI st)] (mm q I v fr) 0 0 (.inl (some (.int (iI (b01 (hasA A mo st))))), mm q I v fr) := by
  have hm := hA.msg mo h0 h1
  refine mkdt hl (by decide) (Nat.le_of_ble_eq_true rfl) (L := [some (.ref 181), some (.int (iI mo)), some (.int (iI st)), none]) rfl ?_
  refine x_iconst (pc := 0) d172_0 ?_
  refine x_istore_n (pc := 1) (by decide +kernel) rfl d172_1 ?_
  dsimp only [List.set]
  have := lp_rhas (fr := fr) (v := v) hl hq hR hA h0 h1 hs ((A 4 mo + 3) / 4).toNat 0 (by omega)
  rw [show A 5 mo + ((0 : Nat) : Int) = A 5 mo from by omega] at this
  exact this
theorem rt_st (hl : l.1.stackTraces = false) (hq : 192 ≤ q) (hR : RV (I 182) A) (hA : AI A c e) {m : Int} (h0 : 0 ≤ m) (h1 : m < A 0 5) : DT l 173 [.ref 181, .int (iI m)] (mm q I v fr) 0 0 (.inl (some (.int (iI (stA A m)))), mm q I v fr) := by
  unfold stA
  refine mkdt hl (by decide) (Nat.le_of_ble_eq_true rfl) (L := [some (.ref 181), some (.int (iI m))]) rfl ?_
  refine x_aload_n (pc := 0) rfl d173_0 ?_
  refine x_iload_n (pc := 1) rfl d173_1 ?_
  refine x_iconst (pc := 2) d173_2 ?_
  refine x_cVs (pc := 3) c173_117 (rt_has hl hq (A := A) hR hA (mo := m) (st := 0) (by omega) (by omega) (by decide)) (xo181 (by omega)) rfl rfl (Nat.le_of_ble_eq_true rfl) (by decide +kernel) (by decide +kernel) rfl d173_3 ?_
  refine x_ifB_eq (pc := 6) (tgt := 11) d173_6 (by decide) (fun g6 => ?_) (fun g6 => ?_)
  · refine x_aload_n (pc := 11) rfl d173_11 ?_
    refine x_iload_n (pc := 12) rfl d173_12 ?_
    refine x_iconst (pc := 13) d173_13 ?_
    refine x_cVs (pc := 14) c173_117 (rt_has hl hq (A := A) hR hA (mo := m) (st := 2) (by omega) (by omega) (by decide)) (xo181 (by omega)) rfl rfl (Nat.le_of_ble_eq_true rfl) (by decide +kernel) (by decide +kernel) rfl d173_14 ?_
    refine x_ifB_eq (pc := 17) (tgt := 24) d173_17 (by decide) (fun g17 => ?_) (fun g17 => ?_)
    · refine x_iconst (pc := 24) d173_24 ?_
      refine x_iret (pc := 25) rfl (fun _ => rfl) d173_25 ?_
      rw [g6, g17]; rfl
    · refine x_iconst (pc := 20) d173_20 ?_
      refine x_goto (pc := 21) (tgt := 25) d173_21 (by decide) ?_
      refine x_iret (pc := 25) rfl (fun _ => rfl) d173_25 ?_
      rw [g6, g17]; rfl
  · refine x_iconst (pc := 9) d173_9 ?_
    refine x_iret (pc := 10) rfl (fun _ => rfl) d173_10 ?_
    rw [g6]; rfl
theorem rt_bit (hl : l.1.stackTraces = false) (hq : 192 ≤ q) (hR : RV (I 182) A) (hA : AI A c e) {f b : Int} (f0 : 0 ≤ f) (f1 : f < A 0 6) (b0 : 0 ≤ b) (b1 : b < 8 * A 6 f) : DT l 174 [.ref 181, .int (iI f), .int (iI b)] (mm q I v fr) 0 0 (.inl (some (.int (iI (bitZ (SfA A f) b)))), mm q I v fr) := by
  have hr := hA.rg
  have hf := hA.frm f f0 f1
  have hb := hA.byt (6 * f + b / 8)
  refine mkdt hl (by decide) (Nat.le_of_ble_eq_true rfl) (L := [some (.ref 181), some (.int (iI f)), some (.int (iI b))]) rfl ?_
  refine x_aload_n (pc := 0) rfl d174_0 ?_
  refine x_iload_n (pc := 1) rfl d174_1 ?_
  refine x_iconst (pc := 2) d174_2 ?_
  refine x_iload_n (pc := 3) rfl d174_3 ?_
  refine x_bipush (pc := 4) (by decide) d174_4 ?_
  refine x_idiv (pc := 6) (by omega) (by omega) (by omega) (by omega) d174_6 ?_
  refine x_iadd (pc := 7) d174_7 ?_
  refine x_cVs (pc := 8) c174_78 (rt_ofS hl hq (A := A) hR (f := f) (k := (b / 8)) (by omega) (by omega) (by omega) (by omega) (by omega) (by omega)) (xo181 (by omega)) rfl rfl (Nat.le_of_ble_eq_true rfl) (by decide +kernel) (by decide +kernel) rfl d174_8 ?_
  refine x_bipush (pc := 11) (by decide) d174_11 ?_
  refine x_iload_n (pc := 13) rfl d174_13 ?_
  refine x_bipush (pc := 14) (by decide) d174_14 ?_
  refine x_irem (pc := 16) (by omega) (by omega) (by omega) (by omega) d174_16 ?_
  refine x_isub (pc := 17) d174_17 ?_
  refine x_ishr (pc := 18) (iI_shr ⟨by omega, by omega⟩ (by omega) (by omega)) d174_18 ?_
  refine x_iconst (pc := 19) d174_19 ?_
  refine x_iand (pc := 20) (iI_and1 _) d174_20 ?_
  refine x_iret (pc := 21) rfl (fun _ => rfl) d174_21 ?_
  first | rfl | (exfalso; omega)
theorem rt_tkI (hl : l.1.stackTraces = false) (hq : 192 ≤ q) (hR : RV (I 182) A) (hA : AI A c e) {b : Int} (b0 : 0 ≤ b) (b1 : b ≤ 1000) : DT l 175 [.ref 181, .int (iI b)] (mm q I v fr) 0 0 (.inl (some (.int (iI (tkI b (A 0 1))))), mm q I v fr) := by
  have hr := hA.rg
  have hm1 : 0 ≤ (2 * b + 1) * (1000 + A 0 1) := Int.mul_nonneg (by omega) (by omega)
  have hm2 : (2 * b + 1) * (1000 + A 0 1) ≤ 2001 * 1099 := Int.mul_le_mul (by omega) (by omega) (by omega) (by omega)
  refine mkdt hl (by decide) (Nat.le_of_ble_eq_true rfl) (L := [some (.ref 181), some (.int (iI b))]) rfl ?_
  refine x_iconst (pc := 0) d175_0 ?_
  refine x_iload_n (pc := 1) rfl d175_1 ?_
  refine x_imul (pc := 2) d175_2 ?_
  refine x_iconst (pc := 3) d175_3 ?_
  refine x_iadd (pc := 4) d175_4 ?_
  refine x_sipush (pc := 5) (by decide) d175_5 ?_
  refine x_aload_n (pc := 8) rfl d175_8 ?_
  refine m_getR (pc := 9) f175_9 (by decide +kernel) (xo181 (by omega)) rr181_0 d175_9 ?_
  refine x_iconst (pc := 12) d175_12 ?_
  refine m_ialdW (pc := 13) (w := (A 0 1)) (xa182 (by omega)) (by omega) (by omega) (by omega) (by rw [hR.sc (i := 1) (by decide) (by decide)]) d175_13 ?_
  refine x_iadd (pc := 14) d175_14 ?_
  refine x_imul (pc := 15) d175_15 ?_
  refine x_sipush (pc := 16) (by decide) d175_16 ?_
  refine x_idiv (pc := 19) (by omega) (by omega) (by omega) (by omega) d175_19 ?_
  refine x_iret (pc := 20) rfl (fun _ => rfl) d175_20 ?_
  first | rfl | (exfalso; omega)
theorem mulb {A : AV} {c e b : Int} (hA : AI A c e) (b0 : 0 ≤ b) (b1 : b ≤ 1000) : 0 ≤ b * A 0 0 ∧ b * A 0 0 ≤ 1000 * 9 := by
  have hr := hA.rg
  exact ⟨Int.mul_nonneg b0 (by omega), Int.mul_le_mul b1 (by omega) (by omega) (by omega)⟩
theorem rt_inv (hl : l.1.stackTraces = false) (hq : 192 ≤ q) (hR : RV (I 182) A) (hA : AI A c e) {b t : Int} (b0 : 0 ≤ b) (b1 : b ≤ 1000) (t0 : 0 ≤ t) (t1 : t ≤ 90000000) : DT l 176 [.ref 181, .int (iI b), .int (iI t)] (mm q I v fr) 0 0 (.inl (some (.int (iI (b01 (chA A t (A 0 0) b))))), mm q I v fr) := by
  have hr := hA.rg
  have hm := mulb hA b0 b1
  refine mkdt hl (by decide) (Nat.le_of_ble_eq_true rfl) (L := [some (.ref 181), some (.int (iI b)), some (.int (iI t))]) rfl ?_
  refine x_aload_n (pc := 0) rfl d176_0 ?_
  refine x_iload_n (pc := 1) rfl d176_1 ?_
  refine x_iload_n (pc := 2) rfl d176_2 ?_
  refine x_aload_n (pc := 3) rfl d176_3 ?_
  refine m_getR (pc := 4) f176_9 (by decide +kernel) (xo181 (by omega)) rr181_0 d176_4 ?_
  refine x_iconst (pc := 7) d176_7 ?_
  refine m_ialdW (pc := 8) (w := (A 0 0)) (xa182 (by omega)) (by omega) (by omega) (by omega) (by rw [hR.sc (i := 0) (by decide) (by decide)]) d176_8 ?_
  refine x_imul (pc := 9) d176_9 ?_
  refine x_iadd (pc := 10) d176_10 ?_
  refine x_cVs (pc := 11) c176_120 (rt_chewed hl hq (A := A) hR hA (t := (t + (b * (A 0 0)))) (by omega) (by omega)) (xo181 (by omega)) rfl rfl (Nat.le_of_ble_eq_true rfl) (by decide +kernel) (by decide +kernel) rfl d176_11 ?_
  refine x_zret (pc := 14) rfl (b01_or _) (fun _ => rfl) d176_14 ?_
  first | rfl | (exfalso; omega)
theorem rt_cable (hl : l.1.stackTraces = false) (hq : 192 ≤ q) (hR : RV (I 182) A) (hA : AI A c e) {f b t : Int} (f0 : 0 ≤ f) (f1 : f < A 0 6) (b0 : 0 ≤ b) (b1 : b < 8 * A 6 f) (t0 : 0 ≤ t) (t1 : t ≤ 90000000) : DT l 177 [.ref 181, .int (iI f), .int (iI b), .int (iI t)] (mm q I v fr) 0 0 (.inl (some (.int (iI (cabZ (SfA A f) (chA A t (A 0 0)) b)))), mm q I v fr) := by
  have hf := hA.frm f f0 f1
  have hb := bitZ_r (SfA A f) b
  have hz := b01_or (chA A t (A 0 0) b)
  rw [show cabZ (SfA A f) (chA A t (A 0 0)) b = xorZ (bitZ (SfA A f) b) (b01 (chA A t (A 0 0) b)) from (xor01 hb _).symm]
  refine mkdt hl (by decide) (Nat.le_of_ble_eq_true rfl) (L := [some (.ref 181), some (.int (iI f)), some (.int (iI b)), some (.int (iI t))]) rfl ?_
  refine x_aload_n (pc := 0) rfl d177_0 ?_
  refine x_iload_n (pc := 1) rfl d177_1 ?_
  refine x_iload_n (pc := 2) rfl d177_2 ?_
  refine x_cVs (pc := 3) c177_124 (rt_bit hl hq (A := A) hR hA (f := f) (b := b) (by omega) (by omega) (by omega) (by omega)) (xo181 (by omega)) rfl rfl (Nat.le_of_ble_eq_true rfl) (by decide +kernel) (by decide +kernel) rfl d177_3 ?_
  refine x_aload_n (pc := 6) rfl d177_6 ?_
  refine x_iload_n (pc := 7) rfl d177_7 ?_
  refine x_iload_n (pc := 8) rfl d177_8 ?_
  refine x_cVs (pc := 9) c177_127 (rt_inv hl hq (A := A) hR hA (b := b) (t := t) (by omega) (by omega) (by omega) (by omega)) (xo181 (by omega)) rfl rfl (Nat.le_of_ble_eq_true rfl) (by decide +kernel) (by decide +kernel) rfl d177_9 ?_
  refine x_cSs (pc := 12) c177_130 (rt_truth hl (b := (chA A t (A 0 0) b))) rfl rfl (Nat.le_of_ble_eq_true rfl) (by decide +kernel) (by decide +kernel) (by decide +kernel) rfl d177_12 ?_
  refine x_ixor (pc := 15) (iI_xor (by omega) (by omega) (by omega) (by omega)) d177_15 ?_
  refine x_iret (pc := 16) rfl (fun _ => rfl) d177_16 ?_
  first | rfl | (exfalso; omega)
/-- what is taken of frame f at t -/
def tkA (A : AV) (f t : Int) : Int → Int := takZ (cabZ (SfA A f) (chA A t (A 0 0))) (8 * A 6 f) (A 0 1)
theorem tkA_r (A : AV) (f t b : Int) : tkA A f t b = 0 ∨ tkA A f t b = 1 := takZ_r (cabZ_r _ _) _ _ _
theorem rt_recv (hl : l.1.stackTraces = false) (hq : 192 ≤ q) (hR : RV (I 182) A) (hA : AI A c e) {f b t : Int} (f0 : 0 ≤ f) (f1 : f < A 0 6) (b0 : 0 ≤ b) (b1 : b ≤ 1000) (t0 : 0 ≤ t) (t1 : t ≤ 90000000) : DT l 178 [.ref 181, .int (iI f), .int (iI b), .int (iI t)] (mm q I v fr) 0 0 (.inl (some (.int (iI (tkA A f t b)))), mm q I v fr) := by
  have hr := hA.rg
  have hf := hA.frm f f0 f1
  have hk := tkI_r (b := b) (dr := A 0 1) b0 b1 (by omega) (by omega)
  unfold tkA takZ
  refine mkdt hl (by decide) (Nat.le_of_ble_eq_true rfl) (L := [some (.ref 181), some (.int (iI f)), some (.int (iI b)), some (.int (iI t)), none]) rfl ?_
  refine x_aload_n (pc := 0) rfl d178_0 ?_
  refine x_iload_n (pc := 1) rfl d178_1 ?_
  refine x_cVs (pc := 2) c178_134 (rt_tkI hl hq (A := A) hR hA (b := b) (by omega) (by omega)) (xo181 (by omega)) rfl rfl (Nat.le_of_ble_eq_true rfl) (by decide +kernel) (by decide +kernel) rfl d178_2 ?_
  refine x_istore (pc := 5) (by decide +kernel) rfl d178_5 ?_
  dsimp only [List.set]
  refine x_iload (pc := 7) rfl d178_7 ?_
  refine x_aload_n (pc := 9) rfl d178_9 ?_
  refine x_iload_n (pc := 10) rfl d178_10 ?_
  refine x_cVs (pc := 11) c178_137 (rt_bitsOf hl hq (A := A) hR (f := f) (by omega) (by omega) (by omega)) (xo181 (by omega)) rfl rfl (Nat.le_of_ble_eq_true rfl) (by decide +kernel) (by decide +kernel) rfl d178_11 ?_
  refine x_icmp_ge (pc := 14) (tgt := 28) ⟨by omega, by omega⟩ ⟨by omega, by omega⟩ d178_14 (by decide) (fun g14 => ?_) (fun g14 => ?_)
  · refine x_iconst (pc := 28) d178_28 ?_
    refine x_iret (pc := 29) rfl (fun _ => rfl) d178_29 ?_
    rw [if_neg (by omega)]
  · refine x_aload_n (pc := 17) rfl d178_17 ?_
    refine x_iload_n (pc := 18) rfl d178_18 ?_
    refine x_iload (pc := 19) rfl d178_19 ?_
    refine x_iload_n (pc := 21) rfl d178_21 ?_
    refine x_cVs (pc := 22) c178_140 (rt_cable hl hq (A := A) hR hA (f := f) (b := (tkI b (A 0 1))) (t := t) (by omega) (by omega) (by omega) (by omega) (by omega) (by omega)) (xo181 (by omega)) rfl rfl (Nat.le_of_ble_eq_true rfl) (by decide +kernel) (by decide +kernel) rfl d178_22 ?_
    refine x_goto (pc := 25) (tgt := 29) d178_25 (by decide) ?_
    refine x_iret (pc := 29) rfl (fun _ => rfl) d178_29 ?_
    rw [if_pos (by omega)]
end Rbit
