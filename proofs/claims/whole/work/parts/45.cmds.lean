/-! ===== commands are read ===== -/
/-- the number of a command's name, -1 if it is none -/
def nameZ (T : Int → Int) (n s k e : Int) : Int :=
  if splZ T n s k e 0 = true then 0 else if splZ T n s k e 1 = true then 1 else if splZ T n s k e 2 = true then 2 else if splZ T n s k e 3 = true then 3 else if splZ T n s k e 4 = true then 4 else if splZ T n s k e 5 = true then 5 else if splZ T n s k e 6 = true then 6 else if splZ T n s k e 7 = true then 7 else -1
def numR (nm : Int) : Int × Int := if nm = 1 then (1, 60) else if nm = 2 ∨ nm = 3 then (0, 11) else if nm = 4 then (1, 999) else if nm = 5 then (1, 199) else (0, 2)
/-- a command's arguments behind e -/
def argP (T : Int → Int) (n nm e : Int) : Int × Int × Int × Int × Int × Int :=
  if nm = 0 then (if tK T n e ≠ 1 then (1, tS T n e, 0, 0, 0, 0) else if 16 < tE T n e - tS T n e then (3, tS T n e, 0, 0, 0, 0) else (0, 0, tS T n e, tE T n e - tS T n e, 0, tE T n e))
  else if nm = 6 then dogP T n e
  else pbind (numP T n (numR nm).1 (numR nm).2 e) (0, 0, 0, 0) fun x => (0, 0, x.1, 0, 0, x.2)
/-- a command: its name, three arguments, its end -/
def oneP (T : Int → Int) (n cnt e : Int) : Int × Int × Int × Int × Int × Int × Int :=
  if nameZ T n (tS T n e) (tK T n e) (tE T n e) = -1 then (1, tS T n e, 0, 0, 0, 0, 0) else if 30 ≤ cnt then (3, tS T n e, 0, 0, 0, 0, 0) else
  pbind (argP T n (nameZ T n (tS T n e) (tK T n e) (tE T n e)) (tE T n e)) (0, 0, 0, 0, 0) fun x => pbind (semP T n x.2.2.2) (0, 0, 0, 0, 0) fun e2 => (0, 0, nameZ T n (tS T n e) (tK T n e) (tE T n e), x.1, x.2.1, x.2.2.1, e2)
/-- the commands by rows: names and three arguments -/
def addC (C : AV) (cnt nm a b c : Int) : AV := up2 (up2 (up2 (up2 C 0 cnt nm) 1 cnt a) 2 cnt b) 3 cnt c
def cmdsP (T : Int → Int) (n : Int) : Nat → Int → AV → Int → Int × Int × Int × AV
  | 0, cnt, C, _ => (3, 0, cnt, C)
  | m + 1, cnt, C, e => if tK T n e = 0 then (0, 0, cnt, C) else pbind (oneP T n cnt e) (cnt, C) fun x => cmdsP T n m (cnt + 1) (addC C cnt x.1 x.2.1 x.2.2.1 x.2.2.2.1) x.2.2.2.2
theorem cmdsP_s {T : Int → Int} {n cnt e : Int} {m : Nat} {C : AV} : cmdsP T n (m + 1) cnt C e = if tK T n e = 0 then (0, 0, cnt, C) else pbind (oneP T n cnt e) (cnt, C) fun x => cmdsP T n m (cnt + 1) (addC C cnt x.1 x.2.1 x.2.2.1 x.2.2.2.1) x.2.2.2.2 := rfl
theorem nameZ_r (T : Int → Int) (n s k e : Int) : -1 ≤ nameZ T n s k e ∧ nameZ T n s k e ≤ 7 := by
  unfold nameZ
  repeat (first | (split; decide) | decide)
theorem argP_r {T : Int → Int} {n nm e : Int} (h0 : 0 ≤ e) (h1 : e ≤ n) (hc : (argP T n nm e).1 = 0) : 0 ≤ (argP T n nm e).2.2.2.2.2 ∧ (argP T n nm e).2.2.2.2.2 ≤ n ∧ (nm = 0 → 0 ≤ (argP T n nm e).2.2.1 ∧ 1 ≤ (argP T n nm e).2.2.2.1 ∧ (argP T n nm e).2.2.2.1 ≤ 16 ∧ (argP T n nm e).2.2.1 + (argP T n nm e).2.2.2.1 ≤ n) ∧ (nm = 6 → (2 ≤ (argP T n nm e).2.2.1 ∧ (argP T n nm e).2.2.1 ≤ 999) ∧ (1 ≤ (argP T n nm e).2.2.2.1 ∧ (argP T n nm e).2.2.2.1 < (argP T n nm e).2.2.1) ∧ (0 ≤ (argP T n nm e).2.2.2.2.1 ∧ (argP T n nm e).2.2.2.2.1 ≤ 999)) ∧ (nm ≠ 0 → nm ≠ 6 → (numR nm).1 ≤ (argP T n nm e).2.2.1 ∧ (argP T n nm e).2.2.1 ≤ (numR nm).2 ∧ 0 ≤ (argP T n nm e).2.2.1 ∧ (argP T n nm e).2.2.1 ≤ 999) := by
  have hr := tok_r (T := T) h1
  unfold argP at hc ⊢
  by_cases c0 : nm = 0
  · rw [if_pos c0] at hc ⊢
    by_cases c1 : tK T n e ≠ 1
    · rw [if_pos c1] at hc; exact absurd (show (1 : Int) = 0 from hc) (by decide)
    rw [if_neg c1] at hc ⊢
    by_cases c2 : 16 < tE T n e - tS T n e
    · rw [if_pos c2] at hc; exact absurd (show (3 : Int) = 0 from hc) (by decide)
    rw [if_neg c2]
    have := hr.2.2.2.2.1 (by omega)
    dsimp only
    refine ⟨by omega, by omega, fun _ => by omega, fun z => by omega, fun z => absurd c0 z⟩
  · rw [if_neg c0] at hc ⊢
    by_cases c6 : nm = 6
    · rw [if_pos c6] at hc ⊢
      have hd := dogP_r h0 h1 hc
      exact ⟨hd.2.2.2.1, hd.2.2.2.2, fun z => absurd z c0, fun _ => ⟨hd.1, hd.2.1, hd.2.2.1⟩, fun _ z => absurd c6 z⟩
    · rw [if_neg c6] at hc ⊢
      by_cases c1 : (numP T n (numR nm).1 (numR nm).2 e).1 = 0
      · have q := (numP_r (T := T) (lo := (numR nm).1) (hi := (numR nm).2) h0 h1).1 c1
        rw [pbind_ok c1]
        dsimp only
        exact ⟨q.2.2.2.2.1, q.2.2.2.2.2, fun z => absurd z c0, fun z => absurd z c6, fun _ _ => ⟨q.1, q.2.1, q.2.2.1, q.2.2.2.1⟩⟩
      · rw [pbind_no c1] at hc; exact absurd hc c1
theorem dogP_0 {T : Int → Int} {n e : Int} (h : (dogP T n e).1 = 0) : (dogP T n e).2.1 = 0 := by
  unfold dogP at h ⊢
  by_cases c1 : (numP T n 2 999 e).1 = 0
  · rw [pbind_ok c1] at h ⊢
    by_cases c2 : (numP T n 1 ((numP T n 2 999 e).2.2.1 - 1) (numP T n 2 999 e).2.2.2).1 = 0
    · rw [pbind_ok c2] at h ⊢
      by_cases c3 : (numP T n 0 999 (numP T n 1 ((numP T n 2 999 e).2.2.1 - 1) (numP T n 2 999 e).2.2.2).2.2.2).1 = 0
      · rw [pbind_ok c3]
      · rw [pbind_no c3] at h; exact absurd h c3
    · rw [pbind_no c2] at h; exact absurd h c2
  · rw [pbind_no c1] at h; exact absurd h c1
section Cmd
variable {l : LX} {q p : Nat} {I : Nat → Int → Int} {v : Int} {fr : Bool} {T : Int → Int} {n : Int}
theorem dt_name (hl : l.1.stackTraces = false) (hq : 181 ≤ q) (hX : TXT I T n) {s k e : Int} (j2 : I 5 1 = k) (j3 : I 5 2 = s) (j4 : I 5 3 = e) (hs0 : 0 ≤ s) (hs1 : s ≤ e) (he1 : e ≤ n) (hk : 0 ≤ k ∧ k ≤ 4) : DT l 3 [.ref 5] (mm q I v fr) 0 0 (.inl (some (.int (iI (nameZ T n s k e)))), mm q I v fr) := by
  unfold nameZ
  refine mkdt hl (by decide) (Nat.le_of_ble_eq_true rfl) (L := [some (.ref 5)]) rfl ?_
  refine x_aload_n (pc := 0) rfl d3_0 ?_
  refine x_ldcS (pc := 1) k3_59 d3_1 ?_
  refine x_cVs (pc := 3) c3_61 (dt_spells hl hq hX (i := 0) (by decide) j2 j3 j4 (by omega) (by omega) (by omega) (by omega)) (ko5 (by omega)) rfl rfl (Nat.le_of_ble_eq_true rfl) (by decide +kernel) (by decide +kernel) rfl d3_3 ?_
  refine x_ifB_eq (pc := 6) (tgt := 11) d3_6 (by decide) (fun g6 => ?_) (fun g6 => ?_)
  · refine x_aload_n (pc := 11) rfl d3_11 ?_
    refine x_ldcS (pc := 12) k3_65 d3_12 ?_
    refine x_cVs (pc := 14) c3_61 (dt_spells hl hq hX (i := 1) (by decide) j2 j3 j4 (by omega) (by omega) (by omega) (by omega)) (ko5 (by omega)) rfl rfl (Nat.le_of_ble_eq_true rfl) (by decide +kernel) (by decide +kernel) rfl d3_14 ?_
    refine x_ifB_eq (pc := 17) (tgt := 22) d3_17 (by decide) (fun g17 => ?_) (fun g17 => ?_)
    · refine x_aload_n (pc := 22) rfl d3_22 ?_
      refine x_ldcS (pc := 23) k3_67 d3_23 ?_
      refine x_cVs (pc := 25) c3_61 (dt_spells hl hq hX (i := 2) (by decide) j2 j3 j4 (by omega) (by omega) (by omega) (by omega)) (ko5 (by omega)) rfl rfl (Nat.le_of_ble_eq_true rfl) (by decide +kernel) (by decide +kernel) rfl d3_25 ?_
      refine x_ifB_eq (pc := 28) (tgt := 33) d3_28 (by decide) (fun g28 => ?_) (fun g28 => ?_)
      · refine x_aload_n (pc := 33) rfl d3_33 ?_
        refine x_ldcS (pc := 34) k3_69 d3_34 ?_
        refine x_cVs (pc := 36) c3_61 (dt_spells hl hq hX (i := 3) (by decide) j2 j3 j4 (by omega) (by omega) (by omega) (by omega)) (ko5 (by omega)) rfl rfl (Nat.le_of_ble_eq_true rfl) (by decide +kernel) (by decide +kernel) rfl d3_36 ?_
        refine x_ifB_eq (pc := 39) (tgt := 44) d3_39 (by decide) (fun g39 => ?_) (fun g39 => ?_)
        · refine x_aload_n (pc := 44) rfl d3_44 ?_
          refine x_ldcS (pc := 45) k3_71 d3_45 ?_
          refine x_cVs (pc := 47) c3_61 (dt_spells hl hq hX (i := 4) (by decide) j2 j3 j4 (by omega) (by omega) (by omega) (by omega)) (ko5 (by omega)) rfl rfl (Nat.le_of_ble_eq_true rfl) (by decide +kernel) (by decide +kernel) rfl d3_47 ?_
          refine x_ifB_eq (pc := 50) (tgt := 55) d3_50 (by decide) (fun g50 => ?_) (fun g50 => ?_)
          · refine x_aload_n (pc := 55) rfl d3_55 ?_
            refine x_ldcS (pc := 56) k3_73 d3_56 ?_
            refine x_cVs (pc := 58) c3_61 (dt_spells hl hq hX (i := 5) (by decide) j2 j3 j4 (by omega) (by omega) (by omega) (by omega)) (ko5 (by omega)) rfl rfl (Nat.le_of_ble_eq_true rfl) (by decide +kernel) (by decide +kernel) rfl d3_58 ?_
            refine x_ifB_eq (pc := 61) (tgt := 66) d3_61 (by decide) (fun g61 => ?_) (fun g61 => ?_)
            · refine x_aload_n (pc := 66) rfl d3_66 ?_
              refine x_ldcS (pc := 67) k3_75 d3_67 ?_
              refine x_cVs (pc := 69) c3_61 (dt_spells hl hq hX (i := 6) (by decide) j2 j3 j4 (by omega) (by omega) (by omega) (by omega)) (ko5 (by omega)) rfl rfl (Nat.le_of_ble_eq_true rfl) (by decide +kernel) (by decide +kernel) rfl d3_69 ?_
              refine x_ifB_eq (pc := 72) (tgt := 78) d3_72 (by decide) (fun g72 => ?_) (fun g72 => ?_)
              · refine x_aload_n (pc := 78) rfl d3_78 ?_
                refine x_ldcS (pc := 79) k3_77 d3_79 ?_
                refine x_cVs (pc := 81) c3_61 (dt_spells hl hq hX (i := 7) (by decide) j2 j3 j4 (by omega) (by omega) (by omega) (by omega)) (ko5 (by omega)) rfl rfl (Nat.le_of_ble_eq_true rfl) (by decide +kernel) (by decide +kernel) rfl d3_81 ?_
                refine x_ifB_eq (pc := 84) (tgt := 92) d3_84 (by decide) (fun g84 => ?_) (fun g84 => ?_)
                · refine x_iconst (pc := 92) d3_92 ?_
                  refine x_iret (pc := 93) rfl (fun _ => rfl) d3_93 ?_
                  rw [if_neg (by rw [g6]; decide), if_neg (by rw [g17]; decide), if_neg (by rw [g28]; decide), if_neg (by rw [g39]; decide), if_neg (by rw [g50]; decide), if_neg (by rw [g61]; decide), if_neg (by rw [g72]; decide), if_neg (by rw [g84]; decide)]
                · refine x_bipush (pc := 87) (by decide) d3_87 ?_
                  refine x_goto (pc := 89) (tgt := 93) d3_89 (by decide) ?_
                  refine x_iret (pc := 93) rfl (fun _ => rfl) d3_93 ?_
                  rw [if_neg (by rw [g6]; decide), if_neg (by rw [g17]; decide), if_neg (by rw [g28]; decide), if_neg (by rw [g39]; decide), if_neg (by rw [g50]; decide), if_neg (by rw [g61]; decide), if_neg (by rw [g72]; decide), if_pos g84]
              · refine x_bipush (pc := 75) (by decide) d3_75 ?_
                refine x_iret (pc := 77) rfl (fun _ => rfl) d3_77 ?_
                rw [if_neg (by rw [g6]; decide), if_neg (by rw [g17]; decide), if_neg (by rw [g28]; decide), if_neg (by rw [g39]; decide), if_neg (by rw [g50]; decide), if_neg (by rw [g61]; decide), if_pos g72]
            · refine x_iconst (pc := 64) d3_64 ?_
              refine x_iret (pc := 65) rfl (fun _ => rfl) d3_65 ?_
              rw [if_neg (by rw [g6]; decide), if_neg (by rw [g17]; decide), if_neg (by rw [g28]; decide), if_neg (by rw [g39]; decide), if_neg (by rw [g50]; decide), if_pos g61]
          · refine x_iconst (pc := 53) d3_53 ?_
            refine x_iret (pc := 54) rfl (fun _ => rfl) d3_54 ?_
            rw [if_neg (by rw [g6]; decide), if_neg (by rw [g17]; decide), if_neg (by rw [g28]; decide), if_neg (by rw [g39]; decide), if_pos g50]
        · refine x_iconst (pc := 42) d3_42 ?_
          refine x_iret (pc := 43) rfl (fun _ => rfl) d3_43 ?_
          rw [if_neg (by rw [g6]; decide), if_neg (by rw [g17]; decide), if_neg (by rw [g28]; decide), if_pos g39]
      · refine x_iconst (pc := 31) d3_31 ?_
        refine x_iret (pc := 32) rfl (fun _ => rfl) d3_32 ?_
        rw [if_neg (by rw [g6]; decide), if_neg (by rw [g17]; decide), if_pos g28]
    · refine x_iconst (pc := 20) d3_20 ?_
      refine x_iret (pc := 21) rfl (fun _ => rfl) d3_21 ?_
      rw [if_neg (by rw [g6]; decide), if_pos g17]
  · refine x_iconst (pc := 9) d3_9 ?_
    refine x_iret (pc := 10) rfl (fun _ => rfl) d3_10 ?_
    rw [if_pos g6]
theorem dt_setArg (hl : l.1.stackTraces = false) (hq : 181 ≤ q) {cnt a b c : Int} (hc : I 6 0 = cnt) (h0 : 0 ≤ cnt) (h1 : cnt < 30) : DT l 7 [.ref 6, .int (iI a), .int (iI b), .int (iI c)] (mm q I v fr) 0 0 (.inl (some (.int (iI 1))), mm q (up2 (up2 (up2 I 8 cnt a) 9 cnt b) 10 cnt c) v fr) := by
  refine mkdt hl (by decide) (Nat.le_of_ble_eq_true rfl) (L := [some (.ref 6), some (.int (iI a)), some (.int (iI b)), some (.int (iI c))]) rfl ?_
  refine x_aload_n (pc := 0) rfl d7_0 ?_
  refine m_getI (pc := 1) (z := 0) f7_24 (by decide +kernel) rfl (ko6 (by omega)) d7_1 ?_
  refine x_val (pc := 4) (w := cnt) (hc) ?_
  refine x_if_lt (pc := 4) (tgt := 16) ⟨by omega, by omega⟩ d7_4 (by decide) (fun g4 => ?_) (fun g4 => ?_)
  · refine x_iconst (pc := 16) d7_16 ?_
    refine x_zret (pc := 17) rfl (Or.inl rfl) (fun _ => rfl) d7_17 ?_
    exfalso; omega
  · refine x_aload_n (pc := 7) rfl d7_7 ?_
    refine m_getI (pc := 8) (z := 0) f7_24 (by decide +kernel) rfl (ko6 (by omega)) d7_8 ?_
    refine x_val (pc := 11) (w := cnt) (hc) ?_
    refine x_bipush (pc := 11) (by decide) d7_11 ?_
    refine x_icmp_lt (pc := 13) (tgt := 18) ⟨by omega, by omega⟩ ⟨by omega, by omega⟩ d7_13 (by decide) (fun g13 => ?_) (fun g13 => ?_)
    · refine x_aload_n (pc := 18) rfl d7_18 ?_
      refine m_getR (pc := 19) f7_15 (by decide +kernel) (ko6 (by omega)) rr6_2 d7_19 ?_
      refine x_aload_n (pc := 22) rfl d7_22 ?_
      refine m_getI (pc := 23) (z := 0) f7_24 (by decide +kernel) rfl (ko6 (by omega)) d7_23 ?_
      refine x_val (pc := 26) (w := cnt) (hc) ?_
      refine x_iload_n (pc := 26) rfl d7_26 ?_
      refine m_iast (pc := 27) (ka8 (by omega)) (by omega) (by omega) (by omega) d7_27 ?_
      refine x_aload_n (pc := 28) rfl d7_28 ?_
      refine m_getR (pc := 29) f7_18 (by decide +kernel) (ko6 (by omega)) rr6_3 d7_29 ?_
      refine x_aload_n (pc := 32) rfl d7_32 ?_
      refine m_getW (pc := 33) (z := 0) (w := (I 6 0)) f7_24 (by decide +kernel) rfl (ko6 (by omega)) (by rw [up2_p (by omega)]) d7_33 ?_
      refine x_val (pc := 36) (w := cnt) (hc) ?_
      refine x_iload_n (pc := 36) rfl d7_36 ?_
      refine m_iast (pc := 37) (ka9 (by omega)) (by omega) (by omega) (by omega) d7_37 ?_
      refine x_aload_n (pc := 38) rfl d7_38 ?_
      refine m_getR (pc := 39) f7_21 (by decide +kernel) (ko6 (by omega)) rr6_4 d7_39 ?_
      refine x_aload_n (pc := 42) rfl d7_42 ?_
      refine m_getW (pc := 43) (z := 0) (w := (I 6 0)) f7_24 (by decide +kernel) rfl (ko6 (by omega)) (by rw [up2_p (by omega), up2_p (by omega)]) d7_43 ?_
      refine x_val (pc := 46) (w := cnt) (hc) ?_
      refine x_iload_n (pc := 46) rfl d7_46 ?_
      refine m_iast (pc := 47) (ka10 (by omega)) (by omega) (by omega) (by omega) d7_47 ?_
      refine x_iconst (pc := 48) d7_48 ?_
      refine x_zret (pc := 49) rfl (Or.inr rfl) (fun _ => rfl) d7_49 ?_
      rfl
    · refine x_iconst (pc := 16) d7_16 ?_
      refine x_zret (pc := 17) rfl (Or.inl rfl) (fun _ => rfl) d7_17 ?_
      exfalso; omega
/-- the memory behind a command's arguments -/
def AO (I K : Nat → Int → Int) (cnt : Int) (r : Int × Int × Int × Int × Int × Int) : Prop := (∀ a, a ≠ 5 → a ≠ 8 → a ≠ 9 → a ≠ 10 → K a = I a) ∧ (r.1 = 0 → K 5 3 = r.2.2.2.2.2 ∧ K 5 4 = I 5 4 ∧ K 5 5 = I 5 5 ∧ (∀ i, K 8 i = if i = cnt then r.2.2.1 else I 8 i) ∧ (∀ i, K 9 i = if i = cnt then r.2.2.2.1 else I 9 i) ∧ ∀ i, K 10 i = if i = cnt then r.2.2.2.2.1 else I 10 i) ∧ (r.1 ≠ 0 → K 5 4 = r.1 ∧ K 5 5 = r.2.1)
theorem ao_set {I K : Nat → Int → Int} {cnt a b c e : Int} (h0 : ∀ x, x ≠ 5 → K x = I x) (h3 : K 5 3 = e) (h4 : K 5 4 = I 5 4) (h5 : K 5 5 = I 5 5) : AO I (up2 (up2 (up2 K 8 cnt a) 9 cnt b) 10 cnt c) cnt (0, 0, a, b, c, e) := by
  refine ⟨fun x x5 x8 x9 x10 => ?_, fun _ => ⟨?_, ?_, ?_, fun i => ?_, fun i => ?_, fun i => ?_⟩, fun z => absurd rfl z⟩
  · rw [up2_off' _ _ _ x10, up2_off' _ _ _ x9, up2_off' _ _ _ x8]; exact h0 x x5
  · rw [up2_p (by decide), up2_p (by decide), up2_p (by decide)]; exact h3
  · rw [up2_p (by decide), up2_p (by decide), up2_p (by decide)]; exact h4
  · rw [up2_p (by decide), up2_p (by decide), up2_p (by decide)]; exact h5
  · rw [up2_p (by decide), up2_p (by decide), up2_q, h0 8 (by decide)]
  · rw [up2_p (by decide), up2_q, up2_p (by decide), h0 9 (by decide)]
  · rw [up2_q, up2_p (by decide), up2_p (by decide), h0 10 (by decide)]
theorem ao_no {I K : Nat → Int → Int} {cnt c s : Int} {r : Int × Int × Int × Int} (h0 : ∀ x, x ≠ 5 → K x = I x) (hc : c ≠ 0) (h4 : K 5 4 = c) (h5 : K 5 5 = s) : AO I K cnt (c, s, r) := ⟨fun x x5 _ _ _ => h0 x x5, fun z => absurd z hc, fun _ => ⟨h4, h5⟩⟩
theorem ct_readNum (hl : l.1.stackTraces = false) (hq : 181 ≤ q) (hX : TXT I T n) {lo hi e cnt : Int} (hlo : 0 ≤ lo ∧ lo ≤ 1000) (hhi : 0 ≤ hi ∧ hi ≤ 1000) (hc : I 6 0 = cnt) (hc0 : 0 ≤ cnt) (hc1 : cnt < 30) (he : I 5 3 = e) (he0 : 0 ≤ e) (he1 : e ≤ n) : CT l 6 [.ref 6, .ref 5, .int (iI lo), .int (iI hi)] (mm q I v fr) 0 0 (oE q v fr (some (.int (iI (b01 (decide ((numP T n lo hi e).1 = 0)))))) (fun K => AO I K cnt (pbind (numP T n lo hi e) (0, 0, 0, 0) fun x => (0, 0, x.1, 0, 0, x.2)))) := by
  refine mkct2 hl (by decide) (Nat.le_of_ble_eq_true rfl) (L := [some (.ref 6), some (.ref 5), some (.int (iI lo)), some (.int (iI hi)), none]) rfl ?_
  refine x_aload_n (pc := 0) rfl d6_0 ?_
  refine x_iload_n (pc := 1) rfl d6_1 ?_
  refine x_iload_n (pc := 2) rfl d6_2 ?_
  refine x_cVes (pc := 3) c6_107 (ct_num hl hq hX (lo := lo) (hi := hi) (e := e) (by omega) (by omega) he he0 he1) (ko5 (by omega)) rfl rfl (Nat.le_of_ble_eq_true rfl) (by decide +kernel) (by decide +kernel) d6_3 (fun J1 hJ1 => ?_)
  obtain ⟨z1, hz1⟩ : ∃ z : Int, z = (if (numP T n lo hi e).1 = 0 then (numP T n lo hi e).2.2.1 else -1) := ⟨_, rfl⟩
  rw [← hz1]
  have wz1 := num_z he0 he1 hz1
  have hcj : J1 6 0 = cnt := by rw [hJ1.1 6 (by decide)]; exact hc
  refine x_istore (pc := 6) (by decide +kernel) rfl d6_6 ?_
  dsimp only [List.set]
  refine x_iload (pc := 8) rfl d6_8 ?_
  refine x_iconst (pc := 10) d6_10 ?_
  refine x_icmp_eq (pc := 11) (tgt := 29) ⟨by omega, by omega⟩ ⟨by omega, by omega⟩ d6_11 (by decide) (fun g11 => ?_) (fun g11 => ?_)
  · refine x_iconst (pc := 29) d6_29 ?_
    refine x_zret (pc := 30) rfl (Or.inl rfl) (fun _ => rfl) d6_30 ?_
    have c1 : (numP T n lo hi e).1 ≠ 0 := by omega
    rw [pbind_no c1, decide_eq_false c1]
    exact ⟨_, rfl, ao_no hJ1.1 c1 (hJ1.2.2.2 c1).1 (hJ1.2.2.2 c1).2⟩
  · refine x_aload_n (pc := 14) rfl d6_14 ?_
    refine x_iload (pc := 15) rfl d6_15 ?_
    refine x_iconst (pc := 17) d6_17 ?_
    refine x_iconst (pc := 18) d6_18 ?_
    refine x_cVs (pc := 19) c6_97 (dt_setArg hl hq (cnt := cnt) hcj hc0 hc1) (ko6 (by omega)) rfl rfl (Nat.le_of_ble_eq_true rfl) (by decide +kernel) (by decide +kernel) rfl d6_19 ?_
    refine x_if_eq (pc := 22) (tgt := 29) ⟨by omega, by omega⟩ d6_22 (by decide) (fun z => absurd z (by decide)) (fun _ => ?_)
    refine x_iconst (pc := 25) d6_25 ?_
    refine x_goto (pc := 26) (tgt := 30) d6_26 (by decide) ?_
    refine x_zret (pc := 30) rfl (Or.inr rfl) (fun _ => rfl) d6_30 ?_
    have c1 : (numP T n lo hi e).1 = 0 := by omega
    have ez : (numP T n lo hi e).2.2.1 = z1 := by omega
    have q1 := hJ1.2.2.1 c1
    rw [pbind_ok c1, decide_eq_true c1, ez]
    exact ⟨_, rfl, ao_set hJ1.1 q1.1 q1.2.1 q1.2.2⟩
theorem ct_readWord (hl : l.1.stackTraces = false) (hq : 181 ≤ q) (hX : TXT I T n) {e cnt : Int} (hc : I 6 0 = cnt) (hc0 : 0 ≤ cnt) (hc1 : cnt < 30) (he : I 5 3 = e) (he0 : 0 ≤ e) (he1 : e ≤ n) : CT l 5 [.ref 6, .ref 5] (mm q I v fr) 0 0 (oE q v fr (some (.int (iI (b01 (decide ((argP T n 0 e).1 = 0)))))) (fun K => AO I K cnt (argP T n 0 e))) := by
  have hr := tok_r (T := T) he1
  obtain ⟨hn0, hn1⟩ := hX.2.2.1
  have ea : argP T n 0 e = if tK T n e ≠ 1 then (1, tS T n e, 0, 0, 0, 0) else if 16 < tE T n e - tS T n e then (3, tS T n e, 0, 0, 0, 0) else (0, 0, tS T n e, tE T n e - tS T n e, 0, tE T n e) := rfl
  rw [ea]
  refine mkct2 hl (by decide) (Nat.le_of_ble_eq_true rfl) (L := [some (.ref 6), some (.ref 5)]) rfl ?_
  refine x_aload_n (pc := 0) rfl d5_0 ?_
  refine x_cVev (pc := 1) c5_33 (ct_nextX hl hq hX he he0 he1) (ko5 (by omega)) rfl rfl (Nat.le_of_ble_eq_true rfl) (by decide +kernel) (by decide +kernel) d5_1 (fun J1 hJ1 => ?_)
  obtain ⟨j1, j2, j3, j4⟩ := hJ1
  have hcj : J1 6 0 = cnt := by rw [j1.1 6 (by decide)]; exact hc
  refine x_aload_n (pc := 4) rfl d5_4 ?_
  refine m_getI (pc := 5) (z := 1) f5_36 (by decide +kernel) rfl (ko5 (by omega)) d5_5 ?_
  refine x_val (pc := 8) (w := (tK T n e)) (j2) ?_
  refine x_iconst (pc := 8) d5_8 ?_
  refine x_icmp_eq (pc := 9) (tgt := 18) ⟨by omega, by omega⟩ ⟨by omega, by omega⟩ d5_9 (by decide) (fun g9 => ?_) (fun g9 => ?_)
  · refine x_aload_n (pc := 18) rfl d5_18 ?_
    refine m_getI (pc := 19) (z := 3) f5_101 (by decide +kernel) rfl (ko5 (by omega)) d5_19 ?_
    refine x_val (pc := 22) (w := (tE T n e)) (j4) ?_
    refine x_aload_n (pc := 22) rfl d5_22 ?_
    refine m_getI (pc := 23) (z := 2) f5_104 (by decide +kernel) rfl (ko5 (by omega)) d5_23 ?_
    refine x_val (pc := 26) (w := (tS T n e)) (j3) ?_
    refine x_isub (pc := 26) d5_26 ?_
    refine x_bipush (pc := 27) (by decide) d5_27 ?_
    refine x_icmp_le (pc := 29) (tgt := 38) ⟨by omega, by omega⟩ ⟨by omega, by omega⟩ d5_29 (by decide) (fun g29 => ?_) (fun g29 => ?_)
    · refine x_aload_n (pc := 38) rfl d5_38 ?_
      refine x_aload_n (pc := 39) rfl d5_39 ?_
      refine m_getI (pc := 40) (z := 2) f5_104 (by decide +kernel) rfl (ko5 (by omega)) d5_40 ?_
      refine x_val (pc := 43) (w := (tS T n e)) (j3) ?_
      refine x_aload_n (pc := 43) rfl d5_43 ?_
      refine m_getI (pc := 44) (z := 3) f5_101 (by decide +kernel) rfl (ko5 (by omega)) d5_44 ?_
      refine x_val (pc := 47) (w := (tE T n e)) (j4) ?_
      refine x_aload_n (pc := 47) rfl d5_47 ?_
      refine m_getI (pc := 48) (z := 2) f5_104 (by decide +kernel) rfl (ko5 (by omega)) d5_48 ?_
      refine x_val (pc := 51) (w := (tS T n e)) (j3) ?_
      refine x_isub (pc := 51) d5_51 ?_
      refine x_iconst (pc := 52) d5_52 ?_
      refine x_cVs (pc := 53) c5_97 (dt_setArg hl hq (cnt := cnt) hcj hc0 hc1) (ko6 (by omega)) rfl rfl (Nat.le_of_ble_eq_true rfl) (by decide +kernel) (by decide +kernel) rfl d5_53 ?_
      refine x_zret (pc := 56) rfl (Or.inr rfl) (fun _ => rfl) d5_56 ?_
      rw [if_neg (by omega), if_neg (by omega)]
      exact ⟨_, rfl, ao_set j1.1 j4 (j1.2 4 (by decide) (by decide) (by decide)) (j1.2 5 (by decide) (by decide) (by decide))⟩
    · refine x_aload_n (pc := 32) rfl d5_32 ?_
      refine x_iconst (pc := 33) d5_33 ?_
      refine x_cVs (pc := 34) c5_47 (dt_fail hl hq (s := (tS T n e)) (j3)) (ko5 (by omega)) rfl rfl (Nat.le_of_ble_eq_true rfl) (by decide +kernel) (by decide +kernel) rfl d5_34 ?_
      refine x_zret (pc := 37) rfl (Or.inl rfl) (fun _ => rfl) d5_37 ?_
      rw [if_neg (by omega), if_pos (by omega)]
      exact ⟨_, rfl, ao_no (fun x hx => by rw [up2_off' _ _ _ hx, up2_off' _ _ _ hx]; exact j1.1 x hx) (by decide) (by rw [up2_i (by decide), up2_s]) up2_s⟩
  · refine x_aload_n (pc := 12) rfl d5_12 ?_
    refine x_iconst (pc := 13) d5_13 ?_
    refine x_cVs (pc := 14) c5_47 (dt_fail hl hq (s := (tS T n e)) (j3)) (ko5 (by omega)) rfl rfl (Nat.le_of_ble_eq_true rfl) (by decide +kernel) (by decide +kernel) rfl d5_14 ?_
    refine x_zret (pc := 17) rfl (Or.inl rfl) (fun _ => rfl) d5_17 ?_
    rw [if_pos (by omega)]
    exact ⟨_, rfl, ao_no (fun x hx => by rw [up2_off' _ _ _ hx, up2_off' _ _ _ hx]; exact j1.1 x hx) (by decide) (by rw [up2_i (by decide), up2_s]) up2_s⟩
theorem ct_args0 (hl : l.1.stackTraces = false) (hq : 181 ≤ q) (hX : TXT I T n) {e cnt : Int} (hc : I 6 0 = cnt) (hc0 : 0 ≤ cnt) (hc1 : cnt < 30) (he : I 5 3 = e) (he0 : 0 ≤ e) (he1 : e ≤ n) : CT l 4 [.ref 6, .ref 5, .int (iI 0)] (mm q I v fr) 0 0 (oE q v fr (some (.int (iI (b01 (decide ((argP T n 0 e).1 = 0)))))) (fun K => AO I K cnt (argP T n 0 e))) := by
  refine mkct2 hl (by decide) (Nat.le_of_ble_eq_true rfl) (L := [some (.ref 6), some (.ref 5), some (.int (iI 0))]) rfl ?_
  refine x_iload_n (pc := 0) rfl d4_0 ?_
  refine x_tabIn (pc := 1) (tgt := 44) ⟨by omega, by omega⟩ d4_1 (by decide) (by decide) rfl (by decide) ?_
  refine x_aload_n (pc := 44) rfl d4_44 ?_
  refine x_aload_n (pc := 45) rfl d4_45 ?_
  refine x_cVes (pc := 46) c4_79 (ct_readWord hl hq hX hc hc0 hc1 he he0 he1) (ko6 (by omega)) rfl rfl (Nat.le_of_ble_eq_true rfl) (by decide +kernel) (by decide +kernel) d4_46 (fun J1 hJ1 => ?_)
  refine x_zret (pc := 49) rfl (b01_or _) (fun _ => rfl) d4_49 ?_
  exact ⟨_, rfl, hJ1⟩
theorem ct_args1 (hl : l.1.stackTraces = false) (hq : 181 ≤ q) (hX : TXT I T n) {e cnt : Int} (hc : I 6 0 = cnt) (hc0 : 0 ≤ cnt) (hc1 : cnt < 30) (he : I 5 3 = e) (he0 : 0 ≤ e) (he1 : e ≤ n) : CT l 4 [.ref 6, .ref 5, .int (iI 1)] (mm q I v fr) 0 0 (oE q v fr (some (.int (iI (b01 (decide ((argP T n 1 e).1 = 0)))))) (fun K => AO I K cnt (argP T n 1 e))) := by
  have ea : argP T n 1 e = pbind (numP T n 1 60 e) (0, 0, 0, 0) fun x => (0, 0, x.1, 0, 0, x.2) := rfl
  have ec : decide ((argP T n 1 e).1 = 0) = decide ((numP T n 1 60 e).1 = 0) := by
    rw [ea]
    by_cases c : (numP T n 1 60 e).1 = 0
    · rw [pbind_ok c, decide_eq_true c]; rfl
    · rw [pbind_no c]
  rw [ec, ea]
  refine mkct2 hl (by decide) (Nat.le_of_ble_eq_true rfl) (L := [some (.ref 6), some (.ref 5), some (.int (iI 1))]) rfl ?_
  refine x_iload_n (pc := 0) rfl d4_0 ?_
  refine x_tabIn (pc := 1) (tgt := 50) ⟨by omega, by omega⟩ d4_1 (by decide) (by decide) rfl (by decide) ?_
  refine x_aload_n (pc := 50) rfl d4_50 ?_
  refine x_aload_n (pc := 51) rfl d4_51 ?_
  refine x_iconst (pc := 52) d4_52 ?_
  refine x_bipush (pc := 53) (by decide) d4_53 ?_
  refine x_cVes (pc := 55) c4_82 (ct_readNum hl hq hX (lo := 1) (hi := 60) (by decide) (by decide) hc hc0 hc1 he he0 he1) (ko6 (by omega)) rfl rfl (Nat.le_of_ble_eq_true rfl) (by decide +kernel) (by decide +kernel) d4_55 (fun J1 hJ1 => ?_)
  refine x_zret (pc := 58) rfl (b01_or _) (fun _ => rfl) d4_58 ?_
  exact ⟨_, rfl, hJ1⟩
theorem ct_args2 (hl : l.1.stackTraces = false) (hq : 181 ≤ q) (hX : TXT I T n) {e cnt : Int} (hc : I 6 0 = cnt) (hc0 : 0 ≤ cnt) (hc1 : cnt < 30) (he : I 5 3 = e) (he0 : 0 ≤ e) (he1 : e ≤ n) : CT l 4 [.ref 6, .ref 5, .int (iI 2)] (mm q I v fr) 0 0 (oE q v fr (some (.int (iI (b01 (decide ((argP T n 2 e).1 = 0)))))) (fun K => AO I K cnt (argP T n 2 e))) := by
  have ea : argP T n 2 e = pbind (numP T n 0 11 e) (0, 0, 0, 0) fun x => (0, 0, x.1, 0, 0, x.2) := rfl
  have ec : decide ((argP T n 2 e).1 = 0) = decide ((numP T n 0 11 e).1 = 0) := by
    rw [ea]
    by_cases c : (numP T n 0 11 e).1 = 0
    · rw [pbind_ok c, decide_eq_true c]; rfl
    · rw [pbind_no c]
  rw [ec, ea]
  refine mkct2 hl (by decide) (Nat.le_of_ble_eq_true rfl) (L := [some (.ref 6), some (.ref 5), some (.int (iI 2))]) rfl ?_
  refine x_iload_n (pc := 0) rfl d4_0 ?_
  refine x_tabIn (pc := 1) (tgt := 59) ⟨by omega, by omega⟩ d4_1 (by decide) (by decide) rfl (by decide) ?_
  refine x_aload_n (pc := 59) rfl d4_59 ?_
  refine x_aload_n (pc := 60) rfl d4_60 ?_
  refine x_iconst (pc := 61) d4_61 ?_
  refine x_bipush (pc := 62) (by decide) d4_62 ?_
  refine x_cVes (pc := 64) c4_82 (ct_readNum hl hq hX (lo := 0) (hi := 11) (by decide) (by decide) hc hc0 hc1 he he0 he1) (ko6 (by omega)) rfl rfl (Nat.le_of_ble_eq_true rfl) (by decide +kernel) (by decide +kernel) d4_64 (fun J1 hJ1 => ?_)
  refine x_zret (pc := 67) rfl (b01_or _) (fun _ => rfl) d4_67 ?_
  exact ⟨_, rfl, hJ1⟩
theorem ct_args3 (hl : l.1.stackTraces = false) (hq : 181 ≤ q) (hX : TXT I T n) {e cnt : Int} (hc : I 6 0 = cnt) (hc0 : 0 ≤ cnt) (hc1 : cnt < 30) (he : I 5 3 = e) (he0 : 0 ≤ e) (he1 : e ≤ n) : CT l 4 [.ref 6, .ref 5, .int (iI 3)] (mm q I v fr) 0 0 (oE q v fr (some (.int (iI (b01 (decide ((argP T n 3 e).1 = 0)))))) (fun K => AO I K cnt (argP T n 3 e))) := by
  have ea : argP T n 3 e = pbind (numP T n 0 11 e) (0, 0, 0, 0) fun x => (0, 0, x.1, 0, 0, x.2) := rfl
  have ec : decide ((argP T n 3 e).1 = 0) = decide ((numP T n 0 11 e).1 = 0) := by
    rw [ea]
    by_cases c : (numP T n 0 11 e).1 = 0
    · rw [pbind_ok c, decide_eq_true c]; rfl
    · rw [pbind_no c]
  rw [ec, ea]
  refine mkct2 hl (by decide) (Nat.le_of_ble_eq_true rfl) (L := [some (.ref 6), some (.ref 5), some (.int (iI 3))]) rfl ?_
  refine x_iload_n (pc := 0) rfl d4_0 ?_
  refine x_tabIn (pc := 1) (tgt := 59) ⟨by omega, by omega⟩ d4_1 (by decide) (by decide) rfl (by decide) ?_
  refine x_aload_n (pc := 59) rfl d4_59 ?_
  refine x_aload_n (pc := 60) rfl d4_60 ?_
  refine x_iconst (pc := 61) d4_61 ?_
  refine x_bipush (pc := 62) (by decide) d4_62 ?_
  refine x_cVes (pc := 64) c4_82 (ct_readNum hl hq hX (lo := 0) (hi := 11) (by decide) (by decide) hc hc0 hc1 he he0 he1) (ko6 (by omega)) rfl rfl (Nat.le_of_ble_eq_true rfl) (by decide +kernel) (by decide +kernel) d4_64 (fun J1 hJ1 => ?_)
  refine x_zret (pc := 67) rfl (b01_or _) (fun _ => rfl) d4_67 ?_
  exact ⟨_, rfl, hJ1⟩
theorem ct_args4 (hl : l.1.stackTraces = false) (hq : 181 ≤ q) (hX : TXT I T n) {e cnt : Int} (hc : I 6 0 = cnt) (hc0 : 0 ≤ cnt) (hc1 : cnt < 30) (he : I 5 3 = e) (he0 : 0 ≤ e) (he1 : e ≤ n) : CT l 4 [.ref 6, .ref 5, .int (iI 4)] (mm q I v fr) 0 0 (oE q v fr (some (.int (iI (b01 (decide ((argP T n 4 e).1 = 0)))))) (fun K => AO I K cnt (argP T n 4 e))) := by
  have ea : argP T n 4 e = pbind (numP T n 1 999 e) (0, 0, 0, 0) fun x => (0, 0, x.1, 0, 0, x.2) := rfl
  have ec : decide ((argP T n 4 e).1 = 0) = decide ((numP T n 1 999 e).1 = 0) := by
    rw [ea]
    by_cases c : (numP T n 1 999 e).1 = 0
    · rw [pbind_ok c, decide_eq_true c]; rfl
    · rw [pbind_no c]
  rw [ec, ea]
  refine mkct2 hl (by decide) (Nat.le_of_ble_eq_true rfl) (L := [some (.ref 6), some (.ref 5), some (.int (iI 4))]) rfl ?_
  refine x_iload_n (pc := 0) rfl d4_0 ?_
  refine x_tabIn (pc := 1) (tgt := 68) ⟨by omega, by omega⟩ d4_1 (by decide) (by decide) rfl (by decide) ?_
  refine x_aload_n (pc := 68) rfl d4_68 ?_
  refine x_aload_n (pc := 69) rfl d4_69 ?_
  refine x_iconst (pc := 70) d4_70 ?_
  refine x_sipush (pc := 71) (by decide) d4_71 ?_
  refine x_cVes (pc := 74) c4_82 (ct_readNum hl hq hX (lo := 1) (hi := 999) (by decide) (by decide) hc hc0 hc1 he he0 he1) (ko6 (by omega)) rfl rfl (Nat.le_of_ble_eq_true rfl) (by decide +kernel) (by decide +kernel) d4_74 (fun J1 hJ1 => ?_)
  refine x_zret (pc := 77) rfl (b01_or _) (fun _ => rfl) d4_77 ?_
  exact ⟨_, rfl, hJ1⟩
theorem ct_args5 (hl : l.1.stackTraces = false) (hq : 181 ≤ q) (hX : TXT I T n) {e cnt : Int} (hc : I 6 0 = cnt) (hc0 : 0 ≤ cnt) (hc1 : cnt < 30) (he : I 5 3 = e) (he0 : 0 ≤ e) (he1 : e ≤ n) : CT l 4 [.ref 6, .ref 5, .int (iI 5)] (mm q I v fr) 0 0 (oE q v fr (some (.int (iI (b01 (decide ((argP T n 5 e).1 = 0)))))) (fun K => AO I K cnt (argP T n 5 e))) := by
  have ea : argP T n 5 e = pbind (numP T n 1 199 e) (0, 0, 0, 0) fun x => (0, 0, x.1, 0, 0, x.2) := rfl
  have ec : decide ((argP T n 5 e).1 = 0) = decide ((numP T n 1 199 e).1 = 0) := by
    rw [ea]
    by_cases c : (numP T n 1 199 e).1 = 0
    · rw [pbind_ok c, decide_eq_true c]; rfl
    · rw [pbind_no c]
  rw [ec, ea]
  refine mkct2 hl (by decide) (Nat.le_of_ble_eq_true rfl) (L := [some (.ref 6), some (.ref 5), some (.int (iI 5))]) rfl ?_
  refine x_iload_n (pc := 0) rfl d4_0 ?_
  refine x_tabIn (pc := 1) (tgt := 78) ⟨by omega, by omega⟩ d4_1 (by decide) (by decide) rfl (by decide) ?_
  refine x_aload_n (pc := 78) rfl d4_78 ?_
  refine x_aload_n (pc := 79) rfl d4_79 ?_
  refine x_iconst (pc := 80) d4_80 ?_
  refine x_sipush (pc := 81) (by decide) d4_81 ?_
  refine x_cVes (pc := 84) c4_82 (ct_readNum hl hq hX (lo := 1) (hi := 199) (by decide) (by decide) hc hc0 hc1 he he0 he1) (ko6 (by omega)) rfl rfl (Nat.le_of_ble_eq_true rfl) (by decide +kernel) (by decide +kernel) d4_84 (fun J1 hJ1 => ?_)
  refine x_zret (pc := 87) rfl (b01_or _) (fun _ => rfl) d4_87 ?_
  exact ⟨_, rfl, hJ1⟩
theorem ct_args6 (hl : l.1.stackTraces = false) (hq : 181 ≤ q) (hX : TXT I T n) {e cnt : Int} (hc : I 6 0 = cnt) (hc0 : 0 ≤ cnt) (hc1 : cnt < 30) (he : I 5 3 = e) (he0 : 0 ≤ e) (he1 : e ≤ n) : CT l 4 [.ref 6, .ref 5, .int (iI 6)] (mm q I v fr) 0 0 (oE q v fr (some (.int (iI (b01 (decide ((argP T n 6 e).1 = 0)))))) (fun K => AO I K cnt (argP T n 6 e))) := by
  have ea : argP T n 6 e = dogP T n e := rfl
  rw [ea]
  refine mkct2 hl (by decide) (Nat.le_of_ble_eq_true rfl) (L := [some (.ref 6), some (.ref 5), some (.int (iI 6))]) rfl ?_
  refine x_iload_n (pc := 0) rfl d4_0 ?_
  refine x_tabIn (pc := 1) (tgt := 88) ⟨by omega, by omega⟩ d4_1 (by decide) (by decide) rfl (by decide) ?_
  refine x_aload_n (pc := 88) rfl d4_88 ?_
  refine x_cVes (pc := 89) c4_86 (ct_dog hl hq hX he he0 he1) (ko5 (by omega)) rfl rfl (Nat.le_of_ble_eq_true rfl) (by decide +kernel) (by decide +kernel) d4_89 (fun J1 hJ1 => ?_)
  refine x_ifB_eq (pc := 92) (tgt := 118) d4_92 (by decide) (fun g92 => ?_) (fun g92 => ?_)
  · refine x_iconst (pc := 118) d4_118 ?_
    refine x_zret (pc := 119) rfl (Or.inl rfl) (fun _ => rfl) d4_119 ?_
    have c1 := of_decide_eq_false g92
    obtain ⟨d0, d1, d2⟩ := hJ1
    rw [decide_eq_false c1]
    exact ⟨_, rfl, fun a a5 _ _ _ => d0 a a5, fun z => absurd z c1, fun _ => d2 c1⟩
  · have c1 := of_decide_eq_true g92
    obtain ⟨d0, d1, d2⟩ := hJ1
    obtain ⟨k3, k4, k5, k6, k7, k8⟩ := d1 c1
    have hcj : J1 6 0 = cnt := by rw [d0 6 (by decide)]; exact hc
    refine x_aload_n (pc := 95) rfl d4_95 ?_
    refine x_aload_n (pc := 96) rfl d4_96 ?_
    refine m_getI (pc := 97) (z := 6) f4_88 (by decide +kernel) rfl (ko5 (by omega)) d4_97 ?_
    refine x_val (pc := 100) (w := ((dogP T n e).2.2.1)) (k6) ?_
    refine x_aload_n (pc := 100) rfl d4_100 ?_
    refine m_getI (pc := 101) (z := 7) f4_91 (by decide +kernel) rfl (ko5 (by omega)) d4_101 ?_
    refine x_val (pc := 104) (w := ((dogP T n e).2.2.2.1)) (k7) ?_
    refine x_aload_n (pc := 104) rfl d4_104 ?_
    refine m_getI (pc := 105) (z := 8) f4_94 (by decide +kernel) rfl (ko5 (by omega)) d4_105 ?_
    refine x_val (pc := 108) (w := ((dogP T n e).2.2.2.2.1)) (k8) ?_
    refine x_cVs (pc := 108) c4_97 (dt_setArg hl hq (cnt := cnt) hcj hc0 hc1) (ko6 (by omega)) rfl rfl (Nat.le_of_ble_eq_true rfl) (by decide +kernel) (by decide +kernel) rfl d4_108 ?_
    refine x_if_eq (pc := 111) (tgt := 118) ⟨by omega, by omega⟩ d4_111 (by decide) (fun z => absurd z (by decide)) (fun _ => ?_)
    refine x_iconst (pc := 114) d4_114 ?_
    refine x_goto (pc := 115) (tgt := 119) d4_115 (by decide) ?_
    refine x_zret (pc := 119) rfl (Or.inr rfl) (fun _ => rfl) d4_119 ?_
    have er : dogP T n e = (0, 0, (dogP T n e).2.2.1, (dogP T n e).2.2.2.1, (dogP T n e).2.2.2.2.1, (dogP T n e).2.2.2.2.2) := by
      have h2 : (dogP T n e).2.1 = 0 := dogP_0 c1
      exact Prod.ext c1 (Prod.ext h2 rfl)
    rw [decide_eq_true c1, er]
    exact ⟨_, rfl, ao_set d0 k3 k4 k5⟩
theorem ct_args7 (hl : l.1.stackTraces = false) (hq : 181 ≤ q) (hX : TXT I T n) {e cnt : Int} (hc : I 6 0 = cnt) (hc0 : 0 ≤ cnt) (hc1 : cnt < 30) (he : I 5 3 = e) (he0 : 0 ≤ e) (he1 : e ≤ n) : CT l 4 [.ref 6, .ref 5, .int (iI 7)] (mm q I v fr) 0 0 (oE q v fr (some (.int (iI (b01 (decide ((argP T n 7 e).1 = 0)))))) (fun K => AO I K cnt (argP T n 7 e))) := by
  have ea : argP T n 7 e = pbind (numP T n 0 2 e) (0, 0, 0, 0) fun x => (0, 0, x.1, 0, 0, x.2) := rfl
  have ec : decide ((argP T n 7 e).1 = 0) = decide ((numP T n 0 2 e).1 = 0) := by
    rw [ea]
    by_cases c : (numP T n 0 2 e).1 = 0
    · rw [pbind_ok c, decide_eq_true c]; rfl
    · rw [pbind_no c]
  rw [ec, ea]
  refine mkct2 hl (by decide) (Nat.le_of_ble_eq_true rfl) (L := [some (.ref 6), some (.ref 5), some (.int (iI 7))]) rfl ?_
  refine x_iload_n (pc := 0) rfl d4_0 ?_
  refine x_tabOut (pc := 1) (tgt := 120) ⟨by omega, by omega⟩ d4_1 (by decide) (by decide) ?_
  refine x_aload_n (pc := 120) rfl d4_120 ?_
  refine x_aload_n (pc := 121) rfl d4_121 ?_
  refine x_iconst (pc := 122) d4_122 ?_
  refine x_iconst (pc := 123) d4_123 ?_
  refine x_cVes (pc := 124) c4_82 (ct_readNum hl hq hX (lo := 0) (hi := 2) (by decide) (by decide) hc hc0 hc1 he he0 he1) (ko6 (by omega)) rfl rfl (Nat.le_of_ble_eq_true rfl) (by decide +kernel) (by decide +kernel) d4_124 (fun J1 hJ1 => ?_)
  refine x_zret (pc := 127) rfl (b01_or _) (fun _ => rfl) d4_127 ?_
  exact ⟨_, rfl, hJ1⟩
theorem ct_args (hl : l.1.stackTraces = false) (hq : 181 ≤ q) (hX : TXT I T n) {e cnt : Int} (hc : I 6 0 = cnt) (hc0 : 0 ≤ cnt) (hc1 : cnt < 30) (he : I 5 3 = e) (he0 : 0 ≤ e) (he1 : e ≤ n) {nm : Int} (h0 : 0 ≤ nm) (h7 : nm ≤ 7) : CT l 4 [.ref 6, .ref 5, .int (iI nm)] (mm q I v fr) 0 0 (oE q v fr (some (.int (iI (b01 (decide ((argP T n nm e).1 = 0)))))) (fun K => AO I K cnt (argP T n nm e))) := by
  have : nm = 0 ∨ nm = 1 ∨ nm = 2 ∨ nm = 3 ∨ nm = 4 ∨ nm = 5 ∨ nm = 6 ∨ nm = 7 := by omega
  rcases this with rfl | rfl | rfl | rfl | rfl | rfl | rfl | rfl
  · exact ct_args0 hl hq hX hc hc0 hc1 he he0 he1
  · exact ct_args1 hl hq hX hc hc0 hc1 he he0 he1
  · exact ct_args2 hl hq hX hc hc0 hc1 he he0 he1
  · exact ct_args3 hl hq hX hc hc0 hc1 he he0 he1
  · exact ct_args4 hl hq hX hc hc0 hc1 he he0 he1
  · exact ct_args5 hl hq hX hc hc0 hc1 he he0 he1
  · exact ct_args6 hl hq hX hc hc0 hc1 he he0 he1
  · exact ct_args7 hl hq hX hc hc0 hc1 he he0 he1
end Cmd
