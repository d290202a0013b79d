/-! ===== a dog's numbers; a configuration ===== -/
theorem num_z {T : Int → Int} {n lo hi e z : Int} (h0 : 0 ≤ e) (h1 : e ≤ n) (hz : z = if (numP T n lo hi e).1 = 0 then (numP T n lo hi e).2.2.1 else -1) : ((numP T n lo hi e).1 = 0 ∧ z = (numP T n lo hi e).2.2.1 ∧ lo ≤ z ∧ z ≤ hi ∧ 0 ≤ z ∧ z ≤ 999 ∧ 0 ≤ (numP T n lo hi e).2.2.2 ∧ (numP T n lo hi e).2.2.2 ≤ n) ∨ ((numP T n lo hi e).1 ≠ 0 ∧ z = -1) := by
  have hr := numP_r (T := T) (lo := lo) (hi := hi) h0 h1
  by_cases c : (numP T n lo hi e).1 = 0
  · rw [if_pos c] at hz
    have := hr.1 c
    exact Or.inl (by omega)
  · rw [if_neg c] at hz
    exact Or.inr ⟨c, hz⟩
/-- the memory behind a dog's numbers -/
def PD (I K : Nat → Int → Int) (r : Int × Int × Int × Int × Int × Int) : Prop := (∀ a, a ≠ 5 → K a = I a) ∧ (r.1 = 0 → K 5 3 = r.2.2.2.2.2 ∧ K 5 4 = I 5 4 ∧ K 5 5 = I 5 5 ∧ K 5 6 = r.2.2.1 ∧ K 5 7 = r.2.2.2.1 ∧ K 5 8 = r.2.2.2.2.1) ∧ (r.1 ≠ 0 → K 5 4 = r.1 ∧ K 5 5 = r.2.1)
theorem TXT.up {I : Nat → Int → Int} {T : Int → Int} {n j z : Int} (h : TXT I T n) : TXT (up2 I 5 j z) T n := h.of (up2_off' _ _ _ (by decide)) (up2_off' _ _ _ (by decide))
section Dog
variable {l : LX} {q p : Nat} {I : Nat → Int → Int} {v : Int} {fr : Bool} {T : Int → Int} {n : Int}
theorem ct_dog (hl : l.1.stackTraces = false) (hq : 181 ≤ q) (hX : TXT I T n) {e : Int} (he : I 5 3 = e) (he0 : 0 ≤ e) (he1 : e ≤ n) : CT l 74 [.ref 5] (mm q I v fr) 0 0 (oE q v fr (some (.int (iI (b01 (decide ((dogP T n e).1 = 0)))))) (fun K => PD I K (dogP T n e))) := by
  refine mkct2 hl (by decide) (Nat.le_of_ble_eq_true rfl) (L := [some (.ref 5)]) rfl ?_
  refine x_aload_n (pc := 0) rfl d74_0 ?_
  refine x_aload_n (pc := 1) rfl d74_1 ?_
  refine x_iconst (pc := 2) d74_2 ?_
  refine x_sipush (pc := 3) (by decide) d74_3 ?_
  refine x_cVes (pc := 6) c74_59 (ct_num hl hq hX (lo := 2) (hi := 999) (e := e) (by omega) (by omega) he he0 he1) (ko5 (by omega)) rfl rfl (Nat.le_of_ble_eq_true rfl) (by decide +kernel) (by decide +kernel) d74_6 (fun J1 hJ1 => ?_)
  obtain ⟨z1, hz1⟩ : ∃ z : Int, z = (if (numP T n 2 999 e).1 = 0 then (numP T n 2 999 e).2.2.1 else -1) := ⟨_, rfl⟩
  rw [← hz1]
  have wz1 := num_z he0 he1 hz1
  refine m_putI (pc := 9) (z := 6) f74_63 (by decide +kernel) (by decide +kernel) rfl (ko5 (by omega)) d74_9 ?_
  refine x_aload_n (pc := 12) rfl d74_12 ?_
  refine m_getW (pc := 13) (z := 6) (w := z1) f74_63 (by decide +kernel) rfl (ko5 (by omega)) (by rw [up2_s]) d74_13 ?_
  refine x_iconst (pc := 16) d74_16 ?_
  refine x_icmp_ne (pc := 17) (tgt := 22) ⟨by omega, by omega⟩ ⟨by omega, by omega⟩ d74_17 (by decide) (fun g17 => ?_) (fun g17 => ?_)
  · refine x_aload_n (pc := 22) rfl d74_22 ?_
    refine x_aload_n (pc := 23) rfl d74_23 ?_
    refine x_iconst (pc := 24) d74_24 ?_
    refine x_aload_n (pc := 25) rfl d74_25 ?_
    refine m_getW (pc := 26) (z := 6) (w := z1) f74_63 (by decide +kernel) rfl (ko5 (by omega)) (by rw [up2_s]) d74_26 ?_
    refine x_iconst (pc := 29) d74_29 ?_
    refine x_isub (pc := 30) d74_30 ?_
    obtain ⟨M1, hM1⟩ : ∃ Z : Nat → Int → Int, Z = (up2 J1 5 6 z1) := ⟨_, rfl⟩
    refine x_mem (J := M1) (pc := 31) hM1 ?_
    have hX1 : TXT M1 T n := by rw [hM1]; exact (hX.po hJ1).up
    have k1 : M1 5 3 = (numP T n 2 999 e).2.2.2 := by rw [hM1, up2_i (by decide)]; exact (hJ1.2.2.1 (by omega)).1
    refine x_cVes (pc := 31) c74_59 (ct_num hl hq hX1 (lo := 1) (hi := (z1 - 1)) (e := (numP T n 2 999 e).2.2.2) (by omega) (by omega) k1 (by omega) (by omega)) (ko5 (by omega)) rfl rfl (Nat.le_of_ble_eq_true rfl) (by decide +kernel) (by decide +kernel) d74_31 (fun J2 hJ2 => ?_)
    obtain ⟨z2, hz2⟩ : ∃ z : Int, z = (if (numP T n 1 (z1 - 1) ((numP T n 2 999 e).2.2.2)).1 = 0 then (numP T n 1 (z1 - 1) ((numP T n 2 999 e).2.2.2)).2.2.1 else -1) := ⟨_, rfl⟩
    rw [← hz2]
    have wz2 := num_z (by omega) (by omega) hz2
    refine m_putI (pc := 34) (z := 7) f74_66 (by decide +kernel) (by decide +kernel) rfl (ko5 (by omega)) d74_34 ?_
    refine x_aload_n (pc := 37) rfl d74_37 ?_
    refine m_getW (pc := 38) (z := 7) (w := z2) f74_66 (by decide +kernel) rfl (ko5 (by omega)) (by rw [up2_s]) d74_38 ?_
    refine x_iconst (pc := 41) d74_41 ?_
    refine x_icmp_ne (pc := 42) (tgt := 47) ⟨by omega, by omega⟩ ⟨by omega, by omega⟩ d74_42 (by decide) (fun g42 => ?_) (fun g42 => ?_)
    · refine x_aload_n (pc := 47) rfl d74_47 ?_
      refine x_aload_n (pc := 48) rfl d74_48 ?_
      refine x_iconst (pc := 49) d74_49 ?_
      refine x_sipush (pc := 50) (by decide) d74_50 ?_
      obtain ⟨M2, hM2⟩ : ∃ Z : Nat → Int → Int, Z = (up2 J2 5 7 z2) := ⟨_, rfl⟩
      refine x_mem (J := M2) (pc := 53) hM2 ?_
      have hX2 : TXT M2 T n := by rw [hM2]; exact (hX1.po hJ2).up
      have k2 : M2 5 3 = (numP T n 1 (z1 - 1) (numP T n 2 999 e).2.2.2).2.2.2 := by rw [hM2, up2_i (by decide)]; exact (hJ2.2.2.1 (by omega)).1
      refine x_cVes (pc := 53) c74_59 (ct_num hl hq hX2 (lo := 0) (hi := 999) (e := (numP T n 1 (z1 - 1) (numP T n 2 999 e).2.2.2).2.2.2) (by omega) (by omega) k2 (by omega) (by omega)) (ko5 (by omega)) rfl rfl (Nat.le_of_ble_eq_true rfl) (by decide +kernel) (by decide +kernel) d74_53 (fun J3 hJ3 => ?_)
      obtain ⟨z3, hz3⟩ : ∃ z : Int, z = (if (numP T n 0 999 ((numP T n 1 (z1 - 1) (numP T n 2 999 e).2.2.2).2.2.2)).1 = 0 then (numP T n 0 999 ((numP T n 1 (z1 - 1) (numP T n 2 999 e).2.2.2).2.2.2)).2.2.1 else -1) := ⟨_, rfl⟩
      rw [← hz3]
      have wz3 := num_z (by omega) (by omega) hz3
      refine m_putI (pc := 56) (z := 8) f74_67 (by decide +kernel) (by decide +kernel) rfl (ko5 (by omega)) d74_56 ?_
      refine x_aload_n (pc := 59) rfl d74_59 ?_
      refine m_getW (pc := 60) (z := 8) (w := z3) f74_67 (by decide +kernel) rfl (ko5 (by omega)) (by rw [up2_s]) d74_60 ?_
      refine x_iconst (pc := 63) d74_63 ?_
      refine x_icmp_eq (pc := 64) (tgt := 71) ⟨by omega, by omega⟩ ⟨by omega, by omega⟩ d74_64 (by decide) (fun g64 => ?_) (fun g64 => ?_)
      · refine x_iconst (pc := 71) d74_71 ?_
        refine x_zret (pc := 72) rfl (Or.inl rfl) (fun _ => rfl) d74_72 ?_
        have c1 : (numP T n 2 999 e).1 = 0 := by omega
        have ez : (numP T n 2 999 e).2.2.1 = z1 := by omega
        have c2 : (numP T n 1 (z1 - 1) (numP T n 2 999 e).2.2.2).1 = 0 := by omega
        have c3 : (numP T n 0 999 (numP T n 1 (z1 - 1) (numP T n 2 999 e).2.2.2).2.2.2).1 ≠ 0 := by omega
        have e1 : dogP T n e = ((numP T n 0 999 (numP T n 1 (z1 - 1) (numP T n 2 999 e).2.2.2).2.2.2).1, (numP T n 0 999 (numP T n 1 (z1 - 1) (numP T n 2 999 e).2.2.2).2.2.2).2.1, 0, 0, 0, 0) := by
          unfold dogP; rw [pbind_ok c1]; rw [ez, pbind_ok c2]; rw [pbind_no c3]
        rw [e1, decide_eq_false c3]
        refine ⟨_, rfl, fun a ha => ?_, fun z => absurd z c3, fun _ => ?_⟩
        · rw [up2_off' _ _ _ ha, hJ3.1 a ha, hM2, up2_off' _ _ _ ha, hJ2.1 a ha, hM1, up2_off' _ _ _ ha, hJ1.1 a ha]
        · rw [up2_i (by decide), up2_i (by decide)]; exact hJ3.2.2.2 c3
      · refine x_iconst (pc := 67) d74_67 ?_
        refine x_goto (pc := 68) (tgt := 72) d74_68 (by decide) ?_
        refine x_zret (pc := 72) rfl (Or.inr rfl) (fun _ => rfl) d74_72 ?_
        have c1 : (numP T n 2 999 e).1 = 0 := by omega
        have ez : (numP T n 2 999 e).2.2.1 = z1 := by omega
        have c2 : (numP T n 1 (z1 - 1) (numP T n 2 999 e).2.2.2).1 = 0 := by omega
        have ez2 : (numP T n 1 (z1 - 1) (numP T n 2 999 e).2.2.2).2.2.1 = z2 := by omega
        have c3 : (numP T n 0 999 (numP T n 1 (z1 - 1) (numP T n 2 999 e).2.2.2).2.2.2).1 = 0 := by omega
        have ez3 : (numP T n 0 999 (numP T n 1 (z1 - 1) (numP T n 2 999 e).2.2.2).2.2.2).2.2.1 = z3 := by omega
        have e1 : dogP T n e = (0, 0, z1, z2, z3, (numP T n 0 999 (numP T n 1 (z1 - 1) (numP T n 2 999 e).2.2.2).2.2.2).2.2.2) := by
          unfold dogP; rw [pbind_ok c1]; rw [ez, pbind_ok c2]; rw [pbind_ok c3]; rw [ez2, ez3]
        rw [e1]
        have q1 := hJ1.2.2.1 c1; have q2 := hJ2.2.2.1 c2; have q3 := hJ3.2.2.1 c3
        refine ⟨_, rfl, fun a ha => ?_, fun _ => ⟨?_, ?_, ?_, ?_, ?_, up2_s⟩, fun z => absurd rfl z⟩
        · rw [up2_off' _ _ _ ha, hJ3.1 a ha, hM2, up2_off' _ _ _ ha, hJ2.1 a ha, hM1, up2_off' _ _ _ ha, hJ1.1 a ha]
        · rw [up2_i (by decide)]; exact q3.1
        · rw [up2_i (by decide), q3.2.1, hM2, up2_i (by decide), q2.2.1, hM1, up2_i (by decide), q1.2.1]
        · rw [up2_i (by decide), q3.2.2, hM2, up2_i (by decide), q2.2.2, hM1, up2_i (by decide), q1.2.2]
        · rw [up2_i (by decide), hJ3.2.1 6 (by decide), hM2, up2_i (by decide), hJ2.2.1 6 (by decide), hM1, up2_s]
        · rw [up2_i (by decide), hJ3.2.1 7 (by decide), hM2, up2_s]
    · refine x_iconst (pc := 45) d74_45 ?_
      refine x_zret (pc := 46) rfl (Or.inl rfl) (fun _ => rfl) d74_46 ?_
      have c1 : (numP T n 2 999 e).1 = 0 := by omega
      have ez : (numP T n 2 999 e).2.2.1 = z1 := by omega
      have c2 : (numP T n 1 (z1 - 1) (numP T n 2 999 e).2.2.2).1 ≠ 0 := by omega
      have e1 : dogP T n e = ((numP T n 1 (z1 - 1) (numP T n 2 999 e).2.2.2).1, (numP T n 1 (z1 - 1) (numP T n 2 999 e).2.2.2).2.1, 0, 0, 0, 0) := by
        unfold dogP; rw [pbind_ok c1]; rw [ez, pbind_no c2]
      rw [e1, decide_eq_false c2]
      refine ⟨_, rfl, fun a ha => ?_, fun z => absurd z c2, fun _ => ?_⟩
      · rw [up2_off' _ _ _ ha, hJ2.1 a ha, hM1, up2_off' _ _ _ ha, hJ1.1 a ha]
      · rw [up2_i (by decide), up2_i (by decide)]; exact hJ2.2.2.2 c2
  · refine x_iconst (pc := 20) d74_20 ?_
    refine x_zret (pc := 21) rfl (Or.inl rfl) (fun _ => rfl) d74_21 ?_
    have c1 : (numP T n 2 999 e).1 ≠ 0 := by omega
    have e1 : dogP T n e = ((numP T n 2 999 e).1, (numP T n 2 999 e).2.1, 0, 0, 0, 0) := pbind_no c1
    rw [e1, decide_eq_false c1]
    refine ⟨_, rfl, fun a ha => ?_, fun z => absurd z c1, fun _ => ?_⟩
    · rw [up2_off' _ _ _ ha, hJ1.1 a ha]
    · rw [up2_i (by decide), up2_i (by decide)]; exact hJ1.2.2.2 c1
theorem dogP_r {T : Int → Int} {n e : Int} (h0 : 0 ≤ e) (h1 : e ≤ n) (hc : (dogP T n e).1 = 0) : (2 ≤ (dogP T n e).2.2.1 ∧ (dogP T n e).2.2.1 ≤ 999) ∧ (1 ≤ (dogP T n e).2.2.2.1 ∧ (dogP T n e).2.2.2.1 < (dogP T n e).2.2.1) ∧ (0 ≤ (dogP T n e).2.2.2.2.1 ∧ (dogP T n e).2.2.2.2.1 ≤ 999) ∧ 0 ≤ (dogP T n e).2.2.2.2.2 ∧ (dogP T n e).2.2.2.2.2 ≤ n := by
  have r1 := numP_r (T := T) (n := n) (lo := 2) (hi := 999) h0 h1
  by_cases c1 : (numP T n 2 999 e).1 = 0
  · have q1 := r1.1 c1
    have r2 := numP_r (T := T) (n := n) (lo := 1) (hi := (numP T n 2 999 e).2.2.1 - 1) (e := (numP T n 2 999 e).2.2.2) (by omega) (by omega)
    by_cases c2 : (numP T n 1 ((numP T n 2 999 e).2.2.1 - 1) (numP T n 2 999 e).2.2.2).1 = 0
    · have q2 := r2.1 c2
      have r3 := numP_r (T := T) (n := n) (lo := 0) (hi := 999) (e := (numP T n 1 ((numP T n 2 999 e).2.2.1 - 1) (numP T n 2 999 e).2.2.2).2.2.2) (by omega) (by omega)
      by_cases c3 : (numP T n 0 999 (numP T n 1 ((numP T n 2 999 e).2.2.1 - 1) (numP T n 2 999 e).2.2.2).2.2.2).1 = 0
      · have q3 := r3.1 c3
        unfold dogP
        rw [pbind_ok c1]; rw [pbind_ok c2]; rw [pbind_ok c3]
        dsimp only
        omega
      · exfalso; unfold dogP at hc; rw [pbind_ok c1] at hc; rw [pbind_ok c2] at hc; rw [pbind_no c3] at hc; exact c3 hc
    · exfalso; unfold dogP at hc; rw [pbind_ok c1] at hc; rw [pbind_no c2] at hc; exact c2 hc
  · exfalso; unfold dogP at hc; rw [pbind_no c1] at hc; exact c1 hc
/-- from e on: the dogs of a configuration, with what is there -/
def dgsP (T : Int → Int) (n : Int) : Nat → AV → Int → Int × Int × AV
  | 0, A, _ => (3, 0, A)
  | m + 1, A, e => if tK T n e = 0 then (0, 0, A) else if splZ T n (tS T n e) (tK T n e) (tE T n e) 1 = false then (1, tS T n e, A) else if 3 ≤ A 0 4 then (3, tS T n e, A)
    else pbind (dogP T n (tE T n e)) A fun d => pbind (semP T n d.2.2.2) A fun e2 => dgsP T n m (dogA A d.1 d.2.1 d.2.2.1) e2
def modP (T : Int → Int) (n : Int) : Int × Int × AV :=
  if splZ T n (tS T n 0) (tK T n 0) (tE T n 0) 0 = false then (1, tS T n 0, fun _ _ => 0) else
  pbind (numP T n 1 9 (tE T n 0)) (fun _ _ => 0) fun b => pbind (numP T n 1 199 b.2) (fun _ _ => 0) fun d => pbind (numP T n 1 99 d.2) (fun _ _ => 0) fun a => pbind (numP T n 1 9 a.2) (fun _ _ => 0) fun i => pbind (semP T n i.2) (fun _ _ => 0) fun e => dgsP T n 4 (cfgA b.1 (d.1 - 100) a.1 i.1) e
end Dog
