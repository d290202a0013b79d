/-! ===== the reference: a dog's line ===== -/
/-- a dog's line behind e: the modem with it, where it ends -/
def dlP (T : Int → Int) (n : Int) (A : AV) (e : Int) : Int × Int × AV × Int :=
  if splZ T n (tS T n e) (tK T n e) (tE T n e) 9 = false then (1, tS T n e, A, 0) else if 3 ≤ A 0 4 then (3, tS T n e, A, 0) else
  pbind (dogP T n (tE T n e)) (A, 0) fun d => pbind (semP T n d.2.2.2) (A, 0) fun e2 => (0, 0, dogA A d.1 d.2.1 d.2.2.1, e2)
theorem dgsP_s (T : Int → Int) (n : Int) (m : Nat) (A : AV) (e : Int) : dgsP T n (m + 1) A e = if tK T n e = 0 then (0, 0, A) else if (dlP T n A e).1 = 0 then dgsP T n m (dlP T n A e).2.2.1 (dlP T n A e).2.2.2 else ((dlP T n A e).1, (dlP T n A e).2.1, A) := by
  have h : dgsP T n (m + 1) A e = if tK T n e = 0 then (0, 0, A) else if splZ T n (tS T n e) (tK T n e) (tE T n e) 9 = false then (1, tS T n e, A) else if 3 ≤ A 0 4 then (3, tS T n e, A)
    else pbind (dogP T n (tE T n e)) A fun d => pbind (semP T n d.2.2.2) A fun e2 => dgsP T n m (dogA A d.1 d.2.1 d.2.2.1) e2 := rfl
  rw [h]
  by_cases k : tK T n e = 0
  · rw [if_pos k, if_pos k]
  rw [if_neg k, if_neg k]
  unfold dlP
  by_cases s : splZ T n (tS T n e) (tK T n e) (tE T n e) 9 = false
  · rw [if_pos s, if_pos s]; rfl
  rw [if_neg s, if_neg s]
  by_cases d : 3 ≤ A 0 4
  · rw [if_pos d, if_pos d]; rfl
  rw [if_neg d, if_neg d]
  by_cases c : (dogP T n (tE T n e)).1 = 0
  · rw [pbind_ok c, pbind_ok c]
    by_cases c2 : (semP T n (dogP T n (tE T n e)).2.2.2.2.2).1 = 0
    · rw [pbind_ok c2, pbind_ok c2]; rfl
    · rw [pbind_no c2, pbind_no c2, if_neg c2]
  · rw [pbind_no c, pbind_no c, if_neg c]
/-- the frame of reading with row, answer, what was got -/
def PRZ (I K : Nat → Int → Int) : Prop := (∀ a, a ≠ 181 → a ≠ 182 → a ≠ 188 → K a = I a) ∧ ∀ j : Int, j < 13 ∨ 17 < j → j ≠ 10 → K 181 j = I 181 j
theorem PRW.z {I J : Nat → Int → Int} (h : PRW I J) : PRZ I J := ⟨fun a a1 a2 _ => h.1 a a1 a2, fun j hj _ => h.2 j hj⟩
theorem PRZ.trans {I J K : Nat → Int → Int} (h : PRZ I J) (h2 : PRZ J K) : PRZ I K := ⟨fun a ha hb hc => by rw [h2.1 a ha hb hc, h.1 a ha hb hc], fun j hj hk => by rw [h2.2 j hj hk, h.2 j hj hk]⟩
theorem RTX.z {I K : Nat → Int → Int} {T : Int → Int} {n : Int} (h : RTX I T n) (p : PRZ I K) : RTX K T n := ⟨by rw [p.2 12 (by decide) (by decide)]; exact h.1, fun i i0 i1 => by rw [p.1 189 (by decide) (by decide) (by decide)]; exact h.2.1 i i0 i1, h.2.2⟩
section Rdog
variable {l : LX} {q : Nat} {I : Nat → Int → Int} {v : Int} {fr : Bool} {T : Int → Int} {n : Int} {A : AV} {c : Int}
/-- behind a dog's line -/
def DLQ (I K : Nat → Int → Int) (r : Int × Int × AV × Int) : Prop := PRZ I K ∧ (I 181 16 ≠ 0 → K 181 16 = I 181 16 ∧ K 181 17 = I 181 17) ∧ (I 181 16 = 0 → (r.1 = 0 → K 181 16 = 0 ∧ K 181 17 = I 181 17 ∧ K 181 13 = r.2.2.2 ∧ RV (K 182) r.2.2.1) ∧ (r.1 ≠ 0 → K 181 16 = r.1 ∧ K 181 17 = r.2.1))
theorem lp_dl (hl : l.1.stackTraces = false) (hq : 193 ≤ q) (hX : RTX I T n) {e : Int} (e0 : 0 ≤ e) (e1 : e ≤ n) (hr : 0 ≤ I 181 16 ∧ I 181 16 ≤ 3) (h14 : I 181 14 = tS T n e) (h15 : I 181 15 = wlZ T n (tS T n e)) (hR : RV (I 182) A) (hA : AINV A c) (ok : I 181 16 = 0 → tK T n e = 1 ∧ A 0 4 < 3) : Ex l 214 0 0 32 [some (.ref 181), none, none, none, none] [] (mm q I v fr) (oE q v fr none (fun K => DLQ I K (pbind (dogP T n (tE T n e)) (A, 0) fun d => pbind (semP T n d.2.2.2) (A, 0) fun e2 => (0, 0, dogA A d.1 d.2.1 d.2.2.1, e2)))) := by
  have hx := hX.2.2
  have hrr := tok_r (T := T) e1
  refine x_aload_n (pc := 32) rfl d214_32 ?_
  refine x_cVv (pc := 33) c214_247 (rt_past hl hq (s := tS T n e) (w := wlZ T n (tS T n e)) (h14) (h15)) (ko181 (by omega)) rfl rfl (Nat.le_of_ble_eq_true rfl) (by decide +kernel) (by decide +kernel) rfl d214_33 ?_
  obtain ⟨M3, hM3⟩ : ∃ Z : Nat → Int → Int, Z = (up2 I 181 13 (tS T n e + wlZ T n (tS T n e))) := ⟨_, rfl⟩
  refine x_mem (J := M3) (pc := 36) hM3 ?_
  have m36 : M3 181 16 = I 181 16 := by rw [hM3]; exact up2_i (by decide)
  have m37 : M3 181 17 = I 181 17 := by rw [hM3]; exact up2_i (by decide)
  have pt3 : PT I M3 := by rw [hM3]; exact PT.refl.up (by decide)
  have hX3 := hX.pt pt3
  have hr3 : 0 ≤ M3 181 16 ∧ M3 181 16 ≤ 3 := by rw [m36]; exact hr
  have he3 : M3 181 16 = 0 → M3 181 13 = tE T n e ∧ 0 ≤ tE T n e ∧ tE T n e ≤ n := fun z => ⟨by rw [hM3, up2_s, wl_1 e0 e1 (ok (by rw [← m36]; exact z)).1]; omega, by omega, by omega⟩
  refine x_aload_n (pc := 36) rfl d214_36 ?_
  refine x_iconst (pc := 37) d214_37 ?_
  refine x_sipush (pc := 38) (by decide) d214_38 ?_
  refine x_cVes (pc := 41) c214_250 (rt_num hl hq hX3 (e := (tE T n e)) (lo := 2) (hi := 999) ⟨by omega, by omega⟩ ⟨by omega, by omega⟩ hr3 he3) (ko181 (by omega)) rfl rfl (Nat.le_of_ble_eq_true rfl) (by decide +kernel) (by decide +kernel) d214_41 (fun J4 hJ4 => ?_)
  obtain ⟨z1, hz1⟩ : ∃ z : Int, z = (numV M3 T n 2 999 (tE T n e)) := ⟨_, rfl⟩
  rw [← hz1]
  have wz1 : 2 ≤ z1 ∧ z1 ≤ 999 := by rw [hz1]; exact numV_r (by omega) (fun y => (he3 y).2)
  have hX4 := hX3.pt hJ4.1
  have hr4 := hJ4.rg hr3 (numP_c _ _ _ _ _)
  have he4 := hJ4.nx he3 rfl
  refine x_istore_n (pc := 44) (by decide +kernel) rfl d214_44 ?_
  dsimp only [List.set]
  refine x_aload_n (pc := 45) rfl d214_45 ?_
  refine x_iconst (pc := 46) d214_46 ?_
  refine x_iload_n (pc := 47) rfl d214_47 ?_
  refine x_iconst (pc := 48) d214_48 ?_
  refine x_isub (pc := 49) d214_49 ?_
  refine x_cVes (pc := 50) c214_250 (rt_num hl hq hX4 (e := (numP T n 2 999 (tE T n e)).2.2.2) (lo := 1) (hi := (z1 - 1)) ⟨by omega, by omega⟩ ⟨by omega, by omega⟩ hr4 he4) (ko181 (by omega)) rfl rfl (Nat.le_of_ble_eq_true rfl) (by decide +kernel) (by decide +kernel) d214_50 (fun J5 hJ5 => ?_)
  obtain ⟨z2, hz2⟩ : ∃ z : Int, z = (numV J4 T n 1 (z1 - 1) ((numP T n 2 999 (tE T n e)).2.2.2)) := ⟨_, rfl⟩
  rw [← hz2]
  have wz2 : 1 ≤ z2 ∧ z2 ≤ (z1 - 1) := by rw [hz2]; exact numV_r (by omega) (fun y => (he4 y).2)
  have hX5 := hX4.pt hJ5.1
  have hr5 := hJ5.rg hr4 (numP_c _ _ _ _ _)
  have he5 := hJ5.nx he4 rfl
  refine x_istore_n (pc := 53) (by decide +kernel) rfl d214_53 ?_
  dsimp only [List.set]
  refine x_aload_n (pc := 54) rfl d214_54 ?_
  refine x_iconst (pc := 55) d214_55 ?_
  refine x_sipush (pc := 56) (by decide) d214_56 ?_
  refine x_cVes (pc := 59) c214_250 (rt_num hl hq hX5 (e := (numP T n 1 (z1 - 1) (numP T n 2 999 (tE T n e)).2.2.2).2.2.2) (lo := 0) (hi := 999) ⟨by omega, by omega⟩ ⟨by omega, by omega⟩ hr5 he5) (ko181 (by omega)) rfl rfl (Nat.le_of_ble_eq_true rfl) (by decide +kernel) (by decide +kernel) d214_59 (fun J6 hJ6 => ?_)
  obtain ⟨z3, hz3⟩ : ∃ z : Int, z = (numV J5 T n 0 999 ((numP T n 1 (z1 - 1) (numP T n 2 999 (tE T n e)).2.2.2).2.2.2)) := ⟨_, rfl⟩
  rw [← hz3]
  have wz3 : 0 ≤ z3 ∧ z3 ≤ 999 := by rw [hz3]; exact numV_r (by omega) (fun y => (he5 y).2)
  have hX6 := hX5.pt hJ6.1
  have hr6 := hJ6.rg hr5 (numP_c _ _ _ _ _)
  have he6 := hJ6.nx he5 rfl
  refine x_istore_n (pc := 62) (by decide +kernel) rfl d214_62 ?_
  dsimp only [List.set]
  refine x_aload_n (pc := 63) rfl d214_63 ?_
  refine x_cVev (pc := 64) c214_256 (rt_semi hl hq hX6 (e := (numP T n 0 999 (numP T n 1 (z1 - 1) (numP T n 2 999 (tE T n e)).2.2.2).2.2.2).2.2.2) hr6 he6) (ko181 (by omega)) rfl rfl (Nat.le_of_ble_eq_true rfl) (by decide +kernel) (by decide +kernel) d214_64 (fun J7 hJ7 => ?_)
  have hr7 := hJ7.rg hr6 (semP_c _ _ _)
  have p7 : PT I J7 := pt3.trans (hJ4.1.trans (hJ5.1.trans (hJ6.1.trans hJ7.1)))
  have hR7 : RV (J7 182) A := by rw [p7.1 182 (by decide)]; exact hR
  have f6 : ∀ c p, EF J6 c p → EF J7 c p := fun c p g => hJ7.ef g
  have f5 : ∀ c p, EF J5 c p → EF J7 c p := fun c p g => f6 c p (hJ6.ef g)
  have f4 : ∀ c p, EF J4 c p → EF J7 c p := fun c p g => f5 c p (hJ5.ef g)
  refine x_aload_n (pc := 67) rfl d214_67 ?_
  refine m_getI (pc := 68) (z := 16) f214_221 (by decide +kernel) rfl (ko181 (by omega)) d214_68 ?_
  refine x_if_ne (pc := 71) (tgt := 88) ⟨by omega, by omega⟩ d214_71 (by decide) (fun g71 => ?_) (fun g71 => ?_)
  · refine x_iconst (pc := 88) d214_88 ?_
    refine x_istore (pc := 89) (by decide +kernel) rfl d214_89 ?_
    dsimp only [List.set]
    refine x_vret (pc := 91) rfl (fun _ => rfl) d214_91 ?_
    refine ⟨J7, rfl, p7.rw.z, fun z => ?_, fun z => ?_⟩
    · have g : EF J7 (I 181 16) (I 181 17) := f4 _ _ (hJ4.ef ⟨z, m36, m37⟩)
      exact g.2
    · have k3 : M3 181 16 = 0 := by rw [m36]; exact z
      refine ⟨fun w => absurd w ?_, fun w => ?_⟩
      · intro w
        refine g71 ?_
        by_cases c1 : (numP T n 2 999 (tE T n e)).1 = 0
        · have v1 : z1 = (numP T n 2 999 (tE T n e)).2.2.1 := by rw [hz1, numV_ok k3 c1]
          rw [v1] at hJ5 hJ6 hJ7
          have o4 := hJ4.ok k3 c1
          unfold dogP at w
          rw [pbind_ok c1] at w
          exact dlx w
        · exact absurd w (by unfold dogP; rw [pbind_no c1]; exact c1)
      · exact dly w
  · have a7 := hJ7.at g71
    have a6 := hJ6.at a7.1
    have a5 := hJ5.at a6.1
    have a4 := hJ4.at a5.1
    have i0 : I 181 16 = 0 := by rw [← m36]; exact a4.1
    have h3 : A 0 4 < 3 := (ok i0).2
    refine x_aload_n (pc := 74) rfl d214_74 ?_
    refine x_iload_n (pc := 75) rfl d214_75 ?_
    refine x_iload_n (pc := 76) rfl d214_76 ?_
    refine x_iload_n (pc := 77) rfl d214_77 ?_
    refine x_cVes (pc := 78) c214_261 (rt_dogT hl hq (A := A) hR7 hA h3 (x := z1) (y := z2) (z := z3)) (ko181 (by omega)) rfl rfl (Nat.le_of_ble_eq_true rfl) (by decide +kernel) (by decide +kernel) d214_78 (fun J8 hJ8 => ?_)
    refine x_if_eq (pc := 81) (tgt := 88) ⟨by omega, by omega⟩ d214_81 (by decide) (fun z => absurd z (by decide)) (fun _ => ?_)
    refine x_iconst (pc := 84) d214_84 ?_
    refine x_goto (pc := 85) (tgt := 89) d214_85 (by decide) ?_
    refine x_istore (pc := 89) (by decide +kernel) rfl d214_89 ?_
    dsimp only [List.set]
    refine x_vret (pc := 91) rfl (fun _ => rfl) d214_91 ?_
    exact dlz
end Rdog
