/-! ===== the reference: a dog's line ===== -/
/-- a dog's line behind e: the modem with it, where it ends -/
def dlP (T : Int → Int) (n : Int) (A : AV) (e : Int) : Int × Int × AV × Int :=
  if splZ T n (tS T n e) (tK T n e) (tE T n e) 9 = false then (1, tS T n e, A, 0) else if 3 ≤ A 0 4 then (3, tS T n e, A, 0) else
  pbind (dogP T n (tE T n e)) (A, 0) fun d => pbind (semP T n d.2.2.2) (A, 0) fun e2 => (0, 0, dogA A d.1 d.2.1 d.2.2.1, e2)
theorem dgsP_t (T : Int → Int) (n : Int) (m : Nat) (A : AV) (e : Int) : dgsP T n (m + 1) A e = if tK T n e = 0 then (0, 0, A) else if (dlP T n A e).1 = 0 then dgsP T n m (dlP T n A e).2.2.1 (dlP T n A e).2.2.2 else ((dlP T n A e).1, (dlP T n A e).2.1, A) := by
  have h : dgsP T n (m + 1) A e = if tK T n e = 0 then (0, 0, A) else if splZ T n (tS T n e) (tK T n e) (tE T n e) 9 = false then (1, tS T n e, A) else if 3 ≤ A 0 4 then (3, tS T n e, A)
    else pbind (dogP T n (tE T n e)) A fun d => pbind (semP T n d.2.2.2) A fun e2 => dgsP T n m (dogA A d.1 d.2.1 d.2.2.1) e2 := rfl
  rw [h]
  by_cases k : tK T n e = 0
  · rw [if_pos k, if_pos k]
  rw [if_neg k, if_neg k]
  unfold dlP
  by_cases s : splZ T n (tS T n e) (tK T n e) (tE T n e) 9 = false
  · rw [if_pos s, if_pos s]; rfl
  rw [if_neg s, if_neg s]
  by_cases d : 3 ≤ A 0 4
  · rw [if_pos d, if_pos d]; rfl
  rw [if_neg d, if_neg d]
  by_cases c : (dogP T n (tE T n e)).1 = 0
  · rw [pbind_ok c, pbind_ok c]
    by_cases c2 : (semP T n (dogP T n (tE T n e)).2.2.2.2.2).1 = 0
    · rw [pbind_ok c2, pbind_ok c2]; rfl
    · rw [pbind_no c2, pbind_no c2, if_neg c2]
  · rw [pbind_no c, pbind_no c, if_neg c]
/-- the frame of reading with row, answer, what was got -/
def PRZ (I K : Nat → Int → Int) : Prop := (∀ a, a ≠ 181 → a ≠ 182 → a ≠ 188 → K a = I a) ∧ ∀ j : Int, j < 13 ∨ 17 < j → j ≠ 10 → K 181 j = I 181 j
theorem PRW.z {I J : Nat → Int → Int} (h : PRW I J) : PRZ I J := ⟨fun a a1 a2 _ => h.1 a a1 a2, fun j hj _ => h.2 j hj⟩
theorem PRZ.trans {I J K : Nat → Int → Int} (h : PRZ I J) (h2 : PRZ J K) : PRZ I K := ⟨fun a ha hb hc => by rw [h2.1 a ha hb hc, h.1 a ha hb hc], fun j hj hk => by rw [h2.2 j hj hk, h.2 j hj hk]⟩
theorem RTX.z {I K : Nat → Int → Int} {T : Int → Int} {n : Int} (h : RTX I T n) (p : PRZ I K) : RTX K T n := ⟨by rw [p.2 12 (by decide) (by decide)]; exact h.1, fun i i0 i1 => by rw [p.1 189 (by decide) (by decide) (by decide)]; exact h.2.1 i i0 i1, h.2.2⟩
section Rdog
variable {l : LX} {q : Nat} {I : Nat → Int → Int} {v : Int} {fr : Bool} {T : Int → Int} {n : Int} {A : AV} {c : Int}
/-- behind a dog's line -/
def DLQ (I K : Nat → Int → Int) (r : Int × Int × AV × Int) : Prop := PRZ I K ∧ (I 181 16 ≠ 0 → K 181 16 = I 181 16 ∧ K 181 17 = I 181 17) ∧ (I 181 16 = 0 → (r.1 = 0 → K 181 16 = 0 ∧ K 181 17 = I 181 17 ∧ K 181 13 = r.2.2.2 ∧ RV (K 182) r.2.2.1) ∧ (r.1 ≠ 0 → K 181 16 = r.1 ∧ K 181 17 = r.2.1))
theorem dl_chain {M3 J4 J5 J6 J7 : Nat → Int → Int} {e1 z1 z2 z3 : Int} (hz1 : z1 = numV M3 T n 2 999 e1) (h4 : RR M3 J4 (numP T n 2 999 e1).1 (numP T n 2 999 e1).2.1 (numP T n 2 999 e1).2.2.2) (hz2 : z2 = numV J4 T n 1 (z1 - 1) (numP T n 2 999 e1).2.2.2) (h5 : RR J4 J5 (numP T n 1 (z1 - 1) (numP T n 2 999 e1).2.2.2).1 (numP T n 1 (z1 - 1) (numP T n 2 999 e1).2.2.2).2.1 (numP T n 1 (z1 - 1) (numP T n 2 999 e1).2.2.2).2.2.2) (hz3 : z3 = numV J5 T n 0 999 (numP T n 1 (z1 - 1) (numP T n 2 999 e1).2.2.2).2.2.2) (h6 : RR J5 J6 (numP T n 0 999 (numP T n 1 (z1 - 1) (numP T n 2 999 e1).2.2.2).2.2.2).1 (numP T n 0 999 (numP T n 1 (z1 - 1) (numP T n 2 999 e1).2.2.2).2.2.2).2.1 (numP T n 0 999 (numP T n 1 (z1 - 1) (numP T n 2 999 e1).2.2.2).2.2.2).2.2.2) (h7 : RR J6 J7 (semP T n (numP T n 0 999 (numP T n 1 (z1 - 1) (numP T n 2 999 e1).2.2.2).2.2.2).2.2.2).1 (semP T n (numP T n 0 999 (numP T n 1 (z1 - 1) (numP T n 2 999 e1).2.2.2).2.2.2).2.2.2).2.1 (semP T n (numP T n 0 999 (numP T n 1 (z1 - 1) (numP T n 2 999 e1).2.2.2).2.2.2).2.2.2).2.2) (k3 : M3 181 16 = 0) :
    ((pbind (dogP T n e1) (A, (0 : Int)) fun d => pbind (semP T n d.2.2.2) (A, 0) fun e2 => (0, 0, dogA A d.1 d.2.1 d.2.2.1, e2)).1 = 0 ∧ J7 181 16 = 0 ∧ J7 181 17 = M3 181 17 ∧ J7 181 13 = (pbind (dogP T n e1) (A, (0 : Int)) fun d => pbind (semP T n d.2.2.2) (A, 0) fun e2 => (0, 0, dogA A d.1 d.2.1 d.2.2.1, e2)).2.2.2 ∧ (pbind (dogP T n e1) (A, (0 : Int)) fun d => pbind (semP T n d.2.2.2) (A, 0) fun e2 => (0, 0, dogA A d.1 d.2.1 d.2.2.1, e2)).2.2.1 = dogA A z1 z2 z3) ∨ ((pbind (dogP T n e1) (A, (0 : Int)) fun d => pbind (semP T n d.2.2.2) (A, 0) fun e2 => (0, 0, dogA A d.1 d.2.1 d.2.2.1, e2)).1 ≠ 0 ∧ EF J7 (pbind (dogP T n e1) (A, (0 : Int)) fun d => pbind (semP T n d.2.2.2) (A, 0) fun e2 => (0, 0, dogA A d.1 d.2.1 d.2.2.1, e2)).1 (pbind (dogP T n e1) (A, (0 : Int)) fun d => pbind (semP T n d.2.2.2) (A, 0) fun e2 => (0, 0, dogA A d.1 d.2.1 d.2.2.1, e2)).2.1) := by
  have f6 : ∀ c p, EF J6 c p → EF J7 c p := fun c p g => h7.ef g
  have f5 : ∀ c p, EF J5 c p → EF J7 c p := fun c p g => f6 c p (h6.ef g)
  have f4 : ∀ c p, EF J4 c p → EF J7 c p := fun c p g => f5 c p (h5.ef g)
  have no : ∀ (c p : Int) (x : Int × Int × Int × Int), c ≠ 0 → dogP T n e1 = (c, p, x) → EF J7 c p → ((pbind (dogP T n e1) (A, (0 : Int)) fun d => pbind (semP T n d.2.2.2) (A, 0) fun e2 => (0, 0, dogA A d.1 d.2.1 d.2.2.1, e2)).1 ≠ 0 ∧ EF J7 (pbind (dogP T n e1) (A, (0 : Int)) fun d => pbind (semP T n d.2.2.2) (A, 0) fun e2 => (0, 0, dogA A d.1 d.2.1 d.2.2.1, e2)).1 (pbind (dogP T n e1) (A, (0 : Int)) fun d => pbind (semP T n d.2.2.2) (A, 0) fun e2 => (0, 0, dogA A d.1 d.2.1 d.2.2.1, e2)).2.1) := fun c p x hc ed g => by
    rw [pbind_no (by rw [ed]; exact hc), ed]
    exact ⟨hc, g⟩
  by_cases c1 : (numP T n 2 999 e1).1 = 0
  · have v1 : z1 = (numP T n 2 999 e1).2.2.1 := by rw [hz1, numV_ok k3 c1]
    have o4 := h4.ok k3 c1
    have ed1 : dogP T n e1 = pbind (numP T n 1 ((numP T n 2 999 e1).2.2.1 - 1) (numP T n 2 999 e1).2.2.2) (0, 0, 0, 0) fun b => pbind (numP T n 0 999 b.2) (0, 0, 0, 0) fun c => (0, 0, (numP T n 2 999 e1).2.2.1, b.1, c.1, c.2) := by unfold dogP; rw [pbind_ok c1]
    rw [← v1] at ed1
    by_cases c2 : (numP T n 1 (z1 - 1) (numP T n 2 999 e1).2.2.2).1 = 0
    · have o5 := h5.ok o4.1 c2
      have v2 : z2 = (numP T n 1 (z1 - 1) (numP T n 2 999 e1).2.2.2).2.2.1 := by rw [hz2, numV_ok o4.1 c2]
      rw [pbind_ok c2] at ed1
      by_cases c3 : (numP T n 0 999 (numP T n 1 (z1 - 1) (numP T n 2 999 e1).2.2.2).2.2.2).1 = 0
      · have o6 := h6.ok o5.1 c3
        have v3 : z3 = (numP T n 0 999 (numP T n 1 (z1 - 1) (numP T n 2 999 e1).2.2.2).2.2.2).2.2.1 := by rw [hz3, numV_ok o5.1 c3]
        rw [pbind_ok c3, ← v2, ← v3] at ed1
        by_cases c4 : (semP T n (numP T n 0 999 (numP T n 1 (z1 - 1) (numP T n 2 999 e1).2.2.2).2.2.2).2.2.2).1 = 0
        · left
          have o7 := h7.ok o6.1 c4
          rw [pbind_ok (by rw [ed1]), ed1]
          dsimp only
          rw [pbind_ok c4]
          exact ⟨rfl, o7.1, by rw [o7.2.1, o6.2.1, o5.2.1, o4.2.1], o7.2.2, rfl⟩
        · right
          rw [pbind_ok (by rw [ed1]), ed1]
          dsimp only
          rw [pbind_no c4]
          exact ⟨c4, h7.er o6.1 c4⟩
      · rw [pbind_no c3] at ed1
        exact Or.inr (no _ _ _ c3 ed1 (f6 _ _ (h6.er o5.1 c3)))
    · rw [pbind_no c2] at ed1
      exact Or.inr (no _ _ _ c2 ed1 (f5 _ _ (h5.er o4.1 c2)))
  · exact Or.inr (no _ _ _ c1 (by unfold dogP; rw [pbind_no c1]) (f4 _ _ (h4.er k3 c1)))
theorem lp_dl (hl : l.1.stackTraces = false) (hq : 192 ≤ q) (hX : RTX I T n) {e : Int} (e0 : 0 ≤ e) (e1 : e ≤ n) (hr : 0 ≤ I 181 16 ∧ I 181 16 ≤ 3) (h14 : I 181 14 = tS T n e) (h15 : I 181 15 = wlZ T n (tS T n e)) (hR : RV (I 182) A) (hA : AINV A c) (ok : I 181 16 = 0 → tK T n e = 1 ∧ A 0 4 < 3) : Ex l 214 0 0 32 [some (.ref 181), none, none, none, none] [] (mm q I v fr) (oE q v fr none (fun K => DLQ I K (pbind (dogP T n (tE T n e)) (A, 0) fun d => pbind (semP T n d.2.2.2) (A, 0) fun e2 => (0, 0, dogA A d.1 d.2.1 d.2.2.1, e2)))) := by
  have hx := hX.2.2
  have hrr := tok_r (T := T) e1
  refine x_aload_n (pc := 32) rfl d214_32 ?_
  refine x_cVv (pc := 33) c214_247 (rt_past hl hq (s := tS T n e) (w := wlZ T n (tS T n e)) (h14) (h15)) (xo181 (by omega)) rfl rfl (Nat.le_of_ble_eq_true rfl) (by decide +kernel) (by decide +kernel) rfl d214_33 ?_
  obtain ⟨M3, hM3⟩ : ∃ Z : Nat → Int → Int, Z = (up2 I 181 13 (tS T n e + wlZ T n (tS T n e))) := ⟨_, rfl⟩
  refine x_mem (J := M3) (pc := 36) hM3 ?_
  have m36 : M3 181 16 = I 181 16 := by rw [hM3]; exact up2_i (by decide)
  have m37 : M3 181 17 = I 181 17 := by rw [hM3]; exact up2_i (by decide)
  have pt3 : PT I M3 := by rw [hM3]; exact PT.refl.up (by decide)
  have hX3 := hX.pt pt3
  have hr3 : 0 ≤ M3 181 16 ∧ M3 181 16 ≤ 3 := by rw [m36]; exact hr
  have he3 : M3 181 16 = 0 → M3 181 13 = tE T n e ∧ 0 ≤ tE T n e ∧ tE T n e ≤ n := fun z => ⟨by rw [hM3, up2_s, wl_1 e0 e1 (ok (by rw [← m36]; exact z)).1]; omega, by omega, by omega⟩
  refine x_aload_n (pc := 36) rfl d214_36 ?_
  refine x_iconst (pc := 37) d214_37 ?_
  refine x_sipush (pc := 38) (by decide) d214_38 ?_
  refine x_cVes (pc := 41) c214_250 (rt_num hl hq hX3 (e := (tE T n e)) (lo := 2) (hi := 999) ⟨by omega, by omega⟩ ⟨by omega, by omega⟩ hr3 he3) (xo181 (by omega)) rfl rfl (Nat.le_of_ble_eq_true rfl) (by decide +kernel) (by decide +kernel) d214_41 (fun J4 hJ4 => ?_)
  obtain ⟨z1, hz1⟩ : ∃ z : Int, z = (numV M3 T n 2 999 (tE T n e)) := ⟨_, rfl⟩
  rw [← hz1]
  have wz1 : 2 ≤ z1 ∧ z1 ≤ 999 := by rw [hz1]; exact numV_r (by omega) (fun y => (he3 y).2)
  have hX4 := hX3.pt hJ4.1
  have hr4 := hJ4.rg hr3 (numP_c _ _ _ _ _)
  have he4 := hJ4.nx he3 rfl
  refine x_istore_n (pc := 44) (by decide +kernel) rfl d214_44 ?_
  dsimp only [List.set]
  refine x_aload_n (pc := 45) rfl d214_45 ?_
  refine x_iconst (pc := 46) d214_46 ?_
  refine x_iload_n (pc := 47) rfl d214_47 ?_
  refine x_iconst (pc := 48) d214_48 ?_
  refine x_isub (pc := 49) d214_49 ?_
  refine x_cVes (pc := 50) c214_250 (rt_num hl hq hX4 (e := (numP T n 2 999 (tE T n e)).2.2.2) (lo := 1) (hi := (z1 - 1)) ⟨by omega, by omega⟩ ⟨by omega, by omega⟩ hr4 he4) (xo181 (by omega)) rfl rfl (Nat.le_of_ble_eq_true rfl) (by decide +kernel) (by decide +kernel) d214_50 (fun J5 hJ5 => ?_)
  obtain ⟨z2, hz2⟩ : ∃ z : Int, z = (numV J4 T n 1 (z1 - 1) ((numP T n 2 999 (tE T n e)).2.2.2)) := ⟨_, rfl⟩
  rw [← hz2]
  have wz2 : 1 ≤ z2 ∧ z2 ≤ (z1 - 1) := by rw [hz2]; exact numV_r (by omega) (fun y => (he4 y).2)
  have hX5 := hX4.pt hJ5.1
  have hr5 := hJ5.rg hr4 (numP_c _ _ _ _ _)
  have he5 := hJ5.nx he4 rfl
  refine x_istore_n (pc := 53) (by decide +kernel) rfl d214_53 ?_
  dsimp only [List.set]
  refine x_aload_n (pc := 54) rfl d214_54 ?_
  refine x_iconst (pc := 55) d214_55 ?_
  refine x_sipush (pc := 56) (by decide) d214_56 ?_
  refine x_cVes (pc := 59) c214_250 (rt_num hl hq hX5 (e := (numP T n 1 (z1 - 1) (numP T n 2 999 (tE T n e)).2.2.2).2.2.2) (lo := 0) (hi := 999) ⟨by omega, by omega⟩ ⟨by omega, by omega⟩ hr5 he5) (xo181 (by omega)) rfl rfl (Nat.le_of_ble_eq_true rfl) (by decide +kernel) (by decide +kernel) d214_59 (fun J6 hJ6 => ?_)
  obtain ⟨z3, hz3⟩ : ∃ z : Int, z = (numV J5 T n 0 999 ((numP T n 1 (z1 - 1) (numP T n 2 999 (tE T n e)).2.2.2).2.2.2)) := ⟨_, rfl⟩
  rw [← hz3]
  have wz3 : 0 ≤ z3 ∧ z3 ≤ 999 := by rw [hz3]; exact numV_r (by omega) (fun y => (he5 y).2)
  have hX6 := hX5.pt hJ6.1
  have hr6 := hJ6.rg hr5 (numP_c _ _ _ _ _)
  have he6 := hJ6.nx he5 rfl
  refine x_istore_n (pc := 62) (by decide +kernel) rfl d214_62 ?_
  dsimp only [List.set]
  refine x_aload_n (pc := 63) rfl d214_63 ?_
  refine x_cVev (pc := 64) c214_256 (rt_semi hl hq hX6 (e := (numP T n 0 999 (numP T n 1 (z1 - 1) (numP T n 2 999 (tE T n e)).2.2.2).2.2.2).2.2.2) hr6 he6) (xo181 (by omega)) rfl rfl (Nat.le_of_ble_eq_true rfl) (by decide +kernel) (by decide +kernel) d214_64 (fun J7 hJ7 => ?_)
  have hr7 := hJ7.rg hr6 (semP_c _ _ _)
  have p7 : PT I J7 := pt3.trans (hJ4.1.trans (hJ5.1.trans (hJ6.1.trans hJ7.1)))
  have hR7 : RV (J7 182) A := by rw [p7.1 182 (by decide)]; exact hR
  have f6 : ∀ c p, EF J6 c p → EF J7 c p := fun c p g => hJ7.ef g
  have f5 : ∀ c p, EF J5 c p → EF J7 c p := fun c p g => f6 c p (hJ6.ef g)
  have f4 : ∀ c p, EF J4 c p → EF J7 c p := fun c p g => f5 c p (hJ5.ef g)
  have ch := fun k3 => dl_chain (A := A) hz1 hJ4 hz2 hJ5 hz3 hJ6 hJ7 k3
  refine x_aload_n (pc := 67) rfl d214_67 ?_
  refine m_getI (pc := 68) (z := 16) f214_221 (by decide +kernel) rfl (xo181 (by omega)) d214_68 ?_
  refine x_if_ne (pc := 71) (tgt := 88) ⟨by omega, by omega⟩ d214_71 (by decide) (fun g71 => ?_) (fun g71 => ?_)
  · refine x_iconst (pc := 88) d214_88 ?_
    refine x_istore (pc := 89) (by decide +kernel) rfl d214_89 ?_
    dsimp only [List.set]
    refine x_vret (pc := 91) rfl (fun _ => rfl) d214_91 ?_
    refine ⟨J7, rfl, p7.rw.z, fun z => (f4 _ _ (hJ4.ef ⟨z, m36, m37⟩)).2, fun z => ?_⟩
    rcases ch (by rw [m36]; exact z) with g | g
    · exact absurd g.2.1 g71
    · exact ⟨fun w => absurd w g.1, fun _ => g.2.2⟩
  · have a7 := hJ7.at g71
    have a6 := hJ6.at a7.1
    have a5 := hJ5.at a6.1
    have a4 := hJ4.at a5.1
    have i0 : I 181 16 = 0 := by rw [← m36]; exact a4.1
    have h3 : A 0 4 < 3 := (ok i0).2
    refine x_aload_n (pc := 74) rfl d214_74 ?_
    refine x_iload_n (pc := 75) rfl d214_75 ?_
    refine x_iload_n (pc := 76) rfl d214_76 ?_
    refine x_iload_n (pc := 77) rfl d214_77 ?_
    refine x_cVes (pc := 78) c214_261 (rt_dogT hl hq (A := A) hR7 hA h3 (x := z1) (y := z2) (z := z3)) (xo181 (by omega)) rfl rfl (Nat.le_of_ble_eq_true rfl) (by decide +kernel) (by decide +kernel) d214_78 (fun J8 hJ8 => ?_)
    refine x_if_eq (pc := 81) (tgt := 88) ⟨by omega, by omega⟩ d214_81 (by decide) (fun z => absurd z (by decide)) (fun _ => ?_)
    refine x_iconst (pc := 84) d214_84 ?_
    refine x_goto (pc := 85) (tgt := 89) d214_85 (by decide) ?_
    refine x_istore (pc := 89) (by decide +kernel) rfl d214_89 ?_
    dsimp only [List.set]
    refine x_vret (pc := 91) rfl (fun _ => rfl) d214_91 ?_
    obtain ⟨o, o1, o2, o3⟩ := hJ8
    refine ⟨J8, rfl, ⟨fun a a1 a2 a8 => by rw [o a a1 a2 a8]; exact p7.1 a a1, fun j hj hk => by rw [o1 j hk]; exact p7.2 j hj⟩, fun z => absurd i0 z, fun z => ?_⟩
    rcases ch (by rw [m36]; exact z) with g | g
    · exact ⟨fun _ => ⟨by rw [o1 16 (by decide)]; exact g.2.1, by rw [o1 17 (by decide), g.2.2.1, m37], by rw [o1 13 (by decide)]; exact g.2.2.2.1, by rw [g.2.2.2.2]; exact o3⟩, fun w => absurd g.1 w⟩
    · exact absurd (g.2.2.1.symm.trans g71) g.1
theorem rt_dogL (hl : l.1.stackTraces = false) (hq : 192 ≤ q) (hX : RTX I T n) {e : Int} (h16 : I 181 16 = 0) (he : I 181 13 = e) (e0 : 0 ≤ e) (e1 : e ≤ n) (hR : RV (I 182) A) (hA : AINV A c) : CT l 214 [.ref 181] (mm q I v fr) 0 0 (oE q v fr none (fun K => DLQ I K (dlP T n A e))) := by
  have hx := hX.2.2
  have hr := tok_r (T := T) e1
  have hd := hA.dg
  have e9 := (spl8 T n (tS T n e) (tK T n e) (tE T n e)).2.1
  have bad : ∀ (J K : Nat → Int → Int) (c p : Int) (R : Int × Int × AV × Int), PT I J → EF J c p → DLQ J K R → DLQ I K (c, p, A, 0) := fun J K c p R pj g d => ⟨pj.rw.z.trans d.1, fun z => absurd h16 z, fun _ => ⟨fun w => absurd w g.1, fun _ => by
    have := d.2.1 (by rw [g.2.1]; exact g.1)
    exact ⟨by rw [this.1]; exact g.2.1, by rw [this.2]; exact g.2.2⟩⟩⟩
  refine mkct2 hl (by decide) (Nat.le_of_ble_eq_true rfl) (L := [some (.ref 181), none, none, none, none]) rfl ?_
  refine x_aload_n (pc := 0) rfl d214_0 ?_
  refine x_aload_n (pc := 1) rfl d214_1 ?_
  refine x_ldcwS (pc := 2) k214_259 d214_2 ?_
  refine x_cVes (pc := 5) c214_243 (rt_sees hl hq hX (i := 12) (by decide) (e := e) h16 he e0 e1) (xo181 (by omega)) rfl rfl (Nat.le_of_ble_eq_true rfl) (by decide +kernel) (by decide +kernel) d214_5 (fun J1 hJ1 => ?_)
  refine x_iconst (pc := 8) d214_8 ?_
  have k1 : J1 181 16 = 0 := by rw [hJ1.2.2.2.2.1]; exact h16
  refine x_cVev (pc := 9) c214_230 (rt_must hl hq (b := (splZ T n (tS T n e) (tK T n e) (tE T n e) 12)) (code := 1) (by rw [k1]; decide) (by decide)) (xo181 (by omega)) rfl rfl (Nat.le_of_ble_eq_true rfl) (by decide +kernel) (by decide +kernel) d214_9 (fun J2 hJ2 => ?_)
  have rg2 := hJ2.1.rg (by rw [k1]; decide) (by split <;> decide)
  refine x_aload_n (pc := 12) rfl d214_12 ?_
  refine x_aload_n (pc := 13) rfl d214_13 ?_
  refine m_getR (pc := 14) f214_9 (by decide +kernel) (xo181 (by omega)) rr181_0 d214_14 ?_
  refine x_iconst (pc := 17) d214_17 ?_
  refine m_iald (pc := 18) (xa182 (by omega)) (by omega) (by omega) (by omega) d214_18 ?_
  refine x_val (pc := 19) (w := (A 0 4)) (by rw [hJ2.1.1.1 182 (by decide), hJ1.1.1 182 (by decide)]; exact hR.sc (by decide) (by decide)) ?_
  refine x_iconst (pc := 19) d214_19 ?_
  refine x_icmp_ge (pc := 20) (tgt := 27) ⟨by omega, by omega⟩ ⟨by omega, by omega⟩ d214_20 (by decide) (fun g20 => ?_) (fun g20 => ?_)
  · refine x_iconst (pc := 27) d214_27 ?_
    refine x_iconst (pc := 28) d214_28 ?_
    refine x_cVev (pc := 29) c214_230 (rt_must hl hq (b := false) (code := 3) rg2 (by decide)) (xo181 (by omega)) rfl rfl (Nat.le_of_ble_eq_true rfl) (by decide +kernel) (by decide +kernel) d214_29 (fun J3 hJ3 => ?_)
    have rg3 := hJ3.1.rg rg2 (by decide)
    have pt3 : PT I J3 := hJ1.1.trans (hJ2.1.1.trans hJ3.1.1)
    have q14 : J3 181 14 = tS T n e := by rw [hJ3.2 14 (by decide) (by decide), hJ2.2 14 (by decide) (by decide)]; exact hJ1.2.2.1
    have q15 : J3 181 15 = wlZ T n (tS T n e) := by rw [hJ3.2 15 (by decide) (by decide), hJ2.2 15 (by decide) (by decide)]; exact hJ1.2.2.2.1
    have qR : RV (J3 182) A := by rw [pt3.1 182 (by decide)]; exact hR
    refine ex_mono (lp_dl (A := A) (c := c) hl hq (hX.pt pt3) e0 e1 rg3 q14 q15 qR hA (fun z => absurd (hJ3.1.at z).2.1 (by decide))) fun o ho => ?_
    obtain ⟨K, ho, d⟩ := ho
    refine ⟨K, ho, ?_⟩
    unfold dlP
    by_cases s : splZ T n (tS T n e) (tK T n e) (tE T n e) 12 = true
    · rw [if_neg (by rw [← e9, s]; decide), if_pos (by omega)]
      have k2 := (hJ2.1.ok k1 (if_pos s)).1
      have g := hJ3.1.er k2 (by decide)
      rw [hJ2.2 14 (by decide) (by decide), hJ1.2.2.1] at g
      exact bad J3 K 3 _ _ pt3 g d
    · rw [if_pos (by rw [← e9]; exact Bool.eq_false_iff.mpr s)]
      have g := hJ2.1.er k1 (by rw [if_neg s]; decide)
      rw [if_neg s, hJ1.2.2.1] at g
      exact bad J3 K 1 _ _ pt3 (hJ3.1.ef g) d
  · refine x_iconst (pc := 23) d214_23 ?_
    refine x_goto (pc := 24) (tgt := 28) d214_24 (by decide) ?_
    refine x_iconst (pc := 28) d214_28 ?_
    refine x_cVev (pc := 29) c214_230 (rt_must hl hq (b := true) (code := 3) rg2 (by decide)) (xo181 (by omega)) rfl rfl (Nat.le_of_ble_eq_true rfl) (by decide +kernel) (by decide +kernel) d214_29 (fun J3 hJ3 => ?_)
    have rg3 := hJ3.1.rg rg2 (by decide)
    have pt3 : PT I J3 := hJ1.1.trans (hJ2.1.1.trans hJ3.1.1)
    have q14 : J3 181 14 = tS T n e := by rw [hJ3.2 14 (by decide) (by decide), hJ2.2 14 (by decide) (by decide)]; exact hJ1.2.2.1
    have q15 : J3 181 15 = wlZ T n (tS T n e) := by rw [hJ3.2 15 (by decide) (by decide), hJ2.2 15 (by decide) (by decide)]; exact hJ1.2.2.2.1
    have qR : RV (J3 182) A := by rw [pt3.1 182 (by decide)]; exact hR
    have sp : J3 181 16 = 0 → splZ T n (tS T n e) (tK T n e) (tE T n e) 12 = true := fun z => by
      have g := (hJ2.1.at (hJ3.1.at z).1).2.1
      by_cases s : splZ T n (tS T n e) (tK T n e) (tE T n e) 12 = true
      · exact s
      · rw [if_neg s] at g; exact absurd g (by decide)
    refine ex_mono (lp_dl (A := A) (c := c) hl hq (hX.pt pt3) e0 e1 rg3 q14 q15 qR hA (fun z => ⟨spl_k (sp z), by omega⟩)) fun o ho => ?_
    obtain ⟨K, ho, d⟩ := ho
    refine ⟨K, ho, ?_⟩
    unfold dlP
    by_cases s : splZ T n (tS T n e) (tK T n e) (tE T n e) 12 = true
    · rw [if_neg (by rw [← e9, s]; decide), if_neg (by omega)]
      have o2 := hJ2.1.ok k1 (if_pos s)
      have o3 := hJ3.1.ok o2.1 rfl
      have g := d.2.2 o3.1
      exact ⟨pt3.rw.z.trans d.1, fun z => absurd h16 z, fun _ => ⟨fun w => by
        have gg := g.1 w
        exact ⟨gg.1, by rw [gg.2.1, o3.2.1, o2.2.1]; exact hJ1.2.2.2.2.2, gg.2.2⟩, g.2⟩⟩
    · rw [if_pos (by rw [← e9]; exact Bool.eq_false_iff.mpr s)]
      have g := hJ2.1.er k1 (by rw [if_neg s]; decide)
      rw [if_neg s, hJ1.2.2.1] at g
      exact bad J3 K 1 _ _ pt3 (hJ3.1.ef g) d
end Rdog
