/-! ===== the states before ===== -/
def rowP (n : Int) : Nat := 16 + 15 * n.toNat
theorem la_row {q : Nat} (hq : 181 ≤ q) {n : Int} (h0 : 0 ≤ n) (h1 : n < 8) : LineAt q (rowP n) := by
  have : n = 0 ∨ n = 1 ∨ n = 2 ∨ n = 3 ∨ n = 4 ∨ n = 5 ∨ n = 6 ∨ n = 7 := by omega
  rcases this with rfl | rfl | rfl | rfl | rfl | rfl | rfl | rfl
  · exact la16 hq
  · exact la31 hq
  · exact la46 hq
  · exact la61 hq
  · exact la76 hq
  · exact la91 hq
  · exact la106 hq
  · exact la121 hq
theorem rr_row {n : Int} (h0 : 0 ≤ n) (h1 : n < 8) : R0 15 n.toNat = some (rowP n) := by
  have : n = 0 ∨ n = 1 ∨ n = 2 ∨ n = 3 ∨ n = 4 ∨ n = 5 ∨ n = 6 ∨ n = 7 := by omega
  rcases this with rfl | rfl | rfl | rfl | rfl | rfl | rfl | rfl <;> decide +kernel
theorem rowP_b {n : Int} (h0 : 0 ≤ n) (h1 : n < 8) : 16 ≤ rowP n ∧ rowP n + 14 < 136 := by unfold rowP; omega
section Hist
variable {l : LX} {q p a : Nat} {I : Nat → Int → Int} {v : Int} {fr : Bool} {c : Int}
theorem ct_keep (hl : l.1.stackTraces = false) (hq : 181 ≤ q) (ha : LineAt q a) (h : CINV I a c) (ha2 : 136 ≤ a) {n : Int} (hn : I 14 1 = n) (h0 : 0 ≤ n) (h1 : n < 8) (hc0 : 0 ≤ I 14 0) (hc1 : I 14 0 ≤ 8) : CT l 29 [.ref 14, .ref a] (mm q I v fr) 0 0 (oE q v fr none (fun K => (∀ b, (b < rowP n ∨ rowP n + 14 < b) → b ≠ 14 → K b = I b) ∧ Vc K (rowP n) = Vc I a ∧ CX K (rowP n) ∧ K 14 1 = (n + 1) % 8 ∧ K 14 0 = min (I 14 0 + 1) 8)) := by
  have hp : LineAt q (rowP n) := la_row hq h0 h1
  have hr : R0 15 n.toNat = some (rowP n) := rr_row h0 h1
  have hb := rowP_b h0 h1
  obtain ⟨p, hpe⟩ : ∃ p, p = rowP n := ⟨_, rfl⟩
  rw [← hpe] at hp hr hb ⊢
  have hpb := hp.b
  refine mkct2 hl (by decide) (Nat.le_of_ble_eq_true rfl) (L := [some (.ref 14), some (.ref a), none]) rfl ?_
  refine x_aload_n (pc := 0) rfl d29_0 ?_
  refine m_getR (pc := 1) f29_11 (by decide +kernel) (ko14 (by omega)) rr14_2 d29_1 ?_
  refine x_aload_n (pc := 4) rfl d29_4 ?_
  refine m_getI (pc := 5) (z := 1) f29_18 (by decide +kernel) rfl (ko14 (by omega)) d29_5 ?_
  refine x_val (pc := 8) (w := n) (hn) ?_
  refine m_aald (pc := 8) (kr15 (by omega)) (by omega) (by omega) (by omega) (r := p) (hr) d29_8 ?_
  refine x_astore_n (pc := 9) (by decide +kernel) rfl d29_9 ?_
  dsimp only [List.set]
  refine x_aload_n (pc := 10) rfl d29_10 ?_
  refine x_ifnull (pc := 11) d29_11 ?_
  refine x_aload_n (pc := 14) rfl d29_14 ?_
  refine x_aload_n (pc := 15) rfl d29_15 ?_
  refine x_cVev (pc := 16) c29_22 (ct_copyV hl hp ha (by omega) h) hp.o0 rfl rfl (Nat.le_of_ble_eq_true rfl) (by decide +kernel) (by decide +kernel) d29_16 (fun J1 hJ1 => ?_)
  obtain ⟨j0, j1, j2⟩ := hJ1
  have j14 : J1 14 = I 14 := j0 14 (by omega)
  refine x_aload_n (pc := 19) rfl d29_19 ?_
  refine x_aload_n (pc := 20) rfl d29_20 ?_
  refine m_getI (pc := 21) (z := 1) f29_18 (by decide +kernel) rfl (ko14 (by omega)) d29_21 ?_
  refine x_val (pc := 24) (w := n) (by rw [j14, hn]) ?_
  refine x_iconst (pc := 24) d29_24 ?_
  refine x_iadd (pc := 25) d29_25 ?_
  refine x_bipush (pc := 26) (by decide) d29_26 ?_
  refine x_irem (pc := 28) (by omega) (by omega) (by omega) (by omega) d29_28 ?_
  refine m_putI (pc := 29) (z := 1) f29_18 (by decide +kernel) (by decide +kernel) rfl (ko14 (by omega)) d29_29 ?_
  refine x_aload_n (pc := 32) rfl d29_32 ?_
  refine x_aload_n (pc := 33) rfl d29_33 ?_
  refine m_getW (pc := 34) (z := 0) (w := (J1 14 0)) f29_26 (by decide +kernel) rfl (ko14 (by omega)) (by rw [up2_i (by decide)]) d29_34 ?_
  refine x_val (pc := 37) (w := (I 14 0)) (by rw [j14]) ?_
  refine x_iconst (pc := 37) d29_37 ?_
  refine x_iadd (pc := 38) d29_38 ?_
  refine x_bipush (pc := 39) (by decide) d29_39 ?_
  refine x_min (pc := 41) ⟨by omega, by omega⟩ ⟨by omega, by omega⟩ c29_29 (by decide +kernel) (Nat.le_of_ble_eq_true rfl) d29_41 ?_
  refine m_putI (pc := 44) (z := 0) f29_26 (by decide +kernel) (by decide +kernel) rfl (ko14 (by omega)) d29_44 ?_
  refine x_vret (pc := 47) rfl (fun _ => rfl) d29_47 ?_
  refine ⟨_, rfl, fun b b0 b1 => ?_, ?_, ?_, ?_, ?_⟩
  · rw [up2_off' _ _ _ b1, up2_off' _ _ _ b1]; exact j0 b b0
  · rw [vc_out (by omega), vc_out (by omega)]; exact j1
  · exact j2.cong fun b b0 b1 => by rw [up2_off' _ _ _ (by omega), up2_off' _ _ _ (by omega)]
  · rw [up2_i (by decide), up2_s]
  · rw [up2_s]
theorem ct_back (hl : l.1.stackTraces = false) (hq : 181 ≤ q) (hp : LineAt q p) (hp2 : 136 ≤ p) {n : Int} (hn : I 14 1 = n) (h0 : 0 ≤ n) (h1 : n < 8) (hc0 : 0 < I 14 0) (hc1 : I 14 0 ≤ 8) (h : CINV I (rowP ((n + 7) % 8)) c) : CT l 30 [.ref 14, .ref p] (mm q I v fr) 0 0 (oE q v fr none (fun K => (∀ b, (b < p ∨ p + 14 < b) → b ≠ 14 → K b = I b) ∧ Vc K p = Vc I (rowP ((n + 7) % 8)) ∧ CX K p ∧ K 14 1 = (n + 7) % 8 ∧ K 14 0 = I 14 0 - 1)) := by
  have ha : LineAt q (rowP ((n + 7) % 8)) := la_row hq (by omega) (by omega)
  have hr : R0 15 ((n + 7) % 8).toNat = some (rowP ((n + 7) % 8)) := rr_row (by omega) (by omega)
  have hb := rowP_b (n := (n + 7) % 8) (by omega) (by omega)
  obtain ⟨a, hae⟩ : ∃ a, a = rowP ((n + 7) % 8) := ⟨_, rfl⟩
  rw [← hae] at ha hr hb h ⊢
  have hpb := hp.b
  refine mkct2 hl (by decide) (Nat.le_of_ble_eq_true rfl) (L := [some (.ref 14), some (.ref p), none, none]) rfl ?_
  refine x_aload_n (pc := 0) rfl d30_0 ?_
  refine m_getI (pc := 1) (z := 1) f30_18 (by decide +kernel) rfl (ko14 (by omega)) d30_1 ?_
  refine x_val (pc := 4) (w := n) (hn) ?_
  refine x_bipush (pc := 4) (by decide) d30_4 ?_
  refine x_iadd (pc := 6) d30_6 ?_
  refine x_iconst (pc := 7) d30_7 ?_
  refine x_isub (pc := 8) d30_8 ?_
  refine x_bipush (pc := 9) (by decide) d30_9 ?_
  refine x_irem (pc := 11) (by omega) (by omega) (by omega) (by omega) d30_11 ?_
  refine x_val (pc := 12) (w := ((n + 7) % 8)) (by rw [show n + 8 - 1 = n + 7 from by omega]) ?_
  refine x_istore_n (pc := 12) (by decide +kernel) rfl d30_12 ?_
  dsimp only [List.set]
  refine x_aload_n (pc := 13) rfl d30_13 ?_
  refine m_getR (pc := 14) f30_11 (by decide +kernel) (ko14 (by omega)) rr14_2 d30_14 ?_
  refine x_iload_n (pc := 17) rfl d30_17 ?_
  refine m_aald (pc := 18) (kr15 (by omega)) (by omega) (by omega) (by omega) (r := a) (hr) d30_18 ?_
  refine x_astore_n (pc := 19) (by decide +kernel) rfl d30_19 ?_
  dsimp only [List.set]
  refine x_aload_n (pc := 20) rfl d30_20 ?_
  refine m_getI (pc := 21) (z := 0) f30_26 (by decide +kernel) rfl (ko14 (by omega)) d30_21 ?_
  refine x_if_le (pc := 24) (tgt := 51) ⟨by omega, by omega⟩ d30_24 (by decide) (fun g24 => ?_) (fun g24 => ?_)
  · refine x_vret (pc := 51) rfl (fun _ => rfl) d30_51 ?_
    exfalso; omega
  · refine x_aload_n (pc := 27) rfl d30_27 ?_
    refine x_ifnull (pc := 28) d30_28 ?_
    refine x_aload_n (pc := 31) rfl d30_31 ?_
    refine x_aload_n (pc := 32) rfl d30_32 ?_
    refine x_cVev (pc := 33) c30_22 (ct_copyV hl hp ha (by omega) h) hp.o0 rfl rfl (Nat.le_of_ble_eq_true rfl) (by decide +kernel) (by decide +kernel) d30_33 (fun J1 hJ1 => ?_)
    obtain ⟨j0, j1, j2⟩ := hJ1
    have j14 : J1 14 = I 14 := j0 14 (by omega)
    refine x_aload_n (pc := 36) rfl d30_36 ?_
    refine x_iload_n (pc := 37) rfl d30_37 ?_
    refine m_putI (pc := 38) (z := 1) f30_18 (by decide +kernel) (by decide +kernel) rfl (ko14 (by omega)) d30_38 ?_
    refine x_aload_n (pc := 41) rfl d30_41 ?_
    refine x_dup (pc := 42) rfl d30_42 ?_
    refine m_getW (pc := 43) (z := 0) (w := (J1 14 0)) f30_26 (by decide +kernel) rfl (ko14 (by omega)) (by rw [up2_i (by decide)]) d30_43 ?_
    refine x_iconst (pc := 46) d30_46 ?_
    refine x_isub (pc := 47) d30_47 ?_
    refine m_putI (pc := 48) (z := 0) f30_26 (by decide +kernel) (by decide +kernel) rfl (ko14 (by omega)) d30_48 ?_
    refine x_vret (pc := 51) rfl (fun _ => rfl) d30_51 ?_
    refine ⟨_, rfl, fun b b0 b1 => ?_, ?_, ?_, ?_, ?_⟩
    · rw [up2_off' _ _ _ b1, up2_off' _ _ _ b1]; exact j0 b b0
    · rw [vc_out (by omega), vc_out (by omega)]; exact j1
    · exact j2.cong fun b b0 b1 => by rw [up2_off' _ _ _ (by omega), up2_off' _ _ _ (by omega)]
    · rw [up2_i (by decide), up2_s]
    · rw [up2_s, j14]
theorem dt_forget (hl : l.1.stackTraces = false) (hq : 181 ≤ q) : DT l 31 [.ref 14] (mm q I v fr) 0 0 (.inl none, mm q (up2 I 14 0 0) v fr) := by
  refine mkdt hl (by decide) (Nat.le_of_ble_eq_true rfl) (L := [some (.ref 14)]) rfl ?_
  refine x_aload_n (pc := 0) rfl d31_0 ?_
  refine x_iconst (pc := 1) d31_1 ?_
  refine m_putI (pc := 2) (z := 0) f31_26 (by decide +kernel) (by decide +kernel) rfl (ko14 (by omega)) d31_2 ?_
  refine x_vret (pc := 5) rfl (fun _ => rfl) d31_5 ?_
  first | rfl | (exfalso; omega)
end Hist
