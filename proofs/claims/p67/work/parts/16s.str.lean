/-! ===== String.length and String.charAt of the program's texts ===== -/
theorem d333_0 : decode (cdN 333) 0 = .ok (.aload_n 0, 1) := by decide +kernel
theorem d333_1 : decode (cdN 333) 1 = .ok (.getfield 9, 3) := by decide +kernel
theorem d333_4 : decode (cdN 333) 4 = .ok (.arraylength, 1) := by decide +kernel
theorem d333_5 : decode (cdN 333) 5 = .ok (.aload_n 0, 1) := by decide +kernel
theorem d333_6 : decode (cdN 333) 6 = .ok (.invokevirtual 335, 3) := by decide +kernel
theorem d333_9 : decode (cdN 333) 9 = .ok (.ishr, 1) := by decide +kernel
theorem d333_10 : decode (cdN 333) 10 = .ok (.ireturn, 1) := by decide +kernel
theorem d334_0 : decode (cdN 334) 0 = .ok (.getstatic 38, 3) := by decide +kernel
theorem d334_3 : decode (cdN 334) 3 = .ok (.ifCond .eq 10, 3) := by decide +kernel
theorem d334_6 : decode (cdN 334) 6 = .ok (.aload_n 0, 1) := by decide +kernel
theorem d334_7 : decode (cdN 334) 7 = .ok (.getfield 15, 3) := by decide +kernel
theorem d334_10 : decode (cdN 334) 10 = .ok (.goto 4, 3) := by decide +kernel
theorem d334_14 : decode (cdN 334) 14 = .ok (.ireturn, 1) := by decide +kernel
theorem d335_0 : decode (cdN 335) 0 = .ok (.getstatic 38, 3) := by decide +kernel
theorem d335_3 : decode (cdN 335) 3 = .ok (.ifCond .eq 14, 3) := by decide +kernel
theorem d335_6 : decode (cdN 335) 6 = .ok (.aload_n 0, 1) := by decide +kernel
theorem d335_7 : decode (cdN 335) 7 = .ok (.getfield 15, 3) := by decide +kernel
theorem d335_10 : decode (cdN 335) 10 = .ok (.ifCond .ne 7, 3) := by decide +kernel
theorem d335_13 : decode (cdN 335) 13 = .ok (.iconst 1, 1) := by decide +kernel
theorem d335_14 : decode (cdN 335) 14 = .ok (.goto 4, 3) := by decide +kernel
theorem d335_18 : decode (cdN 335) 18 = .ok (.ireturn, 1) := by decide +kernel
theorem d336_0 : decode (cdN 336) 0 = .ok (.aload_n 0, 1) := by decide +kernel
theorem d336_1 : decode (cdN 336) 1 = .ok (.invokevirtual 492, 3) := by decide +kernel
theorem d336_4 : decode (cdN 336) 4 = .ok (.ifCond .eq 12, 3) := by decide +kernel
theorem d336_7 : decode (cdN 336) 7 = .ok (.aload_n 0, 1) := by decide +kernel
theorem d336_8 : decode (cdN 336) 8 = .ok (.getfield 9, 3) := by decide +kernel
theorem d336_11 : decode (cdN 336) 11 = .ok (.iload_n 1, 1) := by decide +kernel
theorem d336_12 : decode (cdN 336) 12 = .ok (.invokestatic 495, 3) := by decide +kernel
theorem d336_15 : decode (cdN 336) 15 = .ok (.ireturn, 1) := by decide +kernel
theorem d337_0 : decode (cdN 337) 0 = .ok (.iload_n 1, 1) := by decide +kernel
theorem d337_1 : decode (cdN 337) 1 = .ok (.aload_n 0, 1) := by decide +kernel
theorem d337_2 : decode (cdN 337) 2 = .ok (.arraylength, 1) := by decide +kernel
theorem d337_3 : decode (cdN 337) 3 = .ok (.invokestatic 9, 3) := by decide +kernel
theorem d337_6 : decode (cdN 337) 6 = .ok (.aload_n 0, 1) := by decide +kernel
theorem d337_7 : decode (cdN 337) 7 = .ok (.iload_n 1, 1) := by decide +kernel
theorem d337_8 : decode (cdN 337) 8 = .ok (.baload, 1) := by decide +kernel
theorem d337_9 : decode (cdN 337) 9 = .ok (.sipush 255, 3) := by decide +kernel
theorem d337_12 : decode (cdN 337) 12 = .ok (.iand, 1) := by decide +kernel
theorem d337_13 : decode (cdN 337) 13 = .ok (.i2c, 1) := by decide +kernel
theorem d337_14 : decode (cdN 337) 14 = .ok (.ireturn, 1) := by decide +kernel
theorem d338_0 : decode (cdN 338) 0 = .ok (.iload_n 0, 1) := by decide +kernel
theorem d338_1 : decode (cdN 338) 1 = .ok (.iload_n 1, 1) := by decide +kernel
theorem d338_2 : decode (cdN 338) 2 = .ok (.getstatic 1053, 3) := by decide +kernel
theorem d338_5 : decode (cdN 338) 5 = .ok (.invokestatic 1059, 3) := by decide +kernel
theorem d338_8 : decode (cdN 338) 8 = .ok (.pop, 1) := by decide +kernel
theorem d338_9 : decode (cdN 338) 9 = .ok (.return_, 1) := by decide +kernel
theorem d339_0 : decode (cdN 339) 0 = .ok (.iload_n 0, 1) := by decide +kernel
theorem d339_1 : decode (cdN 339) 1 = .ok (.ifCond .lt 8, 3) := by decide +kernel
theorem d339_4 : decode (cdN 339) 4 = .ok (.iload_n 0, 1) := by decide +kernel
theorem d339_5 : decode (cdN 339) 5 = .ok (.iload_n 1, 1) := by decide +kernel
theorem d339_6 : decode (cdN 339) 6 = .ok (.if_icmp .lt 10, 3) := by decide +kernel
theorem d339_16 : decode (cdN 339) 16 = .ok (.iload_n 0, 1) := by decide +kernel
theorem d339_17 : decode (cdN 339) 17 = .ok (.ireturn, 1) := by decide +kernel
/-- the byte at a place of text i -/
def tB (i : Nat) (j : Int) : Int := ((ksB i).getD j.toNat 0).toInt
theorem tbOk0 : (List.range nTC).all (fun i => (List.range (ksLen i)).all (fun j => decide (0 ≤ ((ksB i).getD j 0).toInt ∧ ((ksB i).getD j 0).toInt ≤ 127))) = true := by decide +kernel
theorem tB_r {i : Nat} {j : Int} (hi : i < nTC) (h0 : 0 ≤ j) (h1 : j < ksLen i) : 0 ≤ tB i j ∧ tB i j ≤ 127 := by
  have h := List.all_eq_true.mp (List.all_eq_true.mp tbOk0 i (List.mem_range.mpr hi)) j.toNat (List.mem_range.mpr (by omega))
  exact of_decide_eq_true h
theorem tbC0 : ∀ n : Fin 128, ((iI (n : Nat)).toUInt32 % 65536).toInt32 = iI (n : Nat) ∧ narrow .char (.int (iI (n : Nat))) = .int (iI (n : Nat)) := by decide +kernel
theorem tbC {z : Int} (h0 : 0 ≤ z) (h1 : z ≤ 127) : ((iI z).toUInt32 % 65536).toInt32 = iI z ∧ narrow .char (.int (iI z)) = .int (iI z) := by
  have := tbC0 ⟨z.toNat, by omega⟩
  rw [show (((⟨z.toNat, by omega⟩ : Fin 128) : Nat) : Int) = z from by show ((z.toNat : Nat) : Int) = z; omega] at this
  exact this
theorem ksLen_r : (List.range nTC).all (fun i => decide (ksLen i ≤ 100)) = true := by decide +kernel
theorem ksLen_b {i : Nat} (hi : i < nTC) : ksLen i ≤ 100 := of_decide_eq_true (List.all_eq_true.mp ksLen_r i (List.mem_range.mpr hi))
/-! the library's methods by number -/
theorem mtJ : (List.range 7).all (fun k => mtC (333 + k) && !(inN (333 + k)) && decide (hhN (333 + k) = [])) = true := by decide +kernel
theorem mtJ' {y : Nat} (h : 333 ≤ y) (h2 : y < 340) : mtC y = true ∧ inN y = false ∧ hhN y = [] := by
  have := List.all_eq_true.mp mtJ (y - 333) (List.mem_range.mpr (by omega))
  rw [show 333 + (y - 333) = y from by omega] at this
  simp only [Bool.and_eq_true, Bool.not_eq_true', decide_eq_true_eq] at this
  exact ⟨this.1.1, this.1.2, this.2⟩
theorem cpJ : cdW 333 = .code (ynN 333) (cdN 333) 1 (some .int) := rfl
theorem inT_any {w : Cond} (h : (lw_tbl.any (fun v => decide (v = w)) && goodWord w) = true) : w ∈ T0 := by
  simp only [Bool.and_eq_true, List.any_eq_true, decide_eq_true_eq] at h
  obtain ⟨⟨v, hv, rfl⟩, h2⟩ := h
  exact List.mem_filter.mpr ⟨hv, h2⟩
theorem jw_code (y p : Nat) (h : inT p (cdW y) = true) : cdW y ∈ T0 := inT_ok h
theorem jc333 : cdW 333 ∈ T0 := inT_any (by decide +kernel)
theorem jc334 : cdW 334 ∈ T0 := inT_any (by decide +kernel)
theorem jc335 : cdW 335 ∈ T0 := inT_any (by decide +kernel)
theorem jc336 : cdW 336 ∈ T0 := inT_any (by decide +kernel)
theorem jc337 : cdW 337 ∈ T0 := inT_any (by decide +kernel)
theorem jc338 : cdW 338 ∈ T0 := inT_any (by decide +kernel)
theorem jc339 : cdW 339 ∈ T0 := inT_any (by decide +kernel)
set_option maxHeartbeats 4000000 in
theorem mkctJ {l : LX} (hl : l.1.stackTraces = false) {y : Nat} (hy : 333 ≤ y) (hy2 : y < 340) {G : GG} {as : List Value} {L : LL} {σ : MM} {k n : Nat} {Q : OO → Prop} (hL : ∃ ls0 : Array Slot, ls0 = (lg_sl as ++ List.replicate (mlN y - (lg_sl as).length) Slot.unset).toArray ∧ LR G ls0 (mlN y) L) (h : Ex l y k n 0 L [] σ Q) :
    ∀ sz : Nat, (σ.2.2.2.2.2 = true → sz = G.2.2.2.2.2 σ.2.2.2.1 ∧ CS G σ.2.2.2.1) → scrOK G l → vx_Met l.1 (ynN y) (cdW y :: T0) { frames := htN y, cells := k, slots := n, locals := loN y } (va_Pc as (PW G σ sz)) (QW G σ sz k Q) (XW G σ sz k Q) k n (va_A (wsO G σ) sz) := by
  obtain ⟨hm, hi, hh⟩ := mtJ' hy hy2
  simp only [mtC, Bool.and_eq_true, decide_eq_true_eq] at hm
  intro sz hfr hsc
  obtain ⟨ls0, hls0, hL0⟩ := hL
  refine vx_ofW (cc := cdN y) (maxL := mlN y) (ret := rtN y) (ws' := T0) hm.1.1.1 (by rw [cdW_plain hh]) ?_
  intro p e s m args below meth c s₁ B hml ht hv
  obtain ⟨rfl, hsz, hnp, hP, hD, hST⟩ := hv
  have hts := atoms_spec (ws := cdW y :: T0) B.pre
  have hA : AMB l y G p (headSpec (cdW y :: T0) { frames := htN y, cells := k, slots := n, locals := loN y }).room s m as.toArray meth c (va_A (wsO G σ) sz) := by
    refine ⟨⟨hl, hsc⟩, B.exec, B.bytes, hml, B.returns, ?_, B.notSynchronized, fun h => (by rw [hi] at h; cases h), fun w hw => hts w (List.mem_cons_of_mem _ hw), ?_, rfl, rfl, fun q hq => Or.inr (hsz ▸ hq), hST⟩
    · rw [← hm.1.2]
      exact findClass_of_methodNamed B.named
    · rw [hh]
      exact List.eq_nil_iff_forall_not_mem.mpr ht
  have hF := fin_of (e := e) (below := below) (k := k) (n := n) (Q := Q) hsz hA (Nat.le_refl _) (Nat.le_refl _)
  rw [lg_entry_eq]
  rw [hls0] at hL0
  refine h G p e _ s m _ below meth c _ k n _ hA (Nat.le_refl _) (Nat.le_refl _) hF s.heap [] 0 0 _ (Nat.zero_add _) (Nat.zero_add _) hL0 ⟨hnp, hP, hD.weaken (fun i q hq _ => va_A.in hq), va_S.rf⟩ (fun z => ?_)
  exact ⟨by rw [hsz, (hfr z).1]; rfl, (hfr z).2, Or.inl (by rw [hsz, (hfr z).1]; exact Nat.le_refl _)⟩
theorem ctJ {l : LX} (hl : l.1.stackTraces = false) {y : Nat} (hy : 333 ≤ y) (hy2 : y < 340) {as : List Value} {L : LL} {σ : MM} {k n : Nat} {Q : OO → Prop} (hlen : (enL as).length ≤ mlN y) (hL : en y as = L) (h : Ex l y k n 0 L [] σ Q) : CT l y as σ k n Q := fun G sz h1 h2 => mkctJ hl hy hy2 ⟨_, rfl, by rw [← hL]; exact LR.start hlen⟩ h sz h1 h2
section Txt
variable {l : LX} {y k n pc i : Nat} {L : LL} {st : List Value} {σ : MM} {Q : OO → Prop}
theorem x_tval (ho : owN y = 12) (hi : i < nTC) (hd : decode (cdN y) pc = .ok (.getfield 9, 3)) (kk : Ex l y k n (pc + 3) L (.ref (scr + 1001 + i) :: st) σ Q) : Ex l y k n pc L (.ref (scr + 1 + i) :: st) σ Q := by
  intro G p e R s m args below meth c0 A CE SE Qf hA hC hS hF H locs cells slots ls h1 h2 hL hW hR
  have hST := hA.2.2.2.2.2.2.2.2.2.2.2.2.2
  have hw : Cond.fieldLink (clsN 12) 9 "java/lang/String" "value" "[B" ∈ T0 := inT_any (by decide +kernel)
  have h9 := kk G p e R s m args below meth c0 A CE SE Qf hA hC hS hF H locs cells slots ls h1 h2 hL hW hR
  rw [show cvs G (.ref (scr + 1001 + i) :: st) = .ref (adr G (scr + 1001 + i)) :: cvs G st from rfl, adr_tb] at h9
  rw [show cvs G (.ref (scr + 1 + i) :: st) = .ref (adr G (scr + 1 + i)) :: cvs G st from rfl, adr_tx (Nat.lt_of_lt_of_le hi (by decide))]
  exact va_getX hA.2.1 hA.2.2.1 (o := "java/lang/String") (n := "value") (d := "[B") (own := clsN (owN y)) (ref := "java/lang/String") (N := nTC) (v := fun i => .ref (G.2.2.2.2.1 i)) (ad := G.2.2.2.1) (fun i hi => (hST.2.2.1 i hi).2.2.1) hi hW.2.2.2 hA.2.2.2.2.2.1 (by rw [ho]; exact hA.2.2.2.2.2.2.2.2.1 _ hw) (fun x hx => hx) hd h9
theorem x_tcod (ho : owN y = 12) (hi : i < nTC) (hd : decode (cdN y) pc = .ok (.getfield 15, 3)) (kk : Ex l y k n (pc + 3) L (.int (iI 0) :: st) σ Q) : Ex l y k n pc L (.ref (scr + 1 + i) :: st) σ Q := by
  intro G p e R s m args below meth c0 A CE SE Qf hA hC hS hF H locs cells slots ls h1 h2 hL hW hR
  have hST := hA.2.2.2.2.2.2.2.2.2.2.2.2.2
  have hw : Cond.fieldLink (clsN 12) 15 "java/lang/String" "coder" "B" ∈ T0 := inT_any (by decide +kernel)
  have h9 := kk G p e R s m args below meth c0 A CE SE Qf hA hC hS hF H locs cells slots ls h1 h2 hL hW hR
  rw [show cvs G (.ref (scr + 1 + i) :: st) = .ref (adr G (scr + 1 + i)) :: cvs G st from rfl, adr_tx (Nat.lt_of_lt_of_le hi (by decide))]
  exact va_getX hA.2.1 hA.2.2.1 (o := "java/lang/String") (n := "coder") (d := "B") (own := clsN (owN y)) (ref := "java/lang/String") (N := nTC) (v := fun _ => .int 0) (ad := G.2.2.2.1) (fun i hi => (hST.2.2.1 i hi).2.1) hi hW.2.2.2 hA.2.2.2.2.2.1 (by rw [ho]; exact hA.2.2.2.2.2.2.2.2.1 _ hw) (fun x hx => hx) hd h9
theorem x_tlen (hi : i < nTC) (hd : decode (cdN y) pc = .ok (.arraylength, 1)) (kk : Ex l y k n (pc + 1) L (.int (iI (ksLen i)) :: st) σ Q) : Ex l y k n pc L (.ref (scr + 1001 + i) :: st) σ Q := by
  intro G p e R s m args below meth c0 A CE SE Qf hA hC hS hF H locs cells slots ls h1 h2 hL hW hR
  have hST := hA.2.2.2.2.2.2.2.2.2.2.2.2.2
  have h9 := kk G p e R s m args below meth c0 A CE SE Qf hA hC hS hF H locs cells slots ls h1 h2 hL hW hR
  rw [show cvs G (.ref (scr + 1001 + i) :: st) = .ref (adr G (scr + 1001 + i)) :: cvs G st from rfl, adr_tb]
  exact va_tlen hA.2.1 hA.2.2.1 (hST.2.2.1 i hi).2.2.2 hW.2.2.2 (iI_nat _) hd h9
theorem x_tbyte {j : Int} (hi : i < nTC) (h0 : 0 ≤ j) (h1 : j < ksLen i) (hd : decode (cdN y) pc = .ok (.baload, 1)) (kk : Ex l y k n (pc + 1) L (.int (iI (tB i j)) :: st) σ Q) : Ex l y k n pc L (.int (iI j) :: .ref (scr + 1001 + i) :: st) σ Q := by
  intro G p e R s m args below meth c0 A CE SE Qf hA hC hS hF H locs cells slots ls g1 g2 hL hW hR
  have hST := hA.2.2.2.2.2.2.2.2.2.2.2.2.2
  have hb := ksLen_b hi
  have h9 := kk G p e R s m args below meth c0 A CE SE Qf hA hC hS hF H locs cells slots ls g1 g2 hL hW hR
  rw [show cvs G (.int (iI j) :: .ref (scr + 1001 + i) :: st) = .int (iI j) :: .ref (adr G (scr + 1001 + i)) :: cvs G st from rfl, adr_tb]
  exact va_tb hA.2.1 hA.2.2.1 (hST.2.2.1 i hi).2.2.2 hW.2.2.2 (iI_in h0 h1 (by omega)) (by rw [iI_clamp ⟨by omega, by omega⟩]; exact congrArg Value.int (iI_self _).symm) hd h9
theorem x_tCS (ho : owN y = 12) (hd : decode (cdN y) pc = .ok (.getstatic 38, 3)) (kk : Ex l y k n (pc + 3) L (.int (iI 1) :: st) σ Q) : Ex l y k n pc L st σ Q := by
  intro G p e R s m args below meth c0 A CE SE Qf hA hC hS hF H locs cells slots ls h1 h2 hL hW hR
  have hST := hA.2.2.2.2.2.2.2.2.2.2.2.2.2
  have hw : Cond.fieldLink (clsN 12) 38 "java/lang/String" "COMPACT_STRINGS" "Z" ∈ T0 := inT_any (by decide +kernel)
  have h9 := kk G p e R s m args below meth c0 A CE SE Qf hA hC hS hF H locs cells slots ls h1 h2 hL hW hR
  exact va_gets hA.2.1 hA.2.2.1 (own := clsN (owN y)) (ref := "java/lang/String") hST.2.2.2.2.2.1 hW.2.2.2 hA.2.2.2.2.2.1 (by rw [ho]; exact hA.2.2.2.2.2.2.2.2.1 _ hw) (fun x hx => hx) hd h9
theorem x_i2c {z : Int} (h0 : 0 ≤ z) (h1 : z ≤ 127) (hd : decode (cdN y) pc = .ok (.i2c, 1)) (kk : Ex l y k n (pc + 1) L (.int (iI z) :: st) σ Q) : Ex l y k n pc L (.int (iI z) :: st) σ Q :=
  x_go (fun G p e R s m args below meth c Qf H locs cells slots ls hx hb hL hk => lv_i2c hx hb hd (tbC h0 h1).1 hk) kk
/-- a text's own method -/
theorem x_callT {ix t : Nat} {As rest : List Value} {Q1 : OO → Prop} (ht : 333 ≤ t) (ht2 : t < 340) (hS : (ynN t).cls = "java/lang/String") (hcp : cdW t ∈ T0) (w1 : Cond.methodLink (clsN (owN y)) ix (ynN t) ∈ T0) (w2 : Cond.instanceMethod (ynN t) ∈ T0) (w3 : Cond.selects (ynN t).cls (ynN t) (ynN t) ∈ T0) (w4 : Cond.initialized (ynN t).cls ∈ T0) (hi : i < nTC) (hCT : CT l t (.ref (scr + 1 + i) :: As) σ 0 0 Q1) (hst : st = As.reverse ++ .ref (scr + 1 + i) :: rest) (hlen : As.length = naN t) (hcat : cats rest ≤ 8) (hh : htN t + 1 ≤ htN y) (hlo : 8 + (mlN t + 11) + loN t ≤ loN y) (hd : decode (cdN y) pc = .ok (.invokevirtual ix, 3))
    (hu : σ.2.2.2.2.2 = true ∨ ∀ (v : Option Value) (τ : MM), Q1 (.inl v, τ) → τ.2.2.2.2.2 = false) (kk : ∀ (v : Option Value) (τ : MM), Q1 (.inl v, τ) → Ex l y k n (pc + 3) L (v.toList ++ rest) τ Q) (kx : ∀ (E : Nat) (τ : MM), Q1 (.inr E, τ) → τ.2.2.2.2.2 = false → XH l y k n pc L Q E τ) : Ex l y (0 + k) (0 + n) pc L st σ Q := by
  obtain ⟨hmt, -, hh0⟩ := mtJ' ht ht2
  simp only [mtC, Bool.and_eq_true, decide_eq_true_eq] at hmt
  refine x_call (rest := rest) (As := .ref (scr + 1 + i) :: As) (Q1 := Q1) (fun G p e R s m args below meth c A H locs cells slots ls hA h1 h2 hL hW hsz => ?_) hu kk kx
  have hts := hA.2.2.2.2.2.2.2.2.1
  have hST := hA.2.2.2.2.2.2.2.2.2.2.2.2.2
  have hpre := (pre_of hA hW).2 (cvs G (.ref (scr + 1 + i) :: As))
  have ha : adr G (scr + 1 + i) = G.2.2.2.1 i := adr_tx (Nat.lt_of_lt_of_le hi (by decide))
  obtain ⟨cell, c1, c2, c3, -⟩ := (hST.2.2.1 i hi).1.kept hW.2.2.2.2.1
  have e1 : cvs G (.ref (scr + 1 + i) :: As) = .ref (G.2.2.2.1 i) :: cvs G As := by
    show Value.ref (adr G (scr + 1 + i)) :: cvs G As = _
    rw [ha]
  have hM := hCT G H.size hsz hA.1.2
  rw [e1] at hM hpre ⊢
  refine vx_runV (Ts := cdW t :: T0) (own := clsN (owN y)) (C := "java/lang/String") (cc := cdN y) (nL := mlN y) (y := ynN t) (bytes := cdN t) (maxL := mlN t) (ret := rtN t) (ws := cdW t :: T0) (index := ix) (n := naN t) (b := G.2.2.2.1 i) (As := cvs G As) ⟨hA.2.1, hA.2.2.1, hA.2.2.2.1, hA.2.2.2.2.2.1, ?_⟩ hM ?_ ⟨hpre.1, ⟨cell, c1, c2, c3⟩, hpre.2⟩ rfl (by unfold cvs; rw [List.length_map]; exact hlen) hL.1 ?_ ?_ hd ⟨h1, h2⟩
  · intro w hw2
    rcases List.mem_cons.mp hw2 with rfl | h
    · exact hts _ hcp
    · exact hts w h
  · refine cwV (naN t) (Ts := T0) (ws' := T0) hts (fun w hw2 => ?_) (by rw [cdW_plain hh0]) rfl rfl ⟨hS, hmt.2.1, hmt.2.2, hmt.1.1.2⟩ ⟨by rw [hA.2.2.2.2.2.2.2.2.2.2.1]; exact hh, by rw [hA.2.2.2.2.2.2.2.2.2.2.2.1]; exact hlo⟩
    refine T0_good w ?_
    rcases List.mem_append.mp hw2 with h | h
    · rw [← hS] at h
      simp only [List.mem_cons, List.not_mem_nil, or_false] at h
      rcases h with rfl | rfl | rfl | rfl
      · exact w1
      · exact w2
      · exact w3
      · exact w4
    · rcases List.mem_cons.mp h with rfl | h
      · exact hcp
      · exact h
  · rw [hst]
    show (As.reverse ++ Value.ref (scr + 1 + i) :: rest).map (cv G) = _
    rw [List.map_append, List.map_reverse]
    show _ ++ Value.ref (adr G (scr + 1 + i)) :: _ = _
    rw [ha]
    rfl
  · show 2 * 0 + ((cvs G rest).map fun v => v.category).sum ≤ 8
    rw [cvs_cats]
    omega
/-- .. another class's static method of the library, its arguments as they lie on the stack -/
theorem x_callJ {ix t : Nat} {st rest : List Value} {Q1 : OO → Prop} (ht : 333 ≤ t) (ht2 : t < 340) (hcp : cdW t ∈ T0) (w1 : Cond.methodLink (clsN (owN y)) ix (ynN t) ∈ T0) (w2 : Cond.static (ynN t) ∈ T0) (w4 : Cond.initialized (ynN t).cls ∈ T0) {As : List Value} (hCT : CT l t As σ 0 0 Q1) (hst : st = As.reverse ++ rest) (hlen : As.length = naN t) (hcat : cats rest ≤ 8) (hh : htN t + 1 ≤ htN y) (hlo : 8 + (mlN t + 11) + loN t ≤ loN y) (hd : decode (cdN y) pc = .ok (.invokestatic ix, 3))
    (hu : σ.2.2.2.2.2 = true ∨ ∀ (v : Option Value) (τ : MM), Q1 (.inl v, τ) → τ.2.2.2.2.2 = false) (kk : ∀ (v : Option Value) (τ : MM), Q1 (.inl v, τ) → Ex l y k n (pc + 3) L (v.toList ++ rest) τ Q) (kx : ∀ (E : Nat) (τ : MM), Q1 (.inr E, τ) → τ.2.2.2.2.2 = false → XH l y k n pc L Q E τ) : Ex l y (0 + k) (0 + n) pc L st σ Q := by
  obtain ⟨hmt, -, hh0⟩ := mtJ' ht ht2
  simp only [mtC, Bool.and_eq_true, decide_eq_true_eq] at hmt
  refine x_call (rest := rest) (As := As) (Q1 := Q1) (fun G p e R s m args below meth c A H locs cells slots ls hA h1 h2 hL hW hsz => ?_) hu kk kx
  have hts := hA.2.2.2.2.2.2.2.2.1
  have hpre := (pre_of hA hW).2 (cvs G As)
  have hM := hCT G H.size hsz hA.1.2
  refine vx_runS (Ts := cdW t :: T0) (own := clsN (owN y)) (cc := cdN y) (nL := mlN y) (y := ynN t) (bytes := cdN t) (maxL := mlN t) (ret := rtN t) (ws := cdW t :: T0) (index := ix) (n := naN t) (As := cvs G As) ⟨hA.2.1, hA.2.2.1, hA.2.2.2.1, hA.2.2.2.2.2.1, ?_⟩ hM ?_ hpre rfl (by unfold cvs; rw [List.length_map]; exact hlen) hL.1 ?_ ?_ hd ⟨h1, h2⟩
  · intro w hw2
    rcases List.mem_cons.mp hw2 with rfl | h
    · exact hts _ hcp
    · exact hts w h
  · refine va_cwS (naN t) (Ts := T0) (ws' := T0) hts (fun w hw2 => ?_) (by rw [cdW_plain hh0]) rfl rfl ⟨hmt.2.1, hmt.2.2, hmt.1.1.2⟩ ⟨by rw [hA.2.2.2.2.2.2.2.2.2.2.1]; exact hh, by rw [hA.2.2.2.2.2.2.2.2.2.2.2.1]; exact hlo⟩
    refine T0_good w ?_
    rcases List.mem_append.mp hw2 with h | h
    · simp only [List.mem_cons, List.not_mem_nil, or_false] at h
      rcases h with rfl | rfl | rfl
      · exact w1
      · exact w2
      · exact w4
    · rcases List.mem_cons.mp h with rfl | h
      · exact hcp
      · exact h
  · rw [hst]
    show (As.reverse ++ rest).map (cv G) = _
    rw [List.map_append, List.map_reverse]
    rfl
  · show 2 * 0 + ((cvs G rest).map fun v => v.category).sum ≤ 8
    rw [cvs_cats]
    omega
/-- Preconditions.checkIndex, whatever its third argument -/
theorem ex_pcheck {a b : Int} (h0 : 0 ≤ a) (h1 : a < b) (hb : b ≤ 2147483647) : Ex l 339 0 0 0 [some (.int (iI a)), some (.int (iI b)), none] [] σ (fun o => o = (.inl (some (.int (iI a))), σ)) := by
  refine x_iload_n (pc := 0) rfl d339_0 ?_
  refine x_if_lt (pc := 1) (tgt := 9) ⟨by omega, by omega⟩ d339_1 (by decide) (fun g => ?_) (fun _ => ?_)
  · exfalso; omega
  refine x_iload_n (pc := 4) rfl d339_4 ?_
  refine x_iload_n (pc := 5) rfl d339_5 ?_
  refine x_icmp_lt (pc := 6) (tgt := 16) ⟨by omega, by omega⟩ ⟨by omega, by omega⟩ d339_6 (by decide) (fun _ => ?_) (fun g => ?_)
  · refine x_iload_n (pc := 16) rfl d339_16 ?_
    exact x_iret rfl (fun _ => rfl) d339_17 rfl
  · exfalso; omega
/-- the two rows of String.checkIndex that hand the maker of messages over -/
theorem x_chk {a b : Int} (hl : l.1.stackTraces = false) (h0 : 0 ≤ a) (h1 : a < b) (hb : b ≤ 2147483647) (kk : Ex l 338 k n 8 L [.int (iI a)] σ Q) : Ex l 338 k n 2 L [.int (iI b), .int (iI a)] σ Q := by
  obtain ⟨hmt, -, hh0⟩ := mtJ' (y := 339) (by decide) (by decide)
  simp only [mtC, Bool.and_eq_true, decide_eq_true_eq] at hmt
  intro G p e R s m args below meth c A CE SE Qf hA hC hS hF H locs cells slots ls g1 g2 hL hW hR
  have hts := hA.2.2.2.2.2.2.2.2.1
  have hST := hA.2.2.2.2.2.2.2.2.2.2.2.2.2
  have hZ := hST.2.2.2.2.2.2.2.2.2.2.1
  have hw : Cond.fieldLink (clsN 12) 1053 "jdk/internal/util/Preconditions" "SIOOBE_FORMATTER" "Ljava/util/function/BiFunction;" ∈ T0 := inT_any (by decide +kernel)
  have main : ∀ v : Value, va_Z "jdk/internal/util/Preconditions" "SIOOBE_FORMATTER" "Ljava/util/function/BiFunction;" v A s s.heap → (lg_sl [Value.int (iI a), .int (iI b), v]).length ≤ 3 → W p l.1 e R s m args below meth c H locs cells slots Qf (F0 m 2 ls [.int (iI b), .int (iI a)]) := by
    intro v hv hlen
    refine va_gets hA.2.1 hA.2.2.1 (own := clsN (owN 338)) (ref := "jdk/internal/util/Preconditions") hv hW.2.2.2 hA.2.2.2.2.2.1 (hts _ hw) (fun x hx => hx) d338_2 ?_
    refine W_by fun T hT X => ?_
    have hsz := size_of hW hR X hT
    have hpre := (pre_of hA hW).2 [.int (iI a), .int (iI b), v]
    have hM := mkctJ hl (y := 339) (by decide) (by decide) (G := G) (as := [.int (iI a), .int (iI b), v]) (L := [some (.int (iI a)), some (.int (iI b)), none]) (σ := σ) ⟨_, rfl, LR.of (lv_entry [.int (iI a), .int (iI b), v] hlen) rfl (fun i w hi => by
      match i, hi with
      | 0, hi => cases hi; exact List.mem_cons_self
      | 1, hi => cases hi; exact List.mem_cons_of_mem _ List.mem_cons_self
      | 2, hi => cases hi
      | i + 3, hi => cases hi)⟩ (ex_pcheck (l := l) (σ := σ) h0 h1 hb) H.size (fun z => ⟨hsz z, (hR z).2.1⟩) hA.1.2
    refine cal_go (pc := 5) (rest := []) (Q := fun o => o = (.inl (some (.int (iI a))), σ)) (a := [Value.int (iI a), .int (iI b), v].toArray) hA hW (vx_runS (Ts := cdW 339 :: T0) (own := clsN (owN 338)) (cc := cdN 338) (nL := mlN 338) (y := ynN 339) (bytes := cdN 339) (maxL := mlN 339) (ret := rtN 339) (ws := cdW 339 :: T0) (index := 1059) (n := naN 339) (As := [.int (iI a), .int (iI b), v]) ⟨hA.2.1, hA.2.2.1, hA.2.2.2.1, hA.2.2.2.2.2.1, ?_⟩ hM ?_ hpre rfl rfl hL.1 rfl (by show 2 * 0 + 0 ≤ 8; omega) d338_5 ⟨by omega, by omega⟩) (fun v2 τ H1 locs1 hq hW1 hfr => ?_) (fun E τ H1 locs1 q ce hq hf hW1 hce hv2 hcl => by cases hq)
    · intro w hw2
      rcases List.mem_cons.mp hw2 with rfl | h
      · exact hts _ jc339
      · exact hts w h
    · refine va_cwS (naN 339) (Ts := T0) (ws' := T0) hts (fun w hw2 => ?_) (by rw [cdW_plain hh0]) rfl rfl ⟨hmt.2.1, hmt.2.2, hmt.1.1.2⟩ ⟨by rw [hA.2.2.2.2.2.2.2.2.2.2.1]; decide +kernel, by rw [hA.2.2.2.2.2.2.2.2.2.2.2.1]; decide +kernel⟩
      refine T0_good w ?_
      rcases List.mem_append.mp hw2 with h | h
      · simp only [List.mem_cons, List.not_mem_nil, or_false] at h
        rcases h with rfl | rfl | rfl
        · exact inT_any (by decide +kernel)
        · exact inT_any (by decide +kernel)
        · exact inT_any (by decide +kernel)
      · rcases List.mem_cons.mp h with rfl | h
        · exact jc339
        · exact h
    · cases hq
      exact kk G p e R s m args below meth c A CE SE Qf hA hC hS hF H1 locs1 (cells + 0) (slots + 0) ls (by omega) (by omega) hL hW1 (fun z => by
        have e1 := hfr z
        have e2 := hsz z
        have e3 := hR z
        exact ⟨by omega, e1.2.1, AJ.over e3.2.1 e1.2.1 e2 e3.2.2 e1.2.2 (by omega)⟩)
  rcases hZ with h | ⟨t, h⟩
  · exact main _ h (Nat.le_refl 3)
  · exact main _ h (Nat.le_refl 3)
theorem fr_or' {w : Option Value} : σ.2.2.2.2.2 = true ∨ ∀ (v : Option Value) (τ' : MM), ((Sum.inl v, τ') : OO) = (.inl w, σ) → τ'.2.2.2.2.2 = false := by
  cases hs : σ.2.2.2.2.2 with
  | true => exact Or.inl rfl
  | false => exact Or.inr fun v τ' e => by rw [show τ' = σ from congrArg Prod.snd e]; exact hs
theorem ct_coder (hl : l.1.stackTraces = false) (hi : i < nTC) : CT l 334 [.ref (scr + 1 + i)] σ 0 0 (fun o => o = (.inl (some (.int (iI 0))), σ)) := by
  refine ctJ hl (by decide) (by decide) (L := [some (.ref (scr + 1 + i))]) (Nat.le_of_ble_eq_true rfl) rfl ?_
  refine x_tCS (pc := 0) rfl d334_0 ?_
  refine x_if_eq (pc := 3) (tgt := 13) ⟨by omega, by omega⟩ d334_3 (by decide) (fun z => absurd z (by decide)) (fun _ => ?_)
  refine x_aload_n (pc := 6) rfl d334_6 ?_
  refine x_tcod (pc := 7) rfl hi d334_7 ?_
  refine x_goto (pc := 10) (tgt := 14) d334_10 (by decide) ?_
  exact x_ret (fun _ => rfl) rfl (Or.inl ⟨d334_14, _, rfl, Or.inr ⟨.byte, rfl, by decide⟩⟩) rfl
theorem ct_latin (hl : l.1.stackTraces = false) (hi : i < nTC) : CT l 335 [.ref (scr + 1 + i)] σ 0 0 (fun o => o = (.inl (some (.int (iI 1))), σ)) := by
  refine ctJ hl (by decide) (by decide) (L := [some (.ref (scr + 1 + i))]) (Nat.le_of_ble_eq_true rfl) rfl ?_
  refine x_tCS (pc := 0) rfl d335_0 ?_
  refine x_if_eq (pc := 3) (tgt := 17) ⟨by omega, by omega⟩ d335_3 (by decide) (fun z => absurd z (by decide)) (fun _ => ?_)
  refine x_aload_n (pc := 6) rfl d335_6 ?_
  refine x_tcod (pc := 7) rfl hi d335_7 ?_
  refine x_if_ne (pc := 10) (tgt := 17) ⟨by omega, by omega⟩ d335_10 (by decide) (fun z => absurd rfl z) (fun _ => ?_)
  refine x_iconst (pc := 13) d335_13 ?_
  refine x_goto (pc := 14) (tgt := 18) d335_14 (by decide) ?_
  exact x_zret rfl (Or.inr rfl) (fun _ => rfl) d335_18 rfl
theorem ct_slen (hl : l.1.stackTraces = false) (hi : i < nTC) : CT l 333 [.ref (scr + 1 + i)] σ 0 0 (fun o => o = (.inl (some (.int (iI (ksLen i)))), σ)) := by
  have hb := ksLen_b hi
  refine ctJ hl (by decide) (by decide) (L := [some (.ref (scr + 1 + i))]) (Nat.le_of_ble_eq_true rfl) rfl ?_
  refine x_aload_n (pc := 0) rfl d333_0 ?_
  refine x_tval (pc := 1) rfl hi d333_1 ?_
  refine x_tlen (pc := 4) hi d333_4 ?_
  refine x_aload_n (pc := 5) rfl d333_5 ?_
  refine x_callT (k := 0) (n := 0) (pc := 6) (t := 334) (As := []) (rest := [.int (iI (ksLen i))]) (by decide) (by decide) rfl jc334 (inT_any (by decide +kernel)) (inT_any (by decide +kernel)) (inT_any (by decide +kernel)) (inT_any (by decide +kernel)) hi (ct_coder hl hi) rfl rfl (Nat.le_of_ble_eq_true rfl) (by decide +kernel) (by decide +kernel) d333_6 fr_or' (fun v τ e => ?_) (fun E τ e _ => by cases e)
  cases e
  refine x_ishr (pc := 9) (z := ksLen i) (by rw [iI_shr ⟨by omega, by omega⟩ (by decide) (by decide)]; exact congrArg iI (Int.ediv_one _)) d333_9 ?_
  exact x_iret rfl (fun _ => rfl) d333_10 rfl
theorem ct_check (hl : l.1.stackTraces = false) {a b : Int} (h0 : 0 ≤ a) (h1 : a < b) (hb : b ≤ 2147483647) : CT l 338 [.int (iI a), .int (iI b)] σ 0 0 (fun o => o = (.inl none, σ)) := by
  refine ctJ hl (by decide) (by decide) (L := [some (.int (iI a)), some (.int (iI b))]) (Nat.le_of_ble_eq_true rfl) rfl ?_
  refine x_iload_n (pc := 0) rfl d338_0 ?_
  refine x_iload_n (pc := 1) rfl d338_1 ?_
  refine x_chk hl h0 h1 hb ?_
  refine x_pop (pc := 8) rfl d338_8 ?_
  exact x_vret rfl (fun _ => rfl) d338_9 rfl
theorem ct_lchar (hl : l.1.stackTraces = false) (hi : i < nTC) {j : Int} (h0 : 0 ≤ j) (h1 : j < ksLen i) : CT l 337 [.ref (scr + 1001 + i), .int (iI j)] σ 0 0 (fun o => o = (.inl (some (.int (iI (tB i j)))), σ)) := by
  have hb := ksLen_b hi
  have ht := tB_r hi h0 h1
  refine ctJ hl (by decide) (by decide) (L := [some (.ref (scr + 1001 + i)), some (.int (iI j))]) (Nat.le_of_ble_eq_true rfl) rfl ?_
  refine x_iload_n (pc := 0) rfl d337_0 ?_
  refine x_aload_n (pc := 1) rfl d337_1 ?_
  refine x_tlen (pc := 2) hi d337_2 ?_
  refine x_callJ (k := 0) (n := 0) (pc := 3) (t := 338) (As := [.int (iI j), .int (iI (ksLen i))]) (rest := []) (by decide) (by decide) jc338 (inT_any (by decide +kernel)) (inT_any (by decide +kernel)) (inT_any (by decide +kernel)) (ct_check hl h0 h1 (by omega)) rfl rfl (Nat.le_of_ble_eq_true rfl) (by decide +kernel) (by decide +kernel) d337_3 fr_or' (fun v τ e => ?_) (fun E τ e _ => by cases e)
  cases e
  refine x_aload_n (pc := 6) rfl d337_6 ?_
  refine x_iload_n (pc := 7) rfl d337_7 ?_
  refine x_tbyte (pc := 8) hi h0 h1 d337_8 ?_
  refine x_sipush (pc := 9) (by decide) d337_9 ?_
  refine x_iand (pc := 12) (z := tB i j) (by rw [iI_and8, Int.emod_eq_of_lt ht.1 (by omega)]) d337_12 ?_
  refine x_i2c (pc := 13) ht.1 ht.2 d337_13 ?_
  exact x_ret (fun _ => rfl) rfl (Or.inl ⟨d337_14, _, rfl, Or.inr ⟨.char, rfl, (tbC ht.1 ht.2).2⟩⟩) rfl
theorem ct_char (hl : l.1.stackTraces = false) (hi : i < nTC) {j : Int} (h0 : 0 ≤ j) (h1 : j < ksLen i) : CT l 336 [.ref (scr + 1 + i), .int (iI j)] σ 0 0 (fun o => o = (.inl (some (.int (iI (tB i j)))), σ)) := by
  have ht := tB_r hi h0 h1
  refine ctJ hl (by decide) (by decide) (L := [some (.ref (scr + 1 + i)), some (.int (iI j))]) (Nat.le_of_ble_eq_true rfl) rfl ?_
  refine x_aload_n (pc := 0) rfl d336_0 ?_
  refine x_callT (k := 0) (n := 0) (pc := 1) (t := 335) (As := []) (rest := []) (by decide) (by decide) rfl jc335 (inT_any (by decide +kernel)) (inT_any (by decide +kernel)) (inT_any (by decide +kernel)) (inT_any (by decide +kernel)) hi (ct_latin hl hi) rfl rfl (Nat.le_of_ble_eq_true rfl) (by decide +kernel) (by decide +kernel) d336_1 fr_or' (fun v τ e => ?_) (fun E τ e _ => by cases e)
  cases e
  refine x_if_eq (pc := 4) (tgt := 16) ⟨by omega, by omega⟩ d336_4 (by decide) (fun z => absurd z (by decide)) (fun _ => ?_)
  refine x_aload_n (pc := 7) rfl d336_7 ?_
  refine x_tval (pc := 8) rfl hi d336_8 ?_
  refine x_iload_n (pc := 11) rfl d336_11 ?_
  refine x_callJ (k := 0) (n := 0) (pc := 12) (t := 337) (As := [.ref (scr + 1001 + i), .int (iI j)]) (rest := []) (by decide) (by decide) jc337 (inT_any (by decide +kernel)) (inT_any (by decide +kernel)) (inT_any (by decide +kernel)) (ct_lchar hl hi h0 h1) rfl rfl (Nat.le_of_ble_eq_true rfl) (by decide +kernel) (by decide +kernel) d336_12 fr_or' (fun v τ e => ?_) (fun E τ e _ => by cases e)
  cases e
  exact x_ret (fun _ => rfl) rfl (Or.inl ⟨d336_15, _, rfl, Or.inr ⟨.char, rfl, (tbC ht.1 ht.2).2⟩⟩) rfl
/-- calls of them -/
theorem x_slenT {ix t : Nat} {ps : List Nat} {rest : List Value} (hl : l.1.stackTraces = false) (hc : ctN (owN y) ix = some (10, t, ps)) (hi : i < nTC) (hcat : cats rest ≤ 8) (hh : 2 ≤ htN y) (hlo : 60 ≤ loN y) (hd : decode (cdN y) pc = .ok (.invokevirtual ix, 3)) (kk : Ex l y k n (pc + 3) L (.int (iI (ksLen i)) :: rest) σ Q) : Ex l y k n pc L (.ref (scr + 1 + i) :: rest) σ Q := by
  obtain ⟨hw, hb9⟩ := ctIn hc
  have h9 := x_callT (y := y) (k := k) (n := n) (pc := pc) (L := L) (Q := Q) (st := .ref (scr + 1 + i) :: rest) (t := 333) (As := []) (rest := rest) (by decide) (by decide) rfl jc333 (tw (hw _ (List.Mem.head _)) rfl) (tw (hw _ (List.Mem.tail _ (List.Mem.head _))) rfl) (tw (hw _ (List.Mem.tail _ (List.Mem.tail _ (List.Mem.head _)))) rfl) (inT_any (by decide +kernel)) hi (ct_slen hl hi) rfl rfl hcat (Nat.le_trans (by decide +kernel) hh) (Nat.le_trans (by decide +kernel) hlo) hd fr_or' (fun v τ e => by cases e; exact kk) (fun E τ e _ => by cases e)
  rw [Nat.zero_add, Nat.zero_add] at h9
  exact h9
theorem x_schT {ix t : Nat} {ps : List Nat} {rest : List Value} {j : Int} (hl : l.1.stackTraces = false) (hc : ctN (owN y) ix = some (11, t, ps)) (hi : i < nTC) (h0 : 0 ≤ j) (h1 : j < ksLen i) (hcat : cats rest ≤ 8) (hh : 4 ≤ htN y) (hlo : 100 ≤ loN y) (hd : decode (cdN y) pc = .ok (.invokevirtual ix, 3)) (kk : Ex l y k n (pc + 3) L (.int (iI (tB i j)) :: rest) σ Q) : Ex l y k n pc L (.int (iI j) :: .ref (scr + 1 + i) :: rest) σ Q := by
  obtain ⟨hw, hb9⟩ := ctIn hc
  have h9 := x_callT (y := y) (k := k) (n := n) (pc := pc) (L := L) (Q := Q) (st := .int (iI j) :: .ref (scr + 1 + i) :: rest) (t := 336) (As := [.int (iI j)]) (rest := rest) (by decide) (by decide) rfl jc336 (tw (hw _ (List.Mem.head _)) rfl) (tw (hw _ (List.Mem.tail _ (List.Mem.head _))) rfl) (tw (hw _ (List.Mem.tail _ (List.Mem.tail _ (List.Mem.head _)))) rfl) (inT_any (by decide +kernel)) hi (ct_char hl hi h0 h1) rfl rfl hcat (Nat.le_trans (by decide +kernel) hh) (Nat.le_trans (by decide +kernel) hlo) hd fr_or' (fun v τ e => by cases e; exact kk) (fun E τ e _ => by cases e)
  rw [Nat.zero_add, Nat.zero_add] at h9
  exact h9
end Txt
