/-! ===== the library's small methods, on places ===== -/
section Jm
variable {l : LX} {y k n pc : Nat} {L : LL} {st : List Value} {σ : MM} {Q : OO → Prop}
theorem x_ineg {a : Int} (hd : decode (cdN y) pc = .ok (.ineg, 1)) (kk : Ex l y k n (pc + 1) L (.int (iI (-a)) :: st) σ Q) : Ex l y k n pc L (.int (iI a) :: st) σ Q :=
  x_go (fun G p e R s m args below meth c Qf H locs cells slots ls hx hb hL hk => lv_ineg hx hb hd (by rw [show -(iI a) = iI (-a) from Int32.neg_ofInt]; exact hk)) kk
theorem iI_ndiv {a b : Int} (ha : 0 ≤ a) (ha2 : a ≤ 2147483647) (hb : 0 < b) (hb2 : b ≤ 2147483647) : iI (-a) / iI b = iI (-(a / b)) := by
  have hq : a / b ≤ a := Int.ediv_le_self b ha
  have hq0 : 0 ≤ a / b := Int.ediv_nonneg ha (Int.le_of_lt hb)
  have h1 : (iI (-a) / iI b).toInt = -(a / b) := by
    rw [Int32.toInt_div_of_ne_right _ _ (fun h => by
      have : (iI b).toInt = (-1 : Int32).toInt := by rw [h]
      rw [iI_toInt ⟨by omega, hb2⟩] at this
      have h9 : (-1 : Int32).toInt = -1 := by decide
      omega), iI_toInt ⟨by omega, by omega⟩, iI_toInt ⟨by omega, hb2⟩, Int.neg_tdiv, Int.tdiv_eq_ediv_of_nonneg ha]
  rw [← Int32.toInt_inj, h1, iI_toInt ⟨by omega, by omega⟩]
theorem x_ndiv {a b : Int} (h1 : 0 ≤ a) (h2 : a ≤ 2147483647) (h3 : 0 < b) (h4 : b ≤ 2147483647) (hd : decode (cdN y) pc = .ok (.idiv, 1)) (kk : Ex l y k n (pc + 1) L (.int (iI (-(a / b))) :: st) σ Q) : Ex l y k n pc L (.int (iI b) :: .int (iI (-a)) :: st) σ Q :=
  x_go (fun G p e R s m args below meth c Qf H locs cells slots ls hx hb hL hk => lv_idiv hx hb hd (iI_ne0 h3 h4) (by rw [iI_ndiv h1 h2 h3 h4]; exact hk)) kk
theorem x_dupx {v w : Value} (hv : v.category = 1) (hw : w.category = 1) (hd : decode (cdN y) pc = .ok (.dup_x1, 1)) (kk : Ex l y k n (pc + 1) L (v :: w :: v :: st) σ Q) : Ex l y k n pc L (v :: w :: st) σ Q :=
  x_go (fun G p e R s m args below meth c Qf H locs cells slots ls hx hb hL hk => lv_dup_x1 hx hb hd (by rw [cv_cat]; exact hv) (by rw [cv_cat]; exact hw) hk) kk
theorem ex_k1 {m : Nat} (h : Ex l y (k + 1) (n + m) pc L st σ Q) (hk : k = 0 := by rfl) (hn : n = 0 := by rfl) : Ex l y 1 m pc L st σ Q := by subst hk hn; rw [Nat.zero_add, Nat.zero_add] at h; exact h
/-- a builder at b, its bytes at w; a String -/
def isSB (σ : MM) (b w cap : Nat) : Prop := isO σ b 15 ∧ σ.2.1 b 0 = some w ∧ isB σ w cap ∧ σ.1 b 1 = 0
def isST (σ : MM) (b w len : Nat) : Prop := isO σ b 12 ∧ σ.2.1 b 0 = some w ∧ isB σ w len ∧ σ.1 b 1 = 0
theorem shl0 (a : Int) : iI a <<< (iI 0 &&& 31) = iI a := by rw [iI_shl (by decide) (by decide)]; exact congrArg iI (Int.mul_one _)
theorem shr0 {a : Int} (h : InR a) : iI a >>> (iI 0 &&& 31) = iI a := by rw [iI_shr h (by decide) (by decide)]; exact congrArg iI (Int.ediv_one _)
theorem ct_sbLat (hl : l.1.stackTraces = false) {b w cap : Nat} (h : isSB σ b w cap) : CT l 160 [.ref b] σ 0 0 (fun o => o = ((.inl (some (.int (iI 1)))), σ)) := by
  refine mkct2 hl (by decide) (Nat.le_of_ble_eq_true rfl) (L := [some (.ref b)]) rfl ?_
  refine x_bCS (pc := 0) rfl d160_0 ?_
  refine x_if_eq (pc := 3) (tgt := 17) ⟨by omega, by omega⟩ d160_3 (by decide) (fun _ => by exfalso; omega) (fun _ => ?_)
  refine x_aload_n (pc := 6) rfl d160_6 ?_
  refine x_getI (pc := 7) f160_22 h.1 (by decide) (z := 1) rfl d160_7 ?_
  refine x_val h.2.2.2 ?_
  refine x_if_ne (pc := 10) (tgt := 17) ⟨by omega, by omega⟩ d160_10 (by decide) (fun _ => by exfalso; omega) (fun _ => ?_)
  refine x_iconst (pc := 13) d160_13 ?_
  refine x_goto (pc := 14) (tgt := 18) d160_14 (by decide) ?_
  exact x_zret rfl (Or.inr rfl) (fun _ => rfl) d160_18 rfl
theorem ct_sbVal (hl : l.1.stackTraces = false) {b w cap : Nat} (h : isSB σ b w cap) : CT l 163 [.ref b] σ 0 0 (fun o => o = ((.inl (some (.ref w))), σ)) := by
  refine mkct2 hl (by decide) (Nat.le_of_ble_eq_true rfl) (L := [some (.ref b)]) rfl ?_
  refine x_aload_n (pc := 0) rfl d163_0 ?_
  refine x_getR (pc := 1) f163_15 h.1 (by decide) h.2.1 d163_1 ?_
  exact x_aret rfl (Or.inr ⟨_, rfl⟩) (fun _ => rfl) d163_4 rfl
theorem ct_sbLen (hl : l.1.stackTraces = false) {b w cap : Nat} (h : isSB σ b w cap) {len : Int} (hlen : σ.1 b 3 = len) : CT l 164 [.ref b] σ 0 0 (fun o => o = ((.inl (some (.int (iI len)))), σ)) := by
  refine mkct2 hl (by decide) (Nat.le_of_ble_eq_true rfl) (L := [some (.ref b)]) rfl ?_
  refine x_aload_n (pc := 0) rfl d164_0 ?_
  refine x_getI (pc := 1) f164_79 h.1 (by decide) (z := 3) rfl d164_1 ?_
  refine x_val hlen ?_
  exact x_iret rfl (fun _ => rfl) d164_4 rfl
theorem ct_sbLen2 (hl : l.1.stackTraces = false) {b w cap : Nat} (h : isSB σ b w cap) {len : Int} (hlen : σ.1 b 3 = len) : CT l 183 [.ref b] σ 0 0 (fun o => o = ((.inl (some (.int (iI len)))), σ)) := by
  refine mkct2 hl (by decide) (Nat.le_of_ble_eq_true rfl) (L := [some (.ref b)]) rfl ?_
  refine x_aload_n (pc := 0) rfl d183_0 ?_
  refine x_callSU (k := 0) (n := 0) (pc := 1) (t := 164) (As := []) (rest := []) c183_343 rfl rfl (ct_sbLen hl h hlen) h.1 rfl rfl (Nat.le_of_ble_eq_true rfl) (by decide +kernel) (by decide +kernel) d183_1 fr_or' (fun v τ e => ?_) (fun E τ e _ => by cases e)
  cases e
  exact x_iret rfl (fun _ => rfl) d183_4 rfl
theorem ct_stCod (hl : l.1.stackTraces = false) {b w len : Nat} (h : isST σ b w len) : CT l 170 [.ref b] σ 0 0 (fun o => o = ((.inl (some (.int (iI 0)))), σ)) := by
  refine mkct2 hl (by decide) (Nat.le_of_ble_eq_true rfl) (L := [some (.ref b)]) rfl ?_
  refine x_tCS (pc := 0) rfl d170_0 ?_
  refine x_if_eq (pc := 3) (tgt := 13) ⟨by omega, by omega⟩ d170_3 (by decide) (fun _ => by exfalso; omega) (fun _ => ?_)
  refine x_aload_n (pc := 6) rfl d170_6 ?_
  refine x_getI (pc := 7) f170_15 h.1 (by decide) (z := 1) rfl d170_7 ?_
  refine x_val h.2.2.2 ?_
  refine x_goto (pc := 10) (tgt := 14) d170_10 (by decide) ?_
  exact x_ret (fun _ => rfl) rfl (Or.inl ⟨d170_14, _, rfl, Or.inr ⟨.byte, rfl, by decide⟩⟩) rfl
theorem ct_stLat (hl : l.1.stackTraces = false) {b w len : Nat} (h : isST σ b w len) : CT l 171 [.ref b] σ 0 0 (fun o => o = ((.inl (some (.int (iI 1)))), σ)) := by
  refine mkct2 hl (by decide) (Nat.le_of_ble_eq_true rfl) (L := [some (.ref b)]) rfl ?_
  refine x_tCS (pc := 0) rfl d171_0 ?_
  refine x_if_eq (pc := 3) (tgt := 17) ⟨by omega, by omega⟩ d171_3 (by decide) (fun _ => by exfalso; omega) (fun _ => ?_)
  refine x_aload_n (pc := 6) rfl d171_6 ?_
  refine x_getI (pc := 7) f171_15 h.1 (by decide) (z := 1) rfl d171_7 ?_
  refine x_val h.2.2.2 ?_
  refine x_if_ne (pc := 10) (tgt := 17) ⟨by omega, by omega⟩ d171_10 (by decide) (fun _ => by exfalso; omega) (fun _ => ?_)
  refine x_iconst (pc := 13) d171_13 ?_
  refine x_goto (pc := 14) (tgt := 18) d171_14 (by decide) ?_
  exact x_zret rfl (Or.inr rfl) (fun _ => rfl) d171_18 rfl
theorem ct_stLen (hl : l.1.stackTraces = false) {b w len : Nat} (h : isST σ b w len) (hlen : len ≤ 1000) : CT l 167 [.ref b] σ 0 0 (fun o => o = ((.inl (some (.int (iI len)))), σ)) := by
  refine mkct2 hl (by decide) (Nat.le_of_ble_eq_true rfl) (L := [some (.ref b)]) rfl ?_
  refine x_aload_n (pc := 0) rfl d167_0 ?_
  refine x_getR (pc := 1) f167_9 h.1 (by decide) h.2.1 d167_1 ?_
  refine x_blen (pc := 4) h.2.2.1 d167_4 ?_
  refine x_aload_n (pc := 5) rfl d167_5 ?_
  refine x_callV (k := 0) (n := 0) (pc := 6) (t := 170) (As := []) (rest := [.int (iI len)]) c167_335 (ct_stCod hl h) h.1 rfl rfl (Nat.le_of_ble_eq_true rfl) (by decide +kernel) (by decide +kernel) d167_6 fr_or' (fun v τ e => ?_) (fun E τ e _ => by cases e)
  cases e
  refine x_ishr (pc := 9) (z := len) (shr0 ⟨by omega, by omega⟩) d167_9 ?_
  exact x_iret rfl (fun _ => rfl) d167_10 rfl
theorem ct_lchP (hl : l.1.stackTraces = false) {w len : Nat} (h : isB σ w len) {j : Int} (h0 : 0 ≤ j) (h1 : j < len) (hlen : len ≤ 1000) (hr : 0 ≤ σ.1 w j ∧ σ.1 w j ≤ 127) : CT l 173 [.ref w, .int (iI j)] σ 0 0 (fun o => o = ((.inl (some (.int (iI (σ.1 w j))))), σ)) := by
  refine mkct2 hl (by decide) (Nat.le_of_ble_eq_true rfl) (L := [some (.ref w), some (.int (iI j))]) rfl ?_
  refine x_iload_n (pc := 0) rfl d173_0 ?_
  refine x_aload_n (pc := 1) rfl d173_1 ?_
  refine x_blen (pc := 2) h d173_2 ?_
  refine x_callJ (k := 0) (n := 0) (pc := 3) (t := 338) (As := [.int (iI j), .int (iI len)]) (rest := []) (by decide) (by decide) jc338 (inT_any (by decide +kernel)) (inT_any (by decide +kernel)) (inT_any (by decide +kernel)) (ct_check hl h0 h1 (by omega)) rfl rfl (Nat.le_of_ble_eq_true rfl) (by decide +kernel) (by decide +kernel) d173_3 fr_or' (fun v τ e => ?_) (fun E τ e _ => by cases e)
  cases e
  refine x_aload_n (pc := 6) rfl d173_6 ?_
  refine x_iload_n (pc := 7) rfl d173_7 ?_
  refine x_bald (pc := 8) h h0 h1 (by omega) d173_8 ?_
  refine x_sipush (pc := 9) (by decide) d173_9 ?_
  refine x_iand (pc := 12) (z := σ.1 w j) (by rw [iI_and8, Int.emod_eq_of_lt hr.1 (by omega)]) d173_12 ?_
  refine x_i2c (pc := 13) hr.1 hr.2 d173_13 ?_
  exact x_ret (fun _ => rfl) rfl (Or.inl ⟨d173_14, _, rfl, Or.inr ⟨.char, rfl, (tbC hr.1 hr.2).2⟩⟩) rfl
theorem ct_chP (hl : l.1.stackTraces = false) {b w len : Nat} (h : isST σ b w len) {j : Int} (h0 : 0 ≤ j) (h1 : j < len) (hlen : len ≤ 1000) (hr : 0 ≤ σ.1 w j ∧ σ.1 w j ≤ 127) : CT l 168 [.ref b, .int (iI j)] σ 0 0 (fun o => o = ((.inl (some (.int (iI (σ.1 w j))))), σ)) := by
  refine mkct2 hl (by decide) (Nat.le_of_ble_eq_true rfl) (L := [some (.ref b), some (.int (iI j))]) rfl ?_
  refine x_aload_n (pc := 0) rfl d168_0 ?_
  refine x_callV (k := 0) (n := 0) (pc := 1) (t := 171) (As := []) (rest := []) c168_492 (ct_stLat hl h) h.1 rfl rfl (Nat.le_of_ble_eq_true rfl) (by decide +kernel) (by decide +kernel) d168_1 fr_or' (fun v τ e => ?_) (fun E τ e _ => by cases e)
  cases e
  refine x_if_eq (pc := 4) (tgt := 16) ⟨by omega, by omega⟩ d168_4 (by decide) (fun _ => by exfalso; omega) (fun _ => ?_)
  refine x_aload_n (pc := 7) rfl d168_7 ?_
  refine x_getR (pc := 8) f168_9 h.1 (by decide) h.2.1 d168_8 ?_
  refine x_iload_n (pc := 11) rfl d168_11 ?_
  refine x_callS2 (k := 0) (n := 0) (pc := 12) (t := 173) (As := [.ref w, .int (iI j)]) (rest := []) c168_495 (ct_lchP hl h.2.2.1 h0 h1 hlen hr) rfl rfl (Nat.le_of_ble_eq_true rfl) (by decide +kernel) (by decide +kernel) d168_12 fr_or' (fun v τ e => ?_) (fun E τ e _ => by cases e)
  cases e
  exact x_ret (fun _ => rfl) rfl (Or.inl ⟨d168_15, _, rfl, Or.inr ⟨.char, rfl, (tbC hr.1 hr.2).2⟩⟩) rfl
theorem ct_canE (hl : l.1.stackTraces = false) {z : Int} (h0 : 0 ≤ z) (h1 : z ≤ 127) : CT l 174 [.int (iI z)] σ 0 0 (fun o => o = ((.inl (some (.int (iI 1)))), σ)) := by
  refine mkct2 hl (by decide) (Nat.le_of_ble_eq_true rfl) (L := [some (.int (iI z))]) rfl ?_
  refine x_iload_n (pc := 0) rfl d174_0 ?_
  refine x_sipush (pc := 1) (by decide) d174_1 ?_
  refine x_icmp_gt (pc := 4) (tgt := 11) ⟨by omega, by omega⟩ ⟨by omega, by omega⟩ d174_4 (by decide) (fun _ => by exfalso; omega) (fun _ => ?_)
  refine x_iconst (pc := 7) d174_7 ?_
  refine x_goto (pc := 8) (tgt := 12) d174_8 (by decide) ?_
  exact x_zret rfl (Or.inr rfl) (fun _ => rfl) d174_12 rfl
def ndg (z : Int) : Int := if z < 10 then 1 else if z < 100 then 2 else 3
theorem ct_ssz (hl : l.1.stackTraces = false) {z : Int} (h0 : 0 ≤ z) (h1 : z ≤ 999) : CT l 177 [.int (iI z)] σ 0 0 (fun o => o = ((.inl (some (.int (iI (ndg z))))), σ)) := by
  refine mkct2 hl (by decide) (Nat.le_of_ble_eq_true rfl) (L := [some (.int (iI z)), none, none, none]) rfl ?_
  refine x_iconst (pc := 0) d177_0 ?_
  refine x_istore_n (pc := 1) (by decide +kernel) rfl d177_1 ?_
  refine x_iload_n (pc := 2) rfl d177_2 ?_
  refine x_if_lt (pc := 3) (tgt := 11) ⟨by omega, by omega⟩ d177_3 (by decide) (fun _ => by exfalso; omega) (fun _ => ?_)
  refine x_iconst (pc := 6) d177_6 ?_
  refine x_istore_n (pc := 7) (by decide +kernel) rfl d177_7 ?_
  refine x_iload_n (pc := 8) rfl d177_8 ?_
  refine x_ineg (pc := 9) d177_9 ?_
  refine x_istore_n (pc := 10) (by decide +kernel) rfl d177_10 ?_
  refine x_bipush (pc := 11) (by decide) d177_11 ?_
  refine x_istore_n (pc := 13) (by decide +kernel) rfl d177_13 ?_
  refine x_iconst (pc := 14) d177_14 ?_
  refine x_istore_n (pc := 15) (by decide +kernel) rfl d177_15 ?_
  refine x_iload_n (pc := 16) rfl d177_16 ?_
  refine x_bipush (pc := 17) (by decide) d177_17 ?_
  refine x_icmp_ge (pc := 19) (tgt := 42) ⟨by omega, by omega⟩ ⟨by omega, by omega⟩ d177_19 (by decide) (fun _ => by exfalso; omega) (fun _ => ?_)
  refine x_iload_n (pc := 22) rfl d177_22 ?_
  refine x_iload_n (pc := 23) rfl d177_23 ?_
  refine x_icmp_le (pc := 24) (tgt := 31) ⟨by omega, by omega⟩ ⟨by omega, by omega⟩ d177_24 (by decide) (fun g1 => ?_) (fun g1 => ?_)
  · refine x_bipush (pc := 31) (by decide) d177_31 ?_
    refine x_iload_n (pc := 33) rfl d177_33 ?_
    refine x_imul (pc := 34) d177_34 ?_
    refine x_istore_n (pc := 35) (by decide +kernel) rfl d177_35 ?_
    refine x_iinc (pc := 36) (z := 1) rfl (by decide +kernel) rfl d177_36 ?_
    refine x_goto (pc := 39) (tgt := 16) d177_39 (by decide) ?_
    refine x_iload_n (pc := 16) rfl d177_16 ?_
    refine x_bipush (pc := 17) (by decide) d177_17 ?_
    refine x_icmp_ge (pc := 19) (tgt := 42) ⟨by omega, by omega⟩ ⟨by omega, by omega⟩ d177_19 (by decide) (fun _ => by exfalso; omega) (fun _ => ?_)
    refine x_iload_n (pc := 22) rfl d177_22 ?_
    refine x_iload_n (pc := 23) rfl d177_23 ?_
    refine x_icmp_le (pc := 24) (tgt := 31) ⟨by omega, by omega⟩ ⟨by omega, by omega⟩ d177_24 (by decide) (fun g2 => ?_) (fun g2 => ?_)
    · refine x_bipush (pc := 31) (by decide) d177_31 ?_
      refine x_iload_n (pc := 33) rfl d177_33 ?_
      refine x_imul (pc := 34) d177_34 ?_
      refine x_istore_n (pc := 35) (by decide +kernel) rfl d177_35 ?_
      refine x_iinc (pc := 36) (z := 2) rfl (by decide +kernel) rfl d177_36 ?_
      refine x_goto (pc := 39) (tgt := 16) d177_39 (by decide) ?_
      refine x_iload_n (pc := 16) rfl d177_16 ?_
      refine x_bipush (pc := 17) (by decide) d177_17 ?_
      refine x_icmp_ge (pc := 19) (tgt := 42) ⟨by omega, by omega⟩ ⟨by omega, by omega⟩ d177_19 (by decide) (fun _ => by exfalso; omega) (fun _ => ?_)
      refine x_iload_n (pc := 22) rfl d177_22 ?_
      refine x_iload_n (pc := 23) rfl d177_23 ?_
      refine x_icmp_le (pc := 24) (tgt := 31) ⟨by omega, by omega⟩ ⟨by omega, by omega⟩ d177_24 (by decide) (fun g3 => ?_) (fun g3 => ?_)
      · exfalso; omega
      · refine x_iload_n (pc := 27) rfl d177_27 ?_
        refine x_iload_n (pc := 28) rfl d177_28 ?_
        refine x_iadd (pc := 29) d177_29 ?_
        refine x_iret rfl (fun _ => rfl) d177_30 ?_
        have e : ndg z = 3 := by unfold ndg; rw [if_neg (by omega), if_neg (by omega)]
        rw [e]
        rfl
    · refine x_iload_n (pc := 27) rfl d177_27 ?_
      refine x_iload_n (pc := 28) rfl d177_28 ?_
      refine x_iadd (pc := 29) d177_29 ?_
      refine x_iret rfl (fun _ => rfl) d177_30 ?_
      have e : ndg z = 2 := by unfold ndg; rw [if_neg (by omega), if_pos (by omega)]
      rw [e]
      rfl
  · refine x_iload_n (pc := 27) rfl d177_27 ?_
    refine x_iload_n (pc := 28) rfl d177_28 ?_
    refine x_iadd (pc := 29) d177_29 ?_
    refine x_iret rfl (fun _ => rfl) d177_30 ?_
    have e : ndg z = 1 := by unfold ndg; rw [if_pos (by omega)]
    rw [e]
    rfl
theorem ct_newLen (hl : l.1.stackTraces = false) {a b c : Int} (h0 : 0 ≤ a) (h1 : a ≤ 1000) (h2 : 0 < c) (h3 : c ≤ 2000) (h4 : 0 ≤ b) (h5 : b ≤ c) : CT l 182 [.int (iI a), .int (iI b), .int (iI c)] σ 0 0 (fun o => o = ((.inl (some (.int (iI (a + c))))), σ)) := by
  refine mkct2 hl (by decide) (Nat.le_of_ble_eq_true rfl) (L := [some (.int (iI a)), some (.int (iI b)), some (.int (iI c)), none]) rfl ?_
  refine x_iload_n (pc := 0) rfl d182_0 ?_
  refine x_iload_n (pc := 1) rfl d182_1 ?_
  refine x_iload_n (pc := 2) rfl d182_2 ?_
  refine x_max (pc := 3) ⟨by omega, by omega⟩ ⟨by omega, by omega⟩ c182_194 (by decide +kernel) (Nat.le_of_ble_eq_true rfl) d182_3 ?_
  refine x_val (show max b c = c from by omega) ?_
  refine x_iadd (pc := 6) d182_6 ?_
  refine x_istore_n (pc := 7) (by decide +kernel) rfl d182_7 ?_
  refine x_iconst (pc := 8) d182_8 ?_
  refine x_iload_n (pc := 9) rfl d182_9 ?_
  refine x_icmp_ge (pc := 10) (tgt := 21) ⟨by omega, by omega⟩ ⟨by omega, by omega⟩ d182_10 (by decide) (fun _ => by exfalso; omega) (fun _ => ?_)
  refine x_iload_n (pc := 13) rfl d182_13 ?_
  refine x_ldc (pc := 14) (z := 2147483639) k182_200 (by decide) d182_14 ?_
  refine x_icmp_gt (pc := 16) (tgt := 21) ⟨by omega, by omega⟩ ⟨by omega, by omega⟩ d182_16 (by decide) (fun _ => by exfalso; omega) (fun _ => ?_)
  refine x_iload_n (pc := 19) rfl d182_19 ?_
  exact x_iret rfl (fun _ => rfl) d182_20 rfl
theorem ct_newCap (hl : l.1.stackTraces = false) {b w cap : Nat} (h : isSB σ b w cap) {need : Int} (h0 : (cap : Int) < need) (h1 : need ≤ 2 * cap + 2) (hc : cap ≤ 300) : CT l 159 [.ref b, .int (iI need)] σ 0 0 (fun o => o = ((.inl (some (.int (iI (cap + (cap + 2)))))), σ)) := by
  refine mkct2 hl (by decide) (Nat.le_of_ble_eq_true rfl) (L := [some (.ref b), some (.int (iI need)), none, none, none, none]) rfl ?_
  refine x_aload_n (pc := 0) rfl d159_0 ?_
  refine x_getR (pc := 1) f159_15 h.1 (by decide) h.2.1 d159_1 ?_
  refine x_blen (pc := 4) h.2.2.1 d159_4 ?_
  refine x_istore_n (pc := 5) (by decide +kernel) rfl d159_5 ?_
  refine x_iload_n (pc := 6) rfl d159_6 ?_
  refine x_aload_n (pc := 7) rfl d159_7 ?_
  refine x_getI (pc := 8) f159_22 h.1 (by decide) (z := 1) rfl d159_8 ?_
  refine x_val h.2.2.2 ?_
  refine x_ishl (pc := 11) (z := need) (shl0 _) d159_11 ?_
  refine x_istore_n (pc := 12) (by decide +kernel) rfl d159_12 ?_
  refine x_iload_n (pc := 13) rfl d159_13 ?_
  refine x_iload_n (pc := 14) rfl d159_14 ?_
  refine x_isub (pc := 15) d159_15 ?_
  refine x_istore (pc := 16) (by decide +kernel) rfl d159_16 ?_
  refine x_iload_n (pc := 18) rfl d159_18 ?_
  refine x_iload (pc := 19) rfl d159_19 ?_
  refine x_iload_n (pc := 21) rfl d159_21 ?_
  refine x_iconst (pc := 22) d159_22 ?_
  refine x_aload_n (pc := 23) rfl d159_23 ?_
  refine x_getI (pc := 24) f159_22 h.1 (by decide) (z := 1) rfl d159_24 ?_
  refine x_val h.2.2.2 ?_
  refine x_ishl (pc := 27) (z := 2) (shl0 _) d159_27 ?_
  refine x_iadd (pc := 28) d159_28 ?_
  refine x_callS2 (k := 0) (n := 0) (pc := 29) (t := 182) (As := [.int (iI cap), .int (iI (need - cap)), .int (iI (cap + 2))]) (rest := []) c159_114 (ct_newLen hl (a := cap) (b := need - cap) (c := cap + 2) (by omega) (by omega) (by omega) (by omega) (by omega) (by omega)) rfl rfl (Nat.le_of_ble_eq_true rfl) (by decide +kernel) (by decide +kernel) d159_29 fr_or' (fun v τ e => ?_) (fun E τ e _ => by cases e)
  cases e
  refine x_istore (pc := 32) (by decide +kernel) rfl d159_32 ?_
  refine x_iload (pc := 34) rfl d159_34 ?_
  refine x_ldc (pc := 36) (z := 2147483647) k159_39 (by decide) d159_36 ?_
  refine x_icmp_ne (pc := 38) (tgt := 51) ⟨by omega, by omega⟩ ⟨by omega, by omega⟩ d159_38 (by decide) (fun _ => ?_) (fun _ => by exfalso; omega)
  refine x_iload (pc := 51) rfl d159_51 ?_
  refine x_aload_n (pc := 53) rfl d159_53 ?_
  refine x_getI (pc := 54) f159_22 h.1 (by decide) (z := 1) rfl d159_54 ?_
  refine x_val h.2.2.2 ?_
  refine x_ishr (pc := 57) (z := cap + (cap + 2)) (shr0 ⟨by omega, by omega⟩) d159_57 ?_
  exact x_iret rfl (fun _ => rfl) d159_58 rfl
end Jm
