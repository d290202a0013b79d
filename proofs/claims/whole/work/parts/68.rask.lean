/-! ===== the reference: its whole state, the simple questions ===== -/
def rH (I : Nat → Int → Int) (S : GS) : Prop := I 181 5 = gN S ∧ ∀ k : Int, 0 ≤ k → k < gN S → RV (fun i => I 186 (1011 * k + i)) (gH S k)
def rV (I : Nat → Int → Int) (S : GS) : Prop := I 181 7 = b01 (gV S) ∧ (gV S = true → RV (I 183) (gW S))
def rL (I : Nat → Int → Int) (S : GS) : Prop := I 181 12 = gL S ∧ ∀ i : Int, 0 ≤ i → i < gL S → I 189 i = gT S i
def rE (I : Nat → Int → Int) (S : GS) : Prop := I 181 18 = gE S ∧ I 181 19 = gP S
def rM (I : Nat → Int → Int) (S : GS) : Prop := I 181 23 = gM S ∧ ∀ i : Int, 0 ≤ i → i < gM S → I 191 i = gO S i
def RREL (I : Nat → Int → Int) (S : GS) : Prop := RV (I 182) (gA S) ∧ rH I S ∧ rV I S ∧ rL I S ∧ rE I S ∧ rM I S
/-- what has thrown is c; nothing else has changed but what was got -/
def TH (I : Nat → Int → Int) (c : Int) (K : Nat → Int → Int) : Prop := (∀ a, a ≠ 181 → a ≠ 188 → K a = I a) ∧ (∀ j, j ≠ 6 → K 181 j = I 181 j) ∧ K 181 6 = c
theorem TH.of {I K : Nat → Int → Int} {c : Int} (h : K = up2 I 181 6 c) : TH I c K := by
  rw [h]
  exact ⟨fun a h1 _ => up2_off' _ _ _ h1, fun j hj => up2_i hj, up2_s⟩
theorem TH.mk {I : Nat → Int → Int} {c : Int} : TH I c (up2 I 181 6 c) := TH.of rfl
theorem TH.res {I K J : Nat → Int → Int} {c : Int} (h : TH I c K) (o : ∀ a, a ≠ 188 → J a = K a) : TH I c J := ⟨fun a h1 h2 => by rw [o a h2]; exact h.1 a h1 h2, fun j hj => by rw [o 181 (by decide)]; exact h.2.1 j hj, by rw [o 181 (by decide)]; exact h.2.2⟩
theorem TH.rv {I K : Nat → Int → Int} {c : Int} {A : AV} (h : TH I c K) (hR : RV (I 182) A) : RV (K 182) A := by rw [h.1 182 (by decide) (by decide)]; exact hR
theorem TH.rel {I K : Nat → Int → Int} {c : Int} {S : GS} (h : TH I c K) (hR : RREL I S) : RREL K S := by
  obtain ⟨h1, ⟨a1, a2⟩, ⟨b1, b2⟩, ⟨c1, c2⟩, ⟨d1, d2⟩, ⟨e1, e2⟩⟩ := hR
  exact ⟨h.rv h1, ⟨by rw [h.2.1 5 (by decide)]; exact a1, by rw [h.1 186 (by decide) (by decide)]; exact a2⟩, ⟨by rw [h.2.1 7 (by decide)]; exact b1, by rw [h.1 183 (by decide) (by decide)]; exact b2⟩, ⟨by rw [h.2.1 12 (by decide)]; exact c1, by rw [h.1 189 (by decide) (by decide)]; exact c2⟩, ⟨by rw [h.2.1 18 (by decide)]; exact d1, by rw [h.2.1 19 (by decide)]; exact d2⟩, ⟨by rw [h.2.1 23 (by decide)]; exact e1, by rw [h.1 191 (by decide) (by decide)]; exact e2⟩⟩
/-- how an operation of the reference ends: r = (thrown, the answer, the state behind) -/
def RQ (q : Nat) (v : Int) (fr : Bool) (I : Nat → Int → Int) (r : Int × Int × GS) : OO → Prop := fun o => ∃ z K, o = (.inl (some (.int (iI z))), mm q K v fr) ∧ K 181 6 = r.1 ∧ (r.1 = 0 → z = r.2.1) ∧ RREL K r.2.2 ∧ ∀ a, a < 181 ∨ 192 ≤ a → K a = I a
section RqL
variable {q : Nat} {I K : Nat → Int → Int} {v : Int} {fr : Bool} {S : GS}
theorem rq_0 {z w : Int} (h : RREL I S) (t : TH I 0 K) (e : w = z) : RQ q v fr I (0, z, S) (.inl (some (.int (iI w))), mm q K v fr) := ⟨w, K, rfl, t.2.2, fun _ => e, t.rel h, fun a ha => t.1 a (by omega) (by omega)⟩
theorem rq_n {z w x : Int} (hx : x ≠ 0) (h : RREL I S) (t : TH I x K) : RQ q v fr I (x, z, S) (.inl (some (.int (iI w))), mm q K v fr) := ⟨w, K, rfl, t.2.2, fun e => absurd e hx, t.rel h, fun a ha => t.1 a (by omega) (by omega)⟩
theorem rq_t {z w : Int} {c d : Bool} (h : RREL I S) (t : TH I (b01 (!c)) K) (g : c = true) (hd : d = c) (e : w = z) : RQ q v fr I (oAsk S d z) (.inl (some (.int (iI w))), mm q K v fr) := by
  subst hd; subst g
  exact rq_0 h t e
theorem rq_f {z w : Int} {c d : Bool} (h : RREL I S) (t : TH I (b01 (!c)) K) (g : c = false) (hd : d = c) : RQ q v fr I (oAsk S d z) (.inl (some (.int (iI w))), mm q K v fr) := by
  subst hd; subst g
  exact rq_n (by decide) h t
theorem rq2_t {z w : Int} {c d a b : Bool} (h : RREL I S) (t : TH I (th2 a b) K) (g : (a && b) = true) (ha : c = a) (hb : d = b) (e : w = z) : RQ q v fr I (oAsk2 S c d z) (.inl (some (.int (iI w))), mm q K v fr) := by
  subst ha; subst hb
  obtain ⟨rfl, rfl⟩ := Bool.and_eq_true_iff.mp g
  exact rq_0 h t e
theorem rq2_f {z w : Int} {c d a b : Bool} (h : RREL I S) (t : TH I (th2 a b) K) (g : (a && b) = false) (ha : c = a) (hb : c = true → d = b) : RQ q v fr I (oAsk2 S c d z) (.inl (some (.int (iI w))), mm q K v fr) := by
  subst ha
  cases c with
  | false => exact rq_n (by decide) h t
  | true =>
    have e : b = false := g
    rw [hb rfl]
    subst e
    exact rq_n (by decide) h t
end RqL
section Rask
variable {l : LX} {q : Nat} {I : Nat → Int → Int} {v : Int} {fr : Bool} {S : GS}
theorem rt_tells (hl : l.1.stackTraces = false) (hq : 192 ≤ q) {z : Int} : DT l 227 [.ref 181, .int (iI z)] (mm q I v fr) 0 0 (.inl (some (.int (iI z))), mm q (up2 I 181 6 0) v fr) := by
  refine mkdt hl (by decide) (Nat.le_of_ble_eq_true rfl) (L := [some (.ref 181), some (.int (iI z))]) rfl ?_
  refine x_aload_n (pc := 0) rfl d227_0 ?_
  refine x_iconst (pc := 1) d227_1 ?_
  refine m_putI (pc := 2) (z := 6) f227_65 (by decide +kernel) (by decide +kernel) rfl (xo181 (by omega)) d227_2 ?_
  refine x_iload_n (pc := 5) rfl d227_5 ?_
  refine x_iret (pc := 6) rfl (fun _ => rfl) d227_6 ?_
  first | rfl | (exfalso; omega)
theorem rm228 (hl : l.1.stackTraces = false) (hq : 192 ≤ q) (h : RREL I S) (hS : GOK S) : CT l 228 [.ref 181] (mm q I v fr) 0 0 (RQ q v fr I (0, gA S 0 7, S)) := by
  have hA : AINV (gA S) cB := hS.1
  have hr := hA.rg
  have hcB : cB = 2450880 := rfl
  refine mkct2 hl (by decide) (Nat.le_of_ble_eq_true rfl) (L := [some (.ref 181)]) rfl ?_
  refine x_aload_n (pc := 0) rfl d228_0 ?_
  refine x_aload_n (pc := 1) rfl d228_1 ?_
  refine m_getR (pc := 2) f228_9 (by decide +kernel) (xo181 (by omega)) rr181_0 d228_2 ?_
  refine x_bipush (pc := 5) (by decide) d228_5 ?_
  refine m_ialdW (pc := 7) (w := ((gA S) 0 7)) (xa182 (by omega)) (by omega) (by omega) (by omega) (by rw [h.1.sc (i := 7) (by decide) (by decide)]) d228_7 ?_
  refine x_cVs (pc := 8) c228_344 (rt_tells hl hq (z := ((gA S) 0 7))) (xo181 (by omega)) rfl rfl (Nat.le_of_ble_eq_true rfl) (by decide +kernel) (by decide +kernel) rfl d228_8 ?_
  refine x_iret (pc := 11) rfl (fun _ => rfl) d228_11 ?_
  exact rq_0 h TH.mk rfl
theorem rm229 (hl : l.1.stackTraces = false) (hq : 192 ≤ q) (h : RREL I S) (hS : GOK S) : CT l 229 [.ref 181] (mm q I v fr) 0 0 (RQ q v fr I (0, gA S 0 0, S)) := by
  have hA : AINV (gA S) cB := hS.1
  have hr := hA.rg
  have hcB : cB = 2450880 := rfl
  refine mkct2 hl (by decide) (Nat.le_of_ble_eq_true rfl) (L := [some (.ref 181)]) rfl ?_
  refine x_aload_n (pc := 0) rfl d229_0 ?_
  refine x_aload_n (pc := 1) rfl d229_1 ?_
  refine m_getR (pc := 2) f229_9 (by decide +kernel) (xo181 (by omega)) rr181_0 d229_2 ?_
  refine x_iconst (pc := 5) d229_5 ?_
  refine m_ialdW (pc := 6) (w := ((gA S) 0 0)) (xa182 (by omega)) (by omega) (by omega) (by omega) (by rw [h.1.sc (i := 0) (by decide) (by decide)]) d229_6 ?_
  refine x_cVs (pc := 7) c229_344 (rt_tells hl hq (z := ((gA S) 0 0))) (xo181 (by omega)) rfl rfl (Nat.le_of_ble_eq_true rfl) (by decide +kernel) (by decide +kernel) rfl d229_7 ?_
  refine x_iret (pc := 10) rfl (fun _ => rfl) d229_10 ?_
  exact rq_0 h TH.mk rfl
theorem rm230 (hl : l.1.stackTraces = false) (hq : 192 ≤ q) (h : RREL I S) (hS : GOK S) : CT l 230 [.ref 181] (mm q I v fr) 0 0 (RQ q v fr I (0, gA S 0 1, S)) := by
  have hA : AINV (gA S) cB := hS.1
  have hr := hA.rg
  have hcB : cB = 2450880 := rfl
  refine mkct2 hl (by decide) (Nat.le_of_ble_eq_true rfl) (L := [some (.ref 181)]) rfl ?_
  refine x_aload_n (pc := 0) rfl d230_0 ?_
  refine x_aload_n (pc := 1) rfl d230_1 ?_
  refine m_getR (pc := 2) f230_9 (by decide +kernel) (xo181 (by omega)) rr181_0 d230_2 ?_
  refine x_iconst (pc := 5) d230_5 ?_
  refine m_ialdW (pc := 6) (w := ((gA S) 0 1)) (xa182 (by omega)) (by omega) (by omega) (by omega) (by rw [h.1.sc (i := 1) (by decide) (by decide)]) d230_6 ?_
  refine x_cVs (pc := 7) c230_344 (rt_tells hl hq (z := ((gA S) 0 1))) (xo181 (by omega)) rfl rfl (Nat.le_of_ble_eq_true rfl) (by decide +kernel) (by decide +kernel) rfl d230_7 ?_
  refine x_iret (pc := 10) rfl (fun _ => rfl) d230_10 ?_
  exact rq_0 h TH.mk rfl
theorem rm231 (hl : l.1.stackTraces = false) (hq : 192 ≤ q) (h : RREL I S) (hS : GOK S) : CT l 231 [.ref 181] (mm q I v fr) 0 0 (RQ q v fr I (0, gA S 0 4, S)) := by
  have hA : AINV (gA S) cB := hS.1
  have hr := hA.rg
  have hcB : cB = 2450880 := rfl
  refine mkct2 hl (by decide) (Nat.le_of_ble_eq_true rfl) (L := [some (.ref 181)]) rfl ?_
  refine x_aload_n (pc := 0) rfl d231_0 ?_
  refine x_aload_n (pc := 1) rfl d231_1 ?_
  refine m_getR (pc := 2) f231_9 (by decide +kernel) (xo181 (by omega)) rr181_0 d231_2 ?_
  refine x_iconst (pc := 5) d231_5 ?_
  refine m_ialdW (pc := 6) (w := ((gA S) 0 4)) (xa182 (by omega)) (by omega) (by omega) (by omega) (by rw [h.1.sc (i := 4) (by decide) (by decide)]) d231_6 ?_
  refine x_cVs (pc := 7) c231_344 (rt_tells hl hq (z := ((gA S) 0 4))) (xo181 (by omega)) rfl rfl (Nat.le_of_ble_eq_true rfl) (by decide +kernel) (by decide +kernel) rfl d231_7 ?_
  refine x_iret (pc := 10) rfl (fun _ => rfl) d231_10 ?_
  exact rq_0 h TH.mk rfl
theorem rm236 (hl : l.1.stackTraces = false) (hq : 192 ≤ q) (h : RREL I S) (hS : GOK S) : CT l 236 [.ref 181] (mm q I v fr) 0 0 (RQ q v fr I (0, gA S 0 5, S)) := by
  have hA : AINV (gA S) cB := hS.1
  have hr := hA.rg
  have hcB : cB = 2450880 := rfl
  refine mkct2 hl (by decide) (Nat.le_of_ble_eq_true rfl) (L := [some (.ref 181)]) rfl ?_
  refine x_aload_n (pc := 0) rfl d236_0 ?_
  refine x_aload_n (pc := 1) rfl d236_1 ?_
  refine m_getR (pc := 2) f236_9 (by decide +kernel) (xo181 (by omega)) rr181_0 d236_2 ?_
  refine x_iconst (pc := 5) d236_5 ?_
  refine m_ialdW (pc := 6) (w := ((gA S) 0 5)) (xa182 (by omega)) (by omega) (by omega) (by omega) (by rw [h.1.sc (i := 5) (by decide) (by decide)]) d236_6 ?_
  refine x_cVs (pc := 7) c236_344 (rt_tells hl hq (z := ((gA S) 0 5))) (xo181 (by omega)) rfl rfl (Nat.le_of_ble_eq_true rfl) (by decide +kernel) (by decide +kernel) rfl d236_7 ?_
  refine x_iret (pc := 10) rfl (fun _ => rfl) d236_10 ?_
  exact rq_0 h TH.mk rfl
theorem rm240 (hl : l.1.stackTraces = false) (hq : 192 ≤ q) (h : RREL I S) (hS : GOK S) : CT l 240 [.ref 181] (mm q I v fr) 0 0 (RQ q v fr I (0, gA S 0 6, S)) := by
  have hA : AINV (gA S) cB := hS.1
  have hr := hA.rg
  have hcB : cB = 2450880 := rfl
  refine mkct2 hl (by decide) (Nat.le_of_ble_eq_true rfl) (L := [some (.ref 181)]) rfl ?_
  refine x_aload_n (pc := 0) rfl d240_0 ?_
  refine x_aload_n (pc := 1) rfl d240_1 ?_
  refine m_getR (pc := 2) f240_9 (by decide +kernel) (xo181 (by omega)) rr181_0 d240_2 ?_
  refine x_bipush (pc := 5) (by decide) d240_5 ?_
  refine m_ialdW (pc := 7) (w := ((gA S) 0 6)) (xa182 (by omega)) (by omega) (by omega) (by omega) (by rw [h.1.sc (i := 6) (by decide) (by decide)]) d240_7 ?_
  refine x_cVs (pc := 8) c240_344 (rt_tells hl hq (z := ((gA S) 0 6))) (xo181 (by omega)) rfl rfl (Nat.le_of_ble_eq_true rfl) (by decide +kernel) (by decide +kernel) rfl d240_8 ?_
  refine x_iret (pc := 11) rfl (fun _ => rfl) d240_11 ?_
  exact rq_0 h TH.mk rfl
theorem rm265 (hl : l.1.stackTraces = false) (hq : 192 ≤ q) (h : RREL I S) (hS : GOK S) : CT l 265 [.ref 181] (mm q I v fr) 0 0 (RQ q v fr I (0, gA S 0 8, S)) := by
  have hA : AINV (gA S) cB := hS.1
  have hr := hA.rg
  have hcB : cB = 2450880 := rfl
  refine mkct2 hl (by decide) (Nat.le_of_ble_eq_true rfl) (L := [some (.ref 181)]) rfl ?_
  refine x_aload_n (pc := 0) rfl d265_0 ?_
  refine x_aload_n (pc := 1) rfl d265_1 ?_
  refine m_getR (pc := 2) f265_9 (by decide +kernel) (xo181 (by omega)) rr181_0 d265_2 ?_
  refine x_bipush (pc := 5) (by decide) d265_5 ?_
  refine m_ialdW (pc := 7) (w := ((gA S) 0 8)) (xa182 (by omega)) (by omega) (by omega) (by omega) (by rw [h.1.sc (i := 8) (by decide) (by decide)]) d265_7 ?_
  refine x_cVs (pc := 8) c265_344 (rt_tells hl hq (z := ((gA S) 0 8))) (xo181 (by omega)) rfl rfl (Nat.le_of_ble_eq_true rfl) (by decide +kernel) (by decide +kernel) rfl d265_8 ?_
  refine x_iret (pc := 11) rfl (fun _ => rfl) d265_11 ?_
  exact rq_0 h TH.mk rfl
theorem rm268 (hl : l.1.stackTraces = false) (hq : 192 ≤ q) (h : RREL I S) (hS : GOK S) : CT l 268 [.ref 181] (mm q I v fr) 0 0 (RQ q v fr I (0, gA S 0 10, S)) := by
  have hA : AINV (gA S) cB := hS.1
  have hr := hA.rg
  have hcB : cB = 2450880 := rfl
  refine mkct2 hl (by decide) (Nat.le_of_ble_eq_true rfl) (L := [some (.ref 181)]) rfl ?_
  refine x_aload_n (pc := 0) rfl d268_0 ?_
  refine x_aload_n (pc := 1) rfl d268_1 ?_
  refine m_getR (pc := 2) f268_9 (by decide +kernel) (xo181 (by omega)) rr181_0 d268_2 ?_
  refine x_bipush (pc := 5) (by decide) d268_5 ?_
  refine m_ialdW (pc := 7) (w := ((gA S) 0 10)) (xa182 (by omega)) (by omega) (by omega) (by omega) (by rw [h.1.sc (i := 10) (by decide) (by decide)]) d268_7 ?_
  refine x_cVs (pc := 8) c268_344 (rt_tells hl hq (z := ((gA S) 0 10))) (xo181 (by omega)) rfl rfl (Nat.le_of_ble_eq_true rfl) (by decide +kernel) (by decide +kernel) rfl d268_8 ?_
  refine x_iret (pc := 11) rfl (fun _ => rfl) d268_11 ?_
  exact rq_0 h TH.mk rfl
theorem rm269 (hl : l.1.stackTraces = false) (hq : 192 ≤ q) (h : RREL I S) (hS : GOK S) : CT l 269 [.ref 181] (mm q I v fr) 0 0 (RQ q v fr I (0, gA S 0 11, S)) := by
  have hA : AINV (gA S) cB := hS.1
  have hr := hA.rg
  have hcB : cB = 2450880 := rfl
  refine mkct2 hl (by decide) (Nat.le_of_ble_eq_true rfl) (L := [some (.ref 181)]) rfl ?_
  refine x_aload_n (pc := 0) rfl d269_0 ?_
  refine x_aload_n (pc := 1) rfl d269_1 ?_
  refine m_getR (pc := 2) f269_9 (by decide +kernel) (xo181 (by omega)) rr181_0 d269_2 ?_
  refine x_bipush (pc := 5) (by decide) d269_5 ?_
  refine m_ialdW (pc := 7) (w := ((gA S) 0 11)) (xa182 (by omega)) (by omega) (by omega) (by omega) (by rw [h.1.sc (i := 11) (by decide) (by decide)]) d269_7 ?_
  refine x_cVs (pc := 8) c269_344 (rt_tells hl hq (z := ((gA S) 0 11))) (xo181 (by omega)) rfl rfl (Nat.le_of_ble_eq_true rfl) (by decide +kernel) (by decide +kernel) rfl d269_8 ?_
  refine x_iret (pc := 11) rfl (fun _ => rfl) d269_11 ?_
  exact rq_0 h TH.mk rfl
theorem rm270 (hl : l.1.stackTraces = false) (hq : 192 ≤ q) (h : RREL I S) (hS : GOK S) : CT l 270 [.ref 181] (mm q I v fr) 0 0 (RQ q v fr I (0, gA S 0 12, S)) := by
  have hA : AINV (gA S) cB := hS.1
  have hr := hA.rg
  have hcB : cB = 2450880 := rfl
  refine mkct2 hl (by decide) (Nat.le_of_ble_eq_true rfl) (L := [some (.ref 181)]) rfl ?_
  refine x_aload_n (pc := 0) rfl d270_0 ?_
  refine x_aload_n (pc := 1) rfl d270_1 ?_
  refine m_getR (pc := 2) f270_9 (by decide +kernel) (xo181 (by omega)) rr181_0 d270_2 ?_
  refine x_bipush (pc := 5) (by decide) d270_5 ?_
  refine m_ialdW (pc := 7) (w := ((gA S) 0 12)) (xa182 (by omega)) (by omega) (by omega) (by omega) (by rw [h.1.sc (i := 12) (by decide) (by decide)]) d270_7 ?_
  refine x_cVs (pc := 8) c270_344 (rt_tells hl hq (z := ((gA S) 0 12))) (xo181 (by omega)) rfl rfl (Nat.le_of_ble_eq_true rfl) (by decide +kernel) (by decide +kernel) rfl d270_8 ?_
  refine x_iret (pc := 11) rfl (fun _ => rfl) d270_11 ?_
  exact rq_0 h TH.mk rfl
theorem rm271 (hl : l.1.stackTraces = false) (hq : 192 ≤ q) (h : RREL I S) (hS : GOK S) : CT l 271 [.ref 181] (mm q I v fr) 0 0 (RQ q v fr I (0, gA S 0 14, S)) := by
  have hA : AINV (gA S) cB := hS.1
  have hr := hA.rg
  have hcB : cB = 2450880 := rfl
  refine mkct2 hl (by decide) (Nat.le_of_ble_eq_true rfl) (L := [some (.ref 181)]) rfl ?_
  refine x_aload_n (pc := 0) rfl d271_0 ?_
  refine x_aload_n (pc := 1) rfl d271_1 ?_
  refine m_getR (pc := 2) f271_9 (by decide +kernel) (xo181 (by omega)) rr181_0 d271_2 ?_
  refine x_bipush (pc := 5) (by decide) d271_5 ?_
  refine m_ialdW (pc := 7) (w := ((gA S) 0 14)) (xa182 (by omega)) (by omega) (by omega) (by omega) (by rw [h.1.sc (i := 14) (by decide) (by decide)]) d271_7 ?_
  refine x_cVs (pc := 8) c271_344 (rt_tells hl hq (z := ((gA S) 0 14))) (xo181 (by omega)) rfl rfl (Nat.le_of_ble_eq_true rfl) (by decide +kernel) (by decide +kernel) rfl d271_8 ?_
  refine x_iret (pc := 11) rfl (fun _ => rfl) d271_11 ?_
  exact rq_0 h TH.mk rfl
theorem rm272 (hl : l.1.stackTraces = false) (hq : 192 ≤ q) (h : RREL I S) (hS : GOK S) : CT l 272 [.ref 181] (mm q I v fr) 0 0 (RQ q v fr I (0, gA S 0 15, S)) := by
  have hA : AINV (gA S) cB := hS.1
  have hr := hA.rg
  have hcB : cB = 2450880 := rfl
  refine mkct2 hl (by decide) (Nat.le_of_ble_eq_true rfl) (L := [some (.ref 181)]) rfl ?_
  refine x_aload_n (pc := 0) rfl d272_0 ?_
  refine x_aload_n (pc := 1) rfl d272_1 ?_
  refine m_getR (pc := 2) f272_9 (by decide +kernel) (xo181 (by omega)) rr181_0 d272_2 ?_
  refine x_bipush (pc := 5) (by decide) d272_5 ?_
  refine m_ialdW (pc := 7) (w := ((gA S) 0 15)) (xa182 (by omega)) (by omega) (by omega) (by omega) (by rw [h.1.sc (i := 15) (by decide) (by decide)]) d272_7 ?_
  refine x_cVs (pc := 8) c272_344 (rt_tells hl hq (z := ((gA S) 0 15))) (xo181 (by omega)) rfl rfl (Nat.le_of_ble_eq_true rfl) (by decide +kernel) (by decide +kernel) rfl d272_8 ?_
  refine x_iret (pc := 11) rfl (fun _ => rfl) d272_11 ?_
  exact rq_0 h TH.mk rfl
theorem rm273 (hl : l.1.stackTraces = false) (hq : 192 ≤ q) (h : RREL I S) (hS : GOK S) : CT l 273 [.ref 181] (mm q I v fr) 0 0 (RQ q v fr I (0, gA S 0 16, S)) := by
  have hA : AINV (gA S) cB := hS.1
  have hr := hA.rg
  have hcB : cB = 2450880 := rfl
  refine mkct2 hl (by decide) (Nat.le_of_ble_eq_true rfl) (L := [some (.ref 181)]) rfl ?_
  refine x_aload_n (pc := 0) rfl d273_0 ?_
  refine x_aload_n (pc := 1) rfl d273_1 ?_
  refine m_getR (pc := 2) f273_9 (by decide +kernel) (xo181 (by omega)) rr181_0 d273_2 ?_
  refine x_bipush (pc := 5) (by decide) d273_5 ?_
  refine m_ialdW (pc := 7) (w := ((gA S) 0 16)) (xa182 (by omega)) (by omega) (by omega) (by omega) (by rw [h.1.sc (i := 16) (by decide) (by decide)]) d273_7 ?_
  refine x_cVs (pc := 8) c273_344 (rt_tells hl hq (z := ((gA S) 0 16))) (xo181 (by omega)) rfl rfl (Nat.le_of_ble_eq_true rfl) (by decide +kernel) (by decide +kernel) rfl d273_8 ?_
  refine x_iret (pc := 11) rfl (fun _ => rfl) d273_11 ?_
  exact rq_0 h TH.mk rfl
theorem rm264 (hl : l.1.stackTraces = false) (hq : 192 ≤ q) (h : RREL I S) (hS : GOK S) : CT l 264 [.ref 181] (mm q I v fr) 0 0 (RQ q v fr I (0, pendA (gA S), S)) := by
  have hA : AINV (gA S) cB := hS.1
  have hr := hA.rg
  have hcB : cB = 2450880 := rfl
  refine mkct2 hl (by decide) (Nat.le_of_ble_eq_true rfl) (L := [some (.ref 181)]) rfl ?_
  refine x_aload_n (pc := 0) rfl d264_0 ?_
  refine x_aload_n (pc := 1) rfl d264_1 ?_
  refine x_cVs (pc := 2) c264_170 (rt_pend hl hq (A := (gA S)) h.1 hA) (xo181 (by omega)) rfl rfl (Nat.le_of_ble_eq_true rfl) (by decide +kernel) (by decide +kernel) rfl d264_2 ?_
  refine x_cVs (pc := 5) c264_344 (rt_tells hl hq (z := (pendA (gA S)))) (xo181 (by omega)) rfl rfl (Nat.le_of_ble_eq_true rfl) (by decide +kernel) (by decide +kernel) rfl d264_5 ?_
  refine x_iret (pc := 8) rfl (fun _ => rfl) d264_8 ?_
  exact rq_0 h TH.mk rfl
theorem rm237 (hl : l.1.stackTraces = false) (hq : 192 ≤ q) (h : RREL I S) (hS : GOK S) {m : Int} (hm : InR m) : CT l 237 [.ref 181, .int (iI m)] (mm q I v fr) 0 0 (RQ q v fr I (oAsk S (isM S m) (gA S 4 m))) := by
  have hA : AINV (gA S) cB := hS.1
  have hr := hA.rg
  have hcB : cB = 2450880 := rfl
  obtain ⟨hm0, hm1⟩ := id hm
  refine mkct2 hl (by decide) (Nat.le_of_ble_eq_true rfl) (L := [some (.ref 181), some (.int (iI m))]) rfl ?_
  refine x_aload_n (pc := 0) rfl d237_0 ?_
  refine x_aload_n (pc := 1) rfl d237_1 ?_
  refine x_iload_n (pc := 2) rfl d237_2 ?_
  refine x_cVs (pc := 3) c237_183 (rt_isMes hl hq (A := (gA S)) h.1 hA (d := m) ⟨by omega, by omega⟩) (xo181 (by omega)) rfl rfl (Nat.le_of_ble_eq_true rfl) (by decide +kernel) (by decide +kernel) rfl d237_3 ?_
  refine x_cVs (pc := 6) c237_198 (rt_passes hl hq (b := (decide (0 ≤ m ∧ m < (gA S) 0 5)))) (xo181 (by omega)) rfl rfl (Nat.le_of_ble_eq_true rfl) (by decide +kernel) (by decide +kernel) rfl d237_6 ?_
  obtain ⟨K, hK⟩ : ∃ Z : Nat → Int → Int, Z = (up2 I 181 6 (b01 (!(decide (0 ≤ m ∧ m < (gA S) 0 5))))) := ⟨_, rfl⟩
  refine x_mem (J := K) (pc := 9) hK ?_
  have tK := TH.of hK
  have hRK := tK.rv h.1
  refine x_ifB_eq (pc := 9) (tgt := 21) d237_9 (by decide) (fun g9 => ?_) (fun g9 => ?_)
  · refine x_iconst (pc := 21) d237_21 ?_
    refine x_iret (pc := 22) rfl (fun _ => rfl) d237_22 ?_
    exact rq_f h tK g9 rfl
  · have b0 := of_decide_eq_true g9
    refine x_aload_n (pc := 12) rfl d237_12 ?_
    refine x_iload_n (pc := 13) rfl d237_13 ?_
    refine x_iconst (pc := 14) d237_14 ?_
    refine x_cVs (pc := 15) c237_96 (rt_mes4 hl hq (A := (gA S)) hRK (m := m) (by omega) (by omega) (by omega)) (xo181 (by omega)) rfl rfl (Nat.le_of_ble_eq_true rfl) (by decide +kernel) (by decide +kernel) rfl d237_15 ?_
    refine x_goto (pc := 18) (tgt := 22) d237_18 (by decide) ?_
    refine x_iret (pc := 22) rfl (fun _ => rfl) d237_22 ?_
    exact rq_t h tK g9 rfl rfl
theorem rm239 (hl : l.1.stackTraces = false) (hq : 192 ≤ q) (h : RREL I S) (hS : GOK S) {m : Int} (hm : InR m) : CT l 239 [.ref 181, .int (iI m)] (mm q I v fr) 0 0 (RQ q v fr I (oAsk S (isM S m) (gA S 5 m))) := by
  have hA : AINV (gA S) cB := hS.1
  have hr := hA.rg
  have hcB : cB = 2450880 := rfl
  obtain ⟨hm0, hm1⟩ := id hm
  refine mkct2 hl (by decide) (Nat.le_of_ble_eq_true rfl) (L := [some (.ref 181), some (.int (iI m))]) rfl ?_
  refine x_aload_n (pc := 0) rfl d239_0 ?_
  refine x_aload_n (pc := 1) rfl d239_1 ?_
  refine x_iload_n (pc := 2) rfl d239_2 ?_
  refine x_cVs (pc := 3) c239_183 (rt_isMes hl hq (A := (gA S)) h.1 hA (d := m) ⟨by omega, by omega⟩) (xo181 (by omega)) rfl rfl (Nat.le_of_ble_eq_true rfl) (by decide +kernel) (by decide +kernel) rfl d239_3 ?_
  refine x_cVs (pc := 6) c239_198 (rt_passes hl hq (b := (decide (0 ≤ m ∧ m < (gA S) 0 5)))) (xo181 (by omega)) rfl rfl (Nat.le_of_ble_eq_true rfl) (by decide +kernel) (by decide +kernel) rfl d239_6 ?_
  obtain ⟨K, hK⟩ : ∃ Z : Nat → Int → Int, Z = (up2 I 181 6 (b01 (!(decide (0 ≤ m ∧ m < (gA S) 0 5))))) := ⟨_, rfl⟩
  refine x_mem (J := K) (pc := 9) hK ?_
  have tK := TH.of hK
  have hRK := tK.rv h.1
  refine x_ifB_eq (pc := 9) (tgt := 21) d239_9 (by decide) (fun g9 => ?_) (fun g9 => ?_)
  · refine x_iconst (pc := 21) d239_21 ?_
    refine x_iret (pc := 22) rfl (fun _ => rfl) d239_22 ?_
    exact rq_f h tK g9 rfl
  · have b0 := of_decide_eq_true g9
    refine x_aload_n (pc := 12) rfl d239_12 ?_
    refine x_iload_n (pc := 13) rfl d239_13 ?_
    refine x_iconst (pc := 14) d239_14 ?_
    refine x_cVs (pc := 15) c239_96 (rt_mes5 hl hq (A := (gA S)) hRK (m := m) (by omega) (by omega) (by omega)) (xo181 (by omega)) rfl rfl (Nat.le_of_ble_eq_true rfl) (by decide +kernel) (by decide +kernel) rfl d239_15 ?_
    refine x_goto (pc := 18) (tgt := 22) d239_18 (by decide) ?_
    refine x_iret (pc := 22) rfl (fun _ => rfl) d239_22 ?_
    exact rq_t h tK g9 rfl rfl
theorem rm238 (hl : l.1.stackTraces = false) (hq : 192 ≤ q) (h : RREL I S) (hS : GOK S) {m : Int} (hm : InR m) : CT l 238 [.ref 181, .int (iI m)] (mm q I v fr) 0 0 (RQ q v fr I (oAsk S (isM S m) (stA (gA S) m))) := by
  have hA : AINV (gA S) cB := hS.1
  have hr := hA.rg
  have hcB : cB = 2450880 := rfl
  obtain ⟨hm0, hm1⟩ := id hm
  refine mkct2 hl (by decide) (Nat.le_of_ble_eq_true rfl) (L := [some (.ref 181), some (.int (iI m))]) rfl ?_
  refine x_aload_n (pc := 0) rfl d238_0 ?_
  refine x_aload_n (pc := 1) rfl d238_1 ?_
  refine x_iload_n (pc := 2) rfl d238_2 ?_
  refine x_cVs (pc := 3) c238_183 (rt_isMes hl hq (A := (gA S)) h.1 hA (d := m) ⟨by omega, by omega⟩) (xo181 (by omega)) rfl rfl (Nat.le_of_ble_eq_true rfl) (by decide +kernel) (by decide +kernel) rfl d238_3 ?_
  refine x_cVs (pc := 6) c238_198 (rt_passes hl hq (b := (decide (0 ≤ m ∧ m < (gA S) 0 5)))) (xo181 (by omega)) rfl rfl (Nat.le_of_ble_eq_true rfl) (by decide +kernel) (by decide +kernel) rfl d238_6 ?_
  obtain ⟨K, hK⟩ : ∃ Z : Nat → Int → Int, Z = (up2 I 181 6 (b01 (!(decide (0 ≤ m ∧ m < (gA S) 0 5))))) := ⟨_, rfl⟩
  refine x_mem (J := K) (pc := 9) hK ?_
  have tK := TH.of hK
  have hRK := tK.rv h.1
  refine x_ifB_eq (pc := 9) (tgt := 20) d238_9 (by decide) (fun g9 => ?_) (fun g9 => ?_)
  · refine x_iconst (pc := 20) d238_20 ?_
    refine x_iret (pc := 21) rfl (fun _ => rfl) d238_21 ?_
    exact rq_f h tK g9 rfl
  · have b0 := of_decide_eq_true g9
    refine x_aload_n (pc := 12) rfl d238_12 ?_
    refine x_iload_n (pc := 13) rfl d238_13 ?_
    refine x_cVs (pc := 14) c238_186 (rt_st hl hq (A := (gA S)) hRK hA (m := m) (by omega) (by omega)) (xo181 (by omega)) rfl rfl (Nat.le_of_ble_eq_true rfl) (by decide +kernel) (by decide +kernel) rfl d238_14 ?_
    refine x_goto (pc := 17) (tgt := 21) d238_17 (by decide) ?_
    refine x_iret (pc := 21) rfl (fun _ => rfl) d238_21 ?_
    exact rq_t h tK g9 rfl rfl
theorem rm241 (hl : l.1.stackTraces = false) (hq : 192 ≤ q) (h : RREL I S) (hS : GOK S) {f : Int} (hf : InR f) : CT l 241 [.ref 181, .int (iI f)] (mm q I v fr) 0 0 (RQ q v fr I (oAsk S (isF S f) (gA S 6 f))) := by
  have hA : AINV (gA S) cB := hS.1
  have hr := hA.rg
  have hcB : cB = 2450880 := rfl
  obtain ⟨hf0, hf1⟩ := id hf
  refine mkct2 hl (by decide) (Nat.le_of_ble_eq_true rfl) (L := [some (.ref 181), some (.int (iI f))]) rfl ?_
  refine x_aload_n (pc := 0) rfl d241_0 ?_
  refine x_aload_n (pc := 1) rfl d241_1 ?_
  refine x_iload_n (pc := 2) rfl d241_2 ?_
  refine x_cVs (pc := 3) c241_352 (rt_isFrm hl hq (A := (gA S)) h.1 hA (d := f) ⟨by omega, by omega⟩) (xo181 (by omega)) rfl rfl (Nat.le_of_ble_eq_true rfl) (by decide +kernel) (by decide +kernel) rfl d241_3 ?_
  refine x_cVs (pc := 6) c241_198 (rt_passes hl hq (b := (decide (0 ≤ f ∧ f < (gA S) 0 6)))) (xo181 (by omega)) rfl rfl (Nat.le_of_ble_eq_true rfl) (by decide +kernel) (by decide +kernel) rfl d241_6 ?_
  obtain ⟨K, hK⟩ : ∃ Z : Nat → Int → Int, Z = (up2 I 181 6 (b01 (!(decide (0 ≤ f ∧ f < (gA S) 0 6))))) := ⟨_, rfl⟩
  refine x_mem (J := K) (pc := 9) hK ?_
  have tK := TH.of hK
  have hRK := tK.rv h.1
  refine x_ifB_eq (pc := 9) (tgt := 21) d241_9 (by decide) (fun g9 => ?_) (fun g9 => ?_)
  · refine x_iconst (pc := 21) d241_21 ?_
    refine x_iret (pc := 22) rfl (fun _ => rfl) d241_22 ?_
    exact rq_f h tK g9 rfl
  · have b0 := of_decide_eq_true g9
    refine x_aload_n (pc := 12) rfl d241_12 ?_
    refine x_iload_n (pc := 13) rfl d241_13 ?_
    refine x_iconst (pc := 14) d241_14 ?_
    refine x_cVs (pc := 15) c241_78 (rt_of6 hl hq (A := (gA S)) hRK (f := f) (by omega) (by omega) (by omega)) (xo181 (by omega)) rfl rfl (Nat.le_of_ble_eq_true rfl) (by decide +kernel) (by decide +kernel) rfl d241_15 ?_
    refine x_goto (pc := 18) (tgt := 22) d241_18 (by decide) ?_
    refine x_iret (pc := 22) rfl (fun _ => rfl) d241_22 ?_
    exact rq_t h tK g9 rfl rfl
theorem rm245 (hl : l.1.stackTraces = false) (hq : 192 ≤ q) (h : RREL I S) (hS : GOK S) {f : Int} (hf : InR f) : CT l 245 [.ref 181, .int (iI f)] (mm q I v fr) 0 0 (RQ q v fr I (oAsk S (isF S f) (gA S 7 f))) := by
  have hA : AINV (gA S) cB := hS.1
  have hr := hA.rg
  have hcB : cB = 2450880 := rfl
  obtain ⟨hf0, hf1⟩ := id hf
  refine mkct2 hl (by decide) (Nat.le_of_ble_eq_true rfl) (L := [some (.ref 181), some (.int (iI f))]) rfl ?_
  refine x_aload_n (pc := 0) rfl d245_0 ?_
  refine x_aload_n (pc := 1) rfl d245_1 ?_
  refine x_iload_n (pc := 2) rfl d245_2 ?_
  refine x_cVs (pc := 3) c245_352 (rt_isFrm hl hq (A := (gA S)) h.1 hA (d := f) ⟨by omega, by omega⟩) (xo181 (by omega)) rfl rfl (Nat.le_of_ble_eq_true rfl) (by decide +kernel) (by decide +kernel) rfl d245_3 ?_
  refine x_cVs (pc := 6) c245_198 (rt_passes hl hq (b := (decide (0 ≤ f ∧ f < (gA S) 0 6)))) (xo181 (by omega)) rfl rfl (Nat.le_of_ble_eq_true rfl) (by decide +kernel) (by decide +kernel) rfl d245_6 ?_
  obtain ⟨K, hK⟩ : ∃ Z : Nat → Int → Int, Z = (up2 I 181 6 (b01 (!(decide (0 ≤ f ∧ f < (gA S) 0 6))))) := ⟨_, rfl⟩
  refine x_mem (J := K) (pc := 9) hK ?_
  have tK := TH.of hK
  have hRK := tK.rv h.1
  refine x_ifB_eq (pc := 9) (tgt := 21) d245_9 (by decide) (fun g9 => ?_) (fun g9 => ?_)
  · refine x_iconst (pc := 21) d245_21 ?_
    refine x_iret (pc := 22) rfl (fun _ => rfl) d245_22 ?_
    exact rq_f h tK g9 rfl
  · have b0 := of_decide_eq_true g9
    refine x_aload_n (pc := 12) rfl d245_12 ?_
    refine x_iload_n (pc := 13) rfl d245_13 ?_
    refine x_iconst (pc := 14) d245_14 ?_
    refine x_cVs (pc := 15) c245_78 (rt_of7 hl hq (A := (gA S)) hRK (f := f) (by omega) (by omega) (by omega)) (xo181 (by omega)) rfl rfl (Nat.le_of_ble_eq_true rfl) (by decide +kernel) (by decide +kernel) rfl d245_15 ?_
    refine x_goto (pc := 18) (tgt := 22) d245_18 (by decide) ?_
    refine x_iret (pc := 22) rfl (fun _ => rfl) d245_22 ?_
    exact rq_t h tK g9 rfl rfl
theorem rm246 (hl : l.1.stackTraces = false) (hq : 192 ≤ q) (h : RREL I S) (hS : GOK S) {f : Int} (hf : InR f) : CT l 246 [.ref 181, .int (iI f)] (mm q I v fr) 0 0 (RQ q v fr I (oAsk S (isF S f) (gA S 8 f))) := by
  have hA : AINV (gA S) cB := hS.1
  have hr := hA.rg
  have hcB : cB = 2450880 := rfl
  obtain ⟨hf0, hf1⟩ := id hf
  refine mkct2 hl (by decide) (Nat.le_of_ble_eq_true rfl) (L := [some (.ref 181), some (.int (iI f))]) rfl ?_
  refine x_aload_n (pc := 0) rfl d246_0 ?_
  refine x_aload_n (pc := 1) rfl d246_1 ?_
  refine x_iload_n (pc := 2) rfl d246_2 ?_
  refine x_cVs (pc := 3) c246_352 (rt_isFrm hl hq (A := (gA S)) h.1 hA (d := f) ⟨by omega, by omega⟩) (xo181 (by omega)) rfl rfl (Nat.le_of_ble_eq_true rfl) (by decide +kernel) (by decide +kernel) rfl d246_3 ?_
  refine x_cVs (pc := 6) c246_198 (rt_passes hl hq (b := (decide (0 ≤ f ∧ f < (gA S) 0 6)))) (xo181 (by omega)) rfl rfl (Nat.le_of_ble_eq_true rfl) (by decide +kernel) (by decide +kernel) rfl d246_6 ?_
  obtain ⟨K, hK⟩ : ∃ Z : Nat → Int → Int, Z = (up2 I 181 6 (b01 (!(decide (0 ≤ f ∧ f < (gA S) 0 6))))) := ⟨_, rfl⟩
  refine x_mem (J := K) (pc := 9) hK ?_
  have tK := TH.of hK
  have hRK := tK.rv h.1
  refine x_ifB_eq (pc := 9) (tgt := 21) d246_9 (by decide) (fun g9 => ?_) (fun g9 => ?_)
  · refine x_iconst (pc := 21) d246_21 ?_
    refine x_iret (pc := 22) rfl (fun _ => rfl) d246_22 ?_
    exact rq_f h tK g9 rfl
  · have b0 := of_decide_eq_true g9
    refine x_aload_n (pc := 12) rfl d246_12 ?_
    refine x_iload_n (pc := 13) rfl d246_13 ?_
    refine x_iconst (pc := 14) d246_14 ?_
    refine x_cVs (pc := 15) c246_78 (rt_of8 hl hq (A := (gA S)) hRK (f := f) (by omega) (by omega) (by omega)) (xo181 (by omega)) rfl rfl (Nat.le_of_ble_eq_true rfl) (by decide +kernel) (by decide +kernel) rfl d246_15 ?_
    refine x_goto (pc := 18) (tgt := 22) d246_18 (by decide) ?_
    refine x_iret (pc := 22) rfl (fun _ => rfl) d246_22 ?_
    exact rq_t h tK g9 rfl rfl
theorem rm247 (hl : l.1.stackTraces = false) (hq : 192 ≤ q) (h : RREL I S) (hS : GOK S) {f : Int} (hf : InR f) (h9 : ∀ f, gA S 9 f = 0 ∨ gA S 9 f = 1) : CT l 247 [.ref 181, .int (iI f)] (mm q I v fr) 0 0 (RQ q v fr I (oAsk S (isF S f) (b01 (decide (gA S 9 f = 1))))) := by
  have hA : AINV (gA S) cB := hS.1
  have hr := hA.rg
  have hcB : cB = 2450880 := rfl
  obtain ⟨hf0, hf1⟩ := id hf
  refine mkct2 hl (by decide) (Nat.le_of_ble_eq_true rfl) (L := [some (.ref 181), some (.int (iI f))]) rfl ?_
  refine x_aload_n (pc := 0) rfl d247_0 ?_
  refine x_aload_n (pc := 1) rfl d247_1 ?_
  refine x_iload_n (pc := 2) rfl d247_2 ?_
  refine x_cVs (pc := 3) c247_352 (rt_isFrm hl hq (A := (gA S)) h.1 hA (d := f) ⟨by omega, by omega⟩) (xo181 (by omega)) rfl rfl (Nat.le_of_ble_eq_true rfl) (by decide +kernel) (by decide +kernel) rfl d247_3 ?_
  refine x_cVs (pc := 6) c247_198 (rt_passes hl hq (b := (decide (0 ≤ f ∧ f < (gA S) 0 6)))) (xo181 (by omega)) rfl rfl (Nat.le_of_ble_eq_true rfl) (by decide +kernel) (by decide +kernel) rfl d247_6 ?_
  obtain ⟨K, hK⟩ : ∃ Z : Nat → Int → Int, Z = (up2 I 181 6 (b01 (!(decide (0 ≤ f ∧ f < (gA S) 0 6))))) := ⟨_, rfl⟩
  refine x_mem (J := K) (pc := 9) hK ?_
  have tK := TH.of hK
  have hRK := tK.rv h.1
  refine x_ifB_eq (pc := 9) (tgt := 26) d247_9 (by decide) (fun g9 => ?_) (fun g9 => ?_)
  · refine x_iconst (pc := 26) d247_26 ?_
    refine x_zret (pc := 27) rfl (Or.inl rfl) (fun _ => rfl) d247_27 ?_
    exact rq_f h tK g9 rfl
  · have b0 := of_decide_eq_true g9
    refine x_aload_n (pc := 12) rfl d247_12 ?_
    refine x_iload_n (pc := 13) rfl d247_13 ?_
    refine x_iconst (pc := 14) d247_14 ?_
    refine x_cVs (pc := 15) c247_78 (rt_of9 hl hq (A := (gA S)) hRK (f := f) (by omega) (by omega) (by omega)) (xo181 (by omega)) rfl rfl (Nat.le_of_ble_eq_true rfl) (by decide +kernel) (by decide +kernel) rfl d247_15 ?_
    refine x_iconst (pc := 18) d247_18 ?_
    have n9 := h9 f
    refine x_icmp_ne (pc := 19) (tgt := 26) ⟨by omega, by omega⟩ ⟨by omega, by omega⟩ d247_19 (by decide) (fun g19 => ?_) (fun g19 => ?_)
    · refine x_iconst (pc := 26) d247_26 ?_
      refine x_zret (pc := 27) rfl (Or.inl rfl) (fun _ => rfl) d247_27 ?_
      exact rq_t h tK g9 rfl (by rw [decide_eq_false (by omega)]; rfl)
    · refine x_iconst (pc := 22) d247_22 ?_
      refine x_goto (pc := 23) (tgt := 27) d247_23 (by decide) ?_
      refine x_zret (pc := 27) rfl (Or.inr rfl) (fun _ => rfl) d247_27 ?_
      exact rq_t h tK g9 rfl (by rw [decide_eq_true (by omega)]; rfl)
theorem rm242 (hl : l.1.stackTraces = false) (hq : 192 ≤ q) (h : RREL I S) (hS : GOK S) {f : Int} (hf : InR f) {i : Int} (hi : InR i) : CT l 242 [.ref 181, .int (iI f), .int (iI i)] (mm q I v fr) 0 0 (RQ q v fr I (oAsk S (isF S f) (if 0 ≤ i ∧ i < gA S 6 f then gA S 10 (6 * f + i) else -1))) := by
  have hA : AINV (gA S) cB := hS.1
  have hr := hA.rg
  have hcB : cB = 2450880 := rfl
  obtain ⟨hf0, hf1⟩ := id hf
  obtain ⟨hi0, hi1⟩ := id hi
  refine mkct2 hl (by decide) (Nat.le_of_ble_eq_true rfl) (L := [some (.ref 181), some (.int (iI f)), some (.int (iI i))]) rfl ?_
  refine x_aload_n (pc := 0) rfl d242_0 ?_
  refine x_aload_n (pc := 1) rfl d242_1 ?_
  refine x_iload_n (pc := 2) rfl d242_2 ?_
  refine x_cVs (pc := 3) c242_352 (rt_isFrm hl hq (A := (gA S)) h.1 hA (d := f) ⟨by omega, by omega⟩) (xo181 (by omega)) rfl rfl (Nat.le_of_ble_eq_true rfl) (by decide +kernel) (by decide +kernel) rfl d242_3 ?_
  refine x_cVs (pc := 6) c242_198 (rt_passes hl hq (b := (decide (0 ≤ f ∧ f < (gA S) 0 6)))) (xo181 (by omega)) rfl rfl (Nat.le_of_ble_eq_true rfl) (by decide +kernel) (by decide +kernel) rfl d242_6 ?_
  obtain ⟨K, hK⟩ : ∃ Z : Nat → Int → Int, Z = (up2 I 181 6 (b01 (!(decide (0 ≤ f ∧ f < (gA S) 0 6))))) := ⟨_, rfl⟩
  refine x_mem (J := K) (pc := 9) hK ?_
  have tK := TH.of hK
  have hRK := tK.rv h.1
  refine x_ifB_ne (pc := 9) (tgt := 14) d242_9 (by decide) (fun g9 => ?_) (fun g9 => ?_)
  · have b0 := of_decide_eq_true g9
    have hf := hA.frm f b0.1 b0.2
    refine x_iload_n (pc := 14) rfl d242_14 ?_
    refine x_i2l (pc := 15) ⟨by omega, by omega⟩ d242_15 ?_
    refine x_lconst (pc := 16) (z := 0) (by decide) d242_16 ?_
    refine x_aload_n (pc := 17) rfl d242_17 ?_
    refine x_iload_n (pc := 18) rfl d242_18 ?_
    refine x_iconst (pc := 19) d242_19 ?_
    refine x_cVs (pc := 20) c242_78 (rt_of6 hl hq (A := (gA S)) hRK (f := f) (by omega) (by omega) (by omega)) (xo181 (by omega)) rfl rfl (Nat.le_of_ble_eq_true rfl) (by decide +kernel) (by decide +kernel) rfl d242_20 ?_
    refine x_iconst (pc := 23) d242_23 ?_
    refine x_isub (pc := 24) d242_24 ?_
    refine x_i2l (pc := 25) ⟨by omega, by omega⟩ d242_25 ?_
    refine x_cSs (pc := 26) c242_72 (rt_in hl (a := i) (b := 0) (c := (((gA S) 6 f) - 1)) ⟨by omega, by omega⟩ ⟨by omega, by omega⟩ ⟨by omega, by omega⟩) rfl rfl (Nat.le_of_ble_eq_true rfl) (by decide +kernel) (by decide +kernel) (by decide +kernel) rfl d242_26 ?_
    refine x_ifB_eq (pc := 29) (tgt := 43) d242_29 (by decide) (fun g29 => ?_) (fun g29 => ?_)
    · refine x_iconst (pc := 43) d242_43 ?_
      refine x_iret (pc := 44) rfl (fun _ => rfl) d242_44 ?_
      have b1 := of_decide_eq_false g29
      exact rq_t h tK g9 rfl (by rw [if_neg (by omega)])
    · have b1 := of_decide_eq_true g29
      refine x_aload_n (pc := 32) rfl d242_32 ?_
      refine x_iload_n (pc := 33) rfl d242_33 ?_
      refine x_iconst (pc := 34) d242_34 ?_
      refine x_iload_n (pc := 35) rfl d242_35 ?_
      refine x_iadd (pc := 36) d242_36 ?_
      refine x_cVs (pc := 37) c242_78 (rt_ofS hl hq (A := (gA S)) hRK (f := f) (k := i) (by omega) (by omega) (by omega) (by omega) (by omega) (by omega)) (xo181 (by omega)) rfl rfl (Nat.le_of_ble_eq_true rfl) (by decide +kernel) (by decide +kernel) rfl d242_37 ?_
      refine x_goto (pc := 40) (tgt := 44) d242_40 (by decide) ?_
      refine x_iret (pc := 44) rfl (fun _ => rfl) d242_44 ?_
      exact rq_t h tK g9 rfl (by rw [if_pos (by omega)])
  · refine x_iconst (pc := 12) d242_12 ?_
    refine x_iret (pc := 13) rfl (fun _ => rfl) d242_13 ?_
    exact rq_f h tK g9 rfl
theorem rm248 (hl : l.1.stackTraces = false) (hq : 192 ≤ q) (h : RREL I S) (hS : GOK S) {f : Int} (hf : InR f) {i : Int} (hi : InR i) (h9 : ∀ f, gA S 9 f = 0 ∨ gA S 9 f = 1) : CT l 248 [.ref 181, .int (iI f), .int (iI i)] (mm q I v fr) 0 0 (RQ q v fr I (oAsk S (isF S f) (if gA S 9 f = 1 ∧ 0 ≤ i ∧ i < gA S 6 f then gA S 11 (6 * f + i) else -1))) := by
  have hA : AINV (gA S) cB := hS.1
  have hr := hA.rg
  have hcB : cB = 2450880 := rfl
  obtain ⟨hf0, hf1⟩ := id hf
  obtain ⟨hi0, hi1⟩ := id hi
  refine mkct2 hl (by decide) (Nat.le_of_ble_eq_true rfl) (L := [some (.ref 181), some (.int (iI f)), some (.int (iI i)), none]) rfl ?_
  refine x_aload_n (pc := 0) rfl d248_0 ?_
  refine x_aload_n (pc := 1) rfl d248_1 ?_
  refine x_iload_n (pc := 2) rfl d248_2 ?_
  refine x_cVs (pc := 3) c248_352 (rt_isFrm hl hq (A := (gA S)) h.1 hA (d := f) ⟨by omega, by omega⟩) (xo181 (by omega)) rfl rfl (Nat.le_of_ble_eq_true rfl) (by decide +kernel) (by decide +kernel) rfl d248_3 ?_
  refine x_cVs (pc := 6) c248_198 (rt_passes hl hq (b := (decide (0 ≤ f ∧ f < (gA S) 0 6)))) (xo181 (by omega)) rfl rfl (Nat.le_of_ble_eq_true rfl) (by decide +kernel) (by decide +kernel) rfl d248_6 ?_
  obtain ⟨K, hK⟩ : ∃ Z : Nat → Int → Int, Z = (up2 I 181 6 (b01 (!(decide (0 ≤ f ∧ f < (gA S) 0 6))))) := ⟨_, rfl⟩
  refine x_mem (J := K) (pc := 9) hK ?_
  have tK := TH.of hK
  have hRK := tK.rv h.1
  refine x_ifB_ne (pc := 9) (tgt := 14) d248_9 (by decide) (fun g9 => ?_) (fun g9 => ?_)
  · have b0 := of_decide_eq_true g9
    have hf := hA.frm f b0.1 b0.2
    refine x_aload_n (pc := 14) rfl d248_14 ?_
    refine x_iload_n (pc := 15) rfl d248_15 ?_
    refine x_iconst (pc := 16) d248_16 ?_
    refine x_cVs (pc := 17) c248_78 (rt_of9 hl hq (A := (gA S)) hRK (f := f) (by omega) (by omega) (by omega)) (xo181 (by omega)) rfl rfl (Nat.le_of_ble_eq_true rfl) (by decide +kernel) (by decide +kernel) rfl d248_17 ?_
    refine x_iconst (pc := 20) d248_20 ?_
    have n9 := h9 f
    refine x_icmp_ne (pc := 21) (tgt := 46) ⟨by omega, by omega⟩ ⟨by omega, by omega⟩ d248_21 (by decide) (fun g21 => ?_) (fun g21 => ?_)
    · refine x_iconst (pc := 46) d248_46 ?_
      refine x_istore_n (pc := 47) (by decide +kernel) rfl d248_47 ?_
      dsimp only [List.set]
      refine x_iload_n (pc := 48) rfl d248_48 ?_
      refine x_if_eq (pc := 49) (tgt := 64) ⟨by omega, by omega⟩ d248_49 (by decide) (fun _ => ?_) (fun z => absurd z (by decide))
      refine x_iconst (pc := 64) d248_64 ?_
      refine x_iret (pc := 65) rfl (fun _ => rfl) d248_65 ?_
      exact rq_t h tK g9 rfl (by rw [if_neg (by omega)])
    · refine x_iload_n (pc := 24) rfl d248_24 ?_
      refine x_i2l (pc := 25) ⟨by omega, by omega⟩ d248_25 ?_
      refine x_lconst (pc := 26) (z := 0) (by decide) d248_26 ?_
      refine x_aload_n (pc := 27) rfl d248_27 ?_
      refine x_iload_n (pc := 28) rfl d248_28 ?_
      refine x_iconst (pc := 29) d248_29 ?_
      refine x_cVs (pc := 30) c248_78 (rt_of6 hl hq (A := (gA S)) hRK (f := f) (by omega) (by omega) (by omega)) (xo181 (by omega)) rfl rfl (Nat.le_of_ble_eq_true rfl) (by decide +kernel) (by decide +kernel) rfl d248_30 ?_
      refine x_iconst (pc := 33) d248_33 ?_
      refine x_isub (pc := 34) d248_34 ?_
      refine x_i2l (pc := 35) ⟨by omega, by omega⟩ d248_35 ?_
      refine x_cSs (pc := 36) c248_72 (rt_in hl (a := i) (b := 0) (c := (((gA S) 6 f) - 1)) ⟨by omega, by omega⟩ ⟨by omega, by omega⟩ ⟨by omega, by omega⟩) rfl rfl (Nat.le_of_ble_eq_true rfl) (by decide +kernel) (by decide +kernel) (by decide +kernel) rfl d248_36 ?_
      refine x_ifB_eq (pc := 39) (tgt := 46) d248_39 (by decide) (fun g39 => ?_) (fun g39 => ?_)
      · refine x_iconst (pc := 46) d248_46 ?_
        refine x_istore_n (pc := 47) (by decide +kernel) rfl d248_47 ?_
        dsimp only [List.set]
        refine x_iload_n (pc := 48) rfl d248_48 ?_
        refine x_if_eq (pc := 49) (tgt := 64) ⟨by omega, by omega⟩ d248_49 (by decide) (fun _ => ?_) (fun z => absurd z (by decide))
        refine x_iconst (pc := 64) d248_64 ?_
        refine x_iret (pc := 65) rfl (fun _ => rfl) d248_65 ?_
        have b1 := of_decide_eq_false g39
        exact rq_t h tK g9 rfl (by rw [if_neg (by omega)])
      · have b1 := of_decide_eq_true g39
        refine x_iconst (pc := 42) d248_42 ?_
        refine x_goto (pc := 43) (tgt := 47) d248_43 (by decide) ?_
        refine x_istore_n (pc := 47) (by decide +kernel) rfl d248_47 ?_
        dsimp only [List.set]
        refine x_iload_n (pc := 48) rfl d248_48 ?_
        refine x_if_eq (pc := 49) (tgt := 64) ⟨by omega, by omega⟩ d248_49 (by decide) (fun z => absurd z (by decide)) (fun _ => ?_)
        refine x_aload_n (pc := 52) rfl d248_52 ?_
        refine x_iload_n (pc := 53) rfl d248_53 ?_
        refine x_bipush (pc := 54) (by decide) d248_54 ?_
        refine x_iload_n (pc := 56) rfl d248_56 ?_
        refine x_iadd (pc := 57) d248_57 ?_
        refine x_cVs (pc := 58) c248_78 (rt_ofG hl hq (A := (gA S)) hRK (f := f) (k := i) (by omega) (by omega) (by omega) (by omega) (by omega) (by omega) (by omega)) (xo181 (by omega)) rfl rfl (Nat.le_of_ble_eq_true rfl) (by decide +kernel) (by decide +kernel) rfl d248_58 ?_
        refine x_goto (pc := 61) (tgt := 65) d248_61 (by decide) ?_
        refine x_iret (pc := 65) rfl (fun _ => rfl) d248_65 ?_
        exact rq_t h tK g9 rfl (by rw [if_pos (by omega)])
  · refine x_iconst (pc := 12) d248_12 ?_
    refine x_iret (pc := 13) rfl (fun _ => rfl) d248_13 ?_
    exact rq_f h tK g9 rfl
theorem rt_hasBit (hl : l.1.stackTraces = false) (hq : 192 ≤ q) {A : AV} {c e : Int} (hR : RV (I 182) A) (hA : AI A c e) {f b : Int} (f0 : 0 ≤ f) (f1 : f < A 0 6) (hb : InR b) : DT l 243 [.ref 181, .int (iI f), .int (iI b)] (mm q I v fr) 0 0 (.inl (some (.int (iI (b01 (decide (0 ≤ b ∧ b ≤ 8 * A 6 f - 1)))))), mm q I v fr) := by
  have hr := hA.rg
  have hf := hA.frm f f0 f1
  obtain ⟨hb0, hb1⟩ := hb
  refine mkdt hl (by decide) (Nat.le_of_ble_eq_true rfl) (L := [some (.ref 181), some (.int (iI f)), some (.int (iI b))]) rfl ?_
  refine x_iload_n (pc := 0) rfl d243_0 ?_
  refine x_i2l (pc := 1) ⟨by omega, by omega⟩ d243_1 ?_
  refine x_lconst (pc := 2) (z := 0) (by decide) d243_2 ?_
  refine x_aload_n (pc := 3) rfl d243_3 ?_
  refine x_iload_n (pc := 4) rfl d243_4 ?_
  refine x_cVs (pc := 5) c243_137 (rt_bitsOf hl hq (A := A) hR (f := f) (by omega) (by omega) (by omega)) (xo181 (by omega)) rfl rfl (Nat.le_of_ble_eq_true rfl) (by decide +kernel) (by decide +kernel) rfl d243_5 ?_
  refine x_iconst (pc := 8) d243_8 ?_
  refine x_isub (pc := 9) d243_9 ?_
  refine x_i2l (pc := 10) ⟨by omega, by omega⟩ d243_10 ?_
  refine x_cSs (pc := 11) c243_72 (rt_in hl (a := b) (b := 0) (c := ((8 * A 6 f) - 1)) ⟨by omega, by omega⟩ ⟨by omega, by omega⟩ ⟨by omega, by omega⟩) rfl rfl (Nat.le_of_ble_eq_true rfl) (by decide +kernel) (by decide +kernel) (by decide +kernel) rfl d243_11 ?_
  refine x_zret (pc := 14) rfl (b01_or _) (fun _ => rfl) d243_14 ?_
  first | rfl | (exfalso; omega)
theorem rm244 (hl : l.1.stackTraces = false) (hq : 192 ≤ q) (h : RREL I S) (hS : GOK S) {f : Int} (hf : InR f) {b : Int} (hb : InR b) : CT l 244 [.ref 181, .int (iI f), .int (iI b)] (mm q I v fr) 0 0 (RQ q v fr I (oAsk S (isF S f) (if 0 ≤ b ∧ b < gA S 6 f * 8 then bitZ (SfA (gA S) f) b else -1))) := by
  have hA : AINV (gA S) cB := hS.1
  have hr := hA.rg
  have hcB : cB = 2450880 := rfl
  obtain ⟨hf0, hf1⟩ := id hf
  obtain ⟨hb0, hb1⟩ := id hb
  refine mkct2 hl (by decide) (Nat.le_of_ble_eq_true rfl) (L := [some (.ref 181), some (.int (iI f)), some (.int (iI b))]) rfl ?_
  refine x_aload_n (pc := 0) rfl d244_0 ?_
  refine x_aload_n (pc := 1) rfl d244_1 ?_
  refine x_iload_n (pc := 2) rfl d244_2 ?_
  refine x_cVs (pc := 3) c244_352 (rt_isFrm hl hq (A := (gA S)) h.1 hA (d := f) ⟨by omega, by omega⟩) (xo181 (by omega)) rfl rfl (Nat.le_of_ble_eq_true rfl) (by decide +kernel) (by decide +kernel) rfl d244_3 ?_
  refine x_cVs (pc := 6) c244_198 (rt_passes hl hq (b := (decide (0 ≤ f ∧ f < (gA S) 0 6)))) (xo181 (by omega)) rfl rfl (Nat.le_of_ble_eq_true rfl) (by decide +kernel) (by decide +kernel) rfl d244_6 ?_
  obtain ⟨K, hK⟩ : ∃ Z : Nat → Int → Int, Z = (up2 I 181 6 (b01 (!(decide (0 ≤ f ∧ f < (gA S) 0 6))))) := ⟨_, rfl⟩
  refine x_mem (J := K) (pc := 9) hK ?_
  have tK := TH.of hK
  have hRK := tK.rv h.1
  refine x_ifB_ne (pc := 9) (tgt := 14) d244_9 (by decide) (fun g9 => ?_) (fun g9 => ?_)
  · have b0 := of_decide_eq_true g9
    have hf := hA.frm f b0.1 b0.2
    refine x_aload_n (pc := 14) rfl d244_14 ?_
    refine x_iload_n (pc := 15) rfl d244_15 ?_
    refine x_iload_n (pc := 16) rfl d244_16 ?_
    refine x_cVs (pc := 17) c244_355 (rt_hasBit hl hq (A := (gA S)) hRK hA (f := f) (b := b) (by omega) (by omega) ⟨by omega, by omega⟩) (xo181 (by omega)) rfl rfl (Nat.le_of_ble_eq_true rfl) (by decide +kernel) (by decide +kernel) rfl d244_17 ?_
    refine x_ifB_eq (pc := 20) (tgt := 32) d244_20 (by decide) (fun g20 => ?_) (fun g20 => ?_)
    · refine x_iconst (pc := 32) d244_32 ?_
      refine x_iret (pc := 33) rfl (fun _ => rfl) d244_33 ?_
      have b1 := of_decide_eq_false g20
      exact rq_t h tK g9 rfl (by rw [if_neg (by omega)])
    · have b1 := of_decide_eq_true g20
      refine x_aload_n (pc := 23) rfl d244_23 ?_
      refine x_iload_n (pc := 24) rfl d244_24 ?_
      refine x_iload_n (pc := 25) rfl d244_25 ?_
      refine x_cVs (pc := 26) c244_124 (rt_bit hl hq (A := (gA S)) hRK hA (f := f) (b := b) (by omega) (by omega) (by omega) (by omega)) (xo181 (by omega)) rfl rfl (Nat.le_of_ble_eq_true rfl) (by decide +kernel) (by decide +kernel) rfl d244_26 ?_
      refine x_goto (pc := 29) (tgt := 33) d244_29 (by decide) ?_
      refine x_iret (pc := 33) rfl (fun _ => rfl) d244_33 ?_
      exact rq_t h tK g9 rfl (by rw [if_pos (by omega)])
  · refine x_iconst (pc := 12) d244_12 ?_
    refine x_iret (pc := 13) rfl (fun _ => rfl) d244_13 ?_
    exact rq_f h tK g9 rfl
theorem rm250 (hl : l.1.stackTraces = false) (hq : 192 ≤ q) (h : RREL I S) (hS : GOK S) {b : Int} (hb : InR b) : CT l 250 [.ref 181, .int (iI b)] (mm q I v fr) 0 0 (RQ q v fr I (oAsk S (decide (0 ≤ b ∧ b < 100)) (tkI b (gA S 0 1)))) := by
  have hA : AINV (gA S) cB := hS.1
  have hr := hA.rg
  have hcB : cB = 2450880 := rfl
  obtain ⟨hb0, hb1⟩ := id hb
  refine mkct2 hl (by decide) (Nat.le_of_ble_eq_true rfl) (L := [some (.ref 181), some (.int (iI b))]) rfl ?_
  refine x_aload_n (pc := 0) rfl d250_0 ?_
  refine x_iload_n (pc := 1) rfl d250_1 ?_
  refine x_i2l (pc := 2) ⟨by omega, by omega⟩ d250_2 ?_
  refine x_lconst (pc := 3) (z := 0) (by decide) d250_3 ?_
  refine x_ldc2 (pc := 4) (z := 99) k250_358 (by decide) d250_4 ?_
  refine x_cSs (pc := 7) c250_72 (rt_in hl (a := b) (b := 0) (c := 99) ⟨by omega, by omega⟩ ⟨by omega, by omega⟩ ⟨by omega, by omega⟩) rfl rfl (Nat.le_of_ble_eq_true rfl) (by decide +kernel) (by decide +kernel) (by decide +kernel) rfl d250_7 ?_
  refine x_cVs (pc := 10) c250_198 (rt_passes hl hq (b := (decide (0 ≤ b ∧ b ≤ 99)))) (xo181 (by omega)) rfl rfl (Nat.le_of_ble_eq_true rfl) (by decide +kernel) (by decide +kernel) rfl d250_10 ?_
  obtain ⟨K, hK⟩ : ∃ Z : Nat → Int → Int, Z = (up2 I 181 6 (b01 (!(decide (0 ≤ b ∧ b ≤ 99))))) := ⟨_, rfl⟩
  refine x_mem (J := K) (pc := 13) hK ?_
  have tK := TH.of hK
  have hRK := tK.rv h.1
  refine x_ifB_eq (pc := 13) (tgt := 24) d250_13 (by decide) (fun g13 => ?_) (fun g13 => ?_)
  · refine x_iconst (pc := 24) d250_24 ?_
    refine x_iret (pc := 25) rfl (fun _ => rfl) d250_25 ?_
    exact rq_f h tK g13 (decide_eq_decide.mpr (by omega))
  · have b0 := of_decide_eq_true g13
    refine x_aload_n (pc := 16) rfl d250_16 ?_
    refine x_iload_n (pc := 17) rfl d250_17 ?_
    refine x_cVs (pc := 18) c250_134 (rt_tkI hl hq (A := (gA S)) hRK hA (b := b) (by omega) (by omega)) (xo181 (by omega)) rfl rfl (Nat.le_of_ble_eq_true rfl) (by decide +kernel) (by decide +kernel) rfl d250_18 ?_
    refine x_goto (pc := 21) (tgt := 25) d250_21 (by decide) ?_
    refine x_iret (pc := 25) rfl (fun _ => rfl) d250_25 ?_
    exact rq_t h tK g13 (decide_eq_decide.mpr (by omega)) rfl
theorem rm232 (hl : l.1.stackTraces = false) (hq : 192 ≤ q) (h : RREL I S) (hS : GOK S) {t : Int} (ht : InR t) : CT l 232 [.ref 181, .int (iI t)] (mm q I v fr) 0 0 (RQ q v fr I (oAsk S (isT t) (b01 (chewA (gA S) t)))) := by
  have hA : AINV (gA S) cB := hS.1
  have hr := hA.rg
  have hcB : cB = 2450880 := rfl
  obtain ⟨ht0, ht1⟩ := id ht
  refine mkct2 hl (by decide) (Nat.le_of_ble_eq_true rfl) (L := [some (.ref 181), some (.int (iI t))]) rfl ?_
  refine x_aload_n (pc := 0) rfl d232_0 ?_
  refine x_iload_n (pc := 1) rfl d232_1 ?_
  refine x_cSs (pc := 2) c232_347 (rt_isTick hl (d := t) ⟨by omega, by omega⟩) rfl rfl (Nat.le_of_ble_eq_true rfl) (by decide +kernel) (by decide +kernel) (by decide +kernel) rfl d232_2 ?_
  refine x_cVs (pc := 5) c232_198 (rt_passes hl hq (b := (decide (0 ≤ t ∧ t ≤ 999999)))) (xo181 (by omega)) rfl rfl (Nat.le_of_ble_eq_true rfl) (by decide +kernel) (by decide +kernel) rfl d232_5 ?_
  obtain ⟨K, hK⟩ : ∃ Z : Nat → Int → Int, Z = (up2 I 181 6 (b01 (!(decide (0 ≤ t ∧ t ≤ 999999))))) := ⟨_, rfl⟩
  refine x_mem (J := K) (pc := 8) hK ?_
  have tK := TH.of hK
  have hRK := tK.rv h.1
  refine x_ifB_eq (pc := 8) (tgt := 23) d232_8 (by decide) (fun g8 => ?_) (fun g8 => ?_)
  · refine x_iconst (pc := 23) d232_23 ?_
    refine x_zret (pc := 24) rfl (Or.inl rfl) (fun _ => rfl) d232_24 ?_
    exact rq_f h tK g8 rfl
  · have b0 := of_decide_eq_true g8
    refine x_aload_n (pc := 11) rfl d232_11 ?_
    refine x_iload_n (pc := 12) rfl d232_12 ?_
    refine x_cVs (pc := 13) c232_120 (rt_chewed hl hq (A := (gA S)) hRK hA (t := t) (by omega) (by omega)) (xo181 (by omega)) rfl rfl (Nat.le_of_ble_eq_true rfl) (by decide +kernel) (by decide +kernel) rfl d232_13 ?_
    refine x_ifB_eq (pc := 16) (tgt := 23) d232_16 (by decide) (fun g16 => ?_) (fun g16 => ?_)
    · refine x_iconst (pc := 23) d232_23 ?_
      refine x_zret (pc := 24) rfl (Or.inl rfl) (fun _ => rfl) d232_24 ?_
      exact rq_t h tK g8 rfl (by rw [g16]; rfl)
    · refine x_iconst (pc := 19) d232_19 ?_
      refine x_goto (pc := 20) (tgt := 24) d232_20 (by decide) ?_
      refine x_zret (pc := 24) rfl (Or.inr rfl) (fun _ => rfl) d232_24 ?_
      exact rq_t h tK g8 rfl (by rw [g16]; rfl)
theorem rt_pf (hl : l.1.stackTraces = false) (hq : 192 ≤ q) {A : AV} {c e : Int} (hR : RV (I 182) A) (hA : AI A c e) {f t : Int} (hf : InR f) (ht : InR t) : DT l 252 [.ref 181, .int (iI f), .int (iI t)] (mm q I v fr) 0 0 (.inl (some (.int (iI (b01 (decide (0 ≤ f ∧ f < A 0 6) && decide (0 ≤ t ∧ t ≤ 999999)))))), mm q (up2 I 181 6 (th2 (decide (0 ≤ f ∧ f < A 0 6)) (decide (0 ≤ t ∧ t ≤ 999999)))) v fr) := by
  obtain ⟨hf0, hf1⟩ := hf
  obtain ⟨ht0, ht1⟩ := ht
  refine mkdt hl (by decide) (Nat.le_of_ble_eq_true rfl) (L := [some (.ref 181), some (.int (iI f)), some (.int (iI t))]) rfl ?_
  refine x_aload_n (pc := 0) rfl d252_0 ?_
  refine x_aload_n (pc := 1) rfl d252_1 ?_
  refine x_iload_n (pc := 2) rfl d252_2 ?_
  refine x_cVs (pc := 3) c252_352 (rt_isFrm hl hq (A := A) hR hA (d := f) ⟨by omega, by omega⟩) (xo181 (by omega)) rfl rfl (Nat.le_of_ble_eq_true rfl) (by decide +kernel) (by decide +kernel) rfl d252_3 ?_
  refine x_iload_n (pc := 6) rfl d252_6 ?_
  refine x_cSs (pc := 7) c252_347 (rt_isTick hl (d := t) ⟨by omega, by omega⟩) rfl rfl (Nat.le_of_ble_eq_true rfl) (by decide +kernel) (by decide +kernel) (by decide +kernel) rfl d252_7 ?_
  refine x_cVs (pc := 10) c252_360 (rt_passes2 hl hq (a := (decide (0 ≤ f ∧ f < A 0 6))) (b := (decide (0 ≤ t ∧ t ≤ 999999)))) (xo181 (by omega)) rfl rfl (Nat.le_of_ble_eq_true rfl) (by decide +kernel) (by decide +kernel) rfl d252_10 ?_
  refine x_zret (pc := 13) rfl (b01_or _) (fun _ => rfl) d252_13 ?_
  first | rfl | (exfalso; omega)
theorem rm253 (hl : l.1.stackTraces = false) (hq : 192 ≤ q) (h : RREL I S) (hS : GOK S) {f : Int} (hf : InR f) {b : Int} (hb : InR b) {t : Int} (ht : InR t) : CT l 253 [.ref 181, .int (iI f), .int (iI b), .int (iI t)] (mm q I v fr) 0 0 (RQ q v fr I (oAsk2 S (isF S f) (isT t) (if 0 ≤ b ∧ b < gA S 6 f * 8 then takB (gA S) f t b else -1))) := by
  have hA : AINV (gA S) cB := hS.1
  have hr := hA.rg
  have hcB : cB = 2450880 := rfl
  obtain ⟨hf0, hf1⟩ := id hf
  obtain ⟨hb0, hb1⟩ := id hb
  obtain ⟨ht0, ht1⟩ := id ht
  refine mkct2 hl (by decide) (Nat.le_of_ble_eq_true rfl) (L := [some (.ref 181), some (.int (iI f)), some (.int (iI b)), some (.int (iI t))]) rfl ?_
  refine x_aload_n (pc := 0) rfl d253_0 ?_
  refine x_iload_n (pc := 1) rfl d253_1 ?_
  refine x_iload_n (pc := 2) rfl d253_2 ?_
  refine x_cVs (pc := 3) c253_364 (rt_pf hl hq (A := (gA S)) h.1 hA (f := f) (t := t) ⟨by omega, by omega⟩ ⟨by omega, by omega⟩) (xo181 (by omega)) rfl rfl (Nat.le_of_ble_eq_true rfl) (by decide +kernel) (by decide +kernel) rfl d253_3 ?_
  obtain ⟨K, hK⟩ : ∃ Z : Nat → Int → Int, Z = (up2 I 181 6 (th2 (decide (0 ≤ f ∧ f < (gA S) 0 6)) (decide (0 ≤ t ∧ t ≤ 999999)))) := ⟨_, rfl⟩
  refine x_mem (J := K) (pc := 6) hK ?_
  have tK := TH.of hK
  have hRK := tK.rv h.1
  refine x_ifB_ne (pc := 6) (tgt := 11) d253_6 (by decide) (fun g6 => ?_) (fun g6 => ?_)
  · have b0 := of_decide_eq_true (Bool.and_eq_true_iff.mp g6).1
    have b1 := of_decide_eq_true (Bool.and_eq_true_iff.mp g6).2
    have hf := hA.frm f b0.1 b0.2
    refine x_aload_n (pc := 11) rfl d253_11 ?_
    refine x_iload_n (pc := 12) rfl d253_12 ?_
    refine x_iload_n (pc := 13) rfl d253_13 ?_
    refine x_cVs (pc := 14) c253_355 (rt_hasBit hl hq (A := (gA S)) hRK hA (f := f) (b := b) (by omega) (by omega) ⟨by omega, by omega⟩) (xo181 (by omega)) rfl rfl (Nat.le_of_ble_eq_true rfl) (by decide +kernel) (by decide +kernel) rfl d253_14 ?_
    refine x_ifB_eq (pc := 17) (tgt := 30) d253_17 (by decide) (fun g17 => ?_) (fun g17 => ?_)
    · refine x_iconst (pc := 30) d253_30 ?_
      refine x_iret (pc := 31) rfl (fun _ => rfl) d253_31 ?_
      have b2 := of_decide_eq_false g17
      exact rq2_t h tK g6 rfl rfl (by rw [if_neg (by omega)])
    · have b2 := of_decide_eq_true g17
      refine x_aload_n (pc := 20) rfl d253_20 ?_
      refine x_iload_n (pc := 21) rfl d253_21 ?_
      refine x_iload_n (pc := 22) rfl d253_22 ?_
      refine x_iload_n (pc := 23) rfl d253_23 ?_
      refine x_cVs (pc := 24) c253_144 (rt_recv hl hq (A := (gA S)) hRK hA (f := f) (b := b) (t := t) (by omega) (by omega) (by omega) (by omega) (by omega) (by omega)) (xo181 (by omega)) rfl rfl (Nat.le_of_ble_eq_true rfl) (by decide +kernel) (by decide +kernel) rfl d253_24 ?_
      refine x_goto (pc := 27) (tgt := 31) d253_27 (by decide) ?_
      refine x_iret (pc := 31) rfl (fun _ => rfl) d253_31 ?_
      exact rq2_t h tK g6 rfl rfl (by rw [if_pos (by omega)]; unfold takB tkA; rw [Int.mul_comm 8])
  · refine x_iconst (pc := 9) d253_9 ?_
    refine x_iret (pc := 10) rfl (fun _ => rfl) d253_10 ?_
    exact rq2_f h tK g6 rfl fun _ => rfl
theorem rm257 (hl : l.1.stackTraces = false) (hq : 192 ≤ q) (h : RREL I S) (hS : GOK S) {f : Int} (hf : InR f) {t : Int} (ht : InR t) : CT l 257 [.ref 181, .int (iI f), .int (iI t)] (mm q I v fr) 0 0 (RQ q v fr I (oAsk2 S (isF S f) (isT t) (resA (gA S) f t (gA S 0 0)))) := by
  have hA : AINV (gA S) cB := hS.1
  have hr := hA.rg
  have hcB : cB = 2450880 := rfl
  obtain ⟨hf0, hf1⟩ := id hf
  obtain ⟨ht0, ht1⟩ := id ht
  refine mkct2 hl (by decide) (Nat.le_of_ble_eq_true rfl) (L := [some (.ref 181), some (.int (iI f)), some (.int (iI t))]) rfl ?_
  refine x_aload_n (pc := 0) rfl d257_0 ?_
  refine x_iload_n (pc := 1) rfl d257_1 ?_
  refine x_iload_n (pc := 2) rfl d257_2 ?_
  refine x_cVs (pc := 3) c257_364 (rt_pf hl hq (A := (gA S)) h.1 hA (f := f) (t := t) ⟨by omega, by omega⟩ ⟨by omega, by omega⟩) (xo181 (by omega)) rfl rfl (Nat.le_of_ble_eq_true rfl) (by decide +kernel) (by decide +kernel) rfl d257_3 ?_
  obtain ⟨K, hK⟩ : ∃ Z : Nat → Int → Int, Z = (up2 I 181 6 (th2 (decide (0 ≤ f ∧ f < (gA S) 0 6)) (decide (0 ≤ t ∧ t ≤ 999999)))) := ⟨_, rfl⟩
  refine x_mem (J := K) (pc := 6) hK ?_
  have tK := TH.of hK
  have hRK := tK.rv h.1
  refine x_ifB_eq (pc := 6) (tgt := 18) d257_6 (by decide) (fun g6 => ?_) (fun g6 => ?_)
  · refine x_iconst (pc := 18) d257_18 ?_
    refine x_iret (pc := 19) rfl (fun _ => rfl) d257_19 ?_
    exact rq2_f h tK g6 rfl fun _ => rfl
  · have b0 := of_decide_eq_true (Bool.and_eq_true_iff.mp g6).1
    have b1 := of_decide_eq_true (Bool.and_eq_true_iff.mp g6).2
    have hf := hA.frm f b0.1 b0.2
    refine x_aload_n (pc := 9) rfl d257_9 ?_
    refine x_iload_n (pc := 10) rfl d257_10 ?_
    refine x_iload_n (pc := 11) rfl d257_11 ?_
    refine x_cVes (pc := 12) c257_370 (rt_res hl hq (A := (gA S)) hRK hA (f := f) (t := t) (by omega) (by omega) (by omega) (by omega)) (xo181 (by omega)) rfl rfl (Nat.le_of_ble_eq_true rfl) (by decide +kernel) (by decide +kernel) d257_12 (fun J1 hJ1 => ?_)
    refine x_goto (pc := 15) (tgt := 19) d257_15 (by decide) ?_
    refine x_iret (pc := 19) rfl (fun _ => rfl) d257_19 ?_
    exact rq2_t h (tK.res hJ1) g6 rfl rfl rfl
theorem rm211 (hl : l.1.stackTraces = false) (hq : 192 ≤ q) (h : RREL I S) (hS : GOK S) : CT l 211 [.ref 181] (mm q I v fr) 0 0 (RQ q v fr I (0, gE S, S)) := by
  have hA : AINV (gA S) cB := hS.1
  have hr := hA.rg
  have hcB : cB = 2450880 := rfl
  refine mkct2 hl (by decide) (Nat.le_of_ble_eq_true rfl) (L := [some (.ref 181)]) rfl ?_
  refine x_aload_n (pc := 0) rfl d211_0 ?_
  refine x_iconst (pc := 1) d211_1 ?_
  refine m_putI (pc := 2) (z := 6) f211_65 (by decide +kernel) (by decide +kernel) rfl (xo181 (by omega)) d211_2 ?_
  refine x_aload_n (pc := 5) rfl d211_5 ?_
  refine m_getW (pc := 6) (z := 18) (w := (I 181 18)) f211_238 (by decide +kernel) rfl (xo181 (by omega)) (by rw [up2_i (by decide)]) d211_6 ?_
  refine x_val (pc := 9) (w := (gE S)) (h.2.2.2.2.1.1) ?_
  refine x_iret (pc := 9) rfl (fun _ => rfl) d211_9 ?_
  exact rq_0 h TH.mk rfl
theorem rm212 (hl : l.1.stackTraces = false) (hq : 192 ≤ q) (h : RREL I S) (hS : GOK S) : CT l 212 [.ref 181] (mm q I v fr) 0 0 (RQ q v fr I (0, gP S, S)) := by
  have hA : AINV (gA S) cB := hS.1
  have hr := hA.rg
  have hcB : cB = 2450880 := rfl
  refine mkct2 hl (by decide) (Nat.le_of_ble_eq_true rfl) (L := [some (.ref 181)]) rfl ?_
  refine x_aload_n (pc := 0) rfl d212_0 ?_
  refine x_iconst (pc := 1) d212_1 ?_
  refine m_putI (pc := 2) (z := 6) f212_65 (by decide +kernel) (by decide +kernel) rfl (xo181 (by omega)) d212_2 ?_
  refine x_aload_n (pc := 5) rfl d212_5 ?_
  refine m_getW (pc := 6) (z := 19) (w := (I 181 19)) f212_34 (by decide +kernel) rfl (xo181 (by omega)) (by rw [up2_i (by decide)]) d212_6 ?_
  refine x_val (pc := 9) (w := (gP S)) (h.2.2.2.2.1.2) ?_
  refine x_iret (pc := 9) rfl (fun _ => rfl) d212_9 ?_
  exact rq_0 h TH.mk rfl
end Rask
