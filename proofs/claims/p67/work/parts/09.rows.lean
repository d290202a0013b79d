/-! ===== rows: an instruction each ===== -/
section Rows1
variable {l : LX} {y k n pc : Nat} {L : LL} {st : List Value} {σ : MM} {Q : OO → Prop}
/-- an instruction that touches the stack alone -/
theorem x_go {pc2 : Nat} {st2 : List Value} (h : ∀ (G : GG) (p : Program) (e : Env) (R : Room) (s : State) (m : MethodId) (args : Array Value) (below : List Frame) (meth : Method) (c : Code) (Qf : State → Prop) (H : Heap) (locs : List Loc) (cells slots : Nat) (ls : Array Slot), p.tables.exec = Jvm.exec → c.code = cdN y → LR G ls (mlN y) L →
    W p l.1 e R s m args below meth c H locs cells slots Qf (F0 m pc2 ls (cvs G st2)) → W p l.1 e R s m args below meth c H locs cells slots Qf (F0 m pc ls (cvs G st))) (kk : Ex l y k n pc2 L st2 σ Q) : Ex l y k n pc L st σ Q := by
  intro G p e R s m args below meth c A CE SE Qf hA hC hS hF H locs cells slots ls h1 h2 hL hW hR
  exact h G p e R s m args below meth c Qf H locs cells slots ls hA.2.1 hA.2.2.1 hL (kk G p e R s m args below meth c A CE SE Qf hA hC hS hF H locs cells slots ls h1 h2 hL hW hR)
theorem x_eq {st2 : List Value} (h : st = st2) (kk : Ex l y k n pc L st2 σ Q) : Ex l y k n pc L st σ Q := h ▸ kk
/-- fewer locals known -/
theorem x_forget {L2 : LL} (hl : L2.length = L.length) (h : ∀ (i : Nat) (v : Value), L2[i]? = some (some v) → L[i]? = some (some v)) (kk : Ex l y k n pc L2 st σ Q) : Ex l y k n pc L st σ Q := by
  intro G p e R s m args below meth c A CE SE Qf hA hC hS hF H locs cells slots ls h1 h2 hL hW hR
  exact kk G p e R s m args below meth c A CE SE Qf hA hC hS hF H locs cells slots ls h1 h2 ⟨hL.1, hL.2.1, hl.trans hL.2.2.1, fun i v hi => hL.2.2.2 i v (h i v hi)⟩ hW hR
/-- fewer cells made than allowed, where none is counted any more -/
theorem x_less {k2 n2 : Nat} (hk : k2 ≤ k) (hn : n2 ≤ n) (hf : σ.2.2.2.2.2 = false) (kk : Ex l y k2 n2 pc L st σ Q) : Ex l y k n pc L st σ Q := by
  intro G p e R s m args below meth c A CE SE Qf hA hC hS hF H locs cells slots ls h1 h2 hL hW hR
  refine W.widen (k := cells + (k - k2)) (n := slots + (n - n2)) (by omega) (by omega) ?_
  exact kk G p e R s m args below meth c A CE SE Qf hA hC hS hF H locs _ _ ls (by omega) (by omega) hL hW (fun z => by rw [hf] at z; cases z)
/-- cells are no longer counted -/
def unf (σ : MM) : MM := (σ.1, σ.2.1, σ.2.2.1, σ.2.2.2.1, σ.2.2.2.2.1, false)
theorem x_unf (kk : Ex l y k n pc L st (unf σ) Q) : Ex l y k n pc L st σ Q := by
  intro G p e R s m args below meth c A CE SE Qf hA hC hS hF H locs cells slots ls h1 h2 hL hW hR
  exact kk G p e R s m args below meth c A CE SE Qf hA hC hS hF H locs cells slots ls h1 h2 hL hW (fun z => by cases z)
theorem x_mono {Q2 : OO → Prop} (hQ : ∀ o, Q2 o → Q o) (kk : Ex l y k n pc L st σ Q2) : Ex l y k n pc L st σ Q := by
  intro G p e R s m args below meth c A CE SE Qf hA hC hS hF
  exact kk G p e R s m args below meth c A CE SE Qf hA hC hS ⟨fun H locs cells slots pc ls v τ a1 a2 a3 a4 a5 a6 => hF.1 H locs cells slots pc ls v τ a1 a2 a3 a4 a5 (hQ _ a6), fun H locs cells slots pc ls rest τ E r a1 a2 a3 a4 a5 a6 a7 a8 a9 b1 => hF.2.1 H locs cells slots pc ls rest τ E r a1 a2 a3 a4 a5 a6 a7 a8 a9 (hQ _ b1), fun H locs cells slots pc ls rest τ E q ce a1 a2 a3 a4 a5 a6 => hF.2.2 H locs cells slots pc ls rest τ E q ce a1 a2 a3 a4 a5 (hQ _ a6)⟩
theorem x_iconst {i : Int} (hd : decode (cdN y) pc = .ok (.iconst i, 1)) (kk : Ex l y k n (pc + 1) L (.int (iI i) :: st) σ Q) : Ex l y k n pc L (st) σ Q :=
  x_go (fun G p e R s m args below meth c Qf H locs cells slots ls hx hb hL hk => lv_iconst hx hb hd rfl hk) kk
theorem x_bipush {i : Int} (hv : (Int8.ofInt i).toInt32 = iI i) (hd : decode (cdN y) pc = .ok (.bipush i, 2)) (kk : Ex l y k n (pc + 2) L (.int (iI i) :: st) σ Q) : Ex l y k n pc L (st) σ Q :=
  x_go (fun G p e R s m args below meth c Qf H locs cells slots ls hx hb hL hk => lv_bipush hx hb hd hv hk) kk
theorem x_sipush {i : Int} (hv : (Int16.ofInt i).toInt32 = iI i) (hd : decode (cdN y) pc = .ok (.sipush i, 3)) (kk : Ex l y k n (pc + 3) L (.int (iI i) :: st) σ Q) : Ex l y k n pc L (st) σ Q :=
  x_go (fun G p e R s m args below meth c Qf H locs cells slots ls hx hb hL hk => lv_sipush hx hb hd hv hk) kk
theorem x_lconst {i : Fin 2} {z : Int} (hv : Int64.ofNat i = lL z) (hd : decode (cdN y) pc = .ok (.lconst i, 1)) (kk : Ex l y k n (pc + 1) L (.long (lL z) :: st) σ Q) : Ex l y k n pc L (st) σ Q :=
  x_go (fun G p e R s m args below meth c Qf H locs cells slots ls hx hb hL hk => lv_lconst hx hb hd hv hk) kk
theorem x_iload_n {i : Fin 4} {x : Int32} (hl : L[(i : Nat)]? = some (some (.int x))) (hd : decode (cdN y) pc = .ok (.iload_n i, 1)) (kk : Ex l y k n (pc + 1) L (.int x :: st) σ Q) : Ex l y k n pc L (st) σ Q :=
  x_go (fun G p e R s m args below meth c Qf H locs cells slots ls hx hb hL hk => lv_iload_n hx hb hd rfl (hL.at hl) hk) kk
theorem x_iload {i : Nat} {x : Int32} (hl : L[i]? = some (some (.int x))) (hd : decode (cdN y) pc = .ok (.iload i, 2)) (kk : Ex l y k n (pc + 2) L (.int x :: st) σ Q) : Ex l y k n pc L (st) σ Q :=
  x_go (fun G p e R s m args below meth c Qf H locs cells slots ls hx hb hL hk => lv_iload hx hb hd (hL.at hl) hk) kk
theorem x_lload_n {i : Fin 4} {x : Int64} (hl : L[(i : Nat)]? = some (some (.long x))) (hd : decode (cdN y) pc = .ok (.lload_n i, 1)) (kk : Ex l y k n (pc + 1) L (.long x :: st) σ Q) : Ex l y k n pc L (st) σ Q :=
  x_go (fun G p e R s m args below meth c Qf H locs cells slots ls hx hb hL hk => lv_lload_n hx hb hd rfl (hL.at hl) hk) kk
theorem x_lload {i : Nat} {x : Int64} (hl : L[i]? = some (some (.long x))) (hd : decode (cdN y) pc = .ok (.lload i, 2)) (kk : Ex l y k n (pc + 2) L (.long x :: st) σ Q) : Ex l y k n pc L (st) σ Q :=
  x_go (fun G p e R s m args below meth c Qf H locs cells slots ls hx hb hL hk => lv_lload hx hb hd (hL.at hl) hk) kk
theorem x_dload {i : Nat} {x : UInt64} (hl : L[i]? = some (some (.double x))) (hd : decode (cdN y) pc = .ok (.dload i, 2)) (kk : Ex l y k n (pc + 2) L (.double x :: st) σ Q) : Ex l y k n pc L (st) σ Q :=
  x_go (fun G p e R s m args below meth c Qf H locs cells slots ls hx hb hL hk => lv_dload hx hb hd (hL.at hl) hk) kk
theorem x_aload_n {i : Fin 4} {x : Nat} (hl : L[(i : Nat)]? = some (some (.ref x))) (hd : decode (cdN y) pc = .ok (.aload_n i, 1)) (kk : Ex l y k n (pc + 1) L (.ref x :: st) σ Q) : Ex l y k n pc L (st) σ Q :=
  x_go (fun G p e R s m args below meth c Qf H locs cells slots ls hx hb hL hk => lv_aload_n hx hb hd rfl (hL.at hl) hk) kk
theorem x_aload {i : Nat} {x : Nat} (hl : L[i]? = some (some (.ref x))) (hd : decode (cdN y) pc = .ok (.aload i, 2)) (kk : Ex l y k n (pc + 2) L (.ref x :: st) σ Q) : Ex l y k n pc L (st) σ Q :=
  x_go (fun G p e R s m args below meth c Qf H locs cells slots ls hx hb hL hk => lv_aload hx hb hd (hL.at hl) hk) kk
theorem x_iadd {a b : Int} (hd : decode (cdN y) pc = .ok (.iadd, 1)) (kk : Ex l y k n (pc + 1) L (.int (iI (a + b)) :: st) σ Q) : Ex l y k n pc L (.int (iI b) :: .int (iI a) :: st) σ Q :=
  x_go (fun G p e R s m args below meth c Qf H locs cells slots ls hx hb hL hk => lv_iadd hx hb hd (by rw [iI_add]; exact hk)) kk
theorem x_isub {a b : Int} (hd : decode (cdN y) pc = .ok (.isub, 1)) (kk : Ex l y k n (pc + 1) L (.int (iI (a - b)) :: st) σ Q) : Ex l y k n pc L (.int (iI b) :: .int (iI a) :: st) σ Q :=
  x_go (fun G p e R s m args below meth c Qf H locs cells slots ls hx hb hL hk => lv_isub hx hb hd (by rw [iI_sub]; exact hk)) kk
theorem x_imul {a b : Int} (hd : decode (cdN y) pc = .ok (.imul, 1)) (kk : Ex l y k n (pc + 1) L (.int (iI (a * b)) :: st) σ Q) : Ex l y k n pc L (.int (iI b) :: .int (iI a) :: st) σ Q :=
  x_go (fun G p e R s m args below meth c Qf H locs cells slots ls hx hb hL hk => lv_imul hx hb hd (by rw [iI_mul]; exact hk)) kk
theorem x_iand {a b : Int32} {z : Int} (hv : a &&& b = iI z) (hd : decode (cdN y) pc = .ok (.iand, 1)) (kk : Ex l y k n (pc + 1) L (.int (iI z) :: st) σ Q) : Ex l y k n pc L (.int b :: .int a :: st) σ Q :=
  x_go (fun G p e R s m args below meth c Qf H locs cells slots ls hx hb hL hk => lv_iand hx hb hd (by rw [hv]; exact hk)) kk
theorem x_ixor {a b : Int32} {z : Int} (hv : a ^^^ b = iI z) (hd : decode (cdN y) pc = .ok (.ixor, 1)) (kk : Ex l y k n (pc + 1) L (.int (iI z) :: st) σ Q) : Ex l y k n pc L (.int b :: .int a :: st) σ Q :=
  x_go (fun G p e R s m args below meth c Qf H locs cells slots ls hx hb hL hk => lv_ixor hx hb hd (by rw [hv]; exact hk)) kk
theorem x_ior {a b : Int32} {z : Int} (hv : a ||| b = iI z) (hd : decode (cdN y) pc = .ok (.ior, 1)) (kk : Ex l y k n (pc + 1) L (.int (iI z) :: st) σ Q) : Ex l y k n pc L (.int b :: .int a :: st) σ Q :=
  x_go (fun G p e R s m args below meth c Qf H locs cells slots ls hx hb hL hk => lv_ior hx hb hd (by rw [hv]; exact hk)) kk
theorem x_idiv {a b : Int} (h1 : 0 ≤ a) (h2 : a ≤ 2147483647) (h3 : 0 < b) (h4 : b ≤ 2147483647) (hd : decode (cdN y) pc = .ok (.idiv, 1)) (kk : Ex l y k n (pc + 1) L (.int (iI (a / b)) :: st) σ Q) : Ex l y k n pc L (.int (iI b) :: .int (iI a) :: st) σ Q :=
  x_go (fun G p e R s m args below meth c Qf H locs cells slots ls hx hb hL hk => lv_idiv hx hb hd (iI_ne0 h3 h4) (by rw [iI_div h1 h2 h3 h4]; exact hk)) kk
theorem x_irem {a b : Int} (h1 : 0 ≤ a) (h2 : a ≤ 2147483647) (h3 : 0 < b) (h4 : b ≤ 2147483647) (hd : decode (cdN y) pc = .ok (.irem, 1)) (kk : Ex l y k n (pc + 1) L (.int (iI (a % b)) :: st) σ Q) : Ex l y k n pc L (.int (iI b) :: .int (iI a) :: st) σ Q :=
  x_go (fun G p e R s m args below meth c Qf H locs cells slots ls hx hb hL hk => lv_irem hx hb hd (iI_ne0 h3 h4) (by rw [iI_rem h1 h2 h3 h4]; exact hk)) kk
theorem x_ishl {a b : Int32} {z : Int} (hv : a <<< (b &&& 31) = iI z) (hd : decode (cdN y) pc = .ok (.ishl, 1)) (kk : Ex l y k n (pc + 1) L (.int (iI z) :: st) σ Q) : Ex l y k n pc L (.int b :: .int a :: st) σ Q :=
  x_go (fun G p e R s m args below meth c Qf H locs cells slots ls hx hb hL hk => lv_ishl hx hb hd (by rw [hv]; exact hk)) kk
theorem x_ishr {a b : Int32} {z : Int} (hv : a >>> (b &&& 31) = iI z) (hd : decode (cdN y) pc = .ok (.ishr, 1)) (kk : Ex l y k n (pc + 1) L (.int (iI z) :: st) σ Q) : Ex l y k n pc L (.int b :: .int a :: st) σ Q :=
  x_go (fun G p e R s m args below meth c Qf H locs cells slots ls hx hb hL hk => lv_ishr hx hb hd (by rw [hv]; exact hk)) kk
theorem x_iushr {a b : Int32} {z : Int} (hv : (a.toUInt32 >>> (b.toUInt32 &&& Int32.toUInt32 31)).toInt32 = iI z) (hd : decode (cdN y) pc = .ok (.iushr, 1)) (kk : Ex l y k n (pc + 1) L (.int (iI z) :: st) σ Q) : Ex l y k n pc L (.int b :: .int a :: st) σ Q :=
  x_go (fun G p e R s m args below meth c Qf H locs cells slots ls hx hb hL hk => lv_iushr hx hb hd hv hk) kk
theorem x_ladd {a b : Int} (hd : decode (cdN y) pc = .ok (.ladd, 1)) (kk : Ex l y k n (pc + 1) L (.long (lL (a + b)) :: st) σ Q) : Ex l y k n pc L (.long (lL b) :: .long (lL a) :: st) σ Q :=
  x_go (fun G p e R s m args below meth c Qf H locs cells slots ls hx hb hL hk => lv_ladd hx hb hd (by rw [lL_add]; exact hk)) kk
theorem x_i2l {a : Int} (ha : InR a) (hd : decode (cdN y) pc = .ok (.i2l, 1)) (kk : Ex l y k n (pc + 1) L (.long (lL a) :: st) σ Q) : Ex l y k n pc L (.int (iI a) :: st) σ Q :=
  x_go (fun G p e R s m args below meth c Qf H locs cells slots ls hx hb hL hk => lv_i2l hx hb hd (iI_long ha) hk) kk
theorem x_lcmp {a b : Int} (ha : InL a) (hb9 : InL b) (hd : decode (cdN y) pc = .ok (.lcmp, 1)) (kk : Ex l y k n (pc + 1) L (.int (iI (cmpZ a b)) :: st) σ Q) : Ex l y k n pc L (.long (lL b) :: .long (lL a) :: st) σ Q :=
  x_go (fun G p e R s m args below meth c Qf H locs cells slots ls hx hb hL hk => W.lcmp hx hb hd (by rw [lL_cmp ha hb9]; exact hk)) kk
theorem x_fconst (hd : decode (cdN y) pc = .ok (.fconst 0, 1)) (kk : Ex l y k n (pc + 1) L (.float FP.fconst0 :: st) σ Q) : Ex l y k n pc L (st) σ Q :=
  x_go (fun G p e R s m args below meth c Qf H locs cells slots ls hx hb hL hk => lv_fconst0 hx hb hd hk) kk
theorem x_dconst (hd : decode (cdN y) pc = .ok (.dconst 0, 1)) (kk : Ex l y k n (pc + 1) L (.double FP.dconst0 :: st) σ Q) : Ex l y k n pc L (st) σ Q :=
  x_go (fun G p e R s m args below meth c Qf H locs cells slots ls hx hb hL hk => lv_dconst0 hx hb hd hk) kk
theorem x_i2f {a : Int32} (hd : decode (cdN y) pc = .ok (.i2f, 1)) (kk : Ex l y k n (pc + 1) L (.float (FP.i2f a) :: st) σ Q) : Ex l y k n pc L (.int a :: st) σ Q :=
  x_go (fun G p e R s m args below meth c Qf H locs cells slots ls hx hb hL hk => lv_i2f hx hb hd hk) kk
theorem x_i2d {a : Int32} (hd : decode (cdN y) pc = .ok (.i2d, 1)) (kk : Ex l y k n (pc + 1) L (.double (FP.i2d a) :: st) σ Q) : Ex l y k n pc L (.int a :: st) σ Q :=
  x_go (fun G p e R s m args below meth c Qf H locs cells slots ls hx hb hL hk => lv_i2d hx hb hd hk) kk
theorem x_f2d {a : UInt32} (hn : vf_n64 (FP.f2d a)) (hd : decode (cdN y) pc = .ok (.f2d, 1)) (kk : Ex l y k n (pc + 1) L (.double (FP.f2d a) :: st) σ Q) : Ex l y k n pc L (.float a :: st) σ Q :=
  x_go (fun G p e R s m args below meth c Qf H locs cells slots ls hx hb hL hk => lv_f2d hx hb hd hn hk) kk
theorem x_fdiv {a b : UInt32} (hn : vf_n32 (FP.fdiv a b)) (hd : decode (cdN y) pc = .ok (.fdiv, 1)) (kk : Ex l y k n (pc + 1) L (.float (FP.fdiv a b) :: st) σ Q) : Ex l y k n pc L (.float b :: .float a :: st) σ Q :=
  x_go (fun G p e R s m args below meth c Qf H locs cells slots ls hx hb hL hk => lv_fdiv hx hb hd hn hk) kk
theorem x_ddiv {a b : UInt64} (hn : vf_n64 (FP.ddiv a b)) (hd : decode (cdN y) pc = .ok (.ddiv, 1)) (kk : Ex l y k n (pc + 1) L (.double (FP.ddiv a b) :: st) σ Q) : Ex l y k n pc L (.double b :: .double a :: st) σ Q :=
  x_go (fun G p e R s m args below meth c Qf H locs cells slots ls hx hb hL hk => lv_ddiv hx hb hd hn hk) kk
theorem x_dcmp {a b : UInt64} {op : CmpOp} (hd : decode (cdN y) pc = .ok (.dcmp op, 1)) (kk : Ex l y k n (pc + 1) L (.int (Op.cmpValue (FP.dcmp a b) op) :: st) σ Q) : Ex l y k n pc L (.double b :: .double a :: st) σ Q :=
  x_go (fun G p e R s m args below meth c Qf H locs cells slots ls hx hb hL hk => lv_dcmp hx hb hd hk) kk
theorem x_fcmp {a b : UInt32} {op : CmpOp} (hd : decode (cdN y) pc = .ok (.fcmp op, 1)) (kk : Ex l y k n (pc + 1) L (.int (Op.cmpValue (FP.fcmp a b) op) :: st) σ Q) : Ex l y k n pc L (.float b :: .float a :: st) σ Q :=
  x_go (fun G p e R s m args below meth c Qf H locs cells slots ls hx hb hL hk => lv_fcmp hx hb hd hk) kk
theorem x_dup {v : Value} (hv : v.category = 1) (hd : decode (cdN y) pc = .ok (.dup, 1)) (kk : Ex l y k n (pc + 1) L (v :: v :: st) σ Q) : Ex l y k n pc L (v :: st) σ Q :=
  x_go (fun G p e R s m args below meth c Qf H locs cells slots ls hx hb hL hk => lv_dup hx hb hd ((cv_cat G v).trans hv) hk) kk
theorem x_pop {v : Value} (hv : v.category = 1) (hd : decode (cdN y) pc = .ok (.pop, 1)) (kk : Ex l y k n (pc + 1) L (st) σ Q) : Ex l y k n pc L (v :: st) σ Q :=
  x_go (fun G p e R s m args below meth c Qf H locs cells slots ls hx hb hL hk => lv_pop hx hb hd ((cv_cat G v).trans hv) hk) kk
theorem x_dup2 {v w : Value} (hv : v.category = 1) (hw : w.category = 1) (hd : decode (cdN y) pc = .ok (.dup2, 1)) (kk : Ex l y k n (pc + 1) L (v :: w :: v :: w :: st) σ Q) : Ex l y k n pc L (v :: w :: st) σ Q :=
  x_go (fun G p e R s m args below meth c Qf H locs cells slots ls hx hb hL hk => lv_dup2_11 hx hb hd ((cv_cat G v).trans hv) ((cv_cat G w).trans hw) hk) kk
theorem x_goto {off : Int} {tgt : Nat} (hd : decode (cdN y) pc = .ok (.goto off, 3)) (ht : (pc : Int) + off = (tgt : Int)) (kk : Ex l y k n tgt L st σ Q) : Ex l y k n pc L st σ Q :=
  x_go (fun G p e R s m args below meth c Qf H locs cells slots ls hx hb hL hk => lv_goto hx hb hd ht hk) kk
theorem x_ifnull {off : Int} {a : Nat} (hd : decode (cdN y) pc = .ok (.ifnull off, 3)) (kk : Ex l y k n (pc + 3) L st σ Q) : Ex l y k n pc L (.ref a :: st) σ Q :=
  x_go (fun G p e R s m args below meth c Qf H locs cells slots ls hx hb hL hk => lv_ifnull hx hb hd hk) kk
theorem x_tabIn {dflt lo hi off : Int} {offs : Array Int} {len tgt : Nat} {x : Int} (hx9 : InR x) (hd : decode (cdN y) pc = .ok (.tableswitch dflt lo hi offs, len)) (h1 : lo ≤ x) (h2 : x ≤ hi) (ho : offs[(x - lo).toNat]? = some off) (ht : (pc : Int) + off = (tgt : Int)) (kk : Ex l y k n tgt L st σ Q) : Ex l y k n pc L (.int (iI x) :: st) σ Q :=
  x_go (fun G p e R s m args below meth c Qf H locs cells slots ls hx hb hL hk => lv_tableIn hx hb hd (by rw [iI_toInt hx9]; omega) (by rw [iI_toInt hx9]; omega) (by rw [iI_toInt hx9]; exact ho) ht hk) kk
theorem x_tabOut {dflt lo hi : Int} {offs : Array Int} {len tgt : Nat} {x : Int} (hx9 : InR x) (hd : decode (cdN y) pc = .ok (.tableswitch dflt lo hi offs, len)) (h : x < lo ∨ hi < x) (ht : (pc : Int) + dflt = (tgt : Int)) (kk : Ex l y k n tgt L st σ Q) : Ex l y k n pc L (.int (iI x) :: st) σ Q :=
  x_go (fun G p e R s m args below meth c Qf H locs cells slots ls hx hb hL hk => lv_tableOut hx hb hd (by rw [iI_toInt hx9]; exact h) ht hk) kk
theorem x_if_eq {off : Int} {tgt : Nat} {a : Int} (ha : InR a) (hd : decode (cdN y) pc = .ok (.ifCond .eq off, 3)) (ht : (pc : Int) + off = (tgt : Int)) (kt : a = 0 → Ex l y k n tgt L st σ Q) (kf : a ≠ 0 → Ex l y k n (pc + 3) L st σ Q) : Ex l y k n pc L (.int (iI a) :: st) σ Q := by
  intro G p e R s m args below meth c A CE SE Qf hA hC hS hF H locs cells slots ls h1 h2 hL hW hR
  exact lv_if_eq hA.2.1 hA.2.2.1 hd ht (fun h => kt ((iI_eq ha inR_0).mp h) G p e R s m args below meth c A CE SE Qf hA hC hS hF H locs cells slots ls h1 h2 hL hW hR) (fun h => kf (fun z => h ((iI_eq ha inR_0).mpr z)) G p e R s m args below meth c A CE SE Qf hA hC hS hF H locs cells slots ls h1 h2 hL hW hR)
theorem x_icmp_eq {off : Int} {tgt : Nat} {a b : Int} (ha : InR a) (hb : InR b) (hd : decode (cdN y) pc = .ok (.if_icmp .eq off, 3)) (ht : (pc : Int) + off = (tgt : Int)) (kt : a = b → Ex l y k n tgt L st σ Q) (kf : a ≠ b → Ex l y k n (pc + 3) L st σ Q) : Ex l y k n pc L (.int (iI b) :: .int (iI a) :: st) σ Q := by
  intro G p e R s m args below meth c A CE SE Qf hA hC hS hF H locs cells slots ls h1 h2 hL hW hR
  exact lv_icmp_eq hA.2.1 hA.2.2.1 hd ht (fun h => kt ((iI_eq ha hb).mp h) G p e R s m args below meth c A CE SE Qf hA hC hS hF H locs cells slots ls h1 h2 hL hW hR) (fun h => kf (fun z => h ((iI_eq ha hb).mpr z)) G p e R s m args below meth c A CE SE Qf hA hC hS hF H locs cells slots ls h1 h2 hL hW hR)
theorem x_if_ne {off : Int} {tgt : Nat} {a : Int} (ha : InR a) (hd : decode (cdN y) pc = .ok (.ifCond .ne off, 3)) (ht : (pc : Int) + off = (tgt : Int)) (kt : a ≠ 0 → Ex l y k n tgt L st σ Q) (kf : a = 0 → Ex l y k n (pc + 3) L st σ Q) : Ex l y k n pc L (.int (iI a) :: st) σ Q := by
  intro G p e R s m args below meth c A CE SE Qf hA hC hS hF H locs cells slots ls h1 h2 hL hW hR
  exact lv_if_ne hA.2.1 hA.2.2.1 hd ht (fun h => kt (fun z => h ((iI_eq ha inR_0).mpr z)) G p e R s m args below meth c A CE SE Qf hA hC hS hF H locs cells slots ls h1 h2 hL hW hR) (fun h => kf ((iI_eq ha inR_0).mp h) G p e R s m args below meth c A CE SE Qf hA hC hS hF H locs cells slots ls h1 h2 hL hW hR)
theorem x_icmp_ne {off : Int} {tgt : Nat} {a b : Int} (ha : InR a) (hb : InR b) (hd : decode (cdN y) pc = .ok (.if_icmp .ne off, 3)) (ht : (pc : Int) + off = (tgt : Int)) (kt : a ≠ b → Ex l y k n tgt L st σ Q) (kf : a = b → Ex l y k n (pc + 3) L st σ Q) : Ex l y k n pc L (.int (iI b) :: .int (iI a) :: st) σ Q := by
  intro G p e R s m args below meth c A CE SE Qf hA hC hS hF H locs cells slots ls h1 h2 hL hW hR
  exact lv_icmp_ne hA.2.1 hA.2.2.1 hd ht (fun h => kt (fun z => h ((iI_eq ha hb).mpr z)) G p e R s m args below meth c A CE SE Qf hA hC hS hF H locs cells slots ls h1 h2 hL hW hR) (fun h => kf ((iI_eq ha hb).mp h) G p e R s m args below meth c A CE SE Qf hA hC hS hF H locs cells slots ls h1 h2 hL hW hR)
theorem x_if_lt {off : Int} {tgt : Nat} {a : Int} (ha : InR a) (hd : decode (cdN y) pc = .ok (.ifCond .lt off, 3)) (ht : (pc : Int) + off = (tgt : Int)) (kt : a < 0 → Ex l y k n tgt L st σ Q) (kf : 0 ≤ a → Ex l y k n (pc + 3) L st σ Q) : Ex l y k n pc L (.int (iI a) :: st) σ Q := by
  intro G p e R s m args below meth c A CE SE Qf hA hC hS hF H locs cells slots ls h1 h2 hL hW hR
  exact lv_if_lt hA.2.1 hA.2.2.1 hd ht (fun h => kt ((iI_lt ha inR_0).mp h) G p e R s m args below meth c A CE SE Qf hA hC hS hF H locs cells slots ls h1 h2 hL hW hR) (fun h => kf (Int.not_lt.mp (fun z => h ((iI_lt ha inR_0).mpr z))) G p e R s m args below meth c A CE SE Qf hA hC hS hF H locs cells slots ls h1 h2 hL hW hR)
theorem x_icmp_lt {off : Int} {tgt : Nat} {a b : Int} (ha : InR a) (hb : InR b) (hd : decode (cdN y) pc = .ok (.if_icmp .lt off, 3)) (ht : (pc : Int) + off = (tgt : Int)) (kt : a < b → Ex l y k n tgt L st σ Q) (kf : b ≤ a → Ex l y k n (pc + 3) L st σ Q) : Ex l y k n pc L (.int (iI b) :: .int (iI a) :: st) σ Q := by
  intro G p e R s m args below meth c A CE SE Qf hA hC hS hF H locs cells slots ls h1 h2 hL hW hR
  exact lv_icmp_lt hA.2.1 hA.2.2.1 hd ht (fun h => kt ((iI_lt ha hb).mp h) G p e R s m args below meth c A CE SE Qf hA hC hS hF H locs cells slots ls h1 h2 hL hW hR) (fun h => kf (Int.not_lt.mp (fun z => h ((iI_lt ha hb).mpr z))) G p e R s m args below meth c A CE SE Qf hA hC hS hF H locs cells slots ls h1 h2 hL hW hR)
theorem x_if_ge {off : Int} {tgt : Nat} {a : Int} (ha : InR a) (hd : decode (cdN y) pc = .ok (.ifCond .ge off, 3)) (ht : (pc : Int) + off = (tgt : Int)) (kt : 0 ≤ a → Ex l y k n tgt L st σ Q) (kf : a < 0 → Ex l y k n (pc + 3) L st σ Q) : Ex l y k n pc L (.int (iI a) :: st) σ Q := by
  intro G p e R s m args below meth c A CE SE Qf hA hC hS hF H locs cells slots ls h1 h2 hL hW hR
  exact lv_if_ge hA.2.1 hA.2.2.1 hd ht (fun h => kt ((iI_le inR_0 ha).mp h) G p e R s m args below meth c A CE SE Qf hA hC hS hF H locs cells slots ls h1 h2 hL hW hR) (fun h => kf (Int.not_le.mp (fun z => h ((iI_le inR_0 ha).mpr z))) G p e R s m args below meth c A CE SE Qf hA hC hS hF H locs cells slots ls h1 h2 hL hW hR)
theorem x_icmp_ge {off : Int} {tgt : Nat} {a b : Int} (ha : InR a) (hb : InR b) (hd : decode (cdN y) pc = .ok (.if_icmp .ge off, 3)) (ht : (pc : Int) + off = (tgt : Int)) (kt : b ≤ a → Ex l y k n tgt L st σ Q) (kf : a < b → Ex l y k n (pc + 3) L st σ Q) : Ex l y k n pc L (.int (iI b) :: .int (iI a) :: st) σ Q := by
  intro G p e R s m args below meth c A CE SE Qf hA hC hS hF H locs cells slots ls h1 h2 hL hW hR
  exact lv_icmp_ge hA.2.1 hA.2.2.1 hd ht (fun h => kt ((iI_le hb ha).mp h) G p e R s m args below meth c A CE SE Qf hA hC hS hF H locs cells slots ls h1 h2 hL hW hR) (fun h => kf (Int.not_le.mp (fun z => h ((iI_le hb ha).mpr z))) G p e R s m args below meth c A CE SE Qf hA hC hS hF H locs cells slots ls h1 h2 hL hW hR)
theorem x_if_gt {off : Int} {tgt : Nat} {a : Int} (ha : InR a) (hd : decode (cdN y) pc = .ok (.ifCond .gt off, 3)) (ht : (pc : Int) + off = (tgt : Int)) (kt : 0 < a → Ex l y k n tgt L st σ Q) (kf : a ≤ 0 → Ex l y k n (pc + 3) L st σ Q) : Ex l y k n pc L (.int (iI a) :: st) σ Q := by
  intro G p e R s m args below meth c A CE SE Qf hA hC hS hF H locs cells slots ls h1 h2 hL hW hR
  exact lv_if_gt hA.2.1 hA.2.2.1 hd ht (fun h => kt ((iI_lt inR_0 ha).mp h) G p e R s m args below meth c A CE SE Qf hA hC hS hF H locs cells slots ls h1 h2 hL hW hR) (fun h => kf (Int.not_lt.mp (fun z => h ((iI_lt inR_0 ha).mpr z))) G p e R s m args below meth c A CE SE Qf hA hC hS hF H locs cells slots ls h1 h2 hL hW hR)
theorem x_icmp_gt {off : Int} {tgt : Nat} {a b : Int} (ha : InR a) (hb : InR b) (hd : decode (cdN y) pc = .ok (.if_icmp .gt off, 3)) (ht : (pc : Int) + off = (tgt : Int)) (kt : b < a → Ex l y k n tgt L st σ Q) (kf : a ≤ b → Ex l y k n (pc + 3) L st σ Q) : Ex l y k n pc L (.int (iI b) :: .int (iI a) :: st) σ Q := by
  intro G p e R s m args below meth c A CE SE Qf hA hC hS hF H locs cells slots ls h1 h2 hL hW hR
  exact lv_icmp_gt hA.2.1 hA.2.2.1 hd ht (fun h => kt ((iI_lt hb ha).mp h) G p e R s m args below meth c A CE SE Qf hA hC hS hF H locs cells slots ls h1 h2 hL hW hR) (fun h => kf (Int.not_lt.mp (fun z => h ((iI_lt hb ha).mpr z))) G p e R s m args below meth c A CE SE Qf hA hC hS hF H locs cells slots ls h1 h2 hL hW hR)
theorem x_if_le {off : Int} {tgt : Nat} {a : Int} (ha : InR a) (hd : decode (cdN y) pc = .ok (.ifCond .le off, 3)) (ht : (pc : Int) + off = (tgt : Int)) (kt : a ≤ 0 → Ex l y k n tgt L st σ Q) (kf : 0 < a → Ex l y k n (pc + 3) L st σ Q) : Ex l y k n pc L (.int (iI a) :: st) σ Q := by
  intro G p e R s m args below meth c A CE SE Qf hA hC hS hF H locs cells slots ls h1 h2 hL hW hR
  exact lv_if_le hA.2.1 hA.2.2.1 hd ht (fun h => kt ((iI_le ha inR_0).mp h) G p e R s m args below meth c A CE SE Qf hA hC hS hF H locs cells slots ls h1 h2 hL hW hR) (fun h => kf (Int.not_le.mp (fun z => h ((iI_le ha inR_0).mpr z))) G p e R s m args below meth c A CE SE Qf hA hC hS hF H locs cells slots ls h1 h2 hL hW hR)
theorem x_icmp_le {off : Int} {tgt : Nat} {a b : Int} (ha : InR a) (hb : InR b) (hd : decode (cdN y) pc = .ok (.if_icmp .le off, 3)) (ht : (pc : Int) + off = (tgt : Int)) (kt : a ≤ b → Ex l y k n tgt L st σ Q) (kf : b < a → Ex l y k n (pc + 3) L st σ Q) : Ex l y k n pc L (.int (iI b) :: .int (iI a) :: st) σ Q := by
  intro G p e R s m args below meth c A CE SE Qf hA hC hS hF H locs cells slots ls h1 h2 hL hW hR
  exact lv_icmp_le hA.2.1 hA.2.2.1 hd ht (fun h => kt ((iI_le ha hb).mp h) G p e R s m args below meth c A CE SE Qf hA hC hS hF H locs cells slots ls h1 h2 hL hW hR) (fun h => kf (Int.not_le.mp (fun z => h ((iI_le ha hb).mpr z))) G p e R s m args below meth c A CE SE Qf hA hC hS hF H locs cells slots ls h1 h2 hL hW hR)
theorem x_istore_n {i : Fin 4} {x : Int32} (hn : i < mlN y) (hi : ncA L i = true) (hd : decode (cdN y) pc = .ok (.istore_n i, 1)) (kk : Ex l y k n (pc + 1) (L.set i (some (.int x))) st σ Q) : Ex l y k n pc L (.int x :: st) σ Q := by
  intro G p e R s m args below meth c A CE SE Qf hA hC hS hF H locs cells slots ls h1 h2 hL hW hR
  exact lv_istore_n hA.2.1 hA.2.2.1 hd rfl  hL.has hn rfl (fun ls' h' => kk G p e R s m args below meth c A CE SE Qf hA hC hS hF H locs cells slots ls' h1 h2 (hL.st1 (fun v hv => by cases hv; rfl) hi h') hW hR)
theorem x_istore {i : Nat} {x : Int32} (hn : i < mlN y) (hi : ncA L i = true) (hd : decode (cdN y) pc = .ok (.istore i, 2)) (kk : Ex l y k n (pc + 2) (L.set i (some (.int x))) st σ Q) : Ex l y k n pc L (.int x :: st) σ Q := by
  intro G p e R s m args below meth c A CE SE Qf hA hC hS hF H locs cells slots ls h1 h2 hL hW hR
  exact lv_istore hA.2.1 hA.2.2.1 hd  hL.has hn rfl (fun ls' h' => kk G p e R s m args below meth c A CE SE Qf hA hC hS hF H locs cells slots ls' h1 h2 (hL.st1 (fun v hv => by cases hv; rfl) hi h') hW hR)
theorem x_astore_n {i : Fin 4} {x : Nat} (hn : i < mlN y) (hi : ncA L i = true) (hd : decode (cdN y) pc = .ok (.astore_n i, 1)) (kk : Ex l y k n (pc + 1) (L.set i (some (.ref x))) st σ Q) : Ex l y k n pc L (.ref x :: st) σ Q := by
  intro G p e R s m args below meth c A CE SE Qf hA hC hS hF H locs cells slots ls h1 h2 hL hW hR
  exact lv_astore_n hA.2.1 hA.2.2.1 hd rfl  hL.has hn rfl (fun ls' h' => kk G p e R s m args below meth c A CE SE Qf hA hC hS hF H locs cells slots ls' h1 h2 (hL.st1 (fun v hv => by cases hv; rfl) hi h') hW hR)
theorem x_astore {i : Nat} {x : Nat} (hn : i < mlN y) (hi : ncA L i = true) (hd : decode (cdN y) pc = .ok (.astore i, 2)) (kk : Ex l y k n (pc + 2) (L.set i (some (.ref x))) st σ Q) : Ex l y k n pc L (.ref x :: st) σ Q := by
  intro G p e R s m args below meth c A CE SE Qf hA hC hS hF H locs cells slots ls h1 h2 hL hW hR
  exact lv_astore hA.2.1 hA.2.2.1 hd  hL.has hn rfl (fun ls' h' => kk G p e R s m args below meth c A CE SE Qf hA hC hS hF H locs cells slots ls' h1 h2 (hL.st1 (fun v hv => by cases hv; rfl) hi h') hW hR)
theorem x_dstore {i : Nat} {x : UInt64} (hn : i + 1 < mlN y) (hi : ncA L i = true) (hd : decode (cdN y) pc = .ok (.dstore i, 2)) (kk : Ex l y k n (pc + 2) ((L.set i (some (.double x))).set (i + 1) none) st σ Q) : Ex l y k n pc L (.double x :: st) σ Q := by
  intro G p e R s m args below meth c A CE SE Qf hA hC hS hF H locs cells slots ls h1 h2 hL hW hR
  exact lv_dstore hA.2.1 hA.2.2.1 hd hL.has hn rfl (fun ls' h' => kk G p e R s m args below meth c A CE SE Qf hA hC hS hF H locs cells slots ls' h1 h2 (hL.st2 hi h') hW hR)
theorem x_iinc {i : Nat} {j z : Int} (hl : L[i]? = some (some (.int (iI z)))) (hn : i < mlN y) (hi : ncA L i = true) (hd : decode (cdN y) pc = .ok (.iinc i j, 3)) (kk : Ex l y k n (pc + 3) (L.set i (some (.int (iI (z + j))))) st σ Q) : Ex l y k n pc L st σ Q := by
  intro G p e R s m args below meth c A CE SE Qf hA hC hS hF H locs cells slots ls h1 h2 hL hW hR
  obtain ⟨q, hq⟩ := List.getElem?_of_mem (prs_mem (G := G) (q := (i, Value.int (iI z))).mpr ⟨_, hl, rfl⟩)
  exact lv_iinc hA.2.1 hA.2.2.1 hd hL.has hq (iI_add z j) hn rfl (fun ls' h' => kk G p e R s m args below meth c A CE SE Qf hA hC hS hF H locs cells slots ls' h1 h2 (hL.st1 (fun v hv => by cases hv; rfl) hi h') hW hR)
theorem x_ldc {ix : Nat} {v : Int32} {q : Nat} {z : Int} (hk : kiN (owN y) ix = some (v, q)) (hv : v = iI z) (hd : decode (cdN y) pc = .ok (.ldc ix, 2)) (kk : Ex l y k n (pc + 2) L (.int (iI z) :: st) σ Q) : Ex l y k n pc L st σ Q := by
  intro G p e R s m args below meth c A CE SE Qf hA hC hS hF H locs cells slots ls h1 h2 hL hW hR
  subst hv
  exact lv_ldc hA.2.1 hA.2.2.1 hA.2.2.2.2.2.1 (hA.2.2.2.2.2.2.2.2.1 _ (inT_ok (kiOk hk))) hd (kk G p e R s m args below meth c A CE SE Qf hA hC hS hF H locs cells slots ls h1 h2 hL hW hR)
theorem x_ldcw {ix : Nat} {v : Int32} {q : Nat} {z : Int} (hk : kiN (owN y) ix = some (v, q)) (hv : v = iI z) (hd : decode (cdN y) pc = .ok (.ldc_w ix, 3)) (kk : Ex l y k n (pc + 3) L (.int (iI z) :: st) σ Q) : Ex l y k n pc L st σ Q := by
  intro G p e R s m args below meth c A CE SE Qf hA hC hS hF H locs cells slots ls h1 h2 hL hW hR
  subst hv
  exact lv_ldcw hA.2.1 hA.2.2.1 hA.2.2.2.2.2.1 (hA.2.2.2.2.2.2.2.2.1 _ (inT_ok (kiOk hk))) hd (kk G p e R s m args below meth c A CE SE Qf hA hC hS hF H locs cells slots ls h1 h2 hL hW hR)
theorem x_ldc2 {ix : Nat} {v : Int64} {q : Nat} {z : Int} (hk : klN (owN y) ix = some (v, q)) (hv : v = lL z) (hd : decode (cdN y) pc = .ok (.ldc2_w ix, 3)) (kk : Ex l y k n (pc + 3) L (.long (lL z) :: st) σ Q) : Ex l y k n pc L st σ Q := by
  intro G p e R s m args below meth c A CE SE Qf hA hC hS hF H locs cells slots ls h1 h2 hL hW hR
  subst hv
  exact lv_ldc2 hA.2.1 hA.2.2.1 hA.2.2.2.2.2.1 (hA.2.2.2.2.2.2.2.2.1 _ (inT_ok (klOk hk))) hd (kk G p e R s m args below meth c A CE SE Qf hA hC hS hF H locs cells slots ls h1 h2 hL hW hR)
/-- a text -/
theorem ksIn0 : (ksL.zipIdx).all (fun e => decide (e.1.2 = e.2) && decide (e.2 < nTX)) = true := by decide +kernel
theorem ksIn {o ix j : Nat} (h : ksN o ix = some j) : j < nTX ∧ ksE j = (o, ix) := by
  unfold ksN at h
  cases hf : ksL.find? (fun e => e.1.1 == o && e.1.2 == ix) with
  | none => rw [hf] at h; cases h
  | some f =>
    rw [hf] at h
    have h2 : f.2 = j := Option.some.inj h
    have h3 := List.find?_some hf
    simp only [Bool.and_eq_true, beq_iff_eq] at h3
    obtain ⟨q, hq⟩ := List.getElem?_of_mem (List.mem_of_find?_eq_some hf)
    have h4 := List.all_eq_true.mp ksIn0 (f, q) (List.mem_zipIdx_iff_getElem?.mpr hq)
    simp only [Bool.and_eq_true, decide_eq_true_eq] at h4
    obtain ⟨h5, h6⟩ := h4
    have e : j = q := h2.symm.trans h5
    subst e
    refine ⟨h6, ?_⟩
    unfold ksE
    rw [List.getD_eq_getElem?_getD, hq]
    exact Prod.ext h3.1 h3.2
theorem x_ldcS {ix j : Nat} (hk : ksN (owN y) ix = some j) (hd : decode (cdN y) pc = .ok (.ldc ix, 2)) (kk : Ex l y k n (pc + 2) L (.ref (scr + 1 + j) :: st) σ Q) : Ex l y k n pc L st σ Q := by
  intro G p e R s m args below meth c A CE SE Qf hA hC hS hF H locs cells slots ls h1 h2 hL hW hR
  obtain ⟨hj, he⟩ := ksIn hk
  have hT := hA.2.2.2.2.2.2.2.2.2.2.2.2.2.2.2.2.1 j hj
  rw [he] at hT
  refine va_ldcS hA.2.1 hA.2.2.1 hA.2.2.2.2.2.1 hT hd ?_
  have := kk G p e R s m args below meth c A CE SE Qf hA hC hS hF H locs cells slots ls h1 h2 hL hW hR
  rw [show cvs G (.ref (scr + 1 + j) :: st) = .ref (adr G (scr + 1 + j)) :: cvs G st from rfl, adr_tx (Nat.lt_of_lt_of_le hj (by decide))] at this
  exact this
theorem x_ldcwS {ix j : Nat} (hk : ksN (owN y) ix = some j) (hd : decode (cdN y) pc = .ok (.ldc_w ix, 3)) (kk : Ex l y k n (pc + 3) L (.ref (scr + 1 + j) :: st) σ Q) : Ex l y k n pc L st σ Q := by
  intro G p e R s m args below meth c A CE SE Qf hA hC hS hF H locs cells slots ls h1 h2 hL hW hR
  obtain ⟨hj, he⟩ := ksIn hk
  have hT := hA.2.2.2.2.2.2.2.2.2.2.2.2.2.2.2.2.1 j hj
  rw [he] at hT
  have h9 := kk G p e R s m args below meth c A CE SE Qf hA hC hS hF H locs cells slots ls h1 h2 hL hW hR
  rw [show cvs G (.ref (scr + 1 + j) :: st) = .ref (adr G (scr + 1 + j)) :: cvs G st from rfl, adr_tx (Nat.lt_of_lt_of_le hj (by decide))] at h9
  intro T hT2 X
  obtain ⟨t, a1, b1⟩ := h9 T hT2 X
  exact ⟨t, X.ldcStringW hA.2.1 hA.2.2.2.2.2.1 (text := ksX j) (a := G.2.2.2.1 j) hT.1 hT.2 (g := F0 m pc ls (cvs G st)) rfl (by rw [hA.2.2.1]; exact hd) t a1, b1⟩
theorem x_ret {v : Option Value} (hf : σ.2.2.2.2.2 = true → k = 0) (hst : st = v.toList) (hI : RetI y pc v) (hQ : Q (.inl v, σ)) : Ex l y k n pc L st σ Q := by
  intro G p e R s m args below meth c A CE SE Qf hA hC hS hF H locs cells slots ls h1 h2 hL hW hR
  rw [hst]
  exact hF.1 H locs cells slots pc ls v σ (by omega) (by omega) hW (fun z => by have := hR z; have := hf z; subst this; rw [show CE = cells from by omega]; assumption) hI hQ
theorem x_lret {z : Int} (hr : rtN y = some .long) (hf : σ.2.2.2.2.2 = true → k = 0) (hd : decode (cdN y) pc = .ok (.lreturn, 1)) (hQ : Q (.inl (some (.long (lL z))), σ)) : Ex l y k n pc L [.long (lL z)] σ Q := x_ret hf rfl (Or.inr (Or.inr (Or.inr (Or.inr (Or.inl ⟨hd, _, rfl, hr⟩))))) hQ
theorem x_aret {r : Nat} {ty : FieldType} (hr : rtN y = some ty) (ht : (∃ n, ty = .object n) ∨ ∃ t, ty = .array t) (hf : σ.2.2.2.2.2 = true → k = 0) (hd : decode (cdN y) pc = .ok (.areturn, 1)) (hQ : Q (.inl (some (.ref r)), σ)) : Ex l y k n pc L [.ref r] σ Q := x_ret hf rfl (Or.inr (Or.inr (Or.inr (Or.inr (Or.inr ⟨hd, r, ty, rfl, hr, ht⟩))))) hQ
theorem x_iret {z : Int} (hr : rtN y = some .int) (hf : σ.2.2.2.2.2 = true → k = 0) (hd : decode (cdN y) pc = .ok (.ireturn, 1)) (hQ : Q (.inl (some (.int (iI z))), σ)) : Ex l y k n pc L [.int (iI z)] σ Q := x_ret hf rfl (Or.inl ⟨hd, _, rfl, Or.inl hr⟩) hQ
theorem x_zret {z : Int} (hr : rtN y = some .boolean) (hz : z = 0 ∨ z = 1) (hf : σ.2.2.2.2.2 = true → k = 0) (hd : decode (cdN y) pc = .ok (.ireturn, 1)) (hQ : Q (.inl (some (.int (iI z))), σ)) : Ex l y k n pc L [.int (iI z)] σ Q := x_ret hf rfl (Or.inl ⟨hd, _, rfl, Or.inr ⟨.boolean, hr, narrow01 (by rcases hz with rfl | rfl <;> first | exact Or.inl rfl | exact Or.inr rfl)⟩⟩) hQ
theorem x_fret {z : UInt32} (hr : rtN y = some .float) (hf : σ.2.2.2.2.2 = true → k = 0) (hd : decode (cdN y) pc = .ok (.freturn, 1)) (hQ : Q (.inl (some (.float z)), σ)) : Ex l y k n pc L [.float z] σ Q := x_ret hf rfl (Or.inr (Or.inl ⟨hd, _, rfl, hr⟩)) hQ
theorem x_dret {z : UInt64} (hr : rtN y = some .double) (hf : σ.2.2.2.2.2 = true → k = 0) (hd : decode (cdN y) pc = .ok (.dreturn, 1)) (hQ : Q (.inl (some (.double z)), σ)) : Ex l y k n pc L [.double z] σ Q := x_ret hf rfl (Or.inr (Or.inr (Or.inl ⟨hd, _, rfl, hr⟩))) hQ
theorem x_vret (hr : rtN y = none) (hf : σ.2.2.2.2.2 = true → k = 0) (hd : decode (cdN y) pc = .ok (.return_, 1)) (hQ : Q (.inl none, σ)) : Ex l y k n pc L [] σ Q := x_ret hf rfl (Or.inr (Or.inr (Or.inr (Or.inl ⟨hd, rfl, hr⟩)))) hQ
theorem x_throw {E : Nat} {r : Nat × Nat × Nat × Bool × Nat} (hx : xtN y pc = some (E, r)) (hc : cats st + 82 ≤ loN y) (hh : 6 ≤ htN y) (hy : hhN y = []) (hk : 1 ≤ k) (hn : 6 ≤ n) (hf : σ.2.2.2.2.2 = false) (hQ : Q (.inr E, σ)) : Ex l y k n pc L st σ Q := by
  intro G p e R s m args below meth c A CE SE Qf hA hC hS hF H locs cells slots ls h1 h2 hL hW hR
  exact hF.2.1 H locs cells slots pc ls (cvs G st) σ E r hx hL.1 (by rw [cvs_cats]; exact hc) hh hy (by omega) (by omega) hW hf hQ
end Rows1
