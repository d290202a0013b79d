/-- the throws: method, pc, which exception (0 argument, 1 state, 2 index), the pool's entries of class, text, constructor; wide text -/
def xtL : List ((Nat × Nat) × Nat × Nat × Nat × Nat × Bool) := [
  ((76, 16), 1, 93, 95, 97, false), ((77, 15), 0, 103, 105, 107, false), ((78, 24), 0, 103, 112, 107, false), ((79, 22), 0, 103, 127, 107, false), ((88, 12), 0, 103, 159, 107, false),
  ((103, 10), 0, 103, 215, 107, false), ((110, 16), 0, 103, 241, 107, false), ((110, 58), 0, 103, 246, 107, false), ((127, 23), 0, 103, 311, 107, true), ((127, 44), 1, 93, 316, 97, true),
  ((128, 11), 0, 103, 318, 107, true), ((128, 32), 1, 93, 323, 97, true), ((129, 16), 1, 93, 328, 97, true), ((130, 16), 1, 93, 336, 97, true), ((131, 12), 0, 103, 341, 107, true),
  ((131, 34), 1, 93, 346, 97, true), ((132, 12), 0, 103, 351, 107, true), ((133, 33), 0, 103, 353, 107, true), ((133, 58), 1, 93, 355, 97, true), ((134, 18), 2, 357, 359, 361, true),
  ((135, 10), 1, 93, 366, 97, true), ((137, 7), 1, 93, 375, 97, true), ((140, 18), 2, 357, 383, 361, true), ((141, 15), 2, 357, 385, 361, true), ((142, 11), 0, 103, 388, 107, true)
  ]
def xtN (y pc : Nat) : Option (Nat × Nat × Nat × Nat × Bool) := (xtL.find? (fun e => e.1.1 == y && e.1.2 == pc)).map (fun e => e.2)
/-- texts that are used: class, entry; their number -/
def ksL : List ((Nat × Nat) × Nat) := [
  ((0, 59), 0), ((0, 65), 1), ((0, 67), 2), ((0, 69), 3), ((0, 71), 4), ((0, 73), 5), ((0, 75), 6), ((0, 77), 7),
  ((5, 102), 8), ((5, 127), 9), ((10, 44), 10), ((10, 241), 11), ((10, 259), 12), ((10, 281), 13), ((10, 283), 14), ((10, 285), 15),
  ((10, 287), 16), ((10, 289), 17), ((10, 291), 18), ((10, 293), 19)
  ]
def ksN (o i : Nat) : Option Nat := (ksL.find? (fun e => e.1.1 == o && e.1.2 == i)).map (fun e => e.2)
def ksT : List (List Nat) := [
  [115, 101, 110, 100], [116, 114, 97, 110, 115, 109, 105, 116], [99, 97, 110, 99, 101, 108], [114, 101, 115, 101, 110, 100],
  [119, 97, 105, 116], [100, 114, 105, 102, 116], [100, 111, 103], [99, 104, 97, 115, 101],
  [109, 111, 100, 101, 109], [100, 111, 103], [109, 111, 100, 101, 109, 32, 50, 32, 49, 48, 48, 32, 49, 48, 32, 52, 59, 100, 111, 103, 32, 50, 48, 48, 32, 51, 48, 32, 50, 48, 59], [109, 111, 100, 101, 109],
  [100, 111, 103], [119, 97, 105, 116], [100, 114, 105, 102, 116], [99, 104, 97, 115, 101],
  [115, 101, 110, 100], [116, 114, 97, 110, 115, 109, 105, 116], [99, 97, 110, 99, 101, 108], [114, 101, 115, 101, 110, 100]
  ]
def ksB (i : Nat) : List Nat := ksT.getD i []
def exL : List ((Nat × Nat) × Nat) := [
  ((9, 93), 1), ((9, 103), 0), ((9, 357), 2), ((11, 13), 1), ((11, 19), 0), ((11, 41), 2)
  ]
def exN (o i : Nat) : Option Nat := (exL.find? (fun e => e.1.1 == o && e.1.2 == i)).map (fun e => e.2)
/-- constructors -/
def inL : List Bool := [true, false, false, false, false, false, false, false, false, true, false, false, true, false, false, false, false, true, false, false, false, false, false, false, false, false, false, false, true, false, false, false, true, false, false, false, false, false, false, false, false, false, false, false, false, false, false, false, false, false, false, false, false, false, false, true, false, false, false, false, false, false, true, false, false, false, true, false, false, false, false, false, false, false, false, true, false, false, false, false, false, false, false, false, false, false, false, false, false, false, false, false, false, false, false, false, false, false, false, false, false, false, false, false, false, false, false, false, false, false, false, false, false, false, false, false, false, false, false, false, false, false, false, false, false, false, false, false, false, false, false, false, false, false, false, false, false, false, false, false, false, false, false, false, false, false, true, false, false, false, false, false, false, false, false, false, false, false, false, false, false, false, false, false, false, false, false, false, false, false, false, false, false, false, false, false, false, false, false, false, false, false, false, false, false, false, false, false, false, false, false, false, false, false, false, false, false, false, false, false, false, false, false, false, false, false, false, false, false, false, false, false, false, false, false, false, false, false, false, false, false, false, false, false, false, false, false, false, false, false, false, false, false, false, false, false, false, false, false, false, false, false, false, false, false, false, false, false, false, false, false, false, false, false, false, false, false, false, false, false, false, false, false, false, false, false, false, false, false, false, false, false, false, false, false, false, false, false, false, false, false, false, false, false, false, false, false, false, false, false, false, false, false, false, false, false, false, false, false, false, false, false, false, false, false, false, false, false, false, false, false, false, false, false, false, false, false, false, false, false, false, false, false, false, false, false, false, false, false, false, false, false, false]
def inN (y : Nat) : Bool := inL.getD y false
def NMM : Nat := 333
/-! ===== the machine in short: a pure interpreter over places =====
A place is a number; Value.ref k in a local, on the stack or in a row is the place k; 1000000 is the script, 1000001 + i the text i. -/
abbrev MM : Type := (Nat → Nat → Int32) × (Nat → Nat → Option Nat) × (Nat → Nat) × Nat × Nat × Nat × Int64
abbrev OO : Type := (Option Value ⊕ Nat) × MM
abbrev LL : Type := List (Option Value)
abbrev AC : Type := (Nat × LL × List Value × MM) ⊕ ((Nat × List Value × List Value) ⊕ OO)
def scr : Nat := 1000000
/-- the kind of a place: 10 * class + 5 an object, 10 * length an int row, 10 * length + 1 a row of references, 10 * length + 2 a row of longs, 3 nothing -/
def tk (σ : MM) (k : Nat) : Nat := if k < σ.2.2.2.1 then σ.2.2.1 k else 3
def tkr (σ : MM) (k : Nat) : Nat := if k = scr then σ.2.2.1 scr else tk σ k
def up2 {α : Type} (I : Nat → Nat → α) (k j : Nat) (v : α) : Nat → Nat → α := fun a b => if a = k ∧ b = j then v else I a b
def cp2 (I : Nat → Nat → Int32) (s sp d dp n : Nat) : Nat → Nat → Int32 := fun a b => if a = d ∧ dp ≤ b ∧ b < dp + n then I s (sp + (b - dp)) else I a b
def cats (st : List Value) : Nat := (st.map fun v => v.category).sum
def nc : Option Value → Bool
  | some (.long _) => false
  | some (.double _) => false
  | _ => true
def ncA (L : LL) : Nat → Bool
  | 0 => true
  | j + 1 => match L[j]? with
    | some x => nc x
    | none => true
def st1 (L : LL) (i : Nat) (v : Value) : Option LL := if i < L.length ∧ ncA L i = true then some (L.set i (some v)) else none
def st2 (L : LL) (i : Nat) (v : Value) : Option LL := if i + 1 < L.length ∧ ncA L i = true then some ((L.set i (some v)).set (i + 1) none) else none
def enL : List Value → LL
  | [] => []
  | v :: r => if v.category = 2 then some v :: none :: enL r else some v :: enL r
def en (y : Nat) (as : List Value) : LL := enL as ++ List.replicate (mlN y - (enL as).length) none
def tg (pc : Nat) (off : Int) : Option Nat := if 0 ≤ (pc : Int) + off then some ((pc : Int) + off).toNat else none
def inb (i : Int32) (n : Nat) : Bool := !(decide (i < 0) || decide (n ≤ i.toNatClampNeg))
def b01 (x : Int32) : Bool := decide (x = 0) || decide (x = 1)
def go (pc : Nat) (L : LL) (st : List Value) (σ : MM) : Option AC := some (.inl (pc, L, st, σ))
def goS (pc : Nat) (L : Option LL) (st : List Value) (σ : MM) : Option AC := match L with
  | some L => some (.inl (pc, L, st, σ))
  | none => none
def goT (pc : Option Nat) (L : LL) (st : List Value) (σ : MM) : Option AC := match pc with
  | some pc => some (.inl (pc, L, st, σ))
  | none => none
def ldI (L : LL) (i : Nat) (pc : Nat) (st : List Value) (σ : MM) : Option AC := match L[i]? with
  | some (some (.int x)) => go pc L (.int x :: st) σ
  | _ => none
def ldL (L : LL) (i : Nat) (pc : Nat) (st : List Value) (σ : MM) : Option AC := match L[i]? with
  | some (some (.long x)) => go pc L (.long x :: st) σ
  | _ => none
def ldD (L : LL) (i : Nat) (pc : Nat) (st : List Value) (σ : MM) : Option AC := match L[i]? with
  | some (some (.double x)) => go pc L (.double x :: st) σ
  | _ => none
def ldA (L : LL) (i : Nat) (pc : Nat) (st : List Value) (σ : MM) : Option AC := match L[i]? with
  | some (some (.ref x)) => go pc L (.ref x :: st) σ
  | _ => none
/-- a call, by the links' table -/
def cal (y pc ix op : Nat) (L : LL) (st : List Value) (σ : MM) : Option AC := match ctN (owN y) ix with
  | none => none
  | some (kd, t, _) =>
    if kd = 0 ∧ op = 0 then (match st.drop (naN t) with
      | .ref k :: r => if naN t ≤ st.length ∧ tk σ k = 10 * owN t + 5 ∧ cats r ≤ 8 ∧ htN t + 1 ≤ htN y ∧ 19 + mlN t + loN t ≤ loN y then some (.inr (.inl (t, .ref k :: (st.take (naN t)).reverse, r))) else none
      | _ => none)
    else if (kd = 1 ∨ kd = 3 ∨ kd = 12) ∧ op = 1 then (if naN t ≤ st.length ∧ cats (st.drop (naN t)) ≤ 8 ∧ htN t + 1 ≤ htN y ∧ 19 + mlN t + loN t ≤ loN y then some (.inr (.inl (t, (st.take (naN t)).reverse, st.drop (naN t)))) else none)
    else if (kd = 2 ∨ kd = 4) ∧ op = 2 then (match st.drop (naN t) with
      | .ref k :: r => if naN t ≤ st.length ∧ cats r ≤ 8 ∧ htN t + 1 ≤ htN y ∧ 19 + mlN t + loN t ≤ loN y then some (.inr (.inl (t, .ref k :: (st.take (naN t)).reverse, r))) else none
      | _ => none)
    else if kd = 5 ∧ op = 1 then (match st with
      | .int b :: .int a :: r => if 1 ≤ htN y ∧ cats r + 13 ≤ loN y then go (pc + 3) L (.int (if a < b then b else a) :: r) σ else none
      | _ => none)
    else if kd = 6 ∧ op = 1 then (match st with
      | .int b :: .int a :: r => if 1 ≤ htN y ∧ cats r + 13 ≤ loN y then go (pc + 3) L (.int (if b < a then b else a) :: r) σ else none
      | _ => none)
    else if kd = 7 ∧ op = 1 then (match st with
      | .int a :: r => if 1 ≤ htN y ∧ cats r + 13 ≤ loN y then go (pc + 3) L (.int (if 0 ≤ a then a else 0 - a) :: r) σ else none
      | _ => none)
    else if kd = 8 ∧ op = 1 then (match st with
      | .int n :: .int dp :: .ref d :: .int sp :: .ref s :: r =>
        if 1 ≤ htN y ∧ cats r + 40 ≤ loN y ∧ ¬ sp < 0 ∧ ¬ dp < 0 ∧ ¬ n < 0 ∧ tk σ s % 10 = 0 ∧ tk σ d % 10 = 0 ∧ sp.toNatClampNeg + n.toNatClampNeg ≤ tk σ s / 10 ∧ dp.toNatClampNeg + n.toNatClampNeg ≤ tk σ d / 10
        then go (pc + 3) L r (cp2 σ.1 s sp.toNatClampNeg d dp.toNatClampNeg n.toNatClampNeg, σ.2) else none
      | _ => none)
    else if kd = 9 ∧ op = 2 then (match st with
      | .ref _ :: r => if 1 ≤ htN y ∧ cats r + 12 ≤ loN y then go (pc + 3) L r σ else none
      | _ => none)
    else if kd = 10 ∧ op = 0 then (match st with
      | .ref k :: r => if 2 ≤ htN y ∧ cats r ≤ 8 ∧ 60 ≤ loN y ∧ scr < k ∧ k < scr + 1 + ksT.length then go (pc + 3) L (.int (nI (ksB (k - (scr + 1))).length) :: r) σ else none
      | _ => none)
    else if kd = 11 ∧ op = 0 then (match st with
      | .int i :: .ref k :: r => if 4 ≤ htN y ∧ cats r ≤ 8 ∧ 100 ≤ loN y ∧ scr < k ∧ k < scr + 1 + ksT.length ∧ inb i (ksB (k - (scr + 1))).length = true then go (pc + 3) L (.int (nI ((ksB (k - (scr + 1))).getD i.toNatClampNeg 0)) :: r) σ else none
      | _ => none)
    else none
/-- one instruction -/
def stp (y pc : Nat) (i : Instr) (len : Nat) (L : LL) (st : List Value) (σ : MM) : Option AC :=
  match i, len with
  | .iconst n, 1 => go (pc + 1) L (.int (Int32.ofInt n) :: st) σ
  | .bipush n, 2 => go (pc + 2) L (.int (Int8.ofInt n).toInt32 :: st) σ
  | .sipush n, 3 => go (pc + 3) L (.int (Int16.ofInt n).toInt32 :: st) σ
  | .lconst n, 1 => go (pc + 1) L (.long (Int64.ofNat n) :: st) σ
  | .fconst n, 1 => if n = 0 then go (pc + 1) L (.float FP.fconst0 :: st) σ else none
  | .dconst n, 1 => if n = 0 then go (pc + 1) L (.double FP.dconst0 :: st) σ else none
  | .ldc ix, 2 => (match kiN (owN y) ix with
    | some (v, _) => go (pc + 2) L (.int v :: st) σ
    | none => match ksN (owN y) ix with
      | some k => go (pc + 2) L (.ref (scr + 1 + k) :: st) σ
      | none => none)
  | .ldc_w ix, 3 => (match kiN (owN y) ix with
    | some (v, _) => go (pc + 3) L (.int v :: st) σ
    | none => match ksN (owN y) ix with
      | some k => go (pc + 3) L (.ref (scr + 1 + k) :: st) σ
      | none => none)
  | .ldc2_w ix, 3 => (match klN (owN y) ix with
    | some (v, _) => go (pc + 3) L (.long v :: st) σ
    | none => none)
  | .iload_n k, 1 => ldI L k (pc + 1) st σ
  | .iload k, 2 => ldI L k (pc + 2) st σ
  | .lload_n k, 1 => ldL L k (pc + 1) st σ
  | .lload k, 2 => ldL L k (pc + 2) st σ
  | .dload k, 2 => ldD L k (pc + 2) st σ
  | .aload_n k, 1 => ldA L k (pc + 1) st σ
  | .aload k, 2 => ldA L k (pc + 2) st σ
  | .istore_n k, 1 => (match st with
    | .int x :: r => goS (pc + 1) (st1 L k (.int x)) r σ
    | _ => none)
  | .istore k, 2 => (match st with
    | .int x :: r => goS (pc + 2) (st1 L k (.int x)) r σ
    | _ => none)
  | .astore_n k, 1 => (match st with
    | .ref x :: r => goS (pc + 1) (st1 L k (.ref x)) r σ
    | _ => none)
  | .astore k, 2 => (match st with
    | .ref x :: r => goS (pc + 2) (st1 L k (.ref x)) r σ
    | _ => none)
  | .dstore k, 2 => (match st with
    | .double x :: r => goS (pc + 2) (st2 L k (.double x)) r σ
    | _ => none)
  | .iinc k n, 3 => (match L[k]? with
    | some (some (.int x)) => goS (pc + 3) (st1 L k (.int (x + Int32.ofInt n))) st σ
    | _ => none)
  | .iadd, 1 => (match st with
    | .int b :: .int a :: r => go (pc + 1) L (.int (a + b) :: r) σ
    | _ => none)
  | .isub, 1 => (match st with
    | .int b :: .int a :: r => go (pc + 1) L (.int (a - b) :: r) σ
    | _ => none)
  | .imul, 1 => (match st with
    | .int b :: .int a :: r => go (pc + 1) L (.int (a * b) :: r) σ
    | _ => none)
  | .idiv, 1 => (match st with
    | .int b :: .int a :: r => if ¬ b = 0 then go (pc + 1) L (.int (a / b) :: r) σ else none
    | _ => none)
  | .irem, 1 => (match st with
    | .int b :: .int a :: r => if ¬ b = 0 then go (pc + 1) L (.int (a - a / b * b) :: r) σ else none
    | _ => none)
  | .iand, 1 => (match st with
    | .int b :: .int a :: r => go (pc + 1) L (.int (a &&& b) :: r) σ
    | _ => none)
  | .ixor, 1 => (match st with
    | .int b :: .int a :: r => go (pc + 1) L (.int (a ^^^ b) :: r) σ
    | _ => none)
  | .ishl, 1 => (match st with
    | .int b :: .int a :: r => go (pc + 1) L (.int (a <<< (b &&& 31)) :: r) σ
    | _ => none)
  | .ishr, 1 => (match st with
    | .int b :: .int a :: r => go (pc + 1) L (.int (a >>> (b &&& 31)) :: r) σ
    | _ => none)
  | .iushr, 1 => (match st with
    | .int b :: .int a :: r => go (pc + 1) L (.int (a.toUInt32 >>> (b.toUInt32 &&& Int32.toUInt32 31)).toInt32 :: r) σ
    | _ => none)
  | .ladd, 1 => (match st with
    | .long b :: .long a :: r => go (pc + 1) L (.long (a + b) :: r) σ
    | _ => none)
  | .i2l, 1 => (match st with
    | .int a :: r => go (pc + 1) L (.long a.toInt64 :: r) σ
    | _ => none)
  | .i2f, 1 => (match st with
    | .int a :: r => go (pc + 1) L (.float (FP.i2f a) :: r) σ
    | _ => none)
  | .i2d, 1 => (match st with
    | .int a :: r => go (pc + 1) L (.double (FP.i2d a) :: r) σ
    | _ => none)
  | .f2d, 1 => (match st with
    | .float a :: r => if (FP.f2d a) &&& 0x7fffffffffffffff ≤ 0x7ff0000000000000 then go (pc + 1) L (.double (FP.f2d a) :: r) σ else none
    | _ => none)
  | .fdiv, 1 => (match st with
    | .float b :: .float a :: r => if (FP.fdiv a b) &&& 0x7fffffff ≤ 0x7f800000 then go (pc + 1) L (.float (FP.fdiv a b) :: r) σ else none
    | _ => none)
  | .ddiv, 1 => (match st with
    | .double b :: .double a :: r => if (FP.ddiv a b) &&& 0x7fffffffffffffff ≤ 0x7ff0000000000000 then go (pc + 1) L (.double (FP.ddiv a b) :: r) σ else none
    | _ => none)
  | .dcmp op, 1 => (match st with
    | .double b :: .double a :: r => go (pc + 1) L (.int (Op.cmpValue (FP.dcmp a b) op) :: r) σ
    | _ => none)
  | .lcmp, 1 => (match st with
    | .long b :: .long a :: r => go (pc + 1) L (.int (lg_cmp a b) :: r) σ
    | _ => none)
  | .dup, 1 => (match st with
    | a :: r => if a.category = 1 then go (pc + 1) L (a :: a :: r) σ else none
    | _ => none)
  | .pop, 1 => (match st with
    | a :: r => if a.category = 1 then go (pc + 1) L r σ else none
    | _ => none)
  | .dup2, 1 => (match st with
    | a :: b :: r => if a.category = 1 ∧ b.category = 1 then go (pc + 1) L (a :: b :: a :: b :: r) σ else none
    | _ => none)
  | .ifCond c off, 3 => (match st with
    | .int x :: r => (match c with
      | .eq => if x = 0 then goT (tg pc off) L r σ else go (pc + 3) L r σ
      | .ne => if x = 0 then go (pc + 3) L r σ else goT (tg pc off) L r σ
      | .lt => if x < 0 then goT (tg pc off) L r σ else go (pc + 3) L r σ
      | .ge => if x < 0 then go (pc + 3) L r σ else goT (tg pc off) L r σ
      | .gt => if 0 < x then goT (tg pc off) L r σ else go (pc + 3) L r σ
      | .le => if 0 < x then go (pc + 3) L r σ else goT (tg pc off) L r σ)
    | _ => none)
  | .if_icmp c off, 3 => (match st with
    | .int b :: .int a :: r => (match c with
      | .eq => if a = b then goT (tg pc off) L r σ else go (pc + 3) L r σ
      | .ne => if a = b then go (pc + 3) L r σ else goT (tg pc off) L r σ
      | .lt => if a < b then goT (tg pc off) L r σ else go (pc + 3) L r σ
      | .ge => if a < b then go (pc + 3) L r σ else goT (tg pc off) L r σ
      | .gt => if b < a then goT (tg pc off) L r σ else go (pc + 3) L r σ
      | .le => if b < a then go (pc + 3) L r σ else goT (tg pc off) L r σ)
    | _ => none)
  | .goto off, 3 => goT (tg pc off) L st σ
  | .ifnull off, 3 => (match st with
    | .ref _ :: r => go (pc + 3) L r σ
    | .null :: r => goT (tg pc off) L r σ
    | _ => none)
  | .tableswitch dflt lo hi offs, _ => (match st with
    | .int x :: r => if x.toInt < lo ∨ hi < x.toInt then goT (tg pc dflt) L r σ else (match offs[(x.toInt - lo).toNat]? with
      | some off => goT (tg pc off) L r σ
      | none => none)
    | _ => none)
  | .getfield ix, 3 => (match ftN (owN y) ix, st with
    | some (c, j, _), .ref k :: r => if tk σ k = 10 * c + 5 then go (pc + 3) L ((if fk c j = 2 then va_rf (σ.2.1 k j) else .int (σ.1 k j)) :: r) σ else none
    | _, _ => none)
  | .putfield ix, 3 => (match ftN (owN y) ix, st with
    | some (c, j, _), .int v :: .ref k :: r => if tk σ k = 10 * c + 5 ∧ (fk c j = 0 ∨ (fk c j = 1 ∧ b01 v = true)) ∧ ff c j = false then go (pc + 3) L r (up2 σ.1 k j v, σ.2) else none
    | some (c, j, _), .ref v :: .ref k :: r => if tk σ k = 10 * c + 5 ∧ fk c j = 2 ∧ (ff c j = false ∨ (inN y = true ∧ owN y = c)) then go (pc + 3) L r (σ.1, up2 σ.2.1 k j (some v), σ.2.2) else none
    | _, _ => none)
  | .iaload, 1 => (match st with
    | .int i :: .ref k :: r => if tkr σ k % 10 = 0 ∧ inb i (tkr σ k / 10) = true then go (pc + 1) L (.int (σ.1 k i.toNatClampNeg) :: r) σ else none
    | _ => none)
  | .iastore, 1 => (match st with
    | .int v :: .int i :: .ref k :: r => if tk σ k % 10 = 0 ∧ inb i (tk σ k / 10) = true then go (pc + 1) L r (up2 σ.1 k i.toNatClampNeg v, σ.2) else none
    | _ => none)
  | .laload, 1 => (match st with
    | .int i :: .ref k :: r => if tk σ k = 12 ∧ i = 0 then go (pc + 1) L (.long σ.2.2.2.2.2.2 :: r) σ else none
    | _ => none)
  | .lastore, 1 => (match st with
    | .long v :: .int i :: .ref k :: r => if tk σ k = 12 ∧ i = 0 then go (pc + 1) L r (σ.1, σ.2.1, σ.2.2.1, σ.2.2.2.1, σ.2.2.2.2.1, σ.2.2.2.2.2.1, v) else none
    | _ => none)
  | .aaload, 1 => (match st with
    | .int i :: .ref k :: r => if tk σ k % 10 = 1 ∧ inb i (tk σ k / 10) = true then go (pc + 1) L (va_rf (σ.2.1 k i.toNatClampNeg) :: r) σ else none
    | _ => none)
  | .aastore, 1 => (match st with
    | .ref v :: .int i :: .ref k :: r => if tk σ k % 10 = 1 ∧ inb i (tk σ k / 10) = true ∧ tk σ v = 55 then go (pc + 1) L r (σ.1, up2 σ.2.1 k i.toNatClampNeg (some v), σ.2.2) else none
    | _ => none)
  | .arraylength, 1 => (match st with
    | .ref k :: r => if tkr σ k % 10 = 0 then go (pc + 1) L (.int (nI (tkr σ k / 10)) :: r) σ else none
    | _ => none)
  | .new ix, 3 => (match clN (owN y) ix with
    | some (c, _) => if σ.2.2.2.2.1 = σ.2.2.2.1 ∧ σ.2.2.2.1 < scr then go (pc + 3) L (.ref σ.2.2.2.1 :: st) (fun a b => if a = σ.2.2.2.1 then 0 else σ.1 a b, fun a b => if a = σ.2.2.2.1 then none else σ.2.1 a b, fun a => if a = σ.2.2.2.1 then 10 * c + 5 else σ.2.2.1 a, σ.2.2.2.1 + 1, σ.2.2.2.2.1 + 1, σ.2.2.2.2.2.1 + nf c, σ.2.2.2.2.2.2) else none
    | none => match xtN y pc with
      | some (E, _) => if 6 ≤ htN y ∧ cats st + 82 ≤ loN y ∧ hhN y = [] then some (.inr (.inr (.inr E, (σ.1, σ.2.1, σ.2.2.1, σ.2.2.2.1, σ.2.2.2.2.1 + 1, σ.2.2.2.2.2.1 + 6, σ.2.2.2.2.2.2)))) else none
      | none => none)
  | .newarray at0, 2 => (match st with
    | .int n :: r => if σ.2.2.2.2.1 = σ.2.2.2.1 ∧ σ.2.2.2.1 < scr ∧ ¬ n < 0 ∧ n.toNatClampNeg ≤ 100000 then (match at0 with
      | .int => go (pc + 2) L (.ref σ.2.2.2.1 :: r) (fun a b => if a = σ.2.2.2.1 then 0 else σ.1 a b, fun a b => if a = σ.2.2.2.1 then none else σ.2.1 a b, fun a => if a = σ.2.2.2.1 then 10 * n.toNatClampNeg else σ.2.2.1 a, σ.2.2.2.1 + 1, σ.2.2.2.2.1 + 1, σ.2.2.2.2.2.1 + n.toNatClampNeg, σ.2.2.2.2.2.2)
      | .long => if n = 1 then go (pc + 2) L (.ref σ.2.2.2.1 :: r) (fun a b => if a = σ.2.2.2.1 then 0 else σ.1 a b, fun a b => if a = σ.2.2.2.1 then none else σ.2.1 a b, fun a => if a = σ.2.2.2.1 then 12 else σ.2.2.1 a, σ.2.2.2.1 + 1, σ.2.2.2.2.1 + 1, σ.2.2.2.2.2.1 + 1, 0) else none
      | _ => none) else none
    | _ => none)
  | .anewarray _, 3 => (match st with
    | .int n :: r => if σ.2.2.2.2.1 = σ.2.2.2.1 ∧ σ.2.2.2.1 < scr ∧ ¬ n < 0 ∧ n.toNatClampNeg ≤ 100000 then go (pc + 3) L (.ref σ.2.2.2.1 :: r) (fun a b => if a = σ.2.2.2.1 then 0 else σ.1 a b, fun a b => if a = σ.2.2.2.1 then none else σ.2.1 a b, fun a => if a = σ.2.2.2.1 then 10 * n.toNatClampNeg + 1 else σ.2.2.1 a, σ.2.2.2.1 + 1, σ.2.2.2.2.1 + 1, σ.2.2.2.2.2.1 + n.toNatClampNeg, σ.2.2.2.2.2.2) else none
    | _ => none)
  | .invokevirtual ix, 3 => cal y pc ix 0 L st σ
  | .invokestatic ix, 3 => cal y pc ix 1 L st σ
  | .invokespecial ix, 3 => cal y pc ix 2 L st σ
  | .ireturn, 1 => (match st with
    | .int v :: _ => if rtN y = some .int ∨ (rtN y = some .boolean ∧ b01 v = true) then some (.inr (.inr (.inl (some (.int v)), σ))) else none
    | _ => none)
  | .freturn, 1 => (match st with
    | .float v :: _ => if rtN y = some .float then some (.inr (.inr (.inl (some (.float v)), σ))) else none
    | _ => none)
  | .dreturn, 1 => (match st with
    | .double v :: _ => if rtN y = some .double then some (.inr (.inr (.inl (some (.double v)), σ))) else none
    | _ => none)
  | .return_, 1 => if rtN y = none then some (.inr (.inr (.inl none, σ))) else none
  | _, _ => none
/-- where a throw goes on in the method: behind the store of its first row that names the exception; the local stored to -/
def hnd (y pc E : Nat) : Option (Nat × Nat) := match (hhN y).find? (fun h => decide (h.1 ≤ pc) && decide (pc < h.2.1) && decide (exN (owN y) h.2.2.2 = some E)) with
  | some h => (match decode (cdN y) h.2.2.1 with
    | .ok (.astore_n k, 1) => some (h.2.2.1 + 1, k)
    | .ok (.astore i, 2) => some (h.2.2.1 + 2, i)
    | _ => none)
  | none => none
/-- by fuel -/
def exF : Nat → Nat → Nat → LL → List Value → MM → Option OO
  | 0, _, _, _, _, _ => none
  | f + 1, y, pc, L, st, σ => match decode (cdN y) pc with
    | .ok (i, len) => (match stp y pc i len L st σ with
      | some (.inl (pc1, L1, st1, σ1)) => exF f y pc1 L1 st1 σ1
      | some (.inr (.inl (t, as, r))) => (match exF f t 0 (en t as) [] σ with
        | some (.inl v, σ1) => exF f y (pc + 3) L (v.toList ++ r) σ1
        | some (.inr E, σ1) => if hhN y = [] then some (.inr E, σ1) else (match hnd y pc E with
          | some (pc1, i) => if i < L.length ∧ ncA L i = true then exF f y pc1 (L.set i none) [] σ1 else none
          | none => none)
        | none => none)
      | some (.inr (.inr o)) => some o
      | none => none)
    | _ => none
