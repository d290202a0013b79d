/-! ===== the operations on the whole state: (thrown or 0, the answer, the state behind) ===== -/
def txtG (T : Int → Int) (n z : Int) : Int → Int := fun i => if n ≤ i ∧ i < n + 4 then byt4 z (i - n) else T i
def oAppend (S : GS) (a b c d e : Int) : Int × Int × GS := if gL S + 20 ≤ 500 then (0, gL S + 20, sL S (gL S + 20, txtG (txtG (txtG (txtG (txtG (gT S) (gL S) a) (gL S + 4) b) (gL S + 8) c) (gL S + 12) d) (gL S + 16) e)) else (1, 0, S)
def oTruncate (S : GS) (z : Int) : Int × Int × GS := if 0 ≤ z ∧ z ≤ gL S then (0, z, sL S (z, gT S)) else (1, 0, S)
def oLoad (S : GS) : Int × Int × GS := if (confP (gT S) (gL S)).1 = 0 then (0, (confP (gT S) (gL S)).2.2 0 4, sH (sA (sE (sL S (0, gT S)) (0, -1)) (confP (gT S) (gL S)).2.2) (gH S, 0)) else (1, 0, sE (sL S (0, gT S)) ((confP (gT S) (gL S)).1, (confP (gT S) (gL S)).2.1))
/-- a question: c says whether it may be asked -/
def oAsk (S : GS) (c : Bool) (z : Int) : Int × Int × GS := if c then (0, z, S) else (1, 0, S)
/-- a question with two conditions -/
def oAsk2 (S : GS) (c d : Bool) (z : Int) : Int × Int × GS := if c then (if d then (0, z, S) else (2, 0, S)) else (1, 0, S)
def isF (S : GS) (f : Int) : Bool := decide (0 ≤ f ∧ f < gA S 0 6)
def isM (S : GS) (m : Int) : Bool := decide (0 ≤ m ∧ m < gA S 0 5)
def isT (t : Int) : Bool := decide (0 ≤ t ∧ t ≤ 999999)
/-- the first of m ticks from t on at which c, else d -/
def fstN (c : Int → Bool) (d : Int) : Nat → Int → Int
  | 0, _ => d
  | m + 1, t => if c t then t else fstN c d m (t + 1)
/-- m ticks from t on, r of them quiet: the first of k quiet ones -/
def quiN (c : Int → Bool) (k : Int) : Nat → Int → Int → Int
  | 0, _, _ => -1
  | m + 1, t, r => if (if c t then 0 else r + 1) = k then t - k + 1 else quiN c k m (t + 1) (if c t then 0 else r + 1)
/-- m bits from i on: the first that isn't taken from its place -/
def safN (dr : Int) : Nat → Int → Int
  | 0, i => i
  | m + 1, i => if tkI i dr = i then safN dr m (i + 1) else i
/-- m from i on: the first with result 0, else -1 -/
def sucN (r : Int → Int) : Nat → Int → Int
  | 0, _ => -1
  | m + 1, i => if r i = 0 then i else sucN r m (i + 1)
def takB (A : AV) (f t b : Int) : Int := takZ (cabZ (SfA A f) (chA A t (A 0 0))) (A 6 f * 8) (A 0 1) b
def wrgA (A : AV) (f t : Int) : Int := sumF (fun b => if takB A f t b = bitZ (SfA A f) b then 0 else 1) (A 6 f * 8).toNat
/-- an operation on the modem that is kept among those before -/
def oDo (S : GS) (z : Int) (A : AV) : Int × Int × GS := (0, z, sA (keepG S) A)
def oSend (S : GS) : Int × Int × GS := if 1 ≤ gL S ∧ gL S ≤ 16 then (if gA S 0 5 < 12 then (0, gA S 0 5, sL (sA (keepG S) (addA (gA S) (bfA (gT S) 0 (gL S)) (gL S))) (0, gT S)) else (2, 0, S)) else (1, 0, S)
def oTransmit (S : GS) (z : Int) : Int × Int × GS := if 1 ≤ z ∧ z ≤ 60 then (if gA S 0 7 ≤ 900000 then oDo S (mkS z.toNat (gA S)).1 (mkS z.toNat (gA S)).2 else (2, 0, S)) else (1, 0, S)
def oCancel (S : GS) (m : Int) : Int × Int × GS := if 0 ≤ m ∧ m < gA S 0 5 then (if stD (gA S) m = 0 then oDo S (gvA (gA S) m).1 (gvA (gA S) m).2 else (2, 0, S)) else (1, 0, S)
def oResend (S : GS) (m : Int) : Int × Int × GS := if 0 ≤ m ∧ m < gA S 0 5 then (if stD (gA S) m = 2 ∧ gA S 0 5 < 12 then oDo S (gA S 0 5) (addA (gA S) (txtA (gA S) m) (gA S 4 m)) else (2, 0, S)) else (1, 0, S)
def oWait (S : GS) (z : Int) : Int × Int × GS := if 1 ≤ z ∧ z ≤ 999 then (if gA S 0 7 + z ≤ 900000 then oDo S (gA S 0 7 + z) (waitA (gA S) z) else (2, 0, S)) else (1, 0, S)
def oDrift (S : GS) (z : Int) : Int × Int × GS := if -99 ≤ z ∧ z ≤ 99 then oDo S (gA S 0 1) (up2 (gA S) 0 1 z) else (1, 0, S)
def oDog (S : GS) (a b c : Int) : Int × Int × GS := if (2 ≤ a ∧ a ≤ 999) ∧ (1 ≤ b ∧ b < a) ∧ (0 ≤ c ∧ c ≤ 999) then (if gA S 0 4 < 3 then oDo S (gA S 0 4) (dogA (gA S) a b c) else (2, 0, S)) else (1, 0, S)
def oRemove (S : GS) (d : Int) : Int × Int × GS := if 0 ≤ d ∧ d < gA S 0 4 then oDo S (gA S 0 4 - 1) (rmA (gA S) d) else (1, 0, S)
def oUndo (S : GS) : Int × Int × GS := if 0 < gN S then (0, gN S - 1, sH (sA S (gH S (gN S - 1))) (gH S, gN S - 1)) else (1, 0, S)
def oSave (S : GS) : Int × Int × GS := (0, gA S 0 7, sV S (true, gA S))
def oRestore (S : GS) : Int × Int × GS := if gV S = true then (0, gW S 0 7, sH (sA S (gW S)) (gH S, 0)) else (1, 0, S)
/-- the output of bits: so many, a blank before each eighth -/
def outN (cb : Int → Int) : Nat → Int × (Int → Int) → Int × (Int → Int)
  | 0, M => M
  | b + 1, M =>
    let N := outN cb b M
    let P := if 0 < b ∧ b % 8 = 0 then (N.1 + 1, fun i => if i = N.1 then 32 else N.2 i) else N
    (P.1 + 1, fun i => if i = P.1 then (if cb b = 0 then 46 else 42) else P.2 i)
def oFormat (S : GS) (f t : Int) : Int × Int × GS := if isF S f then (if isT t then (0, (outN (cabZ (SfA (gA S) f) (chA (gA S) t (gA S 0 0))) (gA S 6 f * 8).toNat (0, gO S)).1, sM S (outN (cabZ (SfA (gA S) f) (chA (gA S) t (gA S 0 0))) (gA S 6 f * 8).toNat (0, gO S))) else (2, 0, S)) else (1, 0, S)
