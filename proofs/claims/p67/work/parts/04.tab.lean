/-- the throws: method, pc, which exception (0 argument, 1 state, 2 index), the pool's entries of class, text, constructor; wide text; the text's number -/
def xtL : List ((Nat × Nat) × Nat × Nat × Nat × Nat × Bool × Nat) := [
  ((76, 16), 1, 93, 95, 97, false, 4), ((77, 15), 0, 103, 105, 107, false, 5), ((78, 24), 0, 103, 112, 107, false, 6), ((88, 12), 0, 103, 159, 107, false, 7), ((103, 10), 0, 103, 215, 107, false, 8),
  ((110, 16), 0, 103, 241, 107, false, 9), ((110, 58), 0, 103, 246, 107, false, 10), ((127, 23), 0, 103, 311, 107, true, 11), ((127, 44), 1, 93, 316, 97, true, 12), ((128, 11), 0, 103, 318, 107, true, 13),
  ((128, 32), 1, 93, 323, 97, true, 14), ((129, 16), 1, 93, 328, 97, true, 15), ((130, 16), 1, 93, 336, 97, true, 16), ((131, 12), 0, 103, 341, 107, true, 17), ((131, 34), 1, 93, 346, 97, true, 18),
  ((132, 12), 0, 103, 351, 107, true, 19), ((133, 33), 0, 103, 353, 107, true, 20), ((133, 58), 1, 93, 355, 97, true, 21), ((134, 18), 2, 357, 359, 361, true, 22), ((135, 10), 1, 93, 366, 97, true, 23),
  ((137, 7), 1, 93, 375, 97, true, 24), ((140, 18), 2, 357, 383, 361, true, 25), ((141, 15), 2, 357, 385, 361, true, 26), ((142, 11), 0, 103, 388, 107, true, 27)
  ]
def xtN (y pc : Nat) : Option (Nat × Nat × Nat × Nat × Bool × Nat) := (xtL.find? (fun e => e.1.1 == y && e.1.2 == pc)).map (fun e => e.2)
def exc (e : Nat) : String := ["java/lang/IllegalArgumentException", "java/lang/IllegalStateException", "java/lang/IndexOutOfBoundsException"].getD e ""
/-- texts by reference: class, entry; their number -/
def ksL : List ((Nat × Nat) × Nat) := [
  ((5, 102), 0), ((5, 127), 1), ((11, 270), 2), ((11, 282), 3), ((9, 95), 4), ((9, 105), 5), ((9, 112), 6), ((9, 159), 7),
  ((9, 215), 8), ((9, 241), 9), ((9, 246), 10), ((9, 311), 11), ((9, 316), 12), ((9, 318), 13), ((9, 323), 14), ((9, 328), 15),
  ((9, 336), 16), ((9, 341), 17), ((9, 346), 18), ((9, 351), 19), ((9, 353), 20), ((9, 355), 21), ((9, 359), 22), ((9, 366), 23),
  ((9, 375), 24), ((9, 383), 25), ((9, 385), 26), ((9, 388), 27)
  ]
def ksN (o i : Nat) : Option Nat := (ksL.find? (fun e => e.1.1 == o && e.1.2 == i)).map (fun e => e.2)
def ksE (j : Nat) : (Nat × Nat) := (ksL.getD j ((0, 0), 0)).1
def ksW : List String := [
  "modem", "dog",
  "modem ", "dog ",
  "the input buffer would exceed 500 bytes", "the length is not one of 0 to the current length",
  "the configuration has an error", "the number of ticks is not one of 1 to 500",
  "the bit is not one of 0 to 99", "the pattern is not one of 1 to 65535",
  "the frame does not have all bits of the pattern", "the input buffer does not contain 1 to 16 bytes",
  "there are 12 messages", "the number of attempts is not one of 1 to 60",
  "the clock is greater than 900000", "the message is not PENDING",
  "the message is not LOST, or there are 12 messages", "the number of ticks is not one of 1 to 999",
  "the clock would exceed 900000", "the drift is not one of -99 to 99",
  "a parameter of the dog is out of range", "there are 3 dogs",
  "there is no such dog", "there is no operation to undo",
  "there is no saved state", "there is no such frame",
  "there is no such message", "the tick is not one of 0 to 999999"
  ]
def ksX (j : Nat) : String := ksW.getD j ""
/-- the number of texts whose contents are known; of all texts -/
def nTC : Nat := 4
def nTX : Nat := 28
def ksT : List (List Int32) := [
  [109, 111, 100, 101, 109], [100, 111, 103], [109, 111, 100, 101, 109, 32], [100, 111, 103, 32]
  ]
def ksB (i : Nat) : List Int32 := ksT.getD i []
def ksLn : List Nat := [
  5, 3, 6, 4
  ]
def ksLen (i : Nat) : Nat := ksLn.getD i 0
def exL : List ((Nat × Nat) × Nat) := [
  ((9, 93), 1), ((9, 103), 0), ((9, 357), 2), ((11, 20), 0), ((11, 86), 2), ((11, 88), 1),
  ((18, 43), 0)
  ]
def exN (o i : Nat) : Option Nat := (exL.find? (fun e => e.1.1 == o && e.1.2 == i)).map (fun e => e.2)
/-- constructors -/
def inL : List Bool := [true, true, true, true, true, true, true, true, true, true, false, false, true, false, false, false, false, true, false, false, false, false, false, false, false, false, false, false, true, false, false, false, true, false, false, false, false, false, false, false, false, false, false, false, false, false, false, false, false, false, false, false, false, false, false, true, false, false, false, false, false, false, true, false, false, false, true, false, false, false, false, false, false, false, false, true, false, false, false, true, true, true, false, false, false, false, false, false, false, true, false, false, false, false, false, false, false, false, false, false, false, false, false, false, false, false, false, false, false, false, false, false, true, false, false, false, false, false, false, false, false, false, false, false, false, false, false, false, false, false, false, false, false, false, false, false, false, false, true, true, false, false, false, false, false, false, true, true, false, false, false, false, false, true, true, false, false, false, false, false, false, false, false, false, false, true, true, false, false, false, false, false, false, false, false, false, false, false, false, false, false, false, false, false, true, true, true, true, true, true, true, true, true, true, true, true, true, true, true, true, true, true, true, true, true, true, true, true, true, true, true, true, true, true, true, true, true, true, true, true, true, true, true, true, true, true, true, true, true, true, true, true, true, true, true, true, true, true, true, true, true, true, true, true, true, true, true, true, true, true, true, true, true, true, true, true, true, true, true, true, true, true, true, true, true, true, true, true, true, true, true, true, true, true, true, true, true, true, true, true, true, true, true, true, true, true, true, true, true, true, true, true, true, true, true, true, true, true, true, true, false, false, false, false, false, false, false, false, false, false, false, false, true, true, true, true, true, true, true, true, true, true, true, true, true, true, true, true, true, true, true, true, false]
def inN (y : Nat) : Bool := inL.getD y false
def NMM : Nat := 333
