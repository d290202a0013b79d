/-- the throws: method, pc, which exception (0 argument, 1 state, 2 index), the pool's entries of class, text, constructor; wide text; the text's number -/
def xtL : List ((Nat × Nat) × Nat × Nat × Nat × Nat × Bool × Nat) := [
  ((76, 16), 1, 93, 95, 97, false, 20), ((77, 15), 0, 103, 105, 107, false, 21), ((78, 24), 0, 103, 112, 107, false, 22), ((79, 22), 0, 103, 127, 107, false, 23), ((88, 12), 0, 103, 159, 107, false, 24),
  ((103, 10), 0, 103, 215, 107, false, 25), ((110, 16), 0, 103, 241, 107, false, 26), ((110, 58), 0, 103, 246, 107, false, 27), ((127, 23), 0, 103, 311, 107, true, 28), ((127, 44), 1, 93, 316, 97, true, 29),
  ((128, 11), 0, 103, 318, 107, true, 30), ((128, 32), 1, 93, 323, 97, true, 31), ((129, 16), 1, 93, 328, 97, true, 32), ((130, 16), 1, 93, 336, 97, true, 33), ((131, 12), 0, 103, 341, 107, true, 34),
  ((131, 34), 1, 93, 346, 97, true, 35), ((132, 12), 0, 103, 351, 107, true, 36), ((133, 33), 0, 103, 353, 107, true, 37), ((133, 58), 1, 93, 355, 97, true, 38), ((134, 18), 2, 357, 359, 361, true, 39),
  ((135, 10), 1, 93, 366, 97, true, 40), ((137, 7), 1, 93, 375, 97, true, 41), ((140, 18), 2, 357, 383, 361, true, 42), ((141, 15), 2, 357, 385, 361, true, 43), ((142, 11), 0, 103, 388, 107, true, 44)
  ]
def xtN (y pc : Nat) : Option (Nat × Nat × Nat × Nat × Bool × Nat) := (xtL.find? (fun e => e.1.1 == y && e.1.2 == pc)).map (fun e => e.2)
def exc (e : Nat) : String := ["java/lang/IllegalArgumentException", "java/lang/IllegalStateException", "java/lang/IndexOutOfBoundsException"].getD e ""
/-- texts by reference: class, entry; their number -/
def ksL : List ((Nat × Nat) × Nat) := [
  ((0, 59), 0), ((0, 65), 1), ((0, 67), 2), ((0, 69), 3), ((0, 71), 4), ((0, 73), 5), ((0, 75), 6), ((0, 77), 7),
  ((5, 102), 8), ((5, 127), 9), ((10, 44), 10), ((10, 241), 11), ((10, 259), 12), ((10, 281), 13), ((10, 283), 14), ((10, 285), 15),
  ((10, 287), 16), ((10, 289), 17), ((10, 291), 18), ((10, 293), 19), ((9, 95), 20), ((9, 105), 21), ((9, 112), 22), ((9, 127), 23),
  ((9, 159), 24), ((9, 215), 25), ((9, 241), 26), ((9, 246), 27), ((9, 311), 28), ((9, 316), 29), ((9, 318), 30), ((9, 323), 31),
  ((9, 328), 32), ((9, 336), 33), ((9, 341), 34), ((9, 346), 35), ((9, 351), 36), ((9, 353), 37), ((9, 355), 38), ((9, 359), 39),
  ((9, 366), 40), ((9, 375), 41), ((9, 383), 42), ((9, 385), 43), ((9, 388), 44)
  ]
def ksN (o i : Nat) : Option Nat := (ksL.find? (fun e => e.1.1 == o && e.1.2 == i)).map (fun e => e.2)
def ksE (j : Nat) : (Nat × Nat) := (ksL.getD j ((0, 0), 0)).1
def ksW : List String := [
  "send", "transmit",
  "cancel", "resend",
  "wait", "drift",
  "dog", "chase",
  "modem", "dog",
  "modem 2 100 10 4;dog 200 30 20;", "modem",
  "dog", "wait",
  "drift", "chase",
  "send", "transmit",
  "cancel", "resend",
  "the input buffer would exceed 500 bytes", "the length is not one of 0 to the current length",
  "the configuration has an error", "the command text has an error",
  "the number of ticks is not one of 1 to 500", "the bit is not one of 0 to 99",
  "the pattern is not one of 1 to 65535", "the frame does not have all bits of the pattern",
  "the input buffer does not contain 1 to 16 bytes", "there are 12 messages",
  "the number of attempts is not one of 1 to 60", "the clock is greater than 900000",
  "the message is not PENDING", "the message is not LOST, or there are 12 messages",
  "the number of ticks is not one of 1 to 999", "the clock would exceed 900000",
  "the drift is not one of -99 to 99", "a parameter of the dog is out of range",
  "there are 3 dogs", "there is no such dog",
  "there is no operation to undo", "there is no saved state",
  "there is no such frame", "there is no such message",
  "the tick is not one of 0 to 999999"
  ]
def ksX (j : Nat) : String := ksW.getD j ""
/-- the number of texts whose contents are known; of all texts -/
def nTC : Nat := 20
def nTX : Nat := 45
def ksT : List (List Int32) := [
  [115, 101, 110, 100], [116, 114, 97, 110, 115, 109, 105, 116], [99, 97, 110, 99, 101, 108], [114, 101, 115, 101, 110, 100],
  [119, 97, 105, 116], [100, 114, 105, 102, 116], [100, 111, 103], [99, 104, 97, 115, 101],
  [109, 111, 100, 101, 109], [100, 111, 103], [109, 111, 100, 101, 109, 32, 50, 32, 49, 48, 48, 32, 49, 48, 32, 52, 59, 100, 111, 103, 32, 50, 48, 48, 32, 51, 48, 32, 50, 48, 59], [109, 111, 100, 101, 109],
  [100, 111, 103], [119, 97, 105, 116], [100, 114, 105, 102, 116], [99, 104, 97, 115, 101],
  [115, 101, 110, 100], [116, 114, 97, 110, 115, 109, 105, 116], [99, 97, 110, 99, 101, 108], [114, 101, 115, 101, 110, 100]
  ]
def ksB (i : Nat) : List Int32 := ksT.getD i []
def ksLn : List Nat := [
  4, 8, 6, 6, 4, 5, 3, 5, 5, 3, 31, 5, 3, 4, 5, 5, 4, 8, 6, 6
  ]
def ksLen (i : Nat) : Nat := ksLn.getD i 0
def exL : List ((Nat × Nat) × Nat) := [
  ((9, 93), 1), ((9, 103), 0), ((9, 357), 2), ((11, 13), 1), ((11, 19), 0), ((11, 41), 2)
  ]
def exN (o i : Nat) : Option Nat := (exL.find? (fun e => e.1.1 == o && e.1.2 == i)).map (fun e => e.2)
/-- constructors -/
def inL : List Bool := [true, false, false, false, false, false, false, false, false, true, false, false, true, false, false, false, false, true, false, false, false, false, false, false, false, false, false, false, true, false, false, false, true, false, false, false, false, false, false, false, false, false, false, false, false, false, false, false, false, false, false, false, false, false, false, true, false, false, false, false, false, false, true, false, false, false, true, false, false, false, false, false, false, false, false, true, false, false, false, false, false, false, false, false, false, false, false, false, false, false, false, false, false, false, false, false, false, false, false, false, false, false, false, false, false, false, false, false, false, false, false, false, false, false, false, false, false, false, false, false, false, false, false, false, false, false, false, false, false, false, false, false, false, false, false, false, false, false, false, false, false, false, false, false, false, false, true, false, false, false, false, false, false, false, false, false, false, false, false, false, false, false, false, false, false, false, false, false, false, false, false, false, false, false, false, false, false, false, false, false, false, false, false, false, false, false, false, false, false, false, false, false, false, false, false, false, false, false, false, false, false, false, false, false, false, false, false, false, false, false, false, false, false, false, false, false, false, false, false, false, false, false, false, false, false, false, false, false, false, false, false, false, false, false, false, false, false, false, false, false, false, false, false, false, false, false, false, false, false, false, false, false, false, false, false, false, false, false, false, false, false, false, false, false, false, false, false, false, false, false, false, false, false, false, false, false, false, false, false, false, false, false, false, false, false, false, false, false, false, false, false, false, false, false, false, false, false, false, false, false, false, false, false, false, false, false, false, false, false, false, false, false, false, false, false, false, false, false, false, false, false, false, false, false, false, false, false, false, false, false, false, false, false]
def inN (y : Nat) : Bool := inL.getD y false
def NMM : Nat := 333
