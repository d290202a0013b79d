/-! ===== the layout after construction ===== -/
def K0L : List Nat := [95, 75, 5000, 75, 530, 85, 5, 300, 300, 300, 300, 65, 480, 60, 45, 81, 55, 120, 120, 25, 30, 30, 30, 35, 480, 480, 480, 480, 2880, 2880, 15, 55, 120, 120, 25, 30, 30, 30, 35, 480, 480, 480, 480, 2880, 2880, 15, 55, 120, 120, 25, 30, 30, 30, 35, 480, 480, 480, 480, 2880, 2880, 15, 55, 120, 120, 25, 30, 30, 30, 35, 480, 480, 480, 480, 2880, 2880, 15, 55, 120, 120, 25, 30, 30, 30, 35, 480, 480, 480, 480, 2880, 2880, 15, 55, 120, 120, 25, 30, 30, 30, 35, 480, 480, 480, 480, 2880, 2880, 15, 55, 120, 120, 25, 30, 30, 30, 35, 480, 480, 480, 480, 2880, 2880, 15, 55, 120, 120, 25, 30, 30, 30, 35, 480, 480, 480, 480, 2880, 2880, 15, 55, 120, 120, 25, 30, 30, 30, 35, 480, 480, 480, 480, 2880, 2880, 15, 55, 120, 120, 25, 30, 30, 30, 35, 480, 480, 480, 480, 2880, 2880, 15, 55, 120, 120, 25, 30, 30, 30, 35, 480, 480, 480, 480, 2880, 2880, 15]
def K0 (a : Nat) : Nat := K0L.getD a 0
def R0L : List (List (Option Nat)) := [[some 1, some 3, some 5, some 6, some 11, some 14, some 136, some 151, some 166], [some 2], [], [some 4], [], [some 1], [none, some 7, some 8, some 9, some 10], [], [], [], [], [some 12, some 13], [], [], [none, none, some 15], [some 16, some 31, some 46, some 61, some 76, some 91, some 106, some 121], [none, none, none, none, none, none, none, none, some 17, some 18, some 19, some 23, some 30], [], [], [none, some 20, some 21, some 22], [], [], [], [none, some 24, some 25, some 26, some 27, some 28, some 29], [], [], [], [], [], [], [], [none, none, none, none, none, none, none, none, some 32, some 33, some 34, some 38, some 45], [], [], [none, some 35, some 36, some 37], [], [], [], [none, some 39, some 40, some 41, some 42, some 43, some 44], [], [], [], [], [], [], [], [none, none, none, none, none, none, none, none, some 47, some 48, some 49, some 53, some 60], [], [], [none, some 50, some 51, some 52], [], [], [], [none, some 54, some 55, some 56, some 57, some 58, some 59], [], [], [], [], [], [], [], [none, none, none, none, none, none, none, none, some 62, some 63, some 64, some 68, some 75], [], [], [none, some 65, some 66, some 67], [], [], [], [none, some 69, some 70, some 71, some 72, some 73, some 74], [], [], [], [], [], [], [], [none, none, none, none, none, none, none, none, some 77, some 78, some 79, some 83, some 90], [], [], [none, some 80, some 81, some 82], [], [], [], [none, some 84, some 85, some 86, some 87, some 88, some 89], [], [], [], [], [], [], [], [none, none, none, none, none, none, none, none, some 92, some 93, some 94, some 98, some 105], [], [], [none, some 95, some 96, some 97], [], [], [], [none, some 99, some 100, some 101, some 102, some 103, some 104], [], [], [], [], [], [], [], [none, none, none, none, none, none, none, none, some 107, some 108, some 109, some 113, some 120], [], [], [none, some 110, some 111, some 112], [], [], [], [none, some 114, some 115, some 116, some 117, some 118, some 119], [], [], [], [], [], [], [], [none, none, none, none, none, none, none, none, some 122, some 123, some 124, some 128, some 135], [], [], [none, some 125, some 126, some 127], [], [], [], [none, some 129, some 130, some 131, some 132, some 133, some 134], [], [], [], [], [], [], [], [none, none, none, none, none, none, none, none, some 137, some 138, some 139, some 143, some 150], [], [], [none, some 140, some 141, some 142], [], [], [], [none, some 144, some 145, some 146, some 147, some 148, some 149], [], [], [], [], [], [], [], [none, none, none, none, none, none, none, none, some 152, some 153, some 154, some 158, some 165], [], [], [none, some 155, some 156, some 157], [], [], [], [none, some 159, some 160, some 161, some 162, some 163, some 164], [], [], [], [], [], [], [], [none, none, none, none, none, none, none, none, some 167, some 168, some 169, some 173, some 180], [], [], [none, some 170, some 171, some 172], [], [], [], [none, some 174, some 175, some 176, some 177, some 178, some 179], [], [], [], [], [], [], []]
def R0 (a j : Nat) : Option Nat := (R0L.getD a []).getD j none
/-- the memory with this layout: the number of places, the ints, the long cell, whether cells are counted -/
def mm (q : Nat) (I : Nat → Int → Int) (v : Int) (fr : Bool) : MM := (I, R0, K0, q, v, fr)
section Lay
variable {q : Nat} {I : Nat → Int → Int} {v : Int} {fr : Bool}
theorem ko_of {a c N : Nat} (h : a < N) (hK : K0 a = 10 * c + 5) (hq : N ≤ q) : isO (mm q I v fr) a c := ⟨Nat.lt_of_lt_of_le h hq, hK⟩
theorem ka_of {a n N : Nat} (h : a < N) (hK : K0 a = 10 * n) (hq : N ≤ q) : isA (mm q I v fr) a n := ⟨Nat.lt_of_lt_of_le h hq, hK⟩
theorem kr_of {a n N : Nat} (h : a < N) (hK : K0 a = 10 * n + 1) (hq : N ≤ q) : isR (mm q I v fr) a n := ⟨Nat.lt_of_lt_of_le h hq, hK⟩
theorem ko0 (hq : 181 ≤ q) : isO (mm q I v fr) 0 9 := ko_of (N := 181) (by decide) (by decide +kernel) hq
theorem ko1 (hq : 181 ≤ q) : isO (mm q I v fr) 1 7 := ko_of (N := 181) (by decide) (by decide +kernel) hq
theorem ka2 (hq : 181 ≤ q) : isA (mm q I v fr) 2 500 := ka_of (N := 181) (by decide) (by decide +kernel) hq
theorem ko3 (hq : 181 ≤ q) : isO (mm q I v fr) 3 7 := ko_of (N := 181) (by decide) (by decide +kernel) hq
theorem ka4 (hq : 181 ≤ q) : isA (mm q I v fr) 4 53 := ka_of (N := 181) (by decide) (by decide +kernel) hq
theorem ko5 (hq : 181 ≤ q) : isO (mm q I v fr) 5 8 := ko_of (N := 181) (by decide) (by decide +kernel) hq
theorem ko6 (hq : 181 ≤ q) : isO (mm q I v fr) 6 0 := ko_of (N := 181) (by decide) (by decide +kernel) hq
theorem ka7 (hq : 181 ≤ q) : isA (mm q I v fr) 7 30 := ka_of (N := 181) (by decide) (by decide +kernel) hq
theorem ka8 (hq : 181 ≤ q) : isA (mm q I v fr) 8 30 := ka_of (N := 181) (by decide) (by decide +kernel) hq
theorem ka9 (hq : 181 ≤ q) : isA (mm q I v fr) 9 30 := ka_of (N := 181) (by decide) (by decide +kernel) hq
theorem ka10 (hq : 181 ≤ q) : isA (mm q I v fr) 10 30 := ka_of (N := 181) (by decide) (by decide +kernel) hq
theorem ko11 (hq : 181 ≤ q) : isO (mm q I v fr) 11 6 := ko_of (N := 181) (by decide) (by decide +kernel) hq
theorem ka12 (hq : 181 ≤ q) : isA (mm q I v fr) 12 48 := ka_of (N := 181) (by decide) (by decide +kernel) hq
theorem ka13 (hq : 181 ≤ q) : isA (mm q I v fr) 13 6 := ka_of (N := 181) (by decide) (by decide +kernel) hq
theorem ko14 (hq : 181 ≤ q) : isO (mm q I v fr) 14 4 := ko_of (N := 181) (by decide) (by decide +kernel) hq
theorem kr15 (hq : 181 ≤ q) : isR (mm q I v fr) 15 8 := kr_of (N := 181) (by decide) (by decide +kernel) hq
theorem ko16 (hq : 181 ≤ q) : isO (mm q I v fr) 16 5 := ko_of (N := 181) (by decide) (by decide +kernel) hq
theorem ka17 (hq : 181 ≤ q) : isA (mm q I v fr) 17 12 := ka_of (N := 181) (by decide) (by decide +kernel) hq
theorem ka18 (hq : 181 ≤ q) : isA (mm q I v fr) 18 12 := ka_of (N := 181) (by decide) (by decide +kernel) hq
theorem ko19 (hq : 181 ≤ q) : isO (mm q I v fr) 19 2 := ko_of (N := 181) (by decide) (by decide +kernel) hq
theorem ka20 (hq : 181 ≤ q) : isA (mm q I v fr) 20 3 := ka_of (N := 181) (by decide) (by decide +kernel) hq
theorem ka21 (hq : 181 ≤ q) : isA (mm q I v fr) 21 3 := ka_of (N := 181) (by decide) (by decide +kernel) hq
theorem ka22 (hq : 181 ≤ q) : isA (mm q I v fr) 22 3 := ka_of (N := 181) (by decide) (by decide +kernel) hq
theorem ko23 (hq : 181 ≤ q) : isO (mm q I v fr) 23 3 := ko_of (N := 181) (by decide) (by decide +kernel) hq
theorem ka24 (hq : 181 ≤ q) : isA (mm q I v fr) 24 48 := ka_of (N := 181) (by decide) (by decide +kernel) hq
theorem ka25 (hq : 181 ≤ q) : isA (mm q I v fr) 25 48 := ka_of (N := 181) (by decide) (by decide +kernel) hq
theorem ka26 (hq : 181 ≤ q) : isA (mm q I v fr) 26 48 := ka_of (N := 181) (by decide) (by decide +kernel) hq
theorem ka27 (hq : 181 ≤ q) : isA (mm q I v fr) 27 48 := ka_of (N := 181) (by decide) (by decide +kernel) hq
theorem ka28 (hq : 181 ≤ q) : isA (mm q I v fr) 28 288 := ka_of (N := 181) (by decide) (by decide +kernel) hq
theorem ka29 (hq : 181 ≤ q) : isA (mm q I v fr) 29 288 := ka_of (N := 181) (by decide) (by decide +kernel) hq
theorem ko30 (hq : 181 ≤ q) : isO (mm q I v fr) 30 1 := ko_of (N := 181) (by decide) (by decide +kernel) hq
theorem ko31 (hq : 181 ≤ q) : isO (mm q I v fr) 31 5 := ko_of (N := 181) (by decide) (by decide +kernel) hq
theorem ka32 (hq : 181 ≤ q) : isA (mm q I v fr) 32 12 := ka_of (N := 181) (by decide) (by decide +kernel) hq
theorem ka33 (hq : 181 ≤ q) : isA (mm q I v fr) 33 12 := ka_of (N := 181) (by decide) (by decide +kernel) hq
theorem ko34 (hq : 181 ≤ q) : isO (mm q I v fr) 34 2 := ko_of (N := 181) (by decide) (by decide +kernel) hq
theorem ka35 (hq : 181 ≤ q) : isA (mm q I v fr) 35 3 := ka_of (N := 181) (by decide) (by decide +kernel) hq
theorem ka36 (hq : 181 ≤ q) : isA (mm q I v fr) 36 3 := ka_of (N := 181) (by decide) (by decide +kernel) hq
theorem ka37 (hq : 181 ≤ q) : isA (mm q I v fr) 37 3 := ka_of (N := 181) (by decide) (by decide +kernel) hq
theorem ko38 (hq : 181 ≤ q) : isO (mm q I v fr) 38 3 := ko_of (N := 181) (by decide) (by decide +kernel) hq
theorem ka39 (hq : 181 ≤ q) : isA (mm q I v fr) 39 48 := ka_of (N := 181) (by decide) (by decide +kernel) hq
theorem ka40 (hq : 181 ≤ q) : isA (mm q I v fr) 40 48 := ka_of (N := 181) (by decide) (by decide +kernel) hq
theorem ka41 (hq : 181 ≤ q) : isA (mm q I v fr) 41 48 := ka_of (N := 181) (by decide) (by decide +kernel) hq
theorem ka42 (hq : 181 ≤ q) : isA (mm q I v fr) 42 48 := ka_of (N := 181) (by decide) (by decide +kernel) hq
theorem ka43 (hq : 181 ≤ q) : isA (mm q I v fr) 43 288 := ka_of (N := 181) (by decide) (by decide +kernel) hq
theorem ka44 (hq : 181 ≤ q) : isA (mm q I v fr) 44 288 := ka_of (N := 181) (by decide) (by decide +kernel) hq
theorem ko45 (hq : 181 ≤ q) : isO (mm q I v fr) 45 1 := ko_of (N := 181) (by decide) (by decide +kernel) hq
theorem ko46 (hq : 181 ≤ q) : isO (mm q I v fr) 46 5 := ko_of (N := 181) (by decide) (by decide +kernel) hq
theorem ka47 (hq : 181 ≤ q) : isA (mm q I v fr) 47 12 := ka_of (N := 181) (by decide) (by decide +kernel) hq
theorem ka48 (hq : 181 ≤ q) : isA (mm q I v fr) 48 12 := ka_of (N := 181) (by decide) (by decide +kernel) hq
theorem ko49 (hq : 181 ≤ q) : isO (mm q I v fr) 49 2 := ko_of (N := 181) (by decide) (by decide +kernel) hq
theorem ka50 (hq : 181 ≤ q) : isA (mm q I v fr) 50 3 := ka_of (N := 181) (by decide) (by decide +kernel) hq
theorem ka51 (hq : 181 ≤ q) : isA (mm q I v fr) 51 3 := ka_of (N := 181) (by decide) (by decide +kernel) hq
theorem ka52 (hq : 181 ≤ q) : isA (mm q I v fr) 52 3 := ka_of (N := 181) (by decide) (by decide +kernel) hq
theorem ko53 (hq : 181 ≤ q) : isO (mm q I v fr) 53 3 := ko_of (N := 181) (by decide) (by decide +kernel) hq
theorem ka54 (hq : 181 ≤ q) : isA (mm q I v fr) 54 48 := ka_of (N := 181) (by decide) (by decide +kernel) hq
theorem ka55 (hq : 181 ≤ q) : isA (mm q I v fr) 55 48 := ka_of (N := 181) (by decide) (by decide +kernel) hq
theorem ka56 (hq : 181 ≤ q) : isA (mm q I v fr) 56 48 := ka_of (N := 181) (by decide) (by decide +kernel) hq
theorem ka57 (hq : 181 ≤ q) : isA (mm q I v fr) 57 48 := ka_of (N := 181) (by decide) (by decide +kernel) hq
theorem ka58 (hq : 181 ≤ q) : isA (mm q I v fr) 58 288 := ka_of (N := 181) (by decide) (by decide +kernel) hq
theorem ka59 (hq : 181 ≤ q) : isA (mm q I v fr) 59 288 := ka_of (N := 181) (by decide) (by decide +kernel) hq
theorem ko60 (hq : 181 ≤ q) : isO (mm q I v fr) 60 1 := ko_of (N := 181) (by decide) (by decide +kernel) hq
theorem ko61 (hq : 181 ≤ q) : isO (mm q I v fr) 61 5 := ko_of (N := 181) (by decide) (by decide +kernel) hq
theorem ka62 (hq : 181 ≤ q) : isA (mm q I v fr) 62 12 := ka_of (N := 181) (by decide) (by decide +kernel) hq
theorem ka63 (hq : 181 ≤ q) : isA (mm q I v fr) 63 12 := ka_of (N := 181) (by decide) (by decide +kernel) hq
theorem ko64 (hq : 181 ≤ q) : isO (mm q I v fr) 64 2 := ko_of (N := 181) (by decide) (by decide +kernel) hq
theorem ka65 (hq : 181 ≤ q) : isA (mm q I v fr) 65 3 := ka_of (N := 181) (by decide) (by decide +kernel) hq
theorem ka66 (hq : 181 ≤ q) : isA (mm q I v fr) 66 3 := ka_of (N := 181) (by decide) (by decide +kernel) hq
theorem ka67 (hq : 181 ≤ q) : isA (mm q I v fr) 67 3 := ka_of (N := 181) (by decide) (by decide +kernel) hq
theorem ko68 (hq : 181 ≤ q) : isO (mm q I v fr) 68 3 := ko_of (N := 181) (by decide) (by decide +kernel) hq
theorem ka69 (hq : 181 ≤ q) : isA (mm q I v fr) 69 48 := ka_of (N := 181) (by decide) (by decide +kernel) hq
theorem ka70 (hq : 181 ≤ q) : isA (mm q I v fr) 70 48 := ka_of (N := 181) (by decide) (by decide +kernel) hq
theorem ka71 (hq : 181 ≤ q) : isA (mm q I v fr) 71 48 := ka_of (N := 181) (by decide) (by decide +kernel) hq
theorem ka72 (hq : 181 ≤ q) : isA (mm q I v fr) 72 48 := ka_of (N := 181) (by decide) (by decide +kernel) hq
theorem ka73 (hq : 181 ≤ q) : isA (mm q I v fr) 73 288 := ka_of (N := 181) (by decide) (by decide +kernel) hq
theorem ka74 (hq : 181 ≤ q) : isA (mm q I v fr) 74 288 := ka_of (N := 181) (by decide) (by decide +kernel) hq
theorem ko75 (hq : 181 ≤ q) : isO (mm q I v fr) 75 1 := ko_of (N := 181) (by decide) (by decide +kernel) hq
theorem ko76 (hq : 181 ≤ q) : isO (mm q I v fr) 76 5 := ko_of (N := 181) (by decide) (by decide +kernel) hq
theorem ka77 (hq : 181 ≤ q) : isA (mm q I v fr) 77 12 := ka_of (N := 181) (by decide) (by decide +kernel) hq
theorem ka78 (hq : 181 ≤ q) : isA (mm q I v fr) 78 12 := ka_of (N := 181) (by decide) (by decide +kernel) hq
theorem ko79 (hq : 181 ≤ q) : isO (mm q I v fr) 79 2 := ko_of (N := 181) (by decide) (by decide +kernel) hq
theorem ka80 (hq : 181 ≤ q) : isA (mm q I v fr) 80 3 := ka_of (N := 181) (by decide) (by decide +kernel) hq
theorem ka81 (hq : 181 ≤ q) : isA (mm q I v fr) 81 3 := ka_of (N := 181) (by decide) (by decide +kernel) hq
theorem ka82 (hq : 181 ≤ q) : isA (mm q I v fr) 82 3 := ka_of (N := 181) (by decide) (by decide +kernel) hq
theorem ko83 (hq : 181 ≤ q) : isO (mm q I v fr) 83 3 := ko_of (N := 181) (by decide) (by decide +kernel) hq
theorem ka84 (hq : 181 ≤ q) : isA (mm q I v fr) 84 48 := ka_of (N := 181) (by decide) (by decide +kernel) hq
theorem ka85 (hq : 181 ≤ q) : isA (mm q I v fr) 85 48 := ka_of (N := 181) (by decide) (by decide +kernel) hq
theorem ka86 (hq : 181 ≤ q) : isA (mm q I v fr) 86 48 := ka_of (N := 181) (by decide) (by decide +kernel) hq
theorem ka87 (hq : 181 ≤ q) : isA (mm q I v fr) 87 48 := ka_of (N := 181) (by decide) (by decide +kernel) hq
theorem ka88 (hq : 181 ≤ q) : isA (mm q I v fr) 88 288 := ka_of (N := 181) (by decide) (by decide +kernel) hq
theorem ka89 (hq : 181 ≤ q) : isA (mm q I v fr) 89 288 := ka_of (N := 181) (by decide) (by decide +kernel) hq
theorem ko90 (hq : 181 ≤ q) : isO (mm q I v fr) 90 1 := ko_of (N := 181) (by decide) (by decide +kernel) hq
theorem ko91 (hq : 181 ≤ q) : isO (mm q I v fr) 91 5 := ko_of (N := 181) (by decide) (by decide +kernel) hq
theorem ka92 (hq : 181 ≤ q) : isA (mm q I v fr) 92 12 := ka_of (N := 181) (by decide) (by decide +kernel) hq
theorem ka93 (hq : 181 ≤ q) : isA (mm q I v fr) 93 12 := ka_of (N := 181) (by decide) (by decide +kernel) hq
theorem ko94 (hq : 181 ≤ q) : isO (mm q I v fr) 94 2 := ko_of (N := 181) (by decide) (by decide +kernel) hq
theorem ka95 (hq : 181 ≤ q) : isA (mm q I v fr) 95 3 := ka_of (N := 181) (by decide) (by decide +kernel) hq
theorem ka96 (hq : 181 ≤ q) : isA (mm q I v fr) 96 3 := ka_of (N := 181) (by decide) (by decide +kernel) hq
theorem ka97 (hq : 181 ≤ q) : isA (mm q I v fr) 97 3 := ka_of (N := 181) (by decide) (by decide +kernel) hq
theorem ko98 (hq : 181 ≤ q) : isO (mm q I v fr) 98 3 := ko_of (N := 181) (by decide) (by decide +kernel) hq
theorem ka99 (hq : 181 ≤ q) : isA (mm q I v fr) 99 48 := ka_of (N := 181) (by decide) (by decide +kernel) hq
theorem ka100 (hq : 181 ≤ q) : isA (mm q I v fr) 100 48 := ka_of (N := 181) (by decide) (by decide +kernel) hq
theorem ka101 (hq : 181 ≤ q) : isA (mm q I v fr) 101 48 := ka_of (N := 181) (by decide) (by decide +kernel) hq
theorem ka102 (hq : 181 ≤ q) : isA (mm q I v fr) 102 48 := ka_of (N := 181) (by decide) (by decide +kernel) hq
theorem ka103 (hq : 181 ≤ q) : isA (mm q I v fr) 103 288 := ka_of (N := 181) (by decide) (by decide +kernel) hq
theorem ka104 (hq : 181 ≤ q) : isA (mm q I v fr) 104 288 := ka_of (N := 181) (by decide) (by decide +kernel) hq
theorem ko105 (hq : 181 ≤ q) : isO (mm q I v fr) 105 1 := ko_of (N := 181) (by decide) (by decide +kernel) hq
theorem ko106 (hq : 181 ≤ q) : isO (mm q I v fr) 106 5 := ko_of (N := 181) (by decide) (by decide +kernel) hq
theorem ka107 (hq : 181 ≤ q) : isA (mm q I v fr) 107 12 := ka_of (N := 181) (by decide) (by decide +kernel) hq
theorem ka108 (hq : 181 ≤ q) : isA (mm q I v fr) 108 12 := ka_of (N := 181) (by decide) (by decide +kernel) hq
theorem ko109 (hq : 181 ≤ q) : isO (mm q I v fr) 109 2 := ko_of (N := 181) (by decide) (by decide +kernel) hq
theorem ka110 (hq : 181 ≤ q) : isA (mm q I v fr) 110 3 := ka_of (N := 181) (by decide) (by decide +kernel) hq
theorem ka111 (hq : 181 ≤ q) : isA (mm q I v fr) 111 3 := ka_of (N := 181) (by decide) (by decide +kernel) hq
theorem ka112 (hq : 181 ≤ q) : isA (mm q I v fr) 112 3 := ka_of (N := 181) (by decide) (by decide +kernel) hq
theorem ko113 (hq : 181 ≤ q) : isO (mm q I v fr) 113 3 := ko_of (N := 181) (by decide) (by decide +kernel) hq
theorem ka114 (hq : 181 ≤ q) : isA (mm q I v fr) 114 48 := ka_of (N := 181) (by decide) (by decide +kernel) hq
theorem ka115 (hq : 181 ≤ q) : isA (mm q I v fr) 115 48 := ka_of (N := 181) (by decide) (by decide +kernel) hq
theorem ka116 (hq : 181 ≤ q) : isA (mm q I v fr) 116 48 := ka_of (N := 181) (by decide) (by decide +kernel) hq
theorem ka117 (hq : 181 ≤ q) : isA (mm q I v fr) 117 48 := ka_of (N := 181) (by decide) (by decide +kernel) hq
theorem ka118 (hq : 181 ≤ q) : isA (mm q I v fr) 118 288 := ka_of (N := 181) (by decide) (by decide +kernel) hq
theorem ka119 (hq : 181 ≤ q) : isA (mm q I v fr) 119 288 := ka_of (N := 181) (by decide) (by decide +kernel) hq
theorem ko120 (hq : 181 ≤ q) : isO (mm q I v fr) 120 1 := ko_of (N := 181) (by decide) (by decide +kernel) hq
theorem ko121 (hq : 181 ≤ q) : isO (mm q I v fr) 121 5 := ko_of (N := 181) (by decide) (by decide +kernel) hq
theorem ka122 (hq : 181 ≤ q) : isA (mm q I v fr) 122 12 := ka_of (N := 181) (by decide) (by decide +kernel) hq
theorem ka123 (hq : 181 ≤ q) : isA (mm q I v fr) 123 12 := ka_of (N := 181) (by decide) (by decide +kernel) hq
theorem ko124 (hq : 181 ≤ q) : isO (mm q I v fr) 124 2 := ko_of (N := 181) (by decide) (by decide +kernel) hq
theorem ka125 (hq : 181 ≤ q) : isA (mm q I v fr) 125 3 := ka_of (N := 181) (by decide) (by decide +kernel) hq
theorem ka126 (hq : 181 ≤ q) : isA (mm q I v fr) 126 3 := ka_of (N := 181) (by decide) (by decide +kernel) hq
theorem ka127 (hq : 181 ≤ q) : isA (mm q I v fr) 127 3 := ka_of (N := 181) (by decide) (by decide +kernel) hq
theorem ko128 (hq : 181 ≤ q) : isO (mm q I v fr) 128 3 := ko_of (N := 181) (by decide) (by decide +kernel) hq
theorem ka129 (hq : 181 ≤ q) : isA (mm q I v fr) 129 48 := ka_of (N := 181) (by decide) (by decide +kernel) hq
theorem ka130 (hq : 181 ≤ q) : isA (mm q I v fr) 130 48 := ka_of (N := 181) (by decide) (by decide +kernel) hq
theorem ka131 (hq : 181 ≤ q) : isA (mm q I v fr) 131 48 := ka_of (N := 181) (by decide) (by decide +kernel) hq
theorem ka132 (hq : 181 ≤ q) : isA (mm q I v fr) 132 48 := ka_of (N := 181) (by decide) (by decide +kernel) hq
theorem ka133 (hq : 181 ≤ q) : isA (mm q I v fr) 133 288 := ka_of (N := 181) (by decide) (by decide +kernel) hq
theorem ka134 (hq : 181 ≤ q) : isA (mm q I v fr) 134 288 := ka_of (N := 181) (by decide) (by decide +kernel) hq
theorem ko135 (hq : 181 ≤ q) : isO (mm q I v fr) 135 1 := ko_of (N := 181) (by decide) (by decide +kernel) hq
theorem ko136 (hq : 181 ≤ q) : isO (mm q I v fr) 136 5 := ko_of (N := 181) (by decide) (by decide +kernel) hq
theorem ka137 (hq : 181 ≤ q) : isA (mm q I v fr) 137 12 := ka_of (N := 181) (by decide) (by decide +kernel) hq
theorem ka138 (hq : 181 ≤ q) : isA (mm q I v fr) 138 12 := ka_of (N := 181) (by decide) (by decide +kernel) hq
theorem ko139 (hq : 181 ≤ q) : isO (mm q I v fr) 139 2 := ko_of (N := 181) (by decide) (by decide +kernel) hq
theorem ka140 (hq : 181 ≤ q) : isA (mm q I v fr) 140 3 := ka_of (N := 181) (by decide) (by decide +kernel) hq
theorem ka141 (hq : 181 ≤ q) : isA (mm q I v fr) 141 3 := ka_of (N := 181) (by decide) (by decide +kernel) hq
theorem ka142 (hq : 181 ≤ q) : isA (mm q I v fr) 142 3 := ka_of (N := 181) (by decide) (by decide +kernel) hq
theorem ko143 (hq : 181 ≤ q) : isO (mm q I v fr) 143 3 := ko_of (N := 181) (by decide) (by decide +kernel) hq
theorem ka144 (hq : 181 ≤ q) : isA (mm q I v fr) 144 48 := ka_of (N := 181) (by decide) (by decide +kernel) hq
theorem ka145 (hq : 181 ≤ q) : isA (mm q I v fr) 145 48 := ka_of (N := 181) (by decide) (by decide +kernel) hq
theorem ka146 (hq : 181 ≤ q) : isA (mm q I v fr) 146 48 := ka_of (N := 181) (by decide) (by decide +kernel) hq
theorem ka147 (hq : 181 ≤ q) : isA (mm q I v fr) 147 48 := ka_of (N := 181) (by decide) (by decide +kernel) hq
theorem ka148 (hq : 181 ≤ q) : isA (mm q I v fr) 148 288 := ka_of (N := 181) (by decide) (by decide +kernel) hq
theorem ka149 (hq : 181 ≤ q) : isA (mm q I v fr) 149 288 := ka_of (N := 181) (by decide) (by decide +kernel) hq
theorem ko150 (hq : 181 ≤ q) : isO (mm q I v fr) 150 1 := ko_of (N := 181) (by decide) (by decide +kernel) hq
theorem ko151 (hq : 181 ≤ q) : isO (mm q I v fr) 151 5 := ko_of (N := 181) (by decide) (by decide +kernel) hq
theorem ka152 (hq : 181 ≤ q) : isA (mm q I v fr) 152 12 := ka_of (N := 181) (by decide) (by decide +kernel) hq
theorem ka153 (hq : 181 ≤ q) : isA (mm q I v fr) 153 12 := ka_of (N := 181) (by decide) (by decide +kernel) hq
theorem ko154 (hq : 181 ≤ q) : isO (mm q I v fr) 154 2 := ko_of (N := 181) (by decide) (by decide +kernel) hq
theorem ka155 (hq : 181 ≤ q) : isA (mm q I v fr) 155 3 := ka_of (N := 181) (by decide) (by decide +kernel) hq
theorem ka156 (hq : 181 ≤ q) : isA (mm q I v fr) 156 3 := ka_of (N := 181) (by decide) (by decide +kernel) hq
theorem ka157 (hq : 181 ≤ q) : isA (mm q I v fr) 157 3 := ka_of (N := 181) (by decide) (by decide +kernel) hq
theorem ko158 (hq : 181 ≤ q) : isO (mm q I v fr) 158 3 := ko_of (N := 181) (by decide) (by decide +kernel) hq
theorem ka159 (hq : 181 ≤ q) : isA (mm q I v fr) 159 48 := ka_of (N := 181) (by decide) (by decide +kernel) hq
theorem ka160 (hq : 181 ≤ q) : isA (mm q I v fr) 160 48 := ka_of (N := 181) (by decide) (by decide +kernel) hq
theorem ka161 (hq : 181 ≤ q) : isA (mm q I v fr) 161 48 := ka_of (N := 181) (by decide) (by decide +kernel) hq
theorem ka162 (hq : 181 ≤ q) : isA (mm q I v fr) 162 48 := ka_of (N := 181) (by decide) (by decide +kernel) hq
theorem ka163 (hq : 181 ≤ q) : isA (mm q I v fr) 163 288 := ka_of (N := 181) (by decide) (by decide +kernel) hq
theorem ka164 (hq : 181 ≤ q) : isA (mm q I v fr) 164 288 := ka_of (N := 181) (by decide) (by decide +kernel) hq
theorem ko165 (hq : 181 ≤ q) : isO (mm q I v fr) 165 1 := ko_of (N := 181) (by decide) (by decide +kernel) hq
theorem ko166 (hq : 181 ≤ q) : isO (mm q I v fr) 166 5 := ko_of (N := 181) (by decide) (by decide +kernel) hq
theorem ka167 (hq : 181 ≤ q) : isA (mm q I v fr) 167 12 := ka_of (N := 181) (by decide) (by decide +kernel) hq
theorem ka168 (hq : 181 ≤ q) : isA (mm q I v fr) 168 12 := ka_of (N := 181) (by decide) (by decide +kernel) hq
theorem ko169 (hq : 181 ≤ q) : isO (mm q I v fr) 169 2 := ko_of (N := 181) (by decide) (by decide +kernel) hq
theorem ka170 (hq : 181 ≤ q) : isA (mm q I v fr) 170 3 := ka_of (N := 181) (by decide) (by decide +kernel) hq
theorem ka171 (hq : 181 ≤ q) : isA (mm q I v fr) 171 3 := ka_of (N := 181) (by decide) (by decide +kernel) hq
theorem ka172 (hq : 181 ≤ q) : isA (mm q I v fr) 172 3 := ka_of (N := 181) (by decide) (by decide +kernel) hq
theorem ko173 (hq : 181 ≤ q) : isO (mm q I v fr) 173 3 := ko_of (N := 181) (by decide) (by decide +kernel) hq
theorem ka174 (hq : 181 ≤ q) : isA (mm q I v fr) 174 48 := ka_of (N := 181) (by decide) (by decide +kernel) hq
theorem ka175 (hq : 181 ≤ q) : isA (mm q I v fr) 175 48 := ka_of (N := 181) (by decide) (by decide +kernel) hq
theorem ka176 (hq : 181 ≤ q) : isA (mm q I v fr) 176 48 := ka_of (N := 181) (by decide) (by decide +kernel) hq
theorem ka177 (hq : 181 ≤ q) : isA (mm q I v fr) 177 48 := ka_of (N := 181) (by decide) (by decide +kernel) hq
theorem ka178 (hq : 181 ≤ q) : isA (mm q I v fr) 178 288 := ka_of (N := 181) (by decide) (by decide +kernel) hq
theorem ka179 (hq : 181 ≤ q) : isA (mm q I v fr) 179 288 := ka_of (N := 181) (by decide) (by decide +kernel) hq
theorem ko180 (hq : 181 ≤ q) : isO (mm q I v fr) 180 1 := ko_of (N := 181) (by decide) (by decide +kernel) hq
theorem rr0_0 : R0 0 0 = some 1 := by decide +kernel
theorem rr0_1 : R0 0 1 = some 3 := by decide +kernel
theorem rr0_2 : R0 0 2 = some 5 := by decide +kernel
theorem rr0_3 : R0 0 3 = some 6 := by decide +kernel
theorem rr0_4 : R0 0 4 = some 11 := by decide +kernel
theorem rr0_5 : R0 0 5 = some 14 := by decide +kernel
theorem rr0_6 : R0 0 6 = some 136 := by decide +kernel
theorem rr0_7 : R0 0 7 = some 151 := by decide +kernel
theorem rr0_8 : R0 0 8 = some 166 := by decide +kernel
theorem rr1_0 : R0 1 0 = some 2 := by decide +kernel
theorem rr3_0 : R0 3 0 = some 4 := by decide +kernel
theorem rr5_0 : R0 5 0 = some 1 := by decide +kernel
theorem rr6_1 : R0 6 1 = some 7 := by decide +kernel
theorem rr6_2 : R0 6 2 = some 8 := by decide +kernel
theorem rr6_3 : R0 6 3 = some 9 := by decide +kernel
theorem rr6_4 : R0 6 4 = some 10 := by decide +kernel
theorem rr11_0 : R0 11 0 = some 12 := by decide +kernel
theorem rr11_1 : R0 11 1 = some 13 := by decide +kernel
theorem rr14_2 : R0 14 2 = some 15 := by decide +kernel
theorem rr15_0 : R0 15 0 = some 16 := by decide +kernel
theorem rr15_1 : R0 15 1 = some 31 := by decide +kernel
theorem rr15_2 : R0 15 2 = some 46 := by decide +kernel
theorem rr15_3 : R0 15 3 = some 61 := by decide +kernel
theorem rr15_4 : R0 15 4 = some 76 := by decide +kernel
theorem rr15_5 : R0 15 5 = some 91 := by decide +kernel
theorem rr15_6 : R0 15 6 = some 106 := by decide +kernel
theorem rr15_7 : R0 15 7 = some 121 := by decide +kernel
theorem rr16_8 : R0 16 8 = some 17 := by decide +kernel
theorem rr16_9 : R0 16 9 = some 18 := by decide +kernel
theorem rr16_10 : R0 16 10 = some 19 := by decide +kernel
theorem rr16_11 : R0 16 11 = some 23 := by decide +kernel
theorem rr16_12 : R0 16 12 = some 30 := by decide +kernel
theorem rr19_1 : R0 19 1 = some 20 := by decide +kernel
theorem rr19_2 : R0 19 2 = some 21 := by decide +kernel
theorem rr19_3 : R0 19 3 = some 22 := by decide +kernel
theorem rr23_1 : R0 23 1 = some 24 := by decide +kernel
theorem rr23_2 : R0 23 2 = some 25 := by decide +kernel
theorem rr23_3 : R0 23 3 = some 26 := by decide +kernel
theorem rr23_4 : R0 23 4 = some 27 := by decide +kernel
theorem rr23_5 : R0 23 5 = some 28 := by decide +kernel
theorem rr23_6 : R0 23 6 = some 29 := by decide +kernel
theorem rr31_8 : R0 31 8 = some 32 := by decide +kernel
theorem rr31_9 : R0 31 9 = some 33 := by decide +kernel
theorem rr31_10 : R0 31 10 = some 34 := by decide +kernel
theorem rr31_11 : R0 31 11 = some 38 := by decide +kernel
theorem rr31_12 : R0 31 12 = some 45 := by decide +kernel
theorem rr34_1 : R0 34 1 = some 35 := by decide +kernel
theorem rr34_2 : R0 34 2 = some 36 := by decide +kernel
theorem rr34_3 : R0 34 3 = some 37 := by decide +kernel
theorem rr38_1 : R0 38 1 = some 39 := by decide +kernel
theorem rr38_2 : R0 38 2 = some 40 := by decide +kernel
theorem rr38_3 : R0 38 3 = some 41 := by decide +kernel
theorem rr38_4 : R0 38 4 = some 42 := by decide +kernel
theorem rr38_5 : R0 38 5 = some 43 := by decide +kernel
theorem rr38_6 : R0 38 6 = some 44 := by decide +kernel
theorem rr46_8 : R0 46 8 = some 47 := by decide +kernel
theorem rr46_9 : R0 46 9 = some 48 := by decide +kernel
theorem rr46_10 : R0 46 10 = some 49 := by decide +kernel
theorem rr46_11 : R0 46 11 = some 53 := by decide +kernel
theorem rr46_12 : R0 46 12 = some 60 := by decide +kernel
theorem rr49_1 : R0 49 1 = some 50 := by decide +kernel
theorem rr49_2 : R0 49 2 = some 51 := by decide +kernel
theorem rr49_3 : R0 49 3 = some 52 := by decide +kernel
theorem rr53_1 : R0 53 1 = some 54 := by decide +kernel
theorem rr53_2 : R0 53 2 = some 55 := by decide +kernel
theorem rr53_3 : R0 53 3 = some 56 := by decide +kernel
theorem rr53_4 : R0 53 4 = some 57 := by decide +kernel
theorem rr53_5 : R0 53 5 = some 58 := by decide +kernel
theorem rr53_6 : R0 53 6 = some 59 := by decide +kernel
theorem rr61_8 : R0 61 8 = some 62 := by decide +kernel
theorem rr61_9 : R0 61 9 = some 63 := by decide +kernel
theorem rr61_10 : R0 61 10 = some 64 := by decide +kernel
theorem rr61_11 : R0 61 11 = some 68 := by decide +kernel
theorem rr61_12 : R0 61 12 = some 75 := by decide +kernel
theorem rr64_1 : R0 64 1 = some 65 := by decide +kernel
theorem rr64_2 : R0 64 2 = some 66 := by decide +kernel
theorem rr64_3 : R0 64 3 = some 67 := by decide +kernel
theorem rr68_1 : R0 68 1 = some 69 := by decide +kernel
theorem rr68_2 : R0 68 2 = some 70 := by decide +kernel
theorem rr68_3 : R0 68 3 = some 71 := by decide +kernel
theorem rr68_4 : R0 68 4 = some 72 := by decide +kernel
theorem rr68_5 : R0 68 5 = some 73 := by decide +kernel
theorem rr68_6 : R0 68 6 = some 74 := by decide +kernel
theorem rr76_8 : R0 76 8 = some 77 := by decide +kernel
theorem rr76_9 : R0 76 9 = some 78 := by decide +kernel
theorem rr76_10 : R0 76 10 = some 79 := by decide +kernel
theorem rr76_11 : R0 76 11 = some 83 := by decide +kernel
theorem rr76_12 : R0 76 12 = some 90 := by decide +kernel
theorem rr79_1 : R0 79 1 = some 80 := by decide +kernel
theorem rr79_2 : R0 79 2 = some 81 := by decide +kernel
theorem rr79_3 : R0 79 3 = some 82 := by decide +kernel
theorem rr83_1 : R0 83 1 = some 84 := by decide +kernel
theorem rr83_2 : R0 83 2 = some 85 := by decide +kernel
theorem rr83_3 : R0 83 3 = some 86 := by decide +kernel
theorem rr83_4 : R0 83 4 = some 87 := by decide +kernel
theorem rr83_5 : R0 83 5 = some 88 := by decide +kernel
theorem rr83_6 : R0 83 6 = some 89 := by decide +kernel
theorem rr91_8 : R0 91 8 = some 92 := by decide +kernel
theorem rr91_9 : R0 91 9 = some 93 := by decide +kernel
theorem rr91_10 : R0 91 10 = some 94 := by decide +kernel
theorem rr91_11 : R0 91 11 = some 98 := by decide +kernel
theorem rr91_12 : R0 91 12 = some 105 := by decide +kernel
theorem rr94_1 : R0 94 1 = some 95 := by decide +kernel
theorem rr94_2 : R0 94 2 = some 96 := by decide +kernel
theorem rr94_3 : R0 94 3 = some 97 := by decide +kernel
theorem rr98_1 : R0 98 1 = some 99 := by decide +kernel
theorem rr98_2 : R0 98 2 = some 100 := by decide +kernel
theorem rr98_3 : R0 98 3 = some 101 := by decide +kernel
theorem rr98_4 : R0 98 4 = some 102 := by decide +kernel
theorem rr98_5 : R0 98 5 = some 103 := by decide +kernel
theorem rr98_6 : R0 98 6 = some 104 := by decide +kernel
theorem rr106_8 : R0 106 8 = some 107 := by decide +kernel
theorem rr106_9 : R0 106 9 = some 108 := by decide +kernel
theorem rr106_10 : R0 106 10 = some 109 := by decide +kernel
theorem rr106_11 : R0 106 11 = some 113 := by decide +kernel
theorem rr106_12 : R0 106 12 = some 120 := by decide +kernel
theorem rr109_1 : R0 109 1 = some 110 := by decide +kernel
theorem rr109_2 : R0 109 2 = some 111 := by decide +kernel
theorem rr109_3 : R0 109 3 = some 112 := by decide +kernel
theorem rr113_1 : R0 113 1 = some 114 := by decide +kernel
theorem rr113_2 : R0 113 2 = some 115 := by decide +kernel
theorem rr113_3 : R0 113 3 = some 116 := by decide +kernel
theorem rr113_4 : R0 113 4 = some 117 := by decide +kernel
theorem rr113_5 : R0 113 5 = some 118 := by decide +kernel
theorem rr113_6 : R0 113 6 = some 119 := by decide +kernel
theorem rr121_8 : R0 121 8 = some 122 := by decide +kernel
theorem rr121_9 : R0 121 9 = some 123 := by decide +kernel
theorem rr121_10 : R0 121 10 = some 124 := by decide +kernel
theorem rr121_11 : R0 121 11 = some 128 := by decide +kernel
theorem rr121_12 : R0 121 12 = some 135 := by decide +kernel
theorem rr124_1 : R0 124 1 = some 125 := by decide +kernel
theorem rr124_2 : R0 124 2 = some 126 := by decide +kernel
theorem rr124_3 : R0 124 3 = some 127 := by decide +kernel
theorem rr128_1 : R0 128 1 = some 129 := by decide +kernel
theorem rr128_2 : R0 128 2 = some 130 := by decide +kernel
theorem rr128_3 : R0 128 3 = some 131 := by decide +kernel
theorem rr128_4 : R0 128 4 = some 132 := by decide +kernel
theorem rr128_5 : R0 128 5 = some 133 := by decide +kernel
theorem rr128_6 : R0 128 6 = some 134 := by decide +kernel
theorem rr136_8 : R0 136 8 = some 137 := by decide +kernel
theorem rr136_9 : R0 136 9 = some 138 := by decide +kernel
theorem rr136_10 : R0 136 10 = some 139 := by decide +kernel
theorem rr136_11 : R0 136 11 = some 143 := by decide +kernel
theorem rr136_12 : R0 136 12 = some 150 := by decide +kernel
theorem rr139_1 : R0 139 1 = some 140 := by decide +kernel
theorem rr139_2 : R0 139 2 = some 141 := by decide +kernel
theorem rr139_3 : R0 139 3 = some 142 := by decide +kernel
theorem rr143_1 : R0 143 1 = some 144 := by decide +kernel
theorem rr143_2 : R0 143 2 = some 145 := by decide +kernel
theorem rr143_3 : R0 143 3 = some 146 := by decide +kernel
theorem rr143_4 : R0 143 4 = some 147 := by decide +kernel
theorem rr143_5 : R0 143 5 = some 148 := by decide +kernel
theorem rr143_6 : R0 143 6 = some 149 := by decide +kernel
theorem rr151_8 : R0 151 8 = some 152 := by decide +kernel
theorem rr151_9 : R0 151 9 = some 153 := by decide +kernel
theorem rr151_10 : R0 151 10 = some 154 := by decide +kernel
theorem rr151_11 : R0 151 11 = some 158 := by decide +kernel
theorem rr151_12 : R0 151 12 = some 165 := by decide +kernel
theorem rr154_1 : R0 154 1 = some 155 := by decide +kernel
theorem rr154_2 : R0 154 2 = some 156 := by decide +kernel
theorem rr154_3 : R0 154 3 = some 157 := by decide +kernel
theorem rr158_1 : R0 158 1 = some 159 := by decide +kernel
theorem rr158_2 : R0 158 2 = some 160 := by decide +kernel
theorem rr158_3 : R0 158 3 = some 161 := by decide +kernel
theorem rr158_4 : R0 158 4 = some 162 := by decide +kernel
theorem rr158_5 : R0 158 5 = some 163 := by decide +kernel
theorem rr158_6 : R0 158 6 = some 164 := by decide +kernel
theorem rr166_8 : R0 166 8 = some 167 := by decide +kernel
theorem rr166_9 : R0 166 9 = some 168 := by decide +kernel
theorem rr166_10 : R0 166 10 = some 169 := by decide +kernel
theorem rr166_11 : R0 166 11 = some 173 := by decide +kernel
theorem rr166_12 : R0 166 12 = some 180 := by decide +kernel
theorem rr169_1 : R0 169 1 = some 170 := by decide +kernel
theorem rr169_2 : R0 169 2 = some 171 := by decide +kernel
theorem rr169_3 : R0 169 3 = some 172 := by decide +kernel
theorem rr173_1 : R0 173 1 = some 174 := by decide +kernel
theorem rr173_2 : R0 173 2 = some 175 := by decide +kernel
theorem rr173_3 : R0 173 3 = some 176 := by decide +kernel
theorem rr173_4 : R0 173 4 = some 177 := by decide +kernel
theorem rr173_5 : R0 173 5 = some 178 := by decide +kernel
theorem rr173_6 : R0 173 6 = some 179 := by decide +kernel
end Lay
/-- a line at p, with all that belongs to it -/
def LineAt (q p : Nat) : Prop := (16 ≤ p ∧ p + 14 < 181) ∧ (p < q ∧ K0 p = 55) ∧ (p + 1 < q ∧ K0 (p + 1) = 120) ∧ (p + 2 < q ∧ K0 (p + 2) = 120) ∧ ((p + 3 < q ∧ K0 (p + 3) = 25) ∧ (p + 4 < q ∧ K0 (p + 4) = 30) ∧ (p + 5 < q ∧ K0 (p + 5) = 30) ∧ (p + 6 < q ∧ K0 (p + 6) = 30) ∧ R0 (p + 3) 1 = some (p + 4) ∧ R0 (p + 3) 2 = some (p + 5) ∧ R0 (p + 3) 3 = some (p + 6)) ∧
  ((p + 7 < q ∧ K0 (p + 7) = 35) ∧ (p + 8 < q ∧ K0 (p + 8) = 480) ∧ (p + 9 < q ∧ K0 (p + 9) = 480) ∧ (p + 10 < q ∧ K0 (p + 10) = 480) ∧ (p + 11 < q ∧ K0 (p + 11) = 480) ∧ (p + 12 < q ∧ K0 (p + 12) = 2880) ∧ (p + 13 < q ∧ K0 (p + 13) = 2880) ∧
  R0 (p + 7) 1 = some (p + 8) ∧ R0 (p + 7) 2 = some (p + 9) ∧ R0 (p + 7) 3 = some (p + 10) ∧ R0 (p + 7) 4 = some (p + 11) ∧ R0 (p + 7) 5 = some (p + 12) ∧ R0 (p + 7) 6 = some (p + 13)) ∧ (p + 14 < q ∧ K0 (p + 14) = 15) ∧
  R0 p 8 = some (p + 1) ∧ R0 p 9 = some (p + 2) ∧ R0 p 10 = some (p + 3) ∧ R0 p 11 = some (p + 7) ∧ R0 p 12 = some (p + 14)
theorem la16 {q : Nat} (hq : 181 ≤ q) : LineAt q 16 := ⟨by decide, ⟨(Nat.lt_of_lt_of_le (by decide) hq), (by decide +kernel)⟩, ⟨(Nat.lt_of_lt_of_le (by decide) hq), (by decide +kernel)⟩, ⟨(Nat.lt_of_lt_of_le (by decide) hq), (by decide +kernel)⟩, ⟨⟨(Nat.lt_of_lt_of_le (by decide) hq), (by decide +kernel)⟩, ⟨(Nat.lt_of_lt_of_le (by decide) hq), (by decide +kernel)⟩, ⟨(Nat.lt_of_lt_of_le (by decide) hq), (by decide +kernel)⟩, ⟨(Nat.lt_of_lt_of_le (by decide) hq), (by decide +kernel)⟩, (by decide +kernel), (by decide +kernel), (by decide +kernel)⟩, ⟨⟨(Nat.lt_of_lt_of_le (by decide) hq), (by decide +kernel)⟩, ⟨(Nat.lt_of_lt_of_le (by decide) hq), (by decide +kernel)⟩, ⟨(Nat.lt_of_lt_of_le (by decide) hq), (by decide +kernel)⟩, ⟨(Nat.lt_of_lt_of_le (by decide) hq), (by decide +kernel)⟩, ⟨(Nat.lt_of_lt_of_le (by decide) hq), (by decide +kernel)⟩, ⟨(Nat.lt_of_lt_of_le (by decide) hq), (by decide +kernel)⟩, ⟨(Nat.lt_of_lt_of_le (by decide) hq), (by decide +kernel)⟩, (by decide +kernel), (by decide +kernel), (by decide +kernel), (by decide +kernel), (by decide +kernel), (by decide +kernel)⟩, ⟨(Nat.lt_of_lt_of_le (by decide) hq), (by decide +kernel)⟩, (by decide +kernel), (by decide +kernel), (by decide +kernel), (by decide +kernel), (by decide +kernel)⟩
theorem la31 {q : Nat} (hq : 181 ≤ q) : LineAt q 31 := ⟨by decide, ⟨(Nat.lt_of_lt_of_le (by decide) hq), (by decide +kernel)⟩, ⟨(Nat.lt_of_lt_of_le (by decide) hq), (by decide +kernel)⟩, ⟨(Nat.lt_of_lt_of_le (by decide) hq), (by decide +kernel)⟩, ⟨⟨(Nat.lt_of_lt_of_le (by decide) hq), (by decide +kernel)⟩, ⟨(Nat.lt_of_lt_of_le (by decide) hq), (by decide +kernel)⟩, ⟨(Nat.lt_of_lt_of_le (by decide) hq), (by decide +kernel)⟩, ⟨(Nat.lt_of_lt_of_le (by decide) hq), (by decide +kernel)⟩, (by decide +kernel), (by decide +kernel), (by decide +kernel)⟩, ⟨⟨(Nat.lt_of_lt_of_le (by decide) hq), (by decide +kernel)⟩, ⟨(Nat.lt_of_lt_of_le (by decide) hq), (by decide +kernel)⟩, ⟨(Nat.lt_of_lt_of_le (by decide) hq), (by decide +kernel)⟩, ⟨(Nat.lt_of_lt_of_le (by decide) hq), (by decide +kernel)⟩, ⟨(Nat.lt_of_lt_of_le (by decide) hq), (by decide +kernel)⟩, ⟨(Nat.lt_of_lt_of_le (by decide) hq), (by decide +kernel)⟩, ⟨(Nat.lt_of_lt_of_le (by decide) hq), (by decide +kernel)⟩, (by decide +kernel), (by decide +kernel), (by decide +kernel), (by decide +kernel), (by decide +kernel), (by decide +kernel)⟩, ⟨(Nat.lt_of_lt_of_le (by decide) hq), (by decide +kernel)⟩, (by decide +kernel), (by decide +kernel), (by decide +kernel), (by decide +kernel), (by decide +kernel)⟩
theorem la46 {q : Nat} (hq : 181 ≤ q) : LineAt q 46 := ⟨by decide, ⟨(Nat.lt_of_lt_of_le (by decide) hq), (by decide +kernel)⟩, ⟨(Nat.lt_of_lt_of_le (by decide) hq), (by decide +kernel)⟩, ⟨(Nat.lt_of_lt_of_le (by decide) hq), (by decide +kernel)⟩, ⟨⟨(Nat.lt_of_lt_of_le (by decide) hq), (by decide +kernel)⟩, ⟨(Nat.lt_of_lt_of_le (by decide) hq), (by decide +kernel)⟩, ⟨(Nat.lt_of_lt_of_le (by decide) hq), (by decide +kernel)⟩, ⟨(Nat.lt_of_lt_of_le (by decide) hq), (by decide +kernel)⟩, (by decide +kernel), (by decide +kernel), (by decide +kernel)⟩, ⟨⟨(Nat.lt_of_lt_of_le (by decide) hq), (by decide +kernel)⟩, ⟨(Nat.lt_of_lt_of_le (by decide) hq), (by decide +kernel)⟩, ⟨(Nat.lt_of_lt_of_le (by decide) hq), (by decide +kernel)⟩, ⟨(Nat.lt_of_lt_of_le (by decide) hq), (by decide +kernel)⟩, ⟨(Nat.lt_of_lt_of_le (by decide) hq), (by decide +kernel)⟩, ⟨(Nat.lt_of_lt_of_le (by decide) hq), (by decide +kernel)⟩, ⟨(Nat.lt_of_lt_of_le (by decide) hq), (by decide +kernel)⟩, (by decide +kernel), (by decide +kernel), (by decide +kernel), (by decide +kernel), (by decide +kernel), (by decide +kernel)⟩, ⟨(Nat.lt_of_lt_of_le (by decide) hq), (by decide +kernel)⟩, (by decide +kernel), (by decide +kernel), (by decide +kernel), (by decide +kernel), (by decide +kernel)⟩
theorem la61 {q : Nat} (hq : 181 ≤ q) : LineAt q 61 := ⟨by decide, ⟨(Nat.lt_of_lt_of_le (by decide) hq), (by decide +kernel)⟩, ⟨(Nat.lt_of_lt_of_le (by decide) hq), (by decide +kernel)⟩, ⟨(Nat.lt_of_lt_of_le (by decide) hq), (by decide +kernel)⟩, ⟨⟨(Nat.lt_of_lt_of_le (by decide) hq), (by decide +kernel)⟩, ⟨(Nat.lt_of_lt_of_le (by decide) hq), (by decide +kernel)⟩, ⟨(Nat.lt_of_lt_of_le (by decide) hq), (by decide +kernel)⟩, ⟨(Nat.lt_of_lt_of_le (by decide) hq), (by decide +kernel)⟩, (by decide +kernel), (by decide +kernel), (by decide +kernel)⟩, ⟨⟨(Nat.lt_of_lt_of_le (by decide) hq), (by decide +kernel)⟩, ⟨(Nat.lt_of_lt_of_le (by decide) hq), (by decide +kernel)⟩, ⟨(Nat.lt_of_lt_of_le (by decide) hq), (by decide +kernel)⟩, ⟨(Nat.lt_of_lt_of_le (by decide) hq), (by decide +kernel)⟩, ⟨(Nat.lt_of_lt_of_le (by decide) hq), (by decide +kernel)⟩, ⟨(Nat.lt_of_lt_of_le (by decide) hq), (by decide +kernel)⟩, ⟨(Nat.lt_of_lt_of_le (by decide) hq), (by decide +kernel)⟩, (by decide +kernel), (by decide +kernel), (by decide +kernel), (by decide +kernel), (by decide +kernel), (by decide +kernel)⟩, ⟨(Nat.lt_of_lt_of_le (by decide) hq), (by decide +kernel)⟩, (by decide +kernel), (by decide +kernel), (by decide +kernel), (by decide +kernel), (by decide +kernel)⟩
theorem la76 {q : Nat} (hq : 181 ≤ q) : LineAt q 76 := ⟨by decide, ⟨(Nat.lt_of_lt_of_le (by decide) hq), (by decide +kernel)⟩, ⟨(Nat.lt_of_lt_of_le (by decide) hq), (by decide +kernel)⟩, ⟨(Nat.lt_of_lt_of_le (by decide) hq), (by decide +kernel)⟩, ⟨⟨(Nat.lt_of_lt_of_le (by decide) hq), (by decide +kernel)⟩, ⟨(Nat.lt_of_lt_of_le (by decide) hq), (by decide +kernel)⟩, ⟨(Nat.lt_of_lt_of_le (by decide) hq), (by decide +kernel)⟩, ⟨(Nat.lt_of_lt_of_le (by decide) hq), (by decide +kernel)⟩, (by decide +kernel), (by decide +kernel), (by decide +kernel)⟩, ⟨⟨(Nat.lt_of_lt_of_le (by decide) hq), (by decide +kernel)⟩, ⟨(Nat.lt_of_lt_of_le (by decide) hq), (by decide +kernel)⟩, ⟨(Nat.lt_of_lt_of_le (by decide) hq), (by decide +kernel)⟩, ⟨(Nat.lt_of_lt_of_le (by decide) hq), (by decide +kernel)⟩, ⟨(Nat.lt_of_lt_of_le (by decide) hq), (by decide +kernel)⟩, ⟨(Nat.lt_of_lt_of_le (by decide) hq), (by decide +kernel)⟩, ⟨(Nat.lt_of_lt_of_le (by decide) hq), (by decide +kernel)⟩, (by decide +kernel), (by decide +kernel), (by decide +kernel), (by decide +kernel), (by decide +kernel), (by decide +kernel)⟩, ⟨(Nat.lt_of_lt_of_le (by decide) hq), (by decide +kernel)⟩, (by decide +kernel), (by decide +kernel), (by decide +kernel), (by decide +kernel), (by decide +kernel)⟩
theorem la91 {q : Nat} (hq : 181 ≤ q) : LineAt q 91 := ⟨by decide, ⟨(Nat.lt_of_lt_of_le (by decide) hq), (by decide +kernel)⟩, ⟨(Nat.lt_of_lt_of_le (by decide) hq), (by decide +kernel)⟩, ⟨(Nat.lt_of_lt_of_le (by decide) hq), (by decide +kernel)⟩, ⟨⟨(Nat.lt_of_lt_of_le (by decide) hq), (by decide +kernel)⟩, ⟨(Nat.lt_of_lt_of_le (by decide) hq), (by decide +kernel)⟩, ⟨(Nat.lt_of_lt_of_le (by decide) hq), (by decide +kernel)⟩, ⟨(Nat.lt_of_lt_of_le (by decide) hq), (by decide +kernel)⟩, (by decide +kernel), (by decide +kernel), (by decide +kernel)⟩, ⟨⟨(Nat.lt_of_lt_of_le (by decide) hq), (by decide +kernel)⟩, ⟨(Nat.lt_of_lt_of_le (by decide) hq), (by decide +kernel)⟩, ⟨(Nat.lt_of_lt_of_le (by decide) hq), (by decide +kernel)⟩, ⟨(Nat.lt_of_lt_of_le (by decide) hq), (by decide +kernel)⟩, ⟨(Nat.lt_of_lt_of_le (by decide) hq), (by decide +kernel)⟩, ⟨(Nat.lt_of_lt_of_le (by decide) hq), (by decide +kernel)⟩, ⟨(Nat.lt_of_lt_of_le (by decide) hq), (by decide +kernel)⟩, (by decide +kernel), (by decide +kernel), (by decide +kernel), (by decide +kernel), (by decide +kernel), (by decide +kernel)⟩, ⟨(Nat.lt_of_lt_of_le (by decide) hq), (by decide +kernel)⟩, (by decide +kernel), (by decide +kernel), (by decide +kernel), (by decide +kernel), (by decide +kernel)⟩
theorem la106 {q : Nat} (hq : 181 ≤ q) : LineAt q 106 := ⟨by decide, ⟨(Nat.lt_of_lt_of_le (by decide) hq), (by decide +kernel)⟩, ⟨(Nat.lt_of_lt_of_le (by decide) hq), (by decide +kernel)⟩, ⟨(Nat.lt_of_lt_of_le (by decide) hq), (by decide +kernel)⟩, ⟨⟨(Nat.lt_of_lt_of_le (by decide) hq), (by decide +kernel)⟩, ⟨(Nat.lt_of_lt_of_le (by decide) hq), (by decide +kernel)⟩, ⟨(Nat.lt_of_lt_of_le (by decide) hq), (by decide +kernel)⟩, ⟨(Nat.lt_of_lt_of_le (by decide) hq), (by decide +kernel)⟩, (by decide +kernel), (by decide +kernel), (by decide +kernel)⟩, ⟨⟨(Nat.lt_of_lt_of_le (by decide) hq), (by decide +kernel)⟩, ⟨(Nat.lt_of_lt_of_le (by decide) hq), (by decide +kernel)⟩, ⟨(Nat.lt_of_lt_of_le (by decide) hq), (by decide +kernel)⟩, ⟨(Nat.lt_of_lt_of_le (by decide) hq), (by decide +kernel)⟩, ⟨(Nat.lt_of_lt_of_le (by decide) hq), (by decide +kernel)⟩, ⟨(Nat.lt_of_lt_of_le (by decide) hq), (by decide +kernel)⟩, ⟨(Nat.lt_of_lt_of_le (by decide) hq), (by decide +kernel)⟩, (by decide +kernel), (by decide +kernel), (by decide +kernel), (by decide +kernel), (by decide +kernel), (by decide +kernel)⟩, ⟨(Nat.lt_of_lt_of_le (by decide) hq), (by decide +kernel)⟩, (by decide +kernel), (by decide +kernel), (by decide +kernel), (by decide +kernel), (by decide +kernel)⟩
theorem la121 {q : Nat} (hq : 181 ≤ q) : LineAt q 121 := ⟨by decide, ⟨(Nat.lt_of_lt_of_le (by decide) hq), (by decide +kernel)⟩, ⟨(Nat.lt_of_lt_of_le (by decide) hq), (by decide +kernel)⟩, ⟨(Nat.lt_of_lt_of_le (by decide) hq), (by decide +kernel)⟩, ⟨⟨(Nat.lt_of_lt_of_le (by decide) hq), (by decide +kernel)⟩, ⟨(Nat.lt_of_lt_of_le (by decide) hq), (by decide +kernel)⟩, ⟨(Nat.lt_of_lt_of_le (by decide) hq), (by decide +kernel)⟩, ⟨(Nat.lt_of_lt_of_le (by decide) hq), (by decide +kernel)⟩, (by decide +kernel), (by decide +kernel), (by decide +kernel)⟩, ⟨⟨(Nat.lt_of_lt_of_le (by decide) hq), (by decide +kernel)⟩, ⟨(Nat.lt_of_lt_of_le (by decide) hq), (by decide +kernel)⟩, ⟨(Nat.lt_of_lt_of_le (by decide) hq), (by decide +kernel)⟩, ⟨(Nat.lt_of_lt_of_le (by decide) hq), (by decide +kernel)⟩, ⟨(Nat.lt_of_lt_of_le (by decide) hq), (by decide +kernel)⟩, ⟨(Nat.lt_of_lt_of_le (by decide) hq), (by decide +kernel)⟩, ⟨(Nat.lt_of_lt_of_le (by decide) hq), (by decide +kernel)⟩, (by decide +kernel), (by decide +kernel), (by decide +kernel), (by decide +kernel), (by decide +kernel), (by decide +kernel)⟩, ⟨(Nat.lt_of_lt_of_le (by decide) hq), (by decide +kernel)⟩, (by decide +kernel), (by decide +kernel), (by decide +kernel), (by decide +kernel), (by decide +kernel)⟩
theorem la136 {q : Nat} (hq : 181 ≤ q) : LineAt q 136 := ⟨by decide, ⟨(Nat.lt_of_lt_of_le (by decide) hq), (by decide +kernel)⟩, ⟨(Nat.lt_of_lt_of_le (by decide) hq), (by decide +kernel)⟩, ⟨(Nat.lt_of_lt_of_le (by decide) hq), (by decide +kernel)⟩, ⟨⟨(Nat.lt_of_lt_of_le (by decide) hq), (by decide +kernel)⟩, ⟨(Nat.lt_of_lt_of_le (by decide) hq), (by decide +kernel)⟩, ⟨(Nat.lt_of_lt_of_le (by decide) hq), (by decide +kernel)⟩, ⟨(Nat.lt_of_lt_of_le (by decide) hq), (by decide +kernel)⟩, (by decide +kernel), (by decide +kernel), (by decide +kernel)⟩, ⟨⟨(Nat.lt_of_lt_of_le (by decide) hq), (by decide +kernel)⟩, ⟨(Nat.lt_of_lt_of_le (by decide) hq), (by decide +kernel)⟩, ⟨(Nat.lt_of_lt_of_le (by decide) hq), (by decide +kernel)⟩, ⟨(Nat.lt_of_lt_of_le (by decide) hq), (by decide +kernel)⟩, ⟨(Nat.lt_of_lt_of_le (by decide) hq), (by decide +kernel)⟩, ⟨(Nat.lt_of_lt_of_le (by decide) hq), (by decide +kernel)⟩, ⟨(Nat.lt_of_lt_of_le (by decide) hq), (by decide +kernel)⟩, (by decide +kernel), (by decide +kernel), (by decide +kernel), (by decide +kernel), (by decide +kernel), (by decide +kernel)⟩, ⟨(Nat.lt_of_lt_of_le (by decide) hq), (by decide +kernel)⟩, (by decide +kernel), (by decide +kernel), (by decide +kernel), (by decide +kernel), (by decide +kernel)⟩
theorem la151 {q : Nat} (hq : 181 ≤ q) : LineAt q 151 := ⟨by decide, ⟨(Nat.lt_of_lt_of_le (by decide) hq), (by decide +kernel)⟩, ⟨(Nat.lt_of_lt_of_le (by decide) hq), (by decide +kernel)⟩, ⟨(Nat.lt_of_lt_of_le (by decide) hq), (by decide +kernel)⟩, ⟨⟨(Nat.lt_of_lt_of_le (by decide) hq), (by decide +kernel)⟩, ⟨(Nat.lt_of_lt_of_le (by decide) hq), (by decide +kernel)⟩, ⟨(Nat.lt_of_lt_of_le (by decide) hq), (by decide +kernel)⟩, ⟨(Nat.lt_of_lt_of_le (by decide) hq), (by decide +kernel)⟩, (by decide +kernel), (by decide +kernel), (by decide +kernel)⟩, ⟨⟨(Nat.lt_of_lt_of_le (by decide) hq), (by decide +kernel)⟩, ⟨(Nat.lt_of_lt_of_le (by decide) hq), (by decide +kernel)⟩, ⟨(Nat.lt_of_lt_of_le (by decide) hq), (by decide +kernel)⟩, ⟨(Nat.lt_of_lt_of_le (by decide) hq), (by decide +kernel)⟩, ⟨(Nat.lt_of_lt_of_le (by decide) hq), (by decide +kernel)⟩, ⟨(Nat.lt_of_lt_of_le (by decide) hq), (by decide +kernel)⟩, ⟨(Nat.lt_of_lt_of_le (by decide) hq), (by decide +kernel)⟩, (by decide +kernel), (by decide +kernel), (by decide +kernel), (by decide +kernel), (by decide +kernel), (by decide +kernel)⟩, ⟨(Nat.lt_of_lt_of_le (by decide) hq), (by decide +kernel)⟩, (by decide +kernel), (by decide +kernel), (by decide +kernel), (by decide +kernel), (by decide +kernel)⟩
theorem la166 {q : Nat} (hq : 181 ≤ q) : LineAt q 166 := ⟨by decide, ⟨(Nat.lt_of_lt_of_le (by decide) hq), (by decide +kernel)⟩, ⟨(Nat.lt_of_lt_of_le (by decide) hq), (by decide +kernel)⟩, ⟨(Nat.lt_of_lt_of_le (by decide) hq), (by decide +kernel)⟩, ⟨⟨(Nat.lt_of_lt_of_le (by decide) hq), (by decide +kernel)⟩, ⟨(Nat.lt_of_lt_of_le (by decide) hq), (by decide +kernel)⟩, ⟨(Nat.lt_of_lt_of_le (by decide) hq), (by decide +kernel)⟩, ⟨(Nat.lt_of_lt_of_le (by decide) hq), (by decide +kernel)⟩, (by decide +kernel), (by decide +kernel), (by decide +kernel)⟩, ⟨⟨(Nat.lt_of_lt_of_le (by decide) hq), (by decide +kernel)⟩, ⟨(Nat.lt_of_lt_of_le (by decide) hq), (by decide +kernel)⟩, ⟨(Nat.lt_of_lt_of_le (by decide) hq), (by decide +kernel)⟩, ⟨(Nat.lt_of_lt_of_le (by decide) hq), (by decide +kernel)⟩, ⟨(Nat.lt_of_lt_of_le (by decide) hq), (by decide +kernel)⟩, ⟨(Nat.lt_of_lt_of_le (by decide) hq), (by decide +kernel)⟩, ⟨(Nat.lt_of_lt_of_le (by decide) hq), (by decide +kernel)⟩, (by decide +kernel), (by decide +kernel), (by decide +kernel), (by decide +kernel), (by decide +kernel), (by decide +kernel)⟩, ⟨(Nat.lt_of_lt_of_le (by decide) hq), (by decide +kernel)⟩, (by decide +kernel), (by decide +kernel), (by decide +kernel), (by decide +kernel), (by decide +kernel)⟩
section LayP
variable {q p : Nat} {I : Nat → Int → Int} {v : Int} {fr : Bool}
theorem LineAt.b (h : LineAt q p) : 16 ≤ p ∧ p + 14 < 181 := h.1
theorem LineAt.o0 (h : LineAt q p) : isO (mm q I v fr) p 5 := h.2.1
theorem LineAt.a1 (h : LineAt q p) : isA (mm q I v fr) (p + 1) 12 := h.2.2.1
theorem LineAt.a2 (h : LineAt q p) : isA (mm q I v fr) (p + 2) 12 := h.2.2.2.1
theorem LineAt.o3 (h : LineAt q p) : isO (mm q I v fr) (p + 3) 2 := h.2.2.2.2.1.1
theorem LineAt.a4 (h : LineAt q p) : isA (mm q I v fr) (p + 4) 3 := h.2.2.2.2.1.2.1
theorem LineAt.a5 (h : LineAt q p) : isA (mm q I v fr) (p + 5) 3 := h.2.2.2.2.1.2.2.1
theorem LineAt.a6 (h : LineAt q p) : isA (mm q I v fr) (p + 6) 3 := h.2.2.2.2.1.2.2.2.1
theorem LineAt.r3_1 (h : LineAt q p) : R0 (p + 3) 1 = some (p + 4) := h.2.2.2.2.1.2.2.2.2.1
theorem LineAt.r3_2 (h : LineAt q p) : R0 (p + 3) 2 = some (p + 5) := h.2.2.2.2.1.2.2.2.2.2.1
theorem LineAt.r3_3 (h : LineAt q p) : R0 (p + 3) 3 = some (p + 6) := h.2.2.2.2.1.2.2.2.2.2.2
theorem LineAt.o7 (h : LineAt q p) : isO (mm q I v fr) (p + 7) 3 := h.2.2.2.2.2.1.1
theorem LineAt.a8 (h : LineAt q p) : isA (mm q I v fr) (p + 8) 48 := h.2.2.2.2.2.1.2.1
theorem LineAt.a9 (h : LineAt q p) : isA (mm q I v fr) (p + 9) 48 := h.2.2.2.2.2.1.2.2.1
theorem LineAt.a10 (h : LineAt q p) : isA (mm q I v fr) (p + 10) 48 := h.2.2.2.2.2.1.2.2.2.1
theorem LineAt.a11 (h : LineAt q p) : isA (mm q I v fr) (p + 11) 48 := h.2.2.2.2.2.1.2.2.2.2.1
theorem LineAt.a12 (h : LineAt q p) : isA (mm q I v fr) (p + 12) 288 := h.2.2.2.2.2.1.2.2.2.2.2.1
theorem LineAt.a13 (h : LineAt q p) : isA (mm q I v fr) (p + 13) 288 := h.2.2.2.2.2.1.2.2.2.2.2.2.1
theorem LineAt.r7_1 (h : LineAt q p) : R0 (p + 7) 1 = some (p + 8) := h.2.2.2.2.2.1.2.2.2.2.2.2.2.1
theorem LineAt.r7_2 (h : LineAt q p) : R0 (p + 7) 2 = some (p + 9) := h.2.2.2.2.2.1.2.2.2.2.2.2.2.2.1
theorem LineAt.r7_3 (h : LineAt q p) : R0 (p + 7) 3 = some (p + 10) := h.2.2.2.2.2.1.2.2.2.2.2.2.2.2.2.1
theorem LineAt.r7_4 (h : LineAt q p) : R0 (p + 7) 4 = some (p + 11) := h.2.2.2.2.2.1.2.2.2.2.2.2.2.2.2.2.1
theorem LineAt.r7_5 (h : LineAt q p) : R0 (p + 7) 5 = some (p + 12) := h.2.2.2.2.2.1.2.2.2.2.2.2.2.2.2.2.2.1
theorem LineAt.r7_6 (h : LineAt q p) : R0 (p + 7) 6 = some (p + 13) := h.2.2.2.2.2.1.2.2.2.2.2.2.2.2.2.2.2.2
theorem LineAt.o14 (h : LineAt q p) : isO (mm q I v fr) (p + 14) 1 := h.2.2.2.2.2.2.1
theorem LineAt.r0_8 (h : LineAt q p) : R0 p 8 = some (p + 1) := h.2.2.2.2.2.2.2.1
theorem LineAt.r0_9 (h : LineAt q p) : R0 p 9 = some (p + 2) := h.2.2.2.2.2.2.2.2.1
theorem LineAt.r0_10 (h : LineAt q p) : R0 p 10 = some (p + 3) := h.2.2.2.2.2.2.2.2.2.1
theorem LineAt.r0_11 (h : LineAt q p) : R0 p 11 = some (p + 7) := h.2.2.2.2.2.2.2.2.2.2.1
theorem LineAt.r0_12 (h : LineAt q p) : R0 p 12 = some (p + 14) := h.2.2.2.2.2.2.2.2.2.2.2
end LayP
