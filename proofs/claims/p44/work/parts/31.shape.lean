/-! ===== the fixed addresses (wip/p44/gen_shape.py) ===== -/
def KdL : List Nat := [99, 13, 11, 4, 13, 13, 13, 13, 13, 13, 13, 4, 13, 13, 13, 13, 13, 13, 13, 4, 13, 13, 13, 13, 13, 13, 13, 3, 13, 13, 13, 13, 3, 13, 13, 13, 13, 13, 17, 13, 13, 13, 13, 13, 13, 13, 13, 13, 13, 13, 13, 13, 13, 13, 13, 13, 13, 13, 13, 13, 13, 13, 13, 13, 13, 13, 13, 13, 13, 13, 13, 13, 13, 13, 13, 13, 13, 13, 13, 17, 13, 13, 13, 13, 13, 13, 13, 13, 17, 13, 13, 13, 13, 13, 13, 13, 13, 13, 15, 13, 16, 9, 14, 9, 14, 9, 14, 9, 14, 9, 14, 9, 14]
def LnL : List Nat := [0, 0, 0, 0, 8, 8, 8, 8, 8, 8, 5, 0, 8, 8, 8, 8, 8, 8, 5, 0, 8, 8, 8, 8, 8, 8, 5, 0, 121, 121, 121, 6, 0, 121, 121, 121, 6, 120, 40, 4, 4, 4, 4, 4, 4, 4, 4, 4, 4, 4, 4, 4, 4, 4, 4, 4, 4, 4, 4, 4, 4, 4, 4, 4, 4, 4, 4, 4, 4, 4, 4, 4, 4, 4, 4, 4, 4, 4, 4, 8, 8, 8, 8, 8, 8, 8, 8, 8, 9, 256, 256, 256, 256, 256, 256, 256, 256, 256, 50, 25, 6, 0, 60, 0, 60, 0, 60, 0, 60, 0, 60, 0, 60]
def RfL : List (Nat × Nat × Nat) := [(3, 0, 4), (3, 1, 5), (3, 2, 6), (3, 3, 7), (3, 4, 8), (3, 5, 9), (3, 6, 10), (2, 0, 3), (11, 0, 12), (11, 1, 13), (11, 2, 14), (11, 3, 15), (11, 4, 16), (11, 5, 17), (11, 6, 18), (2, 1, 11), (19, 0, 20), (19, 1, 21), (19, 2, 22), (19, 3, 23), (19, 4, 24), (19, 5, 25), (19, 6, 26), (2, 2, 19), (27, 0, 28), (27, 1, 29), (27, 2, 30), (27, 3, 31), (32, 0, 33), (32, 1, 34), (32, 2, 35), (32, 3, 36), (2, 6, 37), (38, 0, 39), (38, 1, 40), (38, 2, 41), (38, 3, 42), (38, 4, 43), (38, 5, 44), (38, 6, 45), (38, 7, 46), (38, 8, 47), (38, 9, 48), (38, 10, 49), (38, 11, 50), (38, 12, 51), (38, 13, 52), (38, 14, 53), (38, 15, 54), (38, 16, 55), (38, 17, 56), (38, 18, 57), (38, 19, 58), (38, 20, 59), (38, 21, 60), (38, 22, 61), (38, 23, 62), (38, 24, 63), (38, 25, 64), (38, 26, 65), (38, 27, 66), (38, 28, 67), (38, 29, 68), (38, 30, 69), (38, 31, 70), (38, 32, 71), (38, 33, 72), (38, 34, 73), (38, 35, 74), (38, 36, 75), (38, 37, 76), (38, 38, 77), (38, 39, 78), (2, 8, 38), (79, 0, 80), (79, 1, 81), (79, 2, 82), (79, 3, 83), (79, 4, 84), (79, 5, 85), (79, 6, 86), (79, 7, 87), (2, 11, 79), (88, 0, 89), (88, 1, 90), (88, 2, 91), (88, 3, 92), (88, 4, 93), (88, 5, 94), (88, 6, 95), (88, 7, 96), (88, 8, 97), (2, 12, 88), (2, 13, 98), (2, 15, 99), (2, 16, 100), (101, 0, 102), (100, 0, 101), (103, 0, 104), (100, 1, 103), (105, 0, 106), (100, 2, 105), (107, 0, 108), (100, 3, 107), (109, 0, 110), (100, 4, 109), (111, 0, 112), (100, 5, 111)]
/-- the fixed rows have their kinds, their lengths, their final references -/
def Sh (r : Nat → Nat → Nat) (E : EE) : Prop := (∀ a, a < 113 → 2 ≤ a → E.1 a = KdL.getD a 99 ∧ E.2.1 a = LnL.getD a 0) ∧ (∀ t ∈ RfL, r t.1 t.2.1 = t.2.2) ∧ 113 ≤ E.2.2.1 ∧ r 2 4 + r 2 5 = 59
section SH
variable {r : Nat → Nat → Nat} {E : EE}
theorem K2 (S : Sh r E) : E.1 2 = 11 := (S.1 2 (by decide) (by decide)).1
theorem K3 (S : Sh r E) : E.1 3 = 4 := (S.1 3 (by decide) (by decide)).1
theorem K4 (S : Sh r E) : E.1 4 = 13 := (S.1 4 (by decide) (by decide)).1
theorem N4 (S : Sh r E) : E.2.1 4 = 8 := (S.1 4 (by decide) (by decide)).2
theorem K5 (S : Sh r E) : E.1 5 = 13 := (S.1 5 (by decide) (by decide)).1
theorem N5 (S : Sh r E) : E.2.1 5 = 8 := (S.1 5 (by decide) (by decide)).2
theorem K6 (S : Sh r E) : E.1 6 = 13 := (S.1 6 (by decide) (by decide)).1
theorem N6 (S : Sh r E) : E.2.1 6 = 8 := (S.1 6 (by decide) (by decide)).2
theorem K7 (S : Sh r E) : E.1 7 = 13 := (S.1 7 (by decide) (by decide)).1
theorem N7 (S : Sh r E) : E.2.1 7 = 8 := (S.1 7 (by decide) (by decide)).2
theorem K8 (S : Sh r E) : E.1 8 = 13 := (S.1 8 (by decide) (by decide)).1
theorem N8 (S : Sh r E) : E.2.1 8 = 8 := (S.1 8 (by decide) (by decide)).2
theorem K9 (S : Sh r E) : E.1 9 = 13 := (S.1 9 (by decide) (by decide)).1
theorem N9 (S : Sh r E) : E.2.1 9 = 8 := (S.1 9 (by decide) (by decide)).2
theorem K10 (S : Sh r E) : E.1 10 = 13 := (S.1 10 (by decide) (by decide)).1
theorem N10 (S : Sh r E) : E.2.1 10 = 5 := (S.1 10 (by decide) (by decide)).2
theorem K11 (S : Sh r E) : E.1 11 = 4 := (S.1 11 (by decide) (by decide)).1
theorem K12 (S : Sh r E) : E.1 12 = 13 := (S.1 12 (by decide) (by decide)).1
theorem N12 (S : Sh r E) : E.2.1 12 = 8 := (S.1 12 (by decide) (by decide)).2
theorem K13 (S : Sh r E) : E.1 13 = 13 := (S.1 13 (by decide) (by decide)).1
theorem N13 (S : Sh r E) : E.2.1 13 = 8 := (S.1 13 (by decide) (by decide)).2
theorem K14 (S : Sh r E) : E.1 14 = 13 := (S.1 14 (by decide) (by decide)).1
theorem N14 (S : Sh r E) : E.2.1 14 = 8 := (S.1 14 (by decide) (by decide)).2
theorem K15 (S : Sh r E) : E.1 15 = 13 := (S.1 15 (by decide) (by decide)).1
theorem N15 (S : Sh r E) : E.2.1 15 = 8 := (S.1 15 (by decide) (by decide)).2
theorem K16 (S : Sh r E) : E.1 16 = 13 := (S.1 16 (by decide) (by decide)).1
theorem N16 (S : Sh r E) : E.2.1 16 = 8 := (S.1 16 (by decide) (by decide)).2
theorem K17 (S : Sh r E) : E.1 17 = 13 := (S.1 17 (by decide) (by decide)).1
theorem N17 (S : Sh r E) : E.2.1 17 = 8 := (S.1 17 (by decide) (by decide)).2
theorem K18 (S : Sh r E) : E.1 18 = 13 := (S.1 18 (by decide) (by decide)).1
theorem N18 (S : Sh r E) : E.2.1 18 = 5 := (S.1 18 (by decide) (by decide)).2
theorem K19 (S : Sh r E) : E.1 19 = 4 := (S.1 19 (by decide) (by decide)).1
theorem K20 (S : Sh r E) : E.1 20 = 13 := (S.1 20 (by decide) (by decide)).1
theorem N20 (S : Sh r E) : E.2.1 20 = 8 := (S.1 20 (by decide) (by decide)).2
theorem K21 (S : Sh r E) : E.1 21 = 13 := (S.1 21 (by decide) (by decide)).1
theorem N21 (S : Sh r E) : E.2.1 21 = 8 := (S.1 21 (by decide) (by decide)).2
theorem K22 (S : Sh r E) : E.1 22 = 13 := (S.1 22 (by decide) (by decide)).1
theorem N22 (S : Sh r E) : E.2.1 22 = 8 := (S.1 22 (by decide) (by decide)).2
theorem K23 (S : Sh r E) : E.1 23 = 13 := (S.1 23 (by decide) (by decide)).1
theorem N23 (S : Sh r E) : E.2.1 23 = 8 := (S.1 23 (by decide) (by decide)).2
theorem K24 (S : Sh r E) : E.1 24 = 13 := (S.1 24 (by decide) (by decide)).1
theorem N24 (S : Sh r E) : E.2.1 24 = 8 := (S.1 24 (by decide) (by decide)).2
theorem K25 (S : Sh r E) : E.1 25 = 13 := (S.1 25 (by decide) (by decide)).1
theorem N25 (S : Sh r E) : E.2.1 25 = 8 := (S.1 25 (by decide) (by decide)).2
theorem K26 (S : Sh r E) : E.1 26 = 13 := (S.1 26 (by decide) (by decide)).1
theorem N26 (S : Sh r E) : E.2.1 26 = 5 := (S.1 26 (by decide) (by decide)).2
theorem K27 (S : Sh r E) : E.1 27 = 3 := (S.1 27 (by decide) (by decide)).1
theorem K28 (S : Sh r E) : E.1 28 = 13 := (S.1 28 (by decide) (by decide)).1
theorem N28 (S : Sh r E) : E.2.1 28 = 121 := (S.1 28 (by decide) (by decide)).2
theorem K29 (S : Sh r E) : E.1 29 = 13 := (S.1 29 (by decide) (by decide)).1
theorem N29 (S : Sh r E) : E.2.1 29 = 121 := (S.1 29 (by decide) (by decide)).2
theorem K30 (S : Sh r E) : E.1 30 = 13 := (S.1 30 (by decide) (by decide)).1
theorem N30 (S : Sh r E) : E.2.1 30 = 121 := (S.1 30 (by decide) (by decide)).2
theorem K31 (S : Sh r E) : E.1 31 = 13 := (S.1 31 (by decide) (by decide)).1
theorem N31 (S : Sh r E) : E.2.1 31 = 6 := (S.1 31 (by decide) (by decide)).2
theorem K32 (S : Sh r E) : E.1 32 = 3 := (S.1 32 (by decide) (by decide)).1
theorem K33 (S : Sh r E) : E.1 33 = 13 := (S.1 33 (by decide) (by decide)).1
theorem N33 (S : Sh r E) : E.2.1 33 = 121 := (S.1 33 (by decide) (by decide)).2
theorem K34 (S : Sh r E) : E.1 34 = 13 := (S.1 34 (by decide) (by decide)).1
theorem N34 (S : Sh r E) : E.2.1 34 = 121 := (S.1 34 (by decide) (by decide)).2
theorem K35 (S : Sh r E) : E.1 35 = 13 := (S.1 35 (by decide) (by decide)).1
theorem N35 (S : Sh r E) : E.2.1 35 = 121 := (S.1 35 (by decide) (by decide)).2
theorem K36 (S : Sh r E) : E.1 36 = 13 := (S.1 36 (by decide) (by decide)).1
theorem N36 (S : Sh r E) : E.2.1 36 = 6 := (S.1 36 (by decide) (by decide)).2
theorem K37 (S : Sh r E) : E.1 37 = 13 := (S.1 37 (by decide) (by decide)).1
theorem N37 (S : Sh r E) : E.2.1 37 = 120 := (S.1 37 (by decide) (by decide)).2
theorem K38 (S : Sh r E) : E.1 38 = 17 := (S.1 38 (by decide) (by decide)).1
theorem N38 (S : Sh r E) : E.2.1 38 = 40 := (S.1 38 (by decide) (by decide)).2
theorem K39 (S : Sh r E) : E.1 39 = 13 := (S.1 39 (by decide) (by decide)).1
theorem N39 (S : Sh r E) : E.2.1 39 = 4 := (S.1 39 (by decide) (by decide)).2
theorem K40 (S : Sh r E) : E.1 40 = 13 := (S.1 40 (by decide) (by decide)).1
theorem N40 (S : Sh r E) : E.2.1 40 = 4 := (S.1 40 (by decide) (by decide)).2
theorem K41 (S : Sh r E) : E.1 41 = 13 := (S.1 41 (by decide) (by decide)).1
theorem N41 (S : Sh r E) : E.2.1 41 = 4 := (S.1 41 (by decide) (by decide)).2
theorem K42 (S : Sh r E) : E.1 42 = 13 := (S.1 42 (by decide) (by decide)).1
theorem N42 (S : Sh r E) : E.2.1 42 = 4 := (S.1 42 (by decide) (by decide)).2
theorem K43 (S : Sh r E) : E.1 43 = 13 := (S.1 43 (by decide) (by decide)).1
theorem N43 (S : Sh r E) : E.2.1 43 = 4 := (S.1 43 (by decide) (by decide)).2
theorem K44 (S : Sh r E) : E.1 44 = 13 := (S.1 44 (by decide) (by decide)).1
theorem N44 (S : Sh r E) : E.2.1 44 = 4 := (S.1 44 (by decide) (by decide)).2
theorem K45 (S : Sh r E) : E.1 45 = 13 := (S.1 45 (by decide) (by decide)).1
theorem N45 (S : Sh r E) : E.2.1 45 = 4 := (S.1 45 (by decide) (by decide)).2
theorem K46 (S : Sh r E) : E.1 46 = 13 := (S.1 46 (by decide) (by decide)).1
theorem N46 (S : Sh r E) : E.2.1 46 = 4 := (S.1 46 (by decide) (by decide)).2
theorem K47 (S : Sh r E) : E.1 47 = 13 := (S.1 47 (by decide) (by decide)).1
theorem N47 (S : Sh r E) : E.2.1 47 = 4 := (S.1 47 (by decide) (by decide)).2
theorem K48 (S : Sh r E) : E.1 48 = 13 := (S.1 48 (by decide) (by decide)).1
theorem N48 (S : Sh r E) : E.2.1 48 = 4 := (S.1 48 (by decide) (by decide)).2
theorem K49 (S : Sh r E) : E.1 49 = 13 := (S.1 49 (by decide) (by decide)).1
theorem N49 (S : Sh r E) : E.2.1 49 = 4 := (S.1 49 (by decide) (by decide)).2
theorem K50 (S : Sh r E) : E.1 50 = 13 := (S.1 50 (by decide) (by decide)).1
theorem N50 (S : Sh r E) : E.2.1 50 = 4 := (S.1 50 (by decide) (by decide)).2
theorem K51 (S : Sh r E) : E.1 51 = 13 := (S.1 51 (by decide) (by decide)).1
theorem N51 (S : Sh r E) : E.2.1 51 = 4 := (S.1 51 (by decide) (by decide)).2
theorem K52 (S : Sh r E) : E.1 52 = 13 := (S.1 52 (by decide) (by decide)).1
theorem N52 (S : Sh r E) : E.2.1 52 = 4 := (S.1 52 (by decide) (by decide)).2
theorem K53 (S : Sh r E) : E.1 53 = 13 := (S.1 53 (by decide) (by decide)).1
theorem N53 (S : Sh r E) : E.2.1 53 = 4 := (S.1 53 (by decide) (by decide)).2
theorem K54 (S : Sh r E) : E.1 54 = 13 := (S.1 54 (by decide) (by decide)).1
theorem N54 (S : Sh r E) : E.2.1 54 = 4 := (S.1 54 (by decide) (by decide)).2
theorem K55 (S : Sh r E) : E.1 55 = 13 := (S.1 55 (by decide) (by decide)).1
theorem N55 (S : Sh r E) : E.2.1 55 = 4 := (S.1 55 (by decide) (by decide)).2
theorem K56 (S : Sh r E) : E.1 56 = 13 := (S.1 56 (by decide) (by decide)).1
theorem N56 (S : Sh r E) : E.2.1 56 = 4 := (S.1 56 (by decide) (by decide)).2
theorem K57 (S : Sh r E) : E.1 57 = 13 := (S.1 57 (by decide) (by decide)).1
theorem N57 (S : Sh r E) : E.2.1 57 = 4 := (S.1 57 (by decide) (by decide)).2
theorem K58 (S : Sh r E) : E.1 58 = 13 := (S.1 58 (by decide) (by decide)).1
theorem N58 (S : Sh r E) : E.2.1 58 = 4 := (S.1 58 (by decide) (by decide)).2
theorem K59 (S : Sh r E) : E.1 59 = 13 := (S.1 59 (by decide) (by decide)).1
theorem N59 (S : Sh r E) : E.2.1 59 = 4 := (S.1 59 (by decide) (by decide)).2
theorem K60 (S : Sh r E) : E.1 60 = 13 := (S.1 60 (by decide) (by decide)).1
theorem N60 (S : Sh r E) : E.2.1 60 = 4 := (S.1 60 (by decide) (by decide)).2
theorem K61 (S : Sh r E) : E.1 61 = 13 := (S.1 61 (by decide) (by decide)).1
theorem N61 (S : Sh r E) : E.2.1 61 = 4 := (S.1 61 (by decide) (by decide)).2
theorem K62 (S : Sh r E) : E.1 62 = 13 := (S.1 62 (by decide) (by decide)).1
theorem N62 (S : Sh r E) : E.2.1 62 = 4 := (S.1 62 (by decide) (by decide)).2
theorem K63 (S : Sh r E) : E.1 63 = 13 := (S.1 63 (by decide) (by decide)).1
theorem N63 (S : Sh r E) : E.2.1 63 = 4 := (S.1 63 (by decide) (by decide)).2
theorem K64 (S : Sh r E) : E.1 64 = 13 := (S.1 64 (by decide) (by decide)).1
theorem N64 (S : Sh r E) : E.2.1 64 = 4 := (S.1 64 (by decide) (by decide)).2
theorem K65 (S : Sh r E) : E.1 65 = 13 := (S.1 65 (by decide) (by decide)).1
theorem N65 (S : Sh r E) : E.2.1 65 = 4 := (S.1 65 (by decide) (by decide)).2
theorem K66 (S : Sh r E) : E.1 66 = 13 := (S.1 66 (by decide) (by decide)).1
theorem N66 (S : Sh r E) : E.2.1 66 = 4 := (S.1 66 (by decide) (by decide)).2
theorem K67 (S : Sh r E) : E.1 67 = 13 := (S.1 67 (by decide) (by decide)).1
theorem N67 (S : Sh r E) : E.2.1 67 = 4 := (S.1 67 (by decide) (by decide)).2
theorem K68 (S : Sh r E) : E.1 68 = 13 := (S.1 68 (by decide) (by decide)).1
theorem N68 (S : Sh r E) : E.2.1 68 = 4 := (S.1 68 (by decide) (by decide)).2
theorem K69 (S : Sh r E) : E.1 69 = 13 := (S.1 69 (by decide) (by decide)).1
theorem N69 (S : Sh r E) : E.2.1 69 = 4 := (S.1 69 (by decide) (by decide)).2
theorem K70 (S : Sh r E) : E.1 70 = 13 := (S.1 70 (by decide) (by decide)).1
theorem N70 (S : Sh r E) : E.2.1 70 = 4 := (S.1 70 (by decide) (by decide)).2
theorem K71 (S : Sh r E) : E.1 71 = 13 := (S.1 71 (by decide) (by decide)).1
theorem N71 (S : Sh r E) : E.2.1 71 = 4 := (S.1 71 (by decide) (by decide)).2
theorem K72 (S : Sh r E) : E.1 72 = 13 := (S.1 72 (by decide) (by decide)).1
theorem N72 (S : Sh r E) : E.2.1 72 = 4 := (S.1 72 (by decide) (by decide)).2
theorem K73 (S : Sh r E) : E.1 73 = 13 := (S.1 73 (by decide) (by decide)).1
theorem N73 (S : Sh r E) : E.2.1 73 = 4 := (S.1 73 (by decide) (by decide)).2
theorem K74 (S : Sh r E) : E.1 74 = 13 := (S.1 74 (by decide) (by decide)).1
theorem N74 (S : Sh r E) : E.2.1 74 = 4 := (S.1 74 (by decide) (by decide)).2
theorem K75 (S : Sh r E) : E.1 75 = 13 := (S.1 75 (by decide) (by decide)).1
theorem N75 (S : Sh r E) : E.2.1 75 = 4 := (S.1 75 (by decide) (by decide)).2
theorem K76 (S : Sh r E) : E.1 76 = 13 := (S.1 76 (by decide) (by decide)).1
theorem N76 (S : Sh r E) : E.2.1 76 = 4 := (S.1 76 (by decide) (by decide)).2
theorem K77 (S : Sh r E) : E.1 77 = 13 := (S.1 77 (by decide) (by decide)).1
theorem N77 (S : Sh r E) : E.2.1 77 = 4 := (S.1 77 (by decide) (by decide)).2
theorem K78 (S : Sh r E) : E.1 78 = 13 := (S.1 78 (by decide) (by decide)).1
theorem N78 (S : Sh r E) : E.2.1 78 = 4 := (S.1 78 (by decide) (by decide)).2
theorem K79 (S : Sh r E) : E.1 79 = 17 := (S.1 79 (by decide) (by decide)).1
theorem N79 (S : Sh r E) : E.2.1 79 = 8 := (S.1 79 (by decide) (by decide)).2
theorem K80 (S : Sh r E) : E.1 80 = 13 := (S.1 80 (by decide) (by decide)).1
theorem N80 (S : Sh r E) : E.2.1 80 = 8 := (S.1 80 (by decide) (by decide)).2
theorem K81 (S : Sh r E) : E.1 81 = 13 := (S.1 81 (by decide) (by decide)).1
theorem N81 (S : Sh r E) : E.2.1 81 = 8 := (S.1 81 (by decide) (by decide)).2
theorem K82 (S : Sh r E) : E.1 82 = 13 := (S.1 82 (by decide) (by decide)).1
theorem N82 (S : Sh r E) : E.2.1 82 = 8 := (S.1 82 (by decide) (by decide)).2
theorem K83 (S : Sh r E) : E.1 83 = 13 := (S.1 83 (by decide) (by decide)).1
theorem N83 (S : Sh r E) : E.2.1 83 = 8 := (S.1 83 (by decide) (by decide)).2
theorem K84 (S : Sh r E) : E.1 84 = 13 := (S.1 84 (by decide) (by decide)).1
theorem N84 (S : Sh r E) : E.2.1 84 = 8 := (S.1 84 (by decide) (by decide)).2
theorem K85 (S : Sh r E) : E.1 85 = 13 := (S.1 85 (by decide) (by decide)).1
theorem N85 (S : Sh r E) : E.2.1 85 = 8 := (S.1 85 (by decide) (by decide)).2
theorem K86 (S : Sh r E) : E.1 86 = 13 := (S.1 86 (by decide) (by decide)).1
theorem N86 (S : Sh r E) : E.2.1 86 = 8 := (S.1 86 (by decide) (by decide)).2
theorem K87 (S : Sh r E) : E.1 87 = 13 := (S.1 87 (by decide) (by decide)).1
theorem N87 (S : Sh r E) : E.2.1 87 = 8 := (S.1 87 (by decide) (by decide)).2
theorem K88 (S : Sh r E) : E.1 88 = 17 := (S.1 88 (by decide) (by decide)).1
theorem N88 (S : Sh r E) : E.2.1 88 = 9 := (S.1 88 (by decide) (by decide)).2
theorem K89 (S : Sh r E) : E.1 89 = 13 := (S.1 89 (by decide) (by decide)).1
theorem N89 (S : Sh r E) : E.2.1 89 = 256 := (S.1 89 (by decide) (by decide)).2
theorem K90 (S : Sh r E) : E.1 90 = 13 := (S.1 90 (by decide) (by decide)).1
theorem N90 (S : Sh r E) : E.2.1 90 = 256 := (S.1 90 (by decide) (by decide)).2
theorem K91 (S : Sh r E) : E.1 91 = 13 := (S.1 91 (by decide) (by decide)).1
theorem N91 (S : Sh r E) : E.2.1 91 = 256 := (S.1 91 (by decide) (by decide)).2
theorem K92 (S : Sh r E) : E.1 92 = 13 := (S.1 92 (by decide) (by decide)).1
theorem N92 (S : Sh r E) : E.2.1 92 = 256 := (S.1 92 (by decide) (by decide)).2
theorem K93 (S : Sh r E) : E.1 93 = 13 := (S.1 93 (by decide) (by decide)).1
theorem N93 (S : Sh r E) : E.2.1 93 = 256 := (S.1 93 (by decide) (by decide)).2
theorem K94 (S : Sh r E) : E.1 94 = 13 := (S.1 94 (by decide) (by decide)).1
theorem N94 (S : Sh r E) : E.2.1 94 = 256 := (S.1 94 (by decide) (by decide)).2
theorem K95 (S : Sh r E) : E.1 95 = 13 := (S.1 95 (by decide) (by decide)).1
theorem N95 (S : Sh r E) : E.2.1 95 = 256 := (S.1 95 (by decide) (by decide)).2
theorem K96 (S : Sh r E) : E.1 96 = 13 := (S.1 96 (by decide) (by decide)).1
theorem N96 (S : Sh r E) : E.2.1 96 = 256 := (S.1 96 (by decide) (by decide)).2
theorem K97 (S : Sh r E) : E.1 97 = 13 := (S.1 97 (by decide) (by decide)).1
theorem N97 (S : Sh r E) : E.2.1 97 = 256 := (S.1 97 (by decide) (by decide)).2
theorem K98 (S : Sh r E) : E.1 98 = 15 := (S.1 98 (by decide) (by decide)).1
theorem N98 (S : Sh r E) : E.2.1 98 = 50 := (S.1 98 (by decide) (by decide)).2
theorem K99 (S : Sh r E) : E.1 99 = 13 := (S.1 99 (by decide) (by decide)).1
theorem N99 (S : Sh r E) : E.2.1 99 = 25 := (S.1 99 (by decide) (by decide)).2
theorem K100 (S : Sh r E) : E.1 100 = 16 := (S.1 100 (by decide) (by decide)).1
theorem N100 (S : Sh r E) : E.2.1 100 = 6 := (S.1 100 (by decide) (by decide)).2
theorem K101 (S : Sh r E) : E.1 101 = 9 := (S.1 101 (by decide) (by decide)).1
theorem K102 (S : Sh r E) : E.1 102 = 14 := (S.1 102 (by decide) (by decide)).1
theorem N102 (S : Sh r E) : E.2.1 102 = 60 := (S.1 102 (by decide) (by decide)).2
theorem K103 (S : Sh r E) : E.1 103 = 9 := (S.1 103 (by decide) (by decide)).1
theorem K104 (S : Sh r E) : E.1 104 = 14 := (S.1 104 (by decide) (by decide)).1
theorem N104 (S : Sh r E) : E.2.1 104 = 60 := (S.1 104 (by decide) (by decide)).2
theorem K105 (S : Sh r E) : E.1 105 = 9 := (S.1 105 (by decide) (by decide)).1
theorem K106 (S : Sh r E) : E.1 106 = 14 := (S.1 106 (by decide) (by decide)).1
theorem N106 (S : Sh r E) : E.2.1 106 = 60 := (S.1 106 (by decide) (by decide)).2
theorem K107 (S : Sh r E) : E.1 107 = 9 := (S.1 107 (by decide) (by decide)).1
theorem K108 (S : Sh r E) : E.1 108 = 14 := (S.1 108 (by decide) (by decide)).1
theorem N108 (S : Sh r E) : E.2.1 108 = 60 := (S.1 108 (by decide) (by decide)).2
theorem K109 (S : Sh r E) : E.1 109 = 9 := (S.1 109 (by decide) (by decide)).1
theorem K110 (S : Sh r E) : E.1 110 = 14 := (S.1 110 (by decide) (by decide)).1
theorem N110 (S : Sh r E) : E.2.1 110 = 60 := (S.1 110 (by decide) (by decide)).2
theorem K111 (S : Sh r E) : E.1 111 = 9 := (S.1 111 (by decide) (by decide)).1
theorem K112 (S : Sh r E) : E.1 112 = 14 := (S.1 112 (by decide) (by decide)).1
theorem N112 (S : Sh r E) : E.2.1 112 = 60 := (S.1 112 (by decide) (by decide)).2
theorem R3_0 (S : Sh r E) : r 3 0 = 4 := S.2.1 (3, 0, 4) (by decide +kernel)
theorem R3_1 (S : Sh r E) : r 3 1 = 5 := S.2.1 (3, 1, 5) (by decide +kernel)
theorem R3_2 (S : Sh r E) : r 3 2 = 6 := S.2.1 (3, 2, 6) (by decide +kernel)
theorem R3_3 (S : Sh r E) : r 3 3 = 7 := S.2.1 (3, 3, 7) (by decide +kernel)
theorem R3_4 (S : Sh r E) : r 3 4 = 8 := S.2.1 (3, 4, 8) (by decide +kernel)
theorem R3_5 (S : Sh r E) : r 3 5 = 9 := S.2.1 (3, 5, 9) (by decide +kernel)
theorem R3_6 (S : Sh r E) : r 3 6 = 10 := S.2.1 (3, 6, 10) (by decide +kernel)
theorem R2_0 (S : Sh r E) : r 2 0 = 3 := S.2.1 (2, 0, 3) (by decide +kernel)
theorem R11_0 (S : Sh r E) : r 11 0 = 12 := S.2.1 (11, 0, 12) (by decide +kernel)
theorem R11_1 (S : Sh r E) : r 11 1 = 13 := S.2.1 (11, 1, 13) (by decide +kernel)
theorem R11_2 (S : Sh r E) : r 11 2 = 14 := S.2.1 (11, 2, 14) (by decide +kernel)
theorem R11_3 (S : Sh r E) : r 11 3 = 15 := S.2.1 (11, 3, 15) (by decide +kernel)
theorem R11_4 (S : Sh r E) : r 11 4 = 16 := S.2.1 (11, 4, 16) (by decide +kernel)
theorem R11_5 (S : Sh r E) : r 11 5 = 17 := S.2.1 (11, 5, 17) (by decide +kernel)
theorem R11_6 (S : Sh r E) : r 11 6 = 18 := S.2.1 (11, 6, 18) (by decide +kernel)
theorem R2_1 (S : Sh r E) : r 2 1 = 11 := S.2.1 (2, 1, 11) (by decide +kernel)
theorem R19_0 (S : Sh r E) : r 19 0 = 20 := S.2.1 (19, 0, 20) (by decide +kernel)
theorem R19_1 (S : Sh r E) : r 19 1 = 21 := S.2.1 (19, 1, 21) (by decide +kernel)
theorem R19_2 (S : Sh r E) : r 19 2 = 22 := S.2.1 (19, 2, 22) (by decide +kernel)
theorem R19_3 (S : Sh r E) : r 19 3 = 23 := S.2.1 (19, 3, 23) (by decide +kernel)
theorem R19_4 (S : Sh r E) : r 19 4 = 24 := S.2.1 (19, 4, 24) (by decide +kernel)
theorem R19_5 (S : Sh r E) : r 19 5 = 25 := S.2.1 (19, 5, 25) (by decide +kernel)
theorem R19_6 (S : Sh r E) : r 19 6 = 26 := S.2.1 (19, 6, 26) (by decide +kernel)
theorem R2_2 (S : Sh r E) : r 2 2 = 19 := S.2.1 (2, 2, 19) (by decide +kernel)
theorem R27_0 (S : Sh r E) : r 27 0 = 28 := S.2.1 (27, 0, 28) (by decide +kernel)
theorem R27_1 (S : Sh r E) : r 27 1 = 29 := S.2.1 (27, 1, 29) (by decide +kernel)
theorem R27_2 (S : Sh r E) : r 27 2 = 30 := S.2.1 (27, 2, 30) (by decide +kernel)
theorem R27_3 (S : Sh r E) : r 27 3 = 31 := S.2.1 (27, 3, 31) (by decide +kernel)
theorem R32_0 (S : Sh r E) : r 32 0 = 33 := S.2.1 (32, 0, 33) (by decide +kernel)
theorem R32_1 (S : Sh r E) : r 32 1 = 34 := S.2.1 (32, 1, 34) (by decide +kernel)
theorem R32_2 (S : Sh r E) : r 32 2 = 35 := S.2.1 (32, 2, 35) (by decide +kernel)
theorem R32_3 (S : Sh r E) : r 32 3 = 36 := S.2.1 (32, 3, 36) (by decide +kernel)
theorem R2_6 (S : Sh r E) : r 2 6 = 37 := S.2.1 (2, 6, 37) (by decide +kernel)
theorem R38_0 (S : Sh r E) : r 38 0 = 39 := S.2.1 (38, 0, 39) (by decide +kernel)
theorem R38_1 (S : Sh r E) : r 38 1 = 40 := S.2.1 (38, 1, 40) (by decide +kernel)
theorem R38_2 (S : Sh r E) : r 38 2 = 41 := S.2.1 (38, 2, 41) (by decide +kernel)
theorem R38_3 (S : Sh r E) : r 38 3 = 42 := S.2.1 (38, 3, 42) (by decide +kernel)
theorem R38_4 (S : Sh r E) : r 38 4 = 43 := S.2.1 (38, 4, 43) (by decide +kernel)
theorem R38_5 (S : Sh r E) : r 38 5 = 44 := S.2.1 (38, 5, 44) (by decide +kernel)
theorem R38_6 (S : Sh r E) : r 38 6 = 45 := S.2.1 (38, 6, 45) (by decide +kernel)
theorem R38_7 (S : Sh r E) : r 38 7 = 46 := S.2.1 (38, 7, 46) (by decide +kernel)
theorem R38_8 (S : Sh r E) : r 38 8 = 47 := S.2.1 (38, 8, 47) (by decide +kernel)
theorem R38_9 (S : Sh r E) : r 38 9 = 48 := S.2.1 (38, 9, 48) (by decide +kernel)
theorem R38_10 (S : Sh r E) : r 38 10 = 49 := S.2.1 (38, 10, 49) (by decide +kernel)
theorem R38_11 (S : Sh r E) : r 38 11 = 50 := S.2.1 (38, 11, 50) (by decide +kernel)
theorem R38_12 (S : Sh r E) : r 38 12 = 51 := S.2.1 (38, 12, 51) (by decide +kernel)
theorem R38_13 (S : Sh r E) : r 38 13 = 52 := S.2.1 (38, 13, 52) (by decide +kernel)
theorem R38_14 (S : Sh r E) : r 38 14 = 53 := S.2.1 (38, 14, 53) (by decide +kernel)
theorem R38_15 (S : Sh r E) : r 38 15 = 54 := S.2.1 (38, 15, 54) (by decide +kernel)
theorem R38_16 (S : Sh r E) : r 38 16 = 55 := S.2.1 (38, 16, 55) (by decide +kernel)
theorem R38_17 (S : Sh r E) : r 38 17 = 56 := S.2.1 (38, 17, 56) (by decide +kernel)
theorem R38_18 (S : Sh r E) : r 38 18 = 57 := S.2.1 (38, 18, 57) (by decide +kernel)
theorem R38_19 (S : Sh r E) : r 38 19 = 58 := S.2.1 (38, 19, 58) (by decide +kernel)
theorem R38_20 (S : Sh r E) : r 38 20 = 59 := S.2.1 (38, 20, 59) (by decide +kernel)
theorem R38_21 (S : Sh r E) : r 38 21 = 60 := S.2.1 (38, 21, 60) (by decide +kernel)
theorem R38_22 (S : Sh r E) : r 38 22 = 61 := S.2.1 (38, 22, 61) (by decide +kernel)
theorem R38_23 (S : Sh r E) : r 38 23 = 62 := S.2.1 (38, 23, 62) (by decide +kernel)
theorem R38_24 (S : Sh r E) : r 38 24 = 63 := S.2.1 (38, 24, 63) (by decide +kernel)
theorem R38_25 (S : Sh r E) : r 38 25 = 64 := S.2.1 (38, 25, 64) (by decide +kernel)
theorem R38_26 (S : Sh r E) : r 38 26 = 65 := S.2.1 (38, 26, 65) (by decide +kernel)
theorem R38_27 (S : Sh r E) : r 38 27 = 66 := S.2.1 (38, 27, 66) (by decide +kernel)
theorem R38_28 (S : Sh r E) : r 38 28 = 67 := S.2.1 (38, 28, 67) (by decide +kernel)
theorem R38_29 (S : Sh r E) : r 38 29 = 68 := S.2.1 (38, 29, 68) (by decide +kernel)
theorem R38_30 (S : Sh r E) : r 38 30 = 69 := S.2.1 (38, 30, 69) (by decide +kernel)
theorem R38_31 (S : Sh r E) : r 38 31 = 70 := S.2.1 (38, 31, 70) (by decide +kernel)
theorem R38_32 (S : Sh r E) : r 38 32 = 71 := S.2.1 (38, 32, 71) (by decide +kernel)
theorem R38_33 (S : Sh r E) : r 38 33 = 72 := S.2.1 (38, 33, 72) (by decide +kernel)
theorem R38_34 (S : Sh r E) : r 38 34 = 73 := S.2.1 (38, 34, 73) (by decide +kernel)
theorem R38_35 (S : Sh r E) : r 38 35 = 74 := S.2.1 (38, 35, 74) (by decide +kernel)
theorem R38_36 (S : Sh r E) : r 38 36 = 75 := S.2.1 (38, 36, 75) (by decide +kernel)
theorem R38_37 (S : Sh r E) : r 38 37 = 76 := S.2.1 (38, 37, 76) (by decide +kernel)
theorem R38_38 (S : Sh r E) : r 38 38 = 77 := S.2.1 (38, 38, 77) (by decide +kernel)
theorem R38_39 (S : Sh r E) : r 38 39 = 78 := S.2.1 (38, 39, 78) (by decide +kernel)
theorem R2_8 (S : Sh r E) : r 2 8 = 38 := S.2.1 (2, 8, 38) (by decide +kernel)
theorem R79_0 (S : Sh r E) : r 79 0 = 80 := S.2.1 (79, 0, 80) (by decide +kernel)
theorem R79_1 (S : Sh r E) : r 79 1 = 81 := S.2.1 (79, 1, 81) (by decide +kernel)
theorem R79_2 (S : Sh r E) : r 79 2 = 82 := S.2.1 (79, 2, 82) (by decide +kernel)
theorem R79_3 (S : Sh r E) : r 79 3 = 83 := S.2.1 (79, 3, 83) (by decide +kernel)
theorem R79_4 (S : Sh r E) : r 79 4 = 84 := S.2.1 (79, 4, 84) (by decide +kernel)
theorem R79_5 (S : Sh r E) : r 79 5 = 85 := S.2.1 (79, 5, 85) (by decide +kernel)
theorem R79_6 (S : Sh r E) : r 79 6 = 86 := S.2.1 (79, 6, 86) (by decide +kernel)
theorem R79_7 (S : Sh r E) : r 79 7 = 87 := S.2.1 (79, 7, 87) (by decide +kernel)
theorem R2_11 (S : Sh r E) : r 2 11 = 79 := S.2.1 (2, 11, 79) (by decide +kernel)
theorem R88_0 (S : Sh r E) : r 88 0 = 89 := S.2.1 (88, 0, 89) (by decide +kernel)
theorem R88_1 (S : Sh r E) : r 88 1 = 90 := S.2.1 (88, 1, 90) (by decide +kernel)
theorem R88_2 (S : Sh r E) : r 88 2 = 91 := S.2.1 (88, 2, 91) (by decide +kernel)
theorem R88_3 (S : Sh r E) : r 88 3 = 92 := S.2.1 (88, 3, 92) (by decide +kernel)
theorem R88_4 (S : Sh r E) : r 88 4 = 93 := S.2.1 (88, 4, 93) (by decide +kernel)
theorem R88_5 (S : Sh r E) : r 88 5 = 94 := S.2.1 (88, 5, 94) (by decide +kernel)
theorem R88_6 (S : Sh r E) : r 88 6 = 95 := S.2.1 (88, 6, 95) (by decide +kernel)
theorem R88_7 (S : Sh r E) : r 88 7 = 96 := S.2.1 (88, 7, 96) (by decide +kernel)
theorem R88_8 (S : Sh r E) : r 88 8 = 97 := S.2.1 (88, 8, 97) (by decide +kernel)
theorem R2_12 (S : Sh r E) : r 2 12 = 88 := S.2.1 (2, 12, 88) (by decide +kernel)
theorem R2_13 (S : Sh r E) : r 2 13 = 98 := S.2.1 (2, 13, 98) (by decide +kernel)
theorem R2_15 (S : Sh r E) : r 2 15 = 99 := S.2.1 (2, 15, 99) (by decide +kernel)
theorem R2_16 (S : Sh r E) : r 2 16 = 100 := S.2.1 (2, 16, 100) (by decide +kernel)
theorem R101_0 (S : Sh r E) : r 101 0 = 102 := S.2.1 (101, 0, 102) (by decide +kernel)
theorem R100_0 (S : Sh r E) : r 100 0 = 101 := S.2.1 (100, 0, 101) (by decide +kernel)
theorem R103_0 (S : Sh r E) : r 103 0 = 104 := S.2.1 (103, 0, 104) (by decide +kernel)
theorem R100_1 (S : Sh r E) : r 100 1 = 103 := S.2.1 (100, 1, 103) (by decide +kernel)
theorem R105_0 (S : Sh r E) : r 105 0 = 106 := S.2.1 (105, 0, 106) (by decide +kernel)
theorem R100_2 (S : Sh r E) : r 100 2 = 105 := S.2.1 (100, 2, 105) (by decide +kernel)
theorem R107_0 (S : Sh r E) : r 107 0 = 108 := S.2.1 (107, 0, 108) (by decide +kernel)
theorem R100_3 (S : Sh r E) : r 100 3 = 107 := S.2.1 (100, 3, 107) (by decide +kernel)
theorem R109_0 (S : Sh r E) : r 109 0 = 110 := S.2.1 (109, 0, 110) (by decide +kernel)
theorem R100_4 (S : Sh r E) : r 100 4 = 109 := S.2.1 (100, 4, 109) (by decide +kernel)
theorem R111_0 (S : Sh r E) : r 111 0 = 112 := S.2.1 (111, 0, 112) (by decide +kernel)
theorem R100_5 (S : Sh r E) : r 100 5 = 111 := S.2.1 (100, 5, 111) (by decide +kernel)
end SH
