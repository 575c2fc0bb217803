/-! the fixed places: kinds, lengths, pointers, and what is read and written there -/
def fkT : List Nat := [19, 19, 19, 19, 19, 19, 19, 19, 19, 19, 19, 19, 19, 19, 19, 19, 19, 19, 19, 19, 19, 19, 19, 19, 19, 19, 20, 12, 12, 12, 10, 9, 12, 7, 12, 12, 7, 12, 12, 3, 13, 12, 12, 12, 12, 12, 12, 12, 2, 12, 12, 6, 12, 7, 12, 12, 17, 15, 18, 12, 4, 12, 16, 12, 11, 12, 12, 12, 12, 12, 13, 13, 13, 14, 12, 12, 13, 13, 12, 12, 12, 12, 12, 12, 12, 12, 12, 12, 12, 12, 12, 12, 12, 12, 12, 14, 12, 13]
def flT : List Nat := [0, 0, 0, 0, 0, 0, 0, 0, 0, 0, 0, 0, 0, 0, 0, 0, 0, 0, 0, 0, 0, 0, 0, 0, 0, 0, 26, 4, 4, 0, 0, 0, 940, 0, 10, 10, 0, 10, 10, 0, 40, 10, 10, 10, 10, 10, 10, 10, 0, 10, 10, 0, 32, 0, 10, 10, 2, 2, 2, 5, 0, 100, 10, 18, 0, 940, 704, 330, 120, 1408, 10, 10, 20, 2, 4, 4, 40, 40, 10, 10, 10, 10, 10, 10, 1024, 1024, 10, 10, 100, 5, 24300, 24300, 24300, 24300, 24300, 100, 240, 1]
def fqT : List (Nat × Nat × Nat) := [(30, 0, 31), (30, 1, 33), (30, 2, 36), (30, 3, 39), (30, 4, 48), (30, 5, 51), (30, 6, 56), (30, 7, 57), (30, 8, 58), (30, 9, 59), (31, 0, 32), (33, 0, 34), (33, 1, 35), (36, 0, 37), (36, 1, 38), (39, 0, 40), (39, 3, 41), (39, 4, 42), (39, 6, 43), (39, 8, 44), (39, 10, 45), (39, 11, 46), (39, 12, 47), (48, 0, 49), (48, 1, 50), (51, 2, 53), (53, 0, 54), (53, 1, 55), (60, 0, 61), (60, 1, 62), (60, 2, 63), (64, 1, 65), (64, 14, 66), (64, 15, 67), (64, 16, 68), (64, 17, 69), (64, 18, 70), (64, 19, 71), (64, 20, 72), (64, 21, 73), (64, 24, 74), (64, 25, 75), (64, 27, 76), (64, 28, 77), (64, 29, 78), (64, 30, 79), (64, 31, 80), (64, 34, 81), (64, 35, 82), (64, 36, 83), (64, 39, 84), (64, 40, 85), (64, 41, 86), (64, 43, 87), (64, 44, 88), (64, 48, 89), (64, 50, 90), (64, 51, 91), (64, 52, 92), (64, 53, 93), (64, 54, 94), (64, 58, 95), (64, 59, 96)]
def Fix (h : Hp) : Prop := 98 ≤ hN h ∧ (∀ a, a < 98 → hK h a = fkT.getD a 99) ∧ (∀ a, a < 98 → a ≠ 29 → hL h a = flT.getD a 0) ∧ (∀ q, q ∈ fqT → hQ h q.1 q.2.1 = some q.2.2) ∧ (∀ j, j < 26 → hJ h j 0 = bd_wcode j ∧ hQ h 26 j = some j) ∧ hI h 27 = bd_stx ∧ hI h 28 = bd_sty
section FX
variable {h : Hp}
theorem K26 (hF : Fix h) : hK h 26 = 20 := hF.2.1 26 (by decide)
theorem L26 (hF : Fix h) : hL h 26 = 26 := hF.2.2.1 26 (by decide) (by decide)
theorem K27 (hF : Fix h) : hK h 27 = 12 := hF.2.1 27 (by decide)
theorem L27 (hF : Fix h) : hL h 27 = 4 := hF.2.2.1 27 (by decide) (by decide)
theorem K28 (hF : Fix h) : hK h 28 = 12 := hF.2.1 28 (by decide)
theorem L28 (hF : Fix h) : hL h 28 = 4 := hF.2.2.1 28 (by decide) (by decide)
theorem K29 (hF : Fix h) : hK h 29 = 12 := hF.2.1 29 (by decide)
theorem K30 (hF : Fix h) : hK h 30 = 10 := hF.2.1 30 (by decide)
theorem L30 (hF : Fix h) : hL h 30 = 0 := hF.2.2.1 30 (by decide) (by decide)
theorem K31 (hF : Fix h) : hK h 31 = 9 := hF.2.1 31 (by decide)
theorem L31 (hF : Fix h) : hL h 31 = 0 := hF.2.2.1 31 (by decide) (by decide)
theorem K32 (hF : Fix h) : hK h 32 = 12 := hF.2.1 32 (by decide)
theorem L32 (hF : Fix h) : hL h 32 = 940 := hF.2.2.1 32 (by decide) (by decide)
theorem K33 (hF : Fix h) : hK h 33 = 7 := hF.2.1 33 (by decide)
theorem L33 (hF : Fix h) : hL h 33 = 0 := hF.2.2.1 33 (by decide) (by decide)
theorem K34 (hF : Fix h) : hK h 34 = 12 := hF.2.1 34 (by decide)
theorem L34 (hF : Fix h) : hL h 34 = 10 := hF.2.2.1 34 (by decide) (by decide)
theorem K35 (hF : Fix h) : hK h 35 = 12 := hF.2.1 35 (by decide)
theorem L35 (hF : Fix h) : hL h 35 = 10 := hF.2.2.1 35 (by decide) (by decide)
theorem K36 (hF : Fix h) : hK h 36 = 7 := hF.2.1 36 (by decide)
theorem L36 (hF : Fix h) : hL h 36 = 0 := hF.2.2.1 36 (by decide) (by decide)
theorem K37 (hF : Fix h) : hK h 37 = 12 := hF.2.1 37 (by decide)
theorem L37 (hF : Fix h) : hL h 37 = 10 := hF.2.2.1 37 (by decide) (by decide)
theorem K38 (hF : Fix h) : hK h 38 = 12 := hF.2.1 38 (by decide)
theorem L38 (hF : Fix h) : hL h 38 = 10 := hF.2.2.1 38 (by decide) (by decide)
theorem K39 (hF : Fix h) : hK h 39 = 3 := hF.2.1 39 (by decide)
theorem L39 (hF : Fix h) : hL h 39 = 0 := hF.2.2.1 39 (by decide) (by decide)
theorem K40 (hF : Fix h) : hK h 40 = 13 := hF.2.1 40 (by decide)
theorem L40 (hF : Fix h) : hL h 40 = 40 := hF.2.2.1 40 (by decide) (by decide)
theorem K41 (hF : Fix h) : hK h 41 = 12 := hF.2.1 41 (by decide)
theorem L41 (hF : Fix h) : hL h 41 = 10 := hF.2.2.1 41 (by decide) (by decide)
theorem K42 (hF : Fix h) : hK h 42 = 12 := hF.2.1 42 (by decide)
theorem L42 (hF : Fix h) : hL h 42 = 10 := hF.2.2.1 42 (by decide) (by decide)
theorem K43 (hF : Fix h) : hK h 43 = 12 := hF.2.1 43 (by decide)
theorem L43 (hF : Fix h) : hL h 43 = 10 := hF.2.2.1 43 (by decide) (by decide)
theorem K44 (hF : Fix h) : hK h 44 = 12 := hF.2.1 44 (by decide)
theorem L44 (hF : Fix h) : hL h 44 = 10 := hF.2.2.1 44 (by decide) (by decide)
theorem K45 (hF : Fix h) : hK h 45 = 12 := hF.2.1 45 (by decide)
theorem L45 (hF : Fix h) : hL h 45 = 10 := hF.2.2.1 45 (by decide) (by decide)
theorem K46 (hF : Fix h) : hK h 46 = 12 := hF.2.1 46 (by decide)
theorem L46 (hF : Fix h) : hL h 46 = 10 := hF.2.2.1 46 (by decide) (by decide)
theorem K47 (hF : Fix h) : hK h 47 = 12 := hF.2.1 47 (by decide)
theorem L47 (hF : Fix h) : hL h 47 = 10 := hF.2.2.1 47 (by decide) (by decide)
theorem K48 (hF : Fix h) : hK h 48 = 2 := hF.2.1 48 (by decide)
theorem L48 (hF : Fix h) : hL h 48 = 0 := hF.2.2.1 48 (by decide) (by decide)
theorem K49 (hF : Fix h) : hK h 49 = 12 := hF.2.1 49 (by decide)
theorem L49 (hF : Fix h) : hL h 49 = 10 := hF.2.2.1 49 (by decide) (by decide)
theorem K50 (hF : Fix h) : hK h 50 = 12 := hF.2.1 50 (by decide)
theorem L50 (hF : Fix h) : hL h 50 = 10 := hF.2.2.1 50 (by decide) (by decide)
theorem K51 (hF : Fix h) : hK h 51 = 6 := hF.2.1 51 (by decide)
theorem L51 (hF : Fix h) : hL h 51 = 0 := hF.2.2.1 51 (by decide) (by decide)
theorem K52 (hF : Fix h) : hK h 52 = 12 := hF.2.1 52 (by decide)
theorem L52 (hF : Fix h) : hL h 52 = 32 := hF.2.2.1 52 (by decide) (by decide)
theorem K53 (hF : Fix h) : hK h 53 = 7 := hF.2.1 53 (by decide)
theorem L53 (hF : Fix h) : hL h 53 = 0 := hF.2.2.1 53 (by decide) (by decide)
theorem K54 (hF : Fix h) : hK h 54 = 12 := hF.2.1 54 (by decide)
theorem L54 (hF : Fix h) : hL h 54 = 10 := hF.2.2.1 54 (by decide) (by decide)
theorem K55 (hF : Fix h) : hK h 55 = 12 := hF.2.1 55 (by decide)
theorem L55 (hF : Fix h) : hL h 55 = 10 := hF.2.2.1 55 (by decide) (by decide)
theorem K56 (hF : Fix h) : hK h 56 = 17 := hF.2.1 56 (by decide)
theorem L56 (hF : Fix h) : hL h 56 = 2 := hF.2.2.1 56 (by decide) (by decide)
theorem K57 (hF : Fix h) : hK h 57 = 15 := hF.2.1 57 (by decide)
theorem L57 (hF : Fix h) : hL h 57 = 2 := hF.2.2.1 57 (by decide) (by decide)
theorem K58 (hF : Fix h) : hK h 58 = 18 := hF.2.1 58 (by decide)
theorem L58 (hF : Fix h) : hL h 58 = 2 := hF.2.2.1 58 (by decide) (by decide)
theorem K59 (hF : Fix h) : hK h 59 = 12 := hF.2.1 59 (by decide)
theorem L59 (hF : Fix h) : hL h 59 = 5 := hF.2.2.1 59 (by decide) (by decide)
theorem K60 (hF : Fix h) : hK h 60 = 4 := hF.2.1 60 (by decide)
theorem L60 (hF : Fix h) : hL h 60 = 0 := hF.2.2.1 60 (by decide) (by decide)
theorem K61 (hF : Fix h) : hK h 61 = 12 := hF.2.1 61 (by decide)
theorem L61 (hF : Fix h) : hL h 61 = 100 := hF.2.2.1 61 (by decide) (by decide)
theorem K62 (hF : Fix h) : hK h 62 = 16 := hF.2.1 62 (by decide)
theorem L62 (hF : Fix h) : hL h 62 = 10 := hF.2.2.1 62 (by decide) (by decide)
theorem K63 (hF : Fix h) : hK h 63 = 12 := hF.2.1 63 (by decide)
theorem L63 (hF : Fix h) : hL h 63 = 18 := hF.2.2.1 63 (by decide) (by decide)
theorem K64 (hF : Fix h) : hK h 64 = 11 := hF.2.1 64 (by decide)
theorem L64 (hF : Fix h) : hL h 64 = 0 := hF.2.2.1 64 (by decide) (by decide)
theorem K65 (hF : Fix h) : hK h 65 = 12 := hF.2.1 65 (by decide)
theorem L65 (hF : Fix h) : hL h 65 = 940 := hF.2.2.1 65 (by decide) (by decide)
theorem K66 (hF : Fix h) : hK h 66 = 12 := hF.2.1 66 (by decide)
theorem L66 (hF : Fix h) : hL h 66 = 704 := hF.2.2.1 66 (by decide) (by decide)
theorem K67 (hF : Fix h) : hK h 67 = 12 := hF.2.1 67 (by decide)
theorem L67 (hF : Fix h) : hL h 67 = 330 := hF.2.2.1 67 (by decide) (by decide)
theorem K68 (hF : Fix h) : hK h 68 = 12 := hF.2.1 68 (by decide)
theorem L68 (hF : Fix h) : hL h 68 = 120 := hF.2.2.1 68 (by decide) (by decide)
theorem K69 (hF : Fix h) : hK h 69 = 12 := hF.2.1 69 (by decide)
theorem L69 (hF : Fix h) : hL h 69 = 1408 := hF.2.2.1 69 (by decide) (by decide)
theorem K70 (hF : Fix h) : hK h 70 = 13 := hF.2.1 70 (by decide)
theorem L70 (hF : Fix h) : hL h 70 = 10 := hF.2.2.1 70 (by decide) (by decide)
theorem K71 (hF : Fix h) : hK h 71 = 13 := hF.2.1 71 (by decide)
theorem L71 (hF : Fix h) : hL h 71 = 10 := hF.2.2.1 71 (by decide) (by decide)
theorem K72 (hF : Fix h) : hK h 72 = 13 := hF.2.1 72 (by decide)
theorem L72 (hF : Fix h) : hL h 72 = 20 := hF.2.2.1 72 (by decide) (by decide)
theorem K73 (hF : Fix h) : hK h 73 = 14 := hF.2.1 73 (by decide)
theorem L73 (hF : Fix h) : hL h 73 = 2 := hF.2.2.1 73 (by decide) (by decide)
theorem K74 (hF : Fix h) : hK h 74 = 12 := hF.2.1 74 (by decide)
theorem L74 (hF : Fix h) : hL h 74 = 4 := hF.2.2.1 74 (by decide) (by decide)
theorem K75 (hF : Fix h) : hK h 75 = 12 := hF.2.1 75 (by decide)
theorem L75 (hF : Fix h) : hL h 75 = 4 := hF.2.2.1 75 (by decide) (by decide)
theorem K76 (hF : Fix h) : hK h 76 = 13 := hF.2.1 76 (by decide)
theorem L76 (hF : Fix h) : hL h 76 = 40 := hF.2.2.1 76 (by decide) (by decide)
theorem K77 (hF : Fix h) : hK h 77 = 13 := hF.2.1 77 (by decide)
theorem L77 (hF : Fix h) : hL h 77 = 40 := hF.2.2.1 77 (by decide) (by decide)
theorem K78 (hF : Fix h) : hK h 78 = 12 := hF.2.1 78 (by decide)
theorem L78 (hF : Fix h) : hL h 78 = 10 := hF.2.2.1 78 (by decide) (by decide)
theorem K79 (hF : Fix h) : hK h 79 = 12 := hF.2.1 79 (by decide)
theorem L79 (hF : Fix h) : hL h 79 = 10 := hF.2.2.1 79 (by decide) (by decide)
theorem K80 (hF : Fix h) : hK h 80 = 12 := hF.2.1 80 (by decide)
theorem L80 (hF : Fix h) : hL h 80 = 10 := hF.2.2.1 80 (by decide) (by decide)
theorem K81 (hF : Fix h) : hK h 81 = 12 := hF.2.1 81 (by decide)
theorem L81 (hF : Fix h) : hL h 81 = 10 := hF.2.2.1 81 (by decide) (by decide)
theorem K82 (hF : Fix h) : hK h 82 = 12 := hF.2.1 82 (by decide)
theorem L82 (hF : Fix h) : hL h 82 = 10 := hF.2.2.1 82 (by decide) (by decide)
theorem K83 (hF : Fix h) : hK h 83 = 12 := hF.2.1 83 (by decide)
theorem L83 (hF : Fix h) : hL h 83 = 10 := hF.2.2.1 83 (by decide) (by decide)
theorem K84 (hF : Fix h) : hK h 84 = 12 := hF.2.1 84 (by decide)
theorem L84 (hF : Fix h) : hL h 84 = 1024 := hF.2.2.1 84 (by decide) (by decide)
theorem K85 (hF : Fix h) : hK h 85 = 12 := hF.2.1 85 (by decide)
theorem L85 (hF : Fix h) : hL h 85 = 1024 := hF.2.2.1 85 (by decide) (by decide)
theorem K86 (hF : Fix h) : hK h 86 = 12 := hF.2.1 86 (by decide)
theorem L86 (hF : Fix h) : hL h 86 = 10 := hF.2.2.1 86 (by decide) (by decide)
theorem K87 (hF : Fix h) : hK h 87 = 12 := hF.2.1 87 (by decide)
theorem L87 (hF : Fix h) : hL h 87 = 10 := hF.2.2.1 87 (by decide) (by decide)
theorem K88 (hF : Fix h) : hK h 88 = 12 := hF.2.1 88 (by decide)
theorem L88 (hF : Fix h) : hL h 88 = 100 := hF.2.2.1 88 (by decide) (by decide)
theorem K89 (hF : Fix h) : hK h 89 = 12 := hF.2.1 89 (by decide)
theorem L89 (hF : Fix h) : hL h 89 = 5 := hF.2.2.1 89 (by decide) (by decide)
theorem K90 (hF : Fix h) : hK h 90 = 12 := hF.2.1 90 (by decide)
theorem L90 (hF : Fix h) : hL h 90 = 24300 := hF.2.2.1 90 (by decide) (by decide)
theorem K91 (hF : Fix h) : hK h 91 = 12 := hF.2.1 91 (by decide)
theorem L91 (hF : Fix h) : hL h 91 = 24300 := hF.2.2.1 91 (by decide) (by decide)
theorem K92 (hF : Fix h) : hK h 92 = 12 := hF.2.1 92 (by decide)
theorem L92 (hF : Fix h) : hL h 92 = 24300 := hF.2.2.1 92 (by decide) (by decide)
theorem K93 (hF : Fix h) : hK h 93 = 12 := hF.2.1 93 (by decide)
theorem L93 (hF : Fix h) : hL h 93 = 24300 := hF.2.2.1 93 (by decide) (by decide)
theorem K94 (hF : Fix h) : hK h 94 = 12 := hF.2.1 94 (by decide)
theorem L94 (hF : Fix h) : hL h 94 = 24300 := hF.2.2.1 94 (by decide) (by decide)
theorem K95 (hF : Fix h) : hK h 95 = 14 := hF.2.1 95 (by decide)
theorem L95 (hF : Fix h) : hL h 95 = 100 := hF.2.2.1 95 (by decide) (by decide)
theorem K96 (hF : Fix h) : hK h 96 = 12 := hF.2.1 96 (by decide)
theorem L96 (hF : Fix h) : hL h 96 = 240 := hF.2.2.1 96 (by decide) (by decide)
theorem K97 (hF : Fix h) : hK h 97 = 13 := hF.2.1 97 (by decide)
theorem L97 (hF : Fix h) : hL h 97 = 1 := hF.2.2.1 97 (by decide) (by decide)
theorem Q30_0 (hF : Fix h) : hQ h 30 0 = some 31 := hF.2.2.2.1 (30, 0, 31) (by decide)
theorem Q30_1 (hF : Fix h) : hQ h 30 1 = some 33 := hF.2.2.2.1 (30, 1, 33) (by decide)
theorem Q30_2 (hF : Fix h) : hQ h 30 2 = some 36 := hF.2.2.2.1 (30, 2, 36) (by decide)
theorem Q30_3 (hF : Fix h) : hQ h 30 3 = some 39 := hF.2.2.2.1 (30, 3, 39) (by decide)
theorem Q30_4 (hF : Fix h) : hQ h 30 4 = some 48 := hF.2.2.2.1 (30, 4, 48) (by decide)
theorem Q30_5 (hF : Fix h) : hQ h 30 5 = some 51 := hF.2.2.2.1 (30, 5, 51) (by decide)
theorem Q30_6 (hF : Fix h) : hQ h 30 6 = some 56 := hF.2.2.2.1 (30, 6, 56) (by decide)
theorem Q30_7 (hF : Fix h) : hQ h 30 7 = some 57 := hF.2.2.2.1 (30, 7, 57) (by decide)
theorem Q30_8 (hF : Fix h) : hQ h 30 8 = some 58 := hF.2.2.2.1 (30, 8, 58) (by decide)
theorem Q30_9 (hF : Fix h) : hQ h 30 9 = some 59 := hF.2.2.2.1 (30, 9, 59) (by decide)
theorem Q31_0 (hF : Fix h) : hQ h 31 0 = some 32 := hF.2.2.2.1 (31, 0, 32) (by decide)
theorem Q33_0 (hF : Fix h) : hQ h 33 0 = some 34 := hF.2.2.2.1 (33, 0, 34) (by decide)
theorem Q33_1 (hF : Fix h) : hQ h 33 1 = some 35 := hF.2.2.2.1 (33, 1, 35) (by decide)
theorem Q36_0 (hF : Fix h) : hQ h 36 0 = some 37 := hF.2.2.2.1 (36, 0, 37) (by decide)
theorem Q36_1 (hF : Fix h) : hQ h 36 1 = some 38 := hF.2.2.2.1 (36, 1, 38) (by decide)
theorem Q39_0 (hF : Fix h) : hQ h 39 0 = some 40 := hF.2.2.2.1 (39, 0, 40) (by decide)
theorem Q39_3 (hF : Fix h) : hQ h 39 3 = some 41 := hF.2.2.2.1 (39, 3, 41) (by decide)
theorem Q39_4 (hF : Fix h) : hQ h 39 4 = some 42 := hF.2.2.2.1 (39, 4, 42) (by decide)
theorem Q39_6 (hF : Fix h) : hQ h 39 6 = some 43 := hF.2.2.2.1 (39, 6, 43) (by decide)
theorem Q39_8 (hF : Fix h) : hQ h 39 8 = some 44 := hF.2.2.2.1 (39, 8, 44) (by decide)
theorem Q39_10 (hF : Fix h) : hQ h 39 10 = some 45 := hF.2.2.2.1 (39, 10, 45) (by decide)
theorem Q39_11 (hF : Fix h) : hQ h 39 11 = some 46 := hF.2.2.2.1 (39, 11, 46) (by decide)
theorem Q39_12 (hF : Fix h) : hQ h 39 12 = some 47 := hF.2.2.2.1 (39, 12, 47) (by decide)
theorem Q48_0 (hF : Fix h) : hQ h 48 0 = some 49 := hF.2.2.2.1 (48, 0, 49) (by decide)
theorem Q48_1 (hF : Fix h) : hQ h 48 1 = some 50 := hF.2.2.2.1 (48, 1, 50) (by decide)
theorem Q51_2 (hF : Fix h) : hQ h 51 2 = some 53 := hF.2.2.2.1 (51, 2, 53) (by decide)
theorem Q53_0 (hF : Fix h) : hQ h 53 0 = some 54 := hF.2.2.2.1 (53, 0, 54) (by decide)
theorem Q53_1 (hF : Fix h) : hQ h 53 1 = some 55 := hF.2.2.2.1 (53, 1, 55) (by decide)
theorem Q60_0 (hF : Fix h) : hQ h 60 0 = some 61 := hF.2.2.2.1 (60, 0, 61) (by decide)
theorem Q60_1 (hF : Fix h) : hQ h 60 1 = some 62 := hF.2.2.2.1 (60, 1, 62) (by decide)
theorem Q60_2 (hF : Fix h) : hQ h 60 2 = some 63 := hF.2.2.2.1 (60, 2, 63) (by decide)
theorem Q64_1 (hF : Fix h) : hQ h 64 1 = some 65 := hF.2.2.2.1 (64, 1, 65) (by decide)
theorem Q64_14 (hF : Fix h) : hQ h 64 14 = some 66 := hF.2.2.2.1 (64, 14, 66) (by decide)
theorem Q64_15 (hF : Fix h) : hQ h 64 15 = some 67 := hF.2.2.2.1 (64, 15, 67) (by decide)
theorem Q64_16 (hF : Fix h) : hQ h 64 16 = some 68 := hF.2.2.2.1 (64, 16, 68) (by decide)
theorem Q64_17 (hF : Fix h) : hQ h 64 17 = some 69 := hF.2.2.2.1 (64, 17, 69) (by decide)
theorem Q64_18 (hF : Fix h) : hQ h 64 18 = some 70 := hF.2.2.2.1 (64, 18, 70) (by decide)
theorem Q64_19 (hF : Fix h) : hQ h 64 19 = some 71 := hF.2.2.2.1 (64, 19, 71) (by decide)
theorem Q64_20 (hF : Fix h) : hQ h 64 20 = some 72 := hF.2.2.2.1 (64, 20, 72) (by decide)
theorem Q64_21 (hF : Fix h) : hQ h 64 21 = some 73 := hF.2.2.2.1 (64, 21, 73) (by decide)
theorem Q64_24 (hF : Fix h) : hQ h 64 24 = some 74 := hF.2.2.2.1 (64, 24, 74) (by decide)
theorem Q64_25 (hF : Fix h) : hQ h 64 25 = some 75 := hF.2.2.2.1 (64, 25, 75) (by decide)
theorem Q64_27 (hF : Fix h) : hQ h 64 27 = some 76 := hF.2.2.2.1 (64, 27, 76) (by decide)
theorem Q64_28 (hF : Fix h) : hQ h 64 28 = some 77 := hF.2.2.2.1 (64, 28, 77) (by decide)
theorem Q64_29 (hF : Fix h) : hQ h 64 29 = some 78 := hF.2.2.2.1 (64, 29, 78) (by decide)
theorem Q64_30 (hF : Fix h) : hQ h 64 30 = some 79 := hF.2.2.2.1 (64, 30, 79) (by decide)
theorem Q64_31 (hF : Fix h) : hQ h 64 31 = some 80 := hF.2.2.2.1 (64, 31, 80) (by decide)
theorem Q64_34 (hF : Fix h) : hQ h 64 34 = some 81 := hF.2.2.2.1 (64, 34, 81) (by decide)
theorem Q64_35 (hF : Fix h) : hQ h 64 35 = some 82 := hF.2.2.2.1 (64, 35, 82) (by decide)
theorem Q64_36 (hF : Fix h) : hQ h 64 36 = some 83 := hF.2.2.2.1 (64, 36, 83) (by decide)
theorem Q64_39 (hF : Fix h) : hQ h 64 39 = some 84 := hF.2.2.2.1 (64, 39, 84) (by decide)
theorem Q64_40 (hF : Fix h) : hQ h 64 40 = some 85 := hF.2.2.2.1 (64, 40, 85) (by decide)
theorem Q64_41 (hF : Fix h) : hQ h 64 41 = some 86 := hF.2.2.2.1 (64, 41, 86) (by decide)
theorem Q64_43 (hF : Fix h) : hQ h 64 43 = some 87 := hF.2.2.2.1 (64, 43, 87) (by decide)
theorem Q64_44 (hF : Fix h) : hQ h 64 44 = some 88 := hF.2.2.2.1 (64, 44, 88) (by decide)
theorem Q64_48 (hF : Fix h) : hQ h 64 48 = some 89 := hF.2.2.2.1 (64, 48, 89) (by decide)
theorem Q64_50 (hF : Fix h) : hQ h 64 50 = some 90 := hF.2.2.2.1 (64, 50, 90) (by decide)
theorem Q64_51 (hF : Fix h) : hQ h 64 51 = some 91 := hF.2.2.2.1 (64, 51, 91) (by decide)
theorem Q64_52 (hF : Fix h) : hQ h 64 52 = some 92 := hF.2.2.2.1 (64, 52, 92) (by decide)
theorem Q64_53 (hF : Fix h) : hQ h 64 53 = some 93 := hF.2.2.2.1 (64, 53, 93) (by decide)
theorem Q64_54 (hF : Fix h) : hQ h 64 54 = some 94 := hF.2.2.2.1 (64, 54, 94) (by decide)
theorem Q64_58 (hF : Fix h) : hQ h 64 58 = some 95 := hF.2.2.2.1 (64, 58, 95) (by decide)
theorem Q64_59 (hF : Fix h) : hQ h 64 59 = some 96 := hF.2.2.2.1 (64, 59, 96) (by decide)
theorem gQ30_0 (hF : Fix h) : gQ 10 0 (some 30) h = some (some 31) := by unfold gQ; dsimp only; rw [if_pos (K30 hF), Q30_0 hF]
theorem gQ30_1 (hF : Fix h) : gQ 10 1 (some 30) h = some (some 33) := by unfold gQ; dsimp only; rw [if_pos (K30 hF), Q30_1 hF]
theorem gQ30_2 (hF : Fix h) : gQ 10 2 (some 30) h = some (some 36) := by unfold gQ; dsimp only; rw [if_pos (K30 hF), Q30_2 hF]
theorem gQ30_3 (hF : Fix h) : gQ 10 3 (some 30) h = some (some 39) := by unfold gQ; dsimp only; rw [if_pos (K30 hF), Q30_3 hF]
theorem gQ30_4 (hF : Fix h) : gQ 10 4 (some 30) h = some (some 48) := by unfold gQ; dsimp only; rw [if_pos (K30 hF), Q30_4 hF]
theorem gQ30_5 (hF : Fix h) : gQ 10 5 (some 30) h = some (some 51) := by unfold gQ; dsimp only; rw [if_pos (K30 hF), Q30_5 hF]
theorem gQ30_6 (hF : Fix h) : gQ 10 6 (some 30) h = some (some 56) := by unfold gQ; dsimp only; rw [if_pos (K30 hF), Q30_6 hF]
theorem gQ30_7 (hF : Fix h) : gQ 10 7 (some 30) h = some (some 57) := by unfold gQ; dsimp only; rw [if_pos (K30 hF), Q30_7 hF]
theorem gQ30_8 (hF : Fix h) : gQ 10 8 (some 30) h = some (some 58) := by unfold gQ; dsimp only; rw [if_pos (K30 hF), Q30_8 hF]
theorem gQ30_9 (hF : Fix h) : gQ 10 9 (some 30) h = some (some 59) := by unfold gQ; dsimp only; rw [if_pos (K30 hF), Q30_9 hF]
theorem gQ31_0 (hF : Fix h) : gQ 9 0 (some 31) h = some (some 32) := by unfold gQ; dsimp only; rw [if_pos (K31 hF), Q31_0 hF]
theorem gQ33_0 (hF : Fix h) : gQ 7 0 (some 33) h = some (some 34) := by unfold gQ; dsimp only; rw [if_pos (K33 hF), Q33_0 hF]
theorem gQ33_1 (hF : Fix h) : gQ 7 1 (some 33) h = some (some 35) := by unfold gQ; dsimp only; rw [if_pos (K33 hF), Q33_1 hF]
theorem gQ36_0 (hF : Fix h) : gQ 7 0 (some 36) h = some (some 37) := by unfold gQ; dsimp only; rw [if_pos (K36 hF), Q36_0 hF]
theorem gQ36_1 (hF : Fix h) : gQ 7 1 (some 36) h = some (some 38) := by unfold gQ; dsimp only; rw [if_pos (K36 hF), Q36_1 hF]
theorem gQ39_0 (hF : Fix h) : gQ 3 0 (some 39) h = some (some 40) := by unfold gQ; dsimp only; rw [if_pos (K39 hF), Q39_0 hF]
theorem gQ39_3 (hF : Fix h) : gQ 3 3 (some 39) h = some (some 41) := by unfold gQ; dsimp only; rw [if_pos (K39 hF), Q39_3 hF]
theorem gQ39_4 (hF : Fix h) : gQ 3 4 (some 39) h = some (some 42) := by unfold gQ; dsimp only; rw [if_pos (K39 hF), Q39_4 hF]
theorem gQ39_6 (hF : Fix h) : gQ 3 6 (some 39) h = some (some 43) := by unfold gQ; dsimp only; rw [if_pos (K39 hF), Q39_6 hF]
theorem gQ39_8 (hF : Fix h) : gQ 3 8 (some 39) h = some (some 44) := by unfold gQ; dsimp only; rw [if_pos (K39 hF), Q39_8 hF]
theorem gQ39_10 (hF : Fix h) : gQ 3 10 (some 39) h = some (some 45) := by unfold gQ; dsimp only; rw [if_pos (K39 hF), Q39_10 hF]
theorem gQ39_11 (hF : Fix h) : gQ 3 11 (some 39) h = some (some 46) := by unfold gQ; dsimp only; rw [if_pos (K39 hF), Q39_11 hF]
theorem gQ39_12 (hF : Fix h) : gQ 3 12 (some 39) h = some (some 47) := by unfold gQ; dsimp only; rw [if_pos (K39 hF), Q39_12 hF]
theorem gQ48_0 (hF : Fix h) : gQ 2 0 (some 48) h = some (some 49) := by unfold gQ; dsimp only; rw [if_pos (K48 hF), Q48_0 hF]
theorem gQ48_1 (hF : Fix h) : gQ 2 1 (some 48) h = some (some 50) := by unfold gQ; dsimp only; rw [if_pos (K48 hF), Q48_1 hF]
theorem gQ51_2 (hF : Fix h) : gQ 6 2 (some 51) h = some (some 53) := by unfold gQ; dsimp only; rw [if_pos (K51 hF), Q51_2 hF]
theorem gQ53_0 (hF : Fix h) : gQ 7 0 (some 53) h = some (some 54) := by unfold gQ; dsimp only; rw [if_pos (K53 hF), Q53_0 hF]
theorem gQ53_1 (hF : Fix h) : gQ 7 1 (some 53) h = some (some 55) := by unfold gQ; dsimp only; rw [if_pos (K53 hF), Q53_1 hF]
theorem gQ60_0 (hF : Fix h) : gQ 4 0 (some 60) h = some (some 61) := by unfold gQ; dsimp only; rw [if_pos (K60 hF), Q60_0 hF]
theorem gQ60_1 (hF : Fix h) : gQ 4 1 (some 60) h = some (some 62) := by unfold gQ; dsimp only; rw [if_pos (K60 hF), Q60_1 hF]
theorem gQ60_2 (hF : Fix h) : gQ 4 2 (some 60) h = some (some 63) := by unfold gQ; dsimp only; rw [if_pos (K60 hF), Q60_2 hF]
theorem gQ64_1 (hF : Fix h) : gQ 11 1 (some 64) h = some (some 65) := by unfold gQ; dsimp only; rw [if_pos (K64 hF), Q64_1 hF]
theorem gQ64_14 (hF : Fix h) : gQ 11 14 (some 64) h = some (some 66) := by unfold gQ; dsimp only; rw [if_pos (K64 hF), Q64_14 hF]
theorem gQ64_15 (hF : Fix h) : gQ 11 15 (some 64) h = some (some 67) := by unfold gQ; dsimp only; rw [if_pos (K64 hF), Q64_15 hF]
theorem gQ64_16 (hF : Fix h) : gQ 11 16 (some 64) h = some (some 68) := by unfold gQ; dsimp only; rw [if_pos (K64 hF), Q64_16 hF]
theorem gQ64_17 (hF : Fix h) : gQ 11 17 (some 64) h = some (some 69) := by unfold gQ; dsimp only; rw [if_pos (K64 hF), Q64_17 hF]
theorem gQ64_18 (hF : Fix h) : gQ 11 18 (some 64) h = some (some 70) := by unfold gQ; dsimp only; rw [if_pos (K64 hF), Q64_18 hF]
theorem gQ64_19 (hF : Fix h) : gQ 11 19 (some 64) h = some (some 71) := by unfold gQ; dsimp only; rw [if_pos (K64 hF), Q64_19 hF]
theorem gQ64_20 (hF : Fix h) : gQ 11 20 (some 64) h = some (some 72) := by unfold gQ; dsimp only; rw [if_pos (K64 hF), Q64_20 hF]
theorem gQ64_21 (hF : Fix h) : gQ 11 21 (some 64) h = some (some 73) := by unfold gQ; dsimp only; rw [if_pos (K64 hF), Q64_21 hF]
theorem gQ64_24 (hF : Fix h) : gQ 11 24 (some 64) h = some (some 74) := by unfold gQ; dsimp only; rw [if_pos (K64 hF), Q64_24 hF]
theorem gQ64_25 (hF : Fix h) : gQ 11 25 (some 64) h = some (some 75) := by unfold gQ; dsimp only; rw [if_pos (K64 hF), Q64_25 hF]
theorem gQ64_27 (hF : Fix h) : gQ 11 27 (some 64) h = some (some 76) := by unfold gQ; dsimp only; rw [if_pos (K64 hF), Q64_27 hF]
theorem gQ64_28 (hF : Fix h) : gQ 11 28 (some 64) h = some (some 77) := by unfold gQ; dsimp only; rw [if_pos (K64 hF), Q64_28 hF]
theorem gQ64_29 (hF : Fix h) : gQ 11 29 (some 64) h = some (some 78) := by unfold gQ; dsimp only; rw [if_pos (K64 hF), Q64_29 hF]
theorem gQ64_30 (hF : Fix h) : gQ 11 30 (some 64) h = some (some 79) := by unfold gQ; dsimp only; rw [if_pos (K64 hF), Q64_30 hF]
theorem gQ64_31 (hF : Fix h) : gQ 11 31 (some 64) h = some (some 80) := by unfold gQ; dsimp only; rw [if_pos (K64 hF), Q64_31 hF]
theorem gQ64_34 (hF : Fix h) : gQ 11 34 (some 64) h = some (some 81) := by unfold gQ; dsimp only; rw [if_pos (K64 hF), Q64_34 hF]
theorem gQ64_35 (hF : Fix h) : gQ 11 35 (some 64) h = some (some 82) := by unfold gQ; dsimp only; rw [if_pos (K64 hF), Q64_35 hF]
theorem gQ64_36 (hF : Fix h) : gQ 11 36 (some 64) h = some (some 83) := by unfold gQ; dsimp only; rw [if_pos (K64 hF), Q64_36 hF]
theorem gQ64_39 (hF : Fix h) : gQ 11 39 (some 64) h = some (some 84) := by unfold gQ; dsimp only; rw [if_pos (K64 hF), Q64_39 hF]
theorem gQ64_40 (hF : Fix h) : gQ 11 40 (some 64) h = some (some 85) := by unfold gQ; dsimp only; rw [if_pos (K64 hF), Q64_40 hF]
theorem gQ64_41 (hF : Fix h) : gQ 11 41 (some 64) h = some (some 86) := by unfold gQ; dsimp only; rw [if_pos (K64 hF), Q64_41 hF]
theorem gQ64_43 (hF : Fix h) : gQ 11 43 (some 64) h = some (some 87) := by unfold gQ; dsimp only; rw [if_pos (K64 hF), Q64_43 hF]
theorem gQ64_44 (hF : Fix h) : gQ 11 44 (some 64) h = some (some 88) := by unfold gQ; dsimp only; rw [if_pos (K64 hF), Q64_44 hF]
theorem gQ64_48 (hF : Fix h) : gQ 11 48 (some 64) h = some (some 89) := by unfold gQ; dsimp only; rw [if_pos (K64 hF), Q64_48 hF]
theorem gQ64_50 (hF : Fix h) : gQ 11 50 (some 64) h = some (some 90) := by unfold gQ; dsimp only; rw [if_pos (K64 hF), Q64_50 hF]
theorem gQ64_51 (hF : Fix h) : gQ 11 51 (some 64) h = some (some 91) := by unfold gQ; dsimp only; rw [if_pos (K64 hF), Q64_51 hF]
theorem gQ64_52 (hF : Fix h) : gQ 11 52 (some 64) h = some (some 92) := by unfold gQ; dsimp only; rw [if_pos (K64 hF), Q64_52 hF]
theorem gQ64_53 (hF : Fix h) : gQ 11 53 (some 64) h = some (some 93) := by unfold gQ; dsimp only; rw [if_pos (K64 hF), Q64_53 hF]
theorem gQ64_54 (hF : Fix h) : gQ 11 54 (some 64) h = some (some 94) := by unfold gQ; dsimp only; rw [if_pos (K64 hF), Q64_54 hF]
theorem gQ64_58 (hF : Fix h) : gQ 11 58 (some 64) h = some (some 95) := by unfold gQ; dsimp only; rw [if_pos (K64 hF), Q64_58 hF]
theorem gQ64_59 (hF : Fix h) : gQ 11 59 (some 64) h = some (some 96) := by unfold gQ; dsimp only; rw [if_pos (K64 hF), Q64_59 hF]
theorem gI30 (hF : Fix h) (k : Nat) : gI 10 k (some 30) h = some (hI h 30 k) := by unfold gI; dsimp only; rw [if_pos (K30 hF)]
theorem gJ30 (hF : Fix h) (k : Nat) : gJ 10 k (some 30) h = some (hJ h 30 k) := by unfold gJ; dsimp only; rw [if_pos (K30 hF)]
theorem gR30 (hF : Fix h) (k : Nat) : gQ 10 k (some 30) h = some (hQ h 30 k) := by unfold gQ; dsimp only; rw [if_pos (K30 hF)]
theorem pI30 (hF : Fix h) (k : Nat) (x : Int32) : pI 10 k (some 30) x h = some (sI h 30 k x) := by unfold pI; dsimp only; rw [if_pos ⟨K30 hF, by decide⟩]
theorem pJ30 (hF : Fix h) (k : Nat) (x : Int64) : pJ 10 k (some 30) x h = some (sJ h 30 k x) := by unfold pJ; dsimp only; rw [if_pos ⟨K30 hF, by decide⟩]
theorem pQ30 (hF : Fix h) (k : Nat) (x : Option Nat) : pQ 10 k (some 30) x h = some (sQ h 30 k x) := by unfold pQ; dsimp only; rw [if_pos ⟨K30 hF, by decide⟩]
theorem pZ30 (hF : Fix h) (k : Nat) (x : Int32) (hx : x = 0 ∨ x = 1) : pZ 10 k (some 30) x h = some (sI h 30 k x) := by unfold pZ; dsimp only; rw [if_pos ⟨K30 hF, by decide, hx⟩]
theorem rC30 (hF : Fix h) : rC 10 (some 30) h = true := decide_eq_true ⟨K30 hF, by decide⟩
theorem gI31 (hF : Fix h) (k : Nat) : gI 9 k (some 31) h = some (hI h 31 k) := by unfold gI; dsimp only; rw [if_pos (K31 hF)]
theorem gJ31 (hF : Fix h) (k : Nat) : gJ 9 k (some 31) h = some (hJ h 31 k) := by unfold gJ; dsimp only; rw [if_pos (K31 hF)]
theorem gR31 (hF : Fix h) (k : Nat) : gQ 9 k (some 31) h = some (hQ h 31 k) := by unfold gQ; dsimp only; rw [if_pos (K31 hF)]
theorem pI31 (hF : Fix h) (k : Nat) (x : Int32) : pI 9 k (some 31) x h = some (sI h 31 k x) := by unfold pI; dsimp only; rw [if_pos ⟨K31 hF, by decide⟩]
theorem pJ31 (hF : Fix h) (k : Nat) (x : Int64) : pJ 9 k (some 31) x h = some (sJ h 31 k x) := by unfold pJ; dsimp only; rw [if_pos ⟨K31 hF, by decide⟩]
theorem pQ31 (hF : Fix h) (k : Nat) (x : Option Nat) : pQ 9 k (some 31) x h = some (sQ h 31 k x) := by unfold pQ; dsimp only; rw [if_pos ⟨K31 hF, by decide⟩]
theorem pZ31 (hF : Fix h) (k : Nat) (x : Int32) (hx : x = 0 ∨ x = 1) : pZ 9 k (some 31) x h = some (sI h 31 k x) := by unfold pZ; dsimp only; rw [if_pos ⟨K31 hF, by decide, hx⟩]
theorem rC31 (hF : Fix h) : rC 9 (some 31) h = true := decide_eq_true ⟨K31 hF, by decide⟩
theorem gI33 (hF : Fix h) (k : Nat) : gI 7 k (some 33) h = some (hI h 33 k) := by unfold gI; dsimp only; rw [if_pos (K33 hF)]
theorem gJ33 (hF : Fix h) (k : Nat) : gJ 7 k (some 33) h = some (hJ h 33 k) := by unfold gJ; dsimp only; rw [if_pos (K33 hF)]
theorem gR33 (hF : Fix h) (k : Nat) : gQ 7 k (some 33) h = some (hQ h 33 k) := by unfold gQ; dsimp only; rw [if_pos (K33 hF)]
theorem pI33 (hF : Fix h) (k : Nat) (x : Int32) : pI 7 k (some 33) x h = some (sI h 33 k x) := by unfold pI; dsimp only; rw [if_pos ⟨K33 hF, by decide⟩]
theorem pJ33 (hF : Fix h) (k : Nat) (x : Int64) : pJ 7 k (some 33) x h = some (sJ h 33 k x) := by unfold pJ; dsimp only; rw [if_pos ⟨K33 hF, by decide⟩]
theorem pQ33 (hF : Fix h) (k : Nat) (x : Option Nat) : pQ 7 k (some 33) x h = some (sQ h 33 k x) := by unfold pQ; dsimp only; rw [if_pos ⟨K33 hF, by decide⟩]
theorem pZ33 (hF : Fix h) (k : Nat) (x : Int32) (hx : x = 0 ∨ x = 1) : pZ 7 k (some 33) x h = some (sI h 33 k x) := by unfold pZ; dsimp only; rw [if_pos ⟨K33 hF, by decide, hx⟩]
theorem rC33 (hF : Fix h) : rC 7 (some 33) h = true := decide_eq_true ⟨K33 hF, by decide⟩
theorem gI36 (hF : Fix h) (k : Nat) : gI 7 k (some 36) h = some (hI h 36 k) := by unfold gI; dsimp only; rw [if_pos (K36 hF)]
theorem gJ36 (hF : Fix h) (k : Nat) : gJ 7 k (some 36) h = some (hJ h 36 k) := by unfold gJ; dsimp only; rw [if_pos (K36 hF)]
theorem gR36 (hF : Fix h) (k : Nat) : gQ 7 k (some 36) h = some (hQ h 36 k) := by unfold gQ; dsimp only; rw [if_pos (K36 hF)]
theorem pI36 (hF : Fix h) (k : Nat) (x : Int32) : pI 7 k (some 36) x h = some (sI h 36 k x) := by unfold pI; dsimp only; rw [if_pos ⟨K36 hF, by decide⟩]
theorem pJ36 (hF : Fix h) (k : Nat) (x : Int64) : pJ 7 k (some 36) x h = some (sJ h 36 k x) := by unfold pJ; dsimp only; rw [if_pos ⟨K36 hF, by decide⟩]
theorem pQ36 (hF : Fix h) (k : Nat) (x : Option Nat) : pQ 7 k (some 36) x h = some (sQ h 36 k x) := by unfold pQ; dsimp only; rw [if_pos ⟨K36 hF, by decide⟩]
theorem pZ36 (hF : Fix h) (k : Nat) (x : Int32) (hx : x = 0 ∨ x = 1) : pZ 7 k (some 36) x h = some (sI h 36 k x) := by unfold pZ; dsimp only; rw [if_pos ⟨K36 hF, by decide, hx⟩]
theorem rC36 (hF : Fix h) : rC 7 (some 36) h = true := decide_eq_true ⟨K36 hF, by decide⟩
theorem gI39 (hF : Fix h) (k : Nat) : gI 3 k (some 39) h = some (hI h 39 k) := by unfold gI; dsimp only; rw [if_pos (K39 hF)]
theorem gJ39 (hF : Fix h) (k : Nat) : gJ 3 k (some 39) h = some (hJ h 39 k) := by unfold gJ; dsimp only; rw [if_pos (K39 hF)]
theorem gR39 (hF : Fix h) (k : Nat) : gQ 3 k (some 39) h = some (hQ h 39 k) := by unfold gQ; dsimp only; rw [if_pos (K39 hF)]
theorem pI39 (hF : Fix h) (k : Nat) (x : Int32) : pI 3 k (some 39) x h = some (sI h 39 k x) := by unfold pI; dsimp only; rw [if_pos ⟨K39 hF, by decide⟩]
theorem pJ39 (hF : Fix h) (k : Nat) (x : Int64) : pJ 3 k (some 39) x h = some (sJ h 39 k x) := by unfold pJ; dsimp only; rw [if_pos ⟨K39 hF, by decide⟩]
theorem pQ39 (hF : Fix h) (k : Nat) (x : Option Nat) : pQ 3 k (some 39) x h = some (sQ h 39 k x) := by unfold pQ; dsimp only; rw [if_pos ⟨K39 hF, by decide⟩]
theorem pZ39 (hF : Fix h) (k : Nat) (x : Int32) (hx : x = 0 ∨ x = 1) : pZ 3 k (some 39) x h = some (sI h 39 k x) := by unfold pZ; dsimp only; rw [if_pos ⟨K39 hF, by decide, hx⟩]
theorem rC39 (hF : Fix h) : rC 3 (some 39) h = true := decide_eq_true ⟨K39 hF, by decide⟩
theorem gI48 (hF : Fix h) (k : Nat) : gI 2 k (some 48) h = some (hI h 48 k) := by unfold gI; dsimp only; rw [if_pos (K48 hF)]
theorem gJ48 (hF : Fix h) (k : Nat) : gJ 2 k (some 48) h = some (hJ h 48 k) := by unfold gJ; dsimp only; rw [if_pos (K48 hF)]
theorem gR48 (hF : Fix h) (k : Nat) : gQ 2 k (some 48) h = some (hQ h 48 k) := by unfold gQ; dsimp only; rw [if_pos (K48 hF)]
theorem pI48 (hF : Fix h) (k : Nat) (x : Int32) : pI 2 k (some 48) x h = some (sI h 48 k x) := by unfold pI; dsimp only; rw [if_pos ⟨K48 hF, by decide⟩]
theorem pJ48 (hF : Fix h) (k : Nat) (x : Int64) : pJ 2 k (some 48) x h = some (sJ h 48 k x) := by unfold pJ; dsimp only; rw [if_pos ⟨K48 hF, by decide⟩]
theorem pQ48 (hF : Fix h) (k : Nat) (x : Option Nat) : pQ 2 k (some 48) x h = some (sQ h 48 k x) := by unfold pQ; dsimp only; rw [if_pos ⟨K48 hF, by decide⟩]
theorem pZ48 (hF : Fix h) (k : Nat) (x : Int32) (hx : x = 0 ∨ x = 1) : pZ 2 k (some 48) x h = some (sI h 48 k x) := by unfold pZ; dsimp only; rw [if_pos ⟨K48 hF, by decide, hx⟩]
theorem rC48 (hF : Fix h) : rC 2 (some 48) h = true := decide_eq_true ⟨K48 hF, by decide⟩
theorem gI51 (hF : Fix h) (k : Nat) : gI 6 k (some 51) h = some (hI h 51 k) := by unfold gI; dsimp only; rw [if_pos (K51 hF)]
theorem gJ51 (hF : Fix h) (k : Nat) : gJ 6 k (some 51) h = some (hJ h 51 k) := by unfold gJ; dsimp only; rw [if_pos (K51 hF)]
theorem gR51 (hF : Fix h) (k : Nat) : gQ 6 k (some 51) h = some (hQ h 51 k) := by unfold gQ; dsimp only; rw [if_pos (K51 hF)]
theorem pI51 (hF : Fix h) (k : Nat) (x : Int32) : pI 6 k (some 51) x h = some (sI h 51 k x) := by unfold pI; dsimp only; rw [if_pos ⟨K51 hF, by decide⟩]
theorem pJ51 (hF : Fix h) (k : Nat) (x : Int64) : pJ 6 k (some 51) x h = some (sJ h 51 k x) := by unfold pJ; dsimp only; rw [if_pos ⟨K51 hF, by decide⟩]
theorem pQ51 (hF : Fix h) (k : Nat) (x : Option Nat) : pQ 6 k (some 51) x h = some (sQ h 51 k x) := by unfold pQ; dsimp only; rw [if_pos ⟨K51 hF, by decide⟩]
theorem pZ51 (hF : Fix h) (k : Nat) (x : Int32) (hx : x = 0 ∨ x = 1) : pZ 6 k (some 51) x h = some (sI h 51 k x) := by unfold pZ; dsimp only; rw [if_pos ⟨K51 hF, by decide, hx⟩]
theorem rC51 (hF : Fix h) : rC 6 (some 51) h = true := decide_eq_true ⟨K51 hF, by decide⟩
theorem gI53 (hF : Fix h) (k : Nat) : gI 7 k (some 53) h = some (hI h 53 k) := by unfold gI; dsimp only; rw [if_pos (K53 hF)]
theorem gJ53 (hF : Fix h) (k : Nat) : gJ 7 k (some 53) h = some (hJ h 53 k) := by unfold gJ; dsimp only; rw [if_pos (K53 hF)]
theorem gR53 (hF : Fix h) (k : Nat) : gQ 7 k (some 53) h = some (hQ h 53 k) := by unfold gQ; dsimp only; rw [if_pos (K53 hF)]
theorem pI53 (hF : Fix h) (k : Nat) (x : Int32) : pI 7 k (some 53) x h = some (sI h 53 k x) := by unfold pI; dsimp only; rw [if_pos ⟨K53 hF, by decide⟩]
theorem pJ53 (hF : Fix h) (k : Nat) (x : Int64) : pJ 7 k (some 53) x h = some (sJ h 53 k x) := by unfold pJ; dsimp only; rw [if_pos ⟨K53 hF, by decide⟩]
theorem pQ53 (hF : Fix h) (k : Nat) (x : Option Nat) : pQ 7 k (some 53) x h = some (sQ h 53 k x) := by unfold pQ; dsimp only; rw [if_pos ⟨K53 hF, by decide⟩]
theorem pZ53 (hF : Fix h) (k : Nat) (x : Int32) (hx : x = 0 ∨ x = 1) : pZ 7 k (some 53) x h = some (sI h 53 k x) := by unfold pZ; dsimp only; rw [if_pos ⟨K53 hF, by decide, hx⟩]
theorem rC53 (hF : Fix h) : rC 7 (some 53) h = true := decide_eq_true ⟨K53 hF, by decide⟩
theorem gI60 (hF : Fix h) (k : Nat) : gI 4 k (some 60) h = some (hI h 60 k) := by unfold gI; dsimp only; rw [if_pos (K60 hF)]
theorem gJ60 (hF : Fix h) (k : Nat) : gJ 4 k (some 60) h = some (hJ h 60 k) := by unfold gJ; dsimp only; rw [if_pos (K60 hF)]
theorem gR60 (hF : Fix h) (k : Nat) : gQ 4 k (some 60) h = some (hQ h 60 k) := by unfold gQ; dsimp only; rw [if_pos (K60 hF)]
theorem pI60 (hF : Fix h) (k : Nat) (x : Int32) : pI 4 k (some 60) x h = some (sI h 60 k x) := by unfold pI; dsimp only; rw [if_pos ⟨K60 hF, by decide⟩]
theorem pJ60 (hF : Fix h) (k : Nat) (x : Int64) : pJ 4 k (some 60) x h = some (sJ h 60 k x) := by unfold pJ; dsimp only; rw [if_pos ⟨K60 hF, by decide⟩]
theorem pQ60 (hF : Fix h) (k : Nat) (x : Option Nat) : pQ 4 k (some 60) x h = some (sQ h 60 k x) := by unfold pQ; dsimp only; rw [if_pos ⟨K60 hF, by decide⟩]
theorem pZ60 (hF : Fix h) (k : Nat) (x : Int32) (hx : x = 0 ∨ x = 1) : pZ 4 k (some 60) x h = some (sI h 60 k x) := by unfold pZ; dsimp only; rw [if_pos ⟨K60 hF, by decide, hx⟩]
theorem rC60 (hF : Fix h) : rC 4 (some 60) h = true := decide_eq_true ⟨K60 hF, by decide⟩
theorem gI64 (hF : Fix h) (k : Nat) : gI 11 k (some 64) h = some (hI h 64 k) := by unfold gI; dsimp only; rw [if_pos (K64 hF)]
theorem gJ64 (hF : Fix h) (k : Nat) : gJ 11 k (some 64) h = some (hJ h 64 k) := by unfold gJ; dsimp only; rw [if_pos (K64 hF)]
theorem gR64 (hF : Fix h) (k : Nat) : gQ 11 k (some 64) h = some (hQ h 64 k) := by unfold gQ; dsimp only; rw [if_pos (K64 hF)]
theorem pI64 (hF : Fix h) (k : Nat) (x : Int32) : pI 11 k (some 64) x h = some (sI h 64 k x) := by unfold pI; dsimp only; rw [if_pos ⟨K64 hF, by decide⟩]
theorem pJ64 (hF : Fix h) (k : Nat) (x : Int64) : pJ 11 k (some 64) x h = some (sJ h 64 k x) := by unfold pJ; dsimp only; rw [if_pos ⟨K64 hF, by decide⟩]
theorem pQ64 (hF : Fix h) (k : Nat) (x : Option Nat) : pQ 11 k (some 64) x h = some (sQ h 64 k x) := by unfold pQ; dsimp only; rw [if_pos ⟨K64 hF, by decide⟩]
theorem pZ64 (hF : Fix h) (k : Nat) (x : Int32) (hx : x = 0 ∨ x = 1) : pZ 11 k (some 64) x h = some (sI h 64 k x) := by unfold pZ; dsimp only; rw [if_pos ⟨K64 hF, by decide, hx⟩]
theorem rC64 (hF : Fix h) : rC 11 (some 64) h = true := decide_eq_true ⟨K64 hF, by decide⟩
theorem aI27 (hF : Fix h) {i : Nat} (hi : i < 4) : aI 12 (some 27) (nI i) h = some (hI h 27 i) := aI_e (K27 hF) (by rw [L27 hF]; exact hi) (by omega)
theorem aL27 (hF : Fix h) : aL (some 27) h = some (nI 4) := aL_e (K27 hF) (L27 hF) (by decide)
theorem aI28 (hF : Fix h) {i : Nat} (hi : i < 4) : aI 12 (some 28) (nI i) h = some (hI h 28 i) := aI_e (K28 hF) (by rw [L28 hF]; exact hi) (by omega)
theorem aL28 (hF : Fix h) : aL (some 28) h = some (nI 4) := aL_e (K28 hF) (L28 hF) (by decide)
theorem aI32 (hF : Fix h) {i : Nat} (hi : i < 940) : aI 12 (some 32) (nI i) h = some (hI h 32 i) := aI_e (K32 hF) (by rw [L32 hF]; exact hi) (by omega)
theorem wI32 (hF : Fix h) {i : Nat} (hi : i < 940) (x : Int32) : wI (some 32) (nI i) x h = some (sI h 32 i x) := wI_e (K32 hF) (by decide) (by rw [L32 hF]; exact hi) (by omega)
theorem aL32 (hF : Fix h) : aL (some 32) h = some (nI 940) := aL_e (K32 hF) (L32 hF) (by decide)
theorem aI34 (hF : Fix h) {i : Nat} (hi : i < 10) : aI 12 (some 34) (nI i) h = some (hI h 34 i) := aI_e (K34 hF) (by rw [L34 hF]; exact hi) (by omega)
theorem wI34 (hF : Fix h) {i : Nat} (hi : i < 10) (x : Int32) : wI (some 34) (nI i) x h = some (sI h 34 i x) := wI_e (K34 hF) (by decide) (by rw [L34 hF]; exact hi) (by omega)
theorem aL34 (hF : Fix h) : aL (some 34) h = some (nI 10) := aL_e (K34 hF) (L34 hF) (by decide)
theorem aI35 (hF : Fix h) {i : Nat} (hi : i < 10) : aI 12 (some 35) (nI i) h = some (hI h 35 i) := aI_e (K35 hF) (by rw [L35 hF]; exact hi) (by omega)
theorem wI35 (hF : Fix h) {i : Nat} (hi : i < 10) (x : Int32) : wI (some 35) (nI i) x h = some (sI h 35 i x) := wI_e (K35 hF) (by decide) (by rw [L35 hF]; exact hi) (by omega)
theorem aL35 (hF : Fix h) : aL (some 35) h = some (nI 10) := aL_e (K35 hF) (L35 hF) (by decide)
theorem aI37 (hF : Fix h) {i : Nat} (hi : i < 10) : aI 12 (some 37) (nI i) h = some (hI h 37 i) := aI_e (K37 hF) (by rw [L37 hF]; exact hi) (by omega)
theorem wI37 (hF : Fix h) {i : Nat} (hi : i < 10) (x : Int32) : wI (some 37) (nI i) x h = some (sI h 37 i x) := wI_e (K37 hF) (by decide) (by rw [L37 hF]; exact hi) (by omega)
theorem aL37 (hF : Fix h) : aL (some 37) h = some (nI 10) := aL_e (K37 hF) (L37 hF) (by decide)
theorem aI38 (hF : Fix h) {i : Nat} (hi : i < 10) : aI 12 (some 38) (nI i) h = some (hI h 38 i) := aI_e (K38 hF) (by rw [L38 hF]; exact hi) (by omega)
theorem wI38 (hF : Fix h) {i : Nat} (hi : i < 10) (x : Int32) : wI (some 38) (nI i) x h = some (sI h 38 i x) := wI_e (K38 hF) (by decide) (by rw [L38 hF]; exact hi) (by omega)
theorem aL38 (hF : Fix h) : aL (some 38) h = some (nI 10) := aL_e (K38 hF) (L38 hF) (by decide)
theorem aJ40 (hF : Fix h) {i : Nat} (hi : i < 40) : aJ (some 40) (nI i) h = some (hJ h 40 i) := aJ_e (K40 hF) (by rw [L40 hF]; exact hi) (by omega)
theorem wJ40 (hF : Fix h) {i : Nat} (hi : i < 40) (x : Int64) : wJ (some 40) (nI i) x h = some (sJ h 40 i x) := wJ_e (K40 hF) (by decide) (by rw [L40 hF]; exact hi) (by omega)
theorem aL40 (hF : Fix h) : aL (some 40) h = some (nI 40) := aL_e (K40 hF) (L40 hF) (by decide)
theorem aI41 (hF : Fix h) {i : Nat} (hi : i < 10) : aI 12 (some 41) (nI i) h = some (hI h 41 i) := aI_e (K41 hF) (by rw [L41 hF]; exact hi) (by omega)
theorem wI41 (hF : Fix h) {i : Nat} (hi : i < 10) (x : Int32) : wI (some 41) (nI i) x h = some (sI h 41 i x) := wI_e (K41 hF) (by decide) (by rw [L41 hF]; exact hi) (by omega)
theorem aL41 (hF : Fix h) : aL (some 41) h = some (nI 10) := aL_e (K41 hF) (L41 hF) (by decide)
theorem aI42 (hF : Fix h) {i : Nat} (hi : i < 10) : aI 12 (some 42) (nI i) h = some (hI h 42 i) := aI_e (K42 hF) (by rw [L42 hF]; exact hi) (by omega)
theorem wI42 (hF : Fix h) {i : Nat} (hi : i < 10) (x : Int32) : wI (some 42) (nI i) x h = some (sI h 42 i x) := wI_e (K42 hF) (by decide) (by rw [L42 hF]; exact hi) (by omega)
theorem aL42 (hF : Fix h) : aL (some 42) h = some (nI 10) := aL_e (K42 hF) (L42 hF) (by decide)
theorem aI43 (hF : Fix h) {i : Nat} (hi : i < 10) : aI 12 (some 43) (nI i) h = some (hI h 43 i) := aI_e (K43 hF) (by rw [L43 hF]; exact hi) (by omega)
theorem wI43 (hF : Fix h) {i : Nat} (hi : i < 10) (x : Int32) : wI (some 43) (nI i) x h = some (sI h 43 i x) := wI_e (K43 hF) (by decide) (by rw [L43 hF]; exact hi) (by omega)
theorem aL43 (hF : Fix h) : aL (some 43) h = some (nI 10) := aL_e (K43 hF) (L43 hF) (by decide)
theorem aI44 (hF : Fix h) {i : Nat} (hi : i < 10) : aI 12 (some 44) (nI i) h = some (hI h 44 i) := aI_e (K44 hF) (by rw [L44 hF]; exact hi) (by omega)
theorem wI44 (hF : Fix h) {i : Nat} (hi : i < 10) (x : Int32) : wI (some 44) (nI i) x h = some (sI h 44 i x) := wI_e (K44 hF) (by decide) (by rw [L44 hF]; exact hi) (by omega)
theorem aL44 (hF : Fix h) : aL (some 44) h = some (nI 10) := aL_e (K44 hF) (L44 hF) (by decide)
theorem aI45 (hF : Fix h) {i : Nat} (hi : i < 10) : aI 12 (some 45) (nI i) h = some (hI h 45 i) := aI_e (K45 hF) (by rw [L45 hF]; exact hi) (by omega)
theorem wI45 (hF : Fix h) {i : Nat} (hi : i < 10) (x : Int32) : wI (some 45) (nI i) x h = some (sI h 45 i x) := wI_e (K45 hF) (by decide) (by rw [L45 hF]; exact hi) (by omega)
theorem aL45 (hF : Fix h) : aL (some 45) h = some (nI 10) := aL_e (K45 hF) (L45 hF) (by decide)
theorem aI46 (hF : Fix h) {i : Nat} (hi : i < 10) : aI 12 (some 46) (nI i) h = some (hI h 46 i) := aI_e (K46 hF) (by rw [L46 hF]; exact hi) (by omega)
theorem wI46 (hF : Fix h) {i : Nat} (hi : i < 10) (x : Int32) : wI (some 46) (nI i) x h = some (sI h 46 i x) := wI_e (K46 hF) (by decide) (by rw [L46 hF]; exact hi) (by omega)
theorem aL46 (hF : Fix h) : aL (some 46) h = some (nI 10) := aL_e (K46 hF) (L46 hF) (by decide)
theorem aI47 (hF : Fix h) {i : Nat} (hi : i < 10) : aI 12 (some 47) (nI i) h = some (hI h 47 i) := aI_e (K47 hF) (by rw [L47 hF]; exact hi) (by omega)
theorem wI47 (hF : Fix h) {i : Nat} (hi : i < 10) (x : Int32) : wI (some 47) (nI i) x h = some (sI h 47 i x) := wI_e (K47 hF) (by decide) (by rw [L47 hF]; exact hi) (by omega)
theorem aL47 (hF : Fix h) : aL (some 47) h = some (nI 10) := aL_e (K47 hF) (L47 hF) (by decide)
theorem aI49 (hF : Fix h) {i : Nat} (hi : i < 10) : aI 12 (some 49) (nI i) h = some (hI h 49 i) := aI_e (K49 hF) (by rw [L49 hF]; exact hi) (by omega)
theorem wI49 (hF : Fix h) {i : Nat} (hi : i < 10) (x : Int32) : wI (some 49) (nI i) x h = some (sI h 49 i x) := wI_e (K49 hF) (by decide) (by rw [L49 hF]; exact hi) (by omega)
theorem aL49 (hF : Fix h) : aL (some 49) h = some (nI 10) := aL_e (K49 hF) (L49 hF) (by decide)
theorem aI50 (hF : Fix h) {i : Nat} (hi : i < 10) : aI 12 (some 50) (nI i) h = some (hI h 50 i) := aI_e (K50 hF) (by rw [L50 hF]; exact hi) (by omega)
theorem wI50 (hF : Fix h) {i : Nat} (hi : i < 10) (x : Int32) : wI (some 50) (nI i) x h = some (sI h 50 i x) := wI_e (K50 hF) (by decide) (by rw [L50 hF]; exact hi) (by omega)
theorem aL50 (hF : Fix h) : aL (some 50) h = some (nI 10) := aL_e (K50 hF) (L50 hF) (by decide)
theorem aI52 (hF : Fix h) {i : Nat} (hi : i < 32) : aI 12 (some 52) (nI i) h = some (hI h 52 i) := aI_e (K52 hF) (by rw [L52 hF]; exact hi) (by omega)
theorem wI52 (hF : Fix h) {i : Nat} (hi : i < 32) (x : Int32) : wI (some 52) (nI i) x h = some (sI h 52 i x) := wI_e (K52 hF) (by decide) (by rw [L52 hF]; exact hi) (by omega)
theorem aL52 (hF : Fix h) : aL (some 52) h = some (nI 32) := aL_e (K52 hF) (L52 hF) (by decide)
theorem aI54 (hF : Fix h) {i : Nat} (hi : i < 10) : aI 12 (some 54) (nI i) h = some (hI h 54 i) := aI_e (K54 hF) (by rw [L54 hF]; exact hi) (by omega)
theorem wI54 (hF : Fix h) {i : Nat} (hi : i < 10) (x : Int32) : wI (some 54) (nI i) x h = some (sI h 54 i x) := wI_e (K54 hF) (by decide) (by rw [L54 hF]; exact hi) (by omega)
theorem aL54 (hF : Fix h) : aL (some 54) h = some (nI 10) := aL_e (K54 hF) (L54 hF) (by decide)
theorem aI55 (hF : Fix h) {i : Nat} (hi : i < 10) : aI 12 (some 55) (nI i) h = some (hI h 55 i) := aI_e (K55 hF) (by rw [L55 hF]; exact hi) (by omega)
theorem wI55 (hF : Fix h) {i : Nat} (hi : i < 10) (x : Int32) : wI (some 55) (nI i) x h = some (sI h 55 i x) := wI_e (K55 hF) (by decide) (by rw [L55 hF]; exact hi) (by omega)
theorem aL55 (hF : Fix h) : aL (some 55) h = some (nI 10) := aL_e (K55 hF) (L55 hF) (by decide)
theorem aL56 (hF : Fix h) : aL (some 56) h = some (nI 2) := aL_e (K56 hF) (L56 hF) (by decide)
theorem aL57 (hF : Fix h) : aL (some 57) h = some (nI 2) := aL_e (K57 hF) (L57 hF) (by decide)
theorem aL58 (hF : Fix h) : aL (some 58) h = some (nI 2) := aL_e (K58 hF) (L58 hF) (by decide)
theorem aI59 (hF : Fix h) {i : Nat} (hi : i < 5) : aI 12 (some 59) (nI i) h = some (hI h 59 i) := aI_e (K59 hF) (by rw [L59 hF]; exact hi) (by omega)
theorem wI59 (hF : Fix h) {i : Nat} (hi : i < 5) (x : Int32) : wI (some 59) (nI i) x h = some (sI h 59 i x) := wI_e (K59 hF) (by decide) (by rw [L59 hF]; exact hi) (by omega)
theorem aL59 (hF : Fix h) : aL (some 59) h = some (nI 5) := aL_e (K59 hF) (L59 hF) (by decide)
theorem aI61 (hF : Fix h) {i : Nat} (hi : i < 100) : aI 12 (some 61) (nI i) h = some (hI h 61 i) := aI_e (K61 hF) (by rw [L61 hF]; exact hi) (by omega)
theorem wI61 (hF : Fix h) {i : Nat} (hi : i < 100) (x : Int32) : wI (some 61) (nI i) x h = some (sI h 61 i x) := wI_e (K61 hF) (by decide) (by rw [L61 hF]; exact hi) (by omega)
theorem aL61 (hF : Fix h) : aL (some 61) h = some (nI 100) := aL_e (K61 hF) (L61 hF) (by decide)
theorem aL62 (hF : Fix h) : aL (some 62) h = some (nI 10) := aL_e (K62 hF) (L62 hF) (by decide)
theorem aI63 (hF : Fix h) {i : Nat} (hi : i < 18) : aI 12 (some 63) (nI i) h = some (hI h 63 i) := aI_e (K63 hF) (by rw [L63 hF]; exact hi) (by omega)
theorem wI63 (hF : Fix h) {i : Nat} (hi : i < 18) (x : Int32) : wI (some 63) (nI i) x h = some (sI h 63 i x) := wI_e (K63 hF) (by decide) (by rw [L63 hF]; exact hi) (by omega)
theorem aL63 (hF : Fix h) : aL (some 63) h = some (nI 18) := aL_e (K63 hF) (L63 hF) (by decide)
theorem aI65 (hF : Fix h) {i : Nat} (hi : i < 940) : aI 12 (some 65) (nI i) h = some (hI h 65 i) := aI_e (K65 hF) (by rw [L65 hF]; exact hi) (by omega)
theorem wI65 (hF : Fix h) {i : Nat} (hi : i < 940) (x : Int32) : wI (some 65) (nI i) x h = some (sI h 65 i x) := wI_e (K65 hF) (by decide) (by rw [L65 hF]; exact hi) (by omega)
theorem aL65 (hF : Fix h) : aL (some 65) h = some (nI 940) := aL_e (K65 hF) (L65 hF) (by decide)
theorem aI66 (hF : Fix h) {i : Nat} (hi : i < 704) : aI 12 (some 66) (nI i) h = some (hI h 66 i) := aI_e (K66 hF) (by rw [L66 hF]; exact hi) (by omega)
theorem wI66 (hF : Fix h) {i : Nat} (hi : i < 704) (x : Int32) : wI (some 66) (nI i) x h = some (sI h 66 i x) := wI_e (K66 hF) (by decide) (by rw [L66 hF]; exact hi) (by omega)
theorem aL66 (hF : Fix h) : aL (some 66) h = some (nI 704) := aL_e (K66 hF) (L66 hF) (by decide)
theorem aI67 (hF : Fix h) {i : Nat} (hi : i < 330) : aI 12 (some 67) (nI i) h = some (hI h 67 i) := aI_e (K67 hF) (by rw [L67 hF]; exact hi) (by omega)
theorem wI67 (hF : Fix h) {i : Nat} (hi : i < 330) (x : Int32) : wI (some 67) (nI i) x h = some (sI h 67 i x) := wI_e (K67 hF) (by decide) (by rw [L67 hF]; exact hi) (by omega)
theorem aL67 (hF : Fix h) : aL (some 67) h = some (nI 330) := aL_e (K67 hF) (L67 hF) (by decide)
theorem aI68 (hF : Fix h) {i : Nat} (hi : i < 120) : aI 12 (some 68) (nI i) h = some (hI h 68 i) := aI_e (K68 hF) (by rw [L68 hF]; exact hi) (by omega)
theorem wI68 (hF : Fix h) {i : Nat} (hi : i < 120) (x : Int32) : wI (some 68) (nI i) x h = some (sI h 68 i x) := wI_e (K68 hF) (by decide) (by rw [L68 hF]; exact hi) (by omega)
theorem aL68 (hF : Fix h) : aL (some 68) h = some (nI 120) := aL_e (K68 hF) (L68 hF) (by decide)
theorem aI69 (hF : Fix h) {i : Nat} (hi : i < 1408) : aI 12 (some 69) (nI i) h = some (hI h 69 i) := aI_e (K69 hF) (by rw [L69 hF]; exact hi) (by omega)
theorem wI69 (hF : Fix h) {i : Nat} (hi : i < 1408) (x : Int32) : wI (some 69) (nI i) x h = some (sI h 69 i x) := wI_e (K69 hF) (by decide) (by rw [L69 hF]; exact hi) (by omega)
theorem aL69 (hF : Fix h) : aL (some 69) h = some (nI 1408) := aL_e (K69 hF) (L69 hF) (by decide)
theorem aJ70 (hF : Fix h) {i : Nat} (hi : i < 10) : aJ (some 70) (nI i) h = some (hJ h 70 i) := aJ_e (K70 hF) (by rw [L70 hF]; exact hi) (by omega)
theorem wJ70 (hF : Fix h) {i : Nat} (hi : i < 10) (x : Int64) : wJ (some 70) (nI i) x h = some (sJ h 70 i x) := wJ_e (K70 hF) (by decide) (by rw [L70 hF]; exact hi) (by omega)
theorem aL70 (hF : Fix h) : aL (some 70) h = some (nI 10) := aL_e (K70 hF) (L70 hF) (by decide)
theorem aJ71 (hF : Fix h) {i : Nat} (hi : i < 10) : aJ (some 71) (nI i) h = some (hJ h 71 i) := aJ_e (K71 hF) (by rw [L71 hF]; exact hi) (by omega)
theorem wJ71 (hF : Fix h) {i : Nat} (hi : i < 10) (x : Int64) : wJ (some 71) (nI i) x h = some (sJ h 71 i x) := wJ_e (K71 hF) (by decide) (by rw [L71 hF]; exact hi) (by omega)
theorem aL71 (hF : Fix h) : aL (some 71) h = some (nI 10) := aL_e (K71 hF) (L71 hF) (by decide)
theorem aJ72 (hF : Fix h) {i : Nat} (hi : i < 20) : aJ (some 72) (nI i) h = some (hJ h 72 i) := aJ_e (K72 hF) (by rw [L72 hF]; exact hi) (by omega)
theorem wJ72 (hF : Fix h) {i : Nat} (hi : i < 20) (x : Int64) : wJ (some 72) (nI i) x h = some (sJ h 72 i x) := wJ_e (K72 hF) (by decide) (by rw [L72 hF]; exact hi) (by omega)
theorem aL72 (hF : Fix h) : aL (some 72) h = some (nI 20) := aL_e (K72 hF) (L72 hF) (by decide)
theorem aZ73 (hF : Fix h) {i : Nat} (hi : i < 2) : aI 14 (some 73) (nI i) h = some (hI h 73 i) := aI_e (K73 hF) (by rw [L73 hF]; exact hi) (by omega)
theorem wZ73 (hF : Fix h) {i : Nat} (hi : i < 2) (x : Int32) : wZ (some 73) (nI i) x h = some (sI h 73 i (x &&& 1)) := wZ_e (K73 hF) (by decide) (by rw [L73 hF]; exact hi) (by omega)
theorem aL73 (hF : Fix h) : aL (some 73) h = some (nI 2) := aL_e (K73 hF) (L73 hF) (by decide)
theorem aI74 (hF : Fix h) {i : Nat} (hi : i < 4) : aI 12 (some 74) (nI i) h = some (hI h 74 i) := aI_e (K74 hF) (by rw [L74 hF]; exact hi) (by omega)
theorem wI74 (hF : Fix h) {i : Nat} (hi : i < 4) (x : Int32) : wI (some 74) (nI i) x h = some (sI h 74 i x) := wI_e (K74 hF) (by decide) (by rw [L74 hF]; exact hi) (by omega)
theorem aL74 (hF : Fix h) : aL (some 74) h = some (nI 4) := aL_e (K74 hF) (L74 hF) (by decide)
theorem aI75 (hF : Fix h) {i : Nat} (hi : i < 4) : aI 12 (some 75) (nI i) h = some (hI h 75 i) := aI_e (K75 hF) (by rw [L75 hF]; exact hi) (by omega)
theorem wI75 (hF : Fix h) {i : Nat} (hi : i < 4) (x : Int32) : wI (some 75) (nI i) x h = some (sI h 75 i x) := wI_e (K75 hF) (by decide) (by rw [L75 hF]; exact hi) (by omega)
theorem aL75 (hF : Fix h) : aL (some 75) h = some (nI 4) := aL_e (K75 hF) (L75 hF) (by decide)
theorem aJ76 (hF : Fix h) {i : Nat} (hi : i < 40) : aJ (some 76) (nI i) h = some (hJ h 76 i) := aJ_e (K76 hF) (by rw [L76 hF]; exact hi) (by omega)
theorem wJ76 (hF : Fix h) {i : Nat} (hi : i < 40) (x : Int64) : wJ (some 76) (nI i) x h = some (sJ h 76 i x) := wJ_e (K76 hF) (by decide) (by rw [L76 hF]; exact hi) (by omega)
theorem aL76 (hF : Fix h) : aL (some 76) h = some (nI 40) := aL_e (K76 hF) (L76 hF) (by decide)
theorem aJ77 (hF : Fix h) {i : Nat} (hi : i < 40) : aJ (some 77) (nI i) h = some (hJ h 77 i) := aJ_e (K77 hF) (by rw [L77 hF]; exact hi) (by omega)
theorem wJ77 (hF : Fix h) {i : Nat} (hi : i < 40) (x : Int64) : wJ (some 77) (nI i) x h = some (sJ h 77 i x) := wJ_e (K77 hF) (by decide) (by rw [L77 hF]; exact hi) (by omega)
theorem aL77 (hF : Fix h) : aL (some 77) h = some (nI 40) := aL_e (K77 hF) (L77 hF) (by decide)
theorem aI78 (hF : Fix h) {i : Nat} (hi : i < 10) : aI 12 (some 78) (nI i) h = some (hI h 78 i) := aI_e (K78 hF) (by rw [L78 hF]; exact hi) (by omega)
theorem wI78 (hF : Fix h) {i : Nat} (hi : i < 10) (x : Int32) : wI (some 78) (nI i) x h = some (sI h 78 i x) := wI_e (K78 hF) (by decide) (by rw [L78 hF]; exact hi) (by omega)
theorem aL78 (hF : Fix h) : aL (some 78) h = some (nI 10) := aL_e (K78 hF) (L78 hF) (by decide)
theorem aI79 (hF : Fix h) {i : Nat} (hi : i < 10) : aI 12 (some 79) (nI i) h = some (hI h 79 i) := aI_e (K79 hF) (by rw [L79 hF]; exact hi) (by omega)
theorem wI79 (hF : Fix h) {i : Nat} (hi : i < 10) (x : Int32) : wI (some 79) (nI i) x h = some (sI h 79 i x) := wI_e (K79 hF) (by decide) (by rw [L79 hF]; exact hi) (by omega)
theorem aL79 (hF : Fix h) : aL (some 79) h = some (nI 10) := aL_e (K79 hF) (L79 hF) (by decide)
theorem aI80 (hF : Fix h) {i : Nat} (hi : i < 10) : aI 12 (some 80) (nI i) h = some (hI h 80 i) := aI_e (K80 hF) (by rw [L80 hF]; exact hi) (by omega)
theorem wI80 (hF : Fix h) {i : Nat} (hi : i < 10) (x : Int32) : wI (some 80) (nI i) x h = some (sI h 80 i x) := wI_e (K80 hF) (by decide) (by rw [L80 hF]; exact hi) (by omega)
theorem aL80 (hF : Fix h) : aL (some 80) h = some (nI 10) := aL_e (K80 hF) (L80 hF) (by decide)
theorem aI81 (hF : Fix h) {i : Nat} (hi : i < 10) : aI 12 (some 81) (nI i) h = some (hI h 81 i) := aI_e (K81 hF) (by rw [L81 hF]; exact hi) (by omega)
theorem wI81 (hF : Fix h) {i : Nat} (hi : i < 10) (x : Int32) : wI (some 81) (nI i) x h = some (sI h 81 i x) := wI_e (K81 hF) (by decide) (by rw [L81 hF]; exact hi) (by omega)
theorem aL81 (hF : Fix h) : aL (some 81) h = some (nI 10) := aL_e (K81 hF) (L81 hF) (by decide)
theorem aI82 (hF : Fix h) {i : Nat} (hi : i < 10) : aI 12 (some 82) (nI i) h = some (hI h 82 i) := aI_e (K82 hF) (by rw [L82 hF]; exact hi) (by omega)
theorem wI82 (hF : Fix h) {i : Nat} (hi : i < 10) (x : Int32) : wI (some 82) (nI i) x h = some (sI h 82 i x) := wI_e (K82 hF) (by decide) (by rw [L82 hF]; exact hi) (by omega)
theorem aL82 (hF : Fix h) : aL (some 82) h = some (nI 10) := aL_e (K82 hF) (L82 hF) (by decide)
theorem aI83 (hF : Fix h) {i : Nat} (hi : i < 10) : aI 12 (some 83) (nI i) h = some (hI h 83 i) := aI_e (K83 hF) (by rw [L83 hF]; exact hi) (by omega)
theorem wI83 (hF : Fix h) {i : Nat} (hi : i < 10) (x : Int32) : wI (some 83) (nI i) x h = some (sI h 83 i x) := wI_e (K83 hF) (by decide) (by rw [L83 hF]; exact hi) (by omega)
theorem aL83 (hF : Fix h) : aL (some 83) h = some (nI 10) := aL_e (K83 hF) (L83 hF) (by decide)
theorem aI84 (hF : Fix h) {i : Nat} (hi : i < 1024) : aI 12 (some 84) (nI i) h = some (hI h 84 i) := aI_e (K84 hF) (by rw [L84 hF]; exact hi) (by omega)
theorem wI84 (hF : Fix h) {i : Nat} (hi : i < 1024) (x : Int32) : wI (some 84) (nI i) x h = some (sI h 84 i x) := wI_e (K84 hF) (by decide) (by rw [L84 hF]; exact hi) (by omega)
theorem aL84 (hF : Fix h) : aL (some 84) h = some (nI 1024) := aL_e (K84 hF) (L84 hF) (by decide)
theorem aI85 (hF : Fix h) {i : Nat} (hi : i < 1024) : aI 12 (some 85) (nI i) h = some (hI h 85 i) := aI_e (K85 hF) (by rw [L85 hF]; exact hi) (by omega)
theorem wI85 (hF : Fix h) {i : Nat} (hi : i < 1024) (x : Int32) : wI (some 85) (nI i) x h = some (sI h 85 i x) := wI_e (K85 hF) (by decide) (by rw [L85 hF]; exact hi) (by omega)
theorem aL85 (hF : Fix h) : aL (some 85) h = some (nI 1024) := aL_e (K85 hF) (L85 hF) (by decide)
theorem aI86 (hF : Fix h) {i : Nat} (hi : i < 10) : aI 12 (some 86) (nI i) h = some (hI h 86 i) := aI_e (K86 hF) (by rw [L86 hF]; exact hi) (by omega)
theorem wI86 (hF : Fix h) {i : Nat} (hi : i < 10) (x : Int32) : wI (some 86) (nI i) x h = some (sI h 86 i x) := wI_e (K86 hF) (by decide) (by rw [L86 hF]; exact hi) (by omega)
theorem aL86 (hF : Fix h) : aL (some 86) h = some (nI 10) := aL_e (K86 hF) (L86 hF) (by decide)
theorem aI87 (hF : Fix h) {i : Nat} (hi : i < 10) : aI 12 (some 87) (nI i) h = some (hI h 87 i) := aI_e (K87 hF) (by rw [L87 hF]; exact hi) (by omega)
theorem wI87 (hF : Fix h) {i : Nat} (hi : i < 10) (x : Int32) : wI (some 87) (nI i) x h = some (sI h 87 i x) := wI_e (K87 hF) (by decide) (by rw [L87 hF]; exact hi) (by omega)
theorem aL87 (hF : Fix h) : aL (some 87) h = some (nI 10) := aL_e (K87 hF) (L87 hF) (by decide)
theorem aI88 (hF : Fix h) {i : Nat} (hi : i < 100) : aI 12 (some 88) (nI i) h = some (hI h 88 i) := aI_e (K88 hF) (by rw [L88 hF]; exact hi) (by omega)
theorem wI88 (hF : Fix h) {i : Nat} (hi : i < 100) (x : Int32) : wI (some 88) (nI i) x h = some (sI h 88 i x) := wI_e (K88 hF) (by decide) (by rw [L88 hF]; exact hi) (by omega)
theorem aL88 (hF : Fix h) : aL (some 88) h = some (nI 100) := aL_e (K88 hF) (L88 hF) (by decide)
theorem aI89 (hF : Fix h) {i : Nat} (hi : i < 5) : aI 12 (some 89) (nI i) h = some (hI h 89 i) := aI_e (K89 hF) (by rw [L89 hF]; exact hi) (by omega)
theorem wI89 (hF : Fix h) {i : Nat} (hi : i < 5) (x : Int32) : wI (some 89) (nI i) x h = some (sI h 89 i x) := wI_e (K89 hF) (by decide) (by rw [L89 hF]; exact hi) (by omega)
theorem aL89 (hF : Fix h) : aL (some 89) h = some (nI 5) := aL_e (K89 hF) (L89 hF) (by decide)
theorem aI90 (hF : Fix h) {i : Nat} (hi : i < 24300) : aI 12 (some 90) (nI i) h = some (hI h 90 i) := aI_e (K90 hF) (by rw [L90 hF]; exact hi) (by omega)
theorem wI90 (hF : Fix h) {i : Nat} (hi : i < 24300) (x : Int32) : wI (some 90) (nI i) x h = some (sI h 90 i x) := wI_e (K90 hF) (by decide) (by rw [L90 hF]; exact hi) (by omega)
theorem aL90 (hF : Fix h) : aL (some 90) h = some (nI 24300) := aL_e (K90 hF) (L90 hF) (by decide)
theorem aI91 (hF : Fix h) {i : Nat} (hi : i < 24300) : aI 12 (some 91) (nI i) h = some (hI h 91 i) := aI_e (K91 hF) (by rw [L91 hF]; exact hi) (by omega)
theorem wI91 (hF : Fix h) {i : Nat} (hi : i < 24300) (x : Int32) : wI (some 91) (nI i) x h = some (sI h 91 i x) := wI_e (K91 hF) (by decide) (by rw [L91 hF]; exact hi) (by omega)
theorem aL91 (hF : Fix h) : aL (some 91) h = some (nI 24300) := aL_e (K91 hF) (L91 hF) (by decide)
theorem aI92 (hF : Fix h) {i : Nat} (hi : i < 24300) : aI 12 (some 92) (nI i) h = some (hI h 92 i) := aI_e (K92 hF) (by rw [L92 hF]; exact hi) (by omega)
theorem wI92 (hF : Fix h) {i : Nat} (hi : i < 24300) (x : Int32) : wI (some 92) (nI i) x h = some (sI h 92 i x) := wI_e (K92 hF) (by decide) (by rw [L92 hF]; exact hi) (by omega)
theorem aL92 (hF : Fix h) : aL (some 92) h = some (nI 24300) := aL_e (K92 hF) (L92 hF) (by decide)
theorem aI93 (hF : Fix h) {i : Nat} (hi : i < 24300) : aI 12 (some 93) (nI i) h = some (hI h 93 i) := aI_e (K93 hF) (by rw [L93 hF]; exact hi) (by omega)
theorem wI93 (hF : Fix h) {i : Nat} (hi : i < 24300) (x : Int32) : wI (some 93) (nI i) x h = some (sI h 93 i x) := wI_e (K93 hF) (by decide) (by rw [L93 hF]; exact hi) (by omega)
theorem aL93 (hF : Fix h) : aL (some 93) h = some (nI 24300) := aL_e (K93 hF) (L93 hF) (by decide)
theorem aI94 (hF : Fix h) {i : Nat} (hi : i < 24300) : aI 12 (some 94) (nI i) h = some (hI h 94 i) := aI_e (K94 hF) (by rw [L94 hF]; exact hi) (by omega)
theorem wI94 (hF : Fix h) {i : Nat} (hi : i < 24300) (x : Int32) : wI (some 94) (nI i) x h = some (sI h 94 i x) := wI_e (K94 hF) (by decide) (by rw [L94 hF]; exact hi) (by omega)
theorem aL94 (hF : Fix h) : aL (some 94) h = some (nI 24300) := aL_e (K94 hF) (L94 hF) (by decide)
theorem aZ95 (hF : Fix h) {i : Nat} (hi : i < 100) : aI 14 (some 95) (nI i) h = some (hI h 95 i) := aI_e (K95 hF) (by rw [L95 hF]; exact hi) (by omega)
theorem wZ95 (hF : Fix h) {i : Nat} (hi : i < 100) (x : Int32) : wZ (some 95) (nI i) x h = some (sI h 95 i (x &&& 1)) := wZ_e (K95 hF) (by decide) (by rw [L95 hF]; exact hi) (by omega)
theorem aL95 (hF : Fix h) : aL (some 95) h = some (nI 100) := aL_e (K95 hF) (L95 hF) (by decide)
theorem aI96 (hF : Fix h) {i : Nat} (hi : i < 240) : aI 12 (some 96) (nI i) h = some (hI h 96 i) := aI_e (K96 hF) (by rw [L96 hF]; exact hi) (by omega)
theorem wI96 (hF : Fix h) {i : Nat} (hi : i < 240) (x : Int32) : wI (some 96) (nI i) x h = some (sI h 96 i x) := wI_e (K96 hF) (by decide) (by rw [L96 hF]; exact hi) (by omega)
theorem aL96 (hF : Fix h) : aL (some 96) h = some (nI 240) := aL_e (K96 hF) (L96 hF) (by decide)
theorem aJ97 (hF : Fix h) {i : Nat} (hi : i < 1) : aJ (some 97) (nI i) h = some (hJ h 97 i) := aJ_e (K97 hF) (by rw [L97 hF]; exact hi) (by omega)
theorem wJ97 (hF : Fix h) {i : Nat} (hi : i < 1) (x : Int64) : wJ (some 97) (nI i) x h = some (sJ h 97 i x) := wJ_e (K97 hF) (by decide) (by rw [L97 hF]; exact hi) (by omega)
theorem aL97 (hF : Fix h) : aL (some 97) h = some (nI 1) := aL_e (K97 hF) (L97 hF) (by decide)
end FX
