/-! THE TOWN IS MADE: a contract for every object of it -/
def z0 : List w_SC := []
def z1 : List w_SC := z0 ++ [.inr (7, w_f7)]
def z2 : List w_SC := z1 ++ [.inl (1, 700)]
def z3 : List w_SC := z2.set 0 (.inr (7, [.inr (some 1), .inl 0, .inr none, .inl 0, .inr none, .inr none, .inr none, .inl 0, .inl 0, .inr none, .inr none, .inr none, .inr none, .inl 0]))
def z4 : List w_SC := z3 ++ [.inr (4, w_f4)]
def z5 : List w_SC := z4 ++ [.inr (3, w_f3)]
def z6 : List w_SC := z5 ++ [.inl (0, 6)]
def z7 : List w_SC := z6.set 3 (.inr (3, [.inl 0, .inr (some 4), .inl 0, .inr none, .inr none, .inr none, .inl 0, .inr none, .inr none, .inr none, .inr none, .inr none, .inr none, .inr none, .inl 0]))
def z8 : List w_SC := z7 ++ [.inl (0, 12)]
def z9 : List w_SC := z8.set 3 (.inr (3, [.inl 0, .inr (some 4), .inl 0, .inr (some 5), .inr none, .inr none, .inl 0, .inr none, .inr none, .inr none, .inr none, .inr none, .inr none, .inr none, .inl 0]))
def z10 : List w_SC := z9 ++ [.inl (0, 12)]
def z11 : List w_SC := z10.set 3 (.inr (3, [.inl 0, .inr (some 4), .inl 0, .inr (some 5), .inr (some 6), .inr none, .inl 0, .inr none, .inr none, .inr none, .inr none, .inr none, .inr none, .inr none, .inl 0]))
def z12 : List w_SC := z11 ++ [.inl (0, 12)]
def z13 : List w_SC := z12.set 3 (.inr (3, [.inl 0, .inr (some 4), .inl 0, .inr (some 5), .inr (some 6), .inr (some 7), .inl 0, .inr none, .inr none, .inr none, .inr none, .inr none, .inr none, .inr none, .inl 0]))
def z14 : List w_SC := z13 ++ [.inl (0, 12)]
def z15 : List w_SC := z14.set 3 (.inr (3, [.inl 0, .inr (some 4), .inl 0, .inr (some 5), .inr (some 6), .inr (some 7), .inl 0, .inr (some 8), .inr none, .inr none, .inr none, .inr none, .inr none, .inr none, .inl 0]))
def z16 : List w_SC := z15 ++ [.inl (0, 12)]
def z17 : List w_SC := z16.set 3 (.inr (3, [.inl 0, .inr (some 4), .inl 0, .inr (some 5), .inr (some 6), .inr (some 7), .inl 0, .inr (some 8), .inr (some 9), .inr none, .inr none, .inr none, .inr none, .inr none, .inl 0]))
def z18 : List w_SC := z17 ++ [.inl (0, 12)]
def z19 : List w_SC := z18.set 3 (.inr (3, [.inl 0, .inr (some 4), .inl 0, .inr (some 5), .inr (some 6), .inr (some 7), .inl 0, .inr (some 8), .inr (some 9), .inr (some 10), .inr none, .inr none, .inr none, .inr none, .inl 0]))
def z20 : List w_SC := z19 ++ [.inl (0, 12)]
def z21 : List w_SC := z20.set 3 (.inr (3, [.inl 0, .inr (some 4), .inl 0, .inr (some 5), .inr (some 6), .inr (some 7), .inl 0, .inr (some 8), .inr (some 9), .inr (some 10), .inr (some 11), .inr none, .inr none, .inr none, .inl 0]))
def z22 : List w_SC := z21 ++ [.inl (0, 12)]
def z23 : List w_SC := z22.set 3 (.inr (3, [.inl 0, .inr (some 4), .inl 0, .inr (some 5), .inr (some 6), .inr (some 7), .inl 0, .inr (some 8), .inr (some 9), .inr (some 10), .inr (some 11), .inr (some 12), .inr none, .inr none, .inl 0]))
def z24 : List w_SC := z23 ++ [.inl (0, 12)]
def z25 : List w_SC := z24.set 3 (.inr (3, [.inl 0, .inr (some 4), .inl 0, .inr (some 5), .inr (some 6), .inr (some 7), .inl 0, .inr (some 8), .inr (some 9), .inr (some 10), .inr (some 11), .inr (some 12), .inr (some 13), .inr none, .inl 0]))
def z26 : List w_SC := z25 ++ [.inl (0, 13)]
def z27 : List w_SC := z26.set 3 (.inr (3, [.inl 0, .inr (some 4), .inl 0, .inr (some 5), .inr (some 6), .inr (some 7), .inl 0, .inr (some 8), .inr (some 9), .inr (some 10), .inr (some 11), .inr (some 12), .inr (some 13), .inr (some 14), .inl 0]))
def z28 : List w_SC := z27.set 2 (.inr (4, [.inr none, .inr (some 3), .inl 0, .inl 0, .inl 0, .inl 0, .inl 0, .inl 0, .inl 0, .inl 0]))
def z29 : List w_SC := z28.set 2 (.inr (4, [.inr (some 1), .inr (some 3), .inl 0, .inl 0, .inl 0, .inl 0, .inl 0, .inl 0, .inl 0, .inl 0]))
def z30 : List w_SC := z29.set 0 (.inr (7, [.inr (some 1), .inl 0, .inr (some 2), .inl 0, .inr none, .inr none, .inr none, .inl 0, .inl 0, .inr none, .inr none, .inr none, .inr none, .inl 0]))
def z31 : List w_SC := z30 ++ [.inr (3, w_f3)]
def z32 : List w_SC := z31 ++ [.inl (0, 6)]
def z33 : List w_SC := z32.set 15 (.inr (3, [.inl 0, .inr (some 16), .inl 0, .inr none, .inr none, .inr none, .inl 0, .inr none, .inr none, .inr none, .inr none, .inr none, .inr none, .inr none, .inl 0]))
def z34 : List w_SC := z33 ++ [.inl (0, 12)]
def z35 : List w_SC := z34.set 15 (.inr (3, [.inl 0, .inr (some 16), .inl 0, .inr (some 17), .inr none, .inr none, .inl 0, .inr none, .inr none, .inr none, .inr none, .inr none, .inr none, .inr none, .inl 0]))
def z36 : List w_SC := z35 ++ [.inl (0, 12)]
def z37 : List w_SC := z36.set 15 (.inr (3, [.inl 0, .inr (some 16), .inl 0, .inr (some 17), .inr (some 18), .inr none, .inl 0, .inr none, .inr none, .inr none, .inr none, .inr none, .inr none, .inr none, .inl 0]))
def z38 : List w_SC := z37 ++ [.inl (0, 12)]
def z39 : List w_SC := z38.set 15 (.inr (3, [.inl 0, .inr (some 16), .inl 0, .inr (some 17), .inr (some 18), .inr (some 19), .inl 0, .inr none, .inr none, .inr none, .inr none, .inr none, .inr none, .inr none, .inl 0]))
def z40 : List w_SC := z39 ++ [.inl (0, 12)]
def z41 : List w_SC := z40.set 15 (.inr (3, [.inl 0, .inr (some 16), .inl 0, .inr (some 17), .inr (some 18), .inr (some 19), .inl 0, .inr (some 20), .inr none, .inr none, .inr none, .inr none, .inr none, .inr none, .inl 0]))
def z42 : List w_SC := z41 ++ [.inl (0, 12)]
def z43 : List w_SC := z42.set 15 (.inr (3, [.inl 0, .inr (some 16), .inl 0, .inr (some 17), .inr (some 18), .inr (some 19), .inl 0, .inr (some 20), .inr (some 21), .inr none, .inr none, .inr none, .inr none, .inr none, .inl 0]))
def z44 : List w_SC := z43 ++ [.inl (0, 12)]
def z45 : List w_SC := z44.set 15 (.inr (3, [.inl 0, .inr (some 16), .inl 0, .inr (some 17), .inr (some 18), .inr (some 19), .inl 0, .inr (some 20), .inr (some 21), .inr (some 22), .inr none, .inr none, .inr none, .inr none, .inl 0]))
def z46 : List w_SC := z45 ++ [.inl (0, 12)]
def z47 : List w_SC := z46.set 15 (.inr (3, [.inl 0, .inr (some 16), .inl 0, .inr (some 17), .inr (some 18), .inr (some 19), .inl 0, .inr (some 20), .inr (some 21), .inr (some 22), .inr (some 23), .inr none, .inr none, .inr none, .inl 0]))
def z48 : List w_SC := z47 ++ [.inl (0, 12)]
def z49 : List w_SC := z48.set 15 (.inr (3, [.inl 0, .inr (some 16), .inl 0, .inr (some 17), .inr (some 18), .inr (some 19), .inl 0, .inr (some 20), .inr (some 21), .inr (some 22), .inr (some 23), .inr (some 24), .inr none, .inr none, .inl 0]))
def z50 : List w_SC := z49 ++ [.inl (0, 12)]
def z51 : List w_SC := z50.set 15 (.inr (3, [.inl 0, .inr (some 16), .inl 0, .inr (some 17), .inr (some 18), .inr (some 19), .inl 0, .inr (some 20), .inr (some 21), .inr (some 22), .inr (some 23), .inr (some 24), .inr (some 25), .inr none, .inl 0]))
def z52 : List w_SC := z51 ++ [.inl (0, 13)]
def z53 : List w_SC := z52.set 15 (.inr (3, [.inl 0, .inr (some 16), .inl 0, .inr (some 17), .inr (some 18), .inr (some 19), .inl 0, .inr (some 20), .inr (some 21), .inr (some 22), .inr (some 23), .inr (some 24), .inr (some 25), .inr (some 26), .inl 0]))
def z54 : List w_SC := z53.set 0 (.inr (7, [.inr (some 1), .inl 0, .inr (some 2), .inl 0, .inr (some 15), .inr none, .inr none, .inl 0, .inl 0, .inr none, .inr none, .inr none, .inr none, .inl 0]))
def z55 : List w_SC := z54 ++ [.inr (5, w_f5)]
def z56 : List w_SC := z55 ++ [.inl (0, 60)]
def z57 : List w_SC := z56.set 27 (.inr (5, [.inl 0, .inr (some 28), .inr none, .inr none, .inr none, .inr none, .inr none]))
def z58 : List w_SC := z57 ++ [.inl (0, 60)]
def z59 : List w_SC := z58.set 27 (.inr (5, [.inl 0, .inr (some 28), .inr (some 29), .inr none, .inr none, .inr none, .inr none]))
def z60 : List w_SC := z59 ++ [.inl (0, 60)]
def z61 : List w_SC := z60.set 27 (.inr (5, [.inl 0, .inr (some 28), .inr (some 29), .inr (some 30), .inr none, .inr none, .inr none]))
def z62 : List w_SC := z61 ++ [.inl (0, 60)]
def z63 : List w_SC := z62.set 27 (.inr (5, [.inl 0, .inr (some 28), .inr (some 29), .inr (some 30), .inr (some 31), .inr none, .inr none]))
def z64 : List w_SC := z63 ++ [.inl (0, 60)]
def z65 : List w_SC := z64.set 27 (.inr (5, [.inl 0, .inr (some 28), .inr (some 29), .inr (some 30), .inr (some 31), .inr (some 32), .inr none]))
def z66 : List w_SC := z65 ++ [.inl (0, 13)]
def z67 : List w_SC := z66.set 27 (.inr (5, [.inl 0, .inr (some 28), .inr (some 29), .inr (some 30), .inr (some 31), .inr (some 32), .inr (some 33)]))
def z68 : List w_SC := z67.set 0 (.inr (7, [.inr (some 1), .inl 0, .inr (some 2), .inl 0, .inr (some 15), .inr (some 27), .inr none, .inl 0, .inl 0, .inr none, .inr none, .inr none, .inr none, .inl 0]))
def z69 : List w_SC := z68 ++ [.inr (0, w_f0)]
def z70 : List w_SC := z69 ++ [.inl (0, 12)]
def z71 : List w_SC := z70.set 34 (.inr (0, [.inr none, .inl 0, .inl 0, .inl 0, .inl 0, .inl 0, .inl 0, .inl 0, .inr (some 35), .inr none, .inr none]))
def z72 : List w_SC := z71 ++ [.inl (0, 12)]
def z73 : List w_SC := z72.set 34 (.inr (0, [.inr none, .inl 0, .inl 0, .inl 0, .inl 0, .inl 0, .inl 0, .inl 0, .inr (some 35), .inr (some 36), .inr none]))
def z74 : List w_SC := z73 ++ [.inl (0, 12)]
def z75 : List w_SC := z74.set 34 (.inr (0, [.inr none, .inl 0, .inl 0, .inl 0, .inl 0, .inl 0, .inl 0, .inl 0, .inr (some 35), .inr (some 36), .inr (some 37)]))
def z76 : List w_SC := z75.set 34 (.inr (0, [.inr (some 15), .inl 0, .inl 0, .inl 0, .inl 0, .inl 0, .inl 0, .inl 0, .inr (some 35), .inr (some 36), .inr (some 37)]))
def z77 : List w_SC := z76.set 0 (.inr (7, [.inr (some 1), .inl 0, .inr (some 2), .inl 0, .inr (some 15), .inr (some 27), .inr (some 34), .inl 0, .inl 0, .inr none, .inr none, .inr none, .inr none, .inl 0]))
def z78 : List w_SC := z77 ++ [.inr (1, w_f1)]
def z79 : List w_SC := z78 ++ [.inr (5, w_f5)]
def z80 : List w_SC := z79 ++ [.inl (0, 60)]
def z81 : List w_SC := z80.set 39 (.inr (5, [.inl 0, .inr (some 40), .inr none, .inr none, .inr none, .inr none, .inr none]))
def z82 : List w_SC := z81 ++ [.inl (0, 60)]
def z83 : List w_SC := z82.set 39 (.inr (5, [.inl 0, .inr (some 40), .inr (some 41), .inr none, .inr none, .inr none, .inr none]))
def z84 : List w_SC := z83 ++ [.inl (0, 60)]
def z85 : List w_SC := z84.set 39 (.inr (5, [.inl 0, .inr (some 40), .inr (some 41), .inr (some 42), .inr none, .inr none, .inr none]))
def z86 : List w_SC := z85 ++ [.inl (0, 60)]
def z87 : List w_SC := z86.set 39 (.inr (5, [.inl 0, .inr (some 40), .inr (some 41), .inr (some 42), .inr (some 43), .inr none, .inr none]))
def z88 : List w_SC := z87 ++ [.inl (0, 60)]
def z89 : List w_SC := z88.set 39 (.inr (5, [.inl 0, .inr (some 40), .inr (some 41), .inr (some 42), .inr (some 43), .inr (some 44), .inr none]))
def z90 : List w_SC := z89 ++ [.inl (0, 13)]
def z91 : List w_SC := z90.set 39 (.inr (5, [.inl 0, .inr (some 40), .inr (some 41), .inr (some 42), .inr (some 43), .inr (some 44), .inr (some 45)]))
def z92 : List w_SC := z91.set 38 (.inr (1, [.inl 0, .inr none, .inr (some 39), .inl 0, .inl 0]))
def z93 : List w_SC := z92 ++ [.inr (0, w_f0)]
def z94 : List w_SC := z93 ++ [.inl (0, 12)]
def z95 : List w_SC := z94.set 46 (.inr (0, [.inr none, .inl 0, .inl 0, .inl 0, .inl 0, .inl 0, .inl 0, .inl 0, .inr (some 47), .inr none, .inr none]))
def z96 : List w_SC := z95 ++ [.inl (0, 12)]
def z97 : List w_SC := z96.set 46 (.inr (0, [.inr none, .inl 0, .inl 0, .inl 0, .inl 0, .inl 0, .inl 0, .inl 0, .inr (some 47), .inr (some 48), .inr none]))
def z98 : List w_SC := z97 ++ [.inl (0, 12)]
def z99 : List w_SC := z98.set 46 (.inr (0, [.inr none, .inl 0, .inl 0, .inl 0, .inl 0, .inl 0, .inl 0, .inl 0, .inr (some 47), .inr (some 48), .inr (some 49)]))
def z100 : List w_SC := z99.set 46 (.inr (0, [.inr (some 15), .inl 0, .inl 0, .inl 0, .inl 0, .inl 0, .inl 0, .inl 0, .inr (some 47), .inr (some 48), .inr (some 49)]))
def z101 : List w_SC := z100.set 38 (.inr (1, [.inl 0, .inr (some 46), .inr (some 39), .inl 0, .inl 0]))
def z102 : List w_SC := z101.set 0 (.inr (7, [.inr (some 1), .inl 0, .inr (some 2), .inl 0, .inr (some 15), .inr (some 27), .inr (some 34), .inl 0, .inl 0, .inr (some 38), .inr none, .inr none, .inr none, .inl 0]))
def z103 : List w_SC := z102 ++ [.inr (6, w_f6)]
def z104 : List w_SC := z103 ++ [.inl (0, 72)]
def z105 : List w_SC := z104.set 50 (.inr (6, [.inr none, .inl 0, .inl 0, .inr (some 51), .inr none, .inr none, .inr none]))
def z106 : List w_SC := z105 ++ [.inl (0, 72)]
def z107 : List w_SC := z106.set 50 (.inr (6, [.inr none, .inl 0, .inl 0, .inr (some 51), .inr (some 52), .inr none, .inr none]))
def z108 : List w_SC := z107 ++ [.inl (0, 12)]
def z109 : List w_SC := z108.set 50 (.inr (6, [.inr none, .inl 0, .inl 0, .inr (some 51), .inr (some 52), .inr (some 53), .inr none]))
def z110 : List w_SC := z109.set 50 (.inr (6, [.inr (some 15), .inl 0, .inl 0, .inr (some 51), .inr (some 52), .inr (some 53), .inr none]))
def z111 : List w_SC := z110 ++ [.inr (0, w_f0)]
def z112 : List w_SC := z111 ++ [.inl (0, 12)]
def z113 : List w_SC := z112.set 54 (.inr (0, [.inr none, .inl 0, .inl 0, .inl 0, .inl 0, .inl 0, .inl 0, .inl 0, .inr (some 55), .inr none, .inr none]))
def z114 : List w_SC := z113 ++ [.inl (0, 12)]
def z115 : List w_SC := z114.set 54 (.inr (0, [.inr none, .inl 0, .inl 0, .inl 0, .inl 0, .inl 0, .inl 0, .inl 0, .inr (some 55), .inr (some 56), .inr none]))
def z116 : List w_SC := z115 ++ [.inl (0, 12)]
def z117 : List w_SC := z116.set 54 (.inr (0, [.inr none, .inl 0, .inl 0, .inl 0, .inl 0, .inl 0, .inl 0, .inl 0, .inr (some 55), .inr (some 56), .inr (some 57)]))
def z118 : List w_SC := z117.set 54 (.inr (0, [.inr (some 15), .inl 0, .inl 0, .inl 0, .inl 0, .inl 0, .inl 0, .inl 0, .inr (some 55), .inr (some 56), .inr (some 57)]))
def z119 : List w_SC := z118.set 50 (.inr (6, [.inr (some 15), .inl 0, .inl 0, .inr (some 51), .inr (some 52), .inr (some 53), .inr (some 54)]))
def z120 : List w_SC := z119.set 0 (.inr (7, [.inr (some 1), .inl 0, .inr (some 2), .inl 0, .inr (some 15), .inr (some 27), .inr (some 34), .inl 0, .inl 0, .inr (some 38), .inr (some 50), .inr none, .inr none, .inl 0]))
def z121 : List w_SC := z120 ++ [.inr (2, w_f2)]
def z122 : List w_SC := z121 ++ [.inl (0, 6)]
def z123 : List w_SC := z122.set 58 (.inr (2, [.inr none, .inr (some 59), .inr none, .inr none, .inl 0, .inl 0]))
def z124 : List w_SC := z123 ++ [.inl (0, 6)]
def z125 : List w_SC := z124.set 58 (.inr (2, [.inr none, .inr (some 59), .inr (some 60), .inr none, .inl 0, .inl 0]))
def z126 : List w_SC := z125 ++ [.inl (0, 6)]
def z127 : List w_SC := z126.set 58 (.inr (2, [.inr none, .inr (some 59), .inr (some 60), .inr (some 61), .inl 0, .inl 0]))
def z128 : List w_SC := z127.set 58 (.inr (2, [.inr (some 15), .inr (some 59), .inr (some 60), .inr (some 61), .inl 0, .inl 0]))
def z129 : List w_SC := z128.set 0 (.inr (7, [.inr (some 1), .inl 0, .inr (some 2), .inl 0, .inr (some 15), .inr (some 27), .inr (some 34), .inl 0, .inl 0, .inr (some 38), .inr (some 50), .inr (some 58), .inr none, .inl 0]))
def z130 : List w_SC := z129 ++ [.inl (0, 12)]
def z131 : List w_SC := z130.set 0 (.inr (7, [.inr (some 1), .inl 0, .inr (some 2), .inl 0, .inr (some 15), .inr (some 27), .inr (some 34), .inl 0, .inl 0, .inr (some 38), .inr (some 50), .inr (some 58), .inr (some 62), .inl 0]))
set_option maxRecDepth 8192 in
theorem kt_3 {Ω : w_O} {d : Nat} {I : w_I} {L : w_L} (hI : ∀ i, 3 ≤ i → ∀ j, I i j = 0) (hL : ∀ i j, L i j = 0) : FnC Ω (d + 1 + 1) 11 127 mX3_init [.ref (Ω.1 + 3)] z5 I L (w_pv (fun S' I' L' => S' = z27 ∧ L = L' ∧ I' = (w_row (w_put I 3 0 2) 4 (w_fill 1 ((w_put I 3 0 2) 4) 6)))) := by
  refine FnC_of okX3_init (Nat.le_of_ble_eq_true rfl) fun l => ?_
  have hE : w_fit (d + 1) (w_Er l (d + 1 + 1) 11 127 Ω (w_pv (fun S' I' L' => S' = z27 ∧ L = L' ∧ I' = (w_row (w_put I 3 0 2) 4 (w_fill 1 ((w_put I 3 0 2) 4) 6)))) (Ω.1 + z5.length)) := w_fit_r
  show V _ _ _ _ _ _ _ _ 0 [(0, _)] []
  refine V_aload_n 0 0 dX3_init_0 rfl ?_
  refine V_oinit 1 moX3_3 dX3_init_1 (w_fit.mono (by omega) hE) (Nat.le_of_ble_eq_true rfl) ?_
  refine V_aload_n 4 0 dX3_init_4 rfl ?_
  refine V_bip 5 6 dX3_init_5 rfl ?_
  refine V_newa 7 z6 (t := 0) (nn := 6) (at0 := .int) (by decide) rfl w_ar_int dX3_init_7 (by decide) (by show Ω.1 + 4 + 0 = Ω.1 + 4; rfl) (fun j => by exact hI _ (by decide) j) (fun j => hL _ j) ⟨Nat.le_of_ble_eq_true rfl, Nat.le_of_ble_eq_true rfl⟩ rfl ?_
  show V _ _ _ 1 6 z6 _ _ 9 _ (.ref (Ω.1 + 4) :: _)
  refine V_putR 9 z7 flX3_9 ft_3_1 dX3_init_9 rfl (by decide) (fun _ => ⟨rfl, _, rfl, rfl⟩) (fun _ => ⟨rfl, rfl⟩) rfl ?_
  refine V_aload_n 12 0 dX3_init_12 rfl ?_
  refine V_bip 13 12 dX3_init_13 rfl ?_
  refine V_newa 15 z8 (t := 0) (nn := 12) (at0 := .int) (by decide) rfl w_ar_int dX3_init_15 (by decide) (by show Ω.1 + 4 + 1 = Ω.1 + 5; rfl) (fun j => by exact hI _ (by decide) j) (fun j => hL _ j) ⟨Nat.le_of_ble_eq_true rfl, Nat.le_of_ble_eq_true rfl⟩ rfl ?_
  show V _ _ _ 2 18 z8 _ _ 17 _ (.ref (Ω.1 + 5) :: _)
  refine V_putR 17 z9 flX3_15 ft_3_3 dX3_init_17 rfl (by decide) (fun _ => ⟨rfl, _, rfl, rfl⟩) (fun _ => ⟨rfl, rfl⟩) rfl ?_
  refine V_aload_n 20 0 dX3_init_20 rfl ?_
  refine V_bip 21 12 dX3_init_21 rfl ?_
  refine V_newa 23 z10 (t := 0) (nn := 12) (at0 := .int) (by decide) rfl w_ar_int dX3_init_23 (by decide) (by show Ω.1 + 4 + 2 = Ω.1 + 6; rfl) (fun j => by exact hI _ (by decide) j) (fun j => hL _ j) ⟨Nat.le_of_ble_eq_true rfl, Nat.le_of_ble_eq_true rfl⟩ rfl ?_
  show V _ _ _ 3 30 z10 _ _ 25 _ (.ref (Ω.1 + 6) :: _)
  refine V_putR 25 z11 flX3_18 ft_3_4 dX3_init_25 rfl (by decide) (fun _ => ⟨rfl, _, rfl, rfl⟩) (fun _ => ⟨rfl, rfl⟩) rfl ?_
  refine V_aload_n 28 0 dX3_init_28 rfl ?_
  refine V_bip 29 12 dX3_init_29 rfl ?_
  refine V_newa 31 z12 (t := 0) (nn := 12) (at0 := .int) (by decide) rfl w_ar_int dX3_init_31 (by decide) (by show Ω.1 + 4 + 3 = Ω.1 + 7; rfl) (fun j => by exact hI _ (by decide) j) (fun j => hL _ j) ⟨Nat.le_of_ble_eq_true rfl, Nat.le_of_ble_eq_true rfl⟩ rfl ?_
  show V _ _ _ 4 42 z12 _ _ 33 _ (.ref (Ω.1 + 7) :: _)
  refine V_putR 33 z13 flX3_21 ft_3_5 dX3_init_33 rfl (by decide) (fun _ => ⟨rfl, _, rfl, rfl⟩) (fun _ => ⟨rfl, rfl⟩) rfl ?_
  refine V_aload_n 36 0 dX3_init_36 rfl ?_
  refine V_bip 37 12 dX3_init_37 rfl ?_
  refine V_newa 39 z14 (t := 0) (nn := 12) (at0 := .int) (by decide) rfl w_ar_int dX3_init_39 (by decide) (by show Ω.1 + 4 + 4 = Ω.1 + 8; rfl) (fun j => by exact hI _ (by decide) j) (fun j => hL _ j) ⟨Nat.le_of_ble_eq_true rfl, Nat.le_of_ble_eq_true rfl⟩ rfl ?_
  show V _ _ _ 5 54 z14 _ _ 41 _ (.ref (Ω.1 + 8) :: _)
  refine V_putR 41 z15 flX3_24 ft_3_7 dX3_init_41 rfl (by decide) (fun _ => ⟨rfl, _, rfl, rfl⟩) (fun _ => ⟨rfl, rfl⟩) rfl ?_
  refine V_aload_n 44 0 dX3_init_44 rfl ?_
  refine V_bip 45 12 dX3_init_45 rfl ?_
  refine V_newa 47 z16 (t := 0) (nn := 12) (at0 := .int) (by decide) rfl w_ar_int dX3_init_47 (by decide) (by show Ω.1 + 4 + 5 = Ω.1 + 9; rfl) (fun j => by exact hI _ (by decide) j) (fun j => hL _ j) ⟨Nat.le_of_ble_eq_true rfl, Nat.le_of_ble_eq_true rfl⟩ rfl ?_
  show V _ _ _ 6 66 z16 _ _ 49 _ (.ref (Ω.1 + 9) :: _)
  refine V_putR 49 z17 flX3_27 ft_3_8 dX3_init_49 rfl (by decide) (fun _ => ⟨rfl, _, rfl, rfl⟩) (fun _ => ⟨rfl, rfl⟩) rfl ?_
  refine V_aload_n 52 0 dX3_init_52 rfl ?_
  refine V_bip 53 12 dX3_init_53 rfl ?_
  refine V_newa 55 z18 (t := 0) (nn := 12) (at0 := .int) (by decide) rfl w_ar_int dX3_init_55 (by decide) (by show Ω.1 + 4 + 6 = Ω.1 + 10; rfl) (fun j => by exact hI _ (by decide) j) (fun j => hL _ j) ⟨Nat.le_of_ble_eq_true rfl, Nat.le_of_ble_eq_true rfl⟩ rfl ?_
  show V _ _ _ 7 78 z18 _ _ 57 _ (.ref (Ω.1 + 10) :: _)
  refine V_putR 57 z19 flX3_30 ft_3_9 dX3_init_57 rfl (by decide) (fun _ => ⟨rfl, _, rfl, rfl⟩) (fun _ => ⟨rfl, rfl⟩) rfl ?_
  refine V_aload_n 60 0 dX3_init_60 rfl ?_
  refine V_bip 61 12 dX3_init_61 rfl ?_
  refine V_newa 63 z20 (t := 0) (nn := 12) (at0 := .int) (by decide) rfl w_ar_int dX3_init_63 (by decide) (by show Ω.1 + 4 + 7 = Ω.1 + 11; rfl) (fun j => by exact hI _ (by decide) j) (fun j => hL _ j) ⟨Nat.le_of_ble_eq_true rfl, Nat.le_of_ble_eq_true rfl⟩ rfl ?_
  show V _ _ _ 8 90 z20 _ _ 65 _ (.ref (Ω.1 + 11) :: _)
  refine V_putR 65 z21 flX3_33 ft_3_10 dX3_init_65 rfl (by decide) (fun _ => ⟨rfl, _, rfl, rfl⟩) (fun _ => ⟨rfl, rfl⟩) rfl ?_
  refine V_aload_n 68 0 dX3_init_68 rfl ?_
  refine V_bip 69 12 dX3_init_69 rfl ?_
  refine V_newa 71 z22 (t := 0) (nn := 12) (at0 := .int) (by decide) rfl w_ar_int dX3_init_71 (by decide) (by show Ω.1 + 4 + 8 = Ω.1 + 12; rfl) (fun j => by exact hI _ (by decide) j) (fun j => hL _ j) ⟨Nat.le_of_ble_eq_true rfl, Nat.le_of_ble_eq_true rfl⟩ rfl ?_
  show V _ _ _ 9 102 z22 _ _ 73 _ (.ref (Ω.1 + 12) :: _)
  refine V_putR 73 z23 flX3_36 ft_3_11 dX3_init_73 rfl (by decide) (fun _ => ⟨rfl, _, rfl, rfl⟩) (fun _ => ⟨rfl, rfl⟩) rfl ?_
  refine V_aload_n 76 0 dX3_init_76 rfl ?_
  refine V_bip 77 12 dX3_init_77 rfl ?_
  refine V_newa 79 z24 (t := 0) (nn := 12) (at0 := .int) (by decide) rfl w_ar_int dX3_init_79 (by decide) (by show Ω.1 + 4 + 9 = Ω.1 + 13; rfl) (fun j => by exact hI _ (by decide) j) (fun j => hL _ j) ⟨Nat.le_of_ble_eq_true rfl, Nat.le_of_ble_eq_true rfl⟩ rfl ?_
  show V _ _ _ 10 114 z24 _ _ 81 _ (.ref (Ω.1 + 13) :: _)
  refine V_putR 81 z25 flX3_39 ft_3_12 dX3_init_81 rfl (by decide) (fun _ => ⟨rfl, _, rfl, rfl⟩) (fun _ => ⟨rfl, rfl⟩) rfl ?_
  refine V_aload_n 84 0 dX3_init_84 rfl ?_
  refine V_bip 85 13 dX3_init_85 rfl ?_
  refine V_newa 87 z26 (t := 0) (nn := 13) (at0 := .int) (by decide) rfl w_ar_int dX3_init_87 (by decide) (by show Ω.1 + 4 + 10 = Ω.1 + 14; rfl) (fun j => by exact hI _ (by decide) j) (fun j => hL _ j) ⟨Nat.le_of_ble_eq_true rfl, Nat.le_of_ble_eq_true rfl⟩ rfl ?_
  show V _ _ _ 11 127 z26 _ _ 89 _ (.ref (Ω.1 + 14) :: _)
  refine V_putR 89 z27 flX3_42 ft_3_13 dX3_init_89 rfl (by decide) (fun _ => ⟨rfl, _, rfl, rfl⟩) (fun _ => ⟨rfl, rfl⟩) rfl ?_
  refine V_aload_n 92 0 dX3_init_92 rfl ?_
  refine V_cst 93 2 dX3_init_93 rfl ?_
  refine V_putI 94 flX3_45 ft_3_0 dX3_init_94 rfl ?_
  refine V_aload_n 97 0 dX3_init_97 rfl ?_
  refine V_getR 98 flX3_9 dX3_init_98 rfl ?_
  refine V_cst 101 1 dX3_init_101 rfl ?_
  refine V_sv 102 msX3_49 dX3_init_102 (w_fit.mono (by omega) hE) (c_fill (d := d) (S := z27) (a := 4) (nn := 6) rfl (by decide)) rfl (Nat.le_of_ble_eq_true rfl) ?_
  rintro _ _ _ ⟨rfl, rfl, rfl⟩
  exact V_ret 105 dX3_init_105 rfl ⟨rfl, rfl, rfl⟩
set_option maxRecDepth 8192 in
theorem kt_2 {Ω : w_O} {d : Nat} {I : w_I} {L : w_L} (hI : ∀ i, 2 ≤ i → ∀ j, I i j = 0) (hL : ∀ i j, L i j = 0) : FnC Ω (d + 3 + 1) 12 142 mX4_init [.ref (Ω.1 + 2), .ref (Ω.1 + 1)] z4 I L (w_pv (fun S' I' L' => S' = z29 ∧ L = L' ∧ I' = (w_row (w_put I 3 0 2) 4 (w_fill 1 ((w_put I 3 0 2) 4) 6)))) := by
  refine FnC_of okX4_init (Nat.le_of_ble_eq_true rfl) fun l => ?_
  have hE : w_fit (d + 3) (w_Er l (d + 3 + 1) 12 142 Ω (w_pv (fun S' I' L' => S' = z29 ∧ L = L' ∧ I' = (w_row (w_put I 3 0 2) 4 (w_fill 1 ((w_put I 3 0 2) 4) 6)))) (Ω.1 + z4.length)) := w_fit_r
  show V _ _ _ _ _ _ _ _ 0 [(0, _), (1, _)] []
  refine V_aload_n 0 0 dX4_init_0 rfl ?_
  refine V_oinit 1 moX4_3 dX4_init_1 (w_fit.mono (by omega) hE) (Nat.le_of_ble_eq_true rfl) ?_
  refine V_aload_n 4 0 dX4_init_4 rfl ?_
  refine V_new 5 z5 w_nc3 clX4_9 ⟨_, rfl, rfl⟩ dX4_init_5 (by show Ω.1 + 3 + 0 = Ω.1 + 3; rfl) (fun j => by exact hI _ (by decide) j) (fun j => hL _ j) ⟨Nat.le_of_ble_eq_true rfl, Nat.le_of_ble_eq_true rfl⟩ rfl ?_
  show V _ _ _ 1 15 z5 _ _ 8 _ (.ref (Ω.1 + 3) :: _)
  refine V_dup 8 dX4_init_8 rfl ?_
  refine V_ci 9 (b := 3) (mc := 11) (ms := 127) miX4_11 dX4_init_9 (w_fit.mono (by omega) hE) (kt_3 (d := d) (fun i hi j => by exact hI i (by omega) j) hL) (by show Ω.1 + 3 + 1 = Ω.1 + 4; rfl) rfl (Nat.le_of_ble_eq_true rfl) ⟨Nat.le_of_ble_eq_true rfl, Nat.le_of_ble_eq_true rfl⟩ ?_
  rintro _ _ _ ⟨rfl, rfl, rfl⟩
  show V _ _ _ 12 142 z27 _ _ 12 _ _
  refine V_putR 12 z28 flX4_12 ft_4_1 dX4_init_12 rfl (by decide) (fun _ => ⟨rfl, _, rfl, rfl⟩) (fun _ => ⟨rfl, rfl⟩) rfl ?_
  refine V_aload_n 15 0 dX4_init_15 rfl ?_
  refine V_aload_n 16 1 dX4_init_16 rfl ?_
  refine V_putR 17 z29 flX4_18 ft_4_0 dX4_init_17 rfl (by decide) (fun _ => ⟨rfl, _, rfl, rfl⟩) (fun _ => ⟨rfl, rfl⟩) rfl ?_
  exact V_ret 20 dX4_init_20 rfl ⟨rfl, rfl, rfl⟩
set_option maxRecDepth 8192 in
theorem kt_15 {Ω : w_O} {d : Nat} {I : w_I} {L : w_L} (hI : ∀ i, 15 ≤ i → ∀ j, I i j = 0) (hL : ∀ i j, L i j = 0) : FnC Ω (d + 1 + 1) 11 127 mX3_init [.ref (Ω.1 + 15)] z31 I L (w_pv (fun S' I' L' => S' = z53 ∧ L = L' ∧ I' = (w_row (w_put I 15 0 2) 16 (w_fill 1 ((w_put I 15 0 2) 16) 6)))) := by
  refine FnC_of okX3_init (Nat.le_of_ble_eq_true rfl) fun l => ?_
  have hE : w_fit (d + 1) (w_Er l (d + 1 + 1) 11 127 Ω (w_pv (fun S' I' L' => S' = z53 ∧ L = L' ∧ I' = (w_row (w_put I 15 0 2) 16 (w_fill 1 ((w_put I 15 0 2) 16) 6)))) (Ω.1 + z31.length)) := w_fit_r
  show V _ _ _ _ _ _ _ _ 0 [(0, _)] []
  refine V_aload_n 0 0 dX3_init_0 rfl ?_
  refine V_oinit 1 moX3_3 dX3_init_1 (w_fit.mono (by omega) hE) (Nat.le_of_ble_eq_true rfl) ?_
  refine V_aload_n 4 0 dX3_init_4 rfl ?_
  refine V_bip 5 6 dX3_init_5 rfl ?_
  refine V_newa 7 z32 (t := 0) (nn := 6) (at0 := .int) (by decide) rfl w_ar_int dX3_init_7 (by decide) (by show Ω.1 + 16 + 0 = Ω.1 + 16; rfl) (fun j => by exact hI _ (by decide) j) (fun j => hL _ j) ⟨Nat.le_of_ble_eq_true rfl, Nat.le_of_ble_eq_true rfl⟩ rfl ?_
  show V _ _ _ 1 6 z32 _ _ 9 _ (.ref (Ω.1 + 16) :: _)
  refine V_putR 9 z33 flX3_9 ft_3_1 dX3_init_9 rfl (by decide) (fun _ => ⟨rfl, _, rfl, rfl⟩) (fun _ => ⟨rfl, rfl⟩) rfl ?_
  refine V_aload_n 12 0 dX3_init_12 rfl ?_
  refine V_bip 13 12 dX3_init_13 rfl ?_
  refine V_newa 15 z34 (t := 0) (nn := 12) (at0 := .int) (by decide) rfl w_ar_int dX3_init_15 (by decide) (by show Ω.1 + 16 + 1 = Ω.1 + 17; rfl) (fun j => by exact hI _ (by decide) j) (fun j => hL _ j) ⟨Nat.le_of_ble_eq_true rfl, Nat.le_of_ble_eq_true rfl⟩ rfl ?_
  show V _ _ _ 2 18 z34 _ _ 17 _ (.ref (Ω.1 + 17) :: _)
  refine V_putR 17 z35 flX3_15 ft_3_3 dX3_init_17 rfl (by decide) (fun _ => ⟨rfl, _, rfl, rfl⟩) (fun _ => ⟨rfl, rfl⟩) rfl ?_
  refine V_aload_n 20 0 dX3_init_20 rfl ?_
  refine V_bip 21 12 dX3_init_21 rfl ?_
  refine V_newa 23 z36 (t := 0) (nn := 12) (at0 := .int) (by decide) rfl w_ar_int dX3_init_23 (by decide) (by show Ω.1 + 16 + 2 = Ω.1 + 18; rfl) (fun j => by exact hI _ (by decide) j) (fun j => hL _ j) ⟨Nat.le_of_ble_eq_true rfl, Nat.le_of_ble_eq_true rfl⟩ rfl ?_
  show V _ _ _ 3 30 z36 _ _ 25 _ (.ref (Ω.1 + 18) :: _)
  refine V_putR 25 z37 flX3_18 ft_3_4 dX3_init_25 rfl (by decide) (fun _ => ⟨rfl, _, rfl, rfl⟩) (fun _ => ⟨rfl, rfl⟩) rfl ?_
  refine V_aload_n 28 0 dX3_init_28 rfl ?_
  refine V_bip 29 12 dX3_init_29 rfl ?_
  refine V_newa 31 z38 (t := 0) (nn := 12) (at0 := .int) (by decide) rfl w_ar_int dX3_init_31 (by decide) (by show Ω.1 + 16 + 3 = Ω.1 + 19; rfl) (fun j => by exact hI _ (by decide) j) (fun j => hL _ j) ⟨Nat.le_of_ble_eq_true rfl, Nat.le_of_ble_eq_true rfl⟩ rfl ?_
  show V _ _ _ 4 42 z38 _ _ 33 _ (.ref (Ω.1 + 19) :: _)
  refine V_putR 33 z39 flX3_21 ft_3_5 dX3_init_33 rfl (by decide) (fun _ => ⟨rfl, _, rfl, rfl⟩) (fun _ => ⟨rfl, rfl⟩) rfl ?_
  refine V_aload_n 36 0 dX3_init_36 rfl ?_
  refine V_bip 37 12 dX3_init_37 rfl ?_
  refine V_newa 39 z40 (t := 0) (nn := 12) (at0 := .int) (by decide) rfl w_ar_int dX3_init_39 (by decide) (by show Ω.1 + 16 + 4 = Ω.1 + 20; rfl) (fun j => by exact hI _ (by decide) j) (fun j => hL _ j) ⟨Nat.le_of_ble_eq_true rfl, Nat.le_of_ble_eq_true rfl⟩ rfl ?_
  show V _ _ _ 5 54 z40 _ _ 41 _ (.ref (Ω.1 + 20) :: _)
  refine V_putR 41 z41 flX3_24 ft_3_7 dX3_init_41 rfl (by decide) (fun _ => ⟨rfl, _, rfl, rfl⟩) (fun _ => ⟨rfl, rfl⟩) rfl ?_
  refine V_aload_n 44 0 dX3_init_44 rfl ?_
  refine V_bip 45 12 dX3_init_45 rfl ?_
  refine V_newa 47 z42 (t := 0) (nn := 12) (at0 := .int) (by decide) rfl w_ar_int dX3_init_47 (by decide) (by show Ω.1 + 16 + 5 = Ω.1 + 21; rfl) (fun j => by exact hI _ (by decide) j) (fun j => hL _ j) ⟨Nat.le_of_ble_eq_true rfl, Nat.le_of_ble_eq_true rfl⟩ rfl ?_
  show V _ _ _ 6 66 z42 _ _ 49 _ (.ref (Ω.1 + 21) :: _)
  refine V_putR 49 z43 flX3_27 ft_3_8 dX3_init_49 rfl (by decide) (fun _ => ⟨rfl, _, rfl, rfl⟩) (fun _ => ⟨rfl, rfl⟩) rfl ?_
  refine V_aload_n 52 0 dX3_init_52 rfl ?_
  refine V_bip 53 12 dX3_init_53 rfl ?_
  refine V_newa 55 z44 (t := 0) (nn := 12) (at0 := .int) (by decide) rfl w_ar_int dX3_init_55 (by decide) (by show Ω.1 + 16 + 6 = Ω.1 + 22; rfl) (fun j => by exact hI _ (by decide) j) (fun j => hL _ j) ⟨Nat.le_of_ble_eq_true rfl, Nat.le_of_ble_eq_true rfl⟩ rfl ?_
  show V _ _ _ 7 78 z44 _ _ 57 _ (.ref (Ω.1 + 22) :: _)
  refine V_putR 57 z45 flX3_30 ft_3_9 dX3_init_57 rfl (by decide) (fun _ => ⟨rfl, _, rfl, rfl⟩) (fun _ => ⟨rfl, rfl⟩) rfl ?_
  refine V_aload_n 60 0 dX3_init_60 rfl ?_
  refine V_bip 61 12 dX3_init_61 rfl ?_
  refine V_newa 63 z46 (t := 0) (nn := 12) (at0 := .int) (by decide) rfl w_ar_int dX3_init_63 (by decide) (by show Ω.1 + 16 + 7 = Ω.1 + 23; rfl) (fun j => by exact hI _ (by decide) j) (fun j => hL _ j) ⟨Nat.le_of_ble_eq_true rfl, Nat.le_of_ble_eq_true rfl⟩ rfl ?_
  show V _ _ _ 8 90 z46 _ _ 65 _ (.ref (Ω.1 + 23) :: _)
  refine V_putR 65 z47 flX3_33 ft_3_10 dX3_init_65 rfl (by decide) (fun _ => ⟨rfl, _, rfl, rfl⟩) (fun _ => ⟨rfl, rfl⟩) rfl ?_
  refine V_aload_n 68 0 dX3_init_68 rfl ?_
  refine V_bip 69 12 dX3_init_69 rfl ?_
  refine V_newa 71 z48 (t := 0) (nn := 12) (at0 := .int) (by decide) rfl w_ar_int dX3_init_71 (by decide) (by show Ω.1 + 16 + 8 = Ω.1 + 24; rfl) (fun j => by exact hI _ (by decide) j) (fun j => hL _ j) ⟨Nat.le_of_ble_eq_true rfl, Nat.le_of_ble_eq_true rfl⟩ rfl ?_
  show V _ _ _ 9 102 z48 _ _ 73 _ (.ref (Ω.1 + 24) :: _)
  refine V_putR 73 z49 flX3_36 ft_3_11 dX3_init_73 rfl (by decide) (fun _ => ⟨rfl, _, rfl, rfl⟩) (fun _ => ⟨rfl, rfl⟩) rfl ?_
  refine V_aload_n 76 0 dX3_init_76 rfl ?_
  refine V_bip 77 12 dX3_init_77 rfl ?_
  refine V_newa 79 z50 (t := 0) (nn := 12) (at0 := .int) (by decide) rfl w_ar_int dX3_init_79 (by decide) (by show Ω.1 + 16 + 9 = Ω.1 + 25; rfl) (fun j => by exact hI _ (by decide) j) (fun j => hL _ j) ⟨Nat.le_of_ble_eq_true rfl, Nat.le_of_ble_eq_true rfl⟩ rfl ?_
  show V _ _ _ 10 114 z50 _ _ 81 _ (.ref (Ω.1 + 25) :: _)
  refine V_putR 81 z51 flX3_39 ft_3_12 dX3_init_81 rfl (by decide) (fun _ => ⟨rfl, _, rfl, rfl⟩) (fun _ => ⟨rfl, rfl⟩) rfl ?_
  refine V_aload_n 84 0 dX3_init_84 rfl ?_
  refine V_bip 85 13 dX3_init_85 rfl ?_
  refine V_newa 87 z52 (t := 0) (nn := 13) (at0 := .int) (by decide) rfl w_ar_int dX3_init_87 (by decide) (by show Ω.1 + 16 + 10 = Ω.1 + 26; rfl) (fun j => by exact hI _ (by decide) j) (fun j => hL _ j) ⟨Nat.le_of_ble_eq_true rfl, Nat.le_of_ble_eq_true rfl⟩ rfl ?_
  show V _ _ _ 11 127 z52 _ _ 89 _ (.ref (Ω.1 + 26) :: _)
  refine V_putR 89 z53 flX3_42 ft_3_13 dX3_init_89 rfl (by decide) (fun _ => ⟨rfl, _, rfl, rfl⟩) (fun _ => ⟨rfl, rfl⟩) rfl ?_
  refine V_aload_n 92 0 dX3_init_92 rfl ?_
  refine V_cst 93 2 dX3_init_93 rfl ?_
  refine V_putI 94 flX3_45 ft_3_0 dX3_init_94 rfl ?_
  refine V_aload_n 97 0 dX3_init_97 rfl ?_
  refine V_getR 98 flX3_9 dX3_init_98 rfl ?_
  refine V_cst 101 1 dX3_init_101 rfl ?_
  refine V_sv 102 msX3_49 dX3_init_102 (w_fit.mono (by omega) hE) (c_fill (d := d) (S := z53) (a := 16) (nn := 6) rfl (by decide)) rfl (Nat.le_of_ble_eq_true rfl) ?_
  rintro _ _ _ ⟨rfl, rfl, rfl⟩
  exact V_ret 105 dX3_init_105 rfl ⟨rfl, rfl, rfl⟩
set_option maxRecDepth 8192 in
theorem kt_27 {Ω : w_O} {d : Nat} {I : w_I} {L : w_L} (hI : ∀ i, 27 ≤ i → ∀ j, I i j = 0) (hL : ∀ i j, L i j = 0) : FnC Ω (d + 1) 6 313 mX5_init [.ref (Ω.1 + 27)] z55 I L (w_pv (fun S' I' L' => S' = z67 ∧ L = L' ∧ I' = I)) := by
  refine FnC_of okX5_init (Nat.le_of_ble_eq_true rfl) fun l => ?_
  have hE : w_fit (d) (w_Er l (d + 1) 6 313 Ω (w_pv (fun S' I' L' => S' = z67 ∧ L = L' ∧ I' = I)) (Ω.1 + z55.length)) := w_fit_r
  show V _ _ _ _ _ _ _ _ 0 [(0, _)] []
  refine V_aload_n 0 0 dX5_init_0 rfl ?_
  refine V_oinit 1 moX5_3 dX5_init_1 (w_fit.mono (by omega) hE) (Nat.le_of_ble_eq_true rfl) ?_
  refine V_aload_n 4 0 dX5_init_4 rfl ?_
  refine V_bip 5 60 dX5_init_5 rfl ?_
  refine V_newa 7 z56 (t := 0) (nn := 60) (at0 := .int) (by decide) rfl w_ar_int dX5_init_7 (by decide) (by show Ω.1 + 28 + 0 = Ω.1 + 28; rfl) (fun j => by exact hI _ (by decide) j) (fun j => hL _ j) ⟨Nat.le_of_ble_eq_true rfl, Nat.le_of_ble_eq_true rfl⟩ rfl ?_
  show V _ _ _ 1 60 z56 _ _ 9 _ (.ref (Ω.1 + 28) :: _)
  refine V_putR 9 z57 flX5_9 ft_5_1 dX5_init_9 rfl (by decide) (fun _ => ⟨rfl, _, rfl, rfl⟩) (fun _ => ⟨rfl, rfl⟩) rfl ?_
  refine V_aload_n 12 0 dX5_init_12 rfl ?_
  refine V_bip 13 60 dX5_init_13 rfl ?_
  refine V_newa 15 z58 (t := 0) (nn := 60) (at0 := .int) (by decide) rfl w_ar_int dX5_init_15 (by decide) (by show Ω.1 + 28 + 1 = Ω.1 + 29; rfl) (fun j => by exact hI _ (by decide) j) (fun j => hL _ j) ⟨Nat.le_of_ble_eq_true rfl, Nat.le_of_ble_eq_true rfl⟩ rfl ?_
  show V _ _ _ 2 120 z58 _ _ 17 _ (.ref (Ω.1 + 29) :: _)
  refine V_putR 17 z59 flX5_15 ft_5_2 dX5_init_17 rfl (by decide) (fun _ => ⟨rfl, _, rfl, rfl⟩) (fun _ => ⟨rfl, rfl⟩) rfl ?_
  refine V_aload_n 20 0 dX5_init_20 rfl ?_
  refine V_bip 21 60 dX5_init_21 rfl ?_
  refine V_newa 23 z60 (t := 0) (nn := 60) (at0 := .int) (by decide) rfl w_ar_int dX5_init_23 (by decide) (by show Ω.1 + 28 + 2 = Ω.1 + 30; rfl) (fun j => by exact hI _ (by decide) j) (fun j => hL _ j) ⟨Nat.le_of_ble_eq_true rfl, Nat.le_of_ble_eq_true rfl⟩ rfl ?_
  show V _ _ _ 3 180 z60 _ _ 25 _ (.ref (Ω.1 + 30) :: _)
  refine V_putR 25 z61 flX5_18 ft_5_3 dX5_init_25 rfl (by decide) (fun _ => ⟨rfl, _, rfl, rfl⟩) (fun _ => ⟨rfl, rfl⟩) rfl ?_
  refine V_aload_n 28 0 dX5_init_28 rfl ?_
  refine V_bip 29 60 dX5_init_29 rfl ?_
  refine V_newa 31 z62 (t := 0) (nn := 60) (at0 := .int) (by decide) rfl w_ar_int dX5_init_31 (by decide) (by show Ω.1 + 28 + 3 = Ω.1 + 31; rfl) (fun j => by exact hI _ (by decide) j) (fun j => hL _ j) ⟨Nat.le_of_ble_eq_true rfl, Nat.le_of_ble_eq_true rfl⟩ rfl ?_
  show V _ _ _ 4 240 z62 _ _ 33 _ (.ref (Ω.1 + 31) :: _)
  refine V_putR 33 z63 flX5_21 ft_5_4 dX5_init_33 rfl (by decide) (fun _ => ⟨rfl, _, rfl, rfl⟩) (fun _ => ⟨rfl, rfl⟩) rfl ?_
  refine V_aload_n 36 0 dX5_init_36 rfl ?_
  refine V_bip 37 60 dX5_init_37 rfl ?_
  refine V_newa 39 z64 (t := 0) (nn := 60) (at0 := .int) (by decide) rfl w_ar_int dX5_init_39 (by decide) (by show Ω.1 + 28 + 4 = Ω.1 + 32; rfl) (fun j => by exact hI _ (by decide) j) (fun j => hL _ j) ⟨Nat.le_of_ble_eq_true rfl, Nat.le_of_ble_eq_true rfl⟩ rfl ?_
  show V _ _ _ 5 300 z64 _ _ 41 _ (.ref (Ω.1 + 32) :: _)
  refine V_putR 41 z65 flX5_24 ft_5_5 dX5_init_41 rfl (by decide) (fun _ => ⟨rfl, _, rfl, rfl⟩) (fun _ => ⟨rfl, rfl⟩) rfl ?_
  refine V_aload_n 44 0 dX5_init_44 rfl ?_
  refine V_bip 45 13 dX5_init_45 rfl ?_
  refine V_newa 47 z66 (t := 0) (nn := 13) (at0 := .int) (by decide) rfl w_ar_int dX5_init_47 (by decide) (by show Ω.1 + 28 + 5 = Ω.1 + 33; rfl) (fun j => by exact hI _ (by decide) j) (fun j => hL _ j) ⟨Nat.le_of_ble_eq_true rfl, Nat.le_of_ble_eq_true rfl⟩ rfl ?_
  show V _ _ _ 6 313 z66 _ _ 49 _ (.ref (Ω.1 + 33) :: _)
  refine V_putR 49 z67 flX5_27 ft_5_6 dX5_init_49 rfl (by decide) (fun _ => ⟨rfl, _, rfl, rfl⟩) (fun _ => ⟨rfl, rfl⟩) rfl ?_
  exact V_ret 52 dX5_init_52 rfl ⟨rfl, rfl, rfl⟩
set_option maxRecDepth 8192 in
theorem kt_34 {Ω : w_O} {d : Nat} {I : w_I} {L : w_L} (hI : ∀ i, 34 ≤ i → ∀ j, I i j = 0) (hL : ∀ i j, L i j = 0) : FnC Ω (d + 1 + 1) 3 36 mX0_init [.ref (Ω.1 + 34), .ref (Ω.1 + 15)] z69 I L (w_pv (fun S' I' L' => S' = z76 ∧ L = L' ∧ I' = (w_row I 35 (w_fill 4294967295 (I 35) 12)))) := by
  refine FnC_of okX0_init (Nat.le_of_ble_eq_true rfl) fun l => ?_
  have hE : w_fit (d + 1) (w_Er l (d + 1 + 1) 3 36 Ω (w_pv (fun S' I' L' => S' = z76 ∧ L = L' ∧ I' = (w_row I 35 (w_fill 4294967295 (I 35) 12)))) (Ω.1 + z69.length)) := w_fit_r
  show V _ _ _ _ _ _ _ _ 0 [(0, _), (1, _)] []
  refine V_aload_n 0 0 dX0_init_0 rfl ?_
  refine V_oinit 1 moX0_3 dX0_init_1 (w_fit.mono (by omega) hE) (Nat.le_of_ble_eq_true rfl) ?_
  refine V_aload_n 4 0 dX0_init_4 rfl ?_
  refine V_bip 5 12 dX0_init_5 rfl ?_
  refine V_newa 7 z70 (t := 0) (nn := 12) (at0 := .int) (by decide) rfl w_ar_int dX0_init_7 (by decide) (by show Ω.1 + 35 + 0 = Ω.1 + 35; rfl) (fun j => by exact hI _ (by decide) j) (fun j => hL _ j) ⟨Nat.le_of_ble_eq_true rfl, Nat.le_of_ble_eq_true rfl⟩ rfl ?_
  show V _ _ _ 1 12 z70 _ _ 9 _ (.ref (Ω.1 + 35) :: _)
  refine V_putR 9 z71 flX0_9 ft_0_8 dX0_init_9 rfl (by decide) (fun _ => ⟨rfl, _, rfl, rfl⟩) (fun _ => ⟨rfl, rfl⟩) rfl ?_
  refine V_aload_n 12 0 dX0_init_12 rfl ?_
  refine V_bip 13 12 dX0_init_13 rfl ?_
  refine V_newa 15 z72 (t := 0) (nn := 12) (at0 := .int) (by decide) rfl w_ar_int dX0_init_15 (by decide) (by show Ω.1 + 35 + 1 = Ω.1 + 36; rfl) (fun j => by exact hI _ (by decide) j) (fun j => hL _ j) ⟨Nat.le_of_ble_eq_true rfl, Nat.le_of_ble_eq_true rfl⟩ rfl ?_
  show V _ _ _ 2 24 z72 _ _ 17 _ (.ref (Ω.1 + 36) :: _)
  refine V_putR 17 z73 flX0_15 ft_0_9 dX0_init_17 rfl (by decide) (fun _ => ⟨rfl, _, rfl, rfl⟩) (fun _ => ⟨rfl, rfl⟩) rfl ?_
  refine V_aload_n 20 0 dX0_init_20 rfl ?_
  refine V_bip 21 12 dX0_init_21 rfl ?_
  refine V_newa 23 z74 (t := 0) (nn := 12) (at0 := .int) (by decide) rfl w_ar_int dX0_init_23 (by decide) (by show Ω.1 + 35 + 2 = Ω.1 + 37; rfl) (fun j => by exact hI _ (by decide) j) (fun j => hL _ j) ⟨Nat.le_of_ble_eq_true rfl, Nat.le_of_ble_eq_true rfl⟩ rfl ?_
  show V _ _ _ 3 36 z74 _ _ 25 _ (.ref (Ω.1 + 37) :: _)
  refine V_putR 25 z75 flX0_18 ft_0_10 dX0_init_25 rfl (by decide) (fun _ => ⟨rfl, _, rfl, rfl⟩) (fun _ => ⟨rfl, rfl⟩) rfl ?_
  refine V_aload_n 28 0 dX0_init_28 rfl ?_
  refine V_aload_n 29 1 dX0_init_29 rfl ?_
  refine V_putR 30 z76 flX0_21 ft_0_0 dX0_init_30 rfl (by decide) (fun _ => ⟨rfl, _, rfl, rfl⟩) (fun _ => ⟨rfl, rfl⟩) rfl ?_
  refine V_aload_n 33 0 dX0_init_33 rfl ?_
  refine V_getR 34 flX0_9 dX0_init_34 rfl ?_
  refine V_cst 37 4294967295 dX0_init_37 rfl ?_
  refine V_sv 38 msX0_25 dX0_init_38 (w_fit.mono (by omega) hE) (c_fill (d := d) (S := z76) (a := 35) (nn := 12) rfl (by decide)) rfl (Nat.le_of_ble_eq_true rfl) ?_
  rintro _ _ _ ⟨rfl, rfl, rfl⟩
  exact V_ret 41 dX0_init_41 rfl ⟨rfl, rfl, rfl⟩
set_option maxRecDepth 8192 in
theorem kt_39 {Ω : w_O} {d : Nat} {I : w_I} {L : w_L} (hI : ∀ i, 39 ≤ i → ∀ j, I i j = 0) (hL : ∀ i j, L i j = 0) : FnC Ω (d + 1) 6 313 mX5_init [.ref (Ω.1 + 39)] z79 I L (w_pv (fun S' I' L' => S' = z91 ∧ L = L' ∧ I' = I)) := by
  refine FnC_of okX5_init (Nat.le_of_ble_eq_true rfl) fun l => ?_
  have hE : w_fit (d) (w_Er l (d + 1) 6 313 Ω (w_pv (fun S' I' L' => S' = z91 ∧ L = L' ∧ I' = I)) (Ω.1 + z79.length)) := w_fit_r
  show V _ _ _ _ _ _ _ _ 0 [(0, _)] []
  refine V_aload_n 0 0 dX5_init_0 rfl ?_
  refine V_oinit 1 moX5_3 dX5_init_1 (w_fit.mono (by omega) hE) (Nat.le_of_ble_eq_true rfl) ?_
  refine V_aload_n 4 0 dX5_init_4 rfl ?_
  refine V_bip 5 60 dX5_init_5 rfl ?_
  refine V_newa 7 z80 (t := 0) (nn := 60) (at0 := .int) (by decide) rfl w_ar_int dX5_init_7 (by decide) (by show Ω.1 + 40 + 0 = Ω.1 + 40; rfl) (fun j => by exact hI _ (by decide) j) (fun j => hL _ j) ⟨Nat.le_of_ble_eq_true rfl, Nat.le_of_ble_eq_true rfl⟩ rfl ?_
  show V _ _ _ 1 60 z80 _ _ 9 _ (.ref (Ω.1 + 40) :: _)
  refine V_putR 9 z81 flX5_9 ft_5_1 dX5_init_9 rfl (by decide) (fun _ => ⟨rfl, _, rfl, rfl⟩) (fun _ => ⟨rfl, rfl⟩) rfl ?_
  refine V_aload_n 12 0 dX5_init_12 rfl ?_
  refine V_bip 13 60 dX5_init_13 rfl ?_
  refine V_newa 15 z82 (t := 0) (nn := 60) (at0 := .int) (by decide) rfl w_ar_int dX5_init_15 (by decide) (by show Ω.1 + 40 + 1 = Ω.1 + 41; rfl) (fun j => by exact hI _ (by decide) j) (fun j => hL _ j) ⟨Nat.le_of_ble_eq_true rfl, Nat.le_of_ble_eq_true rfl⟩ rfl ?_
  show V _ _ _ 2 120 z82 _ _ 17 _ (.ref (Ω.1 + 41) :: _)
  refine V_putR 17 z83 flX5_15 ft_5_2 dX5_init_17 rfl (by decide) (fun _ => ⟨rfl, _, rfl, rfl⟩) (fun _ => ⟨rfl, rfl⟩) rfl ?_
  refine V_aload_n 20 0 dX5_init_20 rfl ?_
  refine V_bip 21 60 dX5_init_21 rfl ?_
  refine V_newa 23 z84 (t := 0) (nn := 60) (at0 := .int) (by decide) rfl w_ar_int dX5_init_23 (by decide) (by show Ω.1 + 40 + 2 = Ω.1 + 42; rfl) (fun j => by exact hI _ (by decide) j) (fun j => hL _ j) ⟨Nat.le_of_ble_eq_true rfl, Nat.le_of_ble_eq_true rfl⟩ rfl ?_
  show V _ _ _ 3 180 z84 _ _ 25 _ (.ref (Ω.1 + 42) :: _)
  refine V_putR 25 z85 flX5_18 ft_5_3 dX5_init_25 rfl (by decide) (fun _ => ⟨rfl, _, rfl, rfl⟩) (fun _ => ⟨rfl, rfl⟩) rfl ?_
  refine V_aload_n 28 0 dX5_init_28 rfl ?_
  refine V_bip 29 60 dX5_init_29 rfl ?_
  refine V_newa 31 z86 (t := 0) (nn := 60) (at0 := .int) (by decide) rfl w_ar_int dX5_init_31 (by decide) (by show Ω.1 + 40 + 3 = Ω.1 + 43; rfl) (fun j => by exact hI _ (by decide) j) (fun j => hL _ j) ⟨Nat.le_of_ble_eq_true rfl, Nat.le_of_ble_eq_true rfl⟩ rfl ?_
  show V _ _ _ 4 240 z86 _ _ 33 _ (.ref (Ω.1 + 43) :: _)
  refine V_putR 33 z87 flX5_21 ft_5_4 dX5_init_33 rfl (by decide) (fun _ => ⟨rfl, _, rfl, rfl⟩) (fun _ => ⟨rfl, rfl⟩) rfl ?_
  refine V_aload_n 36 0 dX5_init_36 rfl ?_
  refine V_bip 37 60 dX5_init_37 rfl ?_
  refine V_newa 39 z88 (t := 0) (nn := 60) (at0 := .int) (by decide) rfl w_ar_int dX5_init_39 (by decide) (by show Ω.1 + 40 + 4 = Ω.1 + 44; rfl) (fun j => by exact hI _ (by decide) j) (fun j => hL _ j) ⟨Nat.le_of_ble_eq_true rfl, Nat.le_of_ble_eq_true rfl⟩ rfl ?_
  show V _ _ _ 5 300 z88 _ _ 41 _ (.ref (Ω.1 + 44) :: _)
  refine V_putR 41 z89 flX5_24 ft_5_5 dX5_init_41 rfl (by decide) (fun _ => ⟨rfl, _, rfl, rfl⟩) (fun _ => ⟨rfl, rfl⟩) rfl ?_
  refine V_aload_n 44 0 dX5_init_44 rfl ?_
  refine V_bip 45 13 dX5_init_45 rfl ?_
  refine V_newa 47 z90 (t := 0) (nn := 13) (at0 := .int) (by decide) rfl w_ar_int dX5_init_47 (by decide) (by show Ω.1 + 40 + 5 = Ω.1 + 45; rfl) (fun j => by exact hI _ (by decide) j) (fun j => hL _ j) ⟨Nat.le_of_ble_eq_true rfl, Nat.le_of_ble_eq_true rfl⟩ rfl ?_
  show V _ _ _ 6 313 z90 _ _ 49 _ (.ref (Ω.1 + 45) :: _)
  refine V_putR 49 z91 flX5_27 ft_5_6 dX5_init_49 rfl (by decide) (fun _ => ⟨rfl, _, rfl, rfl⟩) (fun _ => ⟨rfl, rfl⟩) rfl ?_
  exact V_ret 52 dX5_init_52 rfl ⟨rfl, rfl, rfl⟩
set_option maxRecDepth 8192 in
theorem kt_46 {Ω : w_O} {d : Nat} {I : w_I} {L : w_L} (hI : ∀ i, 46 ≤ i → ∀ j, I i j = 0) (hL : ∀ i j, L i j = 0) : FnC Ω (d + 1 + 1) 3 36 mX0_init [.ref (Ω.1 + 46), .ref (Ω.1 + 15)] z93 I L (w_pv (fun S' I' L' => S' = z100 ∧ L = L' ∧ I' = (w_row I 47 (w_fill 4294967295 (I 47) 12)))) := by
  refine FnC_of okX0_init (Nat.le_of_ble_eq_true rfl) fun l => ?_
  have hE : w_fit (d + 1) (w_Er l (d + 1 + 1) 3 36 Ω (w_pv (fun S' I' L' => S' = z100 ∧ L = L' ∧ I' = (w_row I 47 (w_fill 4294967295 (I 47) 12)))) (Ω.1 + z93.length)) := w_fit_r
  show V _ _ _ _ _ _ _ _ 0 [(0, _), (1, _)] []
  refine V_aload_n 0 0 dX0_init_0 rfl ?_
  refine V_oinit 1 moX0_3 dX0_init_1 (w_fit.mono (by omega) hE) (Nat.le_of_ble_eq_true rfl) ?_
  refine V_aload_n 4 0 dX0_init_4 rfl ?_
  refine V_bip 5 12 dX0_init_5 rfl ?_
  refine V_newa 7 z94 (t := 0) (nn := 12) (at0 := .int) (by decide) rfl w_ar_int dX0_init_7 (by decide) (by show Ω.1 + 47 + 0 = Ω.1 + 47; rfl) (fun j => by exact hI _ (by decide) j) (fun j => hL _ j) ⟨Nat.le_of_ble_eq_true rfl, Nat.le_of_ble_eq_true rfl⟩ rfl ?_
  show V _ _ _ 1 12 z94 _ _ 9 _ (.ref (Ω.1 + 47) :: _)
  refine V_putR 9 z95 flX0_9 ft_0_8 dX0_init_9 rfl (by decide) (fun _ => ⟨rfl, _, rfl, rfl⟩) (fun _ => ⟨rfl, rfl⟩) rfl ?_
  refine V_aload_n 12 0 dX0_init_12 rfl ?_
  refine V_bip 13 12 dX0_init_13 rfl ?_
  refine V_newa 15 z96 (t := 0) (nn := 12) (at0 := .int) (by decide) rfl w_ar_int dX0_init_15 (by decide) (by show Ω.1 + 47 + 1 = Ω.1 + 48; rfl) (fun j => by exact hI _ (by decide) j) (fun j => hL _ j) ⟨Nat.le_of_ble_eq_true rfl, Nat.le_of_ble_eq_true rfl⟩ rfl ?_
  show V _ _ _ 2 24 z96 _ _ 17 _ (.ref (Ω.1 + 48) :: _)
  refine V_putR 17 z97 flX0_15 ft_0_9 dX0_init_17 rfl (by decide) (fun _ => ⟨rfl, _, rfl, rfl⟩) (fun _ => ⟨rfl, rfl⟩) rfl ?_
  refine V_aload_n 20 0 dX0_init_20 rfl ?_
  refine V_bip 21 12 dX0_init_21 rfl ?_
  refine V_newa 23 z98 (t := 0) (nn := 12) (at0 := .int) (by decide) rfl w_ar_int dX0_init_23 (by decide) (by show Ω.1 + 47 + 2 = Ω.1 + 49; rfl) (fun j => by exact hI _ (by decide) j) (fun j => hL _ j) ⟨Nat.le_of_ble_eq_true rfl, Nat.le_of_ble_eq_true rfl⟩ rfl ?_
  show V _ _ _ 3 36 z98 _ _ 25 _ (.ref (Ω.1 + 49) :: _)
  refine V_putR 25 z99 flX0_18 ft_0_10 dX0_init_25 rfl (by decide) (fun _ => ⟨rfl, _, rfl, rfl⟩) (fun _ => ⟨rfl, rfl⟩) rfl ?_
  refine V_aload_n 28 0 dX0_init_28 rfl ?_
  refine V_aload_n 29 1 dX0_init_29 rfl ?_
  refine V_putR 30 z100 flX0_21 ft_0_0 dX0_init_30 rfl (by decide) (fun _ => ⟨rfl, _, rfl, rfl⟩) (fun _ => ⟨rfl, rfl⟩) rfl ?_
  refine V_aload_n 33 0 dX0_init_33 rfl ?_
  refine V_getR 34 flX0_9 dX0_init_34 rfl ?_
  refine V_cst 37 4294967295 dX0_init_37 rfl ?_
  refine V_sv 38 msX0_25 dX0_init_38 (w_fit.mono (by omega) hE) (c_fill (d := d) (S := z100) (a := 47) (nn := 12) rfl (by decide)) rfl (Nat.le_of_ble_eq_true rfl) ?_
  rintro _ _ _ ⟨rfl, rfl, rfl⟩
  exact V_ret 41 dX0_init_41 rfl ⟨rfl, rfl, rfl⟩
set_option maxRecDepth 8192 in
theorem kt_38 {Ω : w_O} {d : Nat} {I : w_I} {L : w_L} (hI : ∀ i, 38 ≤ i → ∀ j, I i j = 0) (hL : ∀ i j, L i j = 0) : FnC Ω (d + 3 + 1) 11 367 mX1_init [.ref (Ω.1 + 38), .ref (Ω.1 + 15)] z78 I L (w_pv (fun S' I' L' => S' = z101 ∧ L = L' ∧ I' = (w_row I 47 (w_fill 4294967295 (I 47) 12)))) := by
  refine FnC_of okX1_init (Nat.le_of_ble_eq_true rfl) fun l => ?_
  have hE : w_fit (d + 3) (w_Er l (d + 3 + 1) 11 367 Ω (w_pv (fun S' I' L' => S' = z101 ∧ L = L' ∧ I' = (w_row I 47 (w_fill 4294967295 (I 47) 12)))) (Ω.1 + z78.length)) := w_fit_r
  show V _ _ _ _ _ _ _ _ 0 [(0, _), (1, _)] []
  refine V_aload_n 0 0 dX1_init_0 rfl ?_
  refine V_oinit 1 moX1_1 dX1_init_1 (w_fit.mono (by omega) hE) (Nat.le_of_ble_eq_true rfl) ?_
  refine V_aload_n 4 0 dX1_init_4 rfl ?_
  refine V_new 5 z79 w_nc5 clX1_7 ⟨_, rfl, rfl⟩ dX1_init_5 (by show Ω.1 + 39 + 0 = Ω.1 + 39; rfl) (fun j => by exact hI _ (by decide) j) (fun j => hL _ j) ⟨Nat.le_of_ble_eq_true rfl, Nat.le_of_ble_eq_true rfl⟩ rfl ?_
  show V _ _ _ 1 7 z79 _ _ 8 _ (.ref (Ω.1 + 39) :: _)
  refine V_dup 8 dX1_init_8 rfl ?_
  refine V_cn 9 (b := 39) (mc := 6) (ms := 313) miX1_9 dX1_init_9 (w_fit.mono (by omega) hE) (kt_39 (d := d) (fun i hi j => by exact hI i (by omega) j) hL) (by show Ω.1 + 39 + 1 = Ω.1 + 40; rfl) rfl (Nat.le_of_ble_eq_true rfl) ⟨Nat.le_of_ble_eq_true rfl, Nat.le_of_ble_eq_true rfl⟩ ?_
  rintro _ _ _ ⟨rfl, rfl, rfl⟩
  show V _ _ _ 7 320 z91 _ _ 12 _ _
  refine V_putR 12 z92 flX1_10 ft_1_2 dX1_init_12 rfl (by decide) (fun _ => ⟨rfl, _, rfl, rfl⟩) (fun _ => ⟨rfl, rfl⟩) rfl ?_
  refine V_aload_n 15 0 dX1_init_15 rfl ?_
  refine V_new 16 z93 w_nc0 clX1_16 ⟨_, rfl, rfl⟩ dX1_init_16 (by show Ω.1 + 39 + 7 = Ω.1 + 46; rfl) (fun j => by exact hI _ (by decide) j) (fun j => hL _ j) ⟨Nat.le_of_ble_eq_true rfl, Nat.le_of_ble_eq_true rfl⟩ rfl ?_
  show V _ _ _ 8 331 z93 _ _ 19 _ (.ref (Ω.1 + 46) :: _)
  refine V_dup 19 dX1_init_19 rfl ?_
  refine V_aload_n 20 1 dX1_init_20 rfl ?_
  refine V_ci 21 (b := 46) (mc := 3) (ms := 36) miX1_18 dX1_init_21 (w_fit.mono (by omega) hE) (kt_46 (d := d) (fun i hi j => by exact hI i (by omega) j) hL) (by show Ω.1 + 39 + 8 = Ω.1 + 47; rfl) rfl (Nat.le_of_ble_eq_true rfl) ⟨Nat.le_of_ble_eq_true rfl, Nat.le_of_ble_eq_true rfl⟩ ?_
  rintro _ _ _ ⟨rfl, rfl, rfl⟩
  show V _ _ _ 11 367 z100 _ _ 24 _ _
  refine V_putR 24 z101 flX1_21 ft_1_1 dX1_init_24 rfl (by decide) (fun _ => ⟨rfl, _, rfl, rfl⟩) (fun _ => ⟨rfl, rfl⟩) rfl ?_
  exact V_ret 27 dX1_init_27 rfl ⟨rfl, rfl, rfl⟩
set_option maxRecDepth 8192 in
theorem kt_54 {Ω : w_O} {d : Nat} {I : w_I} {L : w_L} (hI : ∀ i, 54 ≤ i → ∀ j, I i j = 0) (hL : ∀ i j, L i j = 0) : FnC Ω (d + 1 + 1) 3 36 mX0_init [.ref (Ω.1 + 54), .ref (Ω.1 + 15)] z111 I L (w_pv (fun S' I' L' => S' = z118 ∧ L = L' ∧ I' = (w_row I 55 (w_fill 4294967295 (I 55) 12)))) := by
  refine FnC_of okX0_init (Nat.le_of_ble_eq_true rfl) fun l => ?_
  have hE : w_fit (d + 1) (w_Er l (d + 1 + 1) 3 36 Ω (w_pv (fun S' I' L' => S' = z118 ∧ L = L' ∧ I' = (w_row I 55 (w_fill 4294967295 (I 55) 12)))) (Ω.1 + z111.length)) := w_fit_r
  show V _ _ _ _ _ _ _ _ 0 [(0, _), (1, _)] []
  refine V_aload_n 0 0 dX0_init_0 rfl ?_
  refine V_oinit 1 moX0_3 dX0_init_1 (w_fit.mono (by omega) hE) (Nat.le_of_ble_eq_true rfl) ?_
  refine V_aload_n 4 0 dX0_init_4 rfl ?_
  refine V_bip 5 12 dX0_init_5 rfl ?_
  refine V_newa 7 z112 (t := 0) (nn := 12) (at0 := .int) (by decide) rfl w_ar_int dX0_init_7 (by decide) (by show Ω.1 + 55 + 0 = Ω.1 + 55; rfl) (fun j => by exact hI _ (by decide) j) (fun j => hL _ j) ⟨Nat.le_of_ble_eq_true rfl, Nat.le_of_ble_eq_true rfl⟩ rfl ?_
  show V _ _ _ 1 12 z112 _ _ 9 _ (.ref (Ω.1 + 55) :: _)
  refine V_putR 9 z113 flX0_9 ft_0_8 dX0_init_9 rfl (by decide) (fun _ => ⟨rfl, _, rfl, rfl⟩) (fun _ => ⟨rfl, rfl⟩) rfl ?_
  refine V_aload_n 12 0 dX0_init_12 rfl ?_
  refine V_bip 13 12 dX0_init_13 rfl ?_
  refine V_newa 15 z114 (t := 0) (nn := 12) (at0 := .int) (by decide) rfl w_ar_int dX0_init_15 (by decide) (by show Ω.1 + 55 + 1 = Ω.1 + 56; rfl) (fun j => by exact hI _ (by decide) j) (fun j => hL _ j) ⟨Nat.le_of_ble_eq_true rfl, Nat.le_of_ble_eq_true rfl⟩ rfl ?_
  show V _ _ _ 2 24 z114 _ _ 17 _ (.ref (Ω.1 + 56) :: _)
  refine V_putR 17 z115 flX0_15 ft_0_9 dX0_init_17 rfl (by decide) (fun _ => ⟨rfl, _, rfl, rfl⟩) (fun _ => ⟨rfl, rfl⟩) rfl ?_
  refine V_aload_n 20 0 dX0_init_20 rfl ?_
  refine V_bip 21 12 dX0_init_21 rfl ?_
  refine V_newa 23 z116 (t := 0) (nn := 12) (at0 := .int) (by decide) rfl w_ar_int dX0_init_23 (by decide) (by show Ω.1 + 55 + 2 = Ω.1 + 57; rfl) (fun j => by exact hI _ (by decide) j) (fun j => hL _ j) ⟨Nat.le_of_ble_eq_true rfl, Nat.le_of_ble_eq_true rfl⟩ rfl ?_
  show V _ _ _ 3 36 z116 _ _ 25 _ (.ref (Ω.1 + 57) :: _)
  refine V_putR 25 z117 flX0_18 ft_0_10 dX0_init_25 rfl (by decide) (fun _ => ⟨rfl, _, rfl, rfl⟩) (fun _ => ⟨rfl, rfl⟩) rfl ?_
  refine V_aload_n 28 0 dX0_init_28 rfl ?_
  refine V_aload_n 29 1 dX0_init_29 rfl ?_
  refine V_putR 30 z118 flX0_21 ft_0_0 dX0_init_30 rfl (by decide) (fun _ => ⟨rfl, _, rfl, rfl⟩) (fun _ => ⟨rfl, rfl⟩) rfl ?_
  refine V_aload_n 33 0 dX0_init_33 rfl ?_
  refine V_getR 34 flX0_9 dX0_init_34 rfl ?_
  refine V_cst 37 4294967295 dX0_init_37 rfl ?_
  refine V_sv 38 msX0_25 dX0_init_38 (w_fit.mono (by omega) hE) (c_fill (d := d) (S := z118) (a := 55) (nn := 12) rfl (by decide)) rfl (Nat.le_of_ble_eq_true rfl) ?_
  rintro _ _ _ ⟨rfl, rfl, rfl⟩
  exact V_ret 41 dX0_init_41 rfl ⟨rfl, rfl, rfl⟩
set_option maxRecDepth 8192 in
theorem kt_50 {Ω : w_O} {d : Nat} {I : w_I} {L : w_L} (hI : ∀ i, 50 ≤ i → ∀ j, I i j = 0) (hL : ∀ i j, L i j = 0) : FnC Ω (d + 3 + 1) 7 203 mX6_init [.ref (Ω.1 + 50), .ref (Ω.1 + 15)] z103 I L (w_pv (fun S' I' L' => S' = z119 ∧ L = L' ∧ I' = (w_row I 55 (w_fill 4294967295 (I 55) 12)))) := by
  refine FnC_of okX6_init (Nat.le_of_ble_eq_true rfl) fun l => ?_
  have hE : w_fit (d + 3) (w_Er l (d + 3 + 1) 7 203 Ω (w_pv (fun S' I' L' => S' = z119 ∧ L = L' ∧ I' = (w_row I 55 (w_fill 4294967295 (I 55) 12)))) (Ω.1 + z103.length)) := w_fit_r
  show V _ _ _ _ _ _ _ _ 0 [(0, _), (1, _)] []
  refine V_aload_n 0 0 dX6_init_0 rfl ?_
  refine V_oinit 1 moX6_3 dX6_init_1 (w_fit.mono (by omega) hE) (Nat.le_of_ble_eq_true rfl) ?_
  refine V_aload_n 4 0 dX6_init_4 rfl ?_
  refine V_bip 5 72 dX6_init_5 rfl ?_
  refine V_newa 7 z104 (t := 0) (nn := 72) (at0 := .int) (by decide) rfl w_ar_int dX6_init_7 (by decide) (by show Ω.1 + 51 + 0 = Ω.1 + 51; rfl) (fun j => by exact hI _ (by decide) j) (fun j => hL _ j) ⟨Nat.le_of_ble_eq_true rfl, Nat.le_of_ble_eq_true rfl⟩ rfl ?_
  show V _ _ _ 1 72 z104 _ _ 9 _ (.ref (Ω.1 + 51) :: _)
  refine V_putR 9 z105 flX6_9 ft_6_3 dX6_init_9 rfl (by decide) (fun _ => ⟨rfl, _, rfl, rfl⟩) (fun _ => ⟨rfl, rfl⟩) rfl ?_
  refine V_aload_n 12 0 dX6_init_12 rfl ?_
  refine V_bip 13 72 dX6_init_13 rfl ?_
  refine V_newa 15 z106 (t := 0) (nn := 72) (at0 := .int) (by decide) rfl w_ar_int dX6_init_15 (by decide) (by show Ω.1 + 51 + 1 = Ω.1 + 52; rfl) (fun j => by exact hI _ (by decide) j) (fun j => hL _ j) ⟨Nat.le_of_ble_eq_true rfl, Nat.le_of_ble_eq_true rfl⟩ rfl ?_
  show V _ _ _ 2 144 z106 _ _ 17 _ (.ref (Ω.1 + 52) :: _)
  refine V_putR 17 z107 flX6_15 ft_6_4 dX6_init_17 rfl (by decide) (fun _ => ⟨rfl, _, rfl, rfl⟩) (fun _ => ⟨rfl, rfl⟩) rfl ?_
  refine V_aload_n 20 0 dX6_init_20 rfl ?_
  refine V_bip 21 12 dX6_init_21 rfl ?_
  refine V_newa 23 z108 (t := 0) (nn := 12) (at0 := .int) (by decide) rfl w_ar_int dX6_init_23 (by decide) (by show Ω.1 + 51 + 2 = Ω.1 + 53; rfl) (fun j => by exact hI _ (by decide) j) (fun j => hL _ j) ⟨Nat.le_of_ble_eq_true rfl, Nat.le_of_ble_eq_true rfl⟩ rfl ?_
  show V _ _ _ 3 156 z108 _ _ 25 _ (.ref (Ω.1 + 53) :: _)
  refine V_putR 25 z109 flX6_18 ft_6_5 dX6_init_25 rfl (by decide) (fun _ => ⟨rfl, _, rfl, rfl⟩) (fun _ => ⟨rfl, rfl⟩) rfl ?_
  refine V_aload_n 28 0 dX6_init_28 rfl ?_
  refine V_aload_n 29 1 dX6_init_29 rfl ?_
  refine V_putR 30 z110 flX6_21 ft_6_0 dX6_init_30 rfl (by decide) (fun _ => ⟨rfl, _, rfl, rfl⟩) (fun _ => ⟨rfl, rfl⟩) rfl ?_
  refine V_aload_n 33 0 dX6_init_33 rfl ?_
  refine V_new 34 z111 w_nc0 clX6_25 ⟨_, rfl, rfl⟩ dX6_init_34 (by show Ω.1 + 51 + 3 = Ω.1 + 54; rfl) (fun j => by exact hI _ (by decide) j) (fun j => hL _ j) ⟨Nat.le_of_ble_eq_true rfl, Nat.le_of_ble_eq_true rfl⟩ rfl ?_
  show V _ _ _ 4 167 z111 _ _ 37 _ (.ref (Ω.1 + 54) :: _)
  refine V_dup 37 dX6_init_37 rfl ?_
  refine V_aload_n 38 1 dX6_init_38 rfl ?_
  refine V_ci 39 (b := 54) (mc := 3) (ms := 36) miX6_27 dX6_init_39 (w_fit.mono (by omega) hE) (kt_54 (d := d) (fun i hi j => by exact hI i (by omega) j) hL) (by show Ω.1 + 51 + 4 = Ω.1 + 55; rfl) rfl (Nat.le_of_ble_eq_true rfl) ⟨Nat.le_of_ble_eq_true rfl, Nat.le_of_ble_eq_true rfl⟩ ?_
  rintro _ _ _ ⟨rfl, rfl, rfl⟩
  show V _ _ _ 7 203 z118 _ _ 42 _ _
  refine V_putR 42 z119 flX6_30 ft_6_6 dX6_init_42 rfl (by decide) (fun _ => ⟨rfl, _, rfl, rfl⟩) (fun _ => ⟨rfl, rfl⟩) rfl ?_
  exact V_ret 45 dX6_init_45 rfl ⟨rfl, rfl, rfl⟩
set_option maxRecDepth 8192 in
theorem kt_58 {Ω : w_O} {d : Nat} {I : w_I} {L : w_L} (hI : ∀ i, 58 ≤ i → ∀ j, I i j = 0) (hL : ∀ i j, L i j = 0) : FnC Ω (d + 1) 3 18 mX2_init [.ref (Ω.1 + 58), .ref (Ω.1 + 15)] z121 I L (w_pv (fun S' I' L' => S' = z128 ∧ L = L' ∧ I' = I)) := by
  refine FnC_of okX2_init (Nat.le_of_ble_eq_true rfl) fun l => ?_
  have hE : w_fit (d) (w_Er l (d + 1) 3 18 Ω (w_pv (fun S' I' L' => S' = z128 ∧ L = L' ∧ I' = I)) (Ω.1 + z121.length)) := w_fit_r
  show V _ _ _ _ _ _ _ _ 0 [(0, _), (1, _)] []
  refine V_aload_n 0 0 dX2_init_0 rfl ?_
  refine V_oinit 1 moX2_3 dX2_init_1 (w_fit.mono (by omega) hE) (Nat.le_of_ble_eq_true rfl) ?_
  refine V_aload_n 4 0 dX2_init_4 rfl ?_
  refine V_bip 5 6 dX2_init_5 rfl ?_
  refine V_newa 7 z122 (t := 0) (nn := 6) (at0 := .int) (by decide) rfl w_ar_int dX2_init_7 (by decide) (by show Ω.1 + 59 + 0 = Ω.1 + 59; rfl) (fun j => by exact hI _ (by decide) j) (fun j => hL _ j) ⟨Nat.le_of_ble_eq_true rfl, Nat.le_of_ble_eq_true rfl⟩ rfl ?_
  show V _ _ _ 1 6 z122 _ _ 9 _ (.ref (Ω.1 + 59) :: _)
  refine V_putR 9 z123 flX2_9 ft_2_1 dX2_init_9 rfl (by decide) (fun _ => ⟨rfl, _, rfl, rfl⟩) (fun _ => ⟨rfl, rfl⟩) rfl ?_
  refine V_aload_n 12 0 dX2_init_12 rfl ?_
  refine V_bip 13 6 dX2_init_13 rfl ?_
  refine V_newa 15 z124 (t := 0) (nn := 6) (at0 := .int) (by decide) rfl w_ar_int dX2_init_15 (by decide) (by show Ω.1 + 59 + 1 = Ω.1 + 60; rfl) (fun j => by exact hI _ (by decide) j) (fun j => hL _ j) ⟨Nat.le_of_ble_eq_true rfl, Nat.le_of_ble_eq_true rfl⟩ rfl ?_
  show V _ _ _ 2 12 z124 _ _ 17 _ (.ref (Ω.1 + 60) :: _)
  refine V_putR 17 z125 flX2_15 ft_2_2 dX2_init_17 rfl (by decide) (fun _ => ⟨rfl, _, rfl, rfl⟩) (fun _ => ⟨rfl, rfl⟩) rfl ?_
  refine V_aload_n 20 0 dX2_init_20 rfl ?_
  refine V_bip 21 6 dX2_init_21 rfl ?_
  refine V_newa 23 z126 (t := 0) (nn := 6) (at0 := .int) (by decide) rfl w_ar_int dX2_init_23 (by decide) (by show Ω.1 + 59 + 2 = Ω.1 + 61; rfl) (fun j => by exact hI _ (by decide) j) (fun j => hL _ j) ⟨Nat.le_of_ble_eq_true rfl, Nat.le_of_ble_eq_true rfl⟩ rfl ?_
  show V _ _ _ 3 18 z126 _ _ 25 _ (.ref (Ω.1 + 61) :: _)
  refine V_putR 25 z127 flX2_18 ft_2_3 dX2_init_25 rfl (by decide) (fun _ => ⟨rfl, _, rfl, rfl⟩) (fun _ => ⟨rfl, rfl⟩) rfl ?_
  refine V_aload_n 28 0 dX2_init_28 rfl ?_
  refine V_aload_n 29 1 dX2_init_29 rfl ?_
  refine V_putR 30 z128 flX2_21 ft_2_0 dX2_init_30 rfl (by decide) (fun _ => ⟨rfl, _, rfl, rfl⟩) (fun _ => ⟨rfl, rfl⟩) rfl ?_
  exact V_ret 33 dX2_init_33 rfl ⟨rfl, rfl, rfl⟩
set_option maxRecDepth 8192 in
theorem kt_0 {Ω : w_O} {d : Nat} {I : w_I} {L : w_L} (hI : ∀ i, 0 ≤ i → ∀ j, I i j = 0) (hL : ∀ i j, L i j = 0) : FnC Ω (d + 5 + 1) 62 1979 mX7_init [.ref (Ω.1 + 0)] z1 I L (w_pv (fun S' I' L' => S' = z131 ∧ L = L' ∧ I' = (w_row (w_row (w_row (w_row (w_put (w_put (w_row (w_put I 3 0 2) 4 (w_fill 1 ((w_put I 3 0 2) 4) 6)) 0 3 4294967295) 15 0 2) 16 (w_fill 1 ((w_put (w_put (w_row (w_put I 3 0 2) 4 (w_fill 1 ((w_put I 3 0 2) 4) 6)) 0 3 4294967295) 15 0 2) 16) 6)) 35 (w_fill 4294967295 ((w_row (w_put (w_put (w_row (w_put I 3 0 2) 4 (w_fill 1 ((w_put I 3 0 2) 4) 6)) 0 3 4294967295) 15 0 2) 16 (w_fill 1 ((w_put (w_put (w_row (w_put I 3 0 2) 4 (w_fill 1 ((w_put I 3 0 2) 4) 6)) 0 3 4294967295) 15 0 2) 16) 6)) 35) 12)) 47 (w_fill 4294967295 ((w_row (w_row (w_put (w_put (w_row (w_put I 3 0 2) 4 (w_fill 1 ((w_put I 3 0 2) 4) 6)) 0 3 4294967295) 15 0 2) 16 (w_fill 1 ((w_put (w_put (w_row (w_put I 3 0 2) 4 (w_fill 1 ((w_put I 3 0 2) 4) 6)) 0 3 4294967295) 15 0 2) 16) 6)) 35 (w_fill 4294967295 ((w_row (w_put (w_put (w_row (w_put I 3 0 2) 4 (w_fill 1 ((w_put I 3 0 2) 4) 6)) 0 3 4294967295) 15 0 2) 16 (w_fill 1 ((w_put (w_put (w_row (w_put I 3 0 2) 4 (w_fill 1 ((w_put I 3 0 2) 4) 6)) 0 3 4294967295) 15 0 2) 16) 6)) 35) 12)) 47) 12)) 55 (w_fill 4294967295 ((w_row (w_row (w_row (w_put (w_put (w_row (w_put I 3 0 2) 4 (w_fill 1 ((w_put I 3 0 2) 4) 6)) 0 3 4294967295) 15 0 2) 16 (w_fill 1 ((w_put (w_put (w_row (w_put I 3 0 2) 4 (w_fill 1 ((w_put I 3 0 2) 4) 6)) 0 3 4294967295) 15 0 2) 16) 6)) 35 (w_fill 4294967295 ((w_row (w_put (w_put (w_row (w_put I 3 0 2) 4 (w_fill 1 ((w_put I 3 0 2) 4) 6)) 0 3 4294967295) 15 0 2) 16 (w_fill 1 ((w_put (w_put (w_row (w_put I 3 0 2) 4 (w_fill 1 ((w_put I 3 0 2) 4) 6)) 0 3 4294967295) 15 0 2) 16) 6)) 35) 12)) 47 (w_fill 4294967295 ((w_row (w_row (w_put (w_put (w_row (w_put I 3 0 2) 4 (w_fill 1 ((w_put I 3 0 2) 4) 6)) 0 3 4294967295) 15 0 2) 16 (w_fill 1 ((w_put (w_put (w_row (w_put I 3 0 2) 4 (w_fill 1 ((w_put I 3 0 2) 4) 6)) 0 3 4294967295) 15 0 2) 16) 6)) 35 (w_fill 4294967295 ((w_row (w_put (w_put (w_row (w_put I 3 0 2) 4 (w_fill 1 ((w_put I 3 0 2) 4) 6)) 0 3 4294967295) 15 0 2) 16 (w_fill 1 ((w_put (w_put (w_row (w_put I 3 0 2) 4 (w_fill 1 ((w_put I 3 0 2) 4) 6)) 0 3 4294967295) 15 0 2) 16) 6)) 35) 12)) 47) 12)) 55) 12)))) := by
  refine FnC_of okX7_init (Nat.le_of_ble_eq_true rfl) fun l => ?_
  have hE : w_fit (d + 5) (w_Er l (d + 5 + 1) 62 1979 Ω (w_pv (fun S' I' L' => S' = z131 ∧ L = L' ∧ I' = (w_row (w_row (w_row (w_row (w_put (w_put (w_row (w_put I 3 0 2) 4 (w_fill 1 ((w_put I 3 0 2) 4) 6)) 0 3 4294967295) 15 0 2) 16 (w_fill 1 ((w_put (w_put (w_row (w_put I 3 0 2) 4 (w_fill 1 ((w_put I 3 0 2) 4) 6)) 0 3 4294967295) 15 0 2) 16) 6)) 35 (w_fill 4294967295 ((w_row (w_put (w_put (w_row (w_put I 3 0 2) 4 (w_fill 1 ((w_put I 3 0 2) 4) 6)) 0 3 4294967295) 15 0 2) 16 (w_fill 1 ((w_put (w_put (w_row (w_put I 3 0 2) 4 (w_fill 1 ((w_put I 3 0 2) 4) 6)) 0 3 4294967295) 15 0 2) 16) 6)) 35) 12)) 47 (w_fill 4294967295 ((w_row (w_row (w_put (w_put (w_row (w_put I 3 0 2) 4 (w_fill 1 ((w_put I 3 0 2) 4) 6)) 0 3 4294967295) 15 0 2) 16 (w_fill 1 ((w_put (w_put (w_row (w_put I 3 0 2) 4 (w_fill 1 ((w_put I 3 0 2) 4) 6)) 0 3 4294967295) 15 0 2) 16) 6)) 35 (w_fill 4294967295 ((w_row (w_put (w_put (w_row (w_put I 3 0 2) 4 (w_fill 1 ((w_put I 3 0 2) 4) 6)) 0 3 4294967295) 15 0 2) 16 (w_fill 1 ((w_put (w_put (w_row (w_put I 3 0 2) 4 (w_fill 1 ((w_put I 3 0 2) 4) 6)) 0 3 4294967295) 15 0 2) 16) 6)) 35) 12)) 47) 12)) 55 (w_fill 4294967295 ((w_row (w_row (w_row (w_put (w_put (w_row (w_put I 3 0 2) 4 (w_fill 1 ((w_put I 3 0 2) 4) 6)) 0 3 4294967295) 15 0 2) 16 (w_fill 1 ((w_put (w_put (w_row (w_put I 3 0 2) 4 (w_fill 1 ((w_put I 3 0 2) 4) 6)) 0 3 4294967295) 15 0 2) 16) 6)) 35 (w_fill 4294967295 ((w_row (w_put (w_put (w_row (w_put I 3 0 2) 4 (w_fill 1 ((w_put I 3 0 2) 4) 6)) 0 3 4294967295) 15 0 2) 16 (w_fill 1 ((w_put (w_put (w_row (w_put I 3 0 2) 4 (w_fill 1 ((w_put I 3 0 2) 4) 6)) 0 3 4294967295) 15 0 2) 16) 6)) 35) 12)) 47 (w_fill 4294967295 ((w_row (w_row (w_put (w_put (w_row (w_put I 3 0 2) 4 (w_fill 1 ((w_put I 3 0 2) 4) 6)) 0 3 4294967295) 15 0 2) 16 (w_fill 1 ((w_put (w_put (w_row (w_put I 3 0 2) 4 (w_fill 1 ((w_put I 3 0 2) 4) 6)) 0 3 4294967295) 15 0 2) 16) 6)) 35 (w_fill 4294967295 ((w_row (w_put (w_put (w_row (w_put I 3 0 2) 4 (w_fill 1 ((w_put I 3 0 2) 4) 6)) 0 3 4294967295) 15 0 2) 16 (w_fill 1 ((w_put (w_put (w_row (w_put I 3 0 2) 4 (w_fill 1 ((w_put I 3 0 2) 4) 6)) 0 3 4294967295) 15 0 2) 16) 6)) 35) 12)) 47) 12)) 55) 12)))) (Ω.1 + z1.length)) := w_fit_r
  show V _ _ _ _ _ _ _ _ 0 [(0, _)] []
  refine V_aload_n 0 0 dX7_init_0 rfl ?_
  refine V_oinit 1 moX7_1 dX7_init_1 (w_fit.mono (by omega) hE) (Nat.le_of_ble_eq_true rfl) ?_
  refine V_aload_n 4 0 dX7_init_4 rfl ?_
  refine V_sip 5 700 dX7_init_5 rfl ?_
  refine V_newa 8 z2 (t := 1) (nn := 700) (at0 := .byte) (by decide) rfl w_ar_byte dX7_init_8 (by decide) (by show Ω.1 + 1 + 0 = Ω.1 + 1; rfl) (fun j => by exact hI _ (by decide) j) (fun j => hL _ j) ⟨Nat.le_of_ble_eq_true rfl, Nat.le_of_ble_eq_true rfl⟩ rfl ?_
  show V _ _ _ 1 700 z2 _ _ 10 _ (.ref (Ω.1 + 1) :: _)
  refine V_putR 10 z3 flX7_9 ft_7_0 dX7_init_10 rfl (by decide) (fun _ => ⟨rfl, _, rfl, rfl⟩) (fun _ => ⟨rfl, rfl⟩) rfl ?_
  refine V_aload_n 13 0 dX7_init_13 rfl ?_
  refine V_new 14 z4 w_nc4 clX7_13 ⟨_, rfl, rfl⟩ dX7_init_14 (by show Ω.1 + 1 + 1 = Ω.1 + 2; rfl) (fun j => by exact hI _ (by decide) j) (fun j => hL _ j) ⟨Nat.le_of_ble_eq_true rfl, Nat.le_of_ble_eq_true rfl⟩ rfl ?_
  show V _ _ _ 2 710 z4 _ _ 17 _ (.ref (Ω.1 + 2) :: _)
  refine V_dup 17 dX7_init_17 rfl ?_
  refine V_aload_n 18 0 dX7_init_18 rfl ?_
  refine V_getR 19 flX7_9 dX7_init_19 rfl ?_
  refine V_ci 22 (b := 2) (mc := 12) (ms := 142) miX7_15 dX7_init_22 (w_fit.mono (by omega) hE) (kt_2 (d := d) (fun i hi j => by exact hI i (by omega) j) hL) (by show Ω.1 + 1 + 2 = Ω.1 + 3; rfl) rfl (Nat.le_of_ble_eq_true rfl) ⟨Nat.le_of_ble_eq_true rfl, Nat.le_of_ble_eq_true rfl⟩ ?_
  rintro _ _ _ ⟨rfl, rfl, rfl⟩
  show V _ _ _ 14 852 z29 _ _ 25 _ _
  refine V_putR 25 z30 flX7_18 ft_7_2 dX7_init_25 rfl (by decide) (fun _ => ⟨rfl, _, rfl, rfl⟩) (fun _ => ⟨rfl, rfl⟩) rfl ?_
  refine V_aload_n 28 0 dX7_init_28 rfl ?_
  refine V_cst 29 4294967295 dX7_init_29 rfl ?_
  refine V_putI 30 flX7_22 ft_7_3 dX7_init_30 rfl ?_
  refine V_aload_n 33 0 dX7_init_33 rfl ?_
  refine V_new 34 z31 w_nc3 clX7_26 ⟨_, rfl, rfl⟩ dX7_init_34 (by show Ω.1 + 1 + 14 = Ω.1 + 15; rfl) (fun j => by rw [w_put_ne _ _ (by decide)]; rw [w_row_ne _ _ (by decide)]; rw [w_put_ne _ _ (by decide)]; exact hI _ (by decide) j) (fun j => hL _ j) ⟨Nat.le_of_ble_eq_true rfl, Nat.le_of_ble_eq_true rfl⟩ rfl ?_
  show V _ _ _ 15 867 z31 _ _ 37 _ (.ref (Ω.1 + 15) :: _)
  refine V_dup 37 dX7_init_37 rfl ?_
  refine V_ci 38 (b := 15) (mc := 11) (ms := 127) miX7_28 dX7_init_38 (w_fit.mono (by omega) hE) (kt_15 (d := d) (fun i hi j => by rw [w_put_ne _ _ (by omega)]; rw [w_row_ne _ _ (by omega)]; rw [w_put_ne _ _ (by omega)]; exact hI i (by omega) j) hL) (by show Ω.1 + 1 + 15 = Ω.1 + 16; rfl) rfl (Nat.le_of_ble_eq_true rfl) ⟨Nat.le_of_ble_eq_true rfl, Nat.le_of_ble_eq_true rfl⟩ ?_
  rintro _ _ _ ⟨rfl, rfl, rfl⟩
  show V _ _ _ 26 994 z53 _ _ 41 _ _
  refine V_putR 41 z54 flX7_29 ft_7_4 dX7_init_41 rfl (by decide) (fun _ => ⟨rfl, _, rfl, rfl⟩) (fun _ => ⟨rfl, rfl⟩) rfl ?_
  refine V_aload_n 44 0 dX7_init_44 rfl ?_
  refine V_new 45 z55 w_nc5 clX7_33 ⟨_, rfl, rfl⟩ dX7_init_45 (by show Ω.1 + 1 + 26 = Ω.1 + 27; rfl) (fun j => by rw [w_row_ne _ _ (by decide)]; rw [w_put_ne _ _ (by decide)]; rw [w_put_ne _ _ (by decide)]; rw [w_row_ne _ _ (by decide)]; rw [w_put_ne _ _ (by decide)]; exact hI _ (by decide) j) (fun j => hL _ j) ⟨Nat.le_of_ble_eq_true rfl, Nat.le_of_ble_eq_true rfl⟩ rfl ?_
  show V _ _ _ 27 1001 z55 _ _ 48 _ (.ref (Ω.1 + 27) :: _)
  refine V_dup 48 dX7_init_48 rfl ?_
  refine V_cn 49 (b := 27) (mc := 6) (ms := 313) miX7_35 dX7_init_49 (w_fit.mono (by omega) hE) (kt_27 (d := d) (fun i hi j => by rw [w_row_ne _ _ (by omega)]; rw [w_put_ne _ _ (by omega)]; rw [w_put_ne _ _ (by omega)]; rw [w_row_ne _ _ (by omega)]; rw [w_put_ne _ _ (by omega)]; exact hI i (by omega) j) hL) (by show Ω.1 + 1 + 27 = Ω.1 + 28; rfl) rfl (Nat.le_of_ble_eq_true rfl) ⟨Nat.le_of_ble_eq_true rfl, Nat.le_of_ble_eq_true rfl⟩ ?_
  rintro _ _ _ ⟨rfl, rfl, rfl⟩
  show V _ _ _ 33 1314 z67 _ _ 52 _ _
  refine V_putR 52 z68 flX7_36 ft_7_5 dX7_init_52 rfl (by decide) (fun _ => ⟨rfl, _, rfl, rfl⟩) (fun _ => ⟨rfl, rfl⟩) rfl ?_
  refine V_aload_n 55 0 dX7_init_55 rfl ?_
  refine V_new 56 z69 w_nc0 clX7_40 ⟨_, rfl, rfl⟩ dX7_init_56 (by show Ω.1 + 1 + 33 = Ω.1 + 34; rfl) (fun j => by rw [w_row_ne _ _ (by decide)]; rw [w_put_ne _ _ (by decide)]; rw [w_put_ne _ _ (by decide)]; rw [w_row_ne _ _ (by decide)]; rw [w_put_ne _ _ (by decide)]; exact hI _ (by decide) j) (fun j => hL _ j) ⟨Nat.le_of_ble_eq_true rfl, Nat.le_of_ble_eq_true rfl⟩ rfl ?_
  show V _ _ _ 34 1325 z69 _ _ 59 _ (.ref (Ω.1 + 34) :: _)
  refine V_dup 59 dX7_init_59 rfl ?_
  refine V_aload_n 60 0 dX7_init_60 rfl ?_
  refine V_getR 61 flX7_29 dX7_init_61 rfl ?_
  refine V_ci 64 (b := 34) (mc := 3) (ms := 36) miX7_42 dX7_init_64 (w_fit.mono (by omega) hE) (kt_34 (d := d) (fun i hi j => by rw [w_row_ne _ _ (by omega)]; rw [w_put_ne _ _ (by omega)]; rw [w_put_ne _ _ (by omega)]; rw [w_row_ne _ _ (by omega)]; rw [w_put_ne _ _ (by omega)]; exact hI i (by omega) j) hL) (by show Ω.1 + 1 + 34 = Ω.1 + 35; rfl) rfl (Nat.le_of_ble_eq_true rfl) ⟨Nat.le_of_ble_eq_true rfl, Nat.le_of_ble_eq_true rfl⟩ ?_
  rintro _ _ _ ⟨rfl, rfl, rfl⟩
  show V _ _ _ 37 1361 z76 _ _ 67 _ _
  refine V_putR 67 z77 flX7_45 ft_7_6 dX7_init_67 rfl (by decide) (fun _ => ⟨rfl, _, rfl, rfl⟩) (fun _ => ⟨rfl, rfl⟩) rfl ?_
  refine V_aload_n 70 0 dX7_init_70 rfl ?_
  refine V_new 71 z78 w_nc1 clX7_49 ⟨_, rfl, rfl⟩ dX7_init_71 (by show Ω.1 + 1 + 37 = Ω.1 + 38; rfl) (fun j => by rw [w_row_ne _ _ (by decide)]; rw [w_row_ne _ _ (by decide)]; rw [w_put_ne _ _ (by decide)]; rw [w_put_ne _ _ (by decide)]; rw [w_row_ne _ _ (by decide)]; rw [w_put_ne _ _ (by decide)]; exact hI _ (by decide) j) (fun j => hL _ j) ⟨Nat.le_of_ble_eq_true rfl, Nat.le_of_ble_eq_true rfl⟩ rfl ?_
  show V _ _ _ 38 1366 z78 _ _ 74 _ (.ref (Ω.1 + 38) :: _)
  refine V_dup 74 dX7_init_74 rfl ?_
  refine V_aload_n 75 0 dX7_init_75 rfl ?_
  refine V_getR 76 flX7_29 dX7_init_76 rfl ?_
  refine V_ci 79 (b := 38) (mc := 11) (ms := 367) miX7_51 dX7_init_79 (w_fit.mono (by omega) hE) (kt_38 (d := d) (fun i hi j => by rw [w_row_ne _ _ (by omega)]; rw [w_row_ne _ _ (by omega)]; rw [w_put_ne _ _ (by omega)]; rw [w_put_ne _ _ (by omega)]; rw [w_row_ne _ _ (by omega)]; rw [w_put_ne _ _ (by omega)]; exact hI i (by omega) j) hL) (by show Ω.1 + 1 + 38 = Ω.1 + 39; rfl) rfl (Nat.le_of_ble_eq_true rfl) ⟨Nat.le_of_ble_eq_true rfl, Nat.le_of_ble_eq_true rfl⟩ ?_
  rintro _ _ _ ⟨rfl, rfl, rfl⟩
  show V _ _ _ 49 1733 z101 _ _ 82 _ _
  refine V_putR 82 z102 flX7_52 ft_7_9 dX7_init_82 rfl (by decide) (fun _ => ⟨rfl, _, rfl, rfl⟩) (fun _ => ⟨rfl, rfl⟩) rfl ?_
  refine V_aload_n 85 0 dX7_init_85 rfl ?_
  refine V_new 86 z103 w_nc6 clX7_56 ⟨_, rfl, rfl⟩ dX7_init_86 (by show Ω.1 + 1 + 49 = Ω.1 + 50; rfl) (fun j => by rw [w_row_ne _ _ (by decide)]; rw [w_row_ne _ _ (by decide)]; rw [w_row_ne _ _ (by decide)]; rw [w_put_ne _ _ (by decide)]; rw [w_put_ne _ _ (by decide)]; rw [w_row_ne _ _ (by decide)]; rw [w_put_ne _ _ (by decide)]; exact hI _ (by decide) j) (fun j => hL _ j) ⟨Nat.le_of_ble_eq_true rfl, Nat.le_of_ble_eq_true rfl⟩ rfl ?_
  show V _ _ _ 50 1740 z103 _ _ 89 _ (.ref (Ω.1 + 50) :: _)
  refine V_dup 89 dX7_init_89 rfl ?_
  refine V_aload_n 90 0 dX7_init_90 rfl ?_
  refine V_getR 91 flX7_29 dX7_init_91 rfl ?_
  refine V_ci 94 (b := 50) (mc := 7) (ms := 203) miX7_58 dX7_init_94 (w_fit.mono (by omega) hE) (kt_50 (d := d) (fun i hi j => by rw [w_row_ne _ _ (by omega)]; rw [w_row_ne _ _ (by omega)]; rw [w_row_ne _ _ (by omega)]; rw [w_put_ne _ _ (by omega)]; rw [w_put_ne _ _ (by omega)]; rw [w_row_ne _ _ (by omega)]; rw [w_put_ne _ _ (by omega)]; exact hI i (by omega) j) hL) (by show Ω.1 + 1 + 50 = Ω.1 + 51; rfl) rfl (Nat.le_of_ble_eq_true rfl) ⟨Nat.le_of_ble_eq_true rfl, Nat.le_of_ble_eq_true rfl⟩ ?_
  rintro _ _ _ ⟨rfl, rfl, rfl⟩
  show V _ _ _ 57 1943 z119 _ _ 97 _ _
  refine V_putR 97 z120 flX7_59 ft_7_10 dX7_init_97 rfl (by decide) (fun _ => ⟨rfl, _, rfl, rfl⟩) (fun _ => ⟨rfl, rfl⟩) rfl ?_
  refine V_aload_n 100 0 dX7_init_100 rfl ?_
  refine V_new 101 z121 w_nc2 clX7_63 ⟨_, rfl, rfl⟩ dX7_init_101 (by show Ω.1 + 1 + 57 = Ω.1 + 58; rfl) (fun j => by rw [w_row_ne _ _ (by decide)]; rw [w_row_ne _ _ (by decide)]; rw [w_row_ne _ _ (by decide)]; rw [w_row_ne _ _ (by decide)]; rw [w_put_ne _ _ (by decide)]; rw [w_put_ne _ _ (by decide)]; rw [w_row_ne _ _ (by decide)]; rw [w_put_ne _ _ (by decide)]; exact hI _ (by decide) j) (fun j => hL _ j) ⟨Nat.le_of_ble_eq_true rfl, Nat.le_of_ble_eq_true rfl⟩ rfl ?_
  show V _ _ _ 58 1949 z121 _ _ 104 _ (.ref (Ω.1 + 58) :: _)
  refine V_dup 104 dX7_init_104 rfl ?_
  refine V_aload_n 105 0 dX7_init_105 rfl ?_
  refine V_getR 106 flX7_29 dX7_init_106 rfl ?_
  refine V_ci 109 (b := 58) (mc := 3) (ms := 18) miX7_65 dX7_init_109 (w_fit.mono (by omega) hE) (kt_58 (d := d) (fun i hi j => by rw [w_row_ne _ _ (by omega)]; rw [w_row_ne _ _ (by omega)]; rw [w_row_ne _ _ (by omega)]; rw [w_row_ne _ _ (by omega)]; rw [w_put_ne _ _ (by omega)]; rw [w_put_ne _ _ (by omega)]; rw [w_row_ne _ _ (by omega)]; rw [w_put_ne _ _ (by omega)]; exact hI i (by omega) j) hL) (by show Ω.1 + 1 + 58 = Ω.1 + 59; rfl) rfl (Nat.le_of_ble_eq_true rfl) ⟨Nat.le_of_ble_eq_true rfl, Nat.le_of_ble_eq_true rfl⟩ ?_
  rintro _ _ _ ⟨rfl, rfl, rfl⟩
  show V _ _ _ 61 1967 z128 _ _ 112 _ _
  refine V_putR 112 z129 flX7_66 ft_7_11 dX7_init_112 rfl (by decide) (fun _ => ⟨rfl, _, rfl, rfl⟩) (fun _ => ⟨rfl, rfl⟩) rfl ?_
  refine V_aload_n 115 0 dX7_init_115 rfl ?_
  refine V_bip 116 12 dX7_init_116 rfl ?_
  refine V_newa 118 z130 (t := 0) (nn := 12) (at0 := .int) (by decide) rfl w_ar_int dX7_init_118 (by decide) (by show Ω.1 + 1 + 61 = Ω.1 + 62; rfl) (fun j => by rw [w_row_ne _ _ (by decide)]; rw [w_row_ne _ _ (by decide)]; rw [w_row_ne _ _ (by decide)]; rw [w_row_ne _ _ (by decide)]; rw [w_put_ne _ _ (by decide)]; rw [w_put_ne _ _ (by decide)]; rw [w_row_ne _ _ (by decide)]; rw [w_put_ne _ _ (by decide)]; exact hI _ (by decide) j) (fun j => hL _ j) ⟨Nat.le_of_ble_eq_true rfl, Nat.le_of_ble_eq_true rfl⟩ rfl ?_
  show V _ _ _ 62 1979 z130 _ _ 120 _ (.ref (Ω.1 + 62) :: _)
  refine V_putR 120 z131 flX7_70 ft_7_12 dX7_init_120 rfl (by decide) (fun _ => ⟨rfl, _, rfl, rfl⟩) (fun _ => ⟨rfl, rfl⟩) rfl ?_
  exact V_ret 123 dX7_init_123 rfl ⟨rfl, rfl, rfl⟩

