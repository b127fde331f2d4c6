section
/-! the frame: what kinds the cells are, how long, and which refer to which (sheets and the rows on shelves apart) -/
def fTL : List (Nat × Nat) := [(12, 13), (9, 6), (100, 200), (1, 5), (100, 30), (110, 4), (100, 4), (110, 4), (100, 30), (101, 40), (111, 6), (2, 0), (7, 0), (4, 0), (10, 0), (3, 0), (5, 0), (11, 18), (100, 3), (100, 5), (100, 40), (100, 8), (100, 8), (100, 4), (100, 4), (100, 6), (100, 6), (100, 6), (100, 6), (100, 6), (100, 30), (11, 18), (100, 3), (100, 5), (100, 40), (100, 8), (100, 8), (100, 4), (100, 4), (100, 6), (100, 6), (100, 6), (100, 6), (100, 6), (100, 30), (11, 18), (100, 3), (100, 5), (100, 40), (100, 8), (100, 8), (100, 4), (100, 4), (100, 6), (100, 6), (100, 6), (100, 6), (100, 6), (100, 30), (6, 6), (112, 5), (100, 4), (100, 4), (11, 18), (100, 3), (100, 5), (100, 40), (100, 8), (100, 8), (100, 4), (100, 4), (100, 6), (100, 6), (100, 6), (100, 6), (100, 6), (100, 30), (11, 18), (100, 3), (100, 5), (100, 40), (100, 8), (100, 8), (100, 4), (100, 4), (100, 6), (100, 6), (100, 6), (100, 6), (100, 6), (100, 30), (11, 18), (100, 3), (100, 5), (100, 40), (100, 8), (100, 8), (100, 4), (100, 4), (100, 6), (100, 6), (100, 6), (100, 6), (100, 6), (100, 30), (11, 18), (100, 3), (100, 5), (100, 40), (100, 8), (100, 8), (100, 4), (100, 4), (100, 6), (100, 6), (100, 6), (100, 6), (100, 6), (100, 30), (11, 18), (100, 3), (100, 5), (100, 40), (100, 8), (100, 8), (100, 4), (100, 4), (100, 6), (100, 6), (100, 6), (100, 6), (100, 6), (100, 30), (13, 36), (100, 136), (100, 136), (100, 136), (100, 136), (100, 5), (100, 200), (100, 8), (100, 4), (100, 4), (101, 40), (100, 30), (100, 30), (100, 4), (100, 4), (102, 160), (100, 4), (100, 4), (100, 4), (100, 30)]
def fRL : List (Nat × Nat × Nat) := [(100, 0, 117), (100, 1, 131), (100, 2, 145), (100, 3, 159), (100, 4, 101), (100, 5, 103), (100, 6, 105), (100, 7, 106), (100, 8, 107), (100, 9, 108), (100, 10, 109), (101, 0, 102), (103, 0, 104), (110, 0, 111), (110, 1, 112), (110, 2, 113), (110, 3, 114), (110, 4, 115), (110, 5, 116), (117, 0, 110), (117, 1, 118), (117, 2, 119), (117, 3, 120), (117, 4, 121), (117, 5, 122), (117, 6, 123), (117, 7, 124), (117, 8, 125), (117, 9, 126), (117, 10, 127), (117, 11, 128), (117, 12, 129), (117, 13, 130), (131, 0, 110), (131, 1, 132), (131, 2, 133), (131, 3, 134), (131, 4, 135), (131, 5, 136), (131, 6, 137), (131, 7, 138), (131, 8, 139), (131, 9, 140), (131, 10, 141), (131, 11, 142), (131, 12, 143), (131, 13, 144), (145, 0, 110), (145, 1, 146), (145, 2, 147), (145, 3, 148), (145, 4, 149), (145, 5, 150), (145, 6, 151), (145, 7, 152), (145, 8, 153), (145, 9, 154), (145, 10, 155), (145, 11, 156), (145, 12, 157), (145, 13, 158), (159, 0, 160), (159, 1, 161), (159, 2, 162), (160, 0, 163), (160, 1, 177), (160, 2, 191), (160, 3, 205), (160, 4, 219), (163, 0, 110), (163, 1, 164), (163, 2, 165), (163, 3, 166), (163, 4, 167), (163, 5, 168), (163, 6, 169), (163, 7, 170), (163, 8, 171), (163, 9, 172), (163, 10, 173), (163, 11, 174), (163, 12, 175), (163, 13, 176), (177, 0, 110), (177, 1, 178), (177, 2, 179), (177, 3, 180), (177, 4, 181), (177, 5, 182), (177, 6, 183), (177, 7, 184), (177, 8, 185), (177, 9, 186), (177, 10, 187), (177, 11, 188), (177, 12, 189), (177, 13, 190), (191, 0, 110), (191, 1, 192), (191, 2, 193), (191, 3, 194), (191, 4, 195), (191, 5, 196), (191, 6, 197), (191, 7, 198), (191, 8, 199), (191, 9, 200), (191, 10, 201), (191, 11, 202), (191, 12, 203), (191, 13, 204), (205, 0, 110), (205, 1, 206), (205, 2, 207), (205, 3, 208), (205, 4, 209), (205, 5, 210), (205, 6, 211), (205, 7, 212), (205, 8, 213), (205, 9, 214), (205, 10, 215), (205, 11, 216), (205, 12, 217), (205, 13, 218), (219, 0, 110), (219, 1, 220), (219, 2, 221), (219, 3, 222), (219, 4, 223), (219, 5, 224), (219, 6, 225), (219, 7, 226), (219, 8, 227), (219, 9, 228), (219, 10, 229), (219, 11, 230), (219, 12, 231), (219, 13, 232), (233, 0, 234), (233, 1, 235), (233, 2, 236), (233, 3, 237), (233, 4, 238), (233, 6, 239), (233, 16, 240), (233, 17, 241), (233, 18, 242), (233, 20, 243), (233, 21, 244), (233, 22, 245), (233, 24, 246), (233, 25, 247), (233, 26, 248), (233, 27, 249), (233, 28, 250), (233, 29, 251), (233, 33, 252)]
def oTL : List (Nat × Nat × Nat) := [(1, 120, 3), (2, 120, 5), (3, 120, 3), (4, 120, 3), (5, 120, 5)]
def FR (h : PH) : Prop := (∀ i, i < 153 → hT h (100 + i) = (fTL.getD i (0, 0)).1 ∧ hL h (100 + i) = (fTL.getD i (0, 0)).2) ∧ (∀ q ∈ fRL, hR h q.1 q.2.1 = some q.2.2) ∧ ∀ q ∈ oTL, hT h q.1 = q.2.1 ∧ hL h q.1 = q.2.2
theorem FR.T {h : PH} (w : FR h) (i : Nat) (hi : Nat.blt i 153 = true) : hT h (100 + i) = (fTL.getD i (0, 0)).1 := (w.1 i (Nat.ble_eq.mp hi)).1
theorem FR.L {h : PH} (w : FR h) (i : Nat) (hi : Nat.blt i 153 = true) : hL h (100 + i) = (fTL.getD i (0, 0)).2 := (w.1 i (Nat.ble_eq.mp hi)).2
theorem FR.R {h : PH} (w : FR h) (j : Nat) {a k x : Nat} (hj : fRL[j]? = some (a, k, x)) : hR h a k = some x := w.2.1 _ (List.mem_of_getElem? hj)
theorem FR.O {h : PH} (w : FR h) (j : Nat) {a t n : Nat} (hj : oTL[j]? = some (a, t, n)) : hT h a = t ∧ hL h a = n := w.2.2 _ (List.mem_of_getElem? hj)
theorem FR.t100 {h : PH} (w : FR h) : hT h 100 = 12 := w.T 0 rfl
theorem FR.t101 {h : PH} (w : FR h) : hT h 101 = 9 := w.T 1 rfl
theorem FR.t102 {h : PH} (w : FR h) : hT h 102 = 100 := w.T 2 rfl
theorem FR.l102 {h : PH} (w : FR h) : hL h 102 = 200 := w.L 2 rfl
theorem FR.t103 {h : PH} (w : FR h) : hT h 103 = 1 := w.T 3 rfl
theorem FR.t104 {h : PH} (w : FR h) : hT h 104 = 100 := w.T 4 rfl
theorem FR.l104 {h : PH} (w : FR h) : hL h 104 = 30 := w.L 4 rfl
theorem FR.t105 {h : PH} (w : FR h) : hT h 105 = 110 := w.T 5 rfl
theorem FR.l105 {h : PH} (w : FR h) : hL h 105 = 4 := w.L 5 rfl
theorem FR.t106 {h : PH} (w : FR h) : hT h 106 = 100 := w.T 6 rfl
theorem FR.l106 {h : PH} (w : FR h) : hL h 106 = 4 := w.L 6 rfl
theorem FR.t107 {h : PH} (w : FR h) : hT h 107 = 110 := w.T 7 rfl
theorem FR.l107 {h : PH} (w : FR h) : hL h 107 = 4 := w.L 7 rfl
theorem FR.t108 {h : PH} (w : FR h) : hT h 108 = 100 := w.T 8 rfl
theorem FR.l108 {h : PH} (w : FR h) : hL h 108 = 30 := w.L 8 rfl
theorem FR.t109 {h : PH} (w : FR h) : hT h 109 = 101 := w.T 9 rfl
theorem FR.l109 {h : PH} (w : FR h) : hL h 109 = 40 := w.L 9 rfl
theorem FR.t110 {h : PH} (w : FR h) : hT h 110 = 111 := w.T 10 rfl
theorem FR.l110 {h : PH} (w : FR h) : hL h 110 = 6 := w.L 10 rfl
theorem FR.t111 {h : PH} (w : FR h) : hT h 111 = 2 := w.T 11 rfl
theorem FR.t112 {h : PH} (w : FR h) : hT h 112 = 7 := w.T 12 rfl
theorem FR.t113 {h : PH} (w : FR h) : hT h 113 = 4 := w.T 13 rfl
theorem FR.t114 {h : PH} (w : FR h) : hT h 114 = 10 := w.T 14 rfl
theorem FR.t115 {h : PH} (w : FR h) : hT h 115 = 3 := w.T 15 rfl
theorem FR.t116 {h : PH} (w : FR h) : hT h 116 = 5 := w.T 16 rfl
theorem FR.t159 {h : PH} (w : FR h) : hT h 159 = 6 := w.T 59 rfl
theorem FR.t160 {h : PH} (w : FR h) : hT h 160 = 112 := w.T 60 rfl
theorem FR.l160 {h : PH} (w : FR h) : hL h 160 = 5 := w.L 60 rfl
theorem FR.t161 {h : PH} (w : FR h) : hT h 161 = 100 := w.T 61 rfl
theorem FR.l161 {h : PH} (w : FR h) : hL h 161 = 4 := w.L 61 rfl
theorem FR.t162 {h : PH} (w : FR h) : hT h 162 = 100 := w.T 62 rfl
theorem FR.l162 {h : PH} (w : FR h) : hL h 162 = 4 := w.L 62 rfl
theorem FR.t233 {h : PH} (w : FR h) : hT h 233 = 13 := w.T 133 rfl
theorem FR.t234 {h : PH} (w : FR h) : hT h 234 = 100 := w.T 134 rfl
theorem FR.l234 {h : PH} (w : FR h) : hL h 234 = 136 := w.L 134 rfl
theorem FR.t235 {h : PH} (w : FR h) : hT h 235 = 100 := w.T 135 rfl
theorem FR.l235 {h : PH} (w : FR h) : hL h 235 = 136 := w.L 135 rfl
theorem FR.t236 {h : PH} (w : FR h) : hT h 236 = 100 := w.T 136 rfl
theorem FR.l236 {h : PH} (w : FR h) : hL h 236 = 136 := w.L 136 rfl
theorem FR.t237 {h : PH} (w : FR h) : hT h 237 = 100 := w.T 137 rfl
theorem FR.l237 {h : PH} (w : FR h) : hL h 237 = 136 := w.L 137 rfl
theorem FR.t238 {h : PH} (w : FR h) : hT h 238 = 100 := w.T 138 rfl
theorem FR.l238 {h : PH} (w : FR h) : hL h 238 = 5 := w.L 138 rfl
theorem FR.t239 {h : PH} (w : FR h) : hT h 239 = 100 := w.T 139 rfl
theorem FR.l239 {h : PH} (w : FR h) : hL h 239 = 200 := w.L 139 rfl
theorem FR.t240 {h : PH} (w : FR h) : hT h 240 = 100 := w.T 140 rfl
theorem FR.l240 {h : PH} (w : FR h) : hL h 240 = 8 := w.L 140 rfl
theorem FR.t241 {h : PH} (w : FR h) : hT h 241 = 100 := w.T 141 rfl
theorem FR.l241 {h : PH} (w : FR h) : hL h 241 = 4 := w.L 141 rfl
theorem FR.t242 {h : PH} (w : FR h) : hT h 242 = 100 := w.T 142 rfl
theorem FR.l242 {h : PH} (w : FR h) : hL h 242 = 4 := w.L 142 rfl
theorem FR.t243 {h : PH} (w : FR h) : hT h 243 = 101 := w.T 143 rfl
theorem FR.l243 {h : PH} (w : FR h) : hL h 243 = 40 := w.L 143 rfl
theorem FR.t244 {h : PH} (w : FR h) : hT h 244 = 100 := w.T 144 rfl
theorem FR.l244 {h : PH} (w : FR h) : hL h 244 = 30 := w.L 144 rfl
theorem FR.t245 {h : PH} (w : FR h) : hT h 245 = 100 := w.T 145 rfl
theorem FR.l245 {h : PH} (w : FR h) : hL h 245 = 30 := w.L 145 rfl
theorem FR.t246 {h : PH} (w : FR h) : hT h 246 = 100 := w.T 146 rfl
theorem FR.l246 {h : PH} (w : FR h) : hL h 246 = 4 := w.L 146 rfl
theorem FR.t247 {h : PH} (w : FR h) : hT h 247 = 100 := w.T 147 rfl
theorem FR.l247 {h : PH} (w : FR h) : hL h 247 = 4 := w.L 147 rfl
theorem FR.t248 {h : PH} (w : FR h) : hT h 248 = 102 := w.T 148 rfl
theorem FR.l248 {h : PH} (w : FR h) : hL h 248 = 160 := w.L 148 rfl
theorem FR.t249 {h : PH} (w : FR h) : hT h 249 = 100 := w.T 149 rfl
theorem FR.l249 {h : PH} (w : FR h) : hL h 249 = 4 := w.L 149 rfl
theorem FR.t250 {h : PH} (w : FR h) : hT h 250 = 100 := w.T 150 rfl
theorem FR.l250 {h : PH} (w : FR h) : hL h 250 = 4 := w.L 150 rfl
theorem FR.t251 {h : PH} (w : FR h) : hT h 251 = 100 := w.T 151 rfl
theorem FR.l251 {h : PH} (w : FR h) : hL h 251 = 4 := w.L 151 rfl
theorem FR.t252 {h : PH} (w : FR h) : hT h 252 = 100 := w.T 152 rfl
theorem FR.l252 {h : PH} (w : FR h) : hL h 252 = 30 := w.L 152 rfl
theorem FR.r100_0 {h : PH} (w : FR h) : hR h 100 0 = some 117 := w.R 0 rfl
theorem FR.r100_1 {h : PH} (w : FR h) : hR h 100 1 = some 131 := w.R 1 rfl
theorem FR.r100_2 {h : PH} (w : FR h) : hR h 100 2 = some 145 := w.R 2 rfl
theorem FR.r100_3 {h : PH} (w : FR h) : hR h 100 3 = some 159 := w.R 3 rfl
theorem FR.r100_4 {h : PH} (w : FR h) : hR h 100 4 = some 101 := w.R 4 rfl
theorem FR.r100_5 {h : PH} (w : FR h) : hR h 100 5 = some 103 := w.R 5 rfl
theorem FR.r100_6 {h : PH} (w : FR h) : hR h 100 6 = some 105 := w.R 6 rfl
theorem FR.r100_7 {h : PH} (w : FR h) : hR h 100 7 = some 106 := w.R 7 rfl
theorem FR.r100_8 {h : PH} (w : FR h) : hR h 100 8 = some 107 := w.R 8 rfl
theorem FR.r100_9 {h : PH} (w : FR h) : hR h 100 9 = some 108 := w.R 9 rfl
theorem FR.r100_10 {h : PH} (w : FR h) : hR h 100 10 = some 109 := w.R 10 rfl
theorem FR.r101_0 {h : PH} (w : FR h) : hR h 101 0 = some 102 := w.R 11 rfl
theorem FR.r103_0 {h : PH} (w : FR h) : hR h 103 0 = some 104 := w.R 12 rfl
theorem FR.r110_0 {h : PH} (w : FR h) : hR h 110 0 = some 111 := w.R 13 rfl
theorem FR.r110_1 {h : PH} (w : FR h) : hR h 110 1 = some 112 := w.R 14 rfl
theorem FR.r110_2 {h : PH} (w : FR h) : hR h 110 2 = some 113 := w.R 15 rfl
theorem FR.r110_3 {h : PH} (w : FR h) : hR h 110 3 = some 114 := w.R 16 rfl
theorem FR.r110_4 {h : PH} (w : FR h) : hR h 110 4 = some 115 := w.R 17 rfl
theorem FR.r110_5 {h : PH} (w : FR h) : hR h 110 5 = some 116 := w.R 18 rfl
theorem FR.r159_0 {h : PH} (w : FR h) : hR h 159 0 = some 160 := w.R 61 rfl
theorem FR.r159_1 {h : PH} (w : FR h) : hR h 159 1 = some 161 := w.R 62 rfl
theorem FR.r159_2 {h : PH} (w : FR h) : hR h 159 2 = some 162 := w.R 63 rfl
theorem FR.r160_0 {h : PH} (w : FR h) : hR h 160 0 = some 163 := w.R 64 rfl
theorem FR.r160_1 {h : PH} (w : FR h) : hR h 160 1 = some 177 := w.R 65 rfl
theorem FR.r160_2 {h : PH} (w : FR h) : hR h 160 2 = some 191 := w.R 66 rfl
theorem FR.r160_3 {h : PH} (w : FR h) : hR h 160 3 = some 205 := w.R 67 rfl
theorem FR.r160_4 {h : PH} (w : FR h) : hR h 160 4 = some 219 := w.R 68 rfl
theorem FR.r233_0 {h : PH} (w : FR h) : hR h 233 0 = some 234 := w.R 139 rfl
theorem FR.r233_1 {h : PH} (w : FR h) : hR h 233 1 = some 235 := w.R 140 rfl
theorem FR.r233_2 {h : PH} (w : FR h) : hR h 233 2 = some 236 := w.R 141 rfl
theorem FR.r233_3 {h : PH} (w : FR h) : hR h 233 3 = some 237 := w.R 142 rfl
theorem FR.r233_4 {h : PH} (w : FR h) : hR h 233 4 = some 238 := w.R 143 rfl
theorem FR.r233_6 {h : PH} (w : FR h) : hR h 233 6 = some 239 := w.R 144 rfl
theorem FR.r233_16 {h : PH} (w : FR h) : hR h 233 16 = some 240 := w.R 145 rfl
theorem FR.r233_17 {h : PH} (w : FR h) : hR h 233 17 = some 241 := w.R 146 rfl
theorem FR.r233_18 {h : PH} (w : FR h) : hR h 233 18 = some 242 := w.R 147 rfl
theorem FR.r233_20 {h : PH} (w : FR h) : hR h 233 20 = some 243 := w.R 148 rfl
theorem FR.r233_21 {h : PH} (w : FR h) : hR h 233 21 = some 244 := w.R 149 rfl
theorem FR.r233_22 {h : PH} (w : FR h) : hR h 233 22 = some 245 := w.R 150 rfl
theorem FR.r233_24 {h : PH} (w : FR h) : hR h 233 24 = some 246 := w.R 151 rfl
theorem FR.r233_25 {h : PH} (w : FR h) : hR h 233 25 = some 247 := w.R 152 rfl
theorem FR.r233_26 {h : PH} (w : FR h) : hR h 233 26 = some 248 := w.R 153 rfl
theorem FR.r233_27 {h : PH} (w : FR h) : hR h 233 27 = some 249 := w.R 154 rfl
theorem FR.r233_28 {h : PH} (w : FR h) : hR h 233 28 = some 250 := w.R 155 rfl
theorem FR.r233_29 {h : PH} (w : FR h) : hR h 233 29 = some 251 := w.R 156 rfl
theorem FR.r233_33 {h : PH} (w : FR h) : hR h 233 33 = some 252 := w.R 157 rfl
theorem FR.o1 {h : PH} (w : FR h) : hT h 1 = 120 := (w.O 0 rfl).1
theorem FR.p1 {h : PH} (w : FR h) : hL h 1 = 3 := (w.O 0 rfl).2
theorem FR.o2 {h : PH} (w : FR h) : hT h 2 = 120 := (w.O 1 rfl).1
theorem FR.p2 {h : PH} (w : FR h) : hL h 2 = 5 := (w.O 1 rfl).2
theorem FR.o3 {h : PH} (w : FR h) : hT h 3 = 120 := (w.O 2 rfl).1
theorem FR.p3 {h : PH} (w : FR h) : hL h 3 = 3 := (w.O 2 rfl).2
theorem FR.o4 {h : PH} (w : FR h) : hT h 4 = 120 := (w.O 3 rfl).1
theorem FR.p4 {h : PH} (w : FR h) : hL h 4 = 3 := (w.O 3 rfl).2
theorem FR.o5 {h : PH} (w : FR h) : hT h 5 = 120 := (w.O 4 rfl).1
theorem FR.p5 {h : PH} (w : FR h) : hL h 5 = 5 := (w.O 4 rfl).2
theorem FR.w117 {h : PH} (w : FR h) : WB h 117 := by
  refine ⟨w.T 17 rfl, w.R 19 rfl, fun c h1 h2 => ?_⟩
  match c, h1, h2 with
  | 1, _, _ => exact ⟨w.R 20 rfl, w.T 18 rfl, w.L 18 rfl⟩
  | 2, _, _ => exact ⟨w.R 21 rfl, w.T 19 rfl, w.L 19 rfl⟩
  | 3, _, _ => exact ⟨w.R 22 rfl, w.T 20 rfl, w.L 20 rfl⟩
  | 4, _, _ => exact ⟨w.R 23 rfl, w.T 21 rfl, w.L 21 rfl⟩
  | 5, _, _ => exact ⟨w.R 24 rfl, w.T 22 rfl, w.L 22 rfl⟩
  | 6, _, _ => exact ⟨w.R 25 rfl, w.T 23 rfl, w.L 23 rfl⟩
  | 7, _, _ => exact ⟨w.R 26 rfl, w.T 24 rfl, w.L 24 rfl⟩
  | 8, _, _ => exact ⟨w.R 27 rfl, w.T 25 rfl, w.L 25 rfl⟩
  | 9, _, _ => exact ⟨w.R 28 rfl, w.T 26 rfl, w.L 26 rfl⟩
  | 10, _, _ => exact ⟨w.R 29 rfl, w.T 27 rfl, w.L 27 rfl⟩
  | 11, _, _ => exact ⟨w.R 30 rfl, w.T 28 rfl, w.L 28 rfl⟩
  | 12, _, _ => exact ⟨w.R 31 rfl, w.T 29 rfl, w.L 29 rfl⟩
  | 13, _, _ => exact ⟨w.R 32 rfl, w.T 30 rfl, w.L 30 rfl⟩
  | c + 14, _, h2 => omega
theorem FR.w131 {h : PH} (w : FR h) : WB h 131 := by
  refine ⟨w.T 31 rfl, w.R 33 rfl, fun c h1 h2 => ?_⟩
  match c, h1, h2 with
  | 1, _, _ => exact ⟨w.R 34 rfl, w.T 32 rfl, w.L 32 rfl⟩
  | 2, _, _ => exact ⟨w.R 35 rfl, w.T 33 rfl, w.L 33 rfl⟩
  | 3, _, _ => exact ⟨w.R 36 rfl, w.T 34 rfl, w.L 34 rfl⟩
  | 4, _, _ => exact ⟨w.R 37 rfl, w.T 35 rfl, w.L 35 rfl⟩
  | 5, _, _ => exact ⟨w.R 38 rfl, w.T 36 rfl, w.L 36 rfl⟩
  | 6, _, _ => exact ⟨w.R 39 rfl, w.T 37 rfl, w.L 37 rfl⟩
  | 7, _, _ => exact ⟨w.R 40 rfl, w.T 38 rfl, w.L 38 rfl⟩
  | 8, _, _ => exact ⟨w.R 41 rfl, w.T 39 rfl, w.L 39 rfl⟩
  | 9, _, _ => exact ⟨w.R 42 rfl, w.T 40 rfl, w.L 40 rfl⟩
  | 10, _, _ => exact ⟨w.R 43 rfl, w.T 41 rfl, w.L 41 rfl⟩
  | 11, _, _ => exact ⟨w.R 44 rfl, w.T 42 rfl, w.L 42 rfl⟩
  | 12, _, _ => exact ⟨w.R 45 rfl, w.T 43 rfl, w.L 43 rfl⟩
  | 13, _, _ => exact ⟨w.R 46 rfl, w.T 44 rfl, w.L 44 rfl⟩
  | c + 14, _, h2 => omega
theorem FR.w145 {h : PH} (w : FR h) : WB h 145 := by
  refine ⟨w.T 45 rfl, w.R 47 rfl, fun c h1 h2 => ?_⟩
  match c, h1, h2 with
  | 1, _, _ => exact ⟨w.R 48 rfl, w.T 46 rfl, w.L 46 rfl⟩
  | 2, _, _ => exact ⟨w.R 49 rfl, w.T 47 rfl, w.L 47 rfl⟩
  | 3, _, _ => exact ⟨w.R 50 rfl, w.T 48 rfl, w.L 48 rfl⟩
  | 4, _, _ => exact ⟨w.R 51 rfl, w.T 49 rfl, w.L 49 rfl⟩
  | 5, _, _ => exact ⟨w.R 52 rfl, w.T 50 rfl, w.L 50 rfl⟩
  | 6, _, _ => exact ⟨w.R 53 rfl, w.T 51 rfl, w.L 51 rfl⟩
  | 7, _, _ => exact ⟨w.R 54 rfl, w.T 52 rfl, w.L 52 rfl⟩
  | 8, _, _ => exact ⟨w.R 55 rfl, w.T 53 rfl, w.L 53 rfl⟩
  | 9, _, _ => exact ⟨w.R 56 rfl, w.T 54 rfl, w.L 54 rfl⟩
  | 10, _, _ => exact ⟨w.R 57 rfl, w.T 55 rfl, w.L 55 rfl⟩
  | 11, _, _ => exact ⟨w.R 58 rfl, w.T 56 rfl, w.L 56 rfl⟩
  | 12, _, _ => exact ⟨w.R 59 rfl, w.T 57 rfl, w.L 57 rfl⟩
  | 13, _, _ => exact ⟨w.R 60 rfl, w.T 58 rfl, w.L 58 rfl⟩
  | c + 14, _, h2 => omega
theorem FR.w163 {h : PH} (w : FR h) : WB h 163 := by
  refine ⟨w.T 63 rfl, w.R 69 rfl, fun c h1 h2 => ?_⟩
  match c, h1, h2 with
  | 1, _, _ => exact ⟨w.R 70 rfl, w.T 64 rfl, w.L 64 rfl⟩
  | 2, _, _ => exact ⟨w.R 71 rfl, w.T 65 rfl, w.L 65 rfl⟩
  | 3, _, _ => exact ⟨w.R 72 rfl, w.T 66 rfl, w.L 66 rfl⟩
  | 4, _, _ => exact ⟨w.R 73 rfl, w.T 67 rfl, w.L 67 rfl⟩
  | 5, _, _ => exact ⟨w.R 74 rfl, w.T 68 rfl, w.L 68 rfl⟩
  | 6, _, _ => exact ⟨w.R 75 rfl, w.T 69 rfl, w.L 69 rfl⟩
  | 7, _, _ => exact ⟨w.R 76 rfl, w.T 70 rfl, w.L 70 rfl⟩
  | 8, _, _ => exact ⟨w.R 77 rfl, w.T 71 rfl, w.L 71 rfl⟩
  | 9, _, _ => exact ⟨w.R 78 rfl, w.T 72 rfl, w.L 72 rfl⟩
  | 10, _, _ => exact ⟨w.R 79 rfl, w.T 73 rfl, w.L 73 rfl⟩
  | 11, _, _ => exact ⟨w.R 80 rfl, w.T 74 rfl, w.L 74 rfl⟩
  | 12, _, _ => exact ⟨w.R 81 rfl, w.T 75 rfl, w.L 75 rfl⟩
  | 13, _, _ => exact ⟨w.R 82 rfl, w.T 76 rfl, w.L 76 rfl⟩
  | c + 14, _, h2 => omega
theorem FR.w177 {h : PH} (w : FR h) : WB h 177 := by
  refine ⟨w.T 77 rfl, w.R 83 rfl, fun c h1 h2 => ?_⟩
  match c, h1, h2 with
  | 1, _, _ => exact ⟨w.R 84 rfl, w.T 78 rfl, w.L 78 rfl⟩
  | 2, _, _ => exact ⟨w.R 85 rfl, w.T 79 rfl, w.L 79 rfl⟩
  | 3, _, _ => exact ⟨w.R 86 rfl, w.T 80 rfl, w.L 80 rfl⟩
  | 4, _, _ => exact ⟨w.R 87 rfl, w.T 81 rfl, w.L 81 rfl⟩
  | 5, _, _ => exact ⟨w.R 88 rfl, w.T 82 rfl, w.L 82 rfl⟩
  | 6, _, _ => exact ⟨w.R 89 rfl, w.T 83 rfl, w.L 83 rfl⟩
  | 7, _, _ => exact ⟨w.R 90 rfl, w.T 84 rfl, w.L 84 rfl⟩
  | 8, _, _ => exact ⟨w.R 91 rfl, w.T 85 rfl, w.L 85 rfl⟩
  | 9, _, _ => exact ⟨w.R 92 rfl, w.T 86 rfl, w.L 86 rfl⟩
  | 10, _, _ => exact ⟨w.R 93 rfl, w.T 87 rfl, w.L 87 rfl⟩
  | 11, _, _ => exact ⟨w.R 94 rfl, w.T 88 rfl, w.L 88 rfl⟩
  | 12, _, _ => exact ⟨w.R 95 rfl, w.T 89 rfl, w.L 89 rfl⟩
  | 13, _, _ => exact ⟨w.R 96 rfl, w.T 90 rfl, w.L 90 rfl⟩
  | c + 14, _, h2 => omega
theorem FR.w191 {h : PH} (w : FR h) : WB h 191 := by
  refine ⟨w.T 91 rfl, w.R 97 rfl, fun c h1 h2 => ?_⟩
  match c, h1, h2 with
  | 1, _, _ => exact ⟨w.R 98 rfl, w.T 92 rfl, w.L 92 rfl⟩
  | 2, _, _ => exact ⟨w.R 99 rfl, w.T 93 rfl, w.L 93 rfl⟩
  | 3, _, _ => exact ⟨w.R 100 rfl, w.T 94 rfl, w.L 94 rfl⟩
  | 4, _, _ => exact ⟨w.R 101 rfl, w.T 95 rfl, w.L 95 rfl⟩
  | 5, _, _ => exact ⟨w.R 102 rfl, w.T 96 rfl, w.L 96 rfl⟩
  | 6, _, _ => exact ⟨w.R 103 rfl, w.T 97 rfl, w.L 97 rfl⟩
  | 7, _, _ => exact ⟨w.R 104 rfl, w.T 98 rfl, w.L 98 rfl⟩
  | 8, _, _ => exact ⟨w.R 105 rfl, w.T 99 rfl, w.L 99 rfl⟩
  | 9, _, _ => exact ⟨w.R 106 rfl, w.T 100 rfl, w.L 100 rfl⟩
  | 10, _, _ => exact ⟨w.R 107 rfl, w.T 101 rfl, w.L 101 rfl⟩
  | 11, _, _ => exact ⟨w.R 108 rfl, w.T 102 rfl, w.L 102 rfl⟩
  | 12, _, _ => exact ⟨w.R 109 rfl, w.T 103 rfl, w.L 103 rfl⟩
  | 13, _, _ => exact ⟨w.R 110 rfl, w.T 104 rfl, w.L 104 rfl⟩
  | c + 14, _, h2 => omega
theorem FR.w205 {h : PH} (w : FR h) : WB h 205 := by
  refine ⟨w.T 105 rfl, w.R 111 rfl, fun c h1 h2 => ?_⟩
  match c, h1, h2 with
  | 1, _, _ => exact ⟨w.R 112 rfl, w.T 106 rfl, w.L 106 rfl⟩
  | 2, _, _ => exact ⟨w.R 113 rfl, w.T 107 rfl, w.L 107 rfl⟩
  | 3, _, _ => exact ⟨w.R 114 rfl, w.T 108 rfl, w.L 108 rfl⟩
  | 4, _, _ => exact ⟨w.R 115 rfl, w.T 109 rfl, w.L 109 rfl⟩
  | 5, _, _ => exact ⟨w.R 116 rfl, w.T 110 rfl, w.L 110 rfl⟩
  | 6, _, _ => exact ⟨w.R 117 rfl, w.T 111 rfl, w.L 111 rfl⟩
  | 7, _, _ => exact ⟨w.R 118 rfl, w.T 112 rfl, w.L 112 rfl⟩
  | 8, _, _ => exact ⟨w.R 119 rfl, w.T 113 rfl, w.L 113 rfl⟩
  | 9, _, _ => exact ⟨w.R 120 rfl, w.T 114 rfl, w.L 114 rfl⟩
  | 10, _, _ => exact ⟨w.R 121 rfl, w.T 115 rfl, w.L 115 rfl⟩
  | 11, _, _ => exact ⟨w.R 122 rfl, w.T 116 rfl, w.L 116 rfl⟩
  | 12, _, _ => exact ⟨w.R 123 rfl, w.T 117 rfl, w.L 117 rfl⟩
  | 13, _, _ => exact ⟨w.R 124 rfl, w.T 118 rfl, w.L 118 rfl⟩
  | c + 14, _, h2 => omega
theorem FR.w219 {h : PH} (w : FR h) : WB h 219 := by
  refine ⟨w.T 119 rfl, w.R 125 rfl, fun c h1 h2 => ?_⟩
  match c, h1, h2 with
  | 1, _, _ => exact ⟨w.R 126 rfl, w.T 120 rfl, w.L 120 rfl⟩
  | 2, _, _ => exact ⟨w.R 127 rfl, w.T 121 rfl, w.L 121 rfl⟩
  | 3, _, _ => exact ⟨w.R 128 rfl, w.T 122 rfl, w.L 122 rfl⟩
  | 4, _, _ => exact ⟨w.R 129 rfl, w.T 123 rfl, w.L 123 rfl⟩
  | 5, _, _ => exact ⟨w.R 130 rfl, w.T 124 rfl, w.L 124 rfl⟩
  | 6, _, _ => exact ⟨w.R 131 rfl, w.T 125 rfl, w.L 125 rfl⟩
  | 7, _, _ => exact ⟨w.R 132 rfl, w.T 126 rfl, w.L 126 rfl⟩
  | 8, _, _ => exact ⟨w.R 133 rfl, w.T 127 rfl, w.L 127 rfl⟩
  | 9, _, _ => exact ⟨w.R 134 rfl, w.T 128 rfl, w.L 128 rfl⟩
  | 10, _, _ => exact ⟨w.R 135 rfl, w.T 129 rfl, w.L 129 rfl⟩
  | 11, _, _ => exact ⟨w.R 136 rfl, w.T 130 rfl, w.L 130 rfl⟩
  | 12, _, _ => exact ⟨w.R 137 rfl, w.T 131 rfl, w.L 131 rfl⟩
  | 13, _, _ => exact ⟨w.R 138 rfl, w.T 132 rfl, w.L 132 rfl⟩
  | c + 14, _, h2 => omega
end
