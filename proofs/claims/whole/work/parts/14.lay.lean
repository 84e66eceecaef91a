/-! PURE: where the constructors lay their cells -/
def KT : List (Nat × Nat) := [(11, 0), (10, 0), (16, 260), (2, 0), (13, 200), (15, 200), (15, 200), (14, 6), (14, 6), (7, 0), (15, 20), (19, 7), (3, 0), (14, 21), (14, 21), (14, 105), (14, 32), (3, 0), (14, 21), (14, 21), (14, 105), (14, 32), (3, 0), (14, 21), (14, 21), (14, 105), (14, 32), (3, 0), (14, 21), (14, 21), (14, 105), (14, 32), (3, 0), (14, 21), (14, 21), (14, 105), (14, 32), (3, 0), (14, 21), (14, 21), (14, 105), (14, 32), (3, 0), (14, 21), (14, 21), (14, 105), (14, 32), (14, 21), (20, 60), (4, 0), (14, 6), (17, 6), (14, 6), (14, 6), (14, 6), (4, 0), (14, 6), (17, 6), (14, 6), (14, 6), (14, 6), (8, 0), (14, 60), (14, 60), (14, 60), (14, 48), (14, 8), (6, 0), (18, 120), (0, 0), (0, 0), (0, 0), (0, 0), (0, 0), (0, 0), (0, 0), (0, 0), (0, 0), (0, 0), (0, 0), (0, 0), (0, 0), (0, 0), (0, 0), (0, 0), (0, 0), (0, 0), (0, 0), (0, 0), (0, 0), (0, 0), (0, 0), (0, 0), (0, 0), (0, 0), (0, 0), (0, 0), (0, 0), (0, 0), (0, 0), (0, 0), (0, 0), (0, 0), (0, 0), (0, 0), (0, 0), (0, 0), (0, 0), (0, 0), (0, 0), (0, 0), (0, 0), (0, 0), (0, 0), (0, 0), (0, 0), (0, 0), (0, 0), (0, 0), (0, 0), (0, 0), (0, 0), (0, 0), (0, 0), (0, 0), (0, 0), (0, 0), (0, 0), (0, 0), (0, 0), (0, 0), (0, 0), (0, 0), (0, 0), (0, 0), (0, 0), (0, 0), (0, 0), (0, 0), (0, 0), (0, 0), (0, 0), (0, 0), (0, 0), (0, 0), (0, 0), (0, 0), (0, 0), (0, 0), (0, 0), (0, 0), (0, 0), (0, 0), (0, 0), (0, 0), (0, 0), (0, 0), (0, 0), (0, 0), (0, 0), (0, 0), (0, 0), (0, 0), (0, 0), (0, 0), (0, 0), (0, 0), (0, 0), (0, 0), (0, 0), (0, 0), (0, 0), (0, 0), (0, 0), (0, 0), (0, 0), (0, 0), (0, 0), (0, 0), (0, 0), (0, 0), (0, 0), (0, 0), (0, 0), (0, 0), (0, 0), (0, 0), (0, 0), (0, 0), (14, 2), (5, 0), (14, 12), (14, 12), (14, 12), (14, 12), (12, 0), (14, 260), (14, 25200), (14, 25200), (14, 25200), (15, 25200), (15, 25200), (14, 60), (14, 60), (14, 60), (14, 60), (17, 60), (17, 20), (15, 20), (14, 256), (14, 6), (14, 6), (14, 6), (14, 6), (17, 6), (14, 6), (14, 6), (14, 6), (14, 6), (17, 6), (14, 48), (14, 49), (14, 8), (14, 120), (14, 120), (14, 120), (14, 120), (17, 120), (17, 120), (14, 12), (14, 12), (14, 12), (14, 12), (15, 1)]
def RT : List (Nat × Nat × Nat) := [(0, 0, 1), (0, 1, 3), (0, 2, 9), (0, 3, 48), (0, 8, 61), (0, 9, 67), (0, 10, 190), (1, 0, 2), (3, 0, 4), (3, 1, 5), (3, 2, 6), (3, 4, 7), (3, 5, 8), (9, 0, 10), (9, 2, 11), (9, 4, 47), (12, 0, 13), (12, 1, 14), (12, 2, 15), (12, 4, 16), (11, 0, 12), (17, 0, 18), (17, 1, 19), (17, 2, 20), (17, 4, 21), (11, 1, 17), (22, 0, 23), (22, 1, 24), (22, 2, 25), (22, 4, 26), (11, 2, 22), (27, 0, 28), (27, 1, 29), (27, 2, 30), (27, 4, 31), (11, 3, 27), (32, 0, 33), (32, 1, 34), (32, 2, 35), (32, 4, 36), (11, 4, 32), (37, 0, 38), (37, 1, 39), (37, 2, 40), (37, 4, 41), (11, 5, 37), (42, 0, 43), (42, 1, 44), (42, 2, 45), (42, 4, 46), (11, 6, 42), (49, 2, 50), (49, 3, 51), (49, 4, 52), (49, 5, 53), (49, 6, 54), (55, 2, 56), (55, 3, 57), (55, 4, 58), (55, 5, 59), (55, 6, 60), (61, 4, 62), (61, 5, 63), (61, 6, 64), (61, 8, 65), (61, 10, 66), (68, 0, 69), (68, 1, 70), (68, 2, 71), (68, 3, 72), (68, 4, 73), (68, 5, 74), (68, 6, 75), (68, 7, 76), (68, 8, 77), (68, 9, 78), (68, 10, 79), (68, 11, 80), (68, 12, 81), (68, 13, 82), (68, 14, 83), (68, 15, 84), (68, 16, 85), (68, 17, 86), (68, 18, 87), (68, 19, 88), (68, 20, 89), (68, 21, 90), (68, 22, 91), (68, 23, 92), (68, 24, 93), (68, 25, 94), (68, 26, 95), (68, 27, 96), (68, 28, 97), (68, 29, 98), (68, 30, 99), (68, 31, 100), (68, 32, 101), (68, 33, 102), (68, 34, 103), (68, 35, 104), (68, 36, 105), (68, 37, 106), (68, 38, 107), (68, 39, 108), (68, 40, 109), (68, 41, 110), (68, 42, 111), (68, 43, 112), (68, 44, 113), (68, 45, 114), (68, 46, 115), (68, 47, 116), (68, 48, 117), (68, 49, 118), (68, 50, 119), (68, 51, 120), (68, 52, 121), (68, 53, 122), (68, 54, 123), (68, 55, 124), (68, 56, 125), (68, 57, 126), (68, 58, 127), (68, 59, 128), (68, 60, 129), (68, 61, 130), (68, 62, 131), (68, 63, 132), (68, 64, 133), (68, 65, 134), (68, 66, 135), (68, 67, 136), (68, 68, 137), (68, 69, 138), (68, 70, 139), (68, 71, 140), (68, 72, 141), (68, 73, 142), (68, 74, 143), (68, 75, 144), (68, 76, 145), (68, 77, 146), (68, 78, 147), (68, 79, 148), (68, 80, 149), (68, 81, 150), (68, 82, 151), (68, 83, 152), (68, 84, 153), (68, 85, 154), (68, 86, 155), (68, 87, 156), (68, 88, 157), (68, 89, 158), (68, 90, 159), (68, 91, 160), (68, 92, 161), (68, 93, 162), (68, 94, 163), (68, 95, 164), (68, 96, 165), (68, 97, 166), (68, 98, 167), (68, 99, 168), (68, 100, 169), (68, 101, 170), (68, 102, 171), (68, 103, 172), (68, 104, 173), (68, 105, 174), (68, 106, 175), (68, 107, 176), (68, 108, 177), (68, 109, 178), (68, 110, 179), (68, 111, 180), (68, 112, 181), (68, 113, 182), (68, 114, 183), (68, 115, 184), (68, 116, 185), (68, 117, 186), (68, 118, 187), (68, 119, 188), (67, 2, 68), (67, 8, 189), (190, 0, 191), (190, 1, 192), (190, 2, 193), (190, 3, 194), (195, 1, 196), (195, 11, 197), (195, 12, 198), (195, 13, 199), (195, 14, 200), (195, 15, 201), (195, 19, 202), (195, 20, 203), (195, 21, 204), (195, 22, 205), (195, 23, 206), (195, 24, 207), (195, 25, 208), (195, 27, 209), (195, 29, 210), (195, 30, 211), (195, 31, 212), (195, 32, 213), (195, 33, 214), (195, 34, 215), (195, 35, 216), (195, 36, 217), (195, 37, 218), (195, 38, 219), (195, 41, 220), (195, 42, 221), (195, 43, 222), (195, 56, 223), (195, 57, 224), (195, 58, 225), (195, 59, 226), (195, 60, 227), (195, 61, 228), (195, 62, 229), (195, 63, 230), (195, 64, 231), (195, 65, 232)]
def Lay (g : Gh) (M : Mem) : Prop := gB g + 234 ≤ mT M ∧ (∀ i, i < 234 → mK M (gB g + i) = (KT.getD i (0, 0)).1 ∧ mN M (gB g + i) = (KT.getD i (0, 0)).2) ∧ (∀ r ∈ RT, mR M (gB g + r.1) r.2.1 = some (gB g + r.2.2))
theorem Lay.ok {g : Gh} {M : Mem} (h : Lay g M) {i kd : Nat} (hi : i < 234) (hk : (KT.getD i (0, 0)).1 = kd) : okc (gB g) M (gB g + i) kd := ⟨Nat.le_add_right _ _, Nat.lt_of_lt_of_le (Nat.add_lt_add_left hi _) h.1, ((h.2.1 i hi).1).trans hk⟩
theorem Lay.ln {g : Gh} {M : Mem} (h : Lay g M) {i n : Nat} (hi : i < 234) (hk : (KT.getD i (0, 0)).2 = n) : mN M (gB g + i) = n := ((h.2.1 i hi).2).trans hk
theorem lk_0 {g : Gh} {M : Mem} (h : Lay g M) : okc (gB g) M (gB g) 11 := h.ok (i := 0) (by decide) rfl
theorem lk_1 {g : Gh} {M : Mem} (h : Lay g M) : okc (gB g) M (gB g + 1) 10 := h.ok (i := 1) (by decide) rfl
theorem lk_2 {g : Gh} {M : Mem} (h : Lay g M) : okc (gB g) M (gB g + 2) 16 := h.ok (i := 2) (by decide) rfl
theorem ln_2 {g : Gh} {M : Mem} (h : Lay g M) : mN M (gB g + 2) = 260 := h.ln (i := 2) (by decide) rfl
theorem lk_3 {g : Gh} {M : Mem} (h : Lay g M) : okc (gB g) M (gB g + 3) 2 := h.ok (i := 3) (by decide) rfl
theorem lk_4 {g : Gh} {M : Mem} (h : Lay g M) : okc (gB g) M (gB g + 4) 13 := h.ok (i := 4) (by decide) rfl
theorem ln_4 {g : Gh} {M : Mem} (h : Lay g M) : mN M (gB g + 4) = 200 := h.ln (i := 4) (by decide) rfl
theorem lk_5 {g : Gh} {M : Mem} (h : Lay g M) : okc (gB g) M (gB g + 5) 15 := h.ok (i := 5) (by decide) rfl
theorem ln_5 {g : Gh} {M : Mem} (h : Lay g M) : mN M (gB g + 5) = 200 := h.ln (i := 5) (by decide) rfl
theorem lk_6 {g : Gh} {M : Mem} (h : Lay g M) : okc (gB g) M (gB g + 6) 15 := h.ok (i := 6) (by decide) rfl
theorem ln_6 {g : Gh} {M : Mem} (h : Lay g M) : mN M (gB g + 6) = 200 := h.ln (i := 6) (by decide) rfl
theorem lk_7 {g : Gh} {M : Mem} (h : Lay g M) : okc (gB g) M (gB g + 7) 14 := h.ok (i := 7) (by decide) rfl
theorem ln_7 {g : Gh} {M : Mem} (h : Lay g M) : mN M (gB g + 7) = 6 := h.ln (i := 7) (by decide) rfl
theorem lk_8 {g : Gh} {M : Mem} (h : Lay g M) : okc (gB g) M (gB g + 8) 14 := h.ok (i := 8) (by decide) rfl
theorem ln_8 {g : Gh} {M : Mem} (h : Lay g M) : mN M (gB g + 8) = 6 := h.ln (i := 8) (by decide) rfl
theorem lk_9 {g : Gh} {M : Mem} (h : Lay g M) : okc (gB g) M (gB g + 9) 7 := h.ok (i := 9) (by decide) rfl
theorem lk_10 {g : Gh} {M : Mem} (h : Lay g M) : okc (gB g) M (gB g + 10) 15 := h.ok (i := 10) (by decide) rfl
theorem ln_10 {g : Gh} {M : Mem} (h : Lay g M) : mN M (gB g + 10) = 20 := h.ln (i := 10) (by decide) rfl
theorem lk_11 {g : Gh} {M : Mem} (h : Lay g M) : okc (gB g) M (gB g + 11) 19 := h.ok (i := 11) (by decide) rfl
theorem ln_11 {g : Gh} {M : Mem} (h : Lay g M) : mN M (gB g + 11) = 7 := h.ln (i := 11) (by decide) rfl
theorem lk_12 {g : Gh} {M : Mem} (h : Lay g M) : okc (gB g) M (gB g + 12) 3 := h.ok (i := 12) (by decide) rfl
theorem lk_13 {g : Gh} {M : Mem} (h : Lay g M) : okc (gB g) M (gB g + 13) 14 := h.ok (i := 13) (by decide) rfl
theorem ln_13 {g : Gh} {M : Mem} (h : Lay g M) : mN M (gB g + 13) = 21 := h.ln (i := 13) (by decide) rfl
theorem lk_14 {g : Gh} {M : Mem} (h : Lay g M) : okc (gB g) M (gB g + 14) 14 := h.ok (i := 14) (by decide) rfl
theorem ln_14 {g : Gh} {M : Mem} (h : Lay g M) : mN M (gB g + 14) = 21 := h.ln (i := 14) (by decide) rfl
theorem lk_15 {g : Gh} {M : Mem} (h : Lay g M) : okc (gB g) M (gB g + 15) 14 := h.ok (i := 15) (by decide) rfl
theorem ln_15 {g : Gh} {M : Mem} (h : Lay g M) : mN M (gB g + 15) = 105 := h.ln (i := 15) (by decide) rfl
theorem lk_16 {g : Gh} {M : Mem} (h : Lay g M) : okc (gB g) M (gB g + 16) 14 := h.ok (i := 16) (by decide) rfl
theorem ln_16 {g : Gh} {M : Mem} (h : Lay g M) : mN M (gB g + 16) = 32 := h.ln (i := 16) (by decide) rfl
theorem lk_17 {g : Gh} {M : Mem} (h : Lay g M) : okc (gB g) M (gB g + 17) 3 := h.ok (i := 17) (by decide) rfl
theorem lk_18 {g : Gh} {M : Mem} (h : Lay g M) : okc (gB g) M (gB g + 18) 14 := h.ok (i := 18) (by decide) rfl
theorem ln_18 {g : Gh} {M : Mem} (h : Lay g M) : mN M (gB g + 18) = 21 := h.ln (i := 18) (by decide) rfl
theorem lk_19 {g : Gh} {M : Mem} (h : Lay g M) : okc (gB g) M (gB g + 19) 14 := h.ok (i := 19) (by decide) rfl
theorem ln_19 {g : Gh} {M : Mem} (h : Lay g M) : mN M (gB g + 19) = 21 := h.ln (i := 19) (by decide) rfl
theorem lk_20 {g : Gh} {M : Mem} (h : Lay g M) : okc (gB g) M (gB g + 20) 14 := h.ok (i := 20) (by decide) rfl
theorem ln_20 {g : Gh} {M : Mem} (h : Lay g M) : mN M (gB g + 20) = 105 := h.ln (i := 20) (by decide) rfl
theorem lk_21 {g : Gh} {M : Mem} (h : Lay g M) : okc (gB g) M (gB g + 21) 14 := h.ok (i := 21) (by decide) rfl
theorem ln_21 {g : Gh} {M : Mem} (h : Lay g M) : mN M (gB g + 21) = 32 := h.ln (i := 21) (by decide) rfl
theorem lk_22 {g : Gh} {M : Mem} (h : Lay g M) : okc (gB g) M (gB g + 22) 3 := h.ok (i := 22) (by decide) rfl
theorem lk_23 {g : Gh} {M : Mem} (h : Lay g M) : okc (gB g) M (gB g + 23) 14 := h.ok (i := 23) (by decide) rfl
theorem ln_23 {g : Gh} {M : Mem} (h : Lay g M) : mN M (gB g + 23) = 21 := h.ln (i := 23) (by decide) rfl
theorem lk_24 {g : Gh} {M : Mem} (h : Lay g M) : okc (gB g) M (gB g + 24) 14 := h.ok (i := 24) (by decide) rfl
theorem ln_24 {g : Gh} {M : Mem} (h : Lay g M) : mN M (gB g + 24) = 21 := h.ln (i := 24) (by decide) rfl
theorem lk_25 {g : Gh} {M : Mem} (h : Lay g M) : okc (gB g) M (gB g + 25) 14 := h.ok (i := 25) (by decide) rfl
theorem ln_25 {g : Gh} {M : Mem} (h : Lay g M) : mN M (gB g + 25) = 105 := h.ln (i := 25) (by decide) rfl
theorem lk_26 {g : Gh} {M : Mem} (h : Lay g M) : okc (gB g) M (gB g + 26) 14 := h.ok (i := 26) (by decide) rfl
theorem ln_26 {g : Gh} {M : Mem} (h : Lay g M) : mN M (gB g + 26) = 32 := h.ln (i := 26) (by decide) rfl
theorem lk_27 {g : Gh} {M : Mem} (h : Lay g M) : okc (gB g) M (gB g + 27) 3 := h.ok (i := 27) (by decide) rfl
theorem lk_28 {g : Gh} {M : Mem} (h : Lay g M) : okc (gB g) M (gB g + 28) 14 := h.ok (i := 28) (by decide) rfl
theorem ln_28 {g : Gh} {M : Mem} (h : Lay g M) : mN M (gB g + 28) = 21 := h.ln (i := 28) (by decide) rfl
theorem lk_29 {g : Gh} {M : Mem} (h : Lay g M) : okc (gB g) M (gB g + 29) 14 := h.ok (i := 29) (by decide) rfl
theorem ln_29 {g : Gh} {M : Mem} (h : Lay g M) : mN M (gB g + 29) = 21 := h.ln (i := 29) (by decide) rfl
theorem lk_30 {g : Gh} {M : Mem} (h : Lay g M) : okc (gB g) M (gB g + 30) 14 := h.ok (i := 30) (by decide) rfl
theorem ln_30 {g : Gh} {M : Mem} (h : Lay g M) : mN M (gB g + 30) = 105 := h.ln (i := 30) (by decide) rfl
theorem lk_31 {g : Gh} {M : Mem} (h : Lay g M) : okc (gB g) M (gB g + 31) 14 := h.ok (i := 31) (by decide) rfl
theorem ln_31 {g : Gh} {M : Mem} (h : Lay g M) : mN M (gB g + 31) = 32 := h.ln (i := 31) (by decide) rfl
theorem lk_32 {g : Gh} {M : Mem} (h : Lay g M) : okc (gB g) M (gB g + 32) 3 := h.ok (i := 32) (by decide) rfl
theorem lk_33 {g : Gh} {M : Mem} (h : Lay g M) : okc (gB g) M (gB g + 33) 14 := h.ok (i := 33) (by decide) rfl
theorem ln_33 {g : Gh} {M : Mem} (h : Lay g M) : mN M (gB g + 33) = 21 := h.ln (i := 33) (by decide) rfl
theorem lk_34 {g : Gh} {M : Mem} (h : Lay g M) : okc (gB g) M (gB g + 34) 14 := h.ok (i := 34) (by decide) rfl
theorem ln_34 {g : Gh} {M : Mem} (h : Lay g M) : mN M (gB g + 34) = 21 := h.ln (i := 34) (by decide) rfl
theorem lk_35 {g : Gh} {M : Mem} (h : Lay g M) : okc (gB g) M (gB g + 35) 14 := h.ok (i := 35) (by decide) rfl
theorem ln_35 {g : Gh} {M : Mem} (h : Lay g M) : mN M (gB g + 35) = 105 := h.ln (i := 35) (by decide) rfl
theorem lk_36 {g : Gh} {M : Mem} (h : Lay g M) : okc (gB g) M (gB g + 36) 14 := h.ok (i := 36) (by decide) rfl
theorem ln_36 {g : Gh} {M : Mem} (h : Lay g M) : mN M (gB g + 36) = 32 := h.ln (i := 36) (by decide) rfl
theorem lk_37 {g : Gh} {M : Mem} (h : Lay g M) : okc (gB g) M (gB g + 37) 3 := h.ok (i := 37) (by decide) rfl
theorem lk_38 {g : Gh} {M : Mem} (h : Lay g M) : okc (gB g) M (gB g + 38) 14 := h.ok (i := 38) (by decide) rfl
theorem ln_38 {g : Gh} {M : Mem} (h : Lay g M) : mN M (gB g + 38) = 21 := h.ln (i := 38) (by decide) rfl
theorem lk_39 {g : Gh} {M : Mem} (h : Lay g M) : okc (gB g) M (gB g + 39) 14 := h.ok (i := 39) (by decide) rfl
theorem ln_39 {g : Gh} {M : Mem} (h : Lay g M) : mN M (gB g + 39) = 21 := h.ln (i := 39) (by decide) rfl
theorem lk_40 {g : Gh} {M : Mem} (h : Lay g M) : okc (gB g) M (gB g + 40) 14 := h.ok (i := 40) (by decide) rfl
theorem ln_40 {g : Gh} {M : Mem} (h : Lay g M) : mN M (gB g + 40) = 105 := h.ln (i := 40) (by decide) rfl
theorem lk_41 {g : Gh} {M : Mem} (h : Lay g M) : okc (gB g) M (gB g + 41) 14 := h.ok (i := 41) (by decide) rfl
theorem ln_41 {g : Gh} {M : Mem} (h : Lay g M) : mN M (gB g + 41) = 32 := h.ln (i := 41) (by decide) rfl
theorem lk_42 {g : Gh} {M : Mem} (h : Lay g M) : okc (gB g) M (gB g + 42) 3 := h.ok (i := 42) (by decide) rfl
theorem lk_43 {g : Gh} {M : Mem} (h : Lay g M) : okc (gB g) M (gB g + 43) 14 := h.ok (i := 43) (by decide) rfl
theorem ln_43 {g : Gh} {M : Mem} (h : Lay g M) : mN M (gB g + 43) = 21 := h.ln (i := 43) (by decide) rfl
theorem lk_44 {g : Gh} {M : Mem} (h : Lay g M) : okc (gB g) M (gB g + 44) 14 := h.ok (i := 44) (by decide) rfl
theorem ln_44 {g : Gh} {M : Mem} (h : Lay g M) : mN M (gB g + 44) = 21 := h.ln (i := 44) (by decide) rfl
theorem lk_45 {g : Gh} {M : Mem} (h : Lay g M) : okc (gB g) M (gB g + 45) 14 := h.ok (i := 45) (by decide) rfl
theorem ln_45 {g : Gh} {M : Mem} (h : Lay g M) : mN M (gB g + 45) = 105 := h.ln (i := 45) (by decide) rfl
theorem lk_46 {g : Gh} {M : Mem} (h : Lay g M) : okc (gB g) M (gB g + 46) 14 := h.ok (i := 46) (by decide) rfl
theorem ln_46 {g : Gh} {M : Mem} (h : Lay g M) : mN M (gB g + 46) = 32 := h.ln (i := 46) (by decide) rfl
theorem lk_47 {g : Gh} {M : Mem} (h : Lay g M) : okc (gB g) M (gB g + 47) 14 := h.ok (i := 47) (by decide) rfl
theorem ln_47 {g : Gh} {M : Mem} (h : Lay g M) : mN M (gB g + 47) = 21 := h.ln (i := 47) (by decide) rfl
theorem lk_48 {g : Gh} {M : Mem} (h : Lay g M) : okc (gB g) M (gB g + 48) 20 := h.ok (i := 48) (by decide) rfl
theorem ln_48 {g : Gh} {M : Mem} (h : Lay g M) : mN M (gB g + 48) = 60 := h.ln (i := 48) (by decide) rfl
theorem lk_49 {g : Gh} {M : Mem} (h : Lay g M) : okc (gB g) M (gB g + 49) 4 := h.ok (i := 49) (by decide) rfl
theorem lk_50 {g : Gh} {M : Mem} (h : Lay g M) : okc (gB g) M (gB g + 50) 14 := h.ok (i := 50) (by decide) rfl
theorem ln_50 {g : Gh} {M : Mem} (h : Lay g M) : mN M (gB g + 50) = 6 := h.ln (i := 50) (by decide) rfl
theorem lk_51 {g : Gh} {M : Mem} (h : Lay g M) : okc (gB g) M (gB g + 51) 17 := h.ok (i := 51) (by decide) rfl
theorem ln_51 {g : Gh} {M : Mem} (h : Lay g M) : mN M (gB g + 51) = 6 := h.ln (i := 51) (by decide) rfl
theorem lk_52 {g : Gh} {M : Mem} (h : Lay g M) : okc (gB g) M (gB g + 52) 14 := h.ok (i := 52) (by decide) rfl
theorem ln_52 {g : Gh} {M : Mem} (h : Lay g M) : mN M (gB g + 52) = 6 := h.ln (i := 52) (by decide) rfl
theorem lk_53 {g : Gh} {M : Mem} (h : Lay g M) : okc (gB g) M (gB g + 53) 14 := h.ok (i := 53) (by decide) rfl
theorem ln_53 {g : Gh} {M : Mem} (h : Lay g M) : mN M (gB g + 53) = 6 := h.ln (i := 53) (by decide) rfl
theorem lk_54 {g : Gh} {M : Mem} (h : Lay g M) : okc (gB g) M (gB g + 54) 14 := h.ok (i := 54) (by decide) rfl
theorem ln_54 {g : Gh} {M : Mem} (h : Lay g M) : mN M (gB g + 54) = 6 := h.ln (i := 54) (by decide) rfl
theorem lk_55 {g : Gh} {M : Mem} (h : Lay g M) : okc (gB g) M (gB g + 55) 4 := h.ok (i := 55) (by decide) rfl
theorem lk_56 {g : Gh} {M : Mem} (h : Lay g M) : okc (gB g) M (gB g + 56) 14 := h.ok (i := 56) (by decide) rfl
theorem ln_56 {g : Gh} {M : Mem} (h : Lay g M) : mN M (gB g + 56) = 6 := h.ln (i := 56) (by decide) rfl
theorem lk_57 {g : Gh} {M : Mem} (h : Lay g M) : okc (gB g) M (gB g + 57) 17 := h.ok (i := 57) (by decide) rfl
theorem ln_57 {g : Gh} {M : Mem} (h : Lay g M) : mN M (gB g + 57) = 6 := h.ln (i := 57) (by decide) rfl
theorem lk_58 {g : Gh} {M : Mem} (h : Lay g M) : okc (gB g) M (gB g + 58) 14 := h.ok (i := 58) (by decide) rfl
theorem ln_58 {g : Gh} {M : Mem} (h : Lay g M) : mN M (gB g + 58) = 6 := h.ln (i := 58) (by decide) rfl
theorem lk_59 {g : Gh} {M : Mem} (h : Lay g M) : okc (gB g) M (gB g + 59) 14 := h.ok (i := 59) (by decide) rfl
theorem ln_59 {g : Gh} {M : Mem} (h : Lay g M) : mN M (gB g + 59) = 6 := h.ln (i := 59) (by decide) rfl
theorem lk_60 {g : Gh} {M : Mem} (h : Lay g M) : okc (gB g) M (gB g + 60) 14 := h.ok (i := 60) (by decide) rfl
theorem ln_60 {g : Gh} {M : Mem} (h : Lay g M) : mN M (gB g + 60) = 6 := h.ln (i := 60) (by decide) rfl
theorem lk_61 {g : Gh} {M : Mem} (h : Lay g M) : okc (gB g) M (gB g + 61) 8 := h.ok (i := 61) (by decide) rfl
theorem lk_62 {g : Gh} {M : Mem} (h : Lay g M) : okc (gB g) M (gB g + 62) 14 := h.ok (i := 62) (by decide) rfl
theorem ln_62 {g : Gh} {M : Mem} (h : Lay g M) : mN M (gB g + 62) = 60 := h.ln (i := 62) (by decide) rfl
theorem lk_63 {g : Gh} {M : Mem} (h : Lay g M) : okc (gB g) M (gB g + 63) 14 := h.ok (i := 63) (by decide) rfl
theorem ln_63 {g : Gh} {M : Mem} (h : Lay g M) : mN M (gB g + 63) = 60 := h.ln (i := 63) (by decide) rfl
theorem lk_64 {g : Gh} {M : Mem} (h : Lay g M) : okc (gB g) M (gB g + 64) 14 := h.ok (i := 64) (by decide) rfl
theorem ln_64 {g : Gh} {M : Mem} (h : Lay g M) : mN M (gB g + 64) = 60 := h.ln (i := 64) (by decide) rfl
theorem lk_65 {g : Gh} {M : Mem} (h : Lay g M) : okc (gB g) M (gB g + 65) 14 := h.ok (i := 65) (by decide) rfl
theorem ln_65 {g : Gh} {M : Mem} (h : Lay g M) : mN M (gB g + 65) = 48 := h.ln (i := 65) (by decide) rfl
theorem lk_66 {g : Gh} {M : Mem} (h : Lay g M) : okc (gB g) M (gB g + 66) 14 := h.ok (i := 66) (by decide) rfl
theorem ln_66 {g : Gh} {M : Mem} (h : Lay g M) : mN M (gB g + 66) = 8 := h.ln (i := 66) (by decide) rfl
theorem lk_67 {g : Gh} {M : Mem} (h : Lay g M) : okc (gB g) M (gB g + 67) 6 := h.ok (i := 67) (by decide) rfl
theorem lk_68 {g : Gh} {M : Mem} (h : Lay g M) : okc (gB g) M (gB g + 68) 18 := h.ok (i := 68) (by decide) rfl
theorem ln_68 {g : Gh} {M : Mem} (h : Lay g M) : mN M (gB g + 68) = 120 := h.ln (i := 68) (by decide) rfl
theorem lk_189 {g : Gh} {M : Mem} (h : Lay g M) : okc (gB g) M (gB g + 189) 14 := h.ok (i := 189) (by decide) rfl
theorem ln_189 {g : Gh} {M : Mem} (h : Lay g M) : mN M (gB g + 189) = 2 := h.ln (i := 189) (by decide) rfl
theorem lk_190 {g : Gh} {M : Mem} (h : Lay g M) : okc (gB g) M (gB g + 190) 5 := h.ok (i := 190) (by decide) rfl
theorem lk_191 {g : Gh} {M : Mem} (h : Lay g M) : okc (gB g) M (gB g + 191) 14 := h.ok (i := 191) (by decide) rfl
theorem ln_191 {g : Gh} {M : Mem} (h : Lay g M) : mN M (gB g + 191) = 12 := h.ln (i := 191) (by decide) rfl
theorem lk_192 {g : Gh} {M : Mem} (h : Lay g M) : okc (gB g) M (gB g + 192) 14 := h.ok (i := 192) (by decide) rfl
theorem ln_192 {g : Gh} {M : Mem} (h : Lay g M) : mN M (gB g + 192) = 12 := h.ln (i := 192) (by decide) rfl
theorem lk_193 {g : Gh} {M : Mem} (h : Lay g M) : okc (gB g) M (gB g + 193) 14 := h.ok (i := 193) (by decide) rfl
theorem ln_193 {g : Gh} {M : Mem} (h : Lay g M) : mN M (gB g + 193) = 12 := h.ln (i := 193) (by decide) rfl
theorem lk_194 {g : Gh} {M : Mem} (h : Lay g M) : okc (gB g) M (gB g + 194) 14 := h.ok (i := 194) (by decide) rfl
theorem ln_194 {g : Gh} {M : Mem} (h : Lay g M) : mN M (gB g + 194) = 12 := h.ln (i := 194) (by decide) rfl
theorem lk_195 {g : Gh} {M : Mem} (h : Lay g M) : okc (gB g) M (gB g + 195) 12 := h.ok (i := 195) (by decide) rfl
theorem lk_196 {g : Gh} {M : Mem} (h : Lay g M) : okc (gB g) M (gB g + 196) 14 := h.ok (i := 196) (by decide) rfl
theorem ln_196 {g : Gh} {M : Mem} (h : Lay g M) : mN M (gB g + 196) = 260 := h.ln (i := 196) (by decide) rfl
theorem lk_197 {g : Gh} {M : Mem} (h : Lay g M) : okc (gB g) M (gB g + 197) 14 := h.ok (i := 197) (by decide) rfl
theorem ln_197 {g : Gh} {M : Mem} (h : Lay g M) : mN M (gB g + 197) = 25200 := h.ln (i := 197) (by decide) rfl
theorem lk_198 {g : Gh} {M : Mem} (h : Lay g M) : okc (gB g) M (gB g + 198) 14 := h.ok (i := 198) (by decide) rfl
theorem ln_198 {g : Gh} {M : Mem} (h : Lay g M) : mN M (gB g + 198) = 25200 := h.ln (i := 198) (by decide) rfl
theorem lk_199 {g : Gh} {M : Mem} (h : Lay g M) : okc (gB g) M (gB g + 199) 14 := h.ok (i := 199) (by decide) rfl
theorem ln_199 {g : Gh} {M : Mem} (h : Lay g M) : mN M (gB g + 199) = 25200 := h.ln (i := 199) (by decide) rfl
theorem lk_200 {g : Gh} {M : Mem} (h : Lay g M) : okc (gB g) M (gB g + 200) 15 := h.ok (i := 200) (by decide) rfl
theorem ln_200 {g : Gh} {M : Mem} (h : Lay g M) : mN M (gB g + 200) = 25200 := h.ln (i := 200) (by decide) rfl
theorem lk_201 {g : Gh} {M : Mem} (h : Lay g M) : okc (gB g) M (gB g + 201) 15 := h.ok (i := 201) (by decide) rfl
theorem ln_201 {g : Gh} {M : Mem} (h : Lay g M) : mN M (gB g + 201) = 25200 := h.ln (i := 201) (by decide) rfl
theorem lk_202 {g : Gh} {M : Mem} (h : Lay g M) : okc (gB g) M (gB g + 202) 14 := h.ok (i := 202) (by decide) rfl
theorem ln_202 {g : Gh} {M : Mem} (h : Lay g M) : mN M (gB g + 202) = 60 := h.ln (i := 202) (by decide) rfl
theorem lk_203 {g : Gh} {M : Mem} (h : Lay g M) : okc (gB g) M (gB g + 203) 14 := h.ok (i := 203) (by decide) rfl
theorem ln_203 {g : Gh} {M : Mem} (h : Lay g M) : mN M (gB g + 203) = 60 := h.ln (i := 203) (by decide) rfl
theorem lk_204 {g : Gh} {M : Mem} (h : Lay g M) : okc (gB g) M (gB g + 204) 14 := h.ok (i := 204) (by decide) rfl
theorem ln_204 {g : Gh} {M : Mem} (h : Lay g M) : mN M (gB g + 204) = 60 := h.ln (i := 204) (by decide) rfl
theorem lk_205 {g : Gh} {M : Mem} (h : Lay g M) : okc (gB g) M (gB g + 205) 14 := h.ok (i := 205) (by decide) rfl
theorem ln_205 {g : Gh} {M : Mem} (h : Lay g M) : mN M (gB g + 205) = 60 := h.ln (i := 205) (by decide) rfl
theorem lk_206 {g : Gh} {M : Mem} (h : Lay g M) : okc (gB g) M (gB g + 206) 17 := h.ok (i := 206) (by decide) rfl
theorem ln_206 {g : Gh} {M : Mem} (h : Lay g M) : mN M (gB g + 206) = 60 := h.ln (i := 206) (by decide) rfl
theorem lk_207 {g : Gh} {M : Mem} (h : Lay g M) : okc (gB g) M (gB g + 207) 17 := h.ok (i := 207) (by decide) rfl
theorem ln_207 {g : Gh} {M : Mem} (h : Lay g M) : mN M (gB g + 207) = 20 := h.ln (i := 207) (by decide) rfl
theorem lk_208 {g : Gh} {M : Mem} (h : Lay g M) : okc (gB g) M (gB g + 208) 15 := h.ok (i := 208) (by decide) rfl
theorem ln_208 {g : Gh} {M : Mem} (h : Lay g M) : mN M (gB g + 208) = 20 := h.ln (i := 208) (by decide) rfl
theorem lk_209 {g : Gh} {M : Mem} (h : Lay g M) : okc (gB g) M (gB g + 209) 14 := h.ok (i := 209) (by decide) rfl
theorem ln_209 {g : Gh} {M : Mem} (h : Lay g M) : mN M (gB g + 209) = 256 := h.ln (i := 209) (by decide) rfl
theorem lk_210 {g : Gh} {M : Mem} (h : Lay g M) : okc (gB g) M (gB g + 210) 14 := h.ok (i := 210) (by decide) rfl
theorem ln_210 {g : Gh} {M : Mem} (h : Lay g M) : mN M (gB g + 210) = 6 := h.ln (i := 210) (by decide) rfl
theorem lk_211 {g : Gh} {M : Mem} (h : Lay g M) : okc (gB g) M (gB g + 211) 14 := h.ok (i := 211) (by decide) rfl
theorem ln_211 {g : Gh} {M : Mem} (h : Lay g M) : mN M (gB g + 211) = 6 := h.ln (i := 211) (by decide) rfl
theorem lk_212 {g : Gh} {M : Mem} (h : Lay g M) : okc (gB g) M (gB g + 212) 14 := h.ok (i := 212) (by decide) rfl
theorem ln_212 {g : Gh} {M : Mem} (h : Lay g M) : mN M (gB g + 212) = 6 := h.ln (i := 212) (by decide) rfl
theorem lk_213 {g : Gh} {M : Mem} (h : Lay g M) : okc (gB g) M (gB g + 213) 14 := h.ok (i := 213) (by decide) rfl
theorem ln_213 {g : Gh} {M : Mem} (h : Lay g M) : mN M (gB g + 213) = 6 := h.ln (i := 213) (by decide) rfl
theorem lk_214 {g : Gh} {M : Mem} (h : Lay g M) : okc (gB g) M (gB g + 214) 17 := h.ok (i := 214) (by decide) rfl
theorem ln_214 {g : Gh} {M : Mem} (h : Lay g M) : mN M (gB g + 214) = 6 := h.ln (i := 214) (by decide) rfl
theorem lk_215 {g : Gh} {M : Mem} (h : Lay g M) : okc (gB g) M (gB g + 215) 14 := h.ok (i := 215) (by decide) rfl
theorem ln_215 {g : Gh} {M : Mem} (h : Lay g M) : mN M (gB g + 215) = 6 := h.ln (i := 215) (by decide) rfl
theorem lk_216 {g : Gh} {M : Mem} (h : Lay g M) : okc (gB g) M (gB g + 216) 14 := h.ok (i := 216) (by decide) rfl
theorem ln_216 {g : Gh} {M : Mem} (h : Lay g M) : mN M (gB g + 216) = 6 := h.ln (i := 216) (by decide) rfl
theorem lk_217 {g : Gh} {M : Mem} (h : Lay g M) : okc (gB g) M (gB g + 217) 14 := h.ok (i := 217) (by decide) rfl
theorem ln_217 {g : Gh} {M : Mem} (h : Lay g M) : mN M (gB g + 217) = 6 := h.ln (i := 217) (by decide) rfl
theorem lk_218 {g : Gh} {M : Mem} (h : Lay g M) : okc (gB g) M (gB g + 218) 14 := h.ok (i := 218) (by decide) rfl
theorem ln_218 {g : Gh} {M : Mem} (h : Lay g M) : mN M (gB g + 218) = 6 := h.ln (i := 218) (by decide) rfl
theorem lk_219 {g : Gh} {M : Mem} (h : Lay g M) : okc (gB g) M (gB g + 219) 17 := h.ok (i := 219) (by decide) rfl
theorem ln_219 {g : Gh} {M : Mem} (h : Lay g M) : mN M (gB g + 219) = 6 := h.ln (i := 219) (by decide) rfl
theorem lk_220 {g : Gh} {M : Mem} (h : Lay g M) : okc (gB g) M (gB g + 220) 14 := h.ok (i := 220) (by decide) rfl
theorem ln_220 {g : Gh} {M : Mem} (h : Lay g M) : mN M (gB g + 220) = 48 := h.ln (i := 220) (by decide) rfl
theorem lk_221 {g : Gh} {M : Mem} (h : Lay g M) : okc (gB g) M (gB g + 221) 14 := h.ok (i := 221) (by decide) rfl
theorem ln_221 {g : Gh} {M : Mem} (h : Lay g M) : mN M (gB g + 221) = 49 := h.ln (i := 221) (by decide) rfl
theorem lk_222 {g : Gh} {M : Mem} (h : Lay g M) : okc (gB g) M (gB g + 222) 14 := h.ok (i := 222) (by decide) rfl
theorem ln_222 {g : Gh} {M : Mem} (h : Lay g M) : mN M (gB g + 222) = 8 := h.ln (i := 222) (by decide) rfl
theorem lk_223 {g : Gh} {M : Mem} (h : Lay g M) : okc (gB g) M (gB g + 223) 14 := h.ok (i := 223) (by decide) rfl
theorem ln_223 {g : Gh} {M : Mem} (h : Lay g M) : mN M (gB g + 223) = 120 := h.ln (i := 223) (by decide) rfl
theorem lk_224 {g : Gh} {M : Mem} (h : Lay g M) : okc (gB g) M (gB g + 224) 14 := h.ok (i := 224) (by decide) rfl
theorem ln_224 {g : Gh} {M : Mem} (h : Lay g M) : mN M (gB g + 224) = 120 := h.ln (i := 224) (by decide) rfl
theorem lk_225 {g : Gh} {M : Mem} (h : Lay g M) : okc (gB g) M (gB g + 225) 14 := h.ok (i := 225) (by decide) rfl
theorem ln_225 {g : Gh} {M : Mem} (h : Lay g M) : mN M (gB g + 225) = 120 := h.ln (i := 225) (by decide) rfl
theorem lk_226 {g : Gh} {M : Mem} (h : Lay g M) : okc (gB g) M (gB g + 226) 14 := h.ok (i := 226) (by decide) rfl
theorem ln_226 {g : Gh} {M : Mem} (h : Lay g M) : mN M (gB g + 226) = 120 := h.ln (i := 226) (by decide) rfl
theorem lk_227 {g : Gh} {M : Mem} (h : Lay g M) : okc (gB g) M (gB g + 227) 17 := h.ok (i := 227) (by decide) rfl
theorem ln_227 {g : Gh} {M : Mem} (h : Lay g M) : mN M (gB g + 227) = 120 := h.ln (i := 227) (by decide) rfl
theorem lk_228 {g : Gh} {M : Mem} (h : Lay g M) : okc (gB g) M (gB g + 228) 17 := h.ok (i := 228) (by decide) rfl
theorem ln_228 {g : Gh} {M : Mem} (h : Lay g M) : mN M (gB g + 228) = 120 := h.ln (i := 228) (by decide) rfl
theorem lk_229 {g : Gh} {M : Mem} (h : Lay g M) : okc (gB g) M (gB g + 229) 14 := h.ok (i := 229) (by decide) rfl
theorem ln_229 {g : Gh} {M : Mem} (h : Lay g M) : mN M (gB g + 229) = 12 := h.ln (i := 229) (by decide) rfl
theorem lk_230 {g : Gh} {M : Mem} (h : Lay g M) : okc (gB g) M (gB g + 230) 14 := h.ok (i := 230) (by decide) rfl
theorem ln_230 {g : Gh} {M : Mem} (h : Lay g M) : mN M (gB g + 230) = 12 := h.ln (i := 230) (by decide) rfl
theorem lk_231 {g : Gh} {M : Mem} (h : Lay g M) : okc (gB g) M (gB g + 231) 14 := h.ok (i := 231) (by decide) rfl
theorem ln_231 {g : Gh} {M : Mem} (h : Lay g M) : mN M (gB g + 231) = 12 := h.ln (i := 231) (by decide) rfl
theorem lk_232 {g : Gh} {M : Mem} (h : Lay g M) : okc (gB g) M (gB g + 232) 14 := h.ok (i := 232) (by decide) rfl
theorem ln_232 {g : Gh} {M : Mem} (h : Lay g M) : mN M (gB g + 232) = 12 := h.ln (i := 232) (by decide) rfl
theorem lk_233 {g : Gh} {M : Mem} (h : Lay g M) : okc (gB g) M (gB g + 233) 15 := h.ok (i := 233) (by decide) rfl
theorem ln_233 {g : Gh} {M : Mem} (h : Lay g M) : mN M (gB g + 233) = 1 := h.ln (i := 233) (by decide) rfl
theorem lr_0_0 {g : Gh} {M : Mem} (h : Lay g M) : mR M (gB g) 0 = some (gB g + 1) := h.2.2 (0, 0, 1) (List.mem_of_getElem? (i := 0) rfl)
theorem lr_0_1 {g : Gh} {M : Mem} (h : Lay g M) : mR M (gB g) 1 = some (gB g + 3) := h.2.2 (0, 1, 3) (List.mem_of_getElem? (i := 1) rfl)
theorem lr_0_2 {g : Gh} {M : Mem} (h : Lay g M) : mR M (gB g) 2 = some (gB g + 9) := h.2.2 (0, 2, 9) (List.mem_of_getElem? (i := 2) rfl)
theorem lr_0_3 {g : Gh} {M : Mem} (h : Lay g M) : mR M (gB g) 3 = some (gB g + 48) := h.2.2 (0, 3, 48) (List.mem_of_getElem? (i := 3) rfl)
theorem lr_0_8 {g : Gh} {M : Mem} (h : Lay g M) : mR M (gB g) 8 = some (gB g + 61) := h.2.2 (0, 8, 61) (List.mem_of_getElem? (i := 4) rfl)
theorem lr_0_9 {g : Gh} {M : Mem} (h : Lay g M) : mR M (gB g) 9 = some (gB g + 67) := h.2.2 (0, 9, 67) (List.mem_of_getElem? (i := 5) rfl)
theorem lr_0_10 {g : Gh} {M : Mem} (h : Lay g M) : mR M (gB g) 10 = some (gB g + 190) := h.2.2 (0, 10, 190) (List.mem_of_getElem? (i := 6) rfl)
theorem lr_1_0 {g : Gh} {M : Mem} (h : Lay g M) : mR M (gB g + 1) 0 = some (gB g + 2) := h.2.2 (1, 0, 2) (List.mem_of_getElem? (i := 7) rfl)
theorem lr_3_0 {g : Gh} {M : Mem} (h : Lay g M) : mR M (gB g + 3) 0 = some (gB g + 4) := h.2.2 (3, 0, 4) (List.mem_of_getElem? (i := 8) rfl)
theorem lr_3_1 {g : Gh} {M : Mem} (h : Lay g M) : mR M (gB g + 3) 1 = some (gB g + 5) := h.2.2 (3, 1, 5) (List.mem_of_getElem? (i := 9) rfl)
theorem lr_3_2 {g : Gh} {M : Mem} (h : Lay g M) : mR M (gB g + 3) 2 = some (gB g + 6) := h.2.2 (3, 2, 6) (List.mem_of_getElem? (i := 10) rfl)
theorem lr_3_4 {g : Gh} {M : Mem} (h : Lay g M) : mR M (gB g + 3) 4 = some (gB g + 7) := h.2.2 (3, 4, 7) (List.mem_of_getElem? (i := 11) rfl)
theorem lr_3_5 {g : Gh} {M : Mem} (h : Lay g M) : mR M (gB g + 3) 5 = some (gB g + 8) := h.2.2 (3, 5, 8) (List.mem_of_getElem? (i := 12) rfl)
theorem lr_9_0 {g : Gh} {M : Mem} (h : Lay g M) : mR M (gB g + 9) 0 = some (gB g + 10) := h.2.2 (9, 0, 10) (List.mem_of_getElem? (i := 13) rfl)
theorem lr_9_2 {g : Gh} {M : Mem} (h : Lay g M) : mR M (gB g + 9) 2 = some (gB g + 11) := h.2.2 (9, 2, 11) (List.mem_of_getElem? (i := 14) rfl)
theorem lr_9_4 {g : Gh} {M : Mem} (h : Lay g M) : mR M (gB g + 9) 4 = some (gB g + 47) := h.2.2 (9, 4, 47) (List.mem_of_getElem? (i := 15) rfl)
theorem lr_12_0 {g : Gh} {M : Mem} (h : Lay g M) : mR M (gB g + 12) 0 = some (gB g + 13) := h.2.2 (12, 0, 13) (List.mem_of_getElem? (i := 16) rfl)
theorem lr_12_1 {g : Gh} {M : Mem} (h : Lay g M) : mR M (gB g + 12) 1 = some (gB g + 14) := h.2.2 (12, 1, 14) (List.mem_of_getElem? (i := 17) rfl)
theorem lr_12_2 {g : Gh} {M : Mem} (h : Lay g M) : mR M (gB g + 12) 2 = some (gB g + 15) := h.2.2 (12, 2, 15) (List.mem_of_getElem? (i := 18) rfl)
theorem lr_12_4 {g : Gh} {M : Mem} (h : Lay g M) : mR M (gB g + 12) 4 = some (gB g + 16) := h.2.2 (12, 4, 16) (List.mem_of_getElem? (i := 19) rfl)
theorem lr_11_0 {g : Gh} {M : Mem} (h : Lay g M) : mR M (gB g + 11) 0 = some (gB g + 12) := h.2.2 (11, 0, 12) (List.mem_of_getElem? (i := 20) rfl)
theorem lr_17_0 {g : Gh} {M : Mem} (h : Lay g M) : mR M (gB g + 17) 0 = some (gB g + 18) := h.2.2 (17, 0, 18) (List.mem_of_getElem? (i := 21) rfl)
theorem lr_17_1 {g : Gh} {M : Mem} (h : Lay g M) : mR M (gB g + 17) 1 = some (gB g + 19) := h.2.2 (17, 1, 19) (List.mem_of_getElem? (i := 22) rfl)
theorem lr_17_2 {g : Gh} {M : Mem} (h : Lay g M) : mR M (gB g + 17) 2 = some (gB g + 20) := h.2.2 (17, 2, 20) (List.mem_of_getElem? (i := 23) rfl)
theorem lr_17_4 {g : Gh} {M : Mem} (h : Lay g M) : mR M (gB g + 17) 4 = some (gB g + 21) := h.2.2 (17, 4, 21) (List.mem_of_getElem? (i := 24) rfl)
theorem lr_11_1 {g : Gh} {M : Mem} (h : Lay g M) : mR M (gB g + 11) 1 = some (gB g + 17) := h.2.2 (11, 1, 17) (List.mem_of_getElem? (i := 25) rfl)
theorem lr_22_0 {g : Gh} {M : Mem} (h : Lay g M) : mR M (gB g + 22) 0 = some (gB g + 23) := h.2.2 (22, 0, 23) (List.mem_of_getElem? (i := 26) rfl)
theorem lr_22_1 {g : Gh} {M : Mem} (h : Lay g M) : mR M (gB g + 22) 1 = some (gB g + 24) := h.2.2 (22, 1, 24) (List.mem_of_getElem? (i := 27) rfl)
theorem lr_22_2 {g : Gh} {M : Mem} (h : Lay g M) : mR M (gB g + 22) 2 = some (gB g + 25) := h.2.2 (22, 2, 25) (List.mem_of_getElem? (i := 28) rfl)
theorem lr_22_4 {g : Gh} {M : Mem} (h : Lay g M) : mR M (gB g + 22) 4 = some (gB g + 26) := h.2.2 (22, 4, 26) (List.mem_of_getElem? (i := 29) rfl)
theorem lr_11_2 {g : Gh} {M : Mem} (h : Lay g M) : mR M (gB g + 11) 2 = some (gB g + 22) := h.2.2 (11, 2, 22) (List.mem_of_getElem? (i := 30) rfl)
theorem lr_27_0 {g : Gh} {M : Mem} (h : Lay g M) : mR M (gB g + 27) 0 = some (gB g + 28) := h.2.2 (27, 0, 28) (List.mem_of_getElem? (i := 31) rfl)
theorem lr_27_1 {g : Gh} {M : Mem} (h : Lay g M) : mR M (gB g + 27) 1 = some (gB g + 29) := h.2.2 (27, 1, 29) (List.mem_of_getElem? (i := 32) rfl)
theorem lr_27_2 {g : Gh} {M : Mem} (h : Lay g M) : mR M (gB g + 27) 2 = some (gB g + 30) := h.2.2 (27, 2, 30) (List.mem_of_getElem? (i := 33) rfl)
theorem lr_27_4 {g : Gh} {M : Mem} (h : Lay g M) : mR M (gB g + 27) 4 = some (gB g + 31) := h.2.2 (27, 4, 31) (List.mem_of_getElem? (i := 34) rfl)
theorem lr_11_3 {g : Gh} {M : Mem} (h : Lay g M) : mR M (gB g + 11) 3 = some (gB g + 27) := h.2.2 (11, 3, 27) (List.mem_of_getElem? (i := 35) rfl)
theorem lr_32_0 {g : Gh} {M : Mem} (h : Lay g M) : mR M (gB g + 32) 0 = some (gB g + 33) := h.2.2 (32, 0, 33) (List.mem_of_getElem? (i := 36) rfl)
theorem lr_32_1 {g : Gh} {M : Mem} (h : Lay g M) : mR M (gB g + 32) 1 = some (gB g + 34) := h.2.2 (32, 1, 34) (List.mem_of_getElem? (i := 37) rfl)
theorem lr_32_2 {g : Gh} {M : Mem} (h : Lay g M) : mR M (gB g + 32) 2 = some (gB g + 35) := h.2.2 (32, 2, 35) (List.mem_of_getElem? (i := 38) rfl)
theorem lr_32_4 {g : Gh} {M : Mem} (h : Lay g M) : mR M (gB g + 32) 4 = some (gB g + 36) := h.2.2 (32, 4, 36) (List.mem_of_getElem? (i := 39) rfl)
theorem lr_11_4 {g : Gh} {M : Mem} (h : Lay g M) : mR M (gB g + 11) 4 = some (gB g + 32) := h.2.2 (11, 4, 32) (List.mem_of_getElem? (i := 40) rfl)
theorem lr_37_0 {g : Gh} {M : Mem} (h : Lay g M) : mR M (gB g + 37) 0 = some (gB g + 38) := h.2.2 (37, 0, 38) (List.mem_of_getElem? (i := 41) rfl)
theorem lr_37_1 {g : Gh} {M : Mem} (h : Lay g M) : mR M (gB g + 37) 1 = some (gB g + 39) := h.2.2 (37, 1, 39) (List.mem_of_getElem? (i := 42) rfl)
theorem lr_37_2 {g : Gh} {M : Mem} (h : Lay g M) : mR M (gB g + 37) 2 = some (gB g + 40) := h.2.2 (37, 2, 40) (List.mem_of_getElem? (i := 43) rfl)
theorem lr_37_4 {g : Gh} {M : Mem} (h : Lay g M) : mR M (gB g + 37) 4 = some (gB g + 41) := h.2.2 (37, 4, 41) (List.mem_of_getElem? (i := 44) rfl)
theorem lr_11_5 {g : Gh} {M : Mem} (h : Lay g M) : mR M (gB g + 11) 5 = some (gB g + 37) := h.2.2 (11, 5, 37) (List.mem_of_getElem? (i := 45) rfl)
theorem lr_42_0 {g : Gh} {M : Mem} (h : Lay g M) : mR M (gB g + 42) 0 = some (gB g + 43) := h.2.2 (42, 0, 43) (List.mem_of_getElem? (i := 46) rfl)
theorem lr_42_1 {g : Gh} {M : Mem} (h : Lay g M) : mR M (gB g + 42) 1 = some (gB g + 44) := h.2.2 (42, 1, 44) (List.mem_of_getElem? (i := 47) rfl)
theorem lr_42_2 {g : Gh} {M : Mem} (h : Lay g M) : mR M (gB g + 42) 2 = some (gB g + 45) := h.2.2 (42, 2, 45) (List.mem_of_getElem? (i := 48) rfl)
theorem lr_42_4 {g : Gh} {M : Mem} (h : Lay g M) : mR M (gB g + 42) 4 = some (gB g + 46) := h.2.2 (42, 4, 46) (List.mem_of_getElem? (i := 49) rfl)
theorem lr_11_6 {g : Gh} {M : Mem} (h : Lay g M) : mR M (gB g + 11) 6 = some (gB g + 42) := h.2.2 (11, 6, 42) (List.mem_of_getElem? (i := 50) rfl)
theorem lr_49_2 {g : Gh} {M : Mem} (h : Lay g M) : mR M (gB g + 49) 2 = some (gB g + 50) := h.2.2 (49, 2, 50) (List.mem_of_getElem? (i := 51) rfl)
theorem lr_49_3 {g : Gh} {M : Mem} (h : Lay g M) : mR M (gB g + 49) 3 = some (gB g + 51) := h.2.2 (49, 3, 51) (List.mem_of_getElem? (i := 52) rfl)
theorem lr_49_4 {g : Gh} {M : Mem} (h : Lay g M) : mR M (gB g + 49) 4 = some (gB g + 52) := h.2.2 (49, 4, 52) (List.mem_of_getElem? (i := 53) rfl)
theorem lr_49_5 {g : Gh} {M : Mem} (h : Lay g M) : mR M (gB g + 49) 5 = some (gB g + 53) := h.2.2 (49, 5, 53) (List.mem_of_getElem? (i := 54) rfl)
theorem lr_49_6 {g : Gh} {M : Mem} (h : Lay g M) : mR M (gB g + 49) 6 = some (gB g + 54) := h.2.2 (49, 6, 54) (List.mem_of_getElem? (i := 55) rfl)
theorem lr_55_2 {g : Gh} {M : Mem} (h : Lay g M) : mR M (gB g + 55) 2 = some (gB g + 56) := h.2.2 (55, 2, 56) (List.mem_of_getElem? (i := 56) rfl)
theorem lr_55_3 {g : Gh} {M : Mem} (h : Lay g M) : mR M (gB g + 55) 3 = some (gB g + 57) := h.2.2 (55, 3, 57) (List.mem_of_getElem? (i := 57) rfl)
theorem lr_55_4 {g : Gh} {M : Mem} (h : Lay g M) : mR M (gB g + 55) 4 = some (gB g + 58) := h.2.2 (55, 4, 58) (List.mem_of_getElem? (i := 58) rfl)
theorem lr_55_5 {g : Gh} {M : Mem} (h : Lay g M) : mR M (gB g + 55) 5 = some (gB g + 59) := h.2.2 (55, 5, 59) (List.mem_of_getElem? (i := 59) rfl)
theorem lr_55_6 {g : Gh} {M : Mem} (h : Lay g M) : mR M (gB g + 55) 6 = some (gB g + 60) := h.2.2 (55, 6, 60) (List.mem_of_getElem? (i := 60) rfl)
theorem lr_61_4 {g : Gh} {M : Mem} (h : Lay g M) : mR M (gB g + 61) 4 = some (gB g + 62) := h.2.2 (61, 4, 62) (List.mem_of_getElem? (i := 61) rfl)
theorem lr_61_5 {g : Gh} {M : Mem} (h : Lay g M) : mR M (gB g + 61) 5 = some (gB g + 63) := h.2.2 (61, 5, 63) (List.mem_of_getElem? (i := 62) rfl)
theorem lr_61_6 {g : Gh} {M : Mem} (h : Lay g M) : mR M (gB g + 61) 6 = some (gB g + 64) := h.2.2 (61, 6, 64) (List.mem_of_getElem? (i := 63) rfl)
theorem lr_61_8 {g : Gh} {M : Mem} (h : Lay g M) : mR M (gB g + 61) 8 = some (gB g + 65) := h.2.2 (61, 8, 65) (List.mem_of_getElem? (i := 64) rfl)
theorem lr_61_10 {g : Gh} {M : Mem} (h : Lay g M) : mR M (gB g + 61) 10 = some (gB g + 66) := h.2.2 (61, 10, 66) (List.mem_of_getElem? (i := 65) rfl)
theorem lr_67_2 {g : Gh} {M : Mem} (h : Lay g M) : mR M (gB g + 67) 2 = some (gB g + 68) := h.2.2 (67, 2, 68) (List.mem_of_getElem? (i := 186) rfl)
theorem lr_67_8 {g : Gh} {M : Mem} (h : Lay g M) : mR M (gB g + 67) 8 = some (gB g + 189) := h.2.2 (67, 8, 189) (List.mem_of_getElem? (i := 187) rfl)
theorem lr_190_0 {g : Gh} {M : Mem} (h : Lay g M) : mR M (gB g + 190) 0 = some (gB g + 191) := h.2.2 (190, 0, 191) (List.mem_of_getElem? (i := 188) rfl)
theorem lr_190_1 {g : Gh} {M : Mem} (h : Lay g M) : mR M (gB g + 190) 1 = some (gB g + 192) := h.2.2 (190, 1, 192) (List.mem_of_getElem? (i := 189) rfl)
theorem lr_190_2 {g : Gh} {M : Mem} (h : Lay g M) : mR M (gB g + 190) 2 = some (gB g + 193) := h.2.2 (190, 2, 193) (List.mem_of_getElem? (i := 190) rfl)
theorem lr_190_3 {g : Gh} {M : Mem} (h : Lay g M) : mR M (gB g + 190) 3 = some (gB g + 194) := h.2.2 (190, 3, 194) (List.mem_of_getElem? (i := 191) rfl)
theorem lr_195_1 {g : Gh} {M : Mem} (h : Lay g M) : mR M (gB g + 195) 1 = some (gB g + 196) := h.2.2 (195, 1, 196) (List.mem_of_getElem? (i := 192) rfl)
theorem lr_195_11 {g : Gh} {M : Mem} (h : Lay g M) : mR M (gB g + 195) 11 = some (gB g + 197) := h.2.2 (195, 11, 197) (List.mem_of_getElem? (i := 193) rfl)
theorem lr_195_12 {g : Gh} {M : Mem} (h : Lay g M) : mR M (gB g + 195) 12 = some (gB g + 198) := h.2.2 (195, 12, 198) (List.mem_of_getElem? (i := 194) rfl)
theorem lr_195_13 {g : Gh} {M : Mem} (h : Lay g M) : mR M (gB g + 195) 13 = some (gB g + 199) := h.2.2 (195, 13, 199) (List.mem_of_getElem? (i := 195) rfl)
theorem lr_195_14 {g : Gh} {M : Mem} (h : Lay g M) : mR M (gB g + 195) 14 = some (gB g + 200) := h.2.2 (195, 14, 200) (List.mem_of_getElem? (i := 196) rfl)
theorem lr_195_15 {g : Gh} {M : Mem} (h : Lay g M) : mR M (gB g + 195) 15 = some (gB g + 201) := h.2.2 (195, 15, 201) (List.mem_of_getElem? (i := 197) rfl)
theorem lr_195_19 {g : Gh} {M : Mem} (h : Lay g M) : mR M (gB g + 195) 19 = some (gB g + 202) := h.2.2 (195, 19, 202) (List.mem_of_getElem? (i := 198) rfl)
theorem lr_195_20 {g : Gh} {M : Mem} (h : Lay g M) : mR M (gB g + 195) 20 = some (gB g + 203) := h.2.2 (195, 20, 203) (List.mem_of_getElem? (i := 199) rfl)
theorem lr_195_21 {g : Gh} {M : Mem} (h : Lay g M) : mR M (gB g + 195) 21 = some (gB g + 204) := h.2.2 (195, 21, 204) (List.mem_of_getElem? (i := 200) rfl)
theorem lr_195_22 {g : Gh} {M : Mem} (h : Lay g M) : mR M (gB g + 195) 22 = some (gB g + 205) := h.2.2 (195, 22, 205) (List.mem_of_getElem? (i := 201) rfl)
theorem lr_195_23 {g : Gh} {M : Mem} (h : Lay g M) : mR M (gB g + 195) 23 = some (gB g + 206) := h.2.2 (195, 23, 206) (List.mem_of_getElem? (i := 202) rfl)
theorem lr_195_24 {g : Gh} {M : Mem} (h : Lay g M) : mR M (gB g + 195) 24 = some (gB g + 207) := h.2.2 (195, 24, 207) (List.mem_of_getElem? (i := 203) rfl)
theorem lr_195_25 {g : Gh} {M : Mem} (h : Lay g M) : mR M (gB g + 195) 25 = some (gB g + 208) := h.2.2 (195, 25, 208) (List.mem_of_getElem? (i := 204) rfl)
theorem lr_195_27 {g : Gh} {M : Mem} (h : Lay g M) : mR M (gB g + 195) 27 = some (gB g + 209) := h.2.2 (195, 27, 209) (List.mem_of_getElem? (i := 205) rfl)
theorem lr_195_29 {g : Gh} {M : Mem} (h : Lay g M) : mR M (gB g + 195) 29 = some (gB g + 210) := h.2.2 (195, 29, 210) (List.mem_of_getElem? (i := 206) rfl)
theorem lr_195_30 {g : Gh} {M : Mem} (h : Lay g M) : mR M (gB g + 195) 30 = some (gB g + 211) := h.2.2 (195, 30, 211) (List.mem_of_getElem? (i := 207) rfl)
theorem lr_195_31 {g : Gh} {M : Mem} (h : Lay g M) : mR M (gB g + 195) 31 = some (gB g + 212) := h.2.2 (195, 31, 212) (List.mem_of_getElem? (i := 208) rfl)
theorem lr_195_32 {g : Gh} {M : Mem} (h : Lay g M) : mR M (gB g + 195) 32 = some (gB g + 213) := h.2.2 (195, 32, 213) (List.mem_of_getElem? (i := 209) rfl)
theorem lr_195_33 {g : Gh} {M : Mem} (h : Lay g M) : mR M (gB g + 195) 33 = some (gB g + 214) := h.2.2 (195, 33, 214) (List.mem_of_getElem? (i := 210) rfl)
theorem lr_195_34 {g : Gh} {M : Mem} (h : Lay g M) : mR M (gB g + 195) 34 = some (gB g + 215) := h.2.2 (195, 34, 215) (List.mem_of_getElem? (i := 211) rfl)
theorem lr_195_35 {g : Gh} {M : Mem} (h : Lay g M) : mR M (gB g + 195) 35 = some (gB g + 216) := h.2.2 (195, 35, 216) (List.mem_of_getElem? (i := 212) rfl)
theorem lr_195_36 {g : Gh} {M : Mem} (h : Lay g M) : mR M (gB g + 195) 36 = some (gB g + 217) := h.2.2 (195, 36, 217) (List.mem_of_getElem? (i := 213) rfl)
theorem lr_195_37 {g : Gh} {M : Mem} (h : Lay g M) : mR M (gB g + 195) 37 = some (gB g + 218) := h.2.2 (195, 37, 218) (List.mem_of_getElem? (i := 214) rfl)
theorem lr_195_38 {g : Gh} {M : Mem} (h : Lay g M) : mR M (gB g + 195) 38 = some (gB g + 219) := h.2.2 (195, 38, 219) (List.mem_of_getElem? (i := 215) rfl)
theorem lr_195_41 {g : Gh} {M : Mem} (h : Lay g M) : mR M (gB g + 195) 41 = some (gB g + 220) := h.2.2 (195, 41, 220) (List.mem_of_getElem? (i := 216) rfl)
theorem lr_195_42 {g : Gh} {M : Mem} (h : Lay g M) : mR M (gB g + 195) 42 = some (gB g + 221) := h.2.2 (195, 42, 221) (List.mem_of_getElem? (i := 217) rfl)
theorem lr_195_43 {g : Gh} {M : Mem} (h : Lay g M) : mR M (gB g + 195) 43 = some (gB g + 222) := h.2.2 (195, 43, 222) (List.mem_of_getElem? (i := 218) rfl)
theorem lr_195_56 {g : Gh} {M : Mem} (h : Lay g M) : mR M (gB g + 195) 56 = some (gB g + 223) := h.2.2 (195, 56, 223) (List.mem_of_getElem? (i := 219) rfl)
theorem lr_195_57 {g : Gh} {M : Mem} (h : Lay g M) : mR M (gB g + 195) 57 = some (gB g + 224) := h.2.2 (195, 57, 224) (List.mem_of_getElem? (i := 220) rfl)
theorem lr_195_58 {g : Gh} {M : Mem} (h : Lay g M) : mR M (gB g + 195) 58 = some (gB g + 225) := h.2.2 (195, 58, 225) (List.mem_of_getElem? (i := 221) rfl)
theorem lr_195_59 {g : Gh} {M : Mem} (h : Lay g M) : mR M (gB g + 195) 59 = some (gB g + 226) := h.2.2 (195, 59, 226) (List.mem_of_getElem? (i := 222) rfl)
theorem lr_195_60 {g : Gh} {M : Mem} (h : Lay g M) : mR M (gB g + 195) 60 = some (gB g + 227) := h.2.2 (195, 60, 227) (List.mem_of_getElem? (i := 223) rfl)
theorem lr_195_61 {g : Gh} {M : Mem} (h : Lay g M) : mR M (gB g + 195) 61 = some (gB g + 228) := h.2.2 (195, 61, 228) (List.mem_of_getElem? (i := 224) rfl)
theorem lr_195_62 {g : Gh} {M : Mem} (h : Lay g M) : mR M (gB g + 195) 62 = some (gB g + 229) := h.2.2 (195, 62, 229) (List.mem_of_getElem? (i := 225) rfl)
theorem lr_195_63 {g : Gh} {M : Mem} (h : Lay g M) : mR M (gB g + 195) 63 = some (gB g + 230) := h.2.2 (195, 63, 230) (List.mem_of_getElem? (i := 226) rfl)
theorem lr_195_64 {g : Gh} {M : Mem} (h : Lay g M) : mR M (gB g + 195) 64 = some (gB g + 231) := h.2.2 (195, 64, 231) (List.mem_of_getElem? (i := 227) rfl)
theorem lr_195_65 {g : Gh} {M : Mem} (h : Lay g M) : mR M (gB g + 195) 65 = some (gB g + 232) := h.2.2 (195, 65, 232) (List.mem_of_getElem? (i := 228) rfl)
theorem kt_ev : ∀ k, k < 120 → KT.getD (69 + k) (0, 0) = (0, 0) ∧ (68, k, 69 + k) ∈ RT := by decide +kernel
theorem lk_ev {g : Gh} {M : Mem} (h : Lay g M) {k : Nat} (hk : k < 120) : okc (gB g) M (gB g + (69 + k)) 0 := h.ok (by omega) (by rw [(kt_ev k hk).1])
theorem lr_ev {g : Gh} {M : Mem} (h : Lay g M) {k : Nat} (hk : k < 120) : mR M (gB g + 68) k = some (gB g + (69 + k)) := h.2.2 _ (kt_ev k hk).2
theorem kt_fr1 : ∀ d, d < 7 → KT.getD (12 + 5 * d) (0, 0) = (3, 0) ∧ KT.getD (13 + 5 * d) (0, 0) = (14, 21) ∧ KT.getD (14 + 5 * d) (0, 0) = (14, 21) ∧ KT.getD (15 + 5 * d) (0, 0) = (14, 105) ∧ KT.getD (16 + 5 * d) (0, 0) = (14, 32) := by decide +kernel
theorem kt_fr2 : ∀ d, d < 7 → (11, d, 12 + 5 * d) ∈ RT ∧ (12 + 5 * d, 0, 13 + 5 * d) ∈ RT := by decide +kernel
theorem kt_fr3 : ∀ d, d < 7 → (12 + 5 * d, 1, 14 + 5 * d) ∈ RT ∧ (12 + 5 * d, 2, 15 + 5 * d) ∈ RT := by decide +kernel
theorem kt_fr4 : ∀ d, d < 7 → (12 + 5 * d, 4, 16 + 5 * d) ∈ RT := by decide +kernel
/-! what a call leaves as it was: P the ints, Q the longs that it may change -/
def Fr (P Q : Nat → Nat → Prop) (M M' : Mem) : Prop := (∀ a k, ¬ P a k → mI M' a k = mI M a k) ∧ (∀ a k, ¬ Q a k → mJ M' a k = mJ M a k) ∧ M'.2.2 = M.2.2
def nQ : Nat → Nat → Prop := fun _ _ => False
theorem Fr.rf {P Q : Nat → Nat → Prop} {M : Mem} : Fr P Q M M := ⟨fun _ _ _ => rfl, fun _ _ _ => rfl, rfl⟩
theorem Fr.tr {P Q : Nat → Nat → Prop} {A B C : Mem} (h : Fr P Q A B) (k : Fr P Q B C) : Fr P Q A C := ⟨fun a j p => (k.1 a j p).trans (h.1 a j p), fun a j p => (k.2.1 a j p).trans (h.2.1 a j p), k.2.2.trans h.2.2⟩
theorem Fr.mono {P Q P' Q' : Nat → Nat → Prop} {M M' : Mem} (h : Fr P Q M M') (hp : ∀ a k, P a k → P' a k) (hq : ∀ a k, Q a k → Q' a k) : Fr P' Q' M M' := ⟨fun a k n => h.1 a k (fun p => n (hp a k p)), fun a k n => h.2.1 a k (fun p => n (hq a k p)), h.2.2⟩
theorem Fr.uI {P Q : Nat → Nat → Prop} {M M' : Mem} (h : Fr P Q M M') {a k : Nat} {v : Int32} (hp : P a k) : Fr P Q M (uI M' a k v) := by
  refine ⟨fun b j n => ?_, h.2.1, h.2.2⟩
  rw [s_II]
  split
  · split
    · subst_vars; exact absurd hp n
    · exact h.1 b j n
  · exact h.1 b j n
theorem Fr.uJ {P Q : Nat → Nat → Prop} {M M' : Mem} (h : Fr P Q M M') {a k : Nat} {v : Int64} (hp : Q a k) : Fr P Q M (uJ M' a k v) := by
  refine ⟨h.1, fun b j n => ?_, h.2.2⟩
  rw [s_JJ]
  split
  · split
    · subst_vars; exact absurd hp n
    · exact h.2.1 b j n
  · exact h.2.1 b j n
theorem Fr.R {P Q : Nat → Nat → Prop} {M M' : Mem} (h : Fr P Q M M') : mR M' = mR M := congrArg (fun x => x.1) h.2.2
theorem Fr.K {P Q : Nat → Nat → Prop} {M M' : Mem} (h : Fr P Q M M') : mK M' = mK M := congrArg (fun x => x.2.1) h.2.2
theorem Fr.N {P Q : Nat → Nat → Prop} {M M' : Mem} (h : Fr P Q M M') : mN M' = mN M := congrArg (fun x => x.2.2.1) h.2.2
theorem Fr.T {P Q : Nat → Nat → Prop} {M M' : Mem} (h : Fr P Q M M') : mT M' = mT M := congrArg (fun x => x.2.2.2) h.2.2
theorem Fr.lay {P Q : Nat → Nat → Prop} {M M' : Mem} {g : Gh} (h : Fr P Q M M') (l : Lay g M) : Lay g M' := by
  unfold Lay; rw [h.T, h.K, h.N, h.R]; exact l
theorem Fr.oc {P Q : Nat → Nat → Prop} {M M' : Mem} {B a c : Nat} (h : Fr P Q M M') (l : okc B M a c) : okc B M' a c := by
  unfold okc; rw [h.T, h.K]; exact l
theorem lay_uI {g : Gh} {M : Mem} {a k : Nat} {v : Int32} (h : Lay g M) : Lay g (uI M a k v) := h
theorem lay_uJ {g : Gh} {M : Mem} {a k : Nat} {v : Int64} (h : Lay g M) : Lay g (uJ M a k v) := h
/-- an Int32 that is 0 or 1 -/
def bI (b : Bool) : Int32 := if b then 1 else 0
theorem bI_t : bI true = 1 := rfl
theorem bI_f : bI false = 0 := rfl
