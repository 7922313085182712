/-! where each cell lies: 0 to 130 the class under proof, 131 to 144 the reference; rows of sound from 145 on -/
def kdL : List Nat := [11, 9, 15, 15, 6, 10, 15, 15, 15, 15, 15, 15, 15, 15, 15, 15, 15, 15, 8, 15, 13, 15, 15, 15, 15, 4, 18, 8, 15, 13, 15, 15, 15, 15, 8, 15, 13, 15, 15, 15, 15, 8, 15, 13, 15, 15, 15, 15, 8, 15, 13, 15, 15, 15, 15, 8, 15, 13, 15, 15, 15, 15, 8, 15, 13, 15, 15, 15, 15, 8, 15, 13, 15, 15, 15, 15, 8, 15, 13, 15, 15, 15, 15, 4, 18, 8, 15, 13, 15, 15, 15, 15, 8, 15, 13, 15, 15, 15, 15, 0, 0, 7, 17, 5, 15, 13, 2, 15, 15, 3, 15, 17, 1, 15, 15, 15, 15, 16, 10, 15, 15, 15, 15, 15, 15, 15, 15, 15, 15, 15, 15, 12, 14, 15, 15, 15, 15, 15, 15, 15, 15, 15, 15, 16, 15]
def lnL : List Int := [0, 0, 200, 4, 0, 0, 8, 8, 8, 6, 6, 6, 6, 8, 8, 5, 5, 5, 0, 6, 6, 7, 7, 7, 7, 0, 8, 0, 6, 6, 7, 7, 7, 7, 0, 6, 6, 7, 7, 7, 7, 0, 6, 6, 7, 7, 7, 7, 0, 6, 6, 7, 7, 7, 7, 0, 6, 6, 7, 7, 7, 7, 0, 6, 6, 7, 7, 7, 7, 0, 6, 6, 7, 7, 7, 7, 0, 6, 6, 7, 7, 7, 7, 0, 2, 0, 6, 6, 7, 7, 7, 7, 0, 6, 6, 7, 7, 7, 7, 0, 0, 0, 192, 0, 192, 192, 0, 6, 6, 0, 6, 6, 0, 6, 6, 6, 6, 10, 0, 8, 8, 8, 6, 6, 6, 6, 8, 8, 5, 5, 5, 0, 200, 12, 48, 48, 32, 30, 504, 12, 24, 36864, 6, 11, 4]
def rfC : List (Nat × Int × Nat) := [(0, 0, 1), (0, 1, 4), (0, 2, 25), (0, 3, 83), (0, 4, 99), (0, 5, 100), (0, 6, 101), (0, 7, 106), (0, 8, 109), (0, 9, 112), (0, 10, 117), (1, 0, 2), (1, 1, 3), (4, 1, 18), (5, 2, 6), (5, 3, 7), (5, 4, 8), (5, 6, 9), (5, 7, 10), (5, 8, 11), (5, 9, 12), (5, 11, 13), (5, 12, 14), (5, 14, 15), (5, 15, 16), (5, 16, 17), (18, 2, 19), (18, 3, 20), (18, 4, 21), (18, 5, 22), (18, 6, 23), (18, 7, 24), (25, 0, 26), (26, 0, 27), (26, 1, 34), (26, 2, 41), (26, 3, 48), (26, 4, 55), (26, 5, 62), (26, 6, 69), (26, 7, 76), (27, 2, 28), (27, 3, 29), (27, 4, 30), (27, 5, 31), (27, 6, 32), (27, 7, 33), (34, 2, 35), (34, 3, 36), (34, 4, 37), (34, 5, 38), (34, 6, 39), (34, 7, 40), (41, 2, 42), (41, 3, 43), (41, 4, 44), (41, 5, 45), (41, 6, 46), (41, 7, 47), (48, 2, 49), (48, 3, 50), (48, 4, 51), (48, 5, 52), (48, 6, 53), (48, 7, 54), (55, 2, 56), (55, 3, 57), (55, 4, 58), (55, 5, 59), (55, 6, 60), (55, 7, 61), (62, 2, 63), (62, 3, 64), (62, 4, 65), (62, 5, 66), (62, 6, 67), (62, 7, 68), (69, 2, 70), (69, 3, 71), (69, 4, 72), (69, 5, 73), (69, 6, 74), (69, 7, 75), (76, 2, 77), (76, 3, 78), (76, 4, 79), (76, 5, 80), (76, 6, 81), (76, 7, 82), (83, 0, 84), (84, 0, 85), (84, 1, 92), (85, 2, 86), (85, 3, 87), (85, 4, 88), (85, 5, 89), (85, 6, 90), (85, 7, 91), (92, 2, 93), (92, 3, 94), (92, 4, 95), (92, 5, 96), (92, 6, 97), (92, 7, 98), (99, 0, 4), (100, 0, 4), (101, 0, 4), (101, 1, 102), (101, 2, 103), (101, 3, 105), (103, 0, 104), (106, 0, 4), (106, 1, 101), (106, 2, 107), (106, 3, 108), (109, 0, 4), (109, 1, 101), (109, 2, 110), (109, 3, 111), (112, 0, 113), (112, 1, 114), (112, 2, 115), (112, 3, 116), (118, 2, 119), (118, 3, 120), (118, 4, 121), (118, 6, 122), (118, 7, 123), (118, 8, 124), (118, 9, 125), (118, 11, 126), (118, 12, 127), (118, 14, 128), (118, 15, 129), (118, 16, 130)]
def rfM : List (Nat × Int × Nat) := [(131, 1, 132), (131, 3, 133), (131, 4, 134), (131, 5, 135), (131, 6, 136), (131, 7, 137), (131, 8, 138), (131, 12, 139), (131, 14, 140), (131, 15, 141), (131, 17, 142), (131, 20, 143), (131, 21, 144)]
def LayC (Z : Zt) : Prop := ∀ a, a < 131 → Z.1 a = kdL.getD a 0 ∧ Z.2.1 a = lnL.getD a 0
def LayM (Z : Zt) : Prop := ∀ a, a < 145 → 131 ≤ a → Z.1 a = kdL.getD a 0 ∧ Z.2.1 a = lnL.getD a 0
def LayP (P : Pt') : Prop := ∀ q ∈ rfC, P q.1 q.2.1 = some q.2.2
def LayQ (P : Pt') : Prop := ∀ q ∈ rfM, P q.1 q.2.1 = some q.2.2
theorem kd_0 {Z : Zt} (h : LayC Z) : Z.1 0 = 11 := (h 0 (by decide)).1
theorem kd_1 {Z : Zt} (h : LayC Z) : Z.1 1 = 9 := (h 1 (by decide)).1
theorem kd_2 {Z : Zt} (h : LayC Z) : Z.1 2 = 15 := (h 2 (by decide)).1
theorem ln_2 {Z : Zt} (h : LayC Z) : Z.2.1 2 = 200 := (h 2 (by decide)).2
theorem kd_3 {Z : Zt} (h : LayC Z) : Z.1 3 = 15 := (h 3 (by decide)).1
theorem ln_3 {Z : Zt} (h : LayC Z) : Z.2.1 3 = 4 := (h 3 (by decide)).2
theorem kd_4 {Z : Zt} (h : LayC Z) : Z.1 4 = 6 := (h 4 (by decide)).1
theorem kd_5 {Z : Zt} (h : LayC Z) : Z.1 5 = 10 := (h 5 (by decide)).1
theorem kd_6 {Z : Zt} (h : LayC Z) : Z.1 6 = 15 := (h 6 (by decide)).1
theorem ln_6 {Z : Zt} (h : LayC Z) : Z.2.1 6 = 8 := (h 6 (by decide)).2
theorem kd_7 {Z : Zt} (h : LayC Z) : Z.1 7 = 15 := (h 7 (by decide)).1
theorem ln_7 {Z : Zt} (h : LayC Z) : Z.2.1 7 = 8 := (h 7 (by decide)).2
theorem kd_8 {Z : Zt} (h : LayC Z) : Z.1 8 = 15 := (h 8 (by decide)).1
theorem ln_8 {Z : Zt} (h : LayC Z) : Z.2.1 8 = 8 := (h 8 (by decide)).2
theorem kd_9 {Z : Zt} (h : LayC Z) : Z.1 9 = 15 := (h 9 (by decide)).1
theorem ln_9 {Z : Zt} (h : LayC Z) : Z.2.1 9 = 6 := (h 9 (by decide)).2
theorem kd_10 {Z : Zt} (h : LayC Z) : Z.1 10 = 15 := (h 10 (by decide)).1
theorem ln_10 {Z : Zt} (h : LayC Z) : Z.2.1 10 = 6 := (h 10 (by decide)).2
theorem kd_11 {Z : Zt} (h : LayC Z) : Z.1 11 = 15 := (h 11 (by decide)).1
theorem ln_11 {Z : Zt} (h : LayC Z) : Z.2.1 11 = 6 := (h 11 (by decide)).2
theorem kd_12 {Z : Zt} (h : LayC Z) : Z.1 12 = 15 := (h 12 (by decide)).1
theorem ln_12 {Z : Zt} (h : LayC Z) : Z.2.1 12 = 6 := (h 12 (by decide)).2
theorem kd_13 {Z : Zt} (h : LayC Z) : Z.1 13 = 15 := (h 13 (by decide)).1
theorem ln_13 {Z : Zt} (h : LayC Z) : Z.2.1 13 = 8 := (h 13 (by decide)).2
theorem kd_14 {Z : Zt} (h : LayC Z) : Z.1 14 = 15 := (h 14 (by decide)).1
theorem ln_14 {Z : Zt} (h : LayC Z) : Z.2.1 14 = 8 := (h 14 (by decide)).2
theorem kd_15 {Z : Zt} (h : LayC Z) : Z.1 15 = 15 := (h 15 (by decide)).1
theorem ln_15 {Z : Zt} (h : LayC Z) : Z.2.1 15 = 5 := (h 15 (by decide)).2
theorem kd_16 {Z : Zt} (h : LayC Z) : Z.1 16 = 15 := (h 16 (by decide)).1
theorem ln_16 {Z : Zt} (h : LayC Z) : Z.2.1 16 = 5 := (h 16 (by decide)).2
theorem kd_17 {Z : Zt} (h : LayC Z) : Z.1 17 = 15 := (h 17 (by decide)).1
theorem ln_17 {Z : Zt} (h : LayC Z) : Z.2.1 17 = 5 := (h 17 (by decide)).2
theorem kd_18 {Z : Zt} (h : LayC Z) : Z.1 18 = 8 := (h 18 (by decide)).1
theorem kd_19 {Z : Zt} (h : LayC Z) : Z.1 19 = 15 := (h 19 (by decide)).1
theorem ln_19 {Z : Zt} (h : LayC Z) : Z.2.1 19 = 6 := (h 19 (by decide)).2
theorem kd_20 {Z : Zt} (h : LayC Z) : Z.1 20 = 13 := (h 20 (by decide)).1
theorem ln_20 {Z : Zt} (h : LayC Z) : Z.2.1 20 = 6 := (h 20 (by decide)).2
theorem kd_21 {Z : Zt} (h : LayC Z) : Z.1 21 = 15 := (h 21 (by decide)).1
theorem ln_21 {Z : Zt} (h : LayC Z) : Z.2.1 21 = 7 := (h 21 (by decide)).2
theorem kd_22 {Z : Zt} (h : LayC Z) : Z.1 22 = 15 := (h 22 (by decide)).1
theorem ln_22 {Z : Zt} (h : LayC Z) : Z.2.1 22 = 7 := (h 22 (by decide)).2
theorem kd_23 {Z : Zt} (h : LayC Z) : Z.1 23 = 15 := (h 23 (by decide)).1
theorem ln_23 {Z : Zt} (h : LayC Z) : Z.2.1 23 = 7 := (h 23 (by decide)).2
theorem kd_24 {Z : Zt} (h : LayC Z) : Z.1 24 = 15 := (h 24 (by decide)).1
theorem ln_24 {Z : Zt} (h : LayC Z) : Z.2.1 24 = 7 := (h 24 (by decide)).2
theorem kd_25 {Z : Zt} (h : LayC Z) : Z.1 25 = 4 := (h 25 (by decide)).1
theorem kd_26 {Z : Zt} (h : LayC Z) : Z.1 26 = 18 := (h 26 (by decide)).1
theorem ln_26 {Z : Zt} (h : LayC Z) : Z.2.1 26 = 8 := (h 26 (by decide)).2
theorem kd_27 {Z : Zt} (h : LayC Z) : Z.1 27 = 8 := (h 27 (by decide)).1
theorem kd_28 {Z : Zt} (h : LayC Z) : Z.1 28 = 15 := (h 28 (by decide)).1
theorem ln_28 {Z : Zt} (h : LayC Z) : Z.2.1 28 = 6 := (h 28 (by decide)).2
theorem kd_29 {Z : Zt} (h : LayC Z) : Z.1 29 = 13 := (h 29 (by decide)).1
theorem ln_29 {Z : Zt} (h : LayC Z) : Z.2.1 29 = 6 := (h 29 (by decide)).2
theorem kd_30 {Z : Zt} (h : LayC Z) : Z.1 30 = 15 := (h 30 (by decide)).1
theorem ln_30 {Z : Zt} (h : LayC Z) : Z.2.1 30 = 7 := (h 30 (by decide)).2
theorem kd_31 {Z : Zt} (h : LayC Z) : Z.1 31 = 15 := (h 31 (by decide)).1
theorem ln_31 {Z : Zt} (h : LayC Z) : Z.2.1 31 = 7 := (h 31 (by decide)).2
theorem kd_32 {Z : Zt} (h : LayC Z) : Z.1 32 = 15 := (h 32 (by decide)).1
theorem ln_32 {Z : Zt} (h : LayC Z) : Z.2.1 32 = 7 := (h 32 (by decide)).2
theorem kd_33 {Z : Zt} (h : LayC Z) : Z.1 33 = 15 := (h 33 (by decide)).1
theorem ln_33 {Z : Zt} (h : LayC Z) : Z.2.1 33 = 7 := (h 33 (by decide)).2
theorem kd_34 {Z : Zt} (h : LayC Z) : Z.1 34 = 8 := (h 34 (by decide)).1
theorem kd_35 {Z : Zt} (h : LayC Z) : Z.1 35 = 15 := (h 35 (by decide)).1
theorem ln_35 {Z : Zt} (h : LayC Z) : Z.2.1 35 = 6 := (h 35 (by decide)).2
theorem kd_36 {Z : Zt} (h : LayC Z) : Z.1 36 = 13 := (h 36 (by decide)).1
theorem ln_36 {Z : Zt} (h : LayC Z) : Z.2.1 36 = 6 := (h 36 (by decide)).2
theorem kd_37 {Z : Zt} (h : LayC Z) : Z.1 37 = 15 := (h 37 (by decide)).1
theorem ln_37 {Z : Zt} (h : LayC Z) : Z.2.1 37 = 7 := (h 37 (by decide)).2
theorem kd_38 {Z : Zt} (h : LayC Z) : Z.1 38 = 15 := (h 38 (by decide)).1
theorem ln_38 {Z : Zt} (h : LayC Z) : Z.2.1 38 = 7 := (h 38 (by decide)).2
theorem kd_39 {Z : Zt} (h : LayC Z) : Z.1 39 = 15 := (h 39 (by decide)).1
theorem ln_39 {Z : Zt} (h : LayC Z) : Z.2.1 39 = 7 := (h 39 (by decide)).2
theorem kd_40 {Z : Zt} (h : LayC Z) : Z.1 40 = 15 := (h 40 (by decide)).1
theorem ln_40 {Z : Zt} (h : LayC Z) : Z.2.1 40 = 7 := (h 40 (by decide)).2
theorem kd_41 {Z : Zt} (h : LayC Z) : Z.1 41 = 8 := (h 41 (by decide)).1
theorem kd_42 {Z : Zt} (h : LayC Z) : Z.1 42 = 15 := (h 42 (by decide)).1
theorem ln_42 {Z : Zt} (h : LayC Z) : Z.2.1 42 = 6 := (h 42 (by decide)).2
theorem kd_43 {Z : Zt} (h : LayC Z) : Z.1 43 = 13 := (h 43 (by decide)).1
theorem ln_43 {Z : Zt} (h : LayC Z) : Z.2.1 43 = 6 := (h 43 (by decide)).2
theorem kd_44 {Z : Zt} (h : LayC Z) : Z.1 44 = 15 := (h 44 (by decide)).1
theorem ln_44 {Z : Zt} (h : LayC Z) : Z.2.1 44 = 7 := (h 44 (by decide)).2
theorem kd_45 {Z : Zt} (h : LayC Z) : Z.1 45 = 15 := (h 45 (by decide)).1
theorem ln_45 {Z : Zt} (h : LayC Z) : Z.2.1 45 = 7 := (h 45 (by decide)).2
theorem kd_46 {Z : Zt} (h : LayC Z) : Z.1 46 = 15 := (h 46 (by decide)).1
theorem ln_46 {Z : Zt} (h : LayC Z) : Z.2.1 46 = 7 := (h 46 (by decide)).2
theorem kd_47 {Z : Zt} (h : LayC Z) : Z.1 47 = 15 := (h 47 (by decide)).1
theorem ln_47 {Z : Zt} (h : LayC Z) : Z.2.1 47 = 7 := (h 47 (by decide)).2
theorem kd_48 {Z : Zt} (h : LayC Z) : Z.1 48 = 8 := (h 48 (by decide)).1
theorem kd_49 {Z : Zt} (h : LayC Z) : Z.1 49 = 15 := (h 49 (by decide)).1
theorem ln_49 {Z : Zt} (h : LayC Z) : Z.2.1 49 = 6 := (h 49 (by decide)).2
theorem kd_50 {Z : Zt} (h : LayC Z) : Z.1 50 = 13 := (h 50 (by decide)).1
theorem ln_50 {Z : Zt} (h : LayC Z) : Z.2.1 50 = 6 := (h 50 (by decide)).2
theorem kd_51 {Z : Zt} (h : LayC Z) : Z.1 51 = 15 := (h 51 (by decide)).1
theorem ln_51 {Z : Zt} (h : LayC Z) : Z.2.1 51 = 7 := (h 51 (by decide)).2
theorem kd_52 {Z : Zt} (h : LayC Z) : Z.1 52 = 15 := (h 52 (by decide)).1
theorem ln_52 {Z : Zt} (h : LayC Z) : Z.2.1 52 = 7 := (h 52 (by decide)).2
theorem kd_53 {Z : Zt} (h : LayC Z) : Z.1 53 = 15 := (h 53 (by decide)).1
theorem ln_53 {Z : Zt} (h : LayC Z) : Z.2.1 53 = 7 := (h 53 (by decide)).2
theorem kd_54 {Z : Zt} (h : LayC Z) : Z.1 54 = 15 := (h 54 (by decide)).1
theorem ln_54 {Z : Zt} (h : LayC Z) : Z.2.1 54 = 7 := (h 54 (by decide)).2
theorem kd_55 {Z : Zt} (h : LayC Z) : Z.1 55 = 8 := (h 55 (by decide)).1
theorem kd_56 {Z : Zt} (h : LayC Z) : Z.1 56 = 15 := (h 56 (by decide)).1
theorem ln_56 {Z : Zt} (h : LayC Z) : Z.2.1 56 = 6 := (h 56 (by decide)).2
theorem kd_57 {Z : Zt} (h : LayC Z) : Z.1 57 = 13 := (h 57 (by decide)).1
theorem ln_57 {Z : Zt} (h : LayC Z) : Z.2.1 57 = 6 := (h 57 (by decide)).2
theorem kd_58 {Z : Zt} (h : LayC Z) : Z.1 58 = 15 := (h 58 (by decide)).1
theorem ln_58 {Z : Zt} (h : LayC Z) : Z.2.1 58 = 7 := (h 58 (by decide)).2
theorem kd_59 {Z : Zt} (h : LayC Z) : Z.1 59 = 15 := (h 59 (by decide)).1
theorem ln_59 {Z : Zt} (h : LayC Z) : Z.2.1 59 = 7 := (h 59 (by decide)).2
theorem kd_60 {Z : Zt} (h : LayC Z) : Z.1 60 = 15 := (h 60 (by decide)).1
theorem ln_60 {Z : Zt} (h : LayC Z) : Z.2.1 60 = 7 := (h 60 (by decide)).2
theorem kd_61 {Z : Zt} (h : LayC Z) : Z.1 61 = 15 := (h 61 (by decide)).1
theorem ln_61 {Z : Zt} (h : LayC Z) : Z.2.1 61 = 7 := (h 61 (by decide)).2
theorem kd_62 {Z : Zt} (h : LayC Z) : Z.1 62 = 8 := (h 62 (by decide)).1
theorem kd_63 {Z : Zt} (h : LayC Z) : Z.1 63 = 15 := (h 63 (by decide)).1
theorem ln_63 {Z : Zt} (h : LayC Z) : Z.2.1 63 = 6 := (h 63 (by decide)).2
theorem kd_64 {Z : Zt} (h : LayC Z) : Z.1 64 = 13 := (h 64 (by decide)).1
theorem ln_64 {Z : Zt} (h : LayC Z) : Z.2.1 64 = 6 := (h 64 (by decide)).2
theorem kd_65 {Z : Zt} (h : LayC Z) : Z.1 65 = 15 := (h 65 (by decide)).1
theorem ln_65 {Z : Zt} (h : LayC Z) : Z.2.1 65 = 7 := (h 65 (by decide)).2
theorem kd_66 {Z : Zt} (h : LayC Z) : Z.1 66 = 15 := (h 66 (by decide)).1
theorem ln_66 {Z : Zt} (h : LayC Z) : Z.2.1 66 = 7 := (h 66 (by decide)).2
theorem kd_67 {Z : Zt} (h : LayC Z) : Z.1 67 = 15 := (h 67 (by decide)).1
theorem ln_67 {Z : Zt} (h : LayC Z) : Z.2.1 67 = 7 := (h 67 (by decide)).2
theorem kd_68 {Z : Zt} (h : LayC Z) : Z.1 68 = 15 := (h 68 (by decide)).1
theorem ln_68 {Z : Zt} (h : LayC Z) : Z.2.1 68 = 7 := (h 68 (by decide)).2
theorem kd_69 {Z : Zt} (h : LayC Z) : Z.1 69 = 8 := (h 69 (by decide)).1
theorem kd_70 {Z : Zt} (h : LayC Z) : Z.1 70 = 15 := (h 70 (by decide)).1
theorem ln_70 {Z : Zt} (h : LayC Z) : Z.2.1 70 = 6 := (h 70 (by decide)).2
theorem kd_71 {Z : Zt} (h : LayC Z) : Z.1 71 = 13 := (h 71 (by decide)).1
theorem ln_71 {Z : Zt} (h : LayC Z) : Z.2.1 71 = 6 := (h 71 (by decide)).2
theorem kd_72 {Z : Zt} (h : LayC Z) : Z.1 72 = 15 := (h 72 (by decide)).1
theorem ln_72 {Z : Zt} (h : LayC Z) : Z.2.1 72 = 7 := (h 72 (by decide)).2
theorem kd_73 {Z : Zt} (h : LayC Z) : Z.1 73 = 15 := (h 73 (by decide)).1
theorem ln_73 {Z : Zt} (h : LayC Z) : Z.2.1 73 = 7 := (h 73 (by decide)).2
theorem kd_74 {Z : Zt} (h : LayC Z) : Z.1 74 = 15 := (h 74 (by decide)).1
theorem ln_74 {Z : Zt} (h : LayC Z) : Z.2.1 74 = 7 := (h 74 (by decide)).2
theorem kd_75 {Z : Zt} (h : LayC Z) : Z.1 75 = 15 := (h 75 (by decide)).1
theorem ln_75 {Z : Zt} (h : LayC Z) : Z.2.1 75 = 7 := (h 75 (by decide)).2
theorem kd_76 {Z : Zt} (h : LayC Z) : Z.1 76 = 8 := (h 76 (by decide)).1
theorem kd_77 {Z : Zt} (h : LayC Z) : Z.1 77 = 15 := (h 77 (by decide)).1
theorem ln_77 {Z : Zt} (h : LayC Z) : Z.2.1 77 = 6 := (h 77 (by decide)).2
theorem kd_78 {Z : Zt} (h : LayC Z) : Z.1 78 = 13 := (h 78 (by decide)).1
theorem ln_78 {Z : Zt} (h : LayC Z) : Z.2.1 78 = 6 := (h 78 (by decide)).2
theorem kd_79 {Z : Zt} (h : LayC Z) : Z.1 79 = 15 := (h 79 (by decide)).1
theorem ln_79 {Z : Zt} (h : LayC Z) : Z.2.1 79 = 7 := (h 79 (by decide)).2
theorem kd_80 {Z : Zt} (h : LayC Z) : Z.1 80 = 15 := (h 80 (by decide)).1
theorem ln_80 {Z : Zt} (h : LayC Z) : Z.2.1 80 = 7 := (h 80 (by decide)).2
theorem kd_81 {Z : Zt} (h : LayC Z) : Z.1 81 = 15 := (h 81 (by decide)).1
theorem ln_81 {Z : Zt} (h : LayC Z) : Z.2.1 81 = 7 := (h 81 (by decide)).2
theorem kd_82 {Z : Zt} (h : LayC Z) : Z.1 82 = 15 := (h 82 (by decide)).1
theorem ln_82 {Z : Zt} (h : LayC Z) : Z.2.1 82 = 7 := (h 82 (by decide)).2
theorem kd_83 {Z : Zt} (h : LayC Z) : Z.1 83 = 4 := (h 83 (by decide)).1
theorem kd_84 {Z : Zt} (h : LayC Z) : Z.1 84 = 18 := (h 84 (by decide)).1
theorem ln_84 {Z : Zt} (h : LayC Z) : Z.2.1 84 = 2 := (h 84 (by decide)).2
theorem kd_85 {Z : Zt} (h : LayC Z) : Z.1 85 = 8 := (h 85 (by decide)).1
theorem kd_86 {Z : Zt} (h : LayC Z) : Z.1 86 = 15 := (h 86 (by decide)).1
theorem ln_86 {Z : Zt} (h : LayC Z) : Z.2.1 86 = 6 := (h 86 (by decide)).2
theorem kd_87 {Z : Zt} (h : LayC Z) : Z.1 87 = 13 := (h 87 (by decide)).1
theorem ln_87 {Z : Zt} (h : LayC Z) : Z.2.1 87 = 6 := (h 87 (by decide)).2
theorem kd_88 {Z : Zt} (h : LayC Z) : Z.1 88 = 15 := (h 88 (by decide)).1
theorem ln_88 {Z : Zt} (h : LayC Z) : Z.2.1 88 = 7 := (h 88 (by decide)).2
theorem kd_89 {Z : Zt} (h : LayC Z) : Z.1 89 = 15 := (h 89 (by decide)).1
theorem ln_89 {Z : Zt} (h : LayC Z) : Z.2.1 89 = 7 := (h 89 (by decide)).2
theorem kd_90 {Z : Zt} (h : LayC Z) : Z.1 90 = 15 := (h 90 (by decide)).1
theorem ln_90 {Z : Zt} (h : LayC Z) : Z.2.1 90 = 7 := (h 90 (by decide)).2
theorem kd_91 {Z : Zt} (h : LayC Z) : Z.1 91 = 15 := (h 91 (by decide)).1
theorem ln_91 {Z : Zt} (h : LayC Z) : Z.2.1 91 = 7 := (h 91 (by decide)).2
theorem kd_92 {Z : Zt} (h : LayC Z) : Z.1 92 = 8 := (h 92 (by decide)).1
theorem kd_93 {Z : Zt} (h : LayC Z) : Z.1 93 = 15 := (h 93 (by decide)).1
theorem ln_93 {Z : Zt} (h : LayC Z) : Z.2.1 93 = 6 := (h 93 (by decide)).2
theorem kd_94 {Z : Zt} (h : LayC Z) : Z.1 94 = 13 := (h 94 (by decide)).1
theorem ln_94 {Z : Zt} (h : LayC Z) : Z.2.1 94 = 6 := (h 94 (by decide)).2
theorem kd_95 {Z : Zt} (h : LayC Z) : Z.1 95 = 15 := (h 95 (by decide)).1
theorem ln_95 {Z : Zt} (h : LayC Z) : Z.2.1 95 = 7 := (h 95 (by decide)).2
theorem kd_96 {Z : Zt} (h : LayC Z) : Z.1 96 = 15 := (h 96 (by decide)).1
theorem ln_96 {Z : Zt} (h : LayC Z) : Z.2.1 96 = 7 := (h 96 (by decide)).2
theorem kd_97 {Z : Zt} (h : LayC Z) : Z.1 97 = 15 := (h 97 (by decide)).1
theorem ln_97 {Z : Zt} (h : LayC Z) : Z.2.1 97 = 7 := (h 97 (by decide)).2
theorem kd_98 {Z : Zt} (h : LayC Z) : Z.1 98 = 15 := (h 98 (by decide)).1
theorem ln_98 {Z : Zt} (h : LayC Z) : Z.2.1 98 = 7 := (h 98 (by decide)).2
theorem kd_99 {Z : Zt} (h : LayC Z) : Z.1 99 = 0 := (h 99 (by decide)).1
theorem kd_100 {Z : Zt} (h : LayC Z) : Z.1 100 = 0 := (h 100 (by decide)).1
theorem kd_101 {Z : Zt} (h : LayC Z) : Z.1 101 = 7 := (h 101 (by decide)).1
theorem kd_102 {Z : Zt} (h : LayC Z) : Z.1 102 = 17 := (h 102 (by decide)).1
theorem ln_102 {Z : Zt} (h : LayC Z) : Z.2.1 102 = 192 := (h 102 (by decide)).2
theorem kd_103 {Z : Zt} (h : LayC Z) : Z.1 103 = 5 := (h 103 (by decide)).1
theorem kd_104 {Z : Zt} (h : LayC Z) : Z.1 104 = 15 := (h 104 (by decide)).1
theorem ln_104 {Z : Zt} (h : LayC Z) : Z.2.1 104 = 192 := (h 104 (by decide)).2
theorem kd_105 {Z : Zt} (h : LayC Z) : Z.1 105 = 13 := (h 105 (by decide)).1
theorem ln_105 {Z : Zt} (h : LayC Z) : Z.2.1 105 = 192 := (h 105 (by decide)).2
theorem kd_106 {Z : Zt} (h : LayC Z) : Z.1 106 = 2 := (h 106 (by decide)).1
theorem kd_107 {Z : Zt} (h : LayC Z) : Z.1 107 = 15 := (h 107 (by decide)).1
theorem ln_107 {Z : Zt} (h : LayC Z) : Z.2.1 107 = 6 := (h 107 (by decide)).2
theorem kd_108 {Z : Zt} (h : LayC Z) : Z.1 108 = 15 := (h 108 (by decide)).1
theorem ln_108 {Z : Zt} (h : LayC Z) : Z.2.1 108 = 6 := (h 108 (by decide)).2
theorem kd_109 {Z : Zt} (h : LayC Z) : Z.1 109 = 3 := (h 109 (by decide)).1
theorem kd_110 {Z : Zt} (h : LayC Z) : Z.1 110 = 15 := (h 110 (by decide)).1
theorem ln_110 {Z : Zt} (h : LayC Z) : Z.2.1 110 = 6 := (h 110 (by decide)).2
theorem kd_111 {Z : Zt} (h : LayC Z) : Z.1 111 = 17 := (h 111 (by decide)).1
theorem ln_111 {Z : Zt} (h : LayC Z) : Z.2.1 111 = 6 := (h 111 (by decide)).2
theorem kd_112 {Z : Zt} (h : LayC Z) : Z.1 112 = 1 := (h 112 (by decide)).1
theorem kd_113 {Z : Zt} (h : LayC Z) : Z.1 113 = 15 := (h 113 (by decide)).1
theorem ln_113 {Z : Zt} (h : LayC Z) : Z.2.1 113 = 6 := (h 113 (by decide)).2
theorem kd_114 {Z : Zt} (h : LayC Z) : Z.1 114 = 15 := (h 114 (by decide)).1
theorem ln_114 {Z : Zt} (h : LayC Z) : Z.2.1 114 = 6 := (h 114 (by decide)).2
theorem kd_115 {Z : Zt} (h : LayC Z) : Z.1 115 = 15 := (h 115 (by decide)).1
theorem ln_115 {Z : Zt} (h : LayC Z) : Z.2.1 115 = 6 := (h 115 (by decide)).2
theorem kd_116 {Z : Zt} (h : LayC Z) : Z.1 116 = 15 := (h 116 (by decide)).1
theorem ln_116 {Z : Zt} (h : LayC Z) : Z.2.1 116 = 6 := (h 116 (by decide)).2
theorem kd_117 {Z : Zt} (h : LayC Z) : Z.1 117 = 16 := (h 117 (by decide)).1
theorem ln_117 {Z : Zt} (h : LayC Z) : Z.2.1 117 = 10 := (h 117 (by decide)).2
theorem kd_118 {Z : Zt} (h : LayC Z) : Z.1 118 = 10 := (h 118 (by decide)).1
theorem kd_119 {Z : Zt} (h : LayC Z) : Z.1 119 = 15 := (h 119 (by decide)).1
theorem ln_119 {Z : Zt} (h : LayC Z) : Z.2.1 119 = 8 := (h 119 (by decide)).2
theorem kd_120 {Z : Zt} (h : LayC Z) : Z.1 120 = 15 := (h 120 (by decide)).1
theorem ln_120 {Z : Zt} (h : LayC Z) : Z.2.1 120 = 8 := (h 120 (by decide)).2
theorem kd_121 {Z : Zt} (h : LayC Z) : Z.1 121 = 15 := (h 121 (by decide)).1
theorem ln_121 {Z : Zt} (h : LayC Z) : Z.2.1 121 = 8 := (h 121 (by decide)).2
theorem kd_122 {Z : Zt} (h : LayC Z) : Z.1 122 = 15 := (h 122 (by decide)).1
theorem ln_122 {Z : Zt} (h : LayC Z) : Z.2.1 122 = 6 := (h 122 (by decide)).2
theorem kd_123 {Z : Zt} (h : LayC Z) : Z.1 123 = 15 := (h 123 (by decide)).1
theorem ln_123 {Z : Zt} (h : LayC Z) : Z.2.1 123 = 6 := (h 123 (by decide)).2
theorem kd_124 {Z : Zt} (h : LayC Z) : Z.1 124 = 15 := (h 124 (by decide)).1
theorem ln_124 {Z : Zt} (h : LayC Z) : Z.2.1 124 = 6 := (h 124 (by decide)).2
theorem kd_125 {Z : Zt} (h : LayC Z) : Z.1 125 = 15 := (h 125 (by decide)).1
theorem ln_125 {Z : Zt} (h : LayC Z) : Z.2.1 125 = 6 := (h 125 (by decide)).2
theorem kd_126 {Z : Zt} (h : LayC Z) : Z.1 126 = 15 := (h 126 (by decide)).1
theorem ln_126 {Z : Zt} (h : LayC Z) : Z.2.1 126 = 8 := (h 126 (by decide)).2
theorem kd_127 {Z : Zt} (h : LayC Z) : Z.1 127 = 15 := (h 127 (by decide)).1
theorem ln_127 {Z : Zt} (h : LayC Z) : Z.2.1 127 = 8 := (h 127 (by decide)).2
theorem kd_128 {Z : Zt} (h : LayC Z) : Z.1 128 = 15 := (h 128 (by decide)).1
theorem ln_128 {Z : Zt} (h : LayC Z) : Z.2.1 128 = 5 := (h 128 (by decide)).2
theorem kd_129 {Z : Zt} (h : LayC Z) : Z.1 129 = 15 := (h 129 (by decide)).1
theorem ln_129 {Z : Zt} (h : LayC Z) : Z.2.1 129 = 5 := (h 129 (by decide)).2
theorem kd_130 {Z : Zt} (h : LayC Z) : Z.1 130 = 15 := (h 130 (by decide)).1
theorem ln_130 {Z : Zt} (h : LayC Z) : Z.2.1 130 = 5 := (h 130 (by decide)).2
theorem kd_131 {Z : Zt} (h : LayM Z) : Z.1 131 = 12 := (h 131 (by decide) (by decide)).1
theorem kd_132 {Z : Zt} (h : LayM Z) : Z.1 132 = 14 := (h 132 (by decide) (by decide)).1
theorem ln_132 {Z : Zt} (h : LayM Z) : Z.2.1 132 = 200 := (h 132 (by decide) (by decide)).2
theorem kd_133 {Z : Zt} (h : LayM Z) : Z.1 133 = 15 := (h 133 (by decide) (by decide)).1
theorem ln_133 {Z : Zt} (h : LayM Z) : Z.2.1 133 = 12 := (h 133 (by decide) (by decide)).2
theorem kd_134 {Z : Zt} (h : LayM Z) : Z.1 134 = 15 := (h 134 (by decide) (by decide)).1
theorem ln_134 {Z : Zt} (h : LayM Z) : Z.2.1 134 = 48 := (h 134 (by decide) (by decide)).2
theorem kd_135 {Z : Zt} (h : LayM Z) : Z.1 135 = 15 := (h 135 (by decide) (by decide)).1
theorem ln_135 {Z : Zt} (h : LayM Z) : Z.2.1 135 = 48 := (h 135 (by decide) (by decide)).2
theorem kd_136 {Z : Zt} (h : LayM Z) : Z.1 136 = 15 := (h 136 (by decide) (by decide)).1
theorem ln_136 {Z : Zt} (h : LayM Z) : Z.2.1 136 = 32 := (h 136 (by decide) (by decide)).2
theorem kd_137 {Z : Zt} (h : LayM Z) : Z.1 137 = 15 := (h 137 (by decide) (by decide)).1
theorem ln_137 {Z : Zt} (h : LayM Z) : Z.2.1 137 = 30 := (h 137 (by decide) (by decide)).2
theorem kd_138 {Z : Zt} (h : LayM Z) : Z.1 138 = 15 := (h 138 (by decide) (by decide)).1
theorem ln_138 {Z : Zt} (h : LayM Z) : Z.2.1 138 = 504 := (h 138 (by decide) (by decide)).2
theorem kd_139 {Z : Zt} (h : LayM Z) : Z.1 139 = 15 := (h 139 (by decide) (by decide)).1
theorem ln_139 {Z : Zt} (h : LayM Z) : Z.2.1 139 = 12 := (h 139 (by decide) (by decide)).2
theorem kd_140 {Z : Zt} (h : LayM Z) : Z.1 140 = 15 := (h 140 (by decide) (by decide)).1
theorem ln_140 {Z : Zt} (h : LayM Z) : Z.2.1 140 = 24 := (h 140 (by decide) (by decide)).2
theorem kd_141 {Z : Zt} (h : LayM Z) : Z.1 141 = 15 := (h 141 (by decide) (by decide)).1
theorem ln_141 {Z : Zt} (h : LayM Z) : Z.2.1 141 = 36864 := (h 141 (by decide) (by decide)).2
theorem kd_142 {Z : Zt} (h : LayM Z) : Z.1 142 = 15 := (h 142 (by decide) (by decide)).1
theorem ln_142 {Z : Zt} (h : LayM Z) : Z.2.1 142 = 6 := (h 142 (by decide) (by decide)).2
theorem kd_143 {Z : Zt} (h : LayM Z) : Z.1 143 = 16 := (h 143 (by decide) (by decide)).1
theorem ln_143 {Z : Zt} (h : LayM Z) : Z.2.1 143 = 11 := (h 143 (by decide) (by decide)).2
theorem kd_144 {Z : Zt} (h : LayM Z) : Z.1 144 = 15 := (h 144 (by decide) (by decide)).1
theorem ln_144 {Z : Zt} (h : LayM Z) : Z.2.1 144 = 4 := (h 144 (by decide) (by decide)).2
theorem pr_0_0 {P : Pt'} (h : LayP P) : P 0 0 = some 1 := h (0, 0, 1) (List.mem_of_getElem? (i := 0) rfl)
theorem pr_0_1 {P : Pt'} (h : LayP P) : P 0 1 = some 4 := h (0, 1, 4) (List.mem_of_getElem? (i := 1) rfl)
theorem pr_0_2 {P : Pt'} (h : LayP P) : P 0 2 = some 25 := h (0, 2, 25) (List.mem_of_getElem? (i := 2) rfl)
theorem pr_0_3 {P : Pt'} (h : LayP P) : P 0 3 = some 83 := h (0, 3, 83) (List.mem_of_getElem? (i := 3) rfl)
theorem pr_0_4 {P : Pt'} (h : LayP P) : P 0 4 = some 99 := h (0, 4, 99) (List.mem_of_getElem? (i := 4) rfl)
theorem pr_0_5 {P : Pt'} (h : LayP P) : P 0 5 = some 100 := h (0, 5, 100) (List.mem_of_getElem? (i := 5) rfl)
theorem pr_0_6 {P : Pt'} (h : LayP P) : P 0 6 = some 101 := h (0, 6, 101) (List.mem_of_getElem? (i := 6) rfl)
theorem pr_0_7 {P : Pt'} (h : LayP P) : P 0 7 = some 106 := h (0, 7, 106) (List.mem_of_getElem? (i := 7) rfl)
theorem pr_0_8 {P : Pt'} (h : LayP P) : P 0 8 = some 109 := h (0, 8, 109) (List.mem_of_getElem? (i := 8) rfl)
theorem pr_0_9 {P : Pt'} (h : LayP P) : P 0 9 = some 112 := h (0, 9, 112) (List.mem_of_getElem? (i := 9) rfl)
theorem pr_0_10 {P : Pt'} (h : LayP P) : P 0 10 = some 117 := h (0, 10, 117) (List.mem_of_getElem? (i := 10) rfl)
theorem pr_1_0 {P : Pt'} (h : LayP P) : P 1 0 = some 2 := h (1, 0, 2) (List.mem_of_getElem? (i := 11) rfl)
theorem pr_1_1 {P : Pt'} (h : LayP P) : P 1 1 = some 3 := h (1, 1, 3) (List.mem_of_getElem? (i := 12) rfl)
theorem pr_4_1 {P : Pt'} (h : LayP P) : P 4 1 = some 18 := h (4, 1, 18) (List.mem_of_getElem? (i := 13) rfl)
theorem pr_5_2 {P : Pt'} (h : LayP P) : P 5 2 = some 6 := h (5, 2, 6) (List.mem_of_getElem? (i := 14) rfl)
theorem pr_5_3 {P : Pt'} (h : LayP P) : P 5 3 = some 7 := h (5, 3, 7) (List.mem_of_getElem? (i := 15) rfl)
theorem pr_5_4 {P : Pt'} (h : LayP P) : P 5 4 = some 8 := h (5, 4, 8) (List.mem_of_getElem? (i := 16) rfl)
theorem pr_5_6 {P : Pt'} (h : LayP P) : P 5 6 = some 9 := h (5, 6, 9) (List.mem_of_getElem? (i := 17) rfl)
theorem pr_5_7 {P : Pt'} (h : LayP P) : P 5 7 = some 10 := h (5, 7, 10) (List.mem_of_getElem? (i := 18) rfl)
theorem pr_5_8 {P : Pt'} (h : LayP P) : P 5 8 = some 11 := h (5, 8, 11) (List.mem_of_getElem? (i := 19) rfl)
theorem pr_5_9 {P : Pt'} (h : LayP P) : P 5 9 = some 12 := h (5, 9, 12) (List.mem_of_getElem? (i := 20) rfl)
theorem pr_5_11 {P : Pt'} (h : LayP P) : P 5 11 = some 13 := h (5, 11, 13) (List.mem_of_getElem? (i := 21) rfl)
theorem pr_5_12 {P : Pt'} (h : LayP P) : P 5 12 = some 14 := h (5, 12, 14) (List.mem_of_getElem? (i := 22) rfl)
theorem pr_5_14 {P : Pt'} (h : LayP P) : P 5 14 = some 15 := h (5, 14, 15) (List.mem_of_getElem? (i := 23) rfl)
theorem pr_5_15 {P : Pt'} (h : LayP P) : P 5 15 = some 16 := h (5, 15, 16) (List.mem_of_getElem? (i := 24) rfl)
theorem pr_5_16 {P : Pt'} (h : LayP P) : P 5 16 = some 17 := h (5, 16, 17) (List.mem_of_getElem? (i := 25) rfl)
theorem pr_18_2 {P : Pt'} (h : LayP P) : P 18 2 = some 19 := h (18, 2, 19) (List.mem_of_getElem? (i := 26) rfl)
theorem pr_18_3 {P : Pt'} (h : LayP P) : P 18 3 = some 20 := h (18, 3, 20) (List.mem_of_getElem? (i := 27) rfl)
theorem pr_18_4 {P : Pt'} (h : LayP P) : P 18 4 = some 21 := h (18, 4, 21) (List.mem_of_getElem? (i := 28) rfl)
theorem pr_18_5 {P : Pt'} (h : LayP P) : P 18 5 = some 22 := h (18, 5, 22) (List.mem_of_getElem? (i := 29) rfl)
theorem pr_18_6 {P : Pt'} (h : LayP P) : P 18 6 = some 23 := h (18, 6, 23) (List.mem_of_getElem? (i := 30) rfl)
theorem pr_18_7 {P : Pt'} (h : LayP P) : P 18 7 = some 24 := h (18, 7, 24) (List.mem_of_getElem? (i := 31) rfl)
theorem pr_25_0 {P : Pt'} (h : LayP P) : P 25 0 = some 26 := h (25, 0, 26) (List.mem_of_getElem? (i := 32) rfl)
theorem pr_26_0 {P : Pt'} (h : LayP P) : P 26 0 = some 27 := h (26, 0, 27) (List.mem_of_getElem? (i := 33) rfl)
theorem pr_26_1 {P : Pt'} (h : LayP P) : P 26 1 = some 34 := h (26, 1, 34) (List.mem_of_getElem? (i := 34) rfl)
theorem pr_26_2 {P : Pt'} (h : LayP P) : P 26 2 = some 41 := h (26, 2, 41) (List.mem_of_getElem? (i := 35) rfl)
theorem pr_26_3 {P : Pt'} (h : LayP P) : P 26 3 = some 48 := h (26, 3, 48) (List.mem_of_getElem? (i := 36) rfl)
theorem pr_26_4 {P : Pt'} (h : LayP P) : P 26 4 = some 55 := h (26, 4, 55) (List.mem_of_getElem? (i := 37) rfl)
theorem pr_26_5 {P : Pt'} (h : LayP P) : P 26 5 = some 62 := h (26, 5, 62) (List.mem_of_getElem? (i := 38) rfl)
theorem pr_26_6 {P : Pt'} (h : LayP P) : P 26 6 = some 69 := h (26, 6, 69) (List.mem_of_getElem? (i := 39) rfl)
theorem pr_26_7 {P : Pt'} (h : LayP P) : P 26 7 = some 76 := h (26, 7, 76) (List.mem_of_getElem? (i := 40) rfl)
theorem pr_27_2 {P : Pt'} (h : LayP P) : P 27 2 = some 28 := h (27, 2, 28) (List.mem_of_getElem? (i := 41) rfl)
theorem pr_27_3 {P : Pt'} (h : LayP P) : P 27 3 = some 29 := h (27, 3, 29) (List.mem_of_getElem? (i := 42) rfl)
theorem pr_27_4 {P : Pt'} (h : LayP P) : P 27 4 = some 30 := h (27, 4, 30) (List.mem_of_getElem? (i := 43) rfl)
theorem pr_27_5 {P : Pt'} (h : LayP P) : P 27 5 = some 31 := h (27, 5, 31) (List.mem_of_getElem? (i := 44) rfl)
theorem pr_27_6 {P : Pt'} (h : LayP P) : P 27 6 = some 32 := h (27, 6, 32) (List.mem_of_getElem? (i := 45) rfl)
theorem pr_27_7 {P : Pt'} (h : LayP P) : P 27 7 = some 33 := h (27, 7, 33) (List.mem_of_getElem? (i := 46) rfl)
theorem pr_34_2 {P : Pt'} (h : LayP P) : P 34 2 = some 35 := h (34, 2, 35) (List.mem_of_getElem? (i := 47) rfl)
theorem pr_34_3 {P : Pt'} (h : LayP P) : P 34 3 = some 36 := h (34, 3, 36) (List.mem_of_getElem? (i := 48) rfl)
theorem pr_34_4 {P : Pt'} (h : LayP P) : P 34 4 = some 37 := h (34, 4, 37) (List.mem_of_getElem? (i := 49) rfl)
theorem pr_34_5 {P : Pt'} (h : LayP P) : P 34 5 = some 38 := h (34, 5, 38) (List.mem_of_getElem? (i := 50) rfl)
theorem pr_34_6 {P : Pt'} (h : LayP P) : P 34 6 = some 39 := h (34, 6, 39) (List.mem_of_getElem? (i := 51) rfl)
theorem pr_34_7 {P : Pt'} (h : LayP P) : P 34 7 = some 40 := h (34, 7, 40) (List.mem_of_getElem? (i := 52) rfl)
theorem pr_41_2 {P : Pt'} (h : LayP P) : P 41 2 = some 42 := h (41, 2, 42) (List.mem_of_getElem? (i := 53) rfl)
theorem pr_41_3 {P : Pt'} (h : LayP P) : P 41 3 = some 43 := h (41, 3, 43) (List.mem_of_getElem? (i := 54) rfl)
theorem pr_41_4 {P : Pt'} (h : LayP P) : P 41 4 = some 44 := h (41, 4, 44) (List.mem_of_getElem? (i := 55) rfl)
theorem pr_41_5 {P : Pt'} (h : LayP P) : P 41 5 = some 45 := h (41, 5, 45) (List.mem_of_getElem? (i := 56) rfl)
theorem pr_41_6 {P : Pt'} (h : LayP P) : P 41 6 = some 46 := h (41, 6, 46) (List.mem_of_getElem? (i := 57) rfl)
theorem pr_41_7 {P : Pt'} (h : LayP P) : P 41 7 = some 47 := h (41, 7, 47) (List.mem_of_getElem? (i := 58) rfl)
theorem pr_48_2 {P : Pt'} (h : LayP P) : P 48 2 = some 49 := h (48, 2, 49) (List.mem_of_getElem? (i := 59) rfl)
theorem pr_48_3 {P : Pt'} (h : LayP P) : P 48 3 = some 50 := h (48, 3, 50) (List.mem_of_getElem? (i := 60) rfl)
theorem pr_48_4 {P : Pt'} (h : LayP P) : P 48 4 = some 51 := h (48, 4, 51) (List.mem_of_getElem? (i := 61) rfl)
theorem pr_48_5 {P : Pt'} (h : LayP P) : P 48 5 = some 52 := h (48, 5, 52) (List.mem_of_getElem? (i := 62) rfl)
theorem pr_48_6 {P : Pt'} (h : LayP P) : P 48 6 = some 53 := h (48, 6, 53) (List.mem_of_getElem? (i := 63) rfl)
theorem pr_48_7 {P : Pt'} (h : LayP P) : P 48 7 = some 54 := h (48, 7, 54) (List.mem_of_getElem? (i := 64) rfl)
theorem pr_55_2 {P : Pt'} (h : LayP P) : P 55 2 = some 56 := h (55, 2, 56) (List.mem_of_getElem? (i := 65) rfl)
theorem pr_55_3 {P : Pt'} (h : LayP P) : P 55 3 = some 57 := h (55, 3, 57) (List.mem_of_getElem? (i := 66) rfl)
theorem pr_55_4 {P : Pt'} (h : LayP P) : P 55 4 = some 58 := h (55, 4, 58) (List.mem_of_getElem? (i := 67) rfl)
theorem pr_55_5 {P : Pt'} (h : LayP P) : P 55 5 = some 59 := h (55, 5, 59) (List.mem_of_getElem? (i := 68) rfl)
theorem pr_55_6 {P : Pt'} (h : LayP P) : P 55 6 = some 60 := h (55, 6, 60) (List.mem_of_getElem? (i := 69) rfl)
theorem pr_55_7 {P : Pt'} (h : LayP P) : P 55 7 = some 61 := h (55, 7, 61) (List.mem_of_getElem? (i := 70) rfl)
theorem pr_62_2 {P : Pt'} (h : LayP P) : P 62 2 = some 63 := h (62, 2, 63) (List.mem_of_getElem? (i := 71) rfl)
theorem pr_62_3 {P : Pt'} (h : LayP P) : P 62 3 = some 64 := h (62, 3, 64) (List.mem_of_getElem? (i := 72) rfl)
theorem pr_62_4 {P : Pt'} (h : LayP P) : P 62 4 = some 65 := h (62, 4, 65) (List.mem_of_getElem? (i := 73) rfl)
theorem pr_62_5 {P : Pt'} (h : LayP P) : P 62 5 = some 66 := h (62, 5, 66) (List.mem_of_getElem? (i := 74) rfl)
theorem pr_62_6 {P : Pt'} (h : LayP P) : P 62 6 = some 67 := h (62, 6, 67) (List.mem_of_getElem? (i := 75) rfl)
theorem pr_62_7 {P : Pt'} (h : LayP P) : P 62 7 = some 68 := h (62, 7, 68) (List.mem_of_getElem? (i := 76) rfl)
theorem pr_69_2 {P : Pt'} (h : LayP P) : P 69 2 = some 70 := h (69, 2, 70) (List.mem_of_getElem? (i := 77) rfl)
theorem pr_69_3 {P : Pt'} (h : LayP P) : P 69 3 = some 71 := h (69, 3, 71) (List.mem_of_getElem? (i := 78) rfl)
theorem pr_69_4 {P : Pt'} (h : LayP P) : P 69 4 = some 72 := h (69, 4, 72) (List.mem_of_getElem? (i := 79) rfl)
theorem pr_69_5 {P : Pt'} (h : LayP P) : P 69 5 = some 73 := h (69, 5, 73) (List.mem_of_getElem? (i := 80) rfl)
theorem pr_69_6 {P : Pt'} (h : LayP P) : P 69 6 = some 74 := h (69, 6, 74) (List.mem_of_getElem? (i := 81) rfl)
theorem pr_69_7 {P : Pt'} (h : LayP P) : P 69 7 = some 75 := h (69, 7, 75) (List.mem_of_getElem? (i := 82) rfl)
theorem pr_76_2 {P : Pt'} (h : LayP P) : P 76 2 = some 77 := h (76, 2, 77) (List.mem_of_getElem? (i := 83) rfl)
theorem pr_76_3 {P : Pt'} (h : LayP P) : P 76 3 = some 78 := h (76, 3, 78) (List.mem_of_getElem? (i := 84) rfl)
theorem pr_76_4 {P : Pt'} (h : LayP P) : P 76 4 = some 79 := h (76, 4, 79) (List.mem_of_getElem? (i := 85) rfl)
theorem pr_76_5 {P : Pt'} (h : LayP P) : P 76 5 = some 80 := h (76, 5, 80) (List.mem_of_getElem? (i := 86) rfl)
theorem pr_76_6 {P : Pt'} (h : LayP P) : P 76 6 = some 81 := h (76, 6, 81) (List.mem_of_getElem? (i := 87) rfl)
theorem pr_76_7 {P : Pt'} (h : LayP P) : P 76 7 = some 82 := h (76, 7, 82) (List.mem_of_getElem? (i := 88) rfl)
theorem pr_83_0 {P : Pt'} (h : LayP P) : P 83 0 = some 84 := h (83, 0, 84) (List.mem_of_getElem? (i := 89) rfl)
theorem pr_84_0 {P : Pt'} (h : LayP P) : P 84 0 = some 85 := h (84, 0, 85) (List.mem_of_getElem? (i := 90) rfl)
theorem pr_84_1 {P : Pt'} (h : LayP P) : P 84 1 = some 92 := h (84, 1, 92) (List.mem_of_getElem? (i := 91) rfl)
theorem pr_85_2 {P : Pt'} (h : LayP P) : P 85 2 = some 86 := h (85, 2, 86) (List.mem_of_getElem? (i := 92) rfl)
theorem pr_85_3 {P : Pt'} (h : LayP P) : P 85 3 = some 87 := h (85, 3, 87) (List.mem_of_getElem? (i := 93) rfl)
theorem pr_85_4 {P : Pt'} (h : LayP P) : P 85 4 = some 88 := h (85, 4, 88) (List.mem_of_getElem? (i := 94) rfl)
theorem pr_85_5 {P : Pt'} (h : LayP P) : P 85 5 = some 89 := h (85, 5, 89) (List.mem_of_getElem? (i := 95) rfl)
theorem pr_85_6 {P : Pt'} (h : LayP P) : P 85 6 = some 90 := h (85, 6, 90) (List.mem_of_getElem? (i := 96) rfl)
theorem pr_85_7 {P : Pt'} (h : LayP P) : P 85 7 = some 91 := h (85, 7, 91) (List.mem_of_getElem? (i := 97) rfl)
theorem pr_92_2 {P : Pt'} (h : LayP P) : P 92 2 = some 93 := h (92, 2, 93) (List.mem_of_getElem? (i := 98) rfl)
theorem pr_92_3 {P : Pt'} (h : LayP P) : P 92 3 = some 94 := h (92, 3, 94) (List.mem_of_getElem? (i := 99) rfl)
theorem pr_92_4 {P : Pt'} (h : LayP P) : P 92 4 = some 95 := h (92, 4, 95) (List.mem_of_getElem? (i := 100) rfl)
theorem pr_92_5 {P : Pt'} (h : LayP P) : P 92 5 = some 96 := h (92, 5, 96) (List.mem_of_getElem? (i := 101) rfl)
theorem pr_92_6 {P : Pt'} (h : LayP P) : P 92 6 = some 97 := h (92, 6, 97) (List.mem_of_getElem? (i := 102) rfl)
theorem pr_92_7 {P : Pt'} (h : LayP P) : P 92 7 = some 98 := h (92, 7, 98) (List.mem_of_getElem? (i := 103) rfl)
theorem pr_99_0 {P : Pt'} (h : LayP P) : P 99 0 = some 4 := h (99, 0, 4) (List.mem_of_getElem? (i := 104) rfl)
theorem pr_100_0 {P : Pt'} (h : LayP P) : P 100 0 = some 4 := h (100, 0, 4) (List.mem_of_getElem? (i := 105) rfl)
theorem pr_101_0 {P : Pt'} (h : LayP P) : P 101 0 = some 4 := h (101, 0, 4) (List.mem_of_getElem? (i := 106) rfl)
theorem pr_101_1 {P : Pt'} (h : LayP P) : P 101 1 = some 102 := h (101, 1, 102) (List.mem_of_getElem? (i := 107) rfl)
theorem pr_101_2 {P : Pt'} (h : LayP P) : P 101 2 = some 103 := h (101, 2, 103) (List.mem_of_getElem? (i := 108) rfl)
theorem pr_101_3 {P : Pt'} (h : LayP P) : P 101 3 = some 105 := h (101, 3, 105) (List.mem_of_getElem? (i := 109) rfl)
theorem pr_103_0 {P : Pt'} (h : LayP P) : P 103 0 = some 104 := h (103, 0, 104) (List.mem_of_getElem? (i := 110) rfl)
theorem pr_106_0 {P : Pt'} (h : LayP P) : P 106 0 = some 4 := h (106, 0, 4) (List.mem_of_getElem? (i := 111) rfl)
theorem pr_106_1 {P : Pt'} (h : LayP P) : P 106 1 = some 101 := h (106, 1, 101) (List.mem_of_getElem? (i := 112) rfl)
theorem pr_106_2 {P : Pt'} (h : LayP P) : P 106 2 = some 107 := h (106, 2, 107) (List.mem_of_getElem? (i := 113) rfl)
theorem pr_106_3 {P : Pt'} (h : LayP P) : P 106 3 = some 108 := h (106, 3, 108) (List.mem_of_getElem? (i := 114) rfl)
theorem pr_109_0 {P : Pt'} (h : LayP P) : P 109 0 = some 4 := h (109, 0, 4) (List.mem_of_getElem? (i := 115) rfl)
theorem pr_109_1 {P : Pt'} (h : LayP P) : P 109 1 = some 101 := h (109, 1, 101) (List.mem_of_getElem? (i := 116) rfl)
theorem pr_109_2 {P : Pt'} (h : LayP P) : P 109 2 = some 110 := h (109, 2, 110) (List.mem_of_getElem? (i := 117) rfl)
theorem pr_109_3 {P : Pt'} (h : LayP P) : P 109 3 = some 111 := h (109, 3, 111) (List.mem_of_getElem? (i := 118) rfl)
theorem pr_112_0 {P : Pt'} (h : LayP P) : P 112 0 = some 113 := h (112, 0, 113) (List.mem_of_getElem? (i := 119) rfl)
theorem pr_112_1 {P : Pt'} (h : LayP P) : P 112 1 = some 114 := h (112, 1, 114) (List.mem_of_getElem? (i := 120) rfl)
theorem pr_112_2 {P : Pt'} (h : LayP P) : P 112 2 = some 115 := h (112, 2, 115) (List.mem_of_getElem? (i := 121) rfl)
theorem pr_112_3 {P : Pt'} (h : LayP P) : P 112 3 = some 116 := h (112, 3, 116) (List.mem_of_getElem? (i := 122) rfl)
theorem pr_118_2 {P : Pt'} (h : LayP P) : P 118 2 = some 119 := h (118, 2, 119) (List.mem_of_getElem? (i := 123) rfl)
theorem pr_118_3 {P : Pt'} (h : LayP P) : P 118 3 = some 120 := h (118, 3, 120) (List.mem_of_getElem? (i := 124) rfl)
theorem pr_118_4 {P : Pt'} (h : LayP P) : P 118 4 = some 121 := h (118, 4, 121) (List.mem_of_getElem? (i := 125) rfl)
theorem pr_118_6 {P : Pt'} (h : LayP P) : P 118 6 = some 122 := h (118, 6, 122) (List.mem_of_getElem? (i := 126) rfl)
theorem pr_118_7 {P : Pt'} (h : LayP P) : P 118 7 = some 123 := h (118, 7, 123) (List.mem_of_getElem? (i := 127) rfl)
theorem pr_118_8 {P : Pt'} (h : LayP P) : P 118 8 = some 124 := h (118, 8, 124) (List.mem_of_getElem? (i := 128) rfl)
theorem pr_118_9 {P : Pt'} (h : LayP P) : P 118 9 = some 125 := h (118, 9, 125) (List.mem_of_getElem? (i := 129) rfl)
theorem pr_118_11 {P : Pt'} (h : LayP P) : P 118 11 = some 126 := h (118, 11, 126) (List.mem_of_getElem? (i := 130) rfl)
theorem pr_118_12 {P : Pt'} (h : LayP P) : P 118 12 = some 127 := h (118, 12, 127) (List.mem_of_getElem? (i := 131) rfl)
theorem pr_118_14 {P : Pt'} (h : LayP P) : P 118 14 = some 128 := h (118, 14, 128) (List.mem_of_getElem? (i := 132) rfl)
theorem pr_118_15 {P : Pt'} (h : LayP P) : P 118 15 = some 129 := h (118, 15, 129) (List.mem_of_getElem? (i := 133) rfl)
theorem pr_118_16 {P : Pt'} (h : LayP P) : P 118 16 = some 130 := h (118, 16, 130) (List.mem_of_getElem? (i := 134) rfl)
theorem pr_131_1 {P : Pt'} (h : LayQ P) : P 131 1 = some 132 := h (131, 1, 132) (List.mem_of_getElem? (i := 0) rfl)
theorem pr_131_3 {P : Pt'} (h : LayQ P) : P 131 3 = some 133 := h (131, 3, 133) (List.mem_of_getElem? (i := 1) rfl)
theorem pr_131_4 {P : Pt'} (h : LayQ P) : P 131 4 = some 134 := h (131, 4, 134) (List.mem_of_getElem? (i := 2) rfl)
theorem pr_131_5 {P : Pt'} (h : LayQ P) : P 131 5 = some 135 := h (131, 5, 135) (List.mem_of_getElem? (i := 3) rfl)
theorem pr_131_6 {P : Pt'} (h : LayQ P) : P 131 6 = some 136 := h (131, 6, 136) (List.mem_of_getElem? (i := 4) rfl)
theorem pr_131_7 {P : Pt'} (h : LayQ P) : P 131 7 = some 137 := h (131, 7, 137) (List.mem_of_getElem? (i := 5) rfl)
theorem pr_131_8 {P : Pt'} (h : LayQ P) : P 131 8 = some 138 := h (131, 8, 138) (List.mem_of_getElem? (i := 6) rfl)
theorem pr_131_12 {P : Pt'} (h : LayQ P) : P 131 12 = some 139 := h (131, 12, 139) (List.mem_of_getElem? (i := 7) rfl)
theorem pr_131_14 {P : Pt'} (h : LayQ P) : P 131 14 = some 140 := h (131, 14, 140) (List.mem_of_getElem? (i := 8) rfl)
theorem pr_131_15 {P : Pt'} (h : LayQ P) : P 131 15 = some 141 := h (131, 15, 141) (List.mem_of_getElem? (i := 9) rfl)
theorem pr_131_17 {P : Pt'} (h : LayQ P) : P 131 17 = some 142 := h (131, 17, 142) (List.mem_of_getElem? (i := 10) rfl)
theorem pr_131_20 {P : Pt'} (h : LayQ P) : P 131 20 = some 143 := h (131, 20, 143) (List.mem_of_getElem? (i := 11) rfl)
theorem pr_131_21 {P : Pt'} (h : LayQ P) : P 131 21 = some 144 := h (131, 21, 144) (List.mem_of_getElem? (i := 12) rfl)
def IsT (T : Nat) : Prop := T = 5 ∨ T = 118
def IsS (S : Nat) : Prop := S = 18 ∨ S = 27 ∨ S = 34 ∨ S = 41 ∨ S = 48 ∨ S = 55 ∨ S = 62 ∨ S = 69 ∨ S = 76 ∨ S = 85 ∨ S = 92
def IsD (D : Nat) : Prop := D = 99 ∨ D = 100
def IsP (p : Nat) (n : Int) : Prop := (p = 25 ∧ n = 8) ∨ (p = 83 ∧ n = 2)
theorem kdT_0 {Z : Zt} {X : Nat} (h : LayC Z) (hX : IsT X) : Z.1 X = 10 := by
  rcases hX with rfl | rfl
  · exact kd_5 h
  · exact kd_118 h
theorem kdT_1 {Z : Zt} {X : Nat} (h : LayC Z) (hX : IsT X) : Z.1 (X + 1) = 15 := by
  rcases hX with rfl | rfl
  · exact kd_6 h
  · exact kd_119 h
theorem lnT_1 {Z : Zt} {X : Nat} (h : LayC Z) (hX : IsT X) : Z.2.1 (X + 1) = 8 := by
  rcases hX with rfl | rfl
  · exact ln_6 h
  · exact ln_119 h
theorem kdT_2 {Z : Zt} {X : Nat} (h : LayC Z) (hX : IsT X) : Z.1 (X + 2) = 15 := by
  rcases hX with rfl | rfl
  · exact kd_7 h
  · exact kd_120 h
theorem lnT_2 {Z : Zt} {X : Nat} (h : LayC Z) (hX : IsT X) : Z.2.1 (X + 2) = 8 := by
  rcases hX with rfl | rfl
  · exact ln_7 h
  · exact ln_120 h
theorem kdT_3 {Z : Zt} {X : Nat} (h : LayC Z) (hX : IsT X) : Z.1 (X + 3) = 15 := by
  rcases hX with rfl | rfl
  · exact kd_8 h
  · exact kd_121 h
theorem lnT_3 {Z : Zt} {X : Nat} (h : LayC Z) (hX : IsT X) : Z.2.1 (X + 3) = 8 := by
  rcases hX with rfl | rfl
  · exact ln_8 h
  · exact ln_121 h
theorem kdT_4 {Z : Zt} {X : Nat} (h : LayC Z) (hX : IsT X) : Z.1 (X + 4) = 15 := by
  rcases hX with rfl | rfl
  · exact kd_9 h
  · exact kd_122 h
theorem lnT_4 {Z : Zt} {X : Nat} (h : LayC Z) (hX : IsT X) : Z.2.1 (X + 4) = 6 := by
  rcases hX with rfl | rfl
  · exact ln_9 h
  · exact ln_122 h
theorem kdT_5 {Z : Zt} {X : Nat} (h : LayC Z) (hX : IsT X) : Z.1 (X + 5) = 15 := by
  rcases hX with rfl | rfl
  · exact kd_10 h
  · exact kd_123 h
theorem lnT_5 {Z : Zt} {X : Nat} (h : LayC Z) (hX : IsT X) : Z.2.1 (X + 5) = 6 := by
  rcases hX with rfl | rfl
  · exact ln_10 h
  · exact ln_123 h
theorem kdT_6 {Z : Zt} {X : Nat} (h : LayC Z) (hX : IsT X) : Z.1 (X + 6) = 15 := by
  rcases hX with rfl | rfl
  · exact kd_11 h
  · exact kd_124 h
theorem lnT_6 {Z : Zt} {X : Nat} (h : LayC Z) (hX : IsT X) : Z.2.1 (X + 6) = 6 := by
  rcases hX with rfl | rfl
  · exact ln_11 h
  · exact ln_124 h
theorem kdT_7 {Z : Zt} {X : Nat} (h : LayC Z) (hX : IsT X) : Z.1 (X + 7) = 15 := by
  rcases hX with rfl | rfl
  · exact kd_12 h
  · exact kd_125 h
theorem lnT_7 {Z : Zt} {X : Nat} (h : LayC Z) (hX : IsT X) : Z.2.1 (X + 7) = 6 := by
  rcases hX with rfl | rfl
  · exact ln_12 h
  · exact ln_125 h
theorem kdT_8 {Z : Zt} {X : Nat} (h : LayC Z) (hX : IsT X) : Z.1 (X + 8) = 15 := by
  rcases hX with rfl | rfl
  · exact kd_13 h
  · exact kd_126 h
theorem lnT_8 {Z : Zt} {X : Nat} (h : LayC Z) (hX : IsT X) : Z.2.1 (X + 8) = 8 := by
  rcases hX with rfl | rfl
  · exact ln_13 h
  · exact ln_126 h
theorem kdT_9 {Z : Zt} {X : Nat} (h : LayC Z) (hX : IsT X) : Z.1 (X + 9) = 15 := by
  rcases hX with rfl | rfl
  · exact kd_14 h
  · exact kd_127 h
theorem lnT_9 {Z : Zt} {X : Nat} (h : LayC Z) (hX : IsT X) : Z.2.1 (X + 9) = 8 := by
  rcases hX with rfl | rfl
  · exact ln_14 h
  · exact ln_127 h
theorem kdT_10 {Z : Zt} {X : Nat} (h : LayC Z) (hX : IsT X) : Z.1 (X + 10) = 15 := by
  rcases hX with rfl | rfl
  · exact kd_15 h
  · exact kd_128 h
theorem lnT_10 {Z : Zt} {X : Nat} (h : LayC Z) (hX : IsT X) : Z.2.1 (X + 10) = 5 := by
  rcases hX with rfl | rfl
  · exact ln_15 h
  · exact ln_128 h
theorem kdT_11 {Z : Zt} {X : Nat} (h : LayC Z) (hX : IsT X) : Z.1 (X + 11) = 15 := by
  rcases hX with rfl | rfl
  · exact kd_16 h
  · exact kd_129 h
theorem lnT_11 {Z : Zt} {X : Nat} (h : LayC Z) (hX : IsT X) : Z.2.1 (X + 11) = 5 := by
  rcases hX with rfl | rfl
  · exact ln_16 h
  · exact ln_129 h
theorem kdT_12 {Z : Zt} {X : Nat} (h : LayC Z) (hX : IsT X) : Z.1 (X + 12) = 15 := by
  rcases hX with rfl | rfl
  · exact kd_17 h
  · exact kd_130 h
theorem lnT_12 {Z : Zt} {X : Nat} (h : LayC Z) (hX : IsT X) : Z.2.1 (X + 12) = 5 := by
  rcases hX with rfl | rfl
  · exact ln_17 h
  · exact ln_130 h
theorem prT_2 {P : Pt'} {X : Nat} (h : LayP P) (hX : IsT X) : P X 2 = some (X + 1) := by
  rcases hX with rfl | rfl
  · exact pr_5_2 h
  · exact pr_118_2 h
theorem prT_3 {P : Pt'} {X : Nat} (h : LayP P) (hX : IsT X) : P X 3 = some (X + 2) := by
  rcases hX with rfl | rfl
  · exact pr_5_3 h
  · exact pr_118_3 h
theorem prT_4 {P : Pt'} {X : Nat} (h : LayP P) (hX : IsT X) : P X 4 = some (X + 3) := by
  rcases hX with rfl | rfl
  · exact pr_5_4 h
  · exact pr_118_4 h
theorem prT_6 {P : Pt'} {X : Nat} (h : LayP P) (hX : IsT X) : P X 6 = some (X + 4) := by
  rcases hX with rfl | rfl
  · exact pr_5_6 h
  · exact pr_118_6 h
theorem prT_7 {P : Pt'} {X : Nat} (h : LayP P) (hX : IsT X) : P X 7 = some (X + 5) := by
  rcases hX with rfl | rfl
  · exact pr_5_7 h
  · exact pr_118_7 h
theorem prT_8 {P : Pt'} {X : Nat} (h : LayP P) (hX : IsT X) : P X 8 = some (X + 6) := by
  rcases hX with rfl | rfl
  · exact pr_5_8 h
  · exact pr_118_8 h
theorem prT_9 {P : Pt'} {X : Nat} (h : LayP P) (hX : IsT X) : P X 9 = some (X + 7) := by
  rcases hX with rfl | rfl
  · exact pr_5_9 h
  · exact pr_118_9 h
theorem prT_11 {P : Pt'} {X : Nat} (h : LayP P) (hX : IsT X) : P X 11 = some (X + 8) := by
  rcases hX with rfl | rfl
  · exact pr_5_11 h
  · exact pr_118_11 h
theorem prT_12 {P : Pt'} {X : Nat} (h : LayP P) (hX : IsT X) : P X 12 = some (X + 9) := by
  rcases hX with rfl | rfl
  · exact pr_5_12 h
  · exact pr_118_12 h
theorem prT_14 {P : Pt'} {X : Nat} (h : LayP P) (hX : IsT X) : P X 14 = some (X + 10) := by
  rcases hX with rfl | rfl
  · exact pr_5_14 h
  · exact pr_118_14 h
theorem prT_15 {P : Pt'} {X : Nat} (h : LayP P) (hX : IsT X) : P X 15 = some (X + 11) := by
  rcases hX with rfl | rfl
  · exact pr_5_15 h
  · exact pr_118_15 h
theorem prT_16 {P : Pt'} {X : Nat} (h : LayP P) (hX : IsT X) : P X 16 = some (X + 12) := by
  rcases hX with rfl | rfl
  · exact pr_5_16 h
  · exact pr_118_16 h
theorem kdS_0 {Z : Zt} {X : Nat} (h : LayC Z) (hX : IsS X) : Z.1 X = 8 := by
  rcases hX with rfl | rfl | rfl | rfl | rfl | rfl | rfl | rfl | rfl | rfl | rfl
  · exact kd_18 h
  · exact kd_27 h
  · exact kd_34 h
  · exact kd_41 h
  · exact kd_48 h
  · exact kd_55 h
  · exact kd_62 h
  · exact kd_69 h
  · exact kd_76 h
  · exact kd_85 h
  · exact kd_92 h
theorem kdS_1 {Z : Zt} {X : Nat} (h : LayC Z) (hX : IsS X) : Z.1 (X + 1) = 15 := by
  rcases hX with rfl | rfl | rfl | rfl | rfl | rfl | rfl | rfl | rfl | rfl | rfl
  · exact kd_19 h
  · exact kd_28 h
  · exact kd_35 h
  · exact kd_42 h
  · exact kd_49 h
  · exact kd_56 h
  · exact kd_63 h
  · exact kd_70 h
  · exact kd_77 h
  · exact kd_86 h
  · exact kd_93 h
theorem lnS_1 {Z : Zt} {X : Nat} (h : LayC Z) (hX : IsS X) : Z.2.1 (X + 1) = 6 := by
  rcases hX with rfl | rfl | rfl | rfl | rfl | rfl | rfl | rfl | rfl | rfl | rfl
  · exact ln_19 h
  · exact ln_28 h
  · exact ln_35 h
  · exact ln_42 h
  · exact ln_49 h
  · exact ln_56 h
  · exact ln_63 h
  · exact ln_70 h
  · exact ln_77 h
  · exact ln_86 h
  · exact ln_93 h
theorem kdS_2 {Z : Zt} {X : Nat} (h : LayC Z) (hX : IsS X) : Z.1 (X + 2) = 13 := by
  rcases hX with rfl | rfl | rfl | rfl | rfl | rfl | rfl | rfl | rfl | rfl | rfl
  · exact kd_20 h
  · exact kd_29 h
  · exact kd_36 h
  · exact kd_43 h
  · exact kd_50 h
  · exact kd_57 h
  · exact kd_64 h
  · exact kd_71 h
  · exact kd_78 h
  · exact kd_87 h
  · exact kd_94 h
theorem lnS_2 {Z : Zt} {X : Nat} (h : LayC Z) (hX : IsS X) : Z.2.1 (X + 2) = 6 := by
  rcases hX with rfl | rfl | rfl | rfl | rfl | rfl | rfl | rfl | rfl | rfl | rfl
  · exact ln_20 h
  · exact ln_29 h
  · exact ln_36 h
  · exact ln_43 h
  · exact ln_50 h
  · exact ln_57 h
  · exact ln_64 h
  · exact ln_71 h
  · exact ln_78 h
  · exact ln_87 h
  · exact ln_94 h
theorem kdS_3 {Z : Zt} {X : Nat} (h : LayC Z) (hX : IsS X) : Z.1 (X + 3) = 15 := by
  rcases hX with rfl | rfl | rfl | rfl | rfl | rfl | rfl | rfl | rfl | rfl | rfl
  · exact kd_21 h
  · exact kd_30 h
  · exact kd_37 h
  · exact kd_44 h
  · exact kd_51 h
  · exact kd_58 h
  · exact kd_65 h
  · exact kd_72 h
  · exact kd_79 h
  · exact kd_88 h
  · exact kd_95 h
theorem lnS_3 {Z : Zt} {X : Nat} (h : LayC Z) (hX : IsS X) : Z.2.1 (X + 3) = 7 := by
  rcases hX with rfl | rfl | rfl | rfl | rfl | rfl | rfl | rfl | rfl | rfl | rfl
  · exact ln_21 h
  · exact ln_30 h
  · exact ln_37 h
  · exact ln_44 h
  · exact ln_51 h
  · exact ln_58 h
  · exact ln_65 h
  · exact ln_72 h
  · exact ln_79 h
  · exact ln_88 h
  · exact ln_95 h
theorem kdS_4 {Z : Zt} {X : Nat} (h : LayC Z) (hX : IsS X) : Z.1 (X + 4) = 15 := by
  rcases hX with rfl | rfl | rfl | rfl | rfl | rfl | rfl | rfl | rfl | rfl | rfl
  · exact kd_22 h
  · exact kd_31 h
  · exact kd_38 h
  · exact kd_45 h
  · exact kd_52 h
  · exact kd_59 h
  · exact kd_66 h
  · exact kd_73 h
  · exact kd_80 h
  · exact kd_89 h
  · exact kd_96 h
theorem lnS_4 {Z : Zt} {X : Nat} (h : LayC Z) (hX : IsS X) : Z.2.1 (X + 4) = 7 := by
  rcases hX with rfl | rfl | rfl | rfl | rfl | rfl | rfl | rfl | rfl | rfl | rfl
  · exact ln_22 h
  · exact ln_31 h
  · exact ln_38 h
  · exact ln_45 h
  · exact ln_52 h
  · exact ln_59 h
  · exact ln_66 h
  · exact ln_73 h
  · exact ln_80 h
  · exact ln_89 h
  · exact ln_96 h
theorem kdS_5 {Z : Zt} {X : Nat} (h : LayC Z) (hX : IsS X) : Z.1 (X + 5) = 15 := by
  rcases hX with rfl | rfl | rfl | rfl | rfl | rfl | rfl | rfl | rfl | rfl | rfl
  · exact kd_23 h
  · exact kd_32 h
  · exact kd_39 h
  · exact kd_46 h
  · exact kd_53 h
  · exact kd_60 h
  · exact kd_67 h
  · exact kd_74 h
  · exact kd_81 h
  · exact kd_90 h
  · exact kd_97 h
theorem lnS_5 {Z : Zt} {X : Nat} (h : LayC Z) (hX : IsS X) : Z.2.1 (X + 5) = 7 := by
  rcases hX with rfl | rfl | rfl | rfl | rfl | rfl | rfl | rfl | rfl | rfl | rfl
  · exact ln_23 h
  · exact ln_32 h
  · exact ln_39 h
  · exact ln_46 h
  · exact ln_53 h
  · exact ln_60 h
  · exact ln_67 h
  · exact ln_74 h
  · exact ln_81 h
  · exact ln_90 h
  · exact ln_97 h
theorem kdS_6 {Z : Zt} {X : Nat} (h : LayC Z) (hX : IsS X) : Z.1 (X + 6) = 15 := by
  rcases hX with rfl | rfl | rfl | rfl | rfl | rfl | rfl | rfl | rfl | rfl | rfl
  · exact kd_24 h
  · exact kd_33 h
  · exact kd_40 h
  · exact kd_47 h
  · exact kd_54 h
  · exact kd_61 h
  · exact kd_68 h
  · exact kd_75 h
  · exact kd_82 h
  · exact kd_91 h
  · exact kd_98 h
theorem lnS_6 {Z : Zt} {X : Nat} (h : LayC Z) (hX : IsS X) : Z.2.1 (X + 6) = 7 := by
  rcases hX with rfl | rfl | rfl | rfl | rfl | rfl | rfl | rfl | rfl | rfl | rfl
  · exact ln_24 h
  · exact ln_33 h
  · exact ln_40 h
  · exact ln_47 h
  · exact ln_54 h
  · exact ln_61 h
  · exact ln_68 h
  · exact ln_75 h
  · exact ln_82 h
  · exact ln_91 h
  · exact ln_98 h
theorem prS_2 {P : Pt'} {X : Nat} (h : LayP P) (hX : IsS X) : P X 2 = some (X + 1) := by
  rcases hX with rfl | rfl | rfl | rfl | rfl | rfl | rfl | rfl | rfl | rfl | rfl
  · exact pr_18_2 h
  · exact pr_27_2 h
  · exact pr_34_2 h
  · exact pr_41_2 h
  · exact pr_48_2 h
  · exact pr_55_2 h
  · exact pr_62_2 h
  · exact pr_69_2 h
  · exact pr_76_2 h
  · exact pr_85_2 h
  · exact pr_92_2 h
theorem prS_3 {P : Pt'} {X : Nat} (h : LayP P) (hX : IsS X) : P X 3 = some (X + 2) := by
  rcases hX with rfl | rfl | rfl | rfl | rfl | rfl | rfl | rfl | rfl | rfl | rfl
  · exact pr_18_3 h
  · exact pr_27_3 h
  · exact pr_34_3 h
  · exact pr_41_3 h
  · exact pr_48_3 h
  · exact pr_55_3 h
  · exact pr_62_3 h
  · exact pr_69_3 h
  · exact pr_76_3 h
  · exact pr_85_3 h
  · exact pr_92_3 h
theorem prS_4 {P : Pt'} {X : Nat} (h : LayP P) (hX : IsS X) : P X 4 = some (X + 3) := by
  rcases hX with rfl | rfl | rfl | rfl | rfl | rfl | rfl | rfl | rfl | rfl | rfl
  · exact pr_18_4 h
  · exact pr_27_4 h
  · exact pr_34_4 h
  · exact pr_41_4 h
  · exact pr_48_4 h
  · exact pr_55_4 h
  · exact pr_62_4 h
  · exact pr_69_4 h
  · exact pr_76_4 h
  · exact pr_85_4 h
  · exact pr_92_4 h
theorem prS_5 {P : Pt'} {X : Nat} (h : LayP P) (hX : IsS X) : P X 5 = some (X + 4) := by
  rcases hX with rfl | rfl | rfl | rfl | rfl | rfl | rfl | rfl | rfl | rfl | rfl
  · exact pr_18_5 h
  · exact pr_27_5 h
  · exact pr_34_5 h
  · exact pr_41_5 h
  · exact pr_48_5 h
  · exact pr_55_5 h
  · exact pr_62_5 h
  · exact pr_69_5 h
  · exact pr_76_5 h
  · exact pr_85_5 h
  · exact pr_92_5 h
theorem prS_6 {P : Pt'} {X : Nat} (h : LayP P) (hX : IsS X) : P X 6 = some (X + 5) := by
  rcases hX with rfl | rfl | rfl | rfl | rfl | rfl | rfl | rfl | rfl | rfl | rfl
  · exact pr_18_6 h
  · exact pr_27_6 h
  · exact pr_34_6 h
  · exact pr_41_6 h
  · exact pr_48_6 h
  · exact pr_55_6 h
  · exact pr_62_6 h
  · exact pr_69_6 h
  · exact pr_76_6 h
  · exact pr_85_6 h
  · exact pr_92_6 h
theorem prS_7 {P : Pt'} {X : Nat} (h : LayP P) (hX : IsS X) : P X 7 = some (X + 6) := by
  rcases hX with rfl | rfl | rfl | rfl | rfl | rfl | rfl | rfl | rfl | rfl | rfl
  · exact pr_18_7 h
  · exact pr_27_7 h
  · exact pr_34_7 h
  · exact pr_41_7 h
  · exact pr_48_7 h
  · exact pr_55_7 h
  · exact pr_62_7 h
  · exact pr_69_7 h
  · exact pr_76_7 h
  · exact pr_85_7 h
  · exact pr_92_7 h
theorem kdD_0 {Z : Zt} {X : Nat} (h : LayC Z) (hX : IsD X) : Z.1 X = 0 := by
  rcases hX with rfl | rfl
  · exact kd_99 h
  · exact kd_100 h
theorem prD_0 {P : Pt'} {X : Nat} (h : LayP P) (hX : IsD X) : P X 0 = some 4 := by
  rcases hX with rfl | rfl
  · exact pr_99_0 h
  · exact pr_100_0 h
theorem kdP_0 {Z : Zt} {X : Nat} {n : Int} (h : LayC Z) (hX : IsP X n) : Z.1 X = 4 := by
  rcases hX with ⟨rfl, rfl⟩ | ⟨rfl, rfl⟩
  · exact kd_25 h
  · exact kd_83 h
theorem kdP_1 {Z : Zt} {X : Nat} {n : Int} (h : LayC Z) (hX : IsP X n) : Z.1 (X + 1) = 18 := by
  rcases hX with ⟨rfl, rfl⟩ | ⟨rfl, rfl⟩
  · exact kd_26 h
  · exact kd_84 h
theorem lnP_1 {Z : Zt} {X : Nat} {n : Int} (h : LayC Z) (hX : IsP X n) : Z.2.1 (X + 1) = n := by
  rcases hX with ⟨rfl, rfl⟩ | ⟨rfl, rfl⟩
  · exact ln_26 h
  · exact ln_84 h
theorem prP_0 {P : Pt'} {X : Nat} {n : Int} (h : LayP P) (hX : IsP X n) : P X 0 = some (X + 1) := by
  rcases hX with ⟨rfl, rfl⟩ | ⟨rfl, rfl⟩
  · exact pr_25_0 h
  · exact pr_83_0 h
theorem prP_1 {P : Pt'} {X : Nat} {n i : Int} (h : LayP P) (hX : IsP X n) (h0 : 0 ≤ i) (h1 : i < n) : P (X + 1) i = some (X + 2 + 7 * i.toNat) ∧ IsS (X + 2 + 7 * i.toNat) := by
  rcases hX with ⟨rfl, rfl⟩ | ⟨rfl, rfl⟩
  · rcases (show i = 0 ∨ i = 1 ∨ i = 2 ∨ i = 3 ∨ i = 4 ∨ i = 5 ∨ i = 6 ∨ i = 7 by omega) with rfl | rfl | rfl | rfl | rfl | rfl | rfl | rfl
    · exact ⟨pr_26_0 h, by unfold IsS; decide⟩
    · exact ⟨pr_26_1 h, by unfold IsS; decide⟩
    · exact ⟨pr_26_2 h, by unfold IsS; decide⟩
    · exact ⟨pr_26_3 h, by unfold IsS; decide⟩
    · exact ⟨pr_26_4 h, by unfold IsS; decide⟩
    · exact ⟨pr_26_5 h, by unfold IsS; decide⟩
    · exact ⟨pr_26_6 h, by unfold IsS; decide⟩
    · exact ⟨pr_26_7 h, by unfold IsS; decide⟩
  · rcases (show i = 0 ∨ i = 1 by omega) with rfl | rfl
    · exact ⟨pr_84_0 h, by unfold IsS; decide⟩
    · exact ⟨pr_84_1 h, by unfold IsS; decide⟩
theorem LayP.up {P : Pt'} {a : Nat} {k : Int} {x : Option Nat} (h : LayP P) (hn : rfC.all (fun q => !(q.1 == a && q.2.1 == k)) = true) : LayP (upP P a k x) := fun q hq => by
  have h1 := List.all_eq_true.mp hn q hq
  simp only [Bool.not_eq_true', Bool.and_eq_false_iff, beq_eq_false_iff_ne] at h1
  unfold upP
  rw [if_neg (fun e => h1.elim (fun z => z e.1) (fun z => z e.2))]
  exact h q hq
theorem LayP.upr {P : Pt'} {a : Nat} {k : Int} {x : Option Nat} (h : LayP P) (hn : rfC.all (fun q => !(q.1 == a)) = true) : LayP (upP P a k x) := fun q hq => by
  have h1 := List.all_eq_true.mp hn q hq
  simp only [Bool.not_eq_true', beq_eq_false_iff_ne] at h1
  unfold upP
  rw [if_neg (fun e => h1 e.1)]
  exact h q hq
