/-! the fresh state, fact by fact -/
def FN (R : mR) : Prop := ∀ q ∈ fN, R q.1 q.2 = none
theorem fi4_3 {I : mI} (h : FI I) : I 4 3 = 0 := h.1 (4, 3, 0) (by decide)
theorem fi4_6 {I : mI} (h : FI I) : I 4 6 = 0 := h.1 (4, 6, 0) (by decide)
theorem fi4_13 {I : mI} (h : FI I) : I 4 13 = 0 := h.1 (4, 13, 0) (by decide)
theorem fi5_0 {I : mI} (h : FI I) : I 5 0 = 4 := h.1 (5, 0, 4) (by decide)
theorem fi5_3 {I : mI} (h : FI I) : I 5 3 = 1022 := h.1 (5, 3, 1022) (by decide)
theorem fi5_6 {I : mI} (h : FI I) : I 5 6 = 0 := h.1 (5, 6, 0) (by decide)
theorem fi5_9 {I : mI} (h : FI I) : I 5 9 = 0 := h.1 (5, 9, 0) (by decide)
theorem fi14_1 {I : mI} (h : FI I) : I 14 1 = 0 := h.1 (14, 1, 0) (by decide)
theorem fi14_4 {I : mI} (h : FI I) : I 14 4 = 0 := h.1 (14, 4, 0) (by decide)
theorem fi14_5 {I : mI} (h : FI I) : I 14 5 = (-1) := h.1 (14, 5, -1) (by decide)
theorem fi14_8 {I : mI} (h : FI I) : I 14 8 = 0 := h.1 (14, 8, 0) (by decide)
theorem fi14_9 {I : mI} (h : FI I) : I 14 9 = 0 := h.1 (14, 9, 0) (by decide)
theorem fi14_10 {I : mI} (h : FI I) : I 14 10 = 0 := h.1 (14, 10, 0) (by decide)
theorem fi20_0 {I : mI} (h : FI I) : I 20 0 = 0 := h.1 (20, 0, 0) (by decide)
theorem fi20_5 {I : mI} (h : FI I) : I 20 5 = (-1) := h.1 (20, 5, -1) (by decide)
theorem fi20_6 {I : mI} (h : FI I) : I 20 6 = 0 := h.1 (20, 6, 0) (by decide)
theorem fi20_8 {I : mI} (h : FI I) : I 20 8 = 0 := h.1 (20, 8, 0) (by decide)
theorem fi20_9 {I : mI} (h : FI I) : I 20 9 = (-1) := h.1 (20, 9, -1) (by decide)
theorem fi20_10 {I : mI} (h : FI I) : I 20 10 = 0 := h.1 (20, 10, 0) (by decide)
theorem fi26_0 {I : mI} (h : FI I) : I 26 0 = 0 := h.1 (26, 0, 0) (by decide)
theorem fi26_5 {I : mI} (h : FI I) : I 26 5 = (-1) := h.1 (26, 5, -1) (by decide)
theorem fi26_6 {I : mI} (h : FI I) : I 26 6 = 0 := h.1 (26, 6, 0) (by decide)
theorem fi26_8 {I : mI} (h : FI I) : I 26 8 = 0 := h.1 (26, 8, 0) (by decide)
theorem fi26_9 {I : mI} (h : FI I) : I 26 9 = (-1) := h.1 (26, 9, -1) (by decide)
theorem fi26_10 {I : mI} (h : FI I) : I 26 10 = 0 := h.1 (26, 10, 0) (by decide)
theorem fi32_0 {I : mI} (h : FI I) : I 32 0 = 0 := h.1 (32, 0, 0) (by decide)
theorem fi32_5 {I : mI} (h : FI I) : I 32 5 = (-1) := h.1 (32, 5, -1) (by decide)
theorem fi32_6 {I : mI} (h : FI I) : I 32 6 = 0 := h.1 (32, 6, 0) (by decide)
theorem fi32_8 {I : mI} (h : FI I) : I 32 8 = 0 := h.1 (32, 8, 0) (by decide)
theorem fi32_9 {I : mI} (h : FI I) : I 32 9 = (-1) := h.1 (32, 9, -1) (by decide)
theorem fi32_10 {I : mI} (h : FI I) : I 32 10 = 0 := h.1 (32, 10, 0) (by decide)
theorem fi40_8 {I : mI} (h : FI I) : I 40 8 = 0 := h.1 (40, 8, 0) (by decide)
theorem fi40_9 {I : mI} (h : FI I) : I 40 9 = 0 := h.1 (40, 9, 0) (by decide)
theorem fi54_0 {I : mI} (h : FI I) : I 54 0 = 0 := h.1 (54, 0, 0) (by decide)
theorem fi54_1 {I : mI} (h : FI I) : I 54 1 = 0 := h.1 (54, 1, 0) (by decide)
theorem fi54_7 {I : mI} (h : FI I) : I 54 7 = 0 := h.1 (54, 7, 0) (by decide)
theorem fi54_8 {I : mI} (h : FI I) : I 54 8 = 0 := h.1 (54, 8, 0) (by decide)
theorem fi54_9 {I : mI} (h : FI I) : I 54 9 = 0 := h.1 (54, 9, 0) (by decide)
theorem fi54_10 {I : mI} (h : FI I) : I 54 10 = 0 := h.1 (54, 10, 0) (by decide)
theorem fi54_12 {I : mI} (h : FI I) : I 54 12 = (-1) := h.1 (54, 12, -1) (by decide)
theorem fi54_13 {I : mI} (h : FI I) : I 54 13 = 0 := h.1 (54, 13, 0) (by decide)
theorem fi54_14 {I : mI} (h : FI I) : I 54 14 = 0 := h.1 (54, 14, 0) (by decide)
theorem fi54_15 {I : mI} (h : FI I) : I 54 15 = 0 := h.1 (54, 15, 0) (by decide)
theorem fi54_19 {I : mI} (h : FI I) : I 54 19 = 0 := h.1 (54, 19, 0) (by decide)
theorem fi54_20 {I : mI} (h : FI I) : I 54 20 = 0 := h.1 (54, 20, 0) (by decide)
theorem fi54_22 {I : mI} (h : FI I) : I 54 22 = 0 := h.1 (54, 22, 0) (by decide)
theorem fi54_26 {I : mI} (h : FI I) : I 54 26 = 0 := h.1 (54, 26, 0) (by decide)
theorem fi54_27 {I : mI} (h : FI I) : I 54 27 = 0 := h.1 (54, 27, 0) (by decide)
theorem fi54_28 {I : mI} (h : FI I) : I 54 28 = 0 := h.1 (54, 28, 0) (by decide)
theorem fi54_29 {I : mI} (h : FI I) : I 54 29 = 0 := h.1 (54, 29, 0) (by decide)
theorem fi54_30 {I : mI} (h : FI I) : I 54 30 = 0 := h.1 (54, 30, 0) (by decide)
theorem fi54_31 {I : mI} (h : FI I) : I 54 31 = 0 := h.1 (54, 31, 0) (by decide)
theorem fi54_32 {I : mI} (h : FI I) : I 54 32 = 0 := h.1 (54, 32, 0) (by decide)
theorem fi54_33 {I : mI} (h : FI I) : I 54 33 = 0 := h.1 (54, 33, 0) (by decide)
theorem fi54_34 {I : mI} (h : FI I) : I 54 34 = 0 := h.1 (54, 34, 0) (by decide)
theorem fi54_35 {I : mI} (h : FI I) : I 54 35 = 0 := h.1 (54, 35, 0) (by decide)
theorem fi54_36 {I : mI} (h : FI I) : I 54 36 = 0 := h.1 (54, 36, 0) (by decide)
theorem fi54_37 {I : mI} (h : FI I) : I 54 37 = 0 := h.1 (54, 37, 0) (by decide)
theorem fi54_38 {I : mI} (h : FI I) : I 54 38 = 0 := h.1 (54, 38, 0) (by decide)
theorem fi54_39 {I : mI} (h : FI I) : I 54 39 = 0 := h.1 (54, 39, 0) (by decide)
theorem fi54_40 {I : mI} (h : FI I) : I 54 40 = 0 := h.1 (54, 40, 0) (by decide)
theorem fi54_41 {I : mI} (h : FI I) : I 54 41 = 0 := h.1 (54, 41, 0) (by decide)
theorem fi54_42 {I : mI} (h : FI I) : I 54 42 = 0 := h.1 (54, 42, 0) (by decide)
theorem fi54_45 {I : mI} (h : FI I) : I 54 45 = 0 := h.1 (54, 45, 0) (by decide)
theorem fi54_56 {I : mI} (h : FI I) : I 54 56 = 0 := h.1 (54, 56, 0) (by decide)
theorem fi54_58 {I : mI} (h : FI I) : I 54 58 = 0 := h.1 (54, 58, 0) (by decide)
theorem fi54_59 {I : mI} (h : FI I) : I 54 59 = (-1) := h.1 (54, 59, -1) (by decide)
theorem fi54_60 {I : mI} (h : FI I) : I 54 60 = (-2) := h.1 (54, 60, -2) (by decide)
theorem fz10 {I : mI} (h : FI I) : I 10 = fun _ => 0 := h.2.1 10 (by decide)
theorem fz11 {I : mI} (h : FI I) : I 11 = fun _ => 0 := h.2.1 11 (by decide)
theorem fz13 {I : mI} (h : FI I) : I 13 = fun _ => 0 := h.2.1 13 (by decide)
theorem fz15 {I : mI} (h : FI I) : I 15 = fun _ => 0 := h.2.1 15 (by decide)
theorem fz16 {I : mI} (h : FI I) : I 16 = fun _ => 0 := h.2.1 16 (by decide)
theorem fz17 {I : mI} (h : FI I) : I 17 = fun _ => 0 := h.2.1 17 (by decide)
theorem fz18 {I : mI} (h : FI I) : I 18 = fun _ => 0 := h.2.1 18 (by decide)
theorem fz19 {I : mI} (h : FI I) : I 19 = fun _ => 0 := h.2.1 19 (by decide)
theorem fz21 {I : mI} (h : FI I) : I 21 = fun _ => 0 := h.2.1 21 (by decide)
theorem fz22 {I : mI} (h : FI I) : I 22 = fun _ => 0 := h.2.1 22 (by decide)
theorem fz23 {I : mI} (h : FI I) : I 23 = fun _ => 0 := h.2.1 23 (by decide)
theorem fz24 {I : mI} (h : FI I) : I 24 = fun _ => 0 := h.2.1 24 (by decide)
theorem fz25 {I : mI} (h : FI I) : I 25 = fun _ => 0 := h.2.1 25 (by decide)
theorem fz27 {I : mI} (h : FI I) : I 27 = fun _ => 0 := h.2.1 27 (by decide)
theorem fz28 {I : mI} (h : FI I) : I 28 = fun _ => 0 := h.2.1 28 (by decide)
theorem fz29 {I : mI} (h : FI I) : I 29 = fun _ => 0 := h.2.1 29 (by decide)
theorem fz30 {I : mI} (h : FI I) : I 30 = fun _ => 0 := h.2.1 30 (by decide)
theorem fz31 {I : mI} (h : FI I) : I 31 = fun _ => 0 := h.2.1 31 (by decide)
theorem fz33 {I : mI} (h : FI I) : I 33 = fun _ => 0 := h.2.1 33 (by decide)
theorem fz34 {I : mI} (h : FI I) : I 34 = fun _ => 0 := h.2.1 34 (by decide)
theorem fz35 {I : mI} (h : FI I) : I 35 = fun _ => 0 := h.2.1 35 (by decide)
theorem fz36 {I : mI} (h : FI I) : I 36 = fun _ => 0 := h.2.1 36 (by decide)
theorem fz37 {I : mI} (h : FI I) : I 37 = fun _ => 0 := h.2.1 37 (by decide)
theorem fz38 {I : mI} (h : FI I) : I 38 = fun _ => 0 := h.2.1 38 (by decide)
theorem fz41 {I : mI} (h : FI I) : I 41 = fun _ => 0 := h.2.1 41 (by decide)
theorem fz42 {I : mI} (h : FI I) : I 42 = fun _ => 0 := h.2.1 42 (by decide)
theorem fz43 {I : mI} (h : FI I) : I 43 = fun _ => 0 := h.2.1 43 (by decide)
theorem fz44 {I : mI} (h : FI I) : I 44 = fun _ => 0 := h.2.1 44 (by decide)
theorem fz45 {I : mI} (h : FI I) : I 45 = fun _ => 0 := h.2.1 45 (by decide)
theorem fz46 {I : mI} (h : FI I) : I 46 = fun _ => 0 := h.2.1 46 (by decide)
theorem fz47 {I : mI} (h : FI I) : I 47 = fun _ => 0 := h.2.1 47 (by decide)
theorem fz49 {I : mI} (h : FI I) : I 49 = fun _ => 0 := h.2.1 49 (by decide)
theorem fz50 {I : mI} (h : FI I) : I 50 = fun _ => 0 := h.2.1 50 (by decide)
theorem fz51 {I : mI} (h : FI I) : I 51 = fun _ => 0 := h.2.1 51 (by decide)
theorem fz52 {I : mI} (h : FI I) : I 52 = fun _ => 0 := h.2.1 52 (by decide)
theorem fz53 {I : mI} (h : FI I) : I 53 = fun _ => 0 := h.2.1 53 (by decide)
theorem fz55 {I : mI} (h : FI I) : I 55 = fun _ => 0 := h.2.1 55 (by decide)
theorem fz57 {I : mI} (h : FI I) : I 57 = fun _ => 0 := h.2.1 57 (by decide)
theorem fz58 {I : mI} (h : FI I) : I 58 = fun _ => 0 := h.2.1 58 (by decide)
theorem fz59 {I : mI} (h : FI I) : I 59 = fun _ => 0 := h.2.1 59 (by decide)
theorem fz60 {I : mI} (h : FI I) : I 60 = fun _ => 0 := h.2.1 60 (by decide)
theorem fz61 {I : mI} (h : FI I) : I 61 = fun _ => 0 := h.2.1 61 (by decide)
theorem fz62 {I : mI} (h : FI I) : I 62 = fun _ => 0 := h.2.1 62 (by decide)
theorem fz63 {I : mI} (h : FI I) : I 63 = fun _ => 0 := h.2.1 63 (by decide)
theorem fz64 {I : mI} (h : FI I) : I 64 = fun _ => 0 := h.2.1 64 (by decide)
theorem fz65 {I : mI} (h : FI I) : I 65 = fun _ => 0 := h.2.1 65 (by decide)
theorem fz66 {I : mI} (h : FI I) : I 66 = fun _ => 0 := h.2.1 66 (by decide)
theorem fz67 {I : mI} (h : FI I) : I 67 = fun _ => 0 := h.2.1 67 (by decide)
theorem fz68 {I : mI} (h : FI I) : I 68 = fun _ => 0 := h.2.1 68 (by decide)
theorem fz69 {I : mI} (h : FI I) : I 69 = fun _ => 0 := h.2.1 69 (by decide)
theorem fz70 {I : mI} (h : FI I) : I 70 = fun _ => 0 := h.2.1 70 (by decide)
theorem fz71 {I : mI} (h : FI I) : I 71 = fun _ => 0 := h.2.1 71 (by decide)
theorem fz72 {I : mI} (h : FI I) : I 72 = fun _ => 0 := h.2.1 72 (by decide)
theorem fz73 {I : mI} (h : FI I) : I 73 = fun _ => 0 := h.2.1 73 (by decide)
theorem fz74 {I : mI} (h : FI I) : I 74 = fun _ => 0 := h.2.1 74 (by decide)
theorem fz75 {I : mI} (h : FI I) : I 75 = fun _ => 0 := h.2.1 75 (by decide)
theorem fz76 {I : mI} (h : FI I) : I 76 = fun _ => 0 := h.2.1 76 (by decide)
theorem fz77 {I : mI} (h : FI I) : I 77 = fun _ => 0 := h.2.1 77 (by decide)
theorem fz78 {I : mI} (h : FI I) : I 78 = fun _ => 0 := h.2.1 78 (by decide)
theorem fz79 {I : mI} (h : FI I) : I 79 = fun _ => 0 := h.2.1 79 (by decide)
theorem fz80 {I : mI} (h : FI I) : I 80 = fun _ => 0 := h.2.1 80 (by decide)
theorem fz81 {I : mI} (h : FI I) : I 81 = fun _ => 0 := h.2.1 81 (by decide)
theorem fz82 {I : mI} (h : FI I) : I 82 = fun _ => 0 := h.2.1 82 (by decide)
theorem fz83 {I : mI} (h : FI I) : I 83 = fun _ => 0 := h.2.1 83 (by decide)
theorem fz84 {I : mI} (h : FI I) : I 84 = fun _ => 0 := h.2.1 84 (by decide)
theorem fn9_0 {R : mR} (h : FN R) : R 9 0 = none := h (9, 0) (by decide)
theorem fn9_1 {R : mR} (h : FN R) : R 9 1 = none := h (9, 1) (by decide)
theorem fn9_2 {R : mR} (h : FN R) : R 9 2 = none := h (9, 2) (by decide)
theorem fn9_3 {R : mR} (h : FN R) : R 9 3 = none := h (9, 3) (by decide)
theorem fn9_4 {R : mR} (h : FN R) : R 9 4 = none := h (9, 4) (by decide)
theorem fn9_5 {R : mR} (h : FN R) : R 9 5 = none := h (9, 5) (by decide)
theorem fn9_6 {R : mR} (h : FN R) : R 9 6 = none := h (9, 6) (by decide)
theorem fn9_7 {R : mR} (h : FN R) : R 9 7 = none := h (9, 7) (by decide)
theorem fn12_0 {R : mR} (h : FN R) : R 12 0 = none := h (12, 0) (by decide)
theorem fn12_1 {R : mR} (h : FN R) : R 12 1 = none := h (12, 1) (by decide)
theorem fn39_0 {R : mR} (h : FN R) : R 39 0 = none := h (39, 0) (by decide)
theorem fn39_1 {R : mR} (h : FN R) : R 39 1 = none := h (39, 1) (by decide)
theorem fn39_2 {R : mR} (h : FN R) : R 39 2 = none := h (39, 2) (by decide)
theorem fn39_3 {R : mR} (h : FN R) : R 39 3 = none := h (39, 3) (by decide)
theorem fn39_4 {R : mR} (h : FN R) : R 39 4 = none := h (39, 4) (by decide)
theorem fn39_5 {R : mR} (h : FN R) : R 39 5 = none := h (39, 5) (by decide)
theorem fc6 {I : mI} (h : FI I) : I 6 = irC := h.2.2.1.1
theorem fc7 {I : mI} (h : FI I) : I 7 = irC := h.2.2.1.2.1
theorem fc8 {I : mI} (h : FI I) : I 8 = trC := h.2.2.1.2.2.1
theorem fc56 {I : mI} (h : FI I) : I 56 = rowC := h.2.2.1.2.2.2
theorem fc1 {I : mI} (h : FI I) : I 1 = tLow := h.2.2.2.1
theorem fc2 {I : mI} (h : FI I) : I 2 = tHigh := h.2.2.2.2.1
theorem fc3 {I : mI} (h : FI I) : I 3 = fun _ => 2 := h.2.2.2.2.2
theorem rw0 : rowC 0 = 4 := rfl
theorem rw1 : rowC 1 = 0 := rfl
theorem rw2 : rowC 2 = 0 := rfl
theorem rw3 : rowC 3 = 1022 := rfl
theorem rw4 : rowC 4 = 0 := rfl
theorem rw5 : rowC 5 = 0 := rfl
theorem rw6 : rowC 6 = 0 := rfl
theorem rw7 : rowC 7 = 0 := rfl
theorem rw8 : rowC 8 = 0 := rfl
theorem rw9 : rowC 9 = 0 := rfl
theorem rw10 : rowC 10 = 3 := rfl
theorem rw11 : rowC 11 = 3 := rfl
theorem rw12 : rowC 12 = 5 := rfl
theorem rw13 : rowC 13 = 1 := rfl
theorem rw14 : rowC 14 = 20 := rfl
theorem rw15 : rowC 15 = 0 := rfl
theorem rw16 : rowC 16 = 0 := rfl
theorem rw17 : rowC 17 = 0 := rfl
theorem rw18 : rowC 18 = 0 := rfl
theorem rw19 : rowC 19 = 0 := rfl
theorem rw20 : rowC 20 = 3 := rfl
theorem rw21 : rowC 21 = 3 := rfl
theorem rw22 : rowC 22 = 3 := rfl
theorem rw23 : rowC 23 = 3 := rfl
theorem rw24 : rowC 24 = 3 := rfl
theorem rw25 : rowC 25 = 0 := rfl
theorem rw26 : rowC 26 = 0 := rfl
theorem rw27 : rowC 27 = 0 := rfl
theorem rw28 : rowC 28 = 0 := rfl
theorem rw29 : rowC 29 = 0 := rfl
theorem rw30 : rowC 30 = 3 := rfl
theorem rw31 : rowC 31 = 3 := rfl
theorem rw32 : rowC 32 = 3 := rfl
theorem rw33 : rowC 33 = 3 := rfl
theorem rw34 : rowC 34 = 3 := rfl
theorem rw35 : rowC 35 = 0 := rfl
theorem rw36 : rowC 36 = 0 := rfl
theorem rw37 : rowC 37 = 0 := rfl
theorem rw38 : rowC 38 = 0 := rfl
theorem rw39 : rowC 39 = 0 := rfl
theorem rw40 : rowC 40 = 0 := rfl
theorem rw41 : rowC 41 = 0 := rfl
theorem rw42 : rowC 42 = 0 := rfl
theorem rw43 : rowC 43 = 0 := rfl
theorem rw44 : rowC 44 = 0 := rfl
theorem rw45 : rowC 45 = 0 := rfl
theorem rw46 : rowC 46 = 0 := rfl
theorem rw47 : rowC 47 = 0 := rfl
theorem rw48 : rowC 48 = 0 := rfl
theorem rw49 : rowC 49 = 0 := rfl
theorem rw50 : rowC 50 = 0 := rfl
theorem rw51 : rowC 51 = 0 := rfl
theorem rw52 : rowC 52 = 0 := rfl
theorem rw53 : rowC 53 = 0 := rfl
theorem rw54 : rowC 54 = 0 := rfl
theorem rw55 : rowC 55 = 0 := rfl
theorem ir0 : irC 0 = 3 := rfl
theorem tr0 : trC 0 = 3 := rfl
theorem tl0 : tLow 0 = 1 := rfl
theorem th0 : tHigh 0 = 4 := rfl
theorem ir1 : irC 1 = 3 := rfl
theorem tr1 : trC 1 = 3 := rfl
theorem tl1 : tLow 1 = 0 := rfl
theorem th1 : tHigh 1 = 100 := rfl
theorem ir2 : irC 2 = 3 := rfl
theorem tr2 : trC 2 = 5 := rfl
theorem tl2 : tLow 2 = 0 := rfl
theorem th2 : tHigh 2 = 60 := rfl
theorem ir3 : irC 3 = 3 := rfl
theorem tr3 : trC 3 = 1 := rfl
theorem tl3 : tLow 3 = 0 := rfl
theorem th3 : tHigh 3 = 60 := rfl
theorem ir4 : irC 4 = 3 := rfl
theorem tr4 : trC 4 = 20 := rfl
theorem tl4 : tLow 4 = 0 := rfl
theorem th4 : tHigh 4 = 50 := rfl
theorem i64_lt (x y : Int32) : (x.toInt64 < y.toInt64) = (x < y) := by
  rw [Int64.lt_iff_toInt_lt, Int32.lt_iff_toInt_lt, Int32.toInt_toInt64, Int32.toInt_toInt64]
theorem i64_eq (x y : Int32) : (x.toInt64 = y.toInt64) = (x = y) := propext ⟨fun h => by
  have := congrArg Int64.toInt h
  rw [Int32.toInt_toInt64, Int32.toInt_toInt64] at this
  exact Int32.toInt_inj.mp this, fun h => by rw [h]⟩
theorem llm1 (x : Int32) : (x.toInt64 < ((-1) : Int64)) = (x < (-1)) := i64_lt x (-1)
theorem lgm1 (x : Int32) : (((-1) : Int64) < x.toInt64) = ((-1) < x) := i64_lt (-1) x
theorem lcm1 : ((-1) : Int32).toInt64 = (-1) := rfl
theorem ll0 (x : Int32) : (x.toInt64 < (0 : Int64)) = (x < 0) := i64_lt x 0
theorem lg0 (x : Int32) : ((0 : Int64) < x.toInt64) = (0 < x) := i64_lt 0 x
theorem lc0 : (0 : Int32).toInt64 = 0 := rfl
theorem ll1 (x : Int32) : (x.toInt64 < (1 : Int64)) = (x < 1) := i64_lt x 1
theorem lg1 (x : Int32) : ((1 : Int64) < x.toInt64) = (1 < x) := i64_lt 1 x
theorem lc1 : (1 : Int32).toInt64 = 1 := rfl
theorem ll2 (x : Int32) : (x.toInt64 < (2 : Int64)) = (x < 2) := i64_lt x 2
theorem lg2 (x : Int32) : ((2 : Int64) < x.toInt64) = (2 < x) := i64_lt 2 x
theorem lc2 : (2 : Int32).toInt64 = 2 := rfl
theorem ll3 (x : Int32) : (x.toInt64 < (3 : Int64)) = (x < 3) := i64_lt x 3
theorem lg3 (x : Int32) : ((3 : Int64) < x.toInt64) = (3 < x) := i64_lt 3 x
theorem lc3 : (3 : Int32).toInt64 = 3 := rfl
theorem ll4 (x : Int32) : (x.toInt64 < (4 : Int64)) = (x < 4) := i64_lt x 4
theorem lg4 (x : Int32) : ((4 : Int64) < x.toInt64) = (4 < x) := i64_lt 4 x
theorem lc4 : (4 : Int32).toInt64 = 4 := rfl
theorem ll5 (x : Int32) : (x.toInt64 < (5 : Int64)) = (x < 5) := i64_lt x 5
theorem lg5 (x : Int32) : ((5 : Int64) < x.toInt64) = (5 < x) := i64_lt 5 x
theorem lc5 : (5 : Int32).toInt64 = 5 := rfl
theorem ll6 (x : Int32) : (x.toInt64 < (6 : Int64)) = (x < 6) := i64_lt x 6
theorem lg6 (x : Int32) : ((6 : Int64) < x.toInt64) = (6 < x) := i64_lt 6 x
theorem lc6 : (6 : Int32).toInt64 = 6 := rfl
theorem ll7 (x : Int32) : (x.toInt64 < (7 : Int64)) = (x < 7) := i64_lt x 7
theorem lg7 (x : Int32) : ((7 : Int64) < x.toInt64) = (7 < x) := i64_lt 7 x
theorem lc7 : (7 : Int32).toInt64 = 7 := rfl
theorem ll8 (x : Int32) : (x.toInt64 < (8 : Int64)) = (x < 8) := i64_lt x 8
theorem lg8 (x : Int32) : ((8 : Int64) < x.toInt64) = (8 < x) := i64_lt 8 x
theorem lc8 : (8 : Int32).toInt64 = 8 := rfl
theorem ll9 (x : Int32) : (x.toInt64 < (9 : Int64)) = (x < 9) := i64_lt x 9
theorem lg9 (x : Int32) : ((9 : Int64) < x.toInt64) = (9 < x) := i64_lt 9 x
theorem lc9 : (9 : Int32).toInt64 = 9 := rfl
theorem ll13 (x : Int32) : (x.toInt64 < (13 : Int64)) = (x < 13) := i64_lt x 13
theorem lg13 (x : Int32) : ((13 : Int64) < x.toInt64) = (13 < x) := i64_lt 13 x
theorem lc13 : (13 : Int32).toInt64 = 13 := rfl
theorem ll15 (x : Int32) : (x.toInt64 < (15 : Int64)) = (x < 15) := i64_lt x 15
theorem lg15 (x : Int32) : ((15 : Int64) < x.toInt64) = (15 < x) := i64_lt 15 x
theorem lc15 : (15 : Int32).toInt64 = 15 := rfl
theorem ll40 (x : Int32) : (x.toInt64 < (40 : Int64)) = (x < 40) := i64_lt x 40
theorem lg40 (x : Int32) : ((40 : Int64) < x.toInt64) = (40 < x) := i64_lt 40 x
theorem lc40 : (40 : Int32).toInt64 = 40 := rfl
theorem ll50 (x : Int32) : (x.toInt64 < (50 : Int64)) = (x < 50) := i64_lt x 50
theorem lg50 (x : Int32) : ((50 : Int64) < x.toInt64) = (50 < x) := i64_lt 50 x
theorem lc50 : (50 : Int32).toInt64 = 50 := rfl
theorem ll60 (x : Int32) : (x.toInt64 < (60 : Int64)) = (x < 60) := i64_lt x 60
theorem lg60 (x : Int32) : ((60 : Int64) < x.toInt64) = (60 < x) := i64_lt 60 x
theorem lc60 : (60 : Int32).toInt64 = 60 := rfl
theorem ll100 (x : Int32) : (x.toInt64 < (100 : Int64)) = (x < 100) := i64_lt x 100
theorem lg100 (x : Int32) : ((100 : Int64) < x.toInt64) = (100 < x) := i64_lt 100 x
theorem lc100 : (100 : Int32).toInt64 = 100 := rfl
theorem ll200 (x : Int32) : (x.toInt64 < (200 : Int64)) = (x < 200) := i64_lt x 200
theorem lg200 (x : Int32) : ((200 : Int64) < x.toInt64) = (200 < x) := i64_lt 200 x
theorem lc200 : (200 : Int32).toInt64 = 200 := rfl
theorem ll1000 (x : Int32) : (x.toInt64 < (1000 : Int64)) = (x < 1000) := i64_lt x 1000
theorem lg1000 (x : Int32) : ((1000 : Int64) < x.toInt64) = (1000 < x) := i64_lt 1000 x
theorem lc1000 : (1000 : Int32).toInt64 = 1000 := rfl
theorem ll1022 (x : Int32) : (x.toInt64 < (1022 : Int64)) = (x < 1022) := i64_lt x 1022
theorem lg1022 (x : Int32) : ((1022 : Int64) < x.toInt64) = (1022 < x) := i64_lt 1022 x
theorem lc1022 : (1022 : Int32).toInt64 = 1022 := rfl
theorem ll1000000 (x : Int32) : (x.toInt64 < (1000000 : Int64)) = (x < 1000000) := i64_lt x 1000000
theorem lg1000000 (x : Int32) : ((1000000 : Int64) < x.toInt64) = (1000000 < x) := i64_lt 1000000 x
theorem lc1000000 : (1000000 : Int32).toInt64 = 1000000 := rfl
theorem ni2 : nI 2 = 2 := rfl
theorem ni3 : nI 3 = 3 := rfl
theorem ni4 : nI 4 = 4 := rfl
theorem ni5 : nI 5 = 5 := rfl
theorem ni6 : nI 6 = 6 := rfl
theorem ni7 : nI 7 = 7 := rfl
theorem ni8 : nI 8 = 8 := rfl
theorem ni12 : nI 12 = 12 := rfl
theorem ni14 : nI 14 = 14 := rfl
theorem ni16 : nI 16 = 16 := rfl
theorem ni17 : nI 17 = 17 := rfl
theorem ni60 : nI 60 = 60 := rfl
theorem ni64 : nI 64 = 64 := rfl
theorem ni160 : nI 160 = 160 := rfl
theorem ni400 : nI 400 = 400 := rfl
theorem ni401 : nI 401 = 401 := rfl
theorem ni416 : nI 416 = 416 := rfl
theorem ni8060 : nI 8060 = 8060 := rfl
theorem ni16120 : nI 16120 = 16120 := rfl
theorem ni59049 : nI 59049 = 59049 := rfl
theorem nn1 : -(-1 : Int32) = 1 := by decide
theorem nn2 : -(-2 : Int32) = 2 := by decide
theorem nn3 : -(-3 : Int32) = 3 := by decide
theorem nn4 : -(-4 : Int32) = 4 := by decide
theorem nn5 : -(-5 : Int32) = 5 := by decide
theorem nn6 : -(-6 : Int32) = 6 := by decide
theorem nem1_1022 : (((-1) : Int32) = 1022) = False := by decide
theorem ne1022_m1 : ((1022 : Int32) = (-1)) = False := by decide
theorem nem1_20 : (((-1) : Int32) = 20) = False := by decide
theorem ne20_m1 : ((20 : Int32) = (-1)) = False := by decide
theorem ne1022_0 : ((1022 : Int32) = 0) = False := by decide
theorem nem1_m1000 : (((-1) : Int32) = (-1000)) = False := by decide
theorem nem1000_m1 : (((-1000) : Int32) = (-1)) = False := by decide
theorem cn2 (x : Int32) : (x < (2 : Int32)) = ¬ ((1 : Int32) < x) := propext (by
  rw [Int32.lt_iff_toInt_lt, Int32.lt_iff_toInt_lt, show (2 : Int32).toInt = 2 from rfl, show (1 : Int32).toInt = 1 from rfl]; omega)
theorem cn4 (x : Int32) : (x < (4 : Int32)) = ¬ ((3 : Int32) < x) := propext (by
  rw [Int32.lt_iff_toInt_lt, Int32.lt_iff_toInt_lt, show (4 : Int32).toInt = 4 from rfl, show (3 : Int32).toInt = 3 from rfl]; omega)
theorem cn5 (x : Int32) : (x < (5 : Int32)) = ¬ ((4 : Int32) < x) := propext (by
  rw [Int32.lt_iff_toInt_lt, Int32.lt_iff_toInt_lt, show (5 : Int32).toInt = 5 from rfl, show (4 : Int32).toInt = 4 from rfl]; omega)
theorem cn6 (x : Int32) : (x < (6 : Int32)) = ¬ ((5 : Int32) < x) := propext (by
  rw [Int32.lt_iff_toInt_lt, Int32.lt_iff_toInt_lt, show (6 : Int32).toInt = 6 from rfl, show (5 : Int32).toInt = 5 from rfl]; omega)
theorem cn8 (x : Int32) : (x < (8 : Int32)) = ¬ ((7 : Int32) < x) := propext (by
  rw [Int32.lt_iff_toInt_lt, Int32.lt_iff_toInt_lt, show (8 : Int32).toInt = 8 from rfl, show (7 : Int32).toInt = 7 from rfl]; omega)
theorem cn14 (x : Int32) : (x < (14 : Int32)) = ¬ ((13 : Int32) < x) := propext (by
  rw [Int32.lt_iff_toInt_lt, Int32.lt_iff_toInt_lt, show (14 : Int32).toInt = 14 from rfl, show (13 : Int32).toInt = 13 from rfl]; omega)
theorem cnm (x : Int32) : ((-1 : Int32) < x) = ¬ (x < (0 : Int32)) := propext (by
  rw [Int32.lt_iff_toInt_lt, Int32.lt_iff_toInt_lt, show (-1 : Int32).toInt = -1 from rfl, show (0 : Int32).toInt = 0 from rfl]; omega)
theorem rg0_0 {x : Int32} (h1 : ¬ x < 0) (h2 : ¬ 0 < x) : x = 0 := by
  rw [Int32.lt_iff_toInt_lt, show (0 : Int32).toInt = 0 from rfl] at h1
  rw [Int32.lt_iff_toInt_lt, show (0 : Int32).toInt = 0 from rfl] at h2
  have h : x.toInt = 0 := by omega
  rcases h with h
  · exact (Int32.toInt_inj.mp (h.trans (show (0 : Int) = (0 : Int32).toInt from rfl)))
theorem rg0_1 {x : Int32} (h1 : ¬ x < 0) (h2 : ¬ 1 < x) : x = 0 ∨ x = 1 := by
  rw [Int32.lt_iff_toInt_lt, show (0 : Int32).toInt = 0 from rfl] at h1
  rw [Int32.lt_iff_toInt_lt, show (1 : Int32).toInt = 1 from rfl] at h2
  have h : x.toInt = 0 ∨ x.toInt = 1 := by omega
  rcases h with h | h
  · exact Or.inl (Int32.toInt_inj.mp (h.trans (show (0 : Int) = (0 : Int32).toInt from rfl)))
  · exact Or.inr ((Int32.toInt_inj.mp (h.trans (show (1 : Int) = (1 : Int32).toInt from rfl))))
theorem rg0_3 {x : Int32} (h1 : ¬ x < 0) (h2 : ¬ 3 < x) : x = 0 ∨ x = 1 ∨ x = 2 ∨ x = 3 := by
  rw [Int32.lt_iff_toInt_lt, show (0 : Int32).toInt = 0 from rfl] at h1
  rw [Int32.lt_iff_toInt_lt, show (3 : Int32).toInt = 3 from rfl] at h2
  have h : x.toInt = 0 ∨ x.toInt = 1 ∨ x.toInt = 2 ∨ x.toInt = 3 := by omega
  rcases h with h | h | h | h
  · exact Or.inl (Int32.toInt_inj.mp (h.trans (show (0 : Int) = (0 : Int32).toInt from rfl)))
  · exact Or.inr (Or.inl (Int32.toInt_inj.mp (h.trans (show (1 : Int) = (1 : Int32).toInt from rfl))))
  · exact Or.inr (Or.inr (Or.inl (Int32.toInt_inj.mp (h.trans (show (2 : Int) = (2 : Int32).toInt from rfl)))))
  · exact Or.inr (Or.inr (Or.inr ((Int32.toInt_inj.mp (h.trans (show (3 : Int) = (3 : Int32).toInt from rfl))))))
theorem rg0_4 {x : Int32} (h1 : ¬ x < 0) (h2 : ¬ 4 < x) : x = 0 ∨ x = 1 ∨ x = 2 ∨ x = 3 ∨ x = 4 := by
  rw [Int32.lt_iff_toInt_lt, show (0 : Int32).toInt = 0 from rfl] at h1
  rw [Int32.lt_iff_toInt_lt, show (4 : Int32).toInt = 4 from rfl] at h2
  have h : x.toInt = 0 ∨ x.toInt = 1 ∨ x.toInt = 2 ∨ x.toInt = 3 ∨ x.toInt = 4 := by omega
  rcases h with h | h | h | h | h
  · exact Or.inl (Int32.toInt_inj.mp (h.trans (show (0 : Int) = (0 : Int32).toInt from rfl)))
  · exact Or.inr (Or.inl (Int32.toInt_inj.mp (h.trans (show (1 : Int) = (1 : Int32).toInt from rfl))))
  · exact Or.inr (Or.inr (Or.inl (Int32.toInt_inj.mp (h.trans (show (2 : Int) = (2 : Int32).toInt from rfl)))))
  · exact Or.inr (Or.inr (Or.inr (Or.inl (Int32.toInt_inj.mp (h.trans (show (3 : Int) = (3 : Int32).toInt from rfl))))))
  · exact Or.inr (Or.inr (Or.inr (Or.inr ((Int32.toInt_inj.mp (h.trans (show (4 : Int) = (4 : Int32).toInt from rfl)))))))
theorem rg3_5 {x : Int32} (h1 : ¬ x < 3) (h2 : ¬ 5 < x) : x = 3 ∨ x = 4 ∨ x = 5 := by
  rw [Int32.lt_iff_toInt_lt, show (3 : Int32).toInt = 3 from rfl] at h1
  rw [Int32.lt_iff_toInt_lt, show (5 : Int32).toInt = 5 from rfl] at h2
  have h : x.toInt = 3 ∨ x.toInt = 4 ∨ x.toInt = 5 := by omega
  rcases h with h | h | h
  · exact Or.inl (Int32.toInt_inj.mp (h.trans (show (3 : Int) = (3 : Int32).toInt from rfl)))
  · exact Or.inr (Or.inl (Int32.toInt_inj.mp (h.trans (show (4 : Int) = (4 : Int32).toInt from rfl))))
  · exact Or.inr (Or.inr ((Int32.toInt_inj.mp (h.trans (show (5 : Int) = (5 : Int32).toInt from rfl)))))
theorem rg0_9 {x : Int32} (h1 : ¬ x < 0) (h2 : ¬ 9 < x) : x = 0 ∨ x = 1 ∨ x = 2 ∨ x = 3 ∨ x = 4 ∨ x = 5 ∨ x = 6 ∨ x = 7 ∨ x = 8 ∨ x = 9 := by
  rw [Int32.lt_iff_toInt_lt, show (0 : Int32).toInt = 0 from rfl] at h1
  rw [Int32.lt_iff_toInt_lt, show (9 : Int32).toInt = 9 from rfl] at h2
  have h : x.toInt = 0 ∨ x.toInt = 1 ∨ x.toInt = 2 ∨ x.toInt = 3 ∨ x.toInt = 4 ∨ x.toInt = 5 ∨ x.toInt = 6 ∨ x.toInt = 7 ∨ x.toInt = 8 ∨ x.toInt = 9 := by omega
  rcases h with h | h | h | h | h | h | h | h | h | h
  · exact Or.inl (Int32.toInt_inj.mp (h.trans (show (0 : Int) = (0 : Int32).toInt from rfl)))
  · exact Or.inr (Or.inl (Int32.toInt_inj.mp (h.trans (show (1 : Int) = (1 : Int32).toInt from rfl))))
  · exact Or.inr (Or.inr (Or.inl (Int32.toInt_inj.mp (h.trans (show (2 : Int) = (2 : Int32).toInt from rfl)))))
  · exact Or.inr (Or.inr (Or.inr (Or.inl (Int32.toInt_inj.mp (h.trans (show (3 : Int) = (3 : Int32).toInt from rfl))))))
  · exact Or.inr (Or.inr (Or.inr (Or.inr (Or.inl (Int32.toInt_inj.mp (h.trans (show (4 : Int) = (4 : Int32).toInt from rfl)))))))
  · exact Or.inr (Or.inr (Or.inr (Or.inr (Or.inr (Or.inl (Int32.toInt_inj.mp (h.trans (show (5 : Int) = (5 : Int32).toInt from rfl))))))))
  · exact Or.inr (Or.inr (Or.inr (Or.inr (Or.inr (Or.inr (Or.inl (Int32.toInt_inj.mp (h.trans (show (6 : Int) = (6 : Int32).toInt from rfl)))))))))
  · exact Or.inr (Or.inr (Or.inr (Or.inr (Or.inr (Or.inr (Or.inr (Or.inl (Int32.toInt_inj.mp (h.trans (show (7 : Int) = (7 : Int32).toInt from rfl))))))))))
  · exact Or.inr (Or.inr (Or.inr (Or.inr (Or.inr (Or.inr (Or.inr (Or.inr (Or.inl (Int32.toInt_inj.mp (h.trans (show (8 : Int) = (8 : Int32).toInt from rfl)))))))))))
  · exact Or.inr (Or.inr (Or.inr (Or.inr (Or.inr (Or.inr (Or.inr (Or.inr (Or.inr ((Int32.toInt_inj.mp (h.trans (show (9 : Int) = (9 : Int32).toInt from rfl))))))))))))
theorem ti_n {x : Int32} (h : x < 0) : (x.toInt < 0) = True := eq_true (by rw [Int32.lt_iff_toInt_lt] at h; exact h)
theorem ti_p {x : Int32} (h : ¬ x < 0) : (x.toInt < 0) = False := eq_false (by rw [Int32.lt_iff_toInt_lt] at h; exact h)
theorem nem2_m1 : (((-2) : Int32) = (-1)) = False := by decide
theorem nem2_0 : (((-2) : Int32) = 0) = False := by decide
theorem nem2_1 : (((-2) : Int32) = 1) = False := by decide
theorem nem2_2 : (((-2) : Int32) = 2) = False := by decide
theorem nem2_3 : (((-2) : Int32) = 3) = False := by decide
theorem nem2_4 : (((-2) : Int32) = 4) = False := by decide
theorem nem2_5 : (((-2) : Int32) = 5) = False := by decide
theorem nem2_6 : (((-2) : Int32) = 6) = False := by decide
theorem nem2_7 : (((-2) : Int32) = 7) = False := by decide
theorem nem2_8 : (((-2) : Int32) = 8) = False := by decide
theorem nem2_9 : (((-2) : Int32) = 9) = False := by decide
theorem nem1_m2 : (((-1) : Int32) = (-2)) = False := by decide
theorem nem1_0 : (((-1) : Int32) = 0) = False := by decide
theorem nem1_1 : (((-1) : Int32) = 1) = False := by decide
theorem nem1_2 : (((-1) : Int32) = 2) = False := by decide
theorem nem1_3 : (((-1) : Int32) = 3) = False := by decide
theorem nem1_4 : (((-1) : Int32) = 4) = False := by decide
theorem nem1_5 : (((-1) : Int32) = 5) = False := by decide
theorem nem1_6 : (((-1) : Int32) = 6) = False := by decide
theorem nem1_7 : (((-1) : Int32) = 7) = False := by decide
theorem nem1_8 : (((-1) : Int32) = 8) = False := by decide
theorem nem1_9 : (((-1) : Int32) = 9) = False := by decide
theorem ne0_m2 : ((0 : Int32) = (-2)) = False := by decide
theorem ne0_m1 : ((0 : Int32) = (-1)) = False := by decide
theorem ne0_1 : ((0 : Int32) = 1) = False := by decide
theorem ne0_2 : ((0 : Int32) = 2) = False := by decide
theorem ne0_3 : ((0 : Int32) = 3) = False := by decide
theorem ne0_4 : ((0 : Int32) = 4) = False := by decide
theorem ne0_5 : ((0 : Int32) = 5) = False := by decide
theorem ne0_6 : ((0 : Int32) = 6) = False := by decide
theorem ne0_7 : ((0 : Int32) = 7) = False := by decide
theorem ne0_8 : ((0 : Int32) = 8) = False := by decide
theorem ne0_9 : ((0 : Int32) = 9) = False := by decide
theorem ne1_m2 : ((1 : Int32) = (-2)) = False := by decide
theorem ne1_m1 : ((1 : Int32) = (-1)) = False := by decide
theorem ne1_0 : ((1 : Int32) = 0) = False := by decide
theorem ne1_2 : ((1 : Int32) = 2) = False := by decide
theorem ne1_3 : ((1 : Int32) = 3) = False := by decide
theorem ne1_4 : ((1 : Int32) = 4) = False := by decide
theorem ne1_5 : ((1 : Int32) = 5) = False := by decide
theorem ne1_6 : ((1 : Int32) = 6) = False := by decide
theorem ne1_7 : ((1 : Int32) = 7) = False := by decide
theorem ne1_8 : ((1 : Int32) = 8) = False := by decide
theorem ne1_9 : ((1 : Int32) = 9) = False := by decide
theorem ne2_m2 : ((2 : Int32) = (-2)) = False := by decide
theorem ne2_m1 : ((2 : Int32) = (-1)) = False := by decide
theorem ne2_0 : ((2 : Int32) = 0) = False := by decide
theorem ne2_1 : ((2 : Int32) = 1) = False := by decide
theorem ne2_3 : ((2 : Int32) = 3) = False := by decide
theorem ne2_4 : ((2 : Int32) = 4) = False := by decide
theorem ne2_5 : ((2 : Int32) = 5) = False := by decide
theorem ne2_6 : ((2 : Int32) = 6) = False := by decide
theorem ne2_7 : ((2 : Int32) = 7) = False := by decide
theorem ne2_8 : ((2 : Int32) = 8) = False := by decide
theorem ne2_9 : ((2 : Int32) = 9) = False := by decide
theorem ne3_m2 : ((3 : Int32) = (-2)) = False := by decide
theorem ne3_m1 : ((3 : Int32) = (-1)) = False := by decide
theorem ne3_0 : ((3 : Int32) = 0) = False := by decide
theorem ne3_1 : ((3 : Int32) = 1) = False := by decide
theorem ne3_2 : ((3 : Int32) = 2) = False := by decide
theorem ne3_4 : ((3 : Int32) = 4) = False := by decide
theorem ne3_5 : ((3 : Int32) = 5) = False := by decide
theorem ne3_6 : ((3 : Int32) = 6) = False := by decide
theorem ne3_7 : ((3 : Int32) = 7) = False := by decide
theorem ne3_8 : ((3 : Int32) = 8) = False := by decide
theorem ne3_9 : ((3 : Int32) = 9) = False := by decide
theorem ne4_m2 : ((4 : Int32) = (-2)) = False := by decide
theorem ne4_m1 : ((4 : Int32) = (-1)) = False := by decide
theorem ne4_0 : ((4 : Int32) = 0) = False := by decide
theorem ne4_1 : ((4 : Int32) = 1) = False := by decide
theorem ne4_2 : ((4 : Int32) = 2) = False := by decide
theorem ne4_3 : ((4 : Int32) = 3) = False := by decide
theorem ne4_5 : ((4 : Int32) = 5) = False := by decide
theorem ne4_6 : ((4 : Int32) = 6) = False := by decide
theorem ne4_7 : ((4 : Int32) = 7) = False := by decide
theorem ne4_8 : ((4 : Int32) = 8) = False := by decide
theorem ne4_9 : ((4 : Int32) = 9) = False := by decide
theorem ne5_m2 : ((5 : Int32) = (-2)) = False := by decide
theorem ne5_m1 : ((5 : Int32) = (-1)) = False := by decide
theorem ne5_0 : ((5 : Int32) = 0) = False := by decide
theorem ne5_1 : ((5 : Int32) = 1) = False := by decide
theorem ne5_2 : ((5 : Int32) = 2) = False := by decide
theorem ne5_3 : ((5 : Int32) = 3) = False := by decide
theorem ne5_4 : ((5 : Int32) = 4) = False := by decide
theorem ne5_6 : ((5 : Int32) = 6) = False := by decide
theorem ne5_7 : ((5 : Int32) = 7) = False := by decide
theorem ne5_8 : ((5 : Int32) = 8) = False := by decide
theorem ne5_9 : ((5 : Int32) = 9) = False := by decide
theorem ne6_m2 : ((6 : Int32) = (-2)) = False := by decide
theorem ne6_m1 : ((6 : Int32) = (-1)) = False := by decide
theorem ne6_0 : ((6 : Int32) = 0) = False := by decide
theorem ne6_1 : ((6 : Int32) = 1) = False := by decide
theorem ne6_2 : ((6 : Int32) = 2) = False := by decide
theorem ne6_3 : ((6 : Int32) = 3) = False := by decide
theorem ne6_4 : ((6 : Int32) = 4) = False := by decide
theorem ne6_5 : ((6 : Int32) = 5) = False := by decide
theorem ne6_7 : ((6 : Int32) = 7) = False := by decide
theorem ne6_8 : ((6 : Int32) = 8) = False := by decide
theorem ne6_9 : ((6 : Int32) = 9) = False := by decide
theorem ne7_m2 : ((7 : Int32) = (-2)) = False := by decide
theorem ne7_m1 : ((7 : Int32) = (-1)) = False := by decide
theorem ne7_0 : ((7 : Int32) = 0) = False := by decide
theorem ne7_1 : ((7 : Int32) = 1) = False := by decide
theorem ne7_2 : ((7 : Int32) = 2) = False := by decide
theorem ne7_3 : ((7 : Int32) = 3) = False := by decide
theorem ne7_4 : ((7 : Int32) = 4) = False := by decide
theorem ne7_5 : ((7 : Int32) = 5) = False := by decide
theorem ne7_6 : ((7 : Int32) = 6) = False := by decide
theorem ne7_8 : ((7 : Int32) = 8) = False := by decide
theorem ne7_9 : ((7 : Int32) = 9) = False := by decide
theorem ne8_m2 : ((8 : Int32) = (-2)) = False := by decide
theorem ne8_m1 : ((8 : Int32) = (-1)) = False := by decide
theorem ne8_0 : ((8 : Int32) = 0) = False := by decide
theorem ne8_1 : ((8 : Int32) = 1) = False := by decide
theorem ne8_2 : ((8 : Int32) = 2) = False := by decide
theorem ne8_3 : ((8 : Int32) = 3) = False := by decide
theorem ne8_4 : ((8 : Int32) = 4) = False := by decide
theorem ne8_5 : ((8 : Int32) = 5) = False := by decide
theorem ne8_6 : ((8 : Int32) = 6) = False := by decide
theorem ne8_7 : ((8 : Int32) = 7) = False := by decide
theorem ne8_9 : ((8 : Int32) = 9) = False := by decide
theorem ne9_m2 : ((9 : Int32) = (-2)) = False := by decide
theorem ne9_m1 : ((9 : Int32) = (-1)) = False := by decide
theorem ne9_0 : ((9 : Int32) = 0) = False := by decide
theorem ne9_1 : ((9 : Int32) = 1) = False := by decide
theorem ne9_2 : ((9 : Int32) = 2) = False := by decide
theorem ne9_3 : ((9 : Int32) = 3) = False := by decide
theorem ne9_4 : ((9 : Int32) = 4) = False := by decide
theorem ne9_5 : ((9 : Int32) = 5) = False := by decide
theorem ne9_6 : ((9 : Int32) = 6) = False := by decide
theorem ne9_7 : ((9 : Int32) = 7) = False := by decide
theorem ne9_8 : ((9 : Int32) = 8) = False := by decide
