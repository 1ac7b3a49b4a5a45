/-! the cells that the makers lay: their kinds, lengths, references -/
def pK : List Nat := [19, 19, 19, 19, 8, 7, 11, 11, 11, 15, 11, 11, 16, 10, 4, 11, 11, 11, 11, 11, 6, 11, 11, 11, 11, 11, 6, 11, 11, 11, 11, 11, 6, 11, 11, 11, 11, 11, 11, 14, 1, 11, 11, 11, 11, 11, 11, 11, 17, 11, 11, 11, 11, 11, 9, 11, 11, 11, 13, 11, 11, 11, 11, 11, 11, 11, 11, 11, 11, 11, 11, 11, 11, 11, 11, 11, 11, 11, 11, 11, 11, 11, 11, 11, 11]
def pN : List Nat := [0, 5, 5, 5, 0, 0, 5, 5, 5, 8, 8, 8, 2, 400, 0, 416, 17, 16, 401, 401, 0, 5, 14, 5, 5, 64, 0, 5, 14, 5, 5, 64, 0, 5, 14, 5, 5, 64, 60, 6, 0, 8, 8, 8, 8, 8, 3, 4, 4, 8, 8, 8, 8, 5, 0, 7, 8060, 16120, 2, 400, 400, 400, 400, 160, 5, 5, 5, 400, 5, 12, 5, 60, 5, 59049, 59049, 59049, 59049, 59049, 59049, 7, 7, 8, 8, 3, 8]
def pR : List (Nat × Nat × Nat) := [(4, 0, 5), (4, 1, 12), (4, 2, 13), (4, 4, 14), (4, 5, 20), (4, 7, 26), (4, 8, 32), (4, 9, 38), (4, 10, 39), (4, 11, 40), (4, 12, 53), (5, 1, 6), (5, 2, 7), (5, 4, 8), (5, 5, 9), (5, 7, 10), (5, 8, 11), (14, 0, 15), (14, 2, 16), (14, 3, 17), (14, 6, 18), (14, 7, 19), (20, 1, 21), (20, 2, 22), (20, 3, 23), (20, 4, 24), (20, 7, 25), (26, 1, 27), (26, 2, 28), (26, 3, 29), (26, 4, 30), (26, 7, 31), (32, 1, 33), (32, 2, 34), (32, 3, 35), (32, 4, 36), (32, 7, 37), (40, 0, 41), (40, 1, 42), (40, 2, 43), (40, 3, 44), (40, 4, 45), (40, 5, 46), (40, 6, 47), (40, 7, 48), (48, 0, 49), (48, 1, 50), (48, 2, 51), (48, 3, 52), (54, 2, 55), (54, 3, 56), (54, 4, 57), (54, 5, 58), (54, 6, 59), (54, 16, 60), (54, 17, 61), (54, 18, 62), (54, 21, 63), (54, 23, 64), (54, 24, 65), (54, 25, 66), (54, 44, 67), (54, 46, 68), (54, 47, 69), (54, 48, 70), (54, 49, 71), (54, 50, 72), (54, 51, 73), (54, 52, 74), (54, 53, 75), (54, 54, 76), (54, 55, 77), (54, 57, 78), (54, 61, 79), (54, 62, 80), (54, 63, 81), (54, 64, 82), (54, 65, 83), (54, 66, 84)]
/-- the lasting cells are there -/
def Pm (S : mS) : Prop := 85 ≤ S.1 ∧ ∀ a, a < 85 → 1 ≤ a → S.2.2.1 a = pK.getD a 0 ∧ (10 ≤ pK.getD a 0 → S.2.2.2 a = pN.getD a 0)
def Pr (R : mR) : Prop := ∀ q, q ∈ pR → R q.1 q.2.1 = some q.2.2
theorem pk1 {S : mS} (h : Pm S) : ok S 1 19 = True := eq_true ⟨Nat.lt_of_lt_of_le (by decide) h.1, (h.2 1 (by decide) (by decide)).1⟩
theorem pl1 {S : mS} (h : Pm S) : S.2.2.2 1 = 5 := (h.2 1 (by decide) (by decide)).2 (by decide)
theorem pa1 {S : mS} (h : Pm S) : okA S 1 = True := eq_true ⟨Nat.lt_of_lt_of_le (by decide) h.1, by rw [(h.2 1 (by decide) (by decide)).1]; decide⟩
theorem pi1 {S : mS} (h : Pm S) : okI S 1 = True := eq_true ⟨Nat.lt_of_lt_of_le (by decide) h.1, by rw [(h.2 1 (by decide) (by decide)).1]; decide⟩
theorem pk2 {S : mS} (h : Pm S) : ok S 2 19 = True := eq_true ⟨Nat.lt_of_lt_of_le (by decide) h.1, (h.2 2 (by decide) (by decide)).1⟩
theorem pl2 {S : mS} (h : Pm S) : S.2.2.2 2 = 5 := (h.2 2 (by decide) (by decide)).2 (by decide)
theorem pa2 {S : mS} (h : Pm S) : okA S 2 = True := eq_true ⟨Nat.lt_of_lt_of_le (by decide) h.1, by rw [(h.2 2 (by decide) (by decide)).1]; decide⟩
theorem pi2 {S : mS} (h : Pm S) : okI S 2 = True := eq_true ⟨Nat.lt_of_lt_of_le (by decide) h.1, by rw [(h.2 2 (by decide) (by decide)).1]; decide⟩
theorem pk3 {S : mS} (h : Pm S) : ok S 3 19 = True := eq_true ⟨Nat.lt_of_lt_of_le (by decide) h.1, (h.2 3 (by decide) (by decide)).1⟩
theorem pl3 {S : mS} (h : Pm S) : S.2.2.2 3 = 5 := (h.2 3 (by decide) (by decide)).2 (by decide)
theorem pa3 {S : mS} (h : Pm S) : okA S 3 = True := eq_true ⟨Nat.lt_of_lt_of_le (by decide) h.1, by rw [(h.2 3 (by decide) (by decide)).1]; decide⟩
theorem pi3 {S : mS} (h : Pm S) : okI S 3 = True := eq_true ⟨Nat.lt_of_lt_of_le (by decide) h.1, by rw [(h.2 3 (by decide) (by decide)).1]; decide⟩
theorem pk4 {S : mS} (h : Pm S) : ok S 4 8 = True := eq_true ⟨Nat.lt_of_lt_of_le (by decide) h.1, (h.2 4 (by decide) (by decide)).1⟩
theorem pk5 {S : mS} (h : Pm S) : ok S 5 7 = True := eq_true ⟨Nat.lt_of_lt_of_le (by decide) h.1, (h.2 5 (by decide) (by decide)).1⟩
theorem pk6 {S : mS} (h : Pm S) : ok S 6 11 = True := eq_true ⟨Nat.lt_of_lt_of_le (by decide) h.1, (h.2 6 (by decide) (by decide)).1⟩
theorem pl6 {S : mS} (h : Pm S) : S.2.2.2 6 = 5 := (h.2 6 (by decide) (by decide)).2 (by decide)
theorem pa6 {S : mS} (h : Pm S) : okA S 6 = True := eq_true ⟨Nat.lt_of_lt_of_le (by decide) h.1, by rw [(h.2 6 (by decide) (by decide)).1]; decide⟩
theorem pi6 {S : mS} (h : Pm S) : okI S 6 = True := eq_true ⟨Nat.lt_of_lt_of_le (by decide) h.1, by rw [(h.2 6 (by decide) (by decide)).1]; decide⟩
theorem pk7 {S : mS} (h : Pm S) : ok S 7 11 = True := eq_true ⟨Nat.lt_of_lt_of_le (by decide) h.1, (h.2 7 (by decide) (by decide)).1⟩
theorem pl7 {S : mS} (h : Pm S) : S.2.2.2 7 = 5 := (h.2 7 (by decide) (by decide)).2 (by decide)
theorem pa7 {S : mS} (h : Pm S) : okA S 7 = True := eq_true ⟨Nat.lt_of_lt_of_le (by decide) h.1, by rw [(h.2 7 (by decide) (by decide)).1]; decide⟩
theorem pi7 {S : mS} (h : Pm S) : okI S 7 = True := eq_true ⟨Nat.lt_of_lt_of_le (by decide) h.1, by rw [(h.2 7 (by decide) (by decide)).1]; decide⟩
theorem pk8 {S : mS} (h : Pm S) : ok S 8 11 = True := eq_true ⟨Nat.lt_of_lt_of_le (by decide) h.1, (h.2 8 (by decide) (by decide)).1⟩
theorem pl8 {S : mS} (h : Pm S) : S.2.2.2 8 = 5 := (h.2 8 (by decide) (by decide)).2 (by decide)
theorem pa8 {S : mS} (h : Pm S) : okA S 8 = True := eq_true ⟨Nat.lt_of_lt_of_le (by decide) h.1, by rw [(h.2 8 (by decide) (by decide)).1]; decide⟩
theorem pi8 {S : mS} (h : Pm S) : okI S 8 = True := eq_true ⟨Nat.lt_of_lt_of_le (by decide) h.1, by rw [(h.2 8 (by decide) (by decide)).1]; decide⟩
theorem pk9 {S : mS} (h : Pm S) : ok S 9 15 = True := eq_true ⟨Nat.lt_of_lt_of_le (by decide) h.1, (h.2 9 (by decide) (by decide)).1⟩
theorem pl9 {S : mS} (h : Pm S) : S.2.2.2 9 = 8 := (h.2 9 (by decide) (by decide)).2 (by decide)
theorem pa9 {S : mS} (h : Pm S) : okA S 9 = True := eq_true ⟨Nat.lt_of_lt_of_le (by decide) h.1, by rw [(h.2 9 (by decide) (by decide)).1]; decide⟩
theorem pq9 {S : mS} (h : Pm S) : okR S 9 = True := eq_true ⟨Nat.lt_of_lt_of_le (by decide) h.1, by rw [(h.2 9 (by decide) (by decide)).1]; decide⟩
theorem pk10 {S : mS} (h : Pm S) : ok S 10 11 = True := eq_true ⟨Nat.lt_of_lt_of_le (by decide) h.1, (h.2 10 (by decide) (by decide)).1⟩
theorem pl10 {S : mS} (h : Pm S) : S.2.2.2 10 = 8 := (h.2 10 (by decide) (by decide)).2 (by decide)
theorem pa10 {S : mS} (h : Pm S) : okA S 10 = True := eq_true ⟨Nat.lt_of_lt_of_le (by decide) h.1, by rw [(h.2 10 (by decide) (by decide)).1]; decide⟩
theorem pi10 {S : mS} (h : Pm S) : okI S 10 = True := eq_true ⟨Nat.lt_of_lt_of_le (by decide) h.1, by rw [(h.2 10 (by decide) (by decide)).1]; decide⟩
theorem pk11 {S : mS} (h : Pm S) : ok S 11 11 = True := eq_true ⟨Nat.lt_of_lt_of_le (by decide) h.1, (h.2 11 (by decide) (by decide)).1⟩
theorem pl11 {S : mS} (h : Pm S) : S.2.2.2 11 = 8 := (h.2 11 (by decide) (by decide)).2 (by decide)
theorem pa11 {S : mS} (h : Pm S) : okA S 11 = True := eq_true ⟨Nat.lt_of_lt_of_le (by decide) h.1, by rw [(h.2 11 (by decide) (by decide)).1]; decide⟩
theorem pi11 {S : mS} (h : Pm S) : okI S 11 = True := eq_true ⟨Nat.lt_of_lt_of_le (by decide) h.1, by rw [(h.2 11 (by decide) (by decide)).1]; decide⟩
theorem pk12 {S : mS} (h : Pm S) : ok S 12 16 = True := eq_true ⟨Nat.lt_of_lt_of_le (by decide) h.1, (h.2 12 (by decide) (by decide)).1⟩
theorem pl12 {S : mS} (h : Pm S) : S.2.2.2 12 = 2 := (h.2 12 (by decide) (by decide)).2 (by decide)
theorem pa12 {S : mS} (h : Pm S) : okA S 12 = True := eq_true ⟨Nat.lt_of_lt_of_le (by decide) h.1, by rw [(h.2 12 (by decide) (by decide)).1]; decide⟩
theorem pq12 {S : mS} (h : Pm S) : okR S 12 = True := eq_true ⟨Nat.lt_of_lt_of_le (by decide) h.1, by rw [(h.2 12 (by decide) (by decide)).1]; decide⟩
theorem pk13 {S : mS} (h : Pm S) : ok S 13 10 = True := eq_true ⟨Nat.lt_of_lt_of_le (by decide) h.1, (h.2 13 (by decide) (by decide)).1⟩
theorem pl13 {S : mS} (h : Pm S) : S.2.2.2 13 = 400 := (h.2 13 (by decide) (by decide)).2 (by decide)
theorem pa13 {S : mS} (h : Pm S) : okA S 13 = True := eq_true ⟨Nat.lt_of_lt_of_le (by decide) h.1, by rw [(h.2 13 (by decide) (by decide)).1]; decide⟩
theorem pk14 {S : mS} (h : Pm S) : ok S 14 4 = True := eq_true ⟨Nat.lt_of_lt_of_le (by decide) h.1, (h.2 14 (by decide) (by decide)).1⟩
theorem pk15 {S : mS} (h : Pm S) : ok S 15 11 = True := eq_true ⟨Nat.lt_of_lt_of_le (by decide) h.1, (h.2 15 (by decide) (by decide)).1⟩
theorem pl15 {S : mS} (h : Pm S) : S.2.2.2 15 = 416 := (h.2 15 (by decide) (by decide)).2 (by decide)
theorem pa15 {S : mS} (h : Pm S) : okA S 15 = True := eq_true ⟨Nat.lt_of_lt_of_le (by decide) h.1, by rw [(h.2 15 (by decide) (by decide)).1]; decide⟩
theorem pi15 {S : mS} (h : Pm S) : okI S 15 = True := eq_true ⟨Nat.lt_of_lt_of_le (by decide) h.1, by rw [(h.2 15 (by decide) (by decide)).1]; decide⟩
theorem pk16 {S : mS} (h : Pm S) : ok S 16 11 = True := eq_true ⟨Nat.lt_of_lt_of_le (by decide) h.1, (h.2 16 (by decide) (by decide)).1⟩
theorem pl16 {S : mS} (h : Pm S) : S.2.2.2 16 = 17 := (h.2 16 (by decide) (by decide)).2 (by decide)
theorem pa16 {S : mS} (h : Pm S) : okA S 16 = True := eq_true ⟨Nat.lt_of_lt_of_le (by decide) h.1, by rw [(h.2 16 (by decide) (by decide)).1]; decide⟩
theorem pi16 {S : mS} (h : Pm S) : okI S 16 = True := eq_true ⟨Nat.lt_of_lt_of_le (by decide) h.1, by rw [(h.2 16 (by decide) (by decide)).1]; decide⟩
theorem pk17 {S : mS} (h : Pm S) : ok S 17 11 = True := eq_true ⟨Nat.lt_of_lt_of_le (by decide) h.1, (h.2 17 (by decide) (by decide)).1⟩
theorem pl17 {S : mS} (h : Pm S) : S.2.2.2 17 = 16 := (h.2 17 (by decide) (by decide)).2 (by decide)
theorem pa17 {S : mS} (h : Pm S) : okA S 17 = True := eq_true ⟨Nat.lt_of_lt_of_le (by decide) h.1, by rw [(h.2 17 (by decide) (by decide)).1]; decide⟩
theorem pi17 {S : mS} (h : Pm S) : okI S 17 = True := eq_true ⟨Nat.lt_of_lt_of_le (by decide) h.1, by rw [(h.2 17 (by decide) (by decide)).1]; decide⟩
theorem pk18 {S : mS} (h : Pm S) : ok S 18 11 = True := eq_true ⟨Nat.lt_of_lt_of_le (by decide) h.1, (h.2 18 (by decide) (by decide)).1⟩
theorem pl18 {S : mS} (h : Pm S) : S.2.2.2 18 = 401 := (h.2 18 (by decide) (by decide)).2 (by decide)
theorem pa18 {S : mS} (h : Pm S) : okA S 18 = True := eq_true ⟨Nat.lt_of_lt_of_le (by decide) h.1, by rw [(h.2 18 (by decide) (by decide)).1]; decide⟩
theorem pi18 {S : mS} (h : Pm S) : okI S 18 = True := eq_true ⟨Nat.lt_of_lt_of_le (by decide) h.1, by rw [(h.2 18 (by decide) (by decide)).1]; decide⟩
theorem pk19 {S : mS} (h : Pm S) : ok S 19 11 = True := eq_true ⟨Nat.lt_of_lt_of_le (by decide) h.1, (h.2 19 (by decide) (by decide)).1⟩
theorem pl19 {S : mS} (h : Pm S) : S.2.2.2 19 = 401 := (h.2 19 (by decide) (by decide)).2 (by decide)
theorem pa19 {S : mS} (h : Pm S) : okA S 19 = True := eq_true ⟨Nat.lt_of_lt_of_le (by decide) h.1, by rw [(h.2 19 (by decide) (by decide)).1]; decide⟩
theorem pi19 {S : mS} (h : Pm S) : okI S 19 = True := eq_true ⟨Nat.lt_of_lt_of_le (by decide) h.1, by rw [(h.2 19 (by decide) (by decide)).1]; decide⟩
theorem pk20 {S : mS} (h : Pm S) : ok S 20 6 = True := eq_true ⟨Nat.lt_of_lt_of_le (by decide) h.1, (h.2 20 (by decide) (by decide)).1⟩
theorem pk21 {S : mS} (h : Pm S) : ok S 21 11 = True := eq_true ⟨Nat.lt_of_lt_of_le (by decide) h.1, (h.2 21 (by decide) (by decide)).1⟩
theorem pl21 {S : mS} (h : Pm S) : S.2.2.2 21 = 5 := (h.2 21 (by decide) (by decide)).2 (by decide)
theorem pa21 {S : mS} (h : Pm S) : okA S 21 = True := eq_true ⟨Nat.lt_of_lt_of_le (by decide) h.1, by rw [(h.2 21 (by decide) (by decide)).1]; decide⟩
theorem pi21 {S : mS} (h : Pm S) : okI S 21 = True := eq_true ⟨Nat.lt_of_lt_of_le (by decide) h.1, by rw [(h.2 21 (by decide) (by decide)).1]; decide⟩
theorem pk22 {S : mS} (h : Pm S) : ok S 22 11 = True := eq_true ⟨Nat.lt_of_lt_of_le (by decide) h.1, (h.2 22 (by decide) (by decide)).1⟩
theorem pl22 {S : mS} (h : Pm S) : S.2.2.2 22 = 14 := (h.2 22 (by decide) (by decide)).2 (by decide)
theorem pa22 {S : mS} (h : Pm S) : okA S 22 = True := eq_true ⟨Nat.lt_of_lt_of_le (by decide) h.1, by rw [(h.2 22 (by decide) (by decide)).1]; decide⟩
theorem pi22 {S : mS} (h : Pm S) : okI S 22 = True := eq_true ⟨Nat.lt_of_lt_of_le (by decide) h.1, by rw [(h.2 22 (by decide) (by decide)).1]; decide⟩
theorem pk23 {S : mS} (h : Pm S) : ok S 23 11 = True := eq_true ⟨Nat.lt_of_lt_of_le (by decide) h.1, (h.2 23 (by decide) (by decide)).1⟩
theorem pl23 {S : mS} (h : Pm S) : S.2.2.2 23 = 5 := (h.2 23 (by decide) (by decide)).2 (by decide)
theorem pa23 {S : mS} (h : Pm S) : okA S 23 = True := eq_true ⟨Nat.lt_of_lt_of_le (by decide) h.1, by rw [(h.2 23 (by decide) (by decide)).1]; decide⟩
theorem pi23 {S : mS} (h : Pm S) : okI S 23 = True := eq_true ⟨Nat.lt_of_lt_of_le (by decide) h.1, by rw [(h.2 23 (by decide) (by decide)).1]; decide⟩
theorem pk24 {S : mS} (h : Pm S) : ok S 24 11 = True := eq_true ⟨Nat.lt_of_lt_of_le (by decide) h.1, (h.2 24 (by decide) (by decide)).1⟩
theorem pl24 {S : mS} (h : Pm S) : S.2.2.2 24 = 5 := (h.2 24 (by decide) (by decide)).2 (by decide)
theorem pa24 {S : mS} (h : Pm S) : okA S 24 = True := eq_true ⟨Nat.lt_of_lt_of_le (by decide) h.1, by rw [(h.2 24 (by decide) (by decide)).1]; decide⟩
theorem pi24 {S : mS} (h : Pm S) : okI S 24 = True := eq_true ⟨Nat.lt_of_lt_of_le (by decide) h.1, by rw [(h.2 24 (by decide) (by decide)).1]; decide⟩
theorem pk25 {S : mS} (h : Pm S) : ok S 25 11 = True := eq_true ⟨Nat.lt_of_lt_of_le (by decide) h.1, (h.2 25 (by decide) (by decide)).1⟩
theorem pl25 {S : mS} (h : Pm S) : S.2.2.2 25 = 64 := (h.2 25 (by decide) (by decide)).2 (by decide)
theorem pa25 {S : mS} (h : Pm S) : okA S 25 = True := eq_true ⟨Nat.lt_of_lt_of_le (by decide) h.1, by rw [(h.2 25 (by decide) (by decide)).1]; decide⟩
theorem pi25 {S : mS} (h : Pm S) : okI S 25 = True := eq_true ⟨Nat.lt_of_lt_of_le (by decide) h.1, by rw [(h.2 25 (by decide) (by decide)).1]; decide⟩
theorem pk26 {S : mS} (h : Pm S) : ok S 26 6 = True := eq_true ⟨Nat.lt_of_lt_of_le (by decide) h.1, (h.2 26 (by decide) (by decide)).1⟩
theorem pk27 {S : mS} (h : Pm S) : ok S 27 11 = True := eq_true ⟨Nat.lt_of_lt_of_le (by decide) h.1, (h.2 27 (by decide) (by decide)).1⟩
theorem pl27 {S : mS} (h : Pm S) : S.2.2.2 27 = 5 := (h.2 27 (by decide) (by decide)).2 (by decide)
theorem pa27 {S : mS} (h : Pm S) : okA S 27 = True := eq_true ⟨Nat.lt_of_lt_of_le (by decide) h.1, by rw [(h.2 27 (by decide) (by decide)).1]; decide⟩
theorem pi27 {S : mS} (h : Pm S) : okI S 27 = True := eq_true ⟨Nat.lt_of_lt_of_le (by decide) h.1, by rw [(h.2 27 (by decide) (by decide)).1]; decide⟩
theorem pk28 {S : mS} (h : Pm S) : ok S 28 11 = True := eq_true ⟨Nat.lt_of_lt_of_le (by decide) h.1, (h.2 28 (by decide) (by decide)).1⟩
theorem pl28 {S : mS} (h : Pm S) : S.2.2.2 28 = 14 := (h.2 28 (by decide) (by decide)).2 (by decide)
theorem pa28 {S : mS} (h : Pm S) : okA S 28 = True := eq_true ⟨Nat.lt_of_lt_of_le (by decide) h.1, by rw [(h.2 28 (by decide) (by decide)).1]; decide⟩
theorem pi28 {S : mS} (h : Pm S) : okI S 28 = True := eq_true ⟨Nat.lt_of_lt_of_le (by decide) h.1, by rw [(h.2 28 (by decide) (by decide)).1]; decide⟩
theorem pk29 {S : mS} (h : Pm S) : ok S 29 11 = True := eq_true ⟨Nat.lt_of_lt_of_le (by decide) h.1, (h.2 29 (by decide) (by decide)).1⟩
theorem pl29 {S : mS} (h : Pm S) : S.2.2.2 29 = 5 := (h.2 29 (by decide) (by decide)).2 (by decide)
theorem pa29 {S : mS} (h : Pm S) : okA S 29 = True := eq_true ⟨Nat.lt_of_lt_of_le (by decide) h.1, by rw [(h.2 29 (by decide) (by decide)).1]; decide⟩
theorem pi29 {S : mS} (h : Pm S) : okI S 29 = True := eq_true ⟨Nat.lt_of_lt_of_le (by decide) h.1, by rw [(h.2 29 (by decide) (by decide)).1]; decide⟩
theorem pk30 {S : mS} (h : Pm S) : ok S 30 11 = True := eq_true ⟨Nat.lt_of_lt_of_le (by decide) h.1, (h.2 30 (by decide) (by decide)).1⟩
theorem pl30 {S : mS} (h : Pm S) : S.2.2.2 30 = 5 := (h.2 30 (by decide) (by decide)).2 (by decide)
theorem pa30 {S : mS} (h : Pm S) : okA S 30 = True := eq_true ⟨Nat.lt_of_lt_of_le (by decide) h.1, by rw [(h.2 30 (by decide) (by decide)).1]; decide⟩
theorem pi30 {S : mS} (h : Pm S) : okI S 30 = True := eq_true ⟨Nat.lt_of_lt_of_le (by decide) h.1, by rw [(h.2 30 (by decide) (by decide)).1]; decide⟩
theorem pk31 {S : mS} (h : Pm S) : ok S 31 11 = True := eq_true ⟨Nat.lt_of_lt_of_le (by decide) h.1, (h.2 31 (by decide) (by decide)).1⟩
theorem pl31 {S : mS} (h : Pm S) : S.2.2.2 31 = 64 := (h.2 31 (by decide) (by decide)).2 (by decide)
theorem pa31 {S : mS} (h : Pm S) : okA S 31 = True := eq_true ⟨Nat.lt_of_lt_of_le (by decide) h.1, by rw [(h.2 31 (by decide) (by decide)).1]; decide⟩
theorem pi31 {S : mS} (h : Pm S) : okI S 31 = True := eq_true ⟨Nat.lt_of_lt_of_le (by decide) h.1, by rw [(h.2 31 (by decide) (by decide)).1]; decide⟩
theorem pk32 {S : mS} (h : Pm S) : ok S 32 6 = True := eq_true ⟨Nat.lt_of_lt_of_le (by decide) h.1, (h.2 32 (by decide) (by decide)).1⟩
theorem pk33 {S : mS} (h : Pm S) : ok S 33 11 = True := eq_true ⟨Nat.lt_of_lt_of_le (by decide) h.1, (h.2 33 (by decide) (by decide)).1⟩
theorem pl33 {S : mS} (h : Pm S) : S.2.2.2 33 = 5 := (h.2 33 (by decide) (by decide)).2 (by decide)
theorem pa33 {S : mS} (h : Pm S) : okA S 33 = True := eq_true ⟨Nat.lt_of_lt_of_le (by decide) h.1, by rw [(h.2 33 (by decide) (by decide)).1]; decide⟩
theorem pi33 {S : mS} (h : Pm S) : okI S 33 = True := eq_true ⟨Nat.lt_of_lt_of_le (by decide) h.1, by rw [(h.2 33 (by decide) (by decide)).1]; decide⟩
theorem pk34 {S : mS} (h : Pm S) : ok S 34 11 = True := eq_true ⟨Nat.lt_of_lt_of_le (by decide) h.1, (h.2 34 (by decide) (by decide)).1⟩
theorem pl34 {S : mS} (h : Pm S) : S.2.2.2 34 = 14 := (h.2 34 (by decide) (by decide)).2 (by decide)
theorem pa34 {S : mS} (h : Pm S) : okA S 34 = True := eq_true ⟨Nat.lt_of_lt_of_le (by decide) h.1, by rw [(h.2 34 (by decide) (by decide)).1]; decide⟩
theorem pi34 {S : mS} (h : Pm S) : okI S 34 = True := eq_true ⟨Nat.lt_of_lt_of_le (by decide) h.1, by rw [(h.2 34 (by decide) (by decide)).1]; decide⟩
theorem pk35 {S : mS} (h : Pm S) : ok S 35 11 = True := eq_true ⟨Nat.lt_of_lt_of_le (by decide) h.1, (h.2 35 (by decide) (by decide)).1⟩
theorem pl35 {S : mS} (h : Pm S) : S.2.2.2 35 = 5 := (h.2 35 (by decide) (by decide)).2 (by decide)
theorem pa35 {S : mS} (h : Pm S) : okA S 35 = True := eq_true ⟨Nat.lt_of_lt_of_le (by decide) h.1, by rw [(h.2 35 (by decide) (by decide)).1]; decide⟩
theorem pi35 {S : mS} (h : Pm S) : okI S 35 = True := eq_true ⟨Nat.lt_of_lt_of_le (by decide) h.1, by rw [(h.2 35 (by decide) (by decide)).1]; decide⟩
theorem pk36 {S : mS} (h : Pm S) : ok S 36 11 = True := eq_true ⟨Nat.lt_of_lt_of_le (by decide) h.1, (h.2 36 (by decide) (by decide)).1⟩
theorem pl36 {S : mS} (h : Pm S) : S.2.2.2 36 = 5 := (h.2 36 (by decide) (by decide)).2 (by decide)
theorem pa36 {S : mS} (h : Pm S) : okA S 36 = True := eq_true ⟨Nat.lt_of_lt_of_le (by decide) h.1, by rw [(h.2 36 (by decide) (by decide)).1]; decide⟩
theorem pi36 {S : mS} (h : Pm S) : okI S 36 = True := eq_true ⟨Nat.lt_of_lt_of_le (by decide) h.1, by rw [(h.2 36 (by decide) (by decide)).1]; decide⟩
theorem pk37 {S : mS} (h : Pm S) : ok S 37 11 = True := eq_true ⟨Nat.lt_of_lt_of_le (by decide) h.1, (h.2 37 (by decide) (by decide)).1⟩
theorem pl37 {S : mS} (h : Pm S) : S.2.2.2 37 = 64 := (h.2 37 (by decide) (by decide)).2 (by decide)
theorem pa37 {S : mS} (h : Pm S) : okA S 37 = True := eq_true ⟨Nat.lt_of_lt_of_le (by decide) h.1, by rw [(h.2 37 (by decide) (by decide)).1]; decide⟩
theorem pi37 {S : mS} (h : Pm S) : okI S 37 = True := eq_true ⟨Nat.lt_of_lt_of_le (by decide) h.1, by rw [(h.2 37 (by decide) (by decide)).1]; decide⟩
theorem pk38 {S : mS} (h : Pm S) : ok S 38 11 = True := eq_true ⟨Nat.lt_of_lt_of_le (by decide) h.1, (h.2 38 (by decide) (by decide)).1⟩
theorem pl38 {S : mS} (h : Pm S) : S.2.2.2 38 = 60 := (h.2 38 (by decide) (by decide)).2 (by decide)
theorem pa38 {S : mS} (h : Pm S) : okA S 38 = True := eq_true ⟨Nat.lt_of_lt_of_le (by decide) h.1, by rw [(h.2 38 (by decide) (by decide)).1]; decide⟩
theorem pi38 {S : mS} (h : Pm S) : okI S 38 = True := eq_true ⟨Nat.lt_of_lt_of_le (by decide) h.1, by rw [(h.2 38 (by decide) (by decide)).1]; decide⟩
theorem pk39 {S : mS} (h : Pm S) : ok S 39 14 = True := eq_true ⟨Nat.lt_of_lt_of_le (by decide) h.1, (h.2 39 (by decide) (by decide)).1⟩
theorem pl39 {S : mS} (h : Pm S) : S.2.2.2 39 = 6 := (h.2 39 (by decide) (by decide)).2 (by decide)
theorem pa39 {S : mS} (h : Pm S) : okA S 39 = True := eq_true ⟨Nat.lt_of_lt_of_le (by decide) h.1, by rw [(h.2 39 (by decide) (by decide)).1]; decide⟩
theorem pq39 {S : mS} (h : Pm S) : okR S 39 = True := eq_true ⟨Nat.lt_of_lt_of_le (by decide) h.1, by rw [(h.2 39 (by decide) (by decide)).1]; decide⟩
theorem pk40 {S : mS} (h : Pm S) : ok S 40 1 = True := eq_true ⟨Nat.lt_of_lt_of_le (by decide) h.1, (h.2 40 (by decide) (by decide)).1⟩
theorem pk41 {S : mS} (h : Pm S) : ok S 41 11 = True := eq_true ⟨Nat.lt_of_lt_of_le (by decide) h.1, (h.2 41 (by decide) (by decide)).1⟩
theorem pl41 {S : mS} (h : Pm S) : S.2.2.2 41 = 8 := (h.2 41 (by decide) (by decide)).2 (by decide)
theorem pa41 {S : mS} (h : Pm S) : okA S 41 = True := eq_true ⟨Nat.lt_of_lt_of_le (by decide) h.1, by rw [(h.2 41 (by decide) (by decide)).1]; decide⟩
theorem pi41 {S : mS} (h : Pm S) : okI S 41 = True := eq_true ⟨Nat.lt_of_lt_of_le (by decide) h.1, by rw [(h.2 41 (by decide) (by decide)).1]; decide⟩
theorem pk42 {S : mS} (h : Pm S) : ok S 42 11 = True := eq_true ⟨Nat.lt_of_lt_of_le (by decide) h.1, (h.2 42 (by decide) (by decide)).1⟩
theorem pl42 {S : mS} (h : Pm S) : S.2.2.2 42 = 8 := (h.2 42 (by decide) (by decide)).2 (by decide)
theorem pa42 {S : mS} (h : Pm S) : okA S 42 = True := eq_true ⟨Nat.lt_of_lt_of_le (by decide) h.1, by rw [(h.2 42 (by decide) (by decide)).1]; decide⟩
theorem pi42 {S : mS} (h : Pm S) : okI S 42 = True := eq_true ⟨Nat.lt_of_lt_of_le (by decide) h.1, by rw [(h.2 42 (by decide) (by decide)).1]; decide⟩
theorem pk43 {S : mS} (h : Pm S) : ok S 43 11 = True := eq_true ⟨Nat.lt_of_lt_of_le (by decide) h.1, (h.2 43 (by decide) (by decide)).1⟩
theorem pl43 {S : mS} (h : Pm S) : S.2.2.2 43 = 8 := (h.2 43 (by decide) (by decide)).2 (by decide)
theorem pa43 {S : mS} (h : Pm S) : okA S 43 = True := eq_true ⟨Nat.lt_of_lt_of_le (by decide) h.1, by rw [(h.2 43 (by decide) (by decide)).1]; decide⟩
theorem pi43 {S : mS} (h : Pm S) : okI S 43 = True := eq_true ⟨Nat.lt_of_lt_of_le (by decide) h.1, by rw [(h.2 43 (by decide) (by decide)).1]; decide⟩
theorem pk44 {S : mS} (h : Pm S) : ok S 44 11 = True := eq_true ⟨Nat.lt_of_lt_of_le (by decide) h.1, (h.2 44 (by decide) (by decide)).1⟩
theorem pl44 {S : mS} (h : Pm S) : S.2.2.2 44 = 8 := (h.2 44 (by decide) (by decide)).2 (by decide)
theorem pa44 {S : mS} (h : Pm S) : okA S 44 = True := eq_true ⟨Nat.lt_of_lt_of_le (by decide) h.1, by rw [(h.2 44 (by decide) (by decide)).1]; decide⟩
theorem pi44 {S : mS} (h : Pm S) : okI S 44 = True := eq_true ⟨Nat.lt_of_lt_of_le (by decide) h.1, by rw [(h.2 44 (by decide) (by decide)).1]; decide⟩
theorem pk45 {S : mS} (h : Pm S) : ok S 45 11 = True := eq_true ⟨Nat.lt_of_lt_of_le (by decide) h.1, (h.2 45 (by decide) (by decide)).1⟩
theorem pl45 {S : mS} (h : Pm S) : S.2.2.2 45 = 8 := (h.2 45 (by decide) (by decide)).2 (by decide)
theorem pa45 {S : mS} (h : Pm S) : okA S 45 = True := eq_true ⟨Nat.lt_of_lt_of_le (by decide) h.1, by rw [(h.2 45 (by decide) (by decide)).1]; decide⟩
theorem pi45 {S : mS} (h : Pm S) : okI S 45 = True := eq_true ⟨Nat.lt_of_lt_of_le (by decide) h.1, by rw [(h.2 45 (by decide) (by decide)).1]; decide⟩
theorem pk46 {S : mS} (h : Pm S) : ok S 46 11 = True := eq_true ⟨Nat.lt_of_lt_of_le (by decide) h.1, (h.2 46 (by decide) (by decide)).1⟩
theorem pl46 {S : mS} (h : Pm S) : S.2.2.2 46 = 3 := (h.2 46 (by decide) (by decide)).2 (by decide)
theorem pa46 {S : mS} (h : Pm S) : okA S 46 = True := eq_true ⟨Nat.lt_of_lt_of_le (by decide) h.1, by rw [(h.2 46 (by decide) (by decide)).1]; decide⟩
theorem pi46 {S : mS} (h : Pm S) : okI S 46 = True := eq_true ⟨Nat.lt_of_lt_of_le (by decide) h.1, by rw [(h.2 46 (by decide) (by decide)).1]; decide⟩
theorem pk47 {S : mS} (h : Pm S) : ok S 47 11 = True := eq_true ⟨Nat.lt_of_lt_of_le (by decide) h.1, (h.2 47 (by decide) (by decide)).1⟩
theorem pl47 {S : mS} (h : Pm S) : S.2.2.2 47 = 4 := (h.2 47 (by decide) (by decide)).2 (by decide)
theorem pa47 {S : mS} (h : Pm S) : okA S 47 = True := eq_true ⟨Nat.lt_of_lt_of_le (by decide) h.1, by rw [(h.2 47 (by decide) (by decide)).1]; decide⟩
theorem pi47 {S : mS} (h : Pm S) : okI S 47 = True := eq_true ⟨Nat.lt_of_lt_of_le (by decide) h.1, by rw [(h.2 47 (by decide) (by decide)).1]; decide⟩
theorem pk48 {S : mS} (h : Pm S) : ok S 48 17 = True := eq_true ⟨Nat.lt_of_lt_of_le (by decide) h.1, (h.2 48 (by decide) (by decide)).1⟩
theorem pl48 {S : mS} (h : Pm S) : S.2.2.2 48 = 4 := (h.2 48 (by decide) (by decide)).2 (by decide)
theorem pa48 {S : mS} (h : Pm S) : okA S 48 = True := eq_true ⟨Nat.lt_of_lt_of_le (by decide) h.1, by rw [(h.2 48 (by decide) (by decide)).1]; decide⟩
theorem pq48 {S : mS} (h : Pm S) : okR S 48 = True := eq_true ⟨Nat.lt_of_lt_of_le (by decide) h.1, by rw [(h.2 48 (by decide) (by decide)).1]; decide⟩
theorem pk49 {S : mS} (h : Pm S) : ok S 49 11 = True := eq_true ⟨Nat.lt_of_lt_of_le (by decide) h.1, (h.2 49 (by decide) (by decide)).1⟩
theorem pl49 {S : mS} (h : Pm S) : S.2.2.2 49 = 8 := (h.2 49 (by decide) (by decide)).2 (by decide)
theorem pa49 {S : mS} (h : Pm S) : okA S 49 = True := eq_true ⟨Nat.lt_of_lt_of_le (by decide) h.1, by rw [(h.2 49 (by decide) (by decide)).1]; decide⟩
theorem pi49 {S : mS} (h : Pm S) : okI S 49 = True := eq_true ⟨Nat.lt_of_lt_of_le (by decide) h.1, by rw [(h.2 49 (by decide) (by decide)).1]; decide⟩
theorem pk50 {S : mS} (h : Pm S) : ok S 50 11 = True := eq_true ⟨Nat.lt_of_lt_of_le (by decide) h.1, (h.2 50 (by decide) (by decide)).1⟩
theorem pl50 {S : mS} (h : Pm S) : S.2.2.2 50 = 8 := (h.2 50 (by decide) (by decide)).2 (by decide)
theorem pa50 {S : mS} (h : Pm S) : okA S 50 = True := eq_true ⟨Nat.lt_of_lt_of_le (by decide) h.1, by rw [(h.2 50 (by decide) (by decide)).1]; decide⟩
theorem pi50 {S : mS} (h : Pm S) : okI S 50 = True := eq_true ⟨Nat.lt_of_lt_of_le (by decide) h.1, by rw [(h.2 50 (by decide) (by decide)).1]; decide⟩
theorem pk51 {S : mS} (h : Pm S) : ok S 51 11 = True := eq_true ⟨Nat.lt_of_lt_of_le (by decide) h.1, (h.2 51 (by decide) (by decide)).1⟩
theorem pl51 {S : mS} (h : Pm S) : S.2.2.2 51 = 8 := (h.2 51 (by decide) (by decide)).2 (by decide)
theorem pa51 {S : mS} (h : Pm S) : okA S 51 = True := eq_true ⟨Nat.lt_of_lt_of_le (by decide) h.1, by rw [(h.2 51 (by decide) (by decide)).1]; decide⟩
theorem pi51 {S : mS} (h : Pm S) : okI S 51 = True := eq_true ⟨Nat.lt_of_lt_of_le (by decide) h.1, by rw [(h.2 51 (by decide) (by decide)).1]; decide⟩
theorem pk52 {S : mS} (h : Pm S) : ok S 52 11 = True := eq_true ⟨Nat.lt_of_lt_of_le (by decide) h.1, (h.2 52 (by decide) (by decide)).1⟩
theorem pl52 {S : mS} (h : Pm S) : S.2.2.2 52 = 8 := (h.2 52 (by decide) (by decide)).2 (by decide)
theorem pa52 {S : mS} (h : Pm S) : okA S 52 = True := eq_true ⟨Nat.lt_of_lt_of_le (by decide) h.1, by rw [(h.2 52 (by decide) (by decide)).1]; decide⟩
theorem pi52 {S : mS} (h : Pm S) : okI S 52 = True := eq_true ⟨Nat.lt_of_lt_of_le (by decide) h.1, by rw [(h.2 52 (by decide) (by decide)).1]; decide⟩
theorem pk53 {S : mS} (h : Pm S) : ok S 53 11 = True := eq_true ⟨Nat.lt_of_lt_of_le (by decide) h.1, (h.2 53 (by decide) (by decide)).1⟩
theorem pl53 {S : mS} (h : Pm S) : S.2.2.2 53 = 5 := (h.2 53 (by decide) (by decide)).2 (by decide)
theorem pa53 {S : mS} (h : Pm S) : okA S 53 = True := eq_true ⟨Nat.lt_of_lt_of_le (by decide) h.1, by rw [(h.2 53 (by decide) (by decide)).1]; decide⟩
theorem pi53 {S : mS} (h : Pm S) : okI S 53 = True := eq_true ⟨Nat.lt_of_lt_of_le (by decide) h.1, by rw [(h.2 53 (by decide) (by decide)).1]; decide⟩
theorem pk54 {S : mS} (h : Pm S) : ok S 54 9 = True := eq_true ⟨Nat.lt_of_lt_of_le (by decide) h.1, (h.2 54 (by decide) (by decide)).1⟩
theorem pk55 {S : mS} (h : Pm S) : ok S 55 11 = True := eq_true ⟨Nat.lt_of_lt_of_le (by decide) h.1, (h.2 55 (by decide) (by decide)).1⟩
theorem pl55 {S : mS} (h : Pm S) : S.2.2.2 55 = 7 := (h.2 55 (by decide) (by decide)).2 (by decide)
theorem pa55 {S : mS} (h : Pm S) : okA S 55 = True := eq_true ⟨Nat.lt_of_lt_of_le (by decide) h.1, by rw [(h.2 55 (by decide) (by decide)).1]; decide⟩
theorem pi55 {S : mS} (h : Pm S) : okI S 55 = True := eq_true ⟨Nat.lt_of_lt_of_le (by decide) h.1, by rw [(h.2 55 (by decide) (by decide)).1]; decide⟩
theorem pk56 {S : mS} (h : Pm S) : ok S 56 11 = True := eq_true ⟨Nat.lt_of_lt_of_le (by decide) h.1, (h.2 56 (by decide) (by decide)).1⟩
theorem pl56 {S : mS} (h : Pm S) : S.2.2.2 56 = 8060 := (h.2 56 (by decide) (by decide)).2 (by decide)
theorem pa56 {S : mS} (h : Pm S) : okA S 56 = True := eq_true ⟨Nat.lt_of_lt_of_le (by decide) h.1, by rw [(h.2 56 (by decide) (by decide)).1]; decide⟩
theorem pi56 {S : mS} (h : Pm S) : okI S 56 = True := eq_true ⟨Nat.lt_of_lt_of_le (by decide) h.1, by rw [(h.2 56 (by decide) (by decide)).1]; decide⟩
theorem pk57 {S : mS} (h : Pm S) : ok S 57 11 = True := eq_true ⟨Nat.lt_of_lt_of_le (by decide) h.1, (h.2 57 (by decide) (by decide)).1⟩
theorem pl57 {S : mS} (h : Pm S) : S.2.2.2 57 = 16120 := (h.2 57 (by decide) (by decide)).2 (by decide)
theorem pa57 {S : mS} (h : Pm S) : okA S 57 = True := eq_true ⟨Nat.lt_of_lt_of_le (by decide) h.1, by rw [(h.2 57 (by decide) (by decide)).1]; decide⟩
theorem pi57 {S : mS} (h : Pm S) : okI S 57 = True := eq_true ⟨Nat.lt_of_lt_of_le (by decide) h.1, by rw [(h.2 57 (by decide) (by decide)).1]; decide⟩
theorem pk58 {S : mS} (h : Pm S) : ok S 58 13 = True := eq_true ⟨Nat.lt_of_lt_of_le (by decide) h.1, (h.2 58 (by decide) (by decide)).1⟩
theorem pl58 {S : mS} (h : Pm S) : S.2.2.2 58 = 2 := (h.2 58 (by decide) (by decide)).2 (by decide)
theorem pa58 {S : mS} (h : Pm S) : okA S 58 = True := eq_true ⟨Nat.lt_of_lt_of_le (by decide) h.1, by rw [(h.2 58 (by decide) (by decide)).1]; decide⟩
theorem pk59 {S : mS} (h : Pm S) : ok S 59 11 = True := eq_true ⟨Nat.lt_of_lt_of_le (by decide) h.1, (h.2 59 (by decide) (by decide)).1⟩
theorem pl59 {S : mS} (h : Pm S) : S.2.2.2 59 = 400 := (h.2 59 (by decide) (by decide)).2 (by decide)
theorem pa59 {S : mS} (h : Pm S) : okA S 59 = True := eq_true ⟨Nat.lt_of_lt_of_le (by decide) h.1, by rw [(h.2 59 (by decide) (by decide)).1]; decide⟩
theorem pi59 {S : mS} (h : Pm S) : okI S 59 = True := eq_true ⟨Nat.lt_of_lt_of_le (by decide) h.1, by rw [(h.2 59 (by decide) (by decide)).1]; decide⟩
theorem pk60 {S : mS} (h : Pm S) : ok S 60 11 = True := eq_true ⟨Nat.lt_of_lt_of_le (by decide) h.1, (h.2 60 (by decide) (by decide)).1⟩
theorem pl60 {S : mS} (h : Pm S) : S.2.2.2 60 = 400 := (h.2 60 (by decide) (by decide)).2 (by decide)
theorem pa60 {S : mS} (h : Pm S) : okA S 60 = True := eq_true ⟨Nat.lt_of_lt_of_le (by decide) h.1, by rw [(h.2 60 (by decide) (by decide)).1]; decide⟩
theorem pi60 {S : mS} (h : Pm S) : okI S 60 = True := eq_true ⟨Nat.lt_of_lt_of_le (by decide) h.1, by rw [(h.2 60 (by decide) (by decide)).1]; decide⟩
theorem pk61 {S : mS} (h : Pm S) : ok S 61 11 = True := eq_true ⟨Nat.lt_of_lt_of_le (by decide) h.1, (h.2 61 (by decide) (by decide)).1⟩
theorem pl61 {S : mS} (h : Pm S) : S.2.2.2 61 = 400 := (h.2 61 (by decide) (by decide)).2 (by decide)
theorem pa61 {S : mS} (h : Pm S) : okA S 61 = True := eq_true ⟨Nat.lt_of_lt_of_le (by decide) h.1, by rw [(h.2 61 (by decide) (by decide)).1]; decide⟩
theorem pi61 {S : mS} (h : Pm S) : okI S 61 = True := eq_true ⟨Nat.lt_of_lt_of_le (by decide) h.1, by rw [(h.2 61 (by decide) (by decide)).1]; decide⟩
theorem pk62 {S : mS} (h : Pm S) : ok S 62 11 = True := eq_true ⟨Nat.lt_of_lt_of_le (by decide) h.1, (h.2 62 (by decide) (by decide)).1⟩
theorem pl62 {S : mS} (h : Pm S) : S.2.2.2 62 = 400 := (h.2 62 (by decide) (by decide)).2 (by decide)
theorem pa62 {S : mS} (h : Pm S) : okA S 62 = True := eq_true ⟨Nat.lt_of_lt_of_le (by decide) h.1, by rw [(h.2 62 (by decide) (by decide)).1]; decide⟩
theorem pi62 {S : mS} (h : Pm S) : okI S 62 = True := eq_true ⟨Nat.lt_of_lt_of_le (by decide) h.1, by rw [(h.2 62 (by decide) (by decide)).1]; decide⟩
theorem pk63 {S : mS} (h : Pm S) : ok S 63 11 = True := eq_true ⟨Nat.lt_of_lt_of_le (by decide) h.1, (h.2 63 (by decide) (by decide)).1⟩
theorem pl63 {S : mS} (h : Pm S) : S.2.2.2 63 = 160 := (h.2 63 (by decide) (by decide)).2 (by decide)
theorem pa63 {S : mS} (h : Pm S) : okA S 63 = True := eq_true ⟨Nat.lt_of_lt_of_le (by decide) h.1, by rw [(h.2 63 (by decide) (by decide)).1]; decide⟩
theorem pi63 {S : mS} (h : Pm S) : okI S 63 = True := eq_true ⟨Nat.lt_of_lt_of_le (by decide) h.1, by rw [(h.2 63 (by decide) (by decide)).1]; decide⟩
theorem pk64 {S : mS} (h : Pm S) : ok S 64 11 = True := eq_true ⟨Nat.lt_of_lt_of_le (by decide) h.1, (h.2 64 (by decide) (by decide)).1⟩
theorem pl64 {S : mS} (h : Pm S) : S.2.2.2 64 = 5 := (h.2 64 (by decide) (by decide)).2 (by decide)
theorem pa64 {S : mS} (h : Pm S) : okA S 64 = True := eq_true ⟨Nat.lt_of_lt_of_le (by decide) h.1, by rw [(h.2 64 (by decide) (by decide)).1]; decide⟩
theorem pi64 {S : mS} (h : Pm S) : okI S 64 = True := eq_true ⟨Nat.lt_of_lt_of_le (by decide) h.1, by rw [(h.2 64 (by decide) (by decide)).1]; decide⟩
theorem pk65 {S : mS} (h : Pm S) : ok S 65 11 = True := eq_true ⟨Nat.lt_of_lt_of_le (by decide) h.1, (h.2 65 (by decide) (by decide)).1⟩
theorem pl65 {S : mS} (h : Pm S) : S.2.2.2 65 = 5 := (h.2 65 (by decide) (by decide)).2 (by decide)
theorem pa65 {S : mS} (h : Pm S) : okA S 65 = True := eq_true ⟨Nat.lt_of_lt_of_le (by decide) h.1, by rw [(h.2 65 (by decide) (by decide)).1]; decide⟩
theorem pi65 {S : mS} (h : Pm S) : okI S 65 = True := eq_true ⟨Nat.lt_of_lt_of_le (by decide) h.1, by rw [(h.2 65 (by decide) (by decide)).1]; decide⟩
theorem pk66 {S : mS} (h : Pm S) : ok S 66 11 = True := eq_true ⟨Nat.lt_of_lt_of_le (by decide) h.1, (h.2 66 (by decide) (by decide)).1⟩
theorem pl66 {S : mS} (h : Pm S) : S.2.2.2 66 = 5 := (h.2 66 (by decide) (by decide)).2 (by decide)
theorem pa66 {S : mS} (h : Pm S) : okA S 66 = True := eq_true ⟨Nat.lt_of_lt_of_le (by decide) h.1, by rw [(h.2 66 (by decide) (by decide)).1]; decide⟩
theorem pi66 {S : mS} (h : Pm S) : okI S 66 = True := eq_true ⟨Nat.lt_of_lt_of_le (by decide) h.1, by rw [(h.2 66 (by decide) (by decide)).1]; decide⟩
theorem pk67 {S : mS} (h : Pm S) : ok S 67 11 = True := eq_true ⟨Nat.lt_of_lt_of_le (by decide) h.1, (h.2 67 (by decide) (by decide)).1⟩
theorem pl67 {S : mS} (h : Pm S) : S.2.2.2 67 = 400 := (h.2 67 (by decide) (by decide)).2 (by decide)
theorem pa67 {S : mS} (h : Pm S) : okA S 67 = True := eq_true ⟨Nat.lt_of_lt_of_le (by decide) h.1, by rw [(h.2 67 (by decide) (by decide)).1]; decide⟩
theorem pi67 {S : mS} (h : Pm S) : okI S 67 = True := eq_true ⟨Nat.lt_of_lt_of_le (by decide) h.1, by rw [(h.2 67 (by decide) (by decide)).1]; decide⟩
theorem pk68 {S : mS} (h : Pm S) : ok S 68 11 = True := eq_true ⟨Nat.lt_of_lt_of_le (by decide) h.1, (h.2 68 (by decide) (by decide)).1⟩
theorem pl68 {S : mS} (h : Pm S) : S.2.2.2 68 = 5 := (h.2 68 (by decide) (by decide)).2 (by decide)
theorem pa68 {S : mS} (h : Pm S) : okA S 68 = True := eq_true ⟨Nat.lt_of_lt_of_le (by decide) h.1, by rw [(h.2 68 (by decide) (by decide)).1]; decide⟩
theorem pi68 {S : mS} (h : Pm S) : okI S 68 = True := eq_true ⟨Nat.lt_of_lt_of_le (by decide) h.1, by rw [(h.2 68 (by decide) (by decide)).1]; decide⟩
theorem pk69 {S : mS} (h : Pm S) : ok S 69 11 = True := eq_true ⟨Nat.lt_of_lt_of_le (by decide) h.1, (h.2 69 (by decide) (by decide)).1⟩
theorem pl69 {S : mS} (h : Pm S) : S.2.2.2 69 = 12 := (h.2 69 (by decide) (by decide)).2 (by decide)
theorem pa69 {S : mS} (h : Pm S) : okA S 69 = True := eq_true ⟨Nat.lt_of_lt_of_le (by decide) h.1, by rw [(h.2 69 (by decide) (by decide)).1]; decide⟩
theorem pi69 {S : mS} (h : Pm S) : okI S 69 = True := eq_true ⟨Nat.lt_of_lt_of_le (by decide) h.1, by rw [(h.2 69 (by decide) (by decide)).1]; decide⟩
theorem pk70 {S : mS} (h : Pm S) : ok S 70 11 = True := eq_true ⟨Nat.lt_of_lt_of_le (by decide) h.1, (h.2 70 (by decide) (by decide)).1⟩
theorem pl70 {S : mS} (h : Pm S) : S.2.2.2 70 = 5 := (h.2 70 (by decide) (by decide)).2 (by decide)
theorem pa70 {S : mS} (h : Pm S) : okA S 70 = True := eq_true ⟨Nat.lt_of_lt_of_le (by decide) h.1, by rw [(h.2 70 (by decide) (by decide)).1]; decide⟩
theorem pi70 {S : mS} (h : Pm S) : okI S 70 = True := eq_true ⟨Nat.lt_of_lt_of_le (by decide) h.1, by rw [(h.2 70 (by decide) (by decide)).1]; decide⟩
theorem pk71 {S : mS} (h : Pm S) : ok S 71 11 = True := eq_true ⟨Nat.lt_of_lt_of_le (by decide) h.1, (h.2 71 (by decide) (by decide)).1⟩
theorem pl71 {S : mS} (h : Pm S) : S.2.2.2 71 = 60 := (h.2 71 (by decide) (by decide)).2 (by decide)
theorem pa71 {S : mS} (h : Pm S) : okA S 71 = True := eq_true ⟨Nat.lt_of_lt_of_le (by decide) h.1, by rw [(h.2 71 (by decide) (by decide)).1]; decide⟩
theorem pi71 {S : mS} (h : Pm S) : okI S 71 = True := eq_true ⟨Nat.lt_of_lt_of_le (by decide) h.1, by rw [(h.2 71 (by decide) (by decide)).1]; decide⟩
theorem pk72 {S : mS} (h : Pm S) : ok S 72 11 = True := eq_true ⟨Nat.lt_of_lt_of_le (by decide) h.1, (h.2 72 (by decide) (by decide)).1⟩
theorem pl72 {S : mS} (h : Pm S) : S.2.2.2 72 = 5 := (h.2 72 (by decide) (by decide)).2 (by decide)
theorem pa72 {S : mS} (h : Pm S) : okA S 72 = True := eq_true ⟨Nat.lt_of_lt_of_le (by decide) h.1, by rw [(h.2 72 (by decide) (by decide)).1]; decide⟩
theorem pi72 {S : mS} (h : Pm S) : okI S 72 = True := eq_true ⟨Nat.lt_of_lt_of_le (by decide) h.1, by rw [(h.2 72 (by decide) (by decide)).1]; decide⟩
theorem pk73 {S : mS} (h : Pm S) : ok S 73 11 = True := eq_true ⟨Nat.lt_of_lt_of_le (by decide) h.1, (h.2 73 (by decide) (by decide)).1⟩
theorem pl73 {S : mS} (h : Pm S) : S.2.2.2 73 = 59049 := (h.2 73 (by decide) (by decide)).2 (by decide)
theorem pa73 {S : mS} (h : Pm S) : okA S 73 = True := eq_true ⟨Nat.lt_of_lt_of_le (by decide) h.1, by rw [(h.2 73 (by decide) (by decide)).1]; decide⟩
theorem pi73 {S : mS} (h : Pm S) : okI S 73 = True := eq_true ⟨Nat.lt_of_lt_of_le (by decide) h.1, by rw [(h.2 73 (by decide) (by decide)).1]; decide⟩
theorem pk74 {S : mS} (h : Pm S) : ok S 74 11 = True := eq_true ⟨Nat.lt_of_lt_of_le (by decide) h.1, (h.2 74 (by decide) (by decide)).1⟩
theorem pl74 {S : mS} (h : Pm S) : S.2.2.2 74 = 59049 := (h.2 74 (by decide) (by decide)).2 (by decide)
theorem pa74 {S : mS} (h : Pm S) : okA S 74 = True := eq_true ⟨Nat.lt_of_lt_of_le (by decide) h.1, by rw [(h.2 74 (by decide) (by decide)).1]; decide⟩
theorem pi74 {S : mS} (h : Pm S) : okI S 74 = True := eq_true ⟨Nat.lt_of_lt_of_le (by decide) h.1, by rw [(h.2 74 (by decide) (by decide)).1]; decide⟩
theorem pk75 {S : mS} (h : Pm S) : ok S 75 11 = True := eq_true ⟨Nat.lt_of_lt_of_le (by decide) h.1, (h.2 75 (by decide) (by decide)).1⟩
theorem pl75 {S : mS} (h : Pm S) : S.2.2.2 75 = 59049 := (h.2 75 (by decide) (by decide)).2 (by decide)
theorem pa75 {S : mS} (h : Pm S) : okA S 75 = True := eq_true ⟨Nat.lt_of_lt_of_le (by decide) h.1, by rw [(h.2 75 (by decide) (by decide)).1]; decide⟩
theorem pi75 {S : mS} (h : Pm S) : okI S 75 = True := eq_true ⟨Nat.lt_of_lt_of_le (by decide) h.1, by rw [(h.2 75 (by decide) (by decide)).1]; decide⟩
theorem pk76 {S : mS} (h : Pm S) : ok S 76 11 = True := eq_true ⟨Nat.lt_of_lt_of_le (by decide) h.1, (h.2 76 (by decide) (by decide)).1⟩
theorem pl76 {S : mS} (h : Pm S) : S.2.2.2 76 = 59049 := (h.2 76 (by decide) (by decide)).2 (by decide)
theorem pa76 {S : mS} (h : Pm S) : okA S 76 = True := eq_true ⟨Nat.lt_of_lt_of_le (by decide) h.1, by rw [(h.2 76 (by decide) (by decide)).1]; decide⟩
theorem pi76 {S : mS} (h : Pm S) : okI S 76 = True := eq_true ⟨Nat.lt_of_lt_of_le (by decide) h.1, by rw [(h.2 76 (by decide) (by decide)).1]; decide⟩
theorem pk77 {S : mS} (h : Pm S) : ok S 77 11 = True := eq_true ⟨Nat.lt_of_lt_of_le (by decide) h.1, (h.2 77 (by decide) (by decide)).1⟩
theorem pl77 {S : mS} (h : Pm S) : S.2.2.2 77 = 59049 := (h.2 77 (by decide) (by decide)).2 (by decide)
theorem pa77 {S : mS} (h : Pm S) : okA S 77 = True := eq_true ⟨Nat.lt_of_lt_of_le (by decide) h.1, by rw [(h.2 77 (by decide) (by decide)).1]; decide⟩
theorem pi77 {S : mS} (h : Pm S) : okI S 77 = True := eq_true ⟨Nat.lt_of_lt_of_le (by decide) h.1, by rw [(h.2 77 (by decide) (by decide)).1]; decide⟩
theorem pk78 {S : mS} (h : Pm S) : ok S 78 11 = True := eq_true ⟨Nat.lt_of_lt_of_le (by decide) h.1, (h.2 78 (by decide) (by decide)).1⟩
theorem pl78 {S : mS} (h : Pm S) : S.2.2.2 78 = 59049 := (h.2 78 (by decide) (by decide)).2 (by decide)
theorem pa78 {S : mS} (h : Pm S) : okA S 78 = True := eq_true ⟨Nat.lt_of_lt_of_le (by decide) h.1, by rw [(h.2 78 (by decide) (by decide)).1]; decide⟩
theorem pi78 {S : mS} (h : Pm S) : okI S 78 = True := eq_true ⟨Nat.lt_of_lt_of_le (by decide) h.1, by rw [(h.2 78 (by decide) (by decide)).1]; decide⟩
theorem pk79 {S : mS} (h : Pm S) : ok S 79 11 = True := eq_true ⟨Nat.lt_of_lt_of_le (by decide) h.1, (h.2 79 (by decide) (by decide)).1⟩
theorem pl79 {S : mS} (h : Pm S) : S.2.2.2 79 = 7 := (h.2 79 (by decide) (by decide)).2 (by decide)
theorem pa79 {S : mS} (h : Pm S) : okA S 79 = True := eq_true ⟨Nat.lt_of_lt_of_le (by decide) h.1, by rw [(h.2 79 (by decide) (by decide)).1]; decide⟩
theorem pi79 {S : mS} (h : Pm S) : okI S 79 = True := eq_true ⟨Nat.lt_of_lt_of_le (by decide) h.1, by rw [(h.2 79 (by decide) (by decide)).1]; decide⟩
theorem pk80 {S : mS} (h : Pm S) : ok S 80 11 = True := eq_true ⟨Nat.lt_of_lt_of_le (by decide) h.1, (h.2 80 (by decide) (by decide)).1⟩
theorem pl80 {S : mS} (h : Pm S) : S.2.2.2 80 = 7 := (h.2 80 (by decide) (by decide)).2 (by decide)
theorem pa80 {S : mS} (h : Pm S) : okA S 80 = True := eq_true ⟨Nat.lt_of_lt_of_le (by decide) h.1, by rw [(h.2 80 (by decide) (by decide)).1]; decide⟩
theorem pi80 {S : mS} (h : Pm S) : okI S 80 = True := eq_true ⟨Nat.lt_of_lt_of_le (by decide) h.1, by rw [(h.2 80 (by decide) (by decide)).1]; decide⟩
theorem pk81 {S : mS} (h : Pm S) : ok S 81 11 = True := eq_true ⟨Nat.lt_of_lt_of_le (by decide) h.1, (h.2 81 (by decide) (by decide)).1⟩
theorem pl81 {S : mS} (h : Pm S) : S.2.2.2 81 = 8 := (h.2 81 (by decide) (by decide)).2 (by decide)
theorem pa81 {S : mS} (h : Pm S) : okA S 81 = True := eq_true ⟨Nat.lt_of_lt_of_le (by decide) h.1, by rw [(h.2 81 (by decide) (by decide)).1]; decide⟩
theorem pi81 {S : mS} (h : Pm S) : okI S 81 = True := eq_true ⟨Nat.lt_of_lt_of_le (by decide) h.1, by rw [(h.2 81 (by decide) (by decide)).1]; decide⟩
theorem pk82 {S : mS} (h : Pm S) : ok S 82 11 = True := eq_true ⟨Nat.lt_of_lt_of_le (by decide) h.1, (h.2 82 (by decide) (by decide)).1⟩
theorem pl82 {S : mS} (h : Pm S) : S.2.2.2 82 = 8 := (h.2 82 (by decide) (by decide)).2 (by decide)
theorem pa82 {S : mS} (h : Pm S) : okA S 82 = True := eq_true ⟨Nat.lt_of_lt_of_le (by decide) h.1, by rw [(h.2 82 (by decide) (by decide)).1]; decide⟩
theorem pi82 {S : mS} (h : Pm S) : okI S 82 = True := eq_true ⟨Nat.lt_of_lt_of_le (by decide) h.1, by rw [(h.2 82 (by decide) (by decide)).1]; decide⟩
theorem pk83 {S : mS} (h : Pm S) : ok S 83 11 = True := eq_true ⟨Nat.lt_of_lt_of_le (by decide) h.1, (h.2 83 (by decide) (by decide)).1⟩
theorem pl83 {S : mS} (h : Pm S) : S.2.2.2 83 = 3 := (h.2 83 (by decide) (by decide)).2 (by decide)
theorem pa83 {S : mS} (h : Pm S) : okA S 83 = True := eq_true ⟨Nat.lt_of_lt_of_le (by decide) h.1, by rw [(h.2 83 (by decide) (by decide)).1]; decide⟩
theorem pi83 {S : mS} (h : Pm S) : okI S 83 = True := eq_true ⟨Nat.lt_of_lt_of_le (by decide) h.1, by rw [(h.2 83 (by decide) (by decide)).1]; decide⟩
theorem pk84 {S : mS} (h : Pm S) : ok S 84 11 = True := eq_true ⟨Nat.lt_of_lt_of_le (by decide) h.1, (h.2 84 (by decide) (by decide)).1⟩
theorem pl84 {S : mS} (h : Pm S) : S.2.2.2 84 = 8 := (h.2 84 (by decide) (by decide)).2 (by decide)
theorem pa84 {S : mS} (h : Pm S) : okA S 84 = True := eq_true ⟨Nat.lt_of_lt_of_le (by decide) h.1, by rw [(h.2 84 (by decide) (by decide)).1]; decide⟩
theorem pi84 {S : mS} (h : Pm S) : okI S 84 = True := eq_true ⟨Nat.lt_of_lt_of_le (by decide) h.1, by rw [(h.2 84 (by decide) (by decide)).1]; decide⟩
theorem pr4_0 {R : mR} (h : Pr R) : R 4 0 = some 5 := h (4, 0, 5) (by decide)
theorem pr4_1 {R : mR} (h : Pr R) : R 4 1 = some 12 := h (4, 1, 12) (by decide)
theorem pr4_2 {R : mR} (h : Pr R) : R 4 2 = some 13 := h (4, 2, 13) (by decide)
theorem pr4_4 {R : mR} (h : Pr R) : R 4 4 = some 14 := h (4, 4, 14) (by decide)
theorem pr4_5 {R : mR} (h : Pr R) : R 4 5 = some 20 := h (4, 5, 20) (by decide)
theorem pr4_7 {R : mR} (h : Pr R) : R 4 7 = some 26 := h (4, 7, 26) (by decide)
theorem pr4_8 {R : mR} (h : Pr R) : R 4 8 = some 32 := h (4, 8, 32) (by decide)
theorem pr4_9 {R : mR} (h : Pr R) : R 4 9 = some 38 := h (4, 9, 38) (by decide)
theorem pr4_10 {R : mR} (h : Pr R) : R 4 10 = some 39 := h (4, 10, 39) (by decide)
theorem pr4_11 {R : mR} (h : Pr R) : R 4 11 = some 40 := h (4, 11, 40) (by decide)
theorem pr4_12 {R : mR} (h : Pr R) : R 4 12 = some 53 := h (4, 12, 53) (by decide)
theorem pr5_1 {R : mR} (h : Pr R) : R 5 1 = some 6 := h (5, 1, 6) (by decide)
theorem pr5_2 {R : mR} (h : Pr R) : R 5 2 = some 7 := h (5, 2, 7) (by decide)
theorem pr5_4 {R : mR} (h : Pr R) : R 5 4 = some 8 := h (5, 4, 8) (by decide)
theorem pr5_5 {R : mR} (h : Pr R) : R 5 5 = some 9 := h (5, 5, 9) (by decide)
theorem pr5_7 {R : mR} (h : Pr R) : R 5 7 = some 10 := h (5, 7, 10) (by decide)
theorem pr5_8 {R : mR} (h : Pr R) : R 5 8 = some 11 := h (5, 8, 11) (by decide)
theorem pr14_0 {R : mR} (h : Pr R) : R 14 0 = some 15 := h (14, 0, 15) (by decide)
theorem pr14_2 {R : mR} (h : Pr R) : R 14 2 = some 16 := h (14, 2, 16) (by decide)
theorem pr14_3 {R : mR} (h : Pr R) : R 14 3 = some 17 := h (14, 3, 17) (by decide)
theorem pr14_6 {R : mR} (h : Pr R) : R 14 6 = some 18 := h (14, 6, 18) (by decide)
theorem pr14_7 {R : mR} (h : Pr R) : R 14 7 = some 19 := h (14, 7, 19) (by decide)
theorem pr20_1 {R : mR} (h : Pr R) : R 20 1 = some 21 := h (20, 1, 21) (by decide)
theorem pr20_2 {R : mR} (h : Pr R) : R 20 2 = some 22 := h (20, 2, 22) (by decide)
theorem pr20_3 {R : mR} (h : Pr R) : R 20 3 = some 23 := h (20, 3, 23) (by decide)
theorem pr20_4 {R : mR} (h : Pr R) : R 20 4 = some 24 := h (20, 4, 24) (by decide)
theorem pr20_7 {R : mR} (h : Pr R) : R 20 7 = some 25 := h (20, 7, 25) (by decide)
theorem pr26_1 {R : mR} (h : Pr R) : R 26 1 = some 27 := h (26, 1, 27) (by decide)
theorem pr26_2 {R : mR} (h : Pr R) : R 26 2 = some 28 := h (26, 2, 28) (by decide)
theorem pr26_3 {R : mR} (h : Pr R) : R 26 3 = some 29 := h (26, 3, 29) (by decide)
theorem pr26_4 {R : mR} (h : Pr R) : R 26 4 = some 30 := h (26, 4, 30) (by decide)
theorem pr26_7 {R : mR} (h : Pr R) : R 26 7 = some 31 := h (26, 7, 31) (by decide)
theorem pr32_1 {R : mR} (h : Pr R) : R 32 1 = some 33 := h (32, 1, 33) (by decide)
theorem pr32_2 {R : mR} (h : Pr R) : R 32 2 = some 34 := h (32, 2, 34) (by decide)
theorem pr32_3 {R : mR} (h : Pr R) : R 32 3 = some 35 := h (32, 3, 35) (by decide)
theorem pr32_4 {R : mR} (h : Pr R) : R 32 4 = some 36 := h (32, 4, 36) (by decide)
theorem pr32_7 {R : mR} (h : Pr R) : R 32 7 = some 37 := h (32, 7, 37) (by decide)
theorem pr40_0 {R : mR} (h : Pr R) : R 40 0 = some 41 := h (40, 0, 41) (by decide)
theorem pr40_1 {R : mR} (h : Pr R) : R 40 1 = some 42 := h (40, 1, 42) (by decide)
theorem pr40_2 {R : mR} (h : Pr R) : R 40 2 = some 43 := h (40, 2, 43) (by decide)
theorem pr40_3 {R : mR} (h : Pr R) : R 40 3 = some 44 := h (40, 3, 44) (by decide)
theorem pr40_4 {R : mR} (h : Pr R) : R 40 4 = some 45 := h (40, 4, 45) (by decide)
theorem pr40_5 {R : mR} (h : Pr R) : R 40 5 = some 46 := h (40, 5, 46) (by decide)
theorem pr40_6 {R : mR} (h : Pr R) : R 40 6 = some 47 := h (40, 6, 47) (by decide)
theorem pr40_7 {R : mR} (h : Pr R) : R 40 7 = some 48 := h (40, 7, 48) (by decide)
theorem pr48_0 {R : mR} (h : Pr R) : R 48 0 = some 49 := h (48, 0, 49) (by decide)
theorem pr48_1 {R : mR} (h : Pr R) : R 48 1 = some 50 := h (48, 1, 50) (by decide)
theorem pr48_2 {R : mR} (h : Pr R) : R 48 2 = some 51 := h (48, 2, 51) (by decide)
theorem pr48_3 {R : mR} (h : Pr R) : R 48 3 = some 52 := h (48, 3, 52) (by decide)
theorem pr54_2 {R : mR} (h : Pr R) : R 54 2 = some 55 := h (54, 2, 55) (by decide)
theorem pr54_3 {R : mR} (h : Pr R) : R 54 3 = some 56 := h (54, 3, 56) (by decide)
theorem pr54_4 {R : mR} (h : Pr R) : R 54 4 = some 57 := h (54, 4, 57) (by decide)
theorem pr54_5 {R : mR} (h : Pr R) : R 54 5 = some 58 := h (54, 5, 58) (by decide)
theorem pr54_6 {R : mR} (h : Pr R) : R 54 6 = some 59 := h (54, 6, 59) (by decide)
theorem pr54_16 {R : mR} (h : Pr R) : R 54 16 = some 60 := h (54, 16, 60) (by decide)
theorem pr54_17 {R : mR} (h : Pr R) : R 54 17 = some 61 := h (54, 17, 61) (by decide)
theorem pr54_18 {R : mR} (h : Pr R) : R 54 18 = some 62 := h (54, 18, 62) (by decide)
theorem pr54_21 {R : mR} (h : Pr R) : R 54 21 = some 63 := h (54, 21, 63) (by decide)
theorem pr54_23 {R : mR} (h : Pr R) : R 54 23 = some 64 := h (54, 23, 64) (by decide)
theorem pr54_24 {R : mR} (h : Pr R) : R 54 24 = some 65 := h (54, 24, 65) (by decide)
theorem pr54_25 {R : mR} (h : Pr R) : R 54 25 = some 66 := h (54, 25, 66) (by decide)
theorem pr54_44 {R : mR} (h : Pr R) : R 54 44 = some 67 := h (54, 44, 67) (by decide)
theorem pr54_46 {R : mR} (h : Pr R) : R 54 46 = some 68 := h (54, 46, 68) (by decide)
theorem pr54_47 {R : mR} (h : Pr R) : R 54 47 = some 69 := h (54, 47, 69) (by decide)
theorem pr54_48 {R : mR} (h : Pr R) : R 54 48 = some 70 := h (54, 48, 70) (by decide)
theorem pr54_49 {R : mR} (h : Pr R) : R 54 49 = some 71 := h (54, 49, 71) (by decide)
theorem pr54_50 {R : mR} (h : Pr R) : R 54 50 = some 72 := h (54, 50, 72) (by decide)
theorem pr54_51 {R : mR} (h : Pr R) : R 54 51 = some 73 := h (54, 51, 73) (by decide)
theorem pr54_52 {R : mR} (h : Pr R) : R 54 52 = some 74 := h (54, 52, 74) (by decide)
theorem pr54_53 {R : mR} (h : Pr R) : R 54 53 = some 75 := h (54, 53, 75) (by decide)
theorem pr54_54 {R : mR} (h : Pr R) : R 54 54 = some 76 := h (54, 54, 76) (by decide)
theorem pr54_55 {R : mR} (h : Pr R) : R 54 55 = some 77 := h (54, 55, 77) (by decide)
theorem pr54_57 {R : mR} (h : Pr R) : R 54 57 = some 78 := h (54, 57, 78) (by decide)
theorem pr54_61 {R : mR} (h : Pr R) : R 54 61 = some 79 := h (54, 61, 79) (by decide)
theorem pr54_62 {R : mR} (h : Pr R) : R 54 62 = some 80 := h (54, 62, 80) (by decide)
theorem pr54_63 {R : mR} (h : Pr R) : R 54 63 = some 81 := h (54, 63, 81) (by decide)
theorem pr54_64 {R : mR} (h : Pr R) : R 54 64 = some 82 := h (54, 64, 82) (by decide)
theorem pr54_65 {R : mR} (h : Pr R) : R 54 65 = some 83 := h (54, 65, 83) (by decide)
theorem pr54_66 {R : mR} (h : Pr R) : R 54 66 = some 84 := h (54, 66, 84) (by decide)
theorem rfs (a : Nat) : va_rf (some a) = .ref a := rfl
theorem rfn : va_rf none = .null := rfl
theorem cs0 : cs [] = 0 := rfl
theorem csi (x : Int32) (l : List Value) : cs (.int x :: l) = 1 + cs l := rfl
theorem csl (x : Int64) (l : List Value) : cs (.long x :: l) = 2 + cs l := rfl
theorem csr (x : Nat) (l : List Value) : cs (.ref x :: l) = 1 + cs l := rfl
theorem csn (l : List Value) : cs (.null :: l) = 1 + cs l := rfl
theorem cti (x : Int32) : (Value.int x).category = 1 := rfl
theorem ctl (x : Int64) : (Value.long x).category = 2 := rfl
theorem ctr (x : Nat) : (Value.ref x).category = 1 := rfl
theorem ctn : Value.null.category = 1 := rfl
theorem ctv : nv.category = 1 := rfl
theorem uu_s {α : Type} (f : Nat → α) (k : Nat) (v : α) : va_up f k v k = v := if_pos rfl
theorem uu_n {α : Type} (f : Nat → α) {k j : Nat} (v : α) (h : j ≠ k) : va_up f k v j = f j := if_neg h
theorem uu_u {α : Type} (f : Nat → α) (k : Nat) (v w : α) : va_up (va_up f k v) k w = va_up f k w := by funext j; by_cases h : j = k <;> simp [va_up, h]
theorem cmp_lt (x y : Int64) : (lg_cmp x y < 0) = (x < y) := propext (lg_cmp_lt x y)
theorem cmp_gt (x y : Int64) : (0 < lg_cmp x y) = (y < x) := propext (lg_cmp_gt x y)
theorem cmp_eq (x y : Int64) : (lg_cmp x y = 0) = (x = y) := propext (lg_cmp_eq x y)
