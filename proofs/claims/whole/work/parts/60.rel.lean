/-! ===== what never changes: the kinds of the first 71 places, and what refers to what ===== -/
def hwKd : List (Nat × Nat) := [(8, 19), (0, 16), (1, 1), (10, 29), (10, 16), (10, 16), (10, 16), (10, 16), (10, 8), (10, 8), (10, 6), (10, 6), (14, 6), (7, 2), (5, 2), (11, 51), (10, 15), (2, 3), (10, 8), (4, 8), (10, 401), (10, 401), (10, 401), (6, 7), (10, 401), (10, 401), (10, 12), (10, 12), (10, 48), (13, 2), (3, 4), (10, 464), (10, 16), (3, 4), (10, 464), (10, 16), (1, 1), (10, 29), (1, 1), (10, 29), (1, 1), (10, 29), (10, 400), (10, 3), (10, 6), (9, 54), (10, 7), (10, 5530), (10, 11060), (12, 2), (10, 558), (10, 16), (10, 496), (10, 16), (10, 400), (10, 96), (10, 400), (10, 400), (10, 400), (10, 400), (11, 10), (11, 6), (11, 4), (11, 13), (11, 13), (11, 400), (12, 16), (10, 8), (11, 4), (10, 120), (10, 31)]
def hwRf : List (Nat × Nat × Nat) := [(0, 0, 1), (0, 1, 13), (0, 2, 17), (0, 3, 19), (0, 4, 29), (0, 5, 30), (0, 6, 33), (0, 7, 36), (0, 8, 38), (0, 9, 40), (0, 11, 42), (0, 16, 43), (0, 17, 44), (1, 0, 2), (1, 1, 4), (1, 2, 5), (1, 3, 6), (1, 4, 7), (1, 5, 8), (1, 6, 9), (1, 8, 10), (1, 9, 11), (1, 13, 12), (2, 0, 3), (13, 0, 1), (13, 1, 14), (14, 0, 15), (14, 1, 16), (17, 0, 1), (17, 1, 13), (17, 2, 18), (19, 0, 20), (19, 1, 21), (19, 2, 22), (19, 7, 23), (23, 0, 24), (23, 1, 25), (23, 3, 26), (23, 4, 27), (23, 5, 28), (30, 0, 31), (30, 1, 32), (33, 0, 34), (33, 1, 35), (36, 0, 37), (38, 0, 39), (40, 0, 41), (45, 2, 46), (45, 3, 47), (45, 4, 48), (45, 5, 49), (45, 6, 50), (45, 7, 51), (45, 9, 52), (45, 10, 53), (45, 12, 54), (45, 22, 55), (45, 24, 56), (45, 25, 57), (45, 27, 58), (45, 28, 59), (45, 31, 60), (45, 32, 61), (45, 33, 62), (45, 35, 63), (45, 36, 64), (45, 37, 65), (45, 41, 66), (45, 42, 67), (45, 45, 68), (45, 46, 69), (45, 52, 70)]
def cs60 : List Int64 := [631941, 116807086, 402885, 13486, 212147, 660095385, 676774066, 632046, 4153, 441828]
def cs61 : List Int64 := [4153, 146885, 404362868, 402885, 660095385, 676774066]
def cs62 : List Int64 := [19039379, 3657363, 6460563, 67155]
def cs68 : List Int64 := [55182443, 20194516, 631287, 525939]
/-- how many places, and the four rows of words that nothing changes -/
def mQ (u : Mm) : Nat × (Nat → Int64) × (Nat → Int64) × (Nat → Int64) × (Nat → Int64) := (mN u, mL u 60, mL u 61, mL u 62, mL u 68)
def hSh (u : Mm) : Prop := 71 ≤ (mQ u).1 ∧ (∀ i, i < 71 → mK u i = hwKd.getD i (0, 0)) ∧ (∀ q ∈ hwRf, mR u q.1 q.2.1 = some q.2.2) ∧ (∀ j, j < 10 → (mQ u).2.1 j = cs60.getD j 0) ∧ (∀ j, j < 6 → (mQ u).2.2.1 j = cs61.getD j 0) ∧ (∀ j, j < 4 → (mQ u).2.2.2.1 j = cs62.getD j 0) ∧ (∀ j, j < 4 → (mQ u).2.2.2.2 j = cs68.getD j 0)
theorem sh0 {u : Mm} (h : hSh u) : mK u 0 = (8, 19) := h.2.1 0 (by decide)
theorem sh1 {u : Mm} (h : hSh u) : mK u 1 = (0, 16) := h.2.1 1 (by decide)
theorem sh2 {u : Mm} (h : hSh u) : mK u 2 = (1, 1) := h.2.1 2 (by decide)
theorem sh3 {u : Mm} (h : hSh u) : mK u 3 = (10, 29) := h.2.1 3 (by decide)
theorem sh4 {u : Mm} (h : hSh u) : mK u 4 = (10, 16) := h.2.1 4 (by decide)
theorem sh5 {u : Mm} (h : hSh u) : mK u 5 = (10, 16) := h.2.1 5 (by decide)
theorem sh6 {u : Mm} (h : hSh u) : mK u 6 = (10, 16) := h.2.1 6 (by decide)
theorem sh7 {u : Mm} (h : hSh u) : mK u 7 = (10, 16) := h.2.1 7 (by decide)
theorem sh8 {u : Mm} (h : hSh u) : mK u 8 = (10, 8) := h.2.1 8 (by decide)
theorem sh9 {u : Mm} (h : hSh u) : mK u 9 = (10, 8) := h.2.1 9 (by decide)
theorem sh10 {u : Mm} (h : hSh u) : mK u 10 = (10, 6) := h.2.1 10 (by decide)
theorem sh11 {u : Mm} (h : hSh u) : mK u 11 = (10, 6) := h.2.1 11 (by decide)
theorem sh12 {u : Mm} (h : hSh u) : mK u 12 = (14, 6) := h.2.1 12 (by decide)
theorem sh13 {u : Mm} (h : hSh u) : mK u 13 = (7, 2) := h.2.1 13 (by decide)
theorem sh14 {u : Mm} (h : hSh u) : mK u 14 = (5, 2) := h.2.1 14 (by decide)
theorem sh15 {u : Mm} (h : hSh u) : mK u 15 = (11, 51) := h.2.1 15 (by decide)
theorem sh16 {u : Mm} (h : hSh u) : mK u 16 = (10, 15) := h.2.1 16 (by decide)
theorem sh17 {u : Mm} (h : hSh u) : mK u 17 = (2, 3) := h.2.1 17 (by decide)
theorem sh18 {u : Mm} (h : hSh u) : mK u 18 = (10, 8) := h.2.1 18 (by decide)
theorem sh19 {u : Mm} (h : hSh u) : mK u 19 = (4, 8) := h.2.1 19 (by decide)
theorem sh20 {u : Mm} (h : hSh u) : mK u 20 = (10, 401) := h.2.1 20 (by decide)
theorem sh21 {u : Mm} (h : hSh u) : mK u 21 = (10, 401) := h.2.1 21 (by decide)
theorem sh22 {u : Mm} (h : hSh u) : mK u 22 = (10, 401) := h.2.1 22 (by decide)
theorem sh23 {u : Mm} (h : hSh u) : mK u 23 = (6, 7) := h.2.1 23 (by decide)
theorem sh24 {u : Mm} (h : hSh u) : mK u 24 = (10, 401) := h.2.1 24 (by decide)
theorem sh25 {u : Mm} (h : hSh u) : mK u 25 = (10, 401) := h.2.1 25 (by decide)
theorem sh26 {u : Mm} (h : hSh u) : mK u 26 = (10, 12) := h.2.1 26 (by decide)
theorem sh27 {u : Mm} (h : hSh u) : mK u 27 = (10, 12) := h.2.1 27 (by decide)
theorem sh28 {u : Mm} (h : hSh u) : mK u 28 = (10, 48) := h.2.1 28 (by decide)
theorem sh29 {u : Mm} (h : hSh u) : mK u 29 = (13, 2) := h.2.1 29 (by decide)
theorem sh30 {u : Mm} (h : hSh u) : mK u 30 = (3, 4) := h.2.1 30 (by decide)
theorem sh31 {u : Mm} (h : hSh u) : mK u 31 = (10, 464) := h.2.1 31 (by decide)
theorem sh32 {u : Mm} (h : hSh u) : mK u 32 = (10, 16) := h.2.1 32 (by decide)
theorem sh33 {u : Mm} (h : hSh u) : mK u 33 = (3, 4) := h.2.1 33 (by decide)
theorem sh34 {u : Mm} (h : hSh u) : mK u 34 = (10, 464) := h.2.1 34 (by decide)
theorem sh35 {u : Mm} (h : hSh u) : mK u 35 = (10, 16) := h.2.1 35 (by decide)
theorem sh36 {u : Mm} (h : hSh u) : mK u 36 = (1, 1) := h.2.1 36 (by decide)
theorem sh37 {u : Mm} (h : hSh u) : mK u 37 = (10, 29) := h.2.1 37 (by decide)
theorem sh38 {u : Mm} (h : hSh u) : mK u 38 = (1, 1) := h.2.1 38 (by decide)
theorem sh39 {u : Mm} (h : hSh u) : mK u 39 = (10, 29) := h.2.1 39 (by decide)
theorem sh40 {u : Mm} (h : hSh u) : mK u 40 = (1, 1) := h.2.1 40 (by decide)
theorem sh41 {u : Mm} (h : hSh u) : mK u 41 = (10, 29) := h.2.1 41 (by decide)
theorem sh42 {u : Mm} (h : hSh u) : mK u 42 = (10, 400) := h.2.1 42 (by decide)
theorem sh43 {u : Mm} (h : hSh u) : mK u 43 = (10, 3) := h.2.1 43 (by decide)
theorem sh44 {u : Mm} (h : hSh u) : mK u 44 = (10, 6) := h.2.1 44 (by decide)
theorem sh45 {u : Mm} (h : hSh u) : mK u 45 = (9, 54) := h.2.1 45 (by decide)
theorem sh46 {u : Mm} (h : hSh u) : mK u 46 = (10, 7) := h.2.1 46 (by decide)
theorem sh47 {u : Mm} (h : hSh u) : mK u 47 = (10, 5530) := h.2.1 47 (by decide)
theorem sh48 {u : Mm} (h : hSh u) : mK u 48 = (10, 11060) := h.2.1 48 (by decide)
theorem sh49 {u : Mm} (h : hSh u) : mK u 49 = (12, 2) := h.2.1 49 (by decide)
theorem sh50 {u : Mm} (h : hSh u) : mK u 50 = (10, 558) := h.2.1 50 (by decide)
theorem sh51 {u : Mm} (h : hSh u) : mK u 51 = (10, 16) := h.2.1 51 (by decide)
theorem sh52 {u : Mm} (h : hSh u) : mK u 52 = (10, 496) := h.2.1 52 (by decide)
theorem sh53 {u : Mm} (h : hSh u) : mK u 53 = (10, 16) := h.2.1 53 (by decide)
theorem sh54 {u : Mm} (h : hSh u) : mK u 54 = (10, 400) := h.2.1 54 (by decide)
theorem sh55 {u : Mm} (h : hSh u) : mK u 55 = (10, 96) := h.2.1 55 (by decide)
theorem sh56 {u : Mm} (h : hSh u) : mK u 56 = (10, 400) := h.2.1 56 (by decide)
theorem sh57 {u : Mm} (h : hSh u) : mK u 57 = (10, 400) := h.2.1 57 (by decide)
theorem sh58 {u : Mm} (h : hSh u) : mK u 58 = (10, 400) := h.2.1 58 (by decide)
theorem sh59 {u : Mm} (h : hSh u) : mK u 59 = (10, 400) := h.2.1 59 (by decide)
theorem sh60 {u : Mm} (h : hSh u) : mK u 60 = (11, 10) := h.2.1 60 (by decide)
theorem sh61 {u : Mm} (h : hSh u) : mK u 61 = (11, 6) := h.2.1 61 (by decide)
theorem sh62 {u : Mm} (h : hSh u) : mK u 62 = (11, 4) := h.2.1 62 (by decide)
theorem sh63 {u : Mm} (h : hSh u) : mK u 63 = (11, 13) := h.2.1 63 (by decide)
theorem sh64 {u : Mm} (h : hSh u) : mK u 64 = (11, 13) := h.2.1 64 (by decide)
theorem sh65 {u : Mm} (h : hSh u) : mK u 65 = (11, 400) := h.2.1 65 (by decide)
theorem sh66 {u : Mm} (h : hSh u) : mK u 66 = (12, 16) := h.2.1 66 (by decide)
theorem sh67 {u : Mm} (h : hSh u) : mK u 67 = (10, 8) := h.2.1 67 (by decide)
theorem sh68 {u : Mm} (h : hSh u) : mK u 68 = (11, 4) := h.2.1 68 (by decide)
theorem sh69 {u : Mm} (h : hSh u) : mK u 69 = (10, 120) := h.2.1 69 (by decide)
theorem sh70 {u : Mm} (h : hSh u) : mK u 70 = (10, 31) := h.2.1 70 (by decide)
theorem rf0_0 {u : Mm} (h : hSh u) : mR u 0 0 = some 1 := h.2.2.1 (0, 0, 1) (by decide +kernel)
theorem rf0_1 {u : Mm} (h : hSh u) : mR u 0 1 = some 13 := h.2.2.1 (0, 1, 13) (by decide +kernel)
theorem rf0_2 {u : Mm} (h : hSh u) : mR u 0 2 = some 17 := h.2.2.1 (0, 2, 17) (by decide +kernel)
theorem rf0_3 {u : Mm} (h : hSh u) : mR u 0 3 = some 19 := h.2.2.1 (0, 3, 19) (by decide +kernel)
theorem rf0_4 {u : Mm} (h : hSh u) : mR u 0 4 = some 29 := h.2.2.1 (0, 4, 29) (by decide +kernel)
theorem rf0_5 {u : Mm} (h : hSh u) : mR u 0 5 = some 30 := h.2.2.1 (0, 5, 30) (by decide +kernel)
theorem rf0_6 {u : Mm} (h : hSh u) : mR u 0 6 = some 33 := h.2.2.1 (0, 6, 33) (by decide +kernel)
theorem rf0_7 {u : Mm} (h : hSh u) : mR u 0 7 = some 36 := h.2.2.1 (0, 7, 36) (by decide +kernel)
theorem rf0_8 {u : Mm} (h : hSh u) : mR u 0 8 = some 38 := h.2.2.1 (0, 8, 38) (by decide +kernel)
theorem rf0_9 {u : Mm} (h : hSh u) : mR u 0 9 = some 40 := h.2.2.1 (0, 9, 40) (by decide +kernel)
theorem rf0_11 {u : Mm} (h : hSh u) : mR u 0 11 = some 42 := h.2.2.1 (0, 11, 42) (by decide +kernel)
theorem rf0_16 {u : Mm} (h : hSh u) : mR u 0 16 = some 43 := h.2.2.1 (0, 16, 43) (by decide +kernel)
theorem rf0_17 {u : Mm} (h : hSh u) : mR u 0 17 = some 44 := h.2.2.1 (0, 17, 44) (by decide +kernel)
theorem rf1_0 {u : Mm} (h : hSh u) : mR u 1 0 = some 2 := h.2.2.1 (1, 0, 2) (by decide +kernel)
theorem rf1_1 {u : Mm} (h : hSh u) : mR u 1 1 = some 4 := h.2.2.1 (1, 1, 4) (by decide +kernel)
theorem rf1_2 {u : Mm} (h : hSh u) : mR u 1 2 = some 5 := h.2.2.1 (1, 2, 5) (by decide +kernel)
theorem rf1_3 {u : Mm} (h : hSh u) : mR u 1 3 = some 6 := h.2.2.1 (1, 3, 6) (by decide +kernel)
theorem rf1_4 {u : Mm} (h : hSh u) : mR u 1 4 = some 7 := h.2.2.1 (1, 4, 7) (by decide +kernel)
theorem rf1_5 {u : Mm} (h : hSh u) : mR u 1 5 = some 8 := h.2.2.1 (1, 5, 8) (by decide +kernel)
theorem rf1_6 {u : Mm} (h : hSh u) : mR u 1 6 = some 9 := h.2.2.1 (1, 6, 9) (by decide +kernel)
theorem rf1_8 {u : Mm} (h : hSh u) : mR u 1 8 = some 10 := h.2.2.1 (1, 8, 10) (by decide +kernel)
theorem rf1_9 {u : Mm} (h : hSh u) : mR u 1 9 = some 11 := h.2.2.1 (1, 9, 11) (by decide +kernel)
theorem rf1_13 {u : Mm} (h : hSh u) : mR u 1 13 = some 12 := h.2.2.1 (1, 13, 12) (by decide +kernel)
theorem rf2_0 {u : Mm} (h : hSh u) : mR u 2 0 = some 3 := h.2.2.1 (2, 0, 3) (by decide +kernel)
theorem rf13_0 {u : Mm} (h : hSh u) : mR u 13 0 = some 1 := h.2.2.1 (13, 0, 1) (by decide +kernel)
theorem rf13_1 {u : Mm} (h : hSh u) : mR u 13 1 = some 14 := h.2.2.1 (13, 1, 14) (by decide +kernel)
theorem rf14_0 {u : Mm} (h : hSh u) : mR u 14 0 = some 15 := h.2.2.1 (14, 0, 15) (by decide +kernel)
theorem rf14_1 {u : Mm} (h : hSh u) : mR u 14 1 = some 16 := h.2.2.1 (14, 1, 16) (by decide +kernel)
theorem rf17_0 {u : Mm} (h : hSh u) : mR u 17 0 = some 1 := h.2.2.1 (17, 0, 1) (by decide +kernel)
theorem rf17_1 {u : Mm} (h : hSh u) : mR u 17 1 = some 13 := h.2.2.1 (17, 1, 13) (by decide +kernel)
theorem rf17_2 {u : Mm} (h : hSh u) : mR u 17 2 = some 18 := h.2.2.1 (17, 2, 18) (by decide +kernel)
theorem rf19_0 {u : Mm} (h : hSh u) : mR u 19 0 = some 20 := h.2.2.1 (19, 0, 20) (by decide +kernel)
theorem rf19_1 {u : Mm} (h : hSh u) : mR u 19 1 = some 21 := h.2.2.1 (19, 1, 21) (by decide +kernel)
theorem rf19_2 {u : Mm} (h : hSh u) : mR u 19 2 = some 22 := h.2.2.1 (19, 2, 22) (by decide +kernel)
theorem rf19_7 {u : Mm} (h : hSh u) : mR u 19 7 = some 23 := h.2.2.1 (19, 7, 23) (by decide +kernel)
theorem rf23_0 {u : Mm} (h : hSh u) : mR u 23 0 = some 24 := h.2.2.1 (23, 0, 24) (by decide +kernel)
theorem rf23_1 {u : Mm} (h : hSh u) : mR u 23 1 = some 25 := h.2.2.1 (23, 1, 25) (by decide +kernel)
theorem rf23_3 {u : Mm} (h : hSh u) : mR u 23 3 = some 26 := h.2.2.1 (23, 3, 26) (by decide +kernel)
theorem rf23_4 {u : Mm} (h : hSh u) : mR u 23 4 = some 27 := h.2.2.1 (23, 4, 27) (by decide +kernel)
theorem rf23_5 {u : Mm} (h : hSh u) : mR u 23 5 = some 28 := h.2.2.1 (23, 5, 28) (by decide +kernel)
theorem rf30_0 {u : Mm} (h : hSh u) : mR u 30 0 = some 31 := h.2.2.1 (30, 0, 31) (by decide +kernel)
theorem rf30_1 {u : Mm} (h : hSh u) : mR u 30 1 = some 32 := h.2.2.1 (30, 1, 32) (by decide +kernel)
theorem rf33_0 {u : Mm} (h : hSh u) : mR u 33 0 = some 34 := h.2.2.1 (33, 0, 34) (by decide +kernel)
theorem rf33_1 {u : Mm} (h : hSh u) : mR u 33 1 = some 35 := h.2.2.1 (33, 1, 35) (by decide +kernel)
theorem rf36_0 {u : Mm} (h : hSh u) : mR u 36 0 = some 37 := h.2.2.1 (36, 0, 37) (by decide +kernel)
theorem rf38_0 {u : Mm} (h : hSh u) : mR u 38 0 = some 39 := h.2.2.1 (38, 0, 39) (by decide +kernel)
theorem rf40_0 {u : Mm} (h : hSh u) : mR u 40 0 = some 41 := h.2.2.1 (40, 0, 41) (by decide +kernel)
theorem rf45_2 {u : Mm} (h : hSh u) : mR u 45 2 = some 46 := h.2.2.1 (45, 2, 46) (by decide +kernel)
theorem rf45_3 {u : Mm} (h : hSh u) : mR u 45 3 = some 47 := h.2.2.1 (45, 3, 47) (by decide +kernel)
theorem rf45_4 {u : Mm} (h : hSh u) : mR u 45 4 = some 48 := h.2.2.1 (45, 4, 48) (by decide +kernel)
theorem rf45_5 {u : Mm} (h : hSh u) : mR u 45 5 = some 49 := h.2.2.1 (45, 5, 49) (by decide +kernel)
theorem rf45_6 {u : Mm} (h : hSh u) : mR u 45 6 = some 50 := h.2.2.1 (45, 6, 50) (by decide +kernel)
theorem rf45_7 {u : Mm} (h : hSh u) : mR u 45 7 = some 51 := h.2.2.1 (45, 7, 51) (by decide +kernel)
theorem rf45_9 {u : Mm} (h : hSh u) : mR u 45 9 = some 52 := h.2.2.1 (45, 9, 52) (by decide +kernel)
theorem rf45_10 {u : Mm} (h : hSh u) : mR u 45 10 = some 53 := h.2.2.1 (45, 10, 53) (by decide +kernel)
theorem rf45_12 {u : Mm} (h : hSh u) : mR u 45 12 = some 54 := h.2.2.1 (45, 12, 54) (by decide +kernel)
theorem rf45_22 {u : Mm} (h : hSh u) : mR u 45 22 = some 55 := h.2.2.1 (45, 22, 55) (by decide +kernel)
theorem rf45_24 {u : Mm} (h : hSh u) : mR u 45 24 = some 56 := h.2.2.1 (45, 24, 56) (by decide +kernel)
theorem rf45_25 {u : Mm} (h : hSh u) : mR u 45 25 = some 57 := h.2.2.1 (45, 25, 57) (by decide +kernel)
theorem rf45_27 {u : Mm} (h : hSh u) : mR u 45 27 = some 58 := h.2.2.1 (45, 27, 58) (by decide +kernel)
theorem rf45_28 {u : Mm} (h : hSh u) : mR u 45 28 = some 59 := h.2.2.1 (45, 28, 59) (by decide +kernel)
theorem rf45_31 {u : Mm} (h : hSh u) : mR u 45 31 = some 60 := h.2.2.1 (45, 31, 60) (by decide +kernel)
theorem rf45_32 {u : Mm} (h : hSh u) : mR u 45 32 = some 61 := h.2.2.1 (45, 32, 61) (by decide +kernel)
theorem rf45_33 {u : Mm} (h : hSh u) : mR u 45 33 = some 62 := h.2.2.1 (45, 33, 62) (by decide +kernel)
theorem rf45_35 {u : Mm} (h : hSh u) : mR u 45 35 = some 63 := h.2.2.1 (45, 35, 63) (by decide +kernel)
theorem rf45_36 {u : Mm} (h : hSh u) : mR u 45 36 = some 64 := h.2.2.1 (45, 36, 64) (by decide +kernel)
theorem rf45_37 {u : Mm} (h : hSh u) : mR u 45 37 = some 65 := h.2.2.1 (45, 37, 65) (by decide +kernel)
theorem rf45_41 {u : Mm} (h : hSh u) : mR u 45 41 = some 66 := h.2.2.1 (45, 41, 66) (by decide +kernel)
theorem rf45_42 {u : Mm} (h : hSh u) : mR u 45 42 = some 67 := h.2.2.1 (45, 42, 67) (by decide +kernel)
theorem rf45_45 {u : Mm} (h : hSh u) : mR u 45 45 = some 68 := h.2.2.1 (45, 45, 68) (by decide +kernel)
theorem rf45_46 {u : Mm} (h : hSh u) : mR u 45 46 = some 69 := h.2.2.1 (45, 46, 69) (by decide +kernel)
theorem rf45_52 {u : Mm} (h : hSh u) : mR u 45 52 = some 70 := h.2.2.1 (45, 52, 70) (by decide +kernel)
theorem hSh_wI {u : Mm} {a : Nat} {f : Nat → Int32} (h : hSh u) : hSh (wI u a f) := h
theorem cw60 {u : Mm} (h : hSh u) {j : Nat} (hj : j < 10) : mL u 60 j = cs60.getD j 0 := h.2.2.2.1 j hj
theorem cw61 {u : Mm} (h : hSh u) {j : Nat} (hj : j < 6) : mL u 61 j = cs61.getD j 0 := h.2.2.2.2.1 j hj
theorem cw62 {u : Mm} (h : hSh u) {j : Nat} (hj : j < 4) : mL u 62 j = cs62.getD j 0 := h.2.2.2.2.2.1 j hj
theorem cw68 {u : Mm} (h : hSh u) {j : Nat} (hj : j < 4) : mL u 68 j = cs68.getD j 0 := h.2.2.2.2.2.2 j hj
section PUR
variable {ρ : Type} {X : Option ρ} {u : Mm}
theorem oK_of {o ci N : Nat} (h : mK u o = (ci, N)) : oK u o ci N X = X := if_pos h
theorem oR_of {o ci N : Nat} (h : mK u o = (ci, N)) : oR u o ci X = X := by unfold oR; rw [h]; exact if_pos rfl
theorem oNn_of {a : Nat} {F : Nat → Option ρ} : oNn (some a) F = F a := rfl
theorem oI_of {x : Int32} {F : Int32 → Option ρ} : oI x F = F x := rfl
theorem oJ_of {x : Int64} {F : Int64 → Option ρ} : oJ x F = F x := rfl
theorem oU_of {F : Mm → Option ρ} : oU u F = F u := rfl
theorem oP_of {x : Nat} {F : Nat → Option ρ} : oP x F = F x := rfl
theorem oB_of {α : Type} {a : α} {m : Mm} {F : α → Mm → Option ρ} : oB (some (a, m)) F = F a m := rfl
theorem oZ0 : oZ 0 X = X := if_pos (Or.inl rfl)
theorem oZ1 : oZ 1 X = X := if_pos (Or.inr rfl)
theorem oA_of {a k n : Nat} {i : Int32} (h : mK u a = (k, n)) (h0 : 0 ≤ i) (h1 : i.toNatClampNeg < n) : oA u a k i X = X := by unfold oA; rw [h]; exact if_pos ⟨rfl, h0, h1⟩
end PUR
/-- each call's own scratch: a test -/
theorem t_test {u : Mm} (h : hSh u) : fX8_strokes u 0 = some (mI u 0 14, u) := by
  simp only [fX8_strokes, oK_of (sh0 h), oI_of]
theorem t_test2 {u : Mm} (h : hSh u) : fX9_strokes u 45 = some (mI u 45 11, wI u 45 (upd (mI u 45) 0 0)) := by
  simp only [fX9_strokes, oK_of (sh45 h), oI_of, oU_of, oK_of (sh45 (hSh_wI h)), mI_wI, if_true]
  rfl
theorem t_test3 {u : Mm} (h : hSh u) (x : Int32) : fX8_isSide u x = some (if 0 ≤ x ∧ x ≤ 1 then 1 else 0, u) := by
  unfold fX8_isSide fX8_within bX8_within_15
  by_cases h1 : x < 0
  · have h2 : ¬ (0 ≤ x ∧ x ≤ 1) := fun q => absurd q.1 (Int32.not_le.mpr h1)
    simp only [h1, h2, if_true, if_false, oZ0, oB_of]
  · have h3 : 0 ≤ x := Int32.not_lt.mp h1
    by_cases h4 : 1 < x
    · have h2 : ¬ (0 ≤ x ∧ x ≤ 1) := fun q => absurd q.2 (Int32.not_le.mpr h4)
      simp only [h1, h4, h2, if_true, if_false, oZ0, oB_of]
    · have h2 : 0 ≤ x ∧ x ≤ 1 := ⟨h3, Int32.not_lt.mp h4⟩
      simp only [h1, h4, h2, and_self, if_true, if_false, oZ1, oB_of]
