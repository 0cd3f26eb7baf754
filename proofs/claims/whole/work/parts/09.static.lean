def K0 : List Nat := [9, 7, 12, 3, 12, 12, 12, 12, 12, 12, 12, 12, 5, 12, 12, 12, 8, 3, 12, 12, 12, 12, 12, 12, 12, 12, 1, 12, 12, 12, 12, 12, 12, 6, 12, 6, 12, 5, 12, 12, 12, 2, 15, 16, 0, 12, 12, 12, 12, 12, 12, 12, 12, 4, 12, 12, 12, 10, 12, 12, 12, 12, 12, 13, 13, 13, 14, 12, 12, 12, 12, 12, 12, 12, 12, 12, 12, 12, 12, 12, 13]
def L0 : List Nat := [0, 0, 740, 0, 8, 8, 8, 4, 4, 4, 64, 4, 0, 40, 40, 40, 0, 0, 8, 8, 8, 4, 4, 4, 64, 4, 0, 40, 40, 40, 40, 360, 360, 0, 3000, 0, 3500, 0, 40, 40, 40, 0, 6, 2, 0, 12, 12, 72, 12, 12, 12, 12, 40, 0, 9, 9, 9, 0, 740, 8140, 108, 16280, 47400, 12, 12, 24, 2, 40, 12, 72, 26013, 40, 12, 9, 9, 9, 9, 9, 9, 240, 1]
def R0 : List (List Nat) := [[1, 0, 3, 12, 16, 41, 43, 44, 52, 53], [2], [], [0, 0, 0, 0, 4, 5, 6, 7, 8, 9, 10, 11], [], [], [], [], [], [], [], [], [0, 0, 13, 14, 15], [], [], [], [17, 26, 33, 35, 37], [0, 0, 0, 0, 18, 19, 20, 21, 22, 23, 24, 25], [], [], [], [], [], [], [], [], [0, 0, 0, 0, 0, 0, 0, 0, 0, 27, 28, 29, 30, 31, 32], [], [], [], [], [], [], [0, 34], [], [0, 36], [], [0, 0, 38, 39, 40], [], [], [], [42], [], [], [0, 45, 46, 47, 0, 48, 49, 50, 51], [], [], [], [], [], [], [], [], [0, 54, 55, 56], [], [], [], [0, 58, 0, 0, 0, 0, 0, 0, 0, 0, 0, 0, 0, 0, 59, 60, 61, 62, 63, 64, 65, 66, 0, 0, 0, 67, 68, 69, 70, 71, 72, 0, 0, 73, 74, 75, 76, 77, 78, 0, 0, 0, 79], [], [], [], [], [], [], [], [], [], [], [], [], [], [], [], [], [], [], [], [], [], [], []]
/-- the cells of both objects, behind their constructors (a reference 0 in R0: none there, or one that changes) -/
def St (sh : Sh) : Prop := 81 ≤ sh.1 ∧ (∀ i, i < 81 → sh.2.1 i = K0.getD i 0) ∧ (∀ i, i < 81 → sh.2.2.1 i = L0.getD i 0) ∧ ∀ i j, i < 81 → ((R0.getD i []).getD j 0) ≠ 0 → sh.2.2.2 i j = some ((R0.getD i []).getD j 0)
theorem kd_0 {sh : Sh} {I : Mi} {J : Mj} (h : St sh) : Kd (sh, I, J) 0 9 := ⟨Nat.lt_of_lt_of_le (by decide) h.1, (h.2.1 0 (by decide)).trans rfl⟩
theorem kd_1 {sh : Sh} {I : Mi} {J : Mj} (h : St sh) : Kd (sh, I, J) 1 7 := ⟨Nat.lt_of_lt_of_le (by decide) h.1, (h.2.1 1 (by decide)).trans rfl⟩
theorem ka_2 {sh : Sh} (h : St sh) : Ka sh 2 12 740 := ⟨Nat.lt_of_lt_of_le (by decide) h.1, (h.2.1 2 (by decide)).trans rfl, (h.2.2.1 2 (by decide)).trans rfl, by decide⟩
theorem kd_3 {sh : Sh} {I : Mi} {J : Mj} (h : St sh) : Kd (sh, I, J) 3 3 := ⟨Nat.lt_of_lt_of_le (by decide) h.1, (h.2.1 3 (by decide)).trans rfl⟩
theorem ka_4 {sh : Sh} (h : St sh) : Ka sh 4 12 8 := ⟨Nat.lt_of_lt_of_le (by decide) h.1, (h.2.1 4 (by decide)).trans rfl, (h.2.2.1 4 (by decide)).trans rfl, by decide⟩
theorem ka_5 {sh : Sh} (h : St sh) : Ka sh 5 12 8 := ⟨Nat.lt_of_lt_of_le (by decide) h.1, (h.2.1 5 (by decide)).trans rfl, (h.2.2.1 5 (by decide)).trans rfl, by decide⟩
theorem ka_6 {sh : Sh} (h : St sh) : Ka sh 6 12 8 := ⟨Nat.lt_of_lt_of_le (by decide) h.1, (h.2.1 6 (by decide)).trans rfl, (h.2.2.1 6 (by decide)).trans rfl, by decide⟩
theorem ka_7 {sh : Sh} (h : St sh) : Ka sh 7 12 4 := ⟨Nat.lt_of_lt_of_le (by decide) h.1, (h.2.1 7 (by decide)).trans rfl, (h.2.2.1 7 (by decide)).trans rfl, by decide⟩
theorem ka_8 {sh : Sh} (h : St sh) : Ka sh 8 12 4 := ⟨Nat.lt_of_lt_of_le (by decide) h.1, (h.2.1 8 (by decide)).trans rfl, (h.2.2.1 8 (by decide)).trans rfl, by decide⟩
theorem ka_9 {sh : Sh} (h : St sh) : Ka sh 9 12 4 := ⟨Nat.lt_of_lt_of_le (by decide) h.1, (h.2.1 9 (by decide)).trans rfl, (h.2.2.1 9 (by decide)).trans rfl, by decide⟩
theorem ka_10 {sh : Sh} (h : St sh) : Ka sh 10 12 64 := ⟨Nat.lt_of_lt_of_le (by decide) h.1, (h.2.1 10 (by decide)).trans rfl, (h.2.2.1 10 (by decide)).trans rfl, by decide⟩
theorem ka_11 {sh : Sh} (h : St sh) : Ka sh 11 12 4 := ⟨Nat.lt_of_lt_of_le (by decide) h.1, (h.2.1 11 (by decide)).trans rfl, (h.2.2.1 11 (by decide)).trans rfl, by decide⟩
theorem kd_12 {sh : Sh} {I : Mi} {J : Mj} (h : St sh) : Kd (sh, I, J) 12 5 := ⟨Nat.lt_of_lt_of_le (by decide) h.1, (h.2.1 12 (by decide)).trans rfl⟩
theorem ka_13 {sh : Sh} (h : St sh) : Ka sh 13 12 40 := ⟨Nat.lt_of_lt_of_le (by decide) h.1, (h.2.1 13 (by decide)).trans rfl, (h.2.2.1 13 (by decide)).trans rfl, by decide⟩
theorem ka_14 {sh : Sh} (h : St sh) : Ka sh 14 12 40 := ⟨Nat.lt_of_lt_of_le (by decide) h.1, (h.2.1 14 (by decide)).trans rfl, (h.2.2.1 14 (by decide)).trans rfl, by decide⟩
theorem ka_15 {sh : Sh} (h : St sh) : Ka sh 15 12 40 := ⟨Nat.lt_of_lt_of_le (by decide) h.1, (h.2.1 15 (by decide)).trans rfl, (h.2.2.1 15 (by decide)).trans rfl, by decide⟩
theorem kd_16 {sh : Sh} {I : Mi} {J : Mj} (h : St sh) : Kd (sh, I, J) 16 8 := ⟨Nat.lt_of_lt_of_le (by decide) h.1, (h.2.1 16 (by decide)).trans rfl⟩
theorem kd_17 {sh : Sh} {I : Mi} {J : Mj} (h : St sh) : Kd (sh, I, J) 17 3 := ⟨Nat.lt_of_lt_of_le (by decide) h.1, (h.2.1 17 (by decide)).trans rfl⟩
theorem ka_18 {sh : Sh} (h : St sh) : Ka sh 18 12 8 := ⟨Nat.lt_of_lt_of_le (by decide) h.1, (h.2.1 18 (by decide)).trans rfl, (h.2.2.1 18 (by decide)).trans rfl, by decide⟩
theorem ka_19 {sh : Sh} (h : St sh) : Ka sh 19 12 8 := ⟨Nat.lt_of_lt_of_le (by decide) h.1, (h.2.1 19 (by decide)).trans rfl, (h.2.2.1 19 (by decide)).trans rfl, by decide⟩
theorem ka_20 {sh : Sh} (h : St sh) : Ka sh 20 12 8 := ⟨Nat.lt_of_lt_of_le (by decide) h.1, (h.2.1 20 (by decide)).trans rfl, (h.2.2.1 20 (by decide)).trans rfl, by decide⟩
theorem ka_21 {sh : Sh} (h : St sh) : Ka sh 21 12 4 := ⟨Nat.lt_of_lt_of_le (by decide) h.1, (h.2.1 21 (by decide)).trans rfl, (h.2.2.1 21 (by decide)).trans rfl, by decide⟩
theorem ka_22 {sh : Sh} (h : St sh) : Ka sh 22 12 4 := ⟨Nat.lt_of_lt_of_le (by decide) h.1, (h.2.1 22 (by decide)).trans rfl, (h.2.2.1 22 (by decide)).trans rfl, by decide⟩
theorem ka_23 {sh : Sh} (h : St sh) : Ka sh 23 12 4 := ⟨Nat.lt_of_lt_of_le (by decide) h.1, (h.2.1 23 (by decide)).trans rfl, (h.2.2.1 23 (by decide)).trans rfl, by decide⟩
theorem ka_24 {sh : Sh} (h : St sh) : Ka sh 24 12 64 := ⟨Nat.lt_of_lt_of_le (by decide) h.1, (h.2.1 24 (by decide)).trans rfl, (h.2.2.1 24 (by decide)).trans rfl, by decide⟩
theorem ka_25 {sh : Sh} (h : St sh) : Ka sh 25 12 4 := ⟨Nat.lt_of_lt_of_le (by decide) h.1, (h.2.1 25 (by decide)).trans rfl, (h.2.2.1 25 (by decide)).trans rfl, by decide⟩
theorem kd_26 {sh : Sh} {I : Mi} {J : Mj} (h : St sh) : Kd (sh, I, J) 26 1 := ⟨Nat.lt_of_lt_of_le (by decide) h.1, (h.2.1 26 (by decide)).trans rfl⟩
theorem ka_27 {sh : Sh} (h : St sh) : Ka sh 27 12 40 := ⟨Nat.lt_of_lt_of_le (by decide) h.1, (h.2.1 27 (by decide)).trans rfl, (h.2.2.1 27 (by decide)).trans rfl, by decide⟩
theorem ka_28 {sh : Sh} (h : St sh) : Ka sh 28 12 40 := ⟨Nat.lt_of_lt_of_le (by decide) h.1, (h.2.1 28 (by decide)).trans rfl, (h.2.2.1 28 (by decide)).trans rfl, by decide⟩
theorem ka_29 {sh : Sh} (h : St sh) : Ka sh 29 12 40 := ⟨Nat.lt_of_lt_of_le (by decide) h.1, (h.2.1 29 (by decide)).trans rfl, (h.2.2.1 29 (by decide)).trans rfl, by decide⟩
theorem ka_30 {sh : Sh} (h : St sh) : Ka sh 30 12 40 := ⟨Nat.lt_of_lt_of_le (by decide) h.1, (h.2.1 30 (by decide)).trans rfl, (h.2.2.1 30 (by decide)).trans rfl, by decide⟩
theorem ka_31 {sh : Sh} (h : St sh) : Ka sh 31 12 360 := ⟨Nat.lt_of_lt_of_le (by decide) h.1, (h.2.1 31 (by decide)).trans rfl, (h.2.2.1 31 (by decide)).trans rfl, by decide⟩
theorem ka_32 {sh : Sh} (h : St sh) : Ka sh 32 12 360 := ⟨Nat.lt_of_lt_of_le (by decide) h.1, (h.2.1 32 (by decide)).trans rfl, (h.2.2.1 32 (by decide)).trans rfl, by decide⟩
theorem kd_33 {sh : Sh} {I : Mi} {J : Mj} (h : St sh) : Kd (sh, I, J) 33 6 := ⟨Nat.lt_of_lt_of_le (by decide) h.1, (h.2.1 33 (by decide)).trans rfl⟩
theorem ka_34 {sh : Sh} (h : St sh) : Ka sh 34 12 3000 := ⟨Nat.lt_of_lt_of_le (by decide) h.1, (h.2.1 34 (by decide)).trans rfl, (h.2.2.1 34 (by decide)).trans rfl, by decide⟩
theorem kd_35 {sh : Sh} {I : Mi} {J : Mj} (h : St sh) : Kd (sh, I, J) 35 6 := ⟨Nat.lt_of_lt_of_le (by decide) h.1, (h.2.1 35 (by decide)).trans rfl⟩
theorem ka_36 {sh : Sh} (h : St sh) : Ka sh 36 12 3500 := ⟨Nat.lt_of_lt_of_le (by decide) h.1, (h.2.1 36 (by decide)).trans rfl, (h.2.2.1 36 (by decide)).trans rfl, by decide⟩
theorem kd_37 {sh : Sh} {I : Mi} {J : Mj} (h : St sh) : Kd (sh, I, J) 37 5 := ⟨Nat.lt_of_lt_of_le (by decide) h.1, (h.2.1 37 (by decide)).trans rfl⟩
theorem ka_38 {sh : Sh} (h : St sh) : Ka sh 38 12 40 := ⟨Nat.lt_of_lt_of_le (by decide) h.1, (h.2.1 38 (by decide)).trans rfl, (h.2.2.1 38 (by decide)).trans rfl, by decide⟩
theorem ka_39 {sh : Sh} (h : St sh) : Ka sh 39 12 40 := ⟨Nat.lt_of_lt_of_le (by decide) h.1, (h.2.1 39 (by decide)).trans rfl, (h.2.2.1 39 (by decide)).trans rfl, by decide⟩
theorem ka_40 {sh : Sh} (h : St sh) : Ka sh 40 12 40 := ⟨Nat.lt_of_lt_of_le (by decide) h.1, (h.2.1 40 (by decide)).trans rfl, (h.2.2.1 40 (by decide)).trans rfl, by decide⟩
theorem kd_41 {sh : Sh} {I : Mi} {J : Mj} (h : St sh) : Kd (sh, I, J) 41 2 := ⟨Nat.lt_of_lt_of_le (by decide) h.1, (h.2.1 41 (by decide)).trans rfl⟩
theorem ka_42 {sh : Sh} (h : St sh) : Ka sh 42 15 6 := ⟨Nat.lt_of_lt_of_le (by decide) h.1, (h.2.1 42 (by decide)).trans rfl, (h.2.2.1 42 (by decide)).trans rfl, by decide⟩
theorem ka_43 {sh : Sh} (h : St sh) : Ka sh 43 16 2 := ⟨Nat.lt_of_lt_of_le (by decide) h.1, (h.2.1 43 (by decide)).trans rfl, (h.2.2.1 43 (by decide)).trans rfl, by decide⟩
theorem kd_44 {sh : Sh} {I : Mi} {J : Mj} (h : St sh) : Kd (sh, I, J) 44 0 := ⟨Nat.lt_of_lt_of_le (by decide) h.1, (h.2.1 44 (by decide)).trans rfl⟩
theorem ka_45 {sh : Sh} (h : St sh) : Ka sh 45 12 12 := ⟨Nat.lt_of_lt_of_le (by decide) h.1, (h.2.1 45 (by decide)).trans rfl, (h.2.2.1 45 (by decide)).trans rfl, by decide⟩
theorem ka_46 {sh : Sh} (h : St sh) : Ka sh 46 12 12 := ⟨Nat.lt_of_lt_of_le (by decide) h.1, (h.2.1 46 (by decide)).trans rfl, (h.2.2.1 46 (by decide)).trans rfl, by decide⟩
theorem ka_47 {sh : Sh} (h : St sh) : Ka sh 47 12 72 := ⟨Nat.lt_of_lt_of_le (by decide) h.1, (h.2.1 47 (by decide)).trans rfl, (h.2.2.1 47 (by decide)).trans rfl, by decide⟩
theorem ka_48 {sh : Sh} (h : St sh) : Ka sh 48 12 12 := ⟨Nat.lt_of_lt_of_le (by decide) h.1, (h.2.1 48 (by decide)).trans rfl, (h.2.2.1 48 (by decide)).trans rfl, by decide⟩
theorem ka_49 {sh : Sh} (h : St sh) : Ka sh 49 12 12 := ⟨Nat.lt_of_lt_of_le (by decide) h.1, (h.2.1 49 (by decide)).trans rfl, (h.2.2.1 49 (by decide)).trans rfl, by decide⟩
theorem ka_50 {sh : Sh} (h : St sh) : Ka sh 50 12 12 := ⟨Nat.lt_of_lt_of_le (by decide) h.1, (h.2.1 50 (by decide)).trans rfl, (h.2.2.1 50 (by decide)).trans rfl, by decide⟩
theorem ka_51 {sh : Sh} (h : St sh) : Ka sh 51 12 12 := ⟨Nat.lt_of_lt_of_le (by decide) h.1, (h.2.1 51 (by decide)).trans rfl, (h.2.2.1 51 (by decide)).trans rfl, by decide⟩
theorem ka_52 {sh : Sh} (h : St sh) : Ka sh 52 12 40 := ⟨Nat.lt_of_lt_of_le (by decide) h.1, (h.2.1 52 (by decide)).trans rfl, (h.2.2.1 52 (by decide)).trans rfl, by decide⟩
theorem kd_53 {sh : Sh} {I : Mi} {J : Mj} (h : St sh) : Kd (sh, I, J) 53 4 := ⟨Nat.lt_of_lt_of_le (by decide) h.1, (h.2.1 53 (by decide)).trans rfl⟩
theorem ka_54 {sh : Sh} (h : St sh) : Ka sh 54 12 9 := ⟨Nat.lt_of_lt_of_le (by decide) h.1, (h.2.1 54 (by decide)).trans rfl, (h.2.2.1 54 (by decide)).trans rfl, by decide⟩
theorem ka_55 {sh : Sh} (h : St sh) : Ka sh 55 12 9 := ⟨Nat.lt_of_lt_of_le (by decide) h.1, (h.2.1 55 (by decide)).trans rfl, (h.2.2.1 55 (by decide)).trans rfl, by decide⟩
theorem ka_56 {sh : Sh} (h : St sh) : Ka sh 56 12 9 := ⟨Nat.lt_of_lt_of_le (by decide) h.1, (h.2.1 56 (by decide)).trans rfl, (h.2.2.1 56 (by decide)).trans rfl, by decide⟩
theorem kd_57 {sh : Sh} {I : Mi} {J : Mj} (h : St sh) : Kd (sh, I, J) 57 10 := ⟨Nat.lt_of_lt_of_le (by decide) h.1, (h.2.1 57 (by decide)).trans rfl⟩
theorem ka_58 {sh : Sh} (h : St sh) : Ka sh 58 12 740 := ⟨Nat.lt_of_lt_of_le (by decide) h.1, (h.2.1 58 (by decide)).trans rfl, (h.2.2.1 58 (by decide)).trans rfl, by decide⟩
theorem ka_59 {sh : Sh} (h : St sh) : Ka sh 59 12 8140 := ⟨Nat.lt_of_lt_of_le (by decide) h.1, (h.2.1 59 (by decide)).trans rfl, (h.2.2.1 59 (by decide)).trans rfl, by decide⟩
theorem ka_60 {sh : Sh} (h : St sh) : Ka sh 60 12 108 := ⟨Nat.lt_of_lt_of_le (by decide) h.1, (h.2.1 60 (by decide)).trans rfl, (h.2.2.1 60 (by decide)).trans rfl, by decide⟩
theorem ka_61 {sh : Sh} (h : St sh) : Ka sh 61 12 16280 := ⟨Nat.lt_of_lt_of_le (by decide) h.1, (h.2.1 61 (by decide)).trans rfl, (h.2.2.1 61 (by decide)).trans rfl, by decide⟩
theorem ka_62 {sh : Sh} (h : St sh) : Ka sh 62 12 47400 := ⟨Nat.lt_of_lt_of_le (by decide) h.1, (h.2.1 62 (by decide)).trans rfl, (h.2.2.1 62 (by decide)).trans rfl, by decide⟩
theorem ka_63 {sh : Sh} (h : St sh) : Ka sh 63 13 12 := ⟨Nat.lt_of_lt_of_le (by decide) h.1, (h.2.1 63 (by decide)).trans rfl, (h.2.2.1 63 (by decide)).trans rfl, by decide⟩
theorem ka_64 {sh : Sh} (h : St sh) : Ka sh 64 13 12 := ⟨Nat.lt_of_lt_of_le (by decide) h.1, (h.2.1 64 (by decide)).trans rfl, (h.2.2.1 64 (by decide)).trans rfl, by decide⟩
theorem ka_65 {sh : Sh} (h : St sh) : Ka sh 65 13 24 := ⟨Nat.lt_of_lt_of_le (by decide) h.1, (h.2.1 65 (by decide)).trans rfl, (h.2.2.1 65 (by decide)).trans rfl, by decide⟩
theorem ka_66 {sh : Sh} (h : St sh) : Ka sh 66 14 2 := ⟨Nat.lt_of_lt_of_le (by decide) h.1, (h.2.1 66 (by decide)).trans rfl, (h.2.2.1 66 (by decide)).trans rfl, by decide⟩
theorem ka_67 {sh : Sh} (h : St sh) : Ka sh 67 12 40 := ⟨Nat.lt_of_lt_of_le (by decide) h.1, (h.2.1 67 (by decide)).trans rfl, (h.2.2.1 67 (by decide)).trans rfl, by decide⟩
theorem ka_68 {sh : Sh} (h : St sh) : Ka sh 68 12 12 := ⟨Nat.lt_of_lt_of_le (by decide) h.1, (h.2.1 68 (by decide)).trans rfl, (h.2.2.1 68 (by decide)).trans rfl, by decide⟩
theorem ka_69 {sh : Sh} (h : St sh) : Ka sh 69 12 72 := ⟨Nat.lt_of_lt_of_le (by decide) h.1, (h.2.1 69 (by decide)).trans rfl, (h.2.2.1 69 (by decide)).trans rfl, by decide⟩
theorem ka_70 {sh : Sh} (h : St sh) : Ka sh 70 12 26013 := ⟨Nat.lt_of_lt_of_le (by decide) h.1, (h.2.1 70 (by decide)).trans rfl, (h.2.2.1 70 (by decide)).trans rfl, by decide⟩
theorem ka_71 {sh : Sh} (h : St sh) : Ka sh 71 12 40 := ⟨Nat.lt_of_lt_of_le (by decide) h.1, (h.2.1 71 (by decide)).trans rfl, (h.2.2.1 71 (by decide)).trans rfl, by decide⟩
theorem ka_72 {sh : Sh} (h : St sh) : Ka sh 72 12 12 := ⟨Nat.lt_of_lt_of_le (by decide) h.1, (h.2.1 72 (by decide)).trans rfl, (h.2.2.1 72 (by decide)).trans rfl, by decide⟩
theorem ka_73 {sh : Sh} (h : St sh) : Ka sh 73 12 9 := ⟨Nat.lt_of_lt_of_le (by decide) h.1, (h.2.1 73 (by decide)).trans rfl, (h.2.2.1 73 (by decide)).trans rfl, by decide⟩
theorem ka_74 {sh : Sh} (h : St sh) : Ka sh 74 12 9 := ⟨Nat.lt_of_lt_of_le (by decide) h.1, (h.2.1 74 (by decide)).trans rfl, (h.2.2.1 74 (by decide)).trans rfl, by decide⟩
theorem ka_75 {sh : Sh} (h : St sh) : Ka sh 75 12 9 := ⟨Nat.lt_of_lt_of_le (by decide) h.1, (h.2.1 75 (by decide)).trans rfl, (h.2.2.1 75 (by decide)).trans rfl, by decide⟩
theorem ka_76 {sh : Sh} (h : St sh) : Ka sh 76 12 9 := ⟨Nat.lt_of_lt_of_le (by decide) h.1, (h.2.1 76 (by decide)).trans rfl, (h.2.2.1 76 (by decide)).trans rfl, by decide⟩
theorem ka_77 {sh : Sh} (h : St sh) : Ka sh 77 12 9 := ⟨Nat.lt_of_lt_of_le (by decide) h.1, (h.2.1 77 (by decide)).trans rfl, (h.2.2.1 77 (by decide)).trans rfl, by decide⟩
theorem ka_78 {sh : Sh} (h : St sh) : Ka sh 78 12 9 := ⟨Nat.lt_of_lt_of_le (by decide) h.1, (h.2.1 78 (by decide)).trans rfl, (h.2.2.1 78 (by decide)).trans rfl, by decide⟩
theorem ka_79 {sh : Sh} (h : St sh) : Ka sh 79 12 240 := ⟨Nat.lt_of_lt_of_le (by decide) h.1, (h.2.1 79 (by decide)).trans rfl, (h.2.2.1 79 (by decide)).trans rfl, by decide⟩
theorem ka_80 {sh : Sh} (h : St sh) : Ka sh 80 13 1 := ⟨Nat.lt_of_lt_of_le (by decide) h.1, (h.2.1 80 (by decide)).trans rfl, (h.2.2.1 80 (by decide)).trans rfl, by decide⟩
theorem r_0_0 {sh : Sh} (h : St sh) : sh.2.2.2 0 0 = some 1 := (h.2.2.2 0 0 (by decide) (by decide)).trans rfl
theorem r_0_2 {sh : Sh} (h : St sh) : sh.2.2.2 0 2 = some 3 := (h.2.2.2 0 2 (by decide) (by decide)).trans rfl
theorem r_0_3 {sh : Sh} (h : St sh) : sh.2.2.2 0 3 = some 12 := (h.2.2.2 0 3 (by decide) (by decide)).trans rfl
theorem r_0_4 {sh : Sh} (h : St sh) : sh.2.2.2 0 4 = some 16 := (h.2.2.2 0 4 (by decide) (by decide)).trans rfl
theorem r_0_5 {sh : Sh} (h : St sh) : sh.2.2.2 0 5 = some 41 := (h.2.2.2 0 5 (by decide) (by decide)).trans rfl
theorem r_0_6 {sh : Sh} (h : St sh) : sh.2.2.2 0 6 = some 43 := (h.2.2.2 0 6 (by decide) (by decide)).trans rfl
theorem r_0_7 {sh : Sh} (h : St sh) : sh.2.2.2 0 7 = some 44 := (h.2.2.2 0 7 (by decide) (by decide)).trans rfl
theorem r_0_8 {sh : Sh} (h : St sh) : sh.2.2.2 0 8 = some 52 := (h.2.2.2 0 8 (by decide) (by decide)).trans rfl
theorem r_0_9 {sh : Sh} (h : St sh) : sh.2.2.2 0 9 = some 53 := (h.2.2.2 0 9 (by decide) (by decide)).trans rfl
theorem r_1_0 {sh : Sh} (h : St sh) : sh.2.2.2 1 0 = some 2 := (h.2.2.2 1 0 (by decide) (by decide)).trans rfl
theorem r_3_4 {sh : Sh} (h : St sh) : sh.2.2.2 3 4 = some 4 := (h.2.2.2 3 4 (by decide) (by decide)).trans rfl
theorem r_3_5 {sh : Sh} (h : St sh) : sh.2.2.2 3 5 = some 5 := (h.2.2.2 3 5 (by decide) (by decide)).trans rfl
theorem r_3_6 {sh : Sh} (h : St sh) : sh.2.2.2 3 6 = some 6 := (h.2.2.2 3 6 (by decide) (by decide)).trans rfl
theorem r_3_7 {sh : Sh} (h : St sh) : sh.2.2.2 3 7 = some 7 := (h.2.2.2 3 7 (by decide) (by decide)).trans rfl
theorem r_3_8 {sh : Sh} (h : St sh) : sh.2.2.2 3 8 = some 8 := (h.2.2.2 3 8 (by decide) (by decide)).trans rfl
theorem r_3_9 {sh : Sh} (h : St sh) : sh.2.2.2 3 9 = some 9 := (h.2.2.2 3 9 (by decide) (by decide)).trans rfl
theorem r_3_10 {sh : Sh} (h : St sh) : sh.2.2.2 3 10 = some 10 := (h.2.2.2 3 10 (by decide) (by decide)).trans rfl
theorem r_3_11 {sh : Sh} (h : St sh) : sh.2.2.2 3 11 = some 11 := (h.2.2.2 3 11 (by decide) (by decide)).trans rfl
theorem r_12_2 {sh : Sh} (h : St sh) : sh.2.2.2 12 2 = some 13 := (h.2.2.2 12 2 (by decide) (by decide)).trans rfl
theorem r_12_3 {sh : Sh} (h : St sh) : sh.2.2.2 12 3 = some 14 := (h.2.2.2 12 3 (by decide) (by decide)).trans rfl
theorem r_12_4 {sh : Sh} (h : St sh) : sh.2.2.2 12 4 = some 15 := (h.2.2.2 12 4 (by decide) (by decide)).trans rfl
theorem r_16_0 {sh : Sh} (h : St sh) : sh.2.2.2 16 0 = some 17 := (h.2.2.2 16 0 (by decide) (by decide)).trans rfl
theorem r_16_1 {sh : Sh} (h : St sh) : sh.2.2.2 16 1 = some 26 := (h.2.2.2 16 1 (by decide) (by decide)).trans rfl
theorem r_16_2 {sh : Sh} (h : St sh) : sh.2.2.2 16 2 = some 33 := (h.2.2.2 16 2 (by decide) (by decide)).trans rfl
theorem r_16_3 {sh : Sh} (h : St sh) : sh.2.2.2 16 3 = some 35 := (h.2.2.2 16 3 (by decide) (by decide)).trans rfl
theorem r_16_4 {sh : Sh} (h : St sh) : sh.2.2.2 16 4 = some 37 := (h.2.2.2 16 4 (by decide) (by decide)).trans rfl
theorem r_17_4 {sh : Sh} (h : St sh) : sh.2.2.2 17 4 = some 18 := (h.2.2.2 17 4 (by decide) (by decide)).trans rfl
theorem r_17_5 {sh : Sh} (h : St sh) : sh.2.2.2 17 5 = some 19 := (h.2.2.2 17 5 (by decide) (by decide)).trans rfl
theorem r_17_6 {sh : Sh} (h : St sh) : sh.2.2.2 17 6 = some 20 := (h.2.2.2 17 6 (by decide) (by decide)).trans rfl
theorem r_17_7 {sh : Sh} (h : St sh) : sh.2.2.2 17 7 = some 21 := (h.2.2.2 17 7 (by decide) (by decide)).trans rfl
theorem r_17_8 {sh : Sh} (h : St sh) : sh.2.2.2 17 8 = some 22 := (h.2.2.2 17 8 (by decide) (by decide)).trans rfl
theorem r_17_9 {sh : Sh} (h : St sh) : sh.2.2.2 17 9 = some 23 := (h.2.2.2 17 9 (by decide) (by decide)).trans rfl
theorem r_17_10 {sh : Sh} (h : St sh) : sh.2.2.2 17 10 = some 24 := (h.2.2.2 17 10 (by decide) (by decide)).trans rfl
theorem r_17_11 {sh : Sh} (h : St sh) : sh.2.2.2 17 11 = some 25 := (h.2.2.2 17 11 (by decide) (by decide)).trans rfl
theorem r_26_9 {sh : Sh} (h : St sh) : sh.2.2.2 26 9 = some 27 := (h.2.2.2 26 9 (by decide) (by decide)).trans rfl
theorem r_26_10 {sh : Sh} (h : St sh) : sh.2.2.2 26 10 = some 28 := (h.2.2.2 26 10 (by decide) (by decide)).trans rfl
theorem r_26_11 {sh : Sh} (h : St sh) : sh.2.2.2 26 11 = some 29 := (h.2.2.2 26 11 (by decide) (by decide)).trans rfl
theorem r_26_12 {sh : Sh} (h : St sh) : sh.2.2.2 26 12 = some 30 := (h.2.2.2 26 12 (by decide) (by decide)).trans rfl
theorem r_26_13 {sh : Sh} (h : St sh) : sh.2.2.2 26 13 = some 31 := (h.2.2.2 26 13 (by decide) (by decide)).trans rfl
theorem r_26_14 {sh : Sh} (h : St sh) : sh.2.2.2 26 14 = some 32 := (h.2.2.2 26 14 (by decide) (by decide)).trans rfl
theorem r_33_1 {sh : Sh} (h : St sh) : sh.2.2.2 33 1 = some 34 := (h.2.2.2 33 1 (by decide) (by decide)).trans rfl
theorem r_35_1 {sh : Sh} (h : St sh) : sh.2.2.2 35 1 = some 36 := (h.2.2.2 35 1 (by decide) (by decide)).trans rfl
theorem r_37_2 {sh : Sh} (h : St sh) : sh.2.2.2 37 2 = some 38 := (h.2.2.2 37 2 (by decide) (by decide)).trans rfl
theorem r_37_3 {sh : Sh} (h : St sh) : sh.2.2.2 37 3 = some 39 := (h.2.2.2 37 3 (by decide) (by decide)).trans rfl
theorem r_37_4 {sh : Sh} (h : St sh) : sh.2.2.2 37 4 = some 40 := (h.2.2.2 37 4 (by decide) (by decide)).trans rfl
theorem r_41_0 {sh : Sh} (h : St sh) : sh.2.2.2 41 0 = some 42 := (h.2.2.2 41 0 (by decide) (by decide)).trans rfl
theorem r_44_1 {sh : Sh} (h : St sh) : sh.2.2.2 44 1 = some 45 := (h.2.2.2 44 1 (by decide) (by decide)).trans rfl
theorem r_44_2 {sh : Sh} (h : St sh) : sh.2.2.2 44 2 = some 46 := (h.2.2.2 44 2 (by decide) (by decide)).trans rfl
theorem r_44_3 {sh : Sh} (h : St sh) : sh.2.2.2 44 3 = some 47 := (h.2.2.2 44 3 (by decide) (by decide)).trans rfl
theorem r_44_5 {sh : Sh} (h : St sh) : sh.2.2.2 44 5 = some 48 := (h.2.2.2 44 5 (by decide) (by decide)).trans rfl
theorem r_44_6 {sh : Sh} (h : St sh) : sh.2.2.2 44 6 = some 49 := (h.2.2.2 44 6 (by decide) (by decide)).trans rfl
theorem r_44_7 {sh : Sh} (h : St sh) : sh.2.2.2 44 7 = some 50 := (h.2.2.2 44 7 (by decide) (by decide)).trans rfl
theorem r_44_8 {sh : Sh} (h : St sh) : sh.2.2.2 44 8 = some 51 := (h.2.2.2 44 8 (by decide) (by decide)).trans rfl
theorem r_53_1 {sh : Sh} (h : St sh) : sh.2.2.2 53 1 = some 54 := (h.2.2.2 53 1 (by decide) (by decide)).trans rfl
theorem r_53_2 {sh : Sh} (h : St sh) : sh.2.2.2 53 2 = some 55 := (h.2.2.2 53 2 (by decide) (by decide)).trans rfl
theorem r_53_3 {sh : Sh} (h : St sh) : sh.2.2.2 53 3 = some 56 := (h.2.2.2 53 3 (by decide) (by decide)).trans rfl
theorem r_57_1 {sh : Sh} (h : St sh) : sh.2.2.2 57 1 = some 58 := (h.2.2.2 57 1 (by decide) (by decide)).trans rfl
theorem r_57_14 {sh : Sh} (h : St sh) : sh.2.2.2 57 14 = some 59 := (h.2.2.2 57 14 (by decide) (by decide)).trans rfl
theorem r_57_15 {sh : Sh} (h : St sh) : sh.2.2.2 57 15 = some 60 := (h.2.2.2 57 15 (by decide) (by decide)).trans rfl
theorem r_57_16 {sh : Sh} (h : St sh) : sh.2.2.2 57 16 = some 61 := (h.2.2.2 57 16 (by decide) (by decide)).trans rfl
theorem r_57_17 {sh : Sh} (h : St sh) : sh.2.2.2 57 17 = some 62 := (h.2.2.2 57 17 (by decide) (by decide)).trans rfl
theorem r_57_18 {sh : Sh} (h : St sh) : sh.2.2.2 57 18 = some 63 := (h.2.2.2 57 18 (by decide) (by decide)).trans rfl
theorem r_57_19 {sh : Sh} (h : St sh) : sh.2.2.2 57 19 = some 64 := (h.2.2.2 57 19 (by decide) (by decide)).trans rfl
theorem r_57_20 {sh : Sh} (h : St sh) : sh.2.2.2 57 20 = some 65 := (h.2.2.2 57 20 (by decide) (by decide)).trans rfl
theorem r_57_21 {sh : Sh} (h : St sh) : sh.2.2.2 57 21 = some 66 := (h.2.2.2 57 21 (by decide) (by decide)).trans rfl
theorem r_57_25 {sh : Sh} (h : St sh) : sh.2.2.2 57 25 = some 67 := (h.2.2.2 57 25 (by decide) (by decide)).trans rfl
theorem r_57_26 {sh : Sh} (h : St sh) : sh.2.2.2 57 26 = some 68 := (h.2.2.2 57 26 (by decide) (by decide)).trans rfl
theorem r_57_27 {sh : Sh} (h : St sh) : sh.2.2.2 57 27 = some 69 := (h.2.2.2 57 27 (by decide) (by decide)).trans rfl
theorem r_57_28 {sh : Sh} (h : St sh) : sh.2.2.2 57 28 = some 70 := (h.2.2.2 57 28 (by decide) (by decide)).trans rfl
theorem r_57_29 {sh : Sh} (h : St sh) : sh.2.2.2 57 29 = some 71 := (h.2.2.2 57 29 (by decide) (by decide)).trans rfl
theorem r_57_30 {sh : Sh} (h : St sh) : sh.2.2.2 57 30 = some 72 := (h.2.2.2 57 30 (by decide) (by decide)).trans rfl
theorem r_57_33 {sh : Sh} (h : St sh) : sh.2.2.2 57 33 = some 73 := (h.2.2.2 57 33 (by decide) (by decide)).trans rfl
theorem r_57_34 {sh : Sh} (h : St sh) : sh.2.2.2 57 34 = some 74 := (h.2.2.2 57 34 (by decide) (by decide)).trans rfl
theorem r_57_35 {sh : Sh} (h : St sh) : sh.2.2.2 57 35 = some 75 := (h.2.2.2 57 35 (by decide) (by decide)).trans rfl
theorem r_57_36 {sh : Sh} (h : St sh) : sh.2.2.2 57 36 = some 76 := (h.2.2.2 57 36 (by decide) (by decide)).trans rfl
theorem r_57_37 {sh : Sh} (h : St sh) : sh.2.2.2 57 37 = some 77 := (h.2.2.2 57 37 (by decide) (by decide)).trans rfl
theorem r_57_38 {sh : Sh} (h : St sh) : sh.2.2.2 57 38 = some 78 := (h.2.2.2 57 38 (by decide) (by decide)).trans rfl
theorem r_57_42 {sh : Sh} (h : St sh) : sh.2.2.2 57 42 = some 79 := (h.2.2.2 57 42 (by decide) (by decide)).trans rfl
