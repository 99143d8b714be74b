/-! The cells as they stand behind the two constructors. -/
def am_GT : List (Nat × Nat) := [(11, 0), (8, 0), (0, 8), (0, 80), (0, 80), (0, 80), (0, 80), (0, 80), (0, 80), (3, 0), (0, 8), (0, 8), (0, 24), (0, 32), (5, 0), (0, 20), (0, 20), (0, 20), (0, 60), (0, 60), (0, 80), (6, 0), (0, 80), (0, 80), (0, 80), (0, 80), (0, 80), (2, 80), (9, 0), (0, 240), (1, 240), (0, 240), (4, 0), (0, 60), (0, 60), (0, 60), (0, 60), (0, 360), (0, 60), (2, 60), (7, 0), (0, 240), (0, 240), (10, 0), (0, 40), (0, 40), (0, 40), (0, 40), (0, 40), (0, 360), (0, 360), (1, 360), (12, 0), (0, 8), (0, 80), (0, 80), (0, 80), (0, 80), (0, 80), (0, 200), (0, 8), (0, 8), (0, 24), (0, 32), (0, 20), (0, 20), (0, 20), (0, 60), (0, 60), (0, 80), (0, 80), (0, 80), (0, 80), (0, 80), (0, 80), (2, 80), (0, 60), (0, 60), (0, 60), (0, 360), (2, 240), (2, 240), (1, 240), (0, 240), (0, 60), (0, 60), (2, 60), (0, 1600), (1, 1600), (0, 40), (0, 40), (2, 40), (0, 240), (0, 240)]
def am_GS (n : Nat) : List (Nat × Nat) := (9, n) :: am_GT
def am_gr : List (List (Option Nat)) := [[], [some 2, some 10, some 15, some 22, some 29, some 33, some 41, some 44], [some 3, none, some 4, some 5, some 6, some 7, none, some 8, some 9], [], [], [], [], [], [], [], [some 11, some 12, some 13, some 14, none], [], [], [], [], [some 2, some 10, some 16, some 17, some 18, some 19, some 20, some 21, none], [], [], [], [], [], [], [some 2, some 10, some 15, some 23, some 24, some 25, some 26, some 27, none, some 28], [], [], [], [], [], [], [some 30, some 31, some 32], [], [], [], [some 2, some 10, some 15, some 29, some 34, some 35, some 36, some 37, some 38, none, none, none, some 39, some 40], [], [], [], [], [], [], [], [none, none, none, some 42, some 43, none], [], [], [some 2, some 22, some 15, some 10, some 29, some 33, some 41, some 45, some 46, some 47, some 48, some 49, none, some 50, some 51, some 52, none, none], [], [], [], [], [], [], [], [], [none, some 54, none, some 55, some 56, some 57, some 58, some 59, some 60, none, some 61, some 62, some 63, some 64, none, some 65, some 66, some 67, some 68, some 69, some 70, none, some 71, some 72, some 73, some 74, some 75, some 76, none, some 77, some 78, some 79, some 80, some 81, some 82, some 83, some 84, none, none, some 85, some 86, some 87, some 88, none, some 89, none, some 90, some 91, some 92, none, none, none, none, none, some 93, some 94], [], [], [], [], [], [], [], [], [], [], [], [], [], [], [], [], [], [], [], [], [], [], [], [], [], [], [], [], [], [], [], [], [], [], [], [], [], [], [], [], []]
def am_GR (k : Nat) (f : Int) : Option Nat := if f < 0 then none else (((am_gr[k]?).getD [])[f.toNat]?).join
theorem gs_1 (n : Nat) : (am_GS n)[1]? = some (11, 0) := rfl
theorem gs_2 (n : Nat) : (am_GS n)[2]? = some (8, 0) := rfl
theorem gs_3 (n : Nat) : (am_GS n)[3]? = some (0, 8) := rfl
theorem gs_4 (n : Nat) : (am_GS n)[4]? = some (0, 80) := rfl
theorem gs_5 (n : Nat) : (am_GS n)[5]? = some (0, 80) := rfl
theorem gs_6 (n : Nat) : (am_GS n)[6]? = some (0, 80) := rfl
theorem gs_7 (n : Nat) : (am_GS n)[7]? = some (0, 80) := rfl
theorem gs_8 (n : Nat) : (am_GS n)[8]? = some (0, 80) := rfl
theorem gs_9 (n : Nat) : (am_GS n)[9]? = some (0, 80) := rfl
theorem gs_10 (n : Nat) : (am_GS n)[10]? = some (3, 0) := rfl
theorem gs_11 (n : Nat) : (am_GS n)[11]? = some (0, 8) := rfl
theorem gs_12 (n : Nat) : (am_GS n)[12]? = some (0, 8) := rfl
theorem gs_13 (n : Nat) : (am_GS n)[13]? = some (0, 24) := rfl
theorem gs_14 (n : Nat) : (am_GS n)[14]? = some (0, 32) := rfl
theorem gs_15 (n : Nat) : (am_GS n)[15]? = some (5, 0) := rfl
theorem gs_16 (n : Nat) : (am_GS n)[16]? = some (0, 20) := rfl
theorem gs_17 (n : Nat) : (am_GS n)[17]? = some (0, 20) := rfl
theorem gs_18 (n : Nat) : (am_GS n)[18]? = some (0, 20) := rfl
theorem gs_19 (n : Nat) : (am_GS n)[19]? = some (0, 60) := rfl
theorem gs_20 (n : Nat) : (am_GS n)[20]? = some (0, 60) := rfl
theorem gs_21 (n : Nat) : (am_GS n)[21]? = some (0, 80) := rfl
theorem gs_22 (n : Nat) : (am_GS n)[22]? = some (6, 0) := rfl
theorem gs_23 (n : Nat) : (am_GS n)[23]? = some (0, 80) := rfl
theorem gs_24 (n : Nat) : (am_GS n)[24]? = some (0, 80) := rfl
theorem gs_25 (n : Nat) : (am_GS n)[25]? = some (0, 80) := rfl
theorem gs_26 (n : Nat) : (am_GS n)[26]? = some (0, 80) := rfl
theorem gs_27 (n : Nat) : (am_GS n)[27]? = some (0, 80) := rfl
theorem gs_28 (n : Nat) : (am_GS n)[28]? = some (2, 80) := rfl
theorem gs_29 (n : Nat) : (am_GS n)[29]? = some (9, 0) := rfl
theorem gs_30 (n : Nat) : (am_GS n)[30]? = some (0, 240) := rfl
theorem gs_31 (n : Nat) : (am_GS n)[31]? = some (1, 240) := rfl
theorem gs_32 (n : Nat) : (am_GS n)[32]? = some (0, 240) := rfl
theorem gs_33 (n : Nat) : (am_GS n)[33]? = some (4, 0) := rfl
theorem gs_34 (n : Nat) : (am_GS n)[34]? = some (0, 60) := rfl
theorem gs_35 (n : Nat) : (am_GS n)[35]? = some (0, 60) := rfl
theorem gs_36 (n : Nat) : (am_GS n)[36]? = some (0, 60) := rfl
theorem gs_37 (n : Nat) : (am_GS n)[37]? = some (0, 60) := rfl
theorem gs_38 (n : Nat) : (am_GS n)[38]? = some (0, 360) := rfl
theorem gs_39 (n : Nat) : (am_GS n)[39]? = some (0, 60) := rfl
theorem gs_40 (n : Nat) : (am_GS n)[40]? = some (2, 60) := rfl
theorem gs_41 (n : Nat) : (am_GS n)[41]? = some (7, 0) := rfl
theorem gs_42 (n : Nat) : (am_GS n)[42]? = some (0, 240) := rfl
theorem gs_43 (n : Nat) : (am_GS n)[43]? = some (0, 240) := rfl
theorem gs_44 (n : Nat) : (am_GS n)[44]? = some (10, 0) := rfl
theorem gs_45 (n : Nat) : (am_GS n)[45]? = some (0, 40) := rfl
theorem gs_46 (n : Nat) : (am_GS n)[46]? = some (0, 40) := rfl
theorem gs_47 (n : Nat) : (am_GS n)[47]? = some (0, 40) := rfl
theorem gs_48 (n : Nat) : (am_GS n)[48]? = some (0, 40) := rfl
theorem gs_49 (n : Nat) : (am_GS n)[49]? = some (0, 40) := rfl
theorem gs_50 (n : Nat) : (am_GS n)[50]? = some (0, 360) := rfl
theorem gs_51 (n : Nat) : (am_GS n)[51]? = some (0, 360) := rfl
theorem gs_52 (n : Nat) : (am_GS n)[52]? = some (1, 360) := rfl
theorem gs_53 (n : Nat) : (am_GS n)[53]? = some (12, 0) := rfl
theorem gs_54 (n : Nat) : (am_GS n)[54]? = some (0, 8) := rfl
theorem gs_55 (n : Nat) : (am_GS n)[55]? = some (0, 80) := rfl
theorem gs_56 (n : Nat) : (am_GS n)[56]? = some (0, 80) := rfl
theorem gs_57 (n : Nat) : (am_GS n)[57]? = some (0, 80) := rfl
theorem gs_58 (n : Nat) : (am_GS n)[58]? = some (0, 80) := rfl
theorem gs_59 (n : Nat) : (am_GS n)[59]? = some (0, 80) := rfl
theorem gs_60 (n : Nat) : (am_GS n)[60]? = some (0, 200) := rfl
theorem gs_61 (n : Nat) : (am_GS n)[61]? = some (0, 8) := rfl
theorem gs_62 (n : Nat) : (am_GS n)[62]? = some (0, 8) := rfl
theorem gs_63 (n : Nat) : (am_GS n)[63]? = some (0, 24) := rfl
theorem gs_64 (n : Nat) : (am_GS n)[64]? = some (0, 32) := rfl
theorem gs_65 (n : Nat) : (am_GS n)[65]? = some (0, 20) := rfl
theorem gs_66 (n : Nat) : (am_GS n)[66]? = some (0, 20) := rfl
theorem gs_67 (n : Nat) : (am_GS n)[67]? = some (0, 20) := rfl
theorem gs_68 (n : Nat) : (am_GS n)[68]? = some (0, 60) := rfl
theorem gs_69 (n : Nat) : (am_GS n)[69]? = some (0, 60) := rfl
theorem gs_70 (n : Nat) : (am_GS n)[70]? = some (0, 80) := rfl
theorem gs_71 (n : Nat) : (am_GS n)[71]? = some (0, 80) := rfl
theorem gs_72 (n : Nat) : (am_GS n)[72]? = some (0, 80) := rfl
theorem gs_73 (n : Nat) : (am_GS n)[73]? = some (0, 80) := rfl
theorem gs_74 (n : Nat) : (am_GS n)[74]? = some (0, 80) := rfl
theorem gs_75 (n : Nat) : (am_GS n)[75]? = some (0, 80) := rfl
theorem gs_76 (n : Nat) : (am_GS n)[76]? = some (2, 80) := rfl
theorem gs_77 (n : Nat) : (am_GS n)[77]? = some (0, 60) := rfl
theorem gs_78 (n : Nat) : (am_GS n)[78]? = some (0, 60) := rfl
theorem gs_79 (n : Nat) : (am_GS n)[79]? = some (0, 60) := rfl
theorem gs_80 (n : Nat) : (am_GS n)[80]? = some (0, 360) := rfl
theorem gs_81 (n : Nat) : (am_GS n)[81]? = some (2, 240) := rfl
theorem gs_82 (n : Nat) : (am_GS n)[82]? = some (2, 240) := rfl
theorem gs_83 (n : Nat) : (am_GS n)[83]? = some (1, 240) := rfl
theorem gs_84 (n : Nat) : (am_GS n)[84]? = some (0, 240) := rfl
theorem gs_85 (n : Nat) : (am_GS n)[85]? = some (0, 60) := rfl
theorem gs_86 (n : Nat) : (am_GS n)[86]? = some (0, 60) := rfl
theorem gs_87 (n : Nat) : (am_GS n)[87]? = some (2, 60) := rfl
theorem gs_88 (n : Nat) : (am_GS n)[88]? = some (0, 1600) := rfl
theorem gs_89 (n : Nat) : (am_GS n)[89]? = some (1, 1600) := rfl
theorem gs_90 (n : Nat) : (am_GS n)[90]? = some (0, 40) := rfl
theorem gs_91 (n : Nat) : (am_GS n)[91]? = some (0, 40) := rfl
theorem gs_92 (n : Nat) : (am_GS n)[92]? = some (2, 40) := rfl
theorem gs_93 (n : Nat) : (am_GS n)[93]? = some (0, 240) := rfl
theorem gs_94 (n : Nat) : (am_GS n)[94]? = some (0, 240) := rfl
theorem in_3 (n : Nat) (j : Int) : (am_inb (am_GS n) 3 0 j = true) ↔ 0 ≤ j ∧ j < 8 := am_inb_iff (gs_3 n) j
theorem in_4 (n : Nat) (j : Int) : (am_inb (am_GS n) 4 0 j = true) ↔ 0 ≤ j ∧ j < 80 := am_inb_iff (gs_4 n) j
theorem in_5 (n : Nat) (j : Int) : (am_inb (am_GS n) 5 0 j = true) ↔ 0 ≤ j ∧ j < 80 := am_inb_iff (gs_5 n) j
theorem in_6 (n : Nat) (j : Int) : (am_inb (am_GS n) 6 0 j = true) ↔ 0 ≤ j ∧ j < 80 := am_inb_iff (gs_6 n) j
theorem in_7 (n : Nat) (j : Int) : (am_inb (am_GS n) 7 0 j = true) ↔ 0 ≤ j ∧ j < 80 := am_inb_iff (gs_7 n) j
theorem in_8 (n : Nat) (j : Int) : (am_inb (am_GS n) 8 0 j = true) ↔ 0 ≤ j ∧ j < 80 := am_inb_iff (gs_8 n) j
theorem in_9 (n : Nat) (j : Int) : (am_inb (am_GS n) 9 0 j = true) ↔ 0 ≤ j ∧ j < 80 := am_inb_iff (gs_9 n) j
theorem in_11 (n : Nat) (j : Int) : (am_inb (am_GS n) 11 0 j = true) ↔ 0 ≤ j ∧ j < 8 := am_inb_iff (gs_11 n) j
theorem in_12 (n : Nat) (j : Int) : (am_inb (am_GS n) 12 0 j = true) ↔ 0 ≤ j ∧ j < 8 := am_inb_iff (gs_12 n) j
theorem in_13 (n : Nat) (j : Int) : (am_inb (am_GS n) 13 0 j = true) ↔ 0 ≤ j ∧ j < 24 := am_inb_iff (gs_13 n) j
theorem in_14 (n : Nat) (j : Int) : (am_inb (am_GS n) 14 0 j = true) ↔ 0 ≤ j ∧ j < 32 := am_inb_iff (gs_14 n) j
theorem in_16 (n : Nat) (j : Int) : (am_inb (am_GS n) 16 0 j = true) ↔ 0 ≤ j ∧ j < 20 := am_inb_iff (gs_16 n) j
theorem in_17 (n : Nat) (j : Int) : (am_inb (am_GS n) 17 0 j = true) ↔ 0 ≤ j ∧ j < 20 := am_inb_iff (gs_17 n) j
theorem in_18 (n : Nat) (j : Int) : (am_inb (am_GS n) 18 0 j = true) ↔ 0 ≤ j ∧ j < 20 := am_inb_iff (gs_18 n) j
theorem in_19 (n : Nat) (j : Int) : (am_inb (am_GS n) 19 0 j = true) ↔ 0 ≤ j ∧ j < 60 := am_inb_iff (gs_19 n) j
theorem in_20 (n : Nat) (j : Int) : (am_inb (am_GS n) 20 0 j = true) ↔ 0 ≤ j ∧ j < 60 := am_inb_iff (gs_20 n) j
theorem in_21 (n : Nat) (j : Int) : (am_inb (am_GS n) 21 0 j = true) ↔ 0 ≤ j ∧ j < 80 := am_inb_iff (gs_21 n) j
theorem in_23 (n : Nat) (j : Int) : (am_inb (am_GS n) 23 0 j = true) ↔ 0 ≤ j ∧ j < 80 := am_inb_iff (gs_23 n) j
theorem in_24 (n : Nat) (j : Int) : (am_inb (am_GS n) 24 0 j = true) ↔ 0 ≤ j ∧ j < 80 := am_inb_iff (gs_24 n) j
theorem in_25 (n : Nat) (j : Int) : (am_inb (am_GS n) 25 0 j = true) ↔ 0 ≤ j ∧ j < 80 := am_inb_iff (gs_25 n) j
theorem in_26 (n : Nat) (j : Int) : (am_inb (am_GS n) 26 0 j = true) ↔ 0 ≤ j ∧ j < 80 := am_inb_iff (gs_26 n) j
theorem in_27 (n : Nat) (j : Int) : (am_inb (am_GS n) 27 0 j = true) ↔ 0 ≤ j ∧ j < 80 := am_inb_iff (gs_27 n) j
theorem in_28 (n : Nat) (j : Int) : (am_inb (am_GS n) 28 2 j = true) ↔ 0 ≤ j ∧ j < 80 := am_inb_iff (gs_28 n) j
theorem in_30 (n : Nat) (j : Int) : (am_inb (am_GS n) 30 0 j = true) ↔ 0 ≤ j ∧ j < 240 := am_inb_iff (gs_30 n) j
theorem in_31 (n : Nat) (j : Int) : (am_inb (am_GS n) 31 1 j = true) ↔ 0 ≤ j ∧ j < 240 := am_inb_iff (gs_31 n) j
theorem in_32 (n : Nat) (j : Int) : (am_inb (am_GS n) 32 0 j = true) ↔ 0 ≤ j ∧ j < 240 := am_inb_iff (gs_32 n) j
theorem in_34 (n : Nat) (j : Int) : (am_inb (am_GS n) 34 0 j = true) ↔ 0 ≤ j ∧ j < 60 := am_inb_iff (gs_34 n) j
theorem in_35 (n : Nat) (j : Int) : (am_inb (am_GS n) 35 0 j = true) ↔ 0 ≤ j ∧ j < 60 := am_inb_iff (gs_35 n) j
theorem in_36 (n : Nat) (j : Int) : (am_inb (am_GS n) 36 0 j = true) ↔ 0 ≤ j ∧ j < 60 := am_inb_iff (gs_36 n) j
theorem in_37 (n : Nat) (j : Int) : (am_inb (am_GS n) 37 0 j = true) ↔ 0 ≤ j ∧ j < 60 := am_inb_iff (gs_37 n) j
theorem in_38 (n : Nat) (j : Int) : (am_inb (am_GS n) 38 0 j = true) ↔ 0 ≤ j ∧ j < 360 := am_inb_iff (gs_38 n) j
theorem in_39 (n : Nat) (j : Int) : (am_inb (am_GS n) 39 0 j = true) ↔ 0 ≤ j ∧ j < 60 := am_inb_iff (gs_39 n) j
theorem in_40 (n : Nat) (j : Int) : (am_inb (am_GS n) 40 2 j = true) ↔ 0 ≤ j ∧ j < 60 := am_inb_iff (gs_40 n) j
theorem in_42 (n : Nat) (j : Int) : (am_inb (am_GS n) 42 0 j = true) ↔ 0 ≤ j ∧ j < 240 := am_inb_iff (gs_42 n) j
theorem in_43 (n : Nat) (j : Int) : (am_inb (am_GS n) 43 0 j = true) ↔ 0 ≤ j ∧ j < 240 := am_inb_iff (gs_43 n) j
theorem in_45 (n : Nat) (j : Int) : (am_inb (am_GS n) 45 0 j = true) ↔ 0 ≤ j ∧ j < 40 := am_inb_iff (gs_45 n) j
theorem in_46 (n : Nat) (j : Int) : (am_inb (am_GS n) 46 0 j = true) ↔ 0 ≤ j ∧ j < 40 := am_inb_iff (gs_46 n) j
theorem in_47 (n : Nat) (j : Int) : (am_inb (am_GS n) 47 0 j = true) ↔ 0 ≤ j ∧ j < 40 := am_inb_iff (gs_47 n) j
theorem in_48 (n : Nat) (j : Int) : (am_inb (am_GS n) 48 0 j = true) ↔ 0 ≤ j ∧ j < 40 := am_inb_iff (gs_48 n) j
theorem in_49 (n : Nat) (j : Int) : (am_inb (am_GS n) 49 0 j = true) ↔ 0 ≤ j ∧ j < 40 := am_inb_iff (gs_49 n) j
theorem in_50 (n : Nat) (j : Int) : (am_inb (am_GS n) 50 0 j = true) ↔ 0 ≤ j ∧ j < 360 := am_inb_iff (gs_50 n) j
theorem in_51 (n : Nat) (j : Int) : (am_inb (am_GS n) 51 0 j = true) ↔ 0 ≤ j ∧ j < 360 := am_inb_iff (gs_51 n) j
theorem in_52 (n : Nat) (j : Int) : (am_inb (am_GS n) 52 1 j = true) ↔ 0 ≤ j ∧ j < 360 := am_inb_iff (gs_52 n) j
theorem in_54 (n : Nat) (j : Int) : (am_inb (am_GS n) 54 0 j = true) ↔ 0 ≤ j ∧ j < 8 := am_inb_iff (gs_54 n) j
theorem in_55 (n : Nat) (j : Int) : (am_inb (am_GS n) 55 0 j = true) ↔ 0 ≤ j ∧ j < 80 := am_inb_iff (gs_55 n) j
theorem in_56 (n : Nat) (j : Int) : (am_inb (am_GS n) 56 0 j = true) ↔ 0 ≤ j ∧ j < 80 := am_inb_iff (gs_56 n) j
theorem in_57 (n : Nat) (j : Int) : (am_inb (am_GS n) 57 0 j = true) ↔ 0 ≤ j ∧ j < 80 := am_inb_iff (gs_57 n) j
theorem in_58 (n : Nat) (j : Int) : (am_inb (am_GS n) 58 0 j = true) ↔ 0 ≤ j ∧ j < 80 := am_inb_iff (gs_58 n) j
theorem in_59 (n : Nat) (j : Int) : (am_inb (am_GS n) 59 0 j = true) ↔ 0 ≤ j ∧ j < 80 := am_inb_iff (gs_59 n) j
theorem in_60 (n : Nat) (j : Int) : (am_inb (am_GS n) 60 0 j = true) ↔ 0 ≤ j ∧ j < 200 := am_inb_iff (gs_60 n) j
theorem in_61 (n : Nat) (j : Int) : (am_inb (am_GS n) 61 0 j = true) ↔ 0 ≤ j ∧ j < 8 := am_inb_iff (gs_61 n) j
theorem in_62 (n : Nat) (j : Int) : (am_inb (am_GS n) 62 0 j = true) ↔ 0 ≤ j ∧ j < 8 := am_inb_iff (gs_62 n) j
theorem in_63 (n : Nat) (j : Int) : (am_inb (am_GS n) 63 0 j = true) ↔ 0 ≤ j ∧ j < 24 := am_inb_iff (gs_63 n) j
theorem in_64 (n : Nat) (j : Int) : (am_inb (am_GS n) 64 0 j = true) ↔ 0 ≤ j ∧ j < 32 := am_inb_iff (gs_64 n) j
theorem in_65 (n : Nat) (j : Int) : (am_inb (am_GS n) 65 0 j = true) ↔ 0 ≤ j ∧ j < 20 := am_inb_iff (gs_65 n) j
theorem in_66 (n : Nat) (j : Int) : (am_inb (am_GS n) 66 0 j = true) ↔ 0 ≤ j ∧ j < 20 := am_inb_iff (gs_66 n) j
theorem in_67 (n : Nat) (j : Int) : (am_inb (am_GS n) 67 0 j = true) ↔ 0 ≤ j ∧ j < 20 := am_inb_iff (gs_67 n) j
theorem in_68 (n : Nat) (j : Int) : (am_inb (am_GS n) 68 0 j = true) ↔ 0 ≤ j ∧ j < 60 := am_inb_iff (gs_68 n) j
theorem in_69 (n : Nat) (j : Int) : (am_inb (am_GS n) 69 0 j = true) ↔ 0 ≤ j ∧ j < 60 := am_inb_iff (gs_69 n) j
theorem in_70 (n : Nat) (j : Int) : (am_inb (am_GS n) 70 0 j = true) ↔ 0 ≤ j ∧ j < 80 := am_inb_iff (gs_70 n) j
theorem in_71 (n : Nat) (j : Int) : (am_inb (am_GS n) 71 0 j = true) ↔ 0 ≤ j ∧ j < 80 := am_inb_iff (gs_71 n) j
theorem in_72 (n : Nat) (j : Int) : (am_inb (am_GS n) 72 0 j = true) ↔ 0 ≤ j ∧ j < 80 := am_inb_iff (gs_72 n) j
theorem in_73 (n : Nat) (j : Int) : (am_inb (am_GS n) 73 0 j = true) ↔ 0 ≤ j ∧ j < 80 := am_inb_iff (gs_73 n) j
theorem in_74 (n : Nat) (j : Int) : (am_inb (am_GS n) 74 0 j = true) ↔ 0 ≤ j ∧ j < 80 := am_inb_iff (gs_74 n) j
theorem in_75 (n : Nat) (j : Int) : (am_inb (am_GS n) 75 0 j = true) ↔ 0 ≤ j ∧ j < 80 := am_inb_iff (gs_75 n) j
theorem in_76 (n : Nat) (j : Int) : (am_inb (am_GS n) 76 2 j = true) ↔ 0 ≤ j ∧ j < 80 := am_inb_iff (gs_76 n) j
theorem in_77 (n : Nat) (j : Int) : (am_inb (am_GS n) 77 0 j = true) ↔ 0 ≤ j ∧ j < 60 := am_inb_iff (gs_77 n) j
theorem in_78 (n : Nat) (j : Int) : (am_inb (am_GS n) 78 0 j = true) ↔ 0 ≤ j ∧ j < 60 := am_inb_iff (gs_78 n) j
theorem in_79 (n : Nat) (j : Int) : (am_inb (am_GS n) 79 0 j = true) ↔ 0 ≤ j ∧ j < 60 := am_inb_iff (gs_79 n) j
theorem in_80 (n : Nat) (j : Int) : (am_inb (am_GS n) 80 0 j = true) ↔ 0 ≤ j ∧ j < 360 := am_inb_iff (gs_80 n) j
theorem in_81 (n : Nat) (j : Int) : (am_inb (am_GS n) 81 2 j = true) ↔ 0 ≤ j ∧ j < 240 := am_inb_iff (gs_81 n) j
theorem in_82 (n : Nat) (j : Int) : (am_inb (am_GS n) 82 2 j = true) ↔ 0 ≤ j ∧ j < 240 := am_inb_iff (gs_82 n) j
theorem in_83 (n : Nat) (j : Int) : (am_inb (am_GS n) 83 1 j = true) ↔ 0 ≤ j ∧ j < 240 := am_inb_iff (gs_83 n) j
theorem in_84 (n : Nat) (j : Int) : (am_inb (am_GS n) 84 0 j = true) ↔ 0 ≤ j ∧ j < 240 := am_inb_iff (gs_84 n) j
theorem in_85 (n : Nat) (j : Int) : (am_inb (am_GS n) 85 0 j = true) ↔ 0 ≤ j ∧ j < 60 := am_inb_iff (gs_85 n) j
theorem in_86 (n : Nat) (j : Int) : (am_inb (am_GS n) 86 0 j = true) ↔ 0 ≤ j ∧ j < 60 := am_inb_iff (gs_86 n) j
theorem in_87 (n : Nat) (j : Int) : (am_inb (am_GS n) 87 2 j = true) ↔ 0 ≤ j ∧ j < 60 := am_inb_iff (gs_87 n) j
theorem in_88 (n : Nat) (j : Int) : (am_inb (am_GS n) 88 0 j = true) ↔ 0 ≤ j ∧ j < 1600 := am_inb_iff (gs_88 n) j
theorem in_89 (n : Nat) (j : Int) : (am_inb (am_GS n) 89 1 j = true) ↔ 0 ≤ j ∧ j < 1600 := am_inb_iff (gs_89 n) j
theorem in_90 (n : Nat) (j : Int) : (am_inb (am_GS n) 90 0 j = true) ↔ 0 ≤ j ∧ j < 40 := am_inb_iff (gs_90 n) j
theorem in_91 (n : Nat) (j : Int) : (am_inb (am_GS n) 91 0 j = true) ↔ 0 ≤ j ∧ j < 40 := am_inb_iff (gs_91 n) j
theorem in_92 (n : Nat) (j : Int) : (am_inb (am_GS n) 92 2 j = true) ↔ 0 ≤ j ∧ j < 40 := am_inb_iff (gs_92 n) j
theorem in_93 (n : Nat) (j : Int) : (am_inb (am_GS n) 93 0 j = true) ↔ 0 ≤ j ∧ j < 240 := am_inb_iff (gs_93 n) j
theorem in_94 (n : Nat) (j : Int) : (am_inb (am_GS n) 94 0 j = true) ↔ 0 ≤ j ∧ j < 240 := am_inb_iff (gs_94 n) j
theorem gr_10_0 : am_GR 10 0 = some 11 := by decide +kernel
theorem gr_10_1 : am_GR 10 1 = some 12 := by decide +kernel
theorem gr_10_2 : am_GR 10 2 = some 13 := by decide +kernel
theorem gr_10_3 : am_GR 10 3 = some 14 := by decide +kernel
theorem gr_33_0 : am_GR 33 0 = some 2 := by decide +kernel
theorem gr_33_1 : am_GR 33 1 = some 10 := by decide +kernel
theorem gr_33_2 : am_GR 33 2 = some 15 := by decide +kernel
theorem gr_33_3 : am_GR 33 3 = some 29 := by decide +kernel
theorem gr_33_4 : am_GR 33 4 = some 34 := by decide +kernel
theorem gr_33_5 : am_GR 33 5 = some 35 := by decide +kernel
theorem gr_33_6 : am_GR 33 6 = some 36 := by decide +kernel
theorem gr_33_7 : am_GR 33 7 = some 37 := by decide +kernel
theorem gr_33_8 : am_GR 33 8 = some 38 := by decide +kernel
theorem gr_33_12 : am_GR 33 12 = some 39 := by decide +kernel
theorem gr_33_13 : am_GR 33 13 = some 40 := by decide +kernel
theorem gr_15_0 : am_GR 15 0 = some 2 := by decide +kernel
theorem gr_15_1 : am_GR 15 1 = some 10 := by decide +kernel
theorem gr_15_2 : am_GR 15 2 = some 16 := by decide +kernel
theorem gr_15_3 : am_GR 15 3 = some 17 := by decide +kernel
theorem gr_15_4 : am_GR 15 4 = some 18 := by decide +kernel
theorem gr_15_5 : am_GR 15 5 = some 19 := by decide +kernel
theorem gr_15_6 : am_GR 15 6 = some 20 := by decide +kernel
theorem gr_15_7 : am_GR 15 7 = some 21 := by decide +kernel
theorem gr_22_0 : am_GR 22 0 = some 2 := by decide +kernel
theorem gr_22_1 : am_GR 22 1 = some 10 := by decide +kernel
theorem gr_22_2 : am_GR 22 2 = some 15 := by decide +kernel
theorem gr_22_3 : am_GR 22 3 = some 23 := by decide +kernel
theorem gr_22_4 : am_GR 22 4 = some 24 := by decide +kernel
theorem gr_22_5 : am_GR 22 5 = some 25 := by decide +kernel
theorem gr_22_6 : am_GR 22 6 = some 26 := by decide +kernel
theorem gr_22_7 : am_GR 22 7 = some 27 := by decide +kernel
theorem gr_22_9 : am_GR 22 9 = some 28 := by decide +kernel
theorem gr_41_3 : am_GR 41 3 = some 42 := by decide +kernel
theorem gr_41_4 : am_GR 41 4 = some 43 := by decide +kernel
theorem gr_2_0 : am_GR 2 0 = some 3 := by decide +kernel
theorem gr_2_2 : am_GR 2 2 = some 4 := by decide +kernel
theorem gr_2_3 : am_GR 2 3 = some 5 := by decide +kernel
theorem gr_2_4 : am_GR 2 4 = some 6 := by decide +kernel
theorem gr_2_5 : am_GR 2 5 = some 7 := by decide +kernel
theorem gr_2_7 : am_GR 2 7 = some 8 := by decide +kernel
theorem gr_2_8 : am_GR 2 8 = some 9 := by decide +kernel
theorem gr_29_0 : am_GR 29 0 = some 30 := by decide +kernel
theorem gr_29_1 : am_GR 29 1 = some 31 := by decide +kernel
theorem gr_29_2 : am_GR 29 2 = some 32 := by decide +kernel
theorem gr_44_0 : am_GR 44 0 = some 2 := by decide +kernel
theorem gr_44_1 : am_GR 44 1 = some 22 := by decide +kernel
theorem gr_44_2 : am_GR 44 2 = some 15 := by decide +kernel
theorem gr_44_3 : am_GR 44 3 = some 10 := by decide +kernel
theorem gr_44_4 : am_GR 44 4 = some 29 := by decide +kernel
theorem gr_44_5 : am_GR 44 5 = some 33 := by decide +kernel
theorem gr_44_6 : am_GR 44 6 = some 41 := by decide +kernel
theorem gr_44_7 : am_GR 44 7 = some 45 := by decide +kernel
theorem gr_44_8 : am_GR 44 8 = some 46 := by decide +kernel
theorem gr_44_9 : am_GR 44 9 = some 47 := by decide +kernel
theorem gr_44_10 : am_GR 44 10 = some 48 := by decide +kernel
theorem gr_44_11 : am_GR 44 11 = some 49 := by decide +kernel
theorem gr_44_13 : am_GR 44 13 = some 50 := by decide +kernel
theorem gr_44_14 : am_GR 44 14 = some 51 := by decide +kernel
theorem gr_44_15 : am_GR 44 15 = some 52 := by decide +kernel
theorem gr_1_0 : am_GR 1 0 = some 2 := by decide +kernel
theorem gr_1_1 : am_GR 1 1 = some 10 := by decide +kernel
theorem gr_1_2 : am_GR 1 2 = some 15 := by decide +kernel
theorem gr_1_3 : am_GR 1 3 = some 22 := by decide +kernel
theorem gr_1_4 : am_GR 1 4 = some 29 := by decide +kernel
theorem gr_1_5 : am_GR 1 5 = some 33 := by decide +kernel
theorem gr_1_6 : am_GR 1 6 = some 41 := by decide +kernel
theorem gr_1_7 : am_GR 1 7 = some 44 := by decide +kernel
theorem gr_53_1 : am_GR 53 1 = some 54 := by decide +kernel
theorem gr_53_3 : am_GR 53 3 = some 55 := by decide +kernel
theorem gr_53_4 : am_GR 53 4 = some 56 := by decide +kernel
theorem gr_53_5 : am_GR 53 5 = some 57 := by decide +kernel
theorem gr_53_6 : am_GR 53 6 = some 58 := by decide +kernel
theorem gr_53_7 : am_GR 53 7 = some 59 := by decide +kernel
theorem gr_53_8 : am_GR 53 8 = some 60 := by decide +kernel
theorem gr_53_10 : am_GR 53 10 = some 61 := by decide +kernel
theorem gr_53_11 : am_GR 53 11 = some 62 := by decide +kernel
theorem gr_53_12 : am_GR 53 12 = some 63 := by decide +kernel
theorem gr_53_13 : am_GR 53 13 = some 64 := by decide +kernel
theorem gr_53_15 : am_GR 53 15 = some 65 := by decide +kernel
theorem gr_53_16 : am_GR 53 16 = some 66 := by decide +kernel
theorem gr_53_17 : am_GR 53 17 = some 67 := by decide +kernel
theorem gr_53_18 : am_GR 53 18 = some 68 := by decide +kernel
theorem gr_53_19 : am_GR 53 19 = some 69 := by decide +kernel
theorem gr_53_20 : am_GR 53 20 = some 70 := by decide +kernel
theorem gr_53_22 : am_GR 53 22 = some 71 := by decide +kernel
theorem gr_53_23 : am_GR 53 23 = some 72 := by decide +kernel
theorem gr_53_24 : am_GR 53 24 = some 73 := by decide +kernel
theorem gr_53_25 : am_GR 53 25 = some 74 := by decide +kernel
theorem gr_53_26 : am_GR 53 26 = some 75 := by decide +kernel
theorem gr_53_27 : am_GR 53 27 = some 76 := by decide +kernel
theorem gr_53_29 : am_GR 53 29 = some 77 := by decide +kernel
theorem gr_53_30 : am_GR 53 30 = some 78 := by decide +kernel
theorem gr_53_31 : am_GR 53 31 = some 79 := by decide +kernel
theorem gr_53_32 : am_GR 53 32 = some 80 := by decide +kernel
theorem gr_53_33 : am_GR 53 33 = some 81 := by decide +kernel
theorem gr_53_34 : am_GR 53 34 = some 82 := by decide +kernel
theorem gr_53_35 : am_GR 53 35 = some 83 := by decide +kernel
theorem gr_53_36 : am_GR 53 36 = some 84 := by decide +kernel
theorem gr_53_39 : am_GR 53 39 = some 85 := by decide +kernel
theorem gr_53_40 : am_GR 53 40 = some 86 := by decide +kernel
theorem gr_53_41 : am_GR 53 41 = some 87 := by decide +kernel
theorem gr_53_42 : am_GR 53 42 = some 88 := by decide +kernel
theorem gr_53_44 : am_GR 53 44 = some 89 := by decide +kernel
theorem gr_53_46 : am_GR 53 46 = some 90 := by decide +kernel
theorem gr_53_47 : am_GR 53 47 = some 91 := by decide +kernel
theorem gr_53_48 : am_GR 53 48 = some 92 := by decide +kernel
theorem gr_53_54 : am_GR 53 54 = some 93 := by decide +kernel
theorem gr_53_55 : am_GR 53 55 = some 94 := by decide +kernel
theorem am_m0 : am_ml[0]? = some (⟨"DictionaryTerms$Classes", "<init>", "()V"⟩, prog_2_method_1_code, 1, none, 0) := rfl
theorem am_m1 : am_ml[1]? = some (⟨"DictionaryTerms$Classes", "add", "(I)I"⟩, prog_2_method_9_code, 2, (some .int), 0) := rfl
theorem am_m2 : am_ml[2]? = some (⟨"DictionaryTerms$Classes", "addSuper", "(II)I"⟩, prog_2_method_10_code, 3, (some .int), 0) := rfl
theorem am_m3 : am_ml[3]? = some (⟨"DictionaryTerms$Classes", "has", "(I)Z"⟩, prog_2_method_3_code, 2, (some .boolean), 0) := rfl
theorem am_m4 : am_ml[4]? = some (⟨"DictionaryTerms$Classes", "hasAsSuper", "(II)Z"⟩, prog_2_method_11_code, 4, (some .boolean), 0) := rfl
theorem am_m5 : am_ml[5]? = some (⟨"DictionaryTerms$Classes", "superAt", "(II)I"⟩, prog_2_method_6_code, 3, (some .int), 0) := rfl
theorem am_m6 : am_ml[6]? = some (⟨"DictionaryTerms$Classes", "hasMember", "(II)Z"⟩, prog_2_method_4_code, 3, (some .boolean), 0) := rfl
theorem am_m7 : am_ml[7]? = some (⟨"DictionaryTerms$Classes", "supersOf", "(I)I"⟩, prog_2_method_5_code, 2, (some .int), 0) := rfl
theorem am_m8 : am_ml[8]? = some (⟨"DictionaryTerms$Classes", "setStandard", "(III)V"⟩, prog_2_method_8_code, 4, none, 0) := rfl
theorem am_m9 : am_ml[9]? = some (⟨"DictionaryTerms$Classes", "standardOf", "(II)I"⟩, prog_2_method_7_code, 3, (some .int), 0) := rfl
theorem am_m10 : am_ml[10]? = some (⟨"DictionaryTerms$Classes", "made", "()I"⟩, prog_2_method_2_code, 1, (some .int), 0) := rfl
theorem am_m11 : am_ml[11]? = some (⟨"DictionaryTerms$Dictionaries", "<init>", "(LDictionaryTerms$Types;LDictionaryTerms$Classes;LDictionaryTerms$Instances;LDictionaryTerms$Values;)V"⟩, prog_3_method_1_code, 5, none, 1) := rfl
theorem am_m12 : am_ml[12]? = some (⟨"DictionaryTerms$Dictionaries", "takeAway", "()V"⟩, prog_3_method_12_code, 1, none, 1) := rfl
theorem am_m13 : am_ml[13]? = some (⟨"DictionaryTerms$Dictionaries", "make", "(II)I"⟩, prog_3_method_13_code, 11, (some .int), 1) := rfl
theorem am_m14 : am_ml[14]? = some (⟨"DictionaryTerms$Dictionaries", "find", "(II)I"⟩, prog_3_method_14_code, 4, (some .int), 1) := rfl
theorem am_m15 : am_ml[15]? = some (⟨"DictionaryTerms$Dictionaries", "begin", "(II)I"⟩, prog_3_method_15_code, 4, (some .int), 1) := rfl
theorem am_m16 : am_ml[16]? = some (⟨"DictionaryTerms$Dictionaries", "partsOf", "(I)I"⟩, prog_3_method_7_code, 2, (some .int), 1) := rfl
theorem am_m17 : am_ml[17]? = some (⟨"DictionaryTerms$Dictionaries", "partClass", "(II)I"⟩, prog_3_method_16_code, 4, (some .int), 1) := rfl
theorem am_m18 : am_ml[18]? = some (⟨"DictionaryTerms$Dictionaries", "partType", "(II)I"⟩, prog_3_method_17_code, 4, (some .int), 1) := rfl
theorem am_m19 : am_ml[19]? = some (⟨"DictionaryTerms$Dictionaries", "lackingClass", "()I"⟩, prog_3_method_10_code, 1, (some .int), 1) := rfl
theorem am_m20 : am_ml[20]? = some (⟨"DictionaryTerms$Dictionaries", "lackingType", "()I"⟩, prog_3_method_11_code, 1, (some .int), 1) := rfl
theorem am_m21 : am_ml[21]? = some (⟨"DictionaryTerms$Dictionaries", "has", "(I)Z"⟩, prog_3_method_3_code, 2, (some .boolean), 1) := rfl
theorem am_m22 : am_ml[22]? = some (⟨"DictionaryTerms$Dictionaries", "partAt", "(II)I"⟩, prog_3_method_8_code, 3, (some .int), 1) := rfl
theorem am_m23 : am_ml[23]? = some (⟨"DictionaryTerms$Dictionaries", "classOf", "(I)I"⟩, prog_3_method_4_code, 2, (some .int), 1) := rfl
theorem am_m24 : am_ml[24]? = some (⟨"DictionaryTerms$Dictionaries", "typeAt", "(I)I"⟩, prog_3_method_5_code, 2, (some .int), 1) := rfl
theorem am_m25 : am_ml[25]? = some (⟨"DictionaryTerms$Dictionaries", "instanceOf", "(I)I"⟩, prog_3_method_6_code, 2, (some .int), 1) := rfl
theorem am_m26 : am_ml[26]? = some (⟨"DictionaryTerms$Dictionaries", "hangingOn", "(I)I"⟩, prog_3_method_18_code, 6, (some .int), 1) := rfl
theorem am_m27 : am_ml[27]? = some (⟨"DictionaryTerms$Dictionaries", "superPartAt", "(II)I"⟩, prog_3_method_9_code, 3, (some .int), 1) := rfl
theorem am_m28 : am_ml[28]? = some (⟨"DictionaryTerms$Dictionaries", "made", "()I"⟩, prog_3_method_2_code, 1, (some .int), 1) := rfl
theorem am_m29 : am_ml[29]? = some (⟨"DictionaryTerms$Instances", "<init>", "(LDictionaryTerms$Types;LDictionaryTerms$Classes;)V"⟩, prog_4_method_1_code, 3, none, 2) := rfl
theorem am_m30 : am_ml[30]? = some (⟨"DictionaryTerms$Instances", "add", "(II)I"⟩, prog_4_method_12_code, 3, (some .int), 2) := rfl
theorem am_m31 : am_ml[31]? = some (⟨"DictionaryTerms$Instances", "find", "(II)I"⟩, prog_4_method_11_code, 4, (some .int), 2) := rfl
theorem am_m32 : am_ml[32]? = some (⟨"DictionaryTerms$Instances", "addContext", "(III)I"⟩, prog_4_method_13_code, 5, (some .int), 2) := rfl
theorem am_m33 : am_ml[33]? = some (⟨"DictionaryTerms$Instances", "has", "(I)Z"⟩, prog_4_method_3_code, 2, (some .boolean), 2) := rfl
theorem am_m34 : am_ml[34]? = some (⟨"DictionaryTerms$Instances", "placesOf", "(I)I"⟩, prog_4_method_5_code, 2, (some .int), 2) := rfl
theorem am_m35 : am_ml[35]? = some (⟨"DictionaryTerms$Instances", "classOf", "(I)I"⟩, prog_4_method_4_code, 2, (some .int), 2) := rfl
theorem am_m36 : am_ml[36]? = some (⟨"DictionaryTerms$Instances", "contextsOf", "(I)I"⟩, prog_4_method_6_code, 2, (some .int), 2) := rfl
theorem am_m37 : am_ml[37]? = some (⟨"DictionaryTerms$Instances", "contextClassAt", "(II)I"⟩, prog_4_method_7_code, 3, (some .int), 2) := rfl
theorem am_m38 : am_ml[38]? = some (⟨"DictionaryTerms$Instances", "setBody", "(III)V"⟩, prog_4_method_10_code, 4, none, 2) := rfl
theorem am_m39 : am_ml[39]? = some (⟨"DictionaryTerms$Instances", "contextVariableAt", "(II)I"⟩, prog_4_method_8_code, 3, (some .int), 2) := rfl
theorem am_m40 : am_ml[40]? = some (⟨"DictionaryTerms$Instances", "bodyOf", "(II)I"⟩, prog_4_method_9_code, 3, (some .int), 2) := rfl
theorem am_m41 : am_ml[41]? = some (⟨"DictionaryTerms$Instances", "made", "()I"⟩, prog_4_method_2_code, 1, (some .int), 2) := rfl
theorem am_m42 : am_ml[42]? = some (⟨"DictionaryTerms$Nodes", "<init>", "(LDictionaryTerms$Types;LDictionaryTerms$Classes;LDictionaryTerms$Instances;)V"⟩, prog_5_method_1_code, 4, none, 3) := rfl
theorem am_m43 : am_ml[43]? = some (⟨"DictionaryTerms$Nodes", "add", "(IIII)I"⟩, prog_5_method_7_code, 6, (some .int), 3) := rfl
theorem am_m44 : am_ml[44]? = some (⟨"DictionaryTerms$Nodes", "isAsTold", "(IIII)Z"⟩, prog_5_method_8_code, 5, (some .boolean), 3) := rfl
theorem am_m45 : am_ml[45]? = some (⟨"DictionaryTerms$Nodes", "isIndex", "(I)Z"⟩, prog_5_method_10_code, 2, (some .boolean), 3) := rfl
theorem am_m46 : am_ml[46]? = some (⟨"DictionaryTerms$Nodes", "has", "(I)Z"⟩, prog_5_method_9_code, 2, (some .boolean), 3) := rfl
theorem am_m47 : am_ml[47]? = some (⟨"DictionaryTerms$Nodes", "heightOver", "(IIII)I"⟩, prog_5_method_11_code, 6, (some .int), 3) := rfl
theorem am_m48 : am_ml[48]? = some (⟨"DictionaryTerms$Nodes", "fitsInstance", "(II)Z"⟩, prog_5_method_12_code, 3, (some .boolean), 3) := rfl
theorem am_m49 : am_ml[49]? = some (⟨"DictionaryTerms$Nodes", "fits", "(IIII)Z"⟩, prog_5_method_14_code, 6, (some .boolean), 3) := rfl
theorem am_m50 : am_ml[50]? = some (⟨"DictionaryTerms$Nodes", "namesWhatIsThere", "(IIII)Z"⟩, prog_5_method_15_code, 7, (some .boolean), 3) := rfl
theorem am_m51 : am_ml[51]? = some (⟨"DictionaryTerms$Nodes", "markInside", "(I)V"⟩, prog_5_method_16_code, 2, none, 3) := rfl
theorem am_m52 : am_ml[52]? = some (⟨"DictionaryTerms$Nodes", "fitsClass", "(II)Z"⟩, prog_5_method_13_code, 3, (some .boolean), 3) := rfl
theorem am_m53 : am_ml[53]? = some (⟨"DictionaryTerms$Nodes", "kindOf", "(I)I"⟩, prog_5_method_3_code, 2, (some .int), 3) := rfl
theorem am_m54 : am_ml[54]? = some (⟨"DictionaryTerms$Nodes", "firstOf", "(I)I"⟩, prog_5_method_4_code, 2, (some .int), 3) := rfl
theorem am_m55 : am_ml[55]? = some (⟨"DictionaryTerms$Nodes", "secondOf", "(I)I"⟩, prog_5_method_5_code, 2, (some .int), 3) := rfl
theorem am_m56 : am_ml[56]? = some (⟨"DictionaryTerms$Nodes", "thirdOf", "(I)I"⟩, prog_5_method_6_code, 2, (some .int), 3) := rfl
theorem am_m57 : am_ml[57]? = some (⟨"DictionaryTerms$Nodes", "made", "()I"⟩, prog_5_method_2_code, 1, (some .int), 3) := rfl
theorem am_m58 : am_ml[58]? = some (⟨"DictionaryTerms$Report", "<init>", "()V"⟩, prog_6_method_1_code, 1, none, 4) := rfl
theorem am_m59 : am_ml[59]? = some (⟨"DictionaryTerms$Report", "refuse", "()V"⟩, prog_6_method_3_code, 1, none, 4) := rfl
theorem am_m60 : am_ml[60]? = some (⟨"DictionaryTerms$Report", "start", "()V"⟩, prog_6_method_2_code, 1, none, 4) := rfl
theorem am_m61 : am_ml[61]? = some (⟨"DictionaryTerms$Report", "tellFault", "(III)V"⟩, prog_6_method_4_code, 4, none, 4) := rfl
theorem am_m62 : am_ml[62]? = some (⟨"DictionaryTerms$Report", "tellStep", "(II)V"⟩, prog_6_method_5_code, 3, none, 4) := rfl
theorem am_m63 : am_ml[63]? = some (⟨"DictionaryTerms$Report", "fault", "()I"⟩, prog_6_method_6_code, 1, (some .int), 4) := rfl
theorem am_m64 : am_ml[64]? = some (⟨"DictionaryTerms$Report", "faultDictionary", "()I"⟩, prog_6_method_7_code, 1, (some .int), 4) := rfl
theorem am_m65 : am_ml[65]? = some (⟨"DictionaryTerms$Report", "faultMember", "()I"⟩, prog_6_method_8_code, 1, (some .int), 4) := rfl
theorem am_m66 : am_ml[66]? = some (⟨"DictionaryTerms$Report", "stepDictionary", "(I)I"⟩, prog_6_method_10_code, 2, (some .int), 4) := rfl
theorem am_m67 : am_ml[67]? = some (⟨"DictionaryTerms$Report", "stepMember", "(I)I"⟩, prog_6_method_11_code, 2, (some .int), 4) := rfl
theorem am_m68 : am_ml[68]? = some (⟨"DictionaryTerms$Report", "stepsTold", "()I"⟩, prog_6_method_9_code, 1, (some .int), 4) := rfl
theorem am_m69 : am_ml[69]? = some (⟨"DictionaryTerms$Types", "<init>", "()V"⟩, prog_7_method_1_code, 2, none, 5) := rfl
theorem am_m70 : am_ml[70]? = some (⟨"DictionaryTerms$Types", "addRow", "(IIII)I"⟩, prog_7_method_14_code, 5, (some .int), 5) := rfl
theorem am_m71 : am_ml[71]? = some (⟨"DictionaryTerms$Types", "addConstructor", "(I)I"⟩, prog_7_method_11_code, 2, (some .int), 5) := rfl
theorem am_m72 : am_ml[72]? = some (⟨"DictionaryTerms$Types", "addType", "(III)I"⟩, prog_7_method_12_code, 5, (some .int), 5) := rfl
theorem am_m73 : am_ml[73]? = some (⟨"DictionaryTerms$Types", "hasConstructor", "(I)Z"⟩, prog_7_method_4_code, 2, (some .boolean), 5) := rfl
theorem am_m74 : am_ml[74]? = some (⟨"DictionaryTerms$Types", "has", "(I)Z"⟩, prog_7_method_5_code, 2, (some .boolean), 5) := rfl
theorem am_m75 : am_ml[75]? = some (⟨"DictionaryTerms$Types", "findOrAdd", "(III)I"⟩, prog_7_method_13_code, 6, (some .int), 5) := rfl
theorem am_m76 : am_ml[76]? = some (⟨"DictionaryTerms$Types", "placesOf", "(I)I"⟩, prog_7_method_6_code, 2, (some .int), 5) := rfl
theorem am_m77 : am_ml[77]? = some (⟨"DictionaryTerms$Types", "needsOnlyBelow", "(II)Z"⟩, prog_7_method_10_code, 3, (some .boolean), 5) := rfl
theorem am_m78 : am_ml[78]? = some (⟨"DictionaryTerms$Types", "isClosed", "(I)Z"⟩, prog_7_method_9_code, 2, (some .boolean), 5) := rfl
theorem am_m79 : am_ml[79]? = some (⟨"DictionaryTerms$Types", "constructorOf", "(I)I"⟩, prog_7_method_7_code, 2, (some .int), 5) := rfl
theorem am_m80 : am_ml[80]? = some (⟨"DictionaryTerms$Types", "argument", "(II)I"⟩, prog_7_method_8_code, 3, (some .int), 5) := rfl
theorem am_m81 : am_ml[81]? = some (⟨"DictionaryTerms$Types", "putIn", "(III)I"⟩, prog_7_method_15_code, 9, (some .int), 5) := rfl
theorem am_m82 : am_ml[82]? = some (⟨"DictionaryTerms$Types", "argumentToRebuild", "(I)I"⟩, prog_7_method_16_code, 4, (some .int), 5) := rfl
theorem am_m83 : am_ml[83]? = some (⟨"DictionaryTerms$Types", "imageOf", "(I)I"⟩, prog_7_method_17_code, 2, (some .int), 5) := rfl
theorem am_m84 : am_ml[84]? = some (⟨"DictionaryTerms$Types", "constructorsMade", "()I"⟩, prog_7_method_2_code, 1, (some .int), 5) := rfl
theorem am_m85 : am_ml[85]? = some (⟨"DictionaryTerms$Types", "typesMade", "()I"⟩, prog_7_method_3_code, 1, (some .int), 5) := rfl
theorem am_m86 : am_ml[86]? = some (⟨"DictionaryTerms$Values", "<init>", "()V"⟩, prog_8_method_1_code, 1, none, 6) := rfl
theorem am_m87 : am_ml[87]? = some (⟨"DictionaryTerms$Values", "clear", "(I)V"⟩, prog_8_method_3_code, 3, none, 6) := rfl
theorem am_m88 : am_ml[88]? = some (⟨"DictionaryTerms$Values", "cell", "(II)I"⟩, prog_8_method_2_code, 3, (some .int), 6) := rfl
theorem am_m89 : am_ml[89]? = some (⟨"DictionaryTerms$Values", "isWorked", "(II)Z"⟩, prog_8_method_4_code, 3, (some .boolean), 6) := rfl
theorem am_m90 : am_ml[90]? = some (⟨"DictionaryTerms$Values", "workedTo", "(II)J"⟩, prog_8_method_6_code, 3, (some .long), 6) := rfl
theorem am_m91 : am_ml[91]? = some (⟨"DictionaryTerms$Values", "isBeingWorked", "(II)Z"⟩, prog_8_method_5_code, 3, (some .boolean), 6) := rfl
theorem am_m92 : am_ml[92]? = some (⟨"DictionaryTerms$Values", "giveUp", "(II)V"⟩, prog_8_method_10_code, 3, none, 6) := rfl
theorem am_m93 : am_ml[93]? = some (⟨"DictionaryTerms$Values", "begin", "(II)V"⟩, prog_8_method_8_code, 3, none, 6) := rfl
theorem am_m94 : am_ml[94]? = some (⟨"DictionaryTerms$Values", "end", "(IIJ)V"⟩, prog_8_method_9_code, 5, none, 6) := rfl
theorem am_m95 : am_ml[95]? = some (⟨"DictionaryTerms$Values", "begunOf", "(II)I"⟩, prog_8_method_7_code, 3, (some .int), 6) := rfl
theorem am_m96 : am_ml[96]? = some (⟨"DictionaryTerms$Worker", "<init>", "(LDictionaryTerms$Types;LDictionaryTerms$Nodes;LDictionaryTerms$Instances;LDictionaryTerms$Classes;LDictionaryTerms$Values;LDictionaryTerms$Dictionaries;LDictionaryTerms$Report;)V"⟩, prog_9_method_1_code, 8, none, 7) := rfl
theorem am_m97 : am_ml[97]? = some (⟨"DictionaryTerms$Worker", "work", "(II)J"⟩, prog_9_method_2_code, 4, (some .long), 7) := rfl
theorem am_m98 : am_ml[98]? = some (⟨"DictionaryTerms$Worker", "need", "(II)V"⟩, prog_9_method_4_code, 3, none, 7) := rfl
theorem am_m99 : am_ml[99]? = some (⟨"DictionaryTerms$Worker", "giveUpAll", "()V"⟩, prog_9_method_3_code, 2, none, 7) := rfl
theorem am_m100 : am_ml[100]? = some (⟨"DictionaryTerms$Worker", "beginMember", "(II)V"⟩, prog_9_method_5_code, 6, none, 7) := rfl
theorem am_m101 : am_ml[101]? = some (⟨"DictionaryTerms$Worker", "openUp", "(I)V"⟩, prog_9_method_6_code, 2, none, 7) := rfl
theorem am_m102 : am_ml[102]? = some (⟨"DictionaryTerms$Worker", "advance", "()V"⟩, prog_9_method_7_code, 4, none, 7) := rfl
theorem am_m103 : am_ml[103]? = some (⟨"DictionaryTerms$Worker", "endNode", "(J)V"⟩, prog_9_method_11_code, 3, none, 7) := rfl
theorem am_m104 : am_ml[104]? = some (⟨"DictionaryTerms$Worker", "advanceIf", "(II)V"⟩, prog_9_method_8_code, 3, none, 7) := rfl
theorem am_m105 : am_ml[105]? = some (⟨"DictionaryTerms$Worker", "advanceSum", "(II)V"⟩, prog_9_method_9_code, 3, none, 7) := rfl
theorem am_m106 : am_ml[106]? = some (⟨"DictionaryTerms$Worker", "endSum", "(IJJ)V"⟩, prog_9_method_10_code, 6, none, 7) := rfl
theorem am_m107 : am_ml[107]? = some (⟨"DictionaryTerms$Worker", "failHere", "(I)V"⟩, prog_9_method_15_code, 2, none, 7) := rfl
theorem am_m108 : am_ml[108]? = some (⟨"DictionaryTerms$Worker", "dictionaryNamed", "(I)I"⟩, prog_9_method_12_code, 6, (some .int), 7) := rfl
theorem am_m109 : am_ml[109]? = some (⟨"DictionaryTerms$Worker", "memberNamed", "(I)I"⟩, prog_9_method_13_code, 2, (some .int), 7) := rfl
theorem am_m110 : am_ml[110]? = some (⟨"DictionaryTerms$Worker", "needNamed", "(II)V"⟩, prog_9_method_14_code, 3, none, 7) := rfl
theorem am_m111 : am_ml[111]? = some (⟨"DictionaryTerms", "<init>", "()V"⟩, prog_1_method_1_code, 1, none, 8) := rfl
theorem am_m112 : am_ml[112]? = some (⟨"DictionaryTerms", "constructor", "(I)I"⟩, prog_1_method_2_code, 2, (some .int), 8) := rfl
theorem am_m113 : am_ml[113]? = some (⟨"DictionaryTerms", "type", "(III)I"⟩, prog_1_method_3_code, 4, (some .int), 8) := rfl
theorem am_m114 : am_ml[114]? = some (⟨"DictionaryTerms", "cls", "(I)I"⟩, prog_1_method_4_code, 2, (some .int), 8) := rfl
theorem am_m115 : am_ml[115]? = some (⟨"DictionaryTerms", "afterChange", "(I)I"⟩, prog_1_method_21_code, 2, (some .int), 8) := rfl
theorem am_m116 : am_ml[116]? = some (⟨"DictionaryTerms", "superOf", "(II)I"⟩, prog_1_method_5_code, 3, (some .int), 8) := rfl
theorem am_m117 : am_ml[117]? = some (⟨"DictionaryTerms", "instance", "(II)I"⟩, prog_1_method_6_code, 3, (some .int), 8) := rfl
theorem am_m118 : am_ml[118]? = some (⟨"DictionaryTerms", "context", "(III)I"⟩, prog_1_method_7_code, 4, (some .int), 8) := rfl
theorem am_m119 : am_ml[119]? = some (⟨"DictionaryTerms", "node", "(IIII)I"⟩, prog_1_method_8_code, 5, (some .int), 8) := rfl
theorem am_m120 : am_ml[120]? = some (⟨"DictionaryTerms", "body", "(III)I"⟩, prog_1_method_9_code, 4, (some .int), 8) := rfl
theorem am_m121 : am_ml[121]? = some (⟨"DictionaryTerms", "standard", "(III)I"⟩, prog_1_method_10_code, 4, (some .int), 8) := rfl
theorem am_m122 : am_ml[122]? = some (⟨"DictionaryTerms", "dictionary", "(II)I"⟩, prog_1_method_11_code, 3, (some .int), 8) := rfl
theorem am_m123 : am_ml[123]? = some (⟨"DictionaryTerms", "lack", "(I)I"⟩, prog_1_method_12_code, 2, (some .int), 8) := rfl
theorem am_m124 : am_ml[124]? = some (⟨"DictionaryTerms", "part", "(II)I"⟩, prog_1_method_13_code, 3, (some .int), 8) := rfl
theorem am_m125 : am_ml[125]? = some (⟨"DictionaryTerms", "about", "(II)I"⟩, prog_1_method_14_code, 3, (some .int), 8) := rfl
theorem am_m126 : am_ml[126]? = some (⟨"DictionaryTerms", "value", "(II)J"⟩, prog_1_method_15_code, 3, (some .long), 8) := rfl
theorem am_m127 : am_ml[127]? = some (⟨"DictionaryTerms", "hasMember", "(II)Z"⟩, prog_1_method_22_code, 3, (some .boolean), 8) := rfl
theorem am_m128 : am_ml[128]? = some (⟨"DictionaryTerms", "failed", "(I)I"⟩, prog_1_method_16_code, 2, (some .int), 8) := rfl
theorem am_m129 : am_ml[129]? = some (⟨"DictionaryTerms", "step", "(II)I"⟩, prog_1_method_17_code, 3, (some .int), 8) := rfl
theorem am_m130 : am_ml[130]? = some (⟨"DictionaryTerms", "begun", "(II)I"⟩, prog_1_method_18_code, 3, (some .int), 8) := rfl
theorem am_m131 : am_ml[131]? = some (⟨"DictionaryTerms", "typeOf", "(II)I"⟩, prog_1_method_19_code, 3, (some .int), 8) := rfl
theorem am_m132 : am_ml[132]? = some (⟨"DictionaryTerms", "count", "(I)I"⟩, prog_1_method_20_code, 2, (some .int), 8) := rfl
theorem am_m133 : am_ml[133]? = some (⟨"DictionaryTermsModel", "<init>", "()V"⟩, prog_11_method_2_code, 2, none, 9) := rfl
theorem am_m134 : am_ml[134]? = some (⟨"DictionaryTermsModel", "constructor", "(I)I"⟩, prog_11_method_3_code, 2, (some .int), 9) := rfl
theorem am_m135 : am_ml[135]? = some (⟨"DictionaryTermsModel", "isIn", "(III)Z"⟩, prog_11_method_1_code, 3, (some .boolean), 9) := rfl
theorem am_m136 : am_ml[136]? = some (⟨"DictionaryTermsModel", "type", "(III)I"⟩, prog_11_method_6_code, 4, (some .int), 9) := rfl
theorem am_m137 : am_ml[137]? = some (⟨"DictionaryTermsModel", "isType", "(I)Z"⟩, prog_11_method_4_code, 2, (some .boolean), 9) := rfl
theorem am_m138 : am_ml[138]? = some (⟨"DictionaryTermsModel", "made", "(III)I"⟩, prog_11_method_5_code, 5, (some .int), 9) := rfl
theorem am_m139 : am_ml[139]? = some (⟨"DictionaryTermsModel", "typeOf", "(II)I"⟩, prog_11_method_7_code, 3, (some .int), 9) := rfl
theorem am_m140 : am_ml[140]? = some (⟨"DictionaryTermsModel", "cls", "(I)I"⟩, prog_11_method_12_code, 3, (some .int), 9) := rfl
theorem am_m141 : am_ml[141]? = some (⟨"DictionaryTermsModel", "away", "(I)I"⟩, prog_11_method_11_code, 2, (some .int), 9) := rfl
theorem am_m142 : am_ml[142]? = some (⟨"DictionaryTermsModel", "superOf", "(II)I"⟩, prog_11_method_13_code, 4, (some .int), 9) := rfl
theorem am_m143 : am_ml[143]? = some (⟨"DictionaryTermsModel", "isClass", "(I)Z"⟩, prog_11_method_9_code, 2, (some .boolean), 9) := rfl
theorem am_m144 : am_ml[144]? = some (⟨"DictionaryTermsModel", "instance", "(II)I"⟩, prog_11_method_15_code, 4, (some .int), 9) := rfl
theorem am_m145 : am_ml[145]? = some (⟨"DictionaryTermsModel", "instanceOf", "(II)I"⟩, prog_11_method_14_code, 4, (some .int), 9) := rfl
theorem am_m146 : am_ml[146]? = some (⟨"DictionaryTermsModel", "context", "(III)I"⟩, prog_11_method_16_code, 4, (some .int), 9) := rfl
theorem am_m147 : am_ml[147]? = some (⟨"DictionaryTermsModel", "isInstance", "(I)Z"⟩, prog_11_method_10_code, 2, (some .boolean), 9) := rfl
theorem am_m148 : am_ml[148]? = some (⟨"DictionaryTermsModel", "node", "(IIII)I"⟩, prog_11_method_20_code, 6, (some .int), 9) := rfl
theorem am_m149 : am_ml[149]? = some (⟨"DictionaryTermsModel", "isRight", "(IIII)Z"⟩, prog_11_method_19_code, 5, (some .boolean), 9) := rfl
theorem am_m150 : am_ml[150]? = some (⟨"DictionaryTermsModel", "isNode", "(I)Z"⟩, prog_11_method_18_code, 2, (some .boolean), 9) := rfl
theorem am_m151 : am_ml[151]? = some (⟨"DictionaryTermsModel", "greater", "(II)I"⟩, prog_11_method_17_code, 2, (some .int), 9) := rfl
theorem am_m152 : am_ml[152]? = some (⟨"DictionaryTermsModel", "body", "(III)I"⟩, prog_11_method_23_code, 4, (some .int), 9) := rfl
theorem am_m153 : am_ml[153]? = some (⟨"DictionaryTermsModel", "fits", "(III)Z"⟩, prog_11_method_21_code, 6, (some .boolean), 9) := rfl
theorem am_m154 : am_ml[154]? = some (⟨"DictionaryTermsModel", "isThere", "(III)Z"⟩, prog_11_method_22_code, 4, (some .boolean), 9) := rfl
theorem am_m155 : am_ml[155]? = some (⟨"DictionaryTermsModel", "standard", "(III)I"⟩, prog_11_method_24_code, 4, (some .int), 9) := rfl
theorem am_m156 : am_ml[156]? = some (⟨"DictionaryTermsModel", "dictionary", "(II)I"⟩, prog_11_method_31_code, 3, (some .int), 9) := rfl
theorem am_m157 : am_ml[157]? = some (⟨"DictionaryTermsModel", "make", "(II)I"⟩, prog_11_method_30_code, 14, (some .int), 9) := rfl
theorem am_m158 : am_ml[158]? = some (⟨"DictionaryTermsModel", "find", "(II)I"⟩, prog_11_method_27_code, 4, (some .int), 9) := rfl
theorem am_m159 : am_ml[159]? = some (⟨"DictionaryTermsModel", "begin", "(II)I"⟩, prog_11_method_28_code, 6, (some .int), 9) := rfl
theorem am_m160 : am_ml[160]? = some (⟨"DictionaryTermsModel", "partMany", "(I)I"⟩, prog_11_method_26_code, 2, (some .int), 9) := rfl
theorem am_m161 : am_ml[161]? = some (⟨"DictionaryTermsModel", "argument", "(II)I"⟩, prog_11_method_29_code, 3, (some .int), 9) := rfl
theorem am_m162 : am_ml[162]? = some (⟨"DictionaryTermsModel", "lack", "(I)I"⟩, prog_11_method_32_code, 2, (some .int), 9) := rfl
theorem am_m163 : am_ml[163]? = some (⟨"DictionaryTermsModel", "part", "(II)I"⟩, prog_11_method_33_code, 3, (some .int), 9) := rfl
theorem am_m164 : am_ml[164]? = some (⟨"DictionaryTermsModel", "isDictionary", "(I)Z"⟩, prog_11_method_25_code, 2, (some .boolean), 9) := rfl
theorem am_m165 : am_ml[165]? = some (⟨"DictionaryTermsModel", "about", "(II)I"⟩, prog_11_method_35_code, 3, (some .int), 9) := rfl
theorem am_m166 : am_ml[166]? = some (⟨"DictionaryTermsModel", "hanging", "(I)I"⟩, prog_11_method_34_code, 5, (some .int), 9) := rfl
theorem am_m167 : am_ml[167]? = some (⟨"DictionaryTermsModel", "value", "(II)J"⟩, prog_11_method_45_code, 4, (some .long), 9) := rfl
theorem am_m168 : am_ml[168]? = some (⟨"DictionaryTermsModel", "need", "(II)V"⟩, prog_11_method_39_code, 6, none, 9) := rfl
theorem am_m169 : am_ml[169]? = some (⟨"DictionaryTermsModel", "come", "(J)V"⟩, prog_11_method_37_code, 3, none, 9) := rfl
theorem am_m170 : am_ml[170]? = some (⟨"DictionaryTermsModel", "fails", "(III)V"⟩, prog_11_method_38_code, 4, none, 9) := rfl
theorem am_m171 : am_ml[171]? = some (⟨"DictionaryTermsModel", "task", "(I)V"⟩, prog_11_method_36_code, 2, none, 9) := rfl
theorem am_m172 : am_ml[172]? = some (⟨"DictionaryTermsModel", "end", "()V"⟩, prog_11_method_44_code, 3, none, 9) := rfl
theorem am_m173 : am_ml[173]? = some (⟨"DictionaryTermsModel", "together", "(I)V"⟩, prog_11_method_43_code, 6, none, 9) := rfl
theorem am_m174 : am_ml[174]? = some (⟨"DictionaryTermsModel", "failsHere", "(I)V"⟩, prog_11_method_40_code, 2, none, 9) := rfl
theorem am_m175 : am_ml[175]? = some (⟨"DictionaryTermsModel", "work", "(I)V"⟩, prog_11_method_42_code, 3, none, 9) := rfl
theorem am_m176 : am_ml[176]? = some (⟨"DictionaryTermsModel", "workAt", "(I)V"⟩, prog_11_method_41_code, 6, none, 9) := rfl
theorem am_m177 : am_ml[177]? = some (⟨"DictionaryTermsModel", "put", "(III)I"⟩, prog_11_method_8_code, 6, (some .int), 9) := rfl
theorem am_m178 : am_ml[178]? = some (⟨"DictionaryTermsModel", "failed", "(I)I"⟩, prog_11_method_46_code, 2, (some .int), 9) := rfl
theorem am_m179 : am_ml[179]? = some (⟨"DictionaryTermsModel", "step", "(II)I"⟩, prog_11_method_47_code, 3, (some .int), 9) := rfl
theorem am_m180 : am_ml[180]? = some (⟨"DictionaryTermsModel", "begun", "(II)I"⟩, prog_11_method_48_code, 3, (some .int), 9) := rfl
theorem am_m181 : am_ml[181]? = some (⟨"DictionaryTermsModel", "count", "(I)I"⟩, prog_11_method_49_code, 2, (some .int), 9) := rfl
theorem am_m182 : am_ml[182]? = some (⟨"java/util/Arrays", "fill", "([II)V"⟩, prog_13_method_103_code, 4, none, 11) := rfl
theorem am_m183 : am_ml[183]? = some (⟨"DictionaryTermsLaw", "law", "([I)Z"⟩, code, 4, (some .boolean), 10) := rfl
theorem am_f11 : am_lk am_fl 11 = some (0, 0) := by decide +kernel
theorem am_f15 : am_lk am_fl 15 = some (0, 1) := by decide +kernel
theorem am_f18 : am_lk am_fl 18 = some (0, 2) := by decide +kernel
theorem am_f21 : am_lk am_fl 21 = some (0, 3) := by decide +kernel
theorem am_f24 : am_lk am_fl 24 = some (0, 4) := by decide +kernel
theorem am_f1015 : am_lk am_fl 1015 = some (1, 4) := by decide +kernel
theorem am_f1019 : am_lk am_fl 1019 = some (1, 5) := by decide +kernel
theorem am_f1022 : am_lk am_fl 1022 = some (1, 6) := by decide +kernel
theorem am_f1025 : am_lk am_fl 1025 = some (1, 7) := by decide +kernel
theorem am_f1028 : am_lk am_fl 1028 = some (1, 8) := by decide +kernel
theorem am_f1031 : am_lk am_fl 1031 = some (1, 9) := by decide +kernel
theorem am_f1035 : am_lk am_fl 1035 = some (1, 10) := by decide +kernel
theorem am_f1038 : am_lk am_fl 1038 = some (1, 11) := by decide +kernel
theorem am_f1041 : am_lk am_fl 1041 = some (1, 12) := by decide +kernel
theorem am_f1044 : am_lk am_fl 1044 = some (1, 13) := by decide +kernel
theorem am_f1048 : am_lk am_fl 1048 = some (1, 0) := by decide +kernel
theorem am_f1052 : am_lk am_fl 1052 = some (1, 1) := by decide +kernel
theorem am_f1056 : am_lk am_fl 1056 = some (1, 2) := by decide +kernel
theorem am_f1060 : am_lk am_fl 1060 = some (1, 3) := by decide +kernel
theorem am_f2011 : am_lk am_fl 2011 = some (2, 2) := by decide +kernel
theorem am_f2015 : am_lk am_fl 2015 = some (2, 3) := by decide +kernel
theorem am_f2018 : am_lk am_fl 2018 = some (2, 4) := by decide +kernel
theorem am_f2021 : am_lk am_fl 2021 = some (2, 5) := by decide +kernel
theorem am_f2024 : am_lk am_fl 2024 = some (2, 6) := by decide +kernel
theorem am_f2029 : am_lk am_fl 2029 = some (2, 7) := by decide +kernel
theorem am_f2032 : am_lk am_fl 2032 = some (2, 8) := by decide +kernel
theorem am_f2036 : am_lk am_fl 2036 = some (2, 0) := by decide +kernel
theorem am_f2040 : am_lk am_fl 2040 = some (2, 1) := by decide +kernel
theorem am_f3011 : am_lk am_fl 3011 = some (3, 3) := by decide +kernel
theorem am_f3015 : am_lk am_fl 3015 = some (3, 4) := by decide +kernel
theorem am_f3018 : am_lk am_fl 3018 = some (3, 5) := by decide +kernel
theorem am_f3021 : am_lk am_fl 3021 = some (3, 6) := by decide +kernel
theorem am_f3024 : am_lk am_fl 3024 = some (3, 7) := by decide +kernel
theorem am_f3027 : am_lk am_fl 3027 = some (3, 8) := by decide +kernel
theorem am_f3031 : am_lk am_fl 3031 = some (3, 9) := by decide +kernel
theorem am_f3035 : am_lk am_fl 3035 = some (3, 0) := by decide +kernel
theorem am_f3039 : am_lk am_fl 3039 = some (3, 1) := by decide +kernel
theorem am_f3043 : am_lk am_fl 3043 = some (3, 2) := by decide +kernel
theorem am_f4009 : am_lk am_fl 4009 = some (4, 0) := by decide +kernel
theorem am_f4015 : am_lk am_fl 4015 = some (4, 1) := by decide +kernel
theorem am_f4018 : am_lk am_fl 4018 = some (4, 2) := by decide +kernel
theorem am_f4023 : am_lk am_fl 4023 = some (4, 3) := by decide +kernel
theorem am_f4027 : am_lk am_fl 4027 = some (4, 4) := by decide +kernel
theorem am_f4030 : am_lk am_fl 4030 = some (4, 5) := by decide +kernel
theorem am_f5011 : am_lk am_fl 5011 = some (5, 0) := by decide +kernel
theorem am_f5015 : am_lk am_fl 5015 = some (5, 1) := by decide +kernel
theorem am_f5019 : am_lk am_fl 5019 = some (5, 2) := by decide +kernel
theorem am_f5022 : am_lk am_fl 5022 = some (5, 3) := by decide +kernel
theorem am_f5025 : am_lk am_fl 5025 = some (5, 4) := by decide +kernel
theorem am_f5028 : am_lk am_fl 5028 = some (5, 5) := by decide +kernel
theorem am_f5031 : am_lk am_fl 5031 = some (5, 6) := by decide +kernel
theorem am_f5034 : am_lk am_fl 5034 = some (5, 7) := by decide +kernel
theorem am_f5037 : am_lk am_fl 5037 = some (5, 8) := by decide +kernel
theorem am_f6013 : am_lk am_fl 6013 = some (6, 0) := by decide +kernel
theorem am_f6017 : am_lk am_fl 6017 = some (6, 1) := by decide +kernel
theorem am_f6021 : am_lk am_fl 6021 = some (6, 2) := by decide +kernel
theorem am_f7013 : am_lk am_fl 7013 = some (7, 7) := by decide +kernel
theorem am_f7017 : am_lk am_fl 7017 = some (7, 8) := by decide +kernel
theorem am_f7020 : am_lk am_fl 7020 = some (7, 9) := by decide +kernel
theorem am_f7023 : am_lk am_fl 7023 = some (7, 10) := by decide +kernel
theorem am_f7026 : am_lk am_fl 7026 = some (7, 11) := by decide +kernel
theorem am_f7029 : am_lk am_fl 7029 = some (7, 12) := by decide +kernel
theorem am_f7033 : am_lk am_fl 7033 = some (7, 13) := by decide +kernel
theorem am_f7036 : am_lk am_fl 7036 = some (7, 14) := by decide +kernel
theorem am_f7039 : am_lk am_fl 7039 = some (7, 15) := by decide +kernel
theorem am_f7043 : am_lk am_fl 7043 = some (7, 16) := by decide +kernel
theorem am_f7046 : am_lk am_fl 7046 = some (7, 17) := by decide +kernel
theorem am_f7050 : am_lk am_fl 7050 = some (7, 0) := by decide +kernel
theorem am_f7054 : am_lk am_fl 7054 = some (7, 1) := by decide +kernel
theorem am_f7058 : am_lk am_fl 7058 = some (7, 2) := by decide +kernel
theorem am_f7062 : am_lk am_fl 7062 = some (7, 3) := by decide +kernel
theorem am_f7066 : am_lk am_fl 7066 = some (7, 4) := by decide +kernel
theorem am_f7070 : am_lk am_fl 7070 = some (7, 5) := by decide +kernel
theorem am_f7074 : am_lk am_fl 7074 = some (7, 6) := by decide +kernel
theorem am_f8010 : am_lk am_fl 8010 = some (8, 0) := by decide +kernel
theorem am_f8019 : am_lk am_fl 8019 = some (8, 1) := by decide +kernel
theorem am_f8028 : am_lk am_fl 8028 = some (8, 2) := by decide +kernel
theorem am_f8037 : am_lk am_fl 8037 = some (8, 3) := by decide +kernel
theorem am_f8044 : am_lk am_fl 8044 = some (8, 4) := by decide +kernel
theorem am_f8053 : am_lk am_fl 8053 = some (8, 5) := by decide +kernel
theorem am_f8060 : am_lk am_fl 8060 = some (8, 6) := by decide +kernel
theorem am_f8069 : am_lk am_fl 8069 = some (8, 7) := by decide +kernel
theorem am_f9007 : am_lk am_fl 9007 = some (9, 1) := by decide +kernel
theorem am_f9013 : am_lk am_fl 9013 = some (9, 2) := by decide +kernel
theorem am_f9017 : am_lk am_fl 9017 = some (9, 3) := by decide +kernel
theorem am_f9020 : am_lk am_fl 9020 = some (9, 4) := by decide +kernel
theorem am_f9023 : am_lk am_fl 9023 = some (9, 5) := by decide +kernel
theorem am_f9026 : am_lk am_fl 9026 = some (9, 6) := by decide +kernel
theorem am_f9029 : am_lk am_fl 9029 = some (9, 7) := by decide +kernel
theorem am_f9032 : am_lk am_fl 9032 = some (9, 8) := by decide +kernel
theorem am_f9035 : am_lk am_fl 9035 = some (9, 10) := by decide +kernel
theorem am_f9038 : am_lk am_fl 9038 = some (9, 11) := by decide +kernel
theorem am_f9041 : am_lk am_fl 9041 = some (9, 12) := by decide +kernel
theorem am_f9044 : am_lk am_fl 9044 = some (9, 13) := by decide +kernel
theorem am_f9047 : am_lk am_fl 9047 = some (9, 15) := by decide +kernel
theorem am_f9050 : am_lk am_fl 9050 = some (9, 16) := by decide +kernel
theorem am_f9053 : am_lk am_fl 9053 = some (9, 17) := by decide +kernel
theorem am_f9056 : am_lk am_fl 9056 = some (9, 18) := by decide +kernel
theorem am_f9059 : am_lk am_fl 9059 = some (9, 19) := by decide +kernel
theorem am_f9062 : am_lk am_fl 9062 = some (9, 20) := by decide +kernel
theorem am_f9065 : am_lk am_fl 9065 = some (9, 22) := by decide +kernel
theorem am_f9068 : am_lk am_fl 9068 = some (9, 23) := by decide +kernel
theorem am_f9071 : am_lk am_fl 9071 = some (9, 24) := by decide +kernel
theorem am_f9074 : am_lk am_fl 9074 = some (9, 25) := by decide +kernel
theorem am_f9077 : am_lk am_fl 9077 = some (9, 26) := by decide +kernel
theorem am_f9080 : am_lk am_fl 9080 = some (9, 27) := by decide +kernel
theorem am_f9084 : am_lk am_fl 9084 = some (9, 29) := by decide +kernel
theorem am_f9087 : am_lk am_fl 9087 = some (9, 30) := by decide +kernel
theorem am_f9090 : am_lk am_fl 9090 = some (9, 31) := by decide +kernel
theorem am_f9093 : am_lk am_fl 9093 = some (9, 32) := by decide +kernel
theorem am_f9096 : am_lk am_fl 9096 = some (9, 33) := by decide +kernel
theorem am_f9099 : am_lk am_fl 9099 = some (9, 34) := by decide +kernel
theorem am_f9102 : am_lk am_fl 9102 = some (9, 35) := by decide +kernel
theorem am_f9106 : am_lk am_fl 9106 = some (9, 36) := by decide +kernel
theorem am_f9109 : am_lk am_fl 9109 = some (9, 37) := by decide +kernel
theorem am_f9112 : am_lk am_fl 9112 = some (9, 38) := by decide +kernel
theorem am_f9115 : am_lk am_fl 9115 = some (9, 39) := by decide +kernel
theorem am_f9118 : am_lk am_fl 9118 = some (9, 40) := by decide +kernel
theorem am_f9121 : am_lk am_fl 9121 = some (9, 41) := by decide +kernel
theorem am_f9124 : am_lk am_fl 9124 = some (9, 42) := by decide +kernel
theorem am_f9127 : am_lk am_fl 9127 = some (9, 44) := by decide +kernel
theorem am_f9130 : am_lk am_fl 9130 = some (9, 46) := by decide +kernel
theorem am_f9133 : am_lk am_fl 9133 = some (9, 47) := by decide +kernel
theorem am_f9136 : am_lk am_fl 9136 = some (9, 48) := by decide +kernel
theorem am_f9139 : am_lk am_fl 9139 = some (9, 51) := by decide +kernel
theorem am_f9142 : am_lk am_fl 9142 = some (9, 52) := by decide +kernel
theorem am_f9145 : am_lk am_fl 9145 = some (9, 54) := by decide +kernel
theorem am_f9148 : am_lk am_fl 9148 = some (9, 55) := by decide +kernel
theorem am_f9155 : am_lk am_fl 9155 = some (9, 0) := by decide +kernel
theorem am_f9166 : am_lk am_fl 9166 = some (9, 9) := by decide +kernel
theorem am_f9169 : am_lk am_fl 9169 = some (9, 14) := by decide +kernel
theorem am_f9172 : am_lk am_fl 9172 = some (9, 28) := by decide +kernel
theorem am_f9189 : am_lk am_fl 9189 = some (9, 21) := by decide +kernel
theorem am_f9229 : am_lk am_fl 9229 = some (9, 43) := by decide +kernel
theorem am_f9232 : am_lk am_fl 9232 = some (9, 45) := by decide +kernel
theorem am_f9235 : am_lk am_fl 9235 = some (9, 50) := by decide +kernel
theorem am_f9242 : am_lk am_fl 9242 = some (9, 49) := by decide +kernel
theorem am_f9266 : am_lk am_fl 9266 = some (9, 53) := by decide +kernel
theorem am_k3 : am_lk am_mk 3 = some (4, 0, 0) := by decide +kernel
theorem am_k28 : am_lk am_mk 28 = some (1, 182, 2) := by decide +kernel
theorem am_k34 : am_lk am_mk 34 = some (0, 3, 1) := by decide +kernel
theorem am_k38 : am_lk am_mk 38 = some (0, 4, 2) := by decide +kernel
theorem am_k42 : am_lk am_mk 42 = some (0, 5, 2) := by decide +kernel
theorem am_k1009 : am_lk am_mk 1009 = some (4, 0, 0) := by decide +kernel
theorem am_k1064 : am_lk am_mk 1064 = some (0, 36, 1) := by decide +kernel
theorem am_k1068 : am_lk am_mk 1068 = some (0, 7, 1) := by decide +kernel
theorem am_k1071 : am_lk am_mk 1071 = some (0, 22, 2) := by decide +kernel
theorem am_k1075 : am_lk am_mk 1075 = some (0, 14, 2) := by decide +kernel
theorem am_k1078 : am_lk am_mk 1078 = some (0, 15, 2) := by decide +kernel
theorem am_k1081 : am_lk am_mk 1081 = some (0, 16, 1) := by decide +kernel
theorem am_k1084 : am_lk am_mk 1084 = some (0, 17, 2) := by decide +kernel
theorem am_k1087 : am_lk am_mk 1087 = some (0, 18, 2) := by decide +kernel
theorem am_k1090 : am_lk am_mk 1090 = some (0, 79, 1) := by decide +kernel
theorem am_k1095 : am_lk am_mk 1095 = some (0, 31, 2) := by decide +kernel
theorem am_k1096 : am_lk am_mk 1096 = some (0, 87, 1) := by decide +kernel
theorem am_k1102 : am_lk am_mk 1102 = some (0, 37, 2) := by decide +kernel
theorem am_k1105 : am_lk am_mk 1105 = some (0, 5, 2) := by decide +kernel
theorem am_k1108 : am_lk am_mk 1108 = some (0, 39, 2) := by decide +kernel
theorem am_k1111 : am_lk am_mk 1111 = some (0, 80, 2) := by decide +kernel
theorem am_k2003 : am_lk am_mk 2003 = some (4, 0, 0) := by decide +kernel
theorem am_k2044 : am_lk am_mk 2044 = some (1, 182, 2) := by decide +kernel
theorem am_k2050 : am_lk am_mk 2050 = some (0, 76, 1) := by decide +kernel
theorem am_k2056 : am_lk am_mk 2056 = some (0, 3, 1) := by decide +kernel
theorem am_k2060 : am_lk am_mk 2060 = some (0, 73, 1) := by decide +kernel
theorem am_k2063 : am_lk am_mk 2063 = some (0, 31, 2) := by decide +kernel
theorem am_k2067 : am_lk am_mk 2067 = some (0, 33, 1) := by decide +kernel
theorem am_k2068 : am_lk am_mk 2068 = some (0, 34, 1) := by decide +kernel
theorem am_k3003 : am_lk am_mk 3003 = some (4, 0, 0) := by decide +kernel
theorem am_k3047 : am_lk am_mk 3047 = some (0, 44, 4) := by decide +kernel
theorem am_k3051 : am_lk am_mk 3051 = some (0, 47, 4) := by decide +kernel
theorem am_k3055 : am_lk am_mk 3055 = some (0, 45, 1) := by decide +kernel
theorem am_k3059 : am_lk am_mk 3059 = some (0, 74, 1) := by decide +kernel
theorem am_k3064 : am_lk am_mk 3064 = some (0, 6, 2) := by decide +kernel
theorem am_k3070 : am_lk am_mk 3070 = some (0, 46, 1) := by decide +kernel
theorem am_k3071 : am_lk am_mk 3071 = some (5, 0, 2) := by decide +kernel
theorem am_k3077 : am_lk am_mk 3077 = some (0, 35, 1) := by decide +kernel
theorem am_k3083 : am_lk am_mk 3083 = some (0, 34, 1) := by decide +kernel
theorem am_k3086 : am_lk am_mk 3086 = some (0, 49, 4) := by decide +kernel
theorem am_k3089 : am_lk am_mk 3089 = some (0, 50, 4) := by decide +kernel
theorem am_k3092 : am_lk am_mk 3092 = some (0, 51, 1) := by decide +kernel
theorem am_k3096 : am_lk am_mk 3096 = some (0, 36, 1) := by decide +kernel
theorem am_k3099 : am_lk am_mk 3099 = some (0, 37, 2) := by decide +kernel
theorem am_k3102 : am_lk am_mk 3102 = some (0, 7, 1) := by decide +kernel
theorem am_k3105 : am_lk am_mk 3105 = some (0, 5, 2) := by decide +kernel
theorem am_k3108 : am_lk am_mk 3108 = some (0, 77, 2) := by decide +kernel
theorem am_k4003 : am_lk am_mk 4003 = some (4, 0, 0) := by decide +kernel
theorem am_k4033 : am_lk am_mk 4033 = some (0, 60, 0) := by decide +kernel
theorem am_k5003 : am_lk am_mk 5003 = some (4, 0, 0) := by decide +kernel
theorem am_k5040 : am_lk am_mk 5040 = some (0, 70, 4) := by decide +kernel
theorem am_k5044 : am_lk am_mk 5044 = some (0, 73, 1) := by decide +kernel
theorem am_k5048 : am_lk am_mk 5048 = some (0, 74, 1) := by decide +kernel
theorem am_k5051 : am_lk am_mk 5051 = some (0, 75, 3) := by decide +kernel
theorem am_k5055 : am_lk am_mk 5055 = some (5, 0, 2) := by decide +kernel
theorem am_k5061 : am_lk am_mk 5061 = some (0, 82, 1) := by decide +kernel
theorem am_k5065 : am_lk am_mk 5065 = some (0, 83, 1) := by decide +kernel
theorem am_k6005 : am_lk am_mk 6005 = some (4, 0, 0) := by decide +kernel
theorem am_k6024 : am_lk am_mk 6024 = some (0, 88, 2) := by decide +kernel
theorem am_k7007 : am_lk am_mk 7007 = some (4, 0, 0) := by decide +kernel
theorem am_k7078 : am_lk am_mk 7078 = some (0, 60, 0) := by decide +kernel
theorem am_k7083 : am_lk am_mk 7083 = some (0, 98, 2) := by decide +kernel
theorem am_k7088 : am_lk am_mk 7088 = some (0, 63, 0) := by decide +kernel
theorem am_k7092 : am_lk am_mk 7092 = some (0, 102, 0) := by decide +kernel
theorem am_k7095 : am_lk am_mk 7095 = some (0, 99, 0) := by decide +kernel
theorem am_k7098 : am_lk am_mk 7098 = some (0, 92, 2) := by decide +kernel
theorem am_k7103 : am_lk am_mk 7103 = some (0, 89, 2) := by decide +kernel
theorem am_k7107 : am_lk am_mk 7107 = some (0, 90, 2) := by decide +kernel
theorem am_k7111 : am_lk am_mk 7111 = some (0, 91, 2) := by decide +kernel
theorem am_k7114 : am_lk am_mk 7114 = some (0, 61, 3) := by decide +kernel
theorem am_k7118 : am_lk am_mk 7118 = some (0, 100, 2) := by decide +kernel
theorem am_k7121 : am_lk am_mk 7121 = some (0, 25, 1) := by decide +kernel
theorem am_k7127 : am_lk am_mk 7127 = some (0, 40, 2) := by decide +kernel
theorem am_k7133 : am_lk am_mk 7133 = some (0, 23, 1) := by decide +kernel
theorem am_k7136 : am_lk am_mk 7136 = some (0, 9, 2) := by decide +kernel
theorem am_k7141 : am_lk am_mk 7141 = some (0, 24, 1) := by decide +kernel
theorem am_k7144 : am_lk am_mk 7144 = some (0, 93, 2) := by decide +kernel
theorem am_k7147 : am_lk am_mk 7147 = some (0, 80, 2) := by decide +kernel
theorem am_k7152 : am_lk am_mk 7152 = some (0, 101, 1) := by decide +kernel
theorem am_k7156 : am_lk am_mk 7156 = some (0, 53, 1) := by decide +kernel
theorem am_k7159 : am_lk am_mk 7159 = some (0, 54, 1) := by decide +kernel
theorem am_k7162 : am_lk am_mk 7162 = some (0, 103, 1) := by decide +kernel
theorem am_k7166 : am_lk am_mk 7166 = some (0, 104, 2) := by decide +kernel
theorem am_k7169 : am_lk am_mk 7169 = some (0, 105, 2) := by decide +kernel
theorem am_k7172 : am_lk am_mk 7172 = some (0, 108, 1) := by decide +kernel
theorem am_k7175 : am_lk am_mk 7175 = some (0, 109, 1) := by decide +kernel
theorem am_k7178 : am_lk am_mk 7178 = some (0, 110, 2) := by decide +kernel
theorem am_k7181 : am_lk am_mk 7181 = some (0, 55, 1) := by decide +kernel
theorem am_k7184 : am_lk am_mk 7184 = some (0, 56, 1) := by decide +kernel
theorem am_k7187 : am_lk am_mk 7187 = some (0, 106, 3) := by decide +kernel
theorem am_k7191 : am_lk am_mk 7191 = some (0, 107, 1) := by decide +kernel
theorem am_k7194 : am_lk am_mk 7194 = some (0, 94, 3) := by decide +kernel
theorem am_k7198 : am_lk am_mk 7198 = some (0, 62, 2) := by decide +kernel
theorem am_k7201 : am_lk am_mk 7201 = some (0, 22, 2) := by decide +kernel
theorem am_k7204 : am_lk am_mk 7204 = some (0, 27, 2) := by decide +kernel
theorem am_k7207 : am_lk am_mk 7207 = some (0, 81, 3) := by decide +kernel
theorem am_k7211 : am_lk am_mk 7211 = some (0, 13, 2) := by decide +kernel
theorem am_k8001 : am_lk am_mk 8001 = some (4, 0, 0) := by decide +kernel
theorem am_k8009 : am_lk am_mk 8009 = some (2, 69, 0) := by decide +kernel
theorem am_k8018 : am_lk am_mk 8018 = some (2, 0, 0) := by decide +kernel
theorem am_k8025 : am_lk am_mk 8025 = some (2, 29, 2) := by decide +kernel
theorem am_k8034 : am_lk am_mk 8034 = some (2, 42, 3) := by decide +kernel
theorem am_k8043 : am_lk am_mk 8043 = some (3, 86, 0) := by decide +kernel
theorem am_k8050 : am_lk am_mk 8050 = some (2, 11, 4) := by decide +kernel
theorem am_k8059 : am_lk am_mk 8059 = some (3, 58, 0) := by decide +kernel
theorem am_k8066 : am_lk am_mk 8066 = some (2, 96, 7) := by decide +kernel
theorem am_k8073 : am_lk am_mk 8073 = some (0, 71, 1) := by decide +kernel
theorem am_k8077 : am_lk am_mk 8077 = some (0, 72, 3) := by decide +kernel
theorem am_k8081 : am_lk am_mk 8081 = some (0, 1, 1) := by decide +kernel
theorem am_k8084 : am_lk am_mk 8084 = some (0, 115, 1) := by decide +kernel
theorem am_k8087 : am_lk am_mk 8087 = some (0, 2, 2) := by decide +kernel
theorem am_k8091 : am_lk am_mk 8091 = some (0, 30, 2) := by decide +kernel
theorem am_k8093 : am_lk am_mk 8093 = some (0, 32, 3) := by decide +kernel
theorem am_k8096 : am_lk am_mk 8096 = some (0, 43, 4) := by decide +kernel
theorem am_k8099 : am_lk am_mk 8099 = some (0, 33, 1) := by decide +kernel
theorem am_k8103 : am_lk am_mk 8103 = some (0, 35, 1) := by decide +kernel
theorem am_k8106 : am_lk am_mk 8106 = some (0, 6, 2) := by decide +kernel
theorem am_k8110 : am_lk am_mk 8110 = some (0, 48, 2) := by decide +kernel
theorem am_k8113 : am_lk am_mk 8113 = some (0, 38, 3) := by decide +kernel
theorem am_k8117 : am_lk am_mk 8117 = some (0, 52, 2) := by decide +kernel
theorem am_k8120 : am_lk am_mk 8120 = some (0, 8, 3) := by decide +kernel
theorem am_k8123 : am_lk am_mk 8123 = some (0, 3, 1) := by decide +kernel
theorem am_k8124 : am_lk am_mk 8124 = some (0, 74, 1) := by decide +kernel
theorem am_k8125 : am_lk am_mk 8125 = some (0, 78, 1) := by decide +kernel
theorem am_k8128 : am_lk am_mk 8128 = some (0, 13, 2) := by decide +kernel
theorem am_k8131 : am_lk am_mk 8131 = some (0, 19, 0) := by decide +kernel
theorem am_k8135 : am_lk am_mk 8135 = some (0, 20, 0) := by decide +kernel
theorem am_k8138 : am_lk am_mk 8138 = some (0, 21, 1) := by decide +kernel
theorem am_k8139 : am_lk am_mk 8139 = some (0, 16, 1) := by decide +kernel
theorem am_k8142 : am_lk am_mk 8142 = some (0, 22, 2) := by decide +kernel
theorem am_k8145 : am_lk am_mk 8145 = some (0, 23, 1) := by decide +kernel
theorem am_k8146 : am_lk am_mk 8146 = some (0, 24, 1) := by decide +kernel
theorem am_k8149 : am_lk am_mk 8149 = some (0, 25, 1) := by decide +kernel
theorem am_k8152 : am_lk am_mk 8152 = some (0, 26, 1) := by decide +kernel
theorem am_k8155 : am_lk am_mk 8155 = some (0, 127, 2) := by decide +kernel
theorem am_k8156 : am_lk am_mk 8156 = some (0, 59, 0) := by decide +kernel
theorem am_k8159 : am_lk am_mk 8159 = some (0, 97, 2) := by decide +kernel
theorem am_k8163 : am_lk am_mk 8163 = some (0, 63, 0) := by decide +kernel
theorem am_k8166 : am_lk am_mk 8166 = some (0, 64, 0) := by decide +kernel
theorem am_k8169 : am_lk am_mk 8169 = some (0, 65, 0) := by decide +kernel
theorem am_k8172 : am_lk am_mk 8172 = some (0, 66, 1) := by decide +kernel
theorem am_k8175 : am_lk am_mk 8175 = some (0, 67, 1) := by decide +kernel
theorem am_k8178 : am_lk am_mk 8178 = some (0, 95, 2) := by decide +kernel
theorem am_k8181 : am_lk am_mk 8181 = some (0, 79, 1) := by decide +kernel
theorem am_k8184 : am_lk am_mk 8184 = some (0, 80, 2) := by decide +kernel
theorem am_k8187 : am_lk am_mk 8187 = some (0, 84, 0) := by decide +kernel
theorem am_k8190 : am_lk am_mk 8190 = some (0, 85, 0) := by decide +kernel
theorem am_k8193 : am_lk am_mk 8193 = some (0, 10, 0) := by decide +kernel
theorem am_k8196 : am_lk am_mk 8196 = some (0, 41, 0) := by decide +kernel
theorem am_k8197 : am_lk am_mk 8197 = some (0, 57, 0) := by decide +kernel
theorem am_k8198 : am_lk am_mk 8198 = some (0, 28, 0) := by decide +kernel
theorem am_k8199 : am_lk am_mk 8199 = some (0, 68, 0) := by decide +kernel
theorem am_k8202 : am_lk am_mk 8202 = some (0, 12, 0) := by decide +kernel
theorem am_k9001 : am_lk am_mk 9001 = some (4, 0, 0) := by decide +kernel
theorem am_k9151 : am_lk am_mk 9151 = some (1, 135, 3) := by decide +kernel
theorem am_k9158 : am_lk am_mk 9158 = some (0, 137, 1) := by decide +kernel
theorem am_k9162 : am_lk am_mk 9162 = some (0, 138, 3) := by decide +kernel
theorem am_k9175 : am_lk am_mk 9175 = some (0, 141, 1) := by decide +kernel
theorem am_k9179 : am_lk am_mk 9179 = some (0, 143, 1) := by decide +kernel
theorem am_k9182 : am_lk am_mk 9182 = some (0, 145, 2) := by decide +kernel
theorem am_k9186 : am_lk am_mk 9186 = some (0, 147, 1) := by decide +kernel
theorem am_k9192 : am_lk am_mk 9192 = some (0, 150, 1) := by decide +kernel
theorem am_k9195 : am_lk am_mk 9195 = some (0, 149, 4) := by decide +kernel
theorem am_k9199 : am_lk am_mk 9199 = some (1, 151, 2) := by decide +kernel
theorem am_k9202 : am_lk am_mk 9202 = some (0, 154, 3) := by decide +kernel
theorem am_k9205 : am_lk am_mk 9205 = some (0, 153, 3) := by decide +kernel
theorem am_k9208 : am_lk am_mk 9208 = some (0, 158, 2) := by decide +kernel
theorem am_k9211 : am_lk am_mk 9211 = some (0, 159, 2) := by decide +kernel
theorem am_k9214 : am_lk am_mk 9214 = some (0, 160, 1) := by decide +kernel
theorem am_k9217 : am_lk am_mk 9217 = some (0, 161, 2) := by decide +kernel
theorem am_k9220 : am_lk am_mk 9220 = some (0, 157, 2) := by decide +kernel
theorem am_k9223 : am_lk am_mk 9223 = some (0, 164, 1) := by decide +kernel
theorem am_k9226 : am_lk am_mk 9226 = some (0, 166, 1) := by decide +kernel
theorem am_k9238 : am_lk am_mk 9238 = some (0, 169, 1) := by decide +kernel
theorem am_k9245 : am_lk am_mk 9245 = some (0, 170, 3) := by decide +kernel
theorem am_k9249 : am_lk am_mk 9249 = some (0, 171, 1) := by decide +kernel
theorem am_k9253 : am_lk am_mk 9253 = some (0, 177, 3) := by decide +kernel
theorem am_k9256 : am_lk am_mk 9256 = some (0, 174, 1) := by decide +kernel
theorem am_k9259 : am_lk am_mk 9259 = some (0, 168, 2) := by decide +kernel
theorem am_k9263 : am_lk am_mk 9263 = some (0, 176, 1) := by decide +kernel
theorem am_k9269 : am_lk am_mk 9269 = some (0, 172, 0) := by decide +kernel
theorem am_k9272 : am_lk am_mk 9272 = some (0, 173, 1) := by decide +kernel
theorem am_k9275 : am_lk am_mk 9275 = some (0, 175, 1) := by decide +kernel
theorem am_k10009 : am_lk am_mk 10009 = some (2, 111, 0) := by decide +kernel
theorem am_k10012 : am_lk am_mk 10012 = some (2, 133, 0) := by decide +kernel
theorem am_k10013 : am_lk am_mk 10013 = some (0, 112, 1) := by decide +kernel
theorem am_k10017 : am_lk am_mk 10017 = some (0, 134, 1) := by decide +kernel
theorem am_k10018 : am_lk am_mk 10018 = some (0, 113, 3) := by decide +kernel
theorem am_k10022 : am_lk am_mk 10022 = some (0, 136, 3) := by decide +kernel
theorem am_k10023 : am_lk am_mk 10023 = some (0, 114, 1) := by decide +kernel
theorem am_k10026 : am_lk am_mk 10026 = some (0, 140, 1) := by decide +kernel
theorem am_k10027 : am_lk am_mk 10027 = some (0, 116, 2) := by decide +kernel
theorem am_k10031 : am_lk am_mk 10031 = some (0, 142, 2) := by decide +kernel
theorem am_k10032 : am_lk am_mk 10032 = some (0, 117, 2) := by decide +kernel
theorem am_k10035 : am_lk am_mk 10035 = some (0, 144, 2) := by decide +kernel
theorem am_k10036 : am_lk am_mk 10036 = some (0, 118, 3) := by decide +kernel
theorem am_k10039 : am_lk am_mk 10039 = some (0, 146, 3) := by decide +kernel
theorem am_k10040 : am_lk am_mk 10040 = some (0, 119, 4) := by decide +kernel
theorem am_k10044 : am_lk am_mk 10044 = some (0, 148, 4) := by decide +kernel
theorem am_k10045 : am_lk am_mk 10045 = some (0, 120, 3) := by decide +kernel
theorem am_k10048 : am_lk am_mk 10048 = some (0, 152, 3) := by decide +kernel
theorem am_k10049 : am_lk am_mk 10049 = some (0, 121, 3) := by decide +kernel
theorem am_k10052 : am_lk am_mk 10052 = some (0, 155, 3) := by decide +kernel
theorem am_k10053 : am_lk am_mk 10053 = some (0, 122, 2) := by decide +kernel
theorem am_k10056 : am_lk am_mk 10056 = some (0, 156, 2) := by decide +kernel
theorem am_k10057 : am_lk am_mk 10057 = some (0, 123, 1) := by decide +kernel
theorem am_k10060 : am_lk am_mk 10060 = some (0, 162, 1) := by decide +kernel
theorem am_k10061 : am_lk am_mk 10061 = some (0, 124, 2) := by decide +kernel
theorem am_k10064 : am_lk am_mk 10064 = some (0, 163, 2) := by decide +kernel
theorem am_k10065 : am_lk am_mk 10065 = some (0, 125, 2) := by decide +kernel
theorem am_k10068 : am_lk am_mk 10068 = some (0, 165, 2) := by decide +kernel
theorem am_k10069 : am_lk am_mk 10069 = some (0, 126, 2) := by decide +kernel
theorem am_k10073 : am_lk am_mk 10073 = some (0, 167, 2) := by decide +kernel
theorem am_k10074 : am_lk am_mk 10074 = some (0, 128, 1) := by decide +kernel
theorem am_k10077 : am_lk am_mk 10077 = some (0, 178, 1) := by decide +kernel
theorem am_k10078 : am_lk am_mk 10078 = some (0, 129, 2) := by decide +kernel
theorem am_k10081 : am_lk am_mk 10081 = some (0, 179, 2) := by decide +kernel
theorem am_k10082 : am_lk am_mk 10082 = some (0, 130, 2) := by decide +kernel
theorem am_k10085 : am_lk am_mk 10085 = some (0, 180, 2) := by decide +kernel
theorem am_k10086 : am_lk am_mk 10086 = some (0, 131, 2) := by decide +kernel
theorem am_k10089 : am_lk am_mk 10089 = some (0, 139, 2) := by decide +kernel
theorem am_k10090 : am_lk am_mk 10090 = some (0, 132, 1) := by decide +kernel
theorem am_k10093 : am_lk am_mk 10093 = some (0, 181, 1) := by decide +kernel
