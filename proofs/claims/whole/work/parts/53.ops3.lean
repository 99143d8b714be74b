/-! cls(), superOf(), instance(), context() -/
theorem c_afterChange_p (d N : Nat) (r : Int) (I : Nat → Int → Int) (L : Nat → Int → Int64) (h : ¬ r < 0) : am_call (d + 2) 115 [.inr (.inr (some 1)), .inl r] (am_GS N, am_GR, I, L) = some (some (.inl r), (am_GS N, am_GR, am_uI I 33 9 0, L)) := by
  rw [e_115]
  simp only [s_115_0, s_115_1, s_115_4, s_115_5, s_115_8, s_115_11, s_115_12, am_bd_s, Option.toList_some, Option.toList_none, List.cons_append, List.nil_append, am_c1_i, am_c1_n, am_c1_r, if_neg h, c_Dictionaries_takeAway]
theorem c_afterChange_n (d N : Nat) (r : Int) (I : Nat → Int → Int) (L : Nat → Int → Int64) (h : r < 0) : am_call (d + 2) 115 [.inr (.inr (some 1)), .inl r] (am_GS N, am_GR, I, L) = some (some (.inl r), (am_GS N, am_GR, I, L)) := by
  rw [e_115]
  simp only [s_115_0, s_115_1, s_115_4, s_115_5, s_115_8, s_115_11, s_115_12, am_bd_s, Option.toList_some, Option.toList_none, List.cons_append, List.nil_append, am_c1_i, am_c1_n, am_c1_r, if_pos h]
theorem c_Model_away (d N : Nat) (r : Int) (I : Nat → Int → Int) (L : Nat → Int → Int64) : am_call (d + 1) 141 [.inr (.inr (some 53)), .inl r] (am_GS N, am_GR, I, L) = some (some (.inl r), (am_GS N, am_GR, am_uI I 53 28 0, L)) := by
  rw [e_141]
  simp only [s_141_0, s_141_1, s_141_2, s_141_5, s_141_6, am_bd_s, Option.toList_some, Option.toList_none, List.cons_append, List.nil_append, am_c1_i, am_c1_n, am_c1_r]
theorem c_Model_isClass (d N : Nat) (p : Int) (I : Nat → Int → Int) (L : Nat → Int → Int64) (h0 : 0 ≤ I 53 9) (h1 : I 53 9 ≤ 80) : am_call (d + 2) 143 [.inr (.inr (some 53)), .inl p] (am_GS N, am_GR, I, L) = some (some (.inl (am_B (0 ≤ p ∧ p < I 53 9))), (am_GS N, am_GR, I, L)) := by
  rw [e_143]
  simp (disch := omega) only [s_143_0, s_143_1, s_143_2, s_143_3, s_143_6, s_143_7, s_143_8, s_143_11, am_bd_s, Option.toList_some, Option.toList_none, List.cons_append, List.nil_append, am_c1_i, am_c1_n, am_c1_r, am_wr_eq, c_Model_isIn, am_B2, if_true]
  unfold am_B
  by_cases h2 : p < I 53 9 <;> by_cases h3 : 0 ≤ p <;> simp [h2, h3] <;> omega
theorem c_Model_isInstance (d N : Nat) (p : Int) (I : Nat → Int → Int) (L : Nat → Int → Int64) (h0 : 0 ≤ I 53 14) (h1 : I 53 14 ≤ 80) : am_call (d + 2) 147 [.inr (.inr (some 53)), .inl p] (am_GS N, am_GR, I, L) = some (some (.inl (am_B (0 ≤ p ∧ p < I 53 14))), (am_GS N, am_GR, I, L)) := by
  rw [e_147]
  simp (disch := omega) only [s_147_0, s_147_1, s_147_2, s_147_3, s_147_6, s_147_7, s_147_8, s_147_11, am_bd_s, Option.toList_some, Option.toList_none, List.cons_append, List.nil_append, am_c1_i, am_c1_n, am_c1_r, am_wr_eq, c_Model_isIn, am_B2, if_true]
  unfold am_B
  by_cases h2 : p < I 53 14 <;> by_cases h3 : 0 ≤ p <;> simp [h2, h3] <;> omega
theorem c_Model_isNode (d N : Nat) (p : Int) (I : Nat → Int → Int) (L : Nat → Int → Int64) (h0 : 0 ≤ I 53 21) (h1 : I 53 21 ≤ 80) : am_call (d + 2) 150 [.inr (.inr (some 53)), .inl p] (am_GS N, am_GR, I, L) = some (some (.inl (am_B (0 ≤ p ∧ p < I 53 21))), (am_GS N, am_GR, I, L)) := by
  rw [e_150]
  simp (disch := omega) only [s_150_0, s_150_1, s_150_2, s_150_3, s_150_6, s_150_7, s_150_8, s_150_11, am_bd_s, Option.toList_some, Option.toList_none, List.cons_append, List.nil_append, am_c1_i, am_c1_n, am_c1_r, am_wr_eq, c_Model_isIn, am_B2, if_true]
  unfold am_B
  by_cases h2 : p < I 53 21 <;> by_cases h3 : 0 ≤ p <;> simp [h2, h3] <;> omega
theorem c_Model_isDictionary (d N : Nat) (p : Int) (I : Nat → Int → Int) (L : Nat → Int → Int64) (h0 : 0 ≤ I 53 28) (h1 : I 53 28 ≤ 80) : am_call (d + 2) 164 [.inr (.inr (some 53)), .inl p] (am_GS N, am_GR, I, L) = some (some (.inl (am_B (0 ≤ p ∧ p < I 53 28))), (am_GS N, am_GR, I, L)) := by
  rw [e_164]
  simp (disch := omega) only [s_164_0, s_164_1, s_164_2, s_164_3, s_164_6, s_164_7, s_164_8, s_164_11, am_bd_s, Option.toList_some, Option.toList_none, List.cons_append, List.nil_append, am_c1_i, am_c1_n, am_c1_r, am_wr_eq, c_Model_isIn, am_B2, if_true]
  unfold am_B
  by_cases h2 : p < I 53 28 <;> by_cases h3 : 0 ≤ p <;> simp [h2, h3] <;> omega
/-- the four rows that a new CLASS or INSTANCE gets -/
abbrev am_four (I : Nat → Int → Int) (k : Nat) (x v : Int) : Nat → Int → Int := am_uI (am_uI (am_uI (am_uI I k (x + 0) v) k (x + 1) v) k (x + 2) v) k (x + 3) v
set_option maxRecDepth 10000 in
theorem s_cls (d N : Nat) (p : Int) (I : Nat → Int → Int) (L : Nat → Int → Int64) (h : am_RCI I) : ∃ r I1, am_call (d + 4) 114 [.inr (.inr (some 1)), .inl p] (am_GS N, am_GR, I, L) = some (some (.inl r), (am_GS N, am_GR, I1, L)) ∧ ∃ I2, am_call (d + 4) 140 [.inr (.inr (some 53)), .inl p] (am_GS N, am_GR, I1, L) = some (some (.inl r), (am_GS N, am_GR, I2, L)) ∧
    ((I1 = I ∧ I2 = I) ∨ (1 ≤ p ∧ p ≤ 4 ∧ I 10 4 < 8 ∧ I2 = am_uI (am_uI (am_four (am_uI (am_uI (am_uI (am_uI (am_uI I 11 (I 10 4) p) 10 4 (I 10 4 + 1)) 33 9 0) 61 (I 10 4) p) 62 (I 10 4) 0) 64 (4 * I 10 4) (-1)) 53 9 (I 10 4 + 1)) 53 28 0)) := by
  obtain ⟨a1, a2, a3, -⟩ := h
  rw [e_114]
  simp only [s_114_0, s_114_1, s_114_2, s_114_5, s_114_6, s_114_9, s_114_12, am_bd_s, Option.toList_some, Option.toList_none, List.cons_append, List.nil_append, am_c1_i, am_c1_n, am_c1_r]
  rw [e_1]
  by_cases q0 : p < 1
  · refine ⟨-2, I, by simp (disch := omega) only [s_1_0, s_1_1, s_1_2, s_1_5, s_1_6, s_1_7, s_1_10, s_1_12, s_1_13, s_1_14, s_1_17, s_1_19, s_1_22, s_1_24, s_1_25, s_1_26, s_1_29, s_1_30, s_1_33, s_1_34, s_1_35, s_1_36, s_1_37, s_1_40, s_1_41, s_1_42, s_1_43, s_1_46, s_114_0, s_114_1, s_114_2, s_114_5, s_114_6, s_114_9, s_114_12, am_bd_s, Option.toList_some, Option.toList_none, List.cons_append, List.nil_append, am_c1_i, am_c1_n, am_c1_r, if_pos, c_afterChange_n], I, ?_, Or.inl ⟨rfl, rfl⟩⟩
    rw [e_140]
    simp (disch := omega) only [s_140_0, s_140_1, s_140_2, s_140_3, s_140_6, s_140_9, s_140_11, s_140_12, s_140_13, s_140_16, s_140_18, s_140_21, s_140_23, s_140_24, s_140_25, s_140_28, s_140_29, s_140_32, s_140_33, s_140_34, s_140_35, s_140_38, s_140_39, s_140_42, s_140_43, s_140_44, s_140_45, s_140_47, s_140_48, s_140_51, s_140_52, s_140_55, s_140_56, s_140_57, s_140_60, s_140_61, s_140_62, s_140_63, s_140_64, s_140_65, s_140_68, s_140_71, s_140_72, s_140_73, s_140_76, s_140_77, s_140_78, s_140_81, s_140_82, s_140_83, s_140_86, s_140_87, s_140_88, s_140_91, am_bd_s, Option.toList_some, Option.toList_none, List.cons_append, List.nil_append, am_c1_i, am_c1_n, am_c1_r, c_Model_isIn, am_B0, if_pos]
  by_cases q1 : 4 < p
  · refine ⟨-2, I, by simp (disch := omega) only [s_1_0, s_1_1, s_1_2, s_1_5, s_1_6, s_1_7, s_1_10, s_1_12, s_1_13, s_1_14, s_1_17, s_1_19, s_1_22, s_1_24, s_1_25, s_1_26, s_1_29, s_1_30, s_1_33, s_1_34, s_1_35, s_1_36, s_1_37, s_1_40, s_1_41, s_1_42, s_1_43, s_1_46, s_114_0, s_114_1, s_114_2, s_114_5, s_114_6, s_114_9, s_114_12, am_bd_s, Option.toList_some, Option.toList_none, List.cons_append, List.nil_append, am_c1_i, am_c1_n, am_c1_r, if_pos, if_neg, c_afterChange_n], I, ?_, Or.inl ⟨rfl, rfl⟩⟩
    rw [e_140]
    simp (disch := omega) only [s_140_0, s_140_1, s_140_2, s_140_3, s_140_6, s_140_9, s_140_11, s_140_12, s_140_13, s_140_16, s_140_18, s_140_21, s_140_23, s_140_24, s_140_25, s_140_28, s_140_29, s_140_32, s_140_33, s_140_34, s_140_35, s_140_38, s_140_39, s_140_42, s_140_43, s_140_44, s_140_45, s_140_47, s_140_48, s_140_51, s_140_52, s_140_55, s_140_56, s_140_57, s_140_60, s_140_61, s_140_62, s_140_63, s_140_64, s_140_65, s_140_68, s_140_71, s_140_72, s_140_73, s_140_76, s_140_77, s_140_78, s_140_81, s_140_82, s_140_83, s_140_86, s_140_87, s_140_88, s_140_91, am_bd_s, Option.toList_some, Option.toList_none, List.cons_append, List.nil_append, am_c1_i, am_c1_n, am_c1_r, c_Model_isIn, am_B0, if_pos]
  by_cases q2 : I 10 4 < 8
  · refine ⟨I 10 4, am_uI (am_uI (am_uI I 11 (I 10 4) p) 10 4 (I 10 4 + 1)) 33 9 0, ?_, _, ?_, Or.inr ⟨by omega, by omega, q2, rfl⟩⟩
    · simp (disch := omega) only [s_1_0, s_1_1, s_1_2, s_1_5, s_1_6, s_1_7, s_1_10, s_1_12, s_1_13, s_1_14, s_1_17, s_1_19, s_1_22, s_1_24, s_1_25, s_1_26, s_1_29, s_1_30, s_1_33, s_1_34, s_1_35, s_1_36, s_1_37, s_1_40, s_1_41, s_1_42, s_1_43, s_1_46, s_114_0, s_114_1, s_114_2, s_114_5, s_114_6, s_114_9, s_114_12, am_bd_s, Option.toList_some, Option.toList_none, List.cons_append, List.nil_append, am_c1_i, am_c1_n, am_c1_r, in_11, if_neg, if_pos, am_uI_c, Nat.reduceEqDiff, ↓reduceIte, am_wr_eq, c_afterChange_p]
    · rw [e_140]
      simp (disch := omega) only [s_140_0, s_140_1, s_140_2, s_140_3, s_140_6, s_140_9, s_140_11, s_140_12, s_140_13, s_140_16, s_140_18, s_140_21, s_140_23, s_140_24, s_140_25, s_140_28, s_140_29, s_140_32, s_140_33, s_140_34, s_140_35, s_140_38, s_140_39, s_140_42, s_140_43, s_140_44, s_140_45, s_140_46, s_140_47, s_140_48, s_140_51, s_140_52, s_140_55, s_140_56, s_140_57, s_140_60, s_140_61, s_140_62, s_140_63, s_140_64, s_140_65, s_140_68, s_140_71, s_140_72, s_140_73, s_140_76, s_140_77, s_140_78, s_140_81, s_140_82, s_140_83, s_140_86, s_140_87, s_140_88, s_140_91, am_bd_s, Option.toList_some, Option.toList_none, List.cons_append, List.nil_append, am_c1_i, am_c1_n, am_c1_r, c_Model_isIn, am_B0, if_pos, if_neg, in_61, in_62, in_64, am_uI_c, Nat.reduceEqDiff, ↓reduceIte, am_up_s, am_wr_eq, Int.add_sub_cancel, a3, Int.reduceAdd, Int.reduceLT, c_Model_away]
  · refine ⟨-3, I, by simp (disch := omega) only [s_1_0, s_1_1, s_1_2, s_1_5, s_1_6, s_1_7, s_1_10, s_1_12, s_1_13, s_1_14, s_1_17, s_1_19, s_1_22, s_1_24, s_1_25, s_1_26, s_1_29, s_1_30, s_1_33, s_1_34, s_1_35, s_1_36, s_1_37, s_1_40, s_1_41, s_1_42, s_1_43, s_1_46, s_114_0, s_114_1, s_114_2, s_114_5, s_114_6, s_114_9, s_114_12, am_bd_s, Option.toList_some, Option.toList_none, List.cons_append, List.nil_append, am_c1_i, am_c1_n, am_c1_r, if_neg, c_afterChange_n], I, ?_, Or.inl ⟨rfl, rfl⟩⟩
    rw [e_140]
    simp (disch := omega) only [s_140_0, s_140_1, s_140_2, s_140_3, s_140_6, s_140_9, s_140_11, s_140_12, s_140_13, s_140_16, s_140_18, s_140_21, s_140_23, s_140_24, s_140_25, s_140_28, s_140_29, s_140_32, s_140_33, s_140_34, s_140_35, s_140_38, s_140_39, s_140_42, s_140_43, s_140_44, s_140_45, s_140_47, s_140_48, s_140_51, s_140_52, s_140_55, s_140_56, s_140_57, s_140_60, s_140_61, s_140_62, s_140_63, s_140_64, s_140_65, s_140_68, s_140_71, s_140_72, s_140_73, s_140_76, s_140_77, s_140_78, s_140_81, s_140_82, s_140_83, s_140_86, s_140_87, s_140_88, s_140_91, am_bd_s, Option.toList_some, Option.toList_none, List.cons_append, List.nil_append, am_c1_i, am_c1_n, am_c1_r, c_Model_isIn, am_B0, if_neg, if_pos]
