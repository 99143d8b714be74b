/-! constructor(), type(), typeOf() -/
theorem c_Model_isIn (d : Nat) (v a b : Int) (h : am_H) : am_call (d + 1) 135 [.inl v, .inl a, .inl b] h = some (some (.inl (am_B (a ≤ v ∧ v ≤ b))), h) := by
  rw [e_135]
  simp only [s_135_0, s_135_1, s_135_2, s_135_5, s_135_6, s_135_7, s_135_10, s_135_11, s_135_14, s_135_15, am_bd_s, Option.toList_some, Option.toList_none, List.cons_append, List.nil_append, am_c1_i, am_c1_n, am_c1_r]
  by_cases h1 : v < a <;> by_cases h2 : b < v <;> simp [am_B, h1, h2] <;> omega
theorem c_Model_isType (d N : Nat) (p : Int) (I : Nat → Int → Int) (L : Nat → Int → Int64) (h0 : 0 ≤ I 53 2) (h1 : I 53 2 ≤ 80) : am_call (d + 2) 137 [.inr (.inr (some 53)), .inl p] (am_GS N, am_GR, I, L) = some (some (.inl (am_B (0 ≤ p ∧ p < I 53 2))), (am_GS N, am_GR, I, L)) := by
  rw [e_137]
  simp (disch := omega) only [s_137_0, s_137_1, s_137_2, s_137_3, s_137_6, s_137_7, s_137_8, s_137_11, am_bd_s, Option.toList_some, Option.toList_none, List.cons_append, List.nil_append, am_c1_i, am_c1_n, am_c1_r, am_wr_eq, c_Model_isIn, am_B2, if_true]
  unfold am_B
  by_cases h2 : p < I 53 2 <;> by_cases h3 : 0 ≤ p <;> simp [h2, h3] <;> omega
theorem s_constructor (d N : Nat) (p : Int) (I : Nat → Int → Int) (L : Nat → Int → Int64) (h : am_RTI I) : ∃ r I1, am_call (d + 3) 112 [.inr (.inr (some 1)), .inl p] (am_GS N, am_GR, I, L) = some (some (.inl r), (am_GS N, am_GR, I1, L)) ∧ ∃ I2, am_call (d + 3) 134 [.inr (.inr (some 53)), .inl p] (am_GS N, am_GR, I1, L) = some (some (.inl r), (am_GS N, am_GR, I2, L)) ∧
    ((I1 = I ∧ I2 = I) ∨ (0 ≤ p ∧ p ≤ 2 ∧ I 2 1 < 8 ∧ I2 = am_uI (am_uI (am_uI (am_uI I 3 (I 2 1) p) 2 1 (I 2 1 + 1)) 54 (I 53 0) p) 53 0 (I 53 0 + 1))) := by
  have h' := h
  obtain ⟨a1, a2, a3, -⟩ := h'
  rw [e_112]
  simp only [s_112_0, s_112_1, s_112_4, s_112_5, s_112_8, am_bd_s, Option.toList_some, Option.toList_none, List.cons_append, List.nil_append, am_c1_i, am_c1_n, am_c1_r]
  rw [e_71]
  by_cases q0 : p < 0
  · refine ⟨-2, I, by simp (disch := omega) only [s_71_0, s_71_1, s_71_4, s_71_5, s_71_6, s_71_9, s_71_11, s_71_12, s_71_13, s_71_16, s_71_18, s_71_21, s_71_23, s_71_24, s_71_25, s_71_28, s_71_29, s_71_32, s_71_33, s_71_34, s_71_35, s_71_36, s_71_39, s_71_40, s_71_41, s_71_42, s_71_45, s_112_0, s_112_1, s_112_4, s_112_5, s_112_8, am_bd_s, Option.toList_some, Option.toList_none, List.cons_append, List.nil_append, am_c1_i, am_c1_n, am_c1_r, if_pos q0], I, ?_, Or.inl ⟨rfl, rfl⟩⟩
    rw [e_134]
    simp (disch := omega) only [s_134_0, s_134_1, s_134_2, s_134_3, s_134_6, s_134_9, s_134_11, s_134_12, s_134_13, s_134_16, s_134_18, s_134_21, s_134_23, s_134_24, s_134_25, s_134_28, s_134_29, s_134_32, s_134_33, s_134_34, s_134_35, s_134_36, s_134_39, s_134_40, s_134_41, s_134_44, s_134_45, s_134_48, s_134_49, s_134_50, am_bd_s, Option.toList_some, Option.toList_none, List.cons_append, List.nil_append, am_c1_i, am_c1_n, am_c1_r, c_Model_isIn, am_B0, if_pos]
  by_cases q1 : 2 < p
  · refine ⟨-2, I, by simp (disch := omega) only [s_71_0, s_71_1, s_71_4, s_71_5, s_71_6, s_71_9, s_71_11, s_71_12, s_71_13, s_71_16, s_71_18, s_71_21, s_71_23, s_71_24, s_71_25, s_71_28, s_71_29, s_71_32, s_71_33, s_71_34, s_71_35, s_71_36, s_71_39, s_71_40, s_71_41, s_71_42, s_71_45, s_112_0, s_112_1, s_112_4, s_112_5, s_112_8, am_bd_s, Option.toList_some, Option.toList_none, List.cons_append, List.nil_append, am_c1_i, am_c1_n, am_c1_r, if_neg q0, if_pos q1], I, ?_, Or.inl ⟨rfl, rfl⟩⟩
    rw [e_134]
    simp (disch := omega) only [s_134_0, s_134_1, s_134_2, s_134_3, s_134_6, s_134_9, s_134_11, s_134_12, s_134_13, s_134_16, s_134_18, s_134_21, s_134_23, s_134_24, s_134_25, s_134_28, s_134_29, s_134_32, s_134_33, s_134_34, s_134_35, s_134_36, s_134_39, s_134_40, s_134_41, s_134_44, s_134_45, s_134_48, s_134_49, s_134_50, am_bd_s, Option.toList_some, Option.toList_none, List.cons_append, List.nil_append, am_c1_i, am_c1_n, am_c1_r, c_Model_isIn, am_B0, if_pos]
  by_cases q2 : I 2 1 < 8
  · refine ⟨I 2 1, am_uI (am_uI I 3 (I 2 1) p) 2 1 (I 2 1 + 1), ?_, am_uI (am_uI (am_uI (am_uI I 3 (I 2 1) p) 2 1 (I 2 1 + 1)) 54 (I 53 0) p) 53 0 (I 53 0 + 1), ?_, Or.inr ⟨by omega, by omega, q2, rfl⟩⟩
    · simp (disch := omega) only [s_71_0, s_71_1, s_71_4, s_71_5, s_71_6, s_71_9, s_71_11, s_71_12, s_71_13, s_71_16, s_71_18, s_71_21, s_71_23, s_71_24, s_71_25, s_71_28, s_71_29, s_71_32, s_71_33, s_71_34, s_71_35, s_71_36, s_71_39, s_71_40, s_71_41, s_71_42, s_71_45, s_112_0, s_112_1, s_112_4, s_112_5, s_112_8, am_bd_s, Option.toList_some, Option.toList_none, List.cons_append, List.nil_append, am_c1_i, am_c1_n, am_c1_r, in_3, if_neg q0, if_neg q1, if_pos q2, if_pos, am_uI_c, Nat.reduceEqDiff, ↓reduceIte, am_wr_eq]
    · rw [e_134]
      simp (disch := omega) only [s_134_0, s_134_1, s_134_2, s_134_3, s_134_6, s_134_9, s_134_11, s_134_12, s_134_13, s_134_16, s_134_18, s_134_21, s_134_23, s_134_24, s_134_25, s_134_28, s_134_29, s_134_32, s_134_33, s_134_34, s_134_35, s_134_36, s_134_39, s_134_40, s_134_41, s_134_44, s_134_45, s_134_48, s_134_49, s_134_50, am_bd_s, Option.toList_some, Option.toList_none, List.cons_append, List.nil_append, am_c1_i, am_c1_n, am_c1_r, c_Model_isIn, am_B0, if_pos, if_neg, in_54, am_uI_c, Nat.reduceEqDiff, ↓reduceIte, am_up_s, am_wr_eq, Int.add_sub_cancel, a3]
  · refine ⟨-3, I, by simp (disch := omega) only [s_71_0, s_71_1, s_71_4, s_71_5, s_71_6, s_71_9, s_71_11, s_71_12, s_71_13, s_71_16, s_71_18, s_71_21, s_71_23, s_71_24, s_71_25, s_71_28, s_71_29, s_71_32, s_71_33, s_71_34, s_71_35, s_71_36, s_71_39, s_71_40, s_71_41, s_71_42, s_71_45, s_112_0, s_112_1, s_112_4, s_112_5, s_112_8, am_bd_s, Option.toList_some, Option.toList_none, List.cons_append, List.nil_append, am_c1_i, am_c1_n, am_c1_r, if_neg q0, if_neg q1, if_neg q2], I, ?_, Or.inl ⟨rfl, rfl⟩⟩
    rw [e_134]
    simp (disch := omega) only [s_134_0, s_134_1, s_134_2, s_134_3, s_134_6, s_134_9, s_134_11, s_134_12, s_134_13, s_134_16, s_134_18, s_134_21, s_134_23, s_134_24, s_134_25, s_134_28, s_134_29, s_134_32, s_134_33, s_134_34, s_134_35, s_134_36, s_134_39, s_134_40, s_134_41, s_134_44, s_134_45, s_134_48, s_134_49, s_134_50, am_bd_s, Option.toList_some, Option.toList_none, List.cons_append, List.nil_append, am_c1_i, am_c1_n, am_c1_r, c_Model_isIn, am_B0, if_neg, if_pos]
