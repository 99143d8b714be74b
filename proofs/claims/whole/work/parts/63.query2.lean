/-! part(), begun() -/
theorem c_DT_hasMember (d N : Nat) (x m : Int) (I : Nat → Int → Int) (L : Nat → Int → Int64) (h1 : I 33 9 ≤ 60) (h2 : I 10 4 ≤ 8) (h3 : ∀ y, 0 ≤ y → y < I 33 9 → 0 ≤ I 34 y ∧ I 34 y < I 10 4) (w : Bool) (hw : w = true ↔ ((0 ≤ x ∧ x < I 33 9) ∧ 0 ≤ m ∧ m < I 11 (I 34 x))) : am_call (d + 4) 127 [.inr (.inr (some 1)), .inl x, .inl m] (am_GS N, am_GR, I, L) = some (some (.inl (if w = true then 1 else 0)), (am_GS N, am_GR, I, L)) := by
  rw [e_127]
  by_cases q : ¬ (0 ≤ x ∧ x < I 33 9)
  · have e : ¬ w = true := fun z => q (hw.mp z).1
    rw [if_neg e]
    simp (disch := omega) only [s_127_0, s_127_1, s_127_4, s_127_5, s_127_8, s_127_11, s_127_12, s_127_15, s_127_16, s_127_19, s_127_20, s_127_23, s_127_24, s_127_27, s_127_30, s_127_31, s_127_34, s_127_35, am_bd_s, Option.toList_some, Option.toList_none, List.cons_append, List.nil_append, am_c1_i, am_c1_n, am_c1_r, if_true, if_false, c_Dictionaries_has, am_Bf, ↓if_pos, ↓if_neg, if_pos]
  have q := Classical.not_not.mp q
  obtain ⟨g1, g2⟩ := h3 x q.1 q.2
  by_cases q2 : 0 ≤ m ∧ m < I 11 (I 34 x)
  · rw [if_pos (hw.mpr ⟨q, q2⟩)]
    simp (disch := omega) only [s_127_0, s_127_1, s_127_4, s_127_5, s_127_8, s_127_11, s_127_12, s_127_15, s_127_16, s_127_19, s_127_20, s_127_23, s_127_24, s_127_27, s_127_30, s_127_31, s_127_34, s_127_35, am_bd_s, Option.toList_some, Option.toList_none, List.cons_append, List.nil_append, am_c1_i, am_c1_n, am_c1_r, if_true, if_false, c_Dictionaries_has, c_Dictionaries_classOf, c_Classes_hasMember, am_Bt, ↓if_pos, ↓if_neg, if_pos, if_neg]
  · have e : ¬ w = true := fun z => q2 (hw.mp z).2
    rw [if_neg e]
    simp (disch := omega) only [s_127_0, s_127_1, s_127_4, s_127_5, s_127_8, s_127_11, s_127_12, s_127_15, s_127_16, s_127_19, s_127_20, s_127_23, s_127_24, s_127_27, s_127_30, s_127_31, s_127_34, s_127_35, am_bd_s, Option.toList_some, Option.toList_none, List.cons_append, List.nil_append, am_c1_i, am_c1_n, am_c1_r, if_true, if_false, c_Dictionaries_has, c_Dictionaries_classOf, c_Classes_hasMember, am_Bt, am_Bf, ↓if_pos, ↓if_neg, if_pos, if_neg]
theorem c_Model_partMany (d N : Nat) (p : Int) (I : Nat → Int → Int) (L : Nat → Int → Int64) (h0 : 0 ≤ p) (h1 : p < 60) (h2 : 0 ≤ I 79 p) (h3 : I 79 p < 20) (h4 : 0 ≤ I 77 p) (h5 : I 77 p < 8) (h6 : 0 ≤ I 67 (I 79 p)) (h7 : I 67 (I 79 p) ≤ 3) (h8 : 0 ≤ I 62 (I 77 p)) (h9 : I 62 (I 77 p) ≤ 3) : am_call (d + 1) 160 [.inr (.inr (some 53)), .inl p] (am_GS N, am_GR, I, L) = some (some (.inl (I 67 (I 79 p) + I 62 (I 77 p))), (am_GS N, am_GR, I, L)) := by
  rw [e_160]
  simp (disch := omega) only [s_160_0, s_160_1, s_160_4, s_160_5, s_160_8, s_160_9, s_160_10, s_160_11, s_160_12, s_160_15, s_160_16, s_160_19, s_160_20, s_160_21, s_160_22, s_160_23, am_bd_s, Option.toList_some, Option.toList_none, List.cons_append, List.nil_append, am_c1_i, am_c1_n, am_c1_r, if_true, if_false, in_79, in_77, in_67, in_62, if_pos, am_wr_eq]
theorem q_part (d N : Nat) (x k : Int) (I : Nat → Int → Int) (L : Nat → Int → Int64) (hC : am_RCI I) (hI : am_RII I) (hD : am_RDI I L (fun _ => False)) (hM : am_RMI I) : ∃ r : am_V, am_call (d + 4) 124 [.inr (.inr (some 1)), .inl x, .inl k] (am_GS N, am_GR, I, L) = some (some r, (am_GS N, am_GR, I, L)) ∧ am_call (d + 4) 163 [.inr (.inr (some 53)), .inl x, .inl k] (am_GS N, am_GR, I, L) = some (some r, (am_GS N, am_GR, I, L)) := by
  obtain ⟨c1, c2, c3, c4, -⟩ := hC
  obtain ⟨i1, i2, i3, i4, -⟩ := hI
  obtain ⟨d1, d2, d3, d4⟩ := hD
  rw [e_124, e_163]
  by_cases q : ¬ (0 ≤ x ∧ x < I 33 9)
  · exact ⟨.inl (-2), by simp (disch := omega) only [s_124_0, s_124_1, s_124_4, s_124_5, s_124_8, s_124_11, s_124_12, s_124_15, s_124_16, s_124_17, s_124_20, s_124_21, s_124_24, s_124_27, s_124_29, s_124_30, s_124_31, s_124_34, s_124_35, s_124_36, s_124_39, am_bd_s, Option.toList_some, Option.toList_none, List.cons_append, List.nil_append, am_c1_i, am_c1_n, am_c1_r, if_true, if_false, ↓if_pos, ↓if_neg, c_Dictionaries_has, am_Bf, if_pos, if_neg], by simp (disch := omega) only [s_163_0, s_163_1, s_163_2, s_163_5, s_163_8, s_163_9, s_163_10, s_163_11, s_163_12, s_163_15, s_163_16, s_163_17, s_163_20, s_163_23, s_163_24, s_163_27, s_163_29, s_163_30, s_163_31, s_163_32, s_163_33, s_163_34, s_163_37, s_163_39, am_bd_s, Option.toList_some, Option.toList_none, List.cons_append, List.nil_append, am_c1_i, am_c1_n, am_c1_r, if_true, if_false, ↓if_pos, ↓if_neg, c_Model_isDictionary, am_Bf, if_pos, if_neg]⟩
  obtain ⟨q0, q1⟩ := Classical.not_not.mp q
  obtain ⟨b1, b2, b3, b4, b5, b6, b7, b8, b9, b10, b11, b12, b13, b14⟩ := d4 x q0 q1
  obtain ⟨-, -, -, -, -, -, s7, s8, s9, -⟩ := i4 (I 36 x) b9 b10
  obtain ⟨-, -, -, t4, t5, t6, -⟩ := c4 (I 34 x) b2 b3
  have hm := hM x q0 q1
  have e1 : I 67 (I 79 x) + I 62 (I 77 x) = I 18 (I 36 x) + I 12 (I 34 x) := by rw [b8, b1, s7, t4]
  have f1 : 0 ≤ I 67 (I 79 x) ∧ I 67 (I 79 x) ≤ 3 := by rw [b8]; omega
  have f2 : 0 ≤ I 62 (I 77 x) ∧ I 62 (I 77 x) ≤ 3 := by rw [b1]; omega
  by_cases qk : ¬ (0 ≤ k ∧ k < I 18 (I 36 x) + I 12 (I 34 x))
  · refine ⟨.inl (-2), ?_, by simp (disch := omega) only [s_163_0, s_163_1, s_163_2, s_163_5, s_163_8, s_163_9, s_163_10, s_163_11, s_163_12, s_163_15, s_163_16, s_163_17, s_163_20, s_163_23, s_163_24, s_163_27, s_163_29, s_163_30, s_163_31, s_163_32, s_163_33, s_163_34, s_163_37, s_163_39, am_bd_s, Option.toList_some, Option.toList_none, List.cons_append, List.nil_append, am_c1_i, am_c1_n, am_c1_r, if_true, if_false, ↓if_pos, ↓if_neg, c_Model_isDictionary, c_Model_partMany, c_Model_isIn, am_Bt, am_Bf, if_pos, if_neg, am_wr_eq]⟩
    by_cases z : k < 0
    · simp (disch := omega) only [s_124_0, s_124_1, s_124_4, s_124_5, s_124_8, s_124_11, s_124_12, s_124_15, s_124_16, s_124_17, s_124_20, s_124_21, s_124_24, s_124_27, s_124_29, s_124_30, s_124_31, s_124_34, s_124_35, s_124_36, s_124_39, am_bd_s, Option.toList_some, Option.toList_none, List.cons_append, List.nil_append, am_c1_i, am_c1_n, am_c1_r, if_true, if_false, ↓if_pos, ↓if_neg, c_Dictionaries_has, am_Bt, if_pos, if_neg]
    · simp (disch := omega) only [s_124_0, s_124_1, s_124_4, s_124_5, s_124_8, s_124_11, s_124_12, s_124_15, s_124_16, s_124_17, s_124_20, s_124_21, s_124_24, s_124_27, s_124_29, s_124_30, s_124_31, s_124_34, s_124_35, s_124_36, s_124_39, am_bd_s, Option.toList_some, Option.toList_none, List.cons_append, List.nil_append, am_c1_i, am_c1_n, am_c1_r, if_true, if_false, ↓if_pos, ↓if_neg, c_Dictionaries_has, c_Dictionaries_partsOf, am_Bt, if_pos, if_neg]
  have qk := Classical.not_not.mp qk
  have w := (b13 k qk.1 (by omega)).1
  have e6 : 6 * x + k = x * 6 + k := by omega
  exact ⟨.inl (I 38 (x * 6 + k)), by simp (disch := omega) only [s_124_0, s_124_1, s_124_4, s_124_5, s_124_8, s_124_11, s_124_12, s_124_15, s_124_16, s_124_17, s_124_20, s_124_21, s_124_24, s_124_27, s_124_29, s_124_30, s_124_31, s_124_34, s_124_35, s_124_36, s_124_39, am_bd_s, Option.toList_some, Option.toList_none, List.cons_append, List.nil_append, am_c1_i, am_c1_n, am_c1_r, if_true, if_false, ↓if_pos, ↓if_neg, c_Dictionaries_has, c_Dictionaries_partsOf, c_Dictionaries_partAt, am_Bt, if_pos, if_neg], by simp (disch := omega) only [s_163_0, s_163_1, s_163_2, s_163_5, s_163_8, s_163_9, s_163_10, s_163_11, s_163_12, s_163_15, s_163_16, s_163_17, s_163_20, s_163_23, s_163_24, s_163_27, s_163_29, s_163_30, s_163_31, s_163_32, s_163_33, s_163_34, s_163_37, s_163_39, am_bd_s, Option.toList_some, Option.toList_none, List.cons_append, List.nil_append, am_c1_i, am_c1_n, am_c1_r, if_true, if_false, ↓if_pos, ↓if_neg, c_Model_isDictionary, c_Model_partMany, c_Model_isIn, am_Bt, if_pos, if_neg, am_wr_eq, in_80, e6, w]⟩
theorem am_sim_part (x k : Int) : am_Sim 124 163 [.inl x, .inl k] := am_sim_q (fun N I L h => by
  obtain ⟨-, hC, hI, -, -, hD, hM, -⟩ := h
  exact q_part 5 N x k I L hC hI hD hM)
theorem q_begun (d N : Nat) (x m : Int) (I : Nat → Int → Int) (L : Nat → Int → Int64) (hC : am_RCI I) (hD : am_RDI I L (fun _ => False)) : ∃ r : am_V, am_call (d + 5) 130 [.inr (.inr (some 1)), .inl x, .inl m] (am_GS N, am_GR, I, L) = some (some r, (am_GS N, am_GR, I, L)) ∧ am_call (d + 5) 180 [.inr (.inr (some 53)), .inl x, .inl m] (am_GS N, am_GR, I, L) = some (some r, (am_GS N, am_GR, I, L)) := by
  obtain ⟨c1, c2, c3, c4, -⟩ := hC
  obtain ⟨d1, d2, d3, d4⟩ := hD
  have h3 : ∀ y, 0 ≤ y → y < I 33 9 → 0 ≤ I 34 y ∧ I 34 y < I 10 4 := fun y y0 y1 => by
    obtain ⟨-, b2, b3, -⟩ := d4 y y0 y1; exact ⟨b2, b3⟩
  rw [e_130, e_180]
  by_cases q : ¬ (0 ≤ x ∧ x < I 33 9)
  · have e := c_DT_hasMember d N x m I L d2 c2 h3 false (by constructor; intro z; cases z; intro z; exact absurd z.1 q)
    exact ⟨.inl (-2), by simp (disch := omega) only [s_130_0, s_130_1, s_130_2, s_130_3, s_130_6, s_130_9, s_130_10, s_130_13, s_130_14, s_130_15, s_130_18, s_130_21, s_130_23, am_bd_s, Option.toList_some, Option.toList_none, List.cons_append, List.nil_append, am_c1_i, am_c1_n, am_c1_r, if_true, if_false, e, Bool.false_eq_true, ↓if_pos, ↓if_neg, if_pos, if_neg], by simp (disch := omega) only [s_180_0, s_180_1, s_180_2, s_180_5, s_180_8, s_180_9, s_180_10, s_180_11, s_180_14, s_180_15, s_180_18, s_180_19, s_180_20, s_180_21, s_180_22, s_180_23, s_180_26, s_180_29, s_180_30, s_180_33, s_180_34, s_180_35, s_180_36, s_180_37, s_180_38, s_180_39, s_180_42, s_180_44, am_bd_s, Option.toList_some, Option.toList_none, List.cons_append, List.nil_append, am_c1_i, am_c1_n, am_c1_r, if_true, if_false, ↓if_pos, ↓if_neg, c_Model_isDictionary, am_Bf, if_pos, if_neg]⟩
  obtain ⟨q0, q1⟩ := Classical.not_not.mp q
  obtain ⟨b1, b2, b3, b4, b5, b6, b7, b8, b9, b10, b11, b12, b13, b14⟩ := d4 x q0 q1
  obtain ⟨t1, t2, t3, -⟩ := c4 (I 34 x) b2 b3
  have f1 : I 61 (I 77 x) = I 11 (I 34 x) := by rw [b1, t1]
  by_cases qm : ¬ (0 ≤ m ∧ m < I 11 (I 34 x))
  · have e := c_DT_hasMember d N x m I L d2 c2 h3 false (by constructor; intro z; cases z; intro z; exact absurd z.2 qm)
    exact ⟨.inl (-2), by simp (disch := omega) only [s_130_0, s_130_1, s_130_2, s_130_3, s_130_6, s_130_9, s_130_10, s_130_13, s_130_14, s_130_15, s_130_18, s_130_21, s_130_23, am_bd_s, Option.toList_some, Option.toList_none, List.cons_append, List.nil_append, am_c1_i, am_c1_n, am_c1_r, if_true, if_false, e, Bool.false_eq_true, ↓if_pos, ↓if_neg, if_pos, if_neg], by simp (disch := omega) only [s_180_0, s_180_1, s_180_2, s_180_5, s_180_8, s_180_9, s_180_10, s_180_11, s_180_14, s_180_15, s_180_18, s_180_19, s_180_20, s_180_21, s_180_22, s_180_23, s_180_26, s_180_29, s_180_30, s_180_33, s_180_34, s_180_35, s_180_36, s_180_37, s_180_38, s_180_39, s_180_42, s_180_44, am_bd_s, Option.toList_some, Option.toList_none, List.cons_append, List.nil_append, am_c1_i, am_c1_n, am_c1_r, if_true, if_false, ↓if_pos, ↓if_neg, c_Model_isDictionary, c_Model_isIn, in_77, in_61, am_wr_eq, am_Bt, am_Bf, if_pos, if_neg]⟩
  have qm := Classical.not_not.mp qm
  have e := c_DT_hasMember d N x m I L d2 c2 h3 true (by constructor; intro _; exact ⟨⟨q0, q1⟩, qm⟩; intro _; rfl)
  have w := (b14 m qm.1 (by omega)).1
  have e4 : 4 * x + m = x * 4 + m := by omega
  exact ⟨.inl (I 32 (x * 4 + m)), by simp (disch := omega) only [s_130_0, s_130_1, s_130_2, s_130_3, s_130_6, s_130_9, s_130_10, s_130_13, s_130_14, s_130_15, s_130_18, s_130_21, s_130_23, am_bd_s, Option.toList_some, Option.toList_none, List.cons_append, List.nil_append, am_c1_i, am_c1_n, am_c1_r, if_true, if_false, e, ↓if_pos, ↓if_neg, c_Values_begunOf, if_pos, if_neg], by simp (disch := omega) only [s_180_0, s_180_1, s_180_2, s_180_5, s_180_8, s_180_9, s_180_10, s_180_11, s_180_14, s_180_15, s_180_18, s_180_19, s_180_20, s_180_21, s_180_22, s_180_23, s_180_26, s_180_29, s_180_30, s_180_33, s_180_34, s_180_35, s_180_36, s_180_37, s_180_38, s_180_39, s_180_42, s_180_44, am_bd_s, Option.toList_some, Option.toList_none, List.cons_append, List.nil_append, am_c1_i, am_c1_n, am_c1_r, if_true, if_false, ↓if_pos, ↓if_neg, c_Model_isDictionary, c_Model_isIn, in_77, in_61, in_84, am_wr_eq, am_Bt, if_pos, if_neg, e4, w]⟩
theorem am_sim_begun (x m : Int) : am_Sim 130 180 [.inl x, .inl m] := am_sim_q (fun N I L h => by
  obtain ⟨-, hC, -, -, -, hD, -⟩ := h
  exact q_begun 4 N x m I L hC hD)
