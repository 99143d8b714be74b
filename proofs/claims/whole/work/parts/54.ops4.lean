/-! superOf() -/
theorem am_x3 (c : Int) : 3 * c = c * 3 := Int.mul_comm 3 c
theorem am_x4 (c : Int) : 4 * c = c * 4 := Int.mul_comm 4 c
theorem am_x6 (c : Int) : 6 * c = c * 6 := Int.mul_comm 6 c
theorem l_hasAs (d N : Nat) (c o : Int) (I : Nat → Int → Int) (L : Nat → Int → Int64) (c0 : 0 ≤ c) (c1 : c < 8) (hs : I 12 c ≤ 3) : ∀ (n : Nat) (t : Int), 0 ≤ t → t + n = I 12 c → am_go0 (am_call (d + 1)) 4 2 [some (.inr (.inr (some 10))), some (.inl c), some (.inl o), some (.inl t)] [] (am_GS N, am_GR, I, L) = some (some (.inl (am_B (am_fd (fun k => I 13 (c * 3 + k) = o) n t ≠ -1))), (am_GS N, am_GR, I, L)) := by
  intro n
  induction n with
  | zero =>
    intro t h0 h1
    rw [s_4_2]
    simp (disch := omega) only [s_4_0, s_4_1, s_4_3, s_4_4, s_4_7, s_4_8, s_4_9, s_4_12, s_4_13, s_4_14, s_4_15, s_4_18, s_4_19, s_4_22, s_4_23, s_4_24, s_4_27, s_4_30, s_4_31, am_bd_s, Option.toList_some, Option.toList_none, List.cons_append, List.nil_append, am_c1_i, am_c1_n, am_c1_r, in_12, if_pos, if_neg, am_fd]
    simp [am_B]
  | succ n ih =>
    intro t h0 h1
    have ih := ih (t + 1) (by omega) (by omega)
    unfold am_fd
    by_cases q : I 13 (c * 3 + t) = o
    · rw [s_4_2, if_pos q]
      simp (disch := omega) only [s_4_0, s_4_1, s_4_3, s_4_4, s_4_7, s_4_8, s_4_9, s_4_12, s_4_13, s_4_14, s_4_15, s_4_18, s_4_19, s_4_22, s_4_23, s_4_24, s_4_27, s_4_30, s_4_31, am_bd_s, Option.toList_some, Option.toList_none, List.cons_append, List.nil_append, am_c1_i, am_c1_n, am_c1_r, in_12, if_pos, c_Classes_superAt, if_pos q]
      have e : t ≠ -1 := by omega
      simp [am_B, e]
    · rw [s_4_2, if_neg q]
      simp (disch := omega) only [s_4_0, s_4_1, s_4_3, s_4_4, s_4_7, s_4_8, s_4_9, s_4_12, s_4_13, s_4_14, s_4_15, s_4_18, s_4_19, s_4_22, s_4_23, s_4_24, s_4_27, s_4_30, s_4_31, am_bd_s, Option.toList_some, Option.toList_none, List.cons_append, List.nil_append, am_c1_i, am_c1_n, am_c1_r, in_12, if_pos, c_Classes_superAt, if_neg q, am_wr_eq]
      exact ih
theorem c_hasAsSuper (d N : Nat) (c o : Int) (I : Nat → Int → Int) (L : Nat → Int → Int64) (c0 : 0 ≤ c) (c1 : c < 8) (h0 : 0 ≤ I 12 c) (hs : I 12 c ≤ 3) : am_call (d + 2) 4 [.inr (.inr (some 10)), .inl c, .inl o] (am_GS N, am_GR, I, L) = some (some (.inl (am_B (am_fd (fun k => I 13 (c * 3 + k) = o) (I 12 c).toNat 0 ≠ -1))), (am_GS N, am_GR, I, L)) := by
  rw [e_4]
  simp only [s_4_0, s_4_1, am_bd_s, Option.toList_some, Option.toList_none, List.cons_append, List.nil_append, am_c1_i, am_c1_n, am_c1_r]
  exact l_hasAs d N c o I L c0 c1 hs _ 0 (by omega) (by omega)
theorem l_msup (cl : am_C) (N : Nat) (c o : Int) (I : Nat → Int → Int) (L : Nat → Int → Int64) (c0 : 0 ≤ c) (c1 : c < 8) (hs : I 62 c ≤ 3) : ∀ (n : Nat) (t : Int), 0 ≤ t → t + n = I 62 c → am_go0 cl 142 26 [some (.inr (.inr (some 53))), some (.inl c), some (.inl o), some (.inl t)] [] (am_GS N, am_GR, I, L) = if am_fd (fun k => I 63 (c * 3 + k) = o) n t = -1 then am_go0 cl 142 59 [some (.inr (.inr (some 53))), some (.inl c), some (.inl o), some (.inl (I 62 c))] [] (am_GS N, am_GR, I, L) else some (some (.inl (-2)), (am_GS N, am_GR, I, L)) := by
  intro n
  induction n with
  | zero =>
    intro t h0 h1
    have e : t = I 62 c := by omega
    rw [s_142_26, am_fd, if_pos rfl]
    simp (disch := omega) only [s_142_27, s_142_28, s_142_31, s_142_32, s_142_33, in_62, if_pos, if_neg]
    rw [e]
  | succ n ih =>
    intro t h0 h1
    have ih := ih (t + 1) (by omega) (by omega)
    unfold am_fd
    have e3 : 3 * c + t = c * 3 + t := by omega
    by_cases q : I 63 (c * 3 + t) = o
    · rw [s_142_26, if_pos q, if_neg (show ¬ t = -1 by omega)]
      simp (disch := omega) only [s_142_27, s_142_28, s_142_31, s_142_32, s_142_33, s_142_36, s_142_37, s_142_40, s_142_41, s_142_42, s_142_43, s_142_44, s_142_45, s_142_46, s_142_47, s_142_50, s_142_52, in_62, in_63, if_pos, am_wr_eq, e3, if_pos q]
    · rw [s_142_26, if_neg q]
      simp (disch := omega) only [s_142_27, s_142_28, s_142_31, s_142_32, s_142_33, s_142_36, s_142_37, s_142_40, s_142_41, s_142_42, s_142_43, s_142_44, s_142_45, s_142_46, s_142_47, s_142_53, s_142_56, am_bd_s, Option.toList_some, Option.toList_none, List.cons_append, List.nil_append, am_c1_i, am_c1_n, am_c1_r, in_62, in_63, if_pos, am_wr_eq, e3, if_neg q]
      exact ih
theorem s_superOf (d N : Nat) (c o : Int) (I : Nat → Int → Int) (L : Nat → Int → Int64) (h : am_RCI I) : ∃ r I1, am_call (d + 5) 116 [.inr (.inr (some 1)), .inl c, .inl o] (am_GS N, am_GR, I, L) = some (some (.inl r), (am_GS N, am_GR, I1, L)) ∧ ∃ I2, am_call (d + 5) 142 [.inr (.inr (some 53)), .inl c, .inl o] (am_GS N, am_GR, I1, L) = some (some (.inl r), (am_GS N, am_GR, I2, L)) ∧
    ((I1 = I ∧ I2 = I) ∨ (0 ≤ c ∧ c < I 10 4 ∧ 0 ≤ o ∧ o < c ∧ I 12 c < 3 ∧ I2 = am_uI (am_uI (am_uI (am_uI (am_uI (am_uI I 13 (c * 3 + I 12 c) o) 12 c (I 12 c + 1)) 33 9 0) 63 (c * 3 + I 12 c) o) 62 c (I 12 c + 1)) 53 28 0)) := by
  obtain ⟨a1, a2, a3, a4, -⟩ := h
  rw [e_116]
  simp only [s_116_0, s_116_1, s_116_2, s_116_5, s_116_6, s_116_7, s_116_10, s_116_13, am_bd_s, Option.toList_some, Option.toList_none, List.cons_append, List.nil_append, am_c1_i, am_c1_n, am_c1_r]
  rw [e_2]
  have cl0 : ∀ r : Int, am_call (d + 3) 3 [.inr (.inr (some 10)), .inl r] (am_GS N, am_GR, I, L) = some (some (.inl (am_B (0 ≤ r ∧ r < I 10 4))), (am_GS N, am_GR, I, L)) := fun r => c_Classes_has (d + 2) N r I L
  by_cases qc : ¬ (0 ≤ c ∧ c < I 10 4)
  · refine ⟨-2, I, by simp (disch := omega) only [s_2_0, s_2_1, s_2_2, s_2_5, s_2_8, s_2_9, s_2_12, s_2_13, s_2_14, s_2_17, s_2_18, s_2_19, s_2_20, s_2_23, s_2_26, s_2_28, s_2_29, s_2_30, s_2_33, s_2_34, s_2_35, s_2_36, s_2_39, s_2_41, s_2_42, s_2_43, s_2_46, s_2_47, s_2_48, s_2_49, s_2_50, s_2_53, s_2_54, s_2_55, s_2_56, s_2_57, s_2_58, s_2_59, s_2_62, s_2_63, s_2_64, s_2_65, s_2_66, s_2_67, s_2_68, s_2_69, s_2_72, s_2_73, s_2_74, s_116_0, s_116_1, s_116_2, s_116_5, s_116_6, s_116_7, s_116_10, s_116_13, am_bd_s, Option.toList_some, Option.toList_none, List.cons_append, List.nil_append, am_c1_i, am_c1_n, am_c1_r, cl0, am_B0, if_pos, c_afterChange_n], I, ?_, Or.inl ⟨rfl, rfl⟩⟩
    rw [e_142]
    simp (disch := omega) only [s_142_0, s_142_1, s_142_2, s_142_5, s_142_8, s_142_9, s_142_10, s_142_13, s_142_16, s_142_17, s_142_18, s_142_21, s_142_23, s_142_24, s_142_25, s_142_27, s_142_28, s_142_31, s_142_32, s_142_33, s_142_36, s_142_37, s_142_40, s_142_41, s_142_42, s_142_43, s_142_44, s_142_45, s_142_46, s_142_47, s_142_50, s_142_52, s_142_53, s_142_56, s_142_59, s_142_60, s_142_63, s_142_64, s_142_65, s_142_66, s_142_69, s_142_71, s_142_72, s_142_73, s_142_76, s_142_77, s_142_78, s_142_79, s_142_80, s_142_83, s_142_84, s_142_85, s_142_86, s_142_87, s_142_88, s_142_89, s_142_92, s_142_93, s_142_94, s_142_95, s_142_96, s_142_97, s_142_98, s_142_99, s_142_100, s_142_103, s_142_104, s_142_105, s_142_108, am_bd_s, Option.toList_some, Option.toList_none, List.cons_append, List.nil_append, am_c1_i, am_c1_n, am_c1_r, c_Model_isClass, am_B0, if_pos]
  obtain ⟨c0, c1⟩ := Classical.not_not.mp qc
  obtain ⟨b1, b2, b3, b4, b5, b6, b7, b8⟩ := a4 c c0 c1
  by_cases qo : ¬ (0 ≤ o ∧ o < c)
  · refine ⟨-2, I, ?_, I, ?_, Or.inl ⟨rfl, rfl⟩⟩
    · by_cases q : o < 0
      · simp (disch := omega) only [s_2_0, s_2_1, s_2_2, s_2_5, s_2_8, s_2_9, s_2_12, s_2_13, s_2_14, s_2_17, s_2_18, s_2_19, s_2_20, s_2_23, s_2_26, s_2_28, s_2_29, s_2_30, s_2_33, s_2_34, s_2_35, s_2_36, s_2_39, s_2_41, s_2_42, s_2_43, s_2_46, s_2_47, s_2_48, s_2_49, s_2_50, s_2_53, s_2_54, s_2_55, s_2_56, s_2_57, s_2_58, s_2_59, s_2_62, s_2_63, s_2_64, s_2_65, s_2_66, s_2_67, s_2_68, s_2_69, s_2_72, s_2_73, s_2_74, s_116_0, s_116_1, s_116_2, s_116_5, s_116_6, s_116_7, s_116_10, s_116_13, am_bd_s, Option.toList_some, Option.toList_none, List.cons_append, List.nil_append, am_c1_i, am_c1_n, am_c1_r, cl0, am_B0, if_pos, if_neg, c_afterChange_n]
      · simp (disch := omega) only [s_2_0, s_2_1, s_2_2, s_2_5, s_2_8, s_2_9, s_2_12, s_2_13, s_2_14, s_2_17, s_2_18, s_2_19, s_2_20, s_2_23, s_2_26, s_2_28, s_2_29, s_2_30, s_2_33, s_2_34, s_2_35, s_2_36, s_2_39, s_2_41, s_2_42, s_2_43, s_2_46, s_2_47, s_2_48, s_2_49, s_2_50, s_2_53, s_2_54, s_2_55, s_2_56, s_2_57, s_2_58, s_2_59, s_2_62, s_2_63, s_2_64, s_2_65, s_2_66, s_2_67, s_2_68, s_2_69, s_2_72, s_2_73, s_2_74, s_116_0, s_116_1, s_116_2, s_116_5, s_116_6, s_116_7, s_116_10, s_116_13, am_bd_s, Option.toList_some, Option.toList_none, List.cons_append, List.nil_append, am_c1_i, am_c1_n, am_c1_r, cl0, am_B0, if_pos, if_neg, c_afterChange_n]
    · rw [e_142]
      by_cases q : 0 ≤ o ∧ o < I 53 9
      · simp (disch := omega) only [s_142_0, s_142_1, s_142_2, s_142_5, s_142_8, s_142_9, s_142_10, s_142_13, s_142_16, s_142_17, s_142_18, s_142_21, s_142_23, s_142_24, s_142_25, s_142_27, s_142_28, s_142_31, s_142_32, s_142_33, s_142_36, s_142_37, s_142_40, s_142_41, s_142_42, s_142_43, s_142_44, s_142_45, s_142_46, s_142_47, s_142_50, s_142_52, s_142_53, s_142_56, s_142_59, s_142_60, s_142_63, s_142_64, s_142_65, s_142_66, s_142_69, s_142_71, s_142_72, s_142_73, s_142_76, s_142_77, s_142_78, s_142_79, s_142_80, s_142_83, s_142_84, s_142_85, s_142_86, s_142_87, s_142_88, s_142_89, s_142_92, s_142_93, s_142_94, s_142_95, s_142_96, s_142_97, s_142_98, s_142_99, s_142_100, s_142_103, s_142_104, s_142_105, s_142_108, am_bd_s, Option.toList_some, Option.toList_none, List.cons_append, List.nil_append, am_c1_i, am_c1_n, am_c1_r, c_Model_isClass, am_B0, if_pos, if_neg]
      · simp (disch := omega) only [s_142_0, s_142_1, s_142_2, s_142_5, s_142_8, s_142_9, s_142_10, s_142_13, s_142_16, s_142_17, s_142_18, s_142_21, s_142_23, s_142_24, s_142_25, s_142_27, s_142_28, s_142_31, s_142_32, s_142_33, s_142_36, s_142_37, s_142_40, s_142_41, s_142_42, s_142_43, s_142_44, s_142_45, s_142_46, s_142_47, s_142_50, s_142_52, s_142_53, s_142_56, s_142_59, s_142_60, s_142_63, s_142_64, s_142_65, s_142_66, s_142_69, s_142_71, s_142_72, s_142_73, s_142_76, s_142_77, s_142_78, s_142_79, s_142_80, s_142_83, s_142_84, s_142_85, s_142_86, s_142_87, s_142_88, s_142_89, s_142_92, s_142_93, s_142_94, s_142_95, s_142_96, s_142_97, s_142_98, s_142_99, s_142_100, s_142_103, s_142_104, s_142_105, s_142_108, am_bd_s, Option.toList_some, Option.toList_none, List.cons_append, List.nil_append, am_c1_i, am_c1_n, am_c1_r, c_Model_isClass, am_B0, if_pos, if_neg]
  obtain ⟨o0, o1⟩ := Classical.not_not.mp qo
  have hfd : am_fd (fun k => I 63 (c * 3 + k) = o) (I 12 c).toNat 0 = am_fd (fun k => I 13 (c * 3 + k) = o) (I 12 c).toNat 0 := by
    refine am_fd_congr _ _ _ _ (fun i i0 i1 => ?_)
    rw [(b7 i i0 (by omega)).1]
  have hm := l_msup (am_call (d + 4)) N c o I L c0 (by omega) (by omega) (I 12 c).toNat 0 (by omega) (by omega)
  rw [hfd] at hm
  by_cases qf : am_fd (fun k => I 13 (c * 3 + k) = o) (I 12 c).toNat 0 = -1
  · rw [if_pos qf] at hm
    by_cases q3 : I 12 c < 3
    · refine ⟨I 12 c + 1, am_uI (am_uI (am_uI I 13 (c * 3 + I 12 c) o) 12 c (I 12 c + 1)) 33 9 0, ?_, am_uI (am_uI (am_uI (am_uI (am_uI (am_uI I 13 (c * 3 + I 12 c) o) 12 c (I 12 c + 1)) 33 9 0) 63 (c * 3 + I 12 c) o) 62 c (I 12 c + 1)) 53 28 0, ?_, Or.inr ⟨c0, c1, o0, o1, q3, rfl⟩⟩
      · simp (disch := omega) only [s_2_0, s_2_1, s_2_2, s_2_5, s_2_8, s_2_9, s_2_12, s_2_13, s_2_14, s_2_17, s_2_18, s_2_19, s_2_20, s_2_23, s_2_26, s_2_28, s_2_29, s_2_30, s_2_33, s_2_34, s_2_35, s_2_36, s_2_39, s_2_41, s_2_42, s_2_43, s_2_46, s_2_47, s_2_48, s_2_49, s_2_50, s_2_53, s_2_54, s_2_55, s_2_56, s_2_57, s_2_58, s_2_59, s_2_62, s_2_63, s_2_64, s_2_65, s_2_66, s_2_67, s_2_68, s_2_69, s_2_72, s_2_73, s_2_74, s_116_0, s_116_1, s_116_2, s_116_5, s_116_6, s_116_7, s_116_10, s_116_13, am_bd_s, Option.toList_some, Option.toList_none, List.cons_append, List.nil_append, am_c1_i, am_c1_n, am_c1_r, cl0, c_hasAsSuper, qf, am_B0, ne_eq, not_true_eq_false, not_false_eq_true, if_true, if_pos, if_neg, in_12, in_13, am_uI_c, Nat.reduceEqDiff, ↓reduceIte, am_up_s, am_wr_eq, c_afterChange_p]
      · have hm2 := l_msup (am_call (d + 4)) N c o (am_uI (am_uI (am_uI I 13 (c * 3 + I 12 c) o) 12 c (I 12 c + 1)) 33 9 0) L c0 (by omega)
        simp only [am_uI_c, Nat.reduceEqDiff, ↓reduceIte] at hm2
        have hm2 := hm2 (by omega) (I 12 c).toNat 0 (by omega) (by omega)
        rw [hfd, if_pos qf] at hm2
        rw [e_142]
        simp (disch := first | omega | (simp only [am_uI_c, Nat.reduceEqDiff, ↓reduceIte, am_up_s] <;> omega)) only [s_142_0, s_142_1, s_142_2, s_142_5, s_142_8, s_142_9, s_142_10, s_142_13, s_142_16, s_142_17, s_142_18, s_142_24, s_142_25, am_bd_s, Option.toList_some, Option.toList_none, List.cons_append, List.nil_append, am_c1_i, am_c1_n, am_c1_r, c_Model_isClass, am_B0, if_pos, if_neg, am_uI_c, Nat.reduceEqDiff, ↓reduceIte, hm2]
        simp (disch := omega) only [s_142_59, s_142_60, s_142_63, s_142_64, s_142_65, s_142_66, s_142_72, s_142_73, s_142_76, s_142_77, s_142_78, s_142_79, s_142_80, s_142_83, s_142_84, s_142_85, s_142_86, s_142_87, s_142_88, s_142_89, s_142_92, s_142_93, s_142_94, s_142_95, s_142_96, s_142_97, s_142_98, s_142_99, s_142_100, s_142_103, s_142_104, s_142_105, s_142_108, am_bd_s, Option.toList_some, Option.toList_none, List.cons_append, List.nil_append, am_c1_i, am_c1_n, am_c1_r, in_62, in_63, if_pos, if_neg, am_uI_c, Nat.reduceEqDiff, ↓reduceIte, am_up_s, am_wr_eq, am_x3, b4, c_Model_away]
    · refine ⟨-3, I, ?_, I, ?_, Or.inl ⟨rfl, rfl⟩⟩
      · simp (disch := omega) only [s_2_0, s_2_1, s_2_2, s_2_5, s_2_8, s_2_9, s_2_12, s_2_13, s_2_14, s_2_17, s_2_18, s_2_19, s_2_20, s_2_23, s_2_26, s_2_28, s_2_29, s_2_30, s_2_33, s_2_34, s_2_35, s_2_36, s_2_39, s_2_41, s_2_42, s_2_43, s_2_46, s_2_47, s_2_48, s_2_49, s_2_50, s_2_53, s_2_54, s_2_55, s_2_56, s_2_57, s_2_58, s_2_59, s_2_62, s_2_63, s_2_64, s_2_65, s_2_66, s_2_67, s_2_68, s_2_69, s_2_72, s_2_73, s_2_74, s_116_0, s_116_1, s_116_2, s_116_5, s_116_6, s_116_7, s_116_10, s_116_13, am_bd_s, Option.toList_some, Option.toList_none, List.cons_append, List.nil_append, am_c1_i, am_c1_n, am_c1_r, cl0, c_hasAsSuper, qf, am_B0, ne_eq, not_true_eq_false, not_false_eq_true, if_true, if_pos, if_neg, in_12, c_afterChange_n]
      · rw [e_142]
        simp (disch := omega) only [s_142_0, s_142_1, s_142_2, s_142_5, s_142_8, s_142_9, s_142_10, s_142_13, s_142_16, s_142_17, s_142_18, s_142_24, s_142_25, am_bd_s, Option.toList_some, Option.toList_none, List.cons_append, List.nil_append, am_c1_i, am_c1_n, am_c1_r, c_Model_isClass, am_B0, if_pos, if_neg, hm]
        simp (disch := omega) only [s_142_59, s_142_60, s_142_63, s_142_64, s_142_65, s_142_66, s_142_69, s_142_71, in_62, if_pos, if_neg]
  · rw [if_neg qf] at hm
    refine ⟨-2, I, ?_, I, ?_, Or.inl ⟨rfl, rfl⟩⟩
    · simp (disch := omega) only [s_2_0, s_2_1, s_2_2, s_2_5, s_2_8, s_2_9, s_2_12, s_2_13, s_2_14, s_2_17, s_2_18, s_2_19, s_2_20, s_2_23, s_2_26, s_2_28, s_2_29, s_2_30, s_2_33, s_2_34, s_2_35, s_2_36, s_2_39, s_2_41, s_2_42, s_2_43, s_2_46, s_2_47, s_2_48, s_2_49, s_2_50, s_2_53, s_2_54, s_2_55, s_2_56, s_2_57, s_2_58, s_2_59, s_2_62, s_2_63, s_2_64, s_2_65, s_2_66, s_2_67, s_2_68, s_2_69, s_2_72, s_2_73, s_2_74, s_116_0, s_116_1, s_116_2, s_116_5, s_116_6, s_116_7, s_116_10, s_116_13, am_bd_s, Option.toList_some, Option.toList_none, List.cons_append, List.nil_append, am_c1_i, am_c1_n, am_c1_r, cl0, c_hasAsSuper, qf, am_B0, ne_eq, not_true_eq_false, not_false_eq_true, if_false, if_pos, if_neg, c_afterChange_n]
    · rw [e_142]
      simp (disch := omega) only [s_142_0, s_142_1, s_142_2, s_142_5, s_142_8, s_142_9, s_142_10, s_142_13, s_142_16, s_142_17, s_142_18, s_142_24, s_142_25, am_bd_s, Option.toList_some, Option.toList_none, List.cons_append, List.nil_append, am_c1_i, am_c1_n, am_c1_r, c_Model_isClass, am_B0, if_pos, if_neg, hm]
