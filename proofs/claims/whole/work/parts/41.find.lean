/-! Searches. -/
def am_fd (P : Int → Prop) [DecidablePred P] : Nat → Int → Int
  | 0, _ => -1
  | n + 1, t => if P t then t else am_fd P n (t + 1)
theorem am_fd_rg (P : Int → Prop) [DecidablePred P] : ∀ (n : Nat) (t : Int), 0 ≤ t → am_fd P n t = -1 ∨ (t ≤ am_fd P n t ∧ am_fd P n t < t + n ∧ P (am_fd P n t)) := by
  intro n
  induction n with
  | zero => intro t _; exact Or.inl rfl
  | succ n ih =>
    intro t h0
    unfold am_fd
    split
    · next h => exact Or.inr ⟨Int.le_refl _, by omega, h⟩
    · rcases ih (t + 1) (by omega) with h | ⟨h1, h2, h3⟩
      · exact Or.inl h
      · exact Or.inr ⟨by omega, by omega, h3⟩
theorem am_fd_no (P : Int → Prop) [DecidablePred P] : ∀ (n : Nat) (t : Int), 0 ≤ t → am_fd P n t = -1 → ∀ i, t ≤ i → i < t + n → ¬ P i := by
  intro n
  induction n with
  | zero => intro t _ _ i h1 h2; omega
  | succ n ih =>
    intro t h0 h i h1 h2
    unfold am_fd at h
    split at h
    · omega
    · next hp =>
      by_cases e : i = t
      · subst e; exact hp
      · exact ih (t + 1) (by omega) h i (by omega) (by omega)
theorem am_fd_congr (P Q : Int → Prop) [DecidablePred P] [DecidablePred Q] : ∀ (n : Nat) (t : Int), (∀ i, t ≤ i → i < t + n → (P i ↔ Q i)) → am_fd P n t = am_fd Q n t := by
  intro n
  induction n with
  | zero => intro t _; rfl
  | succ n ih =>
    intro t h
    unfold am_fd
    have h1 := h t (Int.le_refl _) (by omega)
    rw [ih (t + 1) (fun i a b => h i (by omega) (by omega))]
    by_cases q : Q t
    · rw [if_pos q, if_pos (h1.mpr q)]
    · rw [if_neg q, if_neg (fun w => q (h1.mp w))]
theorem l_c_Instances_find (cl : am_C) (N : Nat) (c k : Int) (I : Nat → Int → Int) (L : Nat → Int → Int64) (hn : I 15 8 ≤ 20) : ∀ (n : Nat) (t : Int), 0 ≤ t → t + n = I 15 8 → am_go0 cl 31 2 [some (.inr (.inr (some 15))), some (.inl c), some (.inl k), some (.inl t)] [] (am_GS N, am_GR, I, L) = some (some (.inl (am_fd (fun i => I 16 i = c ∧ I 17 i = k) n t)), (am_GS N, am_GR, I, L)) := by
  intro n
  induction n with
  | zero =>
    intro t h0 h1
    rw [s_31_2]
    simp (disch := omega) only [s_31_0, s_31_1, s_31_3, s_31_4, s_31_7, s_31_10, s_31_11, s_31_14, s_31_15, s_31_16, s_31_17, s_31_20, s_31_21, s_31_24, s_31_25, s_31_26, s_31_27, s_31_30, s_31_31, s_31_32, s_31_35, s_31_38, s_31_39, am_bd_s, Option.toList_some, Option.toList_none, List.cons_append, List.nil_append, am_c1_i, am_c1_n, am_c1_r, in_3, in_4, in_5, in_6, in_7, in_8, in_9, in_11, in_12, in_13, in_14, in_16, in_17, in_18, in_19, in_20, in_21, in_23, in_24, in_25, in_26, in_27, in_28, in_30, in_31, in_32, in_34, in_35, in_36, in_37, in_38, in_39, in_40, in_42, in_43, in_45, in_46, in_47, in_48, in_49, in_50, in_51, in_52, in_54, in_55, in_56, in_57, in_58, in_59, in_60, in_61, in_62, in_63, in_64, in_65, in_66, in_67, in_68, in_69, in_70, in_71, in_72, in_73, in_74, in_75, in_76, in_77, in_78, in_79, in_80, in_81, in_82, in_83, in_84, in_85, in_86, in_87, in_88, in_89, in_90, in_91, in_92, in_93, in_94, if_neg, am_fd]
  | succ n ih =>
    intro t h0 h1
    rw [s_31_2]
    unfold am_fd
    by_cases q0 : I 16 t = c
    · skip
      by_cases q1 : I 17 t = k
      · skip
        simp (disch := omega) only [s_31_0, s_31_1, s_31_3, s_31_4, s_31_7, s_31_10, s_31_11, s_31_14, s_31_15, s_31_16, s_31_17, s_31_20, s_31_21, s_31_24, s_31_25, s_31_26, s_31_27, s_31_30, s_31_31, s_31_32, s_31_35, s_31_38, s_31_39, am_bd_s, Option.toList_some, Option.toList_none, List.cons_append, List.nil_append, am_c1_i, am_c1_n, am_c1_r, in_3, in_4, in_5, in_6, in_7, in_8, in_9, in_11, in_12, in_13, in_14, in_16, in_17, in_18, in_19, in_20, in_21, in_23, in_24, in_25, in_26, in_27, in_28, in_30, in_31, in_32, in_34, in_35, in_36, in_37, in_38, in_39, in_40, in_42, in_43, in_45, in_46, in_47, in_48, in_49, in_50, in_51, in_52, in_54, in_55, in_56, in_57, in_58, in_59, in_60, in_61, in_62, in_63, in_64, in_65, in_66, in_67, in_68, in_69, in_70, in_71, in_72, in_73, in_74, in_75, in_76, in_77, in_78, in_79, in_80, in_81, in_82, in_83, in_84, in_85, in_86, in_87, in_88, in_89, in_90, in_91, in_92, in_93, in_94, am_wr_eq, if_pos, if_pos q0, if_pos q1]
      · have ih := ih (t + 1) (by omega) (by omega)
        rw [if_neg (fun w => q1 w.2)]
        simp (disch := omega) only [s_31_0, s_31_1, s_31_3, s_31_4, s_31_7, s_31_10, s_31_11, s_31_14, s_31_15, s_31_16, s_31_17, s_31_20, s_31_21, s_31_24, s_31_25, s_31_26, s_31_27, s_31_30, s_31_31, s_31_32, s_31_35, s_31_38, s_31_39, am_bd_s, Option.toList_some, Option.toList_none, List.cons_append, List.nil_append, am_c1_i, am_c1_n, am_c1_r, in_3, in_4, in_5, in_6, in_7, in_8, in_9, in_11, in_12, in_13, in_14, in_16, in_17, in_18, in_19, in_20, in_21, in_23, in_24, in_25, in_26, in_27, in_28, in_30, in_31, in_32, in_34, in_35, in_36, in_37, in_38, in_39, in_40, in_42, in_43, in_45, in_46, in_47, in_48, in_49, in_50, in_51, in_52, in_54, in_55, in_56, in_57, in_58, in_59, in_60, in_61, in_62, in_63, in_64, in_65, in_66, in_67, in_68, in_69, in_70, in_71, in_72, in_73, in_74, in_75, in_76, in_77, in_78, in_79, in_80, in_81, in_82, in_83, in_84, in_85, in_86, in_87, in_88, in_89, in_90, in_91, in_92, in_93, in_94, am_wr_eq, if_pos, if_pos q0, if_neg q1]
        exact ih
    · have ih := ih (t + 1) (by omega) (by omega)
      rw [if_neg (fun w => q0 w.1)]
      simp (disch := omega) only [s_31_0, s_31_1, s_31_3, s_31_4, s_31_7, s_31_10, s_31_11, s_31_14, s_31_15, s_31_16, s_31_17, s_31_20, s_31_21, s_31_24, s_31_25, s_31_26, s_31_27, s_31_30, s_31_31, s_31_32, s_31_35, s_31_38, s_31_39, am_bd_s, Option.toList_some, Option.toList_none, List.cons_append, List.nil_append, am_c1_i, am_c1_n, am_c1_r, in_3, in_4, in_5, in_6, in_7, in_8, in_9, in_11, in_12, in_13, in_14, in_16, in_17, in_18, in_19, in_20, in_21, in_23, in_24, in_25, in_26, in_27, in_28, in_30, in_31, in_32, in_34, in_35, in_36, in_37, in_38, in_39, in_40, in_42, in_43, in_45, in_46, in_47, in_48, in_49, in_50, in_51, in_52, in_54, in_55, in_56, in_57, in_58, in_59, in_60, in_61, in_62, in_63, in_64, in_65, in_66, in_67, in_68, in_69, in_70, in_71, in_72, in_73, in_74, in_75, in_76, in_77, in_78, in_79, in_80, in_81, in_82, in_83, in_84, in_85, in_86, in_87, in_88, in_89, in_90, in_91, in_92, in_93, in_94, am_wr_eq, if_pos, if_neg q0]
      exact ih
theorem c_Instances_find (d N : Nat) (c k : Int) (I : Nat → Int → Int) (L : Nat → Int → Int64) (h0 : 0 ≤ I 15 8) (hn : I 15 8 ≤ 20) : am_call (d + 1) 31 [.inr (.inr (some 15)), .inl c, .inl k] (am_GS N, am_GR, I, L) = some (some (.inl (am_fd (fun i => I 16 i = c ∧ I 17 i = k) (I 15 8).toNat 0)), (am_GS N, am_GR, I, L)) := by
  rw [e_31]
  simp only [s_31_0, s_31_1, s_31_3, s_31_4, s_31_7, s_31_10, s_31_11, s_31_14, s_31_15, s_31_16, s_31_17, s_31_20, s_31_21, s_31_24, s_31_25, s_31_26, s_31_27, s_31_30, s_31_31, s_31_32, s_31_35, s_31_38, s_31_39, am_bd_s, Option.toList_some, Option.toList_none, List.cons_append, List.nil_append, am_c1_i, am_c1_n, am_c1_r]
  exact l_c_Instances_find _ N c k I L hn _ 0 (by omega) (by omega)
theorem l_c_Dictionaries_find (cl : am_C) (N : Nat) (c k : Int) (I : Nat → Int → Int) (L : Nat → Int → Int64) (hn : I 33 9 ≤ 60) : ∀ (n : Nat) (t : Int), 0 ≤ t → t + n = I 33 9 → am_go0 cl 14 2 [some (.inr (.inr (some 33))), some (.inl c), some (.inl k), some (.inl t)] [] (am_GS N, am_GR, I, L) = some (some (.inl (am_fd (fun i => I 34 i = c ∧ I 35 i = k) n t)), (am_GS N, am_GR, I, L)) := by
  intro n
  induction n with
  | zero =>
    intro t h0 h1
    rw [s_14_2]
    simp (disch := omega) only [s_14_0, s_14_1, s_14_3, s_14_4, s_14_7, s_14_10, s_14_11, s_14_14, s_14_15, s_14_16, s_14_17, s_14_20, s_14_21, s_14_24, s_14_25, s_14_26, s_14_27, s_14_30, s_14_31, s_14_32, s_14_35, s_14_38, s_14_39, am_bd_s, Option.toList_some, Option.toList_none, List.cons_append, List.nil_append, am_c1_i, am_c1_n, am_c1_r, in_3, in_4, in_5, in_6, in_7, in_8, in_9, in_11, in_12, in_13, in_14, in_16, in_17, in_18, in_19, in_20, in_21, in_23, in_24, in_25, in_26, in_27, in_28, in_30, in_31, in_32, in_34, in_35, in_36, in_37, in_38, in_39, in_40, in_42, in_43, in_45, in_46, in_47, in_48, in_49, in_50, in_51, in_52, in_54, in_55, in_56, in_57, in_58, in_59, in_60, in_61, in_62, in_63, in_64, in_65, in_66, in_67, in_68, in_69, in_70, in_71, in_72, in_73, in_74, in_75, in_76, in_77, in_78, in_79, in_80, in_81, in_82, in_83, in_84, in_85, in_86, in_87, in_88, in_89, in_90, in_91, in_92, in_93, in_94, if_neg, am_fd]
  | succ n ih =>
    intro t h0 h1
    rw [s_14_2]
    unfold am_fd
    by_cases q0 : I 34 t = c
    · skip
      by_cases q1 : I 35 t = k
      · skip
        simp (disch := omega) only [s_14_0, s_14_1, s_14_3, s_14_4, s_14_7, s_14_10, s_14_11, s_14_14, s_14_15, s_14_16, s_14_17, s_14_20, s_14_21, s_14_24, s_14_25, s_14_26, s_14_27, s_14_30, s_14_31, s_14_32, s_14_35, s_14_38, s_14_39, am_bd_s, Option.toList_some, Option.toList_none, List.cons_append, List.nil_append, am_c1_i, am_c1_n, am_c1_r, in_3, in_4, in_5, in_6, in_7, in_8, in_9, in_11, in_12, in_13, in_14, in_16, in_17, in_18, in_19, in_20, in_21, in_23, in_24, in_25, in_26, in_27, in_28, in_30, in_31, in_32, in_34, in_35, in_36, in_37, in_38, in_39, in_40, in_42, in_43, in_45, in_46, in_47, in_48, in_49, in_50, in_51, in_52, in_54, in_55, in_56, in_57, in_58, in_59, in_60, in_61, in_62, in_63, in_64, in_65, in_66, in_67, in_68, in_69, in_70, in_71, in_72, in_73, in_74, in_75, in_76, in_77, in_78, in_79, in_80, in_81, in_82, in_83, in_84, in_85, in_86, in_87, in_88, in_89, in_90, in_91, in_92, in_93, in_94, am_wr_eq, if_pos, if_pos q0, if_pos q1]
      · have ih := ih (t + 1) (by omega) (by omega)
        rw [if_neg (fun w => q1 w.2)]
        simp (disch := omega) only [s_14_0, s_14_1, s_14_3, s_14_4, s_14_7, s_14_10, s_14_11, s_14_14, s_14_15, s_14_16, s_14_17, s_14_20, s_14_21, s_14_24, s_14_25, s_14_26, s_14_27, s_14_30, s_14_31, s_14_32, s_14_35, s_14_38, s_14_39, am_bd_s, Option.toList_some, Option.toList_none, List.cons_append, List.nil_append, am_c1_i, am_c1_n, am_c1_r, in_3, in_4, in_5, in_6, in_7, in_8, in_9, in_11, in_12, in_13, in_14, in_16, in_17, in_18, in_19, in_20, in_21, in_23, in_24, in_25, in_26, in_27, in_28, in_30, in_31, in_32, in_34, in_35, in_36, in_37, in_38, in_39, in_40, in_42, in_43, in_45, in_46, in_47, in_48, in_49, in_50, in_51, in_52, in_54, in_55, in_56, in_57, in_58, in_59, in_60, in_61, in_62, in_63, in_64, in_65, in_66, in_67, in_68, in_69, in_70, in_71, in_72, in_73, in_74, in_75, in_76, in_77, in_78, in_79, in_80, in_81, in_82, in_83, in_84, in_85, in_86, in_87, in_88, in_89, in_90, in_91, in_92, in_93, in_94, am_wr_eq, if_pos, if_pos q0, if_neg q1]
        exact ih
    · have ih := ih (t + 1) (by omega) (by omega)
      rw [if_neg (fun w => q0 w.1)]
      simp (disch := omega) only [s_14_0, s_14_1, s_14_3, s_14_4, s_14_7, s_14_10, s_14_11, s_14_14, s_14_15, s_14_16, s_14_17, s_14_20, s_14_21, s_14_24, s_14_25, s_14_26, s_14_27, s_14_30, s_14_31, s_14_32, s_14_35, s_14_38, s_14_39, am_bd_s, Option.toList_some, Option.toList_none, List.cons_append, List.nil_append, am_c1_i, am_c1_n, am_c1_r, in_3, in_4, in_5, in_6, in_7, in_8, in_9, in_11, in_12, in_13, in_14, in_16, in_17, in_18, in_19, in_20, in_21, in_23, in_24, in_25, in_26, in_27, in_28, in_30, in_31, in_32, in_34, in_35, in_36, in_37, in_38, in_39, in_40, in_42, in_43, in_45, in_46, in_47, in_48, in_49, in_50, in_51, in_52, in_54, in_55, in_56, in_57, in_58, in_59, in_60, in_61, in_62, in_63, in_64, in_65, in_66, in_67, in_68, in_69, in_70, in_71, in_72, in_73, in_74, in_75, in_76, in_77, in_78, in_79, in_80, in_81, in_82, in_83, in_84, in_85, in_86, in_87, in_88, in_89, in_90, in_91, in_92, in_93, in_94, am_wr_eq, if_pos, if_neg q0]
      exact ih
theorem c_Dictionaries_find (d N : Nat) (c k : Int) (I : Nat → Int → Int) (L : Nat → Int → Int64) (h0 : 0 ≤ I 33 9) (hn : I 33 9 ≤ 60) : am_call (d + 1) 14 [.inr (.inr (some 33)), .inl c, .inl k] (am_GS N, am_GR, I, L) = some (some (.inl (am_fd (fun i => I 34 i = c ∧ I 35 i = k) (I 33 9).toNat 0)), (am_GS N, am_GR, I, L)) := by
  rw [e_14]
  simp only [s_14_0, s_14_1, s_14_3, s_14_4, s_14_7, s_14_10, s_14_11, s_14_14, s_14_15, s_14_16, s_14_17, s_14_20, s_14_21, s_14_24, s_14_25, s_14_26, s_14_27, s_14_30, s_14_31, s_14_32, s_14_35, s_14_38, s_14_39, am_bd_s, Option.toList_some, Option.toList_none, List.cons_append, List.nil_append, am_c1_i, am_c1_n, am_c1_r]
  exact l_c_Dictionaries_find _ N c k I L hn _ 0 (by omega) (by omega)
theorem l_c_Model_instanceOf (cl : am_C) (N : Nat) (c k : Int) (I : Nat → Int → Int) (L : Nat → Int → Int64) (hn : I 53 14 ≤ 20) : ∀ (n : Nat) (t : Int), 0 ≤ t → t + n = I 53 14 → am_go0 cl 145 2 [some (.inr (.inr (some 53))), some (.inl c), some (.inl k), some (.inl t)] [] (am_GS N, am_GR, I, L) = some (some (.inl (am_fd (fun i => I 65 i = c ∧ I 66 i = k) n t)), (am_GS N, am_GR, I, L)) := by
  intro n
  induction n with
  | zero =>
    intro t h0 h1
    rw [s_145_2]
    simp (disch := omega) only [s_145_0, s_145_1, s_145_3, s_145_4, s_145_7, s_145_10, s_145_11, s_145_14, s_145_15, s_145_16, s_145_17, s_145_20, s_145_21, s_145_24, s_145_25, s_145_26, s_145_27, s_145_30, s_145_31, s_145_32, s_145_35, s_145_38, s_145_39, am_bd_s, Option.toList_some, Option.toList_none, List.cons_append, List.nil_append, am_c1_i, am_c1_n, am_c1_r, in_3, in_4, in_5, in_6, in_7, in_8, in_9, in_11, in_12, in_13, in_14, in_16, in_17, in_18, in_19, in_20, in_21, in_23, in_24, in_25, in_26, in_27, in_28, in_30, in_31, in_32, in_34, in_35, in_36, in_37, in_38, in_39, in_40, in_42, in_43, in_45, in_46, in_47, in_48, in_49, in_50, in_51, in_52, in_54, in_55, in_56, in_57, in_58, in_59, in_60, in_61, in_62, in_63, in_64, in_65, in_66, in_67, in_68, in_69, in_70, in_71, in_72, in_73, in_74, in_75, in_76, in_77, in_78, in_79, in_80, in_81, in_82, in_83, in_84, in_85, in_86, in_87, in_88, in_89, in_90, in_91, in_92, in_93, in_94, if_neg, am_fd]
  | succ n ih =>
    intro t h0 h1
    rw [s_145_2]
    unfold am_fd
    by_cases q0 : I 65 t = c
    · skip
      by_cases q1 : I 66 t = k
      · skip
        simp (disch := omega) only [s_145_0, s_145_1, s_145_3, s_145_4, s_145_7, s_145_10, s_145_11, s_145_14, s_145_15, s_145_16, s_145_17, s_145_20, s_145_21, s_145_24, s_145_25, s_145_26, s_145_27, s_145_30, s_145_31, s_145_32, s_145_35, s_145_38, s_145_39, am_bd_s, Option.toList_some, Option.toList_none, List.cons_append, List.nil_append, am_c1_i, am_c1_n, am_c1_r, in_3, in_4, in_5, in_6, in_7, in_8, in_9, in_11, in_12, in_13, in_14, in_16, in_17, in_18, in_19, in_20, in_21, in_23, in_24, in_25, in_26, in_27, in_28, in_30, in_31, in_32, in_34, in_35, in_36, in_37, in_38, in_39, in_40, in_42, in_43, in_45, in_46, in_47, in_48, in_49, in_50, in_51, in_52, in_54, in_55, in_56, in_57, in_58, in_59, in_60, in_61, in_62, in_63, in_64, in_65, in_66, in_67, in_68, in_69, in_70, in_71, in_72, in_73, in_74, in_75, in_76, in_77, in_78, in_79, in_80, in_81, in_82, in_83, in_84, in_85, in_86, in_87, in_88, in_89, in_90, in_91, in_92, in_93, in_94, am_wr_eq, if_pos, if_pos q0, if_pos q1]
      · have ih := ih (t + 1) (by omega) (by omega)
        rw [if_neg (fun w => q1 w.2)]
        simp (disch := omega) only [s_145_0, s_145_1, s_145_3, s_145_4, s_145_7, s_145_10, s_145_11, s_145_14, s_145_15, s_145_16, s_145_17, s_145_20, s_145_21, s_145_24, s_145_25, s_145_26, s_145_27, s_145_30, s_145_31, s_145_32, s_145_35, s_145_38, s_145_39, am_bd_s, Option.toList_some, Option.toList_none, List.cons_append, List.nil_append, am_c1_i, am_c1_n, am_c1_r, in_3, in_4, in_5, in_6, in_7, in_8, in_9, in_11, in_12, in_13, in_14, in_16, in_17, in_18, in_19, in_20, in_21, in_23, in_24, in_25, in_26, in_27, in_28, in_30, in_31, in_32, in_34, in_35, in_36, in_37, in_38, in_39, in_40, in_42, in_43, in_45, in_46, in_47, in_48, in_49, in_50, in_51, in_52, in_54, in_55, in_56, in_57, in_58, in_59, in_60, in_61, in_62, in_63, in_64, in_65, in_66, in_67, in_68, in_69, in_70, in_71, in_72, in_73, in_74, in_75, in_76, in_77, in_78, in_79, in_80, in_81, in_82, in_83, in_84, in_85, in_86, in_87, in_88, in_89, in_90, in_91, in_92, in_93, in_94, am_wr_eq, if_pos, if_pos q0, if_neg q1]
        exact ih
    · have ih := ih (t + 1) (by omega) (by omega)
      rw [if_neg (fun w => q0 w.1)]
      simp (disch := omega) only [s_145_0, s_145_1, s_145_3, s_145_4, s_145_7, s_145_10, s_145_11, s_145_14, s_145_15, s_145_16, s_145_17, s_145_20, s_145_21, s_145_24, s_145_25, s_145_26, s_145_27, s_145_30, s_145_31, s_145_32, s_145_35, s_145_38, s_145_39, am_bd_s, Option.toList_some, Option.toList_none, List.cons_append, List.nil_append, am_c1_i, am_c1_n, am_c1_r, in_3, in_4, in_5, in_6, in_7, in_8, in_9, in_11, in_12, in_13, in_14, in_16, in_17, in_18, in_19, in_20, in_21, in_23, in_24, in_25, in_26, in_27, in_28, in_30, in_31, in_32, in_34, in_35, in_36, in_37, in_38, in_39, in_40, in_42, in_43, in_45, in_46, in_47, in_48, in_49, in_50, in_51, in_52, in_54, in_55, in_56, in_57, in_58, in_59, in_60, in_61, in_62, in_63, in_64, in_65, in_66, in_67, in_68, in_69, in_70, in_71, in_72, in_73, in_74, in_75, in_76, in_77, in_78, in_79, in_80, in_81, in_82, in_83, in_84, in_85, in_86, in_87, in_88, in_89, in_90, in_91, in_92, in_93, in_94, am_wr_eq, if_pos, if_neg q0]
      exact ih
theorem c_Model_instanceOf (d N : Nat) (c k : Int) (I : Nat → Int → Int) (L : Nat → Int → Int64) (h0 : 0 ≤ I 53 14) (hn : I 53 14 ≤ 20) : am_call (d + 1) 145 [.inr (.inr (some 53)), .inl c, .inl k] (am_GS N, am_GR, I, L) = some (some (.inl (am_fd (fun i => I 65 i = c ∧ I 66 i = k) (I 53 14).toNat 0)), (am_GS N, am_GR, I, L)) := by
  rw [e_145]
  simp only [s_145_0, s_145_1, s_145_3, s_145_4, s_145_7, s_145_10, s_145_11, s_145_14, s_145_15, s_145_16, s_145_17, s_145_20, s_145_21, s_145_24, s_145_25, s_145_26, s_145_27, s_145_30, s_145_31, s_145_32, s_145_35, s_145_38, s_145_39, am_bd_s, Option.toList_some, Option.toList_none, List.cons_append, List.nil_append, am_c1_i, am_c1_n, am_c1_r]
  exact l_c_Model_instanceOf _ N c k I L hn _ 0 (by omega) (by omega)
theorem l_c_Model_find (cl : am_C) (N : Nat) (c k : Int) (I : Nat → Int → Int) (L : Nat → Int → Int64) (hn : I 53 28 ≤ 60) : ∀ (n : Nat) (t : Int), 0 ≤ t → t + n = I 53 28 → am_go0 cl 158 2 [some (.inr (.inr (some 53))), some (.inl c), some (.inl k), some (.inl t)] [] (am_GS N, am_GR, I, L) = some (some (.inl (am_fd (fun i => I 77 i = c ∧ I 78 i = k) n t)), (am_GS N, am_GR, I, L)) := by
  intro n
  induction n with
  | zero =>
    intro t h0 h1
    rw [s_158_2]
    simp (disch := omega) only [s_158_0, s_158_1, s_158_3, s_158_4, s_158_7, s_158_10, s_158_11, s_158_14, s_158_15, s_158_16, s_158_17, s_158_20, s_158_21, s_158_24, s_158_25, s_158_26, s_158_27, s_158_30, s_158_31, s_158_32, s_158_35, s_158_38, s_158_39, am_bd_s, Option.toList_some, Option.toList_none, List.cons_append, List.nil_append, am_c1_i, am_c1_n, am_c1_r, in_3, in_4, in_5, in_6, in_7, in_8, in_9, in_11, in_12, in_13, in_14, in_16, in_17, in_18, in_19, in_20, in_21, in_23, in_24, in_25, in_26, in_27, in_28, in_30, in_31, in_32, in_34, in_35, in_36, in_37, in_38, in_39, in_40, in_42, in_43, in_45, in_46, in_47, in_48, in_49, in_50, in_51, in_52, in_54, in_55, in_56, in_57, in_58, in_59, in_60, in_61, in_62, in_63, in_64, in_65, in_66, in_67, in_68, in_69, in_70, in_71, in_72, in_73, in_74, in_75, in_76, in_77, in_78, in_79, in_80, in_81, in_82, in_83, in_84, in_85, in_86, in_87, in_88, in_89, in_90, in_91, in_92, in_93, in_94, if_neg, am_fd]
  | succ n ih =>
    intro t h0 h1
    rw [s_158_2]
    unfold am_fd
    by_cases q0 : I 77 t = c
    · skip
      by_cases q1 : I 78 t = k
      · skip
        simp (disch := omega) only [s_158_0, s_158_1, s_158_3, s_158_4, s_158_7, s_158_10, s_158_11, s_158_14, s_158_15, s_158_16, s_158_17, s_158_20, s_158_21, s_158_24, s_158_25, s_158_26, s_158_27, s_158_30, s_158_31, s_158_32, s_158_35, s_158_38, s_158_39, am_bd_s, Option.toList_some, Option.toList_none, List.cons_append, List.nil_append, am_c1_i, am_c1_n, am_c1_r, in_3, in_4, in_5, in_6, in_7, in_8, in_9, in_11, in_12, in_13, in_14, in_16, in_17, in_18, in_19, in_20, in_21, in_23, in_24, in_25, in_26, in_27, in_28, in_30, in_31, in_32, in_34, in_35, in_36, in_37, in_38, in_39, in_40, in_42, in_43, in_45, in_46, in_47, in_48, in_49, in_50, in_51, in_52, in_54, in_55, in_56, in_57, in_58, in_59, in_60, in_61, in_62, in_63, in_64, in_65, in_66, in_67, in_68, in_69, in_70, in_71, in_72, in_73, in_74, in_75, in_76, in_77, in_78, in_79, in_80, in_81, in_82, in_83, in_84, in_85, in_86, in_87, in_88, in_89, in_90, in_91, in_92, in_93, in_94, am_wr_eq, if_pos, if_pos q0, if_pos q1]
      · have ih := ih (t + 1) (by omega) (by omega)
        rw [if_neg (fun w => q1 w.2)]
        simp (disch := omega) only [s_158_0, s_158_1, s_158_3, s_158_4, s_158_7, s_158_10, s_158_11, s_158_14, s_158_15, s_158_16, s_158_17, s_158_20, s_158_21, s_158_24, s_158_25, s_158_26, s_158_27, s_158_30, s_158_31, s_158_32, s_158_35, s_158_38, s_158_39, am_bd_s, Option.toList_some, Option.toList_none, List.cons_append, List.nil_append, am_c1_i, am_c1_n, am_c1_r, in_3, in_4, in_5, in_6, in_7, in_8, in_9, in_11, in_12, in_13, in_14, in_16, in_17, in_18, in_19, in_20, in_21, in_23, in_24, in_25, in_26, in_27, in_28, in_30, in_31, in_32, in_34, in_35, in_36, in_37, in_38, in_39, in_40, in_42, in_43, in_45, in_46, in_47, in_48, in_49, in_50, in_51, in_52, in_54, in_55, in_56, in_57, in_58, in_59, in_60, in_61, in_62, in_63, in_64, in_65, in_66, in_67, in_68, in_69, in_70, in_71, in_72, in_73, in_74, in_75, in_76, in_77, in_78, in_79, in_80, in_81, in_82, in_83, in_84, in_85, in_86, in_87, in_88, in_89, in_90, in_91, in_92, in_93, in_94, am_wr_eq, if_pos, if_pos q0, if_neg q1]
        exact ih
    · have ih := ih (t + 1) (by omega) (by omega)
      rw [if_neg (fun w => q0 w.1)]
      simp (disch := omega) only [s_158_0, s_158_1, s_158_3, s_158_4, s_158_7, s_158_10, s_158_11, s_158_14, s_158_15, s_158_16, s_158_17, s_158_20, s_158_21, s_158_24, s_158_25, s_158_26, s_158_27, s_158_30, s_158_31, s_158_32, s_158_35, s_158_38, s_158_39, am_bd_s, Option.toList_some, Option.toList_none, List.cons_append, List.nil_append, am_c1_i, am_c1_n, am_c1_r, in_3, in_4, in_5, in_6, in_7, in_8, in_9, in_11, in_12, in_13, in_14, in_16, in_17, in_18, in_19, in_20, in_21, in_23, in_24, in_25, in_26, in_27, in_28, in_30, in_31, in_32, in_34, in_35, in_36, in_37, in_38, in_39, in_40, in_42, in_43, in_45, in_46, in_47, in_48, in_49, in_50, in_51, in_52, in_54, in_55, in_56, in_57, in_58, in_59, in_60, in_61, in_62, in_63, in_64, in_65, in_66, in_67, in_68, in_69, in_70, in_71, in_72, in_73, in_74, in_75, in_76, in_77, in_78, in_79, in_80, in_81, in_82, in_83, in_84, in_85, in_86, in_87, in_88, in_89, in_90, in_91, in_92, in_93, in_94, am_wr_eq, if_pos, if_neg q0]
      exact ih
theorem c_Model_find (d N : Nat) (c k : Int) (I : Nat → Int → Int) (L : Nat → Int → Int64) (h0 : 0 ≤ I 53 28) (hn : I 53 28 ≤ 60) : am_call (d + 1) 158 [.inr (.inr (some 53)), .inl c, .inl k] (am_GS N, am_GR, I, L) = some (some (.inl (am_fd (fun i => I 77 i = c ∧ I 78 i = k) (I 53 28).toNat 0)), (am_GS N, am_GR, I, L)) := by
  rw [e_158]
  simp only [s_158_0, s_158_1, s_158_3, s_158_4, s_158_7, s_158_10, s_158_11, s_158_14, s_158_15, s_158_16, s_158_17, s_158_20, s_158_21, s_158_24, s_158_25, s_158_26, s_158_27, s_158_30, s_158_31, s_158_32, s_158_35, s_158_38, s_158_39, am_bd_s, Option.toList_some, Option.toList_none, List.cons_append, List.nil_append, am_c1_i, am_c1_n, am_c1_r]
  exact l_c_Model_find _ N c k I L hn _ 0 (by omega) (by omega)
