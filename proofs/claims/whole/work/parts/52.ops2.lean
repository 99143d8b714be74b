/-! type() -/
/-- what type() comes to, in the class and in the reference -/
def am_typeR (I I1 I2 : Nat → Int → Int) (c a b : Int) : Prop :=
  (I1 = I ∧ I2 = I) ∨ ∃ a2 b2 o f, 0 ≤ c ∧ c < I 2 1 ∧ I 2 6 < 80 ∧ ((0 < I 3 c ∧ 0 ≤ a2 ∧ a2 < I 2 6) ∨ (I 3 c ≤ 0 ∧ a2 = -1)) ∧ ((1 < I 3 c ∧ 0 ≤ b2 ∧ b2 < I 2 6) ∨ (I 3 c ≤ 1 ∧ b2 = -1)) ∧ o = (if (if a2 = -1 then 0 else I 7 a2) < (if b2 = -1 then 0 else I 7 b2) then (if b2 = -1 then 0 else I 7 b2) else (if a2 = -1 then 0 else I 7 a2)) ∧ f = (Int32.ofInt (if a2 < 0 then 0 else I 58 a2) ||| Int32.ofInt (if b2 < 0 then 0 else I 58 b2)).toInt ∧ I1 = am_tI I c a2 b2 o ∧ I2 = am_tM I1 c a2 b2 f
/-- findOrAdd and made, one behind the other -/
theorem s_foa (N : Nat) (c a b : Int) (I : Nat → Int → Int) (L : Nat → Int → Int64) (h : am_RTI I) (hc0 : 0 ≤ c) (hc1 : c < I 2 1) (ha : (0 < I 3 c ∧ 0 ≤ a ∧ a < I 2 6) ∨ (I 3 c ≤ 0 ∧ a = -1)) (hb : (1 < I 3 c ∧ 0 ≤ b ∧ b < I 2 6) ∨ (I 3 c ≤ 1 ∧ b = -1)) : ∃ r I1, (∀ d, am_call (d + 2) 75 [.inr (.inr (some 2)), .inl c, .inl a, .inl b] (am_GS N, am_GR, I, L) = some (some (.inl r), (am_GS N, am_GR, I1, L))) ∧ ∃ I2, (∀ d, am_call (d + 1) 138 [.inr (.inr (some 53)), .inl c, .inl a, .inl b] (am_GS N, am_GR, I1, L) = some (some (.inl r), (am_GS N, am_GR, I2, L))) ∧
    (((I1 = I ∧ I2 = I ∧ (r = -3 ∨ (2 ≤ r ∧ r < I 2 6))) ∨ (r = I 2 6 ∧ I 2 6 < 80 ∧ I1 = am_tI I c a b (if (if a = -1 then 0 else I 7 a) < (if b = -1 then 0 else I 7 b) then (if b = -1 then 0 else I 7 b) else (if a = -1 then 0 else I 7 a)) ∧ I2 = am_tM I1 c a b (Int32.ofInt (if a < 0 then 0 else I 58 a) ||| Int32.ofInt (if b < 0 then 0 else I 58 b)).toInt))) := by
  have ht := am_RT_tf h c a b
  obtain ⟨a1, a2, a3, a4, a5, a6, a7, a8, -⟩ := h
  have ea : a < 80 ∧ (a = -1 ∨ (0 ≤ a ∧ a < 80)) := by rcases ha with w | w <;> omega
  have eb : b < 80 ∧ (b = -1 ∨ (0 ≤ b ∧ b < 80)) := by rcases hb with w | w <;> omega
  by_cases q : am_tf (I 4) (I 5) (I 6) c a b (I 2 6) = -1
  · by_cases q2 : I 2 6 < 80
    · refine ⟨I 2 6, _, fun d => c_foa_add d N c a b I L a5 q2 ea.2 eb.2 q, _, fun d => ?_, Or.inr ⟨rfl, q2, rfl, rfl⟩⟩
      have w := c_made_add d N c a b (am_tI I c a b (if (if a = -1 then 0 else I 7 a) < (if b = -1 then 0 else I 7 b) then (if b = -1 then 0 else I 7 b) else (if a = -1 then 0 else I 7 a))) L
      simp only [am_uI_c, Nat.reduceEqDiff, ↓reduceIte] at w
      rw [a7] at w
      refine (w a5 q2 ea.1 eb.1 ?_).trans ?_
      · rw [a7] at ht; rw [ht]; exact q
      · simp only [am_uI_c, Nat.reduceEqDiff, ↓reduceIte, a7]
    · refine ⟨-3, I, fun d => c_foa_full d N c a b I L a5 a6 q2 q, I, fun d => ?_, Or.inl ⟨rfl, rfl, Or.inl rfl⟩⟩
      exact c_made_full d N c a b I L (by omega) (by omega) (by omega) (by rw [ht]; exact q)
  · refine ⟨_, I, fun d => c_foa_found d N c a b I L a5 a6 q, I, fun d => ?_, Or.inl ⟨rfl, rfl, Or.inr ?_⟩⟩
    · have w := c_made_found d N c a b I L (by omega) (by omega) (by rw [ht]; exact q)
      rw [ht] at w
      exact w
    · rcases am_fd_rg (fun i => I 4 i = c ∧ I 5 i = a ∧ I 6 i = b) (I 2 6 - 2).toNat 2 (by omega) with w | ⟨w1, w2, -⟩
      · exact absurd w q
      · exact ⟨w1, by show am_fd _ _ _ < _; omega⟩
theorem s_type (d N : Nat) (c a b : Int) (I : Nat → Int → Int) (L : Nat → Int → Int64) (h : am_RTI I) : ∃ r I1, am_call (d + 5) 113 [.inr (.inr (some 1)), .inl c, .inl a, .inl b] (am_GS N, am_GR, I, L) = some (some (.inl r), (am_GS N, am_GR, I1, L)) ∧ ∃ I2, am_call (d + 5) 136 [.inr (.inr (some 53)), .inl c, .inl a, .inl b] (am_GS N, am_GR, I1, L) = some (some (.inl r), (am_GS N, am_GR, I2, L)) ∧ am_typeR I I1 I2 c a b := by
  have h' := h
  obtain ⟨a1, a2, a3, a4, a5, a6, a7, a8, -⟩ := h'
  rw [e_113]
  simp only [s_113_0, s_113_1, s_113_4, s_113_5, s_113_6, s_113_7, s_113_10, am_bd_s, Option.toList_some, Option.toList_none, List.cons_append, List.nil_append, am_c1_i, am_c1_n, am_c1_r]
  rw [e_72]
  have bad : ∀ I1 : Nat → Int → Int, I1 = I → (¬ (0 ≤ c ∧ c < I 2 1) ∨ (0 ≤ c ∧ c < I 2 1 ∧ 0 < I 3 c ∧ ¬ (0 ≤ a ∧ a < I 2 6)) ∨ (0 ≤ c ∧ c < I 2 1 ∧ (0 < I 3 c → 0 ≤ a ∧ a < I 2 6) ∧ 1 < I 3 c ∧ ¬ (0 ≤ b ∧ b < I 2 6))) → am_call (d + 5) 136 [.inr (.inr (some 53)), .inl c, .inl a, .inl b] (am_GS N, am_GR, I1, L) = some (some (.inl (-2)), (am_GS N, am_GR, I1, L)) := by
    intro I1 e q
    subst e
    rw [e_136]
    rcases q with q | ⟨q0, q1, q2, q3⟩ | ⟨q0, q1, q2, q3, q4⟩
    · simp (disch := omega) only [s_136_0, s_136_1, s_136_2, s_136_3, s_136_6, s_136_7, s_136_8, s_136_11, s_136_14, s_136_15, s_136_18, s_136_19, s_136_20, s_136_23, s_136_24, s_136_25, s_136_28, s_136_31, s_136_32, s_136_35, s_136_36, s_136_37, s_136_38, s_136_41, s_136_42, s_136_43, s_136_46, s_136_49, s_136_51, s_136_52, s_136_53, s_136_54, s_136_55, s_136_58, s_136_59, s_136_60, s_136_63, s_136_64, s_136_67, s_136_68, s_136_69, s_136_72, s_136_73, s_136_74, s_136_75, s_136_78, s_136_79, s_136_82, s_136_83, s_136_86, am_bd_s, Option.toList_some, Option.toList_none, List.cons_append, List.nil_append, am_c1_i, am_c1_n, am_c1_r, am_wr_eq, c_Model_isIn, am_B0, if_pos]
    · have e4 := (a4 c q0 q1).1
      simp (disch := omega) only [s_136_0, s_136_1, s_136_2, s_136_3, s_136_6, s_136_7, s_136_8, s_136_11, s_136_14, s_136_15, s_136_18, s_136_19, s_136_20, s_136_23, s_136_24, s_136_25, s_136_28, s_136_31, s_136_32, s_136_35, s_136_36, s_136_37, s_136_38, s_136_41, s_136_42, s_136_43, s_136_46, s_136_49, s_136_51, s_136_52, s_136_53, s_136_54, s_136_55, s_136_58, s_136_59, s_136_60, s_136_63, s_136_64, s_136_67, s_136_68, s_136_69, s_136_72, s_136_73, s_136_74, s_136_75, s_136_78, s_136_79, s_136_82, s_136_83, s_136_86, am_bd_s, Option.toList_some, Option.toList_none, List.cons_append, List.nil_append, am_c1_i, am_c1_n, am_c1_r, am_wr_eq, c_Model_isIn, c_Model_isType, am_B0, in_54, e4, if_pos, if_neg]
    · have e4 := (a4 c q0 q1).1
      have q5 := q2 (by omega)
      simp (disch := omega) only [s_136_0, s_136_1, s_136_2, s_136_3, s_136_6, s_136_7, s_136_8, s_136_11, s_136_14, s_136_15, s_136_18, s_136_19, s_136_20, s_136_23, s_136_24, s_136_25, s_136_28, s_136_31, s_136_32, s_136_35, s_136_36, s_136_37, s_136_38, s_136_41, s_136_42, s_136_43, s_136_46, s_136_49, s_136_51, s_136_52, s_136_53, s_136_54, s_136_55, s_136_58, s_136_59, s_136_60, s_136_63, s_136_64, s_136_67, s_136_68, s_136_69, s_136_72, s_136_73, s_136_74, s_136_75, s_136_78, s_136_79, s_136_82, s_136_83, s_136_86, am_bd_s, Option.toList_some, Option.toList_none, List.cons_append, List.nil_append, am_c1_i, am_c1_n, am_c1_r, am_wr_eq, c_Model_isIn, c_Model_isType, am_B0, in_54, e4, if_pos, if_neg]
  by_cases qc : ¬ (0 ≤ c ∧ c < I 2 1)
  · exact ⟨-2, I, by simp (disch := omega) only [s_72_0, s_72_1, s_72_2, s_72_5, s_72_8, s_72_10, s_72_11, s_72_12, s_72_15, s_72_16, s_72_17, s_72_19, s_72_21, s_72_24, s_72_25, s_72_26, s_72_29, s_72_32, s_72_34, s_72_35, s_72_38, s_72_39, s_72_40, s_72_43, s_72_46, s_72_48, s_72_49, s_72_50, s_72_51, s_72_53, s_72_56, s_72_57, s_72_60, s_72_61, s_72_63, s_72_64, s_72_67, s_72_68, s_72_71, s_72_72, s_72_75, s_113_0, s_113_1, s_113_4, s_113_5, s_113_6, s_113_7, s_113_10, am_bd_s, Option.toList_some, Option.toList_none, List.cons_append, List.nil_append, am_c1_i, am_c1_n, am_c1_r, c_Types_hasConstructor, am_B0, if_pos, if_neg], I, bad I rfl (Or.inl qc), Or.inl ⟨rfl, rfl⟩⟩
  obtain ⟨c0, c1⟩ := Classical.not_not.mp qc
  obtain ⟨e4, p0, p2⟩ := a4 c c0 c1
  by_cases qa : 0 < I 3 c ∧ ¬ (0 ≤ a ∧ a < I 2 6)
  · obtain ⟨qa, qb⟩ := qa
    exact ⟨-2, I, by simp (disch := omega) only [s_72_0, s_72_1, s_72_2, s_72_5, s_72_8, s_72_10, s_72_11, s_72_12, s_72_15, s_72_16, s_72_17, s_72_19, s_72_21, s_72_24, s_72_25, s_72_26, s_72_29, s_72_32, s_72_34, s_72_35, s_72_38, s_72_39, s_72_40, s_72_43, s_72_46, s_72_48, s_72_49, s_72_50, s_72_51, s_72_53, s_72_56, s_72_57, s_72_60, s_72_61, s_72_63, s_72_64, s_72_67, s_72_68, s_72_71, s_72_72, s_72_75, s_113_0, s_113_1, s_113_4, s_113_5, s_113_6, s_113_7, s_113_10, am_bd_s, Option.toList_some, Option.toList_none, List.cons_append, List.nil_append, am_c1_i, am_c1_n, am_c1_r, c_Types_hasConstructor, c_Types_has, am_B0, in_3, if_pos, if_neg], I, bad I rfl (Or.inr (Or.inl ⟨c0, c1, qa, qb⟩)), Or.inl ⟨rfl, rfl⟩⟩
  by_cases qb : 1 < I 3 c ∧ ¬ (0 ≤ b ∧ b < I 2 6)
  · obtain ⟨qb, qd⟩ := qb
    have qe : 0 ≤ a ∧ a < I 2 6 := by
      rcases Classical.em (0 ≤ a ∧ a < I 2 6) with w | w
      · exact w
      · exact absurd ⟨by omega, w⟩ qa
    exact ⟨-2, I, by simp (disch := omega) only [s_72_0, s_72_1, s_72_2, s_72_5, s_72_8, s_72_10, s_72_11, s_72_12, s_72_15, s_72_16, s_72_17, s_72_19, s_72_21, s_72_24, s_72_25, s_72_26, s_72_29, s_72_32, s_72_34, s_72_35, s_72_38, s_72_39, s_72_40, s_72_43, s_72_46, s_72_48, s_72_49, s_72_50, s_72_51, s_72_53, s_72_56, s_72_57, s_72_60, s_72_61, s_72_63, s_72_64, s_72_67, s_72_68, s_72_71, s_72_72, s_72_75, s_113_0, s_113_1, s_113_4, s_113_5, s_113_6, s_113_7, s_113_10, am_bd_s, Option.toList_some, Option.toList_none, List.cons_append, List.nil_append, am_c1_i, am_c1_n, am_c1_r, c_Types_hasConstructor, c_Types_has, am_B0, in_3, if_pos, if_neg], I, bad I rfl (Or.inr (Or.inr ⟨c0, c1, fun _ => qe, qb, qd⟩)), Or.inl ⟨rfl, rfl⟩⟩
  have ha : (0 < I 3 c ∧ 0 ≤ (if 0 < I 3 c then a else -1) ∧ (if 0 < I 3 c then a else -1) < I 2 6) ∨ (I 3 c ≤ 0 ∧ (if 0 < I 3 c then a else -1) = -1) := by
    by_cases z : 0 < I 3 c
    · rw [if_pos z]; omega
    · rw [if_neg z]; omega
  have hb : (1 < I 3 c ∧ 0 ≤ (if 1 < I 3 c then b else -1) ∧ (if 1 < I 3 c then b else -1) < I 2 6) ∨ (I 3 c ≤ 1 ∧ (if 1 < I 3 c then b else -1) = -1) := by
    by_cases z : 1 < I 3 c
    · rw [if_pos z]; omega
    · rw [if_neg z]; omega
  obtain ⟨r, I1, w1, I2, w2, w3⟩ := s_foa N c _ _ I L h c0 c1 ha hb
  have w1 := w1 (d + 1)
  have w2 := w2 (d + 3)
  have g54 : I1 54 = I 54 ∧ I1 53 = I 53 := by
    rcases w3 with ⟨e, -⟩ | ⟨-, -, e, -⟩
    · rw [e]; exact ⟨rfl, rfl⟩
    · rw [e]; simp only [am_uI_c, Nat.reduceEqDiff, ↓reduceIte]; exact ⟨trivial, trivial⟩
  refine ⟨r, I1, ?_, I2, ?_, ?_⟩
  · by_cases z0 : 0 < I 3 c
    · by_cases z1 : 1 < I 3 c
      · rw [if_pos z0, if_pos z1] at w1
        simp (disch := omega) only [s_72_0, s_72_1, s_72_2, s_72_5, s_72_8, s_72_10, s_72_11, s_72_12, s_72_15, s_72_16, s_72_17, s_72_19, s_72_21, s_72_24, s_72_25, s_72_26, s_72_29, s_72_32, s_72_34, s_72_35, s_72_38, s_72_39, s_72_40, s_72_43, s_72_46, s_72_48, s_72_49, s_72_50, s_72_51, s_72_53, s_72_56, s_72_57, s_72_60, s_72_61, s_72_63, s_72_64, s_72_67, s_72_68, s_72_71, s_72_72, s_72_75, s_113_0, s_113_1, s_113_4, s_113_5, s_113_6, s_113_7, s_113_10, am_bd_s, Option.toList_some, Option.toList_none, List.cons_append, List.nil_append, am_c1_i, am_c1_n, am_c1_r, c_Types_hasConstructor, c_Types_has, am_B0, in_3, if_pos, if_neg, w1]
      · rw [if_pos z0, if_neg z1] at w1
        simp (disch := omega) only [s_72_0, s_72_1, s_72_2, s_72_5, s_72_8, s_72_10, s_72_11, s_72_12, s_72_15, s_72_16, s_72_17, s_72_19, s_72_21, s_72_24, s_72_25, s_72_26, s_72_29, s_72_32, s_72_34, s_72_35, s_72_38, s_72_39, s_72_40, s_72_43, s_72_46, s_72_48, s_72_49, s_72_50, s_72_51, s_72_53, s_72_56, s_72_57, s_72_60, s_72_61, s_72_63, s_72_64, s_72_67, s_72_68, s_72_71, s_72_72, s_72_75, s_113_0, s_113_1, s_113_4, s_113_5, s_113_6, s_113_7, s_113_10, am_bd_s, Option.toList_some, Option.toList_none, List.cons_append, List.nil_append, am_c1_i, am_c1_n, am_c1_r, c_Types_hasConstructor, c_Types_has, am_B0, in_3, if_pos, if_neg, w1]
    · have z1 : ¬ 1 < I 3 c := by omega
      rw [if_neg z0, if_neg z1] at w1
      simp (disch := omega) only [s_72_0, s_72_1, s_72_2, s_72_5, s_72_8, s_72_10, s_72_11, s_72_12, s_72_15, s_72_16, s_72_17, s_72_19, s_72_21, s_72_24, s_72_25, s_72_26, s_72_29, s_72_32, s_72_34, s_72_35, s_72_38, s_72_39, s_72_40, s_72_43, s_72_46, s_72_48, s_72_49, s_72_50, s_72_51, s_72_53, s_72_56, s_72_57, s_72_60, s_72_61, s_72_63, s_72_64, s_72_67, s_72_68, s_72_71, s_72_72, s_72_75, s_113_0, s_113_1, s_113_4, s_113_5, s_113_6, s_113_7, s_113_10, am_bd_s, Option.toList_some, Option.toList_none, List.cons_append, List.nil_append, am_c1_i, am_c1_n, am_c1_r, c_Types_hasConstructor, c_Types_has, am_B0, in_3, if_pos, if_neg, w1]
  · rw [e_136]
    have f1 : I1 53 0 = I 53 0 := by rw [g54.2]
    have f2 : I1 53 2 = I 53 2 := by rw [g54.2]
    have f3 : I1 54 c = I 3 c := by rw [g54.1]; exact e4
    by_cases z0 : 0 < I 3 c
    · by_cases z1 : 1 < I 3 c
      · rw [if_pos z0, if_pos z1] at w2
        simp (disch := omega) only [s_136_0, s_136_1, s_136_2, s_136_3, s_136_6, s_136_7, s_136_8, s_136_11, s_136_14, s_136_15, s_136_18, s_136_19, s_136_20, s_136_23, s_136_24, s_136_25, s_136_28, s_136_31, s_136_32, s_136_35, s_136_36, s_136_37, s_136_38, s_136_41, s_136_42, s_136_43, s_136_46, s_136_49, s_136_51, s_136_52, s_136_53, s_136_54, s_136_55, s_136_58, s_136_59, s_136_60, s_136_63, s_136_64, s_136_67, s_136_68, s_136_69, s_136_72, s_136_73, s_136_74, s_136_75, s_136_78, s_136_79, s_136_82, s_136_83, s_136_86, am_bd_s, Option.toList_some, Option.toList_none, List.cons_append, List.nil_append, am_c1_i, am_c1_n, am_c1_r, am_wr_eq, c_Model_isIn, c_Model_isType, am_B0, in_54, f1, f2, f3, if_pos, if_neg, w2]
      · rw [if_pos z0, if_neg z1] at w2
        simp (disch := omega) only [s_136_0, s_136_1, s_136_2, s_136_3, s_136_6, s_136_7, s_136_8, s_136_11, s_136_14, s_136_15, s_136_18, s_136_19, s_136_20, s_136_23, s_136_24, s_136_25, s_136_28, s_136_31, s_136_32, s_136_35, s_136_36, s_136_37, s_136_38, s_136_41, s_136_42, s_136_43, s_136_46, s_136_49, s_136_51, s_136_52, s_136_53, s_136_54, s_136_55, s_136_58, s_136_59, s_136_60, s_136_63, s_136_64, s_136_67, s_136_68, s_136_69, s_136_72, s_136_73, s_136_74, s_136_75, s_136_78, s_136_79, s_136_82, s_136_83, s_136_86, am_bd_s, Option.toList_some, Option.toList_none, List.cons_append, List.nil_append, am_c1_i, am_c1_n, am_c1_r, am_wr_eq, c_Model_isIn, c_Model_isType, am_B0, in_54, f1, f2, f3, if_pos, if_neg, w2]
    · have z1 : ¬ 1 < I 3 c := by omega
      rw [if_neg z0, if_neg z1] at w2
      simp (disch := omega) only [s_136_0, s_136_1, s_136_2, s_136_3, s_136_6, s_136_7, s_136_8, s_136_11, s_136_14, s_136_15, s_136_18, s_136_19, s_136_20, s_136_23, s_136_24, s_136_25, s_136_28, s_136_31, s_136_32, s_136_35, s_136_36, s_136_37, s_136_38, s_136_41, s_136_42, s_136_43, s_136_46, s_136_49, s_136_51, s_136_52, s_136_53, s_136_54, s_136_55, s_136_58, s_136_59, s_136_60, s_136_63, s_136_64, s_136_67, s_136_68, s_136_69, s_136_72, s_136_73, s_136_74, s_136_75, s_136_78, s_136_79, s_136_82, s_136_83, s_136_86, am_bd_s, Option.toList_some, Option.toList_none, List.cons_append, List.nil_append, am_c1_i, am_c1_n, am_c1_r, am_wr_eq, c_Model_isIn, c_Model_isType, am_B0, in_54, f1, f2, f3, if_pos, if_neg, w2]
  · rcases w3 with ⟨e1, e2, -⟩ | ⟨-, q, e1, e2⟩
    · exact Or.inl ⟨e1, e2⟩
    · exact Or.inr ⟨_, _, _, _, c0, c1, q, ha, hb, rfl, rfl, e1, e2⟩
