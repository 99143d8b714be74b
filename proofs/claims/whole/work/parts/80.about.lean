/-! about(). -/
theorem am_pb_C {I J : Nat → Int → Int} {L M : Nat → Int → Int64} {b : Int → Prop} (hC : am_RC2 I J) (hI : am_RI2 I J) (hD : am_RD2 I J L M b) (hM : am_RMI I) : am_pb (I 33 9) (I 34) (I 36) (I 18) (I 12) (I 38) := by
  intro w w0 w1
  obtain ⟨y1, y2, y3, y4⟩ := am_tot_bd hC hI hD w0 w1
  have m := hM w w0 w1
  obtain ⟨d1, d2, d3, d4⟩ := hD
  obtain ⟨b1, b2, b3, b4, b5, b6, b7, b8, b9, b10, b11, b12, b13, b14⟩ := d4 w w0 w1
  have c2 := hC.2.1
  have i2 := hI.2.1
  refine ⟨b9, by omega, b2, by omega, y1, y2, y3, y4, fun j j0 j1 => ?_⟩
  obtain ⟨g1, g2, g3, g4⟩ := b13 j j0 (by omega)
  exact ⟨g2, g3⟩
theorem am_pb_M {I J : Nat → Int → Int} {L M : Nat → Int → Int64} {b : Int → Prop} (hC : am_RC2 I J) (hI : am_RI2 I J) (hD : am_RD2 I J L M b) (hM : am_RMI I) : am_pb (J 53 28) (J 77) (J 79) (J 67) (J 62) (J 80) ∧ ∀ w, 0 ≤ w → w < I 33 9 → am_totM J w = am_tot I w ∧ ∀ j, 0 ≤ j → j < am_tot I w → J 80 (w * 6 + j) = I 38 (w * 6 + j) := by
  have hx : ∀ w, 0 ≤ w → w < I 33 9 → J 79 w = I 36 w ∧ J 77 w = I 34 w ∧ J 67 (I 36 w) = I 18 (I 36 w) ∧ J 62 (I 34 w) = I 12 (I 34 w) ∧ ∀ j, 0 ≤ j → j < am_tot I w → J 80 (w * 6 + j) = I 38 (w * 6 + j) := by
    intro w w0 w1
    have m := hM w w0 w1
    obtain ⟨d1, d2, d3, d4⟩ := hD
    obtain ⟨b1, b2, b3, b4, b5, b6, b7, b8, b9, b10, b11, b12, b13, b14⟩ := d4 w w0 w1
    obtain ⟨-, -, -, -, -, -, e7, -⟩ := hI.2.2.2.1 (I 36 w) b9 b10
    obtain ⟨-, -, -, f4, -⟩ := hC.2.2.2.1 (I 34 w) b2 b3
    exact ⟨b8, b1, e7, f4, fun j j0 j1 => (b13 j j0 (by have : am_tot I w = I 18 (I 36 w) + I 12 (I 34 w) := rfl; omega)).1⟩
  have e3 := hD.2.2.1
  refine ⟨fun w w0 w1 => ?_, fun w w0 w1 => ?_⟩
  · obtain ⟨g1, g2, g3, g4, g5⟩ := hx w w0 (by omega)
    obtain ⟨c1, c2, c3, c4, c5, c6, c7, c8, c9⟩ := am_pb_C hC hI hD hM w w0 (by omega)
    rw [g1, g2, g3, g4]
    refine ⟨c1, c2, c3, c4, c5, c6, c7, c8, fun j j0 j1 => ?_⟩
    rw [g5 j j0 j1, e3]
    exact c9 j j0 j1
  · obtain ⟨g1, g2, g3, g4, g5⟩ := hx w w0 w1
    refine ⟨?_, g5⟩
    show J 67 (J 79 w) + J 62 (J 77 w) = I 18 (I 36 w) + I 12 (I 34 w)
    rw [g1, g2, g3, g4]
theorem am_mi_to {of nD : Int} {pm pt pm2 pt2 X : Int → Int} (h : ∀ w, 0 ≤ w → w < nD → pm2 w = pm w ∧ ∀ j, 0 ≤ j → j < pm w → pt2 (w * 6 + j) = pt (w * 6 + j)) (h1 : am_mi of nD pm2 pt2 X) : am_mi of nD pm pt X := by
  refine ⟨h1.1, fun C hC hcl => h1.2 C hC (fun d d0 d1 hd j j0 j1 => ?_)⟩
  obtain ⟨g1, g2⟩ := h d d0 d1
  rw [g1] at j1
  rw [g2 j j0 j1]
  exact hcl d d0 d1 hd j j0 j1
theorem am_clo_to {nD : Int} {pm pt pm2 pt2 X : Int → Int} (h : ∀ w, 0 ≤ w → w < nD → pm2 w = pm w ∧ ∀ j, 0 ≤ j → j < pm w → pt2 (w * 6 + j) = pt (w * 6 + j)) (h1 : am_clo nD pm2 pt2 X) : am_clo nD pm pt X := by
  intro d d0 d1 hd j j0 j1
  obtain ⟨g1, g2⟩ := h d d0 d1
  rw [← g2 j j0 j1]
  exact h1 d d0 d1 hd j j0 (by omega)
theorem am_sim2_about (x p : Int) : am_Sim2 125 165 [.inl x, .inl p] := by
  intro N I J L M h
  have hR := h
  obtain ⟨hT, hC, hI, hN, hF, hD, hM, hP, hw1, hw2, hO⟩ := h
  have hDa := hD
  obtain ⟨d1, d2, d3, d4⟩ := hDa
  have k1 : ∀ k : Nat, 53 ≤ k → I k = I k := fun _ _ => rfl
  by_cases q : ¬ (0 ≤ x ∧ x < I 33 9)
  · refine ⟨.inl (-2), I, J, L, M, ?_, ?_, hR, fun _ _ => rfl, fun _ _ => rfl, fun _ _ => rfl, fun _ _ => rfl⟩
    · rw [e_125]
      simp (disch := omega) only [s_125_0, s_125_1, s_125_4, s_125_5, s_125_8, s_125_11, s_125_13, s_125_14, s_125_15, s_125_48, s_125_49, s_125_52, s_125_53, s_125_56, s_125_57, s_125_58, s_125_61, s_125_62, s_125_65, s_125_66, s_125_67, s_125_70, s_125_71, s_125_74, s_125_75, s_125_76, s_125_79, s_125_80, s_125_83, s_125_84, s_125_85, s_125_88, s_125_89, s_125_92, s_125_93, s_125_95, am_bd_s, Option.toList_some, Option.toList_none, List.cons_append, List.nil_append, am_c1_i, am_c1_n, am_c1_r, if_true, if_false, c_Dictionaries_has, am_Bf, ↓if_pos, ↓if_neg, if_pos, if_neg]
    · rw [e_165]
      simp (disch := omega) only [s_165_0, s_165_1, s_165_2, s_165_5, s_165_8, s_165_9, s_165_10, s_165_11, s_165_14, s_165_17, s_165_19, s_165_20, s_165_21, s_165_24, s_165_25, s_165_28, s_165_29, s_165_30, s_165_33, s_165_34, s_165_35, s_165_38, s_165_39, s_165_42, s_165_43, s_165_44, s_165_47, s_165_48, s_165_49, s_165_52, s_165_53, s_165_56, s_165_57, s_165_58, s_165_61, s_165_62, s_165_63, s_165_66, s_165_67, s_165_68, s_165_71, s_165_74, s_165_75, s_165_76, s_165_79, am_bd_s, Option.toList_some, Option.toList_none, List.cons_append, List.nil_append, am_c1_i, am_c1_n, am_c1_r, if_true, if_false, c_Model_isDictionary, am_Bf, ↓if_pos, ↓if_neg, if_pos, if_neg]
  obtain ⟨q0, q1⟩ := Classical.not_not.mp q
  obtain ⟨b1, b2, b3, b4, b5, b6, b7, b8, b9, b10, b11, b12, b13, b14⟩ := d4 x q0 q1
  have pC := am_pb_C hC hI hD hM
  obtain ⟨pM, pE⟩ := am_pb_M hC hI hD hM
  obtain ⟨c1, c2, c3, c4, c5, c6, c7, c8, -⟩ := pC x q0 q1
  obtain ⟨v1, v2, v3, v4, v5, v6, v7, v8, -⟩ := pM x q0 (by omega)
  by_cases z0 : p = 0
  · refine ⟨.inl (I 34 x), I, J, L, M, ?_, ?_, hR, fun _ _ => rfl, fun _ _ => rfl, fun _ _ => rfl, fun _ _ => rfl⟩
    · rw [e_125]
      simp (disch := omega) only [s_125_0, s_125_1, s_125_4, s_125_5, s_125_8, s_125_11, s_125_13, s_125_14, s_125_15, s_125_48, s_125_49, s_125_52, s_125_53, s_125_56, s_125_57, s_125_58, s_125_61, s_125_62, s_125_65, s_125_66, s_125_67, s_125_70, s_125_71, s_125_74, s_125_75, s_125_76, s_125_79, s_125_80, s_125_83, s_125_84, s_125_85, s_125_88, s_125_89, s_125_92, s_125_93, s_125_95, am_bd_s, Option.toList_some, Option.toList_none, List.cons_append, List.nil_append, am_c1_i, am_c1_n, am_c1_r, if_true, if_false, c_Dictionaries_has, c_Dictionaries_classOf, am_Bt, ↓if_pos, ↓if_neg, if_pos, if_neg]
    · rw [e_165]
      simp (disch := omega) only [s_165_0, s_165_1, s_165_2, s_165_5, s_165_8, s_165_9, s_165_10, s_165_11, s_165_14, s_165_17, s_165_19, s_165_20, s_165_21, s_165_24, s_165_25, s_165_28, s_165_29, s_165_30, s_165_33, s_165_34, s_165_35, s_165_38, s_165_39, s_165_42, s_165_43, s_165_44, s_165_47, s_165_48, s_165_49, s_165_52, s_165_53, s_165_56, s_165_57, s_165_58, s_165_61, s_165_62, s_165_63, s_165_66, s_165_67, s_165_68, s_165_71, s_165_74, s_165_75, s_165_76, s_165_79, am_bd_s, Option.toList_some, Option.toList_none, List.cons_append, List.nil_append, am_c1_i, am_c1_n, am_c1_r, if_true, if_false, c_Model_isDictionary, c_Model_isIn, am_Bt, in_77, b1, ↓if_pos, ↓if_neg, if_pos, if_neg]
  by_cases z1 : p = 1
  · refine ⟨.inl (I 35 x), I, J, L, M, ?_, ?_, hR, fun _ _ => rfl, fun _ _ => rfl, fun _ _ => rfl, fun _ _ => rfl⟩
    · rw [e_125]
      simp (disch := omega) only [s_125_0, s_125_1, s_125_4, s_125_5, s_125_8, s_125_11, s_125_13, s_125_14, s_125_15, s_125_48, s_125_49, s_125_52, s_125_53, s_125_56, s_125_57, s_125_58, s_125_61, s_125_62, s_125_65, s_125_66, s_125_67, s_125_70, s_125_71, s_125_74, s_125_75, s_125_76, s_125_79, s_125_80, s_125_83, s_125_84, s_125_85, s_125_88, s_125_89, s_125_92, s_125_93, s_125_95, am_bd_s, Option.toList_some, Option.toList_none, List.cons_append, List.nil_append, am_c1_i, am_c1_n, am_c1_r, if_true, if_false, c_Dictionaries_has, c_Dictionaries_typeAt, am_Bt, ↓if_pos, ↓if_neg, if_pos, if_neg]
    · rw [e_165]
      simp (disch := omega) only [s_165_0, s_165_1, s_165_2, s_165_5, s_165_8, s_165_9, s_165_10, s_165_11, s_165_14, s_165_17, s_165_19, s_165_20, s_165_21, s_165_24, s_165_25, s_165_28, s_165_29, s_165_30, s_165_33, s_165_34, s_165_35, s_165_38, s_165_39, s_165_42, s_165_43, s_165_44, s_165_47, s_165_48, s_165_49, s_165_52, s_165_53, s_165_56, s_165_57, s_165_58, s_165_61, s_165_62, s_165_63, s_165_66, s_165_67, s_165_68, s_165_71, s_165_74, s_165_75, s_165_76, s_165_79, am_bd_s, Option.toList_some, Option.toList_none, List.cons_append, List.nil_append, am_c1_i, am_c1_n, am_c1_r, if_true, if_false, c_Model_isDictionary, c_Model_isIn, am_Bt, in_78, b4, ↓if_pos, ↓if_neg, if_pos, if_neg]
  by_cases z2 : p = 2
  · refine ⟨.inl (I 36 x), I, J, L, M, ?_, ?_, hR, fun _ _ => rfl, fun _ _ => rfl, fun _ _ => rfl, fun _ _ => rfl⟩
    · rw [e_125]
      simp (disch := omega) only [s_125_0, s_125_1, s_125_4, s_125_5, s_125_8, s_125_11, s_125_13, s_125_14, s_125_15, s_125_48, s_125_49, s_125_52, s_125_53, s_125_56, s_125_57, s_125_58, s_125_61, s_125_62, s_125_65, s_125_66, s_125_67, s_125_70, s_125_71, s_125_74, s_125_75, s_125_76, s_125_79, s_125_80, s_125_83, s_125_84, s_125_85, s_125_88, s_125_89, s_125_92, s_125_93, s_125_95, am_bd_s, Option.toList_some, Option.toList_none, List.cons_append, List.nil_append, am_c1_i, am_c1_n, am_c1_r, if_true, if_false, c_Dictionaries_has, c_Dictionaries_instanceOf, am_Bt, ↓if_pos, ↓if_neg, if_pos, if_neg]
    · rw [e_165]
      simp (disch := omega) only [s_165_0, s_165_1, s_165_2, s_165_5, s_165_8, s_165_9, s_165_10, s_165_11, s_165_14, s_165_17, s_165_19, s_165_20, s_165_21, s_165_24, s_165_25, s_165_28, s_165_29, s_165_30, s_165_33, s_165_34, s_165_35, s_165_38, s_165_39, s_165_42, s_165_43, s_165_44, s_165_47, s_165_48, s_165_49, s_165_52, s_165_53, s_165_56, s_165_57, s_165_58, s_165_61, s_165_62, s_165_63, s_165_66, s_165_67, s_165_68, s_165_71, s_165_74, s_165_75, s_165_76, s_165_79, am_bd_s, Option.toList_some, Option.toList_none, List.cons_append, List.nil_append, am_c1_i, am_c1_n, am_c1_r, if_true, if_false, c_Model_isDictionary, c_Model_isIn, am_Bt, in_79, b8, ↓if_pos, ↓if_neg, if_pos, if_neg]
  by_cases z3 : p = 3
  · have e := (pE x q0 q1).1
    have e2 : am_tot I x = I 18 (I 36 x) + I 12 (I 34 x) := rfl
    have e3 : J 67 (J 79 x) + J 62 (J 77 x) = I 18 (I 36 x) + I 12 (I 34 x) := e
    refine ⟨.inl (I 18 (I 36 x) + I 12 (I 34 x)), I, J, L, M, ?_, ?_, hR, fun _ _ => rfl, fun _ _ => rfl, fun _ _ => rfl, fun _ _ => rfl⟩
    · rw [e_125]
      simp (disch := omega) only [s_125_0, s_125_1, s_125_4, s_125_5, s_125_8, s_125_11, s_125_13, s_125_14, s_125_15, s_125_48, s_125_49, s_125_52, s_125_53, s_125_56, s_125_57, s_125_58, s_125_61, s_125_62, s_125_65, s_125_66, s_125_67, s_125_70, s_125_71, s_125_74, s_125_75, s_125_76, s_125_79, s_125_80, s_125_83, s_125_84, s_125_85, s_125_88, s_125_89, s_125_92, s_125_93, s_125_95, am_bd_s, Option.toList_some, Option.toList_none, List.cons_append, List.nil_append, am_c1_i, am_c1_n, am_c1_r, if_true, if_false, c_Dictionaries_has, c_Dictionaries_partsOf, am_Bt, ↓if_pos, ↓if_neg, if_pos, if_neg]
    · rw [e_165]
      simp (disch := omega) only [s_165_0, s_165_1, s_165_2, s_165_5, s_165_8, s_165_9, s_165_10, s_165_11, s_165_14, s_165_17, s_165_19, s_165_20, s_165_21, s_165_24, s_165_25, s_165_28, s_165_29, s_165_30, s_165_33, s_165_34, s_165_35, s_165_38, s_165_39, s_165_42, s_165_43, s_165_44, s_165_47, s_165_48, s_165_49, s_165_52, s_165_53, s_165_56, s_165_57, s_165_58, s_165_61, s_165_62, s_165_63, s_165_66, s_165_67, s_165_68, s_165_71, s_165_74, s_165_75, s_165_76, s_165_79, am_bd_s, Option.toList_some, Option.toList_none, List.cons_append, List.nil_append, am_c1_i, am_c1_n, am_c1_r, if_true, if_false, c_Model_isDictionary, c_Model_isIn, c_Model_partMany, am_Bt, e3, ↓if_pos, ↓if_neg, if_pos, if_neg]
  by_cases z4 : p = 4
  · obtain ⟨rr, sn, e1, e2, e3, e4⟩ := c_hangingOn 5 N x I L q0 q1 d2 pC
    obtain ⟨X, f1, f2, f3, f4⟩ := c_hanging 6 N x J M q0 (by omega) (by omega) pM
    rw [d3] at f2 f3 f4
    have f3 := am_clo_to pE f3
    have f4 := am_mi_to pE f4
    have hs := am_mi_eq f4 e4 f3 e3 f2 e2
    rw [d3, hs] at f1
    refine ⟨.inl (am_sm sn 0 (I 33 9).toNat), am_sI (am_sI I 39 rr) 40 sn, am_sI J 87 X, L, M, ?_, ?_, hR, fun k hk => ?_, fun _ _ => rfl, fun k hk => ?_, fun _ _ => rfl⟩
    · rw [e_125]
      simp (disch := omega) only [s_125_0, s_125_1, s_125_4, s_125_5, s_125_8, s_125_11, s_125_13, s_125_14, s_125_15, s_125_48, s_125_49, s_125_52, s_125_53, s_125_56, s_125_57, s_125_58, s_125_61, s_125_62, s_125_65, s_125_66, s_125_67, s_125_70, s_125_71, s_125_74, s_125_75, s_125_76, s_125_79, s_125_80, s_125_83, s_125_84, s_125_85, s_125_88, s_125_89, s_125_92, s_125_93, s_125_95, am_bd_s, Option.toList_some, Option.toList_none, List.cons_append, List.nil_append, am_c1_i, am_c1_n, am_c1_r, if_true, if_false, c_Dictionaries_has, am_Bt, ↓if_pos, ↓if_neg, if_pos, if_neg, e1]
    · rw [e_165]
      simp (disch := omega) only [s_165_0, s_165_1, s_165_2, s_165_5, s_165_8, s_165_9, s_165_10, s_165_11, s_165_14, s_165_17, s_165_19, s_165_20, s_165_21, s_165_24, s_165_25, s_165_28, s_165_29, s_165_30, s_165_33, s_165_34, s_165_35, s_165_38, s_165_39, s_165_42, s_165_43, s_165_44, s_165_47, s_165_48, s_165_49, s_165_52, s_165_53, s_165_56, s_165_57, s_165_58, s_165_61, s_165_62, s_165_63, s_165_66, s_165_67, s_165_68, s_165_71, s_165_74, s_165_75, s_165_76, s_165_79, am_bd_s, Option.toList_some, Option.toList_none, List.cons_append, List.nil_append, am_c1_i, am_c1_n, am_c1_r, if_true, if_false, c_Model_isDictionary, c_Model_isIn, am_Bt, f1, ↓if_pos, ↓if_neg, if_pos, if_neg]
    · rw [am_sI_c, am_sI_c, if_neg (by omega), if_neg (by omega)]
    · rw [am_sI_c, if_neg (by omega)]
  · refine ⟨.inl (-2), I, J, L, M, ?_, ?_, hR, fun _ _ => rfl, fun _ _ => rfl, fun _ _ => rfl, fun _ _ => rfl⟩
    · rw [e_125]
      simp (disch := omega) only [s_125_0, s_125_1, s_125_4, s_125_5, s_125_8, s_125_11, s_125_13, s_125_14, s_125_15, s_125_48, s_125_49, s_125_52, s_125_53, s_125_56, s_125_57, s_125_58, s_125_61, s_125_62, s_125_65, s_125_66, s_125_67, s_125_70, s_125_71, s_125_74, s_125_75, s_125_76, s_125_79, s_125_80, s_125_83, s_125_84, s_125_85, s_125_88, s_125_89, s_125_92, s_125_93, s_125_95, am_bd_s, Option.toList_some, Option.toList_none, List.cons_append, List.nil_append, am_c1_i, am_c1_n, am_c1_r, if_true, if_false, c_Dictionaries_has, am_Bt, ↓if_pos, ↓if_neg, if_pos, if_neg]
    · rw [e_165]
      simp (disch := omega) only [s_165_0, s_165_1, s_165_2, s_165_5, s_165_8, s_165_9, s_165_10, s_165_11, s_165_14, s_165_17, s_165_19, s_165_20, s_165_21, s_165_24, s_165_25, s_165_28, s_165_29, s_165_30, s_165_33, s_165_34, s_165_35, s_165_38, s_165_39, s_165_42, s_165_43, s_165_44, s_165_47, s_165_48, s_165_49, s_165_52, s_165_53, s_165_56, s_165_57, s_165_58, s_165_61, s_165_62, s_165_63, s_165_66, s_165_67, s_165_68, s_165_71, s_165_74, s_165_75, s_165_76, s_165_79, am_bd_s, Option.toList_some, Option.toList_none, List.cons_append, List.nil_append, am_c1_i, am_c1_n, am_c1_r, if_true, if_false, c_Model_isDictionary, c_Model_isIn, am_Bt, am_Bf, ↓if_pos, ↓if_neg, if_pos, if_neg]
theorem am_sim_about (x p : Int) : am_Sim 125 165 [.inl x, .inl p] := am_sim2 (am_sim2_about x p)
