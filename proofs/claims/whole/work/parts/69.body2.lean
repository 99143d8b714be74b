/-! body(), standard(). -/
theorem am_Rel_marks {I : Nat → Int → Int} {L : Nat → Int → Int64} (h : am_Rel I L) (m1 m2 : Int → Int) : am_Rel (am_sI (am_sI I 28 m1) 76 m2) L := h
abbrev am_bI (I : Nat → Int → Int) (a b : Nat) (x n : Int) (m1 m2 : Int → Int) : Nat → Int → Int := am_uI (am_uI (am_sI (am_uI (am_uI (am_sI I 28 m1) a x n) 33 9 0) 76 m2) b x n) 53 28 0
theorem am_Rel_body {I : Nat → Int → Int} {L : Nat → Int → Int64} (h : am_Rel I L) {i m n : Int} (i0 : 0 ≤ i) (i1 : i < I 15 8) (m0 : 0 ≤ m) (m1 : m < 4) (hn : n = -1 ∨ (0 ≤ n ∧ n < I 22 8 ∧ am_fit (am_nokI I (I 16 i) (I 18 i) (i * 3) (I 3 (I 17 i))) (I 23) (I 24) (I 25) (I 26) 9 n)) (f1 f2 : Int → Int) : am_Rel (am_bI I 21 70 (i * 4 + m) n f1 f2) L := by
  obtain ⟨hT, hC, hI, hN, hF, hD, hM, hP, hw1, hw2⟩ := h
  unfold am_Rel
  simp only [am_bI, am_RTI, am_RCI, am_RII, am_RNI, am_RFI, am_RDI, am_RMI, am_RPI, am_uI_c, am_sI_c, Nat.reduceEqDiff, ↓reduceIte, am_up_s]
  simp only [am_up_a, Int.reduceEq, ↓reduceIte]
  have hIa := hI
  obtain ⟨b1, b2, b3, b4, b5⟩ := hIa
  refine ⟨hT, hC, ⟨b1, b2, b3, fun j q0 q1 => ?_, fun j q0 q1 => ?_⟩, hN, ?_, am_RD_none rfl rfl, am_RM_none rfl, hP, hw1, hw2⟩
  · obtain ⟨c1, c2, c3, c4, c5, c6, c7, c8, c9, c10, c11⟩ := b4 j q0 q1
    refine ⟨c1, c2, c3, c4, c5, c6, c7, c8, c9, c10, fun k k0 k1 => ?_⟩
    rw [am_up_a, am_up_a, c11 k k0 k1]
  · obtain ⟨c1, c2⟩ := b5 j q0 q1
    refine ⟨c1, fun k k0 k1 => ?_⟩
    rw [am_up_n _ _ (by omega)]
    exact c2 k k0 k1
  · obtain ⟨h1, h2⟩ := hF
    refine ⟨h1, fun j q0 q1 k k0 k1 => ?_⟩
    by_cases e : j * 4 + k = i * 4 + m
    · have ej : j = i := by omega
      rw [am_up_a, if_pos e, ej]
      exact hn
    · rw [am_up_a, if_neg e]
      exact h2 j q0 q1 k k0 k1
theorem am_Rel_standard {I : Nat → Int → Int} {L : Nat → Int → Int64} (h : am_Rel I L) {i m n : Int} (i0 : 0 ≤ i) (i1 : i < I 10 4) (m0 : 0 ≤ m) (m1 : m < 4) (hn : n = -1 ∨ (0 ≤ n ∧ n < I 22 8 ∧ am_fit (am_nokI I i 0 0 1) (I 23) (I 24) (I 25) (I 26) 9 n)) (f1 f2 : Int → Int) : am_Rel (am_bI I 14 64 (i * 4 + m) n f1 f2) L := by
  obtain ⟨hT, hC, hI, hN, hF, hD, hM, hP, hw1, hw2⟩ := h
  unfold am_Rel
  simp only [am_bI, am_RTI, am_RCI, am_RII, am_RNI, am_RFI, am_RDI, am_RMI, am_RPI, am_uI_c, am_sI_c, Nat.reduceEqDiff, ↓reduceIte, am_up_s]
  simp only [am_up_a, Int.reduceEq, ↓reduceIte]
  have hCa := hC
  obtain ⟨b1, b2, b3, b4, b5⟩ := hCa
  refine ⟨hT, ⟨b1, b2, b3, fun j q0 q1 => ?_, fun j q0 q1 => ?_⟩, hI, hN, ?_, am_RD_none rfl rfl, am_RM_none rfl, hP, hw1, hw2⟩
  · obtain ⟨c1, c2, c3, c4, c5, c6, c7, c8⟩ := b4 j q0 q1
    refine ⟨c1, c2, c3, c4, c5, c6, c7, fun k k0 k1 => ?_⟩
    rw [am_up_a, am_up_a, c8 k k0 k1]
  · obtain ⟨c1, c2⟩ := b5 j q0 q1
    refine ⟨c1, fun k k0 k1 => ?_⟩
    rw [am_up_n _ _ (by omega)]
    exact c2 k k0 k1
  · obtain ⟨h1, h2⟩ := hF
    refine ⟨fun j q0 q1 k k0 k1 => ?_, h2⟩
    by_cases e : j * 4 + k = i * 4 + m
    · have ej : j = i := by omega
      rw [am_up_a, if_pos e, ej]
      exact hn
    · rw [am_up_a, if_neg e]
      exact h1 j q0 q1 k k0 k1
theorem am_nok0 {mb su sr cc op kd na nb : Int → Int} {cl v n a b : Int} (hg : kd n = 2 → 0 ≤ na n) : am_nok mb su sr cc op kd na nb cl 0 a v n → am_nok mb su sr cc op kd na nb cl 0 b v n := by
  rintro ⟨h1, h2, h3, h4⟩
  refine ⟨h1, fun q => ?_, h3, h4⟩
  have := hg q
  have := (h2 q).1
  omega
theorem am_sim_body (i m n : Int) : am_Sim 120 152 [.inl i, .inl m, .inl n] := by
  intro N I L h
  have hR := h
  obtain ⟨hT, hC, hI, hN, hF, hD, hM, hP, hw1, hw2⟩ := h
  have hTa := hT
  obtain ⟨t1, t2, -⟩ := hTa
  have hCa := hC
  obtain ⟨c1, c2, c3, c4, c5⟩ := hCa
  have hIa := hI
  obtain ⟨i1, i2, i3, i4, i5⟩ := hIa
  have hNa := hN
  obtain ⟨n1, n2, n3, n4⟩ := hNa
  by_cases q : ¬ (0 ≤ i ∧ i < I 15 8)
  · refine ⟨.inl (-2), I, L, ?_, I, L, ?_, hR⟩
    · rw [e_120]
      simp (disch := omega) only [s_120_0, s_120_1, s_120_4, s_120_5, s_120_8, s_120_11, s_120_12, s_120_15, s_120_16, s_120_19, s_120_20, s_120_23, s_120_24, s_120_27, s_120_30, s_120_32, s_120_33, s_120_34, s_120_35, s_120_38, s_120_39, s_120_42, s_120_43, s_120_44, s_120_47, s_120_50, s_120_52, s_120_53, s_120_54, s_120_57, s_120_58, s_120_59, s_120_60, s_120_63, s_120_64, s_120_65, s_120_68, am_bd_s, Option.toList_some, Option.toList_none, List.cons_append, List.nil_append, am_c1_i, am_c1_n, am_c1_r, if_true, if_false, c_Instances_has, am_Bf, ↓if_pos, ↓if_neg, if_pos, if_neg]
    · rw [e_152]
      simp (disch := omega) only [s_152_0, s_152_1, s_152_2, s_152_5, s_152_8, s_152_9, s_152_10, s_152_11, s_152_14, s_152_15, s_152_18, s_152_19, s_152_20, s_152_21, s_152_22, s_152_23, s_152_26, s_152_29, s_152_30, s_152_31, s_152_34, s_152_35, s_152_36, s_152_39, s_152_42, s_152_43, s_152_44, s_152_45, s_152_48, s_152_49, s_152_50, s_152_51, s_152_54, s_152_57, s_152_59, s_152_60, s_152_61, s_152_64, s_152_65, s_152_66, s_152_67, s_152_68, s_152_69, s_152_70, s_152_71, s_152_72, s_152_73, s_152_76, am_bd_s, Option.toList_some, Option.toList_none, List.cons_append, List.nil_append, am_c1_i, am_c1_n, am_c1_r, if_true, if_false, c_Model_isInstance, am_Bf, ↓if_pos, ↓if_neg, if_pos, if_neg]
  obtain ⟨q0, q1⟩ := Classical.not_not.mp q
  obtain ⟨b1, b2, b3, b4, b5, b6, b7, b8, b9, b10, b11⟩ := i4 i q0 q1
  obtain ⟨s1, s2, s3, s4, s5, s6, s7, s8⟩ := c4 (I 16 i) b2 b3
  have em : I 61 (I 65 i) = I 11 (I 16 i) := by rw [b1, s1]
  by_cases qm : ¬ (0 ≤ m ∧ m < I 11 (I 16 i))
  · refine ⟨.inl (-2), I, L, ?_, I, L, ?_, hR⟩
    · rw [e_120]
      simp (disch := omega) only [s_120_0, s_120_1, s_120_4, s_120_5, s_120_8, s_120_11, s_120_12, s_120_15, s_120_16, s_120_19, s_120_20, s_120_23, s_120_24, s_120_27, s_120_30, s_120_32, s_120_33, s_120_34, s_120_35, s_120_38, s_120_39, s_120_42, s_120_43, s_120_44, s_120_47, s_120_50, s_120_52, s_120_53, s_120_54, s_120_57, s_120_58, s_120_59, s_120_60, s_120_63, s_120_64, s_120_65, s_120_68, am_bd_s, Option.toList_some, Option.toList_none, List.cons_append, List.nil_append, am_c1_i, am_c1_n, am_c1_r, if_true, if_false, c_Instances_has, c_Instances_classOf, c_Classes_hasMember, am_Bt, am_Bf, ↓if_pos, ↓if_neg, if_pos, if_neg]
    · rw [e_152]
      simp (disch := omega) only [s_152_0, s_152_1, s_152_2, s_152_5, s_152_8, s_152_9, s_152_10, s_152_11, s_152_14, s_152_15, s_152_18, s_152_19, s_152_20, s_152_21, s_152_22, s_152_23, s_152_26, s_152_29, s_152_30, s_152_31, s_152_34, s_152_35, s_152_36, s_152_39, s_152_42, s_152_43, s_152_44, s_152_45, s_152_48, s_152_49, s_152_50, s_152_51, s_152_54, s_152_57, s_152_59, s_152_60, s_152_61, s_152_64, s_152_65, s_152_66, s_152_67, s_152_68, s_152_69, s_152_70, s_152_71, s_152_72, s_152_73, s_152_76, am_bd_s, Option.toList_some, Option.toList_none, List.cons_append, List.nil_append, am_c1_i, am_c1_n, am_c1_r, if_true, if_false, c_Model_isInstance, c_Model_isIn, in_65, in_61, em, am_wr_eq, am_Bt, am_Bf, ↓if_pos, ↓if_neg, if_pos, if_neg]
  obtain ⟨m0, m1⟩ := Classical.not_not.mp qm
  by_cases qn : n = -1
  · refine ⟨.inl 1, am_uI (am_uI I 21 (i * 4 + m) n) 33 9 0, L, ?_, am_bI I 21 70 (i * 4 + m) n (I 28) (I 76), L, ?_, am_Rel_body hR q0 q1 m0 (by omega) (Or.inl qn) _ _⟩
    · rw [e_120]
      simp (disch := omega) only [s_120_0, s_120_1, s_120_4, s_120_5, s_120_8, s_120_11, s_120_12, s_120_15, s_120_16, s_120_19, s_120_20, s_120_23, s_120_24, s_120_27, s_120_30, s_120_32, s_120_33, s_120_34, s_120_35, s_120_38, s_120_39, s_120_42, s_120_43, s_120_44, s_120_47, s_120_50, s_120_52, s_120_53, s_120_54, s_120_57, s_120_58, s_120_59, s_120_60, s_120_63, s_120_64, s_120_65, s_120_68, am_bd_s, Option.toList_some, Option.toList_none, List.cons_append, List.nil_append, am_c1_i, am_c1_n, am_c1_r, if_true, if_false, c_Instances_has, c_Instances_classOf, c_Classes_hasMember, c_Instances_setBody, c_afterChange_p, am_Bt, am_Bf, ↓if_pos, ↓if_neg, if_pos, if_neg]
    · rw [e_152]
      have e0 : am_sI (am_uI (am_uI I 21 (i * 4 + m) n) 33 9 0) 76 (I 76) = am_uI (am_uI I 21 (i * 4 + m) n) 33 9 0 := am_sI_self (am_uI (am_uI I 21 (i * 4 + m) n) 33 9 0) 76
      simp only [am_bI, am_sI_self, e0]
      simp (disch := first | omega | (simp only [am_uI_c, Nat.reduceEqDiff, ↓reduceIte, am_up_s] <;> omega) | fail) only [s_152_0, s_152_1, s_152_2, s_152_5, s_152_8, s_152_9, s_152_10, s_152_11, s_152_14, s_152_15, s_152_18, s_152_19, s_152_20, s_152_21, s_152_22, s_152_23, s_152_26, s_152_29, s_152_30, s_152_31, s_152_34, s_152_35, s_152_36, s_152_39, s_152_42, s_152_43, s_152_44, s_152_45, s_152_48, s_152_49, s_152_50, s_152_51, s_152_54, s_152_57, s_152_59, s_152_60, s_152_61, s_152_64, s_152_65, s_152_66, s_152_67, s_152_68, s_152_69, s_152_70, s_152_71, s_152_72, s_152_73, s_152_76, am_bd_s, Option.toList_some, Option.toList_none, List.cons_append, List.nil_append, am_c1_i, am_c1_n, am_c1_r, if_true, if_false, c_Model_isInstance, c_Model_isIn, c_Model_away, in_65, in_61, in_70, am_uI_c, Nat.reduceEqDiff, ↓reduceIte, em, am_wr_eq, am_x4, am_Bt, am_Bf, ↓if_pos, ↓if_neg, if_pos, if_neg]
  by_cases qr : ¬ (0 ≤ n ∧ n < I 22 8)
  · refine ⟨.inl (-2), I, L, ?_, I, L, ?_, hR⟩
    · rw [e_120]
      simp (disch := omega) only [s_120_0, s_120_1, s_120_4, s_120_5, s_120_8, s_120_11, s_120_12, s_120_15, s_120_16, s_120_19, s_120_20, s_120_23, s_120_24, s_120_27, s_120_30, s_120_32, s_120_33, s_120_34, s_120_35, s_120_38, s_120_39, s_120_42, s_120_43, s_120_44, s_120_47, s_120_50, s_120_52, s_120_53, s_120_54, s_120_57, s_120_58, s_120_59, s_120_60, s_120_63, s_120_64, s_120_65, s_120_68, am_bd_s, Option.toList_some, Option.toList_none, List.cons_append, List.nil_append, am_c1_i, am_c1_n, am_c1_r, if_true, if_false, c_Instances_has, c_Instances_classOf, c_Instances_placesOf, c_Classes_hasMember, e_48, s_48_0, s_48_1, s_48_2, s_48_3, s_48_6, s_48_7, s_48_10, s_48_11, s_48_12, s_48_15, s_48_16, s_48_19, s_48_22, c_fits_no, am_Bt, am_Bf, ↓if_pos, ↓if_neg, if_pos, if_neg, true_or]
    · rw [e_152]
      simp (disch := omega) only [s_152_0, s_152_1, s_152_2, s_152_5, s_152_8, s_152_9, s_152_10, s_152_11, s_152_14, s_152_15, s_152_18, s_152_19, s_152_20, s_152_21, s_152_22, s_152_23, s_152_26, s_152_29, s_152_30, s_152_31, s_152_34, s_152_35, s_152_36, s_152_39, s_152_42, s_152_43, s_152_44, s_152_45, s_152_48, s_152_49, s_152_50, s_152_51, s_152_54, s_152_57, s_152_59, s_152_60, s_152_61, s_152_64, s_152_65, s_152_66, s_152_67, s_152_68, s_152_69, s_152_70, s_152_71, s_152_72, s_152_73, s_152_76, am_bd_s, Option.toList_some, Option.toList_none, List.cons_append, List.nil_append, am_c1_i, am_c1_n, am_c1_r, if_true, if_false, c_Model_isInstance, c_Model_isIn, c_Model_isNode, in_65, in_61, em, am_wr_eq, am_Bt, am_Bf, ↓if_pos, ↓if_neg, if_pos, if_neg]
  obtain ⟨r0, r1⟩ := Classical.not_not.mp qr
  have who : am_whoI I (I 16 i) i (I 18 i) (I 3 (I 17 i)) := ⟨b2, b3, Or.inr ⟨q0, q1, rfl, rfl⟩⟩
  obtain ⟨g1, hg⟩ := c_fits 3 N n (I 16 i) i (I 18 i) (I 3 (I 17 i)) I L r0 r1 n2 (am_who_nm hT hC hI hN who) (am_RN_cl2 hN)
  rcases hg with ⟨hy, eg⟩ | ⟨hy, eg⟩
  · obtain ⟨r, g2, hr, eh⟩ := c_Mfits 6 N n (I 16 i) i (I 18 i) (I 3 (I 17 i)) (am_uI (am_uI (am_sI I 28 g1) 21 (i * 4 + m) n) 33 9 0) L hT ⟨_, _, hC⟩ ⟨_, _, hI⟩ hN who r0 r1
    have cg := am_fw_congr (kd := I 23) (na := I 24) (nb := I 25) (nc := I 26) (P := am_nokI I (I 16 i) (I 18 i) (i * 3) (I 3 (I 17 i))) (B := I 22 8) (fun x _ _ => ⟨rfl, rfl, rfl, rfl, Iff.rfl⟩) (n.toNat + 1) (am_mz (I 28) n) (am_qm (I 76) n 0) (by omega) (am_mz_qm (I 28) (I 76) n r0 (by omega))
    have er : r = 1 := by
      rcases hr with ⟨z, _⟩ | ⟨_, z⟩
      · exact z
      · exact absurd (cg.mp hy) z
    rw [er] at eh
    have ft := am_fw_fit (am_RN_cl2 hN) (n.toNat + 1) (am_mz (I 28) n) (by omega) hy n r0 (by omega) (by unfold am_mz; rw [am_up_s]; omega) 9
    refine ⟨.inl 1, am_uI (am_uI (am_sI I 28 g1) 21 (i * 4 + m) n) 33 9 0, L, ?_, am_bI I 21 70 (i * 4 + m) n g1 g2, L, ?_, am_Rel_body hR q0 q1 m0 (by omega) (Or.inr ⟨r0, r1, ft⟩) _ _⟩
    · rw [e_120]
      simp (disch := omega) only [s_120_0, s_120_1, s_120_4, s_120_5, s_120_8, s_120_11, s_120_12, s_120_15, s_120_16, s_120_19, s_120_20, s_120_23, s_120_24, s_120_27, s_120_30, s_120_32, s_120_33, s_120_34, s_120_35, s_120_38, s_120_39, s_120_42, s_120_43, s_120_44, s_120_47, s_120_50, s_120_52, s_120_53, s_120_54, s_120_57, s_120_58, s_120_59, s_120_60, s_120_63, s_120_64, s_120_65, s_120_68, am_bd_s, Option.toList_some, Option.toList_none, List.cons_append, List.nil_append, am_c1_i, am_c1_n, am_c1_r, if_true, if_false, c_Instances_has, c_Instances_classOf, c_Instances_placesOf, c_Classes_hasMember, e_48, s_48_0, s_48_1, s_48_2, s_48_3, s_48_6, s_48_7, s_48_10, s_48_11, s_48_12, s_48_15, s_48_16, s_48_19, s_48_22, eg, c_Instances_setBody, c_afterChange_p, am_Bt, am_Bf, ↓if_pos, ↓if_neg, if_pos, if_neg, or_true]
    · rw [e_152]
      simp (disch := first | omega | (simp only [am_uI_c, am_sI_c, Nat.reduceEqDiff, ↓reduceIte, am_up_s] <;> omega) | fail) only [s_152_0, s_152_1, s_152_2, s_152_5, s_152_8, s_152_9, s_152_10, s_152_11, s_152_14, s_152_15, s_152_18, s_152_19, s_152_20, s_152_21, s_152_22, s_152_23, s_152_26, s_152_29, s_152_30, s_152_31, s_152_34, s_152_35, s_152_36, s_152_39, s_152_42, s_152_43, s_152_44, s_152_45, s_152_48, s_152_49, s_152_50, s_152_51, s_152_54, s_152_57, s_152_59, s_152_60, s_152_61, s_152_64, s_152_65, s_152_66, s_152_67, s_152_68, s_152_69, s_152_70, s_152_71, s_152_72, s_152_73, s_152_76, am_bd_s, Option.toList_some, Option.toList_none, List.cons_append, List.nil_append, am_c1_i, am_c1_n, am_c1_r, if_true, if_false, c_Model_isInstance, c_Model_isIn, c_Model_isNode, c_Model_away, in_65, in_61, in_70, am_uI_c, am_sI_c, Nat.reduceEqDiff, ↓reduceIte, b1, s1, eh, am_wr_eq, am_x4, am_Bt, am_Bf, ↓if_pos, ↓if_neg, if_pos, if_neg]
  · obtain ⟨r, g2, hr, eh⟩ := c_Mfits 6 N n (I 16 i) i (I 18 i) (I 3 (I 17 i)) (am_sI I 28 g1) L hT ⟨_, _, hC⟩ ⟨_, _, hI⟩ hN who r0 r1
    have cg := am_fw_congr (kd := I 23) (na := I 24) (nb := I 25) (nc := I 26) (P := am_nokI I (I 16 i) (I 18 i) (i * 3) (I 3 (I 17 i))) (B := I 22 8) (fun x _ _ => ⟨rfl, rfl, rfl, rfl, Iff.rfl⟩) (n.toNat + 1) (am_mz (I 28) n) (am_qm (I 76) n 0) (by omega) (am_mz_qm (I 28) (I 76) n r0 (by omega))
    have er : r = 0 := by
      rcases hr with ⟨_, z⟩ | ⟨z, _⟩
      · exact absurd (cg.mpr z) hy
      · exact z
    rw [er] at eh
    refine ⟨.inl (-2), am_sI I 28 g1, L, ?_, am_sI (am_sI I 28 g1) 76 g2, L, ?_, am_Rel_marks hR _ _⟩
    · rw [e_120]
      simp (disch := omega) only [s_120_0, s_120_1, s_120_4, s_120_5, s_120_8, s_120_11, s_120_12, s_120_15, s_120_16, s_120_19, s_120_20, s_120_23, s_120_24, s_120_27, s_120_30, s_120_32, s_120_33, s_120_34, s_120_35, s_120_38, s_120_39, s_120_42, s_120_43, s_120_44, s_120_47, s_120_50, s_120_52, s_120_53, s_120_54, s_120_57, s_120_58, s_120_59, s_120_60, s_120_63, s_120_64, s_120_65, s_120_68, am_bd_s, Option.toList_some, Option.toList_none, List.cons_append, List.nil_append, am_c1_i, am_c1_n, am_c1_r, if_true, if_false, c_Instances_has, c_Instances_classOf, c_Instances_placesOf, c_Classes_hasMember, e_48, s_48_0, s_48_1, s_48_2, s_48_3, s_48_6, s_48_7, s_48_10, s_48_11, s_48_12, s_48_15, s_48_16, s_48_19, s_48_22, eg, am_Bt, am_Bf, ↓if_pos, ↓if_neg, if_pos, if_neg, true_or]
    · rw [e_152]
      simp (disch := first | omega | (simp only [am_uI_c, am_sI_c, Nat.reduceEqDiff, ↓reduceIte, am_up_s] <;> omega) | fail) only [s_152_0, s_152_1, s_152_2, s_152_5, s_152_8, s_152_9, s_152_10, s_152_11, s_152_14, s_152_15, s_152_18, s_152_19, s_152_20, s_152_21, s_152_22, s_152_23, s_152_26, s_152_29, s_152_30, s_152_31, s_152_34, s_152_35, s_152_36, s_152_39, s_152_42, s_152_43, s_152_44, s_152_45, s_152_48, s_152_49, s_152_50, s_152_51, s_152_54, s_152_57, s_152_59, s_152_60, s_152_61, s_152_64, s_152_65, s_152_66, s_152_67, s_152_68, s_152_69, s_152_70, s_152_71, s_152_72, s_152_73, s_152_76, am_bd_s, Option.toList_some, Option.toList_none, List.cons_append, List.nil_append, am_c1_i, am_c1_n, am_c1_r, if_true, if_false, c_Model_isInstance, c_Model_isIn, c_Model_isNode, c_Model_away, in_65, in_61, in_70, am_uI_c, am_sI_c, Nat.reduceEqDiff, ↓reduceIte, b1, s1, eh, am_wr_eq, am_x4, am_Bt, am_Bf, ↓if_pos, ↓if_neg, if_pos, if_neg]
theorem am_sim_standard (i m n : Int) : am_Sim 121 155 [.inl i, .inl m, .inl n] := by
  intro N I L h
  have hR := h
  obtain ⟨hT, hC, hI, hN, hF, hD, hM, hP, hw1, hw2⟩ := h
  have hCa := hC
  obtain ⟨c1, c2, c3, c4, c5⟩ := hCa
  have hNa := hN
  obtain ⟨n1, n2, n3, n4⟩ := hNa
  by_cases q : ¬ (0 ≤ i ∧ i < I 10 4)
  · refine ⟨.inl (-2), I, L, ?_, I, L, ?_, hR⟩
    · rw [e_121]
      have e := c_Classes_hasMember 6 N i m I L c2
      rw [am_Bf (by intro z; exact q z.1)] at e
      simp (disch := omega) only [s_121_0, s_121_1, s_121_4, s_121_5, s_121_6, s_121_9, s_121_12, s_121_14, s_121_15, s_121_16, s_121_17, s_121_20, s_121_21, s_121_24, s_121_25, s_121_26, s_121_29, s_121_32, s_121_34, s_121_35, s_121_36, s_121_39, s_121_40, s_121_41, s_121_42, s_121_45, s_121_46, s_121_47, s_121_50, am_bd_s, Option.toList_some, Option.toList_none, List.cons_append, List.nil_append, am_c1_i, am_c1_n, am_c1_r, if_true, if_false, e, ↓if_pos, ↓if_neg, if_pos, if_neg]
    · rw [e_155]
      simp (disch := omega) only [s_155_0, s_155_1, s_155_2, s_155_5, s_155_8, s_155_9, s_155_10, s_155_11, s_155_14, s_155_15, s_155_16, s_155_17, s_155_18, s_155_21, s_155_24, s_155_25, s_155_26, s_155_29, s_155_30, s_155_31, s_155_34, s_155_37, s_155_38, s_155_39, s_155_40, s_155_41, s_155_44, s_155_47, s_155_49, s_155_50, s_155_51, s_155_54, s_155_55, s_155_56, s_155_57, s_155_58, s_155_59, s_155_60, s_155_61, s_155_62, s_155_63, s_155_66, am_bd_s, Option.toList_some, Option.toList_none, List.cons_append, List.nil_append, am_c1_i, am_c1_n, am_c1_r, if_true, if_false, c_Model_isClass, am_Bf, ↓if_pos, ↓if_neg, if_pos, if_neg]
  obtain ⟨q0, q1⟩ := Classical.not_not.mp q
  obtain ⟨s1, s2, s3, s4, s5, s6, s7, s8⟩ := c4 i q0 q1
  by_cases qm : ¬ (0 ≤ m ∧ m < I 11 i)
  · refine ⟨.inl (-2), I, L, ?_, I, L, ?_, hR⟩
    · rw [e_121]
      simp (disch := omega) only [s_121_0, s_121_1, s_121_4, s_121_5, s_121_6, s_121_9, s_121_12, s_121_14, s_121_15, s_121_16, s_121_17, s_121_20, s_121_21, s_121_24, s_121_25, s_121_26, s_121_29, s_121_32, s_121_34, s_121_35, s_121_36, s_121_39, s_121_40, s_121_41, s_121_42, s_121_45, s_121_46, s_121_47, s_121_50, am_bd_s, Option.toList_some, Option.toList_none, List.cons_append, List.nil_append, am_c1_i, am_c1_n, am_c1_r, if_true, if_false, c_Classes_hasMember, am_Bt, am_Bf, ↓if_pos, ↓if_neg, if_pos, if_neg]
    · rw [e_155]
      simp (disch := omega) only [s_155_0, s_155_1, s_155_2, s_155_5, s_155_8, s_155_9, s_155_10, s_155_11, s_155_14, s_155_15, s_155_16, s_155_17, s_155_18, s_155_21, s_155_24, s_155_25, s_155_26, s_155_29, s_155_30, s_155_31, s_155_34, s_155_37, s_155_38, s_155_39, s_155_40, s_155_41, s_155_44, s_155_47, s_155_49, s_155_50, s_155_51, s_155_54, s_155_55, s_155_56, s_155_57, s_155_58, s_155_59, s_155_60, s_155_61, s_155_62, s_155_63, s_155_66, am_bd_s, Option.toList_some, Option.toList_none, List.cons_append, List.nil_append, am_c1_i, am_c1_n, am_c1_r, if_true, if_false, c_Model_isClass, c_Model_isIn, in_61, s1, am_wr_eq, am_Bt, am_Bf, ↓if_pos, ↓if_neg, if_pos, if_neg]
  obtain ⟨m0, m1⟩ := Classical.not_not.mp qm
  by_cases qn : n = -1
  · refine ⟨.inl 1, am_uI (am_uI I 14 (i * 4 + m) n) 33 9 0, L, ?_, am_bI I 14 64 (i * 4 + m) n (I 28) (I 76), L, ?_, am_Rel_standard hR q0 q1 m0 (by omega) (Or.inl qn) _ _⟩
    · rw [e_121]
      simp (disch := omega) only [s_121_0, s_121_1, s_121_4, s_121_5, s_121_6, s_121_9, s_121_12, s_121_14, s_121_15, s_121_16, s_121_17, s_121_20, s_121_21, s_121_24, s_121_25, s_121_26, s_121_29, s_121_32, s_121_34, s_121_35, s_121_36, s_121_39, s_121_40, s_121_41, s_121_42, s_121_45, s_121_46, s_121_47, s_121_50, am_bd_s, Option.toList_some, Option.toList_none, List.cons_append, List.nil_append, am_c1_i, am_c1_n, am_c1_r, if_true, if_false, c_Classes_hasMember, c_Classes_setStandard, c_afterChange_p, am_Bt, am_Bf, ↓if_pos, ↓if_neg, if_pos, if_neg]
    · rw [e_155]
      have e0 : am_sI (am_uI (am_uI I 14 (i * 4 + m) n) 33 9 0) 76 (I 76) = am_uI (am_uI I 14 (i * 4 + m) n) 33 9 0 := am_sI_self (am_uI (am_uI I 14 (i * 4 + m) n) 33 9 0) 76
      simp only [am_bI, am_sI_self, e0]
      simp (disch := first | omega | (simp only [am_uI_c, Nat.reduceEqDiff, ↓reduceIte, am_up_s] <;> omega) | fail) only [s_155_0, s_155_1, s_155_2, s_155_5, s_155_8, s_155_9, s_155_10, s_155_11, s_155_14, s_155_15, s_155_16, s_155_17, s_155_18, s_155_21, s_155_24, s_155_25, s_155_26, s_155_29, s_155_30, s_155_31, s_155_34, s_155_37, s_155_38, s_155_39, s_155_40, s_155_41, s_155_44, s_155_47, s_155_49, s_155_50, s_155_51, s_155_54, s_155_55, s_155_56, s_155_57, s_155_58, s_155_59, s_155_60, s_155_61, s_155_62, s_155_63, s_155_66, am_bd_s, Option.toList_some, Option.toList_none, List.cons_append, List.nil_append, am_c1_i, am_c1_n, am_c1_r, if_true, if_false, c_Model_isClass, c_Model_isIn, c_Model_away, in_61, in_64, am_uI_c, Nat.reduceEqDiff, ↓reduceIte, s1, am_wr_eq, am_x4, am_Bt, am_Bf, ↓if_pos, ↓if_neg, if_pos, if_neg]
  by_cases qr : ¬ (0 ≤ n ∧ n < I 22 8)
  · refine ⟨.inl (-2), I, L, ?_, I, L, ?_, hR⟩
    · rw [e_121]
      simp (disch := omega) only [s_121_0, s_121_1, s_121_4, s_121_5, s_121_6, s_121_9, s_121_12, s_121_14, s_121_15, s_121_16, s_121_17, s_121_20, s_121_21, s_121_24, s_121_25, s_121_26, s_121_29, s_121_32, s_121_34, s_121_35, s_121_36, s_121_39, s_121_40, s_121_41, s_121_42, s_121_45, s_121_46, s_121_47, s_121_50, am_bd_s, Option.toList_some, Option.toList_none, List.cons_append, List.nil_append, am_c1_i, am_c1_n, am_c1_r, if_true, if_false, c_Classes_hasMember, e_52, s_52_0, s_52_1, s_52_2, s_52_3, s_52_4, s_52_5, s_52_8, c_fits_no, am_Bt, am_Bf, ↓if_pos, ↓if_neg, if_pos, if_neg, true_or]
    · rw [e_155]
      simp (disch := omega) only [s_155_0, s_155_1, s_155_2, s_155_5, s_155_8, s_155_9, s_155_10, s_155_11, s_155_14, s_155_15, s_155_16, s_155_17, s_155_18, s_155_21, s_155_24, s_155_25, s_155_26, s_155_29, s_155_30, s_155_31, s_155_34, s_155_37, s_155_38, s_155_39, s_155_40, s_155_41, s_155_44, s_155_47, s_155_49, s_155_50, s_155_51, s_155_54, s_155_55, s_155_56, s_155_57, s_155_58, s_155_59, s_155_60, s_155_61, s_155_62, s_155_63, s_155_66, am_bd_s, Option.toList_some, Option.toList_none, List.cons_append, List.nil_append, am_c1_i, am_c1_n, am_c1_r, if_true, if_false, c_Model_isClass, c_Model_isIn, c_Model_isNode, in_61, s1, am_wr_eq, am_Bt, am_Bf, ↓if_pos, ↓if_neg, if_pos, if_neg]
  obtain ⟨r0, r1⟩ := Classical.not_not.mp qr
  have who : am_whoI I i (-1) 0 1 := ⟨q0, q1, Or.inl ⟨rfl, rfl, rfl⟩⟩
  obtain ⟨g1, hg⟩ := c_fits 3 N n i (-1) 0 1 I L r0 r1 n2 (am_who_nm hT hC hI hN who) (am_RN_cl2 hN)
  have cg := am_fw_congr (kd := I 23) (na := I 24) (nb := I 25) (nc := I 26) (P := am_nokI I i 0 (-1 * 3) 1) (B := I 22 8) (fun x _ _ => ⟨rfl, rfl, rfl, rfl, Iff.rfl⟩) (n.toNat + 1) (am_mz (I 28) n) (am_qm (I 76) n 0) (by omega) (am_mz_qm (I 28) (I 76) n r0 (by omega))
  rcases hg with ⟨hy, eg⟩ | ⟨hy, eg⟩
  · obtain ⟨r, g2, hr, eh⟩ := c_Mfits 6 N n i (-1) 0 1 (am_uI (am_uI (am_sI I 28 g1) 14 (i * 4 + m) n) 33 9 0) L hT ⟨_, _, hC⟩ ⟨_, _, hI⟩ hN who r0 r1
    have er : r = 1 := by
      rcases hr with ⟨z, _⟩ | ⟨_, z⟩
      · exact z
      · exact absurd (cg.mp hy) z
    rw [er] at eh
    have ft := am_fw_fit (am_RN_cl2 hN) (n.toNat + 1) (am_mz (I 28) n) (by omega) hy n r0 (by omega) (by unfold am_mz; rw [am_up_s]; omega) 9
    have ft2 := am_fit_grow (am_RN_cl hN) (Q := am_nokI I i 0 0 1) (fun x x0 x1 => ⟨rfl, rfl, rfl, rfl, fun z => am_nok0 (fun y => by
      obtain ⟨-, -, -, -, -, -, -, -, -, -, w11, -⟩ := n4 x x0 x1
      exact (w11 (Or.inl y)).1) z⟩) 9 n r0 r1 ft
    refine ⟨.inl 1, am_uI (am_uI (am_sI I 28 g1) 14 (i * 4 + m) n) 33 9 0, L, ?_, am_bI I 14 64 (i * 4 + m) n g1 g2, L, ?_, am_Rel_standard hR q0 q1 m0 (by omega) (Or.inr ⟨r0, r1, ft2⟩) _ _⟩
    · rw [e_121]
      simp (disch := omega) only [s_121_0, s_121_1, s_121_4, s_121_5, s_121_6, s_121_9, s_121_12, s_121_14, s_121_15, s_121_16, s_121_17, s_121_20, s_121_21, s_121_24, s_121_25, s_121_26, s_121_29, s_121_32, s_121_34, s_121_35, s_121_36, s_121_39, s_121_40, s_121_41, s_121_42, s_121_45, s_121_46, s_121_47, s_121_50, am_bd_s, Option.toList_some, Option.toList_none, List.cons_append, List.nil_append, am_c1_i, am_c1_n, am_c1_r, if_true, if_false, c_Classes_hasMember, e_52, s_52_0, s_52_1, s_52_2, s_52_3, s_52_4, s_52_5, s_52_8, eg, c_Classes_setStandard, c_afterChange_p, am_Bt, am_Bf, ↓if_pos, ↓if_neg, if_pos, if_neg, or_true]
    · rw [e_155]
      simp (disch := first | omega | (simp only [am_uI_c, am_sI_c, Nat.reduceEqDiff, ↓reduceIte, am_up_s] <;> omega) | fail) only [s_155_0, s_155_1, s_155_2, s_155_5, s_155_8, s_155_9, s_155_10, s_155_11, s_155_14, s_155_15, s_155_16, s_155_17, s_155_18, s_155_21, s_155_24, s_155_25, s_155_26, s_155_29, s_155_30, s_155_31, s_155_34, s_155_37, s_155_38, s_155_39, s_155_40, s_155_41, s_155_44, s_155_47, s_155_49, s_155_50, s_155_51, s_155_54, s_155_55, s_155_56, s_155_57, s_155_58, s_155_59, s_155_60, s_155_61, s_155_62, s_155_63, s_155_66, am_bd_s, Option.toList_some, Option.toList_none, List.cons_append, List.nil_append, am_c1_i, am_c1_n, am_c1_r, if_true, if_false, c_Model_isClass, c_Model_isIn, c_Model_isNode, c_Model_away, in_61, in_64, am_uI_c, am_sI_c, Nat.reduceEqDiff, ↓reduceIte, s1, eh, am_wr_eq, am_x4, am_Bt, am_Bf, ↓if_pos, ↓if_neg, if_pos, if_neg]
  · obtain ⟨r, g2, hr, eh⟩ := c_Mfits 6 N n i (-1) 0 1 (am_sI I 28 g1) L hT ⟨_, _, hC⟩ ⟨_, _, hI⟩ hN who r0 r1
    have er : r = 0 := by
      rcases hr with ⟨_, z⟩ | ⟨z, _⟩
      · exact absurd (cg.mpr z) hy
      · exact z
    rw [er] at eh
    refine ⟨.inl (-2), am_sI I 28 g1, L, ?_, am_sI (am_sI I 28 g1) 76 g2, L, ?_, am_Rel_marks hR _ _⟩
    · rw [e_121]
      simp (disch := omega) only [s_121_0, s_121_1, s_121_4, s_121_5, s_121_6, s_121_9, s_121_12, s_121_14, s_121_15, s_121_16, s_121_17, s_121_20, s_121_21, s_121_24, s_121_25, s_121_26, s_121_29, s_121_32, s_121_34, s_121_35, s_121_36, s_121_39, s_121_40, s_121_41, s_121_42, s_121_45, s_121_46, s_121_47, s_121_50, am_bd_s, Option.toList_some, Option.toList_none, List.cons_append, List.nil_append, am_c1_i, am_c1_n, am_c1_r, if_true, if_false, c_Classes_hasMember, e_52, s_52_0, s_52_1, s_52_2, s_52_3, s_52_4, s_52_5, s_52_8, eg, am_Bt, am_Bf, ↓if_pos, ↓if_neg, if_pos, if_neg, true_or]
    · rw [e_155]
      simp (disch := first | omega | (simp only [am_uI_c, am_sI_c, Nat.reduceEqDiff, ↓reduceIte, am_up_s] <;> omega) | fail) only [s_155_0, s_155_1, s_155_2, s_155_5, s_155_8, s_155_9, s_155_10, s_155_11, s_155_14, s_155_15, s_155_16, s_155_17, s_155_18, s_155_21, s_155_24, s_155_25, s_155_26, s_155_29, s_155_30, s_155_31, s_155_34, s_155_37, s_155_38, s_155_39, s_155_40, s_155_41, s_155_44, s_155_47, s_155_49, s_155_50, s_155_51, s_155_54, s_155_55, s_155_56, s_155_57, s_155_58, s_155_59, s_155_60, s_155_61, s_155_62, s_155_63, s_155_66, am_bd_s, Option.toList_some, Option.toList_none, List.cons_append, List.nil_append, am_c1_i, am_c1_n, am_c1_r, if_true, if_false, c_Model_isClass, c_Model_isIn, c_Model_isNode, c_Model_away, in_61, in_64, am_uI_c, am_sI_c, Nat.reduceEqDiff, ↓reduceIte, s1, eh, am_wr_eq, am_x4, am_Bt, am_Bf, ↓if_pos, ↓if_neg, if_pos, if_neg]
