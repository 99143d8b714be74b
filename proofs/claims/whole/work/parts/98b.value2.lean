/-! value(), from its start. -/
abbrev am_vI0 (I : Nat → Int → Int) : Nat → Int → Int := am_uI (am_uI (am_uI (am_uI I 41 0 0) 41 1 (-1)) 41 2 (-1)) 41 5 0
abbrev am_vJ0 (J : Nat → Int → Int) : Nat → Int → Int := am_uI (am_uI (am_uI J 53 53 0) 53 51 (-1)) 53 52 (-1)
abbrev am_vJ (J : Nat → Int → Int) : Nat → Int → Int := am_uI (am_uI (am_uI (am_uI (am_vJ0 J) 53 50 0) 53 43 0) 53 45 0) 53 49 0
theorem am_val_refuse {I J : Nat → Int → Int} {L M : Nat → Int → Int64} (h : am_Rel2 I J L M) : am_Rel2 (am_uI (am_vI0 I) 41 0 (-2)) (am_uI (am_vJ0 J) 53 50 (-2)) L M := by
  obtain ⟨hT, hC, hI, hN, hF, hD, hM, hP, hw1, hw2, hO⟩ := h
  unfold am_Rel2
  simp only [am_RT2, am_RC2, am_RI2, am_RN2, am_RFI, am_RD2, am_RMI, am_RP2, am_ROI, am_uI_c, Nat.reduceEqDiff, ↓reduceIte]
  simp only [am_up_a, Int.reduceEq, ↓reduceIte]
  obtain ⟨p1, p2, -⟩ := hP
  exact ⟨hT, hC, hI, hN, hF, hD, hM, ⟨p1, p2, rfl, rfl, rfl, rfl, by decide, by decide, fun k k0 k1 => by omega⟩, hw1, hw2, hO⟩
theorem am_val_start {I J : Nat → Int → Int} {L M : Nat → Int → Int64} (h : am_Rel2 I J L M) : am_WB (am_vI0 I) (am_vI0 I) (am_vJ J) L M (am_cells []) ∧ am_vI0 I 41 0 = 0 ∧ am_WC (am_vI0 I) L [] ∧ am_WM (am_vJ J) M (am_TL (am_vI0 I 23) (am_vI0 I 25) []) (am_VL (am_vI0 I 23) []) [] ∧ am_WG (am_vI0 I) (am_vI0 I) [] ∧ am_okF (am_vI0 I 23) [] := by
  obtain ⟨hT, hC, hI, hN, hF, hD, hM, hP, hw1, hw2, hO⟩ := h
  refine ⟨?_, ?_, ?_, ?_, ?_, fun f hf => by cases hf⟩
  · refine ⟨?_, ?_, ?_, ?_, hF, hO, ?_, hM, ?_, fun _ _ => rfl, Int.le_refl _, fun _ _ => rfl, rfl, fun n n0 n1 q => ?_⟩
    · simp only [am_RT2, am_uI_c, Nat.reduceEqDiff, ↓reduceIte]
      simp only [am_up_a, Int.reduceEq, ↓reduceIte]
      exact hT
    · simp only [am_RC2, am_uI_c, Nat.reduceEqDiff, ↓reduceIte]
      simp only [am_up_a, Int.reduceEq, ↓reduceIte]
      exact hC
    · simp only [am_RI2, am_uI_c, Nat.reduceEqDiff, ↓reduceIte]
      simp only [am_up_a, Int.reduceEq, ↓reduceIte]
      exact hI
    · simp only [am_RN2, am_uI_c, Nat.reduceEqDiff, ↓reduceIte]
      simp only [am_up_a, Int.reduceEq, ↓reduceIte]
      exact hN
    · simp only [am_RD2, am_uI_c, Nat.reduceEqDiff, ↓reduceIte]
      simp only [am_up_a, Int.reduceEq, ↓reduceIte]
      obtain ⟨d1, d2, d3, d4⟩ := hD
      refine ⟨d1, d2, d3, fun d d0 d1' => ?_⟩
      obtain ⟨b1, b2, b3, b4, b5, b6, b7, b8, b9, b10, b11, b12, b13, b14⟩ := d4 d d0 d1'
      refine ⟨b1, b2, b3, b4, b5, b6, b7, b8, b9, b10, b11, b12, b13, fun k k0 k1 => ?_⟩
      obtain ⟨v1, v2⟩ := b14 k k0 k1
      refine ⟨v1, ?_⟩
      rcases v2 with v2 | v2 | ⟨v2, _⟩
      · exact Or.inl v2
      · exact Or.inr (Or.inl v2)
      · cases v2
    · simp only [am_RP2, am_uI_c, Nat.reduceEqDiff, ↓reduceIte]
      simp only [am_up_a, Int.reduceEq, ↓reduceIte]
      obtain ⟨p1, p2, -⟩ := hP
      exact ⟨p1, p2, rfl, rfl, rfl, rfl, by decide, by decide, fun k k0 k1 => by omega⟩
    · obtain ⟨-, -, -, a4⟩ := hN
      obtain ⟨-, -, -, -, -, -, -, -, -, -, -, b12, -⟩ := a4 n n0 n1
      obtain ⟨x1, x2, x3, x4, -⟩ := b12 q
      exact ⟨x3, x4⟩
  · simp only [am_uI_c, Nat.reduceEqDiff, ↓reduceIte, am_up_a, Int.reduceEq]
  · exact ⟨hw2, hw2, hw2, hw1, hw1, hw1, hw1, hw1⟩
  · unfold am_WM
    simp only [am_uI_c, Nat.reduceEqDiff, ↓reduceIte]
    simp only [am_up_a, Int.reduceEq, ↓reduceIte]
    exact ⟨rfl, rfl, rfl, rfl, rfl⟩
  · refine ⟨(fun f hf => by cases hf), trivial, by decide, ?_⟩
    have nzb := am_nz_b (st := I 30) hD.1 hD.2.1
    simp only [am_uI_c, Nat.reduceEqDiff, ↓reduceIte, am_up_a, Int.reduceEq]
    exact nzb.1
theorem am_sim2_value (x m : Int) : am_Sim2 126 167 [.inl x, .inl m] := by
  intro N I J L M h
  have hR := h
  obtain ⟨hT, hC, hI, hN, hF, hD, hM, hP, hw1, hw2, hO⟩ := h
  obtain ⟨c1, c2, c3, c4, -⟩ := hC
  obtain ⟨d1, d2, d3, d4⟩ := hD
  have h3 : ∀ y, 0 ≤ y → y < I 33 9 → 0 ≤ I 34 y ∧ I 34 y < I 10 4 := fun y y0 y1 => by
    obtain ⟨-, b2, b3, -⟩ := d4 y y0 y1; exact ⟨b2, b3⟩
  have lo1 : am_lo I (am_vI0 I) := am_lo_trans (am_lo_u _ _ _ _ (by decide)) (am_lo_trans (am_lo_u _ _ _ _ (by decide)) (am_lo_trans (am_lo_u _ _ _ _ (by decide)) (am_lo_u _ _ _ _ (by decide))))
  have hi0 : am_hi J (am_vJ0 J) := am_hi_trans (am_hi_u _ _ _ _ (by decide)) (am_hi_trans (am_hi_u _ _ _ _ (by decide)) (am_hi_u _ _ _ _ (by decide)))
  have hi1 : am_hi J (am_vJ J) := am_hi_trans hi0 (am_hi_trans (am_hi_u _ _ _ _ (by decide)) (am_hi_trans (am_hi_u _ _ _ _ (by decide)) (am_hi_trans (am_hi_u _ _ _ _ (by decide)) (am_hi_u _ _ _ _ (by decide)))))
  have j28 : am_vJ0 J 53 28 = J 53 28 := by simp only [am_uI_c, ↓reduceIte, am_up_a, Int.reduceEq]
  have ed := c_Model_isDictionary 6 N x (am_vJ0 J) M (by rw [j28]; omega) (by rw [j28]; omega)
  rw [j28] at ed
  have er := c_Report_refuse 6 N I L
  by_cases q : ¬ ((0 ≤ x ∧ x < I 33 9) ∧ 0 ≤ m ∧ m < I 11 (I 34 x))
  · have e := c_DT_hasMember 4 N x m I L d2 c2 h3 false (by constructor; intro z; cases z; intro z; exact absurd z q)
    refine ⟨.inr (.inl 0), am_uI (am_vI0 I) 41 0 (-2), am_uI (am_vJ0 J) 53 50 (-2), L, M, ?_, ?_, am_val_refuse hR, am_lo_trans lo1 (am_lo_u _ _ _ _ (by decide)), am_lo_refl _, am_hi_trans hi0 (am_hi_u _ _ _ _ (by decide)), am_hi_refl _⟩
    · rw [e_126]
      simp (disch := omega) only [s_126_0, s_126_1, s_126_2, s_126_3, s_126_6, s_126_9, s_126_10, s_126_13, s_126_16, s_126_17, s_126_18, s_126_19, s_126_22, s_126_23, s_126_24, s_126_27, am_bd_s, Option.toList_some, Option.toList_none, List.cons_append, List.nil_append, am_c1_i, am_c1_n, am_c1_r, if_true, if_false, e, er, Bool.false_eq_true, ↓if_pos, ↓if_neg, if_pos, if_neg]
    · rw [e_167]
      by_cases qd : 0 ≤ x ∧ x < I 33 9
      · obtain ⟨b1, b2, b3, -⟩ := d4 x qd.1 qd.2
        obtain ⟨s1, s2, s3, -⟩ := c4 (I 34 x) b2 b3
        have ei := c_Model_isIn 7 m 0 (I 11 (I 34 x) - 1) (am_GS N, am_GR, am_vJ0 J, M)
        have qm : ¬ (0 ≤ m ∧ m ≤ I 11 (I 34 x) - 1) := fun z => q ⟨qd, by omega⟩
        simp (disch := first | omega | assumption | fail) only [s_167_0, s_167_1, s_167_2, s_167_5, s_167_6, s_167_7, s_167_10, s_167_11, s_167_12, s_167_15, s_167_16, s_167_17, s_167_20, s_167_23, s_167_24, s_167_25, s_167_26, s_167_29, s_167_30, s_167_33, s_167_34, s_167_35, s_167_36, s_167_37, s_167_38, s_167_41, s_167_44, s_167_45, s_167_47, s_167_50, s_167_51, s_167_52, s_167_53, s_167_54, s_167_57, s_167_58, s_167_59, s_167_62, s_167_63, s_167_64, s_167_67, s_167_68, s_167_69, s_167_72, s_167_73, s_167_74, s_167_75, s_167_79, s_167_82, s_167_85, s_167_86, s_167_89, s_167_92, s_167_93, s_167_94, s_167_97, s_167_98, s_167_99, s_167_102, s_167_103, s_167_106, s_167_107, s_167_110, s_167_111, s_167_112, s_167_113, s_167_116, s_167_119, s_167_120, s_167_123, s_167_126, s_167_127, s_167_130, s_167_133, s_167_134, s_167_135, s_167_138, s_167_139, s_167_140, s_167_143, s_167_144, s_167_145, s_167_148, s_167_149, s_167_152, s_167_153, s_167_154, s_167_155, s_167_158, s_167_159, s_167_162, s_167_163, s_167_166, s_167_167, s_167_168, s_167_171, s_167_172, s_167_175, s_167_176, s_167_179, s_167_180, s_167_181, s_167_184, s_167_187, s_167_188, s_167_190, s_167_193, s_167_194, s_167_195, s_167_197, s_167_198, s_167_201, s_167_204, s_167_205, s_167_206, s_167_209, s_167_212, s_167_213, s_167_216, s_167_219, s_167_220, s_167_223, s_167_224, s_167_225, s_167_226, s_167_227, s_167_229, s_167_232, s_167_235, s_167_236, s_167_239, s_167_240, s_167_241, s_167_242, s_167_245, s_167_248, s_167_249, am_bd_s, Option.toList_some, Option.toList_none, List.cons_append, List.nil_append, am_c1_i, am_c1_n, am_c1_r, if_true, if_false, ed, ei, in_77, in_61, am_uI_c, Nat.reduceEqDiff, ↓reduceIte, b1, s1, am_Bt, am_Bf, am_wr_eq, ↓if_pos, ↓if_neg, if_pos, if_neg]
      · simp (disch := omega) only [s_167_0, s_167_1, s_167_2, s_167_5, s_167_6, s_167_7, s_167_10, s_167_11, s_167_12, s_167_15, s_167_16, s_167_17, s_167_20, s_167_23, s_167_24, s_167_25, s_167_26, s_167_29, s_167_30, s_167_33, s_167_34, s_167_35, s_167_36, s_167_37, s_167_38, s_167_41, s_167_44, s_167_45, s_167_47, s_167_50, s_167_51, s_167_52, s_167_53, s_167_54, s_167_57, s_167_58, s_167_59, s_167_62, s_167_63, s_167_64, s_167_67, s_167_68, s_167_69, s_167_72, s_167_73, s_167_74, s_167_75, s_167_79, s_167_82, s_167_85, s_167_86, s_167_89, s_167_92, s_167_93, s_167_94, s_167_97, s_167_98, s_167_99, s_167_102, s_167_103, s_167_106, s_167_107, s_167_110, s_167_111, s_167_112, s_167_113, s_167_116, s_167_119, s_167_120, s_167_123, s_167_126, s_167_127, s_167_130, s_167_133, s_167_134, s_167_135, s_167_138, s_167_139, s_167_140, s_167_143, s_167_144, s_167_145, s_167_148, s_167_149, s_167_152, s_167_153, s_167_154, s_167_155, s_167_158, s_167_159, s_167_162, s_167_163, s_167_166, s_167_167, s_167_168, s_167_171, s_167_172, s_167_175, s_167_176, s_167_179, s_167_180, s_167_181, s_167_184, s_167_187, s_167_188, s_167_190, s_167_193, s_167_194, s_167_195, s_167_197, s_167_198, s_167_201, s_167_204, s_167_205, s_167_206, s_167_209, s_167_212, s_167_213, s_167_216, s_167_219, s_167_220, s_167_223, s_167_224, s_167_225, s_167_226, s_167_227, s_167_229, s_167_232, s_167_235, s_167_236, s_167_239, s_167_240, s_167_241, s_167_242, s_167_245, s_167_248, s_167_249, am_bd_s, Option.toList_some, Option.toList_none, List.cons_append, List.nil_append, am_c1_i, am_c1_n, am_c1_r, if_true, if_false, ed, am_Bf, am_wr_eq, ↓if_pos, ↓if_neg, if_pos, if_neg]
  · obtain ⟨qd, qm⟩ := Classical.not_not.mp q
    obtain ⟨b1, b2, b3, -⟩ := d4 x qd.1 qd.2
    obtain ⟨s1, s2, s3, -⟩ := c4 (I 34 x) b2 b3
    have e := c_DT_hasMember 4 N x m I L d2 c2 h3 true (by constructor; intro _; exact ⟨qd, qm⟩; intro _; rfl)
    have ei := c_Model_isIn 7 m 0 (I 11 (I 34 x) - 1) (am_GS N, am_GR, am_vJ0 J, M)
    obtain ⟨w1, w2, w3, w4, w5, w6⟩ := am_val_start hR
    obtain ⟨I2, J2, L2, M2, n1, n2, f1, f2, f3, f4, f5⟩ := am_needW 2 6 N (x := x) (m := m) w1 w2 w3 w4 w5 w6 qd.1 qd.2 qm.1 qm.2
    have es := c_Report_start 6 N I L
    have nzb := am_nz_b (st := I 30) d1 d2
    have hmu : am_WF I2 J2 L2 M2 ∨ am_WA (am_vI0 I) I2 J2 L2 M2 ((400000 : Nat) : Int) := by
      rcases f5 with ⟨g1, g2⟩ | g | ⟨z, w, s, n, l, g1, g2, g3⟩
      · refine Or.inr (Or.inl ⟨[], g1, ?_⟩)
        show 0 + 1536 * (240 - am_nz (I2 30) (I2 33 9)) ≤ _
        rw [g2]
        show 0 + 1536 * (240 - am_nz (I 30) (I 33 9)) ≤ _
        omega
      · exact Or.inl g
      · refine Or.inr (Or.inr ⟨_, _, _, _, _, _, _, _, _, g1, ?_⟩)
        have r8 := am_rem_8 (am_vI0 I 27) (n := n) (l := l) g3
        rw [am_mu_c, g2]
        show am_rem (am_vI0 I 27) (n, 0, l) + 0 + 0 + 1536 * (240 - (am_nz (I 30) (I 33 9) + 1)) ≤ _
        omega
    have fin : ∃ (r : Int64) (I1 J1 : Nat → Int → Int) (L1 M1 : Nat → Int → Int64), am_h97 0 N x m 0 I2 L2 = some (some (.inr (.inl r)), (am_GS N, am_GR, I1, L1)) ∧ am_h167 3 N x m none J2 M2 = some (some (.inr (.inl r)), (am_GS N, am_GR, J1, M1)) ∧ am_Rel2 I1 J1 L1 M1 ∧ am_lo I2 I1 ∧ am_lo L2 L1 ∧ am_hi J2 J1 ∧ am_hi M2 M1 := by
      rcases hmu with g | g
      · obtain ⟨r, J1, k1, k2, k3, k4, k5⟩ := am_WF_end 0 3 N x m x m 0 none g
        exact ⟨r, am_gvn I2, J1, L2, M2, k1, k2, k3, k5, am_lo_refl _, k4, am_hi_refl _⟩
      · exact l_work 0 3 N x m x m (am_vI0 I) 400000 I2 J2 L2 M2 0 none g (Int.le_refl _) (by omega)
    obtain ⟨r, I1, J1, L1, M1, k1, k2, k3, k4, k5, k6, k7⟩ := fin
    have ew : am_call 8 97 [.inr (.inr (some 44)), .inl x, .inl m] (am_GS N, am_GR, I, L) = some (some (.inr (.inl r)), (am_GS N, am_GR, I1, L1)) := by
      rw [e_97]
      simp (disch := omega) only [s_97_0, s_97_1, s_97_4, s_97_7, s_97_8, s_97_9, s_97_10, s_97_13, s_97_14, am_bd_s, Option.toList_some, Option.toList_none, List.cons_append, List.nil_append, am_c1_i, am_c1_n, am_c1_r, if_true, if_false, es, n1]
      exact k1
    refine ⟨.inr (.inl r), I1, J1, L1, M1, ?_, ?_, k3, am_lo_trans lo1 (am_lo_trans f1 k4), am_lo_trans f2 k5, am_hi_trans hi1 (am_hi_trans f3 k6), am_hi_trans f4 k7⟩
    · rw [e_126]
      simp (disch := omega) only [s_126_0, s_126_1, s_126_2, s_126_3, s_126_6, s_126_9, s_126_10, s_126_13, s_126_16, s_126_17, s_126_18, s_126_19, s_126_22, s_126_23, s_126_24, s_126_27, am_bd_s, Option.toList_some, Option.toList_none, List.cons_append, List.nil_append, am_c1_i, am_c1_n, am_c1_r, if_true, if_false, e, ew, ↓if_pos, ↓if_neg, if_pos, if_neg]
    · have qm2 : 0 ≤ m ∧ m ≤ I 11 (I 34 x) - 1 := by omega
      rw [e_167]
      simp (disch := first | omega | assumption | fail) only [s_167_0, s_167_1, s_167_2, s_167_5, s_167_6, s_167_7, s_167_10, s_167_11, s_167_12, s_167_15, s_167_16, s_167_17, s_167_20, s_167_23, s_167_24, s_167_25, s_167_26, s_167_29, s_167_30, s_167_33, s_167_34, s_167_35, s_167_36, s_167_37, s_167_38, s_167_41, s_167_44, s_167_45, s_167_47, s_167_50, s_167_51, s_167_52, s_167_53, s_167_54, s_167_57, s_167_58, s_167_59, s_167_62, s_167_63, s_167_64, s_167_67, s_167_68, s_167_69, s_167_72, s_167_73, s_167_74, s_167_75, s_167_79, s_167_82, s_167_85, s_167_86, s_167_89, s_167_92, s_167_93, s_167_94, s_167_97, s_167_98, s_167_99, s_167_102, s_167_103, s_167_106, s_167_107, s_167_110, s_167_111, s_167_112, s_167_113, s_167_116, s_167_119, s_167_120, s_167_123, s_167_126, s_167_127, s_167_130, s_167_133, s_167_134, s_167_135, s_167_138, s_167_139, s_167_140, s_167_143, s_167_144, s_167_145, s_167_148, s_167_149, s_167_152, s_167_153, s_167_154, s_167_155, s_167_158, s_167_159, s_167_162, s_167_163, s_167_166, s_167_167, s_167_168, s_167_171, s_167_172, s_167_175, s_167_176, s_167_179, s_167_180, s_167_181, s_167_184, s_167_187, s_167_188, s_167_190, s_167_193, s_167_194, s_167_195, s_167_197, s_167_198, s_167_201, s_167_204, s_167_205, s_167_206, s_167_209, s_167_212, s_167_213, s_167_216, s_167_219, s_167_220, s_167_223, s_167_224, s_167_225, s_167_226, s_167_227, s_167_229, s_167_232, s_167_235, s_167_236, s_167_239, s_167_240, s_167_241, s_167_242, s_167_245, s_167_248, s_167_249, am_bd_s, Option.toList_some, Option.toList_none, List.cons_append, List.nil_append, am_c1_i, am_c1_n, am_c1_r, if_true, if_false, ed, ei, in_77, in_61, am_uI_c, Nat.reduceEqDiff, ↓reduceIte, b1, s1, am_Bt, am_Bf, am_wr_eq, ↓if_pos, ↓if_neg, if_pos, if_neg, n2]
      exact k2
theorem am_sim_value (x m : Int) : am_Sim 126 167 [.inl x, .inl m] := am_sim2 (am_sim2_value x m)
