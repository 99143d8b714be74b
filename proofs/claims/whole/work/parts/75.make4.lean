/-! DICTIONARIES are made: make(), both sides. -/
/-- what one make comes to -/
def am_mk1 (c n0 : Int) (I J : Nat → Int → Int) (L M : Nat → Int → Int64) (b : Int → Prop) (r : Int) (I1 J1 : Nat → Int → Int) : Prop := am_FrC n0 I I1 ∧ am_FrM n0 J J1 ∧ am_RD2 I1 J1 L M b ∧ am_RL2 I1 J1 ∧ am_RMI I1 ∧ n0 ≤ I1 33 9 ∧ ((0 ≤ r ∧ r < I1 33 9 ∧ I1 34 r = c) ∨ r = -3 ∨ r = -4)
theorem am_mk1_back {c n0 r : Int} {I J I1 J1 : Nat → Int → Int} {L M : Nat → Int → Int64} {b : Int → Prop} (h1 : am_FrC n0 I I1) (h2 : am_FrM n0 J J1) (hL : am_RL2 I1 J1) (hD : am_RD2 I J L M b) (hM : am_RMI I) (hn : I 33 9 = n0) (hn1 : I1 33 9 = n0) (hm1 : J1 53 28 = n0) (hp : ∀ d, 0 ≤ d → d < n0 → I 37 d ≤ 6) (hr : r = -3 ∨ r = -4) : am_mk1 c n0 I J L M b r I1 J1 := by
  refine ⟨h1, h2, am_RD_back h1 h2 hD hn hn1 hm1 hp, hL, fun d d0 d1 => ?_, by omega, Or.inr hr⟩
  rw [hn1] at d1
  obtain ⟨g1, g2, g3, g4, -⟩ := h1.2 d d0 d1
  rw [g4, g3, g1, h1.1 18 rfl, h1.1 12 rfl]
  exact hM d d0 (by omega)
theorem am_make (d e N : Nat) (c t : Int) (I J : Nat → Int → Int) (L M : Nat → Int → Int64) (b : Int → Prop) (hT : am_RT2 I J) (hC : am_RC2 I J) (hI : am_RI2 I J) (hD : am_RD2 I J L M b) (hL : am_RL2 I J) (hM : am_RMI I) (ha : am_ask (I 10 4) (I 2 6) (I 7) c t) : ∃ (r : Int) (I1 J1 : Nat → Int → Int), am_call (d + 4) 13 [.inr (.inr (some 33)), .inl c, .inl t] (am_GS N, am_GR, I, L) = some (some (.inl r), (am_GS N, am_GR, I1, L)) ∧ am_call (e + 3) 157 [.inr (.inr (some 53)), .inl c, .inl t] (am_GS N, am_GR, J, M) = some (some (.inl r), (am_GS N, am_GR, J1, M)) ∧ am_mk1 c (I 33 9) I J L M b r I1 J1 := by
  have hDa := hD
  obtain ⟨d1, d2, d3, d4⟩ := hDa
  obtain ⟨k0, k1, k2, k3, k4⟩ := ha
  have hTa := hT
  obtain ⟨t1, t2, t3, t4, t5, t6, -⟩ := hTa
  have hIa := hI
  obtain ⟨i1, i2, i3, i4, -⟩ := hIa
  have hpm6 : ∀ x, 0 ≤ x → x < I 33 9 → I 37 x ≤ 6 := fun x x0 x1 => by
    obtain ⟨y1, y2, y3, y4⟩ := am_tot_bd hC hI hD x0 x1
    have := hM x x0 x1
    omega
  have ef := c_Dictionaries_find (d + 2) N c t I L d1 d2
  have efM := c_Model_find (e + 1) N c t J M (show 0 ≤ J 53 28 by omega) (show J 53 28 ≤ 60 by omega)
  have eM2 := am_fD_eq hD c t
  unfold am_fD at eM2
  rw [eM2] at efM
  have rg := am_fd_rg (fun i => I 34 i = c ∧ I 35 i = t) (I 33 9).toNat 0 (by omega)
  generalize am_fd (fun i => I 34 i = c ∧ I 35 i = t) (I 33 9).toNat 0 = x at *
  rw [e_13, e_157]
  by_cases qx : x ≠ -1
  · refine ⟨x, I, J, ?_, ?_, am_FrC_refl _ _, am_FrM_refl _ _, hD, hL, hM, Int.le_refl _, ?_⟩
    · simp (disch := omega) only [s_13_0, s_13_1, s_13_2, s_13_3, s_13_6, s_13_7, s_13_8, s_13_9, s_13_12, s_13_13, s_13_14, s_13_15, s_13_18, s_13_20, s_13_21, s_13_22, s_13_23, s_13_26, s_13_28, s_13_30, s_13_33, s_13_34, s_13_37, s_13_38, s_13_40, s_13_41, s_13_44, s_13_45, s_13_47, s_13_48, s_13_49, s_13_53, s_13_56, s_13_59, s_13_61, s_13_64, s_13_65, s_13_68, s_13_70, s_13_71, s_13_72, s_13_73, s_13_75, s_13_76, s_13_79, s_13_81, s_13_82, s_13_84, s_13_86, s_13_87, s_13_89, s_13_92, s_13_95, s_13_98, s_13_101, s_13_102, s_13_103, s_13_105, s_13_107, s_13_110, s_13_111, s_13_113, s_13_115, s_13_118, s_13_121, s_13_123, s_13_125, s_13_126, s_13_129, s_13_130, s_13_131, s_13_133, s_13_135, s_13_138, s_13_139, s_13_141, s_13_143, s_13_146, s_13_149, s_13_151, s_13_153, s_13_156, s_13_157, s_13_159, s_13_162, s_13_164, s_13_165, s_13_166, s_13_169, s_13_171, s_13_174, s_13_176, s_13_177, s_13_178, s_13_181, s_13_183, s_13_185, s_13_186, s_13_188, s_13_189, s_13_191, s_13_192, s_13_193, s_13_196, s_13_198, s_13_199, s_13_200, s_13_201, s_13_202, s_13_203, s_13_206, s_13_209, s_13_211, am_bd_s, Option.toList_some, Option.toList_none, List.cons_append, List.nil_append, am_c1_i, am_c1_n, am_c1_r, if_true, if_false, ef, ↓if_pos, ↓if_neg, if_pos, if_neg]
    · simp (disch := omega) only [s_157_0, s_157_1, s_157_2, s_157_3, s_157_6, s_157_7, s_157_8, s_157_9, s_157_12, s_157_13, s_157_14, s_157_15, s_157_18, s_157_20, s_157_21, s_157_22, s_157_23, s_157_26, s_157_28, s_157_30, s_157_33, s_157_35, s_157_36, s_157_37, s_157_39, s_157_40, s_157_43, s_157_44, s_157_46, s_157_47, s_157_48, s_157_51, s_157_52, s_157_53, s_157_56, s_157_59, s_157_60, s_157_63, s_157_65, s_157_66, s_157_67, s_157_68, s_157_70, s_157_71, s_157_74, s_157_76, s_157_77, s_157_78, s_157_79, s_157_81, s_157_83, s_157_84, s_157_86, s_157_89, s_157_92, s_157_95, s_157_98, s_157_99, s_157_102, s_157_104, s_157_105, s_157_106, s_157_107, s_157_108, s_157_109, s_157_110, s_157_111, s_157_112, s_157_115, s_157_117, s_157_118, s_157_120, s_157_122, s_157_123, s_157_126, s_157_128, s_157_129, s_157_132, s_157_133, s_157_136, s_157_137, s_157_139, s_157_141, s_157_144, s_157_145, s_157_148, s_157_149, s_157_151, s_157_152, s_157_154, s_157_155, s_157_156, s_157_159, s_157_160, s_157_163, s_157_164, s_157_165, s_157_168, s_157_170, s_157_171, s_157_172, s_157_174, s_157_175, s_157_176, s_157_179, s_157_181, s_157_182, s_157_183, s_157_184, s_157_186, s_157_188, s_157_191, s_157_192, s_157_193, s_157_196, s_157_198, s_157_199, s_157_200, s_157_203, s_157_204, s_157_206, s_157_207, s_157_209, s_157_210, s_157_211, s_157_214, s_157_217, s_157_218, s_157_221, s_157_223, s_157_224, s_157_226, s_157_227, s_157_229, s_157_231, s_157_234, s_157_236, s_157_238, s_157_239, s_157_242, s_157_243, s_157_245, s_157_247, s_157_250, s_157_252, s_157_254, s_157_257, s_157_258, s_157_260, s_157_263, s_157_265, s_157_266, s_157_267, s_157_270, s_157_272, s_157_274, s_157_275, s_157_276, s_157_279, s_157_281, s_157_282, s_157_283, s_157_286, s_157_287, s_157_290, s_157_292, s_157_294, s_157_295, s_157_297, s_157_298, s_157_300, s_157_301, s_157_304, s_157_306, am_bd_s, Option.toList_some, Option.toList_none, List.cons_append, List.nil_append, am_c1_i, am_c1_n, am_c1_r, if_true, if_false, efM, ↓if_pos, ↓if_neg, if_pos, if_neg]
    · rcases rg with z | ⟨z1, z2, z3, z4⟩
      · exact absurd z qx
      · exact Or.inl ⟨z1, by omega, z3⟩
  have hx1 : x = -1 := by omega
  subst hx1
  have fe := am_fi_eq hT hI c (t := t) (by omega) k3
  have rgi := am_fd_rg (fun i => I 16 i = c ∧ I 17 i = I 4 t) (I 15 8).toNat 0 (by omega)
  by_cases qi : am_fi (I 16) (I 17) (I 15 8) c (I 4 t) = -1
  · have eb := c_begin_no d N c t I L i1 i2 (by omega) (by omega) qi
    have ebM := c_beginM_no e N c t J M (show 0 ≤ J 53 14 by omega) (show J 53 14 ≤ 20 by omega) (by omega) (by omega) (fe.trans qi)
    refine ⟨-4, am_uI (am_lak I c t) 39 0 (-4), am_lakM J c t, ?_, ?_, am_mk1_back ?_ ?_ ?_ hD hM rfl ?_ ?_ hpm6 (Or.inr rfl)⟩
    · simp (disch := omega) only [s_13_0, s_13_1, s_13_2, s_13_3, s_13_6, s_13_7, s_13_8, s_13_9, s_13_12, s_13_13, s_13_14, s_13_15, s_13_18, s_13_20, s_13_21, s_13_22, s_13_23, s_13_26, s_13_28, s_13_30, s_13_33, s_13_34, s_13_37, s_13_38, s_13_40, s_13_41, s_13_44, s_13_45, s_13_47, s_13_48, s_13_49, s_13_53, s_13_56, s_13_59, s_13_61, s_13_64, s_13_65, s_13_68, s_13_70, s_13_71, s_13_72, s_13_73, s_13_75, s_13_76, s_13_79, s_13_81, s_13_82, s_13_84, s_13_86, s_13_87, s_13_89, s_13_92, s_13_95, s_13_98, s_13_101, s_13_102, s_13_103, s_13_105, s_13_107, s_13_110, s_13_111, s_13_113, s_13_115, s_13_118, s_13_121, s_13_123, s_13_125, s_13_126, s_13_129, s_13_130, s_13_131, s_13_133, s_13_135, s_13_138, s_13_139, s_13_141, s_13_143, s_13_146, s_13_149, s_13_151, s_13_153, s_13_156, s_13_157, s_13_159, s_13_162, s_13_164, s_13_165, s_13_166, s_13_169, s_13_171, s_13_174, s_13_176, s_13_177, s_13_178, s_13_181, s_13_183, s_13_185, s_13_186, s_13_188, s_13_189, s_13_191, s_13_192, s_13_193, s_13_196, s_13_198, s_13_199, s_13_200, s_13_201, s_13_202, s_13_203, s_13_206, s_13_209, s_13_211, am_bd_s, Option.toList_some, Option.toList_none, List.cons_append, List.nil_append, am_c1_i, am_c1_n, am_c1_r, if_true, if_false, ef, eb, in_39, ↓if_pos, ↓if_neg, if_pos, if_neg]
      exact t_make_end d N c t _ (-4) 0 0 _ _ _ _ _ rfl
    · simp (disch := omega) only [s_157_0, s_157_1, s_157_2, s_157_3, s_157_6, s_157_7, s_157_8, s_157_9, s_157_12, s_157_13, s_157_14, s_157_15, s_157_18, s_157_20, s_157_21, s_157_22, s_157_23, s_157_26, s_157_28, s_157_30, s_157_33, s_157_35, s_157_36, s_157_37, s_157_39, s_157_40, s_157_43, s_157_44, s_157_46, s_157_47, s_157_48, s_157_51, s_157_52, s_157_53, s_157_56, s_157_59, s_157_60, s_157_63, s_157_65, s_157_66, s_157_67, s_157_68, s_157_70, s_157_71, s_157_74, s_157_76, s_157_77, s_157_78, s_157_79, s_157_81, s_157_83, s_157_84, s_157_86, s_157_89, s_157_92, s_157_95, s_157_98, s_157_99, s_157_102, s_157_104, s_157_105, s_157_106, s_157_107, s_157_108, s_157_109, s_157_110, s_157_111, s_157_112, s_157_115, s_157_117, s_157_118, s_157_120, s_157_122, s_157_123, s_157_126, s_157_128, s_157_129, s_157_132, s_157_133, s_157_136, s_157_137, s_157_139, s_157_141, s_157_144, s_157_145, s_157_148, s_157_149, s_157_151, s_157_152, s_157_154, s_157_155, s_157_156, s_157_159, s_157_160, s_157_163, s_157_164, s_157_165, s_157_168, s_157_170, s_157_171, s_157_172, s_157_174, s_157_175, s_157_176, s_157_179, s_157_181, s_157_182, s_157_183, s_157_184, s_157_186, s_157_188, s_157_191, s_157_192, s_157_193, s_157_196, s_157_198, s_157_199, s_157_200, s_157_203, s_157_204, s_157_206, s_157_207, s_157_209, s_157_210, s_157_211, s_157_214, s_157_217, s_157_218, s_157_221, s_157_223, s_157_224, s_157_226, s_157_227, s_157_229, s_157_231, s_157_234, s_157_236, s_157_238, s_157_239, s_157_242, s_157_243, s_157_245, s_157_247, s_157_250, s_157_252, s_157_254, s_157_257, s_157_258, s_157_260, s_157_263, s_157_265, s_157_266, s_157_267, s_157_270, s_157_272, s_157_274, s_157_275, s_157_276, s_157_279, s_157_281, s_157_282, s_157_283, s_157_286, s_157_287, s_157_290, s_157_292, s_157_294, s_157_295, s_157_297, s_157_298, s_157_300, s_157_301, s_157_304, s_157_306, am_bd_s, Option.toList_some, Option.toList_none, List.cons_append, List.nil_append, am_c1_i, am_c1_n, am_c1_r, if_true, if_false, efM, ebM, ↓if_pos, ↓if_neg, if_pos, if_neg]
    · exact am_FrC_trans (am_fr_obj _ _) (am_FrC_trans (am_fr_obj _ _) (am_fr_row _ _))
    · exact am_FrM_trans (am_fr_objM _ _ (by omega)) (am_fr_objM _ _ (by omega))
    · simp only [am_RL2, am_lak, am_lakM, am_uI_c, Nat.reduceEqDiff, ↓reduceIte, am_up_a, Int.reduceEq]
      exact ⟨trivial, trivial⟩
    · simp only [am_lak, am_uI_c, Nat.reduceEqDiff, ↓reduceIte, am_up_a, Int.reduceEq]
    · simp only [am_lakM, am_uI_c, Nat.reduceEqDiff, ↓reduceIte, am_up_a, Int.reduceEq]
      exact d3
  have rgi : 0 ≤ am_fi (I 16) (I 17) (I 15 8) c (I 4 t) ∧ am_fi (I 16) (I 17) (I 15 8) c (I 4 t) < I 15 8 ∧ I 16 (am_fi (I 16) (I 17) (I 15 8) c (I 4 t)) = c ∧ I 17 (am_fi (I 16) (I 17) (I 15 8) c (I 4 t)) = I 4 t := by
    rcases rgi with z | ⟨z1, z2, z3, z4⟩
    · exact absurd z qi
    · exact ⟨z1, by unfold am_fi; omega, z3, z4⟩
  by_cases qn : I 33 9 < 60
  · have eb := c_begin_ok d N c t I L i1 i2 (by omega) (by omega) qi qn d1
    have ebM := c_beginM_ok e N c t J M (show 0 ≤ J 53 14 by omega) (show J 53 14 ≤ 20 by omega) (by omega) (by omega) (fun z => qi (fe.symm.trans z)) (show J 53 28 < 60 by omega) (show 0 ≤ J 53 28 by omega)
    rw [fe, d3] at ebM
    generalize am_fi (I 16) (I 17) (I 15 8) c (I 4 t) = ii at *
    have nDn := am_RD_new hD qn k0 k1 k2 k3 k4 rgi.1 rgi.2.1 rgi.2.2.1 rgi.2.2.2
    have nm0 : am_mkg (I 33 9) 0 (I 33 9) (I 39) (J 85) (J 86) (I 37) (am_tot I) := by
      refine ⟨Int.le_refl _, fun x x0 x1 => by omega, fun x y x0 x1 y1 => by omega, fun x x0 x1 => ?_⟩
      obtain ⟨y1, y2, y3, y4⟩ := am_tot_bd hC hI hD x0 x1
      have hm : I 37 x = I 18 (I 36 x) + I 12 (I 34 x) := hM x x0 x1
      exact ⟨by omega, Int.le_of_eq hm, Or.inr hm⟩
    have nm2 := am_mkg_new (tot2 := fun x => I 18 (am_up (I 36) (I 33 9) ii x) + I 12 (am_up (I 34) (I 33 9) c x)) nm0 (Int.le_refl _) (by omega) (by
      show 0 ≤ I 18 (am_up (I 36) (I 33 9) ii (I 33 9)) + I 12 (am_up (I 34) (I 33 9) c (I 33 9))
      rw [am_up_s, am_up_s]
      have g1 := i4 ii rgi.1 rgi.2.1
      have g2 := hC.2.2.2.1 c k0 k1
      omega) (fun x x0 x1 => by
      show I 18 (am_up (I 36) (I 33 9) ii x) + I 12 (am_up (I 34) (I 33 9) c x) = _
      rw [am_up_n _ _ (by omega), am_up_n _ _ (by omega)]) d1
    obtain ⟨r, I1, J1, e1, e2, e3⟩ := l_make d e N c t (I 33 9) (I 33 9) c L M b d1 420 (am_uI (am_beg I (I 33 9) c t ii) 39 0 (I 33 9)) (am_uI (am_uI (am_begM J (I 33 9) c t ii) 85 0 (I 33 9)) 86 0 0) 1 0 none none none none none none none none none none hT hC hI (by
      simp only [am_RD2, am_beg, am_clr, am_begM, am_clrM, am_uI_c, am_sI_c, Nat.reduceEqDiff, ↓reduceIte, am_up_s]
      rw [d3] at nDn
      exact nDn) (by
      simp only [am_RL2, am_beg, am_clr, am_begM, am_clrM, am_uI_c, am_sI_c, Nat.reduceEqDiff, ↓reduceIte, am_up_a, Int.reduceEq]
      exact hL) (by
      simp only [am_tot, am_beg, am_clr, am_begM, am_clrM, am_uI_c, am_sI_c, Nat.reduceEqDiff, ↓reduceIte, am_up_s]
      exact am_mkg_tot nm2 (fun x => by simp only [am_tot, am_beg, am_clr, am_uI_c, am_sI_c, Nat.reduceEqDiff, ↓reduceIte])) (by
      simp only [am_beg, am_clr, am_uI_c, am_sI_c, Nat.reduceEqDiff, ↓reduceIte, am_up_s]
      omega) (by
      simp only [am_beg, am_clr, am_uI_c, am_sI_c, Nat.reduceEqDiff, ↓reduceIte, am_up_s]) (by
      simp only [am_beg, am_clr, am_uI_c, am_sI_c, Nat.reduceEqDiff, ↓reduceIte, am_up_s]
      have s1 := am_sm_new (I 37) (n0 := I 33 9) (nD := I 33 9) (Int.le_refl _)
      rw [show I 33 9 + 1 - I 33 9 = I 33 9 - I 33 9 + 1 by omega, s1, show (I 33 9 - I 33 9).toNat = 0 by omega]
      unfold am_sm
      omega) (by omega)
    refine ⟨r, I1, J1, ?_, ?_, ?_⟩
    · simp (disch := omega) only [s_13_0, s_13_1, s_13_2, s_13_3, s_13_6, s_13_7, s_13_8, s_13_9, s_13_12, s_13_13, s_13_14, s_13_15, s_13_18, s_13_20, s_13_21, s_13_22, s_13_23, s_13_26, s_13_28, s_13_30, s_13_33, s_13_34, s_13_37, s_13_38, s_13_40, s_13_41, s_13_44, s_13_45, s_13_47, s_13_48, s_13_49, s_13_53, s_13_56, s_13_59, s_13_61, s_13_64, s_13_65, s_13_68, s_13_70, s_13_71, s_13_72, s_13_73, s_13_75, s_13_76, s_13_79, s_13_81, s_13_82, s_13_84, s_13_86, s_13_87, s_13_89, s_13_92, s_13_95, s_13_98, s_13_101, s_13_102, s_13_103, s_13_105, s_13_107, s_13_110, s_13_111, s_13_113, s_13_115, s_13_118, s_13_121, s_13_123, s_13_125, s_13_126, s_13_129, s_13_130, s_13_131, s_13_133, s_13_135, s_13_138, s_13_139, s_13_141, s_13_143, s_13_146, s_13_149, s_13_151, s_13_153, s_13_156, s_13_157, s_13_159, s_13_162, s_13_164, s_13_165, s_13_166, s_13_169, s_13_171, s_13_174, s_13_176, s_13_177, s_13_178, s_13_181, s_13_183, s_13_185, s_13_186, s_13_188, s_13_189, s_13_191, s_13_192, s_13_193, s_13_196, s_13_198, s_13_199, s_13_200, s_13_201, s_13_202, s_13_203, s_13_206, s_13_209, s_13_211, am_bd_s, Option.toList_some, Option.toList_none, List.cons_append, List.nil_append, am_c1_i, am_c1_n, am_c1_r, if_true, if_false, ef, eb, in_39, ↓if_pos, ↓if_neg, if_pos, if_neg]
      exact e1
    · simp (disch := omega) only [s_157_0, s_157_1, s_157_2, s_157_3, s_157_6, s_157_7, s_157_8, s_157_9, s_157_12, s_157_13, s_157_14, s_157_15, s_157_18, s_157_20, s_157_21, s_157_22, s_157_23, s_157_26, s_157_28, s_157_30, s_157_33, s_157_35, s_157_36, s_157_37, s_157_39, s_157_40, s_157_43, s_157_44, s_157_46, s_157_47, s_157_48, s_157_51, s_157_52, s_157_53, s_157_56, s_157_59, s_157_60, s_157_63, s_157_65, s_157_66, s_157_67, s_157_68, s_157_70, s_157_71, s_157_74, s_157_76, s_157_77, s_157_78, s_157_79, s_157_81, s_157_83, s_157_84, s_157_86, s_157_89, s_157_92, s_157_95, s_157_98, s_157_99, s_157_102, s_157_104, s_157_105, s_157_106, s_157_107, s_157_108, s_157_109, s_157_110, s_157_111, s_157_112, s_157_115, s_157_117, s_157_118, s_157_120, s_157_122, s_157_123, s_157_126, s_157_128, s_157_129, s_157_132, s_157_133, s_157_136, s_157_137, s_157_139, s_157_141, s_157_144, s_157_145, s_157_148, s_157_149, s_157_151, s_157_152, s_157_154, s_157_155, s_157_156, s_157_159, s_157_160, s_157_163, s_157_164, s_157_165, s_157_168, s_157_170, s_157_171, s_157_172, s_157_174, s_157_175, s_157_176, s_157_179, s_157_181, s_157_182, s_157_183, s_157_184, s_157_186, s_157_188, s_157_191, s_157_192, s_157_193, s_157_196, s_157_198, s_157_199, s_157_200, s_157_203, s_157_204, s_157_206, s_157_207, s_157_209, s_157_210, s_157_211, s_157_214, s_157_217, s_157_218, s_157_221, s_157_223, s_157_224, s_157_226, s_157_227, s_157_229, s_157_231, s_157_234, s_157_236, s_157_238, s_157_239, s_157_242, s_157_243, s_157_245, s_157_247, s_157_250, s_157_252, s_157_254, s_157_257, s_157_258, s_157_260, s_157_263, s_157_265, s_157_266, s_157_267, s_157_270, s_157_272, s_157_274, s_157_275, s_157_276, s_157_279, s_157_281, s_157_282, s_157_283, s_157_286, s_157_287, s_157_290, s_157_292, s_157_294, s_157_295, s_157_297, s_157_298, s_157_300, s_157_301, s_157_304, s_157_306, am_bd_s, Option.toList_some, Option.toList_none, List.cons_append, List.nil_append, am_c1_i, am_c1_n, am_c1_r, if_true, if_false, efM, ebM, in_85, in_86, d3, ↓if_pos, ↓if_neg, if_pos, if_neg]
      exact e2
    · have f1 : am_FrC (I 33 9) I (am_uI (am_beg I (I 33 9) c t ii) 39 0 (I 33 9)) := am_FrC_trans (am_fr_beg _ I (Int.le_refl _)) (am_fr_row _ _)
      have f2 : am_FrM (I 33 9) J (am_uI (am_uI (am_begM J (I 33 9) c t ii) 85 0 (I 33 9)) 86 0 0) := am_FrM_trans (am_fr_begM _ J (Int.le_refl _)) (am_FrM_trans (am_fr_mk _ _) (am_fr_nx _ _))
      obtain ⟨g1, g2, g3, g4⟩ := am_mkP_step f1 f2 e3
      rcases g4 with ⟨h1, h2, h3, h4, h5⟩ | ⟨h1, h2, h3⟩
      · exact ⟨g1, g2, h2, g3, h3, by omega, Or.inl ⟨by omega, by omega, by rw [h1]; exact h5⟩⟩
      · exact am_mk1_back g1 g2 g3 hD hM rfl h2 h3 hpm6 h1
  · have eb := c_begin_full d N c t I L i1 i2 (by omega) (by omega) qi qn
    have ebM := c_beginM_full e N c t J M (show 0 ≤ J 53 14 by omega) (show J 53 14 ≤ 20 by omega) (by omega) (by omega) (fun z => qi (fe.symm.trans z)) (show J 53 28 = 60 by omega)
    refine ⟨-3, am_uI I 39 0 (-3), J, ?_, ?_, am_mk1_back (am_fr_row _ _) (am_FrM_refl _ _) hL hD hM rfl rfl d3 hpm6 (Or.inl rfl)⟩
    · simp (disch := omega) only [s_13_0, s_13_1, s_13_2, s_13_3, s_13_6, s_13_7, s_13_8, s_13_9, s_13_12, s_13_13, s_13_14, s_13_15, s_13_18, s_13_20, s_13_21, s_13_22, s_13_23, s_13_26, s_13_28, s_13_30, s_13_33, s_13_34, s_13_37, s_13_38, s_13_40, s_13_41, s_13_44, s_13_45, s_13_47, s_13_48, s_13_49, s_13_53, s_13_56, s_13_59, s_13_61, s_13_64, s_13_65, s_13_68, s_13_70, s_13_71, s_13_72, s_13_73, s_13_75, s_13_76, s_13_79, s_13_81, s_13_82, s_13_84, s_13_86, s_13_87, s_13_89, s_13_92, s_13_95, s_13_98, s_13_101, s_13_102, s_13_103, s_13_105, s_13_107, s_13_110, s_13_111, s_13_113, s_13_115, s_13_118, s_13_121, s_13_123, s_13_125, s_13_126, s_13_129, s_13_130, s_13_131, s_13_133, s_13_135, s_13_138, s_13_139, s_13_141, s_13_143, s_13_146, s_13_149, s_13_151, s_13_153, s_13_156, s_13_157, s_13_159, s_13_162, s_13_164, s_13_165, s_13_166, s_13_169, s_13_171, s_13_174, s_13_176, s_13_177, s_13_178, s_13_181, s_13_183, s_13_185, s_13_186, s_13_188, s_13_189, s_13_191, s_13_192, s_13_193, s_13_196, s_13_198, s_13_199, s_13_200, s_13_201, s_13_202, s_13_203, s_13_206, s_13_209, s_13_211, am_bd_s, Option.toList_some, Option.toList_none, List.cons_append, List.nil_append, am_c1_i, am_c1_n, am_c1_r, if_true, if_false, ef, eb, in_39, ↓if_pos, ↓if_neg, if_pos, if_neg]
      exact t_make_end d N c t _ (-3) 0 0 _ _ _ _ _ rfl
    · simp (disch := omega) only [s_157_0, s_157_1, s_157_2, s_157_3, s_157_6, s_157_7, s_157_8, s_157_9, s_157_12, s_157_13, s_157_14, s_157_15, s_157_18, s_157_20, s_157_21, s_157_22, s_157_23, s_157_26, s_157_28, s_157_30, s_157_33, s_157_35, s_157_36, s_157_37, s_157_39, s_157_40, s_157_43, s_157_44, s_157_46, s_157_47, s_157_48, s_157_51, s_157_52, s_157_53, s_157_56, s_157_59, s_157_60, s_157_63, s_157_65, s_157_66, s_157_67, s_157_68, s_157_70, s_157_71, s_157_74, s_157_76, s_157_77, s_157_78, s_157_79, s_157_81, s_157_83, s_157_84, s_157_86, s_157_89, s_157_92, s_157_95, s_157_98, s_157_99, s_157_102, s_157_104, s_157_105, s_157_106, s_157_107, s_157_108, s_157_109, s_157_110, s_157_111, s_157_112, s_157_115, s_157_117, s_157_118, s_157_120, s_157_122, s_157_123, s_157_126, s_157_128, s_157_129, s_157_132, s_157_133, s_157_136, s_157_137, s_157_139, s_157_141, s_157_144, s_157_145, s_157_148, s_157_149, s_157_151, s_157_152, s_157_154, s_157_155, s_157_156, s_157_159, s_157_160, s_157_163, s_157_164, s_157_165, s_157_168, s_157_170, s_157_171, s_157_172, s_157_174, s_157_175, s_157_176, s_157_179, s_157_181, s_157_182, s_157_183, s_157_184, s_157_186, s_157_188, s_157_191, s_157_192, s_157_193, s_157_196, s_157_198, s_157_199, s_157_200, s_157_203, s_157_204, s_157_206, s_157_207, s_157_209, s_157_210, s_157_211, s_157_214, s_157_217, s_157_218, s_157_221, s_157_223, s_157_224, s_157_226, s_157_227, s_157_229, s_157_231, s_157_234, s_157_236, s_157_238, s_157_239, s_157_242, s_157_243, s_157_245, s_157_247, s_157_250, s_157_252, s_157_254, s_157_257, s_157_258, s_157_260, s_157_263, s_157_265, s_157_266, s_157_267, s_157_270, s_157_272, s_157_274, s_157_275, s_157_276, s_157_279, s_157_281, s_157_282, s_157_283, s_157_286, s_157_287, s_157_290, s_157_292, s_157_294, s_157_295, s_157_297, s_157_298, s_157_300, s_157_301, s_157_304, s_157_306, am_bd_s, Option.toList_some, Option.toList_none, List.cons_append, List.nil_append, am_c1_i, am_c1_n, am_c1_r, if_true, if_false, efM, ebM, ↓if_pos, ↓if_neg, if_pos, if_neg]
/-- a heap whose cells from 53 on are another's: the class's cells of I, the reference's of J -/
theorem am_fr_ge {n0 : Int} {I I1 : Nat → Int → Int} (h : am_FrC n0 I I1) : ∀ k, am_isD k = false → I1 k = I k := h.1
theorem am_FrC_of {n0 : Int} {I I1 I2 : Nat → Int → Int} (h : am_FrC n0 I I1) (h2 : ∀ k, k < 53 → I2 k = I1 k) (h3 : ∀ k, am_isD k = false → I2 k = I k) : am_FrC n0 I I2 := by
  obtain ⟨-, g⟩ := h
  refine ⟨h3, fun d d0 d1 => ?_⟩
  rw [h2 34 (by omega), h2 35 (by omega), h2 36 (by omega), h2 37 (by omega), h2 38 (by omega), h2 30 (by omega), h2 32 (by omega)]
  exact g d d0 d1
