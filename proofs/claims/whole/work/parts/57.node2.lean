/-! node(): its height, and the call itself -/
def am_mx (a b : Int) : Int := if a < b then b else a
theorem am_mx_l (a b : Int) : a ≤ am_mx a b := by unfold am_mx; split <;> omega
theorem am_mx_r (a b : Int) : b ≤ am_mx a b := by unfold am_mx; split <;> omega
theorem am_mx_le {a b c : Int} (h1 : a ≤ c) (h2 : b ≤ c) : am_mx a b ≤ c := by unfold am_mx; split <;> omega
def am_hov (hg : Int → Int) (k a b c : Int) : Int := if k < 5 then 0 else 1 + (if k = 9 then am_mx (am_mx (hg a) (hg b)) (hg c) else am_mx (hg a) (hg b))
theorem c_heightOver (d N : Nat) (k a b c : Int) (I : Nat → Int → Int) (L : Nat → Int → Int64) (h1 : 5 ≤ k → (0 ≤ a ∧ a < 80) ∧ (0 ≤ b ∧ b < 80) ∧ 0 ≤ I 27 a ∧ I 27 a ≤ 8 ∧ 0 ≤ I 27 b ∧ I 27 b ≤ 8) (h2 : k = 9 → (0 ≤ c ∧ c < 80) ∧ 0 ≤ I 27 c ∧ I 27 c ≤ 8) : am_call (d + 1) 47 [.inr (.inr (some 22)), .inl k, .inl a, .inl b, .inl c] (am_GS N, am_GR, I, L) = some (some (.inl (am_hov (I 27) k a b c)), (am_GS N, am_GR, I, L)) := by
  rw [e_47]
  unfold am_hov
  by_cases q : k < 5
  · simp (disch := omega) only [s_47_0, s_47_1, s_47_2, s_47_5, s_47_6, s_47_7, s_47_8, s_47_11, s_47_12, s_47_13, s_47_14, s_47_17, s_47_18, s_47_19, s_47_22, s_47_24, s_47_25, s_47_26, s_47_28, s_47_31, s_47_33, s_47_34, s_47_37, s_47_39, s_47_40, s_47_43, s_47_46, s_47_48, s_47_49, am_bd_s, Option.toList_some, Option.toList_none, List.cons_append, List.nil_append, am_c1_i, am_c1_n, am_c1_r, if_true, if_false, ↓if_pos]
  · obtain ⟨g1, g2, g3, g4, g5, g6⟩ := h1 (by omega)
    have e1 := am_mx_l (I 27 a) (I 27 b)
    have e2 := am_mx_le g4 g6
    by_cases q9 : k = 9
    · obtain ⟨g7, g8, g9⟩ := h2 q9
      have e3 := am_mx_l (am_mx (I 27 a) (I 27 b)) (I 27 c)
      have e4 := am_mx_le e2 g9
      unfold am_mx at e1 e2 e3 e4 ⊢
      simp (disch := omega) only [s_47_0, s_47_1, s_47_2, s_47_5, s_47_6, s_47_7, s_47_8, s_47_11, s_47_12, s_47_13, s_47_14, s_47_17, s_47_18, s_47_19, s_47_22, s_47_24, s_47_25, s_47_26, s_47_28, s_47_31, s_47_33, s_47_34, s_47_37, s_47_39, s_47_40, s_47_43, s_47_46, s_47_48, s_47_49, am_bd_s, Option.toList_some, Option.toList_none, List.cons_append, List.nil_append, am_c1_i, am_c1_n, am_c1_r, if_true, if_false, ↓if_pos, ↓if_neg, if_pos, in_27, if_pos q9, am_wr_eq]
    · unfold am_mx at e1 e2 ⊢
      simp (disch := omega) only [s_47_0, s_47_1, s_47_2, s_47_5, s_47_6, s_47_7, s_47_8, s_47_11, s_47_12, s_47_13, s_47_14, s_47_17, s_47_18, s_47_19, s_47_22, s_47_24, s_47_25, s_47_26, s_47_28, s_47_31, s_47_33, s_47_34, s_47_37, s_47_39, s_47_40, s_47_43, s_47_46, s_47_48, s_47_49, am_bd_s, Option.toList_some, Option.toList_none, List.cons_append, List.nil_append, am_c1_i, am_c1_n, am_c1_r, if_true, if_false, ↓if_pos, ↓if_neg, if_pos, in_27, if_neg q9, am_wr_eq]
abbrev am_nI (I : Nat → Int → Int) (k a b c g : Int) : Nat → Int → Int := am_uI (am_uI (am_uI (am_uI (am_uI (am_uI I 23 (I 22 8) k) 24 (I 22 8) a) 25 (I 22 8) b) 26 (I 22 8) c) 27 (I 22 8) g) 22 8 (I 22 8 + 1)
abbrev am_nM (I : Nat → Int → Int) (n k a b c g : Int) : Nat → Int → Int := am_uI (am_uI (am_uI (am_uI (am_uI (am_uI I 71 n k) 72 n a) 73 n b) 74 n c) 75 n g) 53 21 (n + 1)
theorem am_told_congr {nN nt nC : Int} {mb mm : Int → Int} {k a b c : Int} (h : 0 ≤ a → a < nC → mm a = mb a) : am_told nN nt nC mm k a b c ↔ am_told nN nt nC mb k a b c := by
  constructor
  · rintro (q | q | q | ⟨q0, q1, q2, q3⟩ | q | q)
    · exact Or.inl q
    · exact Or.inr (Or.inl q)
    · exact Or.inr (Or.inr (Or.inl q))
    · exact Or.inr (Or.inr (Or.inr (Or.inl ⟨q0, q1, q2, q3.1, by rw [← h q2.1 q2.2]; exact q3.2⟩)))
    · exact Or.inr (Or.inr (Or.inr (Or.inr (Or.inl q))))
    · exact Or.inr (Or.inr (Or.inr (Or.inr (Or.inr q))))
  · rintro (q | q | q | ⟨q0, q1, q2, q3⟩ | q | q)
    · exact Or.inl q
    · exact Or.inr (Or.inl q)
    · exact Or.inr (Or.inr (Or.inl q))
    · exact Or.inr (Or.inr (Or.inr (Or.inl ⟨q0, q1, q2, q3.1, by rw [h q2.1 q2.2]; exact q3.2⟩)))
    · exact Or.inr (Or.inr (Or.inr (Or.inr (Or.inl q))))
    · exact Or.inr (Or.inr (Or.inr (Or.inr (Or.inr q))))
theorem s_node (d N : Nat) (k a b c : Int) (I : Nat → Int → Int) (L : Nat → Int → Int64) (hT : am_RTI I) (hC : am_RCI I) (h : am_RNI I) : ∃ r I1, am_call (d + 5) 119 [.inr (.inr (some 1)), .inl k, .inl a, .inl b, .inl c] (am_GS N, am_GR, I, L) = some (some (.inl r), (am_GS N, am_GR, I1, L)) ∧ ∃ I2, am_call (d + 5) 148 [.inr (.inr (some 53)), .inl k, .inl a, .inl b, .inl c] (am_GS N, am_GR, I1, L) = some (some (.inl r), (am_GS N, am_GR, I2, L)) ∧
    ((I1 = I ∧ I2 = I) ∨ (am_told (I 22 8) (I 2 6) (I 10 4) (I 11) k a b c ∧ am_hov (I 27) k a b c ≤ 8 ∧ I 22 8 < 80 ∧ I2 = am_nM (am_nI I k a b c (am_hov (I 27) k a b c)) (I 22 8) k a b c (am_hov (I 27) k a b c))) := by
  obtain ⟨-, -, -, -, t5, t6, t7, -⟩ := hT
  obtain ⟨k1, k2, k3, k4, -⟩ := hC
  obtain ⟨a1, a2, a3, a4⟩ := h
  have h5 : 0 ≤ a → a < I 53 9 → 1 ≤ I 61 a ∧ I 61 a ≤ 4 := fun q1 q2 => by
    obtain ⟨w1, w2, w3, -⟩ := k4 a q1 (by omega)
    omega
  have htold : am_told (I 53 21) (I 53 2) (I 53 9) (I 61) k a b c ↔ am_told (I 22 8) (I 2 6) (I 10 4) (I 11) k a b c := by
    rw [a3, t7, k3]
    exact am_told_congr (fun q1 q2 => (k4 a q1 q2).1)
  rw [e_119]
  simp only [s_119_0, s_119_1, s_119_4, s_119_5, s_119_6, s_119_7, s_119_9, s_119_12, am_bd_s, Option.toList_some, Option.toList_none, List.cons_append, List.nil_append, am_c1_i, am_c1_n, am_c1_r, if_true, if_false]
  rw [e_43]
  by_cases w : am_told (I 22 8) (I 2 6) (I 10 4) (I 11) k a b c
  case neg =>
    refine ⟨-2, I, by simp (disch := first | omega | exact w) only [s_43_0, s_43_1, s_43_2, s_43_3, s_43_4, s_43_6, s_43_9, s_43_12, s_43_14, s_43_15, s_43_16, s_43_17, s_43_18, s_43_19, s_43_21, s_43_24, s_43_26, s_43_28, s_43_30, s_43_33, s_43_35, s_43_36, s_43_37, s_43_40, s_43_42, s_43_45, s_43_47, s_43_48, s_43_49, s_43_52, s_43_53, s_43_56, s_43_57, s_43_58, s_43_59, s_43_62, s_43_63, s_43_66, s_43_67, s_43_68, s_43_69, s_43_72, s_43_73, s_43_76, s_43_77, s_43_78, s_43_79, s_43_82, s_43_83, s_43_86, s_43_88, s_43_89, s_43_90, s_43_93, s_43_94, s_43_97, s_43_99, s_43_100, s_43_101, s_43_102, s_43_105, s_43_106, s_43_107, s_43_108, s_43_111, s_119_0, s_119_1, s_119_4, s_119_5, s_119_6, s_119_7, s_119_9, s_119_12, am_bd_s, Option.toList_some, Option.toList_none, List.cons_append, List.nil_append, am_c1_i, am_c1_n, am_c1_r, if_true, if_false, c_told0, ↓if_pos, ↓if_neg], I, ?_, Or.inl ⟨rfl, rfl⟩⟩
    rw [e_148]
    have w2 := fun z => w (htold.mp z)
    have e := c_right0 (d + 1) N k a b c I L (by omega) (by omega) (by omega) (by omega) (by omega) (by omega) h5 w2
    simp (disch := omega) only [s_148_0, s_148_1, s_148_2, s_148_3, s_148_4, s_148_6, s_148_9, s_148_12, s_148_14, s_148_15, s_148_16, s_148_17, s_148_20, s_148_21, s_148_24, s_148_25, s_148_26, s_148_29, s_148_30, s_148_31, s_148_32, s_148_35, s_148_36, s_148_37, s_148_38, s_148_40, s_148_43, s_148_44, s_148_47, s_148_49, s_148_50, s_148_53, s_148_54, s_148_57, s_148_60, s_148_61, s_148_63, s_148_65, s_148_67, s_148_70, s_148_72, s_148_73, s_148_74, s_148_77, s_148_79, s_148_82, s_148_84, s_148_85, s_148_86, s_148_89, s_148_90, s_148_93, s_148_94, s_148_95, s_148_96, s_148_99, s_148_100, s_148_103, s_148_104, s_148_105, s_148_106, s_148_109, s_148_110, s_148_113, s_148_114, s_148_115, s_148_116, s_148_119, s_148_120, s_148_123, s_148_125, s_148_126, s_148_127, s_148_130, s_148_131, s_148_134, s_148_136, s_148_137, s_148_138, s_148_139, s_148_142, s_148_143, s_148_144, s_148_147, s_148_148, s_148_151, s_148_152, s_148_153, am_bd_s, Option.toList_some, Option.toList_none, List.cons_append, List.nil_append, am_c1_i, am_c1_n, am_c1_r, if_true, if_false, e, ↓if_pos, ↓if_neg]
  have w2 := htold.mpr w
  have g1 : 5 ≤ k → (0 ≤ a ∧ a < I 22 8) ∧ (0 ≤ b ∧ b < I 22 8) := fun q => by
    rcases w with w | w | w | w | w | w
    · omega
    · omega
    · omega
    · omega
    · exact w.2
    · exact ⟨w.2.1, w.2.2.1⟩
  have g2 : k = 9 → 0 ≤ c ∧ c < I 22 8 := fun q => by
    rcases w with w | w | w | w | w | w
    · omega
    · omega
    · omega
    · omega
    · omega
    · exact w.2.2.2
  have f1 : 5 ≤ k → (0 ≤ a ∧ a < 80) ∧ (0 ≤ b ∧ b < 80) ∧ 0 ≤ I 27 a ∧ I 27 a ≤ 8 ∧ 0 ≤ I 27 b ∧ I 27 b ≤ 8 := fun q => by
    obtain ⟨z1, z2⟩ := g1 q
    obtain ⟨-, -, -, -, -, -, -, y1, y2, -⟩ := a4 a z1.1 z1.2
    obtain ⟨-, -, -, -, -, -, -, y3, y4, -⟩ := a4 b z2.1 z2.2
    omega
  have f2 : k = 9 → (0 ≤ c ∧ c < 80) ∧ 0 ≤ I 27 c ∧ I 27 c ≤ 8 := fun q => by
    have z1 := g2 q
    obtain ⟨-, -, -, -, -, -, -, y1, y2, -⟩ := a4 c z1.1 z1.2
    omega
  have cm : ∀ (d : Nat) (I1 : Nat → Int → Int), I1 53 = I 53 → I1 61 = I 61 → am_call (d + 3) 149 [.inr (.inr (some 53)), .inl k, .inl a, .inl b, .inl c] (am_GS N, am_GR, I1, L) = some (some (.inl 1), (am_GS N, am_GR, I1, L)) := fun d I1 x1 x2 =>
    c_right1 d N k a b c I1 L (by rw [x1]; omega) (by rw [x1]; omega) (by rw [x1]; omega) (by rw [x1]; omega) (by rw [x1]; omega) (by rw [x1]; omega) (by rw [x1, x2]; exact h5) (by rw [x1, x2]; exact w2)
  -- the height that the reference works out
  have hm : ∀ (I1 : Nat → Int → Int), I1 53 = I 53 → I1 61 = I 61 → I1 75 = I 75 → am_call (d + 5) 148 [.inr (.inr (some 53)), .inl k, .inl a, .inl b, .inl c] (am_GS N, am_GR, I1, L) = am_go0 (am_call (d + 4)) 148 63 [some (.inr (.inr (some 53))), some (.inl k), some (.inl a), some (.inl b), some (.inl c), some (.inl (am_hov (I 27) k a b c))] [] (am_GS N, am_GR, I1, L) := by
    intro I1 x1 x2 x3
    rw [e_148]
    unfold am_hov
    by_cases q : k < 5
    · simp (disch := omega) only [s_148_0, s_148_1, s_148_2, s_148_3, s_148_4, s_148_6, s_148_9, s_148_15, s_148_16, s_148_17, s_148_20, s_148_21, s_148_61, am_bd_s, Option.toList_some, Option.toList_none, List.cons_append, List.nil_append, am_c1_i, am_c1_n, am_c1_r, if_true, if_false, cm _ I1 x1 x2, ↓if_pos, ↓if_neg]
    · obtain ⟨z1, z2, z3, z4, z5, z6⟩ := f1 (by omega)
      obtain ⟨y1, y2⟩ := g1 (by omega)
      have ea := (a4 a y1.1 y1.2).2.2.2.2.1
      have eb := (a4 b y2.1 y2.2).2.2.2.2.1
      by_cases q9 : k = 9
      · obtain ⟨z7, z8, z9⟩ := f2 q9
        have y3 := g2 q9
        have ec := (a4 c y3.1 y3.2).2.2.2.2.1
        have e5 : (if (if I 27 c < I 27 b then I 27 b else I 27 c) < I 27 a then I 27 a else (if I 27 c < I 27 b then I 27 b else I 27 c)) = am_mx (am_mx (I 27 a) (I 27 b)) (I 27 c) := by
          unfold am_mx
          by_cases u1 : I 27 c < I 27 b
          · rw [if_pos u1]
            by_cases u2 : I 27 b < I 27 a
            · rw [if_pos u2, if_neg (show ¬ I 27 a < I 27 b by omega), if_neg (show ¬ I 27 a < I 27 c by omega)]
            · rw [if_neg u2]
              by_cases u3 : I 27 a < I 27 b
              · rw [if_pos u3, if_neg (show ¬ I 27 b < I 27 c by omega)]
              · rw [if_neg u3, if_neg (show ¬ I 27 a < I 27 c by omega)]; omega
          · rw [if_neg u1]
            by_cases u3 : I 27 a < I 27 b
            · rw [if_pos u3, if_neg (show ¬ I 27 c < I 27 a by omega)]
              by_cases u4 : I 27 b < I 27 c
              · rw [if_pos u4]
              · rw [if_neg u4]; omega
            · rw [if_neg u3]
              by_cases u4 : I 27 a < I 27 c
              · rw [if_pos u4, if_neg (show ¬ I 27 c < I 27 a by omega)]
              · rw [if_neg u4]
                by_cases u5 : I 27 c < I 27 a
                · rw [if_pos u5]
                · rw [if_neg u5]; omega
        have e6 := am_mx_le (am_mx_le z4 z6) z9
        have e7 := am_mx_l (am_mx (I 27 a) (I 27 b)) (I 27 c)
        have e8 := am_mx_l (I 27 a) (I 27 b)
        rw [if_neg q, if_pos q9]
        simp (disch := omega) only [s_148_0, s_148_1, s_148_2, s_148_3, s_148_4, s_148_6, s_148_9, s_148_15, s_148_16, s_148_17, s_148_24, s_148_25, s_148_26, s_148_29, s_148_30, s_148_31, s_148_32, s_148_35, s_148_36, s_148_37, s_148_38, s_148_40, s_148_43, s_148_44, s_148_47, s_148_49, s_148_50, s_148_54, s_148_57, s_148_60, s_148_61, am_bd_s, Option.toList_some, Option.toList_none, List.cons_append, List.nil_append, am_c1_i, am_c1_n, am_c1_r, if_true, if_false, cm _ I1 x1 x2, ↓if_pos, ↓if_neg, if_pos q9, in_75, if_pos, x3, ea, eb, ec, c_Model_greater, e5, am_wr_eq]
      · have e5 : (if (if 0 < I 27 b then I 27 b else 0) < I 27 a then I 27 a else (if 0 < I 27 b then I 27 b else 0)) = am_mx (I 27 a) (I 27 b) := by
          unfold am_mx
          by_cases u1 : 0 < I 27 b
          · rw [if_pos u1]
            by_cases u2 : I 27 b < I 27 a
            · rw [if_pos u2, if_neg (show ¬ I 27 a < I 27 b by omega)]
            · rw [if_neg u2]
              by_cases u3 : I 27 a < I 27 b
              · rw [if_pos u3]
              · rw [if_neg u3]; omega
          · rw [if_neg u1]
            by_cases u2 : 0 < I 27 a
            · rw [if_pos u2, if_neg (show ¬ I 27 a < I 27 b by omega)]
            · rw [if_neg u2]
              by_cases u3 : I 27 a < I 27 b
              · omega
              · rw [if_neg u3]; omega
        have e6 := am_mx_le z4 z6
        have e8 := am_mx_l (I 27 a) (I 27 b)
        rw [if_neg q, if_neg q9]
        simp (disch := omega) only [s_148_0, s_148_1, s_148_2, s_148_3, s_148_4, s_148_6, s_148_9, s_148_15, s_148_16, s_148_17, s_148_24, s_148_25, s_148_26, s_148_29, s_148_30, s_148_31, s_148_32, s_148_35, s_148_36, s_148_37, s_148_38, s_148_40, s_148_53, s_148_54, s_148_57, s_148_60, s_148_61, am_bd_s, Option.toList_some, Option.toList_none, List.cons_append, List.nil_append, am_c1_i, am_c1_n, am_c1_r, if_true, if_false, cm _ I1 x1 x2, ↓if_pos, ↓if_neg, if_neg q9, in_75, if_pos, x3, ea, eb, c_Model_greater, e5, am_wr_eq]
  have ct := c_told1 (d + 0) N k a b c I L k2 w
  have ch := c_heightOver (d + 2) N k a b c I L f1 f2
  by_cases q8 : 8 < am_hov (I 27) k a b c
  · refine ⟨-2, I, by simp (disch := omega) only [s_43_0, s_43_1, s_43_2, s_43_3, s_43_4, s_43_6, s_43_9, s_43_12, s_43_14, s_43_15, s_43_16, s_43_17, s_43_18, s_43_19, s_43_21, s_43_24, s_43_26, s_43_28, s_43_30, s_43_33, s_43_35, s_43_36, s_43_37, s_43_40, s_43_42, s_43_45, s_43_47, s_43_48, s_43_49, s_43_52, s_43_53, s_43_56, s_43_57, s_43_58, s_43_59, s_43_62, s_43_63, s_43_66, s_43_67, s_43_68, s_43_69, s_43_72, s_43_73, s_43_76, s_43_77, s_43_78, s_43_79, s_43_82, s_43_83, s_43_86, s_43_88, s_43_89, s_43_90, s_43_93, s_43_94, s_43_97, s_43_99, s_43_100, s_43_101, s_43_102, s_43_105, s_43_106, s_43_107, s_43_108, s_43_111, s_119_0, s_119_1, s_119_4, s_119_5, s_119_6, s_119_7, s_119_9, s_119_12, am_bd_s, Option.toList_some, Option.toList_none, List.cons_append, List.nil_append, am_c1_i, am_c1_n, am_c1_r, if_true, if_false, ct, ch, ↓if_pos, ↓if_neg], I, ?_, Or.inl ⟨rfl, rfl⟩⟩
    rw [hm I rfl rfl rfl]
    simp (disch := omega) only [s_148_63, s_148_65, s_148_67, s_148_70, s_148_72, ↓if_pos, ↓if_neg]
  by_cases q80 : I 22 8 < 80
  · refine ⟨I 22 8, am_nI I k a b c (am_hov (I 27) k a b c), ?_, _, ?_, Or.inr ⟨w, by omega, q80, rfl⟩⟩
    · simp (disch := omega) only [s_43_0, s_43_1, s_43_2, s_43_3, s_43_4, s_43_6, s_43_9, s_43_12, s_43_14, s_43_15, s_43_16, s_43_17, s_43_18, s_43_19, s_43_21, s_43_24, s_43_26, s_43_28, s_43_30, s_43_33, s_43_35, s_43_36, s_43_37, s_43_40, s_43_42, s_43_45, s_43_47, s_43_48, s_43_49, s_43_52, s_43_53, s_43_56, s_43_57, s_43_58, s_43_59, s_43_62, s_43_63, s_43_66, s_43_67, s_43_68, s_43_69, s_43_72, s_43_73, s_43_76, s_43_77, s_43_78, s_43_79, s_43_82, s_43_83, s_43_86, s_43_88, s_43_89, s_43_90, s_43_93, s_43_94, s_43_97, s_43_99, s_43_100, s_43_101, s_43_102, s_43_105, s_43_106, s_43_107, s_43_108, s_43_111, s_119_0, s_119_1, s_119_4, s_119_5, s_119_6, s_119_7, s_119_9, s_119_12, am_bd_s, Option.toList_some, Option.toList_none, List.cons_append, List.nil_append, am_c1_i, am_c1_n, am_c1_r, if_true, if_false, ct, ch, ↓if_pos, ↓if_neg, if_pos, in_23, in_24, in_25, in_26, in_27, am_uI_c, Nat.reduceEqDiff, ↓reduceIte, am_wr_eq]
    · rw [hm _ (by simp only [am_uI_c, Nat.reduceEqDiff, ↓reduceIte]) (by simp only [am_uI_c, Nat.reduceEqDiff, ↓reduceIte]) (by simp only [am_uI_c, Nat.reduceEqDiff, ↓reduceIte])]
      simp (disch := first | omega | (simp only [am_uI_c, Nat.reduceEqDiff, ↓reduceIte, am_up_s] <;> omega) | fail) only [s_148_0, s_148_1, s_148_2, s_148_3, s_148_4, s_148_6, s_148_9, s_148_12, s_148_14, s_148_15, s_148_16, s_148_17, s_148_20, s_148_21, s_148_24, s_148_25, s_148_26, s_148_29, s_148_30, s_148_31, s_148_32, s_148_35, s_148_36, s_148_37, s_148_38, s_148_40, s_148_43, s_148_44, s_148_47, s_148_49, s_148_50, s_148_53, s_148_54, s_148_57, s_148_60, s_148_61, s_148_63, s_148_65, s_148_67, s_148_70, s_148_72, s_148_73, s_148_74, s_148_77, s_148_79, s_148_82, s_148_84, s_148_85, s_148_86, s_148_89, s_148_90, s_148_93, s_148_94, s_148_95, s_148_96, s_148_99, s_148_100, s_148_103, s_148_104, s_148_105, s_148_106, s_148_109, s_148_110, s_148_113, s_148_114, s_148_115, s_148_116, s_148_119, s_148_120, s_148_123, s_148_125, s_148_126, s_148_127, s_148_130, s_148_131, s_148_134, s_148_136, s_148_137, s_148_138, s_148_139, s_148_142, s_148_143, s_148_144, s_148_147, s_148_148, s_148_151, s_148_152, s_148_153, am_bd_s, Option.toList_some, Option.toList_none, List.cons_append, List.nil_append, am_c1_i, am_c1_n, am_c1_r, if_true, if_false, ↓if_pos, ↓if_neg, if_pos, if_neg, in_71, in_72, in_73, in_74, in_75, am_uI_c, Nat.reduceEqDiff, ↓reduceIte, am_up_s, a3, am_wr_eq, Int.add_sub_cancel]
  · refine ⟨-3, I, by simp (disch := omega) only [s_43_0, s_43_1, s_43_2, s_43_3, s_43_4, s_43_6, s_43_9, s_43_12, s_43_14, s_43_15, s_43_16, s_43_17, s_43_18, s_43_19, s_43_21, s_43_24, s_43_26, s_43_28, s_43_30, s_43_33, s_43_35, s_43_36, s_43_37, s_43_40, s_43_42, s_43_45, s_43_47, s_43_48, s_43_49, s_43_52, s_43_53, s_43_56, s_43_57, s_43_58, s_43_59, s_43_62, s_43_63, s_43_66, s_43_67, s_43_68, s_43_69, s_43_72, s_43_73, s_43_76, s_43_77, s_43_78, s_43_79, s_43_82, s_43_83, s_43_86, s_43_88, s_43_89, s_43_90, s_43_93, s_43_94, s_43_97, s_43_99, s_43_100, s_43_101, s_43_102, s_43_105, s_43_106, s_43_107, s_43_108, s_43_111, s_119_0, s_119_1, s_119_4, s_119_5, s_119_6, s_119_7, s_119_9, s_119_12, am_bd_s, Option.toList_some, Option.toList_none, List.cons_append, List.nil_append, am_c1_i, am_c1_n, am_c1_r, if_true, if_false, ct, ch, ↓if_pos, ↓if_neg], I, ?_, Or.inl ⟨rfl, rfl⟩⟩
    rw [hm I rfl rfl rfl]
    simp (disch := omega) only [s_148_63, s_148_65, s_148_67, s_148_73, s_148_74, s_148_77, s_148_79, s_148_82, s_148_84, ↓if_pos, ↓if_neg]
