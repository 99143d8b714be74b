/-! dictionary(). -/
abbrev am_RP2 (I J : Nat → Int → Int) : Prop := am_RP (I 33 10) (I 33 11) (J 53 37) (J 53 38) (I 41 0) (I 41 1) (I 41 2) (I 41 5) (J 53 50) (J 53 51) (J 53 52) (J 53 53) (I 42) (I 43) (J 93) (J 94)
/-- between two calls, the class's cells in one heap, the reference's in another -/
def am_Rel2 (I J : Nat → Int → Int) (L M : Nat → Int → Int64) : Prop := am_RT2 I J ∧ am_RC2 I J ∧ am_RI2 I J ∧ am_RN2 I J ∧ am_RFI I ∧ am_RD2 I J L M (fun _ => False) ∧ am_RMI I ∧ am_RP2 I J ∧ I 44 12 = 0 ∧ I 44 16 = 0 ∧ am_ROI I
theorem am_Rel2_of {I : Nat → Int → Int} {L : Nat → Int → Int64} (h : am_Rel I L) : am_Rel2 I I L L := h
theorem am_Rel2_to {I : Nat → Int → Int} {L : Nat → Int → Int64} (h : am_Rel2 I I L L) : am_Rel I L := h
theorem am_Rel2_J {I J J1 : Nat → Int → Int} {L M M1 : Nat → Int → Int64} (h : am_Rel2 I J L M) (f : ∀ k, 53 ≤ k → J1 k = J k) (g : ∀ k, 53 ≤ k → M1 k = M k) : am_Rel2 I J1 L M1 := by
  unfold am_Rel2
  simp only [am_RT2, am_RC2, am_RI2, am_RN2, am_RD2, am_RP2, f 53 (by decide), f 54 (by decide), f 55 (by decide), f 56 (by decide), f 57 (by decide), f 58 (by decide), f 61 (by decide), f 62 (by decide), f 63 (by decide), f 64 (by decide), f 65 (by decide), f 66 (by decide), f 67 (by decide), f 68 (by decide), f 69 (by decide), f 70 (by decide), f 71 (by decide), f 72 (by decide), f 73 (by decide), f 74 (by decide), f 75 (by decide), f 77 (by decide), f 78 (by decide), f 79 (by decide), f 80 (by decide), f 81 (by decide), f 82 (by decide), f 84 (by decide), f 93 (by decide), f 94 (by decide), g 83 (by decide)]
  exact h
theorem am_Rel2_I {I I1 J : Nat → Int → Int} {L L1 M : Nat → Int → Int64} (h : am_Rel2 I J L M) (f : ∀ k, k < 53 → I1 k = I k) (g : ∀ k, k < 53 → L1 k = L k) : am_Rel2 I1 J L1 M := by
  unfold am_Rel2
  simp only [am_RT2, am_RC2, am_RI2, am_RN2, am_RD2, am_RP2, am_RFI, am_RMI, am_ROI, f 2 (by decide), f 3 (by decide), f 4 (by decide), f 5 (by decide), f 6 (by decide), f 7 (by decide), f 10 (by decide), f 11 (by decide), f 12 (by decide), f 13 (by decide), f 14 (by decide), f 15 (by decide), f 16 (by decide), f 17 (by decide), f 18 (by decide), f 19 (by decide), f 20 (by decide), f 21 (by decide), f 22 (by decide), f 23 (by decide), f 24 (by decide), f 25 (by decide), f 26 (by decide), f 27 (by decide), f 30 (by decide), f 32 (by decide), f 33 (by decide), f 34 (by decide), f 35 (by decide), f 36 (by decide), f 37 (by decide), f 38 (by decide), f 41 (by decide), f 42 (by decide), f 43 (by decide), f 44 (by decide), g 31 (by decide)]
  exact h
/-- one call of the class in one heap, one of the reference in the other -/
def am_Sim2 (jc jm : Nat) (as : List am_V) : Prop := ∀ (N : Nat) (I J : Nat → Int → Int) (L M : Nat → Int → Int64), am_Rel2 I J L M → ∃ (r : am_V) (I1 J1 : Nat → Int → Int) (L1 M1 : Nat → Int → Int64), am_call 9 jc (.inr (.inr (some 1)) :: as) (am_GS N, am_GR, I, L) = some (some r, (am_GS N, am_GR, I1, L1)) ∧ am_call 9 jm (.inr (.inr (some 53)) :: as) (am_GS N, am_GR, J, M) = some (some r, (am_GS N, am_GR, J1, M1)) ∧ am_Rel2 I1 J1 L1 M1 ∧ (∀ k, 53 ≤ k → I1 k = I k) ∧ (∀ k, 53 ≤ k → L1 k = L k) ∧ (∀ k, k < 53 → J1 k = J k) ∧ (∀ k, k < 53 → M1 k = M k)
theorem am_sim2 {jc jm : Nat} {as : List am_V} (h : am_Sim2 jc jm as) : am_Sim jc jm as := by
  intro N I L hR
  obtain ⟨r, I1, J1, L1, M1, e1, e2, e3, e4, e5, e6, e7⟩ := h N I I L L hR
  obtain ⟨r', I1', J2, L1', M2, f1, f2, f3, f4, f5, f6, f7⟩ := h N I I1 L L1 (am_Rel2_J hR e4 e5)
  have e := e1.symm.trans f1
  simp only [Option.some.injEq, Prod.mk.injEq, true_and] at e
  obtain ⟨rfl, rfl, rfl⟩ := e
  exact ⟨r, I1, L1, e1, J2, M2, f2, am_Rel2_to (am_Rel2_I f3 f6 f7)⟩
theorem am_ge53 {k : Nat} (h : 53 ≤ k) : am_isD k = false := by
  have e : ∀ j : Nat, j < 53 → (k == j) = false := fun j hj => by
    rw [beq_eq_false_iff_ne]; omega
  unfold am_isD
  simp only [e 30 (by decide), e 32 (by decide), e 33 (by decide), e 34 (by decide), e 35 (by decide), e 36 (by decide), e 37 (by decide), e 38 (by decide), e 39 (by decide), Bool.or_false]
theorem am_lt53 {k : Nat} (h : k < 53) : am_isE k = false := by
  have e : ∀ j : Nat, 53 ≤ j → (k == j) = false := fun j hj => by
    rw [beq_eq_false_iff_ne]; omega
  unfold am_isE
  simp only [e 53 (by decide), e 77 (by decide), e 78 (by decide), e 79 (by decide), e 80 (by decide), e 81 (by decide), e 82 (by decide), e 84 (by decide), e 85 (by decide), e 86 (by decide), Bool.or_false]
theorem am_fr_F {n0 : Int} {I I1 : Nat → Int → Int} (h1 : am_FrC n0 I I1) : (am_RFI I → am_RFI I1) ∧ (am_ROI I → am_ROI I1) := by
  obtain ⟨f, -⟩ := h1
  simp only [am_RFI, am_ROI, f 2 rfl, f 3 rfl, f 5 rfl, f 6 rfl, f 7 rfl, f 10 rfl, f 11 rfl, f 12 rfl, f 13 rfl, f 14 rfl, f 15 rfl, f 16 rfl, f 17 rfl, f 18 rfl, f 19 rfl, f 21 rfl, f 22 rfl, f 23 rfl, f 24 rfl, f 25 rfl, f 26 rfl]
  exact ⟨id, id⟩
theorem am_fr_P {n0 : Int} {I J I1 J1 : Nat → Int → Int} (h1 : am_FrC n0 I I1) (h2 : am_FrM n0 J J1) (hL : am_RL2 I1 J1) (h : am_RP2 I J) : am_RP2 I1 J1 := by
  obtain ⟨f, -⟩ := h1
  obtain ⟨g, g3, -⟩ := h2
  obtain ⟨-, -, h⟩ := h
  refine ⟨hL.1, hL.2, ?_⟩
  rw [f 41 rfl, f 42 rfl, f 43 rfl, g 93 rfl, g 94 rfl, g3 50 (by decide) (by decide) (by decide), g3 51 (by decide) (by decide) (by decide), g3 52 (by decide) (by decide) (by decide), g3 53 (by decide) (by decide) (by decide)]
  exact h
theorem am_sim2_dictionary (c t : Int) : am_Sim2 122 156 [.inl c, .inl t] := by
  intro N I J L M h
  have hR := h
  obtain ⟨hT, hC, hI, hN, hF, hD, hM, hP, hw1, hw2, hO⟩ := h
  have hTa := hT
  obtain ⟨t1, t2, t3, t4, t5, t6, t7, t8, t9, t10, t11⟩ := hTa
  have hCa := hC
  obtain ⟨c1, c2, c3, -⟩ := hCa
  by_cases q : ¬ (0 ≤ c ∧ c < I 10 4)
  · refine ⟨.inl (-2), I, J, L, M, ?_, ?_, hR, fun _ _ => rfl, fun _ _ => rfl, fun _ _ => rfl, fun _ _ => rfl⟩
    · rw [e_122]
      simp (disch := omega) only [s_122_0, s_122_1, s_122_4, s_122_5, s_122_8, s_122_11, s_122_12, s_122_15, s_122_16, s_122_19, s_122_22, s_122_23, s_122_26, s_122_27, s_122_30, s_122_33, s_122_35, s_122_36, s_122_37, s_122_40, s_122_41, s_122_42, s_122_45, am_bd_s, Option.toList_some, Option.toList_none, List.cons_append, List.nil_append, am_c1_i, am_c1_n, am_c1_r, if_true, if_false, c_Classes_has, am_Bf, ↓if_pos, ↓if_neg, if_pos, if_neg]
    · rw [e_156]
      simp (disch := omega) only [s_156_0, s_156_1, s_156_2, s_156_5, s_156_8, s_156_9, s_156_10, s_156_13, s_156_16, s_156_17, s_156_20, s_156_21, s_156_22, s_156_25, s_156_26, s_156_27, s_156_28, s_156_31, s_156_34, s_156_36, am_bd_s, Option.toList_some, Option.toList_none, List.cons_append, List.nil_append, am_c1_i, am_c1_n, am_c1_r, if_true, if_false, c_Model_isClass, am_Bf, ↓if_pos, ↓if_neg, if_pos, if_neg]
  obtain ⟨q0, q1⟩ := Classical.not_not.mp q
  by_cases z : ¬ (0 ≤ t ∧ t < I 2 6)
  · refine ⟨.inl (-2), I, J, L, M, ?_, ?_, hR, fun _ _ => rfl, fun _ _ => rfl, fun _ _ => rfl, fun _ _ => rfl⟩
    · rw [e_122]
      simp (disch := omega) only [s_122_0, s_122_1, s_122_4, s_122_5, s_122_8, s_122_11, s_122_12, s_122_15, s_122_16, s_122_19, s_122_22, s_122_23, s_122_26, s_122_27, s_122_30, s_122_33, s_122_35, s_122_36, s_122_37, s_122_40, s_122_41, s_122_42, s_122_45, am_bd_s, Option.toList_some, Option.toList_none, List.cons_append, List.nil_append, am_c1_i, am_c1_n, am_c1_r, if_true, if_false, c_Classes_has, c_Types_has, am_Bt, am_Bf, ↓if_pos, ↓if_neg, if_pos, if_neg]
    · rw [e_156]
      simp (disch := omega) only [s_156_0, s_156_1, s_156_2, s_156_5, s_156_8, s_156_9, s_156_10, s_156_13, s_156_16, s_156_17, s_156_20, s_156_21, s_156_22, s_156_25, s_156_26, s_156_27, s_156_28, s_156_31, s_156_34, s_156_36, am_bd_s, Option.toList_some, Option.toList_none, List.cons_append, List.nil_append, am_c1_i, am_c1_n, am_c1_r, if_true, if_false, c_Model_isClass, c_Model_isType, am_Bt, am_Bf, ↓if_pos, ↓if_neg, if_pos, if_neg]
  obtain ⟨z0, z1⟩ := Classical.not_not.mp z
  obtain ⟨-, -, -, of⟩ := t8 t z0 z1
  by_cases w : I 7 t = 0
  · have wM : J 58 t = 0 := by rcases of with ⟨y, y2⟩ | ⟨y, _⟩ | ⟨y, _⟩ <;> omega
    have n0 : t ≠ 0 := fun y => by rw [y] at w; omega
    have n1 : t ≠ 1 := fun y => by rw [y] at w; omega
    obtain ⟨r, I1, J1, e1, e2, g1, g2, g3, g4, g5, g6, g7⟩ := am_make 4 5 N c t I J L M _ hT hC hI hD ⟨hP.1, hP.2.1⟩ hM ⟨q0, q1, by omega, z1, w⟩
    obtain ⟨a1, a2, a3, a4⟩ := am_fr_a g1 g2
    obtain ⟨b1, b2⟩ := am_fr_F g1
    refine ⟨.inl r, I1, J1, L, M, ?_, ?_, ⟨a1 hT, a2 hC, a3 hI, a4 hN, b1 hF, g3, g5, am_fr_P g1 g2 g4 hP, ?_, ?_, b2 hO⟩, fun k hk => g1.1 k (am_ge53 hk), fun _ _ => rfl, fun k hk => g2.1 k (am_lt53 hk), fun _ _ => rfl⟩
    · rw [e_122]
      simp (disch := omega) only [s_122_0, s_122_1, s_122_4, s_122_5, s_122_8, s_122_11, s_122_12, s_122_15, s_122_16, s_122_19, s_122_22, s_122_23, s_122_26, s_122_27, s_122_30, s_122_33, s_122_35, s_122_36, s_122_37, s_122_40, s_122_41, s_122_42, s_122_45, am_bd_s, Option.toList_some, Option.toList_none, List.cons_append, List.nil_append, am_c1_i, am_c1_n, am_c1_r, if_true, if_false, c_Classes_has, c_Types_has, c_Types_isClosed, am_Bt, am_Bf, ↓if_pos, ↓if_neg, if_pos, if_neg, e1]
    · rw [e_156]
      simp (disch := omega) only [s_156_0, s_156_1, s_156_2, s_156_5, s_156_8, s_156_9, s_156_10, s_156_13, s_156_16, s_156_17, s_156_20, s_156_21, s_156_22, s_156_25, s_156_26, s_156_27, s_156_28, s_156_31, s_156_34, s_156_36, am_bd_s, Option.toList_some, Option.toList_none, List.cons_append, List.nil_append, am_c1_i, am_c1_n, am_c1_r, if_true, if_false, c_Model_isClass, c_Model_isType, in_58, am_Bt, am_Bf, ↓if_pos, ↓if_neg, if_pos, if_neg, e2]
    · rw [g1.1 44 rfl]; exact hw1
    · rw [g1.1 44 rfl]; exact hw2
  · have wM : ¬ J 58 t = 0 := by rcases of with ⟨y, y2⟩ | ⟨y, _⟩ | ⟨y, _⟩ <;> omega
    refine ⟨.inl (-2), I, J, L, M, ?_, ?_, hR, fun _ _ => rfl, fun _ _ => rfl, fun _ _ => rfl, fun _ _ => rfl⟩
    · rw [e_122]
      simp (disch := omega) only [s_122_0, s_122_1, s_122_4, s_122_5, s_122_8, s_122_11, s_122_12, s_122_15, s_122_16, s_122_19, s_122_22, s_122_23, s_122_26, s_122_27, s_122_30, s_122_33, s_122_35, s_122_36, s_122_37, s_122_40, s_122_41, s_122_42, s_122_45, am_bd_s, Option.toList_some, Option.toList_none, List.cons_append, List.nil_append, am_c1_i, am_c1_n, am_c1_r, if_true, if_false, c_Classes_has, c_Types_has, c_Types_isClosed, am_Bt, am_Bf, ↓if_pos, ↓if_neg, if_pos, if_neg]
    · rw [e_156]
      simp (disch := omega) only [s_156_0, s_156_1, s_156_2, s_156_5, s_156_8, s_156_9, s_156_10, s_156_13, s_156_16, s_156_17, s_156_20, s_156_21, s_156_22, s_156_25, s_156_26, s_156_27, s_156_28, s_156_31, s_156_34, s_156_36, am_bd_s, Option.toList_some, Option.toList_none, List.cons_append, List.nil_append, am_c1_i, am_c1_n, am_c1_r, if_true, if_false, c_Model_isClass, c_Model_isType, in_58, am_Bt, am_Bf, ↓if_pos, ↓if_neg, if_pos, if_neg]
theorem am_sim_dictionary (c t : Int) : am_Sim 122 156 [.inl c, .inl t] := am_sim2 (am_sim2_dictionary c t)
