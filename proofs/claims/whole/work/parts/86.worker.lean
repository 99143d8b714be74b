/-! value(): the class's methods. -/
theorem am_lc {x y : Int64} : (lg_cmp x y).toInt = 0 ↔ x = y := by
  unfold lg_cmp
  by_cases h : x > y
  · rw [if_pos h]
    constructor
    · intro e; exact absurd e (by decide)
    · intro e; rw [e] at h; exact absurd (Int64.lt_iff_toInt_lt.mp h) (Int.lt_irrefl _)
  · rw [if_neg h]
    by_cases q : x = y
    · rw [if_pos q]; exact ⟨fun _ => q, fun _ => by decide⟩
    · rw [if_neg q]; exact ⟨fun e => absurd e (by decide), fun e => absurd e q⟩
abbrev am_oU (I : Nat → Int → Int) (o n : Int) : Nat → Int → Int := am_uI (am_uI (am_uI I 50 o n) 51 o 0) 44 16 (o + 1)
theorem c_openUp (d N : Nat) (n o : Int) (I : Nat → Int → Int) (L : Nat → Int → Int64) (ho : I 44 16 = o) (h0 : 0 ≤ o) (h1 : o < 360) : am_call (d + 1) 101 [.inr (.inr (some 44)), .inl n] (am_GS N, am_GR, I, L) = some (none, (am_GS N, am_GR, am_oU I o n, L)) := by
  rw [e_101]
  simp (disch := omega) only [s_101_0, s_101_1, s_101_4, s_101_5, s_101_8, s_101_9, s_101_10, s_101_11, s_101_14, s_101_15, s_101_18, s_101_19, s_101_20, s_101_21, s_101_22, s_101_25, s_101_26, s_101_27, s_101_30, am_bd_s, Option.toList_some, Option.toList_none, List.cons_append, List.nil_append, am_c1_i, am_c1_n, am_c1_r, if_true, if_false, in_50, in_51, am_uI_c, Nat.reduceEqDiff, ↓reduceIte, ho, am_wr_eq, ↓if_pos, ↓if_neg, if_pos, if_neg]
theorem c_endNode_in (d N : Nat) (v : Int64) (o a : Int) (I : Nat → Int → Int) (L : Nat → Int → Int64) (ho : I 44 16 = o) (ha : I 44 12 = a) (h0 : 0 < o) (h1 : o ≤ 360) (a0 : 0 < a) (a1 : a ≤ 40) (hf : o - 1 ≠ I 49 (a - 1)) : am_call (d + 3) 103 [.inr (.inr (some 44)), .inr (.inl v)] (am_GS N, am_GR, I, L) = some (none, (am_GS N, am_GR, am_uI I 44 16 (o - 1), am_uL L 44 17 v)) := by
  rw [e_103]
  simp (disch := omega) only [s_103_0, s_103_1, s_103_2, s_103_5, s_103_6, s_103_7, s_103_10, s_103_11, s_103_12, s_103_15, s_103_16, s_103_19, s_103_20, s_103_23, s_103_24, s_103_27, s_103_28, s_103_29, s_103_30, s_103_33, s_103_34, s_103_35, s_103_38, s_103_39, s_103_40, s_103_43, s_103_44, s_103_47, s_103_48, s_103_51, s_103_52, s_103_55, s_103_56, s_103_57, s_103_60, s_103_61, s_103_64, s_103_65, s_103_66, s_103_69, s_103_70, s_103_73, s_103_74, s_103_77, s_103_78, s_103_81, s_103_82, s_103_83, s_103_86, s_103_87, s_103_90, s_103_91, s_103_94, am_bd_s, Option.toList_some, Option.toList_none, List.cons_append, List.nil_append, am_c1_i, am_c1_n, am_c1_r, if_true, if_false, in_49, am_uI_c, Nat.reduceEqDiff, ↓reduceIte, am_up_a, Int.reduceEq, ho, ha, am_wr_eq, ↓if_pos, ↓if_neg, if_pos, if_neg]
abbrev am_eO (I : Nat → Int → Int) (o a x m s : Int) : Nat → Int → Int := am_uI (am_uI (am_uI (am_uI (am_uI (am_uI I 44 16 (o - 1)) 44 12 (a - 1)) 30 (x * 4 + m) 2) 42 s x) 43 s m) 41 5 (s + 1)
theorem c_endNode_out (d N : Nat) (v : Int64) (o a x m s : Int) (I : Nat → Int → Int) (L : Nat → Int → Int64) (ho : I 44 16 = o) (ha : I 44 12 = a) (h0 : 0 < o) (h1 : o ≤ 360) (a0 : 0 < a) (a1 : a ≤ 40) (hf : o - 1 = I 49 (a - 1)) (hx : I 45 (a - 1) = x) (hm : I 46 (a - 1) = m) (x0 : 0 ≤ x) (x1 : x < 60) (m0 : 0 ≤ m) (m1 : m < 4) (hs : I 41 5 = s) (s0 : 0 ≤ s) (s1 : s < 240) : am_call (d + 3) 103 [.inr (.inr (some 44)), .inr (.inl v)] (am_GS N, am_GR, I, L) = some (none, (am_GS N, am_GR, am_eO I o a x m s, am_uL (am_uL L 44 17 v) 31 (x * 4 + m) v)) := by
  have e1 := c_Values_end d N x m v (am_uI (am_uI I 44 16 (o - 1)) 44 12 (a - 1)) (am_uL L 44 17 v) x0 x1 m0 m1
  have e2 := c_Report_tellStep (d + 1) N x m (am_uI (am_uI (am_uI I 44 16 (o - 1)) 44 12 (a - 1)) 30 (x * 4 + m) 2) (am_uL (am_uL L 44 17 v) 31 (x * 4 + m) v) (show 0 ≤ I 41 5 by omega) (show I 41 5 < 240 by omega)
  have e2 : am_call (d + 2) 62 [.inr (.inr (some 41)), .inl x, .inl m] (am_GS N, am_GR, am_uI (am_uI (am_uI I 44 16 (o - 1)) 44 12 (a - 1)) 30 (x * 4 + m) 2, am_uL (am_uL L 44 17 v) 31 (x * 4 + m) v) = some (none, (am_GS N, am_GR, am_uI (am_uI (am_uI (am_uI (am_uI (am_uI I 44 16 (o - 1)) 44 12 (a - 1)) 30 (x * 4 + m) 2) 42 (I 41 5) x) 43 (I 41 5) m) 41 5 (I 41 5 + 1), am_uL (am_uL L 44 17 v) 31 (x * 4 + m) v)) := e2
  rw [hs] at e2
  rw [e_103]
  simp (disch := omega) only [s_103_0, s_103_1, s_103_2, s_103_5, s_103_6, s_103_7, s_103_10, s_103_11, s_103_12, s_103_15, s_103_16, s_103_19, s_103_20, s_103_23, s_103_24, s_103_27, s_103_28, s_103_29, s_103_30, s_103_33, s_103_34, s_103_35, s_103_38, s_103_39, s_103_40, s_103_43, s_103_44, s_103_47, s_103_48, s_103_51, s_103_52, s_103_55, s_103_56, s_103_57, s_103_60, s_103_61, s_103_64, s_103_65, s_103_66, s_103_69, s_103_70, s_103_73, s_103_74, s_103_77, s_103_78, s_103_81, s_103_82, s_103_83, s_103_86, s_103_87, s_103_90, s_103_91, s_103_94, am_bd_s, Option.toList_some, Option.toList_none, List.cons_append, List.nil_append, am_c1_i, am_c1_n, am_c1_r, if_true, if_false, in_49, in_45, in_46, am_uI_c, Nat.reduceEqDiff, ↓reduceIte, am_up_a, Int.reduceEq, ho, ha, hx, hm, am_wr_eq, ↓if_pos, ↓if_neg, if_pos, if_neg, e1, e2]
/-- the MEMBERS at work are given up -/
def am_gu (wd wm : Int → Int) : Nat → Int → (Int → Int) → (Int → Int)
  | 0, _, st => st
  | k + 1, t, st => am_gu wd wm k (t + 1) (am_up st (wd t * 4 + wm t) 0)
theorem am_gu_at (wd wm : Int → Int) : ∀ (k : Nat) (t : Int) (st : Int → Int) (c : Int), ((∃ i, t ≤ i ∧ i < t + k ∧ c = wd i * 4 + wm i) → am_gu wd wm k t st c = 0) ∧ ((∀ i, t ≤ i → i < t + k → c ≠ wd i * 4 + wm i) → am_gu wd wm k t st c = st c) ∧ (st c = 0 → am_gu wd wm k t st c = 0) := by
  intro k
  induction k with
  | zero => intro t st c; exact ⟨fun ⟨i, h1, h2, _⟩ => by omega, fun _ => rfl, fun h => h⟩
  | succ k ih =>
    intro t st c
    obtain ⟨h1, h2, h3⟩ := ih (t + 1) (am_up st (wd t * 4 + wm t) 0) c
    refine ⟨fun ⟨i, i0, i1, e⟩ => ?_, fun h => ?_, fun h => ?_⟩
    · show am_gu wd wm k (t + 1) (am_up st (wd t * 4 + wm t) 0) c = 0
      by_cases q : i = t
      · rw [q] at e
        refine h3 ?_
        rw [e, am_up_s]
      · exact h1 ⟨i, by omega, by omega, e⟩
    · show am_gu wd wm k (t + 1) (am_up st (wd t * 4 + wm t) 0) c = st c
      rw [h2 (fun i i0 i1 => h i (by omega) (by omega)), am_up_n _ _ (h t (by omega) (by omega))]
    · show am_gu wd wm k (t + 1) (am_up st (wd t * 4 + wm t) 0) c = 0
      refine h3 ?_
      rw [am_up_a]
      by_cases q : c = wd t * 4 + wm t
      · rw [if_pos q]
      · rw [if_neg q]; exact h
/-- what giveUpAll leaves -/
abbrev am_gvn (I : Nat → Int → Int) : Nat → Int → Int := am_uI (am_uI (am_sI I 30 (am_gu (I 45) (I 46) (I 44 12).toNat 0 (I 30))) 44 12 0) 44 16 0
theorem l_give (d N : Nat) (I : Nat → Int → Int) (L : Nat → Int → Int64) (h : I 44 12 ≤ 40) (hw : ∀ i, 0 ≤ i → i < I 44 12 → 0 ≤ I 45 i ∧ I 45 i < 60 ∧ 0 ≤ I 46 i ∧ I 46 i < 4) : ∀ (k : Nat) (t : Int) (st : Int → Int), 0 ≤ t → t + k = I 44 12 → am_go0 (am_call (d + 2)) 99 2 [some (.inr (.inr (some 44))), some (.inl t)] [] (am_GS N, am_GR, am_sI I 30 st, L) = some (none, (am_GS N, am_GR, am_uI (am_uI (am_sI I 30 (am_gu (I 45) (I 46) k t st)) 44 12 0) 44 16 0, L)) := by
  intro k
  induction k with
  | zero =>
    intro t st t0 tk
    have e : t = I 44 12 := by omega
    rw [e, s_99_2]
    simp (disch := omega) only [s_99_0, s_99_1, s_99_3, s_99_4, s_99_7, s_99_10, s_99_11, s_99_14, s_99_15, s_99_18, s_99_19, s_99_20, s_99_21, s_99_24, s_99_25, s_99_26, s_99_29, s_99_32, s_99_35, s_99_36, s_99_37, s_99_40, s_99_41, s_99_42, s_99_45, am_bd_s, Option.toList_some, Option.toList_none, List.cons_append, List.nil_append, am_c1_i, am_c1_n, am_c1_r, if_true, if_false, am_sI_c, Nat.reduceEqDiff, ↓reduceIte, ↓if_pos, ↓if_neg, if_pos, if_neg]
    rfl
  | succ k ih =>
    intro t st t0 tk
    obtain ⟨w0, w1, w2, w3⟩ := hw t t0 (by omega)
    have ih := ih (t + 1) (am_up st (I 45 t * 4 + I 46 t) 0) (by omega) (by omega)
    have eg := c_Values_giveUp d N (I 45 t) (I 46 t) (am_sI I 30 st) L w0 w1 w2 w3
    rw [am_sI_u] at eg
    have e2 : am_gu (I 45) (I 46) (k + 1) t st = am_gu (I 45) (I 46) k (t + 1) (am_up st (I 45 t * 4 + I 46 t) 0) := rfl
    rw [e2, ← ih, s_99_2]
    simp (disch := omega) only [s_99_0, s_99_1, s_99_3, s_99_4, s_99_7, s_99_10, s_99_11, s_99_14, s_99_15, s_99_18, s_99_19, s_99_20, s_99_21, s_99_24, s_99_25, s_99_26, s_99_29, s_99_32, s_99_35, s_99_36, s_99_37, s_99_40, s_99_41, s_99_42, s_99_45, am_bd_s, Option.toList_some, Option.toList_none, List.cons_append, List.nil_append, am_c1_i, am_c1_n, am_c1_r, if_true, if_false, in_45, in_46, am_sI_c, Nat.reduceEqDiff, ↓reduceIte, am_wr_eq, ↓if_pos, ↓if_neg, if_pos, if_neg, eg]
theorem c_giveUpAll (d N : Nat) (I : Nat → Int → Int) (L : Nat → Int → Int64) (h0 : 0 ≤ I 44 12) (h : I 44 12 ≤ 40) (hw : ∀ i, 0 ≤ i → i < I 44 12 → 0 ≤ I 45 i ∧ I 45 i < 60 ∧ 0 ≤ I 46 i ∧ I 46 i < 4) : am_call (d + 3) 99 [.inr (.inr (some 44))] (am_GS N, am_GR, I, L) = some (none, (am_GS N, am_GR, am_gvn I, L)) := by
  have e2 := l_give d N I L h hw (I 44 12).toNat 0 (I 30) (Int.le_refl _) (by omega)
  rw [am_sI_self] at e2
  rw [e_99]
  simp (disch := omega) only [s_99_0, s_99_1, am_bd_s, Option.toList_some, Option.toList_none, List.cons_append, List.nil_append, am_c1_i, am_c1_n, am_c1_r, if_true, if_false]
  exact e2
/-- what tellFault leaves -/
abbrev am_flt (I : Nat → Int → Int) (f x m : Int) : Nat → Int → Int := am_uI (am_uI (am_uI I 41 0 f) 41 1 x) 41 2 m
theorem c_tf (d N : Nat) (f x m : Int) (I : Nat → Int → Int) (L : Nat → Int → Int64) : am_call (d + 1) 61 [.inr (.inr (some 41)), .inl f, .inl x, .inl m] (am_GS N, am_GR, I, L) = some (none, (am_GS N, am_GR, am_flt I f x m, L)) := c_Report_tellFault d N f x m I L
theorem c_failHere (d N : Nat) (f x m : Int) (I : Nat → Int → Int) (L : Nat → Int → Int64) (h0 : 0 < I 44 12) (h : I 44 12 ≤ 40) (hx : I 45 (I 44 12 - 1) = x) (hm : I 46 (I 44 12 - 1) = m) : am_call (d + 4) 107 [.inr (.inr (some 44)), .inl f] (am_GS N, am_GR, I, L) = some (none, (am_GS N, am_GR, am_flt I f x m, L)) := by
  have e1 := c_tf (d + 2) N f x m I L
  rw [e_107]
  simp (disch := omega) only [s_107_0, s_107_1, s_107_4, s_107_5, s_107_6, s_107_9, s_107_10, s_107_13, s_107_14, s_107_15, s_107_16, s_107_17, s_107_20, s_107_21, s_107_24, s_107_25, s_107_26, s_107_27, s_107_30, am_bd_s, Option.toList_some, Option.toList_none, List.cons_append, List.nil_append, am_c1_i, am_c1_n, am_c1_r, if_true, if_false, in_45, in_46, hx, hm, am_wr_eq, ↓if_pos, ↓if_neg, if_pos, if_neg, e1]
abbrev am_bM (I : Nat → Int → Int) (x m z w o a nd : Int) : Nat → Int → Int := am_oU (am_uI (am_uI (am_uI (am_uI (am_uI (am_uI (am_uI (am_uI I 30 (x * 4 + m) 1) 32 (x * 4 + m) (am_wr (I 32 (x * 4 + m) + 1))) 45 a x) 46 a m) 47 a z) 48 a w) 49 a o) 44 12 (a + 1)) o nd
theorem c_beg_b (d N : Nat) (x m o a t nd : Int) (I : Nat → Int → Int) (L : Nat → Int → Int64) (ho : I 44 16 = o) (ha : I 44 12 = a) (o0 : 0 ≤ o) (o1 : o < 360) (a0 : 0 ≤ a) (a1 : a < 40) (x0 : 0 ≤ x) (x1 : x < 60) (m0 : 0 ≤ m) (m1 : m < 4) (i0 : 0 ≤ I 36 x) (i1 : I 36 x < 20) (k0 : 0 ≤ I 34 x) (k1 : I 34 x < 8) (ht : I 35 x = t) (t0 : 0 ≤ t) (t1 : t < 80) (hb : I 21 (I 36 x * 4 + m) = nd) (hn : nd ≠ -1) : am_call (d + 4) 100 [.inr (.inr (some 44)), .inl x, .inl m] (am_GS N, am_GR, I, L) = some (none, (am_GS N, am_GR, am_bM I x m (I 5 t) (I 6 t) o a nd, L)) := by
  have e1 := c_Values_begin (d + 1) N x m I L x0 x1 m0 m1
  have e2 := c_openUp (d + 2) N nd o (am_uI (am_uI (am_uI (am_uI (am_uI (am_uI (am_uI (am_uI I 30 (x * 4 + m) 1) 32 (x * 4 + m) (am_wr (I 32 (x * 4 + m) + 1))) 45 a x) 46 a m) 47 a (I 5 t)) 48 a (I 6 t)) 49 a o) 44 12 (a + 1)) L (by simp only [am_uI_c, Nat.reduceEqDiff, ↓reduceIte, am_up_a, Int.reduceEq]; exact ho) o0 o1
  have f1 := c_Dictionaries_instanceOf (d + 2) N x I L x0 x1
  have f2 := c_Dictionaries_classOf (d + 2) N x I L x0 x1
  have f3 := c_Dictionaries_typeAt (d + 2) N x I L x0 x1
  have f4 := c_Instances_bodyOf (d + 2) N (I 36 x) m I L i0 i1 m0 m1
  have f5 := c_Classes_standardOf (d + 2) N (I 34 x) m I L k0 k1 m0 m1
  rw [hb] at f4
  rw [ht] at f3
  rw [e_100]
  simp (disch := omega) only [s_100_0, s_100_1, s_100_4, s_100_5, s_100_8, s_100_9, s_100_12, s_100_13, s_100_16, s_100_17, s_100_18, s_100_21, s_100_22, s_100_25, s_100_26, s_100_29, s_100_30, s_100_33, s_100_35, s_100_36, s_100_39, s_100_40, s_100_43, s_100_45, s_100_46, s_100_47, s_100_50, s_100_52, s_100_53, s_100_56, s_100_57, s_100_60, s_100_61, s_100_62, s_100_63, s_100_66, s_100_67, s_100_68, s_100_71, s_100_72, s_100_73, s_100_76, s_100_77, s_100_80, s_100_81, s_100_84, s_100_85, s_100_86, s_100_87, s_100_90, s_100_91, s_100_94, s_100_95, s_100_96, s_100_97, s_100_100, s_100_101, s_100_104, s_100_105, s_100_106, s_100_109, s_100_110, s_100_113, s_100_115, s_100_116, s_100_119, s_100_122, s_100_124, s_100_125, s_100_126, s_100_129, s_100_130, s_100_133, s_100_134, s_100_135, s_100_138, s_100_139, s_100_142, s_100_144, s_100_145, s_100_148, s_100_151, s_100_152, s_100_153, s_100_154, s_100_157, s_100_158, s_100_161, s_100_162, s_100_165, s_100_166, s_100_167, s_100_168, s_100_171, s_100_172, s_100_173, s_100_176, s_100_177, s_100_178, s_100_179, s_100_182, s_100_183, s_100_186, s_100_188, s_100_191, am_bd_s, Option.toList_some, Option.toList_none, List.cons_append, List.nil_append, am_c1_i, am_c1_n, am_c1_r, if_true, if_false, f1, f2, f3, f4, f5, e1, c_Types_argument, in_45, in_46, in_47, in_48, in_49, am_uI_c, Nat.reduceEqDiff, ↓reduceIte, am_up_a, Int.reduceEq, ho, ha, hn, am_wr_eq, ↓if_pos, ↓if_neg, if_pos, if_neg, e2]
theorem c_beg_s (d N : Nat) (x m o a t nd : Int) (I : Nat → Int → Int) (L : Nat → Int → Int64) (ho : I 44 16 = o) (ha : I 44 12 = a) (o0 : 0 ≤ o) (o1 : o < 360) (a0 : 0 ≤ a) (a1 : a < 40) (x0 : 0 ≤ x) (x1 : x < 60) (m0 : 0 ≤ m) (m1 : m < 4) (i0 : 0 ≤ I 36 x) (i1 : I 36 x < 20) (k0 : 0 ≤ I 34 x) (k1 : I 34 x < 8) (ht : I 35 x = t) (hb : I 21 (I 36 x * 4 + m) = -1) (hs : I 14 (I 34 x * 4 + m) = nd) (hn : nd ≠ -1) : am_call (d + 4) 100 [.inr (.inr (some 44)), .inl x, .inl m] (am_GS N, am_GR, I, L) = some (none, (am_GS N, am_GR, am_bM I x m t (-1) o a nd, L)) := by
  have e1 := c_Values_begin (d + 1) N x m I L x0 x1 m0 m1
  have e2 := c_openUp (d + 2) N nd o (am_uI (am_uI (am_uI (am_uI (am_uI (am_uI (am_uI (am_uI I 30 (x * 4 + m) 1) 32 (x * 4 + m) (am_wr (I 32 (x * 4 + m) + 1))) 45 a x) 46 a m) 47 a t) 48 a (-1)) 49 a o) 44 12 (a + 1)) L (by simp only [am_uI_c, Nat.reduceEqDiff, ↓reduceIte, am_up_a, Int.reduceEq]; exact ho) o0 o1
  have f1 := c_Dictionaries_instanceOf (d + 2) N x I L x0 x1
  have f2 := c_Dictionaries_classOf (d + 2) N x I L x0 x1
  have f3 := c_Dictionaries_typeAt (d + 2) N x I L x0 x1
  have f4 := c_Instances_bodyOf (d + 2) N (I 36 x) m I L i0 i1 m0 m1
  have f5 := c_Classes_standardOf (d + 2) N (I 34 x) m I L k0 k1 m0 m1
  rw [hb] at f4
  rw [ht] at f3
  rw [hs] at f5
  rw [e_100]
  simp (disch := omega) only [s_100_0, s_100_1, s_100_4, s_100_5, s_100_8, s_100_9, s_100_12, s_100_13, s_100_16, s_100_17, s_100_18, s_100_21, s_100_22, s_100_25, s_100_26, s_100_29, s_100_30, s_100_33, s_100_35, s_100_36, s_100_39, s_100_40, s_100_43, s_100_45, s_100_46, s_100_47, s_100_50, s_100_52, s_100_53, s_100_56, s_100_57, s_100_60, s_100_61, s_100_62, s_100_63, s_100_66, s_100_67, s_100_68, s_100_71, s_100_72, s_100_73, s_100_76, s_100_77, s_100_80, s_100_81, s_100_84, s_100_85, s_100_86, s_100_87, s_100_90, s_100_91, s_100_94, s_100_95, s_100_96, s_100_97, s_100_100, s_100_101, s_100_104, s_100_105, s_100_106, s_100_109, s_100_110, s_100_113, s_100_115, s_100_116, s_100_119, s_100_122, s_100_124, s_100_125, s_100_126, s_100_129, s_100_130, s_100_133, s_100_134, s_100_135, s_100_138, s_100_139, s_100_142, s_100_144, s_100_145, s_100_148, s_100_151, s_100_152, s_100_153, s_100_154, s_100_157, s_100_158, s_100_161, s_100_162, s_100_165, s_100_166, s_100_167, s_100_168, s_100_171, s_100_172, s_100_173, s_100_176, s_100_177, s_100_178, s_100_179, s_100_182, s_100_183, s_100_186, s_100_188, s_100_191, am_bd_s, Option.toList_some, Option.toList_none, List.cons_append, List.nil_append, am_c1_i, am_c1_n, am_c1_r, if_true, if_false, f1, f2, f3, f4, f5, e1, in_45, in_46, in_47, in_48, in_49, am_uI_c, Nat.reduceEqDiff, ↓reduceIte, am_up_a, Int.reduceEq, ho, ha, hn, am_wr_eq, ↓if_pos, ↓if_neg, if_pos, if_neg, e2]
theorem c_beg_m (d N : Nat) (x m : Int) (I : Nat → Int → Int) (L : Nat → Int → Int64) (x0 : 0 ≤ x) (x1 : x < 60) (m0 : 0 ≤ m) (m1 : m < 4) (i0 : 0 ≤ I 36 x) (i1 : I 36 x < 20) (k0 : 0 ≤ I 34 x) (k1 : I 34 x < 8) (hb : I 21 (I 36 x * 4 + m) = -1) (hs : I 14 (I 34 x * 4 + m) = -1) : am_call (d + 4) 100 [.inr (.inr (some 44)), .inl x, .inl m] (am_GS N, am_GR, I, L) = some (none, (am_GS N, am_GR, am_flt I 1 x m, L)) := by
  have e1 := c_tf (d + 2) N 1 x m I L
  have f1 := c_Dictionaries_instanceOf (d + 2) N x I L x0 x1
  have f2 := c_Dictionaries_classOf (d + 2) N x I L x0 x1
  have f3 := c_Dictionaries_typeAt (d + 2) N x I L x0 x1
  have f4 := c_Instances_bodyOf (d + 2) N (I 36 x) m I L i0 i1 m0 m1
  have f5 := c_Classes_standardOf (d + 2) N (I 34 x) m I L k0 k1 m0 m1
  rw [hb] at f4
  rw [hs] at f5
  rw [e_100]
  simp (disch := omega) only [s_100_0, s_100_1, s_100_4, s_100_5, s_100_8, s_100_9, s_100_12, s_100_13, s_100_16, s_100_17, s_100_18, s_100_21, s_100_22, s_100_25, s_100_26, s_100_29, s_100_30, s_100_33, s_100_35, s_100_36, s_100_39, s_100_40, s_100_43, s_100_45, s_100_46, s_100_47, s_100_50, s_100_52, s_100_53, s_100_56, s_100_57, s_100_60, s_100_61, s_100_62, s_100_63, s_100_66, s_100_67, s_100_68, s_100_71, s_100_72, s_100_73, s_100_76, s_100_77, s_100_80, s_100_81, s_100_84, s_100_85, s_100_86, s_100_87, s_100_90, s_100_91, s_100_94, s_100_95, s_100_96, s_100_97, s_100_100, s_100_101, s_100_104, s_100_105, s_100_106, s_100_109, s_100_110, s_100_113, s_100_115, s_100_116, s_100_119, s_100_122, s_100_124, s_100_125, s_100_126, s_100_129, s_100_130, s_100_133, s_100_134, s_100_135, s_100_138, s_100_139, s_100_142, s_100_144, s_100_145, s_100_148, s_100_151, s_100_152, s_100_153, s_100_154, s_100_157, s_100_158, s_100_161, s_100_162, s_100_165, s_100_166, s_100_167, s_100_168, s_100_171, s_100_172, s_100_173, s_100_176, s_100_177, s_100_178, s_100_179, s_100_182, s_100_183, s_100_186, s_100_188, s_100_191, am_bd_s, Option.toList_some, Option.toList_none, List.cons_append, List.nil_append, am_c1_i, am_c1_n, am_c1_r, if_true, if_false, f1, f2, f3, f4, f5, e1, ↓if_pos, ↓if_neg, if_pos, if_neg]
theorem c_need_w (d N : Nat) (x m : Int) (I : Nat → Int → Int) (L : Nat → Int → Int64) (x0 : 0 ≤ x) (x1 : x < 60) (m0 : 0 ≤ m) (m1 : m < 4) (hs : I 30 (x * 4 + m) = 2) : am_call (d + 5) 98 [.inr (.inr (some 44)), .inl x, .inl m] (am_GS N, am_GR, I, L) = some (none, (am_GS N, am_GR, I, am_uL L 44 17 (L 31 (x * 4 + m)))) := by
  rw [e_98]
  simp (disch := omega) only [s_98_0, s_98_1, s_98_4, s_98_5, s_98_6, s_98_9, s_98_12, s_98_13, s_98_14, s_98_17, s_98_18, s_98_19, s_98_22, s_98_25, s_98_28, s_98_29, s_98_32, s_98_33, s_98_34, s_98_37, s_98_40, s_98_41, s_98_44, s_98_45, s_98_46, s_98_47, s_98_50, s_98_53, s_98_54, s_98_57, s_98_59, s_98_62, s_98_63, s_98_66, s_98_68, s_98_69, s_98_70, s_98_73, s_98_76, s_98_77, s_98_78, s_98_79, s_98_82, am_bd_s, Option.toList_some, Option.toList_none, List.cons_append, List.nil_append, am_c1_i, am_c1_n, am_c1_r, if_true, if_false, c_Values_isWorked, c_Values_workedTo, am_Bt, am_Bf, ↓if_pos, ↓if_neg, if_pos, if_neg]
theorem c_need_r (d N : Nat) (x m : Int) (I : Nat → Int → Int) (L : Nat → Int → Int64) (x0 : 0 ≤ x) (x1 : x < 60) (m0 : 0 ≤ m) (m1 : m < 4) (hs : I 30 (x * 4 + m) = 1) : am_call (d + 5) 98 [.inr (.inr (some 44)), .inl x, .inl m] (am_GS N, am_GR, I, L) = some (none, (am_GS N, am_GR, am_flt I 2 x m, L)) := by
  have e1 := c_tf (d + 3) N 2 x m I L
  rw [e_98]
  simp (disch := omega) only [s_98_0, s_98_1, s_98_4, s_98_5, s_98_6, s_98_9, s_98_12, s_98_13, s_98_14, s_98_17, s_98_18, s_98_19, s_98_22, s_98_25, s_98_28, s_98_29, s_98_32, s_98_33, s_98_34, s_98_37, s_98_40, s_98_41, s_98_44, s_98_45, s_98_46, s_98_47, s_98_50, s_98_53, s_98_54, s_98_57, s_98_59, s_98_62, s_98_63, s_98_66, s_98_68, s_98_69, s_98_70, s_98_73, s_98_76, s_98_77, s_98_78, s_98_79, s_98_82, am_bd_s, Option.toList_some, Option.toList_none, List.cons_append, List.nil_append, am_c1_i, am_c1_n, am_c1_r, if_true, if_false, c_Values_isWorked, c_Values_isBeingWorked, e1, am_Bt, am_Bf, ↓if_pos, ↓if_neg, if_pos, if_neg]
theorem c_need_d (d N : Nat) (x m : Int) (I : Nat → Int → Int) (L : Nat → Int → Int64) (x0 : 0 ≤ x) (x1 : x < 60) (m0 : 0 ≤ m) (m1 : m < 4) (hs : I 30 (x * 4 + m) = 0) (a1 : I 44 12 = 40) : am_call (d + 5) 98 [.inr (.inr (some 44)), .inl x, .inl m] (am_GS N, am_GR, I, L) = some (none, (am_GS N, am_GR, am_flt I 6 x m, L)) := by
  have e1 := c_tf (d + 3) N 6 x m I L
  rw [e_98]
  simp (disch := omega) only [s_98_0, s_98_1, s_98_4, s_98_5, s_98_6, s_98_9, s_98_12, s_98_13, s_98_14, s_98_17, s_98_18, s_98_19, s_98_22, s_98_25, s_98_28, s_98_29, s_98_32, s_98_33, s_98_34, s_98_37, s_98_40, s_98_41, s_98_44, s_98_45, s_98_46, s_98_47, s_98_50, s_98_53, s_98_54, s_98_57, s_98_59, s_98_62, s_98_63, s_98_66, s_98_68, s_98_69, s_98_70, s_98_73, s_98_76, s_98_77, s_98_78, s_98_79, s_98_82, am_bd_s, Option.toList_some, Option.toList_none, List.cons_append, List.nil_append, am_c1_i, am_c1_n, am_c1_r, if_true, if_false, c_Values_isWorked, c_Values_isBeingWorked, e1, am_Bt, am_Bf, ↓if_pos, ↓if_neg, if_pos, if_neg]
theorem c_need_b (d N : Nat) (x m : Int) (I I2 : Nat → Int → Int) (L : Nat → Int → Int64) (x0 : 0 ≤ x) (x1 : x < 60) (m0 : 0 ≤ m) (m1 : m < 4) (hs : I 30 (x * 4 + m) = 0) (a1 : I 44 12 < 40) (e1 : am_call (d + 4) 100 [.inr (.inr (some 44)), .inl x, .inl m] (am_GS N, am_GR, I, L) = some (none, (am_GS N, am_GR, I2, L))) : am_call (d + 5) 98 [.inr (.inr (some 44)), .inl x, .inl m] (am_GS N, am_GR, I, L) = some (none, (am_GS N, am_GR, I2, L)) := by
  rw [e_98]
  simp (disch := omega) only [s_98_0, s_98_1, s_98_4, s_98_5, s_98_6, s_98_9, s_98_12, s_98_13, s_98_14, s_98_17, s_98_18, s_98_19, s_98_22, s_98_25, s_98_28, s_98_29, s_98_32, s_98_33, s_98_34, s_98_37, s_98_40, s_98_41, s_98_44, s_98_45, s_98_46, s_98_47, s_98_50, s_98_53, s_98_54, s_98_57, s_98_59, s_98_62, s_98_63, s_98_66, s_98_68, s_98_69, s_98_70, s_98_73, s_98_76, s_98_77, s_98_78, s_98_79, s_98_82, am_bd_s, Option.toList_some, Option.toList_none, List.cons_append, List.nil_append, am_c1_i, am_c1_n, am_c1_r, if_true, if_false, c_Values_isWorked, c_Values_isBeingWorked, e1, am_Bt, am_Bf, ↓if_pos, ↓if_neg, if_pos, if_neg]
theorem c_nn (d N : Nat) (x m : Int) (I I2 : Nat → Int → Int) (L L2 : Nat → Int → Int64) (x0 : 0 ≤ x) (e1 : am_call (d + 5) 98 [.inr (.inr (some 44)), .inl x, .inl m] (am_GS N, am_GR, I, L) = some (none, (am_GS N, am_GR, I2, L2))) : am_call (d + 6) 110 [.inr (.inr (some 44)), .inl x, .inl m] (am_GS N, am_GR, I, L) = some (none, (am_GS N, am_GR, I2, L2)) := by
  rw [e_110]
  simp (disch := omega) only [s_110_0, s_110_1, s_110_3, s_110_6, s_110_7, s_110_8, s_110_11, s_110_14, s_110_15, s_110_17, s_110_20, s_110_21, s_110_22, s_110_25, s_110_28, s_110_29, s_110_30, s_110_31, s_110_34, am_bd_s, Option.toList_some, Option.toList_none, List.cons_append, List.nil_append, am_c1_i, am_c1_n, am_c1_r, if_true, if_false, e1, ↓if_pos, ↓if_neg, if_pos, if_neg]
theorem c_nn_f (d N : Nat) (m : Int) (I I2 : Nat → Int → Int) (L L2 : Nat → Int → Int64) (e1 : am_call (d + 5) 107 [.inr (.inr (some 44)), .inl 5] (am_GS N, am_GR, I, L) = some (none, (am_GS N, am_GR, I2, L2))) : am_call (d + 6) 110 [.inr (.inr (some 44)), .inl (-3), .inl m] (am_GS N, am_GR, I, L) = some (none, (am_GS N, am_GR, I2, L2)) := by
  rw [e_110]
  simp (disch := omega) only [s_110_0, s_110_1, s_110_3, s_110_6, s_110_7, s_110_8, s_110_11, s_110_14, s_110_15, s_110_17, s_110_20, s_110_21, s_110_22, s_110_25, s_110_28, s_110_29, s_110_30, s_110_31, s_110_34, am_bd_s, Option.toList_some, Option.toList_none, List.cons_append, List.nil_append, am_c1_i, am_c1_n, am_c1_r, if_true, if_false, e1, ↓if_pos, ↓if_neg, if_pos, if_neg]
theorem c_nn_l (d N : Nat) (m : Int) (I I2 : Nat → Int → Int) (L L2 : Nat → Int → Int64) (e1 : am_call (d + 5) 107 [.inr (.inr (some 44)), .inl 4] (am_GS N, am_GR, I, L) = some (none, (am_GS N, am_GR, I2, L2))) : am_call (d + 6) 110 [.inr (.inr (some 44)), .inl (-4), .inl m] (am_GS N, am_GR, I, L) = some (none, (am_GS N, am_GR, I2, L2)) := by
  rw [e_110]
  simp (disch := omega) only [s_110_0, s_110_1, s_110_3, s_110_6, s_110_7, s_110_8, s_110_11, s_110_14, s_110_15, s_110_17, s_110_20, s_110_21, s_110_22, s_110_25, s_110_28, s_110_29, s_110_30, s_110_31, s_110_34, am_bd_s, Option.toList_some, Option.toList_none, List.cons_append, List.nil_append, am_c1_i, am_c1_n, am_c1_r, if_true, if_false, e1, ↓if_pos, ↓if_neg, if_pos, if_neg]
theorem c_dn_1 (d N : Nat) (n x : Int) (I : Nat → Int → Int) (L : Nat → Int → Int64) (n0 : 0 ≤ n) (n1 : n < 80) (a0 : 0 < I 44 12) (a1 : I 44 12 ≤ 40) (hx : I 45 (I 44 12 - 1) = x) (hk : I 23 n = 1) : am_call (d + 6) 108 [.inr (.inr (some 44)), .inl n] (am_GS N, am_GR, I, L) = some (some (.inl x), (am_GS N, am_GR, I, L)) := by
  rw [e_108]
  simp (disch := omega) only [s_108_0, s_108_1, s_108_4, s_108_5, s_108_6, s_108_7, s_108_8, s_108_11, s_108_12, s_108_13, s_108_14, s_108_15, s_108_18, s_108_19, s_108_22, s_108_24, s_108_25, s_108_28, s_108_29, s_108_32, s_108_60, s_108_61, s_108_62, s_108_63, s_108_66, s_108_67, s_108_69, s_108_72, s_108_73, s_108_74, s_108_77, s_108_78, s_108_80, s_108_83, s_108_84, s_108_85, s_108_88, s_108_89, s_108_92, s_108_93, s_108_96, s_108_97, s_108_100, s_108_101, s_108_102, s_108_103, s_108_106, s_108_107, s_108_108, s_108_111, s_108_113, s_108_115, s_108_117, s_108_120, s_108_122, s_108_125, s_108_126, s_108_129, s_108_131, s_108_133, s_108_136, am_bd_s, Option.toList_some, Option.toList_none, List.cons_append, List.nil_append, am_c1_i, am_c1_n, am_c1_r, if_true, if_false, in_45, c_Nodes_firstOf, c_Nodes_kindOf, hx, hk, am_wr_eq, ↓if_pos, ↓if_neg, if_pos, if_neg]
theorem c_dn_2 (d N : Nat) (n x : Int) (I : Nat → Int → Int) (L : Nat → Int → Int64) (n0 : 0 ≤ n) (n1 : n < 80) (a0 : 0 < I 44 12) (a1 : I 44 12 ≤ 40) (hx : I 45 (I 44 12 - 1) = x) (x0 : 0 ≤ x) (x1 : x < 60) (hk : I 23 n = 2) (b0 : 0 ≤ I 24 n) (b1 : I 24 n < 6) : am_call (d + 6) 108 [.inr (.inr (some 44)), .inl n] (am_GS N, am_GR, I, L) = some (some (.inl (I 38 (x * 6 + I 24 n))), (am_GS N, am_GR, I, L)) := by
  rw [e_108]
  simp (disch := omega) only [s_108_0, s_108_1, s_108_4, s_108_5, s_108_6, s_108_7, s_108_8, s_108_11, s_108_12, s_108_13, s_108_14, s_108_15, s_108_18, s_108_19, s_108_22, s_108_24, s_108_25, s_108_28, s_108_29, s_108_32, s_108_60, s_108_61, s_108_62, s_108_63, s_108_66, s_108_67, s_108_69, s_108_72, s_108_73, s_108_74, s_108_77, s_108_78, s_108_80, s_108_83, s_108_84, s_108_85, s_108_88, s_108_89, s_108_92, s_108_93, s_108_96, s_108_97, s_108_100, s_108_101, s_108_102, s_108_103, s_108_106, s_108_107, s_108_108, s_108_111, s_108_113, s_108_115, s_108_117, s_108_120, s_108_122, s_108_125, s_108_126, s_108_129, s_108_131, s_108_133, s_108_136, am_bd_s, Option.toList_some, Option.toList_none, List.cons_append, List.nil_append, am_c1_i, am_c1_n, am_c1_r, if_true, if_false, in_45, c_Nodes_firstOf, c_Nodes_kindOf, c_Dictionaries_partAt, hx, hk, am_wr_eq, ↓if_pos, ↓if_neg, if_pos, if_neg]
theorem c_dn_3 (d N : Nat) (n x : Int) (I : Nat → Int → Int) (L : Nat → Int → Int64) (n0 : 0 ≤ n) (n1 : n < 80) (a0 : 0 < I 44 12) (a1 : I 44 12 ≤ 40) (hx : I 45 (I 44 12 - 1) = x) (x0 : 0 ≤ x) (x1 : x < 60) (hk : I 23 n = 3) (b0 : 0 ≤ I 24 n) (b1 : I 24 n < 3) (i0 : 0 ≤ I 36 x) (i1 : I 36 x < 20) (c0 : 0 ≤ I 18 (I 36 x)) (c1 : I 18 (I 36 x) ≤ 3) : am_call (d + 6) 108 [.inr (.inr (some 44)), .inl n] (am_GS N, am_GR, I, L) = some (some (.inl (I 38 (x * 6 + (I 18 (I 36 x) + I 24 n)))), (am_GS N, am_GR, I, L)) := by
  rw [e_108]
  simp (disch := omega) only [s_108_0, s_108_1, s_108_4, s_108_5, s_108_6, s_108_7, s_108_8, s_108_11, s_108_12, s_108_13, s_108_14, s_108_15, s_108_18, s_108_19, s_108_22, s_108_24, s_108_25, s_108_28, s_108_29, s_108_32, s_108_60, s_108_61, s_108_62, s_108_63, s_108_66, s_108_67, s_108_69, s_108_72, s_108_73, s_108_74, s_108_77, s_108_78, s_108_80, s_108_83, s_108_84, s_108_85, s_108_88, s_108_89, s_108_92, s_108_93, s_108_96, s_108_97, s_108_100, s_108_101, s_108_102, s_108_103, s_108_106, s_108_107, s_108_108, s_108_111, s_108_113, s_108_115, s_108_117, s_108_120, s_108_122, s_108_125, s_108_126, s_108_129, s_108_131, s_108_133, s_108_136, am_bd_s, Option.toList_some, Option.toList_none, List.cons_append, List.nil_append, am_c1_i, am_c1_n, am_c1_r, if_true, if_false, in_45, c_Nodes_firstOf, c_Nodes_kindOf, c_Dictionaries_superPartAt, hx, hk, am_wr_eq, ↓if_pos, ↓if_neg, if_pos, if_neg]
theorem c_dn_4f (d N : Nat) (n z w : Int) (I I2 : Nat → Int → Int) (L : Nat → Int → Int64) (n0 : 0 ≤ n) (n1 : n < 80) (a0 : 0 < I 44 12) (a1 : I 44 12 ≤ 40) (hz : I 47 (I 44 12 - 1) = z) (hw : I 48 (I 44 12 - 1) = w) (hk : I 23 n = 4) (ep : am_call (d + 5) 81 [.inr (.inr (some 2)), .inl (I 25 n), .inl z, .inl w] (am_GS N, am_GR, I, L) = some (some (.inl (-3)), (am_GS N, am_GR, I2, L))) : am_call (d + 6) 108 [.inr (.inr (some 44)), .inl n] (am_GS N, am_GR, I, L) = some (some (.inl (-3)), (am_GS N, am_GR, I2, L)) := by
  rw [e_108]
  simp (disch := omega) only [s_108_0, s_108_1, s_108_4, s_108_5, s_108_6, s_108_7, s_108_8, s_108_11, s_108_12, s_108_13, s_108_14, s_108_15, s_108_18, s_108_19, s_108_22, s_108_24, s_108_25, s_108_28, s_108_29, s_108_32, s_108_60, s_108_61, s_108_62, s_108_63, s_108_66, s_108_67, s_108_69, s_108_72, s_108_73, s_108_74, s_108_77, s_108_78, s_108_80, s_108_83, s_108_84, s_108_85, s_108_88, s_108_89, s_108_92, s_108_93, s_108_96, s_108_97, s_108_100, s_108_101, s_108_102, s_108_103, s_108_106, s_108_107, s_108_108, s_108_111, s_108_113, s_108_115, s_108_117, s_108_120, s_108_122, s_108_125, s_108_126, s_108_129, s_108_131, s_108_133, s_108_136, am_bd_s, Option.toList_some, Option.toList_none, List.cons_append, List.nil_append, am_c1_i, am_c1_n, am_c1_r, if_true, if_false, in_45, in_47, in_48, c_Nodes_firstOf, c_Nodes_secondOf, c_Nodes_kindOf, hz, hw, hk, ep, am_wr_eq, ↓if_pos, ↓if_neg, if_pos, if_neg]
theorem c_dn_4 (d N : Nat) (n z w r s : Int) (I I2 I3 : Nat → Int → Int) (L : Nat → Int → Int64) (n0 : 0 ≤ n) (n1 : n < 80) (a0 : 0 < I 44 12) (a1 : I 44 12 ≤ 40) (hz : I 47 (I 44 12 - 1) = z) (hw : I 48 (I 44 12 - 1) = w) (hk : I 23 n = 4) (ep : am_call (d + 5) 81 [.inr (.inr (some 2)), .inl (I 25 n), .inl z, .inl w] (am_GS N, am_GR, I, L) = some (some (.inl r), (am_GS N, am_GR, I2, L))) (hr : r ≠ -3) (em : am_call (d + 5) 13 [.inr (.inr (some 33)), .inl (I 24 n), .inl r] (am_GS N, am_GR, I2, L) = some (some (.inl s), (am_GS N, am_GR, I3, L))) : am_call (d + 6) 108 [.inr (.inr (some 44)), .inl n] (am_GS N, am_GR, I, L) = some (some (.inl s), (am_GS N, am_GR, I3, L)) := by
  rw [e_108]
  simp (disch := omega) only [s_108_0, s_108_1, s_108_4, s_108_5, s_108_6, s_108_7, s_108_8, s_108_11, s_108_12, s_108_13, s_108_14, s_108_15, s_108_18, s_108_19, s_108_22, s_108_24, s_108_25, s_108_28, s_108_29, s_108_32, s_108_60, s_108_61, s_108_62, s_108_63, s_108_66, s_108_67, s_108_69, s_108_72, s_108_73, s_108_74, s_108_77, s_108_78, s_108_80, s_108_83, s_108_84, s_108_85, s_108_88, s_108_89, s_108_92, s_108_93, s_108_96, s_108_97, s_108_100, s_108_101, s_108_102, s_108_103, s_108_106, s_108_107, s_108_108, s_108_111, s_108_113, s_108_115, s_108_117, s_108_120, s_108_122, s_108_125, s_108_126, s_108_129, s_108_131, s_108_133, s_108_136, am_bd_s, Option.toList_some, Option.toList_none, List.cons_append, List.nil_append, am_c1_i, am_c1_n, am_c1_r, if_true, if_false, in_45, in_47, in_48, c_Nodes_firstOf, c_Nodes_secondOf, c_Nodes_kindOf, hz, hw, hk, ep, em, am_wr_eq, ↓if_pos, ↓if_neg, if_pos, if_neg]
abbrev am_mN (I : Nat → Int → Int) (n : Int) : Int := if I 23 n = 1 then I 24 n else if I 23 n = 4 then I 26 n else I 25 n
theorem c_mn (d N : Nat) (n : Int) (I : Nat → Int → Int) (L : Nat → Int → Int64) (n0 : 0 ≤ n) (n1 : n < 80) : am_call (d + 2) 109 [.inr (.inr (some 44)), .inl n] (am_GS N, am_GR, I, L) = some (some (.inl (am_mN I n)), (am_GS N, am_GR, I, L)) := by
  rw [e_109]
  unfold am_mN
  by_cases q1 : I 23 n = 1
  · simp (disch := omega) only [s_109_0, s_109_1, s_109_4, s_109_5, s_109_8, s_109_36, s_109_37, s_109_40, s_109_41, s_109_44, s_109_45, s_109_46, s_109_49, s_109_50, s_109_53, s_109_54, s_109_55, s_109_58, s_109_59, s_109_62, am_bd_s, Option.toList_some, Option.toList_none, List.cons_append, List.nil_append, am_c1_i, am_c1_n, am_c1_r, if_true, if_false, c_Nodes_firstOf, c_Nodes_kindOf, q1, ↓if_pos, ↓if_neg, if_pos, if_neg]
  by_cases q4 : I 23 n = 4
  · simp (disch := omega) only [s_109_0, s_109_1, s_109_4, s_109_5, s_109_8, s_109_36, s_109_37, s_109_40, s_109_41, s_109_44, s_109_45, s_109_46, s_109_49, s_109_50, s_109_53, s_109_54, s_109_55, s_109_58, s_109_59, s_109_62, am_bd_s, Option.toList_some, Option.toList_none, List.cons_append, List.nil_append, am_c1_i, am_c1_n, am_c1_r, if_true, if_false, c_Nodes_thirdOf, c_Nodes_kindOf, q4, ↓if_pos, ↓if_neg, if_pos, if_neg]
  · simp (disch := omega) only [s_109_0, s_109_1, s_109_4, s_109_5, s_109_8, s_109_36, s_109_37, s_109_40, s_109_41, s_109_44, s_109_45, s_109_46, s_109_49, s_109_50, s_109_53, s_109_54, s_109_55, s_109_58, s_109_59, s_109_62, am_bd_s, Option.toList_some, Option.toList_none, List.cons_append, List.nil_append, am_c1_i, am_c1_n, am_c1_r, if_true, if_false, c_Nodes_secondOf, c_Nodes_kindOf, ↓if_pos, ↓if_neg, if_pos, if_neg]
