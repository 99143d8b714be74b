/-! about(): the class looks what hangs on a DICTIONARY. -/
theorem am_sI_sI (I : Nat → Int → Int) (k : Nat) (f g : Int → Int) : am_sI (am_sI I k f) k g = am_sI I k g := by
  funext x
  rw [am_sI_c, am_sI_c, am_sI_c]
  by_cases e : x = k
  · rw [if_pos e, if_pos e]
  · rw [if_neg e, if_neg e, if_neg e]
theorem am_sI_40 (I : Nat → Int → Int) (f : Int → Int) (j v : Int) : am_uI (am_sI I 40 f) 39 j v = am_sI (am_sI I 39 (am_up (I 39) j v)) 40 f := by
  funext x
  rw [am_uI_c, am_sI_c, am_sI_c, am_sI_c, am_sI_c]
  by_cases e : x = 39
  · rw [if_pos e, if_neg (show x ≠ 40 by omega), if_pos e]
    rfl
  · rw [if_neg e, if_neg e]
def am_pb (nD : Int) (dc di ix su pt : Int → Int) : Prop := ∀ w, 0 ≤ w → w < nD → 0 ≤ di w ∧ di w < 20 ∧ 0 ≤ dc w ∧ dc w < 8 ∧ 0 ≤ ix (di w) ∧ ix (di w) ≤ 3 ∧ 0 ≤ su (dc w) ∧ su (dc w) ≤ 3 ∧ ∀ j, 0 ≤ j → j < ix (di w) + su (dc w) → 0 ≤ pt (w * 6 + j) ∧ pt (w * 6 + j) < nD
theorem l_hang1 (cl : am_C) (N : Nat) (of : Int) (I : Nat → Int → Int) (L : Nat → Int → Int64) (h : I 33 9 ≤ 60) : ∀ (k : Nat) (t : Int) (m : Int → Int), 0 ≤ t → t + k = I 33 9 → am_go0 cl 26 2 [some (.inr (.inr (some 33))), some (.inl of), some (.inl t), none, none, none] [] (am_GS N, am_GR, am_sI I 40 m, L) = am_go0 cl 26 23 [some (.inr (.inr (some 33))), some (.inl of), some (.inl (I 33 9)), none, none, none] [] (am_GS N, am_GR, am_sI I 40 (am_zr m t (I 33 9)), L) := by
  intro k
  induction k with
  | zero =>
    intro t m h0 h1
    have e : t = I 33 9 := by omega
    rw [e, am_zr_e]
    rw [s_26_2]
    simp (disch := omega) only [s_26_3, s_26_4, s_26_7, am_bd_s, Option.toList_some, Option.toList_none, List.cons_append, List.nil_append, am_c1_i, am_c1_n, am_c1_r, if_true, if_false, am_sI_c, Nat.reduceEqDiff, ↓reduceIte, ↓if_neg, if_neg]
  | succ k ih =>
    intro t m h0 h1
    have ih := ih (t + 1) (am_up m t 0) (by omega) (by omega)
    rw [am_zr_s m (by omega)] at ih
    rw [s_26_2]
    simp (disch := omega) only [s_26_3, s_26_4, s_26_7, s_26_10, s_26_11, s_26_14, s_26_15, s_26_16, s_26_17, s_26_20, am_bd_s, Option.toList_some, Option.toList_none, List.cons_append, List.nil_append, am_c1_i, am_c1_n, am_c1_r, if_true, if_false, in_40, am_sI_u, am_sI_40, am_sI_sI, am_sI_c, Nat.reduceEqDiff, ↓reduceIte, am_wr_eq, ↓if_pos, ↓if_neg, if_pos, if_neg, and_true, true_or]
    exact ih
theorem l_hang3 (d N : Nat) (of i : Int) (I : Nat → Int → Int) (L : Nat → Int → Int64) (h6 : I 33 9 ≤ 60) (hb : am_pb (I 33 9) (I 34) (I 36) (I 18) (I 12) (I 38)) : ∀ (n : Nat) (k fo : Int) (rr sn : Int → Int) (a5 : Option am_V), 0 ≤ k → am_hg of (I 33 9) (am_tot I) (I 38) i k fo rr sn → i < fo → fo ≤ 60 → k + n = am_tot I (rr i) → ∃ (fo2 : Int) (rr2 sn2 : Int → Int) (b4 b5 : Option am_V), am_go0 (am_call (d + 2)) 26 58 [some (.inr (.inr (some 33))), some (.inl of), some (.inl fo), some (.inl i), some (.inl k), a5] [] (am_GS N, am_GR, am_sI (am_sI I 39 rr) 40 sn, L) = am_go0 (am_call (d + 2)) 26 44 [some (.inr (.inr (some 33))), some (.inl of), some (.inl fo2), some (.inl (i + 1)), b4, b5] [] (am_GS N, am_GR, am_sI (am_sI I 39 rr2) 40 sn2, L) ∧ am_hg of (I 33 9) (am_tot I) (I 38) (i + 1) 0 fo2 rr2 sn2 ∧ fo2 ≤ 60 := by
  intro n
  induction n with
  | zero =>
    intro k fo rr sn a5 k0 hg hi hf hk
    have hga := hg
    obtain ⟨g1, g2, g3, g4, g5, -⟩ := hga
    obtain ⟨w0, w1, -⟩ := g5 i g1 hi
    obtain ⟨b1, b2, b3, b4, b5, b6, b7, b8, b9⟩ := hb (rr i) w0 w1
    have ep : am_call (d + 2) 16 [.inr (.inr (some 33)), .inl (rr i)] (am_GS N, am_GR, am_sI (am_sI I 39 rr) 40 sn, L) = some (some (.inl (am_tot I (rr i))), (am_GS N, am_GR, am_sI (am_sI I 39 rr) 40 sn, L)) := c_Dictionaries_partsOf d N (rr i) (am_sI (am_sI I 39 rr) 40 sn) L w0 (by omega) b1 b2 b3 b4 b5 b6 b7 b8
    refine ⟨fo, rr, sn, some (.inl k), a5, ?_, am_hg_next hg hi (by omega), hf⟩
    rw [s_26_58]
    simp (disch := omega) only [s_26_60, s_26_61, s_26_62, s_26_65, s_26_66, s_26_67, s_26_70, s_26_122, s_26_125, am_bd_s, Option.toList_some, Option.toList_none, List.cons_append, List.nil_append, am_c1_i, am_c1_n, am_c1_r, if_true, if_false, in_39, am_sI_c, Nat.reduceEqDiff, ↓reduceIte, am_wr_eq, ↓if_pos, ↓if_neg, if_pos, if_neg, ep]
  | succ n ih =>
    intro k fo rr sn a5 k0 hg hi hf hk
    have hga := hg
    obtain ⟨g1, g2, g3, g4, g5, -⟩ := hga
    obtain ⟨w0, w1, -⟩ := g5 i g1 hi
    obtain ⟨b1, b2, b3, b4, b5, b6, b7, b8, b9⟩ := hb (rr i) w0 w1
    have ht : am_tot I (rr i) = I 18 (I 36 (rr i)) + I 12 (I 34 (rr i)) := rfl
    have ep : am_call (d + 2) 16 [.inr (.inr (some 33)), .inl (rr i)] (am_GS N, am_GR, am_sI (am_sI I 39 rr) 40 sn, L) = some (some (.inl (am_tot I (rr i))), (am_GS N, am_GR, am_sI (am_sI I 39 rr) 40 sn, L)) := c_Dictionaries_partsOf d N (rr i) (am_sI (am_sI I 39 rr) 40 sn) L w0 (by omega) b1 b2 b3 b4 b5 b6 b7 b8
    have eq : am_call (d + 2) 22 [.inr (.inr (some 33)), .inl (rr i), .inl k] (am_GS N, am_GR, am_sI (am_sI I 39 rr) 40 sn, L) = some (some (.inl (I 38 (rr i * 6 + k))), (am_GS N, am_GR, am_sI (am_sI I 39 rr) 40 sn, L)) := c_Dictionaries_partAt (d + 1) N (rr i) k (am_sI (am_sI I 39 rr) 40 sn) L w0 (by omega) k0 (by omega)
    obtain ⟨p0, p1⟩ := b9 k k0 (by omega)
    rcases g3 (I 38 (rr i * 6 + k)) p0 p1 with hx | hx
    · obtain ⟨hlt, hg2⟩ := am_hg_new hg hi k0 (by omega) p0 p1 hx
      obtain ⟨fo2, rr2, sn2, c4, c5, e1, e2, e3⟩ := ih (k + 1) (fo + 1) (am_up rr fo (I 38 (rr i * 6 + k))) (am_up sn (I 38 (rr i * 6 + k)) 1) (some (.inl (I 38 (rr i * 6 + k)))) (by omega) hg2 (by omega) (by omega) (by rw [am_up_n _ _ (show i ≠ fo by omega)]; omega)
      refine ⟨fo2, rr2, sn2, c4, c5, ?_, e2, e3⟩
      rw [← e1, s_26_58]
      simp (disch := omega) only [s_26_60, s_26_61, s_26_62, s_26_65, s_26_66, s_26_67, s_26_70, s_26_73, s_26_74, s_26_75, s_26_78, s_26_79, s_26_80, s_26_82, s_26_85, s_26_87, s_26_88, s_26_91, s_26_93, s_26_94, s_26_97, s_26_98, s_26_101, s_26_103, s_26_104, s_26_105, s_26_106, s_26_109, s_26_110, s_26_113, s_26_115, s_26_116, s_26_119, am_bd_s, Option.toList_some, Option.toList_none, List.cons_append, List.nil_append, am_c1_i, am_c1_n, am_c1_r, if_true, if_false, in_39, in_40, am_sI_c, am_sI_u, am_sI_40, am_sI_sI, Nat.reduceEqDiff, ↓reduceIte, am_wr_eq, ↓if_pos, ↓if_neg, if_pos, if_neg, and_true, or_true, ep, eq, hx]
    · obtain ⟨fo2, rr2, sn2, c4, c5, e1, e2, e3⟩ := ih (k + 1) fo rr sn (some (.inl (I 38 (rr i * 6 + k)))) (by omega) (am_hg_have hg hx) hi hf (by omega)
      refine ⟨fo2, rr2, sn2, c4, c5, ?_, e2, e3⟩
      rw [← e1, s_26_58]
      simp (disch := omega) only [s_26_60, s_26_61, s_26_62, s_26_65, s_26_66, s_26_67, s_26_70, s_26_73, s_26_74, s_26_75, s_26_78, s_26_79, s_26_80, s_26_82, s_26_85, s_26_87, s_26_88, s_26_91, s_26_93, s_26_94, s_26_116, s_26_119, am_bd_s, Option.toList_some, Option.toList_none, List.cons_append, List.nil_append, am_c1_i, am_c1_n, am_c1_r, if_true, if_false, in_39, in_40, am_sI_c, am_sI_u, am_sI_40, am_sI_sI, Nat.reduceEqDiff, ↓reduceIte, am_wr_eq, ↓if_pos, ↓if_neg, if_pos, if_neg, ep, eq, hx]
theorem l_hang2 (d N : Nat) (of : Int) (I : Nat → Int → Int) (L : Nat → Int → Int64) (h6 : I 33 9 ≤ 60) (hb : am_pb (I 33 9) (I 34) (I 36) (I 18) (I 12) (I 38)) : ∀ (n : Nat) (i fo : Int) (rr sn : Int → Int) (a4 a5 : Option am_V), am_hg of (I 33 9) (am_tot I) (I 38) i 0 fo rr sn → fo ≤ 60 → i + n = 60 → ∃ (fo2 : Int) (rr2 sn2 : Int → Int), am_go0 (am_call (d + 2)) 26 44 [some (.inr (.inr (some 33))), some (.inl of), some (.inl fo), some (.inl i), a4, a5] [] (am_GS N, am_GR, am_sI (am_sI I 39 rr) 40 sn, L) = some (some (.inl fo2), (am_GS N, am_GR, am_sI (am_sI I 39 rr2) 40 sn2, L)) ∧ am_hg of (I 33 9) (am_tot I) (I 38) fo2 0 fo2 rr2 sn2 := by
  intro n
  induction n with
  | zero =>
    intro i fo rr sn a4 a5 hg hf hi
    have g2 := hg.2.1
    have e : i = fo := by omega
    refine ⟨fo, rr, sn, ?_, e ▸ hg⟩
    rw [s_26_44]
    simp (disch := omega) only [s_26_45, s_26_46, s_26_49, s_26_50, s_26_52, s_26_128, s_26_129, am_bd_s, Option.toList_some, Option.toList_none, List.cons_append, List.nil_append, am_c1_i, am_c1_n, am_c1_r, if_true, if_false, ↓if_pos, ↓if_neg, if_pos, if_neg]
  | succ n ih =>
    intro i fo rr sn a4 a5 hg hf hi
    have hga := hg
    obtain ⟨g1, g2, g3, g4, g5, -⟩ := hga
    by_cases q : i < fo
    · obtain ⟨w0, w1, -⟩ := g5 i g1 q
      obtain ⟨b1, b2, b3, b4, b5, b6, b7, b8, b9⟩ := hb (rr i) w0 w1
      have ht : am_tot I (rr i) = I 18 (I 36 (rr i)) + I 12 (I 34 (rr i)) := rfl
      obtain ⟨fo2, rr2, sn2, c4, c5, e1, e2, e3⟩ := l_hang3 d N of i I L h6 hb (am_tot I (rr i)).toNat 0 fo rr sn a5 (Int.le_refl _) hg q hf (by omega)
      obtain ⟨fo3, rr3, sn3, f1, f2⟩ := ih (i + 1) fo2 rr2 sn2 c4 c5 e2 e3 (by omega)
      refine ⟨fo3, rr3, sn3, ?_, f2⟩
      rw [← f1, ← e1, s_26_44]
      simp (disch := omega) only [s_26_45, s_26_46, s_26_49, s_26_50, s_26_52, s_26_55, s_26_56, am_bd_s, Option.toList_some, Option.toList_none, List.cons_append, List.nil_append, am_c1_i, am_c1_n, am_c1_r, if_true, if_false, ↓if_pos, ↓if_neg, if_pos, if_neg]
    · have e : i = fo := by omega
      refine ⟨fo, rr, sn, ?_, e ▸ hg⟩
      rw [s_26_44]
      simp (disch := omega) only [s_26_45, s_26_46, s_26_49, s_26_50, s_26_52, s_26_128, s_26_129, am_bd_s, Option.toList_some, Option.toList_none, List.cons_append, List.nil_append, am_c1_i, am_c1_n, am_c1_r, if_true, if_false, ↓if_pos, ↓if_neg, if_pos, if_neg]
theorem c_hangingOn (d N : Nat) (of : Int) (I : Nat → Int → Int) (L : Nat → Int → Int64) (o0 : 0 ≤ of) (o1 : of < I 33 9) (h6 : I 33 9 ≤ 60) (hb : am_pb (I 33 9) (I 34) (I 36) (I 18) (I 12) (I 38)) : ∃ (rr sn : Int → Int), am_call (d + 3) 26 [.inr (.inr (some 33)), .inl of] (am_GS N, am_GR, I, L) = some (some (.inl (am_sm sn 0 (I 33 9).toNat)), (am_GS N, am_GR, am_sI (am_sI I 39 rr) 40 sn, L)) ∧ am_01 (I 33 9) sn ∧ am_clo (I 33 9) (am_tot I) (I 38) sn ∧ am_mi of (I 33 9) (am_tot I) (I 38) sn := by
  have e1 := l_hang1 (am_call (d + 2)) N of I L h6 (I 33 9).toNat 0 (I 40) (Int.le_refl _) (by omega)
  obtain ⟨fo2, rr2, sn2, f1, f2⟩ := l_hang2 d N of I L h6 hb 60 0 1 (am_up (I 39) 0 of) (am_up (am_zr (I 40) 0 (I 33 9)) of 1) none none (am_hg_start o0 o1) (by omega) (by omega)
  obtain ⟨z1, z2, z3, z4⟩ := am_hg_end f2
  refine ⟨rr2, sn2, ?_, z1, z3, z4⟩
  rw [z2, ← f1, e_26]
  rw [am_sI_self] at e1
  simp (disch := omega) only [s_26_0, s_26_1, am_bd_s, Option.toList_some, Option.toList_none, List.cons_append, List.nil_append, am_c1_i, am_c1_n, am_c1_r, if_true, if_false]
  rw [e1]
  simp (disch := omega) only [s_26_23, s_26_24, s_26_25, s_26_26, s_26_29, s_26_30, s_26_33, s_26_34, s_26_35, s_26_36, s_26_39, s_26_40, s_26_41, s_26_42, s_26_43, am_bd_s, Option.toList_some, Option.toList_none, List.cons_append, List.nil_append, am_c1_i, am_c1_n, am_c1_r, if_true, if_false, in_39, in_40, am_sI_c, am_sI_u, am_sI_40, am_sI_sI, Nat.reduceEqDiff, ↓reduceIte, am_wr_eq, ↓if_pos, ↓if_neg, if_pos, if_neg, and_true, or_true]
  rfl
