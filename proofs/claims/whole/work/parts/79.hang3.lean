/-! about(): the reference looks what hangs on a DICTIONARY. -/
def am_oz (of : Int) (m : Int → Int) (t : Int) : Int → Int := fun i => if t ≤ i ∧ i < 60 then (if i = of then 1 else 0) else m i
theorem am_oz_s (of : Int) (m : Int → Int) {t : Int} (h : t < 60) : am_oz of (am_up m t (if t = of then 1 else 0)) (t + 1) = am_oz of m t := by
  funext i
  unfold am_oz
  rw [am_up_a]
  by_cases q : t + 1 ≤ i ∧ i < 60
  · rw [if_pos q, if_pos (show t ≤ i ∧ i < 60 by omega)]
  · rw [if_neg q]
    by_cases e : i = t
    · rw [if_pos e, if_pos (show t ≤ i ∧ i < 60 by omega), e]
    · rw [if_neg e, if_neg (show ¬ (t ≤ i ∧ i < 60) by omega)]
theorem l_Mhang1 (cl : am_C) (N : Nat) (of : Int) (I : Nat → Int → Int) (L : Nat → Int → Int64) : ∀ (k : Nat) (t : Int) (m : Int → Int), 0 ≤ t → t + k = 60 → am_go0 cl 166 2 [some (.inr (.inr (some 53))), some (.inl of), some (.inl t), none, none] [] (am_GS N, am_GR, am_sI I 87 m, L) = am_go0 cl 166 32 [some (.inr (.inr (some 53))), some (.inl of), some (.inl 1), none, none] [] (am_GS N, am_GR, am_sI I 87 (am_oz of m t), L) := by
  intro k
  induction k with
  | zero =>
    intro t m h0 h1
    have e : t = 60 := by omega
    have ez : am_oz of m 60 = m := by funext i; exact if_neg (by omega)
    rw [e, ez]
    rw [s_166_2]
    simp (disch := omega) only [s_166_3, s_166_5, s_166_30, s_166_31, am_bd_s, Option.toList_some, Option.toList_none, List.cons_append, List.nil_append, am_c1_i, am_c1_n, am_c1_r, if_true, if_false, ↓if_neg, if_neg, ↓if_pos, if_pos]
  | succ k ih =>
    intro t m h0 h1
    by_cases q : t = of
    · have ih := ih (t + 1) (am_up m t 1) (by omega) (by omega)
      have ez := am_oz_s of m (t := t) (by omega)
      rw [if_pos q] at ez
      rw [ez] at ih
      rw [← ih, s_166_2]
      simp (disch := omega) only [s_166_3, s_166_5, s_166_8, s_166_9, s_166_12, s_166_13, s_166_14, s_166_15, s_166_18, s_166_19, s_166_22, s_166_23, s_166_24, s_166_27, am_bd_s, Option.toList_some, Option.toList_none, List.cons_append, List.nil_append, am_c1_i, am_c1_n, am_c1_r, if_true, if_false, in_87, am_sI_u, am_sI_c, Nat.reduceEqDiff, ↓reduceIte, am_wr_eq, ↓if_pos, ↓if_neg, if_pos, if_neg, and_true, true_or, or_true]
    · have ih := ih (t + 1) (am_up m t 0) (by omega) (by omega)
      have ez := am_oz_s of m (t := t) (by omega)
      rw [if_neg q] at ez
      rw [ez] at ih
      rw [← ih, s_166_2]
      simp (disch := omega) only [s_166_3, s_166_5, s_166_8, s_166_9, s_166_12, s_166_13, s_166_14, s_166_15, s_166_18, s_166_19, s_166_22, s_166_23, s_166_24, s_166_27, am_bd_s, Option.toList_some, Option.toList_none, List.cons_append, List.nil_append, am_c1_i, am_c1_n, am_c1_r, if_true, if_false, in_87, am_sI_u, am_sI_c, Nat.reduceEqDiff, ↓reduceIte, am_wr_eq, ↓if_pos, ↓if_neg, if_pos, if_neg, and_true, true_or, or_true]
/-- what holds while the reference looks -/
def am_hm (of nD : Int) (pm pt : Int → Int) (s0 d k more : Int) (X : Int → Int) : Prop := am_01 nD X ∧ am_mi of nD pm pt X ∧ s0 ≤ am_sm X 0 nD.toNat ∧ ((more = 0 ∧ (∀ y, 0 ≤ y → y < d → X y = 1 → ∀ j, 0 ≤ j → j < pm y → X (pt (y * 6 + j)) = 1) ∧ ∀ j, 0 ≤ j → j < k → X (pt (d * 6 + j)) = 1) ∨ (more = 1 ∧ s0 < am_sm X 0 nD.toNat))
theorem am_up_same {f : Int → Int} {x v : Int} (h : f x = v) : am_up f x v = f := by
  funext y
  rw [am_up_a]
  by_cases e : y = x
  · rw [if_pos e, e, h]
  · rw [if_neg e]
theorem am_hm_have {of nD : Int} {pm pt : Int → Int} {s0 d k more : Int} {X : Int → Int} (h : am_hm of nD pm pt s0 d k more X) (hx : X (pt (d * 6 + k)) = 1) : am_hm of nD pm pt s0 d (k + 1) more X := by
  obtain ⟨a1, a2, a3, a4⟩ := h
  refine ⟨a1, a2, a3, ?_⟩
  rcases a4 with ⟨b1, b2, b3⟩ | b
  · refine Or.inl ⟨b1, b2, fun j j0 j1 => ?_⟩
    by_cases e : j = k
    · rw [e]; exact hx
    · exact b3 j j0 (by omega)
  · exact Or.inr b
theorem am_hm_new {of nD : Int} {pm pt : Int → Int} {s0 d k more : Int} {X : Int → Int} (h : am_hm of nD pm pt s0 d k more X) (d0 : 0 ≤ d) (d1 : d < nD) (hd : X d = 1) (k0 : 0 ≤ k) (k1 : k < pm d) (p0 : 0 ≤ pt (d * 6 + k)) (p1 : pt (d * 6 + k) < nD) (hx : X (pt (d * 6 + k)) = 0) : am_hm of nD pm pt s0 d (k + 1) 1 (am_up X (pt (d * 6 + k)) 1) := by
  obtain ⟨a1, a2, a3, a4⟩ := h
  have s1 := am_sm_up X 0 (pt (d * 6 + k)) 1 p0 nD.toNat (by omega)
  exact ⟨am_01_up a1 _, am_mi_up a2 d0 d1 hd k0 k1, by omega, Or.inr ⟨rfl, by omega⟩⟩
theorem am_hm_next {of nD : Int} {pm pt : Int → Int} {s0 d k more : Int} {X : Int → Int} (h : am_hm of nD pm pt s0 d k more X) (hk : X d = 1 → k = pm d) : am_hm of nD pm pt s0 (d + 1) 0 more X := by
  obtain ⟨a1, a2, a3, a4⟩ := h
  refine ⟨a1, a2, a3, ?_⟩
  rcases a4 with ⟨b1, b2, b3⟩ | b
  · refine Or.inl ⟨b1, fun y y0 y1 hy j j0 j1 => ?_, fun j j0 j1 => by omega⟩
    by_cases e : y = d
    · rw [e] at hy j1 ⊢
      exact b3 j j0 (by have := hk hy; omega)
    · exact b2 y y0 (by omega) hy j j0 j1
  · exact Or.inr b
theorem am_io00 : (Int32.ofInt 0 ||| Int32.ofInt 0).toInt = 0 := by decide
theorem am_io01 : (Int32.ofInt 0 ||| Int32.ofInt 1).toInt = 1 := by decide
theorem am_io10 : (Int32.ofInt 1 ||| Int32.ofInt 0).toInt = 1 := by decide
theorem am_io11 : (Int32.ofInt 1 ||| Int32.ofInt 1).toInt = 1 := by decide
theorem am_mo {of nD : Int} {pm pt : Int → Int} {s0 d k more : Int} {X : Int → Int} (h : am_hm of nD pm pt s0 d k more X) : (Int32.ofInt more ||| Int32.ofInt 0).toInt = more ∧ (Int32.ofInt more ||| Int32.ofInt 1).toInt = 1 := by
  obtain ⟨a1, a2, a3, a4⟩ := h
  rcases a4 with ⟨b1, -⟩ | ⟨b1, -⟩
  · rw [b1]; exact ⟨am_io00, am_io01⟩
  · rw [b1]; exact ⟨am_io10, am_io11⟩
abbrev am_totM (J : Nat → Int → Int) : Int → Int := fun d => J 67 (J 79 d) + J 62 (J 77 d)
theorem l_Mhang3 (e N : Nat) (of d s0 : Int) (J : Nat → Int → Int) (M : Nat → Int → Int64) (h6 : J 53 28 ≤ 60) (hb : am_pb (J 53 28) (J 77) (J 79) (J 67) (J 62) (J 80)) (d0 : 0 ≤ d) (d1 : d < J 53 28) : ∀ (n : Nat) (k more : Int) (X : Int → Int), 0 ≤ k → X d = 1 → am_hm of (J 53 28) (am_totM J) (J 80) s0 d k more X → k + n = am_totM J d → ∃ (more2 : Int) (X2 : Int → Int) (b4 : Option am_V), am_go0 (am_call (e + 1)) 166 51 [some (.inr (.inr (some 53))), some (.inl of), some (.inl more), some (.inl d), some (.inl k)] [] (am_GS N, am_GR, am_sI J 87 X, M) = am_go0 (am_call (e + 1)) 166 40 [some (.inr (.inr (some 53))), some (.inl of), some (.inl more2), some (.inl (d + 1)), b4] [] (am_GS N, am_GR, am_sI J 87 X2, M) ∧ am_hm of (J 53 28) (am_totM J) (J 80) s0 (d + 1) 0 more2 X2 := by
  obtain ⟨b1, b2, b3, b4, b5, b6, b7, b8, b9⟩ := hb d d0 d1
  have ht : am_totM J d = J 67 (J 79 d) + J 62 (J 77 d) := rfl
  intro n
  induction n with
  | zero =>
    intro k more X k0 hX hm hk
    have ep : am_call (e + 1) 160 [.inr (.inr (some 53)), .inl d] (am_GS N, am_GR, am_sI J 87 X, M) = some (some (.inl (am_totM J d)), (am_GS N, am_GR, am_sI J 87 X, M)) := c_Model_partMany e N d (am_sI J 87 X) M d0 (by omega) b1 b2 b3 b4 b5 b6 b7 b8
    refine ⟨more, X, some (.inl k), ?_, am_hm_next hm (fun _ => by omega)⟩
    rw [s_166_51]
    simp (disch := omega) only [s_166_52, s_166_55, s_166_56, s_166_57, s_166_60, s_166_62, s_166_63, s_166_64, s_166_67, s_166_122, s_166_125, am_bd_s, Option.toList_some, Option.toList_none, List.cons_append, List.nil_append, am_c1_i, am_c1_n, am_c1_r, if_true, if_false, in_87, am_sI_c, Nat.reduceEqDiff, ↓reduceIte, am_wr_eq, ↓if_pos, ↓if_neg, if_pos, if_neg, ep, hX]
  | succ n ih =>
    intro k more X k0 hX hm hk
    have ep : am_call (e + 1) 160 [.inr (.inr (some 53)), .inl d] (am_GS N, am_GR, am_sI J 87 X, M) = some (some (.inl (am_totM J d)), (am_GS N, am_GR, am_sI J 87 X, M)) := c_Model_partMany e N d (am_sI J 87 X) M d0 (by omega) b1 b2 b3 b4 b5 b6 b7 b8
    obtain ⟨p0, p1⟩ := b9 k k0 (by omega)
    have e6 : 6 * d + k = d * 6 + k := by omega
    obtain ⟨m0, m1⟩ := am_mo hm
    rcases hm.1 (J 80 (d * 6 + k)) p0 p1 with hx | hx
    · obtain ⟨more2, X2, c4, e1, e2⟩ := ih (k + 1) 1 (am_up X (J 80 (d * 6 + k)) 1) (by omega) (am_up1 hX) (am_hm_new hm d0 d1 hX k0 (by omega) p0 p1 hx) (by omega)
      refine ⟨more2, X2, c4, ?_, e2⟩
      rw [← e1, s_166_51]
      simp (disch := omega) only [s_166_0, s_166_1, s_166_3, s_166_5, s_166_8, s_166_9, s_166_12, s_166_13, s_166_14, s_166_15, s_166_18, s_166_19, s_166_22, s_166_23, s_166_24, s_166_27, s_166_30, s_166_31, s_166_33, s_166_36, s_166_37, s_166_38, s_166_39, s_166_41, s_166_42, s_166_45, s_166_48, s_166_49, s_166_52, s_166_55, s_166_56, s_166_57, s_166_60, s_166_62, s_166_63, s_166_64, s_166_67, s_166_70, s_166_71, s_166_72, s_166_75, s_166_76, s_166_79, s_166_81, s_166_82, s_166_83, s_166_85, s_166_86, s_166_87, s_166_88, s_166_91, s_166_92, s_166_95, s_166_96, s_166_97, s_166_98, s_166_99, s_166_102, s_166_103, s_166_106, s_166_108, s_166_109, s_166_110, s_166_112, s_166_113, s_166_114, s_166_115, s_166_116, s_166_119, s_166_122, s_166_125, s_166_128, s_166_131, s_166_132, s_166_133, s_166_134, s_166_138, s_166_139, s_166_142, s_166_145, s_166_146, s_166_147, s_166_150, s_166_152, s_166_153, s_166_156, s_166_157, s_166_160, s_166_161, s_166_162, s_166_163, s_166_166, s_166_169, s_166_170, am_bd_s, Option.toList_some, Option.toList_none, List.cons_append, List.nil_append, am_c1_i, am_c1_n, am_c1_r, if_true, if_false, in_87, in_80, am_sI_c, am_sI_u, Nat.reduceEqDiff, ↓reduceIte, am_wr_eq, ↓if_pos, ↓if_neg, if_pos, if_neg, and_true, or_true, ep, hX, e6, hx, m1]
    · obtain ⟨more2, X2, c4, e1, e2⟩ := ih (k + 1) more X (by omega) hX (am_hm_have hm hx) (by omega)
      refine ⟨more2, X2, c4, ?_, e2⟩
      have es : am_up X (J 80 (d * 6 + k)) 1 = X := am_up_same hx
      rw [← e1, s_166_51]
      simp (disch := omega) only [s_166_0, s_166_1, s_166_3, s_166_5, s_166_8, s_166_9, s_166_12, s_166_13, s_166_14, s_166_15, s_166_18, s_166_19, s_166_22, s_166_23, s_166_24, s_166_27, s_166_30, s_166_31, s_166_33, s_166_36, s_166_37, s_166_38, s_166_39, s_166_41, s_166_42, s_166_45, s_166_48, s_166_49, s_166_52, s_166_55, s_166_56, s_166_57, s_166_60, s_166_62, s_166_63, s_166_64, s_166_67, s_166_70, s_166_71, s_166_72, s_166_75, s_166_76, s_166_79, s_166_81, s_166_82, s_166_83, s_166_85, s_166_86, s_166_87, s_166_88, s_166_91, s_166_92, s_166_95, s_166_96, s_166_97, s_166_98, s_166_99, s_166_102, s_166_103, s_166_106, s_166_108, s_166_109, s_166_110, s_166_112, s_166_113, s_166_114, s_166_115, s_166_116, s_166_119, s_166_122, s_166_125, s_166_128, s_166_131, s_166_132, s_166_133, s_166_134, s_166_138, s_166_139, s_166_142, s_166_145, s_166_146, s_166_147, s_166_150, s_166_152, s_166_153, s_166_156, s_166_157, s_166_160, s_166_161, s_166_162, s_166_163, s_166_166, s_166_169, s_166_170, am_bd_s, Option.toList_some, Option.toList_none, List.cons_append, List.nil_append, am_c1_i, am_c1_n, am_c1_r, if_true, if_false, in_87, in_80, am_sI_c, am_sI_u, Nat.reduceEqDiff, ↓reduceIte, am_wr_eq, ↓if_pos, ↓if_neg, if_pos, if_neg, and_true, or_true, ep, hX, e6, hx, m0, es]
theorem l_Mhang2 (e N : Nat) (of s0 : Int) (J : Nat → Int → Int) (M : Nat → Int → Int64) (h6 : J 53 28 ≤ 60) (hb : am_pb (J 53 28) (J 77) (J 79) (J 67) (J 62) (J 80)) : ∀ (n : Nat) (d more : Int) (X : Int → Int) (a4 : Option am_V), 0 ≤ d → am_hm of (J 53 28) (am_totM J) (J 80) s0 d 0 more X → d + n = J 53 28 → ∃ (more2 : Int) (X2 : Int → Int) (b4 : Option am_V), am_go0 (am_call (e + 1)) 166 40 [some (.inr (.inr (some 53))), some (.inl of), some (.inl more), some (.inl d), a4] [] (am_GS N, am_GR, am_sI J 87 X, M) = am_go0 (am_call (e + 1)) 166 32 [some (.inr (.inr (some 53))), some (.inl of), some (.inl more2), some (.inl (J 53 28)), b4] [] (am_GS N, am_GR, am_sI J 87 X2, M) ∧ am_hm of (J 53 28) (am_totM J) (J 80) s0 (J 53 28) 0 more2 X2 := by
  intro n
  induction n with
  | zero =>
    intro d more X a4 d0 hm hd
    have ed : d = J 53 28 := by omega
    refine ⟨more, X, a4, ?_, ed ▸ hm⟩
    rw [s_166_40]
    simp (disch := omega) only [s_166_41, s_166_42, s_166_45, s_166_128, am_bd_s, Option.toList_some, Option.toList_none, List.cons_append, List.nil_append, am_c1_i, am_c1_n, am_c1_r, if_true, if_false, am_sI_c, Nat.reduceEqDiff, ↓reduceIte, ↓if_pos, ↓if_neg, if_pos, if_neg, ed]
  | succ n ih =>
    intro d more X a4 d0 hm hd
    have ht : am_totM J d = J 67 (J 79 d) + J 62 (J 77 d) := rfl
    obtain ⟨b1, b2, b3, b4, b5, b6, b7, b8, b9⟩ := hb d d0 (by omega)
    rcases hm.1 d d0 (by omega) with hx | hx
    · obtain ⟨more2, X2, c4, e1, e2⟩ := ih (d + 1) more X (some (.inl 0)) (by omega) (am_hm_next hm (fun z => by omega)) (by omega)
      refine ⟨more2, X2, c4, ?_, e2⟩
      rw [← e1, s_166_40]
      simp (disch := omega) only [s_166_41, s_166_42, s_166_45, s_166_48, s_166_49, s_166_51, s_166_52, s_166_55, s_166_56, s_166_57, s_166_122, s_166_125, am_bd_s, Option.toList_some, Option.toList_none, List.cons_append, List.nil_append, am_c1_i, am_c1_n, am_c1_r, if_true, if_false, in_87, am_sI_c, Nat.reduceEqDiff, ↓reduceIte, ↓if_pos, ↓if_neg, if_pos, if_neg, am_wr_eq, hx]
    · obtain ⟨more1, X1, c4, e1, e2⟩ := l_Mhang3 e N of d s0 J M h6 hb d0 (by omega) (am_totM J d).toNat 0 more X (Int.le_refl _) hx hm (by omega)
      obtain ⟨more2, X2, c5, f1, f2⟩ := ih (d + 1) more1 X1 c4 (by omega) e2 (by omega)
      refine ⟨more2, X2, c5, ?_, f2⟩
      rw [← f1, ← e1, s_166_40]
      simp (disch := omega) only [s_166_41, s_166_42, s_166_45, s_166_48, s_166_49, am_bd_s, Option.toList_some, Option.toList_none, List.cons_append, List.nil_append, am_c1_i, am_c1_n, am_c1_r, if_true, if_false, am_sI_c, Nat.reduceEqDiff, ↓reduceIte, ↓if_pos, ↓if_neg, if_pos, if_neg, am_wr_eq]
theorem l_Mhang (e N : Nat) (of : Int) (J : Nat → Int → Int) (M : Nat → Int → Int64) (h0 : 0 ≤ J 53 28) (h6 : J 53 28 ≤ 60) (hb : am_pb (J 53 28) (J 77) (J 79) (J 67) (J 62) (J 80)) : ∀ (n : Nat) (X : Int → Int) (a3 a4 : Option am_V), am_01 (J 53 28) X → am_mi of (J 53 28) (am_totM J) (J 80) X → J 53 28 - am_sm X 0 (J 53 28).toNat < n → ∃ (X2 : Int → Int) (b3 b4 : Option am_V), am_go0 (am_call (e + 1)) 166 32 [some (.inr (.inr (some 53))), some (.inl of), some (.inl 1), a3, a4] [] (am_GS N, am_GR, am_sI J 87 X, M) = am_go0 (am_call (e + 1)) 166 131 [some (.inr (.inr (some 53))), some (.inl of), some (.inl 0), b3, b4] [] (am_GS N, am_GR, am_sI J 87 X2, M) ∧ am_01 (J 53 28) X2 ∧ am_clo (J 53 28) (am_totM J) (J 80) X2 ∧ am_mi of (J 53 28) (am_totM J) (J 80) X2 := by
  intro n
  induction n with
  | zero =>
    intro X a3 a4 h1 h2 hn
    have s := am_sm_b1 X 0 (J 53 28).toNat (fun i i0 i1 => by have := h1 i i0 (by omega); omega)
    omega
  | succ n ih =>
    intro X a3 a4 h1 h2 hn
    obtain ⟨more2, X2, c4, e1, e2⟩ := l_Mhang2 e N of (am_sm X 0 (J 53 28).toNat) J M h6 hb (J 53 28).toNat 0 0 X a4 (Int.le_refl _) ⟨h1, h2, Int.le_refl _, Or.inl ⟨rfl, fun y y0 y1 => by omega, fun j j0 j1 => by omega⟩⟩ (by omega)
    obtain ⟨f1, f2, f3, f4⟩ := e2
    rcases f4 with ⟨g1, g2, g3⟩ | ⟨g1, g2⟩
    · refine ⟨X2, some (.inl (J 53 28)), c4, ?_, f1, g2, f2⟩
      rw [s_166_32]
      simp (disch := omega) only [s_166_33, s_166_36, s_166_37, s_166_38, s_166_39, am_bd_s, Option.toList_some, Option.toList_none, List.cons_append, List.nil_append, am_c1_i, am_c1_n, am_c1_r, if_true, if_false, ↓if_pos, ↓if_neg, if_pos, if_neg]
      rw [e1, g1, s_166_32]
      simp (disch := omega) only [s_166_33, am_bd_s, Option.toList_some, Option.toList_none, List.cons_append, List.nil_append, am_c1_i, am_c1_n, am_c1_r, if_true, if_false, ↓if_pos, ↓if_neg, if_pos, if_neg]
    · obtain ⟨X3, c5, c6, k1, k2⟩ := ih X2 (some (.inl (J 53 28))) c4 f1 f2 (by omega)
      refine ⟨X3, c5, c6, ?_, k2⟩
      rw [← k1, s_166_32]
      simp (disch := omega) only [s_166_33, s_166_36, s_166_37, s_166_38, s_166_39, am_bd_s, Option.toList_some, Option.toList_none, List.cons_append, List.nil_append, am_c1_i, am_c1_n, am_c1_r, if_true, if_false, ↓if_pos, ↓if_neg, if_pos, if_neg]
      rw [e1, g1]
theorem l_Mhang4 (cl : am_C) (N : Nat) (of a : Int) (J : Nat → Int → Int) (M : Nat → Int → Int64) (X : Int → Int) (h6 : J 53 28 ≤ 60) (h1 : am_01 (J 53 28) X) : ∀ (n : Nat) (t c : Int), 0 ≤ t → 0 ≤ c → c ≤ t → t + n = J 53 28 → am_go0 cl 166 136 [some (.inr (.inr (some 53))), some (.inl of), some (.inl a), some (.inl c), some (.inl t)] [] (am_GS N, am_GR, am_sI J 87 X, M) = some (some (.inl (c + am_sm X t n)), (am_GS N, am_GR, am_sI J 87 X, M)) := by
  intro n
  induction n with
  | zero =>
    intro t c t0 c0 ct hn
    have e : t = J 53 28 := by omega
    have e2 : c + am_sm X (J 53 28) 0 = c := by unfold am_sm; omega
    rw [e, e2, s_166_136]
    simp (disch := omega) only [s_166_138, s_166_139, s_166_142, s_166_169, s_166_170, am_bd_s, Option.toList_some, Option.toList_none, List.cons_append, List.nil_append, am_c1_i, am_c1_n, am_c1_r, if_true, if_false, am_sI_c, Nat.reduceEqDiff, ↓reduceIte, ↓if_pos, ↓if_neg, if_pos, if_neg]
  | succ n ih =>
    intro t c t0 c0 ct hn
    rw [am_sm_l]
    rcases h1 t t0 (by omega) with hx | hx
    · have ih := ih (t + 1) (c + 0) (by omega) (by omega) (by omega) (by omega)
      rw [hx, show c + (0 + am_sm X (t + 1) n) = c + 0 + am_sm X (t + 1) n by omega, ← ih, s_166_136]
      simp (disch := omega) only [s_166_138, s_166_139, s_166_142, s_166_145, s_166_146, s_166_147, s_166_150, s_166_152, s_166_153, s_166_156, s_166_157, s_166_160, s_166_161, s_166_162, s_166_163, s_166_166, am_bd_s, Option.toList_some, Option.toList_none, List.cons_append, List.nil_append, am_c1_i, am_c1_n, am_c1_r, if_true, if_false, in_87, am_sI_c, Nat.reduceEqDiff, ↓reduceIte, ↓if_pos, ↓if_neg, if_pos, if_neg, am_wr_eq, hx]
    · have ih := ih (t + 1) (c + 1) (by omega) (by omega) (by omega) (by omega)
      rw [hx, show c + (1 + am_sm X (t + 1) n) = c + 1 + am_sm X (t + 1) n by omega, ← ih, s_166_136]
      simp (disch := omega) only [s_166_138, s_166_139, s_166_142, s_166_145, s_166_146, s_166_147, s_166_150, s_166_152, s_166_153, s_166_156, s_166_157, s_166_160, s_166_161, s_166_162, s_166_163, s_166_166, am_bd_s, Option.toList_some, Option.toList_none, List.cons_append, List.nil_append, am_c1_i, am_c1_n, am_c1_r, if_true, if_false, in_87, am_sI_c, Nat.reduceEqDiff, ↓reduceIte, ↓if_pos, ↓if_neg, if_pos, if_neg, am_wr_eq, hx]
theorem c_hanging (e N : Nat) (of : Int) (J : Nat → Int → Int) (M : Nat → Int → Int64) (o0 : 0 ≤ of) (o1 : of < J 53 28) (h6 : J 53 28 ≤ 60) (hb : am_pb (J 53 28) (J 77) (J 79) (J 67) (J 62) (J 80)) : ∃ X : Int → Int, am_call (e + 2) 166 [.inr (.inr (some 53)), .inl of] (am_GS N, am_GR, J, M) = some (some (.inl (am_sm X 0 (J 53 28).toNat)), (am_GS N, am_GR, am_sI J 87 X, M)) ∧ am_01 (J 53 28) X ∧ am_clo (J 53 28) (am_totM J) (J 80) X ∧ am_mi of (J 53 28) (am_totM J) (J 80) X := by
  have e1 := l_Mhang1 (am_call (e + 1)) N of J M 60 0 (J 87) (Int.le_refl _) (by omega)
  have z : ∀ x, 0 ≤ x → x < J 53 28 → am_oz of (J 87) 0 x = if x = of then 1 else 0 := fun x x0 x1 => if_pos ⟨x0, by omega⟩
  obtain ⟨X2, b3, b4, f1, f2, f3, f4⟩ := l_Mhang e N of J M (by omega) h6 hb (J 53 28 + 1).toNat (am_oz of (J 87) 0) none none (fun x x0 x1 => by
    rw [z x x0 x1]
    by_cases q : x = of
    · rw [if_pos q]; exact Or.inr rfl
    · rw [if_neg q]; exact Or.inl rfl) ⟨by rw [z of o0 o1, if_pos rfl], fun C hC _ x x0 x1 hx => by
    rw [z x x0 x1] at hx
    by_cases q : x = of
    · rw [q]; exact hC
    · rw [if_neg q] at hx; omega⟩ (by
    have s := am_sm_b0 (am_oz of (J 87) 0) 0 (J 53 28).toNat (fun i i0 i1 => by
      rw [z i i0 (by omega)]
      by_cases q : i = of
      · rw [if_pos q]; omega
      · rw [if_neg q]; omega)
    omega)
  have e4 := l_Mhang4 (am_call (e + 1)) N of 0 J M X2 h6 f2 (J 53 28).toNat 0 0 (Int.le_refl _) (Int.le_refl _) (Int.le_refl _) (by omega)
  rw [show (0 : Int) + am_sm X2 0 (J 53 28).toNat = am_sm X2 0 (J 53 28).toNat by omega] at e4
  refine ⟨X2, ?_, f2, f3, f4⟩
  rw [e_166]
  rw [am_sI_self] at e1
  simp (disch := omega) only [s_166_0, s_166_1, am_bd_s, Option.toList_some, Option.toList_none, List.cons_append, List.nil_append, am_c1_i, am_c1_n, am_c1_r, if_true, if_false]
  rw [e1, f1]
  simp (disch := omega) only [s_166_131, s_166_132, s_166_133, s_166_134, am_bd_s, Option.toList_some, Option.toList_none, List.cons_append, List.nil_append, am_c1_i, am_c1_n, am_c1_r, if_true, if_false]
  exact e4
