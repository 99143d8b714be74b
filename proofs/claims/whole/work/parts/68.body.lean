/-! FITS of the reference; body(). -/
def am_qm (m : Int → Int) (node t : Int) : Int → Int := fun i => if t ≤ i ∧ i < 80 then (if i = node then 1 else 0) else m i
theorem am_qm_e (m : Int → Int) (node : Int) : am_qm m node 80 = m := by
  funext i
  exact if_neg (by omega)
theorem am_qm_s (m : Int → Int) (node : Int) {t x : Int} (h : t < 80) (hx : x = if t = node then 1 else 0) : am_qm (am_up m t x) node (t + 1) = am_qm m node t := by
  funext i
  unfold am_qm
  rw [am_up_a]
  by_cases q : t + 1 ≤ i ∧ i < 80
  · rw [if_pos q, if_pos (show t ≤ i ∧ i < 80 by omega)]
  · rw [if_neg q]
    by_cases e : i = t
    · rw [if_pos e, if_pos (show t ≤ i ∧ i < 80 by omega), hx, e]
    · rw [if_neg e, if_neg (show ¬ (t ≤ i ∧ i < 80) by omega)]
theorem l_mfits1 (cl : am_C) (N : Nat) (node c ins : Int) (I : Nat → Int → Int) (L : Nat → Int → Int64) : ∀ (k : Nat) (t : Int) (m : Int → Int), 0 ≤ t → t + k = 80 → am_go0 cl 153 3 [some (.inr (.inr (some 53))), some (.inl node), some (.inl c), some (.inl ins), some (.inl t), none] [] (am_GS N, am_GR, am_sI I 76 m, L) = am_go0 cl 153 34 [some (.inr (.inr (some 53))), some (.inl node), some (.inl c), some (.inl ins), some (.inl 80), none] [] (am_GS N, am_GR, am_sI I 76 (am_qm m node t), L) := by
  intro k
  induction k with
  | zero =>
    intro t m h0 h1
    have e : t = 80 := by omega
    rw [e, am_qm_e]
    rw [s_153_3]
    simp (disch := omega) only [s_153_5, s_153_7, ↓if_neg, if_neg, Int.lt_irrefl]
  | succ k ih =>
    intro t m h0 h1
    rw [s_153_3]
    by_cases q : t = node
    · have ih := ih (t + 1) (am_up m t 1) (by omega) (by omega)
      rw [am_qm_s m node (by omega) (by rw [if_pos q])] at ih
      simp (disch := omega) only [s_153_5, s_153_7, s_153_10, s_153_11, s_153_14, s_153_16, s_153_18, s_153_19, s_153_22, s_153_23, s_153_26, s_153_27, s_153_28, s_153_31, am_bd_s, Option.toList_some, Option.toList_none, List.cons_append, List.nil_append, am_c1_i, am_c1_n, am_c1_r, if_true, if_false, in_76, am_sI_u, am_wr_eq, ↓if_pos, ↓if_neg, if_pos, if_neg, and_true, or_true]
      exact ih
    · have ih := ih (t + 1) (am_up m t 0) (by omega) (by omega)
      rw [am_qm_s m node (by omega) (by rw [if_neg q])] at ih
      simp (disch := omega) only [s_153_5, s_153_7, s_153_10, s_153_11, s_153_14, s_153_16, s_153_18, s_153_19, s_153_22, s_153_23, s_153_26, s_153_27, s_153_28, s_153_31, am_bd_s, Option.toList_some, Option.toList_none, List.cons_append, List.nil_append, am_c1_i, am_c1_n, am_c1_r, if_true, if_false, in_76, am_sI_u, am_wr_eq, ↓if_pos, ↓if_neg, if_pos, if_neg, and_true, true_or]
      exact ih
theorem l_mfits0 (cl : am_C) (a0 a1 a2 a3 : Option am_V) (t : Int) (h : am_H) : am_go0 cl 153 40 [a0, a1, a2, a3, some (.inl 0), some (.inl t)] [] h = some (some (.inl 0), h) := by
  rw [s_153_40]
  by_cases q : t < 0
  · simp (disch := omega) only [s_153_42, s_153_138, s_153_140, ↓if_pos, ↓if_neg, if_pos, if_neg, true_or]
  · simp (disch := omega) only [s_153_42, s_153_45, s_153_47, s_153_138, s_153_140, ↓if_pos, ↓if_neg, if_pos, if_neg, true_or]
theorem l_mfits2 (d N : Nat) (node cl ins nx v : Int) (I : Nat → Int → Int) (L : Nat → Int → Int64) (hT : am_RTI I) (hC : am_RCx I) (hI : am_RIx I) (hN : am_RNI I) (hw : am_whoI I cl ins nx v) : ∀ (k : Nat) (t : Int) (m : Int → Int), t + 1 = (k : Int) → (k : Int) ≤ I 22 8 → ∃ (r : Int) (m2 : Int → Int), ((r = 1 ∧ am_fw (am_nokI I cl nx (ins * 3) v) (I 23) (I 24) (I 25) (I 26) k m) ∨ (r = 0 ∧ ¬ am_fw (am_nokI I cl nx (ins * 3) v) (I 23) (I 24) (I 25) (I 26) k m)) ∧ am_go0 (am_call (d + 1)) 153 40 [some (.inr (.inr (some 53))), some (.inl node), some (.inl cl), some (.inl ins), some (.inl 1), some (.inl t)] [] (am_GS N, am_GR, am_sI I 76 m, L) = some (some (.inl r), (am_GS N, am_GR, am_sI I 76 m2, L)) := by
  intro k
  induction k with
  | zero =>
    intro t m h0 h1
    refine ⟨1, m, Or.inl ⟨rfl, trivial⟩, ?_⟩
    rw [s_153_40]
    simp (disch := omega) only [s_153_42, s_153_138, s_153_140, ↓if_pos, ↓if_neg, if_pos, if_neg, or_true]
  | succ k ih =>
    intro t m h0 h1
    have ek : t = (k : Int) := by omega
    rw [ek]
    rw [s_153_40]
    have hNa := hN
    obtain ⟨x1, x2, x3, x4⟩ := hNa
    obtain ⟨e1, e2, e3, e4, e5, k0, k9, -, -, g1, g2, g4, g5, g9⟩ := x4 k (by omega) (by omega)
    by_cases q : m (k : Int) = 0
    · obtain ⟨r, m2, hr, hm⟩ := ih ((k : Int) + -1) m (by omega) (by omega)
      refine ⟨r, m2, ?_, ?_⟩
      · have ef : am_fw (am_nokI I cl nx (ins * 3) v) (I 23) (I 24) (I 25) (I 26) (k + 1) m ↔ am_fw (am_nokI I cl nx (ins * 3) v) (I 23) (I 24) (I 25) (I 26) k m := by
          constructor
          · intro w
            rcases w with ⟨_, w⟩ | ⟨w, _⟩
            · exact w
            · exact absurd q w
          · intro w; exact Or.inl ⟨q, w⟩
        rw [ef]
        exact hr
      · simp (disch := omega) only [s_153_42, s_153_45, s_153_47, s_153_50, s_153_51, s_153_54, s_153_56, s_153_57, s_153_132, s_153_135, am_bd_s, Option.toList_some, Option.toList_none, List.cons_append, List.nil_append, am_c1_i, am_c1_n, am_c1_r, if_true, if_false, in_76, am_sI_c, am_wr_eq, ↓reduceIte, ↓if_pos, ↓if_neg, if_pos, if_neg, q]
        exact hm
    · have q2 : am_sI I 76 m 76 k ≠ 0 := q
      have em : am_go0 (am_call (d + 1)) 153 45 [some (.inr (.inr (some 53))), some (.inl node), some (.inl cl), some (.inl ins), some (.inl 1), some (.inl (k : Int))] [] (am_GS N, am_GR, am_sI I 76 m, L) = am_go0 (am_call (d + 1)) 153 122 [some (.inr (.inr (some 53))), some (.inl node), some (.inl cl), some (.inl ins), some (.inl 1), some (.inl (k : Int))] [] (am_GS N, am_GR, am_sI I 76 (am_mark (I 23) (I 24) (I 25) (I 26) m k), L) := by
        unfold am_mark
        by_cases p : 5 ≤ I 23 k
        · have g := g5 p
          rw [if_pos p]
          by_cases p9 : I 23 k = 9
          · have g2 := g9 p9
            rw [if_pos p9]
            simp (disch := first | omega | assumption | fail) only [s_153_45, s_153_47, s_153_50, s_153_51, s_153_54, s_153_56, s_153_57, s_153_60, s_153_61, s_153_64, s_153_66, s_153_67, s_153_68, s_153_71, s_153_72, s_153_75, s_153_76, s_153_79, s_153_81, s_153_82, s_153_83, s_153_84, s_153_85, s_153_88, s_153_89, s_153_92, s_153_94, s_153_95, s_153_96, s_153_97, s_153_98, s_153_101, s_153_103, s_153_104, s_153_106, s_153_109, s_153_110, s_153_113, s_153_114, s_153_117, s_153_119, s_153_120, s_153_121, am_bd_s, Option.toList_some, Option.toList_none, List.cons_append, List.nil_append, am_c1_i, am_c1_n, am_c1_r, if_true, if_false, in_76, in_71, in_72, in_73, in_74, am_sI_c, am_sI_u, Nat.reduceEqDiff, ↓reduceIte, e1, e2, e3, e4, ↓if_pos, ↓if_neg, if_pos, if_neg, and_true, or_true]
          · rw [if_neg p9]
            simp (disch := first | omega | assumption | fail) only [s_153_45, s_153_47, s_153_50, s_153_51, s_153_54, s_153_56, s_153_57, s_153_60, s_153_61, s_153_64, s_153_66, s_153_67, s_153_68, s_153_71, s_153_72, s_153_75, s_153_76, s_153_79, s_153_81, s_153_82, s_153_83, s_153_84, s_153_85, s_153_88, s_153_89, s_153_92, s_153_94, s_153_95, s_153_96, s_153_97, s_153_98, s_153_101, s_153_103, s_153_104, s_153_106, am_bd_s, Option.toList_some, Option.toList_none, List.cons_append, List.nil_append, am_c1_i, am_c1_n, am_c1_r, if_true, if_false, in_76, in_71, in_72, in_73, in_74, am_sI_c, am_sI_u, Nat.reduceEqDiff, ↓reduceIte, e1, e2, e3, e4, ↓if_pos, ↓if_neg, if_pos, if_neg, and_true, or_true]
        · rw [if_neg p]
          simp (disch := first | omega | assumption | fail) only [s_153_45, s_153_47, s_153_50, s_153_51, s_153_54, s_153_56, s_153_57, s_153_60, s_153_61, s_153_64, s_153_66, s_153_67, s_153_68, s_153_97, s_153_98, s_153_101, s_153_103, s_153_104, s_153_106, am_bd_s, Option.toList_some, Option.toList_none, List.cons_append, List.nil_append, am_c1_i, am_c1_n, am_c1_r, if_true, if_false, in_76, in_71, in_72, in_73, in_74, am_sI_c, am_sI_u, Nat.reduceEqDiff, ↓reduceIte, e1, e2, e3, e4, ↓if_pos, ↓if_neg, if_pos, if_neg, and_true, or_true]
      by_cases w : am_nokI I cl nx (ins * 3) v k
      · have e1 := c_there1 d N k cl ins nx v (am_sI I 76 (am_mark (I 23) (I 24) (I 25) (I 26) m k)) L hT hC hI hN (by omega) (show (k : Int) < I 22 8 by omega) hw w
        obtain ⟨r, m2, hr, hm⟩ := ih ((k : Int) + -1) (am_mark (I 23) (I 24) (I 25) (I 26) m k) (by omega) (by omega)
        refine ⟨r, m2, ?_, ?_⟩
        · have ef : am_fw (am_nokI I cl nx (ins * 3) v) (I 23) (I 24) (I 25) (I 26) (k + 1) m ↔ am_fw (am_nokI I cl nx (ins * 3) v) (I 23) (I 24) (I 25) (I 26) k (am_mark (I 23) (I 24) (I 25) (I 26) m k) := by
            constructor
            · intro z
              rcases z with ⟨z, _⟩ | ⟨_, _, z⟩
              · exact absurd z q
              · exact z
            · intro z; exact Or.inr ⟨q, w, z⟩
          rw [ef]
          exact hr
        · rw [s_153_42, if_neg (by omega), em]
          simp (disch := omega) only [s_153_122, s_153_123, s_153_125, s_153_126, s_153_127, s_153_130, s_153_132, s_153_135, am_bd_s, Option.toList_some, Option.toList_none, List.cons_append, List.nil_append, am_c1_i, am_c1_n, am_c1_r, if_true, if_false, am_wr_eq, e1]
          exact hm
      · have e1 := c_there0 d N k cl ins nx v (am_sI I 76 (am_mark (I 23) (I 24) (I 25) (I 26) m k)) L hT hC hI hN (by omega) (show (k : Int) < I 22 8 by omega) hw w
        refine ⟨0, am_mark (I 23) (I 24) (I 25) (I 26) m k, Or.inr ⟨rfl, ?_⟩, ?_⟩
        · intro z
          rcases z with ⟨z, _⟩ | ⟨_, z, _⟩
          · exact q z
          · exact w z
        · rw [s_153_42, if_neg (by omega), em]
          simp (disch := omega) only [s_153_122, s_153_123, s_153_125, s_153_126, s_153_127, s_153_130, s_153_132, s_153_135, am_bd_s, Option.toList_some, Option.toList_none, List.cons_append, List.nil_append, am_c1_i, am_c1_n, am_c1_r, if_true, if_false, am_wr_eq, e1, l_mfits0]
theorem c_Mfits (d N : Nat) (node cl ins nx v : Int) (I : Nat → Int → Int) (L : Nat → Int → Int64) (hT : am_RTI I) (hC : am_RCx I) (hI : am_RIx I) (hN : am_RNI I) (hw : am_whoI I cl ins nx v) (h0 : 0 ≤ node) (h1 : node < I 22 8) : ∃ (r : Int) (m2 : Int → Int), ((r = 1 ∧ am_fw (am_nokI I cl nx (ins * 3) v) (I 23) (I 24) (I 25) (I 26) (node.toNat + 1) (am_qm (I 76) node 0)) ∨ (r = 0 ∧ ¬ am_fw (am_nokI I cl nx (ins * 3) v) (I 23) (I 24) (I 25) (I 26) (node.toNat + 1) (am_qm (I 76) node 0))) ∧ am_call (d + 2) 153 [.inr (.inr (some 53)), .inl node, .inl cl, .inl ins] (am_GS N, am_GR, I, L) = some (some (.inl r), (am_GS N, am_GR, am_sI I 76 m2, L)) := by
  obtain ⟨r, m2, hr, hm⟩ := l_mfits2 d N node cl ins nx v I L hT hC hI hN hw (node.toNat + 1) node (am_qm (I 76) node 0) (by omega) (by omega)
  refine ⟨r, m2, hr, ?_⟩
  have e1 := l_mfits1 (am_call (d + 1)) N node cl ins I L 80 0 (I 76) (by omega) (by omega)
  rw [am_sI_self] at e1
  rw [e_153]
  simp (disch := omega) only [s_153_0, s_153_1, e1, s_153_34, s_153_35, s_153_37, s_153_38, am_bd_s, Option.toList_some, Option.toList_none, List.cons_append, List.nil_append, am_c1_i, am_c1_n, am_c1_r, if_true, if_false]
  exact hm
theorem am_mz_qm (m m2 : Int → Int) (node : Int) (h0 : 0 ≤ node) (h : node < 80) : ∀ i : Int, 0 ≤ i → i < ((node.toNat + 1 : Nat) : Int) → am_qm m2 node 0 i = am_mz m node i := by
  intro i i0 i1
  unfold am_qm am_mz am_zr
  rw [am_up_a, if_pos (by omega)]
  by_cases e : i = node
  · rw [if_pos e, if_pos e]
  · rw [if_neg e, if_neg e, if_pos (by omega)]
