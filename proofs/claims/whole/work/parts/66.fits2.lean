/-! FITS: the class's loops. -/
def am_zr (m : Int → Int) (t u : Int) : Int → Int := fun i => if t ≤ i ∧ i < u then 0 else m i
theorem am_zr_e (m : Int → Int) (t : Int) : am_zr m t t = m := by
  funext i
  exact if_neg (by omega)
theorem am_zr_s (m : Int → Int) {t u : Int} (h : t < u) : am_zr (am_up m t 0) (t + 1) u = am_zr m t u := by
  funext i
  unfold am_zr
  rw [am_up_a]
  by_cases q : t + 1 ≤ i ∧ i < u
  · rw [if_pos q, if_pos (by omega)]
  · rw [if_neg q]
    by_cases e : i = t
    · rw [if_pos e, if_pos (by omega)]
    · rw [if_neg e, if_neg (by omega)]
theorem l_fits1 (cl : am_C) (N : Nat) (node c ins v : Int) (I : Nat → Int → Int) (L : Nat → Int → Int64) (h : node < 80) : ∀ (k : Nat) (t : Int) (m : Int → Int), 0 ≤ t → t + k = node → am_go0 cl 49 13 [some (.inr (.inr (some 22))), some (.inl node), some (.inl c), some (.inl ins), some (.inl v), some (.inl t)] [] (am_GS N, am_GR, am_sI I 28 m, L) = am_go0 cl 49 33 [some (.inr (.inr (some 22))), some (.inl node), some (.inl c), some (.inl ins), some (.inl v), some (.inl node)] [] (am_GS N, am_GR, am_sI I 28 (am_zr m t node), L) := by
  intro k
  induction k with
  | zero =>
    intro t m h0 h1
    have e : t = node := by omega
    rw [e, am_zr_e]
    rw [s_49_13]
    simp (disch := omega) only [s_49_15, s_49_16, ↓if_neg, if_neg]
  | succ k ih =>
    intro t m h0 h1
    have ih := ih (t + 1) (am_up m t 0) (by omega) (by omega)
    rw [am_zr_s m (by omega)] at ih
    rw [s_49_13]
    simp (disch := omega) only [s_49_15, s_49_16, s_49_19, s_49_20, s_49_23, s_49_25, s_49_26, s_49_27, s_49_30, am_bd_s, Option.toList_some, Option.toList_none, List.cons_append, List.nil_append, am_c1_i, am_c1_n, am_c1_r, if_true, if_false, in_28, am_sI_u, am_wr_eq, ↓if_pos, ↓if_neg, if_pos, if_neg, and_true, true_or]
    exact ih
theorem l_fits2 (d N : Nat) (node cl ins nx v B : Int) (I : Nat → Int → Int) (L : Nat → Int → Int64) (hB : B ≤ 80) (hnm : ∀ n, 0 ≤ n → n < B → am_nmI I cl ins nx n) (hcl : ∀ n, 0 ≤ n → n < B → (5 ≤ I 23 n → 0 ≤ I 24 n ∧ I 24 n < n ∧ 0 ≤ I 25 n ∧ I 25 n < n) ∧ (I 23 n = 9 → 0 ≤ I 26 n ∧ I 26 n < n)) : ∀ (k : Nat) (t : Int) (m : Int → Int), t + 1 = (k : Int) → (k : Int) ≤ B → ∃ m2 : Int → Int, (am_fw (am_nokI I cl nx (ins * 3) v) (I 23) (I 24) (I 25) (I 26) k m ∧ am_go0 (am_call (d + 3)) 49 43 [some (.inr (.inr (some 22))), some (.inl node), some (.inl cl), some (.inl ins), some (.inl v), some (.inl t)] [] (am_GS N, am_GR, am_sI I 28 m, L) = some (some (.inl 1), (am_GS N, am_GR, am_sI I 28 m2, L))) ∨ (¬ am_fw (am_nokI I cl nx (ins * 3) v) (I 23) (I 24) (I 25) (I 26) k m ∧ am_go0 (am_call (d + 3)) 49 43 [some (.inr (.inr (some 22))), some (.inl node), some (.inl cl), some (.inl ins), some (.inl v), some (.inl t)] [] (am_GS N, am_GR, am_sI I 28 m, L) = some (some (.inl 0), (am_GS N, am_GR, am_sI I 28 m2, L))) := by
  intro k
  induction k with
  | zero =>
    intro t m h0 h1
    refine ⟨m, Or.inl ⟨trivial, ?_⟩⟩
    rw [s_49_43]
    simp (disch := omega) only [s_49_45, s_49_85, s_49_86, ↓if_pos, ↓if_neg, if_pos, if_neg, or_true]
  | succ k ih =>
    intro t m h0 h1
    have ek : t = (k : Int) := by omega
    rw [ek]
    rw [s_49_43]
    by_cases q : m (k : Int) = 0
    · obtain ⟨m2, hm⟩ := ih ((k : Int) + -1) m (by omega) (by omega)
      refine ⟨m2, ?_⟩
      have ef : am_fw (am_nokI I cl nx (ins * 3) v) (I 23) (I 24) (I 25) (I 26) (k + 1) m ↔ am_fw (am_nokI I cl nx (ins * 3) v) (I 23) (I 24) (I 25) (I 26) k m := by
        constructor
        · intro w
          rcases w with ⟨_, w⟩ | ⟨w, _⟩
          · exact w
          · exact absurd q w
        · intro w; exact Or.inl ⟨q, w⟩
      rw [ef]
      simp (disch := omega) only [s_49_45, s_49_48, s_49_49, s_49_52, s_49_54, s_49_55, s_49_79, s_49_82, am_bd_s, Option.toList_some, Option.toList_none, List.cons_append, List.nil_append, am_c1_i, am_c1_n, am_c1_r, if_true, if_false, in_28, am_sI_c, am_wr_eq, ↓reduceIte, ↓if_pos, ↓if_neg, if_pos, if_neg, q]
      exact hm
    · by_cases w : am_nokI I cl nx (ins * 3) v k
      · have e1 := c_names1 d N k cl ins nx v (am_sI I 28 m) L (hnm k (by omega) (by omega)) w
        have e2 := c_markInside (d + 2) N k I m L (by omega) (by omega) (hcl k (by omega) (by omega))
        obtain ⟨m2, hm⟩ := ih ((k : Int) + -1) (am_mark (I 23) (I 24) (I 25) (I 26) m k) (by omega) (by omega)
        refine ⟨m2, ?_⟩
        have ef : am_fw (am_nokI I cl nx (ins * 3) v) (I 23) (I 24) (I 25) (I 26) (k + 1) m ↔ am_fw (am_nokI I cl nx (ins * 3) v) (I 23) (I 24) (I 25) (I 26) k (am_mark (I 23) (I 24) (I 25) (I 26) m k) := by
          constructor
          · intro z
            rcases z with ⟨z, _⟩ | ⟨_, _, z⟩
            · exact absurd z q
            · exact z
          · intro z; exact Or.inr ⟨q, w, z⟩
        rw [ef]
        have q2 : am_sI I 28 m 28 k ≠ 0 := q
        simp (disch := first | omega | assumption | fail) only [s_49_45, s_49_48, s_49_49, s_49_52, s_49_54, s_49_55, s_49_58, s_49_59, s_49_61, s_49_62, s_49_63, s_49_65, s_49_68, s_49_73, s_49_74, s_49_76, s_49_79, s_49_82, am_bd_s, Option.toList_some, Option.toList_none, List.cons_append, List.nil_append, am_c1_i, am_c1_n, am_c1_r, if_true, if_false, in_28, am_wr_eq, ↓if_pos, ↓if_neg, if_pos, if_neg, e1, e2]
        exact hm
      · have e1 := c_names0 d N k cl ins nx v (am_sI I 28 m) L (hnm k (by omega) (by omega)) w
        refine ⟨m, Or.inr ⟨?_, ?_⟩⟩
        · intro z
          rcases z with ⟨z, _⟩ | ⟨_, z, _⟩
          · exact q z
          · exact w z
        · have q2 : am_sI I 28 m 28 k ≠ 0 := q
          simp (disch := first | omega | assumption | fail) only [s_49_45, s_49_48, s_49_49, s_49_52, s_49_54, s_49_55, s_49_58, s_49_59, s_49_61, s_49_62, s_49_63, s_49_65, s_49_68, s_49_71, s_49_72, am_bd_s, Option.toList_some, Option.toList_none, List.cons_append, List.nil_append, am_c1_i, am_c1_n, am_c1_r, if_true, if_false, in_28, am_wr_eq, ↓if_pos, ↓if_neg, if_pos, if_neg, e1, true_or]
/-- the marks to begin with -/
abbrev am_mz (m : Int → Int) (node : Int) : Int → Int := am_up (am_zr m 0 node) node 1
theorem c_fits (d N : Nat) (node cl ins nx v : Int) (I : Nat → Int → Int) (L : Nat → Int → Int64) (h0 : 0 ≤ node) (h1 : node < I 22 8) (hB : I 22 8 ≤ 80) (hnm : ∀ n, 0 ≤ n → n < I 22 8 → am_nmI I cl ins nx n) (hcl : ∀ n, 0 ≤ n → n < I 22 8 → (5 ≤ I 23 n → 0 ≤ I 24 n ∧ I 24 n < n ∧ 0 ≤ I 25 n ∧ I 25 n < n) ∧ (I 23 n = 9 → 0 ≤ I 26 n ∧ I 26 n < n)) : ∃ m2 : Int → Int, (am_fw (am_nokI I cl nx (ins * 3) v) (I 23) (I 24) (I 25) (I 26) (node.toNat + 1) (am_mz (I 28) node) ∧ am_call (d + 4) 49 [.inr (.inr (some 22)), .inl node, .inl cl, .inl ins, .inl v] (am_GS N, am_GR, I, L) = some (some (.inl 1), (am_GS N, am_GR, am_sI I 28 m2, L))) ∨ (¬ am_fw (am_nokI I cl nx (ins * 3) v) (I 23) (I 24) (I 25) (I 26) (node.toNat + 1) (am_mz (I 28) node) ∧ am_call (d + 4) 49 [.inr (.inr (some 22)), .inl node, .inl cl, .inl ins, .inl v] (am_GS N, am_GR, I, L) = some (some (.inl 0), (am_GS N, am_GR, am_sI I 28 m2, L))) := by
  obtain ⟨m2, hm⟩ := l_fits2 d N node cl ins nx v (I 22 8) I L hB hnm hcl (node.toNat + 1) node (am_mz (I 28) node) (by omega) (by omega)
  refine ⟨m2, ?_⟩
  have e1 := l_fits1 (am_call (d + 3)) N node cl ins v I L (by omega) node.toNat 0 (I 28) (by omega) (by omega)
  rw [am_sI_self] at e1
  have e : am_call (d + 4) 49 [.inr (.inr (some 22)), .inl node, .inl cl, .inl ins, .inl v] (am_GS N, am_GR, I, L) = am_go0 (am_call (d + 3)) 49 43 [some (.inr (.inr (some 22))), some (.inl node), some (.inl cl), some (.inl ins), some (.inl v), some (.inl node)] [] (am_GS N, am_GR, am_sI I 28 (am_mz (I 28) node), L) := by
    rw [e_49]
    simp (disch := omega) only [s_49_0, s_49_1, s_49_2, s_49_5, s_49_10, s_49_11, c_Nodes_has, am_bd_s, Option.toList_some, Option.toList_none, List.cons_append, List.nil_append, am_c1_i, am_c1_n, am_c1_r, if_true, if_false, am_Bt, ↓if_pos, ↓if_neg, if_pos, if_neg, e1, s_49_33, s_49_34, s_49_37, s_49_38, s_49_39, s_49_40, s_49_41, in_28, am_sI_u, or_true, and_true]
  rw [e]
  exact hm
theorem c_fits_no (d N : Nat) (node cl ins v : Int) (I : Nat → Int → Int) (L : Nat → Int → Int64) (h : ¬ (0 ≤ node ∧ node < I 22 8)) : am_call (d + 4) 49 [.inr (.inr (some 22)), .inl node, .inl cl, .inl ins, .inl v] (am_GS N, am_GR, I, L) = some (some (.inl 0), (am_GS N, am_GR, I, L)) := by
  rw [e_49]
  simp (disch := omega) only [s_49_0, s_49_1, s_49_2, s_49_5, s_49_8, s_49_9, c_Nodes_has, am_bd_s, Option.toList_some, Option.toList_none, List.cons_append, List.nil_append, am_c1_i, am_c1_n, am_c1_r, if_true, if_false, am_Bf, ↓if_pos, ↓if_neg, if_pos, if_neg, true_or]
