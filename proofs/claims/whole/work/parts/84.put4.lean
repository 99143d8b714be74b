/-! PUT IN, from its start. -/
def am_ini (op m : Int → Int) (t u : Int) : Int → Int := fun i => if t ≤ i ∧ i < u then (if op i = 0 then i else -1) else m i
theorem am_ini_e (op m : Int → Int) (t : Int) : am_ini op m t t = m := by
  funext i
  exact if_neg (by omega)
theorem am_ini_s (op m : Int → Int) {t u : Int} (h : t < u) : am_ini op (am_up m t (if op t = 0 then t else -1)) (t + 1) u = am_ini op m t u := by
  funext i
  unfold am_ini
  rw [am_up_a]
  by_cases q : t + 1 ≤ i ∧ i < u
  · rw [if_pos q, if_pos (show t ≤ i ∧ i < u by omega)]
  · rw [if_neg q]
    by_cases e : i = t
    · rw [if_pos e, if_pos (show t ≤ i ∧ i < u by omega), e]
    · rw [if_neg e, if_neg (show ¬ (t ≤ i ∧ i < u) by omega)]
theorem l_putIn1 (cl : am_C) (N : Nat) (tp z o : Int) (I : Nat → Int → Int) (L : Nat → Int → Int64) (h : I 2 6 ≤ 80) : ∀ (k : Nat) (t : Int) (m : Int → Int), 0 ≤ t → t + k = I 2 6 → am_go0 cl 81 3 [some (.inr (.inr (some 2))), some (.inl tp), some (.inl z), some (.inl o), some (.inl t), none, none, none, none] [] (am_GS N, am_GR, am_sI I 8 m, L) = am_go0 cl 81 41 [some (.inr (.inr (some 2))), some (.inl tp), some (.inl z), some (.inl o), some (.inl (I 2 6)), none, none, none, none] [] (am_GS N, am_GR, am_sI I 8 (am_ini (I 7) m t (I 2 6)), L) := by
  intro k
  induction k with
  | zero =>
    intro t m h0 h1
    have e : t = I 2 6 := by omega
    rw [e, am_ini_e]
    rw [s_81_3]
    simp (disch := omega) only [s_81_5, s_81_6, s_81_9, am_bd_s, Option.toList_some, Option.toList_none, List.cons_append, List.nil_append, am_c1_i, am_c1_n, am_c1_r, if_true, if_false, am_sI_c, Nat.reduceEqDiff, ↓reduceIte, ↓if_neg, if_neg]
  | succ k ih =>
    intro t m h0 h1
    by_cases q : I 7 t = 0
    · have ih := ih (t + 1) (am_up m t t) (by omega) (by omega)
      have ez := am_ini_s (I 7) m (t := t) (u := I 2 6) (by omega)
      rw [if_pos q] at ez
      rw [ez] at ih
      rw [← ih, s_81_3]
      simp (disch := omega) only [s_81_5, s_81_6, s_81_9, s_81_12, s_81_13, s_81_16, s_81_18, s_81_19, s_81_22, s_81_24, s_81_25, s_81_28, s_81_30, s_81_33, s_81_34, s_81_35, s_81_38, am_bd_s, Option.toList_some, Option.toList_none, List.cons_append, List.nil_append, am_c1_i, am_c1_n, am_c1_r, if_true, if_false, in_7, in_8, am_sI_u, am_sI_c, Nat.reduceEqDiff, ↓reduceIte, am_wr_eq, ↓if_pos, ↓if_neg, if_pos, if_neg, q]
    · have ih := ih (t + 1) (am_up m t (-1)) (by omega) (by omega)
      have ez := am_ini_s (I 7) m (t := t) (u := I 2 6) (by omega)
      rw [if_neg q] at ez
      rw [ez] at ih
      rw [← ih, s_81_3]
      simp (disch := omega) only [s_81_5, s_81_6, s_81_9, s_81_12, s_81_13, s_81_16, s_81_18, s_81_19, s_81_22, s_81_24, s_81_25, s_81_28, s_81_30, s_81_33, s_81_34, s_81_35, s_81_38, am_bd_s, Option.toList_some, Option.toList_none, List.cons_append, List.nil_append, am_c1_i, am_c1_n, am_c1_r, if_true, if_false, in_7, in_8, am_sI_u, am_sI_c, Nat.reduceEqDiff, ↓reduceIte, am_wr_eq, ↓if_pos, ↓if_neg, if_pos, if_neg]
def am_neg (m : Int → Int) (t : Int) : Int → Int := fun i => if t ≤ i ∧ i < 80 then -1 else m i
theorem am_neg_s (m : Int → Int) {t : Int} (h : t < 80) : am_neg (am_up m t (-1)) (t + 1) = am_neg m t := by
  funext i
  unfold am_neg
  rw [am_up_a]
  by_cases q : t + 1 ≤ i ∧ i < 80
  · rw [if_pos q, if_pos (show t ≤ i ∧ i < 80 by omega)]
  · rw [if_neg q]
    by_cases e : i = t
    · rw [if_pos e, if_pos (show t ≤ i ∧ i < 80 by omega)]
    · rw [if_neg e, if_neg (show ¬ (t ≤ i ∧ i < 80) by omega)]
theorem l_Mput1 (cl : am_C) (N : Nat) (tp z o : Int) (J : Nat → Int → Int) (M : Nat → Int → Int64) : ∀ (k : Nat) (t : Int) (m : Int → Int), 0 ≤ t → t + k = 80 → am_go0 cl 177 3 [some (.inr (.inr (some 53))), some (.inl tp), some (.inl z), some (.inl o), some (.inl t), none] [] (am_GS N, am_GR, am_sI J 59 m, M) = am_go0 cl 177 24 [some (.inr (.inr (some 53))), some (.inl tp), some (.inl z), some (.inl o), some (.inl 80), none] [] (am_GS N, am_GR, am_sI J 59 (am_neg m t), M) := by
  intro k
  induction k with
  | zero =>
    intro t m h0 h1
    have e : t = 80 := by omega
    have ez : am_neg m 80 = m := by funext i; exact if_neg (by omega)
    rw [e, ez]
    rw [s_177_3]
    simp (disch := omega) only [s_177_5, s_177_7, am_bd_s, Option.toList_some, Option.toList_none, List.cons_append, List.nil_append, am_c1_i, am_c1_n, am_c1_r, if_true, if_false, ↓if_neg, if_neg]
  | succ k ih =>
    intro t m h0 h1
    have ih := ih (t + 1) (am_up m t (-1)) (by omega) (by omega)
    rw [am_neg_s m (by omega)] at ih
    rw [← ih, s_177_3]
    simp (disch := omega) only [s_177_5, s_177_7, s_177_10, s_177_11, s_177_14, s_177_16, s_177_17, s_177_18, s_177_21, am_bd_s, Option.toList_some, Option.toList_none, List.cons_append, List.nil_append, am_c1_i, am_c1_n, am_c1_r, if_true, if_false, in_59, am_sI_u, am_wr_eq, ↓if_pos, ↓if_neg, if_pos, if_neg]
abbrev am_i0 (I : Nat → Int → Int) (z o : Int) : Int → Int := am_up (am_up (am_ini (I 7) (I 8) 0 (I 2 6)) 0 z) 1 o
abbrev am_c0 (J : Nat → Int → Int) (z o : Int) : Int → Int := am_up (am_up (am_neg (J 59) 0) 0 z) 1 o
theorem c_put_a (d N : Nat) (tp z o : Int) (I : Nat → Int → Int) (L : Nat → Int → Int64) (h : I 2 6 ≤ 80) (h0 : 0 ≤ I 2 6) (p0 : 0 ≤ tp) (p1 : tp < 80) : am_call (d + 3) 81 [.inr (.inr (some 2)), .inl tp, .inl z, .inl o] (am_GS N, am_GR, I, L) = am_h81 d N tp z o (if am_i0 I z o tp = -1 then 1 else 0) 0 none none none (am_uI (am_sI I 8 (am_i0 I z o)) 9 0 tp) L := by
  have e1 := l_putIn1 (am_call (d + 2)) N tp z o I L h (I 2 6).toNat 0 (I 8) (Int.le_refl _) (by omega)
  rw [am_sI_self] at e1
  rw [e_81]
  simp (disch := omega) only [s_81_0, s_81_1, am_bd_s, Option.toList_some, Option.toList_none, List.cons_append, List.nil_append, am_c1_i, am_c1_n, am_c1_r, if_true, if_false]
  rw [e1]
  unfold am_h81
  by_cases q : am_i0 I z o tp = -1
  · rw [if_pos q]
    simp (disch := first | omega | assumption | fail) only [s_81_41, s_81_42, s_81_45, s_81_46, s_81_47, s_81_48, s_81_49, s_81_52, s_81_53, s_81_54, s_81_55, s_81_56, s_81_59, s_81_60, s_81_61, s_81_62, s_81_63, s_81_66, s_81_67, s_81_68, s_81_69, s_81_72, s_81_73, s_81_76, s_81_77, s_81_79, s_81_80, am_bd_s, Option.toList_some, Option.toList_none, List.cons_append, List.nil_append, am_c1_i, am_c1_n, am_c1_r, if_true, if_false, in_8, in_9, am_sI_u, am_uI_c, am_sI_c, Nat.reduceEqDiff, ↓reduceIte, am_wr_eq, ↓if_pos, ↓if_neg, if_pos, if_neg, q]
  · rw [if_neg q]
    simp (disch := first | omega | assumption | fail) only [s_81_41, s_81_42, s_81_45, s_81_46, s_81_47, s_81_48, s_81_49, s_81_52, s_81_53, s_81_54, s_81_55, s_81_56, s_81_59, s_81_60, s_81_61, s_81_62, s_81_63, s_81_66, s_81_67, s_81_68, s_81_69, s_81_72, s_81_73, s_81_76, s_81_77, s_81_79, s_81_80, am_bd_s, Option.toList_some, Option.toList_none, List.cons_append, List.nil_append, am_c1_i, am_c1_n, am_c1_r, if_true, if_false, in_8, in_9, am_sI_u, am_uI_c, am_sI_c, Nat.reduceEqDiff, ↓reduceIte, am_wr_eq, ↓if_pos, ↓if_neg, if_pos, if_neg]
theorem c_put_b (e N : Nat) (tp z o : Int) (J : Nat → Int → Int) (M : Nat → Int → Int64) : am_call (e + 2) 177 [.inr (.inr (some 53)), .inl tp, .inl z, .inl o] (am_GS N, am_GR, J, M) = am_h177 e N tp z o 1 none (am_uI (am_sI J 59 (am_c0 J z o)) 60 0 tp) M := by
  have e1 := l_Mput1 (am_call (e + 1)) N tp z o J M 80 0 (J 59) (Int.le_refl _) (by omega)
  rw [am_sI_self] at e1
  rw [e_177]
  simp (disch := omega) only [s_177_0, s_177_1, am_bd_s, Option.toList_some, Option.toList_none, List.cons_append, List.nil_append, am_c1_i, am_c1_n, am_c1_r, if_true, if_false]
  rw [e1]
  unfold am_h177
  simp (disch := omega) only [s_177_24, s_177_25, s_177_28, s_177_29, s_177_30, s_177_31, s_177_32, s_177_35, s_177_36, s_177_37, s_177_38, s_177_39, s_177_41, s_177_42, s_177_45, s_177_46, s_177_47, am_bd_s, Option.toList_some, Option.toList_none, List.cons_append, List.nil_append, am_c1_i, am_c1_n, am_c1_r, if_true, if_false, in_59, in_60, am_sI_u, am_wr_eq, ↓if_pos, ↓if_neg, if_pos, if_neg]
theorem am_i0_0 (I : Nat → Int → Int) (z o : Int) : am_i0 I z o 0 = z := by unfold am_i0; rw [am_up_n _ _ (by decide), am_up_s]
theorem am_i0_1 (I : Nat → Int → Int) (z o : Int) : am_i0 I z o 1 = o := am_up_s _ _ _
theorem am_c0_0 (I : Nat → Int → Int) (z o : Int) : am_c0 I z o 0 = z := by unfold am_c0; rw [am_up_n _ _ (by decide), am_up_s]
theorem am_c0_1 (I : Nat → Int → Int) (z o : Int) : am_c0 I z o 1 = o := am_up_s _ _ _
theorem am_i0_t (I : Nat → Int → Int) (z o : Int) {t : Int} (h : 2 ≤ t) (h1 : t < I 2 6) : am_i0 I z o t = if I 7 t = 0 then t else -1 := by
  unfold am_i0
  rw [am_up_n _ _ (by omega), am_up_n _ _ (by omega)]
  exact if_pos ⟨by omega, h1⟩
theorem am_c0_t (I : Nat → Int → Int) (z o : Int) {t : Int} (h : 2 ≤ t) (h1 : t < 80) : am_c0 I z o t = -1 := by
  unfold am_c0
  rw [am_up_n _ _ (by omega), am_up_n _ _ (by omega)]
  exact if_pos ⟨by omega, h1⟩
theorem am_put (d e N : Nat) (tp z o v : Int) (I J : Nat → Int → Int) (L M : Nat → Int → Int64) (hT : am_RT2 I J) (hO : am_ROI I) (p0 : 0 ≤ tp) (p1 : tp < I 2 6) (pv : I 7 tp ≤ v) (hz : z = -1 ∨ (0 ≤ z ∧ z < I 2 6 ∧ I 7 z = 0)) (ho : o = -1 ∨ (0 ≤ o ∧ o < I 2 6 ∧ I 7 o = 0)) (hv1 : 1 ≤ v → z ≠ -1) (hv2 : 2 ≤ v → o ≠ -1) : ∃ (r : Int) (I1 J1 : Nat → Int → Int), am_call (d + 3) 81 [.inr (.inr (some 2)), .inl tp, .inl z, .inl o] (am_GS N, am_GR, I, L) = some (some (.inl r), (am_GS N, am_GR, I1, L)) ∧ am_call (e + 2) 177 [.inr (.inr (some 53)), .inl tp, .inl z, .inl o] (am_GS N, am_GR, J, M) = some (some (.inl r), (am_GS N, am_GR, J1, M)) ∧ am_ptP I J I1 J1 r := by
  have hTa := hT
  obtain ⟨t1, t2, t3, t4, t5, t6, t7, t8, t9, t10, t11⟩ := hTa
  rw [c_put_a d N tp z o I L t6 (by omega) p0 (by omega), c_put_b]
  have hfI : am_FrT I (am_uI (am_sI I 8 (am_i0 I z o)) 9 0 tp) := am_FrT_trans (am_FrT_s8 _ _) (am_FrT_9 _ _ _)
  have hfJ : am_FrU J (am_uI (am_sI J 59 (am_c0 J z o)) 60 0 tp) := am_FrU_trans (am_FrU_s59 _ _) (am_FrU_60 _ _ _)
  have hcl : ∀ x, 0 ≤ x → x < I 2 6 → I 7 x = 0 → 2 ≤ x := fun x x0 x1 hx => by
    have n0 : x ≠ 0 := fun y => by rw [y] at hx; omega
    have n1 : x ≠ 1 := fun y => by rw [y] at hx; omega
    omega
  have jt : (am_uI (am_sI J 59 (am_c0 J z o)) 60 0 tp) 60 (1 - 1) = tp := by
    rw [am_uI_c, if_pos rfl, show (1 : Int) - 1 = 0 by omega, am_up_s]
  by_cases q2 : tp < 2
  · have hi : am_i0 I z o tp ≠ -1 ∧ am_c0 J z o tp = am_i0 I z o tp ∧ 0 ≤ am_i0 I z o tp ∧ am_i0 I z o tp < I 2 6 ∧ I 7 (am_i0 I z o tp) = 0 := by
      by_cases q0 : tp = 0
      · rw [q0, am_i0_0, am_c0_0]
        rw [q0] at pv
        have := hv1 (by omega)
        omega
      · have q1 : tp = 1 := by omega
        rw [q1, am_i0_1, am_c0_1]
        rw [q1] at pv
        have := hv2 (by omega)
        omega
    obtain ⟨h1, h2, h3, h4, h5⟩ := hi
    rw [if_neg h1]
    refine ⟨am_i0 I z o tp, _, _, t_put_end d N tp z o 0 0 none none none _ L rfl p0 (by omega), ?_, hfI, hfJ, hT, hO, Or.inr ⟨hcl _ h3 h4 h5, h4, h5⟩⟩
    rw [u_put_var e N tp z o 1 tp none _ M (by omega) (by omega) jt p0 q2, u_put_end e N tp z o (1 + -1) _ _ M (by omega) p0 (by omega)]
    exact congrArg (fun x => some (some (Sum.inl x), _)) h2
  · by_cases qo : I 7 tp = 0
    · have h1 : am_i0 I z o tp = tp := by rw [am_i0_t I z o (by omega) p1, if_pos qo]
      rw [if_neg (by omega)]
      obtain ⟨-, -, -, of⟩ := t8 tp p0 p1
      have hf : J 58 tp = 0 := by rcases of with ⟨y, y2⟩ | ⟨y, y2⟩ | ⟨y, y2⟩ <;> omega
      have e1 := t_put_end d N tp z o 0 0 none none none (am_uI (am_sI I 8 (am_i0 I z o)) 9 0 tp) L rfl p0 (by omega)
      have e1 : am_h81 d N tp z o 0 0 none none none (am_uI (am_sI I 8 (am_i0 I z o)) 9 0 tp) L = some (some (.inl (am_i0 I z o tp)), (am_GS N, am_GR, am_uI (am_sI I 8 (am_i0 I z o)) 9 0 tp, L)) := e1
      rw [h1] at e1
      refine ⟨tp, _, _, e1, ?_, hfI, am_FrU_trans hfJ (am_FrU_59 _ tp tp), hT, hO, Or.inr ⟨by omega, p1, qo⟩⟩
      rw [u_put_closed e N tp z o 1 tp none _ M (by omega) (by omega) jt (by omega) (by omega) hf, u_put_end e N tp z o (1 + -1) _ _ M (by omega) p0 (by omega), am_uI_c, if_pos rfl, am_up_s]
    · have h1 : am_i0 I z o tp = -1 := by rw [am_i0_t I z o (by omega) p1, if_neg qo]
      rw [if_pos h1]
      have hb := am_sm_b1 (am_noi (am_i0 I z o)) 0 (I 2 6).toNat (fun i _ _ => (am_noi_0 _ i).2)
      have hpt : am_pti (I 2 6) v tp 1 (I 7) (am_i0 I z o) (am_up (I 9) 0 tp) (am_c0 J z o) (am_up (J 60) 0 tp) (I 2 6) := by
        refine ⟨fun t t0 t1 => ?_, ?_, fun t t0 t1 => ?_, ?_, by omega, fun i i0 i1 => ?_, fun i j i0 ij j1 => by omega, Or.inr ⟨by omega, am_up_s _ _ _⟩⟩
        · rw [am_i0_t I z o t0 t1, am_c0_t J z o t0 (by omega)]
          by_cases w : I 7 t = 0
          · rw [if_pos w]; exact ⟨fun _ => ⟨rfl, Or.inl rfl⟩, fun y => absurd w y⟩
          · rw [if_neg w]; exact ⟨fun y => absurd y w, fun _ => rfl⟩
        · rw [am_i0_0, am_i0_1, am_c0_0, am_c0_1]; exact ⟨rfl, rfl⟩
        · by_cases q0 : t = 0
          · rw [q0, am_i0_0]; exact hz
          by_cases q1 : t = 1
          · rw [q1, am_i0_1]; exact ho
          rw [am_i0_t I z o (by omega) t1]
          by_cases w : I 7 t = 0
          · rw [if_pos w]; exact Or.inr ⟨t0, t1, w⟩
          · rw [if_neg w]; exact Or.inl rfl
        · rw [am_i0_0, am_i0_1]; exact ⟨hv1, hv2⟩
        · have e0 : i = 0 := by omega
          rw [e0, am_up_s, am_up_s]
          refine ⟨rfl, by omega, p1, qo, pv, h1, ?_⟩
          have s := am_sm_l (am_noi (am_i0 I z o)) tp (I 2 6 - (tp + 1)).toNat
          rw [show (I 2 6 - (tp + 1)).toNat + 1 = (I 2 6 - tp).toNat by omega] at s
          have f1 : am_noi (am_i0 I z o) tp = 1 := if_pos h1
          have s2 := am_sm_b0 (am_noi (am_i0 I z o)) (tp + 1) (I 2 6 - (tp + 1)).toNat (fun i _ _ => (am_noi_0 _ i).1)
          omega
      have hle := am_pti_le hpt (by omega)
      obtain ⟨r, I1, J1, e1, e2, e3⟩ := l_put d e N tp z o (I 2 6) v L M p0 p1 t5 (2 * am_sm (am_noi (am_i0 I z o)) 0 (I 2 6).toNat - 1).toNat (am_uI (am_sI I 8 (am_i0 I z o)) 9 0 tp) (am_uI (am_sI J 59 (am_c0 J z o)) 60 0 tp) 1 0 none none none none hT hO (Int.le_refl _) (by
        simp only [am_ptI, am_uI_c, am_sI_c, Nat.reduceEqDiff, ↓reduceIte]
        exact hpt) (Or.inl qo) (by
        show 2 * am_sm (am_noi (am_i0 I z o)) 0 (I 2 6).toNat - 1 = _
        omega) (Int.le_refl _) (by omega)
      exact ⟨r, I1, J1, e1, e2, am_ptP_step hfI hfJ e3⟩
