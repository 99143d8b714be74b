/-! value(). -/
theorem am_stepE (D e N : Nat) (X0 Y0 : Int) (a3 : Option am_V) {I0 I J : Nat → Int → Int} {L M : Nat → Int → Int64} {d m z w s n : Int} {l : Int64} {es : List am_En} {fs : List am_F} (h : am_WE I0 I J L M d m z w s n l es fs) : am_St D e N X0 Y0 a3 I0 I J L M (am_mu I0 I ((d, m, z, w, s, (n, 0, l) :: es) :: fs)) := by
  have hW := h
  obtain ⟨hB0, hf00, hC0, hM0, hG0, ho1, ho2⟩ := h
  obtain ⟨o0, o1, o2, hn, hk, hl, n0, n1, n2, a0, a1, hp, tl, tg, t0, g0, d0, d1, d2, m4, wd, wm, fd, fm, fit, kd, kr, k5⟩ := am_Tp_of hB0 hC0 hM0 (Nat.le_succ _) hG0
  by_cases q0 : I0 23 n = 0
  · exact am_tE_num D e N X0 Y0 a3 hW q0
  by_cases q3 : I0 23 n ≤ 3
  · exact am_tE_123 D e N X0 Y0 a3 hW (by omega) q3
  by_cases q4 : I0 23 n = 4
  · exact am_tE_at D e N X0 Y0 a3 hW q4
  by_cases q9 : I0 23 n = 9
  · exact am_tE_if D e N X0 Y0 a3 hW q9
  · exact am_tE_sum D e N X0 Y0 a3 hW (by omega) q9
theorem am_stepR (D e N : Nat) (X0 Y0 : Int) (a3 : Option am_V) {I0 I J : Nat → Int → Int} {L M : Nat → Int → Int64} {d m z w s n k : Int} {l : Int64} {es : List am_En} {fs : List am_F} (h : am_WR I0 I J L M ((d, m, z, w, s, (n, k, l) :: es) :: fs)) : am_St D e N X0 Y0 a3 I0 I J L M (am_mu I0 I ((d, m, z, w, s, (n, k, l) :: es) :: fs)) := by
  have hW := h
  obtain ⟨hB0, hf00, hC0, hM0, hG0, hok⟩ := h
  have he := hok _ (List.mem_cons_self ..) _ (List.mem_cons_self ..)
  rcases he with ⟨h1, h2⟩ | ⟨h1, h2⟩
  · have h1 : k = 1 := h1
    have h2 : 1 ≤ I0 23 n := h2
    subst h1
    by_cases q4 : I0 23 n ≤ 4
    · exact am_tR_end D e N X0 Y0 a3 hW (Or.inl ⟨rfl, h2, q4⟩)
    by_cases q9 : I0 23 n = 9
    · exact am_tR_if1 D e N X0 Y0 a3 hW q9
    · exact am_tR_sum1 D e N X0 Y0 a3 hW (by omega) q9
  · have h1 : k = 2 := h1
    have h2 : 5 ≤ I0 23 n := h2
    subst h1
    by_cases q9 : I0 23 n = 9
    · exact am_tR_end D e N X0 Y0 a3 hW (Or.inr ⟨rfl, q9⟩)
    · exact am_tR_sum2 D e N X0 Y0 a3 hW h2 q9
noncomputable abbrev am_h97 (D N : Nat) (x m tn : Int) (I : Nat → Int → Int) (L : Nat → Int → Int64) : Option am_Re := am_go0 (am_call (D + 7)) 97 15 [some (.inr (.inr (some 44))), some (.inl x), some (.inl m), some (.inl tn)] [] (am_GS N, am_GR, I, L)
theorem t_w_0 (D N : Nat) (x m tn : Int) (I : Nat → Int → Int) (L : Nat → Int → Int64) (ha : I 44 12 = 0) (hf : I 41 0 = 0) : am_h97 D N x m tn I L = some (some (.inr (.inl (L 44 17))), (am_GS N, am_GR, I, L)) := by
  have e1 := c_Report_fault (D + 6) N I L
  rw [hf] at e1
  unfold am_h97
  rw [s_97_15]
  by_cases q : tn < 1000000
  · simp (disch := omega) only [s_97_0, s_97_1, s_97_4, s_97_7, s_97_8, s_97_9, s_97_10, s_97_13, s_97_14, s_97_16, s_97_18, s_97_21, s_97_22, s_97_25, s_97_28, s_97_29, s_97_32, s_97_35, s_97_38, s_97_39, s_97_42, s_97_45, s_97_48, s_97_49, s_97_52, s_97_55, s_97_58, s_97_59, s_97_62, s_97_63, s_97_64, s_97_67, s_97_68, am_bd_s, Option.toList_some, Option.toList_none, List.cons_append, List.nil_append, am_c1_i, am_c1_n, am_c1_r, if_true, if_false, ha, e1, am_wr_eq, ↓if_pos, ↓if_neg, if_pos, if_neg]
  · simp (disch := omega) only [s_97_0, s_97_1, s_97_4, s_97_7, s_97_8, s_97_9, s_97_10, s_97_13, s_97_14, s_97_16, s_97_18, s_97_21, s_97_22, s_97_25, s_97_28, s_97_29, s_97_32, s_97_35, s_97_38, s_97_39, s_97_42, s_97_45, s_97_48, s_97_49, s_97_52, s_97_55, s_97_58, s_97_59, s_97_62, s_97_63, s_97_64, s_97_67, s_97_68, am_bd_s, Option.toList_some, Option.toList_none, List.cons_append, List.nil_append, am_c1_i, am_c1_n, am_c1_r, if_true, if_false, ha, e1, am_wr_eq, ↓if_pos, ↓if_neg, if_pos, if_neg]
theorem t_w_f (D N : Nat) (x m tn : Int) (I : Nat → Int → Int) (L : Nat → Int → Int64) (ha : 0 ≤ I 44 12 ∧ I 44 12 ≤ 40 ∧ ∀ i, 0 ≤ i → i < I 44 12 → 0 ≤ I 45 i ∧ I 45 i < 60 ∧ 0 ≤ I 46 i ∧ I 46 i < 4) (hf : I 41 0 ≠ 0) : am_h97 D N x m tn I L = some (some (.inr (.inl 0)), (am_GS N, am_GR, am_gvn I, L)) := by
  have e1 := c_Report_fault (D + 6) N I L
  have e2 := c_giveUpAll (D + 4) N I L ha.1 ha.2.1 ha.2.2
  unfold am_h97
  rw [s_97_15]
  by_cases q : tn < 1000000
  · by_cases qa : 0 < I 44 12
    · simp (disch := omega) only [s_97_0, s_97_1, s_97_4, s_97_7, s_97_8, s_97_9, s_97_10, s_97_13, s_97_14, s_97_16, s_97_18, s_97_21, s_97_22, s_97_25, s_97_28, s_97_29, s_97_32, s_97_35, s_97_38, s_97_39, s_97_42, s_97_45, s_97_48, s_97_49, s_97_52, s_97_55, s_97_58, s_97_59, s_97_62, s_97_63, s_97_64, s_97_67, s_97_68, am_bd_s, Option.toList_some, Option.toList_none, List.cons_append, List.nil_append, am_c1_i, am_c1_n, am_c1_r, if_true, if_false, e1, e2, am_wr_eq, ↓if_pos, ↓if_neg, if_pos, if_neg]
    · simp (disch := omega) only [s_97_0, s_97_1, s_97_4, s_97_7, s_97_8, s_97_9, s_97_10, s_97_13, s_97_14, s_97_16, s_97_18, s_97_21, s_97_22, s_97_25, s_97_28, s_97_29, s_97_32, s_97_35, s_97_38, s_97_39, s_97_42, s_97_45, s_97_48, s_97_49, s_97_52, s_97_55, s_97_58, s_97_59, s_97_62, s_97_63, s_97_64, s_97_67, s_97_68, am_bd_s, Option.toList_some, Option.toList_none, List.cons_append, List.nil_append, am_c1_i, am_c1_n, am_c1_r, if_true, if_false, e1, e2, am_wr_eq, ↓if_pos, ↓if_neg, if_pos, if_neg]
  · simp (disch := omega) only [s_97_0, s_97_1, s_97_4, s_97_7, s_97_8, s_97_9, s_97_10, s_97_13, s_97_14, s_97_16, s_97_18, s_97_21, s_97_22, s_97_25, s_97_28, s_97_29, s_97_32, s_97_35, s_97_38, s_97_39, s_97_42, s_97_45, s_97_48, s_97_49, s_97_52, s_97_55, s_97_58, s_97_59, s_97_62, s_97_63, s_97_64, s_97_67, s_97_68, am_bd_s, Option.toList_some, Option.toList_none, List.cons_append, List.nil_append, am_c1_i, am_c1_n, am_c1_r, if_true, if_false, e1, e2, am_wr_eq, ↓if_pos, ↓if_neg, if_pos, if_neg]
theorem t_w_s (D N : Nat) (x m tn : Int) (I I2 : Nat → Int → Int) (L L2 : Nat → Int → Int64) (hf : I 41 0 = 0) (ha : 0 < I 44 12) (t0 : 0 ≤ tn) (t1 : tn < 1000000) (ee : am_call (D + 7) 102 [.inr (.inr (some 44))] (am_GS N, am_GR, I, L) = some (none, (am_GS N, am_GR, I2, L2))) : am_h97 D N x m tn I L = am_h97 D N x m (tn + 1) I2 L2 := by
  have e1 := c_Report_fault (D + 6) N I L
  rw [hf] at e1
  unfold am_h97
  rw [s_97_15]
  simp (disch := omega) only [s_97_0, s_97_1, s_97_4, s_97_7, s_97_8, s_97_9, s_97_10, s_97_13, s_97_14, s_97_16, s_97_18, s_97_21, s_97_22, s_97_25, s_97_28, s_97_29, s_97_32, s_97_35, s_97_38, s_97_39, s_97_42, s_97_45, s_97_48, s_97_49, s_97_52, s_97_55, s_97_58, s_97_59, s_97_62, s_97_63, s_97_64, s_97_67, s_97_68, am_bd_s, Option.toList_some, Option.toList_none, List.cons_append, List.nil_append, am_c1_i, am_c1_n, am_c1_r, if_true, if_false, e1, ee, am_wr_eq, ↓if_pos, ↓if_neg, if_pos, if_neg]
theorem am_WR_end {I0 I J : Nat → Int → Int} {L M : Nat → Int → Int64} (h : am_WR I0 I J L M []) : I 44 12 = 0 ∧ J 53 43 = 0 ∧ J 53 50 = 0 ∧ M 89 0 = L 44 17 ∧ am_Rel2 I J L M := by
  obtain ⟨hB, hf0, hC, hM, hG, -⟩ := h
  obtain ⟨r1, r2, r3, r4, r5, r6, r7, r8, r9, r10⟩ := hB
  obtain ⟨c1, c2, c3, c4, -⟩ := hC
  obtain ⟨t1, ⟨t2, t3, t4⟩, -⟩ := hM
  have c1 : I 44 16 = 0 := c1
  have c4 : I 44 12 = 0 := c4
  have t1 : J 53 43 = 0 := t1
  have t4 : J 53 45 - 1 = 0 := t4
  refine ⟨c4, t1, by have := r9.2.2.1; omega, by rw [← t3, t4], r1, r2, r3, r4, am_RF_fr r5 r4 r10, ?_, r8, r9, c4, c1, r6⟩
  obtain ⟨d1, d2, d3, d4⟩ := r7
  refine ⟨d1, d2, d3, fun d d0 d1' => ?_⟩
  obtain ⟨b1, b2, b3, b4, b5, b6, b7, b8, b9, b10, b11, b12, b13, b14⟩ := d4 d d0 d1'
  refine ⟨b1, b2, b3, b4, b5, b6, b7, b8, b9, b10, b11, b12, b13, fun k k0 k1 => ?_⟩
  obtain ⟨v1, v2⟩ := b14 k k0 k1
  refine ⟨v1, ?_⟩
  rcases v2 with v2 | v2 | ⟨v2, _⟩
  · exact Or.inl v2
  · exact Or.inr (Or.inl v2)
  · cases v2
theorem am_mu_1 {I0 I J : Nat → Int → Int} {L M : Nat → Int → Int64} {cs : List Int} (hB : am_WB I0 I J L M cs) (d m z w s : Int) (y : am_En) (es : List am_En) (fs : List am_F) : 1 ≤ am_mu I0 I ((d, m, z, w, s, y :: es) :: fs) := by
  have d1 := hB.2.2.2.2.2.2.1.1
  have d2 := hB.2.2.2.2.2.2.1.2.1
  have nzb := am_nz_b (st := I 30) d1 d2
  have h1 := am_rem_pos (I0 27) y
  have h2 := am_remE_pos (I0 27) es
  have h3 := am_remF_pos (I0 27) fs
  rw [am_mu_c]
  omega
/-- either NODE or value -/
def am_WA (I0 I J : Nat → Int → Int) (L M : Nat → Int → Int64) (mu : Int) : Prop := (∃ fs : List am_F, am_WR I0 I J L M fs ∧ am_mu I0 I fs ≤ mu) ∨ ∃ (d m z w s n : Int) (l : Int64) (es : List am_En) (fs : List am_F), am_WE I0 I J L M d m z w s n l es fs ∧ am_mu I0 I ((d, m, z, w, s, (n, 0, l) :: es) :: fs) ≤ mu
theorem am_WF_end (D e N : Nat) (X Y X0 Y0 tn : Int) (a3 : Option am_V) {I J : Nat → Int → Int} {L M : Nat → Int → Int64} (h : am_WF I J L M) : ∃ (r : Int64) (J1 : Nat → Int → Int), am_h97 D N X Y tn I L = some (some (.inr (.inl r)), (am_GS N, am_GR, am_gvn I, L)) ∧ am_h167 e N X0 Y0 a3 J M = some (some (.inr (.inl r)), (am_GS N, am_GR, J1, M)) ∧ am_Rel2 (am_gvn I) J1 L M ∧ am_hi J J1 ∧ am_lo I (am_gvn I) := by
  obtain ⟨h1, h2, h3, h4⟩ := h
  exact ⟨0, _, t_w_f D N X Y tn I L h1 h2, u_v_fault e N X0 Y0 a3 J M h3, h4, fun k hk => by rw [am_sI_c, if_neg (by omega)], fun k hk => by unfold am_gvn; rw [am_uI_c, if_neg (by omega), am_uI_c, if_neg (by omega), am_sI_c, if_neg (by omega)]⟩
theorem l_work (D e N : Nat) (X Y X0 Y0 : Int) (I0 : Nat → Int → Int) : ∀ (n : Nat) (I J : Nat → Int → Int) (L M : Nat → Int → Int64) (tn : Int) (a3 : Option am_V), am_WA I0 I J L M n → 0 ≤ tn → tn + n ≤ 1000000 → ∃ (r : Int64) (I1 J1 : Nat → Int → Int) (L1 M1 : Nat → Int → Int64), am_h97 D N X Y tn I L = some (some (.inr (.inl r)), (am_GS N, am_GR, I1, L1)) ∧ am_h167 e N X0 Y0 a3 J M = some (some (.inr (.inl r)), (am_GS N, am_GR, J1, M1)) ∧ am_Rel2 I1 J1 L1 M1 ∧ am_lo I I1 ∧ am_lo L L1 ∧ am_hi J J1 ∧ am_hi M M1 := by
  have fin : ∀ (I J : Nat → Int → Int) (L M : Nat → Int → Int64) (tn : Int) (a3 : Option am_V), am_WR I0 I J L M [] → ∃ (r : Int64) (I1 J1 : Nat → Int → Int) (L1 M1 : Nat → Int → Int64), am_h97 D N X Y tn I L = some (some (.inr (.inl r)), (am_GS N, am_GR, I1, L1)) ∧ am_h167 e N X0 Y0 a3 J M = some (some (.inr (.inl r)), (am_GS N, am_GR, J1, M1)) ∧ am_Rel2 I1 J1 L1 M1 ∧ am_lo I I1 ∧ am_lo L L1 ∧ am_hi J J1 ∧ am_hi M M1 := fun I J L M tn a3 h => by
    have hf0 := h.2.1
    obtain ⟨k1, k2, k3, k4, k5⟩ := am_WR_end h
    refine ⟨L 44 17, I, J, L, M, t_w_0 D N X Y tn I L k1 hf0, ?_, k5, am_lo_refl _, am_lo_refl _, am_hi_refl _, am_hi_refl _⟩
    rw [u_v_end e N X0 Y0 a3 J M k2 k3, k4]
  intro n
  induction n with
  | zero =>
    intro I J L M tn a3 hA ht htn
    rcases hA with ⟨fs, h, hmu⟩ | ⟨d, m, z, w, s, nn, l, es, fs, h, hmu⟩
    · cases fs with
      | nil => exact fin I J L M tn a3 h
      | cons f fs =>
        exfalso
        obtain ⟨d, m, z, w, s, es⟩ := f
        have hne : es ≠ [] := (h.2.2.2.2.1.1 _ (List.mem_cons_self ..)).2.2.2.2.2.1
        cases es with
        | nil => exact hne rfl
        | cons y es =>
          have := am_mu_1 h.1 d m z w s y es fs
          omega
    · exfalso
      have := am_mu_1 h.1 d m z w s (nn, 0, l) es fs
      omega
  | succ n ih =>
    intro I J L M tn a3 hA ht htn
    have go : ∀ mu : Int, mu ≤ ((n + 1 : Nat) : Int) → I 41 0 = 0 → 0 < I 44 12 → am_St D e N X0 Y0 a3 I0 I J L M mu → ∃ (r : Int64) (I1 J1 : Nat → Int → Int) (L1 M1 : Nat → Int → Int64), am_h97 D N X Y tn I L = some (some (.inr (.inl r)), (am_GS N, am_GR, I1, L1)) ∧ am_h167 e N X0 Y0 a3 J M = some (some (.inr (.inl r)), (am_GS N, am_GR, J1, M1)) ∧ am_Rel2 I1 J1 L1 M1 ∧ am_lo I I1 ∧ am_lo L L1 ∧ am_hi J J1 ∧ am_hi M M1 := fun mu hmu hf ha hS => by
      obtain ⟨I2, J2, L2, M2, b3, e1, e2, e3, e4, e5, e6, e7⟩ := hS
      have et := t_w_s D N X Y tn I I2 L L2 hf ha ht (by omega) e1
      rw [et, e2]
      rcases e7 with e7 | ⟨fs2, e7, e8⟩ | ⟨d, m, z, w, s, nn, l, es, fs2, e7, e8⟩
      · obtain ⟨r, J1, f1, f2, f3, f4, f5⟩ := am_WF_end D e N X Y X0 Y0 (tn + 1) b3 e7
        exact ⟨r, am_gvn I2, J1, L2, M2, f1, f2, f3, am_lo_trans e3 f5, e4, am_hi_trans e5 f4, e6⟩
      · obtain ⟨r, I1, J1, L1, M1, f1, f2, f3, f4, f5, f6, f7⟩ := ih I2 J2 L2 M2 (tn + 1) b3 (Or.inl ⟨fs2, e7, by omega⟩) (by omega) (by omega)
        exact ⟨r, I1, J1, L1, M1, f1, f2, f3, am_lo_trans e3 f4, am_lo_trans e4 f5, am_hi_trans e5 f6, am_hi_trans e6 f7⟩
      · obtain ⟨r, I1, J1, L1, M1, f1, f2, f3, f4, f5, f6, f7⟩ := ih I2 J2 L2 M2 (tn + 1) b3 (Or.inr ⟨d, m, z, w, s, nn, l, es, fs2, e7, by omega⟩) (by omega) (by omega)
        exact ⟨r, I1, J1, L1, M1, f1, f2, f3, am_lo_trans e3 f4, am_lo_trans e4 f5, am_hi_trans e5 f6, am_hi_trans e6 f7⟩
    rcases hA with ⟨fs, h, hmu⟩ | ⟨d, m, z, w, s, nn, l, es, fs, h, hmu⟩
    · cases fs with
      | nil => exact fin I J L M tn a3 h
      | cons f fs =>
        obtain ⟨d, m, z, w, s, es⟩ := f
        have hne : es ≠ [] := (h.2.2.2.2.1.1 _ (List.mem_cons_self ..)).2.2.2.2.2.1
        cases es with
        | nil => exact absurd rfl hne
        | cons y es =>
          obtain ⟨nn, k, l⟩ := y
          exact go _ hmu h.2.1 h.2.2.1.2.2.2.1.1 (am_stepR D e N X0 Y0 a3 h)
    · exact go _ hmu h.2.1 h.2.2.1.2.2.2.1.1 (am_stepE D e N X0 Y0 a3 h)
