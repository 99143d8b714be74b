/-! value(): a MEMBER is needed. -/
theorem am_tE_0 (kd nb : Int → Int) (n : Int) (l : Int64) : am_tE kd nb (n, 0, l) = [n] := if_pos rfl
theorem am_vE_0 (kd : Int → Int) (n k : Int) (l : Int64) (h : k ≠ 2) : am_vE kd (n, k, l) = [] := if_neg (fun w => h w.2.2)
theorem am_WB_beg {I0 I J : Nat → Int → Int} {L M : Nat → Int → Int64} {cs : List Int} {x m v : Int} (hB : am_WB I0 I J L M cs) (m0 : 0 ≤ m) (m1 : m < 4) (x0 : 0 ≤ x) (x1 : x < I 33 9) (hw : J 81 (x * 4 + m) = 0) : am_WB I0 (am_uI (am_uI I 30 (x * 4 + m) 1) 32 (x * 4 + m) v) (am_uI (am_uI J 82 (x * 4 + m) 1) 84 (x * 4 + m) v) L M ((x * 4 + m) :: cs) := by
  obtain ⟨r1, r2, r3, r4, r5, r6, r7, r8, r9, r10⟩ := hB
  obtain ⟨d1, d2, d3, d4⟩ := r7
  have ef : am_Fr0 I0 (am_uI (am_uI I 30 (x * 4 + m) 1) 32 (x * 4 + m) v) := ⟨fun j hj => by
    have := r10.1 j hj
    rw [am_uI_c, if_neg (by omega), am_uI_c, if_neg (by omega)]
    exact this, r10.2⟩
  refine ⟨r1, r2, r3, r4, r5, r6, ?_, r8, r9, ef⟩
  simp only [am_RD2, am_uI_c, Nat.reduceEqDiff, ↓reduceIte]
  refine ⟨d1, d2, d3, fun y y0 y1 => ?_⟩
  obtain ⟨b1, b2, b3, b4, b5, b6, b7, b8, b9, b10, b11, b12, b13, b14⟩ := d4 y y0 y1
  refine ⟨b1, b2, b3, b4, b5, b6, b7, b8, b9, b10, b11, b12, b13, fun j j0 j1 => ?_⟩
  obtain ⟨a1, a2⟩ := b14 j j0 j1
  by_cases eq : y * 4 + j = x * 4 + m
  · rw [eq, am_up_s, am_up_s, am_up_s, am_up_s]
    exact ⟨rfl, Or.inr (Or.inr ⟨List.mem_cons_self .., rfl, hw, rfl⟩)⟩
  · rw [am_up_n _ _ eq, am_up_n _ _ eq, am_up_n _ _ eq, am_up_n _ _ eq]
    refine ⟨a1, ?_⟩
    rcases a2 with a2 | a2 | ⟨a3, a4⟩
    · exact Or.inl a2
    · exact Or.inr (Or.inl a2)
    · exact Or.inr (Or.inr ⟨List.mem_cons_of_mem _ a3, a4⟩)
theorem am_begW {I0 I J : Nat → Int → Int} {L M : Nat → Int → Int64} {fs : List am_F} {x m z w s nd : Int} (hB : am_WB I0 I J L M (am_cells fs)) (hf0 : I 41 0 = 0) (hC : am_WC I L fs) (hM : am_WM J M (am_TL (I0 23) (I0 25) fs) (am_VL (I0 23) fs) fs) (hG : am_WG I0 I fs) (hok : am_okF (I0 23) fs) (x0 : 0 ≤ x) (x1 : x < I 33 9) (m0 : 0 ≤ m) (m1 : m < I 11 (I 34 x)) (m4 : m < 4) (ha : I 44 12 < 40) (hst : I 30 (x * 4 + m) = 0) (hwk : J 81 (x * 4 + m) = 0) (hg : J 84 (x * 4 + m) = I 32 (x * 4 + m)) (hs : (s = 1 ∧ z = I 35 x ∧ w = -1) ∨ (s = 0 ∧ z = I 5 (I 35 x) ∧ w = I 6 (I 35 x))) (n0 : 0 ≤ nd) (n1 : nd < I0 22 8) (n8 : I0 27 nd ≤ 8) (hfit : am_fit (am_PF I0 (I 34 x) (I 36 x) s) (I0 23) (I0 24) (I0 25) (I0 26) 9 nd) : am_WE I0 (am_bM I x m z w (I 44 16) (I 44 12) nd) (am_bN J x m s (J 53 49) (J 53 43) nd) L M x m z w s nd (L 52 (I 44 16)) [] fs ∧ am_nz (am_bM I x m z w (I 44 16) (I 44 12) nd 30) (am_bM I x m z w (I 44 16) (I 44 12) nd 33 9) = am_nz (I 30) (I 33 9) + 1 := by
  have hBb := am_WB_beg (v := am_wr (I 32 (x * 4 + m) + 1)) hB m0 m4 x0 x1 hwk
  have hGa := hG
  obtain ⟨g1, g2, g3, g4⟩ := hGa
  have hCa := hC
  obtain ⟨c1, c2, c3, c4, c5, c6, c7, c8⟩ := hCa
  have hMa := hM
  obtain ⟨t1, t2, t3, t4, t5⟩ := hMa
  have la := am_skk_len c4
  rw [List.length_map] at la
  have lo := am_skk_len c1
  have lp := am_skk_len t3
  rw [List.length_map] at lp
  have hnc : x * 4 + m ∉ am_cells fs := fun hmem => by
    obtain ⟨i, i0, i1, e⟩ := (am_skk_mem c4 c5 (x * 4 + m)).1 hmem
    have := (am_skk_all (Q := fun a b => I 30 (a * 4 + b) = 1) c4 c5 (fun y hy => (g1 y hy).2.2.2.2.1)) i i0 i1
    rw [← e] at this
    omega
  have hnz : am_nz (am_bM I x m z w (I 44 16) (I 44 12) nd 30) (am_bM I x m z w (I 44 16) (I 44 12) nd 33 9) = am_nz (I 30) (I 33 9) + 1 := by
    simp only [am_uI_c, Nat.reduceEqDiff, ↓reduceIte]
    exact am_nz_beg (by omega) (by omega) hst
  refine ⟨⟨?_, hf0, ?_, ?_, ?_, (fun e he => by cases he), hok⟩, hnz⟩
  · refine am_WB_x hBb ?_ ?_ rfl rfl
    · exact am_WX_trans (am_WX_u _ _ _ _ (by decide)) (am_WX_trans (am_WX_u _ _ _ _ (by decide)) (am_WX_trans (am_WX_u _ _ _ _ (by decide)) (am_WX_trans (am_WX_u _ _ _ _ (by decide)) (am_WX_trans (am_WX_u _ _ _ _ (by decide)) (am_WX_trans (am_WX_u _ _ _ _ (by decide)) (am_WX_trans (am_WX_u _ _ _ _ (by decide)) (am_WX_trans (am_WX_u _ _ _ _ (by decide)) (am_WX_u _ _ _ _ (by decide)))))))))
    · rw [← hg]
      exact am_MX_trans (am_MX_u _ _ _ _ (by decide)) (am_MX_trans (am_MX_u _ _ _ _ (by decide)) (am_MX_trans (am_MX_u _ _ _ _ (by decide)) (am_MX_trans (am_MX_f _ _ _ (by decide)) (am_MX_trans (am_MX_u _ _ _ _ (by decide)) (am_MX_trans (am_MX_f _ _ _ (by decide)) (am_MX_trans (am_MX_u _ _ _ _ (by decide)) (am_MX_f _ _ _ (by decide))))))))
  · unfold am_WC
    simp only [am_uI_c, Nat.reduceEqDiff, ↓reduceIte]
    rw [am_up_s, am_up_n _ _ (show (12 : Int) ≠ 16 by decide), am_up_s]
    refine ⟨am_skk_up c1, am_skk_up c2, am_skk_push c3 (fun _ _ _ => rfl) rfl, am_skk_up c4, am_skk_up c5, am_skk_up c6, am_skk_up c7, ?_⟩
    have e : am_FL ((x, m, z, w, s, [(nd, 0, L 52 (I 44 16))]) :: fs) = I 44 16 :: am_FL fs := by
      show ((am_ON fs).length : Int) :: am_FL fs = _
      rw [← lo]
    rw [e]
    exact am_skk_up c8
  · have e1 : am_TL (I0 23) (I0 25) ((x, m, z, w, s, [(nd, 0, L 52 (I 44 16))]) :: fs) = nd :: 300 :: am_TL (I0 23) (I0 25) fs := by
      show am_tE (I0 23) (I0 25) (nd, 0, L 52 (I 44 16)) ++ [] ++ (300 :: am_TL (I0 23) (I0 25) fs) = _
      rw [am_tE_0]
      rfl
    have e2 : am_VL (I0 23) ((x, m, z, w, s, [(nd, 0, L 52 (I 44 16))]) :: fs) = am_VL (I0 23) fs := by
      show am_vE (I0 23) (nd, 0, L 52 (I 44 16)) ++ [] ++ am_VL (I0 23) fs = _
      rw [am_vE_0 _ _ _ _ (by decide)]
      rfl
    rw [e1, e2]
    unfold am_WM
    simp only [am_uI_c, Nat.reduceEqDiff, ↓reduceIte]
    simp only [am_up_n _ _ (show (43 : Int) ≠ 49 by decide), am_up_n _ _ (show (45 : Int) ≠ 43 by decide), am_up_n _ _ (show (45 : Int) ≠ 49 by decide), am_up_n _ _ (show (49 : Int) ≠ 43 by decide), am_up_s]
    exact ⟨am_skk_up (am_skk_up t1), t2, am_skk_up t3, am_skk_up t4, am_skk_up t5⟩
  · refine ⟨fun f hf => ?_, ⟨hnc, g2⟩, by rw [List.length_cons]; omega, ?_⟩
    · rcases List.mem_cons.mp hf with hf | hf
      · subst hf
        refine ⟨x0, x1, m0, m1, ?_, (fun h => by cases h), hs, n0, n1, ?_, hfit, trivial⟩
        · simp only [am_uI_c, Nat.reduceEqDiff, ↓reduceIte]
          exact am_up_s _ _ _
        · show I0 27 nd + ((0 : Nat) : Int) ≤ 8
          omega
      · obtain ⟨z1, z2, z3, z4, z5, z6, z7, z8⟩ := g1 f hf
        refine ⟨z1, z2, z3, z4, ?_, z6, z7, z8⟩
        simp only [am_uI_c, Nat.reduceEqDiff, ↓reduceIte]
        rw [am_up_n _ _ (fun eq => hnc (by
          have : am_fd1 f * 4 + am_fd2 f ∈ am_cells fs := List.mem_map.mpr ⟨f, hf, rfl⟩
          rw [eq] at this
          exact this))]
        exact z5
    · rw [hnz, List.length_cons]
      show I 41 5 + ((fs.length + 1 : Nat) : Int) ≤ _
      omega
theorem am_needW (D e N : Nat) {I0 I J : Nat → Int → Int} {L M : Nat → Int → Int64} {fs : List am_F} {x m : Int} (hB : am_WB I0 I J L M (am_cells fs)) (hf0 : I 41 0 = 0) (hC : am_WC I L fs) (hM : am_WM J M (am_TL (I0 23) (I0 25) fs) (am_VL (I0 23) fs) fs) (hG : am_WG I0 I fs) (hok : am_okF (I0 23) fs) (x0 : 0 ≤ x) (x1 : x < I 33 9) (m0 : 0 ≤ m) (m1 : m < I 11 (I 34 x)) : ∃ (I2 J2 : Nat → Int → Int) (L2 M2 : Nat → Int → Int64), am_call (D + 5) 98 [.inr (.inr (some 44)), .inl x, .inl m] (am_GS N, am_GR, I, L) = some (none, (am_GS N, am_GR, I2, L2)) ∧ am_call (e + 2) 168 [.inr (.inr (some 53)), .inl x, .inl m] (am_GS N, am_GR, J, M) = some (none, (am_GS N, am_GR, J2, M2)) ∧ am_lo I I2 ∧ am_lo L L2 ∧ am_hi J J2 ∧ am_hi M M2 ∧ ((am_WR I0 I2 J2 L2 M2 fs ∧ am_nz (I2 30) (I2 33 9) = am_nz (I 30) (I 33 9)) ∨ am_WF I2 J2 L2 M2 ∨ ∃ (z w s n : Int) (l : Int64), am_WE I0 I2 J2 L2 M2 x m z w s n l [] fs ∧ am_nz (I2 30) (I2 33 9) = am_nz (I 30) (I 33 9) + 1 ∧ I0 27 n ≤ 8) := by
  obtain ⟨⟨w1, w2, w3⟩, hw⟩ := am_W_hw hB hC hG
  have h9 := am_W_nine hB hG
  obtain ⟨len1, len2, len3⟩ := am_lens (I0 23) (I0 25) _ h9
  have hBa := hB
  obtain ⟨r1, r2, r3, r4, r5, r6, r7, r8, r9, r10⟩ := hBa
  obtain ⟨d1, d2, d3, d4⟩ := r7
  obtain ⟨b1, b2, b3, b4, b5, b6, b7, b8, b9, b10, b11, b12, b13, b14⟩ := d4 x x0 x1
  have c2' := r2.2.1
  have i2' := r3.2.1
  have t6' := r1.2.2.2.2.2.1
  obtain ⟨s1, s2, s3, s4, s5, s6, s7, s8⟩ := r2.2.2.2.1 (I 34 x) b2 b3
  obtain ⟨k1, k2, k3, k4, k5, k6, k7, k8, k9, k10, k11⟩ := r3.2.2.2.1 (I 36 x) b9 b10
  have m4 : m < 4 := by omega
  obtain ⟨v1, v2⟩ := b14 m m0 m4
  have hMa := hM
  obtain ⟨t1, t2, t3, t4, t5⟩ := hMa
  have l1 := am_skk_len t1
  have l2 := am_skk_len t2
  have l3 := am_skk_len t3
  rw [List.length_map] at l3
  have hCa := hC
  obtain ⟨c1, -⟩ := hCa
  have lo := am_skk_len c1
  have hp : J 53 49 = I 44 12 := by omega
  have ebd : J 70 (I 36 x * 4 + m) = I 21 (I 36 x * 4 + m) := k11 m m0 m4
  have esd : J 64 (I 34 x * 4 + m) = I 14 (I 34 x * 4 + m) := s8 m m0 m4
  have end' : am_nd (J 70) (J 64) (I 36 x) (I 34 x) m = am_nd (I 21) (I 14) (I 36 x) (I 34 x) m := by unfold am_nd; rw [ebd, esd]
  have fl : ∀ f : Int, am_lo I (am_flt I f x m) := fun f k hk => by
    unfold am_flt
    rw [am_uI_c, if_neg (by omega), am_uI_c, if_neg (by omega), am_uI_c, if_neg (by omega)]
  have fm : ∀ f : Int, am_hi J (am_fs J f x m) := fun f => am_hi_trans (am_hi_u _ _ _ _ (by decide)) (am_hi_trans (am_hi_u _ _ _ _ (by decide)) (am_hi_u _ _ _ _ (by decide)))
  rcases v2 with ⟨v3, v4, v5⟩ | ⟨v3, v4, v5, v6⟩ | ⟨v2, v3, v4, v5⟩
  · have un := u_need_0 e N x m (I 36 x) (I 34 x) J M x0 (by omega) m0 m4 v4 b8 b9 (by omega) b1 b2 (by omega)
    rw [end', ebd] at un
    by_cases qa : I 44 12 = 40
    · refine ⟨_, _, L, M, c_need_d D N x m I L x0 (by omega) m0 m4 v3 qa, un.trans (u_need_f e N x m _ _ (J 53 49) 6 J M x0 (by omega) m0 m4 rfl (Or.inr (Or.inl ⟨v5, by omega, rfl⟩))), fl 6, am_lo_refl _, fm 6, am_hi_refl _, Or.inr (Or.inl (am_failW hB hC hG (by decide)))⟩
    · obtain ⟨f0, f1, f2, f3, f4⟩ := r10
      obtain ⟨r5a, r5b⟩ := r5
      have e14 := f0 14 (by omega)
      have e21 := f0 21 (by omega)
      have e10 := f0 10 (by omega)
      have e15 := f0 15 (by omega)
      have e16 := f0 16 (by omega)
      have e22 := f0 22 (by omega)
      have e27 := f0 27 (by omega)
      have hN4 := r4.2.2.2
      rw [e22, e27] at hN4
      by_cases qb : I 21 (I 36 x * 4 + m) = -1
      · have en2 : am_nd (I 21) (I 14) (I 36 x) (I 34 x) m = I 14 (I 34 x * 4 + m) := if_neg (fun h => h qb)
        rw [en2] at un
        by_cases qs : I 14 (I 34 x * 4 + m) = -1
        · have ec := c_need_b D N x m I _ L x0 (by omega) m0 m4 v3 (by omega) (c_beg_m D N x m I L x0 (by omega) m0 m4 b9 (by omega) b2 (by omega) qb qs)
          exact ⟨_, _, L, M, ec, un.trans (u_need_f e N x m _ _ (J 53 49) 1 J M x0 (by omega) m0 m4 rfl (Or.inr (Or.inr ⟨v5, by omega, qs, rfl⟩))), fl 1, am_lo_refl _, fm 1, am_hi_refl _, Or.inr (Or.inl (am_failW hB hC hG (by decide)))⟩
        · have ec := c_need_b D N x m I _ L x0 (by omega) m0 m4 v3 (by omega) (c_beg_s D N x m (I 44 16) (I 44 12) (I 35 x) (I 14 (I 34 x * 4 + m)) I L rfl rfl (by omega) (by omega) w1 (by omega) x0 (by omega) m0 m4 b9 (by omega) b2 (by omega) rfl qb rfl qs)
          have eu := un.trans (u_need_b e N x m _ _ (J 53 49) (J 53 43) 1 J M x0 (by omega) m0 m4 rfl (by omega) (by omega) rfl (by omega) (by omega) v5 qs (Or.inl ⟨qb, rfl⟩))
          have hfit := r5a (I 34 x) b2 (by rw [← e10]; exact b3) m m0 m4
          rw [← e14] at hfit
          rcases hfit with hfit | ⟨n0, n1, hfit⟩
          · exact absurd hfit qs
          · have n8 := (hN4 _ n0 n1).2.2.2.2.2.2.2.2.1
            obtain ⟨hW, hz⟩ := am_begW (s := 1) (z := I 35 x) (w := -1) hB hf0 hC hM hG hok x0 x1 m0 m1 m4 (by omega) v3 v4 v1 (Or.inl ⟨rfl, rfl, rfl⟩) n0 n1 n8 (by
              have ep : am_PF I0 (I 34 x) (I 36 x) 1 = am_nokI I0 (I 34 x) 0 0 1 := if_pos rfl
              rw [ep]; exact hfit)
            exact ⟨_, _, L, M, ec, eu, fun k hk => by simp only [am_uI_c]; repeat rw [if_neg (by omega)], am_lo_refl _, fun k hk => by simp only [am_uI_c]; repeat rw [if_neg (by omega)], am_hi_refl _, Or.inr (Or.inr ⟨_, _, _, _, _, hW, hz, n8⟩)⟩
      · have en2 : am_nd (I 21) (I 14) (I 36 x) (I 34 x) m = I 21 (I 36 x * 4 + m) := if_pos qb
        rw [en2] at un
        have ec := c_need_b D N x m I _ L x0 (by omega) m0 m4 v3 (by omega) (c_beg_b D N x m (I 44 16) (I 44 12) (I 35 x) (I 21 (I 36 x * 4 + m)) I L rfl rfl (by omega) (by omega) w1 (by omega) x0 (by omega) m0 m4 b9 (by omega) b2 (by omega) rfl (by omega) (by omega) rfl qb)
        have eu := un.trans (u_need_b e N x m _ _ (J 53 49) (J 53 43) 0 J M x0 (by omega) m0 m4 rfl (by omega) (by omega) rfl (by omega) (by omega) v5 qb (Or.inr ⟨qb, rfl⟩))
        have hfit := r5b (I 36 x) b9 (by rw [← e15]; exact b10) m m0 m4
        rw [← e21] at hfit
        rcases hfit with hfit | ⟨n0, n1, hfit⟩
        · exact absurd hfit qb
        · have n8 := (hN4 _ n0 n1).2.2.2.2.2.2.2.2.1
          obtain ⟨hW, hz⟩ := am_begW (s := 0) (z := I 5 (I 35 x)) (w := I 6 (I 35 x)) hB hf0 hC hM hG hok x0 x1 m0 m1 m4 (by omega) v3 v4 v1 (Or.inr ⟨rfl, rfl, rfl⟩) n0 n1 n8 (by
            have ep : am_PF I0 (I 34 x) (I 36 x) 0 = am_nokI I0 (I 34 x) (I0 18 (I 36 x)) (I 36 x * 3) (I0 3 (I0 17 (I 36 x))) := if_neg (by decide)
            rw [ep, ← b11, e16]; exact hfit)
          exact ⟨_, _, L, M, ec, eu, fun k hk => by simp only [am_uI_c]; repeat rw [if_neg (by omega)], am_lo_refl _, fun k hk => by simp only [am_uI_c]; repeat rw [if_neg (by omega)], am_hi_refl _, Or.inr (Or.inr ⟨_, _, _, _, _, hW, hz, n8⟩)⟩
  · have ec := c_need_w D N x m I L x0 (by omega) m0 m4 v3
    have eu := u_need_w e N x m (J 53 45) J M x0 (by omega) m0 m4 v4 rfl (by omega) (by omega)
    refine ⟨_, _, _, _, ec, eu, am_lo_refl _, am_lo_uL _ _ _ _ (by decide), am_hi_u _ _ _ _ (by decide), am_hi_uL _ _ _ _ (by decide), Or.inl ⟨⟨?_, hf0, ?_, ?_, hG, hok⟩, rfl⟩⟩
    · exact am_WB_x hB (am_WX_refl _) (am_MX_f _ _ _ (by decide)) rfl rfl
    · exact hC
    · have e1 : am_uL L 44 17 (L 31 (x * 4 + m)) 44 17 = L 31 (x * 4 + m) := by rw [am_uL_c, if_pos rfl, am_upL_a, if_pos rfl]
      rw [e1]
      unfold am_WM
      simp only [am_uI_c, am_uL_c, Nat.reduceEqDiff, ↓reduceIte]
      simp only [am_up_n _ _ (show (43 : Int) ≠ 45 by decide), am_up_n _ _ (show (49 : Int) ≠ 45 by decide), am_up_s]
      rw [v6]
      exact ⟨t1, am_skk_upL t2, t3, t4, t5⟩
  · have un := u_need_0 e N x m (I 36 x) (I 34 x) J M x0 (by omega) m0 m4 v4 b8 b9 (by omega) b1 b2 (by omega)
    exact ⟨_, _, L, M, c_need_r D N x m I L x0 (by omega) m0 m4 v3, un.trans (u_need_f e N x m _ _ (J 53 49) 2 J M x0 (by omega) m0 m4 rfl (Or.inl ⟨v5, rfl⟩)), fl 2, am_lo_refl _, fm 2, am_hi_refl _, Or.inr (Or.inl (am_failW hB hC hG (by decide)))⟩
