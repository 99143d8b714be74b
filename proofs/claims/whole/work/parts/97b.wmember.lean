/-! value(): turns that need a MEMBER. -/
theorem am_prepM {I0 I J : Nat → Int → Int} {L M : Nat → Int → Int64} {d m z w s n : Int} {l : Int64} {es : List am_En} {fs : List am_F} (h : am_WE I0 I J L M d m z w s n l es fs) (hk1 : 1 ≤ I0 23 n) (hk4 : I0 23 n ≤ 4) : am_WB I0 (am_tI1 I (I 44 16) 0) (am_uI J 53 43 (J 53 43 - 1)) L M (am_cells ((d, m, z, w, s, (n, 1, l) :: es) :: fs)) ∧ am_WC (am_tI1 I (I 44 16) 0) L ((d, m, z, w, s, (n, 1, l) :: es) :: fs) ∧ am_WM (am_uI J 53 43 (J 53 43 - 1)) M (am_TL (I0 23) (I0 25) ((d, m, z, w, s, (n, 1, l) :: es) :: fs)) (am_VL (I0 23) ((d, m, z, w, s, (n, 1, l) :: es) :: fs)) ((d, m, z, w, s, (n, 1, l) :: es) :: fs) ∧ am_WG I0 (am_tI1 I (I 44 16) 0) ((d, m, z, w, s, (n, 1, l) :: es) :: fs) ∧ am_okF (I0 23) ((d, m, z, w, s, (n, 1, l) :: es) :: fs) := by
  obtain ⟨hB, hf0, hC, hM, hG, ho1, ho2⟩ := h
  have wx : am_WX I (am_tI1 I (I 44 16) 0) := am_WX_u _ _ _ _ (by decide)
  have mx : am_MX J (am_uI J 53 43 (J 53 43 - 1)) := am_MX_f _ _ _ (by decide)
  rw [am_TL_c, am_tE_0, am_VL_c, am_vE_0 _ _ _ _ (by decide)] at hM
  obtain ⟨t1, t2, t3, t4, t5⟩ := hM
  obtain ⟨u1, u2, u3⟩ := t1
  refine ⟨am_WB_x hB wx mx rfl rfl, am_WC_k hC, ?_, am_WG_x (am_WG_k hG) wx, fun f hf => ?_⟩
  · rw [am_TL_c, am_tE_m _ _ _ _ hk4, am_VL_c, am_vE_0 _ _ _ _ (by decide)]
    unfold am_WM
    simp only [am_uI_c, Nat.reduceEqDiff, ↓reduceIte]
    simp only [am_up_n _ _ (show (45 : Int) ≠ 43 by decide), am_up_n _ _ (show (49 : Int) ≠ 43 by decide), am_up_s]
    exact ⟨u3, t2, t3, t4, t5⟩
  · rcases List.mem_cons.mp hf with hf | hf
    · subst hf
      intro y hy
      rcases List.mem_cons.mp hy with hy | hy
      · subst hy; exact Or.inl ⟨rfl, hk1⟩
      · exact ho1 y hy
    · exact ho2 f hf
theorem am_tE_fin (D e en N : Nat) (X0 Y0 : Int) (a3 : Option am_V) {I0 I J I' J' : Nat → Int → Int} {L M : Nat → Int → Int64} {d m z w s n x mm : Int} {l : Int64} {es : List am_En} {fs : List am_F} (h : am_WE I0 I J L M d m z w s n l es fs) (hk1 : 1 ≤ I0 23 n) (hk4 : I0 23 n ≤ 4) (hB : am_WB I0 I' J' L M (am_cells ((d, m, z, w, s, (n, 1, l) :: es) :: fs))) (hf0 : I' 41 0 = 0) (hC : am_WC I' L ((d, m, z, w, s, (n, 1, l) :: es) :: fs)) (hM : am_WM J' M (am_TL (I0 23) (I0 25) ((d, m, z, w, s, (n, 1, l) :: es) :: fs)) (am_VL (I0 23) ((d, m, z, w, s, (n, 1, l) :: es) :: fs)) ((d, m, z, w, s, (n, 1, l) :: es) :: fs)) (hG : am_WG I0 I' ((d, m, z, w, s, (n, 1, l) :: es) :: fs)) (hz : am_nz (I 30) (I 33 9) ≤ am_nz (I' 30) (I' 33 9)) (hlo : am_lo I I') (hhi : am_hi J J') (x0 : 0 ≤ x) (x1 : x < I' 33 9) (m0 : 0 ≤ mm) (m1 : mm < I' 11 (I' 34 x)) (ed : am_call (D + 6) 108 [.inr (.inr (some 44)), .inl n] (am_GS N, am_GR, am_tI1 I (I 44 16) 0, L) = some (some (.inl x), (am_GS N, am_GR, I', L))) (emn : am_mN I' n = mm) (ew : ∀ (J2 : Nat → Int → Int) (M2 : Nat → Int → Int64), am_call (en + 2) 168 [.inr (.inr (some 53)), .inl x, .inl mm] (am_GS N, am_GR, J', M) = some (none, (am_GS N, am_GR, J2, M2)) → am_call (e + 5) 175 [.inr (.inr (some 53)), .inl n] (am_GS N, am_GR, am_uI J 53 43 (J 53 43 - 1), M) = some (none, (am_GS N, am_GR, J2, M2))) : am_St D e N X0 Y0 a3 I0 I J L M (am_mu I0 I ((d, m, z, w, s, (n, 0, l) :: es) :: fs)) := by
  obtain ⟨-, -, -, -, hok⟩ := am_prepM h hk1 hk4
  obtain ⟨hB0, hf00, hC0, hM0, hG0, ho1, ho2⟩ := h
  obtain ⟨o0, o1, o2, hn, hk, hl, n0, n1, n2, a0, a1, hp, tl, tg, t0, g0, d0, d1, d2, m4, wd, wm, fd, fm, fit, kd, kr, k5⟩ := am_Tp_of hB0 hC0 hM0 (Nat.le_succ _) hG0
  have e0 := t_adv0 D N (I 44 16) n 0 (I0 23 n) I L rfl o0 o1 hn hk (by omega) (by omega) n0 (by omega) kd.1
  rw [am_TL_c, am_tE_0] at hM0
  obtain ⟨⟨u1, u2, u3⟩, -⟩ := hM0
  have hflt : J 53 50 = 0 := by have := hB0.2.2.2.2.2.2.2.2.1.2.2.1; omega
  obtain ⟨I2, J2, L2, M2, c1, c2, f1, f2, f3, f4, f5⟩ := am_needW D en N hB hf0 hC hM hG hok x0 x1 m0 m1
  have eu := u_v_work e N X0 Y0 (J 53 43) n a3 J _ M _ n0 (by omega) rfl u1 (by omega) hflt u2 (ew J2 M2 c2)
  have emn2 := c_mn (D + 4) N n I' L n0 (by omega)
  rw [emn] at emn2
  have r2 := am_rem_2 (I0 27) (n := n) (l := l) (l2 := l)
  refine ⟨I2, J2, L2, M2, _, ?_, eu, am_lo_trans hlo f1, f2, am_hi_trans hhi f3, f4, ?_⟩
  · rw [e0]
    exact t_adv_m0 D N n (I0 23 n) x mm _ I' I2 L L2 hk1 hk4 ed emn2 (c_nn D N x mm I' I2 L L2 x0 c1)
  · rcases f5 with ⟨f5, f6⟩ | f5 | ⟨z', w', s', nd, l', f5, f6, f7⟩
    · refine Or.inr (Or.inl ⟨_, f5, ?_⟩)
      rw [am_mu_c, am_mu_c, f6]
      omega
    · exact Or.inl f5
    · refine Or.inr (Or.inr ⟨_, _, _, _, _, _, _, _, _, f5, ?_⟩)
      have r8 := am_rem_8 (I0 27) (n := nd) (l := l') f7
      rw [am_mu_c, am_mu_c, f6]
      show am_rem (I0 27) (nd, 0, l') + 0 + (am_rem (I0 27) (n, 1, l) + am_remE (I0 27) es + am_remF (I0 27) fs) + 1536 * (240 - (am_nz (I' 30) (I' 33 9) + 1)) + 1 ≤ _
      omega
theorem am_tE_123 (D e N : Nat) (X0 Y0 : Int) (a3 : Option am_V) {I0 I J : Nat → Int → Int} {L M : Nat → Int → Int64} {d m z w s n : Int} {l : Int64} {es : List am_En} {fs : List am_F} (h : am_WE I0 I J L M d m z w s n l es fs) (hk1 : 1 ≤ I0 23 n) (hk3 : I0 23 n ≤ 3) : am_St D e N X0 Y0 a3 I0 I J L M (am_mu I0 I ((d, m, z, w, s, (n, 0, l) :: es) :: fs)) := by
  have hW := h
  obtain ⟨p1, p2, p3, p4, p5⟩ := am_prepM h hk1 (by omega)
  obtain ⟨hB0, hf00, hC0, hM0, hG0, ho1, ho2⟩ := h
  obtain ⟨o0, o1, o2, hn, hk, hl, n0, n1, n2, a0, a1, hp, tl, tg, t0, g0, d0, d1, d2, m4, wd, wm, fd, fm, fit, kd, kr, k5⟩ := am_Tp_of hB0 hC0 hM0 (Nat.le_succ _) hG0
  obtain ⟨r1, r2, r3, r4, r5, r6, r7, r8, r9, r10⟩ := hB0
  obtain ⟨D1, D2, D3, D4⟩ := r7
  obtain ⟨b1, b2, b3, b4, b5, b6, b7, b8, b9, b10, b11, b12, b13, b14⟩ := D4 d d0 d1
  have hpm := r8 d d0 d1
  obtain ⟨f0, f1, f2, f3, f4⟩ := r10
  have e11 := f0 11 (by omega)
  have e12 := f0 12 (by omega)
  have e13 := f0 13 (by omega)
  have e18 := f0 18 (by omega)
  have e19 := f0 19 (by omega)
  have e22 := f0 22 (by omega)
  have e23 := f0 23 (by omega)
  have e24 := f0 24 (by omega)
  have e25 := f0 25 (by omega)
  have i2' := r3.2.1
  have c2' := r2.2.1
  obtain ⟨k1, k2, k3, k4, k5', k6, k7, k8, k9, -⟩ := r3.2.2.2.1 (I 36 d) b9 b10
  obtain ⟨s1, s2, s3, s4, s5, s6, -⟩ := r2.2.2.2.1 (I 34 d) b2 b3
  have hN := r4.2.2.2 n n0 (by rw [e22]; exact n1)
  rw [e23, e24, e25] at hN
  obtain ⟨-, -, -, -, -, -, -, -, -, v10, v11, -⟩ := hN
  have hlo : am_lo I (am_tI1 I (I 44 16) 0) := am_lo_u _ _ _ _ (by decide)
  have hhi : am_hi J (am_uI J 53 43 (J 53 43 - 1)) := am_hi_u _ _ _ _ (by decide)
  have jp : (am_uI J 53 43 (J 53 43 - 1)) 53 49 = J 53 49 := by simp only [am_uI_c, ↓reduceIte, am_up_a, Int.reduceEq]
  have hP := fit.1
  have hPs : (s = 1 ∧ am_nokI I0 (I 34 d) 0 0 1 n) ∨ (s ≠ 1 ∧ am_nokI I0 (I 34 d) (I0 18 (I 36 d)) (I 36 d * 3) (I0 3 (I0 17 (I 36 d))) n) := by
    unfold am_PF at hP
    by_cases q : s = 1
    · rw [if_pos q] at hP; exact Or.inl ⟨q, hP⟩
    · rw [if_neg q] at hP; exact Or.inr ⟨q, hP⟩
  by_cases q1 : I0 23 n = 1
  · have w1 := v10 q1
    have w2 : I0 24 n < I 11 (I 34 d) := by
      rw [e11]
      rcases hPs with ⟨_, q⟩ | ⟨_, q⟩ <;> exact q.1 q1
    have ed := c_dn_1 D N n d (am_tI1 I (I 44 16) 0) L n0 (by omega) a0 a1 wd (kd.1.trans q1)
    refine am_tE_fin D e (e + 2) N X0 Y0 a3 (x := d) (mm := I0 24 n) hW hk1 (by omega) p1 hf00 p2 p3 p4 (Int.le_refl _) hlo hhi d0 d1 w1.1 w2 ed ?_ (fun J2 M2 hc => ?_)
    · show (if I 23 n = 1 then I 24 n else if I 23 n = 4 then I 26 n else I 25 n) = _
      rw [if_pos (kd.1.trans q1)]; exact kd.2.2.2.2.2.1
    · refine c_Mwork1 e N n (J 53 49) d _ J2 M M2 n0 (by omega) (show J 71 n = 1 by rw [kd.2.1]; exact q1) jp (by omega) (by omega) (show J 90 (J 53 49 - 1) = d by rw [hp]; exact fd) ?_
      show am_call (e + 4) 168 [.inr (.inr (some 53)), .inl d, .inl (J 72 n)] _ = _
      rw [kd.2.2.1]; exact hc
  by_cases q2 : I0 23 n = 2
  · have w1 := v11 (Or.inl q2)
    have w2 : I0 24 n < I0 18 (I 36 d) ∧ I0 25 n < I0 11 (I0 19 (I 36 d * 3 + I0 24 n)) := by
      rcases hPs with ⟨_, q⟩ | ⟨_, q⟩
      · have := (q.2.1 q2).1; omega
      · exact q.2.1 q2
    rw [← e18, ← e11, ← e19] at w2
    obtain ⟨y1, y2, y3, y4⟩ := b13 (I0 24 n) w1.1 (by omega)
    rw [if_pos w2.1] at y4
    have ed := c_dn_2 D N n d (am_tI1 I (I 44 16) 0) L n0 (by omega) a0 a1 wd d0 d2 (kd.1.trans q2) (show 0 ≤ I 24 n by rw [kd.2.2.2.2.2.1]; omega) (show I 24 n < 6 by rw [kd.2.2.2.2.2.1]; omega)
    have ed : am_call (D + 6) 108 [.inr (.inr (some 44)), .inl n] (am_GS N, am_GR, am_tI1 I (I 44 16) 0, L) = some (some (.inl (I 38 (d * 6 + I 24 n))), (am_GS N, am_GR, am_tI1 I (I 44 16) 0, L)) := ed
    rw [kd.2.2.2.2.2.1] at ed
    refine am_tE_fin D e (e + 2) N X0 Y0 a3 (x := I 38 (d * 6 + I0 24 n)) (mm := I0 25 n) hW hk1 (by omega) p1 hf00 p2 p3 p4 (Int.le_refl _) hlo hhi y2 y3 (by omega) (show I0 25 n < I 11 (I 34 (I 38 (d * 6 + I0 24 n))) by rw [y4]; exact w2.2) ed ?_ (fun J2 M2 hc => ?_)
    · show (if I 23 n = 1 then I 24 n else if I 23 n = 4 then I 26 n else I 25 n) = _
      rw [if_neg (by rw [kd.1]; omega), if_neg (by rw [kd.1]; omega)]; exact kd.2.2.2.2.2.2.1
    · refine c_Mwork2 e N n (J 53 49) d _ J2 M M2 n0 (by omega) (show J 71 n = 2 by rw [kd.2.1]; exact q2) jp (by omega) (by omega) (show J 90 (J 53 49 - 1) = d by rw [hp]; exact fd) d0 d2 (show 0 ≤ J 72 n by rw [kd.2.2.1]; omega) (show J 72 n < 6 by rw [kd.2.2.1]; omega) ?_
      show am_call (e + 4) 168 [.inr (.inr (some 53)), .inl (J 80 (d * 6 + J 72 n)), .inl (J 73 n)] _ = _
      rw [kd.2.2.1, kd.2.2.2.1, y1]; exact hc
  · have q3 : I0 23 n = 3 := by omega
    have w1 := v11 (Or.inr q3)
    have w2 : I0 24 n < I0 12 (I 34 d) ∧ I0 25 n < I0 11 (I0 13 (I 34 d * 3 + I0 24 n)) := by
      rcases hPs with ⟨_, q⟩ | ⟨_, q⟩
      · exact q.2.2.1 q3
      · exact q.2.2.1 q3
    rw [← e12, ← e11, ← e13] at w2
    obtain ⟨y1, y2, y3, y4⟩ := b13 (I 18 (I 36 d) + I0 24 n) (by omega) (by omega)
    rw [if_neg (by omega), show I 18 (I 36 d) + I0 24 n - I 18 (I 36 d) = I0 24 n by omega] at y4
    have ed := c_dn_3 D N n d (am_tI1 I (I 44 16) 0) L n0 (by omega) a0 a1 wd d0 d2 (kd.1.trans q3) (show 0 ≤ I 24 n by rw [kd.2.2.2.2.2.1]; omega) (show I 24 n < 3 by rw [kd.2.2.2.2.2.1]; omega) b9 (show I 36 d < 20 by omega) k8 k9
    have ed : am_call (D + 6) 108 [.inr (.inr (some 44)), .inl n] (am_GS N, am_GR, am_tI1 I (I 44 16) 0, L) = some (some (.inl (I 38 (d * 6 + (I 18 (I 36 d) + I 24 n)))), (am_GS N, am_GR, am_tI1 I (I 44 16) 0, L)) := ed
    rw [kd.2.2.2.2.2.1] at ed
    refine am_tE_fin D e (e + 2) N X0 Y0 a3 (x := I 38 (d * 6 + (I 18 (I 36 d) + I0 24 n))) (mm := I0 25 n) hW hk1 (by omega) p1 hf00 p2 p3 p4 (Int.le_refl _) hlo hhi y2 y3 (by omega) (show I0 25 n < I 11 (I 34 (I 38 (d * 6 + (I 18 (I 36 d) + I0 24 n)))) by rw [y4]; exact w2.2) ed ?_ (fun J2 M2 hc => ?_)
    · show (if I 23 n = 1 then I 24 n else if I 23 n = 4 then I 26 n else I 25 n) = _
      rw [if_neg (by rw [kd.1]; omega), if_neg (by rw [kd.1]; omega)]; exact kd.2.2.2.2.2.2.1
    · refine c_Mwork3 e N n (J 53 49) d (I 36 d) _ J2 M M2 n0 (by omega) (show J 71 n = 3 by rw [kd.2.1]; exact q3) jp (by omega) (by omega) (show J 90 (J 53 49 - 1) = d by rw [hp]; exact fd) d0 d2 (show 0 ≤ J 72 n by rw [kd.2.2.1]; omega) (show J 72 n < 3 by rw [kd.2.2.1]; omega) b8 b9 (by omega) (show 0 ≤ J 67 (I 36 d) by rw [k7]; exact k8) (show J 67 (I 36 d) ≤ 3 by rw [k7]; exact k9) ?_
      show am_call (e + 4) 168 [.inr (.inr (some 53)), .inl (J 80 (d * 6 + (J 67 (I 36 d) + J 72 n))), .inl (J 73 n)] _ = _
      rw [kd.2.2.1, kd.2.2.2.1, k7, y1]; exact hc
