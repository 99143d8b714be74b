/-! value(): AT. -/
theorem am_at_v {I0 I J : Nat → Int → Int} {L M : Nat → Int → Int64} {cs : List Int} {d s z w n : Int} (hB : am_WB I0 I J L M cs) (d0 : 0 ≤ d) (d1 : d < I 33 9) (n0 : 0 ≤ n) (n1 : n < I0 22 8) (hk : I0 23 n = 4) (hP : am_PF I0 (I 34 d) (I 36 d) s n) (hs : (s = 1 ∧ z = I 35 d ∧ w = -1) ∨ (s = 0 ∧ z = I 5 (I 35 d) ∧ w = I 6 (I 35 d))) : ∃ v : Int, (0 ≤ I0 25 n ∧ I0 25 n < I 2 6 ∧ I 7 (I0 25 n) ≤ v) ∧ (z = -1 ∨ (0 ≤ z ∧ z < I 2 6 ∧ I 7 z = 0)) ∧ (w = -1 ∨ (0 ≤ w ∧ w < I 2 6 ∧ I 7 w = 0)) ∧ (1 ≤ v → z ≠ -1) ∧ (2 ≤ v → w ≠ -1) ∧ (0 ≤ I 35 d ∧ I 35 d < 80 ∧ J 78 d = I 35 d ∧ J 56 (I 35 d) = I 5 (I 35 d) ∧ J 57 (I 35 d) = I 6 (I 35 d)) := by
  obtain ⟨r1, r2, r3, r4, r5, r6, r7, r8, r9, r10⟩ := hB
  obtain ⟨D1, D2, D3, D4⟩ := r7
  obtain ⟨b1, b2, b3, b4, b5, b6, b7, b8, b9, b10, b11, b12, -⟩ := D4 d d0 d1
  obtain ⟨f0, f1, f2, f3, f4⟩ := r10
  obtain ⟨g1, g2⟩ := f4 n n0 n1 hk
  have e7 := f2 _ g2
  obtain ⟨t1, t2, t3, t4, t5, t6, t7, t8, t9, t10, t11⟩ := r1
  obtain ⟨h1, h2, h3, of⟩ := t8 (I 35 d) (by omega) b6
  obtain ⟨q1, q2, q3, q4, q5, q6⟩ := t9 (I 35 d) b5 b6
  have base : 0 ≤ I 35 d ∧ I 35 d < 80 ∧ J 78 d = I 35 d ∧ J 56 (I 35 d) = I 5 (I 35 d) ∧ J 57 (I 35 d) = I 6 (I 35 d) := ⟨by omega, by omega, b4, h2, h3⟩
  unfold am_PF at hP
  rcases hs with ⟨s1, s2, s3⟩ | ⟨s1, s2, s3⟩
  · rw [if_pos s1] at hP
    have hv := hP.2.2.2 hk
    refine ⟨1, ⟨g1, by omega, by rw [e7]; exact hv⟩, Or.inr ⟨by omega, by omega, by rw [s2]; exact b7⟩, Or.inl s3, fun _ => by omega, fun h => by omega, base⟩
  · rw [if_neg (by omega)] at hP
    have hv := hP.2.2.2 hk
    have e3 := f0 3 (by omega)
    have e17 := f0 17 (by omega)
    rw [← e3, ← e17, b12] at hv
    have hzl : I 5 (I 35 d) = -1 ∨ (0 ≤ I 5 (I 35 d) ∧ I 5 (I 35 d) < I 2 6 ∧ I 7 (I 5 (I 35 d)) = 0) := by
      rcases q3 with ⟨y1, y2, y3⟩ | ⟨y1, y2⟩
      · right
        have ho := q5 y2
        obtain ⟨-, -, -, of2⟩ := t8 (I 5 (I 35 d)) y2 (by omega)
        refine ⟨y2, by omega, ?_⟩
        rcases of2 with ⟨y, _⟩ | ⟨y, _⟩ | ⟨y, _⟩ <;> omega
      · exact Or.inl y2
    have hzr : I 6 (I 35 d) = -1 ∨ (0 ≤ I 6 (I 35 d) ∧ I 6 (I 35 d) < I 2 6 ∧ I 7 (I 6 (I 35 d)) = 0) := by
      rcases q4 with ⟨y1, y2, y3⟩ | ⟨y1, y2⟩
      · right
        have ho := q6 y2
        obtain ⟨-, -, -, of2⟩ := t8 (I 6 (I 35 d)) y2 (by omega)
        refine ⟨y2, by omega, ?_⟩
        rcases of2 with ⟨y, _⟩ | ⟨y, _⟩ | ⟨y, _⟩ <;> omega
      · exact Or.inl y2
    rw [s2, s3]
    refine ⟨I 3 (I 4 (I 35 d)), ⟨g1, by omega, by rw [e7]; exact hv⟩, hzl, hzr, fun h => ?_, fun h => ?_, base⟩
    · rcases q3 with ⟨y1, y2, y3⟩ | ⟨y1, y2⟩ <;> omega
    · rcases q4 with ⟨y1, y2, y3⟩ | ⟨y1, y2⟩ <;> omega
theorem am_lo_fl {I : Nat → Int → Int} (f x m : Int) : am_lo I (am_flt I f x m) := fun k hk => by
  unfold am_flt
  rw [am_uI_c, if_neg (by omega), am_uI_c, if_neg (by omega), am_uI_c, if_neg (by omega)]
theorem am_hi_fs {J : Nat → Int → Int} (f x m : Int) : am_hi J (am_fs J f x m) := am_hi_trans (am_hi_u _ _ _ _ (by decide)) (am_hi_trans (am_hi_u _ _ _ _ (by decide)) (am_hi_u _ _ _ _ (by decide)))
theorem am_tE_at (D e N : Nat) (X0 Y0 : Int) (a3 : Option am_V) {I0 I J : Nat → Int → Int} {L M : Nat → Int → Int64} {d m z w s n : Int} {l : Int64} {es : List am_En} {fs : List am_F} (h : am_WE I0 I J L M d m z w s n l es fs) (hk4 : I0 23 n = 4) : am_St D e N X0 Y0 a3 I0 I J L M (am_mu I0 I ((d, m, z, w, s, (n, 0, l) :: es) :: fs)) := by
  have hW := h
  obtain ⟨p1, p2, p3, p4, p5⟩ := am_prepM h (by omega) (by omega)
  obtain ⟨hB0, hf00, hC0, hM0, hG0, ho1, ho2⟩ := h
  obtain ⟨o0, o1, o2, hn, hk, hl, n0, n1, n2, a0, a1, hp, tl, tg, t0, g0, d0, d1, d2, m4, wd, wm, fd, fm, fit, kd, kr, k5⟩ := am_Tp_of hB0 hC0 hM0 (Nat.le_succ _) hG0
  have hgs : (s = 1 ∧ z = I 35 d ∧ w = -1) ∨ (s = 0 ∧ z = I 5 (I 35 d) ∧ w = I 6 (I 35 d)) := (hG0.1 _ (List.mem_cons_self ..)).2.2.2.2.2.2.1
  obtain ⟨v, ⟨v1, v2, v3⟩, v4, v5, v6, v7, v8, v9, v10, v11, v12⟩ := am_at_v hB0 d0 d1 n0 n1 hk4 fit.1 hgs
  have wz : I 47 (I 44 12 - 1) = z := hC0.2.2.2.2.2.1.2.1
  have ww : I 48 (I 44 12 - 1) = w := hC0.2.2.2.2.2.2.1.2.1
  have ws : J 92 (J 53 49 - 1) = s := hM0.2.2.2.2.2.1
  have e0 := t_adv0 D N (I 44 16) n 0 4 I L rfl o0 o1 hn hk (by omega) (by omega) n0 (by omega) (kd.1.trans hk4)
  have hM0a := hM0
  rw [am_TL_c, am_tE_0] at hM0a
  obtain ⟨⟨u1, u2, u3⟩, -⟩ := hM0a
  have hflt : J 53 50 = 0 := by have := hB0.2.2.2.2.2.2.2.2.1.2.2.1; omega
  have hlo : am_lo I (am_tI1 I (I 44 16) 0) := am_lo_u _ _ _ _ (by decide)
  have hhi : am_hi J (am_uI J 53 43 (J 53 43 - 1)) := am_hi_u _ _ _ _ (by decide)
  have jp : (am_uI J 53 43 (J 53 43 - 1)) 53 49 = J 53 49 := by simp only [am_uI_c, ↓reduceIte, am_up_a, Int.reduceEq]
  have hpf : J 90 (J 53 49 - 1) = d := by rw [hp]; exact fd
  have hpm : J 91 (J 53 49 - 1) = m := by rw [hp]; exact fm
  obtain ⟨r, I2, J2, ep, eq, hP⟩ := am_put (D + 2) (e + 1) N (I0 25 n) z w v (am_tI1 I (I 44 16) 0) (am_uI J 53 43 (J 53 43 - 1)) L M p1.1 p1.2.2.2.2.2.1 v1 v2 v3 v4 v5 v6 v7
  have hkc : am_tI1 I (I 44 16) 0 23 n = 4 := kd.1.trans hk4
  have hkb : am_tI1 I (I 44 16) 0 25 n = I0 25 n := kd.2.2.2.2.2.2.1
  have hka : am_tI1 I (I 44 16) 0 24 n = I0 24 n := kd.2.2.2.2.2.1
  have ewp := c_workAt_p e N n (J 53 49) d (I 35 d) z w (am_uI J 53 43 (J 53 43 - 1)) M n0 (by omega) jp (by omega) (by omega) hpf d0 d2 v10 v8 v9 (by
    rcases hgs with ⟨s1, s2, s3⟩ | ⟨s1, s2, s3⟩
    · exact Or.inl ⟨ws.trans s1, s2, s3⟩
    · exact Or.inr ⟨ws.trans s1, s2.trans v11.symm, s3.trans v12.symm⟩) r J2 (by
    show am_call (e + 3) 177 [.inr (.inr (some 53)), .inl (J 73 n), .inl z, .inl w] _ = _
    rw [kd.2.2.2.1]; exact eq)
  have B2 := am_WB_put p1 hP
  have C2 := am_WC_T p2 hP.1
  have M2' := am_WM_U p3 hP.2.1
  have G2 := am_WG_T p4 p1.2.2.2.2.2.2.1 hP.1
  have f44 : I2 44 = I 44 := hP.1.1 44 rfl
  have f45 : I2 45 = I 45 := hP.1.1 45 rfl
  have f46 : I2 46 = I 46 := hP.1.1 46 rfl
  have f41 : I2 41 = I 41 := hP.1.1 41 rfl
  have j49 : J2 53 49 = J 53 49 := (hP.2.1.2 49 (by decide)).trans jp
  have j90 : J2 90 = J 90 := hP.2.1.1 90 rfl
  have j91 : J2 91 = J 91 := hP.2.1.1 91 rfl
  have lo2 : am_lo I I2 := am_lo_trans hlo (am_lo_T hP.1)
  have hi2 : am_hi J J2 := am_hi_trans hhi (am_hi_U hP.2.1)
  by_cases qr : r = -3
  · rw [qr] at ep ewp
    have ed := c_dn_4f D N n z w (am_tI1 I (I 44 16) 0) I2 L n0 (by omega) a0 a1 wz ww hkc (by rw [hkb]; exact ep)
    obtain ⟨⟨x1, x2, x3⟩, hw⟩ := am_W_hw B2 C2 G2
    have ef := c_failHere (D + 1) N 5 d m I2 L (by rw [f44]; exact a0) x2 (by rw [f44, f45]; exact wd) (by rw [f44, f46]; exact wm)
    have emf := c_MfailsHere (e + 1) N 5 d m (J 53 49) J2 M j49 (by omega) (by omega) (by rw [j90]; exact hpf) (by rw [j91]; exact hpm)
    have ew := c_Mwork4 e N n (J 53 49) (am_uI J 53 43 (J 53 43 - 1)) _ M M n0 (by omega) (show J 71 n = 4 by rw [kd.2.1]; exact hk4) jp (by omega) (by omega) (ewp.trans (c_workAt_f e N n d (I 35 d) J2 _ M M emf))
    have eu := u_v_work e N X0 Y0 (J 53 43) n a3 J _ M _ n0 (by omega) rfl u1 (by omega) hflt u2 ew
    refine ⟨_, _, L, M, _, ?_, eu, am_lo_trans lo2 (am_lo_fl 5 d m), am_lo_refl _, am_hi_trans hi2 (am_hi_fs 5 d m), am_hi_refl _, Or.inl (am_failW (f := 5) (x := d) (m := m) B2 C2 G2 (by decide))⟩
    rw [e0]
    exact t_adv_m0 D N n 4 (-3) _ _ I2 _ L L (by omega) (by omega) ed (c_mn (D + 4) N n I2 L n0 (by omega)) (c_nn_f D N _ I2 _ L L ef)
  · rcases hP.2.2.2.2 with hr | ⟨hr0, hr1, hr2⟩
    · exact absurd hr qr
    have r10 := B2.2.2.2.2.2.2.2.2.2
    have hN := B2.2.2.2.1.2.2.2 n n0 (by rw [r10.1 22 (by omega)]; exact n1)
    rw [r10.1 23 (by omega), r10.1 24 (by omega), r10.1 26 (by omega)] at hN
    obtain ⟨-, -, -, x74, -, -, -, -, -, -, -, x12, -⟩ := hN
    obtain ⟨y1, y2, y3, y4, y5, y6⟩ := x12 hk4
    obtain ⟨t, I3, J3, em, en, hmk⟩ := am_make (D + 1) e N (I0 24 n) r I2 J2 L M _ B2.1 B2.2.1 B2.2.2.1 B2.2.2.2.2.2.2.1 ⟨B2.2.2.2.2.2.2.2.2.1.1, B2.2.2.2.2.2.2.2.2.1.2.1⟩ B2.2.2.2.2.2.2.2.1 ⟨y1, y2, hr0, hr1, hr2⟩
    have B3 := am_WB_make B2 hmk
    have C3 := am_WC_C C2 hmk.1
    have M3 := am_WM_M M2' hmk.2.1
    have G3 := am_WG_C G2 B2.2.1 B2.2.2.2.2.2.2.1 hmk.1 hmk.2.2.2.2.2.1
    have h44 : I3 44 = I 44 := (hmk.1.1 44 rfl).trans f44
    have h45 : I3 45 = I 45 := (hmk.1.1 45 rfl).trans f45
    have h46 : I3 46 = I 46 := (hmk.1.1 46 rfl).trans f46
    have h41 : I3 41 = I 41 := (hmk.1.1 41 rfl).trans f41
    have i49 : J3 53 49 = J 53 49 := (hmk.2.1.2.1 49 (by decide) (by decide) (by decide)).trans j49
    have i90 : J3 90 = J 90 := (hmk.2.1.1 90 rfl).trans j90
    have i91 : J3 91 = J 91 := (hmk.2.1.1 91 rfl).trans j91
    have i74 : J3 74 = J2 74 := hmk.2.1.1 74 rfl
    have j72 : J2 72 = J 72 := hP.2.1.1 72 rfl
    have lo3 : am_lo I I3 := am_lo_trans lo2 (am_lo_C hmk.1)
    have hi3 : am_hi J J3 := am_hi_trans hi2 (am_hi_M hmk.2.1)
    have ed := c_dn_4 D N n z w r t (am_tI1 I (I 44 16) 0) I2 I3 L n0 (by omega) a0 a1 wz ww hkc (by rw [hkb]; exact ep) qr (by rw [hka]; exact em)
    have en2 : am_call (e + 3) 157 [.inr (.inr (some 53)), .inl (J2 72 n), .inl r] (am_GS N, am_GR, J2, M) = some (some (.inl t), (am_GS N, am_GR, J3, M)) := by
      rw [j72, kd.2.2.1]; exact en
    obtain ⟨⟨x1, x2, x3⟩, hw⟩ := am_W_hw B3 C3 G3
    rcases hmk.2.2.2.2.2.2 with ⟨t0', t1', t2'⟩ | ht | ht
    · have em3 : am_mN I3 n = I0 26 n := by
        have r3 := B3.2.2.2.2.2.2.2.2.2
        unfold am_mN
        rw [r3.1 23 (by omega), r3.1 26 (by omega), if_neg (by omega), if_pos hk4]
      refine am_tE_fin D e (e + 1) N X0 Y0 a3 (x := t) (mm := I0 26 n) hW (by omega) (by omega) B3 (by rw [h41]; exact hf00) C3 M3 G3 ?_ lo3 hi3 t0' t1' y5 ?_ ed em3 (fun J' M' hc => ?_)
      · have z1 := am_nz_C hmk.1 rfl B2.2.2.2.2.2.2.1.1 hmk.2.2.2.2.2.1
        have e30 : I2 30 = I 30 := hP.1.1 30 rfl
        have e33 : I2 33 = I 33 := hP.1.1 33 rfl
        rw [e30, e33] at z1
        exact z1
      · rw [t2', hmk.1.1 11 rfl]; exact y6
      · refine c_Mwork4 e N n (J 53 49) (am_uI J 53 43 (J 53 43 - 1)) _ M M' n0 (by omega) (show J 71 n = 4 by rw [kd.2.1]; exact hk4) jp (by omega) (by omega) (ewp.trans (c_workAt_m e N n d (I 35 d) r t J2 J3 J' M M M' n0 (by omega) qr en2 (Or.inr (Or.inr ⟨t0', ?_⟩))))
        rw [i74, x74]; exact hc
    · have ef := c_failHere (D + 1) N 5 d m I3 L (by rw [h44]; exact a0) x2 (by rw [h44, h45]; exact wd) (by rw [h44, h46]; exact wm)
      have emf := c_MfailsHere (e + 1) N 5 d m (J 53 49) J3 M i49 (by omega) (by omega) (by rw [i90]; exact hpf) (by rw [i91]; exact hpm)
      have ew := c_Mwork4 e N n (J 53 49) (am_uI J 53 43 (J 53 43 - 1)) _ M M n0 (by omega) (show J 71 n = 4 by rw [kd.2.1]; exact hk4) jp (by omega) (by omega) (ewp.trans (c_workAt_m e N n d (I 35 d) r t J2 J3 _ M M M n0 (by omega) qr en2 (Or.inl ⟨ht, emf⟩)))
      have eu := u_v_work e N X0 Y0 (J 53 43) n a3 J _ M _ n0 (by omega) rfl u1 (by omega) hflt u2 ew
      rw [ht] at ed
      refine ⟨_, _, L, M, _, ?_, eu, am_lo_trans lo3 (am_lo_fl 5 d m), am_lo_refl _, am_hi_trans hi3 (am_hi_fs 5 d m), am_hi_refl _, Or.inl (am_failW (f := 5) (x := d) (m := m) B3 C3 G3 (by decide))⟩
      rw [e0]
      exact t_adv_m0 D N n 4 (-3) _ _ I3 _ L L (by omega) (by omega) ed (c_mn (D + 4) N n I3 L n0 (by omega)) (c_nn_f D N _ I3 _ L L ef)
    · have ef := c_failHere (D + 1) N 4 d m I3 L (by rw [h44]; exact a0) x2 (by rw [h44, h45]; exact wd) (by rw [h44, h46]; exact wm)
      have emf := c_MfailsHere (e + 1) N 4 d m (J 53 49) J3 M i49 (by omega) (by omega) (by rw [i90]; exact hpf) (by rw [i91]; exact hpm)
      have ew := c_Mwork4 e N n (J 53 49) (am_uI J 53 43 (J 53 43 - 1)) _ M M n0 (by omega) (show J 71 n = 4 by rw [kd.2.1]; exact hk4) jp (by omega) (by omega) (ewp.trans (c_workAt_m e N n d (I 35 d) r t J2 J3 _ M M M n0 (by omega) qr en2 (Or.inr (Or.inl ⟨ht, emf⟩))))
      have eu := u_v_work e N X0 Y0 (J 53 43) n a3 J _ M _ n0 (by omega) rfl u1 (by omega) hflt u2 ew
      rw [ht] at ed
      refine ⟨_, _, L, M, _, ?_, eu, am_lo_trans lo3 (am_lo_fl 4 d m), am_lo_refl _, am_hi_trans hi3 (am_hi_fs 4 d m), am_hi_refl _, Or.inl (am_failW (f := 4) (x := d) (m := m) B3 C3 G3 (by decide))⟩
      rw [e0]
      exact t_adv_m0 D N n 4 (-4) _ _ I3 _ L L (by omega) (by omega) ed (c_mn (D + 4) N n I3 L n0 (by omega)) (c_nn_l D N _ I3 _ L L ef)
