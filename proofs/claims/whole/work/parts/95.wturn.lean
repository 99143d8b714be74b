/-! value(): turns that need no MEMBER. -/
theorem am_TL_c (kd nb : Int → Int) (d m z w s : Int) (y : am_En) (es : List am_En) (fs : List am_F) : am_TL kd nb ((d, m, z, w, s, y :: es) :: fs) = am_tE kd nb y ++ (am_tEs kd nb es ++ (300 :: am_TL kd nb fs)) := by
  show (am_tE kd nb y ++ am_tEs kd nb es) ++ (300 :: am_TL kd nb fs) = _
  rw [List.append_assoc]
theorem am_VL_c (kd : Int → Int) (d m z w s : Int) (y : am_En) (es : List am_En) (fs : List am_F) : am_VL kd ((d, m, z, w, s, y :: es) :: fs) = am_vE kd y ++ (am_vEs kd es ++ am_VL kd fs) := by
  show (am_vE kd y ++ am_vEs kd es) ++ am_VL kd fs = _
  rw [List.append_assoc]
theorem am_mu_c (I0 I : Nat → Int → Int) (d m z w s : Int) (y : am_En) (es : List am_En) (fs : List am_F) : am_mu I0 I ((d, m, z, w, s, y :: es) :: fs) = am_rem (I0 27) y + am_remE (I0 27) es + am_remF (I0 27) fs + 1536 * (240 - am_nz (I 30) (I 33 9)) := rfl
theorem am_tE_91 (kd nb : Int → Int) (n : Int) (l : Int64) (h : kd n = 9) : am_tE kd nb (n, 1, l) = [200 + n] := (if_neg (by show ¬ (1 : Int) = 0; decide)).trans ((if_pos h).trans (if_pos rfl))
theorem am_tE_92 (kd nb : Int → Int) (n : Int) (l : Int64) (h : kd n = 9) : am_tE kd nb (n, 2, l) = [] := (if_neg (by show ¬ (2 : Int) = 0; decide)).trans ((if_pos h).trans (if_neg (by show ¬ (2 : Int) = 1; decide)))
theorem am_tE_51 (kd nb : Int → Int) (n : Int) (l : Int64) (h : 5 ≤ kd n) (h9 : kd n ≠ 9) : am_tE kd nb (n, 1, l) = [nb n, 100 + n] := (if_neg (by show ¬ (1 : Int) = 0; decide)).trans ((if_neg h9).trans ((if_pos h).trans (if_pos rfl)))
theorem am_tE_52 (kd nb : Int → Int) (n : Int) (l : Int64) (h : 5 ≤ kd n) (h9 : kd n ≠ 9) : am_tE kd nb (n, 2, l) = [100 + n] := (if_neg (by show ¬ (2 : Int) = 0; decide)).trans ((if_neg h9).trans ((if_pos h).trans (if_neg (by show ¬ (2 : Int) = 1; decide))))
theorem am_tE_m (kd nb : Int → Int) (n : Int) (l : Int64) (h : kd n ≤ 4) : am_tE kd nb (n, 1, l) = [] := (if_neg (by show ¬ (1 : Int) = 0; decide)).trans ((if_neg (show ¬ kd n = 9 by omega)).trans (if_neg (show ¬ 5 ≤ kd n by omega)))
theorem am_vE_52 (kd : Int → Int) (n : Int) (l : Int64) (h : 5 ≤ kd n) (h9 : kd n ≠ 9) : am_vE kd (n, 2, l) = [l] := if_pos ⟨h, h9, rfl⟩
theorem am_vE_9 (kd : Int → Int) (n k : Int) (l : Int64) (h : kd n = 9) : am_vE kd (n, k, l) = [] := if_neg (fun w => w.2.1 h)
theorem am_lo_oU (I : Nat → Int → Int) (k o c : Int) : am_lo I (am_oU (am_tI1 I o k) o c) := am_lo_trans (am_lo_u _ _ _ _ (by decide)) (am_lo_trans (am_lo_u _ _ _ _ (by decide)) (am_lo_trans (am_lo_u _ _ _ _ (by decide)) (am_lo_u _ _ _ _ (by decide))))
theorem am_tE_num (D e N : Nat) (X0 Y0 : Int) (a3 : Option am_V) {I0 I J : Nat → Int → Int} {L M : Nat → Int → Int64} {d m z w s n : Int} {l : Int64} {es : List am_En} {fs : List am_F} (h : am_WE I0 I J L M d m z w s n l es fs) (hk0 : I0 23 n = 0) : am_St D e N X0 Y0 a3 I0 I J L M (am_mu I0 I ((d, m, z, w, s, (n, 0, l) :: es) :: fs)) := by
  obtain ⟨hB, hf0, hC, hM, hG, ho1, ho2⟩ := h
  obtain ⟨o0, o1, o2, hn, hk, hl, n0, n1, n2, a0, a1, hp, tl, tg, t0, g0, d0, d1, d2, m4, wd, wm, fd, fm, fit, kd, kr, k5⟩ := am_Tp_of hB hC hM (Nat.le_succ _) hG
  have e0 := t_adv0 D N (I 44 16) n 0 0 I L rfl o0 o1 hn hk (by omega) (by omega) n0 (by omega) (kd.1.trans hk0)
  rw [am_TL_c, am_tE_0, am_VL_c, am_vE_0 _ _ _ _ (by decide)] at hM
  obtain ⟨t1, t2, t3, t4, t5⟩ := hM
  obtain ⟨u1, u2, u3⟩ := t1
  have hflt : J 53 50 = 0 := by have := hB.2.2.2.2.2.2.2.2.1.2.2.1; omega
  have ew := c_Mwork0 e N n (J 53 45) (J 53 49) (am_uI J 53 43 (J 53 43 - 1)) M n0 (by omega) (show J 71 n = 0 by rw [kd.2.1]; exact hk0) (by simp only [am_uI_c, ↓reduceIte, am_up_a, Int.reduceEq]) g0 (by omega) (by simp only [am_uI_c, ↓reduceIte, am_up_a, Int.reduceEq]) (by omega) (by omega)
  have eu := u_v_work e N X0 Y0 (J 53 43) n a3 J _ M _ n0 (by omega) rfl u1 (by omega) hflt u2 ew
  have ev : (Int32.ofInt (J 72 n)).toInt64 = (Int32.ofInt (I 24 n)).toInt64 := by rw [kd.2.2.1, kd.2.2.2.2.2.1]
  have wx : am_WX I (am_tI1 I (I 44 16) 0) := am_WX_u _ _ _ _ (by decide)
  have mx : am_MX J (am_uI (am_uI J 53 43 (J 53 43 - 1)) 53 45 (J 53 45 + 1)) := am_MX_trans (am_MX_f _ _ _ (by decide)) (am_MX_f _ _ _ (by decide))
  obtain ⟨I2, J2, L2, M2, b3, fs2, f1, f2, f3, f4, f5, f6, f7, f8⟩ := am_endN (D + 3) e N X0 Y0 (some (.inl n)) (I := am_tI1 I (I 44 16) 0) (J := am_uI (am_uI J 53 43 (J 53 43 - 1)) 53 45 (J 53 45 + 1)) (M := am_uL M 89 (J 53 45) (Int32.ofInt (J 72 n)).toInt64) (v := (Int32.ofInt (J 72 n)).toInt64) (am_WB_x hB wx mx rfl rfl) hf0 (am_WC_k hC) (by
    unfold am_WM
    simp only [am_uI_c, am_uL_c, Nat.reduceEqDiff, ↓reduceIte]
    simp only [am_up_n _ _ (show (43 : Int) ≠ 45 by decide), am_up_n _ _ (show (45 : Int) ≠ 43 by decide), am_up_n _ _ (show (49 : Int) ≠ 45 by decide), am_up_n _ _ (show (49 : Int) ≠ 43 by decide), am_up_s]
    exact ⟨u3, am_skk_upL t2, t3, t4, t5⟩) (am_WG_x (am_WG_k hG) wx) ho1 ho2
  refine ⟨I2, J2, L2, M2, b3, ?_, eu.trans f2, am_lo_trans (am_lo_u _ _ _ _ (by decide)) f5, f6, am_hi_trans (am_hi_trans (am_hi_u _ _ _ _ (by decide)) (am_hi_u _ _ _ _ (by decide))) f7, am_hi_trans (am_hi_uL _ _ _ _ (by decide)) f8, Or.inr (Or.inl ⟨fs2, f3, ?_⟩)⟩
  · rw [e0]
    refine t_adv_num D N n 0 _ I2 L L2 n0 (by omega) ?_
    rw [ev] at f1
    exact f1
  · rw [f4, am_mu_c]
    have := am_rem_pos (I0 27) (n, 0, l)
    show am_remE (I0 27) es + am_remF (I0 27) fs + 1536 * (240 - am_nz (I 30) (I 33 9)) + 1 ≤ _
    omega
theorem am_tE_if (D e N : Nat) (X0 Y0 : Int) (a3 : Option am_V) {I0 I J : Nat → Int → Int} {L M : Nat → Int → Int64} {d m z w s n : Int} {l : Int64} {es : List am_En} {fs : List am_F} (h : am_WE I0 I J L M d m z w s n l es fs) (hk9 : I0 23 n = 9) : am_St D e N X0 Y0 a3 I0 I J L M (am_mu I0 I ((d, m, z, w, s, (n, 0, l) :: es) :: fs)) := by
  obtain ⟨hB, hf0, hC, hM, hG, ho1, ho2⟩ := h
  obtain ⟨o0, o1, o2, hn, hk, hl, n0, n1, n2, a0, a1, hp, tl, tg, t0, g0, d0, d1, d2, m4, wd, wm, fd, fm, fit, kd, kr, k5⟩ := am_Tp_of hB hC hM (Nat.le_succ _) hG
  obtain ⟨⟨p1, p2, p3, p4⟩, -, -⟩ := k5 (by omega)
  have e0 := t_adv0 D N (I 44 16) n 0 9 I L rfl o0 o1 hn hk (by omega) (by omega) n0 (by omega) (kd.1.trans hk9)
  rw [am_TL_c, am_tE_0, am_VL_c, am_vE_0 _ _ _ _ (by decide)] at hM
  obtain ⟨t1, t2, t3, t4, t5⟩ := hM
  obtain ⟨u1, u2, u3⟩ := t1
  have hflt : J 53 50 = 0 := by have := hB.2.2.2.2.2.2.2.2.1.2.2.1; omega
  have ew := c_Mwork9 e N n (J 53 49) (J 53 43 - 1) (am_uI J 53 43 (J 53 43 - 1)) M n0 (by omega) (show J 71 n = 9 by rw [kd.2.1]; exact hk9) (by simp only [am_uI_c, ↓reduceIte, am_up_a, Int.reduceEq]) (by omega) (by omega) (by simp only [am_uI_c, ↓reduceIte, am_up_s]) (by omega) (by omega)
  have eu := u_v_work e N X0 Y0 (J 53 43) n a3 J _ M _ n0 (by omega) rfl u1 (by omega) hflt u2 ew
  have wx : am_WX I (am_tI1 I (I 44 16) 0) := am_WX_u _ _ _ _ (by decide)
  have mx : am_MX J (am_tk (am_tk (am_uI J 53 43 (J 53 43 - 1)) (J 53 43 - 1) (200 + n)) (J 53 43 - 1 + 1) (J 72 n)) := am_MX_trans (am_MX_f _ _ _ (by decide)) (am_MX_trans (am_MX_trans (am_MX_u _ _ _ _ (by decide)) (am_MX_f _ _ _ (by decide))) (am_MX_trans (am_MX_u _ _ _ _ (by decide)) (am_MX_f _ _ _ (by decide))))
  have ec := c_aif_0 D N n (I 44 16) (am_tI1 I (I 44 16) 0) L rfl (by omega) (o2 (by omega)) n0 (by omega)
  have ec : am_call (D + 6) 104 [.inr (.inr (some 44)), .inl n, .inl 0] (am_GS N, am_GR, am_tI1 I (I 44 16) 0, L) = some (none, (am_GS N, am_GR, am_oU (am_tI1 I (I 44 16) 0) (I 44 16) (I 24 n), L)) := ec
  have hW := am_openW (I0 := I0) (I := am_tI1 I (I 44 16) 0) (J2 := am_tk (am_tk (am_uI J 53 43 (J 53 43 - 1)) (J 53 43 - 1) (200 + n)) (J 53 43 - 1 + 1) (J 72 n)) (L := L) (L1 := L) (M2 := M) (c := I0 24 n) (k := 1) (am_WB_x hB wx mx rfl rfl) hf0 (am_WC_k hC) (fun _ _ _ => rfl) (by
    rw [am_tE_91 _ _ _ _ hk9, am_vE_0 _ _ _ _ (by decide)]
    unfold am_WM
    simp only [am_uI_c, Nat.reduceEqDiff, ↓reduceIte]
    simp only [am_up_n _ _ (show (45 : Int) ≠ 43 by decide), am_up_n _ _ (show (49 : Int) ≠ 43 by decide), am_up_s]
    rw [kd.2.2.1]
    exact ⟨am_skk_up (am_skk_up u3), t2, t3, t4, t5⟩) (am_WG_x (am_WG_k hG) wx) (Or.inl ⟨rfl, by show 1 ≤ I0 23 n; omega⟩) ho1 ho2 p1 p2 p3 (fit.2.1 (by omega)).1
  refine ⟨_, _, L, M, _, ?_, eu, ?_, am_lo_refl _, ?_, am_hi_refl _, Or.inr (Or.inr ⟨_, _, _, _, _, _, _, _, _, hW, ?_⟩)⟩
  · rw [e0]
    rw [kd.2.2.2.2.2.1] at ec
    exact t_adv_if D N n 0 _ _ L L ec
  · exact am_lo_oU I 0 _ _
  · exact am_hi_trans (am_hi_u _ _ _ _ (by decide)) (am_hi_trans (am_hi_trans (am_hi_u _ _ _ _ (by decide)) (am_hi_u _ _ _ _ (by decide))) (am_hi_trans (am_hi_u _ _ _ _ (by decide)) (am_hi_u _ _ _ _ (by decide))))
  · rw [am_mu_c, am_mu_c]
    have := am_rem_0 (I0 27) (l := l) (l1 := L 52 (I 44 16)) (l2 := L 52 (I 44 16 - 1)) p4 p3
    show am_rem (I0 27) (I0 24 n, 0, L 52 (I 44 16)) + (am_rem (I0 27) (n, 1, L 52 (I 44 16 - 1)) + am_remE (I0 27) es) + am_remF (I0 27) fs + 1536 * (240 - am_nz (I 30) (I 33 9)) + 1 ≤ _
    omega
theorem am_tE_sum (D e N : Nat) (X0 Y0 : Int) (a3 : Option am_V) {I0 I J : Nat → Int → Int} {L M : Nat → Int → Int64} {d m z w s n : Int} {l : Int64} {es : List am_En} {fs : List am_F} (h : am_WE I0 I J L M d m z w s n l es fs) (hk5 : 5 ≤ I0 23 n) (hk9 : I0 23 n ≠ 9) : am_St D e N X0 Y0 a3 I0 I J L M (am_mu I0 I ((d, m, z, w, s, (n, 0, l) :: es) :: fs)) := by
  obtain ⟨hB, hf0, hC, hM, hG, ho1, ho2⟩ := h
  obtain ⟨o0, o1, o2, hn, hk, hl, n0, n1, n2, a0, a1, hp, tl, tg, t0, g0, d0, d1, d2, m4, wd, wm, fd, fm, fit, kd, kr, k5⟩ := am_Tp_of hB hC hM (Nat.le_succ _) hG
  obtain ⟨⟨p1, p2, p3, p4⟩, -, -⟩ := k5 hk5
  have e0 := t_adv0 D N (I 44 16) n 0 (I0 23 n) I L rfl o0 o1 hn hk (by omega) (by omega) n0 (by omega) kd.1
  rw [am_TL_c, am_tE_0, am_VL_c, am_vE_0 _ _ _ _ (by decide)] at hM
  obtain ⟨t1, t2, t3, t4, t5⟩ := hM
  obtain ⟨u1, u2, u3⟩ := t1
  have hflt : J 53 50 = 0 := by have := hB.2.2.2.2.2.2.2.2.1.2.2.1; omega
  have ew := c_Mwork5 e N n (J 53 49) (J 53 43 - 1) (am_uI J 53 43 (J 53 43 - 1)) M n0 (by omega) (show 5 ≤ J 71 n by rw [kd.2.1]; exact hk5) (show J 71 n ≤ 8 by rw [kd.2.1]; omega) (by simp only [am_uI_c, ↓reduceIte, am_up_a, Int.reduceEq]) (by omega) (by omega) (by simp only [am_uI_c, ↓reduceIte, am_up_s]) (by omega) (by omega)
  have eu := u_v_work e N X0 Y0 (J 53 43) n a3 J _ M _ n0 (by omega) rfl u1 (by omega) hflt u2 ew
  have wx : am_WX I (am_tI1 I (I 44 16) 0) := am_WX_u _ _ _ _ (by decide)
  have mx : am_MX J (am_tk (am_tk (am_tk (am_uI J 53 43 (J 53 43 - 1)) (J 53 43 - 1) (100 + n)) (J 53 43 - 1 + 1) (J 73 n)) (J 53 43 - 1 + 2) (J 72 n)) := am_MX_trans (am_MX_f _ _ _ (by decide)) (am_MX_trans (am_MX_trans (am_MX_u _ _ _ _ (by decide)) (am_MX_f _ _ _ (by decide))) (am_MX_trans (am_MX_trans (am_MX_u _ _ _ _ (by decide)) (am_MX_f _ _ _ (by decide))) (am_MX_trans (am_MX_u _ _ _ _ (by decide)) (am_MX_f _ _ _ (by decide)))))
  have ec := c_asm_0 D N n (I 44 16) (am_tI1 I (I 44 16) 0) L rfl (by omega) (o2 (by omega)) n0 (by omega)
  have ec : am_call (D + 6) 105 [.inr (.inr (some 44)), .inl n, .inl 0] (am_GS N, am_GR, am_tI1 I (I 44 16) 0, L) = some (none, (am_GS N, am_GR, am_oU (am_tI1 I (I 44 16) 0) (I 44 16) (I 24 n), L)) := ec
  have hW := am_openW (I0 := I0) (I := am_tI1 I (I 44 16) 0) (J2 := am_tk (am_tk (am_tk (am_uI J 53 43 (J 53 43 - 1)) (J 53 43 - 1) (100 + n)) (J 53 43 - 1 + 1) (J 73 n)) (J 53 43 - 1 + 2) (J 72 n)) (L := L) (L1 := L) (M2 := M) (c := I0 24 n) (k := 1) (am_WB_x hB wx mx rfl rfl) hf0 (am_WC_k hC) (fun _ _ _ => rfl) (by
    rw [am_tE_51 _ _ _ _ hk5 hk9, am_vE_0 _ _ _ _ (by decide)]
    unfold am_WM
    simp only [am_uI_c, Nat.reduceEqDiff, ↓reduceIte]
    simp only [am_up_n _ _ (show (45 : Int) ≠ 43 by decide), am_up_n _ _ (show (49 : Int) ≠ 43 by decide), am_up_s]
    rw [kd.2.2.1, kd.2.2.2.1, show J 53 43 - 1 + 2 = J 53 43 - 1 + 1 + 1 by omega]
    exact ⟨am_skk_up (am_skk_up (am_skk_up u3)), t2, t3, t4, t5⟩) (am_WG_x (am_WG_k hG) wx) (Or.inl ⟨rfl, by show 1 ≤ I0 23 n; omega⟩) ho1 ho2 p1 p2 p3 (fit.2.1 hk5).1
  refine ⟨_, _, L, M, _, ?_, eu, ?_, am_lo_refl _, ?_, am_hi_refl _, Or.inr (Or.inr ⟨_, _, _, _, _, _, _, _, _, hW, ?_⟩)⟩
  · rw [e0]
    rw [kd.2.2.2.2.2.1] at ec
    exact t_adv_sum D N n 0 _ _ _ L L hk5 hk9 ec
  · exact am_lo_oU I 0 _ _
  · exact am_hi_trans (am_hi_u _ _ _ _ (by decide)) (am_hi_trans (am_hi_trans (am_hi_u _ _ _ _ (by decide)) (am_hi_u _ _ _ _ (by decide))) (am_hi_trans (am_hi_trans (am_hi_u _ _ _ _ (by decide)) (am_hi_u _ _ _ _ (by decide))) (am_hi_trans (am_hi_u _ _ _ _ (by decide)) (am_hi_u _ _ _ _ (by decide)))))
  · rw [am_mu_c, am_mu_c]
    have := am_rem_0 (I0 27) (l := l) (l1 := L 52 (I 44 16)) (l2 := L 52 (I 44 16 - 1)) p4 p3
    show am_rem (I0 27) (I0 24 n, 0, L 52 (I 44 16)) + (am_rem (I0 27) (n, 1, L 52 (I 44 16 - 1)) + am_remE (I0 27) es) + am_remF (I0 27) fs + 1536 * (240 - am_nz (I 30) (I 33 9)) + 1 ≤ _
    omega
