/-! value(): turns to which a value has come. -/
theorem am_tR_end (D e N : Nat) (X0 Y0 : Int) (a3 : Option am_V) {I0 I J : Nat → Int → Int} {L M : Nat → Int → Int64} {d m z w s n k : Int} {l : Int64} {es : List am_En} {fs : List am_F} (h : am_WR I0 I J L M ((d, m, z, w, s, (n, k, l) :: es) :: fs)) (hc : (k = 1 ∧ 1 ≤ I0 23 n ∧ I0 23 n ≤ 4) ∨ (k = 2 ∧ I0 23 n = 9)) : am_St D e N X0 Y0 a3 I0 I J L M (am_mu I0 I ((d, m, z, w, s, (n, k, l) :: es) :: fs)) := by
  obtain ⟨hB, hf0, hC, hM, hG, hok⟩ := h
  obtain ⟨o0, o1, o2, hn, hk, hl, n0, n1, n2, a0, a1, hp, tl, tg, t0, g0, d0, d1, d2, m4, wd, wm, fd, fm, fit, kd, kr, k5⟩ := am_Tp_of hB hC hM (Nat.le_refl _) hG
  have e0 := t_adv0 D N (I 44 16) n k (I0 23 n) I L rfl o0 o1 hn hk (by omega) (by omega) n0 (by omega) kd.1
  have et : am_tE (I0 23) (I0 25) (n, k, l) = [] := by
    rcases hc with ⟨h1, h2, h3⟩ | ⟨h1, h2⟩
    · rw [h1]; exact am_tE_m _ _ _ _ h3
    · rw [h1]; exact am_tE_92 _ _ _ _ h2
  have ev : am_vE (I0 23) (n, k, l) = [] := by
    rcases hc with ⟨h1, h2, h3⟩ | ⟨h1, h2⟩
    · rw [h1]; exact am_vE_0 _ _ _ _ (by decide)
    · exact am_vE_9 _ _ _ _ h2
  rw [am_TL_c, et, am_VL_c, ev, List.nil_append, List.nil_append] at hM
  have wx : am_WX I (am_tI1 I (I 44 16) k) := am_WX_u _ _ _ _ (by decide)
  have ho1 : ∀ y ∈ es, am_okE (I0 23) y := fun y hy => hok _ (List.mem_cons_self ..) y (List.mem_cons_of_mem _ hy)
  have ho2 : am_okF (I0 23) fs := fun f hf => hok f (List.mem_cons_of_mem _ hf)
  have hN := fun D' => am_endN D' e N X0 Y0 a3 (I := am_tI1 I (I 44 16) k) (J := J) (L := L) (M := M) (v := L 44 17) (am_WB_x hB wx (am_MX_refl _) rfl rfl) hf0 (am_WC_k hC) hM (am_WG_x (am_WG_k hG) wx) ho1 ho2
  have hmu : ∀ x : Int, x = am_remE (I0 27) es + am_remF (I0 27) fs + 1536 * (240 - am_nz (I 30) (I 33 9)) → x + 1 ≤ am_mu I0 I ((d, m, z, w, s, (n, k, l) :: es) :: fs) := fun x hx => by
    rw [am_mu_c, hx]
    have := am_rem_pos (I0 27) (n, k, l)
    omega
  rcases hc with ⟨h1, h2, h3⟩ | ⟨h1, h2⟩
  · obtain ⟨I2, J2, L2, M2, b3, fs2, f1, f2, f3, f4, f5, f6, f7, f8⟩ := hN (D + 3)
    refine ⟨I2, J2, L2, M2, b3, ?_, f2, am_lo_trans (am_lo_u _ _ _ _ (by decide)) f5, f6, f7, f8, Or.inr (Or.inl ⟨fs2, f3, hmu _ f4⟩)⟩
    rw [e0]
    exact t_adv_m1 D N n k _ _ I2 L L2 h2 h3 (by omega) f1
  · obtain ⟨I2, J2, L2, M2, b3, fs2, f1, f2, f3, f4, f5, f6, f7, f8⟩ := hN (D + 2)
    refine ⟨I2, J2, L2, M2, b3, ?_, f2, am_lo_trans (am_lo_u _ _ _ _ (by decide)) f5, f6, f7, f8, Or.inr (Or.inl ⟨fs2, f3, hmu _ f4⟩)⟩
    rw [e0, h2]
    subst h1
    exact t_adv_if D N n 2 _ I2 L L2 (c_aif_2 D N n _ I2 L L2 f1)
theorem am_tR_if1 (D e N : Nat) (X0 Y0 : Int) (a3 : Option am_V) {I0 I J : Nat → Int → Int} {L M : Nat → Int → Int64} {d m z w s n : Int} {l : Int64} {es : List am_En} {fs : List am_F} (h : am_WR I0 I J L M ((d, m, z, w, s, (n, 1, l) :: es) :: fs)) (hk9 : I0 23 n = 9) : am_St D e N X0 Y0 a3 I0 I J L M (am_mu I0 I ((d, m, z, w, s, (n, 1, l) :: es) :: fs)) := by
  obtain ⟨hB, hf0, hC, hM, hG, hok⟩ := h
  obtain ⟨o0, o1, o2, hn, hk, hl, n0, n1, n2, a0, a1, hp, tl, tg, t0, g0, d0, d1, d2, m4, wd, wm, fd, fm, fit, kd, kr, k5⟩ := am_Tp_of hB hC hM (Nat.le_refl _) hG
  have e0 := t_adv0 D N (I 44 16) n 1 9 I L rfl o0 o1 hn hk (by omega) (by omega) n0 (by omega) (kd.1.trans hk9)
  rw [am_TL_c, am_tE_91 _ _ _ _ hk9, am_VL_c, am_vE_9 _ _ _ _ hk9, List.nil_append] at hM
  obtain ⟨t1, t2, t3, t4, t5⟩ := hM
  obtain ⟨u1, u2, u3⟩ := t1
  obtain ⟨v1, v2, v3⟩ := t2
  have hflt : J 53 50 = 0 := by have := hB.2.2.2.2.2.2.2.2.1.2.2.1; omega
  have eu := u_v_choice e N X0 Y0 (J 53 43) (J 53 45) n a3 J M n0 (by omega) rfl u1 (by omega) hflt u2 rfl v1 (by omega)
  rw [v2] at eu
  have wx : am_WX I (am_tI1 I (I 44 16) 1) := am_WX_u _ _ _ _ (by decide)
  have ec := c_aif_1 D N n (I 44 16) (am_tI1 I (I 44 16) 1) L rfl (by omega) (o2 (by
    obtain ⟨⟨p1, p2, p3, p4⟩, -, -⟩ := k5 (by omega)
    omega)) n0 (by omega)
  have ec : am_call (D + 6) 104 [.inr (.inr (some 44)), .inl n, .inl 1] (am_GS N, am_GR, am_tI1 I (I 44 16) 1, L) = some (none, (am_GS N, am_GR, am_oU (am_tI1 I (I 44 16) 1) (I 44 16) (if L 44 17 = 0 then I 26 n else I 25 n), L)) := ec
  rw [kd.2.2.2.2.2.2.1, kd.2.2.2.2.2.2.2] at ec
  rw [kd.2.2.2.1, kd.2.2.2.2.1] at eu
  have ho1 : ∀ y ∈ es, am_okE (I0 23) y := fun y hy => hok _ (List.mem_cons_self ..) y (List.mem_cons_of_mem _ hy)
  have ho2 : am_okF (I0 23) fs := fun f hf => hok f (List.mem_cons_of_mem _ hf)
  have hch : 0 ≤ (if L 44 17 = 0 then I0 26 n else I0 25 n) ∧ (if L 44 17 = 0 then I0 26 n else I0 25 n) < I0 22 8 ∧ I0 27 (if L 44 17 = 0 then I0 26 n else I0 25 n) < I0 27 n ∧ 0 ≤ I0 27 (if L 44 17 = 0 then I0 26 n else I0 25 n) ∧ am_fit (am_PF I0 (I 34 d) (I 36 d) s) (I0 23) (I0 24) (I0 25) (I0 26) (8 - es.length) (if L 44 17 = 0 then I0 26 n else I0 25 n) := by
    obtain ⟨-, ⟨p1, p2, p3, p4⟩, p5⟩ := k5 (by omega)
    obtain ⟨q1, q2, q3, q4⟩ := p5 hk9
    by_cases ql : L 44 17 = 0
    · rw [if_pos ql]; exact ⟨q1, q2, q3, q4, fit.2.2 hk9⟩
    · rw [if_neg ql]; exact ⟨p1, p2, p3, p4, (fit.2.1 (by omega)).2⟩
  generalize (if L 44 17 = 0 then I0 26 n else I0 25 n) = c at *
  obtain ⟨p1, p2, p3, p4, p5⟩ := hch
  have mx : am_MX J (am_tk (am_uI (am_uI J 53 43 (J 53 43 - 1)) 53 45 (J 53 45 - 1)) (J 53 43 - 1) c) := am_MX_trans (am_MX_f _ _ _ (by decide)) (am_MX_trans (am_MX_f _ _ _ (by decide)) (am_MX_trans (am_MX_u _ _ _ _ (by decide)) (am_MX_f _ _ _ (by decide))))
  have hW := am_openW (I0 := I0) (I := am_tI1 I (I 44 16) 1) (J2 := am_tk (am_uI (am_uI J 53 43 (J 53 43 - 1)) 53 45 (J 53 45 - 1)) (J 53 43 - 1) c) (L := L) (L1 := L) (M2 := M) (c := c) (k := 2) (am_WB_x hB wx mx rfl rfl) hf0 (am_WC_k hC) (fun _ _ _ => rfl) (by
    rw [am_tE_92 _ _ _ _ hk9, am_vE_9 _ _ _ _ hk9, List.nil_append]
    unfold am_WM
    simp only [am_uI_c, Nat.reduceEqDiff, ↓reduceIte]
    simp only [am_up_n _ _ (show (45 : Int) ≠ 43 by decide), am_up_n _ _ (show (49 : Int) ≠ 43 by decide), am_up_n _ _ (show (49 : Int) ≠ 45 by decide), am_up_n _ _ (show (43 : Int) ≠ 45 by decide), am_up_s]
    exact ⟨am_skk_up u3, v3, t3, t4, t5⟩) (am_WG_x (am_WG_k hG) wx) (Or.inr ⟨rfl, by show 5 ≤ I0 23 n; omega⟩) ho1 ho2 p1 p2 p3 p5
  refine ⟨_, _, L, M, _, ?_, eu, ?_, am_lo_refl _, ?_, am_hi_refl _, Or.inr (Or.inr ⟨_, _, _, _, _, _, _, _, _, hW, ?_⟩)⟩
  · rw [e0]
    exact t_adv_if D N n 1 _ _ L L ec
  · exact am_lo_oU I 1 _ _
  · exact am_hi_trans (am_hi_u _ _ _ _ (by decide)) (am_hi_trans (am_hi_u _ _ _ _ (by decide)) (am_hi_trans (am_hi_u _ _ _ _ (by decide)) (am_hi_u _ _ _ _ (by decide))))
  · rw [am_mu_c, am_mu_c]
    have := am_rem_1 (I0 27) (l := l) (l1 := L 52 (I 44 16)) (l2 := L 52 (I 44 16 - 1)) p4 p3
    show am_rem (I0 27) (c, 0, L 52 (I 44 16)) + (am_rem (I0 27) (n, 2, L 52 (I 44 16 - 1)) + am_remE (I0 27) es) + am_remF (I0 27) fs + 1536 * (240 - am_nz (I 30) (I 33 9)) + 1 ≤ _
    omega
theorem am_tR_sum1 (D e N : Nat) (X0 Y0 : Int) (a3 : Option am_V) {I0 I J : Nat → Int → Int} {L M : Nat → Int → Int64} {d m z w s n : Int} {l : Int64} {es : List am_En} {fs : List am_F} (h : am_WR I0 I J L M ((d, m, z, w, s, (n, 1, l) :: es) :: fs)) (hk5 : 5 ≤ I0 23 n) (hk9 : I0 23 n ≠ 9) : am_St D e N X0 Y0 a3 I0 I J L M (am_mu I0 I ((d, m, z, w, s, (n, 1, l) :: es) :: fs)) := by
  obtain ⟨hB, hf0, hC, hM, hG, hok⟩ := h
  obtain ⟨o0, o1, o2, hn, hk, hl, n0, n1, n2, a0, a1, hp, tl, tg, t0, g0, d0, d1, d2, m4, wd, wm, fd, fm, fit, kd, kr, k5⟩ := am_Tp_of hB hC hM (Nat.le_refl _) hG
  obtain ⟨-, ⟨p1, p2, p3, p4⟩, -⟩ := k5 hk5
  have e0 := t_adv0 D N (I 44 16) n 1 (I0 23 n) I L rfl o0 o1 hn hk (by omega) (by omega) n0 (by omega) kd.1
  rw [am_TL_c, am_tE_51 _ _ _ _ hk5 hk9, am_VL_c, am_vE_0 _ _ _ _ (by decide), List.nil_append] at hM
  have wx : am_WX I (am_tI1 I (I 44 16) 1) := am_WX_u _ _ _ _ (by decide)
  have ec := c_asm_1 D N n (I 44 16) (am_tI1 I (I 44 16) 1) L rfl o0 (o2 (by omega)) n0 (by omega)
  have ec : am_call (D + 6) 105 [.inr (.inr (some 44)), .inl n, .inl 1] (am_GS N, am_GR, am_tI1 I (I 44 16) 1, L) = some (none, (am_GS N, am_GR, am_oU (am_tI1 I (I 44 16) 1) (I 44 16) (I 25 n), am_uL L 52 (I 44 16 - 1) (L 44 17))) := ec
  rw [kd.2.2.2.2.2.2.1] at ec
  have ho1 : ∀ y ∈ es, am_okE (I0 23) y := fun y hy => hok _ (List.mem_cons_self ..) y (List.mem_cons_of_mem _ hy)
  have ho2 : am_okF (I0 23) fs := fun f hf => hok f (List.mem_cons_of_mem _ hf)
  have el : am_uL L 52 (I 44 16 - 1) (L 44 17) 52 (I 44 16 - 1) = L 44 17 := by rw [am_uL_c, if_pos rfl, am_upL_a, if_pos rfl]
  have hW := am_openW (I0 := I0) (I := am_tI1 I (I 44 16) 1) (J2 := J) (L := L) (L1 := am_uL L 52 (I 44 16 - 1) (L 44 17)) (M2 := M) (c := I0 25 n) (k := 2) (am_WB_x hB wx (am_MX_refl _) rfl rfl) hf0 (am_WC_k hC) (fun j _ j1 => by
    have j1 : j < I 44 16 - 1 := j1
    rw [am_uL_c, if_pos rfl, am_upL_a, if_neg (by omega)]) (by
    show am_WM J M (I0 25 n :: (am_tE (I0 23) (I0 25) (n, 2, am_uL L 52 (I 44 16 - 1) (L 44 17) 52 (I 44 16 - 1)) ++ _)) (am_vE (I0 23) (n, 2, am_uL L 52 (I 44 16 - 1) (L 44 17) 52 (I 44 16 - 1)) ++ _) _
    rw [el, am_tE_52 _ _ _ _ hk5 hk9, am_vE_52 _ _ _ hk5 hk9]
    exact hM) (am_WG_x (am_WG_k hG) wx) (Or.inr ⟨rfl, hk5⟩) ho1 ho2 p1 p2 p3 (fit.2.1 hk5).2
  refine ⟨_, J, _, M, a3, ?_, rfl, ?_, am_lo_uL _ _ _ _ (by decide), am_hi_refl _, am_hi_refl _, Or.inr (Or.inr ⟨_, _, _, _, _, _, _, _, _, hW, ?_⟩)⟩
  · rw [e0]
    exact t_adv_sum D N n 1 _ _ _ L _ hk5 hk9 ec
  · exact am_lo_oU I 1 _ _
  · rw [am_mu_c, am_mu_c]
    have := am_rem_1 (I0 27) (l := l) (l1 := am_uL L 52 (I 44 16 - 1) (L 44 17) 52 (I 44 16)) (l2 := am_uL L 52 (I 44 16 - 1) (L 44 17) 52 (I 44 16 - 1)) p4 p3
    show am_rem (I0 27) (I0 25 n, 0, am_uL L 52 (I 44 16 - 1) (L 44 17) 52 (I 44 16)) + (am_rem (I0 27) (n, 2, am_uL L 52 (I 44 16 - 1) (L 44 17) 52 (I 44 16 - 1)) + am_remE (I0 27) es) + am_remF (I0 27) fs + 1536 * (240 - am_nz (I 30) (I 33 9)) + 1 ≤ _
    omega
theorem am_tR_sum2 (D e N : Nat) (X0 Y0 : Int) (a3 : Option am_V) {I0 I J : Nat → Int → Int} {L M : Nat → Int → Int64} {d m z w s n : Int} {l : Int64} {es : List am_En} {fs : List am_F} (h : am_WR I0 I J L M ((d, m, z, w, s, (n, 2, l) :: es) :: fs)) (hk5 : 5 ≤ I0 23 n) (hk9 : I0 23 n ≠ 9) : am_St D e N X0 Y0 a3 I0 I J L M (am_mu I0 I ((d, m, z, w, s, (n, 2, l) :: es) :: fs)) := by
  obtain ⟨hB, hf0, hC, hM, hG, hok⟩ := h
  obtain ⟨o0, o1, o2, hn, hk, hl, n0, n1, n2, a0, a1, hp, tl, tg, t0, g0, d0, d1, d2, m4, wd, wm, fd, fm, fit, kd, kr, k5⟩ := am_Tp_of hB hC hM (Nat.le_refl _) hG
  have e0 := t_adv0 D N (I 44 16) n 2 (I0 23 n) I L rfl o0 o1 hn hk (by omega) (by omega) n0 (by omega) kd.1
  rw [am_TL_c, am_tE_52 _ _ _ _ hk5 hk9, am_VL_c, am_vE_52 _ _ _ hk5 hk9] at hM
  obtain ⟨t1, t2, t3, t4, t5⟩ := hM
  obtain ⟨u1, u2, u3⟩ := t1
  obtain ⟨v1, v2, v3, v4, v5⟩ := t2
  have v4 : M 89 (J 53 45 - 2) = l := by rw [← v4, show J 53 45 - 1 - 1 = J 53 45 - 2 by omega]
  have hflt : J 53 50 = 0 := by have := hB.2.2.2.2.2.2.2.2.1.2.2.1; omega
  have wx : am_WX I (am_tI1 I (I 44 16) 2) := am_WX_u _ _ _ _ (by decide)
  have hC1 := am_WC_k hC
  have hG1 := am_WG_x (am_WG_k (k2 := 2 + 1) (l2 := l) hG) wx
  have ho1 : ∀ y ∈ es, am_okE (I0 23) y := fun y hy => hok _ (List.mem_cons_self ..) y (List.mem_cons_of_mem _ hy)
  have ho2 : am_okF (I0 23) fs := fun f hf => hok f (List.mem_cons_of_mem _ hf)
  have ek : am_tI1 I (I 44 16) 2 23 n = I0 23 n := kd.1
  by_cases qz : I0 23 n = 8 ∧ L 44 17 = 0
  · obtain ⟨q8, q0⟩ := qz
    have et := c_tog_z (e + 2) N n (J 53 45) (J 53 49) d m (am_uI J 53 43 (J 53 43 - 1)) M n0 (by omega) (by simp only [am_uI_c, ↓reduceIte, am_up_a, Int.reduceEq]) (by omega) (by omega) (show J 71 n = 8 by rw [kd.2.1]; exact q8) (by rw [v2]; exact q0) (by simp only [am_uI_c, ↓reduceIte, am_up_a, Int.reduceEq]) (by omega) (by omega) (show J 90 (J 53 49 - 1) = d by rw [hp]; exact fd) (show J 91 (J 53 49 - 1) = m by rw [hp]; exact fm)
    have eu := u_v_tog e N X0 Y0 (J 53 43) n a3 J _ M _ n0 (by omega) rfl u1 (by omega) hflt u2 et
    have mx : am_MX J (am_uI (am_uI J 53 43 (J 53 43 - 1)) 53 45 (J 53 45 - 2)) := am_MX_trans (am_MX_f _ _ _ (by decide)) (am_MX_f _ _ _ (by decide))
    have hB1 : am_WB I0 (am_tI1 I (I 44 16) 2) (am_uI (am_uI J 53 43 (J 53 43 - 1)) 53 45 (J 53 45 - 2)) L M (am_cells ((d, m, z, w, s, (n, 2 + 1, l) :: es) :: fs)) := am_WB_x hB wx mx rfl rfl
    obtain ⟨⟨w1, w2, w3⟩, hw⟩ := am_W_hw hB1 hC1 hG1
    have ef := c_failHere D N 3 d m (am_tI1 I (I 44 16) 2) L (show 0 < I 44 12 by omega) w2 wd wm
    have ez := c_es_z D N l (am_tI1 I (I 44 16) 2) _ L L ef
    have hWF := am_failW (f := 3) (x := d) (m := m) hB1 hC1 hG1 (by decide)
    refine ⟨_, _, L, M, _, ?_, eu, ?_, am_lo_refl _, ?_, am_hi_refl _, Or.inl hWF⟩
    · rw [e0]
      refine t_adv_sum D N n 2 _ _ _ L L hk5 hk9 ?_
      refine c_asm_2 D N n (I 44 16) 8 _ _ L L rfl o0 o1 n0 (by omega) (by rw [ek]; exact q8) ?_
      rw [hl, q0]
      exact ez
    · intro k hk
      unfold am_flt
      rw [am_uI_c, if_neg (by omega), am_uI_c, if_neg (by omega), am_uI_c, if_neg (by omega)]
      exact am_lo_u _ _ _ _ (by decide) k hk
    · exact am_hi_trans (am_hi_u _ _ _ _ (by decide)) (am_hi_trans (am_hi_u _ _ _ _ (by decide)) (am_hi_trans (am_hi_u _ _ _ _ (by decide)) (am_hi_trans (am_hi_u _ _ _ _ (by decide)) (am_hi_u _ _ _ _ (by decide)))))
  · have hz : I0 23 n = 8 → ¬ L 44 17 = 0 := fun a b => qz ⟨a, b⟩
    have et := c_tog (e + 2) N n (J 53 45) (I0 23 n) (am_uI J 53 43 (J 53 43 - 1)) M n0 (by omega) (by simp only [am_uI_c, ↓reduceIte, am_up_a, Int.reduceEq]) (by omega) (by omega) (show J 71 n = I0 23 n from kd.2.1) hk5 (by omega) (by rw [v2]; exact hz)
    rw [v2, v4] at et
    have eu := u_v_tog e N X0 Y0 (J 53 43) n a3 J _ M _ n0 (by omega) rfl u1 (by omega) hflt u2 et
    have mx : am_MX J (am_uI (am_uI (am_uI J 53 43 (J 53 43 - 1)) 53 45 (J 53 45 - 2)) 53 45 (J 53 45 - 2 + 1)) := am_MX_trans (am_MX_f _ _ _ (by decide)) (am_MX_trans (am_MX_f _ _ _ (by decide)) (am_MX_f _ _ _ (by decide)))
    obtain ⟨I2, J2, L2, M2, b3, fs2, f1, f2, f3, f4, f5, f6, f7, f8⟩ := am_endN (D + 1) e N X0 Y0 (some (.inl (100 + n))) (I := am_tI1 I (I 44 16) 2) (J := am_uI (am_uI (am_uI J 53 43 (J 53 43 - 1)) 53 45 (J 53 45 - 2)) 53 45 (J 53 45 - 2 + 1)) (L := L) (M := am_uL M 89 (J 53 45 - 2) (am_sv (I0 23 n) l (L 44 17))) (v := am_sv (I0 23 n) l (L 44 17)) (am_WB_x hB wx mx rfl rfl) hf0 hC1 (by
      unfold am_WM
      simp only [am_uI_c, am_uL_c, Nat.reduceEqDiff, ↓reduceIte]
      simp only [am_up_n _ _ (show (43 : Int) ≠ 45 by decide), am_up_n _ _ (show (45 : Int) ≠ 43 by decide), am_up_n _ _ (show (49 : Int) ≠ 45 by decide), am_up_n _ _ (show (49 : Int) ≠ 43 by decide), am_up_s]
      rw [show J 53 45 - 1 - 1 = J 53 45 - 2 by omega] at v5
      exact ⟨u3, am_skk_upL v5, t3, t4, t5⟩) hG1 ho1 ho2
    refine ⟨I2, J2, L2, M2, b3, ?_, eu.trans f2, am_lo_trans (am_lo_u _ _ _ _ (by decide)) f5, f6, am_hi_trans (am_hi_trans (am_hi_u _ _ _ _ (by decide)) (am_hi_trans (am_hi_u _ _ _ _ (by decide)) (am_hi_u _ _ _ _ (by decide)))) f7, am_hi_trans (am_hi_uL _ _ _ _ (by decide)) f8, Or.inr (Or.inl ⟨fs2, f3, ?_⟩)⟩
    · rw [e0]
      refine t_adv_sum D N n 2 _ _ _ L L2 hk5 hk9 ?_
      refine c_asm_2 D N n (I 44 16) (I0 23 n) _ _ L L2 rfl o0 o1 n0 (by omega) ek ?_
      rw [hl]
      exact c_es D N (I0 23 n) l (L 44 17) _ I2 L L2 hk5 (by omega) hz f1
    · rw [f4, am_mu_c]
      have := am_rem_pos (I0 27) (n, 2, l)
      show am_remE (I0 27) es + am_remF (I0 27) fs + 1536 * (240 - am_nz (I 30) (I 33 9)) + 1 ≤ _
      omega
