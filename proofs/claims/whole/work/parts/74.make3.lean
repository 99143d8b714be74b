/-! DICTIONARIES are made: the loops. -/
/-- what the making comes to -/
def am_mkP (n0 as cl : Int) (I J : Nat → Int → Int) (L M : Nat → Int → Int64) (b : Int → Prop) (r : Int) (I1 J1 : Nat → Int → Int) : Prop := am_FrC n0 I I1 ∧ am_FrM n0 J J1 ∧ am_RL2 I1 J1 ∧ ((r = as ∧ am_RD2 I1 J1 L M b ∧ (∀ d, 0 ≤ d → d < I1 33 9 → I1 37 d = am_tot I1 d) ∧ n0 < I1 33 9 ∧ I1 34 n0 = cl) ∨ ((r = -3 ∨ r = -4) ∧ I1 33 9 = n0 ∧ J1 53 28 = n0))
theorem am_mkP_step {n0 as cl r : Int} {I J I0 J0 I1 J1 : Nat → Int → Int} {L M : Nat → Int → Int64} {b : Int → Prop} (h1 : am_FrC n0 I0 I) (h2 : am_FrM n0 J0 J) (h : am_mkP n0 as cl I J L M b r I1 J1) : am_mkP n0 as cl I0 J0 L M b r I1 J1 := ⟨am_FrC_trans h1 h.1, am_FrM_trans h2 h.2.1, h.2.2⟩
theorem am_sm_new (f : Int → Int) {n0 nD : Int} (h : n0 ≤ nD) : am_sm (am_up f nD 0) n0 (nD - n0 + 1).toNat = am_sm f n0 (nD - n0).toNat := by
  rw [show (nD - n0 + 1).toNat = (nD - n0).toNat + 1 by omega]
  have e : am_sm (am_up f nD 0) n0 ((nD - n0).toNat + 1) = am_sm (am_up f nD 0) n0 (nD - n0).toNat + am_up f nD 0 (n0 + ((nD - n0).toNat : Int)) := rfl
  rw [e, am_sm_out _ _ _ _ _ (by omega), show n0 + ((nD - n0).toNat : Int) = nD by omega, am_up_s]
  omega
theorem am_mkg_tot {n0 p nD : Int} {rr mk nx pm tot tot2 : Int → Int} (h : am_mkg n0 p nD rr mk nx pm tot) (e : ∀ d, tot2 d = tot d) : am_mkg n0 p nD rr mk nx pm tot2 := by
  have e2 : tot2 = tot := funext e
  rw [e2]; exact h
theorem l_make (d e N : Nat) (c t n0 as cl : Int) (L M : Nat → Int → Int64) (b : Int → Prop) (hn0 : 0 ≤ n0) : ∀ (n : Nat) (I J : Nat → Int → Int) (p tn : Int) (a8 a9 a10 b7 b8 b9 b10 b11 b12 b13 : Option am_V), am_RT2 I J → am_RC2 I J → am_RI2 I J → am_RD2 I J L M b → am_RL2 I J → am_mkg n0 p (I 33 9) (I 39) (J 85) (J 86) (I 37) (am_tot I) → n0 < I 33 9 → I 34 n0 = cl → tn = am_sm (I 37) n0 (I 33 9 - n0).toNat + (I 33 9 - n0) - p → tn + n = 420 → ∃ (r : Int) (I1 J1 : Nat → Int → Int), am_h13 d N c t n0 as p tn a8 a9 a10 I L = some (some (.inl r), (am_GS N, am_GR, I1, L)) ∧ am_h157 e N c t n0 as p b7 b8 b9 b10 b11 b12 b13 J M = some (some (.inl r), (am_GS N, am_GR, J1, M)) ∧ am_mkP n0 as cl I J L M b r I1 J1 := by
  intro n
  induction n with
  | zero =>
    intro I J p tn a8 a9 a10 b7 b8 b9 b10 b11 b12 b13 hT hC hI hD hL hm hn hcl ht hf
    have hma := hm
    obtain ⟨m1, m2, m3, m4⟩ := hma
    have hDa := hD
    obtain ⟨d1, d2, d3, d4⟩ := hDa
    have hs := am_sm_bd (I 37) n0 (I 33 9 - n0).toNat (fun i i0 i1 => by
      obtain ⟨z1, z2, -⟩ := m4 i (by omega) (by omega)
      obtain ⟨y1, y2, y3, y4⟩ := am_tot_bd hC hI hD (w := i) (by omega) (by omega)
      have z2 : I 37 i ≤ I 18 (I 36 i) + I 12 (I 34 i) := z2
      omega)
    have hp : p = 0 := by omega
    refine ⟨as, I, J, t_make_end d N c t n0 as p tn a8 a9 a10 I L hp, u_make_end e N c t n0 as p b7 b8 b9 b10 b11 b12 b13 J M hp, am_FrC_refl _ _, am_FrM_refl _ _, hL, Or.inl ⟨rfl, hD, fun x x0 x1 => ?_, hn, hcl⟩⟩
    obtain ⟨-, -, z3⟩ := m4 x x0 x1
    rcases z3 with ⟨y, y0, y1, _⟩ | z3
    · omega
    · exact z3
  | succ n ih =>
    intro I J p tn a8 a9 a10 b7 b8 b9 b10 b11 b12 b13 hT hC hI hD hL hm hn hcl ht hf
    have hma := hm
    obtain ⟨m1, m2, m3, m4⟩ := hma
    have hDa := hD
    obtain ⟨d1, d2, d3, d4⟩ := hDa
    by_cases hp : p = 0
    · refine ⟨as, I, J, t_make_end d N c t n0 as p tn a8 a9 a10 I L hp, u_make_end e N c t n0 as p b7 b8 b9 b10 b11 b12 b13 J M hp, am_FrC_refl _ _, am_FrM_refl _ _, hL, Or.inl ⟨rfl, hD, fun x x0 x1 => ?_, hn, hcl⟩⟩
      obtain ⟨-, -, z3⟩ := m4 x x0 x1
      rcases z3 with ⟨y, y0, y1, _⟩ | z3
      · omega
      · exact z3
    have hp0 : 0 < p := by omega
    have hs := am_sm_bd (I 37) n0 (I 33 9 - n0).toNat (fun i i0 i1 => by
      obtain ⟨z1, z2, -⟩ := m4 i (by omega) (by omega)
      obtain ⟨y1, y2, y3, y4⟩ := am_tot_bd hC hI hD (w := i) (by omega) (by omega)
      have z2 : I 37 i ≤ I 18 (I 36 i) + I 12 (I 34 i) := z2
      omega)
    obtain ⟨r1, r2, r3, r4⟩ := m2 (p - 1) (by omega) (by omega)
    have htn0 : 0 ≤ tn := by omega
    have htn1 : tn < 420 := by omega
    obtain ⟨tu, tm⟩ := am_turn_ok hT hC hI hD hn0 hm hp0
    generalize hw : I 39 (p - 1) = w at *
    have w0 : 0 ≤ w := by omega
    obtain ⟨y1, y2, y3, y4⟩ := am_tot_bd hC hI hD w0 r3
    obtain ⟨z1, z2, z3⟩ := m4 w w0 r3
    have z2 : I 37 w ≤ I 18 (I 36 w) + I 12 (I 34 w) := z2
    by_cases hk : I 37 w < I 18 (I 36 w) + I 12 (I 34 w)
    · obtain ⟨pk, pe1, pe2⟩ := am_part_ok hT hC hI hD w0 r3 z1 hk
      have hDw := d4 w w0 r3
      obtain ⟨v1, v2, v3, v4, v5, v6, v7, v8, v9, v10, v11, v12, v13, v14⟩ := hDw
      rw [v1, v8] at pe1
      rw [v4, v8] at pe2
      have hpm6 : ∀ x, 0 ≤ x → x < I 33 9 → I 37 x ≤ 6 := fun x x0 x1 => by
        obtain ⟨_, z2, -⟩ := m4 x x0 x1
        obtain ⟨y1, y2, y3, y4⟩ := am_tot_bd hC hI hD x0 x1
        have z2 : I 37 x ≤ I 18 (I 36 x) + I 12 (I 34 x) := z2
        omega
      have ef := c_Dictionaries_find (d + 2) N (am_pC (I 19) (I 13) (I 18) (I 36 w) (I 34 w) (I 37 w)) (am_pT (I 5) (I 6) (I 20) (I 18) (I 36 w) (I 35 w) (I 37 w)) I L d1 d2
      have efM := c_Model_find (e + 1) N (am_pC (J 68) (J 63) (J 67) (I 36 w) (I 34 w) (I 37 w)) (am_pT (J 56) (J 57) (J 69) (J 67) (I 36 w) (I 35 w) (I 37 w)) (am_uI J 86 (p - 1) (I 37 w + 1)) M (show 0 ≤ J 53 28 by omega) (show J 53 28 ≤ 60 by omega)
      have eM2 : am_fd (fun i => am_uI J 86 (p - 1) (I 37 w + 1) 77 i = am_pC (J 68) (J 63) (J 67) (I 36 w) (I 34 w) (I 37 w) ∧ am_uI J 86 (p - 1) (I 37 w + 1) 78 i = am_pT (J 56) (J 57) (J 69) (J 67) (I 36 w) (I 35 w) (I 37 w)) (am_uI J 86 (p - 1) (I 37 w + 1) 53 28).toNat 0 = am_fD (I 34) (I 35) (I 33 9) (am_pC (I 19) (I 13) (I 18) (I 36 w) (I 34 w) (I 37 w)) (am_pT (I 5) (I 6) (I 20) (I 18) (I 36 w) (I 35 w) (I 37 w)) := by
        rw [pe1, pe2]
        exact am_fD_eq hD _ _
      rw [eM2] at efM
      generalize hpc : am_pC (I 19) (I 13) (I 18) (I 36 w) (I 34 w) (I 37 w) = pc at *
      generalize hpt : am_pT (I 5) (I 6) (I 20) (I 18) (I 36 w) (I 35 w) (I 37 w) = pt at *
      obtain ⟨k0, k1, k2, k3, k4⟩ := pk
      have rg := am_fd_rg (fun i => I 34 i = pc ∧ I 35 i = pt) (I 33 9).toNat 0 (by omega)
      have hx : am_fD (I 34) (I 35) (I 33 9) pc pt = am_fd (fun i => I 34 i = pc ∧ I 35 i = pt) (I 33 9).toNat 0 := rfl
      rw [hx] at efM
      generalize am_fd (fun i => I 34 i = pc ∧ I 35 i = pt) (I 33 9).toNat 0 = x at *
      by_cases qx : x = -1
      · have hx1 : x = -1 := qx
        rw [hx1] at ef efM
        have ef2 : am_call (d + 3) 14 [.inr (.inr (some 33)), .inl (am_pC (I 19) (I 13) (I 18) (I 36 w) (I 34 w) (I 37 w)), .inl (am_pT (I 5) (I 6) (I 20) (I 18) (I 36 w) (I 35 w) (I 37 w))] (am_GS N, am_GR, I, L) = some (some (.inl (-1)), (am_GS N, am_GR, I, L)) := by rw [hpc, hpt]; exact ef
        have hTa := hT
        obtain ⟨t1, t2, t3, t4, t5, t6, -⟩ := hTa
        have hIa := hI
        obtain ⟨i1, i2, i3, i4, -⟩ := hIa
        have fe := am_fi_eq hT hI pc (t := pt) (by omega) k3
        have rgi := am_fd_rg (fun i => I 16 i = pc ∧ I 17 i = I 4 pt) (I 15 8).toNat 0 (by omega)
        by_cases qi : am_fi (I 16) (I 17) (I 15 8) pc (I 4 pt) = -1
        · have eb := c_begin_no d N pc pt I L i1 i2 (by omega) (by omega) qi
          have ebM := c_beginM_no e N pc pt (am_uI J 86 (p - 1) (I 37 w + 1)) M (show 0 ≤ J 53 14 by omega) (show J 53 14 ≤ 20 by omega) (by omega) (by omega) (fe.trans qi)
          have et := t_make_fail d N c t n0 as p tn w (I 37 w) (I 36 w) (I 34 w) (I 35 w) (I 18 (I 36 w)) (I 12 (I 34 w)) (-4) a8 a9 a10 I (am_lak I pc pt) L tu htn0 htn1 hk ef2 (by rw [hpc, hpt]; exact eb) (by omega)
          have eu := u_make_fail e N c t n0 as p w (I 37 w) (I 36 w) (I 34 w) (I 35 w) (I 18 (I 36 w)) (I 12 (I 34 w)) (-4) b7 b8 b9 b10 b11 b12 b13 J (am_lakM (am_uI J 86 (p - 1) (I 37 w + 1)) pc pt) M tm hk efM (by rw [pe1, pe2]; exact ebM) (by omega)
          refine ⟨-4, _, _, et, eu, ?_, ?_, ?_, Or.inr ⟨Or.inr rfl, ?_, ?_⟩⟩
          · exact am_FrC_trans (am_fr_obj _ _) (am_FrC_trans (am_fr_obj _ _) (am_fr_obj _ _))
          · exact am_FrM_trans (am_fr_nx _ _) (am_FrM_trans (am_fr_objM _ _ (by omega)) (am_FrM_trans (am_fr_objM _ _ (by omega)) (am_fr_objM _ _ (by omega))))
          · simp only [am_RL2, am_lak, am_lakM, am_uI_c, Nat.reduceEqDiff, ↓reduceIte, am_up_a, Int.reduceEq]
            exact ⟨trivial, trivial⟩
          · simp only [am_uI_c, ↓reduceIte, am_up_s]
          · simp only [am_uI_c, ↓reduceIte, am_up_s]
        have rgi : 0 ≤ am_fi (I 16) (I 17) (I 15 8) pc (I 4 pt) ∧ am_fi (I 16) (I 17) (I 15 8) pc (I 4 pt) < I 15 8 ∧ I 16 (am_fi (I 16) (I 17) (I 15 8) pc (I 4 pt)) = pc ∧ I 17 (am_fi (I 16) (I 17) (I 15 8) pc (I 4 pt)) = I 4 pt := by
          rcases rgi with z | ⟨z1, z2, z3, z4⟩
          · exact absurd z qi
          · exact ⟨z1, by unfold am_fi; omega, z3, z4⟩
        by_cases qn : I 33 9 < 60
        · have eb := c_begin_ok d N pc pt I L i1 i2 (by omega) (by omega) qi qn d1
          have ebM := c_beginM_ok e N pc pt (am_uI J 86 (p - 1) (I 37 w + 1)) M (show 0 ≤ J 53 14 by omega) (show J 53 14 ≤ 20 by omega) (by omega) (by omega) (fun z => qi (fe.symm.trans z)) (show J 53 28 < 60 by omega) (show 0 ≤ J 53 28 by omega)
          have ebM : am_call (e + 2) 159 [.inr (.inr (some 53)), .inl pc, .inl pt] (am_GS N, am_GR, am_uI J 86 (p - 1) (I 37 w + 1), M) = some (some (.inl (J 53 28)), (am_GS N, am_GR, am_begM (am_uI J 86 (p - 1) (I 37 w + 1)) (J 53 28) pc pt (am_fi (J 65) (J 66) (J 53 14) pc (J 55 pt)), M)) := ebM
          rw [fe, d3] at ebM
          generalize am_fi (I 16) (I 17) (I 15 8) pc (I 4 pt) = ii at *
          have et := t_make_new d N c t n0 as p tn w (I 37 w) (I 36 w) (I 34 w) (I 35 w) (I 18 (I 36 w)) (I 12 (I 34 w)) (I 33 9) a8 a9 a10 I (am_beg I (I 33 9) pc pt ii) L tu htn0 htn1 hk ef2 (by rw [hpc, hpt]; exact eb) (by omega) (by omega) (by simp only [am_beg, am_clr, am_uI_c, am_sI_c, Nat.reduceEqDiff, ↓reduceIte]; exact am_up_n _ _ (by omega))
          obtain ⟨c7, c8, c9, c10, c11, c12, c13, eu⟩ := u_make_new e N c t n0 as p w (I 37 w) (I 36 w) (I 34 w) (I 35 w) (I 18 (I 36 w)) (I 12 (I 34 w)) (I 33 9) b7 b8 b9 b10 b11 b12 b13 J (am_begM (am_uI J 86 (p - 1) (I 37 w + 1)) (I 33 9) pc pt ii) M tm hk efM (by rw [pe1, pe2]; exact ebM) (by omega) (by omega)
          have nDn := am_RD_new hD qn k0 k1 k2 k3 k4 rgi.1 rgi.2.1 rgi.2.2.1 rgi.2.2.2
          have nD2 := am_RD_have nDn (y := w) (k := I 37 w) (x := I 33 9) w0 (by omega) (am_up_n _ _ (by omega)) z1 (by omega) d1 (by omega) (fun x x0 x1 => by
            by_cases ex : x = I 33 9
            · rw [ex, am_up_s]; omega
            · rw [am_up_n _ _ ex]; exact hpm6 x x0 (by omega)) (by
            rw [am_up_s, am_up_n _ _ (show w ≠ I 33 9 by omega), am_up_n _ _ (show w ≠ I 33 9 by omega)]; exact hpc.symm)
          have nm1 := am_mkg_have hm hp0 hw rfl (show I 37 w < am_tot I w from hk)
          have nm2 := am_mkg_new (tot2 := fun x => I 18 (am_up (I 36) (I 33 9) ii x) + I 12 (am_up (I 34) (I 33 9) pc x)) nm1 (by omega) (by omega) (by
            show 0 ≤ I 18 (am_up (I 36) (I 33 9) ii (I 33 9)) + I 12 (am_up (I 34) (I 33 9) pc (I 33 9))
            rw [am_up_s, am_up_s]
            have g1 := i4 ii rgi.1 rgi.2.1
            have g2 := hC.2.2.2.1 pc k0 k1
            omega) (fun x x0 x1 => by
            show I 18 (am_up (I 36) (I 33 9) ii x) + I 12 (am_up (I 34) (I 33 9) pc x) = _
            rw [am_up_n _ _ (by omega), am_up_n _ _ (by omega)]) hn0
          have cm : am_up (am_up (I 37) w (I 37 w + 1)) (I 33 9) 0 = am_up (am_up (I 37) (I 33 9) 0) w (I 37 w + 1) := by
            funext x
            simp only [am_up_a]
            by_cases ex : x = I 33 9
            · rw [if_pos ex, if_neg (by omega), if_pos ex]
            · rw [if_neg ex, if_neg ex]
          rw [cm] at nm2
          have sm2 := am_sm_up (am_up (I 37) (I 33 9) 0) n0 w (I 37 w + 1) (by omega) (I 33 9 - n0 + 1).toNat (by omega)
          have sm3 := am_sm_new (I 37) (n0 := n0) (nD := I 33 9) (by omega)
          rw [am_up_n _ _ (show w ≠ I 33 9 by omega)] at sm2
          obtain ⟨r, I1, J1, e1, e2, e3⟩ := ih (am_uI (am_uI (am_uI (am_beg I (I 33 9) pc pt ii) 39 p (I 33 9)) 38 (w * 6 + I 37 w) (I 33 9)) 37 w (I 37 w + 1)) (am_uI (am_uI (am_uI (am_begM (am_uI J 86 (p - 1) (I 37 w + 1)) (I 33 9) pc pt ii) 85 p (I 33 9)) 86 p 0) 80 (w * 6 + I 37 w) (I 33 9)) (p + 1) (tn + 1) (some (.inl w)) (some (.inl (I 37 w))) (some (.inl (I 33 9))) c7 c8 c9 c10 c11 c12 c13 hT hC hI (by
            simp only [am_RD2, am_beg, am_clr, am_begM, am_clrM, am_uI_c, am_sI_c, Nat.reduceEqDiff, ↓reduceIte, am_up_s]
            rw [d3] at nD2
            exact nD2) (by
            simp only [am_RL2, am_beg, am_clr, am_begM, am_clrM, am_uI_c, am_sI_c, Nat.reduceEqDiff, ↓reduceIte, am_up_a, Int.reduceEq]
            exact hL) (by
            simp only [am_tot, am_beg, am_clr, am_begM, am_clrM, am_uI_c, am_sI_c, Nat.reduceEqDiff, ↓reduceIte, am_up_s]
            exact am_mkg_tot nm2 (fun x => by simp only [am_tot, am_beg, am_clr, am_uI_c, am_sI_c, Nat.reduceEqDiff, ↓reduceIte])) (by
            simp only [am_beg, am_clr, am_uI_c, am_sI_c, Nat.reduceEqDiff, ↓reduceIte, am_up_s]
            omega) (by
            simp only [am_beg, am_clr, am_uI_c, am_sI_c, Nat.reduceEqDiff, ↓reduceIte]
            rw [am_up_n _ _ (by omega)]
            exact hcl) (by
            simp only [am_beg, am_clr, am_uI_c, am_sI_c, Nat.reduceEqDiff, ↓reduceIte, am_up_s]
            rw [show I 33 9 + 1 - n0 = I 33 9 - n0 + 1 by omega]
            omega) (by omega)
          refine ⟨r, I1, J1, et.trans e1, eu.trans e2, am_mkP_step ?_ ?_ e3⟩
          · exact am_FrC_trans (am_fr_beg n0 I (by omega)) (am_FrC_trans (am_fr_row n0 _) (am_fr_have n0 _ (by omega) z1 (by omega)))
          · exact am_FrM_trans (am_fr_nx n0 J) (am_FrM_trans (am_fr_begM n0 _ (by omega)) (am_FrM_trans (am_fr_mk n0 _) (am_fr_haveM n0 _ (by omega) z1 (by omega))))
        · have eb := c_begin_full d N pc pt I L i1 i2 (by omega) (by omega) qi qn
          have ebM := c_beginM_full e N pc pt (am_uI J 86 (p - 1) (I 37 w + 1)) M (show 0 ≤ J 53 14 by omega) (show J 53 14 ≤ 20 by omega) (by omega) (by omega) (fun z => qi (fe.symm.trans z)) (show J 53 28 = 60 by omega)
          have et := t_make_fail d N c t n0 as p tn w (I 37 w) (I 36 w) (I 34 w) (I 35 w) (I 18 (I 36 w)) (I 12 (I 34 w)) (-3) a8 a9 a10 I I L tu htn0 htn1 hk ef2 (by rw [hpc, hpt]; exact eb) (by omega)
          have eu := u_make_fail e N c t n0 as p w (I 37 w) (I 36 w) (I 34 w) (I 35 w) (I 18 (I 36 w)) (I 12 (I 34 w)) (-3) b7 b8 b9 b10 b11 b12 b13 J (am_uI J 86 (p - 1) (I 37 w + 1)) M tm hk efM (by rw [pe1, pe2]; exact ebM) (by omega)
          refine ⟨-3, _, _, et, eu, am_fr_obj _ _, am_FrM_trans (am_fr_nx _ _) (am_fr_objM _ _ (by omega)), ?_, Or.inr ⟨Or.inl rfl, ?_, ?_⟩⟩
          · simp only [am_RL2, am_uI_c, Nat.reduceEqDiff, ↓reduceIte, am_up_a, Int.reduceEq]
            exact hL
          · simp only [am_uI_c, ↓reduceIte, am_up_s]
          · simp only [am_uI_c, ↓reduceIte, am_up_s]
      · have rg : 0 ≤ x ∧ x < I 33 9 ∧ I 34 x = pc := by
          rcases rg with z | ⟨z1, z2, z3, z4⟩
          · exact absurd z qx
          · exact ⟨z1, by omega, z3⟩
        obtain ⟨c7, c8, c9, c10, c11, c12, c13, eu⟩ := u_make_have e N c t n0 as p w (I 37 w) (I 36 w) (I 34 w) (I 35 w) (I 18 (I 36 w)) (I 12 (I 34 w)) x b7 b8 b9 b10 b11 b12 b13 J M tm hk efM qx
        have et := t_make_have d N c t n0 as p tn w (I 37 w) (I 36 w) (I 34 w) (I 35 w) (I 18 (I 36 w)) (I 12 (I 34 w)) x a8 a9 a10 I L tu htn0 htn1 hk (by rw [hpc, hpt]; exact ef) qx
        have nD2 := am_RD_have hD w0 r3 rfl z1 (by omega) rg.1 rg.2.1 hpm6 (by rw [rg.2.2]; exact hpc.symm)
        have nm2 := am_mkg_have hm hp0 hw rfl (show I 37 w < am_tot I w from hk)
        have sm2 := am_sm_up (I 37) n0 w (I 37 w + 1) (by omega) (I 33 9 - n0).toNat (by omega)
        obtain ⟨r, I1, J1, e1, e2, e3⟩ := ih (am_uI (am_uI I 38 (w * 6 + I 37 w) x) 37 w (I 37 w + 1)) (am_uI (am_uI J 86 (p - 1) (I 37 w + 1)) 80 (w * 6 + I 37 w) x) p (tn + 1) (some (.inl w)) (some (.inl (I 37 w))) (some (.inl x)) c7 c8 c9 c10 c11 c12 c13 hT hC hI (by simp only [am_RD2, am_tot, am_uI_c, Nat.reduceEqDiff, ↓reduceIte]; exact nD2) hL (by simp only [am_RD2, am_tot, am_uI_c, Nat.reduceEqDiff, ↓reduceIte]; exact nm2) hn hcl (by simp only [am_RD2, am_tot, am_uI_c, Nat.reduceEqDiff, ↓reduceIte]; omega) (by omega)
        exact ⟨r, I1, J1, et.trans e1, eu.trans e2, am_mkP_step (am_fr_have n0 I (by omega) z1 (by omega)) (am_fr_haveM n0 J (by omega) z1 (by omega)) e3⟩
    · have he : I 37 w = I 18 (I 36 w) + I 12 (I 34 w) := by omega
      obtain ⟨r, I1, J1, e1, e2, e3⟩ := ih I J (p + -1) (tn + 1) (some (.inl w)) (some (.inl (I 37 w))) a10 (some (.inl w)) (some (.inl (I 37 w))) b9 b10 b11 b12 b13 hT hC hI hD hL (am_mkg_pop hm hp0 (by rw [hw]; exact he)) hn hcl (by omega) (by omega)
      exact ⟨r, I1, J1, (t_make_pop d N c t n0 as p tn w (I 37 w) (I 36 w) (I 34 w) (I 35 w) (I 18 (I 36 w)) (I 12 (I 34 w)) a8 a9 a10 I L tu htn0 htn1 hk).trans e1, (u_make_pop e N c t n0 as p w (I 37 w) (I 36 w) (I 34 w) (I 35 w) (I 18 (I 36 w)) (I 12 (I 34 w)) b7 b8 b9 b10 b11 b12 b13 J M tm he).trans e2, e3⟩
