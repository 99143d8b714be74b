/-! value(): a NODE goes into one of its own. -/
theorem am_WG_k {I0 I : Nat → Int → Int} {d m z w s n k k2 : Int} {l l2 : Int64} {es : List am_En} {fs : List am_F} (h : am_WG I0 I ((d, m, z, w, s, (n, k, l) :: es) :: fs)) : am_WG I0 I ((d, m, z, w, s, (n, k2, l2) :: es) :: fs) := by
  obtain ⟨g1, g2, g3, g4⟩ := h
  refine ⟨fun f hf => ?_, g2, g3, g4⟩
  rcases List.mem_cons.mp hf with hf | hf
  · subst hf
    obtain ⟨z1, z2, z3, z4, z5, z6, z7, z8⟩ := g1 _ (List.mem_cons_self ..)
    exact ⟨z1, z2, z3, z4, z5, (fun h => by cases h), z7, z8⟩
  · exact g1 f (List.mem_cons_of_mem _ hf)
theorem am_WG_x {I0 I I1 : Nat → Int → Int} {fs : List am_F} (h : am_WG I0 I fs) (f : am_WX I I1) : am_WG I0 I1 fs := by
  unfold am_WG am_gF
  simp only [f 33 (by decide), f 11 (by decide), f 34 (by decide), f 30 (by decide), f 35 (by decide), f 5 (by decide), f 6 (by decide), f 36 (by decide), f 41 (by decide)]
  exact h
theorem am_WC_k {I : Nat → Int → Int} {L : Nat → Int → Int64} {d m z w s n k : Int} {l : Int64} {es : List am_En} {fs : List am_F} (h : am_WC I L ((d, m, z, w, s, (n, k, l) :: es) :: fs)) : am_WC (am_tI1 I (I 44 16) k) L ((d, m, z, w, s, (n, k + 1, l) :: es) :: fs) := by
  obtain ⟨c1, c2, c3, c4, c5, c6, c7, c8⟩ := h
  unfold am_WC
  simp only [am_uI_c, Nat.reduceEqDiff, ↓reduceIte]
  exact ⟨c1, am_skk_top c2, c3, c4, c5, c6, c7, c8⟩
theorem am_openW {I0 I J2 : Nat → Int → Int} {L L1 M2 : Nat → Int → Int64} {d m z w s n k c : Int} {l : Int64} {es : List am_En} {fs : List am_F} (hB : am_WB I0 I J2 L1 M2 ((d * 4 + m) :: am_cells fs)) (hf0 : I 41 0 = 0) (hC : am_WC I L ((d, m, z, w, s, (n, k, l) :: es) :: fs)) (hL : ∀ j, 0 ≤ j → j < I 44 16 - 1 → L1 52 j = L 52 j) (hM : am_WM J2 M2 (c :: (am_tE (I0 23) (I0 25) (n, k, L1 52 (I 44 16 - 1)) ++ (am_tEs (I0 23) (I0 25) es ++ (300 :: am_TL (I0 23) (I0 25) fs)))) (am_vE (I0 23) (n, k, L1 52 (I 44 16 - 1)) ++ (am_vEs (I0 23) es ++ am_VL (I0 23) fs)) ((d, m, z, w, s, (n, k, l) :: es) :: fs)) (hG : am_WG I0 I ((d, m, z, w, s, (n, k, l) :: es) :: fs)) (hok : am_okE (I0 23) (n, k, l)) (ho1 : ∀ y ∈ es, am_okE (I0 23) y) (ho2 : am_okF (I0 23) fs) (c0 : 0 ≤ c) (c1 : c < I0 22 8) (ch : I0 27 c < I0 27 n) (cf : am_fit (am_PF I0 (I 34 d) (I 36 d) s) (I0 23) (I0 24) (I0 25) (I0 26) (8 - es.length) c) : am_WE I0 (am_oU I (I 44 16) c) J2 L1 M2 d m z w s c (L1 52 (I 44 16)) ((n, k, L1 52 (I 44 16 - 1)) :: es) fs := by
  have hG2 := am_WG_k (k2 := k) (l2 := L1 52 (I 44 16 - 1)) hG
  obtain ⟨g1, g2, g3, g4⟩ := hG2
  obtain ⟨a1, a2, a3, a4, a5, a6, a7, a8⟩ := hC
  have a1' := a1
  obtain ⟨k1, k2, k3⟩ := a1'
  refine ⟨?_, hf0, ?_, ?_, ?_, ?_, ho2⟩
  · exact am_WB_x hB (am_WX_trans (am_WX_u _ _ _ _ (by decide)) (am_WX_trans (am_WX_u _ _ _ _ (by decide)) (am_WX_u _ _ _ _ (by decide)))) (am_MX_refl _) rfl rfl
  · unfold am_WC
    simp only [am_uI_c, Nat.reduceEqDiff, ↓reduceIte]
    rw [am_up_s, am_up_n _ _ (show (12 : Int) ≠ 16 by decide)]
    refine ⟨am_skk_up a1, am_skk_up a2, ?_, a4, a5, a6, a7, a8⟩
    refine ⟨by omega, by rw [show I 44 16 + 1 - 1 = I 44 16 by omega], ?_⟩
    rw [show I 44 16 + 1 - 1 = I 44 16 by omega]
    refine ⟨k1, rfl, ?_⟩
    exact am_skk_congr a3.2.2 hL
  · have e1 : am_TL (I0 23) (I0 25) ((d, m, z, w, s, (c, 0, L1 52 (I 44 16)) :: (n, k, L1 52 (I 44 16 - 1)) :: es) :: fs) = c :: (am_tE (I0 23) (I0 25) (n, k, L1 52 (I 44 16 - 1)) ++ (am_tEs (I0 23) (I0 25) es ++ (300 :: am_TL (I0 23) (I0 25) fs))) := by
      show am_tE (I0 23) (I0 25) (c, 0, L1 52 (I 44 16)) ++ (am_tE (I0 23) (I0 25) (n, k, L1 52 (I 44 16 - 1)) ++ am_tEs (I0 23) (I0 25) es) ++ (300 :: am_TL (I0 23) (I0 25) fs) = _
      rw [am_tE_0, List.append_assoc, List.append_assoc]
      rfl
    have e2 : am_VL (I0 23) ((d, m, z, w, s, (c, 0, L1 52 (I 44 16)) :: (n, k, L1 52 (I 44 16 - 1)) :: es) :: fs) = am_vE (I0 23) (n, k, L1 52 (I 44 16 - 1)) ++ (am_vEs (I0 23) es ++ am_VL (I0 23) fs) := by
      show am_vE (I0 23) (c, 0, L1 52 (I 44 16)) ++ (am_vE (I0 23) (n, k, L1 52 (I 44 16 - 1)) ++ am_vEs (I0 23) es) ++ am_VL (I0 23) fs = _
      rw [am_vE_0 _ _ _ _ (by decide), List.nil_append, List.append_assoc]
    rw [e1, e2]
    exact hM
  · refine ⟨fun f hf => ?_, g2, g3, g4⟩
    rcases List.mem_cons.mp hf with hf | hf
    · subst hf
      obtain ⟨z1, z2, z3, z4, z5, z6, z7, z8⟩ := g1 _ (List.mem_cons_self ..)
      have z8a := z8
      obtain ⟨y1, y2, y3, y4, y5⟩ := z8a
      have y3 : I0 27 n + (es.length : Int) ≤ 8 := y3
      refine ⟨z1, z2, z3, z4, z5, (fun h => by cases h), z7, c0, c1, ?_, ?_, z8⟩
      · show I0 27 c + (((n, k, L1 52 (I 44 16 - 1)) :: es).length : Int) ≤ 8
        rw [List.length_cons]
        omega
      · rw [List.length_cons, show 9 - (es.length + 1) = 8 - es.length by omega]
        exact cf
    · exact g1 f (List.mem_cons_of_mem _ hf)
  · intro y hy
    rcases List.mem_cons.mp hy with hy | hy
    · subst hy; exact hok
    · exact ho1 y hy
/-- one turn -/
def am_St (D e N : Nat) (X0 Y0 : Int) (a3 : Option am_V) (I0 I J : Nat → Int → Int) (L M : Nat → Int → Int64) (mu : Int) : Prop := ∃ (I2 J2 : Nat → Int → Int) (L2 M2 : Nat → Int → Int64) (b3 : Option am_V), am_call (D + 7) 102 [.inr (.inr (some 44))] (am_GS N, am_GR, I, L) = some (none, (am_GS N, am_GR, I2, L2)) ∧ am_h167 e N X0 Y0 a3 J M = am_h167 e N X0 Y0 b3 J2 M2 ∧ am_lo I I2 ∧ am_lo L L2 ∧ am_hi J J2 ∧ am_hi M M2 ∧ (am_WF I2 J2 L2 M2 ∨ (∃ fs2 : List am_F, am_WR I0 I2 J2 L2 M2 fs2 ∧ am_mu I0 I2 fs2 + 1 ≤ mu) ∨ ∃ (d m z w s n : Int) (l : Int64) (es : List am_En) (fs2 : List am_F), am_WE I0 I2 J2 L2 M2 d m z w s n l es fs2 ∧ am_mu I0 I2 ((d, m, z, w, s, (n, 0, l) :: es) :: fs2) + 1 ≤ mu)
/-- what is known of the NODE on top -/
def am_Tp (I0 I J : Nat → Int → Int) (L M : Nat → Int → Int64) (d m s n k : Int) (l : Int64) (es : List am_En) (fs : List am_F) : Prop :=
  (0 < I 44 16) ∧
  (I 44 16 ≤ 360) ∧
  (I0 27 n > 0 → I 44 16 < 360) ∧
  (I 50 (I 44 16 - 1) = n) ∧
  (I 51 (I 44 16 - 1) = k) ∧
  (L 52 (I 44 16 - 1) = l) ∧
  (0 ≤ n) ∧
  (n < I0 22 8) ∧
  (I0 22 8 ≤ 80) ∧
  (0 < I 44 12) ∧
  (I 44 12 ≤ 40) ∧
  (J 53 49 = I 44 12) ∧
  (J 53 43 < 1500) ∧
  (J 53 45 < 1500) ∧
  (0 ≤ J 53 43) ∧
  (0 ≤ J 53 45) ∧
  (0 ≤ d) ∧
  (d < I 33 9) ∧
  (d < 60) ∧
  (0 ≤ m ∧ m < 4) ∧
  (I 45 (I 44 12 - 1) = d) ∧
  (I 46 (I 44 12 - 1) = m) ∧
  (J 90 (I 44 12 - 1) = d) ∧
  (J 91 (I 44 12 - 1) = m) ∧
  (am_PF I0 (I 34 d) (I 36 d) s n ∧ (5 ≤ I0 23 n → am_fit (am_PF I0 (I 34 d) (I 36 d) s) (I0 23) (I0 24) (I0 25) (I0 26) (8 - es.length) (I0 24 n) ∧ am_fit (am_PF I0 (I 34 d) (I 36 d) s) (I0 23) (I0 24) (I0 25) (I0 26) (8 - es.length) (I0 25 n)) ∧ (I0 23 n = 9 → am_fit (am_PF I0 (I 34 d) (I 36 d) s) (I0 23) (I0 24) (I0 25) (I0 26) (8 - es.length) (I0 26 n))) ∧
  (I 23 n = I0 23 n ∧ J 71 n = I0 23 n ∧ J 72 n = I0 24 n ∧ J 73 n = I0 25 n ∧ J 74 n = I0 26 n ∧ I 24 n = I0 24 n ∧ I 25 n = I0 25 n ∧ I 26 n = I0 26 n) ∧
  (0 ≤ I0 23 n ∧ I0 23 n ≤ 9) ∧
  (5 ≤ I0 23 n → (0 ≤ I0 24 n ∧ I0 24 n < I0 22 8 ∧ I0 27 (I0 24 n) < I0 27 n ∧ 0 ≤ I0 27 (I0 24 n)) ∧ (0 ≤ I0 25 n ∧ I0 25 n < I0 22 8 ∧ I0 27 (I0 25 n) < I0 27 n ∧ 0 ≤ I0 27 (I0 25 n)) ∧ (I0 23 n = 9 → 0 ≤ I0 26 n ∧ I0 26 n < I0 22 8 ∧ I0 27 (I0 26 n) < I0 27 n ∧ 0 ≤ I0 27 (I0 26 n)))
theorem am_Tp_of {I0 I J : Nat → Int → Int} {L M : Nat → Int → Int64} {d m z w s n k : Int} {l : Int64} {es : List am_En} {fs : List am_F} {vs : List Int64} (hB : am_WB I0 I J L M ((d * 4 + m) :: am_cells fs)) (hC : am_WC I L ((d, m, z, w, s, (n, k, l) :: es) :: fs)) (hM : am_WM J M (am_TL (I0 23) (I0 25) ((d, m, z, w, s, (n, k, l) :: es) :: fs)) vs ((d, m, z, w, s, (n, k, l) :: es) :: fs)) (hv : vs.length ≤ (am_VL (I0 23) ((d, m, z, w, s, (n, k, l) :: es) :: fs)).length + 1) (hG : am_WG I0 I ((d, m, z, w, s, (n, k, l) :: es) :: fs)) : am_Tp I0 I J L M d m s n k l es fs := by
  obtain ⟨⟨w1, w2, w3⟩, hw⟩ := am_W_hw hB hC hG
  have h9 := am_W_nine hB hG
  obtain ⟨len1, len2, len3⟩ := am_lens (I0 23) (I0 25) _ h9
  have hhg := am_WB_hg hB
  have bd := am_gF_bd hB.2.1 hB.2.2.2.2.2.2.1 (hG.1 _ (List.mem_cons_self ..))
  have f9 : am_nine fs := fun f hf => h9 f (List.mem_cons_of_mem _ hf)
  obtain ⟨lf1, -, -⟩ := am_lens (I0 23) (I0 25) fs f9
  obtain ⟨c1, c2, c3, c4, c5, c6, c7, c8⟩ := hC
  obtain ⟨t1, t2, t3, t4, t5⟩ := hM
  obtain ⟨g1, g2, g3, g4⟩ := hG
  obtain ⟨z1, z2, z3, z4, z5, z6, z7, z8⟩ := g1 _ (List.mem_cons_self ..)
  obtain ⟨y1, y2, y3, y4, y5⟩ := z8
  have y1 : 0 ≤ n := y1
  have y2 : n < I0 22 8 := y2
  have y3 : I0 27 n + (es.length : Int) ≤ 8 := y3
  have lo := am_skk_len c1
  have lt := am_skk_len t1
  have lv := am_skk_len t2
  have lp := am_skk_len t3
  rw [List.length_map] at lp
  have eON : am_ON ((d, m, z, w, s, (n, k, l) :: es) :: fs) = n :: (es.map (fun e => e.1) ++ am_ON fs) := rfl
  rw [eON, List.length_cons, List.length_append, List.length_map] at lo
  rw [List.length_cons] at w3 lp len1 len2 len3 g3
  have hp : J 53 49 = I 44 12 := by omega
  have hge := hhg n y1 y2
  obtain ⟨-, -, -, r4, -, -, -, -, -, f0, -⟩ := hB
  obtain ⟨q1, q2, q3, q4⟩ := r4
  have e22 := f0 22 (by omega)
  have e23 := f0 23 (by omega)
  have e24 := f0 24 (by omega)
  have e25 := f0 25 (by omega)
  have e26 := f0 26 (by omega)
  have e27 := f0 27 (by omega)
  rw [e22, e23, e24, e25, e26, e27] at q4
  rw [e22] at q2
  obtain ⟨v1, v2, v3, v4, v5, v6, v7, v8, v9, v10, v11, v12, v13, v14⟩ := q4 n y1 y2
  refine ⟨c1.1, by omega, fun h => by omega, c1.2.1, c2.2.1, c3.2.1, y1, y2, q2, by omega, w2, hp, by omega, by omega, by omega, by omega, z1, z2, bd.2.1, ⟨bd.2.2.1, bd.2.2.2⟩, c4.2.1, c5.2.1, ?_, ?_, ?_, ⟨congrFun e23 n, v1, v2, v3, v4, congrFun e24 n, congrFun e25 n, congrFun e26 n⟩, ⟨v6, v7⟩, fun h5 => ?_⟩
  · rw [← hp]; exact t3.2.1
  · rw [← hp]; exact t4.2.1
  · have y4 : am_fit (am_PF I0 (I 34 d) (I 36 d) s) (I0 23) (I0 24) (I0 25) (I0 26) (9 - es.length) n := y4
    rw [show 9 - es.length = 8 - es.length + 1 by omega] at y4
    exact y4
  · obtain ⟨b1, b2, b3, b4, b5, b6⟩ := v13 h5
    refine ⟨⟨b1, by omega, b5, hhg _ b1 (by omega)⟩, ⟨b3, by omega, b6, hhg _ b3 (by omega)⟩, fun h9 => ?_⟩
    obtain ⟨b7, b8, b9⟩ := v14 h9
    exact ⟨b7, by omega, b9, hhg _ b7 (by omega)⟩
