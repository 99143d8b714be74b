/-! value(): a NODE ends. -/
def am_lo {α : Type} (I I1 : Nat → Int → α) : Prop := ∀ k : Nat, 53 ≤ k → I1 k = I k
def am_hi {α : Type} (I I1 : Nat → Int → α) : Prop := ∀ k : Nat, k < 53 → I1 k = I k
theorem am_lo_refl {α : Type} (I : Nat → Int → α) : am_lo I I := fun _ _ => rfl
theorem am_hi_refl {α : Type} (I : Nat → Int → α) : am_hi I I := fun _ _ => rfl
theorem am_lo_trans {α : Type} {I I1 I2 : Nat → Int → α} (h1 : am_lo I I1) (h2 : am_lo I1 I2) : am_lo I I2 := fun k hk => (h2 k hk).trans (h1 k hk)
theorem am_hi_trans {α : Type} {I I1 I2 : Nat → Int → α} (h1 : am_hi I I1) (h2 : am_hi I1 I2) : am_hi I I2 := fun k hk => (h2 k hk).trans (h1 k hk)
theorem am_lo_u (I : Nat → Int → Int) (k : Nat) (j v : Int) (h : k < 53) : am_lo I (am_uI I k j v) := fun x hx => by rw [am_uI_c, if_neg (by omega)]
theorem am_hi_u (I : Nat → Int → Int) (k : Nat) (j v : Int) (h : 53 ≤ k) : am_hi I (am_uI I k j v) := fun x hx => by rw [am_uI_c, if_neg (by omega)]
theorem am_lo_uL (I : Nat → Int → Int64) (k : Nat) (j : Int) (v : Int64) (h : k < 53) : am_lo I (am_uL I k j v) := fun x hx => by rw [am_uL_c, if_neg (by omega)]
theorem am_hi_uL (I : Nat → Int → Int64) (k : Nat) (j : Int) (v : Int64) (h : 53 ≤ k) : am_hi I (am_uL I k j v) := fun x hx => by rw [am_uL_c, if_neg (by omega)]
def am_mu (I0 I : Nat → Int → Int) (fs : List am_F) : Int := am_remF (I0 27) fs + 1536 * (240 - am_nz (I 30) (I 33 9))
theorem am_gE_len {P : Int → Prop} {I0 : Nat → Int → Int} (hh : ∀ n, 0 ≤ n → n < I0 22 8 → 0 ≤ I0 27 n) : ∀ es : List am_En, am_gE P I0 es → es.length ≤ 9 := by
  intro es
  cases es with
  | nil => intro _; exact Nat.zero_le _
  | cons e es =>
    intro h
    obtain ⟨h1, h2, h3, -⟩ := h
    have := hh e.1 h1 h2
    rw [List.length_cons]
    omega
theorem am_WB_hg {I0 I J : Nat → Int → Int} {L M : Nat → Int → Int64} {cs : List Int} (hB : am_WB I0 I J L M cs) : ∀ n, 0 ≤ n → n < I0 22 8 → 0 ≤ I0 27 n := by
  obtain ⟨-, -, -, r4, -, -, -, -, -, f, -⟩ := hB
  intro n n0 n1
  obtain ⟨-, -, -, a4⟩ := r4
  have e22 := f 22 (by omega)
  have e27 := f 27 (by omega)
  rw [e22, e27] at a4
  exact (a4 n n0 n1).2.2.2.2.2.2.2.1
theorem am_W_nine {I0 I J : Nat → Int → Int} {L M : Nat → Int → Int64} {cs : List Int} {fs : List am_F} (hB : am_WB I0 I J L M cs) (hG : am_WG I0 I fs) : am_nine fs := fun f hf => am_gE_len (am_WB_hg hB) _ (hG.1 f hf).2.2.2.2.2.2.2
theorem am_endN (D e N : Nat) (X0 Y0 : Int) (a3 : Option am_V) {I0 I J : Nat → Int → Int} {L M : Nat → Int → Int64} {d m z w s n k : Int} {l v : Int64} {es : List am_En} {fs : List am_F} (hB : am_WB I0 I J L M ((d * 4 + m) :: am_cells fs)) (hf0 : I 41 0 = 0) (hC : am_WC I L ((d, m, z, w, s, (n, k, l) :: es) :: fs)) (hM : am_WM J M (am_tEs (I0 23) (I0 25) es ++ (300 :: am_TL (I0 23) (I0 25) fs)) (v :: (am_vEs (I0 23) es ++ am_VL (I0 23) fs)) ((d, m, z, w, s, (n, k, l) :: es) :: fs)) (hG : am_WG I0 I ((d, m, z, w, s, (n, k, l) :: es) :: fs)) (ho1 : ∀ y ∈ es, am_okE (I0 23) y) (ho2 : am_okF (I0 23) fs) : ∃ (I2 J2 : Nat → Int → Int) (L2 M2 : Nat → Int → Int64) (b3 : Option am_V) (fs2 : List am_F), am_call (D + 3) 103 [.inr (.inr (some 44)), .inr (.inl v)] (am_GS N, am_GR, I, L) = some (none, (am_GS N, am_GR, I2, L2)) ∧ am_h167 e N X0 Y0 a3 J M = am_h167 e N X0 Y0 b3 J2 M2 ∧ am_WR I0 I2 J2 L2 M2 fs2 ∧ am_mu I0 I2 fs2 = am_remE (I0 27) es + am_remF (I0 27) fs + 1536 * (240 - am_nz (I 30) (I 33 9)) ∧ am_lo I I2 ∧ am_lo L L2 ∧ am_hi J J2 ∧ am_hi M M2 := by
  obtain ⟨⟨w1, w2, w3⟩, hw⟩ := am_W_hw hB hC hG
  have h9 := am_W_nine hB hG
  obtain ⟨len1, len2, len3⟩ := am_lens (I0 23) (I0 25) _ h9
  have hCa := hC
  obtain ⟨c1, c2, c3, c4, c5, c6, c7, c8⟩ := hCa
  have hMa := hM
  obtain ⟨m1, m2, m3, m4, m5⟩ := hMa
  have hGa := hG
  obtain ⟨g1, g2, g3, g4⟩ := hGa
  have l1 := am_skk_len c1
  have eON : am_ON ((d, m, z, w, s, (n, k, l) :: es) :: fs) = n :: (es.map (fun e => e.1) ++ am_ON fs) := rfl
  rw [eON, List.length_cons, List.length_append, List.length_map] at l1
  rw [eON, List.length_cons, List.length_append, List.length_map, List.length_cons] at len1
  rw [List.length_cons] at w3 g3 g4
  obtain ⟨k1, k2, k3⟩ := c1
  obtain ⟨k4, k5, k6⟩ := c2
  obtain ⟨k7, k8, k9⟩ := c3
  have c8a := c8
  obtain ⟨q1, q2, q3⟩ := c8a
  by_cases he : es = []
  · subst he
    rw [List.length_nil] at l1 len1
    obtain ⟨y1, y2, y3, y4, y5, y6, y7, y8⟩ := g1 _ (List.mem_cons_self ..)
    obtain ⟨x0, x1, x2, x3⟩ := am_gF_bd hB.2.1 hB.2.2.2.2.2.2.1 (g1 _ (List.mem_cons_self ..))
    have y1 : 0 ≤ d := y1
    have y2 : d < I 33 9 := y2
    have y5 : I 30 (d * 4 + m) = 1 := y5
    have x1 : d < 60 := x1
    have x2 : 0 ≤ m := x2
    have x3 : m < 4 := x3
    obtain ⟨r1, r2, r3, r4, r5, r6, r7, r8, r9, r10⟩ := hB
    have r7a := r7
    obtain ⟨d1, d2, d3, d4⟩ := r7a
    have nzb := am_nz_b (st := I 30) d1 d2
    have r9a := r9
    obtain ⟨p1, p2, p3, p4, p5, p6, p7, p8, p9⟩ := r9a
    have l2 := am_skk_len m1
    have l3 := am_skk_len m3
    rw [List.length_map, List.length_cons] at l3
    have l4 := am_skk_len m2
    have tl : (am_tEs (I0 23) (I0 25) [] ++ (300 :: am_TL (I0 23) (I0 25) fs)) = 300 :: am_TL (I0 23) (I0 25) fs := rfl
    have vl : (v :: (am_vEs (I0 23) [] ++ am_VL (I0 23) fs)) = v :: am_VL (I0 23) fs := rfl
    rw [tl] at m1 l2
    rw [vl] at m2 l4
    have f9 : am_nine fs := fun f hf => h9 f (List.mem_cons_of_mem _ hf)
    obtain ⟨-, lt2, lt3⟩ := am_lens (I0 23) (I0 25) fs f9
    rw [List.length_cons] at l2 l4
    obtain ⟨t1, t2, t3⟩ := m1
    obtain ⟨v1, v2, v3⟩ := m2
    obtain ⟨u1, u2, u3⟩ := m3
    obtain ⟨u4, u5, u6⟩ := m4
    obtain ⟨u7, u8, u9⟩ := m5
    have u2 : J 90 (J 53 49 - 1) = d := u2
    have u5 : J 91 (J 53 49 - 1) = m := u5
    have ec := c_endNode_out D N v (I 44 16) (I 44 12) d m (I 41 5) I L rfl rfl k1 (by omega) (by omega) w2 (by
      have : I 49 (I 44 12 - 1) = ((am_ON fs).length : Int) := q2
      omega) c4.2.1 c5.2.1 y1 x1 x2 x3 rfl p7 (by omega)
    have em := c_Mend (e + 4) N d m (J 53 49) (J 53 53) (J 53 45) (am_uI J 53 43 (J 53 43 - 1)) M (by simp only [am_uI_c, ↓reduceIte, am_up_a, Int.reduceEq]) u1 (by omega) u2 u5 y1 x1 x2 x3 (by simp only [am_uI_c, ↓reduceIte, am_up_a, Int.reduceEq]) v1 (by omega) (by simp only [am_uI_c, ↓reduceIte, am_up_a, Int.reduceEq]) (by omega) (by omega)
    have eu := u_v_300 e N X0 Y0 (J 53 43) a3 J _ M _ rfl t1 (by omega) (by rw [p3]; exact hf0) t2 em
    rw [v2] at eu
    refine ⟨_, _, _, _, _, fs, ec, eu, ⟨?_, ?_, ?_, ?_, ?_, ho2⟩, ?_, ?_, ?_, ?_, ?_⟩
    · unfold am_WB
      have ef : am_Fr0 I0 (am_eO I (I 44 16) (I 44 12) d m (I 41 5)) := ⟨fun j hj => by
        have := r10.1 j hj
        unfold am_eO
        rw [am_uI_c, if_neg (by omega), am_uI_c, if_neg (by omega), am_uI_c, if_neg (by omega), am_uI_c, if_neg (by omega), am_uI_c, if_neg (by omega), am_uI_c, if_neg (by omega)]
        exact this, r10.2⟩
      refine ⟨?_, ?_, ?_, ?_, r5, r6, ?_, r8, ?_, ef⟩
      · simp only [am_RT2, am_uI_c, Nat.reduceEqDiff, ↓reduceIte]
        simp only [am_up_a, Int.reduceEq, ↓reduceIte]
        exact r1
      · simp only [am_RC2, am_uI_c, Nat.reduceEqDiff, ↓reduceIte]
        simp only [am_up_a, Int.reduceEq, ↓reduceIte]
        exact r2
      · simp only [am_RI2, am_uI_c, Nat.reduceEqDiff, ↓reduceIte]
        simp only [am_up_a, Int.reduceEq, ↓reduceIte]
        exact r3
      · simp only [am_RN2, am_uI_c, Nat.reduceEqDiff, ↓reduceIte]
        simp only [am_up_a, Int.reduceEq, ↓reduceIte]
        exact r4
      · simp only [am_RD2, am_uI_c, am_uL_c, Nat.reduceEqDiff, ↓reduceIte]
        refine ⟨d1, d2, ?_, fun y y0 y1' => ?_⟩
        · simp only [am_up_a, Int.reduceEq, ↓reduceIte]; exact d3
        · obtain ⟨b1, b2, b3, b4, b5, b6, b7, b8, b9, b10, b11, b12, b13, b14⟩ := d4 y y0 y1'
          refine ⟨b1, b2, b3, b4, b5, b6, b7, b8, b9, b10, b11, b12, b13, fun j j0 j1 => ?_⟩
          obtain ⟨a1, a2⟩ := b14 j j0 j1
          by_cases eq : y * 4 + j = d * 4 + m
          · rw [eq, am_up_s, am_up_s, am_up_s, am_upL_a, if_pos rfl, am_upL_a, if_pos rfl]
            rw [eq] at a1
            exact ⟨a1, Or.inr (Or.inl ⟨rfl, rfl, rfl, rfl⟩)⟩
          · rw [am_up_n _ _ eq, am_up_n _ _ eq, am_up_n _ _ eq, am_upL_a, if_neg eq, am_upL_a, if_neg eq]
            refine ⟨a1, ?_⟩
            rcases a2 with a2 | a2 | ⟨a3', a4⟩
            · exact Or.inl a2
            · exact Or.inr (Or.inl a2)
            · refine Or.inr (Or.inr ⟨?_, a4⟩)
              rcases List.mem_cons.mp a3' with a5 | a5
              · exact absurd a5 eq
              · exact a5
      · simp only [am_RP2, am_uI_c, Nat.reduceEqDiff, ↓reduceIte]
        simp only [am_up_a, Int.reduceEq, ↓reduceIte]
        refine ⟨p1, p2, p3, p4, p5, by omega, by omega, by omega, fun y y0 y1' => ?_⟩
        rw [p6]
        by_cases eq : y = I 41 5
        · rw [eq, am_up_s, am_up_s, am_up_s, am_up_s]; exact ⟨rfl, rfl⟩
        · rw [am_up_n _ _ eq, am_up_n _ _ eq, am_up_n _ _ eq, am_up_n _ _ eq]; exact p9 y y0 (by omega)
    · simp only [am_uI_c, Nat.reduceEqDiff, ↓reduceIte, am_up_a, Int.reduceEq]; exact hf0
    · unfold am_WC
      simp only [am_uI_c, am_uL_c, Nat.reduceEqDiff, ↓reduceIte]
      simp only [am_up_a, Int.reduceEq, ↓reduceIte]
      exact ⟨k3, k6, k9, c4.2.2, c5.2.2, c6.2.2, c7.2.2, q3⟩
    · unfold am_WM
      simp only [am_uI_c, am_uL_c, Nat.reduceEqDiff, ↓reduceIte]
      simp only [am_up_a, am_upL_a, Int.reduceEq, ↓reduceIte]
      exact ⟨t3, ⟨v1, v2, v3⟩, u3, u6, u9⟩
    · refine ⟨fun f hf => ?_, g2.2, by omega, ?_⟩
      · obtain ⟨z1, z2, z3, z4, z5, z6, z7, z8⟩ := g1 f (List.mem_cons_of_mem _ hf)
        refine ⟨z1, z2, z3, z4, ?_, z6, z7, z8⟩
        simp only [am_uI_c, Nat.reduceEqDiff, ↓reduceIte]
        rw [am_up_n _ _ (fun eq => g2.1 (by
          have : am_fd1 f * 4 + am_fd2 f ∈ am_cells fs := List.mem_map.mpr ⟨f, hf, rfl⟩
          rw [eq] at this
          exact this))]
        exact z5
      · simp only [am_uI_c, Nat.reduceEqDiff, ↓reduceIte, am_up_s]
        rw [am_nz_end (by omega) (by omega) y5]
        omega
    · unfold am_mu
      simp only [am_uI_c, Nat.reduceEqDiff, ↓reduceIte]
      rw [am_nz_end (by omega) (by omega) y5]
      show _ = 0 + am_remF (I0 27) fs + _
      omega
    · exact am_lo_trans (am_lo_u _ _ _ _ (by decide)) (am_lo_trans (am_lo_u _ _ _ _ (by decide)) (am_lo_trans (am_lo_u _ _ _ _ (by decide)) (am_lo_trans (am_lo_u _ _ _ _ (by decide)) (am_lo_trans (am_lo_u _ _ _ _ (by decide)) (am_lo_u _ _ _ _ (by decide))))))
    · exact am_lo_trans (am_lo_uL _ _ _ _ (by decide)) (am_lo_uL _ _ _ _ (by decide))
    · exact am_hi_trans (am_hi_u _ _ _ _ (by decide)) (am_hi_trans (am_hi_u _ _ _ _ (by decide)) (am_hi_trans (am_hi_u _ _ _ _ (by decide)) (am_hi_trans (am_hi_u _ _ _ _ (by decide)) (am_hi_trans (am_hi_u _ _ _ _ (by decide)) (am_hi_trans (am_hi_u _ _ _ _ (by decide)) (am_hi_u _ _ _ _ (by decide)))))))
    · exact am_hi_uL _ _ _ _ (by decide)
  · have hpos : 0 < es.length := List.length_pos_iff.mpr he
    have ec := c_endNode_in D N v (I 44 16) (I 44 12) I L rfl rfl k1 (by omega) (by omega) w2 (by
      have : I 49 (I 44 12 - 1) = ((am_ON fs).length : Int) := q2
      omega)
    refine ⟨_, J, _, M, a3, (d, m, z, w, s, es) :: fs, ec, rfl, ⟨?_, ?_, ?_, ?_, ?_, ?_⟩, ?_, am_lo_u _ _ _ _ (by decide), am_lo_uL _ _ _ _ (by decide), am_hi_refl _, am_hi_refl _⟩
    · exact am_WB_x hB (am_WX_u _ _ _ _ (by decide)) (am_MX_refl _) rfl rfl
    · exact hf0
    · unfold am_WC
      simp only [am_uI_c, am_uL_c, Nat.reduceEqDiff, ↓reduceIte]
      simp only [am_up_a, Int.reduceEq, ↓reduceIte]
      exact ⟨k3, k6, k9, c4, c5, c6, c7, c8⟩
    · have ev : am_uL L 44 17 v 44 17 = v := by rw [am_uL_c, if_pos rfl, am_upL_a, if_pos rfl]
      rw [ev]
      exact hM
    · refine ⟨fun f hf => ?_, g2, by rw [List.length_cons]; exact g3, by rw [List.length_cons]; exact g4⟩
      rcases List.mem_cons.mp hf with hf | hf
      · subst hf
        obtain ⟨z1, z2, z3, z4, z5, z6, z7, z8⟩ := g1 _ (List.mem_cons_self ..)
        exact ⟨z1, z2, z3, z4, z5, he, z7, z8.2.2.2.2⟩
      · exact g1 f (List.mem_cons_of_mem _ hf)
    · intro f hf
      rcases List.mem_cons.mp hf with hf | hf
      · subst hf; exact ho1
      · exact ho2 f hf
    · rfl
