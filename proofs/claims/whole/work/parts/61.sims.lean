/-! cls(), superOf(), instance(), context(), node() keep what holds. -/
theorem am_four_at (f : Int → Int) (y v : Int) : am_up (am_up (am_up (am_up f (y + 0) v) (y + 1) v) (y + 2) v) (y + 3) v = fun i => if y ≤ i ∧ i < y + 4 then v else f i := by
  funext i
  simp only [am_up_a]
  by_cases q : y ≤ i ∧ i < y + 4
  · rw [if_pos q]
    by_cases q3 : i = y + 3
    · rw [if_pos q3]
    rw [if_neg q3]
    by_cases q2 : i = y + 2
    · rw [if_pos q2]
    rw [if_neg q2]
    by_cases q1 : i = y + 1
    · rw [if_pos q1]
    rw [if_neg q1, if_pos (by omega)]
  · rw [if_neg q, if_neg (by omega), if_neg (by omega), if_neg (by omega), if_neg (by omega)]
theorem am_sim_cls (p : Int) : am_Sim 114 140 [.inl p] := by
  intro N I L h
  obtain ⟨hT, hC, hI, hN, hF, hD, hM, hP, hw1, hw2⟩ := h
  obtain ⟨r, I1, e1, I2, e2, e3⟩ := s_cls 5 N p I L hC
  refine ⟨.inl r, I1, L, e1, I2, L, e2, ?_⟩
  rcases e3 with ⟨-, rfl⟩ | ⟨p0, p1, p2, rfl⟩
  · exact ⟨hT, hC, hI, hN, hF, hD, hM, hP, hw1, hw2⟩
  unfold am_Rel
  simp only [am_RTI, am_RCI, am_RII, am_RNI, am_RFI, am_RDI, am_RMI, am_RPI, am_uI_c, Nat.reduceEqDiff, ↓reduceIte, am_up_s, am_four_at]
  simp only [am_up_a, Int.reduceEq, ↓reduceIte]
  have hCa := hC
  obtain ⟨c1, c2, c3, c4, c5⟩ := hCa
  have hIa := hI
  obtain ⟨i1, i2, i3, i4, i5⟩ := hIa
  have hNa := hN
  obtain ⟨n1, n2, n3, n4⟩ := hNa
  have mbe : ∀ c : Int, c < I 10 4 → am_up (I 11) (I 10 4) p c = I 11 c := fun c q => am_up_n _ _ (by omega)
  refine ⟨hT, ⟨by omega, by omega, rfl, fun c q0 q1 => ?_, fun c q0 q1 => ?_⟩, ⟨i1, i2, i3, fun i q0 q1 => ?_, i5⟩, ⟨n1, n2, n3, fun n q0 q1 => ?_⟩, ?_, am_RD_none rfl rfl, am_RM_none rfl, hP, hw1, hw2⟩
  · by_cases e : c = I 10 4
    · subst e
      obtain ⟨g1, g2⟩ := c5 (I 10 4) (Int.le_refl _) p2
      refine ⟨by rw [am_up_s, am_up_s], by rw [am_up_s]; exact p0, by rw [am_up_s]; exact p1, by rw [am_up_s, g1], by omega, by omega, fun k k0 k1 => by omega, fun k k0 k1 => ?_⟩
      exact (if_pos (by omega)).trans (g2 k k0 k1).symm
    · obtain ⟨b1, b2, b3, b4, b5, b6, b7, b8⟩ := c4 c q0 (by omega)
      rw [am_up_n _ _ e, am_up_n _ _ e, am_up_n _ _ e]
      refine ⟨b1, b2, b3, b4, b5, b6, b7, fun k k0 k1 => ?_⟩
      exact (if_neg (by omega)).trans (b8 k k0 k1)
  · exact c5 c (by omega) q1
  · obtain ⟨b1, b2, b3, b4, b5, b6, b7, b8, b9, b10, b11⟩ := i4 i q0 q1
    refine ⟨b1, b2, by omega, b4, b5, b6, b7, b8, b9, fun k k0 k1 => ?_, b11⟩
    obtain ⟨g1, g2, g3, g4, g5, g6⟩ := b10 k k0 k1
    exact ⟨g1, g2, by omega, g4, g5, g6⟩
  · obtain ⟨b1, b2, b3, b4, b5, b6, b7, b8, b9, b10, b11, b12, b13, b14⟩ := n4 n q0 q1
    refine ⟨b1, b2, b3, b4, b5, b6, b7, b8, b9, b10, b11, fun q => ?_, b13, b14⟩
    obtain ⟨g1, g2, g3, g4, g5, g6⟩ := b12 q
    rw [mbe _ g2]
    exact ⟨g1, by omega, g3, g4, g5, g6⟩
  · refine am_RF_to hF (am_RN_cl hN) (Int.le_refl _) (fun _ _ _ => ⟨rfl, rfl, rfl, rfl⟩) (fun c q0 q1 m m0 m1 => ?_) am_same4 (fun c q0 q1 n _ _ q => ?_) (fun i q0 q1 n z0 z1 q => ?_)
    · by_cases e : c = I 10 4
      · exact Or.inl (by rw [e]; exact (c5 (I 10 4) (Int.le_refl _) p2).2 m m0 m1)
      · exact Or.inr ⟨by omega, rfl⟩
    · obtain ⟨b1, b2, b3, b4, b5, b6, b7, b8⟩ := c4 c q0 q1
      refine am_nok_mono q rfl rfl rfl (mbe _ q1) (fun _ z => by
        by_cases y : 0 ≤ I 24 n
        · omega
        · obtain ⟨-, -, -, -, -, -, -, -, -, -, w11, -⟩ := n4 n (by omega) (by omega)
          exact absurd (w11 (Or.inl (by assumption))).1 (by omega)) (fun z1 z2 => ?_) (fun _ => rfl) (Int.le_refl _)
      obtain ⟨-, -, -, -, -, -, -, -, -, -, w11, -⟩ := n4 n (by omega) (by omega)
      have w := w11 (Or.inr z1)
      obtain ⟨y1, y2, y3⟩ := b7 (I 24 n) w.1 z2
      exact ⟨Int.le_refl _, rfl, mbe _ (by omega)⟩
    · obtain ⟨b1, b2, b3, b4, b5, b6, b7, b8, b9, b10, b11⟩ := i4 i q0 q1
      obtain ⟨-, -, -, -, -, -, -, -, -, -, w11, -⟩ := n4 n z0 z1
      refine am_nok_mono q rfl rfl rfl (mbe _ b3) (fun y1 y2 => ?_) (fun y1 y2 => ?_) (fun _ => rfl) (Int.le_refl _)
      · have w := w11 (Or.inl y1)
        obtain ⟨g1, g2, g3, -⟩ := b10 (I 24 n) w.1 y2
        exact ⟨Int.le_refl _, rfl, mbe _ g3⟩
      · have w := w11 (Or.inr y1)
        obtain ⟨-, -, -, -, -, -, d7, -⟩ := c4 (I 16 i) b2 b3
        obtain ⟨g1, g2, g3⟩ := d7 (I 24 n) w.1 y2
        exact ⟨Int.le_refl _, rfl, mbe _ (by omega)⟩
theorem am_sim_superOf (c o : Int) : am_Sim 116 142 [.inl c, .inl o] := by
  intro N I L h
  obtain ⟨hT, hC, hI, hN, hF, hD, hM, hP, hw1, hw2⟩ := h
  obtain ⟨r, I1, e1, I2, e2, e3⟩ := s_superOf 4 N c o I L hC
  refine ⟨.inl r, I1, L, e1, I2, L, e2, ?_⟩
  rcases e3 with ⟨-, rfl⟩ | ⟨p0, p1, p2, p3, p4, rfl⟩
  · exact ⟨hT, hC, hI, hN, hF, hD, hM, hP, hw1, hw2⟩
  unfold am_Rel
  simp only [am_RTI, am_RCI, am_RII, am_RNI, am_RFI, am_RDI, am_RMI, am_RPI, am_uI_c, Nat.reduceEqDiff, ↓reduceIte, am_up_s]
  simp only [am_up_a, Int.reduceEq, ↓reduceIte]
  have hCa := hC
  obtain ⟨c1, c2, c3, c4, c5⟩ := hCa
  have hIa := hI
  obtain ⟨i1, i2, i3, i4, i5⟩ := hIa
  have hNa := hN
  obtain ⟨n1, n2, n3, n4⟩ := hNa
  obtain ⟨s1, s2, s3, s4, s5, s6, s7, s8⟩ := c4 c p0 p1
  have key : ∀ (x : Int) (n : Int), 0 ≤ n → n < I 22 8 → 0 ≤ x → x < I 10 4 → I 23 n = 3 → I 24 n < I 12 x → I 12 x ≤ am_up (I 12) c (I 12 c + 1) x ∧ am_up (I 13) (c * 3 + I 12 c) o (x * 3 + I 24 n) = I 13 (x * 3 + I 24 n) := by
    intro x n q0 q1 x0 x1 y1 y2
    obtain ⟨-, -, -, -, -, -, -, -, -, -, w11, -⟩ := n4 n q0 q1
    have w := w11 (Or.inr y1)
    obtain ⟨-, -, -, -, d5, d6, -⟩ := c4 x x0 x1
    refine ⟨?_, am_up_n _ _ ?_⟩
    · rw [am_up_a]; split
      · next e => rw [e]; omega
      · omega
    · intro e
      by_cases ex : x = c
      · rw [ex] at e y2; omega
      · omega
  refine ⟨hT, ⟨c1, c2, c3, fun x q0 q1 => ?_, fun x q0 q1 => ?_⟩, hI, hN, ?_, am_RD_none rfl rfl, am_RM_none rfl, hP, hw1, hw2⟩
  · obtain ⟨b1, b2, b3, b4, b5, b6, b7, b8⟩ := c4 x q0 q1
    by_cases e : x = c
    · subst e
      rw [am_up_s, am_up_s]
      refine ⟨b1, b2, b3, rfl, by omega, by omega, fun k k0 k1 => ?_, b8⟩
      by_cases ek : k = I 12 x
      · subst ek
        rw [am_up_s, am_up_s]; exact ⟨rfl, p2, p3⟩
      · rw [am_up_n _ _ (by omega), am_up_n _ _ (by omega)]
        exact b7 k k0 (by omega)
    · rw [am_up_n _ _ e, am_up_n _ _ e]
      refine ⟨b1, b2, b3, b4, b5, b6, fun k k0 k1 => ?_, b8⟩
      rw [am_up_n _ _ (by omega), am_up_n _ _ (by omega)]
      exact b7 k k0 k1
  · rw [am_up_n _ _ (by omega)]
    exact c5 x q0 q1
  · refine am_RF_to hF (am_RN_cl hN) (Int.le_refl _) (fun _ _ _ => ⟨rfl, rfl, rfl, rfl⟩) am_same4 am_same4 (fun x q0 q1 n z0 z1 q => ?_) (fun i q0 q1 n z0 z1 q => ?_)
    · refine am_nok_mono q rfl rfl rfl rfl (fun _ _ => ⟨Int.le_refl _, rfl, rfl⟩) (fun y1 y2 => ?_) (fun _ => rfl) (Int.le_refl _)
      obtain ⟨k1, k2⟩ := key x n z0 z1 q0 q1 y1 y2
      exact ⟨k1, k2, rfl⟩
    · obtain ⟨b1, b2, b3, -⟩ := i4 i q0 q1
      refine am_nok_mono q rfl rfl rfl rfl (fun _ _ => ⟨Int.le_refl _, rfl, rfl⟩) (fun y1 y2 => ?_) (fun _ => rfl) (Int.le_refl _)
      obtain ⟨k1, k2⟩ := key (I 16 i) n z0 z1 b2 b3 y1 y2
      exact ⟨k1, k2, rfl⟩
theorem am_sim_instance (c k : Int) : am_Sim 117 144 [.inl c, .inl k] := by
  intro N I L h
  obtain ⟨hT, hC, hI, hN, hF, hD, hM, hP, hw1, hw2⟩ := h
  obtain ⟨r, I1, e1, I2, e2, e3⟩ := s_instance 4 N c k I L hT hC hI
  refine ⟨.inl r, I1, L, e1, I2, L, e2, ?_⟩
  rcases e3 with ⟨-, rfl⟩ | ⟨p0, p1, p2, p3, p4, rfl⟩
  · exact ⟨hT, hC, hI, hN, hF, hD, hM, hP, hw1, hw2⟩
  unfold am_Rel
  simp only [am_RTI, am_RCI, am_RII, am_RNI, am_RFI, am_RDI, am_RMI, am_RPI, am_uI_c, Nat.reduceEqDiff, ↓reduceIte, am_up_s, am_four_at]
  simp only [am_up_a, Int.reduceEq, ↓reduceIte]
  have hIa := hI
  obtain ⟨i1, i2, i3, i4, i5⟩ := hIa
  refine ⟨hT, hC, ⟨by omega, by omega, rfl, fun i q0 q1 => ?_, fun i q0 q1 => i5 i (by omega) q1⟩, hN, ?_, am_RD_none rfl rfl, am_RM_none rfl, hP, hw1, hw2⟩
  · by_cases e : i = I 15 8
    · subst e
      obtain ⟨g1, g2⟩ := i5 (I 15 8) (Int.le_refl _) p4
      simp only [am_up_s]
      refine ⟨trivial, p0, p1, trivial, p2, p3, by rw [g1], by omega, by omega, fun m m0 m1 => by omega, fun m m0 m1 => ?_⟩
      exact (if_pos (by omega)).trans (g2 m m0 m1).symm
    · obtain ⟨b1, b2, b3, b4, b5, b6, b7, b8, b9, b10, b11⟩ := i4 i q0 (by omega)
      simp only [am_up_n _ _ e]
      refine ⟨b1, b2, b3, b4, b5, b6, b7, b8, b9, b10, fun m m0 m1 => ?_⟩
      exact (if_neg (by omega)).trans (b11 m m0 m1)
  · refine am_RF_to hF (am_RN_cl hN) (Int.le_refl _) (fun _ _ _ => ⟨rfl, rfl, rfl, rfl⟩) am_same4 (fun i q0 q1 m m0 m1 => ?_) (fun _ _ _ _ _ _ q => q) (fun i q0 q1 n z0 z1 q => ?_)
    · by_cases e : i = I 15 8
      · exact Or.inl (by rw [e]; exact (i5 (I 15 8) (Int.le_refl _) p4).2 m m0 m1)
      · exact Or.inr ⟨by omega, rfl⟩
    · rw [am_up_n _ _ (show i ≠ I 15 8 by omega), am_up_n _ _ (show i ≠ I 15 8 by omega)]
      exact q
theorem am_sim_context (i c v : Int) : am_Sim 118 146 [.inl i, .inl c, .inl v] := by
  intro N I L h
  obtain ⟨hT, hC, hI, hN, hF, hD, hM, hP, hw1, hw2⟩ := h
  obtain ⟨r, I1, e1, I2, e2, e3⟩ := s_context 4 N i c v I L hT hC hI
  refine ⟨.inl r, I1, L, e1, I2, L, e2, ?_⟩
  rcases e3 with ⟨-, rfl⟩ | ⟨p0, p1, p2, p3, p4, p5, p6, rfl⟩
  · exact ⟨hT, hC, hI, hN, hF, hD, hM, hP, hw1, hw2⟩
  unfold am_Rel
  simp only [am_RTI, am_RCI, am_RII, am_RNI, am_RFI, am_RDI, am_RMI, am_RPI, am_uI_c, Nat.reduceEqDiff, ↓reduceIte, am_up_s]
  simp only [am_up_a, Int.reduceEq, ↓reduceIte]
  have hIa := hI
  obtain ⟨i1, i2, i3, i4, i5⟩ := hIa
  have hNa := hN
  obtain ⟨n1, n2, n3, n4⟩ := hNa
  obtain ⟨s1, s2, s3, s4, s5, s6, s7, s8, s9, s10, s11⟩ := i4 i p0 p1
  refine ⟨hT, hC, ⟨i1, i2, i3, fun j q0 q1 => ?_, fun j q0 q1 => ?_⟩, hN, ?_, am_RD_none rfl rfl, am_RM_none rfl, hP, hw1, hw2⟩
  · obtain ⟨b1, b2, b3, b4, b5, b6, b7, b8, b9, b10, b11⟩ := i4 j q0 q1
    by_cases e : j = i
    · subst e
      rw [am_up_s, am_up_s]
      refine ⟨b1, b2, b3, b4, b5, b6, rfl, by omega, by omega, fun k k0 k1 => ?_, b11⟩
      by_cases ek : k = I 18 j
      · subst ek
        simp only [am_up_s]; exact ⟨trivial, p2, p3, trivial, p4, p5⟩
      · have ne : j * 3 + k ≠ j * 3 + I 18 j := by omega
        simp only [am_up_n _ _ ne]
        exact b10 k k0 (by omega)
    · rw [am_up_n _ _ e, am_up_n _ _ e]
      refine ⟨b1, b2, b3, b4, b5, b6, b7, b8, b9, fun k k0 k1 => ?_, b11⟩
      have ne : j * 3 + k ≠ i * 3 + I 18 i := by omega
      simp only [am_up_n _ _ ne]
      exact b10 k k0 k1
  · rw [am_up_n _ _ (by omega)]
    exact i5 j q0 q1
  · refine am_RF_to hF (am_RN_cl hN) (Int.le_refl _) (fun _ _ _ => ⟨rfl, rfl, rfl, rfl⟩) am_same4 am_same4 (fun x q0 q1 n z0 z1 q => ?_) (fun j q0 q1 n z0 z1 q => ?_)
    · obtain ⟨-, -, -, -, -, -, -, -, -, -, w11, -⟩ := n4 n z0 z1
      refine am_nok_mono q rfl rfl rfl rfl (fun y1 y2 => by have := w11 (Or.inl y1); omega) (fun _ _ => ⟨Int.le_refl _, rfl, rfl⟩) (fun _ => rfl) (Int.le_refl _)
    · obtain ⟨-, -, -, -, -, -, -, b8, b9, -⟩ := i4 j q0 q1
      obtain ⟨-, -, -, -, -, -, -, -, -, -, w11, -⟩ := n4 n z0 z1
      refine am_nok_mono q rfl rfl rfl rfl (fun y1 y2 => ?_) (fun _ _ => ⟨Int.le_refl _, rfl, rfl⟩) (fun _ => rfl) (Int.le_refl _)
      have w := w11 (Or.inl y1)
      refine ⟨?_, am_up_n _ _ ?_, rfl⟩
      · rw [am_up_a]; split
        · next e => rw [e]; omega
        · omega
      · by_cases e : j = i
        · rw [e] at y2 ⊢; omega
        · omega
theorem am_hov_lt {hg : Int → Int} {k a b c : Int} (h : 5 ≤ k) : hg a < am_hov hg k a b c ∧ hg b < am_hov hg k a b c ∧ (k = 9 → hg c < am_hov hg k a b c) := by
  have e1 := am_mx_l (hg a) (hg b)
  have e2 := am_mx_r (hg a) (hg b)
  have e3 := am_mx_l (am_mx (hg a) (hg b)) (hg c)
  have e4 := am_mx_r (am_mx (hg a) (hg b)) (hg c)
  unfold am_hov
  rw [if_neg (by omega)]
  split
  · exact ⟨by omega, by omega, fun _ => by omega⟩
  · next q => exact ⟨by omega, by omega, fun z => absurd z q⟩
theorem am_sim_node (k a b c : Int) : am_Sim 119 148 [.inl k, .inl a, .inl b, .inl c] := by
  intro N I L h
  obtain ⟨hT, hC, hI, hN, hF, hD, hM, hP, hw1, hw2⟩ := h
  obtain ⟨r, I1, e1, I2, e2, e3⟩ := s_node 4 N k a b c I L hT hC hN
  refine ⟨.inl r, I1, L, e1, I2, L, e2, ?_⟩
  rcases e3 with ⟨-, rfl⟩ | ⟨w, p1, p2, rfl⟩
  · exact ⟨hT, hC, hI, hN, hF, hD, hM, hP, hw1, hw2⟩
  unfold am_Rel
  simp only [am_RTI, am_RCI, am_RII, am_RNI, am_RFI, am_RDI, am_RMI, am_RPI, am_uI_c, Nat.reduceEqDiff, ↓reduceIte, am_up_s]
  simp only [am_up_a, Int.reduceEq, ↓reduceIte]
  have hNa := hN
  obtain ⟨n1, n2, n3, n4⟩ := hNa
  have kr : 0 ≤ k ∧ k ≤ 9 := by rcases w with w | w | w | w | w | w <;> omega
  have g5 : 5 ≤ k → (0 ≤ a ∧ a < I 22 8) ∧ 0 ≤ b ∧ b < I 22 8 := fun q => by
    rcases w with w | w | w | w | w | w
    · omega
    · omega
    · omega
    · omega
    · exact w.2
    · exact ⟨w.2.1, w.2.2.1⟩
  have g9 : k = 9 → 0 ≤ c ∧ c < I 22 8 := fun q => by
    rcases w with w | w | w | w | w | w
    · omega
    · omega
    · omega
    · omega
    · omega
    · exact w.2.2.2
  have g1 : k = 1 → 0 ≤ a ∧ a ≤ 3 := fun q => by
    rcases w with w | w | w | w | w | w
    · omega
    · exact w.2
    · omega
    · omega
    · omega
    · omega
  have g2 : k = 2 ∨ k = 3 → 0 ≤ a ∧ a ≤ 3 ∧ 0 ≤ b ∧ b ≤ 3 := fun q => by
    rcases w with w | w | w | w | w | w
    · omega
    · omega
    · exact ⟨w.2.1.1, w.2.1.2, w.2.2.1, w.2.2.2⟩
    · omega
    · omega
    · omega
  have g4 : k = 4 → 0 ≤ a ∧ a < I 10 4 ∧ 0 ≤ b ∧ b < I 2 6 ∧ 0 ≤ c ∧ c < I 11 a := fun q => by
    rcases w with w | w | w | w | w | w
    · omega
    · omega
    · omega
    · exact ⟨w.2.2.1.1, w.2.2.1.2, w.2.1.1, w.2.1.2, w.2.2.2.1, w.2.2.2.2⟩
    · omega
    · omega
  have h0 : 0 ≤ am_hov (I 27) k a b c := by
    by_cases q : 5 ≤ k
    · have y := (am_hov_lt (hg := I 27) (a := a) (b := b) (c := c) q).1
      obtain ⟨z1, -⟩ := g5 q
      obtain ⟨-, -, -, -, -, -, -, y8, -⟩ := n4 a z1.1 z1.2
      omega
    · unfold am_hov; rw [if_pos (by omega)]; omega
  refine ⟨hT, hC, hI, ⟨by omega, by omega, rfl, fun n q0 q1 => ?_⟩, ?_, hD, hM, hP, hw1, hw2⟩
  · by_cases e : n = I 22 8
    · subst e
      simp only [am_up_s]
      refine ⟨trivial, trivial, trivial, trivial, trivial, kr.1, kr.2, h0, p1, g1, g2, g4, fun q => ?_, fun q => ?_⟩
      · obtain ⟨z1, z2⟩ := g5 q
        obtain ⟨y1, y2, -⟩ := am_hov_lt (hg := I 27) (a := a) (b := b) (c := c) q
        rw [am_up_n _ _ (show a ≠ I 22 8 by omega), am_up_n _ _ (show b ≠ I 22 8 by omega)]
        exact ⟨z1.1, z1.2, z2.1, z2.2, y1, y2⟩
      · have z := g9 q
        obtain ⟨-, -, y3⟩ := am_hov_lt (hg := I 27) (a := a) (b := b) (c := c) (show 5 ≤ k by omega)
        rw [am_up_n _ _ (show c ≠ I 22 8 by omega)]
        exact ⟨z.1, z.2, y3 q⟩
    · obtain ⟨b1, b2, b3, b4, b5, b6, b7, b8, b9, b10, b11, b12, b13, b14⟩ := n4 n q0 (by omega)
      simp only [am_up_n _ _ e]
      refine ⟨b1, b2, b3, b4, b5, b6, b7, b8, b9, b10, b11, b12, fun q => ?_, fun q => ?_⟩
      · have z := b13 q
        rw [am_up_n _ _ (show I 24 n ≠ I 22 8 by omega), am_up_n _ _ (show I 25 n ≠ I 22 8 by omega)]
        exact z
      · have z := b14 q
        rw [am_up_n _ _ (show I 26 n ≠ I 22 8 by omega)]
        exact z
  · refine am_RF_to hF (am_RN_cl hN) (by omega) (fun n q0 q1 => ?_) am_same4 am_same4 (fun x q0 q1 n z0 z1 q => ?_) (fun j q0 q1 n z0 z1 q => ?_)
    · have ne : n ≠ I 22 8 := by omega
      simp only [am_up_n _ _ ne]; exact ⟨trivial, trivial, trivial, trivial⟩
    · have ne : n ≠ I 22 8 := by omega
      exact am_nok_mono q (am_up_n _ _ ne) (am_up_n _ _ ne) (am_up_n _ _ ne) rfl (fun _ _ => ⟨Int.le_refl _, rfl, rfl⟩) (fun _ _ => ⟨Int.le_refl _, rfl, rfl⟩) (fun _ => rfl) (Int.le_refl _)
    · have ne : n ≠ I 22 8 := by omega
      exact am_nok_mono q (am_up_n _ _ ne) (am_up_n _ _ ne) (am_up_n _ _ ne) rfl (fun _ _ => ⟨Int.le_refl _, rfl, rfl⟩) (fun _ _ => ⟨Int.le_refl _, rfl, rfl⟩) (fun _ => rfl) (Int.le_refl _)
