/-! What stays when CONSTRUCTORS, TYPES, CLASSES, .. are added. -/
theorem am_fit_grow {P Q : Int → Prop} {kd na nb nc kd2 na2 nb2 nc2 : Int → Int} {B : Int} (hcl : ∀ n, 0 ≤ n → n < B → (5 ≤ kd n → 0 ≤ na n ∧ na n < B ∧ 0 ≤ nb n ∧ nb n < B) ∧ (kd n = 9 → 0 ≤ nc n ∧ nc n < B)) (hPQ : ∀ n, 0 ≤ n → n < B → kd2 n = kd n ∧ na2 n = na n ∧ nb2 n = nb n ∧ nc2 n = nc n ∧ (P n → Q n)) : ∀ (k : Nat) (n : Int), 0 ≤ n → n < B → am_fit P kd na nb nc k n → am_fit Q kd2 na2 nb2 nc2 k n := by
  intro k
  induction k with
  | zero => intro n _ _ _; trivial
  | succ k ih =>
    intro n n0 n1 h
    obtain ⟨h1, h2, h3⟩ := h
    obtain ⟨e1, e2, e3, e4, e5⟩ := hPQ n n0 n1
    obtain ⟨c1, c2⟩ := hcl n n0 n1
    refine ⟨e5 h1, fun q => ?_, fun q => ?_⟩
    · rw [e1] at q; rw [e2, e3]
      obtain ⟨g1, g2, g3, g4⟩ := c1 q
      exact ⟨ih _ g1 g2 (h2 q).1, ih _ g3 g4 (h2 q).2⟩
    · rw [e1] at q; rw [e4]
      obtain ⟨g1, g2⟩ := c2 q
      exact ih _ g1 g2 (h3 q)
theorem am_RN_cl {nN mN nt nC : Int} {mb kd na nb nc hg km am bm cm hm : Int → Int} (h : am_RN nN mN nt nC mb kd na nb nc hg km am bm cm hm) : ∀ n, 0 ≤ n → n < nN → (5 ≤ kd n → 0 ≤ na n ∧ na n < nN ∧ 0 ≤ nb n ∧ nb n < nN) ∧ (kd n = 9 → 0 ≤ nc n ∧ nc n < nN) := by
  obtain ⟨-, -, -, a4⟩ := h
  intro n n0 n1
  obtain ⟨-, -, -, -, -, -, -, -, -, -, -, -, b13, b14⟩ := a4 n n0 n1
  refine ⟨fun q => ?_, fun q => ?_⟩
  · have := b13 q; omega
  · have := b14 q; omega
theorem am_nok_mono {mb su sr cc op kd na nb mb2 su2 sr2 cc2 op2 kd2 na2 nb2 : Int → Int} {cl nx cb v nx2 v2 n : Int} (h : am_nok mb su sr cc op kd na nb cl nx cb v n) (ek : kd2 n = kd n) (ea : na2 n = na n) (eb : nb2 n = nb n) (h1 : mb2 cl = mb cl)
    (h2 : kd n = 2 → na n < nx → nx ≤ nx2 ∧ cc2 (cb + na n) = cc (cb + na n) ∧ mb2 (cc (cb + na n)) = mb (cc (cb + na n))) (h3 : kd n = 3 → na n < su cl → su cl ≤ su2 cl ∧ sr2 (cl * 3 + na n) = sr (cl * 3 + na n) ∧ mb2 (sr (cl * 3 + na n)) = mb (sr (cl * 3 + na n))) (h4 : kd n = 4 → op2 (nb n) = op (nb n)) (h5 : v ≤ v2) : am_nok mb2 su2 sr2 cc2 op2 kd2 na2 nb2 cl nx2 cb v2 n := by
  obtain ⟨a1, a2, a3, a4⟩ := h
  unfold am_nok
  rw [ek, ea, eb]
  refine ⟨fun q => by rw [h1]; exact a1 q, fun q => ?_, fun q => ?_, fun q => ?_⟩
  · obtain ⟨b1, b2⟩ := a2 q
    obtain ⟨c1, c2, c3⟩ := h2 q b1
    rw [c2, c3]
    exact ⟨by omega, b2⟩
  · obtain ⟨b1, b2⟩ := a3 q
    obtain ⟨c1, c2, c3⟩ := h3 q b1
    rw [c2, c3]
    exact ⟨by omega, b2⟩
  · rw [h4 q]
    exact Int.le_trans (a4 q) h5
theorem am_RF_to {nC nI nN nC2 nI2 nN2 : Int} {mb su sr sd ic ih ix cc bd pl op kd na nb nc mb2 su2 sr2 sd2 ic2 ih2 ix2 cc2 bd2 pl2 op2 kd2 na2 nb2 nc2 : Int → Int} (h : am_RF nC nI nN mb su sr sd ic ih ix cc bd pl op kd na nb nc) (hcl : ∀ n, 0 ≤ n → n < nN → (5 ≤ kd n → 0 ≤ na n ∧ na n < nN ∧ 0 ≤ nb n ∧ nb n < nN) ∧ (kd n = 9 → 0 ≤ nc n ∧ nc n < nN)) (hN : nN ≤ nN2)
    (hn : ∀ n, 0 ≤ n → n < nN → kd2 n = kd n ∧ na2 n = na n ∧ nb2 n = nb n ∧ nc2 n = nc n)
    (hc : ∀ c, 0 ≤ c → c < nC2 → ∀ m, 0 ≤ m → m < 4 → sd2 (c * 4 + m) = -1 ∨ (c < nC ∧ sd2 (c * 4 + m) = sd (c * 4 + m)))
    (hi : ∀ i, 0 ≤ i → i < nI2 → ∀ m, 0 ≤ m → m < 4 → bd2 (i * 4 + m) = -1 ∨ (i < nI ∧ bd2 (i * 4 + m) = bd (i * 4 + m)))
    (pc : ∀ c, 0 ≤ c → c < nC → ∀ n, 0 ≤ n → n < nN → am_nok mb su sr cc op kd na nb c 0 0 1 n → am_nok mb2 su2 sr2 cc2 op2 kd2 na2 nb2 c 0 0 1 n)
    (pi : ∀ i, 0 ≤ i → i < nI → ∀ n, 0 ≤ n → n < nN → am_nok mb su sr cc op kd na nb (ic i) (ix i) (i * 3) (pl (ih i)) n → am_nok mb2 su2 sr2 cc2 op2 kd2 na2 nb2 (ic2 i) (ix2 i) (i * 3) (pl2 (ih2 i)) n) :
    am_RF nC2 nI2 nN2 mb2 su2 sr2 sd2 ic2 ih2 ix2 cc2 bd2 pl2 op2 kd2 na2 nb2 nc2 := by
  obtain ⟨h1, h2⟩ := h
  refine ⟨fun c c0 c1 m m0 m1 => ?_, fun i i0 i1 m m0 m1 => ?_⟩
  · rcases hc c c0 c1 m m0 m1 with q | ⟨q, e⟩
    · exact Or.inl q
    · rw [e]
      rcases h1 c c0 q m m0 m1 with w | ⟨w1, w2, w3⟩
      · exact Or.inl w
      · refine Or.inr ⟨w1, by omega, am_fit_grow hcl (fun n n0 n1 => ?_) 9 _ w1 w2 w3⟩
        obtain ⟨e1, e2, e3, e4⟩ := hn n n0 n1
        exact ⟨e1, e2, e3, e4, pc c c0 q n n0 n1⟩
  · rcases hi i i0 i1 m m0 m1 with q | ⟨q, e⟩
    · exact Or.inl q
    · rw [e]
      rcases h2 i i0 q m m0 m1 with w | ⟨w1, w2, w3⟩
      · exact Or.inl w
      · refine Or.inr ⟨w1, by omega, am_fit_grow hcl (fun n n0 n1 => ?_) 9 _ w1 w2 w3⟩
        obtain ⟨e1, e2, e3, e4⟩ := hn n n0 n1
        exact ⟨e1, e2, e3, e4, pi i i0 q n n0 n1⟩
theorem am_same4 {f : Int → Int} {B : Int} : ∀ c, 0 ≤ c → c < B → ∀ m, 0 ≤ m → m < 4 → f (c * 4 + m) = -1 ∨ (c < B ∧ f (c * 4 + m) = f (c * 4 + m)) := fun _ _ c1 _ _ _ => Or.inr ⟨c1, rfl⟩
/-- constructor() -/
theorem am_sim_constructor (p : Int) : am_Sim 112 134 [.inl p] := by
  intro N I L h
  obtain ⟨hT, hC, hI, hN, hF, hD, hM, hP, hw1, hw2⟩ := h
  obtain ⟨r, I1, e1, I2, e2, e3⟩ := s_constructor 6 N p I L hT
  refine ⟨.inl r, I1, L, e1, I2, L, e2, ?_⟩
  rcases e3 with ⟨-, rfl⟩ | ⟨p0, p1, p2, rfl⟩
  · exact ⟨hT, hC, hI, hN, hF, hD, hM, hP, hw1, hw2⟩
  unfold am_Rel
  simp only [am_RTI, am_RCI, am_RII, am_RNI, am_RFI, am_RDI, am_RMI, am_RPI, am_uI_c, Nat.reduceEqDiff, ↓reduceIte, am_up_s]
  simp only [am_up_a, Int.reduceEq, ↓reduceIte]
  have hT2 := am_RT_addC hT p0 p1 p2
  have hTa := hT
  obtain ⟨t1, t2, t3, t4, -⟩ := hTa
  have hIa := hI
  obtain ⟨i1, i2, i3, i4, i5⟩ := hIa
  refine ⟨hT2, hC, ⟨i1, i2, i3, fun i q0 q1 => ?_, i5⟩, hN, ?_, hD, hM, hP, hw1, hw2⟩
  · obtain ⟨b1, b2, b3, b4, b5, b6, b7, b8, b9, b10, b11⟩ := i4 i q0 q1
    rw [am_up_n _ _ (show I 17 i ≠ I 2 1 by omega)]
    exact ⟨b1, b2, b3, b4, b5, by omega, b7, b8, b9, b10, b11⟩
  · refine am_RF_to hF (am_RN_cl hN) (Int.le_refl _) (fun _ _ _ => ⟨rfl, rfl, rfl, rfl⟩) am_same4 am_same4 (fun _ _ _ _ _ _ q => q) (fun i q0 q1 n _ _ q => ?_)
    obtain ⟨b1, b2, b3, b4, b5, b6, -⟩ := i4 i q0 q1
    rw [am_up_n _ _ (show I 17 i ≠ I 2 1 by omega)]
    exact q
/-- type() -/
theorem am_sim_type (c a b : Int) : am_Sim 113 136 [.inl c, .inl a, .inl b] := by
  intro N I L h
  obtain ⟨hT, hC, hI, hN, hF, hD, hM, hP, hw1, hw2⟩ := h
  obtain ⟨r, I1, e1, I2, e2, e3⟩ := s_type 4 N c a b I L hT
  refine ⟨.inl r, I1, L, e1, I2, L, e2, ?_⟩
  rcases e3 with ⟨-, rfl⟩ | ⟨a2, b2, o, f, c0, c1, q80, ha, hb, rfl, rfl, rfl, rfl⟩
  · exact ⟨hT, hC, hI, hN, hF, hD, hM, hP, hw1, hw2⟩
  have hT2 := am_RT_addT hT c0 c1 q80 ha hb
  unfold am_Rel
  simp only [am_RTI, am_RCI, am_RII, am_RNI, am_RFI, am_RDI, am_RMI, am_RPI, am_uI_c, Nat.reduceEqDiff, ↓reduceIte, am_up_s]
  simp only [am_up_a, Int.reduceEq, ↓reduceIte] at hT2 ⊢
  have hNa := hN
  obtain ⟨n1, n2, n3, n4⟩ := hNa
  refine ⟨hT2, hC, hI, ⟨n1, n2, n3, fun n q0 q1 => ?_⟩, ?_, am_RD_grow hD (by omega) (fun t t0 t1 => ?_), hM, hP, hw1, hw2.1, ?_⟩
  · obtain ⟨b1, b2, b3, b4, b5, b6, b7, b8, b9, b10, b11, b12, b13, b14⟩ := n4 n q0 q1
    exact ⟨b1, b2, b3, b4, b5, b6, b7, b8, b9, b10, b11, fun q => by have := b12 q; omega, b13, b14⟩
  · refine am_RF_to hF (am_RN_cl hN) (Int.le_refl _) (fun _ _ _ => ⟨rfl, rfl, rfl, rfl⟩) am_same4 am_same4 (fun c c0 c1 n q0 q1 q => ?_) (fun i i0 i1 n q0 q1 q => ?_)
    · refine am_nok_mono q rfl rfl rfl rfl (fun _ _ => ⟨Int.le_refl _, rfl, rfl⟩) (fun _ _ => ⟨Int.le_refl _, rfl, rfl⟩) (fun z => ?_) (Int.le_refl _)
      obtain ⟨-, -, -, -, -, -, -, -, -, -, -, b12, -⟩ := n4 n q0 q1
      have := b12 z
      exact if_neg (by omega)
    · refine am_nok_mono q rfl rfl rfl rfl (fun _ _ => ⟨Int.le_refl _, rfl, rfl⟩) (fun _ _ => ⟨Int.le_refl _, rfl, rfl⟩) (fun z => ?_) (Int.le_refl _)
      obtain ⟨-, -, -, -, -, -, -, -, -, -, -, b12, -⟩ := n4 n q0 q1
      have := b12 z
      exact if_neg (by omega)
  · exact ⟨if_neg (by omega), if_neg (by omega)⟩
  · have hO := am_RO_add hw2.2 (a := a2) (b := b2) (am_oo_ok (by omega) (by omega))
    simp only [am_ROI, am_uI_c, Nat.reduceEqDiff, ↓reduceIte, am_up_s]
    exact hO
