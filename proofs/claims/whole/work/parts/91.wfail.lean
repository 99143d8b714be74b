/-! value(): all is given up. -/
theorem am_skk_mem {f g : Int → Int} : ∀ {fs : List am_F} {a : Int}, am_skk f (fs.map am_fd1) a → am_skk g (fs.map am_fd2) a → ∀ c : Int, (c ∈ am_cells fs → ∃ i, 0 ≤ i ∧ i < a ∧ c = f i * 4 + g i) ∧ ((∃ i, 0 ≤ i ∧ i < a ∧ c = f i * 4 + g i) → c ∈ am_cells fs) := by
  intro fs
  induction fs with
  | nil =>
    intro a h1 h2 c
    have h1 : a = 0 := h1
    refine ⟨fun h => ?_, fun ⟨i, i0, i1, _⟩ => by omega⟩
    cases h
  | cons x fs ih =>
    intro a h1 h2 c
    obtain ⟨p1, p2, p3⟩ := h1
    obtain ⟨q1, q2, q3⟩ := h2
    obtain ⟨k1, k2⟩ := ih p3 q3 c
    refine ⟨fun h => ?_, fun ⟨i, i0, i1, e⟩ => ?_⟩
    · rcases List.mem_cons.mp h with h | h
      · exact ⟨a - 1, by omega, by omega, by rw [p2, q2]; exact h⟩
      · obtain ⟨i, i0, i1, e⟩ := k1 h
        exact ⟨i, i0, by omega, e⟩
    · by_cases ei : i = a - 1
      · rw [ei, p2, q2] at e
        exact List.mem_cons.mpr (Or.inl e)
      · exact List.mem_cons.mpr (Or.inr (k2 ⟨i, i0, by omega, e⟩))
theorem am_skk_all {Q : Int → Int → Prop} {f g : Int → Int} : ∀ {fs : List am_F} {a : Int}, am_skk f (fs.map am_fd1) a → am_skk g (fs.map am_fd2) a → (∀ x ∈ fs, Q (am_fd1 x) (am_fd2 x)) → ∀ i, 0 ≤ i → i < a → Q (f i) (g i) := by
  intro fs
  induction fs with
  | nil => intro a h1 _ _ i i0 i1; have h1 : a = 0 := h1; omega
  | cons x fs ih =>
    intro a h1 h2 hQ i i0 i1
    obtain ⟨p1, p2, p3⟩ := h1
    obtain ⟨q1, q2, q3⟩ := h2
    by_cases ei : i = a - 1
    · rw [ei, p2, q2]; exact hQ x (List.mem_cons_self ..)
    · exact ih p3 q3 (fun y hy => hQ y (List.mem_cons_of_mem _ hy)) i i0 (by omega)
theorem am_gF_bd {I0 I J : Nat → Int → Int} {L M : Nat → Int → Int64} {b : Int → Prop} (hC : am_RC2 I J) (hD : am_RD2 I J L M b) {f : am_F} (h : am_gF I0 I f) : 0 ≤ am_fd1 f ∧ am_fd1 f < 60 ∧ 0 ≤ am_fd2 f ∧ am_fd2 f < 4 := by
  obtain ⟨h1, h2, h3, h4, -⟩ := h
  obtain ⟨d1, d2, d3, d4⟩ := hD
  obtain ⟨b1, b2, b3, -⟩ := d4 (am_fd1 f) h1 h2
  obtain ⟨c1, c2, c3, -⟩ := hC.2.2.2.1 (I 34 (am_fd1 f)) b2 b3
  exact ⟨h1, by omega, h3, by omega⟩
theorem am_W_hw {I0 I J : Nat → Int → Int} {L M : Nat → Int → Int64} {cs : List Int} {fs : List am_F} (hB : am_WB I0 I J L M cs) (hC : am_WC I L fs) (hG : am_WG I0 I fs) : (0 ≤ I 44 12 ∧ I 44 12 ≤ 40 ∧ I 44 12 = (fs.length : Int)) ∧ ∀ i, 0 ≤ i → i < I 44 12 → 0 ≤ I 45 i ∧ I 45 i < 60 ∧ 0 ≤ I 46 i ∧ I 46 i < 4 := by
  obtain ⟨-, r2, -, -, -, -, r7, -⟩ := hB
  obtain ⟨-, -, -, c4, c5, -⟩ := hC
  obtain ⟨g1, g2, g3, g4⟩ := hG
  have hl := am_skk_len c4
  rw [List.length_map] at hl
  refine ⟨⟨by omega, by omega, hl⟩, am_skk_all (Q := fun a b => 0 ≤ a ∧ a < 60 ∧ 0 ≤ b ∧ b < 4) c4 c5 (fun x hx => am_gF_bd r2 r7 (g1 x hx))⟩
theorem am_RF_fr {I0 I J : Nat → Int → Int} (hF : am_RFI I0) (hN : am_RN2 I J) (h : am_Fr0 I0 I) : am_RFI I := by
  obtain ⟨f, f2, f3, f4, f5⟩ := h
  have hcl := am_RN_cl hN
  simp only [am_RFI, f 10 (by decide), f 15 (by decide), f 22 (by decide), f 11 (by decide), f 12 (by decide), f 13 (by decide), f 14 (by decide), f 16 (by decide), f 17 (by decide), f 18 (by decide), f 19 (by decide), f 21 (by decide), f 3 (by decide), f 23 (by decide), f 24 (by decide), f 25 (by decide), f 26 (by decide)] at hcl ⊢
  refine am_RF_to hF hcl (Int.le_refl _) (fun _ _ _ => ⟨rfl, rfl, rfl, rfl⟩) am_same4 am_same4 (fun c c0 c1 n q0 q1 q => ?_) (fun i i0 i1 n q0 q1 q => ?_)
  · exact am_nok_mono q rfl rfl rfl rfl (fun _ _ => ⟨Int.le_refl _, rfl, rfl⟩) (fun _ _ => ⟨Int.le_refl _, rfl, rfl⟩) (fun z => f3 _ (f5 n q0 q1 z).2) (Int.le_refl _)
  · exact am_nok_mono q rfl rfl rfl rfl (fun _ _ => ⟨Int.le_refl _, rfl, rfl⟩) (fun _ _ => ⟨Int.le_refl _, rfl, rfl⟩) (fun z => f3 _ (f5 n q0 q1 z).2) (Int.le_refl _)
theorem am_failW {I0 I J : Nat → Int → Int} {L M : Nat → Int → Int64} {fs : List am_F} {f x m : Int} (hB : am_WB I0 I J L M (am_cells fs)) (hC : am_WC I L fs) (hG : am_WG I0 I fs) (hf : f ≠ 0) : am_WF (am_flt I f x m) (am_fs J f x m) L M := by
  obtain ⟨⟨w1, w2, w3⟩, hw⟩ := am_W_hw hB hC hG
  obtain ⟨r1, r2, r3, r4, r5, r6, r7, r8, r9, r10⟩ := hB
  obtain ⟨-, -, -, c4, c5, -⟩ := hC
  have r5 := am_RF_fr r5 r4 r10
  refine ⟨?_, ?_, ?_, ?_⟩
  · exact ⟨w1, w2, hw⟩
  · simp only [am_uI_c, am_sI_c, Nat.reduceEqDiff, ↓reduceIte, am_up_a, Int.reduceEq]
    exact hf
  · simp only [am_uI_c, am_sI_c, Nat.reduceEqDiff, ↓reduceIte, am_up_a, Int.reduceEq]
    exact hf
  · show am_Rel2 (am_uI (am_uI (am_sI (am_uI (am_uI (am_uI I 41 0 f) 41 1 x) 41 2 m) 30 (am_gu (I 45) (I 46) (I 44 12).toNat 0 (I 30))) 44 12 0) 44 16 0) (am_sI (am_fs J f x m) 82 (am_zr (am_fs J f x m 82) 0 240)) L M
    unfold am_Rel2
    simp only [am_RT2, am_RC2, am_RI2, am_RN2, am_RFI, am_RD2, am_RMI, am_RP2, am_ROI, am_uI_c, am_sI_c, Nat.reduceEqDiff, ↓reduceIte]
    simp only [am_up_a, Int.reduceEq, ↓reduceIte]
    obtain ⟨p1, p2, p3, p4, p5, p6⟩ := r9
    obtain ⟨d1, d2, d3, d4⟩ := r7
    refine ⟨r1, r2, r3, r4, r5, ⟨d1, d2, d3, fun d d0 d1' => ?_⟩, r8, ⟨p1, p2, rfl, rfl, rfl, p6⟩, trivial, trivial, r6⟩
    obtain ⟨b1, b2, b3, b4, b5, b6, b7, b8, b9, b10, b11, b12, b13, b14⟩ := d4 d d0 d1'
    refine ⟨b1, b2, b3, b4, b5, b6, b7, b8, b9, b10, b11, b12, b13, fun k k0 k1 => ?_⟩
    obtain ⟨v1, v2⟩ := b14 k k0 k1
    refine ⟨v1, ?_⟩
    have ez : am_zr (J 82) 0 240 (d * 4 + k) = 0 := if_pos ⟨by omega, by omega⟩
    rw [ez]
    obtain ⟨u1, u2, u3⟩ := am_gu_at (I 45) (I 46) (I 44 12).toNat 0 (I 30) (d * 4 + k)
    obtain ⟨y1, y2⟩ := am_skk_mem c4 c5 (d * 4 + k)
    by_cases q : (d * 4 + k) ∈ am_cells fs
    · obtain ⟨i, i0, i1, ei⟩ := y1 q
      rw [u1 ⟨i, i0, by omega, ei⟩]
      rcases v2 with ⟨_, z, _⟩ | ⟨z1, z2, z3, z4⟩ | ⟨_, _, z, _⟩
      · exact Or.inl ⟨rfl, z, rfl⟩
      · exfalso
        have := (am_skk_all (Q := fun a b => I 30 (a * 4 + b) = 1) c4 c5 (fun x hx => (hG.1 x hx).2.2.2.2.1)) i i0 i1
        rw [← ei] at this
        omega
      · exact Or.inl ⟨rfl, z, rfl⟩
    · have e : am_gu (I 45) (I 46) (I 44 12).toNat 0 (I 30) (d * 4 + k) = I 30 (d * 4 + k) := u2 (fun i i0 i1 e => q (y2 ⟨i, i0, by omega, e⟩))
      rw [e]
      rcases v2 with ⟨z1, z2, z3⟩ | ⟨z1, z2, z3, z4⟩ | ⟨z, _⟩
      · exact Or.inl ⟨z1, z2, rfl⟩
      · exact Or.inr (Or.inl ⟨z1, z2, rfl, z4⟩)
      · exact absurd z q
