/-! value(): PUT IN and the making of DICTIONARIES keep what holds. -/
theorem am_WB_put {I0 I J I1 J1 : Nat → Int → Int} {L M : Nat → Int → Int64} {cs : List Int} {r : Int} (h : am_WB I0 I J L M cs) (p : am_ptP I J I1 J1 r) : am_WB I0 I1 J1 L M cs := by
  obtain ⟨r1, r2, r3, r4, r5, r6, r7, r8, r9, r10⟩ := h
  obtain ⟨⟨f, f2, f3, f4⟩, ⟨g, g2⟩, q1, q2, -⟩ := p
  obtain ⟨x1, x2, x3, x4, x5⟩ := r10
  refine ⟨q1, ?_, ?_, ?_, r5, q2, ?_, ?_, ?_, ?_⟩
  · simp only [am_RC2, f 3 rfl, f 10 rfl, f 11 rfl, f 12 rfl, f 13 rfl, f 14 rfl, f 15 rfl, f 16 rfl, f 17 rfl, f 18 rfl, f 19 rfl, f 20 rfl, f 21 rfl, f 22 rfl, f 23 rfl, f 24 rfl, f 25 rfl, f 26 rfl, f 27 rfl, g 61 rfl, g 62 rfl, g 63 rfl, g 64 rfl, g 65 rfl, g 66 rfl, g 67 rfl, g 68 rfl, g 69 rfl, g 70 rfl, g 71 rfl, g 72 rfl, g 73 rfl, g 74 rfl, g 75 rfl, g 77 rfl, g 78 rfl, g 79 rfl, g 80 rfl, g 81 rfl, g 82 rfl, g 84 rfl, g 93 rfl, g 94 rfl, g2 9 (by decide), g2 14 (by decide), g2 21 (by decide), g2 28 (by decide), g2 37 (by decide), g2 38 (by decide), g2 50 (by decide), g2 51 (by decide), g2 52 (by decide), g2 53 (by decide)]; exact r2
  · simp only [am_RI2, f 3 rfl, f 10 rfl, f 11 rfl, f 12 rfl, f 13 rfl, f 14 rfl, f 15 rfl, f 16 rfl, f 17 rfl, f 18 rfl, f 19 rfl, f 20 rfl, f 21 rfl, f 22 rfl, f 23 rfl, f 24 rfl, f 25 rfl, f 26 rfl, f 27 rfl, g 61 rfl, g 62 rfl, g 63 rfl, g 64 rfl, g 65 rfl, g 66 rfl, g 67 rfl, g 68 rfl, g 69 rfl, g 70 rfl, g 71 rfl, g 72 rfl, g 73 rfl, g 74 rfl, g 75 rfl, g 77 rfl, g 78 rfl, g 79 rfl, g 80 rfl, g 81 rfl, g 82 rfl, g 84 rfl, g 93 rfl, g 94 rfl, g2 9 (by decide), g2 14 (by decide), g2 21 (by decide), g2 28 (by decide), g2 37 (by decide), g2 38 (by decide), g2 50 (by decide), g2 51 (by decide), g2 52 (by decide), g2 53 (by decide), f2 1 (by decide)]; exact r3
  · simp only [am_RN2, f 3 rfl, f 10 rfl, f 11 rfl, f 12 rfl, f 13 rfl, f 14 rfl, f 15 rfl, f 16 rfl, f 17 rfl, f 18 rfl, f 19 rfl, f 20 rfl, f 21 rfl, f 22 rfl, f 23 rfl, f 24 rfl, f 25 rfl, f 26 rfl, f 27 rfl, g 61 rfl, g 62 rfl, g 63 rfl, g 64 rfl, g 65 rfl, g 66 rfl, g 67 rfl, g 68 rfl, g 69 rfl, g 70 rfl, g 71 rfl, g 72 rfl, g 73 rfl, g 74 rfl, g 75 rfl, g 77 rfl, g 78 rfl, g 79 rfl, g 80 rfl, g 81 rfl, g 82 rfl, g 84 rfl, g 93 rfl, g 94 rfl, g2 9 (by decide), g2 14 (by decide), g2 21 (by decide), g2 28 (by decide), g2 37 (by decide), g2 38 (by decide), g2 50 (by decide), g2 51 (by decide), g2 52 (by decide), g2 53 (by decide)]
    obtain ⟨a1, a2, a3, a4⟩ := r4
    refine ⟨a1, a2, a3, fun n n0 n1 => ?_⟩
    obtain ⟨b1, b2, b3, b4, b5, b6, b7, b8, b9, b10, b11, b12, b13, b14⟩ := a4 n n0 n1
    exact ⟨b1, b2, b3, b4, b5, b6, b7, b8, b9, b10, b11, fun q => by have := b12 q; omega, b13, b14⟩
  · simp only [am_RD2, f 10 rfl, f 12 rfl, f 13 rfl, f 15 rfl, f 16 rfl, f 17 rfl, f 18 rfl, f 19 rfl, f 30 rfl, f 32 rfl, f 33 rfl, f 34 rfl, f 35 rfl, f 36 rfl, f 37 rfl, f 38 rfl, f 41 rfl, f 42 rfl, f 43 rfl, g 61 rfl, g 62 rfl, g 63 rfl, g 64 rfl, g 65 rfl, g 66 rfl, g 67 rfl, g 68 rfl, g 69 rfl, g 70 rfl, g 71 rfl, g 72 rfl, g 73 rfl, g 74 rfl, g 75 rfl, g 77 rfl, g 78 rfl, g 79 rfl, g 80 rfl, g 81 rfl, g 82 rfl, g 84 rfl, g 93 rfl, g 94 rfl, g2 9 (by decide), g2 14 (by decide), g2 21 (by decide), g2 28 (by decide), g2 37 (by decide), g2 38 (by decide), g2 50 (by decide), g2 51 (by decide), g2 52 (by decide), g2 53 (by decide)]
    exact am_RD_grow r7 f3 (fun t t0 t1 => ⟨(f4 t t1).1, (f4 t t1).2.2.2⟩)
  · simp only [am_RMI, f 10 rfl, f 12 rfl, f 13 rfl, f 15 rfl, f 16 rfl, f 17 rfl, f 18 rfl, f 19 rfl, f 30 rfl, f 32 rfl, f 33 rfl, f 34 rfl, f 35 rfl, f 36 rfl, f 37 rfl, f 38 rfl, f 41 rfl, f 42 rfl, f 43 rfl]; exact r8
  · simp only [am_RP2, f 10 rfl, f 12 rfl, f 13 rfl, f 15 rfl, f 16 rfl, f 17 rfl, f 18 rfl, f 19 rfl, f 30 rfl, f 32 rfl, f 33 rfl, f 34 rfl, f 35 rfl, f 36 rfl, f 37 rfl, f 38 rfl, f 41 rfl, f 42 rfl, f 43 rfl, g 61 rfl, g 62 rfl, g 63 rfl, g 64 rfl, g 65 rfl, g 66 rfl, g 67 rfl, g 68 rfl, g 69 rfl, g 70 rfl, g 71 rfl, g 72 rfl, g 73 rfl, g 74 rfl, g 75 rfl, g 77 rfl, g 78 rfl, g 79 rfl, g 80 rfl, g 81 rfl, g 82 rfl, g 84 rfl, g 93 rfl, g 94 rfl, g2 9 (by decide), g2 14 (by decide), g2 21 (by decide), g2 28 (by decide), g2 37 (by decide), g2 38 (by decide), g2 50 (by decide), g2 51 (by decide), g2 52 (by decide), g2 53 (by decide)]; exact r9
  · refine ⟨fun k hk => (f k ?_).trans (x1 k hk), by omega, fun t ht => (f4 t (by omega)).2.2.2.trans (x3 t ht), (f2 1 (by decide)).trans x4, x5⟩
    unfold am_isT
    have e : ∀ j : Nat, (j = 2 ∨ (4 ≤ j ∧ j ≤ 9)) → (k == j) = false := fun j hj => by
      rw [beq_eq_false_iff_ne]; omega
    simp only [e 2 (by decide), e 4 (by decide), e 5 (by decide), e 6 (by decide), e 7 (by decide), e 8 (by decide), e 9 (by decide), Bool.or_false]
theorem am_WC_T {I I1 : Nat → Int → Int} {L : Nat → Int → Int64} {fs : List am_F} (h : am_WC I L fs) (p : am_FrT I I1) : am_WC I1 L fs := by
  obtain ⟨f, -⟩ := p
  unfold am_WC
  simp only [f 44 rfl, f 45 rfl, f 46 rfl, f 47 rfl, f 48 rfl, f 49 rfl, f 50 rfl, f 51 rfl]
  exact h
theorem am_WC_C {I I1 : Nat → Int → Int} {L : Nat → Int → Int64} {fs : List am_F} {n0 : Int} (h : am_WC I L fs) (p : am_FrC n0 I I1) : am_WC I1 L fs := by
  obtain ⟨f, -⟩ := p
  unfold am_WC
  simp only [f 44 rfl, f 45 rfl, f 46 rfl, f 47 rfl, f 48 rfl, f 49 rfl, f 50 rfl, f 51 rfl]
  exact h
theorem am_WM_U {J J1 : Nat → Int → Int} {M : Nat → Int → Int64} {ts : List Int} {vs : List Int64} {fs : List am_F} (h : am_WM J M ts vs fs) (p : am_FrU J J1) : am_WM J1 M ts vs fs := by
  obtain ⟨f, g⟩ := p
  unfold am_WM
  simp only [f 88 rfl, f 90 rfl, f 91 rfl, f 92 rfl, g 43 (by decide), g 45 (by decide), g 49 (by decide)]
  exact h
theorem am_WM_M {J J1 : Nat → Int → Int} {M : Nat → Int → Int64} {ts : List Int} {vs : List Int64} {fs : List am_F} {n0 : Int} (h : am_WM J M ts vs fs) (p : am_FrM n0 J J1) : am_WM J1 M ts vs fs := by
  obtain ⟨f, g, -⟩ := p
  unfold am_WM
  simp only [f 88 rfl, f 90 rfl, f 91 rfl, f 92 rfl, g 43 (by decide) (by decide) (by decide), g 45 (by decide) (by decide) (by decide), g 49 (by decide) (by decide) (by decide)]
  exact h
theorem am_WG_T {I0 I I1 J : Nat → Int → Int} {L M : Nat → Int → Int64} {b : Int → Prop} {fs : List am_F} (h : am_WG I0 I fs) (hD : am_RD2 I J L M b) (p : am_FrT I I1) : am_WG I0 I1 fs := by
  obtain ⟨g1, g2, g3, g4⟩ := h
  obtain ⟨f, f2, f3, f4⟩ := p
  obtain ⟨d1, d2, d3, d4⟩ := hD
  refine ⟨fun x hx => ?_, g2, g3, ?_⟩
  · obtain ⟨z1, z2, z3, z4, z5, z6, z7, z8⟩ := g1 x hx
    obtain ⟨b1, b2, b3, b4, b5, b6, -⟩ := d4 _ z1 z2
    unfold am_gF
    rw [f 33 rfl, f 11 rfl, f 34 rfl, f 30 rfl, f 35 rfl, f 36 rfl, (f4 _ b6).2.1, (f4 _ b6).2.2.1]
    exact ⟨z1, z2, z3, z4, z5, z6, z7, z8⟩
  · rw [f 41 rfl, f 30 rfl, f 33 rfl]; exact g4
theorem am_cell4 {n0 c : Int} (c0 : 0 ≤ c) (c1 : c < n0 * 4) : ∃ d m : Int, 0 ≤ d ∧ d < n0 ∧ 0 ≤ m ∧ m < 4 ∧ c = d * 4 + m := ⟨c / 4, c % 4, by omega, by omega, by omega, by omega, by omega⟩
theorem am_nz_C {n0 : Int} {I I1 : Nat → Int → Int} (h : am_FrC n0 I I1) (hn : n0 = I 33 9) (h0 : 0 ≤ n0) (h1 : n0 ≤ I1 33 9) : am_nz (I 30) (I 33 9) ≤ am_nz (I1 30) (I1 33 9) := by
  refine am_nz_grow (by omega) (by omega) (fun c c0 c1 => ?_)
  obtain ⟨d, m, d0, d1, m0, m1, e⟩ := am_cell4 (n0 := n0) c0 (by omega)
  rw [e]
  exact ((h.2 d d0 d1).2.2.2.2.2 m m0 m1).1
theorem am_WG_C {I0 I I1 J : Nat → Int → Int} {L M : Nat → Int → Int64} {b : Int → Prop} {fs : List am_F} (h : am_WG I0 I fs) (hC : am_RC2 I J) (hD : am_RD2 I J L M b) (p : am_FrC (I 33 9) I I1) (hn : I 33 9 ≤ I1 33 9) : am_WG I0 I1 fs := by
  have hz := am_nz_C p rfl hD.1 hn
  have bd : ∀ x ∈ fs, _ := fun x hx => am_gF_bd hC hD (h.1 x hx)
  obtain ⟨g1, g2, g3, g4⟩ := h
  obtain ⟨f, f2⟩ := p
  refine ⟨fun x hx => ?_, g2, g3, ?_⟩
  · obtain ⟨z1, z2, z3, z4, z5, z6, z7, z8⟩ := g1 x hx
    obtain ⟨e1, e2, e3, e4, e5, e6⟩ := f2 _ z1 z2
    obtain ⟨k1, k2, k3, k4⟩ := bd x hx
    unfold am_gF
    rw [f 11 rfl, e1, (e6 _ k3 k4).1, e2, f 5 rfl, f 6 rfl, e3]
    exact ⟨z1, by omega, z3, z4, z5, z6, z7, z8⟩
  · rw [f 41 rfl]; omega
theorem am_WB_make {I0 I J I1 J1 : Nat → Int → Int} {L M : Nat → Int → Int64} {cs : List Int} {c r : Int} (h : am_WB I0 I J L M cs) (p : am_mk1 c (I 33 9) I J L M (fun c => c ∈ cs) r I1 J1) : am_WB I0 I1 J1 L M cs := by
  obtain ⟨r1, r2, r3, r4, r5, r6, r7, r8, r9, r10⟩ := h
  obtain ⟨p1, p2, p3, p4, p5, p6, -⟩ := p
  obtain ⟨a1, a2, a3, a4⟩ := am_fr_a p1 p2
  obtain ⟨x1, x2, x3, x4, x5⟩ := r10
  refine ⟨a1 r1, a2 r2, a3 r3, a4 r4, r5, (am_fr_F p1).2 r6, p3, p5, am_fr_P p1 p2 p4 r9, ?_⟩
  obtain ⟨f, -⟩ := p1
  refine ⟨fun k hk => (f k ?_).trans (x1 k hk), by rw [f 2 rfl]; exact x2, fun t ht => by rw [f 7 rfl]; exact x3 t ht, by rw [f 2 rfl]; exact x4, x5⟩
  unfold am_isD
  have e : ∀ j : Nat, (30 ≤ j) → (k == j) = false := fun j hj => by
    rw [beq_eq_false_iff_ne]; omega
  simp only [e 30 (by decide), e 32 (by decide), e 33 (by decide), e 34 (by decide), e 35 (by decide), e 36 (by decide), e 37 (by decide), e 38 (by decide), e 39 (by decide), Bool.or_false]
theorem am_lo_T {I I1 : Nat → Int → Int} (p : am_FrT I I1) : am_lo I I1 := fun k hk => p.1 k (by
  unfold am_isT
  have e : ∀ j : Nat, j < 53 → (k == j) = false := fun j hj => by
    rw [beq_eq_false_iff_ne]; omega
  simp only [e 2 (by decide), e 4 (by decide), e 5 (by decide), e 6 (by decide), e 7 (by decide), e 8 (by decide), e 9 (by decide), Bool.or_false])
theorem am_hi_U {J J1 : Nat → Int → Int} (p : am_FrU J J1) : am_hi J J1 := fun k hk => p.1 k (by
  unfold am_isU
  have e : ∀ j : Nat, 53 ≤ j → (k == j) = false := fun j hj => by
    rw [beq_eq_false_iff_ne]; omega
  simp only [e 53 (by decide), e 55 (by decide), e 56 (by decide), e 57 (by decide), e 58 (by decide), e 59 (by decide), e 60 (by decide), Bool.or_false])
theorem am_lo_C {n0 : Int} {I I1 : Nat → Int → Int} (p : am_FrC n0 I I1) : am_lo I I1 := fun k hk => p.1 k (am_ge53 hk)
theorem am_hi_M {n0 : Int} {J J1 : Nat → Int → Int} (p : am_FrM n0 J J1) : am_hi J J1 := fun k hk => p.1 k (am_lt53 hk)
