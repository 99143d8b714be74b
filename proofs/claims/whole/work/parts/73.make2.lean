/-! DICTIONARIES are made: both sides, turn by turn. -/
abbrev am_fD (dc dt : Int → Int) (nD c t : Int) : Int := am_fd (fun i => dc i = c ∧ dt i = t) nD.toNat 0
theorem am_fD_eq {I J : Nat → Int → Int} {L M : Nat → Int → Int64} {b : Int → Prop} (h : am_RD2 I J L M b) (c t : Int) : am_fD (J 77) (J 78) (J 53 28) c t = am_fD (I 34) (I 35) (I 33 9) c t := by
  obtain ⟨a1, a2, a3, a4⟩ := h
  unfold am_fD
  rw [a3]
  refine am_fd_congr _ _ _ _ (fun i i0 i1 => ?_)
  obtain ⟨b1, b2, b3, b4, -⟩ := a4 i i0 (by omega)
  rw [b1, b4]
theorem am_fi_eq {I J : Nat → Int → Int} (hT : am_RT2 I J) (hI : am_RI2 I J) (c : Int) {t : Int} (t0 : 0 ≤ t) (t1 : t < I 2 6) : am_fi (J 65) (J 66) (J 53 14) c (J 55 t) = am_fi (I 16) (I 17) (I 15 8) c (I 4 t) := by
  obtain ⟨-, -, -, -, -, -, -, t8, -⟩ := hT
  obtain ⟨i1, i2, i3, i4, -⟩ := hI
  unfold am_fi
  rw [i3, (t8 t t0 t1).1]
  refine am_fd_congr _ _ _ _ (fun i q0 q1 => ?_)
  obtain ⟨b1, b2, b3, b4, -⟩ := i4 i q0 (by omega)
  rw [b1, b4]
/-- what a DICTIONARY may be asked for -/
def am_ask (nC nt : Int) (op : Int → Int) (c t : Int) : Prop := 0 ≤ c ∧ c < nC ∧ 2 ≤ t ∧ t < nt ∧ op t = 0
/-- the k-th PART of a DICTIONARY -/
theorem am_part_ok {I J : Nat → Int → Int} {L M : Nat → Int → Int64} {b : Int → Prop} (hT : am_RT2 I J) (hC : am_RC2 I J) (hI : am_RI2 I J) (hD : am_RD2 I J L M b) {w k : Int} (w0 : 0 ≤ w) (w1 : w < I 33 9) (k0 : 0 ≤ k) (k1 : k < am_tot I w) : am_ask (I 10 4) (I 2 6) (I 7) (am_pC (I 19) (I 13) (I 18) (I 36 w) (I 34 w) k) (am_pT (I 5) (I 6) (I 20) (I 18) (I 36 w) (I 35 w) k) ∧ am_pC (J 68) (J 63) (J 67) (J 79 w) (J 77 w) k = am_pC (I 19) (I 13) (I 18) (I 36 w) (I 34 w) k ∧ am_pT (J 56) (J 57) (J 69) (J 67) (J 79 w) (J 78 w) k = am_pT (I 5) (I 6) (I 20) (I 18) (I 36 w) (I 35 w) k := by
  obtain ⟨t1, t2, t3, t4, t5, t6, t7, t8, t9, t10, t11⟩ := hT
  obtain ⟨c1, c2, c3, c4, -⟩ := hC
  obtain ⟨i1, i2, i3, i4, -⟩ := hI
  obtain ⟨d1, d2, d3, d4⟩ := hD
  obtain ⟨b1, b2, b3, b4, b5, b6, b7, b8, b9, b10, b11, b12, b13, b14⟩ := d4 w w0 w1
  obtain ⟨e1, e2, e3, e4, e5, e6, e7, e8, e9, e10, -⟩ := i4 (I 36 w) b9 b10
  obtain ⟨f1, f2, f3, f4, f5, f6, f7, -⟩ := c4 (I 34 w) b2 b3
  have k1 : k < I 18 (I 36 w) + I 12 (I 34 w) := k1
  rw [b1, b4, b8]
  unfold am_pC am_pT am_ask
  rw [e7]
  by_cases q : k < I 18 (I 36 w)
  · obtain ⟨g1, g2, g3, g4, g5, g6⟩ := e10 k k0 q
    obtain ⟨p1, p2, p3, p4⟩ := t8 (I 35 w) (by omega) b6
    obtain ⟨q1, q2, q3, q4, q5, q6⟩ := t9 (I 35 w) b5 b6
    simp only [if_pos q, g1, g4, p2, p3]
    refine ⟨⟨g2, g3, ?_⟩, trivial, trivial⟩
    rw [b12] at g6
    by_cases z : I 20 (I 36 w * 3 + k) = 0
    · rw [if_pos z]
      have hl : 0 ≤ I 5 (I 35 w) ∧ I 5 (I 35 w) < I 35 w := by rcases q3 with y | y <;> omega
      have ho := q5 hl.1
      obtain ⟨-, -, -, of⟩ := t8 (I 5 (I 35 w)) hl.1 (by omega)
      have ho2 : I 7 (I 5 (I 35 w)) = 0 := by
        rcases of with ⟨y, _⟩ | ⟨y, _⟩ | ⟨y, _⟩ <;> omega
      refine ⟨?_, by omega, ho2⟩
      have n0 : I 5 (I 35 w) ≠ 0 := fun y => by rw [y] at ho2; omega
      have n1 : I 5 (I 35 w) ≠ 1 := fun y => by rw [y] at ho2; omega
      omega
    · rw [if_neg z]
      have hl : 0 ≤ I 6 (I 35 w) ∧ I 6 (I 35 w) < I 35 w := by rcases q4 with y | y <;> omega
      have ho := q6 hl.1
      obtain ⟨-, -, -, of⟩ := t8 (I 6 (I 35 w)) hl.1 (by omega)
      have ho2 : I 7 (I 6 (I 35 w)) = 0 := by
        rcases of with ⟨y, _⟩ | ⟨y, _⟩ | ⟨y, _⟩ <;> omega
      refine ⟨?_, by omega, ho2⟩
      have n0 : I 6 (I 35 w) ≠ 0 := fun y => by rw [y] at ho2; omega
      have n1 : I 6 (I 35 w) ≠ 1 := fun y => by rw [y] at ho2; omega
      omega
  · obtain ⟨g1, g2, g3⟩ := f7 (k - I 18 (I 36 w)) (by omega) (by omega)
    simp only [if_neg q, g1]
    exact ⟨⟨g2, by omega, b5, b6, b7⟩, trivial, trivial⟩
theorem am_tot_bd {I J : Nat → Int → Int} {L M : Nat → Int → Int64} {b : Int → Prop} (hC : am_RC2 I J) (hI : am_RI2 I J) (hD : am_RD2 I J L M b) {w : Int} (w0 : 0 ≤ w) (w1 : w < I 33 9) : 0 ≤ I 18 (I 36 w) ∧ I 18 (I 36 w) ≤ 3 ∧ 0 ≤ I 12 (I 34 w) ∧ I 12 (I 34 w) ≤ 3 := by
  obtain ⟨c1, c2, c3, c4, -⟩ := hC
  obtain ⟨i1, i2, i3, i4, -⟩ := hI
  obtain ⟨d1, d2, d3, d4⟩ := hD
  obtain ⟨b1, b2, b3, b4, b5, b6, b7, b8, b9, b10, -⟩ := d4 w w0 w1
  obtain ⟨e1, e2, e3, e4, e5, e6, e7, e8, e9, e10, -⟩ := i4 (I 36 w) b9 b10
  obtain ⟨f1, f2, f3, f4, f5, f6, f7, -⟩ := c4 (I 34 w) b2 b3
  exact ⟨e8, e9, f5, f6⟩
theorem am_turn_ok {I J : Nat → Int → Int} {L M : Nat → Int → Int64} {b : Int → Prop} (hT : am_RT2 I J) (hC : am_RC2 I J) (hI : am_RI2 I J) (hD : am_RD2 I J L M b) {n0 p : Int} (hn0 : 0 ≤ n0) (hm : am_mkg n0 p (I 33 9) (I 39) (J 85) (J 86) (I 37) (am_tot I)) (hp : 0 < p) : am_tu I p (I 39 (p - 1)) (I 37 (I 39 (p - 1))) (I 36 (I 39 (p - 1))) (I 34 (I 39 (p - 1))) (I 35 (I 39 (p - 1))) (I 18 (I 36 (I 39 (p - 1)))) (I 12 (I 34 (I 39 (p - 1)))) ∧ am_tuM J p (I 39 (p - 1)) (I 37 (I 39 (p - 1))) (I 36 (I 39 (p - 1))) (I 34 (I 39 (p - 1))) (I 35 (I 39 (p - 1))) (I 18 (I 36 (I 39 (p - 1)))) (I 12 (I 34 (I 39 (p - 1)))) := by
  obtain ⟨m1, m2, m3, m4⟩ := hm
  obtain ⟨r1, r2, r3, r4⟩ := m2 (p - 1) (by omega) (by omega)
  obtain ⟨x1, x2, x3, x4⟩ := am_tot_bd hC hI hD (w := I 39 (p - 1)) (by omega) r3
  obtain ⟨t1, t2, t3, t4, t5, t6, -⟩ := hT
  obtain ⟨c1, c2, c3, c4, -⟩ := hC
  obtain ⟨i1, i2, i3, i4, -⟩ := hI
  obtain ⟨d1, d2, d3, d4⟩ := hD
  obtain ⟨b1, b2, b3, b4, b5, b6, b7, b8, b9, b10, -⟩ := d4 (I 39 (p - 1)) (by omega) r3
  obtain ⟨e1, e2, e3, e4, e5, e6, e7, e8, e9, e10, -⟩ := i4 (I 36 (I 39 (p - 1))) b9 b10
  obtain ⟨f1, f2, f3, f4, f5, f6, f7, -⟩ := c4 (I 34 (I 39 (p - 1))) b2 b3
  obtain ⟨y1, -⟩ := m4 (I 39 (p - 1)) (by omega) r3
  exact ⟨⟨hp, by omega, rfl, rfl, rfl, rfl, rfl, rfl, rfl, by omega, by omega, y1, b9, by omega, b2, by omega, by omega, by omega, x1, x2, x3, x4⟩, ⟨hp, by omega, r1, r4, b8, b1, b4, e7, f4, by omega, by omega, y1, b9, by omega, b2, by omega, by omega, by omega, x1, x2, x3, x4⟩⟩
/-- one turn that finds a PART, or begins it: what stays -/
theorem am_fr_have (n0 : Int) (I : Nat → Int → Int) {w k x v : Int} (hw : n0 ≤ w) (k0 : 0 ≤ k) (k6 : k < 6) : am_FrC n0 I (am_uI (am_uI I 38 (w * 6 + k) x) 37 w v) := by
  refine ⟨fun j hj => by rw [am_fr_u (is := am_isD) rfl hj, am_fr_u (is := am_isD) rfl hj], fun d d0 d1 => ?_⟩
  simp only [am_uI_c, Nat.reduceEqDiff, ↓reduceIte]
  refine ⟨trivial, trivial, trivial, am_up_n _ _ (by omega), fun j j0 j1 => am_up_n _ _ (by omega), fun _ _ _ => ⟨trivial, trivial⟩⟩
theorem am_fr_haveM (n0 : Int) (I : Nat → Int → Int) {w k x v j : Int} (hw : n0 ≤ w) (k0 : 0 ≤ k) (k6 : k < 6) : am_FrM n0 I (am_uI (am_uI I 86 j v) 80 (w * 6 + k) x) := by
  refine ⟨fun j hj => by rw [am_fr_u (is := am_isE) rfl hj, am_fr_u (is := am_isE) rfl hj], fun _ _ _ _ => rfl, fun d d0 d1 => ?_⟩
  simp only [am_uI_c, Nat.reduceEqDiff, ↓reduceIte]
  refine ⟨trivial, trivial, trivial, fun j j0 j1 => am_up_n _ _ (by omega), fun _ _ _ => ⟨trivial, trivial, trivial⟩⟩
theorem am_fr_beg (n0 : Int) (I : Nat → Int → Int) {n c t i : Int} (hn : n0 ≤ n) : am_FrC n0 I (am_beg I n c t i) := by
  refine ⟨fun j hj => by rw [am_beg, am_clr, am_fr_u (is := am_isD) rfl hj, am_fr_s (is := am_isD) rfl hj, am_fr_s (is := am_isD) rfl hj, am_fr_u (is := am_isD) rfl hj, am_fr_u (is := am_isD) rfl hj, am_fr_u (is := am_isD) rfl hj, am_fr_u (is := am_isD) rfl hj], fun d d0 d1 => ?_⟩
  simp only [am_beg, am_clr, am_uI_c, am_sI_c, Nat.reduceEqDiff, ↓reduceIte]
  exact ⟨am_up_n _ _ (by omega), am_up_n _ _ (by omega), am_up_n _ _ (by omega), am_up_n _ _ (by omega), fun _ _ _ => trivial, fun m m0 m1 => ⟨if_neg (by omega), if_neg (by omega)⟩⟩
theorem am_fr_row (n0 : Int) (I : Nat → Int → Int) {p x : Int} : am_FrC n0 I (am_uI I 39 p x) := ⟨fun j hj => by rw [am_fr_u (is := am_isD) rfl hj], fun _ _ _ => ⟨rfl, rfl, rfl, rfl, fun _ _ _ => rfl, fun _ _ _ => ⟨rfl, rfl⟩⟩⟩
theorem am_fr_obj (n0 : Int) (I : Nat → Int → Int) {p x : Int} : am_FrC n0 I (am_uI I 33 p x) := ⟨fun j hj => by rw [am_fr_u (is := am_isD) rfl hj], fun _ _ _ => ⟨rfl, rfl, rfl, rfl, fun _ _ _ => rfl, fun _ _ _ => ⟨rfl, rfl⟩⟩⟩
theorem am_fr_begM (n0 : Int) (I : Nat → Int → Int) {n c t i : Int} (hn : n0 ≤ n) : am_FrM n0 I (am_begM I n c t i) := by
  refine ⟨fun j hj => by rw [am_begM, am_clrM, am_fr_u (is := am_isE) rfl hj, am_fr_s (is := am_isE) rfl hj, am_fr_s (is := am_isE) rfl hj, am_fr_s (is := am_isE) rfl hj, am_fr_u (is := am_isE) rfl hj, am_fr_u (is := am_isE) rfl hj, am_fr_u (is := am_isE) rfl hj], fun j j1 j2 j3 => by simp only [am_begM, am_clrM, am_uI_c, am_sI_c, Nat.reduceEqDiff, ↓reduceIte]; exact am_up_n _ _ j1, fun d d0 d1 => ?_⟩
  simp only [am_begM, am_clrM, am_uI_c, am_sI_c, Nat.reduceEqDiff, ↓reduceIte]
  exact ⟨am_up_n _ _ (by omega), am_up_n _ _ (by omega), am_up_n _ _ (by omega), fun _ _ _ => trivial, fun m m0 m1 => ⟨if_neg (by omega), if_neg (by omega), if_neg (by omega)⟩⟩
theorem am_fr_mk (n0 : Int) (I : Nat → Int → Int) {p x : Int} : am_FrM n0 I (am_uI I 85 p x) := ⟨fun j hj => by rw [am_fr_u (is := am_isE) rfl hj], fun _ _ _ _ => rfl, fun _ _ _ => ⟨rfl, rfl, rfl, fun _ _ _ => rfl, fun _ _ _ => ⟨rfl, rfl, rfl⟩⟩⟩
theorem am_fr_nx (n0 : Int) (I : Nat → Int → Int) {p x : Int} : am_FrM n0 I (am_uI I 86 p x) := ⟨fun j hj => by rw [am_fr_u (is := am_isE) rfl hj], fun _ _ _ _ => rfl, fun _ _ _ => ⟨rfl, rfl, rfl, fun _ _ _ => rfl, fun _ _ _ => ⟨rfl, rfl, rfl⟩⟩⟩
theorem am_fr_objM (n0 : Int) (I : Nat → Int → Int) {p x : Int} (hp : p = 28 ∨ p = 37 ∨ p = 38) : am_FrM n0 I (am_uI I 53 p x) := ⟨fun j hj => by rw [am_fr_u (is := am_isE) rfl hj], fun j j1 j2 j3 => by rw [am_uI_c, if_pos rfl]; exact am_up_n _ _ (by omega), fun _ _ _ => ⟨rfl, rfl, rfl, fun _ _ _ => rfl, fun _ _ _ => ⟨rfl, rfl, rfl⟩⟩⟩
