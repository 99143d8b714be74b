/-! DICTIONARIES are made: what holds at each turn. -/
def am_sm (f : Int → Int) (a : Int) : Nat → Int
  | 0 => 0
  | n + 1 => am_sm f a n + f (a + n)
theorem am_sm_out (f : Int → Int) (a j v : Int) : ∀ n : Nat, a + n ≤ j → am_sm (am_up f j v) a n = am_sm f a n := by
  intro n
  induction n with
  | zero => intro _; rfl
  | succ n ih =>
    intro h
    unfold am_sm
    rw [ih (by omega), am_up_n _ _ (by omega)]
theorem am_sm_up (f : Int → Int) (a j v : Int) (h0 : a ≤ j) : ∀ n : Nat, j < a + n → am_sm (am_up f j v) a n = am_sm f a n + (v - f j) := by
  intro n
  induction n with
  | zero => intro h; omega
  | succ n ih =>
    intro h
    unfold am_sm
    by_cases e : j = a + n
    · rw [am_sm_out _ _ _ _ n (by omega), e, am_up_s]; omega
    · rw [ih (by omega), am_up_n _ _ (by omega)]; omega
theorem am_sm_bd (f : Int → Int) (a : Int) : ∀ n : Nat, (∀ i, a ≤ i → i < a + n → 0 ≤ f i ∧ f i ≤ 6) → 0 ≤ am_sm f a n ∧ am_sm f a n ≤ 6 * n := by
  intro n
  induction n with
  | zero => intro _; exact ⟨Int.le_refl _, by unfold am_sm; omega⟩
  | succ n ih =>
    intro h
    have h1 := ih (fun i i0 i1 => h i i0 (by omega))
    have h2 := h (a + n) (by omega) (by omega)
    unfold am_sm
    omega
/-- the row of those that wait -/
def am_mkg (n0 p nD : Int) (rr mk nx pm tot : Int → Int) : Prop := 0 ≤ p ∧ (∀ x, 0 ≤ x → x < p → mk x = rr x ∧ n0 + x ≤ rr x ∧ rr x < nD ∧ nx x = pm (rr x)) ∧ (∀ x y, 0 ≤ x → x < y → y < p → rr x < rr y) ∧ (∀ d, 0 ≤ d → d < nD → 0 ≤ pm d ∧ pm d ≤ tot d ∧ ((∃ x, 0 ≤ x ∧ x < p ∧ rr x = d) ∨ pm d = tot d))
theorem am_mkg_pop {n0 p nD : Int} {rr mk nx pm tot : Int → Int} (h : am_mkg n0 p nD rr mk nx pm tot) (hp : 0 < p) (ht : pm (rr (p - 1)) = tot (rr (p - 1))) : am_mkg n0 (p + -1) nD rr mk nx pm tot := by
  obtain ⟨a1, a2, a3, a4⟩ := h
  refine ⟨by omega, fun x x0 x1 => a2 x x0 (by omega), fun x y x0 x1 y1 => a3 x y x0 x1 (by omega), fun d d0 d1 => ?_⟩
  obtain ⟨b1, b2, b3⟩ := a4 d d0 d1
  refine ⟨b1, b2, ?_⟩
  rcases b3 with ⟨x, x0, x1, e⟩ | b3
  · by_cases q : x = p - 1
    · right; rw [← e, q]; exact ht
    · exact Or.inl ⟨x, x0, by omega, e⟩
  · exact Or.inr b3
theorem am_mkg_have {n0 p nD w k : Int} {rr mk nx pm tot : Int → Int} (h : am_mkg n0 p nD rr mk nx pm tot) (hp : 0 < p) (hw : rr (p - 1) = w) (hk : pm w = k) (ht : k < tot w) : am_mkg n0 p nD rr mk (am_up nx (p - 1) (k + 1)) (am_up pm w (k + 1)) tot := by
  obtain ⟨a1, a2, a3, a4⟩ := h
  refine ⟨a1, fun x x0 x1 => ?_, a3, fun d d0 d1 => ?_⟩
  · obtain ⟨b1, b2, b3, b4⟩ := a2 x x0 x1
    refine ⟨b1, b2, b3, ?_⟩
    by_cases e : x = p - 1
    · rw [e, am_up_s, hw, am_up_s]
    · have := a3 x (p - 1) x0 (by omega) (by omega)
      rw [am_up_n _ _ e, am_up_n _ _ (by omega)]
      exact b4
  · obtain ⟨b1, b2, b3⟩ := a4 d d0 d1
    by_cases e : d = w
    · rw [e, am_up_s]
      rw [e] at b1 b2
      exact ⟨by omega, by omega, Or.inl ⟨p - 1, by omega, by omega, hw⟩⟩
    · rw [am_up_n _ _ e]
      exact ⟨b1, b2, b3⟩
theorem am_mkg_new {n0 p nD : Int} {rr mk nx pm tot tot2 : Int → Int} (h : am_mkg n0 p nD rr mk nx pm tot) (hp : 0 ≤ p) (hn : n0 + p ≤ nD) (h0 : 0 ≤ tot2 nD) (ht : ∀ d, 0 ≤ d → d < nD → tot2 d = tot d) (hn0 : 0 ≤ n0) : am_mkg n0 (p + 1) (nD + 1) (am_up rr p nD) (am_up mk p nD) (am_up nx p 0) (am_up pm nD 0) tot2 := by
  obtain ⟨a1, a2, a3, a4⟩ := h
  refine ⟨by omega, fun x x0 x1 => ?_, fun x y x0 x1 y1 => ?_, fun d d0 d1 => ?_⟩
  · by_cases e : x = p
    · rw [e, am_up_s, am_up_s, am_up_s, am_up_s]
      exact ⟨rfl, by omega, by omega, rfl⟩
    · obtain ⟨b1, b2, b3, b4⟩ := a2 x x0 (by omega)
      rw [am_up_n _ _ e, am_up_n _ _ e, am_up_n _ _ e, am_up_n _ _ (by omega)]
      exact ⟨b1, b2, by omega, b4⟩
  · by_cases e : y = p
    · rw [e, am_up_s, am_up_n _ _ (by omega)]
      exact (a2 x x0 (by omega)).2.2.1
    · rw [am_up_n _ _ e, am_up_n _ _ (by omega)]
      exact a3 x y x0 x1 (by omega)
  · by_cases e : d = nD
    · rw [e, am_up_s]
      exact ⟨by omega, h0, Or.inl ⟨p, by omega, by omega, am_up_s _ _ _⟩⟩
    · obtain ⟨b1, b2, b3⟩ := a4 d d0 (by omega)
      rw [am_up_n _ _ e, ht d d0 (by omega)]
      refine ⟨b1, b2, ?_⟩
      rcases b3 with ⟨x, x0, x1, ex⟩ | b3
      · exact Or.inl ⟨x, x0, by omega, by rw [am_up_n _ _ (by omega)]; exact ex⟩
      · exact Or.inr b3
theorem am_RD_have {nD mD nC nt nI : Int} {hd op ic ih ix su cc sr pm dc dt di pt dm tm im qm st bg wk be gm : Int → Int} {v w : Int → Int64} {b : Int → Prop} (h : am_RD nD mD nC nt nI hd op ic ih ix su cc sr pm dc dt di pt dm tm im qm st bg wk be gm v w b) {y k x : Int} (y0 : 0 ≤ y) (y1 : y < nD) (hk : pm y = k) (k0 : 0 ≤ k) (k6 : k < 6) (x0 : 0 ≤ x) (x1 : x < nD) (hp : ∀ d, 0 ≤ d → d < nD → pm d ≤ 6) (hx : dc x = (if k < ix (di y) then cc (di y * 3 + k) else sr (dc y * 3 + (k - ix (di y))))) : am_RD nD mD nC nt nI hd op ic ih ix su cc sr (am_up pm y (k + 1)) dc dt di (am_up pt (y * 6 + k) x) dm tm im (am_up qm (y * 6 + k) x) st bg wk be gm v w b := by
  obtain ⟨a1, a2, a3, a4⟩ := h
  refine ⟨a1, a2, a3, fun d d0 d1 => ?_⟩
  obtain ⟨b1, b2, b3, b4, b5, b6, b7, b8, b9, b10, b11, b12, b13, b14⟩ := a4 d d0 d1
  refine ⟨b1, b2, b3, b4, b5, b6, b7, b8, b9, b10, b11, b12, fun j j0 j1 => ?_, b14⟩
  by_cases e : d = y
  · rw [e] at j1 ⊢
    rw [am_up_s] at j1
    by_cases ej : j = k
    · rw [ej, am_up_s, am_up_s]
      exact ⟨rfl, x0, x1, hx⟩
    · rw [am_up_n _ _ (by omega), am_up_n _ _ (by omega)]
      rw [e] at b13
      exact b13 j j0 (by omega)
  · rw [am_up_n _ _ e] at j1
    have := hp d d0 d1
    rw [am_up_n _ _ (by omega), am_up_n _ _ (by omega)]
    exact b13 j j0 j1
theorem am_RD_new {nD mD nC nt nI : Int} {hd op ic ih ix su cc sr pm dc dt di pt dm tm im qm st bg wk be gm : Int → Int} {v w : Int → Int64} {b : Int → Prop} (h : am_RD nD mD nC nt nI hd op ic ih ix su cc sr pm dc dt di pt dm tm im qm st bg wk be gm v w b) {c t i : Int} (hn : nD < 60) (c0 : 0 ≤ c) (c1 : c < nC) (t0 : 2 ≤ t) (t1 : t < nt) (ht : op t = 0) (i0 : 0 ≤ i) (i1 : i < nI) (hi : ic i = c) (hh : ih i = hd t) : am_RD (nD + 1) (mD + 1) nC nt nI hd op ic ih ix su cc sr (am_up pm nD 0) (am_up dc nD c) (am_up dt nD t) (am_up di nD i) pt (am_up dm mD c) (am_up tm mD t) (am_up im mD i) qm (am_zr st (nD * 4) (nD * 4 + 4)) (am_zr bg (nD * 4) (nD * 4 + 4)) (am_zr wk (mD * 4) (mD * 4 + 4)) (am_zr be (mD * 4) (mD * 4 + 4)) (am_zr gm (mD * 4) (mD * 4 + 4)) v w b := by
  obtain ⟨a1, a2, a3, a4⟩ := h
  subst a3
  refine ⟨by omega, by omega, rfl, fun d d0 d1 => ?_⟩
  by_cases e : d = mD
  · rw [e]
    simp only [am_up_s]
    refine ⟨trivial, c0, c1, trivial, t0, t1, ht, trivial, i0, i1, hi, hh, fun j j0 j1 => by omega, fun m m0 m1 => ?_⟩
    unfold am_zr
    simp only [show mD * 4 ≤ mD * 4 + m ∧ mD * 4 + m < mD * 4 + 4 by omega, and_self, ↓reduceIte]
    exact ⟨trivial, Or.inl ⟨rfl, rfl, rfl⟩⟩
  · obtain ⟨b1, b2, b3, b4, b5, b6, b7, b8, b9, b10, b11, b12, b13, b14⟩ := a4 d d0 (by omega)
    simp only [am_up_n _ _ e]
    refine ⟨b1, b2, b3, b4, b5, b6, b7, b8, b9, b10, b11, b12, fun j j0 j1 => ?_, fun m m0 m1 => ?_⟩
    · obtain ⟨g1, g2, g3, g4⟩ := b13 j j0 j1
      rw [am_up_n _ _ (show pt (d * 6 + j) ≠ mD by omega)]
      exact ⟨g1, g2, by omega, g4⟩
    · unfold am_zr
      simp only [show ¬ (mD * 4 ≤ d * 4 + m ∧ d * 4 + m < mD * 4 + 4) by omega, ↓reduceIte]
      exact b14 m m0 m1
/-! Two heaps: the class's and the reference's. -/
abbrev am_RT2 (I J : Nat → Int → Int) : Prop := am_RT (I 2 1) (I 2 6) (J 53 0) (J 53 2) (I 3) (I 4) (I 5) (I 6) (I 7) (J 54) (J 55) (J 56) (J 57) (J 58)
abbrev am_RC2 (I J : Nat → Int → Int) : Prop := am_RC (I 10 4) (J 53 9) (I 11) (I 12) (I 13) (I 14) (J 61) (J 62) (J 63) (J 64)
abbrev am_RI2 (I J : Nat → Int → Int) : Prop := am_RI (I 15 8) (J 53 14) (I 10 4) (I 2 1) (I 3) (I 16) (I 17) (I 18) (I 19) (I 20) (I 21) (J 65) (J 66) (J 67) (J 68) (J 69) (J 70)
abbrev am_RN2 (I J : Nat → Int → Int) : Prop := am_RN (I 22 8) (J 53 21) (I 2 6) (I 10 4) (I 11) (I 23) (I 24) (I 25) (I 26) (I 27) (J 71) (J 72) (J 73) (J 74) (J 75)
abbrev am_RD2 (I J : Nat → Int → Int) (L M : Nat → Int → Int64) (b : Int → Prop) : Prop := am_RD (I 33 9) (J 53 28) (I 10 4) (I 2 6) (I 15 8) (I 4) (I 7) (I 16) (I 17) (I 18) (I 12) (I 19) (I 13) (I 37) (I 34) (I 35) (I 36) (I 38) (J 77) (J 78) (J 79) (J 80) (I 30) (I 32) (J 81) (J 82) (J 84) (L 31) (M 83) b
abbrev am_RL2 (I J : Nat → Int → Int) : Prop := J 53 37 = I 33 10 ∧ J 53 38 = I 33 11
abbrev am_tot (I : Nat → Int → Int) : Int → Int := fun d => I 18 (I 36 d) + I 12 (I 34 d)
def am_isD (k : Nat) : Bool := k == 30 || k == 32 || k == 33 || k == 34 || k == 35 || k == 36 || k == 37 || k == 38 || k == 39
def am_isE (k : Nat) : Bool := k == 53 || k == 77 || k == 78 || k == 79 || k == 80 || k == 81 || k == 82 || k == 84 || k == 85 || k == 86
theorem am_fr_u {is : Nat → Bool} {c : Nat} (h : is c = true) {k : Nat} (hk : is k = false) (I : Nat → Int → Int) (j v : Int) : am_uI I c j v k = I k := by
  rw [am_uI_c, if_neg]
  intro e
  rw [e, h] at hk
  cases hk
theorem am_fr_s {is : Nat → Bool} {c : Nat} (h : is c = true) {k : Nat} (hk : is k = false) (I : Nat → Int → Int) (f : Int → Int) : am_sI I c f k = I k := by
  rw [am_sI_c, if_neg]
  intro e
  rw [e, h] at hk
  cases hk
/-- what stays of the class's cells -/
def am_FrC (n0 : Int) (I I1 : Nat → Int → Int) : Prop := (∀ k, am_isD k = false → I1 k = I k) ∧ ∀ d, 0 ≤ d → d < n0 → I1 34 d = I 34 d ∧ I1 35 d = I 35 d ∧ I1 36 d = I 36 d ∧ I1 37 d = I 37 d ∧ (∀ k, 0 ≤ k → k < 6 → I1 38 (d * 6 + k) = I 38 (d * 6 + k)) ∧ ∀ m, 0 ≤ m → m < 4 → I1 30 (d * 4 + m) = I 30 (d * 4 + m) ∧ I1 32 (d * 4 + m) = I 32 (d * 4 + m)
def am_FrM (n0 : Int) (J J1 : Nat → Int → Int) : Prop := (∀ k, am_isE k = false → J1 k = J k) ∧ (∀ j : Int, j ≠ 28 → j ≠ 37 → j ≠ 38 → J1 53 j = J 53 j) ∧ ∀ d, 0 ≤ d → d < n0 → J1 77 d = J 77 d ∧ J1 78 d = J 78 d ∧ J1 79 d = J 79 d ∧ (∀ k, 0 ≤ k → k < 6 → J1 80 (d * 6 + k) = J 80 (d * 6 + k)) ∧ ∀ m, 0 ≤ m → m < 4 → J1 81 (d * 4 + m) = J 81 (d * 4 + m) ∧ J1 82 (d * 4 + m) = J 82 (d * 4 + m) ∧ J1 84 (d * 4 + m) = J 84 (d * 4 + m)
theorem am_FrC_refl (n0 : Int) (I : Nat → Int → Int) : am_FrC n0 I I := ⟨fun _ _ => rfl, fun _ _ _ => ⟨rfl, rfl, rfl, rfl, fun _ _ _ => rfl, fun _ _ _ => ⟨rfl, rfl⟩⟩⟩
theorem am_FrM_refl (n0 : Int) (J : Nat → Int → Int) : am_FrM n0 J J := ⟨fun _ _ => rfl, fun _ _ _ _ => rfl, fun _ _ _ => ⟨rfl, rfl, rfl, fun _ _ _ => rfl, fun _ _ _ => ⟨rfl, rfl, rfl⟩⟩⟩
theorem am_FrC_trans {n0 : Int} {I I1 I2 : Nat → Int → Int} (h1 : am_FrC n0 I I1) (h2 : am_FrC n0 I1 I2) : am_FrC n0 I I2 := by
  refine ⟨fun k hk => (h2.1 k hk).trans (h1.1 k hk), fun d d0 d1 => ?_⟩
  obtain ⟨a1, a2, a3, a4, a5, a6⟩ := h1.2 d d0 d1
  obtain ⟨b1, b2, b3, b4, b5, b6⟩ := h2.2 d d0 d1
  exact ⟨b1.trans a1, b2.trans a2, b3.trans a3, b4.trans a4, fun k k0 k1 => (b5 k k0 k1).trans (a5 k k0 k1), fun m m0 m1 => ⟨(b6 m m0 m1).1.trans (a6 m m0 m1).1, (b6 m m0 m1).2.trans (a6 m m0 m1).2⟩⟩
theorem am_FrM_trans {n0 : Int} {I I1 I2 : Nat → Int → Int} (h1 : am_FrM n0 I I1) (h2 : am_FrM n0 I1 I2) : am_FrM n0 I I2 := by
  refine ⟨fun k hk => (h2.1 k hk).trans (h1.1 k hk), fun j a b c => (h2.2.1 j a b c).trans (h1.2.1 j a b c), fun d d0 d1 => ?_⟩
  obtain ⟨a1, a2, a3, a5, a6⟩ := h1.2.2 d d0 d1
  obtain ⟨b1, b2, b3, b5, b6⟩ := h2.2.2 d d0 d1
  exact ⟨b1.trans a1, b2.trans a2, b3.trans a3, fun k k0 k1 => (b5 k k0 k1).trans (a5 k k0 k1), fun m m0 m1 => ⟨(b6 m m0 m1).1.trans (a6 m m0 m1).1, (b6 m m0 m1).2.1.trans (a6 m m0 m1).2.1, (b6 m m0 m1).2.2.trans (a6 m m0 m1).2.2⟩⟩
theorem am_fr_a {n0 : Int} {I J I1 J1 : Nat → Int → Int} (h1 : am_FrC n0 I I1) (h2 : am_FrM n0 J J1) : (am_RT2 I J → am_RT2 I1 J1) ∧ (am_RC2 I J → am_RC2 I1 J1) ∧ (am_RI2 I J → am_RI2 I1 J1) ∧ (am_RN2 I J → am_RN2 I1 J1) := by
  obtain ⟨f1, -⟩ := h1
  obtain ⟨f2, f3, -⟩ := h2
  simp only [am_RT2, am_RC2, am_RI2, am_RN2, f1 2 rfl, f1 3 rfl, f1 4 rfl, f1 5 rfl, f1 6 rfl, f1 7 rfl, f1 10 rfl, f1 11 rfl, f1 12 rfl, f1 13 rfl, f1 14 rfl, f1 15 rfl, f1 16 rfl, f1 17 rfl, f1 18 rfl, f1 19 rfl, f1 20 rfl, f1 21 rfl, f1 22 rfl, f1 23 rfl, f1 24 rfl, f1 25 rfl, f1 26 rfl, f1 27 rfl, f2 54 rfl, f2 55 rfl, f2 56 rfl, f2 57 rfl, f2 58 rfl, f2 61 rfl, f2 62 rfl, f2 63 rfl, f2 64 rfl, f2 65 rfl, f2 66 rfl, f2 67 rfl, f2 68 rfl, f2 69 rfl, f2 70 rfl, f2 71 rfl, f2 72 rfl, f2 73 rfl, f2 74 rfl, f2 75 rfl, f3 0 (by decide) (by decide) (by decide), f3 2 (by decide) (by decide) (by decide), f3 9 (by decide) (by decide) (by decide), f3 14 (by decide) (by decide) (by decide), f3 21 (by decide) (by decide) (by decide)]
  exact ⟨id, id, id, id⟩
/-- the DICTIONARIES that were there before -/
theorem am_RD_back {n0 : Int} {I J I1 J1 : Nat → Int → Int} {L M : Nat → Int → Int64} {b : Int → Prop} (h1 : am_FrC n0 I I1) (h2 : am_FrM n0 J J1) (h : am_RD2 I J L M b) (hn : I 33 9 = n0) (hn1 : I1 33 9 = n0) (hm1 : J1 53 28 = n0) (hp : ∀ d, 0 ≤ d → d < n0 → I 37 d ≤ 6) : am_RD2 I1 J1 L M b := by
  obtain ⟨f1, g1⟩ := h1
  obtain ⟨f2, f3, g2⟩ := h2
  obtain ⟨a1, a2, a3, a4⟩ := h
  rw [hn] at a1 a2 a4
  simp only [am_RD2, f1 2 rfl, f1 4 rfl, f1 7 rfl, f1 10 rfl, f1 12 rfl, f1 13 rfl, f1 15 rfl, f1 16 rfl, f1 17 rfl, f1 18 rfl, f1 19 rfl]
  rw [hn1, hm1]
  refine ⟨a1, a2, rfl, fun d d0 d1 => ?_⟩
  obtain ⟨b1, b2, b3, b4, b5, b6, b7, b8, b9, b10, b11, b12, b13, b14⟩ := a4 d d0 d1
  obtain ⟨c1, c2, c3, c4, c5, c6⟩ := g1 d d0 d1
  obtain ⟨e1, e2, e3, e5, e6⟩ := g2 d d0 d1
  rw [c1, c2, c3, c4, e1, e2, e3]
  have := hp d d0 d1
  refine ⟨b1, b2, b3, b4, b5, b6, b7, b8, b9, b10, b11, b12, fun j j0 j1 => ?_, fun m m0 m1 => ?_⟩
  · obtain ⟨z1, z2, z3, z4⟩ := b13 j j0 j1
    rw [c5 j j0 (by omega), e5 j j0 (by omega), (g1 _ z2 z3).1]
    exact ⟨z1, z2, z3, z4⟩
  · rw [(c6 m m0 m1).1, (c6 m m0 m1).2, (e6 m m0 m1).1, (e6 m m0 m1).2.1, (e6 m m0 m1).2.2]
    exact b14 m m0 m1
