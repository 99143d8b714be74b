/-! What holds between the class's cells and the reference's. -/
def am_of (o f : Int) : Prop := (o = 0 ∧ f = 0) ∨ (o = 1 ∧ f = 1) ∨ (o = 2 ∧ (f = 2 ∨ f = 3))
/-- CONSTRUCTORS and TYPES -/
def am_RT (nc nt mc mt : Int) (pl hd lf rt op pm hm lm rm fr : Int → Int) : Prop :=
  0 ≤ nc ∧ nc ≤ 8 ∧ mc = nc ∧ (∀ c, 0 ≤ c → c < nc → pm c = pl c ∧ 0 ≤ pl c ∧ pl c ≤ 2) ∧
  2 ≤ nt ∧ nt ≤ 80 ∧ mt = nt ∧ (∀ t, 0 ≤ t → t < nt → hm t = hd t ∧ lm t = lf t ∧ rm t = rt t ∧ am_of (op t) (fr t)) ∧
  (∀ t, 2 ≤ t → t < nt → 0 ≤ hd t ∧ hd t < nc ∧ ((0 < pl (hd t) ∧ 0 ≤ lf t ∧ lf t < t) ∨ (pl (hd t) ≤ 0 ∧ lf t = -1)) ∧ ((1 < pl (hd t) ∧ 0 ≤ rt t ∧ rt t < t) ∨ (pl (hd t) ≤ 1 ∧ rt t = -1)) ∧
    (0 ≤ lf t → op (lf t) ≤ op t) ∧ (0 ≤ rt t → op (rt t) ≤ op t)) ∧
  (hd 0 = -1 ∧ lf 0 = -1 ∧ rt 0 = -1 ∧ op 0 = 1) ∧ (hd 1 = -1 ∧ lf 1 = -1 ∧ rt 1 = -1 ∧ op 1 = 2)
abbrev am_RTI (I : Nat → Int → Int) : Prop := am_RT (I 2 1) (I 2 6) (I 53 0) (I 53 2) (I 3) (I 4) (I 5) (I 6) (I 7) (I 54) (I 55) (I 56) (I 57) (I 58)
theorem am_RT_addC {nc nt mc mt : Int} {pl hd lf rt op pm hm lm rm fr : Int → Int} (h : am_RT nc nt mc mt pl hd lf rt op pm hm lm rm fr) {p : Int} (h0 : 0 ≤ p) (h1 : p ≤ 2) (h2 : nc < 8) : am_RT (nc + 1) nt (mc + 1) mt (am_up pl nc p) hd lf rt op (am_up pm mc p) hm lm rm fr := by
  obtain ⟨a1, a2, a3, a4, a5, a6, a7, a8, a9, a10, a11⟩ := h
  subst a3
  refine ⟨by omega, by omega, rfl, fun c c0 c1 => ?_, a5, a6, a7, a8, fun t t0 t1 => ?_, a10, a11⟩
  · rw [am_up_a, am_up_a]
    by_cases e : c = mc
    · rw [if_pos e, if_pos e]; exact ⟨rfl, h0, h1⟩
    · rw [if_neg e, if_neg e]; exact a4 c c0 (by omega)
  · obtain ⟨b1, b2, b3, b4, b5, b6⟩ := a9 t t0 t1
    rw [am_up_n pl p (show hd t ≠ mc by omega)]
    exact ⟨b1, by omega, b3, b4, b5, b6⟩
theorem am_or {a b x y : Int} (h1 : am_of a x) (h2 : am_of b y) : am_of (if a < b then b else a) (Int32.ofInt x ||| Int32.ofInt y).toInt := by
  rcases h1 with ⟨rfl, rfl⟩ | ⟨rfl, rfl⟩ | ⟨rfl, rfl | rfl⟩ <;> rcases h2 with ⟨rfl, rfl⟩ | ⟨rfl, rfl⟩ | ⟨rfl, rfl | rfl⟩ <;> simp [am_of] <;> decide
theorem am_RT_addT {nc nt mc mt : Int} {pl hd lf rt op pm hm lm rm fr : Int → Int} (h : am_RT nc nt mc mt pl hd lf rt op pm hm lm rm fr) {c a b : Int} (h0 : 0 ≤ c) (h1 : c < nc) (h2 : nt < 80)
    (ha : (0 < pl c ∧ 0 ≤ a ∧ a < nt) ∨ (pl c ≤ 0 ∧ a = -1)) (hb : (1 < pl c ∧ 0 ≤ b ∧ b < nt) ∨ (pl c ≤ 1 ∧ b = -1)) :
    am_RT nc (nt + 1) mc (mt + 1) pl (am_up hd nt c) (am_up lf nt a) (am_up rt nt b) (am_up op nt (if (if a = -1 then 0 else op a) < (if b = -1 then 0 else op b) then (if b = -1 then 0 else op b) else (if a = -1 then 0 else op a))) pm (am_up hm mt c) (am_up lm mt a) (am_up rm mt b) (am_up fr mt (Int32.ofInt (if a < 0 then 0 else fr a) ||| Int32.ofInt (if b < 0 then 0 else fr b)).toInt) := by
  obtain ⟨a1, a2, a3, a4, a5, a6, a7, a8, a9, a10, a11⟩ := h
  subst a7
  have oa : am_of (if a = -1 then 0 else op a) (if a < 0 then 0 else fr a) := by
    rcases ha with ⟨-, q1, q2⟩ | ⟨-, q⟩
    · rw [if_neg (by omega), if_neg (by omega)]; exact (a8 a q1 q2).2.2.2
    · rw [if_pos q, if_pos (by omega)]; exact Or.inl ⟨rfl, rfl⟩
  have ob : am_of (if b = -1 then 0 else op b) (if b < 0 then 0 else fr b) := by
    rcases hb with ⟨-, q1, q2⟩ | ⟨-, q⟩
    · rw [if_neg (by omega), if_neg (by omega)]; exact (a8 b q1 q2).2.2.2
    · rw [if_pos q, if_pos (by omega)]; exact Or.inl ⟨rfl, rfl⟩
  refine ⟨a1, a2, a3, a4, by omega, by omega, rfl, fun t t0 t1 => ?_, fun t t0 t1 => ?_, ?_, ?_⟩
  · by_cases e : t = mt
    · subst e
      simp only [am_up_s]
      exact ⟨trivial, trivial, trivial, am_or oa ob⟩
    · simp only [am_up_n _ _ e]
      exact a8 t t0 (by omega)
  · by_cases e : t = mt
    · subst e
      simp only [am_up_s]
      refine ⟨h0, h1, ha, hb, fun q => ?_, fun q => ?_⟩
      · have e1 : a ≠ t := by rcases ha with w | w <;> omega
        rw [am_up_n _ _ e1, if_neg (show ¬ a = -1 by omega)]
        split <;> omega
      · have e1 : b ≠ t := by rcases hb with w | w <;> omega
        rw [am_up_n _ _ e1, if_neg (show ¬ b = -1 by omega)]
        split <;> omega
    · obtain ⟨b1, b2, b3, b4, b5, b6⟩ := a9 t t0 (by omega)
      simp only [am_up_n _ _ e]
      refine ⟨b1, b2, b3, b4, fun q => ?_, fun q => ?_⟩
      · rw [am_up_n _ _ (show lf t ≠ mt by rcases b3 with w | w <;> omega)]; exact b5 q
      · rw [am_up_n _ _ (show rt t ≠ mt by rcases b4 with w | w <;> omega)]; exact b6 q
  · simp only [am_up_n _ _ (show (0 : Int) ≠ mt by omega)]; exact a10
  · simp only [am_up_n _ _ (show (1 : Int) ≠ mt by omega)]; exact a11
/-- what is found is the same on both sides -/
theorem am_RT_tf {nc nt mc mt : Int} {pl hd lf rt op pm hm lm rm fr : Int → Int} (h : am_RT nc nt mc mt pl hd lf rt op pm hm lm rm fr) (c a b : Int) : am_tf hm lm rm c a b mt = am_tf hd lf rt c a b nt := by
  obtain ⟨a1, a2, a3, a4, a5, a6, a7, a8, -⟩ := h
  subst a7
  refine am_fd_congr _ _ _ _ (fun i i0 i1 => ?_)
  obtain ⟨q1, q2, q3, -⟩ := a8 i (by omega) (by omega)
  rw [q1, q2, q3]
/-- CLASSES -/
def am_RC (nC mC : Int) (mb su sr sd mm sm rm dm : Int → Int) : Prop :=
  0 ≤ nC ∧ nC ≤ 8 ∧ mC = nC ∧ (∀ c, 0 ≤ c → c < nC → mm c = mb c ∧ 1 ≤ mb c ∧ mb c ≤ 4 ∧ sm c = su c ∧ 0 ≤ su c ∧ su c ≤ 3 ∧
    (∀ k, 0 ≤ k → k < su c → rm (c * 3 + k) = sr (c * 3 + k) ∧ 0 ≤ sr (c * 3 + k) ∧ sr (c * 3 + k) < c) ∧ (∀ k, 0 ≤ k → k < 4 → dm (c * 4 + k) = sd (c * 4 + k))) ∧
  (∀ c, nC ≤ c → c < 8 → su c = 0 ∧ ∀ k, 0 ≤ k → k < 4 → sd (c * 4 + k) = -1)
abbrev am_RCI (I : Nat → Int → Int) : Prop := am_RC (I 10 4) (I 53 9) (I 11) (I 12) (I 13) (I 14) (I 61) (I 62) (I 63) (I 64)
/-- INSTANCES -/
def am_RI (nI mI nC nc : Int) (pl ic ih ix cc cv bd im hm xm cm vm bm : Int → Int) : Prop :=
  0 ≤ nI ∧ nI ≤ 20 ∧ mI = nI ∧ (∀ i, 0 ≤ i → i < nI → im i = ic i ∧ 0 ≤ ic i ∧ ic i < nC ∧ hm i = ih i ∧ 0 ≤ ih i ∧ ih i < nc ∧ xm i = ix i ∧ 0 ≤ ix i ∧ ix i ≤ 3 ∧
    (∀ k, 0 ≤ k → k < ix i → cm (i * 3 + k) = cc (i * 3 + k) ∧ 0 ≤ cc (i * 3 + k) ∧ cc (i * 3 + k) < nC ∧ vm (i * 3 + k) = cv (i * 3 + k) ∧ 0 ≤ cv (i * 3 + k) ∧ cv (i * 3 + k) < pl (ih i)) ∧ (∀ k, 0 ≤ k → k < 4 → bm (i * 4 + k) = bd (i * 4 + k))) ∧
  (∀ i, nI ≤ i → i < 20 → ix i = 0 ∧ ∀ k, 0 ≤ k → k < 4 → bd (i * 4 + k) = -1)
abbrev am_RII (I : Nat → Int → Int) : Prop := am_RI (I 15 8) (I 53 14) (I 10 4) (I 2 1) (I 3) (I 16) (I 17) (I 18) (I 19) (I 20) (I 21) (I 65) (I 66) (I 67) (I 68) (I 69) (I 70)
/-- NODES -/
def am_RN (nN mN nt nC : Int) (mb kd na nb nc hg km am bm cm hm : Int → Int) : Prop :=
  0 ≤ nN ∧ nN ≤ 80 ∧ mN = nN ∧ (∀ n, 0 ≤ n → n < nN → km n = kd n ∧ am n = na n ∧ bm n = nb n ∧ cm n = nc n ∧ hm n = hg n ∧ 0 ≤ kd n ∧ kd n ≤ 9 ∧ 0 ≤ hg n ∧ hg n ≤ 8 ∧
    (kd n = 1 → 0 ≤ na n ∧ na n ≤ 3) ∧ (kd n = 2 ∨ kd n = 3 → 0 ≤ na n ∧ na n ≤ 3 ∧ 0 ≤ nb n ∧ nb n ≤ 3) ∧
    (kd n = 4 → 0 ≤ na n ∧ na n < nC ∧ 0 ≤ nb n ∧ nb n < nt ∧ 0 ≤ nc n ∧ nc n < mb (na n)) ∧
    (5 ≤ kd n → 0 ≤ na n ∧ na n < n ∧ 0 ≤ nb n ∧ nb n < n ∧ hg (na n) < hg n ∧ hg (nb n) < hg n) ∧ (kd n = 9 → 0 ≤ nc n ∧ nc n < n ∧ hg (nc n) < hg n))
abbrev am_RNI (I : Nat → Int → Int) : Prop := am_RN (I 22 8) (I 53 21) (I 2 6) (I 10 4) (I 11) (I 23) (I 24) (I 25) (I 26) (I 27) (I 71) (I 72) (I 73) (I 74) (I 75)
