/-! about(): what hangs on a DICTIONARY. -/
theorem am_sm_b1 (f : Int → Int) (a : Int) : ∀ n : Nat, (∀ i : Int, a ≤ i → i < a + n → f i ≤ 1) → am_sm f a n ≤ n := by
  intro n
  induction n with
  | zero => intro _; exact Int.le_refl _
  | succ n ih =>
    intro h
    have h1 := ih (fun i i0 i1 => h i i0 (by omega))
    have h2 := h (a + n) (by omega) (by omega)
    unfold am_sm
    omega
theorem am_sm_b0 (f : Int → Int) (a : Int) : ∀ n : Nat, (∀ i : Int, a ≤ i → i < a + n → 0 ≤ f i) → 0 ≤ am_sm f a n := by
  intro n
  induction n with
  | zero => intro _; exact Int.le_refl _
  | succ n ih =>
    intro h
    have h1 := ih (fun i i0 i1 => h i i0 (by omega))
    have h2 := h (a + n) (by omega) (by omega)
    unfold am_sm
    omega
theorem am_sm_congr (f g : Int → Int) (a : Int) : ∀ n : Nat, (∀ i : Int, a ≤ i → i < a + n → f i = g i) → am_sm f a n = am_sm g a n := by
  intro n
  induction n with
  | zero => intro _; rfl
  | succ n ih =>
    intro h
    unfold am_sm
    rw [ih (fun i i0 i1 => h i i0 (by omega)), h (a + n) (by omega) (by omega)]
theorem am_sm_l (f : Int → Int) (a : Int) : ∀ n : Nat, am_sm f a (n + 1) = f a + am_sm f (a + 1) n := by
  intro n
  induction n with
  | zero =>
    show am_sm f a 0 + f (a + ((0 : Nat) : Int)) = f a + 0
    rw [show a + ((0 : Nat) : Int) = a by omega]
    show 0 + f a = f a + 0
    omega
  | succ n ih =>
    show am_sm f a (n + 1) + f (a + ((n + 1 : Nat) : Int)) = f a + (am_sm f (a + 1) n + f (a + 1 + (n : Int)))
    rw [ih, show a + ((n + 1 : Nat) : Int) = a + 1 + (n : Int) by omega]
    omega
/-- the least row that has of and with each its PARTS -/
def am_mi (of nD : Int) (pm pt sn : Int → Int) : Prop := sn of = 1 ∧ ∀ C : Int → Prop, C of → (∀ d, 0 ≤ d → d < nD → C d → ∀ j, 0 ≤ j → j < pm d → C (pt (d * 6 + j))) → ∀ x, 0 ≤ x → x < nD → sn x = 1 → C x
def am_01 (nD : Int) (sn : Int → Int) : Prop := ∀ x, 0 ≤ x → x < nD → sn x = 0 ∨ sn x = 1
def am_clo (nD : Int) (pm pt sn : Int → Int) : Prop := ∀ d, 0 ≤ d → d < nD → sn d = 1 → ∀ j, 0 ≤ j → j < pm d → sn (pt (d * 6 + j)) = 1
theorem am_mi_eq {of nD : Int} {pm pt X Y : Int → Int} (h1 : am_mi of nD pm pt X) (h2 : am_mi of nD pm pt Y) (c1 : am_clo nD pm pt X) (c2 : am_clo nD pm pt Y) (z1 : am_01 nD X) (z2 : am_01 nD Y) : am_sm X 0 nD.toNat = am_sm Y 0 nD.toNat := by
  refine am_sm_congr X Y 0 _ (fun i i0 i1 => ?_)
  have a := h1.2 (fun x => Y x = 1) h2.1 (fun d d0 d1 hd j j0 j1 => c2 d d0 d1 hd j j0 j1) i i0 (by omega)
  have b := h2.2 (fun x => X x = 1) h1.1 (fun d d0 d1 hd j j0 j1 => c1 d d0 d1 hd j j0 j1) i i0 (by omega)
  rcases z1 i i0 (by omega) with w1 | w1 <;> rcases z2 i i0 (by omega) with w2 | w2
  · rw [w1, w2]
  · have := b w2; omega
  · have := a w1; omega
  · rw [w1, w2]
theorem am_mi_up {of nD : Int} {pm pt sn : Int → Int} (h : am_mi of nD pm pt sn) {d j : Int} (d0 : 0 ≤ d) (d1 : d < nD) (hd : sn d = 1) (j0 : 0 ≤ j) (j1 : j < pm d) : am_mi of nD pm pt (am_up sn (pt (d * 6 + j)) 1) := by
  refine ⟨?_, fun C hC hcl x x0 x1 hx => ?_⟩
  · by_cases e : of = pt (d * 6 + j)
    · rw [am_up_a, if_pos e]
    · rw [am_up_n _ _ e]; exact h.1
  · by_cases e : x = pt (d * 6 + j)
    · rw [e]; exact hcl d d0 d1 (h.2 C hC hcl d d0 d1 hd) j j0 j1
    · rw [am_up_n _ _ e] at hx
      exact h.2 C hC hcl x x0 x1 hx
theorem am_01_up {nD : Int} {sn : Int → Int} (h : am_01 nD sn) (y : Int) : am_01 nD (am_up sn y 1) := by
  intro x x0 x1
  rw [am_up_a]
  by_cases e : x = y
  · rw [if_pos e]; exact Or.inr rfl
  · rw [if_neg e]; exact h x x0 x1
theorem am_up1 {sn : Int → Int} {y x : Int} (h : sn x = 1) : am_up sn y 1 x = 1 := by
  rw [am_up_a]
  by_cases e : x = y
  · rw [if_pos e]
  · rw [if_neg e]; exact h
/-- what holds while the class looks -/
def am_hg (of nD : Int) (pm pt : Int → Int) (i k fo : Int) (rr sn : Int → Int) : Prop := 0 ≤ i ∧ i ≤ fo ∧ am_01 nD sn ∧ am_sm sn 0 nD.toNat = fo ∧ (∀ y, 0 ≤ y → y < fo → 0 ≤ rr y ∧ rr y < nD ∧ sn (rr y) = 1) ∧ (∀ x, 0 ≤ x → x < nD → sn x = 1 → ∃ y, 0 ≤ y ∧ y < fo ∧ rr y = x) ∧ (∀ y, 0 ≤ y → y < i → ∀ j, 0 ≤ j → j < pm (rr y) → sn (pt (rr y * 6 + j)) = 1) ∧ (∀ j, 0 ≤ j → j < k → sn (pt (rr i * 6 + j)) = 1) ∧ am_mi of nD pm pt sn
theorem am_hg_have {of nD : Int} {pm pt : Int → Int} {i k fo : Int} {rr sn : Int → Int} (h : am_hg of nD pm pt i k fo rr sn) (hx : sn (pt (rr i * 6 + k)) = 1) : am_hg of nD pm pt i (k + 1) fo rr sn := by
  obtain ⟨a1, a2, a3, a4, a5, a6, a7, a8, a9⟩ := h
  refine ⟨a1, a2, a3, a4, a5, a6, a7, fun j j0 j1 => ?_, a9⟩
  by_cases e : j = k
  · rw [e]; exact hx
  · exact a8 j j0 (by omega)
theorem am_hg_new {of nD : Int} {pm pt : Int → Int} {i k fo : Int} {rr sn : Int → Int} (h : am_hg of nD pm pt i k fo rr sn) (hi : i < fo) (k0 : 0 ≤ k) (k1 : k < pm (rr i)) (p0 : 0 ≤ pt (rr i * 6 + k)) (p1 : pt (rr i * 6 + k) < nD) (hx : sn (pt (rr i * 6 + k)) = 0) : fo < nD ∧ am_hg of nD pm pt i (k + 1) (fo + 1) (am_up rr fo (pt (rr i * 6 + k))) (am_up sn (pt (rr i * 6 + k)) 1) := by
  obtain ⟨a1, a2, a3, a4, a5, a6, a7, a8, a9⟩ := h
  obtain ⟨b1, b2, b3⟩ := a5 i a1 hi
  have s1 := am_sm_up sn 0 (pt (rr i * 6 + k)) 1 p0 nD.toNat (by omega)
  have s2 := am_sm_b1 (am_up sn (pt (rr i * 6 + k)) 1) 0 nD.toNat (fun y y0 y1 => by
    have := am_01_up a3 (pt (rr i * 6 + k)) y y0 (by omega)
    omega)
  have hlt : fo < nD := by omega
  refine ⟨hlt, a1, by omega, am_01_up a3 _, by omega, fun y y0 y1 => ?_, fun x x0 x1 h1 => ?_, fun y y0 y1 j j0 j1 => ?_, fun j j0 j1 => ?_, am_mi_up a9 b1 b2 b3 k0 k1⟩
  · by_cases e : y = fo
    · rw [e, am_up_s, am_up_s]; exact ⟨p0, p1, rfl⟩
    · rw [am_up_n _ _ e]
      obtain ⟨c1, c2, c3⟩ := a5 y y0 (by omega)
      exact ⟨c1, c2, am_up1 c3⟩
  · by_cases e : x = pt (rr i * 6 + k)
    · exact ⟨fo, by omega, by omega, by rw [am_up_s, e]⟩
    · rw [am_up_n _ _ e] at h1
      obtain ⟨y, y0, y1, hy⟩ := a6 x x0 x1 h1
      exact ⟨y, y0, by omega, by rw [am_up_n _ _ (by omega)]; exact hy⟩
  · rw [am_up_n _ _ (show y ≠ fo by omega)] at j1 ⊢
    exact am_up1 (a7 y y0 y1 j j0 j1)
  · rw [am_up_n _ _ (show i ≠ fo by omega)]
    by_cases e : j = k
    · rw [e, am_up_s]
    · exact am_up1 (a8 j j0 (by omega))
theorem am_hg_next {of nD : Int} {pm pt : Int → Int} {i k fo : Int} {rr sn : Int → Int} (h : am_hg of nD pm pt i k fo rr sn) (hi : i < fo) (hk : k = pm (rr i)) : am_hg of nD pm pt (i + 1) 0 fo rr sn := by
  obtain ⟨a1, a2, a3, a4, a5, a6, a7, a8, a9⟩ := h
  refine ⟨by omega, by omega, a3, a4, a5, a6, fun y y0 y1 j j0 j1 => ?_, fun j j0 j1 => by omega, a9⟩
  by_cases e : y = i
  · rw [e] at j1 ⊢; exact a8 j j0 (by omega)
  · exact a7 y y0 (by omega) j j0 j1
theorem am_hg_end {of nD : Int} {pm pt : Int → Int} {fo : Int} {rr sn : Int → Int} (h : am_hg of nD pm pt fo 0 fo rr sn) : am_01 nD sn ∧ am_sm sn 0 nD.toNat = fo ∧ am_clo nD pm pt sn ∧ am_mi of nD pm pt sn := by
  obtain ⟨a1, a2, a3, a4, a5, a6, a7, a8, a9⟩ := h
  refine ⟨a3, a4, fun d d0 d1 hd j j0 j1 => ?_, a9⟩
  obtain ⟨y, y0, y1, hy⟩ := a6 d d0 d1 hd
  rw [← hy] at j1 ⊢
  exact a7 y y0 y1 j j0 j1
theorem am_sm_0 (f : Int → Int) (a : Int) : ∀ n : Nat, (∀ i : Int, a ≤ i → i < a + n → f i = 0) → am_sm f a n = 0 := by
  intro n
  induction n with
  | zero => intro _; rfl
  | succ n ih =>
    intro h
    unfold am_sm
    rw [ih (fun i i0 i1 => h i i0 (by omega)), h (a + n) (by omega) (by omega)]
    omega
theorem am_hg_start {of nD : Int} {pm pt : Int → Int} {rr m : Int → Int} (o0 : 0 ≤ of) (o1 : of < nD) : am_hg of nD pm pt 0 0 1 (am_up rr 0 of) (am_up (am_zr m 0 nD) of 1) := by
  have z : ∀ x, 0 ≤ x → x < nD → am_zr m 0 nD x = 0 := fun x x0 x1 => if_pos ⟨x0, x1⟩
  have s1 := am_sm_up (am_zr m 0 nD) 0 of 1 o0 nD.toNat (by omega)
  rw [am_sm_0 _ _ _ (fun i i0 i1 => z i i0 (by omega)), z of o0 o1] at s1
  refine ⟨Int.le_refl _, by omega, fun x x0 x1 => ?_, by omega, fun y y0 y1 => ?_, fun x x0 x1 hx => ⟨0, by omega, by omega, ?_⟩, fun y y0 y1 => by omega, fun j j0 j1 => by omega, am_up_s _ _ _, fun C hC _ x x0 x1 hx => ?_⟩
  · rw [am_up_a]
    by_cases e : x = of
    · rw [if_pos e]; exact Or.inr rfl
    · rw [if_neg e]; exact Or.inl (z x x0 x1)
  · have e : y = 0 := by omega
    rw [e, am_up_s, am_up_s]
    exact ⟨o0, o1, rfl⟩
  · rw [am_up_s]
    by_cases e : x = of
    · exact e.symm
    · rw [am_up_n _ _ e, z x x0 x1] at hx; omega
  · by_cases e : x = of
    · rw [e]; exact hC
    · rw [am_up_n _ _ e, z x x0 x1] at hx; omega
