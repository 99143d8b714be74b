/-! PUT IN: the loops, in the class and in the reference. -/
theorem am_uI_eq (I : Nat → Int → Int) (k : Nat) (j v : Int) : am_uI I k j v = am_sI I k (am_up (I k) j v) := by
  funext x
  rw [am_uI_c, am_sI_c]
def am_noi (im : Int → Int) : Int → Int := fun t => if im t = -1 then 1 else 0
theorem am_noi_up (im : Int → Int) (t : Int) {r : Int} (hr : r ≠ -1) : am_noi (am_up im t r) = am_up (am_noi im) t 0 := by
  funext x
  unfold am_noi
  rw [am_up_a, am_up_a]
  by_cases e : x = t
  · rw [if_pos e, if_pos e, if_neg hr]
  · rw [if_neg e, if_neg e]
theorem am_noi_0 (im : Int → Int) (t : Int) : 0 ≤ am_noi im t ∧ am_noi im t ≤ 1 := by
  unfold am_noi
  by_cases e : im t = -1
  · rw [if_pos e]; omega
  · rw [if_neg e]; omega
theorem am_suf (f : Int → Int) (h0 : ∀ i, 0 ≤ f i) (n : Int) : ∀ (k : Nat) (a : Int), a + k ≤ n → am_sm f (a + k) (n - (a + k)).toNat ≤ am_sm f a (n - a).toNat := by
  intro k
  induction k with
  | zero => intro a _; rw [show a + ((0 : Nat) : Int) = a by omega]; exact Int.le_refl _
  | succ k ih =>
    intro a h
    have h1 := ih (a + 1) (by omega)
    rw [show a + 1 + (k : Int) = a + ((k + 1 : Nat) : Int) by omega] at h1
    have h2 := am_sm_l f a (n - (a + 1)).toNat
    rw [show (n - (a + 1)).toNat + 1 = (n - a).toNat by omega] at h2
    have := h0 a
    omega
theorem am_suf1 (f : Int → Int) (h0 : ∀ i, 0 ≤ f i) {n a b : Int} (h1 : a < b) (h2 : b ≤ n) : f a + am_sm f b (n - b).toNat ≤ am_sm f a (n - a).toNat := by
  have h3 := am_suf f h0 n (b - (a + 1)).toNat (a + 1) (by omega)
  rw [show a + 1 + ((b - (a + 1)).toNat : Int) = b by omega] at h3
  have h4 := am_sm_l f a (n - (a + 1)).toNat
  rw [show (n - (a + 1)).toNat + 1 = (n - a).toNat by omega] at h4
  omega
def am_pti (n0 v tp p : Int) (op im w cm sk : Int → Int) (nt : Int) : Prop :=
  (∀ t, 2 ≤ t → t < n0 → (op t = 0 → im t = t ∧ (cm t = -1 ∨ cm t = t)) ∧ (op t ≠ 0 → cm t = im t)) ∧
  (cm 0 = im 0 ∧ cm 1 = im 1) ∧
  (∀ t, 0 ≤ t → t < n0 → im t = -1 ∨ (0 ≤ im t ∧ im t < nt ∧ op (im t) = 0)) ∧
  ((1 ≤ v → im 0 ≠ -1) ∧ (2 ≤ v → im 1 ≠ -1)) ∧ 0 ≤ p ∧
  (∀ i, 0 ≤ i → i < p → sk i = w i ∧ 2 ≤ w i ∧ w i < n0 ∧ op (w i) ≠ 0 ∧ op (w i) ≤ v ∧ im (w i) = -1 ∧ i + 1 ≤ am_sm (am_noi im) (w i) (n0 - w i).toNat) ∧
  (∀ i j, 0 ≤ i → i < j → j < p → w j < w i) ∧
  (im tp ≠ -1 ∨ (0 < p ∧ w 0 = tp))
theorem am_pti_le {n0 v tp p : Int} {op im w cm sk : Int → Int} {nt : Int} (h : am_pti n0 v tp p op im w cm sk nt) (hn : 0 ≤ n0) : p ≤ am_sm (am_noi im) 0 n0.toNat := by
  obtain ⟨a1, a2, a3, a4, a5, a6, a7, a8⟩ := h
  have f0 : ∀ i, 0 ≤ am_noi im i := fun i => (am_noi_0 im i).1
  by_cases q : p = 0
  · have := am_sm_b0 (am_noi im) 0 n0.toNat (fun i _ _ => f0 i)
    omega
  · obtain ⟨b1, b2, b3, b4, b5, b6, b7⟩ := a6 (p - 1) (by omega) (by omega)
    have s := am_suf (am_noi im) f0 n0 (w (p - 1)).toNat 0 (by omega)
    rw [show (0 : Int) + ((w (p - 1)).toNat : Int) = w (p - 1) by omega, show (n0 - 0).toNat = n0.toNat by omega] at s
    omega
theorem am_pti_push {n0 v tp p : Int} {op im w cm sk : Int → Int} {nt x : Int} (h : am_pti n0 v tp p op im w cm sk nt) (hp : 0 < p) (x2 : 2 ≤ x) (hx : x < w (p - 1)) (ho : op x ≠ 0) (hv : op x ≤ v) (hi : im x = -1) : am_pti n0 v tp (p + 1) op im (am_up w p x) cm (am_up sk p x) nt := by
  obtain ⟨a1, a2, a3, a4, a5, a6, a7, a8⟩ := h
  have f0 : ∀ i, 0 ≤ am_noi im i := fun i => (am_noi_0 im i).1
  refine ⟨a1, a2, a3, a4, by omega, fun i i0 i1 => ?_, fun i j i0 ij j1 => ?_, ?_⟩
  · by_cases e : i = p
    · rw [e, am_up_s, am_up_s]
      obtain ⟨b1, b2, b3, b4, b5, b6, b7⟩ := a6 (p - 1) (by omega) (by omega)
      have s := am_suf1 (am_noi im) f0 hx (show w (p - 1) ≤ n0 by omega)
      have f1 : am_noi im x = 1 := if_pos hi
      exact ⟨rfl, x2, by omega, ho, hv, hi, by omega⟩
    · rw [am_up_n _ _ e, am_up_n _ _ e]
      exact a6 i i0 (by omega)
  · rw [am_up_n _ _ (show i ≠ p by omega)]
    by_cases e : j = p
    · rw [e, am_up_s]
      by_cases ei : i = p - 1
      · rw [ei]; exact hx
      · have := a7 i (p - 1) i0 (by omega) (by omega)
        omega
    · rw [am_up_n _ _ e]
      exact a7 i j i0 ij (by omega)
  · rw [am_up_n _ _ (show (0 : Int) ≠ p by omega)]
    rcases a8 with a8 | ⟨_, a8⟩
    · exact Or.inl a8
    · exact Or.inr ⟨by omega, a8⟩
theorem am_pti_norm {n0 v tp p : Int} {op im w cm sk : Int → Int} {nt x : Int} (h : am_pti n0 v tp p op im w cm sk nt) (x2 : 2 ≤ x) (hx : x < n0) (ho : op x = 0) : am_pti n0 v tp p op im w (am_up cm x x) (am_up sk p x) nt := by
  obtain ⟨a1, a2, a3, a4, a5, a6, a7, a8⟩ := h
  refine ⟨fun t t0 t1 => ?_, ?_, a3, a4, a5, fun i i0 i1 => ?_, a7, a8⟩
  · obtain ⟨b1, b2⟩ := a1 t t0 t1
    by_cases e : t = x
    · rw [e, am_up_s]
      exact ⟨fun q => ⟨by rw [e] at b1; exact (b1 q).1, Or.inr rfl⟩, fun q => absurd ho q⟩
    · rw [am_up_n _ _ e]; exact ⟨b1, b2⟩
  · rw [am_up_n _ _ (show (0 : Int) ≠ x by omega), am_up_n _ _ (show (1 : Int) ≠ x by omega)]; exact a2
  · rw [am_up_n _ _ (show i ≠ p by omega)]; exact a6 i i0 i1
theorem am_pti_made {n0 v tp p : Int} {op im w cm sk : Int → Int} {nt r nt2 : Int} {op2 : Int → Int} (h : am_pti n0 v tp p op im w cm sk nt) (hp : 0 < p) (hn : n0 ≤ nt) (hn2 : nt ≤ nt2) (he : ∀ t, t < nt → op2 t = op t) (r0 : 0 ≤ r) (r1 : r < nt2) (hr : op2 r = 0) : am_pti n0 v tp (p + -1) op2 (am_up im (w (p - 1)) r) w (am_up cm (w (p - 1)) r) sk nt2 := by
  obtain ⟨a1, a2, a3, a4, a5, a6, a7, a8⟩ := h
  have f0 : ∀ i, 0 ≤ am_noi im i := fun i => (am_noi_0 im i).1
  obtain ⟨b1, b2, b3, b4, b5, b6, b7⟩ := a6 (p - 1) (by omega) (by omega)
  refine ⟨fun t t0 t1 => ?_, ?_, fun t t0 t1 => ?_, ?_, by omega, fun i i0 i1 => ?_, fun i j i0 ij j1 => a7 i j i0 ij (by omega), ?_⟩
  · obtain ⟨c1, c2⟩ := a1 t t0 t1
    rw [he t (by omega)]
    by_cases e : t = w (p - 1)
    · rw [e, am_up_s, am_up_s]
      exact ⟨fun q => absurd q b4, fun _ => rfl⟩
    · rw [am_up_n _ _ e, am_up_n _ _ e]; exact ⟨c1, c2⟩
  · rw [am_up_n _ _ (show (0 : Int) ≠ w (p - 1) by omega), am_up_n _ _ (show (1 : Int) ≠ w (p - 1) by omega), am_up_n _ _ (show (0 : Int) ≠ w (p - 1) by omega), am_up_n _ _ (show (1 : Int) ≠ w (p - 1) by omega)]; exact a2
  · by_cases e : t = w (p - 1)
    · rw [e, am_up_s]; exact Or.inr ⟨r0, r1, hr⟩
    · rw [am_up_n _ _ e]
      rcases a3 t t0 t1 with z | ⟨z1, z2, z3⟩
      · exact Or.inl z
      · exact Or.inr ⟨z1, by omega, by rw [he _ z2]; exact z3⟩
  · rw [am_up_n _ _ (show (0 : Int) ≠ w (p - 1) by omega), am_up_n _ _ (show (1 : Int) ≠ w (p - 1) by omega)]; exact a4
  · obtain ⟨c1, c2, c3, c4, c5, c6, c7⟩ := a6 i i0 (by omega)
    have hlt := a7 i (p - 1) i0 (by omega) (by omega)
    rw [he _ (by omega), am_up_n _ _ (show w i ≠ w (p - 1) by omega), am_noi_up _ _ (by omega)]
    refine ⟨c1, c2, c3, c4, c5, c6, ?_⟩
    have s : am_sm (am_up (am_noi im) (w (p - 1)) 0) (w i) (n0 - w i).toNat = am_sm (am_noi im) (w i) (n0 - w i).toNat := by
      refine am_sm_congr _ _ _ _ (fun y y0 y1 => ?_)
      exact am_up_n _ _ (by omega)
    rw [s]; exact c7
  · by_cases e : tp = w (p - 1)
    · left; rw [e, am_up_s]; omega
    · rw [am_up_n _ _ e]
      rcases a8 with z | ⟨z1, z2⟩
      · exact Or.inl z
      · right
        by_cases ep : p = 1
        · exfalso; apply e; rw [← z2, ep]; rfl
        · exact ⟨by omega, z2⟩
/-- the reference goes through a CLOSED ARGUMENT by itself -/
theorem u_put_nl (e N : Nat) (tp z o p t : Int) (a5 : Option am_V) (J : Nat → Int → Int) (M : Nat → Int → Int64) (hp : 0 < p) (hp2 : p ≤ 100) (ht : J 60 (p - 1) = t) (t0 : 2 ≤ t) (t1 : t < 80) (hf : J 58 t ≠ 0) (hc : J 59 t = -1) (l0 : 1 < J 56 t) (l1 : J 56 t < 80) (hl : J 59 (J 56 t) = -1) (hx : J 58 (J 56 t) = 0) : am_h177 e N tp z o p a5 J M = am_h177 e N tp z o p (some (.inl (J 56 t))) (am_sI (am_sI J 60 (am_up (J 60) p (J 56 t))) 59 (am_up (J 59) (J 56 t) (J 56 t))) M := by
  rw [u_put_pushl e N tp z o p t a5 J M hp (by omega) ht t0 t1 hf hc l0 l1 hl]
  have h := u_put_closed e N tp z o (p + 1) (J 56 t) (some (.inl t)) (am_uI J 60 p (J 56 t)) M (by omega) (by omega) (by rw [am_uI_c, if_pos rfl, show p + 1 - 1 = p by omega, am_up_s]) (by omega) l1 hx
  rw [h, show p + 1 + -1 = p by omega, am_uI_eq J, am_uI_eq]
  rfl
theorem u_put_nr (e N : Nat) (tp z o p t : Int) (a5 : Option am_V) (J : Nat → Int → Int) (M : Nat → Int → Int64) (hp : 0 < p) (hp2 : p ≤ 100) (ht : J 60 (p - 1) = t) (t0 : 2 ≤ t) (t1 : t < 80) (hf : J 58 t ≠ 0) (hc : J 59 t = -1) (hl : J 56 t ≤ 1 ∨ (J 56 t < 80 ∧ J 59 (J 56 t) ≠ -1)) (l0 : 1 < J 57 t) (l1 : J 57 t < 80) (hr : J 59 (J 57 t) = -1) (hx : J 58 (J 57 t) = 0) : am_h177 e N tp z o p a5 J M = am_h177 e N tp z o p (some (.inl (J 57 t))) (am_sI (am_sI J 60 (am_up (J 60) p (J 57 t))) 59 (am_up (J 59) (J 57 t) (J 57 t))) M := by
  rw [u_put_pushr e N tp z o p t a5 J M hp (by omega) ht t0 t1 hf hc hl l0 l1 hr]
  have h := u_put_closed e N tp z o (p + 1) (J 57 t) (some (.inl t)) (am_uI J 60 p (J 57 t)) M (by omega) (by omega) (by rw [am_uI_c, if_pos rfl, show p + 1 - 1 = p by omega, am_up_s]) (by omega) l1 hx
  rw [h, show p + 1 + -1 = p by omega, am_uI_eq J, am_uI_eq]
  rfl
abbrev am_ptI (n0 v tp p : Int) (I J : Nat → Int → Int) : Prop := am_pti n0 v tp p (I 7) (I 8) (I 9) (J 59) (J 60) (I 2 6)
/-- what PUT IN comes to -/
def am_ptP (I J I1 J1 : Nat → Int → Int) (r : Int) : Prop := am_FrT I I1 ∧ am_FrU J J1 ∧ am_RT2 I1 J1 ∧ am_ROI I1 ∧ (r = -3 ∨ (2 ≤ r ∧ r < I1 2 6 ∧ I1 7 r = 0))
theorem am_ptP_step {I J I1 J1 I2 J2 : Nat → Int → Int} {r : Int} (h1 : am_FrT I I1) (h2 : am_FrU J J1) (h : am_ptP I1 J1 I2 J2 r) : am_ptP I J I2 J2 r := ⟨am_FrT_trans h1 h.1, am_FrU_trans h2 h.2.1, h.2.2⟩
/-- an ARGUMENT of an open TYPE on the row -/
theorem am_pt_arg {I J : Nat → Int → Int} {n0 v tp p x : Int} (hT : am_RT2 I J) (hn : n0 ≤ I 2 6) (h : am_ptI n0 v tp p I J) (x0 : 0 ≤ x) (x1 : x < n0) (xv : I 7 x ≤ v) (hi : I 8 x = -1) : 2 ≤ x ∧ I 7 x ≠ 0 ∧ J 59 x = -1 := by
  obtain ⟨a1, a2, a3, a4, a5, a6, a7, a8⟩ := h
  obtain ⟨t1, t2, t3, t4, t5, t6, t7, t8, t9, t10, t11⟩ := hT
  have n0' : x ≠ 0 := fun e => by
    rw [e] at xv hi
    exact a4.1 (by omega) hi
  have n1 : x ≠ 1 := fun e => by
    rw [e] at xv hi
    exact a4.2 (by omega) hi
  have x2 : 2 ≤ x := by omega
  obtain ⟨b1, b2⟩ := a1 x x2 x1
  have ho : I 7 x ≠ 0 := fun e => by
    have := (b1 e).1
    omega
  exact ⟨x2, ho, (b2 ho).trans hi⟩
theorem am_pt_im {I J : Nat → Int → Int} {n0 v tp p x : Int} (hT : am_RT2 I J) (h : am_ptI n0 v tp p I J) (x1 : x < n0) (hx : x = -1 ∨ (0 ≤ x ∧ I 8 x ≠ -1 ∧ (x ≤ 1 ∨ J 59 x ≠ -1))) : am_im (J 59) x = am_im (I 8) x := by
  obtain ⟨a1, a2, a3, a4, a5, a6, a7, a8⟩ := h
  unfold am_im
  rcases hx with e | ⟨x0, e1, e2⟩
  · rw [if_pos e, if_pos e]
  · rw [if_neg (by omega), if_neg (by omega)]
    by_cases q0 : x = 0
    · rw [q0]; exact a2.1
    by_cases q1 : x = 1
    · rw [q1]; exact a2.2
    obtain ⟨b1, b2⟩ := a1 x (by omega) x1
    by_cases ho : I 7 x = 0
    · obtain ⟨c1, c2⟩ := b1 ho
      omega
    · exact b2 ho
