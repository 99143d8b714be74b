/-! PUT IN, both sides. -/
theorem u_norm_l {e N : Nat} {tp z o p : Int} {a5 : Option am_V} {I J : Nat → Int → Int} {M : Nat → Int → Int64} {n0 v : Int} (hT : am_RT2 I J) (hn : n0 ≤ I 2 6) (h : am_ptI n0 v tp p I J) (hp : 0 < p) (hp2 : p ≤ 100) (x0 : J 56 (I 9 (p - 1)) = -1 ∨ (0 ≤ J 56 (I 9 (p - 1)) ∧ J 56 (I 9 (p - 1)) < n0 ∧ I 8 (J 56 (I 9 (p - 1))) ≠ -1)) : ∃ (cm sk : Int → Int) (b5 : Option am_V), am_h177 e N tp z o p a5 J M = am_h177 e N tp z o p b5 (am_sI (am_sI J 60 sk) 59 cm) M ∧ am_pti n0 v tp p (I 7) (I 8) (I 9) cm sk (I 2 6) ∧ (J 56 (I 9 (p - 1)) ≤ 1 ∨ cm (J 56 (I 9 (p - 1))) ≠ -1) := by
  have same : am_sI (am_sI J 60 (J 60)) 59 (J 59) = J := by rw [am_sI_self, am_sI_self]
  by_cases q : J 56 (I 9 (p - 1)) ≤ 1 ∨ J 59 (J 56 (I 9 (p - 1))) ≠ -1
  · exact ⟨J 59, J 60, a5, by rw [same], h, q⟩
  have q1 : 1 < J 56 (I 9 (p - 1)) := by omega
  have q2 : J 59 (J 56 (I 9 (p - 1))) = -1 := by omega
  have ha := h
  obtain ⟨a1, a2, a3, a4, a5', a6, a7, a8⟩ := ha
  obtain ⟨b1, b2, b3, b4, b5, b6, b7⟩ := a6 (p - 1) (by omega) (by omega)
  have hTa := hT
  obtain ⟨t1, t2, t3, t4, t5, t6, t7, t8, t9, t10, t11⟩ := hTa
  obtain ⟨-, -, -, of⟩ := t8 (I 9 (p - 1)) (by omega) (by omega)
  obtain ⟨c1, c2⟩ := a1 (J 56 (I 9 (p - 1))) (by omega) (by omega)
  have hx0 : 0 ≤ J 56 (I 9 (p - 1)) ∧ J 56 (I 9 (p - 1)) < n0 ∧ I 8 (J 56 (I 9 (p - 1))) ≠ -1 := by omega
  have ho : I 7 (J 56 (I 9 (p - 1))) = 0 := by
    rcases Classical.em (I 7 (J 56 (I 9 (p - 1))) = 0) with w | w
    · exact w
    · have := c2 w; omega
  obtain ⟨-, -, -, of2⟩ := t8 (J 56 (I 9 (p - 1))) (by omega) (by omega)
  have hf : J 58 (I 9 (p - 1)) ≠ 0 := by rcases of with ⟨y, y2⟩ | ⟨y, y2⟩ | ⟨y, y2⟩ <;> omega
  have hf2 : J 58 (J 56 (I 9 (p - 1))) = 0 := by rcases of2 with ⟨y, y2⟩ | ⟨y, y2⟩ | ⟨y, y2⟩ <;> omega
  obtain ⟨-, d2⟩ := a1 (I 9 (p - 1)) b2 b3
  have hc := d2 b4
  refine ⟨_, _, _, u_put_nl e N tp z o p (I 9 (p - 1)) a5 J M hp hp2 b1 b2 (by omega) hf (by omega) q1 (by omega) q2 hf2, am_pti_norm h (by omega) (by omega) ho, Or.inr ?_⟩
  rw [am_up_s]; omega
theorem u_norm_r {e N : Nat} {tp z o p : Int} {a5 : Option am_V} {I J : Nat → Int → Int} {M : Nat → Int → Int64} {n0 v : Int} (hT : am_RT2 I J) (hn : n0 ≤ I 2 6) (h : am_ptI n0 v tp p I J) (hp : 0 < p) (hp2 : p ≤ 100) (hl : J 56 (I 9 (p - 1)) ≤ 1 ∨ (J 56 (I 9 (p - 1)) < 80 ∧ J 59 (J 56 (I 9 (p - 1))) ≠ -1)) (x0 : J 57 (I 9 (p - 1)) = -1 ∨ (0 ≤ J 57 (I 9 (p - 1)) ∧ J 57 (I 9 (p - 1)) < n0 ∧ I 8 (J 57 (I 9 (p - 1))) ≠ -1)) : ∃ (cm sk : Int → Int) (b5 : Option am_V), am_h177 e N tp z o p a5 J M = am_h177 e N tp z o p b5 (am_sI (am_sI J 60 sk) 59 cm) M ∧ am_pti n0 v tp p (I 7) (I 8) (I 9) cm sk (I 2 6) ∧ (J 57 (I 9 (p - 1)) ≤ 1 ∨ cm (J 57 (I 9 (p - 1))) ≠ -1) ∧ (J 56 (I 9 (p - 1)) ≤ 1 ∨ cm (J 56 (I 9 (p - 1))) ≠ -1) := by
  have same : am_sI (am_sI J 60 (J 60)) 59 (J 59) = J := by rw [am_sI_self, am_sI_self]
  by_cases q : J 57 (I 9 (p - 1)) ≤ 1 ∨ J 59 (J 57 (I 9 (p - 1))) ≠ -1
  · exact ⟨J 59, J 60, a5, by rw [same], h, q, by omega⟩
  have q1 : 1 < J 57 (I 9 (p - 1)) := by omega
  have q2 : J 59 (J 57 (I 9 (p - 1))) = -1 := by omega
  have ha := h
  obtain ⟨a1, a2, a3, a4, a5', a6, a7, a8⟩ := ha
  obtain ⟨b1, b2, b3, b4, b5, b6, b7⟩ := a6 (p - 1) (by omega) (by omega)
  have hTa := hT
  obtain ⟨t1, t2, t3, t4, t5, t6, t7, t8, t9, t10, t11⟩ := hTa
  obtain ⟨-, -, -, of⟩ := t8 (I 9 (p - 1)) (by omega) (by omega)
  obtain ⟨c1, c2⟩ := a1 (J 57 (I 9 (p - 1))) (by omega) (by omega)
  have hx0 : 0 ≤ J 57 (I 9 (p - 1)) ∧ J 57 (I 9 (p - 1)) < n0 ∧ I 8 (J 57 (I 9 (p - 1))) ≠ -1 := by omega
  have ho : I 7 (J 57 (I 9 (p - 1))) = 0 := by
    rcases Classical.em (I 7 (J 57 (I 9 (p - 1))) = 0) with w | w
    · exact w
    · have := c2 w; omega
  obtain ⟨-, -, -, of2⟩ := t8 (J 57 (I 9 (p - 1))) (by omega) (by omega)
  have hf : J 58 (I 9 (p - 1)) ≠ 0 := by rcases of with ⟨y, y2⟩ | ⟨y, y2⟩ | ⟨y, y2⟩ <;> omega
  have hf2 : J 58 (J 57 (I 9 (p - 1))) = 0 := by rcases of2 with ⟨y, y2⟩ | ⟨y, y2⟩ | ⟨y, y2⟩ <;> omega
  obtain ⟨-, d2⟩ := a1 (I 9 (p - 1)) b2 b3
  have hc := d2 b4
  refine ⟨_, _, _, u_put_nr e N tp z o p (I 9 (p - 1)) a5 J M hp hp2 b1 b2 (by omega) hf (by omega) hl q1 (by omega) q2 hf2, am_pti_norm h (by omega) (by omega) ho, Or.inr ?_, ?_⟩
  · rw [am_up_s]; omega
  · rcases hl with w | ⟨w1, w2⟩
    · exact Or.inl w
    · right
      rw [am_up_a]
      by_cases ee : J 56 (I 9 (p - 1)) = J 57 (I 9 (p - 1))
      · rw [if_pos ee]; omega
      · rw [if_neg ee]; exact w2
theorem am_sI_2 (J : Nat → Int → Int) (s1 s2 c1 c2 : Int → Int) : am_sI (am_sI (am_sI (am_sI J 60 s1) 59 c1) 60 s2) 59 c2 = am_sI (am_sI J 60 s2) 59 c2 := by
  funext k
  simp only [am_sI_c]
  by_cases q : k = 59
  · rw [if_pos q, if_pos q]
  · rw [if_neg q, if_neg q]
    by_cases w : k = 60
    · rw [if_pos w, if_pos w, if_neg q]
    · rw [if_neg w, if_neg q, if_neg w, if_neg w]
theorem am_FrU_2 (J : Nat → Int → Int) (s c : Int → Int) : am_FrU J (am_sI (am_sI J 60 s) 59 c) := ⟨fun k hk => by rw [am_fr_s (is := am_isU) (c := 59) rfl hk, am_fr_s (is := am_isU) (c := 60) rfl hk], fun _ _ => rfl⟩
theorem am_ax1 {x y n : Int} (h : x = -1 ∨ (0 ≤ x ∧ x < n ∧ y ≠ -1)) (hn : n ≤ 80) : x = -1 ∨ (0 ≤ x ∧ x < 80 ∧ y ≠ -1) := by omega
theorem am_ax2 {x y n : Int} (h : x = -1 ∨ (0 ≤ x ∧ x < n ∧ y ≠ -1)) (hn : n ≤ 80) : x = -1 ∨ (0 ≤ x ∧ x < 80) := by omega
theorem am_ax3 {x y n c : Int} (h : x = -1 ∨ (0 ≤ x ∧ x < n ∧ y ≠ -1)) (hn : n ≤ 80) (hc : x ≤ 1 ∨ c ≠ -1) : x = -1 ∨ (0 ≤ x ∧ x < 80 ∧ (x ≤ 1 ∨ c ≠ -1)) := by omega
theorem am_ax4 {x y n c : Int} (h : x = -1 ∨ (0 ≤ x ∧ x < n ∧ y ≠ -1)) (hc : x ≤ 1 ∨ c ≠ -1) : x = -1 ∨ (0 ≤ x ∧ y ≠ -1 ∧ (x ≤ 1 ∨ c ≠ -1)) := by omega
theorem am_ax5 {x y n c : Int} (h : x = -1 ∨ (0 ≤ x ∧ x < n ∧ y ≠ -1)) (hn : n ≤ 80) (hc : x ≤ 1 ∨ c ≠ -1) : x ≤ 1 ∨ (x < 80 ∧ c ≠ -1) := by omega
theorem am_arg_ok {k P x y nt t q : Int} (g : (k < P ∧ 0 ≤ x ∧ x < t) ∨ (P ≤ k ∧ x = -1)) (va : y = -1 ∧ x = -1 ∨ (0 ≤ x ∧ 0 ≤ y ∧ y < nt ∧ q = 0)) : (k < P ∧ 0 ≤ y ∧ y < nt) ∨ (P ≤ k ∧ y = -1) := by omega
theorem am_arg_cl {x y nt q : Int} (va : y = -1 ∧ x = -1 ∨ (0 ≤ x ∧ 0 ≤ y ∧ y < nt ∧ q = 0)) : y = -1 ∨ q = 0 := by omega
theorem l_put (d e N : Nat) (tp z o n0 v : Int) (L M : Nat → Int → Int64) (p0 : 0 ≤ tp) (p1 : tp < n0) (h20 : 2 ≤ n0) : ∀ (n : Nat) (I J : Nat → Int → Int) (p tn : Int) (a6 a7 a8 a5 : Option am_V), am_RT2 I J → am_ROI I → n0 ≤ I 2 6 → am_ptI n0 v tp p I J → (I 7 tp ≠ 0 ∨ tp < 2) → 2 * am_sm (am_noi (I 8)) 0 n0.toNat - p = n → 0 ≤ tn → tn + n ≤ 159 → ∃ (r : Int) (I1 J1 : Nat → Int → Int), am_h81 d N tp z o p tn a6 a7 a8 I L = some (some (.inl r), (am_GS N, am_GR, I1, L)) ∧ am_h177 e N tp z o p a5 J M = some (some (.inl r), (am_GS N, am_GR, J1, M)) ∧ am_ptP I J I1 J1 r := by
  intro n
  induction n with
  | zero =>
    intro I J p tn a6 a7 a8 a5 hT hO hn hp ho hm ht htn
    have hle := am_pti_le hp (by omega)
    have ep : p = 0 := by have := hp.2.2.2.2.1; omega
    obtain ⟨a1, a2, a3, a4, a5', a6', a7', a8'⟩ := hp
    have hTa := hT
    obtain ⟨t1, t2, t3, t4, t5, t6, t7, t8, t9, t10, t11⟩ := hTa
    have hi : I 8 tp ≠ -1 := by rcases a8' with w | w; exact w; omega
    have he : J 59 tp = I 8 tp := by
      by_cases q0 : tp = 0
      · rw [q0]; exact a2.1
      by_cases q1 : tp = 1
      · rw [q1]; exact a2.2
      exact (a1 tp (by omega) p1).2 (by omega)
    refine ⟨I 8 tp, I, J, t_put_end d N tp z o p tn a6 a7 a8 I L ep p0 (by omega), ?_, am_FrT_refl _, am_FrU_refl _, hT, hO, Or.inr ?_⟩
    · rw [u_put_end e N tp z o p a5 J M ep p0 (by omega), he]
    · rcases a3 tp p0 p1 with w | ⟨w1, w2, w3⟩
      · exact absurd w hi
      · refine ⟨?_, w2, w3⟩
        have n0' : I 8 tp ≠ 0 := fun e => by rw [e] at w3; omega
        have n1 : I 8 tp ≠ 1 := fun e => by rw [e] at w3; omega
        omega
  | succ n ih =>
    intro I J p tn a6 a7 a8 a5 hT hO hn hp ho hm ht htn
    have hle := am_pti_le hp (by omega)
    have hpa := hp
    obtain ⟨a1, a2, a3, a4, a5', a6', a7', a8'⟩ := hpa
    have hTa := hT
    obtain ⟨t1, t2, t3, t4, t5, t6, t7, t8, t9, t10, t11⟩ := hTa
    by_cases ep : p = 0
    · have hi : I 8 tp ≠ -1 := by rcases a8' with w | w; exact w; omega
      have he : J 59 tp = I 8 tp := by
        by_cases q0 : tp = 0
        · rw [q0]; exact a2.1
        by_cases q1 : tp = 1
        · rw [q1]; exact a2.2
        exact (a1 tp (by omega) p1).2 (by omega)
      refine ⟨I 8 tp, I, J, t_put_end d N tp z o p tn a6 a7 a8 I L ep p0 (by omega), ?_, am_FrT_refl _, am_FrU_refl _, hT, hO, Or.inr ?_⟩
      · rw [u_put_end e N tp z o p a5 J M ep p0 (by omega), he]
      · rcases a3 tp p0 p1 with w | ⟨w1, w2, w3⟩
        · exact absurd w hi
        · refine ⟨?_, w2, w3⟩
          have n0' : I 8 tp ≠ 0 := fun e => by rw [e] at w3; omega
          have n1 : I 8 tp ≠ 1 := fun e => by rw [e] at w3; omega
          omega
    have pp : 0 < p := by omega
    have ub := am_sm_b1 (am_noi (I 8)) 0 n0.toNat (fun i _ _ => (am_noi_0 (I 8) i).2)
    have p80 : p ≤ 80 := by omega
    obtain ⟨b1, b2, b3, b4, b5, b6, b7⟩ := a6' (p - 1) (by omega) (by omega)
    obtain ⟨h1, h2, h3, of⟩ := t8 (I 9 (p - 1)) (by omega) (by omega)
    obtain ⟨g1, g2, g3, g4, g5, g6⟩ := t9 (I 9 (p - 1)) b2 (by omega)
    have hf : J 58 (I 9 (p - 1)) ≠ 0 := by rcases of with ⟨y, y2⟩ | ⟨y, y2⟩ | ⟨y, y2⟩ <;> omega
    have hc : J 59 (I 9 (p - 1)) = -1 := by
      obtain ⟨-, d2⟩ := a1 (I 9 (p - 1)) b2 b3
      have := d2 b4
      omega
    have hla : I 5 (I 9 (p - 1)) = -1 ∨ (0 ≤ I 5 (I 9 (p - 1)) ∧ I 5 (I 9 (p - 1)) < I 9 (p - 1)) := by omega
    have hra : I 6 (I 9 (p - 1)) = -1 ∨ (0 ≤ I 6 (I 9 (p - 1)) ∧ I 6 (I 9 (p - 1)) < I 9 (p - 1)) := by omega
    have A0 : 0 ≤ I 9 (p - 1) := by omega
    have P1 : 0 ≤ p - 1 := by omega
    have P2 : p - 1 < p := by omega
    have A1 : I 9 (p - 1) < 80 := by omega
    have N80 : n0 ≤ 80 := by omega
    have T160 : tn < 160 := by omega
    have P100 : p ≤ 100 := by omega
    have P190 : p ≤ 190 := by omega
    have hlx : I 5 (I 9 (p - 1)) < n0 := by omega
    have hrx : I 6 (I 9 (p - 1)) < n0 := by omega
    have n0nn : 0 ≤ n0 := by omega
    clear of
    by_cases qa : 0 ≤ I 5 (I 9 (p - 1)) ∧ I 8 (I 5 (I 9 (p - 1))) = -1
    · obtain ⟨qa0, qa1⟩ := qa
      have hlt : I 5 (I 9 (p - 1)) < I 9 (p - 1) := by omega
      obtain ⟨x2, xo, xc⟩ := am_pt_arg hT hn hp qa0 (by omega) (by have := g5 qa0; omega) qa1
      have hp2 := am_pti_push hp pp x2 hlt xo (by have := g5 qa0; omega) qa1
      have p79 : p < 80 := by
        have := am_pti_le hp2 (by omega)
        omega
      have et := t_put_push d N tp z o p tn (I 9 (p - 1)) (I 5 (I 9 (p - 1))) a6 a7 a8 I L pp p79 ht (by omega) rfl (c_atr_l (d + 1) N (I 9 (p - 1)) I L (by omega) (by omega) qa0 (by omega) qa1) (by omega)
      have eu := u_put_pushl e N tp z o p (I 9 (p - 1)) a5 J M pp (by omega) b1 b2 (by omega) hf hc (by omega) (by omega) (by rw [h2]; exact xc)
      rw [h2] at eu
      obtain ⟨r, I1, J1, e1, e2, e3⟩ := ih (am_uI I 9 p (I 5 (I 9 (p - 1)))) (am_uI J 60 p (I 5 (I 9 (p - 1)))) (p + 1) (tn + 1) (some (.inl (I 9 (p - 1)))) (some (.inl (I 5 (I 9 (p - 1))))) a8 (some (.inl (I 9 (p - 1)))) hT hO hn (by simp only [am_ptI, am_uI_c, Nat.reduceEqDiff, ↓reduceIte]; exact hp2) ho (by show 2 * am_sm (am_noi (I 8)) 0 n0.toNat - (p + 1) = n; omega) (by omega) (by omega)
      exact ⟨r, I1, J1, et.trans e1, eu.trans e2, am_ptP_step (am_FrT_9 _ _ _) (am_FrU_60 _ _ _) e3⟩
    have hl2 : I 5 (I 9 (p - 1)) = -1 ∨ (0 ≤ I 5 (I 9 (p - 1)) ∧ I 5 (I 9 (p - 1)) < n0 ∧ I 8 (I 5 (I 9 (p - 1))) ≠ -1) := by omega
    obtain ⟨cm, sk, b5', en, hpn, hcl⟩ := u_norm_l (e := e) (N := N) (z := z) (o := o) (a5 := a5) (M := M) hT hn hp pp P100 (by rw [h2]; exact hl2)
    rw [h2] at hcl
    by_cases qb : 0 ≤ I 6 (I 9 (p - 1)) ∧ I 8 (I 6 (I 9 (p - 1))) = -1
    · obtain ⟨qb0, qb1⟩ := qb
      have hlt : I 6 (I 9 (p - 1)) < I 9 (p - 1) := by omega
      have hT3 : am_RT2 I (am_sI (am_sI J 60 sk) 59 cm) := hT
      obtain ⟨x2, xo, xc⟩ := am_pt_arg (J := am_sI (am_sI J 60 sk) 59 cm) hT3 hn hpn qb0 (by omega) (by have := g6 qb0; omega) qb1
      have hp2 := am_pti_push hpn pp x2 hlt xo (by have := g6 qb0; omega) qb1
      have p79 : p < 80 := by
        have := am_pti_le hp2 (by omega)
        omega
      obtain ⟨-, -, -, -, -, n6, -⟩ := hpn
      obtain ⟨k1, -⟩ := n6 (p - 1) (by omega) (by omega)
      have et := t_put_push d N tp z o p tn (I 9 (p - 1)) (I 6 (I 9 (p - 1))) a6 a7 a8 I L pp p79 ht (by omega) rfl (c_atr_r (d + 1) N (I 9 (p - 1)) I L (by omega) (by omega) (by omega) qb0 (by omega) qb1) (by omega)
      have hcc : cm (I 9 (p - 1)) = -1 := by
        obtain ⟨-, d2⟩ := (hp2.1) (I 9 (p - 1)) b2 b3
        have := d2 b4
        omega
      have eu := u_put_pushr e N tp z o p (I 9 (p - 1)) b5' (am_sI (am_sI J 60 sk) 59 cm) M pp (by omega) k1 b2 (by omega) hf hcc (by
        show J 56 (I 9 (p - 1)) ≤ 1 ∨ (J 56 (I 9 (p - 1)) < 80 ∧ cm (J 56 (I 9 (p - 1))) ≠ -1)
        rw [h2]; exact am_ax5 hl2 N80 hcl) (show 1 < J 57 (I 9 (p - 1)) by omega) (show J 57 (I 9 (p - 1)) < 80 by omega) (show cm (J 57 (I 9 (p - 1))) = -1 by rw [h3]; exact xc)
      have eu : am_h177 e N tp z o p b5' (am_sI (am_sI J 60 sk) 59 cm) M = am_h177 e N tp z o (p + 1) (some (.inl (I 9 (p - 1)))) (am_uI (am_sI (am_sI J 60 sk) 59 cm) 60 p (J 57 (I 9 (p - 1)))) M := eu
      rw [h3] at eu
      obtain ⟨r, I1, J1, e1, e2, e3⟩ := ih (am_uI I 9 p (I 6 (I 9 (p - 1)))) (am_uI (am_sI (am_sI J 60 sk) 59 cm) 60 p (I 6 (I 9 (p - 1)))) (p + 1) (tn + 1) (some (.inl (I 9 (p - 1)))) (some (.inl (I 6 (I 9 (p - 1))))) a8 (some (.inl (I 9 (p - 1)))) hT hO hn (by simp only [am_ptI, am_uI_c, am_sI_c, Nat.reduceEqDiff, ↓reduceIte]; exact hp2) ho (by show 2 * am_sm (am_noi (I 8)) 0 n0.toNat - (p + 1) = n; omega) (by omega) (by omega)
      exact ⟨r, I1, J1, et.trans e1, en.trans (eu.trans e2), am_ptP_step (am_FrT_9 _ _ _) (am_FrU_trans (am_FrU_2 J sk cm) (am_FrU_60 _ _ _)) e3⟩
    have hr2 : I 6 (I 9 (p - 1)) = -1 ∨ (0 ≤ I 6 (I 9 (p - 1)) ∧ I 6 (I 9 (p - 1)) < n0 ∧ I 8 (I 6 (I 9 (p - 1))) ≠ -1) := by omega
    obtain ⟨cm2, sk2, c5', en2, hpn2, hcr, hcl2⟩ := u_norm_r (e := e) (N := N) (z := z) (o := o) (a5 := b5') (M := M) (J := am_sI (am_sI J 60 sk) 59 cm) (I := I) hT hn hpn pp P100 (by
      show J 56 (I 9 (p - 1)) ≤ 1 ∨ (J 56 (I 9 (p - 1)) < 80 ∧ cm (J 56 (I 9 (p - 1))) ≠ -1)
      rw [h2]; exact am_ax5 hl2 N80 hcl) (by
      show J 57 (I 9 (p - 1)) = -1 ∨ (0 ≤ J 57 (I 9 (p - 1)) ∧ J 57 (I 9 (p - 1)) < n0 ∧ I 8 (J 57 (I 9 (p - 1))) ≠ -1)
      rw [h3]; exact hr2)
    have hcr : J 57 (I 9 (p - 1)) ≤ 1 ∨ cm2 (J 57 (I 9 (p - 1))) ≠ -1 := hcr
    have hcl2 : J 56 (I 9 (p - 1)) ≤ 1 ∨ cm2 (J 56 (I 9 (p - 1))) ≠ -1 := hcl2
    rw [h3] at hcr
    rw [h2] at hcl2
    rw [am_sI_2] at en2
    have hT3 : am_RT2 I (am_sI (am_sI J 60 sk2) 59 cm2) := hT
    have ia := am_pt_im (x := I 5 (I 9 (p - 1))) (J := am_sI (am_sI J 60 sk2) 59 cm2) hT3 hpn2 hlx (am_ax4 hl2 hcl2)
    have ib := am_pt_im (x := I 6 (I 9 (p - 1))) (J := am_sI (am_sI J 60 sk2) 59 cm2) hT3 hpn2 hrx (am_ax4 hr2 hcr)
    have va : am_im (I 8) (I 5 (I 9 (p - 1))) = -1 ∧ I 5 (I 9 (p - 1)) = -1 ∨ (0 ≤ I 5 (I 9 (p - 1)) ∧ 0 ≤ am_im (I 8) (I 5 (I 9 (p - 1))) ∧ am_im (I 8) (I 5 (I 9 (p - 1))) < I 2 6 ∧ I 7 (am_im (I 8) (I 5 (I 9 (p - 1)))) = 0) := by
      rcases hl2 with w | ⟨w1, w2, w3⟩
      · exact Or.inl ⟨if_pos w, w⟩
      · rcases a3 _ w1 w2 with y | ⟨y1, y2, y3⟩
        · exact absurd y w3
        · right
          have e : am_im (I 8) (I 5 (I 9 (p - 1))) = I 8 (I 5 (I 9 (p - 1))) := if_neg (by omega)
          rw [e]; exact ⟨w1, y1, y2, y3⟩
    have vb : am_im (I 8) (I 6 (I 9 (p - 1))) = -1 ∧ I 6 (I 9 (p - 1)) = -1 ∨ (0 ≤ I 6 (I 9 (p - 1)) ∧ 0 ≤ am_im (I 8) (I 6 (I 9 (p - 1))) ∧ am_im (I 8) (I 6 (I 9 (p - 1))) < I 2 6 ∧ I 7 (am_im (I 8) (I 6 (I 9 (p - 1)))) = 0) := by
      rcases hr2 with w | ⟨w1, w2, w3⟩
      · exact Or.inl ⟨if_pos w, w⟩
      · rcases a3 _ w1 w2 with y | ⟨y1, y2, y3⟩
        · exact absurd y w3
        · right
          have e : am_im (I 8) (I 6 (I 9 (p - 1))) = I 8 (I 6 (I 9 (p - 1))) := if_neg (by omega)
          rw [e]; exact ⟨w1, y1, y2, y3⟩
    obtain ⟨r, I2, J2, f1, f2, f3, f4, f5, f6, f7, f8, f9, f10, f11⟩ := am_foa2 d e N (I 4 (I 9 (p - 1))) (am_im (I 8) (I 5 (I 9 (p - 1)))) (am_im (I 8) (I 6 (I 9 (p - 1)))) I (am_sI (am_sI J 60 sk2) 59 cm2) L M hT3 hO g1 g2 (am_arg_ok g3 va) (am_arg_ok g4 vb)
    have et := t_put_1 d N tp z o p tn (I 9 (p - 1)) 0 0 0 r a6 a7 a8 I I2 L pp p80 ht T160 rfl A0 A1 (c_atr_n (d + 1) N (I 9 (p - 1)) I L A0 A1 (am_ax1 hl2 N80) (am_ax1 hr2 N80)) (am_ax2 hl2 N80) (am_ax2 hr2 N80) f1
    have hpn2a := hpn2
    obtain ⟨n1, -, -, -, -, n6, -⟩ := hpn2a
    obtain ⟨k1, -⟩ := n6 (p - 1) P1 P2
    have hcc : cm2 (I 9 (p - 1)) = -1 := by
      obtain ⟨-, d2⟩ := n1 (I 9 (p - 1)) b2 b3
      have := d2 b4
      omega
    have eu := u_put_1 e N tp z o p (I 9 (p - 1)) r c5' (am_sI (am_sI J 60 sk2) 59 cm2) J2 M pp P190 k1 b2 A1 hf hcc (by
      show J 56 (I 9 (p - 1)) = -1 ∨ (0 ≤ J 56 (I 9 (p - 1)) ∧ J 56 (I 9 (p - 1)) < 80 ∧ (J 56 (I 9 (p - 1)) ≤ 1 ∨ cm2 (J 56 (I 9 (p - 1))) ≠ -1))
      rw [h2]; exact am_ax3 hl2 N80 hcl2) (by
      show J 57 (I 9 (p - 1)) = -1 ∨ (0 ≤ J 57 (I 9 (p - 1)) ∧ J 57 (I 9 (p - 1)) < 80 ∧ (J 57 (I 9 (p - 1)) ≤ 1 ∨ cm2 (J 57 (I 9 (p - 1))) ≠ -1))
      rw [h3]; exact am_ax3 hr2 N80 hcr) (by
      show am_call (e + 1) 138 [.inr (.inr (some 53)), .inl (J 55 (I 9 (p - 1))), .inl (am_im cm2 (J 56 (I 9 (p - 1)))), .inl (am_im cm2 (J 57 (I 9 (p - 1))))] (am_GS N, am_GR, am_sI (am_sI J 60 sk2) 59 cm2, M) = _
      have ia : am_im cm2 (I 5 (I 9 (p - 1))) = am_im (I 8) (I 5 (I 9 (p - 1))) := ia
      have ib : am_im cm2 (I 6 (I 9 (p - 1))) = am_im (I 8) (I 6 (I 9 (p - 1))) := ib
      rw [h1, h2, h3, ia, ib]; exact f2)
    have eu := en.trans (en2.trans eu)
    clear hcl hcr hcl2 hla hra g3 g4 qa qb hl2 hr2 a8'
    rcases f11 with hr | ⟨r0, r1, r2⟩
    · rw [hr] at et eu
      rw [t_put_full] at et
      rw [u_put_full e N tp z o p (I 9 (p - 1)) J2 M A0 A1] at eu
      refine ⟨-3, I2, _, et, eu, f3, am_FrU_trans (am_FrU_2 J sk2 cm2) (am_FrU_trans f4 (am_FrU_59 _ _ _)), f5, f6, Or.inl rfl⟩
    · have r2 := r2 (am_arg_cl va) (am_arg_cl vb)
      clear va vb
      rw [t_put_made d N tp z o p tn (I 9 (p - 1)) r a8 I2 L (by omega) (by omega) (by omega) pp p80 ht (by omega)] at et
      rw [u_put_made e N tp z o p (I 9 (p - 1)) r J2 M (by omega) (by omega) (by omega) pp (by omega)] at eu
      have hp3 := am_pti_made hpn2 pp hn f3.2.2.1 (fun t ht => (f3.2.2.2 t ht).2.2.2) (by omega) r1 r2
      have su := am_sm_up (am_noi (I 8)) 0 (I 9 (p - 1)) 0 (by omega) n0.toNat (by omega)
      have sf : am_noi (I 8) (I 9 (p - 1)) = 1 := if_pos b6
      have f9 : J2 59 = cm2 := f9
      have f10 : J2 60 = sk2 := f10
      have fo := (f3.2.2.2 tp (by omega)).2.2.2
      obtain ⟨r', I1, J1, e1, e2, e3⟩ := ih (am_uI I2 8 (I 9 (p - 1)) r) (am_uI J2 59 (I 9 (p - 1)) r) (p + -1) (tn + 1) (some (.inl (I 9 (p - 1)))) (some (.inl (-1))) (some (.inl r)) (some (.inl (I 9 (p - 1)))) f5 f6 (by have := f3.2.2.1; show n0 ≤ I2 2 6; omega) (by
        simp only [am_ptI, am_uI_c, Nat.reduceEqDiff, ↓reduceIte]
        rw [f7, f8, f9, f10]; exact hp3) (by
        show I2 7 tp ≠ 0 ∨ tp < 2
        rw [fo]; exact ho) (by
        simp only [am_uI_c, ↓reduceIte]
        rw [f7, am_noi_up _ _ (by omega)]
        omega) (by omega) (by omega)
      exact ⟨r', I1, J1, et.trans e1, eu.trans e2, am_ptP_step (am_FrT_trans f3 (am_FrT_8 _ _ _)) (am_FrU_trans (am_FrU_2 J sk2 cm2) (am_FrU_trans f4 (am_FrU_59 _ _ _))) e3⟩
