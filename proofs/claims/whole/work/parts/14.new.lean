/-! New cells. -/
theorem am_fresh_same {h : am_H} {q : Nat × Nat} : ∀ k, k < h.1.length → am_same k h (h.1 ++ [q], am_zR h.2.1 h.1.length, am_zI h.2.2.1 h.1.length, am_zL h.2.2.2 h.1.length) := by
  intro k hk
  have hne : k ≠ h.1.length := by omega
  exact ⟨fun j => by simp [am_zR, hne], fun j => by simp [am_zI, hne], fun j => by simp [am_zL, hne]⟩
theorem am_fresh_rg {h : am_H} (hr : am_rgH h) (k : Nat) : ∀ (k2 : Nat) (j : Int), am_rg (am_zI h.2.2.1 k k2 j) := by
  intro k2 j
  unfold am_zI
  split
  · exact am_rg0
  · exact hr k2 j
section AMW
variable {p : Program} {l : Launch} {e : Env} {R : Room} {s : State} {m : MethodId} {args : Array Value} {below : List Frame} {meth : Method} {c : Code} {Q : State → Prop} {mt : am_M} {base b n0 z0 : Nat} {D : va_G} {dA : Nat → ClassId} {H : Heap} {locs : List Loc} {cells slots : Nat} {pc pc2 : Nat} {ls ls2 : am_Ls} {st st2 : List am_V} {h h2 : am_H} {sl : Array Slot}
theorem am_fresh_Rp {q : Nat × Nat} {H1 : Heap} (hr : am_Rp base b D dA s n0 z0 h H locs cells slots) (z1 : H1.size = H.size + 1) (o1 : ∀ q, q < H.size → H1[q]? = H[q]?) (hk : va_at D am_cl (H.size, am_E dA base b h.1.length (h.1 ++ [q], am_zR h.2.1 h.1.length, am_zI h.2.2.1 h.1.length, am_zL h.2.2.2 h.1.length) q) H1) : am_Rp base b D dA s n0 z0 (h.1 ++ [q], am_zR h.2.1 h.1.length, am_zI h.2.2.1 h.1.length, am_zL h.2.2.2 h.1.length) H1 locs (cells + 1) (slots + am_size q) := by
  obtain ⟨a1, a2, a3, a4, a5, ⟨n, a6⟩, a7⟩ := hr
  refine ⟨a1.push rfl z1 o1 am_fresh_same hk, ⟨Nat.le_trans a2.1 (by omega), fun x h1 h2 => (o1 x (Nat.lt_of_lt_of_le h1 a2.1)).trans (a2.2.1 x h1 h2), a2.2.2⟩, ?_, ?_, am_fresh_rg a5 _, ⟨n, ?_⟩, a7⟩
  · show cells + 1 + n0 = (h.1 ++ [q]).length
    simp; omega
  · show slots + am_size q + z0 = am_sz (h.1 ++ [q])
    rw [am_sz_app]; omega
  · show (h.1 ++ [q])[0]? = some (9, n)
    rw [List.getElem?_append_left (List.getElem?_eq_some_iff.mp a6).1]
    exact a6
theorem am_w_new {i : Nat} (C : am_Cx p s m args meth c mt) (K : am_K D dA s) (hd : decode mt.2.1 pc = .ok (.new i, 3)) (hx : am_next mt (.new i) 3 pc ls st h = some (.inl (pc2, ls2, st2, h2))) (hfit : h2.1.length ≤ n0 + R.cells ∧ am_sz h2.1 ≤ z0 + R.slots) (hlo : am_Lo base b mt.2.2.1 ls sl) (hst : am_rgS st) (hr : am_Rp base b D dA s n0 z0 h H locs cells slots) (kk : am_KK p l e R s m args below meth c Q mt base b n0 z0 D dA pc2 ls2 st2 h2) : W p l e R s m args below meth c H locs cells slots Q (F0 m pc sl (st.map (am_re base b))) := by
  simp only [am_next, am_new, am_go] at hx
  split at hx
  · next cc hl =>
    cases hx
    have hmem := am_lk_mem _ _ _ hl
    have hlt := List.all_eq_true.mp am_fl_lt.2.2.1 _ hmem
    simp only [Bool.and_eq_true, decide_eq_true_eq] at hlt
    obtain ⟨e1, e2, e3⟩ := am_key_of rfl hlt.1
    have h1 := List.all_eq_true.mp am_all_n _ hmem
    unfold am_okn at h1
    simp only [e2, e3] at h1
    rw [(am_meth C.2.2.2.2.2.2.2).2.2.2.1] at h1
    obtain ⟨C1, T1, N1, ty, ec, en, hu, hins, hini, hft, -⟩ := am_cls hlt.2
    rw [ec] at h1
    have hcl := of_decide_eq_true h1
    have hKn := K.1 cc _ ec
    obtain ⟨n9, h9⟩ := hr.2.2.2.2.2.1
    have hl0 : h.1.length ≠ 0 := by have := (List.getElem?_eq_some_iff.mp h9).1; omega
    have f1 : (h.1 ++ [(cc + 3, 0)]).length ≤ n0 + R.cells := hfit.1
    have f2 : am_sz (h.1 ++ [(cc + 3, 0)]) ≤ z0 + R.slots := hfit.2
    rw [am_sz_app] at f2
    rw [List.length_append] at f1
    have f3 : am_size (cc + 3, 0) = N1 := en
    have f4 : ([(cc + 3, 0)] : List (Nat × Nat)).length = 1 := rfl
    have f5 := hr.2.2.1
    have f6 := hr.2.2.2.1
    refine W.newcK C.1 C.2.1 C.2.2.2.1 (C.2.2.2.2.1 _ (am_in_tb hcl rfl)) (C.2.2.2.2.1 _ hins) (C.2.2.2.2.1 _ hini) rfl hd (by omega) (by omega) hKn.2.1 rfl (fun H1 kC hkC g1 z1 o1 => ?_)
    have hb := u_born ty C.2.2.2.2.1 hu hKn hkC g1 (fun k hk => (hft k hk).1)
    have hat : va_at D am_cl (H.size, am_E dA base b h.1.length (h.1 ++ [(cc + 3, 0)], am_zR h.2.1 h.1.length, am_zI h.2.2.1 h.1.length, am_zL h.2.2.2 h.1.length) (cc + 3, 0)) H1 := by
      refine ⟨_, ec, hb.to (fun j hj => ?_)⟩
      have hj : j < N1 := hj
      rw [am_vpV (by rw [en]; exact hj)]
      obtain ⟨-, -, q⟩ := hft j hj
      rcases q with ⟨q, qt, -⟩ | ⟨q, qt, -⟩ | ⟨q, ⟨n, qt⟩ | ⟨t, qt⟩, -⟩ <;> (unfold am_fv; rw [q, qt]; simp [am_zI, am_zL, am_zR]; rfl)
    have w := kk sl H1 locs (cells + 1) (slots + am_size (cc + 3, 0)) hlo (am_rgS_r hst) (am_fresh_Rp hr z1 o1 hat)
    rw [List.map_cons, am_re_k hl0, ← hr.1.1, f3] at w
    exact w
  · cases hx
theorem am_w_new_int (C : am_Cx p s m args meth c mt) (K : am_K D dA s) (hd : decode mt.2.1 pc = .ok (.newarray .int, 2)) (hx : am_next mt (.newarray .int) 2 pc ls st h = some (.inl (pc2, ls2, st2, h2))) (hfit : h2.1.length ≤ n0 + R.cells ∧ am_sz h2.1 ≤ z0 + R.slots) (hlo : am_Lo base b mt.2.2.1 ls sl) (hst : am_rgS st) (hr : am_Rp base b D dA s n0 z0 h H locs cells slots) (kk : am_KK p l e R s m args below meth c Q mt base b n0 z0 D dA pc2 ls2 st2 h2) : W p l e R s m args below meth c H locs cells slots Q (F0 m pc sl (st.map (am_re base b))) := by
  rcases st with _ | ⟨v, r⟩
  · cases hx
  rcases v with n | n | n
  · have hx : (if 0 ≤ n ∧ n ≤ 10000 then some (Sum.inl (pc + 2, ls, .inr (.inr (some h.1.length)) :: r, (h.1 ++ [(0, n.toNat)], am_zR h.2.1 h.1.length, am_zI h.2.2.1 h.1.length, am_zL h.2.2.2 h.1.length))) else none) = some (.inl (pc2, ls2, st2, h2)) := hx
    split at hx
    · next g =>
      cases hx
      obtain ⟨n9, h9⟩ := hr.2.2.2.2.2.1
      have hl0 : h.1.length ≠ 0 := by have := (List.getElem?_eq_some_iff.mp h9).1; omega
      have f1 : (h.1 ++ [(0, n.toNat)]).length ≤ n0 + R.cells := hfit.1
      have f2 : am_sz (h.1 ++ [(0, n.toNat)]) ≤ z0 + R.slots := hfit.2
      rw [am_sz_app] at f2
      rw [List.length_append] at f1
      have f3 : am_size (0, n.toNat) = n.toNat := rfl
      have f4 : ([(0, n.toNat)] : List (Nat × Nat)).length = 1 := rfl
      have f5 := hr.2.2.1
      have f6 := hr.2.2.2.1
      have rn := am_rgS_h hst
      have z : (0 : Int32) = Int32.ofInt 0 := rfl
      have fb : n.toNat * componentBytes (newarray.typeOf .int) ≤ 536870912 := Nat.le_trans (Nat.mul_le_mul (show n.toNat ≤ 10000 by omega) (show componentBytes (newarray.typeOf .int) ≤ 8 by decide)) (by decide)
      refine va_newaK (atype := .int) (N := n.toNat) C.1 C.2.1 (C.2.2.2.2.1 _ (am_in_tb am_all_t.1 rfl)) rfl hd rfl (by rw [z, am_ltI rn am_rg0]; omega) (am_clamp rn) fb (by omega) (by omega) rfl (fun H1 cA g1 z1 o1 hAr hNm => ?_)
      have hcA : cA = dA 0 := by
        have q := (K.2 0 _ rfl).2
        exact Option.some.inj (hNm.symm.trans q)
      subst hcA
      have hat : va_at D am_cl (H.size, am_E dA base b h.1.length (h.1 ++ [(0, n.toNat)], am_zR h.2.1 h.1.length, am_zI h.2.2.1 h.1.length, am_zL h.2.2.2 h.1.length) (0, n.toNat)) H1 := by
        show H1[H.size]? = some (vp_cell (dA 0) (n.toNat, .inl (fun i : Nat => Int32.ofInt (am_zI h.2.2.1 h.1.length h.1.length i))))
        rw [g1]
        congr 1
        simp [am_zI, am_zL]
        rfl
      have w := kk sl H1 locs (cells + 1) (slots + am_size (0, n.toNat)) hlo (am_rgS_r (am_rgS_t hst)) (am_fresh_Rp hr z1 o1 hat)
      rw [List.map_cons, am_re_k hl0, ← hr.1.1, f3] at w
      exact w
    · cases hx
  · cases hx
  · cases hx
theorem am_w_new_long (C : am_Cx p s m args meth c mt) (K : am_K D dA s) (hd : decode mt.2.1 pc = .ok (.newarray .long, 2)) (hx : am_next mt (.newarray .long) 2 pc ls st h = some (.inl (pc2, ls2, st2, h2))) (hfit : h2.1.length ≤ n0 + R.cells ∧ am_sz h2.1 ≤ z0 + R.slots) (hlo : am_Lo base b mt.2.2.1 ls sl) (hst : am_rgS st) (hr : am_Rp base b D dA s n0 z0 h H locs cells slots) (kk : am_KK p l e R s m args below meth c Q mt base b n0 z0 D dA pc2 ls2 st2 h2) : W p l e R s m args below meth c H locs cells slots Q (F0 m pc sl (st.map (am_re base b))) := by
  rcases st with _ | ⟨v, r⟩
  · cases hx
  rcases v with n | n | n
  · have hx : (if 0 ≤ n ∧ n ≤ 10000 then some (Sum.inl (pc + 2, ls, .inr (.inr (some h.1.length)) :: r, (h.1 ++ [(1, n.toNat)], am_zR h.2.1 h.1.length, am_zI h.2.2.1 h.1.length, am_zL h.2.2.2 h.1.length))) else none) = some (.inl (pc2, ls2, st2, h2)) := hx
    split at hx
    · next g =>
      cases hx
      obtain ⟨n9, h9⟩ := hr.2.2.2.2.2.1
      have hl0 : h.1.length ≠ 0 := by have := (List.getElem?_eq_some_iff.mp h9).1; omega
      have f1 : (h.1 ++ [(1, n.toNat)]).length ≤ n0 + R.cells := hfit.1
      have f2 : am_sz (h.1 ++ [(1, n.toNat)]) ≤ z0 + R.slots := hfit.2
      rw [am_sz_app] at f2
      rw [List.length_append] at f1
      have f3 : am_size (1, n.toNat) = n.toNat := rfl
      have f4 : ([(1, n.toNat)] : List (Nat × Nat)).length = 1 := rfl
      have f5 := hr.2.2.1
      have f6 := hr.2.2.2.1
      have rn := am_rgS_h hst
      have z : (0 : Int32) = Int32.ofInt 0 := rfl
      have fb : n.toNat * componentBytes (newarray.typeOf .long) ≤ 536870912 := Nat.le_trans (Nat.mul_le_mul (show n.toNat ≤ 10000 by omega) (show componentBytes (newarray.typeOf .long) ≤ 8 by decide)) (by decide)
      refine va_newaK (atype := .long) (N := n.toNat) C.1 C.2.1 (C.2.2.2.2.1 _ (am_in_tb am_all_t.2.1 rfl)) rfl hd rfl (by rw [z, am_ltI rn am_rg0]; omega) (am_clamp rn) fb (by omega) (by omega) rfl (fun H1 cA g1 z1 o1 hAr hNm => ?_)
      have hcA : cA = dA 1 := by
        have q := (K.2 1 _ rfl).2
        exact Option.some.inj (hNm.symm.trans q)
      subst hcA
      have hat : va_at D am_cl (H.size, am_E dA base b h.1.length (h.1 ++ [(1, n.toNat)], am_zR h.2.1 h.1.length, am_zI h.2.2.1 h.1.length, am_zL h.2.2.2 h.1.length) (1, n.toNat)) H1 := by
        show H1[H.size]? = some (vp_cell (dA 1) (n.toNat, .inr (.inl (fun i : Nat => am_zL h.2.2.2 h.1.length h.1.length i))))
        rw [g1]
        congr 1
        simp [am_zI, am_zL]
        rfl
      have w := kk sl H1 locs (cells + 1) (slots + am_size (1, n.toNat)) hlo (am_rgS_r (am_rgS_t hst)) (am_fresh_Rp hr z1 o1 hat)
      rw [List.map_cons, am_re_k hl0, ← hr.1.1, f3] at w
      exact w
    · cases hx
  · cases hx
  · cases hx
theorem am_w_new_boolean (C : am_Cx p s m args meth c mt) (K : am_K D dA s) (hd : decode mt.2.1 pc = .ok (.newarray .boolean, 2)) (hx : am_next mt (.newarray .boolean) 2 pc ls st h = some (.inl (pc2, ls2, st2, h2))) (hfit : h2.1.length ≤ n0 + R.cells ∧ am_sz h2.1 ≤ z0 + R.slots) (hlo : am_Lo base b mt.2.2.1 ls sl) (hst : am_rgS st) (hr : am_Rp base b D dA s n0 z0 h H locs cells slots) (kk : am_KK p l e R s m args below meth c Q mt base b n0 z0 D dA pc2 ls2 st2 h2) : W p l e R s m args below meth c H locs cells slots Q (F0 m pc sl (st.map (am_re base b))) := by
  rcases st with _ | ⟨v, r⟩
  · cases hx
  rcases v with n | n | n
  · have hx : (if 0 ≤ n ∧ n ≤ 10000 then some (Sum.inl (pc + 2, ls, .inr (.inr (some h.1.length)) :: r, (h.1 ++ [(2, n.toNat)], am_zR h.2.1 h.1.length, am_zI h.2.2.1 h.1.length, am_zL h.2.2.2 h.1.length))) else none) = some (.inl (pc2, ls2, st2, h2)) := hx
    split at hx
    · next g =>
      cases hx
      obtain ⟨n9, h9⟩ := hr.2.2.2.2.2.1
      have hl0 : h.1.length ≠ 0 := by have := (List.getElem?_eq_some_iff.mp h9).1; omega
      have f1 : (h.1 ++ [(2, n.toNat)]).length ≤ n0 + R.cells := hfit.1
      have f2 : am_sz (h.1 ++ [(2, n.toNat)]) ≤ z0 + R.slots := hfit.2
      rw [am_sz_app] at f2
      rw [List.length_append] at f1
      have f3 : am_size (2, n.toNat) = n.toNat := rfl
      have f4 : ([(2, n.toNat)] : List (Nat × Nat)).length = 1 := rfl
      have f5 := hr.2.2.1
      have f6 := hr.2.2.2.1
      have rn := am_rgS_h hst
      have z : (0 : Int32) = Int32.ofInt 0 := rfl
      have fb : n.toNat * componentBytes (newarray.typeOf .boolean) ≤ 536870912 := Nat.le_trans (Nat.mul_le_mul (show n.toNat ≤ 10000 by omega) (show componentBytes (newarray.typeOf .boolean) ≤ 8 by decide)) (by decide)
      refine va_newaK (atype := .boolean) (N := n.toNat) C.1 C.2.1 (C.2.2.2.2.1 _ (am_in_tb am_all_t.2.2.1 rfl)) rfl hd rfl (by rw [z, am_ltI rn am_rg0]; omega) (am_clamp rn) fb (by omega) (by omega) rfl (fun H1 cA g1 z1 o1 hAr hNm => ?_)
      have hcA : cA = dA 2 := by
        have q := (K.2 2 _ rfl).2
        exact Option.some.inj (hNm.symm.trans q)
      subst hcA
      have hat : va_at D am_cl (H.size, am_E dA base b h.1.length (h.1 ++ [(2, n.toNat)], am_zR h.2.1 h.1.length, am_zI h.2.2.1 h.1.length, am_zL h.2.2.2 h.1.length) (2, n.toNat)) H1 := by
        show H1[H.size]? = some (vp_cell (dA 2) (n.toNat, .inl (fun i : Nat => Int32.ofInt (am_zI h.2.2.1 h.1.length h.1.length i))))
        rw [g1]
        congr 1
        simp [am_zI, am_zL]
        rfl
      have w := kk sl H1 locs (cells + 1) (slots + am_size (2, n.toNat)) hlo (am_rgS_r (am_rgS_t hst)) (am_fresh_Rp hr z1 o1 hat)
      rw [List.map_cons, am_re_k hl0, ← hr.1.1, f3] at w
      exact w
    · cases hx
  · cases hx
  · cases hx
theorem am_w_newarray {a : ArrayType} (C : am_Cx p s m args meth c mt) (K : am_K D dA s) (hd : decode mt.2.1 pc = .ok (.newarray a, 2)) (hx : am_next mt (.newarray a) 2 pc ls st h = some (.inl (pc2, ls2, st2, h2))) (hfit : h2.1.length ≤ n0 + R.cells ∧ am_sz h2.1 ≤ z0 + R.slots) (hlo : am_Lo base b mt.2.2.1 ls sl) (hst : am_rgS st) (hr : am_Rp base b D dA s n0 z0 h H locs cells slots) (kk : am_KK p l e R s m args below meth c Q mt base b n0 z0 D dA pc2 ls2 st2 h2) : W p l e R s m args below meth c H locs cells slots Q (F0 m pc sl (st.map (am_re base b))) := by
  cases a
  case int => exact am_w_new_int C K hd hx hfit hlo hst hr kk
  case long => exact am_w_new_long C K hd hx hfit hlo hst hr kk
  case boolean => exact am_w_new_boolean C K hd hx hfit hlo hst hr kk
  all_goals (rcases st with _ | ⟨v, r⟩ <;> cases hx)
end AMW
