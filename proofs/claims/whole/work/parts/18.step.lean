/-! Every instruction. -/
theorem am_inv_inl {kd o i nx : Nat} {ls : am_Ls} {st : List am_V} {h : am_H} {y : Nat × am_Ls × List am_V × am_H} (q : am_inv kd o i nx ls st h = some (.inl y)) : (kd = 2 ∧ ∃ j n as a r, am_lk am_mk (am_key o i) = some (4, j, n) ∧ am_split n [] st = some (as, .inr (.inr (some a)) :: r) ∧ am_words r ≤ 8 ∧ y = (nx, ls, r, h)) ∨ (kd = 1 ∧ ∃ j n a a2 r, am_lk am_mk (am_key o i) = some (5, j, n) ∧ am_split n [] st = some ([.inl a, .inl a2], r) ∧ am_words r ≤ 8 ∧ y = (nx, ls, .inl (if a < a2 then a2 else a) :: r, h)) := by
  unfold am_inv am_go at q
  split at q
  · next k j n hk =>
    split at q
    · split at q
      · split at q <;> cases q
      · cases q
    · split at q <;> cases q
    · next hs =>
      split at q
      · next g => cases q; exact Or.inr ⟨rfl, _, _, _, _, _, hk, hs, g, rfl⟩
      · cases q
    · split at q <;> cases q
    · split at q <;> cases q
    · next hs =>
      split at q
      · next g => cases q; exact Or.inl ⟨rfl, _, _, _, _, _, hk, hs, g, rfl⟩
      · cases q
    · cases q
  · cases q
theorem am_inv_call {kd o i nx : Nat} {ls : am_Ls} {st : List am_V} {h : am_H} {j pc2 : Nat} {as r : List am_V} {ls2 : am_Ls} {h2 : am_H} (q : am_inv kd o i nx ls st h = some (.inr (.inr (j, as, pc2, ls2, r, h2)))) : pc2 = nx ∧ ls2 = ls ∧ h2 = h ∧ am_words r ≤ 8 ∧ ∃ n, (kd = 0 ∧ am_lk am_mk (am_key o i) = some (0, j, n) ∧ ∃ m2 a as', am_ml[j]? = some m2 ∧ am_split n [] st = some (as', .inr (.inr (some a)) :: r) ∧ h.1[a]? = some (m2.2.2.2.2 + 3, 0) ∧ a ≠ 0 ∧ as = .inr (.inr (some a)) :: as') ∨ (kd = 1 ∧ am_lk am_mk (am_key o i) = some (1, j, n) ∧ am_split n [] st = some (as, r)) ∨ (kd = 2 ∧ am_lk am_mk (am_key o i) = some (2, j, n) ∧ ∃ a as', am_split n [] st = some (as', .inr (.inr (some a)) :: r) ∧ as = .inr (.inr (some a)) :: as') ∨ (kd = 2 ∧ am_lk am_mk (am_key o i) = some (3, j, n) ∧ ∃ a as', am_split n [] st = some (as', .inr (.inr (some a)) :: r) ∧ as = .inr (.inr (some a)) :: as') := by
  unfold am_inv am_go at q
  split at q
  · next k j n hk =>
    split at q
    · next hs =>
      split at q
      · next m2 hm2 =>
        split at q
        · next g => cases q; exact ⟨rfl, rfl, rfl, g.2.2, n, Or.inl ⟨rfl, hk, m2, _, _, hm2, hs, g.1, g.2.1, rfl⟩⟩
        · cases q
      · cases q
    · next hs =>
      split at q
      · next g => cases q; exact ⟨rfl, rfl, rfl, g, n, Or.inr (Or.inl ⟨rfl, hk, hs⟩)⟩
      · cases q
    · split at q <;> cases q
    · next hs =>
      split at q
      · next g => cases q; exact ⟨rfl, rfl, rfl, g, n, Or.inr (Or.inr (Or.inl ⟨rfl, hk, _, _, hs, rfl⟩))⟩
      · cases q
    · next hs =>
      split at q
      · next g => cases q; exact ⟨rfl, rfl, rfl, g, n, Or.inr (Or.inr (Or.inr ⟨rfl, hk, _, _, hs, rfl⟩))⟩
      · cases q
    · split at q <;> cases q
    · cases q
  · cases q
theorem am_inv_ret {kd o i nx : Nat} {ls : am_Ls} {st : List am_V} {h : am_H} {y : am_Re} (q : am_inv kd o i nx ls st h = some (.inr (.inl y))) : False := by
  unfold am_inv am_go at q
  split at q
  · split at q
    · split at q
      · split at q <;> cases q
      · cases q
    · split at q <;> cases q
    · split at q <;> cases q
    · split at q <;> cases q
    · split at q <;> cases q
    · split at q <;> cases q
    · cases q
  · cases q
section AMS
variable {p : Program} {l : Launch} {e : Env} {R : Room} {s : State} {m : MethodId} {args : Array Value} {below : List Frame} {meth : Method} {c : Code} {Q : State → Prop} {mt : am_M} {base b n0 z0 : Nat} {D : va_G} {dA : Nat → ClassId} {H : Heap} {locs : List Loc} {cells slots : Nat} {pc pc2 : Nat} {ls ls2 : am_Ls} {st st2 : List am_V} {h h2 : am_H} {sl : Array Slot}
theorem am_w_invokevirtual {i : Nat} (C : am_Cx p s m args meth c mt) (hd : decode mt.2.1 pc = .ok (.invokevirtual i, 3)) (hx : am_next mt (.invokevirtual i) 3 pc ls st h = some (.inl (pc2, ls2, st2, h2))) (hfit : h2.1.length ≤ n0 + R.cells ∧ am_sz h2.1 ≤ z0 + R.slots) (hR : 1 ≤ R.frames ∧ 22 ≤ R.locals) (hlo : am_Lo base b mt.2.2.1 ls sl) (hst : am_rgS st) (hr : am_Rp base b D dA s n0 z0 h H locs cells slots) (kk : am_KK p l e R s m args below meth c Q mt base b n0 z0 D dA pc2 ls2 st2 h2) : W p l e R s m args below meth c H locs cells slots Q (F0 m pc sl (st.map (am_re base b))) := by
  rcases am_inv_inl hx with ⟨w, -⟩ | ⟨w, -⟩ <;> cases w
theorem am_w_invokestatic {i : Nat} (C : am_Cx p s m args meth c mt) (hd : decode mt.2.1 pc = .ok (.invokestatic i, 3)) (hx : am_next mt (.invokestatic i) 3 pc ls st h = some (.inl (pc2, ls2, st2, h2))) (hfit : h2.1.length ≤ n0 + R.cells ∧ am_sz h2.1 ≤ z0 + R.slots) (hR : 1 ≤ R.frames ∧ 22 ≤ R.locals) (hlo : am_Lo base b mt.2.2.1 ls sl) (hst : am_rgS st) (hr : am_Rp base b D dA s n0 z0 h H locs cells slots) (kk : am_KK p l e R s m args below meth c Q mt base b n0 z0 D dA pc2 ls2 st2 h2) : W p l e R s m args below meth c H locs cells slots Q (F0 m pc sl (st.map (am_re base b))) := by
  rcases am_inv_inl hx with ⟨w, -⟩ | ⟨-, j, n, a, a2, r, hk, hs, hw, e9⟩
  · cases w
  cases e9
  obtain ⟨hl, hn⟩ := (am_lnk C.2.2.2.2.2.2.2 hk).2.1 rfl
  obtain ⟨y, e1, e2, e3⟩ := am_split_eq _ _ _ _ _ hs
  rw [List.append_nil] at e1
  subst e1
  have e2 : st = .inl a2 :: .inl a :: r := e2
  subst e2
  have r2 := am_rgS_h hst
  have r1 := am_rgS_h (am_rgS_t hst)
  have f5 := hr.2.2.1
  have f6 := hr.2.2.2.1
  have f7 := hfit.1
  have f8 := hfit.2
  refine va_mmax C.1 C.2.1 (by rw [C.2.2.1]; exact hlo.1.1.symm) C.2.2.2.1 (C.2.2.2.2.1 _ hl) (C.2.2.2.2.1 _ (am_in_tb (List.mem_of_getElem? am_all_x1) rfl)) (C.2.2.2.2.1 _ (am_in_tb am_all_t.2.2.2.2 rfl)) (C.2.2.2.2.1 _ (am_in_tb (List.mem_of_getElem? am_all_x2) rfl)) hR.1 (by have := am_words_eq base b r; have := hR.2; omega) (by omega) (by omega) hd ?_
  have w := kk sl H locs cells slots hlo (am_rgS_c (by split <;> assumption) (am_rgS_t (am_rgS_t hst))) hr
  rw [List.map_cons] at w
  by_cases g : a < a2
  · rw [if_pos g] at w
    rw [if_pos ((am_ltI r1 r2).mpr g)]
    exact w
  · rw [if_neg g] at w
    rw [if_neg (fun z => g ((am_ltI r1 r2).mp z))]
    exact w
theorem am_w_invokespecial {i : Nat} (C : am_Cx p s m args meth c mt) (hd : decode mt.2.1 pc = .ok (.invokespecial i, 3)) (hx : am_next mt (.invokespecial i) 3 pc ls st h = some (.inl (pc2, ls2, st2, h2))) (hfit : h2.1.length ≤ n0 + R.cells ∧ am_sz h2.1 ≤ z0 + R.slots) (hR : 1 ≤ R.frames ∧ 22 ≤ R.locals) (hlo : am_Lo base b mt.2.2.1 ls sl) (hst : am_rgS st) (hr : am_Rp base b D dA s n0 z0 h H locs cells slots) (kk : am_KK p l e R s m args below meth c Q mt base b n0 z0 D dA pc2 ls2 st2 h2) : W p l e R s m args below meth c H locs cells slots Q (F0 m pc sl (st.map (am_re base b))) := by
  rcases am_inv_inl hx with ⟨-, j, n, as, a, r, hk, hs, hw, e9⟩ | ⟨w, -⟩
  · cases e9
    obtain ⟨hl, hn⟩ := (am_lnk C.2.2.2.2.2.2.2 hk).1 rfl
    subst hn
    cases hs
    refine W.objInit C.1 C.2.1 C.2.2.2.1 (C.2.2.2.2.1 _ hl) (C.2.2.2.2.1 _ (am_in_tb am_all_t.2.2.2.1 rfl)) (C.2.2.2.2.1 _ (am_in_tb (List.mem_of_getElem? am_all_x3) rfl)) rfl (by rw [C.2.2.1]; exact hlo.1.1) rfl hd hR.1 ?_ ?_
    · have := lv_room (m := m) (pc := pc) (ls := sl) (rest := List.map (am_re base b) (.inr (.inr (some a)) :: st2)) (st := st2.map (am_re base b)) (by rw [am_words_eq]; exact hw)
      have := hR.2
      omega
    · exact kk sl H locs cells slots hlo (am_rgS_t hst) hr
  · cases w
theorem am_stepW {i : Instr} {n : Nat} (C : am_Cx p s m args meth c mt) (K : am_K D dA s) (X : am_Xs mt b base s h) (hlok : am_lok i n = true) (hd : decode mt.2.1 pc = .ok (i, n)) (hx : am_next mt i n pc ls st h = some (.inl (pc2, ls2, st2, h2))) (hfit : h2.1.length ≤ n0 + R.cells ∧ am_sz h2.1 ≤ z0 + R.slots) (hR : 1 ≤ R.frames ∧ 22 ≤ R.locals) (hlo : am_Lo base b mt.2.2.1 ls sl) (hst : am_rgS st) (hr : am_Rp base b D dA s n0 z0 h H locs cells slots) (kk : am_KK p l e R s m args below meth c Q mt base b n0 z0 D dA pc2 ls2 st2 h2) : W p l e R s m args below meth c H locs cells slots Q (F0 m pc sl (st.map (am_re base b))) := by
  cases i
  case iconst =>
    have hn : n = 1 := by simpa [am_lok] using hlok
    subst hn
    exact am_w_iconst C hd hx hlo hst hr kk
  case bipush =>
    have hn : n = 2 := by simpa [am_lok] using hlok
    subst hn
    exact am_w_bipush C hd hx hlo hst hr kk
  case sipush =>
    have hn : n = 3 := by simpa [am_lok] using hlok
    subst hn
    exact am_w_sipush C hd hx hlo hst hr kk
  case lconst =>
    have hn : n = 1 := by simpa [am_lok] using hlok
    subst hn
    exact am_w_lconst C hd hx hlo hst hr kk
  case ldc =>
    have hn : n = 2 := by simpa [am_lok] using hlok
    subst hn
    exact am_w_ldc C hd hx hlo hst hr kk
  case iload_n =>
    have hn : n = 1 := by simpa [am_lok] using hlok
    subst hn
    exact am_w_iload_n C hd hx hlo hst hr kk
  case iload =>
    have hn : n = 2 := by simpa [am_lok] using hlok
    subst hn
    exact am_w_iload C hd hx hlo hst hr kk
  case lload_n =>
    have hn : n = 1 := by simpa [am_lok] using hlok
    subst hn
    exact am_w_lload_n C hd hx hlo hst hr kk
  case lload =>
    have hn : n = 2 := by simpa [am_lok] using hlok
    subst hn
    exact am_w_lload C hd hx hlo hst hr kk
  case aload_n =>
    have hn : n = 1 := by simpa [am_lok] using hlok
    subst hn
    exact am_w_aload_n C hd hx hlo hst hr kk
  case aload =>
    have hn : n = 2 := by simpa [am_lok] using hlok
    subst hn
    exact am_w_aload C hd hx hlo hst hr kk
  case istore_n =>
    have hn : n = 1 := by simpa [am_lok] using hlok
    subst hn
    exact am_w_istore_n C hd hx hlo hst hr kk
  case istore =>
    have hn : n = 2 := by simpa [am_lok] using hlok
    subst hn
    exact am_w_istore C hd hx hlo hst hr kk
  case lstore_n =>
    have hn : n = 1 := by simpa [am_lok] using hlok
    subst hn
    exact am_w_lstore_n C hd hx hlo hst hr kk
  case lstore =>
    have hn : n = 2 := by simpa [am_lok] using hlok
    subst hn
    exact am_w_lstore C hd hx hlo hst hr kk
  case astore_n =>
    have hn : n = 1 := by simpa [am_lok] using hlok
    subst hn
    exact am_w_astore_n C hd hx hlo hst hr kk
  case astore =>
    have hn : n = 2 := by simpa [am_lok] using hlok
    subst hn
    exact am_w_astore C hd hx hlo hst hr kk
  case iinc =>
    have hn : n = 3 := by simpa [am_lok] using hlok
    subst hn
    exact am_w_iinc C hd hx hlo hst hr kk
  case iadd =>
    have hn : n = 1 := by simpa [am_lok] using hlok
    subst hn
    exact am_w_iadd C hd hx hlo hst hr kk
  case isub =>
    have hn : n = 1 := by simpa [am_lok] using hlok
    subst hn
    exact am_w_isub C hd hx hlo hst hr kk
  case imul =>
    have hn : n = 1 := by simpa [am_lok] using hlok
    subst hn
    exact am_w_imul C hd hx hlo hst hr kk
  case iand =>
    have hn : n = 1 := by simpa [am_lok] using hlok
    subst hn
    exact am_w_iand C hd hx hlo hst hr kk
  case ior =>
    have hn : n = 1 := by simpa [am_lok] using hlok
    subst hn
    exact am_w_ior C hd hx hlo hst hr kk
  case ishl =>
    have hn : n = 1 := by simpa [am_lok] using hlok
    subst hn
    exact am_w_ishl C hd hx hlo hst hr kk
  case ishr =>
    have hn : n = 1 := by simpa [am_lok] using hlok
    subst hn
    exact am_w_ishr C hd hx hlo hst hr kk
  case ladd =>
    have hn : n = 1 := by simpa [am_lok] using hlok
    subst hn
    exact am_w_ladd C hd hx hlo hst hr kk
  case lsub =>
    have hn : n = 1 := by simpa [am_lok] using hlok
    subst hn
    exact am_w_lsub C hd hx hlo hst hr kk
  case lmul =>
    have hn : n = 1 := by simpa [am_lok] using hlok
    subst hn
    exact am_w_lmul C hd hx hlo hst hr kk
  case ldiv =>
    have hn : n = 1 := by simpa [am_lok] using hlok
    subst hn
    exact am_w_ldiv C hd hx hlo hst hr kk
  case lcmp =>
    have hn : n = 1 := by simpa [am_lok] using hlok
    subst hn
    exact am_w_lcmp C hd hx hlo hst hr kk
  case i2l =>
    have hn : n = 1 := by simpa [am_lok] using hlok
    subst hn
    exact am_w_i2l C hd hx hlo hst hr kk
  case dup =>
    have hn : n = 1 := by simpa [am_lok] using hlok
    subst hn
    exact am_w_dup C hd hx hlo hst hr kk
  case pop =>
    have hn : n = 1 := by simpa [am_lok] using hlok
    subst hn
    exact am_w_pop C hd hx hlo hst hr kk
  case dup_x1 =>
    have hn : n = 1 := by simpa [am_lok] using hlok
    subst hn
    exact am_w_dup_x1 C hd hx hlo hst hr kk
  case dup2 =>
    have hn : n = 1 := by simpa [am_lok] using hlok
    subst hn
    exact am_w_dup2 C hd hx hlo hst hr kk
  case ifCond =>
    have hn : n = 3 := by simpa [am_lok] using hlok
    subst hn
    exact am_w_ifCond C hd hx hlo hst hr kk
  case if_icmp =>
    have hn : n = 3 := by simpa [am_lok] using hlok
    subst hn
    exact am_w_if_icmp C hd hx hlo hst hr kk
  case goto =>
    have hn : n = 3 := by simpa [am_lok] using hlok
    subst hn
    exact am_w_goto C hd hx hlo hst hr kk
  case tableswitch => exact am_w_tableswitch C hd hx hlo hst hr kk
  case lookupswitch => exact am_w_lookupswitch C hd hx hlo hst hr kk
  case baload =>
    have hn : n = 1 := by simpa [am_lok] using hlok
    subst hn
    exact am_w_baload C K hd hx hlo hst hr kk
  case laload =>
    have hn : n = 1 := by simpa [am_lok] using hlok
    subst hn
    exact am_w_laload C K hd hx hlo hst hr kk
  case iastore =>
    have hn : n = 1 := by simpa [am_lok] using hlok
    subst hn
    exact am_w_iastore C K hd hx hlo hst hr kk
  case bastore =>
    have hn : n = 1 := by simpa [am_lok] using hlok
    subst hn
    exact am_w_bastore C K hd hx hlo hst hr kk
  case lastore =>
    have hn : n = 1 := by simpa [am_lok] using hlok
    subst hn
    exact am_w_lastore C K hd hx hlo hst hr kk
  case getfield =>
    have hn : n = 3 := by simpa [am_lok] using hlok
    subst hn
    exact am_w_getfield C K hd hx hlo hst hr kk
  case putfield =>
    have hn : n = 3 := by simpa [am_lok] using hlok
    subst hn
    exact am_w_putfield C K hd hx hlo hst hr kk
  case iaload =>
    have hn : n = 1 := by simpa [am_lok] using hlok
    subst hn
    exact am_w_iaload C K X hd hx hlo hst hr kk
  case arraylength =>
    have hn : n = 1 := by simpa [am_lok] using hlok
    subst hn
    exact am_w_arraylength C K X hd hx hlo hst hr kk
  case new =>
    have hn : n = 3 := by simpa [am_lok] using hlok
    subst hn
    exact am_w_new C K hd hx hfit hlo hst hr kk
  case newarray =>
    have hn : n = 2 := by simpa [am_lok] using hlok
    subst hn
    exact am_w_newarray C K hd hx hfit hlo hst hr kk
  case invokestatic =>
    have hn : n = 3 := by simpa [am_lok] using hlok
    subst hn
    exact am_w_invokestatic C hd hx hfit hR hlo hst hr kk
  case invokespecial =>
    have hn : n = 3 := by simpa [am_lok] using hlok
    subst hn
    exact am_w_invokespecial C hd hx hfit hR hlo hst hr kk
  case invokevirtual =>
    have hn : n = 3 := by simpa [am_lok] using hlok
    subst hn
    exact am_w_invokevirtual C hd hx hfit hR hlo hst hr kk
  case ireturn =>
    simp only [am_next, am_ret] at hx
    split at hx
    · cases hx
    · split at hx <;> cases hx
    · cases hx
  case lreturn =>
    simp only [am_next] at hx
    split at hx <;> cases hx
  case return_ =>
    simp only [am_next] at hx
    split at hx <;> cases hx
  all_goals cases hx
end AMS
