/-! Arrays. -/
def am_Xs (mt : am_M) (b base : Nat) (s : State) (h : am_H) : Prop := mt.2.2.2.2 = 10 → ∀ n, h.1[0]? = some (9, n) → va_X b n (fun j => Int32.ofInt (h.2.2.1 0 j)) s s.heap ∧ b < s.heap.size ∧ b ≤ base
theorem am_inb_ex {S : List (Nat × Nat)} {k tag : Nat} {j : Int} (h : am_inb S k tag j = true) : ∃ n : Nat, S[k]? = some (tag, n) ∧ 0 ≤ j ∧ j < n := by
  unfold am_inb at h
  split at h
  · next t n e =>
    simp only [Bool.and_eq_true, beq_iff_eq, decide_eq_true_eq] at h
    obtain ⟨⟨h1, h2⟩, h3⟩ := h
    subst h1
    exact ⟨n, e, h2, h3⟩
  · cases h
theorem am_k0 {base b : Nat} {D : va_G} {dA : Nat → ClassId} {s : State} {n0 z0 : Nat} {h : am_H} {H : Heap} {locs : List Loc} {cells slots k tag n : Nat} (hr : am_Rp base b D dA s n0 z0 h H locs cells slots) (hk : h.1[k]? = some (tag, n)) (ht : tag < 9) : k ≠ 0 := by
  intro e
  subst e
  obtain ⟨n', h1⟩ := hr.2.2.2.2.2.1
  rw [h1] at hk
  cases hk
  omega
theorem am_ad_k {base b k : Nat} (h : k ≠ 0) : am_ad base b k = base + k := by simp [am_ad, h]
theorem am_re_k {base b k : Nat} (h : k ≠ 0) : am_re base b (.inr (.inr (some k))) = .ref (base + k) := by simp [am_re, am_ad, h]
theorem am_Pi {base b k n : Nat} {D : va_G} {dA : Nat → ClassId} {h : am_H} {H : Heap} (hP : am_P base b D dA h H) (h0 : k ≠ 0) (hk : h.1[k]? = some (0, n)) : H[base + k]? = some (vp_cell (dA 0) (n, .inl (fun i : Nat => Int32.ofInt (h.2.2.1 k i)))) := hP.2 k _ h0 hk
theorem am_Pl {base b k n : Nat} {D : va_G} {dA : Nat → ClassId} {h : am_H} {H : Heap} (hP : am_P base b D dA h H) (h0 : k ≠ 0) (hk : h.1[k]? = some (1, n)) : H[base + k]? = some (vp_cell (dA 1) (n, .inr (.inl (fun i : Nat => h.2.2.2 k i)))) := hP.2 k _ h0 hk
theorem am_Pz {base b k n : Nat} {D : va_G} {dA : Nat → ClassId} {h : am_H} {H : Heap} (hP : am_P base b D dA h H) (h0 : k ≠ 0) (hk : h.1[k]? = some (2, n)) : H[base + k]? = some (vp_cell (dA 2) (n, .inl (fun i : Nat => Int32.ofInt (h.2.2.1 k i)))) := hP.2 k _ h0 hk
theorem am_one_w {D : va_G} {a : Nat} {x : va_E} {H : Heap} (h : va_at D am_cl (a, x) H) : va_P D am_cl [(a, x)] H := by
  intro k q hq
  have hz : k < 1 := (List.getElem?_eq_some_iff.mp hq).1
  rw [show k = 0 by omega] at hq
  cases hq
  exact h
theorem am_idx {j : Int} (hj : am_rg j) (h0 : 0 ≤ j) : (((Int32.ofInt j).toNatClampNeg : Nat) : Int) = j := by
  rw [am_clamp hj]; omega
section AMW
variable {p : Program} {l : Launch} {e : Env} {R : Room} {s : State} {m : MethodId} {args : Array Value} {below : List Frame} {meth : Method} {c : Code} {Q : State → Prop} {mt : am_M} {base b n0 z0 : Nat} {D : va_G} {dA : Nat → ClassId} {H : Heap} {locs : List Loc} {cells slots : Nat} {pc pc2 : Nat} {ls ls2 : am_Ls} {st st2 : List am_V} {h h2 : am_H} {sl : Array Slot}
theorem am_w_iaload  (C : am_Cx p s m args meth c mt) (K : am_K D dA s) (X : am_Xs mt b base s h) (hd : decode mt.2.1 pc = .ok (.iaload, 1)) (hx : am_next mt (.iaload) 1 pc ls st h = some (.inl (pc2, ls2, st2, h2))) (hlo : am_Lo base b mt.2.2.1 ls sl) (hst : am_rgS st) (hr : am_Rp base b D dA s n0 z0 h H locs cells slots) (kk : am_KK p l e R s m args below meth c Q mt base b n0 z0 D dA pc2 ls2 st2 h2) : W p l e R s m args below meth c H locs cells slots Q (F0 m pc sl (st.map (am_re base b))) := by
  simp only [am_next, am_ial, am_go] at hx
  split at hx
  · next j k r =>
    split at hx
    · next g =>
      cases hx
      have rj := am_rgS_h hst
      rcases g with g | ⟨rfl, go, g⟩
      · obtain ⟨n, hk, j0, j1⟩ := am_inb_ex g
        have k0 := am_k0 hr hk (by omega)
        have hP := am_one_w (show va_at D am_cl (base + k, .inl (dA 0, n, .inl (fun i : Nat => Int32.ofInt (h.2.2.1 k i)))) H from hr.1.2 k _ k0 hk)
        have w := kk sl H locs cells slots hlo (am_rgS_c (hr.2.2.2.2.1 k j) (am_rgS_t (am_rgS_t hst))) hr
        rw [List.map_cons, List.map_cons, am_re_k k0]
        refine va_iald C.1 C.2.1 K hP 0 0 rfl rfl (am_vin rj j0 j1) hd ?_
        simp only [am_idx rj j0]
        exact w
      · obtain ⟨n, hk, j0, j1⟩ := am_inb_ex g
        obtain ⟨x1, x2, x3⟩ := X go n hk
        have w := kk sl H locs cells slots hlo (am_rgS_c (hr.2.2.2.2.1 0 j) (am_rgS_t (am_rgS_t hst))) hr
        refine va_sld (b := b) (A := fun q => base < q) C.1 C.2.1 x1 x2 (by omega) hr.2.1 (am_vin rj j0 j1) hd ?_
        simp only [am_idx rj j0]
        exact w
    · cases hx
  · cases hx
theorem am_w_baload  (C : am_Cx p s m args meth c mt) (K : am_K D dA s) (hd : decode mt.2.1 pc = .ok (.baload, 1)) (hx : am_next mt (.baload) 1 pc ls st h = some (.inl (pc2, ls2, st2, h2))) (hlo : am_Lo base b mt.2.2.1 ls sl) (hst : am_rgS st) (hr : am_Rp base b D dA s n0 z0 h H locs cells slots) (kk : am_KK p l e R s m args below meth c Q mt base b n0 z0 D dA pc2 ls2 st2 h2) : W p l e R s m args below meth c H locs cells slots Q (F0 m pc sl (st.map (am_re base b))) := by
  simp only [am_next, am_bal, am_go] at hx
  split at hx
  · next j k r =>
    split at hx
    · next g =>
      cases hx
      have rj := am_rgS_h hst
      obtain ⟨n, hk, j0, j1⟩ := am_inb_ex g
      have k0 := am_k0 hr hk (by omega)
      have hP := am_one_w (show va_at D am_cl (base + k, .inl (dA 2, n, .inl (fun i : Nat => Int32.ofInt (h.2.2.1 k i)))) H from hr.1.2 k _ k0 hk)
      have w := kk sl H locs cells slots hlo (am_rgS_c (hr.2.2.2.2.1 k j) (am_rgS_t (am_rgS_t hst))) hr
      rw [List.map_cons, List.map_cons, am_re_k k0]
      refine va_zald C.1 C.2.1 K hP 0 2 rfl rfl (am_vin rj j0 j1) hd ?_
      simp only [am_idx rj j0]
      exact w
    · cases hx
  · cases hx
theorem am_w_laload  (C : am_Cx p s m args meth c mt) (K : am_K D dA s) (hd : decode mt.2.1 pc = .ok (.laload, 1)) (hx : am_next mt (.laload) 1 pc ls st h = some (.inl (pc2, ls2, st2, h2))) (hlo : am_Lo base b mt.2.2.1 ls sl) (hst : am_rgS st) (hr : am_Rp base b D dA s n0 z0 h H locs cells slots) (kk : am_KK p l e R s m args below meth c Q mt base b n0 z0 D dA pc2 ls2 st2 h2) : W p l e R s m args below meth c H locs cells slots Q (F0 m pc sl (st.map (am_re base b))) := by
  simp only [am_next, am_lal, am_go] at hx
  split at hx
  · next j k r =>
    split at hx
    · next g =>
      cases hx
      have rj := am_rgS_h hst
      obtain ⟨n, hk, j0, j1⟩ := am_inb_ex g
      have k0 := am_k0 hr hk (by omega)
      have hP := am_one_w (show va_at D am_cl (base + k, .inl (dA 1, n, .inr (.inl (fun i : Nat => h.2.2.2 k i)))) H from hr.1.2 k _ k0 hk)
      have w := kk sl H locs cells slots hlo (am_rgS_l (am_rgS_t (am_rgS_t hst))) hr
      rw [List.map_cons, List.map_cons, am_re_k k0]
      refine va_lald C.1 C.2.1 K hP 0 1 rfl rfl (am_vin rj j0 j1) hd ?_
      simp only [am_idx rj j0]
      exact w
    · cases hx
  · cases hx
theorem am_w_arraylength  (C : am_Cx p s m args meth c mt) (K : am_K D dA s) (X : am_Xs mt b base s h) (hd : decode mt.2.1 pc = .ok (.arraylength, 1)) (hx : am_next mt (.arraylength) 1 pc ls st h = some (.inl (pc2, ls2, st2, h2))) (hlo : am_Lo base b mt.2.2.1 ls sl) (hst : am_rgS st) (hr : am_Rp base b D dA s n0 z0 h H locs cells slots) (kk : am_KK p l e R s m args below meth c Q mt base b n0 z0 D dA pc2 ls2 st2 h2) : W p l e R s m args below meth c H locs cells slots Q (F0 m pc sl (st.map (am_re base b))) := by
  simp only [am_next, am_len, am_go] at hx
  split at hx
  · next k r =>
    split at hx
    · next t n hk =>
      split at hx
      · next g =>
        cases hx
        obtain ⟨g1, g2⟩ := g
        have w := kk sl H locs cells slots hlo (am_rgS_c (by unfold am_rg; omega) (am_rgS_t hst)) hr
        have w2 : W p l e R s m args below meth c H locs cells slots Q (F0 m (pc + 1) sl (.int (Int32.ofNat n) :: r.map (am_re base b))) := by
          rw [← Int32.ofInt_eq_ofNat]; exact w
        rcases g1 with ⟨g3, g4⟩ | ⟨rfl, rfl, go⟩
        · rw [List.map_cons, am_re_k g4]
          have hv := hr.1.2 k _ g4 hk
          match t, g3, hv with
          | 0, _, hv => exact va_alen (x := (n, .inl (fun i : Nat => Int32.ofInt (h.2.2.1 k i)))) C.1 C.2.1 K (am_one_w hv) 0 0 rfl rfl rfl hd w2
          | 1, _, hv => exact va_alen (x := (n, .inr (.inl (fun i : Nat => h.2.2.2 k i)))) C.1 C.2.1 K (am_one_w hv) 0 1 rfl rfl rfl hd w2
          | 2, _, hv => exact va_alen (x := (n, .inl (fun i : Nat => Int32.ofInt (h.2.2.1 k i)))) C.1 C.2.1 K (am_one_w hv) 0 2 rfl rfl rfl hd w2
        · obtain ⟨x1, x2, x3⟩ := X go n hk
          exact va_slen (b := b) (A := fun q => base < q) C.1 C.2.1 x1 x2 (by omega) hr.2.1 hd w2
      · cases hx
    · cases hx
  · cases hx
theorem am_w_iastore  (C : am_Cx p s m args meth c mt) (K : am_K D dA s) (hd : decode mt.2.1 pc = .ok (.iastore, 1)) (hx : am_next mt (.iastore) 1 pc ls st h = some (.inl (pc2, ls2, st2, h2))) (hlo : am_Lo base b mt.2.2.1 ls sl) (hst : am_rgS st) (hr : am_Rp base b D dA s n0 z0 h H locs cells slots) (kk : am_KK p l e R s m args below meth c Q mt base b n0 z0 D dA pc2 ls2 st2 h2) : W p l e R s m args below meth c H locs cells slots Q (F0 m pc sl (st.map (am_re base b))) := by
  simp only [am_next, am_ias, am_go] at hx
  split at hx
  · next v j k r =>
    split at hx
    · next g =>
      cases hx
      have rj := am_rgS_h (am_rgS_t hst)
      have rv := am_rgS_h hst
      obtain ⟨n, hk, j0, j1⟩ := am_inb_ex g
      have k0 := am_k0 hr hk (by omega)
      have hcell := am_Pi hr.1 k0 hk
      rw [List.map_cons, List.map_cons, List.map_cons, am_re_k k0]
      refine W.iast C.1 C.2.1 hcell ((K.2 0 _ rfl).1 n (fun i => .int (Int32.ofInt (h.2.2.1 k i)))) (fun q => by cases q) (by show ¬ (Int32.ofInt j < 0 ∨ (arrV _ _ _).slots.size ≤ _); rw [arrV_size]; exact am_vin rj j0 j1) rfl rfl hd (fun H1 e1 z1 o1 => ?_)
      have hP2 : am_P base b D dA (h.1, h.2.1, am_uI h.2.2.1 k j v, h.2.2.2) H1 := by
        refine hr.1.upd (k := k) rfl z1 o1 (fun k2 hk2 => ?_) (fun q hq => ?_)
        · refine ⟨fun _ => rfl, fun i => ?_, fun i => ?_⟩
          · first | rfl | (show am_uI _ _ _ _ _ _ = _; simp [am_uI, hk2])
          · first | rfl | (show am_uL _ _ _ _ _ _ = _; simp [am_uL, hk2])
        · have hq := hk.symm.trans hq
          cases hq
          show H1[base + k]? = some (vp_cell _ _)
          rw [e1, vp_cell_i, vp_cell_i, arrV_store]
          congr 2
          funext i
          have ei : (i = (Int32.ofInt j).toNatClampNeg) ↔ (i : Int) = j := by rw [am_clamp rj]; omega
          by_cases hi : (i : Int) = j
          · simp [updV, am_uI, ei.mpr hi, hi, am_clamp rj, Int.toNat_of_nonneg j0]
          · simp [updV, am_uI, (not_congr ei).mpr hi, hi]
      have w := kk sl H1 (locs ++ [⟨base + k, (Int32.ofInt j).toNatClampNeg⟩]) cells slots hlo (am_rgS_t (am_rgS_t (am_rgS_t hst))) ⟨hP2, hr.2.1.put z1 o1 (by show base < base + k; omega), hr.2.2.1, hr.2.2.2.1, (fun k2 j2 => by show am_rg (am_uI h.2.2.1 k j v k2 j2); unfold am_uI; split; exact rv; exact hr.2.2.2.2.1 k2 j2), hr.2.2.2.2.2⟩
      exact w
    · cases hx
  · cases hx
theorem am_w_bastore  (C : am_Cx p s m args meth c mt) (K : am_K D dA s) (hd : decode mt.2.1 pc = .ok (.bastore, 1)) (hx : am_next mt (.bastore) 1 pc ls st h = some (.inl (pc2, ls2, st2, h2))) (hlo : am_Lo base b mt.2.2.1 ls sl) (hst : am_rgS st) (hr : am_Rp base b D dA s n0 z0 h H locs cells slots) (kk : am_KK p l e R s m args below meth c Q mt base b n0 z0 D dA pc2 ls2 st2 h2) : W p l e R s m args below meth c H locs cells slots Q (F0 m pc sl (st.map (am_re base b))) := by
  simp only [am_next, am_bas, am_go] at hx
  split at hx
  · next v j k r =>
    split at hx
    · next g =>
      cases hx
      have rj := am_rgS_h (am_rgS_t hst)
      have rv := am_rgS_h hst
      obtain ⟨n, hk, j0, j1⟩ := am_inb_ex g.1
      have k0 := am_k0 hr hk (by omega)
      have hcell := am_Pz hr.1 k0 hk
      have hn9 : narrow .boolean (.int (Int32.ofInt v)) = .int (Int32.ofInt v) := by
        rcases g.2 with w | w <;> subst w <;> rfl
      rw [List.map_cons, List.map_cons, List.map_cons, am_re_k k0]
      refine W.zast C.1 C.2.1 hcell ((K.2 2 _ rfl).1 n (fun i => .int (Int32.ofInt (h.2.2.1 k i)))) (fun q => by cases q) (by show ¬ (Int32.ofInt j < 0 ∨ (arrV _ _ _).slots.size ≤ _); rw [arrV_size]; exact am_vin rj j0 j1) rfl rfl hd (fun H1 e1 z1 o1 => ?_)
      have hP2 : am_P base b D dA (h.1, h.2.1, am_uI h.2.2.1 k j v, h.2.2.2) H1 := by
        rw [hn9] at e1
        refine hr.1.upd (k := k) rfl z1 o1 (fun k2 hk2 => ?_) (fun q hq => ?_)
        · refine ⟨fun _ => rfl, fun i => ?_, fun i => ?_⟩
          · first | rfl | (show am_uI _ _ _ _ _ _ = _; simp [am_uI, hk2])
          · first | rfl | (show am_uL _ _ _ _ _ _ = _; simp [am_uL, hk2])
        · have hq := hk.symm.trans hq
          cases hq
          show H1[base + k]? = some (vp_cell _ _)
          rw [e1, vp_cell_i, vp_cell_i, arrV_store]
          congr 2
          funext i
          have ei : (i = (Int32.ofInt j).toNatClampNeg) ↔ (i : Int) = j := by rw [am_clamp rj]; omega
          by_cases hi : (i : Int) = j
          · simp [updV, am_uI, ei.mpr hi, hi, am_clamp rj, Int.toNat_of_nonneg j0]
          · simp [updV, am_uI, (not_congr ei).mpr hi, hi]
      have w := kk sl H1 (locs ++ [⟨base + k, (Int32.ofInt j).toNatClampNeg⟩]) cells slots hlo (am_rgS_t (am_rgS_t (am_rgS_t hst))) ⟨hP2, hr.2.1.put z1 o1 (by show base < base + k; omega), hr.2.2.1, hr.2.2.2.1, (fun k2 j2 => by show am_rg (am_uI h.2.2.1 k j v k2 j2); unfold am_uI; split; exact rv; exact hr.2.2.2.2.1 k2 j2), hr.2.2.2.2.2⟩
      exact w
    · cases hx
  · cases hx
theorem am_w_lastore  (C : am_Cx p s m args meth c mt) (K : am_K D dA s) (hd : decode mt.2.1 pc = .ok (.lastore, 1)) (hx : am_next mt (.lastore) 1 pc ls st h = some (.inl (pc2, ls2, st2, h2))) (hlo : am_Lo base b mt.2.2.1 ls sl) (hst : am_rgS st) (hr : am_Rp base b D dA s n0 z0 h H locs cells slots) (kk : am_KK p l e R s m args below meth c Q mt base b n0 z0 D dA pc2 ls2 st2 h2) : W p l e R s m args below meth c H locs cells slots Q (F0 m pc sl (st.map (am_re base b))) := by
  simp only [am_next, am_las, am_go] at hx
  split at hx
  · next v j k r =>
    split at hx
    · next g =>
      cases hx
      have rj := am_rgS_h (am_rgS_t hst)
      obtain ⟨n, hk, j0, j1⟩ := am_inb_ex g
      have k0 := am_k0 hr hk (by omega)
      have hcell := am_Pl hr.1 k0 hk
      rw [List.map_cons, List.map_cons, List.map_cons, am_re_k k0]
      refine W.last C.1 C.2.1 hcell ((K.2 1 _ rfl).1 n (fun i => .long (h.2.2.2 k i))) (fun q => by cases q) (by show ¬ (Int32.ofInt j < 0 ∨ (arrV _ _ _).slots.size ≤ _); rw [arrV_size]; exact am_vin rj j0 j1) rfl rfl hd (fun H1 e1 z1 o1 => ?_)
      have hP2 : am_P base b D dA (h.1, h.2.1, h.2.2.1, am_uL h.2.2.2 k j v) H1 := by
        refine hr.1.upd (k := k) rfl z1 o1 (fun k2 hk2 => ?_) (fun q hq => ?_)
        · refine ⟨fun _ => rfl, fun i => ?_, fun i => ?_⟩
          · first | rfl | (show am_uI _ _ _ _ _ _ = _; simp [am_uI, hk2])
          · first | rfl | (show am_uL _ _ _ _ _ _ = _; simp [am_uL, hk2])
        · have hq := hk.symm.trans hq
          cases hq
          show H1[base + k]? = some (vp_cell _ _)
          rw [e1, vp_cell_l, vp_cell_l, arrV_store]
          congr 2
          funext i
          have ei : (i = (Int32.ofInt j).toNatClampNeg) ↔ (i : Int) = j := by rw [am_clamp rj]; omega
          by_cases hi : (i : Int) = j
          · simp [updV, am_uL, ei.mpr hi, hi, am_clamp rj, Int.toNat_of_nonneg j0]
          · simp [updV, am_uL, (not_congr ei).mpr hi, hi]
      have w := kk sl H1 (locs ++ [⟨base + k, (Int32.ofInt j).toNatClampNeg⟩]) cells slots hlo (am_rgS_t (am_rgS_t (am_rgS_t hst))) ⟨hP2, hr.2.1.put z1 o1 (by show base < base + k; omega), hr.2.2.1, hr.2.2.2.1, hr.2.2.2.2.1, hr.2.2.2.2.2⟩
      exact w
    · cases hx
  · cases hx
end AMW
