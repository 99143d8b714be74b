/-! Fields and new cells. -/
theorem am_vpV {g : Nat → Value} {N j : Nat} (hj : j < N) : vp_V ((List.range N).map g) j = g j := by
  simp [vp_V, List.getD, hj]
theorem am_fits (base b : Nat) {ty : FieldType} (ht : (∃ n, ty = .object n) ∨ ∃ t, ty = .array t) (r : Option Nat) : narrow ty (am_re base b (.inr (.inr r))) = am_re base b (.inr (.inr r)) ∧ fits ty (am_re base b (.inr (.inr r))) = true := by
  rcases ht with ⟨n, rfl⟩ | ⟨t, rfl⟩ <;> cases r <;> exact ⟨rfl, rfl⟩
section AMW
variable {p : Program} {l : Launch} {e : Env} {R : Room} {s : State} {m : MethodId} {args : Array Value} {below : List Frame} {meth : Method} {c : Code} {Q : State → Prop} {mt : am_M} {base b n0 z0 : Nat} {D : va_G} {dA : Nat → ClassId} {H : Heap} {locs : List Loc} {cells slots : Nat} {pc pc2 : Nat} {ls ls2 : am_Ls} {st st2 : List am_V} {h h2 : am_H} {sl : Array Slot}
theorem am_w_getfield {i : Nat} (C : am_Cx p s m args meth c mt) (K : am_K D dA s) (hd : decode mt.2.1 pc = .ok (.getfield i, 3)) (hx : am_next mt (.getfield i) 3 pc ls st h = some (.inl (pc2, ls2, st2, h2))) (hlo : am_Lo base b mt.2.2.1 ls sl) (hst : am_rgS st) (hr : am_Rp base b D dA s n0 z0 h H locs cells slots) (kk : am_KK p l e R s m args below meth c Q mt base b n0 z0 D dA pc2 ls2 st2 h2) : W p l e R s m args below meth c H locs cells slots Q (F0 m pc sl (st.map (am_re base b))) := by
  simp only [am_next, am_gf, am_go] at hx
  split at hx
  · next cc f k r hl =>
    split at hx
    · next g =>
      obtain ⟨hk, k0⟩ := g
      obtain ⟨hc10, C1, T1, N1, e1, hf, hlink⟩ := am_fld C.2.2.2.2.2.2.2 hl
      obtain ⟨C2, T2, N2, ty, e2, en, hu, -, -, hft, -⟩ := am_cls hc10
      have e3 := e1.symm.trans e2
      cases e3
      obtain ⟨hp, hown, hty⟩ := hft f hf
      have hv := hr.1.2 k _ k0 hk
      have hP := am_one_w (show va_at D am_cl (base + k, .inr (cc, (List.range (am_nf cc)).map (am_fv base b cc k h))) H from hv)
      have key : ∀ v : Value, am_fv base b cc k h f = v → W p l e R s m args below meth c H locs cells slots Q (F0 m (pc + 3) sl (v :: r.map (am_re base b))) → W p l e R s m args below meth c H locs cells slots Q (F0 m pc sl (.ref (base + k) :: r.map (am_re base b))) := by
        intro v hv9 w
        refine va_get (D := D) (ci := cc) (v := v) (C := C1) (T := T1) (N := N1) C.1 C.2.1 C.2.2.2.2.1 hu C.2.2.2.1 K hP 0 rfl e1 f hf (C.2.2.2.2.1 _ hlink) (fun x h9 => by rw [hown] at h9; exact h9) ?_ hd w
        rw [List.getElem?_map, List.getElem?_range (by rw [en]; exact hf), Option.map_some, hv9]
      rw [List.map_cons, am_re_k k0]
      rcases hty with ⟨q, -, -⟩ | ⟨q, -, -⟩ | ⟨q, -, -⟩
      · rw [q] at hx
        cases hx
        exact key _ (by unfold am_fv; rw [q]; rfl) (kk sl H locs cells slots hlo (am_rgS_c (hr.2.2.2.2.1 k f) (am_rgS_t hst)) hr)
      · rw [q] at hx
        cases hx
        exact key _ (by unfold am_fv; rw [q]; rfl) (kk sl H locs cells slots hlo (am_rgS_l (am_rgS_t hst)) hr)
      · rw [q] at hx
        cases hx
        exact key _ (by unfold am_fv; rw [q]; rfl) (kk sl H locs cells slots hlo (am_rgS_r (am_rgS_t hst)) hr)
    · cases hx
  · cases hx
theorem am_w_putfield {i : Nat} (C : am_Cx p s m args meth c mt) (K : am_K D dA s) (hd : decode mt.2.1 pc = .ok (.putfield i, 3)) (hx : am_next mt (.putfield i) 3 pc ls st h = some (.inl (pc2, ls2, st2, h2))) (hlo : am_Lo base b mt.2.2.1 ls sl) (hst : am_rgS st) (hr : am_Rp base b D dA s n0 z0 h H locs cells slots) (kk : am_KK p l e R s m args below meth c Q mt base b n0 z0 D dA pc2 ls2 st2 h2) : W p l e R s m args below meth c H locs cells slots Q (F0 m pc sl (st.map (am_re base b))) := by
  simp only [am_next, am_pf, am_go] at hx
  split at hx
  · next cc f v k r hl =>
    split at hx
    · next g =>
      obtain ⟨hk, k0⟩ := g
      obtain ⟨hc10, C1, T1, N1, e1, hf, hlink⟩ := am_fld C.2.2.2.2.2.2.2 hl
      obtain ⟨C2, T2, N2, ty, e2, en, hu, -, -, hft, hnm⟩ := am_cls hc10
      have e3 := e1.symm.trans e2
      cases e3
      obtain ⟨hp, hown, hty⟩ := hft f hf
      have hv := hr.1.2 k _ k0 hk
      obtain ⟨r0, h1, cell, q1, q2, q3, q4⟩ := (show va_at D am_cl (base + k, .inr (cc, (List.range (am_nf cc)).map (am_fv base b cc k h))) H from hv)
      have hr0 : r0 = (C1, T1, N1) := Option.some.inj (h1.symm.trans e1)
      subst hr0
      obtain ⟨hS, hfc, kC, hkC, hkind⟩ := K.1 cc _ e1
      obtain ⟨cf, kf, fi, fd, hi, hsl⟩ := hS f hf
      have hap := va_apart (own := mt.1.cls) C.2.2.2.2.1 hu ty (fun a ha => (hft a ha).1) hnm K e1
      have hlay := C.2.2.2.2.1 _ (hu _ (u_in_lay hf))
      have hst9 := (u_facts hfc hkC (u_lays C.2.2.2.2.1 hu hf) hi).1
      have hi2 : s.fieldFound? C1 (T1 f).2.1 (T1 f).2.2.1 = some (cf, kf, fi, fd) := by rw [← hown]; exact hi
      have go : ∀ (h9 : am_H) (w9 : Value), h9.1 = h.1 → (∀ k', k' ≠ k → am_same k' h h9) → (∀ j, j < N1 → am_fv base b cc k h9 j = updV (am_fv base b cc k h) f w9 j) → am_rgH h9 → am_re base b v = w9 →
          (∀ H1 : Heap, H1[base + k]? = some (cell.setSlot fd.slot w9) → H1.size = H.size → (∀ q, q ≠ base + k → H1[q]? = H[q]?) → am_Rp base b D dA s n0 z0 h9 H1 (locs ++ [⟨base + k, fd.slot⟩]) cells slots) := by
        intro h9 w9 g1 g2 g3 g4 g5 H1 e9 z9 o9
        refine ⟨hr.1.upd (k := k) g1 z9 o9 g2 (fun q hq => ?_), hr.2.1.put z9 o9 (by show base < base + k; omega), by rw [g1]; exact hr.2.2.1, by rw [g1]; exact hr.2.2.2.1, g4, by rw [g1]; exact hr.2.2.2.2.2.1, hr.2.2.2.2.2.2⟩
        have hq := hk.symm.trans hq
        cases hq
        rw [hsl] at e9
        refine ⟨_, e1, t_OB.to (V := updV (vp_V ((List.range (am_nf cc)).map (am_fv base b cc k h))) f w9) ⟨_, e9, q2, q3, t_set q4 hap hf w9⟩ (fun j hj => ?_)⟩
        have hj : j < N1 := hj
        rw [am_vpV (by rw [en]; exact hj), g3 j hj]
        unfold updV
        rw [am_vpV (by rw [en]; exact hj)]
      rw [List.map_cons, List.map_cons, am_re_k k0]
      rcases hty with ⟨q, qt, qf⟩ | ⟨q, qt, qf⟩ | ⟨q, qt, qf⟩
      · rw [q] at hx
        rcases v with a | a | a
        · cases hx
          unfold u_lay at hlay
          rw [if_neg (by rw [qf]; decide)] at hlay
          have h6 := u_store (v := .int (Int32.ofInt a)) hfc hkC hkind hlay hi (by rw [hp, qt]) rfl rfl
          refine W.putK C.1 C.2.1 (f := fd) ⟨C.2.2.2.1, C.2.2.2.2.1 _ hlink, ⟨_, _, _, hi2⟩, hst9⟩ (by rw [q2]; exact h6) q1 q3 (by rw [hsl]; exact k2_hasslot (q4 f hf)) rfl rfl hd (fun H1 e9 z9 o9 => ?_)
          refine kk sl H1 (locs ++ [⟨base + k, fd.slot⟩]) cells slots hlo (am_rgS_t (am_rgS_t hst)) (go (h.1, h.2.1, am_uI h.2.2.1 k f a, h.2.2.2) (.int (Int32.ofInt a)) rfl (fun k2 hk2 => ⟨fun _ => rfl, fun j => by show am_uI _ _ _ _ _ _ = _; simp [am_uI, hk2], fun _ => rfl⟩) (fun j hj => ?_) (fun k2 j2 => by show am_rg (am_uI h.2.2.1 k f a k2 j2); unfold am_uI; split; exact am_rgS_h hst; exact hr.2.2.2.2.1 k2 j2) rfl H1 e9 z9 o9)
          unfold updV
          by_cases hjf : j = f
          · subst hjf
            unfold am_fv
            rw [if_pos rfl, q]
            simp [am_uI]
          · rw [if_neg hjf]
            have hz : ¬ ((j : Int) = (f : Int)) := by omega
            unfold am_fv
            simp [am_uI, hz]
        all_goals cases hx
      · rw [q] at hx
        rcases v with a | a | a
        · cases hx
        · cases hx
          unfold u_lay at hlay
          rw [if_neg (by rw [qf]; decide)] at hlay
          have h6 := u_store (v := .long a) hfc hkC hkind hlay hi (by rw [hp, qt]) rfl rfl
          refine W.putK C.1 C.2.1 (f := fd) ⟨C.2.2.2.1, C.2.2.2.2.1 _ hlink, ⟨_, _, _, hi2⟩, hst9⟩ (by rw [q2]; exact h6) q1 q3 (by rw [hsl]; exact k2_hasslot (q4 f hf)) rfl rfl hd (fun H1 e9 z9 o9 => ?_)
          refine kk sl H1 (locs ++ [⟨base + k, fd.slot⟩]) cells slots hlo (am_rgS_t (am_rgS_t hst)) (go (h.1, h.2.1, h.2.2.1, am_uL h.2.2.2 k f a) (.long a) rfl (fun k2 hk2 => ⟨fun _ => rfl, fun _ => rfl, fun j => by show am_uL _ _ _ _ _ _ = _; simp [am_uL, hk2]⟩) (fun j hj => ?_) hr.2.2.2.2.1 rfl H1 e9 z9 o9)
          unfold updV
          by_cases hjf : j = f
          · subst hjf
            unfold am_fv
            rw [if_pos rfl, q]
            simp [am_uL]
          · rw [if_neg hjf]
            have hz : ¬ ((j : Int) = (f : Int)) := by omega
            unfold am_fv
            simp [am_uL, hz]
        · cases hx
      · rw [q] at hx
        rcases v with a | a | (_ | a)
        · cases hx
        · cases hx
        · cases hx
        · have hx : (if (mt.1.name == "<init>") = true ∧ cc = mt.2.2.2.2 ∧ a ≠ 0 then some (Sum.inl (pc + 3, ls, r, h.1, am_uR h.2.1 k f (some a), h.2.2.1, h.2.2.2)) else none) = some (.inl (pc2, ls2, st2, h2)) := hx
          split at hx
          · next g9 =>
            obtain ⟨g1, g2, g3⟩ := g9
            cases hx
            have hown9 : C1 = mt.1.cls := by
              have w1 := (am_meth C.2.2.2.2.2.2.2).2.2.2.1
              rw [← g2] at w1
              have w2 : am_cn[cc]? = (am_cl[cc]?).map (fun q => q.1) := by
                have : ∀ x, x < 10 → am_cn[x]? = (am_cl[x]?).map (fun q => q.1) := by decide +kernel
                exact this cc hc10
              rw [e1] at w2
              exact Option.some.inj (w2.symm.trans w1)
            unfold u_lay at hlay
            rw [if_pos qf] at hlay
            have hcf : m.cls = cf := by
              obtain ⟨_, _, c', _, _, _, -, -, hf', -, -, -, hown2, -⟩ := Cond.laysFinal_spec hlay
              have e1 : c' = cf := by have := hi.symm.trans hf'; simp at this; exact this.1.symm
              rw [hown, hown9] at hown2
              rw [← e1]; exact Option.some.inj (C.2.2.2.1.symm.trans hown2)
            have hfit := am_fits base b qt (some a)
            have h6 := u_fits (v := am_re base b (.inr (.inr (some a)))) hfc hkC hkind (Or.inr hlay) hi hp hfit.1 hfit.2
            refine W.putFinK C.1 C.2.1 C.2.2.2.1 (C.2.2.2.2.1 _ hlink) hi2 hst9 hcf (C.2.2.2.2.2.1 (eq_of_beq g1)) (by rw [q2]; exact h6) q1 q3 (by rw [hsl]; exact k2_hasslot (q4 f hf)) rfl rfl hd (fun H1 e9 z9 o9 => ?_)
            refine kk sl H1 (locs ++ [⟨base + k, fd.slot⟩]) cells slots hlo (am_rgS_t (am_rgS_t hst)) (go (h.1, am_uR h.2.1 k f (some a), h.2.2.1, h.2.2.2) (am_re base b (.inr (.inr (some a)))) rfl (fun k2 hk2 => ⟨fun j => by show am_uR _ _ _ _ _ _ = _; simp [am_uR, hk2], fun _ => rfl, fun _ => rfl⟩) (fun j hj => ?_) hr.2.2.2.2.1 rfl H1 e9 z9 o9)
            unfold updV
            by_cases hjf : j = f
            · subst hjf
              unfold am_fv
              rw [if_pos rfl, q]
              simp [am_uR]
            · rw [if_neg hjf]
              have hz : ¬ ((j : Int) = (f : Int)) := by omega
              unfold am_fv
              simp [am_uR, hz]
          · cases hx
    · cases hx
  · cases hx
end AMW
