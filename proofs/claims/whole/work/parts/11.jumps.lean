/-! Jumps. -/
theorem am_jmp_inv {pc nx : Nat} {off : Int} {cc : Bool} {ls : am_Ls} {st : List am_V} {h : am_H} {r : am_Nx} (q : am_jmp pc off cc nx ls st h = some r) : 0 ≤ (pc : Int) + off ∧ r = .inl (if cc = true then ((pc : Int) + off).toNat else nx, ls, st, h) := by
  unfold am_jmp am_go at q
  split at q
  · next g => cases q; exact ⟨g, rfl⟩
  · cases q
theorem am_rg0 : am_rg 0 := by unfold am_rg; omega
section AMW
variable {p : Program} {l : Launch} {e : Env} {R : Room} {s : State} {m : MethodId} {args : Array Value} {below : List Frame} {meth : Method} {c : Code} {Q : State → Prop} {mt : am_M} {base b n0 z0 : Nat} {D : va_G} {dA : Nat → ClassId} {H : Heap} {locs : List Loc} {cells slots : Nat} {pc pc2 : Nat} {ls ls2 : am_Ls} {st st2 : List am_V} {h h2 : am_H} {sl : Array Slot}
theorem am_w_ifCond {k : Jvm.ClassFile.Cond} {off : Int} (C : am_Cx p s m args meth c mt) (hd : decode mt.2.1 pc = .ok (.ifCond k off, 3)) (hx : am_next mt (.ifCond k off) 3 pc ls st h = some (.inl (pc2, ls2, st2, h2))) (hlo : am_Lo base b mt.2.2.1 ls sl) (hst : am_rgS st) (hr : am_Rp base b D dA s n0 z0 h H locs cells slots) (kk : am_KK p l e R s m args below meth c Q mt base b n0 z0 D dA pc2 ls2 st2 h2) : W p l e R s m args below meth c H locs cells slots Q (F0 m pc sl (st.map (am_re base b))) := by
  simp only [am_next] at hx
  split at hx
  · next a r =>
    obtain ⟨h0, e9⟩ := am_jmp_inv hx
    cases e9
    have z : (0 : Int32) = Int32.ofInt 0 := rfl
    have ra := am_rgS_h hst
    have rb := am_rg0
    have ht : (pc : Int) + off = ((((pc : Int) + off).toNat : Nat) : Int) := by omega
    have w := kk sl H locs cells slots hlo (am_rgS_t hst) hr
    cases k
    · refine lv_if_eq C.1 C.2.1 hd ht (fun q => ?_) (fun q => ?_)
      · rw [z, am_eqI ra rb] at q
        rw [if_pos (by simpa [am_cmp] using q)] at w
        exact w
      · rw [z, am_eqI ra rb] at q
        rw [if_neg (by simpa [am_cmp] using q)] at w
        exact w
    · refine lv_if_ne C.1 C.2.1 hd ht (fun q => ?_) (fun q => ?_)
      · rw [z, am_eqI ra rb] at q
        rw [if_pos (by simpa [am_cmp] using q)] at w
        exact w
      · rw [z, am_eqI ra rb] at q
        rw [if_neg (by simpa [am_cmp] using q)] at w
        exact w
    · refine lv_if_lt C.1 C.2.1 hd ht (fun q => ?_) (fun q => ?_)
      · rw [z, am_ltI ra rb] at q
        rw [if_pos (by simpa [am_cmp] using q)] at w
        exact w
      · rw [z, am_ltI ra rb] at q
        rw [if_neg (by simpa [am_cmp] using q)] at w
        exact w
    · refine lv_if_ge C.1 C.2.1 hd ht (fun q => ?_) (fun q => ?_)
      · rw [z, am_leI rb ra] at q
        rw [if_pos (by simpa [am_cmp] using q)] at w
        exact w
      · rw [z, am_leI rb ra] at q
        rw [if_neg (by simpa [am_cmp] using q)] at w
        exact w
    · refine lv_if_gt C.1 C.2.1 hd ht (fun q => ?_) (fun q => ?_)
      · rw [z, am_ltI rb ra] at q
        rw [if_pos (by simpa [am_cmp] using q)] at w
        exact w
      · rw [z, am_ltI rb ra] at q
        rw [if_neg (by simpa [am_cmp] using q)] at w
        exact w
    · refine lv_if_le C.1 C.2.1 hd ht (fun q => ?_) (fun q => ?_)
      · rw [z, am_leI ra rb] at q
        rw [if_pos (by simpa [am_cmp] using q)] at w
        exact w
      · rw [z, am_leI ra rb] at q
        rw [if_neg (by simpa [am_cmp] using q)] at w
        exact w
  · cases hx
theorem am_w_if_icmp {k : Jvm.ClassFile.Cond} {off : Int} (C : am_Cx p s m args meth c mt) (hd : decode mt.2.1 pc = .ok (.if_icmp k off, 3)) (hx : am_next mt (.if_icmp k off) 3 pc ls st h = some (.inl (pc2, ls2, st2, h2))) (hlo : am_Lo base b mt.2.2.1 ls sl) (hst : am_rgS st) (hr : am_Rp base b D dA s n0 z0 h H locs cells slots) (kk : am_KK p l e R s m args below meth c Q mt base b n0 z0 D dA pc2 ls2 st2 h2) : W p l e R s m args below meth c H locs cells slots Q (F0 m pc sl (st.map (am_re base b))) := by
  simp only [am_next] at hx
  split at hx
  · next a2 a r =>
    obtain ⟨h0, e9⟩ := am_jmp_inv hx
    cases e9
    have rb := am_rgS_h hst
    have ra := am_rgS_h (am_rgS_t hst)
    have ht : (pc : Int) + off = ((((pc : Int) + off).toNat : Nat) : Int) := by omega
    have w := kk sl H locs cells slots hlo (am_rgS_t (am_rgS_t hst)) hr
    cases k
    · refine lv_icmp_eq C.1 C.2.1 hd ht (fun q => ?_) (fun q => ?_)
      · rw [am_eqI ra rb] at q
        rw [if_pos (by simpa [am_cmp] using q)] at w
        exact w
      · rw [am_eqI ra rb] at q
        rw [if_neg (by simpa [am_cmp] using q)] at w
        exact w
    · refine lv_icmp_ne C.1 C.2.1 hd ht (fun q => ?_) (fun q => ?_)
      · rw [am_eqI ra rb] at q
        rw [if_pos (by simpa [am_cmp] using q)] at w
        exact w
      · rw [am_eqI ra rb] at q
        rw [if_neg (by simpa [am_cmp] using q)] at w
        exact w
    · refine lv_icmp_lt C.1 C.2.1 hd ht (fun q => ?_) (fun q => ?_)
      · rw [am_ltI ra rb] at q
        rw [if_pos (by simpa [am_cmp] using q)] at w
        exact w
      · rw [am_ltI ra rb] at q
        rw [if_neg (by simpa [am_cmp] using q)] at w
        exact w
    · refine lv_icmp_ge C.1 C.2.1 hd ht (fun q => ?_) (fun q => ?_)
      · rw [am_leI rb ra] at q
        rw [if_pos (by simpa [am_cmp] using q)] at w
        exact w
      · rw [am_leI rb ra] at q
        rw [if_neg (by simpa [am_cmp] using q)] at w
        exact w
    · refine lv_icmp_gt C.1 C.2.1 hd ht (fun q => ?_) (fun q => ?_)
      · rw [am_ltI rb ra] at q
        rw [if_pos (by simpa [am_cmp] using q)] at w
        exact w
      · rw [am_ltI rb ra] at q
        rw [if_neg (by simpa [am_cmp] using q)] at w
        exact w
    · refine lv_icmp_le C.1 C.2.1 hd ht (fun q => ?_) (fun q => ?_)
      · rw [am_leI ra rb] at q
        rw [if_pos (by simpa [am_cmp] using q)] at w
        exact w
      · rw [am_leI ra rb] at q
        rw [if_neg (by simpa [am_cmp] using q)] at w
        exact w
  · cases hx
theorem am_w_goto {off : Int} (C : am_Cx p s m args meth c mt) (hd : decode mt.2.1 pc = .ok (.goto off, 3)) (hx : am_next mt (.goto off) 3 pc ls st h = some (.inl (pc2, ls2, st2, h2))) (hlo : am_Lo base b mt.2.2.1 ls sl) (hst : am_rgS st) (hr : am_Rp base b D dA s n0 z0 h H locs cells slots) (kk : am_KK p l e R s m args below meth c Q mt base b n0 z0 D dA pc2 ls2 st2 h2) : W p l e R s m args below meth c H locs cells slots Q (F0 m pc sl (st.map (am_re base b))) := by
  obtain ⟨h0, e9⟩ := am_jmp_inv hx
  cases e9
  have ht : (pc : Int) + off = ((((pc : Int) + off).toNat : Nat) : Int) := by omega
  refine lv_goto C.1 C.2.1 hd ht ?_
  exact kk sl H locs cells slots hlo hst hr
theorem am_w_tableswitch {d lo hi : Int} {offs : Array Int} {n : Nat} (C : am_Cx p s m args meth c mt) (hd : decode mt.2.1 pc = .ok (.tableswitch d lo hi offs, n)) (hx : am_next mt (.tableswitch d lo hi offs) n pc ls st h = some (.inl (pc2, ls2, st2, h2))) (hlo : am_Lo base b mt.2.2.1 ls sl) (hst : am_rgS st) (hr : am_Rp base b D dA s n0 z0 h H locs cells slots) (kk : am_KK p l e R s m args below meth c Q mt base b n0 z0 D dA pc2 ls2 st2 h2) : W p l e R s m args below meth c H locs cells slots Q (F0 m pc sl (st.map (am_re base b))) := by
  simp only [am_next] at hx
  split at hx
  · next a r =>
    split at hx
    · next off ho =>
      obtain ⟨h0, e9⟩ := am_jmp_inv hx
      cases e9
      have ra := am_rgS_h hst
      have ht : (pc : Int) + off = ((((pc : Int) + off).toNat : Nat) : Int) := by omega
      have w := kk sl H locs cells slots hlo (am_rgS_t hst) hr
      unfold am_sw at ho
      split at ho
      · next g =>
        cases ho
        exact lv_tableOut C.1 C.2.1 hd (by rw [am_to ra]; exact g) ht w
      · next g =>
        exact lv_tableIn C.1 C.2.1 hd (by rw [am_to ra]; omega) (by rw [am_to ra]; omega) (by rw [am_to ra]; exact ho) ht w
    · cases hx
  · cases hx
theorem am_w_lookupswitch {d : Int} {ps : Array (Int × Int)} {n : Nat} (C : am_Cx p s m args meth c mt) (hd : decode mt.2.1 pc = .ok (.lookupswitch d ps, n)) (hx : am_next mt (.lookupswitch d ps) n pc ls st h = some (.inl (pc2, ls2, st2, h2))) (hlo : am_Lo base b mt.2.2.1 ls sl) (hst : am_rgS st) (hr : am_Rp base b D dA s n0 z0 h H locs cells slots) (kk : am_KK p l e R s m args below meth c Q mt base b n0 z0 D dA pc2 ls2 st2 h2) : W p l e R s m args below meth c H locs cells slots Q (F0 m pc sl (st.map (am_re base b))) := by
  simp only [am_next] at hx
  split at hx
  · next a r =>
    split at hx
    · next g =>
      obtain ⟨h0, e9⟩ := am_jmp_inv hx
      cases e9
      have ra := am_rgS_h hst
      have w := kk sl H locs cells slots hlo (am_rgS_t hst) hr
      exact lv_lookup C.1 C.2.1 hd g (by rw [am_to ra]) (by rw [if_pos rfl]; omega) w
    · cases hx
  · cases hx
end AMW
