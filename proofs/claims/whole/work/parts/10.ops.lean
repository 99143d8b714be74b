/-! The machine at one instruction that the abstract machine takes: what leaves the heap alone. -/
def am_KK (p : Program) (l : Launch) (e : Env) (R : Room) (s : State) (m : MethodId) (args : Array Value) (below : List Frame) (meth : Method) (c : Code) (Q : State → Prop) (mt : am_M) (base b n0 z0 : Nat) (D : va_G) (dA : Nat → ClassId) (pc : Nat) (ls : am_Ls) (st : List am_V) (h : am_H) : Prop :=
  ∀ (sl : Array Slot) (H : Heap) (locs : List Loc) (cells slots : Nat), am_Lo base b mt.2.2.1 ls sl → am_rgS st → am_Rp base b D dA s n0 z0 h H locs cells slots → W p l e R s m args below meth c H locs cells slots Q (F0 m pc sl (st.map (am_re base b)))
theorem am_rgS_c {x : Int} {st : List am_V} (hx : am_rg x) (h : am_rgS st) : am_rgS (.inl x :: st) := by
  intro y hy
  rcases List.mem_cons.mp hy with e | e
  · cases e; exact hx
  · exact h y e
theorem am_rgS_o {v : am_V} {st : List am_V} (hv : ∀ x, v ≠ .inl x) (h : am_rgS st) : am_rgS (v :: st) := by
  intro y hy
  rcases List.mem_cons.mp hy with e | e
  · exact absurd e.symm (hv y)
  · exact h y e
theorem am_rgS_l {x : Int64} {st : List am_V} (h : am_rgS st) : am_rgS (.inr (.inl x) :: st) := am_rgS_o (fun _ q => by cases q) h
theorem am_rgS_r {x : Option Nat} {st : List am_V} (h : am_rgS st) : am_rgS (.inr (.inr x) :: st) := am_rgS_o (fun _ q => by cases q) h
theorem am_rgS_t {v : am_V} {st : List am_V} (h : am_rgS (v :: st)) : am_rgS st := fun x hx => h x (List.mem_cons_of_mem _ hx)
theorem am_rgS_h {x : Int} {st : List am_V} (h : am_rgS (.inl x :: st)) : am_rg x := h x List.mem_cons_self
theorem am_load_i {i nx : Nat} {ls : am_Ls} {st : List am_V} {h : am_H} {r : am_Nx} (q : am_load 0 i nx ls st h = some r) : ∃ a, am_get ls i = some (.inl a) ∧ r = .inl (nx, ls, .inl a :: st, h) := by
  unfold am_load at q
  cases hg : am_get ls i with
  | none => rw [hg] at q; cases q
  | some v =>
    rw [hg] at q
    rcases v with x | x | (_ | x)
    · cases q; exact ⟨x, rfl, rfl⟩
    all_goals cases q
theorem am_load_l {i nx : Nat} {ls : am_Ls} {st : List am_V} {h : am_H} {r : am_Nx} (q : am_load 1 i nx ls st h = some r) : ∃ a, am_get ls i = some (.inr (.inl a)) ∧ r = .inl (nx, ls, .inr (.inl a) :: st, h) := by
  unfold am_load at q
  cases hg : am_get ls i with
  | none => rw [hg] at q; cases q
  | some v =>
    rw [hg] at q
    rcases v with x | x | (_ | x)
    · cases q
    · cases q; exact ⟨x, rfl, rfl⟩
    all_goals cases q
theorem am_load_a {i nx : Nat} {ls : am_Ls} {st : List am_V} {h : am_H} {r : am_Nx} (q : am_load 2 i nx ls st h = some r) : ∃ a, am_get ls i = some (.inr (.inr (some a))) ∧ r = .inl (nx, ls, .inr (.inr (some a)) :: st, h) := by
  unfold am_load at q
  cases hg : am_get ls i with
  | none => rw [hg] at q; cases q
  | some v =>
    rw [hg] at q
    rcases v with x | x | (_ | x)
    · cases q
    · cases q
    · cases q
    · cases q; exact ⟨x, rfl, rfl⟩
theorem am_store_i {i nx : Nat} {ls : am_Ls} {st : List am_V} {h : am_H} {r : am_Nx} (q : am_store 0 i nx ls st h = some r) : ∃ a st', st = .inl a :: st' ∧ i < ls.length ∧ r = .inl (nx, am_st1 ls i (.inl a), st', h) := by
  unfold am_store at q
  cases st with
  | nil => cases q
  | cons v st' =>
    rcases v with x | x | (_ | x)
    · simp only [am_go] at q
      split at q
      · next g => cases q; exact ⟨x, st', rfl, g, rfl⟩
      · cases q
    all_goals cases q
theorem am_store_l {i nx : Nat} {ls : am_Ls} {st : List am_V} {h : am_H} {r : am_Nx} (q : am_store 1 i nx ls st h = some r) : ∃ a st', st = .inr (.inl a) :: st' ∧ i + 1 < ls.length ∧ r = .inl (nx, am_st2 ls i (.inr (.inl a)), st', h) := by
  unfold am_store at q
  cases st with
  | nil => cases q
  | cons v st' =>
    rcases v with x | x | (_ | x)
    · cases q
    · simp only [am_go] at q
      split at q
      · next g => cases q; exact ⟨x, st', rfl, g, rfl⟩
      · cases q
    all_goals cases q
theorem am_store_a {i nx : Nat} {ls : am_Ls} {st : List am_V} {h : am_H} {r : am_Nx} (q : am_store 2 i nx ls st h = some r) : ∃ a st', st = .inr (.inr (some a)) :: st' ∧ i < ls.length ∧ r = .inl (nx, am_st1 ls i (.inr (.inr (some a))), st', h) := by
  unfold am_store at q
  cases st with
  | nil => cases q
  | cons v st' =>
    rcases v with x | x | (_ | x)
    · cases q
    · cases q
    · cases q
    · simp only [am_go] at q
      split at q
      · next g => cases q; exact ⟨x, st', rfl, g, rfl⟩
      · cases q
section AMW
variable {p : Program} {l : Launch} {e : Env} {R : Room} {s : State} {m : MethodId} {args : Array Value} {below : List Frame} {meth : Method} {c : Code} {Q : State → Prop} {mt : am_M} {base b n0 z0 : Nat} {D : va_G} {dA : Nat → ClassId} {H : Heap} {locs : List Loc} {cells slots : Nat} {pc pc2 : Nat} {ls ls2 : am_Ls} {st st2 : List am_V} {h h2 : am_H} {sl : Array Slot}
theorem am_w_iconst {a : Int} (C : am_Cx p s m args meth c mt) (hd : decode mt.2.1 pc = .ok (.iconst a, 1)) (hx : am_next mt (.iconst a) 1 pc ls st h = some (.inl (pc2, ls2, st2, h2))) (hlo : am_Lo base b mt.2.2.1 ls sl) (hst : am_rgS st) (hr : am_Rp base b D dA s n0 z0 h H locs cells slots) (kk : am_KK p l e R s m args below meth c Q mt base b n0 z0 D dA pc2 ls2 st2 h2) : W p l e R s m args below meth c H locs cells slots Q (F0 m pc sl (st.map (am_re base b))) := by
  cases hx
  refine lv_iconst C.1 C.2.1 hd rfl ?_
  have q := kk sl H locs cells slots hlo (am_rgS_c (am_wr_rg a) hst) hr
  have q2 : (am_re base b (.inl (am_wr a))) = .int (Int32.ofInt a) := by simp only [am_re, am_wr_of]
  rw [List.map_cons, q2] at q
  exact q
theorem am_w_bipush {a : Int} (C : am_Cx p s m args meth c mt) (hd : decode mt.2.1 pc = .ok (.bipush a, 2)) (hx : am_next mt (.bipush a) 2 pc ls st h = some (.inl (pc2, ls2, st2, h2))) (hlo : am_Lo base b mt.2.2.1 ls sl) (hst : am_rgS st) (hr : am_Rp base b D dA s n0 z0 h H locs cells slots) (kk : am_KK p l e R s m args below meth c Q mt base b n0 z0 D dA pc2 ls2 st2 h2) : W p l e R s m args below meth c H locs cells slots Q (F0 m pc sl (st.map (am_re base b))) := by
  cases hx
  refine lv_bipush C.1 C.2.1 hd rfl ?_
  have a1 := (Int8.ofInt a).toInt_lt
  have a2 := (Int8.ofInt a).le_toInt
  exact kk sl H locs cells slots hlo (am_rgS_c (by unfold am_rg; omega) hst) hr
theorem am_w_sipush {a : Int} (C : am_Cx p s m args meth c mt) (hd : decode mt.2.1 pc = .ok (.sipush a, 3)) (hx : am_next mt (.sipush a) 3 pc ls st h = some (.inl (pc2, ls2, st2, h2))) (hlo : am_Lo base b mt.2.2.1 ls sl) (hst : am_rgS st) (hr : am_Rp base b D dA s n0 z0 h H locs cells slots) (kk : am_KK p l e R s m args below meth c Q mt base b n0 z0 D dA pc2 ls2 st2 h2) : W p l e R s m args below meth c H locs cells slots Q (F0 m pc sl (st.map (am_re base b))) := by
  cases hx
  refine lv_sipush C.1 C.2.1 hd rfl ?_
  have a1 := (Int16.ofInt a).toInt_lt
  have a2 := (Int16.ofInt a).le_toInt
  exact kk sl H locs cells slots hlo (am_rgS_c (by unfold am_rg; omega) hst) hr
theorem am_w_lconst {a : Fin 2} (C : am_Cx p s m args meth c mt) (hd : decode mt.2.1 pc = .ok (.lconst a, 1)) (hx : am_next mt (.lconst a) 1 pc ls st h = some (.inl (pc2, ls2, st2, h2))) (hlo : am_Lo base b mt.2.2.1 ls sl) (hst : am_rgS st) (hr : am_Rp base b D dA s n0 z0 h H locs cells slots) (kk : am_KK p l e R s m args below meth c Q mt base b n0 z0 D dA pc2 ls2 st2 h2) : W p l e R s m args below meth c H locs cells slots Q (F0 m pc sl (st.map (am_re base b))) := by
  cases hx
  refine lv_lconst C.1 C.2.1 hd rfl ?_
  exact kk sl H locs cells slots hlo (am_rgS_l hst) hr
theorem am_w_ldc {a : Nat} (C : am_Cx p s m args meth c mt) (hd : decode mt.2.1 pc = .ok (.ldc a, 2)) (hx : am_next mt (.ldc a) 2 pc ls st h = some (.inl (pc2, ls2, st2, h2))) (hlo : am_Lo base b mt.2.2.1 ls sl) (hst : am_rgS st) (hr : am_Rp base b D dA s n0 z0 h H locs cells slots) (kk : am_KK p l e R s m args below meth c Q mt base b n0 z0 D dA pc2 ls2 st2 h2) : W p l e R s m args below meth c H locs cells slots Q (F0 m pc sl (st.map (am_re base b))) := by
  simp only [am_next, am_go] at hx
  split at hx
  · next v hv =>
    cases hx
    have hmem := am_lk_mem _ _ _ hv
    have hlt := List.all_eq_true.mp am_fl_lt.2.2.2 _ hmem
    simp only [decide_eq_true_eq] at hlt
    obtain ⟨e1, e2, e3⟩ := am_key_of rfl hlt
    have h1 := List.all_eq_true.mp am_all_1 _ hmem
    unfold am_ok1 at h1
    simp only [e2, e3] at h1
    rw [(am_meth C.2.2.2.2.2.2.2).2.2.2.1] at h1
    simp only [Bool.and_eq_true, decide_eq_true_eq] at h1
    refine W.ldc C.1 C.2.1 C.2.2.2.1 (C.2.2.2.2.1 _ (am_in_tb h1.1.1 rfl)) rfl hd ?_
    exact kk sl H locs cells slots hlo (am_rgS_c ⟨h1.1.2, h1.2⟩ hst) hr
  · cases hx
theorem am_w_iload_n {a : Fin 4} (C : am_Cx p s m args meth c mt) (hd : decode mt.2.1 pc = .ok (.iload_n a, 1)) (hx : am_next mt (.iload_n a) 1 pc ls st h = some (.inl (pc2, ls2, st2, h2))) (hlo : am_Lo base b mt.2.2.1 ls sl) (hst : am_rgS st) (hr : am_Rp base b D dA s n0 z0 h H locs cells slots) (kk : am_KK p l e R s m args below meth c Q mt base b n0 z0 D dA pc2 ls2 st2 h2) : W p l e R s m args below meth c H locs cells slots Q (F0 m pc sl (st.map (am_re base b))) := by
  obtain ⟨v, g, e⟩ := am_load_i hx
  cases e
  refine lv_iload_n C.1 C.2.1 hd rfl (hlo.at g) ?_
  exact kk sl H locs cells slots hlo (am_rgS_c (hlo.rg g) hst) hr
theorem am_w_iload {a : Nat} (C : am_Cx p s m args meth c mt) (hd : decode mt.2.1 pc = .ok (.iload a, 2)) (hx : am_next mt (.iload a) 2 pc ls st h = some (.inl (pc2, ls2, st2, h2))) (hlo : am_Lo base b mt.2.2.1 ls sl) (hst : am_rgS st) (hr : am_Rp base b D dA s n0 z0 h H locs cells slots) (kk : am_KK p l e R s m args below meth c Q mt base b n0 z0 D dA pc2 ls2 st2 h2) : W p l e R s m args below meth c H locs cells slots Q (F0 m pc sl (st.map (am_re base b))) := by
  obtain ⟨v, g, e⟩ := am_load_i hx
  cases e
  refine lv_iload C.1 C.2.1 hd (hlo.at g) ?_
  exact kk sl H locs cells slots hlo (am_rgS_c (hlo.rg g) hst) hr
theorem am_w_lload_n {a : Fin 4} (C : am_Cx p s m args meth c mt) (hd : decode mt.2.1 pc = .ok (.lload_n a, 1)) (hx : am_next mt (.lload_n a) 1 pc ls st h = some (.inl (pc2, ls2, st2, h2))) (hlo : am_Lo base b mt.2.2.1 ls sl) (hst : am_rgS st) (hr : am_Rp base b D dA s n0 z0 h H locs cells slots) (kk : am_KK p l e R s m args below meth c Q mt base b n0 z0 D dA pc2 ls2 st2 h2) : W p l e R s m args below meth c H locs cells slots Q (F0 m pc sl (st.map (am_re base b))) := by
  obtain ⟨v, g, e⟩ := am_load_l hx
  cases e
  refine lv_lload_n C.1 C.2.1 hd rfl (hlo.at g) ?_
  exact kk sl H locs cells slots hlo (am_rgS_l hst) hr
theorem am_w_lload {a : Nat} (C : am_Cx p s m args meth c mt) (hd : decode mt.2.1 pc = .ok (.lload a, 2)) (hx : am_next mt (.lload a) 2 pc ls st h = some (.inl (pc2, ls2, st2, h2))) (hlo : am_Lo base b mt.2.2.1 ls sl) (hst : am_rgS st) (hr : am_Rp base b D dA s n0 z0 h H locs cells slots) (kk : am_KK p l e R s m args below meth c Q mt base b n0 z0 D dA pc2 ls2 st2 h2) : W p l e R s m args below meth c H locs cells slots Q (F0 m pc sl (st.map (am_re base b))) := by
  obtain ⟨v, g, e⟩ := am_load_l hx
  cases e
  refine lv_lload C.1 C.2.1 hd (hlo.at g) ?_
  exact kk sl H locs cells slots hlo (am_rgS_l hst) hr
theorem am_w_aload_n {a : Fin 4} (C : am_Cx p s m args meth c mt) (hd : decode mt.2.1 pc = .ok (.aload_n a, 1)) (hx : am_next mt (.aload_n a) 1 pc ls st h = some (.inl (pc2, ls2, st2, h2))) (hlo : am_Lo base b mt.2.2.1 ls sl) (hst : am_rgS st) (hr : am_Rp base b D dA s n0 z0 h H locs cells slots) (kk : am_KK p l e R s m args below meth c Q mt base b n0 z0 D dA pc2 ls2 st2 h2) : W p l e R s m args below meth c H locs cells slots Q (F0 m pc sl (st.map (am_re base b))) := by
  obtain ⟨v, g, e⟩ := am_load_a hx
  cases e
  refine lv_aload_n C.1 C.2.1 hd rfl (hlo.at g) ?_
  exact kk sl H locs cells slots hlo (am_rgS_r hst) hr
theorem am_w_aload {a : Nat} (C : am_Cx p s m args meth c mt) (hd : decode mt.2.1 pc = .ok (.aload a, 2)) (hx : am_next mt (.aload a) 2 pc ls st h = some (.inl (pc2, ls2, st2, h2))) (hlo : am_Lo base b mt.2.2.1 ls sl) (hst : am_rgS st) (hr : am_Rp base b D dA s n0 z0 h H locs cells slots) (kk : am_KK p l e R s m args below meth c Q mt base b n0 z0 D dA pc2 ls2 st2 h2) : W p l e R s m args below meth c H locs cells slots Q (F0 m pc sl (st.map (am_re base b))) := by
  obtain ⟨v, g, e⟩ := am_load_a hx
  cases e
  refine lv_aload C.1 C.2.1 hd (hlo.at g) ?_
  exact kk sl H locs cells slots hlo (am_rgS_r hst) hr
theorem am_w_istore_n {a : Fin 4} (C : am_Cx p s m args meth c mt) (hd : decode mt.2.1 pc = .ok (.istore_n a, 1)) (hx : am_next mt (.istore_n a) 1 pc ls st h = some (.inl (pc2, ls2, st2, h2))) (hlo : am_Lo base b mt.2.2.1 ls sl) (hst : am_rgS st) (hr : am_Rp base b D dA s n0 z0 h H locs cells slots) (kk : am_KK p l e R s m args below meth c Q mt base b n0 z0 D dA pc2 ls2 st2 h2) : W p l e R s m args below meth c H locs cells slots Q (F0 m pc sl (st.map (am_re base b))) := by
  obtain ⟨v, r, e1, g, e⟩ := am_store_i hx
  cases e
  subst e1
  refine lv_istore_n (lv := am_as base b 0 ls) (nL := mt.2.2.1) C.1 C.2.1 hd rfl hlo.1 (by rw [← hlo.2.1]; exact g) rfl (fun sl2 hl2 => ?_)
  exact kk sl2 H locs cells slots (hlo.st1 (v := .inl v) (fun x q => by cases q; exact am_rgS_h hst) hl2) (am_rgS_t hst) hr
theorem am_w_istore {a : Nat} (C : am_Cx p s m args meth c mt) (hd : decode mt.2.1 pc = .ok (.istore a, 2)) (hx : am_next mt (.istore a) 2 pc ls st h = some (.inl (pc2, ls2, st2, h2))) (hlo : am_Lo base b mt.2.2.1 ls sl) (hst : am_rgS st) (hr : am_Rp base b D dA s n0 z0 h H locs cells slots) (kk : am_KK p l e R s m args below meth c Q mt base b n0 z0 D dA pc2 ls2 st2 h2) : W p l e R s m args below meth c H locs cells slots Q (F0 m pc sl (st.map (am_re base b))) := by
  obtain ⟨v, r, e1, g, e⟩ := am_store_i hx
  cases e
  subst e1
  refine lv_istore (lv := am_as base b 0 ls) (nL := mt.2.2.1) C.1 C.2.1 hd hlo.1 (by rw [← hlo.2.1]; exact g) rfl (fun sl2 hl2 => ?_)
  exact kk sl2 H locs cells slots (hlo.st1 (v := .inl v) (fun x q => by cases q; exact am_rgS_h hst) hl2) (am_rgS_t hst) hr
theorem am_w_lstore_n {a : Fin 4} (C : am_Cx p s m args meth c mt) (hd : decode mt.2.1 pc = .ok (.lstore_n a, 1)) (hx : am_next mt (.lstore_n a) 1 pc ls st h = some (.inl (pc2, ls2, st2, h2))) (hlo : am_Lo base b mt.2.2.1 ls sl) (hst : am_rgS st) (hr : am_Rp base b D dA s n0 z0 h H locs cells slots) (kk : am_KK p l e R s m args below meth c Q mt base b n0 z0 D dA pc2 ls2 st2 h2) : W p l e R s m args below meth c H locs cells slots Q (F0 m pc sl (st.map (am_re base b))) := by
  obtain ⟨v, r, e1, g, e⟩ := am_store_l hx
  cases e
  subst e1
  refine lv_lstore_n (lv := am_as base b 0 ls) (nL := mt.2.2.1) C.1 C.2.1 hd rfl hlo.1 (by rw [← hlo.2.1]; exact g) rfl (fun sl2 hl2 => ?_)
  exact kk sl2 H locs cells slots (hlo.st2 (v := .inr (.inl v)) g (fun x q => by cases q) hl2) (am_rgS_t hst) hr
theorem am_w_lstore {a : Nat} (C : am_Cx p s m args meth c mt) (hd : decode mt.2.1 pc = .ok (.lstore a, 2)) (hx : am_next mt (.lstore a) 2 pc ls st h = some (.inl (pc2, ls2, st2, h2))) (hlo : am_Lo base b mt.2.2.1 ls sl) (hst : am_rgS st) (hr : am_Rp base b D dA s n0 z0 h H locs cells slots) (kk : am_KK p l e R s m args below meth c Q mt base b n0 z0 D dA pc2 ls2 st2 h2) : W p l e R s m args below meth c H locs cells slots Q (F0 m pc sl (st.map (am_re base b))) := by
  obtain ⟨v, r, e1, g, e⟩ := am_store_l hx
  cases e
  subst e1
  refine lv_lstore (lv := am_as base b 0 ls) (nL := mt.2.2.1) C.1 C.2.1 hd hlo.1 (by rw [← hlo.2.1]; exact g) rfl (fun sl2 hl2 => ?_)
  exact kk sl2 H locs cells slots (hlo.st2 (v := .inr (.inl v)) g (fun x q => by cases q) hl2) (am_rgS_t hst) hr
theorem am_w_astore_n {a : Fin 4} (C : am_Cx p s m args meth c mt) (hd : decode mt.2.1 pc = .ok (.astore_n a, 1)) (hx : am_next mt (.astore_n a) 1 pc ls st h = some (.inl (pc2, ls2, st2, h2))) (hlo : am_Lo base b mt.2.2.1 ls sl) (hst : am_rgS st) (hr : am_Rp base b D dA s n0 z0 h H locs cells slots) (kk : am_KK p l e R s m args below meth c Q mt base b n0 z0 D dA pc2 ls2 st2 h2) : W p l e R s m args below meth c H locs cells slots Q (F0 m pc sl (st.map (am_re base b))) := by
  obtain ⟨v, r, e1, g, e⟩ := am_store_a hx
  cases e
  subst e1
  refine lv_astore_n (lv := am_as base b 0 ls) (nL := mt.2.2.1) C.1 C.2.1 hd rfl hlo.1 (by rw [← hlo.2.1]; exact g) rfl (fun sl2 hl2 => ?_)
  exact kk sl2 H locs cells slots (hlo.st1 (v := .inr (.inr (some v))) (fun x q => by cases q) hl2) (am_rgS_t hst) hr
theorem am_w_astore {a : Nat} (C : am_Cx p s m args meth c mt) (hd : decode mt.2.1 pc = .ok (.astore a, 2)) (hx : am_next mt (.astore a) 2 pc ls st h = some (.inl (pc2, ls2, st2, h2))) (hlo : am_Lo base b mt.2.2.1 ls sl) (hst : am_rgS st) (hr : am_Rp base b D dA s n0 z0 h H locs cells slots) (kk : am_KK p l e R s m args below meth c Q mt base b n0 z0 D dA pc2 ls2 st2 h2) : W p l e R s m args below meth c H locs cells slots Q (F0 m pc sl (st.map (am_re base b))) := by
  obtain ⟨v, r, e1, g, e⟩ := am_store_a hx
  cases e
  subst e1
  refine lv_astore (lv := am_as base b 0 ls) (nL := mt.2.2.1) C.1 C.2.1 hd hlo.1 (by rw [← hlo.2.1]; exact g) rfl (fun sl2 hl2 => ?_)
  exact kk sl2 H locs cells slots (hlo.st1 (v := .inr (.inr (some v))) (fun x q => by cases q) hl2) (am_rgS_t hst) hr
theorem am_w_iinc {a : Nat} {v : Int} (C : am_Cx p s m args meth c mt) (hd : decode mt.2.1 pc = .ok (.iinc a v, 3)) (hx : am_next mt (.iinc a v) 3 pc ls st h = some (.inl (pc2, ls2, st2, h2))) (hlo : am_Lo base b mt.2.2.1 ls sl) (hst : am_rgS st) (hr : am_Rp base b D dA s n0 z0 h H locs cells slots) (kk : am_KK p l e R s m args below meth c Q mt base b n0 z0 D dA pc2 ls2 st2 h2) : W p l e R s m args below meth c H locs cells slots Q (F0 m pc sl (st.map (am_re base b))) := by
  simp only [am_next, am_go] at hx
  split at hx
  · next x g =>
    split at hx
    · next g2 =>
      cases hx
      obtain ⟨k, hk⟩ := List.getElem?_of_mem (am_as_get (base := base) (b := b) ls 0 a _ g)
      rw [Nat.zero_add] at hk
      refine lv_iinc (lv := am_as base b 0 ls) (nL := mt.2.2.1) (v := Int32.ofInt (am_wr (x + v))) C.1 C.2.1 hd hlo.1 hk (by rw [am_wr_of, Int32.ofInt_add]) (by rw [← hlo.2.1]; exact g2) rfl (fun sl2 hl2 => ?_)
      exact kk sl2 H locs cells slots (hlo.st1 (v := .inl (am_wr (x + v))) (fun y q => by cases q; exact am_wr_rg _) hl2) hst hr
    · cases hx
  · cases hx
theorem am_w_iadd  (C : am_Cx p s m args meth c mt) (hd : decode mt.2.1 pc = .ok (.iadd, 1)) (hx : am_next mt (.iadd) 1 pc ls st h = some (.inl (pc2, ls2, st2, h2))) (hlo : am_Lo base b mt.2.2.1 ls sl) (hst : am_rgS st) (hr : am_Rp base b D dA s n0 z0 h H locs cells slots) (kk : am_KK p l e R s m args below meth c Q mt base b n0 z0 D dA pc2 ls2 st2 h2) : W p l e R s m args below meth c H locs cells slots Q (F0 m pc sl (st.map (am_re base b))) := by
  simp only [am_next, am_bin, am_go] at hx
  split at hx
  · next y x r =>
    cases hx
    refine lv_iadd C.1 C.2.1 hd ?_
    have q := kk sl H locs cells slots hlo (am_rgS_c (am_wr_rg (x + y)) (am_rgS_t (am_rgS_t hst))) hr
    have q2 : (am_re base b (.inl (am_wr (x + y)))) = .int (Int32.ofInt x + Int32.ofInt y) := by simp only [am_re, am_wr_of, Int32.ofInt_add]
    rw [List.map_cons, q2] at q
    exact q
  · cases hx
theorem am_w_isub  (C : am_Cx p s m args meth c mt) (hd : decode mt.2.1 pc = .ok (.isub, 1)) (hx : am_next mt (.isub) 1 pc ls st h = some (.inl (pc2, ls2, st2, h2))) (hlo : am_Lo base b mt.2.2.1 ls sl) (hst : am_rgS st) (hr : am_Rp base b D dA s n0 z0 h H locs cells slots) (kk : am_KK p l e R s m args below meth c Q mt base b n0 z0 D dA pc2 ls2 st2 h2) : W p l e R s m args below meth c H locs cells slots Q (F0 m pc sl (st.map (am_re base b))) := by
  simp only [am_next, am_bin, am_go] at hx
  split at hx
  · next y x r =>
    cases hx
    refine lv_isub C.1 C.2.1 hd ?_
    have q := kk sl H locs cells slots hlo (am_rgS_c (am_wr_rg (x - y)) (am_rgS_t (am_rgS_t hst))) hr
    have q2 : (am_re base b (.inl (am_wr (x - y)))) = .int (Int32.ofInt x - Int32.ofInt y) := by simp only [am_re, am_wr_of, Int32.ofInt_sub]
    rw [List.map_cons, q2] at q
    exact q
  · cases hx
theorem am_w_imul  (C : am_Cx p s m args meth c mt) (hd : decode mt.2.1 pc = .ok (.imul, 1)) (hx : am_next mt (.imul) 1 pc ls st h = some (.inl (pc2, ls2, st2, h2))) (hlo : am_Lo base b mt.2.2.1 ls sl) (hst : am_rgS st) (hr : am_Rp base b D dA s n0 z0 h H locs cells slots) (kk : am_KK p l e R s m args below meth c Q mt base b n0 z0 D dA pc2 ls2 st2 h2) : W p l e R s m args below meth c H locs cells slots Q (F0 m pc sl (st.map (am_re base b))) := by
  simp only [am_next, am_bin, am_go] at hx
  split at hx
  · next y x r =>
    cases hx
    refine lv_imul C.1 C.2.1 hd ?_
    have q := kk sl H locs cells slots hlo (am_rgS_c (am_wr_rg (x * y)) (am_rgS_t (am_rgS_t hst))) hr
    have q2 : (am_re base b (.inl (am_wr (x * y)))) = .int (Int32.ofInt x * Int32.ofInt y) := by simp only [am_re, am_wr_of, Int32.ofInt_mul]
    rw [List.map_cons, q2] at q
    exact q
  · cases hx
theorem am_w_iand  (C : am_Cx p s m args meth c mt) (hd : decode mt.2.1 pc = .ok (.iand, 1)) (hx : am_next mt (.iand) 1 pc ls st h = some (.inl (pc2, ls2, st2, h2))) (hlo : am_Lo base b mt.2.2.1 ls sl) (hst : am_rgS st) (hr : am_Rp base b D dA s n0 z0 h H locs cells slots) (kk : am_KK p l e R s m args below meth c Q mt base b n0 z0 D dA pc2 ls2 st2 h2) : W p l e R s m args below meth c H locs cells slots Q (F0 m pc sl (st.map (am_re base b))) := by
  simp only [am_next, am_bin, am_go] at hx
  split at hx
  · next y x r =>
    cases hx
    refine lv_iand C.1 C.2.1 hd ?_
    have q := kk sl H locs cells slots hlo (am_rgS_c (am_rg_to (Int32.ofInt x &&& Int32.ofInt y)) (am_rgS_t (am_rgS_t hst))) hr
    have q2 : (am_re base b (.inl (Int32.ofInt x &&& Int32.ofInt y).toInt)) = .int (Int32.ofInt x &&& Int32.ofInt y) := by simp only [am_re, Int32.ofInt_toInt]
    rw [List.map_cons, q2] at q
    exact q
  · cases hx
theorem am_w_ior  (C : am_Cx p s m args meth c mt) (hd : decode mt.2.1 pc = .ok (.ior, 1)) (hx : am_next mt (.ior) 1 pc ls st h = some (.inl (pc2, ls2, st2, h2))) (hlo : am_Lo base b mt.2.2.1 ls sl) (hst : am_rgS st) (hr : am_Rp base b D dA s n0 z0 h H locs cells slots) (kk : am_KK p l e R s m args below meth c Q mt base b n0 z0 D dA pc2 ls2 st2 h2) : W p l e R s m args below meth c H locs cells slots Q (F0 m pc sl (st.map (am_re base b))) := by
  simp only [am_next, am_bin, am_go] at hx
  split at hx
  · next y x r =>
    cases hx
    refine lv_ior C.1 C.2.1 hd ?_
    have q := kk sl H locs cells slots hlo (am_rgS_c (am_rg_to (Int32.ofInt x ||| Int32.ofInt y)) (am_rgS_t (am_rgS_t hst))) hr
    have q2 : (am_re base b (.inl (Int32.ofInt x ||| Int32.ofInt y).toInt)) = .int (Int32.ofInt x ||| Int32.ofInt y) := by simp only [am_re, Int32.ofInt_toInt]
    rw [List.map_cons, q2] at q
    exact q
  · cases hx
theorem am_w_ishl  (C : am_Cx p s m args meth c mt) (hd : decode mt.2.1 pc = .ok (.ishl, 1)) (hx : am_next mt (.ishl) 1 pc ls st h = some (.inl (pc2, ls2, st2, h2))) (hlo : am_Lo base b mt.2.2.1 ls sl) (hst : am_rgS st) (hr : am_Rp base b D dA s n0 z0 h H locs cells slots) (kk : am_KK p l e R s m args below meth c Q mt base b n0 z0 D dA pc2 ls2 st2 h2) : W p l e R s m args below meth c H locs cells slots Q (F0 m pc sl (st.map (am_re base b))) := by
  simp only [am_next, am_bin, am_go] at hx
  split at hx
  · next y x r =>
    cases hx
    refine lv_ishl C.1 C.2.1 hd ?_
    have q := kk sl H locs cells slots hlo (am_rgS_c (am_rg_to (Int32.ofInt x <<< (Int32.ofInt y &&& 31))) (am_rgS_t (am_rgS_t hst))) hr
    have q2 : (am_re base b (.inl (Int32.ofInt x <<< (Int32.ofInt y &&& 31)).toInt)) = .int (Int32.ofInt x <<< (Int32.ofInt y &&& 31)) := by simp only [am_re, Int32.ofInt_toInt]
    rw [List.map_cons, q2] at q
    exact q
  · cases hx
theorem am_w_ishr  (C : am_Cx p s m args meth c mt) (hd : decode mt.2.1 pc = .ok (.ishr, 1)) (hx : am_next mt (.ishr) 1 pc ls st h = some (.inl (pc2, ls2, st2, h2))) (hlo : am_Lo base b mt.2.2.1 ls sl) (hst : am_rgS st) (hr : am_Rp base b D dA s n0 z0 h H locs cells slots) (kk : am_KK p l e R s m args below meth c Q mt base b n0 z0 D dA pc2 ls2 st2 h2) : W p l e R s m args below meth c H locs cells slots Q (F0 m pc sl (st.map (am_re base b))) := by
  simp only [am_next, am_bin, am_go] at hx
  split at hx
  · next y x r =>
    cases hx
    refine lv_ishr C.1 C.2.1 hd ?_
    have q := kk sl H locs cells slots hlo (am_rgS_c (am_rg_to (Int32.ofInt x >>> (Int32.ofInt y &&& 31))) (am_rgS_t (am_rgS_t hst))) hr
    have q2 : (am_re base b (.inl (Int32.ofInt x >>> (Int32.ofInt y &&& 31)).toInt)) = .int (Int32.ofInt x >>> (Int32.ofInt y &&& 31)) := by simp only [am_re, Int32.ofInt_toInt]
    rw [List.map_cons, q2] at q
    exact q
  · cases hx
theorem am_w_ladd  (C : am_Cx p s m args meth c mt) (hd : decode mt.2.1 pc = .ok (.ladd, 1)) (hx : am_next mt (.ladd) 1 pc ls st h = some (.inl (pc2, ls2, st2, h2))) (hlo : am_Lo base b mt.2.2.1 ls sl) (hst : am_rgS st) (hr : am_Rp base b D dA s n0 z0 h H locs cells slots) (kk : am_KK p l e R s m args below meth c Q mt base b n0 z0 D dA pc2 ls2 st2 h2) : W p l e R s m args below meth c H locs cells slots Q (F0 m pc sl (st.map (am_re base b))) := by
  simp only [am_next, am_binL, am_go] at hx
  split at hx
  · next y x r =>
    cases hx
    refine lv_ladd C.1 C.2.1 hd ?_
    exact kk sl H locs cells slots hlo (am_rgS_l (am_rgS_t (am_rgS_t hst))) hr
  · cases hx
theorem am_w_lsub  (C : am_Cx p s m args meth c mt) (hd : decode mt.2.1 pc = .ok (.lsub, 1)) (hx : am_next mt (.lsub) 1 pc ls st h = some (.inl (pc2, ls2, st2, h2))) (hlo : am_Lo base b mt.2.2.1 ls sl) (hst : am_rgS st) (hr : am_Rp base b D dA s n0 z0 h H locs cells slots) (kk : am_KK p l e R s m args below meth c Q mt base b n0 z0 D dA pc2 ls2 st2 h2) : W p l e R s m args below meth c H locs cells slots Q (F0 m pc sl (st.map (am_re base b))) := by
  simp only [am_next, am_binL, am_go] at hx
  split at hx
  · next y x r =>
    cases hx
    refine lv_lsub C.1 C.2.1 hd ?_
    exact kk sl H locs cells slots hlo (am_rgS_l (am_rgS_t (am_rgS_t hst))) hr
  · cases hx
theorem am_w_lmul  (C : am_Cx p s m args meth c mt) (hd : decode mt.2.1 pc = .ok (.lmul, 1)) (hx : am_next mt (.lmul) 1 pc ls st h = some (.inl (pc2, ls2, st2, h2))) (hlo : am_Lo base b mt.2.2.1 ls sl) (hst : am_rgS st) (hr : am_Rp base b D dA s n0 z0 h H locs cells slots) (kk : am_KK p l e R s m args below meth c Q mt base b n0 z0 D dA pc2 ls2 st2 h2) : W p l e R s m args below meth c H locs cells slots Q (F0 m pc sl (st.map (am_re base b))) := by
  simp only [am_next, am_binL, am_go] at hx
  split at hx
  · next y x r =>
    cases hx
    refine lv_lmul C.1 C.2.1 hd ?_
    exact kk sl H locs cells slots hlo (am_rgS_l (am_rgS_t (am_rgS_t hst))) hr
  · cases hx
theorem am_w_ldiv  (C : am_Cx p s m args meth c mt) (hd : decode mt.2.1 pc = .ok (.ldiv, 1)) (hx : am_next mt (.ldiv) 1 pc ls st h = some (.inl (pc2, ls2, st2, h2))) (hlo : am_Lo base b mt.2.2.1 ls sl) (hst : am_rgS st) (hr : am_Rp base b D dA s n0 z0 h H locs cells slots) (kk : am_KK p l e R s m args below meth c Q mt base b n0 z0 D dA pc2 ls2 st2 h2) : W p l e R s m args below meth c H locs cells slots Q (F0 m pc sl (st.map (am_re base b))) := by
  simp only [am_next, am_go] at hx
  split at hx
  · next y x r =>
    split at hx
    · cases hx
    · next g =>
      cases hx
      refine lv_ldiv C.1 C.2.1 hd g ?_
      exact kk sl H locs cells slots hlo (am_rgS_l (am_rgS_t (am_rgS_t hst))) hr
  · cases hx
theorem am_w_lcmp  (C : am_Cx p s m args meth c mt) (hd : decode mt.2.1 pc = .ok (.lcmp, 1)) (hx : am_next mt (.lcmp) 1 pc ls st h = some (.inl (pc2, ls2, st2, h2))) (hlo : am_Lo base b mt.2.2.1 ls sl) (hst : am_rgS st) (hr : am_Rp base b D dA s n0 z0 h H locs cells slots) (kk : am_KK p l e R s m args below meth c Q mt base b n0 z0 D dA pc2 ls2 st2 h2) : W p l e R s m args below meth c H locs cells slots Q (F0 m pc sl (st.map (am_re base b))) := by
  simp only [am_next, am_go] at hx
  split at hx
  · next y x r =>
    cases hx
    refine W.lcmp C.1 C.2.1 hd ?_
    have q := kk sl H locs cells slots hlo (am_rgS_c (am_rg_to (lg_cmp x y)) (am_rgS_t (am_rgS_t hst))) hr
    have q2 : (am_re base b (.inl (lg_cmp x y).toInt)) = .int (lg_cmp x y) := by simp only [am_re, Int32.ofInt_toInt]
    rw [List.map_cons, q2] at q
    exact q
  · cases hx
theorem am_w_i2l  (C : am_Cx p s m args meth c mt) (hd : decode mt.2.1 pc = .ok (.i2l, 1)) (hx : am_next mt (.i2l) 1 pc ls st h = some (.inl (pc2, ls2, st2, h2))) (hlo : am_Lo base b mt.2.2.1 ls sl) (hst : am_rgS st) (hr : am_Rp base b D dA s n0 z0 h H locs cells slots) (kk : am_KK p l e R s m args below meth c Q mt base b n0 z0 D dA pc2 ls2 st2 h2) : W p l e R s m args below meth c H locs cells slots Q (F0 m pc sl (st.map (am_re base b))) := by
  simp only [am_next, am_go] at hx
  split at hx
  · next x r =>
    cases hx
    refine lv_i2l C.1 C.2.1 hd rfl ?_
    exact kk sl H locs cells slots hlo (am_rgS_l (am_rgS_t hst)) hr
  · cases hx
theorem am_w_dup  (C : am_Cx p s m args meth c mt) (hd : decode mt.2.1 pc = .ok (.dup, 1)) (hx : am_next mt (.dup) 1 pc ls st h = some (.inl (pc2, ls2, st2, h2))) (hlo : am_Lo base b mt.2.2.1 ls sl) (hst : am_rgS st) (hr : am_Rp base b D dA s n0 z0 h H locs cells slots) (kk : am_KK p l e R s m args below meth c Q mt base b n0 z0 D dA pc2 ls2 st2 h2) : W p l e R s m args below meth c H locs cells slots Q (F0 m pc sl (st.map (am_re base b))) := by
  simp only [am_next, am_go] at hx
  split at hx
  · next x r =>
    split at hx
    · cases hx
    · next g =>
      cases hx
      refine lv_dup C.1 C.2.1 hd (by rw [am_re_cat]; simp [g]) ?_
      exact kk sl H locs cells slots hlo (fun y hy => hst y (by simp at hy ⊢; exact hy)) hr
  · cases hx
theorem am_w_pop  (C : am_Cx p s m args meth c mt) (hd : decode mt.2.1 pc = .ok (.pop, 1)) (hx : am_next mt (.pop) 1 pc ls st h = some (.inl (pc2, ls2, st2, h2))) (hlo : am_Lo base b mt.2.2.1 ls sl) (hst : am_rgS st) (hr : am_Rp base b D dA s n0 z0 h H locs cells slots) (kk : am_KK p l e R s m args below meth c Q mt base b n0 z0 D dA pc2 ls2 st2 h2) : W p l e R s m args below meth c H locs cells slots Q (F0 m pc sl (st.map (am_re base b))) := by
  simp only [am_next, am_go] at hx
  split at hx
  · next x r =>
    split at hx
    · cases hx
    · next g =>
      cases hx
      refine lv_pop C.1 C.2.1 hd (by rw [am_re_cat]; simp [g]) ?_
      exact kk sl H locs cells slots hlo (am_rgS_t hst) hr
  · cases hx
theorem am_w_dup_x1  (C : am_Cx p s m args meth c mt) (hd : decode mt.2.1 pc = .ok (.dup_x1, 1)) (hx : am_next mt (.dup_x1) 1 pc ls st h = some (.inl (pc2, ls2, st2, h2))) (hlo : am_Lo base b mt.2.2.1 ls sl) (hst : am_rgS st) (hr : am_Rp base b D dA s n0 z0 h H locs cells slots) (kk : am_KK p l e R s m args below meth c Q mt base b n0 z0 D dA pc2 ls2 st2 h2) : W p l e R s m args below meth c H locs cells slots Q (F0 m pc sl (st.map (am_re base b))) := by
  simp only [am_next, am_go] at hx
  split at hx
  · next x y r =>
    split at hx
    · cases hx
    · next g =>
      cases hx
      have g1 : ¬ am_c2 x = true := fun z => g (Or.inl z)
      have g2 : ¬ am_c2 y = true := fun z => g (Or.inr z)
      refine lv_dup_x1 C.1 C.2.1 hd (by rw [am_re_cat]; simp [g1]) (by rw [am_re_cat]; simp [g2]) ?_
      exact kk sl H locs cells slots hlo (fun z hz => hst z (by simp at hz ⊢; rcases hz with w | w | w | w <;> simp [w])) hr
  · cases hx
theorem am_w_dup2  (C : am_Cx p s m args meth c mt) (hd : decode mt.2.1 pc = .ok (.dup2, 1)) (hx : am_next mt (.dup2) 1 pc ls st h = some (.inl (pc2, ls2, st2, h2))) (hlo : am_Lo base b mt.2.2.1 ls sl) (hst : am_rgS st) (hr : am_Rp base b D dA s n0 z0 h H locs cells slots) (kk : am_KK p l e R s m args below meth c Q mt base b n0 z0 D dA pc2 ls2 st2 h2) : W p l e R s m args below meth c H locs cells slots Q (F0 m pc sl (st.map (am_re base b))) := by
  simp only [am_next, am_go] at hx
  split at hx
  · next x y r =>
    split at hx
    · cases hx
    · next g =>
      cases hx
      have g1 : ¬ am_c2 x = true := fun z => g (Or.inl z)
      have g2 : ¬ am_c2 y = true := fun z => g (Or.inr z)
      refine lv_dup2_11 C.1 C.2.1 hd (by rw [am_re_cat]; simp [g1]) (by rw [am_re_cat]; simp [g2]) ?_
      exact kk sl H locs cells slots hlo (fun z hz => hst z (by simp at hz ⊢; rcases hz with w | w | w | w | w <;> simp [w])) hr
  · cases hx
end AMW
