/-! The kinds of calls. -/
theorem am_lnk {mt : am_M} (hm : mt ∈ am_ml) {i k j n : Nat} (h : am_lk am_mk (am_key mt.2.2.2.2 i) = some (k, j, n)) :
    (k = 4 → Cond.methodLink mt.1.cls i objectInit ∈ am_tb ∧ n = 0) ∧ (k = 5 → Cond.methodLink mt.1.cls i Lib.Math.max.name ∈ am_tb ∧ n = 2) ∧
    (k < 4 → ∃ m2 : am_M, am_ml[j]? = some m2 ∧ m2.2.2.2.2 ≠ 10 ∧ (parseMethodDescriptor m2.1.desc).map (fun d => d.parameters.length) = some n ∧
      (k = 0 → Cond.methodLink mt.1.cls i m2.1 ∈ am_tb ∧ Cond.instanceMethod m2.1 ∈ am_tb ∧ Cond.selects m2.1.cls m2.1 m2.1 ∈ am_tb ∧ (am_cl[m2.2.2.2.2]?).map (fun q => q.1) = some m2.1.cls) ∧
      (k = 1 → Cond.methodLink mt.1.cls i m2.1 ∈ am_tb ∧ Cond.static m2.1 ∈ am_tb) ∧
      (k = 2 → Cond.methodLink mt.1.cls i m2.1 ∈ am_tb ∧ Cond.instanceMethod m2.1 ∈ am_tb ∧ m2.1.name = "<init>" ∧ m2.2.2.2.1 = none) ∧
      (k = 3 → mt.1.cls = "DictionaryTerms" ∧ ((i = 43 ∧ m2.1 = ⟨"DictionaryTerms$Values", "<init>", "()V"⟩) ∨ (i = 59 ∧ m2.1 = ⟨"DictionaryTerms$Report", "<init>", "()V"⟩)) ∧ Cond.instanceMethod m2.1 ∈ am_tb ∧ m2.1.name = "<init>" ∧ m2.2.2.2.1 = none)) := by
  have hmem := am_lk_mem _ _ _ h
  have hlt := List.all_eq_true.mp am_fl_lt.2.1 _ hmem
  simp only [decide_eq_true_eq] at hlt
  obtain ⟨e1, e2, e3⟩ := am_key_of rfl hlt
  obtain ⟨q, hq⟩ := am_zip_mem _ am_kp _ hmem am_all_l.1
  have h1 : am_okk (am_key mt.2.2.2.2 i, k, j, n) q = true := by
    rw [← List.take_append_drop 110 (am_mk.zip am_kp)] at hq
    rcases List.mem_append.mp hq with w | w
    · exact List.all_eq_true.mp am_all_k1 _ w
    · exact List.all_eq_true.mp am_all_k2 _ w
  unfold am_okk at h1
  simp only [e2, e3] at h1
  rw [(am_meth hm).2.2.2.1] at h1
  simp only at h1
  by_cases k4 : k = 4
  · subst k4
    rw [if_pos rfl] at h1
    simp only [Bool.and_eq_true, decide_eq_true_eq] at h1
    exact ⟨fun _ => ⟨am_in_tb (am_at_mem h1.1) rfl, h1.2⟩, fun w => by omega, fun w => by omega⟩
  rw [if_neg k4] at h1
  by_cases k5 : k = 5
  · subst k5
    rw [if_pos rfl] at h1
    simp only [Bool.and_eq_true, decide_eq_true_eq] at h1
    exact ⟨fun w => by omega, fun _ => ⟨am_in_tb (am_at_mem h1.1) rfl, h1.2⟩, fun w => by omega⟩
  rw [if_neg k5] at h1
  refine ⟨fun w => absurd w k4, fun w => absurd w k5, fun _ => ?_⟩
  rw [Bool.and_eq_true] at h1
  obtain ⟨-, h1⟩ := h1
  split at h1
  · next m2 hm2 =>
    rw [Bool.and_eq_true, Bool.and_eq_true, decide_eq_true_eq, decide_eq_true_eq] at h1
    obtain ⟨⟨g1, g2⟩, g3⟩ := h1
    refine ⟨m2, hm2, g2, g1, fun w => ?_, fun w => ?_, fun w => ?_, fun w => ?_⟩
    · subst w
      simp only [Bool.and_eq_true, decide_eq_true_eq] at g3
      exact ⟨am_in_tb (am_at_mem g3.1.1.1) rfl, am_in_tb (am_at_mem g3.1.1.2) rfl, am_in_tb (am_at_mem g3.1.2) rfl, g3.2⟩
    · subst w
      simp only [Bool.and_eq_true] at g3
      exact ⟨am_in_tb (am_at_mem g3.1) rfl, am_in_tb (am_at_mem g3.2) rfl⟩
    · subst w
      simp only [Bool.and_eq_true, decide_eq_true_eq] at g3
      exact ⟨am_in_tb (am_at_mem g3.1.1.1) rfl, am_in_tb (am_at_mem g3.1.1.2) rfl, g3.1.2, g3.2⟩
    · subst w
      simp only [Bool.and_eq_true, Bool.or_eq_true, decide_eq_true_eq] at g3
      exact ⟨g3.1.1.1.1.1, g3.1.1.1.1.2, am_in_tb (am_at_mem g3.1.1.2) rfl, g3.1.2, g3.2⟩
  · cases h1
theorem am_rgS_of {y r st : List am_V} (h : am_rgS st) (e : st = y.reverse ++ r) : am_rgS y ∧ am_rgS r := by
  subst e
  exact ⟨fun x hx => h x (List.mem_append_left _ (List.mem_reverse.mpr hx)), fun x hx => h x (List.mem_append_right _ hx)⟩
section AMI
variable {p : Program} {l : Launch} {e : Env} {R : Room} {s : State} {m : MethodId} {args : Array Value} {below : List Frame} {meth : Method} {c : Code} {mt m2 : am_M} {base b n0 z0 : Nat} {D : va_G} {dA : Nat → ClassId} {H : Heap} {locs : List Loc} {cells slots : Nat} {pc d mc ms j : Nat} {ls : am_Ls} {st as r : List am_V} {h h2 : am_H} {sl : Array Slot} {v : Option am_V}
theorem am_cB (C : am_Cx p s m args meth c mt) {i n : Nat} (hm2 : am_ml[j]? = some m2) (ho : m2.2.2.2.2 ≠ 10) (hn : (parseMethodDescriptor m2.1.desc).map (fun d => d.parameters.length) = some n) (hl : Cond.methodLink mt.1.cls i m2.1 ∈ am_tb) (hd1 : 1 ≤ d) (hR : d + 1 ≤ R.frames ∧ 37 * d + 22 ≤ R.locals) : CallB R s args mt.1.cls i m2.1 m2.2.1 m2.2.2.1 m2.2.2.2.1 (am_ws m2) (am_rm (d - 1) mc ms) mc ms n := by
  have hm9 := am_meth (List.mem_of_getElem? hm2)
  have hml := hm9.2.2.2.2.1
  exact callB_of n C.2.2.2.2.1 (am_good hm2 ho) rfl rfl rfl (C.2.2.2.2.1 _ hm9.2.2.2.2.2) (C.2.2.2.2.1 _ hl) ⟨hm9.2.1, hm9.2.2.1, hn⟩ ⟨by show d - 1 + 1 + 1 ≤ R.frames; omega, by show 8 + (m2.2.2.1 + 11) + (37 * (d - 1) + 22) ≤ R.locals; omega⟩
theorem am_invV (C : am_Cx p s m args meth c mt) (K : am_K D dA s) (hlo : am_Lo base b mt.2.2.1 ls sl) (hst : am_rgS st) (hr : am_Rp base b D dA s n0 z0 h H locs cells slots) {i n a : Nat} (hk : am_lk am_mk (am_key mt.2.2.2.2 i) = some (0, j, n)) (hm2 : am_ml[j]? = some m2) (hs : am_split n [] st = some (as, .inr (.inr (some a)) :: r)) (ha : h.1[a]? = some (m2.2.2.2.2 + 3, 0)) (a0 : a ≠ 0) (hw : am_words r ≤ 8)
    (hM : Met l m2.1 (am_ws m2) (am_rm (d - 1) mc ms) (am_Pc base b D dA (.inr (.inr (some a)) :: as) h) (am_Qc base b D dA v h2) mc ms (fun q => base < q)) (hd1 : 1 ≤ d) (hR : d + 1 ≤ R.frames ∧ 37 * d + 22 ≤ R.locals) (hd : decode mt.2.1 pc = .ok (.invokevirtual i, 3)) (hf : cells + mc ≤ R.cells ∧ slots + ms ≤ R.slots) :
    ∃ av, va_Run p l e R s m args below meth c H locs cells slots mc ms (F0 m pc sl (st.map (am_re base b))) (r.map (am_re base b)) (am_Qc base b D dA v h2 av) (fun q => base < q) := by
  obtain ⟨m3, hm3, ho, hn, w0, -⟩ := (am_lnk C.2.2.2.2.2.2.2 hk).2.2 (by omega)
  cases hm2.symm.trans hm3
  obtain ⟨hl, hi, hsel, hcl⟩ := w0 rfl
  obtain ⟨y, e1, e2, e3⟩ := am_split_eq _ _ _ _ _ hs
  rw [List.append_nil] at e1
  subst e1
  obtain ⟨g1, g2⟩ := am_rgS_of hst e2
  cases hc9 : am_cl[m2.2.2.2.2]? with
  | none => rw [hc9] at hcl; cases hcl
  | some q9 =>
    rw [hc9] at hcl
    have hq9 : q9.1 = m2.1.cls := Option.some.inj hcl
    have hv := am_one_w (show va_at D am_cl (base + a, .inr (m2.2.2.2.2, (List.range (am_nf m2.2.2.2.2)).map (am_fv base b m2.2.2.2.2 a h))) H from hr.1.2 a _ a0 ha)
    have hrec := va_recv K hv hc9 (q0 := 0) rfl
    rw [hq9] at hrec
    refine ⟨_, va_runV (b := base + a) (As := as.map (am_re base b)) (C := m2.1.cls) ⟨C.1, C.2.1, C.2.2.1, C.2.2.2.1, C.2.2.2.2.1⟩ hM ⟨am_cB C hm2 ho hn hl hd1 hR, C.2.2.2.2.1 _ hi, C.2.2.2.2.1 _ hsel⟩ ⟨am_blind, hrec, am_PcU K C.2.2.2.2.2.2.1 hr (am_rgS_r g1) ?_⟩ rfl (by rw [List.length_map]; exact e3) hlo.1.1 ?_ (lv_room (by rw [am_words_eq]; exact hw)) hd hf⟩
    · rw [List.map_cons, am_re_k a0]
    · show st.map (am_re base b) = _
      rw [e2, List.map_append, List.map_reverse, List.map_cons, am_re_k a0]
theorem am_invS (C : am_Cx p s m args meth c mt) (K : am_K D dA s) (hlo : am_Lo base b mt.2.2.1 ls sl) (hst : am_rgS st) (hr : am_Rp base b D dA s n0 z0 h H locs cells slots) {i n : Nat} (hk : am_lk am_mk (am_key mt.2.2.2.2 i) = some (1, j, n)) (hm2 : am_ml[j]? = some m2) (hs : am_split n [] st = some (as, r)) (hw : am_words r ≤ 8)
    (hM : Met l m2.1 (am_ws m2) (am_rm (d - 1) mc ms) (am_Pc base b D dA as h) (am_Qc base b D dA v h2) mc ms (fun q => base < q)) (hd1 : 1 ≤ d) (hR : d + 1 ≤ R.frames ∧ 37 * d + 22 ≤ R.locals) (hd : decode mt.2.1 pc = .ok (.invokestatic i, 3)) (hf : cells + mc ≤ R.cells ∧ slots + ms ≤ R.slots) :
    ∃ av, va_Run p l e R s m args below meth c H locs cells slots mc ms (F0 m pc sl (st.map (am_re base b))) (r.map (am_re base b)) (am_Qc base b D dA v h2 av) (fun q => base < q) := by
  obtain ⟨m3, hm3, ho, hn, -, w0, -⟩ := (am_lnk C.2.2.2.2.2.2.2 hk).2.2 (by omega)
  cases hm2.symm.trans hm3
  obtain ⟨hl, hi⟩ := w0 rfl
  obtain ⟨y, e1, e2, e3⟩ := am_split_eq _ _ _ _ _ hs
  rw [List.append_nil] at e1
  subst e1
  obtain ⟨g1, g2⟩ := am_rgS_of hst e2
  refine ⟨_, va_runS (As := as.map (am_re base b)) ⟨C.1, C.2.1, C.2.2.1, C.2.2.2.1, C.2.2.2.2.1⟩ hM ⟨am_cB C hm2 ho hn hl hd1 hR, C.2.2.2.2.1 _ hi⟩ ⟨am_blind, am_PcU K C.2.2.2.2.2.2.1 hr g1 rfl⟩ rfl (by rw [List.length_map]; exact e3) hlo.1.1 ?_ (lv_room (by rw [am_words_eq]; exact hw)) hd hf⟩
  show st.map (am_re base b) = _
  rw [e2, List.map_append, List.map_reverse]
theorem am_invI (C : am_Cx p s m args meth c mt) (K : am_K D dA s) (hlo : am_Lo base b mt.2.2.1 ls sl) (hst : am_rgS st) (hr : am_Rp base b D dA s n0 z0 h H locs cells slots) {i n a : Nat} (hk : am_lk am_mk (am_key mt.2.2.2.2 i) = some (2, j, n)) (hm2 : am_ml[j]? = some m2) (hs : am_split n [] st = some (as, .inr (.inr (some a)) :: r)) (hw : am_words r ≤ 8)
    (hM : Met l m2.1 (am_ws m2) (am_rm (d - 1) mc ms) (am_Pc base b D dA (.inr (.inr (some a)) :: as) h) (am_Qc base b D dA v h2) mc ms (fun q => base < q)) (hd1 : 1 ≤ d) (hR : d + 1 ≤ R.frames ∧ 37 * d + 22 ≤ R.locals) (hd : decode mt.2.1 pc = .ok (.invokespecial i, 3)) (hf : cells + mc ≤ R.cells ∧ slots + ms ≤ R.slots) :
    ∃ av, va_Run p l e R s m args below meth c H locs cells slots mc ms (F0 m pc sl (st.map (am_re base b))) (r.map (am_re base b)) (am_Qc base b D dA v h2 av) (fun q => base < q) := by
  obtain ⟨m3, hm3, ho, hn, -, -, w0, -⟩ := (am_lnk C.2.2.2.2.2.2.2 hk).2.2 (by omega)
  cases hm2.symm.trans hm3
  obtain ⟨hl, hi, hnm, hret⟩ := w0 rfl
  obtain ⟨y, e1, e2, e3⟩ := am_split_eq _ _ _ _ _ hs
  rw [List.append_nil] at e1
  subst e1
  obtain ⟨g1, g2⟩ := am_rgS_of hst e2
  have cb := am_cB (mc := mc) (ms := ms) C hm2 ho hn hl hd1 hR
  rw [hret] at cb
  refine ⟨_, va_runI (b := am_ad base b a) (As := as.map (am_re base b)) ⟨C.1, C.2.1, C.2.2.1, C.2.2.2.1, C.2.2.2.2.1⟩ hM ⟨cb, hnm, C.2.2.2.2.1 _ hi⟩ ⟨am_blind, am_PcU K C.2.2.2.2.2.2.1 hr (am_rgS_r g1) rfl⟩ rfl (by rw [List.length_map]; exact e3) hlo.1.1 ?_ (lv_room (by rw [am_words_eq]; exact hw)) hd hf⟩
  show st.map (am_re base b) = _
  rw [e2, List.map_append, List.map_reverse, List.map_cons]
  rfl
theorem am_invN (C : am_Cx p s m args meth c mt) (K : am_K D dA s) (hlo : am_Lo base b mt.2.2.1 ls sl) (hst : am_rgS st) (hr : am_Rp base b D dA s n0 z0 h H locs cells slots) {i n a : Nat} (hk : am_lk am_mk (am_key mt.2.2.2.2 i) = some (3, j, n)) (hm2 : am_ml[j]? = some m2) (hs : am_split n [] st = some (as, .inr (.inr (some a)) :: r)) (hw : am_words r ≤ 8)
    (hM : Met l m2.1 (am_ws m2) (am_rm (d - 1) mc ms) (am_Pc base b D dA (.inr (.inr (some a)) :: as) h) (am_Qc base b D dA v h2) mc ms (fun q => base < q)) (hd1 : 1 ≤ d) (hR : d + 1 ≤ R.frames ∧ 37 * d + 22 ≤ R.locals) (hd : decode mt.2.1 pc = .ok (.invokespecial i, 3)) (hf : cells + mc ≤ R.cells ∧ slots + ms ≤ R.slots) :
    ∃ av, va_Run p l e R s m args below meth c H locs cells slots mc ms (F0 m pc sl (st.map (am_re base b))) (r.map (am_re base b)) (am_Qc base b D dA v h2 av) (fun q => base < q) := by
  obtain ⟨m3, hm3, ho, hn, -, -, -, w0⟩ := (am_lnk C.2.2.2.2.2.2.2 hk).2.2 (by omega)
  cases hm2.symm.trans hm3
  obtain ⟨hcl, hwh, hi, hnm, hret⟩ := w0 rfl
  obtain ⟨y, e1, e2, e3⟩ := am_split_eq _ _ _ _ _ hs
  rw [List.append_nil] at e1
  subst e1
  obtain ⟨g1, g2⟩ := am_rgS_of hst e2
  have hnw : va_Nw (.methodLinkNest mt.1.cls i m2.1 "DictionaryTerms") s := by
    rw [hcl]
    rcases hwh with ⟨rfl, w⟩ | ⟨rfl, w⟩
    · rw [w]; exact C.2.2.2.2.2.2.1.1
    · rw [w]; exact C.2.2.2.2.2.2.1.2
  have hm9 := am_meth (List.mem_of_getElem? hm2)
  have hml := hm9.2.2.2.2.1
  have cb : va_CN R s args mt.1.cls i m2.1 "DictionaryTerms" m2.2.1 m2.2.2.1 m2.2.2.2.1 (am_ws m2) (am_rm (d - 1) mc ms) mc ms n :=
    va_cnB n C.2.2.2.2.1 (am_good hm2 ho) rfl rfl rfl hnw (C.2.2.2.2.1 _ hm9.2.2.2.2.2) ⟨hm9.2.1, hm9.2.2.1, hn⟩ ⟨by show d - 1 + 1 + 1 ≤ R.frames; omega, by show 8 + (m2.2.2.1 + 11) + (37 * (d - 1) + 22) ≤ R.locals; omega⟩
  rw [hret] at cb
  refine ⟨_, va_runIN (b := am_ad base b a) (As := as.map (am_re base b)) ⟨C.1, C.2.1, C.2.2.1, C.2.2.2.1, C.2.2.2.2.1⟩ hM ⟨cb, hnm, C.2.2.2.2.1 _ hi⟩ ⟨am_blind, am_PcU K C.2.2.2.2.2.2.1 hr (am_rgS_r g1) rfl⟩ rfl (by rw [List.length_map]; exact e3) hlo.1.1 ?_ (lv_room (by rw [am_words_eq]; exact hw)) hd hf⟩
  show st.map (am_re base b) = _
  rw [e2, List.map_append, List.map_reverse, List.map_cons]
  rfl
end AMI
