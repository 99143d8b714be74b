/-! The heap: reads, stores, new cells, over the cells' numbers. -/
def am_same (k : Nat) (h h' : am_H) : Prop := (∀ j, h'.2.1 k j = h.2.1 k j) ∧ (∀ j, h'.2.2.1 k j = h.2.2.1 k j) ∧ ∀ j, h'.2.2.2 k j = h.2.2.2 k j
theorem am_E_congr {dA : Nat → ClassId} {base b k : Nat} {h h' : am_H} (e : am_same k h h') (q : Nat × Nat) : am_E dA base b k h' q = am_E dA base b k h q := by
  obtain ⟨e1, e2, e3⟩ := e
  have hf : ∀ c f, am_fv base b c k h' f = am_fv base b c k h f := by
    intro c f
    unfold am_fv
    rw [e1, e2, e3]
  unfold am_E
  split
  · congr 3; congr 1; funext i; rw [e2]
  · congr 3; congr 1; congr 1; funext i; rw [e3]
  · congr 3; congr 1; funext i; rw [e2]
  · next c _ =>
    congr 2
    exact List.map_congr_left (fun f _ => hf c f)
theorem am_P.upd {base b k : Nat} {D : va_G} {dA : Nat → ClassId} {h h' : am_H} {H H' : Heap} (hP : am_P base b D dA h H) (hS : h'.1 = h.1) (hz : H'.size = H.size) (ho : ∀ q, q ≠ base + k → H'[q]? = H[q]?) (hE : ∀ k', k' ≠ k → am_same k' h h') (hk : ∀ q, h.1[k]? = some q → va_at D am_cl (base + k, am_E dA base b k h' q) H') : am_P base b D dA h' H' := by
  refine ⟨by rw [hz, hS]; exact hP.1, fun k' q h0 hq => ?_⟩
  rw [hS] at hq
  by_cases e : k' = k
  · subst e
    exact hk q hq
  · rw [am_E_congr (hE k' e)]
    exact (hP.2 k' q h0 hq).kept (ho _ (by show base + k' ≠ base + k; omega))
theorem am_P.push {base b : Nat} {D : va_G} {dA : Nat → ClassId} {h h' : am_H} {H H' : Heap} {q0 : Nat × Nat} (hP : am_P base b D dA h H) (hS : h'.1 = h.1 ++ [q0]) (hz : H'.size = H.size + 1) (ho : ∀ q, q < H.size → H'[q]? = H[q]?) (hE : ∀ k', k' < h.1.length → am_same k' h h') (hk : va_at D am_cl (H.size, am_E dA base b h.1.length h' q0) H') : am_P base b D dA h' H' := by
  refine ⟨by rw [hz, hS, hP.1]; simp; omega, fun k' q h0 hq => ?_⟩
  rw [hS] at hq
  by_cases e : k' < h.1.length
  · rw [List.getElem?_append_left e] at hq
    rw [am_E_congr (hE k' e)]
    have hv := hP.2 k' q h0 hq
    exact hv.kept (ho _ hv.lt)
  · have e2 : k' - h.1.length = 0 := by
      have := (List.getElem?_eq_some_iff.mp hq).1
      simp at this
      omega
    rw [List.getElem?_append_right (by omega), e2] at hq
    cases hq
    have e3 : k' = h.1.length := by omega
    subst e3
    rw [← hP.1]
    exact hk
def am_K (D : va_G) (dA : Nat → ClassId) (U : State) : Prop := va_K D am_cl [(dA 0, .int), (dA 1, .long), (dA 2, .boolean)] U
theorem am_K.moved {D : va_G} {dA : Nat → ClassId} {u U : State} (hvm : u.vm.Alike U.vm) (h : am_K D dA u) : am_K D dA U := va_K.moved hvm h
def am_tb : List Cond := lw_tbl.filter goodWord
theorem am_in_tb {w : Cond} (h : w ∈ lw_tbl) (hg : goodWord w = true) : w ∈ am_tb := List.mem_filter.mpr ⟨h, hg⟩
theorem am_at_mem {p : Nat} {w : Cond} (h : am_at p w = true) : w ∈ lw_tbl := by
  unfold am_at at h
  exact List.mem_of_getElem? (of_decide_eq_true h)
/-- the two links between nest mates -/
def am_Nst (U : State) : Prop := va_Nw (.methodLinkNest "DictionaryTerms" 43 ⟨"DictionaryTerms$Values", "<init>", "()V"⟩ "DictionaryTerms") U ∧ va_Nw (.methodLinkNest "DictionaryTerms" 59 ⟨"DictionaryTerms$Report", "<init>", "()V"⟩ "DictionaryTerms") U
def am_Cx (p : Program) (s : State) (m : MethodId) (args : Array Value) (meth : Method) (c : Code) (mt : am_M) : Prop :=
  p.tables.exec = Jvm.exec ∧ c.code = mt.2.1 ∧ c.maxLocals = mt.2.2.1 ∧ s.vm.findClass mt.1.cls = some m.cls ∧ (∀ w ∈ am_tb, w.before args s = true) ∧ (mt.1.name = "<init>" → meth.name = "<init>") ∧ am_Nst s ∧ mt ∈ am_ml
def am_Rp (base b : Nat) (D : va_G) (dA : Nat → ClassId) (s : State) (n0 z0 : Nat) (h : am_H) (H : Heap) (locs : List Loc) (cells slots : Nat) : Prop :=
  am_P base b D dA h H ∧ va_S (fun q => base < q) s.heap H locs ∧ cells + n0 = h.1.length ∧ slots + z0 = am_sz h.1 ∧ am_rgH h ∧ (∃ n, h.1[0]? = some (9, n)) ∧ base < s.heap.size
/-- what the tables say of a class -/
theorem am_cls {c : Nat} (hc : c < 10) : ∃ (C : String) (T : u_T) (N : Nat) (ty : Nat → FieldType), am_cl[c]? = some (C, T, N) ∧ am_nf c = N ∧ (∀ w ∈ u_ws C T N, w ∈ am_tb) ∧ Cond.instantiable C N ∈ am_tb ∧ Cond.initialized C ∈ am_tb ∧ (∀ f, f < N → parseFieldDescriptor (T f).2.2.1 = some (ty f) ∧ (T f).1 = C ∧ ((am_ft c f = 0 ∧ ty f = .int ∧ (T f).2.2.2 = false) ∨ (am_ft c f = 1 ∧ ty f = .long ∧ (T f).2.2.2 = false) ∨ (am_ft c f = 2 ∧ ((∃ n, ty f = .object n) ∨ ∃ t, ty f = .array t) ∧ (T f).2.2.2 = true))) ∧ (∀ a, a < N → ∀ b, b < N → a ≠ b → (T a).2.1 ≠ (T b).2.1) := by
  have h1 := List.all_eq_true.mp am_all_c c (List.mem_range.mpr hc)
  have h2 := List.all_eq_true.mp am_all_u c (List.mem_range.mpr hc)
  unfold am_okc at h1
  split at h1
  · next C T N ty ft e1 e2 e3 =>
    rw [e1] at h2
    simp only [Bool.and_eq_true, decide_eq_true_eq, List.all_eq_true, List.mem_range, Bool.or_eq_true] at h1 h2
    obtain ⟨⟨⟨⟨h3, h4⟩, h5⟩, h6⟩, h7⟩ := h1
    refine ⟨C, T, N, ty, e1, by rw [am_nf, e3]; exact h3, fun w hw => am_in_tb (h2 w hw) ?_, am_in_tb h4 rfl, am_in_tb h5 rfl, fun f hf => ?_, fun a ha b hb hne => (h7 a ha b hb).resolve_left hne⟩
    · obtain ⟨f, -, rfl⟩ := List.mem_map.mp hw
      unfold u_lay
      split <;> rfl
    · obtain ⟨⟨g1, g2⟩, g3⟩ := h6 f hf
      refine ⟨g1, g2, ?_⟩
      have hft : am_ft c f = (ft[f]?).getD 9 := by rw [am_ft, e3]; rfl
      rw [hft]
      split at g3
      · next q1 q2 q3 => rw [q1, q2, q3]; exact Or.inl ⟨rfl, rfl, rfl⟩
      · next q1 q2 q3 => rw [q1, q2, q3]; exact Or.inr (Or.inl ⟨rfl, rfl, rfl⟩)
      · next q1 q2 q3 => rw [q1, q2, q3]; exact Or.inr (Or.inr ⟨rfl, Or.inl ⟨_, rfl⟩, rfl⟩)
      · next q1 q2 q3 => rw [q1, q2, q3]; exact Or.inr (Or.inr ⟨rfl, Or.inr ⟨_, rfl⟩, rfl⟩)
      · cases g3
  · cases h1
theorem am_lk_mem {α : Type} : ∀ (l : List (Nat × α)) (k : Nat) (v : α), am_lk l k = some v → (k, v) ∈ l := by
  intro l
  induction l with
  | nil => intro k v h; cases h
  | cons a r ih =>
    intro k v h
    obtain ⟨a1, a2⟩ := a
    unfold am_lk at h
    split at h
    · next e => cases h; rw [e]; exact List.mem_cons_self
    · exact List.mem_cons_of_mem _ (ih k v h)
theorem am_zip_mem {α β : Type} : ∀ (l : List α) (r : List β) (a : α), a ∈ l → l.length = r.length → ∃ c, (a, c) ∈ l.zip r := by
  intro l
  induction l with
  | nil => intro r a h; cases h
  | cons z l ih =>
    intro r a h hl
    cases r with
    | nil => simp at hl
    | cons y r =>
      rcases List.mem_cons.mp h with rfl | h
      · exact ⟨y, by simp⟩
      · obtain ⟨c, hc⟩ := ih r a h (by simpa using hl)
        exact ⟨c, by simp [hc]⟩
theorem am_key_of {o i k : Nat} (h : am_key o i = k) (hk : k < 99999999) : i < 1000 ∧ k / 1000 = o ∧ k % 1000 = i := by
  unfold am_key at h
  split at h
  · omega
  · omega
theorem am_meth {mt : am_M} (h : mt ∈ am_ml) : plainName mt.1.cls = true ∧ mt.1.cls ≠ "java/lang/invoke/MethodHandle" ∧ mt.1.cls ≠ "java/lang/invoke/VarHandle" ∧ am_cn[mt.2.2.2.2]? = some mt.1.cls ∧ mt.2.2.1 ≤ 18 ∧ Cond.initialized mt.1.cls ∈ am_tb := by
  have h1 := List.all_eq_true.mp am_all_m mt h
  unfold am_okm at h1
  simp only [Bool.and_eq_true, decide_eq_true_eq] at h1
  obtain ⟨⟨⟨⟨h2, h3⟩, h4⟩, h5⟩, h6⟩ := h1
  have h7 := List.all_eq_true.mp am_all_i _ (List.mem_of_getElem? h5)
  exact ⟨h2, h3, h4, h5, h6, am_in_tb (of_decide_eq_true h7) rfl⟩
theorem am_fl_lt : am_fl.all (fun q => decide (q.1 < 99999999) && decide (q.2.1 < 10)) = true ∧ am_mk.all (fun q => decide (q.1 < 99999999)) = true ∧ am_ck.all (fun q => decide (q.1 < 99999999) && decide (q.2 < 10)) = true ∧ am_kk.all (fun q => decide (q.1 < 99999999)) = true := by decide +kernel
/-- a field's entry -/
theorem am_fld {mt : am_M} (hm : mt ∈ am_ml) {i c f : Nat} (h : am_lk am_fl (am_key mt.2.2.2.2 i) = some (c, f)) : c < 10 ∧ ∃ (C : String) (T : u_T) (N : Nat), am_cl[c]? = some (C, T, N) ∧ f < N ∧ Cond.fieldLink mt.1.cls i C (T f).2.1 (T f).2.2.1 ∈ am_tb := by
  have hmem := am_lk_mem _ _ _ h
  have hlt := List.all_eq_true.mp am_fl_lt.1 _ hmem
  simp only [Bool.and_eq_true, decide_eq_true_eq] at hlt
  obtain ⟨e1, e2, e3⟩ := am_key_of rfl hlt.1
  obtain ⟨p, hp⟩ := am_zip_mem _ am_fp _ hmem am_all_l.2.1
  have h1 := List.all_eq_true.mp am_all_f _ hp
  unfold am_okf at h1
  simp only [e2, e3] at h1
  rw [(am_meth hm).2.2.2.1] at h1
  split at h1
  · next own C T N q1 q2 =>
    cases q1
    simp only [Bool.and_eq_true, decide_eq_true_eq] at h1
    exact ⟨hlt.2, C, T, N, q2, h1.1, am_in_tb (am_at_mem h1.2) rfl⟩
  · cases h1
