/-! Locals: what a store keeps. -/
theorem am_st1_len (v : am_V) : ∀ (ls : am_Ls) (i : Nat), (am_st1 ls i v).length = ls.length := by
  intro ls
  induction ls with
  | nil => intro i; cases i <;> rfl
  | cons a r ih =>
    intro i
    match i with
    | 0 => rfl
    | 1 => exact congrArg (· + 1) (ih 0)
    | n + 2 => exact congrArg (· + 1) (ih (n + 1))
theorem am_st2_len (v : am_V) : ∀ (ls : am_Ls) (i : Nat), i + 1 < ls.length → (am_st2 ls i v).length = ls.length := by
  intro ls
  induction ls with
  | nil => intro i h; simp at h
  | cons a r ih =>
    intro i h
    match i, h with
    | 0, h =>
      cases r with
      | nil => simp at h
      | cons a2 r => rfl
    | 1, h =>
      cases r with
      | nil => simp at h
      | cons a2 r => exact congrArg (· + 1) (ih 0 (by simpa using h))
    | n + 2, h =>
      cases r with
      | nil => simp at h
      | cons a2 r => exact congrArg (· + 1) (ih (n + 1) (by simp at h ⊢; omega))
theorem am_c1_sub {a : Option am_V} {w : am_V} (h : am_c1 a = some w) : a = some w := by
  unfold am_c1 at h
  split at h
  · cases h
  · exact h
theorem am_st1_mem (v : am_V) : ∀ (ls : am_Ls) (i : Nat) (w : am_V), some w ∈ am_st1 ls i v → w = v ∨ some w ∈ ls := by
  intro ls
  induction ls with
  | nil => intro i w h; cases i <;> cases h
  | cons a r ih =>
    intro i w h
    match i, h with
    | 0, h =>
      rcases List.mem_cons.mp (show some w ∈ some v :: r from h) with h9 | h9
      · exact Or.inl (Option.some.inj h9)
      · exact Or.inr (List.mem_cons_of_mem _ h9)
    | 1, h =>
      rcases List.mem_cons.mp (show some w ∈ am_c1 a :: am_st1 r 0 v from h) with h9 | h9
      · exact Or.inr (by rw [am_c1_sub h9.symm]; exact List.mem_cons_self)
      · rcases ih 0 w h9 with h8 | h8
        · exact Or.inl h8
        · exact Or.inr (List.mem_cons_of_mem _ h8)
    | n + 2, h =>
      rcases List.mem_cons.mp (show some w ∈ a :: am_st1 r (n + 1) v from h) with h9 | h9
      · exact Or.inr (by rw [h9]; exact List.mem_cons_self)
      · rcases ih (n + 1) w h9 with h8 | h8
        · exact Or.inl h8
        · exact Or.inr (List.mem_cons_of_mem _ h8)
theorem am_st2_mem (v : am_V) : ∀ (ls : am_Ls) (i : Nat) (w : am_V), some w ∈ am_st2 ls i v → w = v ∨ some w ∈ ls := by
  intro ls
  induction ls with
  | nil => intro i w h; cases i <;> cases h
  | cons a r ih =>
    intro i w h
    match i, h with
    | 0, h =>
      cases r with
      | nil => cases h
      | cons a2 r =>
        have h : some w ∈ some v :: none :: r := h
        simp at h
        rcases h with h9 | h9
        · exact Or.inl h9
        · exact Or.inr (List.mem_cons_of_mem _ (List.mem_cons_of_mem _ h9))
    | 1, h =>
      have h : some w ∈ am_c1 a :: am_st2 r 0 v := by
        cases r with
        | nil => exact h
        | cons a2 r => exact h
      rcases List.mem_cons.mp h with h9 | h9
      · exact Or.inr (by rw [am_c1_sub h9.symm]; exact List.mem_cons_self)
      · rcases ih 0 w h9 with h8 | h8
        · exact Or.inl h8
        · exact Or.inr (List.mem_cons_of_mem _ h8)
    | n + 2, h =>
      have h : some w ∈ a :: am_st2 r (n + 1) v := by
        cases r with
        | nil => exact h
        | cons a2 r => exact h
      rcases List.mem_cons.mp h with h9 | h9
      · exact Or.inr (by rw [h9]; exact List.mem_cons_self)
      · rcases ih (n + 1) w h9 with h8 | h8
        · exact Or.inl h8
        · exact Or.inr (List.mem_cons_of_mem _ h8)
theorem am_Lo.at {base b nL i : Nat} {ls : am_Ls} {sl : Array Slot} {v : am_V} (h : am_Lo base b nL ls sl) (hg : am_get ls i = some v) : sl[i]? = some (.val (am_re base b v)) := by
  have := h.1.2.2 _ (am_as_get ls 0 i v hg)
  simpa using this
theorem am_Lo.rg {base b nL i : Nat} {ls : am_Ls} {sl : Array Slot} {x : Int} (h : am_Lo base b nL ls sl) (hg : am_get ls i = some (.inl x)) : am_rg x := h.2.2 x (am_get_mem ls i _ hg)
theorem am_Lo.st1 {base b nL i : Nat} {ls : am_Ls} {sl sl' : Array Slot} {v : am_V} (h : am_Lo base b nL ls sl) (hv : ∀ x, v = .inl x → am_rg x) (h' : lv_has sl' nL ((i, am_re base b v) :: (am_as base b 0 ls).filter (fun q => !(q.1 == i) && !(q.1 + 1 == i && q.2.category == 2)))) : am_Lo base b nL (am_st1 ls i v) sl' := by
  refine ⟨⟨h'.1, h'.2.1, fun q hq => h'.2.2 q ?_⟩, by rw [am_st1_len]; exact h.2.1, fun x hx => ?_⟩
  · rcases am_st1_as v ls 0 i q hq with rfl | ⟨h1, h2, h3⟩
    · simp
    · refine List.mem_cons_of_mem _ (List.mem_filter.mpr ⟨h1, ?_⟩)
      simp only [Nat.zero_add] at h2 h3
      simp only [Bool.and_eq_true, Bool.not_eq_true', beq_eq_false_iff_ne, Bool.and_eq_false_iff]
      refine ⟨h2, ?_⟩
      by_cases z : q.1 + 1 = i
      · exact Or.inr (fun w => h3 ⟨z, w⟩)
      · exact Or.inl z
  · rcases am_st1_mem v ls i _ hx with h9 | h9
    · exact hv x h9.symm
    · exact h.2.2 x h9
theorem am_Lo.st2 {base b nL i : Nat} {ls : am_Ls} {sl sl' : Array Slot} {v : am_V} (h : am_Lo base b nL ls sl) (hi : i + 1 < ls.length) (hv : ∀ x, v = .inl x → am_rg x) (h' : lv_has sl' nL ((i, am_re base b v) :: (am_as base b 0 ls).filter (fun q => !(q.1 == i) && (!(q.1 == i + 1) && !(q.1 + 1 == i && q.2.category == 2))))) : am_Lo base b nL (am_st2 ls i v) sl' := by
  refine ⟨⟨h'.1, h'.2.1, fun q hq => h'.2.2 q ?_⟩, by rw [am_st2_len v ls i hi]; exact h.2.1, fun x hx => ?_⟩
  · rcases am_st2_as v ls 0 i q hq with rfl | ⟨h1, h2, h4, h3⟩
    · simp
    · refine List.mem_cons_of_mem _ (List.mem_filter.mpr ⟨h1, ?_⟩)
      simp only [Nat.zero_add] at h2 h3 h4
      simp only [Bool.and_eq_true, Bool.not_eq_true', beq_eq_false_iff_ne, Bool.and_eq_false_iff]
      refine ⟨h2, h4, ?_⟩
      by_cases z : q.1 + 1 = i
      · exact Or.inr (fun w => h3 ⟨z, w⟩)
      · exact Or.inl z
  · rcases am_st2_mem v ls i _ hx with h9 | h9
    · exact hv x h9.symm
    · exact h.2.2 x h9
