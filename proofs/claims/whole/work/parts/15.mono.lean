/-! What every instruction leaves: the cells grow, the script stays. -/
def am_le (h h' : am_H) : Prop := h.1.length ≤ h'.1.length ∧ am_sz h.1 ≤ am_sz h'.1 ∧ ∀ N, h.1[0]? = some (9, N) → h'.1[0]? = some (9, N) ∧ ∀ j, h'.2.2.1 0 j = h.2.2.1 0 j
theorem am_le.rf {h : am_H} : am_le h h := ⟨Nat.le_refl _, Nat.le_refl _, fun _ q => ⟨q, fun _ => rfl⟩⟩
theorem am_le.tr {h1 h2 h3 : am_H} (a : am_le h1 h2) (b : am_le h2 h3) : am_le h1 h3 := ⟨Nat.le_trans a.1 b.1, Nat.le_trans a.2.1 b.2.1, fun N q => ⟨(b.2.2 N (a.2.2 N q).1).1, fun j => ((b.2.2 N (a.2.2 N q).1).2 j).trans ((a.2.2 N q).2 j)⟩⟩
def am_out (x : am_Nx) : am_H := match x with
  | .inl (_, _, _, h) => h
  | .inr (.inl r) => r.2
  | .inr (.inr (_, _, _, _, _, h)) => h
theorem am_le_go {pc : Nat} {ls : am_Ls} {st : List am_V} {h h0 : am_H} {x : am_Nx} (hle : am_le h0 h) (q : am_go pc ls st h = some x) : am_le h0 (am_out x) := by
  cases q; exact hle
theorem am_le_jmp {pc nx : Nat} {off : Int} {cc : Bool} {ls : am_Ls} {st : List am_V} {h : am_H} {x : am_Nx} (q : am_jmp pc off cc nx ls st h = some x) : am_le h (am_out x) := by
  obtain ⟨-, rfl⟩ := am_jmp_inv q; exact am_le.rf
theorem am_le_load {k i nx : Nat} {ls : am_Ls} {st : List am_V} {h : am_H} {x : am_Nx} (q : am_load k i nx ls st h = some x) : am_le h (am_out x) := by
  unfold am_load am_go at q
  split at q <;> cases q <;> exact am_le.rf
theorem am_le_store {k i nx : Nat} {ls : am_Ls} {st : List am_V} {h : am_H} {x : am_Nx} (q : am_store k i nx ls st h = some x) : am_le h (am_out x) := by
  unfold am_store am_go at q
  split at q
  · split at q <;> cases q; exact am_le.rf
  · split at q <;> cases q; exact am_le.rf
  · split at q <;> cases q; exact am_le.rf
  · cases q
theorem am_le_bin {f : Int → Int → Int} {nx : Nat} {ls : am_Ls} {st : List am_V} {h : am_H} {x : am_Nx} (q : am_bin f nx ls st h = some x) : am_le h (am_out x) := by
  unfold am_bin am_go at q
  split at q <;> cases q; exact am_le.rf
theorem am_le_binL {f : Int64 → Int64 → Int64} {nx : Nat} {ls : am_Ls} {st : List am_V} {h : am_H} {x : am_Nx} (q : am_binL f nx ls st h = some x) : am_le h (am_out x) := by
  unfold am_binL am_go at q
  split at q <;> cases q; exact am_le.rf
theorem am_le_ial {o nx : Nat} {ls : am_Ls} {st : List am_V} {h : am_H} {x : am_Nx} (q : am_ial o nx ls st h = some x) : am_le h (am_out x) := by
  unfold am_ial am_go at q
  split at q
  · split at q <;> cases q; exact am_le.rf
  · cases q
theorem am_le_bal {nx : Nat} {ls : am_Ls} {st : List am_V} {h : am_H} {x : am_Nx} (q : am_bal nx ls st h = some x) : am_le h (am_out x) := by
  unfold am_bal am_go at q
  split at q
  · split at q <;> cases q; exact am_le.rf
  · cases q
theorem am_le_lal {nx : Nat} {ls : am_Ls} {st : List am_V} {h : am_H} {x : am_Nx} (q : am_lal nx ls st h = some x) : am_le h (am_out x) := by
  unfold am_lal am_go at q
  split at q
  · split at q <;> cases q; exact am_le.rf
  · cases q
theorem am_le_uI {h : am_H} {k tag : Nat} {j v : Int} (ht : tag ≠ 9) (hk : k ≠ 0 ∨ am_inb h.1 k tag j = true) : am_le h (h.1, h.2.1, am_uI h.2.2.1 k j v, h.2.2.2) := by
  refine ⟨Nat.le_refl _, Nat.le_refl _, fun N q => ⟨q, fun i => ?_⟩⟩
  have hk0 : k ≠ 0 := by
    rcases hk with h9 | h9
    · exact h9
    · intro e
      subst e
      obtain ⟨n, h8, -⟩ := am_inb_ex h9
      rw [q] at h8
      cases h8
      exact ht rfl
  show am_uI h.2.2.1 k j v 0 i = h.2.2.1 0 i
  unfold am_uI
  rw [if_neg (fun z => hk0 z.1.symm)]
theorem am_le_ias {nx : Nat} {ls : am_Ls} {st : List am_V} {h : am_H} {x : am_Nx} (q : am_ias nx ls st h = some x) : am_le h (am_out x) := by
  unfold am_ias am_go at q
  split at q
  · split at q
    · next g => cases q; exact am_le_uI (tag := 0) (by decide) (Or.inr g)
    · cases q
  · cases q
theorem am_le_bas {nx : Nat} {ls : am_Ls} {st : List am_V} {h : am_H} {x : am_Nx} (q : am_bas nx ls st h = some x) : am_le h (am_out x) := by
  unfold am_bas am_go at q
  split at q
  · split at q
    · next g => cases q; exact am_le_uI (tag := 2) (by decide) (Or.inr g.1)
    · cases q
  · cases q
theorem am_le_las {nx : Nat} {ls : am_Ls} {st : List am_V} {h : am_H} {x : am_Nx} (q : am_las nx ls st h = some x) : am_le h (am_out x) := by
  unfold am_las am_go at q
  split at q
  · split at q
    · cases q; exact ⟨Nat.le_refl _, Nat.le_refl _, fun N q => ⟨q, fun i => rfl⟩⟩
    · cases q
  · cases q
theorem am_le_len {o nx : Nat} {ls : am_Ls} {st : List am_V} {h : am_H} {x : am_Nx} (q : am_len o nx ls st h = some x) : am_le h (am_out x) := by
  unfold am_len am_go at q
  split at q
  · split at q
    · split at q <;> cases q; exact am_le.rf
    · cases q
  · cases q
theorem am_le_gf {o i nx : Nat} {ls : am_Ls} {st : List am_V} {h : am_H} {x : am_Nx} (q : am_gf o i nx ls st h = some x) : am_le h (am_out x) := by
  unfold am_gf am_go at q
  split at q
  · split at q
    · split at q <;> cases q <;> exact am_le.rf
    · cases q
  · cases q
theorem am_le_pf {ini : Bool} {o i nx : Nat} {ls : am_Ls} {st : List am_V} {h : am_H} {x : am_Nx} (q : am_pf ini o i nx ls st h = some x) : am_le h (am_out x) := by
  unfold am_pf am_go at q
  split at q
  · split at q
    · next g =>
      split at q
      · cases q; exact am_le_uI (tag := 0) (by decide) (Or.inl g.2)
      · cases q; exact ⟨Nat.le_refl _, Nat.le_refl _, fun N q => ⟨q, fun i => rfl⟩⟩
      · split at q
        · cases q; exact ⟨Nat.le_refl _, Nat.le_refl _, fun N q => ⟨q, fun i => rfl⟩⟩
        · cases q
      · cases q
    · cases q
  · cases q
theorem am_le_fresh {h : am_H} (q : Nat × Nat) : am_le h (h.1 ++ [q], am_zR h.2.1 h.1.length, am_zI h.2.2.1 h.1.length, am_zL h.2.2.2 h.1.length) := by
  refine ⟨by simp, by show am_sz h.1 ≤ am_sz (h.1 ++ [q]); rw [am_sz_app]; omega, fun N w => ?_⟩
  have hl := (List.getElem?_eq_some_iff.mp w).1
  refine ⟨by show (h.1 ++ [q])[0]? = _; rw [List.getElem?_append_left hl]; exact w, fun j => ?_⟩
  show am_zI h.2.2.1 h.1.length 0 j = _
  unfold am_zI
  rw [if_neg (by omega)]
theorem am_le_new {o i nx : Nat} {ls : am_Ls} {st : List am_V} {h : am_H} {x : am_Nx} (q : am_new o i nx ls st h = some x) : am_le h (am_out x) := by
  unfold am_new am_go at q
  split at q
  · cases q; exact am_le_fresh _
  · cases q
theorem am_le_newa {a : ArrayType} {nx : Nat} {ls : am_Ls} {st : List am_V} {h : am_H} {x : am_Nx} (q : am_newa a nx ls st h = some x) : am_le h (am_out x) := by
  unfold am_newa am_go at q
  split at q
  · split at q <;> cases q; exact am_le_fresh _
  · split at q <;> cases q; exact am_le_fresh _
  · split at q <;> cases q; exact am_le_fresh _
  · cases q
theorem am_le_inv {kd o i nx : Nat} {ls : am_Ls} {st : List am_V} {h : am_H} {x : am_Nx} (q : am_inv kd o i nx ls st h = some x) : am_le h (am_out x) := by
  unfold am_inv am_go at q
  split at q
  · split at q
    · split at q
      · split at q <;> cases q; exact am_le.rf
      · cases q
    · split at q <;> cases q; exact am_le.rf
    · split at q <;> cases q; exact am_le.rf
    · split at q <;> cases q; exact am_le.rf
    · split at q <;> cases q; exact am_le.rf
    · split at q <;> cases q; exact am_le.rf
    · cases q
  · cases q
theorem am_le_ret {rt : Option FieldType} {st : List am_V} {h : am_H} {x : am_Nx} (q : am_ret rt st h = some x) : am_le h (am_out x) := by
  unfold am_ret at q
  split at q
  · cases q; exact am_le.rf
  · split at q <;> cases q; exact am_le.rf
  · cases q
theorem am_le_next {mt : am_M} {i : Instr} {n pc : Nat} {ls : am_Ls} {st : List am_V} {h : am_H} {x : am_Nx} (q : am_next mt i n pc ls st h = some x) : am_le h (am_out x) := by
  cases i <;> simp only [am_next] at q <;> first
    | (cases q; done)
    | exact am_le_go am_le.rf q
    | exact am_le_load q
    | exact am_le_store q
    | exact am_le_bin q
    | exact am_le_binL q
    | exact am_le_jmp q
    | exact am_le_ial q
    | exact am_le_bal q
    | exact am_le_lal q
    | exact am_le_ias q
    | exact am_le_bas q
    | exact am_le_las q
    | exact am_le_len q
    | exact am_le_gf q
    | exact am_le_pf q
    | exact am_le_new q
    | exact am_le_newa q
    | exact am_le_inv q
    | exact am_le_ret q
    | (split at q <;> first | (cases q; done) | exact am_le_go am_le.rf q | exact am_le_jmp q | (cases q; exact am_le.rf) | (split at q <;> first | (cases q; done) | exact am_le_go am_le.rf q | exact am_le_jmp q))
theorem am_le_run {cl : am_C} (hcl : ∀ j as h v h', cl j as h = some (v, h') → am_le h h') {j : Nat} : ∀ (n pc : Nat) (ls : am_Ls) (st : List am_V) (h : am_H) (r : am_Re), am_run cl j n pc ls st h = some r → am_le h r.2 := by
  intro n
  induction n with
  | zero => intro pc ls st h r q; cases q
  | succ n ih =>
    intro pc ls st h r q
    unfold am_run at q
    cases hx : am_one j pc ls st h with
    | none => rw [hx] at q; cases q
    | some x =>
      rw [hx] at q
      have hle : am_le h (am_out x) := by
        unfold am_one at hx
        split at hx
        · exact am_le_next hx
        · cases hx
      unfold am_cont at q
      split at q
      · cases q
      · next e => cases e; exact hle.tr (ih _ _ _ _ _ q)
      · next e => cases e; cases q; exact hle
      · next e =>
        cases e
        split at q
        · cases q
        · next g => exact (hle.tr (hcl _ _ _ _ _ g)).tr (ih _ _ _ _ _ q)
theorem am_le_call : ∀ (d j : Nat) (as : List am_V) (h : am_H) (v : Option am_V) (h' : am_H), am_call d j as h = some (v, h') → am_le h h' := by
  intro d
  induction d with
  | zero => intro j as h v h' q; cases q
  | succ d ih =>
    intro j as h v h' q
    unfold am_call at q
    split at q
    · split at q
      · obtain ⟨n, w⟩ := am_go0_iff.mp q
        exact am_le_run ih n _ _ _ _ _ w
      · cases q
    · cases q
