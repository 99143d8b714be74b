/-! How a state of the abstract machine stands in the machine's own. -/
def am_rg (x : Int) : Prop := -2147483648 ≤ x ∧ x ≤ 2147483647
theorem am_to {x : Int} (h : am_rg x) : (Int32.ofInt x).toInt = x := Int32.toInt_ofInt_of_le (by unfold am_rg at h; omega) (by unfold am_rg at h; omega)
theorem am_rg_to (x : Int32) : am_rg x.toInt := by
  have a := x.toInt_lt
  have b := x.le_toInt
  unfold am_rg; omega
theorem am_wr_to (x : Int) : am_wr x = (Int32.ofInt x).toInt := by
  rw [Int32.toInt_ofInt]; rfl
theorem am_wr_rg (x : Int) : am_rg (am_wr x) := by rw [am_wr_to]; exact am_rg_to _
theorem am_wr_of (x : Int) : Int32.ofInt (am_wr x) = Int32.ofInt x := by rw [am_wr_to, Int32.ofInt_toInt]
theorem am_wr_id {x : Int} (h : am_rg x) : am_wr x = x := by rw [am_wr_to, am_to h]
theorem am_eqI {a b : Int} (ha : am_rg a) (hb : am_rg b) : Int32.ofInt a = Int32.ofInt b ↔ a = b := by
  rw [← Int32.toInt_inj, am_to ha, am_to hb]
theorem am_ltI {a b : Int} (ha : am_rg a) (hb : am_rg b) : Int32.ofInt a < Int32.ofInt b ↔ a < b := by
  rw [Int32.lt_iff_toInt_lt, am_to ha, am_to hb]
theorem am_leI {a b : Int} (ha : am_rg a) (hb : am_rg b) : Int32.ofInt a ≤ Int32.ofInt b ↔ a ≤ b := by
  rw [Int32.le_iff_toInt_le, am_to ha, am_to hb]
theorem am_clamp {a : Int} (ha : am_rg a) : (Int32.ofInt a).toNatClampNeg = a.toNat := by
  unfold Int32.toNatClampNeg
  rw [am_to ha]
theorem am_vin {a : Int} {n : Nat} (ha : am_rg a) (h0 : 0 ≤ a) (h1 : a < n) : vp_in (Int32.ofInt a) n := by
  unfold vp_in
  rw [am_clamp ha]
  intro h
  rcases h with h | h
  · have z : (0 : Int32) = Int32.ofInt 0 := rfl
    rw [z, am_ltI ha (by unfold am_rg; omega)] at h
    omega
  · omega
def am_ad (base b k : Nat) : Nat := if k = 0 then b else base + k
def am_re (base b : Nat) (v : am_V) : Value := match v with
  | .inl i => .int (Int32.ofInt i)
  | .inr (.inl l) => .long l
  | .inr (.inr none) => .null
  | .inr (.inr (some k)) => .ref (am_ad base b k)
theorem am_re_cat (base b : Nat) (v : am_V) : (am_re base b v).category = if am_c2 v = true then 2 else 1 := by
  rcases v with i | l | r
  · rfl
  · rfl
  · cases r <;> rfl
def am_nf (c : Nat) : Nat := ((am_fts[c]?).getD []).length
def am_fv (base b c k : Nat) (h : am_H) (f : Nat) : Value := match am_ft c f with
  | 0 => .int (Int32.ofInt (h.2.2.1 k f))
  | 1 => .long (h.2.2.2 k f)
  | _ => am_re base b (.inr (.inr (h.2.1 k f)))
def am_E (dA : Nat → ClassId) (base b k : Nat) (h : am_H) (q : Nat × Nat) : va_E := match q.1 with
  | 0 => .inl (dA 0, q.2, .inl (fun i => Int32.ofInt (h.2.2.1 k i)))
  | 1 => .inl (dA 1, q.2, .inr (.inl (fun i => h.2.2.2 k i)))
  | 2 => .inl (dA 2, q.2, .inl (fun i => Int32.ofInt (h.2.2.1 k i)))
  | c + 3 => .inr (c, (List.range (am_nf c)).map (am_fv base b c k h))
def am_P (base b : Nat) (D : va_G) (dA : Nat → ClassId) (h : am_H) (H : Heap) : Prop :=
  H.size = base + h.1.length ∧ ∀ (k : Nat) (q : Nat × Nat), k ≠ 0 → h.1[k]? = some q → va_at D am_cl (base + k, am_E dA base b k h q) H
def am_rgH (h : am_H) : Prop := ∀ (k : Nat) (j : Int), am_rg (h.2.2.1 k j)
def am_rgS (st : List am_V) : Prop := ∀ x : Int, .inl x ∈ st → am_rg x
def am_size (q : Nat × Nat) : Nat := match q.1 with
  | c + 3 => am_nf c
  | _ => q.2
def am_sz (S : List (Nat × Nat)) : Nat := (S.map am_size).sum
theorem am_sz_app (S : List (Nat × Nat)) (q : Nat × Nat) : am_sz (S ++ [q]) = am_sz S + am_size q := by simp [am_sz]
def am_as (base b : Nat) : Nat → am_Ls → List (Nat × Value)
  | _, [] => []
  | i, none :: r => am_as base b (i + 1) r
  | i, some v :: r => (i, am_re base b v) :: am_as base b (i + 1) r
def am_Lo (base b nL : Nat) (ls : am_Ls) (sl : Array Slot) : Prop := lv_has sl nL (am_as base b 0 ls) ∧ ls.length = nL ∧ ∀ x : Int, some (.inl x) ∈ ls → am_rg x
theorem am_as_get {base b : Nat} : ∀ (ls : am_Ls) (i0 i : Nat) (v : am_V), am_get ls i = some v → (i0 + i, am_re base b v) ∈ am_as base b i0 ls := by
  intro ls
  induction ls with
  | nil => intro i0 i v h; cases i <;> cases h
  | cons a r ih =>
    intro i0 i v h
    cases i with
    | zero =>
      cases (show a = some v from h)
      exact List.mem_cons_self
    | succ n =>
      have h2 : am_get r n = some v := h
      have h3 := ih (i0 + 1) n v h2
      rw [show i0 + (n + 1) = i0 + 1 + n by omega]
      cases a with
      | none => exact h3
      | some w => exact List.mem_cons_of_mem _ h3
theorem am_get_mem : ∀ (ls : am_Ls) (i : Nat) (v : am_V), am_get ls i = some v → some v ∈ ls := by
  intro ls
  induction ls with
  | nil => intro i v h; cases i <;> cases h
  | cons a r ih =>
    intro i v h
    cases i with
    | zero =>
      cases (show a = some v from h)
      exact List.mem_cons_self
    | succ n => exact List.mem_cons_of_mem _ (ih n v h)
theorem am_as_ge {base b : Nat} : ∀ (ls : am_Ls) (i0 : Nat) (q : Nat × Value), q ∈ am_as base b i0 ls → i0 ≤ q.1 := by
  intro ls
  induction ls with
  | nil => intro i0 q h; cases h
  | cons a r ih =>
    intro i0 q h
    cases a with
    | none =>
      have := ih (i0 + 1) q h
      omega
    | some w =>
      rcases List.mem_cons.mp h with rfl | h
      · exact Nat.le_refl _
      · have := ih (i0 + 1) q h
        omega
theorem am_st1_as {base b : Nat} (v : am_V) : ∀ (ls : am_Ls) (i0 i : Nat) (q : Nat × Value), q ∈ am_as base b i0 (am_st1 ls i v) → q = (i0 + i, am_re base b v) ∨ (q ∈ am_as base b i0 ls ∧ q.1 ≠ i0 + i ∧ ¬ (q.1 + 1 = i0 + i ∧ q.2.category = 2)) := by
  intro ls
  induction ls with
  | nil => intro i0 i q h; cases i <;> cases h
  | cons a r ih =>
    intro i0 i q h
    match i, h with
    | 0, h =>
      rcases List.mem_cons.mp (show q ∈ (i0, am_re base b v) :: am_as base b (i0 + 1) r from h) with rfl | h9
      · exact Or.inl rfl
      · have g := am_as_ge r (i0 + 1) q h9
        refine Or.inr ⟨?_, by omega, by omega⟩
        cases a with
        | none => exact h9
        | some w => exact List.mem_cons_of_mem _ h9
    | 1, h =>
      have key : q ∈ am_as base b (i0 + 1) (am_st1 r 0 v) ∨ (∃ w, a = some w ∧ am_c1 a = some w ∧ q = (i0, am_re base b w)) := by
        have h : q ∈ am_as base b i0 (am_c1 a :: am_st1 r 0 v) := h
        cases hc : am_c1 a with
        | none => rw [hc] at h; exact Or.inl h
        | some w =>
          rw [hc] at h
          rcases List.mem_cons.mp h with h | h
          · refine Or.inr ⟨w, ?_, rfl, h⟩
            unfold am_c1 at hc
            split at hc
            · cases hc
            · exact hc
          · exact Or.inl h
      rcases key with h | ⟨w, ha, hc, rfl⟩
      · rcases ih (i0 + 1) 0 q h with rfl | ⟨h1, h2, h3⟩
        · exact Or.inl rfl
        · refine Or.inr ⟨?_, by omega, fun z => h3 ⟨by omega, z.2⟩⟩
          cases a with
          | none => exact h1
          | some w => exact List.mem_cons_of_mem _ h1
      · refine Or.inr ⟨by rw [ha]; exact List.mem_cons_self, by show i0 ≠ i0 + 1; omega, fun z => ?_⟩
        have z2 : (am_re base b w).category = 2 := z.2
        rw [am_re_cat] at z2
        rw [ha] at hc
        rcases w with x | x | x
        · simp [am_c2] at z2
        · cases hc
        · simp [am_c2] at z2
    | n + 2, h =>
      have h : q ∈ am_as base b i0 (a :: am_st1 r (n + 1) v) := h
      cases a with
      | none =>
        rcases ih (i0 + 1) (n + 1) q h with rfl | ⟨h1, h2, h3⟩
        · exact Or.inl (by congr 1; omega)
        · exact Or.inr ⟨h1, by omega, fun z => h3 ⟨by omega, z.2⟩⟩
      | some w =>
        rcases List.mem_cons.mp h with rfl | h
        · exact Or.inr ⟨List.mem_cons_self, by show i0 ≠ _; omega, fun z => by have : i0 + 1 = i0 + (n + 2) := z.1; omega⟩
        · rcases ih (i0 + 1) (n + 1) q h with rfl | ⟨h1, h2, h3⟩
          · exact Or.inl (by congr 1; omega)
          · exact Or.inr ⟨List.mem_cons_of_mem _ h1, by omega, fun z => h3 ⟨by omega, z.2⟩⟩
theorem am_st2_as {base b : Nat} (v : am_V) : ∀ (ls : am_Ls) (i0 i : Nat) (q : Nat × Value), q ∈ am_as base b i0 (am_st2 ls i v) → q = (i0 + i, am_re base b v) ∨ (q ∈ am_as base b i0 ls ∧ q.1 ≠ i0 + i ∧ q.1 ≠ i0 + i + 1 ∧ ¬ (q.1 + 1 = i0 + i ∧ q.2.category = 2)) := by
  intro ls
  induction ls with
  | nil => intro i0 i q h; cases i <;> cases h
  | cons a r ih =>
    intro i0 i q h
    match i, h with
    | 0, h =>
      cases r with
      | nil => cases h
      | cons a2 r =>
        rcases List.mem_cons.mp (show q ∈ (i0, am_re base b v) :: am_as base b (i0 + 1 + 1) r from h) with rfl | h9
        · exact Or.inl rfl
        · have g := am_as_ge r (i0 + 1 + 1) q h9
          refine Or.inr ⟨?_, by omega, by omega, by omega⟩
          cases a <;> cases a2 <;> simp [am_as, h9]
    | 1, h =>
      have key : q ∈ am_as base b (i0 + 1) (am_st2 r 0 v) ∨ (∃ w, a = some w ∧ am_c1 a = some w ∧ q = (i0, am_re base b w)) := by
        have h : q ∈ am_as base b i0 (am_c1 a :: am_st2 r 0 v) := by
          cases r with
          | nil => exact h
          | cons a2 r => exact h
        cases hc : am_c1 a with
        | none => rw [hc] at h; exact Or.inl h
        | some w =>
          rw [hc] at h
          rcases List.mem_cons.mp h with h | h
          · refine Or.inr ⟨w, ?_, rfl, h⟩
            unfold am_c1 at hc
            split at hc
            · cases hc
            · exact hc
          · exact Or.inl h
      rcases key with h | ⟨w, ha, hc, rfl⟩
      · rcases ih (i0 + 1) 0 q h with rfl | ⟨h1, h2, h4, h3⟩
        · exact Or.inl rfl
        · refine Or.inr ⟨?_, by omega, by omega, fun z => h3 ⟨by omega, z.2⟩⟩
          cases a with
          | none => exact h1
          | some w => exact List.mem_cons_of_mem _ h1
      · refine Or.inr ⟨by rw [ha]; exact List.mem_cons_self, by show i0 ≠ i0 + 1; omega, by show i0 ≠ i0 + 1 + 1; omega, fun z => ?_⟩
        have z2 : (am_re base b w).category = 2 := z.2
        rw [am_re_cat] at z2
        rw [ha] at hc
        rcases w with x | x | x
        · simp [am_c2] at z2
        · cases hc
        · simp [am_c2] at z2
    | n + 2, h =>
      have h : q ∈ am_as base b i0 (a :: am_st2 r (n + 1) v) := by
        cases r with
        | nil => exact h
        | cons a2 r => exact h
      cases a with
      | none =>
        rcases ih (i0 + 1) (n + 1) q h with rfl | ⟨h1, h2, h4, h3⟩
        · exact Or.inl (by congr 1; omega)
        · exact Or.inr ⟨h1, by omega, by omega, fun z => h3 ⟨by omega, z.2⟩⟩
      | some w =>
        rcases List.mem_cons.mp h with rfl | h
        · exact Or.inr ⟨List.mem_cons_self, by show i0 ≠ _; omega, by show i0 ≠ _; omega, fun z => by have : i0 + 1 = i0 + (n + 2) := z.1; omega⟩
        · rcases ih (i0 + 1) (n + 1) q h with rfl | ⟨h1, h2, h4, h3⟩
          · exact Or.inl (by congr 1; omega)
          · exact Or.inr ⟨List.mem_cons_of_mem _ h1, by omega, by omega, fun z => h3 ⟨by omega, z.2⟩⟩
