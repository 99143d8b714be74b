/-! value(): rows as lists, top first. -/
def am_skk {α : Type} (f : Int → α) : List α → Int → Prop
  | [], p => p = 0
  | x :: xs, p => 0 < p ∧ f (p - 1) = x ∧ am_skk f xs (p - 1)
theorem am_skk_len {α : Type} {f : Int → α} : ∀ {xs : List α} {p : Int}, am_skk f xs p → p = (xs.length : Int) := by
  intro xs
  induction xs with
  | nil => intro p h; exact h
  | cons x xs ih =>
    intro p h
    have := ih h.2.2
    rw [List.length_cons]
    omega
theorem am_skk_congr {α : Type} {f g : Int → α} : ∀ {xs : List α} {p : Int}, am_skk f xs p → (∀ j, 0 ≤ j → j < p → g j = f j) → am_skk g xs p := by
  intro xs
  induction xs with
  | nil => intro p h _; exact h
  | cons x xs ih =>
    intro p h hg
    obtain ⟨h1, h2, h3⟩ := h
    exact ⟨h1, (hg (p - 1) (by omega) (by omega)).trans h2, ih h3 (fun j j0 j1 => hg j j0 (by omega))⟩
theorem am_skk_push {α : Type} {f g : Int → α} {xs : List α} {p : Int} {x : α} (h : am_skk f xs p) (hg : ∀ j, 0 ≤ j → j < p → g j = f j) (hx : g p = x) : am_skk g (x :: xs) (p + 1) := by
  have hl := am_skk_len h
  refine ⟨by omega, by rw [show p + 1 - 1 = p by omega]; exact hx, ?_⟩
  rw [show p + 1 - 1 = p by omega]
  exact am_skk_congr h hg
theorem am_skk_up {f : Int → Int} {xs : List Int} {p : Int} {x : Int} (h : am_skk f xs p) : am_skk (am_up f p x) (x :: xs) (p + 1) := am_skk_push h (fun j _ j1 => am_up_n _ _ (by omega)) (am_up_s _ _ _)
theorem am_skk_upL {f : Int → Int64} {xs : List Int64} {p : Int} {x : Int64} (h : am_skk f xs p) : am_skk (am_upL f p x) (x :: xs) (p + 1) := am_skk_push h (fun j _ j1 => if_neg (by omega)) (if_pos rfl)
theorem am_skk_top {f : Int → Int} {xs : List Int} {p : Int} {x y : Int} (h : am_skk f (x :: xs) p) : am_skk (am_up f (p - 1) y) (y :: xs) p := ⟨h.1, am_up_s _ _ _, am_skk_congr h.2.2 (fun j _ j1 => am_up_n _ _ (by omega))⟩
theorem am_skk_topL {f : Int → Int64} {xs : List Int64} {p : Int} {x y : Int64} (h : am_skk f (x :: xs) p) : am_skk (am_upL f (p - 1) y) (y :: xs) p := ⟨h.1, if_pos rfl, am_skk_congr h.2.2 (fun j _ j1 => if_neg (by omega))⟩
theorem am_skk_hi {f : Int → Int} {xs : List Int} {p q : Int} {y : Int} (h : am_skk f xs p) (hq : p ≤ q) : am_skk (am_up f q y) xs p := am_skk_congr h (fun j _ j1 => am_up_n _ _ (by omega))
theorem am_skk_hiL {f : Int → Int64} {xs : List Int64} {p q : Int} {y : Int64} (h : am_skk f xs p) (hq : p ≤ q) : am_skk (am_upL f q y) xs p := am_skk_congr h (fun j _ j1 => if_neg (by omega))
/-- an open NODE: its number, the turns it had, the left value -/
abbrev am_En : Type := Int × Int × Int64
/-- a MEMBER at work: DICTIONARY, MEMBER, what VARIABLES 0 and 1 are, 1 for a STANDARD, its open NODES -/
abbrev am_F : Type := Int × Int × Int × Int × Int × List am_En
def am_ON : List am_F → List Int
  | [] => []
  | (_, _, _, _, _, es) :: fs => es.map (fun e => e.1) ++ am_ON fs
def am_TU : List am_F → List Int
  | [] => []
  | (_, _, _, _, _, es) :: fs => es.map (fun e => e.2.1) ++ am_TU fs
def am_LV : List am_F → List Int64
  | [] => []
  | (_, _, _, _, _, es) :: fs => es.map (fun e => e.2.2) ++ am_LV fs
def am_FL : List am_F → List Int
  | [] => []
  | (_, _, _, _, _, _) :: fs => ((am_ON fs).length : Int) :: am_FL fs
def am_fd1 (f : am_F) : Int := f.1
def am_fd2 (f : am_F) : Int := f.2.1
def am_fd3 (f : am_F) : Int := f.2.2.1
def am_fd4 (f : am_F) : Int := f.2.2.2.1
def am_fd5 (f : am_F) : Int := f.2.2.2.2.1
def am_fd6 (f : am_F) : List am_En := f.2.2.2.2.2
/-- what the reference has yet to do for an open NODE -/
def am_tE (kd nb : Int → Int) (e : am_En) : List Int := if e.2.1 = 0 then [e.1] else if kd e.1 = 9 then (if e.2.1 = 1 then [200 + e.1] else []) else if 5 ≤ kd e.1 then (if e.2.1 = 1 then [nb e.1, 100 + e.1] else [100 + e.1]) else []
def am_vE (kd : Int → Int) (e : am_En) : List Int64 := if 5 ≤ kd e.1 ∧ kd e.1 ≠ 9 ∧ e.2.1 = 2 then [e.2.2] else []
def am_tEs (kd nb : Int → Int) : List am_En → List Int
  | [] => []
  | e :: es => am_tE kd nb e ++ am_tEs kd nb es
def am_vEs (kd : Int → Int) : List am_En → List Int64
  | [] => []
  | e :: es => am_vE kd e ++ am_vEs kd es
def am_TL (kd nb : Int → Int) : List am_F → List Int
  | [] => []
  | (_, _, _, _, _, es) :: fs => am_tEs kd nb es ++ (300 :: am_TL kd nb fs)
def am_VL (kd : Int → Int) : List am_F → List Int64
  | [] => []
  | (_, _, _, _, _, es) :: fs => am_vEs kd es ++ am_VL kd fs
theorem am_tE_len (kd nb : Int → Int) (e : am_En) : (am_tE kd nb e).length ≤ 2 := by
  unfold am_tE
  by_cases h1 : e.2.1 = 0
  · rw [if_pos h1]; exact Nat.le_of_ble_eq_true rfl
  rw [if_neg h1]
  by_cases h2 : kd e.1 = 9
  · rw [if_pos h2]
    by_cases h3 : e.2.1 = 1
    · rw [if_pos h3]; exact Nat.le_of_ble_eq_true rfl
    · rw [if_neg h3]; exact Nat.le_of_ble_eq_true rfl
  rw [if_neg h2]
  by_cases h4 : 5 ≤ kd e.1
  · rw [if_pos h4]
    by_cases h3 : e.2.1 = 1
    · rw [if_pos h3]; exact Nat.le_of_ble_eq_true rfl
    · rw [if_neg h3]; exact Nat.le_of_ble_eq_true rfl
  · rw [if_neg h4]; exact Nat.le_of_ble_eq_true rfl
theorem am_vE_len (kd : Int → Int) (e : am_En) : (am_vE kd e).length ≤ 1 := by
  unfold am_vE
  by_cases h1 : 5 ≤ kd e.1 ∧ kd e.1 ≠ 9 ∧ e.2.1 = 2
  · rw [if_pos h1]; exact Nat.le_of_ble_eq_true rfl
  · rw [if_neg h1]; exact Nat.le_of_ble_eq_true rfl
theorem am_tEs_len (kd nb : Int → Int) : ∀ es : List am_En, (am_tEs kd nb es).length ≤ 2 * es.length := by
  intro es
  induction es with
  | nil => exact Nat.le_refl _
  | cons e es ih =>
    have := am_tE_len kd nb e
    show (am_tE kd nb e ++ am_tEs kd nb es).length ≤ _
    rw [List.length_append, List.length_cons]
    omega
theorem am_vEs_len (kd : Int → Int) : ∀ es : List am_En, (am_vEs kd es).length ≤ es.length := by
  intro es
  induction es with
  | nil => exact Nat.le_refl _
  | cons e es ih =>
    have := am_vE_len kd e
    show (am_vE kd e ++ am_vEs kd es).length ≤ _
    rw [List.length_append, List.length_cons]
    omega
/-- no more than nine NODES are open for a MEMBER -/
def am_nine (fs : List am_F) : Prop := ∀ f ∈ fs, (am_fd6 f).length ≤ 9
theorem am_lens (kd nb : Int → Int) : ∀ fs : List am_F, am_nine fs → (am_ON fs).length ≤ 9 * fs.length ∧ (am_TL kd nb fs).length ≤ 19 * fs.length ∧ (am_VL kd fs).length ≤ 9 * fs.length := by
  intro fs
  induction fs with
  | nil => intro _; exact ⟨Nat.le_refl _, Nat.le_refl _, Nat.le_refl _⟩
  | cons f fs ih =>
    intro h
    obtain ⟨h1, h2, h3⟩ := ih (fun g hg => h g (List.mem_cons_of_mem _ hg))
    have h4 : (am_fd6 f).length ≤ 9 := h f (List.mem_cons_self ..)
    obtain ⟨d, m, z, o, s, es⟩ := f
    have h4 : es.length ≤ 9 := h4
    have h5 := am_tEs_len kd nb es
    have h6 := am_vEs_len kd es
    have e1 : am_ON ((d, m, z, o, s, es) :: fs) = es.map (fun e => e.1) ++ am_ON fs := rfl
    have e2 : am_TL kd nb ((d, m, z, o, s, es) :: fs) = am_tEs kd nb es ++ (300 :: am_TL kd nb fs) := rfl
    have e3 : am_VL kd ((d, m, z, o, s, es) :: fs) = am_vEs kd es ++ am_VL kd fs := rfl
    rw [e1, e2, e3, List.length_append, List.length_append, List.length_append, List.length_map, List.length_cons, List.length_cons]
    omega
theorem am_TU_len : ∀ fs : List am_F, (am_TU fs).length = (am_ON fs).length ∧ (am_LV fs).length = (am_ON fs).length := by
  intro fs
  induction fs with
  | nil => exact ⟨rfl, rfl⟩
  | cons f fs ih =>
    obtain ⟨d, m, z, o, s, es⟩ := f
    have e1 : am_ON ((d, m, z, o, s, es) :: fs) = es.map (fun e => e.1) ++ am_ON fs := rfl
    have e2 : am_TU ((d, m, z, o, s, es) :: fs) = es.map (fun e => e.2.1) ++ am_TU fs := rfl
    have e3 : am_LV ((d, m, z, o, s, es) :: fs) = es.map (fun e => e.2.2) ++ am_LV fs := rfl
    rw [e1, e2, e3, List.length_append, List.length_append, List.length_append, List.length_map, List.length_map, List.length_map]
    omega
theorem am_FL_len : ∀ fs : List am_F, (am_FL fs).length = fs.length := by
  intro fs
  induction fs with
  | nil => rfl
  | cons f fs ih =>
    obtain ⟨d, m, z, o, s, es⟩ := f
    have e1 : am_FL ((d, m, z, o, s, es) :: fs) = ((am_ON fs).length : Int) :: am_FL fs := rfl
    rw [e1, List.length_cons, List.length_cons, ih]
/-- how many turns a NODE of HEIGHT h may need -/
def am_Cn : Nat → Int
  | 0 => 3
  | h + 1 => 3 + 2 * am_Cn h
theorem am_Cn_pos : ∀ h : Nat, 3 ≤ am_Cn h := by
  intro h
  induction h with
  | zero => exact Int.le_refl _
  | succ h ih => show 3 ≤ 3 + 2 * am_Cn h; omega
theorem am_Cn_mono : ∀ (k h : Nat), am_Cn h ≤ am_Cn (h + k) := by
  intro k
  induction k with
  | zero => intro h; exact Int.le_refl _
  | succ k ih =>
    intro h
    have := ih h
    have := am_Cn_pos (h + k)
    show am_Cn h ≤ 3 + 2 * am_Cn (h + k)
    omega
theorem am_Cn_8 {h : Nat} (hh : h ≤ 8) : am_Cn h ≤ 1533 := by
  have := am_Cn_mono (8 - h) h
  rw [show h + (8 - h) = 8 by omega] at this
  have e : am_Cn 8 = 1533 := by decide
  omega
def am_rem (hg : Int → Int) (e : am_En) : Int := if e.2.1 = 0 then am_Cn (hg e.1).toNat else if e.2.1 = 1 then (am_Cn (hg e.1).toNat + 1) / 2 else 1
def am_remE (hg : Int → Int) : List am_En → Int
  | [] => 0
  | e :: es => am_rem hg e + am_remE hg es
def am_remF (hg : Int → Int) : List am_F → Int
  | [] => 0
  | (_, _, _, _, _, es) :: fs => am_remE hg es + am_remF hg fs
theorem am_rem_pos (hg : Int → Int) (e : am_En) : 1 ≤ am_rem hg e := by
  have := am_Cn_pos (hg e.1).toNat
  unfold am_rem
  by_cases h1 : e.2.1 = 0
  · rw [if_pos h1]; omega
  rw [if_neg h1]
  by_cases h2 : e.2.1 = 1
  · rw [if_pos h2]; omega
  · rw [if_neg h2]; exact Int.le_refl _
theorem am_remE_pos (hg : Int → Int) : ∀ es : List am_En, 0 ≤ am_remE hg es := by
  intro es
  induction es with
  | nil => exact Int.le_refl _
  | cons e es ih =>
    have := am_rem_pos hg e
    show 0 ≤ am_rem hg e + am_remE hg es
    omega
theorem am_remF_pos (hg : Int → Int) : ∀ fs : List am_F, 0 ≤ am_remF hg fs := by
  intro fs
  induction fs with
  | nil => exact Int.le_refl _
  | cons f fs ih =>
    obtain ⟨d, m, z, o, s, es⟩ := f
    have := am_remE_pos hg es
    show 0 ≤ am_remE hg es + am_remF hg fs
    omega
/-- a NODE goes in: its first turn, its second turn -/
theorem am_rem_0 (hg : Int → Int) {n c : Int} {l l1 l2 : Int64} (h0 : 0 ≤ hg c) (h : hg c < hg n) : am_rem hg (c, 0, l1) + am_rem hg (n, 1, l2) + 1 ≤ am_rem hg (n, 0, l) := by
  have e1 : am_rem hg (c, 0, l1) = am_Cn (hg c).toNat := if_pos rfl
  have e2 : am_rem hg (n, 1, l2) = (am_Cn (hg n).toNat + 1) / 2 := (if_neg (by show (1 : Int) ≠ 0; omega)).trans (if_pos rfl)
  have e3 : am_rem hg (n, 0, l) = am_Cn (hg n).toNat := if_pos rfl
  rw [e1, e2, e3]
  have m := am_Cn_mono ((hg n).toNat - 1 - (hg c).toNat) (hg c).toNat
  rw [show (hg c).toNat + ((hg n).toNat - 1 - (hg c).toNat) = (hg n).toNat - 1 by omega] at m
  have e4 : am_Cn (hg n).toNat = 3 + 2 * am_Cn ((hg n).toNat - 1) := by
    have : (hg n).toNat = (hg n).toNat - 1 + 1 := by omega
    rw [this]; rfl
  omega
theorem am_rem_1 (hg : Int → Int) {n c : Int} {l l1 l2 : Int64} (h0 : 0 ≤ hg c) (h : hg c < hg n) : am_rem hg (c, 0, l1) + am_rem hg (n, 2, l2) + 1 ≤ am_rem hg (n, 1, l) := by
  have e1 : am_rem hg (c, 0, l1) = am_Cn (hg c).toNat := if_pos rfl
  have e2 : am_rem hg (n, 1, l) = (am_Cn (hg n).toNat + 1) / 2 := (if_neg (by show (1 : Int) ≠ 0; omega)).trans (if_pos rfl)
  have e3 : am_rem hg (n, 2, l2) = 1 := (if_neg (by show (2 : Int) ≠ 0; omega)).trans (if_neg (by show (2 : Int) ≠ 1; omega))
  rw [e1, e2, e3]
  have m := am_Cn_mono ((hg n).toNat - 1 - (hg c).toNat) (hg c).toNat
  rw [show (hg c).toNat + ((hg n).toNat - 1 - (hg c).toNat) = (hg n).toNat - 1 by omega] at m
  have e4 : am_Cn (hg n).toNat = 3 + 2 * am_Cn ((hg n).toNat - 1) := by
    have : (hg n).toNat = (hg n).toNat - 1 + 1 := by omega
    rw [this]; rfl
  omega
theorem am_rem_2 (hg : Int → Int) {n : Int} {l l2 : Int64} : am_rem hg (n, 1, l2) + 1 ≤ am_rem hg (n, 0, l) := by
  have e2 : am_rem hg (n, 1, l2) = (am_Cn (hg n).toNat + 1) / 2 := (if_neg (by show (1 : Int) ≠ 0; omega)).trans (if_pos rfl)
  have e3 : am_rem hg (n, 0, l) = am_Cn (hg n).toNat := if_pos rfl
  have := am_Cn_pos (hg n).toNat
  rw [e2, e3]
  omega
theorem am_rem_8 (hg : Int → Int) {n : Int} {l : Int64} (h : hg n ≤ 8) : am_rem hg (n, 0, l) ≤ 1533 := by
  have e3 : am_rem hg (n, 0, l) = am_Cn (hg n).toNat := if_pos rfl
  rw [e3]
  exact am_Cn_8 (by omega)
