/-! More equations for rows that a program writes. -/
theorem am_rX {cl : am_C} {j pc n i j2 nx : Nat} {m : am_M} {a c2 : Int} {r : List am_V} {h : am_H} {st : List am_V} (hm : am_ml[j]? = some m) (hd : am_code j pc = some (.invokestatic i, n)) (hk : am_lk am_mk (am_key m.2.2.2.2 i) = some (5, j2, 2)) (hs : am_split 2 [] st = some ([.inl a, .inl c2], r)) (hw : am_words r ≤ 8) (hn : pc + n = nx) (ls : am_Ls) : am_go0 cl j pc ls st h = am_go0 cl j nx ls (.inl (if a < c2 then c2 else a) :: r) h := by
  subst hn
  refine am_r hm hd ?_
  simp only [am_next, am_inv, hk, hs]
  simp [hw, am_go]
theorem am_c1_i (x : Int) : am_c1 (some (.inl x)) = some (.inl x) := rfl
theorem am_c1_n : am_c1 none = none := rfl
theorem am_c1_r (x : Option Nat) : am_c1 (some (.inr (.inr x))) = some (.inr (.inr x)) := rfl
def am_up (f : Int → Int) (j v : Int) : Int → Int := fun i => if i = j then v else f i
def am_upL (f : Int → Int64) (j : Int) (v : Int64) : Int → Int64 := fun i => if i = j then v else f i
theorem am_uI_c (I : Nat → Int → Int) (k : Nat) (j v : Int) (k2 : Nat) : am_uI I k j v k2 = if k2 = k then am_up (I k) j v else I k2 := by
  funext i
  by_cases e : k2 = k
  · subst e
    rw [if_pos rfl]
    simp [am_uI, am_up]
  · rw [if_neg e]
    simp [am_uI, e]
theorem am_uL_c (I : Nat → Int → Int64) (k : Nat) (j : Int) (v : Int64) (k2 : Nat) : am_uL I k j v k2 = if k2 = k then am_upL (I k) j v else I k2 := by
  funext i
  by_cases e : k2 = k
  · subst e
    rw [if_pos rfl]
    simp [am_uL, am_upL]
  · rw [if_neg e]
    simp [am_uL, e]
theorem am_up_s (f : Int → Int) (j v : Int) : am_up f j v j = v := by simp [am_up]
theorem am_up_n (f : Int → Int) {j i : Int} (v : Int) (h : i ≠ j) : am_up f j v i = f i := by simp [am_up, h]
theorem am_up_a (f : Int → Int) (j v i : Int) : am_up f j v i = if i = j then v else f i := rfl
theorem am_upL_a (f : Int → Int64) (j : Int) (v : Int64) (i : Int) : am_upL f j v i = if i = j then v else f i := rfl
theorem am_wr_eq {x : Int} (h0 : -2147483648 ≤ x) (h1 : x ≤ 2147483647) : am_wr x = x := am_wr_id ⟨h0, h1⟩
