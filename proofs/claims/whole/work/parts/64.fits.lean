/-! FITS: the class. -/
def am_sI (I : Nat → Int → Int) (k : Nat) (f : Int → Int) : Nat → Int → Int := fun k2 => if k2 = k then f else I k2
theorem am_sI_c (I : Nat → Int → Int) (k : Nat) (f : Int → Int) (k2 : Nat) : am_sI I k f k2 = if k2 = k then f else I k2 := rfl
theorem am_sI_u (I : Nat → Int → Int) (k : Nat) (f : Int → Int) (j v : Int) : am_uI (am_sI I k f) k j v = am_sI I k (am_up f j v) := by
  funext k2
  rw [am_uI_c, am_sI_c, am_sI_c, am_sI_c]
  by_cases e : k2 = k
  · rw [if_pos e, if_pos e, if_pos rfl]
  · rw [if_neg e, if_neg e, if_neg e]
theorem am_sI_self (I : Nat → Int → Int) (k : Nat) : am_sI I k (I k) = I := by
  funext k2
  rw [am_sI_c]
  split
  · next e => rw [e]
  · rfl
def am_mark (kd na nb nc m : Int → Int) (n : Int) : Int → Int := if 5 ≤ kd n then (if kd n = 9 then am_up (am_up (am_up m (na n) 1) (nb n) 1) (nc n) 1 else am_up (am_up m (na n) 1) (nb n) 1) else m
theorem am_mark_ge (kd na nb nc m : Int → Int) (n i : Int) (h : m i ≠ 0) : am_mark kd na nb nc m n i ≠ 0 := by
  unfold am_mark
  have key : ∀ (f : Int → Int) (j : Int), f i ≠ 0 → am_up f j 1 i ≠ 0 := by
    intro f j hf
    rw [am_up_a]; split
    · omega
    · exact hf
  split
  · split
    · exact key _ _ (key _ _ (key _ _ h))
    · exact key _ _ (key _ _ h)
  · exact h
/-- goes down the numbers -/
def am_fw (P : Int → Prop) (kd na nb nc : Int → Int) : Nat → (Int → Int) → Prop
  | 0, _ => True
  | k + 1, m => (m k = 0 ∧ am_fw P kd na nb nc k m) ∨ (m k ≠ 0 ∧ P k ∧ am_fw P kd na nb nc k (am_mark kd na nb nc m k))
theorem am_fw_fit {P : Int → Prop} {kd na nb nc : Int → Int} {B : Int} (hcl : ∀ n, 0 ≤ n → n < B → (5 ≤ kd n → 0 ≤ na n ∧ na n < n ∧ 0 ≤ nb n ∧ nb n < n) ∧ (kd n = 9 → 0 ≤ nc n ∧ nc n < n)) : ∀ (k : Nat) (m : Int → Int), (k : Int) ≤ B → am_fw P kd na nb nc k m → ∀ i : Int, 0 ≤ i → i < (k : Int) → m i ≠ 0 → ∀ K, am_fit P kd na nb nc K i := by
  intro k
  induction k with
  | zero => intro m _ _ i i0 i1; omega
  | succ k ih =>
    intro m hk h i i0 i1 hm K
    rcases h with ⟨h1, h2⟩ | ⟨h1, h2, h3⟩
    · have e : i ≠ k := fun e => hm (by rw [e]; exact h1)
      exact ih m (by omega) h2 i i0 (by omega) hm K
    · have ih2 := ih (am_mark kd na nb nc m k) (by omega) h3
      by_cases e : i = (k : Int)
      · rw [e]
        cases K with
        | zero => trivial
        | succ K =>
          obtain ⟨c1, c2⟩ := hcl k (by omega) (by omega)
          refine ⟨h2, fun q => ?_, fun q => ?_⟩
          · obtain ⟨g1, g2, g3, g4⟩ := c1 q
            refine ⟨ih2 (na k) g1 g2 ?_ K, ih2 (nb k) g3 g4 ?_ K⟩
            · unfold am_mark
              rw [if_pos q]
              split
              · simp only [am_up_a]; split
                · omega
                · split
                  · omega
                  · rw [if_pos trivial]; omega
              · simp only [am_up_a]; split
                · omega
                · rw [if_pos trivial]; omega
            · unfold am_mark
              rw [if_pos q]
              split
              · simp only [am_up_a]; split
                · omega
                · rw [if_pos trivial]; omega
              · simp only [am_up_a]; rw [if_pos trivial]; omega
          · obtain ⟨g1, g2⟩ := c2 q
            refine ih2 (nc k) g1 g2 ?_ K
            unfold am_mark
            rw [if_pos (by omega), if_pos q, am_up_s]
            omega
      · exact ih2 i i0 (by omega) (am_mark_ge _ _ _ _ _ _ _ hm) K
theorem am_fw_congr {P Q : Int → Prop} {kd na nb nc kd2 na2 nb2 nc2 : Int → Int} {B : Int} (hE : ∀ n, 0 ≤ n → n < B → kd2 n = kd n ∧ na2 n = na n ∧ nb2 n = nb n ∧ nc2 n = nc n ∧ (P n ↔ Q n)) : ∀ (k : Nat) (m m2 : Int → Int), (k : Int) ≤ B → (∀ i : Int, 0 ≤ i → i < (k : Int) → m2 i = m i) → (am_fw P kd na nb nc k m ↔ am_fw Q kd2 na2 nb2 nc2 k m2) := by
  intro k
  induction k with
  | zero => intro m m2 _ _; exact Iff.rfl
  | succ k ih =>
    intro m m2 hk hm
    obtain ⟨e1, e2, e3, e4, e5⟩ := hE k (by omega) (by omega)
    have hk2 : m2 k = m k := hm k (by omega) (by omega)
    have i1 := ih m m2 (by omega) (fun i i0 i1 => hm i i0 (by omega))
    have i2 := ih (am_mark kd na nb nc m k) (am_mark kd2 na2 nb2 nc2 m2 k) (by omega) (fun i i0 i1 => by
      have w := hm i i0 (by omega)
      unfold am_mark
      rw [e1, e2, e3, e4]
      split
      · split
        · simp only [am_up_a, w]
        · simp only [am_up_a, w]
      · exact w)
    unfold am_fw
    rw [hk2, e5, i1, i2]
theorem c_markInside (d N : Nat) (n : Int) (I : Nat → Int → Int) (m : Int → Int) (L : Nat → Int → Int64) (n0 : 0 ≤ n) (n1 : n < 80) (hcl : (5 ≤ I 23 n → 0 ≤ I 24 n ∧ I 24 n < n ∧ 0 ≤ I 25 n ∧ I 25 n < n) ∧ (I 23 n = 9 → 0 ≤ I 26 n ∧ I 26 n < n)) : am_call (d + 1) 51 [.inr (.inr (some 22)), .inl n] (am_GS N, am_GR, am_sI I 28 m, L) = some (none, (am_GS N, am_GR, am_sI I 28 (am_mark (I 23) (I 24) (I 25) (I 26) m n), L)) := by
  rw [e_51]
  unfold am_mark
  obtain ⟨c1, c2⟩ := hcl
  by_cases q : 5 ≤ I 23 n
  · have g := c1 q
    rw [if_pos q]
    by_cases q9 : I 23 n = 9
    · have g2 := c2 q9
      rw [if_pos q9]
      simp (disch := omega) only [s_51_0, s_51_1, s_51_4, s_51_5, s_51_6, s_51_7, s_51_10, s_51_11, s_51_14, s_51_15, s_51_18, s_51_19, s_51_20, s_51_21, s_51_22, s_51_23, s_51_26, s_51_27, s_51_30, s_51_31, s_51_32, s_51_33, s_51_34, s_51_35, s_51_38, s_51_39, s_51_40, s_51_42, s_51_45, s_51_46, s_51_49, s_51_50, s_51_53, s_51_54, s_51_55, s_51_56, s_51_57, am_bd_s, Option.toList_some, Option.toList_none, List.cons_append, List.nil_append, am_c1_i, am_c1_n, am_c1_r, if_true, if_false, am_sI_c, am_sI_u, Nat.reduceEqDiff, ↓reduceIte, in_23, in_24, in_25, in_26, in_28, ↓if_pos, ↓if_neg, if_pos, if_neg, and_true, or_true]
    · rw [if_neg q9]
      simp (disch := omega) only [s_51_0, s_51_1, s_51_4, s_51_5, s_51_6, s_51_7, s_51_10, s_51_11, s_51_14, s_51_15, s_51_18, s_51_19, s_51_20, s_51_21, s_51_22, s_51_23, s_51_26, s_51_27, s_51_30, s_51_31, s_51_32, s_51_33, s_51_34, s_51_35, s_51_38, s_51_39, s_51_40, s_51_42, s_51_45, s_51_46, s_51_49, s_51_50, s_51_53, s_51_54, s_51_55, s_51_56, s_51_57, am_bd_s, Option.toList_some, Option.toList_none, List.cons_append, List.nil_append, am_c1_i, am_c1_n, am_c1_r, if_true, if_false, am_sI_c, am_sI_u, Nat.reduceEqDiff, ↓reduceIte, in_23, in_24, in_25, in_26, in_28, ↓if_pos, ↓if_neg, if_pos, if_neg, and_true, or_true]
  · rw [if_neg q]
    simp (disch := omega) only [s_51_0, s_51_1, s_51_4, s_51_5, s_51_6, s_51_7, s_51_10, s_51_11, s_51_14, s_51_15, s_51_18, s_51_19, s_51_20, s_51_21, s_51_22, s_51_23, s_51_26, s_51_27, s_51_30, s_51_31, s_51_32, s_51_33, s_51_34, s_51_35, s_51_38, s_51_39, s_51_40, s_51_42, s_51_45, s_51_46, s_51_49, s_51_50, s_51_53, s_51_54, s_51_55, s_51_56, s_51_57, am_bd_s, Option.toList_some, Option.toList_none, List.cons_append, List.nil_append, am_c1_i, am_c1_n, am_c1_r, if_true, if_false, am_sI_c, am_sI_u, Nat.reduceEqDiff, ↓reduceIte, in_23, in_28, ↓if_pos, ↓if_neg, if_pos, if_neg, and_true, or_true]
