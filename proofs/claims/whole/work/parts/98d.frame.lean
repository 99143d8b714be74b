/-! The constructors never look at the script. -/
def am_ph (n : Nat) (x : Int → Int) (h : am_H) : am_H := ((9, n) :: h.1.tail, h.2.1, fun k j => if k = 0 then x j else h.2.2.1 k j, h.2.2.2)
def am_okh (h : am_H) : Prop := h.1[0]? = some (9, 0) ∧ ∀ (k : Nat) (f : Int), h.2.1 k f ≠ none → 0 ≤ f ∧ ∃ c n : Nat, h.1[k]? = some (c + 3, n) ∧ am_ft c f.toNat = 2
def am_pN (n : Nat) (x : Int → Int) (y : am_Nx) : am_Nx := match y with
  | .inl (pc, ls, st, h) => .inl (pc, ls, st, am_ph n x h)
  | .inr (.inl (v, h)) => .inr (.inl (v, am_ph n x h))
  | .inr (.inr (j, as, pc, ls, r, h)) => .inr (.inr (j, as, pc, ls, r, am_ph n x h))
def am_jn (y : am_Nx) : Prop := match y with
  | .inr (.inr (j, _)) => j ≠ 183
  | _ => True
def am_Q (n : Nat) (x : Int → Int) (z : Option am_Nx) (y : am_Nx) : Prop := z = some (am_pN n x y) ∧ am_okh (am_out y) ∧ am_jn y
theorem am_S0 {S : List (Nat × Nat)} (h : S[0]? = some (9, 0)) (n : Nat) {k : Nat} (hk : k ≠ 0) : ((9, n) :: S.tail)[k]? = S[k]? := by
  cases S with
  | nil => cases h
  | cons a T =>
    cases k with
    | zero => exact absurd rfl hk
    | succ k => rfl
theorem am_S0_inb {S : List (Nat × Nat)} (h : S[0]? = some (9, 0)) (n : Nat) {k tag : Nat} {j : Int} (ht : tag ≠ 9) (g : am_inb S k tag j = true) : k ≠ 0 ∧ am_inb ((9, n) :: S.tail) k tag j = true := by
  have hk : k ≠ 0 := fun e => by
    subst e
    obtain ⟨m, h1, -⟩ := am_inb_ex g
    rw [h] at h1
    cases h1
    exact ht rfl
  refine ⟨hk, ?_⟩
  unfold am_inb at g ⊢
  rw [am_S0 h n hk]
  exact g
theorem am_ph_uI (n : Nat) (x : Int → Int) (S : List (Nat × Nat)) (R : Nat → Int → Option Nat) (I : Nat → Int → Int) (L : Nat → Int → Int64) {k : Nat} (hk : k ≠ 0) (j v : Int) : am_ph n x (S, R, am_uI I k j v, L) = ((9, n) :: S.tail, R, am_uI (fun k j => if k = 0 then x j else I k j) k j v, L) := by
  have e : (fun k' j' => if k' = 0 then x j' else am_uI I k j v k' j') = am_uI (fun k j => if k = 0 then x j else I k j) k j v := by
    funext k' j'
    unfold am_uI
    by_cases q : k' = 0
    · have z : ¬ (k' = k ∧ j' = j) := fun w => hk (w.1.symm.trans q)
      rw [if_pos q, if_neg z]
      exact (if_pos q).symm
    · rw [if_neg q]
      by_cases z : k' = k ∧ j' = j
      · rw [if_pos z, if_pos z]
      · rw [if_neg z, if_neg z]
        exact (if_neg q).symm
  show ((9, n) :: S.tail, R, (fun k' j' => if k' = 0 then x j' else am_uI I k j v k' j'), L) = _
  rw [e]
theorem am_ph_fresh (n : Nat) (x : Int → Int) {S : List (Nat × Nat)} (R : Nat → Int → Option Nat) (I : Nat → Int → Int) (L : Nat → Int → Int64) (h : S[0]? = some (9, 0)) (q : Nat × Nat) : am_ph n x (S ++ [q], am_zR R S.length, am_zI I S.length, am_zL L S.length) = (((9, n) :: S.tail) ++ [q], am_zR R ((9, n) :: S.tail).length, am_zI (fun k j => if k = 0 then x j else I k j) ((9, n) :: S.tail).length, am_zL L ((9, n) :: S.tail).length) := by
  cases S with
  | nil => cases h
  | cons a T =>
    have e : (fun k' j' => if k' = 0 then x j' else am_zI I (a :: T).length k' j') = am_zI (fun k j => if k = 0 then x j else I k j) (a :: T).length := by
      funext k' j'
      unfold am_zI
      by_cases w : k' = 0
      · rw [if_pos w, if_neg (by rw [w, List.length_cons]; omega)]
        exact (if_pos w).symm
      · rw [if_neg w]
        by_cases z : k' = (a :: T).length
        · rw [if_pos z, if_pos z]
        · rw [if_neg z, if_neg z]
          exact (if_neg w).symm
    show ((9, n) :: (T ++ [q]), am_zR R (a :: T).length, (fun k' j' => if k' = 0 then x j' else am_zI I (a :: T).length k' j'), am_zL L (a :: T).length) = _
    rw [e]
    rfl
theorem am_okh_fresh {S : List (Nat × Nat)} {R : Nat → Int → Option Nat} {I : Nat → Int → Int} {L : Nat → Int → Int64} (h : am_okh (S, R, I, L)) (q : Nat × Nat) (I2 : Nat → Int → Int) (L2 : Nat → Int → Int64) : am_okh (S ++ [q], am_zR R S.length, I2, L2) := by
  obtain ⟨h1, h2⟩ := h
  have h1 : S[0]? = some (9, 0) := h1
  refine ⟨?_, fun k f hk => ?_⟩
  · show (S ++ [q])[0]? = _
    rw [List.getElem?_append_left (List.getElem?_eq_some_iff.mp h1).1]; exact h1
  · have hk : am_zR R S.length k f ≠ none := hk
    unfold am_zR at hk
    by_cases e : k = S.length
    · rw [if_pos e] at hk; exact absurd rfl hk
    · rw [if_neg e] at hk
      obtain ⟨a, c, n, b, d⟩ := h2 k f hk
      have b : S[k]? = some (c + 3, n) := b
      refine ⟨a, c, n, ?_, d⟩
      show (S ++ [q])[k]? = _
      rw [List.getElem?_append_left (List.getElem?_eq_some_iff.mp b).1]; exact b
theorem am_ph_go {n : Nat} {x : Int → Int} {pc : Nat} {ls : am_Ls} {st : List am_V} {h : am_H} {y : am_Nx} (hk : am_okh h) (q : am_go pc ls st h = some y) : am_Q n x (am_go pc ls st (am_ph n x h)) y := by
  cases q; exact ⟨rfl, hk, trivial⟩
theorem am_ph_jmp {n : Nat} {x : Int → Int} {pc nx : Nat} {off : Int} {cc : Bool} {ls : am_Ls} {st : List am_V} {h : am_H} {y : am_Nx} (hk : am_okh h) (q : am_jmp pc off cc nx ls st h = some y) : am_Q n x (am_jmp pc off cc nx ls st (am_ph n x h)) y := by
  unfold am_jmp at q ⊢
  split at q
  · next g => rw [if_pos g]; exact am_ph_go hk q
  · cases q
theorem am_ph_load {n : Nat} {x : Int → Int} {k i nx : Nat} {ls : am_Ls} {st : List am_V} {h : am_H} {y : am_Nx} (hk : am_okh h) (q : am_load k i nx ls st h = some y) : am_Q n x (am_load k i nx ls st (am_ph n x h)) y := by
  unfold am_load at q ⊢
  split at q
  · exact am_ph_go hk q
  · exact am_ph_go hk q
  · exact am_ph_go hk q
  · cases q
theorem am_ph_store {n : Nat} {x : Int → Int} {k i nx : Nat} {ls : am_Ls} {st : List am_V} {h : am_H} {y : am_Nx} (hk : am_okh h) (q : am_store k i nx ls st h = some y) : am_Q n x (am_store k i nx ls st (am_ph n x h)) y := by
  unfold am_store at q ⊢
  split at q
  · split at q
    · next g => (try dsimp only); rw [if_pos g]; exact am_ph_go hk q
    · cases q
  · split at q
    · next g => (try dsimp only); rw [if_pos g]; exact am_ph_go hk q
    · cases q
  · split at q
    · next g => (try dsimp only); rw [if_pos g]; exact am_ph_go hk q
    · cases q
  · cases q
theorem am_ph_bin {n : Nat} {x : Int → Int} {f : Int → Int → Int} {nx : Nat} {ls : am_Ls} {st : List am_V} {h : am_H} {y : am_Nx} (hk : am_okh h) (q : am_bin f nx ls st h = some y) : am_Q n x (am_bin f nx ls st (am_ph n x h)) y := by
  unfold am_bin at q ⊢
  split at q
  · exact am_ph_go hk q
  · cases q
theorem am_ph_binL {n : Nat} {x : Int → Int} {f : Int64 → Int64 → Int64} {nx : Nat} {ls : am_Ls} {st : List am_V} {h : am_H} {y : am_Nx} (hk : am_okh h) (q : am_binL f nx ls st h = some y) : am_Q n x (am_binL f nx ls st (am_ph n x h)) y := by
  unfold am_binL at q ⊢
  split at q
  · exact am_ph_go hk q
  · cases q
theorem am_ph_ial {n : Nat} {x : Int → Int} {o nx : Nat} {ls : am_Ls} {st : List am_V} {h : am_H} {y : am_Nx} (ho : o ≠ 10) (hk : am_okh h) (q : am_ial o nx ls st h = some y) : am_Q n x (am_ial o nx ls st (am_ph n x h)) y := by
  unfold am_ial at q ⊢
  split at q
  · split at q
    · next j k r g =>
      have g : am_inb h.1 k 0 j = true := by
        rcases g with g | ⟨_, g, _⟩
        · exact g
        · exact absurd g ho
      obtain ⟨k0, g2⟩ := am_S0_inb hk.1 n (by decide) g
      have g2 : am_inb (am_ph n x h).1 k 0 j = true := g2
      (try dsimp only)
      rw [if_pos (Or.inl g2)]
      cases q
      refine ⟨?_, hk, trivial⟩
      show some (Sum.inl (nx, ls, Sum.inl (if k = 0 then x j else h.2.2.1 k j) :: r, am_ph n x h)) = _
      rw [if_neg k0]
      rfl
    · cases q
  · cases q
theorem am_ph_bal {n : Nat} {x : Int → Int} {nx : Nat} {ls : am_Ls} {st : List am_V} {h : am_H} {y : am_Nx} (hk : am_okh h) (q : am_bal nx ls st h = some y) : am_Q n x (am_bal nx ls st (am_ph n x h)) y := by
  unfold am_bal at q ⊢
  split at q
  · split at q
    · next j k r g =>
      obtain ⟨k0, g2⟩ := am_S0_inb hk.1 n (by decide) g
      have g2 : am_inb (am_ph n x h).1 k 2 j = true := g2
      (try dsimp only)
      rw [if_pos g2]
      cases q
      refine ⟨?_, hk, trivial⟩
      show some (Sum.inl (nx, ls, Sum.inl (if k = 0 then x j else h.2.2.1 k j) :: r, am_ph n x h)) = _
      rw [if_neg k0]
      rfl
    · cases q
  · cases q
theorem am_ph_lal {n : Nat} {x : Int → Int} {nx : Nat} {ls : am_Ls} {st : List am_V} {h : am_H} {y : am_Nx} (hk : am_okh h) (q : am_lal nx ls st h = some y) : am_Q n x (am_lal nx ls st (am_ph n x h)) y := by
  unfold am_lal at q ⊢
  split at q
  · split at q
    · next j k r g =>
      obtain ⟨k0, g2⟩ := am_S0_inb hk.1 n (by decide) g
      have g2 : am_inb (am_ph n x h).1 k 1 j = true := g2
      (try dsimp only)
      rw [if_pos g2]
      cases q
      exact ⟨rfl, hk, trivial⟩
    · cases q
  · cases q
theorem am_ph_ias {n : Nat} {x : Int → Int} {nx : Nat} {ls : am_Ls} {st : List am_V} {h : am_H} {y : am_Nx} (hk : am_okh h) (q : am_ias nx ls st h = some y) : am_Q n x (am_ias nx ls st (am_ph n x h)) y := by
  unfold am_ias at q ⊢
  split at q
  · split at q
    · next v j k r g =>
      obtain ⟨k0, g2⟩ := am_S0_inb hk.1 n (by decide) g
      have g2 : am_inb (am_ph n x h).1 k 0 j = true := g2
      (try dsimp only)
      rw [if_pos g2]
      cases q
      refine ⟨?_, hk, trivial⟩
      have e := am_ph_uI n x h.1 h.2.1 h.2.2.1 h.2.2.2 k0 j v
      show some (Sum.inl (nx, ls, r, _)) = some (Sum.inl (nx, ls, r, am_ph n x (h.1, h.2.1, am_uI h.2.2.1 k j v, h.2.2.2)))
      rw [e]
      rfl
    · cases q
  · cases q
theorem am_ph_bas {n : Nat} {x : Int → Int} {nx : Nat} {ls : am_Ls} {st : List am_V} {h : am_H} {y : am_Nx} (hk : am_okh h) (q : am_bas nx ls st h = some y) : am_Q n x (am_bas nx ls st (am_ph n x h)) y := by
  unfold am_bas at q ⊢
  split at q
  · split at q
    · next v j k r g =>
      obtain ⟨k0, g2⟩ := am_S0_inb hk.1 n (by decide) g.1
      have g2 : am_inb (am_ph n x h).1 k 2 j = true := g2
      (try dsimp only)
      rw [if_pos ⟨g2, g.2⟩]
      cases q
      refine ⟨?_, hk, trivial⟩
      have e := am_ph_uI n x h.1 h.2.1 h.2.2.1 h.2.2.2 k0 j v
      show some (Sum.inl (nx, ls, r, _)) = some (Sum.inl (nx, ls, r, am_ph n x (h.1, h.2.1, am_uI h.2.2.1 k j v, h.2.2.2)))
      rw [e]
      rfl
    · cases q
  · cases q
theorem am_ph_las {n : Nat} {x : Int → Int} {nx : Nat} {ls : am_Ls} {st : List am_V} {h : am_H} {y : am_Nx} (hk : am_okh h) (q : am_las nx ls st h = some y) : am_Q n x (am_las nx ls st (am_ph n x h)) y := by
  unfold am_las at q ⊢
  split at q
  · split at q
    · next v j k r g =>
      obtain ⟨k0, g2⟩ := am_S0_inb hk.1 n (by decide) g
      have g2 : am_inb (am_ph n x h).1 k 1 j = true := g2
      (try dsimp only)
      rw [if_pos g2]
      cases q
      exact ⟨rfl, hk, trivial⟩
    · cases q
  · cases q
theorem am_ph_len {n : Nat} {x : Int → Int} {o nx : Nat} {ls : am_Ls} {st : List am_V} {h : am_H} {y : am_Nx} (ho : o ≠ 10) (hk : am_okh h) (q : am_len o nx ls st h = some y) : am_Q n x (am_len o nx ls st (am_ph n x h)) y := by
  unfold am_len at q ⊢
  split at q
  · split at q
    · split at q
      · rename_i k r _ t m e g
        have k0 : k ≠ 0 := by
          rcases g.1 with g | ⟨_, _, g⟩
          · exact g.2
          · exact absurd g ho
        have e2 : (am_ph n x h).1[k]? = some (t, m) := (am_S0 hk.1 n k0).trans e
        (try dsimp only)
        (try rw [e2])
        (try dsimp only)
        rw [if_pos g]
        exact am_ph_go hk q
      · cases q
    · cases q
  · cases q
theorem am_ph_gf {n : Nat} {x : Int → Int} {o i nx : Nat} {ls : am_Ls} {st : List am_V} {h : am_H} {y : am_Nx} (hk : am_okh h) (q : am_gf o i nx ls st h = some y) : am_Q n x (am_gf o i nx ls st (am_ph n x h)) y := by
  unfold am_gf at q ⊢
  split at q
  · next c f k r e =>
    (try rw [e])
    (try dsimp only)
    split at q
    · next g =>
      have e2 : (am_ph n x h).1[k]? = some (c + 3, 0) := (am_S0 hk.1 n g.2).trans g.1
      rw [if_pos ⟨e2, g.2⟩]
      split at q
      · next w =>
        cases q
        refine ⟨?_, hk, trivial⟩
        (try rw [w])
        show some (Sum.inl (nx, ls, Sum.inl (if k = 0 then x f else h.2.2.1 k f) :: r, am_ph n x h)) = _
        rw [if_neg g.2]
        rfl
      · next w => cases q; (try rw [w]); exact ⟨rfl, hk, trivial⟩
      · next w => cases q; (try rw [w]); exact ⟨rfl, hk, trivial⟩
      · cases q
    · cases q
  · cases q
theorem am_ph_pf {n : Nat} {x : Int → Int} {ini : Bool} {o i nx : Nat} {ls : am_Ls} {st : List am_V} {h : am_H} {y : am_Nx} (hk : am_okh h) (q : am_pf ini o i nx ls st h = some y) : am_Q n x (am_pf ini o i nx ls st (am_ph n x h)) y := by
  unfold am_pf at q ⊢
  split at q
  · next c f v k r e =>
    (try rw [e])
    (try dsimp only)
    split at q
    · next g =>
      have e2 : (am_ph n x h).1[k]? = some (c + 3, 0) := (am_S0 hk.1 n g.2).trans g.1
      rw [if_pos ⟨e2, g.2⟩]
      split at q
      · next w =>
        cases q
        refine ⟨?_, hk, trivial⟩
        (try rw [w])
        have e := am_ph_uI n x h.1 h.2.1 h.2.2.1 h.2.2.2 g.2 f
        show some (Sum.inl (nx, ls, r, _)) = some (Sum.inl (nx, ls, r, am_ph n x (h.1, h.2.1, am_uI h.2.2.1 k f _, h.2.2.2)))
        rw [e]
        rfl
      · next w => cases q; (try rw [w]); exact ⟨rfl, hk, trivial⟩
      · next a w =>
        split at q
        · next g2 =>
          (try rw [w])
          (try dsimp only)
          rw [if_pos g2]
          cases q
          refine ⟨rfl, ⟨hk.1, fun k' f' hr => ?_⟩, trivial⟩
          have hr : am_uR h.2.1 k f (some a) k' f' ≠ none := hr
          unfold am_uR at hr
          by_cases z : k' = k ∧ f' = (f : Int)
          · rw [z.1, z.2]
            exact ⟨by omega, c, 0, g.1, by rw [Int.toNat_natCast]; exact w⟩
          · rw [if_neg z] at hr
            exact hk.2 k' f' hr
        · cases q
      · cases q
    · cases q
  · cases q
theorem am_ph_new {n : Nat} {x : Int → Int} {o i nx : Nat} {ls : am_Ls} {st : List am_V} {h : am_H} {y : am_Nx} (hk : am_okh h) (q : am_new o i nx ls st h = some y) : am_Q n x (am_new o i nx ls st (am_ph n x h)) y := by
  obtain ⟨S, R, I, L⟩ := h
  have h0 : S[0]? = some (9, 0) := hk.1
  have el : ((9, n) :: S.tail).length = S.length := by
    cases S with
    | nil => cases h0
    | cons a T => rfl
  unfold am_new at q ⊢
  split at q
  · next c e =>
    (try rw [e])
    cases q
    refine ⟨?_, am_okh_fresh hk _ _ _, trivial⟩
    have ef := am_ph_fresh n x R I L h0 (c + 3, 0)
    show some (Sum.inl (nx, ls, Sum.inr (Sum.inr (some ((9, n) :: S.tail).length)) :: st, (((9, n) :: S.tail) ++ [(c + 3, 0)], am_zR R ((9, n) :: S.tail).length, am_zI (fun k j => if k = 0 then x j else I k j) ((9, n) :: S.tail).length, am_zL L ((9, n) :: S.tail).length))) = some (Sum.inl (nx, ls, Sum.inr (Sum.inr (some S.length)) :: st, am_ph n x _))
    rw [ef, el]
  · cases q
theorem am_ph_newa {n : Nat} {x : Int → Int} {a : ArrayType} {nx : Nat} {ls : am_Ls} {st : List am_V} {h : am_H} {y : am_Nx} (hk : am_okh h) (q : am_newa a nx ls st h = some y) : am_Q n x (am_newa a nx ls st (am_ph n x h)) y := by
  obtain ⟨S, R, I, L⟩ := h
  have h0 : S[0]? = some (9, 0) := hk.1
  have el : ((9, n) :: S.tail).length = S.length := by
    cases S with
    | nil => cases h0
    | cons a T => rfl
  have ef := am_ph_fresh n x R I L h0
  have fin : ∀ (p : Nat × Nat) (r : List am_V), am_Q n x (am_go nx ls (.inr (.inr (some ((9, n) :: S.tail).length)) :: r) (((9, n) :: S.tail) ++ [p], am_zR R ((9, n) :: S.tail).length, am_zI (fun k j => if k = 0 then x j else I k j) ((9, n) :: S.tail).length, am_zL L ((9, n) :: S.tail).length)) (.inl (nx, ls, .inr (.inr (some S.length)) :: r, (S ++ [p], am_zR R S.length, am_zI I S.length, am_zL L S.length))) := fun p r => by
    refine ⟨?_, am_okh_fresh hk _ _ _, trivial⟩
    show some (Sum.inl (nx, ls, Sum.inr (Sum.inr (some ((9, n) :: S.tail).length)) :: r, _)) = some (Sum.inl (nx, ls, Sum.inr (Sum.inr (some S.length)) :: r, am_ph n x _))
    rw [ef p, el]
  unfold am_newa at q ⊢
  split at q
  · split at q
    · next g => (try dsimp only); rw [if_pos g]; cases q; exact fin _ _
    · cases q
  · split at q
    · next g => (try dsimp only); rw [if_pos g]; cases q; exact fin _ _
    · cases q
  · split at q
    · next g => (try dsimp only); rw [if_pos g]; cases q; exact fin _ _
    · cases q
  · cases q
theorem am_mk_183 : ∀ e ∈ am_mk, e.2.2.1 ≠ 183 := by decide +kernel
theorem am_ph_inv {n : Nat} {x : Int → Int} {kd o i nx : Nat} {ls : am_Ls} {st : List am_V} {h : am_H} {y : am_Nx} (hk : am_okh h) (q : am_inv kd o i nx ls st h = some y) : am_Q n x (am_inv kd o i nx ls st (am_ph n x h)) y := by
  unfold am_inv at q ⊢
  split at q
  · next k j m e =>
    have hm := am_lk_mem _ _ _ e
    have hj : j ≠ 183 := am_mk_183 _ hm
    (try rw [e])
    (try dsimp only)
    split at q
    · next w =>
      (try rw [w])
      (try dsimp only)
      split at q
      · next mm e2 =>
        (try rw [e2])
        (try dsimp only)
        split at q
        · next g =>
          have e3 : (am_ph n x h).1[_]? = some (mm.2.2.2.2 + 3, 0) := (am_S0 hk.1 n g.2.1).trans g.1
          rw [if_pos ⟨e3, g.2⟩]
          cases q
          exact ⟨rfl, hk, hj⟩
        · cases q
      · cases q
    · next w =>
      (try rw [w])
      (try dsimp only)
      split at q
      · next g => rw [if_pos g]; cases q; exact ⟨rfl, hk, hj⟩
      · cases q
    · next w =>
      (try rw [w])
      (try dsimp only)
      split at q
      · next g => rw [if_pos g]; exact am_ph_go hk q
      · cases q
    · next w =>
      (try rw [w])
      (try dsimp only)
      split at q
      · next g => rw [if_pos g]; cases q; exact ⟨rfl, hk, hj⟩
      · cases q
    · next w =>
      (try rw [w])
      (try dsimp only)
      split at q
      · next g => rw [if_pos g]; cases q; exact ⟨rfl, hk, hj⟩
      · cases q
    · next w =>
      (try rw [w])
      (try dsimp only)
      split at q
      · next g => rw [if_pos g]; exact am_ph_go hk q
      · cases q
    · cases q
  · cases q
theorem am_ph_ret {n : Nat} {x : Int → Int} {rt : Option FieldType} {st : List am_V} {h : am_H} {y : am_Nx} (hk : am_okh h) (q : am_ret rt st h = some y) : am_Q n x (am_ret rt st (am_ph n x h)) y := by
  unfold am_ret at q ⊢
  split at q
  · cases q; exact ⟨rfl, hk, trivial⟩
  · split at q
    · next g => (try dsimp only); rw [if_pos g]; cases q; exact ⟨rfl, hk, trivial⟩
    · cases q
  · cases q
theorem am_ph_next {n : Nat} {x : Int → Int} {mt : am_M} {i : Instr} {nn pc : Nat} {ls : am_Ls} {st : List am_V} {h : am_H} {y : am_Nx} (ho : mt.2.2.2.2 ≠ 10) (hk : am_okh h) (q : am_next mt i nn pc ls st h = some y) : am_Q n x (am_next mt i nn pc ls st (am_ph n x h)) y := by
  cases i <;> simp only [am_next] at q ⊢ <;> first
    | (cases q; done)
    | exact am_ph_go hk q
    | exact am_ph_load hk q
    | exact am_ph_store hk q
    | exact am_ph_bin hk q
    | exact am_ph_binL hk q
    | exact am_ph_jmp hk q
    | exact am_ph_ial ho hk q
    | exact am_ph_bal hk q
    | exact am_ph_lal hk q
    | exact am_ph_ias hk q
    | exact am_ph_bas hk q
    | exact am_ph_las hk q
    | exact am_ph_len ho hk q
    | exact am_ph_gf hk q
    | exact am_ph_pf hk q
    | exact am_ph_new hk q
    | exact am_ph_newa hk q
    | exact am_ph_inv hk q
    | exact am_ph_ret hk q
    | (split at q <;> first | (cases q; done) | exact am_ph_go hk q | exact am_ph_jmp hk q | (cases q; exact ⟨rfl, hk, trivial⟩) | (split at q <;> first | (cases q; done) | (next g => rw [if_pos g]; first | exact am_ph_go hk q | exact am_ph_jmp hk q) | (next g => rw [if_neg g]; first | exact am_ph_go hk q | exact am_ph_jmp hk q) | exact am_ph_go hk q | exact am_ph_jmp hk q))
theorem am_ml_10 : ∀ j : Fin 183, ∀ m ∈ am_ml[j.val]?, m.2.2.2.2 ≠ 10 := by decide +kernel
theorem am_ml_len : am_ml.length = 184 := by decide +kernel
theorem am_ml_n10 {j : Nat} {m : am_M} (hj : j ≠ 183) (h : am_ml[j]? = some m) : m.2.2.2.2 ≠ 10 := by
  have hl := (List.getElem?_eq_some_iff.mp h).1
  rw [am_ml_len] at hl
  exact am_ml_10 ⟨j, by omega⟩ m h
def am_clP (n : Nat) (x : Int → Int) (cl : am_C) : Prop := ∀ (j : Nat) (as : List am_V) (h : am_H) (v : Option am_V) (h2 : am_H), j ≠ 183 → am_okh h → cl j as h = some (v, h2) → cl j as (am_ph n x h) = some (v, am_ph n x h2) ∧ am_okh h2
theorem am_ph_run {n : Nat} {x : Int → Int} {cl : am_C} (hcl : am_clP n x cl) {j : Nat} (hj : j ≠ 183) : ∀ (f pc : Nat) (ls : am_Ls) (st : List am_V) (h : am_H) (r : am_Re), am_okh h → am_run cl j f pc ls st h = some r → am_run cl j f pc ls st (am_ph n x h) = some (r.1, am_ph n x r.2) ∧ am_okh r.2 := by
  intro f
  induction f with
  | zero => intro pc ls st h r _ q; cases q
  | succ f ih =>
    intro pc ls st h r hk q
    unfold am_run at q ⊢
    cases hx : am_one j pc ls st h with
    | none => rw [hx] at q; cases q
    | some y =>
      rw [hx] at q
      have hy : am_Q n x (am_one j pc ls st (am_ph n x h)) y := by
        unfold am_one at hx ⊢
        cases hm : am_ml[j]? with
        | none => rw [hm] at hx; cases hx
        | some m =>
          cases hc : am_code j pc with
          | none => rw [hm, hc] at hx; cases hx
          | some c =>
            obtain ⟨i, nn⟩ := c
            rw [hm, hc] at hx
            exact am_ph_next (am_ml_n10 hj hm) hk hx
      obtain ⟨e1, e2, e3⟩ := hy
      rw [e1]
      match y, q, e2, e3 with
      | .inl (pc2, ls2, st2, h2), q, e2, e3 => exact ih pc2 ls2 st2 h2 r e2 q
      | .inr (.inl (v, h2)), q, e2, e3 => cases q; exact ⟨rfl, e2⟩
      | .inr (.inr (j2, as, pc2, ls2, r2, h2)), q, e2, e3 =>
        have q : (match cl j2 as h2 with | none => none | some (v, h') => am_run cl j f pc2 ls2 (v.toList ++ r2) h') = some r := q
        cases hz : cl j2 as h2 with
        | none => rw [hz] at q; cases q
        | some w =>
          obtain ⟨v, h3⟩ := w
          rw [hz] at q
          obtain ⟨g1, g2⟩ := hcl j2 as h2 v h3 e3 e2 hz
          show (match cl j2 as (am_ph n x h2) with | none => none | some (v, h') => am_run cl j f pc2 ls2 (v.toList ++ r2) h') = _ ∧ _
          rw [g1]
          exact ih pc2 ls2 (v.toList ++ r2) h3 r g2 q
theorem am_ph_rc (n : Nat) (x : Int → Int) (f : Nat) : ∀ d : Nat, am_clP n x (am_rc f d) := by
  intro d
  induction d with
  | zero => intro j as h v h2 _ _ q; cases q
  | succ d ih =>
    intro j as h v h2 hj hk q
    unfold am_rc at q ⊢
    cases hm : am_ml[j]? with
    | none => rw [hm] at q; cases q
    | some m =>
      rw [hm] at q
      by_cases g : (am_ent as).length ≤ m.2.2.1
      · have q : (if (am_ent as).length ≤ m.2.2.1 then am_run (am_rc f d) j f 0 (am_pad m.2.2.1 (am_ent as)) [] h else none) = some (v, h2) := q
        rw [if_pos g] at q
        obtain ⟨e1, e2⟩ := am_ph_run ih hj f 0 _ [] h (v, h2) hk q
        refine ⟨?_, e2⟩
        show (if (am_ent as).length ≤ m.2.2.1 then am_run (am_rc f d) j f 0 (am_pad m.2.2.1 (am_ent as)) [] (am_ph n x h) else none) = _
        rw [if_pos g]
        exact e1
      · have q : (if (am_ent as).length ≤ m.2.2.1 then am_run (am_rc f d) j f 0 (am_pad m.2.2.1 (am_ent as)) [] h else none) = some (v, h2) := q
        rw [if_neg g] at q
        cases q
theorem am_run_cl {c1 c2 : am_C} (hc : ∀ j as h r, c1 j as h = some r → c2 j as h = some r) {j : Nat} : ∀ (f pc : Nat) (ls : am_Ls) (st : List am_V) (h : am_H) (r : am_Re), am_run c1 j f pc ls st h = some r → am_run c2 j f pc ls st h = some r := by
  intro f
  induction f with
  | zero => intro pc ls st h r q; cases q
  | succ f ih =>
    intro pc ls st h r q
    unfold am_run at q ⊢
    cases hx : am_one j pc ls st h with
    | none => rw [hx] at q; cases q
    | some y =>
      rw [hx] at q
      match y, q with
      | .inl (pc2, ls2, st2, h2), q => exact ih pc2 ls2 st2 h2 r q
      | .inr (.inl w), q => exact q
      | .inr (.inr (j2, as, pc2, ls2, r2, h2)), q =>
        have q : (match c1 j2 as h2 with | none => none | some (v, h') => am_run c1 j f pc2 ls2 (v.toList ++ r2) h') = some r := q
        cases hz : c1 j2 as h2 with
        | none => rw [hz] at q; cases q
        | some w =>
          obtain ⟨v, h3⟩ := w
          rw [hz] at q
          have g := hc j2 as h2 _ hz
          show (match c2 j2 as h2 with | none => none | some (v, h') => am_run c2 j f pc2 ls2 (v.toList ++ r2) h') = _
          rw [g]
          exact ih pc2 ls2 (v.toList ++ r2) h3 r q
theorem am_rc_call (f : Nat) : ∀ (d j : Nat) (as : List am_V) (h : am_H) (r : am_Re), am_rc f d j as h = some r → am_call d j as h = some r := by
  intro d
  induction d with
  | zero => intro j as h r q; cases q
  | succ d ih =>
    intro j as h r q
    unfold am_rc at q
    unfold am_call
    cases hm : am_ml[j]? with
    | none => rw [hm] at q; cases q
    | some m =>
      rw [hm] at q
      by_cases g : (am_ent as).length ≤ m.2.2.1
      · have q : (if (am_ent as).length ≤ m.2.2.1 then am_run (am_rc f d) j f 0 (am_pad m.2.2.1 (am_ent as)) [] h else none) = some r := q
        rw [if_pos g] at q
        show (if (am_ent as).length ≤ m.2.2.1 then am_go0 (am_call d) j 0 (am_pad m.2.2.1 (am_ent as)) [] h else none) = _
        rw [if_pos g]
        exact am_go0_iff.mpr ⟨f, am_run_cl ih f 0 _ [] h r q⟩
      · have q : (if (am_ent as).length ≤ m.2.2.1 then am_run (am_rc f d) j f 0 (am_pad m.2.2.1 (am_ent as)) [] h else none) = some r := q
        rw [if_neg g] at q
        cases q
