theorem d_182_0 : am_code 182 0 = some (.iconst 0, 1) := by decide +kernel
theorem s_182_0 (cl : am_C) (ls : am_Ls) (st : List am_V) (h : am_H) : am_go0 cl 182 0 ls st h = am_go0 cl 182 1 ls (.inl 0 :: st) h := am_rK am_m182 d_182_0 (by decide) rfl _ _ _
theorem d_182_1 : am_code 182 1 = some (.istore_n 2, 1) := by decide +kernel
theorem s_182_1 (cl : am_C) (a0 a1 a2 a3 : Option am_V) (x : Int) (st : List am_V) (h : am_H) : am_go0 cl 182 1 [a0, a1, a2, a3] (.inl x :: st) h = am_go0 cl 182 2 [a0, am_c1 a1, some (.inl x), a3] st h := am_r am_m182 d_182_1 rfl
theorem d_182_2 : am_code 182 2 = some (.aload_n 0, 1) := by decide +kernel
theorem s_182_2 (cl : am_C) (a1 a2 a3 : Option am_V) (x : Nat) (st : List am_V) (h : am_H) : am_go0 cl 182 2 [some (.inr (.inr (some x))), a1, a2, a3] st h = am_go0 cl 182 3 [some (.inr (.inr (some x))), a1, a2, a3] (.inr (.inr (some x)) :: st) h := am_r am_m182 d_182_2 rfl
theorem d_182_3 : am_code 182 3 = some (.arraylength, 1) := by decide +kernel
theorem s_182_3 (cl : am_C) (ls : am_Ls) (k : Nat) (st : List am_V) (h : am_H) (q : Nat) (hq : h.1[k]? = some (0, q)) (hk : k ≠ 0) (h9 : q < 2147483648) : am_go0 cl 182 3 ls (.inr (.inr (some k)) :: st) h = am_go0 cl 182 4 ls (.inl (q : Int) :: st) h := am_r am_m182 d_182_3 (by simp [am_next, am_len, am_go, hq, hk, h9])
theorem d_182_4 : am_code 182 4 = some (.istore_n 3, 1) := by decide +kernel
theorem s_182_4 (cl : am_C) (a0 a1 a2 a3 : Option am_V) (x : Int) (st : List am_V) (h : am_H) : am_go0 cl 182 4 [a0, a1, a2, a3] (.inl x :: st) h = am_go0 cl 182 5 [a0, a1, am_c1 a2, some (.inl x)] st h := am_r am_m182 d_182_4 rfl
theorem d_182_5 : am_code 182 5 = some (.iload_n 2, 1) := by decide +kernel
theorem s_182_5 (cl : am_C) (a0 a1 a3 : Option am_V) (x : Int) (st : List am_V) (h : am_H) : am_go0 cl 182 5 [a0, a1, some (.inl x), a3] st h = am_go0 cl 182 6 [a0, a1, some (.inl x), a3] (.inl x :: st) h := am_r am_m182 d_182_5 rfl
theorem d_182_6 : am_code 182 6 = some (.iload_n 3, 1) := by decide +kernel
theorem s_182_6 (cl : am_C) (a0 a1 a2 : Option am_V) (x : Int) (st : List am_V) (h : am_H) : am_go0 cl 182 6 [a0, a1, a2, some (.inl x)] st h = am_go0 cl 182 7 [a0, a1, a2, some (.inl x)] (.inl x :: st) h := am_r am_m182 d_182_6 rfl
theorem d_182_7 : am_code 182 7 = some (.if_icmp .ge 13, 3) := by decide +kernel
theorem s_182_7 (cl : am_C) (ls : am_Ls) (x y : Int) (st : List am_V) (h : am_H) : am_go0 cl 182 7 ls (.inl y :: .inl x :: st) h = if x < y then am_go0 cl 182 10 ls st h else am_go0 cl 182 20 ls st h := (am_rJ0 am_m182 d_182_7 (by decide) rfl x y ls st h).trans (am_ifF ((am_cmp_ge x y).trans Int.not_lt.symm) _ _)
theorem d_182_10 : am_code 182 10 = some (.aload_n 0, 1) := by decide +kernel
theorem s_182_10 (cl : am_C) (a1 a2 a3 : Option am_V) (x : Nat) (st : List am_V) (h : am_H) : am_go0 cl 182 10 [some (.inr (.inr (some x))), a1, a2, a3] st h = am_go0 cl 182 11 [some (.inr (.inr (some x))), a1, a2, a3] (.inr (.inr (some x)) :: st) h := am_r am_m182 d_182_10 rfl
theorem d_182_11 : am_code 182 11 = some (.iload_n 2, 1) := by decide +kernel
theorem s_182_11 (cl : am_C) (a0 a1 a3 : Option am_V) (x : Int) (st : List am_V) (h : am_H) : am_go0 cl 182 11 [a0, a1, some (.inl x), a3] st h = am_go0 cl 182 12 [a0, a1, some (.inl x), a3] (.inl x :: st) h := am_r am_m182 d_182_11 rfl
theorem d_182_12 : am_code 182 12 = some (.iload_n 1, 1) := by decide +kernel
theorem s_182_12 (cl : am_C) (a0 a2 a3 : Option am_V) (x : Int) (st : List am_V) (h : am_H) : am_go0 cl 182 12 [a0, some (.inl x), a2, a3] st h = am_go0 cl 182 13 [a0, some (.inl x), a2, a3] (.inl x :: st) h := am_r am_m182 d_182_12 rfl
theorem d_182_13 : am_code 182 13 = some (.iastore, 1) := by decide +kernel
theorem s_182_13 (cl : am_C) (ls : am_Ls) (i : Int) (v : Int) (k : Nat) (st : List am_V) (N : Nat) (I : Nat → Int → Int) (L : Nat → Int → Int64) : am_go0 cl 182 13 ls (.inl v :: .inl i :: .inr (.inr (some k)) :: st) (am_GS N, am_GR, I, L) = if am_inb (am_GS N) k 0 i = true then am_go0 cl 182 14 ls st (am_GS N, am_GR, am_uI I k i v, L) else none := am_rS am_m182 d_182_13 rfl k ls st i v _ _ I L
theorem d_182_14 : am_code 182 14 = some (.iinc 2 1, 3) := by decide +kernel
theorem s_182_14 (cl : am_C) (a0 a1 a3 : Option am_V) (x : Int) (st : List am_V) (h : am_H) : am_go0 cl 182 14 [a0, a1, some (.inl x), a3] st h = am_go0 cl 182 17 [a0, am_c1 a1, some (.inl (am_wr (x + 1))), a3] st h := am_r am_m182 d_182_14 rfl
theorem d_182_17 : am_code 182 17 = some (.goto (-12), 3) := by decide +kernel
theorem s_182_17 (cl : am_C) (ls : am_Ls) (st : List am_V) (h : am_H) : am_go0 cl 182 17 ls st h = am_go0 cl 182 5 ls st h := am_rGo am_m182 d_182_17 (by decide) _ _ _
theorem d_182_20 : am_code 182 20 = some (.return_, 1) := by decide +kernel
theorem s_182_20 (cl : am_C) (ls : am_Ls) (h : am_H) : am_go0 cl 182 20 ls [] h = some (none, h) := am_rE am_m182 d_182_20 rfl
theorem e_182 (d : Nat) (p0 : Nat) (p1 : Int) (h : am_H) : am_call (d + 1) 182 [.inr (.inr (some p0)), .inl p1] h = am_go0 (am_call d) 182 0 [some (.inr (.inr (some p0))), some (.inl p1), none, none] [] h := am_callE am_m182 (Nat.le_of_ble_eq_true rfl) rfl
