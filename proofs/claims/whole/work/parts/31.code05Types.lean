theorem d_70_0 : am_code 70 0 = some (.aload_n 0, 1) := by decide +kernel
theorem s_70_0 (cl : am_C) (a1 a2 a3 a4 : Option am_V) (x : Nat) (st : List am_V) (h : am_H) : am_go0 cl 70 0 [some (.inr (.inr (some x))), a1, a2, a3, a4] st h = am_go0 cl 70 1 [some (.inr (.inr (some x))), a1, a2, a3, a4] (.inr (.inr (some x)) :: st) h := am_r am_m70 d_70_0 rfl
theorem d_70_1 : am_code 70 1 = some (.getfield 19, 3) := by decide +kernel
theorem s_70_1 (cl : am_C) (ls : am_Ls) (st : List am_V) (N : Nat) (I : Nat → Int → Int) (L : Nat → Int → Int64) : am_go0 cl 70 1 ls (.inr (.inr (some 2)) :: st) (am_GS N, am_GR, I, L) = am_go0 cl 70 4 ls (.inr (.inr (some 4)) :: st) (am_GS N, am_GR, I, L) := am_rG2 am_m70 d_70_1 am_f5019 rfl (gs_2 N) (by decide) gr_2_2 rfl
theorem d_70_4 : am_code 70 4 = some (.aload_n 0, 1) := by decide +kernel
theorem s_70_4 (cl : am_C) (a1 a2 a3 a4 : Option am_V) (x : Nat) (st : List am_V) (h : am_H) : am_go0 cl 70 4 [some (.inr (.inr (some x))), a1, a2, a3, a4] st h = am_go0 cl 70 5 [some (.inr (.inr (some x))), a1, a2, a3, a4] (.inr (.inr (some x)) :: st) h := am_r am_m70 d_70_4 rfl
theorem d_70_5 : am_code 70 5 = some (.getfield 31, 3) := by decide +kernel
theorem s_70_5 (cl : am_C) (ls : am_Ls) (st : List am_V) (N : Nat) (I : Nat → Int → Int) (L : Nat → Int → Int64) : am_go0 cl 70 5 ls (.inr (.inr (some 2)) :: st) (am_GS N, am_GR, I, L) = am_go0 cl 70 8 ls (.inl (I 2 6) :: st) (am_GS N, am_GR, I, L) := am_rG0 am_m70 d_70_5 am_f5031 rfl (gs_2 N) (by decide) rfl
theorem d_70_8 : am_code 70 8 = some (.iload_n 1, 1) := by decide +kernel
theorem s_70_8 (cl : am_C) (a0 a2 a3 a4 : Option am_V) (x : Int) (st : List am_V) (h : am_H) : am_go0 cl 70 8 [a0, some (.inl x), a2, a3, a4] st h = am_go0 cl 70 9 [a0, some (.inl x), a2, a3, a4] (.inl x :: st) h := am_r am_m70 d_70_8 rfl
theorem d_70_9 : am_code 70 9 = some (.iastore, 1) := by decide +kernel
theorem s_70_9 (cl : am_C) (ls : am_Ls) (i : Int) (v : Int) (k : Nat) (st : List am_V) (N : Nat) (I : Nat → Int → Int) (L : Nat → Int → Int64) : am_go0 cl 70 9 ls (.inl v :: .inl i :: .inr (.inr (some k)) :: st) (am_GS N, am_GR, I, L) = if am_inb (am_GS N) k 0 i = true then am_go0 cl 70 10 ls st (am_GS N, am_GR, am_uI I k i v, L) else none := am_rS am_m70 d_70_9 rfl k ls st i v _ _ I L
theorem d_70_10 : am_code 70 10 = some (.aload_n 0, 1) := by decide +kernel
theorem s_70_10 (cl : am_C) (a1 a2 a3 a4 : Option am_V) (x : Nat) (st : List am_V) (h : am_H) : am_go0 cl 70 10 [some (.inr (.inr (some x))), a1, a2, a3, a4] st h = am_go0 cl 70 11 [some (.inr (.inr (some x))), a1, a2, a3, a4] (.inr (.inr (some x)) :: st) h := am_r am_m70 d_70_10 rfl
theorem d_70_11 : am_code 70 11 = some (.getfield 22, 3) := by decide +kernel
theorem s_70_11 (cl : am_C) (ls : am_Ls) (st : List am_V) (N : Nat) (I : Nat → Int → Int) (L : Nat → Int → Int64) : am_go0 cl 70 11 ls (.inr (.inr (some 2)) :: st) (am_GS N, am_GR, I, L) = am_go0 cl 70 14 ls (.inr (.inr (some 5)) :: st) (am_GS N, am_GR, I, L) := am_rG2 am_m70 d_70_11 am_f5022 rfl (gs_2 N) (by decide) gr_2_3 rfl
theorem d_70_14 : am_code 70 14 = some (.aload_n 0, 1) := by decide +kernel
theorem s_70_14 (cl : am_C) (a1 a2 a3 a4 : Option am_V) (x : Nat) (st : List am_V) (h : am_H) : am_go0 cl 70 14 [some (.inr (.inr (some x))), a1, a2, a3, a4] st h = am_go0 cl 70 15 [some (.inr (.inr (some x))), a1, a2, a3, a4] (.inr (.inr (some x)) :: st) h := am_r am_m70 d_70_14 rfl
theorem d_70_15 : am_code 70 15 = some (.getfield 31, 3) := by decide +kernel
theorem s_70_15 (cl : am_C) (ls : am_Ls) (st : List am_V) (N : Nat) (I : Nat → Int → Int) (L : Nat → Int → Int64) : am_go0 cl 70 15 ls (.inr (.inr (some 2)) :: st) (am_GS N, am_GR, I, L) = am_go0 cl 70 18 ls (.inl (I 2 6) :: st) (am_GS N, am_GR, I, L) := am_rG0 am_m70 d_70_15 am_f5031 rfl (gs_2 N) (by decide) rfl
theorem d_70_18 : am_code 70 18 = some (.iload_n 2, 1) := by decide +kernel
theorem s_70_18 (cl : am_C) (a0 a1 a3 a4 : Option am_V) (x : Int) (st : List am_V) (h : am_H) : am_go0 cl 70 18 [a0, a1, some (.inl x), a3, a4] st h = am_go0 cl 70 19 [a0, a1, some (.inl x), a3, a4] (.inl x :: st) h := am_r am_m70 d_70_18 rfl
theorem d_70_19 : am_code 70 19 = some (.iastore, 1) := by decide +kernel
theorem s_70_19 (cl : am_C) (ls : am_Ls) (i : Int) (v : Int) (k : Nat) (st : List am_V) (N : Nat) (I : Nat → Int → Int) (L : Nat → Int → Int64) : am_go0 cl 70 19 ls (.inl v :: .inl i :: .inr (.inr (some k)) :: st) (am_GS N, am_GR, I, L) = if am_inb (am_GS N) k 0 i = true then am_go0 cl 70 20 ls st (am_GS N, am_GR, am_uI I k i v, L) else none := am_rS am_m70 d_70_19 rfl k ls st i v _ _ I L
theorem d_70_20 : am_code 70 20 = some (.aload_n 0, 1) := by decide +kernel
theorem s_70_20 (cl : am_C) (a1 a2 a3 a4 : Option am_V) (x : Nat) (st : List am_V) (h : am_H) : am_go0 cl 70 20 [some (.inr (.inr (some x))), a1, a2, a3, a4] st h = am_go0 cl 70 21 [some (.inr (.inr (some x))), a1, a2, a3, a4] (.inr (.inr (some x)) :: st) h := am_r am_m70 d_70_20 rfl
theorem d_70_21 : am_code 70 21 = some (.getfield 25, 3) := by decide +kernel
theorem s_70_21 (cl : am_C) (ls : am_Ls) (st : List am_V) (N : Nat) (I : Nat → Int → Int) (L : Nat → Int → Int64) : am_go0 cl 70 21 ls (.inr (.inr (some 2)) :: st) (am_GS N, am_GR, I, L) = am_go0 cl 70 24 ls (.inr (.inr (some 6)) :: st) (am_GS N, am_GR, I, L) := am_rG2 am_m70 d_70_21 am_f5025 rfl (gs_2 N) (by decide) gr_2_4 rfl
theorem d_70_24 : am_code 70 24 = some (.aload_n 0, 1) := by decide +kernel
theorem s_70_24 (cl : am_C) (a1 a2 a3 a4 : Option am_V) (x : Nat) (st : List am_V) (h : am_H) : am_go0 cl 70 24 [some (.inr (.inr (some x))), a1, a2, a3, a4] st h = am_go0 cl 70 25 [some (.inr (.inr (some x))), a1, a2, a3, a4] (.inr (.inr (some x)) :: st) h := am_r am_m70 d_70_24 rfl
theorem d_70_25 : am_code 70 25 = some (.getfield 31, 3) := by decide +kernel
theorem s_70_25 (cl : am_C) (ls : am_Ls) (st : List am_V) (N : Nat) (I : Nat → Int → Int) (L : Nat → Int → Int64) : am_go0 cl 70 25 ls (.inr (.inr (some 2)) :: st) (am_GS N, am_GR, I, L) = am_go0 cl 70 28 ls (.inl (I 2 6) :: st) (am_GS N, am_GR, I, L) := am_rG0 am_m70 d_70_25 am_f5031 rfl (gs_2 N) (by decide) rfl
theorem d_70_28 : am_code 70 28 = some (.iload_n 3, 1) := by decide +kernel
theorem s_70_28 (cl : am_C) (a0 a1 a2 a4 : Option am_V) (x : Int) (st : List am_V) (h : am_H) : am_go0 cl 70 28 [a0, a1, a2, some (.inl x), a4] st h = am_go0 cl 70 29 [a0, a1, a2, some (.inl x), a4] (.inl x :: st) h := am_r am_m70 d_70_28 rfl
theorem d_70_29 : am_code 70 29 = some (.iastore, 1) := by decide +kernel
theorem s_70_29 (cl : am_C) (ls : am_Ls) (i : Int) (v : Int) (k : Nat) (st : List am_V) (N : Nat) (I : Nat → Int → Int) (L : Nat → Int → Int64) : am_go0 cl 70 29 ls (.inl v :: .inl i :: .inr (.inr (some k)) :: st) (am_GS N, am_GR, I, L) = if am_inb (am_GS N) k 0 i = true then am_go0 cl 70 30 ls st (am_GS N, am_GR, am_uI I k i v, L) else none := am_rS am_m70 d_70_29 rfl k ls st i v _ _ I L
theorem d_70_30 : am_code 70 30 = some (.aload_n 0, 1) := by decide +kernel
theorem s_70_30 (cl : am_C) (a1 a2 a3 a4 : Option am_V) (x : Nat) (st : List am_V) (h : am_H) : am_go0 cl 70 30 [some (.inr (.inr (some x))), a1, a2, a3, a4] st h = am_go0 cl 70 31 [some (.inr (.inr (some x))), a1, a2, a3, a4] (.inr (.inr (some x)) :: st) h := am_r am_m70 d_70_30 rfl
theorem d_70_31 : am_code 70 31 = some (.getfield 28, 3) := by decide +kernel
theorem s_70_31 (cl : am_C) (ls : am_Ls) (st : List am_V) (N : Nat) (I : Nat → Int → Int) (L : Nat → Int → Int64) : am_go0 cl 70 31 ls (.inr (.inr (some 2)) :: st) (am_GS N, am_GR, I, L) = am_go0 cl 70 34 ls (.inr (.inr (some 7)) :: st) (am_GS N, am_GR, I, L) := am_rG2 am_m70 d_70_31 am_f5028 rfl (gs_2 N) (by decide) gr_2_5 rfl
theorem d_70_34 : am_code 70 34 = some (.aload_n 0, 1) := by decide +kernel
theorem s_70_34 (cl : am_C) (a1 a2 a3 a4 : Option am_V) (x : Nat) (st : List am_V) (h : am_H) : am_go0 cl 70 34 [some (.inr (.inr (some x))), a1, a2, a3, a4] st h = am_go0 cl 70 35 [some (.inr (.inr (some x))), a1, a2, a3, a4] (.inr (.inr (some x)) :: st) h := am_r am_m70 d_70_34 rfl
theorem d_70_35 : am_code 70 35 = some (.getfield 31, 3) := by decide +kernel
theorem s_70_35 (cl : am_C) (ls : am_Ls) (st : List am_V) (N : Nat) (I : Nat → Int → Int) (L : Nat → Int → Int64) : am_go0 cl 70 35 ls (.inr (.inr (some 2)) :: st) (am_GS N, am_GR, I, L) = am_go0 cl 70 38 ls (.inl (I 2 6) :: st) (am_GS N, am_GR, I, L) := am_rG0 am_m70 d_70_35 am_f5031 rfl (gs_2 N) (by decide) rfl
theorem d_70_38 : am_code 70 38 = some (.iload 4, 2) := by decide +kernel
theorem s_70_38 (cl : am_C) (a0 a1 a2 a3 : Option am_V) (x : Int) (st : List am_V) (h : am_H) : am_go0 cl 70 38 [a0, a1, a2, a3, some (.inl x)] st h = am_go0 cl 70 40 [a0, a1, a2, a3, some (.inl x)] (.inl x :: st) h := am_r am_m70 d_70_38 rfl
theorem d_70_40 : am_code 70 40 = some (.iastore, 1) := by decide +kernel
theorem s_70_40 (cl : am_C) (ls : am_Ls) (i : Int) (v : Int) (k : Nat) (st : List am_V) (N : Nat) (I : Nat → Int → Int) (L : Nat → Int → Int64) : am_go0 cl 70 40 ls (.inl v :: .inl i :: .inr (.inr (some k)) :: st) (am_GS N, am_GR, I, L) = if am_inb (am_GS N) k 0 i = true then am_go0 cl 70 41 ls st (am_GS N, am_GR, am_uI I k i v, L) else none := am_rS am_m70 d_70_40 rfl k ls st i v _ _ I L
theorem d_70_41 : am_code 70 41 = some (.aload_n 0, 1) := by decide +kernel
theorem s_70_41 (cl : am_C) (a1 a2 a3 a4 : Option am_V) (x : Nat) (st : List am_V) (h : am_H) : am_go0 cl 70 41 [some (.inr (.inr (some x))), a1, a2, a3, a4] st h = am_go0 cl 70 42 [some (.inr (.inr (some x))), a1, a2, a3, a4] (.inr (.inr (some x)) :: st) h := am_r am_m70 d_70_41 rfl
theorem d_70_42 : am_code 70 42 = some (.dup, 1) := by decide +kernel
theorem s_70_42 (cl : am_C) (ls : am_Ls) (x : Nat) (st : List am_V) (h : am_H) : am_go0 cl 70 42 ls (.inr (.inr (some x)) :: st) h = am_go0 cl 70 43 ls (.inr (.inr (some x)) :: .inr (.inr (some x)) :: st) h := am_r am_m70 d_70_42 rfl
theorem d_70_43 : am_code 70 43 = some (.getfield 31, 3) := by decide +kernel
theorem s_70_43 (cl : am_C) (ls : am_Ls) (st : List am_V) (N : Nat) (I : Nat → Int → Int) (L : Nat → Int → Int64) : am_go0 cl 70 43 ls (.inr (.inr (some 2)) :: st) (am_GS N, am_GR, I, L) = am_go0 cl 70 46 ls (.inl (I 2 6) :: st) (am_GS N, am_GR, I, L) := am_rG0 am_m70 d_70_43 am_f5031 rfl (gs_2 N) (by decide) rfl
theorem d_70_46 : am_code 70 46 = some (.dup_x1, 1) := by decide +kernel
theorem s_70_46 (cl : am_C) (ls : am_Ls) (x : Int) (y : Nat) (st : List am_V) (h : am_H) : am_go0 cl 70 46 ls (.inl x :: .inr (.inr (some y)) :: st) h = am_go0 cl 70 47 ls (.inl x :: .inr (.inr (some y)) :: .inl x :: st) h := am_r am_m70 d_70_46 rfl
theorem d_70_47 : am_code 70 47 = some (.iconst 1, 1) := by decide +kernel
theorem s_70_47 (cl : am_C) (ls : am_Ls) (st : List am_V) (h : am_H) : am_go0 cl 70 47 ls st h = am_go0 cl 70 48 ls (.inl 1 :: st) h := am_rK am_m70 d_70_47 (by decide) rfl _ _ _
theorem d_70_48 : am_code 70 48 = some (.iadd, 1) := by decide +kernel
theorem s_70_48 (cl : am_C) (ls : am_Ls) (x y : Int) (st : List am_V) (h : am_H) : am_go0 cl 70 48 ls (.inl y :: .inl x :: st) h = am_go0 cl 70 49 ls (.inl (am_wr (x + y)) :: st) h := am_r am_m70 d_70_48 rfl
theorem d_70_49 : am_code 70 49 = some (.putfield 31, 3) := by decide +kernel
theorem s_70_49 (cl : am_C) (ls : am_Ls) (v : Int) (st : List am_V) (N : Nat) (I : Nat → Int → Int) (L : Nat → Int → Int64) : am_go0 cl 70 49 ls (.inl v :: .inr (.inr (some 2)) :: st) (am_GS N, am_GR, I, L) = am_go0 cl 70 52 ls st (am_GS N, am_GR, am_uI I 2 6 v, L) := am_rP0 am_m70 d_70_49 am_f5031 rfl (gs_2 N) (by decide) rfl
theorem d_70_52 : am_code 70 52 = some (.ireturn, 1) := by decide +kernel
theorem s_70_52 (cl : am_C) (ls : am_Ls) (x : Int) (h : am_H) : am_go0 cl 70 52 ls [.inl x] h = some (some (.inl x), h) := am_rE am_m70 d_70_52 rfl
theorem e_70 (d : Nat) (t : Nat) (p0 : Int) (p1 : Int) (p2 : Int) (p3 : Int) (h : am_H) : am_call (d + 1) 70 [.inr (.inr (some t)), .inl p0, .inl p1, .inl p2, .inl p3] h = am_go0 (am_call d) 70 0 [some (.inr (.inr (some t))), some (.inl p0), some (.inl p1), some (.inl p2), some (.inl p3)] [] h := am_callE am_m70 (Nat.le_of_ble_eq_true rfl) rfl
theorem d_71_0 : am_code 71 0 = some (.iload_n 1, 1) := by decide +kernel
theorem s_71_0 (cl : am_C) (a0 : Option am_V) (x : Int) (st : List am_V) (h : am_H) : am_go0 cl 71 0 [a0, some (.inl x)] st h = am_go0 cl 71 1 [a0, some (.inl x)] (.inl x :: st) h := am_r am_m71 d_71_0 rfl
theorem d_71_1 : am_code 71 1 = some (.ifCond .lt 8, 3) := by decide +kernel
theorem s_71_1 (cl : am_C) (ls : am_Ls) (x : Int) (st : List am_V) (h : am_H) : am_go0 cl 71 1 ls (.inl x :: st) h = if x < 0 then am_go0 cl 71 9 ls st h else am_go0 cl 71 4 ls st h := (am_rJ1 am_m71 d_71_1 (by decide) rfl x ls st h).trans (am_ifT (am_cmp_lt x 0) _ _)
theorem d_71_4 : am_code 71 4 = some (.iload_n 1, 1) := by decide +kernel
theorem s_71_4 (cl : am_C) (a0 : Option am_V) (x : Int) (st : List am_V) (h : am_H) : am_go0 cl 71 4 [a0, some (.inl x)] st h = am_go0 cl 71 5 [a0, some (.inl x)] (.inl x :: st) h := am_r am_m71 d_71_4 rfl
theorem d_71_5 : am_code 71 5 = some (.iconst 2, 1) := by decide +kernel
theorem s_71_5 (cl : am_C) (ls : am_Ls) (st : List am_V) (h : am_H) : am_go0 cl 71 5 ls st h = am_go0 cl 71 6 ls (.inl 2 :: st) h := am_rK am_m71 d_71_5 (by decide) rfl _ _ _
theorem d_71_6 : am_code 71 6 = some (.if_icmp .le 6, 3) := by decide +kernel
theorem s_71_6 (cl : am_C) (ls : am_Ls) (x y : Int) (st : List am_V) (h : am_H) : am_go0 cl 71 6 ls (.inl y :: .inl x :: st) h = if y < x then am_go0 cl 71 9 ls st h else am_go0 cl 71 12 ls st h := (am_rJ0 am_m71 d_71_6 (by decide) rfl x y ls st h).trans (am_ifF ((am_cmp_le x y).trans Int.not_lt.symm) _ _)
theorem d_71_9 : am_code 71 9 = some (.bipush (-2), 2) := by decide +kernel
theorem s_71_9 (cl : am_C) (ls : am_Ls) (st : List am_V) (h : am_H) : am_go0 cl 71 9 ls st h = am_go0 cl 71 11 ls (.inl (-2) :: st) h := am_rB am_m71 d_71_9 (by decide) rfl _ _ _
theorem d_71_11 : am_code 71 11 = some (.ireturn, 1) := by decide +kernel
theorem s_71_11 (cl : am_C) (ls : am_Ls) (x : Int) (h : am_H) : am_go0 cl 71 11 ls [.inl x] h = some (some (.inl x), h) := am_rE am_m71 d_71_11 rfl
theorem d_71_12 : am_code 71 12 = some (.aload_n 0, 1) := by decide +kernel
theorem s_71_12 (cl : am_C) (a1 : Option am_V) (x : Nat) (st : List am_V) (h : am_H) : am_go0 cl 71 12 [some (.inr (.inr (some x))), a1] st h = am_go0 cl 71 13 [some (.inr (.inr (some x))), a1] (.inr (.inr (some x)) :: st) h := am_r am_m71 d_71_12 rfl
theorem d_71_13 : am_code 71 13 = some (.getfield 15, 3) := by decide +kernel
theorem s_71_13 (cl : am_C) (ls : am_Ls) (st : List am_V) (N : Nat) (I : Nat → Int → Int) (L : Nat → Int → Int64) : am_go0 cl 71 13 ls (.inr (.inr (some 2)) :: st) (am_GS N, am_GR, I, L) = am_go0 cl 71 16 ls (.inl (I 2 1) :: st) (am_GS N, am_GR, I, L) := am_rG0 am_m71 d_71_13 am_f5015 rfl (gs_2 N) (by decide) rfl
theorem d_71_16 : am_code 71 16 = some (.bipush 8, 2) := by decide +kernel
theorem s_71_16 (cl : am_C) (ls : am_Ls) (st : List am_V) (h : am_H) : am_go0 cl 71 16 ls st h = am_go0 cl 71 18 ls (.inl 8 :: st) h := am_rB am_m71 d_71_16 (by decide) rfl _ _ _
theorem d_71_18 : am_code 71 18 = some (.if_icmp .lt 6, 3) := by decide +kernel
theorem s_71_18 (cl : am_C) (ls : am_Ls) (x y : Int) (st : List am_V) (h : am_H) : am_go0 cl 71 18 ls (.inl y :: .inl x :: st) h = if x < y then am_go0 cl 71 24 ls st h else am_go0 cl 71 21 ls st h := (am_rJ0 am_m71 d_71_18 (by decide) rfl x y ls st h).trans (am_ifT (am_cmp_lt x y) _ _)
theorem d_71_21 : am_code 71 21 = some (.bipush (-3), 2) := by decide +kernel
theorem s_71_21 (cl : am_C) (ls : am_Ls) (st : List am_V) (h : am_H) : am_go0 cl 71 21 ls st h = am_go0 cl 71 23 ls (.inl (-3) :: st) h := am_rB am_m71 d_71_21 (by decide) rfl _ _ _
theorem d_71_23 : am_code 71 23 = some (.ireturn, 1) := by decide +kernel
theorem s_71_23 (cl : am_C) (ls : am_Ls) (x : Int) (h : am_H) : am_go0 cl 71 23 ls [.inl x] h = some (some (.inl x), h) := am_rE am_m71 d_71_23 rfl
theorem d_71_24 : am_code 71 24 = some (.aload_n 0, 1) := by decide +kernel
theorem s_71_24 (cl : am_C) (a1 : Option am_V) (x : Nat) (st : List am_V) (h : am_H) : am_go0 cl 71 24 [some (.inr (.inr (some x))), a1] st h = am_go0 cl 71 25 [some (.inr (.inr (some x))), a1] (.inr (.inr (some x)) :: st) h := am_r am_m71 d_71_24 rfl
theorem d_71_25 : am_code 71 25 = some (.getfield 11, 3) := by decide +kernel
theorem s_71_25 (cl : am_C) (ls : am_Ls) (st : List am_V) (N : Nat) (I : Nat → Int → Int) (L : Nat → Int → Int64) : am_go0 cl 71 25 ls (.inr (.inr (some 2)) :: st) (am_GS N, am_GR, I, L) = am_go0 cl 71 28 ls (.inr (.inr (some 3)) :: st) (am_GS N, am_GR, I, L) := am_rG2 am_m71 d_71_25 am_f5011 rfl (gs_2 N) (by decide) gr_2_0 rfl
theorem d_71_28 : am_code 71 28 = some (.aload_n 0, 1) := by decide +kernel
theorem s_71_28 (cl : am_C) (a1 : Option am_V) (x : Nat) (st : List am_V) (h : am_H) : am_go0 cl 71 28 [some (.inr (.inr (some x))), a1] st h = am_go0 cl 71 29 [some (.inr (.inr (some x))), a1] (.inr (.inr (some x)) :: st) h := am_r am_m71 d_71_28 rfl
theorem d_71_29 : am_code 71 29 = some (.getfield 15, 3) := by decide +kernel
theorem s_71_29 (cl : am_C) (ls : am_Ls) (st : List am_V) (N : Nat) (I : Nat → Int → Int) (L : Nat → Int → Int64) : am_go0 cl 71 29 ls (.inr (.inr (some 2)) :: st) (am_GS N, am_GR, I, L) = am_go0 cl 71 32 ls (.inl (I 2 1) :: st) (am_GS N, am_GR, I, L) := am_rG0 am_m71 d_71_29 am_f5015 rfl (gs_2 N) (by decide) rfl
theorem d_71_32 : am_code 71 32 = some (.iload_n 1, 1) := by decide +kernel
theorem s_71_32 (cl : am_C) (a0 : Option am_V) (x : Int) (st : List am_V) (h : am_H) : am_go0 cl 71 32 [a0, some (.inl x)] st h = am_go0 cl 71 33 [a0, some (.inl x)] (.inl x :: st) h := am_r am_m71 d_71_32 rfl
theorem d_71_33 : am_code 71 33 = some (.iastore, 1) := by decide +kernel
theorem s_71_33 (cl : am_C) (ls : am_Ls) (i : Int) (v : Int) (k : Nat) (st : List am_V) (N : Nat) (I : Nat → Int → Int) (L : Nat → Int → Int64) : am_go0 cl 71 33 ls (.inl v :: .inl i :: .inr (.inr (some k)) :: st) (am_GS N, am_GR, I, L) = if am_inb (am_GS N) k 0 i = true then am_go0 cl 71 34 ls st (am_GS N, am_GR, am_uI I k i v, L) else none := am_rS am_m71 d_71_33 rfl k ls st i v _ _ I L
theorem d_71_34 : am_code 71 34 = some (.aload_n 0, 1) := by decide +kernel
theorem s_71_34 (cl : am_C) (a1 : Option am_V) (x : Nat) (st : List am_V) (h : am_H) : am_go0 cl 71 34 [some (.inr (.inr (some x))), a1] st h = am_go0 cl 71 35 [some (.inr (.inr (some x))), a1] (.inr (.inr (some x)) :: st) h := am_r am_m71 d_71_34 rfl
theorem d_71_35 : am_code 71 35 = some (.dup, 1) := by decide +kernel
theorem s_71_35 (cl : am_C) (ls : am_Ls) (x : Nat) (st : List am_V) (h : am_H) : am_go0 cl 71 35 ls (.inr (.inr (some x)) :: st) h = am_go0 cl 71 36 ls (.inr (.inr (some x)) :: .inr (.inr (some x)) :: st) h := am_r am_m71 d_71_35 rfl
theorem d_71_36 : am_code 71 36 = some (.getfield 15, 3) := by decide +kernel
theorem s_71_36 (cl : am_C) (ls : am_Ls) (st : List am_V) (N : Nat) (I : Nat → Int → Int) (L : Nat → Int → Int64) : am_go0 cl 71 36 ls (.inr (.inr (some 2)) :: st) (am_GS N, am_GR, I, L) = am_go0 cl 71 39 ls (.inl (I 2 1) :: st) (am_GS N, am_GR, I, L) := am_rG0 am_m71 d_71_36 am_f5015 rfl (gs_2 N) (by decide) rfl
theorem d_71_39 : am_code 71 39 = some (.dup_x1, 1) := by decide +kernel
theorem s_71_39 (cl : am_C) (ls : am_Ls) (x : Int) (y : Nat) (st : List am_V) (h : am_H) : am_go0 cl 71 39 ls (.inl x :: .inr (.inr (some y)) :: st) h = am_go0 cl 71 40 ls (.inl x :: .inr (.inr (some y)) :: .inl x :: st) h := am_r am_m71 d_71_39 rfl
theorem d_71_40 : am_code 71 40 = some (.iconst 1, 1) := by decide +kernel
theorem s_71_40 (cl : am_C) (ls : am_Ls) (st : List am_V) (h : am_H) : am_go0 cl 71 40 ls st h = am_go0 cl 71 41 ls (.inl 1 :: st) h := am_rK am_m71 d_71_40 (by decide) rfl _ _ _
theorem d_71_41 : am_code 71 41 = some (.iadd, 1) := by decide +kernel
theorem s_71_41 (cl : am_C) (ls : am_Ls) (x y : Int) (st : List am_V) (h : am_H) : am_go0 cl 71 41 ls (.inl y :: .inl x :: st) h = am_go0 cl 71 42 ls (.inl (am_wr (x + y)) :: st) h := am_r am_m71 d_71_41 rfl
theorem d_71_42 : am_code 71 42 = some (.putfield 15, 3) := by decide +kernel
theorem s_71_42 (cl : am_C) (ls : am_Ls) (v : Int) (st : List am_V) (N : Nat) (I : Nat → Int → Int) (L : Nat → Int → Int64) : am_go0 cl 71 42 ls (.inl v :: .inr (.inr (some 2)) :: st) (am_GS N, am_GR, I, L) = am_go0 cl 71 45 ls st (am_GS N, am_GR, am_uI I 2 1 v, L) := am_rP0 am_m71 d_71_42 am_f5015 rfl (gs_2 N) (by decide) rfl
theorem d_71_45 : am_code 71 45 = some (.ireturn, 1) := by decide +kernel
theorem s_71_45 (cl : am_C) (ls : am_Ls) (x : Int) (h : am_H) : am_go0 cl 71 45 ls [.inl x] h = some (some (.inl x), h) := am_rE am_m71 d_71_45 rfl
theorem e_71 (d : Nat) (t : Nat) (p0 : Int) (h : am_H) : am_call (d + 1) 71 [.inr (.inr (some t)), .inl p0] h = am_go0 (am_call d) 71 0 [some (.inr (.inr (some t))), some (.inl p0)] [] h := am_callE am_m71 (Nat.le_of_ble_eq_true rfl) rfl
theorem d_72_0 : am_code 72 0 = some (.aload_n 0, 1) := by decide +kernel
theorem s_72_0 (cl : am_C) (a1 a2 a3 a4 : Option am_V) (x : Nat) (st : List am_V) (h : am_H) : am_go0 cl 72 0 [some (.inr (.inr (some x))), a1, a2, a3, a4] st h = am_go0 cl 72 1 [some (.inr (.inr (some x))), a1, a2, a3, a4] (.inr (.inr (some x)) :: st) h := am_r am_m72 d_72_0 rfl
theorem d_72_1 : am_code 72 1 = some (.iload_n 1, 1) := by decide +kernel
theorem s_72_1 (cl : am_C) (a0 a2 a3 a4 : Option am_V) (x : Int) (st : List am_V) (h : am_H) : am_go0 cl 72 1 [a0, some (.inl x), a2, a3, a4] st h = am_go0 cl 72 2 [a0, some (.inl x), a2, a3, a4] (.inl x :: st) h := am_r am_m72 d_72_1 rfl
theorem d_72_2 : am_code 72 2 = some (.invokevirtual 44, 3) := by decide +kernel
theorem s_72_2 (cl : am_C) (ls : am_Ls) (x0 : Int) (N : Nat) (I : Nat → Int → Int) (L : Nat → Int → Int64) : am_go0 cl 72 2 ls [.inl x0, .inr (.inr (some 2))] (am_GS N, am_GR, I, L) = am_bd (cl 73 [.inr (.inr (some 2)), .inl x0] (am_GS N, am_GR, I, L)) (fun v h2 => am_go0 cl 72 5 ls (v.toList ++ []) h2) := am_rV am_m72 d_72_2 am_k5044 rfl am_m73 (gs_2 N) (by decide) (Nat.le_of_ble_eq_true rfl) rfl ls
theorem d_72_5 : am_code 72 5 = some (.ifCond .ne 6, 3) := by decide +kernel
theorem s_72_5 (cl : am_C) (ls : am_Ls) (x : Int) (st : List am_V) (h : am_H) : am_go0 cl 72 5 ls (.inl x :: st) h = if x = 0 then am_go0 cl 72 8 ls st h else am_go0 cl 72 11 ls st h := (am_rJ1 am_m72 d_72_5 (by decide) rfl x ls st h).trans (am_ifF ((am_cmp_ne x 0).trans Iff.rfl) _ _)
theorem d_72_8 : am_code 72 8 = some (.bipush (-2), 2) := by decide +kernel
theorem s_72_8 (cl : am_C) (ls : am_Ls) (st : List am_V) (h : am_H) : am_go0 cl 72 8 ls st h = am_go0 cl 72 10 ls (.inl (-2) :: st) h := am_rB am_m72 d_72_8 (by decide) rfl _ _ _
theorem d_72_10 : am_code 72 10 = some (.ireturn, 1) := by decide +kernel
theorem s_72_10 (cl : am_C) (ls : am_Ls) (x : Int) (h : am_H) : am_go0 cl 72 10 ls [.inl x] h = some (some (.inl x), h) := am_rE am_m72 d_72_10 rfl
theorem d_72_11 : am_code 72 11 = some (.aload_n 0, 1) := by decide +kernel
theorem s_72_11 (cl : am_C) (a1 a2 a3 a4 : Option am_V) (x : Nat) (st : List am_V) (h : am_H) : am_go0 cl 72 11 [some (.inr (.inr (some x))), a1, a2, a3, a4] st h = am_go0 cl 72 12 [some (.inr (.inr (some x))), a1, a2, a3, a4] (.inr (.inr (some x)) :: st) h := am_r am_m72 d_72_11 rfl
theorem d_72_12 : am_code 72 12 = some (.getfield 11, 3) := by decide +kernel
theorem s_72_12 (cl : am_C) (ls : am_Ls) (st : List am_V) (N : Nat) (I : Nat → Int → Int) (L : Nat → Int → Int64) : am_go0 cl 72 12 ls (.inr (.inr (some 2)) :: st) (am_GS N, am_GR, I, L) = am_go0 cl 72 15 ls (.inr (.inr (some 3)) :: st) (am_GS N, am_GR, I, L) := am_rG2 am_m72 d_72_12 am_f5011 rfl (gs_2 N) (by decide) gr_2_0 rfl
theorem d_72_15 : am_code 72 15 = some (.iload_n 1, 1) := by decide +kernel
theorem s_72_15 (cl : am_C) (a0 a2 a3 a4 : Option am_V) (x : Int) (st : List am_V) (h : am_H) : am_go0 cl 72 15 [a0, some (.inl x), a2, a3, a4] st h = am_go0 cl 72 16 [a0, some (.inl x), a2, a3, a4] (.inl x :: st) h := am_r am_m72 d_72_15 rfl
theorem d_72_16 : am_code 72 16 = some (.iaload, 1) := by decide +kernel
theorem s_72_16 (cl : am_C) (ls : am_Ls) (i : Int) (k : Nat) (st : List am_V) (N : Nat) (I : Nat → Int → Int) (L : Nat → Int → Int64) : am_go0 cl 72 16 ls (.inl i :: .inr (.inr (some k)) :: st) (am_GS N, am_GR, I, L) = if am_inb (am_GS N) k 0 i = true then am_go0 cl 72 17 ls (.inl (I k i) :: st) (am_GS N, am_GR, I, L) else none := am_rA am_m72 d_72_16 (by decide) rfl k ls st i _ _ I L
theorem d_72_17 : am_code 72 17 = some (.istore 4, 2) := by decide +kernel
theorem s_72_17 (cl : am_C) (a0 a1 a2 a3 a4 : Option am_V) (x : Int) (st : List am_V) (h : am_H) : am_go0 cl 72 17 [a0, a1, a2, a3, a4] (.inl x :: st) h = am_go0 cl 72 19 [a0, a1, a2, am_c1 a3, some (.inl x)] st h := am_r am_m72 d_72_17 rfl
theorem d_72_19 : am_code 72 19 = some (.iload 4, 2) := by decide +kernel
theorem s_72_19 (cl : am_C) (a0 a1 a2 a3 : Option am_V) (x : Int) (st : List am_V) (h : am_H) : am_go0 cl 72 19 [a0, a1, a2, a3, some (.inl x)] st h = am_go0 cl 72 21 [a0, a1, a2, a3, some (.inl x)] (.inl x :: st) h := am_r am_m72 d_72_19 rfl
theorem d_72_21 : am_code 72 21 = some (.ifCond .le 11, 3) := by decide +kernel
theorem s_72_21 (cl : am_C) (ls : am_Ls) (x : Int) (st : List am_V) (h : am_H) : am_go0 cl 72 21 ls (.inl x :: st) h = if 0 < x then am_go0 cl 72 24 ls st h else am_go0 cl 72 32 ls st h := (am_rJ1 am_m72 d_72_21 (by decide) rfl x ls st h).trans (am_ifF ((am_cmp_le x 0).trans Int.not_lt.symm) _ _)
theorem d_72_24 : am_code 72 24 = some (.aload_n 0, 1) := by decide +kernel
theorem s_72_24 (cl : am_C) (a1 a2 a3 a4 : Option am_V) (x : Nat) (st : List am_V) (h : am_H) : am_go0 cl 72 24 [some (.inr (.inr (some x))), a1, a2, a3, a4] st h = am_go0 cl 72 25 [some (.inr (.inr (some x))), a1, a2, a3, a4] (.inr (.inr (some x)) :: st) h := am_r am_m72 d_72_24 rfl
theorem d_72_25 : am_code 72 25 = some (.iload_n 2, 1) := by decide +kernel
theorem s_72_25 (cl : am_C) (a0 a1 a3 a4 : Option am_V) (x : Int) (st : List am_V) (h : am_H) : am_go0 cl 72 25 [a0, a1, some (.inl x), a3, a4] st h = am_go0 cl 72 26 [a0, a1, some (.inl x), a3, a4] (.inl x :: st) h := am_r am_m72 d_72_25 rfl
theorem d_72_26 : am_code 72 26 = some (.invokevirtual 48, 3) := by decide +kernel
theorem s_72_26 (cl : am_C) (ls : am_Ls) (x0 : Int) (N : Nat) (I : Nat → Int → Int) (L : Nat → Int → Int64) : am_go0 cl 72 26 ls [.inl x0, .inr (.inr (some 2))] (am_GS N, am_GR, I, L) = am_bd (cl 74 [.inr (.inr (some 2)), .inl x0] (am_GS N, am_GR, I, L)) (fun v h2 => am_go0 cl 72 29 ls (v.toList ++ []) h2) := am_rV am_m72 d_72_26 am_k5048 rfl am_m74 (gs_2 N) (by decide) (Nat.le_of_ble_eq_true rfl) rfl ls
theorem d_72_29 : am_code 72 29 = some (.ifCond .eq 17, 3) := by decide +kernel
theorem s_72_29 (cl : am_C) (ls : am_Ls) (x : Int) (st : List am_V) (h : am_H) : am_go0 cl 72 29 ls (.inl x :: st) h = if x = 0 then am_go0 cl 72 46 ls st h else am_go0 cl 72 32 ls st h := (am_rJ1 am_m72 d_72_29 (by decide) rfl x ls st h).trans (am_ifT (am_cmp_eq x 0) _ _)
theorem d_72_32 : am_code 72 32 = some (.iload 4, 2) := by decide +kernel
theorem s_72_32 (cl : am_C) (a0 a1 a2 a3 : Option am_V) (x : Int) (st : List am_V) (h : am_H) : am_go0 cl 72 32 [a0, a1, a2, a3, some (.inl x)] st h = am_go0 cl 72 34 [a0, a1, a2, a3, some (.inl x)] (.inl x :: st) h := am_r am_m72 d_72_32 rfl
theorem d_72_34 : am_code 72 34 = some (.iconst 1, 1) := by decide +kernel
theorem s_72_34 (cl : am_C) (ls : am_Ls) (st : List am_V) (h : am_H) : am_go0 cl 72 34 ls st h = am_go0 cl 72 35 ls (.inl 1 :: st) h := am_rK am_m72 d_72_34 (by decide) rfl _ _ _
theorem d_72_35 : am_code 72 35 = some (.if_icmp .le 14, 3) := by decide +kernel
theorem s_72_35 (cl : am_C) (ls : am_Ls) (x y : Int) (st : List am_V) (h : am_H) : am_go0 cl 72 35 ls (.inl y :: .inl x :: st) h = if y < x then am_go0 cl 72 38 ls st h else am_go0 cl 72 49 ls st h := (am_rJ0 am_m72 d_72_35 (by decide) rfl x y ls st h).trans (am_ifF ((am_cmp_le x y).trans Int.not_lt.symm) _ _)
theorem d_72_38 : am_code 72 38 = some (.aload_n 0, 1) := by decide +kernel
theorem s_72_38 (cl : am_C) (a1 a2 a3 a4 : Option am_V) (x : Nat) (st : List am_V) (h : am_H) : am_go0 cl 72 38 [some (.inr (.inr (some x))), a1, a2, a3, a4] st h = am_go0 cl 72 39 [some (.inr (.inr (some x))), a1, a2, a3, a4] (.inr (.inr (some x)) :: st) h := am_r am_m72 d_72_38 rfl
theorem d_72_39 : am_code 72 39 = some (.iload_n 3, 1) := by decide +kernel
theorem s_72_39 (cl : am_C) (a0 a1 a2 a4 : Option am_V) (x : Int) (st : List am_V) (h : am_H) : am_go0 cl 72 39 [a0, a1, a2, some (.inl x), a4] st h = am_go0 cl 72 40 [a0, a1, a2, some (.inl x), a4] (.inl x :: st) h := am_r am_m72 d_72_39 rfl
theorem d_72_40 : am_code 72 40 = some (.invokevirtual 48, 3) := by decide +kernel
theorem s_72_40 (cl : am_C) (ls : am_Ls) (x0 : Int) (N : Nat) (I : Nat → Int → Int) (L : Nat → Int → Int64) : am_go0 cl 72 40 ls [.inl x0, .inr (.inr (some 2))] (am_GS N, am_GR, I, L) = am_bd (cl 74 [.inr (.inr (some 2)), .inl x0] (am_GS N, am_GR, I, L)) (fun v h2 => am_go0 cl 72 43 ls (v.toList ++ []) h2) := am_rV am_m72 d_72_40 am_k5048 rfl am_m74 (gs_2 N) (by decide) (Nat.le_of_ble_eq_true rfl) rfl ls
theorem d_72_43 : am_code 72 43 = some (.ifCond .ne 6, 3) := by decide +kernel
theorem s_72_43 (cl : am_C) (ls : am_Ls) (x : Int) (st : List am_V) (h : am_H) : am_go0 cl 72 43 ls (.inl x :: st) h = if x = 0 then am_go0 cl 72 46 ls st h else am_go0 cl 72 49 ls st h := (am_rJ1 am_m72 d_72_43 (by decide) rfl x ls st h).trans (am_ifF ((am_cmp_ne x 0).trans Iff.rfl) _ _)
theorem d_72_46 : am_code 72 46 = some (.bipush (-2), 2) := by decide +kernel
theorem s_72_46 (cl : am_C) (ls : am_Ls) (st : List am_V) (h : am_H) : am_go0 cl 72 46 ls st h = am_go0 cl 72 48 ls (.inl (-2) :: st) h := am_rB am_m72 d_72_46 (by decide) rfl _ _ _
theorem d_72_48 : am_code 72 48 = some (.ireturn, 1) := by decide +kernel
theorem s_72_48 (cl : am_C) (ls : am_Ls) (x : Int) (h : am_H) : am_go0 cl 72 48 ls [.inl x] h = some (some (.inl x), h) := am_rE am_m72 d_72_48 rfl
theorem d_72_49 : am_code 72 49 = some (.aload_n 0, 1) := by decide +kernel
theorem s_72_49 (cl : am_C) (a1 a2 a3 a4 : Option am_V) (x : Nat) (st : List am_V) (h : am_H) : am_go0 cl 72 49 [some (.inr (.inr (some x))), a1, a2, a3, a4] st h = am_go0 cl 72 50 [some (.inr (.inr (some x))), a1, a2, a3, a4] (.inr (.inr (some x)) :: st) h := am_r am_m72 d_72_49 rfl
theorem d_72_50 : am_code 72 50 = some (.iload_n 1, 1) := by decide +kernel
theorem s_72_50 (cl : am_C) (a0 a2 a3 a4 : Option am_V) (x : Int) (st : List am_V) (h : am_H) : am_go0 cl 72 50 [a0, some (.inl x), a2, a3, a4] st h = am_go0 cl 72 51 [a0, some (.inl x), a2, a3, a4] (.inl x :: st) h := am_r am_m72 d_72_50 rfl
theorem d_72_51 : am_code 72 51 = some (.iload 4, 2) := by decide +kernel
theorem s_72_51 (cl : am_C) (a0 a1 a2 a3 : Option am_V) (x : Int) (st : List am_V) (h : am_H) : am_go0 cl 72 51 [a0, a1, a2, a3, some (.inl x)] st h = am_go0 cl 72 53 [a0, a1, a2, a3, some (.inl x)] (.inl x :: st) h := am_r am_m72 d_72_51 rfl
theorem d_72_53 : am_code 72 53 = some (.ifCond .le 7, 3) := by decide +kernel
theorem s_72_53 (cl : am_C) (ls : am_Ls) (x : Int) (st : List am_V) (h : am_H) : am_go0 cl 72 53 ls (.inl x :: st) h = if 0 < x then am_go0 cl 72 56 ls st h else am_go0 cl 72 60 ls st h := (am_rJ1 am_m72 d_72_53 (by decide) rfl x ls st h).trans (am_ifF ((am_cmp_le x 0).trans Int.not_lt.symm) _ _)
theorem d_72_56 : am_code 72 56 = some (.iload_n 2, 1) := by decide +kernel
theorem s_72_56 (cl : am_C) (a0 a1 a3 a4 : Option am_V) (x : Int) (st : List am_V) (h : am_H) : am_go0 cl 72 56 [a0, a1, some (.inl x), a3, a4] st h = am_go0 cl 72 57 [a0, a1, some (.inl x), a3, a4] (.inl x :: st) h := am_r am_m72 d_72_56 rfl
theorem d_72_57 : am_code 72 57 = some (.goto 4, 3) := by decide +kernel
theorem s_72_57 (cl : am_C) (ls : am_Ls) (st : List am_V) (h : am_H) : am_go0 cl 72 57 ls st h = am_go0 cl 72 61 ls st h := am_rGo am_m72 d_72_57 (by decide) _ _ _
theorem d_72_60 : am_code 72 60 = some (.iconst (-1), 1) := by decide +kernel
theorem s_72_60 (cl : am_C) (ls : am_Ls) (st : List am_V) (h : am_H) : am_go0 cl 72 60 ls st h = am_go0 cl 72 61 ls (.inl (-1) :: st) h := am_rK am_m72 d_72_60 (by decide) rfl _ _ _
theorem d_72_61 : am_code 72 61 = some (.iload 4, 2) := by decide +kernel
theorem s_72_61 (cl : am_C) (a0 a1 a2 a3 : Option am_V) (x : Int) (st : List am_V) (h : am_H) : am_go0 cl 72 61 [a0, a1, a2, a3, some (.inl x)] st h = am_go0 cl 72 63 [a0, a1, a2, a3, some (.inl x)] (.inl x :: st) h := am_r am_m72 d_72_61 rfl
theorem d_72_63 : am_code 72 63 = some (.iconst 1, 1) := by decide +kernel
theorem s_72_63 (cl : am_C) (ls : am_Ls) (st : List am_V) (h : am_H) : am_go0 cl 72 63 ls st h = am_go0 cl 72 64 ls (.inl 1 :: st) h := am_rK am_m72 d_72_63 (by decide) rfl _ _ _
theorem d_72_64 : am_code 72 64 = some (.if_icmp .le 7, 3) := by decide +kernel
theorem s_72_64 (cl : am_C) (ls : am_Ls) (x y : Int) (st : List am_V) (h : am_H) : am_go0 cl 72 64 ls (.inl y :: .inl x :: st) h = if y < x then am_go0 cl 72 67 ls st h else am_go0 cl 72 71 ls st h := (am_rJ0 am_m72 d_72_64 (by decide) rfl x y ls st h).trans (am_ifF ((am_cmp_le x y).trans Int.not_lt.symm) _ _)
theorem d_72_67 : am_code 72 67 = some (.iload_n 3, 1) := by decide +kernel
theorem s_72_67 (cl : am_C) (a0 a1 a2 a4 : Option am_V) (x : Int) (st : List am_V) (h : am_H) : am_go0 cl 72 67 [a0, a1, a2, some (.inl x), a4] st h = am_go0 cl 72 68 [a0, a1, a2, some (.inl x), a4] (.inl x :: st) h := am_r am_m72 d_72_67 rfl
theorem d_72_68 : am_code 72 68 = some (.goto 4, 3) := by decide +kernel
theorem s_72_68 (cl : am_C) (ls : am_Ls) (st : List am_V) (h : am_H) : am_go0 cl 72 68 ls st h = am_go0 cl 72 72 ls st h := am_rGo am_m72 d_72_68 (by decide) _ _ _
theorem d_72_71 : am_code 72 71 = some (.iconst (-1), 1) := by decide +kernel
theorem s_72_71 (cl : am_C) (ls : am_Ls) (st : List am_V) (h : am_H) : am_go0 cl 72 71 ls st h = am_go0 cl 72 72 ls (.inl (-1) :: st) h := am_rK am_m72 d_72_71 (by decide) rfl _ _ _
theorem d_72_72 : am_code 72 72 = some (.invokevirtual 51, 3) := by decide +kernel
theorem s_72_72 (cl : am_C) (ls : am_Ls) (x0 : Int) (x1 : Int) (x2 : Int) (N : Nat) (I : Nat → Int → Int) (L : Nat → Int → Int64) : am_go0 cl 72 72 ls [.inl x2, .inl x1, .inl x0, .inr (.inr (some 2))] (am_GS N, am_GR, I, L) = am_bd (cl 75 [.inr (.inr (some 2)), .inl x0, .inl x1, .inl x2] (am_GS N, am_GR, I, L)) (fun v h2 => am_go0 cl 72 75 ls (v.toList ++ []) h2) := am_rV am_m72 d_72_72 am_k5051 rfl am_m75 (gs_2 N) (by decide) (Nat.le_of_ble_eq_true rfl) rfl ls
theorem d_72_75 : am_code 72 75 = some (.ireturn, 1) := by decide +kernel
theorem s_72_75 (cl : am_C) (ls : am_Ls) (x : Int) (h : am_H) : am_go0 cl 72 75 ls [.inl x] h = some (some (.inl x), h) := am_rE am_m72 d_72_75 rfl
theorem e_72 (d : Nat) (t : Nat) (p0 : Int) (p1 : Int) (p2 : Int) (h : am_H) : am_call (d + 1) 72 [.inr (.inr (some t)), .inl p0, .inl p1, .inl p2] h = am_go0 (am_call d) 72 0 [some (.inr (.inr (some t))), some (.inl p0), some (.inl p1), some (.inl p2), none] [] h := am_callE am_m72 (Nat.le_of_ble_eq_true rfl) rfl
theorem d_73_0 : am_code 73 0 = some (.iload_n 1, 1) := by decide +kernel
theorem s_73_0 (cl : am_C) (a0 : Option am_V) (x : Int) (st : List am_V) (h : am_H) : am_go0 cl 73 0 [a0, some (.inl x)] st h = am_go0 cl 73 1 [a0, some (.inl x)] (.inl x :: st) h := am_r am_m73 d_73_0 rfl
theorem d_73_1 : am_code 73 1 = some (.ifCond .lt 15, 3) := by decide +kernel
theorem s_73_1 (cl : am_C) (ls : am_Ls) (x : Int) (st : List am_V) (h : am_H) : am_go0 cl 73 1 ls (.inl x :: st) h = if x < 0 then am_go0 cl 73 16 ls st h else am_go0 cl 73 4 ls st h := (am_rJ1 am_m73 d_73_1 (by decide) rfl x ls st h).trans (am_ifT (am_cmp_lt x 0) _ _)
theorem d_73_4 : am_code 73 4 = some (.iload_n 1, 1) := by decide +kernel
theorem s_73_4 (cl : am_C) (a0 : Option am_V) (x : Int) (st : List am_V) (h : am_H) : am_go0 cl 73 4 [a0, some (.inl x)] st h = am_go0 cl 73 5 [a0, some (.inl x)] (.inl x :: st) h := am_r am_m73 d_73_4 rfl
theorem d_73_5 : am_code 73 5 = some (.aload_n 0, 1) := by decide +kernel
theorem s_73_5 (cl : am_C) (a1 : Option am_V) (x : Nat) (st : List am_V) (h : am_H) : am_go0 cl 73 5 [some (.inr (.inr (some x))), a1] st h = am_go0 cl 73 6 [some (.inr (.inr (some x))), a1] (.inr (.inr (some x)) :: st) h := am_r am_m73 d_73_5 rfl
theorem d_73_6 : am_code 73 6 = some (.getfield 15, 3) := by decide +kernel
theorem s_73_6 (cl : am_C) (ls : am_Ls) (st : List am_V) (N : Nat) (I : Nat → Int → Int) (L : Nat → Int → Int64) : am_go0 cl 73 6 ls (.inr (.inr (some 2)) :: st) (am_GS N, am_GR, I, L) = am_go0 cl 73 9 ls (.inl (I 2 1) :: st) (am_GS N, am_GR, I, L) := am_rG0 am_m73 d_73_6 am_f5015 rfl (gs_2 N) (by decide) rfl
theorem d_73_9 : am_code 73 9 = some (.if_icmp .ge 7, 3) := by decide +kernel
theorem s_73_9 (cl : am_C) (ls : am_Ls) (x y : Int) (st : List am_V) (h : am_H) : am_go0 cl 73 9 ls (.inl y :: .inl x :: st) h = if x < y then am_go0 cl 73 12 ls st h else am_go0 cl 73 16 ls st h := (am_rJ0 am_m73 d_73_9 (by decide) rfl x y ls st h).trans (am_ifF ((am_cmp_ge x y).trans Int.not_lt.symm) _ _)
theorem d_73_12 : am_code 73 12 = some (.iconst 1, 1) := by decide +kernel
theorem s_73_12 (cl : am_C) (ls : am_Ls) (st : List am_V) (h : am_H) : am_go0 cl 73 12 ls st h = am_go0 cl 73 13 ls (.inl 1 :: st) h := am_rK am_m73 d_73_12 (by decide) rfl _ _ _
theorem d_73_13 : am_code 73 13 = some (.goto 4, 3) := by decide +kernel
theorem s_73_13 (cl : am_C) (ls : am_Ls) (st : List am_V) (h : am_H) : am_go0 cl 73 13 ls st h = am_go0 cl 73 17 ls st h := am_rGo am_m73 d_73_13 (by decide) _ _ _
theorem d_73_16 : am_code 73 16 = some (.iconst 0, 1) := by decide +kernel
theorem s_73_16 (cl : am_C) (ls : am_Ls) (st : List am_V) (h : am_H) : am_go0 cl 73 16 ls st h = am_go0 cl 73 17 ls (.inl 0 :: st) h := am_rK am_m73 d_73_16 (by decide) rfl _ _ _
theorem d_73_17 : am_code 73 17 = some (.ireturn, 1) := by decide +kernel
theorem s_73_17 (cl : am_C) (ls : am_Ls) (x : Int) (h : am_H) : am_go0 cl 73 17 ls [.inl x] h = if x = 0 ∨ x = 1 then some (some (.inl x), h) else none := am_rRz am_m73 d_73_17 x ls h
theorem e_73 (d : Nat) (t : Nat) (p0 : Int) (h : am_H) : am_call (d + 1) 73 [.inr (.inr (some t)), .inl p0] h = am_go0 (am_call d) 73 0 [some (.inr (.inr (some t))), some (.inl p0)] [] h := am_callE am_m73 (Nat.le_of_ble_eq_true rfl) rfl
theorem d_74_0 : am_code 74 0 = some (.iload_n 1, 1) := by decide +kernel
theorem s_74_0 (cl : am_C) (a0 : Option am_V) (x : Int) (st : List am_V) (h : am_H) : am_go0 cl 74 0 [a0, some (.inl x)] st h = am_go0 cl 74 1 [a0, some (.inl x)] (.inl x :: st) h := am_r am_m74 d_74_0 rfl
theorem d_74_1 : am_code 74 1 = some (.ifCond .lt 15, 3) := by decide +kernel
theorem s_74_1 (cl : am_C) (ls : am_Ls) (x : Int) (st : List am_V) (h : am_H) : am_go0 cl 74 1 ls (.inl x :: st) h = if x < 0 then am_go0 cl 74 16 ls st h else am_go0 cl 74 4 ls st h := (am_rJ1 am_m74 d_74_1 (by decide) rfl x ls st h).trans (am_ifT (am_cmp_lt x 0) _ _)
theorem d_74_4 : am_code 74 4 = some (.iload_n 1, 1) := by decide +kernel
theorem s_74_4 (cl : am_C) (a0 : Option am_V) (x : Int) (st : List am_V) (h : am_H) : am_go0 cl 74 4 [a0, some (.inl x)] st h = am_go0 cl 74 5 [a0, some (.inl x)] (.inl x :: st) h := am_r am_m74 d_74_4 rfl
theorem d_74_5 : am_code 74 5 = some (.aload_n 0, 1) := by decide +kernel
theorem s_74_5 (cl : am_C) (a1 : Option am_V) (x : Nat) (st : List am_V) (h : am_H) : am_go0 cl 74 5 [some (.inr (.inr (some x))), a1] st h = am_go0 cl 74 6 [some (.inr (.inr (some x))), a1] (.inr (.inr (some x)) :: st) h := am_r am_m74 d_74_5 rfl
theorem d_74_6 : am_code 74 6 = some (.getfield 31, 3) := by decide +kernel
theorem s_74_6 (cl : am_C) (ls : am_Ls) (st : List am_V) (N : Nat) (I : Nat → Int → Int) (L : Nat → Int → Int64) : am_go0 cl 74 6 ls (.inr (.inr (some 2)) :: st) (am_GS N, am_GR, I, L) = am_go0 cl 74 9 ls (.inl (I 2 6) :: st) (am_GS N, am_GR, I, L) := am_rG0 am_m74 d_74_6 am_f5031 rfl (gs_2 N) (by decide) rfl
theorem d_74_9 : am_code 74 9 = some (.if_icmp .ge 7, 3) := by decide +kernel
theorem s_74_9 (cl : am_C) (ls : am_Ls) (x y : Int) (st : List am_V) (h : am_H) : am_go0 cl 74 9 ls (.inl y :: .inl x :: st) h = if x < y then am_go0 cl 74 12 ls st h else am_go0 cl 74 16 ls st h := (am_rJ0 am_m74 d_74_9 (by decide) rfl x y ls st h).trans (am_ifF ((am_cmp_ge x y).trans Int.not_lt.symm) _ _)
theorem d_74_12 : am_code 74 12 = some (.iconst 1, 1) := by decide +kernel
theorem s_74_12 (cl : am_C) (ls : am_Ls) (st : List am_V) (h : am_H) : am_go0 cl 74 12 ls st h = am_go0 cl 74 13 ls (.inl 1 :: st) h := am_rK am_m74 d_74_12 (by decide) rfl _ _ _
theorem d_74_13 : am_code 74 13 = some (.goto 4, 3) := by decide +kernel
theorem s_74_13 (cl : am_C) (ls : am_Ls) (st : List am_V) (h : am_H) : am_go0 cl 74 13 ls st h = am_go0 cl 74 17 ls st h := am_rGo am_m74 d_74_13 (by decide) _ _ _
theorem d_74_16 : am_code 74 16 = some (.iconst 0, 1) := by decide +kernel
theorem s_74_16 (cl : am_C) (ls : am_Ls) (st : List am_V) (h : am_H) : am_go0 cl 74 16 ls st h = am_go0 cl 74 17 ls (.inl 0 :: st) h := am_rK am_m74 d_74_16 (by decide) rfl _ _ _
theorem d_74_17 : am_code 74 17 = some (.ireturn, 1) := by decide +kernel
theorem s_74_17 (cl : am_C) (ls : am_Ls) (x : Int) (h : am_H) : am_go0 cl 74 17 ls [.inl x] h = if x = 0 ∨ x = 1 then some (some (.inl x), h) else none := am_rRz am_m74 d_74_17 x ls h
theorem e_74 (d : Nat) (t : Nat) (p0 : Int) (h : am_H) : am_call (d + 1) 74 [.inr (.inr (some t)), .inl p0] h = am_go0 (am_call d) 74 0 [some (.inr (.inr (some t))), some (.inl p0)] [] h := am_callE am_m74 (Nat.le_of_ble_eq_true rfl) rfl
theorem d_75_0 : am_code 75 0 = some (.iconst 2, 1) := by decide +kernel
theorem s_75_0 (cl : am_C) (ls : am_Ls) (st : List am_V) (h : am_H) : am_go0 cl 75 0 ls st h = am_go0 cl 75 1 ls (.inl 2 :: st) h := am_rK am_m75 d_75_0 (by decide) rfl _ _ _
theorem d_75_1 : am_code 75 1 = some (.istore 4, 2) := by decide +kernel
theorem s_75_1 (cl : am_C) (a0 a1 a2 a3 a4 a5 : Option am_V) (x : Int) (st : List am_V) (h : am_H) : am_go0 cl 75 1 [a0, a1, a2, a3, a4, a5] (.inl x :: st) h = am_go0 cl 75 3 [a0, a1, a2, am_c1 a3, some (.inl x), a5] st h := am_r am_m75 d_75_1 rfl
theorem d_75_3 : am_code 75 3 = some (.iload 4, 2) := by decide +kernel
theorem s_75_3 (cl : am_C) (a0 a1 a2 a3 a5 : Option am_V) (x : Int) (st : List am_V) (h : am_H) : am_go0 cl 75 3 [a0, a1, a2, a3, some (.inl x), a5] st h = am_go0 cl 75 5 [a0, a1, a2, a3, some (.inl x), a5] (.inl x :: st) h := am_r am_m75 d_75_3 rfl
theorem d_75_5 : am_code 75 5 = some (.aload_n 0, 1) := by decide +kernel
theorem s_75_5 (cl : am_C) (a1 a2 a3 a4 a5 : Option am_V) (x : Nat) (st : List am_V) (h : am_H) : am_go0 cl 75 5 [some (.inr (.inr (some x))), a1, a2, a3, a4, a5] st h = am_go0 cl 75 6 [some (.inr (.inr (some x))), a1, a2, a3, a4, a5] (.inr (.inr (some x)) :: st) h := am_r am_m75 d_75_5 rfl
theorem d_75_6 : am_code 75 6 = some (.getfield 31, 3) := by decide +kernel
theorem s_75_6 (cl : am_C) (ls : am_Ls) (st : List am_V) (N : Nat) (I : Nat → Int → Int) (L : Nat → Int → Int64) : am_go0 cl 75 6 ls (.inr (.inr (some 2)) :: st) (am_GS N, am_GR, I, L) = am_go0 cl 75 9 ls (.inl (I 2 6) :: st) (am_GS N, am_GR, I, L) := am_rG0 am_m75 d_75_6 am_f5031 rfl (gs_2 N) (by decide) rfl
theorem d_75_9 : am_code 75 9 = some (.if_icmp .ge 45, 3) := by decide +kernel
theorem s_75_9 (cl : am_C) (ls : am_Ls) (x y : Int) (st : List am_V) (h : am_H) : am_go0 cl 75 9 ls (.inl y :: .inl x :: st) h = if x < y then am_go0 cl 75 12 ls st h else am_go0 cl 75 54 ls st h := (am_rJ0 am_m75 d_75_9 (by decide) rfl x y ls st h).trans (am_ifF ((am_cmp_ge x y).trans Int.not_lt.symm) _ _)
theorem d_75_12 : am_code 75 12 = some (.aload_n 0, 1) := by decide +kernel
theorem s_75_12 (cl : am_C) (a1 a2 a3 a4 a5 : Option am_V) (x : Nat) (st : List am_V) (h : am_H) : am_go0 cl 75 12 [some (.inr (.inr (some x))), a1, a2, a3, a4, a5] st h = am_go0 cl 75 13 [some (.inr (.inr (some x))), a1, a2, a3, a4, a5] (.inr (.inr (some x)) :: st) h := am_r am_m75 d_75_12 rfl
theorem d_75_13 : am_code 75 13 = some (.getfield 19, 3) := by decide +kernel
theorem s_75_13 (cl : am_C) (ls : am_Ls) (st : List am_V) (N : Nat) (I : Nat → Int → Int) (L : Nat → Int → Int64) : am_go0 cl 75 13 ls (.inr (.inr (some 2)) :: st) (am_GS N, am_GR, I, L) = am_go0 cl 75 16 ls (.inr (.inr (some 4)) :: st) (am_GS N, am_GR, I, L) := am_rG2 am_m75 d_75_13 am_f5019 rfl (gs_2 N) (by decide) gr_2_2 rfl
theorem d_75_16 : am_code 75 16 = some (.iload 4, 2) := by decide +kernel
theorem s_75_16 (cl : am_C) (a0 a1 a2 a3 a5 : Option am_V) (x : Int) (st : List am_V) (h : am_H) : am_go0 cl 75 16 [a0, a1, a2, a3, some (.inl x), a5] st h = am_go0 cl 75 18 [a0, a1, a2, a3, some (.inl x), a5] (.inl x :: st) h := am_r am_m75 d_75_16 rfl
theorem d_75_18 : am_code 75 18 = some (.iaload, 1) := by decide +kernel
theorem s_75_18 (cl : am_C) (ls : am_Ls) (i : Int) (k : Nat) (st : List am_V) (N : Nat) (I : Nat → Int → Int) (L : Nat → Int → Int64) : am_go0 cl 75 18 ls (.inl i :: .inr (.inr (some k)) :: st) (am_GS N, am_GR, I, L) = if am_inb (am_GS N) k 0 i = true then am_go0 cl 75 19 ls (.inl (I k i) :: st) (am_GS N, am_GR, I, L) else none := am_rA am_m75 d_75_18 (by decide) rfl k ls st i _ _ I L
theorem d_75_19 : am_code 75 19 = some (.iload_n 1, 1) := by decide +kernel
theorem s_75_19 (cl : am_C) (a0 a2 a3 a4 a5 : Option am_V) (x : Int) (st : List am_V) (h : am_H) : am_go0 cl 75 19 [a0, some (.inl x), a2, a3, a4, a5] st h = am_go0 cl 75 20 [a0, some (.inl x), a2, a3, a4, a5] (.inl x :: st) h := am_r am_m75 d_75_19 rfl
theorem d_75_20 : am_code 75 20 = some (.if_icmp .ne 28, 3) := by decide +kernel
theorem s_75_20 (cl : am_C) (ls : am_Ls) (x y : Int) (st : List am_V) (h : am_H) : am_go0 cl 75 20 ls (.inl y :: .inl x :: st) h = if x = y then am_go0 cl 75 23 ls st h else am_go0 cl 75 48 ls st h := (am_rJ0 am_m75 d_75_20 (by decide) rfl x y ls st h).trans (am_ifF ((am_cmp_ne x y).trans Iff.rfl) _ _)
theorem d_75_23 : am_code 75 23 = some (.aload_n 0, 1) := by decide +kernel
theorem s_75_23 (cl : am_C) (a1 a2 a3 a4 a5 : Option am_V) (x : Nat) (st : List am_V) (h : am_H) : am_go0 cl 75 23 [some (.inr (.inr (some x))), a1, a2, a3, a4, a5] st h = am_go0 cl 75 24 [some (.inr (.inr (some x))), a1, a2, a3, a4, a5] (.inr (.inr (some x)) :: st) h := am_r am_m75 d_75_23 rfl
theorem d_75_24 : am_code 75 24 = some (.getfield 22, 3) := by decide +kernel
theorem s_75_24 (cl : am_C) (ls : am_Ls) (st : List am_V) (N : Nat) (I : Nat → Int → Int) (L : Nat → Int → Int64) : am_go0 cl 75 24 ls (.inr (.inr (some 2)) :: st) (am_GS N, am_GR, I, L) = am_go0 cl 75 27 ls (.inr (.inr (some 5)) :: st) (am_GS N, am_GR, I, L) := am_rG2 am_m75 d_75_24 am_f5022 rfl (gs_2 N) (by decide) gr_2_3 rfl
theorem d_75_27 : am_code 75 27 = some (.iload 4, 2) := by decide +kernel
theorem s_75_27 (cl : am_C) (a0 a1 a2 a3 a5 : Option am_V) (x : Int) (st : List am_V) (h : am_H) : am_go0 cl 75 27 [a0, a1, a2, a3, some (.inl x), a5] st h = am_go0 cl 75 29 [a0, a1, a2, a3, some (.inl x), a5] (.inl x :: st) h := am_r am_m75 d_75_27 rfl
theorem d_75_29 : am_code 75 29 = some (.iaload, 1) := by decide +kernel
theorem s_75_29 (cl : am_C) (ls : am_Ls) (i : Int) (k : Nat) (st : List am_V) (N : Nat) (I : Nat → Int → Int) (L : Nat → Int → Int64) : am_go0 cl 75 29 ls (.inl i :: .inr (.inr (some k)) :: st) (am_GS N, am_GR, I, L) = if am_inb (am_GS N) k 0 i = true then am_go0 cl 75 30 ls (.inl (I k i) :: st) (am_GS N, am_GR, I, L) else none := am_rA am_m75 d_75_29 (by decide) rfl k ls st i _ _ I L
theorem d_75_30 : am_code 75 30 = some (.iload_n 2, 1) := by decide +kernel
theorem s_75_30 (cl : am_C) (a0 a1 a3 a4 a5 : Option am_V) (x : Int) (st : List am_V) (h : am_H) : am_go0 cl 75 30 [a0, a1, some (.inl x), a3, a4, a5] st h = am_go0 cl 75 31 [a0, a1, some (.inl x), a3, a4, a5] (.inl x :: st) h := am_r am_m75 d_75_30 rfl
theorem d_75_31 : am_code 75 31 = some (.if_icmp .ne 17, 3) := by decide +kernel
theorem s_75_31 (cl : am_C) (ls : am_Ls) (x y : Int) (st : List am_V) (h : am_H) : am_go0 cl 75 31 ls (.inl y :: .inl x :: st) h = if x = y then am_go0 cl 75 34 ls st h else am_go0 cl 75 48 ls st h := (am_rJ0 am_m75 d_75_31 (by decide) rfl x y ls st h).trans (am_ifF ((am_cmp_ne x y).trans Iff.rfl) _ _)
theorem d_75_34 : am_code 75 34 = some (.aload_n 0, 1) := by decide +kernel
theorem s_75_34 (cl : am_C) (a1 a2 a3 a4 a5 : Option am_V) (x : Nat) (st : List am_V) (h : am_H) : am_go0 cl 75 34 [some (.inr (.inr (some x))), a1, a2, a3, a4, a5] st h = am_go0 cl 75 35 [some (.inr (.inr (some x))), a1, a2, a3, a4, a5] (.inr (.inr (some x)) :: st) h := am_r am_m75 d_75_34 rfl
theorem d_75_35 : am_code 75 35 = some (.getfield 25, 3) := by decide +kernel
theorem s_75_35 (cl : am_C) (ls : am_Ls) (st : List am_V) (N : Nat) (I : Nat → Int → Int) (L : Nat → Int → Int64) : am_go0 cl 75 35 ls (.inr (.inr (some 2)) :: st) (am_GS N, am_GR, I, L) = am_go0 cl 75 38 ls (.inr (.inr (some 6)) :: st) (am_GS N, am_GR, I, L) := am_rG2 am_m75 d_75_35 am_f5025 rfl (gs_2 N) (by decide) gr_2_4 rfl
theorem d_75_38 : am_code 75 38 = some (.iload 4, 2) := by decide +kernel
theorem s_75_38 (cl : am_C) (a0 a1 a2 a3 a5 : Option am_V) (x : Int) (st : List am_V) (h : am_H) : am_go0 cl 75 38 [a0, a1, a2, a3, some (.inl x), a5] st h = am_go0 cl 75 40 [a0, a1, a2, a3, some (.inl x), a5] (.inl x :: st) h := am_r am_m75 d_75_38 rfl
theorem d_75_40 : am_code 75 40 = some (.iaload, 1) := by decide +kernel
theorem s_75_40 (cl : am_C) (ls : am_Ls) (i : Int) (k : Nat) (st : List am_V) (N : Nat) (I : Nat → Int → Int) (L : Nat → Int → Int64) : am_go0 cl 75 40 ls (.inl i :: .inr (.inr (some k)) :: st) (am_GS N, am_GR, I, L) = if am_inb (am_GS N) k 0 i = true then am_go0 cl 75 41 ls (.inl (I k i) :: st) (am_GS N, am_GR, I, L) else none := am_rA am_m75 d_75_40 (by decide) rfl k ls st i _ _ I L
theorem d_75_41 : am_code 75 41 = some (.iload_n 3, 1) := by decide +kernel
theorem s_75_41 (cl : am_C) (a0 a1 a2 a4 a5 : Option am_V) (x : Int) (st : List am_V) (h : am_H) : am_go0 cl 75 41 [a0, a1, a2, some (.inl x), a4, a5] st h = am_go0 cl 75 42 [a0, a1, a2, some (.inl x), a4, a5] (.inl x :: st) h := am_r am_m75 d_75_41 rfl
theorem d_75_42 : am_code 75 42 = some (.if_icmp .ne 6, 3) := by decide +kernel
theorem s_75_42 (cl : am_C) (ls : am_Ls) (x y : Int) (st : List am_V) (h : am_H) : am_go0 cl 75 42 ls (.inl y :: .inl x :: st) h = if x = y then am_go0 cl 75 45 ls st h else am_go0 cl 75 48 ls st h := (am_rJ0 am_m75 d_75_42 (by decide) rfl x y ls st h).trans (am_ifF ((am_cmp_ne x y).trans Iff.rfl) _ _)
theorem d_75_45 : am_code 75 45 = some (.iload 4, 2) := by decide +kernel
theorem s_75_45 (cl : am_C) (a0 a1 a2 a3 a5 : Option am_V) (x : Int) (st : List am_V) (h : am_H) : am_go0 cl 75 45 [a0, a1, a2, a3, some (.inl x), a5] st h = am_go0 cl 75 47 [a0, a1, a2, a3, some (.inl x), a5] (.inl x :: st) h := am_r am_m75 d_75_45 rfl
theorem d_75_47 : am_code 75 47 = some (.ireturn, 1) := by decide +kernel
theorem s_75_47 (cl : am_C) (ls : am_Ls) (x : Int) (h : am_H) : am_go0 cl 75 47 ls [.inl x] h = some (some (.inl x), h) := am_rE am_m75 d_75_47 rfl
theorem d_75_48 : am_code 75 48 = some (.iinc 4 1, 3) := by decide +kernel
theorem s_75_48 (cl : am_C) (a0 a1 a2 a3 a5 : Option am_V) (x : Int) (st : List am_V) (h : am_H) : am_go0 cl 75 48 [a0, a1, a2, a3, some (.inl x), a5] st h = am_go0 cl 75 51 [a0, a1, a2, am_c1 a3, some (.inl (am_wr (x + 1))), a5] st h := am_r am_m75 d_75_48 rfl
theorem d_75_51 : am_code 75 51 = some (.goto (-48), 3) := by decide +kernel
theorem s_75_51 (cl : am_C) (ls : am_Ls) (st : List am_V) (h : am_H) : am_go0 cl 75 51 ls st h = am_go0 cl 75 3 ls st h := am_rGo am_m75 d_75_51 (by decide) _ _ _
theorem d_75_54 : am_code 75 54 = some (.aload_n 0, 1) := by decide +kernel
theorem s_75_54 (cl : am_C) (a1 a2 a3 a4 a5 : Option am_V) (x : Nat) (st : List am_V) (h : am_H) : am_go0 cl 75 54 [some (.inr (.inr (some x))), a1, a2, a3, a4, a5] st h = am_go0 cl 75 55 [some (.inr (.inr (some x))), a1, a2, a3, a4, a5] (.inr (.inr (some x)) :: st) h := am_r am_m75 d_75_54 rfl
theorem d_75_55 : am_code 75 55 = some (.getfield 31, 3) := by decide +kernel
theorem s_75_55 (cl : am_C) (ls : am_Ls) (st : List am_V) (N : Nat) (I : Nat → Int → Int) (L : Nat → Int → Int64) : am_go0 cl 75 55 ls (.inr (.inr (some 2)) :: st) (am_GS N, am_GR, I, L) = am_go0 cl 75 58 ls (.inl (I 2 6) :: st) (am_GS N, am_GR, I, L) := am_rG0 am_m75 d_75_55 am_f5031 rfl (gs_2 N) (by decide) rfl
theorem d_75_58 : am_code 75 58 = some (.bipush 80, 2) := by decide +kernel
theorem s_75_58 (cl : am_C) (ls : am_Ls) (st : List am_V) (h : am_H) : am_go0 cl 75 58 ls st h = am_go0 cl 75 60 ls (.inl 80 :: st) h := am_rB am_m75 d_75_58 (by decide) rfl _ _ _
theorem d_75_60 : am_code 75 60 = some (.if_icmp .lt 6, 3) := by decide +kernel
theorem s_75_60 (cl : am_C) (ls : am_Ls) (x y : Int) (st : List am_V) (h : am_H) : am_go0 cl 75 60 ls (.inl y :: .inl x :: st) h = if x < y then am_go0 cl 75 66 ls st h else am_go0 cl 75 63 ls st h := (am_rJ0 am_m75 d_75_60 (by decide) rfl x y ls st h).trans (am_ifT (am_cmp_lt x y) _ _)
theorem d_75_63 : am_code 75 63 = some (.bipush (-3), 2) := by decide +kernel
theorem s_75_63 (cl : am_C) (ls : am_Ls) (st : List am_V) (h : am_H) : am_go0 cl 75 63 ls st h = am_go0 cl 75 65 ls (.inl (-3) :: st) h := am_rB am_m75 d_75_63 (by decide) rfl _ _ _
theorem d_75_65 : am_code 75 65 = some (.ireturn, 1) := by decide +kernel
theorem s_75_65 (cl : am_C) (ls : am_Ls) (x : Int) (h : am_H) : am_go0 cl 75 65 ls [.inl x] h = some (some (.inl x), h) := am_rE am_m75 d_75_65 rfl
theorem d_75_66 : am_code 75 66 = some (.iload_n 2, 1) := by decide +kernel
theorem s_75_66 (cl : am_C) (a0 a1 a3 a4 a5 : Option am_V) (x : Int) (st : List am_V) (h : am_H) : am_go0 cl 75 66 [a0, a1, some (.inl x), a3, a4, a5] st h = am_go0 cl 75 67 [a0, a1, some (.inl x), a3, a4, a5] (.inl x :: st) h := am_r am_m75 d_75_66 rfl
theorem d_75_67 : am_code 75 67 = some (.iconst (-1), 1) := by decide +kernel
theorem s_75_67 (cl : am_C) (ls : am_Ls) (st : List am_V) (h : am_H) : am_go0 cl 75 67 ls st h = am_go0 cl 75 68 ls (.inl (-1) :: st) h := am_rK am_m75 d_75_67 (by decide) rfl _ _ _
theorem d_75_68 : am_code 75 68 = some (.if_icmp .ne 7, 3) := by decide +kernel
theorem s_75_68 (cl : am_C) (ls : am_Ls) (x y : Int) (st : List am_V) (h : am_H) : am_go0 cl 75 68 ls (.inl y :: .inl x :: st) h = if x = y then am_go0 cl 75 71 ls st h else am_go0 cl 75 75 ls st h := (am_rJ0 am_m75 d_75_68 (by decide) rfl x y ls st h).trans (am_ifF ((am_cmp_ne x y).trans Iff.rfl) _ _)
theorem d_75_71 : am_code 75 71 = some (.iconst 0, 1) := by decide +kernel
theorem s_75_71 (cl : am_C) (ls : am_Ls) (st : List am_V) (h : am_H) : am_go0 cl 75 71 ls st h = am_go0 cl 75 72 ls (.inl 0 :: st) h := am_rK am_m75 d_75_71 (by decide) rfl _ _ _
theorem d_75_72 : am_code 75 72 = some (.goto 9, 3) := by decide +kernel
theorem s_75_72 (cl : am_C) (ls : am_Ls) (st : List am_V) (h : am_H) : am_go0 cl 75 72 ls st h = am_go0 cl 75 81 ls st h := am_rGo am_m75 d_75_72 (by decide) _ _ _
theorem d_75_75 : am_code 75 75 = some (.aload_n 0, 1) := by decide +kernel
theorem s_75_75 (cl : am_C) (a1 a2 a3 a4 a5 : Option am_V) (x : Nat) (st : List am_V) (h : am_H) : am_go0 cl 75 75 [some (.inr (.inr (some x))), a1, a2, a3, a4, a5] st h = am_go0 cl 75 76 [some (.inr (.inr (some x))), a1, a2, a3, a4, a5] (.inr (.inr (some x)) :: st) h := am_r am_m75 d_75_75 rfl
theorem d_75_76 : am_code 75 76 = some (.getfield 28, 3) := by decide +kernel
theorem s_75_76 (cl : am_C) (ls : am_Ls) (st : List am_V) (N : Nat) (I : Nat → Int → Int) (L : Nat → Int → Int64) : am_go0 cl 75 76 ls (.inr (.inr (some 2)) :: st) (am_GS N, am_GR, I, L) = am_go0 cl 75 79 ls (.inr (.inr (some 7)) :: st) (am_GS N, am_GR, I, L) := am_rG2 am_m75 d_75_76 am_f5028 rfl (gs_2 N) (by decide) gr_2_5 rfl
theorem d_75_79 : am_code 75 79 = some (.iload_n 2, 1) := by decide +kernel
theorem s_75_79 (cl : am_C) (a0 a1 a3 a4 a5 : Option am_V) (x : Int) (st : List am_V) (h : am_H) : am_go0 cl 75 79 [a0, a1, some (.inl x), a3, a4, a5] st h = am_go0 cl 75 80 [a0, a1, some (.inl x), a3, a4, a5] (.inl x :: st) h := am_r am_m75 d_75_79 rfl
theorem d_75_80 : am_code 75 80 = some (.iaload, 1) := by decide +kernel
theorem s_75_80 (cl : am_C) (ls : am_Ls) (i : Int) (k : Nat) (st : List am_V) (N : Nat) (I : Nat → Int → Int) (L : Nat → Int → Int64) : am_go0 cl 75 80 ls (.inl i :: .inr (.inr (some k)) :: st) (am_GS N, am_GR, I, L) = if am_inb (am_GS N) k 0 i = true then am_go0 cl 75 81 ls (.inl (I k i) :: st) (am_GS N, am_GR, I, L) else none := am_rA am_m75 d_75_80 (by decide) rfl k ls st i _ _ I L
theorem d_75_81 : am_code 75 81 = some (.istore 4, 2) := by decide +kernel
theorem s_75_81 (cl : am_C) (a0 a1 a2 a3 a4 a5 : Option am_V) (x : Int) (st : List am_V) (h : am_H) : am_go0 cl 75 81 [a0, a1, a2, a3, a4, a5] (.inl x :: st) h = am_go0 cl 75 83 [a0, a1, a2, am_c1 a3, some (.inl x), a5] st h := am_r am_m75 d_75_81 rfl
theorem d_75_83 : am_code 75 83 = some (.iload_n 3, 1) := by decide +kernel
theorem s_75_83 (cl : am_C) (a0 a1 a2 a4 a5 : Option am_V) (x : Int) (st : List am_V) (h : am_H) : am_go0 cl 75 83 [a0, a1, a2, some (.inl x), a4, a5] st h = am_go0 cl 75 84 [a0, a1, a2, some (.inl x), a4, a5] (.inl x :: st) h := am_r am_m75 d_75_83 rfl
theorem d_75_84 : am_code 75 84 = some (.iconst (-1), 1) := by decide +kernel
theorem s_75_84 (cl : am_C) (ls : am_Ls) (st : List am_V) (h : am_H) : am_go0 cl 75 84 ls st h = am_go0 cl 75 85 ls (.inl (-1) :: st) h := am_rK am_m75 d_75_84 (by decide) rfl _ _ _
theorem d_75_85 : am_code 75 85 = some (.if_icmp .ne 7, 3) := by decide +kernel
theorem s_75_85 (cl : am_C) (ls : am_Ls) (x y : Int) (st : List am_V) (h : am_H) : am_go0 cl 75 85 ls (.inl y :: .inl x :: st) h = if x = y then am_go0 cl 75 88 ls st h else am_go0 cl 75 92 ls st h := (am_rJ0 am_m75 d_75_85 (by decide) rfl x y ls st h).trans (am_ifF ((am_cmp_ne x y).trans Iff.rfl) _ _)
theorem d_75_88 : am_code 75 88 = some (.iconst 0, 1) := by decide +kernel
theorem s_75_88 (cl : am_C) (ls : am_Ls) (st : List am_V) (h : am_H) : am_go0 cl 75 88 ls st h = am_go0 cl 75 89 ls (.inl 0 :: st) h := am_rK am_m75 d_75_88 (by decide) rfl _ _ _
theorem d_75_89 : am_code 75 89 = some (.goto 9, 3) := by decide +kernel
theorem s_75_89 (cl : am_C) (ls : am_Ls) (st : List am_V) (h : am_H) : am_go0 cl 75 89 ls st h = am_go0 cl 75 98 ls st h := am_rGo am_m75 d_75_89 (by decide) _ _ _
theorem d_75_92 : am_code 75 92 = some (.aload_n 0, 1) := by decide +kernel
theorem s_75_92 (cl : am_C) (a1 a2 a3 a4 a5 : Option am_V) (x : Nat) (st : List am_V) (h : am_H) : am_go0 cl 75 92 [some (.inr (.inr (some x))), a1, a2, a3, a4, a5] st h = am_go0 cl 75 93 [some (.inr (.inr (some x))), a1, a2, a3, a4, a5] (.inr (.inr (some x)) :: st) h := am_r am_m75 d_75_92 rfl
theorem d_75_93 : am_code 75 93 = some (.getfield 28, 3) := by decide +kernel
theorem s_75_93 (cl : am_C) (ls : am_Ls) (st : List am_V) (N : Nat) (I : Nat → Int → Int) (L : Nat → Int → Int64) : am_go0 cl 75 93 ls (.inr (.inr (some 2)) :: st) (am_GS N, am_GR, I, L) = am_go0 cl 75 96 ls (.inr (.inr (some 7)) :: st) (am_GS N, am_GR, I, L) := am_rG2 am_m75 d_75_93 am_f5028 rfl (gs_2 N) (by decide) gr_2_5 rfl
theorem d_75_96 : am_code 75 96 = some (.iload_n 3, 1) := by decide +kernel
theorem s_75_96 (cl : am_C) (a0 a1 a2 a4 a5 : Option am_V) (x : Int) (st : List am_V) (h : am_H) : am_go0 cl 75 96 [a0, a1, a2, some (.inl x), a4, a5] st h = am_go0 cl 75 97 [a0, a1, a2, some (.inl x), a4, a5] (.inl x :: st) h := am_r am_m75 d_75_96 rfl
theorem d_75_97 : am_code 75 97 = some (.iaload, 1) := by decide +kernel
theorem s_75_97 (cl : am_C) (ls : am_Ls) (i : Int) (k : Nat) (st : List am_V) (N : Nat) (I : Nat → Int → Int) (L : Nat → Int → Int64) : am_go0 cl 75 97 ls (.inl i :: .inr (.inr (some k)) :: st) (am_GS N, am_GR, I, L) = if am_inb (am_GS N) k 0 i = true then am_go0 cl 75 98 ls (.inl (I k i) :: st) (am_GS N, am_GR, I, L) else none := am_rA am_m75 d_75_97 (by decide) rfl k ls st i _ _ I L
theorem d_75_98 : am_code 75 98 = some (.istore 5, 2) := by decide +kernel
theorem s_75_98 (cl : am_C) (a0 a1 a2 a3 a4 a5 : Option am_V) (x : Int) (st : List am_V) (h : am_H) : am_go0 cl 75 98 [a0, a1, a2, a3, a4, a5] (.inl x :: st) h = am_go0 cl 75 100 [a0, a1, a2, a3, am_c1 a4, some (.inl x)] st h := am_r am_m75 d_75_98 rfl
theorem d_75_100 : am_code 75 100 = some (.aload_n 0, 1) := by decide +kernel
theorem s_75_100 (cl : am_C) (a1 a2 a3 a4 a5 : Option am_V) (x : Nat) (st : List am_V) (h : am_H) : am_go0 cl 75 100 [some (.inr (.inr (some x))), a1, a2, a3, a4, a5] st h = am_go0 cl 75 101 [some (.inr (.inr (some x))), a1, a2, a3, a4, a5] (.inr (.inr (some x)) :: st) h := am_r am_m75 d_75_100 rfl
theorem d_75_101 : am_code 75 101 = some (.iload_n 1, 1) := by decide +kernel
theorem s_75_101 (cl : am_C) (a0 a2 a3 a4 a5 : Option am_V) (x : Int) (st : List am_V) (h : am_H) : am_go0 cl 75 101 [a0, some (.inl x), a2, a3, a4, a5] st h = am_go0 cl 75 102 [a0, some (.inl x), a2, a3, a4, a5] (.inl x :: st) h := am_r am_m75 d_75_101 rfl
theorem d_75_102 : am_code 75 102 = some (.iload_n 2, 1) := by decide +kernel
theorem s_75_102 (cl : am_C) (a0 a1 a3 a4 a5 : Option am_V) (x : Int) (st : List am_V) (h : am_H) : am_go0 cl 75 102 [a0, a1, some (.inl x), a3, a4, a5] st h = am_go0 cl 75 103 [a0, a1, some (.inl x), a3, a4, a5] (.inl x :: st) h := am_r am_m75 d_75_102 rfl
theorem d_75_103 : am_code 75 103 = some (.iload_n 3, 1) := by decide +kernel
theorem s_75_103 (cl : am_C) (a0 a1 a2 a4 a5 : Option am_V) (x : Int) (st : List am_V) (h : am_H) : am_go0 cl 75 103 [a0, a1, a2, some (.inl x), a4, a5] st h = am_go0 cl 75 104 [a0, a1, a2, some (.inl x), a4, a5] (.inl x :: st) h := am_r am_m75 d_75_103 rfl
theorem d_75_104 : am_code 75 104 = some (.iload 4, 2) := by decide +kernel
theorem s_75_104 (cl : am_C) (a0 a1 a2 a3 a5 : Option am_V) (x : Int) (st : List am_V) (h : am_H) : am_go0 cl 75 104 [a0, a1, a2, a3, some (.inl x), a5] st h = am_go0 cl 75 106 [a0, a1, a2, a3, some (.inl x), a5] (.inl x :: st) h := am_r am_m75 d_75_104 rfl
theorem d_75_106 : am_code 75 106 = some (.iload 5, 2) := by decide +kernel
theorem s_75_106 (cl : am_C) (a0 a1 a2 a3 a4 : Option am_V) (x : Int) (st : List am_V) (h : am_H) : am_go0 cl 75 106 [a0, a1, a2, a3, a4, some (.inl x)] st h = am_go0 cl 75 108 [a0, a1, a2, a3, a4, some (.inl x)] (.inl x :: st) h := am_r am_m75 d_75_106 rfl
theorem d_75_108 : am_code 75 108 = some (.invokestatic 55, 3) := by decide +kernel
theorem s_75_108 (cl : am_C) (ls : am_Ls) (x y : Int) (z0 : Int) (z1 : Int) (z2 : Int) (z3 : Nat) (h : am_H) : am_go0 cl 75 108 ls [.inl y, .inl x, .inl z0, .inl z1, .inl z2, .inr (.inr (some z3))] h = am_go0 cl 75 111 ls [.inl (if x < y then y else x), .inl z0, .inl z1, .inl z2, .inr (.inr (some z3))] h := am_rX am_m75 d_75_108 am_k5055 rfl (Nat.le_of_ble_eq_true rfl) rfl ls
theorem d_75_111 : am_code 75 111 = some (.invokevirtual 40, 3) := by decide +kernel
theorem s_75_111 (cl : am_C) (ls : am_Ls) (x0 : Int) (x1 : Int) (x2 : Int) (x3 : Int) (N : Nat) (I : Nat → Int → Int) (L : Nat → Int → Int64) : am_go0 cl 75 111 ls [.inl x3, .inl x2, .inl x1, .inl x0, .inr (.inr (some 2))] (am_GS N, am_GR, I, L) = am_bd (cl 70 [.inr (.inr (some 2)), .inl x0, .inl x1, .inl x2, .inl x3] (am_GS N, am_GR, I, L)) (fun v h2 => am_go0 cl 75 114 ls (v.toList ++ []) h2) := am_rV am_m75 d_75_111 am_k5040 rfl am_m70 (gs_2 N) (by decide) (Nat.le_of_ble_eq_true rfl) rfl ls
theorem d_75_114 : am_code 75 114 = some (.ireturn, 1) := by decide +kernel
theorem s_75_114 (cl : am_C) (ls : am_Ls) (x : Int) (h : am_H) : am_go0 cl 75 114 ls [.inl x] h = some (some (.inl x), h) := am_rE am_m75 d_75_114 rfl
theorem e_75 (d : Nat) (t : Nat) (p0 : Int) (p1 : Int) (p2 : Int) (h : am_H) : am_call (d + 1) 75 [.inr (.inr (some t)), .inl p0, .inl p1, .inl p2] h = am_go0 (am_call d) 75 0 [some (.inr (.inr (some t))), some (.inl p0), some (.inl p1), some (.inl p2), none, none] [] h := am_callE am_m75 (Nat.le_of_ble_eq_true rfl) rfl
theorem d_76_0 : am_code 76 0 = some (.aload_n 0, 1) := by decide +kernel
theorem s_76_0 (cl : am_C) (a1 : Option am_V) (x : Nat) (st : List am_V) (h : am_H) : am_go0 cl 76 0 [some (.inr (.inr (some x))), a1] st h = am_go0 cl 76 1 [some (.inr (.inr (some x))), a1] (.inr (.inr (some x)) :: st) h := am_r am_m76 d_76_0 rfl
theorem d_76_1 : am_code 76 1 = some (.getfield 11, 3) := by decide +kernel
theorem s_76_1 (cl : am_C) (ls : am_Ls) (st : List am_V) (N : Nat) (I : Nat → Int → Int) (L : Nat → Int → Int64) : am_go0 cl 76 1 ls (.inr (.inr (some 2)) :: st) (am_GS N, am_GR, I, L) = am_go0 cl 76 4 ls (.inr (.inr (some 3)) :: st) (am_GS N, am_GR, I, L) := am_rG2 am_m76 d_76_1 am_f5011 rfl (gs_2 N) (by decide) gr_2_0 rfl
theorem d_76_4 : am_code 76 4 = some (.iload_n 1, 1) := by decide +kernel
theorem s_76_4 (cl : am_C) (a0 : Option am_V) (x : Int) (st : List am_V) (h : am_H) : am_go0 cl 76 4 [a0, some (.inl x)] st h = am_go0 cl 76 5 [a0, some (.inl x)] (.inl x :: st) h := am_r am_m76 d_76_4 rfl
theorem d_76_5 : am_code 76 5 = some (.iaload, 1) := by decide +kernel
theorem s_76_5 (cl : am_C) (ls : am_Ls) (i : Int) (k : Nat) (st : List am_V) (N : Nat) (I : Nat → Int → Int) (L : Nat → Int → Int64) : am_go0 cl 76 5 ls (.inl i :: .inr (.inr (some k)) :: st) (am_GS N, am_GR, I, L) = if am_inb (am_GS N) k 0 i = true then am_go0 cl 76 6 ls (.inl (I k i) :: st) (am_GS N, am_GR, I, L) else none := am_rA am_m76 d_76_5 (by decide) rfl k ls st i _ _ I L
theorem d_76_6 : am_code 76 6 = some (.ireturn, 1) := by decide +kernel
theorem s_76_6 (cl : am_C) (ls : am_Ls) (x : Int) (h : am_H) : am_go0 cl 76 6 ls [.inl x] h = some (some (.inl x), h) := am_rE am_m76 d_76_6 rfl
theorem e_76 (d : Nat) (t : Nat) (p0 : Int) (h : am_H) : am_call (d + 1) 76 [.inr (.inr (some t)), .inl p0] h = am_go0 (am_call d) 76 0 [some (.inr (.inr (some t))), some (.inl p0)] [] h := am_callE am_m76 (Nat.le_of_ble_eq_true rfl) rfl
theorem d_77_0 : am_code 77 0 = some (.aload_n 0, 1) := by decide +kernel
theorem s_77_0 (cl : am_C) (a1 a2 : Option am_V) (x : Nat) (st : List am_V) (h : am_H) : am_go0 cl 77 0 [some (.inr (.inr (some x))), a1, a2] st h = am_go0 cl 77 1 [some (.inr (.inr (some x))), a1, a2] (.inr (.inr (some x)) :: st) h := am_r am_m77 d_77_0 rfl
theorem d_77_1 : am_code 77 1 = some (.getfield 28, 3) := by decide +kernel
theorem s_77_1 (cl : am_C) (ls : am_Ls) (st : List am_V) (N : Nat) (I : Nat → Int → Int) (L : Nat → Int → Int64) : am_go0 cl 77 1 ls (.inr (.inr (some 2)) :: st) (am_GS N, am_GR, I, L) = am_go0 cl 77 4 ls (.inr (.inr (some 7)) :: st) (am_GS N, am_GR, I, L) := am_rG2 am_m77 d_77_1 am_f5028 rfl (gs_2 N) (by decide) gr_2_5 rfl
theorem d_77_4 : am_code 77 4 = some (.iload_n 1, 1) := by decide +kernel
theorem s_77_4 (cl : am_C) (a0 a2 : Option am_V) (x : Int) (st : List am_V) (h : am_H) : am_go0 cl 77 4 [a0, some (.inl x), a2] st h = am_go0 cl 77 5 [a0, some (.inl x), a2] (.inl x :: st) h := am_r am_m77 d_77_4 rfl
theorem d_77_5 : am_code 77 5 = some (.iaload, 1) := by decide +kernel
theorem s_77_5 (cl : am_C) (ls : am_Ls) (i : Int) (k : Nat) (st : List am_V) (N : Nat) (I : Nat → Int → Int) (L : Nat → Int → Int64) : am_go0 cl 77 5 ls (.inl i :: .inr (.inr (some k)) :: st) (am_GS N, am_GR, I, L) = if am_inb (am_GS N) k 0 i = true then am_go0 cl 77 6 ls (.inl (I k i) :: st) (am_GS N, am_GR, I, L) else none := am_rA am_m77 d_77_5 (by decide) rfl k ls st i _ _ I L
theorem d_77_6 : am_code 77 6 = some (.iload_n 2, 1) := by decide +kernel
theorem s_77_6 (cl : am_C) (a0 a1 : Option am_V) (x : Int) (st : List am_V) (h : am_H) : am_go0 cl 77 6 [a0, a1, some (.inl x)] st h = am_go0 cl 77 7 [a0, a1, some (.inl x)] (.inl x :: st) h := am_r am_m77 d_77_6 rfl
theorem d_77_7 : am_code 77 7 = some (.if_icmp .gt 7, 3) := by decide +kernel
theorem s_77_7 (cl : am_C) (ls : am_Ls) (x y : Int) (st : List am_V) (h : am_H) : am_go0 cl 77 7 ls (.inl y :: .inl x :: st) h = if y < x then am_go0 cl 77 14 ls st h else am_go0 cl 77 10 ls st h := (am_rJ0 am_m77 d_77_7 (by decide) rfl x y ls st h).trans (am_ifT (am_cmp_gt x y) _ _)
theorem d_77_10 : am_code 77 10 = some (.iconst 1, 1) := by decide +kernel
theorem s_77_10 (cl : am_C) (ls : am_Ls) (st : List am_V) (h : am_H) : am_go0 cl 77 10 ls st h = am_go0 cl 77 11 ls (.inl 1 :: st) h := am_rK am_m77 d_77_10 (by decide) rfl _ _ _
theorem d_77_11 : am_code 77 11 = some (.goto 4, 3) := by decide +kernel
theorem s_77_11 (cl : am_C) (ls : am_Ls) (st : List am_V) (h : am_H) : am_go0 cl 77 11 ls st h = am_go0 cl 77 15 ls st h := am_rGo am_m77 d_77_11 (by decide) _ _ _
theorem d_77_14 : am_code 77 14 = some (.iconst 0, 1) := by decide +kernel
theorem s_77_14 (cl : am_C) (ls : am_Ls) (st : List am_V) (h : am_H) : am_go0 cl 77 14 ls st h = am_go0 cl 77 15 ls (.inl 0 :: st) h := am_rK am_m77 d_77_14 (by decide) rfl _ _ _
theorem d_77_15 : am_code 77 15 = some (.ireturn, 1) := by decide +kernel
theorem s_77_15 (cl : am_C) (ls : am_Ls) (x : Int) (h : am_H) : am_go0 cl 77 15 ls [.inl x] h = if x = 0 ∨ x = 1 then some (some (.inl x), h) else none := am_rRz am_m77 d_77_15 x ls h
theorem e_77 (d : Nat) (t : Nat) (p0 : Int) (p1 : Int) (h : am_H) : am_call (d + 1) 77 [.inr (.inr (some t)), .inl p0, .inl p1] h = am_go0 (am_call d) 77 0 [some (.inr (.inr (some t))), some (.inl p0), some (.inl p1)] [] h := am_callE am_m77 (Nat.le_of_ble_eq_true rfl) rfl
theorem d_78_0 : am_code 78 0 = some (.aload_n 0, 1) := by decide +kernel
theorem s_78_0 (cl : am_C) (a1 : Option am_V) (x : Nat) (st : List am_V) (h : am_H) : am_go0 cl 78 0 [some (.inr (.inr (some x))), a1] st h = am_go0 cl 78 1 [some (.inr (.inr (some x))), a1] (.inr (.inr (some x)) :: st) h := am_r am_m78 d_78_0 rfl
theorem d_78_1 : am_code 78 1 = some (.getfield 28, 3) := by decide +kernel
theorem s_78_1 (cl : am_C) (ls : am_Ls) (st : List am_V) (N : Nat) (I : Nat → Int → Int) (L : Nat → Int → Int64) : am_go0 cl 78 1 ls (.inr (.inr (some 2)) :: st) (am_GS N, am_GR, I, L) = am_go0 cl 78 4 ls (.inr (.inr (some 7)) :: st) (am_GS N, am_GR, I, L) := am_rG2 am_m78 d_78_1 am_f5028 rfl (gs_2 N) (by decide) gr_2_5 rfl
theorem d_78_4 : am_code 78 4 = some (.iload_n 1, 1) := by decide +kernel
theorem s_78_4 (cl : am_C) (a0 : Option am_V) (x : Int) (st : List am_V) (h : am_H) : am_go0 cl 78 4 [a0, some (.inl x)] st h = am_go0 cl 78 5 [a0, some (.inl x)] (.inl x :: st) h := am_r am_m78 d_78_4 rfl
theorem d_78_5 : am_code 78 5 = some (.iaload, 1) := by decide +kernel
theorem s_78_5 (cl : am_C) (ls : am_Ls) (i : Int) (k : Nat) (st : List am_V) (N : Nat) (I : Nat → Int → Int) (L : Nat → Int → Int64) : am_go0 cl 78 5 ls (.inl i :: .inr (.inr (some k)) :: st) (am_GS N, am_GR, I, L) = if am_inb (am_GS N) k 0 i = true then am_go0 cl 78 6 ls (.inl (I k i) :: st) (am_GS N, am_GR, I, L) else none := am_rA am_m78 d_78_5 (by decide) rfl k ls st i _ _ I L
theorem d_78_6 : am_code 78 6 = some (.ifCond .ne 7, 3) := by decide +kernel
theorem s_78_6 (cl : am_C) (ls : am_Ls) (x : Int) (st : List am_V) (h : am_H) : am_go0 cl 78 6 ls (.inl x :: st) h = if x = 0 then am_go0 cl 78 9 ls st h else am_go0 cl 78 13 ls st h := (am_rJ1 am_m78 d_78_6 (by decide) rfl x ls st h).trans (am_ifF ((am_cmp_ne x 0).trans Iff.rfl) _ _)
theorem d_78_9 : am_code 78 9 = some (.iconst 1, 1) := by decide +kernel
theorem s_78_9 (cl : am_C) (ls : am_Ls) (st : List am_V) (h : am_H) : am_go0 cl 78 9 ls st h = am_go0 cl 78 10 ls (.inl 1 :: st) h := am_rK am_m78 d_78_9 (by decide) rfl _ _ _
theorem d_78_10 : am_code 78 10 = some (.goto 4, 3) := by decide +kernel
theorem s_78_10 (cl : am_C) (ls : am_Ls) (st : List am_V) (h : am_H) : am_go0 cl 78 10 ls st h = am_go0 cl 78 14 ls st h := am_rGo am_m78 d_78_10 (by decide) _ _ _
theorem d_78_13 : am_code 78 13 = some (.iconst 0, 1) := by decide +kernel
theorem s_78_13 (cl : am_C) (ls : am_Ls) (st : List am_V) (h : am_H) : am_go0 cl 78 13 ls st h = am_go0 cl 78 14 ls (.inl 0 :: st) h := am_rK am_m78 d_78_13 (by decide) rfl _ _ _
theorem d_78_14 : am_code 78 14 = some (.ireturn, 1) := by decide +kernel
theorem s_78_14 (cl : am_C) (ls : am_Ls) (x : Int) (h : am_H) : am_go0 cl 78 14 ls [.inl x] h = if x = 0 ∨ x = 1 then some (some (.inl x), h) else none := am_rRz am_m78 d_78_14 x ls h
theorem e_78 (d : Nat) (t : Nat) (p0 : Int) (h : am_H) : am_call (d + 1) 78 [.inr (.inr (some t)), .inl p0] h = am_go0 (am_call d) 78 0 [some (.inr (.inr (some t))), some (.inl p0)] [] h := am_callE am_m78 (Nat.le_of_ble_eq_true rfl) rfl
theorem d_79_0 : am_code 79 0 = some (.aload_n 0, 1) := by decide +kernel
theorem s_79_0 (cl : am_C) (a1 : Option am_V) (x : Nat) (st : List am_V) (h : am_H) : am_go0 cl 79 0 [some (.inr (.inr (some x))), a1] st h = am_go0 cl 79 1 [some (.inr (.inr (some x))), a1] (.inr (.inr (some x)) :: st) h := am_r am_m79 d_79_0 rfl
theorem d_79_1 : am_code 79 1 = some (.getfield 19, 3) := by decide +kernel
theorem s_79_1 (cl : am_C) (ls : am_Ls) (st : List am_V) (N : Nat) (I : Nat → Int → Int) (L : Nat → Int → Int64) : am_go0 cl 79 1 ls (.inr (.inr (some 2)) :: st) (am_GS N, am_GR, I, L) = am_go0 cl 79 4 ls (.inr (.inr (some 4)) :: st) (am_GS N, am_GR, I, L) := am_rG2 am_m79 d_79_1 am_f5019 rfl (gs_2 N) (by decide) gr_2_2 rfl
theorem d_79_4 : am_code 79 4 = some (.iload_n 1, 1) := by decide +kernel
theorem s_79_4 (cl : am_C) (a0 : Option am_V) (x : Int) (st : List am_V) (h : am_H) : am_go0 cl 79 4 [a0, some (.inl x)] st h = am_go0 cl 79 5 [a0, some (.inl x)] (.inl x :: st) h := am_r am_m79 d_79_4 rfl
theorem d_79_5 : am_code 79 5 = some (.iaload, 1) := by decide +kernel
theorem s_79_5 (cl : am_C) (ls : am_Ls) (i : Int) (k : Nat) (st : List am_V) (N : Nat) (I : Nat → Int → Int) (L : Nat → Int → Int64) : am_go0 cl 79 5 ls (.inl i :: .inr (.inr (some k)) :: st) (am_GS N, am_GR, I, L) = if am_inb (am_GS N) k 0 i = true then am_go0 cl 79 6 ls (.inl (I k i) :: st) (am_GS N, am_GR, I, L) else none := am_rA am_m79 d_79_5 (by decide) rfl k ls st i _ _ I L
theorem d_79_6 : am_code 79 6 = some (.ireturn, 1) := by decide +kernel
theorem s_79_6 (cl : am_C) (ls : am_Ls) (x : Int) (h : am_H) : am_go0 cl 79 6 ls [.inl x] h = some (some (.inl x), h) := am_rE am_m79 d_79_6 rfl
theorem e_79 (d : Nat) (t : Nat) (p0 : Int) (h : am_H) : am_call (d + 1) 79 [.inr (.inr (some t)), .inl p0] h = am_go0 (am_call d) 79 0 [some (.inr (.inr (some t))), some (.inl p0)] [] h := am_callE am_m79 (Nat.le_of_ble_eq_true rfl) rfl
theorem d_80_0 : am_code 80 0 = some (.iload_n 2, 1) := by decide +kernel
theorem s_80_0 (cl : am_C) (a0 a1 : Option am_V) (x : Int) (st : List am_V) (h : am_H) : am_go0 cl 80 0 [a0, a1, some (.inl x)] st h = am_go0 cl 80 1 [a0, a1, some (.inl x)] (.inl x :: st) h := am_r am_m80 d_80_0 rfl
theorem d_80_1 : am_code 80 1 = some (.ifCond .ne 12, 3) := by decide +kernel
theorem s_80_1 (cl : am_C) (ls : am_Ls) (x : Int) (st : List am_V) (h : am_H) : am_go0 cl 80 1 ls (.inl x :: st) h = if x = 0 then am_go0 cl 80 4 ls st h else am_go0 cl 80 13 ls st h := (am_rJ1 am_m80 d_80_1 (by decide) rfl x ls st h).trans (am_ifF ((am_cmp_ne x 0).trans Iff.rfl) _ _)
theorem d_80_4 : am_code 80 4 = some (.aload_n 0, 1) := by decide +kernel
theorem s_80_4 (cl : am_C) (a1 a2 : Option am_V) (x : Nat) (st : List am_V) (h : am_H) : am_go0 cl 80 4 [some (.inr (.inr (some x))), a1, a2] st h = am_go0 cl 80 5 [some (.inr (.inr (some x))), a1, a2] (.inr (.inr (some x)) :: st) h := am_r am_m80 d_80_4 rfl
theorem d_80_5 : am_code 80 5 = some (.getfield 22, 3) := by decide +kernel
theorem s_80_5 (cl : am_C) (ls : am_Ls) (st : List am_V) (N : Nat) (I : Nat → Int → Int) (L : Nat → Int → Int64) : am_go0 cl 80 5 ls (.inr (.inr (some 2)) :: st) (am_GS N, am_GR, I, L) = am_go0 cl 80 8 ls (.inr (.inr (some 5)) :: st) (am_GS N, am_GR, I, L) := am_rG2 am_m80 d_80_5 am_f5022 rfl (gs_2 N) (by decide) gr_2_3 rfl
theorem d_80_8 : am_code 80 8 = some (.iload_n 1, 1) := by decide +kernel
theorem s_80_8 (cl : am_C) (a0 a2 : Option am_V) (x : Int) (st : List am_V) (h : am_H) : am_go0 cl 80 8 [a0, some (.inl x), a2] st h = am_go0 cl 80 9 [a0, some (.inl x), a2] (.inl x :: st) h := am_r am_m80 d_80_8 rfl
theorem d_80_9 : am_code 80 9 = some (.iaload, 1) := by decide +kernel
theorem s_80_9 (cl : am_C) (ls : am_Ls) (i : Int) (k : Nat) (st : List am_V) (N : Nat) (I : Nat → Int → Int) (L : Nat → Int → Int64) : am_go0 cl 80 9 ls (.inl i :: .inr (.inr (some k)) :: st) (am_GS N, am_GR, I, L) = if am_inb (am_GS N) k 0 i = true then am_go0 cl 80 10 ls (.inl (I k i) :: st) (am_GS N, am_GR, I, L) else none := am_rA am_m80 d_80_9 (by decide) rfl k ls st i _ _ I L
theorem d_80_10 : am_code 80 10 = some (.goto 9, 3) := by decide +kernel
theorem s_80_10 (cl : am_C) (ls : am_Ls) (st : List am_V) (h : am_H) : am_go0 cl 80 10 ls st h = am_go0 cl 80 19 ls st h := am_rGo am_m80 d_80_10 (by decide) _ _ _
theorem d_80_13 : am_code 80 13 = some (.aload_n 0, 1) := by decide +kernel
theorem s_80_13 (cl : am_C) (a1 a2 : Option am_V) (x : Nat) (st : List am_V) (h : am_H) : am_go0 cl 80 13 [some (.inr (.inr (some x))), a1, a2] st h = am_go0 cl 80 14 [some (.inr (.inr (some x))), a1, a2] (.inr (.inr (some x)) :: st) h := am_r am_m80 d_80_13 rfl
theorem d_80_14 : am_code 80 14 = some (.getfield 25, 3) := by decide +kernel
theorem s_80_14 (cl : am_C) (ls : am_Ls) (st : List am_V) (N : Nat) (I : Nat → Int → Int) (L : Nat → Int → Int64) : am_go0 cl 80 14 ls (.inr (.inr (some 2)) :: st) (am_GS N, am_GR, I, L) = am_go0 cl 80 17 ls (.inr (.inr (some 6)) :: st) (am_GS N, am_GR, I, L) := am_rG2 am_m80 d_80_14 am_f5025 rfl (gs_2 N) (by decide) gr_2_4 rfl
theorem d_80_17 : am_code 80 17 = some (.iload_n 1, 1) := by decide +kernel
theorem s_80_17 (cl : am_C) (a0 a2 : Option am_V) (x : Int) (st : List am_V) (h : am_H) : am_go0 cl 80 17 [a0, some (.inl x), a2] st h = am_go0 cl 80 18 [a0, some (.inl x), a2] (.inl x :: st) h := am_r am_m80 d_80_17 rfl
theorem d_80_18 : am_code 80 18 = some (.iaload, 1) := by decide +kernel
theorem s_80_18 (cl : am_C) (ls : am_Ls) (i : Int) (k : Nat) (st : List am_V) (N : Nat) (I : Nat → Int → Int) (L : Nat → Int → Int64) : am_go0 cl 80 18 ls (.inl i :: .inr (.inr (some k)) :: st) (am_GS N, am_GR, I, L) = if am_inb (am_GS N) k 0 i = true then am_go0 cl 80 19 ls (.inl (I k i) :: st) (am_GS N, am_GR, I, L) else none := am_rA am_m80 d_80_18 (by decide) rfl k ls st i _ _ I L
theorem d_80_19 : am_code 80 19 = some (.ireturn, 1) := by decide +kernel
theorem s_80_19 (cl : am_C) (ls : am_Ls) (x : Int) (h : am_H) : am_go0 cl 80 19 ls [.inl x] h = some (some (.inl x), h) := am_rE am_m80 d_80_19 rfl
theorem e_80 (d : Nat) (t : Nat) (p0 : Int) (p1 : Int) (h : am_H) : am_call (d + 1) 80 [.inr (.inr (some t)), .inl p0, .inl p1] h = am_go0 (am_call d) 80 0 [some (.inr (.inr (some t))), some (.inl p0), some (.inl p1)] [] h := am_callE am_m80 (Nat.le_of_ble_eq_true rfl) rfl
theorem d_81_0 : am_code 81 0 = some (.iconst 0, 1) := by decide +kernel
theorem s_81_0 (cl : am_C) (ls : am_Ls) (st : List am_V) (h : am_H) : am_go0 cl 81 0 ls st h = am_go0 cl 81 1 ls (.inl 0 :: st) h := am_rK am_m81 d_81_0 (by decide) rfl _ _ _
theorem d_81_1 : am_code 81 1 = some (.istore 4, 2) := by decide +kernel
theorem s_81_1 (cl : am_C) (a0 a1 a2 a3 a4 a5 a6 a7 a8 : Option am_V) (x : Int) (st : List am_V) (h : am_H) : am_go0 cl 81 1 [a0, a1, a2, a3, a4, a5, a6, a7, a8] (.inl x :: st) h = am_go0 cl 81 3 [a0, a1, a2, am_c1 a3, some (.inl x), a5, a6, a7, a8] st h := am_r am_m81 d_81_1 rfl
theorem d_81_3 : am_code 81 3 = some (.iload 4, 2) := by decide +kernel
theorem s_81_3 (cl : am_C) (a0 a1 a2 a3 a5 a6 a7 a8 : Option am_V) (x : Int) (st : List am_V) (h : am_H) : am_go0 cl 81 3 [a0, a1, a2, a3, some (.inl x), a5, a6, a7, a8] st h = am_go0 cl 81 5 [a0, a1, a2, a3, some (.inl x), a5, a6, a7, a8] (.inl x :: st) h := am_r am_m81 d_81_3 rfl
theorem d_81_5 : am_code 81 5 = some (.aload_n 0, 1) := by decide +kernel
theorem s_81_5 (cl : am_C) (a1 a2 a3 a4 a5 a6 a7 a8 : Option am_V) (x : Nat) (st : List am_V) (h : am_H) : am_go0 cl 81 5 [some (.inr (.inr (some x))), a1, a2, a3, a4, a5, a6, a7, a8] st h = am_go0 cl 81 6 [some (.inr (.inr (some x))), a1, a2, a3, a4, a5, a6, a7, a8] (.inr (.inr (some x)) :: st) h := am_r am_m81 d_81_5 rfl
theorem d_81_6 : am_code 81 6 = some (.getfield 31, 3) := by decide +kernel
theorem s_81_6 (cl : am_C) (ls : am_Ls) (st : List am_V) (N : Nat) (I : Nat → Int → Int) (L : Nat → Int → Int64) : am_go0 cl 81 6 ls (.inr (.inr (some 2)) :: st) (am_GS N, am_GR, I, L) = am_go0 cl 81 9 ls (.inl (I 2 6) :: st) (am_GS N, am_GR, I, L) := am_rG0 am_m81 d_81_6 am_f5031 rfl (gs_2 N) (by decide) rfl
theorem d_81_9 : am_code 81 9 = some (.if_icmp .ge 32, 3) := by decide +kernel
theorem s_81_9 (cl : am_C) (ls : am_Ls) (x y : Int) (st : List am_V) (h : am_H) : am_go0 cl 81 9 ls (.inl y :: .inl x :: st) h = if x < y then am_go0 cl 81 12 ls st h else am_go0 cl 81 41 ls st h := (am_rJ0 am_m81 d_81_9 (by decide) rfl x y ls st h).trans (am_ifF ((am_cmp_ge x y).trans Int.not_lt.symm) _ _)
theorem d_81_12 : am_code 81 12 = some (.aload_n 0, 1) := by decide +kernel
theorem s_81_12 (cl : am_C) (a1 a2 a3 a4 a5 a6 a7 a8 : Option am_V) (x : Nat) (st : List am_V) (h : am_H) : am_go0 cl 81 12 [some (.inr (.inr (some x))), a1, a2, a3, a4, a5, a6, a7, a8] st h = am_go0 cl 81 13 [some (.inr (.inr (some x))), a1, a2, a3, a4, a5, a6, a7, a8] (.inr (.inr (some x)) :: st) h := am_r am_m81 d_81_12 rfl
theorem d_81_13 : am_code 81 13 = some (.getfield 34, 3) := by decide +kernel
theorem s_81_13 (cl : am_C) (ls : am_Ls) (st : List am_V) (N : Nat) (I : Nat → Int → Int) (L : Nat → Int → Int64) : am_go0 cl 81 13 ls (.inr (.inr (some 2)) :: st) (am_GS N, am_GR, I, L) = am_go0 cl 81 16 ls (.inr (.inr (some 8)) :: st) (am_GS N, am_GR, I, L) := am_rG2 am_m81 d_81_13 am_f5034 rfl (gs_2 N) (by decide) gr_2_7 rfl
theorem d_81_16 : am_code 81 16 = some (.iload 4, 2) := by decide +kernel
theorem s_81_16 (cl : am_C) (a0 a1 a2 a3 a5 a6 a7 a8 : Option am_V) (x : Int) (st : List am_V) (h : am_H) : am_go0 cl 81 16 [a0, a1, a2, a3, some (.inl x), a5, a6, a7, a8] st h = am_go0 cl 81 18 [a0, a1, a2, a3, some (.inl x), a5, a6, a7, a8] (.inl x :: st) h := am_r am_m81 d_81_16 rfl
theorem d_81_18 : am_code 81 18 = some (.aload_n 0, 1) := by decide +kernel
theorem s_81_18 (cl : am_C) (a1 a2 a3 a4 a5 a6 a7 a8 : Option am_V) (x : Nat) (st : List am_V) (h : am_H) : am_go0 cl 81 18 [some (.inr (.inr (some x))), a1, a2, a3, a4, a5, a6, a7, a8] st h = am_go0 cl 81 19 [some (.inr (.inr (some x))), a1, a2, a3, a4, a5, a6, a7, a8] (.inr (.inr (some x)) :: st) h := am_r am_m81 d_81_18 rfl
theorem d_81_19 : am_code 81 19 = some (.getfield 28, 3) := by decide +kernel
theorem s_81_19 (cl : am_C) (ls : am_Ls) (st : List am_V) (N : Nat) (I : Nat → Int → Int) (L : Nat → Int → Int64) : am_go0 cl 81 19 ls (.inr (.inr (some 2)) :: st) (am_GS N, am_GR, I, L) = am_go0 cl 81 22 ls (.inr (.inr (some 7)) :: st) (am_GS N, am_GR, I, L) := am_rG2 am_m81 d_81_19 am_f5028 rfl (gs_2 N) (by decide) gr_2_5 rfl
theorem d_81_22 : am_code 81 22 = some (.iload 4, 2) := by decide +kernel
theorem s_81_22 (cl : am_C) (a0 a1 a2 a3 a5 a6 a7 a8 : Option am_V) (x : Int) (st : List am_V) (h : am_H) : am_go0 cl 81 22 [a0, a1, a2, a3, some (.inl x), a5, a6, a7, a8] st h = am_go0 cl 81 24 [a0, a1, a2, a3, some (.inl x), a5, a6, a7, a8] (.inl x :: st) h := am_r am_m81 d_81_22 rfl
theorem d_81_24 : am_code 81 24 = some (.iaload, 1) := by decide +kernel
theorem s_81_24 (cl : am_C) (ls : am_Ls) (i : Int) (k : Nat) (st : List am_V) (N : Nat) (I : Nat → Int → Int) (L : Nat → Int → Int64) : am_go0 cl 81 24 ls (.inl i :: .inr (.inr (some k)) :: st) (am_GS N, am_GR, I, L) = if am_inb (am_GS N) k 0 i = true then am_go0 cl 81 25 ls (.inl (I k i) :: st) (am_GS N, am_GR, I, L) else none := am_rA am_m81 d_81_24 (by decide) rfl k ls st i _ _ I L
theorem d_81_25 : am_code 81 25 = some (.ifCond .ne 8, 3) := by decide +kernel
theorem s_81_25 (cl : am_C) (ls : am_Ls) (x : Int) (st : List am_V) (h : am_H) : am_go0 cl 81 25 ls (.inl x :: st) h = if x = 0 then am_go0 cl 81 28 ls st h else am_go0 cl 81 33 ls st h := (am_rJ1 am_m81 d_81_25 (by decide) rfl x ls st h).trans (am_ifF ((am_cmp_ne x 0).trans Iff.rfl) _ _)
theorem d_81_28 : am_code 81 28 = some (.iload 4, 2) := by decide +kernel
theorem s_81_28 (cl : am_C) (a0 a1 a2 a3 a5 a6 a7 a8 : Option am_V) (x : Int) (st : List am_V) (h : am_H) : am_go0 cl 81 28 [a0, a1, a2, a3, some (.inl x), a5, a6, a7, a8] st h = am_go0 cl 81 30 [a0, a1, a2, a3, some (.inl x), a5, a6, a7, a8] (.inl x :: st) h := am_r am_m81 d_81_28 rfl
theorem d_81_30 : am_code 81 30 = some (.goto 4, 3) := by decide +kernel
theorem s_81_30 (cl : am_C) (ls : am_Ls) (st : List am_V) (h : am_H) : am_go0 cl 81 30 ls st h = am_go0 cl 81 34 ls st h := am_rGo am_m81 d_81_30 (by decide) _ _ _
theorem d_81_33 : am_code 81 33 = some (.iconst (-1), 1) := by decide +kernel
theorem s_81_33 (cl : am_C) (ls : am_Ls) (st : List am_V) (h : am_H) : am_go0 cl 81 33 ls st h = am_go0 cl 81 34 ls (.inl (-1) :: st) h := am_rK am_m81 d_81_33 (by decide) rfl _ _ _
theorem d_81_34 : am_code 81 34 = some (.iastore, 1) := by decide +kernel
theorem s_81_34 (cl : am_C) (ls : am_Ls) (i : Int) (v : Int) (k : Nat) (st : List am_V) (N : Nat) (I : Nat → Int → Int) (L : Nat → Int → Int64) : am_go0 cl 81 34 ls (.inl v :: .inl i :: .inr (.inr (some k)) :: st) (am_GS N, am_GR, I, L) = if am_inb (am_GS N) k 0 i = true then am_go0 cl 81 35 ls st (am_GS N, am_GR, am_uI I k i v, L) else none := am_rS am_m81 d_81_34 rfl k ls st i v _ _ I L
theorem d_81_35 : am_code 81 35 = some (.iinc 4 1, 3) := by decide +kernel
theorem s_81_35 (cl : am_C) (a0 a1 a2 a3 a5 a6 a7 a8 : Option am_V) (x : Int) (st : List am_V) (h : am_H) : am_go0 cl 81 35 [a0, a1, a2, a3, some (.inl x), a5, a6, a7, a8] st h = am_go0 cl 81 38 [a0, a1, a2, am_c1 a3, some (.inl (am_wr (x + 1))), a5, a6, a7, a8] st h := am_r am_m81 d_81_35 rfl
theorem d_81_38 : am_code 81 38 = some (.goto (-35), 3) := by decide +kernel
theorem s_81_38 (cl : am_C) (ls : am_Ls) (st : List am_V) (h : am_H) : am_go0 cl 81 38 ls st h = am_go0 cl 81 3 ls st h := am_rGo am_m81 d_81_38 (by decide) _ _ _
theorem d_81_41 : am_code 81 41 = some (.aload_n 0, 1) := by decide +kernel
theorem s_81_41 (cl : am_C) (a1 a2 a3 a4 a5 a6 a7 a8 : Option am_V) (x : Nat) (st : List am_V) (h : am_H) : am_go0 cl 81 41 [some (.inr (.inr (some x))), a1, a2, a3, a4, a5, a6, a7, a8] st h = am_go0 cl 81 42 [some (.inr (.inr (some x))), a1, a2, a3, a4, a5, a6, a7, a8] (.inr (.inr (some x)) :: st) h := am_r am_m81 d_81_41 rfl
theorem d_81_42 : am_code 81 42 = some (.getfield 34, 3) := by decide +kernel
theorem s_81_42 (cl : am_C) (ls : am_Ls) (st : List am_V) (N : Nat) (I : Nat → Int → Int) (L : Nat → Int → Int64) : am_go0 cl 81 42 ls (.inr (.inr (some 2)) :: st) (am_GS N, am_GR, I, L) = am_go0 cl 81 45 ls (.inr (.inr (some 8)) :: st) (am_GS N, am_GR, I, L) := am_rG2 am_m81 d_81_42 am_f5034 rfl (gs_2 N) (by decide) gr_2_7 rfl
theorem d_81_45 : am_code 81 45 = some (.iconst 0, 1) := by decide +kernel
theorem s_81_45 (cl : am_C) (ls : am_Ls) (st : List am_V) (h : am_H) : am_go0 cl 81 45 ls st h = am_go0 cl 81 46 ls (.inl 0 :: st) h := am_rK am_m81 d_81_45 (by decide) rfl _ _ _
theorem d_81_46 : am_code 81 46 = some (.iload_n 2, 1) := by decide +kernel
theorem s_81_46 (cl : am_C) (a0 a1 a3 a4 a5 a6 a7 a8 : Option am_V) (x : Int) (st : List am_V) (h : am_H) : am_go0 cl 81 46 [a0, a1, some (.inl x), a3, a4, a5, a6, a7, a8] st h = am_go0 cl 81 47 [a0, a1, some (.inl x), a3, a4, a5, a6, a7, a8] (.inl x :: st) h := am_r am_m81 d_81_46 rfl
theorem d_81_47 : am_code 81 47 = some (.iastore, 1) := by decide +kernel
theorem s_81_47 (cl : am_C) (ls : am_Ls) (i : Int) (v : Int) (k : Nat) (st : List am_V) (N : Nat) (I : Nat → Int → Int) (L : Nat → Int → Int64) : am_go0 cl 81 47 ls (.inl v :: .inl i :: .inr (.inr (some k)) :: st) (am_GS N, am_GR, I, L) = if am_inb (am_GS N) k 0 i = true then am_go0 cl 81 48 ls st (am_GS N, am_GR, am_uI I k i v, L) else none := am_rS am_m81 d_81_47 rfl k ls st i v _ _ I L
theorem d_81_48 : am_code 81 48 = some (.aload_n 0, 1) := by decide +kernel
theorem s_81_48 (cl : am_C) (a1 a2 a3 a4 a5 a6 a7 a8 : Option am_V) (x : Nat) (st : List am_V) (h : am_H) : am_go0 cl 81 48 [some (.inr (.inr (some x))), a1, a2, a3, a4, a5, a6, a7, a8] st h = am_go0 cl 81 49 [some (.inr (.inr (some x))), a1, a2, a3, a4, a5, a6, a7, a8] (.inr (.inr (some x)) :: st) h := am_r am_m81 d_81_48 rfl
theorem d_81_49 : am_code 81 49 = some (.getfield 34, 3) := by decide +kernel
theorem s_81_49 (cl : am_C) (ls : am_Ls) (st : List am_V) (N : Nat) (I : Nat → Int → Int) (L : Nat → Int → Int64) : am_go0 cl 81 49 ls (.inr (.inr (some 2)) :: st) (am_GS N, am_GR, I, L) = am_go0 cl 81 52 ls (.inr (.inr (some 8)) :: st) (am_GS N, am_GR, I, L) := am_rG2 am_m81 d_81_49 am_f5034 rfl (gs_2 N) (by decide) gr_2_7 rfl
theorem d_81_52 : am_code 81 52 = some (.iconst 1, 1) := by decide +kernel
theorem s_81_52 (cl : am_C) (ls : am_Ls) (st : List am_V) (h : am_H) : am_go0 cl 81 52 ls st h = am_go0 cl 81 53 ls (.inl 1 :: st) h := am_rK am_m81 d_81_52 (by decide) rfl _ _ _
theorem d_81_53 : am_code 81 53 = some (.iload_n 3, 1) := by decide +kernel
theorem s_81_53 (cl : am_C) (a0 a1 a2 a4 a5 a6 a7 a8 : Option am_V) (x : Int) (st : List am_V) (h : am_H) : am_go0 cl 81 53 [a0, a1, a2, some (.inl x), a4, a5, a6, a7, a8] st h = am_go0 cl 81 54 [a0, a1, a2, some (.inl x), a4, a5, a6, a7, a8] (.inl x :: st) h := am_r am_m81 d_81_53 rfl
theorem d_81_54 : am_code 81 54 = some (.iastore, 1) := by decide +kernel
theorem s_81_54 (cl : am_C) (ls : am_Ls) (i : Int) (v : Int) (k : Nat) (st : List am_V) (N : Nat) (I : Nat → Int → Int) (L : Nat → Int → Int64) : am_go0 cl 81 54 ls (.inl v :: .inl i :: .inr (.inr (some k)) :: st) (am_GS N, am_GR, I, L) = if am_inb (am_GS N) k 0 i = true then am_go0 cl 81 55 ls st (am_GS N, am_GR, am_uI I k i v, L) else none := am_rS am_m81 d_81_54 rfl k ls st i v _ _ I L
theorem d_81_55 : am_code 81 55 = some (.aload_n 0, 1) := by decide +kernel
theorem s_81_55 (cl : am_C) (a1 a2 a3 a4 a5 a6 a7 a8 : Option am_V) (x : Nat) (st : List am_V) (h : am_H) : am_go0 cl 81 55 [some (.inr (.inr (some x))), a1, a2, a3, a4, a5, a6, a7, a8] st h = am_go0 cl 81 56 [some (.inr (.inr (some x))), a1, a2, a3, a4, a5, a6, a7, a8] (.inr (.inr (some x)) :: st) h := am_r am_m81 d_81_55 rfl
theorem d_81_56 : am_code 81 56 = some (.getfield 37, 3) := by decide +kernel
theorem s_81_56 (cl : am_C) (ls : am_Ls) (st : List am_V) (N : Nat) (I : Nat → Int → Int) (L : Nat → Int → Int64) : am_go0 cl 81 56 ls (.inr (.inr (some 2)) :: st) (am_GS N, am_GR, I, L) = am_go0 cl 81 59 ls (.inr (.inr (some 9)) :: st) (am_GS N, am_GR, I, L) := am_rG2 am_m81 d_81_56 am_f5037 rfl (gs_2 N) (by decide) gr_2_8 rfl
theorem d_81_59 : am_code 81 59 = some (.iconst 0, 1) := by decide +kernel
theorem s_81_59 (cl : am_C) (ls : am_Ls) (st : List am_V) (h : am_H) : am_go0 cl 81 59 ls st h = am_go0 cl 81 60 ls (.inl 0 :: st) h := am_rK am_m81 d_81_59 (by decide) rfl _ _ _
theorem d_81_60 : am_code 81 60 = some (.iload_n 1, 1) := by decide +kernel
theorem s_81_60 (cl : am_C) (a0 a2 a3 a4 a5 a6 a7 a8 : Option am_V) (x : Int) (st : List am_V) (h : am_H) : am_go0 cl 81 60 [a0, some (.inl x), a2, a3, a4, a5, a6, a7, a8] st h = am_go0 cl 81 61 [a0, some (.inl x), a2, a3, a4, a5, a6, a7, a8] (.inl x :: st) h := am_r am_m81 d_81_60 rfl
theorem d_81_61 : am_code 81 61 = some (.iastore, 1) := by decide +kernel
theorem s_81_61 (cl : am_C) (ls : am_Ls) (i : Int) (v : Int) (k : Nat) (st : List am_V) (N : Nat) (I : Nat → Int → Int) (L : Nat → Int → Int64) : am_go0 cl 81 61 ls (.inl v :: .inl i :: .inr (.inr (some k)) :: st) (am_GS N, am_GR, I, L) = if am_inb (am_GS N) k 0 i = true then am_go0 cl 81 62 ls st (am_GS N, am_GR, am_uI I k i v, L) else none := am_rS am_m81 d_81_61 rfl k ls st i v _ _ I L
theorem d_81_62 : am_code 81 62 = some (.aload_n 0, 1) := by decide +kernel
theorem s_81_62 (cl : am_C) (a1 a2 a3 a4 a5 a6 a7 a8 : Option am_V) (x : Nat) (st : List am_V) (h : am_H) : am_go0 cl 81 62 [some (.inr (.inr (some x))), a1, a2, a3, a4, a5, a6, a7, a8] st h = am_go0 cl 81 63 [some (.inr (.inr (some x))), a1, a2, a3, a4, a5, a6, a7, a8] (.inr (.inr (some x)) :: st) h := am_r am_m81 d_81_62 rfl
theorem d_81_63 : am_code 81 63 = some (.getfield 34, 3) := by decide +kernel
theorem s_81_63 (cl : am_C) (ls : am_Ls) (st : List am_V) (N : Nat) (I : Nat → Int → Int) (L : Nat → Int → Int64) : am_go0 cl 81 63 ls (.inr (.inr (some 2)) :: st) (am_GS N, am_GR, I, L) = am_go0 cl 81 66 ls (.inr (.inr (some 8)) :: st) (am_GS N, am_GR, I, L) := am_rG2 am_m81 d_81_63 am_f5034 rfl (gs_2 N) (by decide) gr_2_7 rfl
theorem d_81_66 : am_code 81 66 = some (.iload_n 1, 1) := by decide +kernel
theorem s_81_66 (cl : am_C) (a0 a2 a3 a4 a5 a6 a7 a8 : Option am_V) (x : Int) (st : List am_V) (h : am_H) : am_go0 cl 81 66 [a0, some (.inl x), a2, a3, a4, a5, a6, a7, a8] st h = am_go0 cl 81 67 [a0, some (.inl x), a2, a3, a4, a5, a6, a7, a8] (.inl x :: st) h := am_r am_m81 d_81_66 rfl
theorem d_81_67 : am_code 81 67 = some (.iaload, 1) := by decide +kernel
theorem s_81_67 (cl : am_C) (ls : am_Ls) (i : Int) (k : Nat) (st : List am_V) (N : Nat) (I : Nat → Int → Int) (L : Nat → Int → Int64) : am_go0 cl 81 67 ls (.inl i :: .inr (.inr (some k)) :: st) (am_GS N, am_GR, I, L) = if am_inb (am_GS N) k 0 i = true then am_go0 cl 81 68 ls (.inl (I k i) :: st) (am_GS N, am_GR, I, L) else none := am_rA am_m81 d_81_67 (by decide) rfl k ls st i _ _ I L
theorem d_81_68 : am_code 81 68 = some (.iconst (-1), 1) := by decide +kernel
theorem s_81_68 (cl : am_C) (ls : am_Ls) (st : List am_V) (h : am_H) : am_go0 cl 81 68 ls st h = am_go0 cl 81 69 ls (.inl (-1) :: st) h := am_rK am_m81 d_81_68 (by decide) rfl _ _ _
theorem d_81_69 : am_code 81 69 = some (.if_icmp .ne 7, 3) := by decide +kernel
theorem s_81_69 (cl : am_C) (ls : am_Ls) (x y : Int) (st : List am_V) (h : am_H) : am_go0 cl 81 69 ls (.inl y :: .inl x :: st) h = if x = y then am_go0 cl 81 72 ls st h else am_go0 cl 81 76 ls st h := (am_rJ0 am_m81 d_81_69 (by decide) rfl x y ls st h).trans (am_ifF ((am_cmp_ne x y).trans Iff.rfl) _ _)
theorem d_81_72 : am_code 81 72 = some (.iconst 1, 1) := by decide +kernel
theorem s_81_72 (cl : am_C) (ls : am_Ls) (st : List am_V) (h : am_H) : am_go0 cl 81 72 ls st h = am_go0 cl 81 73 ls (.inl 1 :: st) h := am_rK am_m81 d_81_72 (by decide) rfl _ _ _
theorem d_81_73 : am_code 81 73 = some (.goto 4, 3) := by decide +kernel
theorem s_81_73 (cl : am_C) (ls : am_Ls) (st : List am_V) (h : am_H) : am_go0 cl 81 73 ls st h = am_go0 cl 81 77 ls st h := am_rGo am_m81 d_81_73 (by decide) _ _ _
theorem d_81_76 : am_code 81 76 = some (.iconst 0, 1) := by decide +kernel
theorem s_81_76 (cl : am_C) (ls : am_Ls) (st : List am_V) (h : am_H) : am_go0 cl 81 76 ls st h = am_go0 cl 81 77 ls (.inl 0 :: st) h := am_rK am_m81 d_81_76 (by decide) rfl _ _ _
theorem d_81_77 : am_code 81 77 = some (.istore 4, 2) := by decide +kernel
theorem s_81_77 (cl : am_C) (a0 a1 a2 a3 a4 a5 a6 a7 a8 : Option am_V) (x : Int) (st : List am_V) (h : am_H) : am_go0 cl 81 77 [a0, a1, a2, a3, a4, a5, a6, a7, a8] (.inl x :: st) h = am_go0 cl 81 79 [a0, a1, a2, am_c1 a3, some (.inl x), a5, a6, a7, a8] st h := am_r am_m81 d_81_77 rfl
theorem d_81_79 : am_code 81 79 = some (.iconst 0, 1) := by decide +kernel
theorem s_81_79 (cl : am_C) (ls : am_Ls) (st : List am_V) (h : am_H) : am_go0 cl 81 79 ls st h = am_go0 cl 81 80 ls (.inl 0 :: st) h := am_rK am_m81 d_81_79 (by decide) rfl _ _ _
theorem d_81_80 : am_code 81 80 = some (.istore 5, 2) := by decide +kernel
theorem s_81_80 (cl : am_C) (a0 a1 a2 a3 a4 a5 a6 a7 a8 : Option am_V) (x : Int) (st : List am_V) (h : am_H) : am_go0 cl 81 80 [a0, a1, a2, a3, a4, a5, a6, a7, a8] (.inl x :: st) h = am_go0 cl 81 82 [a0, a1, a2, a3, am_c1 a4, some (.inl x), a6, a7, a8] st h := am_r am_m81 d_81_80 rfl
theorem d_81_82 : am_code 81 82 = some (.iload 5, 2) := by decide +kernel
theorem s_81_82 (cl : am_C) (a0 a1 a2 a3 a4 a6 a7 a8 : Option am_V) (x : Int) (st : List am_V) (h : am_H) : am_go0 cl 81 82 [a0, a1, a2, a3, a4, some (.inl x), a6, a7, a8] st h = am_go0 cl 81 84 [a0, a1, a2, a3, a4, some (.inl x), a6, a7, a8] (.inl x :: st) h := am_r am_m81 d_81_82 rfl
theorem d_81_84 : am_code 81 84 = some (.sipush 160, 3) := by decide +kernel
theorem s_81_84 (cl : am_C) (ls : am_Ls) (st : List am_V) (h : am_H) : am_go0 cl 81 84 ls st h = am_go0 cl 81 87 ls (.inl 160 :: st) h := am_rBs am_m81 d_81_84 (by decide) rfl _ _ _
theorem d_81_87 : am_code 81 87 = some (.if_icmp .ge 111, 3) := by decide +kernel
theorem s_81_87 (cl : am_C) (ls : am_Ls) (x y : Int) (st : List am_V) (h : am_H) : am_go0 cl 81 87 ls (.inl y :: .inl x :: st) h = if x < y then am_go0 cl 81 90 ls st h else am_go0 cl 81 198 ls st h := (am_rJ0 am_m81 d_81_87 (by decide) rfl x y ls st h).trans (am_ifF ((am_cmp_ge x y).trans Int.not_lt.symm) _ _)
theorem d_81_90 : am_code 81 90 = some (.iload 4, 2) := by decide +kernel
theorem s_81_90 (cl : am_C) (a0 a1 a2 a3 a5 a6 a7 a8 : Option am_V) (x : Int) (st : List am_V) (h : am_H) : am_go0 cl 81 90 [a0, a1, a2, a3, some (.inl x), a5, a6, a7, a8] st h = am_go0 cl 81 92 [a0, a1, a2, a3, some (.inl x), a5, a6, a7, a8] (.inl x :: st) h := am_r am_m81 d_81_90 rfl
theorem d_81_92 : am_code 81 92 = some (.ifCond .le 106, 3) := by decide +kernel
theorem s_81_92 (cl : am_C) (ls : am_Ls) (x : Int) (st : List am_V) (h : am_H) : am_go0 cl 81 92 ls (.inl x :: st) h = if 0 < x then am_go0 cl 81 95 ls st h else am_go0 cl 81 198 ls st h := (am_rJ1 am_m81 d_81_92 (by decide) rfl x ls st h).trans (am_ifF ((am_cmp_le x 0).trans Int.not_lt.symm) _ _)
theorem d_81_95 : am_code 81 95 = some (.aload_n 0, 1) := by decide +kernel
theorem s_81_95 (cl : am_C) (a1 a2 a3 a4 a5 a6 a7 a8 : Option am_V) (x : Nat) (st : List am_V) (h : am_H) : am_go0 cl 81 95 [some (.inr (.inr (some x))), a1, a2, a3, a4, a5, a6, a7, a8] st h = am_go0 cl 81 96 [some (.inr (.inr (some x))), a1, a2, a3, a4, a5, a6, a7, a8] (.inr (.inr (some x)) :: st) h := am_r am_m81 d_81_95 rfl
theorem d_81_96 : am_code 81 96 = some (.getfield 37, 3) := by decide +kernel
theorem s_81_96 (cl : am_C) (ls : am_Ls) (st : List am_V) (N : Nat) (I : Nat → Int → Int) (L : Nat → Int → Int64) : am_go0 cl 81 96 ls (.inr (.inr (some 2)) :: st) (am_GS N, am_GR, I, L) = am_go0 cl 81 99 ls (.inr (.inr (some 9)) :: st) (am_GS N, am_GR, I, L) := am_rG2 am_m81 d_81_96 am_f5037 rfl (gs_2 N) (by decide) gr_2_8 rfl
theorem d_81_99 : am_code 81 99 = some (.iload 4, 2) := by decide +kernel
theorem s_81_99 (cl : am_C) (a0 a1 a2 a3 a5 a6 a7 a8 : Option am_V) (x : Int) (st : List am_V) (h : am_H) : am_go0 cl 81 99 [a0, a1, a2, a3, some (.inl x), a5, a6, a7, a8] st h = am_go0 cl 81 101 [a0, a1, a2, a3, some (.inl x), a5, a6, a7, a8] (.inl x :: st) h := am_r am_m81 d_81_99 rfl
theorem d_81_101 : am_code 81 101 = some (.iconst 1, 1) := by decide +kernel
theorem s_81_101 (cl : am_C) (ls : am_Ls) (st : List am_V) (h : am_H) : am_go0 cl 81 101 ls st h = am_go0 cl 81 102 ls (.inl 1 :: st) h := am_rK am_m81 d_81_101 (by decide) rfl _ _ _
theorem d_81_102 : am_code 81 102 = some (.isub, 1) := by decide +kernel
theorem s_81_102 (cl : am_C) (ls : am_Ls) (x y : Int) (st : List am_V) (h : am_H) : am_go0 cl 81 102 ls (.inl y :: .inl x :: st) h = am_go0 cl 81 103 ls (.inl (am_wr (x - y)) :: st) h := am_r am_m81 d_81_102 rfl
theorem d_81_103 : am_code 81 103 = some (.iaload, 1) := by decide +kernel
theorem s_81_103 (cl : am_C) (ls : am_Ls) (i : Int) (k : Nat) (st : List am_V) (N : Nat) (I : Nat → Int → Int) (L : Nat → Int → Int64) : am_go0 cl 81 103 ls (.inl i :: .inr (.inr (some k)) :: st) (am_GS N, am_GR, I, L) = if am_inb (am_GS N) k 0 i = true then am_go0 cl 81 104 ls (.inl (I k i) :: st) (am_GS N, am_GR, I, L) else none := am_rA am_m81 d_81_103 (by decide) rfl k ls st i _ _ I L
theorem d_81_104 : am_code 81 104 = some (.istore 6, 2) := by decide +kernel
theorem s_81_104 (cl : am_C) (a0 a1 a2 a3 a4 a5 a6 a7 a8 : Option am_V) (x : Int) (st : List am_V) (h : am_H) : am_go0 cl 81 104 [a0, a1, a2, a3, a4, a5, a6, a7, a8] (.inl x :: st) h = am_go0 cl 81 106 [a0, a1, a2, a3, a4, am_c1 a5, some (.inl x), a7, a8] st h := am_r am_m81 d_81_104 rfl
theorem d_81_106 : am_code 81 106 = some (.aload_n 0, 1) := by decide +kernel
theorem s_81_106 (cl : am_C) (a1 a2 a3 a4 a5 a6 a7 a8 : Option am_V) (x : Nat) (st : List am_V) (h : am_H) : am_go0 cl 81 106 [some (.inr (.inr (some x))), a1, a2, a3, a4, a5, a6, a7, a8] st h = am_go0 cl 81 107 [some (.inr (.inr (some x))), a1, a2, a3, a4, a5, a6, a7, a8] (.inr (.inr (some x)) :: st) h := am_r am_m81 d_81_106 rfl
theorem d_81_107 : am_code 81 107 = some (.iload 6, 2) := by decide +kernel
theorem s_81_107 (cl : am_C) (a0 a1 a2 a3 a4 a5 a7 a8 : Option am_V) (x : Int) (st : List am_V) (h : am_H) : am_go0 cl 81 107 [a0, a1, a2, a3, a4, a5, some (.inl x), a7, a8] st h = am_go0 cl 81 109 [a0, a1, a2, a3, a4, a5, some (.inl x), a7, a8] (.inl x :: st) h := am_r am_m81 d_81_107 rfl
theorem d_81_109 : am_code 81 109 = some (.invokevirtual 61, 3) := by decide +kernel
theorem s_81_109 (cl : am_C) (ls : am_Ls) (x0 : Int) (N : Nat) (I : Nat → Int → Int) (L : Nat → Int → Int64) : am_go0 cl 81 109 ls [.inl x0, .inr (.inr (some 2))] (am_GS N, am_GR, I, L) = am_bd (cl 82 [.inr (.inr (some 2)), .inl x0] (am_GS N, am_GR, I, L)) (fun v h2 => am_go0 cl 81 112 ls (v.toList ++ []) h2) := am_rV am_m81 d_81_109 am_k5061 rfl am_m82 (gs_2 N) (by decide) (Nat.le_of_ble_eq_true rfl) rfl ls
theorem d_81_112 : am_code 81 112 = some (.istore 7, 2) := by decide +kernel
theorem s_81_112 (cl : am_C) (a0 a1 a2 a3 a4 a5 a6 a7 a8 : Option am_V) (x : Int) (st : List am_V) (h : am_H) : am_go0 cl 81 112 [a0, a1, a2, a3, a4, a5, a6, a7, a8] (.inl x :: st) h = am_go0 cl 81 114 [a0, a1, a2, a3, a4, a5, am_c1 a6, some (.inl x), a8] st h := am_r am_m81 d_81_112 rfl
theorem d_81_114 : am_code 81 114 = some (.iload 7, 2) := by decide +kernel
theorem s_81_114 (cl : am_C) (a0 a1 a2 a3 a4 a5 a6 a8 : Option am_V) (x : Int) (st : List am_V) (h : am_H) : am_go0 cl 81 114 [a0, a1, a2, a3, a4, a5, a6, some (.inl x), a8] st h = am_go0 cl 81 116 [a0, a1, a2, a3, a4, a5, a6, some (.inl x), a8] (.inl x :: st) h := am_r am_m81 d_81_114 rfl
theorem d_81_116 : am_code 81 116 = some (.iconst (-1), 1) := by decide +kernel
theorem s_81_116 (cl : am_C) (ls : am_Ls) (st : List am_V) (h : am_H) : am_go0 cl 81 116 ls st h = am_go0 cl 81 117 ls (.inl (-1) :: st) h := am_rK am_m81 d_81_116 (by decide) rfl _ _ _
theorem d_81_117 : am_code 81 117 = some (.if_icmp .eq 18, 3) := by decide +kernel
theorem s_81_117 (cl : am_C) (ls : am_Ls) (x y : Int) (st : List am_V) (h : am_H) : am_go0 cl 81 117 ls (.inl y :: .inl x :: st) h = if x = y then am_go0 cl 81 135 ls st h else am_go0 cl 81 120 ls st h := (am_rJ0 am_m81 d_81_117 (by decide) rfl x y ls st h).trans (am_ifT (am_cmp_eq x y) _ _)
theorem d_81_120 : am_code 81 120 = some (.aload_n 0, 1) := by decide +kernel
theorem s_81_120 (cl : am_C) (a1 a2 a3 a4 a5 a6 a7 a8 : Option am_V) (x : Nat) (st : List am_V) (h : am_H) : am_go0 cl 81 120 [some (.inr (.inr (some x))), a1, a2, a3, a4, a5, a6, a7, a8] st h = am_go0 cl 81 121 [some (.inr (.inr (some x))), a1, a2, a3, a4, a5, a6, a7, a8] (.inr (.inr (some x)) :: st) h := am_r am_m81 d_81_120 rfl
theorem d_81_121 : am_code 81 121 = some (.getfield 37, 3) := by decide +kernel
theorem s_81_121 (cl : am_C) (ls : am_Ls) (st : List am_V) (N : Nat) (I : Nat → Int → Int) (L : Nat → Int → Int64) : am_go0 cl 81 121 ls (.inr (.inr (some 2)) :: st) (am_GS N, am_GR, I, L) = am_go0 cl 81 124 ls (.inr (.inr (some 9)) :: st) (am_GS N, am_GR, I, L) := am_rG2 am_m81 d_81_121 am_f5037 rfl (gs_2 N) (by decide) gr_2_8 rfl
theorem d_81_124 : am_code 81 124 = some (.iload 4, 2) := by decide +kernel
theorem s_81_124 (cl : am_C) (a0 a1 a2 a3 a5 a6 a7 a8 : Option am_V) (x : Int) (st : List am_V) (h : am_H) : am_go0 cl 81 124 [a0, a1, a2, a3, some (.inl x), a5, a6, a7, a8] st h = am_go0 cl 81 126 [a0, a1, a2, a3, some (.inl x), a5, a6, a7, a8] (.inl x :: st) h := am_r am_m81 d_81_124 rfl
theorem d_81_126 : am_code 81 126 = some (.iinc 4 1, 3) := by decide +kernel
theorem s_81_126 (cl : am_C) (a0 a1 a2 a3 a5 a6 a7 a8 : Option am_V) (x : Int) (st : List am_V) (h : am_H) : am_go0 cl 81 126 [a0, a1, a2, a3, some (.inl x), a5, a6, a7, a8] st h = am_go0 cl 81 129 [a0, a1, a2, am_c1 a3, some (.inl (am_wr (x + 1))), a5, a6, a7, a8] st h := am_r am_m81 d_81_126 rfl
theorem d_81_129 : am_code 81 129 = some (.iload 7, 2) := by decide +kernel
theorem s_81_129 (cl : am_C) (a0 a1 a2 a3 a4 a5 a6 a8 : Option am_V) (x : Int) (st : List am_V) (h : am_H) : am_go0 cl 81 129 [a0, a1, a2, a3, a4, a5, a6, some (.inl x), a8] st h = am_go0 cl 81 131 [a0, a1, a2, a3, a4, a5, a6, some (.inl x), a8] (.inl x :: st) h := am_r am_m81 d_81_129 rfl
theorem d_81_131 : am_code 81 131 = some (.iastore, 1) := by decide +kernel
theorem s_81_131 (cl : am_C) (ls : am_Ls) (i : Int) (v : Int) (k : Nat) (st : List am_V) (N : Nat) (I : Nat → Int → Int) (L : Nat → Int → Int64) : am_go0 cl 81 131 ls (.inl v :: .inl i :: .inr (.inr (some k)) :: st) (am_GS N, am_GR, I, L) = if am_inb (am_GS N) k 0 i = true then am_go0 cl 81 132 ls st (am_GS N, am_GR, am_uI I k i v, L) else none := am_rS am_m81 d_81_131 rfl k ls st i v _ _ I L
theorem d_81_132 : am_code 81 132 = some (.goto 60, 3) := by decide +kernel
theorem s_81_132 (cl : am_C) (ls : am_Ls) (st : List am_V) (h : am_H) : am_go0 cl 81 132 ls st h = am_go0 cl 81 192 ls st h := am_rGo am_m81 d_81_132 (by decide) _ _ _
theorem d_81_135 : am_code 81 135 = some (.aload_n 0, 1) := by decide +kernel
theorem s_81_135 (cl : am_C) (a1 a2 a3 a4 a5 a6 a7 a8 : Option am_V) (x : Nat) (st : List am_V) (h : am_H) : am_go0 cl 81 135 [some (.inr (.inr (some x))), a1, a2, a3, a4, a5, a6, a7, a8] st h = am_go0 cl 81 136 [some (.inr (.inr (some x))), a1, a2, a3, a4, a5, a6, a7, a8] (.inr (.inr (some x)) :: st) h := am_r am_m81 d_81_135 rfl
theorem d_81_136 : am_code 81 136 = some (.aload_n 0, 1) := by decide +kernel
theorem s_81_136 (cl : am_C) (a1 a2 a3 a4 a5 a6 a7 a8 : Option am_V) (x : Nat) (st : List am_V) (h : am_H) : am_go0 cl 81 136 [some (.inr (.inr (some x))), a1, a2, a3, a4, a5, a6, a7, a8] st h = am_go0 cl 81 137 [some (.inr (.inr (some x))), a1, a2, a3, a4, a5, a6, a7, a8] (.inr (.inr (some x)) :: st) h := am_r am_m81 d_81_136 rfl
theorem d_81_137 : am_code 81 137 = some (.getfield 19, 3) := by decide +kernel
theorem s_81_137 (cl : am_C) (ls : am_Ls) (st : List am_V) (N : Nat) (I : Nat → Int → Int) (L : Nat → Int → Int64) : am_go0 cl 81 137 ls (.inr (.inr (some 2)) :: st) (am_GS N, am_GR, I, L) = am_go0 cl 81 140 ls (.inr (.inr (some 4)) :: st) (am_GS N, am_GR, I, L) := am_rG2 am_m81 d_81_137 am_f5019 rfl (gs_2 N) (by decide) gr_2_2 rfl
theorem d_81_140 : am_code 81 140 = some (.iload 6, 2) := by decide +kernel
theorem s_81_140 (cl : am_C) (a0 a1 a2 a3 a4 a5 a7 a8 : Option am_V) (x : Int) (st : List am_V) (h : am_H) : am_go0 cl 81 140 [a0, a1, a2, a3, a4, a5, some (.inl x), a7, a8] st h = am_go0 cl 81 142 [a0, a1, a2, a3, a4, a5, some (.inl x), a7, a8] (.inl x :: st) h := am_r am_m81 d_81_140 rfl
theorem d_81_142 : am_code 81 142 = some (.iaload, 1) := by decide +kernel
theorem s_81_142 (cl : am_C) (ls : am_Ls) (i : Int) (k : Nat) (st : List am_V) (N : Nat) (I : Nat → Int → Int) (L : Nat → Int → Int64) : am_go0 cl 81 142 ls (.inl i :: .inr (.inr (some k)) :: st) (am_GS N, am_GR, I, L) = if am_inb (am_GS N) k 0 i = true then am_go0 cl 81 143 ls (.inl (I k i) :: st) (am_GS N, am_GR, I, L) else none := am_rA am_m81 d_81_142 (by decide) rfl k ls st i _ _ I L
theorem d_81_143 : am_code 81 143 = some (.aload_n 0, 1) := by decide +kernel
theorem s_81_143 (cl : am_C) (a1 a2 a3 a4 a5 a6 a7 a8 : Option am_V) (x : Nat) (st : List am_V) (h : am_H) : am_go0 cl 81 143 [some (.inr (.inr (some x))), a1, a2, a3, a4, a5, a6, a7, a8] st h = am_go0 cl 81 144 [some (.inr (.inr (some x))), a1, a2, a3, a4, a5, a6, a7, a8] (.inr (.inr (some x)) :: st) h := am_r am_m81 d_81_143 rfl
theorem d_81_144 : am_code 81 144 = some (.aload_n 0, 1) := by decide +kernel
theorem s_81_144 (cl : am_C) (a1 a2 a3 a4 a5 a6 a7 a8 : Option am_V) (x : Nat) (st : List am_V) (h : am_H) : am_go0 cl 81 144 [some (.inr (.inr (some x))), a1, a2, a3, a4, a5, a6, a7, a8] st h = am_go0 cl 81 145 [some (.inr (.inr (some x))), a1, a2, a3, a4, a5, a6, a7, a8] (.inr (.inr (some x)) :: st) h := am_r am_m81 d_81_144 rfl
theorem d_81_145 : am_code 81 145 = some (.getfield 22, 3) := by decide +kernel
theorem s_81_145 (cl : am_C) (ls : am_Ls) (st : List am_V) (N : Nat) (I : Nat → Int → Int) (L : Nat → Int → Int64) : am_go0 cl 81 145 ls (.inr (.inr (some 2)) :: st) (am_GS N, am_GR, I, L) = am_go0 cl 81 148 ls (.inr (.inr (some 5)) :: st) (am_GS N, am_GR, I, L) := am_rG2 am_m81 d_81_145 am_f5022 rfl (gs_2 N) (by decide) gr_2_3 rfl
theorem d_81_148 : am_code 81 148 = some (.iload 6, 2) := by decide +kernel
theorem s_81_148 (cl : am_C) (a0 a1 a2 a3 a4 a5 a7 a8 : Option am_V) (x : Int) (st : List am_V) (h : am_H) : am_go0 cl 81 148 [a0, a1, a2, a3, a4, a5, some (.inl x), a7, a8] st h = am_go0 cl 81 150 [a0, a1, a2, a3, a4, a5, some (.inl x), a7, a8] (.inl x :: st) h := am_r am_m81 d_81_148 rfl
theorem d_81_150 : am_code 81 150 = some (.iaload, 1) := by decide +kernel
theorem s_81_150 (cl : am_C) (ls : am_Ls) (i : Int) (k : Nat) (st : List am_V) (N : Nat) (I : Nat → Int → Int) (L : Nat → Int → Int64) : am_go0 cl 81 150 ls (.inl i :: .inr (.inr (some k)) :: st) (am_GS N, am_GR, I, L) = if am_inb (am_GS N) k 0 i = true then am_go0 cl 81 151 ls (.inl (I k i) :: st) (am_GS N, am_GR, I, L) else none := am_rA am_m81 d_81_150 (by decide) rfl k ls st i _ _ I L
theorem d_81_151 : am_code 81 151 = some (.invokevirtual 65, 3) := by decide +kernel
theorem s_81_151 (cl : am_C) (ls : am_Ls) (x0 : Int) (z0 : Int) (z1 : Nat) (N : Nat) (I : Nat → Int → Int) (L : Nat → Int → Int64) : am_go0 cl 81 151 ls [.inl x0, .inr (.inr (some 2)), .inl z0, .inr (.inr (some z1))] (am_GS N, am_GR, I, L) = am_bd (cl 83 [.inr (.inr (some 2)), .inl x0] (am_GS N, am_GR, I, L)) (fun v h2 => am_go0 cl 81 154 ls (v.toList ++ [.inl z0, .inr (.inr (some z1))]) h2) := am_rV am_m81 d_81_151 am_k5065 rfl am_m83 (gs_2 N) (by decide) (Nat.le_of_ble_eq_true rfl) rfl ls
theorem d_81_154 : am_code 81 154 = some (.aload_n 0, 1) := by decide +kernel
theorem s_81_154 (cl : am_C) (a1 a2 a3 a4 a5 a6 a7 a8 : Option am_V) (x : Nat) (st : List am_V) (h : am_H) : am_go0 cl 81 154 [some (.inr (.inr (some x))), a1, a2, a3, a4, a5, a6, a7, a8] st h = am_go0 cl 81 155 [some (.inr (.inr (some x))), a1, a2, a3, a4, a5, a6, a7, a8] (.inr (.inr (some x)) :: st) h := am_r am_m81 d_81_154 rfl
theorem d_81_155 : am_code 81 155 = some (.aload_n 0, 1) := by decide +kernel
theorem s_81_155 (cl : am_C) (a1 a2 a3 a4 a5 a6 a7 a8 : Option am_V) (x : Nat) (st : List am_V) (h : am_H) : am_go0 cl 81 155 [some (.inr (.inr (some x))), a1, a2, a3, a4, a5, a6, a7, a8] st h = am_go0 cl 81 156 [some (.inr (.inr (some x))), a1, a2, a3, a4, a5, a6, a7, a8] (.inr (.inr (some x)) :: st) h := am_r am_m81 d_81_155 rfl
theorem d_81_156 : am_code 81 156 = some (.getfield 25, 3) := by decide +kernel
theorem s_81_156 (cl : am_C) (ls : am_Ls) (st : List am_V) (N : Nat) (I : Nat → Int → Int) (L : Nat → Int → Int64) : am_go0 cl 81 156 ls (.inr (.inr (some 2)) :: st) (am_GS N, am_GR, I, L) = am_go0 cl 81 159 ls (.inr (.inr (some 6)) :: st) (am_GS N, am_GR, I, L) := am_rG2 am_m81 d_81_156 am_f5025 rfl (gs_2 N) (by decide) gr_2_4 rfl
theorem d_81_159 : am_code 81 159 = some (.iload 6, 2) := by decide +kernel
theorem s_81_159 (cl : am_C) (a0 a1 a2 a3 a4 a5 a7 a8 : Option am_V) (x : Int) (st : List am_V) (h : am_H) : am_go0 cl 81 159 [a0, a1, a2, a3, a4, a5, some (.inl x), a7, a8] st h = am_go0 cl 81 161 [a0, a1, a2, a3, a4, a5, some (.inl x), a7, a8] (.inl x :: st) h := am_r am_m81 d_81_159 rfl
theorem d_81_161 : am_code 81 161 = some (.iaload, 1) := by decide +kernel
theorem s_81_161 (cl : am_C) (ls : am_Ls) (i : Int) (k : Nat) (st : List am_V) (N : Nat) (I : Nat → Int → Int) (L : Nat → Int → Int64) : am_go0 cl 81 161 ls (.inl i :: .inr (.inr (some k)) :: st) (am_GS N, am_GR, I, L) = if am_inb (am_GS N) k 0 i = true then am_go0 cl 81 162 ls (.inl (I k i) :: st) (am_GS N, am_GR, I, L) else none := am_rA am_m81 d_81_161 (by decide) rfl k ls st i _ _ I L
theorem d_81_162 : am_code 81 162 = some (.invokevirtual 65, 3) := by decide +kernel
theorem s_81_162 (cl : am_C) (ls : am_Ls) (x0 : Int) (z0 : Int) (z1 : Int) (z2 : Nat) (N : Nat) (I : Nat → Int → Int) (L : Nat → Int → Int64) : am_go0 cl 81 162 ls [.inl x0, .inr (.inr (some 2)), .inl z0, .inl z1, .inr (.inr (some z2))] (am_GS N, am_GR, I, L) = am_bd (cl 83 [.inr (.inr (some 2)), .inl x0] (am_GS N, am_GR, I, L)) (fun v h2 => am_go0 cl 81 165 ls (v.toList ++ [.inl z0, .inl z1, .inr (.inr (some z2))]) h2) := am_rV am_m81 d_81_162 am_k5065 rfl am_m83 (gs_2 N) (by decide) (Nat.le_of_ble_eq_true rfl) rfl ls
theorem d_81_165 : am_code 81 165 = some (.invokevirtual 51, 3) := by decide +kernel
theorem s_81_165 (cl : am_C) (ls : am_Ls) (x0 : Int) (x1 : Int) (x2 : Int) (N : Nat) (I : Nat → Int → Int) (L : Nat → Int → Int64) : am_go0 cl 81 165 ls [.inl x2, .inl x1, .inl x0, .inr (.inr (some 2))] (am_GS N, am_GR, I, L) = am_bd (cl 75 [.inr (.inr (some 2)), .inl x0, .inl x1, .inl x2] (am_GS N, am_GR, I, L)) (fun v h2 => am_go0 cl 81 168 ls (v.toList ++ []) h2) := am_rV am_m81 d_81_165 am_k5051 rfl am_m75 (gs_2 N) (by decide) (Nat.le_of_ble_eq_true rfl) rfl ls
theorem d_81_168 : am_code 81 168 = some (.istore 8, 2) := by decide +kernel
theorem s_81_168 (cl : am_C) (a0 a1 a2 a3 a4 a5 a6 a7 a8 : Option am_V) (x : Int) (st : List am_V) (h : am_H) : am_go0 cl 81 168 [a0, a1, a2, a3, a4, a5, a6, a7, a8] (.inl x :: st) h = am_go0 cl 81 170 [a0, a1, a2, a3, a4, a5, a6, am_c1 a7, some (.inl x)] st h := am_r am_m81 d_81_168 rfl
theorem d_81_170 : am_code 81 170 = some (.iload 8, 2) := by decide +kernel
theorem s_81_170 (cl : am_C) (a0 a1 a2 a3 a4 a5 a6 a7 : Option am_V) (x : Int) (st : List am_V) (h : am_H) : am_go0 cl 81 170 [a0, a1, a2, a3, a4, a5, a6, a7, some (.inl x)] st h = am_go0 cl 81 172 [a0, a1, a2, a3, a4, a5, a6, a7, some (.inl x)] (.inl x :: st) h := am_r am_m81 d_81_170 rfl
theorem d_81_172 : am_code 81 172 = some (.bipush (-3), 2) := by decide +kernel
theorem s_81_172 (cl : am_C) (ls : am_Ls) (st : List am_V) (h : am_H) : am_go0 cl 81 172 ls st h = am_go0 cl 81 174 ls (.inl (-3) :: st) h := am_rB am_m81 d_81_172 (by decide) rfl _ _ _
theorem d_81_174 : am_code 81 174 = some (.if_icmp .ne 6, 3) := by decide +kernel
theorem s_81_174 (cl : am_C) (ls : am_Ls) (x y : Int) (st : List am_V) (h : am_H) : am_go0 cl 81 174 ls (.inl y :: .inl x :: st) h = if x = y then am_go0 cl 81 177 ls st h else am_go0 cl 81 180 ls st h := (am_rJ0 am_m81 d_81_174 (by decide) rfl x y ls st h).trans (am_ifF ((am_cmp_ne x y).trans Iff.rfl) _ _)
theorem d_81_177 : am_code 81 177 = some (.bipush (-3), 2) := by decide +kernel
theorem s_81_177 (cl : am_C) (ls : am_Ls) (st : List am_V) (h : am_H) : am_go0 cl 81 177 ls st h = am_go0 cl 81 179 ls (.inl (-3) :: st) h := am_rB am_m81 d_81_177 (by decide) rfl _ _ _
theorem d_81_179 : am_code 81 179 = some (.ireturn, 1) := by decide +kernel
theorem s_81_179 (cl : am_C) (ls : am_Ls) (x : Int) (h : am_H) : am_go0 cl 81 179 ls [.inl x] h = some (some (.inl x), h) := am_rE am_m81 d_81_179 rfl
theorem d_81_180 : am_code 81 180 = some (.aload_n 0, 1) := by decide +kernel
theorem s_81_180 (cl : am_C) (a1 a2 a3 a4 a5 a6 a7 a8 : Option am_V) (x : Nat) (st : List am_V) (h : am_H) : am_go0 cl 81 180 [some (.inr (.inr (some x))), a1, a2, a3, a4, a5, a6, a7, a8] st h = am_go0 cl 81 181 [some (.inr (.inr (some x))), a1, a2, a3, a4, a5, a6, a7, a8] (.inr (.inr (some x)) :: st) h := am_r am_m81 d_81_180 rfl
theorem d_81_181 : am_code 81 181 = some (.getfield 34, 3) := by decide +kernel
theorem s_81_181 (cl : am_C) (ls : am_Ls) (st : List am_V) (N : Nat) (I : Nat → Int → Int) (L : Nat → Int → Int64) : am_go0 cl 81 181 ls (.inr (.inr (some 2)) :: st) (am_GS N, am_GR, I, L) = am_go0 cl 81 184 ls (.inr (.inr (some 8)) :: st) (am_GS N, am_GR, I, L) := am_rG2 am_m81 d_81_181 am_f5034 rfl (gs_2 N) (by decide) gr_2_7 rfl
theorem d_81_184 : am_code 81 184 = some (.iload 6, 2) := by decide +kernel
theorem s_81_184 (cl : am_C) (a0 a1 a2 a3 a4 a5 a7 a8 : Option am_V) (x : Int) (st : List am_V) (h : am_H) : am_go0 cl 81 184 [a0, a1, a2, a3, a4, a5, some (.inl x), a7, a8] st h = am_go0 cl 81 186 [a0, a1, a2, a3, a4, a5, some (.inl x), a7, a8] (.inl x :: st) h := am_r am_m81 d_81_184 rfl
theorem d_81_186 : am_code 81 186 = some (.iload 8, 2) := by decide +kernel
theorem s_81_186 (cl : am_C) (a0 a1 a2 a3 a4 a5 a6 a7 : Option am_V) (x : Int) (st : List am_V) (h : am_H) : am_go0 cl 81 186 [a0, a1, a2, a3, a4, a5, a6, a7, some (.inl x)] st h = am_go0 cl 81 188 [a0, a1, a2, a3, a4, a5, a6, a7, some (.inl x)] (.inl x :: st) h := am_r am_m81 d_81_186 rfl
theorem d_81_188 : am_code 81 188 = some (.iastore, 1) := by decide +kernel
theorem s_81_188 (cl : am_C) (ls : am_Ls) (i : Int) (v : Int) (k : Nat) (st : List am_V) (N : Nat) (I : Nat → Int → Int) (L : Nat → Int → Int64) : am_go0 cl 81 188 ls (.inl v :: .inl i :: .inr (.inr (some k)) :: st) (am_GS N, am_GR, I, L) = if am_inb (am_GS N) k 0 i = true then am_go0 cl 81 189 ls st (am_GS N, am_GR, am_uI I k i v, L) else none := am_rS am_m81 d_81_188 rfl k ls st i v _ _ I L
theorem d_81_189 : am_code 81 189 = some (.iinc 4 (-1), 3) := by decide +kernel
theorem s_81_189 (cl : am_C) (a0 a1 a2 a3 a5 a6 a7 a8 : Option am_V) (x : Int) (st : List am_V) (h : am_H) : am_go0 cl 81 189 [a0, a1, a2, a3, some (.inl x), a5, a6, a7, a8] st h = am_go0 cl 81 192 [a0, a1, a2, am_c1 a3, some (.inl (am_wr (x + (-1)))), a5, a6, a7, a8] st h := am_r am_m81 d_81_189 rfl
theorem d_81_192 : am_code 81 192 = some (.iinc 5 1, 3) := by decide +kernel
theorem s_81_192 (cl : am_C) (a0 a1 a2 a3 a4 a6 a7 a8 : Option am_V) (x : Int) (st : List am_V) (h : am_H) : am_go0 cl 81 192 [a0, a1, a2, a3, a4, some (.inl x), a6, a7, a8] st h = am_go0 cl 81 195 [a0, a1, a2, a3, am_c1 a4, some (.inl (am_wr (x + 1))), a6, a7, a8] st h := am_r am_m81 d_81_192 rfl
theorem d_81_195 : am_code 81 195 = some (.goto (-113), 3) := by decide +kernel
theorem s_81_195 (cl : am_C) (ls : am_Ls) (st : List am_V) (h : am_H) : am_go0 cl 81 195 ls st h = am_go0 cl 81 82 ls st h := am_rGo am_m81 d_81_195 (by decide) _ _ _
theorem d_81_198 : am_code 81 198 = some (.aload_n 0, 1) := by decide +kernel
theorem s_81_198 (cl : am_C) (a1 a2 a3 a4 a5 a6 a7 a8 : Option am_V) (x : Nat) (st : List am_V) (h : am_H) : am_go0 cl 81 198 [some (.inr (.inr (some x))), a1, a2, a3, a4, a5, a6, a7, a8] st h = am_go0 cl 81 199 [some (.inr (.inr (some x))), a1, a2, a3, a4, a5, a6, a7, a8] (.inr (.inr (some x)) :: st) h := am_r am_m81 d_81_198 rfl
theorem d_81_199 : am_code 81 199 = some (.getfield 34, 3) := by decide +kernel
theorem s_81_199 (cl : am_C) (ls : am_Ls) (st : List am_V) (N : Nat) (I : Nat → Int → Int) (L : Nat → Int → Int64) : am_go0 cl 81 199 ls (.inr (.inr (some 2)) :: st) (am_GS N, am_GR, I, L) = am_go0 cl 81 202 ls (.inr (.inr (some 8)) :: st) (am_GS N, am_GR, I, L) := am_rG2 am_m81 d_81_199 am_f5034 rfl (gs_2 N) (by decide) gr_2_7 rfl
theorem d_81_202 : am_code 81 202 = some (.iload_n 1, 1) := by decide +kernel
theorem s_81_202 (cl : am_C) (a0 a2 a3 a4 a5 a6 a7 a8 : Option am_V) (x : Int) (st : List am_V) (h : am_H) : am_go0 cl 81 202 [a0, some (.inl x), a2, a3, a4, a5, a6, a7, a8] st h = am_go0 cl 81 203 [a0, some (.inl x), a2, a3, a4, a5, a6, a7, a8] (.inl x :: st) h := am_r am_m81 d_81_202 rfl
theorem d_81_203 : am_code 81 203 = some (.iaload, 1) := by decide +kernel
theorem s_81_203 (cl : am_C) (ls : am_Ls) (i : Int) (k : Nat) (st : List am_V) (N : Nat) (I : Nat → Int → Int) (L : Nat → Int → Int64) : am_go0 cl 81 203 ls (.inl i :: .inr (.inr (some k)) :: st) (am_GS N, am_GR, I, L) = if am_inb (am_GS N) k 0 i = true then am_go0 cl 81 204 ls (.inl (I k i) :: st) (am_GS N, am_GR, I, L) else none := am_rA am_m81 d_81_203 (by decide) rfl k ls st i _ _ I L
theorem d_81_204 : am_code 81 204 = some (.ireturn, 1) := by decide +kernel
theorem s_81_204 (cl : am_C) (ls : am_Ls) (x : Int) (h : am_H) : am_go0 cl 81 204 ls [.inl x] h = some (some (.inl x), h) := am_rE am_m81 d_81_204 rfl
theorem e_81 (d : Nat) (t : Nat) (p0 : Int) (p1 : Int) (p2 : Int) (h : am_H) : am_call (d + 1) 81 [.inr (.inr (some t)), .inl p0, .inl p1, .inl p2] h = am_go0 (am_call d) 81 0 [some (.inr (.inr (some t))), some (.inl p0), some (.inl p1), some (.inl p2), none, none, none, none, none] [] h := am_callE am_m81 (Nat.le_of_ble_eq_true rfl) rfl
theorem d_82_0 : am_code 82 0 = some (.aload_n 0, 1) := by decide +kernel
theorem s_82_0 (cl : am_C) (a1 a2 a3 : Option am_V) (x : Nat) (st : List am_V) (h : am_H) : am_go0 cl 82 0 [some (.inr (.inr (some x))), a1, a2, a3] st h = am_go0 cl 82 1 [some (.inr (.inr (some x))), a1, a2, a3] (.inr (.inr (some x)) :: st) h := am_r am_m82 d_82_0 rfl
theorem d_82_1 : am_code 82 1 = some (.getfield 22, 3) := by decide +kernel
theorem s_82_1 (cl : am_C) (ls : am_Ls) (st : List am_V) (N : Nat) (I : Nat → Int → Int) (L : Nat → Int → Int64) : am_go0 cl 82 1 ls (.inr (.inr (some 2)) :: st) (am_GS N, am_GR, I, L) = am_go0 cl 82 4 ls (.inr (.inr (some 5)) :: st) (am_GS N, am_GR, I, L) := am_rG2 am_m82 d_82_1 am_f5022 rfl (gs_2 N) (by decide) gr_2_3 rfl
theorem d_82_4 : am_code 82 4 = some (.iload_n 1, 1) := by decide +kernel
theorem s_82_4 (cl : am_C) (a0 a2 a3 : Option am_V) (x : Int) (st : List am_V) (h : am_H) : am_go0 cl 82 4 [a0, some (.inl x), a2, a3] st h = am_go0 cl 82 5 [a0, some (.inl x), a2, a3] (.inl x :: st) h := am_r am_m82 d_82_4 rfl
theorem d_82_5 : am_code 82 5 = some (.iaload, 1) := by decide +kernel
theorem s_82_5 (cl : am_C) (ls : am_Ls) (i : Int) (k : Nat) (st : List am_V) (N : Nat) (I : Nat → Int → Int) (L : Nat → Int → Int64) : am_go0 cl 82 5 ls (.inl i :: .inr (.inr (some k)) :: st) (am_GS N, am_GR, I, L) = if am_inb (am_GS N) k 0 i = true then am_go0 cl 82 6 ls (.inl (I k i) :: st) (am_GS N, am_GR, I, L) else none := am_rA am_m82 d_82_5 (by decide) rfl k ls st i _ _ I L
theorem d_82_6 : am_code 82 6 = some (.istore_n 2, 1) := by decide +kernel
theorem s_82_6 (cl : am_C) (a0 a1 a2 a3 : Option am_V) (x : Int) (st : List am_V) (h : am_H) : am_go0 cl 82 6 [a0, a1, a2, a3] (.inl x :: st) h = am_go0 cl 82 7 [a0, am_c1 a1, some (.inl x), a3] st h := am_r am_m82 d_82_6 rfl
theorem d_82_7 : am_code 82 7 = some (.iload_n 2, 1) := by decide +kernel
theorem s_82_7 (cl : am_C) (a0 a1 a3 : Option am_V) (x : Int) (st : List am_V) (h : am_H) : am_go0 cl 82 7 [a0, a1, some (.inl x), a3] st h = am_go0 cl 82 8 [a0, a1, some (.inl x), a3] (.inl x :: st) h := am_r am_m82 d_82_7 rfl
theorem d_82_8 : am_code 82 8 = some (.iconst (-1), 1) := by decide +kernel
theorem s_82_8 (cl : am_C) (ls : am_Ls) (st : List am_V) (h : am_H) : am_go0 cl 82 8 ls st h = am_go0 cl 82 9 ls (.inl (-1) :: st) h := am_rK am_m82 d_82_8 (by decide) rfl _ _ _
theorem d_82_9 : am_code 82 9 = some (.if_icmp .eq 15, 3) := by decide +kernel
theorem s_82_9 (cl : am_C) (ls : am_Ls) (x y : Int) (st : List am_V) (h : am_H) : am_go0 cl 82 9 ls (.inl y :: .inl x :: st) h = if x = y then am_go0 cl 82 24 ls st h else am_go0 cl 82 12 ls st h := (am_rJ0 am_m82 d_82_9 (by decide) rfl x y ls st h).trans (am_ifT (am_cmp_eq x y) _ _)
theorem d_82_12 : am_code 82 12 = some (.aload_n 0, 1) := by decide +kernel
theorem s_82_12 (cl : am_C) (a1 a2 a3 : Option am_V) (x : Nat) (st : List am_V) (h : am_H) : am_go0 cl 82 12 [some (.inr (.inr (some x))), a1, a2, a3] st h = am_go0 cl 82 13 [some (.inr (.inr (some x))), a1, a2, a3] (.inr (.inr (some x)) :: st) h := am_r am_m82 d_82_12 rfl
theorem d_82_13 : am_code 82 13 = some (.getfield 34, 3) := by decide +kernel
theorem s_82_13 (cl : am_C) (ls : am_Ls) (st : List am_V) (N : Nat) (I : Nat → Int → Int) (L : Nat → Int → Int64) : am_go0 cl 82 13 ls (.inr (.inr (some 2)) :: st) (am_GS N, am_GR, I, L) = am_go0 cl 82 16 ls (.inr (.inr (some 8)) :: st) (am_GS N, am_GR, I, L) := am_rG2 am_m82 d_82_13 am_f5034 rfl (gs_2 N) (by decide) gr_2_7 rfl
theorem d_82_16 : am_code 82 16 = some (.iload_n 2, 1) := by decide +kernel
theorem s_82_16 (cl : am_C) (a0 a1 a3 : Option am_V) (x : Int) (st : List am_V) (h : am_H) : am_go0 cl 82 16 [a0, a1, some (.inl x), a3] st h = am_go0 cl 82 17 [a0, a1, some (.inl x), a3] (.inl x :: st) h := am_r am_m82 d_82_16 rfl
theorem d_82_17 : am_code 82 17 = some (.iaload, 1) := by decide +kernel
theorem s_82_17 (cl : am_C) (ls : am_Ls) (i : Int) (k : Nat) (st : List am_V) (N : Nat) (I : Nat → Int → Int) (L : Nat → Int → Int64) : am_go0 cl 82 17 ls (.inl i :: .inr (.inr (some k)) :: st) (am_GS N, am_GR, I, L) = if am_inb (am_GS N) k 0 i = true then am_go0 cl 82 18 ls (.inl (I k i) :: st) (am_GS N, am_GR, I, L) else none := am_rA am_m82 d_82_17 (by decide) rfl k ls st i _ _ I L
theorem d_82_18 : am_code 82 18 = some (.iconst (-1), 1) := by decide +kernel
theorem s_82_18 (cl : am_C) (ls : am_Ls) (st : List am_V) (h : am_H) : am_go0 cl 82 18 ls st h = am_go0 cl 82 19 ls (.inl (-1) :: st) h := am_rK am_m82 d_82_18 (by decide) rfl _ _ _
theorem d_82_19 : am_code 82 19 = some (.if_icmp .ne 5, 3) := by decide +kernel
theorem s_82_19 (cl : am_C) (ls : am_Ls) (x y : Int) (st : List am_V) (h : am_H) : am_go0 cl 82 19 ls (.inl y :: .inl x :: st) h = if x = y then am_go0 cl 82 22 ls st h else am_go0 cl 82 24 ls st h := (am_rJ0 am_m82 d_82_19 (by decide) rfl x y ls st h).trans (am_ifF ((am_cmp_ne x y).trans Iff.rfl) _ _)
theorem d_82_22 : am_code 82 22 = some (.iload_n 2, 1) := by decide +kernel
theorem s_82_22 (cl : am_C) (a0 a1 a3 : Option am_V) (x : Int) (st : List am_V) (h : am_H) : am_go0 cl 82 22 [a0, a1, some (.inl x), a3] st h = am_go0 cl 82 23 [a0, a1, some (.inl x), a3] (.inl x :: st) h := am_r am_m82 d_82_22 rfl
theorem d_82_23 : am_code 82 23 = some (.ireturn, 1) := by decide +kernel
theorem s_82_23 (cl : am_C) (ls : am_Ls) (x : Int) (h : am_H) : am_go0 cl 82 23 ls [.inl x] h = some (some (.inl x), h) := am_rE am_m82 d_82_23 rfl
theorem d_82_24 : am_code 82 24 = some (.aload_n 0, 1) := by decide +kernel
theorem s_82_24 (cl : am_C) (a1 a2 a3 : Option am_V) (x : Nat) (st : List am_V) (h : am_H) : am_go0 cl 82 24 [some (.inr (.inr (some x))), a1, a2, a3] st h = am_go0 cl 82 25 [some (.inr (.inr (some x))), a1, a2, a3] (.inr (.inr (some x)) :: st) h := am_r am_m82 d_82_24 rfl
theorem d_82_25 : am_code 82 25 = some (.getfield 25, 3) := by decide +kernel
theorem s_82_25 (cl : am_C) (ls : am_Ls) (st : List am_V) (N : Nat) (I : Nat → Int → Int) (L : Nat → Int → Int64) : am_go0 cl 82 25 ls (.inr (.inr (some 2)) :: st) (am_GS N, am_GR, I, L) = am_go0 cl 82 28 ls (.inr (.inr (some 6)) :: st) (am_GS N, am_GR, I, L) := am_rG2 am_m82 d_82_25 am_f5025 rfl (gs_2 N) (by decide) gr_2_4 rfl
theorem d_82_28 : am_code 82 28 = some (.iload_n 1, 1) := by decide +kernel
theorem s_82_28 (cl : am_C) (a0 a2 a3 : Option am_V) (x : Int) (st : List am_V) (h : am_H) : am_go0 cl 82 28 [a0, some (.inl x), a2, a3] st h = am_go0 cl 82 29 [a0, some (.inl x), a2, a3] (.inl x :: st) h := am_r am_m82 d_82_28 rfl
theorem d_82_29 : am_code 82 29 = some (.iaload, 1) := by decide +kernel
theorem s_82_29 (cl : am_C) (ls : am_Ls) (i : Int) (k : Nat) (st : List am_V) (N : Nat) (I : Nat → Int → Int) (L : Nat → Int → Int64) : am_go0 cl 82 29 ls (.inl i :: .inr (.inr (some k)) :: st) (am_GS N, am_GR, I, L) = if am_inb (am_GS N) k 0 i = true then am_go0 cl 82 30 ls (.inl (I k i) :: st) (am_GS N, am_GR, I, L) else none := am_rA am_m82 d_82_29 (by decide) rfl k ls st i _ _ I L
theorem d_82_30 : am_code 82 30 = some (.istore_n 3, 1) := by decide +kernel
theorem s_82_30 (cl : am_C) (a0 a1 a2 a3 : Option am_V) (x : Int) (st : List am_V) (h : am_H) : am_go0 cl 82 30 [a0, a1, a2, a3] (.inl x :: st) h = am_go0 cl 82 31 [a0, a1, am_c1 a2, some (.inl x)] st h := am_r am_m82 d_82_30 rfl
theorem d_82_31 : am_code 82 31 = some (.iload_n 3, 1) := by decide +kernel
theorem s_82_31 (cl : am_C) (a0 a1 a2 : Option am_V) (x : Int) (st : List am_V) (h : am_H) : am_go0 cl 82 31 [a0, a1, a2, some (.inl x)] st h = am_go0 cl 82 32 [a0, a1, a2, some (.inl x)] (.inl x :: st) h := am_r am_m82 d_82_31 rfl
theorem d_82_32 : am_code 82 32 = some (.iconst (-1), 1) := by decide +kernel
theorem s_82_32 (cl : am_C) (ls : am_Ls) (st : List am_V) (h : am_H) : am_go0 cl 82 32 ls st h = am_go0 cl 82 33 ls (.inl (-1) :: st) h := am_rK am_m82 d_82_32 (by decide) rfl _ _ _
theorem d_82_33 : am_code 82 33 = some (.if_icmp .eq 17, 3) := by decide +kernel
theorem s_82_33 (cl : am_C) (ls : am_Ls) (x y : Int) (st : List am_V) (h : am_H) : am_go0 cl 82 33 ls (.inl y :: .inl x :: st) h = if x = y then am_go0 cl 82 50 ls st h else am_go0 cl 82 36 ls st h := (am_rJ0 am_m82 d_82_33 (by decide) rfl x y ls st h).trans (am_ifT (am_cmp_eq x y) _ _)
theorem d_82_36 : am_code 82 36 = some (.aload_n 0, 1) := by decide +kernel
theorem s_82_36 (cl : am_C) (a1 a2 a3 : Option am_V) (x : Nat) (st : List am_V) (h : am_H) : am_go0 cl 82 36 [some (.inr (.inr (some x))), a1, a2, a3] st h = am_go0 cl 82 37 [some (.inr (.inr (some x))), a1, a2, a3] (.inr (.inr (some x)) :: st) h := am_r am_m82 d_82_36 rfl
theorem d_82_37 : am_code 82 37 = some (.getfield 34, 3) := by decide +kernel
theorem s_82_37 (cl : am_C) (ls : am_Ls) (st : List am_V) (N : Nat) (I : Nat → Int → Int) (L : Nat → Int → Int64) : am_go0 cl 82 37 ls (.inr (.inr (some 2)) :: st) (am_GS N, am_GR, I, L) = am_go0 cl 82 40 ls (.inr (.inr (some 8)) :: st) (am_GS N, am_GR, I, L) := am_rG2 am_m82 d_82_37 am_f5034 rfl (gs_2 N) (by decide) gr_2_7 rfl
theorem d_82_40 : am_code 82 40 = some (.iload_n 3, 1) := by decide +kernel
theorem s_82_40 (cl : am_C) (a0 a1 a2 : Option am_V) (x : Int) (st : List am_V) (h : am_H) : am_go0 cl 82 40 [a0, a1, a2, some (.inl x)] st h = am_go0 cl 82 41 [a0, a1, a2, some (.inl x)] (.inl x :: st) h := am_r am_m82 d_82_40 rfl
theorem d_82_41 : am_code 82 41 = some (.iaload, 1) := by decide +kernel
theorem s_82_41 (cl : am_C) (ls : am_Ls) (i : Int) (k : Nat) (st : List am_V) (N : Nat) (I : Nat → Int → Int) (L : Nat → Int → Int64) : am_go0 cl 82 41 ls (.inl i :: .inr (.inr (some k)) :: st) (am_GS N, am_GR, I, L) = if am_inb (am_GS N) k 0 i = true then am_go0 cl 82 42 ls (.inl (I k i) :: st) (am_GS N, am_GR, I, L) else none := am_rA am_m82 d_82_41 (by decide) rfl k ls st i _ _ I L
theorem d_82_42 : am_code 82 42 = some (.iconst (-1), 1) := by decide +kernel
theorem s_82_42 (cl : am_C) (ls : am_Ls) (st : List am_V) (h : am_H) : am_go0 cl 82 42 ls st h = am_go0 cl 82 43 ls (.inl (-1) :: st) h := am_rK am_m82 d_82_42 (by decide) rfl _ _ _
theorem d_82_43 : am_code 82 43 = some (.if_icmp .ne 7, 3) := by decide +kernel
theorem s_82_43 (cl : am_C) (ls : am_Ls) (x y : Int) (st : List am_V) (h : am_H) : am_go0 cl 82 43 ls (.inl y :: .inl x :: st) h = if x = y then am_go0 cl 82 46 ls st h else am_go0 cl 82 50 ls st h := (am_rJ0 am_m82 d_82_43 (by decide) rfl x y ls st h).trans (am_ifF ((am_cmp_ne x y).trans Iff.rfl) _ _)
theorem d_82_46 : am_code 82 46 = some (.iload_n 3, 1) := by decide +kernel
theorem s_82_46 (cl : am_C) (a0 a1 a2 : Option am_V) (x : Int) (st : List am_V) (h : am_H) : am_go0 cl 82 46 [a0, a1, a2, some (.inl x)] st h = am_go0 cl 82 47 [a0, a1, a2, some (.inl x)] (.inl x :: st) h := am_r am_m82 d_82_46 rfl
theorem d_82_47 : am_code 82 47 = some (.goto 4, 3) := by decide +kernel
theorem s_82_47 (cl : am_C) (ls : am_Ls) (st : List am_V) (h : am_H) : am_go0 cl 82 47 ls st h = am_go0 cl 82 51 ls st h := am_rGo am_m82 d_82_47 (by decide) _ _ _
theorem d_82_50 : am_code 82 50 = some (.iconst (-1), 1) := by decide +kernel
theorem s_82_50 (cl : am_C) (ls : am_Ls) (st : List am_V) (h : am_H) : am_go0 cl 82 50 ls st h = am_go0 cl 82 51 ls (.inl (-1) :: st) h := am_rK am_m82 d_82_50 (by decide) rfl _ _ _
theorem d_82_51 : am_code 82 51 = some (.ireturn, 1) := by decide +kernel
theorem s_82_51 (cl : am_C) (ls : am_Ls) (x : Int) (h : am_H) : am_go0 cl 82 51 ls [.inl x] h = some (some (.inl x), h) := am_rE am_m82 d_82_51 rfl
theorem e_82 (d : Nat) (t : Nat) (p0 : Int) (h : am_H) : am_call (d + 1) 82 [.inr (.inr (some t)), .inl p0] h = am_go0 (am_call d) 82 0 [some (.inr (.inr (some t))), some (.inl p0), none, none] [] h := am_callE am_m82 (Nat.le_of_ble_eq_true rfl) rfl
theorem d_83_0 : am_code 83 0 = some (.iload_n 1, 1) := by decide +kernel
theorem s_83_0 (cl : am_C) (a0 : Option am_V) (x : Int) (st : List am_V) (h : am_H) : am_go0 cl 83 0 [a0, some (.inl x)] st h = am_go0 cl 83 1 [a0, some (.inl x)] (.inl x :: st) h := am_r am_m83 d_83_0 rfl
theorem d_83_1 : am_code 83 1 = some (.iconst (-1), 1) := by decide +kernel
theorem s_83_1 (cl : am_C) (ls : am_Ls) (st : List am_V) (h : am_H) : am_go0 cl 83 1 ls st h = am_go0 cl 83 2 ls (.inl (-1) :: st) h := am_rK am_m83 d_83_1 (by decide) rfl _ _ _
theorem d_83_2 : am_code 83 2 = some (.if_icmp .ne 7, 3) := by decide +kernel
theorem s_83_2 (cl : am_C) (ls : am_Ls) (x y : Int) (st : List am_V) (h : am_H) : am_go0 cl 83 2 ls (.inl y :: .inl x :: st) h = if x = y then am_go0 cl 83 5 ls st h else am_go0 cl 83 9 ls st h := (am_rJ0 am_m83 d_83_2 (by decide) rfl x y ls st h).trans (am_ifF ((am_cmp_ne x y).trans Iff.rfl) _ _)
theorem d_83_5 : am_code 83 5 = some (.iconst (-1), 1) := by decide +kernel
theorem s_83_5 (cl : am_C) (ls : am_Ls) (st : List am_V) (h : am_H) : am_go0 cl 83 5 ls st h = am_go0 cl 83 6 ls (.inl (-1) :: st) h := am_rK am_m83 d_83_5 (by decide) rfl _ _ _
theorem d_83_6 : am_code 83 6 = some (.goto 9, 3) := by decide +kernel
theorem s_83_6 (cl : am_C) (ls : am_Ls) (st : List am_V) (h : am_H) : am_go0 cl 83 6 ls st h = am_go0 cl 83 15 ls st h := am_rGo am_m83 d_83_6 (by decide) _ _ _
theorem d_83_9 : am_code 83 9 = some (.aload_n 0, 1) := by decide +kernel
theorem s_83_9 (cl : am_C) (a1 : Option am_V) (x : Nat) (st : List am_V) (h : am_H) : am_go0 cl 83 9 [some (.inr (.inr (some x))), a1] st h = am_go0 cl 83 10 [some (.inr (.inr (some x))), a1] (.inr (.inr (some x)) :: st) h := am_r am_m83 d_83_9 rfl
theorem d_83_10 : am_code 83 10 = some (.getfield 34, 3) := by decide +kernel
theorem s_83_10 (cl : am_C) (ls : am_Ls) (st : List am_V) (N : Nat) (I : Nat → Int → Int) (L : Nat → Int → Int64) : am_go0 cl 83 10 ls (.inr (.inr (some 2)) :: st) (am_GS N, am_GR, I, L) = am_go0 cl 83 13 ls (.inr (.inr (some 8)) :: st) (am_GS N, am_GR, I, L) := am_rG2 am_m83 d_83_10 am_f5034 rfl (gs_2 N) (by decide) gr_2_7 rfl
theorem d_83_13 : am_code 83 13 = some (.iload_n 1, 1) := by decide +kernel
theorem s_83_13 (cl : am_C) (a0 : Option am_V) (x : Int) (st : List am_V) (h : am_H) : am_go0 cl 83 13 [a0, some (.inl x)] st h = am_go0 cl 83 14 [a0, some (.inl x)] (.inl x :: st) h := am_r am_m83 d_83_13 rfl
theorem d_83_14 : am_code 83 14 = some (.iaload, 1) := by decide +kernel
theorem s_83_14 (cl : am_C) (ls : am_Ls) (i : Int) (k : Nat) (st : List am_V) (N : Nat) (I : Nat → Int → Int) (L : Nat → Int → Int64) : am_go0 cl 83 14 ls (.inl i :: .inr (.inr (some k)) :: st) (am_GS N, am_GR, I, L) = if am_inb (am_GS N) k 0 i = true then am_go0 cl 83 15 ls (.inl (I k i) :: st) (am_GS N, am_GR, I, L) else none := am_rA am_m83 d_83_14 (by decide) rfl k ls st i _ _ I L
theorem d_83_15 : am_code 83 15 = some (.ireturn, 1) := by decide +kernel
theorem s_83_15 (cl : am_C) (ls : am_Ls) (x : Int) (h : am_H) : am_go0 cl 83 15 ls [.inl x] h = some (some (.inl x), h) := am_rE am_m83 d_83_15 rfl
theorem e_83 (d : Nat) (t : Nat) (p0 : Int) (h : am_H) : am_call (d + 1) 83 [.inr (.inr (some t)), .inl p0] h = am_go0 (am_call d) 83 0 [some (.inr (.inr (some t))), some (.inl p0)] [] h := am_callE am_m83 (Nat.le_of_ble_eq_true rfl) rfl
theorem d_84_0 : am_code 84 0 = some (.aload_n 0, 1) := by decide +kernel
theorem s_84_0 (cl : am_C) (x : Nat) (st : List am_V) (h : am_H) : am_go0 cl 84 0 [some (.inr (.inr (some x)))] st h = am_go0 cl 84 1 [some (.inr (.inr (some x)))] (.inr (.inr (some x)) :: st) h := am_r am_m84 d_84_0 rfl
theorem d_84_1 : am_code 84 1 = some (.getfield 15, 3) := by decide +kernel
theorem s_84_1 (cl : am_C) (ls : am_Ls) (st : List am_V) (N : Nat) (I : Nat → Int → Int) (L : Nat → Int → Int64) : am_go0 cl 84 1 ls (.inr (.inr (some 2)) :: st) (am_GS N, am_GR, I, L) = am_go0 cl 84 4 ls (.inl (I 2 1) :: st) (am_GS N, am_GR, I, L) := am_rG0 am_m84 d_84_1 am_f5015 rfl (gs_2 N) (by decide) rfl
theorem d_84_4 : am_code 84 4 = some (.ireturn, 1) := by decide +kernel
theorem s_84_4 (cl : am_C) (ls : am_Ls) (x : Int) (h : am_H) : am_go0 cl 84 4 ls [.inl x] h = some (some (.inl x), h) := am_rE am_m84 d_84_4 rfl
theorem e_84 (d : Nat) (t : Nat) (h : am_H) : am_call (d + 1) 84 [.inr (.inr (some t))] h = am_go0 (am_call d) 84 0 [some (.inr (.inr (some t)))] [] h := am_callE am_m84 (Nat.le_of_ble_eq_true rfl) rfl
theorem d_85_0 : am_code 85 0 = some (.aload_n 0, 1) := by decide +kernel
theorem s_85_0 (cl : am_C) (x : Nat) (st : List am_V) (h : am_H) : am_go0 cl 85 0 [some (.inr (.inr (some x)))] st h = am_go0 cl 85 1 [some (.inr (.inr (some x)))] (.inr (.inr (some x)) :: st) h := am_r am_m85 d_85_0 rfl
theorem d_85_1 : am_code 85 1 = some (.getfield 31, 3) := by decide +kernel
theorem s_85_1 (cl : am_C) (ls : am_Ls) (st : List am_V) (N : Nat) (I : Nat → Int → Int) (L : Nat → Int → Int64) : am_go0 cl 85 1 ls (.inr (.inr (some 2)) :: st) (am_GS N, am_GR, I, L) = am_go0 cl 85 4 ls (.inl (I 2 6) :: st) (am_GS N, am_GR, I, L) := am_rG0 am_m85 d_85_1 am_f5031 rfl (gs_2 N) (by decide) rfl
theorem d_85_4 : am_code 85 4 = some (.ireturn, 1) := by decide +kernel
theorem s_85_4 (cl : am_C) (ls : am_Ls) (x : Int) (h : am_H) : am_go0 cl 85 4 ls [.inl x] h = some (some (.inl x), h) := am_rE am_m85 d_85_4 rfl
theorem e_85 (d : Nat) (t : Nat) (h : am_H) : am_call (d + 1) 85 [.inr (.inr (some t))] h = am_go0 (am_call d) 85 0 [some (.inr (.inr (some t)))] [] h := am_callE am_m85 (Nat.le_of_ble_eq_true rfl) rfl
