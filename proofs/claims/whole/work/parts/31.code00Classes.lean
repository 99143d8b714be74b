theorem d_1_0 : am_code 1 0 = some (.iload_n 1, 1) := by decide +kernel
theorem s_1_0 (cl : am_C) (a0 : Option am_V) (x : Int) (st : List am_V) (h : am_H) : am_go0 cl 1 0 [a0, some (.inl x)] st h = am_go0 cl 1 1 [a0, some (.inl x)] (.inl x :: st) h := am_r am_m1 d_1_0 rfl
theorem d_1_1 : am_code 1 1 = some (.iconst 1, 1) := by decide +kernel
theorem s_1_1 (cl : am_C) (ls : am_Ls) (st : List am_V) (h : am_H) : am_go0 cl 1 1 ls st h = am_go0 cl 1 2 ls (.inl 1 :: st) h := am_rK am_m1 d_1_1 (by decide) rfl _ _ _
theorem d_1_2 : am_code 1 2 = some (.if_icmp .lt 8, 3) := by decide +kernel
theorem s_1_2 (cl : am_C) (ls : am_Ls) (x y : Int) (st : List am_V) (h : am_H) : am_go0 cl 1 2 ls (.inl y :: .inl x :: st) h = if x < y then am_go0 cl 1 10 ls st h else am_go0 cl 1 5 ls st h := (am_rJ0 am_m1 d_1_2 (by decide) rfl x y ls st h).trans (am_ifT (am_cmp_lt x y) _ _)
theorem d_1_5 : am_code 1 5 = some (.iload_n 1, 1) := by decide +kernel
theorem s_1_5 (cl : am_C) (a0 : Option am_V) (x : Int) (st : List am_V) (h : am_H) : am_go0 cl 1 5 [a0, some (.inl x)] st h = am_go0 cl 1 6 [a0, some (.inl x)] (.inl x :: st) h := am_r am_m1 d_1_5 rfl
theorem d_1_6 : am_code 1 6 = some (.iconst 4, 1) := by decide +kernel
theorem s_1_6 (cl : am_C) (ls : am_Ls) (st : List am_V) (h : am_H) : am_go0 cl 1 6 ls st h = am_go0 cl 1 7 ls (.inl 4 :: st) h := am_rK am_m1 d_1_6 (by decide) rfl _ _ _
theorem d_1_7 : am_code 1 7 = some (.if_icmp .le 6, 3) := by decide +kernel
theorem s_1_7 (cl : am_C) (ls : am_Ls) (x y : Int) (st : List am_V) (h : am_H) : am_go0 cl 1 7 ls (.inl y :: .inl x :: st) h = if y < x then am_go0 cl 1 10 ls st h else am_go0 cl 1 13 ls st h := (am_rJ0 am_m1 d_1_7 (by decide) rfl x y ls st h).trans (am_ifF ((am_cmp_le x y).trans Int.not_lt.symm) _ _)
theorem d_1_10 : am_code 1 10 = some (.bipush (-2), 2) := by decide +kernel
theorem s_1_10 (cl : am_C) (ls : am_Ls) (st : List am_V) (h : am_H) : am_go0 cl 1 10 ls st h = am_go0 cl 1 12 ls (.inl (-2) :: st) h := am_rB am_m1 d_1_10 (by decide) rfl _ _ _
theorem d_1_12 : am_code 1 12 = some (.ireturn, 1) := by decide +kernel
theorem s_1_12 (cl : am_C) (ls : am_Ls) (x : Int) (h : am_H) : am_go0 cl 1 12 ls [.inl x] h = some (some (.inl x), h) := am_rE am_m1 d_1_12 rfl
theorem d_1_13 : am_code 1 13 = some (.aload_n 0, 1) := by decide +kernel
theorem s_1_13 (cl : am_C) (a1 : Option am_V) (x : Nat) (st : List am_V) (h : am_H) : am_go0 cl 1 13 [some (.inr (.inr (some x))), a1] st h = am_go0 cl 1 14 [some (.inr (.inr (some x))), a1] (.inr (.inr (some x)) :: st) h := am_r am_m1 d_1_13 rfl
theorem d_1_14 : am_code 1 14 = some (.getfield 24, 3) := by decide +kernel
theorem s_1_14 (cl : am_C) (ls : am_Ls) (st : List am_V) (N : Nat) (I : Nat → Int → Int) (L : Nat → Int → Int64) : am_go0 cl 1 14 ls (.inr (.inr (some 10)) :: st) (am_GS N, am_GR, I, L) = am_go0 cl 1 17 ls (.inl (I 10 4) :: st) (am_GS N, am_GR, I, L) := am_rG0 am_m1 d_1_14 am_f24 rfl (gs_10 N) (by decide) rfl
theorem d_1_17 : am_code 1 17 = some (.bipush 8, 2) := by decide +kernel
theorem s_1_17 (cl : am_C) (ls : am_Ls) (st : List am_V) (h : am_H) : am_go0 cl 1 17 ls st h = am_go0 cl 1 19 ls (.inl 8 :: st) h := am_rB am_m1 d_1_17 (by decide) rfl _ _ _
theorem d_1_19 : am_code 1 19 = some (.if_icmp .lt 6, 3) := by decide +kernel
theorem s_1_19 (cl : am_C) (ls : am_Ls) (x y : Int) (st : List am_V) (h : am_H) : am_go0 cl 1 19 ls (.inl y :: .inl x :: st) h = if x < y then am_go0 cl 1 25 ls st h else am_go0 cl 1 22 ls st h := (am_rJ0 am_m1 d_1_19 (by decide) rfl x y ls st h).trans (am_ifT (am_cmp_lt x y) _ _)
theorem d_1_22 : am_code 1 22 = some (.bipush (-3), 2) := by decide +kernel
theorem s_1_22 (cl : am_C) (ls : am_Ls) (st : List am_V) (h : am_H) : am_go0 cl 1 22 ls st h = am_go0 cl 1 24 ls (.inl (-3) :: st) h := am_rB am_m1 d_1_22 (by decide) rfl _ _ _
theorem d_1_24 : am_code 1 24 = some (.ireturn, 1) := by decide +kernel
theorem s_1_24 (cl : am_C) (ls : am_Ls) (x : Int) (h : am_H) : am_go0 cl 1 24 ls [.inl x] h = some (some (.inl x), h) := am_rE am_m1 d_1_24 rfl
theorem d_1_25 : am_code 1 25 = some (.aload_n 0, 1) := by decide +kernel
theorem s_1_25 (cl : am_C) (a1 : Option am_V) (x : Nat) (st : List am_V) (h : am_H) : am_go0 cl 1 25 [some (.inr (.inr (some x))), a1] st h = am_go0 cl 1 26 [some (.inr (.inr (some x))), a1] (.inr (.inr (some x)) :: st) h := am_r am_m1 d_1_25 rfl
theorem d_1_26 : am_code 1 26 = some (.getfield 11, 3) := by decide +kernel
theorem s_1_26 (cl : am_C) (ls : am_Ls) (st : List am_V) (N : Nat) (I : Nat → Int → Int) (L : Nat → Int → Int64) : am_go0 cl 1 26 ls (.inr (.inr (some 10)) :: st) (am_GS N, am_GR, I, L) = am_go0 cl 1 29 ls (.inr (.inr (some 11)) :: st) (am_GS N, am_GR, I, L) := am_rG2 am_m1 d_1_26 am_f11 rfl (gs_10 N) (by decide) gr_10_0 rfl
theorem d_1_29 : am_code 1 29 = some (.aload_n 0, 1) := by decide +kernel
theorem s_1_29 (cl : am_C) (a1 : Option am_V) (x : Nat) (st : List am_V) (h : am_H) : am_go0 cl 1 29 [some (.inr (.inr (some x))), a1] st h = am_go0 cl 1 30 [some (.inr (.inr (some x))), a1] (.inr (.inr (some x)) :: st) h := am_r am_m1 d_1_29 rfl
theorem d_1_30 : am_code 1 30 = some (.getfield 24, 3) := by decide +kernel
theorem s_1_30 (cl : am_C) (ls : am_Ls) (st : List am_V) (N : Nat) (I : Nat → Int → Int) (L : Nat → Int → Int64) : am_go0 cl 1 30 ls (.inr (.inr (some 10)) :: st) (am_GS N, am_GR, I, L) = am_go0 cl 1 33 ls (.inl (I 10 4) :: st) (am_GS N, am_GR, I, L) := am_rG0 am_m1 d_1_30 am_f24 rfl (gs_10 N) (by decide) rfl
theorem d_1_33 : am_code 1 33 = some (.iload_n 1, 1) := by decide +kernel
theorem s_1_33 (cl : am_C) (a0 : Option am_V) (x : Int) (st : List am_V) (h : am_H) : am_go0 cl 1 33 [a0, some (.inl x)] st h = am_go0 cl 1 34 [a0, some (.inl x)] (.inl x :: st) h := am_r am_m1 d_1_33 rfl
theorem d_1_34 : am_code 1 34 = some (.iastore, 1) := by decide +kernel
theorem s_1_34 (cl : am_C) (ls : am_Ls) (i : Int) (v : Int) (k : Nat) (st : List am_V) (N : Nat) (I : Nat → Int → Int) (L : Nat → Int → Int64) : am_go0 cl 1 34 ls (.inl v :: .inl i :: .inr (.inr (some k)) :: st) (am_GS N, am_GR, I, L) = if am_inb (am_GS N) k 0 i = true then am_go0 cl 1 35 ls st (am_GS N, am_GR, am_uI I k i v, L) else none := am_rS am_m1 d_1_34 rfl k ls st i v _ _ I L
theorem d_1_35 : am_code 1 35 = some (.aload_n 0, 1) := by decide +kernel
theorem s_1_35 (cl : am_C) (a1 : Option am_V) (x : Nat) (st : List am_V) (h : am_H) : am_go0 cl 1 35 [some (.inr (.inr (some x))), a1] st h = am_go0 cl 1 36 [some (.inr (.inr (some x))), a1] (.inr (.inr (some x)) :: st) h := am_r am_m1 d_1_35 rfl
theorem d_1_36 : am_code 1 36 = some (.dup, 1) := by decide +kernel
theorem s_1_36 (cl : am_C) (ls : am_Ls) (x : Nat) (st : List am_V) (h : am_H) : am_go0 cl 1 36 ls (.inr (.inr (some x)) :: st) h = am_go0 cl 1 37 ls (.inr (.inr (some x)) :: .inr (.inr (some x)) :: st) h := am_r am_m1 d_1_36 rfl
theorem d_1_37 : am_code 1 37 = some (.getfield 24, 3) := by decide +kernel
theorem s_1_37 (cl : am_C) (ls : am_Ls) (st : List am_V) (N : Nat) (I : Nat → Int → Int) (L : Nat → Int → Int64) : am_go0 cl 1 37 ls (.inr (.inr (some 10)) :: st) (am_GS N, am_GR, I, L) = am_go0 cl 1 40 ls (.inl (I 10 4) :: st) (am_GS N, am_GR, I, L) := am_rG0 am_m1 d_1_37 am_f24 rfl (gs_10 N) (by decide) rfl
theorem d_1_40 : am_code 1 40 = some (.dup_x1, 1) := by decide +kernel
theorem s_1_40 (cl : am_C) (ls : am_Ls) (x : Int) (y : Nat) (st : List am_V) (h : am_H) : am_go0 cl 1 40 ls (.inl x :: .inr (.inr (some y)) :: st) h = am_go0 cl 1 41 ls (.inl x :: .inr (.inr (some y)) :: .inl x :: st) h := am_r am_m1 d_1_40 rfl
theorem d_1_41 : am_code 1 41 = some (.iconst 1, 1) := by decide +kernel
theorem s_1_41 (cl : am_C) (ls : am_Ls) (st : List am_V) (h : am_H) : am_go0 cl 1 41 ls st h = am_go0 cl 1 42 ls (.inl 1 :: st) h := am_rK am_m1 d_1_41 (by decide) rfl _ _ _
theorem d_1_42 : am_code 1 42 = some (.iadd, 1) := by decide +kernel
theorem s_1_42 (cl : am_C) (ls : am_Ls) (x y : Int) (st : List am_V) (h : am_H) : am_go0 cl 1 42 ls (.inl y :: .inl x :: st) h = am_go0 cl 1 43 ls (.inl (am_wr (x + y)) :: st) h := am_r am_m1 d_1_42 rfl
theorem d_1_43 : am_code 1 43 = some (.putfield 24, 3) := by decide +kernel
theorem s_1_43 (cl : am_C) (ls : am_Ls) (v : Int) (st : List am_V) (N : Nat) (I : Nat → Int → Int) (L : Nat → Int → Int64) : am_go0 cl 1 43 ls (.inl v :: .inr (.inr (some 10)) :: st) (am_GS N, am_GR, I, L) = am_go0 cl 1 46 ls st (am_GS N, am_GR, am_uI I 10 4 v, L) := am_rP0 am_m1 d_1_43 am_f24 rfl (gs_10 N) (by decide) rfl
theorem d_1_46 : am_code 1 46 = some (.ireturn, 1) := by decide +kernel
theorem s_1_46 (cl : am_C) (ls : am_Ls) (x : Int) (h : am_H) : am_go0 cl 1 46 ls [.inl x] h = some (some (.inl x), h) := am_rE am_m1 d_1_46 rfl
theorem e_1 (d : Nat) (t : Nat) (p0 : Int) (h : am_H) : am_call (d + 1) 1 [.inr (.inr (some t)), .inl p0] h = am_go0 (am_call d) 1 0 [some (.inr (.inr (some t))), some (.inl p0)] [] h := am_callE am_m1 (Nat.le_of_ble_eq_true rfl) rfl
theorem d_2_0 : am_code 2 0 = some (.aload_n 0, 1) := by decide +kernel
theorem s_2_0 (cl : am_C) (a1 a2 : Option am_V) (x : Nat) (st : List am_V) (h : am_H) : am_go0 cl 2 0 [some (.inr (.inr (some x))), a1, a2] st h = am_go0 cl 2 1 [some (.inr (.inr (some x))), a1, a2] (.inr (.inr (some x)) :: st) h := am_r am_m2 d_2_0 rfl
theorem d_2_1 : am_code 2 1 = some (.iload_n 1, 1) := by decide +kernel
theorem s_2_1 (cl : am_C) (a0 a2 : Option am_V) (x : Int) (st : List am_V) (h : am_H) : am_go0 cl 2 1 [a0, some (.inl x), a2] st h = am_go0 cl 2 2 [a0, some (.inl x), a2] (.inl x :: st) h := am_r am_m2 d_2_1 rfl
theorem d_2_2 : am_code 2 2 = some (.invokevirtual 34, 3) := by decide +kernel
theorem s_2_2 (cl : am_C) (ls : am_Ls) (x0 : Int) (N : Nat) (I : Nat → Int → Int) (L : Nat → Int → Int64) : am_go0 cl 2 2 ls [.inl x0, .inr (.inr (some 10))] (am_GS N, am_GR, I, L) = am_bd (cl 3 [.inr (.inr (some 10)), .inl x0] (am_GS N, am_GR, I, L)) (fun v h2 => am_go0 cl 2 5 ls (v.toList ++ []) h2) := am_rV am_m2 d_2_2 am_k34 rfl am_m3 (gs_10 N) (by decide) (Nat.le_of_ble_eq_true rfl) rfl ls
theorem d_2_5 : am_code 2 5 = some (.ifCond .eq 21, 3) := by decide +kernel
theorem s_2_5 (cl : am_C) (ls : am_Ls) (x : Int) (st : List am_V) (h : am_H) : am_go0 cl 2 5 ls (.inl x :: st) h = if x = 0 then am_go0 cl 2 26 ls st h else am_go0 cl 2 8 ls st h := (am_rJ1 am_m2 d_2_5 (by decide) rfl x ls st h).trans (am_ifT (am_cmp_eq x 0) _ _)
theorem d_2_8 : am_code 2 8 = some (.iload_n 2, 1) := by decide +kernel
theorem s_2_8 (cl : am_C) (a0 a1 : Option am_V) (x : Int) (st : List am_V) (h : am_H) : am_go0 cl 2 8 [a0, a1, some (.inl x)] st h = am_go0 cl 2 9 [a0, a1, some (.inl x)] (.inl x :: st) h := am_r am_m2 d_2_8 rfl
theorem d_2_9 : am_code 2 9 = some (.ifCond .lt 17, 3) := by decide +kernel
theorem s_2_9 (cl : am_C) (ls : am_Ls) (x : Int) (st : List am_V) (h : am_H) : am_go0 cl 2 9 ls (.inl x :: st) h = if x < 0 then am_go0 cl 2 26 ls st h else am_go0 cl 2 12 ls st h := (am_rJ1 am_m2 d_2_9 (by decide) rfl x ls st h).trans (am_ifT (am_cmp_lt x 0) _ _)
theorem d_2_12 : am_code 2 12 = some (.iload_n 2, 1) := by decide +kernel
theorem s_2_12 (cl : am_C) (a0 a1 : Option am_V) (x : Int) (st : List am_V) (h : am_H) : am_go0 cl 2 12 [a0, a1, some (.inl x)] st h = am_go0 cl 2 13 [a0, a1, some (.inl x)] (.inl x :: st) h := am_r am_m2 d_2_12 rfl
theorem d_2_13 : am_code 2 13 = some (.iload_n 1, 1) := by decide +kernel
theorem s_2_13 (cl : am_C) (a0 a2 : Option am_V) (x : Int) (st : List am_V) (h : am_H) : am_go0 cl 2 13 [a0, some (.inl x), a2] st h = am_go0 cl 2 14 [a0, some (.inl x), a2] (.inl x :: st) h := am_r am_m2 d_2_13 rfl
theorem d_2_14 : am_code 2 14 = some (.if_icmp .ge 12, 3) := by decide +kernel
theorem s_2_14 (cl : am_C) (ls : am_Ls) (x y : Int) (st : List am_V) (h : am_H) : am_go0 cl 2 14 ls (.inl y :: .inl x :: st) h = if x < y then am_go0 cl 2 17 ls st h else am_go0 cl 2 26 ls st h := (am_rJ0 am_m2 d_2_14 (by decide) rfl x y ls st h).trans (am_ifF ((am_cmp_ge x y).trans Int.not_lt.symm) _ _)
theorem d_2_17 : am_code 2 17 = some (.aload_n 0, 1) := by decide +kernel
theorem s_2_17 (cl : am_C) (a1 a2 : Option am_V) (x : Nat) (st : List am_V) (h : am_H) : am_go0 cl 2 17 [some (.inr (.inr (some x))), a1, a2] st h = am_go0 cl 2 18 [some (.inr (.inr (some x))), a1, a2] (.inr (.inr (some x)) :: st) h := am_r am_m2 d_2_17 rfl
theorem d_2_18 : am_code 2 18 = some (.iload_n 1, 1) := by decide +kernel
theorem s_2_18 (cl : am_C) (a0 a2 : Option am_V) (x : Int) (st : List am_V) (h : am_H) : am_go0 cl 2 18 [a0, some (.inl x), a2] st h = am_go0 cl 2 19 [a0, some (.inl x), a2] (.inl x :: st) h := am_r am_m2 d_2_18 rfl
theorem d_2_19 : am_code 2 19 = some (.iload_n 2, 1) := by decide +kernel
theorem s_2_19 (cl : am_C) (a0 a1 : Option am_V) (x : Int) (st : List am_V) (h : am_H) : am_go0 cl 2 19 [a0, a1, some (.inl x)] st h = am_go0 cl 2 20 [a0, a1, some (.inl x)] (.inl x :: st) h := am_r am_m2 d_2_19 rfl
theorem d_2_20 : am_code 2 20 = some (.invokevirtual 38, 3) := by decide +kernel
theorem s_2_20 (cl : am_C) (ls : am_Ls) (x0 : Int) (x1 : Int) (N : Nat) (I : Nat → Int → Int) (L : Nat → Int → Int64) : am_go0 cl 2 20 ls [.inl x1, .inl x0, .inr (.inr (some 10))] (am_GS N, am_GR, I, L) = am_bd (cl 4 [.inr (.inr (some 10)), .inl x0, .inl x1] (am_GS N, am_GR, I, L)) (fun v h2 => am_go0 cl 2 23 ls (v.toList ++ []) h2) := am_rV am_m2 d_2_20 am_k38 rfl am_m4 (gs_10 N) (by decide) (Nat.le_of_ble_eq_true rfl) rfl ls
theorem d_2_23 : am_code 2 23 = some (.ifCond .eq 6, 3) := by decide +kernel
theorem s_2_23 (cl : am_C) (ls : am_Ls) (x : Int) (st : List am_V) (h : am_H) : am_go0 cl 2 23 ls (.inl x :: st) h = if x = 0 then am_go0 cl 2 29 ls st h else am_go0 cl 2 26 ls st h := (am_rJ1 am_m2 d_2_23 (by decide) rfl x ls st h).trans (am_ifT (am_cmp_eq x 0) _ _)
theorem d_2_26 : am_code 2 26 = some (.bipush (-2), 2) := by decide +kernel
theorem s_2_26 (cl : am_C) (ls : am_Ls) (st : List am_V) (h : am_H) : am_go0 cl 2 26 ls st h = am_go0 cl 2 28 ls (.inl (-2) :: st) h := am_rB am_m2 d_2_26 (by decide) rfl _ _ _
theorem d_2_28 : am_code 2 28 = some (.ireturn, 1) := by decide +kernel
theorem s_2_28 (cl : am_C) (ls : am_Ls) (x : Int) (h : am_H) : am_go0 cl 2 28 ls [.inl x] h = some (some (.inl x), h) := am_rE am_m2 d_2_28 rfl
theorem d_2_29 : am_code 2 29 = some (.aload_n 0, 1) := by decide +kernel
theorem s_2_29 (cl : am_C) (a1 a2 : Option am_V) (x : Nat) (st : List am_V) (h : am_H) : am_go0 cl 2 29 [some (.inr (.inr (some x))), a1, a2] st h = am_go0 cl 2 30 [some (.inr (.inr (some x))), a1, a2] (.inr (.inr (some x)) :: st) h := am_r am_m2 d_2_29 rfl
theorem d_2_30 : am_code 2 30 = some (.getfield 15, 3) := by decide +kernel
theorem s_2_30 (cl : am_C) (ls : am_Ls) (st : List am_V) (N : Nat) (I : Nat → Int → Int) (L : Nat → Int → Int64) : am_go0 cl 2 30 ls (.inr (.inr (some 10)) :: st) (am_GS N, am_GR, I, L) = am_go0 cl 2 33 ls (.inr (.inr (some 12)) :: st) (am_GS N, am_GR, I, L) := am_rG2 am_m2 d_2_30 am_f15 rfl (gs_10 N) (by decide) gr_10_1 rfl
theorem d_2_33 : am_code 2 33 = some (.iload_n 1, 1) := by decide +kernel
theorem s_2_33 (cl : am_C) (a0 a2 : Option am_V) (x : Int) (st : List am_V) (h : am_H) : am_go0 cl 2 33 [a0, some (.inl x), a2] st h = am_go0 cl 2 34 [a0, some (.inl x), a2] (.inl x :: st) h := am_r am_m2 d_2_33 rfl
theorem d_2_34 : am_code 2 34 = some (.iaload, 1) := by decide +kernel
theorem s_2_34 (cl : am_C) (ls : am_Ls) (i : Int) (k : Nat) (st : List am_V) (N : Nat) (I : Nat → Int → Int) (L : Nat → Int → Int64) : am_go0 cl 2 34 ls (.inl i :: .inr (.inr (some k)) :: st) (am_GS N, am_GR, I, L) = if am_inb (am_GS N) k 0 i = true then am_go0 cl 2 35 ls (.inl (I k i) :: st) (am_GS N, am_GR, I, L) else none := am_rA am_m2 d_2_34 (by decide) rfl k ls st i _ _ I L
theorem d_2_35 : am_code 2 35 = some (.iconst 3, 1) := by decide +kernel
theorem s_2_35 (cl : am_C) (ls : am_Ls) (st : List am_V) (h : am_H) : am_go0 cl 2 35 ls st h = am_go0 cl 2 36 ls (.inl 3 :: st) h := am_rK am_m2 d_2_35 (by decide) rfl _ _ _
theorem d_2_36 : am_code 2 36 = some (.if_icmp .lt 6, 3) := by decide +kernel
theorem s_2_36 (cl : am_C) (ls : am_Ls) (x y : Int) (st : List am_V) (h : am_H) : am_go0 cl 2 36 ls (.inl y :: .inl x :: st) h = if x < y then am_go0 cl 2 42 ls st h else am_go0 cl 2 39 ls st h := (am_rJ0 am_m2 d_2_36 (by decide) rfl x y ls st h).trans (am_ifT (am_cmp_lt x y) _ _)
theorem d_2_39 : am_code 2 39 = some (.bipush (-3), 2) := by decide +kernel
theorem s_2_39 (cl : am_C) (ls : am_Ls) (st : List am_V) (h : am_H) : am_go0 cl 2 39 ls st h = am_go0 cl 2 41 ls (.inl (-3) :: st) h := am_rB am_m2 d_2_39 (by decide) rfl _ _ _
theorem d_2_41 : am_code 2 41 = some (.ireturn, 1) := by decide +kernel
theorem s_2_41 (cl : am_C) (ls : am_Ls) (x : Int) (h : am_H) : am_go0 cl 2 41 ls [.inl x] h = some (some (.inl x), h) := am_rE am_m2 d_2_41 rfl
theorem d_2_42 : am_code 2 42 = some (.aload_n 0, 1) := by decide +kernel
theorem s_2_42 (cl : am_C) (a1 a2 : Option am_V) (x : Nat) (st : List am_V) (h : am_H) : am_go0 cl 2 42 [some (.inr (.inr (some x))), a1, a2] st h = am_go0 cl 2 43 [some (.inr (.inr (some x))), a1, a2] (.inr (.inr (some x)) :: st) h := am_r am_m2 d_2_42 rfl
theorem d_2_43 : am_code 2 43 = some (.getfield 18, 3) := by decide +kernel
theorem s_2_43 (cl : am_C) (ls : am_Ls) (st : List am_V) (N : Nat) (I : Nat → Int → Int) (L : Nat → Int → Int64) : am_go0 cl 2 43 ls (.inr (.inr (some 10)) :: st) (am_GS N, am_GR, I, L) = am_go0 cl 2 46 ls (.inr (.inr (some 13)) :: st) (am_GS N, am_GR, I, L) := am_rG2 am_m2 d_2_43 am_f18 rfl (gs_10 N) (by decide) gr_10_2 rfl
theorem d_2_46 : am_code 2 46 = some (.iload_n 1, 1) := by decide +kernel
theorem s_2_46 (cl : am_C) (a0 a2 : Option am_V) (x : Int) (st : List am_V) (h : am_H) : am_go0 cl 2 46 [a0, some (.inl x), a2] st h = am_go0 cl 2 47 [a0, some (.inl x), a2] (.inl x :: st) h := am_r am_m2 d_2_46 rfl
theorem d_2_47 : am_code 2 47 = some (.iconst 3, 1) := by decide +kernel
theorem s_2_47 (cl : am_C) (ls : am_Ls) (st : List am_V) (h : am_H) : am_go0 cl 2 47 ls st h = am_go0 cl 2 48 ls (.inl 3 :: st) h := am_rK am_m2 d_2_47 (by decide) rfl _ _ _
theorem d_2_48 : am_code 2 48 = some (.imul, 1) := by decide +kernel
theorem s_2_48 (cl : am_C) (ls : am_Ls) (x y : Int) (st : List am_V) (h : am_H) : am_go0 cl 2 48 ls (.inl y :: .inl x :: st) h = am_go0 cl 2 49 ls (.inl (am_wr (x * y)) :: st) h := am_r am_m2 d_2_48 rfl
theorem d_2_49 : am_code 2 49 = some (.aload_n 0, 1) := by decide +kernel
theorem s_2_49 (cl : am_C) (a1 a2 : Option am_V) (x : Nat) (st : List am_V) (h : am_H) : am_go0 cl 2 49 [some (.inr (.inr (some x))), a1, a2] st h = am_go0 cl 2 50 [some (.inr (.inr (some x))), a1, a2] (.inr (.inr (some x)) :: st) h := am_r am_m2 d_2_49 rfl
theorem d_2_50 : am_code 2 50 = some (.getfield 15, 3) := by decide +kernel
theorem s_2_50 (cl : am_C) (ls : am_Ls) (st : List am_V) (N : Nat) (I : Nat → Int → Int) (L : Nat → Int → Int64) : am_go0 cl 2 50 ls (.inr (.inr (some 10)) :: st) (am_GS N, am_GR, I, L) = am_go0 cl 2 53 ls (.inr (.inr (some 12)) :: st) (am_GS N, am_GR, I, L) := am_rG2 am_m2 d_2_50 am_f15 rfl (gs_10 N) (by decide) gr_10_1 rfl
theorem d_2_53 : am_code 2 53 = some (.iload_n 1, 1) := by decide +kernel
theorem s_2_53 (cl : am_C) (a0 a2 : Option am_V) (x : Int) (st : List am_V) (h : am_H) : am_go0 cl 2 53 [a0, some (.inl x), a2] st h = am_go0 cl 2 54 [a0, some (.inl x), a2] (.inl x :: st) h := am_r am_m2 d_2_53 rfl
theorem d_2_54 : am_code 2 54 = some (.iaload, 1) := by decide +kernel
theorem s_2_54 (cl : am_C) (ls : am_Ls) (i : Int) (k : Nat) (st : List am_V) (N : Nat) (I : Nat → Int → Int) (L : Nat → Int → Int64) : am_go0 cl 2 54 ls (.inl i :: .inr (.inr (some k)) :: st) (am_GS N, am_GR, I, L) = if am_inb (am_GS N) k 0 i = true then am_go0 cl 2 55 ls (.inl (I k i) :: st) (am_GS N, am_GR, I, L) else none := am_rA am_m2 d_2_54 (by decide) rfl k ls st i _ _ I L
theorem d_2_55 : am_code 2 55 = some (.iadd, 1) := by decide +kernel
theorem s_2_55 (cl : am_C) (ls : am_Ls) (x y : Int) (st : List am_V) (h : am_H) : am_go0 cl 2 55 ls (.inl y :: .inl x :: st) h = am_go0 cl 2 56 ls (.inl (am_wr (x + y)) :: st) h := am_r am_m2 d_2_55 rfl
theorem d_2_56 : am_code 2 56 = some (.iload_n 2, 1) := by decide +kernel
theorem s_2_56 (cl : am_C) (a0 a1 : Option am_V) (x : Int) (st : List am_V) (h : am_H) : am_go0 cl 2 56 [a0, a1, some (.inl x)] st h = am_go0 cl 2 57 [a0, a1, some (.inl x)] (.inl x :: st) h := am_r am_m2 d_2_56 rfl
theorem d_2_57 : am_code 2 57 = some (.iastore, 1) := by decide +kernel
theorem s_2_57 (cl : am_C) (ls : am_Ls) (i : Int) (v : Int) (k : Nat) (st : List am_V) (N : Nat) (I : Nat → Int → Int) (L : Nat → Int → Int64) : am_go0 cl 2 57 ls (.inl v :: .inl i :: .inr (.inr (some k)) :: st) (am_GS N, am_GR, I, L) = if am_inb (am_GS N) k 0 i = true then am_go0 cl 2 58 ls st (am_GS N, am_GR, am_uI I k i v, L) else none := am_rS am_m2 d_2_57 rfl k ls st i v _ _ I L
theorem d_2_58 : am_code 2 58 = some (.aload_n 0, 1) := by decide +kernel
theorem s_2_58 (cl : am_C) (a1 a2 : Option am_V) (x : Nat) (st : List am_V) (h : am_H) : am_go0 cl 2 58 [some (.inr (.inr (some x))), a1, a2] st h = am_go0 cl 2 59 [some (.inr (.inr (some x))), a1, a2] (.inr (.inr (some x)) :: st) h := am_r am_m2 d_2_58 rfl
theorem d_2_59 : am_code 2 59 = some (.getfield 15, 3) := by decide +kernel
theorem s_2_59 (cl : am_C) (ls : am_Ls) (st : List am_V) (N : Nat) (I : Nat → Int → Int) (L : Nat → Int → Int64) : am_go0 cl 2 59 ls (.inr (.inr (some 10)) :: st) (am_GS N, am_GR, I, L) = am_go0 cl 2 62 ls (.inr (.inr (some 12)) :: st) (am_GS N, am_GR, I, L) := am_rG2 am_m2 d_2_59 am_f15 rfl (gs_10 N) (by decide) gr_10_1 rfl
theorem d_2_62 : am_code 2 62 = some (.iload_n 1, 1) := by decide +kernel
theorem s_2_62 (cl : am_C) (a0 a2 : Option am_V) (x : Int) (st : List am_V) (h : am_H) : am_go0 cl 2 62 [a0, some (.inl x), a2] st h = am_go0 cl 2 63 [a0, some (.inl x), a2] (.inl x :: st) h := am_r am_m2 d_2_62 rfl
theorem d_2_63 : am_code 2 63 = some (.dup2, 1) := by decide +kernel
theorem s_2_63 (cl : am_C) (ls : am_Ls) (x : Int) (y : Nat) (st : List am_V) (h : am_H) : am_go0 cl 2 63 ls (.inl x :: .inr (.inr (some y)) :: st) h = am_go0 cl 2 64 ls (.inl x :: .inr (.inr (some y)) :: .inl x :: .inr (.inr (some y)) :: st) h := am_r am_m2 d_2_63 rfl
theorem d_2_64 : am_code 2 64 = some (.iaload, 1) := by decide +kernel
theorem s_2_64 (cl : am_C) (ls : am_Ls) (i : Int) (k : Nat) (st : List am_V) (N : Nat) (I : Nat → Int → Int) (L : Nat → Int → Int64) : am_go0 cl 2 64 ls (.inl i :: .inr (.inr (some k)) :: st) (am_GS N, am_GR, I, L) = if am_inb (am_GS N) k 0 i = true then am_go0 cl 2 65 ls (.inl (I k i) :: st) (am_GS N, am_GR, I, L) else none := am_rA am_m2 d_2_64 (by decide) rfl k ls st i _ _ I L
theorem d_2_65 : am_code 2 65 = some (.iconst 1, 1) := by decide +kernel
theorem s_2_65 (cl : am_C) (ls : am_Ls) (st : List am_V) (h : am_H) : am_go0 cl 2 65 ls st h = am_go0 cl 2 66 ls (.inl 1 :: st) h := am_rK am_m2 d_2_65 (by decide) rfl _ _ _
theorem d_2_66 : am_code 2 66 = some (.iadd, 1) := by decide +kernel
theorem s_2_66 (cl : am_C) (ls : am_Ls) (x y : Int) (st : List am_V) (h : am_H) : am_go0 cl 2 66 ls (.inl y :: .inl x :: st) h = am_go0 cl 2 67 ls (.inl (am_wr (x + y)) :: st) h := am_r am_m2 d_2_66 rfl
theorem d_2_67 : am_code 2 67 = some (.iastore, 1) := by decide +kernel
theorem s_2_67 (cl : am_C) (ls : am_Ls) (i : Int) (v : Int) (k : Nat) (st : List am_V) (N : Nat) (I : Nat → Int → Int) (L : Nat → Int → Int64) : am_go0 cl 2 67 ls (.inl v :: .inl i :: .inr (.inr (some k)) :: st) (am_GS N, am_GR, I, L) = if am_inb (am_GS N) k 0 i = true then am_go0 cl 2 68 ls st (am_GS N, am_GR, am_uI I k i v, L) else none := am_rS am_m2 d_2_67 rfl k ls st i v _ _ I L
theorem d_2_68 : am_code 2 68 = some (.aload_n 0, 1) := by decide +kernel
theorem s_2_68 (cl : am_C) (a1 a2 : Option am_V) (x : Nat) (st : List am_V) (h : am_H) : am_go0 cl 2 68 [some (.inr (.inr (some x))), a1, a2] st h = am_go0 cl 2 69 [some (.inr (.inr (some x))), a1, a2] (.inr (.inr (some x)) :: st) h := am_r am_m2 d_2_68 rfl
theorem d_2_69 : am_code 2 69 = some (.getfield 15, 3) := by decide +kernel
theorem s_2_69 (cl : am_C) (ls : am_Ls) (st : List am_V) (N : Nat) (I : Nat → Int → Int) (L : Nat → Int → Int64) : am_go0 cl 2 69 ls (.inr (.inr (some 10)) :: st) (am_GS N, am_GR, I, L) = am_go0 cl 2 72 ls (.inr (.inr (some 12)) :: st) (am_GS N, am_GR, I, L) := am_rG2 am_m2 d_2_69 am_f15 rfl (gs_10 N) (by decide) gr_10_1 rfl
theorem d_2_72 : am_code 2 72 = some (.iload_n 1, 1) := by decide +kernel
theorem s_2_72 (cl : am_C) (a0 a2 : Option am_V) (x : Int) (st : List am_V) (h : am_H) : am_go0 cl 2 72 [a0, some (.inl x), a2] st h = am_go0 cl 2 73 [a0, some (.inl x), a2] (.inl x :: st) h := am_r am_m2 d_2_72 rfl
theorem d_2_73 : am_code 2 73 = some (.iaload, 1) := by decide +kernel
theorem s_2_73 (cl : am_C) (ls : am_Ls) (i : Int) (k : Nat) (st : List am_V) (N : Nat) (I : Nat → Int → Int) (L : Nat → Int → Int64) : am_go0 cl 2 73 ls (.inl i :: .inr (.inr (some k)) :: st) (am_GS N, am_GR, I, L) = if am_inb (am_GS N) k 0 i = true then am_go0 cl 2 74 ls (.inl (I k i) :: st) (am_GS N, am_GR, I, L) else none := am_rA am_m2 d_2_73 (by decide) rfl k ls st i _ _ I L
theorem d_2_74 : am_code 2 74 = some (.ireturn, 1) := by decide +kernel
theorem s_2_74 (cl : am_C) (ls : am_Ls) (x : Int) (h : am_H) : am_go0 cl 2 74 ls [.inl x] h = some (some (.inl x), h) := am_rE am_m2 d_2_74 rfl
theorem e_2 (d : Nat) (t : Nat) (p0 : Int) (p1 : Int) (h : am_H) : am_call (d + 1) 2 [.inr (.inr (some t)), .inl p0, .inl p1] h = am_go0 (am_call d) 2 0 [some (.inr (.inr (some t))), some (.inl p0), some (.inl p1)] [] h := am_callE am_m2 (Nat.le_of_ble_eq_true rfl) rfl
theorem d_3_0 : am_code 3 0 = some (.iload_n 1, 1) := by decide +kernel
theorem s_3_0 (cl : am_C) (a0 : Option am_V) (x : Int) (st : List am_V) (h : am_H) : am_go0 cl 3 0 [a0, some (.inl x)] st h = am_go0 cl 3 1 [a0, some (.inl x)] (.inl x :: st) h := am_r am_m3 d_3_0 rfl
theorem d_3_1 : am_code 3 1 = some (.ifCond .lt 15, 3) := by decide +kernel
theorem s_3_1 (cl : am_C) (ls : am_Ls) (x : Int) (st : List am_V) (h : am_H) : am_go0 cl 3 1 ls (.inl x :: st) h = if x < 0 then am_go0 cl 3 16 ls st h else am_go0 cl 3 4 ls st h := (am_rJ1 am_m3 d_3_1 (by decide) rfl x ls st h).trans (am_ifT (am_cmp_lt x 0) _ _)
theorem d_3_4 : am_code 3 4 = some (.iload_n 1, 1) := by decide +kernel
theorem s_3_4 (cl : am_C) (a0 : Option am_V) (x : Int) (st : List am_V) (h : am_H) : am_go0 cl 3 4 [a0, some (.inl x)] st h = am_go0 cl 3 5 [a0, some (.inl x)] (.inl x :: st) h := am_r am_m3 d_3_4 rfl
theorem d_3_5 : am_code 3 5 = some (.aload_n 0, 1) := by decide +kernel
theorem s_3_5 (cl : am_C) (a1 : Option am_V) (x : Nat) (st : List am_V) (h : am_H) : am_go0 cl 3 5 [some (.inr (.inr (some x))), a1] st h = am_go0 cl 3 6 [some (.inr (.inr (some x))), a1] (.inr (.inr (some x)) :: st) h := am_r am_m3 d_3_5 rfl
theorem d_3_6 : am_code 3 6 = some (.getfield 24, 3) := by decide +kernel
theorem s_3_6 (cl : am_C) (ls : am_Ls) (st : List am_V) (N : Nat) (I : Nat → Int → Int) (L : Nat → Int → Int64) : am_go0 cl 3 6 ls (.inr (.inr (some 10)) :: st) (am_GS N, am_GR, I, L) = am_go0 cl 3 9 ls (.inl (I 10 4) :: st) (am_GS N, am_GR, I, L) := am_rG0 am_m3 d_3_6 am_f24 rfl (gs_10 N) (by decide) rfl
theorem d_3_9 : am_code 3 9 = some (.if_icmp .ge 7, 3) := by decide +kernel
theorem s_3_9 (cl : am_C) (ls : am_Ls) (x y : Int) (st : List am_V) (h : am_H) : am_go0 cl 3 9 ls (.inl y :: .inl x :: st) h = if x < y then am_go0 cl 3 12 ls st h else am_go0 cl 3 16 ls st h := (am_rJ0 am_m3 d_3_9 (by decide) rfl x y ls st h).trans (am_ifF ((am_cmp_ge x y).trans Int.not_lt.symm) _ _)
theorem d_3_12 : am_code 3 12 = some (.iconst 1, 1) := by decide +kernel
theorem s_3_12 (cl : am_C) (ls : am_Ls) (st : List am_V) (h : am_H) : am_go0 cl 3 12 ls st h = am_go0 cl 3 13 ls (.inl 1 :: st) h := am_rK am_m3 d_3_12 (by decide) rfl _ _ _
theorem d_3_13 : am_code 3 13 = some (.goto 4, 3) := by decide +kernel
theorem s_3_13 (cl : am_C) (ls : am_Ls) (st : List am_V) (h : am_H) : am_go0 cl 3 13 ls st h = am_go0 cl 3 17 ls st h := am_rGo am_m3 d_3_13 (by decide) _ _ _
theorem d_3_16 : am_code 3 16 = some (.iconst 0, 1) := by decide +kernel
theorem s_3_16 (cl : am_C) (ls : am_Ls) (st : List am_V) (h : am_H) : am_go0 cl 3 16 ls st h = am_go0 cl 3 17 ls (.inl 0 :: st) h := am_rK am_m3 d_3_16 (by decide) rfl _ _ _
theorem d_3_17 : am_code 3 17 = some (.ireturn, 1) := by decide +kernel
theorem s_3_17 (cl : am_C) (ls : am_Ls) (x : Int) (h : am_H) : am_go0 cl 3 17 ls [.inl x] h = if x = 0 ∨ x = 1 then some (some (.inl x), h) else none := am_rRz am_m3 d_3_17 x ls h
theorem e_3 (d : Nat) (t : Nat) (p0 : Int) (h : am_H) : am_call (d + 1) 3 [.inr (.inr (some t)), .inl p0] h = am_go0 (am_call d) 3 0 [some (.inr (.inr (some t))), some (.inl p0)] [] h := am_callE am_m3 (Nat.le_of_ble_eq_true rfl) rfl
theorem d_4_0 : am_code 4 0 = some (.iconst 0, 1) := by decide +kernel
theorem s_4_0 (cl : am_C) (ls : am_Ls) (st : List am_V) (h : am_H) : am_go0 cl 4 0 ls st h = am_go0 cl 4 1 ls (.inl 0 :: st) h := am_rK am_m4 d_4_0 (by decide) rfl _ _ _
theorem d_4_1 : am_code 4 1 = some (.istore_n 3, 1) := by decide +kernel
theorem s_4_1 (cl : am_C) (a0 a1 a2 a3 : Option am_V) (x : Int) (st : List am_V) (h : am_H) : am_go0 cl 4 1 [a0, a1, a2, a3] (.inl x :: st) h = am_go0 cl 4 2 [a0, a1, am_c1 a2, some (.inl x)] st h := am_r am_m4 d_4_1 rfl
theorem d_4_2 : am_code 4 2 = some (.iload_n 3, 1) := by decide +kernel
theorem s_4_2 (cl : am_C) (a0 a1 a2 : Option am_V) (x : Int) (st : List am_V) (h : am_H) : am_go0 cl 4 2 [a0, a1, a2, some (.inl x)] st h = am_go0 cl 4 3 [a0, a1, a2, some (.inl x)] (.inl x :: st) h := am_r am_m4 d_4_2 rfl
theorem d_4_3 : am_code 4 3 = some (.aload_n 0, 1) := by decide +kernel
theorem s_4_3 (cl : am_C) (a1 a2 a3 : Option am_V) (x : Nat) (st : List am_V) (h : am_H) : am_go0 cl 4 3 [some (.inr (.inr (some x))), a1, a2, a3] st h = am_go0 cl 4 4 [some (.inr (.inr (some x))), a1, a2, a3] (.inr (.inr (some x)) :: st) h := am_r am_m4 d_4_3 rfl
theorem d_4_4 : am_code 4 4 = some (.getfield 15, 3) := by decide +kernel
theorem s_4_4 (cl : am_C) (ls : am_Ls) (st : List am_V) (N : Nat) (I : Nat → Int → Int) (L : Nat → Int → Int64) : am_go0 cl 4 4 ls (.inr (.inr (some 10)) :: st) (am_GS N, am_GR, I, L) = am_go0 cl 4 7 ls (.inr (.inr (some 12)) :: st) (am_GS N, am_GR, I, L) := am_rG2 am_m4 d_4_4 am_f15 rfl (gs_10 N) (by decide) gr_10_1 rfl
theorem d_4_7 : am_code 4 7 = some (.iload_n 1, 1) := by decide +kernel
theorem s_4_7 (cl : am_C) (a0 a2 a3 : Option am_V) (x : Int) (st : List am_V) (h : am_H) : am_go0 cl 4 7 [a0, some (.inl x), a2, a3] st h = am_go0 cl 4 8 [a0, some (.inl x), a2, a3] (.inl x :: st) h := am_r am_m4 d_4_7 rfl
theorem d_4_8 : am_code 4 8 = some (.iaload, 1) := by decide +kernel
theorem s_4_8 (cl : am_C) (ls : am_Ls) (i : Int) (k : Nat) (st : List am_V) (N : Nat) (I : Nat → Int → Int) (L : Nat → Int → Int64) : am_go0 cl 4 8 ls (.inl i :: .inr (.inr (some k)) :: st) (am_GS N, am_GR, I, L) = if am_inb (am_GS N) k 0 i = true then am_go0 cl 4 9 ls (.inl (I k i) :: st) (am_GS N, am_GR, I, L) else none := am_rA am_m4 d_4_8 (by decide) rfl k ls st i _ _ I L
theorem d_4_9 : am_code 4 9 = some (.if_icmp .ge 21, 3) := by decide +kernel
theorem s_4_9 (cl : am_C) (ls : am_Ls) (x y : Int) (st : List am_V) (h : am_H) : am_go0 cl 4 9 ls (.inl y :: .inl x :: st) h = if x < y then am_go0 cl 4 12 ls st h else am_go0 cl 4 30 ls st h := (am_rJ0 am_m4 d_4_9 (by decide) rfl x y ls st h).trans (am_ifF ((am_cmp_ge x y).trans Int.not_lt.symm) _ _)
theorem d_4_12 : am_code 4 12 = some (.aload_n 0, 1) := by decide +kernel
theorem s_4_12 (cl : am_C) (a1 a2 a3 : Option am_V) (x : Nat) (st : List am_V) (h : am_H) : am_go0 cl 4 12 [some (.inr (.inr (some x))), a1, a2, a3] st h = am_go0 cl 4 13 [some (.inr (.inr (some x))), a1, a2, a3] (.inr (.inr (some x)) :: st) h := am_r am_m4 d_4_12 rfl
theorem d_4_13 : am_code 4 13 = some (.iload_n 1, 1) := by decide +kernel
theorem s_4_13 (cl : am_C) (a0 a2 a3 : Option am_V) (x : Int) (st : List am_V) (h : am_H) : am_go0 cl 4 13 [a0, some (.inl x), a2, a3] st h = am_go0 cl 4 14 [a0, some (.inl x), a2, a3] (.inl x :: st) h := am_r am_m4 d_4_13 rfl
theorem d_4_14 : am_code 4 14 = some (.iload_n 3, 1) := by decide +kernel
theorem s_4_14 (cl : am_C) (a0 a1 a2 : Option am_V) (x : Int) (st : List am_V) (h : am_H) : am_go0 cl 4 14 [a0, a1, a2, some (.inl x)] st h = am_go0 cl 4 15 [a0, a1, a2, some (.inl x)] (.inl x :: st) h := am_r am_m4 d_4_14 rfl
theorem d_4_15 : am_code 4 15 = some (.invokevirtual 42, 3) := by decide +kernel
theorem s_4_15 (cl : am_C) (ls : am_Ls) (x0 : Int) (x1 : Int) (N : Nat) (I : Nat → Int → Int) (L : Nat → Int → Int64) : am_go0 cl 4 15 ls [.inl x1, .inl x0, .inr (.inr (some 10))] (am_GS N, am_GR, I, L) = am_bd (cl 5 [.inr (.inr (some 10)), .inl x0, .inl x1] (am_GS N, am_GR, I, L)) (fun v h2 => am_go0 cl 4 18 ls (v.toList ++ []) h2) := am_rV am_m4 d_4_15 am_k42 rfl am_m5 (gs_10 N) (by decide) (Nat.le_of_ble_eq_true rfl) rfl ls
theorem d_4_18 : am_code 4 18 = some (.iload_n 2, 1) := by decide +kernel
theorem s_4_18 (cl : am_C) (a0 a1 a3 : Option am_V) (x : Int) (st : List am_V) (h : am_H) : am_go0 cl 4 18 [a0, a1, some (.inl x), a3] st h = am_go0 cl 4 19 [a0, a1, some (.inl x), a3] (.inl x :: st) h := am_r am_m4 d_4_18 rfl
theorem d_4_19 : am_code 4 19 = some (.if_icmp .ne 5, 3) := by decide +kernel
theorem s_4_19 (cl : am_C) (ls : am_Ls) (x y : Int) (st : List am_V) (h : am_H) : am_go0 cl 4 19 ls (.inl y :: .inl x :: st) h = if x = y then am_go0 cl 4 22 ls st h else am_go0 cl 4 24 ls st h := (am_rJ0 am_m4 d_4_19 (by decide) rfl x y ls st h).trans (am_ifF ((am_cmp_ne x y).trans Iff.rfl) _ _)
theorem d_4_22 : am_code 4 22 = some (.iconst 1, 1) := by decide +kernel
theorem s_4_22 (cl : am_C) (ls : am_Ls) (st : List am_V) (h : am_H) : am_go0 cl 4 22 ls st h = am_go0 cl 4 23 ls (.inl 1 :: st) h := am_rK am_m4 d_4_22 (by decide) rfl _ _ _
theorem d_4_23 : am_code 4 23 = some (.ireturn, 1) := by decide +kernel
theorem s_4_23 (cl : am_C) (ls : am_Ls) (x : Int) (h : am_H) : am_go0 cl 4 23 ls [.inl x] h = if x = 0 ∨ x = 1 then some (some (.inl x), h) else none := am_rRz am_m4 d_4_23 x ls h
theorem d_4_24 : am_code 4 24 = some (.iinc 3 1, 3) := by decide +kernel
theorem s_4_24 (cl : am_C) (a0 a1 a2 : Option am_V) (x : Int) (st : List am_V) (h : am_H) : am_go0 cl 4 24 [a0, a1, a2, some (.inl x)] st h = am_go0 cl 4 27 [a0, a1, am_c1 a2, some (.inl (am_wr (x + 1)))] st h := am_r am_m4 d_4_24 rfl
theorem d_4_27 : am_code 4 27 = some (.goto (-25), 3) := by decide +kernel
theorem s_4_27 (cl : am_C) (ls : am_Ls) (st : List am_V) (h : am_H) : am_go0 cl 4 27 ls st h = am_go0 cl 4 2 ls st h := am_rGo am_m4 d_4_27 (by decide) _ _ _
theorem d_4_30 : am_code 4 30 = some (.iconst 0, 1) := by decide +kernel
theorem s_4_30 (cl : am_C) (ls : am_Ls) (st : List am_V) (h : am_H) : am_go0 cl 4 30 ls st h = am_go0 cl 4 31 ls (.inl 0 :: st) h := am_rK am_m4 d_4_30 (by decide) rfl _ _ _
theorem d_4_31 : am_code 4 31 = some (.ireturn, 1) := by decide +kernel
theorem s_4_31 (cl : am_C) (ls : am_Ls) (x : Int) (h : am_H) : am_go0 cl 4 31 ls [.inl x] h = if x = 0 ∨ x = 1 then some (some (.inl x), h) else none := am_rRz am_m4 d_4_31 x ls h
theorem e_4 (d : Nat) (t : Nat) (p0 : Int) (p1 : Int) (h : am_H) : am_call (d + 1) 4 [.inr (.inr (some t)), .inl p0, .inl p1] h = am_go0 (am_call d) 4 0 [some (.inr (.inr (some t))), some (.inl p0), some (.inl p1), none] [] h := am_callE am_m4 (Nat.le_of_ble_eq_true rfl) rfl
theorem d_5_0 : am_code 5 0 = some (.aload_n 0, 1) := by decide +kernel
theorem s_5_0 (cl : am_C) (a1 a2 : Option am_V) (x : Nat) (st : List am_V) (h : am_H) : am_go0 cl 5 0 [some (.inr (.inr (some x))), a1, a2] st h = am_go0 cl 5 1 [some (.inr (.inr (some x))), a1, a2] (.inr (.inr (some x)) :: st) h := am_r am_m5 d_5_0 rfl
theorem d_5_1 : am_code 5 1 = some (.getfield 18, 3) := by decide +kernel
theorem s_5_1 (cl : am_C) (ls : am_Ls) (st : List am_V) (N : Nat) (I : Nat → Int → Int) (L : Nat → Int → Int64) : am_go0 cl 5 1 ls (.inr (.inr (some 10)) :: st) (am_GS N, am_GR, I, L) = am_go0 cl 5 4 ls (.inr (.inr (some 13)) :: st) (am_GS N, am_GR, I, L) := am_rG2 am_m5 d_5_1 am_f18 rfl (gs_10 N) (by decide) gr_10_2 rfl
theorem d_5_4 : am_code 5 4 = some (.iload_n 1, 1) := by decide +kernel
theorem s_5_4 (cl : am_C) (a0 a2 : Option am_V) (x : Int) (st : List am_V) (h : am_H) : am_go0 cl 5 4 [a0, some (.inl x), a2] st h = am_go0 cl 5 5 [a0, some (.inl x), a2] (.inl x :: st) h := am_r am_m5 d_5_4 rfl
theorem d_5_5 : am_code 5 5 = some (.iconst 3, 1) := by decide +kernel
theorem s_5_5 (cl : am_C) (ls : am_Ls) (st : List am_V) (h : am_H) : am_go0 cl 5 5 ls st h = am_go0 cl 5 6 ls (.inl 3 :: st) h := am_rK am_m5 d_5_5 (by decide) rfl _ _ _
theorem d_5_6 : am_code 5 6 = some (.imul, 1) := by decide +kernel
theorem s_5_6 (cl : am_C) (ls : am_Ls) (x y : Int) (st : List am_V) (h : am_H) : am_go0 cl 5 6 ls (.inl y :: .inl x :: st) h = am_go0 cl 5 7 ls (.inl (am_wr (x * y)) :: st) h := am_r am_m5 d_5_6 rfl
theorem d_5_7 : am_code 5 7 = some (.iload_n 2, 1) := by decide +kernel
theorem s_5_7 (cl : am_C) (a0 a1 : Option am_V) (x : Int) (st : List am_V) (h : am_H) : am_go0 cl 5 7 [a0, a1, some (.inl x)] st h = am_go0 cl 5 8 [a0, a1, some (.inl x)] (.inl x :: st) h := am_r am_m5 d_5_7 rfl
theorem d_5_8 : am_code 5 8 = some (.iadd, 1) := by decide +kernel
theorem s_5_8 (cl : am_C) (ls : am_Ls) (x y : Int) (st : List am_V) (h : am_H) : am_go0 cl 5 8 ls (.inl y :: .inl x :: st) h = am_go0 cl 5 9 ls (.inl (am_wr (x + y)) :: st) h := am_r am_m5 d_5_8 rfl
theorem d_5_9 : am_code 5 9 = some (.iaload, 1) := by decide +kernel
theorem s_5_9 (cl : am_C) (ls : am_Ls) (i : Int) (k : Nat) (st : List am_V) (N : Nat) (I : Nat → Int → Int) (L : Nat → Int → Int64) : am_go0 cl 5 9 ls (.inl i :: .inr (.inr (some k)) :: st) (am_GS N, am_GR, I, L) = if am_inb (am_GS N) k 0 i = true then am_go0 cl 5 10 ls (.inl (I k i) :: st) (am_GS N, am_GR, I, L) else none := am_rA am_m5 d_5_9 (by decide) rfl k ls st i _ _ I L
theorem d_5_10 : am_code 5 10 = some (.ireturn, 1) := by decide +kernel
theorem s_5_10 (cl : am_C) (ls : am_Ls) (x : Int) (h : am_H) : am_go0 cl 5 10 ls [.inl x] h = some (some (.inl x), h) := am_rE am_m5 d_5_10 rfl
theorem e_5 (d : Nat) (t : Nat) (p0 : Int) (p1 : Int) (h : am_H) : am_call (d + 1) 5 [.inr (.inr (some t)), .inl p0, .inl p1] h = am_go0 (am_call d) 5 0 [some (.inr (.inr (some t))), some (.inl p0), some (.inl p1)] [] h := am_callE am_m5 (Nat.le_of_ble_eq_true rfl) rfl
theorem d_6_0 : am_code 6 0 = some (.aload_n 0, 1) := by decide +kernel
theorem s_6_0 (cl : am_C) (a1 a2 : Option am_V) (x : Nat) (st : List am_V) (h : am_H) : am_go0 cl 6 0 [some (.inr (.inr (some x))), a1, a2] st h = am_go0 cl 6 1 [some (.inr (.inr (some x))), a1, a2] (.inr (.inr (some x)) :: st) h := am_r am_m6 d_6_0 rfl
theorem d_6_1 : am_code 6 1 = some (.iload_n 1, 1) := by decide +kernel
theorem s_6_1 (cl : am_C) (a0 a2 : Option am_V) (x : Int) (st : List am_V) (h : am_H) : am_go0 cl 6 1 [a0, some (.inl x), a2] st h = am_go0 cl 6 2 [a0, some (.inl x), a2] (.inl x :: st) h := am_r am_m6 d_6_1 rfl
theorem d_6_2 : am_code 6 2 = some (.invokevirtual 34, 3) := by decide +kernel
theorem s_6_2 (cl : am_C) (ls : am_Ls) (x0 : Int) (N : Nat) (I : Nat → Int → Int) (L : Nat → Int → Int64) : am_go0 cl 6 2 ls [.inl x0, .inr (.inr (some 10))] (am_GS N, am_GR, I, L) = am_bd (cl 3 [.inr (.inr (some 10)), .inl x0] (am_GS N, am_GR, I, L)) (fun v h2 => am_go0 cl 6 5 ls (v.toList ++ []) h2) := am_rV am_m6 d_6_2 am_k34 rfl am_m3 (gs_10 N) (by decide) (Nat.le_of_ble_eq_true rfl) rfl ls
theorem d_6_5 : am_code 6 5 = some (.ifCond .eq 21, 3) := by decide +kernel
theorem s_6_5 (cl : am_C) (ls : am_Ls) (x : Int) (st : List am_V) (h : am_H) : am_go0 cl 6 5 ls (.inl x :: st) h = if x = 0 then am_go0 cl 6 26 ls st h else am_go0 cl 6 8 ls st h := (am_rJ1 am_m6 d_6_5 (by decide) rfl x ls st h).trans (am_ifT (am_cmp_eq x 0) _ _)
theorem d_6_8 : am_code 6 8 = some (.iload_n 2, 1) := by decide +kernel
theorem s_6_8 (cl : am_C) (a0 a1 : Option am_V) (x : Int) (st : List am_V) (h : am_H) : am_go0 cl 6 8 [a0, a1, some (.inl x)] st h = am_go0 cl 6 9 [a0, a1, some (.inl x)] (.inl x :: st) h := am_r am_m6 d_6_8 rfl
theorem d_6_9 : am_code 6 9 = some (.ifCond .lt 17, 3) := by decide +kernel
theorem s_6_9 (cl : am_C) (ls : am_Ls) (x : Int) (st : List am_V) (h : am_H) : am_go0 cl 6 9 ls (.inl x :: st) h = if x < 0 then am_go0 cl 6 26 ls st h else am_go0 cl 6 12 ls st h := (am_rJ1 am_m6 d_6_9 (by decide) rfl x ls st h).trans (am_ifT (am_cmp_lt x 0) _ _)
theorem d_6_12 : am_code 6 12 = some (.iload_n 2, 1) := by decide +kernel
theorem s_6_12 (cl : am_C) (a0 a1 : Option am_V) (x : Int) (st : List am_V) (h : am_H) : am_go0 cl 6 12 [a0, a1, some (.inl x)] st h = am_go0 cl 6 13 [a0, a1, some (.inl x)] (.inl x :: st) h := am_r am_m6 d_6_12 rfl
theorem d_6_13 : am_code 6 13 = some (.aload_n 0, 1) := by decide +kernel
theorem s_6_13 (cl : am_C) (a1 a2 : Option am_V) (x : Nat) (st : List am_V) (h : am_H) : am_go0 cl 6 13 [some (.inr (.inr (some x))), a1, a2] st h = am_go0 cl 6 14 [some (.inr (.inr (some x))), a1, a2] (.inr (.inr (some x)) :: st) h := am_r am_m6 d_6_13 rfl
theorem d_6_14 : am_code 6 14 = some (.getfield 11, 3) := by decide +kernel
theorem s_6_14 (cl : am_C) (ls : am_Ls) (st : List am_V) (N : Nat) (I : Nat → Int → Int) (L : Nat → Int → Int64) : am_go0 cl 6 14 ls (.inr (.inr (some 10)) :: st) (am_GS N, am_GR, I, L) = am_go0 cl 6 17 ls (.inr (.inr (some 11)) :: st) (am_GS N, am_GR, I, L) := am_rG2 am_m6 d_6_14 am_f11 rfl (gs_10 N) (by decide) gr_10_0 rfl
theorem d_6_17 : am_code 6 17 = some (.iload_n 1, 1) := by decide +kernel
theorem s_6_17 (cl : am_C) (a0 a2 : Option am_V) (x : Int) (st : List am_V) (h : am_H) : am_go0 cl 6 17 [a0, some (.inl x), a2] st h = am_go0 cl 6 18 [a0, some (.inl x), a2] (.inl x :: st) h := am_r am_m6 d_6_17 rfl
theorem d_6_18 : am_code 6 18 = some (.iaload, 1) := by decide +kernel
theorem s_6_18 (cl : am_C) (ls : am_Ls) (i : Int) (k : Nat) (st : List am_V) (N : Nat) (I : Nat → Int → Int) (L : Nat → Int → Int64) : am_go0 cl 6 18 ls (.inl i :: .inr (.inr (some k)) :: st) (am_GS N, am_GR, I, L) = if am_inb (am_GS N) k 0 i = true then am_go0 cl 6 19 ls (.inl (I k i) :: st) (am_GS N, am_GR, I, L) else none := am_rA am_m6 d_6_18 (by decide) rfl k ls st i _ _ I L
theorem d_6_19 : am_code 6 19 = some (.if_icmp .ge 7, 3) := by decide +kernel
theorem s_6_19 (cl : am_C) (ls : am_Ls) (x y : Int) (st : List am_V) (h : am_H) : am_go0 cl 6 19 ls (.inl y :: .inl x :: st) h = if x < y then am_go0 cl 6 22 ls st h else am_go0 cl 6 26 ls st h := (am_rJ0 am_m6 d_6_19 (by decide) rfl x y ls st h).trans (am_ifF ((am_cmp_ge x y).trans Int.not_lt.symm) _ _)
theorem d_6_22 : am_code 6 22 = some (.iconst 1, 1) := by decide +kernel
theorem s_6_22 (cl : am_C) (ls : am_Ls) (st : List am_V) (h : am_H) : am_go0 cl 6 22 ls st h = am_go0 cl 6 23 ls (.inl 1 :: st) h := am_rK am_m6 d_6_22 (by decide) rfl _ _ _
theorem d_6_23 : am_code 6 23 = some (.goto 4, 3) := by decide +kernel
theorem s_6_23 (cl : am_C) (ls : am_Ls) (st : List am_V) (h : am_H) : am_go0 cl 6 23 ls st h = am_go0 cl 6 27 ls st h := am_rGo am_m6 d_6_23 (by decide) _ _ _
theorem d_6_26 : am_code 6 26 = some (.iconst 0, 1) := by decide +kernel
theorem s_6_26 (cl : am_C) (ls : am_Ls) (st : List am_V) (h : am_H) : am_go0 cl 6 26 ls st h = am_go0 cl 6 27 ls (.inl 0 :: st) h := am_rK am_m6 d_6_26 (by decide) rfl _ _ _
theorem d_6_27 : am_code 6 27 = some (.ireturn, 1) := by decide +kernel
theorem s_6_27 (cl : am_C) (ls : am_Ls) (x : Int) (h : am_H) : am_go0 cl 6 27 ls [.inl x] h = if x = 0 ∨ x = 1 then some (some (.inl x), h) else none := am_rRz am_m6 d_6_27 x ls h
theorem e_6 (d : Nat) (t : Nat) (p0 : Int) (p1 : Int) (h : am_H) : am_call (d + 1) 6 [.inr (.inr (some t)), .inl p0, .inl p1] h = am_go0 (am_call d) 6 0 [some (.inr (.inr (some t))), some (.inl p0), some (.inl p1)] [] h := am_callE am_m6 (Nat.le_of_ble_eq_true rfl) rfl
theorem d_7_0 : am_code 7 0 = some (.aload_n 0, 1) := by decide +kernel
theorem s_7_0 (cl : am_C) (a1 : Option am_V) (x : Nat) (st : List am_V) (h : am_H) : am_go0 cl 7 0 [some (.inr (.inr (some x))), a1] st h = am_go0 cl 7 1 [some (.inr (.inr (some x))), a1] (.inr (.inr (some x)) :: st) h := am_r am_m7 d_7_0 rfl
theorem d_7_1 : am_code 7 1 = some (.getfield 15, 3) := by decide +kernel
theorem s_7_1 (cl : am_C) (ls : am_Ls) (st : List am_V) (N : Nat) (I : Nat → Int → Int) (L : Nat → Int → Int64) : am_go0 cl 7 1 ls (.inr (.inr (some 10)) :: st) (am_GS N, am_GR, I, L) = am_go0 cl 7 4 ls (.inr (.inr (some 12)) :: st) (am_GS N, am_GR, I, L) := am_rG2 am_m7 d_7_1 am_f15 rfl (gs_10 N) (by decide) gr_10_1 rfl
theorem d_7_4 : am_code 7 4 = some (.iload_n 1, 1) := by decide +kernel
theorem s_7_4 (cl : am_C) (a0 : Option am_V) (x : Int) (st : List am_V) (h : am_H) : am_go0 cl 7 4 [a0, some (.inl x)] st h = am_go0 cl 7 5 [a0, some (.inl x)] (.inl x :: st) h := am_r am_m7 d_7_4 rfl
theorem d_7_5 : am_code 7 5 = some (.iaload, 1) := by decide +kernel
theorem s_7_5 (cl : am_C) (ls : am_Ls) (i : Int) (k : Nat) (st : List am_V) (N : Nat) (I : Nat → Int → Int) (L : Nat → Int → Int64) : am_go0 cl 7 5 ls (.inl i :: .inr (.inr (some k)) :: st) (am_GS N, am_GR, I, L) = if am_inb (am_GS N) k 0 i = true then am_go0 cl 7 6 ls (.inl (I k i) :: st) (am_GS N, am_GR, I, L) else none := am_rA am_m7 d_7_5 (by decide) rfl k ls st i _ _ I L
theorem d_7_6 : am_code 7 6 = some (.ireturn, 1) := by decide +kernel
theorem s_7_6 (cl : am_C) (ls : am_Ls) (x : Int) (h : am_H) : am_go0 cl 7 6 ls [.inl x] h = some (some (.inl x), h) := am_rE am_m7 d_7_6 rfl
theorem e_7 (d : Nat) (t : Nat) (p0 : Int) (h : am_H) : am_call (d + 1) 7 [.inr (.inr (some t)), .inl p0] h = am_go0 (am_call d) 7 0 [some (.inr (.inr (some t))), some (.inl p0)] [] h := am_callE am_m7 (Nat.le_of_ble_eq_true rfl) rfl
theorem d_8_0 : am_code 8 0 = some (.aload_n 0, 1) := by decide +kernel
theorem s_8_0 (cl : am_C) (a1 a2 a3 : Option am_V) (x : Nat) (st : List am_V) (h : am_H) : am_go0 cl 8 0 [some (.inr (.inr (some x))), a1, a2, a3] st h = am_go0 cl 8 1 [some (.inr (.inr (some x))), a1, a2, a3] (.inr (.inr (some x)) :: st) h := am_r am_m8 d_8_0 rfl
theorem d_8_1 : am_code 8 1 = some (.getfield 21, 3) := by decide +kernel
theorem s_8_1 (cl : am_C) (ls : am_Ls) (st : List am_V) (N : Nat) (I : Nat → Int → Int) (L : Nat → Int → Int64) : am_go0 cl 8 1 ls (.inr (.inr (some 10)) :: st) (am_GS N, am_GR, I, L) = am_go0 cl 8 4 ls (.inr (.inr (some 14)) :: st) (am_GS N, am_GR, I, L) := am_rG2 am_m8 d_8_1 am_f21 rfl (gs_10 N) (by decide) gr_10_3 rfl
theorem d_8_4 : am_code 8 4 = some (.iload_n 1, 1) := by decide +kernel
theorem s_8_4 (cl : am_C) (a0 a2 a3 : Option am_V) (x : Int) (st : List am_V) (h : am_H) : am_go0 cl 8 4 [a0, some (.inl x), a2, a3] st h = am_go0 cl 8 5 [a0, some (.inl x), a2, a3] (.inl x :: st) h := am_r am_m8 d_8_4 rfl
theorem d_8_5 : am_code 8 5 = some (.iconst 4, 1) := by decide +kernel
theorem s_8_5 (cl : am_C) (ls : am_Ls) (st : List am_V) (h : am_H) : am_go0 cl 8 5 ls st h = am_go0 cl 8 6 ls (.inl 4 :: st) h := am_rK am_m8 d_8_5 (by decide) rfl _ _ _
theorem d_8_6 : am_code 8 6 = some (.imul, 1) := by decide +kernel
theorem s_8_6 (cl : am_C) (ls : am_Ls) (x y : Int) (st : List am_V) (h : am_H) : am_go0 cl 8 6 ls (.inl y :: .inl x :: st) h = am_go0 cl 8 7 ls (.inl (am_wr (x * y)) :: st) h := am_r am_m8 d_8_6 rfl
theorem d_8_7 : am_code 8 7 = some (.iload_n 2, 1) := by decide +kernel
theorem s_8_7 (cl : am_C) (a0 a1 a3 : Option am_V) (x : Int) (st : List am_V) (h : am_H) : am_go0 cl 8 7 [a0, a1, some (.inl x), a3] st h = am_go0 cl 8 8 [a0, a1, some (.inl x), a3] (.inl x :: st) h := am_r am_m8 d_8_7 rfl
theorem d_8_8 : am_code 8 8 = some (.iadd, 1) := by decide +kernel
theorem s_8_8 (cl : am_C) (ls : am_Ls) (x y : Int) (st : List am_V) (h : am_H) : am_go0 cl 8 8 ls (.inl y :: .inl x :: st) h = am_go0 cl 8 9 ls (.inl (am_wr (x + y)) :: st) h := am_r am_m8 d_8_8 rfl
theorem d_8_9 : am_code 8 9 = some (.iload_n 3, 1) := by decide +kernel
theorem s_8_9 (cl : am_C) (a0 a1 a2 : Option am_V) (x : Int) (st : List am_V) (h : am_H) : am_go0 cl 8 9 [a0, a1, a2, some (.inl x)] st h = am_go0 cl 8 10 [a0, a1, a2, some (.inl x)] (.inl x :: st) h := am_r am_m8 d_8_9 rfl
theorem d_8_10 : am_code 8 10 = some (.iastore, 1) := by decide +kernel
theorem s_8_10 (cl : am_C) (ls : am_Ls) (i : Int) (v : Int) (k : Nat) (st : List am_V) (N : Nat) (I : Nat → Int → Int) (L : Nat → Int → Int64) : am_go0 cl 8 10 ls (.inl v :: .inl i :: .inr (.inr (some k)) :: st) (am_GS N, am_GR, I, L) = if am_inb (am_GS N) k 0 i = true then am_go0 cl 8 11 ls st (am_GS N, am_GR, am_uI I k i v, L) else none := am_rS am_m8 d_8_10 rfl k ls st i v _ _ I L
theorem d_8_11 : am_code 8 11 = some (.return_, 1) := by decide +kernel
theorem s_8_11 (cl : am_C) (ls : am_Ls) (h : am_H) : am_go0 cl 8 11 ls [] h = some (none, h) := am_rE am_m8 d_8_11 rfl
theorem e_8 (d : Nat) (t : Nat) (p0 : Int) (p1 : Int) (p2 : Int) (h : am_H) : am_call (d + 1) 8 [.inr (.inr (some t)), .inl p0, .inl p1, .inl p2] h = am_go0 (am_call d) 8 0 [some (.inr (.inr (some t))), some (.inl p0), some (.inl p1), some (.inl p2)] [] h := am_callE am_m8 (Nat.le_of_ble_eq_true rfl) rfl
theorem d_9_0 : am_code 9 0 = some (.aload_n 0, 1) := by decide +kernel
theorem s_9_0 (cl : am_C) (a1 a2 : Option am_V) (x : Nat) (st : List am_V) (h : am_H) : am_go0 cl 9 0 [some (.inr (.inr (some x))), a1, a2] st h = am_go0 cl 9 1 [some (.inr (.inr (some x))), a1, a2] (.inr (.inr (some x)) :: st) h := am_r am_m9 d_9_0 rfl
theorem d_9_1 : am_code 9 1 = some (.getfield 21, 3) := by decide +kernel
theorem s_9_1 (cl : am_C) (ls : am_Ls) (st : List am_V) (N : Nat) (I : Nat → Int → Int) (L : Nat → Int → Int64) : am_go0 cl 9 1 ls (.inr (.inr (some 10)) :: st) (am_GS N, am_GR, I, L) = am_go0 cl 9 4 ls (.inr (.inr (some 14)) :: st) (am_GS N, am_GR, I, L) := am_rG2 am_m9 d_9_1 am_f21 rfl (gs_10 N) (by decide) gr_10_3 rfl
theorem d_9_4 : am_code 9 4 = some (.iload_n 1, 1) := by decide +kernel
theorem s_9_4 (cl : am_C) (a0 a2 : Option am_V) (x : Int) (st : List am_V) (h : am_H) : am_go0 cl 9 4 [a0, some (.inl x), a2] st h = am_go0 cl 9 5 [a0, some (.inl x), a2] (.inl x :: st) h := am_r am_m9 d_9_4 rfl
theorem d_9_5 : am_code 9 5 = some (.iconst 4, 1) := by decide +kernel
theorem s_9_5 (cl : am_C) (ls : am_Ls) (st : List am_V) (h : am_H) : am_go0 cl 9 5 ls st h = am_go0 cl 9 6 ls (.inl 4 :: st) h := am_rK am_m9 d_9_5 (by decide) rfl _ _ _
theorem d_9_6 : am_code 9 6 = some (.imul, 1) := by decide +kernel
theorem s_9_6 (cl : am_C) (ls : am_Ls) (x y : Int) (st : List am_V) (h : am_H) : am_go0 cl 9 6 ls (.inl y :: .inl x :: st) h = am_go0 cl 9 7 ls (.inl (am_wr (x * y)) :: st) h := am_r am_m9 d_9_6 rfl
theorem d_9_7 : am_code 9 7 = some (.iload_n 2, 1) := by decide +kernel
theorem s_9_7 (cl : am_C) (a0 a1 : Option am_V) (x : Int) (st : List am_V) (h : am_H) : am_go0 cl 9 7 [a0, a1, some (.inl x)] st h = am_go0 cl 9 8 [a0, a1, some (.inl x)] (.inl x :: st) h := am_r am_m9 d_9_7 rfl
theorem d_9_8 : am_code 9 8 = some (.iadd, 1) := by decide +kernel
theorem s_9_8 (cl : am_C) (ls : am_Ls) (x y : Int) (st : List am_V) (h : am_H) : am_go0 cl 9 8 ls (.inl y :: .inl x :: st) h = am_go0 cl 9 9 ls (.inl (am_wr (x + y)) :: st) h := am_r am_m9 d_9_8 rfl
theorem d_9_9 : am_code 9 9 = some (.iaload, 1) := by decide +kernel
theorem s_9_9 (cl : am_C) (ls : am_Ls) (i : Int) (k : Nat) (st : List am_V) (N : Nat) (I : Nat → Int → Int) (L : Nat → Int → Int64) : am_go0 cl 9 9 ls (.inl i :: .inr (.inr (some k)) :: st) (am_GS N, am_GR, I, L) = if am_inb (am_GS N) k 0 i = true then am_go0 cl 9 10 ls (.inl (I k i) :: st) (am_GS N, am_GR, I, L) else none := am_rA am_m9 d_9_9 (by decide) rfl k ls st i _ _ I L
theorem d_9_10 : am_code 9 10 = some (.ireturn, 1) := by decide +kernel
theorem s_9_10 (cl : am_C) (ls : am_Ls) (x : Int) (h : am_H) : am_go0 cl 9 10 ls [.inl x] h = some (some (.inl x), h) := am_rE am_m9 d_9_10 rfl
theorem e_9 (d : Nat) (t : Nat) (p0 : Int) (p1 : Int) (h : am_H) : am_call (d + 1) 9 [.inr (.inr (some t)), .inl p0, .inl p1] h = am_go0 (am_call d) 9 0 [some (.inr (.inr (some t))), some (.inl p0), some (.inl p1)] [] h := am_callE am_m9 (Nat.le_of_ble_eq_true rfl) rfl
theorem d_10_0 : am_code 10 0 = some (.aload_n 0, 1) := by decide +kernel
theorem s_10_0 (cl : am_C) (x : Nat) (st : List am_V) (h : am_H) : am_go0 cl 10 0 [some (.inr (.inr (some x)))] st h = am_go0 cl 10 1 [some (.inr (.inr (some x)))] (.inr (.inr (some x)) :: st) h := am_r am_m10 d_10_0 rfl
theorem d_10_1 : am_code 10 1 = some (.getfield 24, 3) := by decide +kernel
theorem s_10_1 (cl : am_C) (ls : am_Ls) (st : List am_V) (N : Nat) (I : Nat → Int → Int) (L : Nat → Int → Int64) : am_go0 cl 10 1 ls (.inr (.inr (some 10)) :: st) (am_GS N, am_GR, I, L) = am_go0 cl 10 4 ls (.inl (I 10 4) :: st) (am_GS N, am_GR, I, L) := am_rG0 am_m10 d_10_1 am_f24 rfl (gs_10 N) (by decide) rfl
theorem d_10_4 : am_code 10 4 = some (.ireturn, 1) := by decide +kernel
theorem s_10_4 (cl : am_C) (ls : am_Ls) (x : Int) (h : am_H) : am_go0 cl 10 4 ls [.inl x] h = some (some (.inl x), h) := am_rE am_m10 d_10_4 rfl
theorem e_10 (d : Nat) (t : Nat) (h : am_H) : am_call (d + 1) 10 [.inr (.inr (some t))] h = am_go0 (am_call d) 10 0 [some (.inr (.inr (some t)))] [] h := am_callE am_m10 (Nat.le_of_ble_eq_true rfl) rfl
