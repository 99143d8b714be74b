theorem d_12_0 : am_code 12 0 = some (.aload_n 0, 1) := by decide +kernel
theorem s_12_0 (cl : am_C) (x : Nat) (st : List am_V) (h : am_H) : am_go0 cl 12 0 [some (.inr (.inr (some x)))] st h = am_go0 cl 12 1 [some (.inr (.inr (some x)))] (.inr (.inr (some x)) :: st) h := am_r am_m12 d_12_0 rfl
theorem d_12_1 : am_code 12 1 = some (.iconst 0, 1) := by decide +kernel
theorem s_12_1 (cl : am_C) (ls : am_Ls) (st : List am_V) (h : am_H) : am_go0 cl 12 1 ls st h = am_go0 cl 12 2 ls (.inl 0 :: st) h := am_rK am_m12 d_12_1 (by decide) rfl _ _ _
theorem d_12_2 : am_code 12 2 = some (.putfield 31, 3) := by decide +kernel
theorem s_12_2 (cl : am_C) (ls : am_Ls) (v : Int) (st : List am_V) (N : Nat) (I : Nat → Int → Int) (L : Nat → Int → Int64) : am_go0 cl 12 2 ls (.inl v :: .inr (.inr (some 33)) :: st) (am_GS N, am_GR, I, L) = am_go0 cl 12 5 ls st (am_GS N, am_GR, am_uI I 33 9 v, L) := am_rP0 am_m12 d_12_2 am_f1031 rfl (gs_33 N) (by decide) rfl
theorem d_12_5 : am_code 12 5 = some (.return_, 1) := by decide +kernel
theorem s_12_5 (cl : am_C) (ls : am_Ls) (h : am_H) : am_go0 cl 12 5 ls [] h = some (none, h) := am_rE am_m12 d_12_5 rfl
theorem e_12 (d : Nat) (t : Nat) (h : am_H) : am_call (d + 1) 12 [.inr (.inr (some t))] h = am_go0 (am_call d) 12 0 [some (.inr (.inr (some t)))] [] h := am_callE am_m12 (Nat.le_of_ble_eq_true rfl) rfl
theorem d_13_0 : am_code 13 0 = some (.aload_n 0, 1) := by decide +kernel
theorem s_13_0 (cl : am_C) (a1 a2 a3 a4 a5 a6 a7 a8 a9 a10 : Option am_V) (x : Nat) (st : List am_V) (h : am_H) : am_go0 cl 13 0 [some (.inr (.inr (some x))), a1, a2, a3, a4, a5, a6, a7, a8, a9, a10] st h = am_go0 cl 13 1 [some (.inr (.inr (some x))), a1, a2, a3, a4, a5, a6, a7, a8, a9, a10] (.inr (.inr (some x)) :: st) h := am_r am_m13 d_13_0 rfl
theorem d_13_1 : am_code 13 1 = some (.iload_n 1, 1) := by decide +kernel
theorem s_13_1 (cl : am_C) (a0 a2 a3 a4 a5 a6 a7 a8 a9 a10 : Option am_V) (x : Int) (st : List am_V) (h : am_H) : am_go0 cl 13 1 [a0, some (.inl x), a2, a3, a4, a5, a6, a7, a8, a9, a10] st h = am_go0 cl 13 2 [a0, some (.inl x), a2, a3, a4, a5, a6, a7, a8, a9, a10] (.inl x :: st) h := am_r am_m13 d_13_1 rfl
theorem d_13_2 : am_code 13 2 = some (.iload_n 2, 1) := by decide +kernel
theorem s_13_2 (cl : am_C) (a0 a1 a3 a4 a5 a6 a7 a8 a9 a10 : Option am_V) (x : Int) (st : List am_V) (h : am_H) : am_go0 cl 13 2 [a0, a1, some (.inl x), a3, a4, a5, a6, a7, a8, a9, a10] st h = am_go0 cl 13 3 [a0, a1, some (.inl x), a3, a4, a5, a6, a7, a8, a9, a10] (.inl x :: st) h := am_r am_m13 d_13_2 rfl
theorem d_13_3 : am_code 13 3 = some (.invokevirtual 75, 3) := by decide +kernel
theorem s_13_3 (cl : am_C) (ls : am_Ls) (x0 : Int) (x1 : Int) (N : Nat) (I : Nat → Int → Int) (L : Nat → Int → Int64) : am_go0 cl 13 3 ls [.inl x1, .inl x0, .inr (.inr (some 33))] (am_GS N, am_GR, I, L) = am_bd (cl 14 [.inr (.inr (some 33)), .inl x0, .inl x1] (am_GS N, am_GR, I, L)) (fun v h2 => am_go0 cl 13 6 ls (v.toList ++ []) h2) := am_rV am_m13 d_13_3 am_k1075 rfl am_m14 (gs_33 N) (by decide) (Nat.le_of_ble_eq_true rfl) rfl ls
theorem d_13_6 : am_code 13 6 = some (.istore_n 3, 1) := by decide +kernel
theorem s_13_6 (cl : am_C) (a0 a1 a2 a3 a4 a5 a6 a7 a8 a9 a10 : Option am_V) (x : Int) (st : List am_V) (h : am_H) : am_go0 cl 13 6 [a0, a1, a2, a3, a4, a5, a6, a7, a8, a9, a10] (.inl x :: st) h = am_go0 cl 13 7 [a0, a1, am_c1 a2, some (.inl x), a4, a5, a6, a7, a8, a9, a10] st h := am_r am_m13 d_13_6 rfl
theorem d_13_7 : am_code 13 7 = some (.iload_n 3, 1) := by decide +kernel
theorem s_13_7 (cl : am_C) (a0 a1 a2 a4 a5 a6 a7 a8 a9 a10 : Option am_V) (x : Int) (st : List am_V) (h : am_H) : am_go0 cl 13 7 [a0, a1, a2, some (.inl x), a4, a5, a6, a7, a8, a9, a10] st h = am_go0 cl 13 8 [a0, a1, a2, some (.inl x), a4, a5, a6, a7, a8, a9, a10] (.inl x :: st) h := am_r am_m13 d_13_7 rfl
theorem d_13_8 : am_code 13 8 = some (.iconst (-1), 1) := by decide +kernel
theorem s_13_8 (cl : am_C) (ls : am_Ls) (st : List am_V) (h : am_H) : am_go0 cl 13 8 ls st h = am_go0 cl 13 9 ls (.inl (-1) :: st) h := am_rK am_m13 d_13_8 (by decide) rfl _ _ _
theorem d_13_9 : am_code 13 9 = some (.if_icmp .eq 5, 3) := by decide +kernel
theorem s_13_9 (cl : am_C) (ls : am_Ls) (x y : Int) (st : List am_V) (h : am_H) : am_go0 cl 13 9 ls (.inl y :: .inl x :: st) h = if x = y then am_go0 cl 13 14 ls st h else am_go0 cl 13 12 ls st h := (am_rJ0 am_m13 d_13_9 (by decide) rfl x y ls st h).trans (am_ifT (am_cmp_eq x y) _ _)
theorem d_13_12 : am_code 13 12 = some (.iload_n 3, 1) := by decide +kernel
theorem s_13_12 (cl : am_C) (a0 a1 a2 a4 a5 a6 a7 a8 a9 a10 : Option am_V) (x : Int) (st : List am_V) (h : am_H) : am_go0 cl 13 12 [a0, a1, a2, some (.inl x), a4, a5, a6, a7, a8, a9, a10] st h = am_go0 cl 13 13 [a0, a1, a2, some (.inl x), a4, a5, a6, a7, a8, a9, a10] (.inl x :: st) h := am_r am_m13 d_13_12 rfl
theorem d_13_13 : am_code 13 13 = some (.ireturn, 1) := by decide +kernel
theorem s_13_13 (cl : am_C) (ls : am_Ls) (x : Int) (h : am_H) : am_go0 cl 13 13 ls [.inl x] h = some (some (.inl x), h) := am_rE am_m13 d_13_13 rfl
theorem d_13_14 : am_code 13 14 = some (.aload_n 0, 1) := by decide +kernel
theorem s_13_14 (cl : am_C) (a1 a2 a3 a4 a5 a6 a7 a8 a9 a10 : Option am_V) (x : Nat) (st : List am_V) (h : am_H) : am_go0 cl 13 14 [some (.inr (.inr (some x))), a1, a2, a3, a4, a5, a6, a7, a8, a9, a10] st h = am_go0 cl 13 15 [some (.inr (.inr (some x))), a1, a2, a3, a4, a5, a6, a7, a8, a9, a10] (.inr (.inr (some x)) :: st) h := am_r am_m13 d_13_14 rfl
theorem d_13_15 : am_code 13 15 = some (.getfield 31, 3) := by decide +kernel
theorem s_13_15 (cl : am_C) (ls : am_Ls) (st : List am_V) (N : Nat) (I : Nat → Int → Int) (L : Nat → Int → Int64) : am_go0 cl 13 15 ls (.inr (.inr (some 33)) :: st) (am_GS N, am_GR, I, L) = am_go0 cl 13 18 ls (.inl (I 33 9) :: st) (am_GS N, am_GR, I, L) := am_rG0 am_m13 d_13_15 am_f1031 rfl (gs_33 N) (by decide) rfl
theorem d_13_18 : am_code 13 18 = some (.istore 4, 2) := by decide +kernel
theorem s_13_18 (cl : am_C) (a0 a1 a2 a3 a4 a5 a6 a7 a8 a9 a10 : Option am_V) (x : Int) (st : List am_V) (h : am_H) : am_go0 cl 13 18 [a0, a1, a2, a3, a4, a5, a6, a7, a8, a9, a10] (.inl x :: st) h = am_go0 cl 13 20 [a0, a1, a2, am_c1 a3, some (.inl x), a5, a6, a7, a8, a9, a10] st h := am_r am_m13 d_13_18 rfl
theorem d_13_20 : am_code 13 20 = some (.aload_n 0, 1) := by decide +kernel
theorem s_13_20 (cl : am_C) (a1 a2 a3 a4 a5 a6 a7 a8 a9 a10 : Option am_V) (x : Nat) (st : List am_V) (h : am_H) : am_go0 cl 13 20 [some (.inr (.inr (some x))), a1, a2, a3, a4, a5, a6, a7, a8, a9, a10] st h = am_go0 cl 13 21 [some (.inr (.inr (some x))), a1, a2, a3, a4, a5, a6, a7, a8, a9, a10] (.inr (.inr (some x)) :: st) h := am_r am_m13 d_13_20 rfl
theorem d_13_21 : am_code 13 21 = some (.iload_n 1, 1) := by decide +kernel
theorem s_13_21 (cl : am_C) (a0 a2 a3 a4 a5 a6 a7 a8 a9 a10 : Option am_V) (x : Int) (st : List am_V) (h : am_H) : am_go0 cl 13 21 [a0, some (.inl x), a2, a3, a4, a5, a6, a7, a8, a9, a10] st h = am_go0 cl 13 22 [a0, some (.inl x), a2, a3, a4, a5, a6, a7, a8, a9, a10] (.inl x :: st) h := am_r am_m13 d_13_21 rfl
theorem d_13_22 : am_code 13 22 = some (.iload_n 2, 1) := by decide +kernel
theorem s_13_22 (cl : am_C) (a0 a1 a3 a4 a5 a6 a7 a8 a9 a10 : Option am_V) (x : Int) (st : List am_V) (h : am_H) : am_go0 cl 13 22 [a0, a1, some (.inl x), a3, a4, a5, a6, a7, a8, a9, a10] st h = am_go0 cl 13 23 [a0, a1, some (.inl x), a3, a4, a5, a6, a7, a8, a9, a10] (.inl x :: st) h := am_r am_m13 d_13_22 rfl
theorem d_13_23 : am_code 13 23 = some (.invokevirtual 78, 3) := by decide +kernel
theorem s_13_23 (cl : am_C) (ls : am_Ls) (x0 : Int) (x1 : Int) (N : Nat) (I : Nat → Int → Int) (L : Nat → Int → Int64) : am_go0 cl 13 23 ls [.inl x1, .inl x0, .inr (.inr (some 33))] (am_GS N, am_GR, I, L) = am_bd (cl 15 [.inr (.inr (some 33)), .inl x0, .inl x1] (am_GS N, am_GR, I, L)) (fun v h2 => am_go0 cl 13 26 ls (v.toList ++ []) h2) := am_rV am_m13 d_13_23 am_k1078 rfl am_m15 (gs_33 N) (by decide) (Nat.le_of_ble_eq_true rfl) rfl ls
theorem d_13_26 : am_code 13 26 = some (.istore 5, 2) := by decide +kernel
theorem s_13_26 (cl : am_C) (a0 a1 a2 a3 a4 a5 a6 a7 a8 a9 a10 : Option am_V) (x : Int) (st : List am_V) (h : am_H) : am_go0 cl 13 26 [a0, a1, a2, a3, a4, a5, a6, a7, a8, a9, a10] (.inl x :: st) h = am_go0 cl 13 28 [a0, a1, a2, a3, am_c1 a4, some (.inl x), a6, a7, a8, a9, a10] st h := am_r am_m13 d_13_26 rfl
theorem d_13_28 : am_code 13 28 = some (.iload 5, 2) := by decide +kernel
theorem s_13_28 (cl : am_C) (a0 a1 a2 a3 a4 a6 a7 a8 a9 a10 : Option am_V) (x : Int) (st : List am_V) (h : am_H) : am_go0 cl 13 28 [a0, a1, a2, a3, a4, some (.inl x), a6, a7, a8, a9, a10] st h = am_go0 cl 13 30 [a0, a1, a2, a3, a4, some (.inl x), a6, a7, a8, a9, a10] (.inl x :: st) h := am_r am_m13 d_13_28 rfl
theorem d_13_30 : am_code 13 30 = some (.ifCond .ge 7, 3) := by decide +kernel
theorem s_13_30 (cl : am_C) (ls : am_Ls) (x : Int) (st : List am_V) (h : am_H) : am_go0 cl 13 30 ls (.inl x :: st) h = if x < 0 then am_go0 cl 13 33 ls st h else am_go0 cl 13 37 ls st h := (am_rJ1 am_m13 d_13_30 (by decide) rfl x ls st h).trans (am_ifF ((am_cmp_ge x 0).trans Int.not_lt.symm) _ _)
theorem d_13_33 : am_code 13 33 = some (.iconst 0, 1) := by decide +kernel
theorem s_13_33 (cl : am_C) (ls : am_Ls) (st : List am_V) (h : am_H) : am_go0 cl 13 33 ls st h = am_go0 cl 13 34 ls (.inl 0 :: st) h := am_rK am_m13 d_13_33 (by decide) rfl _ _ _
theorem d_13_34 : am_code 13 34 = some (.goto 4, 3) := by decide +kernel
theorem s_13_34 (cl : am_C) (ls : am_Ls) (st : List am_V) (h : am_H) : am_go0 cl 13 34 ls st h = am_go0 cl 13 38 ls st h := am_rGo am_m13 d_13_34 (by decide) _ _ _
theorem d_13_37 : am_code 13 37 = some (.iconst 1, 1) := by decide +kernel
theorem s_13_37 (cl : am_C) (ls : am_Ls) (st : List am_V) (h : am_H) : am_go0 cl 13 37 ls st h = am_go0 cl 13 38 ls (.inl 1 :: st) h := am_rK am_m13 d_13_37 (by decide) rfl _ _ _
theorem d_13_38 : am_code 13 38 = some (.istore 6, 2) := by decide +kernel
theorem s_13_38 (cl : am_C) (a0 a1 a2 a3 a4 a5 a6 a7 a8 a9 a10 : Option am_V) (x : Int) (st : List am_V) (h : am_H) : am_go0 cl 13 38 [a0, a1, a2, a3, a4, a5, a6, a7, a8, a9, a10] (.inl x :: st) h = am_go0 cl 13 40 [a0, a1, a2, a3, a4, am_c1 a5, some (.inl x), a7, a8, a9, a10] st h := am_r am_m13 d_13_38 rfl
theorem d_13_40 : am_code 13 40 = some (.aload_n 0, 1) := by decide +kernel
theorem s_13_40 (cl : am_C) (a1 a2 a3 a4 a5 a6 a7 a8 a9 a10 : Option am_V) (x : Nat) (st : List am_V) (h : am_H) : am_go0 cl 13 40 [some (.inr (.inr (some x))), a1, a2, a3, a4, a5, a6, a7, a8, a9, a10] st h = am_go0 cl 13 41 [some (.inr (.inr (some x))), a1, a2, a3, a4, a5, a6, a7, a8, a9, a10] (.inr (.inr (some x)) :: st) h := am_r am_m13 d_13_40 rfl
theorem d_13_41 : am_code 13 41 = some (.getfield 41, 3) := by decide +kernel
theorem s_13_41 (cl : am_C) (ls : am_Ls) (st : List am_V) (N : Nat) (I : Nat → Int → Int) (L : Nat → Int → Int64) : am_go0 cl 13 41 ls (.inr (.inr (some 33)) :: st) (am_GS N, am_GR, I, L) = am_go0 cl 13 44 ls (.inr (.inr (some 39)) :: st) (am_GS N, am_GR, I, L) := am_rG2 am_m13 d_13_41 am_f1041 rfl (gs_33 N) (by decide) gr_33_12 rfl
theorem d_13_44 : am_code 13 44 = some (.iconst 0, 1) := by decide +kernel
theorem s_13_44 (cl : am_C) (ls : am_Ls) (st : List am_V) (h : am_H) : am_go0 cl 13 44 ls st h = am_go0 cl 13 45 ls (.inl 0 :: st) h := am_rK am_m13 d_13_44 (by decide) rfl _ _ _
theorem d_13_45 : am_code 13 45 = some (.iload 5, 2) := by decide +kernel
theorem s_13_45 (cl : am_C) (a0 a1 a2 a3 a4 a6 a7 a8 a9 a10 : Option am_V) (x : Int) (st : List am_V) (h : am_H) : am_go0 cl 13 45 [a0, a1, a2, a3, a4, some (.inl x), a6, a7, a8, a9, a10] st h = am_go0 cl 13 47 [a0, a1, a2, a3, a4, some (.inl x), a6, a7, a8, a9, a10] (.inl x :: st) h := am_r am_m13 d_13_45 rfl
theorem d_13_47 : am_code 13 47 = some (.iastore, 1) := by decide +kernel
theorem s_13_47 (cl : am_C) (ls : am_Ls) (i : Int) (v : Int) (k : Nat) (st : List am_V) (N : Nat) (I : Nat → Int → Int) (L : Nat → Int → Int64) : am_go0 cl 13 47 ls (.inl v :: .inl i :: .inr (.inr (some k)) :: st) (am_GS N, am_GR, I, L) = if am_inb (am_GS N) k 0 i = true then am_go0 cl 13 48 ls st (am_GS N, am_GR, am_uI I k i v, L) else none := am_rS am_m13 d_13_47 rfl k ls st i v _ _ I L
theorem d_13_48 : am_code 13 48 = some (.iconst 0, 1) := by decide +kernel
theorem s_13_48 (cl : am_C) (ls : am_Ls) (st : List am_V) (h : am_H) : am_go0 cl 13 48 ls st h = am_go0 cl 13 49 ls (.inl 0 :: st) h := am_rK am_m13 d_13_48 (by decide) rfl _ _ _
theorem d_13_49 : am_code 13 49 = some (.istore 7, 2) := by decide +kernel
theorem s_13_49 (cl : am_C) (a0 a1 a2 a3 a4 a5 a6 a7 a8 a9 a10 : Option am_V) (x : Int) (st : List am_V) (h : am_H) : am_go0 cl 13 49 [a0, a1, a2, a3, a4, a5, a6, a7, a8, a9, a10] (.inl x :: st) h = am_go0 cl 13 51 [a0, a1, a2, a3, a4, a5, am_c1 a6, some (.inl x), a8, a9, a10] st h := am_r am_m13 d_13_49 rfl
theorem d_13_51 : am_code 13 51 = some (.iload 7, 2) := by decide +kernel
theorem s_13_51 (cl : am_C) (a0 a1 a2 a3 a4 a5 a6 a8 a9 a10 : Option am_V) (x : Int) (st : List am_V) (h : am_H) : am_go0 cl 13 51 [a0, a1, a2, a3, a4, a5, a6, some (.inl x), a8, a9, a10] st h = am_go0 cl 13 53 [a0, a1, a2, a3, a4, a5, a6, some (.inl x), a8, a9, a10] (.inl x :: st) h := am_r am_m13 d_13_51 rfl
theorem d_13_53 : am_code 13 53 = some (.sipush 420, 3) := by decide +kernel
theorem s_13_53 (cl : am_C) (ls : am_Ls) (st : List am_V) (h : am_H) : am_go0 cl 13 53 ls st h = am_go0 cl 13 56 ls (.inl 420 :: st) h := am_rBs am_m13 d_13_53 (by decide) rfl _ _ _
theorem d_13_56 : am_code 13 56 = some (.if_icmp .ge 153, 3) := by decide +kernel
theorem s_13_56 (cl : am_C) (ls : am_Ls) (x y : Int) (st : List am_V) (h : am_H) : am_go0 cl 13 56 ls (.inl y :: .inl x :: st) h = if x < y then am_go0 cl 13 59 ls st h else am_go0 cl 13 209 ls st h := (am_rJ0 am_m13 d_13_56 (by decide) rfl x y ls st h).trans (am_ifF ((am_cmp_ge x y).trans Int.not_lt.symm) _ _)
theorem d_13_59 : am_code 13 59 = some (.iload 6, 2) := by decide +kernel
theorem s_13_59 (cl : am_C) (a0 a1 a2 a3 a4 a5 a7 a8 a9 a10 : Option am_V) (x : Int) (st : List am_V) (h : am_H) : am_go0 cl 13 59 [a0, a1, a2, a3, a4, a5, some (.inl x), a7, a8, a9, a10] st h = am_go0 cl 13 61 [a0, a1, a2, a3, a4, a5, some (.inl x), a7, a8, a9, a10] (.inl x :: st) h := am_r am_m13 d_13_59 rfl
theorem d_13_61 : am_code 13 61 = some (.ifCond .le 148, 3) := by decide +kernel
theorem s_13_61 (cl : am_C) (ls : am_Ls) (x : Int) (st : List am_V) (h : am_H) : am_go0 cl 13 61 ls (.inl x :: st) h = if 0 < x then am_go0 cl 13 64 ls st h else am_go0 cl 13 209 ls st h := (am_rJ1 am_m13 d_13_61 (by decide) rfl x ls st h).trans (am_ifF ((am_cmp_le x 0).trans Int.not_lt.symm) _ _)
theorem d_13_64 : am_code 13 64 = some (.aload_n 0, 1) := by decide +kernel
theorem s_13_64 (cl : am_C) (a1 a2 a3 a4 a5 a6 a7 a8 a9 a10 : Option am_V) (x : Nat) (st : List am_V) (h : am_H) : am_go0 cl 13 64 [some (.inr (.inr (some x))), a1, a2, a3, a4, a5, a6, a7, a8, a9, a10] st h = am_go0 cl 13 65 [some (.inr (.inr (some x))), a1, a2, a3, a4, a5, a6, a7, a8, a9, a10] (.inr (.inr (some x)) :: st) h := am_r am_m13 d_13_64 rfl
theorem d_13_65 : am_code 13 65 = some (.getfield 41, 3) := by decide +kernel
theorem s_13_65 (cl : am_C) (ls : am_Ls) (st : List am_V) (N : Nat) (I : Nat → Int → Int) (L : Nat → Int → Int64) : am_go0 cl 13 65 ls (.inr (.inr (some 33)) :: st) (am_GS N, am_GR, I, L) = am_go0 cl 13 68 ls (.inr (.inr (some 39)) :: st) (am_GS N, am_GR, I, L) := am_rG2 am_m13 d_13_65 am_f1041 rfl (gs_33 N) (by decide) gr_33_12 rfl
theorem d_13_68 : am_code 13 68 = some (.iload 6, 2) := by decide +kernel
theorem s_13_68 (cl : am_C) (a0 a1 a2 a3 a4 a5 a7 a8 a9 a10 : Option am_V) (x : Int) (st : List am_V) (h : am_H) : am_go0 cl 13 68 [a0, a1, a2, a3, a4, a5, some (.inl x), a7, a8, a9, a10] st h = am_go0 cl 13 70 [a0, a1, a2, a3, a4, a5, some (.inl x), a7, a8, a9, a10] (.inl x :: st) h := am_r am_m13 d_13_68 rfl
theorem d_13_70 : am_code 13 70 = some (.iconst 1, 1) := by decide +kernel
theorem s_13_70 (cl : am_C) (ls : am_Ls) (st : List am_V) (h : am_H) : am_go0 cl 13 70 ls st h = am_go0 cl 13 71 ls (.inl 1 :: st) h := am_rK am_m13 d_13_70 (by decide) rfl _ _ _
theorem d_13_71 : am_code 13 71 = some (.isub, 1) := by decide +kernel
theorem s_13_71 (cl : am_C) (ls : am_Ls) (x y : Int) (st : List am_V) (h : am_H) : am_go0 cl 13 71 ls (.inl y :: .inl x :: st) h = am_go0 cl 13 72 ls (.inl (am_wr (x - y)) :: st) h := am_r am_m13 d_13_71 rfl
theorem d_13_72 : am_code 13 72 = some (.iaload, 1) := by decide +kernel
theorem s_13_72 (cl : am_C) (ls : am_Ls) (i : Int) (k : Nat) (st : List am_V) (N : Nat) (I : Nat → Int → Int) (L : Nat → Int → Int64) : am_go0 cl 13 72 ls (.inl i :: .inr (.inr (some k)) :: st) (am_GS N, am_GR, I, L) = if am_inb (am_GS N) k 0 i = true then am_go0 cl 13 73 ls (.inl (I k i) :: st) (am_GS N, am_GR, I, L) else none := am_rA am_m13 d_13_72 (by decide) rfl k ls st i _ _ I L
theorem d_13_73 : am_code 13 73 = some (.istore 8, 2) := by decide +kernel
theorem s_13_73 (cl : am_C) (a0 a1 a2 a3 a4 a5 a6 a7 a8 a9 a10 : Option am_V) (x : Int) (st : List am_V) (h : am_H) : am_go0 cl 13 73 [a0, a1, a2, a3, a4, a5, a6, a7, a8, a9, a10] (.inl x :: st) h = am_go0 cl 13 75 [a0, a1, a2, a3, a4, a5, a6, am_c1 a7, some (.inl x), a9, a10] st h := am_r am_m13 d_13_73 rfl
theorem d_13_75 : am_code 13 75 = some (.aload_n 0, 1) := by decide +kernel
theorem s_13_75 (cl : am_C) (a1 a2 a3 a4 a5 a6 a7 a8 a9 a10 : Option am_V) (x : Nat) (st : List am_V) (h : am_H) : am_go0 cl 13 75 [some (.inr (.inr (some x))), a1, a2, a3, a4, a5, a6, a7, a8, a9, a10] st h = am_go0 cl 13 76 [some (.inr (.inr (some x))), a1, a2, a3, a4, a5, a6, a7, a8, a9, a10] (.inr (.inr (some x)) :: st) h := am_r am_m13 d_13_75 rfl
theorem d_13_76 : am_code 13 76 = some (.getfield 25, 3) := by decide +kernel
theorem s_13_76 (cl : am_C) (ls : am_Ls) (st : List am_V) (N : Nat) (I : Nat → Int → Int) (L : Nat → Int → Int64) : am_go0 cl 13 76 ls (.inr (.inr (some 33)) :: st) (am_GS N, am_GR, I, L) = am_go0 cl 13 79 ls (.inr (.inr (some 37)) :: st) (am_GS N, am_GR, I, L) := am_rG2 am_m13 d_13_76 am_f1025 rfl (gs_33 N) (by decide) gr_33_7 rfl
theorem d_13_79 : am_code 13 79 = some (.iload 8, 2) := by decide +kernel
theorem s_13_79 (cl : am_C) (a0 a1 a2 a3 a4 a5 a6 a7 a9 a10 : Option am_V) (x : Int) (st : List am_V) (h : am_H) : am_go0 cl 13 79 [a0, a1, a2, a3, a4, a5, a6, a7, some (.inl x), a9, a10] st h = am_go0 cl 13 81 [a0, a1, a2, a3, a4, a5, a6, a7, some (.inl x), a9, a10] (.inl x :: st) h := am_r am_m13 d_13_79 rfl
theorem d_13_81 : am_code 13 81 = some (.iaload, 1) := by decide +kernel
theorem s_13_81 (cl : am_C) (ls : am_Ls) (i : Int) (k : Nat) (st : List am_V) (N : Nat) (I : Nat → Int → Int) (L : Nat → Int → Int64) : am_go0 cl 13 81 ls (.inl i :: .inr (.inr (some k)) :: st) (am_GS N, am_GR, I, L) = if am_inb (am_GS N) k 0 i = true then am_go0 cl 13 82 ls (.inl (I k i) :: st) (am_GS N, am_GR, I, L) else none := am_rA am_m13 d_13_81 (by decide) rfl k ls st i _ _ I L
theorem d_13_82 : am_code 13 82 = some (.istore 9, 2) := by decide +kernel
theorem s_13_82 (cl : am_C) (a0 a1 a2 a3 a4 a5 a6 a7 a8 a9 a10 : Option am_V) (x : Int) (st : List am_V) (h : am_H) : am_go0 cl 13 82 [a0, a1, a2, a3, a4, a5, a6, a7, a8, a9, a10] (.inl x :: st) h = am_go0 cl 13 84 [a0, a1, a2, a3, a4, a5, a6, a7, am_c1 a8, some (.inl x), a10] st h := am_r am_m13 d_13_82 rfl
theorem d_13_84 : am_code 13 84 = some (.iload 9, 2) := by decide +kernel
theorem s_13_84 (cl : am_C) (a0 a1 a2 a3 a4 a5 a6 a7 a8 a10 : Option am_V) (x : Int) (st : List am_V) (h : am_H) : am_go0 cl 13 84 [a0, a1, a2, a3, a4, a5, a6, a7, a8, some (.inl x), a10] st h = am_go0 cl 13 86 [a0, a1, a2, a3, a4, a5, a6, a7, a8, some (.inl x), a10] (.inl x :: st) h := am_r am_m13 d_13_84 rfl
theorem d_13_86 : am_code 13 86 = some (.aload_n 0, 1) := by decide +kernel
theorem s_13_86 (cl : am_C) (a1 a2 a3 a4 a5 a6 a7 a8 a9 a10 : Option am_V) (x : Nat) (st : List am_V) (h : am_H) : am_go0 cl 13 86 [some (.inr (.inr (some x))), a1, a2, a3, a4, a5, a6, a7, a8, a9, a10] st h = am_go0 cl 13 87 [some (.inr (.inr (some x))), a1, a2, a3, a4, a5, a6, a7, a8, a9, a10] (.inr (.inr (some x)) :: st) h := am_r am_m13 d_13_86 rfl
theorem d_13_87 : am_code 13 87 = some (.iload 8, 2) := by decide +kernel
theorem s_13_87 (cl : am_C) (a0 a1 a2 a3 a4 a5 a6 a7 a9 a10 : Option am_V) (x : Int) (st : List am_V) (h : am_H) : am_go0 cl 13 87 [a0, a1, a2, a3, a4, a5, a6, a7, some (.inl x), a9, a10] st h = am_go0 cl 13 89 [a0, a1, a2, a3, a4, a5, a6, a7, some (.inl x), a9, a10] (.inl x :: st) h := am_r am_m13 d_13_87 rfl
theorem d_13_89 : am_code 13 89 = some (.invokevirtual 81, 3) := by decide +kernel
theorem s_13_89 (cl : am_C) (ls : am_Ls) (x0 : Int) (z0 : Int) (N : Nat) (I : Nat → Int → Int) (L : Nat → Int → Int64) : am_go0 cl 13 89 ls [.inl x0, .inr (.inr (some 33)), .inl z0] (am_GS N, am_GR, I, L) = am_bd (cl 16 [.inr (.inr (some 33)), .inl x0] (am_GS N, am_GR, I, L)) (fun v h2 => am_go0 cl 13 92 ls (v.toList ++ [.inl z0]) h2) := am_rV am_m13 d_13_89 am_k1081 rfl am_m16 (gs_33 N) (by decide) (Nat.le_of_ble_eq_true rfl) rfl ls
theorem d_13_92 : am_code 13 92 = some (.if_icmp .lt 9, 3) := by decide +kernel
theorem s_13_92 (cl : am_C) (ls : am_Ls) (x y : Int) (st : List am_V) (h : am_H) : am_go0 cl 13 92 ls (.inl y :: .inl x :: st) h = if x < y then am_go0 cl 13 101 ls st h else am_go0 cl 13 95 ls st h := (am_rJ0 am_m13 d_13_92 (by decide) rfl x y ls st h).trans (am_ifT (am_cmp_lt x y) _ _)
theorem d_13_95 : am_code 13 95 = some (.iinc 6 (-1), 3) := by decide +kernel
theorem s_13_95 (cl : am_C) (a0 a1 a2 a3 a4 a5 a7 a8 a9 a10 : Option am_V) (x : Int) (st : List am_V) (h : am_H) : am_go0 cl 13 95 [a0, a1, a2, a3, a4, a5, some (.inl x), a7, a8, a9, a10] st h = am_go0 cl 13 98 [a0, a1, a2, a3, a4, am_c1 a5, some (.inl (am_wr (x + (-1)))), a7, a8, a9, a10] st h := am_r am_m13 d_13_95 rfl
theorem d_13_98 : am_code 13 98 = some (.goto 105, 3) := by decide +kernel
theorem s_13_98 (cl : am_C) (ls : am_Ls) (st : List am_V) (h : am_H) : am_go0 cl 13 98 ls st h = am_go0 cl 13 203 ls st h := am_rGo am_m13 d_13_98 (by decide) _ _ _
theorem d_13_101 : am_code 13 101 = some (.aload_n 0, 1) := by decide +kernel
theorem s_13_101 (cl : am_C) (a1 a2 a3 a4 a5 a6 a7 a8 a9 a10 : Option am_V) (x : Nat) (st : List am_V) (h : am_H) : am_go0 cl 13 101 [some (.inr (.inr (some x))), a1, a2, a3, a4, a5, a6, a7, a8, a9, a10] st h = am_go0 cl 13 102 [some (.inr (.inr (some x))), a1, a2, a3, a4, a5, a6, a7, a8, a9, a10] (.inr (.inr (some x)) :: st) h := am_r am_m13 d_13_101 rfl
theorem d_13_102 : am_code 13 102 = some (.aload_n 0, 1) := by decide +kernel
theorem s_13_102 (cl : am_C) (a1 a2 a3 a4 a5 a6 a7 a8 a9 a10 : Option am_V) (x : Nat) (st : List am_V) (h : am_H) : am_go0 cl 13 102 [some (.inr (.inr (some x))), a1, a2, a3, a4, a5, a6, a7, a8, a9, a10] st h = am_go0 cl 13 103 [some (.inr (.inr (some x))), a1, a2, a3, a4, a5, a6, a7, a8, a9, a10] (.inr (.inr (some x)) :: st) h := am_r am_m13 d_13_102 rfl
theorem d_13_103 : am_code 13 103 = some (.iload 8, 2) := by decide +kernel
theorem s_13_103 (cl : am_C) (a0 a1 a2 a3 a4 a5 a6 a7 a9 a10 : Option am_V) (x : Int) (st : List am_V) (h : am_H) : am_go0 cl 13 103 [a0, a1, a2, a3, a4, a5, a6, a7, some (.inl x), a9, a10] st h = am_go0 cl 13 105 [a0, a1, a2, a3, a4, a5, a6, a7, some (.inl x), a9, a10] (.inl x :: st) h := am_r am_m13 d_13_103 rfl
theorem d_13_105 : am_code 13 105 = some (.iload 9, 2) := by decide +kernel
theorem s_13_105 (cl : am_C) (a0 a1 a2 a3 a4 a5 a6 a7 a8 a10 : Option am_V) (x : Int) (st : List am_V) (h : am_H) : am_go0 cl 13 105 [a0, a1, a2, a3, a4, a5, a6, a7, a8, some (.inl x), a10] st h = am_go0 cl 13 107 [a0, a1, a2, a3, a4, a5, a6, a7, a8, some (.inl x), a10] (.inl x :: st) h := am_r am_m13 d_13_105 rfl
theorem d_13_107 : am_code 13 107 = some (.invokevirtual 84, 3) := by decide +kernel
theorem s_13_107 (cl : am_C) (ls : am_Ls) (x0 : Int) (x1 : Int) (z0 : Nat) (N : Nat) (I : Nat → Int → Int) (L : Nat → Int → Int64) : am_go0 cl 13 107 ls [.inl x1, .inl x0, .inr (.inr (some 33)), .inr (.inr (some z0))] (am_GS N, am_GR, I, L) = am_bd (cl 17 [.inr (.inr (some 33)), .inl x0, .inl x1] (am_GS N, am_GR, I, L)) (fun v h2 => am_go0 cl 13 110 ls (v.toList ++ [.inr (.inr (some z0))]) h2) := am_rV am_m13 d_13_107 am_k1084 rfl am_m17 (gs_33 N) (by decide) (Nat.le_of_ble_eq_true rfl) rfl ls
theorem d_13_110 : am_code 13 110 = some (.aload_n 0, 1) := by decide +kernel
theorem s_13_110 (cl : am_C) (a1 a2 a3 a4 a5 a6 a7 a8 a9 a10 : Option am_V) (x : Nat) (st : List am_V) (h : am_H) : am_go0 cl 13 110 [some (.inr (.inr (some x))), a1, a2, a3, a4, a5, a6, a7, a8, a9, a10] st h = am_go0 cl 13 111 [some (.inr (.inr (some x))), a1, a2, a3, a4, a5, a6, a7, a8, a9, a10] (.inr (.inr (some x)) :: st) h := am_r am_m13 d_13_110 rfl
theorem d_13_111 : am_code 13 111 = some (.iload 8, 2) := by decide +kernel
theorem s_13_111 (cl : am_C) (a0 a1 a2 a3 a4 a5 a6 a7 a9 a10 : Option am_V) (x : Int) (st : List am_V) (h : am_H) : am_go0 cl 13 111 [a0, a1, a2, a3, a4, a5, a6, a7, some (.inl x), a9, a10] st h = am_go0 cl 13 113 [a0, a1, a2, a3, a4, a5, a6, a7, some (.inl x), a9, a10] (.inl x :: st) h := am_r am_m13 d_13_111 rfl
theorem d_13_113 : am_code 13 113 = some (.iload 9, 2) := by decide +kernel
theorem s_13_113 (cl : am_C) (a0 a1 a2 a3 a4 a5 a6 a7 a8 a10 : Option am_V) (x : Int) (st : List am_V) (h : am_H) : am_go0 cl 13 113 [a0, a1, a2, a3, a4, a5, a6, a7, a8, some (.inl x), a10] st h = am_go0 cl 13 115 [a0, a1, a2, a3, a4, a5, a6, a7, a8, some (.inl x), a10] (.inl x :: st) h := am_r am_m13 d_13_113 rfl
theorem d_13_115 : am_code 13 115 = some (.invokevirtual 87, 3) := by decide +kernel
theorem s_13_115 (cl : am_C) (ls : am_Ls) (x0 : Int) (x1 : Int) (z0 : Int) (z1 : Nat) (N : Nat) (I : Nat → Int → Int) (L : Nat → Int → Int64) : am_go0 cl 13 115 ls [.inl x1, .inl x0, .inr (.inr (some 33)), .inl z0, .inr (.inr (some z1))] (am_GS N, am_GR, I, L) = am_bd (cl 18 [.inr (.inr (some 33)), .inl x0, .inl x1] (am_GS N, am_GR, I, L)) (fun v h2 => am_go0 cl 13 118 ls (v.toList ++ [.inl z0, .inr (.inr (some z1))]) h2) := am_rV am_m13 d_13_115 am_k1087 rfl am_m18 (gs_33 N) (by decide) (Nat.le_of_ble_eq_true rfl) rfl ls
theorem d_13_118 : am_code 13 118 = some (.invokevirtual 75, 3) := by decide +kernel
theorem s_13_118 (cl : am_C) (ls : am_Ls) (x0 : Int) (x1 : Int) (N : Nat) (I : Nat → Int → Int) (L : Nat → Int → Int64) : am_go0 cl 13 118 ls [.inl x1, .inl x0, .inr (.inr (some 33))] (am_GS N, am_GR, I, L) = am_bd (cl 14 [.inr (.inr (some 33)), .inl x0, .inl x1] (am_GS N, am_GR, I, L)) (fun v h2 => am_go0 cl 13 121 ls (v.toList ++ []) h2) := am_rV am_m13 d_13_118 am_k1075 rfl am_m14 (gs_33 N) (by decide) (Nat.le_of_ble_eq_true rfl) rfl ls
theorem d_13_121 : am_code 13 121 = some (.istore 10, 2) := by decide +kernel
theorem s_13_121 (cl : am_C) (a0 a1 a2 a3 a4 a5 a6 a7 a8 a9 a10 : Option am_V) (x : Int) (st : List am_V) (h : am_H) : am_go0 cl 13 121 [a0, a1, a2, a3, a4, a5, a6, a7, a8, a9, a10] (.inl x :: st) h = am_go0 cl 13 123 [a0, a1, a2, a3, a4, a5, a6, a7, a8, am_c1 a9, some (.inl x)] st h := am_r am_m13 d_13_121 rfl
theorem d_13_123 : am_code 13 123 = some (.iload 10, 2) := by decide +kernel
theorem s_13_123 (cl : am_C) (a0 a1 a2 a3 a4 a5 a6 a7 a8 a9 : Option am_V) (x : Int) (st : List am_V) (h : am_H) : am_go0 cl 13 123 [a0, a1, a2, a3, a4, a5, a6, a7, a8, a9, some (.inl x)] st h = am_go0 cl 13 125 [a0, a1, a2, a3, a4, a5, a6, a7, a8, a9, some (.inl x)] (.inl x :: st) h := am_r am_m13 d_13_123 rfl
theorem d_13_125 : am_code 13 125 = some (.iconst (-1), 1) := by decide +kernel
theorem s_13_125 (cl : am_C) (ls : am_Ls) (st : List am_V) (h : am_H) : am_go0 cl 13 125 ls st h = am_go0 cl 13 126 ls (.inl (-1) :: st) h := am_rK am_m13 d_13_125 (by decide) rfl _ _ _
theorem d_13_126 : am_code 13 126 = some (.if_icmp .ne 51, 3) := by decide +kernel
theorem s_13_126 (cl : am_C) (ls : am_Ls) (x y : Int) (st : List am_V) (h : am_H) : am_go0 cl 13 126 ls (.inl y :: .inl x :: st) h = if x = y then am_go0 cl 13 129 ls st h else am_go0 cl 13 177 ls st h := (am_rJ0 am_m13 d_13_126 (by decide) rfl x y ls st h).trans (am_ifF ((am_cmp_ne x y).trans Iff.rfl) _ _)
theorem d_13_129 : am_code 13 129 = some (.aload_n 0, 1) := by decide +kernel
theorem s_13_129 (cl : am_C) (a1 a2 a3 a4 a5 a6 a7 a8 a9 a10 : Option am_V) (x : Nat) (st : List am_V) (h : am_H) : am_go0 cl 13 129 [some (.inr (.inr (some x))), a1, a2, a3, a4, a5, a6, a7, a8, a9, a10] st h = am_go0 cl 13 130 [some (.inr (.inr (some x))), a1, a2, a3, a4, a5, a6, a7, a8, a9, a10] (.inr (.inr (some x)) :: st) h := am_r am_m13 d_13_129 rfl
theorem d_13_130 : am_code 13 130 = some (.aload_n 0, 1) := by decide +kernel
theorem s_13_130 (cl : am_C) (a1 a2 a3 a4 a5 a6 a7 a8 a9 a10 : Option am_V) (x : Nat) (st : List am_V) (h : am_H) : am_go0 cl 13 130 [some (.inr (.inr (some x))), a1, a2, a3, a4, a5, a6, a7, a8, a9, a10] st h = am_go0 cl 13 131 [some (.inr (.inr (some x))), a1, a2, a3, a4, a5, a6, a7, a8, a9, a10] (.inr (.inr (some x)) :: st) h := am_r am_m13 d_13_130 rfl
theorem d_13_131 : am_code 13 131 = some (.iload 8, 2) := by decide +kernel
theorem s_13_131 (cl : am_C) (a0 a1 a2 a3 a4 a5 a6 a7 a9 a10 : Option am_V) (x : Int) (st : List am_V) (h : am_H) : am_go0 cl 13 131 [a0, a1, a2, a3, a4, a5, a6, a7, some (.inl x), a9, a10] st h = am_go0 cl 13 133 [a0, a1, a2, a3, a4, a5, a6, a7, some (.inl x), a9, a10] (.inl x :: st) h := am_r am_m13 d_13_131 rfl
theorem d_13_133 : am_code 13 133 = some (.iload 9, 2) := by decide +kernel
theorem s_13_133 (cl : am_C) (a0 a1 a2 a3 a4 a5 a6 a7 a8 a10 : Option am_V) (x : Int) (st : List am_V) (h : am_H) : am_go0 cl 13 133 [a0, a1, a2, a3, a4, a5, a6, a7, a8, some (.inl x), a10] st h = am_go0 cl 13 135 [a0, a1, a2, a3, a4, a5, a6, a7, a8, some (.inl x), a10] (.inl x :: st) h := am_r am_m13 d_13_133 rfl
theorem d_13_135 : am_code 13 135 = some (.invokevirtual 84, 3) := by decide +kernel
theorem s_13_135 (cl : am_C) (ls : am_Ls) (x0 : Int) (x1 : Int) (z0 : Nat) (N : Nat) (I : Nat → Int → Int) (L : Nat → Int → Int64) : am_go0 cl 13 135 ls [.inl x1, .inl x0, .inr (.inr (some 33)), .inr (.inr (some z0))] (am_GS N, am_GR, I, L) = am_bd (cl 17 [.inr (.inr (some 33)), .inl x0, .inl x1] (am_GS N, am_GR, I, L)) (fun v h2 => am_go0 cl 13 138 ls (v.toList ++ [.inr (.inr (some z0))]) h2) := am_rV am_m13 d_13_135 am_k1084 rfl am_m17 (gs_33 N) (by decide) (Nat.le_of_ble_eq_true rfl) rfl ls
theorem d_13_138 : am_code 13 138 = some (.aload_n 0, 1) := by decide +kernel
theorem s_13_138 (cl : am_C) (a1 a2 a3 a4 a5 a6 a7 a8 a9 a10 : Option am_V) (x : Nat) (st : List am_V) (h : am_H) : am_go0 cl 13 138 [some (.inr (.inr (some x))), a1, a2, a3, a4, a5, a6, a7, a8, a9, a10] st h = am_go0 cl 13 139 [some (.inr (.inr (some x))), a1, a2, a3, a4, a5, a6, a7, a8, a9, a10] (.inr (.inr (some x)) :: st) h := am_r am_m13 d_13_138 rfl
theorem d_13_139 : am_code 13 139 = some (.iload 8, 2) := by decide +kernel
theorem s_13_139 (cl : am_C) (a0 a1 a2 a3 a4 a5 a6 a7 a9 a10 : Option am_V) (x : Int) (st : List am_V) (h : am_H) : am_go0 cl 13 139 [a0, a1, a2, a3, a4, a5, a6, a7, some (.inl x), a9, a10] st h = am_go0 cl 13 141 [a0, a1, a2, a3, a4, a5, a6, a7, some (.inl x), a9, a10] (.inl x :: st) h := am_r am_m13 d_13_139 rfl
theorem d_13_141 : am_code 13 141 = some (.iload 9, 2) := by decide +kernel
theorem s_13_141 (cl : am_C) (a0 a1 a2 a3 a4 a5 a6 a7 a8 a10 : Option am_V) (x : Int) (st : List am_V) (h : am_H) : am_go0 cl 13 141 [a0, a1, a2, a3, a4, a5, a6, a7, a8, some (.inl x), a10] st h = am_go0 cl 13 143 [a0, a1, a2, a3, a4, a5, a6, a7, a8, some (.inl x), a10] (.inl x :: st) h := am_r am_m13 d_13_141 rfl
theorem d_13_143 : am_code 13 143 = some (.invokevirtual 87, 3) := by decide +kernel
theorem s_13_143 (cl : am_C) (ls : am_Ls) (x0 : Int) (x1 : Int) (z0 : Int) (z1 : Nat) (N : Nat) (I : Nat → Int → Int) (L : Nat → Int → Int64) : am_go0 cl 13 143 ls [.inl x1, .inl x0, .inr (.inr (some 33)), .inl z0, .inr (.inr (some z1))] (am_GS N, am_GR, I, L) = am_bd (cl 18 [.inr (.inr (some 33)), .inl x0, .inl x1] (am_GS N, am_GR, I, L)) (fun v h2 => am_go0 cl 13 146 ls (v.toList ++ [.inl z0, .inr (.inr (some z1))]) h2) := am_rV am_m13 d_13_143 am_k1087 rfl am_m18 (gs_33 N) (by decide) (Nat.le_of_ble_eq_true rfl) rfl ls
theorem d_13_146 : am_code 13 146 = some (.invokevirtual 78, 3) := by decide +kernel
theorem s_13_146 (cl : am_C) (ls : am_Ls) (x0 : Int) (x1 : Int) (N : Nat) (I : Nat → Int → Int) (L : Nat → Int → Int64) : am_go0 cl 13 146 ls [.inl x1, .inl x0, .inr (.inr (some 33))] (am_GS N, am_GR, I, L) = am_bd (cl 15 [.inr (.inr (some 33)), .inl x0, .inl x1] (am_GS N, am_GR, I, L)) (fun v h2 => am_go0 cl 13 149 ls (v.toList ++ []) h2) := am_rV am_m13 d_13_146 am_k1078 rfl am_m15 (gs_33 N) (by decide) (Nat.le_of_ble_eq_true rfl) rfl ls
theorem d_13_149 : am_code 13 149 = some (.istore 10, 2) := by decide +kernel
theorem s_13_149 (cl : am_C) (a0 a1 a2 a3 a4 a5 a6 a7 a8 a9 a10 : Option am_V) (x : Int) (st : List am_V) (h : am_H) : am_go0 cl 13 149 [a0, a1, a2, a3, a4, a5, a6, a7, a8, a9, a10] (.inl x :: st) h = am_go0 cl 13 151 [a0, a1, a2, a3, a4, a5, a6, a7, a8, am_c1 a9, some (.inl x)] st h := am_r am_m13 d_13_149 rfl
theorem d_13_151 : am_code 13 151 = some (.iload 10, 2) := by decide +kernel
theorem s_13_151 (cl : am_C) (a0 a1 a2 a3 a4 a5 a6 a7 a8 a9 : Option am_V) (x : Int) (st : List am_V) (h : am_H) : am_go0 cl 13 151 [a0, a1, a2, a3, a4, a5, a6, a7, a8, a9, some (.inl x)] st h = am_go0 cl 13 153 [a0, a1, a2, a3, a4, a5, a6, a7, a8, a9, some (.inl x)] (.inl x :: st) h := am_r am_m13 d_13_151 rfl
theorem d_13_153 : am_code 13 153 = some (.ifCond .ge 12, 3) := by decide +kernel
theorem s_13_153 (cl : am_C) (ls : am_Ls) (x : Int) (st : List am_V) (h : am_H) : am_go0 cl 13 153 ls (.inl x :: st) h = if x < 0 then am_go0 cl 13 156 ls st h else am_go0 cl 13 165 ls st h := (am_rJ1 am_m13 d_13_153 (by decide) rfl x ls st h).trans (am_ifF ((am_cmp_ge x 0).trans Int.not_lt.symm) _ _)
theorem d_13_156 : am_code 13 156 = some (.aload_n 0, 1) := by decide +kernel
theorem s_13_156 (cl : am_C) (a1 a2 a3 a4 a5 a6 a7 a8 a9 a10 : Option am_V) (x : Nat) (st : List am_V) (h : am_H) : am_go0 cl 13 156 [some (.inr (.inr (some x))), a1, a2, a3, a4, a5, a6, a7, a8, a9, a10] st h = am_go0 cl 13 157 [some (.inr (.inr (some x))), a1, a2, a3, a4, a5, a6, a7, a8, a9, a10] (.inr (.inr (some x)) :: st) h := am_r am_m13 d_13_156 rfl
theorem d_13_157 : am_code 13 157 = some (.iload 4, 2) := by decide +kernel
theorem s_13_157 (cl : am_C) (a0 a1 a2 a3 a5 a6 a7 a8 a9 a10 : Option am_V) (x : Int) (st : List am_V) (h : am_H) : am_go0 cl 13 157 [a0, a1, a2, a3, some (.inl x), a5, a6, a7, a8, a9, a10] st h = am_go0 cl 13 159 [a0, a1, a2, a3, some (.inl x), a5, a6, a7, a8, a9, a10] (.inl x :: st) h := am_r am_m13 d_13_157 rfl
theorem d_13_159 : am_code 13 159 = some (.putfield 31, 3) := by decide +kernel
theorem s_13_159 (cl : am_C) (ls : am_Ls) (v : Int) (st : List am_V) (N : Nat) (I : Nat → Int → Int) (L : Nat → Int → Int64) : am_go0 cl 13 159 ls (.inl v :: .inr (.inr (some 33)) :: st) (am_GS N, am_GR, I, L) = am_go0 cl 13 162 ls st (am_GS N, am_GR, am_uI I 33 9 v, L) := am_rP0 am_m13 d_13_159 am_f1031 rfl (gs_33 N) (by decide) rfl
theorem d_13_162 : am_code 13 162 = some (.iload 10, 2) := by decide +kernel
theorem s_13_162 (cl : am_C) (a0 a1 a2 a3 a4 a5 a6 a7 a8 a9 : Option am_V) (x : Int) (st : List am_V) (h : am_H) : am_go0 cl 13 162 [a0, a1, a2, a3, a4, a5, a6, a7, a8, a9, some (.inl x)] st h = am_go0 cl 13 164 [a0, a1, a2, a3, a4, a5, a6, a7, a8, a9, some (.inl x)] (.inl x :: st) h := am_r am_m13 d_13_162 rfl
theorem d_13_164 : am_code 13 164 = some (.ireturn, 1) := by decide +kernel
theorem s_13_164 (cl : am_C) (ls : am_Ls) (x : Int) (h : am_H) : am_go0 cl 13 164 ls [.inl x] h = some (some (.inl x), h) := am_rE am_m13 d_13_164 rfl
theorem d_13_165 : am_code 13 165 = some (.aload_n 0, 1) := by decide +kernel
theorem s_13_165 (cl : am_C) (a1 a2 a3 a4 a5 a6 a7 a8 a9 a10 : Option am_V) (x : Nat) (st : List am_V) (h : am_H) : am_go0 cl 13 165 [some (.inr (.inr (some x))), a1, a2, a3, a4, a5, a6, a7, a8, a9, a10] st h = am_go0 cl 13 166 [some (.inr (.inr (some x))), a1, a2, a3, a4, a5, a6, a7, a8, a9, a10] (.inr (.inr (some x)) :: st) h := am_r am_m13 d_13_165 rfl
theorem d_13_166 : am_code 13 166 = some (.getfield 41, 3) := by decide +kernel
theorem s_13_166 (cl : am_C) (ls : am_Ls) (st : List am_V) (N : Nat) (I : Nat → Int → Int) (L : Nat → Int → Int64) : am_go0 cl 13 166 ls (.inr (.inr (some 33)) :: st) (am_GS N, am_GR, I, L) = am_go0 cl 13 169 ls (.inr (.inr (some 39)) :: st) (am_GS N, am_GR, I, L) := am_rG2 am_m13 d_13_166 am_f1041 rfl (gs_33 N) (by decide) gr_33_12 rfl
theorem d_13_169 : am_code 13 169 = some (.iload 6, 2) := by decide +kernel
theorem s_13_169 (cl : am_C) (a0 a1 a2 a3 a4 a5 a7 a8 a9 a10 : Option am_V) (x : Int) (st : List am_V) (h : am_H) : am_go0 cl 13 169 [a0, a1, a2, a3, a4, a5, some (.inl x), a7, a8, a9, a10] st h = am_go0 cl 13 171 [a0, a1, a2, a3, a4, a5, some (.inl x), a7, a8, a9, a10] (.inl x :: st) h := am_r am_m13 d_13_169 rfl
theorem d_13_171 : am_code 13 171 = some (.iinc 6 1, 3) := by decide +kernel
theorem s_13_171 (cl : am_C) (a0 a1 a2 a3 a4 a5 a7 a8 a9 a10 : Option am_V) (x : Int) (st : List am_V) (h : am_H) : am_go0 cl 13 171 [a0, a1, a2, a3, a4, a5, some (.inl x), a7, a8, a9, a10] st h = am_go0 cl 13 174 [a0, a1, a2, a3, a4, am_c1 a5, some (.inl (am_wr (x + 1))), a7, a8, a9, a10] st h := am_r am_m13 d_13_171 rfl
theorem d_13_174 : am_code 13 174 = some (.iload 10, 2) := by decide +kernel
theorem s_13_174 (cl : am_C) (a0 a1 a2 a3 a4 a5 a6 a7 a8 a9 : Option am_V) (x : Int) (st : List am_V) (h : am_H) : am_go0 cl 13 174 [a0, a1, a2, a3, a4, a5, a6, a7, a8, a9, some (.inl x)] st h = am_go0 cl 13 176 [a0, a1, a2, a3, a4, a5, a6, a7, a8, a9, some (.inl x)] (.inl x :: st) h := am_r am_m13 d_13_174 rfl
theorem d_13_176 : am_code 13 176 = some (.iastore, 1) := by decide +kernel
theorem s_13_176 (cl : am_C) (ls : am_Ls) (i : Int) (v : Int) (k : Nat) (st : List am_V) (N : Nat) (I : Nat → Int → Int) (L : Nat → Int → Int64) : am_go0 cl 13 176 ls (.inl v :: .inl i :: .inr (.inr (some k)) :: st) (am_GS N, am_GR, I, L) = if am_inb (am_GS N) k 0 i = true then am_go0 cl 13 177 ls st (am_GS N, am_GR, am_uI I k i v, L) else none := am_rS am_m13 d_13_176 rfl k ls st i v _ _ I L
theorem d_13_177 : am_code 13 177 = some (.aload_n 0, 1) := by decide +kernel
theorem s_13_177 (cl : am_C) (a1 a2 a3 a4 a5 a6 a7 a8 a9 a10 : Option am_V) (x : Nat) (st : List am_V) (h : am_H) : am_go0 cl 13 177 [some (.inr (.inr (some x))), a1, a2, a3, a4, a5, a6, a7, a8, a9, a10] st h = am_go0 cl 13 178 [some (.inr (.inr (some x))), a1, a2, a3, a4, a5, a6, a7, a8, a9, a10] (.inr (.inr (some x)) :: st) h := am_r am_m13 d_13_177 rfl
theorem d_13_178 : am_code 13 178 = some (.getfield 28, 3) := by decide +kernel
theorem s_13_178 (cl : am_C) (ls : am_Ls) (st : List am_V) (N : Nat) (I : Nat → Int → Int) (L : Nat → Int → Int64) : am_go0 cl 13 178 ls (.inr (.inr (some 33)) :: st) (am_GS N, am_GR, I, L) = am_go0 cl 13 181 ls (.inr (.inr (some 38)) :: st) (am_GS N, am_GR, I, L) := am_rG2 am_m13 d_13_178 am_f1028 rfl (gs_33 N) (by decide) gr_33_8 rfl
theorem d_13_181 : am_code 13 181 = some (.iload 8, 2) := by decide +kernel
theorem s_13_181 (cl : am_C) (a0 a1 a2 a3 a4 a5 a6 a7 a9 a10 : Option am_V) (x : Int) (st : List am_V) (h : am_H) : am_go0 cl 13 181 [a0, a1, a2, a3, a4, a5, a6, a7, some (.inl x), a9, a10] st h = am_go0 cl 13 183 [a0, a1, a2, a3, a4, a5, a6, a7, some (.inl x), a9, a10] (.inl x :: st) h := am_r am_m13 d_13_181 rfl
theorem d_13_183 : am_code 13 183 = some (.bipush 6, 2) := by decide +kernel
theorem s_13_183 (cl : am_C) (ls : am_Ls) (st : List am_V) (h : am_H) : am_go0 cl 13 183 ls st h = am_go0 cl 13 185 ls (.inl 6 :: st) h := am_rB am_m13 d_13_183 (by decide) rfl _ _ _
theorem d_13_185 : am_code 13 185 = some (.imul, 1) := by decide +kernel
theorem s_13_185 (cl : am_C) (ls : am_Ls) (x y : Int) (st : List am_V) (h : am_H) : am_go0 cl 13 185 ls (.inl y :: .inl x :: st) h = am_go0 cl 13 186 ls (.inl (am_wr (x * y)) :: st) h := am_r am_m13 d_13_185 rfl
theorem d_13_186 : am_code 13 186 = some (.iload 9, 2) := by decide +kernel
theorem s_13_186 (cl : am_C) (a0 a1 a2 a3 a4 a5 a6 a7 a8 a10 : Option am_V) (x : Int) (st : List am_V) (h : am_H) : am_go0 cl 13 186 [a0, a1, a2, a3, a4, a5, a6, a7, a8, some (.inl x), a10] st h = am_go0 cl 13 188 [a0, a1, a2, a3, a4, a5, a6, a7, a8, some (.inl x), a10] (.inl x :: st) h := am_r am_m13 d_13_186 rfl
theorem d_13_188 : am_code 13 188 = some (.iadd, 1) := by decide +kernel
theorem s_13_188 (cl : am_C) (ls : am_Ls) (x y : Int) (st : List am_V) (h : am_H) : am_go0 cl 13 188 ls (.inl y :: .inl x :: st) h = am_go0 cl 13 189 ls (.inl (am_wr (x + y)) :: st) h := am_r am_m13 d_13_188 rfl
theorem d_13_189 : am_code 13 189 = some (.iload 10, 2) := by decide +kernel
theorem s_13_189 (cl : am_C) (a0 a1 a2 a3 a4 a5 a6 a7 a8 a9 : Option am_V) (x : Int) (st : List am_V) (h : am_H) : am_go0 cl 13 189 [a0, a1, a2, a3, a4, a5, a6, a7, a8, a9, some (.inl x)] st h = am_go0 cl 13 191 [a0, a1, a2, a3, a4, a5, a6, a7, a8, a9, some (.inl x)] (.inl x :: st) h := am_r am_m13 d_13_189 rfl
theorem d_13_191 : am_code 13 191 = some (.iastore, 1) := by decide +kernel
theorem s_13_191 (cl : am_C) (ls : am_Ls) (i : Int) (v : Int) (k : Nat) (st : List am_V) (N : Nat) (I : Nat → Int → Int) (L : Nat → Int → Int64) : am_go0 cl 13 191 ls (.inl v :: .inl i :: .inr (.inr (some k)) :: st) (am_GS N, am_GR, I, L) = if am_inb (am_GS N) k 0 i = true then am_go0 cl 13 192 ls st (am_GS N, am_GR, am_uI I k i v, L) else none := am_rS am_m13 d_13_191 rfl k ls st i v _ _ I L
theorem d_13_192 : am_code 13 192 = some (.aload_n 0, 1) := by decide +kernel
theorem s_13_192 (cl : am_C) (a1 a2 a3 a4 a5 a6 a7 a8 a9 a10 : Option am_V) (x : Nat) (st : List am_V) (h : am_H) : am_go0 cl 13 192 [some (.inr (.inr (some x))), a1, a2, a3, a4, a5, a6, a7, a8, a9, a10] st h = am_go0 cl 13 193 [some (.inr (.inr (some x))), a1, a2, a3, a4, a5, a6, a7, a8, a9, a10] (.inr (.inr (some x)) :: st) h := am_r am_m13 d_13_192 rfl
theorem d_13_193 : am_code 13 193 = some (.getfield 25, 3) := by decide +kernel
theorem s_13_193 (cl : am_C) (ls : am_Ls) (st : List am_V) (N : Nat) (I : Nat → Int → Int) (L : Nat → Int → Int64) : am_go0 cl 13 193 ls (.inr (.inr (some 33)) :: st) (am_GS N, am_GR, I, L) = am_go0 cl 13 196 ls (.inr (.inr (some 37)) :: st) (am_GS N, am_GR, I, L) := am_rG2 am_m13 d_13_193 am_f1025 rfl (gs_33 N) (by decide) gr_33_7 rfl
theorem d_13_196 : am_code 13 196 = some (.iload 8, 2) := by decide +kernel
theorem s_13_196 (cl : am_C) (a0 a1 a2 a3 a4 a5 a6 a7 a9 a10 : Option am_V) (x : Int) (st : List am_V) (h : am_H) : am_go0 cl 13 196 [a0, a1, a2, a3, a4, a5, a6, a7, some (.inl x), a9, a10] st h = am_go0 cl 13 198 [a0, a1, a2, a3, a4, a5, a6, a7, some (.inl x), a9, a10] (.inl x :: st) h := am_r am_m13 d_13_196 rfl
theorem d_13_198 : am_code 13 198 = some (.dup2, 1) := by decide +kernel
theorem s_13_198 (cl : am_C) (ls : am_Ls) (x : Int) (y : Nat) (st : List am_V) (h : am_H) : am_go0 cl 13 198 ls (.inl x :: .inr (.inr (some y)) :: st) h = am_go0 cl 13 199 ls (.inl x :: .inr (.inr (some y)) :: .inl x :: .inr (.inr (some y)) :: st) h := am_r am_m13 d_13_198 rfl
theorem d_13_199 : am_code 13 199 = some (.iaload, 1) := by decide +kernel
theorem s_13_199 (cl : am_C) (ls : am_Ls) (i : Int) (k : Nat) (st : List am_V) (N : Nat) (I : Nat → Int → Int) (L : Nat → Int → Int64) : am_go0 cl 13 199 ls (.inl i :: .inr (.inr (some k)) :: st) (am_GS N, am_GR, I, L) = if am_inb (am_GS N) k 0 i = true then am_go0 cl 13 200 ls (.inl (I k i) :: st) (am_GS N, am_GR, I, L) else none := am_rA am_m13 d_13_199 (by decide) rfl k ls st i _ _ I L
theorem d_13_200 : am_code 13 200 = some (.iconst 1, 1) := by decide +kernel
theorem s_13_200 (cl : am_C) (ls : am_Ls) (st : List am_V) (h : am_H) : am_go0 cl 13 200 ls st h = am_go0 cl 13 201 ls (.inl 1 :: st) h := am_rK am_m13 d_13_200 (by decide) rfl _ _ _
theorem d_13_201 : am_code 13 201 = some (.iadd, 1) := by decide +kernel
theorem s_13_201 (cl : am_C) (ls : am_Ls) (x y : Int) (st : List am_V) (h : am_H) : am_go0 cl 13 201 ls (.inl y :: .inl x :: st) h = am_go0 cl 13 202 ls (.inl (am_wr (x + y)) :: st) h := am_r am_m13 d_13_201 rfl
theorem d_13_202 : am_code 13 202 = some (.iastore, 1) := by decide +kernel
theorem s_13_202 (cl : am_C) (ls : am_Ls) (i : Int) (v : Int) (k : Nat) (st : List am_V) (N : Nat) (I : Nat → Int → Int) (L : Nat → Int → Int64) : am_go0 cl 13 202 ls (.inl v :: .inl i :: .inr (.inr (some k)) :: st) (am_GS N, am_GR, I, L) = if am_inb (am_GS N) k 0 i = true then am_go0 cl 13 203 ls st (am_GS N, am_GR, am_uI I k i v, L) else none := am_rS am_m13 d_13_202 rfl k ls st i v _ _ I L
theorem d_13_203 : am_code 13 203 = some (.iinc 7 1, 3) := by decide +kernel
theorem s_13_203 (cl : am_C) (a0 a1 a2 a3 a4 a5 a6 a8 a9 a10 : Option am_V) (x : Int) (st : List am_V) (h : am_H) : am_go0 cl 13 203 [a0, a1, a2, a3, a4, a5, a6, some (.inl x), a8, a9, a10] st h = am_go0 cl 13 206 [a0, a1, a2, a3, a4, a5, am_c1 a6, some (.inl (am_wr (x + 1))), a8, a9, a10] st h := am_r am_m13 d_13_203 rfl
theorem d_13_206 : am_code 13 206 = some (.goto (-155), 3) := by decide +kernel
theorem s_13_206 (cl : am_C) (ls : am_Ls) (st : List am_V) (h : am_H) : am_go0 cl 13 206 ls st h = am_go0 cl 13 51 ls st h := am_rGo am_m13 d_13_206 (by decide) _ _ _
theorem d_13_209 : am_code 13 209 = some (.iload 5, 2) := by decide +kernel
theorem s_13_209 (cl : am_C) (a0 a1 a2 a3 a4 a6 a7 a8 a9 a10 : Option am_V) (x : Int) (st : List am_V) (h : am_H) : am_go0 cl 13 209 [a0, a1, a2, a3, a4, some (.inl x), a6, a7, a8, a9, a10] st h = am_go0 cl 13 211 [a0, a1, a2, a3, a4, some (.inl x), a6, a7, a8, a9, a10] (.inl x :: st) h := am_r am_m13 d_13_209 rfl
theorem d_13_211 : am_code 13 211 = some (.ireturn, 1) := by decide +kernel
theorem s_13_211 (cl : am_C) (ls : am_Ls) (x : Int) (h : am_H) : am_go0 cl 13 211 ls [.inl x] h = some (some (.inl x), h) := am_rE am_m13 d_13_211 rfl
theorem e_13 (d : Nat) (t : Nat) (p0 : Int) (p1 : Int) (h : am_H) : am_call (d + 1) 13 [.inr (.inr (some t)), .inl p0, .inl p1] h = am_go0 (am_call d) 13 0 [some (.inr (.inr (some t))), some (.inl p0), some (.inl p1), none, none, none, none, none, none, none, none] [] h := am_callE am_m13 (Nat.le_of_ble_eq_true rfl) rfl
theorem d_14_0 : am_code 14 0 = some (.iconst 0, 1) := by decide +kernel
theorem s_14_0 (cl : am_C) (ls : am_Ls) (st : List am_V) (h : am_H) : am_go0 cl 14 0 ls st h = am_go0 cl 14 1 ls (.inl 0 :: st) h := am_rK am_m14 d_14_0 (by decide) rfl _ _ _
theorem d_14_1 : am_code 14 1 = some (.istore_n 3, 1) := by decide +kernel
theorem s_14_1 (cl : am_C) (a0 a1 a2 a3 : Option am_V) (x : Int) (st : List am_V) (h : am_H) : am_go0 cl 14 1 [a0, a1, a2, a3] (.inl x :: st) h = am_go0 cl 14 2 [a0, a1, am_c1 a2, some (.inl x)] st h := am_r am_m14 d_14_1 rfl
theorem d_14_2 : am_code 14 2 = some (.iload_n 3, 1) := by decide +kernel
theorem s_14_2 (cl : am_C) (a0 a1 a2 : Option am_V) (x : Int) (st : List am_V) (h : am_H) : am_go0 cl 14 2 [a0, a1, a2, some (.inl x)] st h = am_go0 cl 14 3 [a0, a1, a2, some (.inl x)] (.inl x :: st) h := am_r am_m14 d_14_2 rfl
theorem d_14_3 : am_code 14 3 = some (.aload_n 0, 1) := by decide +kernel
theorem s_14_3 (cl : am_C) (a1 a2 a3 : Option am_V) (x : Nat) (st : List am_V) (h : am_H) : am_go0 cl 14 3 [some (.inr (.inr (some x))), a1, a2, a3] st h = am_go0 cl 14 4 [some (.inr (.inr (some x))), a1, a2, a3] (.inr (.inr (some x)) :: st) h := am_r am_m14 d_14_3 rfl
theorem d_14_4 : am_code 14 4 = some (.getfield 31, 3) := by decide +kernel
theorem s_14_4 (cl : am_C) (ls : am_Ls) (st : List am_V) (N : Nat) (I : Nat → Int → Int) (L : Nat → Int → Int64) : am_go0 cl 14 4 ls (.inr (.inr (some 33)) :: st) (am_GS N, am_GR, I, L) = am_go0 cl 14 7 ls (.inl (I 33 9) :: st) (am_GS N, am_GR, I, L) := am_rG0 am_m14 d_14_4 am_f1031 rfl (gs_33 N) (by decide) rfl
theorem d_14_7 : am_code 14 7 = some (.if_icmp .ge 31, 3) := by decide +kernel
theorem s_14_7 (cl : am_C) (ls : am_Ls) (x y : Int) (st : List am_V) (h : am_H) : am_go0 cl 14 7 ls (.inl y :: .inl x :: st) h = if x < y then am_go0 cl 14 10 ls st h else am_go0 cl 14 38 ls st h := (am_rJ0 am_m14 d_14_7 (by decide) rfl x y ls st h).trans (am_ifF ((am_cmp_ge x y).trans Int.not_lt.symm) _ _)
theorem d_14_10 : am_code 14 10 = some (.aload_n 0, 1) := by decide +kernel
theorem s_14_10 (cl : am_C) (a1 a2 a3 : Option am_V) (x : Nat) (st : List am_V) (h : am_H) : am_go0 cl 14 10 [some (.inr (.inr (some x))), a1, a2, a3] st h = am_go0 cl 14 11 [some (.inr (.inr (some x))), a1, a2, a3] (.inr (.inr (some x)) :: st) h := am_r am_m14 d_14_10 rfl
theorem d_14_11 : am_code 14 11 = some (.getfield 15, 3) := by decide +kernel
theorem s_14_11 (cl : am_C) (ls : am_Ls) (st : List am_V) (N : Nat) (I : Nat → Int → Int) (L : Nat → Int → Int64) : am_go0 cl 14 11 ls (.inr (.inr (some 33)) :: st) (am_GS N, am_GR, I, L) = am_go0 cl 14 14 ls (.inr (.inr (some 34)) :: st) (am_GS N, am_GR, I, L) := am_rG2 am_m14 d_14_11 am_f1015 rfl (gs_33 N) (by decide) gr_33_4 rfl
theorem d_14_14 : am_code 14 14 = some (.iload_n 3, 1) := by decide +kernel
theorem s_14_14 (cl : am_C) (a0 a1 a2 : Option am_V) (x : Int) (st : List am_V) (h : am_H) : am_go0 cl 14 14 [a0, a1, a2, some (.inl x)] st h = am_go0 cl 14 15 [a0, a1, a2, some (.inl x)] (.inl x :: st) h := am_r am_m14 d_14_14 rfl
theorem d_14_15 : am_code 14 15 = some (.iaload, 1) := by decide +kernel
theorem s_14_15 (cl : am_C) (ls : am_Ls) (i : Int) (k : Nat) (st : List am_V) (N : Nat) (I : Nat → Int → Int) (L : Nat → Int → Int64) : am_go0 cl 14 15 ls (.inl i :: .inr (.inr (some k)) :: st) (am_GS N, am_GR, I, L) = if am_inb (am_GS N) k 0 i = true then am_go0 cl 14 16 ls (.inl (I k i) :: st) (am_GS N, am_GR, I, L) else none := am_rA am_m14 d_14_15 (by decide) rfl k ls st i _ _ I L
theorem d_14_16 : am_code 14 16 = some (.iload_n 1, 1) := by decide +kernel
theorem s_14_16 (cl : am_C) (a0 a2 a3 : Option am_V) (x : Int) (st : List am_V) (h : am_H) : am_go0 cl 14 16 [a0, some (.inl x), a2, a3] st h = am_go0 cl 14 17 [a0, some (.inl x), a2, a3] (.inl x :: st) h := am_r am_m14 d_14_16 rfl
theorem d_14_17 : am_code 14 17 = some (.if_icmp .ne 15, 3) := by decide +kernel
theorem s_14_17 (cl : am_C) (ls : am_Ls) (x y : Int) (st : List am_V) (h : am_H) : am_go0 cl 14 17 ls (.inl y :: .inl x :: st) h = if x = y then am_go0 cl 14 20 ls st h else am_go0 cl 14 32 ls st h := (am_rJ0 am_m14 d_14_17 (by decide) rfl x y ls st h).trans (am_ifF ((am_cmp_ne x y).trans Iff.rfl) _ _)
theorem d_14_20 : am_code 14 20 = some (.aload_n 0, 1) := by decide +kernel
theorem s_14_20 (cl : am_C) (a1 a2 a3 : Option am_V) (x : Nat) (st : List am_V) (h : am_H) : am_go0 cl 14 20 [some (.inr (.inr (some x))), a1, a2, a3] st h = am_go0 cl 14 21 [some (.inr (.inr (some x))), a1, a2, a3] (.inr (.inr (some x)) :: st) h := am_r am_m14 d_14_20 rfl
theorem d_14_21 : am_code 14 21 = some (.getfield 19, 3) := by decide +kernel
theorem s_14_21 (cl : am_C) (ls : am_Ls) (st : List am_V) (N : Nat) (I : Nat → Int → Int) (L : Nat → Int → Int64) : am_go0 cl 14 21 ls (.inr (.inr (some 33)) :: st) (am_GS N, am_GR, I, L) = am_go0 cl 14 24 ls (.inr (.inr (some 35)) :: st) (am_GS N, am_GR, I, L) := am_rG2 am_m14 d_14_21 am_f1019 rfl (gs_33 N) (by decide) gr_33_5 rfl
theorem d_14_24 : am_code 14 24 = some (.iload_n 3, 1) := by decide +kernel
theorem s_14_24 (cl : am_C) (a0 a1 a2 : Option am_V) (x : Int) (st : List am_V) (h : am_H) : am_go0 cl 14 24 [a0, a1, a2, some (.inl x)] st h = am_go0 cl 14 25 [a0, a1, a2, some (.inl x)] (.inl x :: st) h := am_r am_m14 d_14_24 rfl
theorem d_14_25 : am_code 14 25 = some (.iaload, 1) := by decide +kernel
theorem s_14_25 (cl : am_C) (ls : am_Ls) (i : Int) (k : Nat) (st : List am_V) (N : Nat) (I : Nat → Int → Int) (L : Nat → Int → Int64) : am_go0 cl 14 25 ls (.inl i :: .inr (.inr (some k)) :: st) (am_GS N, am_GR, I, L) = if am_inb (am_GS N) k 0 i = true then am_go0 cl 14 26 ls (.inl (I k i) :: st) (am_GS N, am_GR, I, L) else none := am_rA am_m14 d_14_25 (by decide) rfl k ls st i _ _ I L
theorem d_14_26 : am_code 14 26 = some (.iload_n 2, 1) := by decide +kernel
theorem s_14_26 (cl : am_C) (a0 a1 a3 : Option am_V) (x : Int) (st : List am_V) (h : am_H) : am_go0 cl 14 26 [a0, a1, some (.inl x), a3] st h = am_go0 cl 14 27 [a0, a1, some (.inl x), a3] (.inl x :: st) h := am_r am_m14 d_14_26 rfl
theorem d_14_27 : am_code 14 27 = some (.if_icmp .ne 5, 3) := by decide +kernel
theorem s_14_27 (cl : am_C) (ls : am_Ls) (x y : Int) (st : List am_V) (h : am_H) : am_go0 cl 14 27 ls (.inl y :: .inl x :: st) h = if x = y then am_go0 cl 14 30 ls st h else am_go0 cl 14 32 ls st h := (am_rJ0 am_m14 d_14_27 (by decide) rfl x y ls st h).trans (am_ifF ((am_cmp_ne x y).trans Iff.rfl) _ _)
theorem d_14_30 : am_code 14 30 = some (.iload_n 3, 1) := by decide +kernel
theorem s_14_30 (cl : am_C) (a0 a1 a2 : Option am_V) (x : Int) (st : List am_V) (h : am_H) : am_go0 cl 14 30 [a0, a1, a2, some (.inl x)] st h = am_go0 cl 14 31 [a0, a1, a2, some (.inl x)] (.inl x :: st) h := am_r am_m14 d_14_30 rfl
theorem d_14_31 : am_code 14 31 = some (.ireturn, 1) := by decide +kernel
theorem s_14_31 (cl : am_C) (ls : am_Ls) (x : Int) (h : am_H) : am_go0 cl 14 31 ls [.inl x] h = some (some (.inl x), h) := am_rE am_m14 d_14_31 rfl
theorem d_14_32 : am_code 14 32 = some (.iinc 3 1, 3) := by decide +kernel
theorem s_14_32 (cl : am_C) (a0 a1 a2 : Option am_V) (x : Int) (st : List am_V) (h : am_H) : am_go0 cl 14 32 [a0, a1, a2, some (.inl x)] st h = am_go0 cl 14 35 [a0, a1, am_c1 a2, some (.inl (am_wr (x + 1)))] st h := am_r am_m14 d_14_32 rfl
theorem d_14_35 : am_code 14 35 = some (.goto (-33), 3) := by decide +kernel
theorem s_14_35 (cl : am_C) (ls : am_Ls) (st : List am_V) (h : am_H) : am_go0 cl 14 35 ls st h = am_go0 cl 14 2 ls st h := am_rGo am_m14 d_14_35 (by decide) _ _ _
theorem d_14_38 : am_code 14 38 = some (.iconst (-1), 1) := by decide +kernel
theorem s_14_38 (cl : am_C) (ls : am_Ls) (st : List am_V) (h : am_H) : am_go0 cl 14 38 ls st h = am_go0 cl 14 39 ls (.inl (-1) :: st) h := am_rK am_m14 d_14_38 (by decide) rfl _ _ _
theorem d_14_39 : am_code 14 39 = some (.ireturn, 1) := by decide +kernel
theorem s_14_39 (cl : am_C) (ls : am_Ls) (x : Int) (h : am_H) : am_go0 cl 14 39 ls [.inl x] h = some (some (.inl x), h) := am_rE am_m14 d_14_39 rfl
theorem e_14 (d : Nat) (t : Nat) (p0 : Int) (p1 : Int) (h : am_H) : am_call (d + 1) 14 [.inr (.inr (some t)), .inl p0, .inl p1] h = am_go0 (am_call d) 14 0 [some (.inr (.inr (some t))), some (.inl p0), some (.inl p1), none] [] h := am_callE am_m14 (Nat.le_of_ble_eq_true rfl) rfl
theorem d_15_0 : am_code 15 0 = some (.aload_n 0, 1) := by decide +kernel
theorem s_15_0 (cl : am_C) (a1 a2 a3 : Option am_V) (x : Nat) (st : List am_V) (h : am_H) : am_go0 cl 15 0 [some (.inr (.inr (some x))), a1, a2, a3] st h = am_go0 cl 15 1 [some (.inr (.inr (some x))), a1, a2, a3] (.inr (.inr (some x)) :: st) h := am_r am_m15 d_15_0 rfl
theorem d_15_1 : am_code 15 1 = some (.getfield 56, 3) := by decide +kernel
theorem s_15_1 (cl : am_C) (ls : am_Ls) (st : List am_V) (N : Nat) (I : Nat → Int → Int) (L : Nat → Int → Int64) : am_go0 cl 15 1 ls (.inr (.inr (some 33)) :: st) (am_GS N, am_GR, I, L) = am_go0 cl 15 4 ls (.inr (.inr (some 15)) :: st) (am_GS N, am_GR, I, L) := am_rG2 am_m15 d_15_1 am_f1056 rfl (gs_33 N) (by decide) gr_33_2 rfl
theorem d_15_4 : am_code 15 4 = some (.iload_n 1, 1) := by decide +kernel
theorem s_15_4 (cl : am_C) (a0 a2 a3 : Option am_V) (x : Int) (st : List am_V) (h : am_H) : am_go0 cl 15 4 [a0, some (.inl x), a2, a3] st h = am_go0 cl 15 5 [a0, some (.inl x), a2, a3] (.inl x :: st) h := am_r am_m15 d_15_4 rfl
theorem d_15_5 : am_code 15 5 = some (.aload_n 0, 1) := by decide +kernel
theorem s_15_5 (cl : am_C) (a1 a2 a3 : Option am_V) (x : Nat) (st : List am_V) (h : am_H) : am_go0 cl 15 5 [some (.inr (.inr (some x))), a1, a2, a3] st h = am_go0 cl 15 6 [some (.inr (.inr (some x))), a1, a2, a3] (.inr (.inr (some x)) :: st) h := am_r am_m15 d_15_5 rfl
theorem d_15_6 : am_code 15 6 = some (.getfield 48, 3) := by decide +kernel
theorem s_15_6 (cl : am_C) (ls : am_Ls) (st : List am_V) (N : Nat) (I : Nat → Int → Int) (L : Nat → Int → Int64) : am_go0 cl 15 6 ls (.inr (.inr (some 33)) :: st) (am_GS N, am_GR, I, L) = am_go0 cl 15 9 ls (.inr (.inr (some 2)) :: st) (am_GS N, am_GR, I, L) := am_rG2 am_m15 d_15_6 am_f1048 rfl (gs_33 N) (by decide) gr_33_0 rfl
theorem d_15_9 : am_code 15 9 = some (.iload_n 2, 1) := by decide +kernel
theorem s_15_9 (cl : am_C) (a0 a1 a3 : Option am_V) (x : Int) (st : List am_V) (h : am_H) : am_go0 cl 15 9 [a0, a1, some (.inl x), a3] st h = am_go0 cl 15 10 [a0, a1, some (.inl x), a3] (.inl x :: st) h := am_r am_m15 d_15_9 rfl
theorem d_15_10 : am_code 15 10 = some (.invokevirtual 90, 3) := by decide +kernel
theorem s_15_10 (cl : am_C) (ls : am_Ls) (x0 : Int) (z0 : Int) (z1 : Nat) (N : Nat) (I : Nat → Int → Int) (L : Nat → Int → Int64) : am_go0 cl 15 10 ls [.inl x0, .inr (.inr (some 2)), .inl z0, .inr (.inr (some z1))] (am_GS N, am_GR, I, L) = am_bd (cl 79 [.inr (.inr (some 2)), .inl x0] (am_GS N, am_GR, I, L)) (fun v h2 => am_go0 cl 15 13 ls (v.toList ++ [.inl z0, .inr (.inr (some z1))]) h2) := am_rV am_m15 d_15_10 am_k1090 rfl am_m79 (gs_2 N) (by decide) (Nat.le_of_ble_eq_true rfl) rfl ls
theorem d_15_13 : am_code 15 13 = some (.invokevirtual 95, 3) := by decide +kernel
theorem s_15_13 (cl : am_C) (ls : am_Ls) (x0 : Int) (x1 : Int) (N : Nat) (I : Nat → Int → Int) (L : Nat → Int → Int64) : am_go0 cl 15 13 ls [.inl x1, .inl x0, .inr (.inr (some 15))] (am_GS N, am_GR, I, L) = am_bd (cl 31 [.inr (.inr (some 15)), .inl x0, .inl x1] (am_GS N, am_GR, I, L)) (fun v h2 => am_go0 cl 15 16 ls (v.toList ++ []) h2) := am_rV am_m15 d_15_13 am_k1095 rfl am_m31 (gs_15 N) (by decide) (Nat.le_of_ble_eq_true rfl) rfl ls
theorem d_15_16 : am_code 15 16 = some (.istore_n 3, 1) := by decide +kernel
theorem s_15_16 (cl : am_C) (a0 a1 a2 a3 : Option am_V) (x : Int) (st : List am_V) (h : am_H) : am_go0 cl 15 16 [a0, a1, a2, a3] (.inl x :: st) h = am_go0 cl 15 17 [a0, a1, am_c1 a2, some (.inl x)] st h := am_r am_m15 d_15_16 rfl
theorem d_15_17 : am_code 15 17 = some (.iload_n 3, 1) := by decide +kernel
theorem s_15_17 (cl : am_C) (a0 a1 a2 : Option am_V) (x : Int) (st : List am_V) (h : am_H) : am_go0 cl 15 17 [a0, a1, a2, some (.inl x)] st h = am_go0 cl 15 18 [a0, a1, a2, some (.inl x)] (.inl x :: st) h := am_r am_m15 d_15_17 rfl
theorem d_15_18 : am_code 15 18 = some (.iconst (-1), 1) := by decide +kernel
theorem s_15_18 (cl : am_C) (ls : am_Ls) (st : List am_V) (h : am_H) : am_go0 cl 15 18 ls st h = am_go0 cl 15 19 ls (.inl (-1) :: st) h := am_rK am_m15 d_15_18 (by decide) rfl _ _ _
theorem d_15_19 : am_code 15 19 = some (.if_icmp .ne 16, 3) := by decide +kernel
theorem s_15_19 (cl : am_C) (ls : am_Ls) (x y : Int) (st : List am_V) (h : am_H) : am_go0 cl 15 19 ls (.inl y :: .inl x :: st) h = if x = y then am_go0 cl 15 22 ls st h else am_go0 cl 15 35 ls st h := (am_rJ0 am_m15 d_15_19 (by decide) rfl x y ls st h).trans (am_ifF ((am_cmp_ne x y).trans Iff.rfl) _ _)
theorem d_15_22 : am_code 15 22 = some (.aload_n 0, 1) := by decide +kernel
theorem s_15_22 (cl : am_C) (a1 a2 a3 : Option am_V) (x : Nat) (st : List am_V) (h : am_H) : am_go0 cl 15 22 [some (.inr (.inr (some x))), a1, a2, a3] st h = am_go0 cl 15 23 [some (.inr (.inr (some x))), a1, a2, a3] (.inr (.inr (some x)) :: st) h := am_r am_m15 d_15_22 rfl
theorem d_15_23 : am_code 15 23 = some (.iload_n 1, 1) := by decide +kernel
theorem s_15_23 (cl : am_C) (a0 a2 a3 : Option am_V) (x : Int) (st : List am_V) (h : am_H) : am_go0 cl 15 23 [a0, some (.inl x), a2, a3] st h = am_go0 cl 15 24 [a0, some (.inl x), a2, a3] (.inl x :: st) h := am_r am_m15 d_15_23 rfl
theorem d_15_24 : am_code 15 24 = some (.putfield 35, 3) := by decide +kernel
theorem s_15_24 (cl : am_C) (ls : am_Ls) (v : Int) (st : List am_V) (N : Nat) (I : Nat → Int → Int) (L : Nat → Int → Int64) : am_go0 cl 15 24 ls (.inl v :: .inr (.inr (some 33)) :: st) (am_GS N, am_GR, I, L) = am_go0 cl 15 27 ls st (am_GS N, am_GR, am_uI I 33 10 v, L) := am_rP0 am_m15 d_15_24 am_f1035 rfl (gs_33 N) (by decide) rfl
theorem d_15_27 : am_code 15 27 = some (.aload_n 0, 1) := by decide +kernel
theorem s_15_27 (cl : am_C) (a1 a2 a3 : Option am_V) (x : Nat) (st : List am_V) (h : am_H) : am_go0 cl 15 27 [some (.inr (.inr (some x))), a1, a2, a3] st h = am_go0 cl 15 28 [some (.inr (.inr (some x))), a1, a2, a3] (.inr (.inr (some x)) :: st) h := am_r am_m15 d_15_27 rfl
theorem d_15_28 : am_code 15 28 = some (.iload_n 2, 1) := by decide +kernel
theorem s_15_28 (cl : am_C) (a0 a1 a3 : Option am_V) (x : Int) (st : List am_V) (h : am_H) : am_go0 cl 15 28 [a0, a1, some (.inl x), a3] st h = am_go0 cl 15 29 [a0, a1, some (.inl x), a3] (.inl x :: st) h := am_r am_m15 d_15_28 rfl
theorem d_15_29 : am_code 15 29 = some (.putfield 38, 3) := by decide +kernel
theorem s_15_29 (cl : am_C) (ls : am_Ls) (v : Int) (st : List am_V) (N : Nat) (I : Nat → Int → Int) (L : Nat → Int → Int64) : am_go0 cl 15 29 ls (.inl v :: .inr (.inr (some 33)) :: st) (am_GS N, am_GR, I, L) = am_go0 cl 15 32 ls st (am_GS N, am_GR, am_uI I 33 11 v, L) := am_rP0 am_m15 d_15_29 am_f1038 rfl (gs_33 N) (by decide) rfl
theorem d_15_32 : am_code 15 32 = some (.bipush (-4), 2) := by decide +kernel
theorem s_15_32 (cl : am_C) (ls : am_Ls) (st : List am_V) (h : am_H) : am_go0 cl 15 32 ls st h = am_go0 cl 15 34 ls (.inl (-4) :: st) h := am_rB am_m15 d_15_32 (by decide) rfl _ _ _
theorem d_15_34 : am_code 15 34 = some (.ireturn, 1) := by decide +kernel
theorem s_15_34 (cl : am_C) (ls : am_Ls) (x : Int) (h : am_H) : am_go0 cl 15 34 ls [.inl x] h = some (some (.inl x), h) := am_rE am_m15 d_15_34 rfl
theorem d_15_35 : am_code 15 35 = some (.aload_n 0, 1) := by decide +kernel
theorem s_15_35 (cl : am_C) (a1 a2 a3 : Option am_V) (x : Nat) (st : List am_V) (h : am_H) : am_go0 cl 15 35 [some (.inr (.inr (some x))), a1, a2, a3] st h = am_go0 cl 15 36 [some (.inr (.inr (some x))), a1, a2, a3] (.inr (.inr (some x)) :: st) h := am_r am_m15 d_15_35 rfl
theorem d_15_36 : am_code 15 36 = some (.getfield 31, 3) := by decide +kernel
theorem s_15_36 (cl : am_C) (ls : am_Ls) (st : List am_V) (N : Nat) (I : Nat → Int → Int) (L : Nat → Int → Int64) : am_go0 cl 15 36 ls (.inr (.inr (some 33)) :: st) (am_GS N, am_GR, I, L) = am_go0 cl 15 39 ls (.inl (I 33 9) :: st) (am_GS N, am_GR, I, L) := am_rG0 am_m15 d_15_36 am_f1031 rfl (gs_33 N) (by decide) rfl
theorem d_15_39 : am_code 15 39 = some (.bipush 60, 2) := by decide +kernel
theorem s_15_39 (cl : am_C) (ls : am_Ls) (st : List am_V) (h : am_H) : am_go0 cl 15 39 ls st h = am_go0 cl 15 41 ls (.inl 60 :: st) h := am_rB am_m15 d_15_39 (by decide) rfl _ _ _
theorem d_15_41 : am_code 15 41 = some (.if_icmp .lt 6, 3) := by decide +kernel
theorem s_15_41 (cl : am_C) (ls : am_Ls) (x y : Int) (st : List am_V) (h : am_H) : am_go0 cl 15 41 ls (.inl y :: .inl x :: st) h = if x < y then am_go0 cl 15 47 ls st h else am_go0 cl 15 44 ls st h := (am_rJ0 am_m15 d_15_41 (by decide) rfl x y ls st h).trans (am_ifT (am_cmp_lt x y) _ _)
theorem d_15_44 : am_code 15 44 = some (.bipush (-3), 2) := by decide +kernel
theorem s_15_44 (cl : am_C) (ls : am_Ls) (st : List am_V) (h : am_H) : am_go0 cl 15 44 ls st h = am_go0 cl 15 46 ls (.inl (-3) :: st) h := am_rB am_m15 d_15_44 (by decide) rfl _ _ _
theorem d_15_46 : am_code 15 46 = some (.ireturn, 1) := by decide +kernel
theorem s_15_46 (cl : am_C) (ls : am_Ls) (x : Int) (h : am_H) : am_go0 cl 15 46 ls [.inl x] h = some (some (.inl x), h) := am_rE am_m15 d_15_46 rfl
theorem d_15_47 : am_code 15 47 = some (.aload_n 0, 1) := by decide +kernel
theorem s_15_47 (cl : am_C) (a1 a2 a3 : Option am_V) (x : Nat) (st : List am_V) (h : am_H) : am_go0 cl 15 47 [some (.inr (.inr (some x))), a1, a2, a3] st h = am_go0 cl 15 48 [some (.inr (.inr (some x))), a1, a2, a3] (.inr (.inr (some x)) :: st) h := am_r am_m15 d_15_47 rfl
theorem d_15_48 : am_code 15 48 = some (.getfield 15, 3) := by decide +kernel
theorem s_15_48 (cl : am_C) (ls : am_Ls) (st : List am_V) (N : Nat) (I : Nat → Int → Int) (L : Nat → Int → Int64) : am_go0 cl 15 48 ls (.inr (.inr (some 33)) :: st) (am_GS N, am_GR, I, L) = am_go0 cl 15 51 ls (.inr (.inr (some 34)) :: st) (am_GS N, am_GR, I, L) := am_rG2 am_m15 d_15_48 am_f1015 rfl (gs_33 N) (by decide) gr_33_4 rfl
theorem d_15_51 : am_code 15 51 = some (.aload_n 0, 1) := by decide +kernel
theorem s_15_51 (cl : am_C) (a1 a2 a3 : Option am_V) (x : Nat) (st : List am_V) (h : am_H) : am_go0 cl 15 51 [some (.inr (.inr (some x))), a1, a2, a3] st h = am_go0 cl 15 52 [some (.inr (.inr (some x))), a1, a2, a3] (.inr (.inr (some x)) :: st) h := am_r am_m15 d_15_51 rfl
theorem d_15_52 : am_code 15 52 = some (.getfield 31, 3) := by decide +kernel
theorem s_15_52 (cl : am_C) (ls : am_Ls) (st : List am_V) (N : Nat) (I : Nat → Int → Int) (L : Nat → Int → Int64) : am_go0 cl 15 52 ls (.inr (.inr (some 33)) :: st) (am_GS N, am_GR, I, L) = am_go0 cl 15 55 ls (.inl (I 33 9) :: st) (am_GS N, am_GR, I, L) := am_rG0 am_m15 d_15_52 am_f1031 rfl (gs_33 N) (by decide) rfl
theorem d_15_55 : am_code 15 55 = some (.iload_n 1, 1) := by decide +kernel
theorem s_15_55 (cl : am_C) (a0 a2 a3 : Option am_V) (x : Int) (st : List am_V) (h : am_H) : am_go0 cl 15 55 [a0, some (.inl x), a2, a3] st h = am_go0 cl 15 56 [a0, some (.inl x), a2, a3] (.inl x :: st) h := am_r am_m15 d_15_55 rfl
theorem d_15_56 : am_code 15 56 = some (.iastore, 1) := by decide +kernel
theorem s_15_56 (cl : am_C) (ls : am_Ls) (i : Int) (v : Int) (k : Nat) (st : List am_V) (N : Nat) (I : Nat → Int → Int) (L : Nat → Int → Int64) : am_go0 cl 15 56 ls (.inl v :: .inl i :: .inr (.inr (some k)) :: st) (am_GS N, am_GR, I, L) = if am_inb (am_GS N) k 0 i = true then am_go0 cl 15 57 ls st (am_GS N, am_GR, am_uI I k i v, L) else none := am_rS am_m15 d_15_56 rfl k ls st i v _ _ I L
theorem d_15_57 : am_code 15 57 = some (.aload_n 0, 1) := by decide +kernel
theorem s_15_57 (cl : am_C) (a1 a2 a3 : Option am_V) (x : Nat) (st : List am_V) (h : am_H) : am_go0 cl 15 57 [some (.inr (.inr (some x))), a1, a2, a3] st h = am_go0 cl 15 58 [some (.inr (.inr (some x))), a1, a2, a3] (.inr (.inr (some x)) :: st) h := am_r am_m15 d_15_57 rfl
theorem d_15_58 : am_code 15 58 = some (.getfield 19, 3) := by decide +kernel
theorem s_15_58 (cl : am_C) (ls : am_Ls) (st : List am_V) (N : Nat) (I : Nat → Int → Int) (L : Nat → Int → Int64) : am_go0 cl 15 58 ls (.inr (.inr (some 33)) :: st) (am_GS N, am_GR, I, L) = am_go0 cl 15 61 ls (.inr (.inr (some 35)) :: st) (am_GS N, am_GR, I, L) := am_rG2 am_m15 d_15_58 am_f1019 rfl (gs_33 N) (by decide) gr_33_5 rfl
theorem d_15_61 : am_code 15 61 = some (.aload_n 0, 1) := by decide +kernel
theorem s_15_61 (cl : am_C) (a1 a2 a3 : Option am_V) (x : Nat) (st : List am_V) (h : am_H) : am_go0 cl 15 61 [some (.inr (.inr (some x))), a1, a2, a3] st h = am_go0 cl 15 62 [some (.inr (.inr (some x))), a1, a2, a3] (.inr (.inr (some x)) :: st) h := am_r am_m15 d_15_61 rfl
theorem d_15_62 : am_code 15 62 = some (.getfield 31, 3) := by decide +kernel
theorem s_15_62 (cl : am_C) (ls : am_Ls) (st : List am_V) (N : Nat) (I : Nat → Int → Int) (L : Nat → Int → Int64) : am_go0 cl 15 62 ls (.inr (.inr (some 33)) :: st) (am_GS N, am_GR, I, L) = am_go0 cl 15 65 ls (.inl (I 33 9) :: st) (am_GS N, am_GR, I, L) := am_rG0 am_m15 d_15_62 am_f1031 rfl (gs_33 N) (by decide) rfl
theorem d_15_65 : am_code 15 65 = some (.iload_n 2, 1) := by decide +kernel
theorem s_15_65 (cl : am_C) (a0 a1 a3 : Option am_V) (x : Int) (st : List am_V) (h : am_H) : am_go0 cl 15 65 [a0, a1, some (.inl x), a3] st h = am_go0 cl 15 66 [a0, a1, some (.inl x), a3] (.inl x :: st) h := am_r am_m15 d_15_65 rfl
theorem d_15_66 : am_code 15 66 = some (.iastore, 1) := by decide +kernel
theorem s_15_66 (cl : am_C) (ls : am_Ls) (i : Int) (v : Int) (k : Nat) (st : List am_V) (N : Nat) (I : Nat → Int → Int) (L : Nat → Int → Int64) : am_go0 cl 15 66 ls (.inl v :: .inl i :: .inr (.inr (some k)) :: st) (am_GS N, am_GR, I, L) = if am_inb (am_GS N) k 0 i = true then am_go0 cl 15 67 ls st (am_GS N, am_GR, am_uI I k i v, L) else none := am_rS am_m15 d_15_66 rfl k ls st i v _ _ I L
theorem d_15_67 : am_code 15 67 = some (.aload_n 0, 1) := by decide +kernel
theorem s_15_67 (cl : am_C) (a1 a2 a3 : Option am_V) (x : Nat) (st : List am_V) (h : am_H) : am_go0 cl 15 67 [some (.inr (.inr (some x))), a1, a2, a3] st h = am_go0 cl 15 68 [some (.inr (.inr (some x))), a1, a2, a3] (.inr (.inr (some x)) :: st) h := am_r am_m15 d_15_67 rfl
theorem d_15_68 : am_code 15 68 = some (.getfield 22, 3) := by decide +kernel
theorem s_15_68 (cl : am_C) (ls : am_Ls) (st : List am_V) (N : Nat) (I : Nat → Int → Int) (L : Nat → Int → Int64) : am_go0 cl 15 68 ls (.inr (.inr (some 33)) :: st) (am_GS N, am_GR, I, L) = am_go0 cl 15 71 ls (.inr (.inr (some 36)) :: st) (am_GS N, am_GR, I, L) := am_rG2 am_m15 d_15_68 am_f1022 rfl (gs_33 N) (by decide) gr_33_6 rfl
theorem d_15_71 : am_code 15 71 = some (.aload_n 0, 1) := by decide +kernel
theorem s_15_71 (cl : am_C) (a1 a2 a3 : Option am_V) (x : Nat) (st : List am_V) (h : am_H) : am_go0 cl 15 71 [some (.inr (.inr (some x))), a1, a2, a3] st h = am_go0 cl 15 72 [some (.inr (.inr (some x))), a1, a2, a3] (.inr (.inr (some x)) :: st) h := am_r am_m15 d_15_71 rfl
theorem d_15_72 : am_code 15 72 = some (.getfield 31, 3) := by decide +kernel
theorem s_15_72 (cl : am_C) (ls : am_Ls) (st : List am_V) (N : Nat) (I : Nat → Int → Int) (L : Nat → Int → Int64) : am_go0 cl 15 72 ls (.inr (.inr (some 33)) :: st) (am_GS N, am_GR, I, L) = am_go0 cl 15 75 ls (.inl (I 33 9) :: st) (am_GS N, am_GR, I, L) := am_rG0 am_m15 d_15_72 am_f1031 rfl (gs_33 N) (by decide) rfl
theorem d_15_75 : am_code 15 75 = some (.iload_n 3, 1) := by decide +kernel
theorem s_15_75 (cl : am_C) (a0 a1 a2 : Option am_V) (x : Int) (st : List am_V) (h : am_H) : am_go0 cl 15 75 [a0, a1, a2, some (.inl x)] st h = am_go0 cl 15 76 [a0, a1, a2, some (.inl x)] (.inl x :: st) h := am_r am_m15 d_15_75 rfl
theorem d_15_76 : am_code 15 76 = some (.iastore, 1) := by decide +kernel
theorem s_15_76 (cl : am_C) (ls : am_Ls) (i : Int) (v : Int) (k : Nat) (st : List am_V) (N : Nat) (I : Nat → Int → Int) (L : Nat → Int → Int64) : am_go0 cl 15 76 ls (.inl v :: .inl i :: .inr (.inr (some k)) :: st) (am_GS N, am_GR, I, L) = if am_inb (am_GS N) k 0 i = true then am_go0 cl 15 77 ls st (am_GS N, am_GR, am_uI I k i v, L) else none := am_rS am_m15 d_15_76 rfl k ls st i v _ _ I L
theorem d_15_77 : am_code 15 77 = some (.aload_n 0, 1) := by decide +kernel
theorem s_15_77 (cl : am_C) (a1 a2 a3 : Option am_V) (x : Nat) (st : List am_V) (h : am_H) : am_go0 cl 15 77 [some (.inr (.inr (some x))), a1, a2, a3] st h = am_go0 cl 15 78 [some (.inr (.inr (some x))), a1, a2, a3] (.inr (.inr (some x)) :: st) h := am_r am_m15 d_15_77 rfl
theorem d_15_78 : am_code 15 78 = some (.getfield 25, 3) := by decide +kernel
theorem s_15_78 (cl : am_C) (ls : am_Ls) (st : List am_V) (N : Nat) (I : Nat → Int → Int) (L : Nat → Int → Int64) : am_go0 cl 15 78 ls (.inr (.inr (some 33)) :: st) (am_GS N, am_GR, I, L) = am_go0 cl 15 81 ls (.inr (.inr (some 37)) :: st) (am_GS N, am_GR, I, L) := am_rG2 am_m15 d_15_78 am_f1025 rfl (gs_33 N) (by decide) gr_33_7 rfl
theorem d_15_81 : am_code 15 81 = some (.aload_n 0, 1) := by decide +kernel
theorem s_15_81 (cl : am_C) (a1 a2 a3 : Option am_V) (x : Nat) (st : List am_V) (h : am_H) : am_go0 cl 15 81 [some (.inr (.inr (some x))), a1, a2, a3] st h = am_go0 cl 15 82 [some (.inr (.inr (some x))), a1, a2, a3] (.inr (.inr (some x)) :: st) h := am_r am_m15 d_15_81 rfl
theorem d_15_82 : am_code 15 82 = some (.getfield 31, 3) := by decide +kernel
theorem s_15_82 (cl : am_C) (ls : am_Ls) (st : List am_V) (N : Nat) (I : Nat → Int → Int) (L : Nat → Int → Int64) : am_go0 cl 15 82 ls (.inr (.inr (some 33)) :: st) (am_GS N, am_GR, I, L) = am_go0 cl 15 85 ls (.inl (I 33 9) :: st) (am_GS N, am_GR, I, L) := am_rG0 am_m15 d_15_82 am_f1031 rfl (gs_33 N) (by decide) rfl
theorem d_15_85 : am_code 15 85 = some (.iconst 0, 1) := by decide +kernel
theorem s_15_85 (cl : am_C) (ls : am_Ls) (st : List am_V) (h : am_H) : am_go0 cl 15 85 ls st h = am_go0 cl 15 86 ls (.inl 0 :: st) h := am_rK am_m15 d_15_85 (by decide) rfl _ _ _
theorem d_15_86 : am_code 15 86 = some (.iastore, 1) := by decide +kernel
theorem s_15_86 (cl : am_C) (ls : am_Ls) (i : Int) (v : Int) (k : Nat) (st : List am_V) (N : Nat) (I : Nat → Int → Int) (L : Nat → Int → Int64) : am_go0 cl 15 86 ls (.inl v :: .inl i :: .inr (.inr (some k)) :: st) (am_GS N, am_GR, I, L) = if am_inb (am_GS N) k 0 i = true then am_go0 cl 15 87 ls st (am_GS N, am_GR, am_uI I k i v, L) else none := am_rS am_m15 d_15_86 rfl k ls st i v _ _ I L
theorem d_15_87 : am_code 15 87 = some (.aload_n 0, 1) := by decide +kernel
theorem s_15_87 (cl : am_C) (a1 a2 a3 : Option am_V) (x : Nat) (st : List am_V) (h : am_H) : am_go0 cl 15 87 [some (.inr (.inr (some x))), a1, a2, a3] st h = am_go0 cl 15 88 [some (.inr (.inr (some x))), a1, a2, a3] (.inr (.inr (some x)) :: st) h := am_r am_m15 d_15_87 rfl
theorem d_15_88 : am_code 15 88 = some (.getfield 60, 3) := by decide +kernel
theorem s_15_88 (cl : am_C) (ls : am_Ls) (st : List am_V) (N : Nat) (I : Nat → Int → Int) (L : Nat → Int → Int64) : am_go0 cl 15 88 ls (.inr (.inr (some 33)) :: st) (am_GS N, am_GR, I, L) = am_go0 cl 15 91 ls (.inr (.inr (some 29)) :: st) (am_GS N, am_GR, I, L) := am_rG2 am_m15 d_15_88 am_f1060 rfl (gs_33 N) (by decide) gr_33_3 rfl
theorem d_15_91 : am_code 15 91 = some (.aload_n 0, 1) := by decide +kernel
theorem s_15_91 (cl : am_C) (a1 a2 a3 : Option am_V) (x : Nat) (st : List am_V) (h : am_H) : am_go0 cl 15 91 [some (.inr (.inr (some x))), a1, a2, a3] st h = am_go0 cl 15 92 [some (.inr (.inr (some x))), a1, a2, a3] (.inr (.inr (some x)) :: st) h := am_r am_m15 d_15_91 rfl
theorem d_15_92 : am_code 15 92 = some (.getfield 31, 3) := by decide +kernel
theorem s_15_92 (cl : am_C) (ls : am_Ls) (st : List am_V) (N : Nat) (I : Nat → Int → Int) (L : Nat → Int → Int64) : am_go0 cl 15 92 ls (.inr (.inr (some 33)) :: st) (am_GS N, am_GR, I, L) = am_go0 cl 15 95 ls (.inl (I 33 9) :: st) (am_GS N, am_GR, I, L) := am_rG0 am_m15 d_15_92 am_f1031 rfl (gs_33 N) (by decide) rfl
theorem d_15_95 : am_code 15 95 = some (.invokevirtual 96, 3) := by decide +kernel
theorem s_15_95 (cl : am_C) (ls : am_Ls) (x0 : Int) (N : Nat) (I : Nat → Int → Int) (L : Nat → Int → Int64) : am_go0 cl 15 95 ls [.inl x0, .inr (.inr (some 29))] (am_GS N, am_GR, I, L) = am_bd (cl 87 [.inr (.inr (some 29)), .inl x0] (am_GS N, am_GR, I, L)) (fun v h2 => am_go0 cl 15 98 ls (v.toList ++ []) h2) := am_rV am_m15 d_15_95 am_k1096 rfl am_m87 (gs_29 N) (by decide) (Nat.le_of_ble_eq_true rfl) rfl ls
theorem d_15_98 : am_code 15 98 = some (.aload_n 0, 1) := by decide +kernel
theorem s_15_98 (cl : am_C) (a1 a2 a3 : Option am_V) (x : Nat) (st : List am_V) (h : am_H) : am_go0 cl 15 98 [some (.inr (.inr (some x))), a1, a2, a3] st h = am_go0 cl 15 99 [some (.inr (.inr (some x))), a1, a2, a3] (.inr (.inr (some x)) :: st) h := am_r am_m15 d_15_98 rfl
theorem d_15_99 : am_code 15 99 = some (.dup, 1) := by decide +kernel
theorem s_15_99 (cl : am_C) (ls : am_Ls) (x : Nat) (st : List am_V) (h : am_H) : am_go0 cl 15 99 ls (.inr (.inr (some x)) :: st) h = am_go0 cl 15 100 ls (.inr (.inr (some x)) :: .inr (.inr (some x)) :: st) h := am_r am_m15 d_15_99 rfl
theorem d_15_100 : am_code 15 100 = some (.getfield 31, 3) := by decide +kernel
theorem s_15_100 (cl : am_C) (ls : am_Ls) (st : List am_V) (N : Nat) (I : Nat → Int → Int) (L : Nat → Int → Int64) : am_go0 cl 15 100 ls (.inr (.inr (some 33)) :: st) (am_GS N, am_GR, I, L) = am_go0 cl 15 103 ls (.inl (I 33 9) :: st) (am_GS N, am_GR, I, L) := am_rG0 am_m15 d_15_100 am_f1031 rfl (gs_33 N) (by decide) rfl
theorem d_15_103 : am_code 15 103 = some (.dup_x1, 1) := by decide +kernel
theorem s_15_103 (cl : am_C) (ls : am_Ls) (x : Int) (y : Nat) (st : List am_V) (h : am_H) : am_go0 cl 15 103 ls (.inl x :: .inr (.inr (some y)) :: st) h = am_go0 cl 15 104 ls (.inl x :: .inr (.inr (some y)) :: .inl x :: st) h := am_r am_m15 d_15_103 rfl
theorem d_15_104 : am_code 15 104 = some (.iconst 1, 1) := by decide +kernel
theorem s_15_104 (cl : am_C) (ls : am_Ls) (st : List am_V) (h : am_H) : am_go0 cl 15 104 ls st h = am_go0 cl 15 105 ls (.inl 1 :: st) h := am_rK am_m15 d_15_104 (by decide) rfl _ _ _
theorem d_15_105 : am_code 15 105 = some (.iadd, 1) := by decide +kernel
theorem s_15_105 (cl : am_C) (ls : am_Ls) (x y : Int) (st : List am_V) (h : am_H) : am_go0 cl 15 105 ls (.inl y :: .inl x :: st) h = am_go0 cl 15 106 ls (.inl (am_wr (x + y)) :: st) h := am_r am_m15 d_15_105 rfl
theorem d_15_106 : am_code 15 106 = some (.putfield 31, 3) := by decide +kernel
theorem s_15_106 (cl : am_C) (ls : am_Ls) (v : Int) (st : List am_V) (N : Nat) (I : Nat → Int → Int) (L : Nat → Int → Int64) : am_go0 cl 15 106 ls (.inl v :: .inr (.inr (some 33)) :: st) (am_GS N, am_GR, I, L) = am_go0 cl 15 109 ls st (am_GS N, am_GR, am_uI I 33 9 v, L) := am_rP0 am_m15 d_15_106 am_f1031 rfl (gs_33 N) (by decide) rfl
theorem d_15_109 : am_code 15 109 = some (.ireturn, 1) := by decide +kernel
theorem s_15_109 (cl : am_C) (ls : am_Ls) (x : Int) (h : am_H) : am_go0 cl 15 109 ls [.inl x] h = some (some (.inl x), h) := am_rE am_m15 d_15_109 rfl
theorem e_15 (d : Nat) (t : Nat) (p0 : Int) (p1 : Int) (h : am_H) : am_call (d + 1) 15 [.inr (.inr (some t)), .inl p0, .inl p1] h = am_go0 (am_call d) 15 0 [some (.inr (.inr (some t))), some (.inl p0), some (.inl p1), none] [] h := am_callE am_m15 (Nat.le_of_ble_eq_true rfl) rfl
theorem d_16_0 : am_code 16 0 = some (.aload_n 0, 1) := by decide +kernel
theorem s_16_0 (cl : am_C) (a1 : Option am_V) (x : Nat) (st : List am_V) (h : am_H) : am_go0 cl 16 0 [some (.inr (.inr (some x))), a1] st h = am_go0 cl 16 1 [some (.inr (.inr (some x))), a1] (.inr (.inr (some x)) :: st) h := am_r am_m16 d_16_0 rfl
theorem d_16_1 : am_code 16 1 = some (.getfield 56, 3) := by decide +kernel
theorem s_16_1 (cl : am_C) (ls : am_Ls) (st : List am_V) (N : Nat) (I : Nat → Int → Int) (L : Nat → Int → Int64) : am_go0 cl 16 1 ls (.inr (.inr (some 33)) :: st) (am_GS N, am_GR, I, L) = am_go0 cl 16 4 ls (.inr (.inr (some 15)) :: st) (am_GS N, am_GR, I, L) := am_rG2 am_m16 d_16_1 am_f1056 rfl (gs_33 N) (by decide) gr_33_2 rfl
theorem d_16_4 : am_code 16 4 = some (.aload_n 0, 1) := by decide +kernel
theorem s_16_4 (cl : am_C) (a1 : Option am_V) (x : Nat) (st : List am_V) (h : am_H) : am_go0 cl 16 4 [some (.inr (.inr (some x))), a1] st h = am_go0 cl 16 5 [some (.inr (.inr (some x))), a1] (.inr (.inr (some x)) :: st) h := am_r am_m16 d_16_4 rfl
theorem d_16_5 : am_code 16 5 = some (.getfield 22, 3) := by decide +kernel
theorem s_16_5 (cl : am_C) (ls : am_Ls) (st : List am_V) (N : Nat) (I : Nat → Int → Int) (L : Nat → Int → Int64) : am_go0 cl 16 5 ls (.inr (.inr (some 33)) :: st) (am_GS N, am_GR, I, L) = am_go0 cl 16 8 ls (.inr (.inr (some 36)) :: st) (am_GS N, am_GR, I, L) := am_rG2 am_m16 d_16_5 am_f1022 rfl (gs_33 N) (by decide) gr_33_6 rfl
theorem d_16_8 : am_code 16 8 = some (.iload_n 1, 1) := by decide +kernel
theorem s_16_8 (cl : am_C) (a0 : Option am_V) (x : Int) (st : List am_V) (h : am_H) : am_go0 cl 16 8 [a0, some (.inl x)] st h = am_go0 cl 16 9 [a0, some (.inl x)] (.inl x :: st) h := am_r am_m16 d_16_8 rfl
theorem d_16_9 : am_code 16 9 = some (.iaload, 1) := by decide +kernel
theorem s_16_9 (cl : am_C) (ls : am_Ls) (i : Int) (k : Nat) (st : List am_V) (N : Nat) (I : Nat → Int → Int) (L : Nat → Int → Int64) : am_go0 cl 16 9 ls (.inl i :: .inr (.inr (some k)) :: st) (am_GS N, am_GR, I, L) = if am_inb (am_GS N) k 0 i = true then am_go0 cl 16 10 ls (.inl (I k i) :: st) (am_GS N, am_GR, I, L) else none := am_rA am_m16 d_16_9 (by decide) rfl k ls st i _ _ I L
theorem d_16_10 : am_code 16 10 = some (.invokevirtual 64, 3) := by decide +kernel
theorem s_16_10 (cl : am_C) (ls : am_Ls) (x0 : Int) (N : Nat) (I : Nat → Int → Int) (L : Nat → Int → Int64) : am_go0 cl 16 10 ls [.inl x0, .inr (.inr (some 15))] (am_GS N, am_GR, I, L) = am_bd (cl 36 [.inr (.inr (some 15)), .inl x0] (am_GS N, am_GR, I, L)) (fun v h2 => am_go0 cl 16 13 ls (v.toList ++ []) h2) := am_rV am_m16 d_16_10 am_k1064 rfl am_m36 (gs_15 N) (by decide) (Nat.le_of_ble_eq_true rfl) rfl ls
theorem d_16_13 : am_code 16 13 = some (.aload_n 0, 1) := by decide +kernel
theorem s_16_13 (cl : am_C) (a1 : Option am_V) (x : Nat) (st : List am_V) (h : am_H) : am_go0 cl 16 13 [some (.inr (.inr (some x))), a1] st h = am_go0 cl 16 14 [some (.inr (.inr (some x))), a1] (.inr (.inr (some x)) :: st) h := am_r am_m16 d_16_13 rfl
theorem d_16_14 : am_code 16 14 = some (.getfield 52, 3) := by decide +kernel
theorem s_16_14 (cl : am_C) (ls : am_Ls) (st : List am_V) (N : Nat) (I : Nat → Int → Int) (L : Nat → Int → Int64) : am_go0 cl 16 14 ls (.inr (.inr (some 33)) :: st) (am_GS N, am_GR, I, L) = am_go0 cl 16 17 ls (.inr (.inr (some 10)) :: st) (am_GS N, am_GR, I, L) := am_rG2 am_m16 d_16_14 am_f1052 rfl (gs_33 N) (by decide) gr_33_1 rfl
theorem d_16_17 : am_code 16 17 = some (.aload_n 0, 1) := by decide +kernel
theorem s_16_17 (cl : am_C) (a1 : Option am_V) (x : Nat) (st : List am_V) (h : am_H) : am_go0 cl 16 17 [some (.inr (.inr (some x))), a1] st h = am_go0 cl 16 18 [some (.inr (.inr (some x))), a1] (.inr (.inr (some x)) :: st) h := am_r am_m16 d_16_17 rfl
theorem d_16_18 : am_code 16 18 = some (.getfield 15, 3) := by decide +kernel
theorem s_16_18 (cl : am_C) (ls : am_Ls) (st : List am_V) (N : Nat) (I : Nat → Int → Int) (L : Nat → Int → Int64) : am_go0 cl 16 18 ls (.inr (.inr (some 33)) :: st) (am_GS N, am_GR, I, L) = am_go0 cl 16 21 ls (.inr (.inr (some 34)) :: st) (am_GS N, am_GR, I, L) := am_rG2 am_m16 d_16_18 am_f1015 rfl (gs_33 N) (by decide) gr_33_4 rfl
theorem d_16_21 : am_code 16 21 = some (.iload_n 1, 1) := by decide +kernel
theorem s_16_21 (cl : am_C) (a0 : Option am_V) (x : Int) (st : List am_V) (h : am_H) : am_go0 cl 16 21 [a0, some (.inl x)] st h = am_go0 cl 16 22 [a0, some (.inl x)] (.inl x :: st) h := am_r am_m16 d_16_21 rfl
theorem d_16_22 : am_code 16 22 = some (.iaload, 1) := by decide +kernel
theorem s_16_22 (cl : am_C) (ls : am_Ls) (i : Int) (k : Nat) (st : List am_V) (N : Nat) (I : Nat → Int → Int) (L : Nat → Int → Int64) : am_go0 cl 16 22 ls (.inl i :: .inr (.inr (some k)) :: st) (am_GS N, am_GR, I, L) = if am_inb (am_GS N) k 0 i = true then am_go0 cl 16 23 ls (.inl (I k i) :: st) (am_GS N, am_GR, I, L) else none := am_rA am_m16 d_16_22 (by decide) rfl k ls st i _ _ I L
theorem d_16_23 : am_code 16 23 = some (.invokevirtual 68, 3) := by decide +kernel
theorem s_16_23 (cl : am_C) (ls : am_Ls) (x0 : Int) (z0 : Int) (N : Nat) (I : Nat → Int → Int) (L : Nat → Int → Int64) : am_go0 cl 16 23 ls [.inl x0, .inr (.inr (some 10)), .inl z0] (am_GS N, am_GR, I, L) = am_bd (cl 7 [.inr (.inr (some 10)), .inl x0] (am_GS N, am_GR, I, L)) (fun v h2 => am_go0 cl 16 26 ls (v.toList ++ [.inl z0]) h2) := am_rV am_m16 d_16_23 am_k1068 rfl am_m7 (gs_10 N) (by decide) (Nat.le_of_ble_eq_true rfl) rfl ls
theorem d_16_26 : am_code 16 26 = some (.iadd, 1) := by decide +kernel
theorem s_16_26 (cl : am_C) (ls : am_Ls) (x y : Int) (st : List am_V) (h : am_H) : am_go0 cl 16 26 ls (.inl y :: .inl x :: st) h = am_go0 cl 16 27 ls (.inl (am_wr (x + y)) :: st) h := am_r am_m16 d_16_26 rfl
theorem d_16_27 : am_code 16 27 = some (.ireturn, 1) := by decide +kernel
theorem s_16_27 (cl : am_C) (ls : am_Ls) (x : Int) (h : am_H) : am_go0 cl 16 27 ls [.inl x] h = some (some (.inl x), h) := am_rE am_m16 d_16_27 rfl
theorem e_16 (d : Nat) (t : Nat) (p0 : Int) (h : am_H) : am_call (d + 1) 16 [.inr (.inr (some t)), .inl p0] h = am_go0 (am_call d) 16 0 [some (.inr (.inr (some t))), some (.inl p0)] [] h := am_callE am_m16 (Nat.le_of_ble_eq_true rfl) rfl
theorem d_17_0 : am_code 17 0 = some (.aload_n 0, 1) := by decide +kernel
theorem s_17_0 (cl : am_C) (a1 a2 a3 : Option am_V) (x : Nat) (st : List am_V) (h : am_H) : am_go0 cl 17 0 [some (.inr (.inr (some x))), a1, a2, a3] st h = am_go0 cl 17 1 [some (.inr (.inr (some x))), a1, a2, a3] (.inr (.inr (some x)) :: st) h := am_r am_m17 d_17_0 rfl
theorem d_17_1 : am_code 17 1 = some (.getfield 56, 3) := by decide +kernel
theorem s_17_1 (cl : am_C) (ls : am_Ls) (st : List am_V) (N : Nat) (I : Nat → Int → Int) (L : Nat → Int → Int64) : am_go0 cl 17 1 ls (.inr (.inr (some 33)) :: st) (am_GS N, am_GR, I, L) = am_go0 cl 17 4 ls (.inr (.inr (some 15)) :: st) (am_GS N, am_GR, I, L) := am_rG2 am_m17 d_17_1 am_f1056 rfl (gs_33 N) (by decide) gr_33_2 rfl
theorem d_17_4 : am_code 17 4 = some (.aload_n 0, 1) := by decide +kernel
theorem s_17_4 (cl : am_C) (a1 a2 a3 : Option am_V) (x : Nat) (st : List am_V) (h : am_H) : am_go0 cl 17 4 [some (.inr (.inr (some x))), a1, a2, a3] st h = am_go0 cl 17 5 [some (.inr (.inr (some x))), a1, a2, a3] (.inr (.inr (some x)) :: st) h := am_r am_m17 d_17_4 rfl
theorem d_17_5 : am_code 17 5 = some (.getfield 22, 3) := by decide +kernel
theorem s_17_5 (cl : am_C) (ls : am_Ls) (st : List am_V) (N : Nat) (I : Nat → Int → Int) (L : Nat → Int → Int64) : am_go0 cl 17 5 ls (.inr (.inr (some 33)) :: st) (am_GS N, am_GR, I, L) = am_go0 cl 17 8 ls (.inr (.inr (some 36)) :: st) (am_GS N, am_GR, I, L) := am_rG2 am_m17 d_17_5 am_f1022 rfl (gs_33 N) (by decide) gr_33_6 rfl
theorem d_17_8 : am_code 17 8 = some (.iload_n 1, 1) := by decide +kernel
theorem s_17_8 (cl : am_C) (a0 a2 a3 : Option am_V) (x : Int) (st : List am_V) (h : am_H) : am_go0 cl 17 8 [a0, some (.inl x), a2, a3] st h = am_go0 cl 17 9 [a0, some (.inl x), a2, a3] (.inl x :: st) h := am_r am_m17 d_17_8 rfl
theorem d_17_9 : am_code 17 9 = some (.iaload, 1) := by decide +kernel
theorem s_17_9 (cl : am_C) (ls : am_Ls) (i : Int) (k : Nat) (st : List am_V) (N : Nat) (I : Nat → Int → Int) (L : Nat → Int → Int64) : am_go0 cl 17 9 ls (.inl i :: .inr (.inr (some k)) :: st) (am_GS N, am_GR, I, L) = if am_inb (am_GS N) k 0 i = true then am_go0 cl 17 10 ls (.inl (I k i) :: st) (am_GS N, am_GR, I, L) else none := am_rA am_m17 d_17_9 (by decide) rfl k ls st i _ _ I L
theorem d_17_10 : am_code 17 10 = some (.invokevirtual 64, 3) := by decide +kernel
theorem s_17_10 (cl : am_C) (ls : am_Ls) (x0 : Int) (N : Nat) (I : Nat → Int → Int) (L : Nat → Int → Int64) : am_go0 cl 17 10 ls [.inl x0, .inr (.inr (some 15))] (am_GS N, am_GR, I, L) = am_bd (cl 36 [.inr (.inr (some 15)), .inl x0] (am_GS N, am_GR, I, L)) (fun v h2 => am_go0 cl 17 13 ls (v.toList ++ []) h2) := am_rV am_m17 d_17_10 am_k1064 rfl am_m36 (gs_15 N) (by decide) (Nat.le_of_ble_eq_true rfl) rfl ls
theorem d_17_13 : am_code 17 13 = some (.istore_n 3, 1) := by decide +kernel
theorem s_17_13 (cl : am_C) (a0 a1 a2 a3 : Option am_V) (x : Int) (st : List am_V) (h : am_H) : am_go0 cl 17 13 [a0, a1, a2, a3] (.inl x :: st) h = am_go0 cl 17 14 [a0, a1, am_c1 a2, some (.inl x)] st h := am_r am_m17 d_17_13 rfl
theorem d_17_14 : am_code 17 14 = some (.iload_n 2, 1) := by decide +kernel
theorem s_17_14 (cl : am_C) (a0 a1 a3 : Option am_V) (x : Int) (st : List am_V) (h : am_H) : am_go0 cl 17 14 [a0, a1, some (.inl x), a3] st h = am_go0 cl 17 15 [a0, a1, some (.inl x), a3] (.inl x :: st) h := am_r am_m17 d_17_14 rfl
theorem d_17_15 : am_code 17 15 = some (.iload_n 3, 1) := by decide +kernel
theorem s_17_15 (cl : am_C) (a0 a1 a2 : Option am_V) (x : Int) (st : List am_V) (h : am_H) : am_go0 cl 17 15 [a0, a1, a2, some (.inl x)] st h = am_go0 cl 17 16 [a0, a1, a2, some (.inl x)] (.inl x :: st) h := am_r am_m17 d_17_15 rfl
theorem d_17_16 : am_code 17 16 = some (.if_icmp .ge 20, 3) := by decide +kernel
theorem s_17_16 (cl : am_C) (ls : am_Ls) (x y : Int) (st : List am_V) (h : am_H) : am_go0 cl 17 16 ls (.inl y :: .inl x :: st) h = if x < y then am_go0 cl 17 19 ls st h else am_go0 cl 17 36 ls st h := (am_rJ0 am_m17 d_17_16 (by decide) rfl x y ls st h).trans (am_ifF ((am_cmp_ge x y).trans Int.not_lt.symm) _ _)
theorem d_17_19 : am_code 17 19 = some (.aload_n 0, 1) := by decide +kernel
theorem s_17_19 (cl : am_C) (a1 a2 a3 : Option am_V) (x : Nat) (st : List am_V) (h : am_H) : am_go0 cl 17 19 [some (.inr (.inr (some x))), a1, a2, a3] st h = am_go0 cl 17 20 [some (.inr (.inr (some x))), a1, a2, a3] (.inr (.inr (some x)) :: st) h := am_r am_m17 d_17_19 rfl
theorem d_17_20 : am_code 17 20 = some (.getfield 56, 3) := by decide +kernel
theorem s_17_20 (cl : am_C) (ls : am_Ls) (st : List am_V) (N : Nat) (I : Nat → Int → Int) (L : Nat → Int → Int64) : am_go0 cl 17 20 ls (.inr (.inr (some 33)) :: st) (am_GS N, am_GR, I, L) = am_go0 cl 17 23 ls (.inr (.inr (some 15)) :: st) (am_GS N, am_GR, I, L) := am_rG2 am_m17 d_17_20 am_f1056 rfl (gs_33 N) (by decide) gr_33_2 rfl
theorem d_17_23 : am_code 17 23 = some (.aload_n 0, 1) := by decide +kernel
theorem s_17_23 (cl : am_C) (a1 a2 a3 : Option am_V) (x : Nat) (st : List am_V) (h : am_H) : am_go0 cl 17 23 [some (.inr (.inr (some x))), a1, a2, a3] st h = am_go0 cl 17 24 [some (.inr (.inr (some x))), a1, a2, a3] (.inr (.inr (some x)) :: st) h := am_r am_m17 d_17_23 rfl
theorem d_17_24 : am_code 17 24 = some (.getfield 22, 3) := by decide +kernel
theorem s_17_24 (cl : am_C) (ls : am_Ls) (st : List am_V) (N : Nat) (I : Nat → Int → Int) (L : Nat → Int → Int64) : am_go0 cl 17 24 ls (.inr (.inr (some 33)) :: st) (am_GS N, am_GR, I, L) = am_go0 cl 17 27 ls (.inr (.inr (some 36)) :: st) (am_GS N, am_GR, I, L) := am_rG2 am_m17 d_17_24 am_f1022 rfl (gs_33 N) (by decide) gr_33_6 rfl
theorem d_17_27 : am_code 17 27 = some (.iload_n 1, 1) := by decide +kernel
theorem s_17_27 (cl : am_C) (a0 a2 a3 : Option am_V) (x : Int) (st : List am_V) (h : am_H) : am_go0 cl 17 27 [a0, some (.inl x), a2, a3] st h = am_go0 cl 17 28 [a0, some (.inl x), a2, a3] (.inl x :: st) h := am_r am_m17 d_17_27 rfl
theorem d_17_28 : am_code 17 28 = some (.iaload, 1) := by decide +kernel
theorem s_17_28 (cl : am_C) (ls : am_Ls) (i : Int) (k : Nat) (st : List am_V) (N : Nat) (I : Nat → Int → Int) (L : Nat → Int → Int64) : am_go0 cl 17 28 ls (.inl i :: .inr (.inr (some k)) :: st) (am_GS N, am_GR, I, L) = if am_inb (am_GS N) k 0 i = true then am_go0 cl 17 29 ls (.inl (I k i) :: st) (am_GS N, am_GR, I, L) else none := am_rA am_m17 d_17_28 (by decide) rfl k ls st i _ _ I L
theorem d_17_29 : am_code 17 29 = some (.iload_n 2, 1) := by decide +kernel
theorem s_17_29 (cl : am_C) (a0 a1 a3 : Option am_V) (x : Int) (st : List am_V) (h : am_H) : am_go0 cl 17 29 [a0, a1, some (.inl x), a3] st h = am_go0 cl 17 30 [a0, a1, some (.inl x), a3] (.inl x :: st) h := am_r am_m17 d_17_29 rfl
theorem d_17_30 : am_code 17 30 = some (.invokevirtual 102, 3) := by decide +kernel
theorem s_17_30 (cl : am_C) (ls : am_Ls) (x0 : Int) (x1 : Int) (N : Nat) (I : Nat → Int → Int) (L : Nat → Int → Int64) : am_go0 cl 17 30 ls [.inl x1, .inl x0, .inr (.inr (some 15))] (am_GS N, am_GR, I, L) = am_bd (cl 37 [.inr (.inr (some 15)), .inl x0, .inl x1] (am_GS N, am_GR, I, L)) (fun v h2 => am_go0 cl 17 33 ls (v.toList ++ []) h2) := am_rV am_m17 d_17_30 am_k1102 rfl am_m37 (gs_15 N) (by decide) (Nat.le_of_ble_eq_true rfl) rfl ls
theorem d_17_33 : am_code 17 33 = some (.goto 19, 3) := by decide +kernel
theorem s_17_33 (cl : am_C) (ls : am_Ls) (st : List am_V) (h : am_H) : am_go0 cl 17 33 ls st h = am_go0 cl 17 52 ls st h := am_rGo am_m17 d_17_33 (by decide) _ _ _
theorem d_17_36 : am_code 17 36 = some (.aload_n 0, 1) := by decide +kernel
theorem s_17_36 (cl : am_C) (a1 a2 a3 : Option am_V) (x : Nat) (st : List am_V) (h : am_H) : am_go0 cl 17 36 [some (.inr (.inr (some x))), a1, a2, a3] st h = am_go0 cl 17 37 [some (.inr (.inr (some x))), a1, a2, a3] (.inr (.inr (some x)) :: st) h := am_r am_m17 d_17_36 rfl
theorem d_17_37 : am_code 17 37 = some (.getfield 52, 3) := by decide +kernel
theorem s_17_37 (cl : am_C) (ls : am_Ls) (st : List am_V) (N : Nat) (I : Nat → Int → Int) (L : Nat → Int → Int64) : am_go0 cl 17 37 ls (.inr (.inr (some 33)) :: st) (am_GS N, am_GR, I, L) = am_go0 cl 17 40 ls (.inr (.inr (some 10)) :: st) (am_GS N, am_GR, I, L) := am_rG2 am_m17 d_17_37 am_f1052 rfl (gs_33 N) (by decide) gr_33_1 rfl
theorem d_17_40 : am_code 17 40 = some (.aload_n 0, 1) := by decide +kernel
theorem s_17_40 (cl : am_C) (a1 a2 a3 : Option am_V) (x : Nat) (st : List am_V) (h : am_H) : am_go0 cl 17 40 [some (.inr (.inr (some x))), a1, a2, a3] st h = am_go0 cl 17 41 [some (.inr (.inr (some x))), a1, a2, a3] (.inr (.inr (some x)) :: st) h := am_r am_m17 d_17_40 rfl
theorem d_17_41 : am_code 17 41 = some (.getfield 15, 3) := by decide +kernel
theorem s_17_41 (cl : am_C) (ls : am_Ls) (st : List am_V) (N : Nat) (I : Nat → Int → Int) (L : Nat → Int → Int64) : am_go0 cl 17 41 ls (.inr (.inr (some 33)) :: st) (am_GS N, am_GR, I, L) = am_go0 cl 17 44 ls (.inr (.inr (some 34)) :: st) (am_GS N, am_GR, I, L) := am_rG2 am_m17 d_17_41 am_f1015 rfl (gs_33 N) (by decide) gr_33_4 rfl
theorem d_17_44 : am_code 17 44 = some (.iload_n 1, 1) := by decide +kernel
theorem s_17_44 (cl : am_C) (a0 a2 a3 : Option am_V) (x : Int) (st : List am_V) (h : am_H) : am_go0 cl 17 44 [a0, some (.inl x), a2, a3] st h = am_go0 cl 17 45 [a0, some (.inl x), a2, a3] (.inl x :: st) h := am_r am_m17 d_17_44 rfl
theorem d_17_45 : am_code 17 45 = some (.iaload, 1) := by decide +kernel
theorem s_17_45 (cl : am_C) (ls : am_Ls) (i : Int) (k : Nat) (st : List am_V) (N : Nat) (I : Nat → Int → Int) (L : Nat → Int → Int64) : am_go0 cl 17 45 ls (.inl i :: .inr (.inr (some k)) :: st) (am_GS N, am_GR, I, L) = if am_inb (am_GS N) k 0 i = true then am_go0 cl 17 46 ls (.inl (I k i) :: st) (am_GS N, am_GR, I, L) else none := am_rA am_m17 d_17_45 (by decide) rfl k ls st i _ _ I L
theorem d_17_46 : am_code 17 46 = some (.iload_n 2, 1) := by decide +kernel
theorem s_17_46 (cl : am_C) (a0 a1 a3 : Option am_V) (x : Int) (st : List am_V) (h : am_H) : am_go0 cl 17 46 [a0, a1, some (.inl x), a3] st h = am_go0 cl 17 47 [a0, a1, some (.inl x), a3] (.inl x :: st) h := am_r am_m17 d_17_46 rfl
theorem d_17_47 : am_code 17 47 = some (.iload_n 3, 1) := by decide +kernel
theorem s_17_47 (cl : am_C) (a0 a1 a2 : Option am_V) (x : Int) (st : List am_V) (h : am_H) : am_go0 cl 17 47 [a0, a1, a2, some (.inl x)] st h = am_go0 cl 17 48 [a0, a1, a2, some (.inl x)] (.inl x :: st) h := am_r am_m17 d_17_47 rfl
theorem d_17_48 : am_code 17 48 = some (.isub, 1) := by decide +kernel
theorem s_17_48 (cl : am_C) (ls : am_Ls) (x y : Int) (st : List am_V) (h : am_H) : am_go0 cl 17 48 ls (.inl y :: .inl x :: st) h = am_go0 cl 17 49 ls (.inl (am_wr (x - y)) :: st) h := am_r am_m17 d_17_48 rfl
theorem d_17_49 : am_code 17 49 = some (.invokevirtual 105, 3) := by decide +kernel
theorem s_17_49 (cl : am_C) (ls : am_Ls) (x0 : Int) (x1 : Int) (N : Nat) (I : Nat → Int → Int) (L : Nat → Int → Int64) : am_go0 cl 17 49 ls [.inl x1, .inl x0, .inr (.inr (some 10))] (am_GS N, am_GR, I, L) = am_bd (cl 5 [.inr (.inr (some 10)), .inl x0, .inl x1] (am_GS N, am_GR, I, L)) (fun v h2 => am_go0 cl 17 52 ls (v.toList ++ []) h2) := am_rV am_m17 d_17_49 am_k1105 rfl am_m5 (gs_10 N) (by decide) (Nat.le_of_ble_eq_true rfl) rfl ls
theorem d_17_52 : am_code 17 52 = some (.ireturn, 1) := by decide +kernel
theorem s_17_52 (cl : am_C) (ls : am_Ls) (x : Int) (h : am_H) : am_go0 cl 17 52 ls [.inl x] h = some (some (.inl x), h) := am_rE am_m17 d_17_52 rfl
theorem e_17 (d : Nat) (t : Nat) (p0 : Int) (p1 : Int) (h : am_H) : am_call (d + 1) 17 [.inr (.inr (some t)), .inl p0, .inl p1] h = am_go0 (am_call d) 17 0 [some (.inr (.inr (some t))), some (.inl p0), some (.inl p1), none] [] h := am_callE am_m17 (Nat.le_of_ble_eq_true rfl) rfl
theorem d_18_0 : am_code 18 0 = some (.aload_n 0, 1) := by decide +kernel
theorem s_18_0 (cl : am_C) (a1 a2 a3 : Option am_V) (x : Nat) (st : List am_V) (h : am_H) : am_go0 cl 18 0 [some (.inr (.inr (some x))), a1, a2, a3] st h = am_go0 cl 18 1 [some (.inr (.inr (some x))), a1, a2, a3] (.inr (.inr (some x)) :: st) h := am_r am_m18 d_18_0 rfl
theorem d_18_1 : am_code 18 1 = some (.getfield 22, 3) := by decide +kernel
theorem s_18_1 (cl : am_C) (ls : am_Ls) (st : List am_V) (N : Nat) (I : Nat → Int → Int) (L : Nat → Int → Int64) : am_go0 cl 18 1 ls (.inr (.inr (some 33)) :: st) (am_GS N, am_GR, I, L) = am_go0 cl 18 4 ls (.inr (.inr (some 36)) :: st) (am_GS N, am_GR, I, L) := am_rG2 am_m18 d_18_1 am_f1022 rfl (gs_33 N) (by decide) gr_33_6 rfl
theorem d_18_4 : am_code 18 4 = some (.iload_n 1, 1) := by decide +kernel
theorem s_18_4 (cl : am_C) (a0 a2 a3 : Option am_V) (x : Int) (st : List am_V) (h : am_H) : am_go0 cl 18 4 [a0, some (.inl x), a2, a3] st h = am_go0 cl 18 5 [a0, some (.inl x), a2, a3] (.inl x :: st) h := am_r am_m18 d_18_4 rfl
theorem d_18_5 : am_code 18 5 = some (.iaload, 1) := by decide +kernel
theorem s_18_5 (cl : am_C) (ls : am_Ls) (i : Int) (k : Nat) (st : List am_V) (N : Nat) (I : Nat → Int → Int) (L : Nat → Int → Int64) : am_go0 cl 18 5 ls (.inl i :: .inr (.inr (some k)) :: st) (am_GS N, am_GR, I, L) = if am_inb (am_GS N) k 0 i = true then am_go0 cl 18 6 ls (.inl (I k i) :: st) (am_GS N, am_GR, I, L) else none := am_rA am_m18 d_18_5 (by decide) rfl k ls st i _ _ I L
theorem d_18_6 : am_code 18 6 = some (.istore_n 3, 1) := by decide +kernel
theorem s_18_6 (cl : am_C) (a0 a1 a2 a3 : Option am_V) (x : Int) (st : List am_V) (h : am_H) : am_go0 cl 18 6 [a0, a1, a2, a3] (.inl x :: st) h = am_go0 cl 18 7 [a0, a1, am_c1 a2, some (.inl x)] st h := am_r am_m18 d_18_6 rfl
theorem d_18_7 : am_code 18 7 = some (.iload_n 2, 1) := by decide +kernel
theorem s_18_7 (cl : am_C) (a0 a1 a3 : Option am_V) (x : Int) (st : List am_V) (h : am_H) : am_go0 cl 18 7 [a0, a1, some (.inl x), a3] st h = am_go0 cl 18 8 [a0, a1, some (.inl x), a3] (.inl x :: st) h := am_r am_m18 d_18_7 rfl
theorem d_18_8 : am_code 18 8 = some (.aload_n 0, 1) := by decide +kernel
theorem s_18_8 (cl : am_C) (a1 a2 a3 : Option am_V) (x : Nat) (st : List am_V) (h : am_H) : am_go0 cl 18 8 [some (.inr (.inr (some x))), a1, a2, a3] st h = am_go0 cl 18 9 [some (.inr (.inr (some x))), a1, a2, a3] (.inr (.inr (some x)) :: st) h := am_r am_m18 d_18_8 rfl
theorem d_18_9 : am_code 18 9 = some (.getfield 56, 3) := by decide +kernel
theorem s_18_9 (cl : am_C) (ls : am_Ls) (st : List am_V) (N : Nat) (I : Nat → Int → Int) (L : Nat → Int → Int64) : am_go0 cl 18 9 ls (.inr (.inr (some 33)) :: st) (am_GS N, am_GR, I, L) = am_go0 cl 18 12 ls (.inr (.inr (some 15)) :: st) (am_GS N, am_GR, I, L) := am_rG2 am_m18 d_18_9 am_f1056 rfl (gs_33 N) (by decide) gr_33_2 rfl
theorem d_18_12 : am_code 18 12 = some (.iload_n 3, 1) := by decide +kernel
theorem s_18_12 (cl : am_C) (a0 a1 a2 : Option am_V) (x : Int) (st : List am_V) (h : am_H) : am_go0 cl 18 12 [a0, a1, a2, some (.inl x)] st h = am_go0 cl 18 13 [a0, a1, a2, some (.inl x)] (.inl x :: st) h := am_r am_m18 d_18_12 rfl
theorem d_18_13 : am_code 18 13 = some (.invokevirtual 64, 3) := by decide +kernel
theorem s_18_13 (cl : am_C) (ls : am_Ls) (x0 : Int) (z0 : Int) (N : Nat) (I : Nat → Int → Int) (L : Nat → Int → Int64) : am_go0 cl 18 13 ls [.inl x0, .inr (.inr (some 15)), .inl z0] (am_GS N, am_GR, I, L) = am_bd (cl 36 [.inr (.inr (some 15)), .inl x0] (am_GS N, am_GR, I, L)) (fun v h2 => am_go0 cl 18 16 ls (v.toList ++ [.inl z0]) h2) := am_rV am_m18 d_18_13 am_k1064 rfl am_m36 (gs_15 N) (by decide) (Nat.le_of_ble_eq_true rfl) rfl ls
theorem d_18_16 : am_code 18 16 = some (.if_icmp .ge 28, 3) := by decide +kernel
theorem s_18_16 (cl : am_C) (ls : am_Ls) (x y : Int) (st : List am_V) (h : am_H) : am_go0 cl 18 16 ls (.inl y :: .inl x :: st) h = if x < y then am_go0 cl 18 19 ls st h else am_go0 cl 18 44 ls st h := (am_rJ0 am_m18 d_18_16 (by decide) rfl x y ls st h).trans (am_ifF ((am_cmp_ge x y).trans Int.not_lt.symm) _ _)
theorem d_18_19 : am_code 18 19 = some (.aload_n 0, 1) := by decide +kernel
theorem s_18_19 (cl : am_C) (a1 a2 a3 : Option am_V) (x : Nat) (st : List am_V) (h : am_H) : am_go0 cl 18 19 [some (.inr (.inr (some x))), a1, a2, a3] st h = am_go0 cl 18 20 [some (.inr (.inr (some x))), a1, a2, a3] (.inr (.inr (some x)) :: st) h := am_r am_m18 d_18_19 rfl
theorem d_18_20 : am_code 18 20 = some (.getfield 48, 3) := by decide +kernel
theorem s_18_20 (cl : am_C) (ls : am_Ls) (st : List am_V) (N : Nat) (I : Nat → Int → Int) (L : Nat → Int → Int64) : am_go0 cl 18 20 ls (.inr (.inr (some 33)) :: st) (am_GS N, am_GR, I, L) = am_go0 cl 18 23 ls (.inr (.inr (some 2)) :: st) (am_GS N, am_GR, I, L) := am_rG2 am_m18 d_18_20 am_f1048 rfl (gs_33 N) (by decide) gr_33_0 rfl
theorem d_18_23 : am_code 18 23 = some (.aload_n 0, 1) := by decide +kernel
theorem s_18_23 (cl : am_C) (a1 a2 a3 : Option am_V) (x : Nat) (st : List am_V) (h : am_H) : am_go0 cl 18 23 [some (.inr (.inr (some x))), a1, a2, a3] st h = am_go0 cl 18 24 [some (.inr (.inr (some x))), a1, a2, a3] (.inr (.inr (some x)) :: st) h := am_r am_m18 d_18_23 rfl
theorem d_18_24 : am_code 18 24 = some (.getfield 19, 3) := by decide +kernel
theorem s_18_24 (cl : am_C) (ls : am_Ls) (st : List am_V) (N : Nat) (I : Nat → Int → Int) (L : Nat → Int → Int64) : am_go0 cl 18 24 ls (.inr (.inr (some 33)) :: st) (am_GS N, am_GR, I, L) = am_go0 cl 18 27 ls (.inr (.inr (some 35)) :: st) (am_GS N, am_GR, I, L) := am_rG2 am_m18 d_18_24 am_f1019 rfl (gs_33 N) (by decide) gr_33_5 rfl
theorem d_18_27 : am_code 18 27 = some (.iload_n 1, 1) := by decide +kernel
theorem s_18_27 (cl : am_C) (a0 a2 a3 : Option am_V) (x : Int) (st : List am_V) (h : am_H) : am_go0 cl 18 27 [a0, some (.inl x), a2, a3] st h = am_go0 cl 18 28 [a0, some (.inl x), a2, a3] (.inl x :: st) h := am_r am_m18 d_18_27 rfl
theorem d_18_28 : am_code 18 28 = some (.iaload, 1) := by decide +kernel
theorem s_18_28 (cl : am_C) (ls : am_Ls) (i : Int) (k : Nat) (st : List am_V) (N : Nat) (I : Nat → Int → Int) (L : Nat → Int → Int64) : am_go0 cl 18 28 ls (.inl i :: .inr (.inr (some k)) :: st) (am_GS N, am_GR, I, L) = if am_inb (am_GS N) k 0 i = true then am_go0 cl 18 29 ls (.inl (I k i) :: st) (am_GS N, am_GR, I, L) else none := am_rA am_m18 d_18_28 (by decide) rfl k ls st i _ _ I L
theorem d_18_29 : am_code 18 29 = some (.aload_n 0, 1) := by decide +kernel
theorem s_18_29 (cl : am_C) (a1 a2 a3 : Option am_V) (x : Nat) (st : List am_V) (h : am_H) : am_go0 cl 18 29 [some (.inr (.inr (some x))), a1, a2, a3] st h = am_go0 cl 18 30 [some (.inr (.inr (some x))), a1, a2, a3] (.inr (.inr (some x)) :: st) h := am_r am_m18 d_18_29 rfl
theorem d_18_30 : am_code 18 30 = some (.getfield 56, 3) := by decide +kernel
theorem s_18_30 (cl : am_C) (ls : am_Ls) (st : List am_V) (N : Nat) (I : Nat → Int → Int) (L : Nat → Int → Int64) : am_go0 cl 18 30 ls (.inr (.inr (some 33)) :: st) (am_GS N, am_GR, I, L) = am_go0 cl 18 33 ls (.inr (.inr (some 15)) :: st) (am_GS N, am_GR, I, L) := am_rG2 am_m18 d_18_30 am_f1056 rfl (gs_33 N) (by decide) gr_33_2 rfl
theorem d_18_33 : am_code 18 33 = some (.iload_n 3, 1) := by decide +kernel
theorem s_18_33 (cl : am_C) (a0 a1 a2 : Option am_V) (x : Int) (st : List am_V) (h : am_H) : am_go0 cl 18 33 [a0, a1, a2, some (.inl x)] st h = am_go0 cl 18 34 [a0, a1, a2, some (.inl x)] (.inl x :: st) h := am_r am_m18 d_18_33 rfl
theorem d_18_34 : am_code 18 34 = some (.iload_n 2, 1) := by decide +kernel
theorem s_18_34 (cl : am_C) (a0 a1 a3 : Option am_V) (x : Int) (st : List am_V) (h : am_H) : am_go0 cl 18 34 [a0, a1, some (.inl x), a3] st h = am_go0 cl 18 35 [a0, a1, some (.inl x), a3] (.inl x :: st) h := am_r am_m18 d_18_34 rfl
theorem d_18_35 : am_code 18 35 = some (.invokevirtual 108, 3) := by decide +kernel
theorem s_18_35 (cl : am_C) (ls : am_Ls) (x0 : Int) (x1 : Int) (z0 : Int) (z1 : Nat) (N : Nat) (I : Nat → Int → Int) (L : Nat → Int → Int64) : am_go0 cl 18 35 ls [.inl x1, .inl x0, .inr (.inr (some 15)), .inl z0, .inr (.inr (some z1))] (am_GS N, am_GR, I, L) = am_bd (cl 39 [.inr (.inr (some 15)), .inl x0, .inl x1] (am_GS N, am_GR, I, L)) (fun v h2 => am_go0 cl 18 38 ls (v.toList ++ [.inl z0, .inr (.inr (some z1))]) h2) := am_rV am_m18 d_18_35 am_k1108 rfl am_m39 (gs_15 N) (by decide) (Nat.le_of_ble_eq_true rfl) rfl ls
theorem d_18_38 : am_code 18 38 = some (.invokevirtual 111, 3) := by decide +kernel
theorem s_18_38 (cl : am_C) (ls : am_Ls) (x0 : Int) (x1 : Int) (N : Nat) (I : Nat → Int → Int) (L : Nat → Int → Int64) : am_go0 cl 18 38 ls [.inl x1, .inl x0, .inr (.inr (some 2))] (am_GS N, am_GR, I, L) = am_bd (cl 80 [.inr (.inr (some 2)), .inl x0, .inl x1] (am_GS N, am_GR, I, L)) (fun v h2 => am_go0 cl 18 41 ls (v.toList ++ []) h2) := am_rV am_m18 d_18_38 am_k1111 rfl am_m80 (gs_2 N) (by decide) (Nat.le_of_ble_eq_true rfl) rfl ls
theorem d_18_41 : am_code 18 41 = some (.goto 9, 3) := by decide +kernel
theorem s_18_41 (cl : am_C) (ls : am_Ls) (st : List am_V) (h : am_H) : am_go0 cl 18 41 ls st h = am_go0 cl 18 50 ls st h := am_rGo am_m18 d_18_41 (by decide) _ _ _
theorem d_18_44 : am_code 18 44 = some (.aload_n 0, 1) := by decide +kernel
theorem s_18_44 (cl : am_C) (a1 a2 a3 : Option am_V) (x : Nat) (st : List am_V) (h : am_H) : am_go0 cl 18 44 [some (.inr (.inr (some x))), a1, a2, a3] st h = am_go0 cl 18 45 [some (.inr (.inr (some x))), a1, a2, a3] (.inr (.inr (some x)) :: st) h := am_r am_m18 d_18_44 rfl
theorem d_18_45 : am_code 18 45 = some (.getfield 19, 3) := by decide +kernel
theorem s_18_45 (cl : am_C) (ls : am_Ls) (st : List am_V) (N : Nat) (I : Nat → Int → Int) (L : Nat → Int → Int64) : am_go0 cl 18 45 ls (.inr (.inr (some 33)) :: st) (am_GS N, am_GR, I, L) = am_go0 cl 18 48 ls (.inr (.inr (some 35)) :: st) (am_GS N, am_GR, I, L) := am_rG2 am_m18 d_18_45 am_f1019 rfl (gs_33 N) (by decide) gr_33_5 rfl
theorem d_18_48 : am_code 18 48 = some (.iload_n 1, 1) := by decide +kernel
theorem s_18_48 (cl : am_C) (a0 a2 a3 : Option am_V) (x : Int) (st : List am_V) (h : am_H) : am_go0 cl 18 48 [a0, some (.inl x), a2, a3] st h = am_go0 cl 18 49 [a0, some (.inl x), a2, a3] (.inl x :: st) h := am_r am_m18 d_18_48 rfl
theorem d_18_49 : am_code 18 49 = some (.iaload, 1) := by decide +kernel
theorem s_18_49 (cl : am_C) (ls : am_Ls) (i : Int) (k : Nat) (st : List am_V) (N : Nat) (I : Nat → Int → Int) (L : Nat → Int → Int64) : am_go0 cl 18 49 ls (.inl i :: .inr (.inr (some k)) :: st) (am_GS N, am_GR, I, L) = if am_inb (am_GS N) k 0 i = true then am_go0 cl 18 50 ls (.inl (I k i) :: st) (am_GS N, am_GR, I, L) else none := am_rA am_m18 d_18_49 (by decide) rfl k ls st i _ _ I L
theorem d_18_50 : am_code 18 50 = some (.ireturn, 1) := by decide +kernel
theorem s_18_50 (cl : am_C) (ls : am_Ls) (x : Int) (h : am_H) : am_go0 cl 18 50 ls [.inl x] h = some (some (.inl x), h) := am_rE am_m18 d_18_50 rfl
theorem e_18 (d : Nat) (t : Nat) (p0 : Int) (p1 : Int) (h : am_H) : am_call (d + 1) 18 [.inr (.inr (some t)), .inl p0, .inl p1] h = am_go0 (am_call d) 18 0 [some (.inr (.inr (some t))), some (.inl p0), some (.inl p1), none] [] h := am_callE am_m18 (Nat.le_of_ble_eq_true rfl) rfl
theorem d_19_0 : am_code 19 0 = some (.aload_n 0, 1) := by decide +kernel
theorem s_19_0 (cl : am_C) (x : Nat) (st : List am_V) (h : am_H) : am_go0 cl 19 0 [some (.inr (.inr (some x)))] st h = am_go0 cl 19 1 [some (.inr (.inr (some x)))] (.inr (.inr (some x)) :: st) h := am_r am_m19 d_19_0 rfl
theorem d_19_1 : am_code 19 1 = some (.getfield 35, 3) := by decide +kernel
theorem s_19_1 (cl : am_C) (ls : am_Ls) (st : List am_V) (N : Nat) (I : Nat → Int → Int) (L : Nat → Int → Int64) : am_go0 cl 19 1 ls (.inr (.inr (some 33)) :: st) (am_GS N, am_GR, I, L) = am_go0 cl 19 4 ls (.inl (I 33 10) :: st) (am_GS N, am_GR, I, L) := am_rG0 am_m19 d_19_1 am_f1035 rfl (gs_33 N) (by decide) rfl
theorem d_19_4 : am_code 19 4 = some (.ireturn, 1) := by decide +kernel
theorem s_19_4 (cl : am_C) (ls : am_Ls) (x : Int) (h : am_H) : am_go0 cl 19 4 ls [.inl x] h = some (some (.inl x), h) := am_rE am_m19 d_19_4 rfl
theorem e_19 (d : Nat) (t : Nat) (h : am_H) : am_call (d + 1) 19 [.inr (.inr (some t))] h = am_go0 (am_call d) 19 0 [some (.inr (.inr (some t)))] [] h := am_callE am_m19 (Nat.le_of_ble_eq_true rfl) rfl
theorem d_20_0 : am_code 20 0 = some (.aload_n 0, 1) := by decide +kernel
theorem s_20_0 (cl : am_C) (x : Nat) (st : List am_V) (h : am_H) : am_go0 cl 20 0 [some (.inr (.inr (some x)))] st h = am_go0 cl 20 1 [some (.inr (.inr (some x)))] (.inr (.inr (some x)) :: st) h := am_r am_m20 d_20_0 rfl
theorem d_20_1 : am_code 20 1 = some (.getfield 38, 3) := by decide +kernel
theorem s_20_1 (cl : am_C) (ls : am_Ls) (st : List am_V) (N : Nat) (I : Nat → Int → Int) (L : Nat → Int → Int64) : am_go0 cl 20 1 ls (.inr (.inr (some 33)) :: st) (am_GS N, am_GR, I, L) = am_go0 cl 20 4 ls (.inl (I 33 11) :: st) (am_GS N, am_GR, I, L) := am_rG0 am_m20 d_20_1 am_f1038 rfl (gs_33 N) (by decide) rfl
theorem d_20_4 : am_code 20 4 = some (.ireturn, 1) := by decide +kernel
theorem s_20_4 (cl : am_C) (ls : am_Ls) (x : Int) (h : am_H) : am_go0 cl 20 4 ls [.inl x] h = some (some (.inl x), h) := am_rE am_m20 d_20_4 rfl
theorem e_20 (d : Nat) (t : Nat) (h : am_H) : am_call (d + 1) 20 [.inr (.inr (some t))] h = am_go0 (am_call d) 20 0 [some (.inr (.inr (some t)))] [] h := am_callE am_m20 (Nat.le_of_ble_eq_true rfl) rfl
theorem d_21_0 : am_code 21 0 = some (.iload_n 1, 1) := by decide +kernel
theorem s_21_0 (cl : am_C) (a0 : Option am_V) (x : Int) (st : List am_V) (h : am_H) : am_go0 cl 21 0 [a0, some (.inl x)] st h = am_go0 cl 21 1 [a0, some (.inl x)] (.inl x :: st) h := am_r am_m21 d_21_0 rfl
theorem d_21_1 : am_code 21 1 = some (.ifCond .lt 15, 3) := by decide +kernel
theorem s_21_1 (cl : am_C) (ls : am_Ls) (x : Int) (st : List am_V) (h : am_H) : am_go0 cl 21 1 ls (.inl x :: st) h = if x < 0 then am_go0 cl 21 16 ls st h else am_go0 cl 21 4 ls st h := (am_rJ1 am_m21 d_21_1 (by decide) rfl x ls st h).trans (am_ifT (am_cmp_lt x 0) _ _)
theorem d_21_4 : am_code 21 4 = some (.iload_n 1, 1) := by decide +kernel
theorem s_21_4 (cl : am_C) (a0 : Option am_V) (x : Int) (st : List am_V) (h : am_H) : am_go0 cl 21 4 [a0, some (.inl x)] st h = am_go0 cl 21 5 [a0, some (.inl x)] (.inl x :: st) h := am_r am_m21 d_21_4 rfl
theorem d_21_5 : am_code 21 5 = some (.aload_n 0, 1) := by decide +kernel
theorem s_21_5 (cl : am_C) (a1 : Option am_V) (x : Nat) (st : List am_V) (h : am_H) : am_go0 cl 21 5 [some (.inr (.inr (some x))), a1] st h = am_go0 cl 21 6 [some (.inr (.inr (some x))), a1] (.inr (.inr (some x)) :: st) h := am_r am_m21 d_21_5 rfl
theorem d_21_6 : am_code 21 6 = some (.getfield 31, 3) := by decide +kernel
theorem s_21_6 (cl : am_C) (ls : am_Ls) (st : List am_V) (N : Nat) (I : Nat → Int → Int) (L : Nat → Int → Int64) : am_go0 cl 21 6 ls (.inr (.inr (some 33)) :: st) (am_GS N, am_GR, I, L) = am_go0 cl 21 9 ls (.inl (I 33 9) :: st) (am_GS N, am_GR, I, L) := am_rG0 am_m21 d_21_6 am_f1031 rfl (gs_33 N) (by decide) rfl
theorem d_21_9 : am_code 21 9 = some (.if_icmp .ge 7, 3) := by decide +kernel
theorem s_21_9 (cl : am_C) (ls : am_Ls) (x y : Int) (st : List am_V) (h : am_H) : am_go0 cl 21 9 ls (.inl y :: .inl x :: st) h = if x < y then am_go0 cl 21 12 ls st h else am_go0 cl 21 16 ls st h := (am_rJ0 am_m21 d_21_9 (by decide) rfl x y ls st h).trans (am_ifF ((am_cmp_ge x y).trans Int.not_lt.symm) _ _)
theorem d_21_12 : am_code 21 12 = some (.iconst 1, 1) := by decide +kernel
theorem s_21_12 (cl : am_C) (ls : am_Ls) (st : List am_V) (h : am_H) : am_go0 cl 21 12 ls st h = am_go0 cl 21 13 ls (.inl 1 :: st) h := am_rK am_m21 d_21_12 (by decide) rfl _ _ _
theorem d_21_13 : am_code 21 13 = some (.goto 4, 3) := by decide +kernel
theorem s_21_13 (cl : am_C) (ls : am_Ls) (st : List am_V) (h : am_H) : am_go0 cl 21 13 ls st h = am_go0 cl 21 17 ls st h := am_rGo am_m21 d_21_13 (by decide) _ _ _
theorem d_21_16 : am_code 21 16 = some (.iconst 0, 1) := by decide +kernel
theorem s_21_16 (cl : am_C) (ls : am_Ls) (st : List am_V) (h : am_H) : am_go0 cl 21 16 ls st h = am_go0 cl 21 17 ls (.inl 0 :: st) h := am_rK am_m21 d_21_16 (by decide) rfl _ _ _
theorem d_21_17 : am_code 21 17 = some (.ireturn, 1) := by decide +kernel
theorem s_21_17 (cl : am_C) (ls : am_Ls) (x : Int) (h : am_H) : am_go0 cl 21 17 ls [.inl x] h = if x = 0 ∨ x = 1 then some (some (.inl x), h) else none := am_rRz am_m21 d_21_17 x ls h
theorem e_21 (d : Nat) (t : Nat) (p0 : Int) (h : am_H) : am_call (d + 1) 21 [.inr (.inr (some t)), .inl p0] h = am_go0 (am_call d) 21 0 [some (.inr (.inr (some t))), some (.inl p0)] [] h := am_callE am_m21 (Nat.le_of_ble_eq_true rfl) rfl
theorem d_22_0 : am_code 22 0 = some (.aload_n 0, 1) := by decide +kernel
theorem s_22_0 (cl : am_C) (a1 a2 : Option am_V) (x : Nat) (st : List am_V) (h : am_H) : am_go0 cl 22 0 [some (.inr (.inr (some x))), a1, a2] st h = am_go0 cl 22 1 [some (.inr (.inr (some x))), a1, a2] (.inr (.inr (some x)) :: st) h := am_r am_m22 d_22_0 rfl
theorem d_22_1 : am_code 22 1 = some (.getfield 28, 3) := by decide +kernel
theorem s_22_1 (cl : am_C) (ls : am_Ls) (st : List am_V) (N : Nat) (I : Nat → Int → Int) (L : Nat → Int → Int64) : am_go0 cl 22 1 ls (.inr (.inr (some 33)) :: st) (am_GS N, am_GR, I, L) = am_go0 cl 22 4 ls (.inr (.inr (some 38)) :: st) (am_GS N, am_GR, I, L) := am_rG2 am_m22 d_22_1 am_f1028 rfl (gs_33 N) (by decide) gr_33_8 rfl
theorem d_22_4 : am_code 22 4 = some (.iload_n 1, 1) := by decide +kernel
theorem s_22_4 (cl : am_C) (a0 a2 : Option am_V) (x : Int) (st : List am_V) (h : am_H) : am_go0 cl 22 4 [a0, some (.inl x), a2] st h = am_go0 cl 22 5 [a0, some (.inl x), a2] (.inl x :: st) h := am_r am_m22 d_22_4 rfl
theorem d_22_5 : am_code 22 5 = some (.bipush 6, 2) := by decide +kernel
theorem s_22_5 (cl : am_C) (ls : am_Ls) (st : List am_V) (h : am_H) : am_go0 cl 22 5 ls st h = am_go0 cl 22 7 ls (.inl 6 :: st) h := am_rB am_m22 d_22_5 (by decide) rfl _ _ _
theorem d_22_7 : am_code 22 7 = some (.imul, 1) := by decide +kernel
theorem s_22_7 (cl : am_C) (ls : am_Ls) (x y : Int) (st : List am_V) (h : am_H) : am_go0 cl 22 7 ls (.inl y :: .inl x :: st) h = am_go0 cl 22 8 ls (.inl (am_wr (x * y)) :: st) h := am_r am_m22 d_22_7 rfl
theorem d_22_8 : am_code 22 8 = some (.iload_n 2, 1) := by decide +kernel
theorem s_22_8 (cl : am_C) (a0 a1 : Option am_V) (x : Int) (st : List am_V) (h : am_H) : am_go0 cl 22 8 [a0, a1, some (.inl x)] st h = am_go0 cl 22 9 [a0, a1, some (.inl x)] (.inl x :: st) h := am_r am_m22 d_22_8 rfl
theorem d_22_9 : am_code 22 9 = some (.iadd, 1) := by decide +kernel
theorem s_22_9 (cl : am_C) (ls : am_Ls) (x y : Int) (st : List am_V) (h : am_H) : am_go0 cl 22 9 ls (.inl y :: .inl x :: st) h = am_go0 cl 22 10 ls (.inl (am_wr (x + y)) :: st) h := am_r am_m22 d_22_9 rfl
theorem d_22_10 : am_code 22 10 = some (.iaload, 1) := by decide +kernel
theorem s_22_10 (cl : am_C) (ls : am_Ls) (i : Int) (k : Nat) (st : List am_V) (N : Nat) (I : Nat → Int → Int) (L : Nat → Int → Int64) : am_go0 cl 22 10 ls (.inl i :: .inr (.inr (some k)) :: st) (am_GS N, am_GR, I, L) = if am_inb (am_GS N) k 0 i = true then am_go0 cl 22 11 ls (.inl (I k i) :: st) (am_GS N, am_GR, I, L) else none := am_rA am_m22 d_22_10 (by decide) rfl k ls st i _ _ I L
theorem d_22_11 : am_code 22 11 = some (.ireturn, 1) := by decide +kernel
theorem s_22_11 (cl : am_C) (ls : am_Ls) (x : Int) (h : am_H) : am_go0 cl 22 11 ls [.inl x] h = some (some (.inl x), h) := am_rE am_m22 d_22_11 rfl
theorem e_22 (d : Nat) (t : Nat) (p0 : Int) (p1 : Int) (h : am_H) : am_call (d + 1) 22 [.inr (.inr (some t)), .inl p0, .inl p1] h = am_go0 (am_call d) 22 0 [some (.inr (.inr (some t))), some (.inl p0), some (.inl p1)] [] h := am_callE am_m22 (Nat.le_of_ble_eq_true rfl) rfl
theorem d_23_0 : am_code 23 0 = some (.aload_n 0, 1) := by decide +kernel
theorem s_23_0 (cl : am_C) (a1 : Option am_V) (x : Nat) (st : List am_V) (h : am_H) : am_go0 cl 23 0 [some (.inr (.inr (some x))), a1] st h = am_go0 cl 23 1 [some (.inr (.inr (some x))), a1] (.inr (.inr (some x)) :: st) h := am_r am_m23 d_23_0 rfl
theorem d_23_1 : am_code 23 1 = some (.getfield 15, 3) := by decide +kernel
theorem s_23_1 (cl : am_C) (ls : am_Ls) (st : List am_V) (N : Nat) (I : Nat → Int → Int) (L : Nat → Int → Int64) : am_go0 cl 23 1 ls (.inr (.inr (some 33)) :: st) (am_GS N, am_GR, I, L) = am_go0 cl 23 4 ls (.inr (.inr (some 34)) :: st) (am_GS N, am_GR, I, L) := am_rG2 am_m23 d_23_1 am_f1015 rfl (gs_33 N) (by decide) gr_33_4 rfl
theorem d_23_4 : am_code 23 4 = some (.iload_n 1, 1) := by decide +kernel
theorem s_23_4 (cl : am_C) (a0 : Option am_V) (x : Int) (st : List am_V) (h : am_H) : am_go0 cl 23 4 [a0, some (.inl x)] st h = am_go0 cl 23 5 [a0, some (.inl x)] (.inl x :: st) h := am_r am_m23 d_23_4 rfl
theorem d_23_5 : am_code 23 5 = some (.iaload, 1) := by decide +kernel
theorem s_23_5 (cl : am_C) (ls : am_Ls) (i : Int) (k : Nat) (st : List am_V) (N : Nat) (I : Nat → Int → Int) (L : Nat → Int → Int64) : am_go0 cl 23 5 ls (.inl i :: .inr (.inr (some k)) :: st) (am_GS N, am_GR, I, L) = if am_inb (am_GS N) k 0 i = true then am_go0 cl 23 6 ls (.inl (I k i) :: st) (am_GS N, am_GR, I, L) else none := am_rA am_m23 d_23_5 (by decide) rfl k ls st i _ _ I L
theorem d_23_6 : am_code 23 6 = some (.ireturn, 1) := by decide +kernel
theorem s_23_6 (cl : am_C) (ls : am_Ls) (x : Int) (h : am_H) : am_go0 cl 23 6 ls [.inl x] h = some (some (.inl x), h) := am_rE am_m23 d_23_6 rfl
theorem e_23 (d : Nat) (t : Nat) (p0 : Int) (h : am_H) : am_call (d + 1) 23 [.inr (.inr (some t)), .inl p0] h = am_go0 (am_call d) 23 0 [some (.inr (.inr (some t))), some (.inl p0)] [] h := am_callE am_m23 (Nat.le_of_ble_eq_true rfl) rfl
theorem d_24_0 : am_code 24 0 = some (.aload_n 0, 1) := by decide +kernel
theorem s_24_0 (cl : am_C) (a1 : Option am_V) (x : Nat) (st : List am_V) (h : am_H) : am_go0 cl 24 0 [some (.inr (.inr (some x))), a1] st h = am_go0 cl 24 1 [some (.inr (.inr (some x))), a1] (.inr (.inr (some x)) :: st) h := am_r am_m24 d_24_0 rfl
theorem d_24_1 : am_code 24 1 = some (.getfield 19, 3) := by decide +kernel
theorem s_24_1 (cl : am_C) (ls : am_Ls) (st : List am_V) (N : Nat) (I : Nat → Int → Int) (L : Nat → Int → Int64) : am_go0 cl 24 1 ls (.inr (.inr (some 33)) :: st) (am_GS N, am_GR, I, L) = am_go0 cl 24 4 ls (.inr (.inr (some 35)) :: st) (am_GS N, am_GR, I, L) := am_rG2 am_m24 d_24_1 am_f1019 rfl (gs_33 N) (by decide) gr_33_5 rfl
theorem d_24_4 : am_code 24 4 = some (.iload_n 1, 1) := by decide +kernel
theorem s_24_4 (cl : am_C) (a0 : Option am_V) (x : Int) (st : List am_V) (h : am_H) : am_go0 cl 24 4 [a0, some (.inl x)] st h = am_go0 cl 24 5 [a0, some (.inl x)] (.inl x :: st) h := am_r am_m24 d_24_4 rfl
theorem d_24_5 : am_code 24 5 = some (.iaload, 1) := by decide +kernel
theorem s_24_5 (cl : am_C) (ls : am_Ls) (i : Int) (k : Nat) (st : List am_V) (N : Nat) (I : Nat → Int → Int) (L : Nat → Int → Int64) : am_go0 cl 24 5 ls (.inl i :: .inr (.inr (some k)) :: st) (am_GS N, am_GR, I, L) = if am_inb (am_GS N) k 0 i = true then am_go0 cl 24 6 ls (.inl (I k i) :: st) (am_GS N, am_GR, I, L) else none := am_rA am_m24 d_24_5 (by decide) rfl k ls st i _ _ I L
theorem d_24_6 : am_code 24 6 = some (.ireturn, 1) := by decide +kernel
theorem s_24_6 (cl : am_C) (ls : am_Ls) (x : Int) (h : am_H) : am_go0 cl 24 6 ls [.inl x] h = some (some (.inl x), h) := am_rE am_m24 d_24_6 rfl
theorem e_24 (d : Nat) (t : Nat) (p0 : Int) (h : am_H) : am_call (d + 1) 24 [.inr (.inr (some t)), .inl p0] h = am_go0 (am_call d) 24 0 [some (.inr (.inr (some t))), some (.inl p0)] [] h := am_callE am_m24 (Nat.le_of_ble_eq_true rfl) rfl
theorem d_25_0 : am_code 25 0 = some (.aload_n 0, 1) := by decide +kernel
theorem s_25_0 (cl : am_C) (a1 : Option am_V) (x : Nat) (st : List am_V) (h : am_H) : am_go0 cl 25 0 [some (.inr (.inr (some x))), a1] st h = am_go0 cl 25 1 [some (.inr (.inr (some x))), a1] (.inr (.inr (some x)) :: st) h := am_r am_m25 d_25_0 rfl
theorem d_25_1 : am_code 25 1 = some (.getfield 22, 3) := by decide +kernel
theorem s_25_1 (cl : am_C) (ls : am_Ls) (st : List am_V) (N : Nat) (I : Nat → Int → Int) (L : Nat → Int → Int64) : am_go0 cl 25 1 ls (.inr (.inr (some 33)) :: st) (am_GS N, am_GR, I, L) = am_go0 cl 25 4 ls (.inr (.inr (some 36)) :: st) (am_GS N, am_GR, I, L) := am_rG2 am_m25 d_25_1 am_f1022 rfl (gs_33 N) (by decide) gr_33_6 rfl
theorem d_25_4 : am_code 25 4 = some (.iload_n 1, 1) := by decide +kernel
theorem s_25_4 (cl : am_C) (a0 : Option am_V) (x : Int) (st : List am_V) (h : am_H) : am_go0 cl 25 4 [a0, some (.inl x)] st h = am_go0 cl 25 5 [a0, some (.inl x)] (.inl x :: st) h := am_r am_m25 d_25_4 rfl
theorem d_25_5 : am_code 25 5 = some (.iaload, 1) := by decide +kernel
theorem s_25_5 (cl : am_C) (ls : am_Ls) (i : Int) (k : Nat) (st : List am_V) (N : Nat) (I : Nat → Int → Int) (L : Nat → Int → Int64) : am_go0 cl 25 5 ls (.inl i :: .inr (.inr (some k)) :: st) (am_GS N, am_GR, I, L) = if am_inb (am_GS N) k 0 i = true then am_go0 cl 25 6 ls (.inl (I k i) :: st) (am_GS N, am_GR, I, L) else none := am_rA am_m25 d_25_5 (by decide) rfl k ls st i _ _ I L
theorem d_25_6 : am_code 25 6 = some (.ireturn, 1) := by decide +kernel
theorem s_25_6 (cl : am_C) (ls : am_Ls) (x : Int) (h : am_H) : am_go0 cl 25 6 ls [.inl x] h = some (some (.inl x), h) := am_rE am_m25 d_25_6 rfl
theorem e_25 (d : Nat) (t : Nat) (p0 : Int) (h : am_H) : am_call (d + 1) 25 [.inr (.inr (some t)), .inl p0] h = am_go0 (am_call d) 25 0 [some (.inr (.inr (some t))), some (.inl p0)] [] h := am_callE am_m25 (Nat.le_of_ble_eq_true rfl) rfl
theorem d_26_0 : am_code 26 0 = some (.iconst 0, 1) := by decide +kernel
theorem s_26_0 (cl : am_C) (ls : am_Ls) (st : List am_V) (h : am_H) : am_go0 cl 26 0 ls st h = am_go0 cl 26 1 ls (.inl 0 :: st) h := am_rK am_m26 d_26_0 (by decide) rfl _ _ _
theorem d_26_1 : am_code 26 1 = some (.istore_n 2, 1) := by decide +kernel
theorem s_26_1 (cl : am_C) (a0 a1 a2 a3 a4 a5 : Option am_V) (x : Int) (st : List am_V) (h : am_H) : am_go0 cl 26 1 [a0, a1, a2, a3, a4, a5] (.inl x :: st) h = am_go0 cl 26 2 [a0, am_c1 a1, some (.inl x), a3, a4, a5] st h := am_r am_m26 d_26_1 rfl
theorem d_26_2 : am_code 26 2 = some (.iload_n 2, 1) := by decide +kernel
theorem s_26_2 (cl : am_C) (a0 a1 a3 a4 a5 : Option am_V) (x : Int) (st : List am_V) (h : am_H) : am_go0 cl 26 2 [a0, a1, some (.inl x), a3, a4, a5] st h = am_go0 cl 26 3 [a0, a1, some (.inl x), a3, a4, a5] (.inl x :: st) h := am_r am_m26 d_26_2 rfl
theorem d_26_3 : am_code 26 3 = some (.aload_n 0, 1) := by decide +kernel
theorem s_26_3 (cl : am_C) (a1 a2 a3 a4 a5 : Option am_V) (x : Nat) (st : List am_V) (h : am_H) : am_go0 cl 26 3 [some (.inr (.inr (some x))), a1, a2, a3, a4, a5] st h = am_go0 cl 26 4 [some (.inr (.inr (some x))), a1, a2, a3, a4, a5] (.inr (.inr (some x)) :: st) h := am_r am_m26 d_26_3 rfl
theorem d_26_4 : am_code 26 4 = some (.getfield 31, 3) := by decide +kernel
theorem s_26_4 (cl : am_C) (ls : am_Ls) (st : List am_V) (N : Nat) (I : Nat → Int → Int) (L : Nat → Int → Int64) : am_go0 cl 26 4 ls (.inr (.inr (some 33)) :: st) (am_GS N, am_GR, I, L) = am_go0 cl 26 7 ls (.inl (I 33 9) :: st) (am_GS N, am_GR, I, L) := am_rG0 am_m26 d_26_4 am_f1031 rfl (gs_33 N) (by decide) rfl
theorem d_26_7 : am_code 26 7 = some (.if_icmp .ge 16, 3) := by decide +kernel
theorem s_26_7 (cl : am_C) (ls : am_Ls) (x y : Int) (st : List am_V) (h : am_H) : am_go0 cl 26 7 ls (.inl y :: .inl x :: st) h = if x < y then am_go0 cl 26 10 ls st h else am_go0 cl 26 23 ls st h := (am_rJ0 am_m26 d_26_7 (by decide) rfl x y ls st h).trans (am_ifF ((am_cmp_ge x y).trans Int.not_lt.symm) _ _)
theorem d_26_10 : am_code 26 10 = some (.aload_n 0, 1) := by decide +kernel
theorem s_26_10 (cl : am_C) (a1 a2 a3 a4 a5 : Option am_V) (x : Nat) (st : List am_V) (h : am_H) : am_go0 cl 26 10 [some (.inr (.inr (some x))), a1, a2, a3, a4, a5] st h = am_go0 cl 26 11 [some (.inr (.inr (some x))), a1, a2, a3, a4, a5] (.inr (.inr (some x)) :: st) h := am_r am_m26 d_26_10 rfl
theorem d_26_11 : am_code 26 11 = some (.getfield 44, 3) := by decide +kernel
theorem s_26_11 (cl : am_C) (ls : am_Ls) (st : List am_V) (N : Nat) (I : Nat → Int → Int) (L : Nat → Int → Int64) : am_go0 cl 26 11 ls (.inr (.inr (some 33)) :: st) (am_GS N, am_GR, I, L) = am_go0 cl 26 14 ls (.inr (.inr (some 40)) :: st) (am_GS N, am_GR, I, L) := am_rG2 am_m26 d_26_11 am_f1044 rfl (gs_33 N) (by decide) gr_33_13 rfl
theorem d_26_14 : am_code 26 14 = some (.iload_n 2, 1) := by decide +kernel
theorem s_26_14 (cl : am_C) (a0 a1 a3 a4 a5 : Option am_V) (x : Int) (st : List am_V) (h : am_H) : am_go0 cl 26 14 [a0, a1, some (.inl x), a3, a4, a5] st h = am_go0 cl 26 15 [a0, a1, some (.inl x), a3, a4, a5] (.inl x :: st) h := am_r am_m26 d_26_14 rfl
theorem d_26_15 : am_code 26 15 = some (.iconst 0, 1) := by decide +kernel
theorem s_26_15 (cl : am_C) (ls : am_Ls) (st : List am_V) (h : am_H) : am_go0 cl 26 15 ls st h = am_go0 cl 26 16 ls (.inl 0 :: st) h := am_rK am_m26 d_26_15 (by decide) rfl _ _ _
theorem d_26_16 : am_code 26 16 = some (.bastore, 1) := by decide +kernel
theorem s_26_16 (cl : am_C) (ls : am_Ls) (i : Int) (v : Int) (k : Nat) (st : List am_V) (N : Nat) (I : Nat → Int → Int) (L : Nat → Int → Int64) : am_go0 cl 26 16 ls (.inl v :: .inl i :: .inr (.inr (some k)) :: st) (am_GS N, am_GR, I, L) = if am_inb (am_GS N) k 2 i = true ∧ (v = 0 ∨ v = 1) then am_go0 cl 26 17 ls st (am_GS N, am_GR, am_uI I k i v, L) else none := am_rSb am_m26 d_26_16 rfl k ls st i v _ _ I L
theorem d_26_17 : am_code 26 17 = some (.iinc 2 1, 3) := by decide +kernel
theorem s_26_17 (cl : am_C) (a0 a1 a3 a4 a5 : Option am_V) (x : Int) (st : List am_V) (h : am_H) : am_go0 cl 26 17 [a0, a1, some (.inl x), a3, a4, a5] st h = am_go0 cl 26 20 [a0, am_c1 a1, some (.inl (am_wr (x + 1))), a3, a4, a5] st h := am_r am_m26 d_26_17 rfl
theorem d_26_20 : am_code 26 20 = some (.goto (-18), 3) := by decide +kernel
theorem s_26_20 (cl : am_C) (ls : am_Ls) (st : List am_V) (h : am_H) : am_go0 cl 26 20 ls st h = am_go0 cl 26 2 ls st h := am_rGo am_m26 d_26_20 (by decide) _ _ _
theorem d_26_23 : am_code 26 23 = some (.iconst 0, 1) := by decide +kernel
theorem s_26_23 (cl : am_C) (ls : am_Ls) (st : List am_V) (h : am_H) : am_go0 cl 26 23 ls st h = am_go0 cl 26 24 ls (.inl 0 :: st) h := am_rK am_m26 d_26_23 (by decide) rfl _ _ _
theorem d_26_24 : am_code 26 24 = some (.istore_n 2, 1) := by decide +kernel
theorem s_26_24 (cl : am_C) (a0 a1 a2 a3 a4 a5 : Option am_V) (x : Int) (st : List am_V) (h : am_H) : am_go0 cl 26 24 [a0, a1, a2, a3, a4, a5] (.inl x :: st) h = am_go0 cl 26 25 [a0, am_c1 a1, some (.inl x), a3, a4, a5] st h := am_r am_m26 d_26_24 rfl
theorem d_26_25 : am_code 26 25 = some (.aload_n 0, 1) := by decide +kernel
theorem s_26_25 (cl : am_C) (a1 a2 a3 a4 a5 : Option am_V) (x : Nat) (st : List am_V) (h : am_H) : am_go0 cl 26 25 [some (.inr (.inr (some x))), a1, a2, a3, a4, a5] st h = am_go0 cl 26 26 [some (.inr (.inr (some x))), a1, a2, a3, a4, a5] (.inr (.inr (some x)) :: st) h := am_r am_m26 d_26_25 rfl
theorem d_26_26 : am_code 26 26 = some (.getfield 41, 3) := by decide +kernel
theorem s_26_26 (cl : am_C) (ls : am_Ls) (st : List am_V) (N : Nat) (I : Nat → Int → Int) (L : Nat → Int → Int64) : am_go0 cl 26 26 ls (.inr (.inr (some 33)) :: st) (am_GS N, am_GR, I, L) = am_go0 cl 26 29 ls (.inr (.inr (some 39)) :: st) (am_GS N, am_GR, I, L) := am_rG2 am_m26 d_26_26 am_f1041 rfl (gs_33 N) (by decide) gr_33_12 rfl
theorem d_26_29 : am_code 26 29 = some (.iload_n 2, 1) := by decide +kernel
theorem s_26_29 (cl : am_C) (a0 a1 a3 a4 a5 : Option am_V) (x : Int) (st : List am_V) (h : am_H) : am_go0 cl 26 29 [a0, a1, some (.inl x), a3, a4, a5] st h = am_go0 cl 26 30 [a0, a1, some (.inl x), a3, a4, a5] (.inl x :: st) h := am_r am_m26 d_26_29 rfl
theorem d_26_30 : am_code 26 30 = some (.iinc 2 1, 3) := by decide +kernel
theorem s_26_30 (cl : am_C) (a0 a1 a3 a4 a5 : Option am_V) (x : Int) (st : List am_V) (h : am_H) : am_go0 cl 26 30 [a0, a1, some (.inl x), a3, a4, a5] st h = am_go0 cl 26 33 [a0, am_c1 a1, some (.inl (am_wr (x + 1))), a3, a4, a5] st h := am_r am_m26 d_26_30 rfl
theorem d_26_33 : am_code 26 33 = some (.iload_n 1, 1) := by decide +kernel
theorem s_26_33 (cl : am_C) (a0 a2 a3 a4 a5 : Option am_V) (x : Int) (st : List am_V) (h : am_H) : am_go0 cl 26 33 [a0, some (.inl x), a2, a3, a4, a5] st h = am_go0 cl 26 34 [a0, some (.inl x), a2, a3, a4, a5] (.inl x :: st) h := am_r am_m26 d_26_33 rfl
theorem d_26_34 : am_code 26 34 = some (.iastore, 1) := by decide +kernel
theorem s_26_34 (cl : am_C) (ls : am_Ls) (i : Int) (v : Int) (k : Nat) (st : List am_V) (N : Nat) (I : Nat → Int → Int) (L : Nat → Int → Int64) : am_go0 cl 26 34 ls (.inl v :: .inl i :: .inr (.inr (some k)) :: st) (am_GS N, am_GR, I, L) = if am_inb (am_GS N) k 0 i = true then am_go0 cl 26 35 ls st (am_GS N, am_GR, am_uI I k i v, L) else none := am_rS am_m26 d_26_34 rfl k ls st i v _ _ I L
theorem d_26_35 : am_code 26 35 = some (.aload_n 0, 1) := by decide +kernel
theorem s_26_35 (cl : am_C) (a1 a2 a3 a4 a5 : Option am_V) (x : Nat) (st : List am_V) (h : am_H) : am_go0 cl 26 35 [some (.inr (.inr (some x))), a1, a2, a3, a4, a5] st h = am_go0 cl 26 36 [some (.inr (.inr (some x))), a1, a2, a3, a4, a5] (.inr (.inr (some x)) :: st) h := am_r am_m26 d_26_35 rfl
theorem d_26_36 : am_code 26 36 = some (.getfield 44, 3) := by decide +kernel
theorem s_26_36 (cl : am_C) (ls : am_Ls) (st : List am_V) (N : Nat) (I : Nat → Int → Int) (L : Nat → Int → Int64) : am_go0 cl 26 36 ls (.inr (.inr (some 33)) :: st) (am_GS N, am_GR, I, L) = am_go0 cl 26 39 ls (.inr (.inr (some 40)) :: st) (am_GS N, am_GR, I, L) := am_rG2 am_m26 d_26_36 am_f1044 rfl (gs_33 N) (by decide) gr_33_13 rfl
theorem d_26_39 : am_code 26 39 = some (.iload_n 1, 1) := by decide +kernel
theorem s_26_39 (cl : am_C) (a0 a2 a3 a4 a5 : Option am_V) (x : Int) (st : List am_V) (h : am_H) : am_go0 cl 26 39 [a0, some (.inl x), a2, a3, a4, a5] st h = am_go0 cl 26 40 [a0, some (.inl x), a2, a3, a4, a5] (.inl x :: st) h := am_r am_m26 d_26_39 rfl
theorem d_26_40 : am_code 26 40 = some (.iconst 1, 1) := by decide +kernel
theorem s_26_40 (cl : am_C) (ls : am_Ls) (st : List am_V) (h : am_H) : am_go0 cl 26 40 ls st h = am_go0 cl 26 41 ls (.inl 1 :: st) h := am_rK am_m26 d_26_40 (by decide) rfl _ _ _
theorem d_26_41 : am_code 26 41 = some (.bastore, 1) := by decide +kernel
theorem s_26_41 (cl : am_C) (ls : am_Ls) (i : Int) (v : Int) (k : Nat) (st : List am_V) (N : Nat) (I : Nat → Int → Int) (L : Nat → Int → Int64) : am_go0 cl 26 41 ls (.inl v :: .inl i :: .inr (.inr (some k)) :: st) (am_GS N, am_GR, I, L) = if am_inb (am_GS N) k 2 i = true ∧ (v = 0 ∨ v = 1) then am_go0 cl 26 42 ls st (am_GS N, am_GR, am_uI I k i v, L) else none := am_rSb am_m26 d_26_41 rfl k ls st i v _ _ I L
theorem d_26_42 : am_code 26 42 = some (.iconst 0, 1) := by decide +kernel
theorem s_26_42 (cl : am_C) (ls : am_Ls) (st : List am_V) (h : am_H) : am_go0 cl 26 42 ls st h = am_go0 cl 26 43 ls (.inl 0 :: st) h := am_rK am_m26 d_26_42 (by decide) rfl _ _ _
theorem d_26_43 : am_code 26 43 = some (.istore_n 3, 1) := by decide +kernel
theorem s_26_43 (cl : am_C) (a0 a1 a2 a3 a4 a5 : Option am_V) (x : Int) (st : List am_V) (h : am_H) : am_go0 cl 26 43 [a0, a1, a2, a3, a4, a5] (.inl x :: st) h = am_go0 cl 26 44 [a0, a1, am_c1 a2, some (.inl x), a4, a5] st h := am_r am_m26 d_26_43 rfl
theorem d_26_44 : am_code 26 44 = some (.iload_n 3, 1) := by decide +kernel
theorem s_26_44 (cl : am_C) (a0 a1 a2 a4 a5 : Option am_V) (x : Int) (st : List am_V) (h : am_H) : am_go0 cl 26 44 [a0, a1, a2, some (.inl x), a4, a5] st h = am_go0 cl 26 45 [a0, a1, a2, some (.inl x), a4, a5] (.inl x :: st) h := am_r am_m26 d_26_44 rfl
theorem d_26_45 : am_code 26 45 = some (.iload_n 2, 1) := by decide +kernel
theorem s_26_45 (cl : am_C) (a0 a1 a3 a4 a5 : Option am_V) (x : Int) (st : List am_V) (h : am_H) : am_go0 cl 26 45 [a0, a1, some (.inl x), a3, a4, a5] st h = am_go0 cl 26 46 [a0, a1, some (.inl x), a3, a4, a5] (.inl x :: st) h := am_r am_m26 d_26_45 rfl
theorem d_26_46 : am_code 26 46 = some (.if_icmp .ge 82, 3) := by decide +kernel
theorem s_26_46 (cl : am_C) (ls : am_Ls) (x y : Int) (st : List am_V) (h : am_H) : am_go0 cl 26 46 ls (.inl y :: .inl x :: st) h = if x < y then am_go0 cl 26 49 ls st h else am_go0 cl 26 128 ls st h := (am_rJ0 am_m26 d_26_46 (by decide) rfl x y ls st h).trans (am_ifF ((am_cmp_ge x y).trans Int.not_lt.symm) _ _)
theorem d_26_49 : am_code 26 49 = some (.iload_n 3, 1) := by decide +kernel
theorem s_26_49 (cl : am_C) (a0 a1 a2 a4 a5 : Option am_V) (x : Int) (st : List am_V) (h : am_H) : am_go0 cl 26 49 [a0, a1, a2, some (.inl x), a4, a5] st h = am_go0 cl 26 50 [a0, a1, a2, some (.inl x), a4, a5] (.inl x :: st) h := am_r am_m26 d_26_49 rfl
theorem d_26_50 : am_code 26 50 = some (.bipush 60, 2) := by decide +kernel
theorem s_26_50 (cl : am_C) (ls : am_Ls) (st : List am_V) (h : am_H) : am_go0 cl 26 50 ls st h = am_go0 cl 26 52 ls (.inl 60 :: st) h := am_rB am_m26 d_26_50 (by decide) rfl _ _ _
theorem d_26_52 : am_code 26 52 = some (.if_icmp .ge 76, 3) := by decide +kernel
theorem s_26_52 (cl : am_C) (ls : am_Ls) (x y : Int) (st : List am_V) (h : am_H) : am_go0 cl 26 52 ls (.inl y :: .inl x :: st) h = if x < y then am_go0 cl 26 55 ls st h else am_go0 cl 26 128 ls st h := (am_rJ0 am_m26 d_26_52 (by decide) rfl x y ls st h).trans (am_ifF ((am_cmp_ge x y).trans Int.not_lt.symm) _ _)
theorem d_26_55 : am_code 26 55 = some (.iconst 0, 1) := by decide +kernel
theorem s_26_55 (cl : am_C) (ls : am_Ls) (st : List am_V) (h : am_H) : am_go0 cl 26 55 ls st h = am_go0 cl 26 56 ls (.inl 0 :: st) h := am_rK am_m26 d_26_55 (by decide) rfl _ _ _
theorem d_26_56 : am_code 26 56 = some (.istore 4, 2) := by decide +kernel
theorem s_26_56 (cl : am_C) (a0 a1 a2 a3 a4 a5 : Option am_V) (x : Int) (st : List am_V) (h : am_H) : am_go0 cl 26 56 [a0, a1, a2, a3, a4, a5] (.inl x :: st) h = am_go0 cl 26 58 [a0, a1, a2, am_c1 a3, some (.inl x), a5] st h := am_r am_m26 d_26_56 rfl
theorem d_26_58 : am_code 26 58 = some (.iload 4, 2) := by decide +kernel
theorem s_26_58 (cl : am_C) (a0 a1 a2 a3 a5 : Option am_V) (x : Int) (st : List am_V) (h : am_H) : am_go0 cl 26 58 [a0, a1, a2, a3, some (.inl x), a5] st h = am_go0 cl 26 60 [a0, a1, a2, a3, some (.inl x), a5] (.inl x :: st) h := am_r am_m26 d_26_58 rfl
theorem d_26_60 : am_code 26 60 = some (.aload_n 0, 1) := by decide +kernel
theorem s_26_60 (cl : am_C) (a1 a2 a3 a4 a5 : Option am_V) (x : Nat) (st : List am_V) (h : am_H) : am_go0 cl 26 60 [some (.inr (.inr (some x))), a1, a2, a3, a4, a5] st h = am_go0 cl 26 61 [some (.inr (.inr (some x))), a1, a2, a3, a4, a5] (.inr (.inr (some x)) :: st) h := am_r am_m26 d_26_60 rfl
theorem d_26_61 : am_code 26 61 = some (.aload_n 0, 1) := by decide +kernel
theorem s_26_61 (cl : am_C) (a1 a2 a3 a4 a5 : Option am_V) (x : Nat) (st : List am_V) (h : am_H) : am_go0 cl 26 61 [some (.inr (.inr (some x))), a1, a2, a3, a4, a5] st h = am_go0 cl 26 62 [some (.inr (.inr (some x))), a1, a2, a3, a4, a5] (.inr (.inr (some x)) :: st) h := am_r am_m26 d_26_61 rfl
theorem d_26_62 : am_code 26 62 = some (.getfield 41, 3) := by decide +kernel
theorem s_26_62 (cl : am_C) (ls : am_Ls) (st : List am_V) (N : Nat) (I : Nat → Int → Int) (L : Nat → Int → Int64) : am_go0 cl 26 62 ls (.inr (.inr (some 33)) :: st) (am_GS N, am_GR, I, L) = am_go0 cl 26 65 ls (.inr (.inr (some 39)) :: st) (am_GS N, am_GR, I, L) := am_rG2 am_m26 d_26_62 am_f1041 rfl (gs_33 N) (by decide) gr_33_12 rfl
theorem d_26_65 : am_code 26 65 = some (.iload_n 3, 1) := by decide +kernel
theorem s_26_65 (cl : am_C) (a0 a1 a2 a4 a5 : Option am_V) (x : Int) (st : List am_V) (h : am_H) : am_go0 cl 26 65 [a0, a1, a2, some (.inl x), a4, a5] st h = am_go0 cl 26 66 [a0, a1, a2, some (.inl x), a4, a5] (.inl x :: st) h := am_r am_m26 d_26_65 rfl
theorem d_26_66 : am_code 26 66 = some (.iaload, 1) := by decide +kernel
theorem s_26_66 (cl : am_C) (ls : am_Ls) (i : Int) (k : Nat) (st : List am_V) (N : Nat) (I : Nat → Int → Int) (L : Nat → Int → Int64) : am_go0 cl 26 66 ls (.inl i :: .inr (.inr (some k)) :: st) (am_GS N, am_GR, I, L) = if am_inb (am_GS N) k 0 i = true then am_go0 cl 26 67 ls (.inl (I k i) :: st) (am_GS N, am_GR, I, L) else none := am_rA am_m26 d_26_66 (by decide) rfl k ls st i _ _ I L
theorem d_26_67 : am_code 26 67 = some (.invokevirtual 81, 3) := by decide +kernel
theorem s_26_67 (cl : am_C) (ls : am_Ls) (x0 : Int) (z0 : Int) (N : Nat) (I : Nat → Int → Int) (L : Nat → Int → Int64) : am_go0 cl 26 67 ls [.inl x0, .inr (.inr (some 33)), .inl z0] (am_GS N, am_GR, I, L) = am_bd (cl 16 [.inr (.inr (some 33)), .inl x0] (am_GS N, am_GR, I, L)) (fun v h2 => am_go0 cl 26 70 ls (v.toList ++ [.inl z0]) h2) := am_rV am_m26 d_26_67 am_k1081 rfl am_m16 (gs_33 N) (by decide) (Nat.le_of_ble_eq_true rfl) rfl ls
theorem d_26_70 : am_code 26 70 = some (.if_icmp .ge 52, 3) := by decide +kernel
theorem s_26_70 (cl : am_C) (ls : am_Ls) (x y : Int) (st : List am_V) (h : am_H) : am_go0 cl 26 70 ls (.inl y :: .inl x :: st) h = if x < y then am_go0 cl 26 73 ls st h else am_go0 cl 26 122 ls st h := (am_rJ0 am_m26 d_26_70 (by decide) rfl x y ls st h).trans (am_ifF ((am_cmp_ge x y).trans Int.not_lt.symm) _ _)
theorem d_26_73 : am_code 26 73 = some (.aload_n 0, 1) := by decide +kernel
theorem s_26_73 (cl : am_C) (a1 a2 a3 a4 a5 : Option am_V) (x : Nat) (st : List am_V) (h : am_H) : am_go0 cl 26 73 [some (.inr (.inr (some x))), a1, a2, a3, a4, a5] st h = am_go0 cl 26 74 [some (.inr (.inr (some x))), a1, a2, a3, a4, a5] (.inr (.inr (some x)) :: st) h := am_r am_m26 d_26_73 rfl
theorem d_26_74 : am_code 26 74 = some (.aload_n 0, 1) := by decide +kernel
theorem s_26_74 (cl : am_C) (a1 a2 a3 a4 a5 : Option am_V) (x : Nat) (st : List am_V) (h : am_H) : am_go0 cl 26 74 [some (.inr (.inr (some x))), a1, a2, a3, a4, a5] st h = am_go0 cl 26 75 [some (.inr (.inr (some x))), a1, a2, a3, a4, a5] (.inr (.inr (some x)) :: st) h := am_r am_m26 d_26_74 rfl
theorem d_26_75 : am_code 26 75 = some (.getfield 41, 3) := by decide +kernel
theorem s_26_75 (cl : am_C) (ls : am_Ls) (st : List am_V) (N : Nat) (I : Nat → Int → Int) (L : Nat → Int → Int64) : am_go0 cl 26 75 ls (.inr (.inr (some 33)) :: st) (am_GS N, am_GR, I, L) = am_go0 cl 26 78 ls (.inr (.inr (some 39)) :: st) (am_GS N, am_GR, I, L) := am_rG2 am_m26 d_26_75 am_f1041 rfl (gs_33 N) (by decide) gr_33_12 rfl
theorem d_26_78 : am_code 26 78 = some (.iload_n 3, 1) := by decide +kernel
theorem s_26_78 (cl : am_C) (a0 a1 a2 a4 a5 : Option am_V) (x : Int) (st : List am_V) (h : am_H) : am_go0 cl 26 78 [a0, a1, a2, some (.inl x), a4, a5] st h = am_go0 cl 26 79 [a0, a1, a2, some (.inl x), a4, a5] (.inl x :: st) h := am_r am_m26 d_26_78 rfl
theorem d_26_79 : am_code 26 79 = some (.iaload, 1) := by decide +kernel
theorem s_26_79 (cl : am_C) (ls : am_Ls) (i : Int) (k : Nat) (st : List am_V) (N : Nat) (I : Nat → Int → Int) (L : Nat → Int → Int64) : am_go0 cl 26 79 ls (.inl i :: .inr (.inr (some k)) :: st) (am_GS N, am_GR, I, L) = if am_inb (am_GS N) k 0 i = true then am_go0 cl 26 80 ls (.inl (I k i) :: st) (am_GS N, am_GR, I, L) else none := am_rA am_m26 d_26_79 (by decide) rfl k ls st i _ _ I L
theorem d_26_80 : am_code 26 80 = some (.iload 4, 2) := by decide +kernel
theorem s_26_80 (cl : am_C) (a0 a1 a2 a3 a5 : Option am_V) (x : Int) (st : List am_V) (h : am_H) : am_go0 cl 26 80 [a0, a1, a2, a3, some (.inl x), a5] st h = am_go0 cl 26 82 [a0, a1, a2, a3, some (.inl x), a5] (.inl x :: st) h := am_r am_m26 d_26_80 rfl
theorem d_26_82 : am_code 26 82 = some (.invokevirtual 71, 3) := by decide +kernel
theorem s_26_82 (cl : am_C) (ls : am_Ls) (x0 : Int) (x1 : Int) (N : Nat) (I : Nat → Int → Int) (L : Nat → Int → Int64) : am_go0 cl 26 82 ls [.inl x1, .inl x0, .inr (.inr (some 33))] (am_GS N, am_GR, I, L) = am_bd (cl 22 [.inr (.inr (some 33)), .inl x0, .inl x1] (am_GS N, am_GR, I, L)) (fun v h2 => am_go0 cl 26 85 ls (v.toList ++ []) h2) := am_rV am_m26 d_26_82 am_k1071 rfl am_m22 (gs_33 N) (by decide) (Nat.le_of_ble_eq_true rfl) rfl ls
theorem d_26_85 : am_code 26 85 = some (.istore 5, 2) := by decide +kernel
theorem s_26_85 (cl : am_C) (a0 a1 a2 a3 a4 a5 : Option am_V) (x : Int) (st : List am_V) (h : am_H) : am_go0 cl 26 85 [a0, a1, a2, a3, a4, a5] (.inl x :: st) h = am_go0 cl 26 87 [a0, a1, a2, a3, am_c1 a4, some (.inl x)] st h := am_r am_m26 d_26_85 rfl
theorem d_26_87 : am_code 26 87 = some (.aload_n 0, 1) := by decide +kernel
theorem s_26_87 (cl : am_C) (a1 a2 a3 a4 a5 : Option am_V) (x : Nat) (st : List am_V) (h : am_H) : am_go0 cl 26 87 [some (.inr (.inr (some x))), a1, a2, a3, a4, a5] st h = am_go0 cl 26 88 [some (.inr (.inr (some x))), a1, a2, a3, a4, a5] (.inr (.inr (some x)) :: st) h := am_r am_m26 d_26_87 rfl
theorem d_26_88 : am_code 26 88 = some (.getfield 44, 3) := by decide +kernel
theorem s_26_88 (cl : am_C) (ls : am_Ls) (st : List am_V) (N : Nat) (I : Nat → Int → Int) (L : Nat → Int → Int64) : am_go0 cl 26 88 ls (.inr (.inr (some 33)) :: st) (am_GS N, am_GR, I, L) = am_go0 cl 26 91 ls (.inr (.inr (some 40)) :: st) (am_GS N, am_GR, I, L) := am_rG2 am_m26 d_26_88 am_f1044 rfl (gs_33 N) (by decide) gr_33_13 rfl
theorem d_26_91 : am_code 26 91 = some (.iload 5, 2) := by decide +kernel
theorem s_26_91 (cl : am_C) (a0 a1 a2 a3 a4 : Option am_V) (x : Int) (st : List am_V) (h : am_H) : am_go0 cl 26 91 [a0, a1, a2, a3, a4, some (.inl x)] st h = am_go0 cl 26 93 [a0, a1, a2, a3, a4, some (.inl x)] (.inl x :: st) h := am_r am_m26 d_26_91 rfl
theorem d_26_93 : am_code 26 93 = some (.baload, 1) := by decide +kernel
theorem s_26_93 (cl : am_C) (ls : am_Ls) (i : Int) (k : Nat) (st : List am_V) (N : Nat) (I : Nat → Int → Int) (L : Nat → Int → Int64) : am_go0 cl 26 93 ls (.inl i :: .inr (.inr (some k)) :: st) (am_GS N, am_GR, I, L) = if am_inb (am_GS N) k 2 i = true then am_go0 cl 26 94 ls (.inl (I k i) :: st) (am_GS N, am_GR, I, L) else none := am_rAb am_m26 d_26_93 rfl k ls st i _ _ I L
theorem d_26_94 : am_code 26 94 = some (.ifCond .ne 22, 3) := by decide +kernel
theorem s_26_94 (cl : am_C) (ls : am_Ls) (x : Int) (st : List am_V) (h : am_H) : am_go0 cl 26 94 ls (.inl x :: st) h = if x = 0 then am_go0 cl 26 97 ls st h else am_go0 cl 26 116 ls st h := (am_rJ1 am_m26 d_26_94 (by decide) rfl x ls st h).trans (am_ifF ((am_cmp_ne x 0).trans Iff.rfl) _ _)
theorem d_26_97 : am_code 26 97 = some (.aload_n 0, 1) := by decide +kernel
theorem s_26_97 (cl : am_C) (a1 a2 a3 a4 a5 : Option am_V) (x : Nat) (st : List am_V) (h : am_H) : am_go0 cl 26 97 [some (.inr (.inr (some x))), a1, a2, a3, a4, a5] st h = am_go0 cl 26 98 [some (.inr (.inr (some x))), a1, a2, a3, a4, a5] (.inr (.inr (some x)) :: st) h := am_r am_m26 d_26_97 rfl
theorem d_26_98 : am_code 26 98 = some (.getfield 44, 3) := by decide +kernel
theorem s_26_98 (cl : am_C) (ls : am_Ls) (st : List am_V) (N : Nat) (I : Nat → Int → Int) (L : Nat → Int → Int64) : am_go0 cl 26 98 ls (.inr (.inr (some 33)) :: st) (am_GS N, am_GR, I, L) = am_go0 cl 26 101 ls (.inr (.inr (some 40)) :: st) (am_GS N, am_GR, I, L) := am_rG2 am_m26 d_26_98 am_f1044 rfl (gs_33 N) (by decide) gr_33_13 rfl
theorem d_26_101 : am_code 26 101 = some (.iload 5, 2) := by decide +kernel
theorem s_26_101 (cl : am_C) (a0 a1 a2 a3 a4 : Option am_V) (x : Int) (st : List am_V) (h : am_H) : am_go0 cl 26 101 [a0, a1, a2, a3, a4, some (.inl x)] st h = am_go0 cl 26 103 [a0, a1, a2, a3, a4, some (.inl x)] (.inl x :: st) h := am_r am_m26 d_26_101 rfl
theorem d_26_103 : am_code 26 103 = some (.iconst 1, 1) := by decide +kernel
theorem s_26_103 (cl : am_C) (ls : am_Ls) (st : List am_V) (h : am_H) : am_go0 cl 26 103 ls st h = am_go0 cl 26 104 ls (.inl 1 :: st) h := am_rK am_m26 d_26_103 (by decide) rfl _ _ _
theorem d_26_104 : am_code 26 104 = some (.bastore, 1) := by decide +kernel
theorem s_26_104 (cl : am_C) (ls : am_Ls) (i : Int) (v : Int) (k : Nat) (st : List am_V) (N : Nat) (I : Nat → Int → Int) (L : Nat → Int → Int64) : am_go0 cl 26 104 ls (.inl v :: .inl i :: .inr (.inr (some k)) :: st) (am_GS N, am_GR, I, L) = if am_inb (am_GS N) k 2 i = true ∧ (v = 0 ∨ v = 1) then am_go0 cl 26 105 ls st (am_GS N, am_GR, am_uI I k i v, L) else none := am_rSb am_m26 d_26_104 rfl k ls st i v _ _ I L
theorem d_26_105 : am_code 26 105 = some (.aload_n 0, 1) := by decide +kernel
theorem s_26_105 (cl : am_C) (a1 a2 a3 a4 a5 : Option am_V) (x : Nat) (st : List am_V) (h : am_H) : am_go0 cl 26 105 [some (.inr (.inr (some x))), a1, a2, a3, a4, a5] st h = am_go0 cl 26 106 [some (.inr (.inr (some x))), a1, a2, a3, a4, a5] (.inr (.inr (some x)) :: st) h := am_r am_m26 d_26_105 rfl
theorem d_26_106 : am_code 26 106 = some (.getfield 41, 3) := by decide +kernel
theorem s_26_106 (cl : am_C) (ls : am_Ls) (st : List am_V) (N : Nat) (I : Nat → Int → Int) (L : Nat → Int → Int64) : am_go0 cl 26 106 ls (.inr (.inr (some 33)) :: st) (am_GS N, am_GR, I, L) = am_go0 cl 26 109 ls (.inr (.inr (some 39)) :: st) (am_GS N, am_GR, I, L) := am_rG2 am_m26 d_26_106 am_f1041 rfl (gs_33 N) (by decide) gr_33_12 rfl
theorem d_26_109 : am_code 26 109 = some (.iload_n 2, 1) := by decide +kernel
theorem s_26_109 (cl : am_C) (a0 a1 a3 a4 a5 : Option am_V) (x : Int) (st : List am_V) (h : am_H) : am_go0 cl 26 109 [a0, a1, some (.inl x), a3, a4, a5] st h = am_go0 cl 26 110 [a0, a1, some (.inl x), a3, a4, a5] (.inl x :: st) h := am_r am_m26 d_26_109 rfl
theorem d_26_110 : am_code 26 110 = some (.iinc 2 1, 3) := by decide +kernel
theorem s_26_110 (cl : am_C) (a0 a1 a3 a4 a5 : Option am_V) (x : Int) (st : List am_V) (h : am_H) : am_go0 cl 26 110 [a0, a1, some (.inl x), a3, a4, a5] st h = am_go0 cl 26 113 [a0, am_c1 a1, some (.inl (am_wr (x + 1))), a3, a4, a5] st h := am_r am_m26 d_26_110 rfl
theorem d_26_113 : am_code 26 113 = some (.iload 5, 2) := by decide +kernel
theorem s_26_113 (cl : am_C) (a0 a1 a2 a3 a4 : Option am_V) (x : Int) (st : List am_V) (h : am_H) : am_go0 cl 26 113 [a0, a1, a2, a3, a4, some (.inl x)] st h = am_go0 cl 26 115 [a0, a1, a2, a3, a4, some (.inl x)] (.inl x :: st) h := am_r am_m26 d_26_113 rfl
theorem d_26_115 : am_code 26 115 = some (.iastore, 1) := by decide +kernel
theorem s_26_115 (cl : am_C) (ls : am_Ls) (i : Int) (v : Int) (k : Nat) (st : List am_V) (N : Nat) (I : Nat → Int → Int) (L : Nat → Int → Int64) : am_go0 cl 26 115 ls (.inl v :: .inl i :: .inr (.inr (some k)) :: st) (am_GS N, am_GR, I, L) = if am_inb (am_GS N) k 0 i = true then am_go0 cl 26 116 ls st (am_GS N, am_GR, am_uI I k i v, L) else none := am_rS am_m26 d_26_115 rfl k ls st i v _ _ I L
theorem d_26_116 : am_code 26 116 = some (.iinc 4 1, 3) := by decide +kernel
theorem s_26_116 (cl : am_C) (a0 a1 a2 a3 a5 : Option am_V) (x : Int) (st : List am_V) (h : am_H) : am_go0 cl 26 116 [a0, a1, a2, a3, some (.inl x), a5] st h = am_go0 cl 26 119 [a0, a1, a2, am_c1 a3, some (.inl (am_wr (x + 1))), a5] st h := am_r am_m26 d_26_116 rfl
theorem d_26_119 : am_code 26 119 = some (.goto (-61), 3) := by decide +kernel
theorem s_26_119 (cl : am_C) (ls : am_Ls) (st : List am_V) (h : am_H) : am_go0 cl 26 119 ls st h = am_go0 cl 26 58 ls st h := am_rGo am_m26 d_26_119 (by decide) _ _ _
theorem d_26_122 : am_code 26 122 = some (.iinc 3 1, 3) := by decide +kernel
theorem s_26_122 (cl : am_C) (a0 a1 a2 a4 a5 : Option am_V) (x : Int) (st : List am_V) (h : am_H) : am_go0 cl 26 122 [a0, a1, a2, some (.inl x), a4, a5] st h = am_go0 cl 26 125 [a0, a1, am_c1 a2, some (.inl (am_wr (x + 1))), a4, a5] st h := am_r am_m26 d_26_122 rfl
theorem d_26_125 : am_code 26 125 = some (.goto (-81), 3) := by decide +kernel
theorem s_26_125 (cl : am_C) (ls : am_Ls) (st : List am_V) (h : am_H) : am_go0 cl 26 125 ls st h = am_go0 cl 26 44 ls st h := am_rGo am_m26 d_26_125 (by decide) _ _ _
theorem d_26_128 : am_code 26 128 = some (.iload_n 2, 1) := by decide +kernel
theorem s_26_128 (cl : am_C) (a0 a1 a3 a4 a5 : Option am_V) (x : Int) (st : List am_V) (h : am_H) : am_go0 cl 26 128 [a0, a1, some (.inl x), a3, a4, a5] st h = am_go0 cl 26 129 [a0, a1, some (.inl x), a3, a4, a5] (.inl x :: st) h := am_r am_m26 d_26_128 rfl
theorem d_26_129 : am_code 26 129 = some (.ireturn, 1) := by decide +kernel
theorem s_26_129 (cl : am_C) (ls : am_Ls) (x : Int) (h : am_H) : am_go0 cl 26 129 ls [.inl x] h = some (some (.inl x), h) := am_rE am_m26 d_26_129 rfl
theorem e_26 (d : Nat) (t : Nat) (p0 : Int) (h : am_H) : am_call (d + 1) 26 [.inr (.inr (some t)), .inl p0] h = am_go0 (am_call d) 26 0 [some (.inr (.inr (some t))), some (.inl p0), none, none, none, none] [] h := am_callE am_m26 (Nat.le_of_ble_eq_true rfl) rfl
theorem d_27_0 : am_code 27 0 = some (.aload_n 0, 1) := by decide +kernel
theorem s_27_0 (cl : am_C) (a1 a2 : Option am_V) (x : Nat) (st : List am_V) (h : am_H) : am_go0 cl 27 0 [some (.inr (.inr (some x))), a1, a2] st h = am_go0 cl 27 1 [some (.inr (.inr (some x))), a1, a2] (.inr (.inr (some x)) :: st) h := am_r am_m27 d_27_0 rfl
theorem d_27_1 : am_code 27 1 = some (.iload_n 1, 1) := by decide +kernel
theorem s_27_1 (cl : am_C) (a0 a2 : Option am_V) (x : Int) (st : List am_V) (h : am_H) : am_go0 cl 27 1 [a0, some (.inl x), a2] st h = am_go0 cl 27 2 [a0, some (.inl x), a2] (.inl x :: st) h := am_r am_m27 d_27_1 rfl
theorem d_27_2 : am_code 27 2 = some (.aload_n 0, 1) := by decide +kernel
theorem s_27_2 (cl : am_C) (a1 a2 : Option am_V) (x : Nat) (st : List am_V) (h : am_H) : am_go0 cl 27 2 [some (.inr (.inr (some x))), a1, a2] st h = am_go0 cl 27 3 [some (.inr (.inr (some x))), a1, a2] (.inr (.inr (some x)) :: st) h := am_r am_m27 d_27_2 rfl
theorem d_27_3 : am_code 27 3 = some (.getfield 56, 3) := by decide +kernel
theorem s_27_3 (cl : am_C) (ls : am_Ls) (st : List am_V) (N : Nat) (I : Nat → Int → Int) (L : Nat → Int → Int64) : am_go0 cl 27 3 ls (.inr (.inr (some 33)) :: st) (am_GS N, am_GR, I, L) = am_go0 cl 27 6 ls (.inr (.inr (some 15)) :: st) (am_GS N, am_GR, I, L) := am_rG2 am_m27 d_27_3 am_f1056 rfl (gs_33 N) (by decide) gr_33_2 rfl
theorem d_27_6 : am_code 27 6 = some (.aload_n 0, 1) := by decide +kernel
theorem s_27_6 (cl : am_C) (a1 a2 : Option am_V) (x : Nat) (st : List am_V) (h : am_H) : am_go0 cl 27 6 [some (.inr (.inr (some x))), a1, a2] st h = am_go0 cl 27 7 [some (.inr (.inr (some x))), a1, a2] (.inr (.inr (some x)) :: st) h := am_r am_m27 d_27_6 rfl
theorem d_27_7 : am_code 27 7 = some (.getfield 22, 3) := by decide +kernel
theorem s_27_7 (cl : am_C) (ls : am_Ls) (st : List am_V) (N : Nat) (I : Nat → Int → Int) (L : Nat → Int → Int64) : am_go0 cl 27 7 ls (.inr (.inr (some 33)) :: st) (am_GS N, am_GR, I, L) = am_go0 cl 27 10 ls (.inr (.inr (some 36)) :: st) (am_GS N, am_GR, I, L) := am_rG2 am_m27 d_27_7 am_f1022 rfl (gs_33 N) (by decide) gr_33_6 rfl
theorem d_27_10 : am_code 27 10 = some (.iload_n 1, 1) := by decide +kernel
theorem s_27_10 (cl : am_C) (a0 a2 : Option am_V) (x : Int) (st : List am_V) (h : am_H) : am_go0 cl 27 10 [a0, some (.inl x), a2] st h = am_go0 cl 27 11 [a0, some (.inl x), a2] (.inl x :: st) h := am_r am_m27 d_27_10 rfl
theorem d_27_11 : am_code 27 11 = some (.iaload, 1) := by decide +kernel
theorem s_27_11 (cl : am_C) (ls : am_Ls) (i : Int) (k : Nat) (st : List am_V) (N : Nat) (I : Nat → Int → Int) (L : Nat → Int → Int64) : am_go0 cl 27 11 ls (.inl i :: .inr (.inr (some k)) :: st) (am_GS N, am_GR, I, L) = if am_inb (am_GS N) k 0 i = true then am_go0 cl 27 12 ls (.inl (I k i) :: st) (am_GS N, am_GR, I, L) else none := am_rA am_m27 d_27_11 (by decide) rfl k ls st i _ _ I L
theorem d_27_12 : am_code 27 12 = some (.invokevirtual 64, 3) := by decide +kernel
theorem s_27_12 (cl : am_C) (ls : am_Ls) (x0 : Int) (z0 : Int) (z1 : Nat) (N : Nat) (I : Nat → Int → Int) (L : Nat → Int → Int64) : am_go0 cl 27 12 ls [.inl x0, .inr (.inr (some 15)), .inl z0, .inr (.inr (some z1))] (am_GS N, am_GR, I, L) = am_bd (cl 36 [.inr (.inr (some 15)), .inl x0] (am_GS N, am_GR, I, L)) (fun v h2 => am_go0 cl 27 15 ls (v.toList ++ [.inl z0, .inr (.inr (some z1))]) h2) := am_rV am_m27 d_27_12 am_k1064 rfl am_m36 (gs_15 N) (by decide) (Nat.le_of_ble_eq_true rfl) rfl ls
theorem d_27_15 : am_code 27 15 = some (.iload_n 2, 1) := by decide +kernel
theorem s_27_15 (cl : am_C) (a0 a1 : Option am_V) (x : Int) (st : List am_V) (h : am_H) : am_go0 cl 27 15 [a0, a1, some (.inl x)] st h = am_go0 cl 27 16 [a0, a1, some (.inl x)] (.inl x :: st) h := am_r am_m27 d_27_15 rfl
theorem d_27_16 : am_code 27 16 = some (.iadd, 1) := by decide +kernel
theorem s_27_16 (cl : am_C) (ls : am_Ls) (x y : Int) (st : List am_V) (h : am_H) : am_go0 cl 27 16 ls (.inl y :: .inl x :: st) h = am_go0 cl 27 17 ls (.inl (am_wr (x + y)) :: st) h := am_r am_m27 d_27_16 rfl
theorem d_27_17 : am_code 27 17 = some (.invokevirtual 71, 3) := by decide +kernel
theorem s_27_17 (cl : am_C) (ls : am_Ls) (x0 : Int) (x1 : Int) (N : Nat) (I : Nat → Int → Int) (L : Nat → Int → Int64) : am_go0 cl 27 17 ls [.inl x1, .inl x0, .inr (.inr (some 33))] (am_GS N, am_GR, I, L) = am_bd (cl 22 [.inr (.inr (some 33)), .inl x0, .inl x1] (am_GS N, am_GR, I, L)) (fun v h2 => am_go0 cl 27 20 ls (v.toList ++ []) h2) := am_rV am_m27 d_27_17 am_k1071 rfl am_m22 (gs_33 N) (by decide) (Nat.le_of_ble_eq_true rfl) rfl ls
theorem d_27_20 : am_code 27 20 = some (.ireturn, 1) := by decide +kernel
theorem s_27_20 (cl : am_C) (ls : am_Ls) (x : Int) (h : am_H) : am_go0 cl 27 20 ls [.inl x] h = some (some (.inl x), h) := am_rE am_m27 d_27_20 rfl
theorem e_27 (d : Nat) (t : Nat) (p0 : Int) (p1 : Int) (h : am_H) : am_call (d + 1) 27 [.inr (.inr (some t)), .inl p0, .inl p1] h = am_go0 (am_call d) 27 0 [some (.inr (.inr (some t))), some (.inl p0), some (.inl p1)] [] h := am_callE am_m27 (Nat.le_of_ble_eq_true rfl) rfl
theorem d_28_0 : am_code 28 0 = some (.aload_n 0, 1) := by decide +kernel
theorem s_28_0 (cl : am_C) (x : Nat) (st : List am_V) (h : am_H) : am_go0 cl 28 0 [some (.inr (.inr (some x)))] st h = am_go0 cl 28 1 [some (.inr (.inr (some x)))] (.inr (.inr (some x)) :: st) h := am_r am_m28 d_28_0 rfl
theorem d_28_1 : am_code 28 1 = some (.getfield 31, 3) := by decide +kernel
theorem s_28_1 (cl : am_C) (ls : am_Ls) (st : List am_V) (N : Nat) (I : Nat → Int → Int) (L : Nat → Int → Int64) : am_go0 cl 28 1 ls (.inr (.inr (some 33)) :: st) (am_GS N, am_GR, I, L) = am_go0 cl 28 4 ls (.inl (I 33 9) :: st) (am_GS N, am_GR, I, L) := am_rG0 am_m28 d_28_1 am_f1031 rfl (gs_33 N) (by decide) rfl
theorem d_28_4 : am_code 28 4 = some (.ireturn, 1) := by decide +kernel
theorem s_28_4 (cl : am_C) (ls : am_Ls) (x : Int) (h : am_H) : am_go0 cl 28 4 ls [.inl x] h = some (some (.inl x), h) := am_rE am_m28 d_28_4 rfl
theorem e_28 (d : Nat) (t : Nat) (h : am_H) : am_call (d + 1) 28 [.inr (.inr (some t))] h = am_go0 (am_call d) 28 0 [some (.inr (.inr (some t)))] [] h := am_callE am_m28 (Nat.le_of_ble_eq_true rfl) rfl
