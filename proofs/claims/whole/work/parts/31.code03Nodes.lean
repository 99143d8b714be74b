theorem d_43_0 : am_code 43 0 = some (.aload_n 0, 1) := by decide +kernel
theorem s_43_0 (cl : am_C) (a1 a2 a3 a4 a5 : Option am_V) (x : Nat) (st : List am_V) (h : am_H) : am_go0 cl 43 0 [some (.inr (.inr (some x))), a1, a2, a3, a4, a5] st h = am_go0 cl 43 1 [some (.inr (.inr (some x))), a1, a2, a3, a4, a5] (.inr (.inr (some x)) :: st) h := am_r am_m43 d_43_0 rfl
theorem d_43_1 : am_code 43 1 = some (.iload_n 1, 1) := by decide +kernel
theorem s_43_1 (cl : am_C) (a0 a2 a3 a4 a5 : Option am_V) (x : Int) (st : List am_V) (h : am_H) : am_go0 cl 43 1 [a0, some (.inl x), a2, a3, a4, a5] st h = am_go0 cl 43 2 [a0, some (.inl x), a2, a3, a4, a5] (.inl x :: st) h := am_r am_m43 d_43_1 rfl
theorem d_43_2 : am_code 43 2 = some (.iload_n 2, 1) := by decide +kernel
theorem s_43_2 (cl : am_C) (a0 a1 a3 a4 a5 : Option am_V) (x : Int) (st : List am_V) (h : am_H) : am_go0 cl 43 2 [a0, a1, some (.inl x), a3, a4, a5] st h = am_go0 cl 43 3 [a0, a1, some (.inl x), a3, a4, a5] (.inl x :: st) h := am_r am_m43 d_43_2 rfl
theorem d_43_3 : am_code 43 3 = some (.iload_n 3, 1) := by decide +kernel
theorem s_43_3 (cl : am_C) (a0 a1 a2 a4 a5 : Option am_V) (x : Int) (st : List am_V) (h : am_H) : am_go0 cl 43 3 [a0, a1, a2, some (.inl x), a4, a5] st h = am_go0 cl 43 4 [a0, a1, a2, some (.inl x), a4, a5] (.inl x :: st) h := am_r am_m43 d_43_3 rfl
theorem d_43_4 : am_code 43 4 = some (.iload 4, 2) := by decide +kernel
theorem s_43_4 (cl : am_C) (a0 a1 a2 a3 a5 : Option am_V) (x : Int) (st : List am_V) (h : am_H) : am_go0 cl 43 4 [a0, a1, a2, a3, some (.inl x), a5] st h = am_go0 cl 43 6 [a0, a1, a2, a3, some (.inl x), a5] (.inl x :: st) h := am_r am_m43 d_43_4 rfl
theorem d_43_6 : am_code 43 6 = some (.invokevirtual 47, 3) := by decide +kernel
theorem s_43_6 (cl : am_C) (ls : am_Ls) (x0 : Int) (x1 : Int) (x2 : Int) (x3 : Int) (N : Nat) (I : Nat → Int → Int) (L : Nat → Int → Int64) : am_go0 cl 43 6 ls [.inl x3, .inl x2, .inl x1, .inl x0, .inr (.inr (some 22))] (am_GS N, am_GR, I, L) = am_bd (cl 44 [.inr (.inr (some 22)), .inl x0, .inl x1, .inl x2, .inl x3] (am_GS N, am_GR, I, L)) (fun v h2 => am_go0 cl 43 9 ls (v.toList ++ []) h2) := am_rV am_m43 d_43_6 am_k3047 rfl am_m44 (gs_22 N) (by decide) (Nat.le_of_ble_eq_true rfl) rfl ls
theorem d_43_9 : am_code 43 9 = some (.ifCond .ne 6, 3) := by decide +kernel
theorem s_43_9 (cl : am_C) (ls : am_Ls) (x : Int) (st : List am_V) (h : am_H) : am_go0 cl 43 9 ls (.inl x :: st) h = if x = 0 then am_go0 cl 43 12 ls st h else am_go0 cl 43 15 ls st h := (am_rJ1 am_m43 d_43_9 (by decide) rfl x ls st h).trans (am_ifF ((am_cmp_ne x 0).trans Iff.rfl) _ _)
theorem d_43_12 : am_code 43 12 = some (.bipush (-2), 2) := by decide +kernel
theorem s_43_12 (cl : am_C) (ls : am_Ls) (st : List am_V) (h : am_H) : am_go0 cl 43 12 ls st h = am_go0 cl 43 14 ls (.inl (-2) :: st) h := am_rB am_m43 d_43_12 (by decide) rfl _ _ _
theorem d_43_14 : am_code 43 14 = some (.ireturn, 1) := by decide +kernel
theorem s_43_14 (cl : am_C) (ls : am_Ls) (x : Int) (h : am_H) : am_go0 cl 43 14 ls [.inl x] h = some (some (.inl x), h) := am_rE am_m43 d_43_14 rfl
theorem d_43_15 : am_code 43 15 = some (.aload_n 0, 1) := by decide +kernel
theorem s_43_15 (cl : am_C) (a1 a2 a3 a4 a5 : Option am_V) (x : Nat) (st : List am_V) (h : am_H) : am_go0 cl 43 15 [some (.inr (.inr (some x))), a1, a2, a3, a4, a5] st h = am_go0 cl 43 16 [some (.inr (.inr (some x))), a1, a2, a3, a4, a5] (.inr (.inr (some x)) :: st) h := am_r am_m43 d_43_15 rfl
theorem d_43_16 : am_code 43 16 = some (.iload_n 1, 1) := by decide +kernel
theorem s_43_16 (cl : am_C) (a0 a2 a3 a4 a5 : Option am_V) (x : Int) (st : List am_V) (h : am_H) : am_go0 cl 43 16 [a0, some (.inl x), a2, a3, a4, a5] st h = am_go0 cl 43 17 [a0, some (.inl x), a2, a3, a4, a5] (.inl x :: st) h := am_r am_m43 d_43_16 rfl
theorem d_43_17 : am_code 43 17 = some (.iload_n 2, 1) := by decide +kernel
theorem s_43_17 (cl : am_C) (a0 a1 a3 a4 a5 : Option am_V) (x : Int) (st : List am_V) (h : am_H) : am_go0 cl 43 17 [a0, a1, some (.inl x), a3, a4, a5] st h = am_go0 cl 43 18 [a0, a1, some (.inl x), a3, a4, a5] (.inl x :: st) h := am_r am_m43 d_43_17 rfl
theorem d_43_18 : am_code 43 18 = some (.iload_n 3, 1) := by decide +kernel
theorem s_43_18 (cl : am_C) (a0 a1 a2 a4 a5 : Option am_V) (x : Int) (st : List am_V) (h : am_H) : am_go0 cl 43 18 [a0, a1, a2, some (.inl x), a4, a5] st h = am_go0 cl 43 19 [a0, a1, a2, some (.inl x), a4, a5] (.inl x :: st) h := am_r am_m43 d_43_18 rfl
theorem d_43_19 : am_code 43 19 = some (.iload 4, 2) := by decide +kernel
theorem s_43_19 (cl : am_C) (a0 a1 a2 a3 a5 : Option am_V) (x : Int) (st : List am_V) (h : am_H) : am_go0 cl 43 19 [a0, a1, a2, a3, some (.inl x), a5] st h = am_go0 cl 43 21 [a0, a1, a2, a3, some (.inl x), a5] (.inl x :: st) h := am_r am_m43 d_43_19 rfl
theorem d_43_21 : am_code 43 21 = some (.invokevirtual 51, 3) := by decide +kernel
theorem s_43_21 (cl : am_C) (ls : am_Ls) (x0 : Int) (x1 : Int) (x2 : Int) (x3 : Int) (N : Nat) (I : Nat → Int → Int) (L : Nat → Int → Int64) : am_go0 cl 43 21 ls [.inl x3, .inl x2, .inl x1, .inl x0, .inr (.inr (some 22))] (am_GS N, am_GR, I, L) = am_bd (cl 47 [.inr (.inr (some 22)), .inl x0, .inl x1, .inl x2, .inl x3] (am_GS N, am_GR, I, L)) (fun v h2 => am_go0 cl 43 24 ls (v.toList ++ []) h2) := am_rV am_m43 d_43_21 am_k3051 rfl am_m47 (gs_22 N) (by decide) (Nat.le_of_ble_eq_true rfl) rfl ls
theorem d_43_24 : am_code 43 24 = some (.istore 5, 2) := by decide +kernel
theorem s_43_24 (cl : am_C) (a0 a1 a2 a3 a4 a5 : Option am_V) (x : Int) (st : List am_V) (h : am_H) : am_go0 cl 43 24 [a0, a1, a2, a3, a4, a5] (.inl x :: st) h = am_go0 cl 43 26 [a0, a1, a2, a3, am_c1 a4, some (.inl x)] st h := am_r am_m43 d_43_24 rfl
theorem d_43_26 : am_code 43 26 = some (.iload 5, 2) := by decide +kernel
theorem s_43_26 (cl : am_C) (a0 a1 a2 a3 a4 : Option am_V) (x : Int) (st : List am_V) (h : am_H) : am_go0 cl 43 26 [a0, a1, a2, a3, a4, some (.inl x)] st h = am_go0 cl 43 28 [a0, a1, a2, a3, a4, some (.inl x)] (.inl x :: st) h := am_r am_m43 d_43_26 rfl
theorem d_43_28 : am_code 43 28 = some (.bipush 8, 2) := by decide +kernel
theorem s_43_28 (cl : am_C) (ls : am_Ls) (st : List am_V) (h : am_H) : am_go0 cl 43 28 ls st h = am_go0 cl 43 30 ls (.inl 8 :: st) h := am_rB am_m43 d_43_28 (by decide) rfl _ _ _
theorem d_43_30 : am_code 43 30 = some (.if_icmp .le 6, 3) := by decide +kernel
theorem s_43_30 (cl : am_C) (ls : am_Ls) (x y : Int) (st : List am_V) (h : am_H) : am_go0 cl 43 30 ls (.inl y :: .inl x :: st) h = if y < x then am_go0 cl 43 33 ls st h else am_go0 cl 43 36 ls st h := (am_rJ0 am_m43 d_43_30 (by decide) rfl x y ls st h).trans (am_ifF ((am_cmp_le x y).trans Int.not_lt.symm) _ _)
theorem d_43_33 : am_code 43 33 = some (.bipush (-2), 2) := by decide +kernel
theorem s_43_33 (cl : am_C) (ls : am_Ls) (st : List am_V) (h : am_H) : am_go0 cl 43 33 ls st h = am_go0 cl 43 35 ls (.inl (-2) :: st) h := am_rB am_m43 d_43_33 (by decide) rfl _ _ _
theorem d_43_35 : am_code 43 35 = some (.ireturn, 1) := by decide +kernel
theorem s_43_35 (cl : am_C) (ls : am_Ls) (x : Int) (h : am_H) : am_go0 cl 43 35 ls [.inl x] h = some (some (.inl x), h) := am_rE am_m43 d_43_35 rfl
theorem d_43_36 : am_code 43 36 = some (.aload_n 0, 1) := by decide +kernel
theorem s_43_36 (cl : am_C) (a1 a2 a3 a4 a5 : Option am_V) (x : Nat) (st : List am_V) (h : am_H) : am_go0 cl 43 36 [some (.inr (.inr (some x))), a1, a2, a3, a4, a5] st h = am_go0 cl 43 37 [some (.inr (.inr (some x))), a1, a2, a3, a4, a5] (.inr (.inr (some x)) :: st) h := am_r am_m43 d_43_36 rfl
theorem d_43_37 : am_code 43 37 = some (.getfield 27, 3) := by decide +kernel
theorem s_43_37 (cl : am_C) (ls : am_Ls) (st : List am_V) (N : Nat) (I : Nat → Int → Int) (L : Nat → Int → Int64) : am_go0 cl 43 37 ls (.inr (.inr (some 22)) :: st) (am_GS N, am_GR, I, L) = am_go0 cl 43 40 ls (.inl (I 22 8) :: st) (am_GS N, am_GR, I, L) := am_rG0 am_m43 d_43_37 am_f3027 rfl (gs_22 N) (by decide) rfl
theorem d_43_40 : am_code 43 40 = some (.bipush 80, 2) := by decide +kernel
theorem s_43_40 (cl : am_C) (ls : am_Ls) (st : List am_V) (h : am_H) : am_go0 cl 43 40 ls st h = am_go0 cl 43 42 ls (.inl 80 :: st) h := am_rB am_m43 d_43_40 (by decide) rfl _ _ _
theorem d_43_42 : am_code 43 42 = some (.if_icmp .lt 6, 3) := by decide +kernel
theorem s_43_42 (cl : am_C) (ls : am_Ls) (x y : Int) (st : List am_V) (h : am_H) : am_go0 cl 43 42 ls (.inl y :: .inl x :: st) h = if x < y then am_go0 cl 43 48 ls st h else am_go0 cl 43 45 ls st h := (am_rJ0 am_m43 d_43_42 (by decide) rfl x y ls st h).trans (am_ifT (am_cmp_lt x y) _ _)
theorem d_43_45 : am_code 43 45 = some (.bipush (-3), 2) := by decide +kernel
theorem s_43_45 (cl : am_C) (ls : am_Ls) (st : List am_V) (h : am_H) : am_go0 cl 43 45 ls st h = am_go0 cl 43 47 ls (.inl (-3) :: st) h := am_rB am_m43 d_43_45 (by decide) rfl _ _ _
theorem d_43_47 : am_code 43 47 = some (.ireturn, 1) := by decide +kernel
theorem s_43_47 (cl : am_C) (ls : am_Ls) (x : Int) (h : am_H) : am_go0 cl 43 47 ls [.inl x] h = some (some (.inl x), h) := am_rE am_m43 d_43_47 rfl
theorem d_43_48 : am_code 43 48 = some (.aload_n 0, 1) := by decide +kernel
theorem s_43_48 (cl : am_C) (a1 a2 a3 a4 a5 : Option am_V) (x : Nat) (st : List am_V) (h : am_H) : am_go0 cl 43 48 [some (.inr (.inr (some x))), a1, a2, a3, a4, a5] st h = am_go0 cl 43 49 [some (.inr (.inr (some x))), a1, a2, a3, a4, a5] (.inr (.inr (some x)) :: st) h := am_r am_m43 d_43_48 rfl
theorem d_43_49 : am_code 43 49 = some (.getfield 11, 3) := by decide +kernel
theorem s_43_49 (cl : am_C) (ls : am_Ls) (st : List am_V) (N : Nat) (I : Nat → Int → Int) (L : Nat → Int → Int64) : am_go0 cl 43 49 ls (.inr (.inr (some 22)) :: st) (am_GS N, am_GR, I, L) = am_go0 cl 43 52 ls (.inr (.inr (some 23)) :: st) (am_GS N, am_GR, I, L) := am_rG2 am_m43 d_43_49 am_f3011 rfl (gs_22 N) (by decide) gr_22_3 rfl
theorem d_43_52 : am_code 43 52 = some (.aload_n 0, 1) := by decide +kernel
theorem s_43_52 (cl : am_C) (a1 a2 a3 a4 a5 : Option am_V) (x : Nat) (st : List am_V) (h : am_H) : am_go0 cl 43 52 [some (.inr (.inr (some x))), a1, a2, a3, a4, a5] st h = am_go0 cl 43 53 [some (.inr (.inr (some x))), a1, a2, a3, a4, a5] (.inr (.inr (some x)) :: st) h := am_r am_m43 d_43_52 rfl
theorem d_43_53 : am_code 43 53 = some (.getfield 27, 3) := by decide +kernel
theorem s_43_53 (cl : am_C) (ls : am_Ls) (st : List am_V) (N : Nat) (I : Nat → Int → Int) (L : Nat → Int → Int64) : am_go0 cl 43 53 ls (.inr (.inr (some 22)) :: st) (am_GS N, am_GR, I, L) = am_go0 cl 43 56 ls (.inl (I 22 8) :: st) (am_GS N, am_GR, I, L) := am_rG0 am_m43 d_43_53 am_f3027 rfl (gs_22 N) (by decide) rfl
theorem d_43_56 : am_code 43 56 = some (.iload_n 1, 1) := by decide +kernel
theorem s_43_56 (cl : am_C) (a0 a2 a3 a4 a5 : Option am_V) (x : Int) (st : List am_V) (h : am_H) : am_go0 cl 43 56 [a0, some (.inl x), a2, a3, a4, a5] st h = am_go0 cl 43 57 [a0, some (.inl x), a2, a3, a4, a5] (.inl x :: st) h := am_r am_m43 d_43_56 rfl
theorem d_43_57 : am_code 43 57 = some (.iastore, 1) := by decide +kernel
theorem s_43_57 (cl : am_C) (ls : am_Ls) (i : Int) (v : Int) (k : Nat) (st : List am_V) (N : Nat) (I : Nat → Int → Int) (L : Nat → Int → Int64) : am_go0 cl 43 57 ls (.inl v :: .inl i :: .inr (.inr (some k)) :: st) (am_GS N, am_GR, I, L) = if am_inb (am_GS N) k 0 i = true then am_go0 cl 43 58 ls st (am_GS N, am_GR, am_uI I k i v, L) else none := am_rS am_m43 d_43_57 rfl k ls st i v _ _ I L
theorem d_43_58 : am_code 43 58 = some (.aload_n 0, 1) := by decide +kernel
theorem s_43_58 (cl : am_C) (a1 a2 a3 a4 a5 : Option am_V) (x : Nat) (st : List am_V) (h : am_H) : am_go0 cl 43 58 [some (.inr (.inr (some x))), a1, a2, a3, a4, a5] st h = am_go0 cl 43 59 [some (.inr (.inr (some x))), a1, a2, a3, a4, a5] (.inr (.inr (some x)) :: st) h := am_r am_m43 d_43_58 rfl
theorem d_43_59 : am_code 43 59 = some (.getfield 15, 3) := by decide +kernel
theorem s_43_59 (cl : am_C) (ls : am_Ls) (st : List am_V) (N : Nat) (I : Nat → Int → Int) (L : Nat → Int → Int64) : am_go0 cl 43 59 ls (.inr (.inr (some 22)) :: st) (am_GS N, am_GR, I, L) = am_go0 cl 43 62 ls (.inr (.inr (some 24)) :: st) (am_GS N, am_GR, I, L) := am_rG2 am_m43 d_43_59 am_f3015 rfl (gs_22 N) (by decide) gr_22_4 rfl
theorem d_43_62 : am_code 43 62 = some (.aload_n 0, 1) := by decide +kernel
theorem s_43_62 (cl : am_C) (a1 a2 a3 a4 a5 : Option am_V) (x : Nat) (st : List am_V) (h : am_H) : am_go0 cl 43 62 [some (.inr (.inr (some x))), a1, a2, a3, a4, a5] st h = am_go0 cl 43 63 [some (.inr (.inr (some x))), a1, a2, a3, a4, a5] (.inr (.inr (some x)) :: st) h := am_r am_m43 d_43_62 rfl
theorem d_43_63 : am_code 43 63 = some (.getfield 27, 3) := by decide +kernel
theorem s_43_63 (cl : am_C) (ls : am_Ls) (st : List am_V) (N : Nat) (I : Nat → Int → Int) (L : Nat → Int → Int64) : am_go0 cl 43 63 ls (.inr (.inr (some 22)) :: st) (am_GS N, am_GR, I, L) = am_go0 cl 43 66 ls (.inl (I 22 8) :: st) (am_GS N, am_GR, I, L) := am_rG0 am_m43 d_43_63 am_f3027 rfl (gs_22 N) (by decide) rfl
theorem d_43_66 : am_code 43 66 = some (.iload_n 2, 1) := by decide +kernel
theorem s_43_66 (cl : am_C) (a0 a1 a3 a4 a5 : Option am_V) (x : Int) (st : List am_V) (h : am_H) : am_go0 cl 43 66 [a0, a1, some (.inl x), a3, a4, a5] st h = am_go0 cl 43 67 [a0, a1, some (.inl x), a3, a4, a5] (.inl x :: st) h := am_r am_m43 d_43_66 rfl
theorem d_43_67 : am_code 43 67 = some (.iastore, 1) := by decide +kernel
theorem s_43_67 (cl : am_C) (ls : am_Ls) (i : Int) (v : Int) (k : Nat) (st : List am_V) (N : Nat) (I : Nat → Int → Int) (L : Nat → Int → Int64) : am_go0 cl 43 67 ls (.inl v :: .inl i :: .inr (.inr (some k)) :: st) (am_GS N, am_GR, I, L) = if am_inb (am_GS N) k 0 i = true then am_go0 cl 43 68 ls st (am_GS N, am_GR, am_uI I k i v, L) else none := am_rS am_m43 d_43_67 rfl k ls st i v _ _ I L
theorem d_43_68 : am_code 43 68 = some (.aload_n 0, 1) := by decide +kernel
theorem s_43_68 (cl : am_C) (a1 a2 a3 a4 a5 : Option am_V) (x : Nat) (st : List am_V) (h : am_H) : am_go0 cl 43 68 [some (.inr (.inr (some x))), a1, a2, a3, a4, a5] st h = am_go0 cl 43 69 [some (.inr (.inr (some x))), a1, a2, a3, a4, a5] (.inr (.inr (some x)) :: st) h := am_r am_m43 d_43_68 rfl
theorem d_43_69 : am_code 43 69 = some (.getfield 18, 3) := by decide +kernel
theorem s_43_69 (cl : am_C) (ls : am_Ls) (st : List am_V) (N : Nat) (I : Nat → Int → Int) (L : Nat → Int → Int64) : am_go0 cl 43 69 ls (.inr (.inr (some 22)) :: st) (am_GS N, am_GR, I, L) = am_go0 cl 43 72 ls (.inr (.inr (some 25)) :: st) (am_GS N, am_GR, I, L) := am_rG2 am_m43 d_43_69 am_f3018 rfl (gs_22 N) (by decide) gr_22_5 rfl
theorem d_43_72 : am_code 43 72 = some (.aload_n 0, 1) := by decide +kernel
theorem s_43_72 (cl : am_C) (a1 a2 a3 a4 a5 : Option am_V) (x : Nat) (st : List am_V) (h : am_H) : am_go0 cl 43 72 [some (.inr (.inr (some x))), a1, a2, a3, a4, a5] st h = am_go0 cl 43 73 [some (.inr (.inr (some x))), a1, a2, a3, a4, a5] (.inr (.inr (some x)) :: st) h := am_r am_m43 d_43_72 rfl
theorem d_43_73 : am_code 43 73 = some (.getfield 27, 3) := by decide +kernel
theorem s_43_73 (cl : am_C) (ls : am_Ls) (st : List am_V) (N : Nat) (I : Nat → Int → Int) (L : Nat → Int → Int64) : am_go0 cl 43 73 ls (.inr (.inr (some 22)) :: st) (am_GS N, am_GR, I, L) = am_go0 cl 43 76 ls (.inl (I 22 8) :: st) (am_GS N, am_GR, I, L) := am_rG0 am_m43 d_43_73 am_f3027 rfl (gs_22 N) (by decide) rfl
theorem d_43_76 : am_code 43 76 = some (.iload_n 3, 1) := by decide +kernel
theorem s_43_76 (cl : am_C) (a0 a1 a2 a4 a5 : Option am_V) (x : Int) (st : List am_V) (h : am_H) : am_go0 cl 43 76 [a0, a1, a2, some (.inl x), a4, a5] st h = am_go0 cl 43 77 [a0, a1, a2, some (.inl x), a4, a5] (.inl x :: st) h := am_r am_m43 d_43_76 rfl
theorem d_43_77 : am_code 43 77 = some (.iastore, 1) := by decide +kernel
theorem s_43_77 (cl : am_C) (ls : am_Ls) (i : Int) (v : Int) (k : Nat) (st : List am_V) (N : Nat) (I : Nat → Int → Int) (L : Nat → Int → Int64) : am_go0 cl 43 77 ls (.inl v :: .inl i :: .inr (.inr (some k)) :: st) (am_GS N, am_GR, I, L) = if am_inb (am_GS N) k 0 i = true then am_go0 cl 43 78 ls st (am_GS N, am_GR, am_uI I k i v, L) else none := am_rS am_m43 d_43_77 rfl k ls st i v _ _ I L
theorem d_43_78 : am_code 43 78 = some (.aload_n 0, 1) := by decide +kernel
theorem s_43_78 (cl : am_C) (a1 a2 a3 a4 a5 : Option am_V) (x : Nat) (st : List am_V) (h : am_H) : am_go0 cl 43 78 [some (.inr (.inr (some x))), a1, a2, a3, a4, a5] st h = am_go0 cl 43 79 [some (.inr (.inr (some x))), a1, a2, a3, a4, a5] (.inr (.inr (some x)) :: st) h := am_r am_m43 d_43_78 rfl
theorem d_43_79 : am_code 43 79 = some (.getfield 21, 3) := by decide +kernel
theorem s_43_79 (cl : am_C) (ls : am_Ls) (st : List am_V) (N : Nat) (I : Nat → Int → Int) (L : Nat → Int → Int64) : am_go0 cl 43 79 ls (.inr (.inr (some 22)) :: st) (am_GS N, am_GR, I, L) = am_go0 cl 43 82 ls (.inr (.inr (some 26)) :: st) (am_GS N, am_GR, I, L) := am_rG2 am_m43 d_43_79 am_f3021 rfl (gs_22 N) (by decide) gr_22_6 rfl
theorem d_43_82 : am_code 43 82 = some (.aload_n 0, 1) := by decide +kernel
theorem s_43_82 (cl : am_C) (a1 a2 a3 a4 a5 : Option am_V) (x : Nat) (st : List am_V) (h : am_H) : am_go0 cl 43 82 [some (.inr (.inr (some x))), a1, a2, a3, a4, a5] st h = am_go0 cl 43 83 [some (.inr (.inr (some x))), a1, a2, a3, a4, a5] (.inr (.inr (some x)) :: st) h := am_r am_m43 d_43_82 rfl
theorem d_43_83 : am_code 43 83 = some (.getfield 27, 3) := by decide +kernel
theorem s_43_83 (cl : am_C) (ls : am_Ls) (st : List am_V) (N : Nat) (I : Nat → Int → Int) (L : Nat → Int → Int64) : am_go0 cl 43 83 ls (.inr (.inr (some 22)) :: st) (am_GS N, am_GR, I, L) = am_go0 cl 43 86 ls (.inl (I 22 8) :: st) (am_GS N, am_GR, I, L) := am_rG0 am_m43 d_43_83 am_f3027 rfl (gs_22 N) (by decide) rfl
theorem d_43_86 : am_code 43 86 = some (.iload 4, 2) := by decide +kernel
theorem s_43_86 (cl : am_C) (a0 a1 a2 a3 a5 : Option am_V) (x : Int) (st : List am_V) (h : am_H) : am_go0 cl 43 86 [a0, a1, a2, a3, some (.inl x), a5] st h = am_go0 cl 43 88 [a0, a1, a2, a3, some (.inl x), a5] (.inl x :: st) h := am_r am_m43 d_43_86 rfl
theorem d_43_88 : am_code 43 88 = some (.iastore, 1) := by decide +kernel
theorem s_43_88 (cl : am_C) (ls : am_Ls) (i : Int) (v : Int) (k : Nat) (st : List am_V) (N : Nat) (I : Nat → Int → Int) (L : Nat → Int → Int64) : am_go0 cl 43 88 ls (.inl v :: .inl i :: .inr (.inr (some k)) :: st) (am_GS N, am_GR, I, L) = if am_inb (am_GS N) k 0 i = true then am_go0 cl 43 89 ls st (am_GS N, am_GR, am_uI I k i v, L) else none := am_rS am_m43 d_43_88 rfl k ls st i v _ _ I L
theorem d_43_89 : am_code 43 89 = some (.aload_n 0, 1) := by decide +kernel
theorem s_43_89 (cl : am_C) (a1 a2 a3 a4 a5 : Option am_V) (x : Nat) (st : List am_V) (h : am_H) : am_go0 cl 43 89 [some (.inr (.inr (some x))), a1, a2, a3, a4, a5] st h = am_go0 cl 43 90 [some (.inr (.inr (some x))), a1, a2, a3, a4, a5] (.inr (.inr (some x)) :: st) h := am_r am_m43 d_43_89 rfl
theorem d_43_90 : am_code 43 90 = some (.getfield 24, 3) := by decide +kernel
theorem s_43_90 (cl : am_C) (ls : am_Ls) (st : List am_V) (N : Nat) (I : Nat → Int → Int) (L : Nat → Int → Int64) : am_go0 cl 43 90 ls (.inr (.inr (some 22)) :: st) (am_GS N, am_GR, I, L) = am_go0 cl 43 93 ls (.inr (.inr (some 27)) :: st) (am_GS N, am_GR, I, L) := am_rG2 am_m43 d_43_90 am_f3024 rfl (gs_22 N) (by decide) gr_22_7 rfl
theorem d_43_93 : am_code 43 93 = some (.aload_n 0, 1) := by decide +kernel
theorem s_43_93 (cl : am_C) (a1 a2 a3 a4 a5 : Option am_V) (x : Nat) (st : List am_V) (h : am_H) : am_go0 cl 43 93 [some (.inr (.inr (some x))), a1, a2, a3, a4, a5] st h = am_go0 cl 43 94 [some (.inr (.inr (some x))), a1, a2, a3, a4, a5] (.inr (.inr (some x)) :: st) h := am_r am_m43 d_43_93 rfl
theorem d_43_94 : am_code 43 94 = some (.getfield 27, 3) := by decide +kernel
theorem s_43_94 (cl : am_C) (ls : am_Ls) (st : List am_V) (N : Nat) (I : Nat → Int → Int) (L : Nat → Int → Int64) : am_go0 cl 43 94 ls (.inr (.inr (some 22)) :: st) (am_GS N, am_GR, I, L) = am_go0 cl 43 97 ls (.inl (I 22 8) :: st) (am_GS N, am_GR, I, L) := am_rG0 am_m43 d_43_94 am_f3027 rfl (gs_22 N) (by decide) rfl
theorem d_43_97 : am_code 43 97 = some (.iload 5, 2) := by decide +kernel
theorem s_43_97 (cl : am_C) (a0 a1 a2 a3 a4 : Option am_V) (x : Int) (st : List am_V) (h : am_H) : am_go0 cl 43 97 [a0, a1, a2, a3, a4, some (.inl x)] st h = am_go0 cl 43 99 [a0, a1, a2, a3, a4, some (.inl x)] (.inl x :: st) h := am_r am_m43 d_43_97 rfl
theorem d_43_99 : am_code 43 99 = some (.iastore, 1) := by decide +kernel
theorem s_43_99 (cl : am_C) (ls : am_Ls) (i : Int) (v : Int) (k : Nat) (st : List am_V) (N : Nat) (I : Nat → Int → Int) (L : Nat → Int → Int64) : am_go0 cl 43 99 ls (.inl v :: .inl i :: .inr (.inr (some k)) :: st) (am_GS N, am_GR, I, L) = if am_inb (am_GS N) k 0 i = true then am_go0 cl 43 100 ls st (am_GS N, am_GR, am_uI I k i v, L) else none := am_rS am_m43 d_43_99 rfl k ls st i v _ _ I L
theorem d_43_100 : am_code 43 100 = some (.aload_n 0, 1) := by decide +kernel
theorem s_43_100 (cl : am_C) (a1 a2 a3 a4 a5 : Option am_V) (x : Nat) (st : List am_V) (h : am_H) : am_go0 cl 43 100 [some (.inr (.inr (some x))), a1, a2, a3, a4, a5] st h = am_go0 cl 43 101 [some (.inr (.inr (some x))), a1, a2, a3, a4, a5] (.inr (.inr (some x)) :: st) h := am_r am_m43 d_43_100 rfl
theorem d_43_101 : am_code 43 101 = some (.dup, 1) := by decide +kernel
theorem s_43_101 (cl : am_C) (ls : am_Ls) (x : Nat) (st : List am_V) (h : am_H) : am_go0 cl 43 101 ls (.inr (.inr (some x)) :: st) h = am_go0 cl 43 102 ls (.inr (.inr (some x)) :: .inr (.inr (some x)) :: st) h := am_r am_m43 d_43_101 rfl
theorem d_43_102 : am_code 43 102 = some (.getfield 27, 3) := by decide +kernel
theorem s_43_102 (cl : am_C) (ls : am_Ls) (st : List am_V) (N : Nat) (I : Nat → Int → Int) (L : Nat → Int → Int64) : am_go0 cl 43 102 ls (.inr (.inr (some 22)) :: st) (am_GS N, am_GR, I, L) = am_go0 cl 43 105 ls (.inl (I 22 8) :: st) (am_GS N, am_GR, I, L) := am_rG0 am_m43 d_43_102 am_f3027 rfl (gs_22 N) (by decide) rfl
theorem d_43_105 : am_code 43 105 = some (.dup_x1, 1) := by decide +kernel
theorem s_43_105 (cl : am_C) (ls : am_Ls) (x : Int) (y : Nat) (st : List am_V) (h : am_H) : am_go0 cl 43 105 ls (.inl x :: .inr (.inr (some y)) :: st) h = am_go0 cl 43 106 ls (.inl x :: .inr (.inr (some y)) :: .inl x :: st) h := am_r am_m43 d_43_105 rfl
theorem d_43_106 : am_code 43 106 = some (.iconst 1, 1) := by decide +kernel
theorem s_43_106 (cl : am_C) (ls : am_Ls) (st : List am_V) (h : am_H) : am_go0 cl 43 106 ls st h = am_go0 cl 43 107 ls (.inl 1 :: st) h := am_rK am_m43 d_43_106 (by decide) rfl _ _ _
theorem d_43_107 : am_code 43 107 = some (.iadd, 1) := by decide +kernel
theorem s_43_107 (cl : am_C) (ls : am_Ls) (x y : Int) (st : List am_V) (h : am_H) : am_go0 cl 43 107 ls (.inl y :: .inl x :: st) h = am_go0 cl 43 108 ls (.inl (am_wr (x + y)) :: st) h := am_r am_m43 d_43_107 rfl
theorem d_43_108 : am_code 43 108 = some (.putfield 27, 3) := by decide +kernel
theorem s_43_108 (cl : am_C) (ls : am_Ls) (v : Int) (st : List am_V) (N : Nat) (I : Nat → Int → Int) (L : Nat → Int → Int64) : am_go0 cl 43 108 ls (.inl v :: .inr (.inr (some 22)) :: st) (am_GS N, am_GR, I, L) = am_go0 cl 43 111 ls st (am_GS N, am_GR, am_uI I 22 8 v, L) := am_rP0 am_m43 d_43_108 am_f3027 rfl (gs_22 N) (by decide) rfl
theorem d_43_111 : am_code 43 111 = some (.ireturn, 1) := by decide +kernel
theorem s_43_111 (cl : am_C) (ls : am_Ls) (x : Int) (h : am_H) : am_go0 cl 43 111 ls [.inl x] h = some (some (.inl x), h) := am_rE am_m43 d_43_111 rfl
theorem e_43 (d : Nat) (t : Nat) (p0 : Int) (p1 : Int) (p2 : Int) (p3 : Int) (h : am_H) : am_call (d + 1) 43 [.inr (.inr (some t)), .inl p0, .inl p1, .inl p2, .inl p3] h = am_go0 (am_call d) 43 0 [some (.inr (.inr (some t))), some (.inl p0), some (.inl p1), some (.inl p2), some (.inl p3), none] [] h := am_callE am_m43 (Nat.le_of_ble_eq_true rfl) rfl
theorem d_44_0 : am_code 44 0 = some (.iload_n 1, 1) := by decide +kernel
theorem s_44_0 (cl : am_C) (a0 a2 a3 a4 : Option am_V) (x : Int) (st : List am_V) (h : am_H) : am_go0 cl 44 0 [a0, some (.inl x), a2, a3, a4] st h = am_go0 cl 44 1 [a0, some (.inl x), a2, a3, a4] (.inl x :: st) h := am_r am_m44 d_44_0 rfl
theorem d_44_1 : am_code 44 1 = some (.tableswitch 168 0 9 #[55, 57, 63, 63, 85, 115, 115, 115, 115, 137], 55) := by decide +kernel
theorem s_44_1 (cl : am_C) (ls : am_Ls) (x : Int) (st : List am_V) (h : am_H) : am_go0 cl 44 1 ls (.inl x :: st) h = if x = 0 then am_go0 cl 44 56 ls st h else if x = 1 then am_go0 cl 44 58 ls st h else if x = 2 then am_go0 cl 44 64 ls st h else if x = 3 then am_go0 cl 44 64 ls st h else if x = 4 then am_go0 cl 44 86 ls st h else if x = 5 then am_go0 cl 44 116 ls st h else if x = 6 then am_go0 cl 44 116 ls st h else if x = 7 then am_go0 cl 44 116 ls st h else if x = 8 then am_go0 cl 44 116 ls st h else if x = 9 then am_go0 cl 44 138 ls st h else am_go0 cl 44 169 ls st h := by
  by_cases q0 : x = 0
  · subst q0; exact (am_rTs (55) am_m44 d_44_1 (by decide +kernel) (by decide) _ _ _).trans (if_pos rfl).symm
  rw [if_neg q0]
  by_cases q1 : x = 1
  · subst q1; exact (am_rTs (57) am_m44 d_44_1 (by decide +kernel) (by decide) _ _ _).trans (if_pos rfl).symm
  rw [if_neg q1]
  by_cases q2 : x = 2
  · subst q2; exact (am_rTs (63) am_m44 d_44_1 (by decide +kernel) (by decide) _ _ _).trans (if_pos rfl).symm
  rw [if_neg q2]
  by_cases q3 : x = 3
  · subst q3; exact (am_rTs (63) am_m44 d_44_1 (by decide +kernel) (by decide) _ _ _).trans (if_pos rfl).symm
  rw [if_neg q3]
  by_cases q4 : x = 4
  · subst q4; exact (am_rTs (85) am_m44 d_44_1 (by decide +kernel) (by decide) _ _ _).trans (if_pos rfl).symm
  rw [if_neg q4]
  by_cases q5 : x = 5
  · subst q5; exact (am_rTs (115) am_m44 d_44_1 (by decide +kernel) (by decide) _ _ _).trans (if_pos rfl).symm
  rw [if_neg q5]
  by_cases q6 : x = 6
  · subst q6; exact (am_rTs (115) am_m44 d_44_1 (by decide +kernel) (by decide) _ _ _).trans (if_pos rfl).symm
  rw [if_neg q6]
  by_cases q7 : x = 7
  · subst q7; exact (am_rTs (115) am_m44 d_44_1 (by decide +kernel) (by decide) _ _ _).trans (if_pos rfl).symm
  rw [if_neg q7]
  by_cases q8 : x = 8
  · subst q8; exact (am_rTs (115) am_m44 d_44_1 (by decide +kernel) (by decide) _ _ _).trans (if_pos rfl).symm
  rw [if_neg q8]
  by_cases q9 : x = 9
  · subst q9; exact (am_rTs (137) am_m44 d_44_1 (by decide +kernel) (by decide) _ _ _).trans (if_pos rfl).symm
  rw [if_neg q9]
  exact am_rTs (168) am_m44 d_44_1 (am_sw_out (by omega)) (by decide) _ _ _
theorem d_44_56 : am_code 44 56 = some (.iconst 1, 1) := by decide +kernel
theorem s_44_56 (cl : am_C) (ls : am_Ls) (st : List am_V) (h : am_H) : am_go0 cl 44 56 ls st h = am_go0 cl 44 57 ls (.inl 1 :: st) h := am_rK am_m44 d_44_56 (by decide) rfl _ _ _
theorem d_44_57 : am_code 44 57 = some (.ireturn, 1) := by decide +kernel
theorem s_44_57 (cl : am_C) (ls : am_Ls) (x : Int) (h : am_H) : am_go0 cl 44 57 ls [.inl x] h = if x = 0 ∨ x = 1 then some (some (.inl x), h) else none := am_rRz am_m44 d_44_57 x ls h
theorem d_44_58 : am_code 44 58 = some (.aload_n 0, 1) := by decide +kernel
theorem s_44_58 (cl : am_C) (a1 a2 a3 a4 : Option am_V) (x : Nat) (st : List am_V) (h : am_H) : am_go0 cl 44 58 [some (.inr (.inr (some x))), a1, a2, a3, a4] st h = am_go0 cl 44 59 [some (.inr (.inr (some x))), a1, a2, a3, a4] (.inr (.inr (some x)) :: st) h := am_r am_m44 d_44_58 rfl
theorem d_44_59 : am_code 44 59 = some (.iload_n 2, 1) := by decide +kernel
theorem s_44_59 (cl : am_C) (a0 a1 a3 a4 : Option am_V) (x : Int) (st : List am_V) (h : am_H) : am_go0 cl 44 59 [a0, a1, some (.inl x), a3, a4] st h = am_go0 cl 44 60 [a0, a1, some (.inl x), a3, a4] (.inl x :: st) h := am_r am_m44 d_44_59 rfl
theorem d_44_60 : am_code 44 60 = some (.invokevirtual 55, 3) := by decide +kernel
theorem s_44_60 (cl : am_C) (ls : am_Ls) (x0 : Int) (N : Nat) (I : Nat → Int → Int) (L : Nat → Int → Int64) : am_go0 cl 44 60 ls [.inl x0, .inr (.inr (some 22))] (am_GS N, am_GR, I, L) = am_bd (cl 45 [.inr (.inr (some 22)), .inl x0] (am_GS N, am_GR, I, L)) (fun v h2 => am_go0 cl 44 63 ls (v.toList ++ []) h2) := am_rV am_m44 d_44_60 am_k3055 rfl am_m45 (gs_22 N) (by decide) (Nat.le_of_ble_eq_true rfl) rfl ls
theorem d_44_63 : am_code 44 63 = some (.ireturn, 1) := by decide +kernel
theorem s_44_63 (cl : am_C) (ls : am_Ls) (x : Int) (h : am_H) : am_go0 cl 44 63 ls [.inl x] h = if x = 0 ∨ x = 1 then some (some (.inl x), h) else none := am_rRz am_m44 d_44_63 x ls h
theorem d_44_64 : am_code 44 64 = some (.aload_n 0, 1) := by decide +kernel
theorem s_44_64 (cl : am_C) (a1 a2 a3 a4 : Option am_V) (x : Nat) (st : List am_V) (h : am_H) : am_go0 cl 44 64 [some (.inr (.inr (some x))), a1, a2, a3, a4] st h = am_go0 cl 44 65 [some (.inr (.inr (some x))), a1, a2, a3, a4] (.inr (.inr (some x)) :: st) h := am_r am_m44 d_44_64 rfl
theorem d_44_65 : am_code 44 65 = some (.iload_n 2, 1) := by decide +kernel
theorem s_44_65 (cl : am_C) (a0 a1 a3 a4 : Option am_V) (x : Int) (st : List am_V) (h : am_H) : am_go0 cl 44 65 [a0, a1, some (.inl x), a3, a4] st h = am_go0 cl 44 66 [a0, a1, some (.inl x), a3, a4] (.inl x :: st) h := am_r am_m44 d_44_65 rfl
theorem d_44_66 : am_code 44 66 = some (.invokevirtual 55, 3) := by decide +kernel
theorem s_44_66 (cl : am_C) (ls : am_Ls) (x0 : Int) (N : Nat) (I : Nat → Int → Int) (L : Nat → Int → Int64) : am_go0 cl 44 66 ls [.inl x0, .inr (.inr (some 22))] (am_GS N, am_GR, I, L) = am_bd (cl 45 [.inr (.inr (some 22)), .inl x0] (am_GS N, am_GR, I, L)) (fun v h2 => am_go0 cl 44 69 ls (v.toList ++ []) h2) := am_rV am_m44 d_44_66 am_k3055 rfl am_m45 (gs_22 N) (by decide) (Nat.le_of_ble_eq_true rfl) rfl ls
theorem d_44_69 : am_code 44 69 = some (.ifCond .eq 15, 3) := by decide +kernel
theorem s_44_69 (cl : am_C) (ls : am_Ls) (x : Int) (st : List am_V) (h : am_H) : am_go0 cl 44 69 ls (.inl x :: st) h = if x = 0 then am_go0 cl 44 84 ls st h else am_go0 cl 44 72 ls st h := (am_rJ1 am_m44 d_44_69 (by decide) rfl x ls st h).trans (am_ifT (am_cmp_eq x 0) _ _)
theorem d_44_72 : am_code 44 72 = some (.aload_n 0, 1) := by decide +kernel
theorem s_44_72 (cl : am_C) (a1 a2 a3 a4 : Option am_V) (x : Nat) (st : List am_V) (h : am_H) : am_go0 cl 44 72 [some (.inr (.inr (some x))), a1, a2, a3, a4] st h = am_go0 cl 44 73 [some (.inr (.inr (some x))), a1, a2, a3, a4] (.inr (.inr (some x)) :: st) h := am_r am_m44 d_44_72 rfl
theorem d_44_73 : am_code 44 73 = some (.iload_n 3, 1) := by decide +kernel
theorem s_44_73 (cl : am_C) (a0 a1 a2 a4 : Option am_V) (x : Int) (st : List am_V) (h : am_H) : am_go0 cl 44 73 [a0, a1, a2, some (.inl x), a4] st h = am_go0 cl 44 74 [a0, a1, a2, some (.inl x), a4] (.inl x :: st) h := am_r am_m44 d_44_73 rfl
theorem d_44_74 : am_code 44 74 = some (.invokevirtual 55, 3) := by decide +kernel
theorem s_44_74 (cl : am_C) (ls : am_Ls) (x0 : Int) (N : Nat) (I : Nat → Int → Int) (L : Nat → Int → Int64) : am_go0 cl 44 74 ls [.inl x0, .inr (.inr (some 22))] (am_GS N, am_GR, I, L) = am_bd (cl 45 [.inr (.inr (some 22)), .inl x0] (am_GS N, am_GR, I, L)) (fun v h2 => am_go0 cl 44 77 ls (v.toList ++ []) h2) := am_rV am_m44 d_44_74 am_k3055 rfl am_m45 (gs_22 N) (by decide) (Nat.le_of_ble_eq_true rfl) rfl ls
theorem d_44_77 : am_code 44 77 = some (.ifCond .eq 7, 3) := by decide +kernel
theorem s_44_77 (cl : am_C) (ls : am_Ls) (x : Int) (st : List am_V) (h : am_H) : am_go0 cl 44 77 ls (.inl x :: st) h = if x = 0 then am_go0 cl 44 84 ls st h else am_go0 cl 44 80 ls st h := (am_rJ1 am_m44 d_44_77 (by decide) rfl x ls st h).trans (am_ifT (am_cmp_eq x 0) _ _)
theorem d_44_80 : am_code 44 80 = some (.iconst 1, 1) := by decide +kernel
theorem s_44_80 (cl : am_C) (ls : am_Ls) (st : List am_V) (h : am_H) : am_go0 cl 44 80 ls st h = am_go0 cl 44 81 ls (.inl 1 :: st) h := am_rK am_m44 d_44_80 (by decide) rfl _ _ _
theorem d_44_81 : am_code 44 81 = some (.goto 4, 3) := by decide +kernel
theorem s_44_81 (cl : am_C) (ls : am_Ls) (st : List am_V) (h : am_H) : am_go0 cl 44 81 ls st h = am_go0 cl 44 85 ls st h := am_rGo am_m44 d_44_81 (by decide) _ _ _
theorem d_44_84 : am_code 44 84 = some (.iconst 0, 1) := by decide +kernel
theorem s_44_84 (cl : am_C) (ls : am_Ls) (st : List am_V) (h : am_H) : am_go0 cl 44 84 ls st h = am_go0 cl 44 85 ls (.inl 0 :: st) h := am_rK am_m44 d_44_84 (by decide) rfl _ _ _
theorem d_44_85 : am_code 44 85 = some (.ireturn, 1) := by decide +kernel
theorem s_44_85 (cl : am_C) (ls : am_Ls) (x : Int) (h : am_H) : am_go0 cl 44 85 ls [.inl x] h = if x = 0 ∨ x = 1 then some (some (.inl x), h) else none := am_rRz am_m44 d_44_85 x ls h
theorem d_44_86 : am_code 44 86 = some (.aload_n 0, 1) := by decide +kernel
theorem s_44_86 (cl : am_C) (a1 a2 a3 a4 : Option am_V) (x : Nat) (st : List am_V) (h : am_H) : am_go0 cl 44 86 [some (.inr (.inr (some x))), a1, a2, a3, a4] st h = am_go0 cl 44 87 [some (.inr (.inr (some x))), a1, a2, a3, a4] (.inr (.inr (some x)) :: st) h := am_r am_m44 d_44_86 rfl
theorem d_44_87 : am_code 44 87 = some (.getfield 35, 3) := by decide +kernel
theorem s_44_87 (cl : am_C) (ls : am_Ls) (st : List am_V) (N : Nat) (I : Nat → Int → Int) (L : Nat → Int → Int64) : am_go0 cl 44 87 ls (.inr (.inr (some 22)) :: st) (am_GS N, am_GR, I, L) = am_go0 cl 44 90 ls (.inr (.inr (some 2)) :: st) (am_GS N, am_GR, I, L) := am_rG2 am_m44 d_44_87 am_f3035 rfl (gs_22 N) (by decide) gr_22_0 rfl
theorem d_44_90 : am_code 44 90 = some (.iload_n 3, 1) := by decide +kernel
theorem s_44_90 (cl : am_C) (a0 a1 a2 a4 : Option am_V) (x : Int) (st : List am_V) (h : am_H) : am_go0 cl 44 90 [a0, a1, a2, some (.inl x), a4] st h = am_go0 cl 44 91 [a0, a1, a2, some (.inl x), a4] (.inl x :: st) h := am_r am_m44 d_44_90 rfl
theorem d_44_91 : am_code 44 91 = some (.invokevirtual 59, 3) := by decide +kernel
theorem s_44_91 (cl : am_C) (ls : am_Ls) (x0 : Int) (N : Nat) (I : Nat → Int → Int) (L : Nat → Int → Int64) : am_go0 cl 44 91 ls [.inl x0, .inr (.inr (some 2))] (am_GS N, am_GR, I, L) = am_bd (cl 74 [.inr (.inr (some 2)), .inl x0] (am_GS N, am_GR, I, L)) (fun v h2 => am_go0 cl 44 94 ls (v.toList ++ []) h2) := am_rV am_m44 d_44_91 am_k3059 rfl am_m74 (gs_2 N) (by decide) (Nat.le_of_ble_eq_true rfl) rfl ls
theorem d_44_94 : am_code 44 94 = some (.ifCond .eq 20, 3) := by decide +kernel
theorem s_44_94 (cl : am_C) (ls : am_Ls) (x : Int) (st : List am_V) (h : am_H) : am_go0 cl 44 94 ls (.inl x :: st) h = if x = 0 then am_go0 cl 44 114 ls st h else am_go0 cl 44 97 ls st h := (am_rJ1 am_m44 d_44_94 (by decide) rfl x ls st h).trans (am_ifT (am_cmp_eq x 0) _ _)
theorem d_44_97 : am_code 44 97 = some (.aload_n 0, 1) := by decide +kernel
theorem s_44_97 (cl : am_C) (a1 a2 a3 a4 : Option am_V) (x : Nat) (st : List am_V) (h : am_H) : am_go0 cl 44 97 [some (.inr (.inr (some x))), a1, a2, a3, a4] st h = am_go0 cl 44 98 [some (.inr (.inr (some x))), a1, a2, a3, a4] (.inr (.inr (some x)) :: st) h := am_r am_m44 d_44_97 rfl
theorem d_44_98 : am_code 44 98 = some (.getfield 39, 3) := by decide +kernel
theorem s_44_98 (cl : am_C) (ls : am_Ls) (st : List am_V) (N : Nat) (I : Nat → Int → Int) (L : Nat → Int → Int64) : am_go0 cl 44 98 ls (.inr (.inr (some 22)) :: st) (am_GS N, am_GR, I, L) = am_go0 cl 44 101 ls (.inr (.inr (some 10)) :: st) (am_GS N, am_GR, I, L) := am_rG2 am_m44 d_44_98 am_f3039 rfl (gs_22 N) (by decide) gr_22_1 rfl
theorem d_44_101 : am_code 44 101 = some (.iload_n 2, 1) := by decide +kernel
theorem s_44_101 (cl : am_C) (a0 a1 a3 a4 : Option am_V) (x : Int) (st : List am_V) (h : am_H) : am_go0 cl 44 101 [a0, a1, some (.inl x), a3, a4] st h = am_go0 cl 44 102 [a0, a1, some (.inl x), a3, a4] (.inl x :: st) h := am_r am_m44 d_44_101 rfl
theorem d_44_102 : am_code 44 102 = some (.iload 4, 2) := by decide +kernel
theorem s_44_102 (cl : am_C) (a0 a1 a2 a3 : Option am_V) (x : Int) (st : List am_V) (h : am_H) : am_go0 cl 44 102 [a0, a1, a2, a3, some (.inl x)] st h = am_go0 cl 44 104 [a0, a1, a2, a3, some (.inl x)] (.inl x :: st) h := am_r am_m44 d_44_102 rfl
theorem d_44_104 : am_code 44 104 = some (.invokevirtual 64, 3) := by decide +kernel
theorem s_44_104 (cl : am_C) (ls : am_Ls) (x0 : Int) (x1 : Int) (N : Nat) (I : Nat → Int → Int) (L : Nat → Int → Int64) : am_go0 cl 44 104 ls [.inl x1, .inl x0, .inr (.inr (some 10))] (am_GS N, am_GR, I, L) = am_bd (cl 6 [.inr (.inr (some 10)), .inl x0, .inl x1] (am_GS N, am_GR, I, L)) (fun v h2 => am_go0 cl 44 107 ls (v.toList ++ []) h2) := am_rV am_m44 d_44_104 am_k3064 rfl am_m6 (gs_10 N) (by decide) (Nat.le_of_ble_eq_true rfl) rfl ls
theorem d_44_107 : am_code 44 107 = some (.ifCond .eq 7, 3) := by decide +kernel
theorem s_44_107 (cl : am_C) (ls : am_Ls) (x : Int) (st : List am_V) (h : am_H) : am_go0 cl 44 107 ls (.inl x :: st) h = if x = 0 then am_go0 cl 44 114 ls st h else am_go0 cl 44 110 ls st h := (am_rJ1 am_m44 d_44_107 (by decide) rfl x ls st h).trans (am_ifT (am_cmp_eq x 0) _ _)
theorem d_44_110 : am_code 44 110 = some (.iconst 1, 1) := by decide +kernel
theorem s_44_110 (cl : am_C) (ls : am_Ls) (st : List am_V) (h : am_H) : am_go0 cl 44 110 ls st h = am_go0 cl 44 111 ls (.inl 1 :: st) h := am_rK am_m44 d_44_110 (by decide) rfl _ _ _
theorem d_44_111 : am_code 44 111 = some (.goto 4, 3) := by decide +kernel
theorem s_44_111 (cl : am_C) (ls : am_Ls) (st : List am_V) (h : am_H) : am_go0 cl 44 111 ls st h = am_go0 cl 44 115 ls st h := am_rGo am_m44 d_44_111 (by decide) _ _ _
theorem d_44_114 : am_code 44 114 = some (.iconst 0, 1) := by decide +kernel
theorem s_44_114 (cl : am_C) (ls : am_Ls) (st : List am_V) (h : am_H) : am_go0 cl 44 114 ls st h = am_go0 cl 44 115 ls (.inl 0 :: st) h := am_rK am_m44 d_44_114 (by decide) rfl _ _ _
theorem d_44_115 : am_code 44 115 = some (.ireturn, 1) := by decide +kernel
theorem s_44_115 (cl : am_C) (ls : am_Ls) (x : Int) (h : am_H) : am_go0 cl 44 115 ls [.inl x] h = if x = 0 ∨ x = 1 then some (some (.inl x), h) else none := am_rRz am_m44 d_44_115 x ls h
theorem d_44_116 : am_code 44 116 = some (.aload_n 0, 1) := by decide +kernel
theorem s_44_116 (cl : am_C) (a1 a2 a3 a4 : Option am_V) (x : Nat) (st : List am_V) (h : am_H) : am_go0 cl 44 116 [some (.inr (.inr (some x))), a1, a2, a3, a4] st h = am_go0 cl 44 117 [some (.inr (.inr (some x))), a1, a2, a3, a4] (.inr (.inr (some x)) :: st) h := am_r am_m44 d_44_116 rfl
theorem d_44_117 : am_code 44 117 = some (.iload_n 2, 1) := by decide +kernel
theorem s_44_117 (cl : am_C) (a0 a1 a3 a4 : Option am_V) (x : Int) (st : List am_V) (h : am_H) : am_go0 cl 44 117 [a0, a1, some (.inl x), a3, a4] st h = am_go0 cl 44 118 [a0, a1, some (.inl x), a3, a4] (.inl x :: st) h := am_r am_m44 d_44_117 rfl
theorem d_44_118 : am_code 44 118 = some (.invokevirtual 70, 3) := by decide +kernel
theorem s_44_118 (cl : am_C) (ls : am_Ls) (x0 : Int) (N : Nat) (I : Nat → Int → Int) (L : Nat → Int → Int64) : am_go0 cl 44 118 ls [.inl x0, .inr (.inr (some 22))] (am_GS N, am_GR, I, L) = am_bd (cl 46 [.inr (.inr (some 22)), .inl x0] (am_GS N, am_GR, I, L)) (fun v h2 => am_go0 cl 44 121 ls (v.toList ++ []) h2) := am_rV am_m44 d_44_118 am_k3070 rfl am_m46 (gs_22 N) (by decide) (Nat.le_of_ble_eq_true rfl) rfl ls
theorem d_44_121 : am_code 44 121 = some (.ifCond .eq 15, 3) := by decide +kernel
theorem s_44_121 (cl : am_C) (ls : am_Ls) (x : Int) (st : List am_V) (h : am_H) : am_go0 cl 44 121 ls (.inl x :: st) h = if x = 0 then am_go0 cl 44 136 ls st h else am_go0 cl 44 124 ls st h := (am_rJ1 am_m44 d_44_121 (by decide) rfl x ls st h).trans (am_ifT (am_cmp_eq x 0) _ _)
theorem d_44_124 : am_code 44 124 = some (.aload_n 0, 1) := by decide +kernel
theorem s_44_124 (cl : am_C) (a1 a2 a3 a4 : Option am_V) (x : Nat) (st : List am_V) (h : am_H) : am_go0 cl 44 124 [some (.inr (.inr (some x))), a1, a2, a3, a4] st h = am_go0 cl 44 125 [some (.inr (.inr (some x))), a1, a2, a3, a4] (.inr (.inr (some x)) :: st) h := am_r am_m44 d_44_124 rfl
theorem d_44_125 : am_code 44 125 = some (.iload_n 3, 1) := by decide +kernel
theorem s_44_125 (cl : am_C) (a0 a1 a2 a4 : Option am_V) (x : Int) (st : List am_V) (h : am_H) : am_go0 cl 44 125 [a0, a1, a2, some (.inl x), a4] st h = am_go0 cl 44 126 [a0, a1, a2, some (.inl x), a4] (.inl x :: st) h := am_r am_m44 d_44_125 rfl
theorem d_44_126 : am_code 44 126 = some (.invokevirtual 70, 3) := by decide +kernel
theorem s_44_126 (cl : am_C) (ls : am_Ls) (x0 : Int) (N : Nat) (I : Nat → Int → Int) (L : Nat → Int → Int64) : am_go0 cl 44 126 ls [.inl x0, .inr (.inr (some 22))] (am_GS N, am_GR, I, L) = am_bd (cl 46 [.inr (.inr (some 22)), .inl x0] (am_GS N, am_GR, I, L)) (fun v h2 => am_go0 cl 44 129 ls (v.toList ++ []) h2) := am_rV am_m44 d_44_126 am_k3070 rfl am_m46 (gs_22 N) (by decide) (Nat.le_of_ble_eq_true rfl) rfl ls
theorem d_44_129 : am_code 44 129 = some (.ifCond .eq 7, 3) := by decide +kernel
theorem s_44_129 (cl : am_C) (ls : am_Ls) (x : Int) (st : List am_V) (h : am_H) : am_go0 cl 44 129 ls (.inl x :: st) h = if x = 0 then am_go0 cl 44 136 ls st h else am_go0 cl 44 132 ls st h := (am_rJ1 am_m44 d_44_129 (by decide) rfl x ls st h).trans (am_ifT (am_cmp_eq x 0) _ _)
theorem d_44_132 : am_code 44 132 = some (.iconst 1, 1) := by decide +kernel
theorem s_44_132 (cl : am_C) (ls : am_Ls) (st : List am_V) (h : am_H) : am_go0 cl 44 132 ls st h = am_go0 cl 44 133 ls (.inl 1 :: st) h := am_rK am_m44 d_44_132 (by decide) rfl _ _ _
theorem d_44_133 : am_code 44 133 = some (.goto 4, 3) := by decide +kernel
theorem s_44_133 (cl : am_C) (ls : am_Ls) (st : List am_V) (h : am_H) : am_go0 cl 44 133 ls st h = am_go0 cl 44 137 ls st h := am_rGo am_m44 d_44_133 (by decide) _ _ _
theorem d_44_136 : am_code 44 136 = some (.iconst 0, 1) := by decide +kernel
theorem s_44_136 (cl : am_C) (ls : am_Ls) (st : List am_V) (h : am_H) : am_go0 cl 44 136 ls st h = am_go0 cl 44 137 ls (.inl 0 :: st) h := am_rK am_m44 d_44_136 (by decide) rfl _ _ _
theorem d_44_137 : am_code 44 137 = some (.ireturn, 1) := by decide +kernel
theorem s_44_137 (cl : am_C) (ls : am_Ls) (x : Int) (h : am_H) : am_go0 cl 44 137 ls [.inl x] h = if x = 0 ∨ x = 1 then some (some (.inl x), h) else none := am_rRz am_m44 d_44_137 x ls h
theorem d_44_138 : am_code 44 138 = some (.aload_n 0, 1) := by decide +kernel
theorem s_44_138 (cl : am_C) (a1 a2 a3 a4 : Option am_V) (x : Nat) (st : List am_V) (h : am_H) : am_go0 cl 44 138 [some (.inr (.inr (some x))), a1, a2, a3, a4] st h = am_go0 cl 44 139 [some (.inr (.inr (some x))), a1, a2, a3, a4] (.inr (.inr (some x)) :: st) h := am_r am_m44 d_44_138 rfl
theorem d_44_139 : am_code 44 139 = some (.iload_n 2, 1) := by decide +kernel
theorem s_44_139 (cl : am_C) (a0 a1 a3 a4 : Option am_V) (x : Int) (st : List am_V) (h : am_H) : am_go0 cl 44 139 [a0, a1, some (.inl x), a3, a4] st h = am_go0 cl 44 140 [a0, a1, some (.inl x), a3, a4] (.inl x :: st) h := am_r am_m44 d_44_139 rfl
theorem d_44_140 : am_code 44 140 = some (.invokevirtual 70, 3) := by decide +kernel
theorem s_44_140 (cl : am_C) (ls : am_Ls) (x0 : Int) (N : Nat) (I : Nat → Int → Int) (L : Nat → Int → Int64) : am_go0 cl 44 140 ls [.inl x0, .inr (.inr (some 22))] (am_GS N, am_GR, I, L) = am_bd (cl 46 [.inr (.inr (some 22)), .inl x0] (am_GS N, am_GR, I, L)) (fun v h2 => am_go0 cl 44 143 ls (v.toList ++ []) h2) := am_rV am_m44 d_44_140 am_k3070 rfl am_m46 (gs_22 N) (by decide) (Nat.le_of_ble_eq_true rfl) rfl ls
theorem d_44_143 : am_code 44 143 = some (.ifCond .eq 24, 3) := by decide +kernel
theorem s_44_143 (cl : am_C) (ls : am_Ls) (x : Int) (st : List am_V) (h : am_H) : am_go0 cl 44 143 ls (.inl x :: st) h = if x = 0 then am_go0 cl 44 167 ls st h else am_go0 cl 44 146 ls st h := (am_rJ1 am_m44 d_44_143 (by decide) rfl x ls st h).trans (am_ifT (am_cmp_eq x 0) _ _)
theorem d_44_146 : am_code 44 146 = some (.aload_n 0, 1) := by decide +kernel
theorem s_44_146 (cl : am_C) (a1 a2 a3 a4 : Option am_V) (x : Nat) (st : List am_V) (h : am_H) : am_go0 cl 44 146 [some (.inr (.inr (some x))), a1, a2, a3, a4] st h = am_go0 cl 44 147 [some (.inr (.inr (some x))), a1, a2, a3, a4] (.inr (.inr (some x)) :: st) h := am_r am_m44 d_44_146 rfl
theorem d_44_147 : am_code 44 147 = some (.iload_n 3, 1) := by decide +kernel
theorem s_44_147 (cl : am_C) (a0 a1 a2 a4 : Option am_V) (x : Int) (st : List am_V) (h : am_H) : am_go0 cl 44 147 [a0, a1, a2, some (.inl x), a4] st h = am_go0 cl 44 148 [a0, a1, a2, some (.inl x), a4] (.inl x :: st) h := am_r am_m44 d_44_147 rfl
theorem d_44_148 : am_code 44 148 = some (.invokevirtual 70, 3) := by decide +kernel
theorem s_44_148 (cl : am_C) (ls : am_Ls) (x0 : Int) (N : Nat) (I : Nat → Int → Int) (L : Nat → Int → Int64) : am_go0 cl 44 148 ls [.inl x0, .inr (.inr (some 22))] (am_GS N, am_GR, I, L) = am_bd (cl 46 [.inr (.inr (some 22)), .inl x0] (am_GS N, am_GR, I, L)) (fun v h2 => am_go0 cl 44 151 ls (v.toList ++ []) h2) := am_rV am_m44 d_44_148 am_k3070 rfl am_m46 (gs_22 N) (by decide) (Nat.le_of_ble_eq_true rfl) rfl ls
theorem d_44_151 : am_code 44 151 = some (.ifCond .eq 16, 3) := by decide +kernel
theorem s_44_151 (cl : am_C) (ls : am_Ls) (x : Int) (st : List am_V) (h : am_H) : am_go0 cl 44 151 ls (.inl x :: st) h = if x = 0 then am_go0 cl 44 167 ls st h else am_go0 cl 44 154 ls st h := (am_rJ1 am_m44 d_44_151 (by decide) rfl x ls st h).trans (am_ifT (am_cmp_eq x 0) _ _)
theorem d_44_154 : am_code 44 154 = some (.aload_n 0, 1) := by decide +kernel
theorem s_44_154 (cl : am_C) (a1 a2 a3 a4 : Option am_V) (x : Nat) (st : List am_V) (h : am_H) : am_go0 cl 44 154 [some (.inr (.inr (some x))), a1, a2, a3, a4] st h = am_go0 cl 44 155 [some (.inr (.inr (some x))), a1, a2, a3, a4] (.inr (.inr (some x)) :: st) h := am_r am_m44 d_44_154 rfl
theorem d_44_155 : am_code 44 155 = some (.iload 4, 2) := by decide +kernel
theorem s_44_155 (cl : am_C) (a0 a1 a2 a3 : Option am_V) (x : Int) (st : List am_V) (h : am_H) : am_go0 cl 44 155 [a0, a1, a2, a3, some (.inl x)] st h = am_go0 cl 44 157 [a0, a1, a2, a3, some (.inl x)] (.inl x :: st) h := am_r am_m44 d_44_155 rfl
theorem d_44_157 : am_code 44 157 = some (.invokevirtual 70, 3) := by decide +kernel
theorem s_44_157 (cl : am_C) (ls : am_Ls) (x0 : Int) (N : Nat) (I : Nat → Int → Int) (L : Nat → Int → Int64) : am_go0 cl 44 157 ls [.inl x0, .inr (.inr (some 22))] (am_GS N, am_GR, I, L) = am_bd (cl 46 [.inr (.inr (some 22)), .inl x0] (am_GS N, am_GR, I, L)) (fun v h2 => am_go0 cl 44 160 ls (v.toList ++ []) h2) := am_rV am_m44 d_44_157 am_k3070 rfl am_m46 (gs_22 N) (by decide) (Nat.le_of_ble_eq_true rfl) rfl ls
theorem d_44_160 : am_code 44 160 = some (.ifCond .eq 7, 3) := by decide +kernel
theorem s_44_160 (cl : am_C) (ls : am_Ls) (x : Int) (st : List am_V) (h : am_H) : am_go0 cl 44 160 ls (.inl x :: st) h = if x = 0 then am_go0 cl 44 167 ls st h else am_go0 cl 44 163 ls st h := (am_rJ1 am_m44 d_44_160 (by decide) rfl x ls st h).trans (am_ifT (am_cmp_eq x 0) _ _)
theorem d_44_163 : am_code 44 163 = some (.iconst 1, 1) := by decide +kernel
theorem s_44_163 (cl : am_C) (ls : am_Ls) (st : List am_V) (h : am_H) : am_go0 cl 44 163 ls st h = am_go0 cl 44 164 ls (.inl 1 :: st) h := am_rK am_m44 d_44_163 (by decide) rfl _ _ _
theorem d_44_164 : am_code 44 164 = some (.goto 4, 3) := by decide +kernel
theorem s_44_164 (cl : am_C) (ls : am_Ls) (st : List am_V) (h : am_H) : am_go0 cl 44 164 ls st h = am_go0 cl 44 168 ls st h := am_rGo am_m44 d_44_164 (by decide) _ _ _
theorem d_44_167 : am_code 44 167 = some (.iconst 0, 1) := by decide +kernel
theorem s_44_167 (cl : am_C) (ls : am_Ls) (st : List am_V) (h : am_H) : am_go0 cl 44 167 ls st h = am_go0 cl 44 168 ls (.inl 0 :: st) h := am_rK am_m44 d_44_167 (by decide) rfl _ _ _
theorem d_44_168 : am_code 44 168 = some (.ireturn, 1) := by decide +kernel
theorem s_44_168 (cl : am_C) (ls : am_Ls) (x : Int) (h : am_H) : am_go0 cl 44 168 ls [.inl x] h = if x = 0 ∨ x = 1 then some (some (.inl x), h) else none := am_rRz am_m44 d_44_168 x ls h
theorem d_44_169 : am_code 44 169 = some (.iconst 0, 1) := by decide +kernel
theorem s_44_169 (cl : am_C) (ls : am_Ls) (st : List am_V) (h : am_H) : am_go0 cl 44 169 ls st h = am_go0 cl 44 170 ls (.inl 0 :: st) h := am_rK am_m44 d_44_169 (by decide) rfl _ _ _
theorem d_44_170 : am_code 44 170 = some (.ireturn, 1) := by decide +kernel
theorem s_44_170 (cl : am_C) (ls : am_Ls) (x : Int) (h : am_H) : am_go0 cl 44 170 ls [.inl x] h = if x = 0 ∨ x = 1 then some (some (.inl x), h) else none := am_rRz am_m44 d_44_170 x ls h
theorem e_44 (d : Nat) (t : Nat) (p0 : Int) (p1 : Int) (p2 : Int) (p3 : Int) (h : am_H) : am_call (d + 1) 44 [.inr (.inr (some t)), .inl p0, .inl p1, .inl p2, .inl p3] h = am_go0 (am_call d) 44 0 [some (.inr (.inr (some t))), some (.inl p0), some (.inl p1), some (.inl p2), some (.inl p3)] [] h := am_callE am_m44 (Nat.le_of_ble_eq_true rfl) rfl
theorem d_45_0 : am_code 45 0 = some (.iload_n 1, 1) := by decide +kernel
theorem s_45_0 (cl : am_C) (a0 : Option am_V) (x : Int) (st : List am_V) (h : am_H) : am_go0 cl 45 0 [a0, some (.inl x)] st h = am_go0 cl 45 1 [a0, some (.inl x)] (.inl x :: st) h := am_r am_m45 d_45_0 rfl
theorem d_45_1 : am_code 45 1 = some (.ifCond .lt 12, 3) := by decide +kernel
theorem s_45_1 (cl : am_C) (ls : am_Ls) (x : Int) (st : List am_V) (h : am_H) : am_go0 cl 45 1 ls (.inl x :: st) h = if x < 0 then am_go0 cl 45 13 ls st h else am_go0 cl 45 4 ls st h := (am_rJ1 am_m45 d_45_1 (by decide) rfl x ls st h).trans (am_ifT (am_cmp_lt x 0) _ _)
theorem d_45_4 : am_code 45 4 = some (.iload_n 1, 1) := by decide +kernel
theorem s_45_4 (cl : am_C) (a0 : Option am_V) (x : Int) (st : List am_V) (h : am_H) : am_go0 cl 45 4 [a0, some (.inl x)] st h = am_go0 cl 45 5 [a0, some (.inl x)] (.inl x :: st) h := am_r am_m45 d_45_4 rfl
theorem d_45_5 : am_code 45 5 = some (.iconst 3, 1) := by decide +kernel
theorem s_45_5 (cl : am_C) (ls : am_Ls) (st : List am_V) (h : am_H) : am_go0 cl 45 5 ls st h = am_go0 cl 45 6 ls (.inl 3 :: st) h := am_rK am_m45 d_45_5 (by decide) rfl _ _ _
theorem d_45_6 : am_code 45 6 = some (.if_icmp .gt 7, 3) := by decide +kernel
theorem s_45_6 (cl : am_C) (ls : am_Ls) (x y : Int) (st : List am_V) (h : am_H) : am_go0 cl 45 6 ls (.inl y :: .inl x :: st) h = if y < x then am_go0 cl 45 13 ls st h else am_go0 cl 45 9 ls st h := (am_rJ0 am_m45 d_45_6 (by decide) rfl x y ls st h).trans (am_ifT (am_cmp_gt x y) _ _)
theorem d_45_9 : am_code 45 9 = some (.iconst 1, 1) := by decide +kernel
theorem s_45_9 (cl : am_C) (ls : am_Ls) (st : List am_V) (h : am_H) : am_go0 cl 45 9 ls st h = am_go0 cl 45 10 ls (.inl 1 :: st) h := am_rK am_m45 d_45_9 (by decide) rfl _ _ _
theorem d_45_10 : am_code 45 10 = some (.goto 4, 3) := by decide +kernel
theorem s_45_10 (cl : am_C) (ls : am_Ls) (st : List am_V) (h : am_H) : am_go0 cl 45 10 ls st h = am_go0 cl 45 14 ls st h := am_rGo am_m45 d_45_10 (by decide) _ _ _
theorem d_45_13 : am_code 45 13 = some (.iconst 0, 1) := by decide +kernel
theorem s_45_13 (cl : am_C) (ls : am_Ls) (st : List am_V) (h : am_H) : am_go0 cl 45 13 ls st h = am_go0 cl 45 14 ls (.inl 0 :: st) h := am_rK am_m45 d_45_13 (by decide) rfl _ _ _
theorem d_45_14 : am_code 45 14 = some (.ireturn, 1) := by decide +kernel
theorem s_45_14 (cl : am_C) (ls : am_Ls) (x : Int) (h : am_H) : am_go0 cl 45 14 ls [.inl x] h = if x = 0 ∨ x = 1 then some (some (.inl x), h) else none := am_rRz am_m45 d_45_14 x ls h
theorem e_45 (d : Nat) (t : Nat) (p0 : Int) (h : am_H) : am_call (d + 1) 45 [.inr (.inr (some t)), .inl p0] h = am_go0 (am_call d) 45 0 [some (.inr (.inr (some t))), some (.inl p0)] [] h := am_callE am_m45 (Nat.le_of_ble_eq_true rfl) rfl
theorem d_46_0 : am_code 46 0 = some (.iload_n 1, 1) := by decide +kernel
theorem s_46_0 (cl : am_C) (a0 : Option am_V) (x : Int) (st : List am_V) (h : am_H) : am_go0 cl 46 0 [a0, some (.inl x)] st h = am_go0 cl 46 1 [a0, some (.inl x)] (.inl x :: st) h := am_r am_m46 d_46_0 rfl
theorem d_46_1 : am_code 46 1 = some (.ifCond .lt 15, 3) := by decide +kernel
theorem s_46_1 (cl : am_C) (ls : am_Ls) (x : Int) (st : List am_V) (h : am_H) : am_go0 cl 46 1 ls (.inl x :: st) h = if x < 0 then am_go0 cl 46 16 ls st h else am_go0 cl 46 4 ls st h := (am_rJ1 am_m46 d_46_1 (by decide) rfl x ls st h).trans (am_ifT (am_cmp_lt x 0) _ _)
theorem d_46_4 : am_code 46 4 = some (.iload_n 1, 1) := by decide +kernel
theorem s_46_4 (cl : am_C) (a0 : Option am_V) (x : Int) (st : List am_V) (h : am_H) : am_go0 cl 46 4 [a0, some (.inl x)] st h = am_go0 cl 46 5 [a0, some (.inl x)] (.inl x :: st) h := am_r am_m46 d_46_4 rfl
theorem d_46_5 : am_code 46 5 = some (.aload_n 0, 1) := by decide +kernel
theorem s_46_5 (cl : am_C) (a1 : Option am_V) (x : Nat) (st : List am_V) (h : am_H) : am_go0 cl 46 5 [some (.inr (.inr (some x))), a1] st h = am_go0 cl 46 6 [some (.inr (.inr (some x))), a1] (.inr (.inr (some x)) :: st) h := am_r am_m46 d_46_5 rfl
theorem d_46_6 : am_code 46 6 = some (.getfield 27, 3) := by decide +kernel
theorem s_46_6 (cl : am_C) (ls : am_Ls) (st : List am_V) (N : Nat) (I : Nat → Int → Int) (L : Nat → Int → Int64) : am_go0 cl 46 6 ls (.inr (.inr (some 22)) :: st) (am_GS N, am_GR, I, L) = am_go0 cl 46 9 ls (.inl (I 22 8) :: st) (am_GS N, am_GR, I, L) := am_rG0 am_m46 d_46_6 am_f3027 rfl (gs_22 N) (by decide) rfl
theorem d_46_9 : am_code 46 9 = some (.if_icmp .ge 7, 3) := by decide +kernel
theorem s_46_9 (cl : am_C) (ls : am_Ls) (x y : Int) (st : List am_V) (h : am_H) : am_go0 cl 46 9 ls (.inl y :: .inl x :: st) h = if x < y then am_go0 cl 46 12 ls st h else am_go0 cl 46 16 ls st h := (am_rJ0 am_m46 d_46_9 (by decide) rfl x y ls st h).trans (am_ifF ((am_cmp_ge x y).trans Int.not_lt.symm) _ _)
theorem d_46_12 : am_code 46 12 = some (.iconst 1, 1) := by decide +kernel
theorem s_46_12 (cl : am_C) (ls : am_Ls) (st : List am_V) (h : am_H) : am_go0 cl 46 12 ls st h = am_go0 cl 46 13 ls (.inl 1 :: st) h := am_rK am_m46 d_46_12 (by decide) rfl _ _ _
theorem d_46_13 : am_code 46 13 = some (.goto 4, 3) := by decide +kernel
theorem s_46_13 (cl : am_C) (ls : am_Ls) (st : List am_V) (h : am_H) : am_go0 cl 46 13 ls st h = am_go0 cl 46 17 ls st h := am_rGo am_m46 d_46_13 (by decide) _ _ _
theorem d_46_16 : am_code 46 16 = some (.iconst 0, 1) := by decide +kernel
theorem s_46_16 (cl : am_C) (ls : am_Ls) (st : List am_V) (h : am_H) : am_go0 cl 46 16 ls st h = am_go0 cl 46 17 ls (.inl 0 :: st) h := am_rK am_m46 d_46_16 (by decide) rfl _ _ _
theorem d_46_17 : am_code 46 17 = some (.ireturn, 1) := by decide +kernel
theorem s_46_17 (cl : am_C) (ls : am_Ls) (x : Int) (h : am_H) : am_go0 cl 46 17 ls [.inl x] h = if x = 0 ∨ x = 1 then some (some (.inl x), h) else none := am_rRz am_m46 d_46_17 x ls h
theorem e_46 (d : Nat) (t : Nat) (p0 : Int) (h : am_H) : am_call (d + 1) 46 [.inr (.inr (some t)), .inl p0] h = am_go0 (am_call d) 46 0 [some (.inr (.inr (some t))), some (.inl p0)] [] h := am_callE am_m46 (Nat.le_of_ble_eq_true rfl) rfl
theorem d_47_0 : am_code 47 0 = some (.iload_n 1, 1) := by decide +kernel
theorem s_47_0 (cl : am_C) (a0 a2 a3 a4 a5 : Option am_V) (x : Int) (st : List am_V) (h : am_H) : am_go0 cl 47 0 [a0, some (.inl x), a2, a3, a4, a5] st h = am_go0 cl 47 1 [a0, some (.inl x), a2, a3, a4, a5] (.inl x :: st) h := am_r am_m47 d_47_0 rfl
theorem d_47_1 : am_code 47 1 = some (.iconst 5, 1) := by decide +kernel
theorem s_47_1 (cl : am_C) (ls : am_Ls) (st : List am_V) (h : am_H) : am_go0 cl 47 1 ls st h = am_go0 cl 47 2 ls (.inl 5 :: st) h := am_rK am_m47 d_47_1 (by decide) rfl _ _ _
theorem d_47_2 : am_code 47 2 = some (.if_icmp .ge 5, 3) := by decide +kernel
theorem s_47_2 (cl : am_C) (ls : am_Ls) (x y : Int) (st : List am_V) (h : am_H) : am_go0 cl 47 2 ls (.inl y :: .inl x :: st) h = if x < y then am_go0 cl 47 5 ls st h else am_go0 cl 47 7 ls st h := (am_rJ0 am_m47 d_47_2 (by decide) rfl x y ls st h).trans (am_ifF ((am_cmp_ge x y).trans Int.not_lt.symm) _ _)
theorem d_47_5 : am_code 47 5 = some (.iconst 0, 1) := by decide +kernel
theorem s_47_5 (cl : am_C) (ls : am_Ls) (st : List am_V) (h : am_H) : am_go0 cl 47 5 ls st h = am_go0 cl 47 6 ls (.inl 0 :: st) h := am_rK am_m47 d_47_5 (by decide) rfl _ _ _
theorem d_47_6 : am_code 47 6 = some (.ireturn, 1) := by decide +kernel
theorem s_47_6 (cl : am_C) (ls : am_Ls) (x : Int) (h : am_H) : am_go0 cl 47 6 ls [.inl x] h = some (some (.inl x), h) := am_rE am_m47 d_47_6 rfl
theorem d_47_7 : am_code 47 7 = some (.aload_n 0, 1) := by decide +kernel
theorem s_47_7 (cl : am_C) (a1 a2 a3 a4 a5 : Option am_V) (x : Nat) (st : List am_V) (h : am_H) : am_go0 cl 47 7 [some (.inr (.inr (some x))), a1, a2, a3, a4, a5] st h = am_go0 cl 47 8 [some (.inr (.inr (some x))), a1, a2, a3, a4, a5] (.inr (.inr (some x)) :: st) h := am_r am_m47 d_47_7 rfl
theorem d_47_8 : am_code 47 8 = some (.getfield 24, 3) := by decide +kernel
theorem s_47_8 (cl : am_C) (ls : am_Ls) (st : List am_V) (N : Nat) (I : Nat → Int → Int) (L : Nat → Int → Int64) : am_go0 cl 47 8 ls (.inr (.inr (some 22)) :: st) (am_GS N, am_GR, I, L) = am_go0 cl 47 11 ls (.inr (.inr (some 27)) :: st) (am_GS N, am_GR, I, L) := am_rG2 am_m47 d_47_8 am_f3024 rfl (gs_22 N) (by decide) gr_22_7 rfl
theorem d_47_11 : am_code 47 11 = some (.iload_n 2, 1) := by decide +kernel
theorem s_47_11 (cl : am_C) (a0 a1 a3 a4 a5 : Option am_V) (x : Int) (st : List am_V) (h : am_H) : am_go0 cl 47 11 [a0, a1, some (.inl x), a3, a4, a5] st h = am_go0 cl 47 12 [a0, a1, some (.inl x), a3, a4, a5] (.inl x :: st) h := am_r am_m47 d_47_11 rfl
theorem d_47_12 : am_code 47 12 = some (.iaload, 1) := by decide +kernel
theorem s_47_12 (cl : am_C) (ls : am_Ls) (i : Int) (k : Nat) (st : List am_V) (N : Nat) (I : Nat → Int → Int) (L : Nat → Int → Int64) : am_go0 cl 47 12 ls (.inl i :: .inr (.inr (some k)) :: st) (am_GS N, am_GR, I, L) = if am_inb (am_GS N) k 0 i = true then am_go0 cl 47 13 ls (.inl (I k i) :: st) (am_GS N, am_GR, I, L) else none := am_rA am_m47 d_47_12 (by decide) rfl k ls st i _ _ I L
theorem d_47_13 : am_code 47 13 = some (.aload_n 0, 1) := by decide +kernel
theorem s_47_13 (cl : am_C) (a1 a2 a3 a4 a5 : Option am_V) (x : Nat) (st : List am_V) (h : am_H) : am_go0 cl 47 13 [some (.inr (.inr (some x))), a1, a2, a3, a4, a5] st h = am_go0 cl 47 14 [some (.inr (.inr (some x))), a1, a2, a3, a4, a5] (.inr (.inr (some x)) :: st) h := am_r am_m47 d_47_13 rfl
theorem d_47_14 : am_code 47 14 = some (.getfield 24, 3) := by decide +kernel
theorem s_47_14 (cl : am_C) (ls : am_Ls) (st : List am_V) (N : Nat) (I : Nat → Int → Int) (L : Nat → Int → Int64) : am_go0 cl 47 14 ls (.inr (.inr (some 22)) :: st) (am_GS N, am_GR, I, L) = am_go0 cl 47 17 ls (.inr (.inr (some 27)) :: st) (am_GS N, am_GR, I, L) := am_rG2 am_m47 d_47_14 am_f3024 rfl (gs_22 N) (by decide) gr_22_7 rfl
theorem d_47_17 : am_code 47 17 = some (.iload_n 3, 1) := by decide +kernel
theorem s_47_17 (cl : am_C) (a0 a1 a2 a4 a5 : Option am_V) (x : Int) (st : List am_V) (h : am_H) : am_go0 cl 47 17 [a0, a1, a2, some (.inl x), a4, a5] st h = am_go0 cl 47 18 [a0, a1, a2, some (.inl x), a4, a5] (.inl x :: st) h := am_r am_m47 d_47_17 rfl
theorem d_47_18 : am_code 47 18 = some (.iaload, 1) := by decide +kernel
theorem s_47_18 (cl : am_C) (ls : am_Ls) (i : Int) (k : Nat) (st : List am_V) (N : Nat) (I : Nat → Int → Int) (L : Nat → Int → Int64) : am_go0 cl 47 18 ls (.inl i :: .inr (.inr (some k)) :: st) (am_GS N, am_GR, I, L) = if am_inb (am_GS N) k 0 i = true then am_go0 cl 47 19 ls (.inl (I k i) :: st) (am_GS N, am_GR, I, L) else none := am_rA am_m47 d_47_18 (by decide) rfl k ls st i _ _ I L
theorem d_47_19 : am_code 47 19 = some (.invokestatic 71, 3) := by decide +kernel
theorem s_47_19 (cl : am_C) (ls : am_Ls) (x y : Int) (h : am_H) : am_go0 cl 47 19 ls [.inl y, .inl x] h = am_go0 cl 47 22 ls [.inl (if x < y then y else x)] h := am_rX am_m47 d_47_19 am_k3071 rfl (Nat.le_of_ble_eq_true rfl) rfl ls
theorem d_47_22 : am_code 47 22 = some (.istore 5, 2) := by decide +kernel
theorem s_47_22 (cl : am_C) (a0 a1 a2 a3 a4 a5 : Option am_V) (x : Int) (st : List am_V) (h : am_H) : am_go0 cl 47 22 [a0, a1, a2, a3, a4, a5] (.inl x :: st) h = am_go0 cl 47 24 [a0, a1, a2, a3, am_c1 a4, some (.inl x)] st h := am_r am_m47 d_47_22 rfl
theorem d_47_24 : am_code 47 24 = some (.iconst 1, 1) := by decide +kernel
theorem s_47_24 (cl : am_C) (ls : am_Ls) (st : List am_V) (h : am_H) : am_go0 cl 47 24 ls st h = am_go0 cl 47 25 ls (.inl 1 :: st) h := am_rK am_m47 d_47_24 (by decide) rfl _ _ _
theorem d_47_25 : am_code 47 25 = some (.iload_n 1, 1) := by decide +kernel
theorem s_47_25 (cl : am_C) (a0 a2 a3 a4 a5 : Option am_V) (x : Int) (st : List am_V) (h : am_H) : am_go0 cl 47 25 [a0, some (.inl x), a2, a3, a4, a5] st h = am_go0 cl 47 26 [a0, some (.inl x), a2, a3, a4, a5] (.inl x :: st) h := am_r am_m47 d_47_25 rfl
theorem d_47_26 : am_code 47 26 = some (.bipush 9, 2) := by decide +kernel
theorem s_47_26 (cl : am_C) (ls : am_Ls) (st : List am_V) (h : am_H) : am_go0 cl 47 26 ls st h = am_go0 cl 47 28 ls (.inl 9 :: st) h := am_rB am_m47 d_47_26 (by decide) rfl _ _ _
theorem d_47_28 : am_code 47 28 = some (.if_icmp .ne 18, 3) := by decide +kernel
theorem s_47_28 (cl : am_C) (ls : am_Ls) (x y : Int) (st : List am_V) (h : am_H) : am_go0 cl 47 28 ls (.inl y :: .inl x :: st) h = if x = y then am_go0 cl 47 31 ls st h else am_go0 cl 47 46 ls st h := (am_rJ0 am_m47 d_47_28 (by decide) rfl x y ls st h).trans (am_ifF ((am_cmp_ne x y).trans Iff.rfl) _ _)
theorem d_47_31 : am_code 47 31 = some (.iload 5, 2) := by decide +kernel
theorem s_47_31 (cl : am_C) (a0 a1 a2 a3 a4 : Option am_V) (x : Int) (st : List am_V) (h : am_H) : am_go0 cl 47 31 [a0, a1, a2, a3, a4, some (.inl x)] st h = am_go0 cl 47 33 [a0, a1, a2, a3, a4, some (.inl x)] (.inl x :: st) h := am_r am_m47 d_47_31 rfl
theorem d_47_33 : am_code 47 33 = some (.aload_n 0, 1) := by decide +kernel
theorem s_47_33 (cl : am_C) (a1 a2 a3 a4 a5 : Option am_V) (x : Nat) (st : List am_V) (h : am_H) : am_go0 cl 47 33 [some (.inr (.inr (some x))), a1, a2, a3, a4, a5] st h = am_go0 cl 47 34 [some (.inr (.inr (some x))), a1, a2, a3, a4, a5] (.inr (.inr (some x)) :: st) h := am_r am_m47 d_47_33 rfl
theorem d_47_34 : am_code 47 34 = some (.getfield 24, 3) := by decide +kernel
theorem s_47_34 (cl : am_C) (ls : am_Ls) (st : List am_V) (N : Nat) (I : Nat → Int → Int) (L : Nat → Int → Int64) : am_go0 cl 47 34 ls (.inr (.inr (some 22)) :: st) (am_GS N, am_GR, I, L) = am_go0 cl 47 37 ls (.inr (.inr (some 27)) :: st) (am_GS N, am_GR, I, L) := am_rG2 am_m47 d_47_34 am_f3024 rfl (gs_22 N) (by decide) gr_22_7 rfl
theorem d_47_37 : am_code 47 37 = some (.iload 4, 2) := by decide +kernel
theorem s_47_37 (cl : am_C) (a0 a1 a2 a3 a5 : Option am_V) (x : Int) (st : List am_V) (h : am_H) : am_go0 cl 47 37 [a0, a1, a2, a3, some (.inl x), a5] st h = am_go0 cl 47 39 [a0, a1, a2, a3, some (.inl x), a5] (.inl x :: st) h := am_r am_m47 d_47_37 rfl
theorem d_47_39 : am_code 47 39 = some (.iaload, 1) := by decide +kernel
theorem s_47_39 (cl : am_C) (ls : am_Ls) (i : Int) (k : Nat) (st : List am_V) (N : Nat) (I : Nat → Int → Int) (L : Nat → Int → Int64) : am_go0 cl 47 39 ls (.inl i :: .inr (.inr (some k)) :: st) (am_GS N, am_GR, I, L) = if am_inb (am_GS N) k 0 i = true then am_go0 cl 47 40 ls (.inl (I k i) :: st) (am_GS N, am_GR, I, L) else none := am_rA am_m47 d_47_39 (by decide) rfl k ls st i _ _ I L
theorem d_47_40 : am_code 47 40 = some (.invokestatic 71, 3) := by decide +kernel
theorem s_47_40 (cl : am_C) (ls : am_Ls) (x y : Int) (z0 : Int) (h : am_H) : am_go0 cl 47 40 ls [.inl y, .inl x, .inl z0] h = am_go0 cl 47 43 ls [.inl (if x < y then y else x), .inl z0] h := am_rX am_m47 d_47_40 am_k3071 rfl (Nat.le_of_ble_eq_true rfl) rfl ls
theorem d_47_43 : am_code 47 43 = some (.goto 5, 3) := by decide +kernel
theorem s_47_43 (cl : am_C) (ls : am_Ls) (st : List am_V) (h : am_H) : am_go0 cl 47 43 ls st h = am_go0 cl 47 48 ls st h := am_rGo am_m47 d_47_43 (by decide) _ _ _
theorem d_47_46 : am_code 47 46 = some (.iload 5, 2) := by decide +kernel
theorem s_47_46 (cl : am_C) (a0 a1 a2 a3 a4 : Option am_V) (x : Int) (st : List am_V) (h : am_H) : am_go0 cl 47 46 [a0, a1, a2, a3, a4, some (.inl x)] st h = am_go0 cl 47 48 [a0, a1, a2, a3, a4, some (.inl x)] (.inl x :: st) h := am_r am_m47 d_47_46 rfl
theorem d_47_48 : am_code 47 48 = some (.iadd, 1) := by decide +kernel
theorem s_47_48 (cl : am_C) (ls : am_Ls) (x y : Int) (st : List am_V) (h : am_H) : am_go0 cl 47 48 ls (.inl y :: .inl x :: st) h = am_go0 cl 47 49 ls (.inl (am_wr (x + y)) :: st) h := am_r am_m47 d_47_48 rfl
theorem d_47_49 : am_code 47 49 = some (.ireturn, 1) := by decide +kernel
theorem s_47_49 (cl : am_C) (ls : am_Ls) (x : Int) (h : am_H) : am_go0 cl 47 49 ls [.inl x] h = some (some (.inl x), h) := am_rE am_m47 d_47_49 rfl
theorem e_47 (d : Nat) (t : Nat) (p0 : Int) (p1 : Int) (p2 : Int) (p3 : Int) (h : am_H) : am_call (d + 1) 47 [.inr (.inr (some t)), .inl p0, .inl p1, .inl p2, .inl p3] h = am_go0 (am_call d) 47 0 [some (.inr (.inr (some t))), some (.inl p0), some (.inl p1), some (.inl p2), some (.inl p3), none] [] h := am_callE am_m47 (Nat.le_of_ble_eq_true rfl) rfl
theorem d_48_0 : am_code 48 0 = some (.aload_n 0, 1) := by decide +kernel
theorem s_48_0 (cl : am_C) (a1 a2 : Option am_V) (x : Nat) (st : List am_V) (h : am_H) : am_go0 cl 48 0 [some (.inr (.inr (some x))), a1, a2] st h = am_go0 cl 48 1 [some (.inr (.inr (some x))), a1, a2] (.inr (.inr (some x)) :: st) h := am_r am_m48 d_48_0 rfl
theorem d_48_1 : am_code 48 1 = some (.iload_n 1, 1) := by decide +kernel
theorem s_48_1 (cl : am_C) (a0 a2 : Option am_V) (x : Int) (st : List am_V) (h : am_H) : am_go0 cl 48 1 [a0, some (.inl x), a2] st h = am_go0 cl 48 2 [a0, some (.inl x), a2] (.inl x :: st) h := am_r am_m48 d_48_1 rfl
theorem d_48_2 : am_code 48 2 = some (.aload_n 0, 1) := by decide +kernel
theorem s_48_2 (cl : am_C) (a1 a2 : Option am_V) (x : Nat) (st : List am_V) (h : am_H) : am_go0 cl 48 2 [some (.inr (.inr (some x))), a1, a2] st h = am_go0 cl 48 3 [some (.inr (.inr (some x))), a1, a2] (.inr (.inr (some x)) :: st) h := am_r am_m48 d_48_2 rfl
theorem d_48_3 : am_code 48 3 = some (.getfield 43, 3) := by decide +kernel
theorem s_48_3 (cl : am_C) (ls : am_Ls) (st : List am_V) (N : Nat) (I : Nat → Int → Int) (L : Nat → Int → Int64) : am_go0 cl 48 3 ls (.inr (.inr (some 22)) :: st) (am_GS N, am_GR, I, L) = am_go0 cl 48 6 ls (.inr (.inr (some 15)) :: st) (am_GS N, am_GR, I, L) := am_rG2 am_m48 d_48_3 am_f3043 rfl (gs_22 N) (by decide) gr_22_2 rfl
theorem d_48_6 : am_code 48 6 = some (.iload_n 2, 1) := by decide +kernel
theorem s_48_6 (cl : am_C) (a0 a1 : Option am_V) (x : Int) (st : List am_V) (h : am_H) : am_go0 cl 48 6 [a0, a1, some (.inl x)] st h = am_go0 cl 48 7 [a0, a1, some (.inl x)] (.inl x :: st) h := am_r am_m48 d_48_6 rfl
theorem d_48_7 : am_code 48 7 = some (.invokevirtual 77, 3) := by decide +kernel
theorem s_48_7 (cl : am_C) (ls : am_Ls) (x0 : Int) (z0 : Int) (z1 : Nat) (N : Nat) (I : Nat → Int → Int) (L : Nat → Int → Int64) : am_go0 cl 48 7 ls [.inl x0, .inr (.inr (some 15)), .inl z0, .inr (.inr (some z1))] (am_GS N, am_GR, I, L) = am_bd (cl 35 [.inr (.inr (some 15)), .inl x0] (am_GS N, am_GR, I, L)) (fun v h2 => am_go0 cl 48 10 ls (v.toList ++ [.inl z0, .inr (.inr (some z1))]) h2) := am_rV am_m48 d_48_7 am_k3077 rfl am_m35 (gs_15 N) (by decide) (Nat.le_of_ble_eq_true rfl) rfl ls
theorem d_48_10 : am_code 48 10 = some (.iload_n 2, 1) := by decide +kernel
theorem s_48_10 (cl : am_C) (a0 a1 : Option am_V) (x : Int) (st : List am_V) (h : am_H) : am_go0 cl 48 10 [a0, a1, some (.inl x)] st h = am_go0 cl 48 11 [a0, a1, some (.inl x)] (.inl x :: st) h := am_r am_m48 d_48_10 rfl
theorem d_48_11 : am_code 48 11 = some (.aload_n 0, 1) := by decide +kernel
theorem s_48_11 (cl : am_C) (a1 a2 : Option am_V) (x : Nat) (st : List am_V) (h : am_H) : am_go0 cl 48 11 [some (.inr (.inr (some x))), a1, a2] st h = am_go0 cl 48 12 [some (.inr (.inr (some x))), a1, a2] (.inr (.inr (some x)) :: st) h := am_r am_m48 d_48_11 rfl
theorem d_48_12 : am_code 48 12 = some (.getfield 43, 3) := by decide +kernel
theorem s_48_12 (cl : am_C) (ls : am_Ls) (st : List am_V) (N : Nat) (I : Nat → Int → Int) (L : Nat → Int → Int64) : am_go0 cl 48 12 ls (.inr (.inr (some 22)) :: st) (am_GS N, am_GR, I, L) = am_go0 cl 48 15 ls (.inr (.inr (some 15)) :: st) (am_GS N, am_GR, I, L) := am_rG2 am_m48 d_48_12 am_f3043 rfl (gs_22 N) (by decide) gr_22_2 rfl
theorem d_48_15 : am_code 48 15 = some (.iload_n 2, 1) := by decide +kernel
theorem s_48_15 (cl : am_C) (a0 a1 : Option am_V) (x : Int) (st : List am_V) (h : am_H) : am_go0 cl 48 15 [a0, a1, some (.inl x)] st h = am_go0 cl 48 16 [a0, a1, some (.inl x)] (.inl x :: st) h := am_r am_m48 d_48_15 rfl
theorem d_48_16 : am_code 48 16 = some (.invokevirtual 83, 3) := by decide +kernel
theorem s_48_16 (cl : am_C) (ls : am_Ls) (x0 : Int) (z0 : Int) (z1 : Int) (z2 : Int) (z3 : Nat) (N : Nat) (I : Nat → Int → Int) (L : Nat → Int → Int64) : am_go0 cl 48 16 ls [.inl x0, .inr (.inr (some 15)), .inl z0, .inl z1, .inl z2, .inr (.inr (some z3))] (am_GS N, am_GR, I, L) = am_bd (cl 34 [.inr (.inr (some 15)), .inl x0] (am_GS N, am_GR, I, L)) (fun v h2 => am_go0 cl 48 19 ls (v.toList ++ [.inl z0, .inl z1, .inl z2, .inr (.inr (some z3))]) h2) := am_rV am_m48 d_48_16 am_k3083 rfl am_m34 (gs_15 N) (by decide) (Nat.le_of_ble_eq_true rfl) rfl ls
theorem d_48_19 : am_code 48 19 = some (.invokevirtual 86, 3) := by decide +kernel
theorem s_48_19 (cl : am_C) (ls : am_Ls) (x0 : Int) (x1 : Int) (x2 : Int) (x3 : Int) (N : Nat) (I : Nat → Int → Int) (L : Nat → Int → Int64) : am_go0 cl 48 19 ls [.inl x3, .inl x2, .inl x1, .inl x0, .inr (.inr (some 22))] (am_GS N, am_GR, I, L) = am_bd (cl 49 [.inr (.inr (some 22)), .inl x0, .inl x1, .inl x2, .inl x3] (am_GS N, am_GR, I, L)) (fun v h2 => am_go0 cl 48 22 ls (v.toList ++ []) h2) := am_rV am_m48 d_48_19 am_k3086 rfl am_m49 (gs_22 N) (by decide) (Nat.le_of_ble_eq_true rfl) rfl ls
theorem d_48_22 : am_code 48 22 = some (.ireturn, 1) := by decide +kernel
theorem s_48_22 (cl : am_C) (ls : am_Ls) (x : Int) (h : am_H) : am_go0 cl 48 22 ls [.inl x] h = if x = 0 ∨ x = 1 then some (some (.inl x), h) else none := am_rRz am_m48 d_48_22 x ls h
theorem e_48 (d : Nat) (t : Nat) (p0 : Int) (p1 : Int) (h : am_H) : am_call (d + 1) 48 [.inr (.inr (some t)), .inl p0, .inl p1] h = am_go0 (am_call d) 48 0 [some (.inr (.inr (some t))), some (.inl p0), some (.inl p1)] [] h := am_callE am_m48 (Nat.le_of_ble_eq_true rfl) rfl
theorem d_49_0 : am_code 49 0 = some (.aload_n 0, 1) := by decide +kernel
theorem s_49_0 (cl : am_C) (a1 a2 a3 a4 a5 : Option am_V) (x : Nat) (st : List am_V) (h : am_H) : am_go0 cl 49 0 [some (.inr (.inr (some x))), a1, a2, a3, a4, a5] st h = am_go0 cl 49 1 [some (.inr (.inr (some x))), a1, a2, a3, a4, a5] (.inr (.inr (some x)) :: st) h := am_r am_m49 d_49_0 rfl
theorem d_49_1 : am_code 49 1 = some (.iload_n 1, 1) := by decide +kernel
theorem s_49_1 (cl : am_C) (a0 a2 a3 a4 a5 : Option am_V) (x : Int) (st : List am_V) (h : am_H) : am_go0 cl 49 1 [a0, some (.inl x), a2, a3, a4, a5] st h = am_go0 cl 49 2 [a0, some (.inl x), a2, a3, a4, a5] (.inl x :: st) h := am_r am_m49 d_49_1 rfl
theorem d_49_2 : am_code 49 2 = some (.invokevirtual 70, 3) := by decide +kernel
theorem s_49_2 (cl : am_C) (ls : am_Ls) (x0 : Int) (N : Nat) (I : Nat → Int → Int) (L : Nat → Int → Int64) : am_go0 cl 49 2 ls [.inl x0, .inr (.inr (some 22))] (am_GS N, am_GR, I, L) = am_bd (cl 46 [.inr (.inr (some 22)), .inl x0] (am_GS N, am_GR, I, L)) (fun v h2 => am_go0 cl 49 5 ls (v.toList ++ []) h2) := am_rV am_m49 d_49_2 am_k3070 rfl am_m46 (gs_22 N) (by decide) (Nat.le_of_ble_eq_true rfl) rfl ls
theorem d_49_5 : am_code 49 5 = some (.ifCond .ne 5, 3) := by decide +kernel
theorem s_49_5 (cl : am_C) (ls : am_Ls) (x : Int) (st : List am_V) (h : am_H) : am_go0 cl 49 5 ls (.inl x :: st) h = if x = 0 then am_go0 cl 49 8 ls st h else am_go0 cl 49 10 ls st h := (am_rJ1 am_m49 d_49_5 (by decide) rfl x ls st h).trans (am_ifF ((am_cmp_ne x 0).trans Iff.rfl) _ _)
theorem d_49_8 : am_code 49 8 = some (.iconst 0, 1) := by decide +kernel
theorem s_49_8 (cl : am_C) (ls : am_Ls) (st : List am_V) (h : am_H) : am_go0 cl 49 8 ls st h = am_go0 cl 49 9 ls (.inl 0 :: st) h := am_rK am_m49 d_49_8 (by decide) rfl _ _ _
theorem d_49_9 : am_code 49 9 = some (.ireturn, 1) := by decide +kernel
theorem s_49_9 (cl : am_C) (ls : am_Ls) (x : Int) (h : am_H) : am_go0 cl 49 9 ls [.inl x] h = if x = 0 ∨ x = 1 then some (some (.inl x), h) else none := am_rRz am_m49 d_49_9 x ls h
theorem d_49_10 : am_code 49 10 = some (.iconst 0, 1) := by decide +kernel
theorem s_49_10 (cl : am_C) (ls : am_Ls) (st : List am_V) (h : am_H) : am_go0 cl 49 10 ls st h = am_go0 cl 49 11 ls (.inl 0 :: st) h := am_rK am_m49 d_49_10 (by decide) rfl _ _ _
theorem d_49_11 : am_code 49 11 = some (.istore 5, 2) := by decide +kernel
theorem s_49_11 (cl : am_C) (a0 a1 a2 a3 a4 a5 : Option am_V) (x : Int) (st : List am_V) (h : am_H) : am_go0 cl 49 11 [a0, a1, a2, a3, a4, a5] (.inl x :: st) h = am_go0 cl 49 13 [a0, a1, a2, a3, am_c1 a4, some (.inl x)] st h := am_r am_m49 d_49_11 rfl
theorem d_49_13 : am_code 49 13 = some (.iload 5, 2) := by decide +kernel
theorem s_49_13 (cl : am_C) (a0 a1 a2 a3 a4 : Option am_V) (x : Int) (st : List am_V) (h : am_H) : am_go0 cl 49 13 [a0, a1, a2, a3, a4, some (.inl x)] st h = am_go0 cl 49 15 [a0, a1, a2, a3, a4, some (.inl x)] (.inl x :: st) h := am_r am_m49 d_49_13 rfl
theorem d_49_15 : am_code 49 15 = some (.iload_n 1, 1) := by decide +kernel
theorem s_49_15 (cl : am_C) (a0 a2 a3 a4 a5 : Option am_V) (x : Int) (st : List am_V) (h : am_H) : am_go0 cl 49 15 [a0, some (.inl x), a2, a3, a4, a5] st h = am_go0 cl 49 16 [a0, some (.inl x), a2, a3, a4, a5] (.inl x :: st) h := am_r am_m49 d_49_15 rfl
theorem d_49_16 : am_code 49 16 = some (.if_icmp .ge 17, 3) := by decide +kernel
theorem s_49_16 (cl : am_C) (ls : am_Ls) (x y : Int) (st : List am_V) (h : am_H) : am_go0 cl 49 16 ls (.inl y :: .inl x :: st) h = if x < y then am_go0 cl 49 19 ls st h else am_go0 cl 49 33 ls st h := (am_rJ0 am_m49 d_49_16 (by decide) rfl x y ls st h).trans (am_ifF ((am_cmp_ge x y).trans Int.not_lt.symm) _ _)
theorem d_49_19 : am_code 49 19 = some (.aload_n 0, 1) := by decide +kernel
theorem s_49_19 (cl : am_C) (a1 a2 a3 a4 a5 : Option am_V) (x : Nat) (st : List am_V) (h : am_H) : am_go0 cl 49 19 [some (.inr (.inr (some x))), a1, a2, a3, a4, a5] st h = am_go0 cl 49 20 [some (.inr (.inr (some x))), a1, a2, a3, a4, a5] (.inr (.inr (some x)) :: st) h := am_r am_m49 d_49_19 rfl
theorem d_49_20 : am_code 49 20 = some (.getfield 31, 3) := by decide +kernel
theorem s_49_20 (cl : am_C) (ls : am_Ls) (st : List am_V) (N : Nat) (I : Nat → Int → Int) (L : Nat → Int → Int64) : am_go0 cl 49 20 ls (.inr (.inr (some 22)) :: st) (am_GS N, am_GR, I, L) = am_go0 cl 49 23 ls (.inr (.inr (some 28)) :: st) (am_GS N, am_GR, I, L) := am_rG2 am_m49 d_49_20 am_f3031 rfl (gs_22 N) (by decide) gr_22_9 rfl
theorem d_49_23 : am_code 49 23 = some (.iload 5, 2) := by decide +kernel
theorem s_49_23 (cl : am_C) (a0 a1 a2 a3 a4 : Option am_V) (x : Int) (st : List am_V) (h : am_H) : am_go0 cl 49 23 [a0, a1, a2, a3, a4, some (.inl x)] st h = am_go0 cl 49 25 [a0, a1, a2, a3, a4, some (.inl x)] (.inl x :: st) h := am_r am_m49 d_49_23 rfl
theorem d_49_25 : am_code 49 25 = some (.iconst 0, 1) := by decide +kernel
theorem s_49_25 (cl : am_C) (ls : am_Ls) (st : List am_V) (h : am_H) : am_go0 cl 49 25 ls st h = am_go0 cl 49 26 ls (.inl 0 :: st) h := am_rK am_m49 d_49_25 (by decide) rfl _ _ _
theorem d_49_26 : am_code 49 26 = some (.bastore, 1) := by decide +kernel
theorem s_49_26 (cl : am_C) (ls : am_Ls) (i : Int) (v : Int) (k : Nat) (st : List am_V) (N : Nat) (I : Nat → Int → Int) (L : Nat → Int → Int64) : am_go0 cl 49 26 ls (.inl v :: .inl i :: .inr (.inr (some k)) :: st) (am_GS N, am_GR, I, L) = if am_inb (am_GS N) k 2 i = true ∧ (v = 0 ∨ v = 1) then am_go0 cl 49 27 ls st (am_GS N, am_GR, am_uI I k i v, L) else none := am_rSb am_m49 d_49_26 rfl k ls st i v _ _ I L
theorem d_49_27 : am_code 49 27 = some (.iinc 5 1, 3) := by decide +kernel
theorem s_49_27 (cl : am_C) (a0 a1 a2 a3 a4 : Option am_V) (x : Int) (st : List am_V) (h : am_H) : am_go0 cl 49 27 [a0, a1, a2, a3, a4, some (.inl x)] st h = am_go0 cl 49 30 [a0, a1, a2, a3, am_c1 a4, some (.inl (am_wr (x + 1)))] st h := am_r am_m49 d_49_27 rfl
theorem d_49_30 : am_code 49 30 = some (.goto (-17), 3) := by decide +kernel
theorem s_49_30 (cl : am_C) (ls : am_Ls) (st : List am_V) (h : am_H) : am_go0 cl 49 30 ls st h = am_go0 cl 49 13 ls st h := am_rGo am_m49 d_49_30 (by decide) _ _ _
theorem d_49_33 : am_code 49 33 = some (.aload_n 0, 1) := by decide +kernel
theorem s_49_33 (cl : am_C) (a1 a2 a3 a4 a5 : Option am_V) (x : Nat) (st : List am_V) (h : am_H) : am_go0 cl 49 33 [some (.inr (.inr (some x))), a1, a2, a3, a4, a5] st h = am_go0 cl 49 34 [some (.inr (.inr (some x))), a1, a2, a3, a4, a5] (.inr (.inr (some x)) :: st) h := am_r am_m49 d_49_33 rfl
theorem d_49_34 : am_code 49 34 = some (.getfield 31, 3) := by decide +kernel
theorem s_49_34 (cl : am_C) (ls : am_Ls) (st : List am_V) (N : Nat) (I : Nat → Int → Int) (L : Nat → Int → Int64) : am_go0 cl 49 34 ls (.inr (.inr (some 22)) :: st) (am_GS N, am_GR, I, L) = am_go0 cl 49 37 ls (.inr (.inr (some 28)) :: st) (am_GS N, am_GR, I, L) := am_rG2 am_m49 d_49_34 am_f3031 rfl (gs_22 N) (by decide) gr_22_9 rfl
theorem d_49_37 : am_code 49 37 = some (.iload_n 1, 1) := by decide +kernel
theorem s_49_37 (cl : am_C) (a0 a2 a3 a4 a5 : Option am_V) (x : Int) (st : List am_V) (h : am_H) : am_go0 cl 49 37 [a0, some (.inl x), a2, a3, a4, a5] st h = am_go0 cl 49 38 [a0, some (.inl x), a2, a3, a4, a5] (.inl x :: st) h := am_r am_m49 d_49_37 rfl
theorem d_49_38 : am_code 49 38 = some (.iconst 1, 1) := by decide +kernel
theorem s_49_38 (cl : am_C) (ls : am_Ls) (st : List am_V) (h : am_H) : am_go0 cl 49 38 ls st h = am_go0 cl 49 39 ls (.inl 1 :: st) h := am_rK am_m49 d_49_38 (by decide) rfl _ _ _
theorem d_49_39 : am_code 49 39 = some (.bastore, 1) := by decide +kernel
theorem s_49_39 (cl : am_C) (ls : am_Ls) (i : Int) (v : Int) (k : Nat) (st : List am_V) (N : Nat) (I : Nat → Int → Int) (L : Nat → Int → Int64) : am_go0 cl 49 39 ls (.inl v :: .inl i :: .inr (.inr (some k)) :: st) (am_GS N, am_GR, I, L) = if am_inb (am_GS N) k 2 i = true ∧ (v = 0 ∨ v = 1) then am_go0 cl 49 40 ls st (am_GS N, am_GR, am_uI I k i v, L) else none := am_rSb am_m49 d_49_39 rfl k ls st i v _ _ I L
theorem d_49_40 : am_code 49 40 = some (.iload_n 1, 1) := by decide +kernel
theorem s_49_40 (cl : am_C) (a0 a2 a3 a4 a5 : Option am_V) (x : Int) (st : List am_V) (h : am_H) : am_go0 cl 49 40 [a0, some (.inl x), a2, a3, a4, a5] st h = am_go0 cl 49 41 [a0, some (.inl x), a2, a3, a4, a5] (.inl x :: st) h := am_r am_m49 d_49_40 rfl
theorem d_49_41 : am_code 49 41 = some (.istore 5, 2) := by decide +kernel
theorem s_49_41 (cl : am_C) (a0 a1 a2 a3 a4 a5 : Option am_V) (x : Int) (st : List am_V) (h : am_H) : am_go0 cl 49 41 [a0, a1, a2, a3, a4, a5] (.inl x :: st) h = am_go0 cl 49 43 [a0, a1, a2, a3, am_c1 a4, some (.inl x)] st h := am_r am_m49 d_49_41 rfl
theorem d_49_43 : am_code 49 43 = some (.iload 5, 2) := by decide +kernel
theorem s_49_43 (cl : am_C) (a0 a1 a2 a3 a4 : Option am_V) (x : Int) (st : List am_V) (h : am_H) : am_go0 cl 49 43 [a0, a1, a2, a3, a4, some (.inl x)] st h = am_go0 cl 49 45 [a0, a1, a2, a3, a4, some (.inl x)] (.inl x :: st) h := am_r am_m49 d_49_43 rfl
theorem d_49_45 : am_code 49 45 = some (.ifCond .lt 40, 3) := by decide +kernel
theorem s_49_45 (cl : am_C) (ls : am_Ls) (x : Int) (st : List am_V) (h : am_H) : am_go0 cl 49 45 ls (.inl x :: st) h = if x < 0 then am_go0 cl 49 85 ls st h else am_go0 cl 49 48 ls st h := (am_rJ1 am_m49 d_49_45 (by decide) rfl x ls st h).trans (am_ifT (am_cmp_lt x 0) _ _)
theorem d_49_48 : am_code 49 48 = some (.aload_n 0, 1) := by decide +kernel
theorem s_49_48 (cl : am_C) (a1 a2 a3 a4 a5 : Option am_V) (x : Nat) (st : List am_V) (h : am_H) : am_go0 cl 49 48 [some (.inr (.inr (some x))), a1, a2, a3, a4, a5] st h = am_go0 cl 49 49 [some (.inr (.inr (some x))), a1, a2, a3, a4, a5] (.inr (.inr (some x)) :: st) h := am_r am_m49 d_49_48 rfl
theorem d_49_49 : am_code 49 49 = some (.getfield 31, 3) := by decide +kernel
theorem s_49_49 (cl : am_C) (ls : am_Ls) (st : List am_V) (N : Nat) (I : Nat → Int → Int) (L : Nat → Int → Int64) : am_go0 cl 49 49 ls (.inr (.inr (some 22)) :: st) (am_GS N, am_GR, I, L) = am_go0 cl 49 52 ls (.inr (.inr (some 28)) :: st) (am_GS N, am_GR, I, L) := am_rG2 am_m49 d_49_49 am_f3031 rfl (gs_22 N) (by decide) gr_22_9 rfl
theorem d_49_52 : am_code 49 52 = some (.iload 5, 2) := by decide +kernel
theorem s_49_52 (cl : am_C) (a0 a1 a2 a3 a4 : Option am_V) (x : Int) (st : List am_V) (h : am_H) : am_go0 cl 49 52 [a0, a1, a2, a3, a4, some (.inl x)] st h = am_go0 cl 49 54 [a0, a1, a2, a3, a4, some (.inl x)] (.inl x :: st) h := am_r am_m49 d_49_52 rfl
theorem d_49_54 : am_code 49 54 = some (.baload, 1) := by decide +kernel
theorem s_49_54 (cl : am_C) (ls : am_Ls) (i : Int) (k : Nat) (st : List am_V) (N : Nat) (I : Nat → Int → Int) (L : Nat → Int → Int64) : am_go0 cl 49 54 ls (.inl i :: .inr (.inr (some k)) :: st) (am_GS N, am_GR, I, L) = if am_inb (am_GS N) k 2 i = true then am_go0 cl 49 55 ls (.inl (I k i) :: st) (am_GS N, am_GR, I, L) else none := am_rAb am_m49 d_49_54 rfl k ls st i _ _ I L
theorem d_49_55 : am_code 49 55 = some (.ifCond .eq 24, 3) := by decide +kernel
theorem s_49_55 (cl : am_C) (ls : am_Ls) (x : Int) (st : List am_V) (h : am_H) : am_go0 cl 49 55 ls (.inl x :: st) h = if x = 0 then am_go0 cl 49 79 ls st h else am_go0 cl 49 58 ls st h := (am_rJ1 am_m49 d_49_55 (by decide) rfl x ls st h).trans (am_ifT (am_cmp_eq x 0) _ _)
theorem d_49_58 : am_code 49 58 = some (.aload_n 0, 1) := by decide +kernel
theorem s_49_58 (cl : am_C) (a1 a2 a3 a4 a5 : Option am_V) (x : Nat) (st : List am_V) (h : am_H) : am_go0 cl 49 58 [some (.inr (.inr (some x))), a1, a2, a3, a4, a5] st h = am_go0 cl 49 59 [some (.inr (.inr (some x))), a1, a2, a3, a4, a5] (.inr (.inr (some x)) :: st) h := am_r am_m49 d_49_58 rfl
theorem d_49_59 : am_code 49 59 = some (.iload 5, 2) := by decide +kernel
theorem s_49_59 (cl : am_C) (a0 a1 a2 a3 a4 : Option am_V) (x : Int) (st : List am_V) (h : am_H) : am_go0 cl 49 59 [a0, a1, a2, a3, a4, some (.inl x)] st h = am_go0 cl 49 61 [a0, a1, a2, a3, a4, some (.inl x)] (.inl x :: st) h := am_r am_m49 d_49_59 rfl
theorem d_49_61 : am_code 49 61 = some (.iload_n 2, 1) := by decide +kernel
theorem s_49_61 (cl : am_C) (a0 a1 a3 a4 a5 : Option am_V) (x : Int) (st : List am_V) (h : am_H) : am_go0 cl 49 61 [a0, a1, some (.inl x), a3, a4, a5] st h = am_go0 cl 49 62 [a0, a1, some (.inl x), a3, a4, a5] (.inl x :: st) h := am_r am_m49 d_49_61 rfl
theorem d_49_62 : am_code 49 62 = some (.iload_n 3, 1) := by decide +kernel
theorem s_49_62 (cl : am_C) (a0 a1 a2 a4 a5 : Option am_V) (x : Int) (st : List am_V) (h : am_H) : am_go0 cl 49 62 [a0, a1, a2, some (.inl x), a4, a5] st h = am_go0 cl 49 63 [a0, a1, a2, some (.inl x), a4, a5] (.inl x :: st) h := am_r am_m49 d_49_62 rfl
theorem d_49_63 : am_code 49 63 = some (.iload 4, 2) := by decide +kernel
theorem s_49_63 (cl : am_C) (a0 a1 a2 a3 a5 : Option am_V) (x : Int) (st : List am_V) (h : am_H) : am_go0 cl 49 63 [a0, a1, a2, a3, some (.inl x), a5] st h = am_go0 cl 49 65 [a0, a1, a2, a3, some (.inl x), a5] (.inl x :: st) h := am_r am_m49 d_49_63 rfl
theorem d_49_65 : am_code 49 65 = some (.invokevirtual 89, 3) := by decide +kernel
theorem s_49_65 (cl : am_C) (ls : am_Ls) (x0 : Int) (x1 : Int) (x2 : Int) (x3 : Int) (N : Nat) (I : Nat → Int → Int) (L : Nat → Int → Int64) : am_go0 cl 49 65 ls [.inl x3, .inl x2, .inl x1, .inl x0, .inr (.inr (some 22))] (am_GS N, am_GR, I, L) = am_bd (cl 50 [.inr (.inr (some 22)), .inl x0, .inl x1, .inl x2, .inl x3] (am_GS N, am_GR, I, L)) (fun v h2 => am_go0 cl 49 68 ls (v.toList ++ []) h2) := am_rV am_m49 d_49_65 am_k3089 rfl am_m50 (gs_22 N) (by decide) (Nat.le_of_ble_eq_true rfl) rfl ls
theorem d_49_68 : am_code 49 68 = some (.ifCond .ne 5, 3) := by decide +kernel
theorem s_49_68 (cl : am_C) (ls : am_Ls) (x : Int) (st : List am_V) (h : am_H) : am_go0 cl 49 68 ls (.inl x :: st) h = if x = 0 then am_go0 cl 49 71 ls st h else am_go0 cl 49 73 ls st h := (am_rJ1 am_m49 d_49_68 (by decide) rfl x ls st h).trans (am_ifF ((am_cmp_ne x 0).trans Iff.rfl) _ _)
theorem d_49_71 : am_code 49 71 = some (.iconst 0, 1) := by decide +kernel
theorem s_49_71 (cl : am_C) (ls : am_Ls) (st : List am_V) (h : am_H) : am_go0 cl 49 71 ls st h = am_go0 cl 49 72 ls (.inl 0 :: st) h := am_rK am_m49 d_49_71 (by decide) rfl _ _ _
theorem d_49_72 : am_code 49 72 = some (.ireturn, 1) := by decide +kernel
theorem s_49_72 (cl : am_C) (ls : am_Ls) (x : Int) (h : am_H) : am_go0 cl 49 72 ls [.inl x] h = if x = 0 ∨ x = 1 then some (some (.inl x), h) else none := am_rRz am_m49 d_49_72 x ls h
theorem d_49_73 : am_code 49 73 = some (.aload_n 0, 1) := by decide +kernel
theorem s_49_73 (cl : am_C) (a1 a2 a3 a4 a5 : Option am_V) (x : Nat) (st : List am_V) (h : am_H) : am_go0 cl 49 73 [some (.inr (.inr (some x))), a1, a2, a3, a4, a5] st h = am_go0 cl 49 74 [some (.inr (.inr (some x))), a1, a2, a3, a4, a5] (.inr (.inr (some x)) :: st) h := am_r am_m49 d_49_73 rfl
theorem d_49_74 : am_code 49 74 = some (.iload 5, 2) := by decide +kernel
theorem s_49_74 (cl : am_C) (a0 a1 a2 a3 a4 : Option am_V) (x : Int) (st : List am_V) (h : am_H) : am_go0 cl 49 74 [a0, a1, a2, a3, a4, some (.inl x)] st h = am_go0 cl 49 76 [a0, a1, a2, a3, a4, some (.inl x)] (.inl x :: st) h := am_r am_m49 d_49_74 rfl
theorem d_49_76 : am_code 49 76 = some (.invokevirtual 92, 3) := by decide +kernel
theorem s_49_76 (cl : am_C) (ls : am_Ls) (x0 : Int) (N : Nat) (I : Nat → Int → Int) (L : Nat → Int → Int64) : am_go0 cl 49 76 ls [.inl x0, .inr (.inr (some 22))] (am_GS N, am_GR, I, L) = am_bd (cl 51 [.inr (.inr (some 22)), .inl x0] (am_GS N, am_GR, I, L)) (fun v h2 => am_go0 cl 49 79 ls (v.toList ++ []) h2) := am_rV am_m49 d_49_76 am_k3092 rfl am_m51 (gs_22 N) (by decide) (Nat.le_of_ble_eq_true rfl) rfl ls
theorem d_49_79 : am_code 49 79 = some (.iinc 5 (-1), 3) := by decide +kernel
theorem s_49_79 (cl : am_C) (a0 a1 a2 a3 a4 : Option am_V) (x : Int) (st : List am_V) (h : am_H) : am_go0 cl 49 79 [a0, a1, a2, a3, a4, some (.inl x)] st h = am_go0 cl 49 82 [a0, a1, a2, a3, am_c1 a4, some (.inl (am_wr (x + (-1))))] st h := am_r am_m49 d_49_79 rfl
theorem d_49_82 : am_code 49 82 = some (.goto (-39), 3) := by decide +kernel
theorem s_49_82 (cl : am_C) (ls : am_Ls) (st : List am_V) (h : am_H) : am_go0 cl 49 82 ls st h = am_go0 cl 49 43 ls st h := am_rGo am_m49 d_49_82 (by decide) _ _ _
theorem d_49_85 : am_code 49 85 = some (.iconst 1, 1) := by decide +kernel
theorem s_49_85 (cl : am_C) (ls : am_Ls) (st : List am_V) (h : am_H) : am_go0 cl 49 85 ls st h = am_go0 cl 49 86 ls (.inl 1 :: st) h := am_rK am_m49 d_49_85 (by decide) rfl _ _ _
theorem d_49_86 : am_code 49 86 = some (.ireturn, 1) := by decide +kernel
theorem s_49_86 (cl : am_C) (ls : am_Ls) (x : Int) (h : am_H) : am_go0 cl 49 86 ls [.inl x] h = if x = 0 ∨ x = 1 then some (some (.inl x), h) else none := am_rRz am_m49 d_49_86 x ls h
theorem e_49 (d : Nat) (t : Nat) (p0 : Int) (p1 : Int) (p2 : Int) (p3 : Int) (h : am_H) : am_call (d + 1) 49 [.inr (.inr (some t)), .inl p0, .inl p1, .inl p2, .inl p3] h = am_go0 (am_call d) 49 0 [some (.inr (.inr (some t))), some (.inl p0), some (.inl p1), some (.inl p2), some (.inl p3), none] [] h := am_callE am_m49 (Nat.le_of_ble_eq_true rfl) rfl
theorem d_50_0 : am_code 50 0 = some (.aload_n 0, 1) := by decide +kernel
theorem s_50_0 (cl : am_C) (a1 a2 a3 a4 a5 a6 : Option am_V) (x : Nat) (st : List am_V) (h : am_H) : am_go0 cl 50 0 [some (.inr (.inr (some x))), a1, a2, a3, a4, a5, a6] st h = am_go0 cl 50 1 [some (.inr (.inr (some x))), a1, a2, a3, a4, a5, a6] (.inr (.inr (some x)) :: st) h := am_r am_m50 d_50_0 rfl
theorem d_50_1 : am_code 50 1 = some (.getfield 15, 3) := by decide +kernel
theorem s_50_1 (cl : am_C) (ls : am_Ls) (st : List am_V) (N : Nat) (I : Nat → Int → Int) (L : Nat → Int → Int64) : am_go0 cl 50 1 ls (.inr (.inr (some 22)) :: st) (am_GS N, am_GR, I, L) = am_go0 cl 50 4 ls (.inr (.inr (some 24)) :: st) (am_GS N, am_GR, I, L) := am_rG2 am_m50 d_50_1 am_f3015 rfl (gs_22 N) (by decide) gr_22_4 rfl
theorem d_50_4 : am_code 50 4 = some (.iload_n 1, 1) := by decide +kernel
theorem s_50_4 (cl : am_C) (a0 a2 a3 a4 a5 a6 : Option am_V) (x : Int) (st : List am_V) (h : am_H) : am_go0 cl 50 4 [a0, some (.inl x), a2, a3, a4, a5, a6] st h = am_go0 cl 50 5 [a0, some (.inl x), a2, a3, a4, a5, a6] (.inl x :: st) h := am_r am_m50 d_50_4 rfl
theorem d_50_5 : am_code 50 5 = some (.iaload, 1) := by decide +kernel
theorem s_50_5 (cl : am_C) (ls : am_Ls) (i : Int) (k : Nat) (st : List am_V) (N : Nat) (I : Nat → Int → Int) (L : Nat → Int → Int64) : am_go0 cl 50 5 ls (.inl i :: .inr (.inr (some k)) :: st) (am_GS N, am_GR, I, L) = if am_inb (am_GS N) k 0 i = true then am_go0 cl 50 6 ls (.inl (I k i) :: st) (am_GS N, am_GR, I, L) else none := am_rA am_m50 d_50_5 (by decide) rfl k ls st i _ _ I L
theorem d_50_6 : am_code 50 6 = some (.istore 5, 2) := by decide +kernel
theorem s_50_6 (cl : am_C) (a0 a1 a2 a3 a4 a5 a6 : Option am_V) (x : Int) (st : List am_V) (h : am_H) : am_go0 cl 50 6 [a0, a1, a2, a3, a4, a5, a6] (.inl x :: st) h = am_go0 cl 50 8 [a0, a1, a2, a3, am_c1 a4, some (.inl x), a6] st h := am_r am_m50 d_50_6 rfl
theorem d_50_8 : am_code 50 8 = some (.aload_n 0, 1) := by decide +kernel
theorem s_50_8 (cl : am_C) (a1 a2 a3 a4 a5 a6 : Option am_V) (x : Nat) (st : List am_V) (h : am_H) : am_go0 cl 50 8 [some (.inr (.inr (some x))), a1, a2, a3, a4, a5, a6] st h = am_go0 cl 50 9 [some (.inr (.inr (some x))), a1, a2, a3, a4, a5, a6] (.inr (.inr (some x)) :: st) h := am_r am_m50 d_50_8 rfl
theorem d_50_9 : am_code 50 9 = some (.getfield 18, 3) := by decide +kernel
theorem s_50_9 (cl : am_C) (ls : am_Ls) (st : List am_V) (N : Nat) (I : Nat → Int → Int) (L : Nat → Int → Int64) : am_go0 cl 50 9 ls (.inr (.inr (some 22)) :: st) (am_GS N, am_GR, I, L) = am_go0 cl 50 12 ls (.inr (.inr (some 25)) :: st) (am_GS N, am_GR, I, L) := am_rG2 am_m50 d_50_9 am_f3018 rfl (gs_22 N) (by decide) gr_22_5 rfl
theorem d_50_12 : am_code 50 12 = some (.iload_n 1, 1) := by decide +kernel
theorem s_50_12 (cl : am_C) (a0 a2 a3 a4 a5 a6 : Option am_V) (x : Int) (st : List am_V) (h : am_H) : am_go0 cl 50 12 [a0, some (.inl x), a2, a3, a4, a5, a6] st h = am_go0 cl 50 13 [a0, some (.inl x), a2, a3, a4, a5, a6] (.inl x :: st) h := am_r am_m50 d_50_12 rfl
theorem d_50_13 : am_code 50 13 = some (.iaload, 1) := by decide +kernel
theorem s_50_13 (cl : am_C) (ls : am_Ls) (i : Int) (k : Nat) (st : List am_V) (N : Nat) (I : Nat → Int → Int) (L : Nat → Int → Int64) : am_go0 cl 50 13 ls (.inl i :: .inr (.inr (some k)) :: st) (am_GS N, am_GR, I, L) = if am_inb (am_GS N) k 0 i = true then am_go0 cl 50 14 ls (.inl (I k i) :: st) (am_GS N, am_GR, I, L) else none := am_rA am_m50 d_50_13 (by decide) rfl k ls st i _ _ I L
theorem d_50_14 : am_code 50 14 = some (.istore 6, 2) := by decide +kernel
theorem s_50_14 (cl : am_C) (a0 a1 a2 a3 a4 a5 a6 : Option am_V) (x : Int) (st : List am_V) (h : am_H) : am_go0 cl 50 14 [a0, a1, a2, a3, a4, a5, a6] (.inl x :: st) h = am_go0 cl 50 16 [a0, a1, a2, a3, a4, am_c1 a5, some (.inl x)] st h := am_r am_m50 d_50_14 rfl
theorem d_50_16 : am_code 50 16 = some (.aload_n 0, 1) := by decide +kernel
theorem s_50_16 (cl : am_C) (a1 a2 a3 a4 a5 a6 : Option am_V) (x : Nat) (st : List am_V) (h : am_H) : am_go0 cl 50 16 [some (.inr (.inr (some x))), a1, a2, a3, a4, a5, a6] st h = am_go0 cl 50 17 [some (.inr (.inr (some x))), a1, a2, a3, a4, a5, a6] (.inr (.inr (some x)) :: st) h := am_r am_m50 d_50_16 rfl
theorem d_50_17 : am_code 50 17 = some (.getfield 11, 3) := by decide +kernel
theorem s_50_17 (cl : am_C) (ls : am_Ls) (st : List am_V) (N : Nat) (I : Nat → Int → Int) (L : Nat → Int → Int64) : am_go0 cl 50 17 ls (.inr (.inr (some 22)) :: st) (am_GS N, am_GR, I, L) = am_go0 cl 50 20 ls (.inr (.inr (some 23)) :: st) (am_GS N, am_GR, I, L) := am_rG2 am_m50 d_50_17 am_f3011 rfl (gs_22 N) (by decide) gr_22_3 rfl
theorem d_50_20 : am_code 50 20 = some (.iload_n 1, 1) := by decide +kernel
theorem s_50_20 (cl : am_C) (a0 a2 a3 a4 a5 a6 : Option am_V) (x : Int) (st : List am_V) (h : am_H) : am_go0 cl 50 20 [a0, some (.inl x), a2, a3, a4, a5, a6] st h = am_go0 cl 50 21 [a0, some (.inl x), a2, a3, a4, a5, a6] (.inl x :: st) h := am_r am_m50 d_50_20 rfl
theorem d_50_21 : am_code 50 21 = some (.iaload, 1) := by decide +kernel
theorem s_50_21 (cl : am_C) (ls : am_Ls) (i : Int) (k : Nat) (st : List am_V) (N : Nat) (I : Nat → Int → Int) (L : Nat → Int → Int64) : am_go0 cl 50 21 ls (.inl i :: .inr (.inr (some k)) :: st) (am_GS N, am_GR, I, L) = if am_inb (am_GS N) k 0 i = true then am_go0 cl 50 22 ls (.inl (I k i) :: st) (am_GS N, am_GR, I, L) else none := am_rA am_m50 d_50_21 (by decide) rfl k ls st i _ _ I L
theorem d_50_22 : am_code 50 22 = some (.tableswitch 140 1 4 #[30, 41, 87, 128], 30) := by decide +kernel
theorem s_50_22 (cl : am_C) (ls : am_Ls) (x : Int) (st : List am_V) (h : am_H) : am_go0 cl 50 22 ls (.inl x :: st) h = if x = 1 then am_go0 cl 50 52 ls st h else if x = 2 then am_go0 cl 50 63 ls st h else if x = 3 then am_go0 cl 50 109 ls st h else if x = 4 then am_go0 cl 50 150 ls st h else am_go0 cl 50 162 ls st h := by
  by_cases q1 : x = 1
  · subst q1; exact (am_rTs (30) am_m50 d_50_22 (by decide +kernel) (by decide) _ _ _).trans (if_pos rfl).symm
  rw [if_neg q1]
  by_cases q2 : x = 2
  · subst q2; exact (am_rTs (41) am_m50 d_50_22 (by decide +kernel) (by decide) _ _ _).trans (if_pos rfl).symm
  rw [if_neg q2]
  by_cases q3 : x = 3
  · subst q3; exact (am_rTs (87) am_m50 d_50_22 (by decide +kernel) (by decide) _ _ _).trans (if_pos rfl).symm
  rw [if_neg q3]
  by_cases q4 : x = 4
  · subst q4; exact (am_rTs (128) am_m50 d_50_22 (by decide +kernel) (by decide) _ _ _).trans (if_pos rfl).symm
  rw [if_neg q4]
  exact am_rTs (140) am_m50 d_50_22 (am_sw_out (by omega)) (by decide) _ _ _
theorem d_50_52 : am_code 50 52 = some (.aload_n 0, 1) := by decide +kernel
theorem s_50_52 (cl : am_C) (a1 a2 a3 a4 a5 a6 : Option am_V) (x : Nat) (st : List am_V) (h : am_H) : am_go0 cl 50 52 [some (.inr (.inr (some x))), a1, a2, a3, a4, a5, a6] st h = am_go0 cl 50 53 [some (.inr (.inr (some x))), a1, a2, a3, a4, a5, a6] (.inr (.inr (some x)) :: st) h := am_r am_m50 d_50_52 rfl
theorem d_50_53 : am_code 50 53 = some (.getfield 39, 3) := by decide +kernel
theorem s_50_53 (cl : am_C) (ls : am_Ls) (st : List am_V) (N : Nat) (I : Nat → Int → Int) (L : Nat → Int → Int64) : am_go0 cl 50 53 ls (.inr (.inr (some 22)) :: st) (am_GS N, am_GR, I, L) = am_go0 cl 50 56 ls (.inr (.inr (some 10)) :: st) (am_GS N, am_GR, I, L) := am_rG2 am_m50 d_50_53 am_f3039 rfl (gs_22 N) (by decide) gr_22_1 rfl
theorem d_50_56 : am_code 50 56 = some (.iload_n 2, 1) := by decide +kernel
theorem s_50_56 (cl : am_C) (a0 a1 a3 a4 a5 a6 : Option am_V) (x : Int) (st : List am_V) (h : am_H) : am_go0 cl 50 56 [a0, a1, some (.inl x), a3, a4, a5, a6] st h = am_go0 cl 50 57 [a0, a1, some (.inl x), a3, a4, a5, a6] (.inl x :: st) h := am_r am_m50 d_50_56 rfl
theorem d_50_57 : am_code 50 57 = some (.iload 5, 2) := by decide +kernel
theorem s_50_57 (cl : am_C) (a0 a1 a2 a3 a4 a6 : Option am_V) (x : Int) (st : List am_V) (h : am_H) : am_go0 cl 50 57 [a0, a1, a2, a3, a4, some (.inl x), a6] st h = am_go0 cl 50 59 [a0, a1, a2, a3, a4, some (.inl x), a6] (.inl x :: st) h := am_r am_m50 d_50_57 rfl
theorem d_50_59 : am_code 50 59 = some (.invokevirtual 64, 3) := by decide +kernel
theorem s_50_59 (cl : am_C) (ls : am_Ls) (x0 : Int) (x1 : Int) (N : Nat) (I : Nat → Int → Int) (L : Nat → Int → Int64) : am_go0 cl 50 59 ls [.inl x1, .inl x0, .inr (.inr (some 10))] (am_GS N, am_GR, I, L) = am_bd (cl 6 [.inr (.inr (some 10)), .inl x0, .inl x1] (am_GS N, am_GR, I, L)) (fun v h2 => am_go0 cl 50 62 ls (v.toList ++ []) h2) := am_rV am_m50 d_50_59 am_k3064 rfl am_m6 (gs_10 N) (by decide) (Nat.le_of_ble_eq_true rfl) rfl ls
theorem d_50_62 : am_code 50 62 = some (.ireturn, 1) := by decide +kernel
theorem s_50_62 (cl : am_C) (ls : am_Ls) (x : Int) (h : am_H) : am_go0 cl 50 62 ls [.inl x] h = if x = 0 ∨ x = 1 then some (some (.inl x), h) else none := am_rRz am_m50 d_50_62 x ls h
theorem d_50_63 : am_code 50 63 = some (.iload_n 3, 1) := by decide +kernel
theorem s_50_63 (cl : am_C) (a0 a1 a2 a4 a5 a6 : Option am_V) (x : Int) (st : List am_V) (h : am_H) : am_go0 cl 50 63 [a0, a1, a2, some (.inl x), a4, a5, a6] st h = am_go0 cl 50 64 [a0, a1, a2, some (.inl x), a4, a5, a6] (.inl x :: st) h := am_r am_m50 d_50_63 rfl
theorem d_50_64 : am_code 50 64 = some (.iconst (-1), 1) := by decide +kernel
theorem s_50_64 (cl : am_C) (ls : am_Ls) (st : List am_V) (h : am_H) : am_go0 cl 50 64 ls st h = am_go0 cl 50 65 ls (.inl (-1) :: st) h := am_rK am_m50 d_50_64 (by decide) rfl _ _ _
theorem d_50_65 : am_code 50 65 = some (.if_icmp .eq 42, 3) := by decide +kernel
theorem s_50_65 (cl : am_C) (ls : am_Ls) (x y : Int) (st : List am_V) (h : am_H) : am_go0 cl 50 65 ls (.inl y :: .inl x :: st) h = if x = y then am_go0 cl 50 107 ls st h else am_go0 cl 50 68 ls st h := (am_rJ0 am_m50 d_50_65 (by decide) rfl x y ls st h).trans (am_ifT (am_cmp_eq x y) _ _)
theorem d_50_68 : am_code 50 68 = some (.iload 5, 2) := by decide +kernel
theorem s_50_68 (cl : am_C) (a0 a1 a2 a3 a4 a6 : Option am_V) (x : Int) (st : List am_V) (h : am_H) : am_go0 cl 50 68 [a0, a1, a2, a3, a4, some (.inl x), a6] st h = am_go0 cl 50 70 [a0, a1, a2, a3, a4, some (.inl x), a6] (.inl x :: st) h := am_r am_m50 d_50_68 rfl
theorem d_50_70 : am_code 50 70 = some (.aload_n 0, 1) := by decide +kernel
theorem s_50_70 (cl : am_C) (a1 a2 a3 a4 a5 a6 : Option am_V) (x : Nat) (st : List am_V) (h : am_H) : am_go0 cl 50 70 [some (.inr (.inr (some x))), a1, a2, a3, a4, a5, a6] st h = am_go0 cl 50 71 [some (.inr (.inr (some x))), a1, a2, a3, a4, a5, a6] (.inr (.inr (some x)) :: st) h := am_r am_m50 d_50_70 rfl
theorem d_50_71 : am_code 50 71 = some (.getfield 43, 3) := by decide +kernel
theorem s_50_71 (cl : am_C) (ls : am_Ls) (st : List am_V) (N : Nat) (I : Nat → Int → Int) (L : Nat → Int → Int64) : am_go0 cl 50 71 ls (.inr (.inr (some 22)) :: st) (am_GS N, am_GR, I, L) = am_go0 cl 50 74 ls (.inr (.inr (some 15)) :: st) (am_GS N, am_GR, I, L) := am_rG2 am_m50 d_50_71 am_f3043 rfl (gs_22 N) (by decide) gr_22_2 rfl
theorem d_50_74 : am_code 50 74 = some (.iload_n 3, 1) := by decide +kernel
theorem s_50_74 (cl : am_C) (a0 a1 a2 a4 a5 a6 : Option am_V) (x : Int) (st : List am_V) (h : am_H) : am_go0 cl 50 74 [a0, a1, a2, some (.inl x), a4, a5, a6] st h = am_go0 cl 50 75 [a0, a1, a2, some (.inl x), a4, a5, a6] (.inl x :: st) h := am_r am_m50 d_50_74 rfl
theorem d_50_75 : am_code 50 75 = some (.invokevirtual 96, 3) := by decide +kernel
theorem s_50_75 (cl : am_C) (ls : am_Ls) (x0 : Int) (z0 : Int) (N : Nat) (I : Nat → Int → Int) (L : Nat → Int → Int64) : am_go0 cl 50 75 ls [.inl x0, .inr (.inr (some 15)), .inl z0] (am_GS N, am_GR, I, L) = am_bd (cl 36 [.inr (.inr (some 15)), .inl x0] (am_GS N, am_GR, I, L)) (fun v h2 => am_go0 cl 50 78 ls (v.toList ++ [.inl z0]) h2) := am_rV am_m50 d_50_75 am_k3096 rfl am_m36 (gs_15 N) (by decide) (Nat.le_of_ble_eq_true rfl) rfl ls
theorem d_50_78 : am_code 50 78 = some (.if_icmp .ge 29, 3) := by decide +kernel
theorem s_50_78 (cl : am_C) (ls : am_Ls) (x y : Int) (st : List am_V) (h : am_H) : am_go0 cl 50 78 ls (.inl y :: .inl x :: st) h = if x < y then am_go0 cl 50 81 ls st h else am_go0 cl 50 107 ls st h := (am_rJ0 am_m50 d_50_78 (by decide) rfl x y ls st h).trans (am_ifF ((am_cmp_ge x y).trans Int.not_lt.symm) _ _)
theorem d_50_81 : am_code 50 81 = some (.aload_n 0, 1) := by decide +kernel
theorem s_50_81 (cl : am_C) (a1 a2 a3 a4 a5 a6 : Option am_V) (x : Nat) (st : List am_V) (h : am_H) : am_go0 cl 50 81 [some (.inr (.inr (some x))), a1, a2, a3, a4, a5, a6] st h = am_go0 cl 50 82 [some (.inr (.inr (some x))), a1, a2, a3, a4, a5, a6] (.inr (.inr (some x)) :: st) h := am_r am_m50 d_50_81 rfl
theorem d_50_82 : am_code 50 82 = some (.getfield 39, 3) := by decide +kernel
theorem s_50_82 (cl : am_C) (ls : am_Ls) (st : List am_V) (N : Nat) (I : Nat → Int → Int) (L : Nat → Int → Int64) : am_go0 cl 50 82 ls (.inr (.inr (some 22)) :: st) (am_GS N, am_GR, I, L) = am_go0 cl 50 85 ls (.inr (.inr (some 10)) :: st) (am_GS N, am_GR, I, L) := am_rG2 am_m50 d_50_82 am_f3039 rfl (gs_22 N) (by decide) gr_22_1 rfl
theorem d_50_85 : am_code 50 85 = some (.aload_n 0, 1) := by decide +kernel
theorem s_50_85 (cl : am_C) (a1 a2 a3 a4 a5 a6 : Option am_V) (x : Nat) (st : List am_V) (h : am_H) : am_go0 cl 50 85 [some (.inr (.inr (some x))), a1, a2, a3, a4, a5, a6] st h = am_go0 cl 50 86 [some (.inr (.inr (some x))), a1, a2, a3, a4, a5, a6] (.inr (.inr (some x)) :: st) h := am_r am_m50 d_50_85 rfl
theorem d_50_86 : am_code 50 86 = some (.getfield 43, 3) := by decide +kernel
theorem s_50_86 (cl : am_C) (ls : am_Ls) (st : List am_V) (N : Nat) (I : Nat → Int → Int) (L : Nat → Int → Int64) : am_go0 cl 50 86 ls (.inr (.inr (some 22)) :: st) (am_GS N, am_GR, I, L) = am_go0 cl 50 89 ls (.inr (.inr (some 15)) :: st) (am_GS N, am_GR, I, L) := am_rG2 am_m50 d_50_86 am_f3043 rfl (gs_22 N) (by decide) gr_22_2 rfl
theorem d_50_89 : am_code 50 89 = some (.iload_n 3, 1) := by decide +kernel
theorem s_50_89 (cl : am_C) (a0 a1 a2 a4 a5 a6 : Option am_V) (x : Int) (st : List am_V) (h : am_H) : am_go0 cl 50 89 [a0, a1, a2, some (.inl x), a4, a5, a6] st h = am_go0 cl 50 90 [a0, a1, a2, some (.inl x), a4, a5, a6] (.inl x :: st) h := am_r am_m50 d_50_89 rfl
theorem d_50_90 : am_code 50 90 = some (.iload 5, 2) := by decide +kernel
theorem s_50_90 (cl : am_C) (a0 a1 a2 a3 a4 a6 : Option am_V) (x : Int) (st : List am_V) (h : am_H) : am_go0 cl 50 90 [a0, a1, a2, a3, a4, some (.inl x), a6] st h = am_go0 cl 50 92 [a0, a1, a2, a3, a4, some (.inl x), a6] (.inl x :: st) h := am_r am_m50 d_50_90 rfl
theorem d_50_92 : am_code 50 92 = some (.invokevirtual 99, 3) := by decide +kernel
theorem s_50_92 (cl : am_C) (ls : am_Ls) (x0 : Int) (x1 : Int) (z0 : Nat) (N : Nat) (I : Nat → Int → Int) (L : Nat → Int → Int64) : am_go0 cl 50 92 ls [.inl x1, .inl x0, .inr (.inr (some 15)), .inr (.inr (some z0))] (am_GS N, am_GR, I, L) = am_bd (cl 37 [.inr (.inr (some 15)), .inl x0, .inl x1] (am_GS N, am_GR, I, L)) (fun v h2 => am_go0 cl 50 95 ls (v.toList ++ [.inr (.inr (some z0))]) h2) := am_rV am_m50 d_50_92 am_k3099 rfl am_m37 (gs_15 N) (by decide) (Nat.le_of_ble_eq_true rfl) rfl ls
theorem d_50_95 : am_code 50 95 = some (.iload 6, 2) := by decide +kernel
theorem s_50_95 (cl : am_C) (a0 a1 a2 a3 a4 a5 : Option am_V) (x : Int) (st : List am_V) (h : am_H) : am_go0 cl 50 95 [a0, a1, a2, a3, a4, a5, some (.inl x)] st h = am_go0 cl 50 97 [a0, a1, a2, a3, a4, a5, some (.inl x)] (.inl x :: st) h := am_r am_m50 d_50_95 rfl
theorem d_50_97 : am_code 50 97 = some (.invokevirtual 64, 3) := by decide +kernel
theorem s_50_97 (cl : am_C) (ls : am_Ls) (x0 : Int) (x1 : Int) (N : Nat) (I : Nat → Int → Int) (L : Nat → Int → Int64) : am_go0 cl 50 97 ls [.inl x1, .inl x0, .inr (.inr (some 10))] (am_GS N, am_GR, I, L) = am_bd (cl 6 [.inr (.inr (some 10)), .inl x0, .inl x1] (am_GS N, am_GR, I, L)) (fun v h2 => am_go0 cl 50 100 ls (v.toList ++ []) h2) := am_rV am_m50 d_50_97 am_k3064 rfl am_m6 (gs_10 N) (by decide) (Nat.le_of_ble_eq_true rfl) rfl ls
theorem d_50_100 : am_code 50 100 = some (.ifCond .eq 7, 3) := by decide +kernel
theorem s_50_100 (cl : am_C) (ls : am_Ls) (x : Int) (st : List am_V) (h : am_H) : am_go0 cl 50 100 ls (.inl x :: st) h = if x = 0 then am_go0 cl 50 107 ls st h else am_go0 cl 50 103 ls st h := (am_rJ1 am_m50 d_50_100 (by decide) rfl x ls st h).trans (am_ifT (am_cmp_eq x 0) _ _)
theorem d_50_103 : am_code 50 103 = some (.iconst 1, 1) := by decide +kernel
theorem s_50_103 (cl : am_C) (ls : am_Ls) (st : List am_V) (h : am_H) : am_go0 cl 50 103 ls st h = am_go0 cl 50 104 ls (.inl 1 :: st) h := am_rK am_m50 d_50_103 (by decide) rfl _ _ _
theorem d_50_104 : am_code 50 104 = some (.goto 4, 3) := by decide +kernel
theorem s_50_104 (cl : am_C) (ls : am_Ls) (st : List am_V) (h : am_H) : am_go0 cl 50 104 ls st h = am_go0 cl 50 108 ls st h := am_rGo am_m50 d_50_104 (by decide) _ _ _
theorem d_50_107 : am_code 50 107 = some (.iconst 0, 1) := by decide +kernel
theorem s_50_107 (cl : am_C) (ls : am_Ls) (st : List am_V) (h : am_H) : am_go0 cl 50 107 ls st h = am_go0 cl 50 108 ls (.inl 0 :: st) h := am_rK am_m50 d_50_107 (by decide) rfl _ _ _
theorem d_50_108 : am_code 50 108 = some (.ireturn, 1) := by decide +kernel
theorem s_50_108 (cl : am_C) (ls : am_Ls) (x : Int) (h : am_H) : am_go0 cl 50 108 ls [.inl x] h = if x = 0 ∨ x = 1 then some (some (.inl x), h) else none := am_rRz am_m50 d_50_108 x ls h
theorem d_50_109 : am_code 50 109 = some (.iload 5, 2) := by decide +kernel
theorem s_50_109 (cl : am_C) (a0 a1 a2 a3 a4 a6 : Option am_V) (x : Int) (st : List am_V) (h : am_H) : am_go0 cl 50 109 [a0, a1, a2, a3, a4, some (.inl x), a6] st h = am_go0 cl 50 111 [a0, a1, a2, a3, a4, some (.inl x), a6] (.inl x :: st) h := am_r am_m50 d_50_109 rfl
theorem d_50_111 : am_code 50 111 = some (.aload_n 0, 1) := by decide +kernel
theorem s_50_111 (cl : am_C) (a1 a2 a3 a4 a5 a6 : Option am_V) (x : Nat) (st : List am_V) (h : am_H) : am_go0 cl 50 111 [some (.inr (.inr (some x))), a1, a2, a3, a4, a5, a6] st h = am_go0 cl 50 112 [some (.inr (.inr (some x))), a1, a2, a3, a4, a5, a6] (.inr (.inr (some x)) :: st) h := am_r am_m50 d_50_111 rfl
theorem d_50_112 : am_code 50 112 = some (.getfield 39, 3) := by decide +kernel
theorem s_50_112 (cl : am_C) (ls : am_Ls) (st : List am_V) (N : Nat) (I : Nat → Int → Int) (L : Nat → Int → Int64) : am_go0 cl 50 112 ls (.inr (.inr (some 22)) :: st) (am_GS N, am_GR, I, L) = am_go0 cl 50 115 ls (.inr (.inr (some 10)) :: st) (am_GS N, am_GR, I, L) := am_rG2 am_m50 d_50_112 am_f3039 rfl (gs_22 N) (by decide) gr_22_1 rfl
theorem d_50_115 : am_code 50 115 = some (.iload_n 2, 1) := by decide +kernel
theorem s_50_115 (cl : am_C) (a0 a1 a3 a4 a5 a6 : Option am_V) (x : Int) (st : List am_V) (h : am_H) : am_go0 cl 50 115 [a0, a1, some (.inl x), a3, a4, a5, a6] st h = am_go0 cl 50 116 [a0, a1, some (.inl x), a3, a4, a5, a6] (.inl x :: st) h := am_r am_m50 d_50_115 rfl
theorem d_50_116 : am_code 50 116 = some (.invokevirtual 102, 3) := by decide +kernel
theorem s_50_116 (cl : am_C) (ls : am_Ls) (x0 : Int) (z0 : Int) (N : Nat) (I : Nat → Int → Int) (L : Nat → Int → Int64) : am_go0 cl 50 116 ls [.inl x0, .inr (.inr (some 10)), .inl z0] (am_GS N, am_GR, I, L) = am_bd (cl 7 [.inr (.inr (some 10)), .inl x0] (am_GS N, am_GR, I, L)) (fun v h2 => am_go0 cl 50 119 ls (v.toList ++ [.inl z0]) h2) := am_rV am_m50 d_50_116 am_k3102 rfl am_m7 (gs_10 N) (by decide) (Nat.le_of_ble_eq_true rfl) rfl ls
theorem d_50_119 : am_code 50 119 = some (.if_icmp .ge 29, 3) := by decide +kernel
theorem s_50_119 (cl : am_C) (ls : am_Ls) (x y : Int) (st : List am_V) (h : am_H) : am_go0 cl 50 119 ls (.inl y :: .inl x :: st) h = if x < y then am_go0 cl 50 122 ls st h else am_go0 cl 50 148 ls st h := (am_rJ0 am_m50 d_50_119 (by decide) rfl x y ls st h).trans (am_ifF ((am_cmp_ge x y).trans Int.not_lt.symm) _ _)
theorem d_50_122 : am_code 50 122 = some (.aload_n 0, 1) := by decide +kernel
theorem s_50_122 (cl : am_C) (a1 a2 a3 a4 a5 a6 : Option am_V) (x : Nat) (st : List am_V) (h : am_H) : am_go0 cl 50 122 [some (.inr (.inr (some x))), a1, a2, a3, a4, a5, a6] st h = am_go0 cl 50 123 [some (.inr (.inr (some x))), a1, a2, a3, a4, a5, a6] (.inr (.inr (some x)) :: st) h := am_r am_m50 d_50_122 rfl
theorem d_50_123 : am_code 50 123 = some (.getfield 39, 3) := by decide +kernel
theorem s_50_123 (cl : am_C) (ls : am_Ls) (st : List am_V) (N : Nat) (I : Nat → Int → Int) (L : Nat → Int → Int64) : am_go0 cl 50 123 ls (.inr (.inr (some 22)) :: st) (am_GS N, am_GR, I, L) = am_go0 cl 50 126 ls (.inr (.inr (some 10)) :: st) (am_GS N, am_GR, I, L) := am_rG2 am_m50 d_50_123 am_f3039 rfl (gs_22 N) (by decide) gr_22_1 rfl
theorem d_50_126 : am_code 50 126 = some (.aload_n 0, 1) := by decide +kernel
theorem s_50_126 (cl : am_C) (a1 a2 a3 a4 a5 a6 : Option am_V) (x : Nat) (st : List am_V) (h : am_H) : am_go0 cl 50 126 [some (.inr (.inr (some x))), a1, a2, a3, a4, a5, a6] st h = am_go0 cl 50 127 [some (.inr (.inr (some x))), a1, a2, a3, a4, a5, a6] (.inr (.inr (some x)) :: st) h := am_r am_m50 d_50_126 rfl
theorem d_50_127 : am_code 50 127 = some (.getfield 39, 3) := by decide +kernel
theorem s_50_127 (cl : am_C) (ls : am_Ls) (st : List am_V) (N : Nat) (I : Nat → Int → Int) (L : Nat → Int → Int64) : am_go0 cl 50 127 ls (.inr (.inr (some 22)) :: st) (am_GS N, am_GR, I, L) = am_go0 cl 50 130 ls (.inr (.inr (some 10)) :: st) (am_GS N, am_GR, I, L) := am_rG2 am_m50 d_50_127 am_f3039 rfl (gs_22 N) (by decide) gr_22_1 rfl
theorem d_50_130 : am_code 50 130 = some (.iload_n 2, 1) := by decide +kernel
theorem s_50_130 (cl : am_C) (a0 a1 a3 a4 a5 a6 : Option am_V) (x : Int) (st : List am_V) (h : am_H) : am_go0 cl 50 130 [a0, a1, some (.inl x), a3, a4, a5, a6] st h = am_go0 cl 50 131 [a0, a1, some (.inl x), a3, a4, a5, a6] (.inl x :: st) h := am_r am_m50 d_50_130 rfl
theorem d_50_131 : am_code 50 131 = some (.iload 5, 2) := by decide +kernel
theorem s_50_131 (cl : am_C) (a0 a1 a2 a3 a4 a6 : Option am_V) (x : Int) (st : List am_V) (h : am_H) : am_go0 cl 50 131 [a0, a1, a2, a3, a4, some (.inl x), a6] st h = am_go0 cl 50 133 [a0, a1, a2, a3, a4, some (.inl x), a6] (.inl x :: st) h := am_r am_m50 d_50_131 rfl
theorem d_50_133 : am_code 50 133 = some (.invokevirtual 105, 3) := by decide +kernel
theorem s_50_133 (cl : am_C) (ls : am_Ls) (x0 : Int) (x1 : Int) (z0 : Nat) (N : Nat) (I : Nat → Int → Int) (L : Nat → Int → Int64) : am_go0 cl 50 133 ls [.inl x1, .inl x0, .inr (.inr (some 10)), .inr (.inr (some z0))] (am_GS N, am_GR, I, L) = am_bd (cl 5 [.inr (.inr (some 10)), .inl x0, .inl x1] (am_GS N, am_GR, I, L)) (fun v h2 => am_go0 cl 50 136 ls (v.toList ++ [.inr (.inr (some z0))]) h2) := am_rV am_m50 d_50_133 am_k3105 rfl am_m5 (gs_10 N) (by decide) (Nat.le_of_ble_eq_true rfl) rfl ls
theorem d_50_136 : am_code 50 136 = some (.iload 6, 2) := by decide +kernel
theorem s_50_136 (cl : am_C) (a0 a1 a2 a3 a4 a5 : Option am_V) (x : Int) (st : List am_V) (h : am_H) : am_go0 cl 50 136 [a0, a1, a2, a3, a4, a5, some (.inl x)] st h = am_go0 cl 50 138 [a0, a1, a2, a3, a4, a5, some (.inl x)] (.inl x :: st) h := am_r am_m50 d_50_136 rfl
theorem d_50_138 : am_code 50 138 = some (.invokevirtual 64, 3) := by decide +kernel
theorem s_50_138 (cl : am_C) (ls : am_Ls) (x0 : Int) (x1 : Int) (N : Nat) (I : Nat → Int → Int) (L : Nat → Int → Int64) : am_go0 cl 50 138 ls [.inl x1, .inl x0, .inr (.inr (some 10))] (am_GS N, am_GR, I, L) = am_bd (cl 6 [.inr (.inr (some 10)), .inl x0, .inl x1] (am_GS N, am_GR, I, L)) (fun v h2 => am_go0 cl 50 141 ls (v.toList ++ []) h2) := am_rV am_m50 d_50_138 am_k3064 rfl am_m6 (gs_10 N) (by decide) (Nat.le_of_ble_eq_true rfl) rfl ls
theorem d_50_141 : am_code 50 141 = some (.ifCond .eq 7, 3) := by decide +kernel
theorem s_50_141 (cl : am_C) (ls : am_Ls) (x : Int) (st : List am_V) (h : am_H) : am_go0 cl 50 141 ls (.inl x :: st) h = if x = 0 then am_go0 cl 50 148 ls st h else am_go0 cl 50 144 ls st h := (am_rJ1 am_m50 d_50_141 (by decide) rfl x ls st h).trans (am_ifT (am_cmp_eq x 0) _ _)
theorem d_50_144 : am_code 50 144 = some (.iconst 1, 1) := by decide +kernel
theorem s_50_144 (cl : am_C) (ls : am_Ls) (st : List am_V) (h : am_H) : am_go0 cl 50 144 ls st h = am_go0 cl 50 145 ls (.inl 1 :: st) h := am_rK am_m50 d_50_144 (by decide) rfl _ _ _
theorem d_50_145 : am_code 50 145 = some (.goto 4, 3) := by decide +kernel
theorem s_50_145 (cl : am_C) (ls : am_Ls) (st : List am_V) (h : am_H) : am_go0 cl 50 145 ls st h = am_go0 cl 50 149 ls st h := am_rGo am_m50 d_50_145 (by decide) _ _ _
theorem d_50_148 : am_code 50 148 = some (.iconst 0, 1) := by decide +kernel
theorem s_50_148 (cl : am_C) (ls : am_Ls) (st : List am_V) (h : am_H) : am_go0 cl 50 148 ls st h = am_go0 cl 50 149 ls (.inl 0 :: st) h := am_rK am_m50 d_50_148 (by decide) rfl _ _ _
theorem d_50_149 : am_code 50 149 = some (.ireturn, 1) := by decide +kernel
theorem s_50_149 (cl : am_C) (ls : am_Ls) (x : Int) (h : am_H) : am_go0 cl 50 149 ls [.inl x] h = if x = 0 ∨ x = 1 then some (some (.inl x), h) else none := am_rRz am_m50 d_50_149 x ls h
theorem d_50_150 : am_code 50 150 = some (.aload_n 0, 1) := by decide +kernel
theorem s_50_150 (cl : am_C) (a1 a2 a3 a4 a5 a6 : Option am_V) (x : Nat) (st : List am_V) (h : am_H) : am_go0 cl 50 150 [some (.inr (.inr (some x))), a1, a2, a3, a4, a5, a6] st h = am_go0 cl 50 151 [some (.inr (.inr (some x))), a1, a2, a3, a4, a5, a6] (.inr (.inr (some x)) :: st) h := am_r am_m50 d_50_150 rfl
theorem d_50_151 : am_code 50 151 = some (.getfield 35, 3) := by decide +kernel
theorem s_50_151 (cl : am_C) (ls : am_Ls) (st : List am_V) (N : Nat) (I : Nat → Int → Int) (L : Nat → Int → Int64) : am_go0 cl 50 151 ls (.inr (.inr (some 22)) :: st) (am_GS N, am_GR, I, L) = am_go0 cl 50 154 ls (.inr (.inr (some 2)) :: st) (am_GS N, am_GR, I, L) := am_rG2 am_m50 d_50_151 am_f3035 rfl (gs_22 N) (by decide) gr_22_0 rfl
theorem d_50_154 : am_code 50 154 = some (.iload 6, 2) := by decide +kernel
theorem s_50_154 (cl : am_C) (a0 a1 a2 a3 a4 a5 : Option am_V) (x : Int) (st : List am_V) (h : am_H) : am_go0 cl 50 154 [a0, a1, a2, a3, a4, a5, some (.inl x)] st h = am_go0 cl 50 156 [a0, a1, a2, a3, a4, a5, some (.inl x)] (.inl x :: st) h := am_r am_m50 d_50_154 rfl
theorem d_50_156 : am_code 50 156 = some (.iload 4, 2) := by decide +kernel
theorem s_50_156 (cl : am_C) (a0 a1 a2 a3 a5 a6 : Option am_V) (x : Int) (st : List am_V) (h : am_H) : am_go0 cl 50 156 [a0, a1, a2, a3, some (.inl x), a5, a6] st h = am_go0 cl 50 158 [a0, a1, a2, a3, some (.inl x), a5, a6] (.inl x :: st) h := am_r am_m50 d_50_156 rfl
theorem d_50_158 : am_code 50 158 = some (.invokevirtual 108, 3) := by decide +kernel
theorem s_50_158 (cl : am_C) (ls : am_Ls) (x0 : Int) (x1 : Int) (N : Nat) (I : Nat → Int → Int) (L : Nat → Int → Int64) : am_go0 cl 50 158 ls [.inl x1, .inl x0, .inr (.inr (some 2))] (am_GS N, am_GR, I, L) = am_bd (cl 77 [.inr (.inr (some 2)), .inl x0, .inl x1] (am_GS N, am_GR, I, L)) (fun v h2 => am_go0 cl 50 161 ls (v.toList ++ []) h2) := am_rV am_m50 d_50_158 am_k3108 rfl am_m77 (gs_2 N) (by decide) (Nat.le_of_ble_eq_true rfl) rfl ls
theorem d_50_161 : am_code 50 161 = some (.ireturn, 1) := by decide +kernel
theorem s_50_161 (cl : am_C) (ls : am_Ls) (x : Int) (h : am_H) : am_go0 cl 50 161 ls [.inl x] h = if x = 0 ∨ x = 1 then some (some (.inl x), h) else none := am_rRz am_m50 d_50_161 x ls h
theorem d_50_162 : am_code 50 162 = some (.iconst 1, 1) := by decide +kernel
theorem s_50_162 (cl : am_C) (ls : am_Ls) (st : List am_V) (h : am_H) : am_go0 cl 50 162 ls st h = am_go0 cl 50 163 ls (.inl 1 :: st) h := am_rK am_m50 d_50_162 (by decide) rfl _ _ _
theorem d_50_163 : am_code 50 163 = some (.ireturn, 1) := by decide +kernel
theorem s_50_163 (cl : am_C) (ls : am_Ls) (x : Int) (h : am_H) : am_go0 cl 50 163 ls [.inl x] h = if x = 0 ∨ x = 1 then some (some (.inl x), h) else none := am_rRz am_m50 d_50_163 x ls h
theorem e_50 (d : Nat) (t : Nat) (p0 : Int) (p1 : Int) (p2 : Int) (p3 : Int) (h : am_H) : am_call (d + 1) 50 [.inr (.inr (some t)), .inl p0, .inl p1, .inl p2, .inl p3] h = am_go0 (am_call d) 50 0 [some (.inr (.inr (some t))), some (.inl p0), some (.inl p1), some (.inl p2), some (.inl p3), none, none] [] h := am_callE am_m50 (Nat.le_of_ble_eq_true rfl) rfl
theorem d_51_0 : am_code 51 0 = some (.aload_n 0, 1) := by decide +kernel
theorem s_51_0 (cl : am_C) (a1 : Option am_V) (x : Nat) (st : List am_V) (h : am_H) : am_go0 cl 51 0 [some (.inr (.inr (some x))), a1] st h = am_go0 cl 51 1 [some (.inr (.inr (some x))), a1] (.inr (.inr (some x)) :: st) h := am_r am_m51 d_51_0 rfl
theorem d_51_1 : am_code 51 1 = some (.getfield 11, 3) := by decide +kernel
theorem s_51_1 (cl : am_C) (ls : am_Ls) (st : List am_V) (N : Nat) (I : Nat → Int → Int) (L : Nat → Int → Int64) : am_go0 cl 51 1 ls (.inr (.inr (some 22)) :: st) (am_GS N, am_GR, I, L) = am_go0 cl 51 4 ls (.inr (.inr (some 23)) :: st) (am_GS N, am_GR, I, L) := am_rG2 am_m51 d_51_1 am_f3011 rfl (gs_22 N) (by decide) gr_22_3 rfl
theorem d_51_4 : am_code 51 4 = some (.iload_n 1, 1) := by decide +kernel
theorem s_51_4 (cl : am_C) (a0 : Option am_V) (x : Int) (st : List am_V) (h : am_H) : am_go0 cl 51 4 [a0, some (.inl x)] st h = am_go0 cl 51 5 [a0, some (.inl x)] (.inl x :: st) h := am_r am_m51 d_51_4 rfl
theorem d_51_5 : am_code 51 5 = some (.iaload, 1) := by decide +kernel
theorem s_51_5 (cl : am_C) (ls : am_Ls) (i : Int) (k : Nat) (st : List am_V) (N : Nat) (I : Nat → Int → Int) (L : Nat → Int → Int64) : am_go0 cl 51 5 ls (.inl i :: .inr (.inr (some k)) :: st) (am_GS N, am_GR, I, L) = if am_inb (am_GS N) k 0 i = true then am_go0 cl 51 6 ls (.inl (I k i) :: st) (am_GS N, am_GR, I, L) else none := am_rA am_m51 d_51_5 (by decide) rfl k ls st i _ _ I L
theorem d_51_6 : am_code 51 6 = some (.iconst 5, 1) := by decide +kernel
theorem s_51_6 (cl : am_C) (ls : am_Ls) (st : List am_V) (h : am_H) : am_go0 cl 51 6 ls st h = am_go0 cl 51 7 ls (.inl 5 :: st) h := am_rK am_m51 d_51_6 (by decide) rfl _ _ _
theorem d_51_7 : am_code 51 7 = some (.if_icmp .lt 27, 3) := by decide +kernel
theorem s_51_7 (cl : am_C) (ls : am_Ls) (x y : Int) (st : List am_V) (h : am_H) : am_go0 cl 51 7 ls (.inl y :: .inl x :: st) h = if x < y then am_go0 cl 51 34 ls st h else am_go0 cl 51 10 ls st h := (am_rJ0 am_m51 d_51_7 (by decide) rfl x y ls st h).trans (am_ifT (am_cmp_lt x y) _ _)
theorem d_51_10 : am_code 51 10 = some (.aload_n 0, 1) := by decide +kernel
theorem s_51_10 (cl : am_C) (a1 : Option am_V) (x : Nat) (st : List am_V) (h : am_H) : am_go0 cl 51 10 [some (.inr (.inr (some x))), a1] st h = am_go0 cl 51 11 [some (.inr (.inr (some x))), a1] (.inr (.inr (some x)) :: st) h := am_r am_m51 d_51_10 rfl
theorem d_51_11 : am_code 51 11 = some (.getfield 31, 3) := by decide +kernel
theorem s_51_11 (cl : am_C) (ls : am_Ls) (st : List am_V) (N : Nat) (I : Nat → Int → Int) (L : Nat → Int → Int64) : am_go0 cl 51 11 ls (.inr (.inr (some 22)) :: st) (am_GS N, am_GR, I, L) = am_go0 cl 51 14 ls (.inr (.inr (some 28)) :: st) (am_GS N, am_GR, I, L) := am_rG2 am_m51 d_51_11 am_f3031 rfl (gs_22 N) (by decide) gr_22_9 rfl
theorem d_51_14 : am_code 51 14 = some (.aload_n 0, 1) := by decide +kernel
theorem s_51_14 (cl : am_C) (a1 : Option am_V) (x : Nat) (st : List am_V) (h : am_H) : am_go0 cl 51 14 [some (.inr (.inr (some x))), a1] st h = am_go0 cl 51 15 [some (.inr (.inr (some x))), a1] (.inr (.inr (some x)) :: st) h := am_r am_m51 d_51_14 rfl
theorem d_51_15 : am_code 51 15 = some (.getfield 15, 3) := by decide +kernel
theorem s_51_15 (cl : am_C) (ls : am_Ls) (st : List am_V) (N : Nat) (I : Nat → Int → Int) (L : Nat → Int → Int64) : am_go0 cl 51 15 ls (.inr (.inr (some 22)) :: st) (am_GS N, am_GR, I, L) = am_go0 cl 51 18 ls (.inr (.inr (some 24)) :: st) (am_GS N, am_GR, I, L) := am_rG2 am_m51 d_51_15 am_f3015 rfl (gs_22 N) (by decide) gr_22_4 rfl
theorem d_51_18 : am_code 51 18 = some (.iload_n 1, 1) := by decide +kernel
theorem s_51_18 (cl : am_C) (a0 : Option am_V) (x : Int) (st : List am_V) (h : am_H) : am_go0 cl 51 18 [a0, some (.inl x)] st h = am_go0 cl 51 19 [a0, some (.inl x)] (.inl x :: st) h := am_r am_m51 d_51_18 rfl
theorem d_51_19 : am_code 51 19 = some (.iaload, 1) := by decide +kernel
theorem s_51_19 (cl : am_C) (ls : am_Ls) (i : Int) (k : Nat) (st : List am_V) (N : Nat) (I : Nat → Int → Int) (L : Nat → Int → Int64) : am_go0 cl 51 19 ls (.inl i :: .inr (.inr (some k)) :: st) (am_GS N, am_GR, I, L) = if am_inb (am_GS N) k 0 i = true then am_go0 cl 51 20 ls (.inl (I k i) :: st) (am_GS N, am_GR, I, L) else none := am_rA am_m51 d_51_19 (by decide) rfl k ls st i _ _ I L
theorem d_51_20 : am_code 51 20 = some (.iconst 1, 1) := by decide +kernel
theorem s_51_20 (cl : am_C) (ls : am_Ls) (st : List am_V) (h : am_H) : am_go0 cl 51 20 ls st h = am_go0 cl 51 21 ls (.inl 1 :: st) h := am_rK am_m51 d_51_20 (by decide) rfl _ _ _
theorem d_51_21 : am_code 51 21 = some (.bastore, 1) := by decide +kernel
theorem s_51_21 (cl : am_C) (ls : am_Ls) (i : Int) (v : Int) (k : Nat) (st : List am_V) (N : Nat) (I : Nat → Int → Int) (L : Nat → Int → Int64) : am_go0 cl 51 21 ls (.inl v :: .inl i :: .inr (.inr (some k)) :: st) (am_GS N, am_GR, I, L) = if am_inb (am_GS N) k 2 i = true ∧ (v = 0 ∨ v = 1) then am_go0 cl 51 22 ls st (am_GS N, am_GR, am_uI I k i v, L) else none := am_rSb am_m51 d_51_21 rfl k ls st i v _ _ I L
theorem d_51_22 : am_code 51 22 = some (.aload_n 0, 1) := by decide +kernel
theorem s_51_22 (cl : am_C) (a1 : Option am_V) (x : Nat) (st : List am_V) (h : am_H) : am_go0 cl 51 22 [some (.inr (.inr (some x))), a1] st h = am_go0 cl 51 23 [some (.inr (.inr (some x))), a1] (.inr (.inr (some x)) :: st) h := am_r am_m51 d_51_22 rfl
theorem d_51_23 : am_code 51 23 = some (.getfield 31, 3) := by decide +kernel
theorem s_51_23 (cl : am_C) (ls : am_Ls) (st : List am_V) (N : Nat) (I : Nat → Int → Int) (L : Nat → Int → Int64) : am_go0 cl 51 23 ls (.inr (.inr (some 22)) :: st) (am_GS N, am_GR, I, L) = am_go0 cl 51 26 ls (.inr (.inr (some 28)) :: st) (am_GS N, am_GR, I, L) := am_rG2 am_m51 d_51_23 am_f3031 rfl (gs_22 N) (by decide) gr_22_9 rfl
theorem d_51_26 : am_code 51 26 = some (.aload_n 0, 1) := by decide +kernel
theorem s_51_26 (cl : am_C) (a1 : Option am_V) (x : Nat) (st : List am_V) (h : am_H) : am_go0 cl 51 26 [some (.inr (.inr (some x))), a1] st h = am_go0 cl 51 27 [some (.inr (.inr (some x))), a1] (.inr (.inr (some x)) :: st) h := am_r am_m51 d_51_26 rfl
theorem d_51_27 : am_code 51 27 = some (.getfield 18, 3) := by decide +kernel
theorem s_51_27 (cl : am_C) (ls : am_Ls) (st : List am_V) (N : Nat) (I : Nat → Int → Int) (L : Nat → Int → Int64) : am_go0 cl 51 27 ls (.inr (.inr (some 22)) :: st) (am_GS N, am_GR, I, L) = am_go0 cl 51 30 ls (.inr (.inr (some 25)) :: st) (am_GS N, am_GR, I, L) := am_rG2 am_m51 d_51_27 am_f3018 rfl (gs_22 N) (by decide) gr_22_5 rfl
theorem d_51_30 : am_code 51 30 = some (.iload_n 1, 1) := by decide +kernel
theorem s_51_30 (cl : am_C) (a0 : Option am_V) (x : Int) (st : List am_V) (h : am_H) : am_go0 cl 51 30 [a0, some (.inl x)] st h = am_go0 cl 51 31 [a0, some (.inl x)] (.inl x :: st) h := am_r am_m51 d_51_30 rfl
theorem d_51_31 : am_code 51 31 = some (.iaload, 1) := by decide +kernel
theorem s_51_31 (cl : am_C) (ls : am_Ls) (i : Int) (k : Nat) (st : List am_V) (N : Nat) (I : Nat → Int → Int) (L : Nat → Int → Int64) : am_go0 cl 51 31 ls (.inl i :: .inr (.inr (some k)) :: st) (am_GS N, am_GR, I, L) = if am_inb (am_GS N) k 0 i = true then am_go0 cl 51 32 ls (.inl (I k i) :: st) (am_GS N, am_GR, I, L) else none := am_rA am_m51 d_51_31 (by decide) rfl k ls st i _ _ I L
theorem d_51_32 : am_code 51 32 = some (.iconst 1, 1) := by decide +kernel
theorem s_51_32 (cl : am_C) (ls : am_Ls) (st : List am_V) (h : am_H) : am_go0 cl 51 32 ls st h = am_go0 cl 51 33 ls (.inl 1 :: st) h := am_rK am_m51 d_51_32 (by decide) rfl _ _ _
theorem d_51_33 : am_code 51 33 = some (.bastore, 1) := by decide +kernel
theorem s_51_33 (cl : am_C) (ls : am_Ls) (i : Int) (v : Int) (k : Nat) (st : List am_V) (N : Nat) (I : Nat → Int → Int) (L : Nat → Int → Int64) : am_go0 cl 51 33 ls (.inl v :: .inl i :: .inr (.inr (some k)) :: st) (am_GS N, am_GR, I, L) = if am_inb (am_GS N) k 2 i = true ∧ (v = 0 ∨ v = 1) then am_go0 cl 51 34 ls st (am_GS N, am_GR, am_uI I k i v, L) else none := am_rSb am_m51 d_51_33 rfl k ls st i v _ _ I L
theorem d_51_34 : am_code 51 34 = some (.aload_n 0, 1) := by decide +kernel
theorem s_51_34 (cl : am_C) (a1 : Option am_V) (x : Nat) (st : List am_V) (h : am_H) : am_go0 cl 51 34 [some (.inr (.inr (some x))), a1] st h = am_go0 cl 51 35 [some (.inr (.inr (some x))), a1] (.inr (.inr (some x)) :: st) h := am_r am_m51 d_51_34 rfl
theorem d_51_35 : am_code 51 35 = some (.getfield 11, 3) := by decide +kernel
theorem s_51_35 (cl : am_C) (ls : am_Ls) (st : List am_V) (N : Nat) (I : Nat → Int → Int) (L : Nat → Int → Int64) : am_go0 cl 51 35 ls (.inr (.inr (some 22)) :: st) (am_GS N, am_GR, I, L) = am_go0 cl 51 38 ls (.inr (.inr (some 23)) :: st) (am_GS N, am_GR, I, L) := am_rG2 am_m51 d_51_35 am_f3011 rfl (gs_22 N) (by decide) gr_22_3 rfl
theorem d_51_38 : am_code 51 38 = some (.iload_n 1, 1) := by decide +kernel
theorem s_51_38 (cl : am_C) (a0 : Option am_V) (x : Int) (st : List am_V) (h : am_H) : am_go0 cl 51 38 [a0, some (.inl x)] st h = am_go0 cl 51 39 [a0, some (.inl x)] (.inl x :: st) h := am_r am_m51 d_51_38 rfl
theorem d_51_39 : am_code 51 39 = some (.iaload, 1) := by decide +kernel
theorem s_51_39 (cl : am_C) (ls : am_Ls) (i : Int) (k : Nat) (st : List am_V) (N : Nat) (I : Nat → Int → Int) (L : Nat → Int → Int64) : am_go0 cl 51 39 ls (.inl i :: .inr (.inr (some k)) :: st) (am_GS N, am_GR, I, L) = if am_inb (am_GS N) k 0 i = true then am_go0 cl 51 40 ls (.inl (I k i) :: st) (am_GS N, am_GR, I, L) else none := am_rA am_m51 d_51_39 (by decide) rfl k ls st i _ _ I L
theorem d_51_40 : am_code 51 40 = some (.bipush 9, 2) := by decide +kernel
theorem s_51_40 (cl : am_C) (ls : am_Ls) (st : List am_V) (h : am_H) : am_go0 cl 51 40 ls st h = am_go0 cl 51 42 ls (.inl 9 :: st) h := am_rB am_m51 d_51_40 (by decide) rfl _ _ _
theorem d_51_42 : am_code 51 42 = some (.if_icmp .ne 15, 3) := by decide +kernel
theorem s_51_42 (cl : am_C) (ls : am_Ls) (x y : Int) (st : List am_V) (h : am_H) : am_go0 cl 51 42 ls (.inl y :: .inl x :: st) h = if x = y then am_go0 cl 51 45 ls st h else am_go0 cl 51 57 ls st h := (am_rJ0 am_m51 d_51_42 (by decide) rfl x y ls st h).trans (am_ifF ((am_cmp_ne x y).trans Iff.rfl) _ _)
theorem d_51_45 : am_code 51 45 = some (.aload_n 0, 1) := by decide +kernel
theorem s_51_45 (cl : am_C) (a1 : Option am_V) (x : Nat) (st : List am_V) (h : am_H) : am_go0 cl 51 45 [some (.inr (.inr (some x))), a1] st h = am_go0 cl 51 46 [some (.inr (.inr (some x))), a1] (.inr (.inr (some x)) :: st) h := am_r am_m51 d_51_45 rfl
theorem d_51_46 : am_code 51 46 = some (.getfield 31, 3) := by decide +kernel
theorem s_51_46 (cl : am_C) (ls : am_Ls) (st : List am_V) (N : Nat) (I : Nat → Int → Int) (L : Nat → Int → Int64) : am_go0 cl 51 46 ls (.inr (.inr (some 22)) :: st) (am_GS N, am_GR, I, L) = am_go0 cl 51 49 ls (.inr (.inr (some 28)) :: st) (am_GS N, am_GR, I, L) := am_rG2 am_m51 d_51_46 am_f3031 rfl (gs_22 N) (by decide) gr_22_9 rfl
theorem d_51_49 : am_code 51 49 = some (.aload_n 0, 1) := by decide +kernel
theorem s_51_49 (cl : am_C) (a1 : Option am_V) (x : Nat) (st : List am_V) (h : am_H) : am_go0 cl 51 49 [some (.inr (.inr (some x))), a1] st h = am_go0 cl 51 50 [some (.inr (.inr (some x))), a1] (.inr (.inr (some x)) :: st) h := am_r am_m51 d_51_49 rfl
theorem d_51_50 : am_code 51 50 = some (.getfield 21, 3) := by decide +kernel
theorem s_51_50 (cl : am_C) (ls : am_Ls) (st : List am_V) (N : Nat) (I : Nat → Int → Int) (L : Nat → Int → Int64) : am_go0 cl 51 50 ls (.inr (.inr (some 22)) :: st) (am_GS N, am_GR, I, L) = am_go0 cl 51 53 ls (.inr (.inr (some 26)) :: st) (am_GS N, am_GR, I, L) := am_rG2 am_m51 d_51_50 am_f3021 rfl (gs_22 N) (by decide) gr_22_6 rfl
theorem d_51_53 : am_code 51 53 = some (.iload_n 1, 1) := by decide +kernel
theorem s_51_53 (cl : am_C) (a0 : Option am_V) (x : Int) (st : List am_V) (h : am_H) : am_go0 cl 51 53 [a0, some (.inl x)] st h = am_go0 cl 51 54 [a0, some (.inl x)] (.inl x :: st) h := am_r am_m51 d_51_53 rfl
theorem d_51_54 : am_code 51 54 = some (.iaload, 1) := by decide +kernel
theorem s_51_54 (cl : am_C) (ls : am_Ls) (i : Int) (k : Nat) (st : List am_V) (N : Nat) (I : Nat → Int → Int) (L : Nat → Int → Int64) : am_go0 cl 51 54 ls (.inl i :: .inr (.inr (some k)) :: st) (am_GS N, am_GR, I, L) = if am_inb (am_GS N) k 0 i = true then am_go0 cl 51 55 ls (.inl (I k i) :: st) (am_GS N, am_GR, I, L) else none := am_rA am_m51 d_51_54 (by decide) rfl k ls st i _ _ I L
theorem d_51_55 : am_code 51 55 = some (.iconst 1, 1) := by decide +kernel
theorem s_51_55 (cl : am_C) (ls : am_Ls) (st : List am_V) (h : am_H) : am_go0 cl 51 55 ls st h = am_go0 cl 51 56 ls (.inl 1 :: st) h := am_rK am_m51 d_51_55 (by decide) rfl _ _ _
theorem d_51_56 : am_code 51 56 = some (.bastore, 1) := by decide +kernel
theorem s_51_56 (cl : am_C) (ls : am_Ls) (i : Int) (v : Int) (k : Nat) (st : List am_V) (N : Nat) (I : Nat → Int → Int) (L : Nat → Int → Int64) : am_go0 cl 51 56 ls (.inl v :: .inl i :: .inr (.inr (some k)) :: st) (am_GS N, am_GR, I, L) = if am_inb (am_GS N) k 2 i = true ∧ (v = 0 ∨ v = 1) then am_go0 cl 51 57 ls st (am_GS N, am_GR, am_uI I k i v, L) else none := am_rSb am_m51 d_51_56 rfl k ls st i v _ _ I L
theorem d_51_57 : am_code 51 57 = some (.return_, 1) := by decide +kernel
theorem s_51_57 (cl : am_C) (ls : am_Ls) (h : am_H) : am_go0 cl 51 57 ls [] h = some (none, h) := am_rE am_m51 d_51_57 rfl
theorem e_51 (d : Nat) (t : Nat) (p0 : Int) (h : am_H) : am_call (d + 1) 51 [.inr (.inr (some t)), .inl p0] h = am_go0 (am_call d) 51 0 [some (.inr (.inr (some t))), some (.inl p0)] [] h := am_callE am_m51 (Nat.le_of_ble_eq_true rfl) rfl
theorem d_52_0 : am_code 52 0 = some (.aload_n 0, 1) := by decide +kernel
theorem s_52_0 (cl : am_C) (a1 a2 : Option am_V) (x : Nat) (st : List am_V) (h : am_H) : am_go0 cl 52 0 [some (.inr (.inr (some x))), a1, a2] st h = am_go0 cl 52 1 [some (.inr (.inr (some x))), a1, a2] (.inr (.inr (some x)) :: st) h := am_r am_m52 d_52_0 rfl
theorem d_52_1 : am_code 52 1 = some (.iload_n 1, 1) := by decide +kernel
theorem s_52_1 (cl : am_C) (a0 a2 : Option am_V) (x : Int) (st : List am_V) (h : am_H) : am_go0 cl 52 1 [a0, some (.inl x), a2] st h = am_go0 cl 52 2 [a0, some (.inl x), a2] (.inl x :: st) h := am_r am_m52 d_52_1 rfl
theorem d_52_2 : am_code 52 2 = some (.iload_n 2, 1) := by decide +kernel
theorem s_52_2 (cl : am_C) (a0 a1 : Option am_V) (x : Int) (st : List am_V) (h : am_H) : am_go0 cl 52 2 [a0, a1, some (.inl x)] st h = am_go0 cl 52 3 [a0, a1, some (.inl x)] (.inl x :: st) h := am_r am_m52 d_52_2 rfl
theorem d_52_3 : am_code 52 3 = some (.iconst (-1), 1) := by decide +kernel
theorem s_52_3 (cl : am_C) (ls : am_Ls) (st : List am_V) (h : am_H) : am_go0 cl 52 3 ls st h = am_go0 cl 52 4 ls (.inl (-1) :: st) h := am_rK am_m52 d_52_3 (by decide) rfl _ _ _
theorem d_52_4 : am_code 52 4 = some (.iconst 1, 1) := by decide +kernel
theorem s_52_4 (cl : am_C) (ls : am_Ls) (st : List am_V) (h : am_H) : am_go0 cl 52 4 ls st h = am_go0 cl 52 5 ls (.inl 1 :: st) h := am_rK am_m52 d_52_4 (by decide) rfl _ _ _
theorem d_52_5 : am_code 52 5 = some (.invokevirtual 86, 3) := by decide +kernel
theorem s_52_5 (cl : am_C) (ls : am_Ls) (x0 : Int) (x1 : Int) (x2 : Int) (x3 : Int) (N : Nat) (I : Nat → Int → Int) (L : Nat → Int → Int64) : am_go0 cl 52 5 ls [.inl x3, .inl x2, .inl x1, .inl x0, .inr (.inr (some 22))] (am_GS N, am_GR, I, L) = am_bd (cl 49 [.inr (.inr (some 22)), .inl x0, .inl x1, .inl x2, .inl x3] (am_GS N, am_GR, I, L)) (fun v h2 => am_go0 cl 52 8 ls (v.toList ++ []) h2) := am_rV am_m52 d_52_5 am_k3086 rfl am_m49 (gs_22 N) (by decide) (Nat.le_of_ble_eq_true rfl) rfl ls
theorem d_52_8 : am_code 52 8 = some (.ireturn, 1) := by decide +kernel
theorem s_52_8 (cl : am_C) (ls : am_Ls) (x : Int) (h : am_H) : am_go0 cl 52 8 ls [.inl x] h = if x = 0 ∨ x = 1 then some (some (.inl x), h) else none := am_rRz am_m52 d_52_8 x ls h
theorem e_52 (d : Nat) (t : Nat) (p0 : Int) (p1 : Int) (h : am_H) : am_call (d + 1) 52 [.inr (.inr (some t)), .inl p0, .inl p1] h = am_go0 (am_call d) 52 0 [some (.inr (.inr (some t))), some (.inl p0), some (.inl p1)] [] h := am_callE am_m52 (Nat.le_of_ble_eq_true rfl) rfl
theorem d_53_0 : am_code 53 0 = some (.aload_n 0, 1) := by decide +kernel
theorem s_53_0 (cl : am_C) (a1 : Option am_V) (x : Nat) (st : List am_V) (h : am_H) : am_go0 cl 53 0 [some (.inr (.inr (some x))), a1] st h = am_go0 cl 53 1 [some (.inr (.inr (some x))), a1] (.inr (.inr (some x)) :: st) h := am_r am_m53 d_53_0 rfl
theorem d_53_1 : am_code 53 1 = some (.getfield 11, 3) := by decide +kernel
theorem s_53_1 (cl : am_C) (ls : am_Ls) (st : List am_V) (N : Nat) (I : Nat → Int → Int) (L : Nat → Int → Int64) : am_go0 cl 53 1 ls (.inr (.inr (some 22)) :: st) (am_GS N, am_GR, I, L) = am_go0 cl 53 4 ls (.inr (.inr (some 23)) :: st) (am_GS N, am_GR, I, L) := am_rG2 am_m53 d_53_1 am_f3011 rfl (gs_22 N) (by decide) gr_22_3 rfl
theorem d_53_4 : am_code 53 4 = some (.iload_n 1, 1) := by decide +kernel
theorem s_53_4 (cl : am_C) (a0 : Option am_V) (x : Int) (st : List am_V) (h : am_H) : am_go0 cl 53 4 [a0, some (.inl x)] st h = am_go0 cl 53 5 [a0, some (.inl x)] (.inl x :: st) h := am_r am_m53 d_53_4 rfl
theorem d_53_5 : am_code 53 5 = some (.iaload, 1) := by decide +kernel
theorem s_53_5 (cl : am_C) (ls : am_Ls) (i : Int) (k : Nat) (st : List am_V) (N : Nat) (I : Nat → Int → Int) (L : Nat → Int → Int64) : am_go0 cl 53 5 ls (.inl i :: .inr (.inr (some k)) :: st) (am_GS N, am_GR, I, L) = if am_inb (am_GS N) k 0 i = true then am_go0 cl 53 6 ls (.inl (I k i) :: st) (am_GS N, am_GR, I, L) else none := am_rA am_m53 d_53_5 (by decide) rfl k ls st i _ _ I L
theorem d_53_6 : am_code 53 6 = some (.ireturn, 1) := by decide +kernel
theorem s_53_6 (cl : am_C) (ls : am_Ls) (x : Int) (h : am_H) : am_go0 cl 53 6 ls [.inl x] h = some (some (.inl x), h) := am_rE am_m53 d_53_6 rfl
theorem e_53 (d : Nat) (t : Nat) (p0 : Int) (h : am_H) : am_call (d + 1) 53 [.inr (.inr (some t)), .inl p0] h = am_go0 (am_call d) 53 0 [some (.inr (.inr (some t))), some (.inl p0)] [] h := am_callE am_m53 (Nat.le_of_ble_eq_true rfl) rfl
theorem d_54_0 : am_code 54 0 = some (.aload_n 0, 1) := by decide +kernel
theorem s_54_0 (cl : am_C) (a1 : Option am_V) (x : Nat) (st : List am_V) (h : am_H) : am_go0 cl 54 0 [some (.inr (.inr (some x))), a1] st h = am_go0 cl 54 1 [some (.inr (.inr (some x))), a1] (.inr (.inr (some x)) :: st) h := am_r am_m54 d_54_0 rfl
theorem d_54_1 : am_code 54 1 = some (.getfield 15, 3) := by decide +kernel
theorem s_54_1 (cl : am_C) (ls : am_Ls) (st : List am_V) (N : Nat) (I : Nat → Int → Int) (L : Nat → Int → Int64) : am_go0 cl 54 1 ls (.inr (.inr (some 22)) :: st) (am_GS N, am_GR, I, L) = am_go0 cl 54 4 ls (.inr (.inr (some 24)) :: st) (am_GS N, am_GR, I, L) := am_rG2 am_m54 d_54_1 am_f3015 rfl (gs_22 N) (by decide) gr_22_4 rfl
theorem d_54_4 : am_code 54 4 = some (.iload_n 1, 1) := by decide +kernel
theorem s_54_4 (cl : am_C) (a0 : Option am_V) (x : Int) (st : List am_V) (h : am_H) : am_go0 cl 54 4 [a0, some (.inl x)] st h = am_go0 cl 54 5 [a0, some (.inl x)] (.inl x :: st) h := am_r am_m54 d_54_4 rfl
theorem d_54_5 : am_code 54 5 = some (.iaload, 1) := by decide +kernel
theorem s_54_5 (cl : am_C) (ls : am_Ls) (i : Int) (k : Nat) (st : List am_V) (N : Nat) (I : Nat → Int → Int) (L : Nat → Int → Int64) : am_go0 cl 54 5 ls (.inl i :: .inr (.inr (some k)) :: st) (am_GS N, am_GR, I, L) = if am_inb (am_GS N) k 0 i = true then am_go0 cl 54 6 ls (.inl (I k i) :: st) (am_GS N, am_GR, I, L) else none := am_rA am_m54 d_54_5 (by decide) rfl k ls st i _ _ I L
theorem d_54_6 : am_code 54 6 = some (.ireturn, 1) := by decide +kernel
theorem s_54_6 (cl : am_C) (ls : am_Ls) (x : Int) (h : am_H) : am_go0 cl 54 6 ls [.inl x] h = some (some (.inl x), h) := am_rE am_m54 d_54_6 rfl
theorem e_54 (d : Nat) (t : Nat) (p0 : Int) (h : am_H) : am_call (d + 1) 54 [.inr (.inr (some t)), .inl p0] h = am_go0 (am_call d) 54 0 [some (.inr (.inr (some t))), some (.inl p0)] [] h := am_callE am_m54 (Nat.le_of_ble_eq_true rfl) rfl
theorem d_55_0 : am_code 55 0 = some (.aload_n 0, 1) := by decide +kernel
theorem s_55_0 (cl : am_C) (a1 : Option am_V) (x : Nat) (st : List am_V) (h : am_H) : am_go0 cl 55 0 [some (.inr (.inr (some x))), a1] st h = am_go0 cl 55 1 [some (.inr (.inr (some x))), a1] (.inr (.inr (some x)) :: st) h := am_r am_m55 d_55_0 rfl
theorem d_55_1 : am_code 55 1 = some (.getfield 18, 3) := by decide +kernel
theorem s_55_1 (cl : am_C) (ls : am_Ls) (st : List am_V) (N : Nat) (I : Nat → Int → Int) (L : Nat → Int → Int64) : am_go0 cl 55 1 ls (.inr (.inr (some 22)) :: st) (am_GS N, am_GR, I, L) = am_go0 cl 55 4 ls (.inr (.inr (some 25)) :: st) (am_GS N, am_GR, I, L) := am_rG2 am_m55 d_55_1 am_f3018 rfl (gs_22 N) (by decide) gr_22_5 rfl
theorem d_55_4 : am_code 55 4 = some (.iload_n 1, 1) := by decide +kernel
theorem s_55_4 (cl : am_C) (a0 : Option am_V) (x : Int) (st : List am_V) (h : am_H) : am_go0 cl 55 4 [a0, some (.inl x)] st h = am_go0 cl 55 5 [a0, some (.inl x)] (.inl x :: st) h := am_r am_m55 d_55_4 rfl
theorem d_55_5 : am_code 55 5 = some (.iaload, 1) := by decide +kernel
theorem s_55_5 (cl : am_C) (ls : am_Ls) (i : Int) (k : Nat) (st : List am_V) (N : Nat) (I : Nat → Int → Int) (L : Nat → Int → Int64) : am_go0 cl 55 5 ls (.inl i :: .inr (.inr (some k)) :: st) (am_GS N, am_GR, I, L) = if am_inb (am_GS N) k 0 i = true then am_go0 cl 55 6 ls (.inl (I k i) :: st) (am_GS N, am_GR, I, L) else none := am_rA am_m55 d_55_5 (by decide) rfl k ls st i _ _ I L
theorem d_55_6 : am_code 55 6 = some (.ireturn, 1) := by decide +kernel
theorem s_55_6 (cl : am_C) (ls : am_Ls) (x : Int) (h : am_H) : am_go0 cl 55 6 ls [.inl x] h = some (some (.inl x), h) := am_rE am_m55 d_55_6 rfl
theorem e_55 (d : Nat) (t : Nat) (p0 : Int) (h : am_H) : am_call (d + 1) 55 [.inr (.inr (some t)), .inl p0] h = am_go0 (am_call d) 55 0 [some (.inr (.inr (some t))), some (.inl p0)] [] h := am_callE am_m55 (Nat.le_of_ble_eq_true rfl) rfl
theorem d_56_0 : am_code 56 0 = some (.aload_n 0, 1) := by decide +kernel
theorem s_56_0 (cl : am_C) (a1 : Option am_V) (x : Nat) (st : List am_V) (h : am_H) : am_go0 cl 56 0 [some (.inr (.inr (some x))), a1] st h = am_go0 cl 56 1 [some (.inr (.inr (some x))), a1] (.inr (.inr (some x)) :: st) h := am_r am_m56 d_56_0 rfl
theorem d_56_1 : am_code 56 1 = some (.getfield 21, 3) := by decide +kernel
theorem s_56_1 (cl : am_C) (ls : am_Ls) (st : List am_V) (N : Nat) (I : Nat → Int → Int) (L : Nat → Int → Int64) : am_go0 cl 56 1 ls (.inr (.inr (some 22)) :: st) (am_GS N, am_GR, I, L) = am_go0 cl 56 4 ls (.inr (.inr (some 26)) :: st) (am_GS N, am_GR, I, L) := am_rG2 am_m56 d_56_1 am_f3021 rfl (gs_22 N) (by decide) gr_22_6 rfl
theorem d_56_4 : am_code 56 4 = some (.iload_n 1, 1) := by decide +kernel
theorem s_56_4 (cl : am_C) (a0 : Option am_V) (x : Int) (st : List am_V) (h : am_H) : am_go0 cl 56 4 [a0, some (.inl x)] st h = am_go0 cl 56 5 [a0, some (.inl x)] (.inl x :: st) h := am_r am_m56 d_56_4 rfl
theorem d_56_5 : am_code 56 5 = some (.iaload, 1) := by decide +kernel
theorem s_56_5 (cl : am_C) (ls : am_Ls) (i : Int) (k : Nat) (st : List am_V) (N : Nat) (I : Nat → Int → Int) (L : Nat → Int → Int64) : am_go0 cl 56 5 ls (.inl i :: .inr (.inr (some k)) :: st) (am_GS N, am_GR, I, L) = if am_inb (am_GS N) k 0 i = true then am_go0 cl 56 6 ls (.inl (I k i) :: st) (am_GS N, am_GR, I, L) else none := am_rA am_m56 d_56_5 (by decide) rfl k ls st i _ _ I L
theorem d_56_6 : am_code 56 6 = some (.ireturn, 1) := by decide +kernel
theorem s_56_6 (cl : am_C) (ls : am_Ls) (x : Int) (h : am_H) : am_go0 cl 56 6 ls [.inl x] h = some (some (.inl x), h) := am_rE am_m56 d_56_6 rfl
theorem e_56 (d : Nat) (t : Nat) (p0 : Int) (h : am_H) : am_call (d + 1) 56 [.inr (.inr (some t)), .inl p0] h = am_go0 (am_call d) 56 0 [some (.inr (.inr (some t))), some (.inl p0)] [] h := am_callE am_m56 (Nat.le_of_ble_eq_true rfl) rfl
theorem d_57_0 : am_code 57 0 = some (.aload_n 0, 1) := by decide +kernel
theorem s_57_0 (cl : am_C) (x : Nat) (st : List am_V) (h : am_H) : am_go0 cl 57 0 [some (.inr (.inr (some x)))] st h = am_go0 cl 57 1 [some (.inr (.inr (some x)))] (.inr (.inr (some x)) :: st) h := am_r am_m57 d_57_0 rfl
theorem d_57_1 : am_code 57 1 = some (.getfield 27, 3) := by decide +kernel
theorem s_57_1 (cl : am_C) (ls : am_Ls) (st : List am_V) (N : Nat) (I : Nat → Int → Int) (L : Nat → Int → Int64) : am_go0 cl 57 1 ls (.inr (.inr (some 22)) :: st) (am_GS N, am_GR, I, L) = am_go0 cl 57 4 ls (.inl (I 22 8) :: st) (am_GS N, am_GR, I, L) := am_rG0 am_m57 d_57_1 am_f3027 rfl (gs_22 N) (by decide) rfl
theorem d_57_4 : am_code 57 4 = some (.ireturn, 1) := by decide +kernel
theorem s_57_4 (cl : am_C) (ls : am_Ls) (x : Int) (h : am_H) : am_go0 cl 57 4 ls [.inl x] h = some (some (.inl x), h) := am_rE am_m57 d_57_4 rfl
theorem e_57 (d : Nat) (t : Nat) (h : am_H) : am_call (d + 1) 57 [.inr (.inr (some t))] h = am_go0 (am_call d) 57 0 [some (.inr (.inr (some t)))] [] h := am_callE am_m57 (Nat.le_of_ble_eq_true rfl) rfl
