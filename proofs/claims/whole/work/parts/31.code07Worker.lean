theorem d_97_0 : am_code 97 0 = some (.aload_n 0, 1) := by decide +kernel
theorem s_97_0 (cl : am_C) (a1 a2 a3 : Option am_V) (x : Nat) (st : List am_V) (h : am_H) : am_go0 cl 97 0 [some (.inr (.inr (some x))), a1, a2, a3] st h = am_go0 cl 97 1 [some (.inr (.inr (some x))), a1, a2, a3] (.inr (.inr (some x)) :: st) h := am_r am_m97 d_97_0 rfl
theorem d_97_1 : am_code 97 1 = some (.getfield 74, 3) := by decide +kernel
theorem s_97_1 (cl : am_C) (ls : am_Ls) (st : List am_V) (N : Nat) (I : Nat → Int → Int) (L : Nat → Int → Int64) : am_go0 cl 97 1 ls (.inr (.inr (some 44)) :: st) (am_GS N, am_GR, I, L) = am_go0 cl 97 4 ls (.inr (.inr (some 41)) :: st) (am_GS N, am_GR, I, L) := am_rG2 am_m97 d_97_1 am_f7074 rfl (gs_44 N) (by decide) gr_44_6 rfl
theorem d_97_4 : am_code 97 4 = some (.invokevirtual 78, 3) := by decide +kernel
theorem s_97_4 (cl : am_C) (ls : am_Ls) (N : Nat) (I : Nat → Int → Int) (L : Nat → Int → Int64) : am_go0 cl 97 4 ls [.inr (.inr (some 41))] (am_GS N, am_GR, I, L) = am_bd (cl 60 [.inr (.inr (some 41))] (am_GS N, am_GR, I, L)) (fun v h2 => am_go0 cl 97 7 ls (v.toList ++ []) h2) := am_rV am_m97 d_97_4 am_k7078 rfl am_m60 (gs_41 N) (by decide) (Nat.le_of_ble_eq_true rfl) rfl ls
theorem d_97_7 : am_code 97 7 = some (.aload_n 0, 1) := by decide +kernel
theorem s_97_7 (cl : am_C) (a1 a2 a3 : Option am_V) (x : Nat) (st : List am_V) (h : am_H) : am_go0 cl 97 7 [some (.inr (.inr (some x))), a1, a2, a3] st h = am_go0 cl 97 8 [some (.inr (.inr (some x))), a1, a2, a3] (.inr (.inr (some x)) :: st) h := am_r am_m97 d_97_7 rfl
theorem d_97_8 : am_code 97 8 = some (.iload_n 1, 1) := by decide +kernel
theorem s_97_8 (cl : am_C) (a0 a2 a3 : Option am_V) (x : Int) (st : List am_V) (h : am_H) : am_go0 cl 97 8 [a0, some (.inl x), a2, a3] st h = am_go0 cl 97 9 [a0, some (.inl x), a2, a3] (.inl x :: st) h := am_r am_m97 d_97_8 rfl
theorem d_97_9 : am_code 97 9 = some (.iload_n 2, 1) := by decide +kernel
theorem s_97_9 (cl : am_C) (a0 a1 a3 : Option am_V) (x : Int) (st : List am_V) (h : am_H) : am_go0 cl 97 9 [a0, a1, some (.inl x), a3] st h = am_go0 cl 97 10 [a0, a1, some (.inl x), a3] (.inl x :: st) h := am_r am_m97 d_97_9 rfl
theorem d_97_10 : am_code 97 10 = some (.invokevirtual 83, 3) := by decide +kernel
theorem s_97_10 (cl : am_C) (ls : am_Ls) (x0 : Int) (x1 : Int) (N : Nat) (I : Nat → Int → Int) (L : Nat → Int → Int64) : am_go0 cl 97 10 ls [.inl x1, .inl x0, .inr (.inr (some 44))] (am_GS N, am_GR, I, L) = am_bd (cl 98 [.inr (.inr (some 44)), .inl x0, .inl x1] (am_GS N, am_GR, I, L)) (fun v h2 => am_go0 cl 97 13 ls (v.toList ++ []) h2) := am_rV am_m97 d_97_10 am_k7083 rfl am_m98 (gs_44 N) (by decide) (Nat.le_of_ble_eq_true rfl) rfl ls
theorem d_97_13 : am_code 97 13 = some (.iconst 0, 1) := by decide +kernel
theorem s_97_13 (cl : am_C) (ls : am_Ls) (st : List am_V) (h : am_H) : am_go0 cl 97 13 ls st h = am_go0 cl 97 14 ls (.inl 0 :: st) h := am_rK am_m97 d_97_13 (by decide) rfl _ _ _
theorem d_97_14 : am_code 97 14 = some (.istore_n 3, 1) := by decide +kernel
theorem s_97_14 (cl : am_C) (a0 a1 a2 a3 : Option am_V) (x : Int) (st : List am_V) (h : am_H) : am_go0 cl 97 14 [a0, a1, a2, a3] (.inl x :: st) h = am_go0 cl 97 15 [a0, a1, am_c1 a2, some (.inl x)] st h := am_r am_m97 d_97_14 rfl
theorem d_97_15 : am_code 97 15 = some (.iload_n 3, 1) := by decide +kernel
theorem s_97_15 (cl : am_C) (a0 a1 a2 : Option am_V) (x : Int) (st : List am_V) (h : am_H) : am_go0 cl 97 15 [a0, a1, a2, some (.inl x)] st h = am_go0 cl 97 16 [a0, a1, a2, some (.inl x)] (.inl x :: st) h := am_r am_m97 d_97_15 rfl
theorem d_97_16 : am_code 97 16 = some (.ldc 87, 2) := by decide +kernel
theorem s_97_16 (cl : am_C) (ls : am_Ls) (st : List am_V) (h : am_H) : am_go0 cl 97 16 ls st h = am_go0 cl 97 18 ls (.inl 1000000 :: st) h := am_rKc am_m97 d_97_16 (by decide +kernel) rfl _ _ _
theorem d_97_18 : am_code 97 18 = some (.if_icmp .ge 30, 3) := by decide +kernel
theorem s_97_18 (cl : am_C) (ls : am_Ls) (x y : Int) (st : List am_V) (h : am_H) : am_go0 cl 97 18 ls (.inl y :: .inl x :: st) h = if x < y then am_go0 cl 97 21 ls st h else am_go0 cl 97 48 ls st h := (am_rJ0 am_m97 d_97_18 (by decide) rfl x y ls st h).trans (am_ifF ((am_cmp_ge x y).trans Int.not_lt.symm) _ _)
theorem d_97_21 : am_code 97 21 = some (.aload_n 0, 1) := by decide +kernel
theorem s_97_21 (cl : am_C) (a1 a2 a3 : Option am_V) (x : Nat) (st : List am_V) (h : am_H) : am_go0 cl 97 21 [some (.inr (.inr (some x))), a1, a2, a3] st h = am_go0 cl 97 22 [some (.inr (.inr (some x))), a1, a2, a3] (.inr (.inr (some x)) :: st) h := am_r am_m97 d_97_21 rfl
theorem d_97_22 : am_code 97 22 = some (.getfield 29, 3) := by decide +kernel
theorem s_97_22 (cl : am_C) (ls : am_Ls) (st : List am_V) (N : Nat) (I : Nat → Int → Int) (L : Nat → Int → Int64) : am_go0 cl 97 22 ls (.inr (.inr (some 44)) :: st) (am_GS N, am_GR, I, L) = am_go0 cl 97 25 ls (.inl (I 44 12) :: st) (am_GS N, am_GR, I, L) := am_rG0 am_m97 d_97_22 am_f7029 rfl (gs_44 N) (by decide) rfl
theorem d_97_25 : am_code 97 25 = some (.ifCond .le 23, 3) := by decide +kernel
theorem s_97_25 (cl : am_C) (ls : am_Ls) (x : Int) (st : List am_V) (h : am_H) : am_go0 cl 97 25 ls (.inl x :: st) h = if 0 < x then am_go0 cl 97 28 ls st h else am_go0 cl 97 48 ls st h := (am_rJ1 am_m97 d_97_25 (by decide) rfl x ls st h).trans (am_ifF ((am_cmp_le x 0).trans Int.not_lt.symm) _ _)
theorem d_97_28 : am_code 97 28 = some (.aload_n 0, 1) := by decide +kernel
theorem s_97_28 (cl : am_C) (a1 a2 a3 : Option am_V) (x : Nat) (st : List am_V) (h : am_H) : am_go0 cl 97 28 [some (.inr (.inr (some x))), a1, a2, a3] st h = am_go0 cl 97 29 [some (.inr (.inr (some x))), a1, a2, a3] (.inr (.inr (some x)) :: st) h := am_r am_m97 d_97_28 rfl
theorem d_97_29 : am_code 97 29 = some (.getfield 74, 3) := by decide +kernel
theorem s_97_29 (cl : am_C) (ls : am_Ls) (st : List am_V) (N : Nat) (I : Nat → Int → Int) (L : Nat → Int → Int64) : am_go0 cl 97 29 ls (.inr (.inr (some 44)) :: st) (am_GS N, am_GR, I, L) = am_go0 cl 97 32 ls (.inr (.inr (some 41)) :: st) (am_GS N, am_GR, I, L) := am_rG2 am_m97 d_97_29 am_f7074 rfl (gs_44 N) (by decide) gr_44_6 rfl
theorem d_97_32 : am_code 97 32 = some (.invokevirtual 88, 3) := by decide +kernel
theorem s_97_32 (cl : am_C) (ls : am_Ls) (N : Nat) (I : Nat → Int → Int) (L : Nat → Int → Int64) : am_go0 cl 97 32 ls [.inr (.inr (some 41))] (am_GS N, am_GR, I, L) = am_bd (cl 63 [.inr (.inr (some 41))] (am_GS N, am_GR, I, L)) (fun v h2 => am_go0 cl 97 35 ls (v.toList ++ []) h2) := am_rV am_m97 d_97_32 am_k7088 rfl am_m63 (gs_41 N) (by decide) (Nat.le_of_ble_eq_true rfl) rfl ls
theorem d_97_35 : am_code 97 35 = some (.ifCond .ne 13, 3) := by decide +kernel
theorem s_97_35 (cl : am_C) (ls : am_Ls) (x : Int) (st : List am_V) (h : am_H) : am_go0 cl 97 35 ls (.inl x :: st) h = if x = 0 then am_go0 cl 97 38 ls st h else am_go0 cl 97 48 ls st h := (am_rJ1 am_m97 d_97_35 (by decide) rfl x ls st h).trans (am_ifF ((am_cmp_ne x 0).trans Iff.rfl) _ _)
theorem d_97_38 : am_code 97 38 = some (.aload_n 0, 1) := by decide +kernel
theorem s_97_38 (cl : am_C) (a1 a2 a3 : Option am_V) (x : Nat) (st : List am_V) (h : am_H) : am_go0 cl 97 38 [some (.inr (.inr (some x))), a1, a2, a3] st h = am_go0 cl 97 39 [some (.inr (.inr (some x))), a1, a2, a3] (.inr (.inr (some x)) :: st) h := am_r am_m97 d_97_38 rfl
theorem d_97_39 : am_code 97 39 = some (.invokevirtual 92, 3) := by decide +kernel
theorem s_97_39 (cl : am_C) (ls : am_Ls) (N : Nat) (I : Nat → Int → Int) (L : Nat → Int → Int64) : am_go0 cl 97 39 ls [.inr (.inr (some 44))] (am_GS N, am_GR, I, L) = am_bd (cl 102 [.inr (.inr (some 44))] (am_GS N, am_GR, I, L)) (fun v h2 => am_go0 cl 97 42 ls (v.toList ++ []) h2) := am_rV am_m97 d_97_39 am_k7092 rfl am_m102 (gs_44 N) (by decide) (Nat.le_of_ble_eq_true rfl) rfl ls
theorem d_97_42 : am_code 97 42 = some (.iinc 3 1, 3) := by decide +kernel
theorem s_97_42 (cl : am_C) (a0 a1 a2 : Option am_V) (x : Int) (st : List am_V) (h : am_H) : am_go0 cl 97 42 [a0, a1, a2, some (.inl x)] st h = am_go0 cl 97 45 [a0, a1, am_c1 a2, some (.inl (am_wr (x + 1)))] st h := am_r am_m97 d_97_42 rfl
theorem d_97_45 : am_code 97 45 = some (.goto (-30), 3) := by decide +kernel
theorem s_97_45 (cl : am_C) (ls : am_Ls) (st : List am_V) (h : am_H) : am_go0 cl 97 45 ls st h = am_go0 cl 97 15 ls st h := am_rGo am_m97 d_97_45 (by decide) _ _ _
theorem d_97_48 : am_code 97 48 = some (.aload_n 0, 1) := by decide +kernel
theorem s_97_48 (cl : am_C) (a1 a2 a3 : Option am_V) (x : Nat) (st : List am_V) (h : am_H) : am_go0 cl 97 48 [some (.inr (.inr (some x))), a1, a2, a3] st h = am_go0 cl 97 49 [some (.inr (.inr (some x))), a1, a2, a3] (.inr (.inr (some x)) :: st) h := am_r am_m97 d_97_48 rfl
theorem d_97_49 : am_code 97 49 = some (.getfield 74, 3) := by decide +kernel
theorem s_97_49 (cl : am_C) (ls : am_Ls) (st : List am_V) (N : Nat) (I : Nat → Int → Int) (L : Nat → Int → Int64) : am_go0 cl 97 49 ls (.inr (.inr (some 44)) :: st) (am_GS N, am_GR, I, L) = am_go0 cl 97 52 ls (.inr (.inr (some 41)) :: st) (am_GS N, am_GR, I, L) := am_rG2 am_m97 d_97_49 am_f7074 rfl (gs_44 N) (by decide) gr_44_6 rfl
theorem d_97_52 : am_code 97 52 = some (.invokevirtual 88, 3) := by decide +kernel
theorem s_97_52 (cl : am_C) (ls : am_Ls) (N : Nat) (I : Nat → Int → Int) (L : Nat → Int → Int64) : am_go0 cl 97 52 ls [.inr (.inr (some 41))] (am_GS N, am_GR, I, L) = am_bd (cl 63 [.inr (.inr (some 41))] (am_GS N, am_GR, I, L)) (fun v h2 => am_go0 cl 97 55 ls (v.toList ++ []) h2) := am_rV am_m97 d_97_52 am_k7088 rfl am_m63 (gs_41 N) (by decide) (Nat.le_of_ble_eq_true rfl) rfl ls
theorem d_97_55 : am_code 97 55 = some (.ifCond .ne 8, 3) := by decide +kernel
theorem s_97_55 (cl : am_C) (ls : am_Ls) (x : Int) (st : List am_V) (h : am_H) : am_go0 cl 97 55 ls (.inl x :: st) h = if x = 0 then am_go0 cl 97 58 ls st h else am_go0 cl 97 63 ls st h := (am_rJ1 am_m97 d_97_55 (by decide) rfl x ls st h).trans (am_ifF ((am_cmp_ne x 0).trans Iff.rfl) _ _)
theorem d_97_58 : am_code 97 58 = some (.aload_n 0, 1) := by decide +kernel
theorem s_97_58 (cl : am_C) (a1 a2 a3 : Option am_V) (x : Nat) (st : List am_V) (h : am_H) : am_go0 cl 97 58 [some (.inr (.inr (some x))), a1, a2, a3] st h = am_go0 cl 97 59 [some (.inr (.inr (some x))), a1, a2, a3] (.inr (.inr (some x)) :: st) h := am_r am_m97 d_97_58 rfl
theorem d_97_59 : am_code 97 59 = some (.getfield 46, 3) := by decide +kernel
theorem s_97_59 (cl : am_C) (ls : am_Ls) (st : List am_V) (N : Nat) (I : Nat → Int → Int) (L : Nat → Int → Int64) : am_go0 cl 97 59 ls (.inr (.inr (some 44)) :: st) (am_GS N, am_GR, I, L) = am_go0 cl 97 62 ls (.inr (.inl (L 44 17)) :: st) (am_GS N, am_GR, I, L) := am_rG1 am_m97 d_97_59 am_f7046 rfl (gs_44 N) (by decide) rfl
theorem d_97_62 : am_code 97 62 = some (.lreturn, 1) := by decide +kernel
theorem s_97_62 (cl : am_C) (ls : am_Ls) (x : Int64) (h : am_H) : am_go0 cl 97 62 ls [.inr (.inl x)] h = some (some (.inr (.inl x)), h) := am_rE am_m97 d_97_62 rfl
theorem d_97_63 : am_code 97 63 = some (.aload_n 0, 1) := by decide +kernel
theorem s_97_63 (cl : am_C) (a1 a2 a3 : Option am_V) (x : Nat) (st : List am_V) (h : am_H) : am_go0 cl 97 63 [some (.inr (.inr (some x))), a1, a2, a3] st h = am_go0 cl 97 64 [some (.inr (.inr (some x))), a1, a2, a3] (.inr (.inr (some x)) :: st) h := am_r am_m97 d_97_63 rfl
theorem d_97_64 : am_code 97 64 = some (.invokevirtual 95, 3) := by decide +kernel
theorem s_97_64 (cl : am_C) (ls : am_Ls) (N : Nat) (I : Nat → Int → Int) (L : Nat → Int → Int64) : am_go0 cl 97 64 ls [.inr (.inr (some 44))] (am_GS N, am_GR, I, L) = am_bd (cl 99 [.inr (.inr (some 44))] (am_GS N, am_GR, I, L)) (fun v h2 => am_go0 cl 97 67 ls (v.toList ++ []) h2) := am_rV am_m97 d_97_64 am_k7095 rfl am_m99 (gs_44 N) (by decide) (Nat.le_of_ble_eq_true rfl) rfl ls
theorem d_97_67 : am_code 97 67 = some (.lconst 0, 1) := by decide +kernel
theorem s_97_67 (cl : am_C) (ls : am_Ls) (st : List am_V) (h : am_H) : am_go0 cl 97 67 ls st h = am_go0 cl 97 68 ls (.inr (.inl 0) :: st) h := am_r am_m97 d_97_67 rfl
theorem d_97_68 : am_code 97 68 = some (.lreturn, 1) := by decide +kernel
theorem s_97_68 (cl : am_C) (ls : am_Ls) (x : Int64) (h : am_H) : am_go0 cl 97 68 ls [.inr (.inl x)] h = some (some (.inr (.inl x)), h) := am_rE am_m97 d_97_68 rfl
theorem e_97 (d : Nat) (t : Nat) (p0 : Int) (p1 : Int) (h : am_H) : am_call (d + 1) 97 [.inr (.inr (some t)), .inl p0, .inl p1] h = am_go0 (am_call d) 97 0 [some (.inr (.inr (some t))), some (.inl p0), some (.inl p1), none] [] h := am_callE am_m97 (Nat.le_of_ble_eq_true rfl) rfl
theorem d_98_0 : am_code 98 0 = some (.aload_n 0, 1) := by decide +kernel
theorem s_98_0 (cl : am_C) (a1 a2 : Option am_V) (x : Nat) (st : List am_V) (h : am_H) : am_go0 cl 98 0 [some (.inr (.inr (some x))), a1, a2] st h = am_go0 cl 98 1 [some (.inr (.inr (some x))), a1, a2] (.inr (.inr (some x)) :: st) h := am_r am_m98 d_98_0 rfl
theorem d_98_1 : am_code 98 1 = some (.getfield 66, 3) := by decide +kernel
theorem s_98_1 (cl : am_C) (ls : am_Ls) (st : List am_V) (N : Nat) (I : Nat → Int → Int) (L : Nat → Int → Int64) : am_go0 cl 98 1 ls (.inr (.inr (some 44)) :: st) (am_GS N, am_GR, I, L) = am_go0 cl 98 4 ls (.inr (.inr (some 29)) :: st) (am_GS N, am_GR, I, L) := am_rG2 am_m98 d_98_1 am_f7066 rfl (gs_44 N) (by decide) gr_44_4 rfl
theorem d_98_4 : am_code 98 4 = some (.iload_n 1, 1) := by decide +kernel
theorem s_98_4 (cl : am_C) (a0 a2 : Option am_V) (x : Int) (st : List am_V) (h : am_H) : am_go0 cl 98 4 [a0, some (.inl x), a2] st h = am_go0 cl 98 5 [a0, some (.inl x), a2] (.inl x :: st) h := am_r am_m98 d_98_4 rfl
theorem d_98_5 : am_code 98 5 = some (.iload_n 2, 1) := by decide +kernel
theorem s_98_5 (cl : am_C) (a0 a1 : Option am_V) (x : Int) (st : List am_V) (h : am_H) : am_go0 cl 98 5 [a0, a1, some (.inl x)] st h = am_go0 cl 98 6 [a0, a1, some (.inl x)] (.inl x :: st) h := am_r am_m98 d_98_5 rfl
theorem d_98_6 : am_code 98 6 = some (.invokevirtual 103, 3) := by decide +kernel
theorem s_98_6 (cl : am_C) (ls : am_Ls) (x0 : Int) (x1 : Int) (N : Nat) (I : Nat → Int → Int) (L : Nat → Int → Int64) : am_go0 cl 98 6 ls [.inl x1, .inl x0, .inr (.inr (some 29))] (am_GS N, am_GR, I, L) = am_bd (cl 89 [.inr (.inr (some 29)), .inl x0, .inl x1] (am_GS N, am_GR, I, L)) (fun v h2 => am_go0 cl 98 9 ls (v.toList ++ []) h2) := am_rV am_m98 d_98_6 am_k7103 rfl am_m89 (gs_29 N) (by decide) (Nat.le_of_ble_eq_true rfl) rfl ls
theorem d_98_9 : am_code 98 9 = some (.ifCond .eq 19, 3) := by decide +kernel
theorem s_98_9 (cl : am_C) (ls : am_Ls) (x : Int) (st : List am_V) (h : am_H) : am_go0 cl 98 9 ls (.inl x :: st) h = if x = 0 then am_go0 cl 98 28 ls st h else am_go0 cl 98 12 ls st h := (am_rJ1 am_m98 d_98_9 (by decide) rfl x ls st h).trans (am_ifT (am_cmp_eq x 0) _ _)
theorem d_98_12 : am_code 98 12 = some (.aload_n 0, 1) := by decide +kernel
theorem s_98_12 (cl : am_C) (a1 a2 : Option am_V) (x : Nat) (st : List am_V) (h : am_H) : am_go0 cl 98 12 [some (.inr (.inr (some x))), a1, a2] st h = am_go0 cl 98 13 [some (.inr (.inr (some x))), a1, a2] (.inr (.inr (some x)) :: st) h := am_r am_m98 d_98_12 rfl
theorem d_98_13 : am_code 98 13 = some (.aload_n 0, 1) := by decide +kernel
theorem s_98_13 (cl : am_C) (a1 a2 : Option am_V) (x : Nat) (st : List am_V) (h : am_H) : am_go0 cl 98 13 [some (.inr (.inr (some x))), a1, a2] st h = am_go0 cl 98 14 [some (.inr (.inr (some x))), a1, a2] (.inr (.inr (some x)) :: st) h := am_r am_m98 d_98_13 rfl
theorem d_98_14 : am_code 98 14 = some (.getfield 66, 3) := by decide +kernel
theorem s_98_14 (cl : am_C) (ls : am_Ls) (st : List am_V) (N : Nat) (I : Nat → Int → Int) (L : Nat → Int → Int64) : am_go0 cl 98 14 ls (.inr (.inr (some 44)) :: st) (am_GS N, am_GR, I, L) = am_go0 cl 98 17 ls (.inr (.inr (some 29)) :: st) (am_GS N, am_GR, I, L) := am_rG2 am_m98 d_98_14 am_f7066 rfl (gs_44 N) (by decide) gr_44_4 rfl
theorem d_98_17 : am_code 98 17 = some (.iload_n 1, 1) := by decide +kernel
theorem s_98_17 (cl : am_C) (a0 a2 : Option am_V) (x : Int) (st : List am_V) (h : am_H) : am_go0 cl 98 17 [a0, some (.inl x), a2] st h = am_go0 cl 98 18 [a0, some (.inl x), a2] (.inl x :: st) h := am_r am_m98 d_98_17 rfl
theorem d_98_18 : am_code 98 18 = some (.iload_n 2, 1) := by decide +kernel
theorem s_98_18 (cl : am_C) (a0 a1 : Option am_V) (x : Int) (st : List am_V) (h : am_H) : am_go0 cl 98 18 [a0, a1, some (.inl x)] st h = am_go0 cl 98 19 [a0, a1, some (.inl x)] (.inl x :: st) h := am_r am_m98 d_98_18 rfl
theorem d_98_19 : am_code 98 19 = some (.invokevirtual 107, 3) := by decide +kernel
theorem s_98_19 (cl : am_C) (ls : am_Ls) (x0 : Int) (x1 : Int) (z0 : Nat) (N : Nat) (I : Nat → Int → Int) (L : Nat → Int → Int64) : am_go0 cl 98 19 ls [.inl x1, .inl x0, .inr (.inr (some 29)), .inr (.inr (some z0))] (am_GS N, am_GR, I, L) = am_bd (cl 90 [.inr (.inr (some 29)), .inl x0, .inl x1] (am_GS N, am_GR, I, L)) (fun v h2 => am_go0 cl 98 22 ls (v.toList ++ [.inr (.inr (some z0))]) h2) := am_rV am_m98 d_98_19 am_k7107 rfl am_m90 (gs_29 N) (by decide) (Nat.le_of_ble_eq_true rfl) rfl ls
theorem d_98_22 : am_code 98 22 = some (.putfield 46, 3) := by decide +kernel
theorem s_98_22 (cl : am_C) (ls : am_Ls) (v : Int64) (st : List am_V) (N : Nat) (I : Nat → Int → Int) (L : Nat → Int → Int64) : am_go0 cl 98 22 ls (.inr (.inl v) :: .inr (.inr (some 44)) :: st) (am_GS N, am_GR, I, L) = am_go0 cl 98 25 ls st (am_GS N, am_GR, I, am_uL L 44 17 v) := am_rP1 am_m98 d_98_22 am_f7046 rfl (gs_44 N) (by decide) rfl
theorem d_98_25 : am_code 98 25 = some (.goto 57, 3) := by decide +kernel
theorem s_98_25 (cl : am_C) (ls : am_Ls) (st : List am_V) (h : am_H) : am_go0 cl 98 25 ls st h = am_go0 cl 98 82 ls st h := am_rGo am_m98 d_98_25 (by decide) _ _ _
theorem d_98_28 : am_code 98 28 = some (.aload_n 0, 1) := by decide +kernel
theorem s_98_28 (cl : am_C) (a1 a2 : Option am_V) (x : Nat) (st : List am_V) (h : am_H) : am_go0 cl 98 28 [some (.inr (.inr (some x))), a1, a2] st h = am_go0 cl 98 29 [some (.inr (.inr (some x))), a1, a2] (.inr (.inr (some x)) :: st) h := am_r am_m98 d_98_28 rfl
theorem d_98_29 : am_code 98 29 = some (.getfield 66, 3) := by decide +kernel
theorem s_98_29 (cl : am_C) (ls : am_Ls) (st : List am_V) (N : Nat) (I : Nat → Int → Int) (L : Nat → Int → Int64) : am_go0 cl 98 29 ls (.inr (.inr (some 44)) :: st) (am_GS N, am_GR, I, L) = am_go0 cl 98 32 ls (.inr (.inr (some 29)) :: st) (am_GS N, am_GR, I, L) := am_rG2 am_m98 d_98_29 am_f7066 rfl (gs_44 N) (by decide) gr_44_4 rfl
theorem d_98_32 : am_code 98 32 = some (.iload_n 1, 1) := by decide +kernel
theorem s_98_32 (cl : am_C) (a0 a2 : Option am_V) (x : Int) (st : List am_V) (h : am_H) : am_go0 cl 98 32 [a0, some (.inl x), a2] st h = am_go0 cl 98 33 [a0, some (.inl x), a2] (.inl x :: st) h := am_r am_m98 d_98_32 rfl
theorem d_98_33 : am_code 98 33 = some (.iload_n 2, 1) := by decide +kernel
theorem s_98_33 (cl : am_C) (a0 a1 : Option am_V) (x : Int) (st : List am_V) (h : am_H) : am_go0 cl 98 33 [a0, a1, some (.inl x)] st h = am_go0 cl 98 34 [a0, a1, some (.inl x)] (.inl x :: st) h := am_r am_m98 d_98_33 rfl
theorem d_98_34 : am_code 98 34 = some (.invokevirtual 111, 3) := by decide +kernel
theorem s_98_34 (cl : am_C) (ls : am_Ls) (x0 : Int) (x1 : Int) (N : Nat) (I : Nat → Int → Int) (L : Nat → Int → Int64) : am_go0 cl 98 34 ls [.inl x1, .inl x0, .inr (.inr (some 29))] (am_GS N, am_GR, I, L) = am_bd (cl 91 [.inr (.inr (some 29)), .inl x0, .inl x1] (am_GS N, am_GR, I, L)) (fun v h2 => am_go0 cl 98 37 ls (v.toList ++ []) h2) := am_rV am_m98 d_98_34 am_k7111 rfl am_m91 (gs_29 N) (by decide) (Nat.le_of_ble_eq_true rfl) rfl ls
theorem d_98_37 : am_code 98 37 = some (.ifCond .eq 16, 3) := by decide +kernel
theorem s_98_37 (cl : am_C) (ls : am_Ls) (x : Int) (st : List am_V) (h : am_H) : am_go0 cl 98 37 ls (.inl x :: st) h = if x = 0 then am_go0 cl 98 53 ls st h else am_go0 cl 98 40 ls st h := (am_rJ1 am_m98 d_98_37 (by decide) rfl x ls st h).trans (am_ifT (am_cmp_eq x 0) _ _)
theorem d_98_40 : am_code 98 40 = some (.aload_n 0, 1) := by decide +kernel
theorem s_98_40 (cl : am_C) (a1 a2 : Option am_V) (x : Nat) (st : List am_V) (h : am_H) : am_go0 cl 98 40 [some (.inr (.inr (some x))), a1, a2] st h = am_go0 cl 98 41 [some (.inr (.inr (some x))), a1, a2] (.inr (.inr (some x)) :: st) h := am_r am_m98 d_98_40 rfl
theorem d_98_41 : am_code 98 41 = some (.getfield 74, 3) := by decide +kernel
theorem s_98_41 (cl : am_C) (ls : am_Ls) (st : List am_V) (N : Nat) (I : Nat → Int → Int) (L : Nat → Int → Int64) : am_go0 cl 98 41 ls (.inr (.inr (some 44)) :: st) (am_GS N, am_GR, I, L) = am_go0 cl 98 44 ls (.inr (.inr (some 41)) :: st) (am_GS N, am_GR, I, L) := am_rG2 am_m98 d_98_41 am_f7074 rfl (gs_44 N) (by decide) gr_44_6 rfl
theorem d_98_44 : am_code 98 44 = some (.iconst 2, 1) := by decide +kernel
theorem s_98_44 (cl : am_C) (ls : am_Ls) (st : List am_V) (h : am_H) : am_go0 cl 98 44 ls st h = am_go0 cl 98 45 ls (.inl 2 :: st) h := am_rK am_m98 d_98_44 (by decide) rfl _ _ _
theorem d_98_45 : am_code 98 45 = some (.iload_n 1, 1) := by decide +kernel
theorem s_98_45 (cl : am_C) (a0 a2 : Option am_V) (x : Int) (st : List am_V) (h : am_H) : am_go0 cl 98 45 [a0, some (.inl x), a2] st h = am_go0 cl 98 46 [a0, some (.inl x), a2] (.inl x :: st) h := am_r am_m98 d_98_45 rfl
theorem d_98_46 : am_code 98 46 = some (.iload_n 2, 1) := by decide +kernel
theorem s_98_46 (cl : am_C) (a0 a1 : Option am_V) (x : Int) (st : List am_V) (h : am_H) : am_go0 cl 98 46 [a0, a1, some (.inl x)] st h = am_go0 cl 98 47 [a0, a1, some (.inl x)] (.inl x :: st) h := am_r am_m98 d_98_46 rfl
theorem d_98_47 : am_code 98 47 = some (.invokevirtual 114, 3) := by decide +kernel
theorem s_98_47 (cl : am_C) (ls : am_Ls) (x0 : Int) (x1 : Int) (x2 : Int) (N : Nat) (I : Nat → Int → Int) (L : Nat → Int → Int64) : am_go0 cl 98 47 ls [.inl x2, .inl x1, .inl x0, .inr (.inr (some 41))] (am_GS N, am_GR, I, L) = am_bd (cl 61 [.inr (.inr (some 41)), .inl x0, .inl x1, .inl x2] (am_GS N, am_GR, I, L)) (fun v h2 => am_go0 cl 98 50 ls (v.toList ++ []) h2) := am_rV am_m98 d_98_47 am_k7114 rfl am_m61 (gs_41 N) (by decide) (Nat.le_of_ble_eq_true rfl) rfl ls
theorem d_98_50 : am_code 98 50 = some (.goto 32, 3) := by decide +kernel
theorem s_98_50 (cl : am_C) (ls : am_Ls) (st : List am_V) (h : am_H) : am_go0 cl 98 50 ls st h = am_go0 cl 98 82 ls st h := am_rGo am_m98 d_98_50 (by decide) _ _ _
theorem d_98_53 : am_code 98 53 = some (.aload_n 0, 1) := by decide +kernel
theorem s_98_53 (cl : am_C) (a1 a2 : Option am_V) (x : Nat) (st : List am_V) (h : am_H) : am_go0 cl 98 53 [some (.inr (.inr (some x))), a1, a2] st h = am_go0 cl 98 54 [some (.inr (.inr (some x))), a1, a2] (.inr (.inr (some x)) :: st) h := am_r am_m98 d_98_53 rfl
theorem d_98_54 : am_code 98 54 = some (.getfield 29, 3) := by decide +kernel
theorem s_98_54 (cl : am_C) (ls : am_Ls) (st : List am_V) (N : Nat) (I : Nat → Int → Int) (L : Nat → Int → Int64) : am_go0 cl 98 54 ls (.inr (.inr (some 44)) :: st) (am_GS N, am_GR, I, L) = am_go0 cl 98 57 ls (.inl (I 44 12) :: st) (am_GS N, am_GR, I, L) := am_rG0 am_m98 d_98_54 am_f7029 rfl (gs_44 N) (by decide) rfl
theorem d_98_57 : am_code 98 57 = some (.bipush 40, 2) := by decide +kernel
theorem s_98_57 (cl : am_C) (ls : am_Ls) (st : List am_V) (h : am_H) : am_go0 cl 98 57 ls st h = am_go0 cl 98 59 ls (.inl 40 :: st) h := am_rB am_m98 d_98_57 (by decide) rfl _ _ _
theorem d_98_59 : am_code 98 59 = some (.if_icmp .lt 17, 3) := by decide +kernel
theorem s_98_59 (cl : am_C) (ls : am_Ls) (x y : Int) (st : List am_V) (h : am_H) : am_go0 cl 98 59 ls (.inl y :: .inl x :: st) h = if x < y then am_go0 cl 98 76 ls st h else am_go0 cl 98 62 ls st h := (am_rJ0 am_m98 d_98_59 (by decide) rfl x y ls st h).trans (am_ifT (am_cmp_lt x y) _ _)
theorem d_98_62 : am_code 98 62 = some (.aload_n 0, 1) := by decide +kernel
theorem s_98_62 (cl : am_C) (a1 a2 : Option am_V) (x : Nat) (st : List am_V) (h : am_H) : am_go0 cl 98 62 [some (.inr (.inr (some x))), a1, a2] st h = am_go0 cl 98 63 [some (.inr (.inr (some x))), a1, a2] (.inr (.inr (some x)) :: st) h := am_r am_m98 d_98_62 rfl
theorem d_98_63 : am_code 98 63 = some (.getfield 74, 3) := by decide +kernel
theorem s_98_63 (cl : am_C) (ls : am_Ls) (st : List am_V) (N : Nat) (I : Nat → Int → Int) (L : Nat → Int → Int64) : am_go0 cl 98 63 ls (.inr (.inr (some 44)) :: st) (am_GS N, am_GR, I, L) = am_go0 cl 98 66 ls (.inr (.inr (some 41)) :: st) (am_GS N, am_GR, I, L) := am_rG2 am_m98 d_98_63 am_f7074 rfl (gs_44 N) (by decide) gr_44_6 rfl
theorem d_98_66 : am_code 98 66 = some (.bipush 6, 2) := by decide +kernel
theorem s_98_66 (cl : am_C) (ls : am_Ls) (st : List am_V) (h : am_H) : am_go0 cl 98 66 ls st h = am_go0 cl 98 68 ls (.inl 6 :: st) h := am_rB am_m98 d_98_66 (by decide) rfl _ _ _
theorem d_98_68 : am_code 98 68 = some (.iload_n 1, 1) := by decide +kernel
theorem s_98_68 (cl : am_C) (a0 a2 : Option am_V) (x : Int) (st : List am_V) (h : am_H) : am_go0 cl 98 68 [a0, some (.inl x), a2] st h = am_go0 cl 98 69 [a0, some (.inl x), a2] (.inl x :: st) h := am_r am_m98 d_98_68 rfl
theorem d_98_69 : am_code 98 69 = some (.iload_n 2, 1) := by decide +kernel
theorem s_98_69 (cl : am_C) (a0 a1 : Option am_V) (x : Int) (st : List am_V) (h : am_H) : am_go0 cl 98 69 [a0, a1, some (.inl x)] st h = am_go0 cl 98 70 [a0, a1, some (.inl x)] (.inl x :: st) h := am_r am_m98 d_98_69 rfl
theorem d_98_70 : am_code 98 70 = some (.invokevirtual 114, 3) := by decide +kernel
theorem s_98_70 (cl : am_C) (ls : am_Ls) (x0 : Int) (x1 : Int) (x2 : Int) (N : Nat) (I : Nat → Int → Int) (L : Nat → Int → Int64) : am_go0 cl 98 70 ls [.inl x2, .inl x1, .inl x0, .inr (.inr (some 41))] (am_GS N, am_GR, I, L) = am_bd (cl 61 [.inr (.inr (some 41)), .inl x0, .inl x1, .inl x2] (am_GS N, am_GR, I, L)) (fun v h2 => am_go0 cl 98 73 ls (v.toList ++ []) h2) := am_rV am_m98 d_98_70 am_k7114 rfl am_m61 (gs_41 N) (by decide) (Nat.le_of_ble_eq_true rfl) rfl ls
theorem d_98_73 : am_code 98 73 = some (.goto 9, 3) := by decide +kernel
theorem s_98_73 (cl : am_C) (ls : am_Ls) (st : List am_V) (h : am_H) : am_go0 cl 98 73 ls st h = am_go0 cl 98 82 ls st h := am_rGo am_m98 d_98_73 (by decide) _ _ _
theorem d_98_76 : am_code 98 76 = some (.aload_n 0, 1) := by decide +kernel
theorem s_98_76 (cl : am_C) (a1 a2 : Option am_V) (x : Nat) (st : List am_V) (h : am_H) : am_go0 cl 98 76 [some (.inr (.inr (some x))), a1, a2] st h = am_go0 cl 98 77 [some (.inr (.inr (some x))), a1, a2] (.inr (.inr (some x)) :: st) h := am_r am_m98 d_98_76 rfl
theorem d_98_77 : am_code 98 77 = some (.iload_n 1, 1) := by decide +kernel
theorem s_98_77 (cl : am_C) (a0 a2 : Option am_V) (x : Int) (st : List am_V) (h : am_H) : am_go0 cl 98 77 [a0, some (.inl x), a2] st h = am_go0 cl 98 78 [a0, some (.inl x), a2] (.inl x :: st) h := am_r am_m98 d_98_77 rfl
theorem d_98_78 : am_code 98 78 = some (.iload_n 2, 1) := by decide +kernel
theorem s_98_78 (cl : am_C) (a0 a1 : Option am_V) (x : Int) (st : List am_V) (h : am_H) : am_go0 cl 98 78 [a0, a1, some (.inl x)] st h = am_go0 cl 98 79 [a0, a1, some (.inl x)] (.inl x :: st) h := am_r am_m98 d_98_78 rfl
theorem d_98_79 : am_code 98 79 = some (.invokevirtual 118, 3) := by decide +kernel
theorem s_98_79 (cl : am_C) (ls : am_Ls) (x0 : Int) (x1 : Int) (N : Nat) (I : Nat → Int → Int) (L : Nat → Int → Int64) : am_go0 cl 98 79 ls [.inl x1, .inl x0, .inr (.inr (some 44))] (am_GS N, am_GR, I, L) = am_bd (cl 100 [.inr (.inr (some 44)), .inl x0, .inl x1] (am_GS N, am_GR, I, L)) (fun v h2 => am_go0 cl 98 82 ls (v.toList ++ []) h2) := am_rV am_m98 d_98_79 am_k7118 rfl am_m100 (gs_44 N) (by decide) (Nat.le_of_ble_eq_true rfl) rfl ls
theorem d_98_82 : am_code 98 82 = some (.return_, 1) := by decide +kernel
theorem s_98_82 (cl : am_C) (ls : am_Ls) (h : am_H) : am_go0 cl 98 82 ls [] h = some (none, h) := am_rE am_m98 d_98_82 rfl
theorem e_98 (d : Nat) (t : Nat) (p0 : Int) (p1 : Int) (h : am_H) : am_call (d + 1) 98 [.inr (.inr (some t)), .inl p0, .inl p1] h = am_go0 (am_call d) 98 0 [some (.inr (.inr (some t))), some (.inl p0), some (.inl p1)] [] h := am_callE am_m98 (Nat.le_of_ble_eq_true rfl) rfl
theorem d_99_0 : am_code 99 0 = some (.iconst 0, 1) := by decide +kernel
theorem s_99_0 (cl : am_C) (ls : am_Ls) (st : List am_V) (h : am_H) : am_go0 cl 99 0 ls st h = am_go0 cl 99 1 ls (.inl 0 :: st) h := am_rK am_m99 d_99_0 (by decide) rfl _ _ _
theorem d_99_1 : am_code 99 1 = some (.istore_n 1, 1) := by decide +kernel
theorem s_99_1 (cl : am_C) (a0 a1 : Option am_V) (x : Int) (st : List am_V) (h : am_H) : am_go0 cl 99 1 [a0, a1] (.inl x :: st) h = am_go0 cl 99 2 [am_c1 a0, some (.inl x)] st h := am_r am_m99 d_99_1 rfl
theorem d_99_2 : am_code 99 2 = some (.iload_n 1, 1) := by decide +kernel
theorem s_99_2 (cl : am_C) (a0 : Option am_V) (x : Int) (st : List am_V) (h : am_H) : am_go0 cl 99 2 [a0, some (.inl x)] st h = am_go0 cl 99 3 [a0, some (.inl x)] (.inl x :: st) h := am_r am_m99 d_99_2 rfl
theorem d_99_3 : am_code 99 3 = some (.aload_n 0, 1) := by decide +kernel
theorem s_99_3 (cl : am_C) (a1 : Option am_V) (x : Nat) (st : List am_V) (h : am_H) : am_go0 cl 99 3 [some (.inr (.inr (some x))), a1] st h = am_go0 cl 99 4 [some (.inr (.inr (some x))), a1] (.inr (.inr (some x)) :: st) h := am_r am_m99 d_99_3 rfl
theorem d_99_4 : am_code 99 4 = some (.getfield 29, 3) := by decide +kernel
theorem s_99_4 (cl : am_C) (ls : am_Ls) (st : List am_V) (N : Nat) (I : Nat → Int → Int) (L : Nat → Int → Int64) : am_go0 cl 99 4 ls (.inr (.inr (some 44)) :: st) (am_GS N, am_GR, I, L) = am_go0 cl 99 7 ls (.inl (I 44 12) :: st) (am_GS N, am_GR, I, L) := am_rG0 am_m99 d_99_4 am_f7029 rfl (gs_44 N) (by decide) rfl
theorem d_99_7 : am_code 99 7 = some (.if_icmp .ge 28, 3) := by decide +kernel
theorem s_99_7 (cl : am_C) (ls : am_Ls) (x y : Int) (st : List am_V) (h : am_H) : am_go0 cl 99 7 ls (.inl y :: .inl x :: st) h = if x < y then am_go0 cl 99 10 ls st h else am_go0 cl 99 35 ls st h := (am_rJ0 am_m99 d_99_7 (by decide) rfl x y ls st h).trans (am_ifF ((am_cmp_ge x y).trans Int.not_lt.symm) _ _)
theorem d_99_10 : am_code 99 10 = some (.aload_n 0, 1) := by decide +kernel
theorem s_99_10 (cl : am_C) (a1 : Option am_V) (x : Nat) (st : List am_V) (h : am_H) : am_go0 cl 99 10 [some (.inr (.inr (some x))), a1] st h = am_go0 cl 99 11 [some (.inr (.inr (some x))), a1] (.inr (.inr (some x)) :: st) h := am_r am_m99 d_99_10 rfl
theorem d_99_11 : am_code 99 11 = some (.getfield 66, 3) := by decide +kernel
theorem s_99_11 (cl : am_C) (ls : am_Ls) (st : List am_V) (N : Nat) (I : Nat → Int → Int) (L : Nat → Int → Int64) : am_go0 cl 99 11 ls (.inr (.inr (some 44)) :: st) (am_GS N, am_GR, I, L) = am_go0 cl 99 14 ls (.inr (.inr (some 29)) :: st) (am_GS N, am_GR, I, L) := am_rG2 am_m99 d_99_11 am_f7066 rfl (gs_44 N) (by decide) gr_44_4 rfl
theorem d_99_14 : am_code 99 14 = some (.aload_n 0, 1) := by decide +kernel
theorem s_99_14 (cl : am_C) (a1 : Option am_V) (x : Nat) (st : List am_V) (h : am_H) : am_go0 cl 99 14 [some (.inr (.inr (some x))), a1] st h = am_go0 cl 99 15 [some (.inr (.inr (some x))), a1] (.inr (.inr (some x)) :: st) h := am_r am_m99 d_99_14 rfl
theorem d_99_15 : am_code 99 15 = some (.getfield 13, 3) := by decide +kernel
theorem s_99_15 (cl : am_C) (ls : am_Ls) (st : List am_V) (N : Nat) (I : Nat → Int → Int) (L : Nat → Int → Int64) : am_go0 cl 99 15 ls (.inr (.inr (some 44)) :: st) (am_GS N, am_GR, I, L) = am_go0 cl 99 18 ls (.inr (.inr (some 45)) :: st) (am_GS N, am_GR, I, L) := am_rG2 am_m99 d_99_15 am_f7013 rfl (gs_44 N) (by decide) gr_44_7 rfl
theorem d_99_18 : am_code 99 18 = some (.iload_n 1, 1) := by decide +kernel
theorem s_99_18 (cl : am_C) (a0 : Option am_V) (x : Int) (st : List am_V) (h : am_H) : am_go0 cl 99 18 [a0, some (.inl x)] st h = am_go0 cl 99 19 [a0, some (.inl x)] (.inl x :: st) h := am_r am_m99 d_99_18 rfl
theorem d_99_19 : am_code 99 19 = some (.iaload, 1) := by decide +kernel
theorem s_99_19 (cl : am_C) (ls : am_Ls) (i : Int) (k : Nat) (st : List am_V) (N : Nat) (I : Nat → Int → Int) (L : Nat → Int → Int64) : am_go0 cl 99 19 ls (.inl i :: .inr (.inr (some k)) :: st) (am_GS N, am_GR, I, L) = if am_inb (am_GS N) k 0 i = true then am_go0 cl 99 20 ls (.inl (I k i) :: st) (am_GS N, am_GR, I, L) else none := am_rA am_m99 d_99_19 (by decide) rfl k ls st i _ _ I L
theorem d_99_20 : am_code 99 20 = some (.aload_n 0, 1) := by decide +kernel
theorem s_99_20 (cl : am_C) (a1 : Option am_V) (x : Nat) (st : List am_V) (h : am_H) : am_go0 cl 99 20 [some (.inr (.inr (some x))), a1] st h = am_go0 cl 99 21 [some (.inr (.inr (some x))), a1] (.inr (.inr (some x)) :: st) h := am_r am_m99 d_99_20 rfl
theorem d_99_21 : am_code 99 21 = some (.getfield 17, 3) := by decide +kernel
theorem s_99_21 (cl : am_C) (ls : am_Ls) (st : List am_V) (N : Nat) (I : Nat → Int → Int) (L : Nat → Int → Int64) : am_go0 cl 99 21 ls (.inr (.inr (some 44)) :: st) (am_GS N, am_GR, I, L) = am_go0 cl 99 24 ls (.inr (.inr (some 46)) :: st) (am_GS N, am_GR, I, L) := am_rG2 am_m99 d_99_21 am_f7017 rfl (gs_44 N) (by decide) gr_44_8 rfl
theorem d_99_24 : am_code 99 24 = some (.iload_n 1, 1) := by decide +kernel
theorem s_99_24 (cl : am_C) (a0 : Option am_V) (x : Int) (st : List am_V) (h : am_H) : am_go0 cl 99 24 [a0, some (.inl x)] st h = am_go0 cl 99 25 [a0, some (.inl x)] (.inl x :: st) h := am_r am_m99 d_99_24 rfl
theorem d_99_25 : am_code 99 25 = some (.iaload, 1) := by decide +kernel
theorem s_99_25 (cl : am_C) (ls : am_Ls) (i : Int) (k : Nat) (st : List am_V) (N : Nat) (I : Nat → Int → Int) (L : Nat → Int → Int64) : am_go0 cl 99 25 ls (.inl i :: .inr (.inr (some k)) :: st) (am_GS N, am_GR, I, L) = if am_inb (am_GS N) k 0 i = true then am_go0 cl 99 26 ls (.inl (I k i) :: st) (am_GS N, am_GR, I, L) else none := am_rA am_m99 d_99_25 (by decide) rfl k ls st i _ _ I L
theorem d_99_26 : am_code 99 26 = some (.invokevirtual 98, 3) := by decide +kernel
theorem s_99_26 (cl : am_C) (ls : am_Ls) (x0 : Int) (x1 : Int) (N : Nat) (I : Nat → Int → Int) (L : Nat → Int → Int64) : am_go0 cl 99 26 ls [.inl x1, .inl x0, .inr (.inr (some 29))] (am_GS N, am_GR, I, L) = am_bd (cl 92 [.inr (.inr (some 29)), .inl x0, .inl x1] (am_GS N, am_GR, I, L)) (fun v h2 => am_go0 cl 99 29 ls (v.toList ++ []) h2) := am_rV am_m99 d_99_26 am_k7098 rfl am_m92 (gs_29 N) (by decide) (Nat.le_of_ble_eq_true rfl) rfl ls
theorem d_99_29 : am_code 99 29 = some (.iinc 1 1, 3) := by decide +kernel
theorem s_99_29 (cl : am_C) (a0 : Option am_V) (x : Int) (st : List am_V) (h : am_H) : am_go0 cl 99 29 [a0, some (.inl x)] st h = am_go0 cl 99 32 [am_c1 a0, some (.inl (am_wr (x + 1)))] st h := am_r am_m99 d_99_29 rfl
theorem d_99_32 : am_code 99 32 = some (.goto (-30), 3) := by decide +kernel
theorem s_99_32 (cl : am_C) (ls : am_Ls) (st : List am_V) (h : am_H) : am_go0 cl 99 32 ls st h = am_go0 cl 99 2 ls st h := am_rGo am_m99 d_99_32 (by decide) _ _ _
theorem d_99_35 : am_code 99 35 = some (.aload_n 0, 1) := by decide +kernel
theorem s_99_35 (cl : am_C) (a1 : Option am_V) (x : Nat) (st : List am_V) (h : am_H) : am_go0 cl 99 35 [some (.inr (.inr (some x))), a1] st h = am_go0 cl 99 36 [some (.inr (.inr (some x))), a1] (.inr (.inr (some x)) :: st) h := am_r am_m99 d_99_35 rfl
theorem d_99_36 : am_code 99 36 = some (.iconst 0, 1) := by decide +kernel
theorem s_99_36 (cl : am_C) (ls : am_Ls) (st : List am_V) (h : am_H) : am_go0 cl 99 36 ls st h = am_go0 cl 99 37 ls (.inl 0 :: st) h := am_rK am_m99 d_99_36 (by decide) rfl _ _ _
theorem d_99_37 : am_code 99 37 = some (.putfield 29, 3) := by decide +kernel
theorem s_99_37 (cl : am_C) (ls : am_Ls) (v : Int) (st : List am_V) (N : Nat) (I : Nat → Int → Int) (L : Nat → Int → Int64) : am_go0 cl 99 37 ls (.inl v :: .inr (.inr (some 44)) :: st) (am_GS N, am_GR, I, L) = am_go0 cl 99 40 ls st (am_GS N, am_GR, am_uI I 44 12 v, L) := am_rP0 am_m99 d_99_37 am_f7029 rfl (gs_44 N) (by decide) rfl
theorem d_99_40 : am_code 99 40 = some (.aload_n 0, 1) := by decide +kernel
theorem s_99_40 (cl : am_C) (a1 : Option am_V) (x : Nat) (st : List am_V) (h : am_H) : am_go0 cl 99 40 [some (.inr (.inr (some x))), a1] st h = am_go0 cl 99 41 [some (.inr (.inr (some x))), a1] (.inr (.inr (some x)) :: st) h := am_r am_m99 d_99_40 rfl
theorem d_99_41 : am_code 99 41 = some (.iconst 0, 1) := by decide +kernel
theorem s_99_41 (cl : am_C) (ls : am_Ls) (st : List am_V) (h : am_H) : am_go0 cl 99 41 ls st h = am_go0 cl 99 42 ls (.inl 0 :: st) h := am_rK am_m99 d_99_41 (by decide) rfl _ _ _
theorem d_99_42 : am_code 99 42 = some (.putfield 43, 3) := by decide +kernel
theorem s_99_42 (cl : am_C) (ls : am_Ls) (v : Int) (st : List am_V) (N : Nat) (I : Nat → Int → Int) (L : Nat → Int → Int64) : am_go0 cl 99 42 ls (.inl v :: .inr (.inr (some 44)) :: st) (am_GS N, am_GR, I, L) = am_go0 cl 99 45 ls st (am_GS N, am_GR, am_uI I 44 16 v, L) := am_rP0 am_m99 d_99_42 am_f7043 rfl (gs_44 N) (by decide) rfl
theorem d_99_45 : am_code 99 45 = some (.return_, 1) := by decide +kernel
theorem s_99_45 (cl : am_C) (ls : am_Ls) (h : am_H) : am_go0 cl 99 45 ls [] h = some (none, h) := am_rE am_m99 d_99_45 rfl
theorem e_99 (d : Nat) (t : Nat) (h : am_H) : am_call (d + 1) 99 [.inr (.inr (some t))] h = am_go0 (am_call d) 99 0 [some (.inr (.inr (some t))), none] [] h := am_callE am_m99 (Nat.le_of_ble_eq_true rfl) rfl
theorem d_100_0 : am_code 100 0 = some (.aload_n 0, 1) := by decide +kernel
theorem s_100_0 (cl : am_C) (a1 a2 a3 a4 a5 : Option am_V) (x : Nat) (st : List am_V) (h : am_H) : am_go0 cl 100 0 [some (.inr (.inr (some x))), a1, a2, a3, a4, a5] st h = am_go0 cl 100 1 [some (.inr (.inr (some x))), a1, a2, a3, a4, a5] (.inr (.inr (some x)) :: st) h := am_r am_m100 d_100_0 rfl
theorem d_100_1 : am_code 100 1 = some (.getfield 58, 3) := by decide +kernel
theorem s_100_1 (cl : am_C) (ls : am_Ls) (st : List am_V) (N : Nat) (I : Nat → Int → Int) (L : Nat → Int → Int64) : am_go0 cl 100 1 ls (.inr (.inr (some 44)) :: st) (am_GS N, am_GR, I, L) = am_go0 cl 100 4 ls (.inr (.inr (some 15)) :: st) (am_GS N, am_GR, I, L) := am_rG2 am_m100 d_100_1 am_f7058 rfl (gs_44 N) (by decide) gr_44_2 rfl
theorem d_100_4 : am_code 100 4 = some (.aload_n 0, 1) := by decide +kernel
theorem s_100_4 (cl : am_C) (a1 a2 a3 a4 a5 : Option am_V) (x : Nat) (st : List am_V) (h : am_H) : am_go0 cl 100 4 [some (.inr (.inr (some x))), a1, a2, a3, a4, a5] st h = am_go0 cl 100 5 [some (.inr (.inr (some x))), a1, a2, a3, a4, a5] (.inr (.inr (some x)) :: st) h := am_r am_m100 d_100_4 rfl
theorem d_100_5 : am_code 100 5 = some (.getfield 70, 3) := by decide +kernel
theorem s_100_5 (cl : am_C) (ls : am_Ls) (st : List am_V) (N : Nat) (I : Nat → Int → Int) (L : Nat → Int → Int64) : am_go0 cl 100 5 ls (.inr (.inr (some 44)) :: st) (am_GS N, am_GR, I, L) = am_go0 cl 100 8 ls (.inr (.inr (some 33)) :: st) (am_GS N, am_GR, I, L) := am_rG2 am_m100 d_100_5 am_f7070 rfl (gs_44 N) (by decide) gr_44_5 rfl
theorem d_100_8 : am_code 100 8 = some (.iload_n 1, 1) := by decide +kernel
theorem s_100_8 (cl : am_C) (a0 a2 a3 a4 a5 : Option am_V) (x : Int) (st : List am_V) (h : am_H) : am_go0 cl 100 8 [a0, some (.inl x), a2, a3, a4, a5] st h = am_go0 cl 100 9 [a0, some (.inl x), a2, a3, a4, a5] (.inl x :: st) h := am_r am_m100 d_100_8 rfl
theorem d_100_9 : am_code 100 9 = some (.invokevirtual 121, 3) := by decide +kernel
theorem s_100_9 (cl : am_C) (ls : am_Ls) (x0 : Int) (z0 : Nat) (N : Nat) (I : Nat → Int → Int) (L : Nat → Int → Int64) : am_go0 cl 100 9 ls [.inl x0, .inr (.inr (some 33)), .inr (.inr (some z0))] (am_GS N, am_GR, I, L) = am_bd (cl 25 [.inr (.inr (some 33)), .inl x0] (am_GS N, am_GR, I, L)) (fun v h2 => am_go0 cl 100 12 ls (v.toList ++ [.inr (.inr (some z0))]) h2) := am_rV am_m100 d_100_9 am_k7121 rfl am_m25 (gs_33 N) (by decide) (Nat.le_of_ble_eq_true rfl) rfl ls
theorem d_100_12 : am_code 100 12 = some (.iload_n 2, 1) := by decide +kernel
theorem s_100_12 (cl : am_C) (a0 a1 a3 a4 a5 : Option am_V) (x : Int) (st : List am_V) (h : am_H) : am_go0 cl 100 12 [a0, a1, some (.inl x), a3, a4, a5] st h = am_go0 cl 100 13 [a0, a1, some (.inl x), a3, a4, a5] (.inl x :: st) h := am_r am_m100 d_100_12 rfl
theorem d_100_13 : am_code 100 13 = some (.invokevirtual 127, 3) := by decide +kernel
theorem s_100_13 (cl : am_C) (ls : am_Ls) (x0 : Int) (x1 : Int) (N : Nat) (I : Nat → Int → Int) (L : Nat → Int → Int64) : am_go0 cl 100 13 ls [.inl x1, .inl x0, .inr (.inr (some 15))] (am_GS N, am_GR, I, L) = am_bd (cl 40 [.inr (.inr (some 15)), .inl x0, .inl x1] (am_GS N, am_GR, I, L)) (fun v h2 => am_go0 cl 100 16 ls (v.toList ++ []) h2) := am_rV am_m100 d_100_13 am_k7127 rfl am_m40 (gs_15 N) (by decide) (Nat.le_of_ble_eq_true rfl) rfl ls
theorem d_100_16 : am_code 100 16 = some (.istore_n 3, 1) := by decide +kernel
theorem s_100_16 (cl : am_C) (a0 a1 a2 a3 a4 a5 : Option am_V) (x : Int) (st : List am_V) (h : am_H) : am_go0 cl 100 16 [a0, a1, a2, a3, a4, a5] (.inl x :: st) h = am_go0 cl 100 17 [a0, a1, am_c1 a2, some (.inl x), a4, a5] st h := am_r am_m100 d_100_16 rfl
theorem d_100_17 : am_code 100 17 = some (.aload_n 0, 1) := by decide +kernel
theorem s_100_17 (cl : am_C) (a1 a2 a3 a4 a5 : Option am_V) (x : Nat) (st : List am_V) (h : am_H) : am_go0 cl 100 17 [some (.inr (.inr (some x))), a1, a2, a3, a4, a5] st h = am_go0 cl 100 18 [some (.inr (.inr (some x))), a1, a2, a3, a4, a5] (.inr (.inr (some x)) :: st) h := am_r am_m100 d_100_17 rfl
theorem d_100_18 : am_code 100 18 = some (.getfield 62, 3) := by decide +kernel
theorem s_100_18 (cl : am_C) (ls : am_Ls) (st : List am_V) (N : Nat) (I : Nat → Int → Int) (L : Nat → Int → Int64) : am_go0 cl 100 18 ls (.inr (.inr (some 44)) :: st) (am_GS N, am_GR, I, L) = am_go0 cl 100 21 ls (.inr (.inr (some 10)) :: st) (am_GS N, am_GR, I, L) := am_rG2 am_m100 d_100_18 am_f7062 rfl (gs_44 N) (by decide) gr_44_3 rfl
theorem d_100_21 : am_code 100 21 = some (.aload_n 0, 1) := by decide +kernel
theorem s_100_21 (cl : am_C) (a1 a2 a3 a4 a5 : Option am_V) (x : Nat) (st : List am_V) (h : am_H) : am_go0 cl 100 21 [some (.inr (.inr (some x))), a1, a2, a3, a4, a5] st h = am_go0 cl 100 22 [some (.inr (.inr (some x))), a1, a2, a3, a4, a5] (.inr (.inr (some x)) :: st) h := am_r am_m100 d_100_21 rfl
theorem d_100_22 : am_code 100 22 = some (.getfield 70, 3) := by decide +kernel
theorem s_100_22 (cl : am_C) (ls : am_Ls) (st : List am_V) (N : Nat) (I : Nat → Int → Int) (L : Nat → Int → Int64) : am_go0 cl 100 22 ls (.inr (.inr (some 44)) :: st) (am_GS N, am_GR, I, L) = am_go0 cl 100 25 ls (.inr (.inr (some 33)) :: st) (am_GS N, am_GR, I, L) := am_rG2 am_m100 d_100_22 am_f7070 rfl (gs_44 N) (by decide) gr_44_5 rfl
theorem d_100_25 : am_code 100 25 = some (.iload_n 1, 1) := by decide +kernel
theorem s_100_25 (cl : am_C) (a0 a2 a3 a4 a5 : Option am_V) (x : Int) (st : List am_V) (h : am_H) : am_go0 cl 100 25 [a0, some (.inl x), a2, a3, a4, a5] st h = am_go0 cl 100 26 [a0, some (.inl x), a2, a3, a4, a5] (.inl x :: st) h := am_r am_m100 d_100_25 rfl
theorem d_100_26 : am_code 100 26 = some (.invokevirtual 133, 3) := by decide +kernel
theorem s_100_26 (cl : am_C) (ls : am_Ls) (x0 : Int) (z0 : Nat) (N : Nat) (I : Nat → Int → Int) (L : Nat → Int → Int64) : am_go0 cl 100 26 ls [.inl x0, .inr (.inr (some 33)), .inr (.inr (some z0))] (am_GS N, am_GR, I, L) = am_bd (cl 23 [.inr (.inr (some 33)), .inl x0] (am_GS N, am_GR, I, L)) (fun v h2 => am_go0 cl 100 29 ls (v.toList ++ [.inr (.inr (some z0))]) h2) := am_rV am_m100 d_100_26 am_k7133 rfl am_m23 (gs_33 N) (by decide) (Nat.le_of_ble_eq_true rfl) rfl ls
theorem d_100_29 : am_code 100 29 = some (.iload_n 2, 1) := by decide +kernel
theorem s_100_29 (cl : am_C) (a0 a1 a3 a4 a5 : Option am_V) (x : Int) (st : List am_V) (h : am_H) : am_go0 cl 100 29 [a0, a1, some (.inl x), a3, a4, a5] st h = am_go0 cl 100 30 [a0, a1, some (.inl x), a3, a4, a5] (.inl x :: st) h := am_r am_m100 d_100_29 rfl
theorem d_100_30 : am_code 100 30 = some (.invokevirtual 136, 3) := by decide +kernel
theorem s_100_30 (cl : am_C) (ls : am_Ls) (x0 : Int) (x1 : Int) (N : Nat) (I : Nat → Int → Int) (L : Nat → Int → Int64) : am_go0 cl 100 30 ls [.inl x1, .inl x0, .inr (.inr (some 10))] (am_GS N, am_GR, I, L) = am_bd (cl 9 [.inr (.inr (some 10)), .inl x0, .inl x1] (am_GS N, am_GR, I, L)) (fun v h2 => am_go0 cl 100 33 ls (v.toList ++ []) h2) := am_rV am_m100 d_100_30 am_k7136 rfl am_m9 (gs_10 N) (by decide) (Nat.le_of_ble_eq_true rfl) rfl ls
theorem d_100_33 : am_code 100 33 = some (.istore 4, 2) := by decide +kernel
theorem s_100_33 (cl : am_C) (a0 a1 a2 a3 a4 a5 : Option am_V) (x : Int) (st : List am_V) (h : am_H) : am_go0 cl 100 33 [a0, a1, a2, a3, a4, a5] (.inl x :: st) h = am_go0 cl 100 35 [a0, a1, a2, am_c1 a3, some (.inl x), a5] st h := am_r am_m100 d_100_33 rfl
theorem d_100_35 : am_code 100 35 = some (.aload_n 0, 1) := by decide +kernel
theorem s_100_35 (cl : am_C) (a1 a2 a3 a4 a5 : Option am_V) (x : Nat) (st : List am_V) (h : am_H) : am_go0 cl 100 35 [some (.inr (.inr (some x))), a1, a2, a3, a4, a5] st h = am_go0 cl 100 36 [some (.inr (.inr (some x))), a1, a2, a3, a4, a5] (.inr (.inr (some x)) :: st) h := am_r am_m100 d_100_35 rfl
theorem d_100_36 : am_code 100 36 = some (.getfield 70, 3) := by decide +kernel
theorem s_100_36 (cl : am_C) (ls : am_Ls) (st : List am_V) (N : Nat) (I : Nat → Int → Int) (L : Nat → Int → Int64) : am_go0 cl 100 36 ls (.inr (.inr (some 44)) :: st) (am_GS N, am_GR, I, L) = am_go0 cl 100 39 ls (.inr (.inr (some 33)) :: st) (am_GS N, am_GR, I, L) := am_rG2 am_m100 d_100_36 am_f7070 rfl (gs_44 N) (by decide) gr_44_5 rfl
theorem d_100_39 : am_code 100 39 = some (.iload_n 1, 1) := by decide +kernel
theorem s_100_39 (cl : am_C) (a0 a2 a3 a4 a5 : Option am_V) (x : Int) (st : List am_V) (h : am_H) : am_go0 cl 100 39 [a0, some (.inl x), a2, a3, a4, a5] st h = am_go0 cl 100 40 [a0, some (.inl x), a2, a3, a4, a5] (.inl x :: st) h := am_r am_m100 d_100_39 rfl
theorem d_100_40 : am_code 100 40 = some (.invokevirtual 141, 3) := by decide +kernel
theorem s_100_40 (cl : am_C) (ls : am_Ls) (x0 : Int) (N : Nat) (I : Nat → Int → Int) (L : Nat → Int → Int64) : am_go0 cl 100 40 ls [.inl x0, .inr (.inr (some 33))] (am_GS N, am_GR, I, L) = am_bd (cl 24 [.inr (.inr (some 33)), .inl x0] (am_GS N, am_GR, I, L)) (fun v h2 => am_go0 cl 100 43 ls (v.toList ++ []) h2) := am_rV am_m100 d_100_40 am_k7141 rfl am_m24 (gs_33 N) (by decide) (Nat.le_of_ble_eq_true rfl) rfl ls
theorem d_100_43 : am_code 100 43 = some (.istore 5, 2) := by decide +kernel
theorem s_100_43 (cl : am_C) (a0 a1 a2 a3 a4 a5 : Option am_V) (x : Int) (st : List am_V) (h : am_H) : am_go0 cl 100 43 [a0, a1, a2, a3, a4, a5] (.inl x :: st) h = am_go0 cl 100 45 [a0, a1, a2, a3, am_c1 a4, some (.inl x)] st h := am_r am_m100 d_100_43 rfl
theorem d_100_45 : am_code 100 45 = some (.iload_n 3, 1) := by decide +kernel
theorem s_100_45 (cl : am_C) (a0 a1 a2 a4 a5 : Option am_V) (x : Int) (st : List am_V) (h : am_H) : am_go0 cl 100 45 [a0, a1, a2, some (.inl x), a4, a5] st h = am_go0 cl 100 46 [a0, a1, a2, some (.inl x), a4, a5] (.inl x :: st) h := am_r am_m100 d_100_45 rfl
theorem d_100_46 : am_code 100 46 = some (.iconst (-1), 1) := by decide +kernel
theorem s_100_46 (cl : am_C) (ls : am_Ls) (st : List am_V) (h : am_H) : am_go0 cl 100 46 ls st h = am_go0 cl 100 47 ls (.inl (-1) :: st) h := am_rK am_m100 d_100_46 (by decide) rfl _ _ _
theorem d_100_47 : am_code 100 47 = some (.if_icmp .ne 20, 3) := by decide +kernel
theorem s_100_47 (cl : am_C) (ls : am_Ls) (x y : Int) (st : List am_V) (h : am_H) : am_go0 cl 100 47 ls (.inl y :: .inl x :: st) h = if x = y then am_go0 cl 100 50 ls st h else am_go0 cl 100 67 ls st h := (am_rJ0 am_m100 d_100_47 (by decide) rfl x y ls st h).trans (am_ifF ((am_cmp_ne x y).trans Iff.rfl) _ _)
theorem d_100_50 : am_code 100 50 = some (.iload 4, 2) := by decide +kernel
theorem s_100_50 (cl : am_C) (a0 a1 a2 a3 a5 : Option am_V) (x : Int) (st : List am_V) (h : am_H) : am_go0 cl 100 50 [a0, a1, a2, a3, some (.inl x), a5] st h = am_go0 cl 100 52 [a0, a1, a2, a3, some (.inl x), a5] (.inl x :: st) h := am_r am_m100 d_100_50 rfl
theorem d_100_52 : am_code 100 52 = some (.iconst (-1), 1) := by decide +kernel
theorem s_100_52 (cl : am_C) (ls : am_Ls) (st : List am_V) (h : am_H) : am_go0 cl 100 52 ls st h = am_go0 cl 100 53 ls (.inl (-1) :: st) h := am_rK am_m100 d_100_52 (by decide) rfl _ _ _
theorem d_100_53 : am_code 100 53 = some (.if_icmp .ne 14, 3) := by decide +kernel
theorem s_100_53 (cl : am_C) (ls : am_Ls) (x y : Int) (st : List am_V) (h : am_H) : am_go0 cl 100 53 ls (.inl y :: .inl x :: st) h = if x = y then am_go0 cl 100 56 ls st h else am_go0 cl 100 67 ls st h := (am_rJ0 am_m100 d_100_53 (by decide) rfl x y ls st h).trans (am_ifF ((am_cmp_ne x y).trans Iff.rfl) _ _)
theorem d_100_56 : am_code 100 56 = some (.aload_n 0, 1) := by decide +kernel
theorem s_100_56 (cl : am_C) (a1 a2 a3 a4 a5 : Option am_V) (x : Nat) (st : List am_V) (h : am_H) : am_go0 cl 100 56 [some (.inr (.inr (some x))), a1, a2, a3, a4, a5] st h = am_go0 cl 100 57 [some (.inr (.inr (some x))), a1, a2, a3, a4, a5] (.inr (.inr (some x)) :: st) h := am_r am_m100 d_100_56 rfl
theorem d_100_57 : am_code 100 57 = some (.getfield 74, 3) := by decide +kernel
theorem s_100_57 (cl : am_C) (ls : am_Ls) (st : List am_V) (N : Nat) (I : Nat → Int → Int) (L : Nat → Int → Int64) : am_go0 cl 100 57 ls (.inr (.inr (some 44)) :: st) (am_GS N, am_GR, I, L) = am_go0 cl 100 60 ls (.inr (.inr (some 41)) :: st) (am_GS N, am_GR, I, L) := am_rG2 am_m100 d_100_57 am_f7074 rfl (gs_44 N) (by decide) gr_44_6 rfl
theorem d_100_60 : am_code 100 60 = some (.iconst 1, 1) := by decide +kernel
theorem s_100_60 (cl : am_C) (ls : am_Ls) (st : List am_V) (h : am_H) : am_go0 cl 100 60 ls st h = am_go0 cl 100 61 ls (.inl 1 :: st) h := am_rK am_m100 d_100_60 (by decide) rfl _ _ _
theorem d_100_61 : am_code 100 61 = some (.iload_n 1, 1) := by decide +kernel
theorem s_100_61 (cl : am_C) (a0 a2 a3 a4 a5 : Option am_V) (x : Int) (st : List am_V) (h : am_H) : am_go0 cl 100 61 [a0, some (.inl x), a2, a3, a4, a5] st h = am_go0 cl 100 62 [a0, some (.inl x), a2, a3, a4, a5] (.inl x :: st) h := am_r am_m100 d_100_61 rfl
theorem d_100_62 : am_code 100 62 = some (.iload_n 2, 1) := by decide +kernel
theorem s_100_62 (cl : am_C) (a0 a1 a3 a4 a5 : Option am_V) (x : Int) (st : List am_V) (h : am_H) : am_go0 cl 100 62 [a0, a1, some (.inl x), a3, a4, a5] st h = am_go0 cl 100 63 [a0, a1, some (.inl x), a3, a4, a5] (.inl x :: st) h := am_r am_m100 d_100_62 rfl
theorem d_100_63 : am_code 100 63 = some (.invokevirtual 114, 3) := by decide +kernel
theorem s_100_63 (cl : am_C) (ls : am_Ls) (x0 : Int) (x1 : Int) (x2 : Int) (N : Nat) (I : Nat → Int → Int) (L : Nat → Int → Int64) : am_go0 cl 100 63 ls [.inl x2, .inl x1, .inl x0, .inr (.inr (some 41))] (am_GS N, am_GR, I, L) = am_bd (cl 61 [.inr (.inr (some 41)), .inl x0, .inl x1, .inl x2] (am_GS N, am_GR, I, L)) (fun v h2 => am_go0 cl 100 66 ls (v.toList ++ []) h2) := am_rV am_m100 d_100_63 am_k7114 rfl am_m61 (gs_41 N) (by decide) (Nat.le_of_ble_eq_true rfl) rfl ls
theorem d_100_66 : am_code 100 66 = some (.return_, 1) := by decide +kernel
theorem s_100_66 (cl : am_C) (ls : am_Ls) (h : am_H) : am_go0 cl 100 66 ls [] h = some (none, h) := am_rE am_m100 d_100_66 rfl
theorem d_100_67 : am_code 100 67 = some (.aload_n 0, 1) := by decide +kernel
theorem s_100_67 (cl : am_C) (a1 a2 a3 a4 a5 : Option am_V) (x : Nat) (st : List am_V) (h : am_H) : am_go0 cl 100 67 [some (.inr (.inr (some x))), a1, a2, a3, a4, a5] st h = am_go0 cl 100 68 [some (.inr (.inr (some x))), a1, a2, a3, a4, a5] (.inr (.inr (some x)) :: st) h := am_r am_m100 d_100_67 rfl
theorem d_100_68 : am_code 100 68 = some (.getfield 66, 3) := by decide +kernel
theorem s_100_68 (cl : am_C) (ls : am_Ls) (st : List am_V) (N : Nat) (I : Nat → Int → Int) (L : Nat → Int → Int64) : am_go0 cl 100 68 ls (.inr (.inr (some 44)) :: st) (am_GS N, am_GR, I, L) = am_go0 cl 100 71 ls (.inr (.inr (some 29)) :: st) (am_GS N, am_GR, I, L) := am_rG2 am_m100 d_100_68 am_f7066 rfl (gs_44 N) (by decide) gr_44_4 rfl
theorem d_100_71 : am_code 100 71 = some (.iload_n 1, 1) := by decide +kernel
theorem s_100_71 (cl : am_C) (a0 a2 a3 a4 a5 : Option am_V) (x : Int) (st : List am_V) (h : am_H) : am_go0 cl 100 71 [a0, some (.inl x), a2, a3, a4, a5] st h = am_go0 cl 100 72 [a0, some (.inl x), a2, a3, a4, a5] (.inl x :: st) h := am_r am_m100 d_100_71 rfl
theorem d_100_72 : am_code 100 72 = some (.iload_n 2, 1) := by decide +kernel
theorem s_100_72 (cl : am_C) (a0 a1 a3 a4 a5 : Option am_V) (x : Int) (st : List am_V) (h : am_H) : am_go0 cl 100 72 [a0, a1, some (.inl x), a3, a4, a5] st h = am_go0 cl 100 73 [a0, a1, some (.inl x), a3, a4, a5] (.inl x :: st) h := am_r am_m100 d_100_72 rfl
theorem d_100_73 : am_code 100 73 = some (.invokevirtual 144, 3) := by decide +kernel
theorem s_100_73 (cl : am_C) (ls : am_Ls) (x0 : Int) (x1 : Int) (N : Nat) (I : Nat → Int → Int) (L : Nat → Int → Int64) : am_go0 cl 100 73 ls [.inl x1, .inl x0, .inr (.inr (some 29))] (am_GS N, am_GR, I, L) = am_bd (cl 93 [.inr (.inr (some 29)), .inl x0, .inl x1] (am_GS N, am_GR, I, L)) (fun v h2 => am_go0 cl 100 76 ls (v.toList ++ []) h2) := am_rV am_m100 d_100_73 am_k7144 rfl am_m93 (gs_29 N) (by decide) (Nat.le_of_ble_eq_true rfl) rfl ls
theorem d_100_76 : am_code 100 76 = some (.aload_n 0, 1) := by decide +kernel
theorem s_100_76 (cl : am_C) (a1 a2 a3 a4 a5 : Option am_V) (x : Nat) (st : List am_V) (h : am_H) : am_go0 cl 100 76 [some (.inr (.inr (some x))), a1, a2, a3, a4, a5] st h = am_go0 cl 100 77 [some (.inr (.inr (some x))), a1, a2, a3, a4, a5] (.inr (.inr (some x)) :: st) h := am_r am_m100 d_100_76 rfl
theorem d_100_77 : am_code 100 77 = some (.getfield 13, 3) := by decide +kernel
theorem s_100_77 (cl : am_C) (ls : am_Ls) (st : List am_V) (N : Nat) (I : Nat → Int → Int) (L : Nat → Int → Int64) : am_go0 cl 100 77 ls (.inr (.inr (some 44)) :: st) (am_GS N, am_GR, I, L) = am_go0 cl 100 80 ls (.inr (.inr (some 45)) :: st) (am_GS N, am_GR, I, L) := am_rG2 am_m100 d_100_77 am_f7013 rfl (gs_44 N) (by decide) gr_44_7 rfl
theorem d_100_80 : am_code 100 80 = some (.aload_n 0, 1) := by decide +kernel
theorem s_100_80 (cl : am_C) (a1 a2 a3 a4 a5 : Option am_V) (x : Nat) (st : List am_V) (h : am_H) : am_go0 cl 100 80 [some (.inr (.inr (some x))), a1, a2, a3, a4, a5] st h = am_go0 cl 100 81 [some (.inr (.inr (some x))), a1, a2, a3, a4, a5] (.inr (.inr (some x)) :: st) h := am_r am_m100 d_100_80 rfl
theorem d_100_81 : am_code 100 81 = some (.getfield 29, 3) := by decide +kernel
theorem s_100_81 (cl : am_C) (ls : am_Ls) (st : List am_V) (N : Nat) (I : Nat → Int → Int) (L : Nat → Int → Int64) : am_go0 cl 100 81 ls (.inr (.inr (some 44)) :: st) (am_GS N, am_GR, I, L) = am_go0 cl 100 84 ls (.inl (I 44 12) :: st) (am_GS N, am_GR, I, L) := am_rG0 am_m100 d_100_81 am_f7029 rfl (gs_44 N) (by decide) rfl
theorem d_100_84 : am_code 100 84 = some (.iload_n 1, 1) := by decide +kernel
theorem s_100_84 (cl : am_C) (a0 a2 a3 a4 a5 : Option am_V) (x : Int) (st : List am_V) (h : am_H) : am_go0 cl 100 84 [a0, some (.inl x), a2, a3, a4, a5] st h = am_go0 cl 100 85 [a0, some (.inl x), a2, a3, a4, a5] (.inl x :: st) h := am_r am_m100 d_100_84 rfl
theorem d_100_85 : am_code 100 85 = some (.iastore, 1) := by decide +kernel
theorem s_100_85 (cl : am_C) (ls : am_Ls) (i : Int) (v : Int) (k : Nat) (st : List am_V) (N : Nat) (I : Nat → Int → Int) (L : Nat → Int → Int64) : am_go0 cl 100 85 ls (.inl v :: .inl i :: .inr (.inr (some k)) :: st) (am_GS N, am_GR, I, L) = if am_inb (am_GS N) k 0 i = true then am_go0 cl 100 86 ls st (am_GS N, am_GR, am_uI I k i v, L) else none := am_rS am_m100 d_100_85 rfl k ls st i v _ _ I L
theorem d_100_86 : am_code 100 86 = some (.aload_n 0, 1) := by decide +kernel
theorem s_100_86 (cl : am_C) (a1 a2 a3 a4 a5 : Option am_V) (x : Nat) (st : List am_V) (h : am_H) : am_go0 cl 100 86 [some (.inr (.inr (some x))), a1, a2, a3, a4, a5] st h = am_go0 cl 100 87 [some (.inr (.inr (some x))), a1, a2, a3, a4, a5] (.inr (.inr (some x)) :: st) h := am_r am_m100 d_100_86 rfl
theorem d_100_87 : am_code 100 87 = some (.getfield 17, 3) := by decide +kernel
theorem s_100_87 (cl : am_C) (ls : am_Ls) (st : List am_V) (N : Nat) (I : Nat → Int → Int) (L : Nat → Int → Int64) : am_go0 cl 100 87 ls (.inr (.inr (some 44)) :: st) (am_GS N, am_GR, I, L) = am_go0 cl 100 90 ls (.inr (.inr (some 46)) :: st) (am_GS N, am_GR, I, L) := am_rG2 am_m100 d_100_87 am_f7017 rfl (gs_44 N) (by decide) gr_44_8 rfl
theorem d_100_90 : am_code 100 90 = some (.aload_n 0, 1) := by decide +kernel
theorem s_100_90 (cl : am_C) (a1 a2 a3 a4 a5 : Option am_V) (x : Nat) (st : List am_V) (h : am_H) : am_go0 cl 100 90 [some (.inr (.inr (some x))), a1, a2, a3, a4, a5] st h = am_go0 cl 100 91 [some (.inr (.inr (some x))), a1, a2, a3, a4, a5] (.inr (.inr (some x)) :: st) h := am_r am_m100 d_100_90 rfl
theorem d_100_91 : am_code 100 91 = some (.getfield 29, 3) := by decide +kernel
theorem s_100_91 (cl : am_C) (ls : am_Ls) (st : List am_V) (N : Nat) (I : Nat → Int → Int) (L : Nat → Int → Int64) : am_go0 cl 100 91 ls (.inr (.inr (some 44)) :: st) (am_GS N, am_GR, I, L) = am_go0 cl 100 94 ls (.inl (I 44 12) :: st) (am_GS N, am_GR, I, L) := am_rG0 am_m100 d_100_91 am_f7029 rfl (gs_44 N) (by decide) rfl
theorem d_100_94 : am_code 100 94 = some (.iload_n 2, 1) := by decide +kernel
theorem s_100_94 (cl : am_C) (a0 a1 a3 a4 a5 : Option am_V) (x : Int) (st : List am_V) (h : am_H) : am_go0 cl 100 94 [a0, a1, some (.inl x), a3, a4, a5] st h = am_go0 cl 100 95 [a0, a1, some (.inl x), a3, a4, a5] (.inl x :: st) h := am_r am_m100 d_100_94 rfl
theorem d_100_95 : am_code 100 95 = some (.iastore, 1) := by decide +kernel
theorem s_100_95 (cl : am_C) (ls : am_Ls) (i : Int) (v : Int) (k : Nat) (st : List am_V) (N : Nat) (I : Nat → Int → Int) (L : Nat → Int → Int64) : am_go0 cl 100 95 ls (.inl v :: .inl i :: .inr (.inr (some k)) :: st) (am_GS N, am_GR, I, L) = if am_inb (am_GS N) k 0 i = true then am_go0 cl 100 96 ls st (am_GS N, am_GR, am_uI I k i v, L) else none := am_rS am_m100 d_100_95 rfl k ls st i v _ _ I L
theorem d_100_96 : am_code 100 96 = some (.aload_n 0, 1) := by decide +kernel
theorem s_100_96 (cl : am_C) (a1 a2 a3 a4 a5 : Option am_V) (x : Nat) (st : List am_V) (h : am_H) : am_go0 cl 100 96 [some (.inr (.inr (some x))), a1, a2, a3, a4, a5] st h = am_go0 cl 100 97 [some (.inr (.inr (some x))), a1, a2, a3, a4, a5] (.inr (.inr (some x)) :: st) h := am_r am_m100 d_100_96 rfl
theorem d_100_97 : am_code 100 97 = some (.getfield 20, 3) := by decide +kernel
theorem s_100_97 (cl : am_C) (ls : am_Ls) (st : List am_V) (N : Nat) (I : Nat → Int → Int) (L : Nat → Int → Int64) : am_go0 cl 100 97 ls (.inr (.inr (some 44)) :: st) (am_GS N, am_GR, I, L) = am_go0 cl 100 100 ls (.inr (.inr (some 47)) :: st) (am_GS N, am_GR, I, L) := am_rG2 am_m100 d_100_97 am_f7020 rfl (gs_44 N) (by decide) gr_44_9 rfl
theorem d_100_100 : am_code 100 100 = some (.aload_n 0, 1) := by decide +kernel
theorem s_100_100 (cl : am_C) (a1 a2 a3 a4 a5 : Option am_V) (x : Nat) (st : List am_V) (h : am_H) : am_go0 cl 100 100 [some (.inr (.inr (some x))), a1, a2, a3, a4, a5] st h = am_go0 cl 100 101 [some (.inr (.inr (some x))), a1, a2, a3, a4, a5] (.inr (.inr (some x)) :: st) h := am_r am_m100 d_100_100 rfl
theorem d_100_101 : am_code 100 101 = some (.getfield 29, 3) := by decide +kernel
theorem s_100_101 (cl : am_C) (ls : am_Ls) (st : List am_V) (N : Nat) (I : Nat → Int → Int) (L : Nat → Int → Int64) : am_go0 cl 100 101 ls (.inr (.inr (some 44)) :: st) (am_GS N, am_GR, I, L) = am_go0 cl 100 104 ls (.inl (I 44 12) :: st) (am_GS N, am_GR, I, L) := am_rG0 am_m100 d_100_101 am_f7029 rfl (gs_44 N) (by decide) rfl
theorem d_100_104 : am_code 100 104 = some (.iload_n 3, 1) := by decide +kernel
theorem s_100_104 (cl : am_C) (a0 a1 a2 a4 a5 : Option am_V) (x : Int) (st : List am_V) (h : am_H) : am_go0 cl 100 104 [a0, a1, a2, some (.inl x), a4, a5] st h = am_go0 cl 100 105 [a0, a1, a2, some (.inl x), a4, a5] (.inl x :: st) h := am_r am_m100 d_100_104 rfl
theorem d_100_105 : am_code 100 105 = some (.iconst (-1), 1) := by decide +kernel
theorem s_100_105 (cl : am_C) (ls : am_Ls) (st : List am_V) (h : am_H) : am_go0 cl 100 105 ls st h = am_go0 cl 100 106 ls (.inl (-1) :: st) h := am_rK am_m100 d_100_105 (by decide) rfl _ _ _
theorem d_100_106 : am_code 100 106 = some (.if_icmp .eq 16, 3) := by decide +kernel
theorem s_100_106 (cl : am_C) (ls : am_Ls) (x y : Int) (st : List am_V) (h : am_H) : am_go0 cl 100 106 ls (.inl y :: .inl x :: st) h = if x = y then am_go0 cl 100 122 ls st h else am_go0 cl 100 109 ls st h := (am_rJ0 am_m100 d_100_106 (by decide) rfl x y ls st h).trans (am_ifT (am_cmp_eq x y) _ _)
theorem d_100_109 : am_code 100 109 = some (.aload_n 0, 1) := by decide +kernel
theorem s_100_109 (cl : am_C) (a1 a2 a3 a4 a5 : Option am_V) (x : Nat) (st : List am_V) (h : am_H) : am_go0 cl 100 109 [some (.inr (.inr (some x))), a1, a2, a3, a4, a5] st h = am_go0 cl 100 110 [some (.inr (.inr (some x))), a1, a2, a3, a4, a5] (.inr (.inr (some x)) :: st) h := am_r am_m100 d_100_109 rfl
theorem d_100_110 : am_code 100 110 = some (.getfield 50, 3) := by decide +kernel
theorem s_100_110 (cl : am_C) (ls : am_Ls) (st : List am_V) (N : Nat) (I : Nat → Int → Int) (L : Nat → Int → Int64) : am_go0 cl 100 110 ls (.inr (.inr (some 44)) :: st) (am_GS N, am_GR, I, L) = am_go0 cl 100 113 ls (.inr (.inr (some 2)) :: st) (am_GS N, am_GR, I, L) := am_rG2 am_m100 d_100_110 am_f7050 rfl (gs_44 N) (by decide) gr_44_0 rfl
theorem d_100_113 : am_code 100 113 = some (.iload 5, 2) := by decide +kernel
theorem s_100_113 (cl : am_C) (a0 a1 a2 a3 a4 : Option am_V) (x : Int) (st : List am_V) (h : am_H) : am_go0 cl 100 113 [a0, a1, a2, a3, a4, some (.inl x)] st h = am_go0 cl 100 115 [a0, a1, a2, a3, a4, some (.inl x)] (.inl x :: st) h := am_r am_m100 d_100_113 rfl
theorem d_100_115 : am_code 100 115 = some (.iconst 0, 1) := by decide +kernel
theorem s_100_115 (cl : am_C) (ls : am_Ls) (st : List am_V) (h : am_H) : am_go0 cl 100 115 ls st h = am_go0 cl 100 116 ls (.inl 0 :: st) h := am_rK am_m100 d_100_115 (by decide) rfl _ _ _
theorem d_100_116 : am_code 100 116 = some (.invokevirtual 147, 3) := by decide +kernel
theorem s_100_116 (cl : am_C) (ls : am_Ls) (x0 : Int) (x1 : Int) (z0 : Int) (z1 : Nat) (N : Nat) (I : Nat → Int → Int) (L : Nat → Int → Int64) : am_go0 cl 100 116 ls [.inl x1, .inl x0, .inr (.inr (some 2)), .inl z0, .inr (.inr (some z1))] (am_GS N, am_GR, I, L) = am_bd (cl 80 [.inr (.inr (some 2)), .inl x0, .inl x1] (am_GS N, am_GR, I, L)) (fun v h2 => am_go0 cl 100 119 ls (v.toList ++ [.inl z0, .inr (.inr (some z1))]) h2) := am_rV am_m100 d_100_116 am_k7147 rfl am_m80 (gs_2 N) (by decide) (Nat.le_of_ble_eq_true rfl) rfl ls
theorem d_100_119 : am_code 100 119 = some (.goto 5, 3) := by decide +kernel
theorem s_100_119 (cl : am_C) (ls : am_Ls) (st : List am_V) (h : am_H) : am_go0 cl 100 119 ls st h = am_go0 cl 100 124 ls st h := am_rGo am_m100 d_100_119 (by decide) _ _ _
theorem d_100_122 : am_code 100 122 = some (.iload 5, 2) := by decide +kernel
theorem s_100_122 (cl : am_C) (a0 a1 a2 a3 a4 : Option am_V) (x : Int) (st : List am_V) (h : am_H) : am_go0 cl 100 122 [a0, a1, a2, a3, a4, some (.inl x)] st h = am_go0 cl 100 124 [a0, a1, a2, a3, a4, some (.inl x)] (.inl x :: st) h := am_r am_m100 d_100_122 rfl
theorem d_100_124 : am_code 100 124 = some (.iastore, 1) := by decide +kernel
theorem s_100_124 (cl : am_C) (ls : am_Ls) (i : Int) (v : Int) (k : Nat) (st : List am_V) (N : Nat) (I : Nat → Int → Int) (L : Nat → Int → Int64) : am_go0 cl 100 124 ls (.inl v :: .inl i :: .inr (.inr (some k)) :: st) (am_GS N, am_GR, I, L) = if am_inb (am_GS N) k 0 i = true then am_go0 cl 100 125 ls st (am_GS N, am_GR, am_uI I k i v, L) else none := am_rS am_m100 d_100_124 rfl k ls st i v _ _ I L
theorem d_100_125 : am_code 100 125 = some (.aload_n 0, 1) := by decide +kernel
theorem s_100_125 (cl : am_C) (a1 a2 a3 a4 a5 : Option am_V) (x : Nat) (st : List am_V) (h : am_H) : am_go0 cl 100 125 [some (.inr (.inr (some x))), a1, a2, a3, a4, a5] st h = am_go0 cl 100 126 [some (.inr (.inr (some x))), a1, a2, a3, a4, a5] (.inr (.inr (some x)) :: st) h := am_r am_m100 d_100_125 rfl
theorem d_100_126 : am_code 100 126 = some (.getfield 23, 3) := by decide +kernel
theorem s_100_126 (cl : am_C) (ls : am_Ls) (st : List am_V) (N : Nat) (I : Nat → Int → Int) (L : Nat → Int → Int64) : am_go0 cl 100 126 ls (.inr (.inr (some 44)) :: st) (am_GS N, am_GR, I, L) = am_go0 cl 100 129 ls (.inr (.inr (some 48)) :: st) (am_GS N, am_GR, I, L) := am_rG2 am_m100 d_100_126 am_f7023 rfl (gs_44 N) (by decide) gr_44_10 rfl
theorem d_100_129 : am_code 100 129 = some (.aload_n 0, 1) := by decide +kernel
theorem s_100_129 (cl : am_C) (a1 a2 a3 a4 a5 : Option am_V) (x : Nat) (st : List am_V) (h : am_H) : am_go0 cl 100 129 [some (.inr (.inr (some x))), a1, a2, a3, a4, a5] st h = am_go0 cl 100 130 [some (.inr (.inr (some x))), a1, a2, a3, a4, a5] (.inr (.inr (some x)) :: st) h := am_r am_m100 d_100_129 rfl
theorem d_100_130 : am_code 100 130 = some (.getfield 29, 3) := by decide +kernel
theorem s_100_130 (cl : am_C) (ls : am_Ls) (st : List am_V) (N : Nat) (I : Nat → Int → Int) (L : Nat → Int → Int64) : am_go0 cl 100 130 ls (.inr (.inr (some 44)) :: st) (am_GS N, am_GR, I, L) = am_go0 cl 100 133 ls (.inl (I 44 12) :: st) (am_GS N, am_GR, I, L) := am_rG0 am_m100 d_100_130 am_f7029 rfl (gs_44 N) (by decide) rfl
theorem d_100_133 : am_code 100 133 = some (.iload_n 3, 1) := by decide +kernel
theorem s_100_133 (cl : am_C) (a0 a1 a2 a4 a5 : Option am_V) (x : Int) (st : List am_V) (h : am_H) : am_go0 cl 100 133 [a0, a1, a2, some (.inl x), a4, a5] st h = am_go0 cl 100 134 [a0, a1, a2, some (.inl x), a4, a5] (.inl x :: st) h := am_r am_m100 d_100_133 rfl
theorem d_100_134 : am_code 100 134 = some (.iconst (-1), 1) := by decide +kernel
theorem s_100_134 (cl : am_C) (ls : am_Ls) (st : List am_V) (h : am_H) : am_go0 cl 100 134 ls st h = am_go0 cl 100 135 ls (.inl (-1) :: st) h := am_rK am_m100 d_100_134 (by decide) rfl _ _ _
theorem d_100_135 : am_code 100 135 = some (.if_icmp .eq 16, 3) := by decide +kernel
theorem s_100_135 (cl : am_C) (ls : am_Ls) (x y : Int) (st : List am_V) (h : am_H) : am_go0 cl 100 135 ls (.inl y :: .inl x :: st) h = if x = y then am_go0 cl 100 151 ls st h else am_go0 cl 100 138 ls st h := (am_rJ0 am_m100 d_100_135 (by decide) rfl x y ls st h).trans (am_ifT (am_cmp_eq x y) _ _)
theorem d_100_138 : am_code 100 138 = some (.aload_n 0, 1) := by decide +kernel
theorem s_100_138 (cl : am_C) (a1 a2 a3 a4 a5 : Option am_V) (x : Nat) (st : List am_V) (h : am_H) : am_go0 cl 100 138 [some (.inr (.inr (some x))), a1, a2, a3, a4, a5] st h = am_go0 cl 100 139 [some (.inr (.inr (some x))), a1, a2, a3, a4, a5] (.inr (.inr (some x)) :: st) h := am_r am_m100 d_100_138 rfl
theorem d_100_139 : am_code 100 139 = some (.getfield 50, 3) := by decide +kernel
theorem s_100_139 (cl : am_C) (ls : am_Ls) (st : List am_V) (N : Nat) (I : Nat → Int → Int) (L : Nat → Int → Int64) : am_go0 cl 100 139 ls (.inr (.inr (some 44)) :: st) (am_GS N, am_GR, I, L) = am_go0 cl 100 142 ls (.inr (.inr (some 2)) :: st) (am_GS N, am_GR, I, L) := am_rG2 am_m100 d_100_139 am_f7050 rfl (gs_44 N) (by decide) gr_44_0 rfl
theorem d_100_142 : am_code 100 142 = some (.iload 5, 2) := by decide +kernel
theorem s_100_142 (cl : am_C) (a0 a1 a2 a3 a4 : Option am_V) (x : Int) (st : List am_V) (h : am_H) : am_go0 cl 100 142 [a0, a1, a2, a3, a4, some (.inl x)] st h = am_go0 cl 100 144 [a0, a1, a2, a3, a4, some (.inl x)] (.inl x :: st) h := am_r am_m100 d_100_142 rfl
theorem d_100_144 : am_code 100 144 = some (.iconst 1, 1) := by decide +kernel
theorem s_100_144 (cl : am_C) (ls : am_Ls) (st : List am_V) (h : am_H) : am_go0 cl 100 144 ls st h = am_go0 cl 100 145 ls (.inl 1 :: st) h := am_rK am_m100 d_100_144 (by decide) rfl _ _ _
theorem d_100_145 : am_code 100 145 = some (.invokevirtual 147, 3) := by decide +kernel
theorem s_100_145 (cl : am_C) (ls : am_Ls) (x0 : Int) (x1 : Int) (z0 : Int) (z1 : Nat) (N : Nat) (I : Nat → Int → Int) (L : Nat → Int → Int64) : am_go0 cl 100 145 ls [.inl x1, .inl x0, .inr (.inr (some 2)), .inl z0, .inr (.inr (some z1))] (am_GS N, am_GR, I, L) = am_bd (cl 80 [.inr (.inr (some 2)), .inl x0, .inl x1] (am_GS N, am_GR, I, L)) (fun v h2 => am_go0 cl 100 148 ls (v.toList ++ [.inl z0, .inr (.inr (some z1))]) h2) := am_rV am_m100 d_100_145 am_k7147 rfl am_m80 (gs_2 N) (by decide) (Nat.le_of_ble_eq_true rfl) rfl ls
theorem d_100_148 : am_code 100 148 = some (.goto 4, 3) := by decide +kernel
theorem s_100_148 (cl : am_C) (ls : am_Ls) (st : List am_V) (h : am_H) : am_go0 cl 100 148 ls st h = am_go0 cl 100 152 ls st h := am_rGo am_m100 d_100_148 (by decide) _ _ _
theorem d_100_151 : am_code 100 151 = some (.iconst (-1), 1) := by decide +kernel
theorem s_100_151 (cl : am_C) (ls : am_Ls) (st : List am_V) (h : am_H) : am_go0 cl 100 151 ls st h = am_go0 cl 100 152 ls (.inl (-1) :: st) h := am_rK am_m100 d_100_151 (by decide) rfl _ _ _
theorem d_100_152 : am_code 100 152 = some (.iastore, 1) := by decide +kernel
theorem s_100_152 (cl : am_C) (ls : am_Ls) (i : Int) (v : Int) (k : Nat) (st : List am_V) (N : Nat) (I : Nat → Int → Int) (L : Nat → Int → Int64) : am_go0 cl 100 152 ls (.inl v :: .inl i :: .inr (.inr (some k)) :: st) (am_GS N, am_GR, I, L) = if am_inb (am_GS N) k 0 i = true then am_go0 cl 100 153 ls st (am_GS N, am_GR, am_uI I k i v, L) else none := am_rS am_m100 d_100_152 rfl k ls st i v _ _ I L
theorem d_100_153 : am_code 100 153 = some (.aload_n 0, 1) := by decide +kernel
theorem s_100_153 (cl : am_C) (a1 a2 a3 a4 a5 : Option am_V) (x : Nat) (st : List am_V) (h : am_H) : am_go0 cl 100 153 [some (.inr (.inr (some x))), a1, a2, a3, a4, a5] st h = am_go0 cl 100 154 [some (.inr (.inr (some x))), a1, a2, a3, a4, a5] (.inr (.inr (some x)) :: st) h := am_r am_m100 d_100_153 rfl
theorem d_100_154 : am_code 100 154 = some (.getfield 26, 3) := by decide +kernel
theorem s_100_154 (cl : am_C) (ls : am_Ls) (st : List am_V) (N : Nat) (I : Nat → Int → Int) (L : Nat → Int → Int64) : am_go0 cl 100 154 ls (.inr (.inr (some 44)) :: st) (am_GS N, am_GR, I, L) = am_go0 cl 100 157 ls (.inr (.inr (some 49)) :: st) (am_GS N, am_GR, I, L) := am_rG2 am_m100 d_100_154 am_f7026 rfl (gs_44 N) (by decide) gr_44_11 rfl
theorem d_100_157 : am_code 100 157 = some (.aload_n 0, 1) := by decide +kernel
theorem s_100_157 (cl : am_C) (a1 a2 a3 a4 a5 : Option am_V) (x : Nat) (st : List am_V) (h : am_H) : am_go0 cl 100 157 [some (.inr (.inr (some x))), a1, a2, a3, a4, a5] st h = am_go0 cl 100 158 [some (.inr (.inr (some x))), a1, a2, a3, a4, a5] (.inr (.inr (some x)) :: st) h := am_r am_m100 d_100_157 rfl
theorem d_100_158 : am_code 100 158 = some (.getfield 29, 3) := by decide +kernel
theorem s_100_158 (cl : am_C) (ls : am_Ls) (st : List am_V) (N : Nat) (I : Nat → Int → Int) (L : Nat → Int → Int64) : am_go0 cl 100 158 ls (.inr (.inr (some 44)) :: st) (am_GS N, am_GR, I, L) = am_go0 cl 100 161 ls (.inl (I 44 12) :: st) (am_GS N, am_GR, I, L) := am_rG0 am_m100 d_100_158 am_f7029 rfl (gs_44 N) (by decide) rfl
theorem d_100_161 : am_code 100 161 = some (.aload_n 0, 1) := by decide +kernel
theorem s_100_161 (cl : am_C) (a1 a2 a3 a4 a5 : Option am_V) (x : Nat) (st : List am_V) (h : am_H) : am_go0 cl 100 161 [some (.inr (.inr (some x))), a1, a2, a3, a4, a5] st h = am_go0 cl 100 162 [some (.inr (.inr (some x))), a1, a2, a3, a4, a5] (.inr (.inr (some x)) :: st) h := am_r am_m100 d_100_161 rfl
theorem d_100_162 : am_code 100 162 = some (.getfield 43, 3) := by decide +kernel
theorem s_100_162 (cl : am_C) (ls : am_Ls) (st : List am_V) (N : Nat) (I : Nat → Int → Int) (L : Nat → Int → Int64) : am_go0 cl 100 162 ls (.inr (.inr (some 44)) :: st) (am_GS N, am_GR, I, L) = am_go0 cl 100 165 ls (.inl (I 44 16) :: st) (am_GS N, am_GR, I, L) := am_rG0 am_m100 d_100_162 am_f7043 rfl (gs_44 N) (by decide) rfl
theorem d_100_165 : am_code 100 165 = some (.iastore, 1) := by decide +kernel
theorem s_100_165 (cl : am_C) (ls : am_Ls) (i : Int) (v : Int) (k : Nat) (st : List am_V) (N : Nat) (I : Nat → Int → Int) (L : Nat → Int → Int64) : am_go0 cl 100 165 ls (.inl v :: .inl i :: .inr (.inr (some k)) :: st) (am_GS N, am_GR, I, L) = if am_inb (am_GS N) k 0 i = true then am_go0 cl 100 166 ls st (am_GS N, am_GR, am_uI I k i v, L) else none := am_rS am_m100 d_100_165 rfl k ls st i v _ _ I L
theorem d_100_166 : am_code 100 166 = some (.aload_n 0, 1) := by decide +kernel
theorem s_100_166 (cl : am_C) (a1 a2 a3 a4 a5 : Option am_V) (x : Nat) (st : List am_V) (h : am_H) : am_go0 cl 100 166 [some (.inr (.inr (some x))), a1, a2, a3, a4, a5] st h = am_go0 cl 100 167 [some (.inr (.inr (some x))), a1, a2, a3, a4, a5] (.inr (.inr (some x)) :: st) h := am_r am_m100 d_100_166 rfl
theorem d_100_167 : am_code 100 167 = some (.dup, 1) := by decide +kernel
theorem s_100_167 (cl : am_C) (ls : am_Ls) (x : Nat) (st : List am_V) (h : am_H) : am_go0 cl 100 167 ls (.inr (.inr (some x)) :: st) h = am_go0 cl 100 168 ls (.inr (.inr (some x)) :: .inr (.inr (some x)) :: st) h := am_r am_m100 d_100_167 rfl
theorem d_100_168 : am_code 100 168 = some (.getfield 29, 3) := by decide +kernel
theorem s_100_168 (cl : am_C) (ls : am_Ls) (st : List am_V) (N : Nat) (I : Nat → Int → Int) (L : Nat → Int → Int64) : am_go0 cl 100 168 ls (.inr (.inr (some 44)) :: st) (am_GS N, am_GR, I, L) = am_go0 cl 100 171 ls (.inl (I 44 12) :: st) (am_GS N, am_GR, I, L) := am_rG0 am_m100 d_100_168 am_f7029 rfl (gs_44 N) (by decide) rfl
theorem d_100_171 : am_code 100 171 = some (.iconst 1, 1) := by decide +kernel
theorem s_100_171 (cl : am_C) (ls : am_Ls) (st : List am_V) (h : am_H) : am_go0 cl 100 171 ls st h = am_go0 cl 100 172 ls (.inl 1 :: st) h := am_rK am_m100 d_100_171 (by decide) rfl _ _ _
theorem d_100_172 : am_code 100 172 = some (.iadd, 1) := by decide +kernel
theorem s_100_172 (cl : am_C) (ls : am_Ls) (x y : Int) (st : List am_V) (h : am_H) : am_go0 cl 100 172 ls (.inl y :: .inl x :: st) h = am_go0 cl 100 173 ls (.inl (am_wr (x + y)) :: st) h := am_r am_m100 d_100_172 rfl
theorem d_100_173 : am_code 100 173 = some (.putfield 29, 3) := by decide +kernel
theorem s_100_173 (cl : am_C) (ls : am_Ls) (v : Int) (st : List am_V) (N : Nat) (I : Nat → Int → Int) (L : Nat → Int → Int64) : am_go0 cl 100 173 ls (.inl v :: .inr (.inr (some 44)) :: st) (am_GS N, am_GR, I, L) = am_go0 cl 100 176 ls st (am_GS N, am_GR, am_uI I 44 12 v, L) := am_rP0 am_m100 d_100_173 am_f7029 rfl (gs_44 N) (by decide) rfl
theorem d_100_176 : am_code 100 176 = some (.aload_n 0, 1) := by decide +kernel
theorem s_100_176 (cl : am_C) (a1 a2 a3 a4 a5 : Option am_V) (x : Nat) (st : List am_V) (h : am_H) : am_go0 cl 100 176 [some (.inr (.inr (some x))), a1, a2, a3, a4, a5] st h = am_go0 cl 100 177 [some (.inr (.inr (some x))), a1, a2, a3, a4, a5] (.inr (.inr (some x)) :: st) h := am_r am_m100 d_100_176 rfl
theorem d_100_177 : am_code 100 177 = some (.iload_n 3, 1) := by decide +kernel
theorem s_100_177 (cl : am_C) (a0 a1 a2 a4 a5 : Option am_V) (x : Int) (st : List am_V) (h : am_H) : am_go0 cl 100 177 [a0, a1, a2, some (.inl x), a4, a5] st h = am_go0 cl 100 178 [a0, a1, a2, some (.inl x), a4, a5] (.inl x :: st) h := am_r am_m100 d_100_177 rfl
theorem d_100_178 : am_code 100 178 = some (.iconst (-1), 1) := by decide +kernel
theorem s_100_178 (cl : am_C) (ls : am_Ls) (st : List am_V) (h : am_H) : am_go0 cl 100 178 ls st h = am_go0 cl 100 179 ls (.inl (-1) :: st) h := am_rK am_m100 d_100_178 (by decide) rfl _ _ _
theorem d_100_179 : am_code 100 179 = some (.if_icmp .eq 7, 3) := by decide +kernel
theorem s_100_179 (cl : am_C) (ls : am_Ls) (x y : Int) (st : List am_V) (h : am_H) : am_go0 cl 100 179 ls (.inl y :: .inl x :: st) h = if x = y then am_go0 cl 100 186 ls st h else am_go0 cl 100 182 ls st h := (am_rJ0 am_m100 d_100_179 (by decide) rfl x y ls st h).trans (am_ifT (am_cmp_eq x y) _ _)
theorem d_100_182 : am_code 100 182 = some (.iload_n 3, 1) := by decide +kernel
theorem s_100_182 (cl : am_C) (a0 a1 a2 a4 a5 : Option am_V) (x : Int) (st : List am_V) (h : am_H) : am_go0 cl 100 182 [a0, a1, a2, some (.inl x), a4, a5] st h = am_go0 cl 100 183 [a0, a1, a2, some (.inl x), a4, a5] (.inl x :: st) h := am_r am_m100 d_100_182 rfl
theorem d_100_183 : am_code 100 183 = some (.goto 5, 3) := by decide +kernel
theorem s_100_183 (cl : am_C) (ls : am_Ls) (st : List am_V) (h : am_H) : am_go0 cl 100 183 ls st h = am_go0 cl 100 188 ls st h := am_rGo am_m100 d_100_183 (by decide) _ _ _
theorem d_100_186 : am_code 100 186 = some (.iload 4, 2) := by decide +kernel
theorem s_100_186 (cl : am_C) (a0 a1 a2 a3 a5 : Option am_V) (x : Int) (st : List am_V) (h : am_H) : am_go0 cl 100 186 [a0, a1, a2, a3, some (.inl x), a5] st h = am_go0 cl 100 188 [a0, a1, a2, a3, some (.inl x), a5] (.inl x :: st) h := am_r am_m100 d_100_186 rfl
theorem d_100_188 : am_code 100 188 = some (.invokevirtual 152, 3) := by decide +kernel
theorem s_100_188 (cl : am_C) (ls : am_Ls) (x0 : Int) (N : Nat) (I : Nat → Int → Int) (L : Nat → Int → Int64) : am_go0 cl 100 188 ls [.inl x0, .inr (.inr (some 44))] (am_GS N, am_GR, I, L) = am_bd (cl 101 [.inr (.inr (some 44)), .inl x0] (am_GS N, am_GR, I, L)) (fun v h2 => am_go0 cl 100 191 ls (v.toList ++ []) h2) := am_rV am_m100 d_100_188 am_k7152 rfl am_m101 (gs_44 N) (by decide) (Nat.le_of_ble_eq_true rfl) rfl ls
theorem d_100_191 : am_code 100 191 = some (.return_, 1) := by decide +kernel
theorem s_100_191 (cl : am_C) (ls : am_Ls) (h : am_H) : am_go0 cl 100 191 ls [] h = some (none, h) := am_rE am_m100 d_100_191 rfl
theorem e_100 (d : Nat) (t : Nat) (p0 : Int) (p1 : Int) (h : am_H) : am_call (d + 1) 100 [.inr (.inr (some t)), .inl p0, .inl p1] h = am_go0 (am_call d) 100 0 [some (.inr (.inr (some t))), some (.inl p0), some (.inl p1), none, none, none] [] h := am_callE am_m100 (Nat.le_of_ble_eq_true rfl) rfl
theorem d_101_0 : am_code 101 0 = some (.aload_n 0, 1) := by decide +kernel
theorem s_101_0 (cl : am_C) (a1 : Option am_V) (x : Nat) (st : List am_V) (h : am_H) : am_go0 cl 101 0 [some (.inr (.inr (some x))), a1] st h = am_go0 cl 101 1 [some (.inr (.inr (some x))), a1] (.inr (.inr (some x)) :: st) h := am_r am_m101 d_101_0 rfl
theorem d_101_1 : am_code 101 1 = some (.getfield 33, 3) := by decide +kernel
theorem s_101_1 (cl : am_C) (ls : am_Ls) (st : List am_V) (N : Nat) (I : Nat → Int → Int) (L : Nat → Int → Int64) : am_go0 cl 101 1 ls (.inr (.inr (some 44)) :: st) (am_GS N, am_GR, I, L) = am_go0 cl 101 4 ls (.inr (.inr (some 50)) :: st) (am_GS N, am_GR, I, L) := am_rG2 am_m101 d_101_1 am_f7033 rfl (gs_44 N) (by decide) gr_44_13 rfl
theorem d_101_4 : am_code 101 4 = some (.aload_n 0, 1) := by decide +kernel
theorem s_101_4 (cl : am_C) (a1 : Option am_V) (x : Nat) (st : List am_V) (h : am_H) : am_go0 cl 101 4 [some (.inr (.inr (some x))), a1] st h = am_go0 cl 101 5 [some (.inr (.inr (some x))), a1] (.inr (.inr (some x)) :: st) h := am_r am_m101 d_101_4 rfl
theorem d_101_5 : am_code 101 5 = some (.getfield 43, 3) := by decide +kernel
theorem s_101_5 (cl : am_C) (ls : am_Ls) (st : List am_V) (N : Nat) (I : Nat → Int → Int) (L : Nat → Int → Int64) : am_go0 cl 101 5 ls (.inr (.inr (some 44)) :: st) (am_GS N, am_GR, I, L) = am_go0 cl 101 8 ls (.inl (I 44 16) :: st) (am_GS N, am_GR, I, L) := am_rG0 am_m101 d_101_5 am_f7043 rfl (gs_44 N) (by decide) rfl
theorem d_101_8 : am_code 101 8 = some (.iload_n 1, 1) := by decide +kernel
theorem s_101_8 (cl : am_C) (a0 : Option am_V) (x : Int) (st : List am_V) (h : am_H) : am_go0 cl 101 8 [a0, some (.inl x)] st h = am_go0 cl 101 9 [a0, some (.inl x)] (.inl x :: st) h := am_r am_m101 d_101_8 rfl
theorem d_101_9 : am_code 101 9 = some (.iastore, 1) := by decide +kernel
theorem s_101_9 (cl : am_C) (ls : am_Ls) (i : Int) (v : Int) (k : Nat) (st : List am_V) (N : Nat) (I : Nat → Int → Int) (L : Nat → Int → Int64) : am_go0 cl 101 9 ls (.inl v :: .inl i :: .inr (.inr (some k)) :: st) (am_GS N, am_GR, I, L) = if am_inb (am_GS N) k 0 i = true then am_go0 cl 101 10 ls st (am_GS N, am_GR, am_uI I k i v, L) else none := am_rS am_m101 d_101_9 rfl k ls st i v _ _ I L
theorem d_101_10 : am_code 101 10 = some (.aload_n 0, 1) := by decide +kernel
theorem s_101_10 (cl : am_C) (a1 : Option am_V) (x : Nat) (st : List am_V) (h : am_H) : am_go0 cl 101 10 [some (.inr (.inr (some x))), a1] st h = am_go0 cl 101 11 [some (.inr (.inr (some x))), a1] (.inr (.inr (some x)) :: st) h := am_r am_m101 d_101_10 rfl
theorem d_101_11 : am_code 101 11 = some (.getfield 36, 3) := by decide +kernel
theorem s_101_11 (cl : am_C) (ls : am_Ls) (st : List am_V) (N : Nat) (I : Nat → Int → Int) (L : Nat → Int → Int64) : am_go0 cl 101 11 ls (.inr (.inr (some 44)) :: st) (am_GS N, am_GR, I, L) = am_go0 cl 101 14 ls (.inr (.inr (some 51)) :: st) (am_GS N, am_GR, I, L) := am_rG2 am_m101 d_101_11 am_f7036 rfl (gs_44 N) (by decide) gr_44_14 rfl
theorem d_101_14 : am_code 101 14 = some (.aload_n 0, 1) := by decide +kernel
theorem s_101_14 (cl : am_C) (a1 : Option am_V) (x : Nat) (st : List am_V) (h : am_H) : am_go0 cl 101 14 [some (.inr (.inr (some x))), a1] st h = am_go0 cl 101 15 [some (.inr (.inr (some x))), a1] (.inr (.inr (some x)) :: st) h := am_r am_m101 d_101_14 rfl
theorem d_101_15 : am_code 101 15 = some (.getfield 43, 3) := by decide +kernel
theorem s_101_15 (cl : am_C) (ls : am_Ls) (st : List am_V) (N : Nat) (I : Nat → Int → Int) (L : Nat → Int → Int64) : am_go0 cl 101 15 ls (.inr (.inr (some 44)) :: st) (am_GS N, am_GR, I, L) = am_go0 cl 101 18 ls (.inl (I 44 16) :: st) (am_GS N, am_GR, I, L) := am_rG0 am_m101 d_101_15 am_f7043 rfl (gs_44 N) (by decide) rfl
theorem d_101_18 : am_code 101 18 = some (.iconst 0, 1) := by decide +kernel
theorem s_101_18 (cl : am_C) (ls : am_Ls) (st : List am_V) (h : am_H) : am_go0 cl 101 18 ls st h = am_go0 cl 101 19 ls (.inl 0 :: st) h := am_rK am_m101 d_101_18 (by decide) rfl _ _ _
theorem d_101_19 : am_code 101 19 = some (.iastore, 1) := by decide +kernel
theorem s_101_19 (cl : am_C) (ls : am_Ls) (i : Int) (v : Int) (k : Nat) (st : List am_V) (N : Nat) (I : Nat → Int → Int) (L : Nat → Int → Int64) : am_go0 cl 101 19 ls (.inl v :: .inl i :: .inr (.inr (some k)) :: st) (am_GS N, am_GR, I, L) = if am_inb (am_GS N) k 0 i = true then am_go0 cl 101 20 ls st (am_GS N, am_GR, am_uI I k i v, L) else none := am_rS am_m101 d_101_19 rfl k ls st i v _ _ I L
theorem d_101_20 : am_code 101 20 = some (.aload_n 0, 1) := by decide +kernel
theorem s_101_20 (cl : am_C) (a1 : Option am_V) (x : Nat) (st : List am_V) (h : am_H) : am_go0 cl 101 20 [some (.inr (.inr (some x))), a1] st h = am_go0 cl 101 21 [some (.inr (.inr (some x))), a1] (.inr (.inr (some x)) :: st) h := am_r am_m101 d_101_20 rfl
theorem d_101_21 : am_code 101 21 = some (.dup, 1) := by decide +kernel
theorem s_101_21 (cl : am_C) (ls : am_Ls) (x : Nat) (st : List am_V) (h : am_H) : am_go0 cl 101 21 ls (.inr (.inr (some x)) :: st) h = am_go0 cl 101 22 ls (.inr (.inr (some x)) :: .inr (.inr (some x)) :: st) h := am_r am_m101 d_101_21 rfl
theorem d_101_22 : am_code 101 22 = some (.getfield 43, 3) := by decide +kernel
theorem s_101_22 (cl : am_C) (ls : am_Ls) (st : List am_V) (N : Nat) (I : Nat → Int → Int) (L : Nat → Int → Int64) : am_go0 cl 101 22 ls (.inr (.inr (some 44)) :: st) (am_GS N, am_GR, I, L) = am_go0 cl 101 25 ls (.inl (I 44 16) :: st) (am_GS N, am_GR, I, L) := am_rG0 am_m101 d_101_22 am_f7043 rfl (gs_44 N) (by decide) rfl
theorem d_101_25 : am_code 101 25 = some (.iconst 1, 1) := by decide +kernel
theorem s_101_25 (cl : am_C) (ls : am_Ls) (st : List am_V) (h : am_H) : am_go0 cl 101 25 ls st h = am_go0 cl 101 26 ls (.inl 1 :: st) h := am_rK am_m101 d_101_25 (by decide) rfl _ _ _
theorem d_101_26 : am_code 101 26 = some (.iadd, 1) := by decide +kernel
theorem s_101_26 (cl : am_C) (ls : am_Ls) (x y : Int) (st : List am_V) (h : am_H) : am_go0 cl 101 26 ls (.inl y :: .inl x :: st) h = am_go0 cl 101 27 ls (.inl (am_wr (x + y)) :: st) h := am_r am_m101 d_101_26 rfl
theorem d_101_27 : am_code 101 27 = some (.putfield 43, 3) := by decide +kernel
theorem s_101_27 (cl : am_C) (ls : am_Ls) (v : Int) (st : List am_V) (N : Nat) (I : Nat → Int → Int) (L : Nat → Int → Int64) : am_go0 cl 101 27 ls (.inl v :: .inr (.inr (some 44)) :: st) (am_GS N, am_GR, I, L) = am_go0 cl 101 30 ls st (am_GS N, am_GR, am_uI I 44 16 v, L) := am_rP0 am_m101 d_101_27 am_f7043 rfl (gs_44 N) (by decide) rfl
theorem d_101_30 : am_code 101 30 = some (.return_, 1) := by decide +kernel
theorem s_101_30 (cl : am_C) (ls : am_Ls) (h : am_H) : am_go0 cl 101 30 ls [] h = some (none, h) := am_rE am_m101 d_101_30 rfl
theorem e_101 (d : Nat) (t : Nat) (p0 : Int) (h : am_H) : am_call (d + 1) 101 [.inr (.inr (some t)), .inl p0] h = am_go0 (am_call d) 101 0 [some (.inr (.inr (some t))), some (.inl p0)] [] h := am_callE am_m101 (Nat.le_of_ble_eq_true rfl) rfl
theorem d_102_0 : am_code 102 0 = some (.aload_n 0, 1) := by decide +kernel
theorem s_102_0 (cl : am_C) (a1 a2 a3 : Option am_V) (x : Nat) (st : List am_V) (h : am_H) : am_go0 cl 102 0 [some (.inr (.inr (some x))), a1, a2, a3] st h = am_go0 cl 102 1 [some (.inr (.inr (some x))), a1, a2, a3] (.inr (.inr (some x)) :: st) h := am_r am_m102 d_102_0 rfl
theorem d_102_1 : am_code 102 1 = some (.getfield 33, 3) := by decide +kernel
theorem s_102_1 (cl : am_C) (ls : am_Ls) (st : List am_V) (N : Nat) (I : Nat → Int → Int) (L : Nat → Int → Int64) : am_go0 cl 102 1 ls (.inr (.inr (some 44)) :: st) (am_GS N, am_GR, I, L) = am_go0 cl 102 4 ls (.inr (.inr (some 50)) :: st) (am_GS N, am_GR, I, L) := am_rG2 am_m102 d_102_1 am_f7033 rfl (gs_44 N) (by decide) gr_44_13 rfl
theorem d_102_4 : am_code 102 4 = some (.aload_n 0, 1) := by decide +kernel
theorem s_102_4 (cl : am_C) (a1 a2 a3 : Option am_V) (x : Nat) (st : List am_V) (h : am_H) : am_go0 cl 102 4 [some (.inr (.inr (some x))), a1, a2, a3] st h = am_go0 cl 102 5 [some (.inr (.inr (some x))), a1, a2, a3] (.inr (.inr (some x)) :: st) h := am_r am_m102 d_102_4 rfl
theorem d_102_5 : am_code 102 5 = some (.getfield 43, 3) := by decide +kernel
theorem s_102_5 (cl : am_C) (ls : am_Ls) (st : List am_V) (N : Nat) (I : Nat → Int → Int) (L : Nat → Int → Int64) : am_go0 cl 102 5 ls (.inr (.inr (some 44)) :: st) (am_GS N, am_GR, I, L) = am_go0 cl 102 8 ls (.inl (I 44 16) :: st) (am_GS N, am_GR, I, L) := am_rG0 am_m102 d_102_5 am_f7043 rfl (gs_44 N) (by decide) rfl
theorem d_102_8 : am_code 102 8 = some (.iconst 1, 1) := by decide +kernel
theorem s_102_8 (cl : am_C) (ls : am_Ls) (st : List am_V) (h : am_H) : am_go0 cl 102 8 ls st h = am_go0 cl 102 9 ls (.inl 1 :: st) h := am_rK am_m102 d_102_8 (by decide) rfl _ _ _
theorem d_102_9 : am_code 102 9 = some (.isub, 1) := by decide +kernel
theorem s_102_9 (cl : am_C) (ls : am_Ls) (x y : Int) (st : List am_V) (h : am_H) : am_go0 cl 102 9 ls (.inl y :: .inl x :: st) h = am_go0 cl 102 10 ls (.inl (am_wr (x - y)) :: st) h := am_r am_m102 d_102_9 rfl
theorem d_102_10 : am_code 102 10 = some (.iaload, 1) := by decide +kernel
theorem s_102_10 (cl : am_C) (ls : am_Ls) (i : Int) (k : Nat) (st : List am_V) (N : Nat) (I : Nat → Int → Int) (L : Nat → Int → Int64) : am_go0 cl 102 10 ls (.inl i :: .inr (.inr (some k)) :: st) (am_GS N, am_GR, I, L) = if am_inb (am_GS N) k 0 i = true then am_go0 cl 102 11 ls (.inl (I k i) :: st) (am_GS N, am_GR, I, L) else none := am_rA am_m102 d_102_10 (by decide) rfl k ls st i _ _ I L
theorem d_102_11 : am_code 102 11 = some (.istore_n 1, 1) := by decide +kernel
theorem s_102_11 (cl : am_C) (a0 a1 a2 a3 : Option am_V) (x : Int) (st : List am_V) (h : am_H) : am_go0 cl 102 11 [a0, a1, a2, a3] (.inl x :: st) h = am_go0 cl 102 12 [am_c1 a0, some (.inl x), a2, a3] st h := am_r am_m102 d_102_11 rfl
theorem d_102_12 : am_code 102 12 = some (.aload_n 0, 1) := by decide +kernel
theorem s_102_12 (cl : am_C) (a1 a2 a3 : Option am_V) (x : Nat) (st : List am_V) (h : am_H) : am_go0 cl 102 12 [some (.inr (.inr (some x))), a1, a2, a3] st h = am_go0 cl 102 13 [some (.inr (.inr (some x))), a1, a2, a3] (.inr (.inr (some x)) :: st) h := am_r am_m102 d_102_12 rfl
theorem d_102_13 : am_code 102 13 = some (.getfield 36, 3) := by decide +kernel
theorem s_102_13 (cl : am_C) (ls : am_Ls) (st : List am_V) (N : Nat) (I : Nat → Int → Int) (L : Nat → Int → Int64) : am_go0 cl 102 13 ls (.inr (.inr (some 44)) :: st) (am_GS N, am_GR, I, L) = am_go0 cl 102 16 ls (.inr (.inr (some 51)) :: st) (am_GS N, am_GR, I, L) := am_rG2 am_m102 d_102_13 am_f7036 rfl (gs_44 N) (by decide) gr_44_14 rfl
theorem d_102_16 : am_code 102 16 = some (.aload_n 0, 1) := by decide +kernel
theorem s_102_16 (cl : am_C) (a1 a2 a3 : Option am_V) (x : Nat) (st : List am_V) (h : am_H) : am_go0 cl 102 16 [some (.inr (.inr (some x))), a1, a2, a3] st h = am_go0 cl 102 17 [some (.inr (.inr (some x))), a1, a2, a3] (.inr (.inr (some x)) :: st) h := am_r am_m102 d_102_16 rfl
theorem d_102_17 : am_code 102 17 = some (.getfield 43, 3) := by decide +kernel
theorem s_102_17 (cl : am_C) (ls : am_Ls) (st : List am_V) (N : Nat) (I : Nat → Int → Int) (L : Nat → Int → Int64) : am_go0 cl 102 17 ls (.inr (.inr (some 44)) :: st) (am_GS N, am_GR, I, L) = am_go0 cl 102 20 ls (.inl (I 44 16) :: st) (am_GS N, am_GR, I, L) := am_rG0 am_m102 d_102_17 am_f7043 rfl (gs_44 N) (by decide) rfl
theorem d_102_20 : am_code 102 20 = some (.iconst 1, 1) := by decide +kernel
theorem s_102_20 (cl : am_C) (ls : am_Ls) (st : List am_V) (h : am_H) : am_go0 cl 102 20 ls st h = am_go0 cl 102 21 ls (.inl 1 :: st) h := am_rK am_m102 d_102_20 (by decide) rfl _ _ _
theorem d_102_21 : am_code 102 21 = some (.isub, 1) := by decide +kernel
theorem s_102_21 (cl : am_C) (ls : am_Ls) (x y : Int) (st : List am_V) (h : am_H) : am_go0 cl 102 21 ls (.inl y :: .inl x :: st) h = am_go0 cl 102 22 ls (.inl (am_wr (x - y)) :: st) h := am_r am_m102 d_102_21 rfl
theorem d_102_22 : am_code 102 22 = some (.iaload, 1) := by decide +kernel
theorem s_102_22 (cl : am_C) (ls : am_Ls) (i : Int) (k : Nat) (st : List am_V) (N : Nat) (I : Nat → Int → Int) (L : Nat → Int → Int64) : am_go0 cl 102 22 ls (.inl i :: .inr (.inr (some k)) :: st) (am_GS N, am_GR, I, L) = if am_inb (am_GS N) k 0 i = true then am_go0 cl 102 23 ls (.inl (I k i) :: st) (am_GS N, am_GR, I, L) else none := am_rA am_m102 d_102_22 (by decide) rfl k ls st i _ _ I L
theorem d_102_23 : am_code 102 23 = some (.istore_n 2, 1) := by decide +kernel
theorem s_102_23 (cl : am_C) (a0 a1 a2 a3 : Option am_V) (x : Int) (st : List am_V) (h : am_H) : am_go0 cl 102 23 [a0, a1, a2, a3] (.inl x :: st) h = am_go0 cl 102 24 [a0, am_c1 a1, some (.inl x), a3] st h := am_r am_m102 d_102_23 rfl
theorem d_102_24 : am_code 102 24 = some (.aload_n 0, 1) := by decide +kernel
theorem s_102_24 (cl : am_C) (a1 a2 a3 : Option am_V) (x : Nat) (st : List am_V) (h : am_H) : am_go0 cl 102 24 [some (.inr (.inr (some x))), a1, a2, a3] st h = am_go0 cl 102 25 [some (.inr (.inr (some x))), a1, a2, a3] (.inr (.inr (some x)) :: st) h := am_r am_m102 d_102_24 rfl
theorem d_102_25 : am_code 102 25 = some (.getfield 36, 3) := by decide +kernel
theorem s_102_25 (cl : am_C) (ls : am_Ls) (st : List am_V) (N : Nat) (I : Nat → Int → Int) (L : Nat → Int → Int64) : am_go0 cl 102 25 ls (.inr (.inr (some 44)) :: st) (am_GS N, am_GR, I, L) = am_go0 cl 102 28 ls (.inr (.inr (some 51)) :: st) (am_GS N, am_GR, I, L) := am_rG2 am_m102 d_102_25 am_f7036 rfl (gs_44 N) (by decide) gr_44_14 rfl
theorem d_102_28 : am_code 102 28 = some (.aload_n 0, 1) := by decide +kernel
theorem s_102_28 (cl : am_C) (a1 a2 a3 : Option am_V) (x : Nat) (st : List am_V) (h : am_H) : am_go0 cl 102 28 [some (.inr (.inr (some x))), a1, a2, a3] st h = am_go0 cl 102 29 [some (.inr (.inr (some x))), a1, a2, a3] (.inr (.inr (some x)) :: st) h := am_r am_m102 d_102_28 rfl
theorem d_102_29 : am_code 102 29 = some (.getfield 43, 3) := by decide +kernel
theorem s_102_29 (cl : am_C) (ls : am_Ls) (st : List am_V) (N : Nat) (I : Nat → Int → Int) (L : Nat → Int → Int64) : am_go0 cl 102 29 ls (.inr (.inr (some 44)) :: st) (am_GS N, am_GR, I, L) = am_go0 cl 102 32 ls (.inl (I 44 16) :: st) (am_GS N, am_GR, I, L) := am_rG0 am_m102 d_102_29 am_f7043 rfl (gs_44 N) (by decide) rfl
theorem d_102_32 : am_code 102 32 = some (.iconst 1, 1) := by decide +kernel
theorem s_102_32 (cl : am_C) (ls : am_Ls) (st : List am_V) (h : am_H) : am_go0 cl 102 32 ls st h = am_go0 cl 102 33 ls (.inl 1 :: st) h := am_rK am_m102 d_102_32 (by decide) rfl _ _ _
theorem d_102_33 : am_code 102 33 = some (.isub, 1) := by decide +kernel
theorem s_102_33 (cl : am_C) (ls : am_Ls) (x y : Int) (st : List am_V) (h : am_H) : am_go0 cl 102 33 ls (.inl y :: .inl x :: st) h = am_go0 cl 102 34 ls (.inl (am_wr (x - y)) :: st) h := am_r am_m102 d_102_33 rfl
theorem d_102_34 : am_code 102 34 = some (.dup2, 1) := by decide +kernel
theorem s_102_34 (cl : am_C) (ls : am_Ls) (x : Int) (y : Nat) (st : List am_V) (h : am_H) : am_go0 cl 102 34 ls (.inl x :: .inr (.inr (some y)) :: st) h = am_go0 cl 102 35 ls (.inl x :: .inr (.inr (some y)) :: .inl x :: .inr (.inr (some y)) :: st) h := am_r am_m102 d_102_34 rfl
theorem d_102_35 : am_code 102 35 = some (.iaload, 1) := by decide +kernel
theorem s_102_35 (cl : am_C) (ls : am_Ls) (i : Int) (k : Nat) (st : List am_V) (N : Nat) (I : Nat → Int → Int) (L : Nat → Int → Int64) : am_go0 cl 102 35 ls (.inl i :: .inr (.inr (some k)) :: st) (am_GS N, am_GR, I, L) = if am_inb (am_GS N) k 0 i = true then am_go0 cl 102 36 ls (.inl (I k i) :: st) (am_GS N, am_GR, I, L) else none := am_rA am_m102 d_102_35 (by decide) rfl k ls st i _ _ I L
theorem d_102_36 : am_code 102 36 = some (.iconst 1, 1) := by decide +kernel
theorem s_102_36 (cl : am_C) (ls : am_Ls) (st : List am_V) (h : am_H) : am_go0 cl 102 36 ls st h = am_go0 cl 102 37 ls (.inl 1 :: st) h := am_rK am_m102 d_102_36 (by decide) rfl _ _ _
theorem d_102_37 : am_code 102 37 = some (.iadd, 1) := by decide +kernel
theorem s_102_37 (cl : am_C) (ls : am_Ls) (x y : Int) (st : List am_V) (h : am_H) : am_go0 cl 102 37 ls (.inl y :: .inl x :: st) h = am_go0 cl 102 38 ls (.inl (am_wr (x + y)) :: st) h := am_r am_m102 d_102_37 rfl
theorem d_102_38 : am_code 102 38 = some (.iastore, 1) := by decide +kernel
theorem s_102_38 (cl : am_C) (ls : am_Ls) (i : Int) (v : Int) (k : Nat) (st : List am_V) (N : Nat) (I : Nat → Int → Int) (L : Nat → Int → Int64) : am_go0 cl 102 38 ls (.inl v :: .inl i :: .inr (.inr (some k)) :: st) (am_GS N, am_GR, I, L) = if am_inb (am_GS N) k 0 i = true then am_go0 cl 102 39 ls st (am_GS N, am_GR, am_uI I k i v, L) else none := am_rS am_m102 d_102_38 rfl k ls st i v _ _ I L
theorem d_102_39 : am_code 102 39 = some (.aload_n 0, 1) := by decide +kernel
theorem s_102_39 (cl : am_C) (a1 a2 a3 : Option am_V) (x : Nat) (st : List am_V) (h : am_H) : am_go0 cl 102 39 [some (.inr (.inr (some x))), a1, a2, a3] st h = am_go0 cl 102 40 [some (.inr (.inr (some x))), a1, a2, a3] (.inr (.inr (some x)) :: st) h := am_r am_m102 d_102_39 rfl
theorem d_102_40 : am_code 102 40 = some (.getfield 54, 3) := by decide +kernel
theorem s_102_40 (cl : am_C) (ls : am_Ls) (st : List am_V) (N : Nat) (I : Nat → Int → Int) (L : Nat → Int → Int64) : am_go0 cl 102 40 ls (.inr (.inr (some 44)) :: st) (am_GS N, am_GR, I, L) = am_go0 cl 102 43 ls (.inr (.inr (some 22)) :: st) (am_GS N, am_GR, I, L) := am_rG2 am_m102 d_102_40 am_f7054 rfl (gs_44 N) (by decide) gr_44_1 rfl
theorem d_102_43 : am_code 102 43 = some (.iload_n 1, 1) := by decide +kernel
theorem s_102_43 (cl : am_C) (a0 a2 a3 : Option am_V) (x : Int) (st : List am_V) (h : am_H) : am_go0 cl 102 43 [a0, some (.inl x), a2, a3] st h = am_go0 cl 102 44 [a0, some (.inl x), a2, a3] (.inl x :: st) h := am_r am_m102 d_102_43 rfl
theorem d_102_44 : am_code 102 44 = some (.invokevirtual 156, 3) := by decide +kernel
theorem s_102_44 (cl : am_C) (ls : am_Ls) (x0 : Int) (N : Nat) (I : Nat → Int → Int) (L : Nat → Int → Int64) : am_go0 cl 102 44 ls [.inl x0, .inr (.inr (some 22))] (am_GS N, am_GR, I, L) = am_bd (cl 53 [.inr (.inr (some 22)), .inl x0] (am_GS N, am_GR, I, L)) (fun v h2 => am_go0 cl 102 47 ls (v.toList ++ []) h2) := am_rV am_m102 d_102_44 am_k7156 rfl am_m53 (gs_22 N) (by decide) (Nat.le_of_ble_eq_true rfl) rfl ls
theorem d_102_47 : am_code 102 47 = some (.istore_n 3, 1) := by decide +kernel
theorem s_102_47 (cl : am_C) (a0 a1 a2 a3 : Option am_V) (x : Int) (st : List am_V) (h : am_H) : am_go0 cl 102 47 [a0, a1, a2, a3] (.inl x :: st) h = am_go0 cl 102 48 [a0, a1, am_c1 a2, some (.inl x)] st h := am_r am_m102 d_102_47 rfl
theorem d_102_48 : am_code 102 48 = some (.iload_n 3, 1) := by decide +kernel
theorem s_102_48 (cl : am_C) (a0 a1 a2 : Option am_V) (x : Int) (st : List am_V) (h : am_H) : am_go0 cl 102 48 [a0, a1, a2, some (.inl x)] st h = am_go0 cl 102 49 [a0, a1, a2, some (.inl x)] (.inl x :: st) h := am_r am_m102 d_102_48 rfl
theorem d_102_49 : am_code 102 49 = some (.ifCond .ne 19, 3) := by decide +kernel
theorem s_102_49 (cl : am_C) (ls : am_Ls) (x : Int) (st : List am_V) (h : am_H) : am_go0 cl 102 49 ls (.inl x :: st) h = if x = 0 then am_go0 cl 102 52 ls st h else am_go0 cl 102 68 ls st h := (am_rJ1 am_m102 d_102_49 (by decide) rfl x ls st h).trans (am_ifF ((am_cmp_ne x 0).trans Iff.rfl) _ _)
theorem d_102_52 : am_code 102 52 = some (.aload_n 0, 1) := by decide +kernel
theorem s_102_52 (cl : am_C) (a1 a2 a3 : Option am_V) (x : Nat) (st : List am_V) (h : am_H) : am_go0 cl 102 52 [some (.inr (.inr (some x))), a1, a2, a3] st h = am_go0 cl 102 53 [some (.inr (.inr (some x))), a1, a2, a3] (.inr (.inr (some x)) :: st) h := am_r am_m102 d_102_52 rfl
theorem d_102_53 : am_code 102 53 = some (.aload_n 0, 1) := by decide +kernel
theorem s_102_53 (cl : am_C) (a1 a2 a3 : Option am_V) (x : Nat) (st : List am_V) (h : am_H) : am_go0 cl 102 53 [some (.inr (.inr (some x))), a1, a2, a3] st h = am_go0 cl 102 54 [some (.inr (.inr (some x))), a1, a2, a3] (.inr (.inr (some x)) :: st) h := am_r am_m102 d_102_53 rfl
theorem d_102_54 : am_code 102 54 = some (.getfield 54, 3) := by decide +kernel
theorem s_102_54 (cl : am_C) (ls : am_Ls) (st : List am_V) (N : Nat) (I : Nat → Int → Int) (L : Nat → Int → Int64) : am_go0 cl 102 54 ls (.inr (.inr (some 44)) :: st) (am_GS N, am_GR, I, L) = am_go0 cl 102 57 ls (.inr (.inr (some 22)) :: st) (am_GS N, am_GR, I, L) := am_rG2 am_m102 d_102_54 am_f7054 rfl (gs_44 N) (by decide) gr_44_1 rfl
theorem d_102_57 : am_code 102 57 = some (.iload_n 1, 1) := by decide +kernel
theorem s_102_57 (cl : am_C) (a0 a2 a3 : Option am_V) (x : Int) (st : List am_V) (h : am_H) : am_go0 cl 102 57 [a0, some (.inl x), a2, a3] st h = am_go0 cl 102 58 [a0, some (.inl x), a2, a3] (.inl x :: st) h := am_r am_m102 d_102_57 rfl
theorem d_102_58 : am_code 102 58 = some (.invokevirtual 159, 3) := by decide +kernel
theorem s_102_58 (cl : am_C) (ls : am_Ls) (x0 : Int) (z0 : Nat) (N : Nat) (I : Nat → Int → Int) (L : Nat → Int → Int64) : am_go0 cl 102 58 ls [.inl x0, .inr (.inr (some 22)), .inr (.inr (some z0))] (am_GS N, am_GR, I, L) = am_bd (cl 54 [.inr (.inr (some 22)), .inl x0] (am_GS N, am_GR, I, L)) (fun v h2 => am_go0 cl 102 61 ls (v.toList ++ [.inr (.inr (some z0))]) h2) := am_rV am_m102 d_102_58 am_k7159 rfl am_m54 (gs_22 N) (by decide) (Nat.le_of_ble_eq_true rfl) rfl ls
theorem d_102_61 : am_code 102 61 = some (.i2l, 1) := by decide +kernel
theorem s_102_61 (cl : am_C) (ls : am_Ls) (x : Int) (st : List am_V) (h : am_H) : am_go0 cl 102 61 ls (.inl x :: st) h = am_go0 cl 102 62 ls (.inr (.inl (Int32.ofInt x).toInt64) :: st) h := am_r am_m102 d_102_61 rfl
theorem d_102_62 : am_code 102 62 = some (.invokevirtual 162, 3) := by decide +kernel
theorem s_102_62 (cl : am_C) (ls : am_Ls) (x0 : Int64) (N : Nat) (I : Nat → Int → Int) (L : Nat → Int → Int64) : am_go0 cl 102 62 ls [.inr (.inl x0), .inr (.inr (some 44))] (am_GS N, am_GR, I, L) = am_bd (cl 103 [.inr (.inr (some 44)), .inr (.inl x0)] (am_GS N, am_GR, I, L)) (fun v h2 => am_go0 cl 102 65 ls (v.toList ++ []) h2) := am_rV am_m102 d_102_62 am_k7162 rfl am_m103 (gs_44 N) (by decide) (Nat.le_of_ble_eq_true rfl) rfl ls
theorem d_102_65 : am_code 102 65 = some (.goto 61, 3) := by decide +kernel
theorem s_102_65 (cl : am_C) (ls : am_Ls) (st : List am_V) (h : am_H) : am_go0 cl 102 65 ls st h = am_go0 cl 102 126 ls st h := am_rGo am_m102 d_102_65 (by decide) _ _ _
theorem d_102_68 : am_code 102 68 = some (.iload_n 3, 1) := by decide +kernel
theorem s_102_68 (cl : am_C) (a0 a1 a2 : Option am_V) (x : Int) (st : List am_V) (h : am_H) : am_go0 cl 102 68 [a0, a1, a2, some (.inl x)] st h = am_go0 cl 102 69 [a0, a1, a2, some (.inl x)] (.inl x :: st) h := am_r am_m102 d_102_68 rfl
theorem d_102_69 : am_code 102 69 = some (.bipush 9, 2) := by decide +kernel
theorem s_102_69 (cl : am_C) (ls : am_Ls) (st : List am_V) (h : am_H) : am_go0 cl 102 69 ls st h = am_go0 cl 102 71 ls (.inl 9 :: st) h := am_rB am_m102 d_102_69 (by decide) rfl _ _ _
theorem d_102_71 : am_code 102 71 = some (.if_icmp .ne 12, 3) := by decide +kernel
theorem s_102_71 (cl : am_C) (ls : am_Ls) (x y : Int) (st : List am_V) (h : am_H) : am_go0 cl 102 71 ls (.inl y :: .inl x :: st) h = if x = y then am_go0 cl 102 74 ls st h else am_go0 cl 102 83 ls st h := (am_rJ0 am_m102 d_102_71 (by decide) rfl x y ls st h).trans (am_ifF ((am_cmp_ne x y).trans Iff.rfl) _ _)
theorem d_102_74 : am_code 102 74 = some (.aload_n 0, 1) := by decide +kernel
theorem s_102_74 (cl : am_C) (a1 a2 a3 : Option am_V) (x : Nat) (st : List am_V) (h : am_H) : am_go0 cl 102 74 [some (.inr (.inr (some x))), a1, a2, a3] st h = am_go0 cl 102 75 [some (.inr (.inr (some x))), a1, a2, a3] (.inr (.inr (some x)) :: st) h := am_r am_m102 d_102_74 rfl
theorem d_102_75 : am_code 102 75 = some (.iload_n 1, 1) := by decide +kernel
theorem s_102_75 (cl : am_C) (a0 a2 a3 : Option am_V) (x : Int) (st : List am_V) (h : am_H) : am_go0 cl 102 75 [a0, some (.inl x), a2, a3] st h = am_go0 cl 102 76 [a0, some (.inl x), a2, a3] (.inl x :: st) h := am_r am_m102 d_102_75 rfl
theorem d_102_76 : am_code 102 76 = some (.iload_n 2, 1) := by decide +kernel
theorem s_102_76 (cl : am_C) (a0 a1 a3 : Option am_V) (x : Int) (st : List am_V) (h : am_H) : am_go0 cl 102 76 [a0, a1, some (.inl x), a3] st h = am_go0 cl 102 77 [a0, a1, some (.inl x), a3] (.inl x :: st) h := am_r am_m102 d_102_76 rfl
theorem d_102_77 : am_code 102 77 = some (.invokevirtual 166, 3) := by decide +kernel
theorem s_102_77 (cl : am_C) (ls : am_Ls) (x0 : Int) (x1 : Int) (N : Nat) (I : Nat → Int → Int) (L : Nat → Int → Int64) : am_go0 cl 102 77 ls [.inl x1, .inl x0, .inr (.inr (some 44))] (am_GS N, am_GR, I, L) = am_bd (cl 104 [.inr (.inr (some 44)), .inl x0, .inl x1] (am_GS N, am_GR, I, L)) (fun v h2 => am_go0 cl 102 80 ls (v.toList ++ []) h2) := am_rV am_m102 d_102_77 am_k7166 rfl am_m104 (gs_44 N) (by decide) (Nat.le_of_ble_eq_true rfl) rfl ls
theorem d_102_80 : am_code 102 80 = some (.goto 46, 3) := by decide +kernel
theorem s_102_80 (cl : am_C) (ls : am_Ls) (st : List am_V) (h : am_H) : am_go0 cl 102 80 ls st h = am_go0 cl 102 126 ls st h := am_rGo am_m102 d_102_80 (by decide) _ _ _
theorem d_102_83 : am_code 102 83 = some (.iload_n 3, 1) := by decide +kernel
theorem s_102_83 (cl : am_C) (a0 a1 a2 : Option am_V) (x : Int) (st : List am_V) (h : am_H) : am_go0 cl 102 83 [a0, a1, a2, some (.inl x)] st h = am_go0 cl 102 84 [a0, a1, a2, some (.inl x)] (.inl x :: st) h := am_r am_m102 d_102_83 rfl
theorem d_102_84 : am_code 102 84 = some (.iconst 5, 1) := by decide +kernel
theorem s_102_84 (cl : am_C) (ls : am_Ls) (st : List am_V) (h : am_H) : am_go0 cl 102 84 ls st h = am_go0 cl 102 85 ls (.inl 5 :: st) h := am_rK am_m102 d_102_84 (by decide) rfl _ _ _
theorem d_102_85 : am_code 102 85 = some (.if_icmp .lt 12, 3) := by decide +kernel
theorem s_102_85 (cl : am_C) (ls : am_Ls) (x y : Int) (st : List am_V) (h : am_H) : am_go0 cl 102 85 ls (.inl y :: .inl x :: st) h = if x < y then am_go0 cl 102 97 ls st h else am_go0 cl 102 88 ls st h := (am_rJ0 am_m102 d_102_85 (by decide) rfl x y ls st h).trans (am_ifT (am_cmp_lt x y) _ _)
theorem d_102_88 : am_code 102 88 = some (.aload_n 0, 1) := by decide +kernel
theorem s_102_88 (cl : am_C) (a1 a2 a3 : Option am_V) (x : Nat) (st : List am_V) (h : am_H) : am_go0 cl 102 88 [some (.inr (.inr (some x))), a1, a2, a3] st h = am_go0 cl 102 89 [some (.inr (.inr (some x))), a1, a2, a3] (.inr (.inr (some x)) :: st) h := am_r am_m102 d_102_88 rfl
theorem d_102_89 : am_code 102 89 = some (.iload_n 1, 1) := by decide +kernel
theorem s_102_89 (cl : am_C) (a0 a2 a3 : Option am_V) (x : Int) (st : List am_V) (h : am_H) : am_go0 cl 102 89 [a0, some (.inl x), a2, a3] st h = am_go0 cl 102 90 [a0, some (.inl x), a2, a3] (.inl x :: st) h := am_r am_m102 d_102_89 rfl
theorem d_102_90 : am_code 102 90 = some (.iload_n 2, 1) := by decide +kernel
theorem s_102_90 (cl : am_C) (a0 a1 a3 : Option am_V) (x : Int) (st : List am_V) (h : am_H) : am_go0 cl 102 90 [a0, a1, some (.inl x), a3] st h = am_go0 cl 102 91 [a0, a1, some (.inl x), a3] (.inl x :: st) h := am_r am_m102 d_102_90 rfl
theorem d_102_91 : am_code 102 91 = some (.invokevirtual 169, 3) := by decide +kernel
theorem s_102_91 (cl : am_C) (ls : am_Ls) (x0 : Int) (x1 : Int) (N : Nat) (I : Nat → Int → Int) (L : Nat → Int → Int64) : am_go0 cl 102 91 ls [.inl x1, .inl x0, .inr (.inr (some 44))] (am_GS N, am_GR, I, L) = am_bd (cl 105 [.inr (.inr (some 44)), .inl x0, .inl x1] (am_GS N, am_GR, I, L)) (fun v h2 => am_go0 cl 102 94 ls (v.toList ++ []) h2) := am_rV am_m102 d_102_91 am_k7169 rfl am_m105 (gs_44 N) (by decide) (Nat.le_of_ble_eq_true rfl) rfl ls
theorem d_102_94 : am_code 102 94 = some (.goto 32, 3) := by decide +kernel
theorem s_102_94 (cl : am_C) (ls : am_Ls) (st : List am_V) (h : am_H) : am_go0 cl 102 94 ls st h = am_go0 cl 102 126 ls st h := am_rGo am_m102 d_102_94 (by decide) _ _ _
theorem d_102_97 : am_code 102 97 = some (.iload_n 2, 1) := by decide +kernel
theorem s_102_97 (cl : am_C) (a0 a1 a3 : Option am_V) (x : Int) (st : List am_V) (h : am_H) : am_go0 cl 102 97 [a0, a1, some (.inl x), a3] st h = am_go0 cl 102 98 [a0, a1, some (.inl x), a3] (.inl x :: st) h := am_r am_m102 d_102_97 rfl
theorem d_102_98 : am_code 102 98 = some (.ifCond .ne 20, 3) := by decide +kernel
theorem s_102_98 (cl : am_C) (ls : am_Ls) (x : Int) (st : List am_V) (h : am_H) : am_go0 cl 102 98 ls (.inl x :: st) h = if x = 0 then am_go0 cl 102 101 ls st h else am_go0 cl 102 118 ls st h := (am_rJ1 am_m102 d_102_98 (by decide) rfl x ls st h).trans (am_ifF ((am_cmp_ne x 0).trans Iff.rfl) _ _)
theorem d_102_101 : am_code 102 101 = some (.aload_n 0, 1) := by decide +kernel
theorem s_102_101 (cl : am_C) (a1 a2 a3 : Option am_V) (x : Nat) (st : List am_V) (h : am_H) : am_go0 cl 102 101 [some (.inr (.inr (some x))), a1, a2, a3] st h = am_go0 cl 102 102 [some (.inr (.inr (some x))), a1, a2, a3] (.inr (.inr (some x)) :: st) h := am_r am_m102 d_102_101 rfl
theorem d_102_102 : am_code 102 102 = some (.aload_n 0, 1) := by decide +kernel
theorem s_102_102 (cl : am_C) (a1 a2 a3 : Option am_V) (x : Nat) (st : List am_V) (h : am_H) : am_go0 cl 102 102 [some (.inr (.inr (some x))), a1, a2, a3] st h = am_go0 cl 102 103 [some (.inr (.inr (some x))), a1, a2, a3] (.inr (.inr (some x)) :: st) h := am_r am_m102 d_102_102 rfl
theorem d_102_103 : am_code 102 103 = some (.iload_n 1, 1) := by decide +kernel
theorem s_102_103 (cl : am_C) (a0 a2 a3 : Option am_V) (x : Int) (st : List am_V) (h : am_H) : am_go0 cl 102 103 [a0, some (.inl x), a2, a3] st h = am_go0 cl 102 104 [a0, some (.inl x), a2, a3] (.inl x :: st) h := am_r am_m102 d_102_103 rfl
theorem d_102_104 : am_code 102 104 = some (.invokevirtual 172, 3) := by decide +kernel
theorem s_102_104 (cl : am_C) (ls : am_Ls) (x0 : Int) (z0 : Nat) (N : Nat) (I : Nat → Int → Int) (L : Nat → Int → Int64) : am_go0 cl 102 104 ls [.inl x0, .inr (.inr (some 44)), .inr (.inr (some z0))] (am_GS N, am_GR, I, L) = am_bd (cl 108 [.inr (.inr (some 44)), .inl x0] (am_GS N, am_GR, I, L)) (fun v h2 => am_go0 cl 102 107 ls (v.toList ++ [.inr (.inr (some z0))]) h2) := am_rV am_m102 d_102_104 am_k7172 rfl am_m108 (gs_44 N) (by decide) (Nat.le_of_ble_eq_true rfl) rfl ls
theorem d_102_107 : am_code 102 107 = some (.aload_n 0, 1) := by decide +kernel
theorem s_102_107 (cl : am_C) (a1 a2 a3 : Option am_V) (x : Nat) (st : List am_V) (h : am_H) : am_go0 cl 102 107 [some (.inr (.inr (some x))), a1, a2, a3] st h = am_go0 cl 102 108 [some (.inr (.inr (some x))), a1, a2, a3] (.inr (.inr (some x)) :: st) h := am_r am_m102 d_102_107 rfl
theorem d_102_108 : am_code 102 108 = some (.iload_n 1, 1) := by decide +kernel
theorem s_102_108 (cl : am_C) (a0 a2 a3 : Option am_V) (x : Int) (st : List am_V) (h : am_H) : am_go0 cl 102 108 [a0, some (.inl x), a2, a3] st h = am_go0 cl 102 109 [a0, some (.inl x), a2, a3] (.inl x :: st) h := am_r am_m102 d_102_108 rfl
theorem d_102_109 : am_code 102 109 = some (.invokevirtual 175, 3) := by decide +kernel
theorem s_102_109 (cl : am_C) (ls : am_Ls) (x0 : Int) (z0 : Int) (z1 : Nat) (N : Nat) (I : Nat → Int → Int) (L : Nat → Int → Int64) : am_go0 cl 102 109 ls [.inl x0, .inr (.inr (some 44)), .inl z0, .inr (.inr (some z1))] (am_GS N, am_GR, I, L) = am_bd (cl 109 [.inr (.inr (some 44)), .inl x0] (am_GS N, am_GR, I, L)) (fun v h2 => am_go0 cl 102 112 ls (v.toList ++ [.inl z0, .inr (.inr (some z1))]) h2) := am_rV am_m102 d_102_109 am_k7175 rfl am_m109 (gs_44 N) (by decide) (Nat.le_of_ble_eq_true rfl) rfl ls
theorem d_102_112 : am_code 102 112 = some (.invokevirtual 178, 3) := by decide +kernel
theorem s_102_112 (cl : am_C) (ls : am_Ls) (x0 : Int) (x1 : Int) (N : Nat) (I : Nat → Int → Int) (L : Nat → Int → Int64) : am_go0 cl 102 112 ls [.inl x1, .inl x0, .inr (.inr (some 44))] (am_GS N, am_GR, I, L) = am_bd (cl 110 [.inr (.inr (some 44)), .inl x0, .inl x1] (am_GS N, am_GR, I, L)) (fun v h2 => am_go0 cl 102 115 ls (v.toList ++ []) h2) := am_rV am_m102 d_102_112 am_k7178 rfl am_m110 (gs_44 N) (by decide) (Nat.le_of_ble_eq_true rfl) rfl ls
theorem d_102_115 : am_code 102 115 = some (.goto 11, 3) := by decide +kernel
theorem s_102_115 (cl : am_C) (ls : am_Ls) (st : List am_V) (h : am_H) : am_go0 cl 102 115 ls st h = am_go0 cl 102 126 ls st h := am_rGo am_m102 d_102_115 (by decide) _ _ _
theorem d_102_118 : am_code 102 118 = some (.aload_n 0, 1) := by decide +kernel
theorem s_102_118 (cl : am_C) (a1 a2 a3 : Option am_V) (x : Nat) (st : List am_V) (h : am_H) : am_go0 cl 102 118 [some (.inr (.inr (some x))), a1, a2, a3] st h = am_go0 cl 102 119 [some (.inr (.inr (some x))), a1, a2, a3] (.inr (.inr (some x)) :: st) h := am_r am_m102 d_102_118 rfl
theorem d_102_119 : am_code 102 119 = some (.aload_n 0, 1) := by decide +kernel
theorem s_102_119 (cl : am_C) (a1 a2 a3 : Option am_V) (x : Nat) (st : List am_V) (h : am_H) : am_go0 cl 102 119 [some (.inr (.inr (some x))), a1, a2, a3] st h = am_go0 cl 102 120 [some (.inr (.inr (some x))), a1, a2, a3] (.inr (.inr (some x)) :: st) h := am_r am_m102 d_102_119 rfl
theorem d_102_120 : am_code 102 120 = some (.getfield 46, 3) := by decide +kernel
theorem s_102_120 (cl : am_C) (ls : am_Ls) (st : List am_V) (N : Nat) (I : Nat → Int → Int) (L : Nat → Int → Int64) : am_go0 cl 102 120 ls (.inr (.inr (some 44)) :: st) (am_GS N, am_GR, I, L) = am_go0 cl 102 123 ls (.inr (.inl (L 44 17)) :: st) (am_GS N, am_GR, I, L) := am_rG1 am_m102 d_102_120 am_f7046 rfl (gs_44 N) (by decide) rfl
theorem d_102_123 : am_code 102 123 = some (.invokevirtual 162, 3) := by decide +kernel
theorem s_102_123 (cl : am_C) (ls : am_Ls) (x0 : Int64) (N : Nat) (I : Nat → Int → Int) (L : Nat → Int → Int64) : am_go0 cl 102 123 ls [.inr (.inl x0), .inr (.inr (some 44))] (am_GS N, am_GR, I, L) = am_bd (cl 103 [.inr (.inr (some 44)), .inr (.inl x0)] (am_GS N, am_GR, I, L)) (fun v h2 => am_go0 cl 102 126 ls (v.toList ++ []) h2) := am_rV am_m102 d_102_123 am_k7162 rfl am_m103 (gs_44 N) (by decide) (Nat.le_of_ble_eq_true rfl) rfl ls
theorem d_102_126 : am_code 102 126 = some (.return_, 1) := by decide +kernel
theorem s_102_126 (cl : am_C) (ls : am_Ls) (h : am_H) : am_go0 cl 102 126 ls [] h = some (none, h) := am_rE am_m102 d_102_126 rfl
theorem e_102 (d : Nat) (t : Nat) (h : am_H) : am_call (d + 1) 102 [.inr (.inr (some t))] h = am_go0 (am_call d) 102 0 [some (.inr (.inr (some t))), none, none, none] [] h := am_callE am_m102 (Nat.le_of_ble_eq_true rfl) rfl
theorem d_103_0 : am_code 103 0 = some (.aload_n 0, 1) := by decide +kernel
theorem s_103_0 (cl : am_C) (a1 a2 : Option am_V) (x : Nat) (st : List am_V) (h : am_H) : am_go0 cl 103 0 [some (.inr (.inr (some x))), a1, a2] st h = am_go0 cl 103 1 [some (.inr (.inr (some x))), a1, a2] (.inr (.inr (some x)) :: st) h := am_r am_m103 d_103_0 rfl
theorem d_103_1 : am_code 103 1 = some (.lload_n 1, 1) := by decide +kernel
theorem s_103_1 (cl : am_C) (a0 a2 : Option am_V) (x : Int64) (st : List am_V) (h : am_H) : am_go0 cl 103 1 [a0, some (.inr (.inl x)), a2] st h = am_go0 cl 103 2 [a0, some (.inr (.inl x)), a2] (.inr (.inl x) :: st) h := am_r am_m103 d_103_1 rfl
theorem d_103_2 : am_code 103 2 = some (.putfield 46, 3) := by decide +kernel
theorem s_103_2 (cl : am_C) (ls : am_Ls) (v : Int64) (st : List am_V) (N : Nat) (I : Nat → Int → Int) (L : Nat → Int → Int64) : am_go0 cl 103 2 ls (.inr (.inl v) :: .inr (.inr (some 44)) :: st) (am_GS N, am_GR, I, L) = am_go0 cl 103 5 ls st (am_GS N, am_GR, I, am_uL L 44 17 v) := am_rP1 am_m103 d_103_2 am_f7046 rfl (gs_44 N) (by decide) rfl
theorem d_103_5 : am_code 103 5 = some (.aload_n 0, 1) := by decide +kernel
theorem s_103_5 (cl : am_C) (a1 a2 : Option am_V) (x : Nat) (st : List am_V) (h : am_H) : am_go0 cl 103 5 [some (.inr (.inr (some x))), a1, a2] st h = am_go0 cl 103 6 [some (.inr (.inr (some x))), a1, a2] (.inr (.inr (some x)) :: st) h := am_r am_m103 d_103_5 rfl
theorem d_103_6 : am_code 103 6 = some (.dup, 1) := by decide +kernel
theorem s_103_6 (cl : am_C) (ls : am_Ls) (x : Nat) (st : List am_V) (h : am_H) : am_go0 cl 103 6 ls (.inr (.inr (some x)) :: st) h = am_go0 cl 103 7 ls (.inr (.inr (some x)) :: .inr (.inr (some x)) :: st) h := am_r am_m103 d_103_6 rfl
theorem d_103_7 : am_code 103 7 = some (.getfield 43, 3) := by decide +kernel
theorem s_103_7 (cl : am_C) (ls : am_Ls) (st : List am_V) (N : Nat) (I : Nat → Int → Int) (L : Nat → Int → Int64) : am_go0 cl 103 7 ls (.inr (.inr (some 44)) :: st) (am_GS N, am_GR, I, L) = am_go0 cl 103 10 ls (.inl (I 44 16) :: st) (am_GS N, am_GR, I, L) := am_rG0 am_m103 d_103_7 am_f7043 rfl (gs_44 N) (by decide) rfl
theorem d_103_10 : am_code 103 10 = some (.iconst 1, 1) := by decide +kernel
theorem s_103_10 (cl : am_C) (ls : am_Ls) (st : List am_V) (h : am_H) : am_go0 cl 103 10 ls st h = am_go0 cl 103 11 ls (.inl 1 :: st) h := am_rK am_m103 d_103_10 (by decide) rfl _ _ _
theorem d_103_11 : am_code 103 11 = some (.isub, 1) := by decide +kernel
theorem s_103_11 (cl : am_C) (ls : am_Ls) (x y : Int) (st : List am_V) (h : am_H) : am_go0 cl 103 11 ls (.inl y :: .inl x :: st) h = am_go0 cl 103 12 ls (.inl (am_wr (x - y)) :: st) h := am_r am_m103 d_103_11 rfl
theorem d_103_12 : am_code 103 12 = some (.putfield 43, 3) := by decide +kernel
theorem s_103_12 (cl : am_C) (ls : am_Ls) (v : Int) (st : List am_V) (N : Nat) (I : Nat → Int → Int) (L : Nat → Int → Int64) : am_go0 cl 103 12 ls (.inl v :: .inr (.inr (some 44)) :: st) (am_GS N, am_GR, I, L) = am_go0 cl 103 15 ls st (am_GS N, am_GR, am_uI I 44 16 v, L) := am_rP0 am_m103 d_103_12 am_f7043 rfl (gs_44 N) (by decide) rfl
theorem d_103_15 : am_code 103 15 = some (.aload_n 0, 1) := by decide +kernel
theorem s_103_15 (cl : am_C) (a1 a2 : Option am_V) (x : Nat) (st : List am_V) (h : am_H) : am_go0 cl 103 15 [some (.inr (.inr (some x))), a1, a2] st h = am_go0 cl 103 16 [some (.inr (.inr (some x))), a1, a2] (.inr (.inr (some x)) :: st) h := am_r am_m103 d_103_15 rfl
theorem d_103_16 : am_code 103 16 = some (.getfield 43, 3) := by decide +kernel
theorem s_103_16 (cl : am_C) (ls : am_Ls) (st : List am_V) (N : Nat) (I : Nat → Int → Int) (L : Nat → Int → Int64) : am_go0 cl 103 16 ls (.inr (.inr (some 44)) :: st) (am_GS N, am_GR, I, L) = am_go0 cl 103 19 ls (.inl (I 44 16) :: st) (am_GS N, am_GR, I, L) := am_rG0 am_m103 d_103_16 am_f7043 rfl (gs_44 N) (by decide) rfl
theorem d_103_19 : am_code 103 19 = some (.aload_n 0, 1) := by decide +kernel
theorem s_103_19 (cl : am_C) (a1 a2 : Option am_V) (x : Nat) (st : List am_V) (h : am_H) : am_go0 cl 103 19 [some (.inr (.inr (some x))), a1, a2] st h = am_go0 cl 103 20 [some (.inr (.inr (some x))), a1, a2] (.inr (.inr (some x)) :: st) h := am_r am_m103 d_103_19 rfl
theorem d_103_20 : am_code 103 20 = some (.getfield 26, 3) := by decide +kernel
theorem s_103_20 (cl : am_C) (ls : am_Ls) (st : List am_V) (N : Nat) (I : Nat → Int → Int) (L : Nat → Int → Int64) : am_go0 cl 103 20 ls (.inr (.inr (some 44)) :: st) (am_GS N, am_GR, I, L) = am_go0 cl 103 23 ls (.inr (.inr (some 49)) :: st) (am_GS N, am_GR, I, L) := am_rG2 am_m103 d_103_20 am_f7026 rfl (gs_44 N) (by decide) gr_44_11 rfl
theorem d_103_23 : am_code 103 23 = some (.aload_n 0, 1) := by decide +kernel
theorem s_103_23 (cl : am_C) (a1 a2 : Option am_V) (x : Nat) (st : List am_V) (h : am_H) : am_go0 cl 103 23 [some (.inr (.inr (some x))), a1, a2] st h = am_go0 cl 103 24 [some (.inr (.inr (some x))), a1, a2] (.inr (.inr (some x)) :: st) h := am_r am_m103 d_103_23 rfl
theorem d_103_24 : am_code 103 24 = some (.getfield 29, 3) := by decide +kernel
theorem s_103_24 (cl : am_C) (ls : am_Ls) (st : List am_V) (N : Nat) (I : Nat → Int → Int) (L : Nat → Int → Int64) : am_go0 cl 103 24 ls (.inr (.inr (some 44)) :: st) (am_GS N, am_GR, I, L) = am_go0 cl 103 27 ls (.inl (I 44 12) :: st) (am_GS N, am_GR, I, L) := am_rG0 am_m103 d_103_24 am_f7029 rfl (gs_44 N) (by decide) rfl
theorem d_103_27 : am_code 103 27 = some (.iconst 1, 1) := by decide +kernel
theorem s_103_27 (cl : am_C) (ls : am_Ls) (st : List am_V) (h : am_H) : am_go0 cl 103 27 ls st h = am_go0 cl 103 28 ls (.inl 1 :: st) h := am_rK am_m103 d_103_27 (by decide) rfl _ _ _
theorem d_103_28 : am_code 103 28 = some (.isub, 1) := by decide +kernel
theorem s_103_28 (cl : am_C) (ls : am_Ls) (x y : Int) (st : List am_V) (h : am_H) : am_go0 cl 103 28 ls (.inl y :: .inl x :: st) h = am_go0 cl 103 29 ls (.inl (am_wr (x - y)) :: st) h := am_r am_m103 d_103_28 rfl
theorem d_103_29 : am_code 103 29 = some (.iaload, 1) := by decide +kernel
theorem s_103_29 (cl : am_C) (ls : am_Ls) (i : Int) (k : Nat) (st : List am_V) (N : Nat) (I : Nat → Int → Int) (L : Nat → Int → Int64) : am_go0 cl 103 29 ls (.inl i :: .inr (.inr (some k)) :: st) (am_GS N, am_GR, I, L) = if am_inb (am_GS N) k 0 i = true then am_go0 cl 103 30 ls (.inl (I k i) :: st) (am_GS N, am_GR, I, L) else none := am_rA am_m103 d_103_29 (by decide) rfl k ls st i _ _ I L
theorem d_103_30 : am_code 103 30 = some (.if_icmp .ne 64, 3) := by decide +kernel
theorem s_103_30 (cl : am_C) (ls : am_Ls) (x y : Int) (st : List am_V) (h : am_H) : am_go0 cl 103 30 ls (.inl y :: .inl x :: st) h = if x = y then am_go0 cl 103 33 ls st h else am_go0 cl 103 94 ls st h := (am_rJ0 am_m103 d_103_30 (by decide) rfl x y ls st h).trans (am_ifF ((am_cmp_ne x y).trans Iff.rfl) _ _)
theorem d_103_33 : am_code 103 33 = some (.aload_n 0, 1) := by decide +kernel
theorem s_103_33 (cl : am_C) (a1 a2 : Option am_V) (x : Nat) (st : List am_V) (h : am_H) : am_go0 cl 103 33 [some (.inr (.inr (some x))), a1, a2] st h = am_go0 cl 103 34 [some (.inr (.inr (some x))), a1, a2] (.inr (.inr (some x)) :: st) h := am_r am_m103 d_103_33 rfl
theorem d_103_34 : am_code 103 34 = some (.dup, 1) := by decide +kernel
theorem s_103_34 (cl : am_C) (ls : am_Ls) (x : Nat) (st : List am_V) (h : am_H) : am_go0 cl 103 34 ls (.inr (.inr (some x)) :: st) h = am_go0 cl 103 35 ls (.inr (.inr (some x)) :: .inr (.inr (some x)) :: st) h := am_r am_m103 d_103_34 rfl
theorem d_103_35 : am_code 103 35 = some (.getfield 29, 3) := by decide +kernel
theorem s_103_35 (cl : am_C) (ls : am_Ls) (st : List am_V) (N : Nat) (I : Nat → Int → Int) (L : Nat → Int → Int64) : am_go0 cl 103 35 ls (.inr (.inr (some 44)) :: st) (am_GS N, am_GR, I, L) = am_go0 cl 103 38 ls (.inl (I 44 12) :: st) (am_GS N, am_GR, I, L) := am_rG0 am_m103 d_103_35 am_f7029 rfl (gs_44 N) (by decide) rfl
theorem d_103_38 : am_code 103 38 = some (.iconst 1, 1) := by decide +kernel
theorem s_103_38 (cl : am_C) (ls : am_Ls) (st : List am_V) (h : am_H) : am_go0 cl 103 38 ls st h = am_go0 cl 103 39 ls (.inl 1 :: st) h := am_rK am_m103 d_103_38 (by decide) rfl _ _ _
theorem d_103_39 : am_code 103 39 = some (.isub, 1) := by decide +kernel
theorem s_103_39 (cl : am_C) (ls : am_Ls) (x y : Int) (st : List am_V) (h : am_H) : am_go0 cl 103 39 ls (.inl y :: .inl x :: st) h = am_go0 cl 103 40 ls (.inl (am_wr (x - y)) :: st) h := am_r am_m103 d_103_39 rfl
theorem d_103_40 : am_code 103 40 = some (.putfield 29, 3) := by decide +kernel
theorem s_103_40 (cl : am_C) (ls : am_Ls) (v : Int) (st : List am_V) (N : Nat) (I : Nat → Int → Int) (L : Nat → Int → Int64) : am_go0 cl 103 40 ls (.inl v :: .inr (.inr (some 44)) :: st) (am_GS N, am_GR, I, L) = am_go0 cl 103 43 ls st (am_GS N, am_GR, am_uI I 44 12 v, L) := am_rP0 am_m103 d_103_40 am_f7029 rfl (gs_44 N) (by decide) rfl
theorem d_103_43 : am_code 103 43 = some (.aload_n 0, 1) := by decide +kernel
theorem s_103_43 (cl : am_C) (a1 a2 : Option am_V) (x : Nat) (st : List am_V) (h : am_H) : am_go0 cl 103 43 [some (.inr (.inr (some x))), a1, a2] st h = am_go0 cl 103 44 [some (.inr (.inr (some x))), a1, a2] (.inr (.inr (some x)) :: st) h := am_r am_m103 d_103_43 rfl
theorem d_103_44 : am_code 103 44 = some (.getfield 66, 3) := by decide +kernel
theorem s_103_44 (cl : am_C) (ls : am_Ls) (st : List am_V) (N : Nat) (I : Nat → Int → Int) (L : Nat → Int → Int64) : am_go0 cl 103 44 ls (.inr (.inr (some 44)) :: st) (am_GS N, am_GR, I, L) = am_go0 cl 103 47 ls (.inr (.inr (some 29)) :: st) (am_GS N, am_GR, I, L) := am_rG2 am_m103 d_103_44 am_f7066 rfl (gs_44 N) (by decide) gr_44_4 rfl
theorem d_103_47 : am_code 103 47 = some (.aload_n 0, 1) := by decide +kernel
theorem s_103_47 (cl : am_C) (a1 a2 : Option am_V) (x : Nat) (st : List am_V) (h : am_H) : am_go0 cl 103 47 [some (.inr (.inr (some x))), a1, a2] st h = am_go0 cl 103 48 [some (.inr (.inr (some x))), a1, a2] (.inr (.inr (some x)) :: st) h := am_r am_m103 d_103_47 rfl
theorem d_103_48 : am_code 103 48 = some (.getfield 13, 3) := by decide +kernel
theorem s_103_48 (cl : am_C) (ls : am_Ls) (st : List am_V) (N : Nat) (I : Nat → Int → Int) (L : Nat → Int → Int64) : am_go0 cl 103 48 ls (.inr (.inr (some 44)) :: st) (am_GS N, am_GR, I, L) = am_go0 cl 103 51 ls (.inr (.inr (some 45)) :: st) (am_GS N, am_GR, I, L) := am_rG2 am_m103 d_103_48 am_f7013 rfl (gs_44 N) (by decide) gr_44_7 rfl
theorem d_103_51 : am_code 103 51 = some (.aload_n 0, 1) := by decide +kernel
theorem s_103_51 (cl : am_C) (a1 a2 : Option am_V) (x : Nat) (st : List am_V) (h : am_H) : am_go0 cl 103 51 [some (.inr (.inr (some x))), a1, a2] st h = am_go0 cl 103 52 [some (.inr (.inr (some x))), a1, a2] (.inr (.inr (some x)) :: st) h := am_r am_m103 d_103_51 rfl
theorem d_103_52 : am_code 103 52 = some (.getfield 29, 3) := by decide +kernel
theorem s_103_52 (cl : am_C) (ls : am_Ls) (st : List am_V) (N : Nat) (I : Nat → Int → Int) (L : Nat → Int → Int64) : am_go0 cl 103 52 ls (.inr (.inr (some 44)) :: st) (am_GS N, am_GR, I, L) = am_go0 cl 103 55 ls (.inl (I 44 12) :: st) (am_GS N, am_GR, I, L) := am_rG0 am_m103 d_103_52 am_f7029 rfl (gs_44 N) (by decide) rfl
theorem d_103_55 : am_code 103 55 = some (.iaload, 1) := by decide +kernel
theorem s_103_55 (cl : am_C) (ls : am_Ls) (i : Int) (k : Nat) (st : List am_V) (N : Nat) (I : Nat → Int → Int) (L : Nat → Int → Int64) : am_go0 cl 103 55 ls (.inl i :: .inr (.inr (some k)) :: st) (am_GS N, am_GR, I, L) = if am_inb (am_GS N) k 0 i = true then am_go0 cl 103 56 ls (.inl (I k i) :: st) (am_GS N, am_GR, I, L) else none := am_rA am_m103 d_103_55 (by decide) rfl k ls st i _ _ I L
theorem d_103_56 : am_code 103 56 = some (.aload_n 0, 1) := by decide +kernel
theorem s_103_56 (cl : am_C) (a1 a2 : Option am_V) (x : Nat) (st : List am_V) (h : am_H) : am_go0 cl 103 56 [some (.inr (.inr (some x))), a1, a2] st h = am_go0 cl 103 57 [some (.inr (.inr (some x))), a1, a2] (.inr (.inr (some x)) :: st) h := am_r am_m103 d_103_56 rfl
theorem d_103_57 : am_code 103 57 = some (.getfield 17, 3) := by decide +kernel
theorem s_103_57 (cl : am_C) (ls : am_Ls) (st : List am_V) (N : Nat) (I : Nat → Int → Int) (L : Nat → Int → Int64) : am_go0 cl 103 57 ls (.inr (.inr (some 44)) :: st) (am_GS N, am_GR, I, L) = am_go0 cl 103 60 ls (.inr (.inr (some 46)) :: st) (am_GS N, am_GR, I, L) := am_rG2 am_m103 d_103_57 am_f7017 rfl (gs_44 N) (by decide) gr_44_8 rfl
theorem d_103_60 : am_code 103 60 = some (.aload_n 0, 1) := by decide +kernel
theorem s_103_60 (cl : am_C) (a1 a2 : Option am_V) (x : Nat) (st : List am_V) (h : am_H) : am_go0 cl 103 60 [some (.inr (.inr (some x))), a1, a2] st h = am_go0 cl 103 61 [some (.inr (.inr (some x))), a1, a2] (.inr (.inr (some x)) :: st) h := am_r am_m103 d_103_60 rfl
theorem d_103_61 : am_code 103 61 = some (.getfield 29, 3) := by decide +kernel
theorem s_103_61 (cl : am_C) (ls : am_Ls) (st : List am_V) (N : Nat) (I : Nat → Int → Int) (L : Nat → Int → Int64) : am_go0 cl 103 61 ls (.inr (.inr (some 44)) :: st) (am_GS N, am_GR, I, L) = am_go0 cl 103 64 ls (.inl (I 44 12) :: st) (am_GS N, am_GR, I, L) := am_rG0 am_m103 d_103_61 am_f7029 rfl (gs_44 N) (by decide) rfl
theorem d_103_64 : am_code 103 64 = some (.iaload, 1) := by decide +kernel
theorem s_103_64 (cl : am_C) (ls : am_Ls) (i : Int) (k : Nat) (st : List am_V) (N : Nat) (I : Nat → Int → Int) (L : Nat → Int → Int64) : am_go0 cl 103 64 ls (.inl i :: .inr (.inr (some k)) :: st) (am_GS N, am_GR, I, L) = if am_inb (am_GS N) k 0 i = true then am_go0 cl 103 65 ls (.inl (I k i) :: st) (am_GS N, am_GR, I, L) else none := am_rA am_m103 d_103_64 (by decide) rfl k ls st i _ _ I L
theorem d_103_65 : am_code 103 65 = some (.lload_n 1, 1) := by decide +kernel
theorem s_103_65 (cl : am_C) (a0 a2 : Option am_V) (x : Int64) (st : List am_V) (h : am_H) : am_go0 cl 103 65 [a0, some (.inr (.inl x)), a2] st h = am_go0 cl 103 66 [a0, some (.inr (.inl x)), a2] (.inr (.inl x) :: st) h := am_r am_m103 d_103_65 rfl
theorem d_103_66 : am_code 103 66 = some (.invokevirtual 194, 3) := by decide +kernel
theorem s_103_66 (cl : am_C) (ls : am_Ls) (x0 : Int) (x1 : Int) (x2 : Int64) (N : Nat) (I : Nat → Int → Int) (L : Nat → Int → Int64) : am_go0 cl 103 66 ls [.inr (.inl x2), .inl x1, .inl x0, .inr (.inr (some 29))] (am_GS N, am_GR, I, L) = am_bd (cl 94 [.inr (.inr (some 29)), .inl x0, .inl x1, .inr (.inl x2)] (am_GS N, am_GR, I, L)) (fun v h2 => am_go0 cl 103 69 ls (v.toList ++ []) h2) := am_rV am_m103 d_103_66 am_k7194 rfl am_m94 (gs_29 N) (by decide) (Nat.le_of_ble_eq_true rfl) rfl ls
theorem d_103_69 : am_code 103 69 = some (.aload_n 0, 1) := by decide +kernel
theorem s_103_69 (cl : am_C) (a1 a2 : Option am_V) (x : Nat) (st : List am_V) (h : am_H) : am_go0 cl 103 69 [some (.inr (.inr (some x))), a1, a2] st h = am_go0 cl 103 70 [some (.inr (.inr (some x))), a1, a2] (.inr (.inr (some x)) :: st) h := am_r am_m103 d_103_69 rfl
theorem d_103_70 : am_code 103 70 = some (.getfield 74, 3) := by decide +kernel
theorem s_103_70 (cl : am_C) (ls : am_Ls) (st : List am_V) (N : Nat) (I : Nat → Int → Int) (L : Nat → Int → Int64) : am_go0 cl 103 70 ls (.inr (.inr (some 44)) :: st) (am_GS N, am_GR, I, L) = am_go0 cl 103 73 ls (.inr (.inr (some 41)) :: st) (am_GS N, am_GR, I, L) := am_rG2 am_m103 d_103_70 am_f7074 rfl (gs_44 N) (by decide) gr_44_6 rfl
theorem d_103_73 : am_code 103 73 = some (.aload_n 0, 1) := by decide +kernel
theorem s_103_73 (cl : am_C) (a1 a2 : Option am_V) (x : Nat) (st : List am_V) (h : am_H) : am_go0 cl 103 73 [some (.inr (.inr (some x))), a1, a2] st h = am_go0 cl 103 74 [some (.inr (.inr (some x))), a1, a2] (.inr (.inr (some x)) :: st) h := am_r am_m103 d_103_73 rfl
theorem d_103_74 : am_code 103 74 = some (.getfield 13, 3) := by decide +kernel
theorem s_103_74 (cl : am_C) (ls : am_Ls) (st : List am_V) (N : Nat) (I : Nat → Int → Int) (L : Nat → Int → Int64) : am_go0 cl 103 74 ls (.inr (.inr (some 44)) :: st) (am_GS N, am_GR, I, L) = am_go0 cl 103 77 ls (.inr (.inr (some 45)) :: st) (am_GS N, am_GR, I, L) := am_rG2 am_m103 d_103_74 am_f7013 rfl (gs_44 N) (by decide) gr_44_7 rfl
theorem d_103_77 : am_code 103 77 = some (.aload_n 0, 1) := by decide +kernel
theorem s_103_77 (cl : am_C) (a1 a2 : Option am_V) (x : Nat) (st : List am_V) (h : am_H) : am_go0 cl 103 77 [some (.inr (.inr (some x))), a1, a2] st h = am_go0 cl 103 78 [some (.inr (.inr (some x))), a1, a2] (.inr (.inr (some x)) :: st) h := am_r am_m103 d_103_77 rfl
theorem d_103_78 : am_code 103 78 = some (.getfield 29, 3) := by decide +kernel
theorem s_103_78 (cl : am_C) (ls : am_Ls) (st : List am_V) (N : Nat) (I : Nat → Int → Int) (L : Nat → Int → Int64) : am_go0 cl 103 78 ls (.inr (.inr (some 44)) :: st) (am_GS N, am_GR, I, L) = am_go0 cl 103 81 ls (.inl (I 44 12) :: st) (am_GS N, am_GR, I, L) := am_rG0 am_m103 d_103_78 am_f7029 rfl (gs_44 N) (by decide) rfl
theorem d_103_81 : am_code 103 81 = some (.iaload, 1) := by decide +kernel
theorem s_103_81 (cl : am_C) (ls : am_Ls) (i : Int) (k : Nat) (st : List am_V) (N : Nat) (I : Nat → Int → Int) (L : Nat → Int → Int64) : am_go0 cl 103 81 ls (.inl i :: .inr (.inr (some k)) :: st) (am_GS N, am_GR, I, L) = if am_inb (am_GS N) k 0 i = true then am_go0 cl 103 82 ls (.inl (I k i) :: st) (am_GS N, am_GR, I, L) else none := am_rA am_m103 d_103_81 (by decide) rfl k ls st i _ _ I L
theorem d_103_82 : am_code 103 82 = some (.aload_n 0, 1) := by decide +kernel
theorem s_103_82 (cl : am_C) (a1 a2 : Option am_V) (x : Nat) (st : List am_V) (h : am_H) : am_go0 cl 103 82 [some (.inr (.inr (some x))), a1, a2] st h = am_go0 cl 103 83 [some (.inr (.inr (some x))), a1, a2] (.inr (.inr (some x)) :: st) h := am_r am_m103 d_103_82 rfl
theorem d_103_83 : am_code 103 83 = some (.getfield 17, 3) := by decide +kernel
theorem s_103_83 (cl : am_C) (ls : am_Ls) (st : List am_V) (N : Nat) (I : Nat → Int → Int) (L : Nat → Int → Int64) : am_go0 cl 103 83 ls (.inr (.inr (some 44)) :: st) (am_GS N, am_GR, I, L) = am_go0 cl 103 86 ls (.inr (.inr (some 46)) :: st) (am_GS N, am_GR, I, L) := am_rG2 am_m103 d_103_83 am_f7017 rfl (gs_44 N) (by decide) gr_44_8 rfl
theorem d_103_86 : am_code 103 86 = some (.aload_n 0, 1) := by decide +kernel
theorem s_103_86 (cl : am_C) (a1 a2 : Option am_V) (x : Nat) (st : List am_V) (h : am_H) : am_go0 cl 103 86 [some (.inr (.inr (some x))), a1, a2] st h = am_go0 cl 103 87 [some (.inr (.inr (some x))), a1, a2] (.inr (.inr (some x)) :: st) h := am_r am_m103 d_103_86 rfl
theorem d_103_87 : am_code 103 87 = some (.getfield 29, 3) := by decide +kernel
theorem s_103_87 (cl : am_C) (ls : am_Ls) (st : List am_V) (N : Nat) (I : Nat → Int → Int) (L : Nat → Int → Int64) : am_go0 cl 103 87 ls (.inr (.inr (some 44)) :: st) (am_GS N, am_GR, I, L) = am_go0 cl 103 90 ls (.inl (I 44 12) :: st) (am_GS N, am_GR, I, L) := am_rG0 am_m103 d_103_87 am_f7029 rfl (gs_44 N) (by decide) rfl
theorem d_103_90 : am_code 103 90 = some (.iaload, 1) := by decide +kernel
theorem s_103_90 (cl : am_C) (ls : am_Ls) (i : Int) (k : Nat) (st : List am_V) (N : Nat) (I : Nat → Int → Int) (L : Nat → Int → Int64) : am_go0 cl 103 90 ls (.inl i :: .inr (.inr (some k)) :: st) (am_GS N, am_GR, I, L) = if am_inb (am_GS N) k 0 i = true then am_go0 cl 103 91 ls (.inl (I k i) :: st) (am_GS N, am_GR, I, L) else none := am_rA am_m103 d_103_90 (by decide) rfl k ls st i _ _ I L
theorem d_103_91 : am_code 103 91 = some (.invokevirtual 198, 3) := by decide +kernel
theorem s_103_91 (cl : am_C) (ls : am_Ls) (x0 : Int) (x1 : Int) (N : Nat) (I : Nat → Int → Int) (L : Nat → Int → Int64) : am_go0 cl 103 91 ls [.inl x1, .inl x0, .inr (.inr (some 41))] (am_GS N, am_GR, I, L) = am_bd (cl 62 [.inr (.inr (some 41)), .inl x0, .inl x1] (am_GS N, am_GR, I, L)) (fun v h2 => am_go0 cl 103 94 ls (v.toList ++ []) h2) := am_rV am_m103 d_103_91 am_k7198 rfl am_m62 (gs_41 N) (by decide) (Nat.le_of_ble_eq_true rfl) rfl ls
theorem d_103_94 : am_code 103 94 = some (.return_, 1) := by decide +kernel
theorem s_103_94 (cl : am_C) (ls : am_Ls) (h : am_H) : am_go0 cl 103 94 ls [] h = some (none, h) := am_rE am_m103 d_103_94 rfl
theorem e_103 (d : Nat) (t : Nat) (p0 : Int64) (h : am_H) : am_call (d + 1) 103 [.inr (.inr (some t)), .inr (.inl p0)] h = am_go0 (am_call d) 103 0 [some (.inr (.inr (some t))), some (.inr (.inl p0)), none] [] h := am_callE am_m103 (Nat.le_of_ble_eq_true rfl) rfl
theorem d_104_0 : am_code 104 0 = some (.iload_n 2, 1) := by decide +kernel
theorem s_104_0 (cl : am_C) (a0 a1 : Option am_V) (x : Int) (st : List am_V) (h : am_H) : am_go0 cl 104 0 [a0, a1, some (.inl x)] st h = am_go0 cl 104 1 [a0, a1, some (.inl x)] (.inl x :: st) h := am_r am_m104 d_104_0 rfl
theorem d_104_1 : am_code 104 1 = some (.ifCond .ne 18, 3) := by decide +kernel
theorem s_104_1 (cl : am_C) (ls : am_Ls) (x : Int) (st : List am_V) (h : am_H) : am_go0 cl 104 1 ls (.inl x :: st) h = if x = 0 then am_go0 cl 104 4 ls st h else am_go0 cl 104 19 ls st h := (am_rJ1 am_m104 d_104_1 (by decide) rfl x ls st h).trans (am_ifF ((am_cmp_ne x 0).trans Iff.rfl) _ _)
theorem d_104_4 : am_code 104 4 = some (.aload_n 0, 1) := by decide +kernel
theorem s_104_4 (cl : am_C) (a1 a2 : Option am_V) (x : Nat) (st : List am_V) (h : am_H) : am_go0 cl 104 4 [some (.inr (.inr (some x))), a1, a2] st h = am_go0 cl 104 5 [some (.inr (.inr (some x))), a1, a2] (.inr (.inr (some x)) :: st) h := am_r am_m104 d_104_4 rfl
theorem d_104_5 : am_code 104 5 = some (.aload_n 0, 1) := by decide +kernel
theorem s_104_5 (cl : am_C) (a1 a2 : Option am_V) (x : Nat) (st : List am_V) (h : am_H) : am_go0 cl 104 5 [some (.inr (.inr (some x))), a1, a2] st h = am_go0 cl 104 6 [some (.inr (.inr (some x))), a1, a2] (.inr (.inr (some x)) :: st) h := am_r am_m104 d_104_5 rfl
theorem d_104_6 : am_code 104 6 = some (.getfield 54, 3) := by decide +kernel
theorem s_104_6 (cl : am_C) (ls : am_Ls) (st : List am_V) (N : Nat) (I : Nat → Int → Int) (L : Nat → Int → Int64) : am_go0 cl 104 6 ls (.inr (.inr (some 44)) :: st) (am_GS N, am_GR, I, L) = am_go0 cl 104 9 ls (.inr (.inr (some 22)) :: st) (am_GS N, am_GR, I, L) := am_rG2 am_m104 d_104_6 am_f7054 rfl (gs_44 N) (by decide) gr_44_1 rfl
theorem d_104_9 : am_code 104 9 = some (.iload_n 1, 1) := by decide +kernel
theorem s_104_9 (cl : am_C) (a0 a2 : Option am_V) (x : Int) (st : List am_V) (h : am_H) : am_go0 cl 104 9 [a0, some (.inl x), a2] st h = am_go0 cl 104 10 [a0, some (.inl x), a2] (.inl x :: st) h := am_r am_m104 d_104_9 rfl
theorem d_104_10 : am_code 104 10 = some (.invokevirtual 159, 3) := by decide +kernel
theorem s_104_10 (cl : am_C) (ls : am_Ls) (x0 : Int) (z0 : Nat) (N : Nat) (I : Nat → Int → Int) (L : Nat → Int → Int64) : am_go0 cl 104 10 ls [.inl x0, .inr (.inr (some 22)), .inr (.inr (some z0))] (am_GS N, am_GR, I, L) = am_bd (cl 54 [.inr (.inr (some 22)), .inl x0] (am_GS N, am_GR, I, L)) (fun v h2 => am_go0 cl 104 13 ls (v.toList ++ [.inr (.inr (some z0))]) h2) := am_rV am_m104 d_104_10 am_k7159 rfl am_m54 (gs_22 N) (by decide) (Nat.le_of_ble_eq_true rfl) rfl ls
theorem d_104_13 : am_code 104 13 = some (.invokevirtual 152, 3) := by decide +kernel
theorem s_104_13 (cl : am_C) (ls : am_Ls) (x0 : Int) (N : Nat) (I : Nat → Int → Int) (L : Nat → Int → Int64) : am_go0 cl 104 13 ls [.inl x0, .inr (.inr (some 44))] (am_GS N, am_GR, I, L) = am_bd (cl 101 [.inr (.inr (some 44)), .inl x0] (am_GS N, am_GR, I, L)) (fun v h2 => am_go0 cl 104 16 ls (v.toList ++ []) h2) := am_rV am_m104 d_104_13 am_k7152 rfl am_m101 (gs_44 N) (by decide) (Nat.le_of_ble_eq_true rfl) rfl ls
theorem d_104_16 : am_code 104 16 = some (.goto 51, 3) := by decide +kernel
theorem s_104_16 (cl : am_C) (ls : am_Ls) (st : List am_V) (h : am_H) : am_go0 cl 104 16 ls st h = am_go0 cl 104 67 ls st h := am_rGo am_m104 d_104_16 (by decide) _ _ _
theorem d_104_19 : am_code 104 19 = some (.iload_n 2, 1) := by decide +kernel
theorem s_104_19 (cl : am_C) (a0 a1 : Option am_V) (x : Int) (st : List am_V) (h : am_H) : am_go0 cl 104 19 [a0, a1, some (.inl x)] st h = am_go0 cl 104 20 [a0, a1, some (.inl x)] (.inl x :: st) h := am_r am_m104 d_104_19 rfl
theorem d_104_20 : am_code 104 20 = some (.iconst 1, 1) := by decide +kernel
theorem s_104_20 (cl : am_C) (ls : am_Ls) (st : List am_V) (h : am_H) : am_go0 cl 104 20 ls st h = am_go0 cl 104 21 ls (.inl 1 :: st) h := am_rK am_m104 d_104_20 (by decide) rfl _ _ _
theorem d_104_21 : am_code 104 21 = some (.if_icmp .ne 38, 3) := by decide +kernel
theorem s_104_21 (cl : am_C) (ls : am_Ls) (x y : Int) (st : List am_V) (h : am_H) : am_go0 cl 104 21 ls (.inl y :: .inl x :: st) h = if x = y then am_go0 cl 104 24 ls st h else am_go0 cl 104 59 ls st h := (am_rJ0 am_m104 d_104_21 (by decide) rfl x y ls st h).trans (am_ifF ((am_cmp_ne x y).trans Iff.rfl) _ _)
theorem d_104_24 : am_code 104 24 = some (.aload_n 0, 1) := by decide +kernel
theorem s_104_24 (cl : am_C) (a1 a2 : Option am_V) (x : Nat) (st : List am_V) (h : am_H) : am_go0 cl 104 24 [some (.inr (.inr (some x))), a1, a2] st h = am_go0 cl 104 25 [some (.inr (.inr (some x))), a1, a2] (.inr (.inr (some x)) :: st) h := am_r am_m104 d_104_24 rfl
theorem d_104_25 : am_code 104 25 = some (.aload_n 0, 1) := by decide +kernel
theorem s_104_25 (cl : am_C) (a1 a2 : Option am_V) (x : Nat) (st : List am_V) (h : am_H) : am_go0 cl 104 25 [some (.inr (.inr (some x))), a1, a2] st h = am_go0 cl 104 26 [some (.inr (.inr (some x))), a1, a2] (.inr (.inr (some x)) :: st) h := am_r am_m104 d_104_25 rfl
theorem d_104_26 : am_code 104 26 = some (.getfield 46, 3) := by decide +kernel
theorem s_104_26 (cl : am_C) (ls : am_Ls) (st : List am_V) (N : Nat) (I : Nat → Int → Int) (L : Nat → Int → Int64) : am_go0 cl 104 26 ls (.inr (.inr (some 44)) :: st) (am_GS N, am_GR, I, L) = am_go0 cl 104 29 ls (.inr (.inl (L 44 17)) :: st) (am_GS N, am_GR, I, L) := am_rG1 am_m104 d_104_26 am_f7046 rfl (gs_44 N) (by decide) rfl
theorem d_104_29 : am_code 104 29 = some (.lconst 0, 1) := by decide +kernel
theorem s_104_29 (cl : am_C) (ls : am_Ls) (st : List am_V) (h : am_H) : am_go0 cl 104 29 ls st h = am_go0 cl 104 30 ls (.inr (.inl 0) :: st) h := am_r am_m104 d_104_29 rfl
theorem d_104_30 : am_code 104 30 = some (.lcmp, 1) := by decide +kernel
theorem s_104_30 (cl : am_C) (ls : am_Ls) (x y : Int64) (st : List am_V) (h : am_H) : am_go0 cl 104 30 ls (.inr (.inl y) :: .inr (.inl x) :: st) h = am_go0 cl 104 31 ls (.inl (lg_cmp x y).toInt :: st) h := am_r am_m104 d_104_30 rfl
theorem d_104_31 : am_code 104 31 = some (.ifCond .eq 14, 3) := by decide +kernel
theorem s_104_31 (cl : am_C) (ls : am_Ls) (x : Int) (st : List am_V) (h : am_H) : am_go0 cl 104 31 ls (.inl x :: st) h = if x = 0 then am_go0 cl 104 45 ls st h else am_go0 cl 104 34 ls st h := (am_rJ1 am_m104 d_104_31 (by decide) rfl x ls st h).trans (am_ifT (am_cmp_eq x 0) _ _)
theorem d_104_34 : am_code 104 34 = some (.aload_n 0, 1) := by decide +kernel
theorem s_104_34 (cl : am_C) (a1 a2 : Option am_V) (x : Nat) (st : List am_V) (h : am_H) : am_go0 cl 104 34 [some (.inr (.inr (some x))), a1, a2] st h = am_go0 cl 104 35 [some (.inr (.inr (some x))), a1, a2] (.inr (.inr (some x)) :: st) h := am_r am_m104 d_104_34 rfl
theorem d_104_35 : am_code 104 35 = some (.getfield 54, 3) := by decide +kernel
theorem s_104_35 (cl : am_C) (ls : am_Ls) (st : List am_V) (N : Nat) (I : Nat → Int → Int) (L : Nat → Int → Int64) : am_go0 cl 104 35 ls (.inr (.inr (some 44)) :: st) (am_GS N, am_GR, I, L) = am_go0 cl 104 38 ls (.inr (.inr (some 22)) :: st) (am_GS N, am_GR, I, L) := am_rG2 am_m104 d_104_35 am_f7054 rfl (gs_44 N) (by decide) gr_44_1 rfl
theorem d_104_38 : am_code 104 38 = some (.iload_n 1, 1) := by decide +kernel
theorem s_104_38 (cl : am_C) (a0 a2 : Option am_V) (x : Int) (st : List am_V) (h : am_H) : am_go0 cl 104 38 [a0, some (.inl x), a2] st h = am_go0 cl 104 39 [a0, some (.inl x), a2] (.inl x :: st) h := am_r am_m104 d_104_38 rfl
theorem d_104_39 : am_code 104 39 = some (.invokevirtual 181, 3) := by decide +kernel
theorem s_104_39 (cl : am_C) (ls : am_Ls) (x0 : Int) (z0 : Nat) (N : Nat) (I : Nat → Int → Int) (L : Nat → Int → Int64) : am_go0 cl 104 39 ls [.inl x0, .inr (.inr (some 22)), .inr (.inr (some z0))] (am_GS N, am_GR, I, L) = am_bd (cl 55 [.inr (.inr (some 22)), .inl x0] (am_GS N, am_GR, I, L)) (fun v h2 => am_go0 cl 104 42 ls (v.toList ++ [.inr (.inr (some z0))]) h2) := am_rV am_m104 d_104_39 am_k7181 rfl am_m55 (gs_22 N) (by decide) (Nat.le_of_ble_eq_true rfl) rfl ls
theorem d_104_42 : am_code 104 42 = some (.goto 11, 3) := by decide +kernel
theorem s_104_42 (cl : am_C) (ls : am_Ls) (st : List am_V) (h : am_H) : am_go0 cl 104 42 ls st h = am_go0 cl 104 53 ls st h := am_rGo am_m104 d_104_42 (by decide) _ _ _
theorem d_104_45 : am_code 104 45 = some (.aload_n 0, 1) := by decide +kernel
theorem s_104_45 (cl : am_C) (a1 a2 : Option am_V) (x : Nat) (st : List am_V) (h : am_H) : am_go0 cl 104 45 [some (.inr (.inr (some x))), a1, a2] st h = am_go0 cl 104 46 [some (.inr (.inr (some x))), a1, a2] (.inr (.inr (some x)) :: st) h := am_r am_m104 d_104_45 rfl
theorem d_104_46 : am_code 104 46 = some (.getfield 54, 3) := by decide +kernel
theorem s_104_46 (cl : am_C) (ls : am_Ls) (st : List am_V) (N : Nat) (I : Nat → Int → Int) (L : Nat → Int → Int64) : am_go0 cl 104 46 ls (.inr (.inr (some 44)) :: st) (am_GS N, am_GR, I, L) = am_go0 cl 104 49 ls (.inr (.inr (some 22)) :: st) (am_GS N, am_GR, I, L) := am_rG2 am_m104 d_104_46 am_f7054 rfl (gs_44 N) (by decide) gr_44_1 rfl
theorem d_104_49 : am_code 104 49 = some (.iload_n 1, 1) := by decide +kernel
theorem s_104_49 (cl : am_C) (a0 a2 : Option am_V) (x : Int) (st : List am_V) (h : am_H) : am_go0 cl 104 49 [a0, some (.inl x), a2] st h = am_go0 cl 104 50 [a0, some (.inl x), a2] (.inl x :: st) h := am_r am_m104 d_104_49 rfl
theorem d_104_50 : am_code 104 50 = some (.invokevirtual 184, 3) := by decide +kernel
theorem s_104_50 (cl : am_C) (ls : am_Ls) (x0 : Int) (z0 : Nat) (N : Nat) (I : Nat → Int → Int) (L : Nat → Int → Int64) : am_go0 cl 104 50 ls [.inl x0, .inr (.inr (some 22)), .inr (.inr (some z0))] (am_GS N, am_GR, I, L) = am_bd (cl 56 [.inr (.inr (some 22)), .inl x0] (am_GS N, am_GR, I, L)) (fun v h2 => am_go0 cl 104 53 ls (v.toList ++ [.inr (.inr (some z0))]) h2) := am_rV am_m104 d_104_50 am_k7184 rfl am_m56 (gs_22 N) (by decide) (Nat.le_of_ble_eq_true rfl) rfl ls
theorem d_104_53 : am_code 104 53 = some (.invokevirtual 152, 3) := by decide +kernel
theorem s_104_53 (cl : am_C) (ls : am_Ls) (x0 : Int) (N : Nat) (I : Nat → Int → Int) (L : Nat → Int → Int64) : am_go0 cl 104 53 ls [.inl x0, .inr (.inr (some 44))] (am_GS N, am_GR, I, L) = am_bd (cl 101 [.inr (.inr (some 44)), .inl x0] (am_GS N, am_GR, I, L)) (fun v h2 => am_go0 cl 104 56 ls (v.toList ++ []) h2) := am_rV am_m104 d_104_53 am_k7152 rfl am_m101 (gs_44 N) (by decide) (Nat.le_of_ble_eq_true rfl) rfl ls
theorem d_104_56 : am_code 104 56 = some (.goto 11, 3) := by decide +kernel
theorem s_104_56 (cl : am_C) (ls : am_Ls) (st : List am_V) (h : am_H) : am_go0 cl 104 56 ls st h = am_go0 cl 104 67 ls st h := am_rGo am_m104 d_104_56 (by decide) _ _ _
theorem d_104_59 : am_code 104 59 = some (.aload_n 0, 1) := by decide +kernel
theorem s_104_59 (cl : am_C) (a1 a2 : Option am_V) (x : Nat) (st : List am_V) (h : am_H) : am_go0 cl 104 59 [some (.inr (.inr (some x))), a1, a2] st h = am_go0 cl 104 60 [some (.inr (.inr (some x))), a1, a2] (.inr (.inr (some x)) :: st) h := am_r am_m104 d_104_59 rfl
theorem d_104_60 : am_code 104 60 = some (.aload_n 0, 1) := by decide +kernel
theorem s_104_60 (cl : am_C) (a1 a2 : Option am_V) (x : Nat) (st : List am_V) (h : am_H) : am_go0 cl 104 60 [some (.inr (.inr (some x))), a1, a2] st h = am_go0 cl 104 61 [some (.inr (.inr (some x))), a1, a2] (.inr (.inr (some x)) :: st) h := am_r am_m104 d_104_60 rfl
theorem d_104_61 : am_code 104 61 = some (.getfield 46, 3) := by decide +kernel
theorem s_104_61 (cl : am_C) (ls : am_Ls) (st : List am_V) (N : Nat) (I : Nat → Int → Int) (L : Nat → Int → Int64) : am_go0 cl 104 61 ls (.inr (.inr (some 44)) :: st) (am_GS N, am_GR, I, L) = am_go0 cl 104 64 ls (.inr (.inl (L 44 17)) :: st) (am_GS N, am_GR, I, L) := am_rG1 am_m104 d_104_61 am_f7046 rfl (gs_44 N) (by decide) rfl
theorem d_104_64 : am_code 104 64 = some (.invokevirtual 162, 3) := by decide +kernel
theorem s_104_64 (cl : am_C) (ls : am_Ls) (x0 : Int64) (N : Nat) (I : Nat → Int → Int) (L : Nat → Int → Int64) : am_go0 cl 104 64 ls [.inr (.inl x0), .inr (.inr (some 44))] (am_GS N, am_GR, I, L) = am_bd (cl 103 [.inr (.inr (some 44)), .inr (.inl x0)] (am_GS N, am_GR, I, L)) (fun v h2 => am_go0 cl 104 67 ls (v.toList ++ []) h2) := am_rV am_m104 d_104_64 am_k7162 rfl am_m103 (gs_44 N) (by decide) (Nat.le_of_ble_eq_true rfl) rfl ls
theorem d_104_67 : am_code 104 67 = some (.return_, 1) := by decide +kernel
theorem s_104_67 (cl : am_C) (ls : am_Ls) (h : am_H) : am_go0 cl 104 67 ls [] h = some (none, h) := am_rE am_m104 d_104_67 rfl
theorem e_104 (d : Nat) (t : Nat) (p0 : Int) (p1 : Int) (h : am_H) : am_call (d + 1) 104 [.inr (.inr (some t)), .inl p0, .inl p1] h = am_go0 (am_call d) 104 0 [some (.inr (.inr (some t))), some (.inl p0), some (.inl p1)] [] h := am_callE am_m104 (Nat.le_of_ble_eq_true rfl) rfl
theorem d_105_0 : am_code 105 0 = some (.iload_n 2, 1) := by decide +kernel
theorem s_105_0 (cl : am_C) (a0 a1 : Option am_V) (x : Int) (st : List am_V) (h : am_H) : am_go0 cl 105 0 [a0, a1, some (.inl x)] st h = am_go0 cl 105 1 [a0, a1, some (.inl x)] (.inl x :: st) h := am_r am_m105 d_105_0 rfl
theorem d_105_1 : am_code 105 1 = some (.ifCond .ne 18, 3) := by decide +kernel
theorem s_105_1 (cl : am_C) (ls : am_Ls) (x : Int) (st : List am_V) (h : am_H) : am_go0 cl 105 1 ls (.inl x :: st) h = if x = 0 then am_go0 cl 105 4 ls st h else am_go0 cl 105 19 ls st h := (am_rJ1 am_m105 d_105_1 (by decide) rfl x ls st h).trans (am_ifF ((am_cmp_ne x 0).trans Iff.rfl) _ _)
theorem d_105_4 : am_code 105 4 = some (.aload_n 0, 1) := by decide +kernel
theorem s_105_4 (cl : am_C) (a1 a2 : Option am_V) (x : Nat) (st : List am_V) (h : am_H) : am_go0 cl 105 4 [some (.inr (.inr (some x))), a1, a2] st h = am_go0 cl 105 5 [some (.inr (.inr (some x))), a1, a2] (.inr (.inr (some x)) :: st) h := am_r am_m105 d_105_4 rfl
theorem d_105_5 : am_code 105 5 = some (.aload_n 0, 1) := by decide +kernel
theorem s_105_5 (cl : am_C) (a1 a2 : Option am_V) (x : Nat) (st : List am_V) (h : am_H) : am_go0 cl 105 5 [some (.inr (.inr (some x))), a1, a2] st h = am_go0 cl 105 6 [some (.inr (.inr (some x))), a1, a2] (.inr (.inr (some x)) :: st) h := am_r am_m105 d_105_5 rfl
theorem d_105_6 : am_code 105 6 = some (.getfield 54, 3) := by decide +kernel
theorem s_105_6 (cl : am_C) (ls : am_Ls) (st : List am_V) (N : Nat) (I : Nat → Int → Int) (L : Nat → Int → Int64) : am_go0 cl 105 6 ls (.inr (.inr (some 44)) :: st) (am_GS N, am_GR, I, L) = am_go0 cl 105 9 ls (.inr (.inr (some 22)) :: st) (am_GS N, am_GR, I, L) := am_rG2 am_m105 d_105_6 am_f7054 rfl (gs_44 N) (by decide) gr_44_1 rfl
theorem d_105_9 : am_code 105 9 = some (.iload_n 1, 1) := by decide +kernel
theorem s_105_9 (cl : am_C) (a0 a2 : Option am_V) (x : Int) (st : List am_V) (h : am_H) : am_go0 cl 105 9 [a0, some (.inl x), a2] st h = am_go0 cl 105 10 [a0, some (.inl x), a2] (.inl x :: st) h := am_r am_m105 d_105_9 rfl
theorem d_105_10 : am_code 105 10 = some (.invokevirtual 159, 3) := by decide +kernel
theorem s_105_10 (cl : am_C) (ls : am_Ls) (x0 : Int) (z0 : Nat) (N : Nat) (I : Nat → Int → Int) (L : Nat → Int → Int64) : am_go0 cl 105 10 ls [.inl x0, .inr (.inr (some 22)), .inr (.inr (some z0))] (am_GS N, am_GR, I, L) = am_bd (cl 54 [.inr (.inr (some 22)), .inl x0] (am_GS N, am_GR, I, L)) (fun v h2 => am_go0 cl 105 13 ls (v.toList ++ [.inr (.inr (some z0))]) h2) := am_rV am_m105 d_105_10 am_k7159 rfl am_m54 (gs_22 N) (by decide) (Nat.le_of_ble_eq_true rfl) rfl ls
theorem d_105_13 : am_code 105 13 = some (.invokevirtual 152, 3) := by decide +kernel
theorem s_105_13 (cl : am_C) (ls : am_Ls) (x0 : Int) (N : Nat) (I : Nat → Int → Int) (L : Nat → Int → Int64) : am_go0 cl 105 13 ls [.inl x0, .inr (.inr (some 44))] (am_GS N, am_GR, I, L) = am_bd (cl 101 [.inr (.inr (some 44)), .inl x0] (am_GS N, am_GR, I, L)) (fun v h2 => am_go0 cl 105 16 ls (v.toList ++ []) h2) := am_rV am_m105 d_105_13 am_k7152 rfl am_m101 (gs_44 N) (by decide) (Nat.le_of_ble_eq_true rfl) rfl ls
theorem d_105_16 : am_code 105 16 = some (.goto 65, 3) := by decide +kernel
theorem s_105_16 (cl : am_C) (ls : am_Ls) (st : List am_V) (h : am_H) : am_go0 cl 105 16 ls st h = am_go0 cl 105 81 ls st h := am_rGo am_m105 d_105_16 (by decide) _ _ _
theorem d_105_19 : am_code 105 19 = some (.iload_n 2, 1) := by decide +kernel
theorem s_105_19 (cl : am_C) (a0 a1 : Option am_V) (x : Int) (st : List am_V) (h : am_H) : am_go0 cl 105 19 [a0, a1, some (.inl x)] st h = am_go0 cl 105 20 [a0, a1, some (.inl x)] (.inl x :: st) h := am_r am_m105 d_105_19 rfl
theorem d_105_20 : am_code 105 20 = some (.iconst 1, 1) := by decide +kernel
theorem s_105_20 (cl : am_C) (ls : am_Ls) (st : List am_V) (h : am_H) : am_go0 cl 105 20 ls st h = am_go0 cl 105 21 ls (.inl 1 :: st) h := am_rK am_m105 d_105_20 (by decide) rfl _ _ _
theorem d_105_21 : am_code 105 21 = some (.if_icmp .ne 33, 3) := by decide +kernel
theorem s_105_21 (cl : am_C) (ls : am_Ls) (x y : Int) (st : List am_V) (h : am_H) : am_go0 cl 105 21 ls (.inl y :: .inl x :: st) h = if x = y then am_go0 cl 105 24 ls st h else am_go0 cl 105 54 ls st h := (am_rJ0 am_m105 d_105_21 (by decide) rfl x y ls st h).trans (am_ifF ((am_cmp_ne x y).trans Iff.rfl) _ _)
theorem d_105_24 : am_code 105 24 = some (.aload_n 0, 1) := by decide +kernel
theorem s_105_24 (cl : am_C) (a1 a2 : Option am_V) (x : Nat) (st : List am_V) (h : am_H) : am_go0 cl 105 24 [some (.inr (.inr (some x))), a1, a2] st h = am_go0 cl 105 25 [some (.inr (.inr (some x))), a1, a2] (.inr (.inr (some x)) :: st) h := am_r am_m105 d_105_24 rfl
theorem d_105_25 : am_code 105 25 = some (.getfield 39, 3) := by decide +kernel
theorem s_105_25 (cl : am_C) (ls : am_Ls) (st : List am_V) (N : Nat) (I : Nat → Int → Int) (L : Nat → Int → Int64) : am_go0 cl 105 25 ls (.inr (.inr (some 44)) :: st) (am_GS N, am_GR, I, L) = am_go0 cl 105 28 ls (.inr (.inr (some 52)) :: st) (am_GS N, am_GR, I, L) := am_rG2 am_m105 d_105_25 am_f7039 rfl (gs_44 N) (by decide) gr_44_15 rfl
theorem d_105_28 : am_code 105 28 = some (.aload_n 0, 1) := by decide +kernel
theorem s_105_28 (cl : am_C) (a1 a2 : Option am_V) (x : Nat) (st : List am_V) (h : am_H) : am_go0 cl 105 28 [some (.inr (.inr (some x))), a1, a2] st h = am_go0 cl 105 29 [some (.inr (.inr (some x))), a1, a2] (.inr (.inr (some x)) :: st) h := am_r am_m105 d_105_28 rfl
theorem d_105_29 : am_code 105 29 = some (.getfield 43, 3) := by decide +kernel
theorem s_105_29 (cl : am_C) (ls : am_Ls) (st : List am_V) (N : Nat) (I : Nat → Int → Int) (L : Nat → Int → Int64) : am_go0 cl 105 29 ls (.inr (.inr (some 44)) :: st) (am_GS N, am_GR, I, L) = am_go0 cl 105 32 ls (.inl (I 44 16) :: st) (am_GS N, am_GR, I, L) := am_rG0 am_m105 d_105_29 am_f7043 rfl (gs_44 N) (by decide) rfl
theorem d_105_32 : am_code 105 32 = some (.iconst 1, 1) := by decide +kernel
theorem s_105_32 (cl : am_C) (ls : am_Ls) (st : List am_V) (h : am_H) : am_go0 cl 105 32 ls st h = am_go0 cl 105 33 ls (.inl 1 :: st) h := am_rK am_m105 d_105_32 (by decide) rfl _ _ _
theorem d_105_33 : am_code 105 33 = some (.isub, 1) := by decide +kernel
theorem s_105_33 (cl : am_C) (ls : am_Ls) (x y : Int) (st : List am_V) (h : am_H) : am_go0 cl 105 33 ls (.inl y :: .inl x :: st) h = am_go0 cl 105 34 ls (.inl (am_wr (x - y)) :: st) h := am_r am_m105 d_105_33 rfl
theorem d_105_34 : am_code 105 34 = some (.aload_n 0, 1) := by decide +kernel
theorem s_105_34 (cl : am_C) (a1 a2 : Option am_V) (x : Nat) (st : List am_V) (h : am_H) : am_go0 cl 105 34 [some (.inr (.inr (some x))), a1, a2] st h = am_go0 cl 105 35 [some (.inr (.inr (some x))), a1, a2] (.inr (.inr (some x)) :: st) h := am_r am_m105 d_105_34 rfl
theorem d_105_35 : am_code 105 35 = some (.getfield 46, 3) := by decide +kernel
theorem s_105_35 (cl : am_C) (ls : am_Ls) (st : List am_V) (N : Nat) (I : Nat → Int → Int) (L : Nat → Int → Int64) : am_go0 cl 105 35 ls (.inr (.inr (some 44)) :: st) (am_GS N, am_GR, I, L) = am_go0 cl 105 38 ls (.inr (.inl (L 44 17)) :: st) (am_GS N, am_GR, I, L) := am_rG1 am_m105 d_105_35 am_f7046 rfl (gs_44 N) (by decide) rfl
theorem d_105_38 : am_code 105 38 = some (.lastore, 1) := by decide +kernel
theorem s_105_38 (cl : am_C) (ls : am_Ls) (i : Int) (v : Int64) (k : Nat) (st : List am_V) (N : Nat) (I : Nat → Int → Int) (L : Nat → Int → Int64) : am_go0 cl 105 38 ls (.inr (.inl v) :: .inl i :: .inr (.inr (some k)) :: st) (am_GS N, am_GR, I, L) = if am_inb (am_GS N) k 1 i = true then am_go0 cl 105 39 ls st (am_GS N, am_GR, I, am_uL L k i v) else none := am_rSl am_m105 d_105_38 rfl k ls st i v _ _ I L
theorem d_105_39 : am_code 105 39 = some (.aload_n 0, 1) := by decide +kernel
theorem s_105_39 (cl : am_C) (a1 a2 : Option am_V) (x : Nat) (st : List am_V) (h : am_H) : am_go0 cl 105 39 [some (.inr (.inr (some x))), a1, a2] st h = am_go0 cl 105 40 [some (.inr (.inr (some x))), a1, a2] (.inr (.inr (some x)) :: st) h := am_r am_m105 d_105_39 rfl
theorem d_105_40 : am_code 105 40 = some (.aload_n 0, 1) := by decide +kernel
theorem s_105_40 (cl : am_C) (a1 a2 : Option am_V) (x : Nat) (st : List am_V) (h : am_H) : am_go0 cl 105 40 [some (.inr (.inr (some x))), a1, a2] st h = am_go0 cl 105 41 [some (.inr (.inr (some x))), a1, a2] (.inr (.inr (some x)) :: st) h := am_r am_m105 d_105_40 rfl
theorem d_105_41 : am_code 105 41 = some (.getfield 54, 3) := by decide +kernel
theorem s_105_41 (cl : am_C) (ls : am_Ls) (st : List am_V) (N : Nat) (I : Nat → Int → Int) (L : Nat → Int → Int64) : am_go0 cl 105 41 ls (.inr (.inr (some 44)) :: st) (am_GS N, am_GR, I, L) = am_go0 cl 105 44 ls (.inr (.inr (some 22)) :: st) (am_GS N, am_GR, I, L) := am_rG2 am_m105 d_105_41 am_f7054 rfl (gs_44 N) (by decide) gr_44_1 rfl
theorem d_105_44 : am_code 105 44 = some (.iload_n 1, 1) := by decide +kernel
theorem s_105_44 (cl : am_C) (a0 a2 : Option am_V) (x : Int) (st : List am_V) (h : am_H) : am_go0 cl 105 44 [a0, some (.inl x), a2] st h = am_go0 cl 105 45 [a0, some (.inl x), a2] (.inl x :: st) h := am_r am_m105 d_105_44 rfl
theorem d_105_45 : am_code 105 45 = some (.invokevirtual 181, 3) := by decide +kernel
theorem s_105_45 (cl : am_C) (ls : am_Ls) (x0 : Int) (z0 : Nat) (N : Nat) (I : Nat → Int → Int) (L : Nat → Int → Int64) : am_go0 cl 105 45 ls [.inl x0, .inr (.inr (some 22)), .inr (.inr (some z0))] (am_GS N, am_GR, I, L) = am_bd (cl 55 [.inr (.inr (some 22)), .inl x0] (am_GS N, am_GR, I, L)) (fun v h2 => am_go0 cl 105 48 ls (v.toList ++ [.inr (.inr (some z0))]) h2) := am_rV am_m105 d_105_45 am_k7181 rfl am_m55 (gs_22 N) (by decide) (Nat.le_of_ble_eq_true rfl) rfl ls
theorem d_105_48 : am_code 105 48 = some (.invokevirtual 152, 3) := by decide +kernel
theorem s_105_48 (cl : am_C) (ls : am_Ls) (x0 : Int) (N : Nat) (I : Nat → Int → Int) (L : Nat → Int → Int64) : am_go0 cl 105 48 ls [.inl x0, .inr (.inr (some 44))] (am_GS N, am_GR, I, L) = am_bd (cl 101 [.inr (.inr (some 44)), .inl x0] (am_GS N, am_GR, I, L)) (fun v h2 => am_go0 cl 105 51 ls (v.toList ++ []) h2) := am_rV am_m105 d_105_48 am_k7152 rfl am_m101 (gs_44 N) (by decide) (Nat.le_of_ble_eq_true rfl) rfl ls
theorem d_105_51 : am_code 105 51 = some (.goto 30, 3) := by decide +kernel
theorem s_105_51 (cl : am_C) (ls : am_Ls) (st : List am_V) (h : am_H) : am_go0 cl 105 51 ls st h = am_go0 cl 105 81 ls st h := am_rGo am_m105 d_105_51 (by decide) _ _ _
theorem d_105_54 : am_code 105 54 = some (.aload_n 0, 1) := by decide +kernel
theorem s_105_54 (cl : am_C) (a1 a2 : Option am_V) (x : Nat) (st : List am_V) (h : am_H) : am_go0 cl 105 54 [some (.inr (.inr (some x))), a1, a2] st h = am_go0 cl 105 55 [some (.inr (.inr (some x))), a1, a2] (.inr (.inr (some x)) :: st) h := am_r am_m105 d_105_54 rfl
theorem d_105_55 : am_code 105 55 = some (.aload_n 0, 1) := by decide +kernel
theorem s_105_55 (cl : am_C) (a1 a2 : Option am_V) (x : Nat) (st : List am_V) (h : am_H) : am_go0 cl 105 55 [some (.inr (.inr (some x))), a1, a2] st h = am_go0 cl 105 56 [some (.inr (.inr (some x))), a1, a2] (.inr (.inr (some x)) :: st) h := am_r am_m105 d_105_55 rfl
theorem d_105_56 : am_code 105 56 = some (.getfield 54, 3) := by decide +kernel
theorem s_105_56 (cl : am_C) (ls : am_Ls) (st : List am_V) (N : Nat) (I : Nat → Int → Int) (L : Nat → Int → Int64) : am_go0 cl 105 56 ls (.inr (.inr (some 44)) :: st) (am_GS N, am_GR, I, L) = am_go0 cl 105 59 ls (.inr (.inr (some 22)) :: st) (am_GS N, am_GR, I, L) := am_rG2 am_m105 d_105_56 am_f7054 rfl (gs_44 N) (by decide) gr_44_1 rfl
theorem d_105_59 : am_code 105 59 = some (.iload_n 1, 1) := by decide +kernel
theorem s_105_59 (cl : am_C) (a0 a2 : Option am_V) (x : Int) (st : List am_V) (h : am_H) : am_go0 cl 105 59 [a0, some (.inl x), a2] st h = am_go0 cl 105 60 [a0, some (.inl x), a2] (.inl x :: st) h := am_r am_m105 d_105_59 rfl
theorem d_105_60 : am_code 105 60 = some (.invokevirtual 156, 3) := by decide +kernel
theorem s_105_60 (cl : am_C) (ls : am_Ls) (x0 : Int) (z0 : Nat) (N : Nat) (I : Nat → Int → Int) (L : Nat → Int → Int64) : am_go0 cl 105 60 ls [.inl x0, .inr (.inr (some 22)), .inr (.inr (some z0))] (am_GS N, am_GR, I, L) = am_bd (cl 53 [.inr (.inr (some 22)), .inl x0] (am_GS N, am_GR, I, L)) (fun v h2 => am_go0 cl 105 63 ls (v.toList ++ [.inr (.inr (some z0))]) h2) := am_rV am_m105 d_105_60 am_k7156 rfl am_m53 (gs_22 N) (by decide) (Nat.le_of_ble_eq_true rfl) rfl ls
theorem d_105_63 : am_code 105 63 = some (.aload_n 0, 1) := by decide +kernel
theorem s_105_63 (cl : am_C) (a1 a2 : Option am_V) (x : Nat) (st : List am_V) (h : am_H) : am_go0 cl 105 63 [some (.inr (.inr (some x))), a1, a2] st h = am_go0 cl 105 64 [some (.inr (.inr (some x))), a1, a2] (.inr (.inr (some x)) :: st) h := am_r am_m105 d_105_63 rfl
theorem d_105_64 : am_code 105 64 = some (.getfield 39, 3) := by decide +kernel
theorem s_105_64 (cl : am_C) (ls : am_Ls) (st : List am_V) (N : Nat) (I : Nat → Int → Int) (L : Nat → Int → Int64) : am_go0 cl 105 64 ls (.inr (.inr (some 44)) :: st) (am_GS N, am_GR, I, L) = am_go0 cl 105 67 ls (.inr (.inr (some 52)) :: st) (am_GS N, am_GR, I, L) := am_rG2 am_m105 d_105_64 am_f7039 rfl (gs_44 N) (by decide) gr_44_15 rfl
theorem d_105_67 : am_code 105 67 = some (.aload_n 0, 1) := by decide +kernel
theorem s_105_67 (cl : am_C) (a1 a2 : Option am_V) (x : Nat) (st : List am_V) (h : am_H) : am_go0 cl 105 67 [some (.inr (.inr (some x))), a1, a2] st h = am_go0 cl 105 68 [some (.inr (.inr (some x))), a1, a2] (.inr (.inr (some x)) :: st) h := am_r am_m105 d_105_67 rfl
theorem d_105_68 : am_code 105 68 = some (.getfield 43, 3) := by decide +kernel
theorem s_105_68 (cl : am_C) (ls : am_Ls) (st : List am_V) (N : Nat) (I : Nat → Int → Int) (L : Nat → Int → Int64) : am_go0 cl 105 68 ls (.inr (.inr (some 44)) :: st) (am_GS N, am_GR, I, L) = am_go0 cl 105 71 ls (.inl (I 44 16) :: st) (am_GS N, am_GR, I, L) := am_rG0 am_m105 d_105_68 am_f7043 rfl (gs_44 N) (by decide) rfl
theorem d_105_71 : am_code 105 71 = some (.iconst 1, 1) := by decide +kernel
theorem s_105_71 (cl : am_C) (ls : am_Ls) (st : List am_V) (h : am_H) : am_go0 cl 105 71 ls st h = am_go0 cl 105 72 ls (.inl 1 :: st) h := am_rK am_m105 d_105_71 (by decide) rfl _ _ _
theorem d_105_72 : am_code 105 72 = some (.isub, 1) := by decide +kernel
theorem s_105_72 (cl : am_C) (ls : am_Ls) (x y : Int) (st : List am_V) (h : am_H) : am_go0 cl 105 72 ls (.inl y :: .inl x :: st) h = am_go0 cl 105 73 ls (.inl (am_wr (x - y)) :: st) h := am_r am_m105 d_105_72 rfl
theorem d_105_73 : am_code 105 73 = some (.laload, 1) := by decide +kernel
theorem s_105_73 (cl : am_C) (ls : am_Ls) (i : Int) (k : Nat) (st : List am_V) (N : Nat) (I : Nat → Int → Int) (L : Nat → Int → Int64) : am_go0 cl 105 73 ls (.inl i :: .inr (.inr (some k)) :: st) (am_GS N, am_GR, I, L) = if am_inb (am_GS N) k 1 i = true then am_go0 cl 105 74 ls (.inr (.inl (L k i)) :: st) (am_GS N, am_GR, I, L) else none := am_rAl am_m105 d_105_73 rfl k ls st i _ _ I L
theorem d_105_74 : am_code 105 74 = some (.aload_n 0, 1) := by decide +kernel
theorem s_105_74 (cl : am_C) (a1 a2 : Option am_V) (x : Nat) (st : List am_V) (h : am_H) : am_go0 cl 105 74 [some (.inr (.inr (some x))), a1, a2] st h = am_go0 cl 105 75 [some (.inr (.inr (some x))), a1, a2] (.inr (.inr (some x)) :: st) h := am_r am_m105 d_105_74 rfl
theorem d_105_75 : am_code 105 75 = some (.getfield 46, 3) := by decide +kernel
theorem s_105_75 (cl : am_C) (ls : am_Ls) (st : List am_V) (N : Nat) (I : Nat → Int → Int) (L : Nat → Int → Int64) : am_go0 cl 105 75 ls (.inr (.inr (some 44)) :: st) (am_GS N, am_GR, I, L) = am_go0 cl 105 78 ls (.inr (.inl (L 44 17)) :: st) (am_GS N, am_GR, I, L) := am_rG1 am_m105 d_105_75 am_f7046 rfl (gs_44 N) (by decide) rfl
theorem d_105_78 : am_code 105 78 = some (.invokevirtual 187, 3) := by decide +kernel
theorem s_105_78 (cl : am_C) (ls : am_Ls) (x0 : Int) (x1 : Int64) (x2 : Int64) (N : Nat) (I : Nat → Int → Int) (L : Nat → Int → Int64) : am_go0 cl 105 78 ls [.inr (.inl x2), .inr (.inl x1), .inl x0, .inr (.inr (some 44))] (am_GS N, am_GR, I, L) = am_bd (cl 106 [.inr (.inr (some 44)), .inl x0, .inr (.inl x1), .inr (.inl x2)] (am_GS N, am_GR, I, L)) (fun v h2 => am_go0 cl 105 81 ls (v.toList ++ []) h2) := am_rV am_m105 d_105_78 am_k7187 rfl am_m106 (gs_44 N) (by decide) (Nat.le_of_ble_eq_true rfl) rfl ls
theorem d_105_81 : am_code 105 81 = some (.return_, 1) := by decide +kernel
theorem s_105_81 (cl : am_C) (ls : am_Ls) (h : am_H) : am_go0 cl 105 81 ls [] h = some (none, h) := am_rE am_m105 d_105_81 rfl
theorem e_105 (d : Nat) (t : Nat) (p0 : Int) (p1 : Int) (h : am_H) : am_call (d + 1) 105 [.inr (.inr (some t)), .inl p0, .inl p1] h = am_go0 (am_call d) 105 0 [some (.inr (.inr (some t))), some (.inl p0), some (.inl p1)] [] h := am_callE am_m105 (Nat.le_of_ble_eq_true rfl) rfl
theorem d_106_0 : am_code 106 0 = some (.iload_n 1, 1) := by decide +kernel
theorem s_106_0 (cl : am_C) (a0 a2 a3 a4 a5 : Option am_V) (x : Int) (st : List am_V) (h : am_H) : am_go0 cl 106 0 [a0, some (.inl x), a2, a3, a4, a5] st h = am_go0 cl 106 1 [a0, some (.inl x), a2, a3, a4, a5] (.inl x :: st) h := am_r am_m106 d_106_0 rfl
theorem d_106_1 : am_code 106 1 = some (.iconst 5, 1) := by decide +kernel
theorem s_106_1 (cl : am_C) (ls : am_Ls) (st : List am_V) (h : am_H) : am_go0 cl 106 1 ls st h = am_go0 cl 106 2 ls (.inl 5 :: st) h := am_rK am_m106 d_106_1 (by decide) rfl _ _ _
theorem d_106_2 : am_code 106 2 = some (.if_icmp .ne 14, 3) := by decide +kernel
theorem s_106_2 (cl : am_C) (ls : am_Ls) (x y : Int) (st : List am_V) (h : am_H) : am_go0 cl 106 2 ls (.inl y :: .inl x :: st) h = if x = y then am_go0 cl 106 5 ls st h else am_go0 cl 106 16 ls st h := (am_rJ0 am_m106 d_106_2 (by decide) rfl x y ls st h).trans (am_ifF ((am_cmp_ne x y).trans Iff.rfl) _ _)
theorem d_106_5 : am_code 106 5 = some (.aload_n 0, 1) := by decide +kernel
theorem s_106_5 (cl : am_C) (a1 a2 a3 a4 a5 : Option am_V) (x : Nat) (st : List am_V) (h : am_H) : am_go0 cl 106 5 [some (.inr (.inr (some x))), a1, a2, a3, a4, a5] st h = am_go0 cl 106 6 [some (.inr (.inr (some x))), a1, a2, a3, a4, a5] (.inr (.inr (some x)) :: st) h := am_r am_m106 d_106_5 rfl
theorem d_106_6 : am_code 106 6 = some (.lload_n 2, 1) := by decide +kernel
theorem s_106_6 (cl : am_C) (a0 a1 a3 a4 a5 : Option am_V) (x : Int64) (st : List am_V) (h : am_H) : am_go0 cl 106 6 [a0, a1, some (.inr (.inl x)), a3, a4, a5] st h = am_go0 cl 106 7 [a0, a1, some (.inr (.inl x)), a3, a4, a5] (.inr (.inl x) :: st) h := am_r am_m106 d_106_6 rfl
theorem d_106_7 : am_code 106 7 = some (.lload 4, 2) := by decide +kernel
theorem s_106_7 (cl : am_C) (a0 a1 a2 a3 a5 : Option am_V) (x : Int64) (st : List am_V) (h : am_H) : am_go0 cl 106 7 [a0, a1, a2, a3, some (.inr (.inl x)), a5] st h = am_go0 cl 106 9 [a0, a1, a2, a3, some (.inr (.inl x)), a5] (.inr (.inl x) :: st) h := am_r am_m106 d_106_7 rfl
theorem d_106_9 : am_code 106 9 = some (.ladd, 1) := by decide +kernel
theorem s_106_9 (cl : am_C) (ls : am_Ls) (x y : Int64) (st : List am_V) (h : am_H) : am_go0 cl 106 9 ls (.inr (.inl y) :: .inr (.inl x) :: st) h = am_go0 cl 106 10 ls (.inr (.inl (x + y)) :: st) h := am_r am_m106 d_106_9 rfl
theorem d_106_10 : am_code 106 10 = some (.invokevirtual 162, 3) := by decide +kernel
theorem s_106_10 (cl : am_C) (ls : am_Ls) (x0 : Int64) (N : Nat) (I : Nat → Int → Int) (L : Nat → Int → Int64) : am_go0 cl 106 10 ls [.inr (.inl x0), .inr (.inr (some 44))] (am_GS N, am_GR, I, L) = am_bd (cl 103 [.inr (.inr (some 44)), .inr (.inl x0)] (am_GS N, am_GR, I, L)) (fun v h2 => am_go0 cl 106 13 ls (v.toList ++ []) h2) := am_rV am_m106 d_106_10 am_k7162 rfl am_m103 (gs_44 N) (by decide) (Nat.le_of_ble_eq_true rfl) rfl ls
theorem d_106_13 : am_code 106 13 = some (.goto 60, 3) := by decide +kernel
theorem s_106_13 (cl : am_C) (ls : am_Ls) (st : List am_V) (h : am_H) : am_go0 cl 106 13 ls st h = am_go0 cl 106 73 ls st h := am_rGo am_m106 d_106_13 (by decide) _ _ _
theorem d_106_16 : am_code 106 16 = some (.iload_n 1, 1) := by decide +kernel
theorem s_106_16 (cl : am_C) (a0 a2 a3 a4 a5 : Option am_V) (x : Int) (st : List am_V) (h : am_H) : am_go0 cl 106 16 [a0, some (.inl x), a2, a3, a4, a5] st h = am_go0 cl 106 17 [a0, some (.inl x), a2, a3, a4, a5] (.inl x :: st) h := am_r am_m106 d_106_16 rfl
theorem d_106_17 : am_code 106 17 = some (.bipush 6, 2) := by decide +kernel
theorem s_106_17 (cl : am_C) (ls : am_Ls) (st : List am_V) (h : am_H) : am_go0 cl 106 17 ls st h = am_go0 cl 106 19 ls (.inl 6 :: st) h := am_rB am_m106 d_106_17 (by decide) rfl _ _ _
theorem d_106_19 : am_code 106 19 = some (.if_icmp .ne 14, 3) := by decide +kernel
theorem s_106_19 (cl : am_C) (ls : am_Ls) (x y : Int) (st : List am_V) (h : am_H) : am_go0 cl 106 19 ls (.inl y :: .inl x :: st) h = if x = y then am_go0 cl 106 22 ls st h else am_go0 cl 106 33 ls st h := (am_rJ0 am_m106 d_106_19 (by decide) rfl x y ls st h).trans (am_ifF ((am_cmp_ne x y).trans Iff.rfl) _ _)
theorem d_106_22 : am_code 106 22 = some (.aload_n 0, 1) := by decide +kernel
theorem s_106_22 (cl : am_C) (a1 a2 a3 a4 a5 : Option am_V) (x : Nat) (st : List am_V) (h : am_H) : am_go0 cl 106 22 [some (.inr (.inr (some x))), a1, a2, a3, a4, a5] st h = am_go0 cl 106 23 [some (.inr (.inr (some x))), a1, a2, a3, a4, a5] (.inr (.inr (some x)) :: st) h := am_r am_m106 d_106_22 rfl
theorem d_106_23 : am_code 106 23 = some (.lload_n 2, 1) := by decide +kernel
theorem s_106_23 (cl : am_C) (a0 a1 a3 a4 a5 : Option am_V) (x : Int64) (st : List am_V) (h : am_H) : am_go0 cl 106 23 [a0, a1, some (.inr (.inl x)), a3, a4, a5] st h = am_go0 cl 106 24 [a0, a1, some (.inr (.inl x)), a3, a4, a5] (.inr (.inl x) :: st) h := am_r am_m106 d_106_23 rfl
theorem d_106_24 : am_code 106 24 = some (.lload 4, 2) := by decide +kernel
theorem s_106_24 (cl : am_C) (a0 a1 a2 a3 a5 : Option am_V) (x : Int64) (st : List am_V) (h : am_H) : am_go0 cl 106 24 [a0, a1, a2, a3, some (.inr (.inl x)), a5] st h = am_go0 cl 106 26 [a0, a1, a2, a3, some (.inr (.inl x)), a5] (.inr (.inl x) :: st) h := am_r am_m106 d_106_24 rfl
theorem d_106_26 : am_code 106 26 = some (.lsub, 1) := by decide +kernel
theorem s_106_26 (cl : am_C) (ls : am_Ls) (x y : Int64) (st : List am_V) (h : am_H) : am_go0 cl 106 26 ls (.inr (.inl y) :: .inr (.inl x) :: st) h = am_go0 cl 106 27 ls (.inr (.inl (x - y)) :: st) h := am_r am_m106 d_106_26 rfl
theorem d_106_27 : am_code 106 27 = some (.invokevirtual 162, 3) := by decide +kernel
theorem s_106_27 (cl : am_C) (ls : am_Ls) (x0 : Int64) (N : Nat) (I : Nat → Int → Int) (L : Nat → Int → Int64) : am_go0 cl 106 27 ls [.inr (.inl x0), .inr (.inr (some 44))] (am_GS N, am_GR, I, L) = am_bd (cl 103 [.inr (.inr (some 44)), .inr (.inl x0)] (am_GS N, am_GR, I, L)) (fun v h2 => am_go0 cl 106 30 ls (v.toList ++ []) h2) := am_rV am_m106 d_106_27 am_k7162 rfl am_m103 (gs_44 N) (by decide) (Nat.le_of_ble_eq_true rfl) rfl ls
theorem d_106_30 : am_code 106 30 = some (.goto 43, 3) := by decide +kernel
theorem s_106_30 (cl : am_C) (ls : am_Ls) (st : List am_V) (h : am_H) : am_go0 cl 106 30 ls st h = am_go0 cl 106 73 ls st h := am_rGo am_m106 d_106_30 (by decide) _ _ _
theorem d_106_33 : am_code 106 33 = some (.iload_n 1, 1) := by decide +kernel
theorem s_106_33 (cl : am_C) (a0 a2 a3 a4 a5 : Option am_V) (x : Int) (st : List am_V) (h : am_H) : am_go0 cl 106 33 [a0, some (.inl x), a2, a3, a4, a5] st h = am_go0 cl 106 34 [a0, some (.inl x), a2, a3, a4, a5] (.inl x :: st) h := am_r am_m106 d_106_33 rfl
theorem d_106_34 : am_code 106 34 = some (.bipush 7, 2) := by decide +kernel
theorem s_106_34 (cl : am_C) (ls : am_Ls) (st : List am_V) (h : am_H) : am_go0 cl 106 34 ls st h = am_go0 cl 106 36 ls (.inl 7 :: st) h := am_rB am_m106 d_106_34 (by decide) rfl _ _ _
theorem d_106_36 : am_code 106 36 = some (.if_icmp .ne 14, 3) := by decide +kernel
theorem s_106_36 (cl : am_C) (ls : am_Ls) (x y : Int) (st : List am_V) (h : am_H) : am_go0 cl 106 36 ls (.inl y :: .inl x :: st) h = if x = y then am_go0 cl 106 39 ls st h else am_go0 cl 106 50 ls st h := (am_rJ0 am_m106 d_106_36 (by decide) rfl x y ls st h).trans (am_ifF ((am_cmp_ne x y).trans Iff.rfl) _ _)
theorem d_106_39 : am_code 106 39 = some (.aload_n 0, 1) := by decide +kernel
theorem s_106_39 (cl : am_C) (a1 a2 a3 a4 a5 : Option am_V) (x : Nat) (st : List am_V) (h : am_H) : am_go0 cl 106 39 [some (.inr (.inr (some x))), a1, a2, a3, a4, a5] st h = am_go0 cl 106 40 [some (.inr (.inr (some x))), a1, a2, a3, a4, a5] (.inr (.inr (some x)) :: st) h := am_r am_m106 d_106_39 rfl
theorem d_106_40 : am_code 106 40 = some (.lload_n 2, 1) := by decide +kernel
theorem s_106_40 (cl : am_C) (a0 a1 a3 a4 a5 : Option am_V) (x : Int64) (st : List am_V) (h : am_H) : am_go0 cl 106 40 [a0, a1, some (.inr (.inl x)), a3, a4, a5] st h = am_go0 cl 106 41 [a0, a1, some (.inr (.inl x)), a3, a4, a5] (.inr (.inl x) :: st) h := am_r am_m106 d_106_40 rfl
theorem d_106_41 : am_code 106 41 = some (.lload 4, 2) := by decide +kernel
theorem s_106_41 (cl : am_C) (a0 a1 a2 a3 a5 : Option am_V) (x : Int64) (st : List am_V) (h : am_H) : am_go0 cl 106 41 [a0, a1, a2, a3, some (.inr (.inl x)), a5] st h = am_go0 cl 106 43 [a0, a1, a2, a3, some (.inr (.inl x)), a5] (.inr (.inl x) :: st) h := am_r am_m106 d_106_41 rfl
theorem d_106_43 : am_code 106 43 = some (.lmul, 1) := by decide +kernel
theorem s_106_43 (cl : am_C) (ls : am_Ls) (x y : Int64) (st : List am_V) (h : am_H) : am_go0 cl 106 43 ls (.inr (.inl y) :: .inr (.inl x) :: st) h = am_go0 cl 106 44 ls (.inr (.inl (x * y)) :: st) h := am_r am_m106 d_106_43 rfl
theorem d_106_44 : am_code 106 44 = some (.invokevirtual 162, 3) := by decide +kernel
theorem s_106_44 (cl : am_C) (ls : am_Ls) (x0 : Int64) (N : Nat) (I : Nat → Int → Int) (L : Nat → Int → Int64) : am_go0 cl 106 44 ls [.inr (.inl x0), .inr (.inr (some 44))] (am_GS N, am_GR, I, L) = am_bd (cl 103 [.inr (.inr (some 44)), .inr (.inl x0)] (am_GS N, am_GR, I, L)) (fun v h2 => am_go0 cl 106 47 ls (v.toList ++ []) h2) := am_rV am_m106 d_106_44 am_k7162 rfl am_m103 (gs_44 N) (by decide) (Nat.le_of_ble_eq_true rfl) rfl ls
theorem d_106_47 : am_code 106 47 = some (.goto 26, 3) := by decide +kernel
theorem s_106_47 (cl : am_C) (ls : am_Ls) (st : List am_V) (h : am_H) : am_go0 cl 106 47 ls st h = am_go0 cl 106 73 ls st h := am_rGo am_m106 d_106_47 (by decide) _ _ _
theorem d_106_50 : am_code 106 50 = some (.lload 4, 2) := by decide +kernel
theorem s_106_50 (cl : am_C) (a0 a1 a2 a3 a5 : Option am_V) (x : Int64) (st : List am_V) (h : am_H) : am_go0 cl 106 50 [a0, a1, a2, a3, some (.inr (.inl x)), a5] st h = am_go0 cl 106 52 [a0, a1, a2, a3, some (.inr (.inl x)), a5] (.inr (.inl x) :: st) h := am_r am_m106 d_106_50 rfl
theorem d_106_52 : am_code 106 52 = some (.lconst 0, 1) := by decide +kernel
theorem s_106_52 (cl : am_C) (ls : am_Ls) (st : List am_V) (h : am_H) : am_go0 cl 106 52 ls st h = am_go0 cl 106 53 ls (.inr (.inl 0) :: st) h := am_r am_m106 d_106_52 rfl
theorem d_106_53 : am_code 106 53 = some (.lcmp, 1) := by decide +kernel
theorem s_106_53 (cl : am_C) (ls : am_Ls) (x y : Int64) (st : List am_V) (h : am_H) : am_go0 cl 106 53 ls (.inr (.inl y) :: .inr (.inl x) :: st) h = am_go0 cl 106 54 ls (.inl (lg_cmp x y).toInt :: st) h := am_r am_m106 d_106_53 rfl
theorem d_106_54 : am_code 106 54 = some (.ifCond .eq 14, 3) := by decide +kernel
theorem s_106_54 (cl : am_C) (ls : am_Ls) (x : Int) (st : List am_V) (h : am_H) : am_go0 cl 106 54 ls (.inl x :: st) h = if x = 0 then am_go0 cl 106 68 ls st h else am_go0 cl 106 57 ls st h := (am_rJ1 am_m106 d_106_54 (by decide) rfl x ls st h).trans (am_ifT (am_cmp_eq x 0) _ _)
theorem d_106_57 : am_code 106 57 = some (.aload_n 0, 1) := by decide +kernel
theorem s_106_57 (cl : am_C) (a1 a2 a3 a4 a5 : Option am_V) (x : Nat) (st : List am_V) (h : am_H) : am_go0 cl 106 57 [some (.inr (.inr (some x))), a1, a2, a3, a4, a5] st h = am_go0 cl 106 58 [some (.inr (.inr (some x))), a1, a2, a3, a4, a5] (.inr (.inr (some x)) :: st) h := am_r am_m106 d_106_57 rfl
theorem d_106_58 : am_code 106 58 = some (.lload_n 2, 1) := by decide +kernel
theorem s_106_58 (cl : am_C) (a0 a1 a3 a4 a5 : Option am_V) (x : Int64) (st : List am_V) (h : am_H) : am_go0 cl 106 58 [a0, a1, some (.inr (.inl x)), a3, a4, a5] st h = am_go0 cl 106 59 [a0, a1, some (.inr (.inl x)), a3, a4, a5] (.inr (.inl x) :: st) h := am_r am_m106 d_106_58 rfl
theorem d_106_59 : am_code 106 59 = some (.lload 4, 2) := by decide +kernel
theorem s_106_59 (cl : am_C) (a0 a1 a2 a3 a5 : Option am_V) (x : Int64) (st : List am_V) (h : am_H) : am_go0 cl 106 59 [a0, a1, a2, a3, some (.inr (.inl x)), a5] st h = am_go0 cl 106 61 [a0, a1, a2, a3, some (.inr (.inl x)), a5] (.inr (.inl x) :: st) h := am_r am_m106 d_106_59 rfl
theorem d_106_61 : am_code 106 61 = some (.ldiv, 1) := by decide +kernel
theorem s_106_61 (cl : am_C) (ls : am_Ls) (x y : Int64) (st : List am_V) (h : am_H) (q : ¬ y = 0) : am_go0 cl 106 61 ls (.inr (.inl y) :: .inr (.inl x) :: st) h = am_go0 cl 106 62 ls (.inr (.inl (x / y)) :: st) h := am_r am_m106 d_106_61 (by simp [am_next, am_go, q])
theorem d_106_62 : am_code 106 62 = some (.invokevirtual 162, 3) := by decide +kernel
theorem s_106_62 (cl : am_C) (ls : am_Ls) (x0 : Int64) (N : Nat) (I : Nat → Int → Int) (L : Nat → Int → Int64) : am_go0 cl 106 62 ls [.inr (.inl x0), .inr (.inr (some 44))] (am_GS N, am_GR, I, L) = am_bd (cl 103 [.inr (.inr (some 44)), .inr (.inl x0)] (am_GS N, am_GR, I, L)) (fun v h2 => am_go0 cl 106 65 ls (v.toList ++ []) h2) := am_rV am_m106 d_106_62 am_k7162 rfl am_m103 (gs_44 N) (by decide) (Nat.le_of_ble_eq_true rfl) rfl ls
theorem d_106_65 : am_code 106 65 = some (.goto 8, 3) := by decide +kernel
theorem s_106_65 (cl : am_C) (ls : am_Ls) (st : List am_V) (h : am_H) : am_go0 cl 106 65 ls st h = am_go0 cl 106 73 ls st h := am_rGo am_m106 d_106_65 (by decide) _ _ _
theorem d_106_68 : am_code 106 68 = some (.aload_n 0, 1) := by decide +kernel
theorem s_106_68 (cl : am_C) (a1 a2 a3 a4 a5 : Option am_V) (x : Nat) (st : List am_V) (h : am_H) : am_go0 cl 106 68 [some (.inr (.inr (some x))), a1, a2, a3, a4, a5] st h = am_go0 cl 106 69 [some (.inr (.inr (some x))), a1, a2, a3, a4, a5] (.inr (.inr (some x)) :: st) h := am_r am_m106 d_106_68 rfl
theorem d_106_69 : am_code 106 69 = some (.iconst 3, 1) := by decide +kernel
theorem s_106_69 (cl : am_C) (ls : am_Ls) (st : List am_V) (h : am_H) : am_go0 cl 106 69 ls st h = am_go0 cl 106 70 ls (.inl 3 :: st) h := am_rK am_m106 d_106_69 (by decide) rfl _ _ _
theorem d_106_70 : am_code 106 70 = some (.invokevirtual 191, 3) := by decide +kernel
theorem s_106_70 (cl : am_C) (ls : am_Ls) (x0 : Int) (N : Nat) (I : Nat → Int → Int) (L : Nat → Int → Int64) : am_go0 cl 106 70 ls [.inl x0, .inr (.inr (some 44))] (am_GS N, am_GR, I, L) = am_bd (cl 107 [.inr (.inr (some 44)), .inl x0] (am_GS N, am_GR, I, L)) (fun v h2 => am_go0 cl 106 73 ls (v.toList ++ []) h2) := am_rV am_m106 d_106_70 am_k7191 rfl am_m107 (gs_44 N) (by decide) (Nat.le_of_ble_eq_true rfl) rfl ls
theorem d_106_73 : am_code 106 73 = some (.return_, 1) := by decide +kernel
theorem s_106_73 (cl : am_C) (ls : am_Ls) (h : am_H) : am_go0 cl 106 73 ls [] h = some (none, h) := am_rE am_m106 d_106_73 rfl
theorem e_106 (d : Nat) (t : Nat) (p0 : Int) (p1 : Int64) (p2 : Int64) (h : am_H) : am_call (d + 1) 106 [.inr (.inr (some t)), .inl p0, .inr (.inl p1), .inr (.inl p2)] h = am_go0 (am_call d) 106 0 [some (.inr (.inr (some t))), some (.inl p0), some (.inr (.inl p1)), none, some (.inr (.inl p2)), none] [] h := am_callE am_m106 (Nat.le_of_ble_eq_true rfl) rfl
theorem d_107_0 : am_code 107 0 = some (.aload_n 0, 1) := by decide +kernel
theorem s_107_0 (cl : am_C) (a1 : Option am_V) (x : Nat) (st : List am_V) (h : am_H) : am_go0 cl 107 0 [some (.inr (.inr (some x))), a1] st h = am_go0 cl 107 1 [some (.inr (.inr (some x))), a1] (.inr (.inr (some x)) :: st) h := am_r am_m107 d_107_0 rfl
theorem d_107_1 : am_code 107 1 = some (.getfield 74, 3) := by decide +kernel
theorem s_107_1 (cl : am_C) (ls : am_Ls) (st : List am_V) (N : Nat) (I : Nat → Int → Int) (L : Nat → Int → Int64) : am_go0 cl 107 1 ls (.inr (.inr (some 44)) :: st) (am_GS N, am_GR, I, L) = am_go0 cl 107 4 ls (.inr (.inr (some 41)) :: st) (am_GS N, am_GR, I, L) := am_rG2 am_m107 d_107_1 am_f7074 rfl (gs_44 N) (by decide) gr_44_6 rfl
theorem d_107_4 : am_code 107 4 = some (.iload_n 1, 1) := by decide +kernel
theorem s_107_4 (cl : am_C) (a0 : Option am_V) (x : Int) (st : List am_V) (h : am_H) : am_go0 cl 107 4 [a0, some (.inl x)] st h = am_go0 cl 107 5 [a0, some (.inl x)] (.inl x :: st) h := am_r am_m107 d_107_4 rfl
theorem d_107_5 : am_code 107 5 = some (.aload_n 0, 1) := by decide +kernel
theorem s_107_5 (cl : am_C) (a1 : Option am_V) (x : Nat) (st : List am_V) (h : am_H) : am_go0 cl 107 5 [some (.inr (.inr (some x))), a1] st h = am_go0 cl 107 6 [some (.inr (.inr (some x))), a1] (.inr (.inr (some x)) :: st) h := am_r am_m107 d_107_5 rfl
theorem d_107_6 : am_code 107 6 = some (.getfield 13, 3) := by decide +kernel
theorem s_107_6 (cl : am_C) (ls : am_Ls) (st : List am_V) (N : Nat) (I : Nat → Int → Int) (L : Nat → Int → Int64) : am_go0 cl 107 6 ls (.inr (.inr (some 44)) :: st) (am_GS N, am_GR, I, L) = am_go0 cl 107 9 ls (.inr (.inr (some 45)) :: st) (am_GS N, am_GR, I, L) := am_rG2 am_m107 d_107_6 am_f7013 rfl (gs_44 N) (by decide) gr_44_7 rfl
theorem d_107_9 : am_code 107 9 = some (.aload_n 0, 1) := by decide +kernel
theorem s_107_9 (cl : am_C) (a1 : Option am_V) (x : Nat) (st : List am_V) (h : am_H) : am_go0 cl 107 9 [some (.inr (.inr (some x))), a1] st h = am_go0 cl 107 10 [some (.inr (.inr (some x))), a1] (.inr (.inr (some x)) :: st) h := am_r am_m107 d_107_9 rfl
theorem d_107_10 : am_code 107 10 = some (.getfield 29, 3) := by decide +kernel
theorem s_107_10 (cl : am_C) (ls : am_Ls) (st : List am_V) (N : Nat) (I : Nat → Int → Int) (L : Nat → Int → Int64) : am_go0 cl 107 10 ls (.inr (.inr (some 44)) :: st) (am_GS N, am_GR, I, L) = am_go0 cl 107 13 ls (.inl (I 44 12) :: st) (am_GS N, am_GR, I, L) := am_rG0 am_m107 d_107_10 am_f7029 rfl (gs_44 N) (by decide) rfl
theorem d_107_13 : am_code 107 13 = some (.iconst 1, 1) := by decide +kernel
theorem s_107_13 (cl : am_C) (ls : am_Ls) (st : List am_V) (h : am_H) : am_go0 cl 107 13 ls st h = am_go0 cl 107 14 ls (.inl 1 :: st) h := am_rK am_m107 d_107_13 (by decide) rfl _ _ _
theorem d_107_14 : am_code 107 14 = some (.isub, 1) := by decide +kernel
theorem s_107_14 (cl : am_C) (ls : am_Ls) (x y : Int) (st : List am_V) (h : am_H) : am_go0 cl 107 14 ls (.inl y :: .inl x :: st) h = am_go0 cl 107 15 ls (.inl (am_wr (x - y)) :: st) h := am_r am_m107 d_107_14 rfl
theorem d_107_15 : am_code 107 15 = some (.iaload, 1) := by decide +kernel
theorem s_107_15 (cl : am_C) (ls : am_Ls) (i : Int) (k : Nat) (st : List am_V) (N : Nat) (I : Nat → Int → Int) (L : Nat → Int → Int64) : am_go0 cl 107 15 ls (.inl i :: .inr (.inr (some k)) :: st) (am_GS N, am_GR, I, L) = if am_inb (am_GS N) k 0 i = true then am_go0 cl 107 16 ls (.inl (I k i) :: st) (am_GS N, am_GR, I, L) else none := am_rA am_m107 d_107_15 (by decide) rfl k ls st i _ _ I L
theorem d_107_16 : am_code 107 16 = some (.aload_n 0, 1) := by decide +kernel
theorem s_107_16 (cl : am_C) (a1 : Option am_V) (x : Nat) (st : List am_V) (h : am_H) : am_go0 cl 107 16 [some (.inr (.inr (some x))), a1] st h = am_go0 cl 107 17 [some (.inr (.inr (some x))), a1] (.inr (.inr (some x)) :: st) h := am_r am_m107 d_107_16 rfl
theorem d_107_17 : am_code 107 17 = some (.getfield 17, 3) := by decide +kernel
theorem s_107_17 (cl : am_C) (ls : am_Ls) (st : List am_V) (N : Nat) (I : Nat → Int → Int) (L : Nat → Int → Int64) : am_go0 cl 107 17 ls (.inr (.inr (some 44)) :: st) (am_GS N, am_GR, I, L) = am_go0 cl 107 20 ls (.inr (.inr (some 46)) :: st) (am_GS N, am_GR, I, L) := am_rG2 am_m107 d_107_17 am_f7017 rfl (gs_44 N) (by decide) gr_44_8 rfl
theorem d_107_20 : am_code 107 20 = some (.aload_n 0, 1) := by decide +kernel
theorem s_107_20 (cl : am_C) (a1 : Option am_V) (x : Nat) (st : List am_V) (h : am_H) : am_go0 cl 107 20 [some (.inr (.inr (some x))), a1] st h = am_go0 cl 107 21 [some (.inr (.inr (some x))), a1] (.inr (.inr (some x)) :: st) h := am_r am_m107 d_107_20 rfl
theorem d_107_21 : am_code 107 21 = some (.getfield 29, 3) := by decide +kernel
theorem s_107_21 (cl : am_C) (ls : am_Ls) (st : List am_V) (N : Nat) (I : Nat → Int → Int) (L : Nat → Int → Int64) : am_go0 cl 107 21 ls (.inr (.inr (some 44)) :: st) (am_GS N, am_GR, I, L) = am_go0 cl 107 24 ls (.inl (I 44 12) :: st) (am_GS N, am_GR, I, L) := am_rG0 am_m107 d_107_21 am_f7029 rfl (gs_44 N) (by decide) rfl
theorem d_107_24 : am_code 107 24 = some (.iconst 1, 1) := by decide +kernel
theorem s_107_24 (cl : am_C) (ls : am_Ls) (st : List am_V) (h : am_H) : am_go0 cl 107 24 ls st h = am_go0 cl 107 25 ls (.inl 1 :: st) h := am_rK am_m107 d_107_24 (by decide) rfl _ _ _
theorem d_107_25 : am_code 107 25 = some (.isub, 1) := by decide +kernel
theorem s_107_25 (cl : am_C) (ls : am_Ls) (x y : Int) (st : List am_V) (h : am_H) : am_go0 cl 107 25 ls (.inl y :: .inl x :: st) h = am_go0 cl 107 26 ls (.inl (am_wr (x - y)) :: st) h := am_r am_m107 d_107_25 rfl
theorem d_107_26 : am_code 107 26 = some (.iaload, 1) := by decide +kernel
theorem s_107_26 (cl : am_C) (ls : am_Ls) (i : Int) (k : Nat) (st : List am_V) (N : Nat) (I : Nat → Int → Int) (L : Nat → Int → Int64) : am_go0 cl 107 26 ls (.inl i :: .inr (.inr (some k)) :: st) (am_GS N, am_GR, I, L) = if am_inb (am_GS N) k 0 i = true then am_go0 cl 107 27 ls (.inl (I k i) :: st) (am_GS N, am_GR, I, L) else none := am_rA am_m107 d_107_26 (by decide) rfl k ls st i _ _ I L
theorem d_107_27 : am_code 107 27 = some (.invokevirtual 114, 3) := by decide +kernel
theorem s_107_27 (cl : am_C) (ls : am_Ls) (x0 : Int) (x1 : Int) (x2 : Int) (N : Nat) (I : Nat → Int → Int) (L : Nat → Int → Int64) : am_go0 cl 107 27 ls [.inl x2, .inl x1, .inl x0, .inr (.inr (some 41))] (am_GS N, am_GR, I, L) = am_bd (cl 61 [.inr (.inr (some 41)), .inl x0, .inl x1, .inl x2] (am_GS N, am_GR, I, L)) (fun v h2 => am_go0 cl 107 30 ls (v.toList ++ []) h2) := am_rV am_m107 d_107_27 am_k7114 rfl am_m61 (gs_41 N) (by decide) (Nat.le_of_ble_eq_true rfl) rfl ls
theorem d_107_30 : am_code 107 30 = some (.return_, 1) := by decide +kernel
theorem s_107_30 (cl : am_C) (ls : am_Ls) (h : am_H) : am_go0 cl 107 30 ls [] h = some (none, h) := am_rE am_m107 d_107_30 rfl
theorem e_107 (d : Nat) (t : Nat) (p0 : Int) (h : am_H) : am_call (d + 1) 107 [.inr (.inr (some t)), .inl p0] h = am_go0 (am_call d) 107 0 [some (.inr (.inr (some t))), some (.inl p0)] [] h := am_callE am_m107 (Nat.le_of_ble_eq_true rfl) rfl
theorem d_108_0 : am_code 108 0 = some (.aload_n 0, 1) := by decide +kernel
theorem s_108_0 (cl : am_C) (a1 a2 a3 a4 a5 : Option am_V) (x : Nat) (st : List am_V) (h : am_H) : am_go0 cl 108 0 [some (.inr (.inr (some x))), a1, a2, a3, a4, a5] st h = am_go0 cl 108 1 [some (.inr (.inr (some x))), a1, a2, a3, a4, a5] (.inr (.inr (some x)) :: st) h := am_r am_m108 d_108_0 rfl
theorem d_108_1 : am_code 108 1 = some (.getfield 29, 3) := by decide +kernel
theorem s_108_1 (cl : am_C) (ls : am_Ls) (st : List am_V) (N : Nat) (I : Nat → Int → Int) (L : Nat → Int → Int64) : am_go0 cl 108 1 ls (.inr (.inr (some 44)) :: st) (am_GS N, am_GR, I, L) = am_go0 cl 108 4 ls (.inl (I 44 12) :: st) (am_GS N, am_GR, I, L) := am_rG0 am_m108 d_108_1 am_f7029 rfl (gs_44 N) (by decide) rfl
theorem d_108_4 : am_code 108 4 = some (.iconst 1, 1) := by decide +kernel
theorem s_108_4 (cl : am_C) (ls : am_Ls) (st : List am_V) (h : am_H) : am_go0 cl 108 4 ls st h = am_go0 cl 108 5 ls (.inl 1 :: st) h := am_rK am_m108 d_108_4 (by decide) rfl _ _ _
theorem d_108_5 : am_code 108 5 = some (.isub, 1) := by decide +kernel
theorem s_108_5 (cl : am_C) (ls : am_Ls) (x y : Int) (st : List am_V) (h : am_H) : am_go0 cl 108 5 ls (.inl y :: .inl x :: st) h = am_go0 cl 108 6 ls (.inl (am_wr (x - y)) :: st) h := am_r am_m108 d_108_5 rfl
theorem d_108_6 : am_code 108 6 = some (.istore_n 2, 1) := by decide +kernel
theorem s_108_6 (cl : am_C) (a0 a1 a2 a3 a4 a5 : Option am_V) (x : Int) (st : List am_V) (h : am_H) : am_go0 cl 108 6 [a0, a1, a2, a3, a4, a5] (.inl x :: st) h = am_go0 cl 108 7 [a0, am_c1 a1, some (.inl x), a3, a4, a5] st h := am_r am_m108 d_108_6 rfl
theorem d_108_7 : am_code 108 7 = some (.aload_n 0, 1) := by decide +kernel
theorem s_108_7 (cl : am_C) (a1 a2 a3 a4 a5 : Option am_V) (x : Nat) (st : List am_V) (h : am_H) : am_go0 cl 108 7 [some (.inr (.inr (some x))), a1, a2, a3, a4, a5] st h = am_go0 cl 108 8 [some (.inr (.inr (some x))), a1, a2, a3, a4, a5] (.inr (.inr (some x)) :: st) h := am_r am_m108 d_108_7 rfl
theorem d_108_8 : am_code 108 8 = some (.getfield 13, 3) := by decide +kernel
theorem s_108_8 (cl : am_C) (ls : am_Ls) (st : List am_V) (N : Nat) (I : Nat → Int → Int) (L : Nat → Int → Int64) : am_go0 cl 108 8 ls (.inr (.inr (some 44)) :: st) (am_GS N, am_GR, I, L) = am_go0 cl 108 11 ls (.inr (.inr (some 45)) :: st) (am_GS N, am_GR, I, L) := am_rG2 am_m108 d_108_8 am_f7013 rfl (gs_44 N) (by decide) gr_44_7 rfl
theorem d_108_11 : am_code 108 11 = some (.iload_n 2, 1) := by decide +kernel
theorem s_108_11 (cl : am_C) (a0 a1 a3 a4 a5 : Option am_V) (x : Int) (st : List am_V) (h : am_H) : am_go0 cl 108 11 [a0, a1, some (.inl x), a3, a4, a5] st h = am_go0 cl 108 12 [a0, a1, some (.inl x), a3, a4, a5] (.inl x :: st) h := am_r am_m108 d_108_11 rfl
theorem d_108_12 : am_code 108 12 = some (.iaload, 1) := by decide +kernel
theorem s_108_12 (cl : am_C) (ls : am_Ls) (i : Int) (k : Nat) (st : List am_V) (N : Nat) (I : Nat → Int → Int) (L : Nat → Int → Int64) : am_go0 cl 108 12 ls (.inl i :: .inr (.inr (some k)) :: st) (am_GS N, am_GR, I, L) = if am_inb (am_GS N) k 0 i = true then am_go0 cl 108 13 ls (.inl (I k i) :: st) (am_GS N, am_GR, I, L) else none := am_rA am_m108 d_108_12 (by decide) rfl k ls st i _ _ I L
theorem d_108_13 : am_code 108 13 = some (.istore_n 3, 1) := by decide +kernel
theorem s_108_13 (cl : am_C) (a0 a1 a2 a3 a4 a5 : Option am_V) (x : Int) (st : List am_V) (h : am_H) : am_go0 cl 108 13 [a0, a1, a2, a3, a4, a5] (.inl x :: st) h = am_go0 cl 108 14 [a0, a1, am_c1 a2, some (.inl x), a4, a5] st h := am_r am_m108 d_108_13 rfl
theorem d_108_14 : am_code 108 14 = some (.aload_n 0, 1) := by decide +kernel
theorem s_108_14 (cl : am_C) (a1 a2 a3 a4 a5 : Option am_V) (x : Nat) (st : List am_V) (h : am_H) : am_go0 cl 108 14 [some (.inr (.inr (some x))), a1, a2, a3, a4, a5] st h = am_go0 cl 108 15 [some (.inr (.inr (some x))), a1, a2, a3, a4, a5] (.inr (.inr (some x)) :: st) h := am_r am_m108 d_108_14 rfl
theorem d_108_15 : am_code 108 15 = some (.getfield 54, 3) := by decide +kernel
theorem s_108_15 (cl : am_C) (ls : am_Ls) (st : List am_V) (N : Nat) (I : Nat → Int → Int) (L : Nat → Int → Int64) : am_go0 cl 108 15 ls (.inr (.inr (some 44)) :: st) (am_GS N, am_GR, I, L) = am_go0 cl 108 18 ls (.inr (.inr (some 22)) :: st) (am_GS N, am_GR, I, L) := am_rG2 am_m108 d_108_15 am_f7054 rfl (gs_44 N) (by decide) gr_44_1 rfl
theorem d_108_18 : am_code 108 18 = some (.iload_n 1, 1) := by decide +kernel
theorem s_108_18 (cl : am_C) (a0 a2 a3 a4 a5 : Option am_V) (x : Int) (st : List am_V) (h : am_H) : am_go0 cl 108 18 [a0, some (.inl x), a2, a3, a4, a5] st h = am_go0 cl 108 19 [a0, some (.inl x), a2, a3, a4, a5] (.inl x :: st) h := am_r am_m108 d_108_18 rfl
theorem d_108_19 : am_code 108 19 = some (.invokevirtual 159, 3) := by decide +kernel
theorem s_108_19 (cl : am_C) (ls : am_Ls) (x0 : Int) (N : Nat) (I : Nat → Int → Int) (L : Nat → Int → Int64) : am_go0 cl 108 19 ls [.inl x0, .inr (.inr (some 22))] (am_GS N, am_GR, I, L) = am_bd (cl 54 [.inr (.inr (some 22)), .inl x0] (am_GS N, am_GR, I, L)) (fun v h2 => am_go0 cl 108 22 ls (v.toList ++ []) h2) := am_rV am_m108 d_108_19 am_k7159 rfl am_m54 (gs_22 N) (by decide) (Nat.le_of_ble_eq_true rfl) rfl ls
theorem d_108_22 : am_code 108 22 = some (.istore 4, 2) := by decide +kernel
theorem s_108_22 (cl : am_C) (a0 a1 a2 a3 a4 a5 : Option am_V) (x : Int) (st : List am_V) (h : am_H) : am_go0 cl 108 22 [a0, a1, a2, a3, a4, a5] (.inl x :: st) h = am_go0 cl 108 24 [a0, a1, a2, am_c1 a3, some (.inl x), a5] st h := am_r am_m108 d_108_22 rfl
theorem d_108_24 : am_code 108 24 = some (.aload_n 0, 1) := by decide +kernel
theorem s_108_24 (cl : am_C) (a1 a2 a3 a4 a5 : Option am_V) (x : Nat) (st : List am_V) (h : am_H) : am_go0 cl 108 24 [some (.inr (.inr (some x))), a1, a2, a3, a4, a5] st h = am_go0 cl 108 25 [some (.inr (.inr (some x))), a1, a2, a3, a4, a5] (.inr (.inr (some x)) :: st) h := am_r am_m108 d_108_24 rfl
theorem d_108_25 : am_code 108 25 = some (.getfield 54, 3) := by decide +kernel
theorem s_108_25 (cl : am_C) (ls : am_Ls) (st : List am_V) (N : Nat) (I : Nat → Int → Int) (L : Nat → Int → Int64) : am_go0 cl 108 25 ls (.inr (.inr (some 44)) :: st) (am_GS N, am_GR, I, L) = am_go0 cl 108 28 ls (.inr (.inr (some 22)) :: st) (am_GS N, am_GR, I, L) := am_rG2 am_m108 d_108_25 am_f7054 rfl (gs_44 N) (by decide) gr_44_1 rfl
theorem d_108_28 : am_code 108 28 = some (.iload_n 1, 1) := by decide +kernel
theorem s_108_28 (cl : am_C) (a0 a2 a3 a4 a5 : Option am_V) (x : Int) (st : List am_V) (h : am_H) : am_go0 cl 108 28 [a0, some (.inl x), a2, a3, a4, a5] st h = am_go0 cl 108 29 [a0, some (.inl x), a2, a3, a4, a5] (.inl x :: st) h := am_r am_m108 d_108_28 rfl
theorem d_108_29 : am_code 108 29 = some (.invokevirtual 156, 3) := by decide +kernel
theorem s_108_29 (cl : am_C) (ls : am_Ls) (x0 : Int) (N : Nat) (I : Nat → Int → Int) (L : Nat → Int → Int64) : am_go0 cl 108 29 ls [.inl x0, .inr (.inr (some 22))] (am_GS N, am_GR, I, L) = am_bd (cl 53 [.inr (.inr (some 22)), .inl x0] (am_GS N, am_GR, I, L)) (fun v h2 => am_go0 cl 108 32 ls (v.toList ++ []) h2) := am_rV am_m108 d_108_29 am_k7156 rfl am_m53 (gs_22 N) (by decide) (Nat.le_of_ble_eq_true rfl) rfl ls
theorem d_108_32 : am_code 108 32 = some (.tableswitch 52 1 3 #[28, 30, 41], 28) := by decide +kernel
theorem s_108_32 (cl : am_C) (ls : am_Ls) (x : Int) (st : List am_V) (h : am_H) : am_go0 cl 108 32 ls (.inl x :: st) h = if x = 1 then am_go0 cl 108 60 ls st h else if x = 2 then am_go0 cl 108 62 ls st h else if x = 3 then am_go0 cl 108 73 ls st h else am_go0 cl 108 84 ls st h := by
  by_cases q1 : x = 1
  · subst q1; exact (am_rTs (28) am_m108 d_108_32 (by decide +kernel) (by decide) _ _ _).trans (if_pos rfl).symm
  rw [if_neg q1]
  by_cases q2 : x = 2
  · subst q2; exact (am_rTs (30) am_m108 d_108_32 (by decide +kernel) (by decide) _ _ _).trans (if_pos rfl).symm
  rw [if_neg q2]
  by_cases q3 : x = 3
  · subst q3; exact (am_rTs (41) am_m108 d_108_32 (by decide +kernel) (by decide) _ _ _).trans (if_pos rfl).symm
  rw [if_neg q3]
  exact am_rTs (52) am_m108 d_108_32 (am_sw_out (by omega)) (by decide) _ _ _
theorem d_108_60 : am_code 108 60 = some (.iload_n 3, 1) := by decide +kernel
theorem s_108_60 (cl : am_C) (a0 a1 a2 a4 a5 : Option am_V) (x : Int) (st : List am_V) (h : am_H) : am_go0 cl 108 60 [a0, a1, a2, some (.inl x), a4, a5] st h = am_go0 cl 108 61 [a0, a1, a2, some (.inl x), a4, a5] (.inl x :: st) h := am_r am_m108 d_108_60 rfl
theorem d_108_61 : am_code 108 61 = some (.ireturn, 1) := by decide +kernel
theorem s_108_61 (cl : am_C) (ls : am_Ls) (x : Int) (h : am_H) : am_go0 cl 108 61 ls [.inl x] h = some (some (.inl x), h) := am_rE am_m108 d_108_61 rfl
theorem d_108_62 : am_code 108 62 = some (.aload_n 0, 1) := by decide +kernel
theorem s_108_62 (cl : am_C) (a1 a2 a3 a4 a5 : Option am_V) (x : Nat) (st : List am_V) (h : am_H) : am_go0 cl 108 62 [some (.inr (.inr (some x))), a1, a2, a3, a4, a5] st h = am_go0 cl 108 63 [some (.inr (.inr (some x))), a1, a2, a3, a4, a5] (.inr (.inr (some x)) :: st) h := am_r am_m108 d_108_62 rfl
theorem d_108_63 : am_code 108 63 = some (.getfield 70, 3) := by decide +kernel
theorem s_108_63 (cl : am_C) (ls : am_Ls) (st : List am_V) (N : Nat) (I : Nat → Int → Int) (L : Nat → Int → Int64) : am_go0 cl 108 63 ls (.inr (.inr (some 44)) :: st) (am_GS N, am_GR, I, L) = am_go0 cl 108 66 ls (.inr (.inr (some 33)) :: st) (am_GS N, am_GR, I, L) := am_rG2 am_m108 d_108_63 am_f7070 rfl (gs_44 N) (by decide) gr_44_5 rfl
theorem d_108_66 : am_code 108 66 = some (.iload_n 3, 1) := by decide +kernel
theorem s_108_66 (cl : am_C) (a0 a1 a2 a4 a5 : Option am_V) (x : Int) (st : List am_V) (h : am_H) : am_go0 cl 108 66 [a0, a1, a2, some (.inl x), a4, a5] st h = am_go0 cl 108 67 [a0, a1, a2, some (.inl x), a4, a5] (.inl x :: st) h := am_r am_m108 d_108_66 rfl
theorem d_108_67 : am_code 108 67 = some (.iload 4, 2) := by decide +kernel
theorem s_108_67 (cl : am_C) (a0 a1 a2 a3 a5 : Option am_V) (x : Int) (st : List am_V) (h : am_H) : am_go0 cl 108 67 [a0, a1, a2, a3, some (.inl x), a5] st h = am_go0 cl 108 69 [a0, a1, a2, a3, some (.inl x), a5] (.inl x :: st) h := am_r am_m108 d_108_67 rfl
theorem d_108_69 : am_code 108 69 = some (.invokevirtual 201, 3) := by decide +kernel
theorem s_108_69 (cl : am_C) (ls : am_Ls) (x0 : Int) (x1 : Int) (N : Nat) (I : Nat → Int → Int) (L : Nat → Int → Int64) : am_go0 cl 108 69 ls [.inl x1, .inl x0, .inr (.inr (some 33))] (am_GS N, am_GR, I, L) = am_bd (cl 22 [.inr (.inr (some 33)), .inl x0, .inl x1] (am_GS N, am_GR, I, L)) (fun v h2 => am_go0 cl 108 72 ls (v.toList ++ []) h2) := am_rV am_m108 d_108_69 am_k7201 rfl am_m22 (gs_33 N) (by decide) (Nat.le_of_ble_eq_true rfl) rfl ls
theorem d_108_72 : am_code 108 72 = some (.ireturn, 1) := by decide +kernel
theorem s_108_72 (cl : am_C) (ls : am_Ls) (x : Int) (h : am_H) : am_go0 cl 108 72 ls [.inl x] h = some (some (.inl x), h) := am_rE am_m108 d_108_72 rfl
theorem d_108_73 : am_code 108 73 = some (.aload_n 0, 1) := by decide +kernel
theorem s_108_73 (cl : am_C) (a1 a2 a3 a4 a5 : Option am_V) (x : Nat) (st : List am_V) (h : am_H) : am_go0 cl 108 73 [some (.inr (.inr (some x))), a1, a2, a3, a4, a5] st h = am_go0 cl 108 74 [some (.inr (.inr (some x))), a1, a2, a3, a4, a5] (.inr (.inr (some x)) :: st) h := am_r am_m108 d_108_73 rfl
theorem d_108_74 : am_code 108 74 = some (.getfield 70, 3) := by decide +kernel
theorem s_108_74 (cl : am_C) (ls : am_Ls) (st : List am_V) (N : Nat) (I : Nat → Int → Int) (L : Nat → Int → Int64) : am_go0 cl 108 74 ls (.inr (.inr (some 44)) :: st) (am_GS N, am_GR, I, L) = am_go0 cl 108 77 ls (.inr (.inr (some 33)) :: st) (am_GS N, am_GR, I, L) := am_rG2 am_m108 d_108_74 am_f7070 rfl (gs_44 N) (by decide) gr_44_5 rfl
theorem d_108_77 : am_code 108 77 = some (.iload_n 3, 1) := by decide +kernel
theorem s_108_77 (cl : am_C) (a0 a1 a2 a4 a5 : Option am_V) (x : Int) (st : List am_V) (h : am_H) : am_go0 cl 108 77 [a0, a1, a2, some (.inl x), a4, a5] st h = am_go0 cl 108 78 [a0, a1, a2, some (.inl x), a4, a5] (.inl x :: st) h := am_r am_m108 d_108_77 rfl
theorem d_108_78 : am_code 108 78 = some (.iload 4, 2) := by decide +kernel
theorem s_108_78 (cl : am_C) (a0 a1 a2 a3 a5 : Option am_V) (x : Int) (st : List am_V) (h : am_H) : am_go0 cl 108 78 [a0, a1, a2, a3, some (.inl x), a5] st h = am_go0 cl 108 80 [a0, a1, a2, a3, some (.inl x), a5] (.inl x :: st) h := am_r am_m108 d_108_78 rfl
theorem d_108_80 : am_code 108 80 = some (.invokevirtual 204, 3) := by decide +kernel
theorem s_108_80 (cl : am_C) (ls : am_Ls) (x0 : Int) (x1 : Int) (N : Nat) (I : Nat → Int → Int) (L : Nat → Int → Int64) : am_go0 cl 108 80 ls [.inl x1, .inl x0, .inr (.inr (some 33))] (am_GS N, am_GR, I, L) = am_bd (cl 27 [.inr (.inr (some 33)), .inl x0, .inl x1] (am_GS N, am_GR, I, L)) (fun v h2 => am_go0 cl 108 83 ls (v.toList ++ []) h2) := am_rV am_m108 d_108_80 am_k7204 rfl am_m27 (gs_33 N) (by decide) (Nat.le_of_ble_eq_true rfl) rfl ls
theorem d_108_83 : am_code 108 83 = some (.ireturn, 1) := by decide +kernel
theorem s_108_83 (cl : am_C) (ls : am_Ls) (x : Int) (h : am_H) : am_go0 cl 108 83 ls [.inl x] h = some (some (.inl x), h) := am_rE am_m108 d_108_83 rfl
theorem d_108_84 : am_code 108 84 = some (.aload_n 0, 1) := by decide +kernel
theorem s_108_84 (cl : am_C) (a1 a2 a3 a4 a5 : Option am_V) (x : Nat) (st : List am_V) (h : am_H) : am_go0 cl 108 84 [some (.inr (.inr (some x))), a1, a2, a3, a4, a5] st h = am_go0 cl 108 85 [some (.inr (.inr (some x))), a1, a2, a3, a4, a5] (.inr (.inr (some x)) :: st) h := am_r am_m108 d_108_84 rfl
theorem d_108_85 : am_code 108 85 = some (.getfield 50, 3) := by decide +kernel
theorem s_108_85 (cl : am_C) (ls : am_Ls) (st : List am_V) (N : Nat) (I : Nat → Int → Int) (L : Nat → Int → Int64) : am_go0 cl 108 85 ls (.inr (.inr (some 44)) :: st) (am_GS N, am_GR, I, L) = am_go0 cl 108 88 ls (.inr (.inr (some 2)) :: st) (am_GS N, am_GR, I, L) := am_rG2 am_m108 d_108_85 am_f7050 rfl (gs_44 N) (by decide) gr_44_0 rfl
theorem d_108_88 : am_code 108 88 = some (.aload_n 0, 1) := by decide +kernel
theorem s_108_88 (cl : am_C) (a1 a2 a3 a4 a5 : Option am_V) (x : Nat) (st : List am_V) (h : am_H) : am_go0 cl 108 88 [some (.inr (.inr (some x))), a1, a2, a3, a4, a5] st h = am_go0 cl 108 89 [some (.inr (.inr (some x))), a1, a2, a3, a4, a5] (.inr (.inr (some x)) :: st) h := am_r am_m108 d_108_88 rfl
theorem d_108_89 : am_code 108 89 = some (.getfield 54, 3) := by decide +kernel
theorem s_108_89 (cl : am_C) (ls : am_Ls) (st : List am_V) (N : Nat) (I : Nat → Int → Int) (L : Nat → Int → Int64) : am_go0 cl 108 89 ls (.inr (.inr (some 44)) :: st) (am_GS N, am_GR, I, L) = am_go0 cl 108 92 ls (.inr (.inr (some 22)) :: st) (am_GS N, am_GR, I, L) := am_rG2 am_m108 d_108_89 am_f7054 rfl (gs_44 N) (by decide) gr_44_1 rfl
theorem d_108_92 : am_code 108 92 = some (.iload_n 1, 1) := by decide +kernel
theorem s_108_92 (cl : am_C) (a0 a2 a3 a4 a5 : Option am_V) (x : Int) (st : List am_V) (h : am_H) : am_go0 cl 108 92 [a0, some (.inl x), a2, a3, a4, a5] st h = am_go0 cl 108 93 [a0, some (.inl x), a2, a3, a4, a5] (.inl x :: st) h := am_r am_m108 d_108_92 rfl
theorem d_108_93 : am_code 108 93 = some (.invokevirtual 181, 3) := by decide +kernel
theorem s_108_93 (cl : am_C) (ls : am_Ls) (x0 : Int) (z0 : Nat) (N : Nat) (I : Nat → Int → Int) (L : Nat → Int → Int64) : am_go0 cl 108 93 ls [.inl x0, .inr (.inr (some 22)), .inr (.inr (some z0))] (am_GS N, am_GR, I, L) = am_bd (cl 55 [.inr (.inr (some 22)), .inl x0] (am_GS N, am_GR, I, L)) (fun v h2 => am_go0 cl 108 96 ls (v.toList ++ [.inr (.inr (some z0))]) h2) := am_rV am_m108 d_108_93 am_k7181 rfl am_m55 (gs_22 N) (by decide) (Nat.le_of_ble_eq_true rfl) rfl ls
theorem d_108_96 : am_code 108 96 = some (.aload_n 0, 1) := by decide +kernel
theorem s_108_96 (cl : am_C) (a1 a2 a3 a4 a5 : Option am_V) (x : Nat) (st : List am_V) (h : am_H) : am_go0 cl 108 96 [some (.inr (.inr (some x))), a1, a2, a3, a4, a5] st h = am_go0 cl 108 97 [some (.inr (.inr (some x))), a1, a2, a3, a4, a5] (.inr (.inr (some x)) :: st) h := am_r am_m108 d_108_96 rfl
theorem d_108_97 : am_code 108 97 = some (.getfield 20, 3) := by decide +kernel
theorem s_108_97 (cl : am_C) (ls : am_Ls) (st : List am_V) (N : Nat) (I : Nat → Int → Int) (L : Nat → Int → Int64) : am_go0 cl 108 97 ls (.inr (.inr (some 44)) :: st) (am_GS N, am_GR, I, L) = am_go0 cl 108 100 ls (.inr (.inr (some 47)) :: st) (am_GS N, am_GR, I, L) := am_rG2 am_m108 d_108_97 am_f7020 rfl (gs_44 N) (by decide) gr_44_9 rfl
theorem d_108_100 : am_code 108 100 = some (.iload_n 2, 1) := by decide +kernel
theorem s_108_100 (cl : am_C) (a0 a1 a3 a4 a5 : Option am_V) (x : Int) (st : List am_V) (h : am_H) : am_go0 cl 108 100 [a0, a1, some (.inl x), a3, a4, a5] st h = am_go0 cl 108 101 [a0, a1, some (.inl x), a3, a4, a5] (.inl x :: st) h := am_r am_m108 d_108_100 rfl
theorem d_108_101 : am_code 108 101 = some (.iaload, 1) := by decide +kernel
theorem s_108_101 (cl : am_C) (ls : am_Ls) (i : Int) (k : Nat) (st : List am_V) (N : Nat) (I : Nat → Int → Int) (L : Nat → Int → Int64) : am_go0 cl 108 101 ls (.inl i :: .inr (.inr (some k)) :: st) (am_GS N, am_GR, I, L) = if am_inb (am_GS N) k 0 i = true then am_go0 cl 108 102 ls (.inl (I k i) :: st) (am_GS N, am_GR, I, L) else none := am_rA am_m108 d_108_101 (by decide) rfl k ls st i _ _ I L
theorem d_108_102 : am_code 108 102 = some (.aload_n 0, 1) := by decide +kernel
theorem s_108_102 (cl : am_C) (a1 a2 a3 a4 a5 : Option am_V) (x : Nat) (st : List am_V) (h : am_H) : am_go0 cl 108 102 [some (.inr (.inr (some x))), a1, a2, a3, a4, a5] st h = am_go0 cl 108 103 [some (.inr (.inr (some x))), a1, a2, a3, a4, a5] (.inr (.inr (some x)) :: st) h := am_r am_m108 d_108_102 rfl
theorem d_108_103 : am_code 108 103 = some (.getfield 23, 3) := by decide +kernel
theorem s_108_103 (cl : am_C) (ls : am_Ls) (st : List am_V) (N : Nat) (I : Nat → Int → Int) (L : Nat → Int → Int64) : am_go0 cl 108 103 ls (.inr (.inr (some 44)) :: st) (am_GS N, am_GR, I, L) = am_go0 cl 108 106 ls (.inr (.inr (some 48)) :: st) (am_GS N, am_GR, I, L) := am_rG2 am_m108 d_108_103 am_f7023 rfl (gs_44 N) (by decide) gr_44_10 rfl
theorem d_108_106 : am_code 108 106 = some (.iload_n 2, 1) := by decide +kernel
theorem s_108_106 (cl : am_C) (a0 a1 a3 a4 a5 : Option am_V) (x : Int) (st : List am_V) (h : am_H) : am_go0 cl 108 106 [a0, a1, some (.inl x), a3, a4, a5] st h = am_go0 cl 108 107 [a0, a1, some (.inl x), a3, a4, a5] (.inl x :: st) h := am_r am_m108 d_108_106 rfl
theorem d_108_107 : am_code 108 107 = some (.iaload, 1) := by decide +kernel
theorem s_108_107 (cl : am_C) (ls : am_Ls) (i : Int) (k : Nat) (st : List am_V) (N : Nat) (I : Nat → Int → Int) (L : Nat → Int → Int64) : am_go0 cl 108 107 ls (.inl i :: .inr (.inr (some k)) :: st) (am_GS N, am_GR, I, L) = if am_inb (am_GS N) k 0 i = true then am_go0 cl 108 108 ls (.inl (I k i) :: st) (am_GS N, am_GR, I, L) else none := am_rA am_m108 d_108_107 (by decide) rfl k ls st i _ _ I L
theorem d_108_108 : am_code 108 108 = some (.invokevirtual 207, 3) := by decide +kernel
theorem s_108_108 (cl : am_C) (ls : am_Ls) (x0 : Int) (x1 : Int) (x2 : Int) (N : Nat) (I : Nat → Int → Int) (L : Nat → Int → Int64) : am_go0 cl 108 108 ls [.inl x2, .inl x1, .inl x0, .inr (.inr (some 2))] (am_GS N, am_GR, I, L) = am_bd (cl 81 [.inr (.inr (some 2)), .inl x0, .inl x1, .inl x2] (am_GS N, am_GR, I, L)) (fun v h2 => am_go0 cl 108 111 ls (v.toList ++ []) h2) := am_rV am_m108 d_108_108 am_k7207 rfl am_m81 (gs_2 N) (by decide) (Nat.le_of_ble_eq_true rfl) rfl ls
theorem d_108_111 : am_code 108 111 = some (.istore 5, 2) := by decide +kernel
theorem s_108_111 (cl : am_C) (a0 a1 a2 a3 a4 a5 : Option am_V) (x : Int) (st : List am_V) (h : am_H) : am_go0 cl 108 111 [a0, a1, a2, a3, a4, a5] (.inl x :: st) h = am_go0 cl 108 113 [a0, a1, a2, a3, am_c1 a4, some (.inl x)] st h := am_r am_m108 d_108_111 rfl
theorem d_108_113 : am_code 108 113 = some (.iload 5, 2) := by decide +kernel
theorem s_108_113 (cl : am_C) (a0 a1 a2 a3 a4 : Option am_V) (x : Int) (st : List am_V) (h : am_H) : am_go0 cl 108 113 [a0, a1, a2, a3, a4, some (.inl x)] st h = am_go0 cl 108 115 [a0, a1, a2, a3, a4, some (.inl x)] (.inl x :: st) h := am_r am_m108 d_108_113 rfl
theorem d_108_115 : am_code 108 115 = some (.bipush (-3), 2) := by decide +kernel
theorem s_108_115 (cl : am_C) (ls : am_Ls) (st : List am_V) (h : am_H) : am_go0 cl 108 115 ls st h = am_go0 cl 108 117 ls (.inl (-3) :: st) h := am_rB am_m108 d_108_115 (by decide) rfl _ _ _
theorem d_108_117 : am_code 108 117 = some (.if_icmp .ne 8, 3) := by decide +kernel
theorem s_108_117 (cl : am_C) (ls : am_Ls) (x y : Int) (st : List am_V) (h : am_H) : am_go0 cl 108 117 ls (.inl y :: .inl x :: st) h = if x = y then am_go0 cl 108 120 ls st h else am_go0 cl 108 125 ls st h := (am_rJ0 am_m108 d_108_117 (by decide) rfl x y ls st h).trans (am_ifF ((am_cmp_ne x y).trans Iff.rfl) _ _)
theorem d_108_120 : am_code 108 120 = some (.bipush (-3), 2) := by decide +kernel
theorem s_108_120 (cl : am_C) (ls : am_Ls) (st : List am_V) (h : am_H) : am_go0 cl 108 120 ls st h = am_go0 cl 108 122 ls (.inl (-3) :: st) h := am_rB am_m108 d_108_120 (by decide) rfl _ _ _
theorem d_108_122 : am_code 108 122 = some (.goto 14, 3) := by decide +kernel
theorem s_108_122 (cl : am_C) (ls : am_Ls) (st : List am_V) (h : am_H) : am_go0 cl 108 122 ls st h = am_go0 cl 108 136 ls st h := am_rGo am_m108 d_108_122 (by decide) _ _ _
theorem d_108_125 : am_code 108 125 = some (.aload_n 0, 1) := by decide +kernel
theorem s_108_125 (cl : am_C) (a1 a2 a3 a4 a5 : Option am_V) (x : Nat) (st : List am_V) (h : am_H) : am_go0 cl 108 125 [some (.inr (.inr (some x))), a1, a2, a3, a4, a5] st h = am_go0 cl 108 126 [some (.inr (.inr (some x))), a1, a2, a3, a4, a5] (.inr (.inr (some x)) :: st) h := am_r am_m108 d_108_125 rfl
theorem d_108_126 : am_code 108 126 = some (.getfield 70, 3) := by decide +kernel
theorem s_108_126 (cl : am_C) (ls : am_Ls) (st : List am_V) (N : Nat) (I : Nat → Int → Int) (L : Nat → Int → Int64) : am_go0 cl 108 126 ls (.inr (.inr (some 44)) :: st) (am_GS N, am_GR, I, L) = am_go0 cl 108 129 ls (.inr (.inr (some 33)) :: st) (am_GS N, am_GR, I, L) := am_rG2 am_m108 d_108_126 am_f7070 rfl (gs_44 N) (by decide) gr_44_5 rfl
theorem d_108_129 : am_code 108 129 = some (.iload 4, 2) := by decide +kernel
theorem s_108_129 (cl : am_C) (a0 a1 a2 a3 a5 : Option am_V) (x : Int) (st : List am_V) (h : am_H) : am_go0 cl 108 129 [a0, a1, a2, a3, some (.inl x), a5] st h = am_go0 cl 108 131 [a0, a1, a2, a3, some (.inl x), a5] (.inl x :: st) h := am_r am_m108 d_108_129 rfl
theorem d_108_131 : am_code 108 131 = some (.iload 5, 2) := by decide +kernel
theorem s_108_131 (cl : am_C) (a0 a1 a2 a3 a4 : Option am_V) (x : Int) (st : List am_V) (h : am_H) : am_go0 cl 108 131 [a0, a1, a2, a3, a4, some (.inl x)] st h = am_go0 cl 108 133 [a0, a1, a2, a3, a4, some (.inl x)] (.inl x :: st) h := am_r am_m108 d_108_131 rfl
theorem d_108_133 : am_code 108 133 = some (.invokevirtual 211, 3) := by decide +kernel
theorem s_108_133 (cl : am_C) (ls : am_Ls) (x0 : Int) (x1 : Int) (N : Nat) (I : Nat → Int → Int) (L : Nat → Int → Int64) : am_go0 cl 108 133 ls [.inl x1, .inl x0, .inr (.inr (some 33))] (am_GS N, am_GR, I, L) = am_bd (cl 13 [.inr (.inr (some 33)), .inl x0, .inl x1] (am_GS N, am_GR, I, L)) (fun v h2 => am_go0 cl 108 136 ls (v.toList ++ []) h2) := am_rV am_m108 d_108_133 am_k7211 rfl am_m13 (gs_33 N) (by decide) (Nat.le_of_ble_eq_true rfl) rfl ls
theorem d_108_136 : am_code 108 136 = some (.ireturn, 1) := by decide +kernel
theorem s_108_136 (cl : am_C) (ls : am_Ls) (x : Int) (h : am_H) : am_go0 cl 108 136 ls [.inl x] h = some (some (.inl x), h) := am_rE am_m108 d_108_136 rfl
theorem e_108 (d : Nat) (t : Nat) (p0 : Int) (h : am_H) : am_call (d + 1) 108 [.inr (.inr (some t)), .inl p0] h = am_go0 (am_call d) 108 0 [some (.inr (.inr (some t))), some (.inl p0), none, none, none, none] [] h := am_callE am_m108 (Nat.le_of_ble_eq_true rfl) rfl
theorem d_109_0 : am_code 109 0 = some (.aload_n 0, 1) := by decide +kernel
theorem s_109_0 (cl : am_C) (a1 : Option am_V) (x : Nat) (st : List am_V) (h : am_H) : am_go0 cl 109 0 [some (.inr (.inr (some x))), a1] st h = am_go0 cl 109 1 [some (.inr (.inr (some x))), a1] (.inr (.inr (some x)) :: st) h := am_r am_m109 d_109_0 rfl
theorem d_109_1 : am_code 109 1 = some (.getfield 54, 3) := by decide +kernel
theorem s_109_1 (cl : am_C) (ls : am_Ls) (st : List am_V) (N : Nat) (I : Nat → Int → Int) (L : Nat → Int → Int64) : am_go0 cl 109 1 ls (.inr (.inr (some 44)) :: st) (am_GS N, am_GR, I, L) = am_go0 cl 109 4 ls (.inr (.inr (some 22)) :: st) (am_GS N, am_GR, I, L) := am_rG2 am_m109 d_109_1 am_f7054 rfl (gs_44 N) (by decide) gr_44_1 rfl
theorem d_109_4 : am_code 109 4 = some (.iload_n 1, 1) := by decide +kernel
theorem s_109_4 (cl : am_C) (a0 : Option am_V) (x : Int) (st : List am_V) (h : am_H) : am_go0 cl 109 4 [a0, some (.inl x)] st h = am_go0 cl 109 5 [a0, some (.inl x)] (.inl x :: st) h := am_r am_m109 d_109_4 rfl
theorem d_109_5 : am_code 109 5 = some (.invokevirtual 156, 3) := by decide +kernel
theorem s_109_5 (cl : am_C) (ls : am_Ls) (x0 : Int) (N : Nat) (I : Nat → Int → Int) (L : Nat → Int → Int64) : am_go0 cl 109 5 ls [.inl x0, .inr (.inr (some 22))] (am_GS N, am_GR, I, L) = am_bd (cl 53 [.inr (.inr (some 22)), .inl x0] (am_GS N, am_GR, I, L)) (fun v h2 => am_go0 cl 109 8 ls (v.toList ++ []) h2) := am_rV am_m109 d_109_5 am_k7156 rfl am_m53 (gs_22 N) (by decide) (Nat.le_of_ble_eq_true rfl) rfl ls
theorem d_109_8 : am_code 109 8 = some (.lookupswitch 46 #[(1, 28), (4, 37)], 28) := by decide +kernel
theorem s_109_8 (cl : am_C) (ls : am_Ls) (x : Int) (st : List am_V) (h : am_H) : am_go0 cl 109 8 ls (.inl x :: st) h = if x = 1 then am_go0 cl 109 36 ls st h else if x = 4 then am_go0 cl 109 45 ls st h else am_go0 cl 109 54 ls st h := by
  by_cases q1 : x = 1
  · subst q1; exact (am_rLs am_m109 d_109_8 (by decide +kernel) (by decide +kernel) _ _ _).trans (if_pos rfl).symm
  rw [if_neg q1]
  by_cases q4 : x = 4
  · subst q4; exact (am_rLs am_m109 d_109_8 (by decide +kernel) (by decide +kernel) _ _ _).trans (if_pos rfl).symm
  rw [if_neg q4]
  exact am_rLs am_m109 d_109_8 (by decide +kernel) (by simp [Op.lookupswitch.offset, q1, q4, Ne.symm q1, Ne.symm q4]) _ _ _
theorem d_109_36 : am_code 109 36 = some (.aload_n 0, 1) := by decide +kernel
theorem s_109_36 (cl : am_C) (a1 : Option am_V) (x : Nat) (st : List am_V) (h : am_H) : am_go0 cl 109 36 [some (.inr (.inr (some x))), a1] st h = am_go0 cl 109 37 [some (.inr (.inr (some x))), a1] (.inr (.inr (some x)) :: st) h := am_r am_m109 d_109_36 rfl
theorem d_109_37 : am_code 109 37 = some (.getfield 54, 3) := by decide +kernel
theorem s_109_37 (cl : am_C) (ls : am_Ls) (st : List am_V) (N : Nat) (I : Nat → Int → Int) (L : Nat → Int → Int64) : am_go0 cl 109 37 ls (.inr (.inr (some 44)) :: st) (am_GS N, am_GR, I, L) = am_go0 cl 109 40 ls (.inr (.inr (some 22)) :: st) (am_GS N, am_GR, I, L) := am_rG2 am_m109 d_109_37 am_f7054 rfl (gs_44 N) (by decide) gr_44_1 rfl
theorem d_109_40 : am_code 109 40 = some (.iload_n 1, 1) := by decide +kernel
theorem s_109_40 (cl : am_C) (a0 : Option am_V) (x : Int) (st : List am_V) (h : am_H) : am_go0 cl 109 40 [a0, some (.inl x)] st h = am_go0 cl 109 41 [a0, some (.inl x)] (.inl x :: st) h := am_r am_m109 d_109_40 rfl
theorem d_109_41 : am_code 109 41 = some (.invokevirtual 159, 3) := by decide +kernel
theorem s_109_41 (cl : am_C) (ls : am_Ls) (x0 : Int) (N : Nat) (I : Nat → Int → Int) (L : Nat → Int → Int64) : am_go0 cl 109 41 ls [.inl x0, .inr (.inr (some 22))] (am_GS N, am_GR, I, L) = am_bd (cl 54 [.inr (.inr (some 22)), .inl x0] (am_GS N, am_GR, I, L)) (fun v h2 => am_go0 cl 109 44 ls (v.toList ++ []) h2) := am_rV am_m109 d_109_41 am_k7159 rfl am_m54 (gs_22 N) (by decide) (Nat.le_of_ble_eq_true rfl) rfl ls
theorem d_109_44 : am_code 109 44 = some (.ireturn, 1) := by decide +kernel
theorem s_109_44 (cl : am_C) (ls : am_Ls) (x : Int) (h : am_H) : am_go0 cl 109 44 ls [.inl x] h = some (some (.inl x), h) := am_rE am_m109 d_109_44 rfl
theorem d_109_45 : am_code 109 45 = some (.aload_n 0, 1) := by decide +kernel
theorem s_109_45 (cl : am_C) (a1 : Option am_V) (x : Nat) (st : List am_V) (h : am_H) : am_go0 cl 109 45 [some (.inr (.inr (some x))), a1] st h = am_go0 cl 109 46 [some (.inr (.inr (some x))), a1] (.inr (.inr (some x)) :: st) h := am_r am_m109 d_109_45 rfl
theorem d_109_46 : am_code 109 46 = some (.getfield 54, 3) := by decide +kernel
theorem s_109_46 (cl : am_C) (ls : am_Ls) (st : List am_V) (N : Nat) (I : Nat → Int → Int) (L : Nat → Int → Int64) : am_go0 cl 109 46 ls (.inr (.inr (some 44)) :: st) (am_GS N, am_GR, I, L) = am_go0 cl 109 49 ls (.inr (.inr (some 22)) :: st) (am_GS N, am_GR, I, L) := am_rG2 am_m109 d_109_46 am_f7054 rfl (gs_44 N) (by decide) gr_44_1 rfl
theorem d_109_49 : am_code 109 49 = some (.iload_n 1, 1) := by decide +kernel
theorem s_109_49 (cl : am_C) (a0 : Option am_V) (x : Int) (st : List am_V) (h : am_H) : am_go0 cl 109 49 [a0, some (.inl x)] st h = am_go0 cl 109 50 [a0, some (.inl x)] (.inl x :: st) h := am_r am_m109 d_109_49 rfl
theorem d_109_50 : am_code 109 50 = some (.invokevirtual 184, 3) := by decide +kernel
theorem s_109_50 (cl : am_C) (ls : am_Ls) (x0 : Int) (N : Nat) (I : Nat → Int → Int) (L : Nat → Int → Int64) : am_go0 cl 109 50 ls [.inl x0, .inr (.inr (some 22))] (am_GS N, am_GR, I, L) = am_bd (cl 56 [.inr (.inr (some 22)), .inl x0] (am_GS N, am_GR, I, L)) (fun v h2 => am_go0 cl 109 53 ls (v.toList ++ []) h2) := am_rV am_m109 d_109_50 am_k7184 rfl am_m56 (gs_22 N) (by decide) (Nat.le_of_ble_eq_true rfl) rfl ls
theorem d_109_53 : am_code 109 53 = some (.ireturn, 1) := by decide +kernel
theorem s_109_53 (cl : am_C) (ls : am_Ls) (x : Int) (h : am_H) : am_go0 cl 109 53 ls [.inl x] h = some (some (.inl x), h) := am_rE am_m109 d_109_53 rfl
theorem d_109_54 : am_code 109 54 = some (.aload_n 0, 1) := by decide +kernel
theorem s_109_54 (cl : am_C) (a1 : Option am_V) (x : Nat) (st : List am_V) (h : am_H) : am_go0 cl 109 54 [some (.inr (.inr (some x))), a1] st h = am_go0 cl 109 55 [some (.inr (.inr (some x))), a1] (.inr (.inr (some x)) :: st) h := am_r am_m109 d_109_54 rfl
theorem d_109_55 : am_code 109 55 = some (.getfield 54, 3) := by decide +kernel
theorem s_109_55 (cl : am_C) (ls : am_Ls) (st : List am_V) (N : Nat) (I : Nat → Int → Int) (L : Nat → Int → Int64) : am_go0 cl 109 55 ls (.inr (.inr (some 44)) :: st) (am_GS N, am_GR, I, L) = am_go0 cl 109 58 ls (.inr (.inr (some 22)) :: st) (am_GS N, am_GR, I, L) := am_rG2 am_m109 d_109_55 am_f7054 rfl (gs_44 N) (by decide) gr_44_1 rfl
theorem d_109_58 : am_code 109 58 = some (.iload_n 1, 1) := by decide +kernel
theorem s_109_58 (cl : am_C) (a0 : Option am_V) (x : Int) (st : List am_V) (h : am_H) : am_go0 cl 109 58 [a0, some (.inl x)] st h = am_go0 cl 109 59 [a0, some (.inl x)] (.inl x :: st) h := am_r am_m109 d_109_58 rfl
theorem d_109_59 : am_code 109 59 = some (.invokevirtual 181, 3) := by decide +kernel
theorem s_109_59 (cl : am_C) (ls : am_Ls) (x0 : Int) (N : Nat) (I : Nat → Int → Int) (L : Nat → Int → Int64) : am_go0 cl 109 59 ls [.inl x0, .inr (.inr (some 22))] (am_GS N, am_GR, I, L) = am_bd (cl 55 [.inr (.inr (some 22)), .inl x0] (am_GS N, am_GR, I, L)) (fun v h2 => am_go0 cl 109 62 ls (v.toList ++ []) h2) := am_rV am_m109 d_109_59 am_k7181 rfl am_m55 (gs_22 N) (by decide) (Nat.le_of_ble_eq_true rfl) rfl ls
theorem d_109_62 : am_code 109 62 = some (.ireturn, 1) := by decide +kernel
theorem s_109_62 (cl : am_C) (ls : am_Ls) (x : Int) (h : am_H) : am_go0 cl 109 62 ls [.inl x] h = some (some (.inl x), h) := am_rE am_m109 d_109_62 rfl
theorem e_109 (d : Nat) (t : Nat) (p0 : Int) (h : am_H) : am_call (d + 1) 109 [.inr (.inr (some t)), .inl p0] h = am_go0 (am_call d) 109 0 [some (.inr (.inr (some t))), some (.inl p0)] [] h := am_callE am_m109 (Nat.le_of_ble_eq_true rfl) rfl
theorem d_110_0 : am_code 110 0 = some (.iload_n 1, 1) := by decide +kernel
theorem s_110_0 (cl : am_C) (a0 a2 : Option am_V) (x : Int) (st : List am_V) (h : am_H) : am_go0 cl 110 0 [a0, some (.inl x), a2] st h = am_go0 cl 110 1 [a0, some (.inl x), a2] (.inl x :: st) h := am_r am_m110 d_110_0 rfl
theorem d_110_1 : am_code 110 1 = some (.bipush (-3), 2) := by decide +kernel
theorem s_110_1 (cl : am_C) (ls : am_Ls) (st : List am_V) (h : am_H) : am_go0 cl 110 1 ls st h = am_go0 cl 110 3 ls (.inl (-3) :: st) h := am_rB am_m110 d_110_1 (by decide) rfl _ _ _
theorem d_110_3 : am_code 110 3 = some (.if_icmp .ne 11, 3) := by decide +kernel
theorem s_110_3 (cl : am_C) (ls : am_Ls) (x y : Int) (st : List am_V) (h : am_H) : am_go0 cl 110 3 ls (.inl y :: .inl x :: st) h = if x = y then am_go0 cl 110 6 ls st h else am_go0 cl 110 14 ls st h := (am_rJ0 am_m110 d_110_3 (by decide) rfl x y ls st h).trans (am_ifF ((am_cmp_ne x y).trans Iff.rfl) _ _)
theorem d_110_6 : am_code 110 6 = some (.aload_n 0, 1) := by decide +kernel
theorem s_110_6 (cl : am_C) (a1 a2 : Option am_V) (x : Nat) (st : List am_V) (h : am_H) : am_go0 cl 110 6 [some (.inr (.inr (some x))), a1, a2] st h = am_go0 cl 110 7 [some (.inr (.inr (some x))), a1, a2] (.inr (.inr (some x)) :: st) h := am_r am_m110 d_110_6 rfl
theorem d_110_7 : am_code 110 7 = some (.iconst 5, 1) := by decide +kernel
theorem s_110_7 (cl : am_C) (ls : am_Ls) (st : List am_V) (h : am_H) : am_go0 cl 110 7 ls st h = am_go0 cl 110 8 ls (.inl 5 :: st) h := am_rK am_m110 d_110_7 (by decide) rfl _ _ _
theorem d_110_8 : am_code 110 8 = some (.invokevirtual 191, 3) := by decide +kernel
theorem s_110_8 (cl : am_C) (ls : am_Ls) (x0 : Int) (N : Nat) (I : Nat → Int → Int) (L : Nat → Int → Int64) : am_go0 cl 110 8 ls [.inl x0, .inr (.inr (some 44))] (am_GS N, am_GR, I, L) = am_bd (cl 107 [.inr (.inr (some 44)), .inl x0] (am_GS N, am_GR, I, L)) (fun v h2 => am_go0 cl 110 11 ls (v.toList ++ []) h2) := am_rV am_m110 d_110_8 am_k7191 rfl am_m107 (gs_44 N) (by decide) (Nat.le_of_ble_eq_true rfl) rfl ls
theorem d_110_11 : am_code 110 11 = some (.goto 23, 3) := by decide +kernel
theorem s_110_11 (cl : am_C) (ls : am_Ls) (st : List am_V) (h : am_H) : am_go0 cl 110 11 ls st h = am_go0 cl 110 34 ls st h := am_rGo am_m110 d_110_11 (by decide) _ _ _
theorem d_110_14 : am_code 110 14 = some (.iload_n 1, 1) := by decide +kernel
theorem s_110_14 (cl : am_C) (a0 a2 : Option am_V) (x : Int) (st : List am_V) (h : am_H) : am_go0 cl 110 14 [a0, some (.inl x), a2] st h = am_go0 cl 110 15 [a0, some (.inl x), a2] (.inl x :: st) h := am_r am_m110 d_110_14 rfl
theorem d_110_15 : am_code 110 15 = some (.bipush (-4), 2) := by decide +kernel
theorem s_110_15 (cl : am_C) (ls : am_Ls) (st : List am_V) (h : am_H) : am_go0 cl 110 15 ls st h = am_go0 cl 110 17 ls (.inl (-4) :: st) h := am_rB am_m110 d_110_15 (by decide) rfl _ _ _
theorem d_110_17 : am_code 110 17 = some (.if_icmp .ne 11, 3) := by decide +kernel
theorem s_110_17 (cl : am_C) (ls : am_Ls) (x y : Int) (st : List am_V) (h : am_H) : am_go0 cl 110 17 ls (.inl y :: .inl x :: st) h = if x = y then am_go0 cl 110 20 ls st h else am_go0 cl 110 28 ls st h := (am_rJ0 am_m110 d_110_17 (by decide) rfl x y ls st h).trans (am_ifF ((am_cmp_ne x y).trans Iff.rfl) _ _)
theorem d_110_20 : am_code 110 20 = some (.aload_n 0, 1) := by decide +kernel
theorem s_110_20 (cl : am_C) (a1 a2 : Option am_V) (x : Nat) (st : List am_V) (h : am_H) : am_go0 cl 110 20 [some (.inr (.inr (some x))), a1, a2] st h = am_go0 cl 110 21 [some (.inr (.inr (some x))), a1, a2] (.inr (.inr (some x)) :: st) h := am_r am_m110 d_110_20 rfl
theorem d_110_21 : am_code 110 21 = some (.iconst 4, 1) := by decide +kernel
theorem s_110_21 (cl : am_C) (ls : am_Ls) (st : List am_V) (h : am_H) : am_go0 cl 110 21 ls st h = am_go0 cl 110 22 ls (.inl 4 :: st) h := am_rK am_m110 d_110_21 (by decide) rfl _ _ _
theorem d_110_22 : am_code 110 22 = some (.invokevirtual 191, 3) := by decide +kernel
theorem s_110_22 (cl : am_C) (ls : am_Ls) (x0 : Int) (N : Nat) (I : Nat → Int → Int) (L : Nat → Int → Int64) : am_go0 cl 110 22 ls [.inl x0, .inr (.inr (some 44))] (am_GS N, am_GR, I, L) = am_bd (cl 107 [.inr (.inr (some 44)), .inl x0] (am_GS N, am_GR, I, L)) (fun v h2 => am_go0 cl 110 25 ls (v.toList ++ []) h2) := am_rV am_m110 d_110_22 am_k7191 rfl am_m107 (gs_44 N) (by decide) (Nat.le_of_ble_eq_true rfl) rfl ls
theorem d_110_25 : am_code 110 25 = some (.goto 9, 3) := by decide +kernel
theorem s_110_25 (cl : am_C) (ls : am_Ls) (st : List am_V) (h : am_H) : am_go0 cl 110 25 ls st h = am_go0 cl 110 34 ls st h := am_rGo am_m110 d_110_25 (by decide) _ _ _
theorem d_110_28 : am_code 110 28 = some (.aload_n 0, 1) := by decide +kernel
theorem s_110_28 (cl : am_C) (a1 a2 : Option am_V) (x : Nat) (st : List am_V) (h : am_H) : am_go0 cl 110 28 [some (.inr (.inr (some x))), a1, a2] st h = am_go0 cl 110 29 [some (.inr (.inr (some x))), a1, a2] (.inr (.inr (some x)) :: st) h := am_r am_m110 d_110_28 rfl
theorem d_110_29 : am_code 110 29 = some (.iload_n 1, 1) := by decide +kernel
theorem s_110_29 (cl : am_C) (a0 a2 : Option am_V) (x : Int) (st : List am_V) (h : am_H) : am_go0 cl 110 29 [a0, some (.inl x), a2] st h = am_go0 cl 110 30 [a0, some (.inl x), a2] (.inl x :: st) h := am_r am_m110 d_110_29 rfl
theorem d_110_30 : am_code 110 30 = some (.iload_n 2, 1) := by decide +kernel
theorem s_110_30 (cl : am_C) (a0 a1 : Option am_V) (x : Int) (st : List am_V) (h : am_H) : am_go0 cl 110 30 [a0, a1, some (.inl x)] st h = am_go0 cl 110 31 [a0, a1, some (.inl x)] (.inl x :: st) h := am_r am_m110 d_110_30 rfl
theorem d_110_31 : am_code 110 31 = some (.invokevirtual 83, 3) := by decide +kernel
theorem s_110_31 (cl : am_C) (ls : am_Ls) (x0 : Int) (x1 : Int) (N : Nat) (I : Nat → Int → Int) (L : Nat → Int → Int64) : am_go0 cl 110 31 ls [.inl x1, .inl x0, .inr (.inr (some 44))] (am_GS N, am_GR, I, L) = am_bd (cl 98 [.inr (.inr (some 44)), .inl x0, .inl x1] (am_GS N, am_GR, I, L)) (fun v h2 => am_go0 cl 110 34 ls (v.toList ++ []) h2) := am_rV am_m110 d_110_31 am_k7083 rfl am_m98 (gs_44 N) (by decide) (Nat.le_of_ble_eq_true rfl) rfl ls
theorem d_110_34 : am_code 110 34 = some (.return_, 1) := by decide +kernel
theorem s_110_34 (cl : am_C) (ls : am_Ls) (h : am_H) : am_go0 cl 110 34 ls [] h = some (none, h) := am_rE am_m110 d_110_34 rfl
theorem e_110 (d : Nat) (t : Nat) (p0 : Int) (p1 : Int) (h : am_H) : am_call (d + 1) 110 [.inr (.inr (some t)), .inl p0, .inl p1] h = am_go0 (am_call d) 110 0 [some (.inr (.inr (some t))), some (.inl p0), some (.inl p1)] [] h := am_callE am_m110 (Nat.le_of_ble_eq_true rfl) rfl
