theorem d_30_0 : am_code 30 0 = some (.aload_n 0, 1) := by decide +kernel
theorem s_30_0 (cl : am_C) (a1 a2 : Option am_V) (x : Nat) (st : List am_V) (h : am_H) : am_go0 cl 30 0 [some (.inr (.inr (some x))), a1, a2] st h = am_go0 cl 30 1 [some (.inr (.inr (some x))), a1, a2] (.inr (.inr (some x)) :: st) h := am_r am_m30 d_30_0 rfl
theorem d_30_1 : am_code 30 1 = some (.getfield 40, 3) := by decide +kernel
theorem s_30_1 (cl : am_C) (ls : am_Ls) (st : List am_V) (N : Nat) (I : Nat → Int → Int) (L : Nat → Int → Int64) : am_go0 cl 30 1 ls (.inr (.inr (some 15)) :: st) (am_GS N, am_GR, I, L) = am_go0 cl 30 4 ls (.inr (.inr (some 10)) :: st) (am_GS N, am_GR, I, L) := am_rG2 am_m30 d_30_1 am_f2040 rfl (gs_15 N) (by decide) gr_15_1 rfl
theorem d_30_4 : am_code 30 4 = some (.iload_n 1, 1) := by decide +kernel
theorem s_30_4 (cl : am_C) (a0 a2 : Option am_V) (x : Int) (st : List am_V) (h : am_H) : am_go0 cl 30 4 [a0, some (.inl x), a2] st h = am_go0 cl 30 5 [a0, some (.inl x), a2] (.inl x :: st) h := am_r am_m30 d_30_4 rfl
theorem d_30_5 : am_code 30 5 = some (.invokevirtual 56, 3) := by decide +kernel
theorem s_30_5 (cl : am_C) (ls : am_Ls) (x0 : Int) (N : Nat) (I : Nat → Int → Int) (L : Nat → Int → Int64) : am_go0 cl 30 5 ls [.inl x0, .inr (.inr (some 10))] (am_GS N, am_GR, I, L) = am_bd (cl 3 [.inr (.inr (some 10)), .inl x0] (am_GS N, am_GR, I, L)) (fun v h2 => am_go0 cl 30 8 ls (v.toList ++ []) h2) := am_rV am_m30 d_30_5 am_k2056 rfl am_m3 (gs_10 N) (by decide) (Nat.le_of_ble_eq_true rfl) rfl ls
theorem d_30_8 : am_code 30 8 = some (.ifCond .eq 14, 3) := by decide +kernel
theorem s_30_8 (cl : am_C) (ls : am_Ls) (x : Int) (st : List am_V) (h : am_H) : am_go0 cl 30 8 ls (.inl x :: st) h = if x = 0 then am_go0 cl 30 22 ls st h else am_go0 cl 30 11 ls st h := (am_rJ1 am_m30 d_30_8 (by decide) rfl x ls st h).trans (am_ifT (am_cmp_eq x 0) _ _)
theorem d_30_11 : am_code 30 11 = some (.aload_n 0, 1) := by decide +kernel
theorem s_30_11 (cl : am_C) (a1 a2 : Option am_V) (x : Nat) (st : List am_V) (h : am_H) : am_go0 cl 30 11 [some (.inr (.inr (some x))), a1, a2] st h = am_go0 cl 30 12 [some (.inr (.inr (some x))), a1, a2] (.inr (.inr (some x)) :: st) h := am_r am_m30 d_30_11 rfl
theorem d_30_12 : am_code 30 12 = some (.getfield 36, 3) := by decide +kernel
theorem s_30_12 (cl : am_C) (ls : am_Ls) (st : List am_V) (N : Nat) (I : Nat → Int → Int) (L : Nat → Int → Int64) : am_go0 cl 30 12 ls (.inr (.inr (some 15)) :: st) (am_GS N, am_GR, I, L) = am_go0 cl 30 15 ls (.inr (.inr (some 2)) :: st) (am_GS N, am_GR, I, L) := am_rG2 am_m30 d_30_12 am_f2036 rfl (gs_15 N) (by decide) gr_15_0 rfl
theorem d_30_15 : am_code 30 15 = some (.iload_n 2, 1) := by decide +kernel
theorem s_30_15 (cl : am_C) (a0 a1 : Option am_V) (x : Int) (st : List am_V) (h : am_H) : am_go0 cl 30 15 [a0, a1, some (.inl x)] st h = am_go0 cl 30 16 [a0, a1, some (.inl x)] (.inl x :: st) h := am_r am_m30 d_30_15 rfl
theorem d_30_16 : am_code 30 16 = some (.invokevirtual 60, 3) := by decide +kernel
theorem s_30_16 (cl : am_C) (ls : am_Ls) (x0 : Int) (N : Nat) (I : Nat → Int → Int) (L : Nat → Int → Int64) : am_go0 cl 30 16 ls [.inl x0, .inr (.inr (some 2))] (am_GS N, am_GR, I, L) = am_bd (cl 73 [.inr (.inr (some 2)), .inl x0] (am_GS N, am_GR, I, L)) (fun v h2 => am_go0 cl 30 19 ls (v.toList ++ []) h2) := am_rV am_m30 d_30_16 am_k2060 rfl am_m73 (gs_2 N) (by decide) (Nat.le_of_ble_eq_true rfl) rfl ls
theorem d_30_19 : am_code 30 19 = some (.ifCond .ne 6, 3) := by decide +kernel
theorem s_30_19 (cl : am_C) (ls : am_Ls) (x : Int) (st : List am_V) (h : am_H) : am_go0 cl 30 19 ls (.inl x :: st) h = if x = 0 then am_go0 cl 30 22 ls st h else am_go0 cl 30 25 ls st h := (am_rJ1 am_m30 d_30_19 (by decide) rfl x ls st h).trans (am_ifF ((am_cmp_ne x 0).trans Iff.rfl) _ _)
theorem d_30_22 : am_code 30 22 = some (.bipush (-2), 2) := by decide +kernel
theorem s_30_22 (cl : am_C) (ls : am_Ls) (st : List am_V) (h : am_H) : am_go0 cl 30 22 ls st h = am_go0 cl 30 24 ls (.inl (-2) :: st) h := am_rB am_m30 d_30_22 (by decide) rfl _ _ _
theorem d_30_24 : am_code 30 24 = some (.ireturn, 1) := by decide +kernel
theorem s_30_24 (cl : am_C) (ls : am_Ls) (x : Int) (h : am_H) : am_go0 cl 30 24 ls [.inl x] h = some (some (.inl x), h) := am_rE am_m30 d_30_24 rfl
theorem d_30_25 : am_code 30 25 = some (.aload_n 0, 1) := by decide +kernel
theorem s_30_25 (cl : am_C) (a1 a2 : Option am_V) (x : Nat) (st : List am_V) (h : am_H) : am_go0 cl 30 25 [some (.inr (.inr (some x))), a1, a2] st h = am_go0 cl 30 26 [some (.inr (.inr (some x))), a1, a2] (.inr (.inr (some x)) :: st) h := am_r am_m30 d_30_25 rfl
theorem d_30_26 : am_code 30 26 = some (.iload_n 1, 1) := by decide +kernel
theorem s_30_26 (cl : am_C) (a0 a2 : Option am_V) (x : Int) (st : List am_V) (h : am_H) : am_go0 cl 30 26 [a0, some (.inl x), a2] st h = am_go0 cl 30 27 [a0, some (.inl x), a2] (.inl x :: st) h := am_r am_m30 d_30_26 rfl
theorem d_30_27 : am_code 30 27 = some (.iload_n 2, 1) := by decide +kernel
theorem s_30_27 (cl : am_C) (a0 a1 : Option am_V) (x : Int) (st : List am_V) (h : am_H) : am_go0 cl 30 27 [a0, a1, some (.inl x)] st h = am_go0 cl 30 28 [a0, a1, some (.inl x)] (.inl x :: st) h := am_r am_m30 d_30_27 rfl
theorem d_30_28 : am_code 30 28 = some (.invokevirtual 63, 3) := by decide +kernel
theorem s_30_28 (cl : am_C) (ls : am_Ls) (x0 : Int) (x1 : Int) (N : Nat) (I : Nat → Int → Int) (L : Nat → Int → Int64) : am_go0 cl 30 28 ls [.inl x1, .inl x0, .inr (.inr (some 15))] (am_GS N, am_GR, I, L) = am_bd (cl 31 [.inr (.inr (some 15)), .inl x0, .inl x1] (am_GS N, am_GR, I, L)) (fun v h2 => am_go0 cl 30 31 ls (v.toList ++ []) h2) := am_rV am_m30 d_30_28 am_k2063 rfl am_m31 (gs_15 N) (by decide) (Nat.le_of_ble_eq_true rfl) rfl ls
theorem d_30_31 : am_code 30 31 = some (.iconst (-1), 1) := by decide +kernel
theorem s_30_31 (cl : am_C) (ls : am_Ls) (st : List am_V) (h : am_H) : am_go0 cl 30 31 ls st h = am_go0 cl 30 32 ls (.inl (-1) :: st) h := am_rK am_m30 d_30_31 (by decide) rfl _ _ _
theorem d_30_32 : am_code 30 32 = some (.if_icmp .eq 6, 3) := by decide +kernel
theorem s_30_32 (cl : am_C) (ls : am_Ls) (x y : Int) (st : List am_V) (h : am_H) : am_go0 cl 30 32 ls (.inl y :: .inl x :: st) h = if x = y then am_go0 cl 30 38 ls st h else am_go0 cl 30 35 ls st h := (am_rJ0 am_m30 d_30_32 (by decide) rfl x y ls st h).trans (am_ifT (am_cmp_eq x y) _ _)
theorem d_30_35 : am_code 30 35 = some (.bipush (-2), 2) := by decide +kernel
theorem s_30_35 (cl : am_C) (ls : am_Ls) (st : List am_V) (h : am_H) : am_go0 cl 30 35 ls st h = am_go0 cl 30 37 ls (.inl (-2) :: st) h := am_rB am_m30 d_30_35 (by decide) rfl _ _ _
theorem d_30_37 : am_code 30 37 = some (.ireturn, 1) := by decide +kernel
theorem s_30_37 (cl : am_C) (ls : am_Ls) (x : Int) (h : am_H) : am_go0 cl 30 37 ls [.inl x] h = some (some (.inl x), h) := am_rE am_m30 d_30_37 rfl
theorem d_30_38 : am_code 30 38 = some (.aload_n 0, 1) := by decide +kernel
theorem s_30_38 (cl : am_C) (a1 a2 : Option am_V) (x : Nat) (st : List am_V) (h : am_H) : am_go0 cl 30 38 [some (.inr (.inr (some x))), a1, a2] st h = am_go0 cl 30 39 [some (.inr (.inr (some x))), a1, a2] (.inr (.inr (some x)) :: st) h := am_r am_m30 d_30_38 rfl
theorem d_30_39 : am_code 30 39 = some (.getfield 32, 3) := by decide +kernel
theorem s_30_39 (cl : am_C) (ls : am_Ls) (st : List am_V) (N : Nat) (I : Nat → Int → Int) (L : Nat → Int → Int64) : am_go0 cl 30 39 ls (.inr (.inr (some 15)) :: st) (am_GS N, am_GR, I, L) = am_go0 cl 30 42 ls (.inl (I 15 8) :: st) (am_GS N, am_GR, I, L) := am_rG0 am_m30 d_30_39 am_f2032 rfl (gs_15 N) (by decide) rfl
theorem d_30_42 : am_code 30 42 = some (.bipush 20, 2) := by decide +kernel
theorem s_30_42 (cl : am_C) (ls : am_Ls) (st : List am_V) (h : am_H) : am_go0 cl 30 42 ls st h = am_go0 cl 30 44 ls (.inl 20 :: st) h := am_rB am_m30 d_30_42 (by decide) rfl _ _ _
theorem d_30_44 : am_code 30 44 = some (.if_icmp .lt 6, 3) := by decide +kernel
theorem s_30_44 (cl : am_C) (ls : am_Ls) (x y : Int) (st : List am_V) (h : am_H) : am_go0 cl 30 44 ls (.inl y :: .inl x :: st) h = if x < y then am_go0 cl 30 50 ls st h else am_go0 cl 30 47 ls st h := (am_rJ0 am_m30 d_30_44 (by decide) rfl x y ls st h).trans (am_ifT (am_cmp_lt x y) _ _)
theorem d_30_47 : am_code 30 47 = some (.bipush (-3), 2) := by decide +kernel
theorem s_30_47 (cl : am_C) (ls : am_Ls) (st : List am_V) (h : am_H) : am_go0 cl 30 47 ls st h = am_go0 cl 30 49 ls (.inl (-3) :: st) h := am_rB am_m30 d_30_47 (by decide) rfl _ _ _
theorem d_30_49 : am_code 30 49 = some (.ireturn, 1) := by decide +kernel
theorem s_30_49 (cl : am_C) (ls : am_Ls) (x : Int) (h : am_H) : am_go0 cl 30 49 ls [.inl x] h = some (some (.inl x), h) := am_rE am_m30 d_30_49 rfl
theorem d_30_50 : am_code 30 50 = some (.aload_n 0, 1) := by decide +kernel
theorem s_30_50 (cl : am_C) (a1 a2 : Option am_V) (x : Nat) (st : List am_V) (h : am_H) : am_go0 cl 30 50 [some (.inr (.inr (some x))), a1, a2] st h = am_go0 cl 30 51 [some (.inr (.inr (some x))), a1, a2] (.inr (.inr (some x)) :: st) h := am_r am_m30 d_30_50 rfl
theorem d_30_51 : am_code 30 51 = some (.getfield 11, 3) := by decide +kernel
theorem s_30_51 (cl : am_C) (ls : am_Ls) (st : List am_V) (N : Nat) (I : Nat → Int → Int) (L : Nat → Int → Int64) : am_go0 cl 30 51 ls (.inr (.inr (some 15)) :: st) (am_GS N, am_GR, I, L) = am_go0 cl 30 54 ls (.inr (.inr (some 16)) :: st) (am_GS N, am_GR, I, L) := am_rG2 am_m30 d_30_51 am_f2011 rfl (gs_15 N) (by decide) gr_15_2 rfl
theorem d_30_54 : am_code 30 54 = some (.aload_n 0, 1) := by decide +kernel
theorem s_30_54 (cl : am_C) (a1 a2 : Option am_V) (x : Nat) (st : List am_V) (h : am_H) : am_go0 cl 30 54 [some (.inr (.inr (some x))), a1, a2] st h = am_go0 cl 30 55 [some (.inr (.inr (some x))), a1, a2] (.inr (.inr (some x)) :: st) h := am_r am_m30 d_30_54 rfl
theorem d_30_55 : am_code 30 55 = some (.getfield 32, 3) := by decide +kernel
theorem s_30_55 (cl : am_C) (ls : am_Ls) (st : List am_V) (N : Nat) (I : Nat → Int → Int) (L : Nat → Int → Int64) : am_go0 cl 30 55 ls (.inr (.inr (some 15)) :: st) (am_GS N, am_GR, I, L) = am_go0 cl 30 58 ls (.inl (I 15 8) :: st) (am_GS N, am_GR, I, L) := am_rG0 am_m30 d_30_55 am_f2032 rfl (gs_15 N) (by decide) rfl
theorem d_30_58 : am_code 30 58 = some (.iload_n 1, 1) := by decide +kernel
theorem s_30_58 (cl : am_C) (a0 a2 : Option am_V) (x : Int) (st : List am_V) (h : am_H) : am_go0 cl 30 58 [a0, some (.inl x), a2] st h = am_go0 cl 30 59 [a0, some (.inl x), a2] (.inl x :: st) h := am_r am_m30 d_30_58 rfl
theorem d_30_59 : am_code 30 59 = some (.iastore, 1) := by decide +kernel
theorem s_30_59 (cl : am_C) (ls : am_Ls) (i : Int) (v : Int) (k : Nat) (st : List am_V) (N : Nat) (I : Nat → Int → Int) (L : Nat → Int → Int64) : am_go0 cl 30 59 ls (.inl v :: .inl i :: .inr (.inr (some k)) :: st) (am_GS N, am_GR, I, L) = if am_inb (am_GS N) k 0 i = true then am_go0 cl 30 60 ls st (am_GS N, am_GR, am_uI I k i v, L) else none := am_rS am_m30 d_30_59 rfl k ls st i v _ _ I L
theorem d_30_60 : am_code 30 60 = some (.aload_n 0, 1) := by decide +kernel
theorem s_30_60 (cl : am_C) (a1 a2 : Option am_V) (x : Nat) (st : List am_V) (h : am_H) : am_go0 cl 30 60 [some (.inr (.inr (some x))), a1, a2] st h = am_go0 cl 30 61 [some (.inr (.inr (some x))), a1, a2] (.inr (.inr (some x)) :: st) h := am_r am_m30 d_30_60 rfl
theorem d_30_61 : am_code 30 61 = some (.getfield 15, 3) := by decide +kernel
theorem s_30_61 (cl : am_C) (ls : am_Ls) (st : List am_V) (N : Nat) (I : Nat → Int → Int) (L : Nat → Int → Int64) : am_go0 cl 30 61 ls (.inr (.inr (some 15)) :: st) (am_GS N, am_GR, I, L) = am_go0 cl 30 64 ls (.inr (.inr (some 17)) :: st) (am_GS N, am_GR, I, L) := am_rG2 am_m30 d_30_61 am_f2015 rfl (gs_15 N) (by decide) gr_15_3 rfl
theorem d_30_64 : am_code 30 64 = some (.aload_n 0, 1) := by decide +kernel
theorem s_30_64 (cl : am_C) (a1 a2 : Option am_V) (x : Nat) (st : List am_V) (h : am_H) : am_go0 cl 30 64 [some (.inr (.inr (some x))), a1, a2] st h = am_go0 cl 30 65 [some (.inr (.inr (some x))), a1, a2] (.inr (.inr (some x)) :: st) h := am_r am_m30 d_30_64 rfl
theorem d_30_65 : am_code 30 65 = some (.getfield 32, 3) := by decide +kernel
theorem s_30_65 (cl : am_C) (ls : am_Ls) (st : List am_V) (N : Nat) (I : Nat → Int → Int) (L : Nat → Int → Int64) : am_go0 cl 30 65 ls (.inr (.inr (some 15)) :: st) (am_GS N, am_GR, I, L) = am_go0 cl 30 68 ls (.inl (I 15 8) :: st) (am_GS N, am_GR, I, L) := am_rG0 am_m30 d_30_65 am_f2032 rfl (gs_15 N) (by decide) rfl
theorem d_30_68 : am_code 30 68 = some (.iload_n 2, 1) := by decide +kernel
theorem s_30_68 (cl : am_C) (a0 a1 : Option am_V) (x : Int) (st : List am_V) (h : am_H) : am_go0 cl 30 68 [a0, a1, some (.inl x)] st h = am_go0 cl 30 69 [a0, a1, some (.inl x)] (.inl x :: st) h := am_r am_m30 d_30_68 rfl
theorem d_30_69 : am_code 30 69 = some (.iastore, 1) := by decide +kernel
theorem s_30_69 (cl : am_C) (ls : am_Ls) (i : Int) (v : Int) (k : Nat) (st : List am_V) (N : Nat) (I : Nat → Int → Int) (L : Nat → Int → Int64) : am_go0 cl 30 69 ls (.inl v :: .inl i :: .inr (.inr (some k)) :: st) (am_GS N, am_GR, I, L) = if am_inb (am_GS N) k 0 i = true then am_go0 cl 30 70 ls st (am_GS N, am_GR, am_uI I k i v, L) else none := am_rS am_m30 d_30_69 rfl k ls st i v _ _ I L
theorem d_30_70 : am_code 30 70 = some (.aload_n 0, 1) := by decide +kernel
theorem s_30_70 (cl : am_C) (a1 a2 : Option am_V) (x : Nat) (st : List am_V) (h : am_H) : am_go0 cl 30 70 [some (.inr (.inr (some x))), a1, a2] st h = am_go0 cl 30 71 [some (.inr (.inr (some x))), a1, a2] (.inr (.inr (some x)) :: st) h := am_r am_m30 d_30_70 rfl
theorem d_30_71 : am_code 30 71 = some (.dup, 1) := by decide +kernel
theorem s_30_71 (cl : am_C) (ls : am_Ls) (x : Nat) (st : List am_V) (h : am_H) : am_go0 cl 30 71 ls (.inr (.inr (some x)) :: st) h = am_go0 cl 30 72 ls (.inr (.inr (some x)) :: .inr (.inr (some x)) :: st) h := am_r am_m30 d_30_71 rfl
theorem d_30_72 : am_code 30 72 = some (.getfield 32, 3) := by decide +kernel
theorem s_30_72 (cl : am_C) (ls : am_Ls) (st : List am_V) (N : Nat) (I : Nat → Int → Int) (L : Nat → Int → Int64) : am_go0 cl 30 72 ls (.inr (.inr (some 15)) :: st) (am_GS N, am_GR, I, L) = am_go0 cl 30 75 ls (.inl (I 15 8) :: st) (am_GS N, am_GR, I, L) := am_rG0 am_m30 d_30_72 am_f2032 rfl (gs_15 N) (by decide) rfl
theorem d_30_75 : am_code 30 75 = some (.dup_x1, 1) := by decide +kernel
theorem s_30_75 (cl : am_C) (ls : am_Ls) (x : Int) (y : Nat) (st : List am_V) (h : am_H) : am_go0 cl 30 75 ls (.inl x :: .inr (.inr (some y)) :: st) h = am_go0 cl 30 76 ls (.inl x :: .inr (.inr (some y)) :: .inl x :: st) h := am_r am_m30 d_30_75 rfl
theorem d_30_76 : am_code 30 76 = some (.iconst 1, 1) := by decide +kernel
theorem s_30_76 (cl : am_C) (ls : am_Ls) (st : List am_V) (h : am_H) : am_go0 cl 30 76 ls st h = am_go0 cl 30 77 ls (.inl 1 :: st) h := am_rK am_m30 d_30_76 (by decide) rfl _ _ _
theorem d_30_77 : am_code 30 77 = some (.iadd, 1) := by decide +kernel
theorem s_30_77 (cl : am_C) (ls : am_Ls) (x y : Int) (st : List am_V) (h : am_H) : am_go0 cl 30 77 ls (.inl y :: .inl x :: st) h = am_go0 cl 30 78 ls (.inl (am_wr (x + y)) :: st) h := am_r am_m30 d_30_77 rfl
theorem d_30_78 : am_code 30 78 = some (.putfield 32, 3) := by decide +kernel
theorem s_30_78 (cl : am_C) (ls : am_Ls) (v : Int) (st : List am_V) (N : Nat) (I : Nat → Int → Int) (L : Nat → Int → Int64) : am_go0 cl 30 78 ls (.inl v :: .inr (.inr (some 15)) :: st) (am_GS N, am_GR, I, L) = am_go0 cl 30 81 ls st (am_GS N, am_GR, am_uI I 15 8 v, L) := am_rP0 am_m30 d_30_78 am_f2032 rfl (gs_15 N) (by decide) rfl
theorem d_30_81 : am_code 30 81 = some (.ireturn, 1) := by decide +kernel
theorem s_30_81 (cl : am_C) (ls : am_Ls) (x : Int) (h : am_H) : am_go0 cl 30 81 ls [.inl x] h = some (some (.inl x), h) := am_rE am_m30 d_30_81 rfl
theorem e_30 (d : Nat) (t : Nat) (p0 : Int) (p1 : Int) (h : am_H) : am_call (d + 1) 30 [.inr (.inr (some t)), .inl p0, .inl p1] h = am_go0 (am_call d) 30 0 [some (.inr (.inr (some t))), some (.inl p0), some (.inl p1)] [] h := am_callE am_m30 (Nat.le_of_ble_eq_true rfl) rfl
theorem d_31_0 : am_code 31 0 = some (.iconst 0, 1) := by decide +kernel
theorem s_31_0 (cl : am_C) (ls : am_Ls) (st : List am_V) (h : am_H) : am_go0 cl 31 0 ls st h = am_go0 cl 31 1 ls (.inl 0 :: st) h := am_rK am_m31 d_31_0 (by decide) rfl _ _ _
theorem d_31_1 : am_code 31 1 = some (.istore_n 3, 1) := by decide +kernel
theorem s_31_1 (cl : am_C) (a0 a1 a2 a3 : Option am_V) (x : Int) (st : List am_V) (h : am_H) : am_go0 cl 31 1 [a0, a1, a2, a3] (.inl x :: st) h = am_go0 cl 31 2 [a0, a1, am_c1 a2, some (.inl x)] st h := am_r am_m31 d_31_1 rfl
theorem d_31_2 : am_code 31 2 = some (.iload_n 3, 1) := by decide +kernel
theorem s_31_2 (cl : am_C) (a0 a1 a2 : Option am_V) (x : Int) (st : List am_V) (h : am_H) : am_go0 cl 31 2 [a0, a1, a2, some (.inl x)] st h = am_go0 cl 31 3 [a0, a1, a2, some (.inl x)] (.inl x :: st) h := am_r am_m31 d_31_2 rfl
theorem d_31_3 : am_code 31 3 = some (.aload_n 0, 1) := by decide +kernel
theorem s_31_3 (cl : am_C) (a1 a2 a3 : Option am_V) (x : Nat) (st : List am_V) (h : am_H) : am_go0 cl 31 3 [some (.inr (.inr (some x))), a1, a2, a3] st h = am_go0 cl 31 4 [some (.inr (.inr (some x))), a1, a2, a3] (.inr (.inr (some x)) :: st) h := am_r am_m31 d_31_3 rfl
theorem d_31_4 : am_code 31 4 = some (.getfield 32, 3) := by decide +kernel
theorem s_31_4 (cl : am_C) (ls : am_Ls) (st : List am_V) (N : Nat) (I : Nat → Int → Int) (L : Nat → Int → Int64) : am_go0 cl 31 4 ls (.inr (.inr (some 15)) :: st) (am_GS N, am_GR, I, L) = am_go0 cl 31 7 ls (.inl (I 15 8) :: st) (am_GS N, am_GR, I, L) := am_rG0 am_m31 d_31_4 am_f2032 rfl (gs_15 N) (by decide) rfl
theorem d_31_7 : am_code 31 7 = some (.if_icmp .ge 31, 3) := by decide +kernel
theorem s_31_7 (cl : am_C) (ls : am_Ls) (x y : Int) (st : List am_V) (h : am_H) : am_go0 cl 31 7 ls (.inl y :: .inl x :: st) h = if x < y then am_go0 cl 31 10 ls st h else am_go0 cl 31 38 ls st h := (am_rJ0 am_m31 d_31_7 (by decide) rfl x y ls st h).trans (am_ifF ((am_cmp_ge x y).trans Int.not_lt.symm) _ _)
theorem d_31_10 : am_code 31 10 = some (.aload_n 0, 1) := by decide +kernel
theorem s_31_10 (cl : am_C) (a1 a2 a3 : Option am_V) (x : Nat) (st : List am_V) (h : am_H) : am_go0 cl 31 10 [some (.inr (.inr (some x))), a1, a2, a3] st h = am_go0 cl 31 11 [some (.inr (.inr (some x))), a1, a2, a3] (.inr (.inr (some x)) :: st) h := am_r am_m31 d_31_10 rfl
theorem d_31_11 : am_code 31 11 = some (.getfield 11, 3) := by decide +kernel
theorem s_31_11 (cl : am_C) (ls : am_Ls) (st : List am_V) (N : Nat) (I : Nat → Int → Int) (L : Nat → Int → Int64) : am_go0 cl 31 11 ls (.inr (.inr (some 15)) :: st) (am_GS N, am_GR, I, L) = am_go0 cl 31 14 ls (.inr (.inr (some 16)) :: st) (am_GS N, am_GR, I, L) := am_rG2 am_m31 d_31_11 am_f2011 rfl (gs_15 N) (by decide) gr_15_2 rfl
theorem d_31_14 : am_code 31 14 = some (.iload_n 3, 1) := by decide +kernel
theorem s_31_14 (cl : am_C) (a0 a1 a2 : Option am_V) (x : Int) (st : List am_V) (h : am_H) : am_go0 cl 31 14 [a0, a1, a2, some (.inl x)] st h = am_go0 cl 31 15 [a0, a1, a2, some (.inl x)] (.inl x :: st) h := am_r am_m31 d_31_14 rfl
theorem d_31_15 : am_code 31 15 = some (.iaload, 1) := by decide +kernel
theorem s_31_15 (cl : am_C) (ls : am_Ls) (i : Int) (k : Nat) (st : List am_V) (N : Nat) (I : Nat → Int → Int) (L : Nat → Int → Int64) : am_go0 cl 31 15 ls (.inl i :: .inr (.inr (some k)) :: st) (am_GS N, am_GR, I, L) = if am_inb (am_GS N) k 0 i = true then am_go0 cl 31 16 ls (.inl (I k i) :: st) (am_GS N, am_GR, I, L) else none := am_rA am_m31 d_31_15 (by decide) rfl k ls st i _ _ I L
theorem d_31_16 : am_code 31 16 = some (.iload_n 1, 1) := by decide +kernel
theorem s_31_16 (cl : am_C) (a0 a2 a3 : Option am_V) (x : Int) (st : List am_V) (h : am_H) : am_go0 cl 31 16 [a0, some (.inl x), a2, a3] st h = am_go0 cl 31 17 [a0, some (.inl x), a2, a3] (.inl x :: st) h := am_r am_m31 d_31_16 rfl
theorem d_31_17 : am_code 31 17 = some (.if_icmp .ne 15, 3) := by decide +kernel
theorem s_31_17 (cl : am_C) (ls : am_Ls) (x y : Int) (st : List am_V) (h : am_H) : am_go0 cl 31 17 ls (.inl y :: .inl x :: st) h = if x = y then am_go0 cl 31 20 ls st h else am_go0 cl 31 32 ls st h := (am_rJ0 am_m31 d_31_17 (by decide) rfl x y ls st h).trans (am_ifF ((am_cmp_ne x y).trans Iff.rfl) _ _)
theorem d_31_20 : am_code 31 20 = some (.aload_n 0, 1) := by decide +kernel
theorem s_31_20 (cl : am_C) (a1 a2 a3 : Option am_V) (x : Nat) (st : List am_V) (h : am_H) : am_go0 cl 31 20 [some (.inr (.inr (some x))), a1, a2, a3] st h = am_go0 cl 31 21 [some (.inr (.inr (some x))), a1, a2, a3] (.inr (.inr (some x)) :: st) h := am_r am_m31 d_31_20 rfl
theorem d_31_21 : am_code 31 21 = some (.getfield 15, 3) := by decide +kernel
theorem s_31_21 (cl : am_C) (ls : am_Ls) (st : List am_V) (N : Nat) (I : Nat → Int → Int) (L : Nat → Int → Int64) : am_go0 cl 31 21 ls (.inr (.inr (some 15)) :: st) (am_GS N, am_GR, I, L) = am_go0 cl 31 24 ls (.inr (.inr (some 17)) :: st) (am_GS N, am_GR, I, L) := am_rG2 am_m31 d_31_21 am_f2015 rfl (gs_15 N) (by decide) gr_15_3 rfl
theorem d_31_24 : am_code 31 24 = some (.iload_n 3, 1) := by decide +kernel
theorem s_31_24 (cl : am_C) (a0 a1 a2 : Option am_V) (x : Int) (st : List am_V) (h : am_H) : am_go0 cl 31 24 [a0, a1, a2, some (.inl x)] st h = am_go0 cl 31 25 [a0, a1, a2, some (.inl x)] (.inl x :: st) h := am_r am_m31 d_31_24 rfl
theorem d_31_25 : am_code 31 25 = some (.iaload, 1) := by decide +kernel
theorem s_31_25 (cl : am_C) (ls : am_Ls) (i : Int) (k : Nat) (st : List am_V) (N : Nat) (I : Nat → Int → Int) (L : Nat → Int → Int64) : am_go0 cl 31 25 ls (.inl i :: .inr (.inr (some k)) :: st) (am_GS N, am_GR, I, L) = if am_inb (am_GS N) k 0 i = true then am_go0 cl 31 26 ls (.inl (I k i) :: st) (am_GS N, am_GR, I, L) else none := am_rA am_m31 d_31_25 (by decide) rfl k ls st i _ _ I L
theorem d_31_26 : am_code 31 26 = some (.iload_n 2, 1) := by decide +kernel
theorem s_31_26 (cl : am_C) (a0 a1 a3 : Option am_V) (x : Int) (st : List am_V) (h : am_H) : am_go0 cl 31 26 [a0, a1, some (.inl x), a3] st h = am_go0 cl 31 27 [a0, a1, some (.inl x), a3] (.inl x :: st) h := am_r am_m31 d_31_26 rfl
theorem d_31_27 : am_code 31 27 = some (.if_icmp .ne 5, 3) := by decide +kernel
theorem s_31_27 (cl : am_C) (ls : am_Ls) (x y : Int) (st : List am_V) (h : am_H) : am_go0 cl 31 27 ls (.inl y :: .inl x :: st) h = if x = y then am_go0 cl 31 30 ls st h else am_go0 cl 31 32 ls st h := (am_rJ0 am_m31 d_31_27 (by decide) rfl x y ls st h).trans (am_ifF ((am_cmp_ne x y).trans Iff.rfl) _ _)
theorem d_31_30 : am_code 31 30 = some (.iload_n 3, 1) := by decide +kernel
theorem s_31_30 (cl : am_C) (a0 a1 a2 : Option am_V) (x : Int) (st : List am_V) (h : am_H) : am_go0 cl 31 30 [a0, a1, a2, some (.inl x)] st h = am_go0 cl 31 31 [a0, a1, a2, some (.inl x)] (.inl x :: st) h := am_r am_m31 d_31_30 rfl
theorem d_31_31 : am_code 31 31 = some (.ireturn, 1) := by decide +kernel
theorem s_31_31 (cl : am_C) (ls : am_Ls) (x : Int) (h : am_H) : am_go0 cl 31 31 ls [.inl x] h = some (some (.inl x), h) := am_rE am_m31 d_31_31 rfl
theorem d_31_32 : am_code 31 32 = some (.iinc 3 1, 3) := by decide +kernel
theorem s_31_32 (cl : am_C) (a0 a1 a2 : Option am_V) (x : Int) (st : List am_V) (h : am_H) : am_go0 cl 31 32 [a0, a1, a2, some (.inl x)] st h = am_go0 cl 31 35 [a0, a1, am_c1 a2, some (.inl (am_wr (x + 1)))] st h := am_r am_m31 d_31_32 rfl
theorem d_31_35 : am_code 31 35 = some (.goto (-33), 3) := by decide +kernel
theorem s_31_35 (cl : am_C) (ls : am_Ls) (st : List am_V) (h : am_H) : am_go0 cl 31 35 ls st h = am_go0 cl 31 2 ls st h := am_rGo am_m31 d_31_35 (by decide) _ _ _
theorem d_31_38 : am_code 31 38 = some (.iconst (-1), 1) := by decide +kernel
theorem s_31_38 (cl : am_C) (ls : am_Ls) (st : List am_V) (h : am_H) : am_go0 cl 31 38 ls st h = am_go0 cl 31 39 ls (.inl (-1) :: st) h := am_rK am_m31 d_31_38 (by decide) rfl _ _ _
theorem d_31_39 : am_code 31 39 = some (.ireturn, 1) := by decide +kernel
theorem s_31_39 (cl : am_C) (ls : am_Ls) (x : Int) (h : am_H) : am_go0 cl 31 39 ls [.inl x] h = some (some (.inl x), h) := am_rE am_m31 d_31_39 rfl
theorem e_31 (d : Nat) (t : Nat) (p0 : Int) (p1 : Int) (h : am_H) : am_call (d + 1) 31 [.inr (.inr (some t)), .inl p0, .inl p1] h = am_go0 (am_call d) 31 0 [some (.inr (.inr (some t))), some (.inl p0), some (.inl p1), none] [] h := am_callE am_m31 (Nat.le_of_ble_eq_true rfl) rfl
theorem d_32_0 : am_code 32 0 = some (.aload_n 0, 1) := by decide +kernel
theorem s_32_0 (cl : am_C) (a1 a2 a3 a4 : Option am_V) (x : Nat) (st : List am_V) (h : am_H) : am_go0 cl 32 0 [some (.inr (.inr (some x))), a1, a2, a3, a4] st h = am_go0 cl 32 1 [some (.inr (.inr (some x))), a1, a2, a3, a4] (.inr (.inr (some x)) :: st) h := am_r am_m32 d_32_0 rfl
theorem d_32_1 : am_code 32 1 = some (.iload_n 1, 1) := by decide +kernel
theorem s_32_1 (cl : am_C) (a0 a2 a3 a4 : Option am_V) (x : Int) (st : List am_V) (h : am_H) : am_go0 cl 32 1 [a0, some (.inl x), a2, a3, a4] st h = am_go0 cl 32 2 [a0, some (.inl x), a2, a3, a4] (.inl x :: st) h := am_r am_m32 d_32_1 rfl
theorem d_32_2 : am_code 32 2 = some (.invokevirtual 67, 3) := by decide +kernel
theorem s_32_2 (cl : am_C) (ls : am_Ls) (x0 : Int) (N : Nat) (I : Nat → Int → Int) (L : Nat → Int → Int64) : am_go0 cl 32 2 ls [.inl x0, .inr (.inr (some 15))] (am_GS N, am_GR, I, L) = am_bd (cl 33 [.inr (.inr (some 15)), .inl x0] (am_GS N, am_GR, I, L)) (fun v h2 => am_go0 cl 32 5 ls (v.toList ++ []) h2) := am_rV am_m32 d_32_2 am_k2067 rfl am_m33 (gs_15 N) (by decide) (Nat.le_of_ble_eq_true rfl) rfl ls
theorem d_32_5 : am_code 32 5 = some (.ifCond .eq 14, 3) := by decide +kernel
theorem s_32_5 (cl : am_C) (ls : am_Ls) (x : Int) (st : List am_V) (h : am_H) : am_go0 cl 32 5 ls (.inl x :: st) h = if x = 0 then am_go0 cl 32 19 ls st h else am_go0 cl 32 8 ls st h := (am_rJ1 am_m32 d_32_5 (by decide) rfl x ls st h).trans (am_ifT (am_cmp_eq x 0) _ _)
theorem d_32_8 : am_code 32 8 = some (.aload_n 0, 1) := by decide +kernel
theorem s_32_8 (cl : am_C) (a1 a2 a3 a4 : Option am_V) (x : Nat) (st : List am_V) (h : am_H) : am_go0 cl 32 8 [some (.inr (.inr (some x))), a1, a2, a3, a4] st h = am_go0 cl 32 9 [some (.inr (.inr (some x))), a1, a2, a3, a4] (.inr (.inr (some x)) :: st) h := am_r am_m32 d_32_8 rfl
theorem d_32_9 : am_code 32 9 = some (.getfield 40, 3) := by decide +kernel
theorem s_32_9 (cl : am_C) (ls : am_Ls) (st : List am_V) (N : Nat) (I : Nat → Int → Int) (L : Nat → Int → Int64) : am_go0 cl 32 9 ls (.inr (.inr (some 15)) :: st) (am_GS N, am_GR, I, L) = am_go0 cl 32 12 ls (.inr (.inr (some 10)) :: st) (am_GS N, am_GR, I, L) := am_rG2 am_m32 d_32_9 am_f2040 rfl (gs_15 N) (by decide) gr_15_1 rfl
theorem d_32_12 : am_code 32 12 = some (.iload_n 2, 1) := by decide +kernel
theorem s_32_12 (cl : am_C) (a0 a1 a3 a4 : Option am_V) (x : Int) (st : List am_V) (h : am_H) : am_go0 cl 32 12 [a0, a1, some (.inl x), a3, a4] st h = am_go0 cl 32 13 [a0, a1, some (.inl x), a3, a4] (.inl x :: st) h := am_r am_m32 d_32_12 rfl
theorem d_32_13 : am_code 32 13 = some (.invokevirtual 56, 3) := by decide +kernel
theorem s_32_13 (cl : am_C) (ls : am_Ls) (x0 : Int) (N : Nat) (I : Nat → Int → Int) (L : Nat → Int → Int64) : am_go0 cl 32 13 ls [.inl x0, .inr (.inr (some 10))] (am_GS N, am_GR, I, L) = am_bd (cl 3 [.inr (.inr (some 10)), .inl x0] (am_GS N, am_GR, I, L)) (fun v h2 => am_go0 cl 32 16 ls (v.toList ++ []) h2) := am_rV am_m32 d_32_13 am_k2056 rfl am_m3 (gs_10 N) (by decide) (Nat.le_of_ble_eq_true rfl) rfl ls
theorem d_32_16 : am_code 32 16 = some (.ifCond .ne 6, 3) := by decide +kernel
theorem s_32_16 (cl : am_C) (ls : am_Ls) (x : Int) (st : List am_V) (h : am_H) : am_go0 cl 32 16 ls (.inl x :: st) h = if x = 0 then am_go0 cl 32 19 ls st h else am_go0 cl 32 22 ls st h := (am_rJ1 am_m32 d_32_16 (by decide) rfl x ls st h).trans (am_ifF ((am_cmp_ne x 0).trans Iff.rfl) _ _)
theorem d_32_19 : am_code 32 19 = some (.bipush (-2), 2) := by decide +kernel
theorem s_32_19 (cl : am_C) (ls : am_Ls) (st : List am_V) (h : am_H) : am_go0 cl 32 19 ls st h = am_go0 cl 32 21 ls (.inl (-2) :: st) h := am_rB am_m32 d_32_19 (by decide) rfl _ _ _
theorem d_32_21 : am_code 32 21 = some (.ireturn, 1) := by decide +kernel
theorem s_32_21 (cl : am_C) (ls : am_Ls) (x : Int) (h : am_H) : am_go0 cl 32 21 ls [.inl x] h = some (some (.inl x), h) := am_rE am_m32 d_32_21 rfl
theorem d_32_22 : am_code 32 22 = some (.iload_n 3, 1) := by decide +kernel
theorem s_32_22 (cl : am_C) (a0 a1 a2 a4 : Option am_V) (x : Int) (st : List am_V) (h : am_H) : am_go0 cl 32 22 [a0, a1, a2, some (.inl x), a4] st h = am_go0 cl 32 23 [a0, a1, a2, some (.inl x), a4] (.inl x :: st) h := am_r am_m32 d_32_22 rfl
theorem d_32_23 : am_code 32 23 = some (.ifCond .lt 12, 3) := by decide +kernel
theorem s_32_23 (cl : am_C) (ls : am_Ls) (x : Int) (st : List am_V) (h : am_H) : am_go0 cl 32 23 ls (.inl x :: st) h = if x < 0 then am_go0 cl 32 35 ls st h else am_go0 cl 32 26 ls st h := (am_rJ1 am_m32 d_32_23 (by decide) rfl x ls st h).trans (am_ifT (am_cmp_lt x 0) _ _)
theorem d_32_26 : am_code 32 26 = some (.iload_n 3, 1) := by decide +kernel
theorem s_32_26 (cl : am_C) (a0 a1 a2 a4 : Option am_V) (x : Int) (st : List am_V) (h : am_H) : am_go0 cl 32 26 [a0, a1, a2, some (.inl x), a4] st h = am_go0 cl 32 27 [a0, a1, a2, some (.inl x), a4] (.inl x :: st) h := am_r am_m32 d_32_26 rfl
theorem d_32_27 : am_code 32 27 = some (.aload_n 0, 1) := by decide +kernel
theorem s_32_27 (cl : am_C) (a1 a2 a3 a4 : Option am_V) (x : Nat) (st : List am_V) (h : am_H) : am_go0 cl 32 27 [some (.inr (.inr (some x))), a1, a2, a3, a4] st h = am_go0 cl 32 28 [some (.inr (.inr (some x))), a1, a2, a3, a4] (.inr (.inr (some x)) :: st) h := am_r am_m32 d_32_27 rfl
theorem d_32_28 : am_code 32 28 = some (.iload_n 1, 1) := by decide +kernel
theorem s_32_28 (cl : am_C) (a0 a2 a3 a4 : Option am_V) (x : Int) (st : List am_V) (h : am_H) : am_go0 cl 32 28 [a0, some (.inl x), a2, a3, a4] st h = am_go0 cl 32 29 [a0, some (.inl x), a2, a3, a4] (.inl x :: st) h := am_r am_m32 d_32_28 rfl
theorem d_32_29 : am_code 32 29 = some (.invokevirtual 68, 3) := by decide +kernel
theorem s_32_29 (cl : am_C) (ls : am_Ls) (x0 : Int) (z0 : Int) (N : Nat) (I : Nat → Int → Int) (L : Nat → Int → Int64) : am_go0 cl 32 29 ls [.inl x0, .inr (.inr (some 15)), .inl z0] (am_GS N, am_GR, I, L) = am_bd (cl 34 [.inr (.inr (some 15)), .inl x0] (am_GS N, am_GR, I, L)) (fun v h2 => am_go0 cl 32 32 ls (v.toList ++ [.inl z0]) h2) := am_rV am_m32 d_32_29 am_k2068 rfl am_m34 (gs_15 N) (by decide) (Nat.le_of_ble_eq_true rfl) rfl ls
theorem d_32_32 : am_code 32 32 = some (.if_icmp .lt 6, 3) := by decide +kernel
theorem s_32_32 (cl : am_C) (ls : am_Ls) (x y : Int) (st : List am_V) (h : am_H) : am_go0 cl 32 32 ls (.inl y :: .inl x :: st) h = if x < y then am_go0 cl 32 38 ls st h else am_go0 cl 32 35 ls st h := (am_rJ0 am_m32 d_32_32 (by decide) rfl x y ls st h).trans (am_ifT (am_cmp_lt x y) _ _)
theorem d_32_35 : am_code 32 35 = some (.bipush (-2), 2) := by decide +kernel
theorem s_32_35 (cl : am_C) (ls : am_Ls) (st : List am_V) (h : am_H) : am_go0 cl 32 35 ls st h = am_go0 cl 32 37 ls (.inl (-2) :: st) h := am_rB am_m32 d_32_35 (by decide) rfl _ _ _
theorem d_32_37 : am_code 32 37 = some (.ireturn, 1) := by decide +kernel
theorem s_32_37 (cl : am_C) (ls : am_Ls) (x : Int) (h : am_H) : am_go0 cl 32 37 ls [.inl x] h = some (some (.inl x), h) := am_rE am_m32 d_32_37 rfl
theorem d_32_38 : am_code 32 38 = some (.aload_n 0, 1) := by decide +kernel
theorem s_32_38 (cl : am_C) (a1 a2 a3 a4 : Option am_V) (x : Nat) (st : List am_V) (h : am_H) : am_go0 cl 32 38 [some (.inr (.inr (some x))), a1, a2, a3, a4] st h = am_go0 cl 32 39 [some (.inr (.inr (some x))), a1, a2, a3, a4] (.inr (.inr (some x)) :: st) h := am_r am_m32 d_32_38 rfl
theorem d_32_39 : am_code 32 39 = some (.getfield 18, 3) := by decide +kernel
theorem s_32_39 (cl : am_C) (ls : am_Ls) (st : List am_V) (N : Nat) (I : Nat → Int → Int) (L : Nat → Int → Int64) : am_go0 cl 32 39 ls (.inr (.inr (some 15)) :: st) (am_GS N, am_GR, I, L) = am_go0 cl 32 42 ls (.inr (.inr (some 18)) :: st) (am_GS N, am_GR, I, L) := am_rG2 am_m32 d_32_39 am_f2018 rfl (gs_15 N) (by decide) gr_15_4 rfl
theorem d_32_42 : am_code 32 42 = some (.iload_n 1, 1) := by decide +kernel
theorem s_32_42 (cl : am_C) (a0 a2 a3 a4 : Option am_V) (x : Int) (st : List am_V) (h : am_H) : am_go0 cl 32 42 [a0, some (.inl x), a2, a3, a4] st h = am_go0 cl 32 43 [a0, some (.inl x), a2, a3, a4] (.inl x :: st) h := am_r am_m32 d_32_42 rfl
theorem d_32_43 : am_code 32 43 = some (.iaload, 1) := by decide +kernel
theorem s_32_43 (cl : am_C) (ls : am_Ls) (i : Int) (k : Nat) (st : List am_V) (N : Nat) (I : Nat → Int → Int) (L : Nat → Int → Int64) : am_go0 cl 32 43 ls (.inl i :: .inr (.inr (some k)) :: st) (am_GS N, am_GR, I, L) = if am_inb (am_GS N) k 0 i = true then am_go0 cl 32 44 ls (.inl (I k i) :: st) (am_GS N, am_GR, I, L) else none := am_rA am_m32 d_32_43 (by decide) rfl k ls st i _ _ I L
theorem d_32_44 : am_code 32 44 = some (.iconst 3, 1) := by decide +kernel
theorem s_32_44 (cl : am_C) (ls : am_Ls) (st : List am_V) (h : am_H) : am_go0 cl 32 44 ls st h = am_go0 cl 32 45 ls (.inl 3 :: st) h := am_rK am_m32 d_32_44 (by decide) rfl _ _ _
theorem d_32_45 : am_code 32 45 = some (.if_icmp .lt 6, 3) := by decide +kernel
theorem s_32_45 (cl : am_C) (ls : am_Ls) (x y : Int) (st : List am_V) (h : am_H) : am_go0 cl 32 45 ls (.inl y :: .inl x :: st) h = if x < y then am_go0 cl 32 51 ls st h else am_go0 cl 32 48 ls st h := (am_rJ0 am_m32 d_32_45 (by decide) rfl x y ls st h).trans (am_ifT (am_cmp_lt x y) _ _)
theorem d_32_48 : am_code 32 48 = some (.bipush (-3), 2) := by decide +kernel
theorem s_32_48 (cl : am_C) (ls : am_Ls) (st : List am_V) (h : am_H) : am_go0 cl 32 48 ls st h = am_go0 cl 32 50 ls (.inl (-3) :: st) h := am_rB am_m32 d_32_48 (by decide) rfl _ _ _
theorem d_32_50 : am_code 32 50 = some (.ireturn, 1) := by decide +kernel
theorem s_32_50 (cl : am_C) (ls : am_Ls) (x : Int) (h : am_H) : am_go0 cl 32 50 ls [.inl x] h = some (some (.inl x), h) := am_rE am_m32 d_32_50 rfl
theorem d_32_51 : am_code 32 51 = some (.iload_n 1, 1) := by decide +kernel
theorem s_32_51 (cl : am_C) (a0 a2 a3 a4 : Option am_V) (x : Int) (st : List am_V) (h : am_H) : am_go0 cl 32 51 [a0, some (.inl x), a2, a3, a4] st h = am_go0 cl 32 52 [a0, some (.inl x), a2, a3, a4] (.inl x :: st) h := am_r am_m32 d_32_51 rfl
theorem d_32_52 : am_code 32 52 = some (.iconst 3, 1) := by decide +kernel
theorem s_32_52 (cl : am_C) (ls : am_Ls) (st : List am_V) (h : am_H) : am_go0 cl 32 52 ls st h = am_go0 cl 32 53 ls (.inl 3 :: st) h := am_rK am_m32 d_32_52 (by decide) rfl _ _ _
theorem d_32_53 : am_code 32 53 = some (.imul, 1) := by decide +kernel
theorem s_32_53 (cl : am_C) (ls : am_Ls) (x y : Int) (st : List am_V) (h : am_H) : am_go0 cl 32 53 ls (.inl y :: .inl x :: st) h = am_go0 cl 32 54 ls (.inl (am_wr (x * y)) :: st) h := am_r am_m32 d_32_53 rfl
theorem d_32_54 : am_code 32 54 = some (.aload_n 0, 1) := by decide +kernel
theorem s_32_54 (cl : am_C) (a1 a2 a3 a4 : Option am_V) (x : Nat) (st : List am_V) (h : am_H) : am_go0 cl 32 54 [some (.inr (.inr (some x))), a1, a2, a3, a4] st h = am_go0 cl 32 55 [some (.inr (.inr (some x))), a1, a2, a3, a4] (.inr (.inr (some x)) :: st) h := am_r am_m32 d_32_54 rfl
theorem d_32_55 : am_code 32 55 = some (.getfield 18, 3) := by decide +kernel
theorem s_32_55 (cl : am_C) (ls : am_Ls) (st : List am_V) (N : Nat) (I : Nat → Int → Int) (L : Nat → Int → Int64) : am_go0 cl 32 55 ls (.inr (.inr (some 15)) :: st) (am_GS N, am_GR, I, L) = am_go0 cl 32 58 ls (.inr (.inr (some 18)) :: st) (am_GS N, am_GR, I, L) := am_rG2 am_m32 d_32_55 am_f2018 rfl (gs_15 N) (by decide) gr_15_4 rfl
theorem d_32_58 : am_code 32 58 = some (.iload_n 1, 1) := by decide +kernel
theorem s_32_58 (cl : am_C) (a0 a2 a3 a4 : Option am_V) (x : Int) (st : List am_V) (h : am_H) : am_go0 cl 32 58 [a0, some (.inl x), a2, a3, a4] st h = am_go0 cl 32 59 [a0, some (.inl x), a2, a3, a4] (.inl x :: st) h := am_r am_m32 d_32_58 rfl
theorem d_32_59 : am_code 32 59 = some (.iaload, 1) := by decide +kernel
theorem s_32_59 (cl : am_C) (ls : am_Ls) (i : Int) (k : Nat) (st : List am_V) (N : Nat) (I : Nat → Int → Int) (L : Nat → Int → Int64) : am_go0 cl 32 59 ls (.inl i :: .inr (.inr (some k)) :: st) (am_GS N, am_GR, I, L) = if am_inb (am_GS N) k 0 i = true then am_go0 cl 32 60 ls (.inl (I k i) :: st) (am_GS N, am_GR, I, L) else none := am_rA am_m32 d_32_59 (by decide) rfl k ls st i _ _ I L
theorem d_32_60 : am_code 32 60 = some (.iadd, 1) := by decide +kernel
theorem s_32_60 (cl : am_C) (ls : am_Ls) (x y : Int) (st : List am_V) (h : am_H) : am_go0 cl 32 60 ls (.inl y :: .inl x :: st) h = am_go0 cl 32 61 ls (.inl (am_wr (x + y)) :: st) h := am_r am_m32 d_32_60 rfl
theorem d_32_61 : am_code 32 61 = some (.istore 4, 2) := by decide +kernel
theorem s_32_61 (cl : am_C) (a0 a1 a2 a3 a4 : Option am_V) (x : Int) (st : List am_V) (h : am_H) : am_go0 cl 32 61 [a0, a1, a2, a3, a4] (.inl x :: st) h = am_go0 cl 32 63 [a0, a1, a2, am_c1 a3, some (.inl x)] st h := am_r am_m32 d_32_61 rfl
theorem d_32_63 : am_code 32 63 = some (.aload_n 0, 1) := by decide +kernel
theorem s_32_63 (cl : am_C) (a1 a2 a3 a4 : Option am_V) (x : Nat) (st : List am_V) (h : am_H) : am_go0 cl 32 63 [some (.inr (.inr (some x))), a1, a2, a3, a4] st h = am_go0 cl 32 64 [some (.inr (.inr (some x))), a1, a2, a3, a4] (.inr (.inr (some x)) :: st) h := am_r am_m32 d_32_63 rfl
theorem d_32_64 : am_code 32 64 = some (.getfield 21, 3) := by decide +kernel
theorem s_32_64 (cl : am_C) (ls : am_Ls) (st : List am_V) (N : Nat) (I : Nat → Int → Int) (L : Nat → Int → Int64) : am_go0 cl 32 64 ls (.inr (.inr (some 15)) :: st) (am_GS N, am_GR, I, L) = am_go0 cl 32 67 ls (.inr (.inr (some 19)) :: st) (am_GS N, am_GR, I, L) := am_rG2 am_m32 d_32_64 am_f2021 rfl (gs_15 N) (by decide) gr_15_5 rfl
theorem d_32_67 : am_code 32 67 = some (.iload 4, 2) := by decide +kernel
theorem s_32_67 (cl : am_C) (a0 a1 a2 a3 : Option am_V) (x : Int) (st : List am_V) (h : am_H) : am_go0 cl 32 67 [a0, a1, a2, a3, some (.inl x)] st h = am_go0 cl 32 69 [a0, a1, a2, a3, some (.inl x)] (.inl x :: st) h := am_r am_m32 d_32_67 rfl
theorem d_32_69 : am_code 32 69 = some (.iload_n 2, 1) := by decide +kernel
theorem s_32_69 (cl : am_C) (a0 a1 a3 a4 : Option am_V) (x : Int) (st : List am_V) (h : am_H) : am_go0 cl 32 69 [a0, a1, some (.inl x), a3, a4] st h = am_go0 cl 32 70 [a0, a1, some (.inl x), a3, a4] (.inl x :: st) h := am_r am_m32 d_32_69 rfl
theorem d_32_70 : am_code 32 70 = some (.iastore, 1) := by decide +kernel
theorem s_32_70 (cl : am_C) (ls : am_Ls) (i : Int) (v : Int) (k : Nat) (st : List am_V) (N : Nat) (I : Nat → Int → Int) (L : Nat → Int → Int64) : am_go0 cl 32 70 ls (.inl v :: .inl i :: .inr (.inr (some k)) :: st) (am_GS N, am_GR, I, L) = if am_inb (am_GS N) k 0 i = true then am_go0 cl 32 71 ls st (am_GS N, am_GR, am_uI I k i v, L) else none := am_rS am_m32 d_32_70 rfl k ls st i v _ _ I L
theorem d_32_71 : am_code 32 71 = some (.aload_n 0, 1) := by decide +kernel
theorem s_32_71 (cl : am_C) (a1 a2 a3 a4 : Option am_V) (x : Nat) (st : List am_V) (h : am_H) : am_go0 cl 32 71 [some (.inr (.inr (some x))), a1, a2, a3, a4] st h = am_go0 cl 32 72 [some (.inr (.inr (some x))), a1, a2, a3, a4] (.inr (.inr (some x)) :: st) h := am_r am_m32 d_32_71 rfl
theorem d_32_72 : am_code 32 72 = some (.getfield 24, 3) := by decide +kernel
theorem s_32_72 (cl : am_C) (ls : am_Ls) (st : List am_V) (N : Nat) (I : Nat → Int → Int) (L : Nat → Int → Int64) : am_go0 cl 32 72 ls (.inr (.inr (some 15)) :: st) (am_GS N, am_GR, I, L) = am_go0 cl 32 75 ls (.inr (.inr (some 20)) :: st) (am_GS N, am_GR, I, L) := am_rG2 am_m32 d_32_72 am_f2024 rfl (gs_15 N) (by decide) gr_15_6 rfl
theorem d_32_75 : am_code 32 75 = some (.iload 4, 2) := by decide +kernel
theorem s_32_75 (cl : am_C) (a0 a1 a2 a3 : Option am_V) (x : Int) (st : List am_V) (h : am_H) : am_go0 cl 32 75 [a0, a1, a2, a3, some (.inl x)] st h = am_go0 cl 32 77 [a0, a1, a2, a3, some (.inl x)] (.inl x :: st) h := am_r am_m32 d_32_75 rfl
theorem d_32_77 : am_code 32 77 = some (.iload_n 3, 1) := by decide +kernel
theorem s_32_77 (cl : am_C) (a0 a1 a2 a4 : Option am_V) (x : Int) (st : List am_V) (h : am_H) : am_go0 cl 32 77 [a0, a1, a2, some (.inl x), a4] st h = am_go0 cl 32 78 [a0, a1, a2, some (.inl x), a4] (.inl x :: st) h := am_r am_m32 d_32_77 rfl
theorem d_32_78 : am_code 32 78 = some (.iastore, 1) := by decide +kernel
theorem s_32_78 (cl : am_C) (ls : am_Ls) (i : Int) (v : Int) (k : Nat) (st : List am_V) (N : Nat) (I : Nat → Int → Int) (L : Nat → Int → Int64) : am_go0 cl 32 78 ls (.inl v :: .inl i :: .inr (.inr (some k)) :: st) (am_GS N, am_GR, I, L) = if am_inb (am_GS N) k 0 i = true then am_go0 cl 32 79 ls st (am_GS N, am_GR, am_uI I k i v, L) else none := am_rS am_m32 d_32_78 rfl k ls st i v _ _ I L
theorem d_32_79 : am_code 32 79 = some (.aload_n 0, 1) := by decide +kernel
theorem s_32_79 (cl : am_C) (a1 a2 a3 a4 : Option am_V) (x : Nat) (st : List am_V) (h : am_H) : am_go0 cl 32 79 [some (.inr (.inr (some x))), a1, a2, a3, a4] st h = am_go0 cl 32 80 [some (.inr (.inr (some x))), a1, a2, a3, a4] (.inr (.inr (some x)) :: st) h := am_r am_m32 d_32_79 rfl
theorem d_32_80 : am_code 32 80 = some (.getfield 18, 3) := by decide +kernel
theorem s_32_80 (cl : am_C) (ls : am_Ls) (st : List am_V) (N : Nat) (I : Nat → Int → Int) (L : Nat → Int → Int64) : am_go0 cl 32 80 ls (.inr (.inr (some 15)) :: st) (am_GS N, am_GR, I, L) = am_go0 cl 32 83 ls (.inr (.inr (some 18)) :: st) (am_GS N, am_GR, I, L) := am_rG2 am_m32 d_32_80 am_f2018 rfl (gs_15 N) (by decide) gr_15_4 rfl
theorem d_32_83 : am_code 32 83 = some (.iload_n 1, 1) := by decide +kernel
theorem s_32_83 (cl : am_C) (a0 a2 a3 a4 : Option am_V) (x : Int) (st : List am_V) (h : am_H) : am_go0 cl 32 83 [a0, some (.inl x), a2, a3, a4] st h = am_go0 cl 32 84 [a0, some (.inl x), a2, a3, a4] (.inl x :: st) h := am_r am_m32 d_32_83 rfl
theorem d_32_84 : am_code 32 84 = some (.dup2, 1) := by decide +kernel
theorem s_32_84 (cl : am_C) (ls : am_Ls) (x : Int) (y : Nat) (st : List am_V) (h : am_H) : am_go0 cl 32 84 ls (.inl x :: .inr (.inr (some y)) :: st) h = am_go0 cl 32 85 ls (.inl x :: .inr (.inr (some y)) :: .inl x :: .inr (.inr (some y)) :: st) h := am_r am_m32 d_32_84 rfl
theorem d_32_85 : am_code 32 85 = some (.iaload, 1) := by decide +kernel
theorem s_32_85 (cl : am_C) (ls : am_Ls) (i : Int) (k : Nat) (st : List am_V) (N : Nat) (I : Nat → Int → Int) (L : Nat → Int → Int64) : am_go0 cl 32 85 ls (.inl i :: .inr (.inr (some k)) :: st) (am_GS N, am_GR, I, L) = if am_inb (am_GS N) k 0 i = true then am_go0 cl 32 86 ls (.inl (I k i) :: st) (am_GS N, am_GR, I, L) else none := am_rA am_m32 d_32_85 (by decide) rfl k ls st i _ _ I L
theorem d_32_86 : am_code 32 86 = some (.iconst 1, 1) := by decide +kernel
theorem s_32_86 (cl : am_C) (ls : am_Ls) (st : List am_V) (h : am_H) : am_go0 cl 32 86 ls st h = am_go0 cl 32 87 ls (.inl 1 :: st) h := am_rK am_m32 d_32_86 (by decide) rfl _ _ _
theorem d_32_87 : am_code 32 87 = some (.iadd, 1) := by decide +kernel
theorem s_32_87 (cl : am_C) (ls : am_Ls) (x y : Int) (st : List am_V) (h : am_H) : am_go0 cl 32 87 ls (.inl y :: .inl x :: st) h = am_go0 cl 32 88 ls (.inl (am_wr (x + y)) :: st) h := am_r am_m32 d_32_87 rfl
theorem d_32_88 : am_code 32 88 = some (.iastore, 1) := by decide +kernel
theorem s_32_88 (cl : am_C) (ls : am_Ls) (i : Int) (v : Int) (k : Nat) (st : List am_V) (N : Nat) (I : Nat → Int → Int) (L : Nat → Int → Int64) : am_go0 cl 32 88 ls (.inl v :: .inl i :: .inr (.inr (some k)) :: st) (am_GS N, am_GR, I, L) = if am_inb (am_GS N) k 0 i = true then am_go0 cl 32 89 ls st (am_GS N, am_GR, am_uI I k i v, L) else none := am_rS am_m32 d_32_88 rfl k ls st i v _ _ I L
theorem d_32_89 : am_code 32 89 = some (.aload_n 0, 1) := by decide +kernel
theorem s_32_89 (cl : am_C) (a1 a2 a3 a4 : Option am_V) (x : Nat) (st : List am_V) (h : am_H) : am_go0 cl 32 89 [some (.inr (.inr (some x))), a1, a2, a3, a4] st h = am_go0 cl 32 90 [some (.inr (.inr (some x))), a1, a2, a3, a4] (.inr (.inr (some x)) :: st) h := am_r am_m32 d_32_89 rfl
theorem d_32_90 : am_code 32 90 = some (.getfield 18, 3) := by decide +kernel
theorem s_32_90 (cl : am_C) (ls : am_Ls) (st : List am_V) (N : Nat) (I : Nat → Int → Int) (L : Nat → Int → Int64) : am_go0 cl 32 90 ls (.inr (.inr (some 15)) :: st) (am_GS N, am_GR, I, L) = am_go0 cl 32 93 ls (.inr (.inr (some 18)) :: st) (am_GS N, am_GR, I, L) := am_rG2 am_m32 d_32_90 am_f2018 rfl (gs_15 N) (by decide) gr_15_4 rfl
theorem d_32_93 : am_code 32 93 = some (.iload_n 1, 1) := by decide +kernel
theorem s_32_93 (cl : am_C) (a0 a2 a3 a4 : Option am_V) (x : Int) (st : List am_V) (h : am_H) : am_go0 cl 32 93 [a0, some (.inl x), a2, a3, a4] st h = am_go0 cl 32 94 [a0, some (.inl x), a2, a3, a4] (.inl x :: st) h := am_r am_m32 d_32_93 rfl
theorem d_32_94 : am_code 32 94 = some (.iaload, 1) := by decide +kernel
theorem s_32_94 (cl : am_C) (ls : am_Ls) (i : Int) (k : Nat) (st : List am_V) (N : Nat) (I : Nat → Int → Int) (L : Nat → Int → Int64) : am_go0 cl 32 94 ls (.inl i :: .inr (.inr (some k)) :: st) (am_GS N, am_GR, I, L) = if am_inb (am_GS N) k 0 i = true then am_go0 cl 32 95 ls (.inl (I k i) :: st) (am_GS N, am_GR, I, L) else none := am_rA am_m32 d_32_94 (by decide) rfl k ls st i _ _ I L
theorem d_32_95 : am_code 32 95 = some (.ireturn, 1) := by decide +kernel
theorem s_32_95 (cl : am_C) (ls : am_Ls) (x : Int) (h : am_H) : am_go0 cl 32 95 ls [.inl x] h = some (some (.inl x), h) := am_rE am_m32 d_32_95 rfl
theorem e_32 (d : Nat) (t : Nat) (p0 : Int) (p1 : Int) (p2 : Int) (h : am_H) : am_call (d + 1) 32 [.inr (.inr (some t)), .inl p0, .inl p1, .inl p2] h = am_go0 (am_call d) 32 0 [some (.inr (.inr (some t))), some (.inl p0), some (.inl p1), some (.inl p2), none] [] h := am_callE am_m32 (Nat.le_of_ble_eq_true rfl) rfl
theorem d_33_0 : am_code 33 0 = some (.iload_n 1, 1) := by decide +kernel
theorem s_33_0 (cl : am_C) (a0 : Option am_V) (x : Int) (st : List am_V) (h : am_H) : am_go0 cl 33 0 [a0, some (.inl x)] st h = am_go0 cl 33 1 [a0, some (.inl x)] (.inl x :: st) h := am_r am_m33 d_33_0 rfl
theorem d_33_1 : am_code 33 1 = some (.ifCond .lt 15, 3) := by decide +kernel
theorem s_33_1 (cl : am_C) (ls : am_Ls) (x : Int) (st : List am_V) (h : am_H) : am_go0 cl 33 1 ls (.inl x :: st) h = if x < 0 then am_go0 cl 33 16 ls st h else am_go0 cl 33 4 ls st h := (am_rJ1 am_m33 d_33_1 (by decide) rfl x ls st h).trans (am_ifT (am_cmp_lt x 0) _ _)
theorem d_33_4 : am_code 33 4 = some (.iload_n 1, 1) := by decide +kernel
theorem s_33_4 (cl : am_C) (a0 : Option am_V) (x : Int) (st : List am_V) (h : am_H) : am_go0 cl 33 4 [a0, some (.inl x)] st h = am_go0 cl 33 5 [a0, some (.inl x)] (.inl x :: st) h := am_r am_m33 d_33_4 rfl
theorem d_33_5 : am_code 33 5 = some (.aload_n 0, 1) := by decide +kernel
theorem s_33_5 (cl : am_C) (a1 : Option am_V) (x : Nat) (st : List am_V) (h : am_H) : am_go0 cl 33 5 [some (.inr (.inr (some x))), a1] st h = am_go0 cl 33 6 [some (.inr (.inr (some x))), a1] (.inr (.inr (some x)) :: st) h := am_r am_m33 d_33_5 rfl
theorem d_33_6 : am_code 33 6 = some (.getfield 32, 3) := by decide +kernel
theorem s_33_6 (cl : am_C) (ls : am_Ls) (st : List am_V) (N : Nat) (I : Nat → Int → Int) (L : Nat → Int → Int64) : am_go0 cl 33 6 ls (.inr (.inr (some 15)) :: st) (am_GS N, am_GR, I, L) = am_go0 cl 33 9 ls (.inl (I 15 8) :: st) (am_GS N, am_GR, I, L) := am_rG0 am_m33 d_33_6 am_f2032 rfl (gs_15 N) (by decide) rfl
theorem d_33_9 : am_code 33 9 = some (.if_icmp .ge 7, 3) := by decide +kernel
theorem s_33_9 (cl : am_C) (ls : am_Ls) (x y : Int) (st : List am_V) (h : am_H) : am_go0 cl 33 9 ls (.inl y :: .inl x :: st) h = if x < y then am_go0 cl 33 12 ls st h else am_go0 cl 33 16 ls st h := (am_rJ0 am_m33 d_33_9 (by decide) rfl x y ls st h).trans (am_ifF ((am_cmp_ge x y).trans Int.not_lt.symm) _ _)
theorem d_33_12 : am_code 33 12 = some (.iconst 1, 1) := by decide +kernel
theorem s_33_12 (cl : am_C) (ls : am_Ls) (st : List am_V) (h : am_H) : am_go0 cl 33 12 ls st h = am_go0 cl 33 13 ls (.inl 1 :: st) h := am_rK am_m33 d_33_12 (by decide) rfl _ _ _
theorem d_33_13 : am_code 33 13 = some (.goto 4, 3) := by decide +kernel
theorem s_33_13 (cl : am_C) (ls : am_Ls) (st : List am_V) (h : am_H) : am_go0 cl 33 13 ls st h = am_go0 cl 33 17 ls st h := am_rGo am_m33 d_33_13 (by decide) _ _ _
theorem d_33_16 : am_code 33 16 = some (.iconst 0, 1) := by decide +kernel
theorem s_33_16 (cl : am_C) (ls : am_Ls) (st : List am_V) (h : am_H) : am_go0 cl 33 16 ls st h = am_go0 cl 33 17 ls (.inl 0 :: st) h := am_rK am_m33 d_33_16 (by decide) rfl _ _ _
theorem d_33_17 : am_code 33 17 = some (.ireturn, 1) := by decide +kernel
theorem s_33_17 (cl : am_C) (ls : am_Ls) (x : Int) (h : am_H) : am_go0 cl 33 17 ls [.inl x] h = if x = 0 ∨ x = 1 then some (some (.inl x), h) else none := am_rRz am_m33 d_33_17 x ls h
theorem e_33 (d : Nat) (t : Nat) (p0 : Int) (h : am_H) : am_call (d + 1) 33 [.inr (.inr (some t)), .inl p0] h = am_go0 (am_call d) 33 0 [some (.inr (.inr (some t))), some (.inl p0)] [] h := am_callE am_m33 (Nat.le_of_ble_eq_true rfl) rfl
theorem d_34_0 : am_code 34 0 = some (.aload_n 0, 1) := by decide +kernel
theorem s_34_0 (cl : am_C) (a1 : Option am_V) (x : Nat) (st : List am_V) (h : am_H) : am_go0 cl 34 0 [some (.inr (.inr (some x))), a1] st h = am_go0 cl 34 1 [some (.inr (.inr (some x))), a1] (.inr (.inr (some x)) :: st) h := am_r am_m34 d_34_0 rfl
theorem d_34_1 : am_code 34 1 = some (.getfield 36, 3) := by decide +kernel
theorem s_34_1 (cl : am_C) (ls : am_Ls) (st : List am_V) (N : Nat) (I : Nat → Int → Int) (L : Nat → Int → Int64) : am_go0 cl 34 1 ls (.inr (.inr (some 15)) :: st) (am_GS N, am_GR, I, L) = am_go0 cl 34 4 ls (.inr (.inr (some 2)) :: st) (am_GS N, am_GR, I, L) := am_rG2 am_m34 d_34_1 am_f2036 rfl (gs_15 N) (by decide) gr_15_0 rfl
theorem d_34_4 : am_code 34 4 = some (.aload_n 0, 1) := by decide +kernel
theorem s_34_4 (cl : am_C) (a1 : Option am_V) (x : Nat) (st : List am_V) (h : am_H) : am_go0 cl 34 4 [some (.inr (.inr (some x))), a1] st h = am_go0 cl 34 5 [some (.inr (.inr (some x))), a1] (.inr (.inr (some x)) :: st) h := am_r am_m34 d_34_4 rfl
theorem d_34_5 : am_code 34 5 = some (.getfield 15, 3) := by decide +kernel
theorem s_34_5 (cl : am_C) (ls : am_Ls) (st : List am_V) (N : Nat) (I : Nat → Int → Int) (L : Nat → Int → Int64) : am_go0 cl 34 5 ls (.inr (.inr (some 15)) :: st) (am_GS N, am_GR, I, L) = am_go0 cl 34 8 ls (.inr (.inr (some 17)) :: st) (am_GS N, am_GR, I, L) := am_rG2 am_m34 d_34_5 am_f2015 rfl (gs_15 N) (by decide) gr_15_3 rfl
theorem d_34_8 : am_code 34 8 = some (.iload_n 1, 1) := by decide +kernel
theorem s_34_8 (cl : am_C) (a0 : Option am_V) (x : Int) (st : List am_V) (h : am_H) : am_go0 cl 34 8 [a0, some (.inl x)] st h = am_go0 cl 34 9 [a0, some (.inl x)] (.inl x :: st) h := am_r am_m34 d_34_8 rfl
theorem d_34_9 : am_code 34 9 = some (.iaload, 1) := by decide +kernel
theorem s_34_9 (cl : am_C) (ls : am_Ls) (i : Int) (k : Nat) (st : List am_V) (N : Nat) (I : Nat → Int → Int) (L : Nat → Int → Int64) : am_go0 cl 34 9 ls (.inl i :: .inr (.inr (some k)) :: st) (am_GS N, am_GR, I, L) = if am_inb (am_GS N) k 0 i = true then am_go0 cl 34 10 ls (.inl (I k i) :: st) (am_GS N, am_GR, I, L) else none := am_rA am_m34 d_34_9 (by decide) rfl k ls st i _ _ I L
theorem d_34_10 : am_code 34 10 = some (.invokevirtual 50, 3) := by decide +kernel
theorem s_34_10 (cl : am_C) (ls : am_Ls) (x0 : Int) (N : Nat) (I : Nat → Int → Int) (L : Nat → Int → Int64) : am_go0 cl 34 10 ls [.inl x0, .inr (.inr (some 2))] (am_GS N, am_GR, I, L) = am_bd (cl 76 [.inr (.inr (some 2)), .inl x0] (am_GS N, am_GR, I, L)) (fun v h2 => am_go0 cl 34 13 ls (v.toList ++ []) h2) := am_rV am_m34 d_34_10 am_k2050 rfl am_m76 (gs_2 N) (by decide) (Nat.le_of_ble_eq_true rfl) rfl ls
theorem d_34_13 : am_code 34 13 = some (.ireturn, 1) := by decide +kernel
theorem s_34_13 (cl : am_C) (ls : am_Ls) (x : Int) (h : am_H) : am_go0 cl 34 13 ls [.inl x] h = some (some (.inl x), h) := am_rE am_m34 d_34_13 rfl
theorem e_34 (d : Nat) (t : Nat) (p0 : Int) (h : am_H) : am_call (d + 1) 34 [.inr (.inr (some t)), .inl p0] h = am_go0 (am_call d) 34 0 [some (.inr (.inr (some t))), some (.inl p0)] [] h := am_callE am_m34 (Nat.le_of_ble_eq_true rfl) rfl
theorem d_35_0 : am_code 35 0 = some (.aload_n 0, 1) := by decide +kernel
theorem s_35_0 (cl : am_C) (a1 : Option am_V) (x : Nat) (st : List am_V) (h : am_H) : am_go0 cl 35 0 [some (.inr (.inr (some x))), a1] st h = am_go0 cl 35 1 [some (.inr (.inr (some x))), a1] (.inr (.inr (some x)) :: st) h := am_r am_m35 d_35_0 rfl
theorem d_35_1 : am_code 35 1 = some (.getfield 11, 3) := by decide +kernel
theorem s_35_1 (cl : am_C) (ls : am_Ls) (st : List am_V) (N : Nat) (I : Nat → Int → Int) (L : Nat → Int → Int64) : am_go0 cl 35 1 ls (.inr (.inr (some 15)) :: st) (am_GS N, am_GR, I, L) = am_go0 cl 35 4 ls (.inr (.inr (some 16)) :: st) (am_GS N, am_GR, I, L) := am_rG2 am_m35 d_35_1 am_f2011 rfl (gs_15 N) (by decide) gr_15_2 rfl
theorem d_35_4 : am_code 35 4 = some (.iload_n 1, 1) := by decide +kernel
theorem s_35_4 (cl : am_C) (a0 : Option am_V) (x : Int) (st : List am_V) (h : am_H) : am_go0 cl 35 4 [a0, some (.inl x)] st h = am_go0 cl 35 5 [a0, some (.inl x)] (.inl x :: st) h := am_r am_m35 d_35_4 rfl
theorem d_35_5 : am_code 35 5 = some (.iaload, 1) := by decide +kernel
theorem s_35_5 (cl : am_C) (ls : am_Ls) (i : Int) (k : Nat) (st : List am_V) (N : Nat) (I : Nat → Int → Int) (L : Nat → Int → Int64) : am_go0 cl 35 5 ls (.inl i :: .inr (.inr (some k)) :: st) (am_GS N, am_GR, I, L) = if am_inb (am_GS N) k 0 i = true then am_go0 cl 35 6 ls (.inl (I k i) :: st) (am_GS N, am_GR, I, L) else none := am_rA am_m35 d_35_5 (by decide) rfl k ls st i _ _ I L
theorem d_35_6 : am_code 35 6 = some (.ireturn, 1) := by decide +kernel
theorem s_35_6 (cl : am_C) (ls : am_Ls) (x : Int) (h : am_H) : am_go0 cl 35 6 ls [.inl x] h = some (some (.inl x), h) := am_rE am_m35 d_35_6 rfl
theorem e_35 (d : Nat) (t : Nat) (p0 : Int) (h : am_H) : am_call (d + 1) 35 [.inr (.inr (some t)), .inl p0] h = am_go0 (am_call d) 35 0 [some (.inr (.inr (some t))), some (.inl p0)] [] h := am_callE am_m35 (Nat.le_of_ble_eq_true rfl) rfl
theorem d_36_0 : am_code 36 0 = some (.aload_n 0, 1) := by decide +kernel
theorem s_36_0 (cl : am_C) (a1 : Option am_V) (x : Nat) (st : List am_V) (h : am_H) : am_go0 cl 36 0 [some (.inr (.inr (some x))), a1] st h = am_go0 cl 36 1 [some (.inr (.inr (some x))), a1] (.inr (.inr (some x)) :: st) h := am_r am_m36 d_36_0 rfl
theorem d_36_1 : am_code 36 1 = some (.getfield 18, 3) := by decide +kernel
theorem s_36_1 (cl : am_C) (ls : am_Ls) (st : List am_V) (N : Nat) (I : Nat → Int → Int) (L : Nat → Int → Int64) : am_go0 cl 36 1 ls (.inr (.inr (some 15)) :: st) (am_GS N, am_GR, I, L) = am_go0 cl 36 4 ls (.inr (.inr (some 18)) :: st) (am_GS N, am_GR, I, L) := am_rG2 am_m36 d_36_1 am_f2018 rfl (gs_15 N) (by decide) gr_15_4 rfl
theorem d_36_4 : am_code 36 4 = some (.iload_n 1, 1) := by decide +kernel
theorem s_36_4 (cl : am_C) (a0 : Option am_V) (x : Int) (st : List am_V) (h : am_H) : am_go0 cl 36 4 [a0, some (.inl x)] st h = am_go0 cl 36 5 [a0, some (.inl x)] (.inl x :: st) h := am_r am_m36 d_36_4 rfl
theorem d_36_5 : am_code 36 5 = some (.iaload, 1) := by decide +kernel
theorem s_36_5 (cl : am_C) (ls : am_Ls) (i : Int) (k : Nat) (st : List am_V) (N : Nat) (I : Nat → Int → Int) (L : Nat → Int → Int64) : am_go0 cl 36 5 ls (.inl i :: .inr (.inr (some k)) :: st) (am_GS N, am_GR, I, L) = if am_inb (am_GS N) k 0 i = true then am_go0 cl 36 6 ls (.inl (I k i) :: st) (am_GS N, am_GR, I, L) else none := am_rA am_m36 d_36_5 (by decide) rfl k ls st i _ _ I L
theorem d_36_6 : am_code 36 6 = some (.ireturn, 1) := by decide +kernel
theorem s_36_6 (cl : am_C) (ls : am_Ls) (x : Int) (h : am_H) : am_go0 cl 36 6 ls [.inl x] h = some (some (.inl x), h) := am_rE am_m36 d_36_6 rfl
theorem e_36 (d : Nat) (t : Nat) (p0 : Int) (h : am_H) : am_call (d + 1) 36 [.inr (.inr (some t)), .inl p0] h = am_go0 (am_call d) 36 0 [some (.inr (.inr (some t))), some (.inl p0)] [] h := am_callE am_m36 (Nat.le_of_ble_eq_true rfl) rfl
theorem d_37_0 : am_code 37 0 = some (.aload_n 0, 1) := by decide +kernel
theorem s_37_0 (cl : am_C) (a1 a2 : Option am_V) (x : Nat) (st : List am_V) (h : am_H) : am_go0 cl 37 0 [some (.inr (.inr (some x))), a1, a2] st h = am_go0 cl 37 1 [some (.inr (.inr (some x))), a1, a2] (.inr (.inr (some x)) :: st) h := am_r am_m37 d_37_0 rfl
theorem d_37_1 : am_code 37 1 = some (.getfield 21, 3) := by decide +kernel
theorem s_37_1 (cl : am_C) (ls : am_Ls) (st : List am_V) (N : Nat) (I : Nat → Int → Int) (L : Nat → Int → Int64) : am_go0 cl 37 1 ls (.inr (.inr (some 15)) :: st) (am_GS N, am_GR, I, L) = am_go0 cl 37 4 ls (.inr (.inr (some 19)) :: st) (am_GS N, am_GR, I, L) := am_rG2 am_m37 d_37_1 am_f2021 rfl (gs_15 N) (by decide) gr_15_5 rfl
theorem d_37_4 : am_code 37 4 = some (.iload_n 1, 1) := by decide +kernel
theorem s_37_4 (cl : am_C) (a0 a2 : Option am_V) (x : Int) (st : List am_V) (h : am_H) : am_go0 cl 37 4 [a0, some (.inl x), a2] st h = am_go0 cl 37 5 [a0, some (.inl x), a2] (.inl x :: st) h := am_r am_m37 d_37_4 rfl
theorem d_37_5 : am_code 37 5 = some (.iconst 3, 1) := by decide +kernel
theorem s_37_5 (cl : am_C) (ls : am_Ls) (st : List am_V) (h : am_H) : am_go0 cl 37 5 ls st h = am_go0 cl 37 6 ls (.inl 3 :: st) h := am_rK am_m37 d_37_5 (by decide) rfl _ _ _
theorem d_37_6 : am_code 37 6 = some (.imul, 1) := by decide +kernel
theorem s_37_6 (cl : am_C) (ls : am_Ls) (x y : Int) (st : List am_V) (h : am_H) : am_go0 cl 37 6 ls (.inl y :: .inl x :: st) h = am_go0 cl 37 7 ls (.inl (am_wr (x * y)) :: st) h := am_r am_m37 d_37_6 rfl
theorem d_37_7 : am_code 37 7 = some (.iload_n 2, 1) := by decide +kernel
theorem s_37_7 (cl : am_C) (a0 a1 : Option am_V) (x : Int) (st : List am_V) (h : am_H) : am_go0 cl 37 7 [a0, a1, some (.inl x)] st h = am_go0 cl 37 8 [a0, a1, some (.inl x)] (.inl x :: st) h := am_r am_m37 d_37_7 rfl
theorem d_37_8 : am_code 37 8 = some (.iadd, 1) := by decide +kernel
theorem s_37_8 (cl : am_C) (ls : am_Ls) (x y : Int) (st : List am_V) (h : am_H) : am_go0 cl 37 8 ls (.inl y :: .inl x :: st) h = am_go0 cl 37 9 ls (.inl (am_wr (x + y)) :: st) h := am_r am_m37 d_37_8 rfl
theorem d_37_9 : am_code 37 9 = some (.iaload, 1) := by decide +kernel
theorem s_37_9 (cl : am_C) (ls : am_Ls) (i : Int) (k : Nat) (st : List am_V) (N : Nat) (I : Nat → Int → Int) (L : Nat → Int → Int64) : am_go0 cl 37 9 ls (.inl i :: .inr (.inr (some k)) :: st) (am_GS N, am_GR, I, L) = if am_inb (am_GS N) k 0 i = true then am_go0 cl 37 10 ls (.inl (I k i) :: st) (am_GS N, am_GR, I, L) else none := am_rA am_m37 d_37_9 (by decide) rfl k ls st i _ _ I L
theorem d_37_10 : am_code 37 10 = some (.ireturn, 1) := by decide +kernel
theorem s_37_10 (cl : am_C) (ls : am_Ls) (x : Int) (h : am_H) : am_go0 cl 37 10 ls [.inl x] h = some (some (.inl x), h) := am_rE am_m37 d_37_10 rfl
theorem e_37 (d : Nat) (t : Nat) (p0 : Int) (p1 : Int) (h : am_H) : am_call (d + 1) 37 [.inr (.inr (some t)), .inl p0, .inl p1] h = am_go0 (am_call d) 37 0 [some (.inr (.inr (some t))), some (.inl p0), some (.inl p1)] [] h := am_callE am_m37 (Nat.le_of_ble_eq_true rfl) rfl
theorem d_38_0 : am_code 38 0 = some (.aload_n 0, 1) := by decide +kernel
theorem s_38_0 (cl : am_C) (a1 a2 a3 : Option am_V) (x : Nat) (st : List am_V) (h : am_H) : am_go0 cl 38 0 [some (.inr (.inr (some x))), a1, a2, a3] st h = am_go0 cl 38 1 [some (.inr (.inr (some x))), a1, a2, a3] (.inr (.inr (some x)) :: st) h := am_r am_m38 d_38_0 rfl
theorem d_38_1 : am_code 38 1 = some (.getfield 29, 3) := by decide +kernel
theorem s_38_1 (cl : am_C) (ls : am_Ls) (st : List am_V) (N : Nat) (I : Nat → Int → Int) (L : Nat → Int → Int64) : am_go0 cl 38 1 ls (.inr (.inr (some 15)) :: st) (am_GS N, am_GR, I, L) = am_go0 cl 38 4 ls (.inr (.inr (some 21)) :: st) (am_GS N, am_GR, I, L) := am_rG2 am_m38 d_38_1 am_f2029 rfl (gs_15 N) (by decide) gr_15_7 rfl
theorem d_38_4 : am_code 38 4 = some (.iload_n 1, 1) := by decide +kernel
theorem s_38_4 (cl : am_C) (a0 a2 a3 : Option am_V) (x : Int) (st : List am_V) (h : am_H) : am_go0 cl 38 4 [a0, some (.inl x), a2, a3] st h = am_go0 cl 38 5 [a0, some (.inl x), a2, a3] (.inl x :: st) h := am_r am_m38 d_38_4 rfl
theorem d_38_5 : am_code 38 5 = some (.iconst 4, 1) := by decide +kernel
theorem s_38_5 (cl : am_C) (ls : am_Ls) (st : List am_V) (h : am_H) : am_go0 cl 38 5 ls st h = am_go0 cl 38 6 ls (.inl 4 :: st) h := am_rK am_m38 d_38_5 (by decide) rfl _ _ _
theorem d_38_6 : am_code 38 6 = some (.imul, 1) := by decide +kernel
theorem s_38_6 (cl : am_C) (ls : am_Ls) (x y : Int) (st : List am_V) (h : am_H) : am_go0 cl 38 6 ls (.inl y :: .inl x :: st) h = am_go0 cl 38 7 ls (.inl (am_wr (x * y)) :: st) h := am_r am_m38 d_38_6 rfl
theorem d_38_7 : am_code 38 7 = some (.iload_n 2, 1) := by decide +kernel
theorem s_38_7 (cl : am_C) (a0 a1 a3 : Option am_V) (x : Int) (st : List am_V) (h : am_H) : am_go0 cl 38 7 [a0, a1, some (.inl x), a3] st h = am_go0 cl 38 8 [a0, a1, some (.inl x), a3] (.inl x :: st) h := am_r am_m38 d_38_7 rfl
theorem d_38_8 : am_code 38 8 = some (.iadd, 1) := by decide +kernel
theorem s_38_8 (cl : am_C) (ls : am_Ls) (x y : Int) (st : List am_V) (h : am_H) : am_go0 cl 38 8 ls (.inl y :: .inl x :: st) h = am_go0 cl 38 9 ls (.inl (am_wr (x + y)) :: st) h := am_r am_m38 d_38_8 rfl
theorem d_38_9 : am_code 38 9 = some (.iload_n 3, 1) := by decide +kernel
theorem s_38_9 (cl : am_C) (a0 a1 a2 : Option am_V) (x : Int) (st : List am_V) (h : am_H) : am_go0 cl 38 9 [a0, a1, a2, some (.inl x)] st h = am_go0 cl 38 10 [a0, a1, a2, some (.inl x)] (.inl x :: st) h := am_r am_m38 d_38_9 rfl
theorem d_38_10 : am_code 38 10 = some (.iastore, 1) := by decide +kernel
theorem s_38_10 (cl : am_C) (ls : am_Ls) (i : Int) (v : Int) (k : Nat) (st : List am_V) (N : Nat) (I : Nat → Int → Int) (L : Nat → Int → Int64) : am_go0 cl 38 10 ls (.inl v :: .inl i :: .inr (.inr (some k)) :: st) (am_GS N, am_GR, I, L) = if am_inb (am_GS N) k 0 i = true then am_go0 cl 38 11 ls st (am_GS N, am_GR, am_uI I k i v, L) else none := am_rS am_m38 d_38_10 rfl k ls st i v _ _ I L
theorem d_38_11 : am_code 38 11 = some (.return_, 1) := by decide +kernel
theorem s_38_11 (cl : am_C) (ls : am_Ls) (h : am_H) : am_go0 cl 38 11 ls [] h = some (none, h) := am_rE am_m38 d_38_11 rfl
theorem e_38 (d : Nat) (t : Nat) (p0 : Int) (p1 : Int) (p2 : Int) (h : am_H) : am_call (d + 1) 38 [.inr (.inr (some t)), .inl p0, .inl p1, .inl p2] h = am_go0 (am_call d) 38 0 [some (.inr (.inr (some t))), some (.inl p0), some (.inl p1), some (.inl p2)] [] h := am_callE am_m38 (Nat.le_of_ble_eq_true rfl) rfl
theorem d_39_0 : am_code 39 0 = some (.aload_n 0, 1) := by decide +kernel
theorem s_39_0 (cl : am_C) (a1 a2 : Option am_V) (x : Nat) (st : List am_V) (h : am_H) : am_go0 cl 39 0 [some (.inr (.inr (some x))), a1, a2] st h = am_go0 cl 39 1 [some (.inr (.inr (some x))), a1, a2] (.inr (.inr (some x)) :: st) h := am_r am_m39 d_39_0 rfl
theorem d_39_1 : am_code 39 1 = some (.getfield 24, 3) := by decide +kernel
theorem s_39_1 (cl : am_C) (ls : am_Ls) (st : List am_V) (N : Nat) (I : Nat → Int → Int) (L : Nat → Int → Int64) : am_go0 cl 39 1 ls (.inr (.inr (some 15)) :: st) (am_GS N, am_GR, I, L) = am_go0 cl 39 4 ls (.inr (.inr (some 20)) :: st) (am_GS N, am_GR, I, L) := am_rG2 am_m39 d_39_1 am_f2024 rfl (gs_15 N) (by decide) gr_15_6 rfl
theorem d_39_4 : am_code 39 4 = some (.iload_n 1, 1) := by decide +kernel
theorem s_39_4 (cl : am_C) (a0 a2 : Option am_V) (x : Int) (st : List am_V) (h : am_H) : am_go0 cl 39 4 [a0, some (.inl x), a2] st h = am_go0 cl 39 5 [a0, some (.inl x), a2] (.inl x :: st) h := am_r am_m39 d_39_4 rfl
theorem d_39_5 : am_code 39 5 = some (.iconst 3, 1) := by decide +kernel
theorem s_39_5 (cl : am_C) (ls : am_Ls) (st : List am_V) (h : am_H) : am_go0 cl 39 5 ls st h = am_go0 cl 39 6 ls (.inl 3 :: st) h := am_rK am_m39 d_39_5 (by decide) rfl _ _ _
theorem d_39_6 : am_code 39 6 = some (.imul, 1) := by decide +kernel
theorem s_39_6 (cl : am_C) (ls : am_Ls) (x y : Int) (st : List am_V) (h : am_H) : am_go0 cl 39 6 ls (.inl y :: .inl x :: st) h = am_go0 cl 39 7 ls (.inl (am_wr (x * y)) :: st) h := am_r am_m39 d_39_6 rfl
theorem d_39_7 : am_code 39 7 = some (.iload_n 2, 1) := by decide +kernel
theorem s_39_7 (cl : am_C) (a0 a1 : Option am_V) (x : Int) (st : List am_V) (h : am_H) : am_go0 cl 39 7 [a0, a1, some (.inl x)] st h = am_go0 cl 39 8 [a0, a1, some (.inl x)] (.inl x :: st) h := am_r am_m39 d_39_7 rfl
theorem d_39_8 : am_code 39 8 = some (.iadd, 1) := by decide +kernel
theorem s_39_8 (cl : am_C) (ls : am_Ls) (x y : Int) (st : List am_V) (h : am_H) : am_go0 cl 39 8 ls (.inl y :: .inl x :: st) h = am_go0 cl 39 9 ls (.inl (am_wr (x + y)) :: st) h := am_r am_m39 d_39_8 rfl
theorem d_39_9 : am_code 39 9 = some (.iaload, 1) := by decide +kernel
theorem s_39_9 (cl : am_C) (ls : am_Ls) (i : Int) (k : Nat) (st : List am_V) (N : Nat) (I : Nat → Int → Int) (L : Nat → Int → Int64) : am_go0 cl 39 9 ls (.inl i :: .inr (.inr (some k)) :: st) (am_GS N, am_GR, I, L) = if am_inb (am_GS N) k 0 i = true then am_go0 cl 39 10 ls (.inl (I k i) :: st) (am_GS N, am_GR, I, L) else none := am_rA am_m39 d_39_9 (by decide) rfl k ls st i _ _ I L
theorem d_39_10 : am_code 39 10 = some (.ireturn, 1) := by decide +kernel
theorem s_39_10 (cl : am_C) (ls : am_Ls) (x : Int) (h : am_H) : am_go0 cl 39 10 ls [.inl x] h = some (some (.inl x), h) := am_rE am_m39 d_39_10 rfl
theorem e_39 (d : Nat) (t : Nat) (p0 : Int) (p1 : Int) (h : am_H) : am_call (d + 1) 39 [.inr (.inr (some t)), .inl p0, .inl p1] h = am_go0 (am_call d) 39 0 [some (.inr (.inr (some t))), some (.inl p0), some (.inl p1)] [] h := am_callE am_m39 (Nat.le_of_ble_eq_true rfl) rfl
theorem d_40_0 : am_code 40 0 = some (.aload_n 0, 1) := by decide +kernel
theorem s_40_0 (cl : am_C) (a1 a2 : Option am_V) (x : Nat) (st : List am_V) (h : am_H) : am_go0 cl 40 0 [some (.inr (.inr (some x))), a1, a2] st h = am_go0 cl 40 1 [some (.inr (.inr (some x))), a1, a2] (.inr (.inr (some x)) :: st) h := am_r am_m40 d_40_0 rfl
theorem d_40_1 : am_code 40 1 = some (.getfield 29, 3) := by decide +kernel
theorem s_40_1 (cl : am_C) (ls : am_Ls) (st : List am_V) (N : Nat) (I : Nat → Int → Int) (L : Nat → Int → Int64) : am_go0 cl 40 1 ls (.inr (.inr (some 15)) :: st) (am_GS N, am_GR, I, L) = am_go0 cl 40 4 ls (.inr (.inr (some 21)) :: st) (am_GS N, am_GR, I, L) := am_rG2 am_m40 d_40_1 am_f2029 rfl (gs_15 N) (by decide) gr_15_7 rfl
theorem d_40_4 : am_code 40 4 = some (.iload_n 1, 1) := by decide +kernel
theorem s_40_4 (cl : am_C) (a0 a2 : Option am_V) (x : Int) (st : List am_V) (h : am_H) : am_go0 cl 40 4 [a0, some (.inl x), a2] st h = am_go0 cl 40 5 [a0, some (.inl x), a2] (.inl x :: st) h := am_r am_m40 d_40_4 rfl
theorem d_40_5 : am_code 40 5 = some (.iconst 4, 1) := by decide +kernel
theorem s_40_5 (cl : am_C) (ls : am_Ls) (st : List am_V) (h : am_H) : am_go0 cl 40 5 ls st h = am_go0 cl 40 6 ls (.inl 4 :: st) h := am_rK am_m40 d_40_5 (by decide) rfl _ _ _
theorem d_40_6 : am_code 40 6 = some (.imul, 1) := by decide +kernel
theorem s_40_6 (cl : am_C) (ls : am_Ls) (x y : Int) (st : List am_V) (h : am_H) : am_go0 cl 40 6 ls (.inl y :: .inl x :: st) h = am_go0 cl 40 7 ls (.inl (am_wr (x * y)) :: st) h := am_r am_m40 d_40_6 rfl
theorem d_40_7 : am_code 40 7 = some (.iload_n 2, 1) := by decide +kernel
theorem s_40_7 (cl : am_C) (a0 a1 : Option am_V) (x : Int) (st : List am_V) (h : am_H) : am_go0 cl 40 7 [a0, a1, some (.inl x)] st h = am_go0 cl 40 8 [a0, a1, some (.inl x)] (.inl x :: st) h := am_r am_m40 d_40_7 rfl
theorem d_40_8 : am_code 40 8 = some (.iadd, 1) := by decide +kernel
theorem s_40_8 (cl : am_C) (ls : am_Ls) (x y : Int) (st : List am_V) (h : am_H) : am_go0 cl 40 8 ls (.inl y :: .inl x :: st) h = am_go0 cl 40 9 ls (.inl (am_wr (x + y)) :: st) h := am_r am_m40 d_40_8 rfl
theorem d_40_9 : am_code 40 9 = some (.iaload, 1) := by decide +kernel
theorem s_40_9 (cl : am_C) (ls : am_Ls) (i : Int) (k : Nat) (st : List am_V) (N : Nat) (I : Nat → Int → Int) (L : Nat → Int → Int64) : am_go0 cl 40 9 ls (.inl i :: .inr (.inr (some k)) :: st) (am_GS N, am_GR, I, L) = if am_inb (am_GS N) k 0 i = true then am_go0 cl 40 10 ls (.inl (I k i) :: st) (am_GS N, am_GR, I, L) else none := am_rA am_m40 d_40_9 (by decide) rfl k ls st i _ _ I L
theorem d_40_10 : am_code 40 10 = some (.ireturn, 1) := by decide +kernel
theorem s_40_10 (cl : am_C) (ls : am_Ls) (x : Int) (h : am_H) : am_go0 cl 40 10 ls [.inl x] h = some (some (.inl x), h) := am_rE am_m40 d_40_10 rfl
theorem e_40 (d : Nat) (t : Nat) (p0 : Int) (p1 : Int) (h : am_H) : am_call (d + 1) 40 [.inr (.inr (some t)), .inl p0, .inl p1] h = am_go0 (am_call d) 40 0 [some (.inr (.inr (some t))), some (.inl p0), some (.inl p1)] [] h := am_callE am_m40 (Nat.le_of_ble_eq_true rfl) rfl
theorem d_41_0 : am_code 41 0 = some (.aload_n 0, 1) := by decide +kernel
theorem s_41_0 (cl : am_C) (x : Nat) (st : List am_V) (h : am_H) : am_go0 cl 41 0 [some (.inr (.inr (some x)))] st h = am_go0 cl 41 1 [some (.inr (.inr (some x)))] (.inr (.inr (some x)) :: st) h := am_r am_m41 d_41_0 rfl
theorem d_41_1 : am_code 41 1 = some (.getfield 32, 3) := by decide +kernel
theorem s_41_1 (cl : am_C) (ls : am_Ls) (st : List am_V) (N : Nat) (I : Nat → Int → Int) (L : Nat → Int → Int64) : am_go0 cl 41 1 ls (.inr (.inr (some 15)) :: st) (am_GS N, am_GR, I, L) = am_go0 cl 41 4 ls (.inl (I 15 8) :: st) (am_GS N, am_GR, I, L) := am_rG0 am_m41 d_41_1 am_f2032 rfl (gs_15 N) (by decide) rfl
theorem d_41_4 : am_code 41 4 = some (.ireturn, 1) := by decide +kernel
theorem s_41_4 (cl : am_C) (ls : am_Ls) (x : Int) (h : am_H) : am_go0 cl 41 4 ls [.inl x] h = some (some (.inl x), h) := am_rE am_m41 d_41_4 rfl
theorem e_41 (d : Nat) (t : Nat) (h : am_H) : am_call (d + 1) 41 [.inr (.inr (some t))] h = am_go0 (am_call d) 41 0 [some (.inr (.inr (some t)))] [] h := am_callE am_m41 (Nat.le_of_ble_eq_true rfl) rfl
