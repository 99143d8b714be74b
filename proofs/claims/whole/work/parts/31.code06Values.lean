theorem d_87_0 : am_code 87 0 = some (.iconst 0, 1) := by decide +kernel
theorem s_87_0 (cl : am_C) (ls : am_Ls) (st : List am_V) (h : am_H) : am_go0 cl 87 0 ls st h = am_go0 cl 87 1 ls (.inl 0 :: st) h := am_rK am_m87 d_87_0 (by decide) rfl _ _ _
theorem d_87_1 : am_code 87 1 = some (.istore_n 2, 1) := by decide +kernel
theorem s_87_1 (cl : am_C) (a0 a1 a2 : Option am_V) (x : Int) (st : List am_V) (h : am_H) : am_go0 cl 87 1 [a0, a1, a2] (.inl x :: st) h = am_go0 cl 87 2 [a0, am_c1 a1, some (.inl x)] st h := am_r am_m87 d_87_1 rfl
theorem d_87_2 : am_code 87 2 = some (.iload_n 2, 1) := by decide +kernel
theorem s_87_2 (cl : am_C) (a0 a1 : Option am_V) (x : Int) (st : List am_V) (h : am_H) : am_go0 cl 87 2 [a0, a1, some (.inl x)] st h = am_go0 cl 87 3 [a0, a1, some (.inl x)] (.inl x :: st) h := am_r am_m87 d_87_2 rfl
theorem d_87_3 : am_code 87 3 = some (.iconst 4, 1) := by decide +kernel
theorem s_87_3 (cl : am_C) (ls : am_Ls) (st : List am_V) (h : am_H) : am_go0 cl 87 3 ls st h = am_go0 cl 87 4 ls (.inl 4 :: st) h := am_rK am_m87 d_87_3 (by decide) rfl _ _ _
theorem d_87_4 : am_code 87 4 = some (.if_icmp .ge 33, 3) := by decide +kernel
theorem s_87_4 (cl : am_C) (ls : am_Ls) (x y : Int) (st : List am_V) (h : am_H) : am_go0 cl 87 4 ls (.inl y :: .inl x :: st) h = if x < y then am_go0 cl 87 7 ls st h else am_go0 cl 87 37 ls st h := (am_rJ0 am_m87 d_87_4 (by decide) rfl x y ls st h).trans (am_ifF ((am_cmp_ge x y).trans Int.not_lt.symm) _ _)
theorem d_87_7 : am_code 87 7 = some (.aload_n 0, 1) := by decide +kernel
theorem s_87_7 (cl : am_C) (a1 a2 : Option am_V) (x : Nat) (st : List am_V) (h : am_H) : am_go0 cl 87 7 [some (.inr (.inr (some x))), a1, a2] st h = am_go0 cl 87 8 [some (.inr (.inr (some x))), a1, a2] (.inr (.inr (some x)) :: st) h := am_r am_m87 d_87_7 rfl
theorem d_87_8 : am_code 87 8 = some (.getfield 13, 3) := by decide +kernel
theorem s_87_8 (cl : am_C) (ls : am_Ls) (st : List am_V) (N : Nat) (I : Nat → Int → Int) (L : Nat → Int → Int64) : am_go0 cl 87 8 ls (.inr (.inr (some 29)) :: st) (am_GS N, am_GR, I, L) = am_go0 cl 87 11 ls (.inr (.inr (some 30)) :: st) (am_GS N, am_GR, I, L) := am_rG2 am_m87 d_87_8 am_f6013 rfl (gs_29 N) (by decide) gr_29_0 rfl
theorem d_87_11 : am_code 87 11 = some (.aload_n 0, 1) := by decide +kernel
theorem s_87_11 (cl : am_C) (a1 a2 : Option am_V) (x : Nat) (st : List am_V) (h : am_H) : am_go0 cl 87 11 [some (.inr (.inr (some x))), a1, a2] st h = am_go0 cl 87 12 [some (.inr (.inr (some x))), a1, a2] (.inr (.inr (some x)) :: st) h := am_r am_m87 d_87_11 rfl
theorem d_87_12 : am_code 87 12 = some (.iload_n 1, 1) := by decide +kernel
theorem s_87_12 (cl : am_C) (a0 a2 : Option am_V) (x : Int) (st : List am_V) (h : am_H) : am_go0 cl 87 12 [a0, some (.inl x), a2] st h = am_go0 cl 87 13 [a0, some (.inl x), a2] (.inl x :: st) h := am_r am_m87 d_87_12 rfl
theorem d_87_13 : am_code 87 13 = some (.iload_n 2, 1) := by decide +kernel
theorem s_87_13 (cl : am_C) (a0 a1 : Option am_V) (x : Int) (st : List am_V) (h : am_H) : am_go0 cl 87 13 [a0, a1, some (.inl x)] st h = am_go0 cl 87 14 [a0, a1, some (.inl x)] (.inl x :: st) h := am_r am_m87 d_87_13 rfl
theorem d_87_14 : am_code 87 14 = some (.invokevirtual 24, 3) := by decide +kernel
theorem s_87_14 (cl : am_C) (ls : am_Ls) (x0 : Int) (x1 : Int) (z0 : Nat) (N : Nat) (I : Nat → Int → Int) (L : Nat → Int → Int64) : am_go0 cl 87 14 ls [.inl x1, .inl x0, .inr (.inr (some 29)), .inr (.inr (some z0))] (am_GS N, am_GR, I, L) = am_bd (cl 88 [.inr (.inr (some 29)), .inl x0, .inl x1] (am_GS N, am_GR, I, L)) (fun v h2 => am_go0 cl 87 17 ls (v.toList ++ [.inr (.inr (some z0))]) h2) := am_rV am_m87 d_87_14 am_k6024 rfl am_m88 (gs_29 N) (by decide) (Nat.le_of_ble_eq_true rfl) rfl ls
theorem d_87_17 : am_code 87 17 = some (.iconst 0, 1) := by decide +kernel
theorem s_87_17 (cl : am_C) (ls : am_Ls) (st : List am_V) (h : am_H) : am_go0 cl 87 17 ls st h = am_go0 cl 87 18 ls (.inl 0 :: st) h := am_rK am_m87 d_87_17 (by decide) rfl _ _ _
theorem d_87_18 : am_code 87 18 = some (.iastore, 1) := by decide +kernel
theorem s_87_18 (cl : am_C) (ls : am_Ls) (i : Int) (v : Int) (k : Nat) (st : List am_V) (N : Nat) (I : Nat → Int → Int) (L : Nat → Int → Int64) : am_go0 cl 87 18 ls (.inl v :: .inl i :: .inr (.inr (some k)) :: st) (am_GS N, am_GR, I, L) = if am_inb (am_GS N) k 0 i = true then am_go0 cl 87 19 ls st (am_GS N, am_GR, am_uI I k i v, L) else none := am_rS am_m87 d_87_18 rfl k ls st i v _ _ I L
theorem d_87_19 : am_code 87 19 = some (.aload_n 0, 1) := by decide +kernel
theorem s_87_19 (cl : am_C) (a1 a2 : Option am_V) (x : Nat) (st : List am_V) (h : am_H) : am_go0 cl 87 19 [some (.inr (.inr (some x))), a1, a2] st h = am_go0 cl 87 20 [some (.inr (.inr (some x))), a1, a2] (.inr (.inr (some x)) :: st) h := am_r am_m87 d_87_19 rfl
theorem d_87_20 : am_code 87 20 = some (.getfield 21, 3) := by decide +kernel
theorem s_87_20 (cl : am_C) (ls : am_Ls) (st : List am_V) (N : Nat) (I : Nat → Int → Int) (L : Nat → Int → Int64) : am_go0 cl 87 20 ls (.inr (.inr (some 29)) :: st) (am_GS N, am_GR, I, L) = am_go0 cl 87 23 ls (.inr (.inr (some 32)) :: st) (am_GS N, am_GR, I, L) := am_rG2 am_m87 d_87_20 am_f6021 rfl (gs_29 N) (by decide) gr_29_2 rfl
theorem d_87_23 : am_code 87 23 = some (.aload_n 0, 1) := by decide +kernel
theorem s_87_23 (cl : am_C) (a1 a2 : Option am_V) (x : Nat) (st : List am_V) (h : am_H) : am_go0 cl 87 23 [some (.inr (.inr (some x))), a1, a2] st h = am_go0 cl 87 24 [some (.inr (.inr (some x))), a1, a2] (.inr (.inr (some x)) :: st) h := am_r am_m87 d_87_23 rfl
theorem d_87_24 : am_code 87 24 = some (.iload_n 1, 1) := by decide +kernel
theorem s_87_24 (cl : am_C) (a0 a2 : Option am_V) (x : Int) (st : List am_V) (h : am_H) : am_go0 cl 87 24 [a0, some (.inl x), a2] st h = am_go0 cl 87 25 [a0, some (.inl x), a2] (.inl x :: st) h := am_r am_m87 d_87_24 rfl
theorem d_87_25 : am_code 87 25 = some (.iload_n 2, 1) := by decide +kernel
theorem s_87_25 (cl : am_C) (a0 a1 : Option am_V) (x : Int) (st : List am_V) (h : am_H) : am_go0 cl 87 25 [a0, a1, some (.inl x)] st h = am_go0 cl 87 26 [a0, a1, some (.inl x)] (.inl x :: st) h := am_r am_m87 d_87_25 rfl
theorem d_87_26 : am_code 87 26 = some (.invokevirtual 24, 3) := by decide +kernel
theorem s_87_26 (cl : am_C) (ls : am_Ls) (x0 : Int) (x1 : Int) (z0 : Nat) (N : Nat) (I : Nat → Int → Int) (L : Nat → Int → Int64) : am_go0 cl 87 26 ls [.inl x1, .inl x0, .inr (.inr (some 29)), .inr (.inr (some z0))] (am_GS N, am_GR, I, L) = am_bd (cl 88 [.inr (.inr (some 29)), .inl x0, .inl x1] (am_GS N, am_GR, I, L)) (fun v h2 => am_go0 cl 87 29 ls (v.toList ++ [.inr (.inr (some z0))]) h2) := am_rV am_m87 d_87_26 am_k6024 rfl am_m88 (gs_29 N) (by decide) (Nat.le_of_ble_eq_true rfl) rfl ls
theorem d_87_29 : am_code 87 29 = some (.iconst 0, 1) := by decide +kernel
theorem s_87_29 (cl : am_C) (ls : am_Ls) (st : List am_V) (h : am_H) : am_go0 cl 87 29 ls st h = am_go0 cl 87 30 ls (.inl 0 :: st) h := am_rK am_m87 d_87_29 (by decide) rfl _ _ _
theorem d_87_30 : am_code 87 30 = some (.iastore, 1) := by decide +kernel
theorem s_87_30 (cl : am_C) (ls : am_Ls) (i : Int) (v : Int) (k : Nat) (st : List am_V) (N : Nat) (I : Nat → Int → Int) (L : Nat → Int → Int64) : am_go0 cl 87 30 ls (.inl v :: .inl i :: .inr (.inr (some k)) :: st) (am_GS N, am_GR, I, L) = if am_inb (am_GS N) k 0 i = true then am_go0 cl 87 31 ls st (am_GS N, am_GR, am_uI I k i v, L) else none := am_rS am_m87 d_87_30 rfl k ls st i v _ _ I L
theorem d_87_31 : am_code 87 31 = some (.iinc 2 1, 3) := by decide +kernel
theorem s_87_31 (cl : am_C) (a0 a1 : Option am_V) (x : Int) (st : List am_V) (h : am_H) : am_go0 cl 87 31 [a0, a1, some (.inl x)] st h = am_go0 cl 87 34 [a0, am_c1 a1, some (.inl (am_wr (x + 1)))] st h := am_r am_m87 d_87_31 rfl
theorem d_87_34 : am_code 87 34 = some (.goto (-32), 3) := by decide +kernel
theorem s_87_34 (cl : am_C) (ls : am_Ls) (st : List am_V) (h : am_H) : am_go0 cl 87 34 ls st h = am_go0 cl 87 2 ls st h := am_rGo am_m87 d_87_34 (by decide) _ _ _
theorem d_87_37 : am_code 87 37 = some (.return_, 1) := by decide +kernel
theorem s_87_37 (cl : am_C) (ls : am_Ls) (h : am_H) : am_go0 cl 87 37 ls [] h = some (none, h) := am_rE am_m87 d_87_37 rfl
theorem e_87 (d : Nat) (t : Nat) (p0 : Int) (h : am_H) : am_call (d + 1) 87 [.inr (.inr (some t)), .inl p0] h = am_go0 (am_call d) 87 0 [some (.inr (.inr (some t))), some (.inl p0), none] [] h := am_callE am_m87 (Nat.le_of_ble_eq_true rfl) rfl
theorem d_88_0 : am_code 88 0 = some (.iload_n 1, 1) := by decide +kernel
theorem s_88_0 (cl : am_C) (a0 a2 : Option am_V) (x : Int) (st : List am_V) (h : am_H) : am_go0 cl 88 0 [a0, some (.inl x), a2] st h = am_go0 cl 88 1 [a0, some (.inl x), a2] (.inl x :: st) h := am_r am_m88 d_88_0 rfl
theorem d_88_1 : am_code 88 1 = some (.iconst 4, 1) := by decide +kernel
theorem s_88_1 (cl : am_C) (ls : am_Ls) (st : List am_V) (h : am_H) : am_go0 cl 88 1 ls st h = am_go0 cl 88 2 ls (.inl 4 :: st) h := am_rK am_m88 d_88_1 (by decide) rfl _ _ _
theorem d_88_2 : am_code 88 2 = some (.imul, 1) := by decide +kernel
theorem s_88_2 (cl : am_C) (ls : am_Ls) (x y : Int) (st : List am_V) (h : am_H) : am_go0 cl 88 2 ls (.inl y :: .inl x :: st) h = am_go0 cl 88 3 ls (.inl (am_wr (x * y)) :: st) h := am_r am_m88 d_88_2 rfl
theorem d_88_3 : am_code 88 3 = some (.iload_n 2, 1) := by decide +kernel
theorem s_88_3 (cl : am_C) (a0 a1 : Option am_V) (x : Int) (st : List am_V) (h : am_H) : am_go0 cl 88 3 [a0, a1, some (.inl x)] st h = am_go0 cl 88 4 [a0, a1, some (.inl x)] (.inl x :: st) h := am_r am_m88 d_88_3 rfl
theorem d_88_4 : am_code 88 4 = some (.iadd, 1) := by decide +kernel
theorem s_88_4 (cl : am_C) (ls : am_Ls) (x y : Int) (st : List am_V) (h : am_H) : am_go0 cl 88 4 ls (.inl y :: .inl x :: st) h = am_go0 cl 88 5 ls (.inl (am_wr (x + y)) :: st) h := am_r am_m88 d_88_4 rfl
theorem d_88_5 : am_code 88 5 = some (.ireturn, 1) := by decide +kernel
theorem s_88_5 (cl : am_C) (ls : am_Ls) (x : Int) (h : am_H) : am_go0 cl 88 5 ls [.inl x] h = some (some (.inl x), h) := am_rE am_m88 d_88_5 rfl
theorem e_88 (d : Nat) (t : Nat) (p0 : Int) (p1 : Int) (h : am_H) : am_call (d + 1) 88 [.inr (.inr (some t)), .inl p0, .inl p1] h = am_go0 (am_call d) 88 0 [some (.inr (.inr (some t))), some (.inl p0), some (.inl p1)] [] h := am_callE am_m88 (Nat.le_of_ble_eq_true rfl) rfl
theorem d_89_0 : am_code 89 0 = some (.aload_n 0, 1) := by decide +kernel
theorem s_89_0 (cl : am_C) (a1 a2 : Option am_V) (x : Nat) (st : List am_V) (h : am_H) : am_go0 cl 89 0 [some (.inr (.inr (some x))), a1, a2] st h = am_go0 cl 89 1 [some (.inr (.inr (some x))), a1, a2] (.inr (.inr (some x)) :: st) h := am_r am_m89 d_89_0 rfl
theorem d_89_1 : am_code 89 1 = some (.getfield 13, 3) := by decide +kernel
theorem s_89_1 (cl : am_C) (ls : am_Ls) (st : List am_V) (N : Nat) (I : Nat → Int → Int) (L : Nat → Int → Int64) : am_go0 cl 89 1 ls (.inr (.inr (some 29)) :: st) (am_GS N, am_GR, I, L) = am_go0 cl 89 4 ls (.inr (.inr (some 30)) :: st) (am_GS N, am_GR, I, L) := am_rG2 am_m89 d_89_1 am_f6013 rfl (gs_29 N) (by decide) gr_29_0 rfl
theorem d_89_4 : am_code 89 4 = some (.aload_n 0, 1) := by decide +kernel
theorem s_89_4 (cl : am_C) (a1 a2 : Option am_V) (x : Nat) (st : List am_V) (h : am_H) : am_go0 cl 89 4 [some (.inr (.inr (some x))), a1, a2] st h = am_go0 cl 89 5 [some (.inr (.inr (some x))), a1, a2] (.inr (.inr (some x)) :: st) h := am_r am_m89 d_89_4 rfl
theorem d_89_5 : am_code 89 5 = some (.iload_n 1, 1) := by decide +kernel
theorem s_89_5 (cl : am_C) (a0 a2 : Option am_V) (x : Int) (st : List am_V) (h : am_H) : am_go0 cl 89 5 [a0, some (.inl x), a2] st h = am_go0 cl 89 6 [a0, some (.inl x), a2] (.inl x :: st) h := am_r am_m89 d_89_5 rfl
theorem d_89_6 : am_code 89 6 = some (.iload_n 2, 1) := by decide +kernel
theorem s_89_6 (cl : am_C) (a0 a1 : Option am_V) (x : Int) (st : List am_V) (h : am_H) : am_go0 cl 89 6 [a0, a1, some (.inl x)] st h = am_go0 cl 89 7 [a0, a1, some (.inl x)] (.inl x :: st) h := am_r am_m89 d_89_6 rfl
theorem d_89_7 : am_code 89 7 = some (.invokevirtual 24, 3) := by decide +kernel
theorem s_89_7 (cl : am_C) (ls : am_Ls) (x0 : Int) (x1 : Int) (z0 : Nat) (N : Nat) (I : Nat → Int → Int) (L : Nat → Int → Int64) : am_go0 cl 89 7 ls [.inl x1, .inl x0, .inr (.inr (some 29)), .inr (.inr (some z0))] (am_GS N, am_GR, I, L) = am_bd (cl 88 [.inr (.inr (some 29)), .inl x0, .inl x1] (am_GS N, am_GR, I, L)) (fun v h2 => am_go0 cl 89 10 ls (v.toList ++ [.inr (.inr (some z0))]) h2) := am_rV am_m89 d_89_7 am_k6024 rfl am_m88 (gs_29 N) (by decide) (Nat.le_of_ble_eq_true rfl) rfl ls
theorem d_89_10 : am_code 89 10 = some (.iaload, 1) := by decide +kernel
theorem s_89_10 (cl : am_C) (ls : am_Ls) (i : Int) (k : Nat) (st : List am_V) (N : Nat) (I : Nat → Int → Int) (L : Nat → Int → Int64) : am_go0 cl 89 10 ls (.inl i :: .inr (.inr (some k)) :: st) (am_GS N, am_GR, I, L) = if am_inb (am_GS N) k 0 i = true then am_go0 cl 89 11 ls (.inl (I k i) :: st) (am_GS N, am_GR, I, L) else none := am_rA am_m89 d_89_10 (by decide) rfl k ls st i _ _ I L
theorem d_89_11 : am_code 89 11 = some (.iconst 2, 1) := by decide +kernel
theorem s_89_11 (cl : am_C) (ls : am_Ls) (st : List am_V) (h : am_H) : am_go0 cl 89 11 ls st h = am_go0 cl 89 12 ls (.inl 2 :: st) h := am_rK am_m89 d_89_11 (by decide) rfl _ _ _
theorem d_89_12 : am_code 89 12 = some (.if_icmp .ne 7, 3) := by decide +kernel
theorem s_89_12 (cl : am_C) (ls : am_Ls) (x y : Int) (st : List am_V) (h : am_H) : am_go0 cl 89 12 ls (.inl y :: .inl x :: st) h = if x = y then am_go0 cl 89 15 ls st h else am_go0 cl 89 19 ls st h := (am_rJ0 am_m89 d_89_12 (by decide) rfl x y ls st h).trans (am_ifF ((am_cmp_ne x y).trans Iff.rfl) _ _)
theorem d_89_15 : am_code 89 15 = some (.iconst 1, 1) := by decide +kernel
theorem s_89_15 (cl : am_C) (ls : am_Ls) (st : List am_V) (h : am_H) : am_go0 cl 89 15 ls st h = am_go0 cl 89 16 ls (.inl 1 :: st) h := am_rK am_m89 d_89_15 (by decide) rfl _ _ _
theorem d_89_16 : am_code 89 16 = some (.goto 4, 3) := by decide +kernel
theorem s_89_16 (cl : am_C) (ls : am_Ls) (st : List am_V) (h : am_H) : am_go0 cl 89 16 ls st h = am_go0 cl 89 20 ls st h := am_rGo am_m89 d_89_16 (by decide) _ _ _
theorem d_89_19 : am_code 89 19 = some (.iconst 0, 1) := by decide +kernel
theorem s_89_19 (cl : am_C) (ls : am_Ls) (st : List am_V) (h : am_H) : am_go0 cl 89 19 ls st h = am_go0 cl 89 20 ls (.inl 0 :: st) h := am_rK am_m89 d_89_19 (by decide) rfl _ _ _
theorem d_89_20 : am_code 89 20 = some (.ireturn, 1) := by decide +kernel
theorem s_89_20 (cl : am_C) (ls : am_Ls) (x : Int) (h : am_H) : am_go0 cl 89 20 ls [.inl x] h = if x = 0 ∨ x = 1 then some (some (.inl x), h) else none := am_rRz am_m89 d_89_20 x ls h
theorem e_89 (d : Nat) (t : Nat) (p0 : Int) (p1 : Int) (h : am_H) : am_call (d + 1) 89 [.inr (.inr (some t)), .inl p0, .inl p1] h = am_go0 (am_call d) 89 0 [some (.inr (.inr (some t))), some (.inl p0), some (.inl p1)] [] h := am_callE am_m89 (Nat.le_of_ble_eq_true rfl) rfl
theorem d_90_0 : am_code 90 0 = some (.aload_n 0, 1) := by decide +kernel
theorem s_90_0 (cl : am_C) (a1 a2 : Option am_V) (x : Nat) (st : List am_V) (h : am_H) : am_go0 cl 90 0 [some (.inr (.inr (some x))), a1, a2] st h = am_go0 cl 90 1 [some (.inr (.inr (some x))), a1, a2] (.inr (.inr (some x)) :: st) h := am_r am_m90 d_90_0 rfl
theorem d_90_1 : am_code 90 1 = some (.getfield 17, 3) := by decide +kernel
theorem s_90_1 (cl : am_C) (ls : am_Ls) (st : List am_V) (N : Nat) (I : Nat → Int → Int) (L : Nat → Int → Int64) : am_go0 cl 90 1 ls (.inr (.inr (some 29)) :: st) (am_GS N, am_GR, I, L) = am_go0 cl 90 4 ls (.inr (.inr (some 31)) :: st) (am_GS N, am_GR, I, L) := am_rG2 am_m90 d_90_1 am_f6017 rfl (gs_29 N) (by decide) gr_29_1 rfl
theorem d_90_4 : am_code 90 4 = some (.aload_n 0, 1) := by decide +kernel
theorem s_90_4 (cl : am_C) (a1 a2 : Option am_V) (x : Nat) (st : List am_V) (h : am_H) : am_go0 cl 90 4 [some (.inr (.inr (some x))), a1, a2] st h = am_go0 cl 90 5 [some (.inr (.inr (some x))), a1, a2] (.inr (.inr (some x)) :: st) h := am_r am_m90 d_90_4 rfl
theorem d_90_5 : am_code 90 5 = some (.iload_n 1, 1) := by decide +kernel
theorem s_90_5 (cl : am_C) (a0 a2 : Option am_V) (x : Int) (st : List am_V) (h : am_H) : am_go0 cl 90 5 [a0, some (.inl x), a2] st h = am_go0 cl 90 6 [a0, some (.inl x), a2] (.inl x :: st) h := am_r am_m90 d_90_5 rfl
theorem d_90_6 : am_code 90 6 = some (.iload_n 2, 1) := by decide +kernel
theorem s_90_6 (cl : am_C) (a0 a1 : Option am_V) (x : Int) (st : List am_V) (h : am_H) : am_go0 cl 90 6 [a0, a1, some (.inl x)] st h = am_go0 cl 90 7 [a0, a1, some (.inl x)] (.inl x :: st) h := am_r am_m90 d_90_6 rfl
theorem d_90_7 : am_code 90 7 = some (.invokevirtual 24, 3) := by decide +kernel
theorem s_90_7 (cl : am_C) (ls : am_Ls) (x0 : Int) (x1 : Int) (z0 : Nat) (N : Nat) (I : Nat → Int → Int) (L : Nat → Int → Int64) : am_go0 cl 90 7 ls [.inl x1, .inl x0, .inr (.inr (some 29)), .inr (.inr (some z0))] (am_GS N, am_GR, I, L) = am_bd (cl 88 [.inr (.inr (some 29)), .inl x0, .inl x1] (am_GS N, am_GR, I, L)) (fun v h2 => am_go0 cl 90 10 ls (v.toList ++ [.inr (.inr (some z0))]) h2) := am_rV am_m90 d_90_7 am_k6024 rfl am_m88 (gs_29 N) (by decide) (Nat.le_of_ble_eq_true rfl) rfl ls
theorem d_90_10 : am_code 90 10 = some (.laload, 1) := by decide +kernel
theorem s_90_10 (cl : am_C) (ls : am_Ls) (i : Int) (k : Nat) (st : List am_V) (N : Nat) (I : Nat → Int → Int) (L : Nat → Int → Int64) : am_go0 cl 90 10 ls (.inl i :: .inr (.inr (some k)) :: st) (am_GS N, am_GR, I, L) = if am_inb (am_GS N) k 1 i = true then am_go0 cl 90 11 ls (.inr (.inl (L k i)) :: st) (am_GS N, am_GR, I, L) else none := am_rAl am_m90 d_90_10 rfl k ls st i _ _ I L
theorem d_90_11 : am_code 90 11 = some (.lreturn, 1) := by decide +kernel
theorem s_90_11 (cl : am_C) (ls : am_Ls) (x : Int64) (h : am_H) : am_go0 cl 90 11 ls [.inr (.inl x)] h = some (some (.inr (.inl x)), h) := am_rE am_m90 d_90_11 rfl
theorem e_90 (d : Nat) (t : Nat) (p0 : Int) (p1 : Int) (h : am_H) : am_call (d + 1) 90 [.inr (.inr (some t)), .inl p0, .inl p1] h = am_go0 (am_call d) 90 0 [some (.inr (.inr (some t))), some (.inl p0), some (.inl p1)] [] h := am_callE am_m90 (Nat.le_of_ble_eq_true rfl) rfl
theorem d_91_0 : am_code 91 0 = some (.aload_n 0, 1) := by decide +kernel
theorem s_91_0 (cl : am_C) (a1 a2 : Option am_V) (x : Nat) (st : List am_V) (h : am_H) : am_go0 cl 91 0 [some (.inr (.inr (some x))), a1, a2] st h = am_go0 cl 91 1 [some (.inr (.inr (some x))), a1, a2] (.inr (.inr (some x)) :: st) h := am_r am_m91 d_91_0 rfl
theorem d_91_1 : am_code 91 1 = some (.getfield 13, 3) := by decide +kernel
theorem s_91_1 (cl : am_C) (ls : am_Ls) (st : List am_V) (N : Nat) (I : Nat → Int → Int) (L : Nat → Int → Int64) : am_go0 cl 91 1 ls (.inr (.inr (some 29)) :: st) (am_GS N, am_GR, I, L) = am_go0 cl 91 4 ls (.inr (.inr (some 30)) :: st) (am_GS N, am_GR, I, L) := am_rG2 am_m91 d_91_1 am_f6013 rfl (gs_29 N) (by decide) gr_29_0 rfl
theorem d_91_4 : am_code 91 4 = some (.aload_n 0, 1) := by decide +kernel
theorem s_91_4 (cl : am_C) (a1 a2 : Option am_V) (x : Nat) (st : List am_V) (h : am_H) : am_go0 cl 91 4 [some (.inr (.inr (some x))), a1, a2] st h = am_go0 cl 91 5 [some (.inr (.inr (some x))), a1, a2] (.inr (.inr (some x)) :: st) h := am_r am_m91 d_91_4 rfl
theorem d_91_5 : am_code 91 5 = some (.iload_n 1, 1) := by decide +kernel
theorem s_91_5 (cl : am_C) (a0 a2 : Option am_V) (x : Int) (st : List am_V) (h : am_H) : am_go0 cl 91 5 [a0, some (.inl x), a2] st h = am_go0 cl 91 6 [a0, some (.inl x), a2] (.inl x :: st) h := am_r am_m91 d_91_5 rfl
theorem d_91_6 : am_code 91 6 = some (.iload_n 2, 1) := by decide +kernel
theorem s_91_6 (cl : am_C) (a0 a1 : Option am_V) (x : Int) (st : List am_V) (h : am_H) : am_go0 cl 91 6 [a0, a1, some (.inl x)] st h = am_go0 cl 91 7 [a0, a1, some (.inl x)] (.inl x :: st) h := am_r am_m91 d_91_6 rfl
theorem d_91_7 : am_code 91 7 = some (.invokevirtual 24, 3) := by decide +kernel
theorem s_91_7 (cl : am_C) (ls : am_Ls) (x0 : Int) (x1 : Int) (z0 : Nat) (N : Nat) (I : Nat → Int → Int) (L : Nat → Int → Int64) : am_go0 cl 91 7 ls [.inl x1, .inl x0, .inr (.inr (some 29)), .inr (.inr (some z0))] (am_GS N, am_GR, I, L) = am_bd (cl 88 [.inr (.inr (some 29)), .inl x0, .inl x1] (am_GS N, am_GR, I, L)) (fun v h2 => am_go0 cl 91 10 ls (v.toList ++ [.inr (.inr (some z0))]) h2) := am_rV am_m91 d_91_7 am_k6024 rfl am_m88 (gs_29 N) (by decide) (Nat.le_of_ble_eq_true rfl) rfl ls
theorem d_91_10 : am_code 91 10 = some (.iaload, 1) := by decide +kernel
theorem s_91_10 (cl : am_C) (ls : am_Ls) (i : Int) (k : Nat) (st : List am_V) (N : Nat) (I : Nat → Int → Int) (L : Nat → Int → Int64) : am_go0 cl 91 10 ls (.inl i :: .inr (.inr (some k)) :: st) (am_GS N, am_GR, I, L) = if am_inb (am_GS N) k 0 i = true then am_go0 cl 91 11 ls (.inl (I k i) :: st) (am_GS N, am_GR, I, L) else none := am_rA am_m91 d_91_10 (by decide) rfl k ls st i _ _ I L
theorem d_91_11 : am_code 91 11 = some (.iconst 1, 1) := by decide +kernel
theorem s_91_11 (cl : am_C) (ls : am_Ls) (st : List am_V) (h : am_H) : am_go0 cl 91 11 ls st h = am_go0 cl 91 12 ls (.inl 1 :: st) h := am_rK am_m91 d_91_11 (by decide) rfl _ _ _
theorem d_91_12 : am_code 91 12 = some (.if_icmp .ne 7, 3) := by decide +kernel
theorem s_91_12 (cl : am_C) (ls : am_Ls) (x y : Int) (st : List am_V) (h : am_H) : am_go0 cl 91 12 ls (.inl y :: .inl x :: st) h = if x = y then am_go0 cl 91 15 ls st h else am_go0 cl 91 19 ls st h := (am_rJ0 am_m91 d_91_12 (by decide) rfl x y ls st h).trans (am_ifF ((am_cmp_ne x y).trans Iff.rfl) _ _)
theorem d_91_15 : am_code 91 15 = some (.iconst 1, 1) := by decide +kernel
theorem s_91_15 (cl : am_C) (ls : am_Ls) (st : List am_V) (h : am_H) : am_go0 cl 91 15 ls st h = am_go0 cl 91 16 ls (.inl 1 :: st) h := am_rK am_m91 d_91_15 (by decide) rfl _ _ _
theorem d_91_16 : am_code 91 16 = some (.goto 4, 3) := by decide +kernel
theorem s_91_16 (cl : am_C) (ls : am_Ls) (st : List am_V) (h : am_H) : am_go0 cl 91 16 ls st h = am_go0 cl 91 20 ls st h := am_rGo am_m91 d_91_16 (by decide) _ _ _
theorem d_91_19 : am_code 91 19 = some (.iconst 0, 1) := by decide +kernel
theorem s_91_19 (cl : am_C) (ls : am_Ls) (st : List am_V) (h : am_H) : am_go0 cl 91 19 ls st h = am_go0 cl 91 20 ls (.inl 0 :: st) h := am_rK am_m91 d_91_19 (by decide) rfl _ _ _
theorem d_91_20 : am_code 91 20 = some (.ireturn, 1) := by decide +kernel
theorem s_91_20 (cl : am_C) (ls : am_Ls) (x : Int) (h : am_H) : am_go0 cl 91 20 ls [.inl x] h = if x = 0 ∨ x = 1 then some (some (.inl x), h) else none := am_rRz am_m91 d_91_20 x ls h
theorem e_91 (d : Nat) (t : Nat) (p0 : Int) (p1 : Int) (h : am_H) : am_call (d + 1) 91 [.inr (.inr (some t)), .inl p0, .inl p1] h = am_go0 (am_call d) 91 0 [some (.inr (.inr (some t))), some (.inl p0), some (.inl p1)] [] h := am_callE am_m91 (Nat.le_of_ble_eq_true rfl) rfl
theorem d_92_0 : am_code 92 0 = some (.aload_n 0, 1) := by decide +kernel
theorem s_92_0 (cl : am_C) (a1 a2 : Option am_V) (x : Nat) (st : List am_V) (h : am_H) : am_go0 cl 92 0 [some (.inr (.inr (some x))), a1, a2] st h = am_go0 cl 92 1 [some (.inr (.inr (some x))), a1, a2] (.inr (.inr (some x)) :: st) h := am_r am_m92 d_92_0 rfl
theorem d_92_1 : am_code 92 1 = some (.getfield 13, 3) := by decide +kernel
theorem s_92_1 (cl : am_C) (ls : am_Ls) (st : List am_V) (N : Nat) (I : Nat → Int → Int) (L : Nat → Int → Int64) : am_go0 cl 92 1 ls (.inr (.inr (some 29)) :: st) (am_GS N, am_GR, I, L) = am_go0 cl 92 4 ls (.inr (.inr (some 30)) :: st) (am_GS N, am_GR, I, L) := am_rG2 am_m92 d_92_1 am_f6013 rfl (gs_29 N) (by decide) gr_29_0 rfl
theorem d_92_4 : am_code 92 4 = some (.aload_n 0, 1) := by decide +kernel
theorem s_92_4 (cl : am_C) (a1 a2 : Option am_V) (x : Nat) (st : List am_V) (h : am_H) : am_go0 cl 92 4 [some (.inr (.inr (some x))), a1, a2] st h = am_go0 cl 92 5 [some (.inr (.inr (some x))), a1, a2] (.inr (.inr (some x)) :: st) h := am_r am_m92 d_92_4 rfl
theorem d_92_5 : am_code 92 5 = some (.iload_n 1, 1) := by decide +kernel
theorem s_92_5 (cl : am_C) (a0 a2 : Option am_V) (x : Int) (st : List am_V) (h : am_H) : am_go0 cl 92 5 [a0, some (.inl x), a2] st h = am_go0 cl 92 6 [a0, some (.inl x), a2] (.inl x :: st) h := am_r am_m92 d_92_5 rfl
theorem d_92_6 : am_code 92 6 = some (.iload_n 2, 1) := by decide +kernel
theorem s_92_6 (cl : am_C) (a0 a1 : Option am_V) (x : Int) (st : List am_V) (h : am_H) : am_go0 cl 92 6 [a0, a1, some (.inl x)] st h = am_go0 cl 92 7 [a0, a1, some (.inl x)] (.inl x :: st) h := am_r am_m92 d_92_6 rfl
theorem d_92_7 : am_code 92 7 = some (.invokevirtual 24, 3) := by decide +kernel
theorem s_92_7 (cl : am_C) (ls : am_Ls) (x0 : Int) (x1 : Int) (z0 : Nat) (N : Nat) (I : Nat → Int → Int) (L : Nat → Int → Int64) : am_go0 cl 92 7 ls [.inl x1, .inl x0, .inr (.inr (some 29)), .inr (.inr (some z0))] (am_GS N, am_GR, I, L) = am_bd (cl 88 [.inr (.inr (some 29)), .inl x0, .inl x1] (am_GS N, am_GR, I, L)) (fun v h2 => am_go0 cl 92 10 ls (v.toList ++ [.inr (.inr (some z0))]) h2) := am_rV am_m92 d_92_7 am_k6024 rfl am_m88 (gs_29 N) (by decide) (Nat.le_of_ble_eq_true rfl) rfl ls
theorem d_92_10 : am_code 92 10 = some (.iconst 0, 1) := by decide +kernel
theorem s_92_10 (cl : am_C) (ls : am_Ls) (st : List am_V) (h : am_H) : am_go0 cl 92 10 ls st h = am_go0 cl 92 11 ls (.inl 0 :: st) h := am_rK am_m92 d_92_10 (by decide) rfl _ _ _
theorem d_92_11 : am_code 92 11 = some (.iastore, 1) := by decide +kernel
theorem s_92_11 (cl : am_C) (ls : am_Ls) (i : Int) (v : Int) (k : Nat) (st : List am_V) (N : Nat) (I : Nat → Int → Int) (L : Nat → Int → Int64) : am_go0 cl 92 11 ls (.inl v :: .inl i :: .inr (.inr (some k)) :: st) (am_GS N, am_GR, I, L) = if am_inb (am_GS N) k 0 i = true then am_go0 cl 92 12 ls st (am_GS N, am_GR, am_uI I k i v, L) else none := am_rS am_m92 d_92_11 rfl k ls st i v _ _ I L
theorem d_92_12 : am_code 92 12 = some (.return_, 1) := by decide +kernel
theorem s_92_12 (cl : am_C) (ls : am_Ls) (h : am_H) : am_go0 cl 92 12 ls [] h = some (none, h) := am_rE am_m92 d_92_12 rfl
theorem e_92 (d : Nat) (t : Nat) (p0 : Int) (p1 : Int) (h : am_H) : am_call (d + 1) 92 [.inr (.inr (some t)), .inl p0, .inl p1] h = am_go0 (am_call d) 92 0 [some (.inr (.inr (some t))), some (.inl p0), some (.inl p1)] [] h := am_callE am_m92 (Nat.le_of_ble_eq_true rfl) rfl
theorem d_93_0 : am_code 93 0 = some (.aload_n 0, 1) := by decide +kernel
theorem s_93_0 (cl : am_C) (a1 a2 : Option am_V) (x : Nat) (st : List am_V) (h : am_H) : am_go0 cl 93 0 [some (.inr (.inr (some x))), a1, a2] st h = am_go0 cl 93 1 [some (.inr (.inr (some x))), a1, a2] (.inr (.inr (some x)) :: st) h := am_r am_m93 d_93_0 rfl
theorem d_93_1 : am_code 93 1 = some (.getfield 13, 3) := by decide +kernel
theorem s_93_1 (cl : am_C) (ls : am_Ls) (st : List am_V) (N : Nat) (I : Nat → Int → Int) (L : Nat → Int → Int64) : am_go0 cl 93 1 ls (.inr (.inr (some 29)) :: st) (am_GS N, am_GR, I, L) = am_go0 cl 93 4 ls (.inr (.inr (some 30)) :: st) (am_GS N, am_GR, I, L) := am_rG2 am_m93 d_93_1 am_f6013 rfl (gs_29 N) (by decide) gr_29_0 rfl
theorem d_93_4 : am_code 93 4 = some (.aload_n 0, 1) := by decide +kernel
theorem s_93_4 (cl : am_C) (a1 a2 : Option am_V) (x : Nat) (st : List am_V) (h : am_H) : am_go0 cl 93 4 [some (.inr (.inr (some x))), a1, a2] st h = am_go0 cl 93 5 [some (.inr (.inr (some x))), a1, a2] (.inr (.inr (some x)) :: st) h := am_r am_m93 d_93_4 rfl
theorem d_93_5 : am_code 93 5 = some (.iload_n 1, 1) := by decide +kernel
theorem s_93_5 (cl : am_C) (a0 a2 : Option am_V) (x : Int) (st : List am_V) (h : am_H) : am_go0 cl 93 5 [a0, some (.inl x), a2] st h = am_go0 cl 93 6 [a0, some (.inl x), a2] (.inl x :: st) h := am_r am_m93 d_93_5 rfl
theorem d_93_6 : am_code 93 6 = some (.iload_n 2, 1) := by decide +kernel
theorem s_93_6 (cl : am_C) (a0 a1 : Option am_V) (x : Int) (st : List am_V) (h : am_H) : am_go0 cl 93 6 [a0, a1, some (.inl x)] st h = am_go0 cl 93 7 [a0, a1, some (.inl x)] (.inl x :: st) h := am_r am_m93 d_93_6 rfl
theorem d_93_7 : am_code 93 7 = some (.invokevirtual 24, 3) := by decide +kernel
theorem s_93_7 (cl : am_C) (ls : am_Ls) (x0 : Int) (x1 : Int) (z0 : Nat) (N : Nat) (I : Nat → Int → Int) (L : Nat → Int → Int64) : am_go0 cl 93 7 ls [.inl x1, .inl x0, .inr (.inr (some 29)), .inr (.inr (some z0))] (am_GS N, am_GR, I, L) = am_bd (cl 88 [.inr (.inr (some 29)), .inl x0, .inl x1] (am_GS N, am_GR, I, L)) (fun v h2 => am_go0 cl 93 10 ls (v.toList ++ [.inr (.inr (some z0))]) h2) := am_rV am_m93 d_93_7 am_k6024 rfl am_m88 (gs_29 N) (by decide) (Nat.le_of_ble_eq_true rfl) rfl ls
theorem d_93_10 : am_code 93 10 = some (.iconst 1, 1) := by decide +kernel
theorem s_93_10 (cl : am_C) (ls : am_Ls) (st : List am_V) (h : am_H) : am_go0 cl 93 10 ls st h = am_go0 cl 93 11 ls (.inl 1 :: st) h := am_rK am_m93 d_93_10 (by decide) rfl _ _ _
theorem d_93_11 : am_code 93 11 = some (.iastore, 1) := by decide +kernel
theorem s_93_11 (cl : am_C) (ls : am_Ls) (i : Int) (v : Int) (k : Nat) (st : List am_V) (N : Nat) (I : Nat → Int → Int) (L : Nat → Int → Int64) : am_go0 cl 93 11 ls (.inl v :: .inl i :: .inr (.inr (some k)) :: st) (am_GS N, am_GR, I, L) = if am_inb (am_GS N) k 0 i = true then am_go0 cl 93 12 ls st (am_GS N, am_GR, am_uI I k i v, L) else none := am_rS am_m93 d_93_11 rfl k ls st i v _ _ I L
theorem d_93_12 : am_code 93 12 = some (.aload_n 0, 1) := by decide +kernel
theorem s_93_12 (cl : am_C) (a1 a2 : Option am_V) (x : Nat) (st : List am_V) (h : am_H) : am_go0 cl 93 12 [some (.inr (.inr (some x))), a1, a2] st h = am_go0 cl 93 13 [some (.inr (.inr (some x))), a1, a2] (.inr (.inr (some x)) :: st) h := am_r am_m93 d_93_12 rfl
theorem d_93_13 : am_code 93 13 = some (.getfield 21, 3) := by decide +kernel
theorem s_93_13 (cl : am_C) (ls : am_Ls) (st : List am_V) (N : Nat) (I : Nat → Int → Int) (L : Nat → Int → Int64) : am_go0 cl 93 13 ls (.inr (.inr (some 29)) :: st) (am_GS N, am_GR, I, L) = am_go0 cl 93 16 ls (.inr (.inr (some 32)) :: st) (am_GS N, am_GR, I, L) := am_rG2 am_m93 d_93_13 am_f6021 rfl (gs_29 N) (by decide) gr_29_2 rfl
theorem d_93_16 : am_code 93 16 = some (.aload_n 0, 1) := by decide +kernel
theorem s_93_16 (cl : am_C) (a1 a2 : Option am_V) (x : Nat) (st : List am_V) (h : am_H) : am_go0 cl 93 16 [some (.inr (.inr (some x))), a1, a2] st h = am_go0 cl 93 17 [some (.inr (.inr (some x))), a1, a2] (.inr (.inr (some x)) :: st) h := am_r am_m93 d_93_16 rfl
theorem d_93_17 : am_code 93 17 = some (.iload_n 1, 1) := by decide +kernel
theorem s_93_17 (cl : am_C) (a0 a2 : Option am_V) (x : Int) (st : List am_V) (h : am_H) : am_go0 cl 93 17 [a0, some (.inl x), a2] st h = am_go0 cl 93 18 [a0, some (.inl x), a2] (.inl x :: st) h := am_r am_m93 d_93_17 rfl
theorem d_93_18 : am_code 93 18 = some (.iload_n 2, 1) := by decide +kernel
theorem s_93_18 (cl : am_C) (a0 a1 : Option am_V) (x : Int) (st : List am_V) (h : am_H) : am_go0 cl 93 18 [a0, a1, some (.inl x)] st h = am_go0 cl 93 19 [a0, a1, some (.inl x)] (.inl x :: st) h := am_r am_m93 d_93_18 rfl
theorem d_93_19 : am_code 93 19 = some (.invokevirtual 24, 3) := by decide +kernel
theorem s_93_19 (cl : am_C) (ls : am_Ls) (x0 : Int) (x1 : Int) (z0 : Nat) (N : Nat) (I : Nat → Int → Int) (L : Nat → Int → Int64) : am_go0 cl 93 19 ls [.inl x1, .inl x0, .inr (.inr (some 29)), .inr (.inr (some z0))] (am_GS N, am_GR, I, L) = am_bd (cl 88 [.inr (.inr (some 29)), .inl x0, .inl x1] (am_GS N, am_GR, I, L)) (fun v h2 => am_go0 cl 93 22 ls (v.toList ++ [.inr (.inr (some z0))]) h2) := am_rV am_m93 d_93_19 am_k6024 rfl am_m88 (gs_29 N) (by decide) (Nat.le_of_ble_eq_true rfl) rfl ls
theorem d_93_22 : am_code 93 22 = some (.dup2, 1) := by decide +kernel
theorem s_93_22 (cl : am_C) (ls : am_Ls) (x : Int) (y : Nat) (st : List am_V) (h : am_H) : am_go0 cl 93 22 ls (.inl x :: .inr (.inr (some y)) :: st) h = am_go0 cl 93 23 ls (.inl x :: .inr (.inr (some y)) :: .inl x :: .inr (.inr (some y)) :: st) h := am_r am_m93 d_93_22 rfl
theorem d_93_23 : am_code 93 23 = some (.iaload, 1) := by decide +kernel
theorem s_93_23 (cl : am_C) (ls : am_Ls) (i : Int) (k : Nat) (st : List am_V) (N : Nat) (I : Nat → Int → Int) (L : Nat → Int → Int64) : am_go0 cl 93 23 ls (.inl i :: .inr (.inr (some k)) :: st) (am_GS N, am_GR, I, L) = if am_inb (am_GS N) k 0 i = true then am_go0 cl 93 24 ls (.inl (I k i) :: st) (am_GS N, am_GR, I, L) else none := am_rA am_m93 d_93_23 (by decide) rfl k ls st i _ _ I L
theorem d_93_24 : am_code 93 24 = some (.iconst 1, 1) := by decide +kernel
theorem s_93_24 (cl : am_C) (ls : am_Ls) (st : List am_V) (h : am_H) : am_go0 cl 93 24 ls st h = am_go0 cl 93 25 ls (.inl 1 :: st) h := am_rK am_m93 d_93_24 (by decide) rfl _ _ _
theorem d_93_25 : am_code 93 25 = some (.iadd, 1) := by decide +kernel
theorem s_93_25 (cl : am_C) (ls : am_Ls) (x y : Int) (st : List am_V) (h : am_H) : am_go0 cl 93 25 ls (.inl y :: .inl x :: st) h = am_go0 cl 93 26 ls (.inl (am_wr (x + y)) :: st) h := am_r am_m93 d_93_25 rfl
theorem d_93_26 : am_code 93 26 = some (.iastore, 1) := by decide +kernel
theorem s_93_26 (cl : am_C) (ls : am_Ls) (i : Int) (v : Int) (k : Nat) (st : List am_V) (N : Nat) (I : Nat → Int → Int) (L : Nat → Int → Int64) : am_go0 cl 93 26 ls (.inl v :: .inl i :: .inr (.inr (some k)) :: st) (am_GS N, am_GR, I, L) = if am_inb (am_GS N) k 0 i = true then am_go0 cl 93 27 ls st (am_GS N, am_GR, am_uI I k i v, L) else none := am_rS am_m93 d_93_26 rfl k ls st i v _ _ I L
theorem d_93_27 : am_code 93 27 = some (.return_, 1) := by decide +kernel
theorem s_93_27 (cl : am_C) (ls : am_Ls) (h : am_H) : am_go0 cl 93 27 ls [] h = some (none, h) := am_rE am_m93 d_93_27 rfl
theorem e_93 (d : Nat) (t : Nat) (p0 : Int) (p1 : Int) (h : am_H) : am_call (d + 1) 93 [.inr (.inr (some t)), .inl p0, .inl p1] h = am_go0 (am_call d) 93 0 [some (.inr (.inr (some t))), some (.inl p0), some (.inl p1)] [] h := am_callE am_m93 (Nat.le_of_ble_eq_true rfl) rfl
theorem d_94_0 : am_code 94 0 = some (.aload_n 0, 1) := by decide +kernel
theorem s_94_0 (cl : am_C) (a1 a2 a3 a4 : Option am_V) (x : Nat) (st : List am_V) (h : am_H) : am_go0 cl 94 0 [some (.inr (.inr (some x))), a1, a2, a3, a4] st h = am_go0 cl 94 1 [some (.inr (.inr (some x))), a1, a2, a3, a4] (.inr (.inr (some x)) :: st) h := am_r am_m94 d_94_0 rfl
theorem d_94_1 : am_code 94 1 = some (.getfield 13, 3) := by decide +kernel
theorem s_94_1 (cl : am_C) (ls : am_Ls) (st : List am_V) (N : Nat) (I : Nat → Int → Int) (L : Nat → Int → Int64) : am_go0 cl 94 1 ls (.inr (.inr (some 29)) :: st) (am_GS N, am_GR, I, L) = am_go0 cl 94 4 ls (.inr (.inr (some 30)) :: st) (am_GS N, am_GR, I, L) := am_rG2 am_m94 d_94_1 am_f6013 rfl (gs_29 N) (by decide) gr_29_0 rfl
theorem d_94_4 : am_code 94 4 = some (.aload_n 0, 1) := by decide +kernel
theorem s_94_4 (cl : am_C) (a1 a2 a3 a4 : Option am_V) (x : Nat) (st : List am_V) (h : am_H) : am_go0 cl 94 4 [some (.inr (.inr (some x))), a1, a2, a3, a4] st h = am_go0 cl 94 5 [some (.inr (.inr (some x))), a1, a2, a3, a4] (.inr (.inr (some x)) :: st) h := am_r am_m94 d_94_4 rfl
theorem d_94_5 : am_code 94 5 = some (.iload_n 1, 1) := by decide +kernel
theorem s_94_5 (cl : am_C) (a0 a2 a3 a4 : Option am_V) (x : Int) (st : List am_V) (h : am_H) : am_go0 cl 94 5 [a0, some (.inl x), a2, a3, a4] st h = am_go0 cl 94 6 [a0, some (.inl x), a2, a3, a4] (.inl x :: st) h := am_r am_m94 d_94_5 rfl
theorem d_94_6 : am_code 94 6 = some (.iload_n 2, 1) := by decide +kernel
theorem s_94_6 (cl : am_C) (a0 a1 a3 a4 : Option am_V) (x : Int) (st : List am_V) (h : am_H) : am_go0 cl 94 6 [a0, a1, some (.inl x), a3, a4] st h = am_go0 cl 94 7 [a0, a1, some (.inl x), a3, a4] (.inl x :: st) h := am_r am_m94 d_94_6 rfl
theorem d_94_7 : am_code 94 7 = some (.invokevirtual 24, 3) := by decide +kernel
theorem s_94_7 (cl : am_C) (ls : am_Ls) (x0 : Int) (x1 : Int) (z0 : Nat) (N : Nat) (I : Nat → Int → Int) (L : Nat → Int → Int64) : am_go0 cl 94 7 ls [.inl x1, .inl x0, .inr (.inr (some 29)), .inr (.inr (some z0))] (am_GS N, am_GR, I, L) = am_bd (cl 88 [.inr (.inr (some 29)), .inl x0, .inl x1] (am_GS N, am_GR, I, L)) (fun v h2 => am_go0 cl 94 10 ls (v.toList ++ [.inr (.inr (some z0))]) h2) := am_rV am_m94 d_94_7 am_k6024 rfl am_m88 (gs_29 N) (by decide) (Nat.le_of_ble_eq_true rfl) rfl ls
theorem d_94_10 : am_code 94 10 = some (.iconst 2, 1) := by decide +kernel
theorem s_94_10 (cl : am_C) (ls : am_Ls) (st : List am_V) (h : am_H) : am_go0 cl 94 10 ls st h = am_go0 cl 94 11 ls (.inl 2 :: st) h := am_rK am_m94 d_94_10 (by decide) rfl _ _ _
theorem d_94_11 : am_code 94 11 = some (.iastore, 1) := by decide +kernel
theorem s_94_11 (cl : am_C) (ls : am_Ls) (i : Int) (v : Int) (k : Nat) (st : List am_V) (N : Nat) (I : Nat → Int → Int) (L : Nat → Int → Int64) : am_go0 cl 94 11 ls (.inl v :: .inl i :: .inr (.inr (some k)) :: st) (am_GS N, am_GR, I, L) = if am_inb (am_GS N) k 0 i = true then am_go0 cl 94 12 ls st (am_GS N, am_GR, am_uI I k i v, L) else none := am_rS am_m94 d_94_11 rfl k ls st i v _ _ I L
theorem d_94_12 : am_code 94 12 = some (.aload_n 0, 1) := by decide +kernel
theorem s_94_12 (cl : am_C) (a1 a2 a3 a4 : Option am_V) (x : Nat) (st : List am_V) (h : am_H) : am_go0 cl 94 12 [some (.inr (.inr (some x))), a1, a2, a3, a4] st h = am_go0 cl 94 13 [some (.inr (.inr (some x))), a1, a2, a3, a4] (.inr (.inr (some x)) :: st) h := am_r am_m94 d_94_12 rfl
theorem d_94_13 : am_code 94 13 = some (.getfield 17, 3) := by decide +kernel
theorem s_94_13 (cl : am_C) (ls : am_Ls) (st : List am_V) (N : Nat) (I : Nat → Int → Int) (L : Nat → Int → Int64) : am_go0 cl 94 13 ls (.inr (.inr (some 29)) :: st) (am_GS N, am_GR, I, L) = am_go0 cl 94 16 ls (.inr (.inr (some 31)) :: st) (am_GS N, am_GR, I, L) := am_rG2 am_m94 d_94_13 am_f6017 rfl (gs_29 N) (by decide) gr_29_1 rfl
theorem d_94_16 : am_code 94 16 = some (.aload_n 0, 1) := by decide +kernel
theorem s_94_16 (cl : am_C) (a1 a2 a3 a4 : Option am_V) (x : Nat) (st : List am_V) (h : am_H) : am_go0 cl 94 16 [some (.inr (.inr (some x))), a1, a2, a3, a4] st h = am_go0 cl 94 17 [some (.inr (.inr (some x))), a1, a2, a3, a4] (.inr (.inr (some x)) :: st) h := am_r am_m94 d_94_16 rfl
theorem d_94_17 : am_code 94 17 = some (.iload_n 1, 1) := by decide +kernel
theorem s_94_17 (cl : am_C) (a0 a2 a3 a4 : Option am_V) (x : Int) (st : List am_V) (h : am_H) : am_go0 cl 94 17 [a0, some (.inl x), a2, a3, a4] st h = am_go0 cl 94 18 [a0, some (.inl x), a2, a3, a4] (.inl x :: st) h := am_r am_m94 d_94_17 rfl
theorem d_94_18 : am_code 94 18 = some (.iload_n 2, 1) := by decide +kernel
theorem s_94_18 (cl : am_C) (a0 a1 a3 a4 : Option am_V) (x : Int) (st : List am_V) (h : am_H) : am_go0 cl 94 18 [a0, a1, some (.inl x), a3, a4] st h = am_go0 cl 94 19 [a0, a1, some (.inl x), a3, a4] (.inl x :: st) h := am_r am_m94 d_94_18 rfl
theorem d_94_19 : am_code 94 19 = some (.invokevirtual 24, 3) := by decide +kernel
theorem s_94_19 (cl : am_C) (ls : am_Ls) (x0 : Int) (x1 : Int) (z0 : Nat) (N : Nat) (I : Nat → Int → Int) (L : Nat → Int → Int64) : am_go0 cl 94 19 ls [.inl x1, .inl x0, .inr (.inr (some 29)), .inr (.inr (some z0))] (am_GS N, am_GR, I, L) = am_bd (cl 88 [.inr (.inr (some 29)), .inl x0, .inl x1] (am_GS N, am_GR, I, L)) (fun v h2 => am_go0 cl 94 22 ls (v.toList ++ [.inr (.inr (some z0))]) h2) := am_rV am_m94 d_94_19 am_k6024 rfl am_m88 (gs_29 N) (by decide) (Nat.le_of_ble_eq_true rfl) rfl ls
theorem d_94_22 : am_code 94 22 = some (.lload_n 3, 1) := by decide +kernel
theorem s_94_22 (cl : am_C) (a0 a1 a2 a4 : Option am_V) (x : Int64) (st : List am_V) (h : am_H) : am_go0 cl 94 22 [a0, a1, a2, some (.inr (.inl x)), a4] st h = am_go0 cl 94 23 [a0, a1, a2, some (.inr (.inl x)), a4] (.inr (.inl x) :: st) h := am_r am_m94 d_94_22 rfl
theorem d_94_23 : am_code 94 23 = some (.lastore, 1) := by decide +kernel
theorem s_94_23 (cl : am_C) (ls : am_Ls) (i : Int) (v : Int64) (k : Nat) (st : List am_V) (N : Nat) (I : Nat → Int → Int) (L : Nat → Int → Int64) : am_go0 cl 94 23 ls (.inr (.inl v) :: .inl i :: .inr (.inr (some k)) :: st) (am_GS N, am_GR, I, L) = if am_inb (am_GS N) k 1 i = true then am_go0 cl 94 24 ls st (am_GS N, am_GR, I, am_uL L k i v) else none := am_rSl am_m94 d_94_23 rfl k ls st i v _ _ I L
theorem d_94_24 : am_code 94 24 = some (.return_, 1) := by decide +kernel
theorem s_94_24 (cl : am_C) (ls : am_Ls) (h : am_H) : am_go0 cl 94 24 ls [] h = some (none, h) := am_rE am_m94 d_94_24 rfl
theorem e_94 (d : Nat) (t : Nat) (p0 : Int) (p1 : Int) (p2 : Int64) (h : am_H) : am_call (d + 1) 94 [.inr (.inr (some t)), .inl p0, .inl p1, .inr (.inl p2)] h = am_go0 (am_call d) 94 0 [some (.inr (.inr (some t))), some (.inl p0), some (.inl p1), some (.inr (.inl p2)), none] [] h := am_callE am_m94 (Nat.le_of_ble_eq_true rfl) rfl
theorem d_95_0 : am_code 95 0 = some (.aload_n 0, 1) := by decide +kernel
theorem s_95_0 (cl : am_C) (a1 a2 : Option am_V) (x : Nat) (st : List am_V) (h : am_H) : am_go0 cl 95 0 [some (.inr (.inr (some x))), a1, a2] st h = am_go0 cl 95 1 [some (.inr (.inr (some x))), a1, a2] (.inr (.inr (some x)) :: st) h := am_r am_m95 d_95_0 rfl
theorem d_95_1 : am_code 95 1 = some (.getfield 21, 3) := by decide +kernel
theorem s_95_1 (cl : am_C) (ls : am_Ls) (st : List am_V) (N : Nat) (I : Nat → Int → Int) (L : Nat → Int → Int64) : am_go0 cl 95 1 ls (.inr (.inr (some 29)) :: st) (am_GS N, am_GR, I, L) = am_go0 cl 95 4 ls (.inr (.inr (some 32)) :: st) (am_GS N, am_GR, I, L) := am_rG2 am_m95 d_95_1 am_f6021 rfl (gs_29 N) (by decide) gr_29_2 rfl
theorem d_95_4 : am_code 95 4 = some (.aload_n 0, 1) := by decide +kernel
theorem s_95_4 (cl : am_C) (a1 a2 : Option am_V) (x : Nat) (st : List am_V) (h : am_H) : am_go0 cl 95 4 [some (.inr (.inr (some x))), a1, a2] st h = am_go0 cl 95 5 [some (.inr (.inr (some x))), a1, a2] (.inr (.inr (some x)) :: st) h := am_r am_m95 d_95_4 rfl
theorem d_95_5 : am_code 95 5 = some (.iload_n 1, 1) := by decide +kernel
theorem s_95_5 (cl : am_C) (a0 a2 : Option am_V) (x : Int) (st : List am_V) (h : am_H) : am_go0 cl 95 5 [a0, some (.inl x), a2] st h = am_go0 cl 95 6 [a0, some (.inl x), a2] (.inl x :: st) h := am_r am_m95 d_95_5 rfl
theorem d_95_6 : am_code 95 6 = some (.iload_n 2, 1) := by decide +kernel
theorem s_95_6 (cl : am_C) (a0 a1 : Option am_V) (x : Int) (st : List am_V) (h : am_H) : am_go0 cl 95 6 [a0, a1, some (.inl x)] st h = am_go0 cl 95 7 [a0, a1, some (.inl x)] (.inl x :: st) h := am_r am_m95 d_95_6 rfl
theorem d_95_7 : am_code 95 7 = some (.invokevirtual 24, 3) := by decide +kernel
theorem s_95_7 (cl : am_C) (ls : am_Ls) (x0 : Int) (x1 : Int) (z0 : Nat) (N : Nat) (I : Nat → Int → Int) (L : Nat → Int → Int64) : am_go0 cl 95 7 ls [.inl x1, .inl x0, .inr (.inr (some 29)), .inr (.inr (some z0))] (am_GS N, am_GR, I, L) = am_bd (cl 88 [.inr (.inr (some 29)), .inl x0, .inl x1] (am_GS N, am_GR, I, L)) (fun v h2 => am_go0 cl 95 10 ls (v.toList ++ [.inr (.inr (some z0))]) h2) := am_rV am_m95 d_95_7 am_k6024 rfl am_m88 (gs_29 N) (by decide) (Nat.le_of_ble_eq_true rfl) rfl ls
theorem d_95_10 : am_code 95 10 = some (.iaload, 1) := by decide +kernel
theorem s_95_10 (cl : am_C) (ls : am_Ls) (i : Int) (k : Nat) (st : List am_V) (N : Nat) (I : Nat → Int → Int) (L : Nat → Int → Int64) : am_go0 cl 95 10 ls (.inl i :: .inr (.inr (some k)) :: st) (am_GS N, am_GR, I, L) = if am_inb (am_GS N) k 0 i = true then am_go0 cl 95 11 ls (.inl (I k i) :: st) (am_GS N, am_GR, I, L) else none := am_rA am_m95 d_95_10 (by decide) rfl k ls st i _ _ I L
theorem d_95_11 : am_code 95 11 = some (.ireturn, 1) := by decide +kernel
theorem s_95_11 (cl : am_C) (ls : am_Ls) (x : Int) (h : am_H) : am_go0 cl 95 11 ls [.inl x] h = some (some (.inl x), h) := am_rE am_m95 d_95_11 rfl
theorem e_95 (d : Nat) (t : Nat) (p0 : Int) (p1 : Int) (h : am_H) : am_call (d + 1) 95 [.inr (.inr (some t)), .inl p0, .inl p1] h = am_go0 (am_call d) 95 0 [some (.inr (.inr (some t))), some (.inl p0), some (.inl p1)] [] h := am_callE am_m95 (Nat.le_of_ble_eq_true rfl) rfl
